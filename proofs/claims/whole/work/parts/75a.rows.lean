/-! each instruction as a rewriting row -/
section UU
variable {d o n cl sl : Nat} {X : am_X} {sk : List Value} {st : am_S} {Q : am_Q} {sh : Nat → am_D} {F A : Nat → Nat → Int32} {L : Nat → Nat → Int64}
set_option maxRecDepth 100000 in
theorem of_8900 : am_of 8900 = some am_m8900 := rfl
theorem c8900 {z a0} {P : am_Q} : am_Ca X (d + 1) 8900 [.ref z, .ref a0] st P = am_g d X am_m8900 0 [.ref z, .ref a0, am_u, am_u, am_u, am_u, am_u, am_u, am_u] [] st P := am_cg of_8900 (by show 2 ≤ 9; decide)
theorem hd_8900 : am_hd am_m8900 = [] := rfl
set_option maxRecDepth 100000 in
theorem u8900_0 {v0 : Value} {v1 : Value} {v2 : Value} {v3 : Value} {v4 : Value} {v5 : Value} {v6 : Value} {v7 : Value} {v8 : Value} : am_g d X am_m8900 0 [v0, v1, v2, v3, v4, v5, v6, v7, v8] sk st Q = am_nw 6 3 [v0, v1, v2, v3, v4, v5, v6, v7, v8] sk st (fun pc lc sk st => am_g d X am_m8900 pc lc sk st Q) := am_gu.trans rfl
set_option maxRecDepth 100000 in
theorem u8900_3i {v0 : Value} {v1 : Value} {v2 : Value} {v3 : Value} {v4 : Value} {v5 : Value} {v6 : Value} {v7 : Value} {v8 : Value} {x : Int32} : am_g d X am_m8900 3 [v0, v1, v2, v3, v4, v5, v6, v7, v8] (.int x :: sk) st Q = am_g d X am_m8900 4 [v0, v1, v2, v3, v4, v5, v6, v7, v8] (.int x :: .int x :: sk) st Q := am_gu.trans rfl
set_option maxRecDepth 100000 in
theorem u8900_3r {v0 : Value} {v1 : Value} {v2 : Value} {v3 : Value} {v4 : Value} {v5 : Value} {v6 : Value} {v7 : Value} {v8 : Value} {x : Nat} : am_g d X am_m8900 3 [v0, v1, v2, v3, v4, v5, v6, v7, v8] (.ref x :: sk) st Q = am_g d X am_m8900 4 [v0, v1, v2, v3, v4, v5, v6, v7, v8] (.ref x :: .ref x :: sk) st Q := am_gu.trans rfl
set_option maxRecDepth 100000 in
theorem u8900_4 {v0 : Value} {v1 : Value} {v2 : Value} {v3 : Value} {v4 : Value} {v5 : Value} {v6 : Value} {v7 : Value} {v8 : Value} : am_g d X am_m8900 4 [v0, v1, v2, v3, v4, v5, v6, v7, v8] (.ref o :: sk) st Q = ((am_ob st o 6 ∧ sk.length ≤ 4) ∧ am_Ca X d 6001 [.ref o] st (am_af am_m8900 4 [v0, v1, v2, v3, v4, v5, v6, v7, v8] sk (fun pc lc sk st => am_g d X am_m8900 pc lc sk st Q) Q)) := am_gu.trans rfl
set_option maxRecDepth 100000 in
theorem u8900_7 {v0 : Value} {v1 : Value} {v2 : Value} {v3 : Value} {v4 : Value} {v5 : Value} {v6 : Value} {v7 : Value} {v8 : Value} {x : Nat} : am_g d X am_m8900 7 [v0, v1, v2, v3, v4, v5, v6, v7, v8] (.ref x :: sk) st Q = am_g d X am_m8900 8 [am_kc v0, .ref x, v2, v3, v4, v5, v6, v7, v8] sk st Q := am_gu.trans (congrArg (fun l => am_g d X am_m8900 8 (List.set l 1 (.ref x)) sk st Q) (kl_1 (l := [v1, v2, v3, v4, v5, v6, v7, v8])))
set_option maxRecDepth 100000 in
theorem u8900_8 {v0 : Value} {v1 : Value} {v2 : Value} {v3 : Value} {v4 : Value} {v5 : Value} {v6 : Value} {v7 : Value} {v8 : Value} : am_g d X am_m8900 8 [v0, v1, v2, v3, v4, v5, v6, v7, v8] sk st Q = am_nw 7 11 [v0, v1, v2, v3, v4, v5, v6, v7, v8] sk st (fun pc lc sk st => am_g d X am_m8900 pc lc sk st Q) := am_gu.trans rfl
set_option maxRecDepth 100000 in
theorem u8900_11i {v0 : Value} {v1 : Value} {v2 : Value} {v3 : Value} {v4 : Value} {v5 : Value} {v6 : Value} {v7 : Value} {v8 : Value} {x : Int32} : am_g d X am_m8900 11 [v0, v1, v2, v3, v4, v5, v6, v7, v8] (.int x :: sk) st Q = am_g d X am_m8900 12 [v0, v1, v2, v3, v4, v5, v6, v7, v8] (.int x :: .int x :: sk) st Q := am_gu.trans rfl
set_option maxRecDepth 100000 in
theorem u8900_11r {v0 : Value} {v1 : Value} {v2 : Value} {v3 : Value} {v4 : Value} {v5 : Value} {v6 : Value} {v7 : Value} {v8 : Value} {x : Nat} : am_g d X am_m8900 11 [v0, v1, v2, v3, v4, v5, v6, v7, v8] (.ref x :: sk) st Q = am_g d X am_m8900 12 [v0, v1, v2, v3, v4, v5, v6, v7, v8] (.ref x :: .ref x :: sk) st Q := am_gu.trans rfl
set_option maxRecDepth 100000 in
theorem u8900_12 {v0 : Value} {v1 : Value} {v2 : Value} {v3 : Value} {v4 : Value} {v5 : Value} {v6 : Value} {v7 : Value} {v8 : Value} : am_g d X am_m8900 12 [v0, v1, v2, v3, v4, v5, v6, v7, v8] (.ref o :: sk) st Q = ((am_ob st o 7 ∧ sk.length ≤ 4) ∧ am_Ca X d 7001 [.ref o] st (am_af am_m8900 12 [v0, v1, v2, v3, v4, v5, v6, v7, v8] sk (fun pc lc sk st => am_g d X am_m8900 pc lc sk st Q) Q)) := am_gu.trans rfl
set_option maxRecDepth 100000 in
theorem u8900_15 {v0 : Value} {v1 : Value} {v2 : Value} {v3 : Value} {v4 : Value} {v5 : Value} {v6 : Value} {v7 : Value} {v8 : Value} {x : Nat} : am_g d X am_m8900 15 [v0, v1, v2, v3, v4, v5, v6, v7, v8] (.ref x :: sk) st Q = am_g d X am_m8900 16 [v0, am_kc v1, .ref x, v3, v4, v5, v6, v7, v8] sk st Q := am_gu.trans (congrArg (fun l => am_g d X am_m8900 16 (List.set l 2 (.ref x)) sk st Q) (kl_2 (l := [v2, v3, v4, v5, v6, v7, v8])))
set_option maxRecDepth 100000 in
theorem u8900_16 {v0 : Value} {v1 : Value} {v2 : Value} {v3 : Value} {v4 : Value} {v5 : Value} {v6 : Value} {v7 : Value} {v8 : Value} : am_g d X am_m8900 16 [v0, v1, v2, v3, v4, v5, v6, v7, v8] sk st Q = am_g d X am_m8900 17 [v0, v1, v2, v3, v4, v5, v6, v7, v8] (.int (am_i 1) :: sk) st Q := am_gu.trans rfl
set_option maxRecDepth 100000 in
theorem u8900_17 {v0 : Value} {v1 : Value} {v2 : Value} {v3 : Value} {v4 : Value} {v5 : Value} {v6 : Value} {v7 : Value} {v8 : Value} : am_g d X am_m8900 17 [v0, v1, v2, v3, v4, v5, v6, v7, v8] sk st Q = am_na 2 none 19 [v0, v1, v2, v3, v4, v5, v6, v7, v8] sk st (fun pc lc sk st => am_g d X am_m8900 pc lc sk st Q) := am_gu.trans rfl
set_option maxRecDepth 100000 in
theorem u8900_19 {v0 : Value} {v1 : Value} {v2 : Value} {v3 : Value} {v4 : Value} {v5 : Value} {v6 : Value} {v7 : Value} {v8 : Value} {x : Nat} : am_g d X am_m8900 19 [v0, v1, v2, v3, v4, v5, v6, v7, v8] (.ref x :: sk) st Q = am_g d X am_m8900 20 [v0, v1, am_kc v2, .ref x, v4, v5, v6, v7, v8] sk st Q := am_gu.trans (congrArg (fun l => am_g d X am_m8900 20 (List.set l 3 (.ref x)) sk st Q) (kl_3 (l := [v3, v4, v5, v6, v7, v8])))
set_option maxRecDepth 100000 in
theorem u8900_20 {v0 : Value} {v1 : Value} {v2 : Value} {v3 : Value} {v4 : Value} {v5 : Value} {v6 : Value} {v7 : Value} {v8 : Value} : am_g d X am_m8900 20 [v0, v1, v2, v3, v4, v5, v6, v7, v8] sk st Q = (st.1 ≤ st.2.2.1 ∧ am_g d X am_m8900 21 [v0, v1, v2, v3, v4, v5, v6, v7, v8] (.int 0 :: sk) (st.1, st.2.1, st.2.2.1 + 1, st.2.2.2) Q) := am_gu.trans rfl
set_option maxRecDepth 100000 in
theorem u8900_21 {v0 : Value} {v1 : Value} {v2 : Value} {v3 : Value} {v4 : Value} {v5 : Value} {v6 : Value} {v7 : Value} {v8 : Value} {x : Int32} : am_g d X am_m8900 21 [v0, v1, v2, v3, v4, v5, v6, v7, v8] (.int x :: sk) st Q = am_g d X am_m8900 23 [v0, v1, v2, am_kc v3, .int x, v5, v6, v7, v8] sk st Q := am_gu.trans (congrArg (fun l => am_g d X am_m8900 23 (List.set l 4 (.int x)) sk st Q) (kl_4 (l := [v4, v5, v6, v7, v8])))
set_option maxRecDepth 100000 in
theorem u8900_23 {v0 : Value} {v1 : Value} {v2 : Value} {v3 : Value} {v5 : Value} {v6 : Value} {v7 : Value} {v8 : Value} {x : Int32} : am_g d X am_m8900 23 [v0, v1, v2, v3, .int x, v5, v6, v7, v8] sk st Q = am_g d X am_m8900 25 [v0, v1, v2, v3, .int x, v5, v6, v7, v8] (.int x :: sk) st Q := am_gu.trans rfl
set_option maxRecDepth 100000 in
theorem u8900_25 {v1 : Value} {v2 : Value} {v3 : Value} {v4 : Value} {v5 : Value} {v6 : Value} {v7 : Value} {v8 : Value} : am_g d X am_m8900 25 [.retAddr 0, v1, v2, v3, v4, v5, v6, v7, v8] sk st Q = am_g d X am_m8900 26 [.retAddr 0, v1, v2, v3, v4, v5, v6, v7, v8] (.retAddr 0 :: sk) st Q := am_gu.trans rfl
set_option maxRecDepth 100000 in
theorem u8900_26 {v0 : Value} {v1 : Value} {v2 : Value} {v3 : Value} {v4 : Value} {v5 : Value} {v6 : Value} {v7 : Value} {v8 : Value} : am_g d X am_m8900 26 [v0, v1, v2, v3, v4, v5, v6, v7, v8] sk st Q = am_al (X.1, X.2.1, d) am_m8900 27 [v0, v1, v2, v3, v4, v5, v6, v7, v8] sk st (fun pc lc sk st => am_g d X am_m8900 pc lc sk st Q) := am_gu.trans rfl
set_option maxRecDepth 100000 in
theorem u8900_27 {v0 : Value} {v1 : Value} {v2 : Value} {v3 : Value} {v4 : Value} {v5 : Value} {v6 : Value} {v7 : Value} {v8 : Value} : am_g d X am_m8900 27 [v0, v1, v2, v3, v4, v5, v6, v7, v8] sk st Q = am_g d X am_m8900 28 [v0, v1, v2, v3, v4, v5, v6, v7, v8] (.int (am_i 5) :: sk) st Q := am_gu.trans rfl
set_option maxRecDepth 100000 in
theorem u8900_28 {v0 : Value} {v1 : Value} {v2 : Value} {v3 : Value} {v4 : Value} {v5 : Value} {v6 : Value} {v7 : Value} {v8 : Value} {x : Int32} {y : Int32} : am_g d X am_m8900 28 [v0, v1, v2, v3, v4, v5, v6, v7, v8] (.int y :: .int x :: sk) st Q = am_g d X am_m8900 29 [v0, v1, v2, v3, v4, v5, v6, v7, v8] (.int (x - y) :: sk) st Q := am_gu.trans rfl
set_option maxRecDepth 100000 in
theorem u8900_29 {v0 : Value} {v1 : Value} {v2 : Value} {v3 : Value} {v4 : Value} {v5 : Value} {v6 : Value} {v7 : Value} {v8 : Value} {x : Int32} {y : Int32} : am_g d X am_m8900 29 [v0, v1, v2, v3, v4, v5, v6, v7, v8] (.int y :: .int x :: sk) st Q = (if decide (y < x) = true then am_g d X am_m8900 3004 [v0, v1, v2, v3, v4, v5, v6, v7, v8] sk st Q else am_g d X am_m8900 32 [v0, v1, v2, v3, v4, v5, v6, v7, v8] sk st Q) := am_gu.trans rfl
set_option maxRecDepth 100000 in
theorem u8900_32 {v1 : Value} {v2 : Value} {v3 : Value} {v4 : Value} {v5 : Value} {v6 : Value} {v7 : Value} {v8 : Value} : am_g d X am_m8900 32 [.retAddr 0, v1, v2, v3, v4, v5, v6, v7, v8] sk st Q = am_g d X am_m8900 33 [.retAddr 0, v1, v2, v3, v4, v5, v6, v7, v8] (.retAddr 0 :: sk) st Q := am_gu.trans rfl
set_option maxRecDepth 100000 in
theorem u8900_33 {v0 : Value} {v1 : Value} {v2 : Value} {v3 : Value} {v5 : Value} {v6 : Value} {v7 : Value} {v8 : Value} {x : Int32} : am_g d X am_m8900 33 [v0, v1, v2, v3, .int x, v5, v6, v7, v8] sk st Q = am_g d X am_m8900 35 [v0, v1, v2, v3, .int x, v5, v6, v7, v8] (.int x :: sk) st Q := am_gu.trans rfl
set_option maxRecDepth 100000 in
theorem u8900_35 {v0 : Value} {v1 : Value} {v2 : Value} {v3 : Value} {v4 : Value} {v5 : Value} {v6 : Value} {v7 : Value} {v8 : Value} : am_g d X am_m8900 35 [v0, v1, v2, v3, v4, v5, v6, v7, v8] sk st Q = am_xl (X.1, X.2.1, d) am_m8900 36 [v0, v1, v2, v3, v4, v5, v6, v7, v8] sk st (fun pc lc sk st => am_g d X am_m8900 pc lc sk st Q) := am_gu.trans rfl
set_option maxRecDepth 100000 in
theorem u8900_36 {v0 : Value} {v1 : Value} {v2 : Value} {v3 : Value} {v4 : Value} {v5 : Value} {v6 : Value} {v7 : Value} {v8 : Value} : am_g d X am_m8900 36 [v0, v1, v2, v3, v4, v5, v6, v7, v8] sk st Q = am_g d X am_m8900 38 [v0, v1, v2, v3, v4, v5, v6, v7, v8] (.int (am_i 63) :: sk) st Q := am_gu.trans rfl
set_option maxRecDepth 100000 in
theorem u8900_38 {v0 : Value} {v1 : Value} {v2 : Value} {v3 : Value} {v4 : Value} {v5 : Value} {v6 : Value} {v7 : Value} {v8 : Value} {x : Int32} {y : Int32} : am_g d X am_m8900 38 [v0, v1, v2, v3, v4, v5, v6, v7, v8] (.int y :: .int x :: sk) st Q = am_g d X am_m8900 39 [v0, v1, v2, v3, v4, v5, v6, v7, v8] (.int (x &&& y) :: sk) st Q := am_gu.trans rfl
set_option maxRecDepth 100000 in
theorem u8900_39 {v0 : Value} {v1 : Value} {v2 : Value} {v3 : Value} {v4 : Value} {v5 : Value} {v6 : Value} {v7 : Value} {v8 : Value} : am_g d X am_m8900 39 [v0, v1, v2, v3, v4, v5, v6, v7, v8] sk st Q = am_ts 2998 0 57 #[284, 340, 353, 366, 410, 490, 534, 590, 634, 678, 722, 778, 834, 890, 946, 1002, 1058, 1154, 1198, 1273, 1341, 1354, 1367, 1380, 1393, 1406, 1474, 1549, 1562, 1642, 1710, 1790, 1882, 1923, 1936, 1992, 2048, 2061, 2124, 2180, 2193, 2206, 2219, 2232, 2307, 2363, 2431, 2499, 2555, 2623, 2691, 2759, 2815, 2871, 2884, 2897, 2910, 2954] [v0, v1, v2, v3, v4, v5, v6, v7, v8] sk st (fun pc lc sk st => am_g d X am_m8900 pc lc sk st Q) := am_gu.trans rfl
set_option maxRecDepth 100000 in
theorem u8900_284 {v0 : Value} {v2 : Value} {v3 : Value} {v4 : Value} {v5 : Value} {v6 : Value} {v7 : Value} {v8 : Value} {x : Nat} : am_g d X am_m8900 284 [v0, .ref x, v2, v3, v4, v5, v6, v7, v8] sk st Q = am_g d X am_m8900 285 [v0, .ref x, v2, v3, v4, v5, v6, v7, v8] (.ref x :: sk) st Q := am_gu.trans rfl
set_option maxRecDepth 100000 in
theorem u8900_285 {v1 : Value} {v2 : Value} {v3 : Value} {v4 : Value} {v5 : Value} {v6 : Value} {v7 : Value} {v8 : Value} : am_g d X am_m8900 285 [.retAddr 0, v1, v2, v3, v4, v5, v6, v7, v8] sk st Q = am_g d X am_m8900 286 [.retAddr 0, v1, v2, v3, v4, v5, v6, v7, v8] (.retAddr 0 :: sk) st Q := am_gu.trans rfl
set_option maxRecDepth 100000 in
theorem u8900_286 {v0 : Value} {v1 : Value} {v2 : Value} {v3 : Value} {v5 : Value} {v6 : Value} {v7 : Value} {v8 : Value} {x : Int32} : am_g d X am_m8900 286 [v0, v1, v2, v3, .int x, v5, v6, v7, v8] sk st Q = am_g d X am_m8900 288 [v0, v1, v2, v3, .int x, v5, v6, v7, v8] (.int x :: sk) st Q := am_gu.trans rfl
set_option maxRecDepth 100000 in
theorem u8900_288 {v0 : Value} {v1 : Value} {v2 : Value} {v3 : Value} {v4 : Value} {v5 : Value} {v6 : Value} {v7 : Value} {v8 : Value} : am_g d X am_m8900 288 [v0, v1, v2, v3, v4, v5, v6, v7, v8] sk st Q = am_g d X am_m8900 289 [v0, v1, v2, v3, v4, v5, v6, v7, v8] (.int (am_i 1) :: sk) st Q := am_gu.trans rfl
set_option maxRecDepth 100000 in
theorem u8900_289 {v0 : Value} {v1 : Value} {v2 : Value} {v3 : Value} {v4 : Value} {v5 : Value} {v6 : Value} {v7 : Value} {v8 : Value} {x : Int32} {y : Int32} : am_g d X am_m8900 289 [v0, v1, v2, v3, v4, v5, v6, v7, v8] (.int y :: .int x :: sk) st Q = am_g d X am_m8900 290 [v0, v1, v2, v3, v4, v5, v6, v7, v8] (.int (x + y) :: sk) st Q := am_gu.trans rfl
set_option maxRecDepth 100000 in
theorem u8900_290 {v0 : Value} {v1 : Value} {v2 : Value} {v3 : Value} {v4 : Value} {v5 : Value} {v6 : Value} {v7 : Value} {v8 : Value} : am_g d X am_m8900 290 [v0, v1, v2, v3, v4, v5, v6, v7, v8] sk st Q = am_xl (X.1, X.2.1, d) am_m8900 291 [v0, v1, v2, v3, v4, v5, v6, v7, v8] sk st (fun pc lc sk st => am_g d X am_m8900 pc lc sk st Q) := am_gu.trans rfl
set_option maxRecDepth 100000 in
theorem u8900_291 {v0 : Value} {v1 : Value} {v2 : Value} {v4 : Value} {v5 : Value} {v6 : Value} {v7 : Value} {v8 : Value} {x : Nat} : am_g d X am_m8900 291 [v0, v1, v2, .ref x, v4, v5, v6, v7, v8] sk st Q = am_g d X am_m8900 292 [v0, v1, v2, .ref x, v4, v5, v6, v7, v8] (.ref x :: sk) st Q := am_gu.trans rfl
set_option maxRecDepth 100000 in
theorem u8900_292 {a0 : Value} {a1 : Value} {a2 : Value} {v0 : Value} {v1 : Value} {v2 : Value} {v3 : Value} {v4 : Value} {v5 : Value} {v6 : Value} {v7 : Value} {v8 : Value} : am_g d X am_m8900 292 [v0, v1, v2, v3, v4, v5, v6, v7, v8] (a2 :: a1 :: a0 :: sk) st Q = (sk.length ≤ 4 ∧ am_Ca X d 8001 [a0, a1, a2] st (am_af am_m8900 292 [v0, v1, v2, v3, v4, v5, v6, v7, v8] sk (fun pc lc sk st => am_g d X am_m8900 pc lc sk st Q) Q)) := am_gu.trans (propext ⟨fun h => ⟨h.1.2, h.2⟩, fun h => ⟨⟨Nat.le_add_left _ _, h.1⟩, h.2⟩⟩)
set_option maxRecDepth 100000 in
theorem u8900_295 {v0 : Value} {v1 : Value} {v2 : Value} {v3 : Value} {v4 : Value} {v5 : Value} {v6 : Value} {v7 : Value} {v8 : Value} {x : Int32} : am_g d X am_m8900 295 [v0, v1, v2, v3, v4, v5, v6, v7, v8] (.int x :: sk) st Q = am_g d X am_m8900 297 [v0, v1, v2, v3, am_kc v4, .int x, v6, v7, v8] sk st Q := am_gu.trans (congrArg (fun l => am_g d X am_m8900 297 (List.set l 5 (.int x)) sk st Q) (kl_5 (l := [v5, v6, v7, v8])))
set_option maxRecDepth 100000 in
theorem u8900_297 {v0 : Value} {v1 : Value} {v3 : Value} {v4 : Value} {v5 : Value} {v6 : Value} {v7 : Value} {v8 : Value} {x : Nat} : am_g d X am_m8900 297 [v0, v1, .ref x, v3, v4, v5, v6, v7, v8] sk st Q = am_g d X am_m8900 298 [v0, v1, .ref x, v3, v4, v5, v6, v7, v8] (.ref x :: sk) st Q := am_gu.trans rfl
set_option maxRecDepth 100000 in
theorem u8900_298 {v1 : Value} {v2 : Value} {v3 : Value} {v4 : Value} {v5 : Value} {v6 : Value} {v7 : Value} {v8 : Value} : am_g d X am_m8900 298 [.retAddr 0, v1, v2, v3, v4, v5, v6, v7, v8] sk st Q = am_g d X am_m8900 299 [.retAddr 0, v1, v2, v3, v4, v5, v6, v7, v8] (.retAddr 0 :: sk) st Q := am_gu.trans rfl
set_option maxRecDepth 100000 in
theorem u8900_299 {v0 : Value} {v1 : Value} {v2 : Value} {v3 : Value} {v5 : Value} {v6 : Value} {v7 : Value} {v8 : Value} {x : Int32} : am_g d X am_m8900 299 [v0, v1, v2, v3, .int x, v5, v6, v7, v8] sk st Q = am_g d X am_m8900 301 [v0, v1, v2, v3, .int x, v5, v6, v7, v8] (.int x :: sk) st Q := am_gu.trans rfl
set_option maxRecDepth 100000 in
theorem u8900_301 {v0 : Value} {v1 : Value} {v2 : Value} {v3 : Value} {v4 : Value} {v5 : Value} {v6 : Value} {v7 : Value} {v8 : Value} : am_g d X am_m8900 301 [v0, v1, v2, v3, v4, v5, v6, v7, v8] sk st Q = am_g d X am_m8900 302 [v0, v1, v2, v3, v4, v5, v6, v7, v8] (.int (am_i 1) :: sk) st Q := am_gu.trans rfl
set_option maxRecDepth 100000 in
theorem u8900_302 {v0 : Value} {v1 : Value} {v2 : Value} {v3 : Value} {v4 : Value} {v5 : Value} {v6 : Value} {v7 : Value} {v8 : Value} {x : Int32} {y : Int32} : am_g d X am_m8900 302 [v0, v1, v2, v3, v4, v5, v6, v7, v8] (.int y :: .int x :: sk) st Q = am_g d X am_m8900 303 [v0, v1, v2, v3, v4, v5, v6, v7, v8] (.int (x + y) :: sk) st Q := am_gu.trans rfl
set_option maxRecDepth 100000 in
theorem u8900_303 {v0 : Value} {v1 : Value} {v2 : Value} {v3 : Value} {v4 : Value} {v5 : Value} {v6 : Value} {v7 : Value} {v8 : Value} : am_g d X am_m8900 303 [v0, v1, v2, v3, v4, v5, v6, v7, v8] sk st Q = am_xl (X.1, X.2.1, d) am_m8900 304 [v0, v1, v2, v3, v4, v5, v6, v7, v8] sk st (fun pc lc sk st => am_g d X am_m8900 pc lc sk st Q) := am_gu.trans rfl
set_option maxRecDepth 100000 in
theorem u8900_304 {a0 : Value} {v0 : Value} {v1 : Value} {v2 : Value} {v3 : Value} {v4 : Value} {v5 : Value} {v6 : Value} {v7 : Value} {v8 : Value} : am_g d X am_m8900 304 [v0, v1, v2, v3, v4, v5, v6, v7, v8] (a0 :: .ref o :: sk) st Q = ((am_ob st o 7 ∧ sk.length ≤ 4) ∧ am_Ca X d 7070 [.ref o, a0] st (am_af am_m8900 304 [v0, v1, v2, v3, v4, v5, v6, v7, v8] sk (fun pc lc sk st => am_g d X am_m8900 pc lc sk st Q) Q)) := am_gu.trans rfl
set_option maxRecDepth 100000 in
theorem u8900_307 {v0 : Value} {v1 : Value} {v2 : Value} {v3 : Value} {v4 : Value} {v5 : Value} {v6 : Value} {v7 : Value} {v8 : Value} {x : Int32} : am_g d X am_m8900 307 [v0, v1, v2, v3, v4, v5, v6, v7, v8] (.int x :: sk) st Q = am_g d X am_m8900 309 [v0, v1, v2, v3, v4, am_kc v5, .int x, v7, v8] sk st Q := am_gu.trans (congrArg (fun l => am_g d X am_m8900 309 (List.set l 6 (.int x)) sk st Q) (kl_6 (l := [v6, v7, v8])))
set_option maxRecDepth 100000 in
theorem u8900_309 {v0 : Value} {v1 : Value} {v3 : Value} {v4 : Value} {v5 : Value} {v6 : Value} {v7 : Value} {v8 : Value} {x : Nat} : am_g d X am_m8900 309 [v0, v1, .ref x, v3, v4, v5, v6, v7, v8] sk st Q = am_g d X am_m8900 310 [v0, v1, .ref x, v3, v4, v5, v6, v7, v8] (.ref x :: sk) st Q := am_gu.trans rfl
set_option maxRecDepth 100000 in
theorem u8900_310 {v0 : Value} {v1 : Value} {v2 : Value} {v3 : Value} {v4 : Value} {v5 : Value} {v6 : Value} {v7 : Value} {v8 : Value} : am_g d X am_m8900 310 [v0, v1, v2, v3, v4, v5, v6, v7, v8] (.ref o :: sk) st Q = ((am_ob st o 7 ∧ sk.length ≤ 4) ∧ am_Ca X d 7002 [.ref o] st (am_af am_m8900 310 [v0, v1, v2, v3, v4, v5, v6, v7, v8] sk (fun pc lc sk st => am_g d X am_m8900 pc lc sk st Q) Q)) := am_gu.trans rfl
set_option maxRecDepth 100000 in
theorem u8900_313 {v0 : Value} {v1 : Value} {v2 : Value} {v3 : Value} {v4 : Value} {v6 : Value} {v7 : Value} {v8 : Value} {x : Int32} : am_g d X am_m8900 313 [v0, v1, v2, v3, v4, .int x, v6, v7, v8] sk st Q = am_g d X am_m8900 315 [v0, v1, v2, v3, v4, .int x, v6, v7, v8] (.int x :: sk) st Q := am_gu.trans rfl
set_option maxRecDepth 100000 in
theorem u8900_315 {v0 : Value} {v1 : Value} {v2 : Value} {v3 : Value} {v4 : Value} {v5 : Value} {v6 : Value} {v7 : Value} {v8 : Value} {x : Int32} {y : Int32} : am_g d X am_m8900 315 [v0, v1, v2, v3, v4, v5, v6, v7, v8] (.int y :: .int x :: sk) st Q = (if decide (x = y) = true then am_g d X am_m8900 320 [v0, v1, v2, v3, v4, v5, v6, v7, v8] sk st Q else am_g d X am_m8900 318 [v0, v1, v2, v3, v4, v5, v6, v7, v8] sk st Q) := am_gu.trans rfl
set_option maxRecDepth 100000 in
theorem u8900_318 {v0 : Value} {v1 : Value} {v2 : Value} {v3 : Value} {v4 : Value} {v5 : Value} {v6 : Value} {v7 : Value} {v8 : Value} : am_g d X am_m8900 318 [v0, v1, v2, v3, v4, v5, v6, v7, v8] sk st Q = am_g d X am_m8900 319 [v0, v1, v2, v3, v4, v5, v6, v7, v8] (.int (am_i 0) :: sk) st Q := am_gu.trans rfl
set_option maxRecDepth 100000 in
theorem u8900_319 {v0 : Value} {v1 : Value} {v2 : Value} {v3 : Value} {v4 : Value} {v5 : Value} {v6 : Value} {v7 : Value} {v8 : Value} {x : Int32} : am_g d X am_m8900 319 [v0, v1, v2, v3, v4, v5, v6, v7, v8] [.int x] st Q = ((x = 0 ∨ x = 1) ∧ Q (.inl (some (.int x))) st) := am_gu.trans rfl
set_option maxRecDepth 100000 in
theorem u8900_320 {v0 : Value} {v1 : Value} {v2 : Value} {v3 : Value} {v4 : Value} {v6 : Value} {v7 : Value} {v8 : Value} {x : Int32} : am_g d X am_m8900 320 [v0, v1, v2, v3, v4, .int x, v6, v7, v8] sk st Q = am_g d X am_m8900 322 [v0, v1, v2, v3, v4, .int x, v6, v7, v8] (.int x :: sk) st Q := am_gu.trans rfl
set_option maxRecDepth 100000 in
theorem u8900_322 {v0 : Value} {v1 : Value} {v2 : Value} {v3 : Value} {v4 : Value} {v5 : Value} {v6 : Value} {v7 : Value} {v8 : Value} {x : Int32} : am_g d X am_m8900 322 [v0, v1, v2, v3, v4, v5, v6, v7, v8] (.int x :: sk) st Q = (if decide (¬ x = 0) = true then am_g d X am_m8900 337 [v0, v1, v2, v3, v4, v5, v6, v7, v8] sk st Q else am_g d X am_m8900 325 [v0, v1, v2, v3, v4, v5, v6, v7, v8] sk st Q) := am_gu.trans rfl
set_option maxRecDepth 100000 in
theorem u8900_325 {v0 : Value} {v1 : Value} {v2 : Value} {v4 : Value} {v5 : Value} {v6 : Value} {v7 : Value} {v8 : Value} {x : Nat} : am_g d X am_m8900 325 [v0, v1, v2, .ref x, v4, v5, v6, v7, v8] sk st Q = am_g d X am_m8900 326 [v0, v1, v2, .ref x, v4, v5, v6, v7, v8] (.ref x :: sk) st Q := am_gu.trans rfl
set_option maxRecDepth 100000 in
theorem u8900_326 {v0 : Value} {v1 : Value} {v2 : Value} {v3 : Value} {v4 : Value} {v5 : Value} {v6 : Value} {v7 : Value} {v8 : Value} : am_g d X am_m8900 326 [v0, v1, v2, v3, v4, v5, v6, v7, v8] sk st Q = am_g d X am_m8900 327 [v0, v1, v2, v3, v4, v5, v6, v7, v8] (.int (am_i 0) :: sk) st Q := am_gu.trans rfl
set_option maxRecDepth 100000 in
theorem u8900_327 {v0 : Value} {v1 : Value} {v2 : Value} {v3 : Value} {v4 : Value} {v5 : Value} {v6 : Value} {v7 : Value} {v8 : Value} : am_g d X am_m8900 327 [v0, v1, v2, v3, v4, v5, v6, v7, v8] sk st Q = am_jl 328 [v0, v1, v2, v3, v4, v5, v6, v7, v8] sk st (fun pc lc sk st => am_g d X am_m8900 pc lc sk st Q) := am_gu.trans rfl
set_option maxRecDepth 100000 in
theorem u8900_328 {v0 : Value} {v1 : Value} {v2 : Value} {v3 : Value} {v4 : Value} {v5 : Value} {v7 : Value} {v8 : Value} {x : Int32} : am_g d X am_m8900 328 [v0, v1, v2, v3, v4, v5, .int x, v7, v8] sk st Q = am_g d X am_m8900 330 [v0, v1, v2, v3, v4, v5, .int x, v7, v8] (.int x :: sk) st Q := am_gu.trans rfl
set_option maxRecDepth 100000 in
theorem u8900_330 {v0 : Value} {v1 : Value} {v2 : Value} {v3 : Value} {v4 : Value} {v5 : Value} {v6 : Value} {v7 : Value} {v8 : Value} {x : Int32} : am_g d X am_m8900 330 [v0, v1, v2, v3, v4, v5, v6, v7, v8] (.int x :: sk) st Q = am_g d X am_m8900 331 [v0, v1, v2, v3, v4, v5, v6, v7, v8] (.long x.toInt64 :: sk) st Q := am_gu.trans rfl
set_option maxRecDepth 100000 in
theorem u8900_331 {v0 : Value} {v1 : Value} {v2 : Value} {v3 : Value} {v4 : Value} {v5 : Value} {v6 : Value} {v7 : Value} {v8 : Value} {x : Int64} {y : Int64} : am_g d X am_m8900 331 [v0, v1, v2, v3, v4, v5, v6, v7, v8] (.long y :: .long x :: sk) st Q = am_g d X am_m8900 332 [v0, v1, v2, v3, v4, v5, v6, v7, v8] (.int (lg_cmp x y) :: sk) st Q := am_gu.trans rfl
set_option maxRecDepth 100000 in
theorem u8900_332 {v0 : Value} {v1 : Value} {v2 : Value} {v3 : Value} {v4 : Value} {v5 : Value} {v6 : Value} {v7 : Value} {v8 : Value} {x : Int32} : am_g d X am_m8900 332 [v0, v1, v2, v3, v4, v5, v6, v7, v8] (.int x :: sk) st Q = (if decide (x = 0) = true then am_g d X am_m8900 337 [v0, v1, v2, v3, v4, v5, v6, v7, v8] sk st Q else am_g d X am_m8900 335 [v0, v1, v2, v3, v4, v5, v6, v7, v8] sk st Q) := am_gu.trans rfl
set_option maxRecDepth 100000 in
theorem u8900_335 {v0 : Value} {v1 : Value} {v2 : Value} {v3 : Value} {v4 : Value} {v5 : Value} {v6 : Value} {v7 : Value} {v8 : Value} : am_g d X am_m8900 335 [v0, v1, v2, v3, v4, v5, v6, v7, v8] sk st Q = am_g d X am_m8900 336 [v0, v1, v2, v3, v4, v5, v6, v7, v8] (.int (am_i 0) :: sk) st Q := am_gu.trans rfl
set_option maxRecDepth 100000 in
theorem u8900_336 {v0 : Value} {v1 : Value} {v2 : Value} {v3 : Value} {v4 : Value} {v5 : Value} {v6 : Value} {v7 : Value} {v8 : Value} {x : Int32} : am_g d X am_m8900 336 [v0, v1, v2, v3, v4, v5, v6, v7, v8] [.int x] st Q = ((x = 0 ∨ x = 1) ∧ Q (.inl (some (.int x))) st) := am_gu.trans rfl
set_option maxRecDepth 100000 in
theorem u8900_337 {v0 : Value} {v1 : Value} {v2 : Value} {v3 : Value} {v4 : Value} {v5 : Value} {v6 : Value} {v7 : Value} {v8 : Value} : am_g d X am_m8900 337 [v0, v1, v2, v3, v4, v5, v6, v7, v8] sk st Q = am_g d X am_m8900 2998 [v0, v1, v2, v3, v4, v5, v6, v7, v8] sk st Q := am_gu.trans rfl
set_option maxRecDepth 100000 in
theorem u8900_340 {v0 : Value} {v2 : Value} {v3 : Value} {v4 : Value} {v5 : Value} {v6 : Value} {v7 : Value} {v8 : Value} {x : Nat} : am_g d X am_m8900 340 [v0, .ref x, v2, v3, v4, v5, v6, v7, v8] sk st Q = am_g d X am_m8900 341 [v0, .ref x, v2, v3, v4, v5, v6, v7, v8] (.ref x :: sk) st Q := am_gu.trans rfl
set_option maxRecDepth 100000 in
theorem u8900_341 {v0 : Value} {v1 : Value} {v2 : Value} {v3 : Value} {v4 : Value} {v5 : Value} {v6 : Value} {v7 : Value} {v8 : Value} : am_g d X am_m8900 341 [v0, v1, v2, v3, v4, v5, v6, v7, v8] (.ref o :: sk) st Q = ((am_ob st o 6 ∧ sk.length ≤ 4) ∧ am_Ca X d 6003 [.ref o] st (am_af am_m8900 341 [v0, v1, v2, v3, v4, v5, v6, v7, v8] sk (fun pc lc sk st => am_g d X am_m8900 pc lc sk st Q) Q)) := am_gu.trans rfl
set_option maxRecDepth 100000 in
theorem u8900_344 {v0 : Value} {v1 : Value} {v3 : Value} {v4 : Value} {v5 : Value} {v6 : Value} {v7 : Value} {v8 : Value} {x : Nat} : am_g d X am_m8900 344 [v0, v1, .ref x, v3, v4, v5, v6, v7, v8] sk st Q = am_g d X am_m8900 345 [v0, v1, .ref x, v3, v4, v5, v6, v7, v8] (.ref x :: sk) st Q := am_gu.trans rfl
set_option maxRecDepth 100000 in
theorem u8900_345 {v0 : Value} {v1 : Value} {v2 : Value} {v3 : Value} {v4 : Value} {v5 : Value} {v6 : Value} {v7 : Value} {v8 : Value} : am_g d X am_m8900 345 [v0, v1, v2, v3, v4, v5, v6, v7, v8] (.ref o :: sk) st Q = ((am_ob st o 7 ∧ sk.length ≤ 4) ∧ am_Ca X d 7071 [.ref o] st (am_af am_m8900 345 [v0, v1, v2, v3, v4, v5, v6, v7, v8] sk (fun pc lc sk st => am_g d X am_m8900 pc lc sk st Q) Q)) := am_gu.trans rfl
set_option maxRecDepth 100000 in
theorem u8900_348 {v0 : Value} {v1 : Value} {v2 : Value} {v3 : Value} {v4 : Value} {v5 : Value} {v6 : Value} {v7 : Value} {v8 : Value} {x : Int32} {y : Int32} : am_g d X am_m8900 348 [v0, v1, v2, v3, v4, v5, v6, v7, v8] (.int y :: .int x :: sk) st Q = (if decide (x = y) = true then am_g d X am_m8900 2998 [v0, v1, v2, v3, v4, v5, v6, v7, v8] sk st Q else am_g d X am_m8900 351 [v0, v1, v2, v3, v4, v5, v6, v7, v8] sk st Q) := am_gu.trans rfl
set_option maxRecDepth 100000 in
theorem u8900_351 {v0 : Value} {v1 : Value} {v2 : Value} {v3 : Value} {v4 : Value} {v5 : Value} {v6 : Value} {v7 : Value} {v8 : Value} : am_g d X am_m8900 351 [v0, v1, v2, v3, v4, v5, v6, v7, v8] sk st Q = am_g d X am_m8900 352 [v0, v1, v2, v3, v4, v5, v6, v7, v8] (.int (am_i 0) :: sk) st Q := am_gu.trans rfl
set_option maxRecDepth 100000 in
theorem u8900_352 {v0 : Value} {v1 : Value} {v2 : Value} {v3 : Value} {v4 : Value} {v5 : Value} {v6 : Value} {v7 : Value} {v8 : Value} {x : Int32} : am_g d X am_m8900 352 [v0, v1, v2, v3, v4, v5, v6, v7, v8] [.int x] st Q = ((x = 0 ∨ x = 1) ∧ Q (.inl (some (.int x))) st) := am_gu.trans rfl
set_option maxRecDepth 100000 in
theorem u8900_353 {v0 : Value} {v2 : Value} {v3 : Value} {v4 : Value} {v5 : Value} {v6 : Value} {v7 : Value} {v8 : Value} {x : Nat} : am_g d X am_m8900 353 [v0, .ref x, v2, v3, v4, v5, v6, v7, v8] sk st Q = am_g d X am_m8900 354 [v0, .ref x, v2, v3, v4, v5, v6, v7, v8] (.ref x :: sk) st Q := am_gu.trans rfl
set_option maxRecDepth 100000 in
theorem u8900_354 {v0 : Value} {v1 : Value} {v2 : Value} {v3 : Value} {v4 : Value} {v5 : Value} {v6 : Value} {v7 : Value} {v8 : Value} : am_g d X am_m8900 354 [v0, v1, v2, v3, v4, v5, v6, v7, v8] (.ref o :: sk) st Q = ((am_ob st o 6 ∧ sk.length ≤ 4) ∧ am_Ca X d 6004 [.ref o] st (am_af am_m8900 354 [v0, v1, v2, v3, v4, v5, v6, v7, v8] sk (fun pc lc sk st => am_g d X am_m8900 pc lc sk st Q) Q)) := am_gu.trans rfl
set_option maxRecDepth 100000 in
theorem u8900_357 {v0 : Value} {v1 : Value} {v3 : Value} {v4 : Value} {v5 : Value} {v6 : Value} {v7 : Value} {v8 : Value} {x : Nat} : am_g d X am_m8900 357 [v0, v1, .ref x, v3, v4, v5, v6, v7, v8] sk st Q = am_g d X am_m8900 358 [v0, v1, .ref x, v3, v4, v5, v6, v7, v8] (.ref x :: sk) st Q := am_gu.trans rfl
set_option maxRecDepth 100000 in
theorem u8900_358 {v0 : Value} {v1 : Value} {v2 : Value} {v3 : Value} {v4 : Value} {v5 : Value} {v6 : Value} {v7 : Value} {v8 : Value} : am_g d X am_m8900 358 [v0, v1, v2, v3, v4, v5, v6, v7, v8] (.ref o :: sk) st Q = ((am_ob st o 7 ∧ sk.length ≤ 4) ∧ am_Ca X d 7078 [.ref o] st (am_af am_m8900 358 [v0, v1, v2, v3, v4, v5, v6, v7, v8] sk (fun pc lc sk st => am_g d X am_m8900 pc lc sk st Q) Q)) := am_gu.trans rfl
set_option maxRecDepth 100000 in
theorem u8900_361 {v0 : Value} {v1 : Value} {v2 : Value} {v3 : Value} {v4 : Value} {v5 : Value} {v6 : Value} {v7 : Value} {v8 : Value} {x : Int32} {y : Int32} : am_g d X am_m8900 361 [v0, v1, v2, v3, v4, v5, v6, v7, v8] (.int y :: .int x :: sk) st Q = (if decide (x = y) = true then am_g d X am_m8900 2998 [v0, v1, v2, v3, v4, v5, v6, v7, v8] sk st Q else am_g d X am_m8900 364 [v0, v1, v2, v3, v4, v5, v6, v7, v8] sk st Q) := am_gu.trans rfl
set_option maxRecDepth 100000 in
theorem u8900_364 {v0 : Value} {v1 : Value} {v2 : Value} {v3 : Value} {v4 : Value} {v5 : Value} {v6 : Value} {v7 : Value} {v8 : Value} : am_g d X am_m8900 364 [v0, v1, v2, v3, v4, v5, v6, v7, v8] sk st Q = am_g d X am_m8900 365 [v0, v1, v2, v3, v4, v5, v6, v7, v8] (.int (am_i 0) :: sk) st Q := am_gu.trans rfl
set_option maxRecDepth 100000 in
theorem u8900_365 {v0 : Value} {v1 : Value} {v2 : Value} {v3 : Value} {v4 : Value} {v5 : Value} {v6 : Value} {v7 : Value} {v8 : Value} {x : Int32} : am_g d X am_m8900 365 [v0, v1, v2, v3, v4, v5, v6, v7, v8] [.int x] st Q = ((x = 0 ∨ x = 1) ∧ Q (.inl (some (.int x))) st) := am_gu.trans rfl
set_option maxRecDepth 100000 in
theorem u8900_366 {v0 : Value} {v2 : Value} {v3 : Value} {v4 : Value} {v5 : Value} {v6 : Value} {v7 : Value} {v8 : Value} {x : Nat} : am_g d X am_m8900 366 [v0, .ref x, v2, v3, v4, v5, v6, v7, v8] sk st Q = am_g d X am_m8900 367 [v0, .ref x, v2, v3, v4, v5, v6, v7, v8] (.ref x :: sk) st Q := am_gu.trans rfl
set_option maxRecDepth 100000 in
theorem u8900_367 {v0 : Value} {v1 : Value} {v2 : Value} {v4 : Value} {v5 : Value} {v6 : Value} {v7 : Value} {v8 : Value} {x : Nat} : am_g d X am_m8900 367 [v0, v1, v2, .ref x, v4, v5, v6, v7, v8] sk st Q = am_g d X am_m8900 368 [v0, v1, v2, .ref x, v4, v5, v6, v7, v8] (.ref x :: sk) st Q := am_gu.trans rfl
set_option maxRecDepth 100000 in
theorem u8900_368 {a0 : Value} {a1 : Value} {v0 : Value} {v1 : Value} {v2 : Value} {v3 : Value} {v4 : Value} {v5 : Value} {v6 : Value} {v7 : Value} {v8 : Value} : am_g d X am_m8900 368 [v0, v1, v2, v3, v4, v5, v6, v7, v8] (a1 :: a0 :: sk) st Q = (sk.length ≤ 4 ∧ am_Ca X d 8002 [a0, a1] st (am_af am_m8900 368 [v0, v1, v2, v3, v4, v5, v6, v7, v8] sk (fun pc lc sk st => am_g d X am_m8900 pc lc sk st Q) Q)) := am_gu.trans (propext ⟨fun h => ⟨h.1.2, h.2⟩, fun h => ⟨⟨Nat.le_add_left _ _, h.1⟩, h.2⟩⟩)
set_option maxRecDepth 100000 in
theorem u8900_371 {v0 : Value} {v1 : Value} {v2 : Value} {v3 : Value} {v4 : Value} {v5 : Value} {v6 : Value} {v7 : Value} {v8 : Value} {x : Int32} : am_g d X am_m8900 371 [v0, v1, v2, v3, v4, v5, v6, v7, v8] (.int x :: sk) st Q = am_g d X am_m8900 373 [v0, v1, v2, v3, am_kc v4, .int x, v6, v7, v8] sk st Q := am_gu.trans (congrArg (fun l => am_g d X am_m8900 373 (List.set l 5 (.int x)) sk st Q) (kl_5 (l := [v5, v6, v7, v8])))
set_option maxRecDepth 100000 in
theorem u8900_373 {v0 : Value} {v1 : Value} {v3 : Value} {v4 : Value} {v5 : Value} {v6 : Value} {v7 : Value} {v8 : Value} {x : Nat} : am_g d X am_m8900 373 [v0, v1, .ref x, v3, v4, v5, v6, v7, v8] sk st Q = am_g d X am_m8900 374 [v0, v1, .ref x, v3, v4, v5, v6, v7, v8] (.ref x :: sk) st Q := am_gu.trans rfl
set_option maxRecDepth 100000 in
theorem u8900_374 {v0 : Value} {v1 : Value} {v2 : Value} {v3 : Value} {v4 : Value} {v5 : Value} {v6 : Value} {v7 : Value} {v8 : Value} : am_g d X am_m8900 374 [v0, v1, v2, v3, v4, v5, v6, v7, v8] (.ref o :: sk) st Q = ((am_ob st o 7 ∧ sk.length ≤ 4) ∧ am_Ca X d 7080 [.ref o] st (am_af am_m8900 374 [v0, v1, v2, v3, v4, v5, v6, v7, v8] sk (fun pc lc sk st => am_g d X am_m8900 pc lc sk st Q) Q)) := am_gu.trans rfl
set_option maxRecDepth 100000 in
theorem u8900_377 {v0 : Value} {v1 : Value} {v2 : Value} {v3 : Value} {v4 : Value} {v5 : Value} {v6 : Value} {v7 : Value} {v8 : Value} {x : Int32} : am_g d X am_m8900 377 [v0, v1, v2, v3, v4, v5, v6, v7, v8] (.int x :: sk) st Q = am_g d X am_m8900 379 [v0, v1, v2, v3, v4, am_kc v5, .int x, v7, v8] sk st Q := am_gu.trans (congrArg (fun l => am_g d X am_m8900 379 (List.set l 6 (.int x)) sk st Q) (kl_6 (l := [v6, v7, v8])))
set_option maxRecDepth 100000 in
theorem u8900_379 {v0 : Value} {v1 : Value} {v3 : Value} {v4 : Value} {v5 : Value} {v6 : Value} {v7 : Value} {v8 : Value} {x : Nat} : am_g d X am_m8900 379 [v0, v1, .ref x, v3, v4, v5, v6, v7, v8] sk st Q = am_g d X am_m8900 380 [v0, v1, .ref x, v3, v4, v5, v6, v7, v8] (.ref x :: sk) st Q := am_gu.trans rfl
set_option maxRecDepth 100000 in
theorem u8900_380 {v0 : Value} {v1 : Value} {v2 : Value} {v3 : Value} {v4 : Value} {v5 : Value} {v6 : Value} {v7 : Value} {v8 : Value} : am_g d X am_m8900 380 [v0, v1, v2, v3, v4, v5, v6, v7, v8] (.ref o :: sk) st Q = ((am_ob st o 7 ∧ sk.length ≤ 4) ∧ am_Ca X d 7002 [.ref o] st (am_af am_m8900 380 [v0, v1, v2, v3, v4, v5, v6, v7, v8] sk (fun pc lc sk st => am_g d X am_m8900 pc lc sk st Q) Q)) := am_gu.trans rfl
set_option maxRecDepth 100000 in
theorem u8900_383 {v0 : Value} {v1 : Value} {v2 : Value} {v3 : Value} {v4 : Value} {v6 : Value} {v7 : Value} {v8 : Value} {x : Int32} : am_g d X am_m8900 383 [v0, v1, v2, v3, v4, .int x, v6, v7, v8] sk st Q = am_g d X am_m8900 385 [v0, v1, v2, v3, v4, .int x, v6, v7, v8] (.int x :: sk) st Q := am_gu.trans rfl
set_option maxRecDepth 100000 in
theorem u8900_385 {v0 : Value} {v1 : Value} {v2 : Value} {v3 : Value} {v4 : Value} {v5 : Value} {v6 : Value} {v7 : Value} {v8 : Value} {x : Int32} {y : Int32} : am_g d X am_m8900 385 [v0, v1, v2, v3, v4, v5, v6, v7, v8] (.int y :: .int x :: sk) st Q = (if decide (x = y) = true then am_g d X am_m8900 390 [v0, v1, v2, v3, v4, v5, v6, v7, v8] sk st Q else am_g d X am_m8900 388 [v0, v1, v2, v3, v4, v5, v6, v7, v8] sk st Q) := am_gu.trans rfl
set_option maxRecDepth 100000 in
theorem u8900_388 {v0 : Value} {v1 : Value} {v2 : Value} {v3 : Value} {v4 : Value} {v5 : Value} {v6 : Value} {v7 : Value} {v8 : Value} : am_g d X am_m8900 388 [v0, v1, v2, v3, v4, v5, v6, v7, v8] sk st Q = am_g d X am_m8900 389 [v0, v1, v2, v3, v4, v5, v6, v7, v8] (.int (am_i 0) :: sk) st Q := am_gu.trans rfl
set_option maxRecDepth 100000 in
theorem u8900_389 {v0 : Value} {v1 : Value} {v2 : Value} {v3 : Value} {v4 : Value} {v5 : Value} {v6 : Value} {v7 : Value} {v8 : Value} {x : Int32} : am_g d X am_m8900 389 [v0, v1, v2, v3, v4, v5, v6, v7, v8] [.int x] st Q = ((x = 0 ∨ x = 1) ∧ Q (.inl (some (.int x))) st) := am_gu.trans rfl
set_option maxRecDepth 100000 in
theorem u8900_390 {v0 : Value} {v1 : Value} {v2 : Value} {v3 : Value} {v4 : Value} {v6 : Value} {v7 : Value} {v8 : Value} {x : Int32} : am_g d X am_m8900 390 [v0, v1, v2, v3, v4, .int x, v6, v7, v8] sk st Q = am_g d X am_m8900 392 [v0, v1, v2, v3, v4, .int x, v6, v7, v8] (.int x :: sk) st Q := am_gu.trans rfl
set_option maxRecDepth 100000 in
theorem u8900_392 {v0 : Value} {v1 : Value} {v2 : Value} {v3 : Value} {v4 : Value} {v5 : Value} {v6 : Value} {v7 : Value} {v8 : Value} {x : Int32} : am_g d X am_m8900 392 [v0, v1, v2, v3, v4, v5, v6, v7, v8] (.int x :: sk) st Q = (if decide (¬ x = 0) = true then am_g d X am_m8900 407 [v0, v1, v2, v3, v4, v5, v6, v7, v8] sk st Q else am_g d X am_m8900 395 [v0, v1, v2, v3, v4, v5, v6, v7, v8] sk st Q) := am_gu.trans rfl
set_option maxRecDepth 100000 in
theorem u8900_395 {v0 : Value} {v1 : Value} {v2 : Value} {v4 : Value} {v5 : Value} {v6 : Value} {v7 : Value} {v8 : Value} {x : Nat} : am_g d X am_m8900 395 [v0, v1, v2, .ref x, v4, v5, v6, v7, v8] sk st Q = am_g d X am_m8900 396 [v0, v1, v2, .ref x, v4, v5, v6, v7, v8] (.ref x :: sk) st Q := am_gu.trans rfl
set_option maxRecDepth 100000 in
theorem u8900_396 {v0 : Value} {v1 : Value} {v2 : Value} {v3 : Value} {v4 : Value} {v5 : Value} {v6 : Value} {v7 : Value} {v8 : Value} : am_g d X am_m8900 396 [v0, v1, v2, v3, v4, v5, v6, v7, v8] sk st Q = am_g d X am_m8900 397 [v0, v1, v2, v3, v4, v5, v6, v7, v8] (.int (am_i 0) :: sk) st Q := am_gu.trans rfl
set_option maxRecDepth 100000 in
theorem u8900_397 {v0 : Value} {v1 : Value} {v2 : Value} {v3 : Value} {v4 : Value} {v5 : Value} {v6 : Value} {v7 : Value} {v8 : Value} : am_g d X am_m8900 397 [v0, v1, v2, v3, v4, v5, v6, v7, v8] sk st Q = am_jl 398 [v0, v1, v2, v3, v4, v5, v6, v7, v8] sk st (fun pc lc sk st => am_g d X am_m8900 pc lc sk st Q) := am_gu.trans rfl
set_option maxRecDepth 100000 in
theorem u8900_398 {v0 : Value} {v1 : Value} {v2 : Value} {v3 : Value} {v4 : Value} {v5 : Value} {v7 : Value} {v8 : Value} {x : Int32} : am_g d X am_m8900 398 [v0, v1, v2, v3, v4, v5, .int x, v7, v8] sk st Q = am_g d X am_m8900 400 [v0, v1, v2, v3, v4, v5, .int x, v7, v8] (.int x :: sk) st Q := am_gu.trans rfl
set_option maxRecDepth 100000 in
theorem u8900_400 {v0 : Value} {v1 : Value} {v2 : Value} {v3 : Value} {v4 : Value} {v5 : Value} {v6 : Value} {v7 : Value} {v8 : Value} {x : Int32} : am_g d X am_m8900 400 [v0, v1, v2, v3, v4, v5, v6, v7, v8] (.int x :: sk) st Q = am_g d X am_m8900 401 [v0, v1, v2, v3, v4, v5, v6, v7, v8] (.long x.toInt64 :: sk) st Q := am_gu.trans rfl
set_option maxRecDepth 100000 in
theorem u8900_401 {v0 : Value} {v1 : Value} {v2 : Value} {v3 : Value} {v4 : Value} {v5 : Value} {v6 : Value} {v7 : Value} {v8 : Value} {x : Int64} {y : Int64} : am_g d X am_m8900 401 [v0, v1, v2, v3, v4, v5, v6, v7, v8] (.long y :: .long x :: sk) st Q = am_g d X am_m8900 402 [v0, v1, v2, v3, v4, v5, v6, v7, v8] (.int (lg_cmp x y) :: sk) st Q := am_gu.trans rfl
set_option maxRecDepth 100000 in
theorem u8900_402 {v0 : Value} {v1 : Value} {v2 : Value} {v3 : Value} {v4 : Value} {v5 : Value} {v6 : Value} {v7 : Value} {v8 : Value} {x : Int32} : am_g d X am_m8900 402 [v0, v1, v2, v3, v4, v5, v6, v7, v8] (.int x :: sk) st Q = (if decide (x = 0) = true then am_g d X am_m8900 407 [v0, v1, v2, v3, v4, v5, v6, v7, v8] sk st Q else am_g d X am_m8900 405 [v0, v1, v2, v3, v4, v5, v6, v7, v8] sk st Q) := am_gu.trans rfl
set_option maxRecDepth 100000 in
theorem u8900_405 {v0 : Value} {v1 : Value} {v2 : Value} {v3 : Value} {v4 : Value} {v5 : Value} {v6 : Value} {v7 : Value} {v8 : Value} : am_g d X am_m8900 405 [v0, v1, v2, v3, v4, v5, v6, v7, v8] sk st Q = am_g d X am_m8900 406 [v0, v1, v2, v3, v4, v5, v6, v7, v8] (.int (am_i 0) :: sk) st Q := am_gu.trans rfl
set_option maxRecDepth 100000 in
theorem u8900_406 {v0 : Value} {v1 : Value} {v2 : Value} {v3 : Value} {v4 : Value} {v5 : Value} {v6 : Value} {v7 : Value} {v8 : Value} {x : Int32} : am_g d X am_m8900 406 [v0, v1, v2, v3, v4, v5, v6, v7, v8] [.int x] st Q = ((x = 0 ∨ x = 1) ∧ Q (.inl (some (.int x))) st) := am_gu.trans rfl
set_option maxRecDepth 100000 in
theorem u8900_407 {v0 : Value} {v1 : Value} {v2 : Value} {v3 : Value} {v4 : Value} {v5 : Value} {v6 : Value} {v7 : Value} {v8 : Value} : am_g d X am_m8900 407 [v0, v1, v2, v3, v4, v5, v6, v7, v8] sk st Q = am_g d X am_m8900 2998 [v0, v1, v2, v3, v4, v5, v6, v7, v8] sk st Q := am_gu.trans rfl
set_option maxRecDepth 100000 in
theorem u8900_410 {v0 : Value} {v2 : Value} {v3 : Value} {v4 : Value} {v5 : Value} {v6 : Value} {v7 : Value} {v8 : Value} {x : Nat} : am_g d X am_m8900 410 [v0, .ref x, v2, v3, v4, v5, v6, v7, v8] sk st Q = am_g d X am_m8900 411 [v0, .ref x, v2, v3, v4, v5, v6, v7, v8] (.ref x :: sk) st Q := am_gu.trans rfl
set_option maxRecDepth 100000 in
theorem u8900_411 {v1 : Value} {v2 : Value} {v3 : Value} {v4 : Value} {v5 : Value} {v6 : Value} {v7 : Value} {v8 : Value} : am_g d X am_m8900 411 [.retAddr 0, v1, v2, v3, v4, v5, v6, v7, v8] sk st Q = am_g d X am_m8900 412 [.retAddr 0, v1, v2, v3, v4, v5, v6, v7, v8] (.retAddr 0 :: sk) st Q := am_gu.trans rfl
set_option maxRecDepth 100000 in
theorem u8900_412 {v0 : Value} {v1 : Value} {v2 : Value} {v3 : Value} {v5 : Value} {v6 : Value} {v7 : Value} {v8 : Value} {x : Int32} : am_g d X am_m8900 412 [v0, v1, v2, v3, .int x, v5, v6, v7, v8] sk st Q = am_g d X am_m8900 414 [v0, v1, v2, v3, .int x, v5, v6, v7, v8] (.int x :: sk) st Q := am_gu.trans rfl
set_option maxRecDepth 100000 in
theorem u8900_414 {v0 : Value} {v1 : Value} {v2 : Value} {v3 : Value} {v4 : Value} {v5 : Value} {v6 : Value} {v7 : Value} {v8 : Value} : am_g d X am_m8900 414 [v0, v1, v2, v3, v4, v5, v6, v7, v8] sk st Q = am_g d X am_m8900 415 [v0, v1, v2, v3, v4, v5, v6, v7, v8] (.int (am_i 1) :: sk) st Q := am_gu.trans rfl
set_option maxRecDepth 100000 in
theorem u8900_415 {v0 : Value} {v1 : Value} {v2 : Value} {v3 : Value} {v4 : Value} {v5 : Value} {v6 : Value} {v7 : Value} {v8 : Value} {x : Int32} {y : Int32} : am_g d X am_m8900 415 [v0, v1, v2, v3, v4, v5, v6, v7, v8] (.int y :: .int x :: sk) st Q = am_g d X am_m8900 416 [v0, v1, v2, v3, v4, v5, v6, v7, v8] (.int (x + y) :: sk) st Q := am_gu.trans rfl
set_option maxRecDepth 100000 in
theorem u8900_416 {v0 : Value} {v1 : Value} {v2 : Value} {v3 : Value} {v4 : Value} {v5 : Value} {v6 : Value} {v7 : Value} {v8 : Value} : am_g d X am_m8900 416 [v0, v1, v2, v3, v4, v5, v6, v7, v8] sk st Q = am_xl (X.1, X.2.1, d) am_m8900 417 [v0, v1, v2, v3, v4, v5, v6, v7, v8] sk st (fun pc lc sk st => am_g d X am_m8900 pc lc sk st Q) := am_gu.trans rfl
set_option maxRecDepth 100000 in
theorem u8900_417 {v1 : Value} {v2 : Value} {v3 : Value} {v4 : Value} {v5 : Value} {v6 : Value} {v7 : Value} {v8 : Value} : am_g d X am_m8900 417 [.retAddr 0, v1, v2, v3, v4, v5, v6, v7, v8] sk st Q = am_g d X am_m8900 418 [.retAddr 0, v1, v2, v3, v4, v5, v6, v7, v8] (.retAddr 0 :: sk) st Q := am_gu.trans rfl
set_option maxRecDepth 100000 in
theorem u8900_418 {v0 : Value} {v1 : Value} {v2 : Value} {v3 : Value} {v5 : Value} {v6 : Value} {v7 : Value} {v8 : Value} {x : Int32} : am_g d X am_m8900 418 [v0, v1, v2, v3, .int x, v5, v6, v7, v8] sk st Q = am_g d X am_m8900 420 [v0, v1, v2, v3, .int x, v5, v6, v7, v8] (.int x :: sk) st Q := am_gu.trans rfl
set_option maxRecDepth 100000 in
theorem u8900_420 {v0 : Value} {v1 : Value} {v2 : Value} {v3 : Value} {v4 : Value} {v5 : Value} {v6 : Value} {v7 : Value} {v8 : Value} : am_g d X am_m8900 420 [v0, v1, v2, v3, v4, v5, v6, v7, v8] sk st Q = am_g d X am_m8900 421 [v0, v1, v2, v3, v4, v5, v6, v7, v8] (.int (am_i 2) :: sk) st Q := am_gu.trans rfl
set_option maxRecDepth 100000 in
theorem u8900_421 {v0 : Value} {v1 : Value} {v2 : Value} {v3 : Value} {v4 : Value} {v5 : Value} {v6 : Value} {v7 : Value} {v8 : Value} {x : Int32} {y : Int32} : am_g d X am_m8900 421 [v0, v1, v2, v3, v4, v5, v6, v7, v8] (.int y :: .int x :: sk) st Q = am_g d X am_m8900 422 [v0, v1, v2, v3, v4, v5, v6, v7, v8] (.int (x + y) :: sk) st Q := am_gu.trans rfl
set_option maxRecDepth 100000 in
theorem u8900_422 {v0 : Value} {v1 : Value} {v2 : Value} {v3 : Value} {v4 : Value} {v5 : Value} {v6 : Value} {v7 : Value} {v8 : Value} : am_g d X am_m8900 422 [v0, v1, v2, v3, v4, v5, v6, v7, v8] sk st Q = am_xl (X.1, X.2.1, d) am_m8900 423 [v0, v1, v2, v3, v4, v5, v6, v7, v8] sk st (fun pc lc sk st => am_g d X am_m8900 pc lc sk st Q) := am_gu.trans rfl
set_option maxRecDepth 100000 in
theorem u8900_423 {v1 : Value} {v2 : Value} {v3 : Value} {v4 : Value} {v5 : Value} {v6 : Value} {v7 : Value} {v8 : Value} : am_g d X am_m8900 423 [.retAddr 0, v1, v2, v3, v4, v5, v6, v7, v8] sk st Q = am_g d X am_m8900 424 [.retAddr 0, v1, v2, v3, v4, v5, v6, v7, v8] (.retAddr 0 :: sk) st Q := am_gu.trans rfl
set_option maxRecDepth 100000 in
theorem u8900_424 {v0 : Value} {v1 : Value} {v2 : Value} {v3 : Value} {v5 : Value} {v6 : Value} {v7 : Value} {v8 : Value} {x : Int32} : am_g d X am_m8900 424 [v0, v1, v2, v3, .int x, v5, v6, v7, v8] sk st Q = am_g d X am_m8900 426 [v0, v1, v2, v3, .int x, v5, v6, v7, v8] (.int x :: sk) st Q := am_gu.trans rfl
set_option maxRecDepth 100000 in
theorem u8900_426 {v0 : Value} {v1 : Value} {v2 : Value} {v3 : Value} {v4 : Value} {v5 : Value} {v6 : Value} {v7 : Value} {v8 : Value} : am_g d X am_m8900 426 [v0, v1, v2, v3, v4, v5, v6, v7, v8] sk st Q = am_g d X am_m8900 427 [v0, v1, v2, v3, v4, v5, v6, v7, v8] (.int (am_i 3) :: sk) st Q := am_gu.trans rfl
set_option maxRecDepth 100000 in
theorem u8900_427 {v0 : Value} {v1 : Value} {v2 : Value} {v3 : Value} {v4 : Value} {v5 : Value} {v6 : Value} {v7 : Value} {v8 : Value} {x : Int32} {y : Int32} : am_g d X am_m8900 427 [v0, v1, v2, v3, v4, v5, v6, v7, v8] (.int y :: .int x :: sk) st Q = am_g d X am_m8900 428 [v0, v1, v2, v3, v4, v5, v6, v7, v8] (.int (x + y) :: sk) st Q := am_gu.trans rfl
set_option maxRecDepth 100000 in
theorem u8900_428 {v0 : Value} {v1 : Value} {v2 : Value} {v3 : Value} {v4 : Value} {v5 : Value} {v6 : Value} {v7 : Value} {v8 : Value} : am_g d X am_m8900 428 [v0, v1, v2, v3, v4, v5, v6, v7, v8] sk st Q = am_xl (X.1, X.2.1, d) am_m8900 429 [v0, v1, v2, v3, v4, v5, v6, v7, v8] sk st (fun pc lc sk st => am_g d X am_m8900 pc lc sk st Q) := am_gu.trans rfl
set_option maxRecDepth 100000 in
theorem u8900_429 {v0 : Value} {v1 : Value} {v2 : Value} {v4 : Value} {v5 : Value} {v6 : Value} {v7 : Value} {v8 : Value} {x : Nat} : am_g d X am_m8900 429 [v0, v1, v2, .ref x, v4, v5, v6, v7, v8] sk st Q = am_g d X am_m8900 430 [v0, v1, v2, .ref x, v4, v5, v6, v7, v8] (.ref x :: sk) st Q := am_gu.trans rfl
set_option maxRecDepth 100000 in
theorem u8900_430 {a0 : Value} {a1 : Value} {a2 : Value} {a3 : Value} {a4 : Value} {v0 : Value} {v1 : Value} {v2 : Value} {v3 : Value} {v4 : Value} {v5 : Value} {v6 : Value} {v7 : Value} {v8 : Value} : am_g d X am_m8900 430 [v0, v1, v2, v3, v4, v5, v6, v7, v8] (a4 :: a3 :: a2 :: a1 :: a0 :: sk) st Q = (sk.length ≤ 4 ∧ am_Ca X d 8003 [a0, a1, a2, a3, a4] st (am_af am_m8900 430 [v0, v1, v2, v3, v4, v5, v6, v7, v8] sk (fun pc lc sk st => am_g d X am_m8900 pc lc sk st Q) Q)) := am_gu.trans (propext ⟨fun h => ⟨h.1.2, h.2⟩, fun h => ⟨⟨Nat.le_add_left _ _, h.1⟩, h.2⟩⟩)
set_option maxRecDepth 100000 in
theorem u8900_433 {v0 : Value} {v1 : Value} {v2 : Value} {v3 : Value} {v4 : Value} {v5 : Value} {v6 : Value} {v7 : Value} {v8 : Value} {x : Int32} : am_g d X am_m8900 433 [v0, v1, v2, v3, v4, v5, v6, v7, v8] (.int x :: sk) st Q = am_g d X am_m8900 435 [v0, v1, v2, v3, am_kc v4, .int x, v6, v7, v8] sk st Q := am_gu.trans (congrArg (fun l => am_g d X am_m8900 435 (List.set l 5 (.int x)) sk st Q) (kl_5 (l := [v5, v6, v7, v8])))
set_option maxRecDepth 100000 in
theorem u8900_435 {v0 : Value} {v1 : Value} {v3 : Value} {v4 : Value} {v5 : Value} {v6 : Value} {v7 : Value} {v8 : Value} {x : Nat} : am_g d X am_m8900 435 [v0, v1, .ref x, v3, v4, v5, v6, v7, v8] sk st Q = am_g d X am_m8900 436 [v0, v1, .ref x, v3, v4, v5, v6, v7, v8] (.ref x :: sk) st Q := am_gu.trans rfl
set_option maxRecDepth 100000 in
theorem u8900_436 {v1 : Value} {v2 : Value} {v3 : Value} {v4 : Value} {v5 : Value} {v6 : Value} {v7 : Value} {v8 : Value} : am_g d X am_m8900 436 [.retAddr 0, v1, v2, v3, v4, v5, v6, v7, v8] sk st Q = am_g d X am_m8900 437 [.retAddr 0, v1, v2, v3, v4, v5, v6, v7, v8] (.retAddr 0 :: sk) st Q := am_gu.trans rfl
set_option maxRecDepth 100000 in
theorem u8900_437 {v0 : Value} {v1 : Value} {v2 : Value} {v3 : Value} {v5 : Value} {v6 : Value} {v7 : Value} {v8 : Value} {x : Int32} : am_g d X am_m8900 437 [v0, v1, v2, v3, .int x, v5, v6, v7, v8] sk st Q = am_g d X am_m8900 439 [v0, v1, v2, v3, .int x, v5, v6, v7, v8] (.int x :: sk) st Q := am_gu.trans rfl
set_option maxRecDepth 100000 in
theorem u8900_439 {v0 : Value} {v1 : Value} {v2 : Value} {v3 : Value} {v4 : Value} {v5 : Value} {v6 : Value} {v7 : Value} {v8 : Value} : am_g d X am_m8900 439 [v0, v1, v2, v3, v4, v5, v6, v7, v8] sk st Q = am_g d X am_m8900 440 [v0, v1, v2, v3, v4, v5, v6, v7, v8] (.int (am_i 1) :: sk) st Q := am_gu.trans rfl
set_option maxRecDepth 100000 in
theorem u8900_440 {v0 : Value} {v1 : Value} {v2 : Value} {v3 : Value} {v4 : Value} {v5 : Value} {v6 : Value} {v7 : Value} {v8 : Value} {x : Int32} {y : Int32} : am_g d X am_m8900 440 [v0, v1, v2, v3, v4, v5, v6, v7, v8] (.int y :: .int x :: sk) st Q = am_g d X am_m8900 441 [v0, v1, v2, v3, v4, v5, v6, v7, v8] (.int (x + y) :: sk) st Q := am_gu.trans rfl
set_option maxRecDepth 100000 in
theorem u8900_441 {v0 : Value} {v1 : Value} {v2 : Value} {v3 : Value} {v4 : Value} {v5 : Value} {v6 : Value} {v7 : Value} {v8 : Value} : am_g d X am_m8900 441 [v0, v1, v2, v3, v4, v5, v6, v7, v8] sk st Q = am_xl (X.1, X.2.1, d) am_m8900 442 [v0, v1, v2, v3, v4, v5, v6, v7, v8] sk st (fun pc lc sk st => am_g d X am_m8900 pc lc sk st Q) := am_gu.trans rfl
set_option maxRecDepth 100000 in
theorem u8900_442 {v1 : Value} {v2 : Value} {v3 : Value} {v4 : Value} {v5 : Value} {v6 : Value} {v7 : Value} {v8 : Value} : am_g d X am_m8900 442 [.retAddr 0, v1, v2, v3, v4, v5, v6, v7, v8] sk st Q = am_g d X am_m8900 443 [.retAddr 0, v1, v2, v3, v4, v5, v6, v7, v8] (.retAddr 0 :: sk) st Q := am_gu.trans rfl
set_option maxRecDepth 100000 in
theorem u8900_443 {v0 : Value} {v1 : Value} {v2 : Value} {v3 : Value} {v5 : Value} {v6 : Value} {v7 : Value} {v8 : Value} {x : Int32} : am_g d X am_m8900 443 [v0, v1, v2, v3, .int x, v5, v6, v7, v8] sk st Q = am_g d X am_m8900 445 [v0, v1, v2, v3, .int x, v5, v6, v7, v8] (.int x :: sk) st Q := am_gu.trans rfl
set_option maxRecDepth 100000 in
theorem u8900_445 {v0 : Value} {v1 : Value} {v2 : Value} {v3 : Value} {v4 : Value} {v5 : Value} {v6 : Value} {v7 : Value} {v8 : Value} : am_g d X am_m8900 445 [v0, v1, v2, v3, v4, v5, v6, v7, v8] sk st Q = am_g d X am_m8900 446 [v0, v1, v2, v3, v4, v5, v6, v7, v8] (.int (am_i 2) :: sk) st Q := am_gu.trans rfl
set_option maxRecDepth 100000 in
theorem u8900_446 {v0 : Value} {v1 : Value} {v2 : Value} {v3 : Value} {v4 : Value} {v5 : Value} {v6 : Value} {v7 : Value} {v8 : Value} {x : Int32} {y : Int32} : am_g d X am_m8900 446 [v0, v1, v2, v3, v4, v5, v6, v7, v8] (.int y :: .int x :: sk) st Q = am_g d X am_m8900 447 [v0, v1, v2, v3, v4, v5, v6, v7, v8] (.int (x + y) :: sk) st Q := am_gu.trans rfl
set_option maxRecDepth 100000 in
theorem u8900_447 {v0 : Value} {v1 : Value} {v2 : Value} {v3 : Value} {v4 : Value} {v5 : Value} {v6 : Value} {v7 : Value} {v8 : Value} : am_g d X am_m8900 447 [v0, v1, v2, v3, v4, v5, v6, v7, v8] sk st Q = am_xl (X.1, X.2.1, d) am_m8900 448 [v0, v1, v2, v3, v4, v5, v6, v7, v8] sk st (fun pc lc sk st => am_g d X am_m8900 pc lc sk st Q) := am_gu.trans rfl
set_option maxRecDepth 100000 in
theorem u8900_448 {v1 : Value} {v2 : Value} {v3 : Value} {v4 : Value} {v5 : Value} {v6 : Value} {v7 : Value} {v8 : Value} : am_g d X am_m8900 448 [.retAddr 0, v1, v2, v3, v4, v5, v6, v7, v8] sk st Q = am_g d X am_m8900 449 [.retAddr 0, v1, v2, v3, v4, v5, v6, v7, v8] (.retAddr 0 :: sk) st Q := am_gu.trans rfl
set_option maxRecDepth 100000 in
theorem u8900_449 {v0 : Value} {v1 : Value} {v2 : Value} {v3 : Value} {v5 : Value} {v6 : Value} {v7 : Value} {v8 : Value} {x : Int32} : am_g d X am_m8900 449 [v0, v1, v2, v3, .int x, v5, v6, v7, v8] sk st Q = am_g d X am_m8900 451 [v0, v1, v2, v3, .int x, v5, v6, v7, v8] (.int x :: sk) st Q := am_gu.trans rfl
set_option maxRecDepth 100000 in
theorem u8900_451 {v0 : Value} {v1 : Value} {v2 : Value} {v3 : Value} {v4 : Value} {v5 : Value} {v6 : Value} {v7 : Value} {v8 : Value} : am_g d X am_m8900 451 [v0, v1, v2, v3, v4, v5, v6, v7, v8] sk st Q = am_g d X am_m8900 452 [v0, v1, v2, v3, v4, v5, v6, v7, v8] (.int (am_i 3) :: sk) st Q := am_gu.trans rfl
set_option maxRecDepth 100000 in
theorem u8900_452 {v0 : Value} {v1 : Value} {v2 : Value} {v3 : Value} {v4 : Value} {v5 : Value} {v6 : Value} {v7 : Value} {v8 : Value} {x : Int32} {y : Int32} : am_g d X am_m8900 452 [v0, v1, v2, v3, v4, v5, v6, v7, v8] (.int y :: .int x :: sk) st Q = am_g d X am_m8900 453 [v0, v1, v2, v3, v4, v5, v6, v7, v8] (.int (x + y) :: sk) st Q := am_gu.trans rfl
set_option maxRecDepth 100000 in
theorem u8900_453 {v0 : Value} {v1 : Value} {v2 : Value} {v3 : Value} {v4 : Value} {v5 : Value} {v6 : Value} {v7 : Value} {v8 : Value} : am_g d X am_m8900 453 [v0, v1, v2, v3, v4, v5, v6, v7, v8] sk st Q = am_xl (X.1, X.2.1, d) am_m8900 454 [v0, v1, v2, v3, v4, v5, v6, v7, v8] sk st (fun pc lc sk st => am_g d X am_m8900 pc lc sk st Q) := am_gu.trans rfl
set_option maxRecDepth 100000 in
theorem u8900_454 {a0 : Value} {a1 : Value} {a2 : Value} {v0 : Value} {v1 : Value} {v2 : Value} {v3 : Value} {v4 : Value} {v5 : Value} {v6 : Value} {v7 : Value} {v8 : Value} : am_g d X am_m8900 454 [v0, v1, v2, v3, v4, v5, v6, v7, v8] (a2 :: a1 :: a0 :: .ref o :: sk) st Q = ((am_ob st o 7 ∧ sk.length ≤ 4) ∧ am_Ca X d 7053 [.ref o, a0, a1, a2] st (am_af am_m8900 454 [v0, v1, v2, v3, v4, v5, v6, v7, v8] sk (fun pc lc sk st => am_g d X am_m8900 pc lc sk st Q) Q)) := am_gu.trans rfl
set_option maxRecDepth 100000 in
theorem u8900_457 {v0 : Value} {v1 : Value} {v2 : Value} {v3 : Value} {v4 : Value} {v5 : Value} {v6 : Value} {v7 : Value} {v8 : Value} {x : Int32} : am_g d X am_m8900 457 [v0, v1, v2, v3, v4, v5, v6, v7, v8] (.int x :: sk) st Q = am_g d X am_m8900 459 [v0, v1, v2, v3, v4, am_kc v5, .int x, v7, v8] sk st Q := am_gu.trans (congrArg (fun l => am_g d X am_m8900 459 (List.set l 6 (.int x)) sk st Q) (kl_6 (l := [v6, v7, v8])))
set_option maxRecDepth 100000 in
theorem u8900_459 {v0 : Value} {v1 : Value} {v3 : Value} {v4 : Value} {v5 : Value} {v6 : Value} {v7 : Value} {v8 : Value} {x : Nat} : am_g d X am_m8900 459 [v0, v1, .ref x, v3, v4, v5, v6, v7, v8] sk st Q = am_g d X am_m8900 460 [v0, v1, .ref x, v3, v4, v5, v6, v7, v8] (.ref x :: sk) st Q := am_gu.trans rfl
set_option maxRecDepth 100000 in
theorem u8900_460 {v0 : Value} {v1 : Value} {v2 : Value} {v3 : Value} {v4 : Value} {v5 : Value} {v6 : Value} {v7 : Value} {v8 : Value} : am_g d X am_m8900 460 [v0, v1, v2, v3, v4, v5, v6, v7, v8] (.ref o :: sk) st Q = ((am_ob st o 7 ∧ sk.length ≤ 4) ∧ am_Ca X d 7002 [.ref o] st (am_af am_m8900 460 [v0, v1, v2, v3, v4, v5, v6, v7, v8] sk (fun pc lc sk st => am_g d X am_m8900 pc lc sk st Q) Q)) := am_gu.trans rfl
set_option maxRecDepth 100000 in
theorem u8900_463 {v0 : Value} {v1 : Value} {v2 : Value} {v3 : Value} {v4 : Value} {v6 : Value} {v7 : Value} {v8 : Value} {x : Int32} : am_g d X am_m8900 463 [v0, v1, v2, v3, v4, .int x, v6, v7, v8] sk st Q = am_g d X am_m8900 465 [v0, v1, v2, v3, v4, .int x, v6, v7, v8] (.int x :: sk) st Q := am_gu.trans rfl
set_option maxRecDepth 100000 in
theorem u8900_465 {v0 : Value} {v1 : Value} {v2 : Value} {v3 : Value} {v4 : Value} {v5 : Value} {v6 : Value} {v7 : Value} {v8 : Value} {x : Int32} {y : Int32} : am_g d X am_m8900 465 [v0, v1, v2, v3, v4, v5, v6, v7, v8] (.int y :: .int x :: sk) st Q = (if decide (x = y) = true then am_g d X am_m8900 470 [v0, v1, v2, v3, v4, v5, v6, v7, v8] sk st Q else am_g d X am_m8900 468 [v0, v1, v2, v3, v4, v5, v6, v7, v8] sk st Q) := am_gu.trans rfl
set_option maxRecDepth 100000 in
theorem u8900_468 {v0 : Value} {v1 : Value} {v2 : Value} {v3 : Value} {v4 : Value} {v5 : Value} {v6 : Value} {v7 : Value} {v8 : Value} : am_g d X am_m8900 468 [v0, v1, v2, v3, v4, v5, v6, v7, v8] sk st Q = am_g d X am_m8900 469 [v0, v1, v2, v3, v4, v5, v6, v7, v8] (.int (am_i 0) :: sk) st Q := am_gu.trans rfl
set_option maxRecDepth 100000 in
theorem u8900_469 {v0 : Value} {v1 : Value} {v2 : Value} {v3 : Value} {v4 : Value} {v5 : Value} {v6 : Value} {v7 : Value} {v8 : Value} {x : Int32} : am_g d X am_m8900 469 [v0, v1, v2, v3, v4, v5, v6, v7, v8] [.int x] st Q = ((x = 0 ∨ x = 1) ∧ Q (.inl (some (.int x))) st) := am_gu.trans rfl
set_option maxRecDepth 100000 in
theorem u8900_470 {v0 : Value} {v1 : Value} {v2 : Value} {v3 : Value} {v4 : Value} {v6 : Value} {v7 : Value} {v8 : Value} {x : Int32} : am_g d X am_m8900 470 [v0, v1, v2, v3, v4, .int x, v6, v7, v8] sk st Q = am_g d X am_m8900 472 [v0, v1, v2, v3, v4, .int x, v6, v7, v8] (.int x :: sk) st Q := am_gu.trans rfl
set_option maxRecDepth 100000 in
theorem u8900_472 {v0 : Value} {v1 : Value} {v2 : Value} {v3 : Value} {v4 : Value} {v5 : Value} {v6 : Value} {v7 : Value} {v8 : Value} {x : Int32} : am_g d X am_m8900 472 [v0, v1, v2, v3, v4, v5, v6, v7, v8] (.int x :: sk) st Q = (if decide (¬ x = 0) = true then am_g d X am_m8900 487 [v0, v1, v2, v3, v4, v5, v6, v7, v8] sk st Q else am_g d X am_m8900 475 [v0, v1, v2, v3, v4, v5, v6, v7, v8] sk st Q) := am_gu.trans rfl
set_option maxRecDepth 100000 in
theorem u8900_475 {v0 : Value} {v1 : Value} {v2 : Value} {v4 : Value} {v5 : Value} {v6 : Value} {v7 : Value} {v8 : Value} {x : Nat} : am_g d X am_m8900 475 [v0, v1, v2, .ref x, v4, v5, v6, v7, v8] sk st Q = am_g d X am_m8900 476 [v0, v1, v2, .ref x, v4, v5, v6, v7, v8] (.ref x :: sk) st Q := am_gu.trans rfl
set_option maxRecDepth 100000 in
theorem u8900_476 {v0 : Value} {v1 : Value} {v2 : Value} {v3 : Value} {v4 : Value} {v5 : Value} {v6 : Value} {v7 : Value} {v8 : Value} : am_g d X am_m8900 476 [v0, v1, v2, v3, v4, v5, v6, v7, v8] sk st Q = am_g d X am_m8900 477 [v0, v1, v2, v3, v4, v5, v6, v7, v8] (.int (am_i 0) :: sk) st Q := am_gu.trans rfl
set_option maxRecDepth 100000 in
theorem u8900_477 {v0 : Value} {v1 : Value} {v2 : Value} {v3 : Value} {v4 : Value} {v5 : Value} {v6 : Value} {v7 : Value} {v8 : Value} : am_g d X am_m8900 477 [v0, v1, v2, v3, v4, v5, v6, v7, v8] sk st Q = am_jl 478 [v0, v1, v2, v3, v4, v5, v6, v7, v8] sk st (fun pc lc sk st => am_g d X am_m8900 pc lc sk st Q) := am_gu.trans rfl
set_option maxRecDepth 100000 in
theorem u8900_478 {v0 : Value} {v1 : Value} {v2 : Value} {v3 : Value} {v4 : Value} {v5 : Value} {v7 : Value} {v8 : Value} {x : Int32} : am_g d X am_m8900 478 [v0, v1, v2, v3, v4, v5, .int x, v7, v8] sk st Q = am_g d X am_m8900 480 [v0, v1, v2, v3, v4, v5, .int x, v7, v8] (.int x :: sk) st Q := am_gu.trans rfl
set_option maxRecDepth 100000 in
theorem u8900_480 {v0 : Value} {v1 : Value} {v2 : Value} {v3 : Value} {v4 : Value} {v5 : Value} {v6 : Value} {v7 : Value} {v8 : Value} {x : Int32} : am_g d X am_m8900 480 [v0, v1, v2, v3, v4, v5, v6, v7, v8] (.int x :: sk) st Q = am_g d X am_m8900 481 [v0, v1, v2, v3, v4, v5, v6, v7, v8] (.long x.toInt64 :: sk) st Q := am_gu.trans rfl
set_option maxRecDepth 100000 in
theorem u8900_481 {v0 : Value} {v1 : Value} {v2 : Value} {v3 : Value} {v4 : Value} {v5 : Value} {v6 : Value} {v7 : Value} {v8 : Value} {x : Int64} {y : Int64} : am_g d X am_m8900 481 [v0, v1, v2, v3, v4, v5, v6, v7, v8] (.long y :: .long x :: sk) st Q = am_g d X am_m8900 482 [v0, v1, v2, v3, v4, v5, v6, v7, v8] (.int (lg_cmp x y) :: sk) st Q := am_gu.trans rfl
set_option maxRecDepth 100000 in
theorem u8900_482 {v0 : Value} {v1 : Value} {v2 : Value} {v3 : Value} {v4 : Value} {v5 : Value} {v6 : Value} {v7 : Value} {v8 : Value} {x : Int32} : am_g d X am_m8900 482 [v0, v1, v2, v3, v4, v5, v6, v7, v8] (.int x :: sk) st Q = (if decide (x = 0) = true then am_g d X am_m8900 487 [v0, v1, v2, v3, v4, v5, v6, v7, v8] sk st Q else am_g d X am_m8900 485 [v0, v1, v2, v3, v4, v5, v6, v7, v8] sk st Q) := am_gu.trans rfl
set_option maxRecDepth 100000 in
theorem u8900_485 {v0 : Value} {v1 : Value} {v2 : Value} {v3 : Value} {v4 : Value} {v5 : Value} {v6 : Value} {v7 : Value} {v8 : Value} : am_g d X am_m8900 485 [v0, v1, v2, v3, v4, v5, v6, v7, v8] sk st Q = am_g d X am_m8900 486 [v0, v1, v2, v3, v4, v5, v6, v7, v8] (.int (am_i 0) :: sk) st Q := am_gu.trans rfl
set_option maxRecDepth 100000 in
theorem u8900_486 {v0 : Value} {v1 : Value} {v2 : Value} {v3 : Value} {v4 : Value} {v5 : Value} {v6 : Value} {v7 : Value} {v8 : Value} {x : Int32} : am_g d X am_m8900 486 [v0, v1, v2, v3, v4, v5, v6, v7, v8] [.int x] st Q = ((x = 0 ∨ x = 1) ∧ Q (.inl (some (.int x))) st) := am_gu.trans rfl
set_option maxRecDepth 100000 in
theorem u8900_487 {v0 : Value} {v1 : Value} {v2 : Value} {v3 : Value} {v4 : Value} {v5 : Value} {v6 : Value} {v7 : Value} {v8 : Value} : am_g d X am_m8900 487 [v0, v1, v2, v3, v4, v5, v6, v7, v8] sk st Q = am_g d X am_m8900 2998 [v0, v1, v2, v3, v4, v5, v6, v7, v8] sk st Q := am_gu.trans rfl
set_option maxRecDepth 100000 in
theorem u8900_490 {v0 : Value} {v2 : Value} {v3 : Value} {v4 : Value} {v5 : Value} {v6 : Value} {v7 : Value} {v8 : Value} {x : Nat} : am_g d X am_m8900 490 [v0, .ref x, v2, v3, v4, v5, v6, v7, v8] sk st Q = am_g d X am_m8900 491 [v0, .ref x, v2, v3, v4, v5, v6, v7, v8] (.ref x :: sk) st Q := am_gu.trans rfl
set_option maxRecDepth 100000 in
theorem u8900_491 {v0 : Value} {v1 : Value} {v2 : Value} {v4 : Value} {v5 : Value} {v6 : Value} {v7 : Value} {v8 : Value} {x : Nat} : am_g d X am_m8900 491 [v0, v1, v2, .ref x, v4, v5, v6, v7, v8] sk st Q = am_g d X am_m8900 492 [v0, v1, v2, .ref x, v4, v5, v6, v7, v8] (.ref x :: sk) st Q := am_gu.trans rfl
set_option maxRecDepth 100000 in
theorem u8900_492 {a0 : Value} {a1 : Value} {v0 : Value} {v1 : Value} {v2 : Value} {v3 : Value} {v4 : Value} {v5 : Value} {v6 : Value} {v7 : Value} {v8 : Value} : am_g d X am_m8900 492 [v0, v1, v2, v3, v4, v5, v6, v7, v8] (a1 :: a0 :: sk) st Q = (sk.length ≤ 4 ∧ am_Ca X d 8004 [a0, a1] st (am_af am_m8900 492 [v0, v1, v2, v3, v4, v5, v6, v7, v8] sk (fun pc lc sk st => am_g d X am_m8900 pc lc sk st Q) Q)) := am_gu.trans (propext ⟨fun h => ⟨h.1.2, h.2⟩, fun h => ⟨⟨Nat.le_add_left _ _, h.1⟩, h.2⟩⟩)
set_option maxRecDepth 100000 in
theorem u8900_495 {v0 : Value} {v1 : Value} {v2 : Value} {v3 : Value} {v4 : Value} {v5 : Value} {v6 : Value} {v7 : Value} {v8 : Value} {x : Int32} : am_g d X am_m8900 495 [v0, v1, v2, v3, v4, v5, v6, v7, v8] (.int x :: sk) st Q = am_g d X am_m8900 497 [v0, v1, v2, v3, am_kc v4, .int x, v6, v7, v8] sk st Q := am_gu.trans (congrArg (fun l => am_g d X am_m8900 497 (List.set l 5 (.int x)) sk st Q) (kl_5 (l := [v5, v6, v7, v8])))
set_option maxRecDepth 100000 in
theorem u8900_497 {v0 : Value} {v1 : Value} {v3 : Value} {v4 : Value} {v5 : Value} {v6 : Value} {v7 : Value} {v8 : Value} {x : Nat} : am_g d X am_m8900 497 [v0, v1, .ref x, v3, v4, v5, v6, v7, v8] sk st Q = am_g d X am_m8900 498 [v0, v1, .ref x, v3, v4, v5, v6, v7, v8] (.ref x :: sk) st Q := am_gu.trans rfl
set_option maxRecDepth 100000 in
theorem u8900_498 {v0 : Value} {v1 : Value} {v2 : Value} {v3 : Value} {v4 : Value} {v5 : Value} {v6 : Value} {v7 : Value} {v8 : Value} : am_g d X am_m8900 498 [v0, v1, v2, v3, v4, v5, v6, v7, v8] (.ref o :: sk) st Q = ((am_ob st o 7 ∧ sk.length ≤ 4) ∧ am_Ca X d 7054 [.ref o] st (am_af am_m8900 498 [v0, v1, v2, v3, v4, v5, v6, v7, v8] sk (fun pc lc sk st => am_g d X am_m8900 pc lc sk st Q) Q)) := am_gu.trans rfl
set_option maxRecDepth 100000 in
theorem u8900_501 {v0 : Value} {v1 : Value} {v2 : Value} {v3 : Value} {v4 : Value} {v5 : Value} {v6 : Value} {v7 : Value} {v8 : Value} {x : Int32} : am_g d X am_m8900 501 [v0, v1, v2, v3, v4, v5, v6, v7, v8] (.int x :: sk) st Q = am_g d X am_m8900 503 [v0, v1, v2, v3, v4, am_kc v5, .int x, v7, v8] sk st Q := am_gu.trans (congrArg (fun l => am_g d X am_m8900 503 (List.set l 6 (.int x)) sk st Q) (kl_6 (l := [v6, v7, v8])))
set_option maxRecDepth 100000 in
theorem u8900_503 {v0 : Value} {v1 : Value} {v3 : Value} {v4 : Value} {v5 : Value} {v6 : Value} {v7 : Value} {v8 : Value} {x : Nat} : am_g d X am_m8900 503 [v0, v1, .ref x, v3, v4, v5, v6, v7, v8] sk st Q = am_g d X am_m8900 504 [v0, v1, .ref x, v3, v4, v5, v6, v7, v8] (.ref x :: sk) st Q := am_gu.trans rfl
set_option maxRecDepth 100000 in
theorem u8900_504 {v0 : Value} {v1 : Value} {v2 : Value} {v3 : Value} {v4 : Value} {v5 : Value} {v6 : Value} {v7 : Value} {v8 : Value} : am_g d X am_m8900 504 [v0, v1, v2, v3, v4, v5, v6, v7, v8] (.ref o :: sk) st Q = ((am_ob st o 7 ∧ sk.length ≤ 4) ∧ am_Ca X d 7002 [.ref o] st (am_af am_m8900 504 [v0, v1, v2, v3, v4, v5, v6, v7, v8] sk (fun pc lc sk st => am_g d X am_m8900 pc lc sk st Q) Q)) := am_gu.trans rfl
set_option maxRecDepth 100000 in
theorem u8900_507 {v0 : Value} {v1 : Value} {v2 : Value} {v3 : Value} {v4 : Value} {v6 : Value} {v7 : Value} {v8 : Value} {x : Int32} : am_g d X am_m8900 507 [v0, v1, v2, v3, v4, .int x, v6, v7, v8] sk st Q = am_g d X am_m8900 509 [v0, v1, v2, v3, v4, .int x, v6, v7, v8] (.int x :: sk) st Q := am_gu.trans rfl
set_option maxRecDepth 100000 in
theorem u8900_509 {v0 : Value} {v1 : Value} {v2 : Value} {v3 : Value} {v4 : Value} {v5 : Value} {v6 : Value} {v7 : Value} {v8 : Value} {x : Int32} {y : Int32} : am_g d X am_m8900 509 [v0, v1, v2, v3, v4, v5, v6, v7, v8] (.int y :: .int x :: sk) st Q = (if decide (x = y) = true then am_g d X am_m8900 514 [v0, v1, v2, v3, v4, v5, v6, v7, v8] sk st Q else am_g d X am_m8900 512 [v0, v1, v2, v3, v4, v5, v6, v7, v8] sk st Q) := am_gu.trans rfl
set_option maxRecDepth 100000 in
theorem u8900_512 {v0 : Value} {v1 : Value} {v2 : Value} {v3 : Value} {v4 : Value} {v5 : Value} {v6 : Value} {v7 : Value} {v8 : Value} : am_g d X am_m8900 512 [v0, v1, v2, v3, v4, v5, v6, v7, v8] sk st Q = am_g d X am_m8900 513 [v0, v1, v2, v3, v4, v5, v6, v7, v8] (.int (am_i 0) :: sk) st Q := am_gu.trans rfl
set_option maxRecDepth 100000 in
theorem u8900_513 {v0 : Value} {v1 : Value} {v2 : Value} {v3 : Value} {v4 : Value} {v5 : Value} {v6 : Value} {v7 : Value} {v8 : Value} {x : Int32} : am_g d X am_m8900 513 [v0, v1, v2, v3, v4, v5, v6, v7, v8] [.int x] st Q = ((x = 0 ∨ x = 1) ∧ Q (.inl (some (.int x))) st) := am_gu.trans rfl
set_option maxRecDepth 100000 in
theorem u8900_514 {v0 : Value} {v1 : Value} {v2 : Value} {v3 : Value} {v4 : Value} {v6 : Value} {v7 : Value} {v8 : Value} {x : Int32} : am_g d X am_m8900 514 [v0, v1, v2, v3, v4, .int x, v6, v7, v8] sk st Q = am_g d X am_m8900 516 [v0, v1, v2, v3, v4, .int x, v6, v7, v8] (.int x :: sk) st Q := am_gu.trans rfl
set_option maxRecDepth 100000 in
theorem u8900_516 {v0 : Value} {v1 : Value} {v2 : Value} {v3 : Value} {v4 : Value} {v5 : Value} {v6 : Value} {v7 : Value} {v8 : Value} {x : Int32} : am_g d X am_m8900 516 [v0, v1, v2, v3, v4, v5, v6, v7, v8] (.int x :: sk) st Q = (if decide (¬ x = 0) = true then am_g d X am_m8900 531 [v0, v1, v2, v3, v4, v5, v6, v7, v8] sk st Q else am_g d X am_m8900 519 [v0, v1, v2, v3, v4, v5, v6, v7, v8] sk st Q) := am_gu.trans rfl
set_option maxRecDepth 100000 in
theorem u8900_519 {v0 : Value} {v1 : Value} {v2 : Value} {v4 : Value} {v5 : Value} {v6 : Value} {v7 : Value} {v8 : Value} {x : Nat} : am_g d X am_m8900 519 [v0, v1, v2, .ref x, v4, v5, v6, v7, v8] sk st Q = am_g d X am_m8900 520 [v0, v1, v2, .ref x, v4, v5, v6, v7, v8] (.ref x :: sk) st Q := am_gu.trans rfl
set_option maxRecDepth 100000 in
theorem u8900_520 {v0 : Value} {v1 : Value} {v2 : Value} {v3 : Value} {v4 : Value} {v5 : Value} {v6 : Value} {v7 : Value} {v8 : Value} : am_g d X am_m8900 520 [v0, v1, v2, v3, v4, v5, v6, v7, v8] sk st Q = am_g d X am_m8900 521 [v0, v1, v2, v3, v4, v5, v6, v7, v8] (.int (am_i 0) :: sk) st Q := am_gu.trans rfl
set_option maxRecDepth 100000 in
theorem u8900_521 {v0 : Value} {v1 : Value} {v2 : Value} {v3 : Value} {v4 : Value} {v5 : Value} {v6 : Value} {v7 : Value} {v8 : Value} : am_g d X am_m8900 521 [v0, v1, v2, v3, v4, v5, v6, v7, v8] sk st Q = am_jl 522 [v0, v1, v2, v3, v4, v5, v6, v7, v8] sk st (fun pc lc sk st => am_g d X am_m8900 pc lc sk st Q) := am_gu.trans rfl
set_option maxRecDepth 100000 in
theorem u8900_522 {v0 : Value} {v1 : Value} {v2 : Value} {v3 : Value} {v4 : Value} {v5 : Value} {v7 : Value} {v8 : Value} {x : Int32} : am_g d X am_m8900 522 [v0, v1, v2, v3, v4, v5, .int x, v7, v8] sk st Q = am_g d X am_m8900 524 [v0, v1, v2, v3, v4, v5, .int x, v7, v8] (.int x :: sk) st Q := am_gu.trans rfl
set_option maxRecDepth 100000 in
theorem u8900_524 {v0 : Value} {v1 : Value} {v2 : Value} {v3 : Value} {v4 : Value} {v5 : Value} {v6 : Value} {v7 : Value} {v8 : Value} {x : Int32} : am_g d X am_m8900 524 [v0, v1, v2, v3, v4, v5, v6, v7, v8] (.int x :: sk) st Q = am_g d X am_m8900 525 [v0, v1, v2, v3, v4, v5, v6, v7, v8] (.long x.toInt64 :: sk) st Q := am_gu.trans rfl
set_option maxRecDepth 100000 in
theorem u8900_525 {v0 : Value} {v1 : Value} {v2 : Value} {v3 : Value} {v4 : Value} {v5 : Value} {v6 : Value} {v7 : Value} {v8 : Value} {x : Int64} {y : Int64} : am_g d X am_m8900 525 [v0, v1, v2, v3, v4, v5, v6, v7, v8] (.long y :: .long x :: sk) st Q = am_g d X am_m8900 526 [v0, v1, v2, v3, v4, v5, v6, v7, v8] (.int (lg_cmp x y) :: sk) st Q := am_gu.trans rfl
set_option maxRecDepth 100000 in
theorem u8900_526 {v0 : Value} {v1 : Value} {v2 : Value} {v3 : Value} {v4 : Value} {v5 : Value} {v6 : Value} {v7 : Value} {v8 : Value} {x : Int32} : am_g d X am_m8900 526 [v0, v1, v2, v3, v4, v5, v6, v7, v8] (.int x :: sk) st Q = (if decide (x = 0) = true then am_g d X am_m8900 531 [v0, v1, v2, v3, v4, v5, v6, v7, v8] sk st Q else am_g d X am_m8900 529 [v0, v1, v2, v3, v4, v5, v6, v7, v8] sk st Q) := am_gu.trans rfl
set_option maxRecDepth 100000 in
theorem u8900_529 {v0 : Value} {v1 : Value} {v2 : Value} {v3 : Value} {v4 : Value} {v5 : Value} {v6 : Value} {v7 : Value} {v8 : Value} : am_g d X am_m8900 529 [v0, v1, v2, v3, v4, v5, v6, v7, v8] sk st Q = am_g d X am_m8900 530 [v0, v1, v2, v3, v4, v5, v6, v7, v8] (.int (am_i 0) :: sk) st Q := am_gu.trans rfl
set_option maxRecDepth 100000 in
theorem u8900_530 {v0 : Value} {v1 : Value} {v2 : Value} {v3 : Value} {v4 : Value} {v5 : Value} {v6 : Value} {v7 : Value} {v8 : Value} {x : Int32} : am_g d X am_m8900 530 [v0, v1, v2, v3, v4, v5, v6, v7, v8] [.int x] st Q = ((x = 0 ∨ x = 1) ∧ Q (.inl (some (.int x))) st) := am_gu.trans rfl
set_option maxRecDepth 100000 in
theorem u8900_531 {v0 : Value} {v1 : Value} {v2 : Value} {v3 : Value} {v4 : Value} {v5 : Value} {v6 : Value} {v7 : Value} {v8 : Value} : am_g d X am_m8900 531 [v0, v1, v2, v3, v4, v5, v6, v7, v8] sk st Q = am_g d X am_m8900 2998 [v0, v1, v2, v3, v4, v5, v6, v7, v8] sk st Q := am_gu.trans rfl
set_option maxRecDepth 100000 in
theorem u8900_534 {v0 : Value} {v2 : Value} {v3 : Value} {v4 : Value} {v5 : Value} {v6 : Value} {v7 : Value} {v8 : Value} {x : Nat} : am_g d X am_m8900 534 [v0, .ref x, v2, v3, v4, v5, v6, v7, v8] sk st Q = am_g d X am_m8900 535 [v0, .ref x, v2, v3, v4, v5, v6, v7, v8] (.ref x :: sk) st Q := am_gu.trans rfl
set_option maxRecDepth 100000 in
theorem u8900_535 {v1 : Value} {v2 : Value} {v3 : Value} {v4 : Value} {v5 : Value} {v6 : Value} {v7 : Value} {v8 : Value} : am_g d X am_m8900 535 [.retAddr 0, v1, v2, v3, v4, v5, v6, v7, v8] sk st Q = am_g d X am_m8900 536 [.retAddr 0, v1, v2, v3, v4, v5, v6, v7, v8] (.retAddr 0 :: sk) st Q := am_gu.trans rfl
set_option maxRecDepth 100000 in
theorem u8900_536 {v0 : Value} {v1 : Value} {v2 : Value} {v3 : Value} {v5 : Value} {v6 : Value} {v7 : Value} {v8 : Value} {x : Int32} : am_g d X am_m8900 536 [v0, v1, v2, v3, .int x, v5, v6, v7, v8] sk st Q = am_g d X am_m8900 538 [v0, v1, v2, v3, .int x, v5, v6, v7, v8] (.int x :: sk) st Q := am_gu.trans rfl
set_option maxRecDepth 100000 in
theorem u8900_538 {v0 : Value} {v1 : Value} {v2 : Value} {v3 : Value} {v4 : Value} {v5 : Value} {v6 : Value} {v7 : Value} {v8 : Value} : am_g d X am_m8900 538 [v0, v1, v2, v3, v4, v5, v6, v7, v8] sk st Q = am_g d X am_m8900 539 [v0, v1, v2, v3, v4, v5, v6, v7, v8] (.int (am_i 1) :: sk) st Q := am_gu.trans rfl
set_option maxRecDepth 100000 in
theorem u8900_539 {v0 : Value} {v1 : Value} {v2 : Value} {v3 : Value} {v4 : Value} {v5 : Value} {v6 : Value} {v7 : Value} {v8 : Value} {x : Int32} {y : Int32} : am_g d X am_m8900 539 [v0, v1, v2, v3, v4, v5, v6, v7, v8] (.int y :: .int x :: sk) st Q = am_g d X am_m8900 540 [v0, v1, v2, v3, v4, v5, v6, v7, v8] (.int (x + y) :: sk) st Q := am_gu.trans rfl
set_option maxRecDepth 100000 in
theorem u8900_540 {v0 : Value} {v1 : Value} {v2 : Value} {v3 : Value} {v4 : Value} {v5 : Value} {v6 : Value} {v7 : Value} {v8 : Value} : am_g d X am_m8900 540 [v0, v1, v2, v3, v4, v5, v6, v7, v8] sk st Q = am_xl (X.1, X.2.1, d) am_m8900 541 [v0, v1, v2, v3, v4, v5, v6, v7, v8] sk st (fun pc lc sk st => am_g d X am_m8900 pc lc sk st Q) := am_gu.trans rfl
set_option maxRecDepth 100000 in
theorem u8900_541 {v0 : Value} {v1 : Value} {v2 : Value} {v4 : Value} {v5 : Value} {v6 : Value} {v7 : Value} {v8 : Value} {x : Nat} : am_g d X am_m8900 541 [v0, v1, v2, .ref x, v4, v5, v6, v7, v8] sk st Q = am_g d X am_m8900 542 [v0, v1, v2, .ref x, v4, v5, v6, v7, v8] (.ref x :: sk) st Q := am_gu.trans rfl
set_option maxRecDepth 100000 in
theorem u8900_542 {a0 : Value} {a1 : Value} {a2 : Value} {v0 : Value} {v1 : Value} {v2 : Value} {v3 : Value} {v4 : Value} {v5 : Value} {v6 : Value} {v7 : Value} {v8 : Value} : am_g d X am_m8900 542 [v0, v1, v2, v3, v4, v5, v6, v7, v8] (a2 :: a1 :: a0 :: sk) st Q = (sk.length ≤ 4 ∧ am_Ca X d 8005 [a0, a1, a2] st (am_af am_m8900 542 [v0, v1, v2, v3, v4, v5, v6, v7, v8] sk (fun pc lc sk st => am_g d X am_m8900 pc lc sk st Q) Q)) := am_gu.trans (propext ⟨fun h => ⟨h.1.2, h.2⟩, fun h => ⟨⟨Nat.le_add_left _ _, h.1⟩, h.2⟩⟩)
set_option maxRecDepth 100000 in
theorem u8900_545 {v0 : Value} {v1 : Value} {v2 : Value} {v3 : Value} {v4 : Value} {v5 : Value} {v6 : Value} {v7 : Value} {v8 : Value} {x : Int32} : am_g d X am_m8900 545 [v0, v1, v2, v3, v4, v5, v6, v7, v8] (.int x :: sk) st Q = am_g d X am_m8900 547 [v0, v1, v2, v3, am_kc v4, .int x, v6, v7, v8] sk st Q := am_gu.trans (congrArg (fun l => am_g d X am_m8900 547 (List.set l 5 (.int x)) sk st Q) (kl_5 (l := [v5, v6, v7, v8])))
set_option maxRecDepth 100000 in
theorem u8900_547 {v0 : Value} {v1 : Value} {v3 : Value} {v4 : Value} {v5 : Value} {v6 : Value} {v7 : Value} {v8 : Value} {x : Nat} : am_g d X am_m8900 547 [v0, v1, .ref x, v3, v4, v5, v6, v7, v8] sk st Q = am_g d X am_m8900 548 [v0, v1, .ref x, v3, v4, v5, v6, v7, v8] (.ref x :: sk) st Q := am_gu.trans rfl
set_option maxRecDepth 100000 in
theorem u8900_548 {v1 : Value} {v2 : Value} {v3 : Value} {v4 : Value} {v5 : Value} {v6 : Value} {v7 : Value} {v8 : Value} : am_g d X am_m8900 548 [.retAddr 0, v1, v2, v3, v4, v5, v6, v7, v8] sk st Q = am_g d X am_m8900 549 [.retAddr 0, v1, v2, v3, v4, v5, v6, v7, v8] (.retAddr 0 :: sk) st Q := am_gu.trans rfl
set_option maxRecDepth 100000 in
theorem u8900_549 {v0 : Value} {v1 : Value} {v2 : Value} {v3 : Value} {v5 : Value} {v6 : Value} {v7 : Value} {v8 : Value} {x : Int32} : am_g d X am_m8900 549 [v0, v1, v2, v3, .int x, v5, v6, v7, v8] sk st Q = am_g d X am_m8900 551 [v0, v1, v2, v3, .int x, v5, v6, v7, v8] (.int x :: sk) st Q := am_gu.trans rfl
set_option maxRecDepth 100000 in
theorem u8900_551 {v0 : Value} {v1 : Value} {v2 : Value} {v3 : Value} {v4 : Value} {v5 : Value} {v6 : Value} {v7 : Value} {v8 : Value} : am_g d X am_m8900 551 [v0, v1, v2, v3, v4, v5, v6, v7, v8] sk st Q = am_g d X am_m8900 552 [v0, v1, v2, v3, v4, v5, v6, v7, v8] (.int (am_i 1) :: sk) st Q := am_gu.trans rfl
set_option maxRecDepth 100000 in
theorem u8900_552 {v0 : Value} {v1 : Value} {v2 : Value} {v3 : Value} {v4 : Value} {v5 : Value} {v6 : Value} {v7 : Value} {v8 : Value} {x : Int32} {y : Int32} : am_g d X am_m8900 552 [v0, v1, v2, v3, v4, v5, v6, v7, v8] (.int y :: .int x :: sk) st Q = am_g d X am_m8900 553 [v0, v1, v2, v3, v4, v5, v6, v7, v8] (.int (x + y) :: sk) st Q := am_gu.trans rfl
set_option maxRecDepth 100000 in
theorem u8900_553 {v0 : Value} {v1 : Value} {v2 : Value} {v3 : Value} {v4 : Value} {v5 : Value} {v6 : Value} {v7 : Value} {v8 : Value} : am_g d X am_m8900 553 [v0, v1, v2, v3, v4, v5, v6, v7, v8] sk st Q = am_xl (X.1, X.2.1, d) am_m8900 554 [v0, v1, v2, v3, v4, v5, v6, v7, v8] sk st (fun pc lc sk st => am_g d X am_m8900 pc lc sk st Q) := am_gu.trans rfl
set_option maxRecDepth 100000 in
theorem u8900_554 {a0 : Value} {v0 : Value} {v1 : Value} {v2 : Value} {v3 : Value} {v4 : Value} {v5 : Value} {v6 : Value} {v7 : Value} {v8 : Value} : am_g d X am_m8900 554 [v0, v1, v2, v3, v4, v5, v6, v7, v8] (a0 :: .ref o :: sk) st Q = ((am_ob st o 7 ∧ sk.length ≤ 4) ∧ am_Ca X d 7055 [.ref o, a0] st (am_af am_m8900 554 [v0, v1, v2, v3, v4, v5, v6, v7, v8] sk (fun pc lc sk st => am_g d X am_m8900 pc lc sk st Q) Q)) := am_gu.trans rfl
set_option maxRecDepth 100000 in
theorem u8900_557 {v0 : Value} {v1 : Value} {v2 : Value} {v3 : Value} {v4 : Value} {v5 : Value} {v6 : Value} {v7 : Value} {v8 : Value} {x : Int32} : am_g d X am_m8900 557 [v0, v1, v2, v3, v4, v5, v6, v7, v8] (.int x :: sk) st Q = am_g d X am_m8900 559 [v0, v1, v2, v3, v4, am_kc v5, .int x, v7, v8] sk st Q := am_gu.trans (congrArg (fun l => am_g d X am_m8900 559 (List.set l 6 (.int x)) sk st Q) (kl_6 (l := [v6, v7, v8])))
set_option maxRecDepth 100000 in
theorem u8900_559 {v0 : Value} {v1 : Value} {v3 : Value} {v4 : Value} {v5 : Value} {v6 : Value} {v7 : Value} {v8 : Value} {x : Nat} : am_g d X am_m8900 559 [v0, v1, .ref x, v3, v4, v5, v6, v7, v8] sk st Q = am_g d X am_m8900 560 [v0, v1, .ref x, v3, v4, v5, v6, v7, v8] (.ref x :: sk) st Q := am_gu.trans rfl
set_option maxRecDepth 100000 in
theorem u8900_560 {v0 : Value} {v1 : Value} {v2 : Value} {v3 : Value} {v4 : Value} {v5 : Value} {v6 : Value} {v7 : Value} {v8 : Value} : am_g d X am_m8900 560 [v0, v1, v2, v3, v4, v5, v6, v7, v8] (.ref o :: sk) st Q = ((am_ob st o 7 ∧ sk.length ≤ 4) ∧ am_Ca X d 7002 [.ref o] st (am_af am_m8900 560 [v0, v1, v2, v3, v4, v5, v6, v7, v8] sk (fun pc lc sk st => am_g d X am_m8900 pc lc sk st Q) Q)) := am_gu.trans rfl
set_option maxRecDepth 100000 in
theorem u8900_563 {v0 : Value} {v1 : Value} {v2 : Value} {v3 : Value} {v4 : Value} {v6 : Value} {v7 : Value} {v8 : Value} {x : Int32} : am_g d X am_m8900 563 [v0, v1, v2, v3, v4, .int x, v6, v7, v8] sk st Q = am_g d X am_m8900 565 [v0, v1, v2, v3, v4, .int x, v6, v7, v8] (.int x :: sk) st Q := am_gu.trans rfl
set_option maxRecDepth 100000 in
theorem u8900_565 {v0 : Value} {v1 : Value} {v2 : Value} {v3 : Value} {v4 : Value} {v5 : Value} {v6 : Value} {v7 : Value} {v8 : Value} {x : Int32} {y : Int32} : am_g d X am_m8900 565 [v0, v1, v2, v3, v4, v5, v6, v7, v8] (.int y :: .int x :: sk) st Q = (if decide (x = y) = true then am_g d X am_m8900 570 [v0, v1, v2, v3, v4, v5, v6, v7, v8] sk st Q else am_g d X am_m8900 568 [v0, v1, v2, v3, v4, v5, v6, v7, v8] sk st Q) := am_gu.trans rfl
set_option maxRecDepth 100000 in
theorem u8900_568 {v0 : Value} {v1 : Value} {v2 : Value} {v3 : Value} {v4 : Value} {v5 : Value} {v6 : Value} {v7 : Value} {v8 : Value} : am_g d X am_m8900 568 [v0, v1, v2, v3, v4, v5, v6, v7, v8] sk st Q = am_g d X am_m8900 569 [v0, v1, v2, v3, v4, v5, v6, v7, v8] (.int (am_i 0) :: sk) st Q := am_gu.trans rfl
set_option maxRecDepth 100000 in
theorem u8900_569 {v0 : Value} {v1 : Value} {v2 : Value} {v3 : Value} {v4 : Value} {v5 : Value} {v6 : Value} {v7 : Value} {v8 : Value} {x : Int32} : am_g d X am_m8900 569 [v0, v1, v2, v3, v4, v5, v6, v7, v8] [.int x] st Q = ((x = 0 ∨ x = 1) ∧ Q (.inl (some (.int x))) st) := am_gu.trans rfl
set_option maxRecDepth 100000 in
theorem u8900_570 {v0 : Value} {v1 : Value} {v2 : Value} {v3 : Value} {v4 : Value} {v6 : Value} {v7 : Value} {v8 : Value} {x : Int32} : am_g d X am_m8900 570 [v0, v1, v2, v3, v4, .int x, v6, v7, v8] sk st Q = am_g d X am_m8900 572 [v0, v1, v2, v3, v4, .int x, v6, v7, v8] (.int x :: sk) st Q := am_gu.trans rfl
set_option maxRecDepth 100000 in
theorem u8900_572 {v0 : Value} {v1 : Value} {v2 : Value} {v3 : Value} {v4 : Value} {v5 : Value} {v6 : Value} {v7 : Value} {v8 : Value} {x : Int32} : am_g d X am_m8900 572 [v0, v1, v2, v3, v4, v5, v6, v7, v8] (.int x :: sk) st Q = (if decide (¬ x = 0) = true then am_g d X am_m8900 587 [v0, v1, v2, v3, v4, v5, v6, v7, v8] sk st Q else am_g d X am_m8900 575 [v0, v1, v2, v3, v4, v5, v6, v7, v8] sk st Q) := am_gu.trans rfl
set_option maxRecDepth 100000 in
theorem u8900_575 {v0 : Value} {v1 : Value} {v2 : Value} {v4 : Value} {v5 : Value} {v6 : Value} {v7 : Value} {v8 : Value} {x : Nat} : am_g d X am_m8900 575 [v0, v1, v2, .ref x, v4, v5, v6, v7, v8] sk st Q = am_g d X am_m8900 576 [v0, v1, v2, .ref x, v4, v5, v6, v7, v8] (.ref x :: sk) st Q := am_gu.trans rfl
set_option maxRecDepth 100000 in
theorem u8900_576 {v0 : Value} {v1 : Value} {v2 : Value} {v3 : Value} {v4 : Value} {v5 : Value} {v6 : Value} {v7 : Value} {v8 : Value} : am_g d X am_m8900 576 [v0, v1, v2, v3, v4, v5, v6, v7, v8] sk st Q = am_g d X am_m8900 577 [v0, v1, v2, v3, v4, v5, v6, v7, v8] (.int (am_i 0) :: sk) st Q := am_gu.trans rfl
set_option maxRecDepth 100000 in
theorem u8900_577 {v0 : Value} {v1 : Value} {v2 : Value} {v3 : Value} {v4 : Value} {v5 : Value} {v6 : Value} {v7 : Value} {v8 : Value} : am_g d X am_m8900 577 [v0, v1, v2, v3, v4, v5, v6, v7, v8] sk st Q = am_jl 578 [v0, v1, v2, v3, v4, v5, v6, v7, v8] sk st (fun pc lc sk st => am_g d X am_m8900 pc lc sk st Q) := am_gu.trans rfl
set_option maxRecDepth 100000 in
theorem u8900_578 {v0 : Value} {v1 : Value} {v2 : Value} {v3 : Value} {v4 : Value} {v5 : Value} {v7 : Value} {v8 : Value} {x : Int32} : am_g d X am_m8900 578 [v0, v1, v2, v3, v4, v5, .int x, v7, v8] sk st Q = am_g d X am_m8900 580 [v0, v1, v2, v3, v4, v5, .int x, v7, v8] (.int x :: sk) st Q := am_gu.trans rfl
set_option maxRecDepth 100000 in
theorem u8900_580 {v0 : Value} {v1 : Value} {v2 : Value} {v3 : Value} {v4 : Value} {v5 : Value} {v6 : Value} {v7 : Value} {v8 : Value} {x : Int32} : am_g d X am_m8900 580 [v0, v1, v2, v3, v4, v5, v6, v7, v8] (.int x :: sk) st Q = am_g d X am_m8900 581 [v0, v1, v2, v3, v4, v5, v6, v7, v8] (.long x.toInt64 :: sk) st Q := am_gu.trans rfl
set_option maxRecDepth 100000 in
theorem u8900_581 {v0 : Value} {v1 : Value} {v2 : Value} {v3 : Value} {v4 : Value} {v5 : Value} {v6 : Value} {v7 : Value} {v8 : Value} {x : Int64} {y : Int64} : am_g d X am_m8900 581 [v0, v1, v2, v3, v4, v5, v6, v7, v8] (.long y :: .long x :: sk) st Q = am_g d X am_m8900 582 [v0, v1, v2, v3, v4, v5, v6, v7, v8] (.int (lg_cmp x y) :: sk) st Q := am_gu.trans rfl
set_option maxRecDepth 100000 in
theorem u8900_582 {v0 : Value} {v1 : Value} {v2 : Value} {v3 : Value} {v4 : Value} {v5 : Value} {v6 : Value} {v7 : Value} {v8 : Value} {x : Int32} : am_g d X am_m8900 582 [v0, v1, v2, v3, v4, v5, v6, v7, v8] (.int x :: sk) st Q = (if decide (x = 0) = true then am_g d X am_m8900 587 [v0, v1, v2, v3, v4, v5, v6, v7, v8] sk st Q else am_g d X am_m8900 585 [v0, v1, v2, v3, v4, v5, v6, v7, v8] sk st Q) := am_gu.trans rfl
set_option maxRecDepth 100000 in
theorem u8900_585 {v0 : Value} {v1 : Value} {v2 : Value} {v3 : Value} {v4 : Value} {v5 : Value} {v6 : Value} {v7 : Value} {v8 : Value} : am_g d X am_m8900 585 [v0, v1, v2, v3, v4, v5, v6, v7, v8] sk st Q = am_g d X am_m8900 586 [v0, v1, v2, v3, v4, v5, v6, v7, v8] (.int (am_i 0) :: sk) st Q := am_gu.trans rfl
set_option maxRecDepth 100000 in
theorem u8900_586 {v0 : Value} {v1 : Value} {v2 : Value} {v3 : Value} {v4 : Value} {v5 : Value} {v6 : Value} {v7 : Value} {v8 : Value} {x : Int32} : am_g d X am_m8900 586 [v0, v1, v2, v3, v4, v5, v6, v7, v8] [.int x] st Q = ((x = 0 ∨ x = 1) ∧ Q (.inl (some (.int x))) st) := am_gu.trans rfl
set_option maxRecDepth 100000 in
theorem u8900_587 {v0 : Value} {v1 : Value} {v2 : Value} {v3 : Value} {v4 : Value} {v5 : Value} {v6 : Value} {v7 : Value} {v8 : Value} : am_g d X am_m8900 587 [v0, v1, v2, v3, v4, v5, v6, v7, v8] sk st Q = am_g d X am_m8900 2998 [v0, v1, v2, v3, v4, v5, v6, v7, v8] sk st Q := am_gu.trans rfl
set_option maxRecDepth 100000 in
theorem u8900_590 {v0 : Value} {v2 : Value} {v3 : Value} {v4 : Value} {v5 : Value} {v6 : Value} {v7 : Value} {v8 : Value} {x : Nat} : am_g d X am_m8900 590 [v0, .ref x, v2, v3, v4, v5, v6, v7, v8] sk st Q = am_g d X am_m8900 591 [v0, .ref x, v2, v3, v4, v5, v6, v7, v8] (.ref x :: sk) st Q := am_gu.trans rfl
set_option maxRecDepth 100000 in
theorem u8900_591 {v0 : Value} {v1 : Value} {v2 : Value} {v4 : Value} {v5 : Value} {v6 : Value} {v7 : Value} {v8 : Value} {x : Nat} : am_g d X am_m8900 591 [v0, v1, v2, .ref x, v4, v5, v6, v7, v8] sk st Q = am_g d X am_m8900 592 [v0, v1, v2, .ref x, v4, v5, v6, v7, v8] (.ref x :: sk) st Q := am_gu.trans rfl
set_option maxRecDepth 100000 in
theorem u8900_592 {a0 : Value} {a1 : Value} {v0 : Value} {v1 : Value} {v2 : Value} {v3 : Value} {v4 : Value} {v5 : Value} {v6 : Value} {v7 : Value} {v8 : Value} : am_g d X am_m8900 592 [v0, v1, v2, v3, v4, v5, v6, v7, v8] (a1 :: a0 :: sk) st Q = (sk.length ≤ 4 ∧ am_Ca X d 8006 [a0, a1] st (am_af am_m8900 592 [v0, v1, v2, v3, v4, v5, v6, v7, v8] sk (fun pc lc sk st => am_g d X am_m8900 pc lc sk st Q) Q)) := am_gu.trans (propext ⟨fun h => ⟨h.1.2, h.2⟩, fun h => ⟨⟨Nat.le_add_left _ _, h.1⟩, h.2⟩⟩)
set_option maxRecDepth 100000 in
theorem u8900_595 {v0 : Value} {v1 : Value} {v2 : Value} {v3 : Value} {v4 : Value} {v5 : Value} {v6 : Value} {v7 : Value} {v8 : Value} {x : Int32} : am_g d X am_m8900 595 [v0, v1, v2, v3, v4, v5, v6, v7, v8] (.int x :: sk) st Q = am_g d X am_m8900 597 [v0, v1, v2, v3, am_kc v4, .int x, v6, v7, v8] sk st Q := am_gu.trans (congrArg (fun l => am_g d X am_m8900 597 (List.set l 5 (.int x)) sk st Q) (kl_5 (l := [v5, v6, v7, v8])))
set_option maxRecDepth 100000 in
theorem u8900_597 {v0 : Value} {v1 : Value} {v3 : Value} {v4 : Value} {v5 : Value} {v6 : Value} {v7 : Value} {v8 : Value} {x : Nat} : am_g d X am_m8900 597 [v0, v1, .ref x, v3, v4, v5, v6, v7, v8] sk st Q = am_g d X am_m8900 598 [v0, v1, .ref x, v3, v4, v5, v6, v7, v8] (.ref x :: sk) st Q := am_gu.trans rfl
set_option maxRecDepth 100000 in
theorem u8900_598 {v0 : Value} {v1 : Value} {v2 : Value} {v3 : Value} {v4 : Value} {v5 : Value} {v6 : Value} {v7 : Value} {v8 : Value} : am_g d X am_m8900 598 [v0, v1, v2, v3, v4, v5, v6, v7, v8] (.ref o :: sk) st Q = ((am_ob st o 7 ∧ sk.length ≤ 4) ∧ am_Ca X d 7056 [.ref o] st (am_af am_m8900 598 [v0, v1, v2, v3, v4, v5, v6, v7, v8] sk (fun pc lc sk st => am_g d X am_m8900 pc lc sk st Q) Q)) := am_gu.trans rfl
set_option maxRecDepth 100000 in
theorem u8900_601 {v0 : Value} {v1 : Value} {v2 : Value} {v3 : Value} {v4 : Value} {v5 : Value} {v6 : Value} {v7 : Value} {v8 : Value} {x : Int32} : am_g d X am_m8900 601 [v0, v1, v2, v3, v4, v5, v6, v7, v8] (.int x :: sk) st Q = am_g d X am_m8900 603 [v0, v1, v2, v3, v4, am_kc v5, .int x, v7, v8] sk st Q := am_gu.trans (congrArg (fun l => am_g d X am_m8900 603 (List.set l 6 (.int x)) sk st Q) (kl_6 (l := [v6, v7, v8])))
set_option maxRecDepth 100000 in
theorem u8900_603 {v0 : Value} {v1 : Value} {v3 : Value} {v4 : Value} {v5 : Value} {v6 : Value} {v7 : Value} {v8 : Value} {x : Nat} : am_g d X am_m8900 603 [v0, v1, .ref x, v3, v4, v5, v6, v7, v8] sk st Q = am_g d X am_m8900 604 [v0, v1, .ref x, v3, v4, v5, v6, v7, v8] (.ref x :: sk) st Q := am_gu.trans rfl
set_option maxRecDepth 100000 in
theorem u8900_604 {v0 : Value} {v1 : Value} {v2 : Value} {v3 : Value} {v4 : Value} {v5 : Value} {v6 : Value} {v7 : Value} {v8 : Value} : am_g d X am_m8900 604 [v0, v1, v2, v3, v4, v5, v6, v7, v8] (.ref o :: sk) st Q = ((am_ob st o 7 ∧ sk.length ≤ 4) ∧ am_Ca X d 7002 [.ref o] st (am_af am_m8900 604 [v0, v1, v2, v3, v4, v5, v6, v7, v8] sk (fun pc lc sk st => am_g d X am_m8900 pc lc sk st Q) Q)) := am_gu.trans rfl
set_option maxRecDepth 100000 in
theorem u8900_607 {v0 : Value} {v1 : Value} {v2 : Value} {v3 : Value} {v4 : Value} {v6 : Value} {v7 : Value} {v8 : Value} {x : Int32} : am_g d X am_m8900 607 [v0, v1, v2, v3, v4, .int x, v6, v7, v8] sk st Q = am_g d X am_m8900 609 [v0, v1, v2, v3, v4, .int x, v6, v7, v8] (.int x :: sk) st Q := am_gu.trans rfl
set_option maxRecDepth 100000 in
theorem u8900_609 {v0 : Value} {v1 : Value} {v2 : Value} {v3 : Value} {v4 : Value} {v5 : Value} {v6 : Value} {v7 : Value} {v8 : Value} {x : Int32} {y : Int32} : am_g d X am_m8900 609 [v0, v1, v2, v3, v4, v5, v6, v7, v8] (.int y :: .int x :: sk) st Q = (if decide (x = y) = true then am_g d X am_m8900 614 [v0, v1, v2, v3, v4, v5, v6, v7, v8] sk st Q else am_g d X am_m8900 612 [v0, v1, v2, v3, v4, v5, v6, v7, v8] sk st Q) := am_gu.trans rfl
set_option maxRecDepth 100000 in
theorem u8900_612 {v0 : Value} {v1 : Value} {v2 : Value} {v3 : Value} {v4 : Value} {v5 : Value} {v6 : Value} {v7 : Value} {v8 : Value} : am_g d X am_m8900 612 [v0, v1, v2, v3, v4, v5, v6, v7, v8] sk st Q = am_g d X am_m8900 613 [v0, v1, v2, v3, v4, v5, v6, v7, v8] (.int (am_i 0) :: sk) st Q := am_gu.trans rfl
set_option maxRecDepth 100000 in
theorem u8900_613 {v0 : Value} {v1 : Value} {v2 : Value} {v3 : Value} {v4 : Value} {v5 : Value} {v6 : Value} {v7 : Value} {v8 : Value} {x : Int32} : am_g d X am_m8900 613 [v0, v1, v2, v3, v4, v5, v6, v7, v8] [.int x] st Q = ((x = 0 ∨ x = 1) ∧ Q (.inl (some (.int x))) st) := am_gu.trans rfl
set_option maxRecDepth 100000 in
theorem u8900_614 {v0 : Value} {v1 : Value} {v2 : Value} {v3 : Value} {v4 : Value} {v6 : Value} {v7 : Value} {v8 : Value} {x : Int32} : am_g d X am_m8900 614 [v0, v1, v2, v3, v4, .int x, v6, v7, v8] sk st Q = am_g d X am_m8900 616 [v0, v1, v2, v3, v4, .int x, v6, v7, v8] (.int x :: sk) st Q := am_gu.trans rfl
set_option maxRecDepth 100000 in
theorem u8900_616 {v0 : Value} {v1 : Value} {v2 : Value} {v3 : Value} {v4 : Value} {v5 : Value} {v6 : Value} {v7 : Value} {v8 : Value} {x : Int32} : am_g d X am_m8900 616 [v0, v1, v2, v3, v4, v5, v6, v7, v8] (.int x :: sk) st Q = (if decide (¬ x = 0) = true then am_g d X am_m8900 631 [v0, v1, v2, v3, v4, v5, v6, v7, v8] sk st Q else am_g d X am_m8900 619 [v0, v1, v2, v3, v4, v5, v6, v7, v8] sk st Q) := am_gu.trans rfl
set_option maxRecDepth 100000 in
theorem u8900_619 {v0 : Value} {v1 : Value} {v2 : Value} {v4 : Value} {v5 : Value} {v6 : Value} {v7 : Value} {v8 : Value} {x : Nat} : am_g d X am_m8900 619 [v0, v1, v2, .ref x, v4, v5, v6, v7, v8] sk st Q = am_g d X am_m8900 620 [v0, v1, v2, .ref x, v4, v5, v6, v7, v8] (.ref x :: sk) st Q := am_gu.trans rfl
set_option maxRecDepth 100000 in
theorem u8900_620 {v0 : Value} {v1 : Value} {v2 : Value} {v3 : Value} {v4 : Value} {v5 : Value} {v6 : Value} {v7 : Value} {v8 : Value} : am_g d X am_m8900 620 [v0, v1, v2, v3, v4, v5, v6, v7, v8] sk st Q = am_g d X am_m8900 621 [v0, v1, v2, v3, v4, v5, v6, v7, v8] (.int (am_i 0) :: sk) st Q := am_gu.trans rfl
set_option maxRecDepth 100000 in
theorem u8900_621 {v0 : Value} {v1 : Value} {v2 : Value} {v3 : Value} {v4 : Value} {v5 : Value} {v6 : Value} {v7 : Value} {v8 : Value} : am_g d X am_m8900 621 [v0, v1, v2, v3, v4, v5, v6, v7, v8] sk st Q = am_jl 622 [v0, v1, v2, v3, v4, v5, v6, v7, v8] sk st (fun pc lc sk st => am_g d X am_m8900 pc lc sk st Q) := am_gu.trans rfl
set_option maxRecDepth 100000 in
theorem u8900_622 {v0 : Value} {v1 : Value} {v2 : Value} {v3 : Value} {v4 : Value} {v5 : Value} {v7 : Value} {v8 : Value} {x : Int32} : am_g d X am_m8900 622 [v0, v1, v2, v3, v4, v5, .int x, v7, v8] sk st Q = am_g d X am_m8900 624 [v0, v1, v2, v3, v4, v5, .int x, v7, v8] (.int x :: sk) st Q := am_gu.trans rfl
set_option maxRecDepth 100000 in
theorem u8900_624 {v0 : Value} {v1 : Value} {v2 : Value} {v3 : Value} {v4 : Value} {v5 : Value} {v6 : Value} {v7 : Value} {v8 : Value} {x : Int32} : am_g d X am_m8900 624 [v0, v1, v2, v3, v4, v5, v6, v7, v8] (.int x :: sk) st Q = am_g d X am_m8900 625 [v0, v1, v2, v3, v4, v5, v6, v7, v8] (.long x.toInt64 :: sk) st Q := am_gu.trans rfl
set_option maxRecDepth 100000 in
theorem u8900_625 {v0 : Value} {v1 : Value} {v2 : Value} {v3 : Value} {v4 : Value} {v5 : Value} {v6 : Value} {v7 : Value} {v8 : Value} {x : Int64} {y : Int64} : am_g d X am_m8900 625 [v0, v1, v2, v3, v4, v5, v6, v7, v8] (.long y :: .long x :: sk) st Q = am_g d X am_m8900 626 [v0, v1, v2, v3, v4, v5, v6, v7, v8] (.int (lg_cmp x y) :: sk) st Q := am_gu.trans rfl
set_option maxRecDepth 100000 in
theorem u8900_626 {v0 : Value} {v1 : Value} {v2 : Value} {v3 : Value} {v4 : Value} {v5 : Value} {v6 : Value} {v7 : Value} {v8 : Value} {x : Int32} : am_g d X am_m8900 626 [v0, v1, v2, v3, v4, v5, v6, v7, v8] (.int x :: sk) st Q = (if decide (x = 0) = true then am_g d X am_m8900 631 [v0, v1, v2, v3, v4, v5, v6, v7, v8] sk st Q else am_g d X am_m8900 629 [v0, v1, v2, v3, v4, v5, v6, v7, v8] sk st Q) := am_gu.trans rfl
set_option maxRecDepth 100000 in
theorem u8900_629 {v0 : Value} {v1 : Value} {v2 : Value} {v3 : Value} {v4 : Value} {v5 : Value} {v6 : Value} {v7 : Value} {v8 : Value} : am_g d X am_m8900 629 [v0, v1, v2, v3, v4, v5, v6, v7, v8] sk st Q = am_g d X am_m8900 630 [v0, v1, v2, v3, v4, v5, v6, v7, v8] (.int (am_i 0) :: sk) st Q := am_gu.trans rfl
set_option maxRecDepth 100000 in
theorem u8900_630 {v0 : Value} {v1 : Value} {v2 : Value} {v3 : Value} {v4 : Value} {v5 : Value} {v6 : Value} {v7 : Value} {v8 : Value} {x : Int32} : am_g d X am_m8900 630 [v0, v1, v2, v3, v4, v5, v6, v7, v8] [.int x] st Q = ((x = 0 ∨ x = 1) ∧ Q (.inl (some (.int x))) st) := am_gu.trans rfl
set_option maxRecDepth 100000 in
theorem u8900_631 {v0 : Value} {v1 : Value} {v2 : Value} {v3 : Value} {v4 : Value} {v5 : Value} {v6 : Value} {v7 : Value} {v8 : Value} : am_g d X am_m8900 631 [v0, v1, v2, v3, v4, v5, v6, v7, v8] sk st Q = am_g d X am_m8900 2998 [v0, v1, v2, v3, v4, v5, v6, v7, v8] sk st Q := am_gu.trans rfl
set_option maxRecDepth 100000 in
theorem u8900_634 {v0 : Value} {v2 : Value} {v3 : Value} {v4 : Value} {v5 : Value} {v6 : Value} {v7 : Value} {v8 : Value} {x : Nat} : am_g d X am_m8900 634 [v0, .ref x, v2, v3, v4, v5, v6, v7, v8] sk st Q = am_g d X am_m8900 635 [v0, .ref x, v2, v3, v4, v5, v6, v7, v8] (.ref x :: sk) st Q := am_gu.trans rfl
set_option maxRecDepth 100000 in
theorem u8900_635 {v0 : Value} {v1 : Value} {v2 : Value} {v4 : Value} {v5 : Value} {v6 : Value} {v7 : Value} {v8 : Value} {x : Nat} : am_g d X am_m8900 635 [v0, v1, v2, .ref x, v4, v5, v6, v7, v8] sk st Q = am_g d X am_m8900 636 [v0, v1, v2, .ref x, v4, v5, v6, v7, v8] (.ref x :: sk) st Q := am_gu.trans rfl
set_option maxRecDepth 100000 in
theorem u8900_636 {a0 : Value} {a1 : Value} {v0 : Value} {v1 : Value} {v2 : Value} {v3 : Value} {v4 : Value} {v5 : Value} {v6 : Value} {v7 : Value} {v8 : Value} : am_g d X am_m8900 636 [v0, v1, v2, v3, v4, v5, v6, v7, v8] (a1 :: a0 :: sk) st Q = (sk.length ≤ 4 ∧ am_Ca X d 8007 [a0, a1] st (am_af am_m8900 636 [v0, v1, v2, v3, v4, v5, v6, v7, v8] sk (fun pc lc sk st => am_g d X am_m8900 pc lc sk st Q) Q)) := am_gu.trans (propext ⟨fun h => ⟨h.1.2, h.2⟩, fun h => ⟨⟨Nat.le_add_left _ _, h.1⟩, h.2⟩⟩)
set_option maxRecDepth 100000 in
theorem u8900_639 {v0 : Value} {v1 : Value} {v2 : Value} {v3 : Value} {v4 : Value} {v5 : Value} {v6 : Value} {v7 : Value} {v8 : Value} {x : Int32} : am_g d X am_m8900 639 [v0, v1, v2, v3, v4, v5, v6, v7, v8] (.int x :: sk) st Q = am_g d X am_m8900 641 [v0, v1, v2, v3, am_kc v4, .int x, v6, v7, v8] sk st Q := am_gu.trans (congrArg (fun l => am_g d X am_m8900 641 (List.set l 5 (.int x)) sk st Q) (kl_5 (l := [v5, v6, v7, v8])))
set_option maxRecDepth 100000 in
theorem u8900_641 {v0 : Value} {v1 : Value} {v3 : Value} {v4 : Value} {v5 : Value} {v6 : Value} {v7 : Value} {v8 : Value} {x : Nat} : am_g d X am_m8900 641 [v0, v1, .ref x, v3, v4, v5, v6, v7, v8] sk st Q = am_g d X am_m8900 642 [v0, v1, .ref x, v3, v4, v5, v6, v7, v8] (.ref x :: sk) st Q := am_gu.trans rfl
set_option maxRecDepth 100000 in
theorem u8900_642 {v0 : Value} {v1 : Value} {v2 : Value} {v3 : Value} {v4 : Value} {v5 : Value} {v6 : Value} {v7 : Value} {v8 : Value} : am_g d X am_m8900 642 [v0, v1, v2, v3, v4, v5, v6, v7, v8] (.ref o :: sk) st Q = ((am_ob st o 7 ∧ sk.length ≤ 4) ∧ am_Ca X d 7057 [.ref o] st (am_af am_m8900 642 [v0, v1, v2, v3, v4, v5, v6, v7, v8] sk (fun pc lc sk st => am_g d X am_m8900 pc lc sk st Q) Q)) := am_gu.trans rfl
set_option maxRecDepth 100000 in
theorem u8900_645 {v0 : Value} {v1 : Value} {v2 : Value} {v3 : Value} {v4 : Value} {v5 : Value} {v6 : Value} {v7 : Value} {v8 : Value} {x : Int32} : am_g d X am_m8900 645 [v0, v1, v2, v3, v4, v5, v6, v7, v8] (.int x :: sk) st Q = am_g d X am_m8900 647 [v0, v1, v2, v3, v4, am_kc v5, .int x, v7, v8] sk st Q := am_gu.trans (congrArg (fun l => am_g d X am_m8900 647 (List.set l 6 (.int x)) sk st Q) (kl_6 (l := [v6, v7, v8])))
set_option maxRecDepth 100000 in
theorem u8900_647 {v0 : Value} {v1 : Value} {v3 : Value} {v4 : Value} {v5 : Value} {v6 : Value} {v7 : Value} {v8 : Value} {x : Nat} : am_g d X am_m8900 647 [v0, v1, .ref x, v3, v4, v5, v6, v7, v8] sk st Q = am_g d X am_m8900 648 [v0, v1, .ref x, v3, v4, v5, v6, v7, v8] (.ref x :: sk) st Q := am_gu.trans rfl
set_option maxRecDepth 100000 in
theorem u8900_648 {v0 : Value} {v1 : Value} {v2 : Value} {v3 : Value} {v4 : Value} {v5 : Value} {v6 : Value} {v7 : Value} {v8 : Value} : am_g d X am_m8900 648 [v0, v1, v2, v3, v4, v5, v6, v7, v8] (.ref o :: sk) st Q = ((am_ob st o 7 ∧ sk.length ≤ 4) ∧ am_Ca X d 7002 [.ref o] st (am_af am_m8900 648 [v0, v1, v2, v3, v4, v5, v6, v7, v8] sk (fun pc lc sk st => am_g d X am_m8900 pc lc sk st Q) Q)) := am_gu.trans rfl
set_option maxRecDepth 100000 in
theorem u8900_651 {v0 : Value} {v1 : Value} {v2 : Value} {v3 : Value} {v4 : Value} {v6 : Value} {v7 : Value} {v8 : Value} {x : Int32} : am_g d X am_m8900 651 [v0, v1, v2, v3, v4, .int x, v6, v7, v8] sk st Q = am_g d X am_m8900 653 [v0, v1, v2, v3, v4, .int x, v6, v7, v8] (.int x :: sk) st Q := am_gu.trans rfl
set_option maxRecDepth 100000 in
theorem u8900_653 {v0 : Value} {v1 : Value} {v2 : Value} {v3 : Value} {v4 : Value} {v5 : Value} {v6 : Value} {v7 : Value} {v8 : Value} {x : Int32} {y : Int32} : am_g d X am_m8900 653 [v0, v1, v2, v3, v4, v5, v6, v7, v8] (.int y :: .int x :: sk) st Q = (if decide (x = y) = true then am_g d X am_m8900 658 [v0, v1, v2, v3, v4, v5, v6, v7, v8] sk st Q else am_g d X am_m8900 656 [v0, v1, v2, v3, v4, v5, v6, v7, v8] sk st Q) := am_gu.trans rfl
set_option maxRecDepth 100000 in
theorem u8900_656 {v0 : Value} {v1 : Value} {v2 : Value} {v3 : Value} {v4 : Value} {v5 : Value} {v6 : Value} {v7 : Value} {v8 : Value} : am_g d X am_m8900 656 [v0, v1, v2, v3, v4, v5, v6, v7, v8] sk st Q = am_g d X am_m8900 657 [v0, v1, v2, v3, v4, v5, v6, v7, v8] (.int (am_i 0) :: sk) st Q := am_gu.trans rfl
set_option maxRecDepth 100000 in
theorem u8900_657 {v0 : Value} {v1 : Value} {v2 : Value} {v3 : Value} {v4 : Value} {v5 : Value} {v6 : Value} {v7 : Value} {v8 : Value} {x : Int32} : am_g d X am_m8900 657 [v0, v1, v2, v3, v4, v5, v6, v7, v8] [.int x] st Q = ((x = 0 ∨ x = 1) ∧ Q (.inl (some (.int x))) st) := am_gu.trans rfl
set_option maxRecDepth 100000 in
theorem u8900_658 {v0 : Value} {v1 : Value} {v2 : Value} {v3 : Value} {v4 : Value} {v6 : Value} {v7 : Value} {v8 : Value} {x : Int32} : am_g d X am_m8900 658 [v0, v1, v2, v3, v4, .int x, v6, v7, v8] sk st Q = am_g d X am_m8900 660 [v0, v1, v2, v3, v4, .int x, v6, v7, v8] (.int x :: sk) st Q := am_gu.trans rfl
set_option maxRecDepth 100000 in
theorem u8900_660 {v0 : Value} {v1 : Value} {v2 : Value} {v3 : Value} {v4 : Value} {v5 : Value} {v6 : Value} {v7 : Value} {v8 : Value} {x : Int32} : am_g d X am_m8900 660 [v0, v1, v2, v3, v4, v5, v6, v7, v8] (.int x :: sk) st Q = (if decide (¬ x = 0) = true then am_g d X am_m8900 675 [v0, v1, v2, v3, v4, v5, v6, v7, v8] sk st Q else am_g d X am_m8900 663 [v0, v1, v2, v3, v4, v5, v6, v7, v8] sk st Q) := am_gu.trans rfl
set_option maxRecDepth 100000 in
theorem u8900_663 {v0 : Value} {v1 : Value} {v2 : Value} {v4 : Value} {v5 : Value} {v6 : Value} {v7 : Value} {v8 : Value} {x : Nat} : am_g d X am_m8900 663 [v0, v1, v2, .ref x, v4, v5, v6, v7, v8] sk st Q = am_g d X am_m8900 664 [v0, v1, v2, .ref x, v4, v5, v6, v7, v8] (.ref x :: sk) st Q := am_gu.trans rfl
set_option maxRecDepth 100000 in
theorem u8900_664 {v0 : Value} {v1 : Value} {v2 : Value} {v3 : Value} {v4 : Value} {v5 : Value} {v6 : Value} {v7 : Value} {v8 : Value} : am_g d X am_m8900 664 [v0, v1, v2, v3, v4, v5, v6, v7, v8] sk st Q = am_g d X am_m8900 665 [v0, v1, v2, v3, v4, v5, v6, v7, v8] (.int (am_i 0) :: sk) st Q := am_gu.trans rfl
set_option maxRecDepth 100000 in
theorem u8900_665 {v0 : Value} {v1 : Value} {v2 : Value} {v3 : Value} {v4 : Value} {v5 : Value} {v6 : Value} {v7 : Value} {v8 : Value} : am_g d X am_m8900 665 [v0, v1, v2, v3, v4, v5, v6, v7, v8] sk st Q = am_jl 666 [v0, v1, v2, v3, v4, v5, v6, v7, v8] sk st (fun pc lc sk st => am_g d X am_m8900 pc lc sk st Q) := am_gu.trans rfl
set_option maxRecDepth 100000 in
theorem u8900_666 {v0 : Value} {v1 : Value} {v2 : Value} {v3 : Value} {v4 : Value} {v5 : Value} {v7 : Value} {v8 : Value} {x : Int32} : am_g d X am_m8900 666 [v0, v1, v2, v3, v4, v5, .int x, v7, v8] sk st Q = am_g d X am_m8900 668 [v0, v1, v2, v3, v4, v5, .int x, v7, v8] (.int x :: sk) st Q := am_gu.trans rfl
set_option maxRecDepth 100000 in
theorem u8900_668 {v0 : Value} {v1 : Value} {v2 : Value} {v3 : Value} {v4 : Value} {v5 : Value} {v6 : Value} {v7 : Value} {v8 : Value} {x : Int32} : am_g d X am_m8900 668 [v0, v1, v2, v3, v4, v5, v6, v7, v8] (.int x :: sk) st Q = am_g d X am_m8900 669 [v0, v1, v2, v3, v4, v5, v6, v7, v8] (.long x.toInt64 :: sk) st Q := am_gu.trans rfl
set_option maxRecDepth 100000 in
theorem u8900_669 {v0 : Value} {v1 : Value} {v2 : Value} {v3 : Value} {v4 : Value} {v5 : Value} {v6 : Value} {v7 : Value} {v8 : Value} {x : Int64} {y : Int64} : am_g d X am_m8900 669 [v0, v1, v2, v3, v4, v5, v6, v7, v8] (.long y :: .long x :: sk) st Q = am_g d X am_m8900 670 [v0, v1, v2, v3, v4, v5, v6, v7, v8] (.int (lg_cmp x y) :: sk) st Q := am_gu.trans rfl
set_option maxRecDepth 100000 in
theorem u8900_670 {v0 : Value} {v1 : Value} {v2 : Value} {v3 : Value} {v4 : Value} {v5 : Value} {v6 : Value} {v7 : Value} {v8 : Value} {x : Int32} : am_g d X am_m8900 670 [v0, v1, v2, v3, v4, v5, v6, v7, v8] (.int x :: sk) st Q = (if decide (x = 0) = true then am_g d X am_m8900 675 [v0, v1, v2, v3, v4, v5, v6, v7, v8] sk st Q else am_g d X am_m8900 673 [v0, v1, v2, v3, v4, v5, v6, v7, v8] sk st Q) := am_gu.trans rfl
set_option maxRecDepth 100000 in
theorem u8900_673 {v0 : Value} {v1 : Value} {v2 : Value} {v3 : Value} {v4 : Value} {v5 : Value} {v6 : Value} {v7 : Value} {v8 : Value} : am_g d X am_m8900 673 [v0, v1, v2, v3, v4, v5, v6, v7, v8] sk st Q = am_g d X am_m8900 674 [v0, v1, v2, v3, v4, v5, v6, v7, v8] (.int (am_i 0) :: sk) st Q := am_gu.trans rfl
set_option maxRecDepth 100000 in
theorem u8900_674 {v0 : Value} {v1 : Value} {v2 : Value} {v3 : Value} {v4 : Value} {v5 : Value} {v6 : Value} {v7 : Value} {v8 : Value} {x : Int32} : am_g d X am_m8900 674 [v0, v1, v2, v3, v4, v5, v6, v7, v8] [.int x] st Q = ((x = 0 ∨ x = 1) ∧ Q (.inl (some (.int x))) st) := am_gu.trans rfl
set_option maxRecDepth 100000 in
theorem u8900_675 {v0 : Value} {v1 : Value} {v2 : Value} {v3 : Value} {v4 : Value} {v5 : Value} {v6 : Value} {v7 : Value} {v8 : Value} : am_g d X am_m8900 675 [v0, v1, v2, v3, v4, v5, v6, v7, v8] sk st Q = am_g d X am_m8900 2998 [v0, v1, v2, v3, v4, v5, v6, v7, v8] sk st Q := am_gu.trans rfl
set_option maxRecDepth 100000 in
theorem u8900_678 {v0 : Value} {v2 : Value} {v3 : Value} {v4 : Value} {v5 : Value} {v6 : Value} {v7 : Value} {v8 : Value} {x : Nat} : am_g d X am_m8900 678 [v0, .ref x, v2, v3, v4, v5, v6, v7, v8] sk st Q = am_g d X am_m8900 679 [v0, .ref x, v2, v3, v4, v5, v6, v7, v8] (.ref x :: sk) st Q := am_gu.trans rfl
set_option maxRecDepth 100000 in
theorem u8900_679 {v0 : Value} {v1 : Value} {v2 : Value} {v4 : Value} {v5 : Value} {v6 : Value} {v7 : Value} {v8 : Value} {x : Nat} : am_g d X am_m8900 679 [v0, v1, v2, .ref x, v4, v5, v6, v7, v8] sk st Q = am_g d X am_m8900 680 [v0, v1, v2, .ref x, v4, v5, v6, v7, v8] (.ref x :: sk) st Q := am_gu.trans rfl
set_option maxRecDepth 100000 in
theorem u8900_680 {a0 : Value} {a1 : Value} {v0 : Value} {v1 : Value} {v2 : Value} {v3 : Value} {v4 : Value} {v5 : Value} {v6 : Value} {v7 : Value} {v8 : Value} : am_g d X am_m8900 680 [v0, v1, v2, v3, v4, v5, v6, v7, v8] (a1 :: a0 :: sk) st Q = (sk.length ≤ 4 ∧ am_Ca X d 8008 [a0, a1] st (am_af am_m8900 680 [v0, v1, v2, v3, v4, v5, v6, v7, v8] sk (fun pc lc sk st => am_g d X am_m8900 pc lc sk st Q) Q)) := am_gu.trans (propext ⟨fun h => ⟨h.1.2, h.2⟩, fun h => ⟨⟨Nat.le_add_left _ _, h.1⟩, h.2⟩⟩)
set_option maxRecDepth 100000 in
theorem u8900_683 {v0 : Value} {v1 : Value} {v2 : Value} {v3 : Value} {v4 : Value} {v5 : Value} {v6 : Value} {v7 : Value} {v8 : Value} {x : Int32} : am_g d X am_m8900 683 [v0, v1, v2, v3, v4, v5, v6, v7, v8] (.int x :: sk) st Q = am_g d X am_m8900 685 [v0, v1, v2, v3, am_kc v4, .int x, v6, v7, v8] sk st Q := am_gu.trans (congrArg (fun l => am_g d X am_m8900 685 (List.set l 5 (.int x)) sk st Q) (kl_5 (l := [v5, v6, v7, v8])))
set_option maxRecDepth 100000 in
theorem u8900_685 {v0 : Value} {v1 : Value} {v3 : Value} {v4 : Value} {v5 : Value} {v6 : Value} {v7 : Value} {v8 : Value} {x : Nat} : am_g d X am_m8900 685 [v0, v1, .ref x, v3, v4, v5, v6, v7, v8] sk st Q = am_g d X am_m8900 686 [v0, v1, .ref x, v3, v4, v5, v6, v7, v8] (.ref x :: sk) st Q := am_gu.trans rfl
set_option maxRecDepth 100000 in
theorem u8900_686 {v0 : Value} {v1 : Value} {v2 : Value} {v3 : Value} {v4 : Value} {v5 : Value} {v6 : Value} {v7 : Value} {v8 : Value} : am_g d X am_m8900 686 [v0, v1, v2, v3, v4, v5, v6, v7, v8] (.ref o :: sk) st Q = ((am_ob st o 7 ∧ sk.length ≤ 4) ∧ am_Ca X d 7058 [.ref o] st (am_af am_m8900 686 [v0, v1, v2, v3, v4, v5, v6, v7, v8] sk (fun pc lc sk st => am_g d X am_m8900 pc lc sk st Q) Q)) := am_gu.trans rfl
set_option maxRecDepth 100000 in
theorem u8900_689 {v0 : Value} {v1 : Value} {v2 : Value} {v3 : Value} {v4 : Value} {v5 : Value} {v6 : Value} {v7 : Value} {v8 : Value} {x : Int32} : am_g d X am_m8900 689 [v0, v1, v2, v3, v4, v5, v6, v7, v8] (.int x :: sk) st Q = am_g d X am_m8900 691 [v0, v1, v2, v3, v4, am_kc v5, .int x, v7, v8] sk st Q := am_gu.trans (congrArg (fun l => am_g d X am_m8900 691 (List.set l 6 (.int x)) sk st Q) (kl_6 (l := [v6, v7, v8])))
set_option maxRecDepth 100000 in
theorem u8900_691 {v0 : Value} {v1 : Value} {v3 : Value} {v4 : Value} {v5 : Value} {v6 : Value} {v7 : Value} {v8 : Value} {x : Nat} : am_g d X am_m8900 691 [v0, v1, .ref x, v3, v4, v5, v6, v7, v8] sk st Q = am_g d X am_m8900 692 [v0, v1, .ref x, v3, v4, v5, v6, v7, v8] (.ref x :: sk) st Q := am_gu.trans rfl
set_option maxRecDepth 100000 in
theorem u8900_692 {v0 : Value} {v1 : Value} {v2 : Value} {v3 : Value} {v4 : Value} {v5 : Value} {v6 : Value} {v7 : Value} {v8 : Value} : am_g d X am_m8900 692 [v0, v1, v2, v3, v4, v5, v6, v7, v8] (.ref o :: sk) st Q = ((am_ob st o 7 ∧ sk.length ≤ 4) ∧ am_Ca X d 7002 [.ref o] st (am_af am_m8900 692 [v0, v1, v2, v3, v4, v5, v6, v7, v8] sk (fun pc lc sk st => am_g d X am_m8900 pc lc sk st Q) Q)) := am_gu.trans rfl
set_option maxRecDepth 100000 in
theorem u8900_695 {v0 : Value} {v1 : Value} {v2 : Value} {v3 : Value} {v4 : Value} {v6 : Value} {v7 : Value} {v8 : Value} {x : Int32} : am_g d X am_m8900 695 [v0, v1, v2, v3, v4, .int x, v6, v7, v8] sk st Q = am_g d X am_m8900 697 [v0, v1, v2, v3, v4, .int x, v6, v7, v8] (.int x :: sk) st Q := am_gu.trans rfl
set_option maxRecDepth 100000 in
theorem u8900_697 {v0 : Value} {v1 : Value} {v2 : Value} {v3 : Value} {v4 : Value} {v5 : Value} {v6 : Value} {v7 : Value} {v8 : Value} {x : Int32} {y : Int32} : am_g d X am_m8900 697 [v0, v1, v2, v3, v4, v5, v6, v7, v8] (.int y :: .int x :: sk) st Q = (if decide (x = y) = true then am_g d X am_m8900 702 [v0, v1, v2, v3, v4, v5, v6, v7, v8] sk st Q else am_g d X am_m8900 700 [v0, v1, v2, v3, v4, v5, v6, v7, v8] sk st Q) := am_gu.trans rfl
set_option maxRecDepth 100000 in
theorem u8900_700 {v0 : Value} {v1 : Value} {v2 : Value} {v3 : Value} {v4 : Value} {v5 : Value} {v6 : Value} {v7 : Value} {v8 : Value} : am_g d X am_m8900 700 [v0, v1, v2, v3, v4, v5, v6, v7, v8] sk st Q = am_g d X am_m8900 701 [v0, v1, v2, v3, v4, v5, v6, v7, v8] (.int (am_i 0) :: sk) st Q := am_gu.trans rfl
set_option maxRecDepth 100000 in
theorem u8900_701 {v0 : Value} {v1 : Value} {v2 : Value} {v3 : Value} {v4 : Value} {v5 : Value} {v6 : Value} {v7 : Value} {v8 : Value} {x : Int32} : am_g d X am_m8900 701 [v0, v1, v2, v3, v4, v5, v6, v7, v8] [.int x] st Q = ((x = 0 ∨ x = 1) ∧ Q (.inl (some (.int x))) st) := am_gu.trans rfl
set_option maxRecDepth 100000 in
theorem u8900_702 {v0 : Value} {v1 : Value} {v2 : Value} {v3 : Value} {v4 : Value} {v6 : Value} {v7 : Value} {v8 : Value} {x : Int32} : am_g d X am_m8900 702 [v0, v1, v2, v3, v4, .int x, v6, v7, v8] sk st Q = am_g d X am_m8900 704 [v0, v1, v2, v3, v4, .int x, v6, v7, v8] (.int x :: sk) st Q := am_gu.trans rfl
set_option maxRecDepth 100000 in
theorem u8900_704 {v0 : Value} {v1 : Value} {v2 : Value} {v3 : Value} {v4 : Value} {v5 : Value} {v6 : Value} {v7 : Value} {v8 : Value} {x : Int32} : am_g d X am_m8900 704 [v0, v1, v2, v3, v4, v5, v6, v7, v8] (.int x :: sk) st Q = (if decide (¬ x = 0) = true then am_g d X am_m8900 719 [v0, v1, v2, v3, v4, v5, v6, v7, v8] sk st Q else am_g d X am_m8900 707 [v0, v1, v2, v3, v4, v5, v6, v7, v8] sk st Q) := am_gu.trans rfl
set_option maxRecDepth 100000 in
theorem u8900_707 {v0 : Value} {v1 : Value} {v2 : Value} {v4 : Value} {v5 : Value} {v6 : Value} {v7 : Value} {v8 : Value} {x : Nat} : am_g d X am_m8900 707 [v0, v1, v2, .ref x, v4, v5, v6, v7, v8] sk st Q = am_g d X am_m8900 708 [v0, v1, v2, .ref x, v4, v5, v6, v7, v8] (.ref x :: sk) st Q := am_gu.trans rfl
set_option maxRecDepth 100000 in
theorem u8900_708 {v0 : Value} {v1 : Value} {v2 : Value} {v3 : Value} {v4 : Value} {v5 : Value} {v6 : Value} {v7 : Value} {v8 : Value} : am_g d X am_m8900 708 [v0, v1, v2, v3, v4, v5, v6, v7, v8] sk st Q = am_g d X am_m8900 709 [v0, v1, v2, v3, v4, v5, v6, v7, v8] (.int (am_i 0) :: sk) st Q := am_gu.trans rfl
set_option maxRecDepth 100000 in
theorem u8900_709 {v0 : Value} {v1 : Value} {v2 : Value} {v3 : Value} {v4 : Value} {v5 : Value} {v6 : Value} {v7 : Value} {v8 : Value} : am_g d X am_m8900 709 [v0, v1, v2, v3, v4, v5, v6, v7, v8] sk st Q = am_jl 710 [v0, v1, v2, v3, v4, v5, v6, v7, v8] sk st (fun pc lc sk st => am_g d X am_m8900 pc lc sk st Q) := am_gu.trans rfl
set_option maxRecDepth 100000 in
theorem u8900_710 {v0 : Value} {v1 : Value} {v2 : Value} {v3 : Value} {v4 : Value} {v5 : Value} {v7 : Value} {v8 : Value} {x : Int32} : am_g d X am_m8900 710 [v0, v1, v2, v3, v4, v5, .int x, v7, v8] sk st Q = am_g d X am_m8900 712 [v0, v1, v2, v3, v4, v5, .int x, v7, v8] (.int x :: sk) st Q := am_gu.trans rfl
set_option maxRecDepth 100000 in
theorem u8900_712 {v0 : Value} {v1 : Value} {v2 : Value} {v3 : Value} {v4 : Value} {v5 : Value} {v6 : Value} {v7 : Value} {v8 : Value} {x : Int32} : am_g d X am_m8900 712 [v0, v1, v2, v3, v4, v5, v6, v7, v8] (.int x :: sk) st Q = am_g d X am_m8900 713 [v0, v1, v2, v3, v4, v5, v6, v7, v8] (.long x.toInt64 :: sk) st Q := am_gu.trans rfl
set_option maxRecDepth 100000 in
theorem u8900_713 {v0 : Value} {v1 : Value} {v2 : Value} {v3 : Value} {v4 : Value} {v5 : Value} {v6 : Value} {v7 : Value} {v8 : Value} {x : Int64} {y : Int64} : am_g d X am_m8900 713 [v0, v1, v2, v3, v4, v5, v6, v7, v8] (.long y :: .long x :: sk) st Q = am_g d X am_m8900 714 [v0, v1, v2, v3, v4, v5, v6, v7, v8] (.int (lg_cmp x y) :: sk) st Q := am_gu.trans rfl
set_option maxRecDepth 100000 in
theorem u8900_714 {v0 : Value} {v1 : Value} {v2 : Value} {v3 : Value} {v4 : Value} {v5 : Value} {v6 : Value} {v7 : Value} {v8 : Value} {x : Int32} : am_g d X am_m8900 714 [v0, v1, v2, v3, v4, v5, v6, v7, v8] (.int x :: sk) st Q = (if decide (x = 0) = true then am_g d X am_m8900 719 [v0, v1, v2, v3, v4, v5, v6, v7, v8] sk st Q else am_g d X am_m8900 717 [v0, v1, v2, v3, v4, v5, v6, v7, v8] sk st Q) := am_gu.trans rfl
set_option maxRecDepth 100000 in
theorem u8900_717 {v0 : Value} {v1 : Value} {v2 : Value} {v3 : Value} {v4 : Value} {v5 : Value} {v6 : Value} {v7 : Value} {v8 : Value} : am_g d X am_m8900 717 [v0, v1, v2, v3, v4, v5, v6, v7, v8] sk st Q = am_g d X am_m8900 718 [v0, v1, v2, v3, v4, v5, v6, v7, v8] (.int (am_i 0) :: sk) st Q := am_gu.trans rfl
set_option maxRecDepth 100000 in
theorem u8900_718 {v0 : Value} {v1 : Value} {v2 : Value} {v3 : Value} {v4 : Value} {v5 : Value} {v6 : Value} {v7 : Value} {v8 : Value} {x : Int32} : am_g d X am_m8900 718 [v0, v1, v2, v3, v4, v5, v6, v7, v8] [.int x] st Q = ((x = 0 ∨ x = 1) ∧ Q (.inl (some (.int x))) st) := am_gu.trans rfl
set_option maxRecDepth 100000 in
theorem u8900_719 {v0 : Value} {v1 : Value} {v2 : Value} {v3 : Value} {v4 : Value} {v5 : Value} {v6 : Value} {v7 : Value} {v8 : Value} : am_g d X am_m8900 719 [v0, v1, v2, v3, v4, v5, v6, v7, v8] sk st Q = am_g d X am_m8900 2998 [v0, v1, v2, v3, v4, v5, v6, v7, v8] sk st Q := am_gu.trans rfl
set_option maxRecDepth 100000 in
theorem u8900_722 {v0 : Value} {v2 : Value} {v3 : Value} {v4 : Value} {v5 : Value} {v6 : Value} {v7 : Value} {v8 : Value} {x : Nat} : am_g d X am_m8900 722 [v0, .ref x, v2, v3, v4, v5, v6, v7, v8] sk st Q = am_g d X am_m8900 723 [v0, .ref x, v2, v3, v4, v5, v6, v7, v8] (.ref x :: sk) st Q := am_gu.trans rfl
set_option maxRecDepth 100000 in
theorem u8900_723 {v1 : Value} {v2 : Value} {v3 : Value} {v4 : Value} {v5 : Value} {v6 : Value} {v7 : Value} {v8 : Value} : am_g d X am_m8900 723 [.retAddr 0, v1, v2, v3, v4, v5, v6, v7, v8] sk st Q = am_g d X am_m8900 724 [.retAddr 0, v1, v2, v3, v4, v5, v6, v7, v8] (.retAddr 0 :: sk) st Q := am_gu.trans rfl
set_option maxRecDepth 100000 in
theorem u8900_724 {v0 : Value} {v1 : Value} {v2 : Value} {v3 : Value} {v5 : Value} {v6 : Value} {v7 : Value} {v8 : Value} {x : Int32} : am_g d X am_m8900 724 [v0, v1, v2, v3, .int x, v5, v6, v7, v8] sk st Q = am_g d X am_m8900 726 [v0, v1, v2, v3, .int x, v5, v6, v7, v8] (.int x :: sk) st Q := am_gu.trans rfl
set_option maxRecDepth 100000 in
theorem u8900_726 {v0 : Value} {v1 : Value} {v2 : Value} {v3 : Value} {v4 : Value} {v5 : Value} {v6 : Value} {v7 : Value} {v8 : Value} : am_g d X am_m8900 726 [v0, v1, v2, v3, v4, v5, v6, v7, v8] sk st Q = am_g d X am_m8900 727 [v0, v1, v2, v3, v4, v5, v6, v7, v8] (.int (am_i 1) :: sk) st Q := am_gu.trans rfl
set_option maxRecDepth 100000 in
theorem u8900_727 {v0 : Value} {v1 : Value} {v2 : Value} {v3 : Value} {v4 : Value} {v5 : Value} {v6 : Value} {v7 : Value} {v8 : Value} {x : Int32} {y : Int32} : am_g d X am_m8900 727 [v0, v1, v2, v3, v4, v5, v6, v7, v8] (.int y :: .int x :: sk) st Q = am_g d X am_m8900 728 [v0, v1, v2, v3, v4, v5, v6, v7, v8] (.int (x + y) :: sk) st Q := am_gu.trans rfl
set_option maxRecDepth 100000 in
theorem u8900_728 {v0 : Value} {v1 : Value} {v2 : Value} {v3 : Value} {v4 : Value} {v5 : Value} {v6 : Value} {v7 : Value} {v8 : Value} : am_g d X am_m8900 728 [v0, v1, v2, v3, v4, v5, v6, v7, v8] sk st Q = am_xl (X.1, X.2.1, d) am_m8900 729 [v0, v1, v2, v3, v4, v5, v6, v7, v8] sk st (fun pc lc sk st => am_g d X am_m8900 pc lc sk st Q) := am_gu.trans rfl
set_option maxRecDepth 100000 in
theorem u8900_729 {v0 : Value} {v1 : Value} {v2 : Value} {v4 : Value} {v5 : Value} {v6 : Value} {v7 : Value} {v8 : Value} {x : Nat} : am_g d X am_m8900 729 [v0, v1, v2, .ref x, v4, v5, v6, v7, v8] sk st Q = am_g d X am_m8900 730 [v0, v1, v2, .ref x, v4, v5, v6, v7, v8] (.ref x :: sk) st Q := am_gu.trans rfl
set_option maxRecDepth 100000 in
theorem u8900_730 {a0 : Value} {a1 : Value} {a2 : Value} {v0 : Value} {v1 : Value} {v2 : Value} {v3 : Value} {v4 : Value} {v5 : Value} {v6 : Value} {v7 : Value} {v8 : Value} : am_g d X am_m8900 730 [v0, v1, v2, v3, v4, v5, v6, v7, v8] (a2 :: a1 :: a0 :: sk) st Q = (sk.length ≤ 4 ∧ am_Ca X d 8009 [a0, a1, a2] st (am_af am_m8900 730 [v0, v1, v2, v3, v4, v5, v6, v7, v8] sk (fun pc lc sk st => am_g d X am_m8900 pc lc sk st Q) Q)) := am_gu.trans (propext ⟨fun h => ⟨h.1.2, h.2⟩, fun h => ⟨⟨Nat.le_add_left _ _, h.1⟩, h.2⟩⟩)
set_option maxRecDepth 100000 in
theorem u8900_733 {v0 : Value} {v1 : Value} {v2 : Value} {v3 : Value} {v4 : Value} {v5 : Value} {v6 : Value} {v7 : Value} {v8 : Value} {x : Int32} : am_g d X am_m8900 733 [v0, v1, v2, v3, v4, v5, v6, v7, v8] (.int x :: sk) st Q = am_g d X am_m8900 735 [v0, v1, v2, v3, am_kc v4, .int x, v6, v7, v8] sk st Q := am_gu.trans (congrArg (fun l => am_g d X am_m8900 735 (List.set l 5 (.int x)) sk st Q) (kl_5 (l := [v5, v6, v7, v8])))
set_option maxRecDepth 100000 in
theorem u8900_735 {v0 : Value} {v1 : Value} {v3 : Value} {v4 : Value} {v5 : Value} {v6 : Value} {v7 : Value} {v8 : Value} {x : Nat} : am_g d X am_m8900 735 [v0, v1, .ref x, v3, v4, v5, v6, v7, v8] sk st Q = am_g d X am_m8900 736 [v0, v1, .ref x, v3, v4, v5, v6, v7, v8] (.ref x :: sk) st Q := am_gu.trans rfl
set_option maxRecDepth 100000 in
theorem u8900_736 {v1 : Value} {v2 : Value} {v3 : Value} {v4 : Value} {v5 : Value} {v6 : Value} {v7 : Value} {v8 : Value} : am_g d X am_m8900 736 [.retAddr 0, v1, v2, v3, v4, v5, v6, v7, v8] sk st Q = am_g d X am_m8900 737 [.retAddr 0, v1, v2, v3, v4, v5, v6, v7, v8] (.retAddr 0 :: sk) st Q := am_gu.trans rfl
set_option maxRecDepth 100000 in
theorem u8900_737 {v0 : Value} {v1 : Value} {v2 : Value} {v3 : Value} {v5 : Value} {v6 : Value} {v7 : Value} {v8 : Value} {x : Int32} : am_g d X am_m8900 737 [v0, v1, v2, v3, .int x, v5, v6, v7, v8] sk st Q = am_g d X am_m8900 739 [v0, v1, v2, v3, .int x, v5, v6, v7, v8] (.int x :: sk) st Q := am_gu.trans rfl
set_option maxRecDepth 100000 in
theorem u8900_739 {v0 : Value} {v1 : Value} {v2 : Value} {v3 : Value} {v4 : Value} {v5 : Value} {v6 : Value} {v7 : Value} {v8 : Value} : am_g d X am_m8900 739 [v0, v1, v2, v3, v4, v5, v6, v7, v8] sk st Q = am_g d X am_m8900 740 [v0, v1, v2, v3, v4, v5, v6, v7, v8] (.int (am_i 1) :: sk) st Q := am_gu.trans rfl
set_option maxRecDepth 100000 in
theorem u8900_740 {v0 : Value} {v1 : Value} {v2 : Value} {v3 : Value} {v4 : Value} {v5 : Value} {v6 : Value} {v7 : Value} {v8 : Value} {x : Int32} {y : Int32} : am_g d X am_m8900 740 [v0, v1, v2, v3, v4, v5, v6, v7, v8] (.int y :: .int x :: sk) st Q = am_g d X am_m8900 741 [v0, v1, v2, v3, v4, v5, v6, v7, v8] (.int (x + y) :: sk) st Q := am_gu.trans rfl
set_option maxRecDepth 100000 in
theorem u8900_741 {v0 : Value} {v1 : Value} {v2 : Value} {v3 : Value} {v4 : Value} {v5 : Value} {v6 : Value} {v7 : Value} {v8 : Value} : am_g d X am_m8900 741 [v0, v1, v2, v3, v4, v5, v6, v7, v8] sk st Q = am_xl (X.1, X.2.1, d) am_m8900 742 [v0, v1, v2, v3, v4, v5, v6, v7, v8] sk st (fun pc lc sk st => am_g d X am_m8900 pc lc sk st Q) := am_gu.trans rfl
set_option maxRecDepth 100000 in
theorem u8900_742 {a0 : Value} {v0 : Value} {v1 : Value} {v2 : Value} {v3 : Value} {v4 : Value} {v5 : Value} {v6 : Value} {v7 : Value} {v8 : Value} : am_g d X am_m8900 742 [v0, v1, v2, v3, v4, v5, v6, v7, v8] (a0 :: .ref o :: sk) st Q = ((am_ob st o 7 ∧ sk.length ≤ 4) ∧ am_Ca X d 7059 [.ref o, a0] st (am_af am_m8900 742 [v0, v1, v2, v3, v4, v5, v6, v7, v8] sk (fun pc lc sk st => am_g d X am_m8900 pc lc sk st Q) Q)) := am_gu.trans rfl
set_option maxRecDepth 100000 in
theorem u8900_745 {v0 : Value} {v1 : Value} {v2 : Value} {v3 : Value} {v4 : Value} {v5 : Value} {v6 : Value} {v7 : Value} {v8 : Value} {x : Int32} : am_g d X am_m8900 745 [v0, v1, v2, v3, v4, v5, v6, v7, v8] (.int x :: sk) st Q = am_g d X am_m8900 747 [v0, v1, v2, v3, v4, am_kc v5, .int x, v7, v8] sk st Q := am_gu.trans (congrArg (fun l => am_g d X am_m8900 747 (List.set l 6 (.int x)) sk st Q) (kl_6 (l := [v6, v7, v8])))
set_option maxRecDepth 100000 in
theorem u8900_747 {v0 : Value} {v1 : Value} {v3 : Value} {v4 : Value} {v5 : Value} {v6 : Value} {v7 : Value} {v8 : Value} {x : Nat} : am_g d X am_m8900 747 [v0, v1, .ref x, v3, v4, v5, v6, v7, v8] sk st Q = am_g d X am_m8900 748 [v0, v1, .ref x, v3, v4, v5, v6, v7, v8] (.ref x :: sk) st Q := am_gu.trans rfl
set_option maxRecDepth 100000 in
theorem u8900_748 {v0 : Value} {v1 : Value} {v2 : Value} {v3 : Value} {v4 : Value} {v5 : Value} {v6 : Value} {v7 : Value} {v8 : Value} : am_g d X am_m8900 748 [v0, v1, v2, v3, v4, v5, v6, v7, v8] (.ref o :: sk) st Q = ((am_ob st o 7 ∧ sk.length ≤ 4) ∧ am_Ca X d 7002 [.ref o] st (am_af am_m8900 748 [v0, v1, v2, v3, v4, v5, v6, v7, v8] sk (fun pc lc sk st => am_g d X am_m8900 pc lc sk st Q) Q)) := am_gu.trans rfl
set_option maxRecDepth 100000 in
theorem u8900_751 {v0 : Value} {v1 : Value} {v2 : Value} {v3 : Value} {v4 : Value} {v6 : Value} {v7 : Value} {v8 : Value} {x : Int32} : am_g d X am_m8900 751 [v0, v1, v2, v3, v4, .int x, v6, v7, v8] sk st Q = am_g d X am_m8900 753 [v0, v1, v2, v3, v4, .int x, v6, v7, v8] (.int x :: sk) st Q := am_gu.trans rfl
set_option maxRecDepth 100000 in
theorem u8900_753 {v0 : Value} {v1 : Value} {v2 : Value} {v3 : Value} {v4 : Value} {v5 : Value} {v6 : Value} {v7 : Value} {v8 : Value} {x : Int32} {y : Int32} : am_g d X am_m8900 753 [v0, v1, v2, v3, v4, v5, v6, v7, v8] (.int y :: .int x :: sk) st Q = (if decide (x = y) = true then am_g d X am_m8900 758 [v0, v1, v2, v3, v4, v5, v6, v7, v8] sk st Q else am_g d X am_m8900 756 [v0, v1, v2, v3, v4, v5, v6, v7, v8] sk st Q) := am_gu.trans rfl
set_option maxRecDepth 100000 in
theorem u8900_756 {v0 : Value} {v1 : Value} {v2 : Value} {v3 : Value} {v4 : Value} {v5 : Value} {v6 : Value} {v7 : Value} {v8 : Value} : am_g d X am_m8900 756 [v0, v1, v2, v3, v4, v5, v6, v7, v8] sk st Q = am_g d X am_m8900 757 [v0, v1, v2, v3, v4, v5, v6, v7, v8] (.int (am_i 0) :: sk) st Q := am_gu.trans rfl
set_option maxRecDepth 100000 in
theorem u8900_757 {v0 : Value} {v1 : Value} {v2 : Value} {v3 : Value} {v4 : Value} {v5 : Value} {v6 : Value} {v7 : Value} {v8 : Value} {x : Int32} : am_g d X am_m8900 757 [v0, v1, v2, v3, v4, v5, v6, v7, v8] [.int x] st Q = ((x = 0 ∨ x = 1) ∧ Q (.inl (some (.int x))) st) := am_gu.trans rfl
set_option maxRecDepth 100000 in
theorem u8900_758 {v0 : Value} {v1 : Value} {v2 : Value} {v3 : Value} {v4 : Value} {v6 : Value} {v7 : Value} {v8 : Value} {x : Int32} : am_g d X am_m8900 758 [v0, v1, v2, v3, v4, .int x, v6, v7, v8] sk st Q = am_g d X am_m8900 760 [v0, v1, v2, v3, v4, .int x, v6, v7, v8] (.int x :: sk) st Q := am_gu.trans rfl
set_option maxRecDepth 100000 in
theorem u8900_760 {v0 : Value} {v1 : Value} {v2 : Value} {v3 : Value} {v4 : Value} {v5 : Value} {v6 : Value} {v7 : Value} {v8 : Value} {x : Int32} : am_g d X am_m8900 760 [v0, v1, v2, v3, v4, v5, v6, v7, v8] (.int x :: sk) st Q = (if decide (¬ x = 0) = true then am_g d X am_m8900 775 [v0, v1, v2, v3, v4, v5, v6, v7, v8] sk st Q else am_g d X am_m8900 763 [v0, v1, v2, v3, v4, v5, v6, v7, v8] sk st Q) := am_gu.trans rfl
set_option maxRecDepth 100000 in
theorem u8900_763 {v0 : Value} {v1 : Value} {v2 : Value} {v4 : Value} {v5 : Value} {v6 : Value} {v7 : Value} {v8 : Value} {x : Nat} : am_g d X am_m8900 763 [v0, v1, v2, .ref x, v4, v5, v6, v7, v8] sk st Q = am_g d X am_m8900 764 [v0, v1, v2, .ref x, v4, v5, v6, v7, v8] (.ref x :: sk) st Q := am_gu.trans rfl
set_option maxRecDepth 100000 in
theorem u8900_764 {v0 : Value} {v1 : Value} {v2 : Value} {v3 : Value} {v4 : Value} {v5 : Value} {v6 : Value} {v7 : Value} {v8 : Value} : am_g d X am_m8900 764 [v0, v1, v2, v3, v4, v5, v6, v7, v8] sk st Q = am_g d X am_m8900 765 [v0, v1, v2, v3, v4, v5, v6, v7, v8] (.int (am_i 0) :: sk) st Q := am_gu.trans rfl
set_option maxRecDepth 100000 in
theorem u8900_765 {v0 : Value} {v1 : Value} {v2 : Value} {v3 : Value} {v4 : Value} {v5 : Value} {v6 : Value} {v7 : Value} {v8 : Value} : am_g d X am_m8900 765 [v0, v1, v2, v3, v4, v5, v6, v7, v8] sk st Q = am_jl 766 [v0, v1, v2, v3, v4, v5, v6, v7, v8] sk st (fun pc lc sk st => am_g d X am_m8900 pc lc sk st Q) := am_gu.trans rfl
set_option maxRecDepth 100000 in
theorem u8900_766 {v0 : Value} {v1 : Value} {v2 : Value} {v3 : Value} {v4 : Value} {v5 : Value} {v7 : Value} {v8 : Value} {x : Int32} : am_g d X am_m8900 766 [v0, v1, v2, v3, v4, v5, .int x, v7, v8] sk st Q = am_g d X am_m8900 768 [v0, v1, v2, v3, v4, v5, .int x, v7, v8] (.int x :: sk) st Q := am_gu.trans rfl
set_option maxRecDepth 100000 in
theorem u8900_768 {v0 : Value} {v1 : Value} {v2 : Value} {v3 : Value} {v4 : Value} {v5 : Value} {v6 : Value} {v7 : Value} {v8 : Value} {x : Int32} : am_g d X am_m8900 768 [v0, v1, v2, v3, v4, v5, v6, v7, v8] (.int x :: sk) st Q = am_g d X am_m8900 769 [v0, v1, v2, v3, v4, v5, v6, v7, v8] (.long x.toInt64 :: sk) st Q := am_gu.trans rfl
set_option maxRecDepth 100000 in
theorem u8900_769 {v0 : Value} {v1 : Value} {v2 : Value} {v3 : Value} {v4 : Value} {v5 : Value} {v6 : Value} {v7 : Value} {v8 : Value} {x : Int64} {y : Int64} : am_g d X am_m8900 769 [v0, v1, v2, v3, v4, v5, v6, v7, v8] (.long y :: .long x :: sk) st Q = am_g d X am_m8900 770 [v0, v1, v2, v3, v4, v5, v6, v7, v8] (.int (lg_cmp x y) :: sk) st Q := am_gu.trans rfl
set_option maxRecDepth 100000 in
theorem u8900_770 {v0 : Value} {v1 : Value} {v2 : Value} {v3 : Value} {v4 : Value} {v5 : Value} {v6 : Value} {v7 : Value} {v8 : Value} {x : Int32} : am_g d X am_m8900 770 [v0, v1, v2, v3, v4, v5, v6, v7, v8] (.int x :: sk) st Q = (if decide (x = 0) = true then am_g d X am_m8900 775 [v0, v1, v2, v3, v4, v5, v6, v7, v8] sk st Q else am_g d X am_m8900 773 [v0, v1, v2, v3, v4, v5, v6, v7, v8] sk st Q) := am_gu.trans rfl
set_option maxRecDepth 100000 in
theorem u8900_773 {v0 : Value} {v1 : Value} {v2 : Value} {v3 : Value} {v4 : Value} {v5 : Value} {v6 : Value} {v7 : Value} {v8 : Value} : am_g d X am_m8900 773 [v0, v1, v2, v3, v4, v5, v6, v7, v8] sk st Q = am_g d X am_m8900 774 [v0, v1, v2, v3, v4, v5, v6, v7, v8] (.int (am_i 0) :: sk) st Q := am_gu.trans rfl
set_option maxRecDepth 100000 in
theorem u8900_774 {v0 : Value} {v1 : Value} {v2 : Value} {v3 : Value} {v4 : Value} {v5 : Value} {v6 : Value} {v7 : Value} {v8 : Value} {x : Int32} : am_g d X am_m8900 774 [v0, v1, v2, v3, v4, v5, v6, v7, v8] [.int x] st Q = ((x = 0 ∨ x = 1) ∧ Q (.inl (some (.int x))) st) := am_gu.trans rfl
set_option maxRecDepth 100000 in
theorem u8900_775 {v0 : Value} {v1 : Value} {v2 : Value} {v3 : Value} {v4 : Value} {v5 : Value} {v6 : Value} {v7 : Value} {v8 : Value} : am_g d X am_m8900 775 [v0, v1, v2, v3, v4, v5, v6, v7, v8] sk st Q = am_g d X am_m8900 2998 [v0, v1, v2, v3, v4, v5, v6, v7, v8] sk st Q := am_gu.trans rfl
set_option maxRecDepth 100000 in
theorem u8900_778 {v0 : Value} {v2 : Value} {v3 : Value} {v4 : Value} {v5 : Value} {v6 : Value} {v7 : Value} {v8 : Value} {x : Nat} : am_g d X am_m8900 778 [v0, .ref x, v2, v3, v4, v5, v6, v7, v8] sk st Q = am_g d X am_m8900 779 [v0, .ref x, v2, v3, v4, v5, v6, v7, v8] (.ref x :: sk) st Q := am_gu.trans rfl
set_option maxRecDepth 100000 in
theorem u8900_779 {v1 : Value} {v2 : Value} {v3 : Value} {v4 : Value} {v5 : Value} {v6 : Value} {v7 : Value} {v8 : Value} : am_g d X am_m8900 779 [.retAddr 0, v1, v2, v3, v4, v5, v6, v7, v8] sk st Q = am_g d X am_m8900 780 [.retAddr 0, v1, v2, v3, v4, v5, v6, v7, v8] (.retAddr 0 :: sk) st Q := am_gu.trans rfl
set_option maxRecDepth 100000 in
theorem u8900_780 {v0 : Value} {v1 : Value} {v2 : Value} {v3 : Value} {v5 : Value} {v6 : Value} {v7 : Value} {v8 : Value} {x : Int32} : am_g d X am_m8900 780 [v0, v1, v2, v3, .int x, v5, v6, v7, v8] sk st Q = am_g d X am_m8900 782 [v0, v1, v2, v3, .int x, v5, v6, v7, v8] (.int x :: sk) st Q := am_gu.trans rfl
set_option maxRecDepth 100000 in
theorem u8900_782 {v0 : Value} {v1 : Value} {v2 : Value} {v3 : Value} {v4 : Value} {v5 : Value} {v6 : Value} {v7 : Value} {v8 : Value} : am_g d X am_m8900 782 [v0, v1, v2, v3, v4, v5, v6, v7, v8] sk st Q = am_g d X am_m8900 783 [v0, v1, v2, v3, v4, v5, v6, v7, v8] (.int (am_i 1) :: sk) st Q := am_gu.trans rfl
set_option maxRecDepth 100000 in
theorem u8900_783 {v0 : Value} {v1 : Value} {v2 : Value} {v3 : Value} {v4 : Value} {v5 : Value} {v6 : Value} {v7 : Value} {v8 : Value} {x : Int32} {y : Int32} : am_g d X am_m8900 783 [v0, v1, v2, v3, v4, v5, v6, v7, v8] (.int y :: .int x :: sk) st Q = am_g d X am_m8900 784 [v0, v1, v2, v3, v4, v5, v6, v7, v8] (.int (x + y) :: sk) st Q := am_gu.trans rfl
set_option maxRecDepth 100000 in
theorem u8900_784 {v0 : Value} {v1 : Value} {v2 : Value} {v3 : Value} {v4 : Value} {v5 : Value} {v6 : Value} {v7 : Value} {v8 : Value} : am_g d X am_m8900 784 [v0, v1, v2, v3, v4, v5, v6, v7, v8] sk st Q = am_xl (X.1, X.2.1, d) am_m8900 785 [v0, v1, v2, v3, v4, v5, v6, v7, v8] sk st (fun pc lc sk st => am_g d X am_m8900 pc lc sk st Q) := am_gu.trans rfl
set_option maxRecDepth 100000 in
theorem u8900_785 {v0 : Value} {v1 : Value} {v2 : Value} {v4 : Value} {v5 : Value} {v6 : Value} {v7 : Value} {v8 : Value} {x : Nat} : am_g d X am_m8900 785 [v0, v1, v2, .ref x, v4, v5, v6, v7, v8] sk st Q = am_g d X am_m8900 786 [v0, v1, v2, .ref x, v4, v5, v6, v7, v8] (.ref x :: sk) st Q := am_gu.trans rfl
set_option maxRecDepth 100000 in
theorem u8900_786 {a0 : Value} {a1 : Value} {a2 : Value} {v0 : Value} {v1 : Value} {v2 : Value} {v3 : Value} {v4 : Value} {v5 : Value} {v6 : Value} {v7 : Value} {v8 : Value} : am_g d X am_m8900 786 [v0, v1, v2, v3, v4, v5, v6, v7, v8] (a2 :: a1 :: a0 :: sk) st Q = (sk.length ≤ 4 ∧ am_Ca X d 8010 [a0, a1, a2] st (am_af am_m8900 786 [v0, v1, v2, v3, v4, v5, v6, v7, v8] sk (fun pc lc sk st => am_g d X am_m8900 pc lc sk st Q) Q)) := am_gu.trans (propext ⟨fun h => ⟨h.1.2, h.2⟩, fun h => ⟨⟨Nat.le_add_left _ _, h.1⟩, h.2⟩⟩)
set_option maxRecDepth 100000 in
theorem u8900_789 {v0 : Value} {v1 : Value} {v2 : Value} {v3 : Value} {v4 : Value} {v5 : Value} {v6 : Value} {v7 : Value} {v8 : Value} {x : Int32} : am_g d X am_m8900 789 [v0, v1, v2, v3, v4, v5, v6, v7, v8] (.int x :: sk) st Q = am_g d X am_m8900 791 [v0, v1, v2, v3, am_kc v4, .int x, v6, v7, v8] sk st Q := am_gu.trans (congrArg (fun l => am_g d X am_m8900 791 (List.set l 5 (.int x)) sk st Q) (kl_5 (l := [v5, v6, v7, v8])))
set_option maxRecDepth 100000 in
theorem u8900_791 {v0 : Value} {v1 : Value} {v3 : Value} {v4 : Value} {v5 : Value} {v6 : Value} {v7 : Value} {v8 : Value} {x : Nat} : am_g d X am_m8900 791 [v0, v1, .ref x, v3, v4, v5, v6, v7, v8] sk st Q = am_g d X am_m8900 792 [v0, v1, .ref x, v3, v4, v5, v6, v7, v8] (.ref x :: sk) st Q := am_gu.trans rfl
set_option maxRecDepth 100000 in
theorem u8900_792 {v1 : Value} {v2 : Value} {v3 : Value} {v4 : Value} {v5 : Value} {v6 : Value} {v7 : Value} {v8 : Value} : am_g d X am_m8900 792 [.retAddr 0, v1, v2, v3, v4, v5, v6, v7, v8] sk st Q = am_g d X am_m8900 793 [.retAddr 0, v1, v2, v3, v4, v5, v6, v7, v8] (.retAddr 0 :: sk) st Q := am_gu.trans rfl
set_option maxRecDepth 100000 in
theorem u8900_793 {v0 : Value} {v1 : Value} {v2 : Value} {v3 : Value} {v5 : Value} {v6 : Value} {v7 : Value} {v8 : Value} {x : Int32} : am_g d X am_m8900 793 [v0, v1, v2, v3, .int x, v5, v6, v7, v8] sk st Q = am_g d X am_m8900 795 [v0, v1, v2, v3, .int x, v5, v6, v7, v8] (.int x :: sk) st Q := am_gu.trans rfl
set_option maxRecDepth 100000 in
theorem u8900_795 {v0 : Value} {v1 : Value} {v2 : Value} {v3 : Value} {v4 : Value} {v5 : Value} {v6 : Value} {v7 : Value} {v8 : Value} : am_g d X am_m8900 795 [v0, v1, v2, v3, v4, v5, v6, v7, v8] sk st Q = am_g d X am_m8900 796 [v0, v1, v2, v3, v4, v5, v6, v7, v8] (.int (am_i 1) :: sk) st Q := am_gu.trans rfl
set_option maxRecDepth 100000 in
theorem u8900_796 {v0 : Value} {v1 : Value} {v2 : Value} {v3 : Value} {v4 : Value} {v5 : Value} {v6 : Value} {v7 : Value} {v8 : Value} {x : Int32} {y : Int32} : am_g d X am_m8900 796 [v0, v1, v2, v3, v4, v5, v6, v7, v8] (.int y :: .int x :: sk) st Q = am_g d X am_m8900 797 [v0, v1, v2, v3, v4, v5, v6, v7, v8] (.int (x + y) :: sk) st Q := am_gu.trans rfl
set_option maxRecDepth 100000 in
theorem u8900_797 {v0 : Value} {v1 : Value} {v2 : Value} {v3 : Value} {v4 : Value} {v5 : Value} {v6 : Value} {v7 : Value} {v8 : Value} : am_g d X am_m8900 797 [v0, v1, v2, v3, v4, v5, v6, v7, v8] sk st Q = am_xl (X.1, X.2.1, d) am_m8900 798 [v0, v1, v2, v3, v4, v5, v6, v7, v8] sk st (fun pc lc sk st => am_g d X am_m8900 pc lc sk st Q) := am_gu.trans rfl
set_option maxRecDepth 100000 in
theorem u8900_798 {a0 : Value} {v0 : Value} {v1 : Value} {v2 : Value} {v3 : Value} {v4 : Value} {v5 : Value} {v6 : Value} {v7 : Value} {v8 : Value} : am_g d X am_m8900 798 [v0, v1, v2, v3, v4, v5, v6, v7, v8] (a0 :: .ref o :: sk) st Q = ((am_ob st o 7 ∧ sk.length ≤ 4) ∧ am_Ca X d 7060 [.ref o, a0] st (am_af am_m8900 798 [v0, v1, v2, v3, v4, v5, v6, v7, v8] sk (fun pc lc sk st => am_g d X am_m8900 pc lc sk st Q) Q)) := am_gu.trans rfl
set_option maxRecDepth 100000 in
theorem u8900_801 {v0 : Value} {v1 : Value} {v2 : Value} {v3 : Value} {v4 : Value} {v5 : Value} {v6 : Value} {v7 : Value} {v8 : Value} {x : Int32} : am_g d X am_m8900 801 [v0, v1, v2, v3, v4, v5, v6, v7, v8] (.int x :: sk) st Q = am_g d X am_m8900 803 [v0, v1, v2, v3, v4, am_kc v5, .int x, v7, v8] sk st Q := am_gu.trans (congrArg (fun l => am_g d X am_m8900 803 (List.set l 6 (.int x)) sk st Q) (kl_6 (l := [v6, v7, v8])))
set_option maxRecDepth 100000 in
theorem u8900_803 {v0 : Value} {v1 : Value} {v3 : Value} {v4 : Value} {v5 : Value} {v6 : Value} {v7 : Value} {v8 : Value} {x : Nat} : am_g d X am_m8900 803 [v0, v1, .ref x, v3, v4, v5, v6, v7, v8] sk st Q = am_g d X am_m8900 804 [v0, v1, .ref x, v3, v4, v5, v6, v7, v8] (.ref x :: sk) st Q := am_gu.trans rfl
set_option maxRecDepth 100000 in
theorem u8900_804 {v0 : Value} {v1 : Value} {v2 : Value} {v3 : Value} {v4 : Value} {v5 : Value} {v6 : Value} {v7 : Value} {v8 : Value} : am_g d X am_m8900 804 [v0, v1, v2, v3, v4, v5, v6, v7, v8] (.ref o :: sk) st Q = ((am_ob st o 7 ∧ sk.length ≤ 4) ∧ am_Ca X d 7002 [.ref o] st (am_af am_m8900 804 [v0, v1, v2, v3, v4, v5, v6, v7, v8] sk (fun pc lc sk st => am_g d X am_m8900 pc lc sk st Q) Q)) := am_gu.trans rfl
set_option maxRecDepth 100000 in
theorem u8900_807 {v0 : Value} {v1 : Value} {v2 : Value} {v3 : Value} {v4 : Value} {v6 : Value} {v7 : Value} {v8 : Value} {x : Int32} : am_g d X am_m8900 807 [v0, v1, v2, v3, v4, .int x, v6, v7, v8] sk st Q = am_g d X am_m8900 809 [v0, v1, v2, v3, v4, .int x, v6, v7, v8] (.int x :: sk) st Q := am_gu.trans rfl
set_option maxRecDepth 100000 in
theorem u8900_809 {v0 : Value} {v1 : Value} {v2 : Value} {v3 : Value} {v4 : Value} {v5 : Value} {v6 : Value} {v7 : Value} {v8 : Value} {x : Int32} {y : Int32} : am_g d X am_m8900 809 [v0, v1, v2, v3, v4, v5, v6, v7, v8] (.int y :: .int x :: sk) st Q = (if decide (x = y) = true then am_g d X am_m8900 814 [v0, v1, v2, v3, v4, v5, v6, v7, v8] sk st Q else am_g d X am_m8900 812 [v0, v1, v2, v3, v4, v5, v6, v7, v8] sk st Q) := am_gu.trans rfl
set_option maxRecDepth 100000 in
theorem u8900_812 {v0 : Value} {v1 : Value} {v2 : Value} {v3 : Value} {v4 : Value} {v5 : Value} {v6 : Value} {v7 : Value} {v8 : Value} : am_g d X am_m8900 812 [v0, v1, v2, v3, v4, v5, v6, v7, v8] sk st Q = am_g d X am_m8900 813 [v0, v1, v2, v3, v4, v5, v6, v7, v8] (.int (am_i 0) :: sk) st Q := am_gu.trans rfl
set_option maxRecDepth 100000 in
theorem u8900_813 {v0 : Value} {v1 : Value} {v2 : Value} {v3 : Value} {v4 : Value} {v5 : Value} {v6 : Value} {v7 : Value} {v8 : Value} {x : Int32} : am_g d X am_m8900 813 [v0, v1, v2, v3, v4, v5, v6, v7, v8] [.int x] st Q = ((x = 0 ∨ x = 1) ∧ Q (.inl (some (.int x))) st) := am_gu.trans rfl
set_option maxRecDepth 100000 in
theorem u8900_814 {v0 : Value} {v1 : Value} {v2 : Value} {v3 : Value} {v4 : Value} {v6 : Value} {v7 : Value} {v8 : Value} {x : Int32} : am_g d X am_m8900 814 [v0, v1, v2, v3, v4, .int x, v6, v7, v8] sk st Q = am_g d X am_m8900 816 [v0, v1, v2, v3, v4, .int x, v6, v7, v8] (.int x :: sk) st Q := am_gu.trans rfl
set_option maxRecDepth 100000 in
theorem u8900_816 {v0 : Value} {v1 : Value} {v2 : Value} {v3 : Value} {v4 : Value} {v5 : Value} {v6 : Value} {v7 : Value} {v8 : Value} {x : Int32} : am_g d X am_m8900 816 [v0, v1, v2, v3, v4, v5, v6, v7, v8] (.int x :: sk) st Q = (if decide (¬ x = 0) = true then am_g d X am_m8900 831 [v0, v1, v2, v3, v4, v5, v6, v7, v8] sk st Q else am_g d X am_m8900 819 [v0, v1, v2, v3, v4, v5, v6, v7, v8] sk st Q) := am_gu.trans rfl
set_option maxRecDepth 100000 in
theorem u8900_819 {v0 : Value} {v1 : Value} {v2 : Value} {v4 : Value} {v5 : Value} {v6 : Value} {v7 : Value} {v8 : Value} {x : Nat} : am_g d X am_m8900 819 [v0, v1, v2, .ref x, v4, v5, v6, v7, v8] sk st Q = am_g d X am_m8900 820 [v0, v1, v2, .ref x, v4, v5, v6, v7, v8] (.ref x :: sk) st Q := am_gu.trans rfl
set_option maxRecDepth 100000 in
theorem u8900_820 {v0 : Value} {v1 : Value} {v2 : Value} {v3 : Value} {v4 : Value} {v5 : Value} {v6 : Value} {v7 : Value} {v8 : Value} : am_g d X am_m8900 820 [v0, v1, v2, v3, v4, v5, v6, v7, v8] sk st Q = am_g d X am_m8900 821 [v0, v1, v2, v3, v4, v5, v6, v7, v8] (.int (am_i 0) :: sk) st Q := am_gu.trans rfl
set_option maxRecDepth 100000 in
theorem u8900_821 {v0 : Value} {v1 : Value} {v2 : Value} {v3 : Value} {v4 : Value} {v5 : Value} {v6 : Value} {v7 : Value} {v8 : Value} : am_g d X am_m8900 821 [v0, v1, v2, v3, v4, v5, v6, v7, v8] sk st Q = am_jl 822 [v0, v1, v2, v3, v4, v5, v6, v7, v8] sk st (fun pc lc sk st => am_g d X am_m8900 pc lc sk st Q) := am_gu.trans rfl
set_option maxRecDepth 100000 in
theorem u8900_822 {v0 : Value} {v1 : Value} {v2 : Value} {v3 : Value} {v4 : Value} {v5 : Value} {v7 : Value} {v8 : Value} {x : Int32} : am_g d X am_m8900 822 [v0, v1, v2, v3, v4, v5, .int x, v7, v8] sk st Q = am_g d X am_m8900 824 [v0, v1, v2, v3, v4, v5, .int x, v7, v8] (.int x :: sk) st Q := am_gu.trans rfl
set_option maxRecDepth 100000 in
theorem u8900_824 {v0 : Value} {v1 : Value} {v2 : Value} {v3 : Value} {v4 : Value} {v5 : Value} {v6 : Value} {v7 : Value} {v8 : Value} {x : Int32} : am_g d X am_m8900 824 [v0, v1, v2, v3, v4, v5, v6, v7, v8] (.int x :: sk) st Q = am_g d X am_m8900 825 [v0, v1, v2, v3, v4, v5, v6, v7, v8] (.long x.toInt64 :: sk) st Q := am_gu.trans rfl
set_option maxRecDepth 100000 in
theorem u8900_825 {v0 : Value} {v1 : Value} {v2 : Value} {v3 : Value} {v4 : Value} {v5 : Value} {v6 : Value} {v7 : Value} {v8 : Value} {x : Int64} {y : Int64} : am_g d X am_m8900 825 [v0, v1, v2, v3, v4, v5, v6, v7, v8] (.long y :: .long x :: sk) st Q = am_g d X am_m8900 826 [v0, v1, v2, v3, v4, v5, v6, v7, v8] (.int (lg_cmp x y) :: sk) st Q := am_gu.trans rfl
set_option maxRecDepth 100000 in
theorem u8900_826 {v0 : Value} {v1 : Value} {v2 : Value} {v3 : Value} {v4 : Value} {v5 : Value} {v6 : Value} {v7 : Value} {v8 : Value} {x : Int32} : am_g d X am_m8900 826 [v0, v1, v2, v3, v4, v5, v6, v7, v8] (.int x :: sk) st Q = (if decide (x = 0) = true then am_g d X am_m8900 831 [v0, v1, v2, v3, v4, v5, v6, v7, v8] sk st Q else am_g d X am_m8900 829 [v0, v1, v2, v3, v4, v5, v6, v7, v8] sk st Q) := am_gu.trans rfl
set_option maxRecDepth 100000 in
theorem u8900_829 {v0 : Value} {v1 : Value} {v2 : Value} {v3 : Value} {v4 : Value} {v5 : Value} {v6 : Value} {v7 : Value} {v8 : Value} : am_g d X am_m8900 829 [v0, v1, v2, v3, v4, v5, v6, v7, v8] sk st Q = am_g d X am_m8900 830 [v0, v1, v2, v3, v4, v5, v6, v7, v8] (.int (am_i 0) :: sk) st Q := am_gu.trans rfl
set_option maxRecDepth 100000 in
theorem u8900_830 {v0 : Value} {v1 : Value} {v2 : Value} {v3 : Value} {v4 : Value} {v5 : Value} {v6 : Value} {v7 : Value} {v8 : Value} {x : Int32} : am_g d X am_m8900 830 [v0, v1, v2, v3, v4, v5, v6, v7, v8] [.int x] st Q = ((x = 0 ∨ x = 1) ∧ Q (.inl (some (.int x))) st) := am_gu.trans rfl
set_option maxRecDepth 100000 in
theorem u8900_831 {v0 : Value} {v1 : Value} {v2 : Value} {v3 : Value} {v4 : Value} {v5 : Value} {v6 : Value} {v7 : Value} {v8 : Value} : am_g d X am_m8900 831 [v0, v1, v2, v3, v4, v5, v6, v7, v8] sk st Q = am_g d X am_m8900 2998 [v0, v1, v2, v3, v4, v5, v6, v7, v8] sk st Q := am_gu.trans rfl
set_option maxRecDepth 100000 in
theorem u8900_834 {v0 : Value} {v2 : Value} {v3 : Value} {v4 : Value} {v5 : Value} {v6 : Value} {v7 : Value} {v8 : Value} {x : Nat} : am_g d X am_m8900 834 [v0, .ref x, v2, v3, v4, v5, v6, v7, v8] sk st Q = am_g d X am_m8900 835 [v0, .ref x, v2, v3, v4, v5, v6, v7, v8] (.ref x :: sk) st Q := am_gu.trans rfl
set_option maxRecDepth 100000 in
theorem u8900_835 {v1 : Value} {v2 : Value} {v3 : Value} {v4 : Value} {v5 : Value} {v6 : Value} {v7 : Value} {v8 : Value} : am_g d X am_m8900 835 [.retAddr 0, v1, v2, v3, v4, v5, v6, v7, v8] sk st Q = am_g d X am_m8900 836 [.retAddr 0, v1, v2, v3, v4, v5, v6, v7, v8] (.retAddr 0 :: sk) st Q := am_gu.trans rfl
set_option maxRecDepth 100000 in
theorem u8900_836 {v0 : Value} {v1 : Value} {v2 : Value} {v3 : Value} {v5 : Value} {v6 : Value} {v7 : Value} {v8 : Value} {x : Int32} : am_g d X am_m8900 836 [v0, v1, v2, v3, .int x, v5, v6, v7, v8] sk st Q = am_g d X am_m8900 838 [v0, v1, v2, v3, .int x, v5, v6, v7, v8] (.int x :: sk) st Q := am_gu.trans rfl
set_option maxRecDepth 100000 in
theorem u8900_838 {v0 : Value} {v1 : Value} {v2 : Value} {v3 : Value} {v4 : Value} {v5 : Value} {v6 : Value} {v7 : Value} {v8 : Value} : am_g d X am_m8900 838 [v0, v1, v2, v3, v4, v5, v6, v7, v8] sk st Q = am_g d X am_m8900 839 [v0, v1, v2, v3, v4, v5, v6, v7, v8] (.int (am_i 1) :: sk) st Q := am_gu.trans rfl
set_option maxRecDepth 100000 in
theorem u8900_839 {v0 : Value} {v1 : Value} {v2 : Value} {v3 : Value} {v4 : Value} {v5 : Value} {v6 : Value} {v7 : Value} {v8 : Value} {x : Int32} {y : Int32} : am_g d X am_m8900 839 [v0, v1, v2, v3, v4, v5, v6, v7, v8] (.int y :: .int x :: sk) st Q = am_g d X am_m8900 840 [v0, v1, v2, v3, v4, v5, v6, v7, v8] (.int (x + y) :: sk) st Q := am_gu.trans rfl
set_option maxRecDepth 100000 in
theorem u8900_840 {v0 : Value} {v1 : Value} {v2 : Value} {v3 : Value} {v4 : Value} {v5 : Value} {v6 : Value} {v7 : Value} {v8 : Value} : am_g d X am_m8900 840 [v0, v1, v2, v3, v4, v5, v6, v7, v8] sk st Q = am_xl (X.1, X.2.1, d) am_m8900 841 [v0, v1, v2, v3, v4, v5, v6, v7, v8] sk st (fun pc lc sk st => am_g d X am_m8900 pc lc sk st Q) := am_gu.trans rfl
set_option maxRecDepth 100000 in
theorem u8900_841 {v0 : Value} {v1 : Value} {v2 : Value} {v4 : Value} {v5 : Value} {v6 : Value} {v7 : Value} {v8 : Value} {x : Nat} : am_g d X am_m8900 841 [v0, v1, v2, .ref x, v4, v5, v6, v7, v8] sk st Q = am_g d X am_m8900 842 [v0, v1, v2, .ref x, v4, v5, v6, v7, v8] (.ref x :: sk) st Q := am_gu.trans rfl
set_option maxRecDepth 100000 in
theorem u8900_842 {a0 : Value} {a1 : Value} {a2 : Value} {v0 : Value} {v1 : Value} {v2 : Value} {v3 : Value} {v4 : Value} {v5 : Value} {v6 : Value} {v7 : Value} {v8 : Value} : am_g d X am_m8900 842 [v0, v1, v2, v3, v4, v5, v6, v7, v8] (a2 :: a1 :: a0 :: sk) st Q = (sk.length ≤ 4 ∧ am_Ca X d 8011 [a0, a1, a2] st (am_af am_m8900 842 [v0, v1, v2, v3, v4, v5, v6, v7, v8] sk (fun pc lc sk st => am_g d X am_m8900 pc lc sk st Q) Q)) := am_gu.trans (propext ⟨fun h => ⟨h.1.2, h.2⟩, fun h => ⟨⟨Nat.le_add_left _ _, h.1⟩, h.2⟩⟩)
set_option maxRecDepth 100000 in
theorem u8900_845 {v0 : Value} {v1 : Value} {v2 : Value} {v3 : Value} {v4 : Value} {v5 : Value} {v6 : Value} {v7 : Value} {v8 : Value} {x : Int32} : am_g d X am_m8900 845 [v0, v1, v2, v3, v4, v5, v6, v7, v8] (.int x :: sk) st Q = am_g d X am_m8900 847 [v0, v1, v2, v3, am_kc v4, .int x, v6, v7, v8] sk st Q := am_gu.trans (congrArg (fun l => am_g d X am_m8900 847 (List.set l 5 (.int x)) sk st Q) (kl_5 (l := [v5, v6, v7, v8])))
set_option maxRecDepth 100000 in
theorem u8900_847 {v0 : Value} {v1 : Value} {v3 : Value} {v4 : Value} {v5 : Value} {v6 : Value} {v7 : Value} {v8 : Value} {x : Nat} : am_g d X am_m8900 847 [v0, v1, .ref x, v3, v4, v5, v6, v7, v8] sk st Q = am_g d X am_m8900 848 [v0, v1, .ref x, v3, v4, v5, v6, v7, v8] (.ref x :: sk) st Q := am_gu.trans rfl
set_option maxRecDepth 100000 in
theorem u8900_848 {v1 : Value} {v2 : Value} {v3 : Value} {v4 : Value} {v5 : Value} {v6 : Value} {v7 : Value} {v8 : Value} : am_g d X am_m8900 848 [.retAddr 0, v1, v2, v3, v4, v5, v6, v7, v8] sk st Q = am_g d X am_m8900 849 [.retAddr 0, v1, v2, v3, v4, v5, v6, v7, v8] (.retAddr 0 :: sk) st Q := am_gu.trans rfl
set_option maxRecDepth 100000 in
theorem u8900_849 {v0 : Value} {v1 : Value} {v2 : Value} {v3 : Value} {v5 : Value} {v6 : Value} {v7 : Value} {v8 : Value} {x : Int32} : am_g d X am_m8900 849 [v0, v1, v2, v3, .int x, v5, v6, v7, v8] sk st Q = am_g d X am_m8900 851 [v0, v1, v2, v3, .int x, v5, v6, v7, v8] (.int x :: sk) st Q := am_gu.trans rfl
set_option maxRecDepth 100000 in
theorem u8900_851 {v0 : Value} {v1 : Value} {v2 : Value} {v3 : Value} {v4 : Value} {v5 : Value} {v6 : Value} {v7 : Value} {v8 : Value} : am_g d X am_m8900 851 [v0, v1, v2, v3, v4, v5, v6, v7, v8] sk st Q = am_g d X am_m8900 852 [v0, v1, v2, v3, v4, v5, v6, v7, v8] (.int (am_i 1) :: sk) st Q := am_gu.trans rfl
set_option maxRecDepth 100000 in
theorem u8900_852 {v0 : Value} {v1 : Value} {v2 : Value} {v3 : Value} {v4 : Value} {v5 : Value} {v6 : Value} {v7 : Value} {v8 : Value} {x : Int32} {y : Int32} : am_g d X am_m8900 852 [v0, v1, v2, v3, v4, v5, v6, v7, v8] (.int y :: .int x :: sk) st Q = am_g d X am_m8900 853 [v0, v1, v2, v3, v4, v5, v6, v7, v8] (.int (x + y) :: sk) st Q := am_gu.trans rfl
set_option maxRecDepth 100000 in
theorem u8900_853 {v0 : Value} {v1 : Value} {v2 : Value} {v3 : Value} {v4 : Value} {v5 : Value} {v6 : Value} {v7 : Value} {v8 : Value} : am_g d X am_m8900 853 [v0, v1, v2, v3, v4, v5, v6, v7, v8] sk st Q = am_xl (X.1, X.2.1, d) am_m8900 854 [v0, v1, v2, v3, v4, v5, v6, v7, v8] sk st (fun pc lc sk st => am_g d X am_m8900 pc lc sk st Q) := am_gu.trans rfl
set_option maxRecDepth 100000 in
theorem u8900_854 {a0 : Value} {v0 : Value} {v1 : Value} {v2 : Value} {v3 : Value} {v4 : Value} {v5 : Value} {v6 : Value} {v7 : Value} {v8 : Value} : am_g d X am_m8900 854 [v0, v1, v2, v3, v4, v5, v6, v7, v8] (a0 :: .ref o :: sk) st Q = ((am_ob st o 7 ∧ sk.length ≤ 4) ∧ am_Ca X d 7061 [.ref o, a0] st (am_af am_m8900 854 [v0, v1, v2, v3, v4, v5, v6, v7, v8] sk (fun pc lc sk st => am_g d X am_m8900 pc lc sk st Q) Q)) := am_gu.trans rfl
set_option maxRecDepth 100000 in
theorem u8900_857 {v0 : Value} {v1 : Value} {v2 : Value} {v3 : Value} {v4 : Value} {v5 : Value} {v6 : Value} {v7 : Value} {v8 : Value} {x : Int32} : am_g d X am_m8900 857 [v0, v1, v2, v3, v4, v5, v6, v7, v8] (.int x :: sk) st Q = am_g d X am_m8900 859 [v0, v1, v2, v3, v4, am_kc v5, .int x, v7, v8] sk st Q := am_gu.trans (congrArg (fun l => am_g d X am_m8900 859 (List.set l 6 (.int x)) sk st Q) (kl_6 (l := [v6, v7, v8])))
set_option maxRecDepth 100000 in
theorem u8900_859 {v0 : Value} {v1 : Value} {v3 : Value} {v4 : Value} {v5 : Value} {v6 : Value} {v7 : Value} {v8 : Value} {x : Nat} : am_g d X am_m8900 859 [v0, v1, .ref x, v3, v4, v5, v6, v7, v8] sk st Q = am_g d X am_m8900 860 [v0, v1, .ref x, v3, v4, v5, v6, v7, v8] (.ref x :: sk) st Q := am_gu.trans rfl
set_option maxRecDepth 100000 in
theorem u8900_860 {v0 : Value} {v1 : Value} {v2 : Value} {v3 : Value} {v4 : Value} {v5 : Value} {v6 : Value} {v7 : Value} {v8 : Value} : am_g d X am_m8900 860 [v0, v1, v2, v3, v4, v5, v6, v7, v8] (.ref o :: sk) st Q = ((am_ob st o 7 ∧ sk.length ≤ 4) ∧ am_Ca X d 7002 [.ref o] st (am_af am_m8900 860 [v0, v1, v2, v3, v4, v5, v6, v7, v8] sk (fun pc lc sk st => am_g d X am_m8900 pc lc sk st Q) Q)) := am_gu.trans rfl
set_option maxRecDepth 100000 in
theorem u8900_863 {v0 : Value} {v1 : Value} {v2 : Value} {v3 : Value} {v4 : Value} {v6 : Value} {v7 : Value} {v8 : Value} {x : Int32} : am_g d X am_m8900 863 [v0, v1, v2, v3, v4, .int x, v6, v7, v8] sk st Q = am_g d X am_m8900 865 [v0, v1, v2, v3, v4, .int x, v6, v7, v8] (.int x :: sk) st Q := am_gu.trans rfl
set_option maxRecDepth 100000 in
theorem u8900_865 {v0 : Value} {v1 : Value} {v2 : Value} {v3 : Value} {v4 : Value} {v5 : Value} {v6 : Value} {v7 : Value} {v8 : Value} {x : Int32} {y : Int32} : am_g d X am_m8900 865 [v0, v1, v2, v3, v4, v5, v6, v7, v8] (.int y :: .int x :: sk) st Q = (if decide (x = y) = true then am_g d X am_m8900 870 [v0, v1, v2, v3, v4, v5, v6, v7, v8] sk st Q else am_g d X am_m8900 868 [v0, v1, v2, v3, v4, v5, v6, v7, v8] sk st Q) := am_gu.trans rfl
set_option maxRecDepth 100000 in
theorem u8900_868 {v0 : Value} {v1 : Value} {v2 : Value} {v3 : Value} {v4 : Value} {v5 : Value} {v6 : Value} {v7 : Value} {v8 : Value} : am_g d X am_m8900 868 [v0, v1, v2, v3, v4, v5, v6, v7, v8] sk st Q = am_g d X am_m8900 869 [v0, v1, v2, v3, v4, v5, v6, v7, v8] (.int (am_i 0) :: sk) st Q := am_gu.trans rfl
set_option maxRecDepth 100000 in
theorem u8900_869 {v0 : Value} {v1 : Value} {v2 : Value} {v3 : Value} {v4 : Value} {v5 : Value} {v6 : Value} {v7 : Value} {v8 : Value} {x : Int32} : am_g d X am_m8900 869 [v0, v1, v2, v3, v4, v5, v6, v7, v8] [.int x] st Q = ((x = 0 ∨ x = 1) ∧ Q (.inl (some (.int x))) st) := am_gu.trans rfl
set_option maxRecDepth 100000 in
theorem u8900_870 {v0 : Value} {v1 : Value} {v2 : Value} {v3 : Value} {v4 : Value} {v6 : Value} {v7 : Value} {v8 : Value} {x : Int32} : am_g d X am_m8900 870 [v0, v1, v2, v3, v4, .int x, v6, v7, v8] sk st Q = am_g d X am_m8900 872 [v0, v1, v2, v3, v4, .int x, v6, v7, v8] (.int x :: sk) st Q := am_gu.trans rfl
set_option maxRecDepth 100000 in
theorem u8900_872 {v0 : Value} {v1 : Value} {v2 : Value} {v3 : Value} {v4 : Value} {v5 : Value} {v6 : Value} {v7 : Value} {v8 : Value} {x : Int32} : am_g d X am_m8900 872 [v0, v1, v2, v3, v4, v5, v6, v7, v8] (.int x :: sk) st Q = (if decide (¬ x = 0) = true then am_g d X am_m8900 887 [v0, v1, v2, v3, v4, v5, v6, v7, v8] sk st Q else am_g d X am_m8900 875 [v0, v1, v2, v3, v4, v5, v6, v7, v8] sk st Q) := am_gu.trans rfl
set_option maxRecDepth 100000 in
theorem u8900_875 {v0 : Value} {v1 : Value} {v2 : Value} {v4 : Value} {v5 : Value} {v6 : Value} {v7 : Value} {v8 : Value} {x : Nat} : am_g d X am_m8900 875 [v0, v1, v2, .ref x, v4, v5, v6, v7, v8] sk st Q = am_g d X am_m8900 876 [v0, v1, v2, .ref x, v4, v5, v6, v7, v8] (.ref x :: sk) st Q := am_gu.trans rfl
set_option maxRecDepth 100000 in
theorem u8900_876 {v0 : Value} {v1 : Value} {v2 : Value} {v3 : Value} {v4 : Value} {v5 : Value} {v6 : Value} {v7 : Value} {v8 : Value} : am_g d X am_m8900 876 [v0, v1, v2, v3, v4, v5, v6, v7, v8] sk st Q = am_g d X am_m8900 877 [v0, v1, v2, v3, v4, v5, v6, v7, v8] (.int (am_i 0) :: sk) st Q := am_gu.trans rfl
set_option maxRecDepth 100000 in
theorem u8900_877 {v0 : Value} {v1 : Value} {v2 : Value} {v3 : Value} {v4 : Value} {v5 : Value} {v6 : Value} {v7 : Value} {v8 : Value} : am_g d X am_m8900 877 [v0, v1, v2, v3, v4, v5, v6, v7, v8] sk st Q = am_jl 878 [v0, v1, v2, v3, v4, v5, v6, v7, v8] sk st (fun pc lc sk st => am_g d X am_m8900 pc lc sk st Q) := am_gu.trans rfl
set_option maxRecDepth 100000 in
theorem u8900_878 {v0 : Value} {v1 : Value} {v2 : Value} {v3 : Value} {v4 : Value} {v5 : Value} {v7 : Value} {v8 : Value} {x : Int32} : am_g d X am_m8900 878 [v0, v1, v2, v3, v4, v5, .int x, v7, v8] sk st Q = am_g d X am_m8900 880 [v0, v1, v2, v3, v4, v5, .int x, v7, v8] (.int x :: sk) st Q := am_gu.trans rfl
set_option maxRecDepth 100000 in
theorem u8900_880 {v0 : Value} {v1 : Value} {v2 : Value} {v3 : Value} {v4 : Value} {v5 : Value} {v6 : Value} {v7 : Value} {v8 : Value} {x : Int32} : am_g d X am_m8900 880 [v0, v1, v2, v3, v4, v5, v6, v7, v8] (.int x :: sk) st Q = am_g d X am_m8900 881 [v0, v1, v2, v3, v4, v5, v6, v7, v8] (.long x.toInt64 :: sk) st Q := am_gu.trans rfl
set_option maxRecDepth 100000 in
theorem u8900_881 {v0 : Value} {v1 : Value} {v2 : Value} {v3 : Value} {v4 : Value} {v5 : Value} {v6 : Value} {v7 : Value} {v8 : Value} {x : Int64} {y : Int64} : am_g d X am_m8900 881 [v0, v1, v2, v3, v4, v5, v6, v7, v8] (.long y :: .long x :: sk) st Q = am_g d X am_m8900 882 [v0, v1, v2, v3, v4, v5, v6, v7, v8] (.int (lg_cmp x y) :: sk) st Q := am_gu.trans rfl
set_option maxRecDepth 100000 in
theorem u8900_882 {v0 : Value} {v1 : Value} {v2 : Value} {v3 : Value} {v4 : Value} {v5 : Value} {v6 : Value} {v7 : Value} {v8 : Value} {x : Int32} : am_g d X am_m8900 882 [v0, v1, v2, v3, v4, v5, v6, v7, v8] (.int x :: sk) st Q = (if decide (x = 0) = true then am_g d X am_m8900 887 [v0, v1, v2, v3, v4, v5, v6, v7, v8] sk st Q else am_g d X am_m8900 885 [v0, v1, v2, v3, v4, v5, v6, v7, v8] sk st Q) := am_gu.trans rfl
set_option maxRecDepth 100000 in
theorem u8900_885 {v0 : Value} {v1 : Value} {v2 : Value} {v3 : Value} {v4 : Value} {v5 : Value} {v6 : Value} {v7 : Value} {v8 : Value} : am_g d X am_m8900 885 [v0, v1, v2, v3, v4, v5, v6, v7, v8] sk st Q = am_g d X am_m8900 886 [v0, v1, v2, v3, v4, v5, v6, v7, v8] (.int (am_i 0) :: sk) st Q := am_gu.trans rfl
set_option maxRecDepth 100000 in
theorem u8900_886 {v0 : Value} {v1 : Value} {v2 : Value} {v3 : Value} {v4 : Value} {v5 : Value} {v6 : Value} {v7 : Value} {v8 : Value} {x : Int32} : am_g d X am_m8900 886 [v0, v1, v2, v3, v4, v5, v6, v7, v8] [.int x] st Q = ((x = 0 ∨ x = 1) ∧ Q (.inl (some (.int x))) st) := am_gu.trans rfl
set_option maxRecDepth 100000 in
theorem u8900_887 {v0 : Value} {v1 : Value} {v2 : Value} {v3 : Value} {v4 : Value} {v5 : Value} {v6 : Value} {v7 : Value} {v8 : Value} : am_g d X am_m8900 887 [v0, v1, v2, v3, v4, v5, v6, v7, v8] sk st Q = am_g d X am_m8900 2998 [v0, v1, v2, v3, v4, v5, v6, v7, v8] sk st Q := am_gu.trans rfl
set_option maxRecDepth 100000 in
theorem u8900_890 {v0 : Value} {v2 : Value} {v3 : Value} {v4 : Value} {v5 : Value} {v6 : Value} {v7 : Value} {v8 : Value} {x : Nat} : am_g d X am_m8900 890 [v0, .ref x, v2, v3, v4, v5, v6, v7, v8] sk st Q = am_g d X am_m8900 891 [v0, .ref x, v2, v3, v4, v5, v6, v7, v8] (.ref x :: sk) st Q := am_gu.trans rfl
set_option maxRecDepth 100000 in
theorem u8900_891 {v1 : Value} {v2 : Value} {v3 : Value} {v4 : Value} {v5 : Value} {v6 : Value} {v7 : Value} {v8 : Value} : am_g d X am_m8900 891 [.retAddr 0, v1, v2, v3, v4, v5, v6, v7, v8] sk st Q = am_g d X am_m8900 892 [.retAddr 0, v1, v2, v3, v4, v5, v6, v7, v8] (.retAddr 0 :: sk) st Q := am_gu.trans rfl
set_option maxRecDepth 100000 in
theorem u8900_892 {v0 : Value} {v1 : Value} {v2 : Value} {v3 : Value} {v5 : Value} {v6 : Value} {v7 : Value} {v8 : Value} {x : Int32} : am_g d X am_m8900 892 [v0, v1, v2, v3, .int x, v5, v6, v7, v8] sk st Q = am_g d X am_m8900 894 [v0, v1, v2, v3, .int x, v5, v6, v7, v8] (.int x :: sk) st Q := am_gu.trans rfl
set_option maxRecDepth 100000 in
theorem u8900_894 {v0 : Value} {v1 : Value} {v2 : Value} {v3 : Value} {v4 : Value} {v5 : Value} {v6 : Value} {v7 : Value} {v8 : Value} : am_g d X am_m8900 894 [v0, v1, v2, v3, v4, v5, v6, v7, v8] sk st Q = am_g d X am_m8900 895 [v0, v1, v2, v3, v4, v5, v6, v7, v8] (.int (am_i 1) :: sk) st Q := am_gu.trans rfl
set_option maxRecDepth 100000 in
theorem u8900_895 {v0 : Value} {v1 : Value} {v2 : Value} {v3 : Value} {v4 : Value} {v5 : Value} {v6 : Value} {v7 : Value} {v8 : Value} {x : Int32} {y : Int32} : am_g d X am_m8900 895 [v0, v1, v2, v3, v4, v5, v6, v7, v8] (.int y :: .int x :: sk) st Q = am_g d X am_m8900 896 [v0, v1, v2, v3, v4, v5, v6, v7, v8] (.int (x + y) :: sk) st Q := am_gu.trans rfl
set_option maxRecDepth 100000 in
theorem u8900_896 {v0 : Value} {v1 : Value} {v2 : Value} {v3 : Value} {v4 : Value} {v5 : Value} {v6 : Value} {v7 : Value} {v8 : Value} : am_g d X am_m8900 896 [v0, v1, v2, v3, v4, v5, v6, v7, v8] sk st Q = am_xl (X.1, X.2.1, d) am_m8900 897 [v0, v1, v2, v3, v4, v5, v6, v7, v8] sk st (fun pc lc sk st => am_g d X am_m8900 pc lc sk st Q) := am_gu.trans rfl
set_option maxRecDepth 100000 in
theorem u8900_897 {v0 : Value} {v1 : Value} {v2 : Value} {v4 : Value} {v5 : Value} {v6 : Value} {v7 : Value} {v8 : Value} {x : Nat} : am_g d X am_m8900 897 [v0, v1, v2, .ref x, v4, v5, v6, v7, v8] sk st Q = am_g d X am_m8900 898 [v0, v1, v2, .ref x, v4, v5, v6, v7, v8] (.ref x :: sk) st Q := am_gu.trans rfl
set_option maxRecDepth 100000 in
theorem u8900_898 {a0 : Value} {a1 : Value} {a2 : Value} {v0 : Value} {v1 : Value} {v2 : Value} {v3 : Value} {v4 : Value} {v5 : Value} {v6 : Value} {v7 : Value} {v8 : Value} : am_g d X am_m8900 898 [v0, v1, v2, v3, v4, v5, v6, v7, v8] (a2 :: a1 :: a0 :: sk) st Q = (sk.length ≤ 4 ∧ am_Ca X d 8012 [a0, a1, a2] st (am_af am_m8900 898 [v0, v1, v2, v3, v4, v5, v6, v7, v8] sk (fun pc lc sk st => am_g d X am_m8900 pc lc sk st Q) Q)) := am_gu.trans (propext ⟨fun h => ⟨h.1.2, h.2⟩, fun h => ⟨⟨Nat.le_add_left _ _, h.1⟩, h.2⟩⟩)
set_option maxRecDepth 100000 in
theorem u8900_901 {v0 : Value} {v1 : Value} {v2 : Value} {v3 : Value} {v4 : Value} {v5 : Value} {v6 : Value} {v7 : Value} {v8 : Value} {x : Int32} : am_g d X am_m8900 901 [v0, v1, v2, v3, v4, v5, v6, v7, v8] (.int x :: sk) st Q = am_g d X am_m8900 903 [v0, v1, v2, v3, am_kc v4, .int x, v6, v7, v8] sk st Q := am_gu.trans (congrArg (fun l => am_g d X am_m8900 903 (List.set l 5 (.int x)) sk st Q) (kl_5 (l := [v5, v6, v7, v8])))
set_option maxRecDepth 100000 in
theorem u8900_903 {v0 : Value} {v1 : Value} {v3 : Value} {v4 : Value} {v5 : Value} {v6 : Value} {v7 : Value} {v8 : Value} {x : Nat} : am_g d X am_m8900 903 [v0, v1, .ref x, v3, v4, v5, v6, v7, v8] sk st Q = am_g d X am_m8900 904 [v0, v1, .ref x, v3, v4, v5, v6, v7, v8] (.ref x :: sk) st Q := am_gu.trans rfl
set_option maxRecDepth 100000 in
theorem u8900_904 {v1 : Value} {v2 : Value} {v3 : Value} {v4 : Value} {v5 : Value} {v6 : Value} {v7 : Value} {v8 : Value} : am_g d X am_m8900 904 [.retAddr 0, v1, v2, v3, v4, v5, v6, v7, v8] sk st Q = am_g d X am_m8900 905 [.retAddr 0, v1, v2, v3, v4, v5, v6, v7, v8] (.retAddr 0 :: sk) st Q := am_gu.trans rfl
set_option maxRecDepth 100000 in
theorem u8900_905 {v0 : Value} {v1 : Value} {v2 : Value} {v3 : Value} {v5 : Value} {v6 : Value} {v7 : Value} {v8 : Value} {x : Int32} : am_g d X am_m8900 905 [v0, v1, v2, v3, .int x, v5, v6, v7, v8] sk st Q = am_g d X am_m8900 907 [v0, v1, v2, v3, .int x, v5, v6, v7, v8] (.int x :: sk) st Q := am_gu.trans rfl
set_option maxRecDepth 100000 in
theorem u8900_907 {v0 : Value} {v1 : Value} {v2 : Value} {v3 : Value} {v4 : Value} {v5 : Value} {v6 : Value} {v7 : Value} {v8 : Value} : am_g d X am_m8900 907 [v0, v1, v2, v3, v4, v5, v6, v7, v8] sk st Q = am_g d X am_m8900 908 [v0, v1, v2, v3, v4, v5, v6, v7, v8] (.int (am_i 1) :: sk) st Q := am_gu.trans rfl
set_option maxRecDepth 100000 in
theorem u8900_908 {v0 : Value} {v1 : Value} {v2 : Value} {v3 : Value} {v4 : Value} {v5 : Value} {v6 : Value} {v7 : Value} {v8 : Value} {x : Int32} {y : Int32} : am_g d X am_m8900 908 [v0, v1, v2, v3, v4, v5, v6, v7, v8] (.int y :: .int x :: sk) st Q = am_g d X am_m8900 909 [v0, v1, v2, v3, v4, v5, v6, v7, v8] (.int (x + y) :: sk) st Q := am_gu.trans rfl
set_option maxRecDepth 100000 in
theorem u8900_909 {v0 : Value} {v1 : Value} {v2 : Value} {v3 : Value} {v4 : Value} {v5 : Value} {v6 : Value} {v7 : Value} {v8 : Value} : am_g d X am_m8900 909 [v0, v1, v2, v3, v4, v5, v6, v7, v8] sk st Q = am_xl (X.1, X.2.1, d) am_m8900 910 [v0, v1, v2, v3, v4, v5, v6, v7, v8] sk st (fun pc lc sk st => am_g d X am_m8900 pc lc sk st Q) := am_gu.trans rfl
set_option maxRecDepth 100000 in
theorem u8900_910 {a0 : Value} {v0 : Value} {v1 : Value} {v2 : Value} {v3 : Value} {v4 : Value} {v5 : Value} {v6 : Value} {v7 : Value} {v8 : Value} : am_g d X am_m8900 910 [v0, v1, v2, v3, v4, v5, v6, v7, v8] (a0 :: .ref o :: sk) st Q = ((am_ob st o 7 ∧ sk.length ≤ 4) ∧ am_Ca X d 7062 [.ref o, a0] st (am_af am_m8900 910 [v0, v1, v2, v3, v4, v5, v6, v7, v8] sk (fun pc lc sk st => am_g d X am_m8900 pc lc sk st Q) Q)) := am_gu.trans rfl
set_option maxRecDepth 100000 in
theorem u8900_913 {v0 : Value} {v1 : Value} {v2 : Value} {v3 : Value} {v4 : Value} {v5 : Value} {v6 : Value} {v7 : Value} {v8 : Value} {x : Int32} : am_g d X am_m8900 913 [v0, v1, v2, v3, v4, v5, v6, v7, v8] (.int x :: sk) st Q = am_g d X am_m8900 915 [v0, v1, v2, v3, v4, am_kc v5, .int x, v7, v8] sk st Q := am_gu.trans (congrArg (fun l => am_g d X am_m8900 915 (List.set l 6 (.int x)) sk st Q) (kl_6 (l := [v6, v7, v8])))
set_option maxRecDepth 100000 in
theorem u8900_915 {v0 : Value} {v1 : Value} {v3 : Value} {v4 : Value} {v5 : Value} {v6 : Value} {v7 : Value} {v8 : Value} {x : Nat} : am_g d X am_m8900 915 [v0, v1, .ref x, v3, v4, v5, v6, v7, v8] sk st Q = am_g d X am_m8900 916 [v0, v1, .ref x, v3, v4, v5, v6, v7, v8] (.ref x :: sk) st Q := am_gu.trans rfl
set_option maxRecDepth 100000 in
theorem u8900_916 {v0 : Value} {v1 : Value} {v2 : Value} {v3 : Value} {v4 : Value} {v5 : Value} {v6 : Value} {v7 : Value} {v8 : Value} : am_g d X am_m8900 916 [v0, v1, v2, v3, v4, v5, v6, v7, v8] (.ref o :: sk) st Q = ((am_ob st o 7 ∧ sk.length ≤ 4) ∧ am_Ca X d 7002 [.ref o] st (am_af am_m8900 916 [v0, v1, v2, v3, v4, v5, v6, v7, v8] sk (fun pc lc sk st => am_g d X am_m8900 pc lc sk st Q) Q)) := am_gu.trans rfl
set_option maxRecDepth 100000 in
theorem u8900_919 {v0 : Value} {v1 : Value} {v2 : Value} {v3 : Value} {v4 : Value} {v6 : Value} {v7 : Value} {v8 : Value} {x : Int32} : am_g d X am_m8900 919 [v0, v1, v2, v3, v4, .int x, v6, v7, v8] sk st Q = am_g d X am_m8900 921 [v0, v1, v2, v3, v4, .int x, v6, v7, v8] (.int x :: sk) st Q := am_gu.trans rfl
set_option maxRecDepth 100000 in
theorem u8900_921 {v0 : Value} {v1 : Value} {v2 : Value} {v3 : Value} {v4 : Value} {v5 : Value} {v6 : Value} {v7 : Value} {v8 : Value} {x : Int32} {y : Int32} : am_g d X am_m8900 921 [v0, v1, v2, v3, v4, v5, v6, v7, v8] (.int y :: .int x :: sk) st Q = (if decide (x = y) = true then am_g d X am_m8900 926 [v0, v1, v2, v3, v4, v5, v6, v7, v8] sk st Q else am_g d X am_m8900 924 [v0, v1, v2, v3, v4, v5, v6, v7, v8] sk st Q) := am_gu.trans rfl
set_option maxRecDepth 100000 in
theorem u8900_924 {v0 : Value} {v1 : Value} {v2 : Value} {v3 : Value} {v4 : Value} {v5 : Value} {v6 : Value} {v7 : Value} {v8 : Value} : am_g d X am_m8900 924 [v0, v1, v2, v3, v4, v5, v6, v7, v8] sk st Q = am_g d X am_m8900 925 [v0, v1, v2, v3, v4, v5, v6, v7, v8] (.int (am_i 0) :: sk) st Q := am_gu.trans rfl
set_option maxRecDepth 100000 in
theorem u8900_925 {v0 : Value} {v1 : Value} {v2 : Value} {v3 : Value} {v4 : Value} {v5 : Value} {v6 : Value} {v7 : Value} {v8 : Value} {x : Int32} : am_g d X am_m8900 925 [v0, v1, v2, v3, v4, v5, v6, v7, v8] [.int x] st Q = ((x = 0 ∨ x = 1) ∧ Q (.inl (some (.int x))) st) := am_gu.trans rfl
set_option maxRecDepth 100000 in
theorem u8900_926 {v0 : Value} {v1 : Value} {v2 : Value} {v3 : Value} {v4 : Value} {v6 : Value} {v7 : Value} {v8 : Value} {x : Int32} : am_g d X am_m8900 926 [v0, v1, v2, v3, v4, .int x, v6, v7, v8] sk st Q = am_g d X am_m8900 928 [v0, v1, v2, v3, v4, .int x, v6, v7, v8] (.int x :: sk) st Q := am_gu.trans rfl
set_option maxRecDepth 100000 in
theorem u8900_928 {v0 : Value} {v1 : Value} {v2 : Value} {v3 : Value} {v4 : Value} {v5 : Value} {v6 : Value} {v7 : Value} {v8 : Value} {x : Int32} : am_g d X am_m8900 928 [v0, v1, v2, v3, v4, v5, v6, v7, v8] (.int x :: sk) st Q = (if decide (¬ x = 0) = true then am_g d X am_m8900 943 [v0, v1, v2, v3, v4, v5, v6, v7, v8] sk st Q else am_g d X am_m8900 931 [v0, v1, v2, v3, v4, v5, v6, v7, v8] sk st Q) := am_gu.trans rfl
set_option maxRecDepth 100000 in
theorem u8900_931 {v0 : Value} {v1 : Value} {v2 : Value} {v4 : Value} {v5 : Value} {v6 : Value} {v7 : Value} {v8 : Value} {x : Nat} : am_g d X am_m8900 931 [v0, v1, v2, .ref x, v4, v5, v6, v7, v8] sk st Q = am_g d X am_m8900 932 [v0, v1, v2, .ref x, v4, v5, v6, v7, v8] (.ref x :: sk) st Q := am_gu.trans rfl
set_option maxRecDepth 100000 in
theorem u8900_932 {v0 : Value} {v1 : Value} {v2 : Value} {v3 : Value} {v4 : Value} {v5 : Value} {v6 : Value} {v7 : Value} {v8 : Value} : am_g d X am_m8900 932 [v0, v1, v2, v3, v4, v5, v6, v7, v8] sk st Q = am_g d X am_m8900 933 [v0, v1, v2, v3, v4, v5, v6, v7, v8] (.int (am_i 0) :: sk) st Q := am_gu.trans rfl
set_option maxRecDepth 100000 in
theorem u8900_933 {v0 : Value} {v1 : Value} {v2 : Value} {v3 : Value} {v4 : Value} {v5 : Value} {v6 : Value} {v7 : Value} {v8 : Value} : am_g d X am_m8900 933 [v0, v1, v2, v3, v4, v5, v6, v7, v8] sk st Q = am_jl 934 [v0, v1, v2, v3, v4, v5, v6, v7, v8] sk st (fun pc lc sk st => am_g d X am_m8900 pc lc sk st Q) := am_gu.trans rfl
set_option maxRecDepth 100000 in
theorem u8900_934 {v0 : Value} {v1 : Value} {v2 : Value} {v3 : Value} {v4 : Value} {v5 : Value} {v7 : Value} {v8 : Value} {x : Int32} : am_g d X am_m8900 934 [v0, v1, v2, v3, v4, v5, .int x, v7, v8] sk st Q = am_g d X am_m8900 936 [v0, v1, v2, v3, v4, v5, .int x, v7, v8] (.int x :: sk) st Q := am_gu.trans rfl
set_option maxRecDepth 100000 in
theorem u8900_936 {v0 : Value} {v1 : Value} {v2 : Value} {v3 : Value} {v4 : Value} {v5 : Value} {v6 : Value} {v7 : Value} {v8 : Value} {x : Int32} : am_g d X am_m8900 936 [v0, v1, v2, v3, v4, v5, v6, v7, v8] (.int x :: sk) st Q = am_g d X am_m8900 937 [v0, v1, v2, v3, v4, v5, v6, v7, v8] (.long x.toInt64 :: sk) st Q := am_gu.trans rfl
set_option maxRecDepth 100000 in
theorem u8900_937 {v0 : Value} {v1 : Value} {v2 : Value} {v3 : Value} {v4 : Value} {v5 : Value} {v6 : Value} {v7 : Value} {v8 : Value} {x : Int64} {y : Int64} : am_g d X am_m8900 937 [v0, v1, v2, v3, v4, v5, v6, v7, v8] (.long y :: .long x :: sk) st Q = am_g d X am_m8900 938 [v0, v1, v2, v3, v4, v5, v6, v7, v8] (.int (lg_cmp x y) :: sk) st Q := am_gu.trans rfl
set_option maxRecDepth 100000 in
theorem u8900_938 {v0 : Value} {v1 : Value} {v2 : Value} {v3 : Value} {v4 : Value} {v5 : Value} {v6 : Value} {v7 : Value} {v8 : Value} {x : Int32} : am_g d X am_m8900 938 [v0, v1, v2, v3, v4, v5, v6, v7, v8] (.int x :: sk) st Q = (if decide (x = 0) = true then am_g d X am_m8900 943 [v0, v1, v2, v3, v4, v5, v6, v7, v8] sk st Q else am_g d X am_m8900 941 [v0, v1, v2, v3, v4, v5, v6, v7, v8] sk st Q) := am_gu.trans rfl
set_option maxRecDepth 100000 in
theorem u8900_941 {v0 : Value} {v1 : Value} {v2 : Value} {v3 : Value} {v4 : Value} {v5 : Value} {v6 : Value} {v7 : Value} {v8 : Value} : am_g d X am_m8900 941 [v0, v1, v2, v3, v4, v5, v6, v7, v8] sk st Q = am_g d X am_m8900 942 [v0, v1, v2, v3, v4, v5, v6, v7, v8] (.int (am_i 0) :: sk) st Q := am_gu.trans rfl
set_option maxRecDepth 100000 in
theorem u8900_942 {v0 : Value} {v1 : Value} {v2 : Value} {v3 : Value} {v4 : Value} {v5 : Value} {v6 : Value} {v7 : Value} {v8 : Value} {x : Int32} : am_g d X am_m8900 942 [v0, v1, v2, v3, v4, v5, v6, v7, v8] [.int x] st Q = ((x = 0 ∨ x = 1) ∧ Q (.inl (some (.int x))) st) := am_gu.trans rfl
set_option maxRecDepth 100000 in
theorem u8900_943 {v0 : Value} {v1 : Value} {v2 : Value} {v3 : Value} {v4 : Value} {v5 : Value} {v6 : Value} {v7 : Value} {v8 : Value} : am_g d X am_m8900 943 [v0, v1, v2, v3, v4, v5, v6, v7, v8] sk st Q = am_g d X am_m8900 2998 [v0, v1, v2, v3, v4, v5, v6, v7, v8] sk st Q := am_gu.trans rfl
set_option maxRecDepth 100000 in
theorem u8900_946 {v0 : Value} {v2 : Value} {v3 : Value} {v4 : Value} {v5 : Value} {v6 : Value} {v7 : Value} {v8 : Value} {x : Nat} : am_g d X am_m8900 946 [v0, .ref x, v2, v3, v4, v5, v6, v7, v8] sk st Q = am_g d X am_m8900 947 [v0, .ref x, v2, v3, v4, v5, v6, v7, v8] (.ref x :: sk) st Q := am_gu.trans rfl
set_option maxRecDepth 100000 in
theorem u8900_947 {v1 : Value} {v2 : Value} {v3 : Value} {v4 : Value} {v5 : Value} {v6 : Value} {v7 : Value} {v8 : Value} : am_g d X am_m8900 947 [.retAddr 0, v1, v2, v3, v4, v5, v6, v7, v8] sk st Q = am_g d X am_m8900 948 [.retAddr 0, v1, v2, v3, v4, v5, v6, v7, v8] (.retAddr 0 :: sk) st Q := am_gu.trans rfl
end UU
