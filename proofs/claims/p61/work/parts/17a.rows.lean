/-! each instruction as a rewriting row -/
section UU
variable {d o n cl sl : Nat} {X : am_X} {sk : List Value} {st : am_S} {Q : am_Q} {sh : Nat → am_D} {F A : Nat → Nat → Int32} {L : Nat → Nat → Int64}
set_option maxRecDepth 100000 in
theorem of_8001 : am_of 8001 = some am_m8001 := rfl
theorem c8001 {a1} {P : am_Q} : am_Ca X (d + 1) 8001 [.retAddr 0, .int a1] st P = am_g d X am_m8001 0 [.retAddr 0, .int a1] [] st P := am_cg of_8001 (by show 2 ≤ 2; decide)
theorem hd_8001 : am_hd am_m8001 = [] := rfl
theorem u8001_0 {v0 : Value} {x : Int32} : am_g d X am_m8001 0 [v0, .int x] sk st Q = am_g d X am_m8001 1 [v0, .int x] (.int x :: sk) st Q := am_gu.trans rfl
theorem u8001_1 {v1 : Value} : am_g d X am_m8001 1 [.retAddr 0, v1] sk st Q = am_g d X am_m8001 2 [.retAddr 0, v1] (.retAddr 0 :: sk) st Q := am_gu.trans rfl
theorem u8001_2 {v0 : Value} {v1 : Value} : am_g d X am_m8001 2 [v0, v1] sk st Q = am_al (X.1, X.2.1, d) am_m8001 3 [v0, v1] sk st (fun pc lc sk st => am_g d X am_m8001 pc lc sk st Q) := am_gu.trans rfl
theorem u8001_3 {v0 : Value} {v1 : Value} {x : Int32} {y : Int32} : am_g d X am_m8001 3 [v0, v1] (.int y :: .int x :: sk) st Q = (if decide (y ≤ x) = true then am_g d X am_m8001 12 [v0, v1] sk st Q else am_g d X am_m8001 6 [v0, v1] sk st Q) := am_gu.trans rfl
theorem u8001_6 {v1 : Value} : am_g d X am_m8001 6 [.retAddr 0, v1] sk st Q = am_g d X am_m8001 7 [.retAddr 0, v1] (.retAddr 0 :: sk) st Q := am_gu.trans rfl
theorem u8001_7 {v0 : Value} {x : Int32} : am_g d X am_m8001 7 [v0, .int x] sk st Q = am_g d X am_m8001 8 [v0, .int x] (.int x :: sk) st Q := am_gu.trans rfl
theorem u8001_8 {v0 : Value} {v1 : Value} : am_g d X am_m8001 8 [v0, v1] sk st Q = am_xl (X.1, X.2.1, d) am_m8001 9 [v0, v1] sk st (fun pc lc sk st => am_g d X am_m8001 pc lc sk st Q) := am_gu.trans rfl
theorem u8001_9 {v0 : Value} {v1 : Value} : am_g d X am_m8001 9 [v0, v1] sk st Q = am_g d X am_m8001 24 [v0, v1] sk st Q := am_gu.trans rfl
theorem u8001_12 {v0 : Value} {v1 : Value} : am_g d X am_m8001 12 [v0, v1] sk st Q = am_g d X am_m8001 14 [v0, v1] (.int (Int32.ofNat 2384334445) :: sk) st Q := am_gu.trans rfl
theorem u8001_14 {v0 : Value} {x : Int32} : am_g d X am_m8001 14 [v0, .int x] sk st Q = am_g d X am_m8001 15 [v0, .int x] (.int x :: sk) st Q := am_gu.trans rfl
theorem u8001_15 {v0 : Value} {v1 : Value} : am_g d X am_m8001 15 [v0, v1] sk st Q = am_g d X am_m8001 18 [v0, v1] (.int (am_i 5717) :: sk) st Q := am_gu.trans rfl
theorem u8001_18 {v0 : Value} {v1 : Value} {x : Int32} {y : Int32} : am_g d X am_m8001 18 [v0, v1] (.int y :: .int x :: sk) st Q = am_g d X am_m8001 19 [v0, v1] (.int (x + y) :: sk) st Q := am_gu.trans rfl
theorem u8001_19 {v0 : Value} {v1 : Value} {x : Int32} {y : Int32} : am_g d X am_m8001 19 [v0, v1] (.int y :: .int x :: sk) st Q = am_g d X am_m8001 20 [v0, v1] (.int (x * y) :: sk) st Q := am_gu.trans rfl
theorem u8001_20 {v0 : Value} {v1 : Value} : am_g d X am_m8001 20 [v0, v1] sk st Q = am_g d X am_m8001 23 [v0, v1] (.int (am_i 5507) :: sk) st Q := am_gu.trans rfl
theorem u8001_23 {v0 : Value} {v1 : Value} {x : Int32} {y : Int32} : am_g d X am_m8001 23 [v0, v1] (.int y :: .int x :: sk) st Q = am_g d X am_m8001 24 [v0, v1] (.int (x + y) :: sk) st Q := am_gu.trans rfl
theorem u8001_24 {v0 : Value} {v1 : Value} {x : Int32} : am_g d X am_m8001 24 [v0, v1] [.int x] st Q = Q (.inl (some (.int x))) st := am_gu.trans rfl
set_option maxRecDepth 100000 in
theorem of_8002 : am_of 8002 = some am_m8002 := rfl
theorem c8002 {a0 a1} {P : am_Q} : am_Ca X (d + 1) 8002 [.int a0, .int a1] st P = am_g d X am_m8002 0 [.int a0, .int a1] [] st P := am_cg of_8002 (by show 2 ≤ 2; decide)
theorem hd_8002 : am_hd am_m8002 = [] := rfl
theorem u8002_0 {v1 : Value} {x : Int32} : am_g d X am_m8002 0 [.int x, v1] sk st Q = am_g d X am_m8002 1 [.int x, v1] (.int x :: sk) st Q := am_gu.trans rfl
theorem u8002_1 {v0 : Value} {v1 : Value} : am_g d X am_m8002 1 [v0, v1] sk st Q = am_g d X am_m8002 3 [v0, v1] (.int (Int32.ofNat 2147483647) :: sk) st Q := am_gu.trans rfl
theorem u8002_3 {v0 : Value} {v1 : Value} {x : Int32} {y : Int32} : am_g d X am_m8002 3 [v0, v1] (.int y :: .int x :: sk) st Q = am_g d X am_m8002 4 [v0, v1] (.int (x &&& y) :: sk) st Q := am_gu.trans rfl
theorem u8002_4 {v0 : Value} {x : Int32} : am_g d X am_m8002 4 [v0, .int x] sk st Q = am_g d X am_m8002 5 [v0, .int x] (.int x :: sk) st Q := am_gu.trans rfl
theorem u8002_5 {v0 : Value} {v1 : Value} {x : Int32} {y : Int32} : am_g d X am_m8002 5 [v0, v1] (.int y :: .int x :: sk) st Q = (¬ y = 0 ∧ am_g d X am_m8002 6 [v0, v1] (.int (i_rem x y) :: sk) st Q) := am_gu.trans rfl
theorem u8002_6 {v0 : Value} {v1 : Value} {x : Int32} : am_g d X am_m8002 6 [v0, v1] [.int x] st Q = Q (.inl (some (.int x))) st := am_gu.trans rfl
set_option maxRecDepth 100000 in
theorem of_8003 : am_of 8003 = some am_m8003 := rfl
theorem c8003 {a0 a1} {P : am_Q} : am_Ca X (d + 1) 8003 [.ref a0, .int a1] st P = am_g d X am_m8003 0 [.ref a0, .int a1, am_u] [] st P := am_cg of_8003 (by show 2 ≤ 3; decide)
theorem u8003_0 {v1 : Value} {v2 : Value} {x : Nat} : am_g d X am_m8003 0 [.ref x, v1, v2] sk st Q = am_g d X am_m8003 1 [.ref x, v1, v2] (.ref x :: sk) st Q := am_gu.trans rfl
theorem u8003_1 {v0 : Value} {v2 : Value} {x : Int32} : am_g d X am_m8003 1 [v0, .int x, v2] sk st Q = am_g d X am_m8003 2 [v0, .int x, v2] (.int x :: sk) st Q := am_gu.trans rfl
theorem u8003_2 {a0 : Value} {v0 : Value} {v1 : Value} {v2 : Value} : am_g d X am_m8003 2 [v0, v1, v2] (a0 :: .ref o :: sk) st Q = ((am_ob st o 6 ∧ sk.length ≤ 5) ∧ am_Ca X d 6002 [.ref o, a0] st (am_af am_m8003 2 [v0, v1, v2] sk (fun pc lc sk st => am_g d X am_m8003 pc lc sk st Q) Q)) := am_gu.trans rfl
theorem u8003_5 {v0 : Value} {v1 : Value} {v2 : Value} {x : Int32} : am_g d X am_m8003 5 [v0, v1, v2] [.int x] st Q = Q (.inl (some (.int x))) st := am_gu.trans rfl
theorem u8003_7 {v0 : Value} {v1 : Value} {v2 : Value} : am_g d X am_m8003 7 [v0, v1, v2] sk st Q = am_g d X am_m8003 9 [v0, v1, v2] (.int (am_i (-102)) :: sk) st Q := am_gu.trans rfl
theorem u8003_9 {v0 : Value} {v1 : Value} {v2 : Value} {x : Int32} : am_g d X am_m8003 9 [v0, v1, v2] [.int x] st Q = Q (.inl (some (.int x))) st := am_gu.trans rfl
theorem u8003_11 {v0 : Value} {v1 : Value} {v2 : Value} : am_g d X am_m8003 11 [v0, v1, v2] sk st Q = am_g d X am_m8003 13 [v0, v1, v2] (.int (am_i (-103)) :: sk) st Q := am_gu.trans rfl
theorem u8003_13 {v0 : Value} {v1 : Value} {v2 : Value} {x : Int32} : am_g d X am_m8003 13 [v0, v1, v2] [.int x] st Q = Q (.inl (some (.int x))) st := am_gu.trans rfl
set_option maxRecDepth 100000 in
theorem of_8004 : am_of 8004 = some am_m8004 := rfl
theorem c8004 {a0} {P : am_Q} : am_Ca X (d + 1) 8004 [.ref a0] st P = am_g d X am_m8004 0 [.ref a0, am_u] [] st P := am_cg of_8004 (by show 1 ≤ 2; decide)
theorem u8004_0 {v1 : Value} {x : Nat} : am_g d X am_m8004 0 [.ref x, v1] sk st Q = am_g d X am_m8004 1 [.ref x, v1] (.ref x :: sk) st Q := am_gu.trans rfl
theorem u8004_1 {v0 : Value} {v1 : Value} : am_g d X am_m8004 1 [v0, v1] (.ref o :: sk) st Q = ((am_ob st o 6 ∧ sk.length ≤ 5) ∧ am_Ca X d 6005 [.ref o] st (am_af am_m8004 1 [v0, v1] sk (fun pc lc sk st => am_g d X am_m8004 pc lc sk st Q) Q)) := am_gu.trans rfl
theorem u8004_4 {v0 : Value} {v1 : Value} {x : Int32} : am_g d X am_m8004 4 [v0, v1] [.int x] st Q = Q (.inl (some (.int x))) st := am_gu.trans rfl
theorem u8004_6 {v0 : Value} {v1 : Value} : am_g d X am_m8004 6 [v0, v1] sk st Q = am_g d X am_m8004 8 [v0, v1] (.int (am_i (-103)) :: sk) st Q := am_gu.trans rfl
theorem u8004_8 {v0 : Value} {v1 : Value} {x : Int32} : am_g d X am_m8004 8 [v0, v1] [.int x] st Q = Q (.inl (some (.int x))) st := am_gu.trans rfl
set_option maxRecDepth 100000 in
theorem of_8005 : am_of 8005 = some am_m8005 := rfl
theorem c8005 {a0 a1 a2 a3} {P : am_Q} : am_Ca X (d + 1) 8005 [.ref a0, .int a1, .int a2, .int a3] st P = am_g d X am_m8005 0 [.ref a0, .int a1, .int a2, .int a3, am_u] [] st P := am_cg of_8005 (by show 4 ≤ 5; decide)
theorem u8005_0 {v1 : Value} {v2 : Value} {v3 : Value} {v4 : Value} {x : Nat} : am_g d X am_m8005 0 [.ref x, v1, v2, v3, v4] sk st Q = am_g d X am_m8005 1 [.ref x, v1, v2, v3, v4] (.ref x :: sk) st Q := am_gu.trans rfl
theorem u8005_1 {v0 : Value} {v2 : Value} {v3 : Value} {v4 : Value} {x : Int32} : am_g d X am_m8005 1 [v0, .int x, v2, v3, v4] sk st Q = am_g d X am_m8005 2 [v0, .int x, v2, v3, v4] (.int x :: sk) st Q := am_gu.trans rfl
theorem u8005_2 {v0 : Value} {v1 : Value} {v3 : Value} {v4 : Value} {x : Int32} : am_g d X am_m8005 2 [v0, v1, .int x, v3, v4] sk st Q = am_g d X am_m8005 3 [v0, v1, .int x, v3, v4] (.int x :: sk) st Q := am_gu.trans rfl
theorem u8005_3 {v0 : Value} {v1 : Value} {v2 : Value} {v4 : Value} {x : Int32} : am_g d X am_m8005 3 [v0, v1, v2, .int x, v4] sk st Q = am_g d X am_m8005 4 [v0, v1, v2, .int x, v4] (.int x :: sk) st Q := am_gu.trans rfl
theorem u8005_4 {a0 : Value} {a1 : Value} {a2 : Value} {v0 : Value} {v1 : Value} {v2 : Value} {v3 : Value} {v4 : Value} : am_g d X am_m8005 4 [v0, v1, v2, v3, v4] (a2 :: a1 :: a0 :: .ref o :: sk) st Q = ((am_ob st o 6 ∧ sk.length ≤ 5) ∧ am_Ca X d 6006 [.ref o, a0, a1, a2] st (am_af am_m8005 4 [v0, v1, v2, v3, v4] sk (fun pc lc sk st => am_g d X am_m8005 pc lc sk st Q) Q)) := am_gu.trans rfl
theorem u8005_7 {v0 : Value} {v1 : Value} {v2 : Value} {v3 : Value} {v4 : Value} {x : Int32} : am_g d X am_m8005 7 [v0, v1, v2, v3, v4] [.int x] st Q = Q (.inl (some (.int x))) st := am_gu.trans rfl
theorem u8005_10 {v0 : Value} {v1 : Value} {v2 : Value} {v3 : Value} {v4 : Value} : am_g d X am_m8005 10 [v0, v1, v2, v3, v4] sk st Q = am_g d X am_m8005 12 [v0, v1, v2, v3, v4] (.int (am_i (-102)) :: sk) st Q := am_gu.trans rfl
theorem u8005_12 {v0 : Value} {v1 : Value} {v2 : Value} {v3 : Value} {v4 : Value} {x : Int32} : am_g d X am_m8005 12 [v0, v1, v2, v3, v4] [.int x] st Q = Q (.inl (some (.int x))) st := am_gu.trans rfl
set_option maxRecDepth 100000 in
theorem of_8006 : am_of 8006 = some am_m8006 := rfl
theorem c8006 {a0} {P : am_Q} : am_Ca X (d + 1) 8006 [.ref a0] st P = am_g d X am_m8006 0 [.ref a0, am_u] [] st P := am_cg of_8006 (by show 1 ≤ 2; decide)
theorem u8006_0 {v1 : Value} {x : Nat} : am_g d X am_m8006 0 [.ref x, v1] sk st Q = am_g d X am_m8006 1 [.ref x, v1] (.ref x :: sk) st Q := am_gu.trans rfl
theorem u8006_1 {v0 : Value} {v1 : Value} : am_g d X am_m8006 1 [v0, v1] (.ref o :: sk) st Q = ((am_ob st o 6 ∧ sk.length ≤ 5) ∧ am_Ca X d 6007 [.ref o] st (am_af am_m8006 1 [v0, v1] sk (fun pc lc sk st => am_g d X am_m8006 pc lc sk st Q) Q)) := am_gu.trans rfl
theorem u8006_4 {v0 : Value} {v1 : Value} {x : Int32} : am_g d X am_m8006 4 [v0, v1] [.int x] st Q = Q (.inl (some (.int x))) st := am_gu.trans rfl
theorem u8006_6 {v0 : Value} {v1 : Value} : am_g d X am_m8006 6 [v0, v1] sk st Q = am_g d X am_m8006 8 [v0, v1] (.int (am_i (-103)) :: sk) st Q := am_gu.trans rfl
theorem u8006_8 {v0 : Value} {v1 : Value} {x : Int32} : am_g d X am_m8006 8 [v0, v1] [.int x] st Q = Q (.inl (some (.int x))) st := am_gu.trans rfl
set_option maxRecDepth 100000 in
theorem of_8007 : am_of 8007 = some am_m8007 := rfl
theorem c8007 {a0 a1} {P : am_Q} : am_Ca X (d + 1) 8007 [.ref a0, .int a1] st P = am_g d X am_m8007 0 [.ref a0, .int a1, am_u] [] st P := am_cg of_8007 (by show 2 ≤ 3; decide)
theorem u8007_0 {v1 : Value} {v2 : Value} {x : Nat} : am_g d X am_m8007 0 [.ref x, v1, v2] sk st Q = am_g d X am_m8007 1 [.ref x, v1, v2] (.ref x :: sk) st Q := am_gu.trans rfl
theorem u8007_1 {v0 : Value} {v2 : Value} {x : Int32} : am_g d X am_m8007 1 [v0, .int x, v2] sk st Q = am_g d X am_m8007 2 [v0, .int x, v2] (.int x :: sk) st Q := am_gu.trans rfl
theorem u8007_2 {a0 : Value} {v0 : Value} {v1 : Value} {v2 : Value} : am_g d X am_m8007 2 [v0, v1, v2] (a0 :: .ref o :: sk) st Q = ((am_ob st o 6 ∧ sk.length ≤ 5) ∧ am_Ca X d 6008 [.ref o, a0] st (am_af am_m8007 2 [v0, v1, v2] sk (fun pc lc sk st => am_g d X am_m8007 pc lc sk st Q) Q)) := am_gu.trans rfl
theorem u8007_5 {v0 : Value} {v1 : Value} {v2 : Value} {x : Int32} : am_g d X am_m8007 5 [v0, v1, v2] [.int x] st Q = Q (.inl (some (.int x))) st := am_gu.trans rfl
theorem u8007_7 {v0 : Value} {v1 : Value} {v2 : Value} : am_g d X am_m8007 7 [v0, v1, v2] sk st Q = am_g d X am_m8007 9 [v0, v1, v2] (.int (am_i (-102)) :: sk) st Q := am_gu.trans rfl
theorem u8007_9 {v0 : Value} {v1 : Value} {v2 : Value} {x : Int32} : am_g d X am_m8007 9 [v0, v1, v2] [.int x] st Q = Q (.inl (some (.int x))) st := am_gu.trans rfl
set_option maxRecDepth 100000 in
theorem of_8008 : am_of 8008 = some am_m8008 := rfl
theorem c8008 {a0} {P : am_Q} : am_Ca X (d + 1) 8008 [.ref a0] st P = am_g d X am_m8008 0 [.ref a0, am_u] [] st P := am_cg of_8008 (by show 1 ≤ 2; decide)
theorem u8008_0 {v1 : Value} {x : Nat} : am_g d X am_m8008 0 [.ref x, v1] sk st Q = am_g d X am_m8008 1 [.ref x, v1] (.ref x :: sk) st Q := am_gu.trans rfl
theorem u8008_1 {v0 : Value} {v1 : Value} : am_g d X am_m8008 1 [v0, v1] (.ref o :: sk) st Q = ((am_ob st o 6 ∧ sk.length ≤ 5) ∧ am_Ca X d 6009 [.ref o] st (am_af am_m8008 1 [v0, v1] sk (fun pc lc sk st => am_g d X am_m8008 pc lc sk st Q) Q)) := am_gu.trans rfl
theorem u8008_4 {v0 : Value} {v1 : Value} {x : Int32} : am_g d X am_m8008 4 [v0, v1] [.int x] st Q = Q (.inl (some (.int x))) st := am_gu.trans rfl
theorem u8008_6 {v0 : Value} {v1 : Value} : am_g d X am_m8008 6 [v0, v1] sk st Q = am_g d X am_m8008 8 [v0, v1] (.int (am_i (-103)) :: sk) st Q := am_gu.trans rfl
theorem u8008_8 {v0 : Value} {v1 : Value} {x : Int32} : am_g d X am_m8008 8 [v0, v1] [.int x] st Q = Q (.inl (some (.int x))) st := am_gu.trans rfl
set_option maxRecDepth 100000 in
theorem of_8009 : am_of 8009 = some am_m8009 := rfl
theorem c8009 {a0} {P : am_Q} : am_Ca X (d + 1) 8009 [.ref a0] st P = am_g d X am_m8009 0 [.ref a0, am_u] [] st P := am_cg of_8009 (by show 1 ≤ 2; decide)
theorem u8009_0 {v1 : Value} {x : Nat} : am_g d X am_m8009 0 [.ref x, v1] sk st Q = am_g d X am_m8009 1 [.ref x, v1] (.ref x :: sk) st Q := am_gu.trans rfl
theorem u8009_1 {v0 : Value} {v1 : Value} : am_g d X am_m8009 1 [v0, v1] (.ref o :: sk) st Q = ((am_ob st o 6 ∧ sk.length ≤ 5) ∧ am_Ca X d 6010 [.ref o] st (am_af am_m8009 1 [v0, v1] sk (fun pc lc sk st => am_g d X am_m8009 pc lc sk st Q) Q)) := am_gu.trans rfl
theorem u8009_4 {v0 : Value} {v1 : Value} {x : Int32} : am_g d X am_m8009 4 [v0, v1] [.int x] st Q = Q (.inl (some (.int x))) st := am_gu.trans rfl
theorem u8009_6 {v0 : Value} {v1 : Value} : am_g d X am_m8009 6 [v0, v1] sk st Q = am_g d X am_m8009 8 [v0, v1] (.int (am_i (-103)) :: sk) st Q := am_gu.trans rfl
theorem u8009_8 {v0 : Value} {v1 : Value} {x : Int32} : am_g d X am_m8009 8 [v0, v1] [.int x] st Q = Q (.inl (some (.int x))) st := am_gu.trans rfl
set_option maxRecDepth 100000 in
theorem of_8010 : am_of 8010 = some am_m8010 := rfl
theorem c8010 {a0} {P : am_Q} : am_Ca X (d + 1) 8010 [.ref a0] st P = am_g d X am_m8010 0 [.ref a0, am_u] [] st P := am_cg of_8010 (by show 1 ≤ 2; decide)
theorem u8010_0 {v1 : Value} {x : Nat} : am_g d X am_m8010 0 [.ref x, v1] sk st Q = am_g d X am_m8010 1 [.ref x, v1] (.ref x :: sk) st Q := am_gu.trans rfl
theorem u8010_1 {v0 : Value} {v1 : Value} : am_g d X am_m8010 1 [v0, v1] (.ref o :: sk) st Q = ((am_ob st o 6 ∧ sk.length ≤ 5) ∧ am_Ca X d 6011 [.ref o] st (am_af am_m8010 1 [v0, v1] sk (fun pc lc sk st => am_g d X am_m8010 pc lc sk st Q) Q)) := am_gu.trans rfl
theorem u8010_4 {v0 : Value} {v1 : Value} {x : Int32} : am_g d X am_m8010 4 [v0, v1] [.int x] st Q = Q (.inl (some (.int x))) st := am_gu.trans rfl
theorem u8010_6 {v0 : Value} {v1 : Value} : am_g d X am_m8010 6 [v0, v1] sk st Q = am_g d X am_m8010 8 [v0, v1] (.int (am_i (-103)) :: sk) st Q := am_gu.trans rfl
theorem u8010_8 {v0 : Value} {v1 : Value} {x : Int32} : am_g d X am_m8010 8 [v0, v1] [.int x] st Q = Q (.inl (some (.int x))) st := am_gu.trans rfl
set_option maxRecDepth 100000 in
theorem of_8011 : am_of 8011 = some am_m8011 := rfl
theorem c8011 {a0 a1} {P : am_Q} : am_Ca X (d + 1) 8011 [.ref a0, .int a1] st P = am_g d X am_m8011 0 [.ref a0, .int a1, am_u] [] st P := am_cg of_8011 (by show 2 ≤ 3; decide)
theorem u8011_0 {v1 : Value} {v2 : Value} {x : Nat} : am_g d X am_m8011 0 [.ref x, v1, v2] sk st Q = am_g d X am_m8011 1 [.ref x, v1, v2] (.ref x :: sk) st Q := am_gu.trans rfl
theorem u8011_1 {v0 : Value} {v2 : Value} {x : Int32} : am_g d X am_m8011 1 [v0, .int x, v2] sk st Q = am_g d X am_m8011 2 [v0, .int x, v2] (.int x :: sk) st Q := am_gu.trans rfl
theorem u8011_2 {a0 : Value} {v0 : Value} {v1 : Value} {v2 : Value} : am_g d X am_m8011 2 [v0, v1, v2] (a0 :: .ref o :: sk) st Q = ((am_ob st o 6 ∧ sk.length ≤ 5) ∧ am_Ca X d 6012 [.ref o, a0] st (am_af am_m8011 2 [v0, v1, v2] sk (fun pc lc sk st => am_g d X am_m8011 pc lc sk st Q) Q)) := am_gu.trans rfl
theorem u8011_5 {v0 : Value} {v1 : Value} {v2 : Value} {x : Int32} : am_g d X am_m8011 5 [v0, v1, v2] [.int x] st Q = Q (.inl (some (.int x))) st := am_gu.trans rfl
theorem u8011_7 {v0 : Value} {v1 : Value} {v2 : Value} : am_g d X am_m8011 7 [v0, v1, v2] sk st Q = am_g d X am_m8011 9 [v0, v1, v2] (.int (am_i (-102)) :: sk) st Q := am_gu.trans rfl
theorem u8011_9 {v0 : Value} {v1 : Value} {v2 : Value} {x : Int32} : am_g d X am_m8011 9 [v0, v1, v2] [.int x] st Q = Q (.inl (some (.int x))) st := am_gu.trans rfl
theorem u8011_11 {v0 : Value} {v1 : Value} {v2 : Value} : am_g d X am_m8011 11 [v0, v1, v2] sk st Q = am_g d X am_m8011 13 [v0, v1, v2] (.int (am_i (-103)) :: sk) st Q := am_gu.trans rfl
theorem u8011_13 {v0 : Value} {v1 : Value} {v2 : Value} {x : Int32} : am_g d X am_m8011 13 [v0, v1, v2] [.int x] st Q = Q (.inl (some (.int x))) st := am_gu.trans rfl
set_option maxRecDepth 100000 in
theorem of_8012 : am_of 8012 = some am_m8012 := rfl
theorem c8012 {a0 a1} {P : am_Q} : am_Ca X (d + 1) 8012 [.ref a0, .int a1] st P = am_g d X am_m8012 0 [.ref a0, .int a1, am_u] [] st P := am_cg of_8012 (by show 2 ≤ 3; decide)
theorem u8012_0 {v1 : Value} {v2 : Value} {x : Nat} : am_g d X am_m8012 0 [.ref x, v1, v2] sk st Q = am_g d X am_m8012 1 [.ref x, v1, v2] (.ref x :: sk) st Q := am_gu.trans rfl
theorem u8012_1 {v0 : Value} {v2 : Value} {x : Int32} : am_g d X am_m8012 1 [v0, .int x, v2] sk st Q = am_g d X am_m8012 2 [v0, .int x, v2] (.int x :: sk) st Q := am_gu.trans rfl
theorem u8012_2 {a0 : Value} {v0 : Value} {v1 : Value} {v2 : Value} : am_g d X am_m8012 2 [v0, v1, v2] (a0 :: .ref o :: sk) st Q = ((am_ob st o 6 ∧ sk.length ≤ 5) ∧ am_Ca X d 6013 [.ref o, a0] st (am_af am_m8012 2 [v0, v1, v2] sk (fun pc lc sk st => am_g d X am_m8012 pc lc sk st Q) Q)) := am_gu.trans rfl
theorem u8012_5 {v0 : Value} {v1 : Value} {v2 : Value} {x : Int32} : am_g d X am_m8012 5 [v0, v1, v2] [.int x] st Q = Q (.inl (some (.int x))) st := am_gu.trans rfl
theorem u8012_7 {v0 : Value} {v1 : Value} {v2 : Value} : am_g d X am_m8012 7 [v0, v1, v2] sk st Q = am_g d X am_m8012 9 [v0, v1, v2] (.int (am_i (-102)) :: sk) st Q := am_gu.trans rfl
theorem u8012_9 {v0 : Value} {v1 : Value} {v2 : Value} {x : Int32} : am_g d X am_m8012 9 [v0, v1, v2] [.int x] st Q = Q (.inl (some (.int x))) st := am_gu.trans rfl
theorem u8012_11 {v0 : Value} {v1 : Value} {v2 : Value} : am_g d X am_m8012 11 [v0, v1, v2] sk st Q = am_g d X am_m8012 13 [v0, v1, v2] (.int (am_i (-103)) :: sk) st Q := am_gu.trans rfl
theorem u8012_13 {v0 : Value} {v1 : Value} {v2 : Value} {x : Int32} : am_g d X am_m8012 13 [v0, v1, v2] [.int x] st Q = Q (.inl (some (.int x))) st := am_gu.trans rfl
set_option maxRecDepth 100000 in
theorem of_8013 : am_of 8013 = some am_m8013 := rfl
theorem c8013 {a0 a1} {P : am_Q} : am_Ca X (d + 1) 8013 [.ref a0, .int a1] st P = am_g d X am_m8013 0 [.ref a0, .int a1, am_u] [] st P := am_cg of_8013 (by show 2 ≤ 3; decide)
theorem u8013_0 {v1 : Value} {v2 : Value} {x : Nat} : am_g d X am_m8013 0 [.ref x, v1, v2] sk st Q = am_g d X am_m8013 1 [.ref x, v1, v2] (.ref x :: sk) st Q := am_gu.trans rfl
theorem u8013_1 {v0 : Value} {v2 : Value} {x : Int32} : am_g d X am_m8013 1 [v0, .int x, v2] sk st Q = am_g d X am_m8013 2 [v0, .int x, v2] (.int x :: sk) st Q := am_gu.trans rfl
theorem u8013_2 {a0 : Value} {v0 : Value} {v1 : Value} {v2 : Value} : am_g d X am_m8013 2 [v0, v1, v2] (a0 :: .ref o :: sk) st Q = ((am_ob st o 6 ∧ sk.length ≤ 5) ∧ am_Ca X d 6014 [.ref o, a0] st (am_af am_m8013 2 [v0, v1, v2] sk (fun pc lc sk st => am_g d X am_m8013 pc lc sk st Q) Q)) := am_gu.trans rfl
theorem u8013_5 {v0 : Value} {v1 : Value} {v2 : Value} {x : Int32} : am_g d X am_m8013 5 [v0, v1, v2] [.int x] st Q = Q (.inl (some (.int x))) st := am_gu.trans rfl
theorem u8013_7 {v0 : Value} {v1 : Value} {v2 : Value} : am_g d X am_m8013 7 [v0, v1, v2] sk st Q = am_g d X am_m8013 9 [v0, v1, v2] (.int (am_i (-102)) :: sk) st Q := am_gu.trans rfl
theorem u8013_9 {v0 : Value} {v1 : Value} {v2 : Value} {x : Int32} : am_g d X am_m8013 9 [v0, v1, v2] [.int x] st Q = Q (.inl (some (.int x))) st := am_gu.trans rfl
theorem u8013_11 {v0 : Value} {v1 : Value} {v2 : Value} : am_g d X am_m8013 11 [v0, v1, v2] sk st Q = am_g d X am_m8013 13 [v0, v1, v2] (.int (am_i (-103)) :: sk) st Q := am_gu.trans rfl
theorem u8013_13 {v0 : Value} {v1 : Value} {v2 : Value} {x : Int32} : am_g d X am_m8013 13 [v0, v1, v2] [.int x] st Q = Q (.inl (some (.int x))) st := am_gu.trans rfl
set_option maxRecDepth 100000 in
theorem of_8014 : am_of 8014 = some am_m8014 := rfl
theorem c8014 {a0 a1} {P : am_Q} : am_Ca X (d + 1) 8014 [.ref a0, .int a1] st P = am_g d X am_m8014 0 [.ref a0, .int a1, am_u] [] st P := am_cg of_8014 (by show 2 ≤ 3; decide)
theorem u8014_0 {v1 : Value} {v2 : Value} {x : Nat} : am_g d X am_m8014 0 [.ref x, v1, v2] sk st Q = am_g d X am_m8014 1 [.ref x, v1, v2] (.ref x :: sk) st Q := am_gu.trans rfl
theorem u8014_1 {v0 : Value} {v2 : Value} {x : Int32} : am_g d X am_m8014 1 [v0, .int x, v2] sk st Q = am_g d X am_m8014 2 [v0, .int x, v2] (.int x :: sk) st Q := am_gu.trans rfl
theorem u8014_2 {a0 : Value} {v0 : Value} {v1 : Value} {v2 : Value} : am_g d X am_m8014 2 [v0, v1, v2] (a0 :: .ref o :: sk) st Q = ((am_ob st o 6 ∧ sk.length ≤ 5) ∧ am_Ca X d 6015 [.ref o, a0] st (am_af am_m8014 2 [v0, v1, v2] sk (fun pc lc sk st => am_g d X am_m8014 pc lc sk st Q) Q)) := am_gu.trans rfl
theorem u8014_5 {v0 : Value} {v1 : Value} {v2 : Value} {x : Int32} : am_g d X am_m8014 5 [v0, v1, v2] [.int x] st Q = Q (.inl (some (.int x))) st := am_gu.trans rfl
theorem u8014_7 {v0 : Value} {v1 : Value} {v2 : Value} : am_g d X am_m8014 7 [v0, v1, v2] sk st Q = am_g d X am_m8014 9 [v0, v1, v2] (.int (am_i (-102)) :: sk) st Q := am_gu.trans rfl
theorem u8014_9 {v0 : Value} {v1 : Value} {v2 : Value} {x : Int32} : am_g d X am_m8014 9 [v0, v1, v2] [.int x] st Q = Q (.inl (some (.int x))) st := am_gu.trans rfl
theorem u8014_11 {v0 : Value} {v1 : Value} {v2 : Value} : am_g d X am_m8014 11 [v0, v1, v2] sk st Q = am_g d X am_m8014 13 [v0, v1, v2] (.int (am_i (-103)) :: sk) st Q := am_gu.trans rfl
theorem u8014_13 {v0 : Value} {v1 : Value} {v2 : Value} {x : Int32} : am_g d X am_m8014 13 [v0, v1, v2] [.int x] st Q = Q (.inl (some (.int x))) st := am_gu.trans rfl
set_option maxRecDepth 100000 in
theorem of_8015 : am_of 8015 = some am_m8015 := rfl
theorem c8015 {a0 a1} {P : am_Q} : am_Ca X (d + 1) 8015 [.ref a0, .int a1] st P = am_g d X am_m8015 0 [.ref a0, .int a1, am_u] [] st P := am_cg of_8015 (by show 2 ≤ 3; decide)
theorem u8015_0 {v1 : Value} {v2 : Value} {x : Nat} : am_g d X am_m8015 0 [.ref x, v1, v2] sk st Q = am_g d X am_m8015 1 [.ref x, v1, v2] (.ref x :: sk) st Q := am_gu.trans rfl
theorem u8015_1 {v0 : Value} {v2 : Value} {x : Int32} : am_g d X am_m8015 1 [v0, .int x, v2] sk st Q = am_g d X am_m8015 2 [v0, .int x, v2] (.int x :: sk) st Q := am_gu.trans rfl
theorem u8015_2 {a0 : Value} {v0 : Value} {v1 : Value} {v2 : Value} : am_g d X am_m8015 2 [v0, v1, v2] (a0 :: .ref o :: sk) st Q = ((am_ob st o 6 ∧ sk.length ≤ 5) ∧ am_Ca X d 6016 [.ref o, a0] st (am_af am_m8015 2 [v0, v1, v2] sk (fun pc lc sk st => am_g d X am_m8015 pc lc sk st Q) Q)) := am_gu.trans rfl
theorem u8015_5 {v0 : Value} {v1 : Value} {v2 : Value} {x : Int32} : am_g d X am_m8015 5 [v0, v1, v2] [.int x] st Q = Q (.inl (some (.int x))) st := am_gu.trans rfl
theorem u8015_7 {v0 : Value} {v1 : Value} {v2 : Value} : am_g d X am_m8015 7 [v0, v1, v2] sk st Q = am_g d X am_m8015 9 [v0, v1, v2] (.int (am_i (-102)) :: sk) st Q := am_gu.trans rfl
theorem u8015_9 {v0 : Value} {v1 : Value} {v2 : Value} {x : Int32} : am_g d X am_m8015 9 [v0, v1, v2] [.int x] st Q = Q (.inl (some (.int x))) st := am_gu.trans rfl
theorem u8015_11 {v0 : Value} {v1 : Value} {v2 : Value} : am_g d X am_m8015 11 [v0, v1, v2] sk st Q = am_g d X am_m8015 13 [v0, v1, v2] (.int (am_i (-103)) :: sk) st Q := am_gu.trans rfl
theorem u8015_13 {v0 : Value} {v1 : Value} {v2 : Value} {x : Int32} : am_g d X am_m8015 13 [v0, v1, v2] [.int x] st Q = Q (.inl (some (.int x))) st := am_gu.trans rfl
set_option maxRecDepth 100000 in
theorem of_8016 : am_of 8016 = some am_m8016 := rfl
theorem c8016 {a0 a1} {P : am_Q} : am_Ca X (d + 1) 8016 [.ref a0, .int a1] st P = am_g d X am_m8016 0 [.ref a0, .int a1, am_u] [] st P := am_cg of_8016 (by show 2 ≤ 3; decide)
theorem u8016_0 {v1 : Value} {v2 : Value} {x : Nat} : am_g d X am_m8016 0 [.ref x, v1, v2] sk st Q = am_g d X am_m8016 1 [.ref x, v1, v2] (.ref x :: sk) st Q := am_gu.trans rfl
theorem u8016_1 {v0 : Value} {v2 : Value} {x : Int32} : am_g d X am_m8016 1 [v0, .int x, v2] sk st Q = am_g d X am_m8016 2 [v0, .int x, v2] (.int x :: sk) st Q := am_gu.trans rfl
theorem u8016_2 {a0 : Value} {v0 : Value} {v1 : Value} {v2 : Value} : am_g d X am_m8016 2 [v0, v1, v2] (a0 :: .ref o :: sk) st Q = ((am_ob st o 6 ∧ sk.length ≤ 5) ∧ am_Ca X d 6017 [.ref o, a0] st (am_af am_m8016 2 [v0, v1, v2] sk (fun pc lc sk st => am_g d X am_m8016 pc lc sk st Q) Q)) := am_gu.trans rfl
theorem u8016_5 {v0 : Value} {v1 : Value} {v2 : Value} {x : Int32} : am_g d X am_m8016 5 [v0, v1, v2] [.int x] st Q = Q (.inl (some (.int x))) st := am_gu.trans rfl
theorem u8016_7 {v0 : Value} {v1 : Value} {v2 : Value} : am_g d X am_m8016 7 [v0, v1, v2] sk st Q = am_g d X am_m8016 9 [v0, v1, v2] (.int (am_i (-102)) :: sk) st Q := am_gu.trans rfl
theorem u8016_9 {v0 : Value} {v1 : Value} {v2 : Value} {x : Int32} : am_g d X am_m8016 9 [v0, v1, v2] [.int x] st Q = Q (.inl (some (.int x))) st := am_gu.trans rfl
theorem u8016_11 {v0 : Value} {v1 : Value} {v2 : Value} : am_g d X am_m8016 11 [v0, v1, v2] sk st Q = am_g d X am_m8016 13 [v0, v1, v2] (.int (am_i (-103)) :: sk) st Q := am_gu.trans rfl
theorem u8016_13 {v0 : Value} {v1 : Value} {v2 : Value} {x : Int32} : am_g d X am_m8016 13 [v0, v1, v2] [.int x] st Q = Q (.inl (some (.int x))) st := am_gu.trans rfl
set_option maxRecDepth 100000 in
theorem of_8017 : am_of 8017 = some am_m8017 := rfl
theorem c8017 {a0 a1 a2 a3} {P : am_Q} : am_Ca X (d + 1) 8017 [.ref a0, .int a1, .int a2, .int a3] st P = am_g d X am_m8017 0 [.ref a0, .int a1, .int a2, .int a3, am_u] [] st P := am_cg of_8017 (by show 4 ≤ 5; decide)
theorem u8017_0 {v1 : Value} {v2 : Value} {v3 : Value} {v4 : Value} {x : Nat} : am_g d X am_m8017 0 [.ref x, v1, v2, v3, v4] sk st Q = am_g d X am_m8017 1 [.ref x, v1, v2, v3, v4] (.ref x :: sk) st Q := am_gu.trans rfl
theorem u8017_1 {v0 : Value} {v2 : Value} {v3 : Value} {v4 : Value} {x : Int32} : am_g d X am_m8017 1 [v0, .int x, v2, v3, v4] sk st Q = am_g d X am_m8017 2 [v0, .int x, v2, v3, v4] (.int x :: sk) st Q := am_gu.trans rfl
theorem u8017_2 {v0 : Value} {v1 : Value} {v3 : Value} {v4 : Value} {x : Int32} : am_g d X am_m8017 2 [v0, v1, .int x, v3, v4] sk st Q = am_g d X am_m8017 3 [v0, v1, .int x, v3, v4] (.int x :: sk) st Q := am_gu.trans rfl
theorem u8017_3 {v0 : Value} {v1 : Value} {v2 : Value} {v4 : Value} {x : Int32} : am_g d X am_m8017 3 [v0, v1, v2, .int x, v4] sk st Q = am_g d X am_m8017 4 [v0, v1, v2, .int x, v4] (.int x :: sk) st Q := am_gu.trans rfl
theorem u8017_4 {a0 : Value} {a1 : Value} {a2 : Value} {v0 : Value} {v1 : Value} {v2 : Value} {v3 : Value} {v4 : Value} : am_g d X am_m8017 4 [v0, v1, v2, v3, v4] (a2 :: a1 :: a0 :: .ref o :: sk) st Q = ((am_ob st o 6 ∧ sk.length ≤ 5) ∧ am_Ca X d 6018 [.ref o, a0, a1, a2] st (am_af am_m8017 4 [v0, v1, v2, v3, v4] sk (fun pc lc sk st => am_g d X am_m8017 pc lc sk st Q) Q)) := am_gu.trans rfl
theorem u8017_7 {v0 : Value} {v1 : Value} {v2 : Value} {v3 : Value} {v4 : Value} {x : Int32} : am_g d X am_m8017 7 [v0, v1, v2, v3, v4] [.int x] st Q = Q (.inl (some (.int x))) st := am_gu.trans rfl
theorem u8017_10 {v0 : Value} {v1 : Value} {v2 : Value} {v3 : Value} {v4 : Value} : am_g d X am_m8017 10 [v0, v1, v2, v3, v4] sk st Q = am_g d X am_m8017 12 [v0, v1, v2, v3, v4] (.int (am_i (-102)) :: sk) st Q := am_gu.trans rfl
theorem u8017_12 {v0 : Value} {v1 : Value} {v2 : Value} {v3 : Value} {v4 : Value} {x : Int32} : am_g d X am_m8017 12 [v0, v1, v2, v3, v4] [.int x] st Q = Q (.inl (some (.int x))) st := am_gu.trans rfl
theorem u8017_15 {v0 : Value} {v1 : Value} {v2 : Value} {v3 : Value} {v4 : Value} : am_g d X am_m8017 15 [v0, v1, v2, v3, v4] sk st Q = am_g d X am_m8017 17 [v0, v1, v2, v3, v4] (.int (am_i (-103)) :: sk) st Q := am_gu.trans rfl
theorem u8017_17 {v0 : Value} {v1 : Value} {v2 : Value} {v3 : Value} {v4 : Value} {x : Int32} : am_g d X am_m8017 17 [v0, v1, v2, v3, v4] [.int x] st Q = Q (.inl (some (.int x))) st := am_gu.trans rfl
set_option maxRecDepth 100000 in
theorem of_8018 : am_of 8018 = some am_m8018 := rfl
theorem c8018 {a0} {P : am_Q} : am_Ca X (d + 1) 8018 [.ref a0] st P = am_g d X am_m8018 0 [.ref a0, am_u] [] st P := am_cg of_8018 (by show 1 ≤ 2; decide)
theorem u8018_0 {v1 : Value} {x : Nat} : am_g d X am_m8018 0 [.ref x, v1] sk st Q = am_g d X am_m8018 1 [.ref x, v1] (.ref x :: sk) st Q := am_gu.trans rfl
theorem u8018_1 {v0 : Value} {v1 : Value} : am_g d X am_m8018 1 [v0, v1] (.ref o :: sk) st Q = ((am_ob st o 6 ∧ sk.length ≤ 5) ∧ am_Ca X d 6019 [.ref o] st (am_af am_m8018 1 [v0, v1] sk (fun pc lc sk st => am_g d X am_m8018 pc lc sk st Q) Q)) := am_gu.trans rfl
theorem u8018_4 {v0 : Value} {v1 : Value} {x : Int32} : am_g d X am_m8018 4 [v0, v1] [.int x] st Q = Q (.inl (some (.int x))) st := am_gu.trans rfl
theorem u8018_6 {v0 : Value} {v1 : Value} : am_g d X am_m8018 6 [v0, v1] sk st Q = am_g d X am_m8018 8 [v0, v1] (.int (am_i (-103)) :: sk) st Q := am_gu.trans rfl
theorem u8018_8 {v0 : Value} {v1 : Value} {x : Int32} : am_g d X am_m8018 8 [v0, v1] [.int x] st Q = Q (.inl (some (.int x))) st := am_gu.trans rfl
set_option maxRecDepth 100000 in
theorem of_8019 : am_of 8019 = some am_m8019 := rfl
theorem c8019 {a0 a1 a2} {P : am_Q} : am_Ca X (d + 1) 8019 [.ref a0, .int a1, .int a2] st P = am_g d X am_m8019 0 [.ref a0, .int a1, .int a2, am_u, am_u] [] st P := am_cg of_8019 (by show 3 ≤ 5; decide)
theorem u8019_0 {v0 : Value} {v1 : Value} {v2 : Value} {v3 : Value} {v4 : Value} : am_g d X am_m8019 0 [v0, v1, v2, v3, v4] sk st Q = am_g d X am_m8019 1 [v0, v1, v2, v3, v4] (.int (am_i 0) :: sk) st Q := am_gu.trans rfl
theorem u8019_1 {v0 : Value} {v1 : Value} {v2 : Value} {v3 : Value} {v4 : Value} {x : Int32} : am_g d X am_m8019 1 [v0, v1, v2, v3, v4] (.int x :: sk) st Q = am_g d X am_m8019 2 [v0, v1, am_kc v2, .int x, v4] sk st Q := am_gu.trans (congrArg (fun l => am_g d X am_m8019 2 (List.set l 3 (.int x)) sk st Q) (kl_3 (l := [v3, v4])))
theorem u8019_2 {v1 : Value} {v2 : Value} {v3 : Value} {v4 : Value} {x : Nat} : am_g d X am_m8019 2 [.ref x, v1, v2, v3, v4] sk st Q = am_g d X am_m8019 3 [.ref x, v1, v2, v3, v4] (.ref x :: sk) st Q := am_gu.trans rfl
theorem u8019_3 {v0 : Value} {v2 : Value} {v3 : Value} {v4 : Value} {x : Int32} : am_g d X am_m8019 3 [v0, .int x, v2, v3, v4] sk st Q = am_g d X am_m8019 4 [v0, .int x, v2, v3, v4] (.int x :: sk) st Q := am_gu.trans rfl
theorem u8019_4 {v0 : Value} {v1 : Value} {v3 : Value} {v4 : Value} {x : Int32} : am_g d X am_m8019 4 [v0, v1, .int x, v3, v4] sk st Q = am_g d X am_m8019 5 [v0, v1, .int x, v3, v4] (.int x :: sk) st Q := am_gu.trans rfl
theorem u8019_5 {a0 : Value} {a1 : Value} {v0 : Value} {v1 : Value} {v2 : Value} {v3 : Value} {v4 : Value} : am_g d X am_m8019 5 [v0, v1, v2, v3, v4] (a1 :: a0 :: .ref o :: sk) st Q = ((am_ob st o 6 ∧ sk.length ≤ 5) ∧ am_Ca X d 6020 [.ref o, a0, a1] st (am_af am_m8019 5 [v0, v1, v2, v3, v4] sk (fun pc lc sk st => am_g d X am_m8019 pc lc sk st Q) Q)) := am_gu.trans rfl
theorem u8019_8 {v0 : Value} {v1 : Value} {v2 : Value} {v3 : Value} {v4 : Value} {x : Int32} : am_g d X am_m8019 8 [v0, v1, v2, v3, v4] (.int x :: sk) st Q = am_g d X am_m8019 9 [v0, v1, am_kc v2, .int x, v4] sk st Q := am_gu.trans (congrArg (fun l => am_g d X am_m8019 9 (List.set l 3 (.int x)) sk st Q) (kl_3 (l := [v3, v4])))
theorem u8019_9 {v0 : Value} {v1 : Value} {v2 : Value} {v3 : Value} {v4 : Value} : am_g d X am_m8019 9 [v0, v1, v2, v3, v4] sk st Q = am_g d X am_m8019 17 [v0, v1, v2, v3, v4] sk st Q := am_gu.trans rfl
theorem u8019_14 {v0 : Value} {v1 : Value} {v2 : Value} {v3 : Value} {v4 : Value} : am_g d X am_m8019 14 [v0, v1, v2, v3, v4] sk st Q = am_g d X am_m8019 16 [v0, v1, v2, v3, v4] (.int (am_i (-102)) :: sk) st Q := am_gu.trans rfl
theorem u8019_16 {v0 : Value} {v1 : Value} {v2 : Value} {v3 : Value} {v4 : Value} {x : Int32} : am_g d X am_m8019 16 [v0, v1, v2, v3, v4] [.int x] st Q = Q (.inl (some (.int x))) st := am_gu.trans rfl
theorem u8019_17 {v0 : Value} {v1 : Value} {v2 : Value} {v4 : Value} {x : Int32} : am_g d X am_m8019 17 [v0, v1, v2, .int x, v4] sk st Q = am_g d X am_m8019 18 [v0, v1, v2, .int x, v4] (.int x :: sk) st Q := am_gu.trans rfl
theorem u8019_18 {v0 : Value} {v1 : Value} {v2 : Value} {v3 : Value} {v4 : Value} {x : Int32} : am_g d X am_m8019 18 [v0, v1, v2, v3, v4] (.int x :: sk) st Q = (if decide (x = 0) = true then am_g d X am_m8019 25 [v0, v1, v2, v3, v4] sk st Q else am_g d X am_m8019 21 [v0, v1, v2, v3, v4] sk st Q) := am_gu.trans rfl
theorem u8019_21 {v0 : Value} {v1 : Value} {v2 : Value} {v3 : Value} {v4 : Value} : am_g d X am_m8019 21 [v0, v1, v2, v3, v4] sk st Q = am_g d X am_m8019 22 [v0, v1, v2, v3, v4] (.int (am_i 1) :: sk) st Q := am_gu.trans rfl
theorem u8019_22 {v0 : Value} {v1 : Value} {v2 : Value} {v3 : Value} {v4 : Value} : am_g d X am_m8019 22 [v0, v1, v2, v3, v4] sk st Q = am_g d X am_m8019 26 [v0, v1, v2, v3, v4] sk st Q := am_gu.trans rfl
theorem u8019_25 {v0 : Value} {v1 : Value} {v2 : Value} {v3 : Value} {v4 : Value} : am_g d X am_m8019 25 [v0, v1, v2, v3, v4] sk st Q = am_g d X am_m8019 26 [v0, v1, v2, v3, v4] (.int (am_i 0) :: sk) st Q := am_gu.trans rfl
theorem u8019_26 {v0 : Value} {v1 : Value} {v2 : Value} {v3 : Value} {v4 : Value} {x : Int32} : am_g d X am_m8019 26 [v0, v1, v2, v3, v4] [.int x] st Q = Q (.inl (some (.int x))) st := am_gu.trans rfl
set_option maxRecDepth 100000 in
theorem of_8020 : am_of 8020 = some am_m8020 := rfl
theorem c8020 {a0 a1 a2} {P : am_Q} : am_Ca X (d + 1) 8020 [.ref a0, .int a1, .int a2] st P = am_g d X am_m8020 0 [.ref a0, .int a1, .int a2, am_u] [] st P := am_cg of_8020 (by show 3 ≤ 4; decide)
theorem u8020_0 {v1 : Value} {v2 : Value} {v3 : Value} {x : Nat} : am_g d X am_m8020 0 [.ref x, v1, v2, v3] sk st Q = am_g d X am_m8020 1 [.ref x, v1, v2, v3] (.ref x :: sk) st Q := am_gu.trans rfl
theorem u8020_1 {v0 : Value} {v2 : Value} {v3 : Value} {x : Int32} : am_g d X am_m8020 1 [v0, .int x, v2, v3] sk st Q = am_g d X am_m8020 2 [v0, .int x, v2, v3] (.int x :: sk) st Q := am_gu.trans rfl
theorem u8020_2 {v0 : Value} {v1 : Value} {v3 : Value} {x : Int32} : am_g d X am_m8020 2 [v0, v1, .int x, v3] sk st Q = am_g d X am_m8020 3 [v0, v1, .int x, v3] (.int x :: sk) st Q := am_gu.trans rfl
theorem u8020_3 {a0 : Value} {a1 : Value} {v0 : Value} {v1 : Value} {v2 : Value} {v3 : Value} : am_g d X am_m8020 3 [v0, v1, v2, v3] (a1 :: a0 :: .ref o :: sk) st Q = ((am_ob st o 6 ∧ sk.length ≤ 5) ∧ am_Ca X d 6021 [.ref o, a0, a1] st (am_af am_m8020 3 [v0, v1, v2, v3] sk (fun pc lc sk st => am_g d X am_m8020 pc lc sk st Q) Q)) := am_gu.trans rfl
theorem u8020_6 {v0 : Value} {v1 : Value} {v2 : Value} {v3 : Value} {x : Int32} : am_g d X am_m8020 6 [v0, v1, v2, v3] [.int x] st Q = Q (.inl (some (.int x))) st := am_gu.trans rfl
theorem u8020_8 {v0 : Value} {v1 : Value} {v2 : Value} {v3 : Value} : am_g d X am_m8020 8 [v0, v1, v2, v3] sk st Q = am_g d X am_m8020 10 [v0, v1, v2, v3] (.int (am_i (-102)) :: sk) st Q := am_gu.trans rfl
theorem u8020_10 {v0 : Value} {v1 : Value} {v2 : Value} {v3 : Value} {x : Int32} : am_g d X am_m8020 10 [v0, v1, v2, v3] [.int x] st Q = Q (.inl (some (.int x))) st := am_gu.trans rfl
theorem u8020_12 {v0 : Value} {v1 : Value} {v2 : Value} {v3 : Value} : am_g d X am_m8020 12 [v0, v1, v2, v3] sk st Q = am_g d X am_m8020 14 [v0, v1, v2, v3] (.int (am_i (-103)) :: sk) st Q := am_gu.trans rfl
theorem u8020_14 {v0 : Value} {v1 : Value} {v2 : Value} {v3 : Value} {x : Int32} : am_g d X am_m8020 14 [v0, v1, v2, v3] [.int x] st Q = Q (.inl (some (.int x))) st := am_gu.trans rfl
set_option maxRecDepth 100000 in
theorem of_8021 : am_of 8021 = some am_m8021 := rfl
theorem c8021 {a0 a1 a2} {P : am_Q} : am_Ca X (d + 1) 8021 [.ref a0, .int a1, .int a2] st P = am_g d X am_m8021 0 [.ref a0, .int a1, .int a2, am_u] [] st P := am_cg of_8021 (by show 3 ≤ 4; decide)
theorem u8021_0 {v1 : Value} {v2 : Value} {v3 : Value} {x : Nat} : am_g d X am_m8021 0 [.ref x, v1, v2, v3] sk st Q = am_g d X am_m8021 1 [.ref x, v1, v2, v3] (.ref x :: sk) st Q := am_gu.trans rfl
theorem u8021_1 {v0 : Value} {v2 : Value} {v3 : Value} {x : Int32} : am_g d X am_m8021 1 [v0, .int x, v2, v3] sk st Q = am_g d X am_m8021 2 [v0, .int x, v2, v3] (.int x :: sk) st Q := am_gu.trans rfl
theorem u8021_2 {v0 : Value} {v1 : Value} {v3 : Value} {x : Int32} : am_g d X am_m8021 2 [v0, v1, .int x, v3] sk st Q = am_g d X am_m8021 3 [v0, v1, .int x, v3] (.int x :: sk) st Q := am_gu.trans rfl
theorem u8021_3 {a0 : Value} {a1 : Value} {v0 : Value} {v1 : Value} {v2 : Value} {v3 : Value} : am_g d X am_m8021 3 [v0, v1, v2, v3] (a1 :: a0 :: .ref o :: sk) st Q = ((am_ob st o 6 ∧ sk.length ≤ 5) ∧ am_Ca X d 6027 [.ref o, a0, a1] st (am_af am_m8021 3 [v0, v1, v2, v3] sk (fun pc lc sk st => am_g d X am_m8021 pc lc sk st Q) Q)) := am_gu.trans rfl
theorem u8021_6 {v0 : Value} {v1 : Value} {v2 : Value} {v3 : Value} {x : Int32} : am_g d X am_m8021 6 [v0, v1, v2, v3] [.int x] st Q = Q (.inl (some (.int x))) st := am_gu.trans rfl
theorem u8021_8 {v0 : Value} {v1 : Value} {v2 : Value} {v3 : Value} : am_g d X am_m8021 8 [v0, v1, v2, v3] sk st Q = am_g d X am_m8021 10 [v0, v1, v2, v3] (.int (am_i (-102)) :: sk) st Q := am_gu.trans rfl
theorem u8021_10 {v0 : Value} {v1 : Value} {v2 : Value} {v3 : Value} {x : Int32} : am_g d X am_m8021 10 [v0, v1, v2, v3] [.int x] st Q = Q (.inl (some (.int x))) st := am_gu.trans rfl
set_option maxRecDepth 100000 in
theorem of_8022 : am_of 8022 = some am_m8022 := rfl
theorem c8022 {a0 a1 a2 a3} {P : am_Q} : am_Ca X (d + 1) 8022 [.ref a0, .int a1, .int a2, .int a3] st P = am_g d X am_m8022 0 [.ref a0, .int a1, .int a2, .int a3, am_u] [] st P := am_cg of_8022 (by show 4 ≤ 5; decide)
theorem u8022_0 {v1 : Value} {v2 : Value} {v3 : Value} {v4 : Value} {x : Nat} : am_g d X am_m8022 0 [.ref x, v1, v2, v3, v4] sk st Q = am_g d X am_m8022 1 [.ref x, v1, v2, v3, v4] (.ref x :: sk) st Q := am_gu.trans rfl
theorem u8022_1 {v0 : Value} {v2 : Value} {v3 : Value} {v4 : Value} {x : Int32} : am_g d X am_m8022 1 [v0, .int x, v2, v3, v4] sk st Q = am_g d X am_m8022 2 [v0, .int x, v2, v3, v4] (.int x :: sk) st Q := am_gu.trans rfl
theorem u8022_2 {v0 : Value} {v1 : Value} {v3 : Value} {v4 : Value} {x : Int32} : am_g d X am_m8022 2 [v0, v1, .int x, v3, v4] sk st Q = am_g d X am_m8022 3 [v0, v1, .int x, v3, v4] (.int x :: sk) st Q := am_gu.trans rfl
theorem u8022_3 {v0 : Value} {v1 : Value} {v2 : Value} {v4 : Value} {x : Int32} : am_g d X am_m8022 3 [v0, v1, v2, .int x, v4] sk st Q = am_g d X am_m8022 4 [v0, v1, v2, .int x, v4] (.int x :: sk) st Q := am_gu.trans rfl
theorem u8022_4 {a0 : Value} {a1 : Value} {a2 : Value} {v0 : Value} {v1 : Value} {v2 : Value} {v3 : Value} {v4 : Value} : am_g d X am_m8022 4 [v0, v1, v2, v3, v4] (a2 :: a1 :: a0 :: .ref o :: sk) st Q = ((am_ob st o 6 ∧ sk.length ≤ 5) ∧ am_Ca X d 6030 [.ref o, a0, a1, a2] st (am_af am_m8022 4 [v0, v1, v2, v3, v4] sk (fun pc lc sk st => am_g d X am_m8022 pc lc sk st Q) Q)) := am_gu.trans rfl
theorem u8022_7 {v0 : Value} {v1 : Value} {v2 : Value} {v3 : Value} {v4 : Value} {x : Int32} : am_g d X am_m8022 7 [v0, v1, v2, v3, v4] [.int x] st Q = Q (.inl (some (.int x))) st := am_gu.trans rfl
theorem u8022_10 {v0 : Value} {v1 : Value} {v2 : Value} {v3 : Value} {v4 : Value} : am_g d X am_m8022 10 [v0, v1, v2, v3, v4] sk st Q = am_g d X am_m8022 12 [v0, v1, v2, v3, v4] (.int (am_i (-102)) :: sk) st Q := am_gu.trans rfl
theorem u8022_12 {v0 : Value} {v1 : Value} {v2 : Value} {v3 : Value} {v4 : Value} {x : Int32} : am_g d X am_m8022 12 [v0, v1, v2, v3, v4] [.int x] st Q = Q (.inl (some (.int x))) st := am_gu.trans rfl
set_option maxRecDepth 100000 in
theorem of_8023 : am_of 8023 = some am_m8023 := rfl
theorem c8023 {a0 a1} {P : am_Q} : am_Ca X (d + 1) 8023 [.ref a0, .int a1] st P = am_g d X am_m8023 0 [.ref a0, .int a1, am_u, am_u] [] st P := am_cg of_8023 (by show 2 ≤ 4; decide)
theorem u8023_0 {v0 : Value} {v1 : Value} {v2 : Value} {v3 : Value} : am_g d X am_m8023 0 [v0, v1, v2, v3] sk st Q = am_g d X am_m8023 1 [v0, v1, v2, v3] (.int (am_i 0) :: sk) st Q := am_gu.trans rfl
theorem u8023_1 {v0 : Value} {v1 : Value} {v2 : Value} {v3 : Value} {x : Int32} : am_g d X am_m8023 1 [v0, v1, v2, v3] (.int x :: sk) st Q = am_g d X am_m8023 2 [v0, am_kc v1, .int x, v3] sk st Q := am_gu.trans (congrArg (fun l => am_g d X am_m8023 2 (List.set l 2 (.int x)) sk st Q) (kl_2 (l := [v2, v3])))
theorem u8023_2 {v1 : Value} {v2 : Value} {v3 : Value} {x : Nat} : am_g d X am_m8023 2 [.ref x, v1, v2, v3] sk st Q = am_g d X am_m8023 3 [.ref x, v1, v2, v3] (.ref x :: sk) st Q := am_gu.trans rfl
theorem u8023_3 {v0 : Value} {v2 : Value} {v3 : Value} {x : Int32} : am_g d X am_m8023 3 [v0, .int x, v2, v3] sk st Q = am_g d X am_m8023 4 [v0, .int x, v2, v3] (.int x :: sk) st Q := am_gu.trans rfl
theorem u8023_4 {a0 : Value} {v0 : Value} {v1 : Value} {v2 : Value} {v3 : Value} : am_g d X am_m8023 4 [v0, v1, v2, v3] (a0 :: .ref o :: sk) st Q = ((am_ob st o 6 ∧ sk.length ≤ 5) ∧ am_Ca X d 6039 [.ref o, a0] st (am_af am_m8023 4 [v0, v1, v2, v3] sk (fun pc lc sk st => am_g d X am_m8023 pc lc sk st Q) Q)) := am_gu.trans rfl
theorem u8023_7 {v0 : Value} {v1 : Value} {v2 : Value} {v3 : Value} {x : Int32} : am_g d X am_m8023 7 [v0, v1, v2, v3] (.int x :: sk) st Q = am_g d X am_m8023 8 [v0, am_kc v1, .int x, v3] sk st Q := am_gu.trans (congrArg (fun l => am_g d X am_m8023 8 (List.set l 2 (.int x)) sk st Q) (kl_2 (l := [v2, v3])))
theorem u8023_8 {v0 : Value} {v1 : Value} {v2 : Value} {v3 : Value} : am_g d X am_m8023 8 [v0, v1, v2, v3] sk st Q = am_g d X am_m8023 15 [v0, v1, v2, v3] sk st Q := am_gu.trans rfl
theorem u8023_12 {v0 : Value} {v1 : Value} {v2 : Value} {v3 : Value} : am_g d X am_m8023 12 [v0, v1, v2, v3] sk st Q = am_g d X am_m8023 14 [v0, v1, v2, v3] (.int (am_i (-102)) :: sk) st Q := am_gu.trans rfl
theorem u8023_14 {v0 : Value} {v1 : Value} {v2 : Value} {v3 : Value} {x : Int32} : am_g d X am_m8023 14 [v0, v1, v2, v3] [.int x] st Q = Q (.inl (some (.int x))) st := am_gu.trans rfl
theorem u8023_15 {v0 : Value} {v1 : Value} {v3 : Value} {x : Int32} : am_g d X am_m8023 15 [v0, v1, .int x, v3] sk st Q = am_g d X am_m8023 16 [v0, v1, .int x, v3] (.int x :: sk) st Q := am_gu.trans rfl
theorem u8023_16 {v0 : Value} {v1 : Value} {v2 : Value} {v3 : Value} {x : Int32} : am_g d X am_m8023 16 [v0, v1, v2, v3] (.int x :: sk) st Q = (if decide (x = 0) = true then am_g d X am_m8023 23 [v0, v1, v2, v3] sk st Q else am_g d X am_m8023 19 [v0, v1, v2, v3] sk st Q) := am_gu.trans rfl
theorem u8023_19 {v0 : Value} {v1 : Value} {v2 : Value} {v3 : Value} : am_g d X am_m8023 19 [v0, v1, v2, v3] sk st Q = am_g d X am_m8023 20 [v0, v1, v2, v3] (.int (am_i 1) :: sk) st Q := am_gu.trans rfl
theorem u8023_20 {v0 : Value} {v1 : Value} {v2 : Value} {v3 : Value} : am_g d X am_m8023 20 [v0, v1, v2, v3] sk st Q = am_g d X am_m8023 24 [v0, v1, v2, v3] sk st Q := am_gu.trans rfl
theorem u8023_23 {v0 : Value} {v1 : Value} {v2 : Value} {v3 : Value} : am_g d X am_m8023 23 [v0, v1, v2, v3] sk st Q = am_g d X am_m8023 24 [v0, v1, v2, v3] (.int (am_i 0) :: sk) st Q := am_gu.trans rfl
theorem u8023_24 {v0 : Value} {v1 : Value} {v2 : Value} {v3 : Value} {x : Int32} : am_g d X am_m8023 24 [v0, v1, v2, v3] [.int x] st Q = Q (.inl (some (.int x))) st := am_gu.trans rfl
set_option maxRecDepth 100000 in
theorem of_8024 : am_of 8024 = some am_m8024 := rfl
theorem c8024 {a0 a1} {P : am_Q} : am_Ca X (d + 1) 8024 [.ref a0, .int a1] st P = am_g d X am_m8024 0 [.ref a0, .int a1, am_u] [] st P := am_cg of_8024 (by show 2 ≤ 3; decide)
theorem u8024_0 {v1 : Value} {v2 : Value} {x : Nat} : am_g d X am_m8024 0 [.ref x, v1, v2] sk st Q = am_g d X am_m8024 1 [.ref x, v1, v2] (.ref x :: sk) st Q := am_gu.trans rfl
theorem u8024_1 {v0 : Value} {v2 : Value} {x : Int32} : am_g d X am_m8024 1 [v0, .int x, v2] sk st Q = am_g d X am_m8024 2 [v0, .int x, v2] (.int x :: sk) st Q := am_gu.trans rfl
theorem u8024_2 {a0 : Value} {v0 : Value} {v1 : Value} {v2 : Value} : am_g d X am_m8024 2 [v0, v1, v2] (a0 :: .ref o :: sk) st Q = ((am_ob st o 6 ∧ sk.length ≤ 5) ∧ am_Ca X d 6040 [.ref o, a0] st (am_af am_m8024 2 [v0, v1, v2] sk (fun pc lc sk st => am_g d X am_m8024 pc lc sk st Q) Q)) := am_gu.trans rfl
theorem u8024_5 {v0 : Value} {v1 : Value} {v2 : Value} {x : Int32} : am_g d X am_m8024 5 [v0, v1, v2] [.int x] st Q = Q (.inl (some (.int x))) st := am_gu.trans rfl
theorem u8024_7 {v0 : Value} {v1 : Value} {v2 : Value} : am_g d X am_m8024 7 [v0, v1, v2] sk st Q = am_g d X am_m8024 9 [v0, v1, v2] (.int (am_i (-102)) :: sk) st Q := am_gu.trans rfl
theorem u8024_9 {v0 : Value} {v1 : Value} {v2 : Value} {x : Int32} : am_g d X am_m8024 9 [v0, v1, v2] [.int x] st Q = Q (.inl (some (.int x))) st := am_gu.trans rfl
theorem u8024_11 {v0 : Value} {v1 : Value} {v2 : Value} : am_g d X am_m8024 11 [v0, v1, v2] sk st Q = am_g d X am_m8024 13 [v0, v1, v2] (.int (am_i (-103)) :: sk) st Q := am_gu.trans rfl
theorem u8024_13 {v0 : Value} {v1 : Value} {v2 : Value} {x : Int32} : am_g d X am_m8024 13 [v0, v1, v2] [.int x] st Q = Q (.inl (some (.int x))) st := am_gu.trans rfl
set_option maxRecDepth 100000 in
theorem of_8025 : am_of 8025 = some am_m8025 := rfl
theorem c8025 {a0 a1 a2} {P : am_Q} : am_Ca X (d + 1) 8025 [.ref a0, .int a1, .int a2] st P = am_g d X am_m8025 0 [.ref a0, .int a1, .int a2, am_u] [] st P := am_cg of_8025 (by show 3 ≤ 4; decide)
theorem u8025_0 {v1 : Value} {v2 : Value} {v3 : Value} {x : Nat} : am_g d X am_m8025 0 [.ref x, v1, v2, v3] sk st Q = am_g d X am_m8025 1 [.ref x, v1, v2, v3] (.ref x :: sk) st Q := am_gu.trans rfl
theorem u8025_1 {v0 : Value} {v2 : Value} {v3 : Value} {x : Int32} : am_g d X am_m8025 1 [v0, .int x, v2, v3] sk st Q = am_g d X am_m8025 2 [v0, .int x, v2, v3] (.int x :: sk) st Q := am_gu.trans rfl
theorem u8025_2 {v0 : Value} {v1 : Value} {v3 : Value} {x : Int32} : am_g d X am_m8025 2 [v0, v1, .int x, v3] sk st Q = am_g d X am_m8025 3 [v0, v1, .int x, v3] (.int x :: sk) st Q := am_gu.trans rfl
theorem u8025_3 {a0 : Value} {a1 : Value} {v0 : Value} {v1 : Value} {v2 : Value} {v3 : Value} : am_g d X am_m8025 3 [v0, v1, v2, v3] (a1 :: a0 :: .ref o :: sk) st Q = ((am_ob st o 6 ∧ sk.length ≤ 5) ∧ am_Ca X d 6047 [.ref o, a0, a1] st (am_af am_m8025 3 [v0, v1, v2, v3] sk (fun pc lc sk st => am_g d X am_m8025 pc lc sk st Q) Q)) := am_gu.trans rfl
theorem u8025_6 {v0 : Value} {v1 : Value} {v2 : Value} {v3 : Value} {x : Int32} : am_g d X am_m8025 6 [v0, v1, v2, v3] [.int x] st Q = Q (.inl (some (.int x))) st := am_gu.trans rfl
theorem u8025_8 {v0 : Value} {v1 : Value} {v2 : Value} {v3 : Value} : am_g d X am_m8025 8 [v0, v1, v2, v3] sk st Q = am_g d X am_m8025 10 [v0, v1, v2, v3] (.int (am_i (-102)) :: sk) st Q := am_gu.trans rfl
theorem u8025_10 {v0 : Value} {v1 : Value} {v2 : Value} {v3 : Value} {x : Int32} : am_g d X am_m8025 10 [v0, v1, v2, v3] [.int x] st Q = Q (.inl (some (.int x))) st := am_gu.trans rfl
set_option maxRecDepth 100000 in
theorem of_8026 : am_of 8026 = some am_m8026 := rfl
theorem c8026 {a0 a1} {P : am_Q} : am_Ca X (d + 1) 8026 [.ref a0, .int a1] st P = am_g d X am_m8026 0 [.ref a0, .int a1, am_u] [] st P := am_cg of_8026 (by show 2 ≤ 3; decide)
theorem u8026_0 {v1 : Value} {v2 : Value} {x : Nat} : am_g d X am_m8026 0 [.ref x, v1, v2] sk st Q = am_g d X am_m8026 1 [.ref x, v1, v2] (.ref x :: sk) st Q := am_gu.trans rfl
theorem u8026_1 {v0 : Value} {v2 : Value} {x : Int32} : am_g d X am_m8026 1 [v0, .int x, v2] sk st Q = am_g d X am_m8026 2 [v0, .int x, v2] (.int x :: sk) st Q := am_gu.trans rfl
theorem u8026_2 {a0 : Value} {v0 : Value} {v1 : Value} {v2 : Value} : am_g d X am_m8026 2 [v0, v1, v2] (a0 :: .ref o :: sk) st Q = ((am_ob st o 6 ∧ sk.length ≤ 5) ∧ am_Ca X d 6053 [.ref o, a0] st (am_af am_m8026 2 [v0, v1, v2] sk (fun pc lc sk st => am_g d X am_m8026 pc lc sk st Q) Q)) := am_gu.trans rfl
theorem u8026_5 {v0 : Value} {v1 : Value} {v2 : Value} {x : Int32} : am_g d X am_m8026 5 [v0, v1, v2] [.int x] st Q = Q (.inl (some (.int x))) st := am_gu.trans rfl
theorem u8026_7 {v0 : Value} {v1 : Value} {v2 : Value} : am_g d X am_m8026 7 [v0, v1, v2] sk st Q = am_g d X am_m8026 9 [v0, v1, v2] (.int (am_i (-102)) :: sk) st Q := am_gu.trans rfl
theorem u8026_9 {v0 : Value} {v1 : Value} {v2 : Value} {x : Int32} : am_g d X am_m8026 9 [v0, v1, v2] [.int x] st Q = Q (.inl (some (.int x))) st := am_gu.trans rfl
theorem u8026_11 {v0 : Value} {v1 : Value} {v2 : Value} : am_g d X am_m8026 11 [v0, v1, v2] sk st Q = am_g d X am_m8026 13 [v0, v1, v2] (.int (am_i (-103)) :: sk) st Q := am_gu.trans rfl
theorem u8026_13 {v0 : Value} {v1 : Value} {v2 : Value} {x : Int32} : am_g d X am_m8026 13 [v0, v1, v2] [.int x] st Q = Q (.inl (some (.int x))) st := am_gu.trans rfl
set_option maxRecDepth 100000 in
theorem of_8027 : am_of 8027 = some am_m8027 := rfl
theorem c8027 {a0} {P : am_Q} : am_Ca X (d + 1) 8027 [.ref a0] st P = am_g d X am_m8027 0 [.ref a0, am_u] [] st P := am_cg of_8027 (by show 1 ≤ 2; decide)
theorem u8027_0 {v1 : Value} {x : Nat} : am_g d X am_m8027 0 [.ref x, v1] sk st Q = am_g d X am_m8027 1 [.ref x, v1] (.ref x :: sk) st Q := am_gu.trans rfl
theorem u8027_1 {v0 : Value} {v1 : Value} : am_g d X am_m8027 1 [v0, v1] (.ref o :: sk) st Q = ((am_ob st o 6 ∧ sk.length ≤ 5) ∧ am_Ca X d 6057 [.ref o] st (am_af am_m8027 1 [v0, v1] sk (fun pc lc sk st => am_g d X am_m8027 pc lc sk st Q) Q)) := am_gu.trans rfl
theorem u8027_4 {v0 : Value} {v1 : Value} {x : Int32} : am_g d X am_m8027 4 [v0, v1] [.int x] st Q = Q (.inl (some (.int x))) st := am_gu.trans rfl
theorem u8027_6 {v0 : Value} {v1 : Value} : am_g d X am_m8027 6 [v0, v1] sk st Q = am_g d X am_m8027 8 [v0, v1] (.int (am_i (-103)) :: sk) st Q := am_gu.trans rfl
theorem u8027_8 {v0 : Value} {v1 : Value} {x : Int32} : am_g d X am_m8027 8 [v0, v1] [.int x] st Q = Q (.inl (some (.int x))) st := am_gu.trans rfl
set_option maxRecDepth 100000 in
theorem of_8028 : am_of 8028 = some am_m8028 := rfl
theorem c8028 {a0} {P : am_Q} : am_Ca X (d + 1) 8028 [.ref a0] st P = am_g d X am_m8028 0 [.ref a0, am_u] [] st P := am_cg of_8028 (by show 1 ≤ 2; decide)
theorem u8028_0 {v1 : Value} {x : Nat} : am_g d X am_m8028 0 [.ref x, v1] sk st Q = am_g d X am_m8028 1 [.ref x, v1] (.ref x :: sk) st Q := am_gu.trans rfl
theorem u8028_1 {v0 : Value} {v1 : Value} : am_g d X am_m8028 1 [v0, v1] (.ref o :: sk) st Q = ((am_ob st o 6 ∧ sk.length ≤ 5) ∧ am_Ca X d 6058 [.ref o] st (am_af am_m8028 1 [v0, v1] sk (fun pc lc sk st => am_g d X am_m8028 pc lc sk st Q) Q)) := am_gu.trans rfl
theorem u8028_4 {v0 : Value} {v1 : Value} {x : Int32} : am_g d X am_m8028 4 [v0, v1] [.int x] st Q = Q (.inl (some (.int x))) st := am_gu.trans rfl
theorem u8028_6 {v0 : Value} {v1 : Value} : am_g d X am_m8028 6 [v0, v1] sk st Q = am_g d X am_m8028 8 [v0, v1] (.int (am_i (-103)) :: sk) st Q := am_gu.trans rfl
theorem u8028_8 {v0 : Value} {v1 : Value} {x : Int32} : am_g d X am_m8028 8 [v0, v1] [.int x] st Q = Q (.inl (some (.int x))) st := am_gu.trans rfl
set_option maxRecDepth 100000 in
theorem of_8029 : am_of 8029 = some am_m8029 := rfl
theorem c8029 {a0 a1 a2} {P : am_Q} : am_Ca X (d + 1) 8029 [.ref a0, .int a1, .int a2] st P = am_g d X am_m8029 0 [.ref a0, .int a1, .int a2, am_u] [] st P := am_cg of_8029 (by show 3 ≤ 4; decide)
theorem u8029_0 {v1 : Value} {v2 : Value} {v3 : Value} {x : Nat} : am_g d X am_m8029 0 [.ref x, v1, v2, v3] sk st Q = am_g d X am_m8029 1 [.ref x, v1, v2, v3] (.ref x :: sk) st Q := am_gu.trans rfl
theorem u8029_1 {v0 : Value} {v2 : Value} {v3 : Value} {x : Int32} : am_g d X am_m8029 1 [v0, .int x, v2, v3] sk st Q = am_g d X am_m8029 2 [v0, .int x, v2, v3] (.int x :: sk) st Q := am_gu.trans rfl
theorem u8029_2 {v0 : Value} {v1 : Value} {v3 : Value} {x : Int32} : am_g d X am_m8029 2 [v0, v1, .int x, v3] sk st Q = am_g d X am_m8029 3 [v0, v1, .int x, v3] (.int x :: sk) st Q := am_gu.trans rfl
theorem u8029_3 {a0 : Value} {a1 : Value} {v0 : Value} {v1 : Value} {v2 : Value} {v3 : Value} : am_g d X am_m8029 3 [v0, v1, v2, v3] (a1 :: a0 :: .ref o :: sk) st Q = ((am_ob st o 6 ∧ sk.length ≤ 5) ∧ am_Ca X d 6031 [.ref o, a0, a1] st (am_af am_m8029 3 [v0, v1, v2, v3] sk (fun pc lc sk st => am_g d X am_m8029 pc lc sk st Q) Q)) := am_gu.trans rfl
theorem u8029_6 {v0 : Value} {v1 : Value} {v2 : Value} {v3 : Value} {x : Int32} : am_g d X am_m8029 6 [v0, v1, v2, v3] [.int x] st Q = Q (.inl (some (.int x))) st := am_gu.trans rfl
theorem u8029_8 {v0 : Value} {v1 : Value} {v2 : Value} {v3 : Value} : am_g d X am_m8029 8 [v0, v1, v2, v3] sk st Q = am_g d X am_m8029 10 [v0, v1, v2, v3] (.int (am_i (-102)) :: sk) st Q := am_gu.trans rfl
theorem u8029_10 {v0 : Value} {v1 : Value} {v2 : Value} {v3 : Value} {x : Int32} : am_g d X am_m8029 10 [v0, v1, v2, v3] [.int x] st Q = Q (.inl (some (.int x))) st := am_gu.trans rfl
set_option maxRecDepth 100000 in
theorem of_8030 : am_of 8030 = some am_m8030 := rfl
theorem c8030 {a0 a1 a2} {P : am_Q} : am_Ca X (d + 1) 8030 [.ref a0, .int a1, .int a2] st P = am_g d X am_m8030 0 [.ref a0, .int a1, .int a2, am_u] [] st P := am_cg of_8030 (by show 3 ≤ 4; decide)
theorem u8030_0 {v1 : Value} {v2 : Value} {v3 : Value} {x : Nat} : am_g d X am_m8030 0 [.ref x, v1, v2, v3] sk st Q = am_g d X am_m8030 1 [.ref x, v1, v2, v3] (.ref x :: sk) st Q := am_gu.trans rfl
theorem u8030_1 {v0 : Value} {v2 : Value} {v3 : Value} {x : Int32} : am_g d X am_m8030 1 [v0, .int x, v2, v3] sk st Q = am_g d X am_m8030 2 [v0, .int x, v2, v3] (.int x :: sk) st Q := am_gu.trans rfl
theorem u8030_2 {v0 : Value} {v1 : Value} {v3 : Value} {x : Int32} : am_g d X am_m8030 2 [v0, v1, .int x, v3] sk st Q = am_g d X am_m8030 3 [v0, v1, .int x, v3] (.int x :: sk) st Q := am_gu.trans rfl
theorem u8030_3 {a0 : Value} {a1 : Value} {v0 : Value} {v1 : Value} {v2 : Value} {v3 : Value} : am_g d X am_m8030 3 [v0, v1, v2, v3] (a1 :: a0 :: .ref o :: sk) st Q = ((am_ob st o 6 ∧ sk.length ≤ 5) ∧ am_Ca X d 6048 [.ref o, a0, a1] st (am_af am_m8030 3 [v0, v1, v2, v3] sk (fun pc lc sk st => am_g d X am_m8030 pc lc sk st Q) Q)) := am_gu.trans rfl
theorem u8030_6 {v0 : Value} {v1 : Value} {v2 : Value} {v3 : Value} {x : Int32} : am_g d X am_m8030 6 [v0, v1, v2, v3] [.int x] st Q = Q (.inl (some (.int x))) st := am_gu.trans rfl
theorem u8030_8 {v0 : Value} {v1 : Value} {v2 : Value} {v3 : Value} : am_g d X am_m8030 8 [v0, v1, v2, v3] sk st Q = am_g d X am_m8030 10 [v0, v1, v2, v3] (.int (am_i (-102)) :: sk) st Q := am_gu.trans rfl
theorem u8030_10 {v0 : Value} {v1 : Value} {v2 : Value} {v3 : Value} {x : Int32} : am_g d X am_m8030 10 [v0, v1, v2, v3] [.int x] st Q = Q (.inl (some (.int x))) st := am_gu.trans rfl
set_option maxRecDepth 100000 in
theorem of_8031 : am_of 8031 = some am_m8031 := rfl
theorem c8031 {a0 a1 a2} {P : am_Q} : am_Ca X (d + 1) 8031 [.ref a0, .int a1, .int a2] st P = am_g d X am_m8031 0 [.ref a0, .int a1, .int a2, am_u] [] st P := am_cg of_8031 (by show 3 ≤ 4; decide)
theorem u8031_0 {v1 : Value} {v2 : Value} {v3 : Value} {x : Nat} : am_g d X am_m8031 0 [.ref x, v1, v2, v3] sk st Q = am_g d X am_m8031 1 [.ref x, v1, v2, v3] (.ref x :: sk) st Q := am_gu.trans rfl
theorem u8031_1 {v0 : Value} {v2 : Value} {v3 : Value} {x : Int32} : am_g d X am_m8031 1 [v0, .int x, v2, v3] sk st Q = am_g d X am_m8031 2 [v0, .int x, v2, v3] (.int x :: sk) st Q := am_gu.trans rfl
theorem u8031_2 {v0 : Value} {v1 : Value} {v3 : Value} {x : Int32} : am_g d X am_m8031 2 [v0, v1, .int x, v3] sk st Q = am_g d X am_m8031 3 [v0, v1, .int x, v3] (.int x :: sk) st Q := am_gu.trans rfl
theorem u8031_3 {a0 : Value} {a1 : Value} {v0 : Value} {v1 : Value} {v2 : Value} {v3 : Value} : am_g d X am_m8031 3 [v0, v1, v2, v3] (a1 :: a0 :: .ref o :: sk) st Q = ((am_ob st o 6 ∧ sk.length ≤ 5) ∧ am_Ca X d 6050 [.ref o, a0, a1] st (am_af am_m8031 3 [v0, v1, v2, v3] sk (fun pc lc sk st => am_g d X am_m8031 pc lc sk st Q) Q)) := am_gu.trans rfl
theorem u8031_6 {v0 : Value} {v1 : Value} {v2 : Value} {v3 : Value} {x : Int32} : am_g d X am_m8031 6 [v0, v1, v2, v3] [.int x] st Q = Q (.inl (some (.int x))) st := am_gu.trans rfl
theorem u8031_8 {v0 : Value} {v1 : Value} {v2 : Value} {v3 : Value} : am_g d X am_m8031 8 [v0, v1, v2, v3] sk st Q = am_g d X am_m8031 10 [v0, v1, v2, v3] (.int (am_i (-102)) :: sk) st Q := am_gu.trans rfl
theorem u8031_10 {v0 : Value} {v1 : Value} {v2 : Value} {v3 : Value} {x : Int32} : am_g d X am_m8031 10 [v0, v1, v2, v3] [.int x] st Q = Q (.inl (some (.int x))) st := am_gu.trans rfl
set_option maxRecDepth 100000 in
theorem of_8032 : am_of 8032 = some am_m8032 := rfl
theorem c8032 {a0 a1} {P : am_Q} : am_Ca X (d + 1) 8032 [.ref a0, .int a1] st P = am_g d X am_m8032 0 [.ref a0, .int a1, am_u] [] st P := am_cg of_8032 (by show 2 ≤ 3; decide)
theorem u8032_0 {v1 : Value} {v2 : Value} {x : Nat} : am_g d X am_m8032 0 [.ref x, v1, v2] sk st Q = am_g d X am_m8032 1 [.ref x, v1, v2] (.ref x :: sk) st Q := am_gu.trans rfl
theorem u8032_1 {v0 : Value} {v2 : Value} {x : Int32} : am_g d X am_m8032 1 [v0, .int x, v2] sk st Q = am_g d X am_m8032 2 [v0, .int x, v2] (.int x :: sk) st Q := am_gu.trans rfl
theorem u8032_2 {a0 : Value} {v0 : Value} {v1 : Value} {v2 : Value} : am_g d X am_m8032 2 [v0, v1, v2] (a0 :: .ref o :: sk) st Q = ((am_ob st o 6 ∧ sk.length ≤ 5) ∧ am_Ca X d 6046 [.ref o, a0] st (am_af am_m8032 2 [v0, v1, v2] sk (fun pc lc sk st => am_g d X am_m8032 pc lc sk st Q) Q)) := am_gu.trans rfl
theorem u8032_5 {v0 : Value} {v1 : Value} {v2 : Value} {x : Int32} : am_g d X am_m8032 5 [v0, v1, v2] [.int x] st Q = Q (.inl (some (.int x))) st := am_gu.trans rfl
theorem u8032_7 {v0 : Value} {v1 : Value} {v2 : Value} : am_g d X am_m8032 7 [v0, v1, v2] sk st Q = am_g d X am_m8032 9 [v0, v1, v2] (.int (am_i (-102)) :: sk) st Q := am_gu.trans rfl
theorem u8032_9 {v0 : Value} {v1 : Value} {v2 : Value} {x : Int32} : am_g d X am_m8032 9 [v0, v1, v2] [.int x] st Q = Q (.inl (some (.int x))) st := am_gu.trans rfl
set_option maxRecDepth 100000 in
theorem of_8033 : am_of 8033 = some am_m8033 := rfl
theorem c8033 {a0 a1} {P : am_Q} : am_Ca X (d + 1) 8033 [.ref a0, .int a1] st P = am_g d X am_m8033 0 [.ref a0, .int a1, am_u] [] st P := am_cg of_8033 (by show 2 ≤ 3; decide)
theorem u8033_0 {v1 : Value} {v2 : Value} {x : Nat} : am_g d X am_m8033 0 [.ref x, v1, v2] sk st Q = am_g d X am_m8033 1 [.ref x, v1, v2] (.ref x :: sk) st Q := am_gu.trans rfl
theorem u8033_1 {v0 : Value} {v2 : Value} {x : Int32} : am_g d X am_m8033 1 [v0, .int x, v2] sk st Q = am_g d X am_m8033 2 [v0, .int x, v2] (.int x :: sk) st Q := am_gu.trans rfl
theorem u8033_2 {a0 : Value} {v0 : Value} {v1 : Value} {v2 : Value} : am_g d X am_m8033 2 [v0, v1, v2] (a0 :: .ref o :: sk) st Q = ((am_ob st o 6 ∧ sk.length ≤ 5) ∧ am_Ca X d 6049 [.ref o, a0] st (am_af am_m8033 2 [v0, v1, v2] sk (fun pc lc sk st => am_g d X am_m8033 pc lc sk st Q) Q)) := am_gu.trans rfl
theorem u8033_5 {v0 : Value} {v1 : Value} {v2 : Value} {x : Int32} : am_g d X am_m8033 5 [v0, v1, v2] [.int x] st Q = Q (.inl (some (.int x))) st := am_gu.trans rfl
theorem u8033_7 {v0 : Value} {v1 : Value} {v2 : Value} : am_g d X am_m8033 7 [v0, v1, v2] sk st Q = am_g d X am_m8033 9 [v0, v1, v2] (.int (am_i (-102)) :: sk) st Q := am_gu.trans rfl
theorem u8033_9 {v0 : Value} {v1 : Value} {v2 : Value} {x : Int32} : am_g d X am_m8033 9 [v0, v1, v2] [.int x] st Q = Q (.inl (some (.int x))) st := am_gu.trans rfl
set_option maxRecDepth 100000 in
theorem of_8034 : am_of 8034 = some am_m8034 := rfl
theorem c8034 {a0} {P : am_Q} : am_Ca X (d + 1) 8034 [.ref a0] st P = am_g d X am_m8034 0 [.ref a0, am_u, am_u, am_u] [] st P := am_cg of_8034 (by show 1 ≤ 4; decide)
theorem hd_8034 : am_hd am_m8034 = [] := rfl
set_option maxRecDepth 100000 in
theorem u8034_0 {v0 : Value} {v1 : Value} {v2 : Value} {v3 : Value} : am_g d X am_m8034 0 [v0, v1, v2, v3] sk st Q = am_g d X am_m8034 3 [v0, v1, v2, v3] (.long (Int64.ofNat 31) :: sk) st Q := am_gu.trans rfl
set_option maxRecDepth 100000 in
theorem u8034_3 {v0 : Value} {v1 : Value} {v2 : Value} {v3 : Value} : am_g d X am_m8034 3 [v0, v1, v2, v3] sk st Q = am_g d X am_m8034 6 [v0, v1, v2, v3] (.long (Int64.ofNat 31) :: sk) st Q := am_gu.trans rfl
set_option maxRecDepth 100000 in
theorem u8034_6 {v0 : Value} {v1 : Value} {v2 : Value} {v3 : Value} : am_g d X am_m8034 6 [v0, v1, v2, v3] sk st Q = am_g d X am_m8034 9 [v0, v1, v2, v3] (.long (Int64.ofNat 31) :: sk) st Q := am_gu.trans rfl
set_option maxRecDepth 100000 in
theorem u8034_9 {v0 : Value} {v1 : Value} {v2 : Value} {v3 : Value} : am_g d X am_m8034 9 [v0, v1, v2, v3] sk st Q = am_g d X am_m8034 12 [v0, v1, v2, v3] (.long (Int64.ofNat 31) :: sk) st Q := am_gu.trans rfl
set_option maxRecDepth 100000 in
theorem u8034_12 {v0 : Value} {v1 : Value} {v2 : Value} {v3 : Value} : am_g d X am_m8034 12 [v0, v1, v2, v3] sk st Q = am_g d X am_m8034 15 [v0, v1, v2, v3] (.long (Int64.ofNat 709) :: sk) st Q := am_gu.trans rfl
set_option maxRecDepth 100000 in
theorem u8034_15 {v1 : Value} {v2 : Value} {v3 : Value} {x : Nat} : am_g d X am_m8034 15 [.ref x, v1, v2, v3] sk st Q = am_g d X am_m8034 16 [.ref x, v1, v2, v3] (.ref x :: sk) st Q := am_gu.trans rfl
set_option maxRecDepth 100000 in
theorem u8034_16 {v0 : Value} {v1 : Value} {v2 : Value} {v3 : Value} : am_g d X am_m8034 16 [v0, v1, v2, v3] (.ref o :: sk) st Q = ((am_ob st o 6 ∧ sk.length ≤ 5) ∧ am_Ca X d 6035 [.ref o] st (am_af am_m8034 16 [v0, v1, v2, v3] sk (fun pc lc sk st => am_g d X am_m8034 pc lc sk st Q) Q)) := am_gu.trans rfl
set_option maxRecDepth 100000 in
theorem u8034_19 {v0 : Value} {v1 : Value} {v2 : Value} {v3 : Value} {x : Int32} : am_g d X am_m8034 19 [v0, v1, v2, v3] (.int x :: sk) st Q = am_g d X am_m8034 20 [v0, v1, v2, v3] (.long x.toInt64 :: sk) st Q := am_gu.trans rfl
set_option maxRecDepth 100000 in
theorem u8034_20 {v0 : Value} {v1 : Value} {v2 : Value} {v3 : Value} {x : Int64} {y : Int64} : am_g d X am_m8034 20 [v0, v1, v2, v3] (.long y :: .long x :: sk) st Q = am_g d X am_m8034 21 [v0, v1, v2, v3] (.long (x + y) :: sk) st Q := am_gu.trans rfl
set_option maxRecDepth 100000 in
theorem u8034_21 {v0 : Value} {v1 : Value} {v2 : Value} {v3 : Value} {x : Int64} {y : Int64} : am_g d X am_m8034 21 [v0, v1, v2, v3] (.long y :: .long x :: sk) st Q = am_g d X am_m8034 22 [v0, v1, v2, v3] (.long (x * y) :: sk) st Q := am_gu.trans rfl
set_option maxRecDepth 100000 in
theorem u8034_22 {v1 : Value} {v2 : Value} {v3 : Value} {x : Nat} : am_g d X am_m8034 22 [.ref x, v1, v2, v3] sk st Q = am_g d X am_m8034 23 [.ref x, v1, v2, v3] (.ref x :: sk) st Q := am_gu.trans rfl
set_option maxRecDepth 100000 in
theorem u8034_23 {v0 : Value} {v1 : Value} {v2 : Value} {v3 : Value} : am_g d X am_m8034 23 [v0, v1, v2, v3] (.ref o :: sk) st Q = ((am_ob st o 6 ∧ sk.length ≤ 5) ∧ am_Ca X d 6041 [.ref o] st (am_af am_m8034 23 [v0, v1, v2, v3] sk (fun pc lc sk st => am_g d X am_m8034 pc lc sk st Q) Q)) := am_gu.trans rfl
set_option maxRecDepth 100000 in
theorem u8034_26 {v0 : Value} {v1 : Value} {v2 : Value} {v3 : Value} {x : Int32} : am_g d X am_m8034 26 [v0, v1, v2, v3] (.int x :: sk) st Q = am_g d X am_m8034 27 [v0, v1, v2, v3] (.long x.toInt64 :: sk) st Q := am_gu.trans rfl
set_option maxRecDepth 100000 in
theorem u8034_27 {v0 : Value} {v1 : Value} {v2 : Value} {v3 : Value} {x : Int64} {y : Int64} : am_g d X am_m8034 27 [v0, v1, v2, v3] (.long y :: .long x :: sk) st Q = am_g d X am_m8034 28 [v0, v1, v2, v3] (.long (x + y) :: sk) st Q := am_gu.trans rfl
set_option maxRecDepth 100000 in
theorem u8034_28 {v0 : Value} {v1 : Value} {v2 : Value} {v3 : Value} {x : Int64} {y : Int64} : am_g d X am_m8034 28 [v0, v1, v2, v3] (.long y :: .long x :: sk) st Q = am_g d X am_m8034 29 [v0, v1, v2, v3] (.long (x * y) :: sk) st Q := am_gu.trans rfl
set_option maxRecDepth 100000 in
theorem u8034_29 {v1 : Value} {v2 : Value} {v3 : Value} {x : Nat} : am_g d X am_m8034 29 [.ref x, v1, v2, v3] sk st Q = am_g d X am_m8034 30 [.ref x, v1, v2, v3] (.ref x :: sk) st Q := am_gu.trans rfl
set_option maxRecDepth 100000 in
theorem u8034_30 {v0 : Value} {v1 : Value} {v2 : Value} {v3 : Value} : am_g d X am_m8034 30 [v0, v1, v2, v3] (.ref o :: sk) st Q = ((am_ob st o 6 ∧ sk.length ≤ 5) ∧ am_Ca X d 6043 [.ref o] st (am_af am_m8034 30 [v0, v1, v2, v3] sk (fun pc lc sk st => am_g d X am_m8034 pc lc sk st Q) Q)) := am_gu.trans rfl
set_option maxRecDepth 100000 in
theorem u8034_33 {v0 : Value} {v1 : Value} {v2 : Value} {v3 : Value} {x : Int32} : am_g d X am_m8034 33 [v0, v1, v2, v3] (.int x :: sk) st Q = am_g d X am_m8034 34 [v0, v1, v2, v3] (.long x.toInt64 :: sk) st Q := am_gu.trans rfl
set_option maxRecDepth 100000 in
theorem u8034_34 {v0 : Value} {v1 : Value} {v2 : Value} {v3 : Value} {x : Int64} {y : Int64} : am_g d X am_m8034 34 [v0, v1, v2, v3] (.long y :: .long x :: sk) st Q = am_g d X am_m8034 35 [v0, v1, v2, v3] (.long (x + y) :: sk) st Q := am_gu.trans rfl
set_option maxRecDepth 100000 in
theorem u8034_35 {v0 : Value} {v1 : Value} {v2 : Value} {v3 : Value} {x : Int64} {y : Int64} : am_g d X am_m8034 35 [v0, v1, v2, v3] (.long y :: .long x :: sk) st Q = am_g d X am_m8034 36 [v0, v1, v2, v3] (.long (x * y) :: sk) st Q := am_gu.trans rfl
set_option maxRecDepth 100000 in
theorem u8034_36 {v1 : Value} {v2 : Value} {v3 : Value} {x : Nat} : am_g d X am_m8034 36 [.ref x, v1, v2, v3] sk st Q = am_g d X am_m8034 37 [.ref x, v1, v2, v3] (.ref x :: sk) st Q := am_gu.trans rfl
set_option maxRecDepth 100000 in
theorem u8034_37 {v0 : Value} {v1 : Value} {v2 : Value} {v3 : Value} : am_g d X am_m8034 37 [v0, v1, v2, v3] (.ref o :: sk) st Q = ((am_ob st o 6 ∧ sk.length ≤ 5) ∧ am_Ca X d 6055 [.ref o] st (am_af am_m8034 37 [v0, v1, v2, v3] sk (fun pc lc sk st => am_g d X am_m8034 pc lc sk st Q) Q)) := am_gu.trans rfl
set_option maxRecDepth 100000 in
theorem u8034_40 {v0 : Value} {v1 : Value} {v2 : Value} {v3 : Value} {x : Int32} : am_g d X am_m8034 40 [v0, v1, v2, v3] (.int x :: sk) st Q = am_g d X am_m8034 41 [v0, v1, v2, v3] (.long x.toInt64 :: sk) st Q := am_gu.trans rfl
set_option maxRecDepth 100000 in
theorem u8034_41 {v0 : Value} {v1 : Value} {v2 : Value} {v3 : Value} {x : Int64} {y : Int64} : am_g d X am_m8034 41 [v0, v1, v2, v3] (.long y :: .long x :: sk) st Q = am_g d X am_m8034 42 [v0, v1, v2, v3] (.long (x + y) :: sk) st Q := am_gu.trans rfl
set_option maxRecDepth 100000 in
theorem u8034_42 {v0 : Value} {v1 : Value} {v2 : Value} {v3 : Value} {x : Int64} {y : Int64} : am_g d X am_m8034 42 [v0, v1, v2, v3] (.long y :: .long x :: sk) st Q = am_g d X am_m8034 43 [v0, v1, v2, v3] (.long (x * y) :: sk) st Q := am_gu.trans rfl
set_option maxRecDepth 100000 in
theorem u8034_43 {v1 : Value} {v2 : Value} {v3 : Value} {x : Nat} : am_g d X am_m8034 43 [.ref x, v1, v2, v3] sk st Q = am_g d X am_m8034 44 [.ref x, v1, v2, v3] (.ref x :: sk) st Q := am_gu.trans rfl
set_option maxRecDepth 100000 in
theorem u8034_44 {v0 : Value} {v1 : Value} {v2 : Value} {v3 : Value} : am_g d X am_m8034 44 [v0, v1, v2, v3] (.ref o :: sk) st Q = ((am_ob st o 6 ∧ sk.length ≤ 5) ∧ am_Ca X d 6025 [.ref o] st (am_af am_m8034 44 [v0, v1, v2, v3] sk (fun pc lc sk st => am_g d X am_m8034 pc lc sk st Q) Q)) := am_gu.trans rfl
set_option maxRecDepth 100000 in
theorem u8034_47 {v0 : Value} {v1 : Value} {v2 : Value} {v3 : Value} {x : Int32} : am_g d X am_m8034 47 [v0, v1, v2, v3] (.int x :: sk) st Q = (if decide (x = 0) = true then am_g d X am_m8034 54 [v0, v1, v2, v3] sk st Q else am_g d X am_m8034 50 [v0, v1, v2, v3] sk st Q) := am_gu.trans rfl
set_option maxRecDepth 100000 in
theorem u8034_50 {v0 : Value} {v1 : Value} {v2 : Value} {v3 : Value} : am_g d X am_m8034 50 [v0, v1, v2, v3] sk st Q = am_g d X am_m8034 51 [v0, v1, v2, v3] (.int (am_i 1) :: sk) st Q := am_gu.trans rfl
set_option maxRecDepth 100000 in
theorem u8034_51 {v0 : Value} {v1 : Value} {v2 : Value} {v3 : Value} : am_g d X am_m8034 51 [v0, v1, v2, v3] sk st Q = am_g d X am_m8034 66 [v0, v1, v2, v3] sk st Q := am_gu.trans rfl
set_option maxRecDepth 100000 in
theorem u8034_54 {v1 : Value} {v2 : Value} {v3 : Value} {x : Nat} : am_g d X am_m8034 54 [.ref x, v1, v2, v3] sk st Q = am_g d X am_m8034 55 [.ref x, v1, v2, v3] (.ref x :: sk) st Q := am_gu.trans rfl
set_option maxRecDepth 100000 in
theorem u8034_55 {v0 : Value} {v1 : Value} {v2 : Value} {v3 : Value} : am_g d X am_m8034 55 [v0, v1, v2, v3] (.ref o :: sk) st Q = ((am_ob st o 6 ∧ sk.length ≤ 5) ∧ am_Ca X d 6026 [.ref o] st (am_af am_m8034 55 [v0, v1, v2, v3] sk (fun pc lc sk st => am_g d X am_m8034 pc lc sk st Q) Q)) := am_gu.trans rfl
set_option maxRecDepth 100000 in
theorem u8034_58 {v0 : Value} {v1 : Value} {v2 : Value} {v3 : Value} {x : Int32} : am_g d X am_m8034 58 [v0, v1, v2, v3] (.int x :: sk) st Q = (if decide (x = 0) = true then am_g d X am_m8034 65 [v0, v1, v2, v3] sk st Q else am_g d X am_m8034 61 [v0, v1, v2, v3] sk st Q) := am_gu.trans rfl
set_option maxRecDepth 100000 in
theorem u8034_61 {v0 : Value} {v1 : Value} {v2 : Value} {v3 : Value} : am_g d X am_m8034 61 [v0, v1, v2, v3] sk st Q = am_g d X am_m8034 62 [v0, v1, v2, v3] (.int (am_i 2) :: sk) st Q := am_gu.trans rfl
set_option maxRecDepth 100000 in
theorem u8034_62 {v0 : Value} {v1 : Value} {v2 : Value} {v3 : Value} : am_g d X am_m8034 62 [v0, v1, v2, v3] sk st Q = am_g d X am_m8034 66 [v0, v1, v2, v3] sk st Q := am_gu.trans rfl
set_option maxRecDepth 100000 in
theorem u8034_65 {v0 : Value} {v1 : Value} {v2 : Value} {v3 : Value} : am_g d X am_m8034 65 [v0, v1, v2, v3] sk st Q = am_g d X am_m8034 66 [v0, v1, v2, v3] (.int (am_i 0) :: sk) st Q := am_gu.trans rfl
set_option maxRecDepth 100000 in
theorem u8034_66 {v0 : Value} {v1 : Value} {v2 : Value} {v3 : Value} {x : Int32} : am_g d X am_m8034 66 [v0, v1, v2, v3] (.int x :: sk) st Q = am_g d X am_m8034 67 [v0, v1, v2, v3] (.long x.toInt64 :: sk) st Q := am_gu.trans rfl
set_option maxRecDepth 100000 in
theorem u8034_67 {v0 : Value} {v1 : Value} {v2 : Value} {v3 : Value} {x : Int64} {y : Int64} : am_g d X am_m8034 67 [v0, v1, v2, v3] (.long y :: .long x :: sk) st Q = am_g d X am_m8034 68 [v0, v1, v2, v3] (.long (x + y) :: sk) st Q := am_gu.trans rfl
set_option maxRecDepth 100000 in
theorem u8034_68 {v0 : Value} {v1 : Value} {v2 : Value} {v3 : Value} {x : Int64} : am_g d X am_m8034 68 [v0, v1, v2, v3] (.long x :: sk) st Q = am_g d X am_m8034 69 [am_kc v0, .long x, am_u, v3] sk st Q := am_gu.trans (congrArg (fun l => am_g d X am_m8034 69 (List.set (List.set l 1 (Value.long x)) 2 am_u) sk st Q) (kl_1 (l := [v1, v2, v3])))
set_option maxRecDepth 100000 in
theorem u8034_69 {v0 : Value} {v1 : Value} {v2 : Value} {v3 : Value} : am_g d X am_m8034 69 [v0, v1, v2, v3] sk st Q = am_g d X am_m8034 70 [v0, v1, v2, v3] (.int (am_i 0) :: sk) st Q := am_gu.trans rfl
set_option maxRecDepth 100000 in
theorem u8034_70 {v0 : Value} {v1 : Value} {v2 : Value} {v3 : Value} {x : Int32} : am_g d X am_m8034 70 [v0, v1, v2, v3] (.int x :: sk) st Q = am_g d X am_m8034 71 [v0, v1, am_kc v2, .int x] sk st Q := am_gu.trans (congrArg (fun l => am_g d X am_m8034 71 (List.set l 3 (.int x)) sk st Q) (kl_3 (l := [v3])))
set_option maxRecDepth 100000 in
theorem u8034_71 {v0 : Value} {v1 : Value} {v2 : Value} {x : Int32} : am_g d X am_m8034 71 [v0, v1, v2, .int x] sk st Q = am_g d X am_m8034 72 [v0, v1, v2, .int x] (.int x :: sk) st Q := am_gu.trans rfl
set_option maxRecDepth 100000 in
theorem u8034_72 {v0 : Value} {v1 : Value} {v2 : Value} {v3 : Value} : am_g d X am_m8034 72 [v0, v1, v2, v3] sk st Q = am_g d X am_m8034 74 [v0, v1, v2, v3] (.int (am_i 24) :: sk) st Q := am_gu.trans rfl
set_option maxRecDepth 100000 in
theorem u8034_74 {v0 : Value} {v1 : Value} {v2 : Value} {v3 : Value} {x : Int32} {y : Int32} : am_g d X am_m8034 74 [v0, v1, v2, v3] (.int y :: .int x :: sk) st Q = (if decide (y ≤ x) = true then am_g d X am_m8034 121 [v0, v1, v2, v3] sk st Q else am_g d X am_m8034 77 [v0, v1, v2, v3] sk st Q) := am_gu.trans rfl
set_option maxRecDepth 100000 in
theorem u8034_77 {v0 : Value} {v1 : Value} {v2 : Value} {v3 : Value} : am_g d X am_m8034 77 [v0, v1, v2, v3] sk st Q = am_g d X am_m8034 80 [v0, v1, v2, v3] (.long (Int64.ofNat 31) :: sk) st Q := am_gu.trans rfl
set_option maxRecDepth 100000 in
theorem u8034_80 {v0 : Value} {v1 : Value} {v2 : Value} {v3 : Value} : am_g d X am_m8034 80 [v0, v1, v2, v3] sk st Q = am_g d X am_m8034 83 [v0, v1, v2, v3] (.long (Int64.ofNat 31) :: sk) st Q := am_gu.trans rfl
set_option maxRecDepth 100000 in
theorem u8034_83 {v0 : Value} {v2 : Value} {v3 : Value} {x : Int64} : am_g d X am_m8034 83 [v0, .long x, v2, v3] sk st Q = am_g d X am_m8034 84 [v0, .long x, v2, v3] (.long x :: sk) st Q := am_gu.trans rfl
set_option maxRecDepth 100000 in
theorem u8034_84 {v0 : Value} {v1 : Value} {v2 : Value} {v3 : Value} {x : Int64} {y : Int64} : am_g d X am_m8034 84 [v0, v1, v2, v3] (.long y :: .long x :: sk) st Q = am_g d X am_m8034 85 [v0, v1, v2, v3] (.long (x * y) :: sk) st Q := am_gu.trans rfl
set_option maxRecDepth 100000 in
theorem u8034_85 {v1 : Value} {v2 : Value} {v3 : Value} {x : Nat} : am_g d X am_m8034 85 [.ref x, v1, v2, v3] sk st Q = am_g d X am_m8034 86 [.ref x, v1, v2, v3] (.ref x :: sk) st Q := am_gu.trans rfl
set_option maxRecDepth 100000 in
theorem u8034_86 {v0 : Value} {v1 : Value} {v2 : Value} {x : Int32} : am_g d X am_m8034 86 [v0, v1, v2, .int x] sk st Q = am_g d X am_m8034 87 [v0, v1, v2, .int x] (.int x :: sk) st Q := am_gu.trans rfl
set_option maxRecDepth 100000 in
theorem u8034_87 {v0 : Value} {v1 : Value} {v2 : Value} {v3 : Value} : am_g d X am_m8034 87 [v0, v1, v2, v3] sk st Q = am_g d X am_m8034 89 [v0, v1, v2, v3] (.int (am_i 6) :: sk) st Q := am_gu.trans rfl
set_option maxRecDepth 100000 in
theorem u8034_89 {v0 : Value} {v1 : Value} {v2 : Value} {v3 : Value} {x : Int32} {y : Int32} : am_g d X am_m8034 89 [v0, v1, v2, v3] (.int y :: .int x :: sk) st Q = (¬ y = 0 ∧ am_g d X am_m8034 90 [v0, v1, v2, v3] (.int (x / y) :: sk) st Q) := am_gu.trans rfl
set_option maxRecDepth 100000 in
theorem u8034_90 {v0 : Value} {v1 : Value} {v2 : Value} {x : Int32} : am_g d X am_m8034 90 [v0, v1, v2, .int x] sk st Q = am_g d X am_m8034 91 [v0, v1, v2, .int x] (.int x :: sk) st Q := am_gu.trans rfl
set_option maxRecDepth 100000 in
theorem u8034_91 {v0 : Value} {v1 : Value} {v2 : Value} {v3 : Value} : am_g d X am_m8034 91 [v0, v1, v2, v3] sk st Q = am_g d X am_m8034 93 [v0, v1, v2, v3] (.int (am_i 6) :: sk) st Q := am_gu.trans rfl
set_option maxRecDepth 100000 in
theorem u8034_93 {v0 : Value} {v1 : Value} {v2 : Value} {v3 : Value} {x : Int32} {y : Int32} : am_g d X am_m8034 93 [v0, v1, v2, v3] (.int y :: .int x :: sk) st Q = (¬ y = 0 ∧ am_g d X am_m8034 94 [v0, v1, v2, v3] (.int (i_rem x y) :: sk) st Q) := am_gu.trans rfl
set_option maxRecDepth 100000 in
theorem u8034_94 {a0 : Value} {a1 : Value} {v0 : Value} {v1 : Value} {v2 : Value} {v3 : Value} : am_g d X am_m8034 94 [v0, v1, v2, v3] (a1 :: a0 :: .ref o :: sk) st Q = ((am_ob st o 6 ∧ sk.length ≤ 5) ∧ am_Ca X d 6027 [.ref o, a0, a1] st (am_af am_m8034 94 [v0, v1, v2, v3] sk (fun pc lc sk st => am_g d X am_m8034 pc lc sk st Q) Q)) := am_gu.trans rfl
set_option maxRecDepth 100000 in
theorem u8034_97 {v0 : Value} {v1 : Value} {v2 : Value} {v3 : Value} {x : Int32} : am_g d X am_m8034 97 [v0, v1, v2, v3] (.int x :: sk) st Q = am_g d X am_m8034 98 [v0, v1, v2, v3] (.long x.toInt64 :: sk) st Q := am_gu.trans rfl
set_option maxRecDepth 100000 in
theorem u8034_98 {v0 : Value} {v1 : Value} {v2 : Value} {v3 : Value} {x : Int64} {y : Int64} : am_g d X am_m8034 98 [v0, v1, v2, v3] (.long y :: .long x :: sk) st Q = am_g d X am_m8034 99 [v0, v1, v2, v3] (.long (x + y) :: sk) st Q := am_gu.trans rfl
set_option maxRecDepth 100000 in
theorem u8034_99 {v0 : Value} {v1 : Value} {v2 : Value} {v3 : Value} {x : Int64} {y : Int64} : am_g d X am_m8034 99 [v0, v1, v2, v3] (.long y :: .long x :: sk) st Q = am_g d X am_m8034 100 [v0, v1, v2, v3] (.long (x * y) :: sk) st Q := am_gu.trans rfl
set_option maxRecDepth 100000 in
theorem u8034_100 {v1 : Value} {v2 : Value} {v3 : Value} {x : Nat} : am_g d X am_m8034 100 [.ref x, v1, v2, v3] sk st Q = am_g d X am_m8034 101 [.ref x, v1, v2, v3] (.ref x :: sk) st Q := am_gu.trans rfl
set_option maxRecDepth 100000 in
theorem u8034_101 {v0 : Value} {v1 : Value} {v2 : Value} {x : Int32} : am_g d X am_m8034 101 [v0, v1, v2, .int x] sk st Q = am_g d X am_m8034 102 [v0, v1, v2, .int x] (.int x :: sk) st Q := am_gu.trans rfl
set_option maxRecDepth 100000 in
theorem u8034_102 {v0 : Value} {v1 : Value} {v2 : Value} {v3 : Value} : am_g d X am_m8034 102 [v0, v1, v2, v3] sk st Q = am_g d X am_m8034 104 [v0, v1, v2, v3] (.int (am_i 6) :: sk) st Q := am_gu.trans rfl
set_option maxRecDepth 100000 in
theorem u8034_104 {v0 : Value} {v1 : Value} {v2 : Value} {v3 : Value} {x : Int32} {y : Int32} : am_g d X am_m8034 104 [v0, v1, v2, v3] (.int y :: .int x :: sk) st Q = (¬ y = 0 ∧ am_g d X am_m8034 105 [v0, v1, v2, v3] (.int (x / y) :: sk) st Q) := am_gu.trans rfl
set_option maxRecDepth 100000 in
theorem u8034_105 {v0 : Value} {v1 : Value} {v2 : Value} {x : Int32} : am_g d X am_m8034 105 [v0, v1, v2, .int x] sk st Q = am_g d X am_m8034 106 [v0, v1, v2, .int x] (.int x :: sk) st Q := am_gu.trans rfl
set_option maxRecDepth 100000 in
theorem u8034_106 {v0 : Value} {v1 : Value} {v2 : Value} {v3 : Value} : am_g d X am_m8034 106 [v0, v1, v2, v3] sk st Q = am_g d X am_m8034 108 [v0, v1, v2, v3] (.int (am_i 6) :: sk) st Q := am_gu.trans rfl
set_option maxRecDepth 100000 in
theorem u8034_108 {v0 : Value} {v1 : Value} {v2 : Value} {v3 : Value} {x : Int32} {y : Int32} : am_g d X am_m8034 108 [v0, v1, v2, v3] (.int y :: .int x :: sk) st Q = (¬ y = 0 ∧ am_g d X am_m8034 109 [v0, v1, v2, v3] (.int (i_rem x y) :: sk) st Q) := am_gu.trans rfl
set_option maxRecDepth 100000 in
theorem u8034_109 {a0 : Value} {a1 : Value} {a2 : Value} {v0 : Value} {v1 : Value} {v2 : Value} {v3 : Value} : am_g d X am_m8034 109 [v0, v1, v2, v3] (a2 :: a1 :: a0 :: sk) st Q = (sk.length ≤ 4 ∧ am_Ca X d 8020 [a0, a1, a2] st (am_af am_m8034 109 [v0, v1, v2, v3] sk (fun pc lc sk st => am_g d X am_m8034 pc lc sk st Q) Q)) := am_gu.trans (propext ⟨fun h => ⟨h.1.2, h.2⟩, fun h => ⟨⟨Nat.le_add_left _ _, h.1⟩, h.2⟩⟩)
set_option maxRecDepth 100000 in
theorem u8034_112 {v0 : Value} {v1 : Value} {v2 : Value} {v3 : Value} {x : Int32} : am_g d X am_m8034 112 [v0, v1, v2, v3] (.int x :: sk) st Q = am_g d X am_m8034 113 [v0, v1, v2, v3] (.long x.toInt64 :: sk) st Q := am_gu.trans rfl
set_option maxRecDepth 100000 in
theorem u8034_113 {v0 : Value} {v1 : Value} {v2 : Value} {v3 : Value} {x : Int64} {y : Int64} : am_g d X am_m8034 113 [v0, v1, v2, v3] (.long y :: .long x :: sk) st Q = am_g d X am_m8034 114 [v0, v1, v2, v3] (.long (x + y) :: sk) st Q := am_gu.trans rfl
set_option maxRecDepth 100000 in
theorem u8034_114 {v0 : Value} {v1 : Value} {v2 : Value} {v3 : Value} {x : Int64} : am_g d X am_m8034 114 [v0, v1, v2, v3] (.long x :: sk) st Q = am_g d X am_m8034 115 [am_kc v0, .long x, am_u, v3] sk st Q := am_gu.trans (congrArg (fun l => am_g d X am_m8034 115 (List.set (List.set l 1 (Value.long x)) 2 am_u) sk st Q) (kl_1 (l := [v1, v2, v3])))
set_option maxRecDepth 100000 in
theorem u8034_115 {v0 : Value} {v1 : Value} {v2 : Value} {x : Int32} : am_g d X am_m8034 115 [v0, v1, v2, .int x] sk st Q = am_g d X am_m8034 118 [v0, v1, am_kc v2, .int (x + am_i 1)] sk st Q := am_gu.trans (congrArg (fun l => am_g d X am_m8034 118 (List.set l 3 (.int (x + am_i 1))) sk st Q) (kl_3 (l := [.int x])))
set_option maxRecDepth 100000 in
theorem u8034_118 {v0 : Value} {v1 : Value} {v2 : Value} {v3 : Value} : am_g d X am_m8034 118 [v0, v1, v2, v3] sk st Q = am_g d X am_m8034 71 [v0, v1, v2, v3] sk st Q := am_gu.trans rfl
set_option maxRecDepth 100000 in
theorem u8034_121 {v0 : Value} {v1 : Value} {v2 : Value} {v3 : Value} : am_g d X am_m8034 121 [v0, v1, v2, v3] sk st Q = am_g d X am_m8034 122 [v0, v1, v2, v3] (.int (am_i 0) :: sk) st Q := am_gu.trans rfl
set_option maxRecDepth 100000 in
theorem u8034_122 {v0 : Value} {v1 : Value} {v2 : Value} {v3 : Value} {x : Int32} : am_g d X am_m8034 122 [v0, v1, v2, v3] (.int x :: sk) st Q = am_g d X am_m8034 123 [v0, v1, am_kc v2, .int x] sk st Q := am_gu.trans (congrArg (fun l => am_g d X am_m8034 123 (List.set l 3 (.int x)) sk st Q) (kl_3 (l := [v3])))
set_option maxRecDepth 100000 in
theorem u8034_123 {v0 : Value} {v1 : Value} {v2 : Value} {x : Int32} : am_g d X am_m8034 123 [v0, v1, v2, .int x] sk st Q = am_g d X am_m8034 124 [v0, v1, v2, .int x] (.int x :: sk) st Q := am_gu.trans rfl
set_option maxRecDepth 100000 in
theorem u8034_124 {v0 : Value} {v1 : Value} {v2 : Value} {v3 : Value} : am_g d X am_m8034 124 [v0, v1, v2, v3] sk st Q = am_g d X am_m8034 126 [v0, v1, v2, v3] (.int (am_i 6) :: sk) st Q := am_gu.trans rfl
set_option maxRecDepth 100000 in
theorem u8034_126 {v0 : Value} {v1 : Value} {v2 : Value} {v3 : Value} {x : Int32} {y : Int32} : am_g d X am_m8034 126 [v0, v1, v2, v3] (.int y :: .int x :: sk) st Q = (if decide (y ≤ x) = true then am_g d X am_m8034 148 [v0, v1, v2, v3] sk st Q else am_g d X am_m8034 129 [v0, v1, v2, v3] sk st Q) := am_gu.trans rfl
set_option maxRecDepth 100000 in
theorem u8034_129 {v0 : Value} {v1 : Value} {v2 : Value} {v3 : Value} : am_g d X am_m8034 129 [v0, v1, v2, v3] sk st Q = am_g d X am_m8034 132 [v0, v1, v2, v3] (.long (Int64.ofNat 31) :: sk) st Q := am_gu.trans rfl
set_option maxRecDepth 100000 in
theorem u8034_132 {v0 : Value} {v2 : Value} {v3 : Value} {x : Int64} : am_g d X am_m8034 132 [v0, .long x, v2, v3] sk st Q = am_g d X am_m8034 133 [v0, .long x, v2, v3] (.long x :: sk) st Q := am_gu.trans rfl
set_option maxRecDepth 100000 in
theorem u8034_133 {v0 : Value} {v1 : Value} {v2 : Value} {v3 : Value} {x : Int64} {y : Int64} : am_g d X am_m8034 133 [v0, v1, v2, v3] (.long y :: .long x :: sk) st Q = am_g d X am_m8034 134 [v0, v1, v2, v3] (.long (x * y) :: sk) st Q := am_gu.trans rfl
set_option maxRecDepth 100000 in
theorem u8034_134 {v1 : Value} {v2 : Value} {v3 : Value} {x : Nat} : am_g d X am_m8034 134 [.ref x, v1, v2, v3] sk st Q = am_g d X am_m8034 135 [.ref x, v1, v2, v3] (.ref x :: sk) st Q := am_gu.trans rfl
set_option maxRecDepth 100000 in
theorem u8034_135 {v0 : Value} {v1 : Value} {v2 : Value} {x : Int32} : am_g d X am_m8034 135 [v0, v1, v2, .int x] sk st Q = am_g d X am_m8034 136 [v0, v1, v2, .int x] (.int x :: sk) st Q := am_gu.trans rfl
set_option maxRecDepth 100000 in
theorem u8034_136 {a0 : Value} {a1 : Value} {v0 : Value} {v1 : Value} {v2 : Value} {v3 : Value} : am_g d X am_m8034 136 [v0, v1, v2, v3] (a1 :: a0 :: sk) st Q = (sk.length ≤ 4 ∧ am_Ca X d 8024 [a0, a1] st (am_af am_m8034 136 [v0, v1, v2, v3] sk (fun pc lc sk st => am_g d X am_m8034 pc lc sk st Q) Q)) := am_gu.trans (propext ⟨fun h => ⟨h.1.2, h.2⟩, fun h => ⟨⟨Nat.le_add_left _ _, h.1⟩, h.2⟩⟩)
set_option maxRecDepth 100000 in
theorem u8034_139 {v0 : Value} {v1 : Value} {v2 : Value} {v3 : Value} {x : Int32} : am_g d X am_m8034 139 [v0, v1, v2, v3] (.int x :: sk) st Q = am_g d X am_m8034 140 [v0, v1, v2, v3] (.long x.toInt64 :: sk) st Q := am_gu.trans rfl
set_option maxRecDepth 100000 in
theorem u8034_140 {v0 : Value} {v1 : Value} {v2 : Value} {v3 : Value} {x : Int64} {y : Int64} : am_g d X am_m8034 140 [v0, v1, v2, v3] (.long y :: .long x :: sk) st Q = am_g d X am_m8034 141 [v0, v1, v2, v3] (.long (x + y) :: sk) st Q := am_gu.trans rfl
set_option maxRecDepth 100000 in
theorem u8034_141 {v0 : Value} {v1 : Value} {v2 : Value} {v3 : Value} {x : Int64} : am_g d X am_m8034 141 [v0, v1, v2, v3] (.long x :: sk) st Q = am_g d X am_m8034 142 [am_kc v0, .long x, am_u, v3] sk st Q := am_gu.trans (congrArg (fun l => am_g d X am_m8034 142 (List.set (List.set l 1 (Value.long x)) 2 am_u) sk st Q) (kl_1 (l := [v1, v2, v3])))
set_option maxRecDepth 100000 in
theorem u8034_142 {v0 : Value} {v1 : Value} {v2 : Value} {x : Int32} : am_g d X am_m8034 142 [v0, v1, v2, .int x] sk st Q = am_g d X am_m8034 145 [v0, v1, am_kc v2, .int (x + am_i 1)] sk st Q := am_gu.trans (congrArg (fun l => am_g d X am_m8034 145 (List.set l 3 (.int (x + am_i 1))) sk st Q) (kl_3 (l := [.int x])))
set_option maxRecDepth 100000 in
theorem u8034_145 {v0 : Value} {v1 : Value} {v2 : Value} {v3 : Value} : am_g d X am_m8034 145 [v0, v1, v2, v3] sk st Q = am_g d X am_m8034 123 [v0, v1, v2, v3] sk st Q := am_gu.trans rfl
set_option maxRecDepth 100000 in
theorem u8034_148 {v0 : Value} {v1 : Value} {v2 : Value} {v3 : Value} : am_g d X am_m8034 148 [v0, v1, v2, v3] sk st Q = am_g d X am_m8034 149 [v0, v1, v2, v3] (.int (am_i 0) :: sk) st Q := am_gu.trans rfl
set_option maxRecDepth 100000 in
theorem u8034_149 {v0 : Value} {v1 : Value} {v2 : Value} {v3 : Value} {x : Int32} : am_g d X am_m8034 149 [v0, v1, v2, v3] (.int x :: sk) st Q = am_g d X am_m8034 150 [v0, v1, am_kc v2, .int x] sk st Q := am_gu.trans (congrArg (fun l => am_g d X am_m8034 150 (List.set l 3 (.int x)) sk st Q) (kl_3 (l := [v3])))
set_option maxRecDepth 100000 in
theorem u8034_150 {v0 : Value} {v1 : Value} {v2 : Value} {x : Int32} : am_g d X am_m8034 150 [v0, v1, v2, .int x] sk st Q = am_g d X am_m8034 151 [v0, v1, v2, .int x] (.int x :: sk) st Q := am_gu.trans rfl
set_option maxRecDepth 100000 in
theorem u8034_151 {v1 : Value} {v2 : Value} {v3 : Value} {x : Nat} : am_g d X am_m8034 151 [.ref x, v1, v2, v3] sk st Q = am_g d X am_m8034 152 [.ref x, v1, v2, v3] (.ref x :: sk) st Q := am_gu.trans rfl
set_option maxRecDepth 100000 in
theorem u8034_152 {v0 : Value} {v1 : Value} {v2 : Value} {v3 : Value} : am_g d X am_m8034 152 [v0, v1, v2, v3] (.ref o :: sk) st Q = ((am_ob st o 6 ∧ sk.length ≤ 5) ∧ am_Ca X d 6035 [.ref o] st (am_af am_m8034 152 [v0, v1, v2, v3] sk (fun pc lc sk st => am_g d X am_m8034 pc lc sk st Q) Q)) := am_gu.trans rfl
set_option maxRecDepth 100000 in
theorem u8034_155 {v0 : Value} {v1 : Value} {v2 : Value} {v3 : Value} {x : Int32} {y : Int32} : am_g d X am_m8034 155 [v0, v1, v2, v3] (.int y :: .int x :: sk) st Q = (if decide (y ≤ x) = true then am_g d X am_m8034 188 [v0, v1, v2, v3] sk st Q else am_g d X am_m8034 158 [v0, v1, v2, v3] sk st Q) := am_gu.trans rfl
set_option maxRecDepth 100000 in
theorem u8034_158 {v0 : Value} {v1 : Value} {v2 : Value} {v3 : Value} : am_g d X am_m8034 158 [v0, v1, v2, v3] sk st Q = am_g d X am_m8034 161 [v0, v1, v2, v3] (.long (Int64.ofNat 31) :: sk) st Q := am_gu.trans rfl
set_option maxRecDepth 100000 in
theorem u8034_161 {v0 : Value} {v1 : Value} {v2 : Value} {v3 : Value} : am_g d X am_m8034 161 [v0, v1, v2, v3] sk st Q = am_g d X am_m8034 164 [v0, v1, v2, v3] (.long (Int64.ofNat 31) :: sk) st Q := am_gu.trans rfl
set_option maxRecDepth 100000 in
theorem u8034_164 {v0 : Value} {v2 : Value} {v3 : Value} {x : Int64} : am_g d X am_m8034 164 [v0, .long x, v2, v3] sk st Q = am_g d X am_m8034 165 [v0, .long x, v2, v3] (.long x :: sk) st Q := am_gu.trans rfl
set_option maxRecDepth 100000 in
theorem u8034_165 {v0 : Value} {v1 : Value} {v2 : Value} {v3 : Value} {x : Int64} {y : Int64} : am_g d X am_m8034 165 [v0, v1, v2, v3] (.long y :: .long x :: sk) st Q = am_g d X am_m8034 166 [v0, v1, v2, v3] (.long (x * y) :: sk) st Q := am_gu.trans rfl
set_option maxRecDepth 100000 in
theorem u8034_166 {v1 : Value} {v2 : Value} {v3 : Value} {x : Nat} : am_g d X am_m8034 166 [.ref x, v1, v2, v3] sk st Q = am_g d X am_m8034 167 [.ref x, v1, v2, v3] (.ref x :: sk) st Q := am_gu.trans rfl
set_option maxRecDepth 100000 in
theorem u8034_167 {v0 : Value} {v1 : Value} {v2 : Value} {x : Int32} : am_g d X am_m8034 167 [v0, v1, v2, .int x] sk st Q = am_g d X am_m8034 168 [v0, v1, v2, .int x] (.int x :: sk) st Q := am_gu.trans rfl
set_option maxRecDepth 100000 in
theorem u8034_168 {a0 : Value} {v0 : Value} {v1 : Value} {v2 : Value} {v3 : Value} : am_g d X am_m8034 168 [v0, v1, v2, v3] (a0 :: .ref o :: sk) st Q = ((am_ob st o 6 ∧ sk.length ≤ 5) ∧ am_Ca X d 6036 [.ref o, a0] st (am_af am_m8034 168 [v0, v1, v2, v3] sk (fun pc lc sk st => am_g d X am_m8034 pc lc sk st Q) Q)) := am_gu.trans rfl
set_option maxRecDepth 100000 in
theorem u8034_171 {v0 : Value} {v1 : Value} {v2 : Value} {v3 : Value} {x : Int32} : am_g d X am_m8034 171 [v0, v1, v2, v3] (.int x :: sk) st Q = am_g d X am_m8034 172 [v0, v1, v2, v3] (.long x.toInt64 :: sk) st Q := am_gu.trans rfl
set_option maxRecDepth 100000 in
theorem u8034_172 {v0 : Value} {v1 : Value} {v2 : Value} {v3 : Value} {x : Int64} {y : Int64} : am_g d X am_m8034 172 [v0, v1, v2, v3] (.long y :: .long x :: sk) st Q = am_g d X am_m8034 173 [v0, v1, v2, v3] (.long (x + y) :: sk) st Q := am_gu.trans rfl
set_option maxRecDepth 100000 in
theorem u8034_173 {v0 : Value} {v1 : Value} {v2 : Value} {v3 : Value} {x : Int64} {y : Int64} : am_g d X am_m8034 173 [v0, v1, v2, v3] (.long y :: .long x :: sk) st Q = am_g d X am_m8034 174 [v0, v1, v2, v3] (.long (x * y) :: sk) st Q := am_gu.trans rfl
set_option maxRecDepth 100000 in
theorem u8034_174 {v1 : Value} {v2 : Value} {v3 : Value} {x : Nat} : am_g d X am_m8034 174 [.ref x, v1, v2, v3] sk st Q = am_g d X am_m8034 175 [.ref x, v1, v2, v3] (.ref x :: sk) st Q := am_gu.trans rfl
set_option maxRecDepth 100000 in
theorem u8034_175 {v0 : Value} {v1 : Value} {v2 : Value} {x : Int32} : am_g d X am_m8034 175 [v0, v1, v2, .int x] sk st Q = am_g d X am_m8034 176 [v0, v1, v2, .int x] (.int x :: sk) st Q := am_gu.trans rfl
set_option maxRecDepth 100000 in
theorem u8034_176 {a0 : Value} {v0 : Value} {v1 : Value} {v2 : Value} {v3 : Value} : am_g d X am_m8034 176 [v0, v1, v2, v3] (a0 :: .ref o :: sk) st Q = ((am_ob st o 6 ∧ sk.length ≤ 5) ∧ am_Ca X d 6037 [.ref o, a0] st (am_af am_m8034 176 [v0, v1, v2, v3] sk (fun pc lc sk st => am_g d X am_m8034 pc lc sk st Q) Q)) := am_gu.trans rfl
set_option maxRecDepth 100000 in
theorem u8034_179 {v0 : Value} {v1 : Value} {v2 : Value} {v3 : Value} {x : Int32} : am_g d X am_m8034 179 [v0, v1, v2, v3] (.int x :: sk) st Q = am_g d X am_m8034 180 [v0, v1, v2, v3] (.long x.toInt64 :: sk) st Q := am_gu.trans rfl
set_option maxRecDepth 100000 in
theorem u8034_180 {v0 : Value} {v1 : Value} {v2 : Value} {v3 : Value} {x : Int64} {y : Int64} : am_g d X am_m8034 180 [v0, v1, v2, v3] (.long y :: .long x :: sk) st Q = am_g d X am_m8034 181 [v0, v1, v2, v3] (.long (x + y) :: sk) st Q := am_gu.trans rfl
set_option maxRecDepth 100000 in
theorem u8034_181 {v0 : Value} {v1 : Value} {v2 : Value} {v3 : Value} {x : Int64} : am_g d X am_m8034 181 [v0, v1, v2, v3] (.long x :: sk) st Q = am_g d X am_m8034 182 [am_kc v0, .long x, am_u, v3] sk st Q := am_gu.trans (congrArg (fun l => am_g d X am_m8034 182 (List.set (List.set l 1 (Value.long x)) 2 am_u) sk st Q) (kl_1 (l := [v1, v2, v3])))
set_option maxRecDepth 100000 in
theorem u8034_182 {v0 : Value} {v1 : Value} {v2 : Value} {x : Int32} : am_g d X am_m8034 182 [v0, v1, v2, .int x] sk st Q = am_g d X am_m8034 185 [v0, v1, am_kc v2, .int (x + am_i 1)] sk st Q := am_gu.trans (congrArg (fun l => am_g d X am_m8034 185 (List.set l 3 (.int (x + am_i 1))) sk st Q) (kl_3 (l := [.int x])))
set_option maxRecDepth 100000 in
theorem u8034_185 {v0 : Value} {v1 : Value} {v2 : Value} {v3 : Value} : am_g d X am_m8034 185 [v0, v1, v2, v3] sk st Q = am_g d X am_m8034 150 [v0, v1, v2, v3] sk st Q := am_gu.trans rfl
set_option maxRecDepth 100000 in
theorem u8034_188 {v0 : Value} {v1 : Value} {v2 : Value} {v3 : Value} : am_g d X am_m8034 188 [v0, v1, v2, v3] sk st Q = am_g d X am_m8034 189 [v0, v1, v2, v3] (.int (am_i 0) :: sk) st Q := am_gu.trans rfl
set_option maxRecDepth 100000 in
theorem u8034_189 {v0 : Value} {v1 : Value} {v2 : Value} {v3 : Value} {x : Int32} : am_g d X am_m8034 189 [v0, v1, v2, v3] (.int x :: sk) st Q = am_g d X am_m8034 190 [v0, v1, am_kc v2, .int x] sk st Q := am_gu.trans (congrArg (fun l => am_g d X am_m8034 190 (List.set l 3 (.int x)) sk st Q) (kl_3 (l := [v3])))
set_option maxRecDepth 100000 in
theorem u8034_190 {v0 : Value} {v1 : Value} {v2 : Value} {x : Int32} : am_g d X am_m8034 190 [v0, v1, v2, .int x] sk st Q = am_g d X am_m8034 191 [v0, v1, v2, .int x] (.int x :: sk) st Q := am_gu.trans rfl
set_option maxRecDepth 100000 in
theorem u8034_191 {v0 : Value} {v1 : Value} {v2 : Value} {v3 : Value} : am_g d X am_m8034 191 [v0, v1, v2, v3] sk st Q = am_g d X am_m8034 193 [v0, v1, v2, v3] (.int (am_i 24) :: sk) st Q := am_gu.trans rfl
set_option maxRecDepth 100000 in
theorem u8034_193 {v0 : Value} {v1 : Value} {v2 : Value} {v3 : Value} {x : Int32} {y : Int32} : am_g d X am_m8034 193 [v0, v1, v2, v3] (.int y :: .int x :: sk) st Q = (if decide (y ≤ x) = true then am_g d X am_m8034 228 [v0, v1, v2, v3] sk st Q else am_g d X am_m8034 196 [v0, v1, v2, v3] sk st Q) := am_gu.trans rfl
set_option maxRecDepth 100000 in
theorem u8034_196 {v0 : Value} {v1 : Value} {v2 : Value} {v3 : Value} : am_g d X am_m8034 196 [v0, v1, v2, v3] sk st Q = am_g d X am_m8034 199 [v0, v1, v2, v3] (.long (Int64.ofNat 31) :: sk) st Q := am_gu.trans rfl
set_option maxRecDepth 100000 in
theorem u8034_199 {v0 : Value} {v2 : Value} {v3 : Value} {x : Int64} : am_g d X am_m8034 199 [v0, .long x, v2, v3] sk st Q = am_g d X am_m8034 200 [v0, .long x, v2, v3] (.long x :: sk) st Q := am_gu.trans rfl
set_option maxRecDepth 100000 in
theorem u8034_200 {v0 : Value} {v1 : Value} {v2 : Value} {v3 : Value} {x : Int64} {y : Int64} : am_g d X am_m8034 200 [v0, v1, v2, v3] (.long y :: .long x :: sk) st Q = am_g d X am_m8034 201 [v0, v1, v2, v3] (.long (x * y) :: sk) st Q := am_gu.trans rfl
set_option maxRecDepth 100000 in
theorem u8034_201 {v1 : Value} {v2 : Value} {v3 : Value} {x : Nat} : am_g d X am_m8034 201 [.ref x, v1, v2, v3] sk st Q = am_g d X am_m8034 202 [.ref x, v1, v2, v3] (.ref x :: sk) st Q := am_gu.trans rfl
set_option maxRecDepth 100000 in
theorem u8034_202 {v1 : Value} {v2 : Value} {v3 : Value} {x : Nat} : am_g d X am_m8034 202 [.ref x, v1, v2, v3] sk st Q = am_g d X am_m8034 203 [.ref x, v1, v2, v3] (.ref x :: sk) st Q := am_gu.trans rfl
set_option maxRecDepth 100000 in
theorem u8034_203 {v0 : Value} {v1 : Value} {v2 : Value} {v3 : Value} : am_g d X am_m8034 203 [v0, v1, v2, v3] (.ref o :: sk) st Q = ((am_ob st o 6 ∧ sk.length ≤ 5) ∧ am_Ca X d 6035 [.ref o] st (am_af am_m8034 203 [v0, v1, v2, v3] sk (fun pc lc sk st => am_g d X am_m8034 pc lc sk st Q) Q)) := am_gu.trans rfl
set_option maxRecDepth 100000 in
theorem u8034_206 {v0 : Value} {v1 : Value} {v2 : Value} {v3 : Value} : am_g d X am_m8034 206 [v0, v1, v2, v3] sk st Q = am_g d X am_m8034 207 [v0, v1, v2, v3] (.int (am_i 1) :: sk) st Q := am_gu.trans rfl
set_option maxRecDepth 100000 in
theorem u8034_207 {v0 : Value} {v1 : Value} {v2 : Value} {v3 : Value} {x : Int32} {y : Int32} : am_g d X am_m8034 207 [v0, v1, v2, v3] (.int y :: .int x :: sk) st Q = am_g d X am_m8034 208 [v0, v1, v2, v3] (.int (x - y) :: sk) st Q := am_gu.trans rfl
set_option maxRecDepth 100000 in
theorem u8034_208 {v0 : Value} {v1 : Value} {v2 : Value} {x : Int32} : am_g d X am_m8034 208 [v0, v1, v2, .int x] sk st Q = am_g d X am_m8034 209 [v0, v1, v2, .int x] (.int x :: sk) st Q := am_gu.trans rfl
set_option maxRecDepth 100000 in
theorem u8034_209 {v0 : Value} {v1 : Value} {v2 : Value} {v3 : Value} : am_g d X am_m8034 209 [v0, v1, v2, v3] sk st Q = am_g d X am_m8034 211 [v0, v1, v2, v3] (.int (am_i 6) :: sk) st Q := am_gu.trans rfl
set_option maxRecDepth 100000 in
theorem u8034_211 {v0 : Value} {v1 : Value} {v2 : Value} {v3 : Value} {x : Int32} {y : Int32} : am_g d X am_m8034 211 [v0, v1, v2, v3] (.int y :: .int x :: sk) st Q = (¬ y = 0 ∧ am_g d X am_m8034 212 [v0, v1, v2, v3] (.int (x / y) :: sk) st Q) := am_gu.trans rfl
set_option maxRecDepth 100000 in
theorem u8034_212 {v0 : Value} {v1 : Value} {v2 : Value} {x : Int32} : am_g d X am_m8034 212 [v0, v1, v2, .int x] sk st Q = am_g d X am_m8034 213 [v0, v1, v2, .int x] (.int x :: sk) st Q := am_gu.trans rfl
set_option maxRecDepth 100000 in
theorem u8034_213 {v0 : Value} {v1 : Value} {v2 : Value} {v3 : Value} : am_g d X am_m8034 213 [v0, v1, v2, v3] sk st Q = am_g d X am_m8034 215 [v0, v1, v2, v3] (.int (am_i 6) :: sk) st Q := am_gu.trans rfl
set_option maxRecDepth 100000 in
theorem u8034_215 {v0 : Value} {v1 : Value} {v2 : Value} {v3 : Value} {x : Int32} {y : Int32} : am_g d X am_m8034 215 [v0, v1, v2, v3] (.int y :: .int x :: sk) st Q = (¬ y = 0 ∧ am_g d X am_m8034 216 [v0, v1, v2, v3] (.int (i_rem x y) :: sk) st Q) := am_gu.trans rfl
set_option maxRecDepth 100000 in
theorem u8034_216 {a0 : Value} {a1 : Value} {a2 : Value} {v0 : Value} {v1 : Value} {v2 : Value} {v3 : Value} : am_g d X am_m8034 216 [v0, v1, v2, v3] (a2 :: a1 :: a0 :: .ref o :: sk) st Q = ((am_ob st o 6 ∧ sk.length ≤ 5) ∧ am_Ca X d 6030 [.ref o, a0, a1, a2] st (am_af am_m8034 216 [v0, v1, v2, v3] sk (fun pc lc sk st => am_g d X am_m8034 pc lc sk st Q) Q)) := am_gu.trans rfl
set_option maxRecDepth 100000 in
theorem u8034_219 {v0 : Value} {v1 : Value} {v2 : Value} {v3 : Value} {x : Int32} : am_g d X am_m8034 219 [v0, v1, v2, v3] (.int x :: sk) st Q = am_g d X am_m8034 220 [v0, v1, v2, v3] (.long x.toInt64 :: sk) st Q := am_gu.trans rfl
set_option maxRecDepth 100000 in
theorem u8034_220 {v0 : Value} {v1 : Value} {v2 : Value} {v3 : Value} {x : Int64} {y : Int64} : am_g d X am_m8034 220 [v0, v1, v2, v3] (.long y :: .long x :: sk) st Q = am_g d X am_m8034 221 [v0, v1, v2, v3] (.long (x + y) :: sk) st Q := am_gu.trans rfl
set_option maxRecDepth 100000 in
theorem u8034_221 {v0 : Value} {v1 : Value} {v2 : Value} {v3 : Value} {x : Int64} : am_g d X am_m8034 221 [v0, v1, v2, v3] (.long x :: sk) st Q = am_g d X am_m8034 222 [am_kc v0, .long x, am_u, v3] sk st Q := am_gu.trans (congrArg (fun l => am_g d X am_m8034 222 (List.set (List.set l 1 (Value.long x)) 2 am_u) sk st Q) (kl_1 (l := [v1, v2, v3])))
set_option maxRecDepth 100000 in
theorem u8034_222 {v0 : Value} {v1 : Value} {v2 : Value} {x : Int32} : am_g d X am_m8034 222 [v0, v1, v2, .int x] sk st Q = am_g d X am_m8034 225 [v0, v1, am_kc v2, .int (x + am_i 1)] sk st Q := am_gu.trans (congrArg (fun l => am_g d X am_m8034 225 (List.set l 3 (.int (x + am_i 1))) sk st Q) (kl_3 (l := [.int x])))
set_option maxRecDepth 100000 in
theorem u8034_225 {v0 : Value} {v1 : Value} {v2 : Value} {v3 : Value} : am_g d X am_m8034 225 [v0, v1, v2, v3] sk st Q = am_g d X am_m8034 190 [v0, v1, v2, v3] sk st Q := am_gu.trans rfl
set_option maxRecDepth 100000 in
theorem u8034_228 {v0 : Value} {v2 : Value} {v3 : Value} {x : Int64} : am_g d X am_m8034 228 [v0, .long x, v2, v3] sk st Q = am_g d X am_m8034 229 [v0, .long x, v2, v3] (.long x :: sk) st Q := am_gu.trans rfl
set_option maxRecDepth 100000 in
theorem u8034_229 {v0 : Value} {v1 : Value} {v2 : Value} {v3 : Value} {x : Int64} : am_g d X am_m8034 229 [v0, v1, v2, v3] [.long x] st Q = Q (.inl (some (.long x))) st := am_gu.trans rfl
set_option maxRecDepth 100000 in
theorem of_8035 : am_of 8035 = some am_m8035 := rfl
theorem c8035 {a0 a1} {P : am_Q} : am_Ca X (d + 1) 8035 [.ref a0, .int a1] st P = am_g d X am_m8035 0 [.ref a0, .int a1, am_u, am_u, am_u] [] st P := am_cg of_8035 (by show 2 ≤ 5; decide)
theorem hd_8035 : am_hd am_m8035 = [] := rfl
theorem u8035_0 {v0 : Value} {v1 : Value} {v2 : Value} {v3 : Value} {v4 : Value} : am_g d X am_m8035 0 [v0, v1, v2, v3, v4] sk st Q = am_g d X am_m8035 1 [v0, v1, v2, v3, v4] (.long 1 :: sk) st Q := am_gu.trans rfl
theorem u8035_1 {v0 : Value} {v2 : Value} {v3 : Value} {v4 : Value} {x : Int32} : am_g d X am_m8035 1 [v0, .int x, v2, v3, v4] sk st Q = am_g d X am_m8035 2 [v0, .int x, v2, v3, v4] (.int x :: sk) st Q := am_gu.trans rfl
theorem u8035_2 {v0 : Value} {v1 : Value} {v2 : Value} {v3 : Value} {v4 : Value} {x : Int64} {y : Int32} : am_g d X am_m8035 2 [v0, v1, v2, v3, v4] (.int y :: .long x :: sk) st Q = am_g d X am_m8035 3 [v0, v1, v2, v3, v4] (.long (x <<< (y.toInt64 &&& 63)) :: sk) st Q := am_gu.trans rfl
theorem u8035_3 {v0 : Value} {v1 : Value} {v2 : Value} {v3 : Value} {v4 : Value} {x : Int64} : am_g d X am_m8035 3 [v0, v1, v2, v3, v4] (.long x :: sk) st Q = am_g d X am_m8035 4 [v0, am_kc v1, .long x, am_u, v4] sk st Q := am_gu.trans (congrArg (fun l => am_g d X am_m8035 4 (List.set (List.set l 2 (Value.long x)) 3 am_u) sk st Q) (kl_2 (l := [v2, v3, v4])))
theorem u8035_4 {v0 : Value} {v2 : Value} {v3 : Value} {v4 : Value} {x : Int32} : am_g d X am_m8035 4 [v0, .int x, v2, v3, v4] sk st Q = am_g d X am_m8035 5 [v0, .int x, v2, v3, v4] (.int x :: sk) st Q := am_gu.trans rfl
theorem u8035_5 {v0 : Value} {v1 : Value} {v2 : Value} {v3 : Value} {v4 : Value} {x : Int32} : am_g d X am_m8035 5 [v0, v1, v2, v3, v4] (.int x :: sk) st Q = am_g d X am_m8035 7 [v0, v1, v2, am_kc v3, .int x] sk st Q := am_gu.trans (congrArg (fun l => am_g d X am_m8035 7 (List.set l 4 (.int x)) sk st Q) (kl_4 (l := [v4])))
theorem u8035_7 {v0 : Value} {v1 : Value} {v2 : Value} {v3 : Value} {x : Int32} : am_g d X am_m8035 7 [v0, v1, v2, v3, .int x] sk st Q = am_g d X am_m8035 9 [v0, v1, v2, v3, .int x] (.int x :: sk) st Q := am_gu.trans rfl
theorem u8035_9 {v0 : Value} {v1 : Value} {v2 : Value} {v3 : Value} {v4 : Value} {x : Int32} : am_g d X am_m8035 9 [v0, v1, v2, v3, v4] (.int x :: sk) st Q = (if decide (x ≤ 0) = true then am_g d X am_m8035 65 [v0, v1, v2, v3, v4] sk st Q else am_g d X am_m8035 12 [v0, v1, v2, v3, v4] sk st Q) := am_gu.trans rfl
theorem u8035_12 {v0 : Value} {v1 : Value} {v3 : Value} {v4 : Value} {x : Int64} : am_g d X am_m8035 12 [v0, v1, .long x, v3, v4] sk st Q = am_g d X am_m8035 13 [v0, v1, .long x, v3, v4] (.long x :: sk) st Q := am_gu.trans rfl
theorem u8035_13 {v0 : Value} {v1 : Value} {v2 : Value} {v3 : Value} {x : Int32} : am_g d X am_m8035 13 [v0, v1, v2, v3, .int x] sk st Q = am_g d X am_m8035 15 [v0, v1, v2, v3, .int x] (.int x :: sk) st Q := am_gu.trans rfl
theorem u8035_15 {v0 : Value} {v1 : Value} {v2 : Value} {v3 : Value} {v4 : Value} {x : Int64} {y : Int32} : am_g d X am_m8035 15 [v0, v1, v2, v3, v4] (.int y :: .long x :: sk) st Q = am_g d X am_m8035 16 [v0, v1, v2, v3, v4] (.long (x >>> (y.toInt64 &&& 63)) :: sk) st Q := am_gu.trans rfl
theorem u8035_16 {v0 : Value} {v1 : Value} {v2 : Value} {v3 : Value} {v4 : Value} : am_g d X am_m8035 16 [v0, v1, v2, v3, v4] sk st Q = am_g d X am_m8035 17 [v0, v1, v2, v3, v4] (.long 1 :: sk) st Q := am_gu.trans rfl
theorem u8035_17 {v0 : Value} {v1 : Value} {v2 : Value} {v3 : Value} {v4 : Value} {x : Int64} {y : Int64} : am_g d X am_m8035 17 [v0, v1, v2, v3, v4] (.long y :: .long x :: sk) st Q = am_g d X am_m8035 18 [v0, v1, v2, v3, v4] (.long (x &&& y) :: sk) st Q := am_gu.trans rfl
theorem u8035_18 {v0 : Value} {v1 : Value} {v2 : Value} {v3 : Value} {v4 : Value} : am_g d X am_m8035 18 [v0, v1, v2, v3, v4] sk st Q = am_g d X am_m8035 19 [v0, v1, v2, v3, v4] (.long 1 :: sk) st Q := am_gu.trans rfl
theorem u8035_19 {v0 : Value} {v1 : Value} {v2 : Value} {v3 : Value} {v4 : Value} {x : Int64} {y : Int64} : am_g d X am_m8035 19 [v0, v1, v2, v3, v4] (.long y :: .long x :: sk) st Q = am_g d X am_m8035 20 [v0, v1, v2, v3, v4] (.int (lg_cmp x y) :: sk) st Q := am_gu.trans rfl
theorem u8035_20 {v0 : Value} {v1 : Value} {v2 : Value} {v3 : Value} {v4 : Value} {x : Int32} : am_g d X am_m8035 20 [v0, v1, v2, v3, v4] (.int x :: sk) st Q = (if decide (¬ x = 0) = true then am_g d X am_m8035 59 [v0, v1, v2, v3, v4] sk st Q else am_g d X am_m8035 23 [v0, v1, v2, v3, v4] sk st Q) := am_gu.trans rfl
theorem u8035_23 {v0 : Value} {v1 : Value} {v3 : Value} {v4 : Value} {x : Int64} : am_g d X am_m8035 23 [v0, v1, .long x, v3, v4] sk st Q = am_g d X am_m8035 24 [v0, v1, .long x, v3, v4] (.long x :: sk) st Q := am_gu.trans rfl
theorem u8035_24 {v0 : Value} {v1 : Value} {v2 : Value} {v3 : Value} {v4 : Value} : am_g d X am_m8035 24 [v0, v1, v2, v3, v4] sk st Q = am_g d X am_m8035 25 [v0, v1, v2, v3, v4] (.long 1 :: sk) st Q := am_gu.trans rfl
theorem u8035_25 {v1 : Value} {v2 : Value} {v3 : Value} {v4 : Value} {x : Nat} : am_g d X am_m8035 25 [.ref x, v1, v2, v3, v4] sk st Q = am_g d X am_m8035 26 [.ref x, v1, v2, v3, v4] (.ref x :: sk) st Q := am_gu.trans rfl
theorem u8035_26 {v0 : Value} {v1 : Value} {v2 : Value} {v3 : Value} {x : Int32} : am_g d X am_m8035 26 [v0, v1, v2, v3, .int x] sk st Q = am_g d X am_m8035 28 [v0, v1, v2, v3, .int x] (.int x :: sk) st Q := am_gu.trans rfl
theorem u8035_28 {a0 : Value} {v0 : Value} {v1 : Value} {v2 : Value} {v3 : Value} {v4 : Value} : am_g d X am_m8035 28 [v0, v1, v2, v3, v4] (a0 :: .ref o :: sk) st Q = ((am_ob st o 6 ∧ sk.length ≤ 5) ∧ am_Ca X d 6036 [.ref o, a0] st (am_af am_m8035 28 [v0, v1, v2, v3, v4] sk (fun pc lc sk st => am_g d X am_m8035 pc lc sk st Q) Q)) := am_gu.trans rfl
theorem u8035_31 {v0 : Value} {v1 : Value} {v2 : Value} {v3 : Value} {v4 : Value} {x : Int64} {y : Int32} : am_g d X am_m8035 31 [v0, v1, v2, v3, v4] (.int y :: .long x :: sk) st Q = am_g d X am_m8035 32 [v0, v1, v2, v3, v4] (.long (x <<< (y.toInt64 &&& 63)) :: sk) st Q := am_gu.trans rfl
theorem u8035_32 {v0 : Value} {v1 : Value} {v2 : Value} {v3 : Value} {v4 : Value} {x : Int64} {y : Int64} : am_g d X am_m8035 32 [v0, v1, v2, v3, v4] (.long y :: .long x :: sk) st Q = am_g d X am_m8035 33 [v0, v1, v2, v3, v4] (.long (x ||| y) :: sk) st Q := am_gu.trans rfl
theorem u8035_33 {v0 : Value} {v1 : Value} {v2 : Value} {v3 : Value} {v4 : Value} {x : Int64} : am_g d X am_m8035 33 [v0, v1, v2, v3, v4] (.long x :: sk) st Q = am_g d X am_m8035 34 [v0, am_kc v1, .long x, am_u, v4] sk st Q := am_gu.trans (congrArg (fun l => am_g d X am_m8035 34 (List.set (List.set l 2 (Value.long x)) 3 am_u) sk st Q) (kl_2 (l := [v2, v3, v4])))
theorem u8035_34 {v0 : Value} {v1 : Value} {v3 : Value} {v4 : Value} {x : Int64} : am_g d X am_m8035 34 [v0, v1, .long x, v3, v4] sk st Q = am_g d X am_m8035 35 [v0, v1, .long x, v3, v4] (.long x :: sk) st Q := am_gu.trans rfl
theorem u8035_35 {v1 : Value} {v2 : Value} {v3 : Value} {v4 : Value} {x : Nat} : am_g d X am_m8035 35 [.ref x, v1, v2, v3, v4] sk st Q = am_g d X am_m8035 36 [.ref x, v1, v2, v3, v4] (.ref x :: sk) st Q := am_gu.trans rfl
theorem u8035_36 {v0 : Value} {v1 : Value} {v2 : Value} {v3 : Value} {x : Int32} : am_g d X am_m8035 36 [v0, v1, v2, v3, .int x] sk st Q = am_g d X am_m8035 38 [v0, v1, v2, v3, .int x] (.int x :: sk) st Q := am_gu.trans rfl
theorem u8035_38 {a0 : Value} {v0 : Value} {v1 : Value} {v2 : Value} {v3 : Value} {v4 : Value} : am_g d X am_m8035 38 [v0, v1, v2, v3, v4] (a0 :: .ref o :: sk) st Q = ((am_ob st o 6 ∧ sk.length ≤ 5) ∧ am_Ca X d 6037 [.ref o, a0] st (am_af am_m8035 38 [v0, v1, v2, v3, v4] sk (fun pc lc sk st => am_g d X am_m8035 pc lc sk st Q) Q)) := am_gu.trans rfl
theorem u8035_41 {v0 : Value} {v1 : Value} {v2 : Value} {v3 : Value} {v4 : Value} : am_g d X am_m8035 41 [v0, v1, v2, v3, v4] sk st Q = am_g d X am_m8035 42 [v0, v1, v2, v3, v4] (.int (am_i (-1)) :: sk) st Q := am_gu.trans rfl
theorem u8035_42 {v0 : Value} {v1 : Value} {v2 : Value} {v3 : Value} {v4 : Value} {x : Int32} {y : Int32} : am_g d X am_m8035 42 [v0, v1, v2, v3, v4] (.int y :: .int x :: sk) st Q = (if decide (¬ x = y) = true then am_g d X am_m8035 49 [v0, v1, v2, v3, v4] sk st Q else am_g d X am_m8035 45 [v0, v1, v2, v3, v4] sk st Q) := am_gu.trans rfl
theorem u8035_45 {v0 : Value} {v1 : Value} {v2 : Value} {v3 : Value} {v4 : Value} : am_g d X am_m8035 45 [v0, v1, v2, v3, v4] sk st Q = am_g d X am_m8035 46 [v0, v1, v2, v3, v4] (.long 0 :: sk) st Q := am_gu.trans rfl
theorem u8035_46 {v0 : Value} {v1 : Value} {v2 : Value} {v3 : Value} {v4 : Value} : am_g d X am_m8035 46 [v0, v1, v2, v3, v4] sk st Q = am_g d X am_m8035 57 [v0, v1, v2, v3, v4] sk st Q := am_gu.trans rfl
theorem u8035_49 {v0 : Value} {v1 : Value} {v2 : Value} {v3 : Value} {v4 : Value} : am_g d X am_m8035 49 [v0, v1, v2, v3, v4] sk st Q = am_g d X am_m8035 50 [v0, v1, v2, v3, v4] (.long 1 :: sk) st Q := am_gu.trans rfl
theorem u8035_50 {v1 : Value} {v2 : Value} {v3 : Value} {v4 : Value} {x : Nat} : am_g d X am_m8035 50 [.ref x, v1, v2, v3, v4] sk st Q = am_g d X am_m8035 51 [.ref x, v1, v2, v3, v4] (.ref x :: sk) st Q := am_gu.trans rfl
theorem u8035_51 {v0 : Value} {v1 : Value} {v2 : Value} {v3 : Value} {x : Int32} : am_g d X am_m8035 51 [v0, v1, v2, v3, .int x] sk st Q = am_g d X am_m8035 53 [v0, v1, v2, v3, .int x] (.int x :: sk) st Q := am_gu.trans rfl
theorem u8035_53 {a0 : Value} {v0 : Value} {v1 : Value} {v2 : Value} {v3 : Value} {v4 : Value} : am_g d X am_m8035 53 [v0, v1, v2, v3, v4] (a0 :: .ref o :: sk) st Q = ((am_ob st o 6 ∧ sk.length ≤ 5) ∧ am_Ca X d 6037 [.ref o, a0] st (am_af am_m8035 53 [v0, v1, v2, v3, v4] sk (fun pc lc sk st => am_g d X am_m8035 pc lc sk st Q) Q)) := am_gu.trans rfl
theorem u8035_56 {v0 : Value} {v1 : Value} {v2 : Value} {v3 : Value} {v4 : Value} {x : Int64} {y : Int32} : am_g d X am_m8035 56 [v0, v1, v2, v3, v4] (.int y :: .long x :: sk) st Q = am_g d X am_m8035 57 [v0, v1, v2, v3, v4] (.long (x <<< (y.toInt64 &&& 63)) :: sk) st Q := am_gu.trans rfl
theorem u8035_57 {v0 : Value} {v1 : Value} {v2 : Value} {v3 : Value} {v4 : Value} {x : Int64} {y : Int64} : am_g d X am_m8035 57 [v0, v1, v2, v3, v4] (.long y :: .long x :: sk) st Q = am_g d X am_m8035 58 [v0, v1, v2, v3, v4] (.long (x ||| y) :: sk) st Q := am_gu.trans rfl
theorem u8035_58 {v0 : Value} {v1 : Value} {v2 : Value} {v3 : Value} {v4 : Value} {x : Int64} : am_g d X am_m8035 58 [v0, v1, v2, v3, v4] (.long x :: sk) st Q = am_g d X am_m8035 59 [v0, am_kc v1, .long x, am_u, v4] sk st Q := am_gu.trans (congrArg (fun l => am_g d X am_m8035 59 (List.set (List.set l 2 (Value.long x)) 3 am_u) sk st Q) (kl_2 (l := [v2, v3, v4])))
theorem u8035_59 {v0 : Value} {v1 : Value} {v2 : Value} {v3 : Value} {x : Int32} : am_g d X am_m8035 59 [v0, v1, v2, v3, .int x] sk st Q = am_g d X am_m8035 62 [v0, v1, v2, am_kc v3, .int (x + am_i (-1))] sk st Q := am_gu.trans (congrArg (fun l => am_g d X am_m8035 62 (List.set l 4 (.int (x + am_i (-1)))) sk st Q) (kl_4 (l := [.int x])))
theorem u8035_62 {v0 : Value} {v1 : Value} {v2 : Value} {v3 : Value} {v4 : Value} : am_g d X am_m8035 62 [v0, v1, v2, v3, v4] sk st Q = am_g d X am_m8035 7 [v0, v1, v2, v3, v4] sk st Q := am_gu.trans rfl
theorem u8035_65 {v0 : Value} {v1 : Value} {v3 : Value} {v4 : Value} {x : Int64} : am_g d X am_m8035 65 [v0, v1, .long x, v3, v4] sk st Q = am_g d X am_m8035 66 [v0, v1, .long x, v3, v4] (.long x :: sk) st Q := am_gu.trans rfl
theorem u8035_66 {v0 : Value} {v1 : Value} {v2 : Value} {v3 : Value} {v4 : Value} {x : Int64} : am_g d X am_m8035 66 [v0, v1, v2, v3, v4] [.long x] st Q = Q (.inl (some (.long x))) st := am_gu.trans rfl
set_option maxRecDepth 100000 in
theorem of_8036 : am_of 8036 = some am_m8036 := rfl
theorem c8036 {a0} {P : am_Q} : am_Ca X (d + 1) 8036 [.long a0] st P = am_g d X am_m8036 0 [.long a0, am_u, am_u, am_u] [] st P := am_cg of_8036 (by show 2 ≤ 4; decide)
theorem hd_8036 : am_hd am_m8036 = [] := rfl
theorem u8036_0 {v0 : Value} {v1 : Value} {v2 : Value} {v3 : Value} : am_g d X am_m8036 0 [v0, v1, v2, v3] sk st Q = am_g d X am_m8036 1 [v0, v1, v2, v3] (.int (am_i 0) :: sk) st Q := am_gu.trans rfl
theorem u8036_1 {v0 : Value} {v1 : Value} {v2 : Value} {v3 : Value} {x : Int32} : am_g d X am_m8036 1 [v0, v1, v2, v3] (.int x :: sk) st Q = am_g d X am_m8036 2 [v0, am_kc v1, .int x, v3] sk st Q := am_gu.trans (congrArg (fun l => am_g d X am_m8036 2 (List.set l 2 (.int x)) sk st Q) (kl_2 (l := [v2, v3])))
theorem u8036_2 {v0 : Value} {v1 : Value} {v2 : Value} {v3 : Value} : am_g d X am_m8036 2 [v0, v1, v2, v3] sk st Q = am_g d X am_m8036 3 [v0, v1, v2, v3] (.int (am_i 0) :: sk) st Q := am_gu.trans rfl
theorem u8036_3 {v0 : Value} {v1 : Value} {v2 : Value} {v3 : Value} {x : Int32} : am_g d X am_m8036 3 [v0, v1, v2, v3] (.int x :: sk) st Q = am_g d X am_m8036 4 [v0, v1, am_kc v2, .int x] sk st Q := am_gu.trans (congrArg (fun l => am_g d X am_m8036 4 (List.set l 3 (.int x)) sk st Q) (kl_3 (l := [v3])))
theorem u8036_4 {v0 : Value} {v1 : Value} {v2 : Value} {x : Int32} : am_g d X am_m8036 4 [v0, v1, v2, .int x] sk st Q = am_g d X am_m8036 5 [v0, v1, v2, .int x] (.int x :: sk) st Q := am_gu.trans rfl
theorem u8036_5 {v0 : Value} {v1 : Value} {v2 : Value} {v3 : Value} : am_g d X am_m8036 5 [v0, v1, v2, v3] sk st Q = am_g d X am_m8036 7 [v0, v1, v2, v3] (.int (am_i 60) :: sk) st Q := am_gu.trans rfl
theorem u8036_7 {v0 : Value} {v1 : Value} {v2 : Value} {v3 : Value} {x : Int32} {y : Int32} : am_g d X am_m8036 7 [v0, v1, v2, v3] (.int y :: .int x :: sk) st Q = (if decide (y ≤ x) = true then am_g d X am_m8036 25 [v0, v1, v2, v3] sk st Q else am_g d X am_m8036 10 [v0, v1, v2, v3] sk st Q) := am_gu.trans rfl
theorem u8036_10 {v0 : Value} {v1 : Value} {v3 : Value} {x : Int32} : am_g d X am_m8036 10 [v0, v1, .int x, v3] sk st Q = am_g d X am_m8036 11 [v0, v1, .int x, v3] (.int x :: sk) st Q := am_gu.trans rfl
theorem u8036_11 {v1 : Value} {v2 : Value} {v3 : Value} {x : Int64} : am_g d X am_m8036 11 [.long x, v1, v2, v3] sk st Q = am_g d X am_m8036 12 [.long x, v1, v2, v3] (.long x :: sk) st Q := am_gu.trans rfl
theorem u8036_12 {v0 : Value} {v1 : Value} {v2 : Value} {x : Int32} : am_g d X am_m8036 12 [v0, v1, v2, .int x] sk st Q = am_g d X am_m8036 13 [v0, v1, v2, .int x] (.int x :: sk) st Q := am_gu.trans rfl
theorem u8036_13 {v0 : Value} {v1 : Value} {v2 : Value} {v3 : Value} {x : Int64} {y : Int32} : am_g d X am_m8036 13 [v0, v1, v2, v3] (.int y :: .long x :: sk) st Q = am_g d X am_m8036 14 [v0, v1, v2, v3] (.long (x >>> (y.toInt64 &&& 63)) :: sk) st Q := am_gu.trans rfl
theorem u8036_14 {v0 : Value} {v1 : Value} {v2 : Value} {v3 : Value} : am_g d X am_m8036 14 [v0, v1, v2, v3] sk st Q = am_g d X am_m8036 15 [v0, v1, v2, v3] (.long 1 :: sk) st Q := am_gu.trans rfl
theorem u8036_15 {v0 : Value} {v1 : Value} {v2 : Value} {v3 : Value} {x : Int64} {y : Int64} : am_g d X am_m8036 15 [v0, v1, v2, v3] (.long y :: .long x :: sk) st Q = am_g d X am_m8036 16 [v0, v1, v2, v3] (.long (x &&& y) :: sk) st Q := am_gu.trans rfl
theorem u8036_16 {v0 : Value} {v1 : Value} {v2 : Value} {v3 : Value} {x : Int64} : am_g d X am_m8036 16 [v0, v1, v2, v3] (.long x :: sk) st Q = am_g d X am_m8036 17 [v0, v1, v2, v3] (.int x.toInt32 :: sk) st Q := am_gu.trans rfl
theorem u8036_17 {v0 : Value} {v1 : Value} {v2 : Value} {v3 : Value} {x : Int32} {y : Int32} : am_g d X am_m8036 17 [v0, v1, v2, v3] (.int y :: .int x :: sk) st Q = am_g d X am_m8036 18 [v0, v1, v2, v3] (.int (x + y) :: sk) st Q := am_gu.trans rfl
theorem u8036_18 {v0 : Value} {v1 : Value} {v2 : Value} {v3 : Value} {x : Int32} : am_g d X am_m8036 18 [v0, v1, v2, v3] (.int x :: sk) st Q = am_g d X am_m8036 19 [v0, am_kc v1, .int x, v3] sk st Q := am_gu.trans (congrArg (fun l => am_g d X am_m8036 19 (List.set l 2 (.int x)) sk st Q) (kl_2 (l := [v2, v3])))
theorem u8036_19 {v0 : Value} {v1 : Value} {v2 : Value} {x : Int32} : am_g d X am_m8036 19 [v0, v1, v2, .int x] sk st Q = am_g d X am_m8036 22 [v0, v1, am_kc v2, .int (x + am_i 1)] sk st Q := am_gu.trans (congrArg (fun l => am_g d X am_m8036 22 (List.set l 3 (.int (x + am_i 1))) sk st Q) (kl_3 (l := [.int x])))
theorem u8036_22 {v0 : Value} {v1 : Value} {v2 : Value} {v3 : Value} : am_g d X am_m8036 22 [v0, v1, v2, v3] sk st Q = am_g d X am_m8036 4 [v0, v1, v2, v3] sk st Q := am_gu.trans rfl
theorem u8036_25 {v0 : Value} {v1 : Value} {v3 : Value} {x : Int32} : am_g d X am_m8036 25 [v0, v1, .int x, v3] sk st Q = am_g d X am_m8036 26 [v0, v1, .int x, v3] (.int x :: sk) st Q := am_gu.trans rfl
theorem u8036_26 {v0 : Value} {v1 : Value} {v2 : Value} {v3 : Value} {x : Int32} : am_g d X am_m8036 26 [v0, v1, v2, v3] [.int x] st Q = Q (.inl (some (.int x))) st := am_gu.trans rfl
set_option maxRecDepth 100000 in
theorem of_8037 : am_of 8037 = some am_m8037 := rfl
theorem c8037 {a0} {P : am_Q} : am_Ca X (d + 1) 8037 [.long a0] st P = am_g d X am_m8037 0 [.long a0, am_u, am_u, am_u] [] st P := am_cg of_8037 (by show 2 ≤ 4; decide)
theorem hd_8037 : am_hd am_m8037 = [] := rfl
theorem u8037_0 {v0 : Value} {v1 : Value} {v2 : Value} {v3 : Value} : am_g d X am_m8037 0 [v0, v1, v2, v3] sk st Q = am_g d X am_m8037 1 [v0, v1, v2, v3] (.int (am_i (-1)) :: sk) st Q := am_gu.trans rfl
theorem u8037_1 {v0 : Value} {v1 : Value} {v2 : Value} {v3 : Value} {x : Int32} : am_g d X am_m8037 1 [v0, v1, v2, v3] (.int x :: sk) st Q = am_g d X am_m8037 2 [v0, am_kc v1, .int x, v3] sk st Q := am_gu.trans (congrArg (fun l => am_g d X am_m8037 2 (List.set l 2 (.int x)) sk st Q) (kl_2 (l := [v2, v3])))
theorem u8037_2 {v0 : Value} {v1 : Value} {v2 : Value} {v3 : Value} : am_g d X am_m8037 2 [v0, v1, v2, v3] sk st Q = am_g d X am_m8037 3 [v0, v1, v2, v3] (.int (am_i 0) :: sk) st Q := am_gu.trans rfl
theorem u8037_3 {v0 : Value} {v1 : Value} {v2 : Value} {v3 : Value} {x : Int32} : am_g d X am_m8037 3 [v0, v1, v2, v3] (.int x :: sk) st Q = am_g d X am_m8037 4 [v0, v1, am_kc v2, .int x] sk st Q := am_gu.trans (congrArg (fun l => am_g d X am_m8037 4 (List.set l 3 (.int x)) sk st Q) (kl_3 (l := [v3])))
theorem u8037_4 {v0 : Value} {v1 : Value} {v2 : Value} {x : Int32} : am_g d X am_m8037 4 [v0, v1, v2, .int x] sk st Q = am_g d X am_m8037 5 [v0, v1, v2, .int x] (.int x :: sk) st Q := am_gu.trans rfl
theorem u8037_5 {v0 : Value} {v1 : Value} {v2 : Value} {v3 : Value} : am_g d X am_m8037 5 [v0, v1, v2, v3] sk st Q = am_g d X am_m8037 7 [v0, v1, v2, v3] (.int (am_i 60) :: sk) st Q := am_gu.trans rfl
theorem u8037_7 {v0 : Value} {v1 : Value} {v2 : Value} {v3 : Value} {x : Int32} {y : Int32} : am_g d X am_m8037 7 [v0, v1, v2, v3] (.int y :: .int x :: sk) st Q = (if decide (y ≤ x) = true then am_g d X am_m8037 32 [v0, v1, v2, v3] sk st Q else am_g d X am_m8037 10 [v0, v1, v2, v3] sk st Q) := am_gu.trans rfl
theorem u8037_10 {v1 : Value} {v2 : Value} {v3 : Value} {x : Int64} : am_g d X am_m8037 10 [.long x, v1, v2, v3] sk st Q = am_g d X am_m8037 11 [.long x, v1, v2, v3] (.long x :: sk) st Q := am_gu.trans rfl
theorem u8037_11 {v0 : Value} {v1 : Value} {v2 : Value} {x : Int32} : am_g d X am_m8037 11 [v0, v1, v2, .int x] sk st Q = am_g d X am_m8037 12 [v0, v1, v2, .int x] (.int x :: sk) st Q := am_gu.trans rfl
theorem u8037_12 {v0 : Value} {v1 : Value} {v2 : Value} {v3 : Value} {x : Int64} {y : Int32} : am_g d X am_m8037 12 [v0, v1, v2, v3] (.int y :: .long x :: sk) st Q = am_g d X am_m8037 13 [v0, v1, v2, v3] (.long (x >>> (y.toInt64 &&& 63)) :: sk) st Q := am_gu.trans rfl
theorem u8037_13 {v0 : Value} {v1 : Value} {v2 : Value} {v3 : Value} : am_g d X am_m8037 13 [v0, v1, v2, v3] sk st Q = am_g d X am_m8037 14 [v0, v1, v2, v3] (.long 1 :: sk) st Q := am_gu.trans rfl
theorem u8037_14 {v0 : Value} {v1 : Value} {v2 : Value} {v3 : Value} {x : Int64} {y : Int64} : am_g d X am_m8037 14 [v0, v1, v2, v3] (.long y :: .long x :: sk) st Q = am_g d X am_m8037 15 [v0, v1, v2, v3] (.long (x &&& y) :: sk) st Q := am_gu.trans rfl
theorem u8037_15 {v0 : Value} {v1 : Value} {v2 : Value} {v3 : Value} : am_g d X am_m8037 15 [v0, v1, v2, v3] sk st Q = am_g d X am_m8037 16 [v0, v1, v2, v3] (.long 1 :: sk) st Q := am_gu.trans rfl
theorem u8037_16 {v0 : Value} {v1 : Value} {v2 : Value} {v3 : Value} {x : Int64} {y : Int64} : am_g d X am_m8037 16 [v0, v1, v2, v3] (.long y :: .long x :: sk) st Q = am_g d X am_m8037 17 [v0, v1, v2, v3] (.int (lg_cmp x y) :: sk) st Q := am_gu.trans rfl
theorem u8037_17 {v0 : Value} {v1 : Value} {v2 : Value} {v3 : Value} {x : Int32} : am_g d X am_m8037 17 [v0, v1, v2, v3] (.int x :: sk) st Q = (if decide (¬ x = 0) = true then am_g d X am_m8037 24 [v0, v1, v2, v3] sk st Q else am_g d X am_m8037 20 [v0, v1, v2, v3] sk st Q) := am_gu.trans rfl
theorem u8037_20 {v0 : Value} {v1 : Value} {v2 : Value} {x : Int32} : am_g d X am_m8037 20 [v0, v1, v2, .int x] sk st Q = am_g d X am_m8037 21 [v0, v1, v2, .int x] (.int x :: sk) st Q := am_gu.trans rfl
theorem u8037_21 {v0 : Value} {v1 : Value} {v2 : Value} {v3 : Value} : am_g d X am_m8037 21 [v0, v1, v2, v3] sk st Q = am_g d X am_m8037 25 [v0, v1, v2, v3] sk st Q := am_gu.trans rfl
theorem u8037_24 {v0 : Value} {v1 : Value} {v3 : Value} {x : Int32} : am_g d X am_m8037 24 [v0, v1, .int x, v3] sk st Q = am_g d X am_m8037 25 [v0, v1, .int x, v3] (.int x :: sk) st Q := am_gu.trans rfl
theorem u8037_25 {v0 : Value} {v1 : Value} {v2 : Value} {v3 : Value} {x : Int32} : am_g d X am_m8037 25 [v0, v1, v2, v3] (.int x :: sk) st Q = am_g d X am_m8037 26 [v0, am_kc v1, .int x, v3] sk st Q := am_gu.trans (congrArg (fun l => am_g d X am_m8037 26 (List.set l 2 (.int x)) sk st Q) (kl_2 (l := [v2, v3])))
theorem u8037_26 {v0 : Value} {v1 : Value} {v2 : Value} {x : Int32} : am_g d X am_m8037 26 [v0, v1, v2, .int x] sk st Q = am_g d X am_m8037 29 [v0, v1, am_kc v2, .int (x + am_i 1)] sk st Q := am_gu.trans (congrArg (fun l => am_g d X am_m8037 29 (List.set l 3 (.int (x + am_i 1))) sk st Q) (kl_3 (l := [.int x])))
theorem u8037_29 {v0 : Value} {v1 : Value} {v2 : Value} {v3 : Value} : am_g d X am_m8037 29 [v0, v1, v2, v3] sk st Q = am_g d X am_m8037 4 [v0, v1, v2, v3] sk st Q := am_gu.trans rfl
theorem u8037_32 {v0 : Value} {v1 : Value} {v3 : Value} {x : Int32} : am_g d X am_m8037 32 [v0, v1, .int x, v3] sk st Q = am_g d X am_m8037 33 [v0, v1, .int x, v3] (.int x :: sk) st Q := am_gu.trans rfl
theorem u8037_33 {v0 : Value} {v1 : Value} {v2 : Value} {v3 : Value} {x : Int32} : am_g d X am_m8037 33 [v0, v1, v2, v3] [.int x] st Q = Q (.inl (some (.int x))) st := am_gu.trans rfl
end UU
