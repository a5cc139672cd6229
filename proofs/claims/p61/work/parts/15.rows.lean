/-! each instruction as a rewriting row -/
section UU
variable {d o n cl sl : Nat} {X : am_X} {sk : List Value} {st : am_S} {Q : am_Q} {sh : Nat → am_D} {F A : Nat → Nat → Int32} {L : Nat → Nat → Int64}
set_option maxRecDepth 100000 in
theorem of_1 : am_of 1 = some am_m1 := rfl
theorem c1 {z} {P : am_Q} : am_Ca X (d + 1) 1 [.ref z] st P = am_g d X am_m1 0 [.ref z] [] st P := am_cg of_1 (by show 1 ≤ 1; decide)
theorem hd_1 : am_hd am_m1 = [] := rfl
theorem u1_0 {x : Nat} : am_g d X am_m1 0 [.ref x] sk st Q = am_g d X am_m1 1 [.ref x] (.ref x :: sk) st Q := am_gu.trans rfl
theorem u1_1 {v0 : Value} : am_g d X am_m1 1 [v0] (.ref o :: sk) st Q = (sk.length ≤ 4 ∧ am_g d X am_m1 4 [v0] sk st Q) := am_gu.trans rfl
theorem u1_4 {x : Nat} : am_g d X am_m1 4 [.ref x] sk st Q = am_g d X am_m1 5 [.ref x] (.ref x :: sk) st Q := am_gu.trans rfl
theorem u1_5 {v0 : Value} : am_g d X am_m1 5 [v0] sk st Q = am_g d X am_m1 7 [v0] (.int (am_i 24) :: sk) st Q := am_gu.trans rfl
theorem u1_7 {v0 : Value} : am_g d X am_m1 7 [v0] sk st Q = am_na 1 none 9 [v0] sk st (fun pc lc sk st => am_g d X am_m1 pc lc sk st Q) := am_gu.trans rfl
theorem u1_9 {v0 : Value} : am_g d X am_m1 9 [v0] sk st Q = am_pt 0 12 [v0] sk st (fun pc lc sk st => am_g d X am_m1 pc lc sk st Q) := am_gu.trans rfl
theorem u1_12 {x : Nat} : am_g d X am_m1 12 [.ref x] sk st Q = am_g d X am_m1 13 [.ref x] (.ref x :: sk) st Q := am_gu.trans rfl
theorem u1_13 {v0 : Value} : am_g d X am_m1 13 [v0] sk st Q = am_g d X am_m1 15 [v0] (.int (am_i 24) :: sk) st Q := am_gu.trans rfl
theorem u1_15 {v0 : Value} : am_g d X am_m1 15 [v0] sk st Q = am_na 1 none 17 [v0] sk st (fun pc lc sk st => am_g d X am_m1 pc lc sk st Q) := am_gu.trans rfl
theorem u1_17 {v0 : Value} : am_g d X am_m1 17 [v0] sk st Q = am_pt 1 20 [v0] sk st (fun pc lc sk st => am_g d X am_m1 pc lc sk st Q) := am_gu.trans rfl
theorem u1_20 {x : Nat} : am_g d X am_m1 20 [.ref x] sk st Q = am_g d X am_m1 21 [.ref x] (.ref x :: sk) st Q := am_gu.trans rfl
theorem u1_21 {v0 : Value} : am_g d X am_m1 21 [v0] sk st Q = am_g d X am_m1 23 [v0] (.int (am_i 24) :: sk) st Q := am_gu.trans rfl
theorem u1_23 {v0 : Value} : am_g d X am_m1 23 [v0] sk st Q = am_na 1 none 25 [v0] sk st (fun pc lc sk st => am_g d X am_m1 pc lc sk st Q) := am_gu.trans rfl
theorem u1_25 {v0 : Value} : am_g d X am_m1 25 [v0] sk st Q = am_pt 2 28 [v0] sk st (fun pc lc sk st => am_g d X am_m1 pc lc sk st Q) := am_gu.trans rfl
theorem u1_28 {x : Nat} : am_g d X am_m1 28 [.ref x] sk st Q = am_g d X am_m1 29 [.ref x] (.ref x :: sk) st Q := am_gu.trans rfl
theorem u1_29 {v0 : Value} : am_g d X am_m1 29 [v0] sk st Q = am_g d X am_m1 31 [v0] (.int (am_i 24) :: sk) st Q := am_gu.trans rfl
theorem u1_31 {v0 : Value} : am_g d X am_m1 31 [v0] sk st Q = am_na 1 none 33 [v0] sk st (fun pc lc sk st => am_g d X am_m1 pc lc sk st Q) := am_gu.trans rfl
theorem u1_33 {v0 : Value} : am_g d X am_m1 33 [v0] sk st Q = am_pt 3 36 [v0] sk st (fun pc lc sk st => am_g d X am_m1 pc lc sk st Q) := am_gu.trans rfl
theorem u1_36 {x : Nat} : am_g d X am_m1 36 [.ref x] sk st Q = am_g d X am_m1 37 [.ref x] (.ref x :: sk) st Q := am_gu.trans rfl
theorem u1_37 {v0 : Value} : am_g d X am_m1 37 [v0] sk st Q = am_g d X am_m1 38 [v0] (.int (am_i 0) :: sk) st Q := am_gu.trans rfl
theorem u1_38 {v0 : Value} : am_g d X am_m1 38 [v0] sk st Q = am_pt 4 41 [v0] sk st (fun pc lc sk st => am_g d X am_m1 pc lc sk st Q) := am_gu.trans rfl
theorem u1_41 {x : Nat} : am_g d X am_m1 41 [.ref x] sk st Q = am_g d X am_m1 42 [.ref x] (.ref x :: sk) st Q := am_gu.trans rfl
theorem u1_42 {v0 : Value} : am_g d X am_m1 42 [v0] sk st Q = am_g d X am_m1 43 [v0] (.int (am_i 0) :: sk) st Q := am_gu.trans rfl
theorem u1_43 {v0 : Value} : am_g d X am_m1 43 [v0] sk st Q = am_pt 5 46 [v0] sk st (fun pc lc sk st => am_g d X am_m1 pc lc sk st Q) := am_gu.trans rfl
theorem u1_46 {v0 : Value} : am_g d X am_m1 46 [v0] [] st Q = Q (.inl none) st := am_gu.trans rfl
set_option maxRecDepth 100000 in
theorem of_2 : am_of 2 = some am_m2 := rfl
theorem c2 {z} {P : am_Q} : am_Ca X (d + 1) 2 [.ref z] st P = am_g d X am_m2 0 [.ref z, am_u, am_u] [] st P := am_cg of_2 (by show 1 ≤ 3; decide)
theorem hd_2 : am_hd am_m2 = [] := rfl
theorem u2_0 {v1 : Value} {v2 : Value} {x : Nat} : am_g d X am_m2 0 [.ref x, v1, v2] sk st Q = am_g d X am_m2 1 [.ref x, v1, v2] (.ref x :: sk) st Q := am_gu.trans rfl
theorem u2_1 {v0 : Value} {v1 : Value} {v2 : Value} : am_g d X am_m2 1 [v0, v1, v2] sk st Q = am_g d X am_m2 2 [v0, v1, v2] (.int (am_i 0) :: sk) st Q := am_gu.trans rfl
theorem u2_2 {v0 : Value} {v1 : Value} {v2 : Value} : am_g d X am_m2 2 [v0, v1, v2] sk st Q = am_pt 4 5 [v0, v1, v2] sk st (fun pc lc sk st => am_g d X am_m2 pc lc sk st Q) := am_gu.trans rfl
theorem u2_5 {v1 : Value} {v2 : Value} {x : Nat} : am_g d X am_m2 5 [.ref x, v1, v2] sk st Q = am_g d X am_m2 6 [.ref x, v1, v2] (.ref x :: sk) st Q := am_gu.trans rfl
theorem u2_6 {v0 : Value} {v1 : Value} {v2 : Value} : am_g d X am_m2 6 [v0, v1, v2] sk st Q = am_g d X am_m2 7 [v0, v1, v2] (.int (am_i 0) :: sk) st Q := am_gu.trans rfl
theorem u2_7 {v0 : Value} {v1 : Value} {v2 : Value} : am_g d X am_m2 7 [v0, v1, v2] sk st Q = am_pt 5 10 [v0, v1, v2] sk st (fun pc lc sk st => am_g d X am_m2 pc lc sk st Q) := am_gu.trans rfl
theorem u2_10 {v0 : Value} {v1 : Value} {v2 : Value} : am_g d X am_m2 10 [v0, v1, v2] sk st Q = am_g d X am_m2 11 [v0, v1, v2] (.int (am_i 0) :: sk) st Q := am_gu.trans rfl
theorem u2_11 {v0 : Value} {v1 : Value} {v2 : Value} {x : Int32} : am_g d X am_m2 11 [v0, v1, v2] (.int x :: sk) st Q = am_g d X am_m2 12 [am_kc v0, .int x, v2] sk st Q := am_gu.trans (congrArg (fun l => am_g d X am_m2 12 (List.set l 1 (.int x)) sk st Q) (kl_1 (l := [v1, v2])))
theorem u2_12 {v0 : Value} {v2 : Value} {x : Int32} : am_g d X am_m2 12 [v0, .int x, v2] sk st Q = am_g d X am_m2 13 [v0, .int x, v2] (.int x :: sk) st Q := am_gu.trans rfl
theorem u2_13 {v0 : Value} {v1 : Value} {v2 : Value} : am_g d X am_m2 13 [v0, v1, v2] sk st Q = am_g d X am_m2 15 [v0, v1, v2] (.int (am_i 24) :: sk) st Q := am_gu.trans rfl
theorem u2_15 {v0 : Value} {v1 : Value} {v2 : Value} {x : Int32} {y : Int32} : am_g d X am_m2 15 [v0, v1, v2] (.int y :: .int x :: sk) st Q = (if decide (y ≤ x) = true then am_g d X am_m2 113 [v0, v1, v2] sk st Q else am_g d X am_m2 18 [v0, v1, v2] sk st Q) := am_gu.trans rfl
theorem u2_18 {v1 : Value} {v2 : Value} {x : Nat} : am_g d X am_m2 18 [.ref x, v1, v2] sk st Q = am_g d X am_m2 19 [.ref x, v1, v2] (.ref x :: sk) st Q := am_gu.trans rfl
theorem u2_19 {v0 : Value} {v1 : Value} {v2 : Value} : am_g d X am_m2 19 [v0, v1, v2] sk st Q = am_gt 3 22 [v0, v1, v2] sk st (fun pc lc sk st => am_g d X am_m2 pc lc sk st Q) := am_gu.trans rfl
theorem u2_22 {v0 : Value} {v2 : Value} {x : Int32} : am_g d X am_m2 22 [v0, .int x, v2] sk st Q = am_g d X am_m2 23 [v0, .int x, v2] (.int x :: sk) st Q := am_gu.trans rfl
theorem u2_23 {v0 : Value} {v1 : Value} {v2 : Value} : am_g d X am_m2 23 [v0, v1, v2] sk st Q = am_g d X am_m2 24 [v0, v1, v2] (.int (am_i (-1)) :: sk) st Q := am_gu.trans rfl
theorem u2_24 {v0 : Value} {v1 : Value} {v2 : Value} : am_g d X am_m2 24 [v0, v1, v2] sk st Q = am_xs 25 [v0, v1, v2] sk st (fun pc lc sk st => am_g d X am_m2 pc lc sk st Q) := am_gu.trans rfl
theorem u2_25 {v1 : Value} {v2 : Value} {x : Nat} : am_g d X am_m2 25 [.ref x, v1, v2] sk st Q = am_g d X am_m2 26 [.ref x, v1, v2] (.ref x :: sk) st Q := am_gu.trans rfl
theorem u2_26 {v0 : Value} {v1 : Value} {v2 : Value} : am_g d X am_m2 26 [v0, v1, v2] sk st Q = am_gt 1 29 [v0, v1, v2] sk st (fun pc lc sk st => am_g d X am_m2 pc lc sk st Q) := am_gu.trans rfl
theorem u2_29 {v0 : Value} {v2 : Value} {x : Int32} : am_g d X am_m2 29 [v0, .int x, v2] sk st Q = am_g d X am_m2 30 [v0, .int x, v2] (.int x :: sk) st Q := am_gu.trans rfl
theorem u2_30 {v0 : Value} {v1 : Value} {v2 : Value} : am_g d X am_m2 30 [v0, v1, v2] sk st Q = am_xl (X.1, X.2.1, d) am_m2 31 [v0, v1, v2] sk st (fun pc lc sk st => am_g d X am_m2 pc lc sk st Q) := am_gu.trans rfl
theorem u2_31 {v0 : Value} {v1 : Value} {v2 : Value} {x : Int32} : am_g d X am_m2 31 [v0, v1, v2] (.int x :: sk) st Q = am_g d X am_m2 32 [v0, am_kc v1, .int x] sk st Q := am_gu.trans (congrArg (fun l => am_g d X am_m2 32 (List.set l 2 (.int x)) sk st Q) (kl_2 (l := [v2])))
theorem u2_32 {v0 : Value} {v1 : Value} {x : Int32} : am_g d X am_m2 32 [v0, v1, .int x] sk st Q = am_g d X am_m2 33 [v0, v1, .int x] (.int x :: sk) st Q := am_gu.trans rfl
theorem u2_33 {v1 : Value} {v2 : Value} {x : Nat} : am_g d X am_m2 33 [.ref x, v1, v2] sk st Q = am_g d X am_m2 34 [.ref x, v1, v2] (.ref x :: sk) st Q := am_gu.trans rfl
theorem u2_34 {v0 : Value} {v1 : Value} {v2 : Value} : am_g d X am_m2 34 [v0, v1, v2] sk st Q = am_gt 0 37 [v0, v1, v2] sk st (fun pc lc sk st => am_g d X am_m2 pc lc sk st Q) := am_gu.trans rfl
theorem u2_37 {v0 : Value} {v2 : Value} {x : Int32} : am_g d X am_m2 37 [v0, .int x, v2] sk st Q = am_g d X am_m2 38 [v0, .int x, v2] (.int x :: sk) st Q := am_gu.trans rfl
theorem u2_38 {v0 : Value} {v1 : Value} {v2 : Value} : am_g d X am_m2 38 [v0, v1, v2] sk st Q = am_xl (X.1, X.2.1, d) am_m2 39 [v0, v1, v2] sk st (fun pc lc sk st => am_g d X am_m2 pc lc sk st Q) := am_gu.trans rfl
theorem u2_39 {v0 : Value} {v1 : Value} {v2 : Value} {x : Int32} {y : Int32} : am_g d X am_m2 39 [v0, v1, v2] (.int y :: .int x :: sk) st Q = (if decide (x = y) = true then am_g d X am_m2 107 [v0, v1, v2] sk st Q else am_g d X am_m2 42 [v0, v1, v2] sk st Q) := am_gu.trans rfl
theorem u2_42 {v0 : Value} {v1 : Value} {x : Int32} : am_g d X am_m2 42 [v0, v1, .int x] sk st Q = am_g d X am_m2 43 [v0, v1, .int x] (.int x :: sk) st Q := am_gu.trans rfl
theorem u2_43 {v1 : Value} {v2 : Value} {x : Nat} : am_g d X am_m2 43 [.ref x, v1, v2] sk st Q = am_g d X am_m2 44 [.ref x, v1, v2] (.ref x :: sk) st Q := am_gu.trans rfl
theorem u2_44 {v0 : Value} {v1 : Value} {v2 : Value} : am_g d X am_m2 44 [v0, v1, v2] sk st Q = am_gt 2 47 [v0, v1, v2] sk st (fun pc lc sk st => am_g d X am_m2 pc lc sk st Q) := am_gu.trans rfl
theorem u2_47 {v0 : Value} {v2 : Value} {x : Int32} : am_g d X am_m2 47 [v0, .int x, v2] sk st Q = am_g d X am_m2 48 [v0, .int x, v2] (.int x :: sk) st Q := am_gu.trans rfl
theorem u2_48 {v0 : Value} {v1 : Value} {v2 : Value} : am_g d X am_m2 48 [v0, v1, v2] sk st Q = am_xl (X.1, X.2.1, d) am_m2 49 [v0, v1, v2] sk st (fun pc lc sk st => am_g d X am_m2 pc lc sk st Q) := am_gu.trans rfl
theorem u2_49 {v0 : Value} {v1 : Value} {v2 : Value} {x : Int32} {y : Int32} : am_g d X am_m2 49 [v0, v1, v2] (.int y :: .int x :: sk) st Q = (if decide (¬ x = y) = true then am_g d X am_m2 55 [v0, v1, v2] sk st Q else am_g d X am_m2 52 [v0, v1, v2] sk st Q) := am_gu.trans rfl
theorem u2_52 {v0 : Value} {v1 : Value} {v2 : Value} : am_g d X am_m2 52 [v0, v1, v2] sk st Q = am_g d X am_m2 107 [v0, v1, v2] sk st Q := am_gu.trans rfl
theorem u2_55 {v1 : Value} {v2 : Value} {x : Nat} : am_g d X am_m2 55 [.ref x, v1, v2] sk st Q = am_g d X am_m2 56 [.ref x, v1, v2] (.ref x :: sk) st Q := am_gu.trans rfl
theorem u2_56 {v0 : Value} {v1 : Value} {v2 : Value} : am_g d X am_m2 56 [v0, v1, v2] sk st Q = am_gt 2 59 [v0, v1, v2] sk st (fun pc lc sk st => am_g d X am_m2 pc lc sk st Q) := am_gu.trans rfl
theorem u2_59 {v0 : Value} {v2 : Value} {x : Int32} : am_g d X am_m2 59 [v0, .int x, v2] sk st Q = am_g d X am_m2 60 [v0, .int x, v2] (.int x :: sk) st Q := am_gu.trans rfl
theorem u2_60 {v0 : Value} {v1 : Value} {v2 : Value} : am_g d X am_m2 60 [v0, v1, v2] sk st Q = am_xl (X.1, X.2.1, d) am_m2 61 [v0, v1, v2] sk st (fun pc lc sk st => am_g d X am_m2 pc lc sk st Q) := am_gu.trans rfl
theorem u2_61 {v1 : Value} {v2 : Value} {x : Nat} : am_g d X am_m2 61 [.ref x, v1, v2] sk st Q = am_g d X am_m2 62 [.ref x, v1, v2] (.ref x :: sk) st Q := am_gu.trans rfl
theorem u2_62 {v0 : Value} {v1 : Value} {v2 : Value} : am_g d X am_m2 62 [v0, v1, v2] sk st Q = am_gt 0 65 [v0, v1, v2] sk st (fun pc lc sk st => am_g d X am_m2 pc lc sk st Q) := am_gu.trans rfl
theorem u2_65 {v0 : Value} {v2 : Value} {x : Int32} : am_g d X am_m2 65 [v0, .int x, v2] sk st Q = am_g d X am_m2 66 [v0, .int x, v2] (.int x :: sk) st Q := am_gu.trans rfl
theorem u2_66 {v0 : Value} {v1 : Value} {v2 : Value} : am_g d X am_m2 66 [v0, v1, v2] sk st Q = am_xl (X.1, X.2.1, d) am_m2 67 [v0, v1, v2] sk st (fun pc lc sk st => am_g d X am_m2 pc lc sk st Q) := am_gu.trans rfl
theorem u2_67 {v0 : Value} {v1 : Value} {v2 : Value} {x : Int32} {y : Int32} : am_g d X am_m2 67 [v0, v1, v2] (.int y :: .int x :: sk) st Q = (if decide (¬ x = y) = true then am_g d X am_m2 90 [v0, v1, v2] sk st Q else am_g d X am_m2 70 [v0, v1, v2] sk st Q) := am_gu.trans rfl
theorem u2_70 {v1 : Value} {v2 : Value} {x : Nat} : am_g d X am_m2 70 [.ref x, v1, v2] sk st Q = am_g d X am_m2 71 [.ref x, v1, v2] (.ref x :: sk) st Q := am_gu.trans rfl
theorem u2_71 {v0 : Value} {v1 : Value} {v2 : Value} : am_g d X am_m2 71 [v0, v1, v2] sk st Q = am_gt 2 74 [v0, v1, v2] sk st (fun pc lc sk st => am_g d X am_m2 pc lc sk st Q) := am_gu.trans rfl
theorem u2_74 {v0 : Value} {v2 : Value} {x : Int32} : am_g d X am_m2 74 [v0, .int x, v2] sk st Q = am_g d X am_m2 75 [v0, .int x, v2] (.int x :: sk) st Q := am_gu.trans rfl
theorem u2_75 {v0 : Value} {v1 : Value} {x : Int32} : am_g d X am_m2 75 [v0, v1, .int x] sk st Q = am_g d X am_m2 76 [v0, v1, .int x] (.int x :: sk) st Q := am_gu.trans rfl
theorem u2_76 {v0 : Value} {v1 : Value} {v2 : Value} : am_g d X am_m2 76 [v0, v1, v2] sk st Q = am_xs 77 [v0, v1, v2] sk st (fun pc lc sk st => am_g d X am_m2 pc lc sk st Q) := am_gu.trans rfl
theorem u2_77 {v1 : Value} {v2 : Value} {x : Nat} : am_g d X am_m2 77 [.ref x, v1, v2] sk st Q = am_g d X am_m2 78 [.ref x, v1, v2] (.ref x :: sk) st Q := am_gu.trans rfl
theorem u2_78i {v0 : Value} {v1 : Value} {v2 : Value} {x : Int32} : am_g d X am_m2 78 [v0, v1, v2] (.int x :: sk) st Q = am_g d X am_m2 79 [v0, v1, v2] (.int x :: .int x :: sk) st Q := am_gu.trans rfl
theorem u2_78r {v0 : Value} {v1 : Value} {v2 : Value} {x : Nat} : am_g d X am_m2 78 [v0, v1, v2] (.ref x :: sk) st Q = am_g d X am_m2 79 [v0, v1, v2] (.ref x :: .ref x :: sk) st Q := am_gu.trans rfl
theorem u2_79 {v0 : Value} {v1 : Value} {v2 : Value} : am_g d X am_m2 79 [v0, v1, v2] sk st Q = am_gt 4 82 [v0, v1, v2] sk st (fun pc lc sk st => am_g d X am_m2 pc lc sk st Q) := am_gu.trans rfl
theorem u2_82 {v0 : Value} {v1 : Value} {v2 : Value} : am_g d X am_m2 82 [v0, v1, v2] sk st Q = am_g d X am_m2 83 [v0, v1, v2] (.int (am_i 1) :: sk) st Q := am_gu.trans rfl
theorem u2_83 {v0 : Value} {v1 : Value} {v2 : Value} {x : Int32} {y : Int32} : am_g d X am_m2 83 [v0, v1, v2] (.int y :: .int x :: sk) st Q = am_g d X am_m2 84 [v0, v1, v2] (.int (x + y) :: sk) st Q := am_gu.trans rfl
theorem u2_84 {v0 : Value} {v1 : Value} {v2 : Value} : am_g d X am_m2 84 [v0, v1, v2] sk st Q = am_pt 4 87 [v0, v1, v2] sk st (fun pc lc sk st => am_g d X am_m2 pc lc sk st Q) := am_gu.trans rfl
theorem u2_87 {v0 : Value} {v1 : Value} {v2 : Value} : am_g d X am_m2 87 [v0, v1, v2] sk st Q = am_g d X am_m2 107 [v0, v1, v2] sk st Q := am_gu.trans rfl
theorem u2_90 {v1 : Value} {v2 : Value} {x : Nat} : am_g d X am_m2 90 [.ref x, v1, v2] sk st Q = am_g d X am_m2 91 [.ref x, v1, v2] (.ref x :: sk) st Q := am_gu.trans rfl
theorem u2_91 {v0 : Value} {v1 : Value} {v2 : Value} : am_g d X am_m2 91 [v0, v1, v2] sk st Q = am_gt 3 94 [v0, v1, v2] sk st (fun pc lc sk st => am_g d X am_m2 pc lc sk st Q) := am_gu.trans rfl
theorem u2_94 {v0 : Value} {v2 : Value} {x : Int32} : am_g d X am_m2 94 [v0, .int x, v2] sk st Q = am_g d X am_m2 95 [v0, .int x, v2] (.int x :: sk) st Q := am_gu.trans rfl
theorem u2_95 {v0 : Value} {v1 : Value} {x : Int32} : am_g d X am_m2 95 [v0, v1, .int x] sk st Q = am_g d X am_m2 96 [v0, v1, .int x] (.int x :: sk) st Q := am_gu.trans rfl
theorem u2_96 {v0 : Value} {v1 : Value} {v2 : Value} : am_g d X am_m2 96 [v0, v1, v2] sk st Q = am_xs 97 [v0, v1, v2] sk st (fun pc lc sk st => am_g d X am_m2 pc lc sk st Q) := am_gu.trans rfl
theorem u2_97 {v1 : Value} {v2 : Value} {x : Nat} : am_g d X am_m2 97 [.ref x, v1, v2] sk st Q = am_g d X am_m2 98 [.ref x, v1, v2] (.ref x :: sk) st Q := am_gu.trans rfl
theorem u2_98i {v0 : Value} {v1 : Value} {v2 : Value} {x : Int32} : am_g d X am_m2 98 [v0, v1, v2] (.int x :: sk) st Q = am_g d X am_m2 99 [v0, v1, v2] (.int x :: .int x :: sk) st Q := am_gu.trans rfl
theorem u2_98r {v0 : Value} {v1 : Value} {v2 : Value} {x : Nat} : am_g d X am_m2 98 [v0, v1, v2] (.ref x :: sk) st Q = am_g d X am_m2 99 [v0, v1, v2] (.ref x :: .ref x :: sk) st Q := am_gu.trans rfl
theorem u2_99 {v0 : Value} {v1 : Value} {v2 : Value} : am_g d X am_m2 99 [v0, v1, v2] sk st Q = am_gt 5 102 [v0, v1, v2] sk st (fun pc lc sk st => am_g d X am_m2 pc lc sk st Q) := am_gu.trans rfl
theorem u2_102 {v0 : Value} {v1 : Value} {v2 : Value} : am_g d X am_m2 102 [v0, v1, v2] sk st Q = am_g d X am_m2 103 [v0, v1, v2] (.int (am_i 1) :: sk) st Q := am_gu.trans rfl
theorem u2_103 {v0 : Value} {v1 : Value} {v2 : Value} {x : Int32} {y : Int32} : am_g d X am_m2 103 [v0, v1, v2] (.int y :: .int x :: sk) st Q = am_g d X am_m2 104 [v0, v1, v2] (.int (x + y) :: sk) st Q := am_gu.trans rfl
theorem u2_104 {v0 : Value} {v1 : Value} {v2 : Value} : am_g d X am_m2 104 [v0, v1, v2] sk st Q = am_pt 5 107 [v0, v1, v2] sk st (fun pc lc sk st => am_g d X am_m2 pc lc sk st Q) := am_gu.trans rfl
theorem u2_107 {v0 : Value} {v2 : Value} {x : Int32} : am_g d X am_m2 107 [v0, .int x, v2] sk st Q = am_g d X am_m2 110 [am_kc v0, .int (x + am_i 1), v2] sk st Q := am_gu.trans (congrArg (fun l => am_g d X am_m2 110 (List.set l 1 (.int (x + am_i 1))) sk st Q) (kl_1 (l := [.int x, v2])))
theorem u2_110 {v0 : Value} {v1 : Value} {v2 : Value} : am_g d X am_m2 110 [v0, v1, v2] sk st Q = am_g d X am_m2 12 [v0, v1, v2] sk st Q := am_gu.trans rfl
theorem u2_113 {v0 : Value} {v1 : Value} {v2 : Value} : am_g d X am_m2 113 [v0, v1, v2] [] st Q = Q (.inl none) st := am_gu.trans rfl
set_option maxRecDepth 100000 in
theorem of_3 : am_of 3 = some am_m3 := rfl
theorem c3 {z} {P : am_Q} : am_Ca X (d + 1) 3 [.ref z] st P = am_g d X am_m3 0 [.ref z] [] st P := am_cg of_3 (by show 1 ≤ 1; decide)
theorem hd_3 : am_hd am_m3 = [] := rfl
theorem u3_0 {x : Nat} : am_g d X am_m3 0 [.ref x] sk st Q = am_g d X am_m3 1 [.ref x] (.ref x :: sk) st Q := am_gu.trans rfl
theorem u3_1 {v0 : Value} : am_g d X am_m3 1 [v0] sk st Q = am_gt 4 4 [v0] sk st (fun pc lc sk st => am_g d X am_m3 pc lc sk st Q) := am_gu.trans rfl
theorem u3_4 {v0 : Value} {x : Int32} : am_g d X am_m3 4 [v0] (.int x :: sk) st Q = (if decide (¬ x = 0) = true then am_g d X am_m3 18 [v0] sk st Q else am_g d X am_m3 7 [v0] sk st Q) := am_gu.trans rfl
theorem u3_7 {x : Nat} : am_g d X am_m3 7 [.ref x] sk st Q = am_g d X am_m3 8 [.ref x] (.ref x :: sk) st Q := am_gu.trans rfl
theorem u3_8 {v0 : Value} : am_g d X am_m3 8 [v0] sk st Q = am_gt 5 11 [v0] sk st (fun pc lc sk st => am_g d X am_m3 pc lc sk st Q) := am_gu.trans rfl
theorem u3_11 {v0 : Value} {x : Int32} : am_g d X am_m3 11 [v0] (.int x :: sk) st Q = (if decide (¬ x = 0) = true then am_g d X am_m3 18 [v0] sk st Q else am_g d X am_m3 14 [v0] sk st Q) := am_gu.trans rfl
theorem u3_14 {v0 : Value} : am_g d X am_m3 14 [v0] sk st Q = am_g d X am_m3 15 [v0] (.int (am_i 1) :: sk) st Q := am_gu.trans rfl
theorem u3_15 {v0 : Value} : am_g d X am_m3 15 [v0] sk st Q = am_g d X am_m3 19 [v0] sk st Q := am_gu.trans rfl
theorem u3_18 {v0 : Value} : am_g d X am_m3 18 [v0] sk st Q = am_g d X am_m3 19 [v0] (.int (am_i 0) :: sk) st Q := am_gu.trans rfl
theorem u3_19 {v0 : Value} {x : Int32} : am_g d X am_m3 19 [v0] [.int x] st Q = ((x = 0 ∨ x = 1) ∧ Q (.inl (some (.int x))) st) := am_gu.trans rfl
set_option maxRecDepth 100000 in
theorem of_1001 : am_of 1001 = some am_m1001 := rfl
theorem c1001 {z} {P : am_Q} : am_Ca X (d + 1) 1001 [.ref z] st P = am_g d X am_m1001 0 [.ref z] [] st P := am_cg of_1001 (by show 1 ≤ 1; decide)
theorem hd_1001 : am_hd am_m1001 = [] := rfl
theorem u1001_0 {x : Nat} : am_g d X am_m1001 0 [.ref x] sk st Q = am_g d X am_m1001 1 [.ref x] (.ref x :: sk) st Q := am_gu.trans rfl
theorem u1001_1 {v0 : Value} : am_g d X am_m1001 1 [v0] (.ref o :: sk) st Q = (sk.length ≤ 4 ∧ am_g d X am_m1001 4 [v0] sk st Q) := am_gu.trans rfl
theorem u1001_4 {x : Nat} : am_g d X am_m1001 4 [.ref x] sk st Q = am_g d X am_m1001 5 [.ref x] (.ref x :: sk) st Q := am_gu.trans rfl
theorem u1001_5 {v0 : Value} : am_g d X am_m1001 5 [v0] sk st Q = am_g d X am_m1001 7 [v0] (.int (am_i 60) :: sk) st Q := am_gu.trans rfl
theorem u1001_7 {v0 : Value} : am_g d X am_m1001 7 [v0] sk st Q = am_na 1 none 9 [v0] sk st (fun pc lc sk st => am_g d X am_m1001 pc lc sk st Q) := am_gu.trans rfl
theorem u1001_9 {v0 : Value} : am_g d X am_m1001 9 [v0] sk st Q = am_pt 32 12 [v0] sk st (fun pc lc sk st => am_g d X am_m1001 pc lc sk st Q) := am_gu.trans rfl
theorem u1001_12 {x : Nat} : am_g d X am_m1001 12 [.ref x] sk st Q = am_g d X am_m1001 13 [.ref x] (.ref x :: sk) st Q := am_gu.trans rfl
theorem u1001_13 {v0 : Value} : am_g d X am_m1001 13 [v0] sk st Q = am_g d X am_m1001 15 [v0] (.int (am_i 60) :: sk) st Q := am_gu.trans rfl
theorem u1001_15 {v0 : Value} : am_g d X am_m1001 15 [v0] sk st Q = am_na 1 none 17 [v0] sk st (fun pc lc sk st => am_g d X am_m1001 pc lc sk st Q) := am_gu.trans rfl
theorem u1001_17 {v0 : Value} : am_g d X am_m1001 17 [v0] sk st Q = am_pt 33 20 [v0] sk st (fun pc lc sk st => am_g d X am_m1001 pc lc sk st Q) := am_gu.trans rfl
theorem u1001_20 {x : Nat} : am_g d X am_m1001 20 [.ref x] sk st Q = am_g d X am_m1001 21 [.ref x] (.ref x :: sk) st Q := am_gu.trans rfl
theorem u1001_21 {v0 : Value} : am_g d X am_m1001 21 [v0] sk st Q = am_g d X am_m1001 23 [v0] (.int (am_i 60) :: sk) st Q := am_gu.trans rfl
theorem u1001_23 {v0 : Value} : am_g d X am_m1001 23 [v0] sk st Q = am_na 1 none 25 [v0] sk st (fun pc lc sk st => am_g d X am_m1001 pc lc sk st Q) := am_gu.trans rfl
theorem u1001_25 {v0 : Value} : am_g d X am_m1001 25 [v0] sk st Q = am_pt 34 28 [v0] sk st (fun pc lc sk st => am_g d X am_m1001 pc lc sk st Q) := am_gu.trans rfl
theorem u1001_28 {v0 : Value} : am_g d X am_m1001 28 [v0] [] st Q = Q (.inl none) st := am_gu.trans rfl
set_option maxRecDepth 100000 in
theorem of_1002 : am_of 1002 = some am_m1002 := rfl
theorem c1002 {z a0 a1 a2} {P : am_Q} : am_Ca X (d + 1) 1002 [.ref z, .ref a0, .int a1, .int a2] st P = am_g d X am_m1002 0 [.ref z, .ref a0, .int a1, .int a2] [] st P := am_cg of_1002 (by show 4 ≤ 4; decide)
theorem hd_1002 : am_hd am_m1002 = [] := rfl
theorem u1002_0 {v1 : Value} {v2 : Value} {v3 : Value} {x : Nat} : am_g d X am_m1002 0 [.ref x, v1, v2, v3] sk st Q = am_g d X am_m1002 1 [.ref x, v1, v2, v3] (.ref x :: sk) st Q := am_gu.trans rfl
theorem u1002_1 {v0 : Value} {v1 : Value} {v2 : Value} {v3 : Value} : am_g d X am_m1002 1 [v0, v1, v2, v3] sk st Q = am_gt 32 4 [v0, v1, v2, v3] sk st (fun pc lc sk st => am_g d X am_m1002 pc lc sk st Q) := am_gu.trans rfl
theorem u1002_4 {v0 : Value} {v1 : Value} {v2 : Value} {v3 : Value} : am_g d X am_m1002 4 [v0, v1, v2, v3] sk st Q = am_g d X am_m1002 5 [v0, v1, v2, v3] (.int (am_i 0) :: sk) st Q := am_gu.trans rfl
theorem u1002_5 {a0 : Value} {a1 : Value} {v0 : Value} {v1 : Value} {v2 : Value} {v3 : Value} : am_g d X am_m1002 5 [v0, v1, v2, v3] (a1 :: a0 :: sk) st Q = (sk.length ≤ 4 ∧ am_Ca X d 9000 [a0, a1] st (am_af am_m1002 5 [v0, v1, v2, v3] sk (fun pc lc sk st => am_g d X am_m1002 pc lc sk st Q) Q)) := am_gu.trans (propext ⟨fun h => ⟨h.1.2, h.2⟩, fun h => ⟨⟨Nat.le_add_left _ _, h.1⟩, h.2⟩⟩)
theorem u1002_8 {v0 : Value} {v2 : Value} {v3 : Value} {x : Nat} : am_g d X am_m1002 8 [v0, .ref x, v2, v3] sk st Q = am_g d X am_m1002 9 [v0, .ref x, v2, v3] (.ref x :: sk) st Q := am_gu.trans rfl
theorem u1002_9 {v0 : Value} {v1 : Value} {v3 : Value} {x : Int32} : am_g d X am_m1002 9 [v0, v1, .int x, v3] sk st Q = am_g d X am_m1002 10 [v0, v1, .int x, v3] (.int x :: sk) st Q := am_gu.trans rfl
theorem u1002_10 {v1 : Value} {v2 : Value} {v3 : Value} {x : Nat} : am_g d X am_m1002 10 [.ref x, v1, v2, v3] sk st Q = am_g d X am_m1002 11 [.ref x, v1, v2, v3] (.ref x :: sk) st Q := am_gu.trans rfl
theorem u1002_11 {v0 : Value} {v1 : Value} {v2 : Value} {v3 : Value} : am_g d X am_m1002 11 [v0, v1, v2, v3] sk st Q = am_gt 32 14 [v0, v1, v2, v3] sk st (fun pc lc sk st => am_g d X am_m1002 pc lc sk st Q) := am_gu.trans rfl
theorem u1002_14 {a0 : Value} {a1 : Value} {a2 : Value} {v0 : Value} {v1 : Value} {v2 : Value} {v3 : Value} : am_g d X am_m1002 14 [v0, v1, v2, v3] (a2 :: a1 :: a0 :: sk) st Q = (sk.length ≤ 4 ∧ am_Ca X d 1017 [a0, a1, a2] st (am_af am_m1002 14 [v0, v1, v2, v3] sk (fun pc lc sk st => am_g d X am_m1002 pc lc sk st Q) Q)) := am_gu.trans (propext ⟨fun h => ⟨h.1.2, h.2⟩, fun h => ⟨⟨Nat.le_add_left _ _, h.1⟩, h.2⟩⟩)
theorem u1002_17 {v1 : Value} {v2 : Value} {v3 : Value} {x : Nat} : am_g d X am_m1002 17 [.ref x, v1, v2, v3] sk st Q = am_g d X am_m1002 18 [.ref x, v1, v2, v3] (.ref x :: sk) st Q := am_gu.trans rfl
theorem u1002_18 {v0 : Value} {v1 : Value} {v2 : Value} {v3 : Value} : am_g d X am_m1002 18 [v0, v1, v2, v3] sk st Q = am_gt 32 21 [v0, v1, v2, v3] sk st (fun pc lc sk st => am_g d X am_m1002 pc lc sk st Q) := am_gu.trans rfl
theorem u1002_21 {v0 : Value} {v1 : Value} {v2 : Value} {x : Int32} : am_g d X am_m1002 21 [v0, v1, v2, .int x] sk st Q = am_g d X am_m1002 22 [v0, v1, v2, .int x] (.int x :: sk) st Q := am_gu.trans rfl
theorem u1002_22 {a0 : Value} {a1 : Value} {v0 : Value} {v1 : Value} {v2 : Value} {v3 : Value} : am_g d X am_m1002 22 [v0, v1, v2, v3] (a1 :: a0 :: sk) st Q = (sk.length ≤ 4 ∧ am_Ca X d 1015 [a0, a1] st (am_af am_m1002 22 [v0, v1, v2, v3] sk (fun pc lc sk st => am_g d X am_m1002 pc lc sk st Q) Q)) := am_gu.trans (propext ⟨fun h => ⟨h.1.2, h.2⟩, fun h => ⟨⟨Nat.le_add_left _ _, h.1⟩, h.2⟩⟩)
theorem u1002_25 {v0 : Value} {v1 : Value} {v2 : Value} {v3 : Value} {x : Int32} : am_g d X am_m1002 25 [v0, v1, v2, v3] [.int x] st Q = ((x = 0 ∨ x = 1) ∧ Q (.inl (some (.int x))) st) := am_gu.trans rfl
set_option maxRecDepth 100000 in
theorem of_1003 : am_of 1003 = some am_m1003 := rfl
theorem c1003 {z a0 a1} {P : am_Q} : am_Ca X (d + 1) 1003 [.ref z, .ref a0, .int a1] st P = am_g d X am_m1003 0 [.ref z, .ref a0, .int a1, am_u, am_u] [] st P := am_cg of_1003 (by show 3 ≤ 5; decide)
theorem hd_1003 : am_hd am_m1003 = [] := rfl
theorem u1003_0 {v1 : Value} {v2 : Value} {v3 : Value} {v4 : Value} {x : Nat} : am_g d X am_m1003 0 [.ref x, v1, v2, v3, v4] sk st Q = am_g d X am_m1003 1 [.ref x, v1, v2, v3, v4] (.ref x :: sk) st Q := am_gu.trans rfl
theorem u1003_1 {v0 : Value} {v1 : Value} {v2 : Value} {v3 : Value} {v4 : Value} : am_g d X am_m1003 1 [v0, v1, v2, v3, v4] sk st Q = am_gt 32 4 [v0, v1, v2, v3, v4] sk st (fun pc lc sk st => am_g d X am_m1003 pc lc sk st Q) := am_gu.trans rfl
theorem u1003_4 {v0 : Value} {v1 : Value} {v2 : Value} {v3 : Value} {v4 : Value} : am_g d X am_m1003 4 [v0, v1, v2, v3, v4] sk st Q = am_g d X am_m1003 5 [v0, v1, v2, v3, v4] (.int (am_i 0) :: sk) st Q := am_gu.trans rfl
theorem u1003_5 {a0 : Value} {a1 : Value} {v0 : Value} {v1 : Value} {v2 : Value} {v3 : Value} {v4 : Value} : am_g d X am_m1003 5 [v0, v1, v2, v3, v4] (a1 :: a0 :: sk) st Q = (sk.length ≤ 4 ∧ am_Ca X d 9000 [a0, a1] st (am_af am_m1003 5 [v0, v1, v2, v3, v4] sk (fun pc lc sk st => am_g d X am_m1003 pc lc sk st Q) Q)) := am_gu.trans (propext ⟨fun h => ⟨h.1.2, h.2⟩, fun h => ⟨⟨Nat.le_add_left _ _, h.1⟩, h.2⟩⟩)
theorem u1003_8 {v0 : Value} {v2 : Value} {v3 : Value} {v4 : Value} {x : Nat} : am_g d X am_m1003 8 [v0, .ref x, v2, v3, v4] sk st Q = am_g d X am_m1003 9 [v0, .ref x, v2, v3, v4] (.ref x :: sk) st Q := am_gu.trans rfl
theorem u1003_9 {v0 : Value} {v1 : Value} {v3 : Value} {v4 : Value} {x : Int32} : am_g d X am_m1003 9 [v0, v1, .int x, v3, v4] sk st Q = am_g d X am_m1003 10 [v0, v1, .int x, v3, v4] (.int x :: sk) st Q := am_gu.trans rfl
theorem u1003_10 {v1 : Value} {v2 : Value} {v3 : Value} {v4 : Value} {x : Nat} : am_g d X am_m1003 10 [.ref x, v1, v2, v3, v4] sk st Q = am_g d X am_m1003 11 [.ref x, v1, v2, v3, v4] (.ref x :: sk) st Q := am_gu.trans rfl
theorem u1003_11 {v0 : Value} {v1 : Value} {v2 : Value} {v3 : Value} {v4 : Value} : am_g d X am_m1003 11 [v0, v1, v2, v3, v4] sk st Q = am_gt 32 14 [v0, v1, v2, v3, v4] sk st (fun pc lc sk st => am_g d X am_m1003 pc lc sk st Q) := am_gu.trans rfl
theorem u1003_14 {a0 : Value} {a1 : Value} {a2 : Value} {v0 : Value} {v1 : Value} {v2 : Value} {v3 : Value} {v4 : Value} : am_g d X am_m1003 14 [v0, v1, v2, v3, v4] (a2 :: a1 :: a0 :: sk) st Q = (sk.length ≤ 4 ∧ am_Ca X d 1017 [a0, a1, a2] st (am_af am_m1003 14 [v0, v1, v2, v3, v4] sk (fun pc lc sk st => am_g d X am_m1003 pc lc sk st Q) Q)) := am_gu.trans (propext ⟨fun h => ⟨h.1.2, h.2⟩, fun h => ⟨⟨Nat.le_add_left _ _, h.1⟩, h.2⟩⟩)
theorem u1003_17 {v0 : Value} {v1 : Value} {v2 : Value} {v3 : Value} {v4 : Value} : am_g d X am_m1003 17 [v0, v1, v2, v3, v4] sk st Q = am_g d X am_m1003 18 [v0, v1, v2, v3, v4] (.int (am_i 0) :: sk) st Q := am_gu.trans rfl
theorem u1003_18 {v0 : Value} {v1 : Value} {v2 : Value} {v3 : Value} {v4 : Value} {x : Int32} : am_g d X am_m1003 18 [v0, v1, v2, v3, v4] (.int x :: sk) st Q = am_g d X am_m1003 19 [v0, v1, am_kc v2, .int x, v4] sk st Q := am_gu.trans (congrArg (fun l => am_g d X am_m1003 19 (List.set l 3 (.int x)) sk st Q) (kl_3 (l := [v3, v4])))
theorem u1003_19 {v0 : Value} {v1 : Value} {v2 : Value} {v3 : Value} {v4 : Value} : am_g d X am_m1003 19 [v0, v1, v2, v3, v4] sk st Q = am_g d X am_m1003 20 [v0, v1, v2, v3, v4] (.int (am_i 0) :: sk) st Q := am_gu.trans rfl
theorem u1003_20 {v0 : Value} {v1 : Value} {v2 : Value} {v3 : Value} {v4 : Value} {x : Int32} : am_g d X am_m1003 20 [v0, v1, v2, v3, v4] (.int x :: sk) st Q = am_g d X am_m1003 22 [v0, v1, v2, am_kc v3, .int x] sk st Q := am_gu.trans (congrArg (fun l => am_g d X am_m1003 22 (List.set l 4 (.int x)) sk st Q) (kl_4 (l := [v4])))
theorem u1003_22 {v0 : Value} {v1 : Value} {v2 : Value} {v3 : Value} {x : Int32} : am_g d X am_m1003 22 [v0, v1, v2, v3, .int x] sk st Q = am_g d X am_m1003 24 [v0, v1, v2, v3, .int x] (.int x :: sk) st Q := am_gu.trans rfl
theorem u1003_24 {v0 : Value} {v1 : Value} {v2 : Value} {v3 : Value} {v4 : Value} : am_g d X am_m1003 24 [v0, v1, v2, v3, v4] sk st Q = am_g d X am_m1003 26 [v0, v1, v2, v3, v4] (.int (am_i 60) :: sk) st Q := am_gu.trans rfl
theorem u1003_26 {v0 : Value} {v1 : Value} {v2 : Value} {v3 : Value} {v4 : Value} {x : Int32} {y : Int32} : am_g d X am_m1003 26 [v0, v1, v2, v3, v4] (.int y :: .int x :: sk) st Q = (if decide (y ≤ x) = true then am_g d X am_m1003 50 [v0, v1, v2, v3, v4] sk st Q else am_g d X am_m1003 29 [v0, v1, v2, v3, v4] sk st Q) := am_gu.trans rfl
theorem u1003_29 {v1 : Value} {v2 : Value} {v3 : Value} {v4 : Value} {x : Nat} : am_g d X am_m1003 29 [.ref x, v1, v2, v3, v4] sk st Q = am_g d X am_m1003 30 [.ref x, v1, v2, v3, v4] (.ref x :: sk) st Q := am_gu.trans rfl
theorem u1003_30 {v0 : Value} {v1 : Value} {v2 : Value} {v3 : Value} {v4 : Value} : am_g d X am_m1003 30 [v0, v1, v2, v3, v4] sk st Q = am_gt 32 33 [v0, v1, v2, v3, v4] sk st (fun pc lc sk st => am_g d X am_m1003 pc lc sk st Q) := am_gu.trans rfl
theorem u1003_33 {v0 : Value} {v1 : Value} {v2 : Value} {v3 : Value} {x : Int32} : am_g d X am_m1003 33 [v0, v1, v2, v3, .int x] sk st Q = am_g d X am_m1003 35 [v0, v1, v2, v3, .int x] (.int x :: sk) st Q := am_gu.trans rfl
theorem u1003_35 {a0 : Value} {a1 : Value} {v0 : Value} {v1 : Value} {v2 : Value} {v3 : Value} {v4 : Value} : am_g d X am_m1003 35 [v0, v1, v2, v3, v4] (a1 :: a0 :: sk) st Q = (sk.length ≤ 4 ∧ am_Ca X d 1015 [a0, a1] st (am_af am_m1003 35 [v0, v1, v2, v3, v4] sk (fun pc lc sk st => am_g d X am_m1003 pc lc sk st Q) Q)) := am_gu.trans (propext ⟨fun h => ⟨h.1.2, h.2⟩, fun h => ⟨⟨Nat.le_add_left _ _, h.1⟩, h.2⟩⟩)
theorem u1003_38 {v0 : Value} {v1 : Value} {v2 : Value} {v3 : Value} {v4 : Value} {x : Int32} : am_g d X am_m1003 38 [v0, v1, v2, v3, v4] (.int x :: sk) st Q = (if decide (x = 0) = true then am_g d X am_m1003 44 [v0, v1, v2, v3, v4] sk st Q else am_g d X am_m1003 41 [v0, v1, v2, v3, v4] sk st Q) := am_gu.trans rfl
theorem u1003_41 {v0 : Value} {v1 : Value} {v2 : Value} {v4 : Value} {x : Int32} : am_g d X am_m1003 41 [v0, v1, v2, .int x, v4] sk st Q = am_g d X am_m1003 44 [v0, v1, am_kc v2, .int (x + am_i 1), v4] sk st Q := am_gu.trans (congrArg (fun l => am_g d X am_m1003 44 (List.set l 3 (.int (x + am_i 1))) sk st Q) (kl_3 (l := [.int x, v4])))
theorem u1003_44 {v0 : Value} {v1 : Value} {v2 : Value} {v3 : Value} {x : Int32} : am_g d X am_m1003 44 [v0, v1, v2, v3, .int x] sk st Q = am_g d X am_m1003 47 [v0, v1, v2, am_kc v3, .int (x + am_i 1)] sk st Q := am_gu.trans (congrArg (fun l => am_g d X am_m1003 47 (List.set l 4 (.int (x + am_i 1))) sk st Q) (kl_4 (l := [.int x])))
theorem u1003_47 {v0 : Value} {v1 : Value} {v2 : Value} {v3 : Value} {v4 : Value} : am_g d X am_m1003 47 [v0, v1, v2, v3, v4] sk st Q = am_g d X am_m1003 22 [v0, v1, v2, v3, v4] sk st Q := am_gu.trans rfl
theorem u1003_50 {v0 : Value} {v1 : Value} {v2 : Value} {v4 : Value} {x : Int32} : am_g d X am_m1003 50 [v0, v1, v2, .int x, v4] sk st Q = am_g d X am_m1003 51 [v0, v1, v2, .int x, v4] (.int x :: sk) st Q := am_gu.trans rfl
theorem u1003_51 {v0 : Value} {v1 : Value} {v2 : Value} {v3 : Value} {v4 : Value} {x : Int32} : am_g d X am_m1003 51 [v0, v1, v2, v3, v4] [.int x] st Q = Q (.inl (some (.int x))) st := am_gu.trans rfl
set_option maxRecDepth 100000 in
theorem of_1004 : am_of 1004 = some am_m1004 := rfl
theorem c1004 {z a0 a1 a2} {P : am_Q} : am_Ca X (d + 1) 1004 [.ref z, .ref a0, .int a1, .int a2] st P = am_g d X am_m1004 0 [.ref z, .ref a0, .int a1, .int a2, am_u, am_u] [] st P := am_cg of_1004 (by show 4 ≤ 6; decide)
theorem hd_1004 : am_hd am_m1004 = [] := rfl
theorem u1004_0 {v1 : Value} {v2 : Value} {v3 : Value} {v4 : Value} {v5 : Value} {x : Nat} : am_g d X am_m1004 0 [.ref x, v1, v2, v3, v4, v5] sk st Q = am_g d X am_m1004 1 [.ref x, v1, v2, v3, v4, v5] (.ref x :: sk) st Q := am_gu.trans rfl
theorem u1004_1 {v0 : Value} {v1 : Value} {v2 : Value} {v3 : Value} {v4 : Value} {v5 : Value} : am_g d X am_m1004 1 [v0, v1, v2, v3, v4, v5] sk st Q = am_gt 32 4 [v0, v1, v2, v3, v4, v5] sk st (fun pc lc sk st => am_g d X am_m1004 pc lc sk st Q) := am_gu.trans rfl
theorem u1004_4 {v0 : Value} {v1 : Value} {v2 : Value} {v3 : Value} {v4 : Value} {v5 : Value} : am_g d X am_m1004 4 [v0, v1, v2, v3, v4, v5] sk st Q = am_g d X am_m1004 5 [v0, v1, v2, v3, v4, v5] (.int (am_i 0) :: sk) st Q := am_gu.trans rfl
theorem u1004_5 {a0 : Value} {a1 : Value} {v0 : Value} {v1 : Value} {v2 : Value} {v3 : Value} {v4 : Value} {v5 : Value} : am_g d X am_m1004 5 [v0, v1, v2, v3, v4, v5] (a1 :: a0 :: sk) st Q = (sk.length ≤ 4 ∧ am_Ca X d 9000 [a0, a1] st (am_af am_m1004 5 [v0, v1, v2, v3, v4, v5] sk (fun pc lc sk st => am_g d X am_m1004 pc lc sk st Q) Q)) := am_gu.trans (propext ⟨fun h => ⟨h.1.2, h.2⟩, fun h => ⟨⟨Nat.le_add_left _ _, h.1⟩, h.2⟩⟩)
theorem u1004_8 {v0 : Value} {v2 : Value} {v3 : Value} {v4 : Value} {v5 : Value} {x : Nat} : am_g d X am_m1004 8 [v0, .ref x, v2, v3, v4, v5] sk st Q = am_g d X am_m1004 9 [v0, .ref x, v2, v3, v4, v5] (.ref x :: sk) st Q := am_gu.trans rfl
theorem u1004_9 {v0 : Value} {v1 : Value} {v3 : Value} {v4 : Value} {v5 : Value} {x : Int32} : am_g d X am_m1004 9 [v0, v1, .int x, v3, v4, v5] sk st Q = am_g d X am_m1004 10 [v0, v1, .int x, v3, v4, v5] (.int x :: sk) st Q := am_gu.trans rfl
theorem u1004_10 {v1 : Value} {v2 : Value} {v3 : Value} {v4 : Value} {v5 : Value} {x : Nat} : am_g d X am_m1004 10 [.ref x, v1, v2, v3, v4, v5] sk st Q = am_g d X am_m1004 11 [.ref x, v1, v2, v3, v4, v5] (.ref x :: sk) st Q := am_gu.trans rfl
theorem u1004_11 {v0 : Value} {v1 : Value} {v2 : Value} {v3 : Value} {v4 : Value} {v5 : Value} : am_g d X am_m1004 11 [v0, v1, v2, v3, v4, v5] sk st Q = am_gt 32 14 [v0, v1, v2, v3, v4, v5] sk st (fun pc lc sk st => am_g d X am_m1004 pc lc sk st Q) := am_gu.trans rfl
theorem u1004_14 {a0 : Value} {a1 : Value} {a2 : Value} {v0 : Value} {v1 : Value} {v2 : Value} {v3 : Value} {v4 : Value} {v5 : Value} : am_g d X am_m1004 14 [v0, v1, v2, v3, v4, v5] (a2 :: a1 :: a0 :: sk) st Q = (sk.length ≤ 4 ∧ am_Ca X d 1017 [a0, a1, a2] st (am_af am_m1004 14 [v0, v1, v2, v3, v4, v5] sk (fun pc lc sk st => am_g d X am_m1004 pc lc sk st Q) Q)) := am_gu.trans (propext ⟨fun h => ⟨h.1.2, h.2⟩, fun h => ⟨⟨Nat.le_add_left _ _, h.1⟩, h.2⟩⟩)
theorem u1004_17 {v0 : Value} {v1 : Value} {v2 : Value} {v3 : Value} {v4 : Value} {v5 : Value} : am_g d X am_m1004 17 [v0, v1, v2, v3, v4, v5] sk st Q = am_g d X am_m1004 18 [v0, v1, v2, v3, v4, v5] (.int (am_i 0) :: sk) st Q := am_gu.trans rfl
theorem u1004_18 {v0 : Value} {v1 : Value} {v2 : Value} {v3 : Value} {v4 : Value} {v5 : Value} {x : Int32} : am_g d X am_m1004 18 [v0, v1, v2, v3, v4, v5] (.int x :: sk) st Q = am_g d X am_m1004 20 [v0, v1, v2, am_kc v3, .int x, v5] sk st Q := am_gu.trans (congrArg (fun l => am_g d X am_m1004 20 (List.set l 4 (.int x)) sk st Q) (kl_4 (l := [v4, v5])))
theorem u1004_20 {v0 : Value} {v1 : Value} {v2 : Value} {v3 : Value} {v4 : Value} {v5 : Value} : am_g d X am_m1004 20 [v0, v1, v2, v3, v4, v5] sk st Q = am_g d X am_m1004 22 [v0, v1, v2, v3, v4, v5] (.int (am_i 59) :: sk) st Q := am_gu.trans rfl
theorem u1004_22 {v0 : Value} {v1 : Value} {v2 : Value} {v3 : Value} {v4 : Value} {v5 : Value} {x : Int32} : am_g d X am_m1004 22 [v0, v1, v2, v3, v4, v5] (.int x :: sk) st Q = am_g d X am_m1004 24 [v0, v1, v2, v3, am_kc v4, .int x] sk st Q := am_gu.trans (congrArg (fun l => am_g d X am_m1004 24 (List.set l 5 (.int x)) sk st Q) (kl_5 (l := [v5])))
theorem u1004_24 {v0 : Value} {v1 : Value} {v2 : Value} {v3 : Value} {v4 : Value} {x : Int32} : am_g d X am_m1004 24 [v0, v1, v2, v3, v4, .int x] sk st Q = am_g d X am_m1004 26 [v0, v1, v2, v3, v4, .int x] (.int x :: sk) st Q := am_gu.trans rfl
theorem u1004_26 {v0 : Value} {v1 : Value} {v2 : Value} {v3 : Value} {v4 : Value} {v5 : Value} {x : Int32} : am_g d X am_m1004 26 [v0, v1, v2, v3, v4, v5] (.int x :: sk) st Q = (if decide (x < 0) = true then am_g d X am_m1004 59 [v0, v1, v2, v3, v4, v5] sk st Q else am_g d X am_m1004 29 [v0, v1, v2, v3, v4, v5] sk st Q) := am_gu.trans rfl
theorem u1004_29 {v1 : Value} {v2 : Value} {v3 : Value} {v4 : Value} {v5 : Value} {x : Nat} : am_g d X am_m1004 29 [.ref x, v1, v2, v3, v4, v5] sk st Q = am_g d X am_m1004 30 [.ref x, v1, v2, v3, v4, v5] (.ref x :: sk) st Q := am_gu.trans rfl
theorem u1004_30 {v0 : Value} {v1 : Value} {v2 : Value} {v3 : Value} {v4 : Value} {v5 : Value} : am_g d X am_m1004 30 [v0, v1, v2, v3, v4, v5] sk st Q = am_gt 32 33 [v0, v1, v2, v3, v4, v5] sk st (fun pc lc sk st => am_g d X am_m1004 pc lc sk st Q) := am_gu.trans rfl
theorem u1004_33 {v0 : Value} {v1 : Value} {v2 : Value} {v3 : Value} {v4 : Value} {x : Int32} : am_g d X am_m1004 33 [v0, v1, v2, v3, v4, .int x] sk st Q = am_g d X am_m1004 35 [v0, v1, v2, v3, v4, .int x] (.int x :: sk) st Q := am_gu.trans rfl
theorem u1004_35 {a0 : Value} {a1 : Value} {v0 : Value} {v1 : Value} {v2 : Value} {v3 : Value} {v4 : Value} {v5 : Value} : am_g d X am_m1004 35 [v0, v1, v2, v3, v4, v5] (a1 :: a0 :: sk) st Q = (sk.length ≤ 4 ∧ am_Ca X d 1015 [a0, a1] st (am_af am_m1004 35 [v0, v1, v2, v3, v4, v5] sk (fun pc lc sk st => am_g d X am_m1004 pc lc sk st Q) Q)) := am_gu.trans (propext ⟨fun h => ⟨h.1.2, h.2⟩, fun h => ⟨⟨Nat.le_add_left _ _, h.1⟩, h.2⟩⟩)
theorem u1004_38 {v0 : Value} {v1 : Value} {v2 : Value} {v3 : Value} {v4 : Value} {v5 : Value} {x : Int32} : am_g d X am_m1004 38 [v0, v1, v2, v3, v4, v5] (.int x :: sk) st Q = (if decide (x = 0) = true then am_g d X am_m1004 53 [v0, v1, v2, v3, v4, v5] sk st Q else am_g d X am_m1004 41 [v0, v1, v2, v3, v4, v5] sk st Q) := am_gu.trans rfl
theorem u1004_41 {v0 : Value} {v1 : Value} {v2 : Value} {v3 : Value} {v5 : Value} {x : Int32} : am_g d X am_m1004 41 [v0, v1, v2, v3, .int x, v5] sk st Q = am_g d X am_m1004 43 [v0, v1, v2, v3, .int x, v5] (.int x :: sk) st Q := am_gu.trans rfl
theorem u1004_43 {v0 : Value} {v1 : Value} {v2 : Value} {v4 : Value} {v5 : Value} {x : Int32} : am_g d X am_m1004 43 [v0, v1, v2, .int x, v4, v5] sk st Q = am_g d X am_m1004 44 [v0, v1, v2, .int x, v4, v5] (.int x :: sk) st Q := am_gu.trans rfl
theorem u1004_44 {v0 : Value} {v1 : Value} {v2 : Value} {v3 : Value} {v4 : Value} {v5 : Value} {x : Int32} {y : Int32} : am_g d X am_m1004 44 [v0, v1, v2, v3, v4, v5] (.int y :: .int x :: sk) st Q = (if decide (¬ x = y) = true then am_g d X am_m1004 50 [v0, v1, v2, v3, v4, v5] sk st Q else am_g d X am_m1004 47 [v0, v1, v2, v3, v4, v5] sk st Q) := am_gu.trans rfl
theorem u1004_47 {v0 : Value} {v1 : Value} {v2 : Value} {v3 : Value} {v4 : Value} {x : Int32} : am_g d X am_m1004 47 [v0, v1, v2, v3, v4, .int x] sk st Q = am_g d X am_m1004 49 [v0, v1, v2, v3, v4, .int x] (.int x :: sk) st Q := am_gu.trans rfl
theorem u1004_49 {v0 : Value} {v1 : Value} {v2 : Value} {v3 : Value} {v4 : Value} {v5 : Value} {x : Int32} : am_g d X am_m1004 49 [v0, v1, v2, v3, v4, v5] [.int x] st Q = Q (.inl (some (.int x))) st := am_gu.trans rfl
theorem u1004_50 {v0 : Value} {v1 : Value} {v2 : Value} {v3 : Value} {v5 : Value} {x : Int32} : am_g d X am_m1004 50 [v0, v1, v2, v3, .int x, v5] sk st Q = am_g d X am_m1004 53 [v0, v1, v2, am_kc v3, .int (x + am_i 1), v5] sk st Q := am_gu.trans (congrArg (fun l => am_g d X am_m1004 53 (List.set l 4 (.int (x + am_i 1))) sk st Q) (kl_4 (l := [.int x, v5])))
theorem u1004_53 {v0 : Value} {v1 : Value} {v2 : Value} {v3 : Value} {v4 : Value} {x : Int32} : am_g d X am_m1004 53 [v0, v1, v2, v3, v4, .int x] sk st Q = am_g d X am_m1004 56 [v0, v1, v2, v3, am_kc v4, .int (x + am_i (-1))] sk st Q := am_gu.trans (congrArg (fun l => am_g d X am_m1004 56 (List.set l 5 (.int (x + am_i (-1)))) sk st Q) (kl_5 (l := [.int x])))
theorem u1004_56 {v0 : Value} {v1 : Value} {v2 : Value} {v3 : Value} {v4 : Value} {v5 : Value} : am_g d X am_m1004 56 [v0, v1, v2, v3, v4, v5] sk st Q = am_g d X am_m1004 24 [v0, v1, v2, v3, v4, v5] sk st Q := am_gu.trans rfl
theorem u1004_59 {v0 : Value} {v1 : Value} {v2 : Value} {v3 : Value} {v4 : Value} {v5 : Value} : am_g d X am_m1004 59 [v0, v1, v2, v3, v4, v5] sk st Q = am_g d X am_m1004 60 [v0, v1, v2, v3, v4, v5] (.int (am_i (-1)) :: sk) st Q := am_gu.trans rfl
theorem u1004_60 {v0 : Value} {v1 : Value} {v2 : Value} {v3 : Value} {v4 : Value} {v5 : Value} {x : Int32} : am_g d X am_m1004 60 [v0, v1, v2, v3, v4, v5] [.int x] st Q = Q (.inl (some (.int x))) st := am_gu.trans rfl
set_option maxRecDepth 100000 in
theorem of_1005 : am_of 1005 = some am_m1005 := rfl
theorem c1005 {z a0 a1 a2 a3} {P : am_Q} : am_Ca X (d + 1) 1005 [.ref z, .ref a0, .int a1, .int a2, .int a3] st P = am_g d X am_m1005 0 [.ref z, .ref a0, .int a1, .int a2, .int a3, am_u] [] st P := am_cg of_1005 (by show 5 ≤ 6; decide)
theorem hd_1005 : am_hd am_m1005 = [] := rfl
theorem u1005_0 {v1 : Value} {v2 : Value} {v3 : Value} {v4 : Value} {v5 : Value} {x : Nat} : am_g d X am_m1005 0 [.ref x, v1, v2, v3, v4, v5] sk st Q = am_g d X am_m1005 1 [.ref x, v1, v2, v3, v4, v5] (.ref x :: sk) st Q := am_gu.trans rfl
theorem u1005_1 {v0 : Value} {v1 : Value} {v2 : Value} {v3 : Value} {v4 : Value} {v5 : Value} : am_g d X am_m1005 1 [v0, v1, v2, v3, v4, v5] sk st Q = am_gt 32 4 [v0, v1, v2, v3, v4, v5] sk st (fun pc lc sk st => am_g d X am_m1005 pc lc sk st Q) := am_gu.trans rfl
theorem u1005_4 {v0 : Value} {v1 : Value} {v2 : Value} {v3 : Value} {v4 : Value} {v5 : Value} : am_g d X am_m1005 4 [v0, v1, v2, v3, v4, v5] sk st Q = am_g d X am_m1005 5 [v0, v1, v2, v3, v4, v5] (.int (am_i 0) :: sk) st Q := am_gu.trans rfl
theorem u1005_5 {a0 : Value} {a1 : Value} {v0 : Value} {v1 : Value} {v2 : Value} {v3 : Value} {v4 : Value} {v5 : Value} : am_g d X am_m1005 5 [v0, v1, v2, v3, v4, v5] (a1 :: a0 :: sk) st Q = (sk.length ≤ 4 ∧ am_Ca X d 9000 [a0, a1] st (am_af am_m1005 5 [v0, v1, v2, v3, v4, v5] sk (fun pc lc sk st => am_g d X am_m1005 pc lc sk st Q) Q)) := am_gu.trans (propext ⟨fun h => ⟨h.1.2, h.2⟩, fun h => ⟨⟨Nat.le_add_left _ _, h.1⟩, h.2⟩⟩)
theorem u1005_8 {v0 : Value} {v2 : Value} {v3 : Value} {v4 : Value} {v5 : Value} {x : Nat} : am_g d X am_m1005 8 [v0, .ref x, v2, v3, v4, v5] sk st Q = am_g d X am_m1005 9 [v0, .ref x, v2, v3, v4, v5] (.ref x :: sk) st Q := am_gu.trans rfl
theorem u1005_9 {v0 : Value} {v1 : Value} {v3 : Value} {v4 : Value} {v5 : Value} {x : Int32} : am_g d X am_m1005 9 [v0, v1, .int x, v3, v4, v5] sk st Q = am_g d X am_m1005 10 [v0, v1, .int x, v3, v4, v5] (.int x :: sk) st Q := am_gu.trans rfl
theorem u1005_10 {v1 : Value} {v2 : Value} {v3 : Value} {v4 : Value} {v5 : Value} {x : Nat} : am_g d X am_m1005 10 [.ref x, v1, v2, v3, v4, v5] sk st Q = am_g d X am_m1005 11 [.ref x, v1, v2, v3, v4, v5] (.ref x :: sk) st Q := am_gu.trans rfl
theorem u1005_11 {v0 : Value} {v1 : Value} {v2 : Value} {v3 : Value} {v4 : Value} {v5 : Value} : am_g d X am_m1005 11 [v0, v1, v2, v3, v4, v5] sk st Q = am_gt 32 14 [v0, v1, v2, v3, v4, v5] sk st (fun pc lc sk st => am_g d X am_m1005 pc lc sk st Q) := am_gu.trans rfl
theorem u1005_14 {a0 : Value} {a1 : Value} {a2 : Value} {v0 : Value} {v1 : Value} {v2 : Value} {v3 : Value} {v4 : Value} {v5 : Value} : am_g d X am_m1005 14 [v0, v1, v2, v3, v4, v5] (a2 :: a1 :: a0 :: sk) st Q = (sk.length ≤ 4 ∧ am_Ca X d 1017 [a0, a1, a2] st (am_af am_m1005 14 [v0, v1, v2, v3, v4, v5] sk (fun pc lc sk st => am_g d X am_m1005 pc lc sk st Q) Q)) := am_gu.trans (propext ⟨fun h => ⟨h.1.2, h.2⟩, fun h => ⟨⟨Nat.le_add_left _ _, h.1⟩, h.2⟩⟩)
theorem u1005_17 {v0 : Value} {v1 : Value} {v2 : Value} {v3 : Value} {v4 : Value} {v5 : Value} : am_g d X am_m1005 17 [v0, v1, v2, v3, v4, v5] sk st Q = am_g d X am_m1005 18 [v0, v1, v2, v3, v4, v5] (.int (am_i 0) :: sk) st Q := am_gu.trans rfl
theorem u1005_18 {v0 : Value} {v1 : Value} {v2 : Value} {v3 : Value} {v4 : Value} {v5 : Value} {x : Int32} : am_g d X am_m1005 18 [v0, v1, v2, v3, v4, v5] (.int x :: sk) st Q = am_g d X am_m1005 20 [v0, v1, v2, v3, am_kc v4, .int x] sk st Q := am_gu.trans (congrArg (fun l => am_g d X am_m1005 20 (List.set l 5 (.int x)) sk st Q) (kl_5 (l := [v5])))
theorem u1005_20 {v0 : Value} {v1 : Value} {v2 : Value} {v3 : Value} {v4 : Value} {x : Int32} : am_g d X am_m1005 20 [v0, v1, v2, v3, v4, .int x] sk st Q = am_g d X am_m1005 22 [v0, v1, v2, v3, v4, .int x] (.int x :: sk) st Q := am_gu.trans rfl
theorem u1005_22 {v0 : Value} {v1 : Value} {v2 : Value} {v3 : Value} {v4 : Value} {v5 : Value} : am_g d X am_m1005 22 [v0, v1, v2, v3, v4, v5] sk st Q = am_g d X am_m1005 24 [v0, v1, v2, v3, v4, v5] (.int (am_i 60) :: sk) st Q := am_gu.trans rfl
theorem u1005_24 {v0 : Value} {v1 : Value} {v2 : Value} {v3 : Value} {v4 : Value} {v5 : Value} {x : Int32} {y : Int32} : am_g d X am_m1005 24 [v0, v1, v2, v3, v4, v5] (.int y :: .int x :: sk) st Q = (if decide (y ≤ x) = true then am_g d X am_m1005 60 [v0, v1, v2, v3, v4, v5] sk st Q else am_g d X am_m1005 27 [v0, v1, v2, v3, v4, v5] sk st Q) := am_gu.trans rfl
theorem u1005_27 {v1 : Value} {v2 : Value} {v3 : Value} {v4 : Value} {v5 : Value} {x : Nat} : am_g d X am_m1005 27 [.ref x, v1, v2, v3, v4, v5] sk st Q = am_g d X am_m1005 28 [.ref x, v1, v2, v3, v4, v5] (.ref x :: sk) st Q := am_gu.trans rfl
theorem u1005_28 {v0 : Value} {v1 : Value} {v2 : Value} {v3 : Value} {v4 : Value} {v5 : Value} : am_g d X am_m1005 28 [v0, v1, v2, v3, v4, v5] sk st Q = am_gt 32 31 [v0, v1, v2, v3, v4, v5] sk st (fun pc lc sk st => am_g d X am_m1005 pc lc sk st Q) := am_gu.trans rfl
theorem u1005_31 {v0 : Value} {v1 : Value} {v2 : Value} {v3 : Value} {v4 : Value} {x : Int32} : am_g d X am_m1005 31 [v0, v1, v2, v3, v4, .int x] sk st Q = am_g d X am_m1005 33 [v0, v1, v2, v3, v4, .int x] (.int x :: sk) st Q := am_gu.trans rfl
theorem u1005_33 {a0 : Value} {a1 : Value} {v0 : Value} {v1 : Value} {v2 : Value} {v3 : Value} {v4 : Value} {v5 : Value} : am_g d X am_m1005 33 [v0, v1, v2, v3, v4, v5] (a1 :: a0 :: sk) st Q = (sk.length ≤ 4 ∧ am_Ca X d 1015 [a0, a1] st (am_af am_m1005 33 [v0, v1, v2, v3, v4, v5] sk (fun pc lc sk st => am_g d X am_m1005 pc lc sk st Q) Q)) := am_gu.trans (propext ⟨fun h => ⟨h.1.2, h.2⟩, fun h => ⟨⟨Nat.le_add_left _ _, h.1⟩, h.2⟩⟩)
theorem u1005_36 {v0 : Value} {v1 : Value} {v2 : Value} {v3 : Value} {v4 : Value} {v5 : Value} {x : Int32} : am_g d X am_m1005 36 [v0, v1, v2, v3, v4, v5] (.int x :: sk) st Q = (if decide (x = 0) = true then am_g d X am_m1005 54 [v0, v1, v2, v3, v4, v5] sk st Q else am_g d X am_m1005 39 [v0, v1, v2, v3, v4, v5] sk st Q) := am_gu.trans rfl
theorem u1005_39 {v0 : Value} {v2 : Value} {v3 : Value} {v4 : Value} {v5 : Value} {x : Nat} : am_g d X am_m1005 39 [v0, .ref x, v2, v3, v4, v5] sk st Q = am_g d X am_m1005 40 [v0, .ref x, v2, v3, v4, v5] (.ref x :: sk) st Q := am_gu.trans rfl
theorem u1005_40 {v0 : Value} {v1 : Value} {v2 : Value} {v3 : Value} {v4 : Value} {x : Int32} : am_g d X am_m1005 40 [v0, v1, v2, v3, v4, .int x] sk st Q = am_g d X am_m1005 42 [v0, v1, v2, v3, v4, .int x] (.int x :: sk) st Q := am_gu.trans rfl
theorem u1005_42 {v0 : Value} {v1 : Value} {v2 : Value} {v4 : Value} {v5 : Value} {x : Int32} : am_g d X am_m1005 42 [v0, v1, v2, .int x, v4, v5] sk st Q = am_g d X am_m1005 43 [v0, v1, v2, .int x, v4, v5] (.int x :: sk) st Q := am_gu.trans rfl
theorem u1005_43 {a0 : Value} {a1 : Value} {v0 : Value} {v1 : Value} {v2 : Value} {v3 : Value} {v4 : Value} {v5 : Value} : am_g d X am_m1005 43 [v0, v1, v2, v3, v4, v5] (a1 :: a0 :: .ref o :: sk) st Q = ((am_ob st o 5 ∧ sk.length ≤ 5) ∧ am_Ca X d 5007 [.ref o, a0, a1] st (am_af am_m1005 43 [v0, v1, v2, v3, v4, v5] sk (fun pc lc sk st => am_g d X am_m1005 pc lc sk st Q) Q)) := am_gu.trans rfl
theorem u1005_46 {v0 : Value} {v1 : Value} {v2 : Value} {v3 : Value} {v5 : Value} {x : Int32} : am_g d X am_m1005 46 [v0, v1, v2, v3, .int x, v5] sk st Q = am_g d X am_m1005 48 [v0, v1, v2, v3, .int x, v5] (.int x :: sk) st Q := am_gu.trans rfl
theorem u1005_48 {v0 : Value} {v1 : Value} {v2 : Value} {v3 : Value} {v4 : Value} {v5 : Value} {x : Int32} {y : Int32} : am_g d X am_m1005 48 [v0, v1, v2, v3, v4, v5] (.int y :: .int x :: sk) st Q = (if decide (¬ x = y) = true then am_g d X am_m1005 54 [v0, v1, v2, v3, v4, v5] sk st Q else am_g d X am_m1005 51 [v0, v1, v2, v3, v4, v5] sk st Q) := am_gu.trans rfl
theorem u1005_51 {v0 : Value} {v1 : Value} {v2 : Value} {v3 : Value} {v4 : Value} {x : Int32} : am_g d X am_m1005 51 [v0, v1, v2, v3, v4, .int x] sk st Q = am_g d X am_m1005 53 [v0, v1, v2, v3, v4, .int x] (.int x :: sk) st Q := am_gu.trans rfl
theorem u1005_53 {v0 : Value} {v1 : Value} {v2 : Value} {v3 : Value} {v4 : Value} {v5 : Value} {x : Int32} : am_g d X am_m1005 53 [v0, v1, v2, v3, v4, v5] [.int x] st Q = Q (.inl (some (.int x))) st := am_gu.trans rfl
theorem u1005_54 {v0 : Value} {v1 : Value} {v2 : Value} {v3 : Value} {v4 : Value} {x : Int32} : am_g d X am_m1005 54 [v0, v1, v2, v3, v4, .int x] sk st Q = am_g d X am_m1005 57 [v0, v1, v2, v3, am_kc v4, .int (x + am_i 1)] sk st Q := am_gu.trans (congrArg (fun l => am_g d X am_m1005 57 (List.set l 5 (.int (x + am_i 1))) sk st Q) (kl_5 (l := [.int x])))
theorem u1005_57 {v0 : Value} {v1 : Value} {v2 : Value} {v3 : Value} {v4 : Value} {v5 : Value} : am_g d X am_m1005 57 [v0, v1, v2, v3, v4, v5] sk st Q = am_g d X am_m1005 20 [v0, v1, v2, v3, v4, v5] sk st Q := am_gu.trans rfl
theorem u1005_60 {v0 : Value} {v1 : Value} {v2 : Value} {v3 : Value} {v4 : Value} {v5 : Value} : am_g d X am_m1005 60 [v0, v1, v2, v3, v4, v5] sk st Q = am_g d X am_m1005 61 [v0, v1, v2, v3, v4, v5] (.int (am_i (-1)) :: sk) st Q := am_gu.trans rfl
theorem u1005_61 {v0 : Value} {v1 : Value} {v2 : Value} {v3 : Value} {v4 : Value} {v5 : Value} {x : Int32} : am_g d X am_m1005 61 [v0, v1, v2, v3, v4, v5] [.int x] st Q = Q (.inl (some (.int x))) st := am_gu.trans rfl
set_option maxRecDepth 100000 in
theorem of_1006 : am_of 1006 = some am_m1006 := rfl
theorem c1006 {z a0} {P : am_Q} : am_Ca X (d + 1) 1006 [.ref z, .ref a0] st P = am_g d X am_m1006 0 [.ref z, .ref a0, am_u, am_u] [] st P := am_cg of_1006 (by show 2 ≤ 4; decide)
theorem hd_1006 : am_hd am_m1006 = [] := rfl
theorem u1006_0 {v1 : Value} {v2 : Value} {v3 : Value} {x : Nat} : am_g d X am_m1006 0 [.ref x, v1, v2, v3] sk st Q = am_g d X am_m1006 1 [.ref x, v1, v2, v3] (.ref x :: sk) st Q := am_gu.trans rfl
theorem u1006_1 {v0 : Value} {v1 : Value} {v2 : Value} {v3 : Value} : am_g d X am_m1006 1 [v0, v1, v2, v3] sk st Q = am_gt 32 4 [v0, v1, v2, v3] sk st (fun pc lc sk st => am_g d X am_m1006 pc lc sk st Q) := am_gu.trans rfl
theorem u1006_4 {v0 : Value} {v1 : Value} {v2 : Value} {v3 : Value} : am_g d X am_m1006 4 [v0, v1, v2, v3] sk st Q = am_g d X am_m1006 5 [v0, v1, v2, v3] (.int (am_i 0) :: sk) st Q := am_gu.trans rfl
theorem u1006_5 {a0 : Value} {a1 : Value} {v0 : Value} {v1 : Value} {v2 : Value} {v3 : Value} : am_g d X am_m1006 5 [v0, v1, v2, v3] (a1 :: a0 :: sk) st Q = (sk.length ≤ 4 ∧ am_Ca X d 9000 [a0, a1] st (am_af am_m1006 5 [v0, v1, v2, v3] sk (fun pc lc sk st => am_g d X am_m1006 pc lc sk st Q) Q)) := am_gu.trans (propext ⟨fun h => ⟨h.1.2, h.2⟩, fun h => ⟨⟨Nat.le_add_left _ _, h.1⟩, h.2⟩⟩)
theorem u1006_8 {v0 : Value} {v1 : Value} {v2 : Value} {v3 : Value} : am_g d X am_m1006 8 [v0, v1, v2, v3] sk st Q = am_g d X am_m1006 9 [v0, v1, v2, v3] (.int (am_i 0) :: sk) st Q := am_gu.trans rfl
theorem u1006_9 {v0 : Value} {v1 : Value} {v2 : Value} {v3 : Value} {x : Int32} : am_g d X am_m1006 9 [v0, v1, v2, v3] (.int x :: sk) st Q = am_g d X am_m1006 10 [v0, am_kc v1, .int x, v3] sk st Q := am_gu.trans (congrArg (fun l => am_g d X am_m1006 10 (List.set l 2 (.int x)) sk st Q) (kl_2 (l := [v2, v3])))
theorem u1006_10 {v0 : Value} {v1 : Value} {v3 : Value} {x : Int32} : am_g d X am_m1006 10 [v0, v1, .int x, v3] sk st Q = am_g d X am_m1006 11 [v0, v1, .int x, v3] (.int x :: sk) st Q := am_gu.trans rfl
theorem u1006_11 {v0 : Value} {v1 : Value} {v2 : Value} {v3 : Value} : am_g d X am_m1006 11 [v0, v1, v2, v3] sk st Q = am_g d X am_m1006 13 [v0, v1, v2, v3] (.int (am_i 6) :: sk) st Q := am_gu.trans rfl
theorem u1006_13 {v0 : Value} {v1 : Value} {v2 : Value} {v3 : Value} {x : Int32} {y : Int32} : am_g d X am_m1006 13 [v0, v1, v2, v3] (.int y :: .int x :: sk) st Q = (if decide (y ≤ x) = true then am_g d X am_m1006 35 [v0, v1, v2, v3] sk st Q else am_g d X am_m1006 16 [v0, v1, v2, v3] sk st Q) := am_gu.trans rfl
theorem u1006_16 {v0 : Value} {v2 : Value} {v3 : Value} {x : Nat} : am_g d X am_m1006 16 [v0, .ref x, v2, v3] sk st Q = am_g d X am_m1006 17 [v0, .ref x, v2, v3] (.ref x :: sk) st Q := am_gu.trans rfl
theorem u1006_17 {v0 : Value} {v2 : Value} {v3 : Value} {x : Nat} : am_g d X am_m1006 17 [v0, .ref x, v2, v3] sk st Q = am_g d X am_m1006 18 [v0, .ref x, v2, v3] (.ref x :: sk) st Q := am_gu.trans rfl
theorem u1006_18 {v0 : Value} {v1 : Value} {v3 : Value} {x : Int32} : am_g d X am_m1006 18 [v0, v1, .int x, v3] sk st Q = am_g d X am_m1006 19 [v0, v1, .int x, v3] (.int x :: sk) st Q := am_gu.trans rfl
theorem u1006_19 {a0 : Value} {v0 : Value} {v1 : Value} {v2 : Value} {v3 : Value} : am_g d X am_m1006 19 [v0, v1, v2, v3] (a0 :: .ref o :: sk) st Q = ((am_ob st o 5 ∧ sk.length ≤ 5) ∧ am_Ca X d 5015 [.ref o, a0] st (am_af am_m1006 19 [v0, v1, v2, v3] sk (fun pc lc sk st => am_g d X am_m1006 pc lc sk st Q) Q)) := am_gu.trans rfl
theorem u1006_22 {v1 : Value} {v2 : Value} {v3 : Value} {x : Nat} : am_g d X am_m1006 22 [.ref x, v1, v2, v3] sk st Q = am_g d X am_m1006 23 [.ref x, v1, v2, v3] (.ref x :: sk) st Q := am_gu.trans rfl
theorem u1006_23 {v0 : Value} {v1 : Value} {v2 : Value} {v3 : Value} : am_g d X am_m1006 23 [v0, v1, v2, v3] sk st Q = am_gt 32 26 [v0, v1, v2, v3] sk st (fun pc lc sk st => am_g d X am_m1006 pc lc sk st Q) := am_gu.trans rfl
theorem u1006_26 {a0 : Value} {a1 : Value} {a2 : Value} {v0 : Value} {v1 : Value} {v2 : Value} {v3 : Value} : am_g d X am_m1006 26 [v0, v1, v2, v3] (a2 :: a1 :: a0 :: sk) st Q = (sk.length ≤ 4 ∧ am_Ca X d 1017 [a0, a1, a2] st (am_af am_m1006 26 [v0, v1, v2, v3] sk (fun pc lc sk st => am_g d X am_m1006 pc lc sk st Q) Q)) := am_gu.trans (propext ⟨fun h => ⟨h.1.2, h.2⟩, fun h => ⟨⟨Nat.le_add_left _ _, h.1⟩, h.2⟩⟩)
theorem u1006_29 {v0 : Value} {v1 : Value} {v3 : Value} {x : Int32} : am_g d X am_m1006 29 [v0, v1, .int x, v3] sk st Q = am_g d X am_m1006 32 [v0, am_kc v1, .int (x + am_i 1), v3] sk st Q := am_gu.trans (congrArg (fun l => am_g d X am_m1006 32 (List.set l 2 (.int (x + am_i 1))) sk st Q) (kl_2 (l := [.int x, v3])))
theorem u1006_32 {v0 : Value} {v1 : Value} {v2 : Value} {v3 : Value} : am_g d X am_m1006 32 [v0, v1, v2, v3] sk st Q = am_g d X am_m1006 10 [v0, v1, v2, v3] sk st Q := am_gu.trans rfl
theorem u1006_35 {v0 : Value} {v1 : Value} {v2 : Value} {v3 : Value} : am_g d X am_m1006 35 [v0, v1, v2, v3] sk st Q = am_g d X am_m1006 36 [v0, v1, v2, v3] (.int (am_i 0) :: sk) st Q := am_gu.trans rfl
theorem u1006_36 {v0 : Value} {v1 : Value} {v2 : Value} {v3 : Value} {x : Int32} : am_g d X am_m1006 36 [v0, v1, v2, v3] (.int x :: sk) st Q = am_g d X am_m1006 37 [v0, am_kc v1, .int x, v3] sk st Q := am_gu.trans (congrArg (fun l => am_g d X am_m1006 37 (List.set l 2 (.int x)) sk st Q) (kl_2 (l := [v2, v3])))
theorem u1006_37 {v0 : Value} {v1 : Value} {v2 : Value} {v3 : Value} : am_g d X am_m1006 37 [v0, v1, v2, v3] sk st Q = am_g d X am_m1006 38 [v0, v1, v2, v3] (.int (am_i 0) :: sk) st Q := am_gu.trans rfl
theorem u1006_38 {v0 : Value} {v1 : Value} {v2 : Value} {v3 : Value} {x : Int32} : am_g d X am_m1006 38 [v0, v1, v2, v3] (.int x :: sk) st Q = am_g d X am_m1006 39 [v0, v1, am_kc v2, .int x] sk st Q := am_gu.trans (congrArg (fun l => am_g d X am_m1006 39 (List.set l 3 (.int x)) sk st Q) (kl_3 (l := [v3])))
theorem u1006_39 {v0 : Value} {v1 : Value} {v2 : Value} {x : Int32} : am_g d X am_m1006 39 [v0, v1, v2, .int x] sk st Q = am_g d X am_m1006 40 [v0, v1, v2, .int x] (.int x :: sk) st Q := am_gu.trans rfl
theorem u1006_40 {v0 : Value} {v2 : Value} {v3 : Value} {x : Nat} : am_g d X am_m1006 40 [v0, .ref x, v2, v3] sk st Q = am_g d X am_m1006 41 [v0, .ref x, v2, v3] (.ref x :: sk) st Q := am_gu.trans rfl
theorem u1006_41 {v0 : Value} {v1 : Value} {v2 : Value} {v3 : Value} : am_g d X am_m1006 41 [v0, v1, v2, v3] sk st Q = am_gt 160 44 [v0, v1, v2, v3] sk st (fun pc lc sk st => am_g d X am_m1006 pc lc sk st Q) := am_gu.trans rfl
theorem u1006_44 {v0 : Value} {v1 : Value} {v2 : Value} {v3 : Value} {x : Int32} {y : Int32} : am_g d X am_m1006 44 [v0, v1, v2, v3] (.int y :: .int x :: sk) st Q = (if decide (y ≤ x) = true then am_g d X am_m1006 67 [v0, v1, v2, v3] sk st Q else am_g d X am_m1006 47 [v0, v1, v2, v3] sk st Q) := am_gu.trans rfl
theorem u1006_47 {v1 : Value} {v2 : Value} {v3 : Value} {x : Nat} : am_g d X am_m1006 47 [.ref x, v1, v2, v3] sk st Q = am_g d X am_m1006 48 [.ref x, v1, v2, v3] (.ref x :: sk) st Q := am_gu.trans rfl
theorem u1006_48 {v0 : Value} {v1 : Value} {v2 : Value} {v3 : Value} : am_g d X am_m1006 48 [v0, v1, v2, v3] sk st Q = am_gt 32 51 [v0, v1, v2, v3] sk st (fun pc lc sk st => am_g d X am_m1006 pc lc sk st Q) := am_gu.trans rfl
theorem u1006_51 {v0 : Value} {v1 : Value} {v2 : Value} {x : Int32} : am_g d X am_m1006 51 [v0, v1, v2, .int x] sk st Q = am_g d X am_m1006 52 [v0, v1, v2, .int x] (.int x :: sk) st Q := am_gu.trans rfl
theorem u1006_52 {a0 : Value} {a1 : Value} {v0 : Value} {v1 : Value} {v2 : Value} {v3 : Value} : am_g d X am_m1006 52 [v0, v1, v2, v3] (a1 :: a0 :: sk) st Q = (sk.length ≤ 4 ∧ am_Ca X d 1015 [a0, a1] st (am_af am_m1006 52 [v0, v1, v2, v3] sk (fun pc lc sk st => am_g d X am_m1006 pc lc sk st Q) Q)) := am_gu.trans (propext ⟨fun h => ⟨h.1.2, h.2⟩, fun h => ⟨⟨Nat.le_add_left _ _, h.1⟩, h.2⟩⟩)
theorem u1006_55 {v0 : Value} {v1 : Value} {v2 : Value} {v3 : Value} {x : Int32} : am_g d X am_m1006 55 [v0, v1, v2, v3] (.int x :: sk) st Q = (if decide (¬ x = 0) = true then am_g d X am_m1006 61 [v0, v1, v2, v3] sk st Q else am_g d X am_m1006 58 [v0, v1, v2, v3] sk st Q) := am_gu.trans rfl
theorem u1006_58 {v0 : Value} {v1 : Value} {v3 : Value} {x : Int32} : am_g d X am_m1006 58 [v0, v1, .int x, v3] sk st Q = am_g d X am_m1006 61 [v0, am_kc v1, .int (x + am_i 1), v3] sk st Q := am_gu.trans (congrArg (fun l => am_g d X am_m1006 61 (List.set l 2 (.int (x + am_i 1))) sk st Q) (kl_2 (l := [.int x, v3])))
theorem u1006_61 {v0 : Value} {v1 : Value} {v2 : Value} {x : Int32} : am_g d X am_m1006 61 [v0, v1, v2, .int x] sk st Q = am_g d X am_m1006 64 [v0, v1, am_kc v2, .int (x + am_i 1)] sk st Q := am_gu.trans (congrArg (fun l => am_g d X am_m1006 64 (List.set l 3 (.int (x + am_i 1))) sk st Q) (kl_3 (l := [.int x])))
theorem u1006_64 {v0 : Value} {v1 : Value} {v2 : Value} {v3 : Value} : am_g d X am_m1006 64 [v0, v1, v2, v3] sk st Q = am_g d X am_m1006 39 [v0, v1, v2, v3] sk st Q := am_gu.trans rfl
theorem u1006_67 {v0 : Value} {v1 : Value} {v3 : Value} {x : Int32} : am_g d X am_m1006 67 [v0, v1, .int x, v3] sk st Q = am_g d X am_m1006 68 [v0, v1, .int x, v3] (.int x :: sk) st Q := am_gu.trans rfl
theorem u1006_68 {v0 : Value} {v1 : Value} {v2 : Value} {v3 : Value} {x : Int32} : am_g d X am_m1006 68 [v0, v1, v2, v3] [.int x] st Q = Q (.inl (some (.int x))) st := am_gu.trans rfl
set_option maxRecDepth 100000 in
theorem of_1007 : am_of 1007 = some am_m1007 := rfl
theorem c1007 {z a0 a1 a2} {P : am_Q} : am_Ca X (d + 1) 1007 [.ref z, .ref a0, .int a1, .int a2] st P = am_g d X am_m1007 0 [.ref z, .ref a0, .int a1, .int a2, am_u] [] st P := am_cg of_1007 (by show 4 ≤ 5; decide)
theorem hd_1007 : am_hd am_m1007 = [] := rfl
theorem u1007_0 {v1 : Value} {v2 : Value} {v3 : Value} {v4 : Value} {x : Nat} : am_g d X am_m1007 0 [.ref x, v1, v2, v3, v4] sk st Q = am_g d X am_m1007 1 [.ref x, v1, v2, v3, v4] (.ref x :: sk) st Q := am_gu.trans rfl
theorem u1007_1 {v0 : Value} {v1 : Value} {v2 : Value} {v3 : Value} {v4 : Value} : am_g d X am_m1007 1 [v0, v1, v2, v3, v4] sk st Q = am_gt 34 4 [v0, v1, v2, v3, v4] sk st (fun pc lc sk st => am_g d X am_m1007 pc lc sk st Q) := am_gu.trans rfl
theorem u1007_4 {v0 : Value} {v1 : Value} {v2 : Value} {v3 : Value} {v4 : Value} : am_g d X am_m1007 4 [v0, v1, v2, v3, v4] sk st Q = am_g d X am_m1007 5 [v0, v1, v2, v3, v4] (.int (am_i (-1)) :: sk) st Q := am_gu.trans rfl
theorem u1007_5 {a0 : Value} {a1 : Value} {v0 : Value} {v1 : Value} {v2 : Value} {v3 : Value} {v4 : Value} : am_g d X am_m1007 5 [v0, v1, v2, v3, v4] (a1 :: a0 :: sk) st Q = (sk.length ≤ 4 ∧ am_Ca X d 9000 [a0, a1] st (am_af am_m1007 5 [v0, v1, v2, v3, v4] sk (fun pc lc sk st => am_g d X am_m1007 pc lc sk st Q) Q)) := am_gu.trans (propext ⟨fun h => ⟨h.1.2, h.2⟩, fun h => ⟨⟨Nat.le_add_left _ _, h.1⟩, h.2⟩⟩)
theorem u1007_8 {v1 : Value} {v2 : Value} {v3 : Value} {v4 : Value} {x : Nat} : am_g d X am_m1007 8 [.ref x, v1, v2, v3, v4] sk st Q = am_g d X am_m1007 9 [.ref x, v1, v2, v3, v4] (.ref x :: sk) st Q := am_gu.trans rfl
theorem u1007_9 {v0 : Value} {v1 : Value} {v3 : Value} {v4 : Value} {x : Int32} : am_g d X am_m1007 9 [v0, v1, .int x, v3, v4] sk st Q = am_g d X am_m1007 10 [v0, v1, .int x, v3, v4] (.int x :: sk) st Q := am_gu.trans rfl
theorem u1007_10 {v0 : Value} {v1 : Value} {v2 : Value} {v3 : Value} {v4 : Value} : am_g d X am_m1007 10 [v0, v1, v2, v3, v4] sk st Q = am_g d X am_m1007 11 [v0, v1, v2, v3, v4] (.int (am_i 0) :: sk) st Q := am_gu.trans rfl
theorem u1007_11 {a0 : Value} {a1 : Value} {v0 : Value} {v1 : Value} {v2 : Value} {v3 : Value} {v4 : Value} : am_g d X am_m1007 11 [v0, v1, v2, v3, v4] (a1 :: a0 :: .ref o :: sk) st Q = ((am_ob st o 1 ∧ sk.length ≤ 5) ∧ am_Ca X d 1009 [.ref o, a0, a1] st (am_af am_m1007 11 [v0, v1, v2, v3, v4] sk (fun pc lc sk st => am_g d X am_m1007 pc lc sk st Q) Q)) := am_gu.trans rfl
theorem u1007_14 {v0 : Value} {v1 : Value} {v2 : Value} {v3 : Value} {v4 : Value} : am_g d X am_m1007 14 [v0, v1, v2, v3, v4] sk st Q = am_g d X am_m1007 16 [v0, v1, v2, v3, v4] (.int (am_i 59) :: sk) st Q := am_gu.trans rfl
theorem u1007_16 {v0 : Value} {v1 : Value} {v2 : Value} {v3 : Value} {v4 : Value} {x : Int32} : am_g d X am_m1007 16 [v0, v1, v2, v3, v4] (.int x :: sk) st Q = am_g d X am_m1007 18 [v0, v1, v2, am_kc v3, .int x] sk st Q := am_gu.trans (congrArg (fun l => am_g d X am_m1007 18 (List.set l 4 (.int x)) sk st Q) (kl_4 (l := [v4])))
theorem u1007_18 {v0 : Value} {v1 : Value} {v2 : Value} {v3 : Value} {x : Int32} : am_g d X am_m1007 18 [v0, v1, v2, v3, .int x] sk st Q = am_g d X am_m1007 20 [v0, v1, v2, v3, .int x] (.int x :: sk) st Q := am_gu.trans rfl
theorem u1007_20 {v0 : Value} {v1 : Value} {v2 : Value} {v3 : Value} {v4 : Value} {x : Int32} : am_g d X am_m1007 20 [v0, v1, v2, v3, v4] (.int x :: sk) st Q = (if decide (x < 0) = true then am_g d X am_m1007 75 [v0, v1, v2, v3, v4] sk st Q else am_g d X am_m1007 23 [v0, v1, v2, v3, v4] sk st Q) := am_gu.trans rfl
theorem u1007_23 {v1 : Value} {v2 : Value} {v3 : Value} {v4 : Value} {x : Nat} : am_g d X am_m1007 23 [.ref x, v1, v2, v3, v4] sk st Q = am_g d X am_m1007 24 [.ref x, v1, v2, v3, v4] (.ref x :: sk) st Q := am_gu.trans rfl
theorem u1007_24 {v0 : Value} {v1 : Value} {v2 : Value} {v3 : Value} {x : Int32} : am_g d X am_m1007 24 [v0, v1, v2, v3, .int x] sk st Q = am_g d X am_m1007 26 [v0, v1, v2, v3, .int x] (.int x :: sk) st Q := am_gu.trans rfl
theorem u1007_26 {a0 : Value} {v0 : Value} {v1 : Value} {v2 : Value} {v3 : Value} {v4 : Value} : am_g d X am_m1007 26 [v0, v1, v2, v3, v4] (a0 :: .ref o :: sk) st Q = ((am_ob st o 1 ∧ sk.length ≤ 5) ∧ am_Ca X d 1008 [.ref o, a0] st (am_af am_m1007 26 [v0, v1, v2, v3, v4] sk (fun pc lc sk st => am_g d X am_m1007 pc lc sk st Q) Q)) := am_gu.trans rfl
theorem u1007_29 {v0 : Value} {v1 : Value} {v2 : Value} {v3 : Value} {v4 : Value} : am_g d X am_m1007 29 [v0, v1, v2, v3, v4] sk st Q = am_g d X am_m1007 30 [v0, v1, v2, v3, v4] (.int (am_i (-1)) :: sk) st Q := am_gu.trans rfl
theorem u1007_30 {v0 : Value} {v1 : Value} {v2 : Value} {v3 : Value} {v4 : Value} {x : Int32} {y : Int32} : am_g d X am_m1007 30 [v0, v1, v2, v3, v4] (.int y :: .int x :: sk) st Q = (if decide (x = y) = true then am_g d X am_m1007 69 [v0, v1, v2, v3, v4] sk st Q else am_g d X am_m1007 33 [v0, v1, v2, v3, v4] sk st Q) := am_gu.trans rfl
theorem u1007_33 {v1 : Value} {v2 : Value} {v3 : Value} {v4 : Value} {x : Nat} : am_g d X am_m1007 33 [.ref x, v1, v2, v3, v4] sk st Q = am_g d X am_m1007 34 [.ref x, v1, v2, v3, v4] (.ref x :: sk) st Q := am_gu.trans rfl
theorem u1007_34 {v0 : Value} {v2 : Value} {v3 : Value} {v4 : Value} {x : Nat} : am_g d X am_m1007 34 [v0, .ref x, v2, v3, v4] sk st Q = am_g d X am_m1007 35 [v0, .ref x, v2, v3, v4] (.ref x :: sk) st Q := am_gu.trans rfl
theorem u1007_35 {v0 : Value} {v1 : Value} {v2 : Value} {v3 : Value} {x : Int32} : am_g d X am_m1007 35 [v0, v1, v2, v3, .int x] sk st Q = am_g d X am_m1007 37 [v0, v1, v2, v3, .int x] (.int x :: sk) st Q := am_gu.trans rfl
theorem u1007_37 {a0 : Value} {v0 : Value} {v1 : Value} {v2 : Value} {v3 : Value} {v4 : Value} : am_g d X am_m1007 37 [v0, v1, v2, v3, v4] (a0 :: .ref o :: sk) st Q = ((am_ob st o 5 ∧ sk.length ≤ 5) ∧ am_Ca X d 5005 [.ref o, a0] st (am_af am_m1007 37 [v0, v1, v2, v3, v4] sk (fun pc lc sk st => am_g d X am_m1007 pc lc sk st Q) Q)) := am_gu.trans rfl
theorem u1007_40 {v1 : Value} {v2 : Value} {v3 : Value} {v4 : Value} {x : Nat} : am_g d X am_m1007 40 [.ref x, v1, v2, v3, v4] sk st Q = am_g d X am_m1007 41 [.ref x, v1, v2, v3, v4] (.ref x :: sk) st Q := am_gu.trans rfl
theorem u1007_41 {v0 : Value} {v1 : Value} {v2 : Value} {v3 : Value} {x : Int32} : am_g d X am_m1007 41 [v0, v1, v2, v3, .int x] sk st Q = am_g d X am_m1007 43 [v0, v1, v2, v3, .int x] (.int x :: sk) st Q := am_gu.trans rfl
theorem u1007_43 {a0 : Value} {v0 : Value} {v1 : Value} {v2 : Value} {v3 : Value} {v4 : Value} : am_g d X am_m1007 43 [v0, v1, v2, v3, v4] (a0 :: .ref o :: sk) st Q = ((am_ob st o 1 ∧ sk.length ≤ 5) ∧ am_Ca X d 1008 [.ref o, a0] st (am_af am_m1007 43 [v0, v1, v2, v3, v4] sk (fun pc lc sk st => am_g d X am_m1007 pc lc sk st Q) Q)) := am_gu.trans rfl
theorem u1007_46 {v0 : Value} {v1 : Value} {v2 : Value} {v3 : Value} {v4 : Value} : am_g d X am_m1007 46 [v0, v1, v2, v3, v4] sk st Q = am_g d X am_m1007 47 [v0, v1, v2, v3, v4] (.int (am_i 1) :: sk) st Q := am_gu.trans rfl
theorem u1007_47 {v0 : Value} {v1 : Value} {v2 : Value} {v3 : Value} {v4 : Value} {x : Int32} {y : Int32} : am_g d X am_m1007 47 [v0, v1, v2, v3, v4] (.int y :: .int x :: sk) st Q = am_g d X am_m1007 48 [v0, v1, v2, v3, v4] (.int (x + y) :: sk) st Q := am_gu.trans rfl
theorem u1007_48 {a0 : Value} {a1 : Value} {v0 : Value} {v1 : Value} {v2 : Value} {v3 : Value} {v4 : Value} : am_g d X am_m1007 48 [v0, v1, v2, v3, v4] (a1 :: a0 :: .ref o :: sk) st Q = ((am_ob st o 1 ∧ sk.length ≤ 5) ∧ am_Ca X d 1009 [.ref o, a0, a1] st (am_af am_m1007 48 [v0, v1, v2, v3, v4] sk (fun pc lc sk st => am_g d X am_m1007 pc lc sk st Q) Q)) := am_gu.trans rfl
theorem u1007_51 {v1 : Value} {v2 : Value} {v3 : Value} {v4 : Value} {x : Nat} : am_g d X am_m1007 51 [.ref x, v1, v2, v3, v4] sk st Q = am_g d X am_m1007 52 [.ref x, v1, v2, v3, v4] (.ref x :: sk) st Q := am_gu.trans rfl
theorem u1007_52 {v0 : Value} {v2 : Value} {v3 : Value} {v4 : Value} {x : Nat} : am_g d X am_m1007 52 [v0, .ref x, v2, v3, v4] sk st Q = am_g d X am_m1007 53 [v0, .ref x, v2, v3, v4] (.ref x :: sk) st Q := am_gu.trans rfl
theorem u1007_53 {v0 : Value} {v1 : Value} {v2 : Value} {v3 : Value} {x : Int32} : am_g d X am_m1007 53 [v0, v1, v2, v3, .int x] sk st Q = am_g d X am_m1007 55 [v0, v1, v2, v3, .int x] (.int x :: sk) st Q := am_gu.trans rfl
theorem u1007_55 {a0 : Value} {v0 : Value} {v1 : Value} {v2 : Value} {v3 : Value} {v4 : Value} : am_g d X am_m1007 55 [v0, v1, v2, v3, v4] (a0 :: .ref o :: sk) st Q = ((am_ob st o 5 ∧ sk.length ≤ 5) ∧ am_Ca X d 5006 [.ref o, a0] st (am_af am_m1007 55 [v0, v1, v2, v3, v4] sk (fun pc lc sk st => am_g d X am_m1007 pc lc sk st Q) Q)) := am_gu.trans rfl
theorem u1007_58 {v1 : Value} {v2 : Value} {v3 : Value} {v4 : Value} {x : Nat} : am_g d X am_m1007 58 [.ref x, v1, v2, v3, v4] sk st Q = am_g d X am_m1007 59 [.ref x, v1, v2, v3, v4] (.ref x :: sk) st Q := am_gu.trans rfl
theorem u1007_59 {v0 : Value} {v1 : Value} {v2 : Value} {v3 : Value} {x : Int32} : am_g d X am_m1007 59 [v0, v1, v2, v3, .int x] sk st Q = am_g d X am_m1007 61 [v0, v1, v2, v3, .int x] (.int x :: sk) st Q := am_gu.trans rfl
theorem u1007_61 {a0 : Value} {v0 : Value} {v1 : Value} {v2 : Value} {v3 : Value} {v4 : Value} : am_g d X am_m1007 61 [v0, v1, v2, v3, v4] (a0 :: .ref o :: sk) st Q = ((am_ob st o 1 ∧ sk.length ≤ 5) ∧ am_Ca X d 1008 [.ref o, a0] st (am_af am_m1007 61 [v0, v1, v2, v3, v4] sk (fun pc lc sk st => am_g d X am_m1007 pc lc sk st Q) Q)) := am_gu.trans rfl
theorem u1007_64 {v0 : Value} {v1 : Value} {v2 : Value} {v3 : Value} {v4 : Value} : am_g d X am_m1007 64 [v0, v1, v2, v3, v4] sk st Q = am_g d X am_m1007 65 [v0, v1, v2, v3, v4] (.int (am_i 1) :: sk) st Q := am_gu.trans rfl
theorem u1007_65 {v0 : Value} {v1 : Value} {v2 : Value} {v3 : Value} {v4 : Value} {x : Int32} {y : Int32} : am_g d X am_m1007 65 [v0, v1, v2, v3, v4] (.int y :: .int x :: sk) st Q = am_g d X am_m1007 66 [v0, v1, v2, v3, v4] (.int (x + y) :: sk) st Q := am_gu.trans rfl
theorem u1007_66 {a0 : Value} {a1 : Value} {v0 : Value} {v1 : Value} {v2 : Value} {v3 : Value} {v4 : Value} : am_g d X am_m1007 66 [v0, v1, v2, v3, v4] (a1 :: a0 :: .ref o :: sk) st Q = ((am_ob st o 1 ∧ sk.length ≤ 5) ∧ am_Ca X d 1009 [.ref o, a0, a1] st (am_af am_m1007 66 [v0, v1, v2, v3, v4] sk (fun pc lc sk st => am_g d X am_m1007 pc lc sk st Q) Q)) := am_gu.trans rfl
theorem u1007_69 {v0 : Value} {v1 : Value} {v2 : Value} {v3 : Value} {x : Int32} : am_g d X am_m1007 69 [v0, v1, v2, v3, .int x] sk st Q = am_g d X am_m1007 72 [v0, v1, v2, am_kc v3, .int (x + am_i (-1))] sk st Q := am_gu.trans (congrArg (fun l => am_g d X am_m1007 72 (List.set l 4 (.int (x + am_i (-1)))) sk st Q) (kl_4 (l := [.int x])))
theorem u1007_72 {v0 : Value} {v1 : Value} {v2 : Value} {v3 : Value} {v4 : Value} : am_g d X am_m1007 72 [v0, v1, v2, v3, v4] sk st Q = am_g d X am_m1007 18 [v0, v1, v2, v3, v4] sk st Q := am_gu.trans rfl
theorem u1007_75 {v1 : Value} {v2 : Value} {v3 : Value} {v4 : Value} {x : Nat} : am_g d X am_m1007 75 [.ref x, v1, v2, v3, v4] sk st Q = am_g d X am_m1007 76 [.ref x, v1, v2, v3, v4] (.ref x :: sk) st Q := am_gu.trans rfl
theorem u1007_76 {v0 : Value} {v1 : Value} {v2 : Value} {v4 : Value} {x : Int32} : am_g d X am_m1007 76 [v0, v1, v2, .int x, v4] sk st Q = am_g d X am_m1007 77 [v0, v1, v2, .int x, v4] (.int x :: sk) st Q := am_gu.trans rfl
theorem u1007_77 {a0 : Value} {v0 : Value} {v1 : Value} {v2 : Value} {v3 : Value} {v4 : Value} : am_g d X am_m1007 77 [v0, v1, v2, v3, v4] (a0 :: .ref o :: sk) st Q = ((am_ob st o 1 ∧ sk.length ≤ 5) ∧ am_Ca X d 1008 [.ref o, a0] st (am_af am_m1007 77 [v0, v1, v2, v3, v4] sk (fun pc lc sk st => am_g d X am_m1007 pc lc sk st Q) Q)) := am_gu.trans rfl
theorem u1007_80 {v0 : Value} {v1 : Value} {v2 : Value} {v3 : Value} {v4 : Value} {x : Int32} : am_g d X am_m1007 80 [v0, v1, v2, v3, v4] [.int x] st Q = Q (.inl (some (.int x))) st := am_gu.trans rfl
set_option maxRecDepth 100000 in
theorem of_1008 : am_of 1008 = some am_m1008 := rfl
theorem c1008 {z a0} {P : am_Q} : am_Ca X (d + 1) 1008 [.ref z, .int a0] st P = am_g d X am_m1008 0 [.ref z, .int a0] [] st P := am_cg of_1008 (by show 2 ≤ 2; decide)
theorem hd_1008 : am_hd am_m1008 = [] := rfl
theorem u1008_0 {v0 : Value} {x : Int32} : am_g d X am_m1008 0 [v0, .int x] sk st Q = am_g d X am_m1008 1 [v0, .int x] (.int x :: sk) st Q := am_gu.trans rfl
theorem u1008_1 {v0 : Value} {v1 : Value} {x : Int32} : am_g d X am_m1008 1 [v0, v1] (.int x :: sk) st Q = (if decide (x < 0) = true then am_g d X am_m1008 19 [v0, v1] sk st Q else am_g d X am_m1008 4 [v0, v1] sk st Q) := am_gu.trans rfl
theorem u1008_4 {v0 : Value} {x : Int32} : am_g d X am_m1008 4 [v0, .int x] sk st Q = am_g d X am_m1008 5 [v0, .int x] (.int x :: sk) st Q := am_gu.trans rfl
theorem u1008_5 {v0 : Value} {v1 : Value} : am_g d X am_m1008 5 [v0, v1] sk st Q = am_g d X am_m1008 7 [v0, v1] (.int (am_i 60) :: sk) st Q := am_gu.trans rfl
theorem u1008_7 {v0 : Value} {v1 : Value} {x : Int32} {y : Int32} : am_g d X am_m1008 7 [v0, v1] (.int y :: .int x :: sk) st Q = (if decide (y ≤ x) = true then am_g d X am_m1008 19 [v0, v1] sk st Q else am_g d X am_m1008 10 [v0, v1] sk st Q) := am_gu.trans rfl
theorem u1008_10 {v1 : Value} {x : Nat} : am_g d X am_m1008 10 [.ref x, v1] sk st Q = am_g d X am_m1008 11 [.ref x, v1] (.ref x :: sk) st Q := am_gu.trans rfl
theorem u1008_11 {v0 : Value} {v1 : Value} : am_g d X am_m1008 11 [v0, v1] sk st Q = am_gt 34 14 [v0, v1] sk st (fun pc lc sk st => am_g d X am_m1008 pc lc sk st Q) := am_gu.trans rfl
theorem u1008_14 {v0 : Value} {x : Int32} : am_g d X am_m1008 14 [v0, .int x] sk st Q = am_g d X am_m1008 15 [v0, .int x] (.int x :: sk) st Q := am_gu.trans rfl
theorem u1008_15 {v0 : Value} {v1 : Value} : am_g d X am_m1008 15 [v0, v1] sk st Q = am_xl (X.1, X.2.1, d) am_m1008 16 [v0, v1] sk st (fun pc lc sk st => am_g d X am_m1008 pc lc sk st Q) := am_gu.trans rfl
theorem u1008_16 {v0 : Value} {v1 : Value} : am_g d X am_m1008 16 [v0, v1] sk st Q = am_g d X am_m1008 20 [v0, v1] sk st Q := am_gu.trans rfl
theorem u1008_19 {v0 : Value} {v1 : Value} : am_g d X am_m1008 19 [v0, v1] sk st Q = am_g d X am_m1008 20 [v0, v1] (.int (am_i (-1)) :: sk) st Q := am_gu.trans rfl
theorem u1008_20 {v0 : Value} {v1 : Value} {x : Int32} : am_g d X am_m1008 20 [v0, v1] [.int x] st Q = Q (.inl (some (.int x))) st := am_gu.trans rfl
set_option maxRecDepth 100000 in
theorem of_1009 : am_of 1009 = some am_m1009 := rfl
theorem c1009 {z a0 a1} {P : am_Q} : am_Ca X (d + 1) 1009 [.ref z, .int a0, .int a1] st P = am_g d X am_m1009 0 [.ref z, .int a0, .int a1] [] st P := am_cg of_1009 (by show 3 ≤ 3; decide)
theorem hd_1009 : am_hd am_m1009 = [] := rfl
theorem u1009_0 {v0 : Value} {v2 : Value} {x : Int32} : am_g d X am_m1009 0 [v0, .int x, v2] sk st Q = am_g d X am_m1009 1 [v0, .int x, v2] (.int x :: sk) st Q := am_gu.trans rfl
theorem u1009_1 {v0 : Value} {v1 : Value} {v2 : Value} {x : Int32} : am_g d X am_m1009 1 [v0, v1, v2] (.int x :: sk) st Q = (if decide (x < 0) = true then am_g d X am_m1009 37 [v0, v1, v2] sk st Q else am_g d X am_m1009 4 [v0, v1, v2] sk st Q) := am_gu.trans rfl
theorem u1009_4 {v0 : Value} {v2 : Value} {x : Int32} : am_g d X am_m1009 4 [v0, .int x, v2] sk st Q = am_g d X am_m1009 5 [v0, .int x, v2] (.int x :: sk) st Q := am_gu.trans rfl
theorem u1009_5 {v0 : Value} {v1 : Value} {v2 : Value} : am_g d X am_m1009 5 [v0, v1, v2] sk st Q = am_g d X am_m1009 7 [v0, v1, v2] (.int (am_i 60) :: sk) st Q := am_gu.trans rfl
theorem u1009_7 {v0 : Value} {v1 : Value} {v2 : Value} {x : Int32} {y : Int32} : am_g d X am_m1009 7 [v0, v1, v2] (.int y :: .int x :: sk) st Q = (if decide (y ≤ x) = true then am_g d X am_m1009 37 [v0, v1, v2] sk st Q else am_g d X am_m1009 10 [v0, v1, v2] sk st Q) := am_gu.trans rfl
theorem u1009_10 {v1 : Value} {v2 : Value} {x : Nat} : am_g d X am_m1009 10 [.ref x, v1, v2] sk st Q = am_g d X am_m1009 11 [.ref x, v1, v2] (.ref x :: sk) st Q := am_gu.trans rfl
theorem u1009_11 {v0 : Value} {v1 : Value} {v2 : Value} : am_g d X am_m1009 11 [v0, v1, v2] sk st Q = am_gt 34 14 [v0, v1, v2] sk st (fun pc lc sk st => am_g d X am_m1009 pc lc sk st Q) := am_gu.trans rfl
theorem u1009_14 {v0 : Value} {v2 : Value} {x : Int32} : am_g d X am_m1009 14 [v0, .int x, v2] sk st Q = am_g d X am_m1009 15 [v0, .int x, v2] (.int x :: sk) st Q := am_gu.trans rfl
theorem u1009_15 {v0 : Value} {v1 : Value} {v2 : Value} : am_g d X am_m1009 15 [v0, v1, v2] sk st Q = am_xl (X.1, X.2.1, d) am_m1009 16 [v0, v1, v2] sk st (fun pc lc sk st => am_g d X am_m1009 pc lc sk st Q) := am_gu.trans rfl
theorem u1009_16 {v0 : Value} {v1 : Value} {v2 : Value} : am_g d X am_m1009 16 [v0, v1, v2] sk st Q = am_g d X am_m1009 17 [v0, v1, v2] (.int (am_i (-1)) :: sk) st Q := am_gu.trans rfl
theorem u1009_17 {v0 : Value} {v1 : Value} {v2 : Value} {x : Int32} {y : Int32} : am_g d X am_m1009 17 [v0, v1, v2] (.int y :: .int x :: sk) st Q = (if decide (x = y) = true then am_g d X am_m1009 30 [v0, v1, v2] sk st Q else am_g d X am_m1009 20 [v0, v1, v2] sk st Q) := am_gu.trans rfl
theorem u1009_20 {v1 : Value} {v2 : Value} {x : Nat} : am_g d X am_m1009 20 [.ref x, v1, v2] sk st Q = am_g d X am_m1009 21 [.ref x, v1, v2] (.ref x :: sk) st Q := am_gu.trans rfl
theorem u1009_21 {v0 : Value} {v1 : Value} {v2 : Value} : am_g d X am_m1009 21 [v0, v1, v2] sk st Q = am_gt 34 24 [v0, v1, v2] sk st (fun pc lc sk st => am_g d X am_m1009 pc lc sk st Q) := am_gu.trans rfl
theorem u1009_24 {v0 : Value} {v2 : Value} {x : Int32} : am_g d X am_m1009 24 [v0, .int x, v2] sk st Q = am_g d X am_m1009 25 [v0, .int x, v2] (.int x :: sk) st Q := am_gu.trans rfl
theorem u1009_25 {v0 : Value} {v1 : Value} {v2 : Value} : am_g d X am_m1009 25 [v0, v1, v2] sk st Q = am_xl (X.1, X.2.1, d) am_m1009 26 [v0, v1, v2] sk st (fun pc lc sk st => am_g d X am_m1009 pc lc sk st Q) := am_gu.trans rfl
theorem u1009_26 {v0 : Value} {v1 : Value} {x : Int32} : am_g d X am_m1009 26 [v0, v1, .int x] sk st Q = am_g d X am_m1009 27 [v0, v1, .int x] (.int x :: sk) st Q := am_gu.trans rfl
theorem u1009_27 {v0 : Value} {v1 : Value} {v2 : Value} {x : Int32} {y : Int32} : am_g d X am_m1009 27 [v0, v1, v2] (.int y :: .int x :: sk) st Q = (if decide (x ≤ y) = true then am_g d X am_m1009 37 [v0, v1, v2] sk st Q else am_g d X am_m1009 30 [v0, v1, v2] sk st Q) := am_gu.trans rfl
theorem u1009_30 {v1 : Value} {v2 : Value} {x : Nat} : am_g d X am_m1009 30 [.ref x, v1, v2] sk st Q = am_g d X am_m1009 31 [.ref x, v1, v2] (.ref x :: sk) st Q := am_gu.trans rfl
theorem u1009_31 {v0 : Value} {v1 : Value} {v2 : Value} : am_g d X am_m1009 31 [v0, v1, v2] sk st Q = am_gt 34 34 [v0, v1, v2] sk st (fun pc lc sk st => am_g d X am_m1009 pc lc sk st Q) := am_gu.trans rfl
theorem u1009_34 {v0 : Value} {v2 : Value} {x : Int32} : am_g d X am_m1009 34 [v0, .int x, v2] sk st Q = am_g d X am_m1009 35 [v0, .int x, v2] (.int x :: sk) st Q := am_gu.trans rfl
theorem u1009_35 {v0 : Value} {v1 : Value} {x : Int32} : am_g d X am_m1009 35 [v0, v1, .int x] sk st Q = am_g d X am_m1009 36 [v0, v1, .int x] (.int x :: sk) st Q := am_gu.trans rfl
theorem u1009_36 {v0 : Value} {v1 : Value} {v2 : Value} : am_g d X am_m1009 36 [v0, v1, v2] sk st Q = am_xs 37 [v0, v1, v2] sk st (fun pc lc sk st => am_g d X am_m1009 pc lc sk st Q) := am_gu.trans rfl
theorem u1009_37 {v0 : Value} {v1 : Value} {v2 : Value} : am_g d X am_m1009 37 [v0, v1, v2] [] st Q = Q (.inl none) st := am_gu.trans rfl
set_option maxRecDepth 100000 in
theorem of_1010 : am_of 1010 = some am_m1010 := rfl
theorem c1010 {z a0 a1} {P : am_Q} : am_Ca X (d + 1) 1010 [.ref z, .ref a0, .int a1] st P = am_g d X am_m1010 0 [.ref z, .ref a0, .int a1, am_u, am_u] [] st P := am_cg of_1010 (by show 3 ≤ 5; decide)
theorem hd_1010 : am_hd am_m1010 = [] := rfl
theorem u1010_0 {v0 : Value} {v1 : Value} {v2 : Value} {v3 : Value} {v4 : Value} : am_g d X am_m1010 0 [v0, v1, v2, v3, v4] sk st Q = am_g d X am_m1010 1 [v0, v1, v2, v3, v4] (.int (am_i 0) :: sk) st Q := am_gu.trans rfl
theorem u1010_1 {v0 : Value} {v1 : Value} {v2 : Value} {v3 : Value} {v4 : Value} {x : Int32} : am_g d X am_m1010 1 [v0, v1, v2, v3, v4] (.int x :: sk) st Q = am_g d X am_m1010 2 [v0, v1, am_kc v2, .int x, v4] sk st Q := am_gu.trans (congrArg (fun l => am_g d X am_m1010 2 (List.set l 3 (.int x)) sk st Q) (kl_3 (l := [v3, v4])))
theorem u1010_2 {v0 : Value} {v1 : Value} {v2 : Value} {v4 : Value} {x : Int32} : am_g d X am_m1010 2 [v0, v1, v2, .int x, v4] sk st Q = am_g d X am_m1010 3 [v0, v1, v2, .int x, v4] (.int x :: sk) st Q := am_gu.trans rfl
theorem u1010_3 {v0 : Value} {v1 : Value} {v2 : Value} {v3 : Value} {v4 : Value} : am_g d X am_m1010 3 [v0, v1, v2, v3, v4] sk st Q = am_g d X am_m1010 5 [v0, v1, v2, v3, v4] (.int (am_i 60) :: sk) st Q := am_gu.trans rfl
theorem u1010_5 {v0 : Value} {v1 : Value} {v2 : Value} {v3 : Value} {v4 : Value} {x : Int32} {y : Int32} : am_g d X am_m1010 5 [v0, v1, v2, v3, v4] (.int y :: .int x :: sk) st Q = (if decide (y ≤ x) = true then am_g d X am_m1010 52 [v0, v1, v2, v3, v4] sk st Q else am_g d X am_m1010 8 [v0, v1, v2, v3, v4] sk st Q) := am_gu.trans rfl
theorem u1010_8 {v0 : Value} {v1 : Value} {v2 : Value} {v4 : Value} {x : Int32} : am_g d X am_m1010 8 [v0, v1, v2, .int x, v4] sk st Q = am_g d X am_m1010 9 [v0, v1, v2, .int x, v4] (.int x :: sk) st Q := am_gu.trans rfl
theorem u1010_9 {v0 : Value} {v1 : Value} {v3 : Value} {v4 : Value} {x : Int32} : am_g d X am_m1010 9 [v0, v1, .int x, v3, v4] sk st Q = am_g d X am_m1010 10 [v0, v1, .int x, v3, v4] (.int x :: sk) st Q := am_gu.trans rfl
theorem u1010_10 {v0 : Value} {v1 : Value} {v2 : Value} {v3 : Value} {v4 : Value} {x : Int32} {y : Int32} : am_g d X am_m1010 10 [v0, v1, v2, v3, v4] (.int y :: .int x :: sk) st Q = (if decide (y < x) = true then am_g d X am_m1010 52 [v0, v1, v2, v3, v4] sk st Q else am_g d X am_m1010 13 [v0, v1, v2, v3, v4] sk st Q) := am_gu.trans rfl
theorem u1010_13 {v1 : Value} {v2 : Value} {v3 : Value} {v4 : Value} {x : Nat} : am_g d X am_m1010 13 [.ref x, v1, v2, v3, v4] sk st Q = am_g d X am_m1010 14 [.ref x, v1, v2, v3, v4] (.ref x :: sk) st Q := am_gu.trans rfl
theorem u1010_14 {v0 : Value} {v2 : Value} {v3 : Value} {v4 : Value} {x : Nat} : am_g d X am_m1010 14 [v0, .ref x, v2, v3, v4] sk st Q = am_g d X am_m1010 15 [v0, .ref x, v2, v3, v4] (.ref x :: sk) st Q := am_gu.trans rfl
theorem u1010_15 {v0 : Value} {v1 : Value} {v2 : Value} {v4 : Value} {x : Int32} : am_g d X am_m1010 15 [v0, v1, v2, .int x, v4] sk st Q = am_g d X am_m1010 16 [v0, v1, v2, .int x, v4] (.int x :: sk) st Q := am_gu.trans rfl
theorem u1010_16 {a0 : Value} {v0 : Value} {v1 : Value} {v2 : Value} {v3 : Value} {v4 : Value} : am_g d X am_m1010 16 [v0, v1, v2, v3, v4] (a0 :: .ref o :: sk) st Q = ((am_ob st o 5 ∧ sk.length ≤ 5) ∧ am_Ca X d 5005 [.ref o, a0] st (am_af am_m1010 16 [v0, v1, v2, v3, v4] sk (fun pc lc sk st => am_g d X am_m1010 pc lc sk st Q) Q)) := am_gu.trans rfl
theorem u1010_19 {a0 : Value} {v0 : Value} {v1 : Value} {v2 : Value} {v3 : Value} {v4 : Value} : am_g d X am_m1010 19 [v0, v1, v2, v3, v4] (a0 :: .ref o :: sk) st Q = ((am_ob st o 1 ∧ sk.length ≤ 5) ∧ am_Ca X d 1008 [.ref o, a0] st (am_af am_m1010 19 [v0, v1, v2, v3, v4] sk (fun pc lc sk st => am_g d X am_m1010 pc lc sk st Q) Q)) := am_gu.trans rfl
theorem u1010_22 {v1 : Value} {v2 : Value} {v3 : Value} {v4 : Value} {x : Nat} : am_g d X am_m1010 22 [.ref x, v1, v2, v3, v4] sk st Q = am_g d X am_m1010 23 [.ref x, v1, v2, v3, v4] (.ref x :: sk) st Q := am_gu.trans rfl
theorem u1010_23 {v0 : Value} {v2 : Value} {v3 : Value} {v4 : Value} {x : Nat} : am_g d X am_m1010 23 [v0, .ref x, v2, v3, v4] sk st Q = am_g d X am_m1010 24 [v0, .ref x, v2, v3, v4] (.ref x :: sk) st Q := am_gu.trans rfl
theorem u1010_24 {v0 : Value} {v1 : Value} {v2 : Value} {v4 : Value} {x : Int32} : am_g d X am_m1010 24 [v0, v1, v2, .int x, v4] sk st Q = am_g d X am_m1010 25 [v0, v1, v2, .int x, v4] (.int x :: sk) st Q := am_gu.trans rfl
theorem u1010_25 {a0 : Value} {v0 : Value} {v1 : Value} {v2 : Value} {v3 : Value} {v4 : Value} : am_g d X am_m1010 25 [v0, v1, v2, v3, v4] (a0 :: .ref o :: sk) st Q = ((am_ob st o 5 ∧ sk.length ≤ 5) ∧ am_Ca X d 5006 [.ref o, a0] st (am_af am_m1010 25 [v0, v1, v2, v3, v4] sk (fun pc lc sk st => am_g d X am_m1010 pc lc sk st Q) Q)) := am_gu.trans rfl
theorem u1010_28 {a0 : Value} {v0 : Value} {v1 : Value} {v2 : Value} {v3 : Value} {v4 : Value} : am_g d X am_m1010 28 [v0, v1, v2, v3, v4] (a0 :: .ref o :: sk) st Q = ((am_ob st o 1 ∧ sk.length ≤ 5) ∧ am_Ca X d 1008 [.ref o, a0] st (am_af am_m1010 28 [v0, v1, v2, v3, v4] sk (fun pc lc sk st => am_g d X am_m1010 pc lc sk st Q) Q)) := am_gu.trans rfl
theorem u1010_31 {v0 : Value} {v1 : Value} {v2 : Value} {v3 : Value} {v4 : Value} {x : Int32} {y : Int32} : am_g d X am_m1010 31 [v0, v1, v2, v3, v4] (.int y :: .int x :: sk) st Q = (sk.length ≤ 4 ∧ am_g d X am_m1010 34 [v0, v1, v2, v3, v4] (.int (if x < y then y else x) :: sk) st Q) := am_gu.trans rfl
theorem u1010_34 {v0 : Value} {v1 : Value} {v2 : Value} {v3 : Value} {v4 : Value} {x : Int32} : am_g d X am_m1010 34 [v0, v1, v2, v3, v4] (.int x :: sk) st Q = am_g d X am_m1010 36 [v0, v1, v2, am_kc v3, .int x] sk st Q := am_gu.trans (congrArg (fun l => am_g d X am_m1010 36 (List.set l 4 (.int x)) sk st Q) (kl_4 (l := [v4])))
theorem u1010_36 {v1 : Value} {v2 : Value} {v3 : Value} {v4 : Value} {x : Nat} : am_g d X am_m1010 36 [.ref x, v1, v2, v3, v4] sk st Q = am_g d X am_m1010 37 [.ref x, v1, v2, v3, v4] (.ref x :: sk) st Q := am_gu.trans rfl
theorem u1010_37 {v0 : Value} {v1 : Value} {v2 : Value} {v3 : Value} {v4 : Value} : am_g d X am_m1010 37 [v0, v1, v2, v3, v4] sk st Q = am_gt 34 40 [v0, v1, v2, v3, v4] sk st (fun pc lc sk st => am_g d X am_m1010 pc lc sk st Q) := am_gu.trans rfl
theorem u1010_40 {v0 : Value} {v1 : Value} {v2 : Value} {v4 : Value} {x : Int32} : am_g d X am_m1010 40 [v0, v1, v2, .int x, v4] sk st Q = am_g d X am_m1010 41 [v0, v1, v2, .int x, v4] (.int x :: sk) st Q := am_gu.trans rfl
theorem u1010_41 {v0 : Value} {v1 : Value} {v2 : Value} {v3 : Value} {x : Int32} : am_g d X am_m1010 41 [v0, v1, v2, v3, .int x] sk st Q = am_g d X am_m1010 43 [v0, v1, v2, v3, .int x] (.int x :: sk) st Q := am_gu.trans rfl
theorem u1010_43 {v0 : Value} {v1 : Value} {v2 : Value} {v3 : Value} {v4 : Value} : am_g d X am_m1010 43 [v0, v1, v2, v3, v4] sk st Q = am_g d X am_m1010 44 [v0, v1, v2, v3, v4] (.int (am_i 1) :: sk) st Q := am_gu.trans rfl
theorem u1010_44 {v0 : Value} {v1 : Value} {v2 : Value} {v3 : Value} {v4 : Value} {x : Int32} {y : Int32} : am_g d X am_m1010 44 [v0, v1, v2, v3, v4] (.int y :: .int x :: sk) st Q = am_g d X am_m1010 45 [v0, v1, v2, v3, v4] (.int (x + y) :: sk) st Q := am_gu.trans rfl
theorem u1010_45 {v0 : Value} {v1 : Value} {v2 : Value} {v3 : Value} {v4 : Value} : am_g d X am_m1010 45 [v0, v1, v2, v3, v4] sk st Q = am_xs 46 [v0, v1, v2, v3, v4] sk st (fun pc lc sk st => am_g d X am_m1010 pc lc sk st Q) := am_gu.trans rfl
theorem u1010_46 {v0 : Value} {v1 : Value} {v2 : Value} {v4 : Value} {x : Int32} : am_g d X am_m1010 46 [v0, v1, v2, .int x, v4] sk st Q = am_g d X am_m1010 49 [v0, v1, am_kc v2, .int (x + am_i 1), v4] sk st Q := am_gu.trans (congrArg (fun l => am_g d X am_m1010 49 (List.set l 3 (.int (x + am_i 1))) sk st Q) (kl_3 (l := [.int x, v4])))
theorem u1010_49 {v0 : Value} {v1 : Value} {v2 : Value} {v3 : Value} {v4 : Value} : am_g d X am_m1010 49 [v0, v1, v2, v3, v4] sk st Q = am_g d X am_m1010 2 [v0, v1, v2, v3, v4] sk st Q := am_gu.trans rfl
theorem u1010_52 {v1 : Value} {v2 : Value} {v3 : Value} {v4 : Value} {x : Nat} : am_g d X am_m1010 52 [.ref x, v1, v2, v3, v4] sk st Q = am_g d X am_m1010 53 [.ref x, v1, v2, v3, v4] (.ref x :: sk) st Q := am_gu.trans rfl
theorem u1010_53 {v0 : Value} {v1 : Value} {v3 : Value} {v4 : Value} {x : Int32} : am_g d X am_m1010 53 [v0, v1, .int x, v3, v4] sk st Q = am_g d X am_m1010 54 [v0, v1, .int x, v3, v4] (.int x :: sk) st Q := am_gu.trans rfl
theorem u1010_54 {a0 : Value} {v0 : Value} {v1 : Value} {v2 : Value} {v3 : Value} {v4 : Value} : am_g d X am_m1010 54 [v0, v1, v2, v3, v4] (a0 :: .ref o :: sk) st Q = ((am_ob st o 1 ∧ sk.length ≤ 5) ∧ am_Ca X d 1008 [.ref o, a0] st (am_af am_m1010 54 [v0, v1, v2, v3, v4] sk (fun pc lc sk st => am_g d X am_m1010 pc lc sk st Q) Q)) := am_gu.trans rfl
theorem u1010_57 {v0 : Value} {v1 : Value} {v2 : Value} {v3 : Value} {v4 : Value} {x : Int32} : am_g d X am_m1010 57 [v0, v1, v2, v3, v4] [.int x] st Q = Q (.inl (some (.int x))) st := am_gu.trans rfl
set_option maxRecDepth 100000 in
theorem of_1011 : am_of 1011 = some am_m1011 := rfl
theorem c1011 {z a0 a1 a2} {P : am_Q} : am_Ca X (d + 1) 1011 [.ref z, .ref a0, .int a1, .int a2] st P = am_g d X am_m1011 0 [.ref z, .ref a0, .int a1, .int a2, am_u] [] st P := am_cg of_1011 (by show 4 ≤ 5; decide)
theorem hd_1011 : am_hd am_m1011 = [] := rfl
theorem u1011_0 {v1 : Value} {v2 : Value} {v3 : Value} {v4 : Value} {x : Nat} : am_g d X am_m1011 0 [.ref x, v1, v2, v3, v4] sk st Q = am_g d X am_m1011 1 [.ref x, v1, v2, v3, v4] (.ref x :: sk) st Q := am_gu.trans rfl
theorem u1011_1 {v0 : Value} {v1 : Value} {v2 : Value} {v3 : Value} {v4 : Value} : am_g d X am_m1011 1 [v0, v1, v2, v3, v4] sk st Q = am_gt 32 4 [v0, v1, v2, v3, v4] sk st (fun pc lc sk st => am_g d X am_m1011 pc lc sk st Q) := am_gu.trans rfl
theorem u1011_4 {v0 : Value} {v1 : Value} {v2 : Value} {v3 : Value} {v4 : Value} : am_g d X am_m1011 4 [v0, v1, v2, v3, v4] sk st Q = am_g d X am_m1011 5 [v0, v1, v2, v3, v4] (.int (am_i 0) :: sk) st Q := am_gu.trans rfl
theorem u1011_5 {a0 : Value} {a1 : Value} {v0 : Value} {v1 : Value} {v2 : Value} {v3 : Value} {v4 : Value} : am_g d X am_m1011 5 [v0, v1, v2, v3, v4] (a1 :: a0 :: sk) st Q = (sk.length ≤ 4 ∧ am_Ca X d 9000 [a0, a1] st (am_af am_m1011 5 [v0, v1, v2, v3, v4] sk (fun pc lc sk st => am_g d X am_m1011 pc lc sk st Q) Q)) := am_gu.trans (propext ⟨fun h => ⟨h.1.2, h.2⟩, fun h => ⟨⟨Nat.le_add_left _ _, h.1⟩, h.2⟩⟩)
theorem u1011_8 {v1 : Value} {v2 : Value} {v3 : Value} {v4 : Value} {x : Nat} : am_g d X am_m1011 8 [.ref x, v1, v2, v3, v4] sk st Q = am_g d X am_m1011 9 [.ref x, v1, v2, v3, v4] (.ref x :: sk) st Q := am_gu.trans rfl
theorem u1011_9 {v0 : Value} {v1 : Value} {v2 : Value} {v3 : Value} {v4 : Value} : am_g d X am_m1011 9 [v0, v1, v2, v3, v4] sk st Q = am_gt 32 12 [v0, v1, v2, v3, v4] sk st (fun pc lc sk st => am_g d X am_m1011 pc lc sk st Q) := am_gu.trans rfl
theorem u1011_12 {v0 : Value} {v1 : Value} {v3 : Value} {v4 : Value} {x : Int32} : am_g d X am_m1011 12 [v0, v1, .int x, v3, v4] sk st Q = am_g d X am_m1011 13 [v0, v1, .int x, v3, v4] (.int x :: sk) st Q := am_gu.trans rfl
theorem u1011_13 {v0 : Value} {v1 : Value} {v2 : Value} {v3 : Value} {v4 : Value} : am_g d X am_m1011 13 [v0, v1, v2, v3, v4] sk st Q = am_g d X am_m1011 14 [v0, v1, v2, v3, v4] (.int (am_i 1) :: sk) st Q := am_gu.trans rfl
theorem u1011_14 {a0 : Value} {a1 : Value} {a2 : Value} {v0 : Value} {v1 : Value} {v2 : Value} {v3 : Value} {v4 : Value} : am_g d X am_m1011 14 [v0, v1, v2, v3, v4] (a2 :: a1 :: a0 :: sk) st Q = (sk.length ≤ 4 ∧ am_Ca X d 1016 [a0, a1, a2] st (am_af am_m1011 14 [v0, v1, v2, v3, v4] sk (fun pc lc sk st => am_g d X am_m1011 pc lc sk st Q) Q)) := am_gu.trans (propext ⟨fun h => ⟨h.1.2, h.2⟩, fun h => ⟨⟨Nat.le_add_left _ _, h.1⟩, h.2⟩⟩)
theorem u1011_17 {v1 : Value} {v2 : Value} {v3 : Value} {v4 : Value} {x : Nat} : am_g d X am_m1011 17 [.ref x, v1, v2, v3, v4] sk st Q = am_g d X am_m1011 18 [.ref x, v1, v2, v3, v4] (.ref x :: sk) st Q := am_gu.trans rfl
theorem u1011_18 {v0 : Value} {v1 : Value} {v2 : Value} {v3 : Value} {v4 : Value} : am_g d X am_m1011 18 [v0, v1, v2, v3, v4] sk st Q = am_gt 32 21 [v0, v1, v2, v3, v4] sk st (fun pc lc sk st => am_g d X am_m1011 pc lc sk st Q) := am_gu.trans rfl
theorem u1011_21 {v0 : Value} {v1 : Value} {v2 : Value} {v4 : Value} {x : Int32} : am_g d X am_m1011 21 [v0, v1, v2, .int x, v4] sk st Q = am_g d X am_m1011 22 [v0, v1, v2, .int x, v4] (.int x :: sk) st Q := am_gu.trans rfl
theorem u1011_22 {v0 : Value} {v1 : Value} {v2 : Value} {v3 : Value} {v4 : Value} : am_g d X am_m1011 22 [v0, v1, v2, v3, v4] sk st Q = am_g d X am_m1011 23 [v0, v1, v2, v3, v4] (.int (am_i 2) :: sk) st Q := am_gu.trans rfl
theorem u1011_23 {a0 : Value} {a1 : Value} {a2 : Value} {v0 : Value} {v1 : Value} {v2 : Value} {v3 : Value} {v4 : Value} : am_g d X am_m1011 23 [v0, v1, v2, v3, v4] (a2 :: a1 :: a0 :: sk) st Q = (sk.length ≤ 4 ∧ am_Ca X d 1016 [a0, a1, a2] st (am_af am_m1011 23 [v0, v1, v2, v3, v4] sk (fun pc lc sk st => am_g d X am_m1011 pc lc sk st Q) Q)) := am_gu.trans (propext ⟨fun h => ⟨h.1.2, h.2⟩, fun h => ⟨⟨Nat.le_add_left _ _, h.1⟩, h.2⟩⟩)
theorem u1011_26 {v0 : Value} {v1 : Value} {v2 : Value} {v3 : Value} {v4 : Value} : am_g d X am_m1011 26 [v0, v1, v2, v3, v4] sk st Q = am_g d X am_m1011 28 [v0, v1, v2, v3, v4] (.int (am_i 59) :: sk) st Q := am_gu.trans rfl
theorem u1011_28 {v0 : Value} {v1 : Value} {v2 : Value} {v3 : Value} {v4 : Value} {x : Int32} : am_g d X am_m1011 28 [v0, v1, v2, v3, v4] (.int x :: sk) st Q = am_g d X am_m1011 30 [v0, v1, v2, am_kc v3, .int x] sk st Q := am_gu.trans (congrArg (fun l => am_g d X am_m1011 30 (List.set l 4 (.int x)) sk st Q) (kl_4 (l := [v4])))
theorem u1011_30 {v0 : Value} {v1 : Value} {v2 : Value} {v3 : Value} {x : Int32} : am_g d X am_m1011 30 [v0, v1, v2, v3, .int x] sk st Q = am_g d X am_m1011 32 [v0, v1, v2, v3, .int x] (.int x :: sk) st Q := am_gu.trans rfl
theorem u1011_32 {v0 : Value} {v1 : Value} {v2 : Value} {v3 : Value} {v4 : Value} {x : Int32} : am_g d X am_m1011 32 [v0, v1, v2, v3, v4] (.int x :: sk) st Q = (if decide (x < 0) = true then am_g d X am_m1011 95 [v0, v1, v2, v3, v4] sk st Q else am_g d X am_m1011 35 [v0, v1, v2, v3, v4] sk st Q) := am_gu.trans rfl
theorem u1011_35 {v1 : Value} {v2 : Value} {v3 : Value} {v4 : Value} {x : Nat} : am_g d X am_m1011 35 [.ref x, v1, v2, v3, v4] sk st Q = am_g d X am_m1011 36 [.ref x, v1, v2, v3, v4] (.ref x :: sk) st Q := am_gu.trans rfl
theorem u1011_36 {v0 : Value} {v1 : Value} {v2 : Value} {v3 : Value} {v4 : Value} : am_g d X am_m1011 36 [v0, v1, v2, v3, v4] sk st Q = am_gt 32 39 [v0, v1, v2, v3, v4] sk st (fun pc lc sk st => am_g d X am_m1011 pc lc sk st Q) := am_gu.trans rfl
theorem u1011_39 {v0 : Value} {v1 : Value} {v2 : Value} {v3 : Value} {x : Int32} : am_g d X am_m1011 39 [v0, v1, v2, v3, .int x] sk st Q = am_g d X am_m1011 41 [v0, v1, v2, v3, .int x] (.int x :: sk) st Q := am_gu.trans rfl
theorem u1011_41 {v0 : Value} {v1 : Value} {v2 : Value} {v3 : Value} {v4 : Value} : am_g d X am_m1011 41 [v0, v1, v2, v3, v4] sk st Q = am_xl (X.1, X.2.1, d) am_m1011 42 [v0, v1, v2, v3, v4] sk st (fun pc lc sk st => am_g d X am_m1011 pc lc sk st Q) := am_gu.trans rfl
theorem u1011_42 {v0 : Value} {v1 : Value} {v2 : Value} {v3 : Value} {v4 : Value} : am_g d X am_m1011 42 [v0, v1, v2, v3, v4] sk st Q = am_g d X am_m1011 43 [v0, v1, v2, v3, v4] (.int (am_i 3) :: sk) st Q := am_gu.trans rfl
theorem u1011_43 {v0 : Value} {v1 : Value} {v2 : Value} {v3 : Value} {v4 : Value} {x : Int32} {y : Int32} : am_g d X am_m1011 43 [v0, v1, v2, v3, v4] (.int y :: .int x :: sk) st Q = (if decide (¬ x = y) = true then am_g d X am_m1011 49 [v0, v1, v2, v3, v4] sk st Q else am_g d X am_m1011 46 [v0, v1, v2, v3, v4] sk st Q) := am_gu.trans rfl
theorem u1011_46 {v0 : Value} {v1 : Value} {v2 : Value} {v3 : Value} {x : Int32} : am_g d X am_m1011 46 [v0, v1, v2, v3, .int x] sk st Q = am_g d X am_m1011 48 [v0, v1, v2, v3, .int x] (.int x :: sk) st Q := am_gu.trans rfl
theorem u1011_48 {v0 : Value} {v1 : Value} {v2 : Value} {v3 : Value} {v4 : Value} {x : Int32} : am_g d X am_m1011 48 [v0, v1, v2, v3, v4] [.int x] st Q = Q (.inl (some (.int x))) st := am_gu.trans rfl
theorem u1011_49 {v1 : Value} {v2 : Value} {v3 : Value} {v4 : Value} {x : Nat} : am_g d X am_m1011 49 [.ref x, v1, v2, v3, v4] sk st Q = am_g d X am_m1011 50 [.ref x, v1, v2, v3, v4] (.ref x :: sk) st Q := am_gu.trans rfl
theorem u1011_50 {v0 : Value} {v1 : Value} {v2 : Value} {v3 : Value} {v4 : Value} : am_g d X am_m1011 50 [v0, v1, v2, v3, v4] sk st Q = am_gt 32 53 [v0, v1, v2, v3, v4] sk st (fun pc lc sk st => am_g d X am_m1011 pc lc sk st Q) := am_gu.trans rfl
theorem u1011_53 {v0 : Value} {v2 : Value} {v3 : Value} {v4 : Value} {x : Nat} : am_g d X am_m1011 53 [v0, .ref x, v2, v3, v4] sk st Q = am_g d X am_m1011 54 [v0, .ref x, v2, v3, v4] (.ref x :: sk) st Q := am_gu.trans rfl
theorem u1011_54 {v0 : Value} {v1 : Value} {v2 : Value} {v3 : Value} {x : Int32} : am_g d X am_m1011 54 [v0, v1, v2, v3, .int x] sk st Q = am_g d X am_m1011 56 [v0, v1, v2, v3, .int x] (.int x :: sk) st Q := am_gu.trans rfl
theorem u1011_56 {a0 : Value} {v0 : Value} {v1 : Value} {v2 : Value} {v3 : Value} {v4 : Value} : am_g d X am_m1011 56 [v0, v1, v2, v3, v4] (a0 :: .ref o :: sk) st Q = ((am_ob st o 5 ∧ sk.length ≤ 5) ∧ am_Ca X d 5005 [.ref o, a0] st (am_af am_m1011 56 [v0, v1, v2, v3, v4] sk (fun pc lc sk st => am_g d X am_m1011 pc lc sk st Q) Q)) := am_gu.trans rfl
theorem u1011_59 {v1 : Value} {v2 : Value} {v3 : Value} {v4 : Value} {x : Nat} : am_g d X am_m1011 59 [.ref x, v1, v2, v3, v4] sk st Q = am_g d X am_m1011 60 [.ref x, v1, v2, v3, v4] (.ref x :: sk) st Q := am_gu.trans rfl
theorem u1011_60 {v0 : Value} {v1 : Value} {v2 : Value} {v3 : Value} {v4 : Value} : am_g d X am_m1011 60 [v0, v1, v2, v3, v4] sk st Q = am_gt 32 63 [v0, v1, v2, v3, v4] sk st (fun pc lc sk st => am_g d X am_m1011 pc lc sk st Q) := am_gu.trans rfl
theorem u1011_63 {v0 : Value} {v1 : Value} {v2 : Value} {v3 : Value} {x : Int32} : am_g d X am_m1011 63 [v0, v1, v2, v3, .int x] sk st Q = am_g d X am_m1011 65 [v0, v1, v2, v3, .int x] (.int x :: sk) st Q := am_gu.trans rfl
theorem u1011_65 {v0 : Value} {v1 : Value} {v2 : Value} {v3 : Value} {v4 : Value} : am_g d X am_m1011 65 [v0, v1, v2, v3, v4] sk st Q = am_xl (X.1, X.2.1, d) am_m1011 66 [v0, v1, v2, v3, v4] sk st (fun pc lc sk st => am_g d X am_m1011 pc lc sk st Q) := am_gu.trans rfl
theorem u1011_66 {a0 : Value} {a1 : Value} {a2 : Value} {v0 : Value} {v1 : Value} {v2 : Value} {v3 : Value} {v4 : Value} : am_g d X am_m1011 66 [v0, v1, v2, v3, v4] (a2 :: a1 :: a0 :: sk) st Q = (sk.length ≤ 4 ∧ am_Ca X d 1016 [a0, a1, a2] st (am_af am_m1011 66 [v0, v1, v2, v3, v4] sk (fun pc lc sk st => am_g d X am_m1011 pc lc sk st Q) Q)) := am_gu.trans (propext ⟨fun h => ⟨h.1.2, h.2⟩, fun h => ⟨⟨Nat.le_add_left _ _, h.1⟩, h.2⟩⟩)
theorem u1011_69 {v1 : Value} {v2 : Value} {v3 : Value} {v4 : Value} {x : Nat} : am_g d X am_m1011 69 [.ref x, v1, v2, v3, v4] sk st Q = am_g d X am_m1011 70 [.ref x, v1, v2, v3, v4] (.ref x :: sk) st Q := am_gu.trans rfl
theorem u1011_70 {v0 : Value} {v1 : Value} {v2 : Value} {v3 : Value} {v4 : Value} : am_g d X am_m1011 70 [v0, v1, v2, v3, v4] sk st Q = am_gt 32 73 [v0, v1, v2, v3, v4] sk st (fun pc lc sk st => am_g d X am_m1011 pc lc sk st Q) := am_gu.trans rfl
theorem u1011_73 {v0 : Value} {v2 : Value} {v3 : Value} {v4 : Value} {x : Nat} : am_g d X am_m1011 73 [v0, .ref x, v2, v3, v4] sk st Q = am_g d X am_m1011 74 [v0, .ref x, v2, v3, v4] (.ref x :: sk) st Q := am_gu.trans rfl
theorem u1011_74 {v0 : Value} {v1 : Value} {v2 : Value} {v3 : Value} {x : Int32} : am_g d X am_m1011 74 [v0, v1, v2, v3, .int x] sk st Q = am_g d X am_m1011 76 [v0, v1, v2, v3, .int x] (.int x :: sk) st Q := am_gu.trans rfl
theorem u1011_76 {a0 : Value} {v0 : Value} {v1 : Value} {v2 : Value} {v3 : Value} {v4 : Value} : am_g d X am_m1011 76 [v0, v1, v2, v3, v4] (a0 :: .ref o :: sk) st Q = ((am_ob st o 5 ∧ sk.length ≤ 5) ∧ am_Ca X d 5006 [.ref o, a0] st (am_af am_m1011 76 [v0, v1, v2, v3, v4] sk (fun pc lc sk st => am_g d X am_m1011 pc lc sk st Q) Q)) := am_gu.trans rfl
theorem u1011_79 {v1 : Value} {v2 : Value} {v3 : Value} {v4 : Value} {x : Nat} : am_g d X am_m1011 79 [.ref x, v1, v2, v3, v4] sk st Q = am_g d X am_m1011 80 [.ref x, v1, v2, v3, v4] (.ref x :: sk) st Q := am_gu.trans rfl
theorem u1011_80 {v0 : Value} {v1 : Value} {v2 : Value} {v3 : Value} {v4 : Value} : am_g d X am_m1011 80 [v0, v1, v2, v3, v4] sk st Q = am_gt 32 83 [v0, v1, v2, v3, v4] sk st (fun pc lc sk st => am_g d X am_m1011 pc lc sk st Q) := am_gu.trans rfl
theorem u1011_83 {v0 : Value} {v1 : Value} {v2 : Value} {v3 : Value} {x : Int32} : am_g d X am_m1011 83 [v0, v1, v2, v3, .int x] sk st Q = am_g d X am_m1011 85 [v0, v1, v2, v3, .int x] (.int x :: sk) st Q := am_gu.trans rfl
theorem u1011_85 {v0 : Value} {v1 : Value} {v2 : Value} {v3 : Value} {v4 : Value} : am_g d X am_m1011 85 [v0, v1, v2, v3, v4] sk st Q = am_xl (X.1, X.2.1, d) am_m1011 86 [v0, v1, v2, v3, v4] sk st (fun pc lc sk st => am_g d X am_m1011 pc lc sk st Q) := am_gu.trans rfl
theorem u1011_86 {a0 : Value} {a1 : Value} {a2 : Value} {v0 : Value} {v1 : Value} {v2 : Value} {v3 : Value} {v4 : Value} : am_g d X am_m1011 86 [v0, v1, v2, v3, v4] (a2 :: a1 :: a0 :: sk) st Q = (sk.length ≤ 4 ∧ am_Ca X d 1016 [a0, a1, a2] st (am_af am_m1011 86 [v0, v1, v2, v3, v4] sk (fun pc lc sk st => am_g d X am_m1011 pc lc sk st Q) Q)) := am_gu.trans (propext ⟨fun h => ⟨h.1.2, h.2⟩, fun h => ⟨⟨Nat.le_add_left _ _, h.1⟩, h.2⟩⟩)
theorem u1011_89 {v0 : Value} {v1 : Value} {v2 : Value} {v3 : Value} {x : Int32} : am_g d X am_m1011 89 [v0, v1, v2, v3, .int x] sk st Q = am_g d X am_m1011 92 [v0, v1, v2, am_kc v3, .int (x + am_i (-1))] sk st Q := am_gu.trans (congrArg (fun l => am_g d X am_m1011 92 (List.set l 4 (.int (x + am_i (-1)))) sk st Q) (kl_4 (l := [.int x])))
theorem u1011_92 {v0 : Value} {v1 : Value} {v2 : Value} {v3 : Value} {v4 : Value} : am_g d X am_m1011 92 [v0, v1, v2, v3, v4] sk st Q = am_g d X am_m1011 30 [v0, v1, v2, v3, v4] sk st Q := am_gu.trans rfl
theorem u1011_95 {v0 : Value} {v1 : Value} {v2 : Value} {v3 : Value} {v4 : Value} : am_g d X am_m1011 95 [v0, v1, v2, v3, v4] sk st Q = am_g d X am_m1011 96 [v0, v1, v2, v3, v4] (.int (am_i (-1)) :: sk) st Q := am_gu.trans rfl
theorem u1011_96 {v0 : Value} {v1 : Value} {v2 : Value} {v3 : Value} {v4 : Value} {x : Int32} : am_g d X am_m1011 96 [v0, v1, v2, v3, v4] [.int x] st Q = Q (.inl (some (.int x))) st := am_gu.trans rfl
set_option maxRecDepth 100000 in
theorem of_1012 : am_of 1012 = some am_m1012 := rfl
theorem c1012 {z a0 a1 a2} {P : am_Q} : am_Ca X (d + 1) 1012 [.ref z, .ref a0, .int a1, .int a2] st P = am_g d X am_m1012 0 [.ref z, .ref a0, .int a1, .int a2, am_u] [] st P := am_cg of_1012 (by show 4 ≤ 5; decide)
theorem hd_1012 : am_hd am_m1012 = [] := rfl
theorem u1012_0 {v1 : Value} {v2 : Value} {v3 : Value} {v4 : Value} {x : Nat} : am_g d X am_m1012 0 [.ref x, v1, v2, v3, v4] sk st Q = am_g d X am_m1012 1 [.ref x, v1, v2, v3, v4] (.ref x :: sk) st Q := am_gu.trans rfl
theorem u1012_1 {v0 : Value} {v1 : Value} {v2 : Value} {v3 : Value} {v4 : Value} : am_g d X am_m1012 1 [v0, v1, v2, v3, v4] sk st Q = am_gt 32 4 [v0, v1, v2, v3, v4] sk st (fun pc lc sk st => am_g d X am_m1012 pc lc sk st Q) := am_gu.trans rfl
theorem u1012_4 {v0 : Value} {v1 : Value} {v2 : Value} {v3 : Value} {v4 : Value} : am_g d X am_m1012 4 [v0, v1, v2, v3, v4] sk st Q = am_g d X am_m1012 5 [v0, v1, v2, v3, v4] (.int (am_i 0) :: sk) st Q := am_gu.trans rfl
theorem u1012_5 {a0 : Value} {a1 : Value} {v0 : Value} {v1 : Value} {v2 : Value} {v3 : Value} {v4 : Value} : am_g d X am_m1012 5 [v0, v1, v2, v3, v4] (a1 :: a0 :: sk) st Q = (sk.length ≤ 4 ∧ am_Ca X d 9000 [a0, a1] st (am_af am_m1012 5 [v0, v1, v2, v3, v4] sk (fun pc lc sk st => am_g d X am_m1012 pc lc sk st Q) Q)) := am_gu.trans (propext ⟨fun h => ⟨h.1.2, h.2⟩, fun h => ⟨⟨Nat.le_add_left _ _, h.1⟩, h.2⟩⟩)
theorem u1012_8 {v0 : Value} {v2 : Value} {v3 : Value} {v4 : Value} {x : Nat} : am_g d X am_m1012 8 [v0, .ref x, v2, v3, v4] sk st Q = am_g d X am_m1012 9 [v0, .ref x, v2, v3, v4] (.ref x :: sk) st Q := am_gu.trans rfl
theorem u1012_9 {v0 : Value} {v1 : Value} {v3 : Value} {v4 : Value} {x : Int32} : am_g d X am_m1012 9 [v0, v1, .int x, v3, v4] sk st Q = am_g d X am_m1012 10 [v0, v1, .int x, v3, v4] (.int x :: sk) st Q := am_gu.trans rfl
theorem u1012_10 {v1 : Value} {v2 : Value} {v3 : Value} {v4 : Value} {x : Nat} : am_g d X am_m1012 10 [.ref x, v1, v2, v3, v4] sk st Q = am_g d X am_m1012 11 [.ref x, v1, v2, v3, v4] (.ref x :: sk) st Q := am_gu.trans rfl
theorem u1012_11 {v0 : Value} {v1 : Value} {v2 : Value} {v3 : Value} {v4 : Value} : am_g d X am_m1012 11 [v0, v1, v2, v3, v4] sk st Q = am_gt 32 14 [v0, v1, v2, v3, v4] sk st (fun pc lc sk st => am_g d X am_m1012 pc lc sk st Q) := am_gu.trans rfl
theorem u1012_14 {a0 : Value} {a1 : Value} {a2 : Value} {v0 : Value} {v1 : Value} {v2 : Value} {v3 : Value} {v4 : Value} : am_g d X am_m1012 14 [v0, v1, v2, v3, v4] (a2 :: a1 :: a0 :: sk) st Q = (sk.length ≤ 4 ∧ am_Ca X d 1017 [a0, a1, a2] st (am_af am_m1012 14 [v0, v1, v2, v3, v4] sk (fun pc lc sk st => am_g d X am_m1012 pc lc sk st Q) Q)) := am_gu.trans (propext ⟨fun h => ⟨h.1.2, h.2⟩, fun h => ⟨⟨Nat.le_add_left _ _, h.1⟩, h.2⟩⟩)
theorem u1012_17 {v1 : Value} {v2 : Value} {v3 : Value} {v4 : Value} {x : Nat} : am_g d X am_m1012 17 [.ref x, v1, v2, v3, v4] sk st Q = am_g d X am_m1012 18 [.ref x, v1, v2, v3, v4] (.ref x :: sk) st Q := am_gu.trans rfl
theorem u1012_18 {v0 : Value} {v1 : Value} {v2 : Value} {v3 : Value} {v4 : Value} : am_g d X am_m1012 18 [v0, v1, v2, v3, v4] sk st Q = am_gt 33 21 [v0, v1, v2, v3, v4] sk st (fun pc lc sk st => am_g d X am_m1012 pc lc sk st Q) := am_gu.trans rfl
theorem u1012_21 {v0 : Value} {v1 : Value} {v2 : Value} {v3 : Value} {v4 : Value} : am_g d X am_m1012 21 [v0, v1, v2, v3, v4] sk st Q = am_g d X am_m1012 22 [v0, v1, v2, v3, v4] (.int (am_i 0) :: sk) st Q := am_gu.trans rfl
theorem u1012_22 {a0 : Value} {a1 : Value} {v0 : Value} {v1 : Value} {v2 : Value} {v3 : Value} {v4 : Value} : am_g d X am_m1012 22 [v0, v1, v2, v3, v4] (a1 :: a0 :: sk) st Q = (sk.length ≤ 4 ∧ am_Ca X d 9000 [a0, a1] st (am_af am_m1012 22 [v0, v1, v2, v3, v4] sk (fun pc lc sk st => am_g d X am_m1012 pc lc sk st Q) Q)) := am_gu.trans (propext ⟨fun h => ⟨h.1.2, h.2⟩, fun h => ⟨⟨Nat.le_add_left _ _, h.1⟩, h.2⟩⟩)
theorem u1012_25 {v0 : Value} {v2 : Value} {v3 : Value} {v4 : Value} {x : Nat} : am_g d X am_m1012 25 [v0, .ref x, v2, v3, v4] sk st Q = am_g d X am_m1012 26 [v0, .ref x, v2, v3, v4] (.ref x :: sk) st Q := am_gu.trans rfl
theorem u1012_26 {v0 : Value} {v1 : Value} {v2 : Value} {v4 : Value} {x : Int32} : am_g d X am_m1012 26 [v0, v1, v2, .int x, v4] sk st Q = am_g d X am_m1012 27 [v0, v1, v2, .int x, v4] (.int x :: sk) st Q := am_gu.trans rfl
theorem u1012_27 {v1 : Value} {v2 : Value} {v3 : Value} {v4 : Value} {x : Nat} : am_g d X am_m1012 27 [.ref x, v1, v2, v3, v4] sk st Q = am_g d X am_m1012 28 [.ref x, v1, v2, v3, v4] (.ref x :: sk) st Q := am_gu.trans rfl
theorem u1012_28 {v0 : Value} {v1 : Value} {v2 : Value} {v3 : Value} {v4 : Value} : am_g d X am_m1012 28 [v0, v1, v2, v3, v4] sk st Q = am_gt 33 31 [v0, v1, v2, v3, v4] sk st (fun pc lc sk st => am_g d X am_m1012 pc lc sk st Q) := am_gu.trans rfl
theorem u1012_31 {a0 : Value} {a1 : Value} {a2 : Value} {v0 : Value} {v1 : Value} {v2 : Value} {v3 : Value} {v4 : Value} : am_g d X am_m1012 31 [v0, v1, v2, v3, v4] (a2 :: a1 :: a0 :: sk) st Q = (sk.length ≤ 4 ∧ am_Ca X d 1017 [a0, a1, a2] st (am_af am_m1012 31 [v0, v1, v2, v3, v4] sk (fun pc lc sk st => am_g d X am_m1012 pc lc sk st Q) Q)) := am_gu.trans (propext ⟨fun h => ⟨h.1.2, h.2⟩, fun h => ⟨⟨Nat.le_add_left _ _, h.1⟩, h.2⟩⟩)
theorem u1012_34 {v0 : Value} {v1 : Value} {v2 : Value} {v3 : Value} {v4 : Value} : am_g d X am_m1012 34 [v0, v1, v2, v3, v4] sk st Q = am_g d X am_m1012 36 [v0, v1, v2, v3, v4] (.int (am_i 59) :: sk) st Q := am_gu.trans rfl
theorem u1012_36 {v0 : Value} {v1 : Value} {v2 : Value} {v3 : Value} {v4 : Value} {x : Int32} : am_g d X am_m1012 36 [v0, v1, v2, v3, v4] (.int x :: sk) st Q = am_g d X am_m1012 38 [v0, v1, v2, am_kc v3, .int x] sk st Q := am_gu.trans (congrArg (fun l => am_g d X am_m1012 38 (List.set l 4 (.int x)) sk st Q) (kl_4 (l := [v4])))
theorem u1012_38 {v0 : Value} {v1 : Value} {v2 : Value} {v3 : Value} {x : Int32} : am_g d X am_m1012 38 [v0, v1, v2, v3, .int x] sk st Q = am_g d X am_m1012 40 [v0, v1, v2, v3, .int x] (.int x :: sk) st Q := am_gu.trans rfl
theorem u1012_40 {v0 : Value} {v1 : Value} {v2 : Value} {v3 : Value} {v4 : Value} {x : Int32} : am_g d X am_m1012 40 [v0, v1, v2, v3, v4] (.int x :: sk) st Q = (if decide (x < 0) = true then am_g d X am_m1012 76 [v0, v1, v2, v3, v4] sk st Q else am_g d X am_m1012 43 [v0, v1, v2, v3, v4] sk st Q) := am_gu.trans rfl
theorem u1012_43 {v1 : Value} {v2 : Value} {v3 : Value} {v4 : Value} {x : Nat} : am_g d X am_m1012 43 [.ref x, v1, v2, v3, v4] sk st Q = am_g d X am_m1012 44 [.ref x, v1, v2, v3, v4] (.ref x :: sk) st Q := am_gu.trans rfl
theorem u1012_44 {v0 : Value} {v1 : Value} {v2 : Value} {v3 : Value} {v4 : Value} : am_g d X am_m1012 44 [v0, v1, v2, v3, v4] sk st Q = am_gt 32 47 [v0, v1, v2, v3, v4] sk st (fun pc lc sk st => am_g d X am_m1012 pc lc sk st Q) := am_gu.trans rfl
theorem u1012_47 {v0 : Value} {v1 : Value} {v2 : Value} {v3 : Value} {x : Int32} : am_g d X am_m1012 47 [v0, v1, v2, v3, .int x] sk st Q = am_g d X am_m1012 49 [v0, v1, v2, v3, .int x] (.int x :: sk) st Q := am_gu.trans rfl
theorem u1012_49 {a0 : Value} {a1 : Value} {v0 : Value} {v1 : Value} {v2 : Value} {v3 : Value} {v4 : Value} : am_g d X am_m1012 49 [v0, v1, v2, v3, v4] (a1 :: a0 :: sk) st Q = (sk.length ≤ 4 ∧ am_Ca X d 1015 [a0, a1] st (am_af am_m1012 49 [v0, v1, v2, v3, v4] sk (fun pc lc sk st => am_g d X am_m1012 pc lc sk st Q) Q)) := am_gu.trans (propext ⟨fun h => ⟨h.1.2, h.2⟩, fun h => ⟨⟨Nat.le_add_left _ _, h.1⟩, h.2⟩⟩)
theorem u1012_52 {v0 : Value} {v1 : Value} {v2 : Value} {v3 : Value} {v4 : Value} {x : Int32} : am_g d X am_m1012 52 [v0, v1, v2, v3, v4] (.int x :: sk) st Q = (if decide (x = 0) = true then am_g d X am_m1012 70 [v0, v1, v2, v3, v4] sk st Q else am_g d X am_m1012 55 [v0, v1, v2, v3, v4] sk st Q) := am_gu.trans rfl
theorem u1012_55 {v1 : Value} {v2 : Value} {v3 : Value} {v4 : Value} {x : Nat} : am_g d X am_m1012 55 [.ref x, v1, v2, v3, v4] sk st Q = am_g d X am_m1012 56 [.ref x, v1, v2, v3, v4] (.ref x :: sk) st Q := am_gu.trans rfl
theorem u1012_56 {v0 : Value} {v1 : Value} {v2 : Value} {v3 : Value} {v4 : Value} : am_g d X am_m1012 56 [v0, v1, v2, v3, v4] sk st Q = am_gt 33 59 [v0, v1, v2, v3, v4] sk st (fun pc lc sk st => am_g d X am_m1012 pc lc sk st Q) := am_gu.trans rfl
theorem u1012_59 {v0 : Value} {v1 : Value} {v2 : Value} {v3 : Value} {x : Int32} : am_g d X am_m1012 59 [v0, v1, v2, v3, .int x] sk st Q = am_g d X am_m1012 61 [v0, v1, v2, v3, .int x] (.int x :: sk) st Q := am_gu.trans rfl
theorem u1012_61 {a0 : Value} {a1 : Value} {v0 : Value} {v1 : Value} {v2 : Value} {v3 : Value} {v4 : Value} : am_g d X am_m1012 61 [v0, v1, v2, v3, v4] (a1 :: a0 :: sk) st Q = (sk.length ≤ 4 ∧ am_Ca X d 1015 [a0, a1] st (am_af am_m1012 61 [v0, v1, v2, v3, v4] sk (fun pc lc sk st => am_g d X am_m1012 pc lc sk st Q) Q)) := am_gu.trans (propext ⟨fun h => ⟨h.1.2, h.2⟩, fun h => ⟨⟨Nat.le_add_left _ _, h.1⟩, h.2⟩⟩)
theorem u1012_64 {v0 : Value} {v1 : Value} {v2 : Value} {v3 : Value} {v4 : Value} {x : Int32} : am_g d X am_m1012 64 [v0, v1, v2, v3, v4] (.int x :: sk) st Q = (if decide (x = 0) = true then am_g d X am_m1012 70 [v0, v1, v2, v3, v4] sk st Q else am_g d X am_m1012 67 [v0, v1, v2, v3, v4] sk st Q) := am_gu.trans rfl
theorem u1012_67 {v0 : Value} {v1 : Value} {v2 : Value} {v3 : Value} {x : Int32} : am_g d X am_m1012 67 [v0, v1, v2, v3, .int x] sk st Q = am_g d X am_m1012 69 [v0, v1, v2, v3, .int x] (.int x :: sk) st Q := am_gu.trans rfl
theorem u1012_69 {v0 : Value} {v1 : Value} {v2 : Value} {v3 : Value} {v4 : Value} {x : Int32} : am_g d X am_m1012 69 [v0, v1, v2, v3, v4] [.int x] st Q = Q (.inl (some (.int x))) st := am_gu.trans rfl
theorem u1012_70 {v0 : Value} {v1 : Value} {v2 : Value} {v3 : Value} {x : Int32} : am_g d X am_m1012 70 [v0, v1, v2, v3, .int x] sk st Q = am_g d X am_m1012 73 [v0, v1, v2, am_kc v3, .int (x + am_i (-1))] sk st Q := am_gu.trans (congrArg (fun l => am_g d X am_m1012 73 (List.set l 4 (.int (x + am_i (-1)))) sk st Q) (kl_4 (l := [.int x])))
theorem u1012_73 {v0 : Value} {v1 : Value} {v2 : Value} {v3 : Value} {v4 : Value} : am_g d X am_m1012 73 [v0, v1, v2, v3, v4] sk st Q = am_g d X am_m1012 38 [v0, v1, v2, v3, v4] sk st Q := am_gu.trans rfl
theorem u1012_76 {v0 : Value} {v1 : Value} {v2 : Value} {v3 : Value} {v4 : Value} : am_g d X am_m1012 76 [v0, v1, v2, v3, v4] sk st Q = am_g d X am_m1012 77 [v0, v1, v2, v3, v4] (.int (am_i (-1)) :: sk) st Q := am_gu.trans rfl
theorem u1012_77 {v0 : Value} {v1 : Value} {v2 : Value} {v3 : Value} {v4 : Value} {x : Int32} : am_g d X am_m1012 77 [v0, v1, v2, v3, v4] [.int x] st Q = Q (.inl (some (.int x))) st := am_gu.trans rfl
set_option maxRecDepth 100000 in
theorem of_1013 : am_of 1013 = some am_m1013 := rfl
theorem c1013 {z a0 a1 a2} {P : am_Q} : am_Ca X (d + 1) 1013 [.ref z, .ref a0, .int a1, .int a2] st P = am_g d X am_m1013 0 [.ref z, .ref a0, .int a1, .int a2, am_u, am_u] [] st P := am_cg of_1013 (by show 4 ≤ 6; decide)
theorem hd_1013 : am_hd am_m1013 = [] := rfl
theorem u1013_0 {v1 : Value} {v2 : Value} {v3 : Value} {v4 : Value} {v5 : Value} {x : Nat} : am_g d X am_m1013 0 [.ref x, v1, v2, v3, v4, v5] sk st Q = am_g d X am_m1013 1 [.ref x, v1, v2, v3, v4, v5] (.ref x :: sk) st Q := am_gu.trans rfl
theorem u1013_1 {v0 : Value} {v1 : Value} {v2 : Value} {v3 : Value} {v4 : Value} {v5 : Value} : am_g d X am_m1013 1 [v0, v1, v2, v3, v4, v5] sk st Q = am_gt 32 4 [v0, v1, v2, v3, v4, v5] sk st (fun pc lc sk st => am_g d X am_m1013 pc lc sk st Q) := am_gu.trans rfl
theorem u1013_4 {v0 : Value} {v1 : Value} {v2 : Value} {v3 : Value} {v4 : Value} {v5 : Value} : am_g d X am_m1013 4 [v0, v1, v2, v3, v4, v5] sk st Q = am_g d X am_m1013 5 [v0, v1, v2, v3, v4, v5] (.int (am_i 0) :: sk) st Q := am_gu.trans rfl
theorem u1013_5 {a0 : Value} {a1 : Value} {v0 : Value} {v1 : Value} {v2 : Value} {v3 : Value} {v4 : Value} {v5 : Value} : am_g d X am_m1013 5 [v0, v1, v2, v3, v4, v5] (a1 :: a0 :: sk) st Q = (sk.length ≤ 4 ∧ am_Ca X d 9000 [a0, a1] st (am_af am_m1013 5 [v0, v1, v2, v3, v4, v5] sk (fun pc lc sk st => am_g d X am_m1013 pc lc sk st Q) Q)) := am_gu.trans (propext ⟨fun h => ⟨h.1.2, h.2⟩, fun h => ⟨⟨Nat.le_add_left _ _, h.1⟩, h.2⟩⟩)
theorem u1013_8 {v1 : Value} {v2 : Value} {v3 : Value} {v4 : Value} {v5 : Value} {x : Nat} : am_g d X am_m1013 8 [.ref x, v1, v2, v3, v4, v5] sk st Q = am_g d X am_m1013 9 [.ref x, v1, v2, v3, v4, v5] (.ref x :: sk) st Q := am_gu.trans rfl
theorem u1013_9 {v0 : Value} {v1 : Value} {v2 : Value} {v3 : Value} {v4 : Value} {v5 : Value} : am_g d X am_m1013 9 [v0, v1, v2, v3, v4, v5] sk st Q = am_gt 32 12 [v0, v1, v2, v3, v4, v5] sk st (fun pc lc sk st => am_g d X am_m1013 pc lc sk st Q) := am_gu.trans rfl
theorem u1013_12 {v0 : Value} {v1 : Value} {v3 : Value} {v4 : Value} {v5 : Value} {x : Int32} : am_g d X am_m1013 12 [v0, v1, .int x, v3, v4, v5] sk st Q = am_g d X am_m1013 13 [v0, v1, .int x, v3, v4, v5] (.int x :: sk) st Q := am_gu.trans rfl
theorem u1013_13 {v0 : Value} {v1 : Value} {v2 : Value} {v3 : Value} {v4 : Value} {v5 : Value} : am_g d X am_m1013 13 [v0, v1, v2, v3, v4, v5] sk st Q = am_g d X am_m1013 14 [v0, v1, v2, v3, v4, v5] (.int (am_i 1) :: sk) st Q := am_gu.trans rfl
theorem u1013_14 {a0 : Value} {a1 : Value} {a2 : Value} {v0 : Value} {v1 : Value} {v2 : Value} {v3 : Value} {v4 : Value} {v5 : Value} : am_g d X am_m1013 14 [v0, v1, v2, v3, v4, v5] (a2 :: a1 :: a0 :: sk) st Q = (sk.length ≤ 4 ∧ am_Ca X d 1016 [a0, a1, a2] st (am_af am_m1013 14 [v0, v1, v2, v3, v4, v5] sk (fun pc lc sk st => am_g d X am_m1013 pc lc sk st Q) Q)) := am_gu.trans (propext ⟨fun h => ⟨h.1.2, h.2⟩, fun h => ⟨⟨Nat.le_add_left _ _, h.1⟩, h.2⟩⟩)
theorem u1013_17 {v1 : Value} {v2 : Value} {v3 : Value} {v4 : Value} {v5 : Value} {x : Nat} : am_g d X am_m1013 17 [.ref x, v1, v2, v3, v4, v5] sk st Q = am_g d X am_m1013 18 [.ref x, v1, v2, v3, v4, v5] (.ref x :: sk) st Q := am_gu.trans rfl
theorem u1013_18 {v0 : Value} {v1 : Value} {v2 : Value} {v3 : Value} {v4 : Value} {v5 : Value} : am_g d X am_m1013 18 [v0, v1, v2, v3, v4, v5] sk st Q = am_gt 32 21 [v0, v1, v2, v3, v4, v5] sk st (fun pc lc sk st => am_g d X am_m1013 pc lc sk st Q) := am_gu.trans rfl
theorem u1013_21 {v0 : Value} {v1 : Value} {v2 : Value} {v4 : Value} {v5 : Value} {x : Int32} : am_g d X am_m1013 21 [v0, v1, v2, .int x, v4, v5] sk st Q = am_g d X am_m1013 22 [v0, v1, v2, .int x, v4, v5] (.int x :: sk) st Q := am_gu.trans rfl
theorem u1013_22 {v0 : Value} {v1 : Value} {v2 : Value} {v3 : Value} {v4 : Value} {v5 : Value} : am_g d X am_m1013 22 [v0, v1, v2, v3, v4, v5] sk st Q = am_g d X am_m1013 23 [v0, v1, v2, v3, v4, v5] (.int (am_i 2) :: sk) st Q := am_gu.trans rfl
theorem u1013_23 {a0 : Value} {a1 : Value} {a2 : Value} {v0 : Value} {v1 : Value} {v2 : Value} {v3 : Value} {v4 : Value} {v5 : Value} : am_g d X am_m1013 23 [v0, v1, v2, v3, v4, v5] (a2 :: a1 :: a0 :: sk) st Q = (sk.length ≤ 4 ∧ am_Ca X d 1016 [a0, a1, a2] st (am_af am_m1013 23 [v0, v1, v2, v3, v4, v5] sk (fun pc lc sk st => am_g d X am_m1013 pc lc sk st Q) Q)) := am_gu.trans (propext ⟨fun h => ⟨h.1.2, h.2⟩, fun h => ⟨⟨Nat.le_add_left _ _, h.1⟩, h.2⟩⟩)
theorem u1013_26 {v0 : Value} {v1 : Value} {v2 : Value} {v3 : Value} {v4 : Value} {v5 : Value} : am_g d X am_m1013 26 [v0, v1, v2, v3, v4, v5] sk st Q = am_g d X am_m1013 27 [v0, v1, v2, v3, v4, v5] (.int (am_i 0) :: sk) st Q := am_gu.trans rfl
theorem u1013_27 {v0 : Value} {v1 : Value} {v2 : Value} {v3 : Value} {v4 : Value} {v5 : Value} {x : Int32} : am_g d X am_m1013 27 [v0, v1, v2, v3, v4, v5] (.int x :: sk) st Q = am_g d X am_m1013 29 [v0, v1, v2, am_kc v3, .int x, v5] sk st Q := am_gu.trans (congrArg (fun l => am_g d X am_m1013 29 (List.set l 4 (.int x)) sk st Q) (kl_4 (l := [v4, v5])))
theorem u1013_29 {v0 : Value} {v1 : Value} {v2 : Value} {v3 : Value} {v4 : Value} {v5 : Value} : am_g d X am_m1013 29 [v0, v1, v2, v3, v4, v5] sk st Q = am_g d X am_m1013 31 [v0, v1, v2, v3, v4, v5] (.int (am_i 59) :: sk) st Q := am_gu.trans rfl
theorem u1013_31 {v0 : Value} {v1 : Value} {v2 : Value} {v3 : Value} {v4 : Value} {v5 : Value} {x : Int32} : am_g d X am_m1013 31 [v0, v1, v2, v3, v4, v5] (.int x :: sk) st Q = am_g d X am_m1013 33 [v0, v1, v2, v3, am_kc v4, .int x] sk st Q := am_gu.trans (congrArg (fun l => am_g d X am_m1013 33 (List.set l 5 (.int x)) sk st Q) (kl_5 (l := [v5])))
theorem u1013_33 {v0 : Value} {v1 : Value} {v2 : Value} {v3 : Value} {v4 : Value} {x : Int32} : am_g d X am_m1013 33 [v0, v1, v2, v3, v4, .int x] sk st Q = am_g d X am_m1013 35 [v0, v1, v2, v3, v4, .int x] (.int x :: sk) st Q := am_gu.trans rfl
theorem u1013_35 {v0 : Value} {v1 : Value} {v2 : Value} {v3 : Value} {v4 : Value} {v5 : Value} {x : Int32} : am_g d X am_m1013 35 [v0, v1, v2, v3, v4, v5] (.int x :: sk) st Q = (if decide (x < 0) = true then am_g d X am_m1013 107 [v0, v1, v2, v3, v4, v5] sk st Q else am_g d X am_m1013 38 [v0, v1, v2, v3, v4, v5] sk st Q) := am_gu.trans rfl
theorem u1013_38 {v1 : Value} {v2 : Value} {v3 : Value} {v4 : Value} {v5 : Value} {x : Nat} : am_g d X am_m1013 38 [.ref x, v1, v2, v3, v4, v5] sk st Q = am_g d X am_m1013 39 [.ref x, v1, v2, v3, v4, v5] (.ref x :: sk) st Q := am_gu.trans rfl
theorem u1013_39 {v0 : Value} {v1 : Value} {v2 : Value} {v3 : Value} {v4 : Value} {v5 : Value} : am_g d X am_m1013 39 [v0, v1, v2, v3, v4, v5] sk st Q = am_gt 32 42 [v0, v1, v2, v3, v4, v5] sk st (fun pc lc sk st => am_g d X am_m1013 pc lc sk st Q) := am_gu.trans rfl
theorem u1013_42 {v0 : Value} {v1 : Value} {v2 : Value} {v3 : Value} {v4 : Value} {x : Int32} : am_g d X am_m1013 42 [v0, v1, v2, v3, v4, .int x] sk st Q = am_g d X am_m1013 44 [v0, v1, v2, v3, v4, .int x] (.int x :: sk) st Q := am_gu.trans rfl
theorem u1013_44 {v0 : Value} {v1 : Value} {v2 : Value} {v3 : Value} {v4 : Value} {v5 : Value} : am_g d X am_m1013 44 [v0, v1, v2, v3, v4, v5] sk st Q = am_xl (X.1, X.2.1, d) am_m1013 45 [v0, v1, v2, v3, v4, v5] sk st (fun pc lc sk st => am_g d X am_m1013 pc lc sk st Q) := am_gu.trans rfl
theorem u1013_45 {v0 : Value} {v1 : Value} {v2 : Value} {v3 : Value} {v4 : Value} {v5 : Value} : am_g d X am_m1013 45 [v0, v1, v2, v3, v4, v5] sk st Q = am_g d X am_m1013 46 [v0, v1, v2, v3, v4, v5] (.int (am_i 3) :: sk) st Q := am_gu.trans rfl
theorem u1013_46 {v0 : Value} {v1 : Value} {v2 : Value} {v3 : Value} {v4 : Value} {v5 : Value} {x : Int32} {y : Int32} : am_g d X am_m1013 46 [v0, v1, v2, v3, v4, v5] (.int y :: .int x :: sk) st Q = (if decide (¬ x = y) = true then am_g d X am_m1013 61 [v0, v1, v2, v3, v4, v5] sk st Q else am_g d X am_m1013 49 [v0, v1, v2, v3, v4, v5] sk st Q) := am_gu.trans rfl
theorem u1013_49 {v0 : Value} {v1 : Value} {v2 : Value} {v3 : Value} {v5 : Value} {x : Int32} : am_g d X am_m1013 49 [v0, v1, v2, v3, .int x, v5] sk st Q = am_g d X am_m1013 52 [v0, v1, v2, am_kc v3, .int (x + am_i 1), v5] sk st Q := am_gu.trans (congrArg (fun l => am_g d X am_m1013 52 (List.set l 4 (.int (x + am_i 1))) sk st Q) (kl_4 (l := [.int x, v5])))
theorem u1013_52 {v1 : Value} {v2 : Value} {v3 : Value} {v4 : Value} {v5 : Value} {x : Nat} : am_g d X am_m1013 52 [.ref x, v1, v2, v3, v4, v5] sk st Q = am_g d X am_m1013 53 [.ref x, v1, v2, v3, v4, v5] (.ref x :: sk) st Q := am_gu.trans rfl
theorem u1013_53 {v0 : Value} {v1 : Value} {v2 : Value} {v3 : Value} {v4 : Value} {v5 : Value} : am_g d X am_m1013 53 [v0, v1, v2, v3, v4, v5] sk st Q = am_gt 32 56 [v0, v1, v2, v3, v4, v5] sk st (fun pc lc sk st => am_g d X am_m1013 pc lc sk st Q) := am_gu.trans rfl
theorem u1013_56 {v0 : Value} {v1 : Value} {v2 : Value} {v3 : Value} {v4 : Value} {x : Int32} : am_g d X am_m1013 56 [v0, v1, v2, v3, v4, .int x] sk st Q = am_g d X am_m1013 58 [v0, v1, v2, v3, v4, .int x] (.int x :: sk) st Q := am_gu.trans rfl
theorem u1013_58 {v0 : Value} {v1 : Value} {v2 : Value} {v3 : Value} {v4 : Value} {v5 : Value} : am_g d X am_m1013 58 [v0, v1, v2, v3, v4, v5] sk st Q = am_g d X am_m1013 60 [v0, v1, v2, v3, v4, v5] (.int (am_i 7) :: sk) st Q := am_gu.trans rfl
theorem u1013_60 {v0 : Value} {v1 : Value} {v2 : Value} {v3 : Value} {v4 : Value} {v5 : Value} : am_g d X am_m1013 60 [v0, v1, v2, v3, v4, v5] sk st Q = am_xs 61 [v0, v1, v2, v3, v4, v5] sk st (fun pc lc sk st => am_g d X am_m1013 pc lc sk st Q) := am_gu.trans rfl
theorem u1013_61 {v1 : Value} {v2 : Value} {v3 : Value} {v4 : Value} {v5 : Value} {x : Nat} : am_g d X am_m1013 61 [.ref x, v1, v2, v3, v4, v5] sk st Q = am_g d X am_m1013 62 [.ref x, v1, v2, v3, v4, v5] (.ref x :: sk) st Q := am_gu.trans rfl
theorem u1013_62 {v0 : Value} {v1 : Value} {v2 : Value} {v3 : Value} {v4 : Value} {v5 : Value} : am_g d X am_m1013 62 [v0, v1, v2, v3, v4, v5] sk st Q = am_gt 32 65 [v0, v1, v2, v3, v4, v5] sk st (fun pc lc sk st => am_g d X am_m1013 pc lc sk st Q) := am_gu.trans rfl
theorem u1013_65 {v0 : Value} {v2 : Value} {v3 : Value} {v4 : Value} {v5 : Value} {x : Nat} : am_g d X am_m1013 65 [v0, .ref x, v2, v3, v4, v5] sk st Q = am_g d X am_m1013 66 [v0, .ref x, v2, v3, v4, v5] (.ref x :: sk) st Q := am_gu.trans rfl
theorem u1013_66 {v0 : Value} {v1 : Value} {v2 : Value} {v3 : Value} {v4 : Value} {x : Int32} : am_g d X am_m1013 66 [v0, v1, v2, v3, v4, .int x] sk st Q = am_g d X am_m1013 68 [v0, v1, v2, v3, v4, .int x] (.int x :: sk) st Q := am_gu.trans rfl
theorem u1013_68 {a0 : Value} {v0 : Value} {v1 : Value} {v2 : Value} {v3 : Value} {v4 : Value} {v5 : Value} : am_g d X am_m1013 68 [v0, v1, v2, v3, v4, v5] (a0 :: .ref o :: sk) st Q = ((am_ob st o 5 ∧ sk.length ≤ 5) ∧ am_Ca X d 5005 [.ref o, a0] st (am_af am_m1013 68 [v0, v1, v2, v3, v4, v5] sk (fun pc lc sk st => am_g d X am_m1013 pc lc sk st Q) Q)) := am_gu.trans rfl
theorem u1013_71 {v1 : Value} {v2 : Value} {v3 : Value} {v4 : Value} {v5 : Value} {x : Nat} : am_g d X am_m1013 71 [.ref x, v1, v2, v3, v4, v5] sk st Q = am_g d X am_m1013 72 [.ref x, v1, v2, v3, v4, v5] (.ref x :: sk) st Q := am_gu.trans rfl
theorem u1013_72 {v0 : Value} {v1 : Value} {v2 : Value} {v3 : Value} {v4 : Value} {v5 : Value} : am_g d X am_m1013 72 [v0, v1, v2, v3, v4, v5] sk st Q = am_gt 32 75 [v0, v1, v2, v3, v4, v5] sk st (fun pc lc sk st => am_g d X am_m1013 pc lc sk st Q) := am_gu.trans rfl
theorem u1013_75 {v0 : Value} {v1 : Value} {v2 : Value} {v3 : Value} {v4 : Value} {x : Int32} : am_g d X am_m1013 75 [v0, v1, v2, v3, v4, .int x] sk st Q = am_g d X am_m1013 77 [v0, v1, v2, v3, v4, .int x] (.int x :: sk) st Q := am_gu.trans rfl
theorem u1013_77 {v0 : Value} {v1 : Value} {v2 : Value} {v3 : Value} {v4 : Value} {v5 : Value} : am_g d X am_m1013 77 [v0, v1, v2, v3, v4, v5] sk st Q = am_xl (X.1, X.2.1, d) am_m1013 78 [v0, v1, v2, v3, v4, v5] sk st (fun pc lc sk st => am_g d X am_m1013 pc lc sk st Q) := am_gu.trans rfl
theorem u1013_78 {a0 : Value} {a1 : Value} {a2 : Value} {v0 : Value} {v1 : Value} {v2 : Value} {v3 : Value} {v4 : Value} {v5 : Value} : am_g d X am_m1013 78 [v0, v1, v2, v3, v4, v5] (a2 :: a1 :: a0 :: sk) st Q = (sk.length ≤ 4 ∧ am_Ca X d 1016 [a0, a1, a2] st (am_af am_m1013 78 [v0, v1, v2, v3, v4, v5] sk (fun pc lc sk st => am_g d X am_m1013 pc lc sk st Q) Q)) := am_gu.trans (propext ⟨fun h => ⟨h.1.2, h.2⟩, fun h => ⟨⟨Nat.le_add_left _ _, h.1⟩, h.2⟩⟩)
theorem u1013_81 {v1 : Value} {v2 : Value} {v3 : Value} {v4 : Value} {v5 : Value} {x : Nat} : am_g d X am_m1013 81 [.ref x, v1, v2, v3, v4, v5] sk st Q = am_g d X am_m1013 82 [.ref x, v1, v2, v3, v4, v5] (.ref x :: sk) st Q := am_gu.trans rfl
theorem u1013_82 {v0 : Value} {v1 : Value} {v2 : Value} {v3 : Value} {v4 : Value} {v5 : Value} : am_g d X am_m1013 82 [v0, v1, v2, v3, v4, v5] sk st Q = am_gt 32 85 [v0, v1, v2, v3, v4, v5] sk st (fun pc lc sk st => am_g d X am_m1013 pc lc sk st Q) := am_gu.trans rfl
theorem u1013_85 {v0 : Value} {v2 : Value} {v3 : Value} {v4 : Value} {v5 : Value} {x : Nat} : am_g d X am_m1013 85 [v0, .ref x, v2, v3, v4, v5] sk st Q = am_g d X am_m1013 86 [v0, .ref x, v2, v3, v4, v5] (.ref x :: sk) st Q := am_gu.trans rfl
theorem u1013_86 {v0 : Value} {v1 : Value} {v2 : Value} {v3 : Value} {v4 : Value} {x : Int32} : am_g d X am_m1013 86 [v0, v1, v2, v3, v4, .int x] sk st Q = am_g d X am_m1013 88 [v0, v1, v2, v3, v4, .int x] (.int x :: sk) st Q := am_gu.trans rfl
theorem u1013_88 {a0 : Value} {v0 : Value} {v1 : Value} {v2 : Value} {v3 : Value} {v4 : Value} {v5 : Value} : am_g d X am_m1013 88 [v0, v1, v2, v3, v4, v5] (a0 :: .ref o :: sk) st Q = ((am_ob st o 5 ∧ sk.length ≤ 5) ∧ am_Ca X d 5006 [.ref o, a0] st (am_af am_m1013 88 [v0, v1, v2, v3, v4, v5] sk (fun pc lc sk st => am_g d X am_m1013 pc lc sk st Q) Q)) := am_gu.trans rfl
theorem u1013_91 {v1 : Value} {v2 : Value} {v3 : Value} {v4 : Value} {v5 : Value} {x : Nat} : am_g d X am_m1013 91 [.ref x, v1, v2, v3, v4, v5] sk st Q = am_g d X am_m1013 92 [.ref x, v1, v2, v3, v4, v5] (.ref x :: sk) st Q := am_gu.trans rfl
theorem u1013_92 {v0 : Value} {v1 : Value} {v2 : Value} {v3 : Value} {v4 : Value} {v5 : Value} : am_g d X am_m1013 92 [v0, v1, v2, v3, v4, v5] sk st Q = am_gt 32 95 [v0, v1, v2, v3, v4, v5] sk st (fun pc lc sk st => am_g d X am_m1013 pc lc sk st Q) := am_gu.trans rfl
theorem u1013_95 {v0 : Value} {v1 : Value} {v2 : Value} {v3 : Value} {v4 : Value} {x : Int32} : am_g d X am_m1013 95 [v0, v1, v2, v3, v4, .int x] sk st Q = am_g d X am_m1013 97 [v0, v1, v2, v3, v4, .int x] (.int x :: sk) st Q := am_gu.trans rfl
theorem u1013_97 {v0 : Value} {v1 : Value} {v2 : Value} {v3 : Value} {v4 : Value} {v5 : Value} : am_g d X am_m1013 97 [v0, v1, v2, v3, v4, v5] sk st Q = am_xl (X.1, X.2.1, d) am_m1013 98 [v0, v1, v2, v3, v4, v5] sk st (fun pc lc sk st => am_g d X am_m1013 pc lc sk st Q) := am_gu.trans rfl
theorem u1013_98 {a0 : Value} {a1 : Value} {a2 : Value} {v0 : Value} {v1 : Value} {v2 : Value} {v3 : Value} {v4 : Value} {v5 : Value} : am_g d X am_m1013 98 [v0, v1, v2, v3, v4, v5] (a2 :: a1 :: a0 :: sk) st Q = (sk.length ≤ 4 ∧ am_Ca X d 1016 [a0, a1, a2] st (am_af am_m1013 98 [v0, v1, v2, v3, v4, v5] sk (fun pc lc sk st => am_g d X am_m1013 pc lc sk st Q) Q)) := am_gu.trans (propext ⟨fun h => ⟨h.1.2, h.2⟩, fun h => ⟨⟨Nat.le_add_left _ _, h.1⟩, h.2⟩⟩)
theorem u1013_101 {v0 : Value} {v1 : Value} {v2 : Value} {v3 : Value} {v4 : Value} {x : Int32} : am_g d X am_m1013 101 [v0, v1, v2, v3, v4, .int x] sk st Q = am_g d X am_m1013 104 [v0, v1, v2, v3, am_kc v4, .int (x + am_i (-1))] sk st Q := am_gu.trans (congrArg (fun l => am_g d X am_m1013 104 (List.set l 5 (.int (x + am_i (-1)))) sk st Q) (kl_5 (l := [.int x])))
theorem u1013_104 {v0 : Value} {v1 : Value} {v2 : Value} {v3 : Value} {v4 : Value} {v5 : Value} : am_g d X am_m1013 104 [v0, v1, v2, v3, v4, v5] sk st Q = am_g d X am_m1013 33 [v0, v1, v2, v3, v4, v5] sk st Q := am_gu.trans rfl
theorem u1013_107 {v0 : Value} {v1 : Value} {v2 : Value} {v3 : Value} {v5 : Value} {x : Int32} : am_g d X am_m1013 107 [v0, v1, v2, v3, .int x, v5] sk st Q = am_g d X am_m1013 109 [v0, v1, v2, v3, .int x, v5] (.int x :: sk) st Q := am_gu.trans rfl
theorem u1013_109 {v0 : Value} {v1 : Value} {v2 : Value} {v3 : Value} {v4 : Value} {v5 : Value} {x : Int32} : am_g d X am_m1013 109 [v0, v1, v2, v3, v4, v5] [.int x] st Q = Q (.inl (some (.int x))) st := am_gu.trans rfl
set_option maxRecDepth 100000 in
theorem of_1014 : am_of 1014 = some am_m1014 := rfl
theorem c1014 {z a0 a1 a2} {P : am_Q} : am_Ca X (d + 1) 1014 [.ref z, .ref a0, .int a1, .ref a2] st P = am_g d X am_m1014 0 [.ref z, .ref a0, .int a1, .ref a2, am_u, am_u] [] st P := am_cg of_1014 (by show 4 ≤ 6; decide)
theorem hd_1014 : am_hd am_m1014 = [] := rfl
theorem u1014_0 {v1 : Value} {v2 : Value} {v3 : Value} {v4 : Value} {v5 : Value} {x : Nat} : am_g d X am_m1014 0 [.ref x, v1, v2, v3, v4, v5] sk st Q = am_g d X am_m1014 1 [.ref x, v1, v2, v3, v4, v5] (.ref x :: sk) st Q := am_gu.trans rfl
theorem u1014_1 {v0 : Value} {v1 : Value} {v2 : Value} {v3 : Value} {v4 : Value} {v5 : Value} : am_g d X am_m1014 1 [v0, v1, v2, v3, v4, v5] sk st Q = am_gt 32 4 [v0, v1, v2, v3, v4, v5] sk st (fun pc lc sk st => am_g d X am_m1014 pc lc sk st Q) := am_gu.trans rfl
theorem u1014_4 {v0 : Value} {v1 : Value} {v2 : Value} {v3 : Value} {v4 : Value} {v5 : Value} : am_g d X am_m1014 4 [v0, v1, v2, v3, v4, v5] sk st Q = am_g d X am_m1014 5 [v0, v1, v2, v3, v4, v5] (.int (am_i 0) :: sk) st Q := am_gu.trans rfl
theorem u1014_5 {a0 : Value} {a1 : Value} {v0 : Value} {v1 : Value} {v2 : Value} {v3 : Value} {v4 : Value} {v5 : Value} : am_g d X am_m1014 5 [v0, v1, v2, v3, v4, v5] (a1 :: a0 :: sk) st Q = (sk.length ≤ 4 ∧ am_Ca X d 9000 [a0, a1] st (am_af am_m1014 5 [v0, v1, v2, v3, v4, v5] sk (fun pc lc sk st => am_g d X am_m1014 pc lc sk st Q) Q)) := am_gu.trans (propext ⟨fun h => ⟨h.1.2, h.2⟩, fun h => ⟨⟨Nat.le_add_left _ _, h.1⟩, h.2⟩⟩)
theorem u1014_8 {v0 : Value} {v2 : Value} {v3 : Value} {v4 : Value} {v5 : Value} {x : Nat} : am_g d X am_m1014 8 [v0, .ref x, v2, v3, v4, v5] sk st Q = am_g d X am_m1014 9 [v0, .ref x, v2, v3, v4, v5] (.ref x :: sk) st Q := am_gu.trans rfl
theorem u1014_9 {v0 : Value} {v1 : Value} {v3 : Value} {v4 : Value} {v5 : Value} {x : Int32} : am_g d X am_m1014 9 [v0, v1, .int x, v3, v4, v5] sk st Q = am_g d X am_m1014 10 [v0, v1, .int x, v3, v4, v5] (.int x :: sk) st Q := am_gu.trans rfl
theorem u1014_10 {v1 : Value} {v2 : Value} {v3 : Value} {v4 : Value} {v5 : Value} {x : Nat} : am_g d X am_m1014 10 [.ref x, v1, v2, v3, v4, v5] sk st Q = am_g d X am_m1014 11 [.ref x, v1, v2, v3, v4, v5] (.ref x :: sk) st Q := am_gu.trans rfl
theorem u1014_11 {v0 : Value} {v1 : Value} {v2 : Value} {v3 : Value} {v4 : Value} {v5 : Value} : am_g d X am_m1014 11 [v0, v1, v2, v3, v4, v5] sk st Q = am_gt 32 14 [v0, v1, v2, v3, v4, v5] sk st (fun pc lc sk st => am_g d X am_m1014 pc lc sk st Q) := am_gu.trans rfl
theorem u1014_14 {a0 : Value} {a1 : Value} {a2 : Value} {v0 : Value} {v1 : Value} {v2 : Value} {v3 : Value} {v4 : Value} {v5 : Value} : am_g d X am_m1014 14 [v0, v1, v2, v3, v4, v5] (a2 :: a1 :: a0 :: sk) st Q = (sk.length ≤ 4 ∧ am_Ca X d 1017 [a0, a1, a2] st (am_af am_m1014 14 [v0, v1, v2, v3, v4, v5] sk (fun pc lc sk st => am_g d X am_m1014 pc lc sk st Q) Q)) := am_gu.trans (propext ⟨fun h => ⟨h.1.2, h.2⟩, fun h => ⟨⟨Nat.le_add_left _ _, h.1⟩, h.2⟩⟩)
theorem u1014_17 {v0 : Value} {v1 : Value} {v2 : Value} {v4 : Value} {v5 : Value} {x : Nat} : am_g d X am_m1014 17 [v0, v1, v2, .ref x, v4, v5] sk st Q = am_g d X am_m1014 18 [v0, v1, v2, .ref x, v4, v5] (.ref x :: sk) st Q := am_gu.trans rfl
theorem u1014_18 {v0 : Value} {v1 : Value} {v2 : Value} {v3 : Value} {v4 : Value} {v5 : Value} : am_g d X am_m1014 18 [v0, v1, v2, v3, v4, v5] sk st Q = am_g d X am_m1014 19 [v0, v1, v2, v3, v4, v5] (.int (am_i 0) :: sk) st Q := am_gu.trans rfl
theorem u1014_19 {a0 : Value} {a1 : Value} {v0 : Value} {v1 : Value} {v2 : Value} {v3 : Value} {v4 : Value} {v5 : Value} : am_g d X am_m1014 19 [v0, v1, v2, v3, v4, v5] (a1 :: a0 :: sk) st Q = (sk.length ≤ 4 ∧ am_Ca X d 9000 [a0, a1] st (am_af am_m1014 19 [v0, v1, v2, v3, v4, v5] sk (fun pc lc sk st => am_g d X am_m1014 pc lc sk st Q) Q)) := am_gu.trans (propext ⟨fun h => ⟨h.1.2, h.2⟩, fun h => ⟨⟨Nat.le_add_left _ _, h.1⟩, h.2⟩⟩)
theorem u1014_22 {v0 : Value} {v2 : Value} {v3 : Value} {v4 : Value} {v5 : Value} {x : Nat} : am_g d X am_m1014 22 [v0, .ref x, v2, v3, v4, v5] sk st Q = am_g d X am_m1014 23 [v0, .ref x, v2, v3, v4, v5] (.ref x :: sk) st Q := am_gu.trans rfl
theorem u1014_23 {v0 : Value} {v1 : Value} {v2 : Value} {v3 : Value} {v4 : Value} {v5 : Value} : am_g d X am_m1014 23 [v0, v1, v2, v3, v4, v5] (.ref o :: sk) st Q = ((am_ob st o 5 ∧ sk.length ≤ 5) ∧ am_Ca X d 5016 [.ref o] st (am_af am_m1014 23 [v0, v1, v2, v3, v4, v5] sk (fun pc lc sk st => am_g d X am_m1014 pc lc sk st Q) Q)) := am_gu.trans rfl
theorem u1014_26 {v0 : Value} {v1 : Value} {v2 : Value} {v3 : Value} {v4 : Value} {v5 : Value} {x : Int32} : am_g d X am_m1014 26 [v0, v1, v2, v3, v4, v5] (.int x :: sk) st Q = am_g d X am_m1014 28 [v0, v1, v2, am_kc v3, .int x, v5] sk st Q := am_gu.trans (congrArg (fun l => am_g d X am_m1014 28 (List.set l 4 (.int x)) sk st Q) (kl_4 (l := [v4, v5])))
theorem u1014_28 {v0 : Value} {v1 : Value} {v2 : Value} {v3 : Value} {v4 : Value} {v5 : Value} : am_g d X am_m1014 28 [v0, v1, v2, v3, v4, v5] sk st Q = am_g d X am_m1014 29 [v0, v1, v2, v3, v4, v5] (.int (am_i 0) :: sk) st Q := am_gu.trans rfl
theorem u1014_29 {v0 : Value} {v1 : Value} {v2 : Value} {v3 : Value} {v4 : Value} {v5 : Value} {x : Int32} : am_g d X am_m1014 29 [v0, v1, v2, v3, v4, v5] (.int x :: sk) st Q = am_g d X am_m1014 31 [v0, v1, v2, v3, am_kc v4, .int x] sk st Q := am_gu.trans (congrArg (fun l => am_g d X am_m1014 31 (List.set l 5 (.int x)) sk st Q) (kl_5 (l := [v5])))
theorem u1014_31 {v0 : Value} {v1 : Value} {v2 : Value} {v3 : Value} {v4 : Value} {x : Int32} : am_g d X am_m1014 31 [v0, v1, v2, v3, v4, .int x] sk st Q = am_g d X am_m1014 33 [v0, v1, v2, v3, v4, .int x] (.int x :: sk) st Q := am_gu.trans rfl
theorem u1014_33 {v0 : Value} {v1 : Value} {v2 : Value} {v3 : Value} {v4 : Value} {v5 : Value} : am_g d X am_m1014 33 [v0, v1, v2, v3, v4, v5] sk st Q = am_g d X am_m1014 35 [v0, v1, v2, v3, v4, v5] (.int (am_i 60) :: sk) st Q := am_gu.trans rfl
theorem u1014_35 {v0 : Value} {v1 : Value} {v2 : Value} {v3 : Value} {v4 : Value} {v5 : Value} {x : Int32} {y : Int32} : am_g d X am_m1014 35 [v0, v1, v2, v3, v4, v5] (.int y :: .int x :: sk) st Q = (if decide (y ≤ x) = true then am_g d X am_m1014 77 [v0, v1, v2, v3, v4, v5] sk st Q else am_g d X am_m1014 38 [v0, v1, v2, v3, v4, v5] sk st Q) := am_gu.trans rfl
theorem u1014_38 {v0 : Value} {v1 : Value} {v2 : Value} {v3 : Value} {v5 : Value} {x : Int32} : am_g d X am_m1014 38 [v0, v1, v2, v3, .int x, v5] sk st Q = am_g d X am_m1014 40 [v0, v1, v2, v3, .int x, v5] (.int x :: sk) st Q := am_gu.trans rfl
theorem u1014_40 {v0 : Value} {v1 : Value} {v2 : Value} {v3 : Value} {v4 : Value} {v5 : Value} : am_g d X am_m1014 40 [v0, v1, v2, v3, v4, v5] sk st Q = am_g d X am_m1014 41 [v0, v1, v2, v3, v4, v5] (.int (am_i (-1)) :: sk) st Q := am_gu.trans rfl
theorem u1014_41 {v0 : Value} {v1 : Value} {v2 : Value} {v3 : Value} {v4 : Value} {v5 : Value} {x : Int32} {y : Int32} : am_g d X am_m1014 41 [v0, v1, v2, v3, v4, v5] (.int y :: .int x :: sk) st Q = (if decide (x = y) = true then am_g d X am_m1014 77 [v0, v1, v2, v3, v4, v5] sk st Q else am_g d X am_m1014 44 [v0, v1, v2, v3, v4, v5] sk st Q) := am_gu.trans rfl
theorem u1014_44 {v1 : Value} {v2 : Value} {v3 : Value} {v4 : Value} {v5 : Value} {x : Nat} : am_g d X am_m1014 44 [.ref x, v1, v2, v3, v4, v5] sk st Q = am_g d X am_m1014 45 [.ref x, v1, v2, v3, v4, v5] (.ref x :: sk) st Q := am_gu.trans rfl
theorem u1014_45 {v0 : Value} {v1 : Value} {v2 : Value} {v3 : Value} {v4 : Value} {v5 : Value} : am_g d X am_m1014 45 [v0, v1, v2, v3, v4, v5] sk st Q = am_gt 32 48 [v0, v1, v2, v3, v4, v5] sk st (fun pc lc sk st => am_g d X am_m1014 pc lc sk st Q) := am_gu.trans rfl
theorem u1014_48 {v0 : Value} {v1 : Value} {v2 : Value} {v3 : Value} {v5 : Value} {x : Int32} : am_g d X am_m1014 48 [v0, v1, v2, v3, .int x, v5] sk st Q = am_g d X am_m1014 50 [v0, v1, v2, v3, .int x, v5] (.int x :: sk) st Q := am_gu.trans rfl
theorem u1014_50 {a0 : Value} {a1 : Value} {v0 : Value} {v1 : Value} {v2 : Value} {v3 : Value} {v4 : Value} {v5 : Value} : am_g d X am_m1014 50 [v0, v1, v2, v3, v4, v5] (a1 :: a0 :: sk) st Q = (sk.length ≤ 4 ∧ am_Ca X d 1015 [a0, a1] st (am_af am_m1014 50 [v0, v1, v2, v3, v4, v5] sk (fun pc lc sk st => am_g d X am_m1014 pc lc sk st Q) Q)) := am_gu.trans (propext ⟨fun h => ⟨h.1.2, h.2⟩, fun h => ⟨⟨Nat.le_add_left _ _, h.1⟩, h.2⟩⟩)
theorem u1014_53 {v0 : Value} {v1 : Value} {v2 : Value} {v3 : Value} {v4 : Value} {v5 : Value} {x : Int32} : am_g d X am_m1014 53 [v0, v1, v2, v3, v4, v5] (.int x :: sk) st Q = (if decide (¬ x = 0) = true then am_g d X am_m1014 77 [v0, v1, v2, v3, v4, v5] sk st Q else am_g d X am_m1014 56 [v0, v1, v2, v3, v4, v5] sk st Q) := am_gu.trans rfl
theorem u1014_56 {v0 : Value} {v1 : Value} {v2 : Value} {v4 : Value} {v5 : Value} {x : Nat} : am_g d X am_m1014 56 [v0, v1, v2, .ref x, v4, v5] sk st Q = am_g d X am_m1014 57 [v0, v1, v2, .ref x, v4, v5] (.ref x :: sk) st Q := am_gu.trans rfl
theorem u1014_57 {v0 : Value} {v1 : Value} {v2 : Value} {v3 : Value} {v5 : Value} {x : Int32} : am_g d X am_m1014 57 [v0, v1, v2, v3, .int x, v5] sk st Q = am_g d X am_m1014 59 [v0, v1, v2, v3, .int x, v5] (.int x :: sk) st Q := am_gu.trans rfl
theorem u1014_59 {v0 : Value} {v1 : Value} {v2 : Value} {v3 : Value} {v4 : Value} {v5 : Value} : am_g d X am_m1014 59 [v0, v1, v2, v3, v4, v5] sk st Q = am_g d X am_m1014 60 [v0, v1, v2, v3, v4, v5] (.int (am_i 1) :: sk) st Q := am_gu.trans rfl
theorem u1014_60 {a0 : Value} {a1 : Value} {a2 : Value} {v0 : Value} {v1 : Value} {v2 : Value} {v3 : Value} {v4 : Value} {v5 : Value} : am_g d X am_m1014 60 [v0, v1, v2, v3, v4, v5] (a2 :: a1 :: a0 :: sk) st Q = (sk.length ≤ 4 ∧ am_Ca X d 1016 [a0, a1, a2] st (am_af am_m1014 60 [v0, v1, v2, v3, v4, v5] sk (fun pc lc sk st => am_g d X am_m1014 pc lc sk st Q) Q)) := am_gu.trans (propext ⟨fun h => ⟨h.1.2, h.2⟩, fun h => ⟨⟨Nat.le_add_left _ _, h.1⟩, h.2⟩⟩)
theorem u1014_63 {v0 : Value} {v2 : Value} {v3 : Value} {v4 : Value} {v5 : Value} {x : Nat} : am_g d X am_m1014 63 [v0, .ref x, v2, v3, v4, v5] sk st Q = am_g d X am_m1014 64 [v0, .ref x, v2, v3, v4, v5] (.ref x :: sk) st Q := am_gu.trans rfl
theorem u1014_64 {v0 : Value} {v1 : Value} {v2 : Value} {v3 : Value} {v5 : Value} {x : Int32} : am_g d X am_m1014 64 [v0, v1, v2, v3, .int x, v5] sk st Q = am_g d X am_m1014 66 [v0, v1, v2, v3, .int x, v5] (.int x :: sk) st Q := am_gu.trans rfl
theorem u1014_66 {a0 : Value} {v0 : Value} {v1 : Value} {v2 : Value} {v3 : Value} {v4 : Value} {v5 : Value} : am_g d X am_m1014 66 [v0, v1, v2, v3, v4, v5] (a0 :: .ref o :: sk) st Q = ((am_ob st o 5 ∧ sk.length ≤ 5) ∧ am_Ca X d 5005 [.ref o, a0] st (am_af am_m1014 66 [v0, v1, v2, v3, v4, v5] sk (fun pc lc sk st => am_g d X am_m1014 pc lc sk st Q) Q)) := am_gu.trans rfl
theorem u1014_69 {v0 : Value} {v1 : Value} {v2 : Value} {v3 : Value} {v4 : Value} {v5 : Value} {x : Int32} : am_g d X am_m1014 69 [v0, v1, v2, v3, v4, v5] (.int x :: sk) st Q = am_g d X am_m1014 71 [v0, v1, v2, am_kc v3, .int x, v5] sk st Q := am_gu.trans (congrArg (fun l => am_g d X am_m1014 71 (List.set l 4 (.int x)) sk st Q) (kl_4 (l := [v4, v5])))
theorem u1014_71 {v0 : Value} {v1 : Value} {v2 : Value} {v3 : Value} {v4 : Value} {x : Int32} : am_g d X am_m1014 71 [v0, v1, v2, v3, v4, .int x] sk st Q = am_g d X am_m1014 74 [v0, v1, v2, v3, am_kc v4, .int (x + am_i 1)] sk st Q := am_gu.trans (congrArg (fun l => am_g d X am_m1014 74 (List.set l 5 (.int (x + am_i 1))) sk st Q) (kl_5 (l := [.int x])))
theorem u1014_74 {v0 : Value} {v1 : Value} {v2 : Value} {v3 : Value} {v4 : Value} {v5 : Value} : am_g d X am_m1014 74 [v0, v1, v2, v3, v4, v5] sk st Q = am_g d X am_m1014 31 [v0, v1, v2, v3, v4, v5] sk st Q := am_gu.trans rfl
theorem u1014_77 {v0 : Value} {v1 : Value} {v2 : Value} {v3 : Value} {v4 : Value} {v5 : Value} : am_g d X am_m1014 77 [v0, v1, v2, v3, v4, v5] [] st Q = Q (.inl none) st := am_gu.trans rfl
set_option maxRecDepth 100000 in
theorem of_1015 : am_of 1015 = some am_m1015 := rfl
theorem c1015 {a0 a1} {P : am_Q} : am_Ca X (d + 1) 1015 [.ref a0, .int a1] st P = am_g d X am_m1015 0 [.ref a0, .int a1] [] st P := am_cg of_1015 (by show 2 ≤ 2; decide)
theorem hd_1015 : am_hd am_m1015 = [] := rfl
theorem u1015_0 {v0 : Value} {x : Int32} : am_g d X am_m1015 0 [v0, .int x] sk st Q = am_g d X am_m1015 1 [v0, .int x] (.int x :: sk) st Q := am_gu.trans rfl
theorem u1015_1 {v0 : Value} {v1 : Value} {x : Int32} : am_g d X am_m1015 1 [v0, v1] (.int x :: sk) st Q = (if decide (x < 0) = true then am_g d X am_m1015 20 [v0, v1] sk st Q else am_g d X am_m1015 4 [v0, v1] sk st Q) := am_gu.trans rfl
theorem u1015_4 {v0 : Value} {x : Int32} : am_g d X am_m1015 4 [v0, .int x] sk st Q = am_g d X am_m1015 5 [v0, .int x] (.int x :: sk) st Q := am_gu.trans rfl
theorem u1015_5 {v1 : Value} {x : Nat} : am_g d X am_m1015 5 [.ref x, v1] sk st Q = am_g d X am_m1015 6 [.ref x, v1] (.ref x :: sk) st Q := am_gu.trans rfl
theorem u1015_6 {v0 : Value} {v1 : Value} : am_g d X am_m1015 6 [v0, v1] sk st Q = am_al (X.1, X.2.1, d) am_m1015 7 [v0, v1] sk st (fun pc lc sk st => am_g d X am_m1015 pc lc sk st Q) := am_gu.trans rfl
theorem u1015_7 {v0 : Value} {v1 : Value} {x : Int32} {y : Int32} : am_g d X am_m1015 7 [v0, v1] (.int y :: .int x :: sk) st Q = (if decide (y ≤ x) = true then am_g d X am_m1015 20 [v0, v1] sk st Q else am_g d X am_m1015 10 [v0, v1] sk st Q) := am_gu.trans rfl
theorem u1015_10 {v1 : Value} {x : Nat} : am_g d X am_m1015 10 [.ref x, v1] sk st Q = am_g d X am_m1015 11 [.ref x, v1] (.ref x :: sk) st Q := am_gu.trans rfl
theorem u1015_11 {v0 : Value} {x : Int32} : am_g d X am_m1015 11 [v0, .int x] sk st Q = am_g d X am_m1015 12 [v0, .int x] (.int x :: sk) st Q := am_gu.trans rfl
theorem u1015_12 {v0 : Value} {v1 : Value} : am_g d X am_m1015 12 [v0, v1] sk st Q = am_xl (X.1, X.2.1, d) am_m1015 13 [v0, v1] sk st (fun pc lc sk st => am_g d X am_m1015 pc lc sk st Q) := am_gu.trans rfl
theorem u1015_13 {v0 : Value} {v1 : Value} {x : Int32} : am_g d X am_m1015 13 [v0, v1] (.int x :: sk) st Q = (if decide (x = 0) = true then am_g d X am_m1015 20 [v0, v1] sk st Q else am_g d X am_m1015 16 [v0, v1] sk st Q) := am_gu.trans rfl
theorem u1015_16 {v0 : Value} {v1 : Value} : am_g d X am_m1015 16 [v0, v1] sk st Q = am_g d X am_m1015 17 [v0, v1] (.int (am_i 1) :: sk) st Q := am_gu.trans rfl
theorem u1015_17 {v0 : Value} {v1 : Value} : am_g d X am_m1015 17 [v0, v1] sk st Q = am_g d X am_m1015 21 [v0, v1] sk st Q := am_gu.trans rfl
theorem u1015_20 {v0 : Value} {v1 : Value} : am_g d X am_m1015 20 [v0, v1] sk st Q = am_g d X am_m1015 21 [v0, v1] (.int (am_i 0) :: sk) st Q := am_gu.trans rfl
theorem u1015_21 {v0 : Value} {v1 : Value} {x : Int32} : am_g d X am_m1015 21 [v0, v1] [.int x] st Q = ((x = 0 ∨ x = 1) ∧ Q (.inl (some (.int x))) st) := am_gu.trans rfl
set_option maxRecDepth 100000 in
theorem of_1016 : am_of 1016 = some am_m1016 := rfl
theorem c1016 {a0 a1 a2} {P : am_Q} : am_Ca X (d + 1) 1016 [.ref a0, .int a1, .int a2] st P = am_g d X am_m1016 0 [.ref a0, .int a1, .int a2] [] st P := am_cg of_1016 (by show 3 ≤ 3; decide)
theorem hd_1016 : am_hd am_m1016 = [] := rfl
theorem u1016_0 {v0 : Value} {v2 : Value} {x : Int32} : am_g d X am_m1016 0 [v0, .int x, v2] sk st Q = am_g d X am_m1016 1 [v0, .int x, v2] (.int x :: sk) st Q := am_gu.trans rfl
theorem u1016_1 {v0 : Value} {v1 : Value} {v2 : Value} {x : Int32} : am_g d X am_m1016 1 [v0, v1, v2] (.int x :: sk) st Q = (if decide (x < 0) = true then am_g d X am_m1016 17 [v0, v1, v2] sk st Q else am_g d X am_m1016 4 [v0, v1, v2] sk st Q) := am_gu.trans rfl
theorem u1016_4 {v0 : Value} {v2 : Value} {x : Int32} : am_g d X am_m1016 4 [v0, .int x, v2] sk st Q = am_g d X am_m1016 5 [v0, .int x, v2] (.int x :: sk) st Q := am_gu.trans rfl
theorem u1016_5 {v1 : Value} {v2 : Value} {x : Nat} : am_g d X am_m1016 5 [.ref x, v1, v2] sk st Q = am_g d X am_m1016 6 [.ref x, v1, v2] (.ref x :: sk) st Q := am_gu.trans rfl
theorem u1016_6 {v0 : Value} {v1 : Value} {v2 : Value} : am_g d X am_m1016 6 [v0, v1, v2] sk st Q = am_al (X.1, X.2.1, d) am_m1016 7 [v0, v1, v2] sk st (fun pc lc sk st => am_g d X am_m1016 pc lc sk st Q) := am_gu.trans rfl
theorem u1016_7 {v0 : Value} {v1 : Value} {v2 : Value} {x : Int32} {y : Int32} : am_g d X am_m1016 7 [v0, v1, v2] (.int y :: .int x :: sk) st Q = (if decide (y ≤ x) = true then am_g d X am_m1016 17 [v0, v1, v2] sk st Q else am_g d X am_m1016 10 [v0, v1, v2] sk st Q) := am_gu.trans rfl
theorem u1016_10 {v1 : Value} {v2 : Value} {x : Nat} : am_g d X am_m1016 10 [.ref x, v1, v2] sk st Q = am_g d X am_m1016 11 [.ref x, v1, v2] (.ref x :: sk) st Q := am_gu.trans rfl
theorem u1016_11 {v0 : Value} {v2 : Value} {x : Int32} : am_g d X am_m1016 11 [v0, .int x, v2] sk st Q = am_g d X am_m1016 12 [v0, .int x, v2] (.int x :: sk) st Q := am_gu.trans rfl
theorem u1016_12ir {v0 : Value} {v1 : Value} {v2 : Value} {x : Nat} {y : Int32} : am_g d X am_m1016 12 [v0, v1, v2] (.int y :: .ref x :: sk) st Q = am_g d X am_m1016 13 [v0, v1, v2] (.int y :: .ref x :: .int y :: .ref x :: sk) st Q := am_gu.trans rfl
theorem u1016_13 {v0 : Value} {v1 : Value} {v2 : Value} : am_g d X am_m1016 13 [v0, v1, v2] sk st Q = am_xl (X.1, X.2.1, d) am_m1016 14 [v0, v1, v2] sk st (fun pc lc sk st => am_g d X am_m1016 pc lc sk st Q) := am_gu.trans rfl
theorem u1016_14 {v0 : Value} {v1 : Value} {x : Int32} : am_g d X am_m1016 14 [v0, v1, .int x] sk st Q = am_g d X am_m1016 15 [v0, v1, .int x] (.int x :: sk) st Q := am_gu.trans rfl
theorem u1016_15 {v0 : Value} {v1 : Value} {v2 : Value} {x : Int32} {y : Int32} : am_g d X am_m1016 15 [v0, v1, v2] (.int y :: .int x :: sk) st Q = am_g d X am_m1016 16 [v0, v1, v2] (.int (x ||| y) :: sk) st Q := am_gu.trans rfl
theorem u1016_16 {v0 : Value} {v1 : Value} {v2 : Value} : am_g d X am_m1016 16 [v0, v1, v2] sk st Q = am_xs 17 [v0, v1, v2] sk st (fun pc lc sk st => am_g d X am_m1016 pc lc sk st Q) := am_gu.trans rfl
theorem u1016_17 {v0 : Value} {v1 : Value} {v2 : Value} : am_g d X am_m1016 17 [v0, v1, v2] [] st Q = Q (.inl none) st := am_gu.trans rfl
set_option maxRecDepth 100000 in
theorem of_1017 : am_of 1017 = some am_m1017 := rfl
theorem c1017 {a0 a1 a2} {P : am_Q} : am_Ca X (d + 1) 1017 [.ref a0, .int a1, .ref a2] st P = am_g d X am_m1017 0 [.ref a0, .int a1, .ref a2, am_u] [] st P := am_cg of_1017 (by show 3 ≤ 4; decide)
theorem hd_1017 : am_hd am_m1017 = [] := rfl
theorem u1017_0 {v0 : Value} {v1 : Value} {v3 : Value} {x : Nat} : am_g d X am_m1017 0 [v0, v1, .ref x, v3] sk st Q = am_g d X am_m1017 1 [v0, v1, .ref x, v3] (.ref x :: sk) st Q := am_gu.trans rfl
theorem u1017_1 {v0 : Value} {v2 : Value} {v3 : Value} {x : Int32} : am_g d X am_m1017 1 [v0, .int x, v2, v3] sk st Q = am_g d X am_m1017 2 [v0, .int x, v2, v3] (.int x :: sk) st Q := am_gu.trans rfl
theorem u1017_2 {v0 : Value} {v1 : Value} {v2 : Value} {v3 : Value} : am_g d X am_m1017 2 [v0, v1, v2, v3] sk st Q = am_g d X am_m1017 3 [v0, v1, v2, v3] (.int (am_i 1) :: sk) st Q := am_gu.trans rfl
theorem u1017_3 {a0 : Value} {a1 : Value} {a2 : Value} {v0 : Value} {v1 : Value} {v2 : Value} {v3 : Value} : am_g d X am_m1017 3 [v0, v1, v2, v3] (a2 :: a1 :: a0 :: sk) st Q = (sk.length ≤ 4 ∧ am_Ca X d 1016 [a0, a1, a2] st (am_af am_m1017 3 [v0, v1, v2, v3] sk (fun pc lc sk st => am_g d X am_m1017 pc lc sk st Q) Q)) := am_gu.trans (propext ⟨fun h => ⟨h.1.2, h.2⟩, fun h => ⟨⟨Nat.le_add_left _ _, h.1⟩, h.2⟩⟩)
theorem u1017_6 {v0 : Value} {v2 : Value} {v3 : Value} {x : Int32} : am_g d X am_m1017 6 [v0, .int x, v2, v3] sk st Q = am_g d X am_m1017 7 [v0, .int x, v2, v3] (.int x :: sk) st Q := am_gu.trans rfl
theorem u1017_7 {v0 : Value} {v1 : Value} {v3 : Value} {x : Nat} : am_g d X am_m1017 7 [v0, v1, .ref x, v3] sk st Q = am_g d X am_m1017 8 [v0, v1, .ref x, v3] (.ref x :: sk) st Q := am_gu.trans rfl
theorem u1017_8 {v0 : Value} {v1 : Value} {v2 : Value} {v3 : Value} : am_g d X am_m1017 8 [v0, v1, v2, v3] sk st Q = am_al (X.1, X.2.1, d) am_m1017 9 [v0, v1, v2, v3] sk st (fun pc lc sk st => am_g d X am_m1017 pc lc sk st Q) := am_gu.trans rfl
theorem u1017_9 {v0 : Value} {v1 : Value} {v2 : Value} {v3 : Value} : am_g d X am_m1017 9 [v0, v1, v2, v3] sk st Q = am_g d X am_m1017 10 [v0, v1, v2, v3] (.int (am_i 1) :: sk) st Q := am_gu.trans rfl
theorem u1017_10 {v0 : Value} {v1 : Value} {v2 : Value} {v3 : Value} {x : Int32} {y : Int32} : am_g d X am_m1017 10 [v0, v1, v2, v3] (.int y :: .int x :: sk) st Q = am_g d X am_m1017 11 [v0, v1, v2, v3] (.int (x - y) :: sk) st Q := am_gu.trans rfl
theorem u1017_11 {v0 : Value} {v1 : Value} {v2 : Value} {v3 : Value} {x : Int32} {y : Int32} : am_g d X am_m1017 11 [v0, v1, v2, v3] (.int y :: .int x :: sk) st Q = (sk.length ≤ 4 ∧ am_g d X am_m1017 14 [v0, v1, v2, v3] (.int (if y < x then y else x) :: sk) st Q) := am_gu.trans rfl
theorem u1017_14 {v0 : Value} {v1 : Value} {v2 : Value} {v3 : Value} {x : Int32} : am_g d X am_m1017 14 [v0, v1, v2, v3] (.int x :: sk) st Q = am_g d X am_m1017 15 [v0, v1, am_kc v2, .int x] sk st Q := am_gu.trans (congrArg (fun l => am_g d X am_m1017 15 (List.set l 3 (.int x)) sk st Q) (kl_3 (l := [v3])))
theorem u1017_15 {v0 : Value} {v1 : Value} {v2 : Value} {x : Int32} : am_g d X am_m1017 15 [v0, v1, v2, .int x] sk st Q = am_g d X am_m1017 16 [v0, v1, v2, .int x] (.int x :: sk) st Q := am_gu.trans rfl
theorem u1017_16 {v0 : Value} {v1 : Value} {v2 : Value} {v3 : Value} {x : Int32} : am_g d X am_m1017 16 [v0, v1, v2, v3] (.int x :: sk) st Q = (if decide (x < 0) = true then am_g d X am_m1017 51 [v0, v1, v2, v3] sk st Q else am_g d X am_m1017 19 [v0, v1, v2, v3] sk st Q) := am_gu.trans rfl
theorem u1017_19 {v0 : Value} {v1 : Value} {v3 : Value} {x : Nat} : am_g d X am_m1017 19 [v0, v1, .ref x, v3] sk st Q = am_g d X am_m1017 20 [v0, v1, .ref x, v3] (.ref x :: sk) st Q := am_gu.trans rfl
theorem u1017_20 {v0 : Value} {v1 : Value} {v2 : Value} {x : Int32} : am_g d X am_m1017 20 [v0, v1, v2, .int x] sk st Q = am_g d X am_m1017 21 [v0, v1, v2, .int x] (.int x :: sk) st Q := am_gu.trans rfl
theorem u1017_21 {v0 : Value} {v1 : Value} {v2 : Value} {v3 : Value} : am_g d X am_m1017 21 [v0, v1, v2, v3] sk st Q = am_xl (X.1, X.2.1, d) am_m1017 22 [v0, v1, v2, v3] sk st (fun pc lc sk st => am_g d X am_m1017 pc lc sk st Q) := am_gu.trans rfl
theorem u1017_22 {v0 : Value} {v1 : Value} {v2 : Value} {v3 : Value} {x : Int32} : am_g d X am_m1017 22 [v0, v1, v2, v3] (.int x :: sk) st Q = (if decide (x = 0) = true then am_g d X am_m1017 45 [v0, v1, v2, v3] sk st Q else am_g d X am_m1017 25 [v0, v1, v2, v3] sk st Q) := am_gu.trans rfl
theorem u1017_25 {v0 : Value} {v1 : Value} {v3 : Value} {x : Nat} : am_g d X am_m1017 25 [v0, v1, .ref x, v3] sk st Q = am_g d X am_m1017 26 [v0, v1, .ref x, v3] (.ref x :: sk) st Q := am_gu.trans rfl
theorem u1017_26 {v1 : Value} {v2 : Value} {v3 : Value} {x : Nat} : am_g d X am_m1017 26 [.ref x, v1, v2, v3] sk st Q = am_g d X am_m1017 27 [.ref x, v1, v2, v3] (.ref x :: sk) st Q := am_gu.trans rfl
theorem u1017_27 {v0 : Value} {v1 : Value} {v2 : Value} {x : Int32} : am_g d X am_m1017 27 [v0, v1, v2, .int x] sk st Q = am_g d X am_m1017 28 [v0, v1, v2, .int x] (.int x :: sk) st Q := am_gu.trans rfl
theorem u1017_28 {a0 : Value} {v0 : Value} {v1 : Value} {v2 : Value} {v3 : Value} : am_g d X am_m1017 28 [v0, v1, v2, v3] (a0 :: .ref o :: sk) st Q = ((am_ob st o 5 ∧ sk.length ≤ 5) ∧ am_Ca X d 5005 [.ref o, a0] st (am_af am_m1017 28 [v0, v1, v2, v3] sk (fun pc lc sk st => am_g d X am_m1017 pc lc sk st Q) Q)) := am_gu.trans rfl
theorem u1017_31 {v0 : Value} {v1 : Value} {v2 : Value} {v3 : Value} : am_g d X am_m1017 31 [v0, v1, v2, v3] sk st Q = am_g d X am_m1017 32 [v0, v1, v2, v3] (.int (am_i 1) :: sk) st Q := am_gu.trans rfl
theorem u1017_32 {a0 : Value} {a1 : Value} {a2 : Value} {v0 : Value} {v1 : Value} {v2 : Value} {v3 : Value} : am_g d X am_m1017 32 [v0, v1, v2, v3] (a2 :: a1 :: a0 :: sk) st Q = (sk.length ≤ 4 ∧ am_Ca X d 1016 [a0, a1, a2] st (am_af am_m1017 32 [v0, v1, v2, v3] sk (fun pc lc sk st => am_g d X am_m1017 pc lc sk st Q) Q)) := am_gu.trans (propext ⟨fun h => ⟨h.1.2, h.2⟩, fun h => ⟨⟨Nat.le_add_left _ _, h.1⟩, h.2⟩⟩)
theorem u1017_35 {v0 : Value} {v1 : Value} {v3 : Value} {x : Nat} : am_g d X am_m1017 35 [v0, v1, .ref x, v3] sk st Q = am_g d X am_m1017 36 [v0, v1, .ref x, v3] (.ref x :: sk) st Q := am_gu.trans rfl
theorem u1017_36 {v1 : Value} {v2 : Value} {v3 : Value} {x : Nat} : am_g d X am_m1017 36 [.ref x, v1, v2, v3] sk st Q = am_g d X am_m1017 37 [.ref x, v1, v2, v3] (.ref x :: sk) st Q := am_gu.trans rfl
theorem u1017_37 {v0 : Value} {v1 : Value} {v2 : Value} {x : Int32} : am_g d X am_m1017 37 [v0, v1, v2, .int x] sk st Q = am_g d X am_m1017 38 [v0, v1, v2, .int x] (.int x :: sk) st Q := am_gu.trans rfl
theorem u1017_38 {a0 : Value} {v0 : Value} {v1 : Value} {v2 : Value} {v3 : Value} : am_g d X am_m1017 38 [v0, v1, v2, v3] (a0 :: .ref o :: sk) st Q = ((am_ob st o 5 ∧ sk.length ≤ 5) ∧ am_Ca X d 5006 [.ref o, a0] st (am_af am_m1017 38 [v0, v1, v2, v3] sk (fun pc lc sk st => am_g d X am_m1017 pc lc sk st Q) Q)) := am_gu.trans rfl
theorem u1017_41 {v0 : Value} {v1 : Value} {v2 : Value} {v3 : Value} : am_g d X am_m1017 41 [v0, v1, v2, v3] sk st Q = am_g d X am_m1017 42 [v0, v1, v2, v3] (.int (am_i 1) :: sk) st Q := am_gu.trans rfl
theorem u1017_42 {a0 : Value} {a1 : Value} {a2 : Value} {v0 : Value} {v1 : Value} {v2 : Value} {v3 : Value} : am_g d X am_m1017 42 [v0, v1, v2, v3] (a2 :: a1 :: a0 :: sk) st Q = (sk.length ≤ 4 ∧ am_Ca X d 1016 [a0, a1, a2] st (am_af am_m1017 42 [v0, v1, v2, v3] sk (fun pc lc sk st => am_g d X am_m1017 pc lc sk st Q) Q)) := am_gu.trans (propext ⟨fun h => ⟨h.1.2, h.2⟩, fun h => ⟨⟨Nat.le_add_left _ _, h.1⟩, h.2⟩⟩)
theorem u1017_45 {v0 : Value} {v1 : Value} {v2 : Value} {x : Int32} : am_g d X am_m1017 45 [v0, v1, v2, .int x] sk st Q = am_g d X am_m1017 48 [v0, v1, am_kc v2, .int (x + am_i (-1))] sk st Q := am_gu.trans (congrArg (fun l => am_g d X am_m1017 48 (List.set l 3 (.int (x + am_i (-1)))) sk st Q) (kl_3 (l := [.int x])))
theorem u1017_48 {v0 : Value} {v1 : Value} {v2 : Value} {v3 : Value} : am_g d X am_m1017 48 [v0, v1, v2, v3] sk st Q = am_g d X am_m1017 15 [v0, v1, v2, v3] sk st Q := am_gu.trans rfl
theorem u1017_51 {v0 : Value} {v1 : Value} {v2 : Value} {v3 : Value} : am_g d X am_m1017 51 [v0, v1, v2, v3] [] st Q = Q (.inl none) st := am_gu.trans rfl
set_option maxRecDepth 100000 in
theorem of_2001 : am_of 2001 = some am_m2001 := rfl
theorem c2001 {z} {P : am_Q} : am_Ca X (d + 1) 2001 [.ref z] st P = am_g d X am_m2001 0 [.ref z] [] st P := am_cg of_2001 (by show 1 ≤ 1; decide)
theorem hd_2001 : am_hd am_m2001 = [] := rfl
theorem u2001_0 {x : Nat} : am_g d X am_m2001 0 [.ref x] sk st Q = am_g d X am_m2001 1 [.ref x] (.ref x :: sk) st Q := am_gu.trans rfl
theorem u2001_1 {v0 : Value} : am_g d X am_m2001 1 [v0] (.ref o :: sk) st Q = (sk.length ≤ 4 ∧ am_g d X am_m2001 4 [v0] sk st Q) := am_gu.trans rfl
theorem u2001_4 {x : Nat} : am_g d X am_m2001 4 [.ref x] sk st Q = am_g d X am_m2001 5 [.ref x] (.ref x :: sk) st Q := am_gu.trans rfl
theorem u2001_5 {v0 : Value} : am_g d X am_m2001 5 [v0] sk st Q = am_g d X am_m2001 7 [v0] (.int (am_i 60) :: sk) st Q := am_gu.trans rfl
theorem u2001_7 {v0 : Value} : am_g d X am_m2001 7 [v0] sk st Q = am_na 1 none 9 [v0] sk st (fun pc lc sk st => am_g d X am_m2001 pc lc sk st Q) := am_gu.trans rfl
theorem u2001_9 {v0 : Value} : am_g d X am_m2001 9 [v0] sk st Q = am_pt 64 12 [v0] sk st (fun pc lc sk st => am_g d X am_m2001 pc lc sk st Q) := am_gu.trans rfl
theorem u2001_12 {x : Nat} : am_g d X am_m2001 12 [.ref x] sk st Q = am_g d X am_m2001 13 [.ref x] (.ref x :: sk) st Q := am_gu.trans rfl
theorem u2001_13 {v0 : Value} : am_g d X am_m2001 13 [v0] sk st Q = am_g d X am_m2001 14 [v0] (.int (am_i 0) :: sk) st Q := am_gu.trans rfl
theorem u2001_14 {v0 : Value} : am_g d X am_m2001 14 [v0] sk st Q = am_pt 65 17 [v0] sk st (fun pc lc sk st => am_g d X am_m2001 pc lc sk st Q) := am_gu.trans rfl
theorem u2001_17 {v0 : Value} : am_g d X am_m2001 17 [v0] [] st Q = Q (.inl none) st := am_gu.trans rfl
set_option maxRecDepth 100000 in
theorem of_2002 : am_of 2002 = some am_m2002 := rfl
theorem c2002 {z} {P : am_Q} : am_Ca X (d + 1) 2002 [.ref z] st P = am_g d X am_m2002 0 [.ref z] [] st P := am_cg of_2002 (by show 1 ≤ 1; decide)
theorem hd_2002 : am_hd am_m2002 = [] := rfl
theorem u2002_0 {x : Nat} : am_g d X am_m2002 0 [.ref x] sk st Q = am_g d X am_m2002 1 [.ref x] (.ref x :: sk) st Q := am_gu.trans rfl
theorem u2002_1 {v0 : Value} : am_g d X am_m2002 1 [v0] sk st Q = am_gt 65 4 [v0] sk st (fun pc lc sk st => am_g d X am_m2002 pc lc sk st Q) := am_gu.trans rfl
theorem u2002_4 {v0 : Value} {x : Int32} : am_g d X am_m2002 4 [v0] [.int x] st Q = Q (.inl (some (.int x))) st := am_gu.trans rfl
set_option maxRecDepth 100000 in
theorem of_2003 : am_of 2003 = some am_m2003 := rfl
theorem c2003 {z} {P : am_Q} : am_Ca X (d + 1) 2003 [.ref z] st P = am_g d X am_m2003 0 [.ref z] [] st P := am_cg of_2003 (by show 1 ≤ 1; decide)
theorem hd_2003 : am_hd am_m2003 = [] := rfl
theorem u2003_0 {x : Nat} : am_g d X am_m2003 0 [.ref x] sk st Q = am_g d X am_m2003 1 [.ref x] (.ref x :: sk) st Q := am_gu.trans rfl
theorem u2003_1 {v0 : Value} : am_g d X am_m2003 1 [v0] sk st Q = am_gt 65 4 [v0] sk st (fun pc lc sk st => am_g d X am_m2003 pc lc sk st Q) := am_gu.trans rfl
theorem u2003_4 {v0 : Value} : am_g d X am_m2003 4 [v0] sk st Q = am_g d X am_m2003 6 [v0] (.int (am_i 60) :: sk) st Q := am_gu.trans rfl
theorem u2003_6 {v0 : Value} {x : Int32} {y : Int32} : am_g d X am_m2003 6 [v0] (.int y :: .int x :: sk) st Q = (if decide (x < y) = true then am_g d X am_m2003 13 [v0] sk st Q else am_g d X am_m2003 9 [v0] sk st Q) := am_gu.trans rfl
theorem u2003_9 {v0 : Value} : am_g d X am_m2003 9 [v0] sk st Q = am_g d X am_m2003 10 [v0] (.int (am_i 1) :: sk) st Q := am_gu.trans rfl
theorem u2003_10 {v0 : Value} : am_g d X am_m2003 10 [v0] sk st Q = am_g d X am_m2003 14 [v0] sk st Q := am_gu.trans rfl
theorem u2003_13 {v0 : Value} : am_g d X am_m2003 13 [v0] sk st Q = am_g d X am_m2003 14 [v0] (.int (am_i 0) :: sk) st Q := am_gu.trans rfl
theorem u2003_14 {v0 : Value} {x : Int32} : am_g d X am_m2003 14 [v0] [.int x] st Q = ((x = 0 ∨ x = 1) ∧ Q (.inl (some (.int x))) st) := am_gu.trans rfl
set_option maxRecDepth 100000 in
theorem of_2004 : am_of 2004 = some am_m2004 := rfl
theorem c2004 {z a0} {P : am_Q} : am_Ca X (d + 1) 2004 [.ref z, .int a0] st P = am_g d X am_m2004 0 [.ref z, .int a0] [] st P := am_cg of_2004 (by show 2 ≤ 2; decide)
theorem hd_2004 : am_hd am_m2004 = [] := rfl
theorem u2004_0 {v1 : Value} {x : Nat} : am_g d X am_m2004 0 [.ref x, v1] sk st Q = am_g d X am_m2004 1 [.ref x, v1] (.ref x :: sk) st Q := am_gu.trans rfl
theorem u2004_1 {v0 : Value} {v1 : Value} : am_g d X am_m2004 1 [v0, v1] sk st Q = am_gt 65 4 [v0, v1] sk st (fun pc lc sk st => am_g d X am_m2004 pc lc sk st Q) := am_gu.trans rfl
theorem u2004_4 {v0 : Value} {v1 : Value} : am_g d X am_m2004 4 [v0, v1] sk st Q = am_g d X am_m2004 6 [v0, v1] (.int (am_i 60) :: sk) st Q := am_gu.trans rfl
theorem u2004_6 {v0 : Value} {v1 : Value} {x : Int32} {y : Int32} : am_g d X am_m2004 6 [v0, v1] (.int y :: .int x :: sk) st Q = (if decide (y ≤ x) = true then am_g d X am_m2004 29 [v0, v1] sk st Q else am_g d X am_m2004 9 [v0, v1] sk st Q) := am_gu.trans rfl
theorem u2004_9 {v1 : Value} {x : Nat} : am_g d X am_m2004 9 [.ref x, v1] sk st Q = am_g d X am_m2004 10 [.ref x, v1] (.ref x :: sk) st Q := am_gu.trans rfl
theorem u2004_10 {v0 : Value} {v1 : Value} : am_g d X am_m2004 10 [v0, v1] sk st Q = am_gt 64 13 [v0, v1] sk st (fun pc lc sk st => am_g d X am_m2004 pc lc sk st Q) := am_gu.trans rfl
theorem u2004_13 {v1 : Value} {x : Nat} : am_g d X am_m2004 13 [.ref x, v1] sk st Q = am_g d X am_m2004 14 [.ref x, v1] (.ref x :: sk) st Q := am_gu.trans rfl
theorem u2004_14 {v0 : Value} {v1 : Value} : am_g d X am_m2004 14 [v0, v1] sk st Q = am_gt 65 17 [v0, v1] sk st (fun pc lc sk st => am_g d X am_m2004 pc lc sk st Q) := am_gu.trans rfl
theorem u2004_17 {v0 : Value} {x : Int32} : am_g d X am_m2004 17 [v0, .int x] sk st Q = am_g d X am_m2004 18 [v0, .int x] (.int x :: sk) st Q := am_gu.trans rfl
theorem u2004_18 {v0 : Value} {v1 : Value} : am_g d X am_m2004 18 [v0, v1] sk st Q = am_xs 19 [v0, v1] sk st (fun pc lc sk st => am_g d X am_m2004 pc lc sk st Q) := am_gu.trans rfl
theorem u2004_19 {v1 : Value} {x : Nat} : am_g d X am_m2004 19 [.ref x, v1] sk st Q = am_g d X am_m2004 20 [.ref x, v1] (.ref x :: sk) st Q := am_gu.trans rfl
theorem u2004_20i {v0 : Value} {v1 : Value} {x : Int32} : am_g d X am_m2004 20 [v0, v1] (.int x :: sk) st Q = am_g d X am_m2004 21 [v0, v1] (.int x :: .int x :: sk) st Q := am_gu.trans rfl
theorem u2004_20r {v0 : Value} {v1 : Value} {x : Nat} : am_g d X am_m2004 20 [v0, v1] (.ref x :: sk) st Q = am_g d X am_m2004 21 [v0, v1] (.ref x :: .ref x :: sk) st Q := am_gu.trans rfl
theorem u2004_21 {v0 : Value} {v1 : Value} : am_g d X am_m2004 21 [v0, v1] sk st Q = am_gt 65 24 [v0, v1] sk st (fun pc lc sk st => am_g d X am_m2004 pc lc sk st Q) := am_gu.trans rfl
theorem u2004_24 {v0 : Value} {v1 : Value} : am_g d X am_m2004 24 [v0, v1] sk st Q = am_g d X am_m2004 25 [v0, v1] (.int (am_i 1) :: sk) st Q := am_gu.trans rfl
theorem u2004_25 {v0 : Value} {v1 : Value} {x : Int32} {y : Int32} : am_g d X am_m2004 25 [v0, v1] (.int y :: .int x :: sk) st Q = am_g d X am_m2004 26 [v0, v1] (.int (x + y) :: sk) st Q := am_gu.trans rfl
theorem u2004_26 {v0 : Value} {v1 : Value} : am_g d X am_m2004 26 [v0, v1] sk st Q = am_pt 65 29 [v0, v1] sk st (fun pc lc sk st => am_g d X am_m2004 pc lc sk st Q) := am_gu.trans rfl
theorem u2004_29 {v1 : Value} {x : Nat} : am_g d X am_m2004 29 [.ref x, v1] sk st Q = am_g d X am_m2004 30 [.ref x, v1] (.ref x :: sk) st Q := am_gu.trans rfl
theorem u2004_30 {v0 : Value} {v1 : Value} : am_g d X am_m2004 30 [v0, v1] sk st Q = am_gt 65 33 [v0, v1] sk st (fun pc lc sk st => am_g d X am_m2004 pc lc sk st Q) := am_gu.trans rfl
theorem u2004_33 {v0 : Value} {v1 : Value} {x : Int32} : am_g d X am_m2004 33 [v0, v1] [.int x] st Q = Q (.inl (some (.int x))) st := am_gu.trans rfl
set_option maxRecDepth 100000 in
theorem of_2005 : am_of 2005 = some am_m2005 := rfl
theorem c2005 {z} {P : am_Q} : am_Ca X (d + 1) 2005 [.ref z] st P = am_g d X am_m2005 0 [.ref z, am_u] [] st P := am_cg of_2005 (by show 1 ≤ 2; decide)
theorem hd_2005 : am_hd am_m2005 = [] := rfl
theorem u2005_0 {v1 : Value} {x : Nat} : am_g d X am_m2005 0 [.ref x, v1] sk st Q = am_g d X am_m2005 1 [.ref x, v1] (.ref x :: sk) st Q := am_gu.trans rfl
theorem u2005_1 {v0 : Value} {v1 : Value} : am_g d X am_m2005 1 [v0, v1] sk st Q = am_gt 65 4 [v0, v1] sk st (fun pc lc sk st => am_g d X am_m2005 pc lc sk st Q) := am_gu.trans rfl
theorem u2005_4 {v0 : Value} {v1 : Value} {x : Int32} : am_g d X am_m2005 4 [v0, v1] (.int x :: sk) st Q = am_g d X am_m2005 5 [am_kc v0, .int x] sk st Q := am_gu.trans (congrArg (fun l => am_g d X am_m2005 5 (List.set l 1 (.int x)) sk st Q) (kl_1 (l := [v1])))
theorem u2005_5 {v1 : Value} {x : Nat} : am_g d X am_m2005 5 [.ref x, v1] sk st Q = am_g d X am_m2005 6 [.ref x, v1] (.ref x :: sk) st Q := am_gu.trans rfl
theorem u2005_6 {v0 : Value} {v1 : Value} : am_g d X am_m2005 6 [v0, v1] sk st Q = am_g d X am_m2005 7 [v0, v1] (.int (am_i 0) :: sk) st Q := am_gu.trans rfl
theorem u2005_7 {v0 : Value} {v1 : Value} : am_g d X am_m2005 7 [v0, v1] sk st Q = am_pt 65 10 [v0, v1] sk st (fun pc lc sk st => am_g d X am_m2005 pc lc sk st Q) := am_gu.trans rfl
theorem u2005_10 {v0 : Value} {x : Int32} : am_g d X am_m2005 10 [v0, .int x] sk st Q = am_g d X am_m2005 11 [v0, .int x] (.int x :: sk) st Q := am_gu.trans rfl
theorem u2005_11 {v0 : Value} {v1 : Value} {x : Int32} : am_g d X am_m2005 11 [v0, v1] [.int x] st Q = Q (.inl (some (.int x))) st := am_gu.trans rfl
set_option maxRecDepth 100000 in
theorem of_2006 : am_of 2006 = some am_m2006 := rfl
theorem c2006 {z a0} {P : am_Q} : am_Ca X (d + 1) 2006 [.ref z, .int a0] st P = am_g d X am_m2006 0 [.ref z, .int a0] [] st P := am_cg of_2006 (by show 2 ≤ 2; decide)
theorem hd_2006 : am_hd am_m2006 = [] := rfl
theorem u2006_0 {v0 : Value} {x : Int32} : am_g d X am_m2006 0 [v0, .int x] sk st Q = am_g d X am_m2006 1 [v0, .int x] (.int x :: sk) st Q := am_gu.trans rfl
theorem u2006_1 {v0 : Value} {v1 : Value} {x : Int32} : am_g d X am_m2006 1 [v0, v1] (.int x :: sk) st Q = (if decide (x < 0) = true then am_g d X am_m2006 27 [v0, v1] sk st Q else am_g d X am_m2006 4 [v0, v1] sk st Q) := am_gu.trans rfl
theorem u2006_4 {v0 : Value} {x : Int32} : am_g d X am_m2006 4 [v0, .int x] sk st Q = am_g d X am_m2006 5 [v0, .int x] (.int x :: sk) st Q := am_gu.trans rfl
theorem u2006_5 {v1 : Value} {x : Nat} : am_g d X am_m2006 5 [.ref x, v1] sk st Q = am_g d X am_m2006 6 [.ref x, v1] (.ref x :: sk) st Q := am_gu.trans rfl
theorem u2006_6 {v0 : Value} {v1 : Value} : am_g d X am_m2006 6 [v0, v1] sk st Q = am_gt 65 9 [v0, v1] sk st (fun pc lc sk st => am_g d X am_m2006 pc lc sk st Q) := am_gu.trans rfl
theorem u2006_9 {v0 : Value} {v1 : Value} {x : Int32} {y : Int32} : am_g d X am_m2006 9 [v0, v1] (.int y :: .int x :: sk) st Q = (if decide (y ≤ x) = true then am_g d X am_m2006 27 [v0, v1] sk st Q else am_g d X am_m2006 12 [v0, v1] sk st Q) := am_gu.trans rfl
theorem u2006_12 {v0 : Value} {x : Int32} : am_g d X am_m2006 12 [v0, .int x] sk st Q = am_g d X am_m2006 13 [v0, .int x] (.int x :: sk) st Q := am_gu.trans rfl
theorem u2006_13 {v0 : Value} {v1 : Value} : am_g d X am_m2006 13 [v0, v1] sk st Q = am_g d X am_m2006 15 [v0, v1] (.int (am_i 60) :: sk) st Q := am_gu.trans rfl
theorem u2006_15 {v0 : Value} {v1 : Value} {x : Int32} {y : Int32} : am_g d X am_m2006 15 [v0, v1] (.int y :: .int x :: sk) st Q = (if decide (y ≤ x) = true then am_g d X am_m2006 27 [v0, v1] sk st Q else am_g d X am_m2006 18 [v0, v1] sk st Q) := am_gu.trans rfl
theorem u2006_18 {v1 : Value} {x : Nat} : am_g d X am_m2006 18 [.ref x, v1] sk st Q = am_g d X am_m2006 19 [.ref x, v1] (.ref x :: sk) st Q := am_gu.trans rfl
theorem u2006_19 {v0 : Value} {v1 : Value} : am_g d X am_m2006 19 [v0, v1] sk st Q = am_gt 64 22 [v0, v1] sk st (fun pc lc sk st => am_g d X am_m2006 pc lc sk st Q) := am_gu.trans rfl
theorem u2006_22 {v0 : Value} {x : Int32} : am_g d X am_m2006 22 [v0, .int x] sk st Q = am_g d X am_m2006 23 [v0, .int x] (.int x :: sk) st Q := am_gu.trans rfl
theorem u2006_23 {v0 : Value} {v1 : Value} : am_g d X am_m2006 23 [v0, v1] sk st Q = am_xl (X.1, X.2.1, d) am_m2006 24 [v0, v1] sk st (fun pc lc sk st => am_g d X am_m2006 pc lc sk st Q) := am_gu.trans rfl
theorem u2006_24 {v0 : Value} {v1 : Value} : am_g d X am_m2006 24 [v0, v1] sk st Q = am_g d X am_m2006 29 [v0, v1] sk st Q := am_gu.trans rfl
theorem u2006_27 {v0 : Value} {v1 : Value} : am_g d X am_m2006 27 [v0, v1] sk st Q = am_g d X am_m2006 29 [v0, v1] (.int (am_i 59) :: sk) st Q := am_gu.trans rfl
theorem u2006_29 {v0 : Value} {v1 : Value} {x : Int32} : am_g d X am_m2006 29 [v0, v1] [.int x] st Q = Q (.inl (some (.int x))) st := am_gu.trans rfl
set_option maxRecDepth 100000 in
theorem of_2007 : am_of 2007 = some am_m2007 := rfl
theorem c2007 {z} {P : am_Q} : am_Ca X (d + 1) 2007 [.ref z] st P = am_g d X am_m2007 0 [.ref z, am_u, am_u] [] st P := am_cg of_2007 (by show 1 ≤ 3; decide)
theorem hd_2007 : am_hd am_m2007 = [] := rfl
theorem u2007_0 {v0 : Value} {v1 : Value} {v2 : Value} : am_g d X am_m2007 0 [v0, v1, v2] sk st Q = am_g d X am_m2007 1 [v0, v1, v2] (.int (am_i 0) :: sk) st Q := am_gu.trans rfl
theorem u2007_1 {v0 : Value} {v1 : Value} {v2 : Value} {x : Int32} : am_g d X am_m2007 1 [v0, v1, v2] (.int x :: sk) st Q = am_g d X am_m2007 2 [am_kc v0, .int x, v2] sk st Q := am_gu.trans (congrArg (fun l => am_g d X am_m2007 2 (List.set l 1 (.int x)) sk st Q) (kl_1 (l := [v1, v2])))
theorem u2007_2 {v0 : Value} {v1 : Value} {v2 : Value} : am_g d X am_m2007 2 [v0, v1, v2] sk st Q = am_g d X am_m2007 3 [v0, v1, v2] (.int (am_i 0) :: sk) st Q := am_gu.trans rfl
theorem u2007_3 {v0 : Value} {v1 : Value} {v2 : Value} {x : Int32} : am_g d X am_m2007 3 [v0, v1, v2] (.int x :: sk) st Q = am_g d X am_m2007 4 [v0, am_kc v1, .int x] sk st Q := am_gu.trans (congrArg (fun l => am_g d X am_m2007 4 (List.set l 2 (.int x)) sk st Q) (kl_2 (l := [v2])))
theorem u2007_4 {v0 : Value} {v1 : Value} {x : Int32} : am_g d X am_m2007 4 [v0, v1, .int x] sk st Q = am_g d X am_m2007 5 [v0, v1, .int x] (.int x :: sk) st Q := am_gu.trans rfl
theorem u2007_5 {v1 : Value} {v2 : Value} {x : Nat} : am_g d X am_m2007 5 [.ref x, v1, v2] sk st Q = am_g d X am_m2007 6 [.ref x, v1, v2] (.ref x :: sk) st Q := am_gu.trans rfl
theorem u2007_6 {v0 : Value} {v1 : Value} {v2 : Value} : am_g d X am_m2007 6 [v0, v1, v2] sk st Q = am_gt 65 9 [v0, v1, v2] sk st (fun pc lc sk st => am_g d X am_m2007 pc lc sk st Q) := am_gu.trans rfl
theorem u2007_9 {v0 : Value} {v1 : Value} {v2 : Value} {x : Int32} {y : Int32} : am_g d X am_m2007 9 [v0, v1, v2] (.int y :: .int x :: sk) st Q = (if decide (y ≤ x) = true then am_g d X am_m2007 36 [v0, v1, v2] sk st Q else am_g d X am_m2007 12 [v0, v1, v2] sk st Q) := am_gu.trans rfl
theorem u2007_12 {v0 : Value} {v2 : Value} {x : Int32} : am_g d X am_m2007 12 [v0, .int x, v2] sk st Q = am_g d X am_m2007 13 [v0, .int x, v2] (.int x :: sk) st Q := am_gu.trans rfl
theorem u2007_13 {v1 : Value} {v2 : Value} {x : Nat} : am_g d X am_m2007 13 [.ref x, v1, v2] sk st Q = am_g d X am_m2007 14 [.ref x, v1, v2] (.ref x :: sk) st Q := am_gu.trans rfl
theorem u2007_14 {v0 : Value} {v1 : Value} {x : Int32} : am_g d X am_m2007 14 [v0, v1, .int x] sk st Q = am_g d X am_m2007 15 [v0, v1, .int x] (.int x :: sk) st Q := am_gu.trans rfl
theorem u2007_15 {a0 : Value} {v0 : Value} {v1 : Value} {v2 : Value} : am_g d X am_m2007 15 [v0, v1, v2] (a0 :: .ref o :: sk) st Q = ((am_ob st o 2 ∧ sk.length ≤ 5) ∧ am_Ca X d 2006 [.ref o, a0] st (am_af am_m2007 15 [v0, v1, v2] sk (fun pc lc sk st => am_g d X am_m2007 pc lc sk st Q) Q)) := am_gu.trans rfl
theorem u2007_18 {a0 : Value} {a1 : Value} {v0 : Value} {v1 : Value} {v2 : Value} : am_g d X am_m2007 18 [v0, v1, v2] (a1 :: a0 :: sk) st Q = (sk.length ≤ 4 ∧ am_Ca X d 2011 [a0, a1] st (am_af am_m2007 18 [v0, v1, v2] sk (fun pc lc sk st => am_g d X am_m2007 pc lc sk st Q) Q)) := am_gu.trans (propext ⟨fun h => ⟨h.1.2, h.2⟩, fun h => ⟨⟨Nat.le_add_left _ _, h.1⟩, h.2⟩⟩)
theorem u2007_21 {v0 : Value} {v1 : Value} {v2 : Value} {x : Int32} : am_g d X am_m2007 21 [v0, v1, v2] (.int x :: sk) st Q = am_g d X am_m2007 22 [am_kc v0, .int x, v2] sk st Q := am_gu.trans (congrArg (fun l => am_g d X am_m2007 22 (List.set l 1 (.int x)) sk st Q) (kl_1 (l := [v1, v2])))
theorem u2007_22 {v0 : Value} {v2 : Value} {x : Int32} : am_g d X am_m2007 22 [v0, .int x, v2] sk st Q = am_g d X am_m2007 23 [v0, .int x, v2] (.int x :: sk) st Q := am_gu.trans rfl
theorem u2007_23 {v0 : Value} {v1 : Value} {v2 : Value} : am_g d X am_m2007 23 [v0, v1, v2] sk st Q = am_g d X am_m2007 25 [v0, v1, v2] (.int (am_i 9) :: sk) st Q := am_gu.trans rfl
theorem u2007_25 {v0 : Value} {v1 : Value} {v2 : Value} {x : Int32} {y : Int32} : am_g d X am_m2007 25 [v0, v1, v2] (.int y :: .int x :: sk) st Q = (if decide (¬ x = y) = true then am_g d X am_m2007 30 [v0, v1, v2] sk st Q else am_g d X am_m2007 28 [v0, v1, v2] sk st Q) := am_gu.trans rfl
theorem u2007_28 {v0 : Value} {v1 : Value} {x : Int32} : am_g d X am_m2007 28 [v0, v1, .int x] sk st Q = am_g d X am_m2007 29 [v0, v1, .int x] (.int x :: sk) st Q := am_gu.trans rfl
theorem u2007_29 {v0 : Value} {v1 : Value} {v2 : Value} {x : Int32} : am_g d X am_m2007 29 [v0, v1, v2] [.int x] st Q = Q (.inl (some (.int x))) st := am_gu.trans rfl
theorem u2007_30 {v0 : Value} {v1 : Value} {x : Int32} : am_g d X am_m2007 30 [v0, v1, .int x] sk st Q = am_g d X am_m2007 33 [v0, am_kc v1, .int (x + am_i 1)] sk st Q := am_gu.trans (congrArg (fun l => am_g d X am_m2007 33 (List.set l 2 (.int (x + am_i 1))) sk st Q) (kl_2 (l := [.int x])))
theorem u2007_33 {v0 : Value} {v1 : Value} {v2 : Value} : am_g d X am_m2007 33 [v0, v1, v2] sk st Q = am_g d X am_m2007 4 [v0, v1, v2] sk st Q := am_gu.trans rfl
theorem u2007_36 {v0 : Value} {v2 : Value} {x : Int32} : am_g d X am_m2007 36 [v0, .int x, v2] sk st Q = am_g d X am_m2007 37 [v0, .int x, v2] (.int x :: sk) st Q := am_gu.trans rfl
theorem u2007_37 {v0 : Value} {v1 : Value} {v2 : Value} {x : Int32} : am_g d X am_m2007 37 [v0, v1, v2] (.int x :: sk) st Q = (if decide (¬ x = 0) = true then am_g d X am_m2007 44 [v0, v1, v2] sk st Q else am_g d X am_m2007 40 [v0, v1, v2] sk st Q) := am_gu.trans rfl
theorem u2007_40 {v0 : Value} {v1 : Value} {v2 : Value} : am_g d X am_m2007 40 [v0, v1, v2] sk st Q = am_g d X am_m2007 41 [v0, v1, v2] (.int (am_i (-1)) :: sk) st Q := am_gu.trans rfl
theorem u2007_41 {v0 : Value} {v1 : Value} {v2 : Value} : am_g d X am_m2007 41 [v0, v1, v2] sk st Q = am_g d X am_m2007 48 [v0, v1, v2] sk st Q := am_gu.trans rfl
theorem u2007_44 {v1 : Value} {v2 : Value} {x : Nat} : am_g d X am_m2007 44 [.ref x, v1, v2] sk st Q = am_g d X am_m2007 45 [.ref x, v1, v2] (.ref x :: sk) st Q := am_gu.trans rfl
theorem u2007_45 {v0 : Value} {v1 : Value} {v2 : Value} : am_g d X am_m2007 45 [v0, v1, v2] sk st Q = am_gt 65 48 [v0, v1, v2] sk st (fun pc lc sk st => am_g d X am_m2007 pc lc sk st Q) := am_gu.trans rfl
theorem u2007_48 {v0 : Value} {v1 : Value} {v2 : Value} {x : Int32} : am_g d X am_m2007 48 [v0, v1, v2] [.int x] st Q = Q (.inl (some (.int x))) st := am_gu.trans rfl
set_option maxRecDepth 100000 in
theorem of_2008 : am_of 2008 = some am_m2008 := rfl
theorem c2008 {z a0} {P : am_Q} : am_Ca X (d + 1) 2008 [.ref z, .int a0] st P = am_g d X am_m2008 0 [.ref z, .int a0, am_u] [] st P := am_cg of_2008 (by show 2 ≤ 3; decide)
theorem hd_2008 : am_hd am_m2008 = [] := rfl
theorem u2008_0 {v0 : Value} {v2 : Value} {x : Int32} : am_g d X am_m2008 0 [v0, .int x, v2] sk st Q = am_g d X am_m2008 1 [v0, .int x, v2] (.int x :: sk) st Q := am_gu.trans rfl
theorem u2008_1 {v0 : Value} {v1 : Value} {v2 : Value} {x : Int32} : am_g d X am_m2008 1 [v0, v1, v2] (.int x :: sk) st Q = am_g d X am_m2008 2 [v0, am_kc v1, .int x] sk st Q := am_gu.trans (congrArg (fun l => am_g d X am_m2008 2 (List.set l 2 (.int x)) sk st Q) (kl_2 (l := [v2])))
theorem u2008_2 {v0 : Value} {v1 : Value} {x : Int32} : am_g d X am_m2008 2 [v0, v1, .int x] sk st Q = am_g d X am_m2008 3 [v0, v1, .int x] (.int x :: sk) st Q := am_gu.trans rfl
theorem u2008_3 {v1 : Value} {v2 : Value} {x : Nat} : am_g d X am_m2008 3 [.ref x, v1, v2] sk st Q = am_g d X am_m2008 4 [.ref x, v1, v2] (.ref x :: sk) st Q := am_gu.trans rfl
theorem u2008_4 {v0 : Value} {v1 : Value} {v2 : Value} : am_g d X am_m2008 4 [v0, v1, v2] sk st Q = am_gt 65 7 [v0, v1, v2] sk st (fun pc lc sk st => am_g d X am_m2008 pc lc sk st Q) := am_gu.trans rfl
theorem u2008_7 {v0 : Value} {v1 : Value} {v2 : Value} {x : Int32} {y : Int32} : am_g d X am_m2008 7 [v0, v1, v2] (.int y :: .int x :: sk) st Q = (if decide (y ≤ x) = true then am_g d X am_m2008 26 [v0, v1, v2] sk st Q else am_g d X am_m2008 10 [v0, v1, v2] sk st Q) := am_gu.trans rfl
theorem u2008_10 {v1 : Value} {v2 : Value} {x : Nat} : am_g d X am_m2008 10 [.ref x, v1, v2] sk st Q = am_g d X am_m2008 11 [.ref x, v1, v2] (.ref x :: sk) st Q := am_gu.trans rfl
theorem u2008_11 {v0 : Value} {v1 : Value} {x : Int32} : am_g d X am_m2008 11 [v0, v1, .int x] sk st Q = am_g d X am_m2008 12 [v0, v1, .int x] (.int x :: sk) st Q := am_gu.trans rfl
theorem u2008_12 {a0 : Value} {v0 : Value} {v1 : Value} {v2 : Value} : am_g d X am_m2008 12 [v0, v1, v2] (a0 :: .ref o :: sk) st Q = ((am_ob st o 2 ∧ sk.length ≤ 5) ∧ am_Ca X d 2006 [.ref o, a0] st (am_af am_m2008 12 [v0, v1, v2] sk (fun pc lc sk st => am_g d X am_m2008 pc lc sk st Q) Q)) := am_gu.trans rfl
theorem u2008_15 {v0 : Value} {v1 : Value} {v2 : Value} : am_g d X am_m2008 15 [v0, v1, v2] sk st Q = am_g d X am_m2008 17 [v0, v1, v2] (.int (am_i 59) :: sk) st Q := am_gu.trans rfl
theorem u2008_17 {v0 : Value} {v1 : Value} {v2 : Value} {x : Int32} {y : Int32} : am_g d X am_m2008 17 [v0, v1, v2] (.int y :: .int x :: sk) st Q = (if decide (x = y) = true then am_g d X am_m2008 26 [v0, v1, v2] sk st Q else am_g d X am_m2008 20 [v0, v1, v2] sk st Q) := am_gu.trans rfl
theorem u2008_20 {v0 : Value} {v1 : Value} {x : Int32} : am_g d X am_m2008 20 [v0, v1, .int x] sk st Q = am_g d X am_m2008 23 [v0, am_kc v1, .int (x + am_i 1)] sk st Q := am_gu.trans (congrArg (fun l => am_g d X am_m2008 23 (List.set l 2 (.int (x + am_i 1))) sk st Q) (kl_2 (l := [.int x])))
theorem u2008_23 {v0 : Value} {v1 : Value} {v2 : Value} : am_g d X am_m2008 23 [v0, v1, v2] sk st Q = am_g d X am_m2008 2 [v0, v1, v2] sk st Q := am_gu.trans rfl
theorem u2008_26 {v0 : Value} {v1 : Value} {x : Int32} : am_g d X am_m2008 26 [v0, v1, .int x] sk st Q = am_g d X am_m2008 27 [v0, v1, .int x] (.int x :: sk) st Q := am_gu.trans rfl
theorem u2008_27 {v0 : Value} {v1 : Value} {v2 : Value} {x : Int32} : am_g d X am_m2008 27 [v0, v1, v2] [.int x] st Q = Q (.inl (some (.int x))) st := am_gu.trans rfl
set_option maxRecDepth 100000 in
theorem of_2009 : am_of 2009 = some am_m2009 := rfl
theorem c2009 {z a0} {P : am_Q} : am_Ca X (d + 1) 2009 [.ref z, .int a0] st P = am_g d X am_m2009 0 [.ref z, .int a0, am_u, am_u] [] st P := am_cg of_2009 (by show 2 ≤ 4; decide)
theorem hd_2009 : am_hd am_m2009 = [] := rfl
theorem u2009_0 {v0 : Value} {v1 : Value} {v2 : Value} {v3 : Value} : am_g d X am_m2009 0 [v0, v1, v2, v3] sk st Q = am_g d X am_m2009 1 [v0, v1, v2, v3] (.int (am_i 0) :: sk) st Q := am_gu.trans rfl
theorem u2009_1 {v0 : Value} {v1 : Value} {v2 : Value} {v3 : Value} {x : Int32} : am_g d X am_m2009 1 [v0, v1, v2, v3] (.int x :: sk) st Q = am_g d X am_m2009 2 [v0, am_kc v1, .int x, v3] sk st Q := am_gu.trans (congrArg (fun l => am_g d X am_m2009 2 (List.set l 2 (.int x)) sk st Q) (kl_2 (l := [v2, v3])))
theorem u2009_2 {v0 : Value} {v2 : Value} {v3 : Value} {x : Int32} : am_g d X am_m2009 2 [v0, .int x, v2, v3] sk st Q = am_g d X am_m2009 3 [v0, .int x, v2, v3] (.int x :: sk) st Q := am_gu.trans rfl
theorem u2009_3 {v0 : Value} {v1 : Value} {v2 : Value} {v3 : Value} {x : Int32} : am_g d X am_m2009 3 [v0, v1, v2, v3] (.int x :: sk) st Q = am_g d X am_m2009 4 [v0, v1, am_kc v2, .int x] sk st Q := am_gu.trans (congrArg (fun l => am_g d X am_m2009 4 (List.set l 3 (.int x)) sk st Q) (kl_3 (l := [v3])))
theorem u2009_4 {v0 : Value} {v1 : Value} {v2 : Value} {x : Int32} : am_g d X am_m2009 4 [v0, v1, v2, .int x] sk st Q = am_g d X am_m2009 5 [v0, v1, v2, .int x] (.int x :: sk) st Q := am_gu.trans rfl
theorem u2009_5 {v0 : Value} {v2 : Value} {v3 : Value} {x : Int32} : am_g d X am_m2009 5 [v0, .int x, v2, v3] sk st Q = am_g d X am_m2009 6 [v0, .int x, v2, v3] (.int x :: sk) st Q := am_gu.trans rfl
theorem u2009_6 {v0 : Value} {v1 : Value} {v2 : Value} {v3 : Value} : am_g d X am_m2009 6 [v0, v1, v2, v3] sk st Q = am_g d X am_m2009 7 [v0, v1, v2, v3] (.int (am_i 2) :: sk) st Q := am_gu.trans rfl
theorem u2009_7 {v0 : Value} {v1 : Value} {v2 : Value} {v3 : Value} {x : Int32} {y : Int32} : am_g d X am_m2009 7 [v0, v1, v2, v3] (.int y :: .int x :: sk) st Q = am_g d X am_m2009 8 [v0, v1, v2, v3] (.int (x + y) :: sk) st Q := am_gu.trans rfl
theorem u2009_8 {v0 : Value} {v1 : Value} {v2 : Value} {v3 : Value} {x : Int32} {y : Int32} : am_g d X am_m2009 8 [v0, v1, v2, v3] (.int y :: .int x :: sk) st Q = (if decide (y ≤ x) = true then am_g d X am_m2009 46 [v0, v1, v2, v3] sk st Q else am_g d X am_m2009 11 [v0, v1, v2, v3] sk st Q) := am_gu.trans rfl
theorem u2009_11 {v1 : Value} {v2 : Value} {v3 : Value} {x : Nat} : am_g d X am_m2009 11 [.ref x, v1, v2, v3] sk st Q = am_g d X am_m2009 12 [.ref x, v1, v2, v3] (.ref x :: sk) st Q := am_gu.trans rfl
theorem u2009_12 {v0 : Value} {v1 : Value} {v2 : Value} {x : Int32} : am_g d X am_m2009 12 [v0, v1, v2, .int x] sk st Q = am_g d X am_m2009 13 [v0, v1, v2, .int x] (.int x :: sk) st Q := am_gu.trans rfl
theorem u2009_13 {a0 : Value} {v0 : Value} {v1 : Value} {v2 : Value} {v3 : Value} : am_g d X am_m2009 13 [v0, v1, v2, v3] (a0 :: .ref o :: sk) st Q = ((am_ob st o 2 ∧ sk.length ≤ 5) ∧ am_Ca X d 2006 [.ref o, a0] st (am_af am_m2009 13 [v0, v1, v2, v3] sk (fun pc lc sk st => am_g d X am_m2009 pc lc sk st Q) Q)) := am_gu.trans rfl
theorem u2009_16 {v0 : Value} {v1 : Value} {v2 : Value} {v3 : Value} : am_g d X am_m2009 16 [v0, v1, v2, v3] sk st Q = am_g d X am_m2009 18 [v0, v1, v2, v3] (.int (am_i 48) :: sk) st Q := am_gu.trans rfl
theorem u2009_18 {v0 : Value} {v1 : Value} {v2 : Value} {v3 : Value} : am_g d X am_m2009 18 [v0, v1, v2, v3] sk st Q = am_g d X am_m2009 20 [v0, v1, v2, v3] (.int (am_i 57) :: sk) st Q := am_gu.trans rfl
theorem u2009_20 {a0 : Value} {a1 : Value} {a2 : Value} {v0 : Value} {v1 : Value} {v2 : Value} {v3 : Value} : am_g d X am_m2009 20 [v0, v1, v2, v3] (a2 :: a1 :: a0 :: sk) st Q = (sk.length ≤ 4 ∧ am_Ca X d 2010 [a0, a1, a2] st (am_af am_m2009 20 [v0, v1, v2, v3] sk (fun pc lc sk st => am_g d X am_m2009 pc lc sk st Q) Q)) := am_gu.trans (propext ⟨fun h => ⟨h.1.2, h.2⟩, fun h => ⟨⟨Nat.le_add_left _ _, h.1⟩, h.2⟩⟩)
theorem u2009_23 {v0 : Value} {v1 : Value} {v2 : Value} {v3 : Value} {x : Int32} : am_g d X am_m2009 23 [v0, v1, v2, v3] (.int x :: sk) st Q = (if decide (x = 0) = true then am_g d X am_m2009 46 [v0, v1, v2, v3] sk st Q else am_g d X am_m2009 26 [v0, v1, v2, v3] sk st Q) := am_gu.trans rfl
theorem u2009_26 {v0 : Value} {v1 : Value} {v3 : Value} {x : Int32} : am_g d X am_m2009 26 [v0, v1, .int x, v3] sk st Q = am_g d X am_m2009 27 [v0, v1, .int x, v3] (.int x :: sk) st Q := am_gu.trans rfl
theorem u2009_27 {v0 : Value} {v1 : Value} {v2 : Value} {v3 : Value} : am_g d X am_m2009 27 [v0, v1, v2, v3] sk st Q = am_g d X am_m2009 29 [v0, v1, v2, v3] (.int (am_i 10) :: sk) st Q := am_gu.trans rfl
theorem u2009_29 {v0 : Value} {v1 : Value} {v2 : Value} {v3 : Value} {x : Int32} {y : Int32} : am_g d X am_m2009 29 [v0, v1, v2, v3] (.int y :: .int x :: sk) st Q = am_g d X am_m2009 30 [v0, v1, v2, v3] (.int (x * y) :: sk) st Q := am_gu.trans rfl
theorem u2009_30 {v1 : Value} {v2 : Value} {v3 : Value} {x : Nat} : am_g d X am_m2009 30 [.ref x, v1, v2, v3] sk st Q = am_g d X am_m2009 31 [.ref x, v1, v2, v3] (.ref x :: sk) st Q := am_gu.trans rfl
theorem u2009_31 {v0 : Value} {v1 : Value} {v2 : Value} {x : Int32} : am_g d X am_m2009 31 [v0, v1, v2, .int x] sk st Q = am_g d X am_m2009 32 [v0, v1, v2, .int x] (.int x :: sk) st Q := am_gu.trans rfl
theorem u2009_32 {a0 : Value} {v0 : Value} {v1 : Value} {v2 : Value} {v3 : Value} : am_g d X am_m2009 32 [v0, v1, v2, v3] (a0 :: .ref o :: sk) st Q = ((am_ob st o 2 ∧ sk.length ≤ 5) ∧ am_Ca X d 2006 [.ref o, a0] st (am_af am_m2009 32 [v0, v1, v2, v3] sk (fun pc lc sk st => am_g d X am_m2009 pc lc sk st Q) Q)) := am_gu.trans rfl
theorem u2009_35 {v0 : Value} {v1 : Value} {v2 : Value} {v3 : Value} : am_g d X am_m2009 35 [v0, v1, v2, v3] sk st Q = am_g d X am_m2009 37 [v0, v1, v2, v3] (.int (am_i 48) :: sk) st Q := am_gu.trans rfl
theorem u2009_37 {v0 : Value} {v1 : Value} {v2 : Value} {v3 : Value} {x : Int32} {y : Int32} : am_g d X am_m2009 37 [v0, v1, v2, v3] (.int y :: .int x :: sk) st Q = am_g d X am_m2009 38 [v0, v1, v2, v3] (.int (x - y) :: sk) st Q := am_gu.trans rfl
theorem u2009_38 {v0 : Value} {v1 : Value} {v2 : Value} {v3 : Value} {x : Int32} {y : Int32} : am_g d X am_m2009 38 [v0, v1, v2, v3] (.int y :: .int x :: sk) st Q = am_g d X am_m2009 39 [v0, v1, v2, v3] (.int (x + y) :: sk) st Q := am_gu.trans rfl
theorem u2009_39 {v0 : Value} {v1 : Value} {v2 : Value} {v3 : Value} {x : Int32} : am_g d X am_m2009 39 [v0, v1, v2, v3] (.int x :: sk) st Q = am_g d X am_m2009 40 [v0, am_kc v1, .int x, v3] sk st Q := am_gu.trans (congrArg (fun l => am_g d X am_m2009 40 (List.set l 2 (.int x)) sk st Q) (kl_2 (l := [v2, v3])))
theorem u2009_40 {v0 : Value} {v1 : Value} {v2 : Value} {x : Int32} : am_g d X am_m2009 40 [v0, v1, v2, .int x] sk st Q = am_g d X am_m2009 43 [v0, v1, am_kc v2, .int (x + am_i 1)] sk st Q := am_gu.trans (congrArg (fun l => am_g d X am_m2009 43 (List.set l 3 (.int (x + am_i 1))) sk st Q) (kl_3 (l := [.int x])))
theorem u2009_43 {v0 : Value} {v1 : Value} {v2 : Value} {v3 : Value} : am_g d X am_m2009 43 [v0, v1, v2, v3] sk st Q = am_g d X am_m2009 4 [v0, v1, v2, v3] sk st Q := am_gu.trans rfl
theorem u2009_46 {v0 : Value} {v1 : Value} {v3 : Value} {x : Int32} : am_g d X am_m2009 46 [v0, v1, .int x, v3] sk st Q = am_g d X am_m2009 47 [v0, v1, .int x, v3] (.int x :: sk) st Q := am_gu.trans rfl
theorem u2009_47 {v0 : Value} {v1 : Value} {v2 : Value} {v3 : Value} {x : Int32} : am_g d X am_m2009 47 [v0, v1, v2, v3] [.int x] st Q = Q (.inl (some (.int x))) st := am_gu.trans rfl
set_option maxRecDepth 100000 in
theorem of_2010 : am_of 2010 = some am_m2010 := rfl
theorem c2010 {a0 a1 a2} {P : am_Q} : am_Ca X (d + 1) 2010 [.int a0, .int a1, .int a2] st P = am_g d X am_m2010 0 [.int a0, .int a1, .int a2] [] st P := am_cg of_2010 (by show 3 ≤ 3; decide)
theorem hd_2010 : am_hd am_m2010 = [] := rfl
theorem u2010_0 {v1 : Value} {v2 : Value} {x : Int32} : am_g d X am_m2010 0 [.int x, v1, v2] sk st Q = am_g d X am_m2010 1 [.int x, v1, v2] (.int x :: sk) st Q := am_gu.trans rfl
theorem u2010_1 {v0 : Value} {v2 : Value} {x : Int32} : am_g d X am_m2010 1 [v0, .int x, v2] sk st Q = am_g d X am_m2010 2 [v0, .int x, v2] (.int x :: sk) st Q := am_gu.trans rfl
theorem u2010_2 {v0 : Value} {v1 : Value} {v2 : Value} {x : Int32} {y : Int32} : am_g d X am_m2010 2 [v0, v1, v2] (.int y :: .int x :: sk) st Q = (if decide (x < y) = true then am_g d X am_m2010 14 [v0, v1, v2] sk st Q else am_g d X am_m2010 5 [v0, v1, v2] sk st Q) := am_gu.trans rfl
theorem u2010_5 {v1 : Value} {v2 : Value} {x : Int32} : am_g d X am_m2010 5 [.int x, v1, v2] sk st Q = am_g d X am_m2010 6 [.int x, v1, v2] (.int x :: sk) st Q := am_gu.trans rfl
theorem u2010_6 {v0 : Value} {v1 : Value} {x : Int32} : am_g d X am_m2010 6 [v0, v1, .int x] sk st Q = am_g d X am_m2010 7 [v0, v1, .int x] (.int x :: sk) st Q := am_gu.trans rfl
theorem u2010_7 {v0 : Value} {v1 : Value} {v2 : Value} {x : Int32} {y : Int32} : am_g d X am_m2010 7 [v0, v1, v2] (.int y :: .int x :: sk) st Q = (if decide (y < x) = true then am_g d X am_m2010 14 [v0, v1, v2] sk st Q else am_g d X am_m2010 10 [v0, v1, v2] sk st Q) := am_gu.trans rfl
theorem u2010_10 {v0 : Value} {v1 : Value} {v2 : Value} : am_g d X am_m2010 10 [v0, v1, v2] sk st Q = am_g d X am_m2010 11 [v0, v1, v2] (.int (am_i 1) :: sk) st Q := am_gu.trans rfl
theorem u2010_11 {v0 : Value} {v1 : Value} {v2 : Value} : am_g d X am_m2010 11 [v0, v1, v2] sk st Q = am_g d X am_m2010 15 [v0, v1, v2] sk st Q := am_gu.trans rfl
theorem u2010_14 {v0 : Value} {v1 : Value} {v2 : Value} : am_g d X am_m2010 14 [v0, v1, v2] sk st Q = am_g d X am_m2010 15 [v0, v1, v2] (.int (am_i 0) :: sk) st Q := am_gu.trans rfl
theorem u2010_15 {v0 : Value} {v1 : Value} {v2 : Value} {x : Int32} : am_g d X am_m2010 15 [v0, v1, v2] [.int x] st Q = ((x = 0 ∨ x = 1) ∧ Q (.inl (some (.int x))) st) := am_gu.trans rfl
set_option maxRecDepth 100000 in
theorem of_2011 : am_of 2011 = some am_m2011 := rfl
theorem c2011 {a0 a1} {P : am_Q} : am_Ca X (d + 1) 2011 [.int a0, .int a1] st P = am_g d X am_m2011 0 [.int a0, .int a1] [] st P := am_cg of_2011 (by show 2 ≤ 2; decide)
theorem hd_2011 : am_hd am_m2011 = [] := rfl
theorem u2011_0 {v1 : Value} {x : Int32} : am_g d X am_m2011 0 [.int x, v1] sk st Q = am_g d X am_m2011 1 [.int x, v1] (.int x :: sk) st Q := am_gu.trans rfl
theorem u2011_1 {v0 : Value} {v1 : Value} : am_g d X am_m2011 1 [v0, v1] sk st Q = am_ts 157 0 7 #[48, 53, 66, 84, 97, 104, 123, 130] [v0, v1] sk st (fun pc lc sk st => am_g d X am_m2011 pc lc sk st Q) := am_gu.trans rfl
theorem u2011_48 {v0 : Value} {x : Int32} : am_g d X am_m2011 48 [v0, .int x] sk st Q = am_g d X am_m2011 49 [v0, .int x] (.int x :: sk) st Q := am_gu.trans rfl
theorem u2011_49 {a0 : Value} {v0 : Value} {v1 : Value} : am_g d X am_m2011 49 [v0, v1] (a0 :: sk) st Q = (sk.length ≤ 4 ∧ am_Ca X d 2012 [a0] st (am_af am_m2011 49 [v0, v1] sk (fun pc lc sk st => am_g d X am_m2011 pc lc sk st Q) Q)) := am_gu.trans (propext ⟨fun h => ⟨h.1.2, h.2⟩, fun h => ⟨⟨Nat.le_add_left _ _, h.1⟩, h.2⟩⟩)
theorem u2011_52 {v0 : Value} {v1 : Value} {x : Int32} : am_g d X am_m2011 52 [v0, v1] [.int x] st Q = Q (.inl (some (.int x))) st := am_gu.trans rfl
theorem u2011_53 {v0 : Value} {x : Int32} : am_g d X am_m2011 53 [v0, .int x] sk st Q = am_g d X am_m2011 54 [v0, .int x] (.int x :: sk) st Q := am_gu.trans rfl
theorem u2011_54 {v0 : Value} {v1 : Value} : am_g d X am_m2011 54 [v0, v1] sk st Q = am_g d X am_m2011 56 [v0, v1] (.int (am_i 46) :: sk) st Q := am_gu.trans rfl
theorem u2011_56 {v0 : Value} {v1 : Value} {x : Int32} {y : Int32} : am_g d X am_m2011 56 [v0, v1] (.int y :: .int x :: sk) st Q = (if decide (¬ x = y) = true then am_g d X am_m2011 63 [v0, v1] sk st Q else am_g d X am_m2011 59 [v0, v1] sk st Q) := am_gu.trans rfl
theorem u2011_59 {v0 : Value} {v1 : Value} : am_g d X am_m2011 59 [v0, v1] sk st Q = am_g d X am_m2011 60 [v0, v1] (.int (am_i 2) :: sk) st Q := am_gu.trans rfl
theorem u2011_60 {v0 : Value} {v1 : Value} : am_g d X am_m2011 60 [v0, v1] sk st Q = am_g d X am_m2011 65 [v0, v1] sk st Q := am_gu.trans rfl
theorem u2011_63 {v0 : Value} {v1 : Value} : am_g d X am_m2011 63 [v0, v1] sk st Q = am_g d X am_m2011 65 [v0, v1] (.int (am_i 9) :: sk) st Q := am_gu.trans rfl
theorem u2011_65 {v0 : Value} {v1 : Value} {x : Int32} : am_g d X am_m2011 65 [v0, v1] [.int x] st Q = Q (.inl (some (.int x))) st := am_gu.trans rfl
theorem u2011_66 {v0 : Value} {x : Int32} : am_g d X am_m2011 66 [v0, .int x] sk st Q = am_g d X am_m2011 67 [v0, .int x] (.int x :: sk) st Q := am_gu.trans rfl
theorem u2011_67 {v0 : Value} {v1 : Value} : am_g d X am_m2011 67 [v0, v1] sk st Q = am_g d X am_m2011 69 [v0, v1] (.int (am_i 48) :: sk) st Q := am_gu.trans rfl
theorem u2011_69 {v0 : Value} {v1 : Value} : am_g d X am_m2011 69 [v0, v1] sk st Q = am_g d X am_m2011 71 [v0, v1] (.int (am_i 53) :: sk) st Q := am_gu.trans rfl
theorem u2011_71 {a0 : Value} {a1 : Value} {a2 : Value} {v0 : Value} {v1 : Value} : am_g d X am_m2011 71 [v0, v1] (a2 :: a1 :: a0 :: sk) st Q = (sk.length ≤ 4 ∧ am_Ca X d 2010 [a0, a1, a2] st (am_af am_m2011 71 [v0, v1] sk (fun pc lc sk st => am_g d X am_m2011 pc lc sk st Q) Q)) := am_gu.trans (propext ⟨fun h => ⟨h.1.2, h.2⟩, fun h => ⟨⟨Nat.le_add_left _ _, h.1⟩, h.2⟩⟩)
theorem u2011_74 {v0 : Value} {v1 : Value} {x : Int32} : am_g d X am_m2011 74 [v0, v1] (.int x :: sk) st Q = (if decide (x = 0) = true then am_g d X am_m2011 81 [v0, v1] sk st Q else am_g d X am_m2011 77 [v0, v1] sk st Q) := am_gu.trans rfl
theorem u2011_77 {v0 : Value} {v1 : Value} : am_g d X am_m2011 77 [v0, v1] sk st Q = am_g d X am_m2011 78 [v0, v1] (.int (am_i 3) :: sk) st Q := am_gu.trans rfl
theorem u2011_78 {v0 : Value} {v1 : Value} : am_g d X am_m2011 78 [v0, v1] sk st Q = am_g d X am_m2011 83 [v0, v1] sk st Q := am_gu.trans rfl
theorem u2011_81 {v0 : Value} {v1 : Value} : am_g d X am_m2011 81 [v0, v1] sk st Q = am_g d X am_m2011 83 [v0, v1] (.int (am_i 9) :: sk) st Q := am_gu.trans rfl
theorem u2011_83 {v0 : Value} {v1 : Value} {x : Int32} : am_g d X am_m2011 83 [v0, v1] [.int x] st Q = Q (.inl (some (.int x))) st := am_gu.trans rfl
theorem u2011_84 {v0 : Value} {x : Int32} : am_g d X am_m2011 84 [v0, .int x] sk st Q = am_g d X am_m2011 85 [v0, .int x] (.int x :: sk) st Q := am_gu.trans rfl
theorem u2011_85 {v0 : Value} {v1 : Value} : am_g d X am_m2011 85 [v0, v1] sk st Q = am_g d X am_m2011 87 [v0, v1] (.int (am_i 61) :: sk) st Q := am_gu.trans rfl
theorem u2011_87 {v0 : Value} {v1 : Value} {x : Int32} {y : Int32} : am_g d X am_m2011 87 [v0, v1] (.int y :: .int x :: sk) st Q = (if decide (¬ x = y) = true then am_g d X am_m2011 94 [v0, v1] sk st Q else am_g d X am_m2011 90 [v0, v1] sk st Q) := am_gu.trans rfl
theorem u2011_90 {v0 : Value} {v1 : Value} : am_g d X am_m2011 90 [v0, v1] sk st Q = am_g d X am_m2011 91 [v0, v1] (.int (am_i 4) :: sk) st Q := am_gu.trans rfl
theorem u2011_91 {v0 : Value} {v1 : Value} : am_g d X am_m2011 91 [v0, v1] sk st Q = am_g d X am_m2011 96 [v0, v1] sk st Q := am_gu.trans rfl
theorem u2011_94 {v0 : Value} {v1 : Value} : am_g d X am_m2011 94 [v0, v1] sk st Q = am_g d X am_m2011 96 [v0, v1] (.int (am_i 9) :: sk) st Q := am_gu.trans rfl
theorem u2011_96 {v0 : Value} {v1 : Value} {x : Int32} : am_g d X am_m2011 96 [v0, v1] [.int x] st Q = Q (.inl (some (.int x))) st := am_gu.trans rfl
theorem u2011_97 {v0 : Value} {x : Int32} : am_g d X am_m2011 97 [v0, .int x] sk st Q = am_g d X am_m2011 98 [v0, .int x] (.int x :: sk) st Q := am_gu.trans rfl
theorem u2011_98 {v0 : Value} {v1 : Value} : am_g d X am_m2011 98 [v0, v1] sk st Q = am_g d X am_m2011 100 [v0, v1] (.int (am_i 57) :: sk) st Q := am_gu.trans rfl
theorem u2011_100 {a0 : Value} {a1 : Value} {v0 : Value} {v1 : Value} : am_g d X am_m2011 100 [v0, v1] (a1 :: a0 :: sk) st Q = (sk.length ≤ 4 ∧ am_Ca X d 2013 [a0, a1] st (am_af am_m2011 100 [v0, v1] sk (fun pc lc sk st => am_g d X am_m2011 pc lc sk st Q) Q)) := am_gu.trans (propext ⟨fun h => ⟨h.1.2, h.2⟩, fun h => ⟨⟨Nat.le_add_left _ _, h.1⟩, h.2⟩⟩)
theorem u2011_103 {v0 : Value} {v1 : Value} {x : Int32} : am_g d X am_m2011 103 [v0, v1] [.int x] st Q = Q (.inl (some (.int x))) st := am_gu.trans rfl
theorem u2011_104 {v0 : Value} {x : Int32} : am_g d X am_m2011 104 [v0, .int x] sk st Q = am_g d X am_m2011 105 [v0, .int x] (.int x :: sk) st Q := am_gu.trans rfl
theorem u2011_105 {v0 : Value} {v1 : Value} : am_g d X am_m2011 105 [v0, v1] sk st Q = am_g d X am_m2011 107 [v0, v1] (.int (am_i 48) :: sk) st Q := am_gu.trans rfl
theorem u2011_107 {v0 : Value} {v1 : Value} : am_g d X am_m2011 107 [v0, v1] sk st Q = am_g d X am_m2011 109 [v0, v1] (.int (am_i 53) :: sk) st Q := am_gu.trans rfl
theorem u2011_109 {a0 : Value} {a1 : Value} {a2 : Value} {v0 : Value} {v1 : Value} : am_g d X am_m2011 109 [v0, v1] (a2 :: a1 :: a0 :: sk) st Q = (sk.length ≤ 4 ∧ am_Ca X d 2010 [a0, a1, a2] st (am_af am_m2011 109 [v0, v1] sk (fun pc lc sk st => am_g d X am_m2011 pc lc sk st Q) Q)) := am_gu.trans (propext ⟨fun h => ⟨h.1.2, h.2⟩, fun h => ⟨⟨Nat.le_add_left _ _, h.1⟩, h.2⟩⟩)
theorem u2011_112 {v0 : Value} {v1 : Value} {x : Int32} : am_g d X am_m2011 112 [v0, v1] (.int x :: sk) st Q = (if decide (x = 0) = true then am_g d X am_m2011 120 [v0, v1] sk st Q else am_g d X am_m2011 115 [v0, v1] sk st Q) := am_gu.trans rfl
theorem u2011_115 {v0 : Value} {v1 : Value} : am_g d X am_m2011 115 [v0, v1] sk st Q = am_g d X am_m2011 117 [v0, v1] (.int (am_i 8) :: sk) st Q := am_gu.trans rfl
theorem u2011_117 {v0 : Value} {v1 : Value} : am_g d X am_m2011 117 [v0, v1] sk st Q = am_g d X am_m2011 122 [v0, v1] sk st Q := am_gu.trans rfl
theorem u2011_120 {v0 : Value} {v1 : Value} : am_g d X am_m2011 120 [v0, v1] sk st Q = am_g d X am_m2011 122 [v0, v1] (.int (am_i 9) :: sk) st Q := am_gu.trans rfl
theorem u2011_122 {v0 : Value} {v1 : Value} {x : Int32} : am_g d X am_m2011 122 [v0, v1] [.int x] st Q = Q (.inl (some (.int x))) st := am_gu.trans rfl
theorem u2011_123 {v0 : Value} {x : Int32} : am_g d X am_m2011 123 [v0, .int x] sk st Q = am_g d X am_m2011 124 [v0, .int x] (.int x :: sk) st Q := am_gu.trans rfl
theorem u2011_124 {v0 : Value} {v1 : Value} : am_g d X am_m2011 124 [v0, v1] sk st Q = am_g d X am_m2011 126 [v0, v1] (.int (am_i 53) :: sk) st Q := am_gu.trans rfl
theorem u2011_126 {a0 : Value} {a1 : Value} {v0 : Value} {v1 : Value} : am_g d X am_m2011 126 [v0, v1] (a1 :: a0 :: sk) st Q = (sk.length ≤ 4 ∧ am_Ca X d 2013 [a0, a1] st (am_af am_m2011 126 [v0, v1] sk (fun pc lc sk st => am_g d X am_m2011 pc lc sk st Q) Q)) := am_gu.trans (propext ⟨fun h => ⟨h.1.2, h.2⟩, fun h => ⟨⟨Nat.le_add_left _ _, h.1⟩, h.2⟩⟩)
theorem u2011_129 {v0 : Value} {v1 : Value} {x : Int32} : am_g d X am_m2011 129 [v0, v1] [.int x] st Q = Q (.inl (some (.int x))) st := am_gu.trans rfl
theorem u2011_130 {v0 : Value} {x : Int32} : am_g d X am_m2011 130 [v0, .int x] sk st Q = am_g d X am_m2011 131 [v0, .int x] (.int x :: sk) st Q := am_gu.trans rfl
theorem u2011_131 {v0 : Value} {v1 : Value} : am_g d X am_m2011 131 [v0, v1] sk st Q = am_g d X am_m2011 133 [v0, v1] (.int (am_i 48) :: sk) st Q := am_gu.trans rfl
theorem u2011_133 {v0 : Value} {v1 : Value} : am_g d X am_m2011 133 [v0, v1] sk st Q = am_g d X am_m2011 135 [v0, v1] (.int (am_i 57) :: sk) st Q := am_gu.trans rfl
theorem u2011_135 {a0 : Value} {a1 : Value} {a2 : Value} {v0 : Value} {v1 : Value} : am_g d X am_m2011 135 [v0, v1] (a2 :: a1 :: a0 :: sk) st Q = (sk.length ≤ 4 ∧ am_Ca X d 2010 [a0, a1, a2] st (am_af am_m2011 135 [v0, v1] sk (fun pc lc sk st => am_g d X am_m2011 pc lc sk st Q) Q)) := am_gu.trans (propext ⟨fun h => ⟨h.1.2, h.2⟩, fun h => ⟨⟨Nat.le_add_left _ _, h.1⟩, h.2⟩⟩)
theorem u2011_138 {v0 : Value} {v1 : Value} {x : Int32} : am_g d X am_m2011 138 [v0, v1] (.int x :: sk) st Q = (if decide (x = 0) = true then am_g d X am_m2011 144 [v0, v1] sk st Q else am_g d X am_m2011 141 [v0, v1] sk st Q) := am_gu.trans rfl
theorem u2011_141 {v0 : Value} {v1 : Value} : am_g d X am_m2011 141 [v0, v1] sk st Q = am_g d X am_m2011 143 [v0, v1] (.int (am_i 8) :: sk) st Q := am_gu.trans rfl
theorem u2011_143 {v0 : Value} {v1 : Value} {x : Int32} : am_g d X am_m2011 143 [v0, v1] [.int x] st Q = Q (.inl (some (.int x))) st := am_gu.trans rfl
theorem u2011_144 {v0 : Value} {x : Int32} : am_g d X am_m2011 144 [v0, .int x] sk st Q = am_g d X am_m2011 145 [v0, .int x] (.int x :: sk) st Q := am_gu.trans rfl
theorem u2011_145 {v0 : Value} {v1 : Value} : am_g d X am_m2011 145 [v0, v1] sk st Q = am_g d X am_m2011 147 [v0, v1] (.int (am_i 59) :: sk) st Q := am_gu.trans rfl
theorem u2011_147 {v0 : Value} {v1 : Value} {x : Int32} {y : Int32} : am_g d X am_m2011 147 [v0, v1] (.int y :: .int x :: sk) st Q = (if decide (¬ x = y) = true then am_g d X am_m2011 154 [v0, v1] sk st Q else am_g d X am_m2011 150 [v0, v1] sk st Q) := am_gu.trans rfl
theorem u2011_150 {v0 : Value} {v1 : Value} : am_g d X am_m2011 150 [v0, v1] sk st Q = am_g d X am_m2011 151 [v0, v1] (.int (am_i 0) :: sk) st Q := am_gu.trans rfl
theorem u2011_151 {v0 : Value} {v1 : Value} : am_g d X am_m2011 151 [v0, v1] sk st Q = am_g d X am_m2011 156 [v0, v1] sk st Q := am_gu.trans rfl
theorem u2011_154 {v0 : Value} {v1 : Value} : am_g d X am_m2011 154 [v0, v1] sk st Q = am_g d X am_m2011 156 [v0, v1] (.int (am_i 9) :: sk) st Q := am_gu.trans rfl
theorem u2011_156 {v0 : Value} {v1 : Value} {x : Int32} : am_g d X am_m2011 156 [v0, v1] [.int x] st Q = Q (.inl (some (.int x))) st := am_gu.trans rfl
theorem u2011_157 {v0 : Value} {x : Int32} : am_g d X am_m2011 157 [v0, .int x] sk st Q = am_g d X am_m2011 158 [v0, .int x] (.int x :: sk) st Q := am_gu.trans rfl
theorem u2011_158 {v0 : Value} {v1 : Value} : am_g d X am_m2011 158 [v0, v1] sk st Q = am_g d X am_m2011 160 [v0, v1] (.int (am_i 59) :: sk) st Q := am_gu.trans rfl
theorem u2011_160 {v0 : Value} {v1 : Value} {x : Int32} {y : Int32} : am_g d X am_m2011 160 [v0, v1] (.int y :: .int x :: sk) st Q = (if decide (¬ x = y) = true then am_g d X am_m2011 167 [v0, v1] sk st Q else am_g d X am_m2011 163 [v0, v1] sk st Q) := am_gu.trans rfl
theorem u2011_163 {v0 : Value} {v1 : Value} : am_g d X am_m2011 163 [v0, v1] sk st Q = am_g d X am_m2011 164 [v0, v1] (.int (am_i 0) :: sk) st Q := am_gu.trans rfl
theorem u2011_164 {v0 : Value} {v1 : Value} : am_g d X am_m2011 164 [v0, v1] sk st Q = am_g d X am_m2011 169 [v0, v1] sk st Q := am_gu.trans rfl
theorem u2011_167 {v0 : Value} {v1 : Value} : am_g d X am_m2011 167 [v0, v1] sk st Q = am_g d X am_m2011 169 [v0, v1] (.int (am_i 9) :: sk) st Q := am_gu.trans rfl
theorem u2011_169 {v0 : Value} {v1 : Value} {x : Int32} : am_g d X am_m2011 169 [v0, v1] [.int x] st Q = Q (.inl (some (.int x))) st := am_gu.trans rfl
set_option maxRecDepth 100000 in
theorem of_2012 : am_of 2012 = some am_m2012 := rfl
theorem c2012 {a0} {P : am_Q} : am_Ca X (d + 1) 2012 [.int a0] st P = am_g d X am_m2012 0 [.int a0] [] st P := am_cg of_2012 (by show 1 ≤ 1; decide)
theorem hd_2012 : am_hd am_m2012 = [] := rfl
theorem u2012_0 {x : Int32} : am_g d X am_m2012 0 [.int x] sk st Q = am_g d X am_m2012 1 [.int x] (.int x :: sk) st Q := am_gu.trans rfl
theorem u2012_1 {v0 : Value} : am_g d X am_m2012 1 [v0] sk st Q = am_ts 100 97 115 #[92, 92, 92, 100, 100, 100, 100, 100, 100, 100, 100, 100, 95, 100, 100, 97, 100, 97, 95] [v0] sk st (fun pc lc sk st => am_g d X am_m2012 pc lc sk st Q) := am_gu.trans rfl
theorem u2012_92 {v0 : Value} : am_g d X am_m2012 92 [v0] sk st Q = am_g d X am_m2012 94 [v0] (.int (am_i 8) :: sk) st Q := am_gu.trans rfl
theorem u2012_94 {v0 : Value} {x : Int32} : am_g d X am_m2012 94 [v0] [.int x] st Q = Q (.inl (some (.int x))) st := am_gu.trans rfl
theorem u2012_95 {v0 : Value} : am_g d X am_m2012 95 [v0] sk st Q = am_g d X am_m2012 96 [v0] (.int (am_i 5) :: sk) st Q := am_gu.trans rfl
theorem u2012_96 {v0 : Value} {x : Int32} : am_g d X am_m2012 96 [v0] [.int x] st Q = Q (.inl (some (.int x))) st := am_gu.trans rfl
theorem u2012_97 {v0 : Value} : am_g d X am_m2012 97 [v0] sk st Q = am_g d X am_m2012 99 [v0] (.int (am_i 6) :: sk) st Q := am_gu.trans rfl
theorem u2012_99 {v0 : Value} {x : Int32} : am_g d X am_m2012 99 [v0] [.int x] st Q = Q (.inl (some (.int x))) st := am_gu.trans rfl
theorem u2012_100 {x : Int32} : am_g d X am_m2012 100 [.int x] sk st Q = am_g d X am_m2012 101 [.int x] (.int x :: sk) st Q := am_gu.trans rfl
theorem u2012_101 {v0 : Value} : am_g d X am_m2012 101 [v0] sk st Q = am_g d X am_m2012 103 [v0] (.int (am_i 48) :: sk) st Q := am_gu.trans rfl
theorem u2012_103 {v0 : Value} : am_g d X am_m2012 103 [v0] sk st Q = am_g d X am_m2012 105 [v0] (.int (am_i 51) :: sk) st Q := am_gu.trans rfl
theorem u2012_105 {a0 : Value} {a1 : Value} {a2 : Value} {v0 : Value} : am_g d X am_m2012 105 [v0] (a2 :: a1 :: a0 :: sk) st Q = (sk.length ≤ 4 ∧ am_Ca X d 2010 [a0, a1, a2] st (am_af am_m2012 105 [v0] sk (fun pc lc sk st => am_g d X am_m2012 pc lc sk st Q) Q)) := am_gu.trans (propext ⟨fun h => ⟨h.1.2, h.2⟩, fun h => ⟨⟨Nat.le_add_left _ _, h.1⟩, h.2⟩⟩)
theorem u2012_108 {v0 : Value} {x : Int32} : am_g d X am_m2012 108 [v0] (.int x :: sk) st Q = (if decide (x = 0) = true then am_g d X am_m2012 115 [v0] sk st Q else am_g d X am_m2012 111 [v0] sk st Q) := am_gu.trans rfl
theorem u2012_111 {v0 : Value} : am_g d X am_m2012 111 [v0] sk st Q = am_g d X am_m2012 112 [v0] (.int (am_i 1) :: sk) st Q := am_gu.trans rfl
theorem u2012_112 {v0 : Value} : am_g d X am_m2012 112 [v0] sk st Q = am_g d X am_m2012 117 [v0] sk st Q := am_gu.trans rfl
theorem u2012_115 {v0 : Value} : am_g d X am_m2012 115 [v0] sk st Q = am_g d X am_m2012 117 [v0] (.int (am_i 9) :: sk) st Q := am_gu.trans rfl
theorem u2012_117 {v0 : Value} {x : Int32} : am_g d X am_m2012 117 [v0] [.int x] st Q = Q (.inl (some (.int x))) st := am_gu.trans rfl
set_option maxRecDepth 100000 in
theorem of_2013 : am_of 2013 = some am_m2013 := rfl
theorem c2013 {a0 a1} {P : am_Q} : am_Ca X (d + 1) 2013 [.int a0, .int a1] st P = am_g d X am_m2013 0 [.int a0, .int a1] [] st P := am_cg of_2013 (by show 2 ≤ 2; decide)
theorem hd_2013 : am_hd am_m2013 = [] := rfl
theorem u2013_0 {v1 : Value} {x : Int32} : am_g d X am_m2013 0 [.int x, v1] sk st Q = am_g d X am_m2013 1 [.int x, v1] (.int x :: sk) st Q := am_gu.trans rfl
theorem u2013_1 {v0 : Value} {v1 : Value} : am_g d X am_m2013 1 [v0, v1] sk st Q = am_g d X am_m2013 3 [v0, v1] (.int (am_i 48) :: sk) st Q := am_gu.trans rfl
theorem u2013_3 {v0 : Value} {v1 : Value} : am_g d X am_m2013 3 [v0, v1] sk st Q = am_g d X am_m2013 5 [v0, v1] (.int (am_i 57) :: sk) st Q := am_gu.trans rfl
theorem u2013_5 {a0 : Value} {a1 : Value} {a2 : Value} {v0 : Value} {v1 : Value} : am_g d X am_m2013 5 [v0, v1] (a2 :: a1 :: a0 :: sk) st Q = (sk.length ≤ 4 ∧ am_Ca X d 2010 [a0, a1, a2] st (am_af am_m2013 5 [v0, v1] sk (fun pc lc sk st => am_g d X am_m2013 pc lc sk st Q) Q)) := am_gu.trans (propext ⟨fun h => ⟨h.1.2, h.2⟩, fun h => ⟨⟨Nat.le_add_left _ _, h.1⟩, h.2⟩⟩)
theorem u2013_8 {v0 : Value} {v1 : Value} {x : Int32} : am_g d X am_m2013 8 [v0, v1] (.int x :: sk) st Q = (if decide (¬ x = 0) = true then am_g d X am_m2013 14 [v0, v1] sk st Q else am_g d X am_m2013 11 [v0, v1] sk st Q) := am_gu.trans rfl
theorem u2013_11 {v0 : Value} {v1 : Value} : am_g d X am_m2013 11 [v0, v1] sk st Q = am_g d X am_m2013 13 [v0, v1] (.int (am_i 9) :: sk) st Q := am_gu.trans rfl
theorem u2013_13 {v0 : Value} {v1 : Value} {x : Int32} : am_g d X am_m2013 13 [v0, v1] [.int x] st Q = Q (.inl (some (.int x))) st := am_gu.trans rfl
theorem u2013_14 {v1 : Value} {x : Int32} : am_g d X am_m2013 14 [.int x, v1] sk st Q = am_g d X am_m2013 15 [.int x, v1] (.int x :: sk) st Q := am_gu.trans rfl
theorem u2013_15 {v0 : Value} {v1 : Value} : am_g d X am_m2013 15 [v0, v1] sk st Q = am_g d X am_m2013 17 [v0, v1] (.int (am_i 49) :: sk) st Q := am_gu.trans rfl
theorem u2013_17 {v0 : Value} {x : Int32} : am_g d X am_m2013 17 [v0, .int x] sk st Q = am_g d X am_m2013 18 [v0, .int x] (.int x :: sk) st Q := am_gu.trans rfl
theorem u2013_18 {a0 : Value} {a1 : Value} {a2 : Value} {v0 : Value} {v1 : Value} : am_g d X am_m2013 18 [v0, v1] (a2 :: a1 :: a0 :: sk) st Q = (sk.length ≤ 4 ∧ am_Ca X d 2010 [a0, a1, a2] st (am_af am_m2013 18 [v0, v1] sk (fun pc lc sk st => am_g d X am_m2013 pc lc sk st Q) Q)) := am_gu.trans (propext ⟨fun h => ⟨h.1.2, h.2⟩, fun h => ⟨⟨Nat.le_add_left _ _, h.1⟩, h.2⟩⟩)
theorem u2013_21 {v0 : Value} {v1 : Value} {x : Int32} : am_g d X am_m2013 21 [v0, v1] (.int x :: sk) st Q = (if decide (x = 0) = true then am_g d X am_m2013 29 [v0, v1] sk st Q else am_g d X am_m2013 24 [v0, v1] sk st Q) := am_gu.trans rfl
theorem u2013_24 {v0 : Value} {v1 : Value} : am_g d X am_m2013 24 [v0, v1] sk st Q = am_g d X am_m2013 26 [v0, v1] (.int (am_i 7) :: sk) st Q := am_gu.trans rfl
theorem u2013_26 {v0 : Value} {v1 : Value} : am_g d X am_m2013 26 [v0, v1] sk st Q = am_g d X am_m2013 31 [v0, v1] sk st Q := am_gu.trans rfl
theorem u2013_29 {v0 : Value} {v1 : Value} : am_g d X am_m2013 29 [v0, v1] sk st Q = am_g d X am_m2013 31 [v0, v1] (.int (am_i 8) :: sk) st Q := am_gu.trans rfl
theorem u2013_31 {v0 : Value} {v1 : Value} {x : Int32} : am_g d X am_m2013 31 [v0, v1] [.int x] st Q = Q (.inl (some (.int x))) st := am_gu.trans rfl
set_option maxRecDepth 100000 in
theorem of_3001 : am_of 3001 = some am_m3001 := rfl
theorem c3001 {z} {P : am_Q} : am_Ca X (d + 1) 3001 [.ref z] st P = am_g d X am_m3001 0 [.ref z, am_u] [] st P := am_cg of_3001 (by show 1 ≤ 2; decide)
theorem hd_3001 : am_hd am_m3001 = [] := rfl
theorem u3001_0 {v1 : Value} {x : Nat} : am_g d X am_m3001 0 [.ref x, v1] sk st Q = am_g d X am_m3001 1 [.ref x, v1] (.ref x :: sk) st Q := am_gu.trans rfl
theorem u3001_1 {v0 : Value} {v1 : Value} : am_g d X am_m3001 1 [v0, v1] (.ref o :: sk) st Q = (sk.length ≤ 4 ∧ am_g d X am_m3001 4 [v0, v1] sk st Q) := am_gu.trans rfl
theorem u3001_4 {v1 : Value} {x : Nat} : am_g d X am_m3001 4 [.ref x, v1] sk st Q = am_g d X am_m3001 5 [.ref x, v1] (.ref x :: sk) st Q := am_gu.trans rfl
theorem u3001_5 {v0 : Value} {v1 : Value} : am_g d X am_m3001 5 [v0, v1] sk st Q = am_g d X am_m3001 6 [v0, v1] (.int (am_i 4) :: sk) st Q := am_gu.trans rfl
theorem u3001_6 {v0 : Value} {v1 : Value} : am_g d X am_m3001 6 [v0, v1] sk st Q = am_na 3 (some none) 9 [v0, v1] sk st (fun pc lc sk st => am_g d X am_m3001 pc lc sk st Q) := am_gu.trans rfl
theorem u3001_9 {v0 : Value} {v1 : Value} : am_g d X am_m3001 9 [v0, v1] sk st Q = am_pt 96 12 [v0, v1] sk st (fun pc lc sk st => am_g d X am_m3001 pc lc sk st Q) := am_gu.trans rfl
theorem u3001_12 {v1 : Value} {x : Nat} : am_g d X am_m3001 12 [.ref x, v1] sk st Q = am_g d X am_m3001 13 [.ref x, v1] (.ref x :: sk) st Q := am_gu.trans rfl
theorem u3001_13 {v0 : Value} {v1 : Value} : am_g d X am_m3001 13 [v0, v1] sk st Q = am_g d X am_m3001 14 [v0, v1] (.int (am_i 0) :: sk) st Q := am_gu.trans rfl
theorem u3001_14 {v0 : Value} {v1 : Value} : am_g d X am_m3001 14 [v0, v1] sk st Q = am_pt 97 17 [v0, v1] sk st (fun pc lc sk st => am_g d X am_m3001 pc lc sk st Q) := am_gu.trans rfl
theorem u3001_17 {v1 : Value} {x : Nat} : am_g d X am_m3001 17 [.ref x, v1] sk st Q = am_g d X am_m3001 18 [.ref x, v1] (.ref x :: sk) st Q := am_gu.trans rfl
theorem u3001_18 {v0 : Value} {v1 : Value} : am_g d X am_m3001 18 [v0, v1] sk st Q = am_g d X am_m3001 19 [v0, v1] (.int (am_i 0) :: sk) st Q := am_gu.trans rfl
theorem u3001_19 {v0 : Value} {v1 : Value} : am_g d X am_m3001 19 [v0, v1] sk st Q = am_pt 98 22 [v0, v1] sk st (fun pc lc sk st => am_g d X am_m3001 pc lc sk st Q) := am_gu.trans rfl
theorem u3001_22 {v0 : Value} {v1 : Value} : am_g d X am_m3001 22 [v0, v1] sk st Q = am_g d X am_m3001 23 [v0, v1] (.int (am_i 0) :: sk) st Q := am_gu.trans rfl
theorem u3001_23 {v0 : Value} {v1 : Value} {x : Int32} : am_g d X am_m3001 23 [v0, v1] (.int x :: sk) st Q = am_g d X am_m3001 24 [am_kc v0, .int x] sk st Q := am_gu.trans (congrArg (fun l => am_g d X am_m3001 24 (List.set l 1 (.int x)) sk st Q) (kl_1 (l := [v1])))
theorem u3001_24 {v0 : Value} {x : Int32} : am_g d X am_m3001 24 [v0, .int x] sk st Q = am_g d X am_m3001 25 [v0, .int x] (.int x :: sk) st Q := am_gu.trans rfl
theorem u3001_25 {v0 : Value} {v1 : Value} : am_g d X am_m3001 25 [v0, v1] sk st Q = am_g d X am_m3001 26 [v0, v1] (.int (am_i 4) :: sk) st Q := am_gu.trans rfl
theorem u3001_26 {v0 : Value} {v1 : Value} {x : Int32} {y : Int32} : am_g d X am_m3001 26 [v0, v1] (.int y :: .int x :: sk) st Q = (if decide (y ≤ x) = true then am_g d X am_m3001 48 [v0, v1] sk st Q else am_g d X am_m3001 29 [v0, v1] sk st Q) := am_gu.trans rfl
theorem u3001_29 {v1 : Value} {x : Nat} : am_g d X am_m3001 29 [.ref x, v1] sk st Q = am_g d X am_m3001 30 [.ref x, v1] (.ref x :: sk) st Q := am_gu.trans rfl
theorem u3001_30 {v0 : Value} {v1 : Value} : am_g d X am_m3001 30 [v0, v1] sk st Q = am_gt 96 33 [v0, v1] sk st (fun pc lc sk st => am_g d X am_m3001 pc lc sk st Q) := am_gu.trans rfl
theorem u3001_33 {v0 : Value} {x : Int32} : am_g d X am_m3001 33 [v0, .int x] sk st Q = am_g d X am_m3001 34 [v0, .int x] (.int x :: sk) st Q := am_gu.trans rfl
theorem u3001_34 {v0 : Value} {v1 : Value} : am_g d X am_m3001 34 [v0, v1] sk st Q = am_nw 5 37 [v0, v1] sk st (fun pc lc sk st => am_g d X am_m3001 pc lc sk st Q) := am_gu.trans rfl
theorem u3001_37i {v0 : Value} {v1 : Value} {x : Int32} : am_g d X am_m3001 37 [v0, v1] (.int x :: sk) st Q = am_g d X am_m3001 38 [v0, v1] (.int x :: .int x :: sk) st Q := am_gu.trans rfl
theorem u3001_37r {v0 : Value} {v1 : Value} {x : Nat} : am_g d X am_m3001 37 [v0, v1] (.ref x :: sk) st Q = am_g d X am_m3001 38 [v0, v1] (.ref x :: .ref x :: sk) st Q := am_gu.trans rfl
theorem u3001_38 {v0 : Value} {v1 : Value} : am_g d X am_m3001 38 [v0, v1] (.ref o :: sk) st Q = ((am_ob st o 5 ∧ sk.length ≤ 4) ∧ am_Ca X d 5001 [.ref o] st (am_af am_m3001 38 [v0, v1] sk (fun pc lc sk st => am_g d X am_m3001 pc lc sk st Q) Q)) := am_gu.trans rfl
theorem u3001_41 {v0 : Value} {v1 : Value} : am_g d X am_m3001 41 [v0, v1] sk st Q = am_qs 42 [v0, v1] sk st (fun pc lc sk st => am_g d X am_m3001 pc lc sk st Q) := am_gu.trans rfl
theorem u3001_42 {v0 : Value} {x : Int32} : am_g d X am_m3001 42 [v0, .int x] sk st Q = am_g d X am_m3001 45 [am_kc v0, .int (x + am_i 1)] sk st Q := am_gu.trans (congrArg (fun l => am_g d X am_m3001 45 (List.set l 1 (.int (x + am_i 1))) sk st Q) (kl_1 (l := [.int x])))
theorem u3001_45 {v0 : Value} {v1 : Value} : am_g d X am_m3001 45 [v0, v1] sk st Q = am_g d X am_m3001 24 [v0, v1] sk st Q := am_gu.trans rfl
theorem u3001_48 {v0 : Value} {v1 : Value} : am_g d X am_m3001 48 [v0, v1] [] st Q = Q (.inl none) st := am_gu.trans rfl
set_option maxRecDepth 100000 in
theorem of_3002 : am_of 3002 = some am_m3002 := rfl
theorem c3002 {z a0} {P : am_Q} : am_Ca X (d + 1) 3002 [.ref z, .ref a0] st P = am_g d X am_m3002 0 [.ref z, .ref a0, am_u] [] st P := am_cg of_3002 (by show 2 ≤ 3; decide)
theorem hd_3002 : am_hd am_m3002 = [] := rfl
theorem u3002_0 {v1 : Value} {v2 : Value} {x : Nat} : am_g d X am_m3002 0 [.ref x, v1, v2] sk st Q = am_g d X am_m3002 1 [.ref x, v1, v2] (.ref x :: sk) st Q := am_gu.trans rfl
theorem u3002_1 {v0 : Value} {v1 : Value} {v2 : Value} : am_g d X am_m3002 1 [v0, v1, v2] sk st Q = am_gt 98 4 [v0, v1, v2] sk st (fun pc lc sk st => am_g d X am_m3002 pc lc sk st Q) := am_gu.trans rfl
theorem u3002_4 {v0 : Value} {v1 : Value} {v2 : Value} : am_g d X am_m3002 4 [v0, v1, v2] sk st Q = am_g d X am_m3002 5 [v0, v1, v2] (.int (am_i 4) :: sk) st Q := am_gu.trans rfl
theorem u3002_5 {v0 : Value} {v1 : Value} {v2 : Value} {x : Int32} {y : Int32} : am_g d X am_m3002 5 [v0, v1, v2] (.int y :: .int x :: sk) st Q = (if decide (¬ x = y) = true then am_g d X am_m3002 30 [v0, v1, v2] sk st Q else am_g d X am_m3002 8 [v0, v1, v2] sk st Q) := am_gu.trans rfl
theorem u3002_8 {v1 : Value} {v2 : Value} {x : Nat} : am_g d X am_m3002 8 [.ref x, v1, v2] sk st Q = am_g d X am_m3002 9 [.ref x, v1, v2] (.ref x :: sk) st Q := am_gu.trans rfl
theorem u3002_9 {v1 : Value} {v2 : Value} {x : Nat} : am_g d X am_m3002 9 [.ref x, v1, v2] sk st Q = am_g d X am_m3002 10 [.ref x, v1, v2] (.ref x :: sk) st Q := am_gu.trans rfl
theorem u3002_10 {v0 : Value} {v1 : Value} {v2 : Value} : am_g d X am_m3002 10 [v0, v1, v2] sk st Q = am_gt 97 13 [v0, v1, v2] sk st (fun pc lc sk st => am_g d X am_m3002 pc lc sk st Q) := am_gu.trans rfl
theorem u3002_13 {v0 : Value} {v1 : Value} {v2 : Value} : am_g d X am_m3002 13 [v0, v1, v2] sk st Q = am_g d X am_m3002 14 [v0, v1, v2] (.int (am_i 1) :: sk) st Q := am_gu.trans rfl
theorem u3002_14 {v0 : Value} {v1 : Value} {v2 : Value} {x : Int32} {y : Int32} : am_g d X am_m3002 14 [v0, v1, v2] (.int y :: .int x :: sk) st Q = am_g d X am_m3002 15 [v0, v1, v2] (.int (x + y) :: sk) st Q := am_gu.trans rfl
theorem u3002_15 {v0 : Value} {v1 : Value} {v2 : Value} : am_g d X am_m3002 15 [v0, v1, v2] sk st Q = am_g d X am_m3002 16 [v0, v1, v2] (.int (am_i 4) :: sk) st Q := am_gu.trans rfl
theorem u3002_16 {v0 : Value} {v1 : Value} {v2 : Value} {x : Int32} {y : Int32} : am_g d X am_m3002 16 [v0, v1, v2] (.int y :: .int x :: sk) st Q = (¬ y = 0 ∧ am_g d X am_m3002 17 [v0, v1, v2] (.int (x - x / y * y) :: sk) st Q) := am_gu.trans rfl
theorem u3002_17 {v0 : Value} {v1 : Value} {v2 : Value} : am_g d X am_m3002 17 [v0, v1, v2] sk st Q = am_pt 97 20 [v0, v1, v2] sk st (fun pc lc sk st => am_g d X am_m3002 pc lc sk st Q) := am_gu.trans rfl
theorem u3002_20 {v1 : Value} {v2 : Value} {x : Nat} : am_g d X am_m3002 20 [.ref x, v1, v2] sk st Q = am_g d X am_m3002 21 [.ref x, v1, v2] (.ref x :: sk) st Q := am_gu.trans rfl
theorem u3002_21i {v0 : Value} {v1 : Value} {v2 : Value} {x : Int32} : am_g d X am_m3002 21 [v0, v1, v2] (.int x :: sk) st Q = am_g d X am_m3002 22 [v0, v1, v2] (.int x :: .int x :: sk) st Q := am_gu.trans rfl
theorem u3002_21r {v0 : Value} {v1 : Value} {v2 : Value} {x : Nat} : am_g d X am_m3002 21 [v0, v1, v2] (.ref x :: sk) st Q = am_g d X am_m3002 22 [v0, v1, v2] (.ref x :: .ref x :: sk) st Q := am_gu.trans rfl
theorem u3002_22 {v0 : Value} {v1 : Value} {v2 : Value} : am_g d X am_m3002 22 [v0, v1, v2] sk st Q = am_gt 98 25 [v0, v1, v2] sk st (fun pc lc sk st => am_g d X am_m3002 pc lc sk st Q) := am_gu.trans rfl
theorem u3002_25 {v0 : Value} {v1 : Value} {v2 : Value} : am_g d X am_m3002 25 [v0, v1, v2] sk st Q = am_g d X am_m3002 26 [v0, v1, v2] (.int (am_i 1) :: sk) st Q := am_gu.trans rfl
theorem u3002_26 {v0 : Value} {v1 : Value} {v2 : Value} {x : Int32} {y : Int32} : am_g d X am_m3002 26 [v0, v1, v2] (.int y :: .int x :: sk) st Q = am_g d X am_m3002 27 [v0, v1, v2] (.int (x - y) :: sk) st Q := am_gu.trans rfl
theorem u3002_27 {v0 : Value} {v1 : Value} {v2 : Value} : am_g d X am_m3002 27 [v0, v1, v2] sk st Q = am_pt 98 30 [v0, v1, v2] sk st (fun pc lc sk st => am_g d X am_m3002 pc lc sk st Q) := am_gu.trans rfl
theorem u3002_30 {v1 : Value} {v2 : Value} {x : Nat} : am_g d X am_m3002 30 [.ref x, v1, v2] sk st Q = am_g d X am_m3002 31 [.ref x, v1, v2] (.ref x :: sk) st Q := am_gu.trans rfl
theorem u3002_31 {v1 : Value} {v2 : Value} {x : Nat} : am_g d X am_m3002 31 [.ref x, v1, v2] sk st Q = am_g d X am_m3002 32 [.ref x, v1, v2] (.ref x :: sk) st Q := am_gu.trans rfl
theorem u3002_32 {v0 : Value} {v1 : Value} {v2 : Value} : am_g d X am_m3002 32 [v0, v1, v2] sk st Q = am_gt 98 35 [v0, v1, v2] sk st (fun pc lc sk st => am_g d X am_m3002 pc lc sk st Q) := am_gu.trans rfl
theorem u3002_35 {a0 : Value} {v0 : Value} {v1 : Value} {v2 : Value} : am_g d X am_m3002 35 [v0, v1, v2] (a0 :: .ref o :: sk) st Q = ((am_ob st o 3 ∧ sk.length ≤ 5) ∧ am_Ca X d 3004 [.ref o, a0] st (am_af am_m3002 35 [v0, v1, v2] sk (fun pc lc sk st => am_g d X am_m3002 pc lc sk st Q) Q)) := am_gu.trans rfl
theorem u3002_38 {v0 : Value} {v1 : Value} {v2 : Value} {x : Nat} : am_g d X am_m3002 38 [v0, v1, v2] (.ref x :: sk) st Q = am_g d X am_m3002 39 [v0, am_kc v1, .ref x] sk st Q := am_gu.trans (congrArg (fun l => am_g d X am_m3002 39 (List.set l 2 (.ref x)) sk st Q) (kl_2 (l := [v2])))
theorem u3002_39 {v0 : Value} {v1 : Value} {x : Nat} : am_g d X am_m3002 39 [v0, v1, .ref x] sk st Q = am_g d X am_m3002 40 [v0, v1, .ref x] (.ref x :: sk) st Q := am_gu.trans rfl
theorem u3002_40 {v0 : Value} {v1 : Value} {v2 : Value} {x : Nat} : am_g d X am_m3002 40 [v0, v1, v2] (.ref x :: sk) st Q = am_g d X am_m3002 43 [v0, v1, v2] sk st Q := am_gu.trans rfl
theorem u3002_43 {v0 : Value} {v1 : Value} {x : Nat} : am_g d X am_m3002 43 [v0, v1, .ref x] sk st Q = am_g d X am_m3002 44 [v0, v1, .ref x] (.ref x :: sk) st Q := am_gu.trans rfl
theorem u3002_44 {v0 : Value} {v2 : Value} {x : Nat} : am_g d X am_m3002 44 [v0, .ref x, v2] sk st Q = am_g d X am_m3002 45 [v0, .ref x, v2] (.ref x :: sk) st Q := am_gu.trans rfl
theorem u3002_45 {a0 : Value} {v0 : Value} {v1 : Value} {v2 : Value} : am_g d X am_m3002 45 [v0, v1, v2] (a0 :: .ref o :: sk) st Q = ((am_ob st o 5 ∧ sk.length ≤ 5) ∧ am_Ca X d 5002 [.ref o, a0] st (am_af am_m3002 45 [v0, v1, v2] sk (fun pc lc sk st => am_g d X am_m3002 pc lc sk st Q) Q)) := am_gu.trans rfl
theorem u3002_48 {v1 : Value} {v2 : Value} {x : Nat} : am_g d X am_m3002 48 [.ref x, v1, v2] sk st Q = am_g d X am_m3002 49 [.ref x, v1, v2] (.ref x :: sk) st Q := am_gu.trans rfl
theorem u3002_49i {v0 : Value} {v1 : Value} {v2 : Value} {x : Int32} : am_g d X am_m3002 49 [v0, v1, v2] (.int x :: sk) st Q = am_g d X am_m3002 50 [v0, v1, v2] (.int x :: .int x :: sk) st Q := am_gu.trans rfl
theorem u3002_49r {v0 : Value} {v1 : Value} {v2 : Value} {x : Nat} : am_g d X am_m3002 49 [v0, v1, v2] (.ref x :: sk) st Q = am_g d X am_m3002 50 [v0, v1, v2] (.ref x :: .ref x :: sk) st Q := am_gu.trans rfl
theorem u3002_50 {v0 : Value} {v1 : Value} {v2 : Value} : am_g d X am_m3002 50 [v0, v1, v2] sk st Q = am_gt 98 53 [v0, v1, v2] sk st (fun pc lc sk st => am_g d X am_m3002 pc lc sk st Q) := am_gu.trans rfl
theorem u3002_53 {v0 : Value} {v1 : Value} {v2 : Value} : am_g d X am_m3002 53 [v0, v1, v2] sk st Q = am_g d X am_m3002 54 [v0, v1, v2] (.int (am_i 1) :: sk) st Q := am_gu.trans rfl
theorem u3002_54 {v0 : Value} {v1 : Value} {v2 : Value} {x : Int32} {y : Int32} : am_g d X am_m3002 54 [v0, v1, v2] (.int y :: .int x :: sk) st Q = am_g d X am_m3002 55 [v0, v1, v2] (.int (x + y) :: sk) st Q := am_gu.trans rfl
theorem u3002_55 {v0 : Value} {v1 : Value} {v2 : Value} : am_g d X am_m3002 55 [v0, v1, v2] sk st Q = am_pt 98 58 [v0, v1, v2] sk st (fun pc lc sk st => am_g d X am_m3002 pc lc sk st Q) := am_gu.trans rfl
theorem u3002_58 {v0 : Value} {v1 : Value} {v2 : Value} : am_g d X am_m3002 58 [v0, v1, v2] [] st Q = Q (.inl none) st := am_gu.trans rfl
set_option maxRecDepth 100000 in
theorem of_3003 : am_of 3003 = some am_m3003 := rfl
theorem c3003 {z a0} {P : am_Q} : am_Ca X (d + 1) 3003 [.ref z, .ref a0] st P = am_g d X am_m3003 0 [.ref z, .ref a0, am_u] [] st P := am_cg of_3003 (by show 2 ≤ 3; decide)
theorem hd_3003 : am_hd am_m3003 = [] := rfl
theorem u3003_0 {v1 : Value} {v2 : Value} {x : Nat} : am_g d X am_m3003 0 [.ref x, v1, v2] sk st Q = am_g d X am_m3003 1 [.ref x, v1, v2] (.ref x :: sk) st Q := am_gu.trans rfl
theorem u3003_1 {v1 : Value} {v2 : Value} {x : Nat} : am_g d X am_m3003 1 [.ref x, v1, v2] sk st Q = am_g d X am_m3003 2 [.ref x, v1, v2] (.ref x :: sk) st Q := am_gu.trans rfl
theorem u3003_2 {v0 : Value} {v1 : Value} {v2 : Value} : am_g d X am_m3003 2 [v0, v1, v2] sk st Q = am_gt 98 5 [v0, v1, v2] sk st (fun pc lc sk st => am_g d X am_m3003 pc lc sk st Q) := am_gu.trans rfl
theorem u3003_5 {v0 : Value} {v1 : Value} {v2 : Value} : am_g d X am_m3003 5 [v0, v1, v2] sk st Q = am_g d X am_m3003 6 [v0, v1, v2] (.int (am_i 1) :: sk) st Q := am_gu.trans rfl
theorem u3003_6 {v0 : Value} {v1 : Value} {v2 : Value} {x : Int32} {y : Int32} : am_g d X am_m3003 6 [v0, v1, v2] (.int y :: .int x :: sk) st Q = am_g d X am_m3003 7 [v0, v1, v2] (.int (x - y) :: sk) st Q := am_gu.trans rfl
theorem u3003_7 {a0 : Value} {v0 : Value} {v1 : Value} {v2 : Value} : am_g d X am_m3003 7 [v0, v1, v2] (a0 :: .ref o :: sk) st Q = ((am_ob st o 3 ∧ sk.length ≤ 5) ∧ am_Ca X d 3004 [.ref o, a0] st (am_af am_m3003 7 [v0, v1, v2] sk (fun pc lc sk st => am_g d X am_m3003 pc lc sk st Q) Q)) := am_gu.trans rfl
theorem u3003_10 {v0 : Value} {v1 : Value} {v2 : Value} {x : Nat} : am_g d X am_m3003 10 [v0, v1, v2] (.ref x :: sk) st Q = am_g d X am_m3003 11 [v0, am_kc v1, .ref x] sk st Q := am_gu.trans (congrArg (fun l => am_g d X am_m3003 11 (List.set l 2 (.ref x)) sk st Q) (kl_2 (l := [v2])))
theorem u3003_11 {v0 : Value} {v1 : Value} {x : Nat} : am_g d X am_m3003 11 [v0, v1, .ref x] sk st Q = am_g d X am_m3003 12 [v0, v1, .ref x] (.ref x :: sk) st Q := am_gu.trans rfl
theorem u3003_12 {v0 : Value} {v1 : Value} {v2 : Value} {x : Nat} : am_g d X am_m3003 12 [v0, v1, v2] (.ref x :: sk) st Q = am_g d X am_m3003 15 [v0, v1, v2] sk st Q := am_gu.trans rfl
theorem u3003_15 {v0 : Value} {v2 : Value} {x : Nat} : am_g d X am_m3003 15 [v0, .ref x, v2] sk st Q = am_g d X am_m3003 16 [v0, .ref x, v2] (.ref x :: sk) st Q := am_gu.trans rfl
theorem u3003_16 {v0 : Value} {v1 : Value} {x : Nat} : am_g d X am_m3003 16 [v0, v1, .ref x] sk st Q = am_g d X am_m3003 17 [v0, v1, .ref x] (.ref x :: sk) st Q := am_gu.trans rfl
theorem u3003_17 {a0 : Value} {v0 : Value} {v1 : Value} {v2 : Value} : am_g d X am_m3003 17 [v0, v1, v2] (a0 :: .ref o :: sk) st Q = ((am_ob st o 5 ∧ sk.length ≤ 5) ∧ am_Ca X d 5002 [.ref o, a0] st (am_af am_m3003 17 [v0, v1, v2] sk (fun pc lc sk st => am_g d X am_m3003 pc lc sk st Q) Q)) := am_gu.trans rfl
theorem u3003_20 {v1 : Value} {v2 : Value} {x : Nat} : am_g d X am_m3003 20 [.ref x, v1, v2] sk st Q = am_g d X am_m3003 21 [.ref x, v1, v2] (.ref x :: sk) st Q := am_gu.trans rfl
theorem u3003_21i {v0 : Value} {v1 : Value} {v2 : Value} {x : Int32} : am_g d X am_m3003 21 [v0, v1, v2] (.int x :: sk) st Q = am_g d X am_m3003 22 [v0, v1, v2] (.int x :: .int x :: sk) st Q := am_gu.trans rfl
theorem u3003_21r {v0 : Value} {v1 : Value} {v2 : Value} {x : Nat} : am_g d X am_m3003 21 [v0, v1, v2] (.ref x :: sk) st Q = am_g d X am_m3003 22 [v0, v1, v2] (.ref x :: .ref x :: sk) st Q := am_gu.trans rfl
theorem u3003_22 {v0 : Value} {v1 : Value} {v2 : Value} : am_g d X am_m3003 22 [v0, v1, v2] sk st Q = am_gt 98 25 [v0, v1, v2] sk st (fun pc lc sk st => am_g d X am_m3003 pc lc sk st Q) := am_gu.trans rfl
theorem u3003_25 {v0 : Value} {v1 : Value} {v2 : Value} : am_g d X am_m3003 25 [v0, v1, v2] sk st Q = am_g d X am_m3003 26 [v0, v1, v2] (.int (am_i 1) :: sk) st Q := am_gu.trans rfl
theorem u3003_26 {v0 : Value} {v1 : Value} {v2 : Value} {x : Int32} {y : Int32} : am_g d X am_m3003 26 [v0, v1, v2] (.int y :: .int x :: sk) st Q = am_g d X am_m3003 27 [v0, v1, v2] (.int (x - y) :: sk) st Q := am_gu.trans rfl
theorem u3003_27 {v0 : Value} {v1 : Value} {v2 : Value} : am_g d X am_m3003 27 [v0, v1, v2] sk st Q = am_pt 98 30 [v0, v1, v2] sk st (fun pc lc sk st => am_g d X am_m3003 pc lc sk st Q) := am_gu.trans rfl
theorem u3003_30 {v0 : Value} {v1 : Value} {v2 : Value} : am_g d X am_m3003 30 [v0, v1, v2] [] st Q = Q (.inl none) st := am_gu.trans rfl
set_option maxRecDepth 100000 in
theorem of_3004 : am_of 3004 = some am_m3004 := rfl
theorem c3004 {z a0} {P : am_Q} : am_Ca X (d + 1) 3004 [.ref z, .int a0] st P = am_g d X am_m3004 0 [.ref z, .int a0] [] st P := am_cg of_3004 (by show 2 ≤ 2; decide)
theorem hd_3004 : am_hd am_m3004 = [] := rfl
theorem u3004_0 {v0 : Value} {x : Int32} : am_g d X am_m3004 0 [v0, .int x] sk st Q = am_g d X am_m3004 1 [v0, .int x] (.int x :: sk) st Q := am_gu.trans rfl
theorem u3004_1 {v0 : Value} {v1 : Value} {x : Int32} : am_g d X am_m3004 1 [v0, v1] (.int x :: sk) st Q = (if decide (x < 0) = true then am_g d X am_m3004 25 [v0, v1] sk st Q else am_g d X am_m3004 4 [v0, v1] sk st Q) := am_gu.trans rfl
theorem u3004_4 {v0 : Value} {x : Int32} : am_g d X am_m3004 4 [v0, .int x] sk st Q = am_g d X am_m3004 5 [v0, .int x] (.int x :: sk) st Q := am_gu.trans rfl
theorem u3004_5 {v0 : Value} {v1 : Value} : am_g d X am_m3004 5 [v0, v1] sk st Q = am_g d X am_m3004 6 [v0, v1] (.int (am_i 4) :: sk) st Q := am_gu.trans rfl
theorem u3004_6 {v0 : Value} {v1 : Value} {x : Int32} {y : Int32} : am_g d X am_m3004 6 [v0, v1] (.int y :: .int x :: sk) st Q = (if decide (y ≤ x) = true then am_g d X am_m3004 25 [v0, v1] sk st Q else am_g d X am_m3004 9 [v0, v1] sk st Q) := am_gu.trans rfl
theorem u3004_9 {v1 : Value} {x : Nat} : am_g d X am_m3004 9 [.ref x, v1] sk st Q = am_g d X am_m3004 10 [.ref x, v1] (.ref x :: sk) st Q := am_gu.trans rfl
theorem u3004_10 {v0 : Value} {v1 : Value} : am_g d X am_m3004 10 [v0, v1] sk st Q = am_gt 96 13 [v0, v1] sk st (fun pc lc sk st => am_g d X am_m3004 pc lc sk st Q) := am_gu.trans rfl
theorem u3004_13 {v1 : Value} {x : Nat} : am_g d X am_m3004 13 [.ref x, v1] sk st Q = am_g d X am_m3004 14 [.ref x, v1] (.ref x :: sk) st Q := am_gu.trans rfl
theorem u3004_14 {v0 : Value} {v1 : Value} : am_g d X am_m3004 14 [v0, v1] sk st Q = am_gt 97 17 [v0, v1] sk st (fun pc lc sk st => am_g d X am_m3004 pc lc sk st Q) := am_gu.trans rfl
theorem u3004_17 {v0 : Value} {x : Int32} : am_g d X am_m3004 17 [v0, .int x] sk st Q = am_g d X am_m3004 18 [v0, .int x] (.int x :: sk) st Q := am_gu.trans rfl
theorem u3004_18 {v0 : Value} {v1 : Value} {x : Int32} {y : Int32} : am_g d X am_m3004 18 [v0, v1] (.int y :: .int x :: sk) st Q = am_g d X am_m3004 19 [v0, v1] (.int (x + y) :: sk) st Q := am_gu.trans rfl
theorem u3004_19 {v0 : Value} {v1 : Value} : am_g d X am_m3004 19 [v0, v1] sk st Q = am_g d X am_m3004 20 [v0, v1] (.int (am_i 4) :: sk) st Q := am_gu.trans rfl
theorem u3004_20 {v0 : Value} {v1 : Value} {x : Int32} {y : Int32} : am_g d X am_m3004 20 [v0, v1] (.int y :: .int x :: sk) st Q = (¬ y = 0 ∧ am_g d X am_m3004 21 [v0, v1] (.int (x - x / y * y) :: sk) st Q) := am_gu.trans rfl
theorem u3004_21 {v0 : Value} {v1 : Value} : am_g d X am_m3004 21 [v0, v1] sk st Q = am_ql 22 [v0, v1] sk st (fun pc lc sk st => am_g d X am_m3004 pc lc sk st Q) := am_gu.trans rfl
theorem u3004_22 {v0 : Value} {v1 : Value} : am_g d X am_m3004 22 [v0, v1] sk st Q = am_g d X am_m3004 26 [v0, v1] sk st Q := am_gu.trans rfl
theorem u3004_26 {v0 : Value} {v1 : Value} {x : Nat} : am_g d X am_m3004 26 [v0, v1] [.ref x] st Q = Q (.inl (some (.ref x))) st := am_gu.trans rfl
set_option maxRecDepth 100000 in
theorem of_4001 : am_of 4001 = some am_m4001 := rfl
theorem c4001 {z} {P : am_Q} : am_Ca X (d + 1) 4001 [.ref z] st P = am_g d X am_m4001 0 [.ref z] [] st P := am_cg of_4001 (by show 1 ≤ 1; decide)
theorem hd_4001 : am_hd am_m4001 = [] := rfl
theorem u4001_0 {x : Nat} : am_g d X am_m4001 0 [.ref x] sk st Q = am_g d X am_m4001 1 [.ref x] (.ref x :: sk) st Q := am_gu.trans rfl
theorem u4001_1 {v0 : Value} : am_g d X am_m4001 1 [v0] (.ref o :: sk) st Q = (sk.length ≤ 4 ∧ am_g d X am_m4001 4 [v0] sk st Q) := am_gu.trans rfl
theorem u4001_4 {x : Nat} : am_g d X am_m4001 4 [.ref x] sk st Q = am_g d X am_m4001 5 [.ref x] (.ref x :: sk) st Q := am_gu.trans rfl
theorem u4001_5 {v0 : Value} : am_g d X am_m4001 5 [v0] sk st Q = am_nw 5 8 [v0] sk st (fun pc lc sk st => am_g d X am_m4001 pc lc sk st Q) := am_gu.trans rfl
theorem u4001_8i {v0 : Value} {x : Int32} : am_g d X am_m4001 8 [v0] (.int x :: sk) st Q = am_g d X am_m4001 9 [v0] (.int x :: .int x :: sk) st Q := am_gu.trans rfl
theorem u4001_8r {v0 : Value} {x : Nat} : am_g d X am_m4001 8 [v0] (.ref x :: sk) st Q = am_g d X am_m4001 9 [v0] (.ref x :: .ref x :: sk) st Q := am_gu.trans rfl
theorem u4001_9 {v0 : Value} : am_g d X am_m4001 9 [v0] (.ref o :: sk) st Q = ((am_ob st o 5 ∧ sk.length ≤ 4) ∧ am_Ca X d 5001 [.ref o] st (am_af am_m4001 9 [v0] sk (fun pc lc sk st => am_g d X am_m4001 pc lc sk st Q) Q)) := am_gu.trans rfl
theorem u4001_12 {v0 : Value} : am_g d X am_m4001 12 [v0] sk st Q = am_pt 128 15 [v0] sk st (fun pc lc sk st => am_g d X am_m4001 pc lc sk st Q) := am_gu.trans rfl
theorem u4001_15 {x : Nat} : am_g d X am_m4001 15 [.ref x] sk st Q = am_g d X am_m4001 16 [.ref x] (.ref x :: sk) st Q := am_gu.trans rfl
theorem u4001_16 {v0 : Value} : am_g d X am_m4001 16 [v0] sk st Q = am_nw 1 19 [v0] sk st (fun pc lc sk st => am_g d X am_m4001 pc lc sk st Q) := am_gu.trans rfl
theorem u4001_19i {v0 : Value} {x : Int32} : am_g d X am_m4001 19 [v0] (.int x :: sk) st Q = am_g d X am_m4001 20 [v0] (.int x :: .int x :: sk) st Q := am_gu.trans rfl
theorem u4001_19r {v0 : Value} {x : Nat} : am_g d X am_m4001 19 [v0] (.ref x :: sk) st Q = am_g d X am_m4001 20 [v0] (.ref x :: .ref x :: sk) st Q := am_gu.trans rfl
theorem u4001_20 {v0 : Value} : am_g d X am_m4001 20 [v0] (.ref o :: sk) st Q = ((am_ob st o 1 ∧ sk.length ≤ 4) ∧ am_Ca X d 1001 [.ref o] st (am_af am_m4001 20 [v0] sk (fun pc lc sk st => am_g d X am_m4001 pc lc sk st Q) Q)) := am_gu.trans rfl
theorem u4001_23 {v0 : Value} : am_g d X am_m4001 23 [v0] sk st Q = am_pt 129 26 [v0] sk st (fun pc lc sk st => am_g d X am_m4001 pc lc sk st Q) := am_gu.trans rfl
theorem u4001_26 {x : Nat} : am_g d X am_m4001 26 [.ref x] sk st Q = am_g d X am_m4001 27 [.ref x] (.ref x :: sk) st Q := am_gu.trans rfl
theorem u4001_27 {v0 : Value} : am_g d X am_m4001 27 [v0] sk st Q = am_nw 0 30 [v0] sk st (fun pc lc sk st => am_g d X am_m4001 pc lc sk st Q) := am_gu.trans rfl
theorem u4001_30i {v0 : Value} {x : Int32} : am_g d X am_m4001 30 [v0] (.int x :: sk) st Q = am_g d X am_m4001 31 [v0] (.int x :: .int x :: sk) st Q := am_gu.trans rfl
theorem u4001_30r {v0 : Value} {x : Nat} : am_g d X am_m4001 30 [v0] (.ref x :: sk) st Q = am_g d X am_m4001 31 [v0] (.ref x :: .ref x :: sk) st Q := am_gu.trans rfl
theorem u4001_31 {v0 : Value} : am_g d X am_m4001 31 [v0] (.ref o :: sk) st Q = ((am_ob st o 0 ∧ sk.length ≤ 4) ∧ am_Ca X d 1 [.ref o] st (am_af am_m4001 31 [v0] sk (fun pc lc sk st => am_g d X am_m4001 pc lc sk st Q) Q)) := am_gu.trans rfl
theorem u4001_34 {v0 : Value} : am_g d X am_m4001 34 [v0] sk st Q = am_pt 130 37 [v0] sk st (fun pc lc sk st => am_g d X am_m4001 pc lc sk st Q) := am_gu.trans rfl
theorem u4001_37 {x : Nat} : am_g d X am_m4001 37 [.ref x] sk st Q = am_g d X am_m4001 38 [.ref x] (.ref x :: sk) st Q := am_gu.trans rfl
theorem u4001_38 {v0 : Value} : am_g d X am_m4001 38 [v0] sk st Q = am_g d X am_m4001 40 [v0] (.int (am_i 60) :: sk) st Q := am_gu.trans rfl
theorem u4001_40 {v0 : Value} : am_g d X am_m4001 40 [v0] sk st Q = am_na 1 none 42 [v0] sk st (fun pc lc sk st => am_g d X am_m4001 pc lc sk st Q) := am_gu.trans rfl
theorem u4001_42 {v0 : Value} : am_g d X am_m4001 42 [v0] sk st Q = am_pt 131 45 [v0] sk st (fun pc lc sk st => am_g d X am_m4001 pc lc sk st Q) := am_gu.trans rfl
theorem u4001_45 {v0 : Value} : am_g d X am_m4001 45 [v0] [] st Q = Q (.inl none) st := am_gu.trans rfl
set_option maxRecDepth 100000 in
theorem of_4002 : am_of 4002 = some am_m4002 := rfl
theorem c4002 {z a0 a1} {P : am_Q} : am_Ca X (d + 1) 4002 [.ref z, .int a0, .int a1] st P = am_g d X am_m4002 0 [.ref z, .int a0, .int a1] [] st P := am_cg of_4002 (by show 3 ≤ 3; decide)
theorem hd_4002 : am_hd am_m4002 = [] := rfl
theorem u4002_0 {v1 : Value} {v2 : Value} {x : Nat} : am_g d X am_m4002 0 [.ref x, v1, v2] sk st Q = am_g d X am_m4002 1 [.ref x, v1, v2] (.ref x :: sk) st Q := am_gu.trans rfl
theorem u4002_1 {v0 : Value} {v1 : Value} {v2 : Value} : am_g d X am_m4002 1 [v0, v1, v2] sk st Q = am_gt 128 4 [v0, v1, v2] sk st (fun pc lc sk st => am_g d X am_m4002 pc lc sk st Q) := am_gu.trans rfl
theorem u4002_4 {v0 : Value} {v2 : Value} {x : Int32} : am_g d X am_m4002 4 [v0, .int x, v2] sk st Q = am_g d X am_m4002 5 [v0, .int x, v2] (.int x :: sk) st Q := am_gu.trans rfl
theorem u4002_5 {v0 : Value} {v1 : Value} {x : Int32} : am_g d X am_m4002 5 [v0, v1, .int x] sk st Q = am_g d X am_m4002 6 [v0, v1, .int x] (.int x :: sk) st Q := am_gu.trans rfl
theorem u4002_6 {a0 : Value} {a1 : Value} {v0 : Value} {v1 : Value} {v2 : Value} : am_g d X am_m4002 6 [v0, v1, v2] (a1 :: a0 :: .ref o :: sk) st Q = ((am_ob st o 5 ∧ sk.length ≤ 5) ∧ am_Ca X d 5022 [.ref o, a0, a1] st (am_af am_m4002 6 [v0, v1, v2] sk (fun pc lc sk st => am_g d X am_m4002 pc lc sk st Q) Q)) := am_gu.trans rfl
theorem u4002_9 {v1 : Value} {v2 : Value} {x : Nat} : am_g d X am_m4002 9 [.ref x, v1, v2] sk st Q = am_g d X am_m4002 10 [.ref x, v1, v2] (.ref x :: sk) st Q := am_gu.trans rfl
theorem u4002_10 {v0 : Value} {v1 : Value} {v2 : Value} : am_g d X am_m4002 10 [v0, v1, v2] sk st Q = am_gt 128 13 [v0, v1, v2] sk st (fun pc lc sk st => am_g d X am_m4002 pc lc sk st Q) := am_gu.trans rfl
theorem u4002_13 {v0 : Value} {v1 : Value} {v2 : Value} : am_g d X am_m4002 13 [v0, v1, v2] (.ref o :: sk) st Q = ((am_ob st o 5 ∧ sk.length ≤ 5) ∧ am_Ca X d 5024 [.ref o] st (am_af am_m4002 13 [v0, v1, v2] sk (fun pc lc sk st => am_g d X am_m4002 pc lc sk st Q) Q)) := am_gu.trans rfl
theorem u4002_16 {v0 : Value} {v1 : Value} {v2 : Value} {x : Int32} : am_g d X am_m4002 16 [v0, v1, v2] [.int x] st Q = Q (.inl (some (.int x))) st := am_gu.trans rfl
set_option maxRecDepth 100000 in
theorem of_4003 : am_of 4003 = some am_m4003 := rfl
theorem c4003 {z} {P : am_Q} : am_Ca X (d + 1) 4003 [.ref z] st P = am_g d X am_m4003 0 [.ref z, am_u] [] st P := am_cg of_4003 (by show 1 ≤ 2; decide)
theorem hd_4003 : am_hd am_m4003 = [] := rfl
theorem u4003_0 {v1 : Value} {x : Nat} : am_g d X am_m4003 0 [.ref x, v1] sk st Q = am_g d X am_m4003 1 [.ref x, v1] (.ref x :: sk) st Q := am_gu.trans rfl
theorem u4003_1 {v0 : Value} {v1 : Value} : am_g d X am_m4003 1 [v0, v1] sk st Q = am_gt 128 4 [v0, v1] sk st (fun pc lc sk st => am_g d X am_m4003 pc lc sk st Q) := am_gu.trans rfl
theorem u4003_4 {v0 : Value} {v1 : Value} : am_g d X am_m4003 4 [v0, v1] sk st Q = am_gt 168 7 [v0, v1] sk st (fun pc lc sk st => am_g d X am_m4003 pc lc sk st Q) := am_gu.trans rfl
theorem u4003_7 {v0 : Value} {v1 : Value} : am_g d X am_m4003 7 [v0, v1] sk st Q = am_g d X am_m4003 8 [v0, v1] (.int (am_i 1) :: sk) st Q := am_gu.trans rfl
theorem u4003_8 {v0 : Value} {v1 : Value} {x : Int32} {y : Int32} : am_g d X am_m4003 8 [v0, v1] (.int y :: .int x :: sk) st Q = (if decide (x = y) = true then am_g d X am_m4003 21 [v0, v1] sk st Q else am_g d X am_m4003 11 [v0, v1] sk st Q) := am_gu.trans rfl
theorem u4003_11 {v1 : Value} {x : Nat} : am_g d X am_m4003 11 [.ref x, v1] sk st Q = am_g d X am_m4003 12 [.ref x, v1] (.ref x :: sk) st Q := am_gu.trans rfl
theorem u4003_12 {v0 : Value} {v1 : Value} : am_g d X am_m4003 12 [v0, v1] sk st Q = am_gt 128 15 [v0, v1] sk st (fun pc lc sk st => am_g d X am_m4003 pc lc sk st Q) := am_gu.trans rfl
theorem u4003_15 {v0 : Value} {v1 : Value} : am_g d X am_m4003 15 [v0, v1] (.ref o :: sk) st Q = ((am_ob st o 5 ∧ sk.length ≤ 5) ∧ am_Ca X d 5024 [.ref o] st (am_af am_m4003 15 [v0, v1] sk (fun pc lc sk st => am_g d X am_m4003 pc lc sk st Q) Q)) := am_gu.trans rfl
theorem u4003_18 {v0 : Value} {v1 : Value} {x : Int32} : am_g d X am_m4003 18 [v0, v1] (.int x :: sk) st Q = (if decide (x ≤ 0) = true then am_g d X am_m4003 25 [v0, v1] sk st Q else am_g d X am_m4003 21 [v0, v1] sk st Q) := am_gu.trans rfl
theorem u4003_21 {v0 : Value} {v1 : Value} : am_g d X am_m4003 21 [v0, v1] sk st Q = am_g d X am_m4003 22 [v0, v1] (.int (am_i 1) :: sk) st Q := am_gu.trans rfl
theorem u4003_22 {v0 : Value} {v1 : Value} : am_g d X am_m4003 22 [v0, v1] sk st Q = am_g d X am_m4003 26 [v0, v1] sk st Q := am_gu.trans rfl
theorem u4003_25 {v0 : Value} {v1 : Value} : am_g d X am_m4003 25 [v0, v1] sk st Q = am_g d X am_m4003 26 [v0, v1] (.int (am_i 0) :: sk) st Q := am_gu.trans rfl
theorem u4003_26 {v0 : Value} {v1 : Value} {x : Int32} : am_g d X am_m4003 26 [v0, v1] (.int x :: sk) st Q = am_g d X am_m4003 27 [am_kc v0, .int x] sk st Q := am_gu.trans (congrArg (fun l => am_g d X am_m4003 27 (List.set l 1 (.int x)) sk st Q) (kl_1 (l := [v1])))
theorem u4003_27 {v0 : Value} {x : Int32} : am_g d X am_m4003 27 [v0, .int x] sk st Q = am_g d X am_m4003 28 [v0, .int x] (.int x :: sk) st Q := am_gu.trans rfl
theorem u4003_28 {v0 : Value} {v1 : Value} {x : Int32} : am_g d X am_m4003 28 [v0, v1] (.int x :: sk) st Q = (if decide (x = 0) = true then am_g d X am_m4003 55 [v0, v1] sk st Q else am_g d X am_m4003 31 [v0, v1] sk st Q) := am_gu.trans rfl
theorem u4003_31 {v1 : Value} {x : Nat} : am_g d X am_m4003 31 [.ref x, v1] sk st Q = am_g d X am_m4003 32 [.ref x, v1] (.ref x :: sk) st Q := am_gu.trans rfl
theorem u4003_32 {v0 : Value} {v1 : Value} : am_g d X am_m4003 32 [v0, v1] sk st Q = am_gt 128 35 [v0, v1] sk st (fun pc lc sk st => am_g d X am_m4003 pc lc sk st Q) := am_gu.trans rfl
theorem u4003_35 {v0 : Value} {v1 : Value} : am_g d X am_m4003 35 [v0, v1] (.ref o :: sk) st Q = ((am_ob st o 5 ∧ sk.length ≤ 5) ∧ am_Ca X d 5029 [.ref o] st (am_af am_m4003 35 [v0, v1] sk (fun pc lc sk st => am_g d X am_m4003 pc lc sk st Q) Q)) := am_gu.trans rfl
theorem u4003_38 {v0 : Value} {v1 : Value} {x : Int32} : am_g d X am_m4003 38 [v0, v1] (.int x :: sk) st Q = (if decide (¬ x = 0) = true then am_g d X am_m4003 55 [v0, v1] sk st Q else am_g d X am_m4003 41 [v0, v1] sk st Q) := am_gu.trans rfl
theorem u4003_41 {v1 : Value} {x : Nat} : am_g d X am_m4003 41 [.ref x, v1] sk st Q = am_g d X am_m4003 42 [.ref x, v1] (.ref x :: sk) st Q := am_gu.trans rfl
theorem u4003_42 {v0 : Value} {v1 : Value} : am_g d X am_m4003 42 [v0, v1] sk st Q = am_gt 128 45 [v0, v1] sk st (fun pc lc sk st => am_g d X am_m4003 pc lc sk st Q) := am_gu.trans rfl
theorem u4003_45 {v0 : Value} {v1 : Value} : am_g d X am_m4003 45 [v0, v1] (.ref o :: sk) st Q = ((am_ob st o 5 ∧ sk.length ≤ 5) ∧ am_Ca X d 5004 [.ref o] st (am_af am_m4003 45 [v0, v1] sk (fun pc lc sk st => am_g d X am_m4003 pc lc sk st Q) Q)) := am_gu.trans rfl
theorem u4003_48 {v0 : Value} {v1 : Value} {x : Int32} : am_g d X am_m4003 48 [v0, v1] (.int x :: sk) st Q = (if decide (x = 0) = true then am_g d X am_m4003 55 [v0, v1] sk st Q else am_g d X am_m4003 51 [v0, v1] sk st Q) := am_gu.trans rfl
theorem u4003_51 {v0 : Value} {v1 : Value} : am_g d X am_m4003 51 [v0, v1] sk st Q = am_g d X am_m4003 52 [v0, v1] (.int (am_i 1) :: sk) st Q := am_gu.trans rfl
theorem u4003_52 {v0 : Value} {v1 : Value} : am_g d X am_m4003 52 [v0, v1] sk st Q = am_g d X am_m4003 56 [v0, v1] sk st Q := am_gu.trans rfl
theorem u4003_55 {v0 : Value} {v1 : Value} : am_g d X am_m4003 55 [v0, v1] sk st Q = am_g d X am_m4003 56 [v0, v1] (.int (am_i 0) :: sk) st Q := am_gu.trans rfl
theorem u4003_56 {v0 : Value} {v1 : Value} {x : Int32} : am_g d X am_m4003 56 [v0, v1] [.int x] st Q = ((x = 0 ∨ x = 1) ∧ Q (.inl (some (.int x))) st) := am_gu.trans rfl
set_option maxRecDepth 100000 in
theorem of_4004 : am_of 4004 = some am_m4004 := rfl
theorem c4004 {z} {P : am_Q} : am_Ca X (d + 1) 4004 [.ref z] st P = am_g d X am_m4004 0 [.ref z] [] st P := am_cg of_4004 (by show 1 ≤ 1; decide)
theorem hd_4004 : am_hd am_m4004 = [] := rfl
theorem u4004_0 {x : Nat} : am_g d X am_m4004 0 [.ref x] sk st Q = am_g d X am_m4004 1 [.ref x] (.ref x :: sk) st Q := am_gu.trans rfl
theorem u4004_1 {v0 : Value} : am_g d X am_m4004 1 [v0] sk st Q = am_gt 128 4 [v0] sk st (fun pc lc sk st => am_g d X am_m4004 pc lc sk st Q) := am_gu.trans rfl
theorem u4004_4 {x : Nat} : am_g d X am_m4004 4 [.ref x] sk st Q = am_g d X am_m4004 5 [.ref x] (.ref x :: sk) st Q := am_gu.trans rfl
theorem u4004_5 {v0 : Value} : am_g d X am_m4004 5 [v0] sk st Q = am_gt 128 8 [v0] sk st (fun pc lc sk st => am_g d X am_m4004 pc lc sk st Q) := am_gu.trans rfl
theorem u4004_8 {v0 : Value} : am_g d X am_m4004 8 [v0] sk st Q = am_gt 168 11 [v0] sk st (fun pc lc sk st => am_g d X am_m4004 pc lc sk st Q) := am_gu.trans rfl
theorem u4004_11 {v0 : Value} : am_g d X am_m4004 11 [v0] sk st Q = am_g d X am_m4004 12 [v0] (.int (am_i 1) :: sk) st Q := am_gu.trans rfl
theorem u4004_12 {v0 : Value} {x : Int32} {y : Int32} : am_g d X am_m4004 12 [v0] (.int y :: .int x :: sk) st Q = (if decide (¬ x = y) = true then am_g d X am_m4004 25 [v0] sk st Q else am_g d X am_m4004 15 [v0] sk st Q) := am_gu.trans rfl
theorem u4004_15 {x : Nat} : am_g d X am_m4004 15 [.ref x] sk st Q = am_g d X am_m4004 16 [.ref x] (.ref x :: sk) st Q := am_gu.trans rfl
theorem u4004_16 {v0 : Value} : am_g d X am_m4004 16 [v0] sk st Q = am_gt 128 19 [v0] sk st (fun pc lc sk st => am_g d X am_m4004 pc lc sk st Q) := am_gu.trans rfl
theorem u4004_19 {v0 : Value} : am_g d X am_m4004 19 [v0] sk st Q = am_gt 169 22 [v0] sk st (fun pc lc sk st => am_g d X am_m4004 pc lc sk st Q) := am_gu.trans rfl
theorem u4004_22 {v0 : Value} : am_g d X am_m4004 22 [v0] sk st Q = am_g d X am_m4004 26 [v0] sk st Q := am_gu.trans rfl
theorem u4004_25 {v0 : Value} : am_g d X am_m4004 25 [v0] sk st Q = am_g d X am_m4004 26 [v0] (.int (am_i (-1)) :: sk) st Q := am_gu.trans rfl
theorem u4004_26 {a0 : Value} {v0 : Value} : am_g d X am_m4004 26 [v0] (a0 :: .ref o :: sk) st Q = ((am_ob st o 5 ∧ sk.length ≤ 5) ∧ am_Ca X d 5013 [.ref o, a0] st (am_af am_m4004 26 [v0] sk (fun pc lc sk st => am_g d X am_m4004 pc lc sk st Q) Q)) := am_gu.trans rfl
theorem u4004_29 {v0 : Value} {x : Int32} : am_g d X am_m4004 29 [v0] [.int x] st Q = Q (.inl (some (.int x))) st := am_gu.trans rfl
set_option maxRecDepth 100000 in
theorem of_4005 : am_of 4005 = some am_m4005 := rfl
theorem c4005 {z a0} {P : am_Q} : am_Ca X (d + 1) 4005 [.ref z, .int a0] st P = am_g d X am_m4005 0 [.ref z, .int a0, am_u] [] st P := am_cg of_4005 (by show 2 ≤ 3; decide)
theorem hd_4005 : am_hd am_m4005 = [] := rfl
theorem u4005_0 {v1 : Value} {v2 : Value} {x : Nat} : am_g d X am_m4005 0 [.ref x, v1, v2] sk st Q = am_g d X am_m4005 1 [.ref x, v1, v2] (.ref x :: sk) st Q := am_gu.trans rfl
theorem u4005_1 {v0 : Value} {v1 : Value} {v2 : Value} : am_g d X am_m4005 1 [v0, v1, v2] sk st Q = am_gt 128 4 [v0, v1, v2] sk st (fun pc lc sk st => am_g d X am_m4005 pc lc sk st Q) := am_gu.trans rfl
theorem u4005_4 {v0 : Value} {v1 : Value} {v2 : Value} : am_g d X am_m4005 4 [v0, v1, v2] (.ref o :: sk) st Q = ((am_ob st o 5 ∧ sk.length ≤ 5) ∧ am_Ca X d 5016 [.ref o] st (am_af am_m4005 4 [v0, v1, v2] sk (fun pc lc sk st => am_g d X am_m4005 pc lc sk st Q) Q)) := am_gu.trans rfl
theorem u4005_7 {v0 : Value} {v1 : Value} {v2 : Value} {x : Int32} : am_g d X am_m4005 7 [v0, v1, v2] (.int x :: sk) st Q = am_g d X am_m4005 8 [v0, am_kc v1, .int x] sk st Q := am_gu.trans (congrArg (fun l => am_g d X am_m4005 8 (List.set l 2 (.int x)) sk st Q) (kl_2 (l := [v2])))
theorem u4005_8 {v1 : Value} {v2 : Value} {x : Nat} : am_g d X am_m4005 8 [.ref x, v1, v2] sk st Q = am_g d X am_m4005 9 [.ref x, v1, v2] (.ref x :: sk) st Q := am_gu.trans rfl
theorem u4005_9 {v0 : Value} {v1 : Value} {v2 : Value} : am_g d X am_m4005 9 [v0, v1, v2] sk st Q = am_gt 128 12 [v0, v1, v2] sk st (fun pc lc sk st => am_g d X am_m4005 pc lc sk st Q) := am_gu.trans rfl
theorem u4005_12 {v0 : Value} {v2 : Value} {x : Int32} : am_g d X am_m4005 12 [v0, .int x, v2] sk st Q = am_g d X am_m4005 13 [v0, .int x, v2] (.int x :: sk) st Q := am_gu.trans rfl
theorem u4005_13 {a0 : Value} {v0 : Value} {v1 : Value} {v2 : Value} : am_g d X am_m4005 13 [v0, v1, v2] (a0 :: .ref o :: sk) st Q = ((am_ob st o 5 ∧ sk.length ≤ 5) ∧ am_Ca X d 5020 [.ref o, a0] st (am_af am_m4005 13 [v0, v1, v2] sk (fun pc lc sk st => am_g d X am_m4005 pc lc sk st Q) Q)) := am_gu.trans rfl
theorem u4005_16 {v0 : Value} {v1 : Value} {x : Int32} : am_g d X am_m4005 16 [v0, v1, .int x] sk st Q = am_g d X am_m4005 17 [v0, v1, .int x] (.int x :: sk) st Q := am_gu.trans rfl
theorem u4005_17 {v0 : Value} {v1 : Value} {v2 : Value} {x : Int32} : am_g d X am_m4005 17 [v0, v1, v2] [.int x] st Q = Q (.inl (some (.int x))) st := am_gu.trans rfl
set_option maxRecDepth 100000 in
theorem of_4006 : am_of 4006 = some am_m4006 := rfl
theorem c4006 {z} {P : am_Q} : am_Ca X (d + 1) 4006 [.ref z] st P = am_g d X am_m4006 0 [.ref z] [] st P := am_cg of_4006 (by show 1 ≤ 1; decide)
theorem hd_4006 : am_hd am_m4006 = [] := rfl
theorem u4006_0 {x : Nat} : am_g d X am_m4006 0 [.ref x] sk st Q = am_g d X am_m4006 1 [.ref x] (.ref x :: sk) st Q := am_gu.trans rfl
theorem u4006_1 {v0 : Value} : am_g d X am_m4006 1 [v0] sk st Q = am_gt 128 4 [v0] sk st (fun pc lc sk st => am_g d X am_m4006 pc lc sk st Q) := am_gu.trans rfl
theorem u4006_4 {v0 : Value} : am_g d X am_m4006 4 [v0] sk st Q = am_gt 168 7 [v0] sk st (fun pc lc sk st => am_g d X am_m4006 pc lc sk st Q) := am_gu.trans rfl
theorem u4006_7 {v0 : Value} {x : Int32} : am_g d X am_m4006 7 [v0] (.int x :: sk) st Q = (if decide (¬ x = 0) = true then am_g d X am_m4006 35 [v0] sk st Q else am_g d X am_m4006 10 [v0] sk st Q) := am_gu.trans rfl
theorem u4006_10 {x : Nat} : am_g d X am_m4006 10 [.ref x] sk st Q = am_g d X am_m4006 11 [.ref x] (.ref x :: sk) st Q := am_gu.trans rfl
theorem u4006_11 {v0 : Value} : am_g d X am_m4006 11 [v0] sk st Q = am_gt 128 14 [v0] sk st (fun pc lc sk st => am_g d X am_m4006 pc lc sk st Q) := am_gu.trans rfl
theorem u4006_14 {v0 : Value} : am_g d X am_m4006 14 [v0] (.ref o :: sk) st Q = ((am_ob st o 5 ∧ sk.length ≤ 5) ∧ am_Ca X d 5024 [.ref o] st (am_af am_m4006 14 [v0] sk (fun pc lc sk st => am_g d X am_m4006 pc lc sk st Q) Q)) := am_gu.trans rfl
theorem u4006_17 {v0 : Value} {x : Int32} : am_g d X am_m4006 17 [v0] (.int x :: sk) st Q = (if decide (x ≤ 0) = true then am_g d X am_m4006 35 [v0] sk st Q else am_g d X am_m4006 20 [v0] sk st Q) := am_gu.trans rfl
theorem u4006_20 {x : Nat} : am_g d X am_m4006 20 [.ref x] sk st Q = am_g d X am_m4006 21 [.ref x] (.ref x :: sk) st Q := am_gu.trans rfl
theorem u4006_21 {v0 : Value} : am_g d X am_m4006 21 [v0] sk st Q = am_gt 128 24 [v0] sk st (fun pc lc sk st => am_g d X am_m4006 pc lc sk st Q) := am_gu.trans rfl
theorem u4006_24 {v0 : Value} : am_g d X am_m4006 24 [v0] sk st Q = am_gt 170 27 [v0] sk st (fun pc lc sk st => am_g d X am_m4006 pc lc sk st Q) := am_gu.trans rfl
theorem u4006_27 {v0 : Value} : am_g d X am_m4006 27 [v0] sk st Q = am_g d X am_m4006 28 [v0] (.int (am_i 3) :: sk) st Q := am_gu.trans rfl
theorem u4006_28 {v0 : Value} {x : Int32} {y : Int32} : am_g d X am_m4006 28 [v0] (.int y :: .int x :: sk) st Q = (if decide (y ≤ x) = true then am_g d X am_m4006 35 [v0] sk st Q else am_g d X am_m4006 31 [v0] sk st Q) := am_gu.trans rfl
theorem u4006_31 {v0 : Value} : am_g d X am_m4006 31 [v0] sk st Q = am_g d X am_m4006 32 [v0] (.int (am_i 1) :: sk) st Q := am_gu.trans rfl
theorem u4006_32 {v0 : Value} : am_g d X am_m4006 32 [v0] sk st Q = am_g d X am_m4006 36 [v0] sk st Q := am_gu.trans rfl
theorem u4006_35 {v0 : Value} : am_g d X am_m4006 35 [v0] sk st Q = am_g d X am_m4006 36 [v0] (.int (am_i 0) :: sk) st Q := am_gu.trans rfl
theorem u4006_36 {v0 : Value} {x : Int32} : am_g d X am_m4006 36 [v0] [.int x] st Q = ((x = 0 ∨ x = 1) ∧ Q (.inl (some (.int x))) st) := am_gu.trans rfl
set_option maxRecDepth 100000 in
theorem of_4007 : am_of 4007 = some am_m4007 := rfl
theorem c4007 {z} {P : am_Q} : am_Ca X (d + 1) 4007 [.ref z] st P = am_g d X am_m4007 0 [.ref z] [] st P := am_cg of_4007 (by show 1 ≤ 1; decide)
theorem hd_4007 : am_hd am_m4007 = [] := rfl
theorem u4007_0 {x : Nat} : am_g d X am_m4007 0 [.ref x] sk st Q = am_g d X am_m4007 1 [.ref x] (.ref x :: sk) st Q := am_gu.trans rfl
theorem u4007_1 {v0 : Value} : am_g d X am_m4007 1 [v0] sk st Q = am_gt 128 4 [v0] sk st (fun pc lc sk st => am_g d X am_m4007 pc lc sk st Q) := am_gu.trans rfl
theorem u4007_4 {v0 : Value} : am_g d X am_m4007 4 [v0] (.ref o :: sk) st Q = ((am_ob st o 5 ∧ sk.length ≤ 5) ∧ am_Ca X d 5032 [.ref o] st (am_af am_m4007 4 [v0] sk (fun pc lc sk st => am_g d X am_m4007 pc lc sk st Q) Q)) := am_gu.trans rfl
theorem u4007_7 {x : Nat} : am_g d X am_m4007 7 [.ref x] sk st Q = am_g d X am_m4007 8 [.ref x] (.ref x :: sk) st Q := am_gu.trans rfl
theorem u4007_8 {v0 : Value} : am_g d X am_m4007 8 [v0] sk st Q = am_gt 128 11 [v0] sk st (fun pc lc sk st => am_g d X am_m4007 pc lc sk st Q) := am_gu.trans rfl
theorem u4007_11 {x : Nat} : am_g d X am_m4007 11 [.ref x] sk st Q = am_g d X am_m4007 12 [.ref x] (.ref x :: sk) st Q := am_gu.trans rfl
theorem u4007_12 {v0 : Value} : am_g d X am_m4007 12 [v0] sk st Q = am_gt 128 15 [v0] sk st (fun pc lc sk st => am_g d X am_m4007 pc lc sk st Q) := am_gu.trans rfl
theorem u4007_15 {v0 : Value} : am_g d X am_m4007 15 [v0] (.ref o :: sk) st Q = ((am_ob st o 5 ∧ sk.length ≤ 5) ∧ am_Ca X d 5016 [.ref o] st (am_af am_m4007 15 [v0] sk (fun pc lc sk st => am_g d X am_m4007 pc lc sk st Q) Q)) := am_gu.trans rfl
theorem u4007_18 {a0 : Value} {v0 : Value} : am_g d X am_m4007 18 [v0] (a0 :: .ref o :: sk) st Q = ((am_ob st o 5 ∧ sk.length ≤ 5) ∧ am_Ca X d 5020 [.ref o, a0] st (am_af am_m4007 18 [v0] sk (fun pc lc sk st => am_g d X am_m4007 pc lc sk st Q) Q)) := am_gu.trans rfl
theorem u4007_21 {x : Nat} : am_g d X am_m4007 21 [.ref x] sk st Q = am_g d X am_m4007 22 [.ref x] (.ref x :: sk) st Q := am_gu.trans rfl
theorem u4007_22 {v0 : Value} : am_g d X am_m4007 22 [v0] sk st Q = am_gt 128 25 [v0] sk st (fun pc lc sk st => am_g d X am_m4007 pc lc sk st Q) := am_gu.trans rfl
theorem u4007_25 {v0 : Value} : am_g d X am_m4007 25 [v0] sk st Q = am_gt 170 28 [v0] sk st (fun pc lc sk st => am_g d X am_m4007 pc lc sk st Q) := am_gu.trans rfl
theorem u4007_28 {v0 : Value} {x : Int32} : am_g d X am_m4007 28 [v0] [.int x] st Q = Q (.inl (some (.int x))) st := am_gu.trans rfl
set_option maxRecDepth 100000 in
theorem of_4008 : am_of 4008 = some am_m4008 := rfl
theorem c4008 {z} {P : am_Q} : am_Ca X (d + 1) 4008 [.ref z] st P = am_g d X am_m4008 0 [.ref z] [] st P := am_cg of_4008 (by show 1 ≤ 1; decide)
theorem hd_4008 : am_hd am_m4008 = [] := rfl
theorem u4008_0 {x : Nat} : am_g d X am_m4008 0 [.ref x] sk st Q = am_g d X am_m4008 1 [.ref x] (.ref x :: sk) st Q := am_gu.trans rfl
theorem u4008_1 {v0 : Value} : am_g d X am_m4008 1 [v0] sk st Q = am_gt 128 4 [v0] sk st (fun pc lc sk st => am_g d X am_m4008 pc lc sk st Q) := am_gu.trans rfl
theorem u4008_4 {v0 : Value} : am_g d X am_m4008 4 [v0] sk st Q = am_gt 170 7 [v0] sk st (fun pc lc sk st => am_g d X am_m4008 pc lc sk st Q) := am_gu.trans rfl
theorem u4008_7 {v0 : Value} {x : Int32} : am_g d X am_m4008 7 [v0] (.int x :: sk) st Q = (if decide (x = 0) = true then am_g d X am_m4008 20 [v0] sk st Q else am_g d X am_m4008 10 [v0] sk st Q) := am_gu.trans rfl
theorem u4008_10 {x : Nat} : am_g d X am_m4008 10 [.ref x] sk st Q = am_g d X am_m4008 11 [.ref x] (.ref x :: sk) st Q := am_gu.trans rfl
theorem u4008_11 {v0 : Value} : am_g d X am_m4008 11 [v0] sk st Q = am_gt 128 14 [v0] sk st (fun pc lc sk st => am_g d X am_m4008 pc lc sk st Q) := am_gu.trans rfl
theorem u4008_14 {v0 : Value} : am_g d X am_m4008 14 [v0] sk st Q = am_gt 168 17 [v0] sk st (fun pc lc sk st => am_g d X am_m4008 pc lc sk st Q) := am_gu.trans rfl
theorem u4008_17 {v0 : Value} {x : Int32} : am_g d X am_m4008 17 [v0] (.int x :: sk) st Q = (if decide (x = 0) = true then am_g d X am_m4008 22 [v0] sk st Q else am_g d X am_m4008 20 [v0] sk st Q) := am_gu.trans rfl
theorem u4008_20 {v0 : Value} : am_g d X am_m4008 20 [v0] sk st Q = am_g d X am_m4008 21 [v0] (.int (am_i 0) :: sk) st Q := am_gu.trans rfl
theorem u4008_21 {v0 : Value} {x : Int32} : am_g d X am_m4008 21 [v0] [.int x] st Q = ((x = 0 ∨ x = 1) ∧ Q (.inl (some (.int x))) st) := am_gu.trans rfl
theorem u4008_22 {x : Nat} : am_g d X am_m4008 22 [.ref x] sk st Q = am_g d X am_m4008 23 [.ref x] (.ref x :: sk) st Q := am_gu.trans rfl
theorem u4008_23 {v0 : Value} : am_g d X am_m4008 23 [v0] (.ref o :: sk) st Q = ((am_ob st o 4 ∧ sk.length ≤ 5) ∧ am_Ca X d 4029 [.ref o] st (am_af am_m4008 23 [v0] sk (fun pc lc sk st => am_g d X am_m4008 pc lc sk st Q) Q)) := am_gu.trans rfl
theorem u4008_26 {x : Nat} : am_g d X am_m4008 26 [.ref x] sk st Q = am_g d X am_m4008 27 [.ref x] (.ref x :: sk) st Q := am_gu.trans rfl
theorem u4008_27 {v0 : Value} : am_g d X am_m4008 27 [v0] sk st Q = am_gt 130 30 [v0] sk st (fun pc lc sk st => am_g d X am_m4008 pc lc sk st Q) := am_gu.trans rfl
theorem u4008_30 {v0 : Value} : am_g d X am_m4008 30 [v0] sk st Q = am_gt 5 33 [v0] sk st (fun pc lc sk st => am_g d X am_m4008 pc lc sk st Q) := am_gu.trans rfl
theorem u4008_33 {v0 : Value} {x : Int32} : am_g d X am_m4008 33 [v0] (.int x :: sk) st Q = (if decide (¬ x = 0) = true then am_g d X am_m4008 40 [v0] sk st Q else am_g d X am_m4008 36 [v0] sk st Q) := am_gu.trans rfl
theorem u4008_36 {v0 : Value} : am_g d X am_m4008 36 [v0] sk st Q = am_g d X am_m4008 37 [v0] (.int (am_i 1) :: sk) st Q := am_gu.trans rfl
theorem u4008_37 {v0 : Value} : am_g d X am_m4008 37 [v0] sk st Q = am_g d X am_m4008 41 [v0] sk st Q := am_gu.trans rfl
theorem u4008_40 {v0 : Value} : am_g d X am_m4008 40 [v0] sk st Q = am_g d X am_m4008 41 [v0] (.int (am_i 0) :: sk) st Q := am_gu.trans rfl
theorem u4008_41 {v0 : Value} {x : Int32} : am_g d X am_m4008 41 [v0] [.int x] st Q = ((x = 0 ∨ x = 1) ∧ Q (.inl (some (.int x))) st) := am_gu.trans rfl
set_option maxRecDepth 100000 in
theorem of_4009 : am_of 4009 = some am_m4009 := rfl
theorem c4009 {z} {P : am_Q} : am_Ca X (d + 1) 4009 [.ref z] st P = am_g d X am_m4009 0 [.ref z] [] st P := am_cg of_4009 (by show 1 ≤ 1; decide)
theorem hd_4009 : am_hd am_m4009 = [] := rfl
theorem u4009_0 {x : Nat} : am_g d X am_m4009 0 [.ref x] sk st Q = am_g d X am_m4009 1 [.ref x] (.ref x :: sk) st Q := am_gu.trans rfl
theorem u4009_1 {v0 : Value} : am_g d X am_m4009 1 [v0] (.ref o :: sk) st Q = ((am_ob st o 4 ∧ sk.length ≤ 5) ∧ am_Ca X d 4029 [.ref o] st (am_af am_m4009 1 [v0] sk (fun pc lc sk st => am_g d X am_m4009 pc lc sk st Q) Q)) := am_gu.trans rfl
theorem u4009_4 {x : Nat} : am_g d X am_m4009 4 [.ref x] sk st Q = am_g d X am_m4009 5 [.ref x] (.ref x :: sk) st Q := am_gu.trans rfl
theorem u4009_5 {v0 : Value} : am_g d X am_m4009 5 [v0] (.ref o :: sk) st Q = ((am_ob st o 4 ∧ sk.length ≤ 5) ∧ am_Ca X d 4031 [.ref o] st (am_af am_m4009 5 [v0] sk (fun pc lc sk st => am_g d X am_m4009 pc lc sk st Q) Q)) := am_gu.trans rfl
theorem u4009_8 {x : Nat} : am_g d X am_m4009 8 [.ref x] sk st Q = am_g d X am_m4009 9 [.ref x] (.ref x :: sk) st Q := am_gu.trans rfl
theorem u4009_9 {v0 : Value} : am_g d X am_m4009 9 [v0] sk st Q = am_gt 128 12 [v0] sk st (fun pc lc sk st => am_g d X am_m4009 pc lc sk st Q) := am_gu.trans rfl
theorem u4009_12i {v0 : Value} {x : Int32} : am_g d X am_m4009 12 [v0] (.int x :: sk) st Q = am_g d X am_m4009 13 [v0] (.int x :: .int x :: sk) st Q := am_gu.trans rfl
theorem u4009_12r {v0 : Value} {x : Nat} : am_g d X am_m4009 12 [v0] (.ref x :: sk) st Q = am_g d X am_m4009 13 [v0] (.ref x :: .ref x :: sk) st Q := am_gu.trans rfl
theorem u4009_13 {v0 : Value} : am_g d X am_m4009 13 [v0] sk st Q = am_gt 170 16 [v0] sk st (fun pc lc sk st => am_g d X am_m4009 pc lc sk st Q) := am_gu.trans rfl
theorem u4009_16 {v0 : Value} : am_g d X am_m4009 16 [v0] sk st Q = am_g d X am_m4009 17 [v0] (.int (am_i 1) :: sk) st Q := am_gu.trans rfl
theorem u4009_17 {v0 : Value} {x : Int32} {y : Int32} : am_g d X am_m4009 17 [v0] (.int y :: .int x :: sk) st Q = am_g d X am_m4009 18 [v0] (.int (x - y) :: sk) st Q := am_gu.trans rfl
theorem u4009_18 {v0 : Value} : am_g d X am_m4009 18 [v0] sk st Q = am_pt 170 21 [v0] sk st (fun pc lc sk st => am_g d X am_m4009 pc lc sk st Q) := am_gu.trans rfl
theorem u4009_21 {x : Nat} : am_g d X am_m4009 21 [.ref x] sk st Q = am_g d X am_m4009 22 [.ref x] (.ref x :: sk) st Q := am_gu.trans rfl
theorem u4009_22 {v0 : Value} : am_g d X am_m4009 22 [v0] sk st Q = am_gt 130 25 [v0] sk st (fun pc lc sk st => am_g d X am_m4009 pc lc sk st Q) := am_gu.trans rfl
theorem u4009_25 {v0 : Value} : am_g d X am_m4009 25 [v0] sk st Q = am_gt 4 28 [v0] sk st (fun pc lc sk st => am_g d X am_m4009 pc lc sk st Q) := am_gu.trans rfl
theorem u4009_28 {v0 : Value} {x : Int32} : am_g d X am_m4009 28 [v0] [.int x] st Q = Q (.inl (some (.int x))) st := am_gu.trans rfl
set_option maxRecDepth 100000 in
theorem of_4010 : am_of 4010 = some am_m4010 := rfl
theorem c4010 {z} {P : am_Q} : am_Ca X (d + 1) 4010 [.ref z] st P = am_g d X am_m4010 0 [.ref z] [] st P := am_cg of_4010 (by show 1 ≤ 1; decide)
theorem hd_4010 : am_hd am_m4010 = [] := rfl
theorem u4010_0 {x : Nat} : am_g d X am_m4010 0 [.ref x] sk st Q = am_g d X am_m4010 1 [.ref x] (.ref x :: sk) st Q := am_gu.trans rfl
theorem u4010_1 {v0 : Value} : am_g d X am_m4010 1 [v0] sk st Q = am_gt 128 4 [v0] sk st (fun pc lc sk st => am_g d X am_m4010 pc lc sk st Q) := am_gu.trans rfl
theorem u4010_4 {v0 : Value} : am_g d X am_m4010 4 [v0] (.ref o :: sk) st Q = ((am_ob st o 5 ∧ sk.length ≤ 5) ∧ am_Ca X d 5018 [.ref o] st (am_af am_m4010 4 [v0] sk (fun pc lc sk st => am_g d X am_m4010 pc lc sk st Q) Q)) := am_gu.trans rfl
theorem u4010_7 {v0 : Value} : am_g d X am_m4010 7 [v0] sk st Q = am_g d X am_m4010 8 [v0] (.int (am_i (-1)) :: sk) st Q := am_gu.trans rfl
theorem u4010_8 {v0 : Value} {x : Int32} {y : Int32} : am_g d X am_m4010 8 [v0] (.int y :: .int x :: sk) st Q = (if decide (x = y) = true then am_g d X am_m4010 15 [v0] sk st Q else am_g d X am_m4010 11 [v0] sk st Q) := am_gu.trans rfl
theorem u4010_11 {v0 : Value} : am_g d X am_m4010 11 [v0] sk st Q = am_g d X am_m4010 12 [v0] (.int (am_i 1) :: sk) st Q := am_gu.trans rfl
theorem u4010_12 {v0 : Value} : am_g d X am_m4010 12 [v0] sk st Q = am_g d X am_m4010 16 [v0] sk st Q := am_gu.trans rfl
theorem u4010_15 {v0 : Value} : am_g d X am_m4010 15 [v0] sk st Q = am_g d X am_m4010 16 [v0] (.int (am_i 0) :: sk) st Q := am_gu.trans rfl
theorem u4010_16 {v0 : Value} {x : Int32} : am_g d X am_m4010 16 [v0] [.int x] st Q = ((x = 0 ∨ x = 1) ∧ Q (.inl (some (.int x))) st) := am_gu.trans rfl
set_option maxRecDepth 100000 in
theorem of_4011 : am_of 4011 = some am_m4011 := rfl
theorem c4011 {z} {P : am_Q} : am_Ca X (d + 1) 4011 [.ref z] st P = am_g d X am_m4011 0 [.ref z, am_u] [] st P := am_cg of_4011 (by show 1 ≤ 2; decide)
theorem hd_4011 : am_hd am_m4011 = [] := rfl
theorem u4011_0 {v1 : Value} {x : Nat} : am_g d X am_m4011 0 [.ref x, v1] sk st Q = am_g d X am_m4011 1 [.ref x, v1] (.ref x :: sk) st Q := am_gu.trans rfl
theorem u4011_1 {v0 : Value} {v1 : Value} : am_g d X am_m4011 1 [v0, v1] sk st Q = am_gt 128 4 [v0, v1] sk st (fun pc lc sk st => am_g d X am_m4011 pc lc sk st Q) := am_gu.trans rfl
theorem u4011_4 {v0 : Value} {v1 : Value} : am_g d X am_m4011 4 [v0, v1] (.ref o :: sk) st Q = ((am_ob st o 5 ∧ sk.length ≤ 5) ∧ am_Ca X d 5018 [.ref o] st (am_af am_m4011 4 [v0, v1] sk (fun pc lc sk st => am_g d X am_m4011 pc lc sk st Q) Q)) := am_gu.trans rfl
theorem u4011_7 {v0 : Value} {v1 : Value} {x : Int32} : am_g d X am_m4011 7 [v0, v1] (.int x :: sk) st Q = am_g d X am_m4011 8 [am_kc v0, .int x] sk st Q := am_gu.trans (congrArg (fun l => am_g d X am_m4011 8 (List.set l 1 (.int x)) sk st Q) (kl_1 (l := [v1])))
theorem u4011_8 {v1 : Value} {x : Nat} : am_g d X am_m4011 8 [.ref x, v1] sk st Q = am_g d X am_m4011 9 [.ref x, v1] (.ref x :: sk) st Q := am_gu.trans rfl
theorem u4011_9 {v0 : Value} {v1 : Value} : am_g d X am_m4011 9 [v0, v1] sk st Q = am_gt 128 12 [v0, v1] sk st (fun pc lc sk st => am_g d X am_m4011 pc lc sk st Q) := am_gu.trans rfl
theorem u4011_12 {v0 : Value} {x : Int32} : am_g d X am_m4011 12 [v0, .int x] sk st Q = am_g d X am_m4011 13 [v0, .int x] (.int x :: sk) st Q := am_gu.trans rfl
theorem u4011_13 {v1 : Value} {x : Nat} : am_g d X am_m4011 13 [.ref x, v1] sk st Q = am_g d X am_m4011 14 [.ref x, v1] (.ref x :: sk) st Q := am_gu.trans rfl
theorem u4011_14 {v0 : Value} {v1 : Value} : am_g d X am_m4011 14 [v0, v1] sk st Q = am_gt 128 17 [v0, v1] sk st (fun pc lc sk st => am_g d X am_m4011 pc lc sk st Q) := am_gu.trans rfl
theorem u4011_17 {v0 : Value} {v1 : Value} : am_g d X am_m4011 17 [v0, v1] (.ref o :: sk) st Q = ((am_ob st o 5 ∧ sk.length ≤ 5) ∧ am_Ca X d 5016 [.ref o] st (am_af am_m4011 17 [v0, v1] sk (fun pc lc sk st => am_g d X am_m4011 pc lc sk st Q) Q)) := am_gu.trans rfl
theorem u4011_20 {a0 : Value} {a1 : Value} {v0 : Value} {v1 : Value} : am_g d X am_m4011 20 [v0, v1] (a1 :: a0 :: .ref o :: sk) st Q = ((am_ob st o 5 ∧ sk.length ≤ 5) ∧ am_Ca X d 5019 [.ref o, a0, a1] st (am_af am_m4011 20 [v0, v1] sk (fun pc lc sk st => am_g d X am_m4011 pc lc sk st Q) Q)) := am_gu.trans rfl
theorem u4011_23 {v0 : Value} {x : Int32} : am_g d X am_m4011 23 [v0, .int x] sk st Q = am_g d X am_m4011 24 [v0, .int x] (.int x :: sk) st Q := am_gu.trans rfl
theorem u4011_24 {v0 : Value} {v1 : Value} {x : Int32} : am_g d X am_m4011 24 [v0, v1] [.int x] st Q = Q (.inl (some (.int x))) st := am_gu.trans rfl
set_option maxRecDepth 100000 in
theorem of_4012 : am_of 4012 = some am_m4012 := rfl
theorem c4012 {z a0} {P : am_Q} : am_Ca X (d + 1) 4012 [.ref z, .int a0] st P = am_g d X am_m4012 0 [.ref z, .int a0] [] st P := am_cg of_4012 (by show 2 ≤ 2; decide)
theorem hd_4012 : am_hd am_m4012 = [] := rfl
theorem u4012_0 {v1 : Value} {x : Nat} : am_g d X am_m4012 0 [.ref x, v1] sk st Q = am_g d X am_m4012 1 [.ref x, v1] (.ref x :: sk) st Q := am_gu.trans rfl
theorem u4012_1 {v0 : Value} {v1 : Value} : am_g d X am_m4012 1 [v0, v1] sk st Q = am_gt 128 4 [v0, v1] sk st (fun pc lc sk st => am_g d X am_m4012 pc lc sk st Q) := am_gu.trans rfl
theorem u4012_4 {v0 : Value} {x : Int32} : am_g d X am_m4012 4 [v0, .int x] sk st Q = am_g d X am_m4012 5 [v0, .int x] (.int x :: sk) st Q := am_gu.trans rfl
theorem u4012_5 {a0 : Value} {v0 : Value} {v1 : Value} : am_g d X am_m4012 5 [v0, v1] (a0 :: .ref o :: sk) st Q = ((am_ob st o 5 ∧ sk.length ≤ 5) ∧ am_Ca X d 5014 [.ref o, a0] st (am_af am_m4012 5 [v0, v1] sk (fun pc lc sk st => am_g d X am_m4012 pc lc sk st Q) Q)) := am_gu.trans rfl
theorem u4012_8 {v0 : Value} {v1 : Value} {x : Int32} : am_g d X am_m4012 8 [v0, v1] (.int x :: sk) st Q = (if decide (x = 0) = true then am_g d X am_m4012 26 [v0, v1] sk st Q else am_g d X am_m4012 11 [v0, v1] sk st Q) := am_gu.trans rfl
theorem u4012_11 {v0 : Value} {x : Int32} : am_g d X am_m4012 11 [v0, .int x] sk st Q = am_g d X am_m4012 12 [v0, .int x] (.int x :: sk) st Q := am_gu.trans rfl
theorem u4012_12 {v1 : Value} {x : Nat} : am_g d X am_m4012 12 [.ref x, v1] sk st Q = am_g d X am_m4012 13 [.ref x, v1] (.ref x :: sk) st Q := am_gu.trans rfl
theorem u4012_13 {v0 : Value} {v1 : Value} : am_g d X am_m4012 13 [v0, v1] sk st Q = am_gt 128 16 [v0, v1] sk st (fun pc lc sk st => am_g d X am_m4012 pc lc sk st Q) := am_gu.trans rfl
theorem u4012_16 {v0 : Value} {v1 : Value} : am_g d X am_m4012 16 [v0, v1] sk st Q = am_gt 165 19 [v0, v1] sk st (fun pc lc sk st => am_g d X am_m4012 pc lc sk st Q) := am_gu.trans rfl
theorem u4012_19 {v0 : Value} {v1 : Value} {x : Int32} {y : Int32} : am_g d X am_m4012 19 [v0, v1] (.int y :: .int x :: sk) st Q = (if decide (x = y) = true then am_g d X am_m4012 26 [v0, v1] sk st Q else am_g d X am_m4012 22 [v0, v1] sk st Q) := am_gu.trans rfl
theorem u4012_22 {v0 : Value} {v1 : Value} : am_g d X am_m4012 22 [v0, v1] sk st Q = am_g d X am_m4012 23 [v0, v1] (.int (am_i 1) :: sk) st Q := am_gu.trans rfl
theorem u4012_23 {v0 : Value} {v1 : Value} : am_g d X am_m4012 23 [v0, v1] sk st Q = am_g d X am_m4012 27 [v0, v1] sk st Q := am_gu.trans rfl
theorem u4012_26 {v0 : Value} {v1 : Value} : am_g d X am_m4012 26 [v0, v1] sk st Q = am_g d X am_m4012 27 [v0, v1] (.int (am_i 0) :: sk) st Q := am_gu.trans rfl
theorem u4012_27 {v0 : Value} {v1 : Value} {x : Int32} : am_g d X am_m4012 27 [v0, v1] [.int x] st Q = ((x = 0 ∨ x = 1) ∧ Q (.inl (some (.int x))) st) := am_gu.trans rfl
set_option maxRecDepth 100000 in
theorem of_4013 : am_of 4013 = some am_m4013 := rfl
theorem c4013 {z a0} {P : am_Q} : am_Ca X (d + 1) 4013 [.ref z, .int a0] st P = am_g d X am_m4013 0 [.ref z, .int a0, am_u] [] st P := am_cg of_4013 (by show 2 ≤ 3; decide)
theorem hd_4013 : am_hd am_m4013 = [] := rfl
theorem u4013_0 {v1 : Value} {v2 : Value} {x : Nat} : am_g d X am_m4013 0 [.ref x, v1, v2] sk st Q = am_g d X am_m4013 1 [.ref x, v1, v2] (.ref x :: sk) st Q := am_gu.trans rfl
theorem u4013_1 {v0 : Value} {v1 : Value} {v2 : Value} : am_g d X am_m4013 1 [v0, v1, v2] sk st Q = am_gt 128 4 [v0, v1, v2] sk st (fun pc lc sk st => am_g d X am_m4013 pc lc sk st Q) := am_gu.trans rfl
theorem u4013_4 {v0 : Value} {v2 : Value} {x : Int32} : am_g d X am_m4013 4 [v0, .int x, v2] sk st Q = am_g d X am_m4013 5 [v0, .int x, v2] (.int x :: sk) st Q := am_gu.trans rfl
theorem u4013_5 {a0 : Value} {v0 : Value} {v1 : Value} {v2 : Value} : am_g d X am_m4013 5 [v0, v1, v2] (a0 :: .ref o :: sk) st Q = ((am_ob st o 5 ∧ sk.length ≤ 5) ∧ am_Ca X d 5015 [.ref o, a0] st (am_af am_m4013 5 [v0, v1, v2] sk (fun pc lc sk st => am_g d X am_m4013 pc lc sk st Q) Q)) := am_gu.trans rfl
theorem u4013_8 {v0 : Value} {v1 : Value} {v2 : Value} {x : Int32} : am_g d X am_m4013 8 [v0, v1, v2] (.int x :: sk) st Q = am_g d X am_m4013 9 [v0, am_kc v1, .int x] sk st Q := am_gu.trans (congrArg (fun l => am_g d X am_m4013 9 (List.set l 2 (.int x)) sk st Q) (kl_2 (l := [v2])))
theorem u4013_9 {v1 : Value} {v2 : Value} {x : Nat} : am_g d X am_m4013 9 [.ref x, v1, v2] sk st Q = am_g d X am_m4013 10 [.ref x, v1, v2] (.ref x :: sk) st Q := am_gu.trans rfl
theorem u4013_10 {v0 : Value} {v1 : Value} {v2 : Value} : am_g d X am_m4013 10 [v0, v1, v2] sk st Q = am_gt 128 13 [v0, v1, v2] sk st (fun pc lc sk st => am_g d X am_m4013 pc lc sk st Q) := am_gu.trans rfl
theorem u4013_13 {v0 : Value} {v2 : Value} {x : Int32} : am_g d X am_m4013 13 [v0, .int x, v2] sk st Q = am_g d X am_m4013 14 [v0, .int x, v2] (.int x :: sk) st Q := am_gu.trans rfl
theorem u4013_14 {v0 : Value} {v1 : Value} {v2 : Value} : am_g d X am_m4013 14 [v0, v1, v2] sk st Q = am_g d X am_m4013 15 [v0, v1, v2] (.int (am_i (-1)) :: sk) st Q := am_gu.trans rfl
theorem u4013_15 {a0 : Value} {a1 : Value} {v0 : Value} {v1 : Value} {v2 : Value} : am_g d X am_m4013 15 [v0, v1, v2] (a1 :: a0 :: .ref o :: sk) st Q = ((am_ob st o 5 ∧ sk.length ≤ 5) ∧ am_Ca X d 5019 [.ref o, a0, a1] st (am_af am_m4013 15 [v0, v1, v2] sk (fun pc lc sk st => am_g d X am_m4013 pc lc sk st Q) Q)) := am_gu.trans rfl
theorem u4013_18 {v0 : Value} {v1 : Value} {x : Int32} : am_g d X am_m4013 18 [v0, v1, .int x] sk st Q = am_g d X am_m4013 19 [v0, v1, .int x] (.int x :: sk) st Q := am_gu.trans rfl
theorem u4013_19 {v0 : Value} {v1 : Value} {v2 : Value} {x : Int32} : am_g d X am_m4013 19 [v0, v1, v2] [.int x] st Q = Q (.inl (some (.int x))) st := am_gu.trans rfl
set_option maxRecDepth 100000 in
theorem of_4014 : am_of 4014 = some am_m4014 := rfl
theorem c4014 {z a0} {P : am_Q} : am_Ca X (d + 1) 4014 [.ref z, .int a0] st P = am_g d X am_m4014 0 [.ref z, .int a0] [] st P := am_cg of_4014 (by show 2 ≤ 2; decide)
theorem hd_4014 : am_hd am_m4014 = [] := rfl
theorem u4014_0 {v1 : Value} {x : Nat} : am_g d X am_m4014 0 [.ref x, v1] sk st Q = am_g d X am_m4014 1 [.ref x, v1] (.ref x :: sk) st Q := am_gu.trans rfl
theorem u4014_1 {v0 : Value} {v1 : Value} : am_g d X am_m4014 1 [v0, v1] sk st Q = am_gt 128 4 [v0, v1] sk st (fun pc lc sk st => am_g d X am_m4014 pc lc sk st Q) := am_gu.trans rfl
theorem u4014_4 {v0 : Value} {x : Int32} : am_g d X am_m4014 4 [v0, .int x] sk st Q = am_g d X am_m4014 5 [v0, .int x] (.int x :: sk) st Q := am_gu.trans rfl
theorem u4014_5 {a0 : Value} {v0 : Value} {v1 : Value} : am_g d X am_m4014 5 [v0, v1] (a0 :: .ref o :: sk) st Q = ((am_ob st o 5 ∧ sk.length ≤ 5) ∧ am_Ca X d 5014 [.ref o, a0] st (am_af am_m4014 5 [v0, v1] sk (fun pc lc sk st => am_g d X am_m4014 pc lc sk st Q) Q)) := am_gu.trans rfl
theorem u4014_8 {v0 : Value} {v1 : Value} {x : Int32} : am_g d X am_m4014 8 [v0, v1] (.int x :: sk) st Q = (if decide (x = 0) = true then am_g d X am_m4014 36 [v0, v1] sk st Q else am_g d X am_m4014 11 [v0, v1] sk st Q) := am_gu.trans rfl
theorem u4014_11 {v0 : Value} {x : Int32} : am_g d X am_m4014 11 [v0, .int x] sk st Q = am_g d X am_m4014 12 [v0, .int x] (.int x :: sk) st Q := am_gu.trans rfl
theorem u4014_12 {v1 : Value} {x : Nat} : am_g d X am_m4014 12 [.ref x, v1] sk st Q = am_g d X am_m4014 13 [.ref x, v1] (.ref x :: sk) st Q := am_gu.trans rfl
theorem u4014_13 {v0 : Value} {v1 : Value} : am_g d X am_m4014 13 [v0, v1] sk st Q = am_gt 128 16 [v0, v1] sk st (fun pc lc sk st => am_g d X am_m4014 pc lc sk st Q) := am_gu.trans rfl
theorem u4014_16 {v0 : Value} {v1 : Value} : am_g d X am_m4014 16 [v0, v1] sk st Q = am_gt 165 19 [v0, v1] sk st (fun pc lc sk st => am_g d X am_m4014 pc lc sk st Q) := am_gu.trans rfl
theorem u4014_19 {v0 : Value} {v1 : Value} {x : Int32} {y : Int32} : am_g d X am_m4014 19 [v0, v1] (.int y :: .int x :: sk) st Q = (if decide (x = y) = true then am_g d X am_m4014 36 [v0, v1] sk st Q else am_g d X am_m4014 22 [v0, v1] sk st Q) := am_gu.trans rfl
theorem u4014_22 {v1 : Value} {x : Nat} : am_g d X am_m4014 22 [.ref x, v1] sk st Q = am_g d X am_m4014 23 [.ref x, v1] (.ref x :: sk) st Q := am_gu.trans rfl
theorem u4014_23 {v0 : Value} {v1 : Value} : am_g d X am_m4014 23 [v0, v1] sk st Q = am_gt 128 26 [v0, v1] sk st (fun pc lc sk st => am_g d X am_m4014 pc lc sk st Q) := am_gu.trans rfl
theorem u4014_26 {v0 : Value} {v1 : Value} : am_g d X am_m4014 26 [v0, v1] (.ref o :: sk) st Q = ((am_ob st o 5 ∧ sk.length ≤ 5) ∧ am_Ca X d 5026 [.ref o] st (am_af am_m4014 26 [v0, v1] sk (fun pc lc sk st => am_g d X am_m4014 pc lc sk st Q) Q)) := am_gu.trans rfl
theorem u4014_29 {v0 : Value} {v1 : Value} {x : Int32} : am_g d X am_m4014 29 [v0, v1] (.int x :: sk) st Q = (if decide (x = 0) = true then am_g d X am_m4014 36 [v0, v1] sk st Q else am_g d X am_m4014 32 [v0, v1] sk st Q) := am_gu.trans rfl
theorem u4014_32 {v0 : Value} {v1 : Value} : am_g d X am_m4014 32 [v0, v1] sk st Q = am_g d X am_m4014 33 [v0, v1] (.int (am_i 1) :: sk) st Q := am_gu.trans rfl
theorem u4014_33 {v0 : Value} {v1 : Value} : am_g d X am_m4014 33 [v0, v1] sk st Q = am_g d X am_m4014 37 [v0, v1] sk st Q := am_gu.trans rfl
theorem u4014_36 {v0 : Value} {v1 : Value} : am_g d X am_m4014 36 [v0, v1] sk st Q = am_g d X am_m4014 37 [v0, v1] (.int (am_i 0) :: sk) st Q := am_gu.trans rfl
theorem u4014_37 {v0 : Value} {v1 : Value} {x : Int32} : am_g d X am_m4014 37 [v0, v1] [.int x] st Q = ((x = 0 ∨ x = 1) ∧ Q (.inl (some (.int x))) st) := am_gu.trans rfl
set_option maxRecDepth 100000 in
theorem of_4015 : am_of 4015 = some am_m4015 := rfl
theorem c4015 {z a0} {P : am_Q} : am_Ca X (d + 1) 4015 [.ref z, .int a0] st P = am_g d X am_m4015 0 [.ref z, .int a0] [] st P := am_cg of_4015 (by show 2 ≤ 2; decide)
theorem hd_4015 : am_hd am_m4015 = [] := rfl
theorem u4015_0 {v1 : Value} {x : Nat} : am_g d X am_m4015 0 [.ref x, v1] sk st Q = am_g d X am_m4015 1 [.ref x, v1] (.ref x :: sk) st Q := am_gu.trans rfl
theorem u4015_1 {v0 : Value} {v1 : Value} : am_g d X am_m4015 1 [v0, v1] sk st Q = am_gt 128 4 [v0, v1] sk st (fun pc lc sk st => am_g d X am_m4015 pc lc sk st Q) := am_gu.trans rfl
theorem u4015_4 {v0 : Value} {x : Int32} : am_g d X am_m4015 4 [v0, .int x] sk st Q = am_g d X am_m4015 5 [v0, .int x] (.int x :: sk) st Q := am_gu.trans rfl
theorem u4015_5 {v0 : Value} {v1 : Value} : am_g d X am_m4015 5 [v0, v1] sk st Q = am_pt 165 8 [v0, v1] sk st (fun pc lc sk st => am_g d X am_m4015 pc lc sk st Q) := am_gu.trans rfl
theorem u4015_8 {v1 : Value} {x : Nat} : am_g d X am_m4015 8 [.ref x, v1] sk st Q = am_g d X am_m4015 9 [.ref x, v1] (.ref x :: sk) st Q := am_gu.trans rfl
theorem u4015_9 {v0 : Value} {v1 : Value} : am_g d X am_m4015 9 [v0, v1] sk st Q = am_gt 128 12 [v0, v1] sk st (fun pc lc sk st => am_g d X am_m4015 pc lc sk st Q) := am_gu.trans rfl
theorem u4015_12 {v1 : Value} {x : Nat} : am_g d X am_m4015 12 [.ref x, v1] sk st Q = am_g d X am_m4015 13 [.ref x, v1] (.ref x :: sk) st Q := am_gu.trans rfl
theorem u4015_13 {v0 : Value} {v1 : Value} : am_g d X am_m4015 13 [v0, v1] sk st Q = am_gt 128 16 [v0, v1] sk st (fun pc lc sk st => am_g d X am_m4015 pc lc sk st Q) := am_gu.trans rfl
theorem u4015_16 {v0 : Value} {v1 : Value} : am_g d X am_m4015 16 [v0, v1] (.ref o :: sk) st Q = ((am_ob st o 5 ∧ sk.length ≤ 5) ∧ am_Ca X d 5016 [.ref o] st (am_af am_m4015 16 [v0, v1] sk (fun pc lc sk st => am_g d X am_m4015 pc lc sk st Q) Q)) := am_gu.trans rfl
theorem u4015_19 {a0 : Value} {v0 : Value} {v1 : Value} : am_g d X am_m4015 19 [v0, v1] (a0 :: .ref o :: sk) st Q = ((am_ob st o 5 ∧ sk.length ≤ 5) ∧ am_Ca X d 5020 [.ref o, a0] st (am_af am_m4015 19 [v0, v1] sk (fun pc lc sk st => am_g d X am_m4015 pc lc sk st Q) Q)) := am_gu.trans rfl
theorem u4015_22 {v1 : Value} {x : Nat} : am_g d X am_m4015 22 [.ref x, v1] sk st Q = am_g d X am_m4015 23 [.ref x, v1] (.ref x :: sk) st Q := am_gu.trans rfl
theorem u4015_23 {v0 : Value} {v1 : Value} : am_g d X am_m4015 23 [v0, v1] sk st Q = am_gt 128 26 [v0, v1] sk st (fun pc lc sk st => am_g d X am_m4015 pc lc sk st Q) := am_gu.trans rfl
theorem u4015_26 {v0 : Value} {v1 : Value} : am_g d X am_m4015 26 [v0, v1] (.ref o :: sk) st Q = ((am_ob st o 5 ∧ sk.length ≤ 5) ∧ am_Ca X d 5016 [.ref o] st (am_af am_m4015 26 [v0, v1] sk (fun pc lc sk st => am_g d X am_m4015 pc lc sk st Q) Q)) := am_gu.trans rfl
theorem u4015_29 {v0 : Value} {v1 : Value} {x : Int32} : am_g d X am_m4015 29 [v0, v1] [.int x] st Q = Q (.inl (some (.int x))) st := am_gu.trans rfl
set_option maxRecDepth 100000 in
theorem of_4016 : am_of 4016 = some am_m4016 := rfl
theorem c4016 {z a0} {P : am_Q} : am_Ca X (d + 1) 4016 [.ref z, .int a0] st P = am_g d X am_m4016 0 [.ref z, .int a0] [] st P := am_cg of_4016 (by show 2 ≤ 2; decide)
theorem hd_4016 : am_hd am_m4016 = [] := rfl
theorem u4016_0 {v1 : Value} {x : Nat} : am_g d X am_m4016 0 [.ref x, v1] sk st Q = am_g d X am_m4016 1 [.ref x, v1] (.ref x :: sk) st Q := am_gu.trans rfl
theorem u4016_1 {v0 : Value} {x : Int32} : am_g d X am_m4016 1 [v0, .int x] sk st Q = am_g d X am_m4016 2 [v0, .int x] (.int x :: sk) st Q := am_gu.trans rfl
theorem u4016_2 {a0 : Value} {v0 : Value} {v1 : Value} : am_g d X am_m4016 2 [v0, v1] (a0 :: .ref o :: sk) st Q = ((am_ob st o 4 ∧ sk.length ≤ 5) ∧ am_Ca X d 4025 [.ref o, a0] st (am_af am_m4016 2 [v0, v1] sk (fun pc lc sk st => am_g d X am_m4016 pc lc sk st Q) Q)) := am_gu.trans rfl
theorem u4016_5 {v0 : Value} {v1 : Value} {x : Int32} : am_g d X am_m4016 5 [v0, v1] (.int x :: sk) st Q = (if decide (x = 0) = true then am_g d X am_m4016 37 [v0, v1] sk st Q else am_g d X am_m4016 8 [v0, v1] sk st Q) := am_gu.trans rfl
theorem u4016_8 {v1 : Value} {x : Nat} : am_g d X am_m4016 8 [.ref x, v1] sk st Q = am_g d X am_m4016 9 [.ref x, v1] (.ref x :: sk) st Q := am_gu.trans rfl
theorem u4016_9 {v1 : Value} {x : Nat} : am_g d X am_m4016 9 [.ref x, v1] sk st Q = am_g d X am_m4016 10 [.ref x, v1] (.ref x :: sk) st Q := am_gu.trans rfl
theorem u4016_10 {v0 : Value} {v1 : Value} : am_g d X am_m4016 10 [v0, v1] sk st Q = am_gt 128 13 [v0, v1] sk st (fun pc lc sk st => am_g d X am_m4016 pc lc sk st Q) := am_gu.trans rfl
theorem u4016_13 {v0 : Value} {x : Int32} : am_g d X am_m4016 13 [v0, .int x] sk st Q = am_g d X am_m4016 14 [v0, .int x] (.int x :: sk) st Q := am_gu.trans rfl
theorem u4016_14 {a0 : Value} {v0 : Value} {v1 : Value} : am_g d X am_m4016 14 [v0, v1] (a0 :: .ref o :: sk) st Q = ((am_ob st o 5 ∧ sk.length ≤ 5) ∧ am_Ca X d 5015 [.ref o, a0] st (am_af am_m4016 14 [v0, v1] sk (fun pc lc sk st => am_g d X am_m4016 pc lc sk st Q) Q)) := am_gu.trans rfl
theorem u4016_17 {a0 : Value} {v0 : Value} {v1 : Value} : am_g d X am_m4016 17 [v0, v1] (a0 :: .ref o :: sk) st Q = ((am_ob st o 4 ∧ sk.length ≤ 5) ∧ am_Ca X d 4026 [.ref o, a0] st (am_af am_m4016 17 [v0, v1] sk (fun pc lc sk st => am_g d X am_m4016 pc lc sk st Q) Q)) := am_gu.trans rfl
theorem u4016_20 {v0 : Value} {v1 : Value} {x : Int32} : am_g d X am_m4016 20 [v0, v1] (.int x :: sk) st Q = (if decide (¬ x = 0) = true then am_g d X am_m4016 33 [v0, v1] sk st Q else am_g d X am_m4016 23 [v0, v1] sk st Q) := am_gu.trans rfl
theorem u4016_23 {v1 : Value} {x : Nat} : am_g d X am_m4016 23 [.ref x, v1] sk st Q = am_g d X am_m4016 24 [.ref x, v1] (.ref x :: sk) st Q := am_gu.trans rfl
theorem u4016_24 {v0 : Value} {v1 : Value} : am_g d X am_m4016 24 [v0, v1] sk st Q = am_gt 128 27 [v0, v1] sk st (fun pc lc sk st => am_g d X am_m4016 pc lc sk st Q) := am_gu.trans rfl
theorem u4016_27 {v0 : Value} {v1 : Value} : am_g d X am_m4016 27 [v0, v1] (.ref o :: sk) st Q = ((am_ob st o 5 ∧ sk.length ≤ 5) ∧ am_Ca X d 5004 [.ref o] st (am_af am_m4016 27 [v0, v1] sk (fun pc lc sk st => am_g d X am_m4016 pc lc sk st Q) Q)) := am_gu.trans rfl
theorem u4016_30 {v0 : Value} {v1 : Value} {x : Int32} : am_g d X am_m4016 30 [v0, v1] (.int x :: sk) st Q = (if decide (x = 0) = true then am_g d X am_m4016 37 [v0, v1] sk st Q else am_g d X am_m4016 33 [v0, v1] sk st Q) := am_gu.trans rfl
theorem u4016_33 {v0 : Value} {v1 : Value} : am_g d X am_m4016 33 [v0, v1] sk st Q = am_g d X am_m4016 34 [v0, v1] (.int (am_i 1) :: sk) st Q := am_gu.trans rfl
theorem u4016_34 {v0 : Value} {v1 : Value} : am_g d X am_m4016 34 [v0, v1] sk st Q = am_g d X am_m4016 38 [v0, v1] sk st Q := am_gu.trans rfl
theorem u4016_37 {v0 : Value} {v1 : Value} : am_g d X am_m4016 37 [v0, v1] sk st Q = am_g d X am_m4016 38 [v0, v1] (.int (am_i 0) :: sk) st Q := am_gu.trans rfl
theorem u4016_38 {v0 : Value} {v1 : Value} {x : Int32} : am_g d X am_m4016 38 [v0, v1] [.int x] st Q = ((x = 0 ∨ x = 1) ∧ Q (.inl (some (.int x))) st) := am_gu.trans rfl
set_option maxRecDepth 100000 in
theorem of_4017 : am_of 4017 = some am_m4017 := rfl
theorem c4017 {z a0} {P : am_Q} : am_Ca X (d + 1) 4017 [.ref z, .int a0] st P = am_g d X am_m4017 0 [.ref z, .int a0, am_u] [] st P := am_cg of_4017 (by show 2 ≤ 3; decide)
theorem hd_4017 : am_hd am_m4017 = [] := rfl
theorem u4017_0 {v1 : Value} {v2 : Value} {x : Nat} : am_g d X am_m4017 0 [.ref x, v1, v2] sk st Q = am_g d X am_m4017 1 [.ref x, v1, v2] (.ref x :: sk) st Q := am_gu.trans rfl
theorem u4017_1 {v0 : Value} {v1 : Value} {v2 : Value} : am_g d X am_m4017 1 [v0, v1, v2] sk st Q = am_gt 128 4 [v0, v1, v2] sk st (fun pc lc sk st => am_g d X am_m4017 pc lc sk st Q) := am_gu.trans rfl
theorem u4017_4 {v0 : Value} {v2 : Value} {x : Int32} : am_g d X am_m4017 4 [v0, .int x, v2] sk st Q = am_g d X am_m4017 5 [v0, .int x, v2] (.int x :: sk) st Q := am_gu.trans rfl
theorem u4017_5 {a0 : Value} {v0 : Value} {v1 : Value} {v2 : Value} : am_g d X am_m4017 5 [v0, v1, v2] (a0 :: .ref o :: sk) st Q = ((am_ob st o 5 ∧ sk.length ≤ 5) ∧ am_Ca X d 5015 [.ref o, a0] st (am_af am_m4017 5 [v0, v1, v2] sk (fun pc lc sk st => am_g d X am_m4017 pc lc sk st Q) Q)) := am_gu.trans rfl
theorem u4017_8 {v0 : Value} {v1 : Value} {v2 : Value} {x : Int32} : am_g d X am_m4017 8 [v0, v1, v2] (.int x :: sk) st Q = am_g d X am_m4017 9 [v0, am_kc v1, .int x] sk st Q := am_gu.trans (congrArg (fun l => am_g d X am_m4017 9 (List.set l 2 (.int x)) sk st Q) (kl_2 (l := [v2])))
theorem u4017_9 {v1 : Value} {v2 : Value} {x : Nat} : am_g d X am_m4017 9 [.ref x, v1, v2] sk st Q = am_g d X am_m4017 10 [.ref x, v1, v2] (.ref x :: sk) st Q := am_gu.trans rfl
theorem u4017_10 {v0 : Value} {v1 : Value} {x : Int32} : am_g d X am_m4017 10 [v0, v1, .int x] sk st Q = am_g d X am_m4017 11 [v0, v1, .int x] (.int x :: sk) st Q := am_gu.trans rfl
theorem u4017_11 {a0 : Value} {v0 : Value} {v1 : Value} {v2 : Value} : am_g d X am_m4017 11 [v0, v1, v2] (a0 :: .ref o :: sk) st Q = ((am_ob st o 4 ∧ sk.length ≤ 5) ∧ am_Ca X d 4026 [.ref o, a0] st (am_af am_m4017 11 [v0, v1, v2] sk (fun pc lc sk st => am_g d X am_m4017 pc lc sk st Q) Q)) := am_gu.trans rfl
theorem u4017_14 {v0 : Value} {v1 : Value} {v2 : Value} {x : Int32} : am_g d X am_m4017 14 [v0, v1, v2] (.int x :: sk) st Q = (if decide (x = 0) = true then am_g d X am_m4017 27 [v0, v1, v2] sk st Q else am_g d X am_m4017 17 [v0, v1, v2] sk st Q) := am_gu.trans rfl
theorem u4017_17 {v1 : Value} {v2 : Value} {x : Nat} : am_g d X am_m4017 17 [.ref x, v1, v2] sk st Q = am_g d X am_m4017 18 [.ref x, v1, v2] (.ref x :: sk) st Q := am_gu.trans rfl
theorem u4017_18 {v0 : Value} {v1 : Value} {v2 : Value} : am_g d X am_m4017 18 [v0, v1, v2] sk st Q = am_gt 128 21 [v0, v1, v2] sk st (fun pc lc sk st => am_g d X am_m4017 pc lc sk st Q) := am_gu.trans rfl
theorem u4017_21 {v0 : Value} {v1 : Value} {x : Int32} : am_g d X am_m4017 21 [v0, v1, .int x] sk st Q = am_g d X am_m4017 22 [v0, v1, .int x] (.int x :: sk) st Q := am_gu.trans rfl
theorem u4017_22 {a0 : Value} {v0 : Value} {v1 : Value} {v2 : Value} : am_g d X am_m4017 22 [v0, v1, v2] (a0 :: .ref o :: sk) st Q = ((am_ob st o 5 ∧ sk.length ≤ 5) ∧ am_Ca X d 5020 [.ref o, a0] st (am_af am_m4017 22 [v0, v1, v2] sk (fun pc lc sk st => am_g d X am_m4017 pc lc sk st Q) Q)) := am_gu.trans rfl
theorem u4017_25 {v0 : Value} {v1 : Value} {v2 : Value} : am_g d X am_m4017 25 [v0, v1, v2] sk st Q = am_g d X am_m4017 26 [v0, v1, v2] (.int (am_i 0) :: sk) st Q := am_gu.trans rfl
theorem u4017_26 {v0 : Value} {v1 : Value} {v2 : Value} {x : Int32} : am_g d X am_m4017 26 [v0, v1, v2] [.int x] st Q = Q (.inl (some (.int x))) st := am_gu.trans rfl
theorem u4017_27 {v1 : Value} {v2 : Value} {x : Nat} : am_g d X am_m4017 27 [.ref x, v1, v2] sk st Q = am_g d X am_m4017 28 [.ref x, v1, v2] (.ref x :: sk) st Q := am_gu.trans rfl
theorem u4017_28 {v0 : Value} {v1 : Value} {x : Int32} : am_g d X am_m4017 28 [v0, v1, .int x] sk st Q = am_g d X am_m4017 29 [v0, v1, .int x] (.int x :: sk) st Q := am_gu.trans rfl
theorem u4017_29 {a0 : Value} {v0 : Value} {v1 : Value} {v2 : Value} : am_g d X am_m4017 29 [v0, v1, v2] (a0 :: .ref o :: sk) st Q = ((am_ob st o 4 ∧ sk.length ≤ 5) ∧ am_Ca X d 4027 [.ref o, a0] st (am_af am_m4017 29 [v0, v1, v2] sk (fun pc lc sk st => am_g d X am_m4017 pc lc sk st Q) Q)) := am_gu.trans rfl
theorem u4017_32 {v1 : Value} {v2 : Value} {x : Nat} : am_g d X am_m4017 32 [.ref x, v1, v2] sk st Q = am_g d X am_m4017 33 [.ref x, v1, v2] (.ref x :: sk) st Q := am_gu.trans rfl
theorem u4017_33 {v0 : Value} {v1 : Value} {v2 : Value} : am_g d X am_m4017 33 [v0, v1, v2] sk st Q = am_g d X am_m4017 34 [v0, v1, v2] (.int (am_i 1) :: sk) st Q := am_gu.trans rfl
theorem u4017_34 {v0 : Value} {v1 : Value} {x : Int32} : am_g d X am_m4017 34 [v0, v1, .int x] sk st Q = am_g d X am_m4017 35 [v0, v1, .int x] (.int x :: sk) st Q := am_gu.trans rfl
theorem u4017_35 {a0 : Value} {a1 : Value} {v0 : Value} {v1 : Value} {v2 : Value} : am_g d X am_m4017 35 [v0, v1, v2] (a1 :: a0 :: .ref o :: sk) st Q = ((am_ob st o 4 ∧ sk.length ≤ 5) ∧ am_Ca X d 4032 [.ref o, a0, a1] st (am_af am_m4017 35 [v0, v1, v2] sk (fun pc lc sk st => am_g d X am_m4017 pc lc sk st Q) Q)) := am_gu.trans rfl
theorem u4017_38 {v0 : Value} {v1 : Value} {v2 : Value} {x : Int32} : am_g d X am_m4017 38 [v0, v1, v2] [.int x] st Q = Q (.inl (some (.int x))) st := am_gu.trans rfl
set_option maxRecDepth 100000 in
theorem of_4018 : am_of 4018 = some am_m4018 := rfl
theorem c4018 {z a0 a1} {P : am_Q} : am_Ca X (d + 1) 4018 [.ref z, .int a0, .int a1] st P = am_g d X am_m4018 0 [.ref z, .int a0, .int a1] [] st P := am_cg of_4018 (by show 3 ≤ 3; decide)
theorem hd_4018 : am_hd am_m4018 = [] := rfl
theorem u4018_0 {v1 : Value} {v2 : Value} {x : Nat} : am_g d X am_m4018 0 [.ref x, v1, v2] sk st Q = am_g d X am_m4018 1 [.ref x, v1, v2] (.ref x :: sk) st Q := am_gu.trans rfl
theorem u4018_1 {v0 : Value} {v1 : Value} {v2 : Value} : am_g d X am_m4018 1 [v0, v1, v2] sk st Q = am_gt 128 4 [v0, v1, v2] sk st (fun pc lc sk st => am_g d X am_m4018 pc lc sk st Q) := am_gu.trans rfl
theorem u4018_4 {v0 : Value} {v2 : Value} {x : Int32} : am_g d X am_m4018 4 [v0, .int x, v2] sk st Q = am_g d X am_m4018 5 [v0, .int x, v2] (.int x :: sk) st Q := am_gu.trans rfl
theorem u4018_5 {a0 : Value} {v0 : Value} {v1 : Value} {v2 : Value} : am_g d X am_m4018 5 [v0, v1, v2] (a0 :: .ref o :: sk) st Q = ((am_ob st o 5 ∧ sk.length ≤ 5) ∧ am_Ca X d 5003 [.ref o, a0] st (am_af am_m4018 5 [v0, v1, v2] sk (fun pc lc sk st => am_g d X am_m4018 pc lc sk st Q) Q)) := am_gu.trans rfl
theorem u4018_8 {v0 : Value} {v1 : Value} {v2 : Value} {x : Int32} : am_g d X am_m4018 8 [v0, v1, v2] (.int x :: sk) st Q = (if decide (x = 0) = true then am_g d X am_m4018 35 [v0, v1, v2] sk st Q else am_g d X am_m4018 11 [v0, v1, v2] sk st Q) := am_gu.trans rfl
theorem u4018_11 {v0 : Value} {v2 : Value} {x : Int32} : am_g d X am_m4018 11 [v0, .int x, v2] sk st Q = am_g d X am_m4018 12 [v0, .int x, v2] (.int x :: sk) st Q := am_gu.trans rfl
theorem u4018_12 {v0 : Value} {v1 : Value} {v2 : Value} {x : Int32} : am_g d X am_m4018 12 [v0, v1, v2] (.int x :: sk) st Q = (if decide (x = 0) = true then am_g d X am_m4018 35 [v0, v1, v2] sk st Q else am_g d X am_m4018 15 [v0, v1, v2] sk st Q) := am_gu.trans rfl
theorem u4018_15 {v1 : Value} {v2 : Value} {x : Nat} : am_g d X am_m4018 15 [.ref x, v1, v2] sk st Q = am_g d X am_m4018 16 [.ref x, v1, v2] (.ref x :: sk) st Q := am_gu.trans rfl
theorem u4018_16 {v0 : Value} {v1 : Value} {v2 : Value} : am_g d X am_m4018 16 [v0, v1, v2] sk st Q = am_gt 128 19 [v0, v1, v2] sk st (fun pc lc sk st => am_g d X am_m4018 pc lc sk st Q) := am_gu.trans rfl
theorem u4018_19 {v0 : Value} {v1 : Value} {v2 : Value} : am_g d X am_m4018 19 [v0, v1, v2] (.ref o :: sk) st Q = ((am_ob st o 5 ∧ sk.length ≤ 5) ∧ am_Ca X d 5026 [.ref o] st (am_af am_m4018 19 [v0, v1, v2] sk (fun pc lc sk st => am_g d X am_m4018 pc lc sk st Q) Q)) := am_gu.trans rfl
theorem u4018_22 {v0 : Value} {v1 : Value} {v2 : Value} {x : Int32} : am_g d X am_m4018 22 [v0, v1, v2] (.int x :: sk) st Q = (if decide (x = 0) = true then am_g d X am_m4018 35 [v0, v1, v2] sk st Q else am_g d X am_m4018 25 [v0, v1, v2] sk st Q) := am_gu.trans rfl
theorem u4018_25 {v1 : Value} {v2 : Value} {x : Nat} : am_g d X am_m4018 25 [.ref x, v1, v2] sk st Q = am_g d X am_m4018 26 [.ref x, v1, v2] (.ref x :: sk) st Q := am_gu.trans rfl
theorem u4018_26 {v0 : Value} {v1 : Value} {v2 : Value} : am_g d X am_m4018 26 [v0, v1, v2] sk st Q = am_gt 128 29 [v0, v1, v2] sk st (fun pc lc sk st => am_g d X am_m4018 pc lc sk st Q) := am_gu.trans rfl
theorem u4018_29 {v0 : Value} {v1 : Value} {v2 : Value} : am_g d X am_m4018 29 [v0, v1, v2] (.ref o :: sk) st Q = ((am_ob st o 5 ∧ sk.length ≤ 5) ∧ am_Ca X d 5004 [.ref o] st (am_af am_m4018 29 [v0, v1, v2] sk (fun pc lc sk st => am_g d X am_m4018 pc lc sk st Q) Q)) := am_gu.trans rfl
theorem u4018_32 {v0 : Value} {v1 : Value} {v2 : Value} {x : Int32} : am_g d X am_m4018 32 [v0, v1, v2] (.int x :: sk) st Q = (if decide (¬ x = 0) = true then am_g d X am_m4018 37 [v0, v1, v2] sk st Q else am_g d X am_m4018 35 [v0, v1, v2] sk st Q) := am_gu.trans rfl
theorem u4018_35 {v0 : Value} {v1 : Value} {v2 : Value} : am_g d X am_m4018 35 [v0, v1, v2] sk st Q = am_g d X am_m4018 36 [v0, v1, v2] (.int (am_i 0) :: sk) st Q := am_gu.trans rfl
theorem u4018_36 {v0 : Value} {v1 : Value} {v2 : Value} {x : Int32} : am_g d X am_m4018 36 [v0, v1, v2] [.int x] st Q = ((x = 0 ∨ x = 1) ∧ Q (.inl (some (.int x))) st) := am_gu.trans rfl
theorem u4018_37 {v1 : Value} {v2 : Value} {x : Nat} : am_g d X am_m4018 37 [.ref x, v1, v2] sk st Q = am_g d X am_m4018 38 [.ref x, v1, v2] (.ref x :: sk) st Q := am_gu.trans rfl
theorem u4018_38 {v0 : Value} {v2 : Value} {x : Int32} : am_g d X am_m4018 38 [v0, .int x, v2] sk st Q = am_g d X am_m4018 39 [v0, .int x, v2] (.int x :: sk) st Q := am_gu.trans rfl
theorem u4018_39 {v0 : Value} {v1 : Value} {x : Int32} : am_g d X am_m4018 39 [v0, v1, .int x] sk st Q = am_g d X am_m4018 40 [v0, v1, .int x] (.int x :: sk) st Q := am_gu.trans rfl
theorem u4018_40 {a0 : Value} {a1 : Value} {v0 : Value} {v1 : Value} {v2 : Value} : am_g d X am_m4018 40 [v0, v1, v2] (a1 :: a0 :: .ref o :: sk) st Q = ((am_ob st o 4 ∧ sk.length ≤ 5) ∧ am_Ca X d 4028 [.ref o, a0, a1] st (am_af am_m4018 40 [v0, v1, v2] sk (fun pc lc sk st => am_g d X am_m4018 pc lc sk st Q) Q)) := am_gu.trans rfl
theorem u4018_43 {v1 : Value} {v2 : Value} {x : Nat} : am_g d X am_m4018 43 [.ref x, v1, v2] sk st Q = am_g d X am_m4018 44 [.ref x, v1, v2] (.ref x :: sk) st Q := am_gu.trans rfl
theorem u4018_44 {v0 : Value} {v1 : Value} {v2 : Value} : am_g d X am_m4018 44 [v0, v1, v2] sk st Q = am_gt 130 47 [v0, v1, v2] sk st (fun pc lc sk st => am_g d X am_m4018 pc lc sk st Q) := am_gu.trans rfl
theorem u4018_47 {v0 : Value} {v1 : Value} {v2 : Value} : am_g d X am_m4018 47 [v0, v1, v2] (.ref o :: sk) st Q = ((am_ob st o 0 ∧ sk.length ≤ 5) ∧ am_Ca X d 3 [.ref o] st (am_af am_m4018 47 [v0, v1, v2] sk (fun pc lc sk st => am_g d X am_m4018 pc lc sk st Q) Q)) := am_gu.trans rfl
theorem u4018_50 {v0 : Value} {v1 : Value} {v2 : Value} {x : Int32} : am_g d X am_m4018 50 [v0, v1, v2] (.int x :: sk) st Q = (if decide (¬ x = 0) = true then am_g d X am_m4018 57 [v0, v1, v2] sk st Q else am_g d X am_m4018 53 [v0, v1, v2] sk st Q) := am_gu.trans rfl
theorem u4018_53 {v0 : Value} {v1 : Value} {v2 : Value} : am_g d X am_m4018 53 [v0, v1, v2] sk st Q = am_g d X am_m4018 54 [v0, v1, v2] (.int (am_i 1) :: sk) st Q := am_gu.trans rfl
theorem u4018_54 {v0 : Value} {v1 : Value} {v2 : Value} : am_g d X am_m4018 54 [v0, v1, v2] sk st Q = am_g d X am_m4018 58 [v0, v1, v2] sk st Q := am_gu.trans rfl
theorem u4018_57 {v0 : Value} {v1 : Value} {v2 : Value} : am_g d X am_m4018 57 [v0, v1, v2] sk st Q = am_g d X am_m4018 58 [v0, v1, v2] (.int (am_i 0) :: sk) st Q := am_gu.trans rfl
theorem u4018_58 {v0 : Value} {v1 : Value} {v2 : Value} {x : Int32} : am_g d X am_m4018 58 [v0, v1, v2] [.int x] st Q = ((x = 0 ∨ x = 1) ∧ Q (.inl (some (.int x))) st) := am_gu.trans rfl
set_option maxRecDepth 100000 in
theorem of_4019 : am_of 4019 = some am_m4019 := rfl
theorem c4019 {z a0 a1} {P : am_Q} : am_Ca X (d + 1) 4019 [.ref z, .int a0, .int a1] st P = am_g d X am_m4019 0 [.ref z, .int a0, .int a1] [] st P := am_cg of_4019 (by show 3 ≤ 3; decide)
theorem hd_4019 : am_hd am_m4019 = [] := rfl
theorem u4019_0 {v1 : Value} {v2 : Value} {x : Nat} : am_g d X am_m4019 0 [.ref x, v1, v2] sk st Q = am_g d X am_m4019 1 [.ref x, v1, v2] (.ref x :: sk) st Q := am_gu.trans rfl
theorem u4019_1 {v0 : Value} {v2 : Value} {x : Int32} : am_g d X am_m4019 1 [v0, .int x, v2] sk st Q = am_g d X am_m4019 2 [v0, .int x, v2] (.int x :: sk) st Q := am_gu.trans rfl
theorem u4019_2 {v0 : Value} {v1 : Value} {x : Int32} : am_g d X am_m4019 2 [v0, v1, .int x] sk st Q = am_g d X am_m4019 3 [v0, v1, .int x] (.int x :: sk) st Q := am_gu.trans rfl
theorem u4019_3 {a0 : Value} {a1 : Value} {v0 : Value} {v1 : Value} {v2 : Value} : am_g d X am_m4019 3 [v0, v1, v2] (a1 :: a0 :: .ref o :: sk) st Q = ((am_ob st o 4 ∧ sk.length ≤ 5) ∧ am_Ca X d 4028 [.ref o, a0, a1] st (am_af am_m4019 3 [v0, v1, v2] sk (fun pc lc sk st => am_g d X am_m4019 pc lc sk st Q) Q)) := am_gu.trans rfl
theorem u4019_6 {v1 : Value} {v2 : Value} {x : Nat} : am_g d X am_m4019 6 [.ref x, v1, v2] sk st Q = am_g d X am_m4019 7 [.ref x, v1, v2] (.ref x :: sk) st Q := am_gu.trans rfl
theorem u4019_7 {v0 : Value} {v1 : Value} {v2 : Value} : am_g d X am_m4019 7 [v0, v1, v2] sk st Q = am_g d X am_m4019 8 [v0, v1, v2] (.int (am_i 2) :: sk) st Q := am_gu.trans rfl
theorem u4019_8 {v0 : Value} {v1 : Value} {v2 : Value} : am_g d X am_m4019 8 [v0, v1, v2] sk st Q = am_g d X am_m4019 9 [v0, v1, v2] (.int (am_i (-1)) :: sk) st Q := am_gu.trans rfl
theorem u4019_9 {a0 : Value} {a1 : Value} {v0 : Value} {v1 : Value} {v2 : Value} : am_g d X am_m4019 9 [v0, v1, v2] (a1 :: a0 :: .ref o :: sk) st Q = ((am_ob st o 4 ∧ sk.length ≤ 5) ∧ am_Ca X d 4032 [.ref o, a0, a1] st (am_af am_m4019 9 [v0, v1, v2] sk (fun pc lc sk st => am_g d X am_m4019 pc lc sk st Q) Q)) := am_gu.trans rfl
theorem u4019_12 {v0 : Value} {v1 : Value} {v2 : Value} {x : Int32} : am_g d X am_m4019 12 [v0, v1, v2] [.int x] st Q = Q (.inl (some (.int x))) st := am_gu.trans rfl
set_option maxRecDepth 100000 in
theorem of_4020 : am_of 4020 = some am_m4020 := rfl
theorem c4020 {z a0} {P : am_Q} : am_Ca X (d + 1) 4020 [.ref z, .int a0] st P = am_g d X am_m4020 0 [.ref z, .int a0, am_u, am_u, am_u] [] st P := am_cg of_4020 (by show 2 ≤ 5; decide)
theorem hd_4020 : am_hd am_m4020 = [] := rfl
theorem u4020_0 {v1 : Value} {v2 : Value} {v3 : Value} {v4 : Value} {x : Nat} : am_g d X am_m4020 0 [.ref x, v1, v2, v3, v4] sk st Q = am_g d X am_m4020 1 [.ref x, v1, v2, v3, v4] (.ref x :: sk) st Q := am_gu.trans rfl
theorem u4020_1 {v0 : Value} {v2 : Value} {v3 : Value} {v4 : Value} {x : Int32} : am_g d X am_m4020 1 [v0, .int x, v2, v3, v4] sk st Q = am_g d X am_m4020 2 [v0, .int x, v2, v3, v4] (.int x :: sk) st Q := am_gu.trans rfl
theorem u4020_2 {a0 : Value} {v0 : Value} {v1 : Value} {v2 : Value} {v3 : Value} {v4 : Value} : am_g d X am_m4020 2 [v0, v1, v2, v3, v4] (a0 :: .ref o :: sk) st Q = ((am_ob st o 4 ∧ sk.length ≤ 5) ∧ am_Ca X d 4025 [.ref o, a0] st (am_af am_m4020 2 [v0, v1, v2, v3, v4] sk (fun pc lc sk st => am_g d X am_m4020 pc lc sk st Q) Q)) := am_gu.trans rfl
theorem u4020_5 {v0 : Value} {v1 : Value} {v2 : Value} {v3 : Value} {v4 : Value} {x : Int32} : am_g d X am_m4020 5 [v0, v1, v2, v3, v4] (.int x :: sk) st Q = (if decide (¬ x = 0) = true then am_g d X am_m4020 10 [v0, v1, v2, v3, v4] sk st Q else am_g d X am_m4020 8 [v0, v1, v2, v3, v4] sk st Q) := am_gu.trans rfl
theorem u4020_8 {v0 : Value} {v1 : Value} {v2 : Value} {v3 : Value} {v4 : Value} : am_g d X am_m4020 8 [v0, v1, v2, v3, v4] sk st Q = am_g d X am_m4020 9 [v0, v1, v2, v3, v4] (.int (am_i 0) :: sk) st Q := am_gu.trans rfl
theorem u4020_9 {v0 : Value} {v1 : Value} {v2 : Value} {v3 : Value} {v4 : Value} {x : Int32} : am_g d X am_m4020 9 [v0, v1, v2, v3, v4] [.int x] st Q = ((x = 0 ∨ x = 1) ∧ Q (.inl (some (.int x))) st) := am_gu.trans rfl
theorem u4020_10 {v1 : Value} {v2 : Value} {v3 : Value} {v4 : Value} {x : Nat} : am_g d X am_m4020 10 [.ref x, v1, v2, v3, v4] sk st Q = am_g d X am_m4020 11 [.ref x, v1, v2, v3, v4] (.ref x :: sk) st Q := am_gu.trans rfl
theorem u4020_11 {v0 : Value} {v1 : Value} {v2 : Value} {v3 : Value} {v4 : Value} : am_g d X am_m4020 11 [v0, v1, v2, v3, v4] sk st Q = am_gt 128 14 [v0, v1, v2, v3, v4] sk st (fun pc lc sk st => am_g d X am_m4020 pc lc sk st Q) := am_gu.trans rfl
theorem u4020_14 {v0 : Value} {v2 : Value} {v3 : Value} {v4 : Value} {x : Int32} : am_g d X am_m4020 14 [v0, .int x, v2, v3, v4] sk st Q = am_g d X am_m4020 15 [v0, .int x, v2, v3, v4] (.int x :: sk) st Q := am_gu.trans rfl
theorem u4020_15 {a0 : Value} {v0 : Value} {v1 : Value} {v2 : Value} {v3 : Value} {v4 : Value} : am_g d X am_m4020 15 [v0, v1, v2, v3, v4] (a0 :: .ref o :: sk) st Q = ((am_ob st o 5 ∧ sk.length ≤ 5) ∧ am_Ca X d 5015 [.ref o, a0] st (am_af am_m4020 15 [v0, v1, v2, v3, v4] sk (fun pc lc sk st => am_g d X am_m4020 pc lc sk st Q) Q)) := am_gu.trans rfl
theorem u4020_18 {v0 : Value} {v1 : Value} {v2 : Value} {v3 : Value} {v4 : Value} {x : Int32} : am_g d X am_m4020 18 [v0, v1, v2, v3, v4] (.int x :: sk) st Q = am_g d X am_m4020 19 [v0, am_kc v1, .int x, v3, v4] sk st Q := am_gu.trans (congrArg (fun l => am_g d X am_m4020 19 (List.set l 2 (.int x)) sk st Q) (kl_2 (l := [v2, v3, v4])))
theorem u4020_19 {v1 : Value} {v2 : Value} {v3 : Value} {v4 : Value} {x : Nat} : am_g d X am_m4020 19 [.ref x, v1, v2, v3, v4] sk st Q = am_g d X am_m4020 20 [.ref x, v1, v2, v3, v4] (.ref x :: sk) st Q := am_gu.trans rfl
theorem u4020_20 {v0 : Value} {v1 : Value} {v2 : Value} {v3 : Value} {v4 : Value} : am_g d X am_m4020 20 [v0, v1, v2, v3, v4] sk st Q = am_gt 128 23 [v0, v1, v2, v3, v4] sk st (fun pc lc sk st => am_g d X am_m4020 pc lc sk st Q) := am_gu.trans rfl
theorem u4020_23 {v0 : Value} {v1 : Value} {v2 : Value} {v3 : Value} {v4 : Value} : am_g d X am_m4020 23 [v0, v1, v2, v3, v4] sk st Q = am_gt 160 26 [v0, v1, v2, v3, v4] sk st (fun pc lc sk st => am_g d X am_m4020 pc lc sk st Q) := am_gu.trans rfl
theorem u4020_26 {v0 : Value} {v1 : Value} {v2 : Value} {v3 : Value} {v4 : Value} {x : Int32} : am_g d X am_m4020 26 [v0, v1, v2, v3, v4] (.int x :: sk) st Q = am_g d X am_m4020 27 [v0, v1, am_kc v2, .int x, v4] sk st Q := am_gu.trans (congrArg (fun l => am_g d X am_m4020 27 (List.set l 3 (.int x)) sk st Q) (kl_3 (l := [v3, v4])))
theorem u4020_27 {v1 : Value} {v2 : Value} {v3 : Value} {v4 : Value} {x : Nat} : am_g d X am_m4020 27 [.ref x, v1, v2, v3, v4] sk st Q = am_g d X am_m4020 28 [.ref x, v1, v2, v3, v4] (.ref x :: sk) st Q := am_gu.trans rfl
theorem u4020_28 {v0 : Value} {v1 : Value} {v2 : Value} {v3 : Value} {v4 : Value} : am_g d X am_m4020 28 [v0, v1, v2, v3, v4] sk st Q = am_gt 129 31 [v0, v1, v2, v3, v4] sk st (fun pc lc sk st => am_g d X am_m4020 pc lc sk st Q) := am_gu.trans rfl
theorem u4020_31 {v1 : Value} {v2 : Value} {v3 : Value} {v4 : Value} {x : Nat} : am_g d X am_m4020 31 [.ref x, v1, v2, v3, v4] sk st Q = am_g d X am_m4020 32 [.ref x, v1, v2, v3, v4] (.ref x :: sk) st Q := am_gu.trans rfl
theorem u4020_32 {v0 : Value} {v1 : Value} {v2 : Value} {v3 : Value} {v4 : Value} : am_g d X am_m4020 32 [v0, v1, v2, v3, v4] sk st Q = am_gt 128 35 [v0, v1, v2, v3, v4] sk st (fun pc lc sk st => am_g d X am_m4020 pc lc sk st Q) := am_gu.trans rfl
theorem u4020_35 {v0 : Value} {v1 : Value} {v3 : Value} {v4 : Value} {x : Int32} : am_g d X am_m4020 35 [v0, v1, .int x, v3, v4] sk st Q = am_g d X am_m4020 36 [v0, v1, .int x, v3, v4] (.int x :: sk) st Q := am_gu.trans rfl
theorem u4020_36 {v1 : Value} {v2 : Value} {v3 : Value} {v4 : Value} {x : Nat} : am_g d X am_m4020 36 [.ref x, v1, v2, v3, v4] sk st Q = am_g d X am_m4020 37 [.ref x, v1, v2, v3, v4] (.ref x :: sk) st Q := am_gu.trans rfl
theorem u4020_37 {v0 : Value} {v1 : Value} {v2 : Value} {v3 : Value} {v4 : Value} : am_g d X am_m4020 37 [v0, v1, v2, v3, v4] sk st Q = am_gt 131 40 [v0, v1, v2, v3, v4] sk st (fun pc lc sk st => am_g d X am_m4020 pc lc sk st Q) := am_gu.trans rfl
theorem u4020_40 {a0 : Value} {a1 : Value} {a2 : Value} {v0 : Value} {v1 : Value} {v2 : Value} {v3 : Value} {v4 : Value} : am_g d X am_m4020 40 [v0, v1, v2, v3, v4] (a2 :: a1 :: a0 :: .ref o :: sk) st Q = ((am_ob st o 1 ∧ sk.length ≤ 5) ∧ am_Ca X d 1014 [.ref o, a0, a1, a2] st (am_af am_m4020 40 [v0, v1, v2, v3, v4] sk (fun pc lc sk st => am_g d X am_m4020 pc lc sk st Q) Q)) := am_gu.trans rfl
theorem u4020_43 {v1 : Value} {v2 : Value} {v3 : Value} {v4 : Value} {x : Nat} : am_g d X am_m4020 43 [.ref x, v1, v2, v3, v4] sk st Q = am_g d X am_m4020 44 [.ref x, v1, v2, v3, v4] (.ref x :: sk) st Q := am_gu.trans rfl
theorem u4020_44 {v0 : Value} {v1 : Value} {v2 : Value} {v3 : Value} {v4 : Value} : am_g d X am_m4020 44 [v0, v1, v2, v3, v4] sk st Q = am_gt 128 47 [v0, v1, v2, v3, v4] sk st (fun pc lc sk st => am_g d X am_m4020 pc lc sk st Q) := am_gu.trans rfl
theorem u4020_47 {v0 : Value} {v1 : Value} {v3 : Value} {v4 : Value} {x : Int32} : am_g d X am_m4020 47 [v0, v1, .int x, v3, v4] sk st Q = am_g d X am_m4020 48 [v0, v1, .int x, v3, v4] (.int x :: sk) st Q := am_gu.trans rfl
theorem u4020_48 {v1 : Value} {v2 : Value} {v3 : Value} {v4 : Value} {x : Nat} : am_g d X am_m4020 48 [.ref x, v1, v2, v3, v4] sk st Q = am_g d X am_m4020 49 [.ref x, v1, v2, v3, v4] (.ref x :: sk) st Q := am_gu.trans rfl
theorem u4020_49 {v0 : Value} {v1 : Value} {v2 : Value} {v3 : Value} {v4 : Value} : am_g d X am_m4020 49 [v0, v1, v2, v3, v4] sk st Q = am_gt 130 52 [v0, v1, v2, v3, v4] sk st (fun pc lc sk st => am_g d X am_m4020 pc lc sk st Q) := am_gu.trans rfl
theorem u4020_52 {v0 : Value} {v1 : Value} {v2 : Value} {v3 : Value} {v4 : Value} : am_g d X am_m4020 52 [v0, v1, v2, v3, v4] sk st Q = am_gt 2 55 [v0, v1, v2, v3, v4] sk st (fun pc lc sk st => am_g d X am_m4020 pc lc sk st Q) := am_gu.trans rfl
theorem u4020_55 {a0 : Value} {a1 : Value} {v0 : Value} {v1 : Value} {v2 : Value} {v3 : Value} {v4 : Value} : am_g d X am_m4020 55 [v0, v1, v2, v3, v4] (a1 :: a0 :: .ref o :: sk) st Q = ((am_ob st o 5 ∧ sk.length ≤ 5) ∧ am_Ca X d 5008 [.ref o, a0, a1] st (am_af am_m4020 55 [v0, v1, v2, v3, v4] sk (fun pc lc sk st => am_g d X am_m4020 pc lc sk st Q) Q)) := am_gu.trans rfl
theorem u4020_58 {v0 : Value} {v1 : Value} {v2 : Value} {v3 : Value} {v4 : Value} : am_g d X am_m4020 58 [v0, v1, v2, v3, v4] sk st Q = am_g d X am_m4020 59 [v0, v1, v2, v3, v4] (.int (am_i 0) :: sk) st Q := am_gu.trans rfl
theorem u4020_59 {v0 : Value} {v1 : Value} {v2 : Value} {v3 : Value} {v4 : Value} {x : Int32} : am_g d X am_m4020 59 [v0, v1, v2, v3, v4] (.int x :: sk) st Q = am_g d X am_m4020 61 [v0, v1, v2, am_kc v3, .int x] sk st Q := am_gu.trans (congrArg (fun l => am_g d X am_m4020 61 (List.set l 4 (.int x)) sk st Q) (kl_4 (l := [v4])))
theorem u4020_61 {v0 : Value} {v1 : Value} {v2 : Value} {v3 : Value} {x : Int32} : am_g d X am_m4020 61 [v0, v1, v2, v3, .int x] sk st Q = am_g d X am_m4020 63 [v0, v1, v2, v3, .int x] (.int x :: sk) st Q := am_gu.trans rfl
theorem u4020_63 {v0 : Value} {v1 : Value} {v2 : Value} {v3 : Value} {v4 : Value} : am_g d X am_m4020 63 [v0, v1, v2, v3, v4] sk st Q = am_g d X am_m4020 65 [v0, v1, v2, v3, v4] (.int (am_i 60) :: sk) st Q := am_gu.trans rfl
theorem u4020_65 {v0 : Value} {v1 : Value} {v2 : Value} {v3 : Value} {v4 : Value} {x : Int32} {y : Int32} : am_g d X am_m4020 65 [v0, v1, v2, v3, v4] (.int y :: .int x :: sk) st Q = (if decide (y ≤ x) = true then am_g d X am_m4020 136 [v0, v1, v2, v3, v4] sk st Q else am_g d X am_m4020 68 [v0, v1, v2, v3, v4] sk st Q) := am_gu.trans rfl
theorem u4020_68 {v1 : Value} {v2 : Value} {v3 : Value} {v4 : Value} {x : Nat} : am_g d X am_m4020 68 [.ref x, v1, v2, v3, v4] sk st Q = am_g d X am_m4020 69 [.ref x, v1, v2, v3, v4] (.ref x :: sk) st Q := am_gu.trans rfl
theorem u4020_69 {v0 : Value} {v1 : Value} {v2 : Value} {v3 : Value} {v4 : Value} : am_g d X am_m4020 69 [v0, v1, v2, v3, v4] sk st Q = am_gt 131 72 [v0, v1, v2, v3, v4] sk st (fun pc lc sk st => am_g d X am_m4020 pc lc sk st Q) := am_gu.trans rfl
theorem u4020_72 {v0 : Value} {v1 : Value} {v2 : Value} {v3 : Value} {x : Int32} : am_g d X am_m4020 72 [v0, v1, v2, v3, .int x] sk st Q = am_g d X am_m4020 74 [v0, v1, v2, v3, .int x] (.int x :: sk) st Q := am_gu.trans rfl
theorem u4020_74 {a0 : Value} {a1 : Value} {v0 : Value} {v1 : Value} {v2 : Value} {v3 : Value} {v4 : Value} : am_g d X am_m4020 74 [v0, v1, v2, v3, v4] (a1 :: a0 :: sk) st Q = (sk.length ≤ 4 ∧ am_Ca X d 1015 [a0, a1] st (am_af am_m4020 74 [v0, v1, v2, v3, v4] sk (fun pc lc sk st => am_g d X am_m4020 pc lc sk st Q) Q)) := am_gu.trans (propext ⟨fun h => ⟨h.1.2, h.2⟩, fun h => ⟨⟨Nat.le_add_left _ _, h.1⟩, h.2⟩⟩)
theorem u4020_77 {v0 : Value} {v1 : Value} {v2 : Value} {v3 : Value} {v4 : Value} {x : Int32} : am_g d X am_m4020 77 [v0, v1, v2, v3, v4] (.int x :: sk) st Q = (if decide (x = 0) = true then am_g d X am_m4020 130 [v0, v1, v2, v3, v4] sk st Q else am_g d X am_m4020 80 [v0, v1, v2, v3, v4] sk st Q) := am_gu.trans rfl
theorem u4020_80 {v1 : Value} {v2 : Value} {v3 : Value} {v4 : Value} {x : Nat} : am_g d X am_m4020 80 [.ref x, v1, v2, v3, v4] sk st Q = am_g d X am_m4020 81 [.ref x, v1, v2, v3, v4] (.ref x :: sk) st Q := am_gu.trans rfl
theorem u4020_81 {v0 : Value} {v1 : Value} {v2 : Value} {v3 : Value} {x : Int32} : am_g d X am_m4020 81 [v0, v1, v2, v3, .int x] sk st Q = am_g d X am_m4020 83 [v0, v1, v2, v3, .int x] (.int x :: sk) st Q := am_gu.trans rfl
theorem u4020_83 {v0 : Value} {v1 : Value} {v2 : Value} {v3 : Value} {v4 : Value} : am_g d X am_m4020 83 [v0, v1, v2, v3, v4] sk st Q = am_g d X am_m4020 84 [v0, v1, v2, v3, v4] (.int (am_i 0) :: sk) st Q := am_gu.trans rfl
theorem u4020_84 {a0 : Value} {a1 : Value} {v0 : Value} {v1 : Value} {v2 : Value} {v3 : Value} {v4 : Value} : am_g d X am_m4020 84 [v0, v1, v2, v3, v4] (a1 :: a0 :: .ref o :: sk) st Q = ((am_ob st o 4 ∧ sk.length ≤ 5) ∧ am_Ca X d 4030 [.ref o, a0, a1] st (am_af am_m4020 84 [v0, v1, v2, v3, v4] sk (fun pc lc sk st => am_g d X am_m4020 pc lc sk st Q) Q)) := am_gu.trans rfl
theorem u4020_87 {v1 : Value} {v2 : Value} {v3 : Value} {v4 : Value} {x : Nat} : am_g d X am_m4020 87 [.ref x, v1, v2, v3, v4] sk st Q = am_g d X am_m4020 88 [.ref x, v1, v2, v3, v4] (.ref x :: sk) st Q := am_gu.trans rfl
theorem u4020_88 {v0 : Value} {v1 : Value} {v2 : Value} {v3 : Value} {v4 : Value} : am_g d X am_m4020 88 [v0, v1, v2, v3, v4] sk st Q = am_gt 130 91 [v0, v1, v2, v3, v4] sk st (fun pc lc sk st => am_g d X am_m4020 pc lc sk st Q) := am_gu.trans rfl
theorem u4020_91 {v0 : Value} {v1 : Value} {v2 : Value} {v3 : Value} {v4 : Value} : am_g d X am_m4020 91 [v0, v1, v2, v3, v4] (.ref o :: sk) st Q = ((am_ob st o 0 ∧ sk.length ≤ 5) ∧ am_Ca X d 2 [.ref o] st (am_af am_m4020 91 [v0, v1, v2, v3, v4] sk (fun pc lc sk st => am_g d X am_m4020 pc lc sk st Q) Q)) := am_gu.trans rfl
theorem u4020_94 {v0 : Value} {v1 : Value} {v2 : Value} {v4 : Value} {x : Int32} : am_g d X am_m4020 94 [v0, v1, v2, .int x, v4] sk st Q = am_g d X am_m4020 95 [v0, v1, v2, .int x, v4] (.int x :: sk) st Q := am_gu.trans rfl
theorem u4020_95 {v1 : Value} {v2 : Value} {v3 : Value} {v4 : Value} {x : Nat} : am_g d X am_m4020 95 [.ref x, v1, v2, v3, v4] sk st Q = am_g d X am_m4020 96 [.ref x, v1, v2, v3, v4] (.ref x :: sk) st Q := am_gu.trans rfl
theorem u4020_96 {v0 : Value} {v1 : Value} {v2 : Value} {v3 : Value} {v4 : Value} : am_g d X am_m4020 96 [v0, v1, v2, v3, v4] sk st Q = am_gt 130 99 [v0, v1, v2, v3, v4] sk st (fun pc lc sk st => am_g d X am_m4020 pc lc sk st Q) := am_gu.trans rfl
theorem u4020_99 {v0 : Value} {v1 : Value} {v2 : Value} {v3 : Value} {v4 : Value} : am_g d X am_m4020 99 [v0, v1, v2, v3, v4] sk st Q = am_gt 4 102 [v0, v1, v2, v3, v4] sk st (fun pc lc sk st => am_g d X am_m4020 pc lc sk st Q) := am_gu.trans rfl
theorem u4020_102 {v0 : Value} {v1 : Value} {v2 : Value} {v3 : Value} {v4 : Value} {x : Int32} : am_g d X am_m4020 102 [v0, v1, v2, v3, v4] (.int x :: sk) st Q = (if decide (x ≤ 0) = true then am_g d X am_m4020 109 [v0, v1, v2, v3, v4] sk st Q else am_g d X am_m4020 105 [v0, v1, v2, v3, v4] sk st Q) := am_gu.trans rfl
theorem u4020_105 {v0 : Value} {v1 : Value} {v2 : Value} {v3 : Value} {v4 : Value} : am_g d X am_m4020 105 [v0, v1, v2, v3, v4] sk st Q = am_g d X am_m4020 106 [v0, v1, v2, v3, v4] (.int (am_i 1) :: sk) st Q := am_gu.trans rfl
theorem u4020_106 {v0 : Value} {v1 : Value} {v2 : Value} {v3 : Value} {v4 : Value} : am_g d X am_m4020 106 [v0, v1, v2, v3, v4] sk st Q = am_g d X am_m4020 110 [v0, v1, v2, v3, v4] sk st Q := am_gu.trans rfl
theorem u4020_109 {v0 : Value} {v1 : Value} {v2 : Value} {v3 : Value} {v4 : Value} : am_g d X am_m4020 109 [v0, v1, v2, v3, v4] sk st Q = am_g d X am_m4020 110 [v0, v1, v2, v3, v4] (.int (am_i 0) :: sk) st Q := am_gu.trans rfl
theorem u4020_110 {v0 : Value} {v1 : Value} {v2 : Value} {v3 : Value} {v4 : Value} {x : Int32} {y : Int32} : am_g d X am_m4020 110 [v0, v1, v2, v3, v4] (.int y :: .int x :: sk) st Q = am_g d X am_m4020 111 [v0, v1, v2, v3, v4] (.int (x + y) :: sk) st Q := am_gu.trans rfl
theorem u4020_111 {v0 : Value} {v1 : Value} {v2 : Value} {v3 : Value} {v4 : Value} {x : Int32} : am_g d X am_m4020 111 [v0, v1, v2, v3, v4] (.int x :: sk) st Q = am_g d X am_m4020 112 [v0, v1, am_kc v2, .int x, v4] sk st Q := am_gu.trans (congrArg (fun l => am_g d X am_m4020 112 (List.set l 3 (.int x)) sk st Q) (kl_3 (l := [v3, v4])))
theorem u4020_112 {v1 : Value} {v2 : Value} {v3 : Value} {v4 : Value} {x : Nat} : am_g d X am_m4020 112 [.ref x, v1, v2, v3, v4] sk st Q = am_g d X am_m4020 113 [.ref x, v1, v2, v3, v4] (.ref x :: sk) st Q := am_gu.trans rfl
theorem u4020_113 {v0 : Value} {v1 : Value} {v2 : Value} {v3 : Value} {v4 : Value} : am_g d X am_m4020 113 [v0, v1, v2, v3, v4] sk st Q = am_gt 130 116 [v0, v1, v2, v3, v4] sk st (fun pc lc sk st => am_g d X am_m4020 pc lc sk st Q) := am_gu.trans rfl
theorem u4020_116 {v0 : Value} {v1 : Value} {v2 : Value} {v3 : Value} {v4 : Value} : am_g d X am_m4020 116 [v0, v1, v2, v3, v4] sk st Q = am_gt 5 119 [v0, v1, v2, v3, v4] sk st (fun pc lc sk st => am_g d X am_m4020 pc lc sk st Q) := am_gu.trans rfl
theorem u4020_119 {v0 : Value} {v1 : Value} {v2 : Value} {v3 : Value} {v4 : Value} {x : Int32} : am_g d X am_m4020 119 [v0, v1, v2, v3, v4] (.int x :: sk) st Q = (if decide (0 < x) = true then am_g d X am_m4020 128 [v0, v1, v2, v3, v4] sk st Q else am_g d X am_m4020 122 [v0, v1, v2, v3, v4] sk st Q) := am_gu.trans rfl
theorem u4020_122 {v0 : Value} {v1 : Value} {v2 : Value} {v4 : Value} {x : Int32} : am_g d X am_m4020 122 [v0, v1, v2, .int x, v4] sk st Q = am_g d X am_m4020 123 [v0, v1, v2, .int x, v4] (.int x :: sk) st Q := am_gu.trans rfl
theorem u4020_123 {v0 : Value} {v1 : Value} {v2 : Value} {v3 : Value} {v4 : Value} : am_g d X am_m4020 123 [v0, v1, v2, v3, v4] sk st Q = am_g d X am_m4020 125 [v0, v1, v2, v3, v4] (.int (am_i 60) :: sk) st Q := am_gu.trans rfl
theorem u4020_125 {v0 : Value} {v1 : Value} {v2 : Value} {v3 : Value} {v4 : Value} {x : Int32} {y : Int32} : am_g d X am_m4020 125 [v0, v1, v2, v3, v4] (.int y :: .int x :: sk) st Q = (if decide (x ≤ y) = true then am_g d X am_m4020 130 [v0, v1, v2, v3, v4] sk st Q else am_g d X am_m4020 128 [v0, v1, v2, v3, v4] sk st Q) := am_gu.trans rfl
theorem u4020_128 {v0 : Value} {v1 : Value} {v2 : Value} {v3 : Value} {v4 : Value} : am_g d X am_m4020 128 [v0, v1, v2, v3, v4] sk st Q = am_g d X am_m4020 129 [v0, v1, v2, v3, v4] (.int (am_i 0) :: sk) st Q := am_gu.trans rfl
theorem u4020_129 {v0 : Value} {v1 : Value} {v2 : Value} {v3 : Value} {v4 : Value} {x : Int32} : am_g d X am_m4020 129 [v0, v1, v2, v3, v4] [.int x] st Q = ((x = 0 ∨ x = 1) ∧ Q (.inl (some (.int x))) st) := am_gu.trans rfl
theorem u4020_130 {v0 : Value} {v1 : Value} {v2 : Value} {v3 : Value} {x : Int32} : am_g d X am_m4020 130 [v0, v1, v2, v3, .int x] sk st Q = am_g d X am_m4020 133 [v0, v1, v2, am_kc v3, .int (x + am_i 1)] sk st Q := am_gu.trans (congrArg (fun l => am_g d X am_m4020 133 (List.set l 4 (.int (x + am_i 1))) sk st Q) (kl_4 (l := [.int x])))
theorem u4020_133 {v0 : Value} {v1 : Value} {v2 : Value} {v3 : Value} {v4 : Value} : am_g d X am_m4020 133 [v0, v1, v2, v3, v4] sk st Q = am_g d X am_m4020 61 [v0, v1, v2, v3, v4] sk st Q := am_gu.trans rfl
theorem u4020_136 {v0 : Value} {v1 : Value} {v2 : Value} {v3 : Value} {v4 : Value} : am_g d X am_m4020 136 [v0, v1, v2, v3, v4] sk st Q = am_g d X am_m4020 137 [v0, v1, v2, v3, v4] (.int (am_i 1) :: sk) st Q := am_gu.trans rfl
theorem u4020_137 {v0 : Value} {v1 : Value} {v2 : Value} {v3 : Value} {v4 : Value} {x : Int32} : am_g d X am_m4020 137 [v0, v1, v2, v3, v4] [.int x] st Q = ((x = 0 ∨ x = 1) ∧ Q (.inl (some (.int x))) st) := am_gu.trans rfl
set_option maxRecDepth 100000 in
theorem of_4021 : am_of 4021 = some am_m4021 := rfl
theorem c4021 {z a0} {P : am_Q} : am_Ca X (d + 1) 4021 [.ref z, .int a0] st P = am_g d X am_m4021 0 [.ref z, .int a0, am_u, am_u, am_u] [] st P := am_cg of_4021 (by show 2 ≤ 5; decide)
theorem hd_4021 : am_hd am_m4021 = [] := rfl
theorem u4021_0 {v0 : Value} {v1 : Value} {v2 : Value} {v3 : Value} {v4 : Value} : am_g d X am_m4021 0 [v0, v1, v2, v3, v4] sk st Q = am_g d X am_m4021 1 [v0, v1, v2, v3, v4] (.int (am_i 0) :: sk) st Q := am_gu.trans rfl
theorem u4021_1 {v0 : Value} {v1 : Value} {v2 : Value} {v3 : Value} {v4 : Value} {x : Int32} : am_g d X am_m4021 1 [v0, v1, v2, v3, v4] (.int x :: sk) st Q = am_g d X am_m4021 2 [v0, am_kc v1, .int x, v3, v4] sk st Q := am_gu.trans (congrArg (fun l => am_g d X am_m4021 2 (List.set l 2 (.int x)) sk st Q) (kl_2 (l := [v2, v3, v4])))
theorem u4021_2 {v1 : Value} {v2 : Value} {v3 : Value} {v4 : Value} {x : Nat} : am_g d X am_m4021 2 [.ref x, v1, v2, v3, v4] sk st Q = am_g d X am_m4021 3 [.ref x, v1, v2, v3, v4] (.ref x :: sk) st Q := am_gu.trans rfl
theorem u4021_3 {v0 : Value} {v1 : Value} {v2 : Value} {v3 : Value} {v4 : Value} : am_g d X am_m4021 3 [v0, v1, v2, v3, v4] sk st Q = am_gt 128 6 [v0, v1, v2, v3, v4] sk st (fun pc lc sk st => am_g d X am_m4021 pc lc sk st Q) := am_gu.trans rfl
theorem u4021_6 {v0 : Value} {v2 : Value} {v3 : Value} {v4 : Value} {x : Int32} : am_g d X am_m4021 6 [v0, .int x, v2, v3, v4] sk st Q = am_g d X am_m4021 7 [v0, .int x, v2, v3, v4] (.int x :: sk) st Q := am_gu.trans rfl
theorem u4021_7 {a0 : Value} {v0 : Value} {v1 : Value} {v2 : Value} {v3 : Value} {v4 : Value} : am_g d X am_m4021 7 [v0, v1, v2, v3, v4] (a0 :: .ref o :: sk) st Q = ((am_ob st o 5 ∧ sk.length ≤ 5) ∧ am_Ca X d 5015 [.ref o, a0] st (am_af am_m4021 7 [v0, v1, v2, v3, v4] sk (fun pc lc sk st => am_g d X am_m4021 pc lc sk st Q) Q)) := am_gu.trans rfl
theorem u4021_10 {v0 : Value} {v1 : Value} {v2 : Value} {v3 : Value} {v4 : Value} {x : Int32} : am_g d X am_m4021 10 [v0, v1, v2, v3, v4] (.int x :: sk) st Q = am_g d X am_m4021 11 [v0, v1, am_kc v2, .int x, v4] sk st Q := am_gu.trans (congrArg (fun l => am_g d X am_m4021 11 (List.set l 3 (.int x)) sk st Q) (kl_3 (l := [v3, v4])))
theorem u4021_11 {v1 : Value} {v2 : Value} {v3 : Value} {v4 : Value} {x : Nat} : am_g d X am_m4021 11 [.ref x, v1, v2, v3, v4] sk st Q = am_g d X am_m4021 12 [.ref x, v1, v2, v3, v4] (.ref x :: sk) st Q := am_gu.trans rfl
theorem u4021_12 {v0 : Value} {v1 : Value} {v2 : Value} {v3 : Value} {v4 : Value} : am_g d X am_m4021 12 [v0, v1, v2, v3, v4] sk st Q = am_gt 129 15 [v0, v1, v2, v3, v4] sk st (fun pc lc sk st => am_g d X am_m4021 pc lc sk st Q) := am_gu.trans rfl
theorem u4021_15 {v1 : Value} {v2 : Value} {v3 : Value} {v4 : Value} {x : Nat} : am_g d X am_m4021 15 [.ref x, v1, v2, v3, v4] sk st Q = am_g d X am_m4021 16 [.ref x, v1, v2, v3, v4] (.ref x :: sk) st Q := am_gu.trans rfl
theorem u4021_16 {v0 : Value} {v1 : Value} {v2 : Value} {v3 : Value} {v4 : Value} : am_g d X am_m4021 16 [v0, v1, v2, v3, v4] sk st Q = am_gt 128 19 [v0, v1, v2, v3, v4] sk st (fun pc lc sk st => am_g d X am_m4021 pc lc sk st Q) := am_gu.trans rfl
theorem u4021_19 {v0 : Value} {v1 : Value} {v2 : Value} {v4 : Value} {x : Int32} : am_g d X am_m4021 19 [v0, v1, v2, .int x, v4] sk st Q = am_g d X am_m4021 20 [v0, v1, v2, .int x, v4] (.int x :: sk) st Q := am_gu.trans rfl
theorem u4021_20 {v1 : Value} {v2 : Value} {v3 : Value} {v4 : Value} {x : Nat} : am_g d X am_m4021 20 [.ref x, v1, v2, v3, v4] sk st Q = am_g d X am_m4021 21 [.ref x, v1, v2, v3, v4] (.ref x :: sk) st Q := am_gu.trans rfl
theorem u4021_21 {v0 : Value} {v1 : Value} {v2 : Value} {v3 : Value} {v4 : Value} : am_g d X am_m4021 21 [v0, v1, v2, v3, v4] sk st Q = am_gt 131 24 [v0, v1, v2, v3, v4] sk st (fun pc lc sk st => am_g d X am_m4021 pc lc sk st Q) := am_gu.trans rfl
theorem u4021_24 {a0 : Value} {a1 : Value} {a2 : Value} {v0 : Value} {v1 : Value} {v2 : Value} {v3 : Value} {v4 : Value} : am_g d X am_m4021 24 [v0, v1, v2, v3, v4] (a2 :: a1 :: a0 :: .ref o :: sk) st Q = ((am_ob st o 1 ∧ sk.length ≤ 5) ∧ am_Ca X d 1014 [.ref o, a0, a1, a2] st (am_af am_m4021 24 [v0, v1, v2, v3, v4] sk (fun pc lc sk st => am_g d X am_m4021 pc lc sk st Q) Q)) := am_gu.trans rfl
theorem u4021_27 {v1 : Value} {v2 : Value} {v3 : Value} {v4 : Value} {x : Nat} : am_g d X am_m4021 27 [.ref x, v1, v2, v3, v4] sk st Q = am_g d X am_m4021 28 [.ref x, v1, v2, v3, v4] (.ref x :: sk) st Q := am_gu.trans rfl
theorem u4021_28 {v0 : Value} {v1 : Value} {v2 : Value} {v3 : Value} {v4 : Value} : am_g d X am_m4021 28 [v0, v1, v2, v3, v4] sk st Q = am_gt 128 31 [v0, v1, v2, v3, v4] sk st (fun pc lc sk st => am_g d X am_m4021 pc lc sk st Q) := am_gu.trans rfl
theorem u4021_31 {v0 : Value} {v1 : Value} {v2 : Value} {v4 : Value} {x : Int32} : am_g d X am_m4021 31 [v0, v1, v2, .int x, v4] sk st Q = am_g d X am_m4021 32 [v0, v1, v2, .int x, v4] (.int x :: sk) st Q := am_gu.trans rfl
theorem u4021_32 {a0 : Value} {v0 : Value} {v1 : Value} {v2 : Value} {v3 : Value} {v4 : Value} : am_g d X am_m4021 32 [v0, v1, v2, v3, v4] (a0 :: .ref o :: sk) st Q = ((am_ob st o 5 ∧ sk.length ≤ 5) ∧ am_Ca X d 5020 [.ref o, a0] st (am_af am_m4021 32 [v0, v1, v2, v3, v4] sk (fun pc lc sk st => am_g d X am_m4021 pc lc sk st Q) Q)) := am_gu.trans rfl
theorem u4021_35 {v0 : Value} {v1 : Value} {v2 : Value} {v3 : Value} {v4 : Value} : am_g d X am_m4021 35 [v0, v1, v2, v3, v4] sk st Q = am_g d X am_m4021 36 [v0, v1, v2, v3, v4] (.int (am_i 0) :: sk) st Q := am_gu.trans rfl
theorem u4021_36 {v0 : Value} {v1 : Value} {v2 : Value} {v3 : Value} {v4 : Value} {x : Int32} : am_g d X am_m4021 36 [v0, v1, v2, v3, v4] (.int x :: sk) st Q = am_g d X am_m4021 38 [v0, v1, v2, am_kc v3, .int x] sk st Q := am_gu.trans (congrArg (fun l => am_g d X am_m4021 38 (List.set l 4 (.int x)) sk st Q) (kl_4 (l := [v4])))
theorem u4021_38 {v0 : Value} {v1 : Value} {v2 : Value} {v3 : Value} {x : Int32} : am_g d X am_m4021 38 [v0, v1, v2, v3, .int x] sk st Q = am_g d X am_m4021 40 [v0, v1, v2, v3, .int x] (.int x :: sk) st Q := am_gu.trans rfl
theorem u4021_40 {v0 : Value} {v1 : Value} {v2 : Value} {v3 : Value} {v4 : Value} : am_g d X am_m4021 40 [v0, v1, v2, v3, v4] sk st Q = am_g d X am_m4021 42 [v0, v1, v2, v3, v4] (.int (am_i 60) :: sk) st Q := am_gu.trans rfl
theorem u4021_42 {v0 : Value} {v1 : Value} {v2 : Value} {v3 : Value} {v4 : Value} {x : Int32} {y : Int32} : am_g d X am_m4021 42 [v0, v1, v2, v3, v4] (.int y :: .int x :: sk) st Q = (if decide (y ≤ x) = true then am_g d X am_m4021 96 [v0, v1, v2, v3, v4] sk st Q else am_g d X am_m4021 45 [v0, v1, v2, v3, v4] sk st Q) := am_gu.trans rfl
theorem u4021_45 {v1 : Value} {v2 : Value} {v3 : Value} {v4 : Value} {x : Nat} : am_g d X am_m4021 45 [.ref x, v1, v2, v3, v4] sk st Q = am_g d X am_m4021 46 [.ref x, v1, v2, v3, v4] (.ref x :: sk) st Q := am_gu.trans rfl
theorem u4021_46 {v0 : Value} {v1 : Value} {v2 : Value} {v3 : Value} {v4 : Value} : am_g d X am_m4021 46 [v0, v1, v2, v3, v4] sk st Q = am_gt 131 49 [v0, v1, v2, v3, v4] sk st (fun pc lc sk st => am_g d X am_m4021 pc lc sk st Q) := am_gu.trans rfl
theorem u4021_49 {v0 : Value} {v1 : Value} {v2 : Value} {v3 : Value} {x : Int32} : am_g d X am_m4021 49 [v0, v1, v2, v3, .int x] sk st Q = am_g d X am_m4021 51 [v0, v1, v2, v3, .int x] (.int x :: sk) st Q := am_gu.trans rfl
theorem u4021_51 {a0 : Value} {a1 : Value} {v0 : Value} {v1 : Value} {v2 : Value} {v3 : Value} {v4 : Value} : am_g d X am_m4021 51 [v0, v1, v2, v3, v4] (a1 :: a0 :: sk) st Q = (sk.length ≤ 4 ∧ am_Ca X d 1015 [a0, a1] st (am_af am_m4021 51 [v0, v1, v2, v3, v4] sk (fun pc lc sk st => am_g d X am_m4021 pc lc sk st Q) Q)) := am_gu.trans (propext ⟨fun h => ⟨h.1.2, h.2⟩, fun h => ⟨⟨Nat.le_add_left _ _, h.1⟩, h.2⟩⟩)
theorem u4021_54 {v0 : Value} {v1 : Value} {v2 : Value} {v3 : Value} {v4 : Value} {x : Int32} : am_g d X am_m4021 54 [v0, v1, v2, v3, v4] (.int x :: sk) st Q = (if decide (x = 0) = true then am_g d X am_m4021 90 [v0, v1, v2, v3, v4] sk st Q else am_g d X am_m4021 57 [v0, v1, v2, v3, v4] sk st Q) := am_gu.trans rfl
theorem u4021_57 {v1 : Value} {v2 : Value} {v3 : Value} {v4 : Value} {x : Nat} : am_g d X am_m4021 57 [.ref x, v1, v2, v3, v4] sk st Q = am_g d X am_m4021 58 [.ref x, v1, v2, v3, v4] (.ref x :: sk) st Q := am_gu.trans rfl
theorem u4021_58 {v0 : Value} {v1 : Value} {v2 : Value} {v3 : Value} {x : Int32} : am_g d X am_m4021 58 [v0, v1, v2, v3, .int x] sk st Q = am_g d X am_m4021 60 [v0, v1, v2, v3, .int x] (.int x :: sk) st Q := am_gu.trans rfl
theorem u4021_60 {v0 : Value} {v1 : Value} {v2 : Value} {v3 : Value} {v4 : Value} : am_g d X am_m4021 60 [v0, v1, v2, v3, v4] sk st Q = am_g d X am_m4021 61 [v0, v1, v2, v3, v4] (.int (am_i 0) :: sk) st Q := am_gu.trans rfl
theorem u4021_61 {a0 : Value} {a1 : Value} {v0 : Value} {v1 : Value} {v2 : Value} {v3 : Value} {v4 : Value} : am_g d X am_m4021 61 [v0, v1, v2, v3, v4] (a1 :: a0 :: .ref o :: sk) st Q = ((am_ob st o 4 ∧ sk.length ≤ 5) ∧ am_Ca X d 4028 [.ref o, a0, a1] st (am_af am_m4021 61 [v0, v1, v2, v3, v4] sk (fun pc lc sk st => am_g d X am_m4021 pc lc sk st Q) Q)) := am_gu.trans rfl
theorem u4021_64 {v1 : Value} {v2 : Value} {v3 : Value} {v4 : Value} {x : Nat} : am_g d X am_m4021 64 [.ref x, v1, v2, v3, v4] sk st Q = am_g d X am_m4021 65 [.ref x, v1, v2, v3, v4] (.ref x :: sk) st Q := am_gu.trans rfl
theorem u4021_65 {v0 : Value} {v1 : Value} {v2 : Value} {v3 : Value} {v4 : Value} : am_g d X am_m4021 65 [v0, v1, v2, v3, v4] sk st Q = am_gt 130 68 [v0, v1, v2, v3, v4] sk st (fun pc lc sk st => am_g d X am_m4021 pc lc sk st Q) := am_gu.trans rfl
theorem u4021_68 {v0 : Value} {v1 : Value} {v2 : Value} {v3 : Value} {v4 : Value} : am_g d X am_m4021 68 [v0, v1, v2, v3, v4] sk st Q = am_gt 4 71 [v0, v1, v2, v3, v4] sk st (fun pc lc sk st => am_g d X am_m4021 pc lc sk st Q) := am_gu.trans rfl
theorem u4021_71 {v0 : Value} {v1 : Value} {v2 : Value} {v3 : Value} {v4 : Value} {x : Int32} : am_g d X am_m4021 71 [v0, v1, v2, v3, v4] (.int x :: sk) st Q = (if decide (x ≤ 0) = true then am_g d X am_m4021 90 [v0, v1, v2, v3, v4] sk st Q else am_g d X am_m4021 74 [v0, v1, v2, v3, v4] sk st Q) := am_gu.trans rfl
theorem u4021_74 {v1 : Value} {v2 : Value} {v3 : Value} {v4 : Value} {x : Nat} : am_g d X am_m4021 74 [.ref x, v1, v2, v3, v4] sk st Q = am_g d X am_m4021 75 [.ref x, v1, v2, v3, v4] (.ref x :: sk) st Q := am_gu.trans rfl
theorem u4021_75 {v0 : Value} {v1 : Value} {v2 : Value} {v3 : Value} {v4 : Value} : am_g d X am_m4021 75 [v0, v1, v2, v3, v4] (.ref o :: sk) st Q = ((am_ob st o 4 ∧ sk.length ≤ 5) ∧ am_Ca X d 4031 [.ref o] st (am_af am_m4021 75 [v0, v1, v2, v3, v4] sk (fun pc lc sk st => am_g d X am_m4021 pc lc sk st Q) Q)) := am_gu.trans rfl
theorem u4021_78 {v1 : Value} {v2 : Value} {v3 : Value} {v4 : Value} {x : Nat} : am_g d X am_m4021 78 [.ref x, v1, v2, v3, v4] sk st Q = am_g d X am_m4021 79 [.ref x, v1, v2, v3, v4] (.ref x :: sk) st Q := am_gu.trans rfl
theorem u4021_79 {v0 : Value} {v1 : Value} {v2 : Value} {v3 : Value} {v4 : Value} : am_g d X am_m4021 79 [v0, v1, v2, v3, v4] sk st Q = am_gt 128 82 [v0, v1, v2, v3, v4] sk st (fun pc lc sk st => am_g d X am_m4021 pc lc sk st Q) := am_gu.trans rfl
theorem u4021_82 {v0 : Value} {v1 : Value} {v2 : Value} {v3 : Value} {v4 : Value} : am_g d X am_m4021 82 [v0, v1, v2, v3, v4] sk st Q = am_g d X am_m4021 83 [v0, v1, v2, v3, v4] (.int (am_i (-1)) :: sk) st Q := am_gu.trans rfl
theorem u4021_83 {a0 : Value} {v0 : Value} {v1 : Value} {v2 : Value} {v3 : Value} {v4 : Value} : am_g d X am_m4021 83 [v0, v1, v2, v3, v4] (a0 :: .ref o :: sk) st Q = ((am_ob st o 5 ∧ sk.length ≤ 5) ∧ am_Ca X d 5013 [.ref o, a0] st (am_af am_m4021 83 [v0, v1, v2, v3, v4] sk (fun pc lc sk st => am_g d X am_m4021 pc lc sk st Q) Q)) := am_gu.trans rfl
theorem u4021_86i {v0 : Value} {v1 : Value} {v2 : Value} {v3 : Value} {v4 : Value} {x : Int32} : am_g d X am_m4021 86 [v0, v1, v2, v3, v4] (.int x :: sk) st Q = am_g d X am_m4021 87 [v0, v1, v2, v3, v4] sk st Q := am_gu.trans rfl
theorem u4021_86r {v0 : Value} {v1 : Value} {v2 : Value} {v3 : Value} {v4 : Value} {x : Nat} : am_g d X am_m4021 86 [v0, v1, v2, v3, v4] (.ref x :: sk) st Q = am_g d X am_m4021 87 [v0, v1, v2, v3, v4] sk st Q := am_gu.trans rfl
theorem u4021_87 {v0 : Value} {v1 : Value} {v3 : Value} {v4 : Value} {x : Int32} : am_g d X am_m4021 87 [v0, v1, .int x, v3, v4] sk st Q = am_g d X am_m4021 90 [v0, am_kc v1, .int (x + am_i 1), v3, v4] sk st Q := am_gu.trans (congrArg (fun l => am_g d X am_m4021 90 (List.set l 2 (.int (x + am_i 1))) sk st Q) (kl_2 (l := [.int x, v3, v4])))
theorem u4021_90 {v0 : Value} {v1 : Value} {v2 : Value} {v3 : Value} {x : Int32} : am_g d X am_m4021 90 [v0, v1, v2, v3, .int x] sk st Q = am_g d X am_m4021 93 [v0, v1, v2, am_kc v3, .int (x + am_i 1)] sk st Q := am_gu.trans (congrArg (fun l => am_g d X am_m4021 93 (List.set l 4 (.int (x + am_i 1))) sk st Q) (kl_4 (l := [.int x])))
theorem u4021_93 {v0 : Value} {v1 : Value} {v2 : Value} {v3 : Value} {v4 : Value} : am_g d X am_m4021 93 [v0, v1, v2, v3, v4] sk st Q = am_g d X am_m4021 38 [v0, v1, v2, v3, v4] sk st Q := am_gu.trans rfl
theorem u4021_96 {v0 : Value} {v1 : Value} {v3 : Value} {v4 : Value} {x : Int32} : am_g d X am_m4021 96 [v0, v1, .int x, v3, v4] sk st Q = am_g d X am_m4021 97 [v0, v1, .int x, v3, v4] (.int x :: sk) st Q := am_gu.trans rfl
theorem u4021_97 {v0 : Value} {v1 : Value} {v2 : Value} {v3 : Value} {v4 : Value} {x : Int32} : am_g d X am_m4021 97 [v0, v1, v2, v3, v4] [.int x] st Q = Q (.inl (some (.int x))) st := am_gu.trans rfl
set_option maxRecDepth 100000 in
theorem of_4022 : am_of 4022 = some am_m4022 := rfl
theorem c4022 {z a0 a1} {P : am_Q} : am_Ca X (d + 1) 4022 [.ref z, .int a0, .int a1] st P = am_g d X am_m4022 0 [.ref z, .int a0, .int a1] [] st P := am_cg of_4022 (by show 3 ≤ 3; decide)
theorem hd_4022 : am_hd am_m4022 = [] := rfl
theorem u4022_0 {v1 : Value} {v2 : Value} {x : Nat} : am_g d X am_m4022 0 [.ref x, v1, v2] sk st Q = am_g d X am_m4022 1 [.ref x, v1, v2] (.ref x :: sk) st Q := am_gu.trans rfl
theorem u4022_1 {v0 : Value} {v1 : Value} {v2 : Value} : am_g d X am_m4022 1 [v0, v1, v2] sk st Q = am_gt 128 4 [v0, v1, v2] sk st (fun pc lc sk st => am_g d X am_m4022 pc lc sk st Q) := am_gu.trans rfl
theorem u4022_4 {v0 : Value} {v2 : Value} {x : Int32} : am_g d X am_m4022 4 [v0, .int x, v2] sk st Q = am_g d X am_m4022 5 [v0, .int x, v2] (.int x :: sk) st Q := am_gu.trans rfl
theorem u4022_5 {v0 : Value} {v1 : Value} {x : Int32} : am_g d X am_m4022 5 [v0, v1, .int x] sk st Q = am_g d X am_m4022 6 [v0, v1, .int x] (.int x :: sk) st Q := am_gu.trans rfl
theorem u4022_6 {v0 : Value} {v1 : Value} {v2 : Value} {x : Int32} : am_g d X am_m4022 6 [v0, v1, v2] (.int x :: sk) st Q = (if decide (x = 0) = true then am_g d X am_m4022 20 [v0, v1, v2] sk st Q else am_g d X am_m4022 9 [v0, v1, v2] sk st Q) := am_gu.trans rfl
theorem u4022_9 {v1 : Value} {v2 : Value} {x : Nat} : am_g d X am_m4022 9 [.ref x, v1, v2] sk st Q = am_g d X am_m4022 10 [.ref x, v1, v2] (.ref x :: sk) st Q := am_gu.trans rfl
theorem u4022_10 {v0 : Value} {v1 : Value} {v2 : Value} : am_g d X am_m4022 10 [v0, v1, v2] sk st Q = am_gt 128 13 [v0, v1, v2] sk st (fun pc lc sk st => am_g d X am_m4022 pc lc sk st Q) := am_gu.trans rfl
theorem u4022_13 {v0 : Value} {v2 : Value} {x : Int32} : am_g d X am_m4022 13 [v0, .int x, v2] sk st Q = am_g d X am_m4022 14 [v0, .int x, v2] (.int x :: sk) st Q := am_gu.trans rfl
theorem u4022_14 {a0 : Value} {v0 : Value} {v1 : Value} {v2 : Value} : am_g d X am_m4022 14 [v0, v1, v2] (a0 :: .ref o :: sk) st Q = ((am_ob st o 5 ∧ sk.length ≤ 5) ∧ am_Ca X d 5027 [.ref o, a0] st (am_af am_m4022 14 [v0, v1, v2] sk (fun pc lc sk st => am_g d X am_m4022 pc lc sk st Q) Q)) := am_gu.trans rfl
theorem u4022_17 {v0 : Value} {v1 : Value} {v2 : Value} : am_g d X am_m4022 17 [v0, v1, v2] sk st Q = am_g d X am_m4022 28 [v0, v1, v2] sk st Q := am_gu.trans rfl
theorem u4022_20 {v1 : Value} {v2 : Value} {x : Nat} : am_g d X am_m4022 20 [.ref x, v1, v2] sk st Q = am_g d X am_m4022 21 [.ref x, v1, v2] (.ref x :: sk) st Q := am_gu.trans rfl
theorem u4022_21 {v0 : Value} {v1 : Value} {v2 : Value} : am_g d X am_m4022 21 [v0, v1, v2] sk st Q = am_gt 128 24 [v0, v1, v2] sk st (fun pc lc sk st => am_g d X am_m4022 pc lc sk st Q) := am_gu.trans rfl
theorem u4022_24 {v0 : Value} {v2 : Value} {x : Int32} : am_g d X am_m4022 24 [v0, .int x, v2] sk st Q = am_g d X am_m4022 25 [v0, .int x, v2] (.int x :: sk) st Q := am_gu.trans rfl
theorem u4022_25 {a0 : Value} {v0 : Value} {v1 : Value} {v2 : Value} : am_g d X am_m4022 25 [v0, v1, v2] (a0 :: .ref o :: sk) st Q = ((am_ob st o 5 ∧ sk.length ≤ 5) ∧ am_Ca X d 5021 [.ref o, a0] st (am_af am_m4022 25 [v0, v1, v2] sk (fun pc lc sk st => am_g d X am_m4022 pc lc sk st Q) Q)) := am_gu.trans rfl
theorem u4022_28 {a0 : Value} {a1 : Value} {v0 : Value} {v1 : Value} {v2 : Value} : am_g d X am_m4022 28 [v0, v1, v2] (a1 :: a0 :: .ref o :: sk) st Q = ((am_ob st o 5 ∧ sk.length ≤ 5) ∧ am_Ca X d 5022 [.ref o, a0, a1] st (am_af am_m4022 28 [v0, v1, v2] sk (fun pc lc sk st => am_g d X am_m4022 pc lc sk st Q) Q)) := am_gu.trans rfl
theorem u4022_31 {v1 : Value} {v2 : Value} {x : Nat} : am_g d X am_m4022 31 [.ref x, v1, v2] sk st Q = am_g d X am_m4022 32 [.ref x, v1, v2] (.ref x :: sk) st Q := am_gu.trans rfl
theorem u4022_32 {v0 : Value} {v1 : Value} {v2 : Value} : am_g d X am_m4022 32 [v0, v1, v2] sk st Q = am_gt 128 35 [v0, v1, v2] sk st (fun pc lc sk st => am_g d X am_m4022 pc lc sk st Q) := am_gu.trans rfl
theorem u4022_35 {v0 : Value} {v1 : Value} {v2 : Value} : am_g d X am_m4022 35 [v0, v1, v2] (.ref o :: sk) st Q = ((am_ob st o 5 ∧ sk.length ≤ 5) ∧ am_Ca X d 5029 [.ref o] st (am_af am_m4022 35 [v0, v1, v2] sk (fun pc lc sk st => am_g d X am_m4022 pc lc sk st Q) Q)) := am_gu.trans rfl
theorem u4022_38 {v0 : Value} {v1 : Value} {v2 : Value} {x : Int32} : am_g d X am_m4022 38 [v0, v1, v2] [.int x] st Q = Q (.inl (some (.int x))) st := am_gu.trans rfl
set_option maxRecDepth 100000 in
theorem of_4023 : am_of 4023 = some am_m4023 := rfl
theorem c4023 {z} {P : am_Q} : am_Ca X (d + 1) 4023 [.ref z] st P = am_g d X am_m4023 0 [.ref z] [] st P := am_cg of_4023 (by show 1 ≤ 1; decide)
theorem hd_4023 : am_hd am_m4023 = [] := rfl
theorem u4023_0 {x : Nat} : am_g d X am_m4023 0 [.ref x] sk st Q = am_g d X am_m4023 1 [.ref x] (.ref x :: sk) st Q := am_gu.trans rfl
theorem u4023_1 {v0 : Value} : am_g d X am_m4023 1 [v0] sk st Q = am_gt 128 4 [v0] sk st (fun pc lc sk st => am_g d X am_m4023 pc lc sk st Q) := am_gu.trans rfl
theorem u4023_4 {v0 : Value} : am_g d X am_m4023 4 [v0] sk st Q = am_gt 168 7 [v0] sk st (fun pc lc sk st => am_g d X am_m4023 pc lc sk st Q) := am_gu.trans rfl
theorem u4023_7 {v0 : Value} {x : Int32} : am_g d X am_m4023 7 [v0] (.int x :: sk) st Q = (if decide (x = 0) = true then am_g d X am_m4023 14 [v0] sk st Q else am_g d X am_m4023 10 [v0] sk st Q) := am_gu.trans rfl
theorem u4023_10 {v0 : Value} : am_g d X am_m4023 10 [v0] sk st Q = am_g d X am_m4023 11 [v0] (.int (am_i 1) :: sk) st Q := am_gu.trans rfl
theorem u4023_11 {v0 : Value} : am_g d X am_m4023 11 [v0] sk st Q = am_g d X am_m4023 15 [v0] sk st Q := am_gu.trans rfl
theorem u4023_14 {v0 : Value} : am_g d X am_m4023 14 [v0] sk st Q = am_g d X am_m4023 15 [v0] (.int (am_i 0) :: sk) st Q := am_gu.trans rfl
theorem u4023_15 {v0 : Value} {x : Int32} : am_g d X am_m4023 15 [v0] [.int x] st Q = ((x = 0 ∨ x = 1) ∧ Q (.inl (some (.int x))) st) := am_gu.trans rfl
set_option maxRecDepth 100000 in
theorem of_4024 : am_of 4024 = some am_m4024 := rfl
theorem c4024 {z} {P : am_Q} : am_Ca X (d + 1) 4024 [.ref z] st P = am_g d X am_m4024 0 [.ref z, am_u] [] st P := am_cg of_4024 (by show 1 ≤ 2; decide)
theorem hd_4024 : am_hd am_m4024 = [] := rfl
theorem u4024_0 {v1 : Value} {x : Nat} : am_g d X am_m4024 0 [.ref x, v1] sk st Q = am_g d X am_m4024 1 [.ref x, v1] (.ref x :: sk) st Q := am_gu.trans rfl
theorem u4024_1 {v0 : Value} {v1 : Value} : am_g d X am_m4024 1 [v0, v1] sk st Q = am_gt 128 4 [v0, v1] sk st (fun pc lc sk st => am_g d X am_m4024 pc lc sk st Q) := am_gu.trans rfl
theorem u4024_4 {v0 : Value} {v1 : Value} : am_g d X am_m4024 4 [v0, v1] (.ref o :: sk) st Q = ((am_ob st o 5 ∧ sk.length ≤ 5) ∧ am_Ca X d 5029 [.ref o] st (am_af am_m4024 4 [v0, v1] sk (fun pc lc sk st => am_g d X am_m4024 pc lc sk st Q) Q)) := am_gu.trans rfl
theorem u4024_7 {v0 : Value} {v1 : Value} {x : Int32} : am_g d X am_m4024 7 [v0, v1] (.int x :: sk) st Q = am_g d X am_m4024 8 [am_kc v0, .int x] sk st Q := am_gu.trans (congrArg (fun l => am_g d X am_m4024 8 (List.set l 1 (.int x)) sk st Q) (kl_1 (l := [v1])))
theorem u4024_8 {v1 : Value} {x : Nat} : am_g d X am_m4024 8 [.ref x, v1] sk st Q = am_g d X am_m4024 9 [.ref x, v1] (.ref x :: sk) st Q := am_gu.trans rfl
theorem u4024_9 {v0 : Value} {v1 : Value} : am_g d X am_m4024 9 [v0, v1] sk st Q = am_gt 128 12 [v0, v1] sk st (fun pc lc sk st => am_g d X am_m4024 pc lc sk st Q) := am_gu.trans rfl
theorem u4024_12 {v1 : Value} {x : Nat} : am_g d X am_m4024 12 [.ref x, v1] sk st Q = am_g d X am_m4024 13 [.ref x, v1] (.ref x :: sk) st Q := am_gu.trans rfl
theorem u4024_13 {v0 : Value} {v1 : Value} : am_g d X am_m4024 13 [v0, v1] sk st Q = am_gt 128 16 [v0, v1] sk st (fun pc lc sk st => am_g d X am_m4024 pc lc sk st Q) := am_gu.trans rfl
theorem u4024_16 {v0 : Value} {v1 : Value} : am_g d X am_m4024 16 [v0, v1] (.ref o :: sk) st Q = ((am_ob st o 5 ∧ sk.length ≤ 5) ∧ am_Ca X d 5016 [.ref o] st (am_af am_m4024 16 [v0, v1] sk (fun pc lc sk st => am_g d X am_m4024 pc lc sk st Q) Q)) := am_gu.trans rfl
theorem u4024_19 {a0 : Value} {v0 : Value} {v1 : Value} : am_g d X am_m4024 19 [v0, v1] (a0 :: .ref o :: sk) st Q = ((am_ob st o 5 ∧ sk.length ≤ 5) ∧ am_Ca X d 5020 [.ref o, a0] st (am_af am_m4024 19 [v0, v1] sk (fun pc lc sk st => am_g d X am_m4024 pc lc sk st Q) Q)) := am_gu.trans rfl
theorem u4024_22 {v0 : Value} {x : Int32} : am_g d X am_m4024 22 [v0, .int x] sk st Q = am_g d X am_m4024 23 [v0, .int x] (.int x :: sk) st Q := am_gu.trans rfl
theorem u4024_23 {v0 : Value} {v1 : Value} {x : Int32} : am_g d X am_m4024 23 [v0, v1] [.int x] st Q = Q (.inl (some (.int x))) st := am_gu.trans rfl
set_option maxRecDepth 100000 in
theorem of_4025 : am_of 4025 = some am_m4025 := rfl
theorem c4025 {z a0} {P : am_Q} : am_Ca X (d + 1) 4025 [.ref z, .int a0] st P = am_g d X am_m4025 0 [.ref z, .int a0] [] st P := am_cg of_4025 (by show 2 ≤ 2; decide)
theorem hd_4025 : am_hd am_m4025 = [] := rfl
theorem u4025_0 {v1 : Value} {x : Nat} : am_g d X am_m4025 0 [.ref x, v1] sk st Q = am_g d X am_m4025 1 [.ref x, v1] (.ref x :: sk) st Q := am_gu.trans rfl
theorem u4025_1 {v0 : Value} {v1 : Value} : am_g d X am_m4025 1 [v0, v1] sk st Q = am_gt 128 4 [v0, v1] sk st (fun pc lc sk st => am_g d X am_m4025 pc lc sk st Q) := am_gu.trans rfl
theorem u4025_4 {v0 : Value} {x : Int32} : am_g d X am_m4025 4 [v0, .int x] sk st Q = am_g d X am_m4025 5 [v0, .int x] (.int x :: sk) st Q := am_gu.trans rfl
theorem u4025_5 {a0 : Value} {v0 : Value} {v1 : Value} : am_g d X am_m4025 5 [v0, v1] (a0 :: .ref o :: sk) st Q = ((am_ob st o 5 ∧ sk.length ≤ 5) ∧ am_Ca X d 5014 [.ref o, a0] st (am_af am_m4025 5 [v0, v1] sk (fun pc lc sk st => am_g d X am_m4025 pc lc sk st Q) Q)) := am_gu.trans rfl
theorem u4025_8 {v0 : Value} {v1 : Value} {x : Int32} : am_g d X am_m4025 8 [v0, v1] (.int x :: sk) st Q = (if decide (x = 0) = true then am_g d X am_m4025 54 [v0, v1] sk st Q else am_g d X am_m4025 11 [v0, v1] sk st Q) := am_gu.trans rfl
theorem u4025_11 {v1 : Value} {x : Nat} : am_g d X am_m4025 11 [.ref x, v1] sk st Q = am_g d X am_m4025 12 [.ref x, v1] (.ref x :: sk) st Q := am_gu.trans rfl
theorem u4025_12 {v0 : Value} {v1 : Value} : am_g d X am_m4025 12 [v0, v1] sk st Q = am_gt 128 15 [v0, v1] sk st (fun pc lc sk st => am_g d X am_m4025 pc lc sk st Q) := am_gu.trans rfl
theorem u4025_15 {v0 : Value} {v1 : Value} : am_g d X am_m4025 15 [v0, v1] (.ref o :: sk) st Q = ((am_ob st o 5 ∧ sk.length ≤ 5) ∧ am_Ca X d 5026 [.ref o] st (am_af am_m4025 15 [v0, v1] sk (fun pc lc sk st => am_g d X am_m4025 pc lc sk st Q) Q)) := am_gu.trans rfl
theorem u4025_18 {v0 : Value} {v1 : Value} {x : Int32} : am_g d X am_m4025 18 [v0, v1] (.int x :: sk) st Q = (if decide (x = 0) = true then am_g d X am_m4025 54 [v0, v1] sk st Q else am_g d X am_m4025 21 [v0, v1] sk st Q) := am_gu.trans rfl
theorem u4025_21 {v1 : Value} {x : Nat} : am_g d X am_m4025 21 [.ref x, v1] sk st Q = am_g d X am_m4025 22 [.ref x, v1] (.ref x :: sk) st Q := am_gu.trans rfl
theorem u4025_22 {v0 : Value} {v1 : Value} : am_g d X am_m4025 22 [v0, v1] sk st Q = am_gt 129 25 [v0, v1] sk st (fun pc lc sk st => am_g d X am_m4025 pc lc sk st Q) := am_gu.trans rfl
theorem u4025_25 {v1 : Value} {x : Nat} : am_g d X am_m4025 25 [.ref x, v1] sk st Q = am_g d X am_m4025 26 [.ref x, v1] (.ref x :: sk) st Q := am_gu.trans rfl
theorem u4025_26 {v0 : Value} {v1 : Value} : am_g d X am_m4025 26 [v0, v1] sk st Q = am_gt 128 29 [v0, v1] sk st (fun pc lc sk st => am_g d X am_m4025 pc lc sk st Q) := am_gu.trans rfl
theorem u4025_29 {v1 : Value} {x : Nat} : am_g d X am_m4025 29 [.ref x, v1] sk st Q = am_g d X am_m4025 30 [.ref x, v1] (.ref x :: sk) st Q := am_gu.trans rfl
theorem u4025_30 {v0 : Value} {v1 : Value} : am_g d X am_m4025 30 [v0, v1] sk st Q = am_gt 128 33 [v0, v1] sk st (fun pc lc sk st => am_g d X am_m4025 pc lc sk st Q) := am_gu.trans rfl
theorem u4025_33 {v0 : Value} {v1 : Value} : am_g d X am_m4025 33 [v0, v1] (.ref o :: sk) st Q = ((am_ob st o 5 ∧ sk.length ≤ 5) ∧ am_Ca X d 5016 [.ref o] st (am_af am_m4025 33 [v0, v1] sk (fun pc lc sk st => am_g d X am_m4025 pc lc sk st Q) Q)) := am_gu.trans rfl
theorem u4025_36 {v1 : Value} {x : Nat} : am_g d X am_m4025 36 [.ref x, v1] sk st Q = am_g d X am_m4025 37 [.ref x, v1] (.ref x :: sk) st Q := am_gu.trans rfl
theorem u4025_37 {v0 : Value} {v1 : Value} : am_g d X am_m4025 37 [v0, v1] sk st Q = am_gt 128 40 [v0, v1] sk st (fun pc lc sk st => am_g d X am_m4025 pc lc sk st Q) := am_gu.trans rfl
theorem u4025_40 {v0 : Value} {x : Int32} : am_g d X am_m4025 40 [v0, .int x] sk st Q = am_g d X am_m4025 41 [v0, .int x] (.int x :: sk) st Q := am_gu.trans rfl
theorem u4025_41 {a0 : Value} {v0 : Value} {v1 : Value} : am_g d X am_m4025 41 [v0, v1] (a0 :: .ref o :: sk) st Q = ((am_ob st o 5 ∧ sk.length ≤ 5) ∧ am_Ca X d 5015 [.ref o, a0] st (am_af am_m4025 41 [v0, v1] sk (fun pc lc sk st => am_g d X am_m4025 pc lc sk st Q) Q)) := am_gu.trans rfl
theorem u4025_44 {a0 : Value} {a1 : Value} {a2 : Value} {v0 : Value} {v1 : Value} : am_g d X am_m4025 44 [v0, v1] (a2 :: a1 :: a0 :: .ref o :: sk) st Q = ((am_ob st o 1 ∧ sk.length ≤ 5) ∧ am_Ca X d 1002 [.ref o, a0, a1, a2] st (am_af am_m4025 44 [v0, v1] sk (fun pc lc sk st => am_g d X am_m4025 pc lc sk st Q) Q)) := am_gu.trans rfl
theorem u4025_47 {v0 : Value} {v1 : Value} {x : Int32} : am_g d X am_m4025 47 [v0, v1] (.int x :: sk) st Q = (if decide (¬ x = 0) = true then am_g d X am_m4025 54 [v0, v1] sk st Q else am_g d X am_m4025 50 [v0, v1] sk st Q) := am_gu.trans rfl
theorem u4025_50 {v0 : Value} {v1 : Value} : am_g d X am_m4025 50 [v0, v1] sk st Q = am_g d X am_m4025 51 [v0, v1] (.int (am_i 1) :: sk) st Q := am_gu.trans rfl
theorem u4025_51 {v0 : Value} {v1 : Value} : am_g d X am_m4025 51 [v0, v1] sk st Q = am_g d X am_m4025 55 [v0, v1] sk st Q := am_gu.trans rfl
theorem u4025_54 {v0 : Value} {v1 : Value} : am_g d X am_m4025 54 [v0, v1] sk st Q = am_g d X am_m4025 55 [v0, v1] (.int (am_i 0) :: sk) st Q := am_gu.trans rfl
theorem u4025_55 {v0 : Value} {v1 : Value} {x : Int32} : am_g d X am_m4025 55 [v0, v1] [.int x] st Q = ((x = 0 ∨ x = 1) ∧ Q (.inl (some (.int x))) st) := am_gu.trans rfl
set_option maxRecDepth 100000 in
theorem of_4026 : am_of 4026 = some am_m4026 := rfl
theorem c4026 {z a0} {P : am_Q} : am_Ca X (d + 1) 4026 [.ref z, .int a0] st P = am_g d X am_m4026 0 [.ref z, .int a0] [] st P := am_cg of_4026 (by show 2 ≤ 2; decide)
theorem hd_4026 : am_hd am_m4026 = [] := rfl
theorem u4026_0 {v1 : Value} {x : Nat} : am_g d X am_m4026 0 [.ref x, v1] sk st Q = am_g d X am_m4026 1 [.ref x, v1] (.ref x :: sk) st Q := am_gu.trans rfl
theorem u4026_1 {v0 : Value} {v1 : Value} : am_g d X am_m4026 1 [v0, v1] sk st Q = am_gt 129 4 [v0, v1] sk st (fun pc lc sk st => am_g d X am_m4026 pc lc sk st Q) := am_gu.trans rfl
theorem u4026_4 {v1 : Value} {x : Nat} : am_g d X am_m4026 4 [.ref x, v1] sk st Q = am_g d X am_m4026 5 [.ref x, v1] (.ref x :: sk) st Q := am_gu.trans rfl
theorem u4026_5 {v0 : Value} {v1 : Value} : am_g d X am_m4026 5 [v0, v1] sk st Q = am_gt 128 8 [v0, v1] sk st (fun pc lc sk st => am_g d X am_m4026 pc lc sk st Q) := am_gu.trans rfl
theorem u4026_8 {v0 : Value} {x : Int32} : am_g d X am_m4026 8 [v0, .int x] sk st Q = am_g d X am_m4026 9 [v0, .int x] (.int x :: sk) st Q := am_gu.trans rfl
theorem u4026_9 {v1 : Value} {x : Nat} : am_g d X am_m4026 9 [.ref x, v1] sk st Q = am_g d X am_m4026 10 [.ref x, v1] (.ref x :: sk) st Q := am_gu.trans rfl
theorem u4026_10 {v0 : Value} {v1 : Value} : am_g d X am_m4026 10 [v0, v1] sk st Q = am_gt 128 13 [v0, v1] sk st (fun pc lc sk st => am_g d X am_m4026 pc lc sk st Q) := am_gu.trans rfl
theorem u4026_13 {v0 : Value} {v1 : Value} : am_g d X am_m4026 13 [v0, v1] (.ref o :: sk) st Q = ((am_ob st o 5 ∧ sk.length ≤ 5) ∧ am_Ca X d 5016 [.ref o] st (am_af am_m4026 13 [v0, v1] sk (fun pc lc sk st => am_g d X am_m4026 pc lc sk st Q) Q)) := am_gu.trans rfl
theorem u4026_16 {a0 : Value} {a1 : Value} {a2 : Value} {v0 : Value} {v1 : Value} : am_g d X am_m4026 16 [v0, v1] (a2 :: a1 :: a0 :: .ref o :: sk) st Q = ((am_ob st o 1 ∧ sk.length ≤ 5) ∧ am_Ca X d 1002 [.ref o, a0, a1, a2] st (am_af am_m4026 16 [v0, v1] sk (fun pc lc sk st => am_g d X am_m4026 pc lc sk st Q) Q)) := am_gu.trans rfl
theorem u4026_19 {v0 : Value} {v1 : Value} {x : Int32} : am_g d X am_m4026 19 [v0, v1] [.int x] st Q = ((x = 0 ∨ x = 1) ∧ Q (.inl (some (.int x))) st) := am_gu.trans rfl
set_option maxRecDepth 100000 in
theorem of_4027 : am_of 4027 = some am_m4027 := rfl
theorem c4027 {z a0} {P : am_Q} : am_Ca X (d + 1) 4027 [.ref z, .int a0] st P = am_g d X am_m4027 0 [.ref z, .int a0, am_u] [] st P := am_cg of_4027 (by show 2 ≤ 3; decide)
theorem hd_4027 : am_hd am_m4027 = [] := rfl
theorem u4027_0 {v1 : Value} {v2 : Value} {x : Nat} : am_g d X am_m4027 0 [.ref x, v1, v2] sk st Q = am_g d X am_m4027 1 [.ref x, v1, v2] (.ref x :: sk) st Q := am_gu.trans rfl
theorem u4027_1 {v0 : Value} {v1 : Value} {v2 : Value} : am_g d X am_m4027 1 [v0, v1, v2] sk st Q = am_gt 128 4 [v0, v1, v2] sk st (fun pc lc sk st => am_g d X am_m4027 pc lc sk st Q) := am_gu.trans rfl
theorem u4027_4 {v0 : Value} {v1 : Value} {v2 : Value} : am_g d X am_m4027 4 [v0, v1, v2] (.ref o :: sk) st Q = ((am_ob st o 5 ∧ sk.length ≤ 5) ∧ am_Ca X d 5016 [.ref o] st (am_af am_m4027 4 [v0, v1, v2] sk (fun pc lc sk st => am_g d X am_m4027 pc lc sk st Q) Q)) := am_gu.trans rfl
theorem u4027_7 {v0 : Value} {v1 : Value} {v2 : Value} {x : Int32} : am_g d X am_m4027 7 [v0, v1, v2] (.int x :: sk) st Q = am_g d X am_m4027 8 [v0, am_kc v1, .int x] sk st Q := am_gu.trans (congrArg (fun l => am_g d X am_m4027 8 (List.set l 2 (.int x)) sk st Q) (kl_2 (l := [v2])))
theorem u4027_8 {v1 : Value} {v2 : Value} {x : Nat} : am_g d X am_m4027 8 [.ref x, v1, v2] sk st Q = am_g d X am_m4027 9 [.ref x, v1, v2] (.ref x :: sk) st Q := am_gu.trans rfl
theorem u4027_9 {v0 : Value} {v1 : Value} {v2 : Value} : am_g d X am_m4027 9 [v0, v1, v2] sk st Q = am_gt 128 12 [v0, v1, v2] sk st (fun pc lc sk st => am_g d X am_m4027 pc lc sk st Q) := am_gu.trans rfl
theorem u4027_12 {v1 : Value} {v2 : Value} {x : Nat} : am_g d X am_m4027 12 [.ref x, v1, v2] sk st Q = am_g d X am_m4027 13 [.ref x, v1, v2] (.ref x :: sk) st Q := am_gu.trans rfl
theorem u4027_13 {v0 : Value} {v1 : Value} {v2 : Value} : am_g d X am_m4027 13 [v0, v1, v2] sk st Q = am_gt 129 16 [v0, v1, v2] sk st (fun pc lc sk st => am_g d X am_m4027 pc lc sk st Q) := am_gu.trans rfl
theorem u4027_16 {v1 : Value} {v2 : Value} {x : Nat} : am_g d X am_m4027 16 [.ref x, v1, v2] sk st Q = am_g d X am_m4027 17 [.ref x, v1, v2] (.ref x :: sk) st Q := am_gu.trans rfl
theorem u4027_17 {v0 : Value} {v1 : Value} {v2 : Value} : am_g d X am_m4027 17 [v0, v1, v2] sk st Q = am_gt 128 20 [v0, v1, v2] sk st (fun pc lc sk st => am_g d X am_m4027 pc lc sk st Q) := am_gu.trans rfl
theorem u4027_20 {v0 : Value} {v1 : Value} {x : Int32} : am_g d X am_m4027 20 [v0, v1, .int x] sk st Q = am_g d X am_m4027 21 [v0, v1, .int x] (.int x :: sk) st Q := am_gu.trans rfl
theorem u4027_21 {v0 : Value} {v2 : Value} {x : Int32} : am_g d X am_m4027 21 [v0, .int x, v2] sk st Q = am_g d X am_m4027 22 [v0, .int x, v2] (.int x :: sk) st Q := am_gu.trans rfl
theorem u4027_22 {a0 : Value} {a1 : Value} {a2 : Value} {v0 : Value} {v1 : Value} {v2 : Value} : am_g d X am_m4027 22 [v0, v1, v2] (a2 :: a1 :: a0 :: .ref o :: sk) st Q = ((am_ob st o 1 ∧ sk.length ≤ 5) ∧ am_Ca X d 1011 [.ref o, a0, a1, a2] st (am_af am_m4027 22 [v0, v1, v2] sk (fun pc lc sk st => am_g d X am_m4027 pc lc sk st Q) Q)) := am_gu.trans rfl
theorem u4027_25 {v1 : Value} {v2 : Value} {x : Nat} : am_g d X am_m4027 25 [.ref x, v1, v2] sk st Q = am_g d X am_m4027 26 [.ref x, v1, v2] (.ref x :: sk) st Q := am_gu.trans rfl
theorem u4027_26 {v0 : Value} {v1 : Value} {v2 : Value} : am_g d X am_m4027 26 [v0, v1, v2] sk st Q = am_gt 130 29 [v0, v1, v2] sk st (fun pc lc sk st => am_g d X am_m4027 pc lc sk st Q) := am_gu.trans rfl
theorem u4027_29 {v0 : Value} {v1 : Value} {v2 : Value} : am_g d X am_m4027 29 [v0, v1, v2] sk st Q = am_gt 0 32 [v0, v1, v2] sk st (fun pc lc sk st => am_g d X am_m4027 pc lc sk st Q) := am_gu.trans rfl
theorem u4027_32 {a0 : Value} {a1 : Value} {v0 : Value} {v1 : Value} {v2 : Value} : am_g d X am_m4027 32 [v0, v1, v2] (a1 :: a0 :: .ref o :: sk) st Q = ((am_ob st o 5 ∧ sk.length ≤ 5) ∧ am_Ca X d 5008 [.ref o, a0, a1] st (am_af am_m4027 32 [v0, v1, v2] sk (fun pc lc sk st => am_g d X am_m4027 pc lc sk st Q) Q)) := am_gu.trans rfl
theorem u4027_35 {v1 : Value} {v2 : Value} {x : Nat} : am_g d X am_m4027 35 [.ref x, v1, v2] sk st Q = am_g d X am_m4027 36 [.ref x, v1, v2] (.ref x :: sk) st Q := am_gu.trans rfl
theorem u4027_36 {v0 : Value} {v1 : Value} {v2 : Value} : am_g d X am_m4027 36 [v0, v1, v2] sk st Q = am_gt 128 39 [v0, v1, v2] sk st (fun pc lc sk st => am_g d X am_m4027 pc lc sk st Q) := am_gu.trans rfl
theorem u4027_39 {v0 : Value} {v2 : Value} {x : Int32} : am_g d X am_m4027 39 [v0, .int x, v2] sk st Q = am_g d X am_m4027 40 [v0, .int x, v2] (.int x :: sk) st Q := am_gu.trans rfl
theorem u4027_40 {v1 : Value} {v2 : Value} {x : Nat} : am_g d X am_m4027 40 [.ref x, v1, v2] sk st Q = am_g d X am_m4027 41 [.ref x, v1, v2] (.ref x :: sk) st Q := am_gu.trans rfl
theorem u4027_41 {v0 : Value} {v1 : Value} {v2 : Value} : am_g d X am_m4027 41 [v0, v1, v2] sk st Q = am_gt 130 44 [v0, v1, v2] sk st (fun pc lc sk st => am_g d X am_m4027 pc lc sk st Q) := am_gu.trans rfl
theorem u4027_44 {v0 : Value} {v1 : Value} {v2 : Value} : am_g d X am_m4027 44 [v0, v1, v2] sk st Q = am_gt 1 47 [v0, v1, v2] sk st (fun pc lc sk st => am_g d X am_m4027 pc lc sk st Q) := am_gu.trans rfl
theorem u4027_47 {a0 : Value} {a1 : Value} {v0 : Value} {v1 : Value} {v2 : Value} : am_g d X am_m4027 47 [v0, v1, v2] (a1 :: a0 :: .ref o :: sk) st Q = ((am_ob st o 5 ∧ sk.length ≤ 5) ∧ am_Ca X d 5008 [.ref o, a0, a1] st (am_af am_m4027 47 [v0, v1, v2] sk (fun pc lc sk st => am_g d X am_m4027 pc lc sk st Q) Q)) := am_gu.trans rfl
theorem u4027_50 {v1 : Value} {v2 : Value} {x : Nat} : am_g d X am_m4027 50 [.ref x, v1, v2] sk st Q = am_g d X am_m4027 51 [.ref x, v1, v2] (.ref x :: sk) st Q := am_gu.trans rfl
theorem u4027_51 {v0 : Value} {v1 : Value} {v2 : Value} : am_g d X am_m4027 51 [v0, v1, v2] sk st Q = am_gt 128 54 [v0, v1, v2] sk st (fun pc lc sk st => am_g d X am_m4027 pc lc sk st Q) := am_gu.trans rfl
theorem u4027_54 {v0 : Value} {v1 : Value} {x : Int32} : am_g d X am_m4027 54 [v0, v1, .int x] sk st Q = am_g d X am_m4027 55 [v0, v1, .int x] (.int x :: sk) st Q := am_gu.trans rfl
theorem u4027_55 {v1 : Value} {v2 : Value} {x : Nat} : am_g d X am_m4027 55 [.ref x, v1, v2] sk st Q = am_g d X am_m4027 56 [.ref x, v1, v2] (.ref x :: sk) st Q := am_gu.trans rfl
theorem u4027_56 {v0 : Value} {v1 : Value} {v2 : Value} : am_g d X am_m4027 56 [v0, v1, v2] sk st Q = am_gt 130 59 [v0, v1, v2] sk st (fun pc lc sk st => am_g d X am_m4027 pc lc sk st Q) := am_gu.trans rfl
theorem u4027_59 {v0 : Value} {v1 : Value} {v2 : Value} : am_g d X am_m4027 59 [v0, v1, v2] sk st Q = am_gt 2 62 [v0, v1, v2] sk st (fun pc lc sk st => am_g d X am_m4027 pc lc sk st Q) := am_gu.trans rfl
theorem u4027_62 {a0 : Value} {a1 : Value} {v0 : Value} {v1 : Value} {v2 : Value} : am_g d X am_m4027 62 [v0, v1, v2] (a1 :: a0 :: .ref o :: sk) st Q = ((am_ob st o 5 ∧ sk.length ≤ 5) ∧ am_Ca X d 5008 [.ref o, a0, a1] st (am_af am_m4027 62 [v0, v1, v2] sk (fun pc lc sk st => am_g d X am_m4027 pc lc sk st Q) Q)) := am_gu.trans rfl
theorem u4027_65 {v1 : Value} {v2 : Value} {x : Nat} : am_g d X am_m4027 65 [.ref x, v1, v2] sk st Q = am_g d X am_m4027 66 [.ref x, v1, v2] (.ref x :: sk) st Q := am_gu.trans rfl
theorem u4027_66 {v0 : Value} {v1 : Value} {v2 : Value} : am_g d X am_m4027 66 [v0, v1, v2] sk st Q = am_gt 130 69 [v0, v1, v2] sk st (fun pc lc sk st => am_g d X am_m4027 pc lc sk st Q) := am_gu.trans rfl
theorem u4027_69 {v0 : Value} {v1 : Value} {v2 : Value} : am_g d X am_m4027 69 [v0, v1, v2] (.ref o :: sk) st Q = ((am_ob st o 0 ∧ sk.length ≤ 5) ∧ am_Ca X d 2 [.ref o] st (am_af am_m4027 69 [v0, v1, v2] sk (fun pc lc sk st => am_g d X am_m4027 pc lc sk st Q) Q)) := am_gu.trans rfl
theorem u4027_72 {v0 : Value} {v1 : Value} {v2 : Value} : am_g d X am_m4027 72 [v0, v1, v2] [] st Q = Q (.inl none) st := am_gu.trans rfl
set_option maxRecDepth 100000 in
theorem of_4028 : am_of 4028 = some am_m4028 := rfl
theorem c4028 {z a0 a1} {P : am_Q} : am_Ca X (d + 1) 4028 [.ref z, .int a0, .int a1] st P = am_g d X am_m4028 0 [.ref z, .int a0, .int a1] [] st P := am_cg of_4028 (by show 3 ≤ 3; decide)
theorem hd_4028 : am_hd am_m4028 = [] := rfl
theorem u4028_0 {v1 : Value} {v2 : Value} {x : Nat} : am_g d X am_m4028 0 [.ref x, v1, v2] sk st Q = am_g d X am_m4028 1 [.ref x, v1, v2] (.ref x :: sk) st Q := am_gu.trans rfl
theorem u4028_1 {v0 : Value} {v2 : Value} {x : Int32} : am_g d X am_m4028 1 [v0, .int x, v2] sk st Q = am_g d X am_m4028 2 [v0, .int x, v2] (.int x :: sk) st Q := am_gu.trans rfl
theorem u4028_2 {v0 : Value} {v1 : Value} {x : Int32} : am_g d X am_m4028 2 [v0, v1, .int x] sk st Q = am_g d X am_m4028 3 [v0, v1, .int x] (.int x :: sk) st Q := am_gu.trans rfl
theorem u4028_3 {a0 : Value} {a1 : Value} {v0 : Value} {v1 : Value} {v2 : Value} : am_g d X am_m4028 3 [v0, v1, v2] (a1 :: a0 :: .ref o :: sk) st Q = ((am_ob st o 4 ∧ sk.length ≤ 5) ∧ am_Ca X d 4030 [.ref o, a0, a1] st (am_af am_m4028 3 [v0, v1, v2] sk (fun pc lc sk st => am_g d X am_m4028 pc lc sk st Q) Q)) := am_gu.trans rfl
theorem u4028_6 {v1 : Value} {v2 : Value} {x : Nat} : am_g d X am_m4028 6 [.ref x, v1, v2] sk st Q = am_g d X am_m4028 7 [.ref x, v1, v2] (.ref x :: sk) st Q := am_gu.trans rfl
theorem u4028_7 {v0 : Value} {v1 : Value} {v2 : Value} : am_g d X am_m4028 7 [v0, v1, v2] sk st Q = am_gt 128 10 [v0, v1, v2] sk st (fun pc lc sk st => am_g d X am_m4028 pc lc sk st Q) := am_gu.trans rfl
theorem u4028_10 {v0 : Value} {v1 : Value} {v2 : Value} : am_g d X am_m4028 10 [v0, v1, v2] sk st Q = am_gt 166 13 [v0, v1, v2] sk st (fun pc lc sk st => am_g d X am_m4028 pc lc sk st Q) := am_gu.trans rfl
theorem u4028_13 {v0 : Value} {v1 : Value} {v2 : Value} : am_g d X am_m4028 13 [v0, v1, v2] sk st Q = am_g d X am_m4028 14 [v0, v1, v2] (.int (am_i 0) :: sk) st Q := am_gu.trans rfl
theorem u4028_14 {v1 : Value} {v2 : Value} {x : Nat} : am_g d X am_m4028 14 [.ref x, v1, v2] sk st Q = am_g d X am_m4028 15 [.ref x, v1, v2] (.ref x :: sk) st Q := am_gu.trans rfl
theorem u4028_15 {v0 : Value} {v1 : Value} {v2 : Value} : am_g d X am_m4028 15 [v0, v1, v2] sk st Q = am_gt 130 18 [v0, v1, v2] sk st (fun pc lc sk st => am_g d X am_m4028 pc lc sk st Q) := am_gu.trans rfl
theorem u4028_18 {v0 : Value} {v1 : Value} {v2 : Value} : am_g d X am_m4028 18 [v0, v1, v2] sk st Q = am_gt 2 21 [v0, v1, v2] sk st (fun pc lc sk st => am_g d X am_m4028 pc lc sk st Q) := am_gu.trans rfl
theorem u4028_21 {v0 : Value} {v1 : Value} {v2 : Value} : am_g d X am_m4028 21 [v0, v1, v2] sk st Q = am_g d X am_m4028 22 [v0, v1, v2] (.int (am_i 0) :: sk) st Q := am_gu.trans rfl
theorem u4028_22 {v0 : Value} {v1 : Value} {v2 : Value} : am_g d X am_m4028 22 [v0, v1, v2] sk st Q = am_g d X am_m4028 24 [v0, v1, v2] (.int (am_i 24) :: sk) st Q := am_gu.trans rfl
theorem u4028_24 {v0 : Value} {v1 : Value} {v2 : Value} : am_g d X am_m4028 24 [v0, v1, v2] sk st Q = am_cp 27 [v0, v1, v2] sk st (fun pc lc sk st => am_g d X am_m4028 pc lc sk st Q) := am_gu.trans rfl
theorem u4028_27 {v1 : Value} {v2 : Value} {x : Nat} : am_g d X am_m4028 27 [.ref x, v1, v2] sk st Q = am_g d X am_m4028 28 [.ref x, v1, v2] (.ref x :: sk) st Q := am_gu.trans rfl
theorem u4028_28 {v0 : Value} {v1 : Value} {v2 : Value} : am_g d X am_m4028 28 [v0, v1, v2] sk st Q = am_gt 130 31 [v0, v1, v2] sk st (fun pc lc sk st => am_g d X am_m4028 pc lc sk st Q) := am_gu.trans rfl
theorem u4028_31 {v0 : Value} {v1 : Value} {v2 : Value} : am_g d X am_m4028 31 [v0, v1, v2] (.ref o :: sk) st Q = ((am_ob st o 0 ∧ sk.length ≤ 5) ∧ am_Ca X d 2 [.ref o] st (am_af am_m4028 31 [v0, v1, v2] sk (fun pc lc sk st => am_g d X am_m4028 pc lc sk st Q) Q)) := am_gu.trans rfl
theorem u4028_34 {v0 : Value} {v1 : Value} {v2 : Value} : am_g d X am_m4028 34 [v0, v1, v2] [] st Q = Q (.inl none) st := am_gu.trans rfl
set_option maxRecDepth 100000 in
theorem of_4029 : am_of 4029 = some am_m4029 := rfl
theorem c4029 {z} {P : am_Q} : am_Ca X (d + 1) 4029 [.ref z] st P = am_g d X am_m4029 0 [.ref z] [] st P := am_cg of_4029 (by show 1 ≤ 1; decide)
theorem hd_4029 : am_hd am_m4029 = [] := rfl
theorem u4029_0 {x : Nat} : am_g d X am_m4029 0 [.ref x] sk st Q = am_g d X am_m4029 1 [.ref x] (.ref x :: sk) st Q := am_gu.trans rfl
theorem u4029_1 {v0 : Value} : am_g d X am_m4029 1 [v0] sk st Q = am_gt 128 4 [v0] sk st (fun pc lc sk st => am_g d X am_m4029 pc lc sk st Q) := am_gu.trans rfl
theorem u4029_4 {x : Nat} : am_g d X am_m4029 4 [.ref x] sk st Q = am_g d X am_m4029 5 [.ref x] (.ref x :: sk) st Q := am_gu.trans rfl
theorem u4029_5 {v0 : Value} : am_g d X am_m4029 5 [v0] sk st Q = am_gt 128 8 [v0] sk st (fun pc lc sk st => am_g d X am_m4029 pc lc sk st Q) := am_gu.trans rfl
theorem u4029_8 {v0 : Value} : am_g d X am_m4029 8 [v0] (.ref o :: sk) st Q = ((am_ob st o 5 ∧ sk.length ≤ 5) ∧ am_Ca X d 5033 [.ref o] st (am_af am_m4029 8 [v0] sk (fun pc lc sk st => am_g d X am_m4029 pc lc sk st Q) Q)) := am_gu.trans rfl
theorem u4029_11 {x : Nat} : am_g d X am_m4029 11 [.ref x] sk st Q = am_g d X am_m4029 12 [.ref x] (.ref x :: sk) st Q := am_gu.trans rfl
theorem u4029_12 {v0 : Value} : am_g d X am_m4029 12 [v0] sk st Q = am_gt 130 15 [v0] sk st (fun pc lc sk st => am_g d X am_m4029 pc lc sk st Q) := am_gu.trans rfl
theorem u4029_15 {v0 : Value} : am_g d X am_m4029 15 [v0] sk st Q = am_gt 0 18 [v0] sk st (fun pc lc sk st => am_g d X am_m4029 pc lc sk st Q) := am_gu.trans rfl
theorem u4029_18 {a0 : Value} {a1 : Value} {v0 : Value} : am_g d X am_m4029 18 [v0] (a1 :: a0 :: .ref o :: sk) st Q = ((am_ob st o 5 ∧ sk.length ≤ 5) ∧ am_Ca X d 5008 [.ref o, a0, a1] st (am_af am_m4029 18 [v0] sk (fun pc lc sk st => am_g d X am_m4029 pc lc sk st Q) Q)) := am_gu.trans rfl
theorem u4029_21 {x : Nat} : am_g d X am_m4029 21 [.ref x] sk st Q = am_g d X am_m4029 22 [.ref x] (.ref x :: sk) st Q := am_gu.trans rfl
theorem u4029_22 {v0 : Value} : am_g d X am_m4029 22 [v0] sk st Q = am_gt 128 25 [v0] sk st (fun pc lc sk st => am_g d X am_m4029 pc lc sk st Q) := am_gu.trans rfl
theorem u4029_25 {x : Nat} : am_g d X am_m4029 25 [.ref x] sk st Q = am_g d X am_m4029 26 [.ref x] (.ref x :: sk) st Q := am_gu.trans rfl
theorem u4029_26 {v0 : Value} : am_g d X am_m4029 26 [v0] sk st Q = am_gt 130 29 [v0] sk st (fun pc lc sk st => am_g d X am_m4029 pc lc sk st Q) := am_gu.trans rfl
theorem u4029_29 {v0 : Value} : am_g d X am_m4029 29 [v0] sk st Q = am_gt 1 32 [v0] sk st (fun pc lc sk st => am_g d X am_m4029 pc lc sk st Q) := am_gu.trans rfl
theorem u4029_32 {a0 : Value} {v0 : Value} : am_g d X am_m4029 32 [v0] (a0 :: .ref o :: sk) st Q = ((am_ob st o 5 ∧ sk.length ≤ 5) ∧ am_Ca X d 5034 [.ref o, a0] st (am_af am_m4029 32 [v0] sk (fun pc lc sk st => am_g d X am_m4029 pc lc sk st Q) Q)) := am_gu.trans rfl
theorem u4029_35 {x : Nat} : am_g d X am_m4029 35 [.ref x] sk st Q = am_g d X am_m4029 36 [.ref x] (.ref x :: sk) st Q := am_gu.trans rfl
theorem u4029_36 {v0 : Value} : am_g d X am_m4029 36 [v0] sk st Q = am_gt 128 39 [v0] sk st (fun pc lc sk st => am_g d X am_m4029 pc lc sk st Q) := am_gu.trans rfl
theorem u4029_39 {v0 : Value} : am_g d X am_m4029 39 [v0] sk st Q = am_gt 166 42 [v0] sk st (fun pc lc sk st => am_g d X am_m4029 pc lc sk st Q) := am_gu.trans rfl
theorem u4029_42 {v0 : Value} : am_g d X am_m4029 42 [v0] sk st Q = am_g d X am_m4029 43 [v0] (.int (am_i 0) :: sk) st Q := am_gu.trans rfl
theorem u4029_43 {x : Nat} : am_g d X am_m4029 43 [.ref x] sk st Q = am_g d X am_m4029 44 [.ref x] (.ref x :: sk) st Q := am_gu.trans rfl
theorem u4029_44 {v0 : Value} : am_g d X am_m4029 44 [v0] sk st Q = am_gt 130 47 [v0] sk st (fun pc lc sk st => am_g d X am_m4029 pc lc sk st Q) := am_gu.trans rfl
theorem u4029_47 {v0 : Value} : am_g d X am_m4029 47 [v0] sk st Q = am_gt 2 50 [v0] sk st (fun pc lc sk st => am_g d X am_m4029 pc lc sk st Q) := am_gu.trans rfl
theorem u4029_50 {v0 : Value} : am_g d X am_m4029 50 [v0] sk st Q = am_g d X am_m4029 51 [v0] (.int (am_i 0) :: sk) st Q := am_gu.trans rfl
theorem u4029_51 {v0 : Value} : am_g d X am_m4029 51 [v0] sk st Q = am_g d X am_m4029 53 [v0] (.int (am_i 24) :: sk) st Q := am_gu.trans rfl
theorem u4029_53 {v0 : Value} : am_g d X am_m4029 53 [v0] sk st Q = am_cp 56 [v0] sk st (fun pc lc sk st => am_g d X am_m4029 pc lc sk st Q) := am_gu.trans rfl
theorem u4029_56 {x : Nat} : am_g d X am_m4029 56 [.ref x] sk st Q = am_g d X am_m4029 57 [.ref x] (.ref x :: sk) st Q := am_gu.trans rfl
theorem u4029_57 {v0 : Value} : am_g d X am_m4029 57 [v0] sk st Q = am_gt 130 60 [v0] sk st (fun pc lc sk st => am_g d X am_m4029 pc lc sk st Q) := am_gu.trans rfl
theorem u4029_60 {v0 : Value} : am_g d X am_m4029 60 [v0] (.ref o :: sk) st Q = ((am_ob st o 0 ∧ sk.length ≤ 5) ∧ am_Ca X d 2 [.ref o] st (am_af am_m4029 60 [v0] sk (fun pc lc sk st => am_g d X am_m4029 pc lc sk st Q) Q)) := am_gu.trans rfl
theorem u4029_63 {v0 : Value} : am_g d X am_m4029 63 [v0] [] st Q = Q (.inl none) st := am_gu.trans rfl
set_option maxRecDepth 100000 in
theorem of_4030 : am_of 4030 = some am_m4030 := rfl
theorem c4030 {z a0 a1} {P : am_Q} : am_Ca X (d + 1) 4030 [.ref z, .int a0, .int a1] st P = am_g d X am_m4030 0 [.ref z, .int a0, .int a1, am_u] [] st P := am_cg of_4030 (by show 3 ≤ 4; decide)
theorem hd_4030 : am_hd am_m4030 = [] := rfl
theorem u4030_0 {v1 : Value} {v2 : Value} {v3 : Value} {x : Nat} : am_g d X am_m4030 0 [.ref x, v1, v2, v3] sk st Q = am_g d X am_m4030 1 [.ref x, v1, v2, v3] (.ref x :: sk) st Q := am_gu.trans rfl
theorem u4030_1 {v0 : Value} {v1 : Value} {v2 : Value} {v3 : Value} : am_g d X am_m4030 1 [v0, v1, v2, v3] sk st Q = am_gt 128 4 [v0, v1, v2, v3] sk st (fun pc lc sk st => am_g d X am_m4030 pc lc sk st Q) := am_gu.trans rfl
theorem u4030_4 {v0 : Value} {v2 : Value} {v3 : Value} {x : Int32} : am_g d X am_m4030 4 [v0, .int x, v2, v3] sk st Q = am_g d X am_m4030 5 [v0, .int x, v2, v3] (.int x :: sk) st Q := am_gu.trans rfl
theorem u4030_5 {a0 : Value} {v0 : Value} {v1 : Value} {v2 : Value} {v3 : Value} : am_g d X am_m4030 5 [v0, v1, v2, v3] (a0 :: .ref o :: sk) st Q = ((am_ob st o 5 ∧ sk.length ≤ 5) ∧ am_Ca X d 5005 [.ref o, a0] st (am_af am_m4030 5 [v0, v1, v2, v3] sk (fun pc lc sk st => am_g d X am_m4030 pc lc sk st Q) Q)) := am_gu.trans rfl
theorem u4030_8 {v0 : Value} {v1 : Value} {v2 : Value} {v3 : Value} {x : Int32} : am_g d X am_m4030 8 [v0, v1, v2, v3] (.int x :: sk) st Q = am_g d X am_m4030 9 [v0, v1, am_kc v2, .int x] sk st Q := am_gu.trans (congrArg (fun l => am_g d X am_m4030 9 (List.set l 3 (.int x)) sk st Q) (kl_3 (l := [v3])))
theorem u4030_9 {v1 : Value} {v2 : Value} {v3 : Value} {x : Nat} : am_g d X am_m4030 9 [.ref x, v1, v2, v3] sk st Q = am_g d X am_m4030 10 [.ref x, v1, v2, v3] (.ref x :: sk) st Q := am_gu.trans rfl
theorem u4030_10 {v0 : Value} {v1 : Value} {v2 : Value} {v3 : Value} : am_g d X am_m4030 10 [v0, v1, v2, v3] sk st Q = am_gt 128 13 [v0, v1, v2, v3] sk st (fun pc lc sk st => am_g d X am_m4030 pc lc sk st Q) := am_gu.trans rfl
theorem u4030_13 {v0 : Value} {v1 : Value} {v3 : Value} {x : Int32} : am_g d X am_m4030 13 [v0, v1, .int x, v3] sk st Q = am_g d X am_m4030 14 [v0, v1, .int x, v3] (.int x :: sk) st Q := am_gu.trans rfl
theorem u4030_14 {v0 : Value} {v1 : Value} {v2 : Value} {v3 : Value} {x : Int32} : am_g d X am_m4030 14 [v0, v1, v2, v3] (.int x :: sk) st Q = (if decide (x = 0) = true then am_g d X am_m4030 21 [v0, v1, v2, v3] sk st Q else am_g d X am_m4030 17 [v0, v1, v2, v3] sk st Q) := am_gu.trans rfl
theorem u4030_17 {v0 : Value} {v2 : Value} {v3 : Value} {x : Int32} : am_g d X am_m4030 17 [v0, .int x, v2, v3] sk st Q = am_g d X am_m4030 18 [v0, .int x, v2, v3] (.int x :: sk) st Q := am_gu.trans rfl
theorem u4030_18 {v0 : Value} {v1 : Value} {v2 : Value} {v3 : Value} : am_g d X am_m4030 18 [v0, v1, v2, v3] sk st Q = am_g d X am_m4030 22 [v0, v1, v2, v3] sk st Q := am_gu.trans rfl
theorem u4030_21 {v0 : Value} {v1 : Value} {v2 : Value} {x : Int32} : am_g d X am_m4030 21 [v0, v1, v2, .int x] sk st Q = am_g d X am_m4030 22 [v0, v1, v2, .int x] (.int x :: sk) st Q := am_gu.trans rfl
theorem u4030_22 {v1 : Value} {v2 : Value} {v3 : Value} {x : Nat} : am_g d X am_m4030 22 [.ref x, v1, v2, v3] sk st Q = am_g d X am_m4030 23 [.ref x, v1, v2, v3] (.ref x :: sk) st Q := am_gu.trans rfl
theorem u4030_23 {v0 : Value} {v1 : Value} {v2 : Value} {v3 : Value} : am_g d X am_m4030 23 [v0, v1, v2, v3] sk st Q = am_gt 130 26 [v0, v1, v2, v3] sk st (fun pc lc sk st => am_g d X am_m4030 pc lc sk st Q) := am_gu.trans rfl
theorem u4030_26 {v0 : Value} {v1 : Value} {v2 : Value} {v3 : Value} : am_g d X am_m4030 26 [v0, v1, v2, v3] sk st Q = am_gt 0 29 [v0, v1, v2, v3] sk st (fun pc lc sk st => am_g d X am_m4030 pc lc sk st Q) := am_gu.trans rfl
theorem u4030_29 {a0 : Value} {a1 : Value} {v0 : Value} {v1 : Value} {v2 : Value} {v3 : Value} : am_g d X am_m4030 29 [v0, v1, v2, v3] (a1 :: a0 :: .ref o :: sk) st Q = ((am_ob st o 5 ∧ sk.length ≤ 5) ∧ am_Ca X d 5008 [.ref o, a0, a1] st (am_af am_m4030 29 [v0, v1, v2, v3] sk (fun pc lc sk st => am_g d X am_m4030 pc lc sk st Q) Q)) := am_gu.trans rfl
theorem u4030_32 {v1 : Value} {v2 : Value} {v3 : Value} {x : Nat} : am_g d X am_m4030 32 [.ref x, v1, v2, v3] sk st Q = am_g d X am_m4030 33 [.ref x, v1, v2, v3] (.ref x :: sk) st Q := am_gu.trans rfl
theorem u4030_33 {v0 : Value} {v1 : Value} {v2 : Value} {v3 : Value} : am_g d X am_m4030 33 [v0, v1, v2, v3] sk st Q = am_gt 128 36 [v0, v1, v2, v3] sk st (fun pc lc sk st => am_g d X am_m4030 pc lc sk st Q) := am_gu.trans rfl
theorem u4030_36 {v0 : Value} {v1 : Value} {v3 : Value} {x : Int32} : am_g d X am_m4030 36 [v0, v1, .int x, v3] sk st Q = am_g d X am_m4030 37 [v0, v1, .int x, v3] (.int x :: sk) st Q := am_gu.trans rfl
theorem u4030_37 {v0 : Value} {v1 : Value} {v2 : Value} {v3 : Value} {x : Int32} : am_g d X am_m4030 37 [v0, v1, v2, v3] (.int x :: sk) st Q = (if decide (x = 0) = true then am_g d X am_m4030 44 [v0, v1, v2, v3] sk st Q else am_g d X am_m4030 40 [v0, v1, v2, v3] sk st Q) := am_gu.trans rfl
theorem u4030_40 {v0 : Value} {v1 : Value} {v2 : Value} {x : Int32} : am_g d X am_m4030 40 [v0, v1, v2, .int x] sk st Q = am_g d X am_m4030 41 [v0, v1, v2, .int x] (.int x :: sk) st Q := am_gu.trans rfl
theorem u4030_41 {v0 : Value} {v1 : Value} {v2 : Value} {v3 : Value} : am_g d X am_m4030 41 [v0, v1, v2, v3] sk st Q = am_g d X am_m4030 45 [v0, v1, v2, v3] sk st Q := am_gu.trans rfl
theorem u4030_44 {v0 : Value} {v2 : Value} {v3 : Value} {x : Int32} : am_g d X am_m4030 44 [v0, .int x, v2, v3] sk st Q = am_g d X am_m4030 45 [v0, .int x, v2, v3] (.int x :: sk) st Q := am_gu.trans rfl
theorem u4030_45 {v1 : Value} {v2 : Value} {v3 : Value} {x : Nat} : am_g d X am_m4030 45 [.ref x, v1, v2, v3] sk st Q = am_g d X am_m4030 46 [.ref x, v1, v2, v3] (.ref x :: sk) st Q := am_gu.trans rfl
theorem u4030_46 {v0 : Value} {v1 : Value} {v2 : Value} {v3 : Value} : am_g d X am_m4030 46 [v0, v1, v2, v3] sk st Q = am_gt 130 49 [v0, v1, v2, v3] sk st (fun pc lc sk st => am_g d X am_m4030 pc lc sk st Q) := am_gu.trans rfl
theorem u4030_49 {v0 : Value} {v1 : Value} {v2 : Value} {v3 : Value} : am_g d X am_m4030 49 [v0, v1, v2, v3] sk st Q = am_gt 1 52 [v0, v1, v2, v3] sk st (fun pc lc sk st => am_g d X am_m4030 pc lc sk st Q) := am_gu.trans rfl
theorem u4030_52 {a0 : Value} {a1 : Value} {v0 : Value} {v1 : Value} {v2 : Value} {v3 : Value} : am_g d X am_m4030 52 [v0, v1, v2, v3] (a1 :: a0 :: .ref o :: sk) st Q = ((am_ob st o 5 ∧ sk.length ≤ 5) ∧ am_Ca X d 5008 [.ref o, a0, a1] st (am_af am_m4030 52 [v0, v1, v2, v3] sk (fun pc lc sk st => am_g d X am_m4030 pc lc sk st Q) Q)) := am_gu.trans rfl
theorem u4030_55 {v0 : Value} {v1 : Value} {v2 : Value} {v3 : Value} : am_g d X am_m4030 55 [v0, v1, v2, v3] [] st Q = Q (.inl none) st := am_gu.trans rfl
set_option maxRecDepth 100000 in
theorem of_4031 : am_of 4031 = some am_m4031 := rfl
theorem c4031 {z} {P : am_Q} : am_Ca X (d + 1) 4031 [.ref z] st P = am_g d X am_m4031 0 [.ref z] [] st P := am_cg of_4031 (by show 1 ≤ 1; decide)
theorem hd_4031 : am_hd am_m4031 = [] := rfl
theorem u4031_0 {x : Nat} : am_g d X am_m4031 0 [.ref x] sk st Q = am_g d X am_m4031 1 [.ref x] (.ref x :: sk) st Q := am_gu.trans rfl
theorem u4031_1 {v0 : Value} : am_g d X am_m4031 1 [v0] sk st Q = am_gt 130 4 [v0] sk st (fun pc lc sk st => am_g d X am_m4031 pc lc sk st Q) := am_gu.trans rfl
theorem u4031_4 {v0 : Value} : am_g d X am_m4031 4 [v0] sk st Q = am_gt 2 7 [v0] sk st (fun pc lc sk st => am_g d X am_m4031 pc lc sk st Q) := am_gu.trans rfl
theorem u4031_7 {v0 : Value} : am_g d X am_m4031 7 [v0] sk st Q = am_g d X am_m4031 8 [v0] (.int (am_i 0) :: sk) st Q := am_gu.trans rfl
theorem u4031_8 {x : Nat} : am_g d X am_m4031 8 [.ref x] sk st Q = am_g d X am_m4031 9 [.ref x] (.ref x :: sk) st Q := am_gu.trans rfl
theorem u4031_9 {v0 : Value} : am_g d X am_m4031 9 [v0] sk st Q = am_gt 128 12 [v0] sk st (fun pc lc sk st => am_g d X am_m4031 pc lc sk st Q) := am_gu.trans rfl
theorem u4031_12 {v0 : Value} : am_g d X am_m4031 12 [v0] sk st Q = am_gt 166 15 [v0] sk st (fun pc lc sk st => am_g d X am_m4031 pc lc sk st Q) := am_gu.trans rfl
theorem u4031_15 {v0 : Value} : am_g d X am_m4031 15 [v0] sk st Q = am_g d X am_m4031 16 [v0] (.int (am_i 0) :: sk) st Q := am_gu.trans rfl
theorem u4031_16 {v0 : Value} : am_g d X am_m4031 16 [v0] sk st Q = am_g d X am_m4031 18 [v0] (.int (am_i 24) :: sk) st Q := am_gu.trans rfl
theorem u4031_18 {v0 : Value} : am_g d X am_m4031 18 [v0] sk st Q = am_cp 21 [v0] sk st (fun pc lc sk st => am_g d X am_m4031 pc lc sk st Q) := am_gu.trans rfl
theorem u4031_21 {x : Nat} : am_g d X am_m4031 21 [.ref x] sk st Q = am_g d X am_m4031 22 [.ref x] (.ref x :: sk) st Q := am_gu.trans rfl
theorem u4031_22 {v0 : Value} : am_g d X am_m4031 22 [v0] sk st Q = am_gt 130 25 [v0] sk st (fun pc lc sk st => am_g d X am_m4031 pc lc sk st Q) := am_gu.trans rfl
theorem u4031_25 {v0 : Value} : am_g d X am_m4031 25 [v0] sk st Q = am_gt 3 28 [v0] sk st (fun pc lc sk st => am_g d X am_m4031 pc lc sk st Q) := am_gu.trans rfl
theorem u4031_28 {v0 : Value} : am_g d X am_m4031 28 [v0] sk st Q = am_g d X am_m4031 29 [v0] (.int (am_i 0) :: sk) st Q := am_gu.trans rfl
theorem u4031_29 {x : Nat} : am_g d X am_m4031 29 [.ref x] sk st Q = am_g d X am_m4031 30 [.ref x] (.ref x :: sk) st Q := am_gu.trans rfl
theorem u4031_30 {v0 : Value} : am_g d X am_m4031 30 [v0] sk st Q = am_gt 128 33 [v0] sk st (fun pc lc sk st => am_g d X am_m4031 pc lc sk st Q) := am_gu.trans rfl
theorem u4031_33 {v0 : Value} : am_g d X am_m4031 33 [v0] sk st Q = am_gt 167 36 [v0] sk st (fun pc lc sk st => am_g d X am_m4031 pc lc sk st Q) := am_gu.trans rfl
theorem u4031_36 {v0 : Value} : am_g d X am_m4031 36 [v0] sk st Q = am_g d X am_m4031 37 [v0] (.int (am_i 0) :: sk) st Q := am_gu.trans rfl
theorem u4031_37 {v0 : Value} : am_g d X am_m4031 37 [v0] sk st Q = am_g d X am_m4031 39 [v0] (.int (am_i 24) :: sk) st Q := am_gu.trans rfl
theorem u4031_39 {v0 : Value} : am_g d X am_m4031 39 [v0] sk st Q = am_cp 42 [v0] sk st (fun pc lc sk st => am_g d X am_m4031 pc lc sk st Q) := am_gu.trans rfl
theorem u4031_42 {v0 : Value} : am_g d X am_m4031 42 [v0] [] st Q = Q (.inl none) st := am_gu.trans rfl
set_option maxRecDepth 100000 in
theorem of_4032 : am_of 4032 = some am_m4032 := rfl
theorem c4032 {z a0 a1} {P : am_Q} : am_Ca X (d + 1) 4032 [.ref z, .int a0, .int a1] st P = am_g d X am_m4032 0 [.ref z, .int a0, .int a1] [] st P := am_cg of_4032 (by show 3 ≤ 3; decide)
theorem hd_4032 : am_hd am_m4032 = [] := rfl
theorem u4032_0 {v1 : Value} {v2 : Value} {x : Nat} : am_g d X am_m4032 0 [.ref x, v1, v2] sk st Q = am_g d X am_m4032 1 [.ref x, v1, v2] (.ref x :: sk) st Q := am_gu.trans rfl
theorem u4032_1 {v0 : Value} {v1 : Value} {v2 : Value} : am_g d X am_m4032 1 [v0, v1, v2] (.ref o :: sk) st Q = ((am_ob st o 4 ∧ sk.length ≤ 5) ∧ am_Ca X d 4031 [.ref o] st (am_af am_m4032 1 [v0, v1, v2] sk (fun pc lc sk st => am_g d X am_m4032 pc lc sk st Q) Q)) := am_gu.trans rfl
theorem u4032_4 {v1 : Value} {v2 : Value} {x : Nat} : am_g d X am_m4032 4 [.ref x, v1, v2] sk st Q = am_g d X am_m4032 5 [.ref x, v1, v2] (.ref x :: sk) st Q := am_gu.trans rfl
theorem u4032_5 {v0 : Value} {v1 : Value} {v2 : Value} : am_g d X am_m4032 5 [v0, v1, v2] sk st Q = am_gt 130 8 [v0, v1, v2] sk st (fun pc lc sk st => am_g d X am_m4032 pc lc sk st Q) := am_gu.trans rfl
theorem u4032_8 {v0 : Value} {v1 : Value} {v2 : Value} : am_g d X am_m4032 8 [v0, v1, v2] sk st Q = am_gt 5 11 [v0, v1, v2] sk st (fun pc lc sk st => am_g d X am_m4032 pc lc sk st Q) := am_gu.trans rfl
theorem u4032_11 {v0 : Value} {v1 : Value} {v2 : Value} {x : Int32} : am_g d X am_m4032 11 [v0, v1, v2] (.int x :: sk) st Q = (if decide (¬ x = 0) = true then am_g d X am_m4032 25 [v0, v1, v2] sk st Q else am_g d X am_m4032 14 [v0, v1, v2] sk st Q) := am_gu.trans rfl
theorem u4032_14 {v1 : Value} {v2 : Value} {x : Nat} : am_g d X am_m4032 14 [.ref x, v1, v2] sk st Q = am_g d X am_m4032 15 [.ref x, v1, v2] (.ref x :: sk) st Q := am_gu.trans rfl
theorem u4032_15 {v0 : Value} {v1 : Value} {v2 : Value} : am_g d X am_m4032 15 [v0, v1, v2] sk st Q = am_gt 128 18 [v0, v1, v2] sk st (fun pc lc sk st => am_g d X am_m4032 pc lc sk st Q) := am_gu.trans rfl
theorem u4032_18 {v0 : Value} {v1 : Value} {x : Int32} : am_g d X am_m4032 18 [v0, v1, .int x] sk st Q = am_g d X am_m4032 19 [v0, v1, .int x] (.int x :: sk) st Q := am_gu.trans rfl
theorem u4032_19 {a0 : Value} {v0 : Value} {v1 : Value} {v2 : Value} : am_g d X am_m4032 19 [v0, v1, v2] (a0 :: .ref o :: sk) st Q = ((am_ob st o 5 ∧ sk.length ≤ 5) ∧ am_Ca X d 5013 [.ref o, a0] st (am_af am_m4032 19 [v0, v1, v2] sk (fun pc lc sk st => am_g d X am_m4032 pc lc sk st Q) Q)) := am_gu.trans rfl
theorem u4032_22i {v0 : Value} {v1 : Value} {v2 : Value} {x : Int32} : am_g d X am_m4032 22 [v0, v1, v2] (.int x :: sk) st Q = am_g d X am_m4032 23 [v0, v1, v2] sk st Q := am_gu.trans rfl
theorem u4032_22r {v0 : Value} {v1 : Value} {v2 : Value} {x : Nat} : am_g d X am_m4032 22 [v0, v1, v2] (.ref x :: sk) st Q = am_g d X am_m4032 23 [v0, v1, v2] sk st Q := am_gu.trans rfl
theorem u4032_23 {v0 : Value} {v1 : Value} {v2 : Value} : am_g d X am_m4032 23 [v0, v1, v2] sk st Q = am_g d X am_m4032 24 [v0, v1, v2] (.int (am_i 0) :: sk) st Q := am_gu.trans rfl
theorem u4032_24 {v0 : Value} {v1 : Value} {v2 : Value} {x : Int32} : am_g d X am_m4032 24 [v0, v1, v2] [.int x] st Q = Q (.inl (some (.int x))) st := am_gu.trans rfl
theorem u4032_25 {v1 : Value} {v2 : Value} {x : Nat} : am_g d X am_m4032 25 [.ref x, v1, v2] sk st Q = am_g d X am_m4032 26 [.ref x, v1, v2] (.ref x :: sk) st Q := am_gu.trans rfl
theorem u4032_26 {v0 : Value} {v1 : Value} {v2 : Value} : am_g d X am_m4032 26 [v0, v1, v2] sk st Q = am_gt 128 29 [v0, v1, v2] sk st (fun pc lc sk st => am_g d X am_m4032 pc lc sk st Q) := am_gu.trans rfl
theorem u4032_29 {v0 : Value} {v2 : Value} {x : Int32} : am_g d X am_m4032 29 [v0, .int x, v2] sk st Q = am_g d X am_m4032 30 [v0, .int x, v2] (.int x :: sk) st Q := am_gu.trans rfl
theorem u4032_30 {v0 : Value} {v1 : Value} {v2 : Value} : am_g d X am_m4032 30 [v0, v1, v2] sk st Q = am_pt 168 33 [v0, v1, v2] sk st (fun pc lc sk st => am_g d X am_m4032 pc lc sk st Q) := am_gu.trans rfl
theorem u4032_33 {v1 : Value} {v2 : Value} {x : Nat} : am_g d X am_m4032 33 [.ref x, v1, v2] sk st Q = am_g d X am_m4032 34 [.ref x, v1, v2] (.ref x :: sk) st Q := am_gu.trans rfl
theorem u4032_34 {v0 : Value} {v1 : Value} {v2 : Value} : am_g d X am_m4032 34 [v0, v1, v2] sk st Q = am_gt 128 37 [v0, v1, v2] sk st (fun pc lc sk st => am_g d X am_m4032 pc lc sk st Q) := am_gu.trans rfl
theorem u4032_37 {v0 : Value} {v1 : Value} {x : Int32} : am_g d X am_m4032 37 [v0, v1, .int x] sk st Q = am_g d X am_m4032 38 [v0, v1, .int x] (.int x :: sk) st Q := am_gu.trans rfl
theorem u4032_38 {v0 : Value} {v1 : Value} {v2 : Value} : am_g d X am_m4032 38 [v0, v1, v2] sk st Q = am_pt 169 41 [v0, v1, v2] sk st (fun pc lc sk st => am_g d X am_m4032 pc lc sk st Q) := am_gu.trans rfl
theorem u4032_41 {v1 : Value} {v2 : Value} {x : Nat} : am_g d X am_m4032 41 [.ref x, v1, v2] sk st Q = am_g d X am_m4032 42 [.ref x, v1, v2] (.ref x :: sk) st Q := am_gu.trans rfl
theorem u4032_42 {v0 : Value} {v1 : Value} {v2 : Value} : am_g d X am_m4032 42 [v0, v1, v2] sk st Q = am_gt 128 45 [v0, v1, v2] sk st (fun pc lc sk st => am_g d X am_m4032 pc lc sk st Q) := am_gu.trans rfl
theorem u4032_45i {v0 : Value} {v1 : Value} {v2 : Value} {x : Int32} : am_g d X am_m4032 45 [v0, v1, v2] (.int x :: sk) st Q = am_g d X am_m4032 46 [v0, v1, v2] (.int x :: .int x :: sk) st Q := am_gu.trans rfl
theorem u4032_45r {v0 : Value} {v1 : Value} {v2 : Value} {x : Nat} : am_g d X am_m4032 45 [v0, v1, v2] (.ref x :: sk) st Q = am_g d X am_m4032 46 [v0, v1, v2] (.ref x :: .ref x :: sk) st Q := am_gu.trans rfl
theorem u4032_46 {v0 : Value} {v1 : Value} {v2 : Value} : am_g d X am_m4032 46 [v0, v1, v2] sk st Q = am_gt 173 49 [v0, v1, v2] sk st (fun pc lc sk st => am_g d X am_m4032 pc lc sk st Q) := am_gu.trans rfl
theorem u4032_49 {v1 : Value} {v2 : Value} {x : Nat} : am_g d X am_m4032 49 [.ref x, v1, v2] sk st Q = am_g d X am_m4032 50 [.ref x, v1, v2] (.ref x :: sk) st Q := am_gu.trans rfl
theorem u4032_50 {v0 : Value} {v1 : Value} {v2 : Value} : am_g d X am_m4032 50 [v0, v1, v2] sk st Q = am_gt 130 53 [v0, v1, v2] sk st (fun pc lc sk st => am_g d X am_m4032 pc lc sk st Q) := am_gu.trans rfl
theorem u4032_53 {v0 : Value} {v1 : Value} {v2 : Value} : am_g d X am_m4032 53 [v0, v1, v2] sk st Q = am_gt 5 56 [v0, v1, v2] sk st (fun pc lc sk st => am_g d X am_m4032 pc lc sk st Q) := am_gu.trans rfl
theorem u4032_56 {v0 : Value} {v1 : Value} {v2 : Value} {x : Int32} {y : Int32} : am_g d X am_m4032 56 [v0, v1, v2] (.int y :: .int x :: sk) st Q = am_g d X am_m4032 57 [v0, v1, v2] (.int (x + y) :: sk) st Q := am_gu.trans rfl
theorem u4032_57 {v0 : Value} {v1 : Value} {v2 : Value} : am_g d X am_m4032 57 [v0, v1, v2] sk st Q = am_pt 173 60 [v0, v1, v2] sk st (fun pc lc sk st => am_g d X am_m4032 pc lc sk st Q) := am_gu.trans rfl
theorem u4032_60 {v1 : Value} {v2 : Value} {x : Nat} : am_g d X am_m4032 60 [.ref x, v1, v2] sk st Q = am_g d X am_m4032 61 [.ref x, v1, v2] (.ref x :: sk) st Q := am_gu.trans rfl
theorem u4032_61 {v0 : Value} {v1 : Value} {v2 : Value} : am_g d X am_m4032 61 [v0, v1, v2] sk st Q = am_gt 130 64 [v0, v1, v2] sk st (fun pc lc sk st => am_g d X am_m4032 pc lc sk st Q) := am_gu.trans rfl
theorem u4032_64 {v0 : Value} {v1 : Value} {v2 : Value} : am_g d X am_m4032 64 [v0, v1, v2] sk st Q = am_gt 5 67 [v0, v1, v2] sk st (fun pc lc sk st => am_g d X am_m4032 pc lc sk st Q) := am_gu.trans rfl
theorem u4032_67 {v0 : Value} {v1 : Value} {v2 : Value} {x : Int32} : am_g d X am_m4032 67 [v0, v1, v2] [.int x] st Q = Q (.inl (some (.int x))) st := am_gu.trans rfl
set_option maxRecDepth 100000 in
theorem of_9000 : am_of 9000 = some am_m9000 := rfl
theorem c9000 {a0 a1} {P : am_Q} : am_Ca X (d + 1) 9000 [.ref a0, .int a1] st P = am_g d X am_m9000 0 [.ref a0, .int a1, am_u, am_u] [] st P := am_cg of_9000 (by show 2 ≤ 4; decide)
theorem hd_9000 : am_hd am_m9000 = [] := rfl
theorem u9000_0 {v0 : Value} {v1 : Value} {v2 : Value} {v3 : Value} : am_g d X am_m9000 0 [v0, v1, v2, v3] sk st Q = am_g d X am_m9000 1 [v0, v1, v2, v3] (.int (am_i 0) :: sk) st Q := am_gu.trans rfl
theorem u9000_1 {v0 : Value} {v1 : Value} {v2 : Value} {v3 : Value} {x : Int32} : am_g d X am_m9000 1 [v0, v1, v2, v3] (.int x :: sk) st Q = am_g d X am_m9000 2 [v0, am_kc v1, .int x, v3] sk st Q := am_gu.trans (congrArg (fun l => am_g d X am_m9000 2 (List.set l 2 (.int x)) sk st Q) (kl_2 (l := [v2, v3])))
theorem u9000_2 {v1 : Value} {v2 : Value} {v3 : Value} {x : Nat} : am_g d X am_m9000 2 [.ref x, v1, v2, v3] sk st Q = am_g d X am_m9000 3 [.ref x, v1, v2, v3] (.ref x :: sk) st Q := am_gu.trans rfl
theorem u9000_3 {v0 : Value} {v1 : Value} {v2 : Value} {v3 : Value} : am_g d X am_m9000 3 [v0, v1, v2, v3] sk st Q = am_al (X.1, X.2.1, d) am_m9000 4 [v0, v1, v2, v3] sk st (fun pc lc sk st => am_g d X am_m9000 pc lc sk st Q) := am_gu.trans rfl
theorem u9000_4 {v0 : Value} {v1 : Value} {v2 : Value} {v3 : Value} {x : Int32} : am_g d X am_m9000 4 [v0, v1, v2, v3] (.int x :: sk) st Q = am_g d X am_m9000 5 [v0, v1, am_kc v2, .int x] sk st Q := am_gu.trans (congrArg (fun l => am_g d X am_m9000 5 (List.set l 3 (.int x)) sk st Q) (kl_3 (l := [v3])))
theorem u9000_5 {v0 : Value} {v1 : Value} {v3 : Value} {x : Int32} : am_g d X am_m9000 5 [v0, v1, .int x, v3] sk st Q = am_g d X am_m9000 6 [v0, v1, .int x, v3] (.int x :: sk) st Q := am_gu.trans rfl
theorem u9000_6 {v0 : Value} {v1 : Value} {v2 : Value} {x : Int32} : am_g d X am_m9000 6 [v0, v1, v2, .int x] sk st Q = am_g d X am_m9000 7 [v0, v1, v2, .int x] (.int x :: sk) st Q := am_gu.trans rfl
theorem u9000_7 {v0 : Value} {v1 : Value} {v2 : Value} {v3 : Value} {x : Int32} {y : Int32} : am_g d X am_m9000 7 [v0, v1, v2, v3] (.int y :: .int x :: sk) st Q = (if decide (y ≤ x) = true then am_g d X am_m9000 20 [v0, v1, v2, v3] sk st Q else am_g d X am_m9000 10 [v0, v1, v2, v3] sk st Q) := am_gu.trans rfl
theorem u9000_10 {v1 : Value} {v2 : Value} {v3 : Value} {x : Nat} : am_g d X am_m9000 10 [.ref x, v1, v2, v3] sk st Q = am_g d X am_m9000 11 [.ref x, v1, v2, v3] (.ref x :: sk) st Q := am_gu.trans rfl
theorem u9000_11 {v0 : Value} {v1 : Value} {v3 : Value} {x : Int32} : am_g d X am_m9000 11 [v0, v1, .int x, v3] sk st Q = am_g d X am_m9000 12 [v0, v1, .int x, v3] (.int x :: sk) st Q := am_gu.trans rfl
theorem u9000_12 {v0 : Value} {v2 : Value} {v3 : Value} {x : Int32} : am_g d X am_m9000 12 [v0, .int x, v2, v3] sk st Q = am_g d X am_m9000 13 [v0, .int x, v2, v3] (.int x :: sk) st Q := am_gu.trans rfl
theorem u9000_13 {v0 : Value} {v1 : Value} {v2 : Value} {v3 : Value} : am_g d X am_m9000 13 [v0, v1, v2, v3] sk st Q = am_xs 14 [v0, v1, v2, v3] sk st (fun pc lc sk st => am_g d X am_m9000 pc lc sk st Q) := am_gu.trans rfl
theorem u9000_14 {v0 : Value} {v1 : Value} {v3 : Value} {x : Int32} : am_g d X am_m9000 14 [v0, v1, .int x, v3] sk st Q = am_g d X am_m9000 17 [v0, am_kc v1, .int (x + am_i 1), v3] sk st Q := am_gu.trans (congrArg (fun l => am_g d X am_m9000 17 (List.set l 2 (.int (x + am_i 1))) sk st Q) (kl_2 (l := [.int x, v3])))
theorem u9000_17 {v0 : Value} {v1 : Value} {v2 : Value} {v3 : Value} : am_g d X am_m9000 17 [v0, v1, v2, v3] sk st Q = am_g d X am_m9000 5 [v0, v1, v2, v3] sk st Q := am_gu.trans rfl
theorem u9000_20 {v0 : Value} {v1 : Value} {v2 : Value} {v3 : Value} : am_g d X am_m9000 20 [v0, v1, v2, v3] [] st Q = Q (.inl none) st := am_gu.trans rfl
end UU
