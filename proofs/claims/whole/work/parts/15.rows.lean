/-! each instruction as a rewriting row -/
section UU
variable {d o n cl sl : Nat} {X : am_X} {sk : List Value} {st : am_S} {Q : am_Q} {sh : Nat → am_D} {F A : Nat → Nat → Int32} {L : Nat → Nat → Int64}
set_option maxRecDepth 100000 in
theorem of_1 : am_of 1 = some am_m1 := rfl
theorem c1 {z} {P : am_Q} : am_Ca X (d + 1) 1 [.ref z] st P = am_g d X am_m1 0 [.ref z] [] st P := am_cg of_1 (by show 1 ≤ 1; decide)
theorem hd_1 : am_hd am_m1 = [] := rfl
theorem u1_0 {x : Nat} : am_g d X am_m1 0 [.ref x] sk st Q = am_g d X am_m1 1 [.ref x] (.ref x :: sk) st Q := am_gu.trans rfl
theorem u1_1 {v0 : Value} : am_g d X am_m1 1 [v0] (.ref o :: sk) st Q = (sk.length ≤ 4 ∧ am_g d X am_m1 4 [v0] sk st Q) := am_gu.trans rfl
theorem u1_4 {x : Nat} : am_g d X am_m1 4 [.ref x] sk st Q = am_g d X am_m1 5 [.ref x] (.ref x :: sk) st Q := am_gu.trans rfl
theorem u1_5 {v0 : Value} : am_g d X am_m1 5 [v0] sk st Q = am_g d X am_m1 7 [v0] (.int (am_i 24) :: sk) st Q := am_gu.trans rfl
theorem u1_7 {v0 : Value} : am_g d X am_m1 7 [v0] sk st Q = am_na 1 none 9 [v0] sk st (fun pc lc sk st => am_g d X am_m1 pc lc sk st Q) := am_gu.trans rfl
theorem u1_9 {v0 : Value} : am_g d X am_m1 9 [v0] sk st Q = am_pt 0 12 [v0] sk st (fun pc lc sk st => am_g d X am_m1 pc lc sk st Q) := am_gu.trans rfl
theorem u1_12 {x : Nat} : am_g d X am_m1 12 [.ref x] sk st Q = am_g d X am_m1 13 [.ref x] (.ref x :: sk) st Q := am_gu.trans rfl
theorem u1_13 {v0 : Value} : am_g d X am_m1 13 [v0] sk st Q = am_g d X am_m1 15 [v0] (.int (am_i 24) :: sk) st Q := am_gu.trans rfl
theorem u1_15 {v0 : Value} : am_g d X am_m1 15 [v0] sk st Q = am_na 1 none 17 [v0] sk st (fun pc lc sk st => am_g d X am_m1 pc lc sk st Q) := am_gu.trans rfl
theorem u1_17 {v0 : Value} : am_g d X am_m1 17 [v0] sk st Q = am_pt 1 20 [v0] sk st (fun pc lc sk st => am_g d X am_m1 pc lc sk st Q) := am_gu.trans rfl
theorem u1_20 {x : Nat} : am_g d X am_m1 20 [.ref x] sk st Q = am_g d X am_m1 21 [.ref x] (.ref x :: sk) st Q := am_gu.trans rfl
theorem u1_21 {v0 : Value} : am_g d X am_m1 21 [v0] sk st Q = am_g d X am_m1 23 [v0] (.int (am_i 24) :: sk) st Q := am_gu.trans rfl
theorem u1_23 {v0 : Value} : am_g d X am_m1 23 [v0] sk st Q = am_na 1 none 25 [v0] sk st (fun pc lc sk st => am_g d X am_m1 pc lc sk st Q) := am_gu.trans rfl
theorem u1_25 {v0 : Value} : am_g d X am_m1 25 [v0] sk st Q = am_pt 2 28 [v0] sk st (fun pc lc sk st => am_g d X am_m1 pc lc sk st Q) := am_gu.trans rfl
theorem u1_28 {x : Nat} : am_g d X am_m1 28 [.ref x] sk st Q = am_g d X am_m1 29 [.ref x] (.ref x :: sk) st Q := am_gu.trans rfl
theorem u1_29 {v0 : Value} : am_g d X am_m1 29 [v0] sk st Q = am_g d X am_m1 31 [v0] (.int (am_i 24) :: sk) st Q := am_gu.trans rfl
theorem u1_31 {v0 : Value} : am_g d X am_m1 31 [v0] sk st Q = am_na 1 none 33 [v0] sk st (fun pc lc sk st => am_g d X am_m1 pc lc sk st Q) := am_gu.trans rfl
theorem u1_33 {v0 : Value} : am_g d X am_m1 33 [v0] sk st Q = am_pt 3 36 [v0] sk st (fun pc lc sk st => am_g d X am_m1 pc lc sk st Q) := am_gu.trans rfl
theorem u1_36 {x : Nat} : am_g d X am_m1 36 [.ref x] sk st Q = am_g d X am_m1 37 [.ref x] (.ref x :: sk) st Q := am_gu.trans rfl
theorem u1_37 {v0 : Value} : am_g d X am_m1 37 [v0] sk st Q = am_g d X am_m1 38 [v0] (.int (am_i 0) :: sk) st Q := am_gu.trans rfl
theorem u1_38 {v0 : Value} : am_g d X am_m1 38 [v0] sk st Q = am_pt 4 41 [v0] sk st (fun pc lc sk st => am_g d X am_m1 pc lc sk st Q) := am_gu.trans rfl
theorem u1_41 {x : Nat} : am_g d X am_m1 41 [.ref x] sk st Q = am_g d X am_m1 42 [.ref x] (.ref x :: sk) st Q := am_gu.trans rfl
theorem u1_42 {v0 : Value} : am_g d X am_m1 42 [v0] sk st Q = am_g d X am_m1 43 [v0] (.int (am_i 0) :: sk) st Q := am_gu.trans rfl
theorem u1_43 {v0 : Value} : am_g d X am_m1 43 [v0] sk st Q = am_pt 5 46 [v0] sk st (fun pc lc sk st => am_g d X am_m1 pc lc sk st Q) := am_gu.trans rfl
theorem u1_46 {v0 : Value} : am_g d X am_m1 46 [v0] [] st Q = Q (.inl none) st := am_gu.trans rfl
set_option maxRecDepth 100000 in
theorem of_2 : am_of 2 = some am_m2 := rfl
theorem c2 {z} {P : am_Q} : am_Ca X (d + 1) 2 [.ref z] st P = am_g d X am_m2 0 [.ref z, am_u, am_u] [] st P := am_cg of_2 (by show 1 ≤ 3; decide)
theorem hd_2 : am_hd am_m2 = [] := rfl
theorem u2_0 {v1 : Value} {v2 : Value} {x : Nat} : am_g d X am_m2 0 [.ref x, v1, v2] sk st Q = am_g d X am_m2 1 [.ref x, v1, v2] (.ref x :: sk) st Q := am_gu.trans rfl
theorem u2_1 {v0 : Value} {v1 : Value} {v2 : Value} : am_g d X am_m2 1 [v0, v1, v2] sk st Q = am_g d X am_m2 2 [v0, v1, v2] (.int (am_i 0) :: sk) st Q := am_gu.trans rfl
theorem u2_2 {v0 : Value} {v1 : Value} {v2 : Value} : am_g d X am_m2 2 [v0, v1, v2] sk st Q = am_pt 4 5 [v0, v1, v2] sk st (fun pc lc sk st => am_g d X am_m2 pc lc sk st Q) := am_gu.trans rfl
theorem u2_5 {v1 : Value} {v2 : Value} {x : Nat} : am_g d X am_m2 5 [.ref x, v1, v2] sk st Q = am_g d X am_m2 6 [.ref x, v1, v2] (.ref x :: sk) st Q := am_gu.trans rfl
theorem u2_6 {v0 : Value} {v1 : Value} {v2 : Value} : am_g d X am_m2 6 [v0, v1, v2] sk st Q = am_g d X am_m2 7 [v0, v1, v2] (.int (am_i 0) :: sk) st Q := am_gu.trans rfl
theorem u2_7 {v0 : Value} {v1 : Value} {v2 : Value} : am_g d X am_m2 7 [v0, v1, v2] sk st Q = am_pt 5 10 [v0, v1, v2] sk st (fun pc lc sk st => am_g d X am_m2 pc lc sk st Q) := am_gu.trans rfl
theorem u2_10 {v0 : Value} {v1 : Value} {v2 : Value} : am_g d X am_m2 10 [v0, v1, v2] sk st Q = am_g d X am_m2 11 [v0, v1, v2] (.int (am_i 0) :: sk) st Q := am_gu.trans rfl
theorem u2_11 {v0 : Value} {v1 : Value} {v2 : Value} {x : Int32} : am_g d X am_m2 11 [v0, v1, v2] (.int x :: sk) st Q = am_g d X am_m2 12 [am_kc v0, .int x, v2] sk st Q := am_gu.trans (congrArg (fun l => am_g d X am_m2 12 (List.set l 1 (.int x)) sk st Q) (kl_1 (l := [v1, v2])))
theorem u2_12 {v0 : Value} {v2 : Value} {x : Int32} : am_g d X am_m2 12 [v0, .int x, v2] sk st Q = am_g d X am_m2 13 [v0, .int x, v2] (.int x :: sk) st Q := am_gu.trans rfl
theorem u2_13 {v0 : Value} {v1 : Value} {v2 : Value} : am_g d X am_m2 13 [v0, v1, v2] sk st Q = am_g d X am_m2 15 [v0, v1, v2] (.int (am_i 24) :: sk) st Q := am_gu.trans rfl
theorem u2_15 {v0 : Value} {v1 : Value} {v2 : Value} {x : Int32} {y : Int32} : am_g d X am_m2 15 [v0, v1, v2] (.int y :: .int x :: sk) st Q = (if decide (y ≤ x) = true then am_g d X am_m2 113 [v0, v1, v2] sk st Q else am_g d X am_m2 18 [v0, v1, v2] sk st Q) := am_gu.trans rfl
theorem u2_18 {v1 : Value} {v2 : Value} {x : Nat} : am_g d X am_m2 18 [.ref x, v1, v2] sk st Q = am_g d X am_m2 19 [.ref x, v1, v2] (.ref x :: sk) st Q := am_gu.trans rfl
theorem u2_19 {v0 : Value} {v1 : Value} {v2 : Value} : am_g d X am_m2 19 [v0, v1, v2] sk st Q = am_gt 3 22 [v0, v1, v2] sk st (fun pc lc sk st => am_g d X am_m2 pc lc sk st Q) := am_gu.trans rfl
theorem u2_22 {v0 : Value} {v2 : Value} {x : Int32} : am_g d X am_m2 22 [v0, .int x, v2] sk st Q = am_g d X am_m2 23 [v0, .int x, v2] (.int x :: sk) st Q := am_gu.trans rfl
theorem u2_23 {v0 : Value} {v1 : Value} {v2 : Value} : am_g d X am_m2 23 [v0, v1, v2] sk st Q = am_g d X am_m2 24 [v0, v1, v2] (.int (am_i (-1)) :: sk) st Q := am_gu.trans rfl
theorem u2_24 {v0 : Value} {v1 : Value} {v2 : Value} : am_g d X am_m2 24 [v0, v1, v2] sk st Q = am_xs 25 [v0, v1, v2] sk st (fun pc lc sk st => am_g d X am_m2 pc lc sk st Q) := am_gu.trans rfl
theorem u2_25 {v1 : Value} {v2 : Value} {x : Nat} : am_g d X am_m2 25 [.ref x, v1, v2] sk st Q = am_g d X am_m2 26 [.ref x, v1, v2] (.ref x :: sk) st Q := am_gu.trans rfl
theorem u2_26 {v0 : Value} {v1 : Value} {v2 : Value} : am_g d X am_m2 26 [v0, v1, v2] sk st Q = am_gt 1 29 [v0, v1, v2] sk st (fun pc lc sk st => am_g d X am_m2 pc lc sk st Q) := am_gu.trans rfl
theorem u2_29 {v0 : Value} {v2 : Value} {x : Int32} : am_g d X am_m2 29 [v0, .int x, v2] sk st Q = am_g d X am_m2 30 [v0, .int x, v2] (.int x :: sk) st Q := am_gu.trans rfl
theorem u2_30 {v0 : Value} {v1 : Value} {v2 : Value} : am_g d X am_m2 30 [v0, v1, v2] sk st Q = am_xl (X.1, X.2.1, d) am_m2 31 [v0, v1, v2] sk st (fun pc lc sk st => am_g d X am_m2 pc lc sk st Q) := am_gu.trans rfl
theorem u2_31 {v0 : Value} {v1 : Value} {v2 : Value} {x : Int32} : am_g d X am_m2 31 [v0, v1, v2] (.int x :: sk) st Q = am_g d X am_m2 32 [v0, am_kc v1, .int x] sk st Q := am_gu.trans (congrArg (fun l => am_g d X am_m2 32 (List.set l 2 (.int x)) sk st Q) (kl_2 (l := [v2])))
theorem u2_32 {v0 : Value} {v1 : Value} {x : Int32} : am_g d X am_m2 32 [v0, v1, .int x] sk st Q = am_g d X am_m2 33 [v0, v1, .int x] (.int x :: sk) st Q := am_gu.trans rfl
theorem u2_33 {v1 : Value} {v2 : Value} {x : Nat} : am_g d X am_m2 33 [.ref x, v1, v2] sk st Q = am_g d X am_m2 34 [.ref x, v1, v2] (.ref x :: sk) st Q := am_gu.trans rfl
theorem u2_34 {v0 : Value} {v1 : Value} {v2 : Value} : am_g d X am_m2 34 [v0, v1, v2] sk st Q = am_gt 0 37 [v0, v1, v2] sk st (fun pc lc sk st => am_g d X am_m2 pc lc sk st Q) := am_gu.trans rfl
theorem u2_37 {v0 : Value} {v2 : Value} {x : Int32} : am_g d X am_m2 37 [v0, .int x, v2] sk st Q = am_g d X am_m2 38 [v0, .int x, v2] (.int x :: sk) st Q := am_gu.trans rfl
theorem u2_38 {v0 : Value} {v1 : Value} {v2 : Value} : am_g d X am_m2 38 [v0, v1, v2] sk st Q = am_xl (X.1, X.2.1, d) am_m2 39 [v0, v1, v2] sk st (fun pc lc sk st => am_g d X am_m2 pc lc sk st Q) := am_gu.trans rfl
theorem u2_39 {v0 : Value} {v1 : Value} {v2 : Value} {x : Int32} {y : Int32} : am_g d X am_m2 39 [v0, v1, v2] (.int y :: .int x :: sk) st Q = (if decide (x = y) = true then am_g d X am_m2 107 [v0, v1, v2] sk st Q else am_g d X am_m2 42 [v0, v1, v2] sk st Q) := am_gu.trans rfl
theorem u2_42 {v0 : Value} {v1 : Value} {x : Int32} : am_g d X am_m2 42 [v0, v1, .int x] sk st Q = am_g d X am_m2 43 [v0, v1, .int x] (.int x :: sk) st Q := am_gu.trans rfl
theorem u2_43 {v1 : Value} {v2 : Value} {x : Nat} : am_g d X am_m2 43 [.ref x, v1, v2] sk st Q = am_g d X am_m2 44 [.ref x, v1, v2] (.ref x :: sk) st Q := am_gu.trans rfl
theorem u2_44 {v0 : Value} {v1 : Value} {v2 : Value} : am_g d X am_m2 44 [v0, v1, v2] sk st Q = am_gt 2 47 [v0, v1, v2] sk st (fun pc lc sk st => am_g d X am_m2 pc lc sk st Q) := am_gu.trans rfl
theorem u2_47 {v0 : Value} {v2 : Value} {x : Int32} : am_g d X am_m2 47 [v0, .int x, v2] sk st Q = am_g d X am_m2 48 [v0, .int x, v2] (.int x :: sk) st Q := am_gu.trans rfl
theorem u2_48 {v0 : Value} {v1 : Value} {v2 : Value} : am_g d X am_m2 48 [v0, v1, v2] sk st Q = am_xl (X.1, X.2.1, d) am_m2 49 [v0, v1, v2] sk st (fun pc lc sk st => am_g d X am_m2 pc lc sk st Q) := am_gu.trans rfl
theorem u2_49 {v0 : Value} {v1 : Value} {v2 : Value} {x : Int32} {y : Int32} : am_g d X am_m2 49 [v0, v1, v2] (.int y :: .int x :: sk) st Q = (if decide (¬ x = y) = true then am_g d X am_m2 55 [v0, v1, v2] sk st Q else am_g d X am_m2 52 [v0, v1, v2] sk st Q) := am_gu.trans rfl
theorem u2_52 {v0 : Value} {v1 : Value} {v2 : Value} : am_g d X am_m2 52 [v0, v1, v2] sk st Q = am_g d X am_m2 107 [v0, v1, v2] sk st Q := am_gu.trans rfl
theorem u2_55 {v1 : Value} {v2 : Value} {x : Nat} : am_g d X am_m2 55 [.ref x, v1, v2] sk st Q = am_g d X am_m2 56 [.ref x, v1, v2] (.ref x :: sk) st Q := am_gu.trans rfl
theorem u2_56 {v0 : Value} {v1 : Value} {v2 : Value} : am_g d X am_m2 56 [v0, v1, v2] sk st Q = am_gt 2 59 [v0, v1, v2] sk st (fun pc lc sk st => am_g d X am_m2 pc lc sk st Q) := am_gu.trans rfl
theorem u2_59 {v0 : Value} {v2 : Value} {x : Int32} : am_g d X am_m2 59 [v0, .int x, v2] sk st Q = am_g d X am_m2 60 [v0, .int x, v2] (.int x :: sk) st Q := am_gu.trans rfl
theorem u2_60 {v0 : Value} {v1 : Value} {v2 : Value} : am_g d X am_m2 60 [v0, v1, v2] sk st Q = am_xl (X.1, X.2.1, d) am_m2 61 [v0, v1, v2] sk st (fun pc lc sk st => am_g d X am_m2 pc lc sk st Q) := am_gu.trans rfl
theorem u2_61 {v1 : Value} {v2 : Value} {x : Nat} : am_g d X am_m2 61 [.ref x, v1, v2] sk st Q = am_g d X am_m2 62 [.ref x, v1, v2] (.ref x :: sk) st Q := am_gu.trans rfl
theorem u2_62 {v0 : Value} {v1 : Value} {v2 : Value} : am_g d X am_m2 62 [v0, v1, v2] sk st Q = am_gt 0 65 [v0, v1, v2] sk st (fun pc lc sk st => am_g d X am_m2 pc lc sk st Q) := am_gu.trans rfl
theorem u2_65 {v0 : Value} {v2 : Value} {x : Int32} : am_g d X am_m2 65 [v0, .int x, v2] sk st Q = am_g d X am_m2 66 [v0, .int x, v2] (.int x :: sk) st Q := am_gu.trans rfl
theorem u2_66 {v0 : Value} {v1 : Value} {v2 : Value} : am_g d X am_m2 66 [v0, v1, v2] sk st Q = am_xl (X.1, X.2.1, d) am_m2 67 [v0, v1, v2] sk st (fun pc lc sk st => am_g d X am_m2 pc lc sk st Q) := am_gu.trans rfl
theorem u2_67 {v0 : Value} {v1 : Value} {v2 : Value} {x : Int32} {y : Int32} : am_g d X am_m2 67 [v0, v1, v2] (.int y :: .int x :: sk) st Q = (if decide (¬ x = y) = true then am_g d X am_m2 90 [v0, v1, v2] sk st Q else am_g d X am_m2 70 [v0, v1, v2] sk st Q) := am_gu.trans rfl
theorem u2_70 {v1 : Value} {v2 : Value} {x : Nat} : am_g d X am_m2 70 [.ref x, v1, v2] sk st Q = am_g d X am_m2 71 [.ref x, v1, v2] (.ref x :: sk) st Q := am_gu.trans rfl
theorem u2_71 {v0 : Value} {v1 : Value} {v2 : Value} : am_g d X am_m2 71 [v0, v1, v2] sk st Q = am_gt 2 74 [v0, v1, v2] sk st (fun pc lc sk st => am_g d X am_m2 pc lc sk st Q) := am_gu.trans rfl
theorem u2_74 {v0 : Value} {v2 : Value} {x : Int32} : am_g d X am_m2 74 [v0, .int x, v2] sk st Q = am_g d X am_m2 75 [v0, .int x, v2] (.int x :: sk) st Q := am_gu.trans rfl
theorem u2_75 {v0 : Value} {v1 : Value} {x : Int32} : am_g d X am_m2 75 [v0, v1, .int x] sk st Q = am_g d X am_m2 76 [v0, v1, .int x] (.int x :: sk) st Q := am_gu.trans rfl
theorem u2_76 {v0 : Value} {v1 : Value} {v2 : Value} : am_g d X am_m2 76 [v0, v1, v2] sk st Q = am_xs 77 [v0, v1, v2] sk st (fun pc lc sk st => am_g d X am_m2 pc lc sk st Q) := am_gu.trans rfl
theorem u2_77 {v1 : Value} {v2 : Value} {x : Nat} : am_g d X am_m2 77 [.ref x, v1, v2] sk st Q = am_g d X am_m2 78 [.ref x, v1, v2] (.ref x :: sk) st Q := am_gu.trans rfl
theorem u2_78i {v0 : Value} {v1 : Value} {v2 : Value} {x : Int32} : am_g d X am_m2 78 [v0, v1, v2] (.int x :: sk) st Q = am_g d X am_m2 79 [v0, v1, v2] (.int x :: .int x :: sk) st Q := am_gu.trans rfl
theorem u2_78r {v0 : Value} {v1 : Value} {v2 : Value} {x : Nat} : am_g d X am_m2 78 [v0, v1, v2] (.ref x :: sk) st Q = am_g d X am_m2 79 [v0, v1, v2] (.ref x :: .ref x :: sk) st Q := am_gu.trans rfl
theorem u2_79 {v0 : Value} {v1 : Value} {v2 : Value} : am_g d X am_m2 79 [v0, v1, v2] sk st Q = am_gt 4 82 [v0, v1, v2] sk st (fun pc lc sk st => am_g d X am_m2 pc lc sk st Q) := am_gu.trans rfl
theorem u2_82 {v0 : Value} {v1 : Value} {v2 : Value} : am_g d X am_m2 82 [v0, v1, v2] sk st Q = am_g d X am_m2 83 [v0, v1, v2] (.int (am_i 1) :: sk) st Q := am_gu.trans rfl
theorem u2_83 {v0 : Value} {v1 : Value} {v2 : Value} {x : Int32} {y : Int32} : am_g d X am_m2 83 [v0, v1, v2] (.int y :: .int x :: sk) st Q = am_g d X am_m2 84 [v0, v1, v2] (.int (x + y) :: sk) st Q := am_gu.trans rfl
theorem u2_84 {v0 : Value} {v1 : Value} {v2 : Value} : am_g d X am_m2 84 [v0, v1, v2] sk st Q = am_pt 4 87 [v0, v1, v2] sk st (fun pc lc sk st => am_g d X am_m2 pc lc sk st Q) := am_gu.trans rfl
theorem u2_87 {v0 : Value} {v1 : Value} {v2 : Value} : am_g d X am_m2 87 [v0, v1, v2] sk st Q = am_g d X am_m2 107 [v0, v1, v2] sk st Q := am_gu.trans rfl
theorem u2_90 {v1 : Value} {v2 : Value} {x : Nat} : am_g d X am_m2 90 [.ref x, v1, v2] sk st Q = am_g d X am_m2 91 [.ref x, v1, v2] (.ref x :: sk) st Q := am_gu.trans rfl
theorem u2_91 {v0 : Value} {v1 : Value} {v2 : Value} : am_g d X am_m2 91 [v0, v1, v2] sk st Q = am_gt 3 94 [v0, v1, v2] sk st (fun pc lc sk st => am_g d X am_m2 pc lc sk st Q) := am_gu.trans rfl
theorem u2_94 {v0 : Value} {v2 : Value} {x : Int32} : am_g d X am_m2 94 [v0, .int x, v2] sk st Q = am_g d X am_m2 95 [v0, .int x, v2] (.int x :: sk) st Q := am_gu.trans rfl
theorem u2_95 {v0 : Value} {v1 : Value} {x : Int32} : am_g d X am_m2 95 [v0, v1, .int x] sk st Q = am_g d X am_m2 96 [v0, v1, .int x] (.int x :: sk) st Q := am_gu.trans rfl
theorem u2_96 {v0 : Value} {v1 : Value} {v2 : Value} : am_g d X am_m2 96 [v0, v1, v2] sk st Q = am_xs 97 [v0, v1, v2] sk st (fun pc lc sk st => am_g d X am_m2 pc lc sk st Q) := am_gu.trans rfl
theorem u2_97 {v1 : Value} {v2 : Value} {x : Nat} : am_g d X am_m2 97 [.ref x, v1, v2] sk st Q = am_g d X am_m2 98 [.ref x, v1, v2] (.ref x :: sk) st Q := am_gu.trans rfl
theorem u2_98i {v0 : Value} {v1 : Value} {v2 : Value} {x : Int32} : am_g d X am_m2 98 [v0, v1, v2] (.int x :: sk) st Q = am_g d X am_m2 99 [v0, v1, v2] (.int x :: .int x :: sk) st Q := am_gu.trans rfl
theorem u2_98r {v0 : Value} {v1 : Value} {v2 : Value} {x : Nat} : am_g d X am_m2 98 [v0, v1, v2] (.ref x :: sk) st Q = am_g d X am_m2 99 [v0, v1, v2] (.ref x :: .ref x :: sk) st Q := am_gu.trans rfl
theorem u2_99 {v0 : Value} {v1 : Value} {v2 : Value} : am_g d X am_m2 99 [v0, v1, v2] sk st Q = am_gt 5 102 [v0, v1, v2] sk st (fun pc lc sk st => am_g d X am_m2 pc lc sk st Q) := am_gu.trans rfl
theorem u2_102 {v0 : Value} {v1 : Value} {v2 : Value} : am_g d X am_m2 102 [v0, v1, v2] sk st Q = am_g d X am_m2 103 [v0, v1, v2] (.int (am_i 1) :: sk) st Q := am_gu.trans rfl
theorem u2_103 {v0 : Value} {v1 : Value} {v2 : Value} {x : Int32} {y : Int32} : am_g d X am_m2 103 [v0, v1, v2] (.int y :: .int x :: sk) st Q = am_g d X am_m2 104 [v0, v1, v2] (.int (x + y) :: sk) st Q := am_gu.trans rfl
theorem u2_104 {v0 : Value} {v1 : Value} {v2 : Value} : am_g d X am_m2 104 [v0, v1, v2] sk st Q = am_pt 5 107 [v0, v1, v2] sk st (fun pc lc sk st => am_g d X am_m2 pc lc sk st Q) := am_gu.trans rfl
theorem u2_107 {v0 : Value} {v2 : Value} {x : Int32} : am_g d X am_m2 107 [v0, .int x, v2] sk st Q = am_g d X am_m2 110 [am_kc v0, .int (x + am_i 1), v2] sk st Q := am_gu.trans (congrArg (fun l => am_g d X am_m2 110 (List.set l 1 (.int (x + am_i 1))) sk st Q) (kl_1 (l := [.int x, v2])))
theorem u2_110 {v0 : Value} {v1 : Value} {v2 : Value} : am_g d X am_m2 110 [v0, v1, v2] sk st Q = am_g d X am_m2 12 [v0, v1, v2] sk st Q := am_gu.trans rfl
theorem u2_113 {v0 : Value} {v1 : Value} {v2 : Value} : am_g d X am_m2 113 [v0, v1, v2] [] st Q = Q (.inl none) st := am_gu.trans rfl
set_option maxRecDepth 100000 in
theorem of_3 : am_of 3 = some am_m3 := rfl
theorem c3 {z} {P : am_Q} : am_Ca X (d + 1) 3 [.ref z] st P = am_g d X am_m3 0 [.ref z] [] st P := am_cg of_3 (by show 1 ≤ 1; decide)
theorem hd_3 : am_hd am_m3 = [] := rfl
theorem u3_0 {x : Nat} : am_g d X am_m3 0 [.ref x] sk st Q = am_g d X am_m3 1 [.ref x] (.ref x :: sk) st Q := am_gu.trans rfl
theorem u3_1 {v0 : Value} : am_g d X am_m3 1 [v0] sk st Q = am_gt 4 4 [v0] sk st (fun pc lc sk st => am_g d X am_m3 pc lc sk st Q) := am_gu.trans rfl
theorem u3_4 {v0 : Value} {x : Int32} : am_g d X am_m3 4 [v0] (.int x :: sk) st Q = (if decide (¬ x = 0) = true then am_g d X am_m3 18 [v0] sk st Q else am_g d X am_m3 7 [v0] sk st Q) := am_gu.trans rfl
theorem u3_7 {x : Nat} : am_g d X am_m3 7 [.ref x] sk st Q = am_g d X am_m3 8 [.ref x] (.ref x :: sk) st Q := am_gu.trans rfl
theorem u3_8 {v0 : Value} : am_g d X am_m3 8 [v0] sk st Q = am_gt 5 11 [v0] sk st (fun pc lc sk st => am_g d X am_m3 pc lc sk st Q) := am_gu.trans rfl
theorem u3_11 {v0 : Value} {x : Int32} : am_g d X am_m3 11 [v0] (.int x :: sk) st Q = (if decide (¬ x = 0) = true then am_g d X am_m3 18 [v0] sk st Q else am_g d X am_m3 14 [v0] sk st Q) := am_gu.trans rfl
theorem u3_14 {v0 : Value} : am_g d X am_m3 14 [v0] sk st Q = am_g d X am_m3 15 [v0] (.int (am_i 1) :: sk) st Q := am_gu.trans rfl
theorem u3_15 {v0 : Value} : am_g d X am_m3 15 [v0] sk st Q = am_g d X am_m3 19 [v0] sk st Q := am_gu.trans rfl
theorem u3_18 {v0 : Value} : am_g d X am_m3 18 [v0] sk st Q = am_g d X am_m3 19 [v0] (.int (am_i 0) :: sk) st Q := am_gu.trans rfl
theorem u3_19 {v0 : Value} {x : Int32} : am_g d X am_m3 19 [v0] [.int x] st Q = ((x = 0 ∨ x = 1) ∧ Q (.inl (some (.int x))) st) := am_gu.trans rfl
set_option maxRecDepth 100000 in
theorem of_1001 : am_of 1001 = some am_m1001 := rfl
theorem c1001 {z} {P : am_Q} : am_Ca X (d + 1) 1001 [.ref z] st P = am_g d X am_m1001 0 [.ref z] [] st P := am_cg of_1001 (by show 1 ≤ 1; decide)
theorem hd_1001 : am_hd am_m1001 = [] := rfl
theorem u1001_0 {x : Nat} : am_g d X am_m1001 0 [.ref x] sk st Q = am_g d X am_m1001 1 [.ref x] (.ref x :: sk) st Q := am_gu.trans rfl
theorem u1001_1 {v0 : Value} : am_g d X am_m1001 1 [v0] (.ref o :: sk) st Q = (sk.length ≤ 4 ∧ am_g d X am_m1001 4 [v0] sk st Q) := am_gu.trans rfl
theorem u1001_4 {x : Nat} : am_g d X am_m1001 4 [.ref x] sk st Q = am_g d X am_m1001 5 [.ref x] (.ref x :: sk) st Q := am_gu.trans rfl
theorem u1001_5 {v0 : Value} : am_g d X am_m1001 5 [v0] sk st Q = am_g d X am_m1001 7 [v0] (.int (am_i 60) :: sk) st Q := am_gu.trans rfl
theorem u1001_7 {v0 : Value} : am_g d X am_m1001 7 [v0] sk st Q = am_na 1 none 9 [v0] sk st (fun pc lc sk st => am_g d X am_m1001 pc lc sk st Q) := am_gu.trans rfl
theorem u1001_9 {v0 : Value} : am_g d X am_m1001 9 [v0] sk st Q = am_pt 32 12 [v0] sk st (fun pc lc sk st => am_g d X am_m1001 pc lc sk st Q) := am_gu.trans rfl
theorem u1001_12 {x : Nat} : am_g d X am_m1001 12 [.ref x] sk st Q = am_g d X am_m1001 13 [.ref x] (.ref x :: sk) st Q := am_gu.trans rfl
theorem u1001_13 {v0 : Value} : am_g d X am_m1001 13 [v0] sk st Q = am_g d X am_m1001 15 [v0] (.int (am_i 60) :: sk) st Q := am_gu.trans rfl
theorem u1001_15 {v0 : Value} : am_g d X am_m1001 15 [v0] sk st Q = am_na 1 none 17 [v0] sk st (fun pc lc sk st => am_g d X am_m1001 pc lc sk st Q) := am_gu.trans rfl
theorem u1001_17 {v0 : Value} : am_g d X am_m1001 17 [v0] sk st Q = am_pt 33 20 [v0] sk st (fun pc lc sk st => am_g d X am_m1001 pc lc sk st Q) := am_gu.trans rfl
theorem u1001_20 {x : Nat} : am_g d X am_m1001 20 [.ref x] sk st Q = am_g d X am_m1001 21 [.ref x] (.ref x :: sk) st Q := am_gu.trans rfl
theorem u1001_21 {v0 : Value} : am_g d X am_m1001 21 [v0] sk st Q = am_g d X am_m1001 23 [v0] (.int (am_i 60) :: sk) st Q := am_gu.trans rfl
theorem u1001_23 {v0 : Value} : am_g d X am_m1001 23 [v0] sk st Q = am_na 1 none 25 [v0] sk st (fun pc lc sk st => am_g d X am_m1001 pc lc sk st Q) := am_gu.trans rfl
theorem u1001_25 {v0 : Value} : am_g d X am_m1001 25 [v0] sk st Q = am_pt 34 28 [v0] sk st (fun pc lc sk st => am_g d X am_m1001 pc lc sk st Q) := am_gu.trans rfl
theorem u1001_28 {v0 : Value} : am_g d X am_m1001 28 [v0] [] st Q = Q (.inl none) st := am_gu.trans rfl
set_option maxRecDepth 100000 in
theorem of_1002 : am_of 1002 = some am_m1002 := rfl
theorem c1002 {z a0 a1 a2} {P : am_Q} : am_Ca X (d + 1) 1002 [.ref z, .ref a0, .int a1, .int a2] st P = am_g d X am_m1002 0 [.ref z, .ref a0, .int a1, .int a2] [] st P := am_cg of_1002 (by show 4 ≤ 4; decide)
theorem hd_1002 : am_hd am_m1002 = [] := rfl
theorem u1002_0 {v1 : Value} {v2 : Value} {v3 : Value} {x : Nat} : am_g d X am_m1002 0 [.ref x, v1, v2, v3] sk st Q = am_g d X am_m1002 1 [.ref x, v1, v2, v3] (.ref x :: sk) st Q := am_gu.trans rfl
theorem u1002_1 {v0 : Value} {v1 : Value} {v2 : Value} {v3 : Value} : am_g d X am_m1002 1 [v0, v1, v2, v3] sk st Q = am_gt 32 4 [v0, v1, v2, v3] sk st (fun pc lc sk st => am_g d X am_m1002 pc lc sk st Q) := am_gu.trans rfl
theorem u1002_4 {v0 : Value} {v1 : Value} {v2 : Value} {v3 : Value} : am_g d X am_m1002 4 [v0, v1, v2, v3] sk st Q = am_g d X am_m1002 5 [v0, v1, v2, v3] (.int (am_i 0) :: sk) st Q := am_gu.trans rfl
theorem u1002_5 {a0 : Value} {a1 : Value} {v0 : Value} {v1 : Value} {v2 : Value} {v3 : Value} : am_g d X am_m1002 5 [v0, v1, v2, v3] (a1 :: a0 :: sk) st Q = (sk.length ≤ 4 ∧ am_Ca X d 9000 [a0, a1] st (am_af am_m1002 5 [v0, v1, v2, v3] sk (fun pc lc sk st => am_g d X am_m1002 pc lc sk st Q) Q)) := am_gu.trans (propext ⟨fun h => ⟨h.1.2, h.2⟩, fun h => ⟨⟨Nat.le_add_left _ _, h.1⟩, h.2⟩⟩)
theorem u1002_8 {v0 : Value} {v2 : Value} {v3 : Value} {x : Nat} : am_g d X am_m1002 8 [v0, .ref x, v2, v3] sk st Q = am_g d X am_m1002 9 [v0, .ref x, v2, v3] (.ref x :: sk) st Q := am_gu.trans rfl
theorem u1002_9 {v0 : Value} {v1 : Value} {v3 : Value} {x : Int32} : am_g d X am_m1002 9 [v0, v1, .int x, v3] sk st Q = am_g d X am_m1002 10 [v0, v1, .int x, v3] (.int x :: sk) st Q := am_gu.trans rfl
theorem u1002_10 {v1 : Value} {v2 : Value} {v3 : Value} {x : Nat} : am_g d X am_m1002 10 [.ref x, v1, v2, v3] sk st Q = am_g d X am_m1002 11 [.ref x, v1, v2, v3] (.ref x :: sk) st Q := am_gu.trans rfl
theorem u1002_11 {v0 : Value} {v1 : Value} {v2 : Value} {v3 : Value} : am_g d X am_m1002 11 [v0, v1, v2, v3] sk st Q = am_gt 32 14 [v0, v1, v2, v3] sk st (fun pc lc sk st => am_g d X am_m1002 pc lc sk st Q) := am_gu.trans rfl
theorem u1002_14 {a0 : Value} {a1 : Value} {a2 : Value} {v0 : Value} {v1 : Value} {v2 : Value} {v3 : Value} : am_g d X am_m1002 14 [v0, v1, v2, v3] (a2 :: a1 :: a0 :: sk) st Q = (sk.length ≤ 4 ∧ am_Ca X d 1017 [a0, a1, a2] st (am_af am_m1002 14 [v0, v1, v2, v3] sk (fun pc lc sk st => am_g d X am_m1002 pc lc sk st Q) Q)) := am_gu.trans (propext ⟨fun h => ⟨h.1.2, h.2⟩, fun h => ⟨⟨Nat.le_add_left _ _, h.1⟩, h.2⟩⟩)
theorem u1002_17 {v1 : Value} {v2 : Value} {v3 : Value} {x : Nat} : am_g d X am_m1002 17 [.ref x, v1, v2, v3] sk st Q = am_g d X am_m1002 18 [.ref x, v1, v2, v3] (.ref x :: sk) st Q := am_gu.trans rfl
theorem u1002_18 {v0 : Value} {v1 : Value} {v2 : Value} {v3 : Value} : am_g d X am_m1002 18 [v0, v1, v2, v3] sk st Q = am_gt 32 21 [v0, v1, v2, v3] sk st (fun pc lc sk st => am_g d X am_m1002 pc lc sk st Q) := am_gu.trans rfl
theorem u1002_21 {v0 : Value} {v1 : Value} {v2 : Value} {x : Int32} : am_g d X am_m1002 21 [v0, v1, v2, .int x] sk st Q = am_g d X am_m1002 22 [v0, v1, v2, .int x] (.int x :: sk) st Q := am_gu.trans rfl
theorem u1002_22 {a0 : Value} {a1 : Value} {v0 : Value} {v1 : Value} {v2 : Value} {v3 : Value} : am_g d X am_m1002 22 [v0, v1, v2, v3] (a1 :: a0 :: sk) st Q = (sk.length ≤ 4 ∧ am_Ca X d 1015 [a0, a1] st (am_af am_m1002 22 [v0, v1, v2, v3] sk (fun pc lc sk st => am_g d X am_m1002 pc lc sk st Q) Q)) := am_gu.trans (propext ⟨fun h => ⟨h.1.2, h.2⟩, fun h => ⟨⟨Nat.le_add_left _ _, h.1⟩, h.2⟩⟩)
theorem u1002_25 {v0 : Value} {v1 : Value} {v2 : Value} {v3 : Value} {x : Int32} : am_g d X am_m1002 25 [v0, v1, v2, v3] [.int x] st Q = ((x = 0 ∨ x = 1) ∧ Q (.inl (some (.int x))) st) := am_gu.trans rfl
set_option maxRecDepth 100000 in
theorem of_1003 : am_of 1003 = some am_m1003 := rfl
theorem c1003 {z a0 a1} {P : am_Q} : am_Ca X (d + 1) 1003 [.ref z, .ref a0, .int a1] st P = am_g d X am_m1003 0 [.ref z, .ref a0, .int a1, am_u, am_u] [] st P := am_cg of_1003 (by show 3 ≤ 5; decide)
theorem hd_1003 : am_hd am_m1003 = [] := rfl
theorem u1003_0 {v1 : Value} {v2 : Value} {v3 : Value} {v4 : Value} {x : Nat} : am_g d X am_m1003 0 [.ref x, v1, v2, v3, v4] sk st Q = am_g d X am_m1003 1 [.ref x, v1, v2, v3, v4] (.ref x :: sk) st Q := am_gu.trans rfl
theorem u1003_1 {v0 : Value} {v1 : Value} {v2 : Value} {v3 : Value} {v4 : Value} : am_g d X am_m1003 1 [v0, v1, v2, v3, v4] sk st Q = am_gt 32 4 [v0, v1, v2, v3, v4] sk st (fun pc lc sk st => am_g d X am_m1003 pc lc sk st Q) := am_gu.trans rfl
theorem u1003_4 {v0 : Value} {v1 : Value} {v2 : Value} {v3 : Value} {v4 : Value} : am_g d X am_m1003 4 [v0, v1, v2, v3, v4] sk st Q = am_g d X am_m1003 5 [v0, v1, v2, v3, v4] (.int (am_i 0) :: sk) st Q := am_gu.trans rfl
theorem u1003_5 {a0 : Value} {a1 : Value} {v0 : Value} {v1 : Value} {v2 : Value} {v3 : Value} {v4 : Value} : am_g d X am_m1003 5 [v0, v1, v2, v3, v4] (a1 :: a0 :: sk) st Q = (sk.length ≤ 4 ∧ am_Ca X d 9000 [a0, a1] st (am_af am_m1003 5 [v0, v1, v2, v3, v4] sk (fun pc lc sk st => am_g d X am_m1003 pc lc sk st Q) Q)) := am_gu.trans (propext ⟨fun h => ⟨h.1.2, h.2⟩, fun h => ⟨⟨Nat.le_add_left _ _, h.1⟩, h.2⟩⟩)
theorem u1003_8 {v0 : Value} {v2 : Value} {v3 : Value} {v4 : Value} {x : Nat} : am_g d X am_m1003 8 [v0, .ref x, v2, v3, v4] sk st Q = am_g d X am_m1003 9 [v0, .ref x, v2, v3, v4] (.ref x :: sk) st Q := am_gu.trans rfl
theorem u1003_9 {v0 : Value} {v1 : Value} {v3 : Value} {v4 : Value} {x : Int32} : am_g d X am_m1003 9 [v0, v1, .int x, v3, v4] sk st Q = am_g d X am_m1003 10 [v0, v1, .int x, v3, v4] (.int x :: sk) st Q := am_gu.trans rfl
theorem u1003_10 {v1 : Value} {v2 : Value} {v3 : Value} {v4 : Value} {x : Nat} : am_g d X am_m1003 10 [.ref x, v1, v2, v3, v4] sk st Q = am_g d X am_m1003 11 [.ref x, v1, v2, v3, v4] (.ref x :: sk) st Q := am_gu.trans rfl
theorem u1003_11 {v0 : Value} {v1 : Value} {v2 : Value} {v3 : Value} {v4 : Value} : am_g d X am_m1003 11 [v0, v1, v2, v3, v4] sk st Q = am_gt 32 14 [v0, v1, v2, v3, v4] sk st (fun pc lc sk st => am_g d X am_m1003 pc lc sk st Q) := am_gu.trans rfl
theorem u1003_14 {a0 : Value} {a1 : Value} {a2 : Value} {v0 : Value} {v1 : Value} {v2 : Value} {v3 : Value} {v4 : Value} : am_g d X am_m1003 14 [v0, v1, v2, v3, v4] (a2 :: a1 :: a0 :: sk) st Q = (sk.length ≤ 4 ∧ am_Ca X d 1017 [a0, a1, a2] st (am_af am_m1003 14 [v0, v1, v2, v3, v4] sk (fun pc lc sk st => am_g d X am_m1003 pc lc sk st Q) Q)) := am_gu.trans (propext ⟨fun h => ⟨h.1.2, h.2⟩, fun h => ⟨⟨Nat.le_add_left _ _, h.1⟩, h.2⟩⟩)
theorem u1003_17 {v0 : Value} {v1 : Value} {v2 : Value} {v3 : Value} {v4 : Value} : am_g d X am_m1003 17 [v0, v1, v2, v3, v4] sk st Q = am_g d X am_m1003 18 [v0, v1, v2, v3, v4] (.int (am_i 0) :: sk) st Q := am_gu.trans rfl
theorem u1003_18 {v0 : Value} {v1 : Value} {v2 : Value} {v3 : Value} {v4 : Value} {x : Int32} : am_g d X am_m1003 18 [v0, v1, v2, v3, v4] (.int x :: sk) st Q = am_g d X am_m1003 19 [v0, v1, am_kc v2, .int x, v4] sk st Q := am_gu.trans (congrArg (fun l => am_g d X am_m1003 19 (List.set l 3 (.int x)) sk st Q) (kl_3 (l := [v3, v4])))
theorem u1003_19 {v0 : Value} {v1 : Value} {v2 : Value} {v3 : Value} {v4 : Value} : am_g d X am_m1003 19 [v0, v1, v2, v3, v4] sk st Q = am_g d X am_m1003 20 [v0, v1, v2, v3, v4] (.int (am_i 0) :: sk) st Q := am_gu.trans rfl
theorem u1003_20 {v0 : Value} {v1 : Value} {v2 : Value} {v3 : Value} {v4 : Value} {x : Int32} : am_g d X am_m1003 20 [v0, v1, v2, v3, v4] (.int x :: sk) st Q = am_g d X am_m1003 22 [v0, v1, v2, am_kc v3, .int x] sk st Q := am_gu.trans (congrArg (fun l => am_g d X am_m1003 22 (List.set l 4 (.int x)) sk st Q) (kl_4 (l := [v4])))
theorem u1003_22 {v0 : Value} {v1 : Value} {v2 : Value} {v3 : Value} {x : Int32} : am_g d X am_m1003 22 [v0, v1, v2, v3, .int x] sk st Q = am_g d X am_m1003 24 [v0, v1, v2, v3, .int x] (.int x :: sk) st Q := am_gu.trans rfl
theorem u1003_24 {v0 : Value} {v1 : Value} {v2 : Value} {v3 : Value} {v4 : Value} : am_g d X am_m1003 24 [v0, v1, v2, v3, v4] sk st Q = am_g d X am_m1003 26 [v0, v1, v2, v3, v4] (.int (am_i 60) :: sk) st Q := am_gu.trans rfl
theorem u1003_26 {v0 : Value} {v1 : Value} {v2 : Value} {v3 : Value} {v4 : Value} {x : Int32} {y : Int32} : am_g d X am_m1003 26 [v0, v1, v2, v3, v4] (.int y :: .int x :: sk) st Q = (if decide (y ≤ x) = true then am_g d X am_m1003 50 [v0, v1, v2, v3, v4] sk st Q else am_g d X am_m1003 29 [v0, v1, v2, v3, v4] sk st Q) := am_gu.trans rfl
theorem u1003_29 {v1 : Value} {v2 : Value} {v3 : Value} {v4 : Value} {x : Nat} : am_g d X am_m1003 29 [.ref x, v1, v2, v3, v4] sk st Q = am_g d X am_m1003 30 [.ref x, v1, v2, v3, v4] (.ref x :: sk) st Q := am_gu.trans rfl
theorem u1003_30 {v0 : Value} {v1 : Value} {v2 : Value} {v3 : Value} {v4 : Value} : am_g d X am_m1003 30 [v0, v1, v2, v3, v4] sk st Q = am_gt 32 33 [v0, v1, v2, v3, v4] sk st (fun pc lc sk st => am_g d X am_m1003 pc lc sk st Q) := am_gu.trans rfl
theorem u1003_33 {v0 : Value} {v1 : Value} {v2 : Value} {v3 : Value} {x : Int32} : am_g d X am_m1003 33 [v0, v1, v2, v3, .int x] sk st Q = am_g d X am_m1003 35 [v0, v1, v2, v3, .int x] (.int x :: sk) st Q := am_gu.trans rfl
theorem u1003_35 {a0 : Value} {a1 : Value} {v0 : Value} {v1 : Value} {v2 : Value} {v3 : Value} {v4 : Value} : am_g d X am_m1003 35 [v0, v1, v2, v3, v4] (a1 :: a0 :: sk) st Q = (sk.length ≤ 4 ∧ am_Ca X d 1015 [a0, a1] st (am_af am_m1003 35 [v0, v1, v2, v3, v4] sk (fun pc lc sk st => am_g d X am_m1003 pc lc sk st Q) Q)) := am_gu.trans (propext ⟨fun h => ⟨h.1.2, h.2⟩, fun h => ⟨⟨Nat.le_add_left _ _, h.1⟩, h.2⟩⟩)
theorem u1003_38 {v0 : Value} {v1 : Value} {v2 : Value} {v3 : Value} {v4 : Value} {x : Int32} : am_g d X am_m1003 38 [v0, v1, v2, v3, v4] (.int x :: sk) st Q = (if decide (x = 0) = true then am_g d X am_m1003 44 [v0, v1, v2, v3, v4] sk st Q else am_g d X am_m1003 41 [v0, v1, v2, v3, v4] sk st Q) := am_gu.trans rfl
theorem u1003_41 {v0 : Value} {v1 : Value} {v2 : Value} {v4 : Value} {x : Int32} : am_g d X am_m1003 41 [v0, v1, v2, .int x, v4] sk st Q = am_g d X am_m1003 44 [v0, v1, am_kc v2, .int (x + am_i 1), v4] sk st Q := am_gu.trans (congrArg (fun l => am_g d X am_m1003 44 (List.set l 3 (.int (x + am_i 1))) sk st Q) (kl_3 (l := [.int x, v4])))
theorem u1003_44 {v0 : Value} {v1 : Value} {v2 : Value} {v3 : Value} {x : Int32} : am_g d X am_m1003 44 [v0, v1, v2, v3, .int x] sk st Q = am_g d X am_m1003 47 [v0, v1, v2, am_kc v3, .int (x + am_i 1)] sk st Q := am_gu.trans (congrArg (fun l => am_g d X am_m1003 47 (List.set l 4 (.int (x + am_i 1))) sk st Q) (kl_4 (l := [.int x])))
theorem u1003_47 {v0 : Value} {v1 : Value} {v2 : Value} {v3 : Value} {v4 : Value} : am_g d X am_m1003 47 [v0, v1, v2, v3, v4] sk st Q = am_g d X am_m1003 22 [v0, v1, v2, v3, v4] sk st Q := am_gu.trans rfl
theorem u1003_50 {v0 : Value} {v1 : Value} {v2 : Value} {v4 : Value} {x : Int32} : am_g d X am_m1003 50 [v0, v1, v2, .int x, v4] sk st Q = am_g d X am_m1003 51 [v0, v1, v2, .int x, v4] (.int x :: sk) st Q := am_gu.trans rfl
theorem u1003_51 {v0 : Value} {v1 : Value} {v2 : Value} {v3 : Value} {v4 : Value} {x : Int32} : am_g d X am_m1003 51 [v0, v1, v2, v3, v4] [.int x] st Q = Q (.inl (some (.int x))) st := am_gu.trans rfl
set_option maxRecDepth 100000 in
theorem of_1004 : am_of 1004 = some am_m1004 := rfl
theorem c1004 {z a0 a1 a2} {P : am_Q} : am_Ca X (d + 1) 1004 [.ref z, .ref a0, .int a1, .int a2] st P = am_g d X am_m1004 0 [.ref z, .ref a0, .int a1, .int a2, am_u, am_u] [] st P := am_cg of_1004 (by show 4 ≤ 6; decide)
theorem hd_1004 : am_hd am_m1004 = [] := rfl
theorem u1004_0 {v1 : Value} {v2 : Value} {v3 : Value} {v4 : Value} {v5 : Value} {x : Nat} : am_g d X am_m1004 0 [.ref x, v1, v2, v3, v4, v5] sk st Q = am_g d X am_m1004 1 [.ref x, v1, v2, v3, v4, v5] (.ref x :: sk) st Q := am_gu.trans rfl
theorem u1004_1 {v0 : Value} {v1 : Value} {v2 : Value} {v3 : Value} {v4 : Value} {v5 : Value} : am_g d X am_m1004 1 [v0, v1, v2, v3, v4, v5] sk st Q = am_gt 32 4 [v0, v1, v2, v3, v4, v5] sk st (fun pc lc sk st => am_g d X am_m1004 pc lc sk st Q) := am_gu.trans rfl
theorem u1004_4 {v0 : Value} {v1 : Value} {v2 : Value} {v3 : Value} {v4 : Value} {v5 : Value} : am_g d X am_m1004 4 [v0, v1, v2, v3, v4, v5] sk st Q = am_g d X am_m1004 5 [v0, v1, v2, v3, v4, v5] (.int (am_i 0) :: sk) st Q := am_gu.trans rfl
theorem u1004_5 {a0 : Value} {a1 : Value} {v0 : Value} {v1 : Value} {v2 : Value} {v3 : Value} {v4 : Value} {v5 : Value} : am_g d X am_m1004 5 [v0, v1, v2, v3, v4, v5] (a1 :: a0 :: sk) st Q = (sk.length ≤ 4 ∧ am_Ca X d 9000 [a0, a1] st (am_af am_m1004 5 [v0, v1, v2, v3, v4, v5] sk (fun pc lc sk st => am_g d X am_m1004 pc lc sk st Q) Q)) := am_gu.trans (propext ⟨fun h => ⟨h.1.2, h.2⟩, fun h => ⟨⟨Nat.le_add_left _ _, h.1⟩, h.2⟩⟩)
theorem u1004_8 {v0 : Value} {v2 : Value} {v3 : Value} {v4 : Value} {v5 : Value} {x : Nat} : am_g d X am_m1004 8 [v0, .ref x, v2, v3, v4, v5] sk st Q = am_g d X am_m1004 9 [v0, .ref x, v2, v3, v4, v5] (.ref x :: sk) st Q := am_gu.trans rfl
theorem u1004_9 {v0 : Value} {v1 : Value} {v3 : Value} {v4 : Value} {v5 : Value} {x : Int32} : am_g d X am_m1004 9 [v0, v1, .int x, v3, v4, v5] sk st Q = am_g d X am_m1004 10 [v0, v1, .int x, v3, v4, v5] (.int x :: sk) st Q := am_gu.trans rfl
theorem u1004_10 {v1 : Value} {v2 : Value} {v3 : Value} {v4 : Value} {v5 : Value} {x : Nat} : am_g d X am_m1004 10 [.ref x, v1, v2, v3, v4, v5] sk st Q = am_g d X am_m1004 11 [.ref x, v1, v2, v3, v4, v5] (.ref x :: sk) st Q := am_gu.trans rfl
theorem u1004_11 {v0 : Value} {v1 : Value} {v2 : Value} {v3 : Value} {v4 : Value} {v5 : Value} : am_g d X am_m1004 11 [v0, v1, v2, v3, v4, v5] sk st Q = am_gt 32 14 [v0, v1, v2, v3, v4, v5] sk st (fun pc lc sk st => am_g d X am_m1004 pc lc sk st Q) := am_gu.trans rfl
theorem u1004_14 {a0 : Value} {a1 : Value} {a2 : Value} {v0 : Value} {v1 : Value} {v2 : Value} {v3 : Value} {v4 : Value} {v5 : Value} : am_g d X am_m1004 14 [v0, v1, v2, v3, v4, v5] (a2 :: a1 :: a0 :: sk) st Q = (sk.length ≤ 4 ∧ am_Ca X d 1017 [a0, a1, a2] st (am_af am_m1004 14 [v0, v1, v2, v3, v4, v5] sk (fun pc lc sk st => am_g d X am_m1004 pc lc sk st Q) Q)) := am_gu.trans (propext ⟨fun h => ⟨h.1.2, h.2⟩, fun h => ⟨⟨Nat.le_add_left _ _, h.1⟩, h.2⟩⟩)
theorem u1004_17 {v0 : Value} {v1 : Value} {v2 : Value} {v3 : Value} {v4 : Value} {v5 : Value} : am_g d X am_m1004 17 [v0, v1, v2, v3, v4, v5] sk st Q = am_g d X am_m1004 18 [v0, v1, v2, v3, v4, v5] (.int (am_i 0) :: sk) st Q := am_gu.trans rfl
theorem u1004_18 {v0 : Value} {v1 : Value} {v2 : Value} {v3 : Value} {v4 : Value} {v5 : Value} {x : Int32} : am_g d X am_m1004 18 [v0, v1, v2, v3, v4, v5] (.int x :: sk) st Q = am_g d X am_m1004 20 [v0, v1, v2, am_kc v3, .int x, v5] sk st Q := am_gu.trans (congrArg (fun l => am_g d X am_m1004 20 (List.set l 4 (.int x)) sk st Q) (kl_4 (l := [v4, v5])))
theorem u1004_20 {v0 : Value} {v1 : Value} {v2 : Value} {v3 : Value} {v4 : Value} {v5 : Value} : am_g d X am_m1004 20 [v0, v1, v2, v3, v4, v5] sk st Q = am_g d X am_m1004 22 [v0, v1, v2, v3, v4, v5] (.int (am_i 59) :: sk) st Q := am_gu.trans rfl
theorem u1004_22 {v0 : Value} {v1 : Value} {v2 : Value} {v3 : Value} {v4 : Value} {v5 : Value} {x : Int32} : am_g d X am_m1004 22 [v0, v1, v2, v3, v4, v5] (.int x :: sk) st Q = am_g d X am_m1004 24 [v0, v1, v2, v3, am_kc v4, .int x] sk st Q := am_gu.trans (congrArg (fun l => am_g d X am_m1004 24 (List.set l 5 (.int x)) sk st Q) (kl_5 (l := [v5])))
theorem u1004_24 {v0 : Value} {v1 : Value} {v2 : Value} {v3 : Value} {v4 : Value} {x : Int32} : am_g d X am_m1004 24 [v0, v1, v2, v3, v4, .int x] sk st Q = am_g d X am_m1004 26 [v0, v1, v2, v3, v4, .int x] (.int x :: sk) st Q := am_gu.trans rfl
theorem u1004_26 {v0 : Value} {v1 : Value} {v2 : Value} {v3 : Value} {v4 : Value} {v5 : Value} {x : Int32} : am_g d X am_m1004 26 [v0, v1, v2, v3, v4, v5] (.int x :: sk) st Q = (if decide (x < 0) = true then am_g d X am_m1004 59 [v0, v1, v2, v3, v4, v5] sk st Q else am_g d X am_m1004 29 [v0, v1, v2, v3, v4, v5] sk st Q) := am_gu.trans rfl
theorem u1004_29 {v1 : Value} {v2 : Value} {v3 : Value} {v4 : Value} {v5 : Value} {x : Nat} : am_g d X am_m1004 29 [.ref x, v1, v2, v3, v4, v5] sk st Q = am_g d X am_m1004 30 [.ref x, v1, v2, v3, v4, v5] (.ref x :: sk) st Q := am_gu.trans rfl
theorem u1004_30 {v0 : Value} {v1 : Value} {v2 : Value} {v3 : Value} {v4 : Value} {v5 : Value} : am_g d X am_m1004 30 [v0, v1, v2, v3, v4, v5] sk st Q = am_gt 32 33 [v0, v1, v2, v3, v4, v5] sk st (fun pc lc sk st => am_g d X am_m1004 pc lc sk st Q) := am_gu.trans rfl
theorem u1004_33 {v0 : Value} {v1 : Value} {v2 : Value} {v3 : Value} {v4 : Value} {x : Int32} : am_g d X am_m1004 33 [v0, v1, v2, v3, v4, .int x] sk st Q = am_g d X am_m1004 35 [v0, v1, v2, v3, v4, .int x] (.int x :: sk) st Q := am_gu.trans rfl
theorem u1004_35 {a0 : Value} {a1 : Value} {v0 : Value} {v1 : Value} {v2 : Value} {v3 : Value} {v4 : Value} {v5 : Value} : am_g d X am_m1004 35 [v0, v1, v2, v3, v4, v5] (a1 :: a0 :: sk) st Q = (sk.length ≤ 4 ∧ am_Ca X d 1015 [a0, a1] st (am_af am_m1004 35 [v0, v1, v2, v3, v4, v5] sk (fun pc lc sk st => am_g d X am_m1004 pc lc sk st Q) Q)) := am_gu.trans (propext ⟨fun h => ⟨h.1.2, h.2⟩, fun h => ⟨⟨Nat.le_add_left _ _, h.1⟩, h.2⟩⟩)
theorem u1004_38 {v0 : Value} {v1 : Value} {v2 : Value} {v3 : Value} {v4 : Value} {v5 : Value} {x : Int32} : am_g d X am_m1004 38 [v0, v1, v2, v3, v4, v5] (.int x :: sk) st Q = (if decide (x = 0) = true then am_g d X am_m1004 53 [v0, v1, v2, v3, v4, v5] sk st Q else am_g d X am_m1004 41 [v0, v1, v2, v3, v4, v5] sk st Q) := am_gu.trans rfl
theorem u1004_41 {v0 : Value} {v1 : Value} {v2 : Value} {v3 : Value} {v5 : Value} {x : Int32} : am_g d X am_m1004 41 [v0, v1, v2, v3, .int x, v5] sk st Q = am_g d X am_m1004 43 [v0, v1, v2, v3, .int x, v5] (.int x :: sk) st Q := am_gu.trans rfl
theorem u1004_43 {v0 : Value} {v1 : Value} {v2 : Value} {v4 : Value} {v5 : Value} {x : Int32} : am_g d X am_m1004 43 [v0, v1, v2, .int x, v4, v5] sk st Q = am_g d X am_m1004 44 [v0, v1, v2, .int x, v4, v5] (.int x :: sk) st Q := am_gu.trans rfl
theorem u1004_44 {v0 : Value} {v1 : Value} {v2 : Value} {v3 : Value} {v4 : Value} {v5 : Value} {x : Int32} {y : Int32} : am_g d X am_m1004 44 [v0, v1, v2, v3, v4, v5] (.int y :: .int x :: sk) st Q = (if decide (¬ x = y) = true then am_g d X am_m1004 50 [v0, v1, v2, v3, v4, v5] sk st Q else am_g d X am_m1004 47 [v0, v1, v2, v3, v4, v5] sk st Q) := am_gu.trans rfl
theorem u1004_47 {v0 : Value} {v1 : Value} {v2 : Value} {v3 : Value} {v4 : Value} {x : Int32} : am_g d X am_m1004 47 [v0, v1, v2, v3, v4, .int x] sk st Q = am_g d X am_m1004 49 [v0, v1, v2, v3, v4, .int x] (.int x :: sk) st Q := am_gu.trans rfl
theorem u1004_49 {v0 : Value} {v1 : Value} {v2 : Value} {v3 : Value} {v4 : Value} {v5 : Value} {x : Int32} : am_g d X am_m1004 49 [v0, v1, v2, v3, v4, v5] [.int x] st Q = Q (.inl (some (.int x))) st := am_gu.trans rfl
theorem u1004_50 {v0 : Value} {v1 : Value} {v2 : Value} {v3 : Value} {v5 : Value} {x : Int32} : am_g d X am_m1004 50 [v0, v1, v2, v3, .int x, v5] sk st Q = am_g d X am_m1004 53 [v0, v1, v2, am_kc v3, .int (x + am_i 1), v5] sk st Q := am_gu.trans (congrArg (fun l => am_g d X am_m1004 53 (List.set l 4 (.int (x + am_i 1))) sk st Q) (kl_4 (l := [.int x, v5])))
theorem u1004_53 {v0 : Value} {v1 : Value} {v2 : Value} {v3 : Value} {v4 : Value} {x : Int32} : am_g d X am_m1004 53 [v0, v1, v2, v3, v4, .int x] sk st Q = am_g d X am_m1004 56 [v0, v1, v2, v3, am_kc v4, .int (x + am_i (-1))] sk st Q := am_gu.trans (congrArg (fun l => am_g d X am_m1004 56 (List.set l 5 (.int (x + am_i (-1)))) sk st Q) (kl_5 (l := [.int x])))
theorem u1004_56 {v0 : Value} {v1 : Value} {v2 : Value} {v3 : Value} {v4 : Value} {v5 : Value} : am_g d X am_m1004 56 [v0, v1, v2, v3, v4, v5] sk st Q = am_g d X am_m1004 24 [v0, v1, v2, v3, v4, v5] sk st Q := am_gu.trans rfl
theorem u1004_59 {v0 : Value} {v1 : Value} {v2 : Value} {v3 : Value} {v4 : Value} {v5 : Value} : am_g d X am_m1004 59 [v0, v1, v2, v3, v4, v5] sk st Q = am_g d X am_m1004 60 [v0, v1, v2, v3, v4, v5] (.int (am_i (-1)) :: sk) st Q := am_gu.trans rfl
theorem u1004_60 {v0 : Value} {v1 : Value} {v2 : Value} {v3 : Value} {v4 : Value} {v5 : Value} {x : Int32} : am_g d X am_m1004 60 [v0, v1, v2, v3, v4, v5] [.int x] st Q = Q (.inl (some (.int x))) st := am_gu.trans rfl
set_option maxRecDepth 100000 in
theorem of_1005 : am_of 1005 = some am_m1005 := rfl
theorem c1005 {z a0 a1 a2 a3} {P : am_Q} : am_Ca X (d + 1) 1005 [.ref z, .ref a0, .int a1, .int a2, .int a3] st P = am_g d X am_m1005 0 [.ref z, .ref a0, .int a1, .int a2, .int a3, am_u] [] st P := am_cg of_1005 (by show 5 ≤ 6; decide)
theorem hd_1005 : am_hd am_m1005 = [] := rfl
theorem u1005_0 {v1 : Value} {v2 : Value} {v3 : Value} {v4 : Value} {v5 : Value} {x : Nat} : am_g d X am_m1005 0 [.ref x, v1, v2, v3, v4, v5] sk st Q = am_g d X am_m1005 1 [.ref x, v1, v2, v3, v4, v5] (.ref x :: sk) st Q := am_gu.trans rfl
theorem u1005_1 {v0 : Value} {v1 : Value} {v2 : Value} {v3 : Value} {v4 : Value} {v5 : Value} : am_g d X am_m1005 1 [v0, v1, v2, v3, v4, v5] sk st Q = am_gt 32 4 [v0, v1, v2, v3, v4, v5] sk st (fun pc lc sk st => am_g d X am_m1005 pc lc sk st Q) := am_gu.trans rfl
theorem u1005_4 {v0 : Value} {v1 : Value} {v2 : Value} {v3 : Value} {v4 : Value} {v5 : Value} : am_g d X am_m1005 4 [v0, v1, v2, v3, v4, v5] sk st Q = am_g d X am_m1005 5 [v0, v1, v2, v3, v4, v5] (.int (am_i 0) :: sk) st Q := am_gu.trans rfl
theorem u1005_5 {a0 : Value} {a1 : Value} {v0 : Value} {v1 : Value} {v2 : Value} {v3 : Value} {v4 : Value} {v5 : Value} : am_g d X am_m1005 5 [v0, v1, v2, v3, v4, v5] (a1 :: a0 :: sk) st Q = (sk.length ≤ 4 ∧ am_Ca X d 9000 [a0, a1] st (am_af am_m1005 5 [v0, v1, v2, v3, v4, v5] sk (fun pc lc sk st => am_g d X am_m1005 pc lc sk st Q) Q)) := am_gu.trans (propext ⟨fun h => ⟨h.1.2, h.2⟩, fun h => ⟨⟨Nat.le_add_left _ _, h.1⟩, h.2⟩⟩)
theorem u1005_8 {v0 : Value} {v2 : Value} {v3 : Value} {v4 : Value} {v5 : Value} {x : Nat} : am_g d X am_m1005 8 [v0, .ref x, v2, v3, v4, v5] sk st Q = am_g d X am_m1005 9 [v0, .ref x, v2, v3, v4, v5] (.ref x :: sk) st Q := am_gu.trans rfl
theorem u1005_9 {v0 : Value} {v1 : Value} {v3 : Value} {v4 : Value} {v5 : Value} {x : Int32} : am_g d X am_m1005 9 [v0, v1, .int x, v3, v4, v5] sk st Q = am_g d X am_m1005 10 [v0, v1, .int x, v3, v4, v5] (.int x :: sk) st Q := am_gu.trans rfl
theorem u1005_10 {v1 : Value} {v2 : Value} {v3 : Value} {v4 : Value} {v5 : Value} {x : Nat} : am_g d X am_m1005 10 [.ref x, v1, v2, v3, v4, v5] sk st Q = am_g d X am_m1005 11 [.ref x, v1, v2, v3, v4, v5] (.ref x :: sk) st Q := am_gu.trans rfl
theorem u1005_11 {v0 : Value} {v1 : Value} {v2 : Value} {v3 : Value} {v4 : Value} {v5 : Value} : am_g d X am_m1005 11 [v0, v1, v2, v3, v4, v5] sk st Q = am_gt 32 14 [v0, v1, v2, v3, v4, v5] sk st (fun pc lc sk st => am_g d X am_m1005 pc lc sk st Q) := am_gu.trans rfl
theorem u1005_14 {a0 : Value} {a1 : Value} {a2 : Value} {v0 : Value} {v1 : Value} {v2 : Value} {v3 : Value} {v4 : Value} {v5 : Value} : am_g d X am_m1005 14 [v0, v1, v2, v3, v4, v5] (a2 :: a1 :: a0 :: sk) st Q = (sk.length ≤ 4 ∧ am_Ca X d 1017 [a0, a1, a2] st (am_af am_m1005 14 [v0, v1, v2, v3, v4, v5] sk (fun pc lc sk st => am_g d X am_m1005 pc lc sk st Q) Q)) := am_gu.trans (propext ⟨fun h => ⟨h.1.2, h.2⟩, fun h => ⟨⟨Nat.le_add_left _ _, h.1⟩, h.2⟩⟩)
theorem u1005_17 {v0 : Value} {v1 : Value} {v2 : Value} {v3 : Value} {v4 : Value} {v5 : Value} : am_g d X am_m1005 17 [v0, v1, v2, v3, v4, v5] sk st Q = am_g d X am_m1005 18 [v0, v1, v2, v3, v4, v5] (.int (am_i 0) :: sk) st Q := am_gu.trans rfl
theorem u1005_18 {v0 : Value} {v1 : Value} {v2 : Value} {v3 : Value} {v4 : Value} {v5 : Value} {x : Int32} : am_g d X am_m1005 18 [v0, v1, v2, v3, v4, v5] (.int x :: sk) st Q = am_g d X am_m1005 20 [v0, v1, v2, v3, am_kc v4, .int x] sk st Q := am_gu.trans (congrArg (fun l => am_g d X am_m1005 20 (List.set l 5 (.int x)) sk st Q) (kl_5 (l := [v5])))
theorem u1005_20 {v0 : Value} {v1 : Value} {v2 : Value} {v3 : Value} {v4 : Value} {x : Int32} : am_g d X am_m1005 20 [v0, v1, v2, v3, v4, .int x] sk st Q = am_g d X am_m1005 22 [v0, v1, v2, v3, v4, .int x] (.int x :: sk) st Q := am_gu.trans rfl
theorem u1005_22 {v0 : Value} {v1 : Value} {v2 : Value} {v3 : Value} {v4 : Value} {v5 : Value} : am_g d X am_m1005 22 [v0, v1, v2, v3, v4, v5] sk st Q = am_g d X am_m1005 24 [v0, v1, v2, v3, v4, v5] (.int (am_i 60) :: sk) st Q := am_gu.trans rfl
theorem u1005_24 {v0 : Value} {v1 : Value} {v2 : Value} {v3 : Value} {v4 : Value} {v5 : Value} {x : Int32} {y : Int32} : am_g d X am_m1005 24 [v0, v1, v2, v3, v4, v5] (.int y :: .int x :: sk) st Q = (if decide (y ≤ x) = true then am_g d X am_m1005 60 [v0, v1, v2, v3, v4, v5] sk st Q else am_g d X am_m1005 27 [v0, v1, v2, v3, v4, v5] sk st Q) := am_gu.trans rfl
theorem u1005_27 {v1 : Value} {v2 : Value} {v3 : Value} {v4 : Value} {v5 : Value} {x : Nat} : am_g d X am_m1005 27 [.ref x, v1, v2, v3, v4, v5] sk st Q = am_g d X am_m1005 28 [.ref x, v1, v2, v3, v4, v5] (.ref x :: sk) st Q := am_gu.trans rfl
theorem u1005_28 {v0 : Value} {v1 : Value} {v2 : Value} {v3 : Value} {v4 : Value} {v5 : Value} : am_g d X am_m1005 28 [v0, v1, v2, v3, v4, v5] sk st Q = am_gt 32 31 [v0, v1, v2, v3, v4, v5] sk st (fun pc lc sk st => am_g d X am_m1005 pc lc sk st Q) := am_gu.trans rfl
theorem u1005_31 {v0 : Value} {v1 : Value} {v2 : Value} {v3 : Value} {v4 : Value} {x : Int32} : am_g d X am_m1005 31 [v0, v1, v2, v3, v4, .int x] sk st Q = am_g d X am_m1005 33 [v0, v1, v2, v3, v4, .int x] (.int x :: sk) st Q := am_gu.trans rfl
theorem u1005_33 {a0 : Value} {a1 : Value} {v0 : Value} {v1 : Value} {v2 : Value} {v3 : Value} {v4 : Value} {v5 : Value} : am_g d X am_m1005 33 [v0, v1, v2, v3, v4, v5] (a1 :: a0 :: sk) st Q = (sk.length ≤ 4 ∧ am_Ca X d 1015 [a0, a1] st (am_af am_m1005 33 [v0, v1, v2, v3, v4, v5] sk (fun pc lc sk st => am_g d X am_m1005 pc lc sk st Q) Q)) := am_gu.trans (propext ⟨fun h => ⟨h.1.2, h.2⟩, fun h => ⟨⟨Nat.le_add_left _ _, h.1⟩, h.2⟩⟩)
theorem u1005_36 {v0 : Value} {v1 : Value} {v2 : Value} {v3 : Value} {v4 : Value} {v5 : Value} {x : Int32} : am_g d X am_m1005 36 [v0, v1, v2, v3, v4, v5] (.int x :: sk) st Q = (if decide (x = 0) = true then am_g d X am_m1005 54 [v0, v1, v2, v3, v4, v5] sk st Q else am_g d X am_m1005 39 [v0, v1, v2, v3, v4, v5] sk st Q) := am_gu.trans rfl
theorem u1005_39 {v0 : Value} {v2 : Value} {v3 : Value} {v4 : Value} {v5 : Value} {x : Nat} : am_g d X am_m1005 39 [v0, .ref x, v2, v3, v4, v5] sk st Q = am_g d X am_m1005 40 [v0, .ref x, v2, v3, v4, v5] (.ref x :: sk) st Q := am_gu.trans rfl
theorem u1005_40 {v0 : Value} {v1 : Value} {v2 : Value} {v3 : Value} {v4 : Value} {x : Int32} : am_g d X am_m1005 40 [v0, v1, v2, v3, v4, .int x] sk st Q = am_g d X am_m1005 42 [v0, v1, v2, v3, v4, .int x] (.int x :: sk) st Q := am_gu.trans rfl
theorem u1005_42 {v0 : Value} {v1 : Value} {v2 : Value} {v4 : Value} {v5 : Value} {x : Int32} : am_g d X am_m1005 42 [v0, v1, v2, .int x, v4, v5] sk st Q = am_g d X am_m1005 43 [v0, v1, v2, .int x, v4, v5] (.int x :: sk) st Q := am_gu.trans rfl
theorem u1005_43 {a0 : Value} {a1 : Value} {v0 : Value} {v1 : Value} {v2 : Value} {v3 : Value} {v4 : Value} {v5 : Value} : am_g d X am_m1005 43 [v0, v1, v2, v3, v4, v5] (a1 :: a0 :: .ref o :: sk) st Q = ((am_ob st o 5 ∧ sk.length ≤ 4) ∧ am_Ca X d 5007 [.ref o, a0, a1] st (am_af am_m1005 43 [v0, v1, v2, v3, v4, v5] sk (fun pc lc sk st => am_g d X am_m1005 pc lc sk st Q) Q)) := am_gu.trans rfl
theorem u1005_46 {v0 : Value} {v1 : Value} {v2 : Value} {v3 : Value} {v5 : Value} {x : Int32} : am_g d X am_m1005 46 [v0, v1, v2, v3, .int x, v5] sk st Q = am_g d X am_m1005 48 [v0, v1, v2, v3, .int x, v5] (.int x :: sk) st Q := am_gu.trans rfl
theorem u1005_48 {v0 : Value} {v1 : Value} {v2 : Value} {v3 : Value} {v4 : Value} {v5 : Value} {x : Int32} {y : Int32} : am_g d X am_m1005 48 [v0, v1, v2, v3, v4, v5] (.int y :: .int x :: sk) st Q = (if decide (¬ x = y) = true then am_g d X am_m1005 54 [v0, v1, v2, v3, v4, v5] sk st Q else am_g d X am_m1005 51 [v0, v1, v2, v3, v4, v5] sk st Q) := am_gu.trans rfl
theorem u1005_51 {v0 : Value} {v1 : Value} {v2 : Value} {v3 : Value} {v4 : Value} {x : Int32} : am_g d X am_m1005 51 [v0, v1, v2, v3, v4, .int x] sk st Q = am_g d X am_m1005 53 [v0, v1, v2, v3, v4, .int x] (.int x :: sk) st Q := am_gu.trans rfl
theorem u1005_53 {v0 : Value} {v1 : Value} {v2 : Value} {v3 : Value} {v4 : Value} {v5 : Value} {x : Int32} : am_g d X am_m1005 53 [v0, v1, v2, v3, v4, v5] [.int x] st Q = Q (.inl (some (.int x))) st := am_gu.trans rfl
theorem u1005_54 {v0 : Value} {v1 : Value} {v2 : Value} {v3 : Value} {v4 : Value} {x : Int32} : am_g d X am_m1005 54 [v0, v1, v2, v3, v4, .int x] sk st Q = am_g d X am_m1005 57 [v0, v1, v2, v3, am_kc v4, .int (x + am_i 1)] sk st Q := am_gu.trans (congrArg (fun l => am_g d X am_m1005 57 (List.set l 5 (.int (x + am_i 1))) sk st Q) (kl_5 (l := [.int x])))
theorem u1005_57 {v0 : Value} {v1 : Value} {v2 : Value} {v3 : Value} {v4 : Value} {v5 : Value} : am_g d X am_m1005 57 [v0, v1, v2, v3, v4, v5] sk st Q = am_g d X am_m1005 20 [v0, v1, v2, v3, v4, v5] sk st Q := am_gu.trans rfl
theorem u1005_60 {v0 : Value} {v1 : Value} {v2 : Value} {v3 : Value} {v4 : Value} {v5 : Value} : am_g d X am_m1005 60 [v0, v1, v2, v3, v4, v5] sk st Q = am_g d X am_m1005 61 [v0, v1, v2, v3, v4, v5] (.int (am_i (-1)) :: sk) st Q := am_gu.trans rfl
theorem u1005_61 {v0 : Value} {v1 : Value} {v2 : Value} {v3 : Value} {v4 : Value} {v5 : Value} {x : Int32} : am_g d X am_m1005 61 [v0, v1, v2, v3, v4, v5] [.int x] st Q = Q (.inl (some (.int x))) st := am_gu.trans rfl
set_option maxRecDepth 100000 in
theorem of_1006 : am_of 1006 = some am_m1006 := rfl
theorem c1006 {z a0} {P : am_Q} : am_Ca X (d + 1) 1006 [.ref z, .ref a0] st P = am_g d X am_m1006 0 [.ref z, .ref a0, am_u, am_u] [] st P := am_cg of_1006 (by show 2 ≤ 4; decide)
theorem hd_1006 : am_hd am_m1006 = [] := rfl
theorem u1006_0 {v1 : Value} {v2 : Value} {v3 : Value} {x : Nat} : am_g d X am_m1006 0 [.ref x, v1, v2, v3] sk st Q = am_g d X am_m1006 1 [.ref x, v1, v2, v3] (.ref x :: sk) st Q := am_gu.trans rfl
theorem u1006_1 {v0 : Value} {v1 : Value} {v2 : Value} {v3 : Value} : am_g d X am_m1006 1 [v0, v1, v2, v3] sk st Q = am_gt 32 4 [v0, v1, v2, v3] sk st (fun pc lc sk st => am_g d X am_m1006 pc lc sk st Q) := am_gu.trans rfl
theorem u1006_4 {v0 : Value} {v1 : Value} {v2 : Value} {v3 : Value} : am_g d X am_m1006 4 [v0, v1, v2, v3] sk st Q = am_g d X am_m1006 5 [v0, v1, v2, v3] (.int (am_i 0) :: sk) st Q := am_gu.trans rfl
theorem u1006_5 {a0 : Value} {a1 : Value} {v0 : Value} {v1 : Value} {v2 : Value} {v3 : Value} : am_g d X am_m1006 5 [v0, v1, v2, v3] (a1 :: a0 :: sk) st Q = (sk.length ≤ 4 ∧ am_Ca X d 9000 [a0, a1] st (am_af am_m1006 5 [v0, v1, v2, v3] sk (fun pc lc sk st => am_g d X am_m1006 pc lc sk st Q) Q)) := am_gu.trans (propext ⟨fun h => ⟨h.1.2, h.2⟩, fun h => ⟨⟨Nat.le_add_left _ _, h.1⟩, h.2⟩⟩)
theorem u1006_8 {v0 : Value} {v1 : Value} {v2 : Value} {v3 : Value} : am_g d X am_m1006 8 [v0, v1, v2, v3] sk st Q = am_g d X am_m1006 9 [v0, v1, v2, v3] (.int (am_i 0) :: sk) st Q := am_gu.trans rfl
theorem u1006_9 {v0 : Value} {v1 : Value} {v2 : Value} {v3 : Value} {x : Int32} : am_g d X am_m1006 9 [v0, v1, v2, v3] (.int x :: sk) st Q = am_g d X am_m1006 10 [v0, am_kc v1, .int x, v3] sk st Q := am_gu.trans (congrArg (fun l => am_g d X am_m1006 10 (List.set l 2 (.int x)) sk st Q) (kl_2 (l := [v2, v3])))
theorem u1006_10 {v0 : Value} {v1 : Value} {v3 : Value} {x : Int32} : am_g d X am_m1006 10 [v0, v1, .int x, v3] sk st Q = am_g d X am_m1006 11 [v0, v1, .int x, v3] (.int x :: sk) st Q := am_gu.trans rfl
theorem u1006_11 {v0 : Value} {v1 : Value} {v2 : Value} {v3 : Value} : am_g d X am_m1006 11 [v0, v1, v2, v3] sk st Q = am_g d X am_m1006 13 [v0, v1, v2, v3] (.int (am_i 6) :: sk) st Q := am_gu.trans rfl
theorem u1006_13 {v0 : Value} {v1 : Value} {v2 : Value} {v3 : Value} {x : Int32} {y : Int32} : am_g d X am_m1006 13 [v0, v1, v2, v3] (.int y :: .int x :: sk) st Q = (if decide (y ≤ x) = true then am_g d X am_m1006 35 [v0, v1, v2, v3] sk st Q else am_g d X am_m1006 16 [v0, v1, v2, v3] sk st Q) := am_gu.trans rfl
theorem u1006_16 {v0 : Value} {v2 : Value} {v3 : Value} {x : Nat} : am_g d X am_m1006 16 [v0, .ref x, v2, v3] sk st Q = am_g d X am_m1006 17 [v0, .ref x, v2, v3] (.ref x :: sk) st Q := am_gu.trans rfl
theorem u1006_17 {v0 : Value} {v2 : Value} {v3 : Value} {x : Nat} : am_g d X am_m1006 17 [v0, .ref x, v2, v3] sk st Q = am_g d X am_m1006 18 [v0, .ref x, v2, v3] (.ref x :: sk) st Q := am_gu.trans rfl
theorem u1006_18 {v0 : Value} {v1 : Value} {v3 : Value} {x : Int32} : am_g d X am_m1006 18 [v0, v1, .int x, v3] sk st Q = am_g d X am_m1006 19 [v0, v1, .int x, v3] (.int x :: sk) st Q := am_gu.trans rfl
theorem u1006_19 {a0 : Value} {v0 : Value} {v1 : Value} {v2 : Value} {v3 : Value} : am_g d X am_m1006 19 [v0, v1, v2, v3] (a0 :: .ref o :: sk) st Q = ((am_ob st o 5 ∧ sk.length ≤ 4) ∧ am_Ca X d 5015 [.ref o, a0] st (am_af am_m1006 19 [v0, v1, v2, v3] sk (fun pc lc sk st => am_g d X am_m1006 pc lc sk st Q) Q)) := am_gu.trans rfl
theorem u1006_22 {v1 : Value} {v2 : Value} {v3 : Value} {x : Nat} : am_g d X am_m1006 22 [.ref x, v1, v2, v3] sk st Q = am_g d X am_m1006 23 [.ref x, v1, v2, v3] (.ref x :: sk) st Q := am_gu.trans rfl
theorem u1006_23 {v0 : Value} {v1 : Value} {v2 : Value} {v3 : Value} : am_g d X am_m1006 23 [v0, v1, v2, v3] sk st Q = am_gt 32 26 [v0, v1, v2, v3] sk st (fun pc lc sk st => am_g d X am_m1006 pc lc sk st Q) := am_gu.trans rfl
theorem u1006_26 {a0 : Value} {a1 : Value} {a2 : Value} {v0 : Value} {v1 : Value} {v2 : Value} {v3 : Value} : am_g d X am_m1006 26 [v0, v1, v2, v3] (a2 :: a1 :: a0 :: sk) st Q = (sk.length ≤ 4 ∧ am_Ca X d 1017 [a0, a1, a2] st (am_af am_m1006 26 [v0, v1, v2, v3] sk (fun pc lc sk st => am_g d X am_m1006 pc lc sk st Q) Q)) := am_gu.trans (propext ⟨fun h => ⟨h.1.2, h.2⟩, fun h => ⟨⟨Nat.le_add_left _ _, h.1⟩, h.2⟩⟩)
theorem u1006_29 {v0 : Value} {v1 : Value} {v3 : Value} {x : Int32} : am_g d X am_m1006 29 [v0, v1, .int x, v3] sk st Q = am_g d X am_m1006 32 [v0, am_kc v1, .int (x + am_i 1), v3] sk st Q := am_gu.trans (congrArg (fun l => am_g d X am_m1006 32 (List.set l 2 (.int (x + am_i 1))) sk st Q) (kl_2 (l := [.int x, v3])))
theorem u1006_32 {v0 : Value} {v1 : Value} {v2 : Value} {v3 : Value} : am_g d X am_m1006 32 [v0, v1, v2, v3] sk st Q = am_g d X am_m1006 10 [v0, v1, v2, v3] sk st Q := am_gu.trans rfl
theorem u1006_35 {v0 : Value} {v1 : Value} {v2 : Value} {v3 : Value} : am_g d X am_m1006 35 [v0, v1, v2, v3] sk st Q = am_g d X am_m1006 36 [v0, v1, v2, v3] (.int (am_i 0) :: sk) st Q := am_gu.trans rfl
theorem u1006_36 {v0 : Value} {v1 : Value} {v2 : Value} {v3 : Value} {x : Int32} : am_g d X am_m1006 36 [v0, v1, v2, v3] (.int x :: sk) st Q = am_g d X am_m1006 37 [v0, am_kc v1, .int x, v3] sk st Q := am_gu.trans (congrArg (fun l => am_g d X am_m1006 37 (List.set l 2 (.int x)) sk st Q) (kl_2 (l := [v2, v3])))
theorem u1006_37 {v0 : Value} {v1 : Value} {v2 : Value} {v3 : Value} : am_g d X am_m1006 37 [v0, v1, v2, v3] sk st Q = am_g d X am_m1006 38 [v0, v1, v2, v3] (.int (am_i 0) :: sk) st Q := am_gu.trans rfl
theorem u1006_38 {v0 : Value} {v1 : Value} {v2 : Value} {v3 : Value} {x : Int32} : am_g d X am_m1006 38 [v0, v1, v2, v3] (.int x :: sk) st Q = am_g d X am_m1006 39 [v0, v1, am_kc v2, .int x] sk st Q := am_gu.trans (congrArg (fun l => am_g d X am_m1006 39 (List.set l 3 (.int x)) sk st Q) (kl_3 (l := [v3])))
theorem u1006_39 {v0 : Value} {v1 : Value} {v2 : Value} {x : Int32} : am_g d X am_m1006 39 [v0, v1, v2, .int x] sk st Q = am_g d X am_m1006 40 [v0, v1, v2, .int x] (.int x :: sk) st Q := am_gu.trans rfl
theorem u1006_40 {v0 : Value} {v2 : Value} {v3 : Value} {x : Nat} : am_g d X am_m1006 40 [v0, .ref x, v2, v3] sk st Q = am_g d X am_m1006 41 [v0, .ref x, v2, v3] (.ref x :: sk) st Q := am_gu.trans rfl
theorem u1006_41 {v0 : Value} {v1 : Value} {v2 : Value} {v3 : Value} : am_g d X am_m1006 41 [v0, v1, v2, v3] sk st Q = am_gt 160 44 [v0, v1, v2, v3] sk st (fun pc lc sk st => am_g d X am_m1006 pc lc sk st Q) := am_gu.trans rfl
theorem u1006_44 {v0 : Value} {v1 : Value} {v2 : Value} {v3 : Value} {x : Int32} {y : Int32} : am_g d X am_m1006 44 [v0, v1, v2, v3] (.int y :: .int x :: sk) st Q = (if decide (y ≤ x) = true then am_g d X am_m1006 67 [v0, v1, v2, v3] sk st Q else am_g d X am_m1006 47 [v0, v1, v2, v3] sk st Q) := am_gu.trans rfl
theorem u1006_47 {v1 : Value} {v2 : Value} {v3 : Value} {x : Nat} : am_g d X am_m1006 47 [.ref x, v1, v2, v3] sk st Q = am_g d X am_m1006 48 [.ref x, v1, v2, v3] (.ref x :: sk) st Q := am_gu.trans rfl
theorem u1006_48 {v0 : Value} {v1 : Value} {v2 : Value} {v3 : Value} : am_g d X am_m1006 48 [v0, v1, v2, v3] sk st Q = am_gt 32 51 [v0, v1, v2, v3] sk st (fun pc lc sk st => am_g d X am_m1006 pc lc sk st Q) := am_gu.trans rfl
theorem u1006_51 {v0 : Value} {v1 : Value} {v2 : Value} {x : Int32} : am_g d X am_m1006 51 [v0, v1, v2, .int x] sk st Q = am_g d X am_m1006 52 [v0, v1, v2, .int x] (.int x :: sk) st Q := am_gu.trans rfl
theorem u1006_52 {a0 : Value} {a1 : Value} {v0 : Value} {v1 : Value} {v2 : Value} {v3 : Value} : am_g d X am_m1006 52 [v0, v1, v2, v3] (a1 :: a0 :: sk) st Q = (sk.length ≤ 4 ∧ am_Ca X d 1015 [a0, a1] st (am_af am_m1006 52 [v0, v1, v2, v3] sk (fun pc lc sk st => am_g d X am_m1006 pc lc sk st Q) Q)) := am_gu.trans (propext ⟨fun h => ⟨h.1.2, h.2⟩, fun h => ⟨⟨Nat.le_add_left _ _, h.1⟩, h.2⟩⟩)
theorem u1006_55 {v0 : Value} {v1 : Value} {v2 : Value} {v3 : Value} {x : Int32} : am_g d X am_m1006 55 [v0, v1, v2, v3] (.int x :: sk) st Q = (if decide (¬ x = 0) = true then am_g d X am_m1006 61 [v0, v1, v2, v3] sk st Q else am_g d X am_m1006 58 [v0, v1, v2, v3] sk st Q) := am_gu.trans rfl
theorem u1006_58 {v0 : Value} {v1 : Value} {v3 : Value} {x : Int32} : am_g d X am_m1006 58 [v0, v1, .int x, v3] sk st Q = am_g d X am_m1006 61 [v0, am_kc v1, .int (x + am_i 1), v3] sk st Q := am_gu.trans (congrArg (fun l => am_g d X am_m1006 61 (List.set l 2 (.int (x + am_i 1))) sk st Q) (kl_2 (l := [.int x, v3])))
theorem u1006_61 {v0 : Value} {v1 : Value} {v2 : Value} {x : Int32} : am_g d X am_m1006 61 [v0, v1, v2, .int x] sk st Q = am_g d X am_m1006 64 [v0, v1, am_kc v2, .int (x + am_i 1)] sk st Q := am_gu.trans (congrArg (fun l => am_g d X am_m1006 64 (List.set l 3 (.int (x + am_i 1))) sk st Q) (kl_3 (l := [.int x])))
theorem u1006_64 {v0 : Value} {v1 : Value} {v2 : Value} {v3 : Value} : am_g d X am_m1006 64 [v0, v1, v2, v3] sk st Q = am_g d X am_m1006 39 [v0, v1, v2, v3] sk st Q := am_gu.trans rfl
theorem u1006_67 {v0 : Value} {v1 : Value} {v3 : Value} {x : Int32} : am_g d X am_m1006 67 [v0, v1, .int x, v3] sk st Q = am_g d X am_m1006 68 [v0, v1, .int x, v3] (.int x :: sk) st Q := am_gu.trans rfl
theorem u1006_68 {v0 : Value} {v1 : Value} {v2 : Value} {v3 : Value} {x : Int32} : am_g d X am_m1006 68 [v0, v1, v2, v3] [.int x] st Q = Q (.inl (some (.int x))) st := am_gu.trans rfl
set_option maxRecDepth 100000 in
theorem of_1007 : am_of 1007 = some am_m1007 := rfl
theorem c1007 {z a0 a1 a2} {P : am_Q} : am_Ca X (d + 1) 1007 [.ref z, .ref a0, .int a1, .int a2] st P = am_g d X am_m1007 0 [.ref z, .ref a0, .int a1, .int a2, am_u] [] st P := am_cg of_1007 (by show 4 ≤ 5; decide)
theorem hd_1007 : am_hd am_m1007 = [] := rfl
theorem u1007_0 {v1 : Value} {v2 : Value} {v3 : Value} {v4 : Value} {x : Nat} : am_g d X am_m1007 0 [.ref x, v1, v2, v3, v4] sk st Q = am_g d X am_m1007 1 [.ref x, v1, v2, v3, v4] (.ref x :: sk) st Q := am_gu.trans rfl
theorem u1007_1 {v0 : Value} {v1 : Value} {v2 : Value} {v3 : Value} {v4 : Value} : am_g d X am_m1007 1 [v0, v1, v2, v3, v4] sk st Q = am_gt 34 4 [v0, v1, v2, v3, v4] sk st (fun pc lc sk st => am_g d X am_m1007 pc lc sk st Q) := am_gu.trans rfl
theorem u1007_4 {v0 : Value} {v1 : Value} {v2 : Value} {v3 : Value} {v4 : Value} : am_g d X am_m1007 4 [v0, v1, v2, v3, v4] sk st Q = am_g d X am_m1007 5 [v0, v1, v2, v3, v4] (.int (am_i (-1)) :: sk) st Q := am_gu.trans rfl
theorem u1007_5 {a0 : Value} {a1 : Value} {v0 : Value} {v1 : Value} {v2 : Value} {v3 : Value} {v4 : Value} : am_g d X am_m1007 5 [v0, v1, v2, v3, v4] (a1 :: a0 :: sk) st Q = (sk.length ≤ 4 ∧ am_Ca X d 9000 [a0, a1] st (am_af am_m1007 5 [v0, v1, v2, v3, v4] sk (fun pc lc sk st => am_g d X am_m1007 pc lc sk st Q) Q)) := am_gu.trans (propext ⟨fun h => ⟨h.1.2, h.2⟩, fun h => ⟨⟨Nat.le_add_left _ _, h.1⟩, h.2⟩⟩)
theorem u1007_8 {v1 : Value} {v2 : Value} {v3 : Value} {v4 : Value} {x : Nat} : am_g d X am_m1007 8 [.ref x, v1, v2, v3, v4] sk st Q = am_g d X am_m1007 9 [.ref x, v1, v2, v3, v4] (.ref x :: sk) st Q := am_gu.trans rfl
theorem u1007_9 {v0 : Value} {v1 : Value} {v3 : Value} {v4 : Value} {x : Int32} : am_g d X am_m1007 9 [v0, v1, .int x, v3, v4] sk st Q = am_g d X am_m1007 10 [v0, v1, .int x, v3, v4] (.int x :: sk) st Q := am_gu.trans rfl
theorem u1007_10 {v0 : Value} {v1 : Value} {v2 : Value} {v3 : Value} {v4 : Value} : am_g d X am_m1007 10 [v0, v1, v2, v3, v4] sk st Q = am_g d X am_m1007 11 [v0, v1, v2, v3, v4] (.int (am_i 0) :: sk) st Q := am_gu.trans rfl
theorem u1007_11 {a0 : Value} {a1 : Value} {v0 : Value} {v1 : Value} {v2 : Value} {v3 : Value} {v4 : Value} : am_g d X am_m1007 11 [v0, v1, v2, v3, v4] (a1 :: a0 :: .ref o :: sk) st Q = ((am_ob st o 1 ∧ sk.length ≤ 4) ∧ am_Ca X d 1009 [.ref o, a0, a1] st (am_af am_m1007 11 [v0, v1, v2, v3, v4] sk (fun pc lc sk st => am_g d X am_m1007 pc lc sk st Q) Q)) := am_gu.trans rfl
theorem u1007_14 {v0 : Value} {v1 : Value} {v2 : Value} {v3 : Value} {v4 : Value} : am_g d X am_m1007 14 [v0, v1, v2, v3, v4] sk st Q = am_g d X am_m1007 16 [v0, v1, v2, v3, v4] (.int (am_i 59) :: sk) st Q := am_gu.trans rfl
theorem u1007_16 {v0 : Value} {v1 : Value} {v2 : Value} {v3 : Value} {v4 : Value} {x : Int32} : am_g d X am_m1007 16 [v0, v1, v2, v3, v4] (.int x :: sk) st Q = am_g d X am_m1007 18 [v0, v1, v2, am_kc v3, .int x] sk st Q := am_gu.trans (congrArg (fun l => am_g d X am_m1007 18 (List.set l 4 (.int x)) sk st Q) (kl_4 (l := [v4])))
theorem u1007_18 {v0 : Value} {v1 : Value} {v2 : Value} {v3 : Value} {x : Int32} : am_g d X am_m1007 18 [v0, v1, v2, v3, .int x] sk st Q = am_g d X am_m1007 20 [v0, v1, v2, v3, .int x] (.int x :: sk) st Q := am_gu.trans rfl
theorem u1007_20 {v0 : Value} {v1 : Value} {v2 : Value} {v3 : Value} {v4 : Value} {x : Int32} : am_g d X am_m1007 20 [v0, v1, v2, v3, v4] (.int x :: sk) st Q = (if decide (x < 0) = true then am_g d X am_m1007 75 [v0, v1, v2, v3, v4] sk st Q else am_g d X am_m1007 23 [v0, v1, v2, v3, v4] sk st Q) := am_gu.trans rfl
theorem u1007_23 {v1 : Value} {v2 : Value} {v3 : Value} {v4 : Value} {x : Nat} : am_g d X am_m1007 23 [.ref x, v1, v2, v3, v4] sk st Q = am_g d X am_m1007 24 [.ref x, v1, v2, v3, v4] (.ref x :: sk) st Q := am_gu.trans rfl
theorem u1007_24 {v0 : Value} {v1 : Value} {v2 : Value} {v3 : Value} {x : Int32} : am_g d X am_m1007 24 [v0, v1, v2, v3, .int x] sk st Q = am_g d X am_m1007 26 [v0, v1, v2, v3, .int x] (.int x :: sk) st Q := am_gu.trans rfl
theorem u1007_26 {a0 : Value} {v0 : Value} {v1 : Value} {v2 : Value} {v3 : Value} {v4 : Value} : am_g d X am_m1007 26 [v0, v1, v2, v3, v4] (a0 :: .ref o :: sk) st Q = ((am_ob st o 1 ∧ sk.length ≤ 4) ∧ am_Ca X d 1008 [.ref o, a0] st (am_af am_m1007 26 [v0, v1, v2, v3, v4] sk (fun pc lc sk st => am_g d X am_m1007 pc lc sk st Q) Q)) := am_gu.trans rfl
theorem u1007_29 {v0 : Value} {v1 : Value} {v2 : Value} {v3 : Value} {v4 : Value} : am_g d X am_m1007 29 [v0, v1, v2, v3, v4] sk st Q = am_g d X am_m1007 30 [v0, v1, v2, v3, v4] (.int (am_i (-1)) :: sk) st Q := am_gu.trans rfl
theorem u1007_30 {v0 : Value} {v1 : Value} {v2 : Value} {v3 : Value} {v4 : Value} {x : Int32} {y : Int32} : am_g d X am_m1007 30 [v0, v1, v2, v3, v4] (.int y :: .int x :: sk) st Q = (if decide (x = y) = true then am_g d X am_m1007 69 [v0, v1, v2, v3, v4] sk st Q else am_g d X am_m1007 33 [v0, v1, v2, v3, v4] sk st Q) := am_gu.trans rfl
theorem u1007_33 {v1 : Value} {v2 : Value} {v3 : Value} {v4 : Value} {x : Nat} : am_g d X am_m1007 33 [.ref x, v1, v2, v3, v4] sk st Q = am_g d X am_m1007 34 [.ref x, v1, v2, v3, v4] (.ref x :: sk) st Q := am_gu.trans rfl
theorem u1007_34 {v0 : Value} {v2 : Value} {v3 : Value} {v4 : Value} {x : Nat} : am_g d X am_m1007 34 [v0, .ref x, v2, v3, v4] sk st Q = am_g d X am_m1007 35 [v0, .ref x, v2, v3, v4] (.ref x :: sk) st Q := am_gu.trans rfl
theorem u1007_35 {v0 : Value} {v1 : Value} {v2 : Value} {v3 : Value} {x : Int32} : am_g d X am_m1007 35 [v0, v1, v2, v3, .int x] sk st Q = am_g d X am_m1007 37 [v0, v1, v2, v3, .int x] (.int x :: sk) st Q := am_gu.trans rfl
theorem u1007_37 {a0 : Value} {v0 : Value} {v1 : Value} {v2 : Value} {v3 : Value} {v4 : Value} : am_g d X am_m1007 37 [v0, v1, v2, v3, v4] (a0 :: .ref o :: sk) st Q = ((am_ob st o 5 ∧ sk.length ≤ 4) ∧ am_Ca X d 5005 [.ref o, a0] st (am_af am_m1007 37 [v0, v1, v2, v3, v4] sk (fun pc lc sk st => am_g d X am_m1007 pc lc sk st Q) Q)) := am_gu.trans rfl
theorem u1007_40 {v1 : Value} {v2 : Value} {v3 : Value} {v4 : Value} {x : Nat} : am_g d X am_m1007 40 [.ref x, v1, v2, v3, v4] sk st Q = am_g d X am_m1007 41 [.ref x, v1, v2, v3, v4] (.ref x :: sk) st Q := am_gu.trans rfl
theorem u1007_41 {v0 : Value} {v1 : Value} {v2 : Value} {v3 : Value} {x : Int32} : am_g d X am_m1007 41 [v0, v1, v2, v3, .int x] sk st Q = am_g d X am_m1007 43 [v0, v1, v2, v3, .int x] (.int x :: sk) st Q := am_gu.trans rfl
theorem u1007_43 {a0 : Value} {v0 : Value} {v1 : Value} {v2 : Value} {v3 : Value} {v4 : Value} : am_g d X am_m1007 43 [v0, v1, v2, v3, v4] (a0 :: .ref o :: sk) st Q = ((am_ob st o 1 ∧ sk.length ≤ 4) ∧ am_Ca X d 1008 [.ref o, a0] st (am_af am_m1007 43 [v0, v1, v2, v3, v4] sk (fun pc lc sk st => am_g d X am_m1007 pc lc sk st Q) Q)) := am_gu.trans rfl
theorem u1007_46 {v0 : Value} {v1 : Value} {v2 : Value} {v3 : Value} {v4 : Value} : am_g d X am_m1007 46 [v0, v1, v2, v3, v4] sk st Q = am_g d X am_m1007 47 [v0, v1, v2, v3, v4] (.int (am_i 1) :: sk) st Q := am_gu.trans rfl
theorem u1007_47 {v0 : Value} {v1 : Value} {v2 : Value} {v3 : Value} {v4 : Value} {x : Int32} {y : Int32} : am_g d X am_m1007 47 [v0, v1, v2, v3, v4] (.int y :: .int x :: sk) st Q = am_g d X am_m1007 48 [v0, v1, v2, v3, v4] (.int (x + y) :: sk) st Q := am_gu.trans rfl
theorem u1007_48 {a0 : Value} {a1 : Value} {v0 : Value} {v1 : Value} {v2 : Value} {v3 : Value} {v4 : Value} : am_g d X am_m1007 48 [v0, v1, v2, v3, v4] (a1 :: a0 :: .ref o :: sk) st Q = ((am_ob st o 1 ∧ sk.length ≤ 4) ∧ am_Ca X d 1009 [.ref o, a0, a1] st (am_af am_m1007 48 [v0, v1, v2, v3, v4] sk (fun pc lc sk st => am_g d X am_m1007 pc lc sk st Q) Q)) := am_gu.trans rfl
theorem u1007_51 {v1 : Value} {v2 : Value} {v3 : Value} {v4 : Value} {x : Nat} : am_g d X am_m1007 51 [.ref x, v1, v2, v3, v4] sk st Q = am_g d X am_m1007 52 [.ref x, v1, v2, v3, v4] (.ref x :: sk) st Q := am_gu.trans rfl
theorem u1007_52 {v0 : Value} {v2 : Value} {v3 : Value} {v4 : Value} {x : Nat} : am_g d X am_m1007 52 [v0, .ref x, v2, v3, v4] sk st Q = am_g d X am_m1007 53 [v0, .ref x, v2, v3, v4] (.ref x :: sk) st Q := am_gu.trans rfl
theorem u1007_53 {v0 : Value} {v1 : Value} {v2 : Value} {v3 : Value} {x : Int32} : am_g d X am_m1007 53 [v0, v1, v2, v3, .int x] sk st Q = am_g d X am_m1007 55 [v0, v1, v2, v3, .int x] (.int x :: sk) st Q := am_gu.trans rfl
theorem u1007_55 {a0 : Value} {v0 : Value} {v1 : Value} {v2 : Value} {v3 : Value} {v4 : Value} : am_g d X am_m1007 55 [v0, v1, v2, v3, v4] (a0 :: .ref o :: sk) st Q = ((am_ob st o 5 ∧ sk.length ≤ 4) ∧ am_Ca X d 5006 [.ref o, a0] st (am_af am_m1007 55 [v0, v1, v2, v3, v4] sk (fun pc lc sk st => am_g d X am_m1007 pc lc sk st Q) Q)) := am_gu.trans rfl
theorem u1007_58 {v1 : Value} {v2 : Value} {v3 : Value} {v4 : Value} {x : Nat} : am_g d X am_m1007 58 [.ref x, v1, v2, v3, v4] sk st Q = am_g d X am_m1007 59 [.ref x, v1, v2, v3, v4] (.ref x :: sk) st Q := am_gu.trans rfl
theorem u1007_59 {v0 : Value} {v1 : Value} {v2 : Value} {v3 : Value} {x : Int32} : am_g d X am_m1007 59 [v0, v1, v2, v3, .int x] sk st Q = am_g d X am_m1007 61 [v0, v1, v2, v3, .int x] (.int x :: sk) st Q := am_gu.trans rfl
theorem u1007_61 {a0 : Value} {v0 : Value} {v1 : Value} {v2 : Value} {v3 : Value} {v4 : Value} : am_g d X am_m1007 61 [v0, v1, v2, v3, v4] (a0 :: .ref o :: sk) st Q = ((am_ob st o 1 ∧ sk.length ≤ 4) ∧ am_Ca X d 1008 [.ref o, a0] st (am_af am_m1007 61 [v0, v1, v2, v3, v4] sk (fun pc lc sk st => am_g d X am_m1007 pc lc sk st Q) Q)) := am_gu.trans rfl
theorem u1007_64 {v0 : Value} {v1 : Value} {v2 : Value} {v3 : Value} {v4 : Value} : am_g d X am_m1007 64 [v0, v1, v2, v3, v4] sk st Q = am_g d X am_m1007 65 [v0, v1, v2, v3, v4] (.int (am_i 1) :: sk) st Q := am_gu.trans rfl
theorem u1007_65 {v0 : Value} {v1 : Value} {v2 : Value} {v3 : Value} {v4 : Value} {x : Int32} {y : Int32} : am_g d X am_m1007 65 [v0, v1, v2, v3, v4] (.int y :: .int x :: sk) st Q = am_g d X am_m1007 66 [v0, v1, v2, v3, v4] (.int (x + y) :: sk) st Q := am_gu.trans rfl
theorem u1007_66 {a0 : Value} {a1 : Value} {v0 : Value} {v1 : Value} {v2 : Value} {v3 : Value} {v4 : Value} : am_g d X am_m1007 66 [v0, v1, v2, v3, v4] (a1 :: a0 :: .ref o :: sk) st Q = ((am_ob st o 1 ∧ sk.length ≤ 4) ∧ am_Ca X d 1009 [.ref o, a0, a1] st (am_af am_m1007 66 [v0, v1, v2, v3, v4] sk (fun pc lc sk st => am_g d X am_m1007 pc lc sk st Q) Q)) := am_gu.trans rfl
theorem u1007_69 {v0 : Value} {v1 : Value} {v2 : Value} {v3 : Value} {x : Int32} : am_g d X am_m1007 69 [v0, v1, v2, v3, .int x] sk st Q = am_g d X am_m1007 72 [v0, v1, v2, am_kc v3, .int (x + am_i (-1))] sk st Q := am_gu.trans (congrArg (fun l => am_g d X am_m1007 72 (List.set l 4 (.int (x + am_i (-1)))) sk st Q) (kl_4 (l := [.int x])))
theorem u1007_72 {v0 : Value} {v1 : Value} {v2 : Value} {v3 : Value} {v4 : Value} : am_g d X am_m1007 72 [v0, v1, v2, v3, v4] sk st Q = am_g d X am_m1007 18 [v0, v1, v2, v3, v4] sk st Q := am_gu.trans rfl
theorem u1007_75 {v1 : Value} {v2 : Value} {v3 : Value} {v4 : Value} {x : Nat} : am_g d X am_m1007 75 [.ref x, v1, v2, v3, v4] sk st Q = am_g d X am_m1007 76 [.ref x, v1, v2, v3, v4] (.ref x :: sk) st Q := am_gu.trans rfl
theorem u1007_76 {v0 : Value} {v1 : Value} {v2 : Value} {v4 : Value} {x : Int32} : am_g d X am_m1007 76 [v0, v1, v2, .int x, v4] sk st Q = am_g d X am_m1007 77 [v0, v1, v2, .int x, v4] (.int x :: sk) st Q := am_gu.trans rfl
theorem u1007_77 {a0 : Value} {v0 : Value} {v1 : Value} {v2 : Value} {v3 : Value} {v4 : Value} : am_g d X am_m1007 77 [v0, v1, v2, v3, v4] (a0 :: .ref o :: sk) st Q = ((am_ob st o 1 ∧ sk.length ≤ 4) ∧ am_Ca X d 1008 [.ref o, a0] st (am_af am_m1007 77 [v0, v1, v2, v3, v4] sk (fun pc lc sk st => am_g d X am_m1007 pc lc sk st Q) Q)) := am_gu.trans rfl
theorem u1007_80 {v0 : Value} {v1 : Value} {v2 : Value} {v3 : Value} {v4 : Value} {x : Int32} : am_g d X am_m1007 80 [v0, v1, v2, v3, v4] [.int x] st Q = Q (.inl (some (.int x))) st := am_gu.trans rfl
set_option maxRecDepth 100000 in
theorem of_1008 : am_of 1008 = some am_m1008 := rfl
theorem c1008 {z a0} {P : am_Q} : am_Ca X (d + 1) 1008 [.ref z, .int a0] st P = am_g d X am_m1008 0 [.ref z, .int a0] [] st P := am_cg of_1008 (by show 2 ≤ 2; decide)
theorem hd_1008 : am_hd am_m1008 = [] := rfl
theorem u1008_0 {v0 : Value} {x : Int32} : am_g d X am_m1008 0 [v0, .int x] sk st Q = am_g d X am_m1008 1 [v0, .int x] (.int x :: sk) st Q := am_gu.trans rfl
theorem u1008_1 {v0 : Value} {v1 : Value} {x : Int32} : am_g d X am_m1008 1 [v0, v1] (.int x :: sk) st Q = (if decide (x < 0) = true then am_g d X am_m1008 19 [v0, v1] sk st Q else am_g d X am_m1008 4 [v0, v1] sk st Q) := am_gu.trans rfl
theorem u1008_4 {v0 : Value} {x : Int32} : am_g d X am_m1008 4 [v0, .int x] sk st Q = am_g d X am_m1008 5 [v0, .int x] (.int x :: sk) st Q := am_gu.trans rfl
theorem u1008_5 {v0 : Value} {v1 : Value} : am_g d X am_m1008 5 [v0, v1] sk st Q = am_g d X am_m1008 7 [v0, v1] (.int (am_i 60) :: sk) st Q := am_gu.trans rfl
theorem u1008_7 {v0 : Value} {v1 : Value} {x : Int32} {y : Int32} : am_g d X am_m1008 7 [v0, v1] (.int y :: .int x :: sk) st Q = (if decide (y ≤ x) = true then am_g d X am_m1008 19 [v0, v1] sk st Q else am_g d X am_m1008 10 [v0, v1] sk st Q) := am_gu.trans rfl
theorem u1008_10 {v1 : Value} {x : Nat} : am_g d X am_m1008 10 [.ref x, v1] sk st Q = am_g d X am_m1008 11 [.ref x, v1] (.ref x :: sk) st Q := am_gu.trans rfl
theorem u1008_11 {v0 : Value} {v1 : Value} : am_g d X am_m1008 11 [v0, v1] sk st Q = am_gt 34 14 [v0, v1] sk st (fun pc lc sk st => am_g d X am_m1008 pc lc sk st Q) := am_gu.trans rfl
theorem u1008_14 {v0 : Value} {x : Int32} : am_g d X am_m1008 14 [v0, .int x] sk st Q = am_g d X am_m1008 15 [v0, .int x] (.int x :: sk) st Q := am_gu.trans rfl
theorem u1008_15 {v0 : Value} {v1 : Value} : am_g d X am_m1008 15 [v0, v1] sk st Q = am_xl (X.1, X.2.1, d) am_m1008 16 [v0, v1] sk st (fun pc lc sk st => am_g d X am_m1008 pc lc sk st Q) := am_gu.trans rfl
theorem u1008_16 {v0 : Value} {v1 : Value} : am_g d X am_m1008 16 [v0, v1] sk st Q = am_g d X am_m1008 20 [v0, v1] sk st Q := am_gu.trans rfl
theorem u1008_19 {v0 : Value} {v1 : Value} : am_g d X am_m1008 19 [v0, v1] sk st Q = am_g d X am_m1008 20 [v0, v1] (.int (am_i (-1)) :: sk) st Q := am_gu.trans rfl
theorem u1008_20 {v0 : Value} {v1 : Value} {x : Int32} : am_g d X am_m1008 20 [v0, v1] [.int x] st Q = Q (.inl (some (.int x))) st := am_gu.trans rfl
set_option maxRecDepth 100000 in
theorem of_1009 : am_of 1009 = some am_m1009 := rfl
theorem c1009 {z a0 a1} {P : am_Q} : am_Ca X (d + 1) 1009 [.ref z, .int a0, .int a1] st P = am_g d X am_m1009 0 [.ref z, .int a0, .int a1] [] st P := am_cg of_1009 (by show 3 ≤ 3; decide)
theorem hd_1009 : am_hd am_m1009 = [] := rfl
theorem u1009_0 {v0 : Value} {v2 : Value} {x : Int32} : am_g d X am_m1009 0 [v0, .int x, v2] sk st Q = am_g d X am_m1009 1 [v0, .int x, v2] (.int x :: sk) st Q := am_gu.trans rfl
theorem u1009_1 {v0 : Value} {v1 : Value} {v2 : Value} {x : Int32} : am_g d X am_m1009 1 [v0, v1, v2] (.int x :: sk) st Q = (if decide (x < 0) = true then am_g d X am_m1009 37 [v0, v1, v2] sk st Q else am_g d X am_m1009 4 [v0, v1, v2] sk st Q) := am_gu.trans rfl
theorem u1009_4 {v0 : Value} {v2 : Value} {x : Int32} : am_g d X am_m1009 4 [v0, .int x, v2] sk st Q = am_g d X am_m1009 5 [v0, .int x, v2] (.int x :: sk) st Q := am_gu.trans rfl
theorem u1009_5 {v0 : Value} {v1 : Value} {v2 : Value} : am_g d X am_m1009 5 [v0, v1, v2] sk st Q = am_g d X am_m1009 7 [v0, v1, v2] (.int (am_i 60) :: sk) st Q := am_gu.trans rfl
theorem u1009_7 {v0 : Value} {v1 : Value} {v2 : Value} {x : Int32} {y : Int32} : am_g d X am_m1009 7 [v0, v1, v2] (.int y :: .int x :: sk) st Q = (if decide (y ≤ x) = true then am_g d X am_m1009 37 [v0, v1, v2] sk st Q else am_g d X am_m1009 10 [v0, v1, v2] sk st Q) := am_gu.trans rfl
theorem u1009_10 {v1 : Value} {v2 : Value} {x : Nat} : am_g d X am_m1009 10 [.ref x, v1, v2] sk st Q = am_g d X am_m1009 11 [.ref x, v1, v2] (.ref x :: sk) st Q := am_gu.trans rfl
theorem u1009_11 {v0 : Value} {v1 : Value} {v2 : Value} : am_g d X am_m1009 11 [v0, v1, v2] sk st Q = am_gt 34 14 [v0, v1, v2] sk st (fun pc lc sk st => am_g d X am_m1009 pc lc sk st Q) := am_gu.trans rfl
theorem u1009_14 {v0 : Value} {v2 : Value} {x : Int32} : am_g d X am_m1009 14 [v0, .int x, v2] sk st Q = am_g d X am_m1009 15 [v0, .int x, v2] (.int x :: sk) st Q := am_gu.trans rfl
theorem u1009_15 {v0 : Value} {v1 : Value} {v2 : Value} : am_g d X am_m1009 15 [v0, v1, v2] sk st Q = am_xl (X.1, X.2.1, d) am_m1009 16 [v0, v1, v2] sk st (fun pc lc sk st => am_g d X am_m1009 pc lc sk st Q) := am_gu.trans rfl
theorem u1009_16 {v0 : Value} {v1 : Value} {v2 : Value} : am_g d X am_m1009 16 [v0, v1, v2] sk st Q = am_g d X am_m1009 17 [v0, v1, v2] (.int (am_i (-1)) :: sk) st Q := am_gu.trans rfl
theorem u1009_17 {v0 : Value} {v1 : Value} {v2 : Value} {x : Int32} {y : Int32} : am_g d X am_m1009 17 [v0, v1, v2] (.int y :: .int x :: sk) st Q = (if decide (x = y) = true then am_g d X am_m1009 30 [v0, v1, v2] sk st Q else am_g d X am_m1009 20 [v0, v1, v2] sk st Q) := am_gu.trans rfl
theorem u1009_20 {v1 : Value} {v2 : Value} {x : Nat} : am_g d X am_m1009 20 [.ref x, v1, v2] sk st Q = am_g d X am_m1009 21 [.ref x, v1, v2] (.ref x :: sk) st Q := am_gu.trans rfl
theorem u1009_21 {v0 : Value} {v1 : Value} {v2 : Value} : am_g d X am_m1009 21 [v0, v1, v2] sk st Q = am_gt 34 24 [v0, v1, v2] sk st (fun pc lc sk st => am_g d X am_m1009 pc lc sk st Q) := am_gu.trans rfl
theorem u1009_24 {v0 : Value} {v2 : Value} {x : Int32} : am_g d X am_m1009 24 [v0, .int x, v2] sk st Q = am_g d X am_m1009 25 [v0, .int x, v2] (.int x :: sk) st Q := am_gu.trans rfl
theorem u1009_25 {v0 : Value} {v1 : Value} {v2 : Value} : am_g d X am_m1009 25 [v0, v1, v2] sk st Q = am_xl (X.1, X.2.1, d) am_m1009 26 [v0, v1, v2] sk st (fun pc lc sk st => am_g d X am_m1009 pc lc sk st Q) := am_gu.trans rfl
theorem u1009_26 {v0 : Value} {v1 : Value} {x : Int32} : am_g d X am_m1009 26 [v0, v1, .int x] sk st Q = am_g d X am_m1009 27 [v0, v1, .int x] (.int x :: sk) st Q := am_gu.trans rfl
theorem u1009_27 {v0 : Value} {v1 : Value} {v2 : Value} {x : Int32} {y : Int32} : am_g d X am_m1009 27 [v0, v1, v2] (.int y :: .int x :: sk) st Q = (if decide (x ≤ y) = true then am_g d X am_m1009 37 [v0, v1, v2] sk st Q else am_g d X am_m1009 30 [v0, v1, v2] sk st Q) := am_gu.trans rfl
theorem u1009_30 {v1 : Value} {v2 : Value} {x : Nat} : am_g d X am_m1009 30 [.ref x, v1, v2] sk st Q = am_g d X am_m1009 31 [.ref x, v1, v2] (.ref x :: sk) st Q := am_gu.trans rfl
theorem u1009_31 {v0 : Value} {v1 : Value} {v2 : Value} : am_g d X am_m1009 31 [v0, v1, v2] sk st Q = am_gt 34 34 [v0, v1, v2] sk st (fun pc lc sk st => am_g d X am_m1009 pc lc sk st Q) := am_gu.trans rfl
theorem u1009_34 {v0 : Value} {v2 : Value} {x : Int32} : am_g d X am_m1009 34 [v0, .int x, v2] sk st Q = am_g d X am_m1009 35 [v0, .int x, v2] (.int x :: sk) st Q := am_gu.trans rfl
theorem u1009_35 {v0 : Value} {v1 : Value} {x : Int32} : am_g d X am_m1009 35 [v0, v1, .int x] sk st Q = am_g d X am_m1009 36 [v0, v1, .int x] (.int x :: sk) st Q := am_gu.trans rfl
theorem u1009_36 {v0 : Value} {v1 : Value} {v2 : Value} : am_g d X am_m1009 36 [v0, v1, v2] sk st Q = am_xs 37 [v0, v1, v2] sk st (fun pc lc sk st => am_g d X am_m1009 pc lc sk st Q) := am_gu.trans rfl
theorem u1009_37 {v0 : Value} {v1 : Value} {v2 : Value} : am_g d X am_m1009 37 [v0, v1, v2] [] st Q = Q (.inl none) st := am_gu.trans rfl
set_option maxRecDepth 100000 in
theorem of_1010 : am_of 1010 = some am_m1010 := rfl
theorem c1010 {z a0 a1} {P : am_Q} : am_Ca X (d + 1) 1010 [.ref z, .ref a0, .int a1] st P = am_g d X am_m1010 0 [.ref z, .ref a0, .int a1, am_u, am_u] [] st P := am_cg of_1010 (by show 3 ≤ 5; decide)
theorem hd_1010 : am_hd am_m1010 = [] := rfl
theorem u1010_0 {v0 : Value} {v1 : Value} {v2 : Value} {v3 : Value} {v4 : Value} : am_g d X am_m1010 0 [v0, v1, v2, v3, v4] sk st Q = am_g d X am_m1010 1 [v0, v1, v2, v3, v4] (.int (am_i 0) :: sk) st Q := am_gu.trans rfl
theorem u1010_1 {v0 : Value} {v1 : Value} {v2 : Value} {v3 : Value} {v4 : Value} {x : Int32} : am_g d X am_m1010 1 [v0, v1, v2, v3, v4] (.int x :: sk) st Q = am_g d X am_m1010 2 [v0, v1, am_kc v2, .int x, v4] sk st Q := am_gu.trans (congrArg (fun l => am_g d X am_m1010 2 (List.set l 3 (.int x)) sk st Q) (kl_3 (l := [v3, v4])))
theorem u1010_2 {v0 : Value} {v1 : Value} {v2 : Value} {v4 : Value} {x : Int32} : am_g d X am_m1010 2 [v0, v1, v2, .int x, v4] sk st Q = am_g d X am_m1010 3 [v0, v1, v2, .int x, v4] (.int x :: sk) st Q := am_gu.trans rfl
theorem u1010_3 {v0 : Value} {v1 : Value} {v2 : Value} {v3 : Value} {v4 : Value} : am_g d X am_m1010 3 [v0, v1, v2, v3, v4] sk st Q = am_g d X am_m1010 5 [v0, v1, v2, v3, v4] (.int (am_i 60) :: sk) st Q := am_gu.trans rfl
theorem u1010_5 {v0 : Value} {v1 : Value} {v2 : Value} {v3 : Value} {v4 : Value} {x : Int32} {y : Int32} : am_g d X am_m1010 5 [v0, v1, v2, v3, v4] (.int y :: .int x :: sk) st Q = (if decide (y ≤ x) = true then am_g d X am_m1010 52 [v0, v1, v2, v3, v4] sk st Q else am_g d X am_m1010 8 [v0, v1, v2, v3, v4] sk st Q) := am_gu.trans rfl
theorem u1010_8 {v0 : Value} {v1 : Value} {v2 : Value} {v4 : Value} {x : Int32} : am_g d X am_m1010 8 [v0, v1, v2, .int x, v4] sk st Q = am_g d X am_m1010 9 [v0, v1, v2, .int x, v4] (.int x :: sk) st Q := am_gu.trans rfl
theorem u1010_9 {v0 : Value} {v1 : Value} {v3 : Value} {v4 : Value} {x : Int32} : am_g d X am_m1010 9 [v0, v1, .int x, v3, v4] sk st Q = am_g d X am_m1010 10 [v0, v1, .int x, v3, v4] (.int x :: sk) st Q := am_gu.trans rfl
theorem u1010_10 {v0 : Value} {v1 : Value} {v2 : Value} {v3 : Value} {v4 : Value} {x : Int32} {y : Int32} : am_g d X am_m1010 10 [v0, v1, v2, v3, v4] (.int y :: .int x :: sk) st Q = (if decide (y < x) = true then am_g d X am_m1010 52 [v0, v1, v2, v3, v4] sk st Q else am_g d X am_m1010 13 [v0, v1, v2, v3, v4] sk st Q) := am_gu.trans rfl
theorem u1010_13 {v1 : Value} {v2 : Value} {v3 : Value} {v4 : Value} {x : Nat} : am_g d X am_m1010 13 [.ref x, v1, v2, v3, v4] sk st Q = am_g d X am_m1010 14 [.ref x, v1, v2, v3, v4] (.ref x :: sk) st Q := am_gu.trans rfl
theorem u1010_14 {v0 : Value} {v2 : Value} {v3 : Value} {v4 : Value} {x : Nat} : am_g d X am_m1010 14 [v0, .ref x, v2, v3, v4] sk st Q = am_g d X am_m1010 15 [v0, .ref x, v2, v3, v4] (.ref x :: sk) st Q := am_gu.trans rfl
theorem u1010_15 {v0 : Value} {v1 : Value} {v2 : Value} {v4 : Value} {x : Int32} : am_g d X am_m1010 15 [v0, v1, v2, .int x, v4] sk st Q = am_g d X am_m1010 16 [v0, v1, v2, .int x, v4] (.int x :: sk) st Q := am_gu.trans rfl
theorem u1010_16 {a0 : Value} {v0 : Value} {v1 : Value} {v2 : Value} {v3 : Value} {v4 : Value} : am_g d X am_m1010 16 [v0, v1, v2, v3, v4] (a0 :: .ref o :: sk) st Q = ((am_ob st o 5 ∧ sk.length ≤ 4) ∧ am_Ca X d 5005 [.ref o, a0] st (am_af am_m1010 16 [v0, v1, v2, v3, v4] sk (fun pc lc sk st => am_g d X am_m1010 pc lc sk st Q) Q)) := am_gu.trans rfl
theorem u1010_19 {a0 : Value} {v0 : Value} {v1 : Value} {v2 : Value} {v3 : Value} {v4 : Value} : am_g d X am_m1010 19 [v0, v1, v2, v3, v4] (a0 :: .ref o :: sk) st Q = ((am_ob st o 1 ∧ sk.length ≤ 4) ∧ am_Ca X d 1008 [.ref o, a0] st (am_af am_m1010 19 [v0, v1, v2, v3, v4] sk (fun pc lc sk st => am_g d X am_m1010 pc lc sk st Q) Q)) := am_gu.trans rfl
theorem u1010_22 {v1 : Value} {v2 : Value} {v3 : Value} {v4 : Value} {x : Nat} : am_g d X am_m1010 22 [.ref x, v1, v2, v3, v4] sk st Q = am_g d X am_m1010 23 [.ref x, v1, v2, v3, v4] (.ref x :: sk) st Q := am_gu.trans rfl
theorem u1010_23 {v0 : Value} {v2 : Value} {v3 : Value} {v4 : Value} {x : Nat} : am_g d X am_m1010 23 [v0, .ref x, v2, v3, v4] sk st Q = am_g d X am_m1010 24 [v0, .ref x, v2, v3, v4] (.ref x :: sk) st Q := am_gu.trans rfl
theorem u1010_24 {v0 : Value} {v1 : Value} {v2 : Value} {v4 : Value} {x : Int32} : am_g d X am_m1010 24 [v0, v1, v2, .int x, v4] sk st Q = am_g d X am_m1010 25 [v0, v1, v2, .int x, v4] (.int x :: sk) st Q := am_gu.trans rfl
theorem u1010_25 {a0 : Value} {v0 : Value} {v1 : Value} {v2 : Value} {v3 : Value} {v4 : Value} : am_g d X am_m1010 25 [v0, v1, v2, v3, v4] (a0 :: .ref o :: sk) st Q = ((am_ob st o 5 ∧ sk.length ≤ 4) ∧ am_Ca X d 5006 [.ref o, a0] st (am_af am_m1010 25 [v0, v1, v2, v3, v4] sk (fun pc lc sk st => am_g d X am_m1010 pc lc sk st Q) Q)) := am_gu.trans rfl
theorem u1010_28 {a0 : Value} {v0 : Value} {v1 : Value} {v2 : Value} {v3 : Value} {v4 : Value} : am_g d X am_m1010 28 [v0, v1, v2, v3, v4] (a0 :: .ref o :: sk) st Q = ((am_ob st o 1 ∧ sk.length ≤ 4) ∧ am_Ca X d 1008 [.ref o, a0] st (am_af am_m1010 28 [v0, v1, v2, v3, v4] sk (fun pc lc sk st => am_g d X am_m1010 pc lc sk st Q) Q)) := am_gu.trans rfl
theorem u1010_31 {v0 : Value} {v1 : Value} {v2 : Value} {v3 : Value} {v4 : Value} {x : Int32} {y : Int32} : am_g d X am_m1010 31 [v0, v1, v2, v3, v4] (.int y :: .int x :: sk) st Q = (sk.length ≤ 4 ∧ am_g d X am_m1010 34 [v0, v1, v2, v3, v4] (.int (if x < y then y else x) :: sk) st Q) := am_gu.trans rfl
theorem u1010_34 {v0 : Value} {v1 : Value} {v2 : Value} {v3 : Value} {v4 : Value} {x : Int32} : am_g d X am_m1010 34 [v0, v1, v2, v3, v4] (.int x :: sk) st Q = am_g d X am_m1010 36 [v0, v1, v2, am_kc v3, .int x] sk st Q := am_gu.trans (congrArg (fun l => am_g d X am_m1010 36 (List.set l 4 (.int x)) sk st Q) (kl_4 (l := [v4])))
theorem u1010_36 {v1 : Value} {v2 : Value} {v3 : Value} {v4 : Value} {x : Nat} : am_g d X am_m1010 36 [.ref x, v1, v2, v3, v4] sk st Q = am_g d X am_m1010 37 [.ref x, v1, v2, v3, v4] (.ref x :: sk) st Q := am_gu.trans rfl
theorem u1010_37 {v0 : Value} {v1 : Value} {v2 : Value} {v3 : Value} {v4 : Value} : am_g d X am_m1010 37 [v0, v1, v2, v3, v4] sk st Q = am_gt 34 40 [v0, v1, v2, v3, v4] sk st (fun pc lc sk st => am_g d X am_m1010 pc lc sk st Q) := am_gu.trans rfl
theorem u1010_40 {v0 : Value} {v1 : Value} {v2 : Value} {v4 : Value} {x : Int32} : am_g d X am_m1010 40 [v0, v1, v2, .int x, v4] sk st Q = am_g d X am_m1010 41 [v0, v1, v2, .int x, v4] (.int x :: sk) st Q := am_gu.trans rfl
theorem u1010_41 {v0 : Value} {v1 : Value} {v2 : Value} {v3 : Value} {x : Int32} : am_g d X am_m1010 41 [v0, v1, v2, v3, .int x] sk st Q = am_g d X am_m1010 43 [v0, v1, v2, v3, .int x] (.int x :: sk) st Q := am_gu.trans rfl
theorem u1010_43 {v0 : Value} {v1 : Value} {v2 : Value} {v3 : Value} {v4 : Value} : am_g d X am_m1010 43 [v0, v1, v2, v3, v4] sk st Q = am_g d X am_m1010 44 [v0, v1, v2, v3, v4] (.int (am_i 1) :: sk) st Q := am_gu.trans rfl
theorem u1010_44 {v0 : Value} {v1 : Value} {v2 : Value} {v3 : Value} {v4 : Value} {x : Int32} {y : Int32} : am_g d X am_m1010 44 [v0, v1, v2, v3, v4] (.int y :: .int x :: sk) st Q = am_g d X am_m1010 45 [v0, v1, v2, v3, v4] (.int (x + y) :: sk) st Q := am_gu.trans rfl
theorem u1010_45 {v0 : Value} {v1 : Value} {v2 : Value} {v3 : Value} {v4 : Value} : am_g d X am_m1010 45 [v0, v1, v2, v3, v4] sk st Q = am_xs 46 [v0, v1, v2, v3, v4] sk st (fun pc lc sk st => am_g d X am_m1010 pc lc sk st Q) := am_gu.trans rfl
theorem u1010_46 {v0 : Value} {v1 : Value} {v2 : Value} {v4 : Value} {x : Int32} : am_g d X am_m1010 46 [v0, v1, v2, .int x, v4] sk st Q = am_g d X am_m1010 49 [v0, v1, am_kc v2, .int (x + am_i 1), v4] sk st Q := am_gu.trans (congrArg (fun l => am_g d X am_m1010 49 (List.set l 3 (.int (x + am_i 1))) sk st Q) (kl_3 (l := [.int x, v4])))
theorem u1010_49 {v0 : Value} {v1 : Value} {v2 : Value} {v3 : Value} {v4 : Value} : am_g d X am_m1010 49 [v0, v1, v2, v3, v4] sk st Q = am_g d X am_m1010 2 [v0, v1, v2, v3, v4] sk st Q := am_gu.trans rfl
theorem u1010_52 {v1 : Value} {v2 : Value} {v3 : Value} {v4 : Value} {x : Nat} : am_g d X am_m1010 52 [.ref x, v1, v2, v3, v4] sk st Q = am_g d X am_m1010 53 [.ref x, v1, v2, v3, v4] (.ref x :: sk) st Q := am_gu.trans rfl
theorem u1010_53 {v0 : Value} {v1 : Value} {v3 : Value} {v4 : Value} {x : Int32} : am_g d X am_m1010 53 [v0, v1, .int x, v3, v4] sk st Q = am_g d X am_m1010 54 [v0, v1, .int x, v3, v4] (.int x :: sk) st Q := am_gu.trans rfl
theorem u1010_54 {a0 : Value} {v0 : Value} {v1 : Value} {v2 : Value} {v3 : Value} {v4 : Value} : am_g d X am_m1010 54 [v0, v1, v2, v3, v4] (a0 :: .ref o :: sk) st Q = ((am_ob st o 1 ∧ sk.length ≤ 4) ∧ am_Ca X d 1008 [.ref o, a0] st (am_af am_m1010 54 [v0, v1, v2, v3, v4] sk (fun pc lc sk st => am_g d X am_m1010 pc lc sk st Q) Q)) := am_gu.trans rfl
theorem u1010_57 {v0 : Value} {v1 : Value} {v2 : Value} {v3 : Value} {v4 : Value} {x : Int32} : am_g d X am_m1010 57 [v0, v1, v2, v3, v4] [.int x] st Q = Q (.inl (some (.int x))) st := am_gu.trans rfl
set_option maxRecDepth 100000 in
theorem of_1011 : am_of 1011 = some am_m1011 := rfl
theorem c1011 {z a0 a1 a2} {P : am_Q} : am_Ca X (d + 1) 1011 [.ref z, .ref a0, .int a1, .int a2] st P = am_g d X am_m1011 0 [.ref z, .ref a0, .int a1, .int a2, am_u] [] st P := am_cg of_1011 (by show 4 ≤ 5; decide)
theorem hd_1011 : am_hd am_m1011 = [] := rfl
theorem u1011_0 {v1 : Value} {v2 : Value} {v3 : Value} {v4 : Value} {x : Nat} : am_g d X am_m1011 0 [.ref x, v1, v2, v3, v4] sk st Q = am_g d X am_m1011 1 [.ref x, v1, v2, v3, v4] (.ref x :: sk) st Q := am_gu.trans rfl
theorem u1011_1 {v0 : Value} {v1 : Value} {v2 : Value} {v3 : Value} {v4 : Value} : am_g d X am_m1011 1 [v0, v1, v2, v3, v4] sk st Q = am_gt 32 4 [v0, v1, v2, v3, v4] sk st (fun pc lc sk st => am_g d X am_m1011 pc lc sk st Q) := am_gu.trans rfl
theorem u1011_4 {v0 : Value} {v1 : Value} {v2 : Value} {v3 : Value} {v4 : Value} : am_g d X am_m1011 4 [v0, v1, v2, v3, v4] sk st Q = am_g d X am_m1011 5 [v0, v1, v2, v3, v4] (.int (am_i 0) :: sk) st Q := am_gu.trans rfl
theorem u1011_5 {a0 : Value} {a1 : Value} {v0 : Value} {v1 : Value} {v2 : Value} {v3 : Value} {v4 : Value} : am_g d X am_m1011 5 [v0, v1, v2, v3, v4] (a1 :: a0 :: sk) st Q = (sk.length ≤ 4 ∧ am_Ca X d 9000 [a0, a1] st (am_af am_m1011 5 [v0, v1, v2, v3, v4] sk (fun pc lc sk st => am_g d X am_m1011 pc lc sk st Q) Q)) := am_gu.trans (propext ⟨fun h => ⟨h.1.2, h.2⟩, fun h => ⟨⟨Nat.le_add_left _ _, h.1⟩, h.2⟩⟩)
theorem u1011_8 {v1 : Value} {v2 : Value} {v3 : Value} {v4 : Value} {x : Nat} : am_g d X am_m1011 8 [.ref x, v1, v2, v3, v4] sk st Q = am_g d X am_m1011 9 [.ref x, v1, v2, v3, v4] (.ref x :: sk) st Q := am_gu.trans rfl
theorem u1011_9 {v0 : Value} {v1 : Value} {v2 : Value} {v3 : Value} {v4 : Value} : am_g d X am_m1011 9 [v0, v1, v2, v3, v4] sk st Q = am_gt 32 12 [v0, v1, v2, v3, v4] sk st (fun pc lc sk st => am_g d X am_m1011 pc lc sk st Q) := am_gu.trans rfl
theorem u1011_12 {v0 : Value} {v1 : Value} {v3 : Value} {v4 : Value} {x : Int32} : am_g d X am_m1011 12 [v0, v1, .int x, v3, v4] sk st Q = am_g d X am_m1011 13 [v0, v1, .int x, v3, v4] (.int x :: sk) st Q := am_gu.trans rfl
theorem u1011_13 {v0 : Value} {v1 : Value} {v2 : Value} {v3 : Value} {v4 : Value} : am_g d X am_m1011 13 [v0, v1, v2, v3, v4] sk st Q = am_g d X am_m1011 14 [v0, v1, v2, v3, v4] (.int (am_i 1) :: sk) st Q := am_gu.trans rfl
theorem u1011_14 {a0 : Value} {a1 : Value} {a2 : Value} {v0 : Value} {v1 : Value} {v2 : Value} {v3 : Value} {v4 : Value} : am_g d X am_m1011 14 [v0, v1, v2, v3, v4] (a2 :: a1 :: a0 :: sk) st Q = (sk.length ≤ 4 ∧ am_Ca X d 1016 [a0, a1, a2] st (am_af am_m1011 14 [v0, v1, v2, v3, v4] sk (fun pc lc sk st => am_g d X am_m1011 pc lc sk st Q) Q)) := am_gu.trans (propext ⟨fun h => ⟨h.1.2, h.2⟩, fun h => ⟨⟨Nat.le_add_left _ _, h.1⟩, h.2⟩⟩)
theorem u1011_17 {v1 : Value} {v2 : Value} {v3 : Value} {v4 : Value} {x : Nat} : am_g d X am_m1011 17 [.ref x, v1, v2, v3, v4] sk st Q = am_g d X am_m1011 18 [.ref x, v1, v2, v3, v4] (.ref x :: sk) st Q := am_gu.trans rfl
theorem u1011_18 {v0 : Value} {v1 : Value} {v2 : Value} {v3 : Value} {v4 : Value} : am_g d X am_m1011 18 [v0, v1, v2, v3, v4] sk st Q = am_gt 32 21 [v0, v1, v2, v3, v4] sk st (fun pc lc sk st => am_g d X am_m1011 pc lc sk st Q) := am_gu.trans rfl
theorem u1011_21 {v0 : Value} {v1 : Value} {v2 : Value} {v4 : Value} {x : Int32} : am_g d X am_m1011 21 [v0, v1, v2, .int x, v4] sk st Q = am_g d X am_m1011 22 [v0, v1, v2, .int x, v4] (.int x :: sk) st Q := am_gu.trans rfl
theorem u1011_22 {v0 : Value} {v1 : Value} {v2 : Value} {v3 : Value} {v4 : Value} : am_g d X am_m1011 22 [v0, v1, v2, v3, v4] sk st Q = am_g d X am_m1011 23 [v0, v1, v2, v3, v4] (.int (am_i 2) :: sk) st Q := am_gu.trans rfl
theorem u1011_23 {a0 : Value} {a1 : Value} {a2 : Value} {v0 : Value} {v1 : Value} {v2 : Value} {v3 : Value} {v4 : Value} : am_g d X am_m1011 23 [v0, v1, v2, v3, v4] (a2 :: a1 :: a0 :: sk) st Q = (sk.length ≤ 4 ∧ am_Ca X d 1016 [a0, a1, a2] st (am_af am_m1011 23 [v0, v1, v2, v3, v4] sk (fun pc lc sk st => am_g d X am_m1011 pc lc sk st Q) Q)) := am_gu.trans (propext ⟨fun h => ⟨h.1.2, h.2⟩, fun h => ⟨⟨Nat.le_add_left _ _, h.1⟩, h.2⟩⟩)
theorem u1011_26 {v0 : Value} {v1 : Value} {v2 : Value} {v3 : Value} {v4 : Value} : am_g d X am_m1011 26 [v0, v1, v2, v3, v4] sk st Q = am_g d X am_m1011 28 [v0, v1, v2, v3, v4] (.int (am_i 59) :: sk) st Q := am_gu.trans rfl
theorem u1011_28 {v0 : Value} {v1 : Value} {v2 : Value} {v3 : Value} {v4 : Value} {x : Int32} : am_g d X am_m1011 28 [v0, v1, v2, v3, v4] (.int x :: sk) st Q = am_g d X am_m1011 30 [v0, v1, v2, am_kc v3, .int x] sk st Q := am_gu.trans (congrArg (fun l => am_g d X am_m1011 30 (List.set l 4 (.int x)) sk st Q) (kl_4 (l := [v4])))
theorem u1011_30 {v0 : Value} {v1 : Value} {v2 : Value} {v3 : Value} {x : Int32} : am_g d X am_m1011 30 [v0, v1, v2, v3, .int x] sk st Q = am_g d X am_m1011 32 [v0, v1, v2, v3, .int x] (.int x :: sk) st Q := am_gu.trans rfl
theorem u1011_32 {v0 : Value} {v1 : Value} {v2 : Value} {v3 : Value} {v4 : Value} {x : Int32} : am_g d X am_m1011 32 [v0, v1, v2, v3, v4] (.int x :: sk) st Q = (if decide (x < 0) = true then am_g d X am_m1011 95 [v0, v1, v2, v3, v4] sk st Q else am_g d X am_m1011 35 [v0, v1, v2, v3, v4] sk st Q) := am_gu.trans rfl
theorem u1011_35 {v1 : Value} {v2 : Value} {v3 : Value} {v4 : Value} {x : Nat} : am_g d X am_m1011 35 [.ref x, v1, v2, v3, v4] sk st Q = am_g d X am_m1011 36 [.ref x, v1, v2, v3, v4] (.ref x :: sk) st Q := am_gu.trans rfl
theorem u1011_36 {v0 : Value} {v1 : Value} {v2 : Value} {v3 : Value} {v4 : Value} : am_g d X am_m1011 36 [v0, v1, v2, v3, v4] sk st Q = am_gt 32 39 [v0, v1, v2, v3, v4] sk st (fun pc lc sk st => am_g d X am_m1011 pc lc sk st Q) := am_gu.trans rfl
theorem u1011_39 {v0 : Value} {v1 : Value} {v2 : Value} {v3 : Value} {x : Int32} : am_g d X am_m1011 39 [v0, v1, v2, v3, .int x] sk st Q = am_g d X am_m1011 41 [v0, v1, v2, v3, .int x] (.int x :: sk) st Q := am_gu.trans rfl
theorem u1011_41 {v0 : Value} {v1 : Value} {v2 : Value} {v3 : Value} {v4 : Value} : am_g d X am_m1011 41 [v0, v1, v2, v3, v4] sk st Q = am_xl (X.1, X.2.1, d) am_m1011 42 [v0, v1, v2, v3, v4] sk st (fun pc lc sk st => am_g d X am_m1011 pc lc sk st Q) := am_gu.trans rfl
theorem u1011_42 {v0 : Value} {v1 : Value} {v2 : Value} {v3 : Value} {v4 : Value} : am_g d X am_m1011 42 [v0, v1, v2, v3, v4] sk st Q = am_g d X am_m1011 43 [v0, v1, v2, v3, v4] (.int (am_i 3) :: sk) st Q := am_gu.trans rfl
theorem u1011_43 {v0 : Value} {v1 : Value} {v2 : Value} {v3 : Value} {v4 : Value} {x : Int32} {y : Int32} : am_g d X am_m1011 43 [v0, v1, v2, v3, v4] (.int y :: .int x :: sk) st Q = (if decide (¬ x = y) = true then am_g d X am_m1011 49 [v0, v1, v2, v3, v4] sk st Q else am_g d X am_m1011 46 [v0, v1, v2, v3, v4] sk st Q) := am_gu.trans rfl
theorem u1011_46 {v0 : Value} {v1 : Value} {v2 : Value} {v3 : Value} {x : Int32} : am_g d X am_m1011 46 [v0, v1, v2, v3, .int x] sk st Q = am_g d X am_m1011 48 [v0, v1, v2, v3, .int x] (.int x :: sk) st Q := am_gu.trans rfl
theorem u1011_48 {v0 : Value} {v1 : Value} {v2 : Value} {v3 : Value} {v4 : Value} {x : Int32} : am_g d X am_m1011 48 [v0, v1, v2, v3, v4] [.int x] st Q = Q (.inl (some (.int x))) st := am_gu.trans rfl
theorem u1011_49 {v1 : Value} {v2 : Value} {v3 : Value} {v4 : Value} {x : Nat} : am_g d X am_m1011 49 [.ref x, v1, v2, v3, v4] sk st Q = am_g d X am_m1011 50 [.ref x, v1, v2, v3, v4] (.ref x :: sk) st Q := am_gu.trans rfl
theorem u1011_50 {v0 : Value} {v1 : Value} {v2 : Value} {v3 : Value} {v4 : Value} : am_g d X am_m1011 50 [v0, v1, v2, v3, v4] sk st Q = am_gt 32 53 [v0, v1, v2, v3, v4] sk st (fun pc lc sk st => am_g d X am_m1011 pc lc sk st Q) := am_gu.trans rfl
theorem u1011_53 {v0 : Value} {v2 : Value} {v3 : Value} {v4 : Value} {x : Nat} : am_g d X am_m1011 53 [v0, .ref x, v2, v3, v4] sk st Q = am_g d X am_m1011 54 [v0, .ref x, v2, v3, v4] (.ref x :: sk) st Q := am_gu.trans rfl
theorem u1011_54 {v0 : Value} {v1 : Value} {v2 : Value} {v3 : Value} {x : Int32} : am_g d X am_m1011 54 [v0, v1, v2, v3, .int x] sk st Q = am_g d X am_m1011 56 [v0, v1, v2, v3, .int x] (.int x :: sk) st Q := am_gu.trans rfl
theorem u1011_56 {a0 : Value} {v0 : Value} {v1 : Value} {v2 : Value} {v3 : Value} {v4 : Value} : am_g d X am_m1011 56 [v0, v1, v2, v3, v4] (a0 :: .ref o :: sk) st Q = ((am_ob st o 5 ∧ sk.length ≤ 4) ∧ am_Ca X d 5005 [.ref o, a0] st (am_af am_m1011 56 [v0, v1, v2, v3, v4] sk (fun pc lc sk st => am_g d X am_m1011 pc lc sk st Q) Q)) := am_gu.trans rfl
theorem u1011_59 {v1 : Value} {v2 : Value} {v3 : Value} {v4 : Value} {x : Nat} : am_g d X am_m1011 59 [.ref x, v1, v2, v3, v4] sk st Q = am_g d X am_m1011 60 [.ref x, v1, v2, v3, v4] (.ref x :: sk) st Q := am_gu.trans rfl
theorem u1011_60 {v0 : Value} {v1 : Value} {v2 : Value} {v3 : Value} {v4 : Value} : am_g d X am_m1011 60 [v0, v1, v2, v3, v4] sk st Q = am_gt 32 63 [v0, v1, v2, v3, v4] sk st (fun pc lc sk st => am_g d X am_m1011 pc lc sk st Q) := am_gu.trans rfl
theorem u1011_63 {v0 : Value} {v1 : Value} {v2 : Value} {v3 : Value} {x : Int32} : am_g d X am_m1011 63 [v0, v1, v2, v3, .int x] sk st Q = am_g d X am_m1011 65 [v0, v1, v2, v3, .int x] (.int x :: sk) st Q := am_gu.trans rfl
theorem u1011_65 {v0 : Value} {v1 : Value} {v2 : Value} {v3 : Value} {v4 : Value} : am_g d X am_m1011 65 [v0, v1, v2, v3, v4] sk st Q = am_xl (X.1, X.2.1, d) am_m1011 66 [v0, v1, v2, v3, v4] sk st (fun pc lc sk st => am_g d X am_m1011 pc lc sk st Q) := am_gu.trans rfl
theorem u1011_66 {a0 : Value} {a1 : Value} {a2 : Value} {v0 : Value} {v1 : Value} {v2 : Value} {v3 : Value} {v4 : Value} : am_g d X am_m1011 66 [v0, v1, v2, v3, v4] (a2 :: a1 :: a0 :: sk) st Q = (sk.length ≤ 4 ∧ am_Ca X d 1016 [a0, a1, a2] st (am_af am_m1011 66 [v0, v1, v2, v3, v4] sk (fun pc lc sk st => am_g d X am_m1011 pc lc sk st Q) Q)) := am_gu.trans (propext ⟨fun h => ⟨h.1.2, h.2⟩, fun h => ⟨⟨Nat.le_add_left _ _, h.1⟩, h.2⟩⟩)
theorem u1011_69 {v1 : Value} {v2 : Value} {v3 : Value} {v4 : Value} {x : Nat} : am_g d X am_m1011 69 [.ref x, v1, v2, v3, v4] sk st Q = am_g d X am_m1011 70 [.ref x, v1, v2, v3, v4] (.ref x :: sk) st Q := am_gu.trans rfl
theorem u1011_70 {v0 : Value} {v1 : Value} {v2 : Value} {v3 : Value} {v4 : Value} : am_g d X am_m1011 70 [v0, v1, v2, v3, v4] sk st Q = am_gt 32 73 [v0, v1, v2, v3, v4] sk st (fun pc lc sk st => am_g d X am_m1011 pc lc sk st Q) := am_gu.trans rfl
theorem u1011_73 {v0 : Value} {v2 : Value} {v3 : Value} {v4 : Value} {x : Nat} : am_g d X am_m1011 73 [v0, .ref x, v2, v3, v4] sk st Q = am_g d X am_m1011 74 [v0, .ref x, v2, v3, v4] (.ref x :: sk) st Q := am_gu.trans rfl
theorem u1011_74 {v0 : Value} {v1 : Value} {v2 : Value} {v3 : Value} {x : Int32} : am_g d X am_m1011 74 [v0, v1, v2, v3, .int x] sk st Q = am_g d X am_m1011 76 [v0, v1, v2, v3, .int x] (.int x :: sk) st Q := am_gu.trans rfl
theorem u1011_76 {a0 : Value} {v0 : Value} {v1 : Value} {v2 : Value} {v3 : Value} {v4 : Value} : am_g d X am_m1011 76 [v0, v1, v2, v3, v4] (a0 :: .ref o :: sk) st Q = ((am_ob st o 5 ∧ sk.length ≤ 4) ∧ am_Ca X d 5006 [.ref o, a0] st (am_af am_m1011 76 [v0, v1, v2, v3, v4] sk (fun pc lc sk st => am_g d X am_m1011 pc lc sk st Q) Q)) := am_gu.trans rfl
theorem u1011_79 {v1 : Value} {v2 : Value} {v3 : Value} {v4 : Value} {x : Nat} : am_g d X am_m1011 79 [.ref x, v1, v2, v3, v4] sk st Q = am_g d X am_m1011 80 [.ref x, v1, v2, v3, v4] (.ref x :: sk) st Q := am_gu.trans rfl
theorem u1011_80 {v0 : Value} {v1 : Value} {v2 : Value} {v3 : Value} {v4 : Value} : am_g d X am_m1011 80 [v0, v1, v2, v3, v4] sk st Q = am_gt 32 83 [v0, v1, v2, v3, v4] sk st (fun pc lc sk st => am_g d X am_m1011 pc lc sk st Q) := am_gu.trans rfl
theorem u1011_83 {v0 : Value} {v1 : Value} {v2 : Value} {v3 : Value} {x : Int32} : am_g d X am_m1011 83 [v0, v1, v2, v3, .int x] sk st Q = am_g d X am_m1011 85 [v0, v1, v2, v3, .int x] (.int x :: sk) st Q := am_gu.trans rfl
theorem u1011_85 {v0 : Value} {v1 : Value} {v2 : Value} {v3 : Value} {v4 : Value} : am_g d X am_m1011 85 [v0, v1, v2, v3, v4] sk st Q = am_xl (X.1, X.2.1, d) am_m1011 86 [v0, v1, v2, v3, v4] sk st (fun pc lc sk st => am_g d X am_m1011 pc lc sk st Q) := am_gu.trans rfl
theorem u1011_86 {a0 : Value} {a1 : Value} {a2 : Value} {v0 : Value} {v1 : Value} {v2 : Value} {v3 : Value} {v4 : Value} : am_g d X am_m1011 86 [v0, v1, v2, v3, v4] (a2 :: a1 :: a0 :: sk) st Q = (sk.length ≤ 4 ∧ am_Ca X d 1016 [a0, a1, a2] st (am_af am_m1011 86 [v0, v1, v2, v3, v4] sk (fun pc lc sk st => am_g d X am_m1011 pc lc sk st Q) Q)) := am_gu.trans (propext ⟨fun h => ⟨h.1.2, h.2⟩, fun h => ⟨⟨Nat.le_add_left _ _, h.1⟩, h.2⟩⟩)
theorem u1011_89 {v0 : Value} {v1 : Value} {v2 : Value} {v3 : Value} {x : Int32} : am_g d X am_m1011 89 [v0, v1, v2, v3, .int x] sk st Q = am_g d X am_m1011 92 [v0, v1, v2, am_kc v3, .int (x + am_i (-1))] sk st Q := am_gu.trans (congrArg (fun l => am_g d X am_m1011 92 (List.set l 4 (.int (x + am_i (-1)))) sk st Q) (kl_4 (l := [.int x])))
theorem u1011_92 {v0 : Value} {v1 : Value} {v2 : Value} {v3 : Value} {v4 : Value} : am_g d X am_m1011 92 [v0, v1, v2, v3, v4] sk st Q = am_g d X am_m1011 30 [v0, v1, v2, v3, v4] sk st Q := am_gu.trans rfl
theorem u1011_95 {v0 : Value} {v1 : Value} {v2 : Value} {v3 : Value} {v4 : Value} : am_g d X am_m1011 95 [v0, v1, v2, v3, v4] sk st Q = am_g d X am_m1011 96 [v0, v1, v2, v3, v4] (.int (am_i (-1)) :: sk) st Q := am_gu.trans rfl
theorem u1011_96 {v0 : Value} {v1 : Value} {v2 : Value} {v3 : Value} {v4 : Value} {x : Int32} : am_g d X am_m1011 96 [v0, v1, v2, v3, v4] [.int x] st Q = Q (.inl (some (.int x))) st := am_gu.trans rfl
set_option maxRecDepth 100000 in
theorem of_1012 : am_of 1012 = some am_m1012 := rfl
theorem c1012 {z a0 a1 a2} {P : am_Q} : am_Ca X (d + 1) 1012 [.ref z, .ref a0, .int a1, .int a2] st P = am_g d X am_m1012 0 [.ref z, .ref a0, .int a1, .int a2, am_u] [] st P := am_cg of_1012 (by show 4 ≤ 5; decide)
theorem hd_1012 : am_hd am_m1012 = [] := rfl
theorem u1012_0 {v1 : Value} {v2 : Value} {v3 : Value} {v4 : Value} {x : Nat} : am_g d X am_m1012 0 [.ref x, v1, v2, v3, v4] sk st Q = am_g d X am_m1012 1 [.ref x, v1, v2, v3, v4] (.ref x :: sk) st Q := am_gu.trans rfl
theorem u1012_1 {v0 : Value} {v1 : Value} {v2 : Value} {v3 : Value} {v4 : Value} : am_g d X am_m1012 1 [v0, v1, v2, v3, v4] sk st Q = am_gt 32 4 [v0, v1, v2, v3, v4] sk st (fun pc lc sk st => am_g d X am_m1012 pc lc sk st Q) := am_gu.trans rfl
theorem u1012_4 {v0 : Value} {v1 : Value} {v2 : Value} {v3 : Value} {v4 : Value} : am_g d X am_m1012 4 [v0, v1, v2, v3, v4] sk st Q = am_g d X am_m1012 5 [v0, v1, v2, v3, v4] (.int (am_i 0) :: sk) st Q := am_gu.trans rfl
theorem u1012_5 {a0 : Value} {a1 : Value} {v0 : Value} {v1 : Value} {v2 : Value} {v3 : Value} {v4 : Value} : am_g d X am_m1012 5 [v0, v1, v2, v3, v4] (a1 :: a0 :: sk) st Q = (sk.length ≤ 4 ∧ am_Ca X d 9000 [a0, a1] st (am_af am_m1012 5 [v0, v1, v2, v3, v4] sk (fun pc lc sk st => am_g d X am_m1012 pc lc sk st Q) Q)) := am_gu.trans (propext ⟨fun h => ⟨h.1.2, h.2⟩, fun h => ⟨⟨Nat.le_add_left _ _, h.1⟩, h.2⟩⟩)
theorem u1012_8 {v0 : Value} {v2 : Value} {v3 : Value} {v4 : Value} {x : Nat} : am_g d X am_m1012 8 [v0, .ref x, v2, v3, v4] sk st Q = am_g d X am_m1012 9 [v0, .ref x, v2, v3, v4] (.ref x :: sk) st Q := am_gu.trans rfl
theorem u1012_9 {v0 : Value} {v1 : Value} {v3 : Value} {v4 : Value} {x : Int32} : am_g d X am_m1012 9 [v0, v1, .int x, v3, v4] sk st Q = am_g d X am_m1012 10 [v0, v1, .int x, v3, v4] (.int x :: sk) st Q := am_gu.trans rfl
theorem u1012_10 {v1 : Value} {v2 : Value} {v3 : Value} {v4 : Value} {x : Nat} : am_g d X am_m1012 10 [.ref x, v1, v2, v3, v4] sk st Q = am_g d X am_m1012 11 [.ref x, v1, v2, v3, v4] (.ref x :: sk) st Q := am_gu.trans rfl
theorem u1012_11 {v0 : Value} {v1 : Value} {v2 : Value} {v3 : Value} {v4 : Value} : am_g d X am_m1012 11 [v0, v1, v2, v3, v4] sk st Q = am_gt 32 14 [v0, v1, v2, v3, v4] sk st (fun pc lc sk st => am_g d X am_m1012 pc lc sk st Q) := am_gu.trans rfl
theorem u1012_14 {a0 : Value} {a1 : Value} {a2 : Value} {v0 : Value} {v1 : Value} {v2 : Value} {v3 : Value} {v4 : Value} : am_g d X am_m1012 14 [v0, v1, v2, v3, v4] (a2 :: a1 :: a0 :: sk) st Q = (sk.length ≤ 4 ∧ am_Ca X d 1017 [a0, a1, a2] st (am_af am_m1012 14 [v0, v1, v2, v3, v4] sk (fun pc lc sk st => am_g d X am_m1012 pc lc sk st Q) Q)) := am_gu.trans (propext ⟨fun h => ⟨h.1.2, h.2⟩, fun h => ⟨⟨Nat.le_add_left _ _, h.1⟩, h.2⟩⟩)
theorem u1012_17 {v1 : Value} {v2 : Value} {v3 : Value} {v4 : Value} {x : Nat} : am_g d X am_m1012 17 [.ref x, v1, v2, v3, v4] sk st Q = am_g d X am_m1012 18 [.ref x, v1, v2, v3, v4] (.ref x :: sk) st Q := am_gu.trans rfl
theorem u1012_18 {v0 : Value} {v1 : Value} {v2 : Value} {v3 : Value} {v4 : Value} : am_g d X am_m1012 18 [v0, v1, v2, v3, v4] sk st Q = am_gt 33 21 [v0, v1, v2, v3, v4] sk st (fun pc lc sk st => am_g d X am_m1012 pc lc sk st Q) := am_gu.trans rfl
theorem u1012_21 {v0 : Value} {v1 : Value} {v2 : Value} {v3 : Value} {v4 : Value} : am_g d X am_m1012 21 [v0, v1, v2, v3, v4] sk st Q = am_g d X am_m1012 22 [v0, v1, v2, v3, v4] (.int (am_i 0) :: sk) st Q := am_gu.trans rfl
theorem u1012_22 {a0 : Value} {a1 : Value} {v0 : Value} {v1 : Value} {v2 : Value} {v3 : Value} {v4 : Value} : am_g d X am_m1012 22 [v0, v1, v2, v3, v4] (a1 :: a0 :: sk) st Q = (sk.length ≤ 4 ∧ am_Ca X d 9000 [a0, a1] st (am_af am_m1012 22 [v0, v1, v2, v3, v4] sk (fun pc lc sk st => am_g d X am_m1012 pc lc sk st Q) Q)) := am_gu.trans (propext ⟨fun h => ⟨h.1.2, h.2⟩, fun h => ⟨⟨Nat.le_add_left _ _, h.1⟩, h.2⟩⟩)
theorem u1012_25 {v0 : Value} {v2 : Value} {v3 : Value} {v4 : Value} {x : Nat} : am_g d X am_m1012 25 [v0, .ref x, v2, v3, v4] sk st Q = am_g d X am_m1012 26 [v0, .ref x, v2, v3, v4] (.ref x :: sk) st Q := am_gu.trans rfl
theorem u1012_26 {v0 : Value} {v1 : Value} {v2 : Value} {v4 : Value} {x : Int32} : am_g d X am_m1012 26 [v0, v1, v2, .int x, v4] sk st Q = am_g d X am_m1012 27 [v0, v1, v2, .int x, v4] (.int x :: sk) st Q := am_gu.trans rfl
theorem u1012_27 {v1 : Value} {v2 : Value} {v3 : Value} {v4 : Value} {x : Nat} : am_g d X am_m1012 27 [.ref x, v1, v2, v3, v4] sk st Q = am_g d X am_m1012 28 [.ref x, v1, v2, v3, v4] (.ref x :: sk) st Q := am_gu.trans rfl
theorem u1012_28 {v0 : Value} {v1 : Value} {v2 : Value} {v3 : Value} {v4 : Value} : am_g d X am_m1012 28 [v0, v1, v2, v3, v4] sk st Q = am_gt 33 31 [v0, v1, v2, v3, v4] sk st (fun pc lc sk st => am_g d X am_m1012 pc lc sk st Q) := am_gu.trans rfl
theorem u1012_31 {a0 : Value} {a1 : Value} {a2 : Value} {v0 : Value} {v1 : Value} {v2 : Value} {v3 : Value} {v4 : Value} : am_g d X am_m1012 31 [v0, v1, v2, v3, v4] (a2 :: a1 :: a0 :: sk) st Q = (sk.length ≤ 4 ∧ am_Ca X d 1017 [a0, a1, a2] st (am_af am_m1012 31 [v0, v1, v2, v3, v4] sk (fun pc lc sk st => am_g d X am_m1012 pc lc sk st Q) Q)) := am_gu.trans (propext ⟨fun h => ⟨h.1.2, h.2⟩, fun h => ⟨⟨Nat.le_add_left _ _, h.1⟩, h.2⟩⟩)
theorem u1012_34 {v0 : Value} {v1 : Value} {v2 : Value} {v3 : Value} {v4 : Value} : am_g d X am_m1012 34 [v0, v1, v2, v3, v4] sk st Q = am_g d X am_m1012 36 [v0, v1, v2, v3, v4] (.int (am_i 59) :: sk) st Q := am_gu.trans rfl
theorem u1012_36 {v0 : Value} {v1 : Value} {v2 : Value} {v3 : Value} {v4 : Value} {x : Int32} : am_g d X am_m1012 36 [v0, v1, v2, v3, v4] (.int x :: sk) st Q = am_g d X am_m1012 38 [v0, v1, v2, am_kc v3, .int x] sk st Q := am_gu.trans (congrArg (fun l => am_g d X am_m1012 38 (List.set l 4 (.int x)) sk st Q) (kl_4 (l := [v4])))
theorem u1012_38 {v0 : Value} {v1 : Value} {v2 : Value} {v3 : Value} {x : Int32} : am_g d X am_m1012 38 [v0, v1, v2, v3, .int x] sk st Q = am_g d X am_m1012 40 [v0, v1, v2, v3, .int x] (.int x :: sk) st Q := am_gu.trans rfl
theorem u1012_40 {v0 : Value} {v1 : Value} {v2 : Value} {v3 : Value} {v4 : Value} {x : Int32} : am_g d X am_m1012 40 [v0, v1, v2, v3, v4] (.int x :: sk) st Q = (if decide (x < 0) = true then am_g d X am_m1012 76 [v0, v1, v2, v3, v4] sk st Q else am_g d X am_m1012 43 [v0, v1, v2, v3, v4] sk st Q) := am_gu.trans rfl
theorem u1012_43 {v1 : Value} {v2 : Value} {v3 : Value} {v4 : Value} {x : Nat} : am_g d X am_m1012 43 [.ref x, v1, v2, v3, v4] sk st Q = am_g d X am_m1012 44 [.ref x, v1, v2, v3, v4] (.ref x :: sk) st Q := am_gu.trans rfl
theorem u1012_44 {v0 : Value} {v1 : Value} {v2 : Value} {v3 : Value} {v4 : Value} : am_g d X am_m1012 44 [v0, v1, v2, v3, v4] sk st Q = am_gt 32 47 [v0, v1, v2, v3, v4] sk st (fun pc lc sk st => am_g d X am_m1012 pc lc sk st Q) := am_gu.trans rfl
theorem u1012_47 {v0 : Value} {v1 : Value} {v2 : Value} {v3 : Value} {x : Int32} : am_g d X am_m1012 47 [v0, v1, v2, v3, .int x] sk st Q = am_g d X am_m1012 49 [v0, v1, v2, v3, .int x] (.int x :: sk) st Q := am_gu.trans rfl
theorem u1012_49 {a0 : Value} {a1 : Value} {v0 : Value} {v1 : Value} {v2 : Value} {v3 : Value} {v4 : Value} : am_g d X am_m1012 49 [v0, v1, v2, v3, v4] (a1 :: a0 :: sk) st Q = (sk.length ≤ 4 ∧ am_Ca X d 1015 [a0, a1] st (am_af am_m1012 49 [v0, v1, v2, v3, v4] sk (fun pc lc sk st => am_g d X am_m1012 pc lc sk st Q) Q)) := am_gu.trans (propext ⟨fun h => ⟨h.1.2, h.2⟩, fun h => ⟨⟨Nat.le_add_left _ _, h.1⟩, h.2⟩⟩)
theorem u1012_52 {v0 : Value} {v1 : Value} {v2 : Value} {v3 : Value} {v4 : Value} {x : Int32} : am_g d X am_m1012 52 [v0, v1, v2, v3, v4] (.int x :: sk) st Q = (if decide (x = 0) = true then am_g d X am_m1012 70 [v0, v1, v2, v3, v4] sk st Q else am_g d X am_m1012 55 [v0, v1, v2, v3, v4] sk st Q) := am_gu.trans rfl
theorem u1012_55 {v1 : Value} {v2 : Value} {v3 : Value} {v4 : Value} {x : Nat} : am_g d X am_m1012 55 [.ref x, v1, v2, v3, v4] sk st Q = am_g d X am_m1012 56 [.ref x, v1, v2, v3, v4] (.ref x :: sk) st Q := am_gu.trans rfl
theorem u1012_56 {v0 : Value} {v1 : Value} {v2 : Value} {v3 : Value} {v4 : Value} : am_g d X am_m1012 56 [v0, v1, v2, v3, v4] sk st Q = am_gt 33 59 [v0, v1, v2, v3, v4] sk st (fun pc lc sk st => am_g d X am_m1012 pc lc sk st Q) := am_gu.trans rfl
theorem u1012_59 {v0 : Value} {v1 : Value} {v2 : Value} {v3 : Value} {x : Int32} : am_g d X am_m1012 59 [v0, v1, v2, v3, .int x] sk st Q = am_g d X am_m1012 61 [v0, v1, v2, v3, .int x] (.int x :: sk) st Q := am_gu.trans rfl
theorem u1012_61 {a0 : Value} {a1 : Value} {v0 : Value} {v1 : Value} {v2 : Value} {v3 : Value} {v4 : Value} : am_g d X am_m1012 61 [v0, v1, v2, v3, v4] (a1 :: a0 :: sk) st Q = (sk.length ≤ 4 ∧ am_Ca X d 1015 [a0, a1] st (am_af am_m1012 61 [v0, v1, v2, v3, v4] sk (fun pc lc sk st => am_g d X am_m1012 pc lc sk st Q) Q)) := am_gu.trans (propext ⟨fun h => ⟨h.1.2, h.2⟩, fun h => ⟨⟨Nat.le_add_left _ _, h.1⟩, h.2⟩⟩)
theorem u1012_64 {v0 : Value} {v1 : Value} {v2 : Value} {v3 : Value} {v4 : Value} {x : Int32} : am_g d X am_m1012 64 [v0, v1, v2, v3, v4] (.int x :: sk) st Q = (if decide (x = 0) = true then am_g d X am_m1012 70 [v0, v1, v2, v3, v4] sk st Q else am_g d X am_m1012 67 [v0, v1, v2, v3, v4] sk st Q) := am_gu.trans rfl
theorem u1012_67 {v0 : Value} {v1 : Value} {v2 : Value} {v3 : Value} {x : Int32} : am_g d X am_m1012 67 [v0, v1, v2, v3, .int x] sk st Q = am_g d X am_m1012 69 [v0, v1, v2, v3, .int x] (.int x :: sk) st Q := am_gu.trans rfl
theorem u1012_69 {v0 : Value} {v1 : Value} {v2 : Value} {v3 : Value} {v4 : Value} {x : Int32} : am_g d X am_m1012 69 [v0, v1, v2, v3, v4] [.int x] st Q = Q (.inl (some (.int x))) st := am_gu.trans rfl
theorem u1012_70 {v0 : Value} {v1 : Value} {v2 : Value} {v3 : Value} {x : Int32} : am_g d X am_m1012 70 [v0, v1, v2, v3, .int x] sk st Q = am_g d X am_m1012 73 [v0, v1, v2, am_kc v3, .int (x + am_i (-1))] sk st Q := am_gu.trans (congrArg (fun l => am_g d X am_m1012 73 (List.set l 4 (.int (x + am_i (-1)))) sk st Q) (kl_4 (l := [.int x])))
theorem u1012_73 {v0 : Value} {v1 : Value} {v2 : Value} {v3 : Value} {v4 : Value} : am_g d X am_m1012 73 [v0, v1, v2, v3, v4] sk st Q = am_g d X am_m1012 38 [v0, v1, v2, v3, v4] sk st Q := am_gu.trans rfl
theorem u1012_76 {v0 : Value} {v1 : Value} {v2 : Value} {v3 : Value} {v4 : Value} : am_g d X am_m1012 76 [v0, v1, v2, v3, v4] sk st Q = am_g d X am_m1012 77 [v0, v1, v2, v3, v4] (.int (am_i (-1)) :: sk) st Q := am_gu.trans rfl
theorem u1012_77 {v0 : Value} {v1 : Value} {v2 : Value} {v3 : Value} {v4 : Value} {x : Int32} : am_g d X am_m1012 77 [v0, v1, v2, v3, v4] [.int x] st Q = Q (.inl (some (.int x))) st := am_gu.trans rfl
set_option maxRecDepth 100000 in
theorem of_1013 : am_of 1013 = some am_m1013 := rfl
theorem c1013 {z a0 a1 a2} {P : am_Q} : am_Ca X (d + 1) 1013 [.ref z, .ref a0, .int a1, .int a2] st P = am_g d X am_m1013 0 [.ref z, .ref a0, .int a1, .int a2, am_u, am_u] [] st P := am_cg of_1013 (by show 4 ≤ 6; decide)
theorem hd_1013 : am_hd am_m1013 = [] := rfl
theorem u1013_0 {v1 : Value} {v2 : Value} {v3 : Value} {v4 : Value} {v5 : Value} {x : Nat} : am_g d X am_m1013 0 [.ref x, v1, v2, v3, v4, v5] sk st Q = am_g d X am_m1013 1 [.ref x, v1, v2, v3, v4, v5] (.ref x :: sk) st Q := am_gu.trans rfl
theorem u1013_1 {v0 : Value} {v1 : Value} {v2 : Value} {v3 : Value} {v4 : Value} {v5 : Value} : am_g d X am_m1013 1 [v0, v1, v2, v3, v4, v5] sk st Q = am_gt 32 4 [v0, v1, v2, v3, v4, v5] sk st (fun pc lc sk st => am_g d X am_m1013 pc lc sk st Q) := am_gu.trans rfl
theorem u1013_4 {v0 : Value} {v1 : Value} {v2 : Value} {v3 : Value} {v4 : Value} {v5 : Value} : am_g d X am_m1013 4 [v0, v1, v2, v3, v4, v5] sk st Q = am_g d X am_m1013 5 [v0, v1, v2, v3, v4, v5] (.int (am_i 0) :: sk) st Q := am_gu.trans rfl
theorem u1013_5 {a0 : Value} {a1 : Value} {v0 : Value} {v1 : Value} {v2 : Value} {v3 : Value} {v4 : Value} {v5 : Value} : am_g d X am_m1013 5 [v0, v1, v2, v3, v4, v5] (a1 :: a0 :: sk) st Q = (sk.length ≤ 4 ∧ am_Ca X d 9000 [a0, a1] st (am_af am_m1013 5 [v0, v1, v2, v3, v4, v5] sk (fun pc lc sk st => am_g d X am_m1013 pc lc sk st Q) Q)) := am_gu.trans (propext ⟨fun h => ⟨h.1.2, h.2⟩, fun h => ⟨⟨Nat.le_add_left _ _, h.1⟩, h.2⟩⟩)
theorem u1013_8 {v1 : Value} {v2 : Value} {v3 : Value} {v4 : Value} {v5 : Value} {x : Nat} : am_g d X am_m1013 8 [.ref x, v1, v2, v3, v4, v5] sk st Q = am_g d X am_m1013 9 [.ref x, v1, v2, v3, v4, v5] (.ref x :: sk) st Q := am_gu.trans rfl
theorem u1013_9 {v0 : Value} {v1 : Value} {v2 : Value} {v3 : Value} {v4 : Value} {v5 : Value} : am_g d X am_m1013 9 [v0, v1, v2, v3, v4, v5] sk st Q = am_gt 32 12 [v0, v1, v2, v3, v4, v5] sk st (fun pc lc sk st => am_g d X am_m1013 pc lc sk st Q) := am_gu.trans rfl
theorem u1013_12 {v0 : Value} {v1 : Value} {v3 : Value} {v4 : Value} {v5 : Value} {x : Int32} : am_g d X am_m1013 12 [v0, v1, .int x, v3, v4, v5] sk st Q = am_g d X am_m1013 13 [v0, v1, .int x, v3, v4, v5] (.int x :: sk) st Q := am_gu.trans rfl
theorem u1013_13 {v0 : Value} {v1 : Value} {v2 : Value} {v3 : Value} {v4 : Value} {v5 : Value} : am_g d X am_m1013 13 [v0, v1, v2, v3, v4, v5] sk st Q = am_g d X am_m1013 14 [v0, v1, v2, v3, v4, v5] (.int (am_i 1) :: sk) st Q := am_gu.trans rfl
theorem u1013_14 {a0 : Value} {a1 : Value} {a2 : Value} {v0 : Value} {v1 : Value} {v2 : Value} {v3 : Value} {v4 : Value} {v5 : Value} : am_g d X am_m1013 14 [v0, v1, v2, v3, v4, v5] (a2 :: a1 :: a0 :: sk) st Q = (sk.length ≤ 4 ∧ am_Ca X d 1016 [a0, a1, a2] st (am_af am_m1013 14 [v0, v1, v2, v3, v4, v5] sk (fun pc lc sk st => am_g d X am_m1013 pc lc sk st Q) Q)) := am_gu.trans (propext ⟨fun h => ⟨h.1.2, h.2⟩, fun h => ⟨⟨Nat.le_add_left _ _, h.1⟩, h.2⟩⟩)
theorem u1013_17 {v1 : Value} {v2 : Value} {v3 : Value} {v4 : Value} {v5 : Value} {x : Nat} : am_g d X am_m1013 17 [.ref x, v1, v2, v3, v4, v5] sk st Q = am_g d X am_m1013 18 [.ref x, v1, v2, v3, v4, v5] (.ref x :: sk) st Q := am_gu.trans rfl
theorem u1013_18 {v0 : Value} {v1 : Value} {v2 : Value} {v3 : Value} {v4 : Value} {v5 : Value} : am_g d X am_m1013 18 [v0, v1, v2, v3, v4, v5] sk st Q = am_gt 32 21 [v0, v1, v2, v3, v4, v5] sk st (fun pc lc sk st => am_g d X am_m1013 pc lc sk st Q) := am_gu.trans rfl
theorem u1013_21 {v0 : Value} {v1 : Value} {v2 : Value} {v4 : Value} {v5 : Value} {x : Int32} : am_g d X am_m1013 21 [v0, v1, v2, .int x, v4, v5] sk st Q = am_g d X am_m1013 22 [v0, v1, v2, .int x, v4, v5] (.int x :: sk) st Q := am_gu.trans rfl
theorem u1013_22 {v0 : Value} {v1 : Value} {v2 : Value} {v3 : Value} {v4 : Value} {v5 : Value} : am_g d X am_m1013 22 [v0, v1, v2, v3, v4, v5] sk st Q = am_g d X am_m1013 23 [v0, v1, v2, v3, v4, v5] (.int (am_i 2) :: sk) st Q := am_gu.trans rfl
theorem u1013_23 {a0 : Value} {a1 : Value} {a2 : Value} {v0 : Value} {v1 : Value} {v2 : Value} {v3 : Value} {v4 : Value} {v5 : Value} : am_g d X am_m1013 23 [v0, v1, v2, v3, v4, v5] (a2 :: a1 :: a0 :: sk) st Q = (sk.length ≤ 4 ∧ am_Ca X d 1016 [a0, a1, a2] st (am_af am_m1013 23 [v0, v1, v2, v3, v4, v5] sk (fun pc lc sk st => am_g d X am_m1013 pc lc sk st Q) Q)) := am_gu.trans (propext ⟨fun h => ⟨h.1.2, h.2⟩, fun h => ⟨⟨Nat.le_add_left _ _, h.1⟩, h.2⟩⟩)
theorem u1013_26 {v0 : Value} {v1 : Value} {v2 : Value} {v3 : Value} {v4 : Value} {v5 : Value} : am_g d X am_m1013 26 [v0, v1, v2, v3, v4, v5] sk st Q = am_g d X am_m1013 27 [v0, v1, v2, v3, v4, v5] (.int (am_i 0) :: sk) st Q := am_gu.trans rfl
theorem u1013_27 {v0 : Value} {v1 : Value} {v2 : Value} {v3 : Value} {v4 : Value} {v5 : Value} {x : Int32} : am_g d X am_m1013 27 [v0, v1, v2, v3, v4, v5] (.int x :: sk) st Q = am_g d X am_m1013 29 [v0, v1, v2, am_kc v3, .int x, v5] sk st Q := am_gu.trans (congrArg (fun l => am_g d X am_m1013 29 (List.set l 4 (.int x)) sk st Q) (kl_4 (l := [v4, v5])))
theorem u1013_29 {v0 : Value} {v1 : Value} {v2 : Value} {v3 : Value} {v4 : Value} {v5 : Value} : am_g d X am_m1013 29 [v0, v1, v2, v3, v4, v5] sk st Q = am_g d X am_m1013 31 [v0, v1, v2, v3, v4, v5] (.int (am_i 59) :: sk) st Q := am_gu.trans rfl
theorem u1013_31 {v0 : Value} {v1 : Value} {v2 : Value} {v3 : Value} {v4 : Value} {v5 : Value} {x : Int32} : am_g d X am_m1013 31 [v0, v1, v2, v3, v4, v5] (.int x :: sk) st Q = am_g d X am_m1013 33 [v0, v1, v2, v3, am_kc v4, .int x] sk st Q := am_gu.trans (congrArg (fun l => am_g d X am_m1013 33 (List.set l 5 (.int x)) sk st Q) (kl_5 (l := [v5])))
theorem u1013_33 {v0 : Value} {v1 : Value} {v2 : Value} {v3 : Value} {v4 : Value} {x : Int32} : am_g d X am_m1013 33 [v0, v1, v2, v3, v4, .int x] sk st Q = am_g d X am_m1013 35 [v0, v1, v2, v3, v4, .int x] (.int x :: sk) st Q := am_gu.trans rfl
theorem u1013_35 {v0 : Value} {v1 : Value} {v2 : Value} {v3 : Value} {v4 : Value} {v5 : Value} {x : Int32} : am_g d X am_m1013 35 [v0, v1, v2, v3, v4, v5] (.int x :: sk) st Q = (if decide (x < 0) = true then am_g d X am_m1013 107 [v0, v1, v2, v3, v4, v5] sk st Q else am_g d X am_m1013 38 [v0, v1, v2, v3, v4, v5] sk st Q) := am_gu.trans rfl
theorem u1013_38 {v1 : Value} {v2 : Value} {v3 : Value} {v4 : Value} {v5 : Value} {x : Nat} : am_g d X am_m1013 38 [.ref x, v1, v2, v3, v4, v5] sk st Q = am_g d X am_m1013 39 [.ref x, v1, v2, v3, v4, v5] (.ref x :: sk) st Q := am_gu.trans rfl
theorem u1013_39 {v0 : Value} {v1 : Value} {v2 : Value} {v3 : Value} {v4 : Value} {v5 : Value} : am_g d X am_m1013 39 [v0, v1, v2, v3, v4, v5] sk st Q = am_gt 32 42 [v0, v1, v2, v3, v4, v5] sk st (fun pc lc sk st => am_g d X am_m1013 pc lc sk st Q) := am_gu.trans rfl
theorem u1013_42 {v0 : Value} {v1 : Value} {v2 : Value} {v3 : Value} {v4 : Value} {x : Int32} : am_g d X am_m1013 42 [v0, v1, v2, v3, v4, .int x] sk st Q = am_g d X am_m1013 44 [v0, v1, v2, v3, v4, .int x] (.int x :: sk) st Q := am_gu.trans rfl
theorem u1013_44 {v0 : Value} {v1 : Value} {v2 : Value} {v3 : Value} {v4 : Value} {v5 : Value} : am_g d X am_m1013 44 [v0, v1, v2, v3, v4, v5] sk st Q = am_xl (X.1, X.2.1, d) am_m1013 45 [v0, v1, v2, v3, v4, v5] sk st (fun pc lc sk st => am_g d X am_m1013 pc lc sk st Q) := am_gu.trans rfl
theorem u1013_45 {v0 : Value} {v1 : Value} {v2 : Value} {v3 : Value} {v4 : Value} {v5 : Value} : am_g d X am_m1013 45 [v0, v1, v2, v3, v4, v5] sk st Q = am_g d X am_m1013 46 [v0, v1, v2, v3, v4, v5] (.int (am_i 3) :: sk) st Q := am_gu.trans rfl
theorem u1013_46 {v0 : Value} {v1 : Value} {v2 : Value} {v3 : Value} {v4 : Value} {v5 : Value} {x : Int32} {y : Int32} : am_g d X am_m1013 46 [v0, v1, v2, v3, v4, v5] (.int y :: .int x :: sk) st Q = (if decide (¬ x = y) = true then am_g d X am_m1013 61 [v0, v1, v2, v3, v4, v5] sk st Q else am_g d X am_m1013 49 [v0, v1, v2, v3, v4, v5] sk st Q) := am_gu.trans rfl
theorem u1013_49 {v0 : Value} {v1 : Value} {v2 : Value} {v3 : Value} {v5 : Value} {x : Int32} : am_g d X am_m1013 49 [v0, v1, v2, v3, .int x, v5] sk st Q = am_g d X am_m1013 52 [v0, v1, v2, am_kc v3, .int (x + am_i 1), v5] sk st Q := am_gu.trans (congrArg (fun l => am_g d X am_m1013 52 (List.set l 4 (.int (x + am_i 1))) sk st Q) (kl_4 (l := [.int x, v5])))
theorem u1013_52 {v1 : Value} {v2 : Value} {v3 : Value} {v4 : Value} {v5 : Value} {x : Nat} : am_g d X am_m1013 52 [.ref x, v1, v2, v3, v4, v5] sk st Q = am_g d X am_m1013 53 [.ref x, v1, v2, v3, v4, v5] (.ref x :: sk) st Q := am_gu.trans rfl
theorem u1013_53 {v0 : Value} {v1 : Value} {v2 : Value} {v3 : Value} {v4 : Value} {v5 : Value} : am_g d X am_m1013 53 [v0, v1, v2, v3, v4, v5] sk st Q = am_gt 32 56 [v0, v1, v2, v3, v4, v5] sk st (fun pc lc sk st => am_g d X am_m1013 pc lc sk st Q) := am_gu.trans rfl
theorem u1013_56 {v0 : Value} {v1 : Value} {v2 : Value} {v3 : Value} {v4 : Value} {x : Int32} : am_g d X am_m1013 56 [v0, v1, v2, v3, v4, .int x] sk st Q = am_g d X am_m1013 58 [v0, v1, v2, v3, v4, .int x] (.int x :: sk) st Q := am_gu.trans rfl
theorem u1013_58 {v0 : Value} {v1 : Value} {v2 : Value} {v3 : Value} {v4 : Value} {v5 : Value} : am_g d X am_m1013 58 [v0, v1, v2, v3, v4, v5] sk st Q = am_g d X am_m1013 60 [v0, v1, v2, v3, v4, v5] (.int (am_i 7) :: sk) st Q := am_gu.trans rfl
theorem u1013_60 {v0 : Value} {v1 : Value} {v2 : Value} {v3 : Value} {v4 : Value} {v5 : Value} : am_g d X am_m1013 60 [v0, v1, v2, v3, v4, v5] sk st Q = am_xs 61 [v0, v1, v2, v3, v4, v5] sk st (fun pc lc sk st => am_g d X am_m1013 pc lc sk st Q) := am_gu.trans rfl
theorem u1013_61 {v1 : Value} {v2 : Value} {v3 : Value} {v4 : Value} {v5 : Value} {x : Nat} : am_g d X am_m1013 61 [.ref x, v1, v2, v3, v4, v5] sk st Q = am_g d X am_m1013 62 [.ref x, v1, v2, v3, v4, v5] (.ref x :: sk) st Q := am_gu.trans rfl
theorem u1013_62 {v0 : Value} {v1 : Value} {v2 : Value} {v3 : Value} {v4 : Value} {v5 : Value} : am_g d X am_m1013 62 [v0, v1, v2, v3, v4, v5] sk st Q = am_gt 32 65 [v0, v1, v2, v3, v4, v5] sk st (fun pc lc sk st => am_g d X am_m1013 pc lc sk st Q) := am_gu.trans rfl
theorem u1013_65 {v0 : Value} {v2 : Value} {v3 : Value} {v4 : Value} {v5 : Value} {x : Nat} : am_g d X am_m1013 65 [v0, .ref x, v2, v3, v4, v5] sk st Q = am_g d X am_m1013 66 [v0, .ref x, v2, v3, v4, v5] (.ref x :: sk) st Q := am_gu.trans rfl
theorem u1013_66 {v0 : Value} {v1 : Value} {v2 : Value} {v3 : Value} {v4 : Value} {x : Int32} : am_g d X am_m1013 66 [v0, v1, v2, v3, v4, .int x] sk st Q = am_g d X am_m1013 68 [v0, v1, v2, v3, v4, .int x] (.int x :: sk) st Q := am_gu.trans rfl
theorem u1013_68 {a0 : Value} {v0 : Value} {v1 : Value} {v2 : Value} {v3 : Value} {v4 : Value} {v5 : Value} : am_g d X am_m1013 68 [v0, v1, v2, v3, v4, v5] (a0 :: .ref o :: sk) st Q = ((am_ob st o 5 ∧ sk.length ≤ 4) ∧ am_Ca X d 5005 [.ref o, a0] st (am_af am_m1013 68 [v0, v1, v2, v3, v4, v5] sk (fun pc lc sk st => am_g d X am_m1013 pc lc sk st Q) Q)) := am_gu.trans rfl
theorem u1013_71 {v1 : Value} {v2 : Value} {v3 : Value} {v4 : Value} {v5 : Value} {x : Nat} : am_g d X am_m1013 71 [.ref x, v1, v2, v3, v4, v5] sk st Q = am_g d X am_m1013 72 [.ref x, v1, v2, v3, v4, v5] (.ref x :: sk) st Q := am_gu.trans rfl
theorem u1013_72 {v0 : Value} {v1 : Value} {v2 : Value} {v3 : Value} {v4 : Value} {v5 : Value} : am_g d X am_m1013 72 [v0, v1, v2, v3, v4, v5] sk st Q = am_gt 32 75 [v0, v1, v2, v3, v4, v5] sk st (fun pc lc sk st => am_g d X am_m1013 pc lc sk st Q) := am_gu.trans rfl
theorem u1013_75 {v0 : Value} {v1 : Value} {v2 : Value} {v3 : Value} {v4 : Value} {x : Int32} : am_g d X am_m1013 75 [v0, v1, v2, v3, v4, .int x] sk st Q = am_g d X am_m1013 77 [v0, v1, v2, v3, v4, .int x] (.int x :: sk) st Q := am_gu.trans rfl
theorem u1013_77 {v0 : Value} {v1 : Value} {v2 : Value} {v3 : Value} {v4 : Value} {v5 : Value} : am_g d X am_m1013 77 [v0, v1, v2, v3, v4, v5] sk st Q = am_xl (X.1, X.2.1, d) am_m1013 78 [v0, v1, v2, v3, v4, v5] sk st (fun pc lc sk st => am_g d X am_m1013 pc lc sk st Q) := am_gu.trans rfl
theorem u1013_78 {a0 : Value} {a1 : Value} {a2 : Value} {v0 : Value} {v1 : Value} {v2 : Value} {v3 : Value} {v4 : Value} {v5 : Value} : am_g d X am_m1013 78 [v0, v1, v2, v3, v4, v5] (a2 :: a1 :: a0 :: sk) st Q = (sk.length ≤ 4 ∧ am_Ca X d 1016 [a0, a1, a2] st (am_af am_m1013 78 [v0, v1, v2, v3, v4, v5] sk (fun pc lc sk st => am_g d X am_m1013 pc lc sk st Q) Q)) := am_gu.trans (propext ⟨fun h => ⟨h.1.2, h.2⟩, fun h => ⟨⟨Nat.le_add_left _ _, h.1⟩, h.2⟩⟩)
theorem u1013_81 {v1 : Value} {v2 : Value} {v3 : Value} {v4 : Value} {v5 : Value} {x : Nat} : am_g d X am_m1013 81 [.ref x, v1, v2, v3, v4, v5] sk st Q = am_g d X am_m1013 82 [.ref x, v1, v2, v3, v4, v5] (.ref x :: sk) st Q := am_gu.trans rfl
theorem u1013_82 {v0 : Value} {v1 : Value} {v2 : Value} {v3 : Value} {v4 : Value} {v5 : Value} : am_g d X am_m1013 82 [v0, v1, v2, v3, v4, v5] sk st Q = am_gt 32 85 [v0, v1, v2, v3, v4, v5] sk st (fun pc lc sk st => am_g d X am_m1013 pc lc sk st Q) := am_gu.trans rfl
theorem u1013_85 {v0 : Value} {v2 : Value} {v3 : Value} {v4 : Value} {v5 : Value} {x : Nat} : am_g d X am_m1013 85 [v0, .ref x, v2, v3, v4, v5] sk st Q = am_g d X am_m1013 86 [v0, .ref x, v2, v3, v4, v5] (.ref x :: sk) st Q := am_gu.trans rfl
theorem u1013_86 {v0 : Value} {v1 : Value} {v2 : Value} {v3 : Value} {v4 : Value} {x : Int32} : am_g d X am_m1013 86 [v0, v1, v2, v3, v4, .int x] sk st Q = am_g d X am_m1013 88 [v0, v1, v2, v3, v4, .int x] (.int x :: sk) st Q := am_gu.trans rfl
theorem u1013_88 {a0 : Value} {v0 : Value} {v1 : Value} {v2 : Value} {v3 : Value} {v4 : Value} {v5 : Value} : am_g d X am_m1013 88 [v0, v1, v2, v3, v4, v5] (a0 :: .ref o :: sk) st Q = ((am_ob st o 5 ∧ sk.length ≤ 4) ∧ am_Ca X d 5006 [.ref o, a0] st (am_af am_m1013 88 [v0, v1, v2, v3, v4, v5] sk (fun pc lc sk st => am_g d X am_m1013 pc lc sk st Q) Q)) := am_gu.trans rfl
theorem u1013_91 {v1 : Value} {v2 : Value} {v3 : Value} {v4 : Value} {v5 : Value} {x : Nat} : am_g d X am_m1013 91 [.ref x, v1, v2, v3, v4, v5] sk st Q = am_g d X am_m1013 92 [.ref x, v1, v2, v3, v4, v5] (.ref x :: sk) st Q := am_gu.trans rfl
theorem u1013_92 {v0 : Value} {v1 : Value} {v2 : Value} {v3 : Value} {v4 : Value} {v5 : Value} : am_g d X am_m1013 92 [v0, v1, v2, v3, v4, v5] sk st Q = am_gt 32 95 [v0, v1, v2, v3, v4, v5] sk st (fun pc lc sk st => am_g d X am_m1013 pc lc sk st Q) := am_gu.trans rfl
theorem u1013_95 {v0 : Value} {v1 : Value} {v2 : Value} {v3 : Value} {v4 : Value} {x : Int32} : am_g d X am_m1013 95 [v0, v1, v2, v3, v4, .int x] sk st Q = am_g d X am_m1013 97 [v0, v1, v2, v3, v4, .int x] (.int x :: sk) st Q := am_gu.trans rfl
theorem u1013_97 {v0 : Value} {v1 : Value} {v2 : Value} {v3 : Value} {v4 : Value} {v5 : Value} : am_g d X am_m1013 97 [v0, v1, v2, v3, v4, v5] sk st Q = am_xl (X.1, X.2.1, d) am_m1013 98 [v0, v1, v2, v3, v4, v5] sk st (fun pc lc sk st => am_g d X am_m1013 pc lc sk st Q) := am_gu.trans rfl
theorem u1013_98 {a0 : Value} {a1 : Value} {a2 : Value} {v0 : Value} {v1 : Value} {v2 : Value} {v3 : Value} {v4 : Value} {v5 : Value} : am_g d X am_m1013 98 [v0, v1, v2, v3, v4, v5] (a2 :: a1 :: a0 :: sk) st Q = (sk.length ≤ 4 ∧ am_Ca X d 1016 [a0, a1, a2] st (am_af am_m1013 98 [v0, v1, v2, v3, v4, v5] sk (fun pc lc sk st => am_g d X am_m1013 pc lc sk st Q) Q)) := am_gu.trans (propext ⟨fun h => ⟨h.1.2, h.2⟩, fun h => ⟨⟨Nat.le_add_left _ _, h.1⟩, h.2⟩⟩)
theorem u1013_101 {v0 : Value} {v1 : Value} {v2 : Value} {v3 : Value} {v4 : Value} {x : Int32} : am_g d X am_m1013 101 [v0, v1, v2, v3, v4, .int x] sk st Q = am_g d X am_m1013 104 [v0, v1, v2, v3, am_kc v4, .int (x + am_i (-1))] sk st Q := am_gu.trans (congrArg (fun l => am_g d X am_m1013 104 (List.set l 5 (.int (x + am_i (-1)))) sk st Q) (kl_5 (l := [.int x])))
theorem u1013_104 {v0 : Value} {v1 : Value} {v2 : Value} {v3 : Value} {v4 : Value} {v5 : Value} : am_g d X am_m1013 104 [v0, v1, v2, v3, v4, v5] sk st Q = am_g d X am_m1013 33 [v0, v1, v2, v3, v4, v5] sk st Q := am_gu.trans rfl
theorem u1013_107 {v0 : Value} {v1 : Value} {v2 : Value} {v3 : Value} {v5 : Value} {x : Int32} : am_g d X am_m1013 107 [v0, v1, v2, v3, .int x, v5] sk st Q = am_g d X am_m1013 109 [v0, v1, v2, v3, .int x, v5] (.int x :: sk) st Q := am_gu.trans rfl
theorem u1013_109 {v0 : Value} {v1 : Value} {v2 : Value} {v3 : Value} {v4 : Value} {v5 : Value} {x : Int32} : am_g d X am_m1013 109 [v0, v1, v2, v3, v4, v5] [.int x] st Q = Q (.inl (some (.int x))) st := am_gu.trans rfl
set_option maxRecDepth 100000 in
theorem of_1014 : am_of 1014 = some am_m1014 := rfl
theorem c1014 {z a0 a1 a2} {P : am_Q} : am_Ca X (d + 1) 1014 [.ref z, .ref a0, .int a1, .ref a2] st P = am_g d X am_m1014 0 [.ref z, .ref a0, .int a1, .ref a2, am_u, am_u] [] st P := am_cg of_1014 (by show 4 ≤ 6; decide)
theorem hd_1014 : am_hd am_m1014 = [] := rfl
theorem u1014_0 {v1 : Value} {v2 : Value} {v3 : Value} {v4 : Value} {v5 : Value} {x : Nat} : am_g d X am_m1014 0 [.ref x, v1, v2, v3, v4, v5] sk st Q = am_g d X am_m1014 1 [.ref x, v1, v2, v3, v4, v5] (.ref x :: sk) st Q := am_gu.trans rfl
theorem u1014_1 {v0 : Value} {v1 : Value} {v2 : Value} {v3 : Value} {v4 : Value} {v5 : Value} : am_g d X am_m1014 1 [v0, v1, v2, v3, v4, v5] sk st Q = am_gt 32 4 [v0, v1, v2, v3, v4, v5] sk st (fun pc lc sk st => am_g d X am_m1014 pc lc sk st Q) := am_gu.trans rfl
theorem u1014_4 {v0 : Value} {v1 : Value} {v2 : Value} {v3 : Value} {v4 : Value} {v5 : Value} : am_g d X am_m1014 4 [v0, v1, v2, v3, v4, v5] sk st Q = am_g d X am_m1014 5 [v0, v1, v2, v3, v4, v5] (.int (am_i 0) :: sk) st Q := am_gu.trans rfl
theorem u1014_5 {a0 : Value} {a1 : Value} {v0 : Value} {v1 : Value} {v2 : Value} {v3 : Value} {v4 : Value} {v5 : Value} : am_g d X am_m1014 5 [v0, v1, v2, v3, v4, v5] (a1 :: a0 :: sk) st Q = (sk.length ≤ 4 ∧ am_Ca X d 9000 [a0, a1] st (am_af am_m1014 5 [v0, v1, v2, v3, v4, v5] sk (fun pc lc sk st => am_g d X am_m1014 pc lc sk st Q) Q)) := am_gu.trans (propext ⟨fun h => ⟨h.1.2, h.2⟩, fun h => ⟨⟨Nat.le_add_left _ _, h.1⟩, h.2⟩⟩)
theorem u1014_8 {v0 : Value} {v2 : Value} {v3 : Value} {v4 : Value} {v5 : Value} {x : Nat} : am_g d X am_m1014 8 [v0, .ref x, v2, v3, v4, v5] sk st Q = am_g d X am_m1014 9 [v0, .ref x, v2, v3, v4, v5] (.ref x :: sk) st Q := am_gu.trans rfl
theorem u1014_9 {v0 : Value} {v1 : Value} {v3 : Value} {v4 : Value} {v5 : Value} {x : Int32} : am_g d X am_m1014 9 [v0, v1, .int x, v3, v4, v5] sk st Q = am_g d X am_m1014 10 [v0, v1, .int x, v3, v4, v5] (.int x :: sk) st Q := am_gu.trans rfl
theorem u1014_10 {v1 : Value} {v2 : Value} {v3 : Value} {v4 : Value} {v5 : Value} {x : Nat} : am_g d X am_m1014 10 [.ref x, v1, v2, v3, v4, v5] sk st Q = am_g d X am_m1014 11 [.ref x, v1, v2, v3, v4, v5] (.ref x :: sk) st Q := am_gu.trans rfl
theorem u1014_11 {v0 : Value} {v1 : Value} {v2 : Value} {v3 : Value} {v4 : Value} {v5 : Value} : am_g d X am_m1014 11 [v0, v1, v2, v3, v4, v5] sk st Q = am_gt 32 14 [v0, v1, v2, v3, v4, v5] sk st (fun pc lc sk st => am_g d X am_m1014 pc lc sk st Q) := am_gu.trans rfl
theorem u1014_14 {a0 : Value} {a1 : Value} {a2 : Value} {v0 : Value} {v1 : Value} {v2 : Value} {v3 : Value} {v4 : Value} {v5 : Value} : am_g d X am_m1014 14 [v0, v1, v2, v3, v4, v5] (a2 :: a1 :: a0 :: sk) st Q = (sk.length ≤ 4 ∧ am_Ca X d 1017 [a0, a1, a2] st (am_af am_m1014 14 [v0, v1, v2, v3, v4, v5] sk (fun pc lc sk st => am_g d X am_m1014 pc lc sk st Q) Q)) := am_gu.trans (propext ⟨fun h => ⟨h.1.2, h.2⟩, fun h => ⟨⟨Nat.le_add_left _ _, h.1⟩, h.2⟩⟩)
theorem u1014_17 {v0 : Value} {v1 : Value} {v2 : Value} {v4 : Value} {v5 : Value} {x : Nat} : am_g d X am_m1014 17 [v0, v1, v2, .ref x, v4, v5] sk st Q = am_g d X am_m1014 18 [v0, v1, v2, .ref x, v4, v5] (.ref x :: sk) st Q := am_gu.trans rfl
theorem u1014_18 {v0 : Value} {v1 : Value} {v2 : Value} {v3 : Value} {v4 : Value} {v5 : Value} : am_g d X am_m1014 18 [v0, v1, v2, v3, v4, v5] sk st Q = am_g d X am_m1014 19 [v0, v1, v2, v3, v4, v5] (.int (am_i 0) :: sk) st Q := am_gu.trans rfl
theorem u1014_19 {a0 : Value} {a1 : Value} {v0 : Value} {v1 : Value} {v2 : Value} {v3 : Value} {v4 : Value} {v5 : Value} : am_g d X am_m1014 19 [v0, v1, v2, v3, v4, v5] (a1 :: a0 :: sk) st Q = (sk.length ≤ 4 ∧ am_Ca X d 9000 [a0, a1] st (am_af am_m1014 19 [v0, v1, v2, v3, v4, v5] sk (fun pc lc sk st => am_g d X am_m1014 pc lc sk st Q) Q)) := am_gu.trans (propext ⟨fun h => ⟨h.1.2, h.2⟩, fun h => ⟨⟨Nat.le_add_left _ _, h.1⟩, h.2⟩⟩)
theorem u1014_22 {v0 : Value} {v2 : Value} {v3 : Value} {v4 : Value} {v5 : Value} {x : Nat} : am_g d X am_m1014 22 [v0, .ref x, v2, v3, v4, v5] sk st Q = am_g d X am_m1014 23 [v0, .ref x, v2, v3, v4, v5] (.ref x :: sk) st Q := am_gu.trans rfl
theorem u1014_23 {v0 : Value} {v1 : Value} {v2 : Value} {v3 : Value} {v4 : Value} {v5 : Value} : am_g d X am_m1014 23 [v0, v1, v2, v3, v4, v5] (.ref o :: sk) st Q = ((am_ob st o 5 ∧ sk.length ≤ 4) ∧ am_Ca X d 5016 [.ref o] st (am_af am_m1014 23 [v0, v1, v2, v3, v4, v5] sk (fun pc lc sk st => am_g d X am_m1014 pc lc sk st Q) Q)) := am_gu.trans rfl
theorem u1014_26 {v0 : Value} {v1 : Value} {v2 : Value} {v3 : Value} {v4 : Value} {v5 : Value} {x : Int32} : am_g d X am_m1014 26 [v0, v1, v2, v3, v4, v5] (.int x :: sk) st Q = am_g d X am_m1014 28 [v0, v1, v2, am_kc v3, .int x, v5] sk st Q := am_gu.trans (congrArg (fun l => am_g d X am_m1014 28 (List.set l 4 (.int x)) sk st Q) (kl_4 (l := [v4, v5])))
theorem u1014_28 {v0 : Value} {v1 : Value} {v2 : Value} {v3 : Value} {v4 : Value} {v5 : Value} : am_g d X am_m1014 28 [v0, v1, v2, v3, v4, v5] sk st Q = am_g d X am_m1014 29 [v0, v1, v2, v3, v4, v5] (.int (am_i 0) :: sk) st Q := am_gu.trans rfl
theorem u1014_29 {v0 : Value} {v1 : Value} {v2 : Value} {v3 : Value} {v4 : Value} {v5 : Value} {x : Int32} : am_g d X am_m1014 29 [v0, v1, v2, v3, v4, v5] (.int x :: sk) st Q = am_g d X am_m1014 31 [v0, v1, v2, v3, am_kc v4, .int x] sk st Q := am_gu.trans (congrArg (fun l => am_g d X am_m1014 31 (List.set l 5 (.int x)) sk st Q) (kl_5 (l := [v5])))
theorem u1014_31 {v0 : Value} {v1 : Value} {v2 : Value} {v3 : Value} {v4 : Value} {x : Int32} : am_g d X am_m1014 31 [v0, v1, v2, v3, v4, .int x] sk st Q = am_g d X am_m1014 33 [v0, v1, v2, v3, v4, .int x] (.int x :: sk) st Q := am_gu.trans rfl
theorem u1014_33 {v0 : Value} {v1 : Value} {v2 : Value} {v3 : Value} {v4 : Value} {v5 : Value} : am_g d X am_m1014 33 [v0, v1, v2, v3, v4, v5] sk st Q = am_g d X am_m1014 35 [v0, v1, v2, v3, v4, v5] (.int (am_i 60) :: sk) st Q := am_gu.trans rfl
theorem u1014_35 {v0 : Value} {v1 : Value} {v2 : Value} {v3 : Value} {v4 : Value} {v5 : Value} {x : Int32} {y : Int32} : am_g d X am_m1014 35 [v0, v1, v2, v3, v4, v5] (.int y :: .int x :: sk) st Q = (if decide (y ≤ x) = true then am_g d X am_m1014 77 [v0, v1, v2, v3, v4, v5] sk st Q else am_g d X am_m1014 38 [v0, v1, v2, v3, v4, v5] sk st Q) := am_gu.trans rfl
theorem u1014_38 {v0 : Value} {v1 : Value} {v2 : Value} {v3 : Value} {v5 : Value} {x : Int32} : am_g d X am_m1014 38 [v0, v1, v2, v3, .int x, v5] sk st Q = am_g d X am_m1014 40 [v0, v1, v2, v3, .int x, v5] (.int x :: sk) st Q := am_gu.trans rfl
theorem u1014_40 {v0 : Value} {v1 : Value} {v2 : Value} {v3 : Value} {v4 : Value} {v5 : Value} : am_g d X am_m1014 40 [v0, v1, v2, v3, v4, v5] sk st Q = am_g d X am_m1014 41 [v0, v1, v2, v3, v4, v5] (.int (am_i (-1)) :: sk) st Q := am_gu.trans rfl
theorem u1014_41 {v0 : Value} {v1 : Value} {v2 : Value} {v3 : Value} {v4 : Value} {v5 : Value} {x : Int32} {y : Int32} : am_g d X am_m1014 41 [v0, v1, v2, v3, v4, v5] (.int y :: .int x :: sk) st Q = (if decide (x = y) = true then am_g d X am_m1014 77 [v0, v1, v2, v3, v4, v5] sk st Q else am_g d X am_m1014 44 [v0, v1, v2, v3, v4, v5] sk st Q) := am_gu.trans rfl
theorem u1014_44 {v1 : Value} {v2 : Value} {v3 : Value} {v4 : Value} {v5 : Value} {x : Nat} : am_g d X am_m1014 44 [.ref x, v1, v2, v3, v4, v5] sk st Q = am_g d X am_m1014 45 [.ref x, v1, v2, v3, v4, v5] (.ref x :: sk) st Q := am_gu.trans rfl
theorem u1014_45 {v0 : Value} {v1 : Value} {v2 : Value} {v3 : Value} {v4 : Value} {v5 : Value} : am_g d X am_m1014 45 [v0, v1, v2, v3, v4, v5] sk st Q = am_gt 32 48 [v0, v1, v2, v3, v4, v5] sk st (fun pc lc sk st => am_g d X am_m1014 pc lc sk st Q) := am_gu.trans rfl
theorem u1014_48 {v0 : Value} {v1 : Value} {v2 : Value} {v3 : Value} {v5 : Value} {x : Int32} : am_g d X am_m1014 48 [v0, v1, v2, v3, .int x, v5] sk st Q = am_g d X am_m1014 50 [v0, v1, v2, v3, .int x, v5] (.int x :: sk) st Q := am_gu.trans rfl
theorem u1014_50 {a0 : Value} {a1 : Value} {v0 : Value} {v1 : Value} {v2 : Value} {v3 : Value} {v4 : Value} {v5 : Value} : am_g d X am_m1014 50 [v0, v1, v2, v3, v4, v5] (a1 :: a0 :: sk) st Q = (sk.length ≤ 4 ∧ am_Ca X d 1015 [a0, a1] st (am_af am_m1014 50 [v0, v1, v2, v3, v4, v5] sk (fun pc lc sk st => am_g d X am_m1014 pc lc sk st Q) Q)) := am_gu.trans (propext ⟨fun h => ⟨h.1.2, h.2⟩, fun h => ⟨⟨Nat.le_add_left _ _, h.1⟩, h.2⟩⟩)
theorem u1014_53 {v0 : Value} {v1 : Value} {v2 : Value} {v3 : Value} {v4 : Value} {v5 : Value} {x : Int32} : am_g d X am_m1014 53 [v0, v1, v2, v3, v4, v5] (.int x :: sk) st Q = (if decide (¬ x = 0) = true then am_g d X am_m1014 77 [v0, v1, v2, v3, v4, v5] sk st Q else am_g d X am_m1014 56 [v0, v1, v2, v3, v4, v5] sk st Q) := am_gu.trans rfl
theorem u1014_56 {v0 : Value} {v1 : Value} {v2 : Value} {v4 : Value} {v5 : Value} {x : Nat} : am_g d X am_m1014 56 [v0, v1, v2, .ref x, v4, v5] sk st Q = am_g d X am_m1014 57 [v0, v1, v2, .ref x, v4, v5] (.ref x :: sk) st Q := am_gu.trans rfl
theorem u1014_57 {v0 : Value} {v1 : Value} {v2 : Value} {v3 : Value} {v5 : Value} {x : Int32} : am_g d X am_m1014 57 [v0, v1, v2, v3, .int x, v5] sk st Q = am_g d X am_m1014 59 [v0, v1, v2, v3, .int x, v5] (.int x :: sk) st Q := am_gu.trans rfl
theorem u1014_59 {v0 : Value} {v1 : Value} {v2 : Value} {v3 : Value} {v4 : Value} {v5 : Value} : am_g d X am_m1014 59 [v0, v1, v2, v3, v4, v5] sk st Q = am_g d X am_m1014 60 [v0, v1, v2, v3, v4, v5] (.int (am_i 1) :: sk) st Q := am_gu.trans rfl
theorem u1014_60 {a0 : Value} {a1 : Value} {a2 : Value} {v0 : Value} {v1 : Value} {v2 : Value} {v3 : Value} {v4 : Value} {v5 : Value} : am_g d X am_m1014 60 [v0, v1, v2, v3, v4, v5] (a2 :: a1 :: a0 :: sk) st Q = (sk.length ≤ 4 ∧ am_Ca X d 1016 [a0, a1, a2] st (am_af am_m1014 60 [v0, v1, v2, v3, v4, v5] sk (fun pc lc sk st => am_g d X am_m1014 pc lc sk st Q) Q)) := am_gu.trans (propext ⟨fun h => ⟨h.1.2, h.2⟩, fun h => ⟨⟨Nat.le_add_left _ _, h.1⟩, h.2⟩⟩)
theorem u1014_63 {v0 : Value} {v2 : Value} {v3 : Value} {v4 : Value} {v5 : Value} {x : Nat} : am_g d X am_m1014 63 [v0, .ref x, v2, v3, v4, v5] sk st Q = am_g d X am_m1014 64 [v0, .ref x, v2, v3, v4, v5] (.ref x :: sk) st Q := am_gu.trans rfl
theorem u1014_64 {v0 : Value} {v1 : Value} {v2 : Value} {v3 : Value} {v5 : Value} {x : Int32} : am_g d X am_m1014 64 [v0, v1, v2, v3, .int x, v5] sk st Q = am_g d X am_m1014 66 [v0, v1, v2, v3, .int x, v5] (.int x :: sk) st Q := am_gu.trans rfl
theorem u1014_66 {a0 : Value} {v0 : Value} {v1 : Value} {v2 : Value} {v3 : Value} {v4 : Value} {v5 : Value} : am_g d X am_m1014 66 [v0, v1, v2, v3, v4, v5] (a0 :: .ref o :: sk) st Q = ((am_ob st o 5 ∧ sk.length ≤ 4) ∧ am_Ca X d 5005 [.ref o, a0] st (am_af am_m1014 66 [v0, v1, v2, v3, v4, v5] sk (fun pc lc sk st => am_g d X am_m1014 pc lc sk st Q) Q)) := am_gu.trans rfl
theorem u1014_69 {v0 : Value} {v1 : Value} {v2 : Value} {v3 : Value} {v4 : Value} {v5 : Value} {x : Int32} : am_g d X am_m1014 69 [v0, v1, v2, v3, v4, v5] (.int x :: sk) st Q = am_g d X am_m1014 71 [v0, v1, v2, am_kc v3, .int x, v5] sk st Q := am_gu.trans (congrArg (fun l => am_g d X am_m1014 71 (List.set l 4 (.int x)) sk st Q) (kl_4 (l := [v4, v5])))
theorem u1014_71 {v0 : Value} {v1 : Value} {v2 : Value} {v3 : Value} {v4 : Value} {x : Int32} : am_g d X am_m1014 71 [v0, v1, v2, v3, v4, .int x] sk st Q = am_g d X am_m1014 74 [v0, v1, v2, v3, am_kc v4, .int (x + am_i 1)] sk st Q := am_gu.trans (congrArg (fun l => am_g d X am_m1014 74 (List.set l 5 (.int (x + am_i 1))) sk st Q) (kl_5 (l := [.int x])))
theorem u1014_74 {v0 : Value} {v1 : Value} {v2 : Value} {v3 : Value} {v4 : Value} {v5 : Value} : am_g d X am_m1014 74 [v0, v1, v2, v3, v4, v5] sk st Q = am_g d X am_m1014 31 [v0, v1, v2, v3, v4, v5] sk st Q := am_gu.trans rfl
theorem u1014_77 {v0 : Value} {v1 : Value} {v2 : Value} {v3 : Value} {v4 : Value} {v5 : Value} : am_g d X am_m1014 77 [v0, v1, v2, v3, v4, v5] [] st Q = Q (.inl none) st := am_gu.trans rfl
set_option maxRecDepth 100000 in
theorem of_1015 : am_of 1015 = some am_m1015 := rfl
theorem c1015 {a0 a1} {P : am_Q} : am_Ca X (d + 1) 1015 [.ref a0, .int a1] st P = am_g d X am_m1015 0 [.ref a0, .int a1] [] st P := am_cg of_1015 (by show 2 ≤ 2; decide)
theorem hd_1015 : am_hd am_m1015 = [] := rfl
theorem u1015_0 {v0 : Value} {x : Int32} : am_g d X am_m1015 0 [v0, .int x] sk st Q = am_g d X am_m1015 1 [v0, .int x] (.int x :: sk) st Q := am_gu.trans rfl
theorem u1015_1 {v0 : Value} {v1 : Value} {x : Int32} : am_g d X am_m1015 1 [v0, v1] (.int x :: sk) st Q = (if decide (x < 0) = true then am_g d X am_m1015 20 [v0, v1] sk st Q else am_g d X am_m1015 4 [v0, v1] sk st Q) := am_gu.trans rfl
theorem u1015_4 {v0 : Value} {x : Int32} : am_g d X am_m1015 4 [v0, .int x] sk st Q = am_g d X am_m1015 5 [v0, .int x] (.int x :: sk) st Q := am_gu.trans rfl
theorem u1015_5 {v1 : Value} {x : Nat} : am_g d X am_m1015 5 [.ref x, v1] sk st Q = am_g d X am_m1015 6 [.ref x, v1] (.ref x :: sk) st Q := am_gu.trans rfl
theorem u1015_6 {v0 : Value} {v1 : Value} : am_g d X am_m1015 6 [v0, v1] sk st Q = am_al (X.1, X.2.1, d) am_m1015 7 [v0, v1] sk st (fun pc lc sk st => am_g d X am_m1015 pc lc sk st Q) := am_gu.trans rfl
theorem u1015_7 {v0 : Value} {v1 : Value} {x : Int32} {y : Int32} : am_g d X am_m1015 7 [v0, v1] (.int y :: .int x :: sk) st Q = (if decide (y ≤ x) = true then am_g d X am_m1015 20 [v0, v1] sk st Q else am_g d X am_m1015 10 [v0, v1] sk st Q) := am_gu.trans rfl
theorem u1015_10 {v1 : Value} {x : Nat} : am_g d X am_m1015 10 [.ref x, v1] sk st Q = am_g d X am_m1015 11 [.ref x, v1] (.ref x :: sk) st Q := am_gu.trans rfl
theorem u1015_11 {v0 : Value} {x : Int32} : am_g d X am_m1015 11 [v0, .int x] sk st Q = am_g d X am_m1015 12 [v0, .int x] (.int x :: sk) st Q := am_gu.trans rfl
theorem u1015_12 {v0 : Value} {v1 : Value} : am_g d X am_m1015 12 [v0, v1] sk st Q = am_xl (X.1, X.2.1, d) am_m1015 13 [v0, v1] sk st (fun pc lc sk st => am_g d X am_m1015 pc lc sk st Q) := am_gu.trans rfl
theorem u1015_13 {v0 : Value} {v1 : Value} {x : Int32} : am_g d X am_m1015 13 [v0, v1] (.int x :: sk) st Q = (if decide (x = 0) = true then am_g d X am_m1015 20 [v0, v1] sk st Q else am_g d X am_m1015 16 [v0, v1] sk st Q) := am_gu.trans rfl
theorem u1015_16 {v0 : Value} {v1 : Value} : am_g d X am_m1015 16 [v0, v1] sk st Q = am_g d X am_m1015 17 [v0, v1] (.int (am_i 1) :: sk) st Q := am_gu.trans rfl
theorem u1015_17 {v0 : Value} {v1 : Value} : am_g d X am_m1015 17 [v0, v1] sk st Q = am_g d X am_m1015 21 [v0, v1] sk st Q := am_gu.trans rfl
theorem u1015_20 {v0 : Value} {v1 : Value} : am_g d X am_m1015 20 [v0, v1] sk st Q = am_g d X am_m1015 21 [v0, v1] (.int (am_i 0) :: sk) st Q := am_gu.trans rfl
theorem u1015_21 {v0 : Value} {v1 : Value} {x : Int32} : am_g d X am_m1015 21 [v0, v1] [.int x] st Q = ((x = 0 ∨ x = 1) ∧ Q (.inl (some (.int x))) st) := am_gu.trans rfl
set_option maxRecDepth 100000 in
theorem of_1016 : am_of 1016 = some am_m1016 := rfl
theorem c1016 {a0 a1 a2} {P : am_Q} : am_Ca X (d + 1) 1016 [.ref a0, .int a1, .int a2] st P = am_g d X am_m1016 0 [.ref a0, .int a1, .int a2] [] st P := am_cg of_1016 (by show 3 ≤ 3; decide)
theorem hd_1016 : am_hd am_m1016 = [] := rfl
theorem u1016_0 {v0 : Value} {v2 : Value} {x : Int32} : am_g d X am_m1016 0 [v0, .int x, v2] sk st Q = am_g d X am_m1016 1 [v0, .int x, v2] (.int x :: sk) st Q := am_gu.trans rfl
theorem u1016_1 {v0 : Value} {v1 : Value} {v2 : Value} {x : Int32} : am_g d X am_m1016 1 [v0, v1, v2] (.int x :: sk) st Q = (if decide (x < 0) = true then am_g d X am_m1016 17 [v0, v1, v2] sk st Q else am_g d X am_m1016 4 [v0, v1, v2] sk st Q) := am_gu.trans rfl
theorem u1016_4 {v0 : Value} {v2 : Value} {x : Int32} : am_g d X am_m1016 4 [v0, .int x, v2] sk st Q = am_g d X am_m1016 5 [v0, .int x, v2] (.int x :: sk) st Q := am_gu.trans rfl
theorem u1016_5 {v1 : Value} {v2 : Value} {x : Nat} : am_g d X am_m1016 5 [.ref x, v1, v2] sk st Q = am_g d X am_m1016 6 [.ref x, v1, v2] (.ref x :: sk) st Q := am_gu.trans rfl
theorem u1016_6 {v0 : Value} {v1 : Value} {v2 : Value} : am_g d X am_m1016 6 [v0, v1, v2] sk st Q = am_al (X.1, X.2.1, d) am_m1016 7 [v0, v1, v2] sk st (fun pc lc sk st => am_g d X am_m1016 pc lc sk st Q) := am_gu.trans rfl
theorem u1016_7 {v0 : Value} {v1 : Value} {v2 : Value} {x : Int32} {y : Int32} : am_g d X am_m1016 7 [v0, v1, v2] (.int y :: .int x :: sk) st Q = (if decide (y ≤ x) = true then am_g d X am_m1016 17 [v0, v1, v2] sk st Q else am_g d X am_m1016 10 [v0, v1, v2] sk st Q) := am_gu.trans rfl
theorem u1016_10 {v1 : Value} {v2 : Value} {x : Nat} : am_g d X am_m1016 10 [.ref x, v1, v2] sk st Q = am_g d X am_m1016 11 [.ref x, v1, v2] (.ref x :: sk) st Q := am_gu.trans rfl
theorem u1016_11 {v0 : Value} {v2 : Value} {x : Int32} : am_g d X am_m1016 11 [v0, .int x, v2] sk st Q = am_g d X am_m1016 12 [v0, .int x, v2] (.int x :: sk) st Q := am_gu.trans rfl
theorem u1016_12ir {v0 : Value} {v1 : Value} {v2 : Value} {x : Nat} {y : Int32} : am_g d X am_m1016 12 [v0, v1, v2] (.int y :: .ref x :: sk) st Q = am_g d X am_m1016 13 [v0, v1, v2] (.int y :: .ref x :: .int y :: .ref x :: sk) st Q := am_gu.trans rfl
theorem u1016_13 {v0 : Value} {v1 : Value} {v2 : Value} : am_g d X am_m1016 13 [v0, v1, v2] sk st Q = am_xl (X.1, X.2.1, d) am_m1016 14 [v0, v1, v2] sk st (fun pc lc sk st => am_g d X am_m1016 pc lc sk st Q) := am_gu.trans rfl
theorem u1016_14 {v0 : Value} {v1 : Value} {x : Int32} : am_g d X am_m1016 14 [v0, v1, .int x] sk st Q = am_g d X am_m1016 15 [v0, v1, .int x] (.int x :: sk) st Q := am_gu.trans rfl
theorem u1016_15 {v0 : Value} {v1 : Value} {v2 : Value} {x : Int32} {y : Int32} : am_g d X am_m1016 15 [v0, v1, v2] (.int y :: .int x :: sk) st Q = am_g d X am_m1016 16 [v0, v1, v2] (.int (x ||| y) :: sk) st Q := am_gu.trans rfl
theorem u1016_16 {v0 : Value} {v1 : Value} {v2 : Value} : am_g d X am_m1016 16 [v0, v1, v2] sk st Q = am_xs 17 [v0, v1, v2] sk st (fun pc lc sk st => am_g d X am_m1016 pc lc sk st Q) := am_gu.trans rfl
theorem u1016_17 {v0 : Value} {v1 : Value} {v2 : Value} : am_g d X am_m1016 17 [v0, v1, v2] [] st Q = Q (.inl none) st := am_gu.trans rfl
set_option maxRecDepth 100000 in
theorem of_1017 : am_of 1017 = some am_m1017 := rfl
theorem c1017 {a0 a1 a2} {P : am_Q} : am_Ca X (d + 1) 1017 [.ref a0, .int a1, .ref a2] st P = am_g d X am_m1017 0 [.ref a0, .int a1, .ref a2, am_u] [] st P := am_cg of_1017 (by show 3 ≤ 4; decide)
theorem hd_1017 : am_hd am_m1017 = [] := rfl
theorem u1017_0 {v0 : Value} {v1 : Value} {v3 : Value} {x : Nat} : am_g d X am_m1017 0 [v0, v1, .ref x, v3] sk st Q = am_g d X am_m1017 1 [v0, v1, .ref x, v3] (.ref x :: sk) st Q := am_gu.trans rfl
theorem u1017_1 {v0 : Value} {v2 : Value} {v3 : Value} {x : Int32} : am_g d X am_m1017 1 [v0, .int x, v2, v3] sk st Q = am_g d X am_m1017 2 [v0, .int x, v2, v3] (.int x :: sk) st Q := am_gu.trans rfl
theorem u1017_2 {v0 : Value} {v1 : Value} {v2 : Value} {v3 : Value} : am_g d X am_m1017 2 [v0, v1, v2, v3] sk st Q = am_g d X am_m1017 3 [v0, v1, v2, v3] (.int (am_i 1) :: sk) st Q := am_gu.trans rfl
theorem u1017_3 {a0 : Value} {a1 : Value} {a2 : Value} {v0 : Value} {v1 : Value} {v2 : Value} {v3 : Value} : am_g d X am_m1017 3 [v0, v1, v2, v3] (a2 :: a1 :: a0 :: sk) st Q = (sk.length ≤ 4 ∧ am_Ca X d 1016 [a0, a1, a2] st (am_af am_m1017 3 [v0, v1, v2, v3] sk (fun pc lc sk st => am_g d X am_m1017 pc lc sk st Q) Q)) := am_gu.trans (propext ⟨fun h => ⟨h.1.2, h.2⟩, fun h => ⟨⟨Nat.le_add_left _ _, h.1⟩, h.2⟩⟩)
theorem u1017_6 {v0 : Value} {v2 : Value} {v3 : Value} {x : Int32} : am_g d X am_m1017 6 [v0, .int x, v2, v3] sk st Q = am_g d X am_m1017 7 [v0, .int x, v2, v3] (.int x :: sk) st Q := am_gu.trans rfl
theorem u1017_7 {v0 : Value} {v1 : Value} {v3 : Value} {x : Nat} : am_g d X am_m1017 7 [v0, v1, .ref x, v3] sk st Q = am_g d X am_m1017 8 [v0, v1, .ref x, v3] (.ref x :: sk) st Q := am_gu.trans rfl
theorem u1017_8 {v0 : Value} {v1 : Value} {v2 : Value} {v3 : Value} : am_g d X am_m1017 8 [v0, v1, v2, v3] sk st Q = am_al (X.1, X.2.1, d) am_m1017 9 [v0, v1, v2, v3] sk st (fun pc lc sk st => am_g d X am_m1017 pc lc sk st Q) := am_gu.trans rfl
theorem u1017_9 {v0 : Value} {v1 : Value} {v2 : Value} {v3 : Value} : am_g d X am_m1017 9 [v0, v1, v2, v3] sk st Q = am_g d X am_m1017 10 [v0, v1, v2, v3] (.int (am_i 1) :: sk) st Q := am_gu.trans rfl
theorem u1017_10 {v0 : Value} {v1 : Value} {v2 : Value} {v3 : Value} {x : Int32} {y : Int32} : am_g d X am_m1017 10 [v0, v1, v2, v3] (.int y :: .int x :: sk) st Q = am_g d X am_m1017 11 [v0, v1, v2, v3] (.int (x - y) :: sk) st Q := am_gu.trans rfl
theorem u1017_11 {v0 : Value} {v1 : Value} {v2 : Value} {v3 : Value} {x : Int32} {y : Int32} : am_g d X am_m1017 11 [v0, v1, v2, v3] (.int y :: .int x :: sk) st Q = (sk.length ≤ 4 ∧ am_g d X am_m1017 14 [v0, v1, v2, v3] (.int (if y < x then y else x) :: sk) st Q) := am_gu.trans rfl
theorem u1017_14 {v0 : Value} {v1 : Value} {v2 : Value} {v3 : Value} {x : Int32} : am_g d X am_m1017 14 [v0, v1, v2, v3] (.int x :: sk) st Q = am_g d X am_m1017 15 [v0, v1, am_kc v2, .int x] sk st Q := am_gu.trans (congrArg (fun l => am_g d X am_m1017 15 (List.set l 3 (.int x)) sk st Q) (kl_3 (l := [v3])))
theorem u1017_15 {v0 : Value} {v1 : Value} {v2 : Value} {x : Int32} : am_g d X am_m1017 15 [v0, v1, v2, .int x] sk st Q = am_g d X am_m1017 16 [v0, v1, v2, .int x] (.int x :: sk) st Q := am_gu.trans rfl
theorem u1017_16 {v0 : Value} {v1 : Value} {v2 : Value} {v3 : Value} {x : Int32} : am_g d X am_m1017 16 [v0, v1, v2, v3] (.int x :: sk) st Q = (if decide (x < 0) = true then am_g d X am_m1017 51 [v0, v1, v2, v3] sk st Q else am_g d X am_m1017 19 [v0, v1, v2, v3] sk st Q) := am_gu.trans rfl
theorem u1017_19 {v0 : Value} {v1 : Value} {v3 : Value} {x : Nat} : am_g d X am_m1017 19 [v0, v1, .ref x, v3] sk st Q = am_g d X am_m1017 20 [v0, v1, .ref x, v3] (.ref x :: sk) st Q := am_gu.trans rfl
theorem u1017_20 {v0 : Value} {v1 : Value} {v2 : Value} {x : Int32} : am_g d X am_m1017 20 [v0, v1, v2, .int x] sk st Q = am_g d X am_m1017 21 [v0, v1, v2, .int x] (.int x :: sk) st Q := am_gu.trans rfl
theorem u1017_21 {v0 : Value} {v1 : Value} {v2 : Value} {v3 : Value} : am_g d X am_m1017 21 [v0, v1, v2, v3] sk st Q = am_xl (X.1, X.2.1, d) am_m1017 22 [v0, v1, v2, v3] sk st (fun pc lc sk st => am_g d X am_m1017 pc lc sk st Q) := am_gu.trans rfl
theorem u1017_22 {v0 : Value} {v1 : Value} {v2 : Value} {v3 : Value} {x : Int32} : am_g d X am_m1017 22 [v0, v1, v2, v3] (.int x :: sk) st Q = (if decide (x = 0) = true then am_g d X am_m1017 45 [v0, v1, v2, v3] sk st Q else am_g d X am_m1017 25 [v0, v1, v2, v3] sk st Q) := am_gu.trans rfl
theorem u1017_25 {v0 : Value} {v1 : Value} {v3 : Value} {x : Nat} : am_g d X am_m1017 25 [v0, v1, .ref x, v3] sk st Q = am_g d X am_m1017 26 [v0, v1, .ref x, v3] (.ref x :: sk) st Q := am_gu.trans rfl
theorem u1017_26 {v1 : Value} {v2 : Value} {v3 : Value} {x : Nat} : am_g d X am_m1017 26 [.ref x, v1, v2, v3] sk st Q = am_g d X am_m1017 27 [.ref x, v1, v2, v3] (.ref x :: sk) st Q := am_gu.trans rfl
theorem u1017_27 {v0 : Value} {v1 : Value} {v2 : Value} {x : Int32} : am_g d X am_m1017 27 [v0, v1, v2, .int x] sk st Q = am_g d X am_m1017 28 [v0, v1, v2, .int x] (.int x :: sk) st Q := am_gu.trans rfl
theorem u1017_28 {a0 : Value} {v0 : Value} {v1 : Value} {v2 : Value} {v3 : Value} : am_g d X am_m1017 28 [v0, v1, v2, v3] (a0 :: .ref o :: sk) st Q = ((am_ob st o 5 ∧ sk.length ≤ 4) ∧ am_Ca X d 5005 [.ref o, a0] st (am_af am_m1017 28 [v0, v1, v2, v3] sk (fun pc lc sk st => am_g d X am_m1017 pc lc sk st Q) Q)) := am_gu.trans rfl
theorem u1017_31 {v0 : Value} {v1 : Value} {v2 : Value} {v3 : Value} : am_g d X am_m1017 31 [v0, v1, v2, v3] sk st Q = am_g d X am_m1017 32 [v0, v1, v2, v3] (.int (am_i 1) :: sk) st Q := am_gu.trans rfl
theorem u1017_32 {a0 : Value} {a1 : Value} {a2 : Value} {v0 : Value} {v1 : Value} {v2 : Value} {v3 : Value} : am_g d X am_m1017 32 [v0, v1, v2, v3] (a2 :: a1 :: a0 :: sk) st Q = (sk.length ≤ 4 ∧ am_Ca X d 1016 [a0, a1, a2] st (am_af am_m1017 32 [v0, v1, v2, v3] sk (fun pc lc sk st => am_g d X am_m1017 pc lc sk st Q) Q)) := am_gu.trans (propext ⟨fun h => ⟨h.1.2, h.2⟩, fun h => ⟨⟨Nat.le_add_left _ _, h.1⟩, h.2⟩⟩)
theorem u1017_35 {v0 : Value} {v1 : Value} {v3 : Value} {x : Nat} : am_g d X am_m1017 35 [v0, v1, .ref x, v3] sk st Q = am_g d X am_m1017 36 [v0, v1, .ref x, v3] (.ref x :: sk) st Q := am_gu.trans rfl
theorem u1017_36 {v1 : Value} {v2 : Value} {v3 : Value} {x : Nat} : am_g d X am_m1017 36 [.ref x, v1, v2, v3] sk st Q = am_g d X am_m1017 37 [.ref x, v1, v2, v3] (.ref x :: sk) st Q := am_gu.trans rfl
theorem u1017_37 {v0 : Value} {v1 : Value} {v2 : Value} {x : Int32} : am_g d X am_m1017 37 [v0, v1, v2, .int x] sk st Q = am_g d X am_m1017 38 [v0, v1, v2, .int x] (.int x :: sk) st Q := am_gu.trans rfl
theorem u1017_38 {a0 : Value} {v0 : Value} {v1 : Value} {v2 : Value} {v3 : Value} : am_g d X am_m1017 38 [v0, v1, v2, v3] (a0 :: .ref o :: sk) st Q = ((am_ob st o 5 ∧ sk.length ≤ 4) ∧ am_Ca X d 5006 [.ref o, a0] st (am_af am_m1017 38 [v0, v1, v2, v3] sk (fun pc lc sk st => am_g d X am_m1017 pc lc sk st Q) Q)) := am_gu.trans rfl
theorem u1017_41 {v0 : Value} {v1 : Value} {v2 : Value} {v3 : Value} : am_g d X am_m1017 41 [v0, v1, v2, v3] sk st Q = am_g d X am_m1017 42 [v0, v1, v2, v3] (.int (am_i 1) :: sk) st Q := am_gu.trans rfl
theorem u1017_42 {a0 : Value} {a1 : Value} {a2 : Value} {v0 : Value} {v1 : Value} {v2 : Value} {v3 : Value} : am_g d X am_m1017 42 [v0, v1, v2, v3] (a2 :: a1 :: a0 :: sk) st Q = (sk.length ≤ 4 ∧ am_Ca X d 1016 [a0, a1, a2] st (am_af am_m1017 42 [v0, v1, v2, v3] sk (fun pc lc sk st => am_g d X am_m1017 pc lc sk st Q) Q)) := am_gu.trans (propext ⟨fun h => ⟨h.1.2, h.2⟩, fun h => ⟨⟨Nat.le_add_left _ _, h.1⟩, h.2⟩⟩)
theorem u1017_45 {v0 : Value} {v1 : Value} {v2 : Value} {x : Int32} : am_g d X am_m1017 45 [v0, v1, v2, .int x] sk st Q = am_g d X am_m1017 48 [v0, v1, am_kc v2, .int (x + am_i (-1))] sk st Q := am_gu.trans (congrArg (fun l => am_g d X am_m1017 48 (List.set l 3 (.int (x + am_i (-1)))) sk st Q) (kl_3 (l := [.int x])))
theorem u1017_48 {v0 : Value} {v1 : Value} {v2 : Value} {v3 : Value} : am_g d X am_m1017 48 [v0, v1, v2, v3] sk st Q = am_g d X am_m1017 15 [v0, v1, v2, v3] sk st Q := am_gu.trans rfl
theorem u1017_51 {v0 : Value} {v1 : Value} {v2 : Value} {v3 : Value} : am_g d X am_m1017 51 [v0, v1, v2, v3] [] st Q = Q (.inl none) st := am_gu.trans rfl
set_option maxRecDepth 100000 in
theorem of_2001 : am_of 2001 = some am_m2001 := rfl
theorem c2001 {z} {P : am_Q} : am_Ca X (d + 1) 2001 [.ref z] st P = am_g d X am_m2001 0 [.ref z] [] st P := am_cg of_2001 (by show 1 ≤ 1; decide)
theorem hd_2001 : am_hd am_m2001 = [] := rfl
theorem u2001_0 {x : Nat} : am_g d X am_m2001 0 [.ref x] sk st Q = am_g d X am_m2001 1 [.ref x] (.ref x :: sk) st Q := am_gu.trans rfl
theorem u2001_1 {v0 : Value} : am_g d X am_m2001 1 [v0] (.ref o :: sk) st Q = (sk.length ≤ 4 ∧ am_g d X am_m2001 4 [v0] sk st Q) := am_gu.trans rfl
theorem u2001_4 {x : Nat} : am_g d X am_m2001 4 [.ref x] sk st Q = am_g d X am_m2001 5 [.ref x] (.ref x :: sk) st Q := am_gu.trans rfl
theorem u2001_5 {v0 : Value} : am_g d X am_m2001 5 [v0] sk st Q = am_g d X am_m2001 7 [v0] (.int (am_i 60) :: sk) st Q := am_gu.trans rfl
theorem u2001_7 {v0 : Value} : am_g d X am_m2001 7 [v0] sk st Q = am_na 1 none 9 [v0] sk st (fun pc lc sk st => am_g d X am_m2001 pc lc sk st Q) := am_gu.trans rfl
theorem u2001_9 {v0 : Value} : am_g d X am_m2001 9 [v0] sk st Q = am_pt 64 12 [v0] sk st (fun pc lc sk st => am_g d X am_m2001 pc lc sk st Q) := am_gu.trans rfl
theorem u2001_12 {x : Nat} : am_g d X am_m2001 12 [.ref x] sk st Q = am_g d X am_m2001 13 [.ref x] (.ref x :: sk) st Q := am_gu.trans rfl
theorem u2001_13 {v0 : Value} : am_g d X am_m2001 13 [v0] sk st Q = am_g d X am_m2001 14 [v0] (.int (am_i 0) :: sk) st Q := am_gu.trans rfl
theorem u2001_14 {v0 : Value} : am_g d X am_m2001 14 [v0] sk st Q = am_pt 65 17 [v0] sk st (fun pc lc sk st => am_g d X am_m2001 pc lc sk st Q) := am_gu.trans rfl
theorem u2001_17 {v0 : Value} : am_g d X am_m2001 17 [v0] [] st Q = Q (.inl none) st := am_gu.trans rfl
set_option maxRecDepth 100000 in
theorem of_2002 : am_of 2002 = some am_m2002 := rfl
theorem c2002 {z} {P : am_Q} : am_Ca X (d + 1) 2002 [.ref z] st P = am_g d X am_m2002 0 [.ref z] [] st P := am_cg of_2002 (by show 1 ≤ 1; decide)
theorem hd_2002 : am_hd am_m2002 = [] := rfl
theorem u2002_0 {x : Nat} : am_g d X am_m2002 0 [.ref x] sk st Q = am_g d X am_m2002 1 [.ref x] (.ref x :: sk) st Q := am_gu.trans rfl
theorem u2002_1 {v0 : Value} : am_g d X am_m2002 1 [v0] sk st Q = am_gt 65 4 [v0] sk st (fun pc lc sk st => am_g d X am_m2002 pc lc sk st Q) := am_gu.trans rfl
theorem u2002_4 {v0 : Value} {x : Int32} : am_g d X am_m2002 4 [v0] [.int x] st Q = Q (.inl (some (.int x))) st := am_gu.trans rfl
set_option maxRecDepth 100000 in
theorem of_2003 : am_of 2003 = some am_m2003 := rfl
theorem c2003 {z} {P : am_Q} : am_Ca X (d + 1) 2003 [.ref z] st P = am_g d X am_m2003 0 [.ref z] [] st P := am_cg of_2003 (by show 1 ≤ 1; decide)
theorem hd_2003 : am_hd am_m2003 = [] := rfl
theorem u2003_0 {x : Nat} : am_g d X am_m2003 0 [.ref x] sk st Q = am_g d X am_m2003 1 [.ref x] (.ref x :: sk) st Q := am_gu.trans rfl
theorem u2003_1 {v0 : Value} : am_g d X am_m2003 1 [v0] sk st Q = am_gt 65 4 [v0] sk st (fun pc lc sk st => am_g d X am_m2003 pc lc sk st Q) := am_gu.trans rfl
theorem u2003_4 {v0 : Value} : am_g d X am_m2003 4 [v0] sk st Q = am_g d X am_m2003 6 [v0] (.int (am_i 60) :: sk) st Q := am_gu.trans rfl
theorem u2003_6 {v0 : Value} {x : Int32} {y : Int32} : am_g d X am_m2003 6 [v0] (.int y :: .int x :: sk) st Q = (if decide (x < y) = true then am_g d X am_m2003 13 [v0] sk st Q else am_g d X am_m2003 9 [v0] sk st Q) := am_gu.trans rfl
theorem u2003_9 {v0 : Value} : am_g d X am_m2003 9 [v0] sk st Q = am_g d X am_m2003 10 [v0] (.int (am_i 1) :: sk) st Q := am_gu.trans rfl
theorem u2003_10 {v0 : Value} : am_g d X am_m2003 10 [v0] sk st Q = am_g d X am_m2003 14 [v0] sk st Q := am_gu.trans rfl
theorem u2003_13 {v0 : Value} : am_g d X am_m2003 13 [v0] sk st Q = am_g d X am_m2003 14 [v0] (.int (am_i 0) :: sk) st Q := am_gu.trans rfl
theorem u2003_14 {v0 : Value} {x : Int32} : am_g d X am_m2003 14 [v0] [.int x] st Q = ((x = 0 ∨ x = 1) ∧ Q (.inl (some (.int x))) st) := am_gu.trans rfl
set_option maxRecDepth 100000 in
theorem of_2004 : am_of 2004 = some am_m2004 := rfl
theorem c2004 {z a0} {P : am_Q} : am_Ca X (d + 1) 2004 [.ref z, .int a0] st P = am_g d X am_m2004 0 [.ref z, .int a0] [] st P := am_cg of_2004 (by show 2 ≤ 2; decide)
theorem hd_2004 : am_hd am_m2004 = [] := rfl
theorem u2004_0 {v1 : Value} {x : Nat} : am_g d X am_m2004 0 [.ref x, v1] sk st Q = am_g d X am_m2004 1 [.ref x, v1] (.ref x :: sk) st Q := am_gu.trans rfl
theorem u2004_1 {v0 : Value} {v1 : Value} : am_g d X am_m2004 1 [v0, v1] sk st Q = am_gt 65 4 [v0, v1] sk st (fun pc lc sk st => am_g d X am_m2004 pc lc sk st Q) := am_gu.trans rfl
theorem u2004_4 {v0 : Value} {v1 : Value} : am_g d X am_m2004 4 [v0, v1] sk st Q = am_g d X am_m2004 6 [v0, v1] (.int (am_i 60) :: sk) st Q := am_gu.trans rfl
theorem u2004_6 {v0 : Value} {v1 : Value} {x : Int32} {y : Int32} : am_g d X am_m2004 6 [v0, v1] (.int y :: .int x :: sk) st Q = (if decide (y ≤ x) = true then am_g d X am_m2004 29 [v0, v1] sk st Q else am_g d X am_m2004 9 [v0, v1] sk st Q) := am_gu.trans rfl
theorem u2004_9 {v1 : Value} {x : Nat} : am_g d X am_m2004 9 [.ref x, v1] sk st Q = am_g d X am_m2004 10 [.ref x, v1] (.ref x :: sk) st Q := am_gu.trans rfl
theorem u2004_10 {v0 : Value} {v1 : Value} : am_g d X am_m2004 10 [v0, v1] sk st Q = am_gt 64 13 [v0, v1] sk st (fun pc lc sk st => am_g d X am_m2004 pc lc sk st Q) := am_gu.trans rfl
theorem u2004_13 {v1 : Value} {x : Nat} : am_g d X am_m2004 13 [.ref x, v1] sk st Q = am_g d X am_m2004 14 [.ref x, v1] (.ref x :: sk) st Q := am_gu.trans rfl
theorem u2004_14 {v0 : Value} {v1 : Value} : am_g d X am_m2004 14 [v0, v1] sk st Q = am_gt 65 17 [v0, v1] sk st (fun pc lc sk st => am_g d X am_m2004 pc lc sk st Q) := am_gu.trans rfl
theorem u2004_17 {v0 : Value} {x : Int32} : am_g d X am_m2004 17 [v0, .int x] sk st Q = am_g d X am_m2004 18 [v0, .int x] (.int x :: sk) st Q := am_gu.trans rfl
theorem u2004_18 {v0 : Value} {v1 : Value} : am_g d X am_m2004 18 [v0, v1] sk st Q = am_xs 19 [v0, v1] sk st (fun pc lc sk st => am_g d X am_m2004 pc lc sk st Q) := am_gu.trans rfl
theorem u2004_19 {v1 : Value} {x : Nat} : am_g d X am_m2004 19 [.ref x, v1] sk st Q = am_g d X am_m2004 20 [.ref x, v1] (.ref x :: sk) st Q := am_gu.trans rfl
theorem u2004_20i {v0 : Value} {v1 : Value} {x : Int32} : am_g d X am_m2004 20 [v0, v1] (.int x :: sk) st Q = am_g d X am_m2004 21 [v0, v1] (.int x :: .int x :: sk) st Q := am_gu.trans rfl
theorem u2004_20r {v0 : Value} {v1 : Value} {x : Nat} : am_g d X am_m2004 20 [v0, v1] (.ref x :: sk) st Q = am_g d X am_m2004 21 [v0, v1] (.ref x :: .ref x :: sk) st Q := am_gu.trans rfl
theorem u2004_21 {v0 : Value} {v1 : Value} : am_g d X am_m2004 21 [v0, v1] sk st Q = am_gt 65 24 [v0, v1] sk st (fun pc lc sk st => am_g d X am_m2004 pc lc sk st Q) := am_gu.trans rfl
theorem u2004_24 {v0 : Value} {v1 : Value} : am_g d X am_m2004 24 [v0, v1] sk st Q = am_g d X am_m2004 25 [v0, v1] (.int (am_i 1) :: sk) st Q := am_gu.trans rfl
theorem u2004_25 {v0 : Value} {v1 : Value} {x : Int32} {y : Int32} : am_g d X am_m2004 25 [v0, v1] (.int y :: .int x :: sk) st Q = am_g d X am_m2004 26 [v0, v1] (.int (x + y) :: sk) st Q := am_gu.trans rfl
theorem u2004_26 {v0 : Value} {v1 : Value} : am_g d X am_m2004 26 [v0, v1] sk st Q = am_pt 65 29 [v0, v1] sk st (fun pc lc sk st => am_g d X am_m2004 pc lc sk st Q) := am_gu.trans rfl
theorem u2004_29 {v1 : Value} {x : Nat} : am_g d X am_m2004 29 [.ref x, v1] sk st Q = am_g d X am_m2004 30 [.ref x, v1] (.ref x :: sk) st Q := am_gu.trans rfl
theorem u2004_30 {v0 : Value} {v1 : Value} : am_g d X am_m2004 30 [v0, v1] sk st Q = am_gt 65 33 [v0, v1] sk st (fun pc lc sk st => am_g d X am_m2004 pc lc sk st Q) := am_gu.trans rfl
theorem u2004_33 {v0 : Value} {v1 : Value} {x : Int32} : am_g d X am_m2004 33 [v0, v1] [.int x] st Q = Q (.inl (some (.int x))) st := am_gu.trans rfl
set_option maxRecDepth 100000 in
theorem of_2005 : am_of 2005 = some am_m2005 := rfl
theorem c2005 {z} {P : am_Q} : am_Ca X (d + 1) 2005 [.ref z] st P = am_g d X am_m2005 0 [.ref z, am_u] [] st P := am_cg of_2005 (by show 1 ≤ 2; decide)
theorem hd_2005 : am_hd am_m2005 = [] := rfl
theorem u2005_0 {v1 : Value} {x : Nat} : am_g d X am_m2005 0 [.ref x, v1] sk st Q = am_g d X am_m2005 1 [.ref x, v1] (.ref x :: sk) st Q := am_gu.trans rfl
theorem u2005_1 {v0 : Value} {v1 : Value} : am_g d X am_m2005 1 [v0, v1] sk st Q = am_gt 65 4 [v0, v1] sk st (fun pc lc sk st => am_g d X am_m2005 pc lc sk st Q) := am_gu.trans rfl
theorem u2005_4 {v0 : Value} {v1 : Value} {x : Int32} : am_g d X am_m2005 4 [v0, v1] (.int x :: sk) st Q = am_g d X am_m2005 5 [am_kc v0, .int x] sk st Q := am_gu.trans (congrArg (fun l => am_g d X am_m2005 5 (List.set l 1 (.int x)) sk st Q) (kl_1 (l := [v1])))
theorem u2005_5 {v1 : Value} {x : Nat} : am_g d X am_m2005 5 [.ref x, v1] sk st Q = am_g d X am_m2005 6 [.ref x, v1] (.ref x :: sk) st Q := am_gu.trans rfl
theorem u2005_6 {v0 : Value} {v1 : Value} : am_g d X am_m2005 6 [v0, v1] sk st Q = am_g d X am_m2005 7 [v0, v1] (.int (am_i 0) :: sk) st Q := am_gu.trans rfl
theorem u2005_7 {v0 : Value} {v1 : Value} : am_g d X am_m2005 7 [v0, v1] sk st Q = am_pt 65 10 [v0, v1] sk st (fun pc lc sk st => am_g d X am_m2005 pc lc sk st Q) := am_gu.trans rfl
theorem u2005_10 {v0 : Value} {x : Int32} : am_g d X am_m2005 10 [v0, .int x] sk st Q = am_g d X am_m2005 11 [v0, .int x] (.int x :: sk) st Q := am_gu.trans rfl
theorem u2005_11 {v0 : Value} {v1 : Value} {x : Int32} : am_g d X am_m2005 11 [v0, v1] [.int x] st Q = Q (.inl (some (.int x))) st := am_gu.trans rfl
set_option maxRecDepth 100000 in
theorem of_2006 : am_of 2006 = some am_m2006 := rfl
theorem c2006 {z a0} {P : am_Q} : am_Ca X (d + 1) 2006 [.ref z, .int a0] st P = am_g d X am_m2006 0 [.ref z, .int a0] [] st P := am_cg of_2006 (by show 2 ≤ 2; decide)
theorem hd_2006 : am_hd am_m2006 = [] := rfl
theorem u2006_0 {v0 : Value} {x : Int32} : am_g d X am_m2006 0 [v0, .int x] sk st Q = am_g d X am_m2006 1 [v0, .int x] (.int x :: sk) st Q := am_gu.trans rfl
theorem u2006_1 {v0 : Value} {v1 : Value} {x : Int32} : am_g d X am_m2006 1 [v0, v1] (.int x :: sk) st Q = (if decide (x < 0) = true then am_g d X am_m2006 27 [v0, v1] sk st Q else am_g d X am_m2006 4 [v0, v1] sk st Q) := am_gu.trans rfl
theorem u2006_4 {v0 : Value} {x : Int32} : am_g d X am_m2006 4 [v0, .int x] sk st Q = am_g d X am_m2006 5 [v0, .int x] (.int x :: sk) st Q := am_gu.trans rfl
theorem u2006_5 {v1 : Value} {x : Nat} : am_g d X am_m2006 5 [.ref x, v1] sk st Q = am_g d X am_m2006 6 [.ref x, v1] (.ref x :: sk) st Q := am_gu.trans rfl
theorem u2006_6 {v0 : Value} {v1 : Value} : am_g d X am_m2006 6 [v0, v1] sk st Q = am_gt 65 9 [v0, v1] sk st (fun pc lc sk st => am_g d X am_m2006 pc lc sk st Q) := am_gu.trans rfl
theorem u2006_9 {v0 : Value} {v1 : Value} {x : Int32} {y : Int32} : am_g d X am_m2006 9 [v0, v1] (.int y :: .int x :: sk) st Q = (if decide (y ≤ x) = true then am_g d X am_m2006 27 [v0, v1] sk st Q else am_g d X am_m2006 12 [v0, v1] sk st Q) := am_gu.trans rfl
theorem u2006_12 {v0 : Value} {x : Int32} : am_g d X am_m2006 12 [v0, .int x] sk st Q = am_g d X am_m2006 13 [v0, .int x] (.int x :: sk) st Q := am_gu.trans rfl
theorem u2006_13 {v0 : Value} {v1 : Value} : am_g d X am_m2006 13 [v0, v1] sk st Q = am_g d X am_m2006 15 [v0, v1] (.int (am_i 60) :: sk) st Q := am_gu.trans rfl
theorem u2006_15 {v0 : Value} {v1 : Value} {x : Int32} {y : Int32} : am_g d X am_m2006 15 [v0, v1] (.int y :: .int x :: sk) st Q = (if decide (y ≤ x) = true then am_g d X am_m2006 27 [v0, v1] sk st Q else am_g d X am_m2006 18 [v0, v1] sk st Q) := am_gu.trans rfl
theorem u2006_18 {v1 : Value} {x : Nat} : am_g d X am_m2006 18 [.ref x, v1] sk st Q = am_g d X am_m2006 19 [.ref x, v1] (.ref x :: sk) st Q := am_gu.trans rfl
theorem u2006_19 {v0 : Value} {v1 : Value} : am_g d X am_m2006 19 [v0, v1] sk st Q = am_gt 64 22 [v0, v1] sk st (fun pc lc sk st => am_g d X am_m2006 pc lc sk st Q) := am_gu.trans rfl
theorem u2006_22 {v0 : Value} {x : Int32} : am_g d X am_m2006 22 [v0, .int x] sk st Q = am_g d X am_m2006 23 [v0, .int x] (.int x :: sk) st Q := am_gu.trans rfl
theorem u2006_23 {v0 : Value} {v1 : Value} : am_g d X am_m2006 23 [v0, v1] sk st Q = am_xl (X.1, X.2.1, d) am_m2006 24 [v0, v1] sk st (fun pc lc sk st => am_g d X am_m2006 pc lc sk st Q) := am_gu.trans rfl
theorem u2006_24 {v0 : Value} {v1 : Value} : am_g d X am_m2006 24 [v0, v1] sk st Q = am_g d X am_m2006 29 [v0, v1] sk st Q := am_gu.trans rfl
theorem u2006_27 {v0 : Value} {v1 : Value} : am_g d X am_m2006 27 [v0, v1] sk st Q = am_g d X am_m2006 29 [v0, v1] (.int (am_i 59) :: sk) st Q := am_gu.trans rfl
theorem u2006_29 {v0 : Value} {v1 : Value} {x : Int32} : am_g d X am_m2006 29 [v0, v1] [.int x] st Q = Q (.inl (some (.int x))) st := am_gu.trans rfl
set_option maxRecDepth 100000 in
theorem of_2007 : am_of 2007 = some am_m2007 := rfl
theorem c2007 {z} {P : am_Q} : am_Ca X (d + 1) 2007 [.ref z] st P = am_g d X am_m2007 0 [.ref z, am_u, am_u] [] st P := am_cg of_2007 (by show 1 ≤ 3; decide)
theorem hd_2007 : am_hd am_m2007 = [] := rfl
theorem u2007_0 {v0 : Value} {v1 : Value} {v2 : Value} : am_g d X am_m2007 0 [v0, v1, v2] sk st Q = am_g d X am_m2007 1 [v0, v1, v2] (.int (am_i 0) :: sk) st Q := am_gu.trans rfl
theorem u2007_1 {v0 : Value} {v1 : Value} {v2 : Value} {x : Int32} : am_g d X am_m2007 1 [v0, v1, v2] (.int x :: sk) st Q = am_g d X am_m2007 2 [am_kc v0, .int x, v2] sk st Q := am_gu.trans (congrArg (fun l => am_g d X am_m2007 2 (List.set l 1 (.int x)) sk st Q) (kl_1 (l := [v1, v2])))
theorem u2007_2 {v0 : Value} {v1 : Value} {v2 : Value} : am_g d X am_m2007 2 [v0, v1, v2] sk st Q = am_g d X am_m2007 3 [v0, v1, v2] (.int (am_i 0) :: sk) st Q := am_gu.trans rfl
theorem u2007_3 {v0 : Value} {v1 : Value} {v2 : Value} {x : Int32} : am_g d X am_m2007 3 [v0, v1, v2] (.int x :: sk) st Q = am_g d X am_m2007 4 [v0, am_kc v1, .int x] sk st Q := am_gu.trans (congrArg (fun l => am_g d X am_m2007 4 (List.set l 2 (.int x)) sk st Q) (kl_2 (l := [v2])))
theorem u2007_4 {v0 : Value} {v1 : Value} {x : Int32} : am_g d X am_m2007 4 [v0, v1, .int x] sk st Q = am_g d X am_m2007 5 [v0, v1, .int x] (.int x :: sk) st Q := am_gu.trans rfl
theorem u2007_5 {v1 : Value} {v2 : Value} {x : Nat} : am_g d X am_m2007 5 [.ref x, v1, v2] sk st Q = am_g d X am_m2007 6 [.ref x, v1, v2] (.ref x :: sk) st Q := am_gu.trans rfl
theorem u2007_6 {v0 : Value} {v1 : Value} {v2 : Value} : am_g d X am_m2007 6 [v0, v1, v2] sk st Q = am_gt 65 9 [v0, v1, v2] sk st (fun pc lc sk st => am_g d X am_m2007 pc lc sk st Q) := am_gu.trans rfl
theorem u2007_9 {v0 : Value} {v1 : Value} {v2 : Value} {x : Int32} {y : Int32} : am_g d X am_m2007 9 [v0, v1, v2] (.int y :: .int x :: sk) st Q = (if decide (y ≤ x) = true then am_g d X am_m2007 36 [v0, v1, v2] sk st Q else am_g d X am_m2007 12 [v0, v1, v2] sk st Q) := am_gu.trans rfl
theorem u2007_12 {v0 : Value} {v2 : Value} {x : Int32} : am_g d X am_m2007 12 [v0, .int x, v2] sk st Q = am_g d X am_m2007 13 [v0, .int x, v2] (.int x :: sk) st Q := am_gu.trans rfl
theorem u2007_13 {v1 : Value} {v2 : Value} {x : Nat} : am_g d X am_m2007 13 [.ref x, v1, v2] sk st Q = am_g d X am_m2007 14 [.ref x, v1, v2] (.ref x :: sk) st Q := am_gu.trans rfl
theorem u2007_14 {v0 : Value} {v1 : Value} {x : Int32} : am_g d X am_m2007 14 [v0, v1, .int x] sk st Q = am_g d X am_m2007 15 [v0, v1, .int x] (.int x :: sk) st Q := am_gu.trans rfl
theorem u2007_15 {a0 : Value} {v0 : Value} {v1 : Value} {v2 : Value} : am_g d X am_m2007 15 [v0, v1, v2] (a0 :: .ref o :: sk) st Q = ((am_ob st o 2 ∧ sk.length ≤ 4) ∧ am_Ca X d 2006 [.ref o, a0] st (am_af am_m2007 15 [v0, v1, v2] sk (fun pc lc sk st => am_g d X am_m2007 pc lc sk st Q) Q)) := am_gu.trans rfl
theorem u2007_18 {a0 : Value} {a1 : Value} {v0 : Value} {v1 : Value} {v2 : Value} : am_g d X am_m2007 18 [v0, v1, v2] (a1 :: a0 :: sk) st Q = (sk.length ≤ 4 ∧ am_Ca X d 2011 [a0, a1] st (am_af am_m2007 18 [v0, v1, v2] sk (fun pc lc sk st => am_g d X am_m2007 pc lc sk st Q) Q)) := am_gu.trans (propext ⟨fun h => ⟨h.1.2, h.2⟩, fun h => ⟨⟨Nat.le_add_left _ _, h.1⟩, h.2⟩⟩)
theorem u2007_21 {v0 : Value} {v1 : Value} {v2 : Value} {x : Int32} : am_g d X am_m2007 21 [v0, v1, v2] (.int x :: sk) st Q = am_g d X am_m2007 22 [am_kc v0, .int x, v2] sk st Q := am_gu.trans (congrArg (fun l => am_g d X am_m2007 22 (List.set l 1 (.int x)) sk st Q) (kl_1 (l := [v1, v2])))
theorem u2007_22 {v0 : Value} {v2 : Value} {x : Int32} : am_g d X am_m2007 22 [v0, .int x, v2] sk st Q = am_g d X am_m2007 23 [v0, .int x, v2] (.int x :: sk) st Q := am_gu.trans rfl
theorem u2007_23 {v0 : Value} {v1 : Value} {v2 : Value} : am_g d X am_m2007 23 [v0, v1, v2] sk st Q = am_g d X am_m2007 25 [v0, v1, v2] (.int (am_i 9) :: sk) st Q := am_gu.trans rfl
theorem u2007_25 {v0 : Value} {v1 : Value} {v2 : Value} {x : Int32} {y : Int32} : am_g d X am_m2007 25 [v0, v1, v2] (.int y :: .int x :: sk) st Q = (if decide (¬ x = y) = true then am_g d X am_m2007 30 [v0, v1, v2] sk st Q else am_g d X am_m2007 28 [v0, v1, v2] sk st Q) := am_gu.trans rfl
theorem u2007_28 {v0 : Value} {v1 : Value} {x : Int32} : am_g d X am_m2007 28 [v0, v1, .int x] sk st Q = am_g d X am_m2007 29 [v0, v1, .int x] (.int x :: sk) st Q := am_gu.trans rfl
theorem u2007_29 {v0 : Value} {v1 : Value} {v2 : Value} {x : Int32} : am_g d X am_m2007 29 [v0, v1, v2] [.int x] st Q = Q (.inl (some (.int x))) st := am_gu.trans rfl
theorem u2007_30 {v0 : Value} {v1 : Value} {x : Int32} : am_g d X am_m2007 30 [v0, v1, .int x] sk st Q = am_g d X am_m2007 33 [v0, am_kc v1, .int (x + am_i 1)] sk st Q := am_gu.trans (congrArg (fun l => am_g d X am_m2007 33 (List.set l 2 (.int (x + am_i 1))) sk st Q) (kl_2 (l := [.int x])))
theorem u2007_33 {v0 : Value} {v1 : Value} {v2 : Value} : am_g d X am_m2007 33 [v0, v1, v2] sk st Q = am_g d X am_m2007 4 [v0, v1, v2] sk st Q := am_gu.trans rfl
theorem u2007_36 {v0 : Value} {v2 : Value} {x : Int32} : am_g d X am_m2007 36 [v0, .int x, v2] sk st Q = am_g d X am_m2007 37 [v0, .int x, v2] (.int x :: sk) st Q := am_gu.trans rfl
theorem u2007_37 {v0 : Value} {v1 : Value} {v2 : Value} {x : Int32} : am_g d X am_m2007 37 [v0, v1, v2] (.int x :: sk) st Q = (if decide (¬ x = 0) = true then am_g d X am_m2007 44 [v0, v1, v2] sk st Q else am_g d X am_m2007 40 [v0, v1, v2] sk st Q) := am_gu.trans rfl
theorem u2007_40 {v0 : Value} {v1 : Value} {v2 : Value} : am_g d X am_m2007 40 [v0, v1, v2] sk st Q = am_g d X am_m2007 41 [v0, v1, v2] (.int (am_i (-1)) :: sk) st Q := am_gu.trans rfl
theorem u2007_41 {v0 : Value} {v1 : Value} {v2 : Value} : am_g d X am_m2007 41 [v0, v1, v2] sk st Q = am_g d X am_m2007 48 [v0, v1, v2] sk st Q := am_gu.trans rfl
theorem u2007_44 {v1 : Value} {v2 : Value} {x : Nat} : am_g d X am_m2007 44 [.ref x, v1, v2] sk st Q = am_g d X am_m2007 45 [.ref x, v1, v2] (.ref x :: sk) st Q := am_gu.trans rfl
theorem u2007_45 {v0 : Value} {v1 : Value} {v2 : Value} : am_g d X am_m2007 45 [v0, v1, v2] sk st Q = am_gt 65 48 [v0, v1, v2] sk st (fun pc lc sk st => am_g d X am_m2007 pc lc sk st Q) := am_gu.trans rfl
theorem u2007_48 {v0 : Value} {v1 : Value} {v2 : Value} {x : Int32} : am_g d X am_m2007 48 [v0, v1, v2] [.int x] st Q = Q (.inl (some (.int x))) st := am_gu.trans rfl
set_option maxRecDepth 100000 in
theorem of_2008 : am_of 2008 = some am_m2008 := rfl
theorem c2008 {z a0} {P : am_Q} : am_Ca X (d + 1) 2008 [.ref z, .int a0] st P = am_g d X am_m2008 0 [.ref z, .int a0, am_u] [] st P := am_cg of_2008 (by show 2 ≤ 3; decide)
theorem hd_2008 : am_hd am_m2008 = [] := rfl
theorem u2008_0 {v0 : Value} {v2 : Value} {x : Int32} : am_g d X am_m2008 0 [v0, .int x, v2] sk st Q = am_g d X am_m2008 1 [v0, .int x, v2] (.int x :: sk) st Q := am_gu.trans rfl
theorem u2008_1 {v0 : Value} {v1 : Value} {v2 : Value} {x : Int32} : am_g d X am_m2008 1 [v0, v1, v2] (.int x :: sk) st Q = am_g d X am_m2008 2 [v0, am_kc v1, .int x] sk st Q := am_gu.trans (congrArg (fun l => am_g d X am_m2008 2 (List.set l 2 (.int x)) sk st Q) (kl_2 (l := [v2])))
theorem u2008_2 {v0 : Value} {v1 : Value} {x : Int32} : am_g d X am_m2008 2 [v0, v1, .int x] sk st Q = am_g d X am_m2008 3 [v0, v1, .int x] (.int x :: sk) st Q := am_gu.trans rfl
theorem u2008_3 {v1 : Value} {v2 : Value} {x : Nat} : am_g d X am_m2008 3 [.ref x, v1, v2] sk st Q = am_g d X am_m2008 4 [.ref x, v1, v2] (.ref x :: sk) st Q := am_gu.trans rfl
theorem u2008_4 {v0 : Value} {v1 : Value} {v2 : Value} : am_g d X am_m2008 4 [v0, v1, v2] sk st Q = am_gt 65 7 [v0, v1, v2] sk st (fun pc lc sk st => am_g d X am_m2008 pc lc sk st Q) := am_gu.trans rfl
theorem u2008_7 {v0 : Value} {v1 : Value} {v2 : Value} {x : Int32} {y : Int32} : am_g d X am_m2008 7 [v0, v1, v2] (.int y :: .int x :: sk) st Q = (if decide (y ≤ x) = true then am_g d X am_m2008 26 [v0, v1, v2] sk st Q else am_g d X am_m2008 10 [v0, v1, v2] sk st Q) := am_gu.trans rfl
theorem u2008_10 {v1 : Value} {v2 : Value} {x : Nat} : am_g d X am_m2008 10 [.ref x, v1, v2] sk st Q = am_g d X am_m2008 11 [.ref x, v1, v2] (.ref x :: sk) st Q := am_gu.trans rfl
theorem u2008_11 {v0 : Value} {v1 : Value} {x : Int32} : am_g d X am_m2008 11 [v0, v1, .int x] sk st Q = am_g d X am_m2008 12 [v0, v1, .int x] (.int x :: sk) st Q := am_gu.trans rfl
theorem u2008_12 {a0 : Value} {v0 : Value} {v1 : Value} {v2 : Value} : am_g d X am_m2008 12 [v0, v1, v2] (a0 :: .ref o :: sk) st Q = ((am_ob st o 2 ∧ sk.length ≤ 4) ∧ am_Ca X d 2006 [.ref o, a0] st (am_af am_m2008 12 [v0, v1, v2] sk (fun pc lc sk st => am_g d X am_m2008 pc lc sk st Q) Q)) := am_gu.trans rfl
theorem u2008_15 {v0 : Value} {v1 : Value} {v2 : Value} : am_g d X am_m2008 15 [v0, v1, v2] sk st Q = am_g d X am_m2008 17 [v0, v1, v2] (.int (am_i 59) :: sk) st Q := am_gu.trans rfl
theorem u2008_17 {v0 : Value} {v1 : Value} {v2 : Value} {x : Int32} {y : Int32} : am_g d X am_m2008 17 [v0, v1, v2] (.int y :: .int x :: sk) st Q = (if decide (x = y) = true then am_g d X am_m2008 26 [v0, v1, v2] sk st Q else am_g d X am_m2008 20 [v0, v1, v2] sk st Q) := am_gu.trans rfl
theorem u2008_20 {v0 : Value} {v1 : Value} {x : Int32} : am_g d X am_m2008 20 [v0, v1, .int x] sk st Q = am_g d X am_m2008 23 [v0, am_kc v1, .int (x + am_i 1)] sk st Q := am_gu.trans (congrArg (fun l => am_g d X am_m2008 23 (List.set l 2 (.int (x + am_i 1))) sk st Q) (kl_2 (l := [.int x])))
theorem u2008_23 {v0 : Value} {v1 : Value} {v2 : Value} : am_g d X am_m2008 23 [v0, v1, v2] sk st Q = am_g d X am_m2008 2 [v0, v1, v2] sk st Q := am_gu.trans rfl
theorem u2008_26 {v0 : Value} {v1 : Value} {x : Int32} : am_g d X am_m2008 26 [v0, v1, .int x] sk st Q = am_g d X am_m2008 27 [v0, v1, .int x] (.int x :: sk) st Q := am_gu.trans rfl
theorem u2008_27 {v0 : Value} {v1 : Value} {v2 : Value} {x : Int32} : am_g d X am_m2008 27 [v0, v1, v2] [.int x] st Q = Q (.inl (some (.int x))) st := am_gu.trans rfl
set_option maxRecDepth 100000 in
theorem of_2009 : am_of 2009 = some am_m2009 := rfl
theorem c2009 {z a0} {P : am_Q} : am_Ca X (d + 1) 2009 [.ref z, .int a0] st P = am_g d X am_m2009 0 [.ref z, .int a0, am_u, am_u] [] st P := am_cg of_2009 (by show 2 ≤ 4; decide)
theorem hd_2009 : am_hd am_m2009 = [] := rfl
theorem u2009_0 {v0 : Value} {v1 : Value} {v2 : Value} {v3 : Value} : am_g d X am_m2009 0 [v0, v1, v2, v3] sk st Q = am_g d X am_m2009 1 [v0, v1, v2, v3] (.int (am_i 0) :: sk) st Q := am_gu.trans rfl
theorem u2009_1 {v0 : Value} {v1 : Value} {v2 : Value} {v3 : Value} {x : Int32} : am_g d X am_m2009 1 [v0, v1, v2, v3] (.int x :: sk) st Q = am_g d X am_m2009 2 [v0, am_kc v1, .int x, v3] sk st Q := am_gu.trans (congrArg (fun l => am_g d X am_m2009 2 (List.set l 2 (.int x)) sk st Q) (kl_2 (l := [v2, v3])))
theorem u2009_2 {v0 : Value} {v2 : Value} {v3 : Value} {x : Int32} : am_g d X am_m2009 2 [v0, .int x, v2, v3] sk st Q = am_g d X am_m2009 3 [v0, .int x, v2, v3] (.int x :: sk) st Q := am_gu.trans rfl
theorem u2009_3 {v0 : Value} {v1 : Value} {v2 : Value} {v3 : Value} {x : Int32} : am_g d X am_m2009 3 [v0, v1, v2, v3] (.int x :: sk) st Q = am_g d X am_m2009 4 [v0, v1, am_kc v2, .int x] sk st Q := am_gu.trans (congrArg (fun l => am_g d X am_m2009 4 (List.set l 3 (.int x)) sk st Q) (kl_3 (l := [v3])))
theorem u2009_4 {v0 : Value} {v1 : Value} {v2 : Value} {x : Int32} : am_g d X am_m2009 4 [v0, v1, v2, .int x] sk st Q = am_g d X am_m2009 5 [v0, v1, v2, .int x] (.int x :: sk) st Q := am_gu.trans rfl
theorem u2009_5 {v0 : Value} {v2 : Value} {v3 : Value} {x : Int32} : am_g d X am_m2009 5 [v0, .int x, v2, v3] sk st Q = am_g d X am_m2009 6 [v0, .int x, v2, v3] (.int x :: sk) st Q := am_gu.trans rfl
theorem u2009_6 {v0 : Value} {v1 : Value} {v2 : Value} {v3 : Value} : am_g d X am_m2009 6 [v0, v1, v2, v3] sk st Q = am_g d X am_m2009 7 [v0, v1, v2, v3] (.int (am_i 2) :: sk) st Q := am_gu.trans rfl
theorem u2009_7 {v0 : Value} {v1 : Value} {v2 : Value} {v3 : Value} {x : Int32} {y : Int32} : am_g d X am_m2009 7 [v0, v1, v2, v3] (.int y :: .int x :: sk) st Q = am_g d X am_m2009 8 [v0, v1, v2, v3] (.int (x + y) :: sk) st Q := am_gu.trans rfl
theorem u2009_8 {v0 : Value} {v1 : Value} {v2 : Value} {v3 : Value} {x : Int32} {y : Int32} : am_g d X am_m2009 8 [v0, v1, v2, v3] (.int y :: .int x :: sk) st Q = (if decide (y ≤ x) = true then am_g d X am_m2009 46 [v0, v1, v2, v3] sk st Q else am_g d X am_m2009 11 [v0, v1, v2, v3] sk st Q) := am_gu.trans rfl
theorem u2009_11 {v1 : Value} {v2 : Value} {v3 : Value} {x : Nat} : am_g d X am_m2009 11 [.ref x, v1, v2, v3] sk st Q = am_g d X am_m2009 12 [.ref x, v1, v2, v3] (.ref x :: sk) st Q := am_gu.trans rfl
theorem u2009_12 {v0 : Value} {v1 : Value} {v2 : Value} {x : Int32} : am_g d X am_m2009 12 [v0, v1, v2, .int x] sk st Q = am_g d X am_m2009 13 [v0, v1, v2, .int x] (.int x :: sk) st Q := am_gu.trans rfl
theorem u2009_13 {a0 : Value} {v0 : Value} {v1 : Value} {v2 : Value} {v3 : Value} : am_g d X am_m2009 13 [v0, v1, v2, v3] (a0 :: .ref o :: sk) st Q = ((am_ob st o 2 ∧ sk.length ≤ 4) ∧ am_Ca X d 2006 [.ref o, a0] st (am_af am_m2009 13 [v0, v1, v2, v3] sk (fun pc lc sk st => am_g d X am_m2009 pc lc sk st Q) Q)) := am_gu.trans rfl
theorem u2009_16 {v0 : Value} {v1 : Value} {v2 : Value} {v3 : Value} : am_g d X am_m2009 16 [v0, v1, v2, v3] sk st Q = am_g d X am_m2009 18 [v0, v1, v2, v3] (.int (am_i 48) :: sk) st Q := am_gu.trans rfl
theorem u2009_18 {v0 : Value} {v1 : Value} {v2 : Value} {v3 : Value} : am_g d X am_m2009 18 [v0, v1, v2, v3] sk st Q = am_g d X am_m2009 20 [v0, v1, v2, v3] (.int (am_i 57) :: sk) st Q := am_gu.trans rfl
theorem u2009_20 {a0 : Value} {a1 : Value} {a2 : Value} {v0 : Value} {v1 : Value} {v2 : Value} {v3 : Value} : am_g d X am_m2009 20 [v0, v1, v2, v3] (a2 :: a1 :: a0 :: sk) st Q = (sk.length ≤ 4 ∧ am_Ca X d 2010 [a0, a1, a2] st (am_af am_m2009 20 [v0, v1, v2, v3] sk (fun pc lc sk st => am_g d X am_m2009 pc lc sk st Q) Q)) := am_gu.trans (propext ⟨fun h => ⟨h.1.2, h.2⟩, fun h => ⟨⟨Nat.le_add_left _ _, h.1⟩, h.2⟩⟩)
theorem u2009_23 {v0 : Value} {v1 : Value} {v2 : Value} {v3 : Value} {x : Int32} : am_g d X am_m2009 23 [v0, v1, v2, v3] (.int x :: sk) st Q = (if decide (x = 0) = true then am_g d X am_m2009 46 [v0, v1, v2, v3] sk st Q else am_g d X am_m2009 26 [v0, v1, v2, v3] sk st Q) := am_gu.trans rfl
theorem u2009_26 {v0 : Value} {v1 : Value} {v3 : Value} {x : Int32} : am_g d X am_m2009 26 [v0, v1, .int x, v3] sk st Q = am_g d X am_m2009 27 [v0, v1, .int x, v3] (.int x :: sk) st Q := am_gu.trans rfl
theorem u2009_27 {v0 : Value} {v1 : Value} {v2 : Value} {v3 : Value} : am_g d X am_m2009 27 [v0, v1, v2, v3] sk st Q = am_g d X am_m2009 29 [v0, v1, v2, v3] (.int (am_i 10) :: sk) st Q := am_gu.trans rfl
theorem u2009_29 {v0 : Value} {v1 : Value} {v2 : Value} {v3 : Value} {x : Int32} {y : Int32} : am_g d X am_m2009 29 [v0, v1, v2, v3] (.int y :: .int x :: sk) st Q = am_g d X am_m2009 30 [v0, v1, v2, v3] (.int (x * y) :: sk) st Q := am_gu.trans rfl
theorem u2009_30 {v1 : Value} {v2 : Value} {v3 : Value} {x : Nat} : am_g d X am_m2009 30 [.ref x, v1, v2, v3] sk st Q = am_g d X am_m2009 31 [.ref x, v1, v2, v3] (.ref x :: sk) st Q := am_gu.trans rfl
theorem u2009_31 {v0 : Value} {v1 : Value} {v2 : Value} {x : Int32} : am_g d X am_m2009 31 [v0, v1, v2, .int x] sk st Q = am_g d X am_m2009 32 [v0, v1, v2, .int x] (.int x :: sk) st Q := am_gu.trans rfl
theorem u2009_32 {a0 : Value} {v0 : Value} {v1 : Value} {v2 : Value} {v3 : Value} : am_g d X am_m2009 32 [v0, v1, v2, v3] (a0 :: .ref o :: sk) st Q = ((am_ob st o 2 ∧ sk.length ≤ 4) ∧ am_Ca X d 2006 [.ref o, a0] st (am_af am_m2009 32 [v0, v1, v2, v3] sk (fun pc lc sk st => am_g d X am_m2009 pc lc sk st Q) Q)) := am_gu.trans rfl
theorem u2009_35 {v0 : Value} {v1 : Value} {v2 : Value} {v3 : Value} : am_g d X am_m2009 35 [v0, v1, v2, v3] sk st Q = am_g d X am_m2009 37 [v0, v1, v2, v3] (.int (am_i 48) :: sk) st Q := am_gu.trans rfl
theorem u2009_37 {v0 : Value} {v1 : Value} {v2 : Value} {v3 : Value} {x : Int32} {y : Int32} : am_g d X am_m2009 37 [v0, v1, v2, v3] (.int y :: .int x :: sk) st Q = am_g d X am_m2009 38 [v0, v1, v2, v3] (.int (x - y) :: sk) st Q := am_gu.trans rfl
theorem u2009_38 {v0 : Value} {v1 : Value} {v2 : Value} {v3 : Value} {x : Int32} {y : Int32} : am_g d X am_m2009 38 [v0, v1, v2, v3] (.int y :: .int x :: sk) st Q = am_g d X am_m2009 39 [v0, v1, v2, v3] (.int (x + y) :: sk) st Q := am_gu.trans rfl
theorem u2009_39 {v0 : Value} {v1 : Value} {v2 : Value} {v3 : Value} {x : Int32} : am_g d X am_m2009 39 [v0, v1, v2, v3] (.int x :: sk) st Q = am_g d X am_m2009 40 [v0, am_kc v1, .int x, v3] sk st Q := am_gu.trans (congrArg (fun l => am_g d X am_m2009 40 (List.set l 2 (.int x)) sk st Q) (kl_2 (l := [v2, v3])))
theorem u2009_40 {v0 : Value} {v1 : Value} {v2 : Value} {x : Int32} : am_g d X am_m2009 40 [v0, v1, v2, .int x] sk st Q = am_g d X am_m2009 43 [v0, v1, am_kc v2, .int (x + am_i 1)] sk st Q := am_gu.trans (congrArg (fun l => am_g d X am_m2009 43 (List.set l 3 (.int (x + am_i 1))) sk st Q) (kl_3 (l := [.int x])))
theorem u2009_43 {v0 : Value} {v1 : Value} {v2 : Value} {v3 : Value} : am_g d X am_m2009 43 [v0, v1, v2, v3] sk st Q = am_g d X am_m2009 4 [v0, v1, v2, v3] sk st Q := am_gu.trans rfl
theorem u2009_46 {v0 : Value} {v1 : Value} {v3 : Value} {x : Int32} : am_g d X am_m2009 46 [v0, v1, .int x, v3] sk st Q = am_g d X am_m2009 47 [v0, v1, .int x, v3] (.int x :: sk) st Q := am_gu.trans rfl
theorem u2009_47 {v0 : Value} {v1 : Value} {v2 : Value} {v3 : Value} {x : Int32} : am_g d X am_m2009 47 [v0, v1, v2, v3] [.int x] st Q = Q (.inl (some (.int x))) st := am_gu.trans rfl
set_option maxRecDepth 100000 in
theorem of_2010 : am_of 2010 = some am_m2010 := rfl
theorem c2010 {a0 a1 a2} {P : am_Q} : am_Ca X (d + 1) 2010 [.int a0, .int a1, .int a2] st P = am_g d X am_m2010 0 [.int a0, .int a1, .int a2] [] st P := am_cg of_2010 (by show 3 ≤ 3; decide)
theorem hd_2010 : am_hd am_m2010 = [] := rfl
theorem u2010_0 {v1 : Value} {v2 : Value} {x : Int32} : am_g d X am_m2010 0 [.int x, v1, v2] sk st Q = am_g d X am_m2010 1 [.int x, v1, v2] (.int x :: sk) st Q := am_gu.trans rfl
theorem u2010_1 {v0 : Value} {v2 : Value} {x : Int32} : am_g d X am_m2010 1 [v0, .int x, v2] sk st Q = am_g d X am_m2010 2 [v0, .int x, v2] (.int x :: sk) st Q := am_gu.trans rfl
theorem u2010_2 {v0 : Value} {v1 : Value} {v2 : Value} {x : Int32} {y : Int32} : am_g d X am_m2010 2 [v0, v1, v2] (.int y :: .int x :: sk) st Q = (if decide (x < y) = true then am_g d X am_m2010 14 [v0, v1, v2] sk st Q else am_g d X am_m2010 5 [v0, v1, v2] sk st Q) := am_gu.trans rfl
theorem u2010_5 {v1 : Value} {v2 : Value} {x : Int32} : am_g d X am_m2010 5 [.int x, v1, v2] sk st Q = am_g d X am_m2010 6 [.int x, v1, v2] (.int x :: sk) st Q := am_gu.trans rfl
theorem u2010_6 {v0 : Value} {v1 : Value} {x : Int32} : am_g d X am_m2010 6 [v0, v1, .int x] sk st Q = am_g d X am_m2010 7 [v0, v1, .int x] (.int x :: sk) st Q := am_gu.trans rfl
theorem u2010_7 {v0 : Value} {v1 : Value} {v2 : Value} {x : Int32} {y : Int32} : am_g d X am_m2010 7 [v0, v1, v2] (.int y :: .int x :: sk) st Q = (if decide (y < x) = true then am_g d X am_m2010 14 [v0, v1, v2] sk st Q else am_g d X am_m2010 10 [v0, v1, v2] sk st Q) := am_gu.trans rfl
theorem u2010_10 {v0 : Value} {v1 : Value} {v2 : Value} : am_g d X am_m2010 10 [v0, v1, v2] sk st Q = am_g d X am_m2010 11 [v0, v1, v2] (.int (am_i 1) :: sk) st Q := am_gu.trans rfl
theorem u2010_11 {v0 : Value} {v1 : Value} {v2 : Value} : am_g d X am_m2010 11 [v0, v1, v2] sk st Q = am_g d X am_m2010 15 [v0, v1, v2] sk st Q := am_gu.trans rfl
theorem u2010_14 {v0 : Value} {v1 : Value} {v2 : Value} : am_g d X am_m2010 14 [v0, v1, v2] sk st Q = am_g d X am_m2010 15 [v0, v1, v2] (.int (am_i 0) :: sk) st Q := am_gu.trans rfl
theorem u2010_15 {v0 : Value} {v1 : Value} {v2 : Value} {x : Int32} : am_g d X am_m2010 15 [v0, v1, v2] [.int x] st Q = ((x = 0 ∨ x = 1) ∧ Q (.inl (some (.int x))) st) := am_gu.trans rfl
set_option maxRecDepth 100000 in
theorem of_2011 : am_of 2011 = some am_m2011 := rfl
theorem c2011 {a0 a1} {P : am_Q} : am_Ca X (d + 1) 2011 [.int a0, .int a1] st P = am_g d X am_m2011 0 [.int a0, .int a1] [] st P := am_cg of_2011 (by show 2 ≤ 2; decide)
theorem hd_2011 : am_hd am_m2011 = [] := rfl
theorem u2011_0 {v1 : Value} {x : Int32} : am_g d X am_m2011 0 [.int x, v1] sk st Q = am_g d X am_m2011 1 [.int x, v1] (.int x :: sk) st Q := am_gu.trans rfl
theorem u2011_1 {v0 : Value} {v1 : Value} : am_g d X am_m2011 1 [v0, v1] sk st Q = am_ts 157 0 7 #[48, 53, 66, 84, 97, 104, 123, 130] [v0, v1] sk st (fun pc lc sk st => am_g d X am_m2011 pc lc sk st Q) := am_gu.trans rfl
theorem u2011_48 {v0 : Value} {x : Int32} : am_g d X am_m2011 48 [v0, .int x] sk st Q = am_g d X am_m2011 49 [v0, .int x] (.int x :: sk) st Q := am_gu.trans rfl
theorem u2011_49 {a0 : Value} {v0 : Value} {v1 : Value} : am_g d X am_m2011 49 [v0, v1] (a0 :: sk) st Q = (sk.length ≤ 4 ∧ am_Ca X d 2012 [a0] st (am_af am_m2011 49 [v0, v1] sk (fun pc lc sk st => am_g d X am_m2011 pc lc sk st Q) Q)) := am_gu.trans (propext ⟨fun h => ⟨h.1.2, h.2⟩, fun h => ⟨⟨Nat.le_add_left _ _, h.1⟩, h.2⟩⟩)
theorem u2011_52 {v0 : Value} {v1 : Value} {x : Int32} : am_g d X am_m2011 52 [v0, v1] [.int x] st Q = Q (.inl (some (.int x))) st := am_gu.trans rfl
theorem u2011_53 {v0 : Value} {x : Int32} : am_g d X am_m2011 53 [v0, .int x] sk st Q = am_g d X am_m2011 54 [v0, .int x] (.int x :: sk) st Q := am_gu.trans rfl
theorem u2011_54 {v0 : Value} {v1 : Value} : am_g d X am_m2011 54 [v0, v1] sk st Q = am_g d X am_m2011 56 [v0, v1] (.int (am_i 46) :: sk) st Q := am_gu.trans rfl
theorem u2011_56 {v0 : Value} {v1 : Value} {x : Int32} {y : Int32} : am_g d X am_m2011 56 [v0, v1] (.int y :: .int x :: sk) st Q = (if decide (¬ x = y) = true then am_g d X am_m2011 63 [v0, v1] sk st Q else am_g d X am_m2011 59 [v0, v1] sk st Q) := am_gu.trans rfl
theorem u2011_59 {v0 : Value} {v1 : Value} : am_g d X am_m2011 59 [v0, v1] sk st Q = am_g d X am_m2011 60 [v0, v1] (.int (am_i 2) :: sk) st Q := am_gu.trans rfl
theorem u2011_60 {v0 : Value} {v1 : Value} : am_g d X am_m2011 60 [v0, v1] sk st Q = am_g d X am_m2011 65 [v0, v1] sk st Q := am_gu.trans rfl
theorem u2011_63 {v0 : Value} {v1 : Value} : am_g d X am_m2011 63 [v0, v1] sk st Q = am_g d X am_m2011 65 [v0, v1] (.int (am_i 9) :: sk) st Q := am_gu.trans rfl
theorem u2011_65 {v0 : Value} {v1 : Value} {x : Int32} : am_g d X am_m2011 65 [v0, v1] [.int x] st Q = Q (.inl (some (.int x))) st := am_gu.trans rfl
theorem u2011_66 {v0 : Value} {x : Int32} : am_g d X am_m2011 66 [v0, .int x] sk st Q = am_g d X am_m2011 67 [v0, .int x] (.int x :: sk) st Q := am_gu.trans rfl
theorem u2011_67 {v0 : Value} {v1 : Value} : am_g d X am_m2011 67 [v0, v1] sk st Q = am_g d X am_m2011 69 [v0, v1] (.int (am_i 48) :: sk) st Q := am_gu.trans rfl
theorem u2011_69 {v0 : Value} {v1 : Value} : am_g d X am_m2011 69 [v0, v1] sk st Q = am_g d X am_m2011 71 [v0, v1] (.int (am_i 53) :: sk) st Q := am_gu.trans rfl
theorem u2011_71 {a0 : Value} {a1 : Value} {a2 : Value} {v0 : Value} {v1 : Value} : am_g d X am_m2011 71 [v0, v1] (a2 :: a1 :: a0 :: sk) st Q = (sk.length ≤ 4 ∧ am_Ca X d 2010 [a0, a1, a2] st (am_af am_m2011 71 [v0, v1] sk (fun pc lc sk st => am_g d X am_m2011 pc lc sk st Q) Q)) := am_gu.trans (propext ⟨fun h => ⟨h.1.2, h.2⟩, fun h => ⟨⟨Nat.le_add_left _ _, h.1⟩, h.2⟩⟩)
theorem u2011_74 {v0 : Value} {v1 : Value} {x : Int32} : am_g d X am_m2011 74 [v0, v1] (.int x :: sk) st Q = (if decide (x = 0) = true then am_g d X am_m2011 81 [v0, v1] sk st Q else am_g d X am_m2011 77 [v0, v1] sk st Q) := am_gu.trans rfl
theorem u2011_77 {v0 : Value} {v1 : Value} : am_g d X am_m2011 77 [v0, v1] sk st Q = am_g d X am_m2011 78 [v0, v1] (.int (am_i 3) :: sk) st Q := am_gu.trans rfl
theorem u2011_78 {v0 : Value} {v1 : Value} : am_g d X am_m2011 78 [v0, v1] sk st Q = am_g d X am_m2011 83 [v0, v1] sk st Q := am_gu.trans rfl
theorem u2011_81 {v0 : Value} {v1 : Value} : am_g d X am_m2011 81 [v0, v1] sk st Q = am_g d X am_m2011 83 [v0, v1] (.int (am_i 9) :: sk) st Q := am_gu.trans rfl
theorem u2011_83 {v0 : Value} {v1 : Value} {x : Int32} : am_g d X am_m2011 83 [v0, v1] [.int x] st Q = Q (.inl (some (.int x))) st := am_gu.trans rfl
theorem u2011_84 {v0 : Value} {x : Int32} : am_g d X am_m2011 84 [v0, .int x] sk st Q = am_g d X am_m2011 85 [v0, .int x] (.int x :: sk) st Q := am_gu.trans rfl
theorem u2011_85 {v0 : Value} {v1 : Value} : am_g d X am_m2011 85 [v0, v1] sk st Q = am_g d X am_m2011 87 [v0, v1] (.int (am_i 61) :: sk) st Q := am_gu.trans rfl
theorem u2011_87 {v0 : Value} {v1 : Value} {x : Int32} {y : Int32} : am_g d X am_m2011 87 [v0, v1] (.int y :: .int x :: sk) st Q = (if decide (¬ x = y) = true then am_g d X am_m2011 94 [v0, v1] sk st Q else am_g d X am_m2011 90 [v0, v1] sk st Q) := am_gu.trans rfl
theorem u2011_90 {v0 : Value} {v1 : Value} : am_g d X am_m2011 90 [v0, v1] sk st Q = am_g d X am_m2011 91 [v0, v1] (.int (am_i 4) :: sk) st Q := am_gu.trans rfl
theorem u2011_91 {v0 : Value} {v1 : Value} : am_g d X am_m2011 91 [v0, v1] sk st Q = am_g d X am_m2011 96 [v0, v1] sk st Q := am_gu.trans rfl
theorem u2011_94 {v0 : Value} {v1 : Value} : am_g d X am_m2011 94 [v0, v1] sk st Q = am_g d X am_m2011 96 [v0, v1] (.int (am_i 9) :: sk) st Q := am_gu.trans rfl
theorem u2011_96 {v0 : Value} {v1 : Value} {x : Int32} : am_g d X am_m2011 96 [v0, v1] [.int x] st Q = Q (.inl (some (.int x))) st := am_gu.trans rfl
theorem u2011_97 {v0 : Value} {x : Int32} : am_g d X am_m2011 97 [v0, .int x] sk st Q = am_g d X am_m2011 98 [v0, .int x] (.int x :: sk) st Q := am_gu.trans rfl
theorem u2011_98 {v0 : Value} {v1 : Value} : am_g d X am_m2011 98 [v0, v1] sk st Q = am_g d X am_m2011 100 [v0, v1] (.int (am_i 57) :: sk) st Q := am_gu.trans rfl
theorem u2011_100 {a0 : Value} {a1 : Value} {v0 : Value} {v1 : Value} : am_g d X am_m2011 100 [v0, v1] (a1 :: a0 :: sk) st Q = (sk.length ≤ 4 ∧ am_Ca X d 2013 [a0, a1] st (am_af am_m2011 100 [v0, v1] sk (fun pc lc sk st => am_g d X am_m2011 pc lc sk st Q) Q)) := am_gu.trans (propext ⟨fun h => ⟨h.1.2, h.2⟩, fun h => ⟨⟨Nat.le_add_left _ _, h.1⟩, h.2⟩⟩)
theorem u2011_103 {v0 : Value} {v1 : Value} {x : Int32} : am_g d X am_m2011 103 [v0, v1] [.int x] st Q = Q (.inl (some (.int x))) st := am_gu.trans rfl
theorem u2011_104 {v0 : Value} {x : Int32} : am_g d X am_m2011 104 [v0, .int x] sk st Q = am_g d X am_m2011 105 [v0, .int x] (.int x :: sk) st Q := am_gu.trans rfl
theorem u2011_105 {v0 : Value} {v1 : Value} : am_g d X am_m2011 105 [v0, v1] sk st Q = am_g d X am_m2011 107 [v0, v1] (.int (am_i 48) :: sk) st Q := am_gu.trans rfl
theorem u2011_107 {v0 : Value} {v1 : Value} : am_g d X am_m2011 107 [v0, v1] sk st Q = am_g d X am_m2011 109 [v0, v1] (.int (am_i 53) :: sk) st Q := am_gu.trans rfl
theorem u2011_109 {a0 : Value} {a1 : Value} {a2 : Value} {v0 : Value} {v1 : Value} : am_g d X am_m2011 109 [v0, v1] (a2 :: a1 :: a0 :: sk) st Q = (sk.length ≤ 4 ∧ am_Ca X d 2010 [a0, a1, a2] st (am_af am_m2011 109 [v0, v1] sk (fun pc lc sk st => am_g d X am_m2011 pc lc sk st Q) Q)) := am_gu.trans (propext ⟨fun h => ⟨h.1.2, h.2⟩, fun h => ⟨⟨Nat.le_add_left _ _, h.1⟩, h.2⟩⟩)
theorem u2011_112 {v0 : Value} {v1 : Value} {x : Int32} : am_g d X am_m2011 112 [v0, v1] (.int x :: sk) st Q = (if decide (x = 0) = true then am_g d X am_m2011 120 [v0, v1] sk st Q else am_g d X am_m2011 115 [v0, v1] sk st Q) := am_gu.trans rfl
theorem u2011_115 {v0 : Value} {v1 : Value} : am_g d X am_m2011 115 [v0, v1] sk st Q = am_g d X am_m2011 117 [v0, v1] (.int (am_i 8) :: sk) st Q := am_gu.trans rfl
theorem u2011_117 {v0 : Value} {v1 : Value} : am_g d X am_m2011 117 [v0, v1] sk st Q = am_g d X am_m2011 122 [v0, v1] sk st Q := am_gu.trans rfl
theorem u2011_120 {v0 : Value} {v1 : Value} : am_g d X am_m2011 120 [v0, v1] sk st Q = am_g d X am_m2011 122 [v0, v1] (.int (am_i 9) :: sk) st Q := am_gu.trans rfl
theorem u2011_122 {v0 : Value} {v1 : Value} {x : Int32} : am_g d X am_m2011 122 [v0, v1] [.int x] st Q = Q (.inl (some (.int x))) st := am_gu.trans rfl
theorem u2011_123 {v0 : Value} {x : Int32} : am_g d X am_m2011 123 [v0, .int x] sk st Q = am_g d X am_m2011 124 [v0, .int x] (.int x :: sk) st Q := am_gu.trans rfl
theorem u2011_124 {v0 : Value} {v1 : Value} : am_g d X am_m2011 124 [v0, v1] sk st Q = am_g d X am_m2011 126 [v0, v1] (.int (am_i 53) :: sk) st Q := am_gu.trans rfl
theorem u2011_126 {a0 : Value} {a1 : Value} {v0 : Value} {v1 : Value} : am_g d X am_m2011 126 [v0, v1] (a1 :: a0 :: sk) st Q = (sk.length ≤ 4 ∧ am_Ca X d 2013 [a0, a1] st (am_af am_m2011 126 [v0, v1] sk (fun pc lc sk st => am_g d X am_m2011 pc lc sk st Q) Q)) := am_gu.trans (propext ⟨fun h => ⟨h.1.2, h.2⟩, fun h => ⟨⟨Nat.le_add_left _ _, h.1⟩, h.2⟩⟩)
theorem u2011_129 {v0 : Value} {v1 : Value} {x : Int32} : am_g d X am_m2011 129 [v0, v1] [.int x] st Q = Q (.inl (some (.int x))) st := am_gu.trans rfl
theorem u2011_130 {v0 : Value} {x : Int32} : am_g d X am_m2011 130 [v0, .int x] sk st Q = am_g d X am_m2011 131 [v0, .int x] (.int x :: sk) st Q := am_gu.trans rfl
theorem u2011_131 {v0 : Value} {v1 : Value} : am_g d X am_m2011 131 [v0, v1] sk st Q = am_g d X am_m2011 133 [v0, v1] (.int (am_i 48) :: sk) st Q := am_gu.trans rfl
theorem u2011_133 {v0 : Value} {v1 : Value} : am_g d X am_m2011 133 [v0, v1] sk st Q = am_g d X am_m2011 135 [v0, v1] (.int (am_i 57) :: sk) st Q := am_gu.trans rfl
theorem u2011_135 {a0 : Value} {a1 : Value} {a2 : Value} {v0 : Value} {v1 : Value} : am_g d X am_m2011 135 [v0, v1] (a2 :: a1 :: a0 :: sk) st Q = (sk.length ≤ 4 ∧ am_Ca X d 2010 [a0, a1, a2] st (am_af am_m2011 135 [v0, v1] sk (fun pc lc sk st => am_g d X am_m2011 pc lc sk st Q) Q)) := am_gu.trans (propext ⟨fun h => ⟨h.1.2, h.2⟩, fun h => ⟨⟨Nat.le_add_left _ _, h.1⟩, h.2⟩⟩)
theorem u2011_138 {v0 : Value} {v1 : Value} {x : Int32} : am_g d X am_m2011 138 [v0, v1] (.int x :: sk) st Q = (if decide (x = 0) = true then am_g d X am_m2011 144 [v0, v1] sk st Q else am_g d X am_m2011 141 [v0, v1] sk st Q) := am_gu.trans rfl
theorem u2011_141 {v0 : Value} {v1 : Value} : am_g d X am_m2011 141 [v0, v1] sk st Q = am_g d X am_m2011 143 [v0, v1] (.int (am_i 8) :: sk) st Q := am_gu.trans rfl
theorem u2011_143 {v0 : Value} {v1 : Value} {x : Int32} : am_g d X am_m2011 143 [v0, v1] [.int x] st Q = Q (.inl (some (.int x))) st := am_gu.trans rfl
theorem u2011_144 {v0 : Value} {x : Int32} : am_g d X am_m2011 144 [v0, .int x] sk st Q = am_g d X am_m2011 145 [v0, .int x] (.int x :: sk) st Q := am_gu.trans rfl
theorem u2011_145 {v0 : Value} {v1 : Value} : am_g d X am_m2011 145 [v0, v1] sk st Q = am_g d X am_m2011 147 [v0, v1] (.int (am_i 59) :: sk) st Q := am_gu.trans rfl
theorem u2011_147 {v0 : Value} {v1 : Value} {x : Int32} {y : Int32} : am_g d X am_m2011 147 [v0, v1] (.int y :: .int x :: sk) st Q = (if decide (¬ x = y) = true then am_g d X am_m2011 154 [v0, v1] sk st Q else am_g d X am_m2011 150 [v0, v1] sk st Q) := am_gu.trans rfl
theorem u2011_150 {v0 : Value} {v1 : Value} : am_g d X am_m2011 150 [v0, v1] sk st Q = am_g d X am_m2011 151 [v0, v1] (.int (am_i 0) :: sk) st Q := am_gu.trans rfl
theorem u2011_151 {v0 : Value} {v1 : Value} : am_g d X am_m2011 151 [v0, v1] sk st Q = am_g d X am_m2011 156 [v0, v1] sk st Q := am_gu.trans rfl
theorem u2011_154 {v0 : Value} {v1 : Value} : am_g d X am_m2011 154 [v0, v1] sk st Q = am_g d X am_m2011 156 [v0, v1] (.int (am_i 9) :: sk) st Q := am_gu.trans rfl
theorem u2011_156 {v0 : Value} {v1 : Value} {x : Int32} : am_g d X am_m2011 156 [v0, v1] [.int x] st Q = Q (.inl (some (.int x))) st := am_gu.trans rfl
theorem u2011_157 {v0 : Value} {x : Int32} : am_g d X am_m2011 157 [v0, .int x] sk st Q = am_g d X am_m2011 158 [v0, .int x] (.int x :: sk) st Q := am_gu.trans rfl
theorem u2011_158 {v0 : Value} {v1 : Value} : am_g d X am_m2011 158 [v0, v1] sk st Q = am_g d X am_m2011 160 [v0, v1] (.int (am_i 59) :: sk) st Q := am_gu.trans rfl
theorem u2011_160 {v0 : Value} {v1 : Value} {x : Int32} {y : Int32} : am_g d X am_m2011 160 [v0, v1] (.int y :: .int x :: sk) st Q = (if decide (¬ x = y) = true then am_g d X am_m2011 167 [v0, v1] sk st Q else am_g d X am_m2011 163 [v0, v1] sk st Q) := am_gu.trans rfl
theorem u2011_163 {v0 : Value} {v1 : Value} : am_g d X am_m2011 163 [v0, v1] sk st Q = am_g d X am_m2011 164 [v0, v1] (.int (am_i 0) :: sk) st Q := am_gu.trans rfl
theorem u2011_164 {v0 : Value} {v1 : Value} : am_g d X am_m2011 164 [v0, v1] sk st Q = am_g d X am_m2011 169 [v0, v1] sk st Q := am_gu.trans rfl
theorem u2011_167 {v0 : Value} {v1 : Value} : am_g d X am_m2011 167 [v0, v1] sk st Q = am_g d X am_m2011 169 [v0, v1] (.int (am_i 9) :: sk) st Q := am_gu.trans rfl
theorem u2011_169 {v0 : Value} {v1 : Value} {x : Int32} : am_g d X am_m2011 169 [v0, v1] [.int x] st Q = Q (.inl (some (.int x))) st := am_gu.trans rfl
set_option maxRecDepth 100000 in
theorem of_2012 : am_of 2012 = some am_m2012 := rfl
theorem c2012 {a0} {P : am_Q} : am_Ca X (d + 1) 2012 [.int a0] st P = am_g d X am_m2012 0 [.int a0] [] st P := am_cg of_2012 (by show 1 ≤ 1; decide)
theorem hd_2012 : am_hd am_m2012 = [] := rfl
theorem u2012_0 {x : Int32} : am_g d X am_m2012 0 [.int x] sk st Q = am_g d X am_m2012 1 [.int x] (.int x :: sk) st Q := am_gu.trans rfl
theorem u2012_1 {v0 : Value} : am_g d X am_m2012 1 [v0] sk st Q = am_ts 100 97 115 #[92, 92, 92, 100, 100, 100, 100, 100, 100, 100, 100, 100, 95, 100, 100, 97, 100, 97, 95] [v0] sk st (fun pc lc sk st => am_g d X am_m2012 pc lc sk st Q) := am_gu.trans rfl
theorem u2012_92 {v0 : Value} : am_g d X am_m2012 92 [v0] sk st Q = am_g d X am_m2012 94 [v0] (.int (am_i 8) :: sk) st Q := am_gu.trans rfl
theorem u2012_94 {v0 : Value} {x : Int32} : am_g d X am_m2012 94 [v0] [.int x] st Q = Q (.inl (some (.int x))) st := am_gu.trans rfl
theorem u2012_95 {v0 : Value} : am_g d X am_m2012 95 [v0] sk st Q = am_g d X am_m2012 96 [v0] (.int (am_i 5) :: sk) st Q := am_gu.trans rfl
theorem u2012_96 {v0 : Value} {x : Int32} : am_g d X am_m2012 96 [v0] [.int x] st Q = Q (.inl (some (.int x))) st := am_gu.trans rfl
theorem u2012_97 {v0 : Value} : am_g d X am_m2012 97 [v0] sk st Q = am_g d X am_m2012 99 [v0] (.int (am_i 6) :: sk) st Q := am_gu.trans rfl
theorem u2012_99 {v0 : Value} {x : Int32} : am_g d X am_m2012 99 [v0] [.int x] st Q = Q (.inl (some (.int x))) st := am_gu.trans rfl
theorem u2012_100 {x : Int32} : am_g d X am_m2012 100 [.int x] sk st Q = am_g d X am_m2012 101 [.int x] (.int x :: sk) st Q := am_gu.trans rfl
theorem u2012_101 {v0 : Value} : am_g d X am_m2012 101 [v0] sk st Q = am_g d X am_m2012 103 [v0] (.int (am_i 48) :: sk) st Q := am_gu.trans rfl
theorem u2012_103 {v0 : Value} : am_g d X am_m2012 103 [v0] sk st Q = am_g d X am_m2012 105 [v0] (.int (am_i 51) :: sk) st Q := am_gu.trans rfl
theorem u2012_105 {a0 : Value} {a1 : Value} {a2 : Value} {v0 : Value} : am_g d X am_m2012 105 [v0] (a2 :: a1 :: a0 :: sk) st Q = (sk.length ≤ 4 ∧ am_Ca X d 2010 [a0, a1, a2] st (am_af am_m2012 105 [v0] sk (fun pc lc sk st => am_g d X am_m2012 pc lc sk st Q) Q)) := am_gu.trans (propext ⟨fun h => ⟨h.1.2, h.2⟩, fun h => ⟨⟨Nat.le_add_left _ _, h.1⟩, h.2⟩⟩)
theorem u2012_108 {v0 : Value} {x : Int32} : am_g d X am_m2012 108 [v0] (.int x :: sk) st Q = (if decide (x = 0) = true then am_g d X am_m2012 115 [v0] sk st Q else am_g d X am_m2012 111 [v0] sk st Q) := am_gu.trans rfl
theorem u2012_111 {v0 : Value} : am_g d X am_m2012 111 [v0] sk st Q = am_g d X am_m2012 112 [v0] (.int (am_i 1) :: sk) st Q := am_gu.trans rfl
theorem u2012_112 {v0 : Value} : am_g d X am_m2012 112 [v0] sk st Q = am_g d X am_m2012 117 [v0] sk st Q := am_gu.trans rfl
theorem u2012_115 {v0 : Value} : am_g d X am_m2012 115 [v0] sk st Q = am_g d X am_m2012 117 [v0] (.int (am_i 9) :: sk) st Q := am_gu.trans rfl
theorem u2012_117 {v0 : Value} {x : Int32} : am_g d X am_m2012 117 [v0] [.int x] st Q = Q (.inl (some (.int x))) st := am_gu.trans rfl
set_option maxRecDepth 100000 in
theorem of_2013 : am_of 2013 = some am_m2013 := rfl
theorem c2013 {a0 a1} {P : am_Q} : am_Ca X (d + 1) 2013 [.int a0, .int a1] st P = am_g d X am_m2013 0 [.int a0, .int a1] [] st P := am_cg of_2013 (by show 2 ≤ 2; decide)
theorem hd_2013 : am_hd am_m2013 = [] := rfl
theorem u2013_0 {v1 : Value} {x : Int32} : am_g d X am_m2013 0 [.int x, v1] sk st Q = am_g d X am_m2013 1 [.int x, v1] (.int x :: sk) st Q := am_gu.trans rfl
theorem u2013_1 {v0 : Value} {v1 : Value} : am_g d X am_m2013 1 [v0, v1] sk st Q = am_g d X am_m2013 3 [v0, v1] (.int (am_i 48) :: sk) st Q := am_gu.trans rfl
theorem u2013_3 {v0 : Value} {v1 : Value} : am_g d X am_m2013 3 [v0, v1] sk st Q = am_g d X am_m2013 5 [v0, v1] (.int (am_i 57) :: sk) st Q := am_gu.trans rfl
theorem u2013_5 {a0 : Value} {a1 : Value} {a2 : Value} {v0 : Value} {v1 : Value} : am_g d X am_m2013 5 [v0, v1] (a2 :: a1 :: a0 :: sk) st Q = (sk.length ≤ 4 ∧ am_Ca X d 2010 [a0, a1, a2] st (am_af am_m2013 5 [v0, v1] sk (fun pc lc sk st => am_g d X am_m2013 pc lc sk st Q) Q)) := am_gu.trans (propext ⟨fun h => ⟨h.1.2, h.2⟩, fun h => ⟨⟨Nat.le_add_left _ _, h.1⟩, h.2⟩⟩)
theorem u2013_8 {v0 : Value} {v1 : Value} {x : Int32} : am_g d X am_m2013 8 [v0, v1] (.int x :: sk) st Q = (if decide (¬ x = 0) = true then am_g d X am_m2013 14 [v0, v1] sk st Q else am_g d X am_m2013 11 [v0, v1] sk st Q) := am_gu.trans rfl
theorem u2013_11 {v0 : Value} {v1 : Value} : am_g d X am_m2013 11 [v0, v1] sk st Q = am_g d X am_m2013 13 [v0, v1] (.int (am_i 9) :: sk) st Q := am_gu.trans rfl
theorem u2013_13 {v0 : Value} {v1 : Value} {x : Int32} : am_g d X am_m2013 13 [v0, v1] [.int x] st Q = Q (.inl (some (.int x))) st := am_gu.trans rfl
theorem u2013_14 {v1 : Value} {x : Int32} : am_g d X am_m2013 14 [.int x, v1] sk st Q = am_g d X am_m2013 15 [.int x, v1] (.int x :: sk) st Q := am_gu.trans rfl
theorem u2013_15 {v0 : Value} {v1 : Value} : am_g d X am_m2013 15 [v0, v1] sk st Q = am_g d X am_m2013 17 [v0, v1] (.int (am_i 49) :: sk) st Q := am_gu.trans rfl
theorem u2013_17 {v0 : Value} {x : Int32} : am_g d X am_m2013 17 [v0, .int x] sk st Q = am_g d X am_m2013 18 [v0, .int x] (.int x :: sk) st Q := am_gu.trans rfl
theorem u2013_18 {a0 : Value} {a1 : Value} {a2 : Value} {v0 : Value} {v1 : Value} : am_g d X am_m2013 18 [v0, v1] (a2 :: a1 :: a0 :: sk) st Q = (sk.length ≤ 4 ∧ am_Ca X d 2010 [a0, a1, a2] st (am_af am_m2013 18 [v0, v1] sk (fun pc lc sk st => am_g d X am_m2013 pc lc sk st Q) Q)) := am_gu.trans (propext ⟨fun h => ⟨h.1.2, h.2⟩, fun h => ⟨⟨Nat.le_add_left _ _, h.1⟩, h.2⟩⟩)
theorem u2013_21 {v0 : Value} {v1 : Value} {x : Int32} : am_g d X am_m2013 21 [v0, v1] (.int x :: sk) st Q = (if decide (x = 0) = true then am_g d X am_m2013 29 [v0, v1] sk st Q else am_g d X am_m2013 24 [v0, v1] sk st Q) := am_gu.trans rfl
theorem u2013_24 {v0 : Value} {v1 : Value} : am_g d X am_m2013 24 [v0, v1] sk st Q = am_g d X am_m2013 26 [v0, v1] (.int (am_i 7) :: sk) st Q := am_gu.trans rfl
theorem u2013_26 {v0 : Value} {v1 : Value} : am_g d X am_m2013 26 [v0, v1] sk st Q = am_g d X am_m2013 31 [v0, v1] sk st Q := am_gu.trans rfl
theorem u2013_29 {v0 : Value} {v1 : Value} : am_g d X am_m2013 29 [v0, v1] sk st Q = am_g d X am_m2013 31 [v0, v1] (.int (am_i 8) :: sk) st Q := am_gu.trans rfl
theorem u2013_31 {v0 : Value} {v1 : Value} {x : Int32} : am_g d X am_m2013 31 [v0, v1] [.int x] st Q = Q (.inl (some (.int x))) st := am_gu.trans rfl
set_option maxRecDepth 100000 in
theorem of_3001 : am_of 3001 = some am_m3001 := rfl
theorem c3001 {z} {P : am_Q} : am_Ca X (d + 1) 3001 [.ref z] st P = am_g d X am_m3001 0 [.ref z, am_u] [] st P := am_cg of_3001 (by show 1 ≤ 2; decide)
theorem hd_3001 : am_hd am_m3001 = [] := rfl
theorem u3001_0 {v1 : Value} {x : Nat} : am_g d X am_m3001 0 [.ref x, v1] sk st Q = am_g d X am_m3001 1 [.ref x, v1] (.ref x :: sk) st Q := am_gu.trans rfl
theorem u3001_1 {v0 : Value} {v1 : Value} : am_g d X am_m3001 1 [v0, v1] (.ref o :: sk) st Q = (sk.length ≤ 4 ∧ am_g d X am_m3001 4 [v0, v1] sk st Q) := am_gu.trans rfl
theorem u3001_4 {v1 : Value} {x : Nat} : am_g d X am_m3001 4 [.ref x, v1] sk st Q = am_g d X am_m3001 5 [.ref x, v1] (.ref x :: sk) st Q := am_gu.trans rfl
theorem u3001_5 {v0 : Value} {v1 : Value} : am_g d X am_m3001 5 [v0, v1] sk st Q = am_g d X am_m3001 6 [v0, v1] (.int (am_i 4) :: sk) st Q := am_gu.trans rfl
theorem u3001_6 {v0 : Value} {v1 : Value} : am_g d X am_m3001 6 [v0, v1] sk st Q = am_na 3 (some none) 9 [v0, v1] sk st (fun pc lc sk st => am_g d X am_m3001 pc lc sk st Q) := am_gu.trans rfl
theorem u3001_9 {v0 : Value} {v1 : Value} : am_g d X am_m3001 9 [v0, v1] sk st Q = am_pt 96 12 [v0, v1] sk st (fun pc lc sk st => am_g d X am_m3001 pc lc sk st Q) := am_gu.trans rfl
theorem u3001_12 {v1 : Value} {x : Nat} : am_g d X am_m3001 12 [.ref x, v1] sk st Q = am_g d X am_m3001 13 [.ref x, v1] (.ref x :: sk) st Q := am_gu.trans rfl
theorem u3001_13 {v0 : Value} {v1 : Value} : am_g d X am_m3001 13 [v0, v1] sk st Q = am_g d X am_m3001 14 [v0, v1] (.int (am_i 0) :: sk) st Q := am_gu.trans rfl
theorem u3001_14 {v0 : Value} {v1 : Value} : am_g d X am_m3001 14 [v0, v1] sk st Q = am_pt 97 17 [v0, v1] sk st (fun pc lc sk st => am_g d X am_m3001 pc lc sk st Q) := am_gu.trans rfl
theorem u3001_17 {v1 : Value} {x : Nat} : am_g d X am_m3001 17 [.ref x, v1] sk st Q = am_g d X am_m3001 18 [.ref x, v1] (.ref x :: sk) st Q := am_gu.trans rfl
theorem u3001_18 {v0 : Value} {v1 : Value} : am_g d X am_m3001 18 [v0, v1] sk st Q = am_g d X am_m3001 19 [v0, v1] (.int (am_i 0) :: sk) st Q := am_gu.trans rfl
theorem u3001_19 {v0 : Value} {v1 : Value} : am_g d X am_m3001 19 [v0, v1] sk st Q = am_pt 98 22 [v0, v1] sk st (fun pc lc sk st => am_g d X am_m3001 pc lc sk st Q) := am_gu.trans rfl
theorem u3001_22 {v0 : Value} {v1 : Value} : am_g d X am_m3001 22 [v0, v1] sk st Q = am_g d X am_m3001 23 [v0, v1] (.int (am_i 0) :: sk) st Q := am_gu.trans rfl
theorem u3001_23 {v0 : Value} {v1 : Value} {x : Int32} : am_g d X am_m3001 23 [v0, v1] (.int x :: sk) st Q = am_g d X am_m3001 24 [am_kc v0, .int x] sk st Q := am_gu.trans (congrArg (fun l => am_g d X am_m3001 24 (List.set l 1 (.int x)) sk st Q) (kl_1 (l := [v1])))
theorem u3001_24 {v0 : Value} {x : Int32} : am_g d X am_m3001 24 [v0, .int x] sk st Q = am_g d X am_m3001 25 [v0, .int x] (.int x :: sk) st Q := am_gu.trans rfl
theorem u3001_25 {v0 : Value} {v1 : Value} : am_g d X am_m3001 25 [v0, v1] sk st Q = am_g d X am_m3001 26 [v0, v1] (.int (am_i 4) :: sk) st Q := am_gu.trans rfl
theorem u3001_26 {v0 : Value} {v1 : Value} {x : Int32} {y : Int32} : am_g d X am_m3001 26 [v0, v1] (.int y :: .int x :: sk) st Q = (if decide (y ≤ x) = true then am_g d X am_m3001 48 [v0, v1] sk st Q else am_g d X am_m3001 29 [v0, v1] sk st Q) := am_gu.trans rfl
theorem u3001_29 {v1 : Value} {x : Nat} : am_g d X am_m3001 29 [.ref x, v1] sk st Q = am_g d X am_m3001 30 [.ref x, v1] (.ref x :: sk) st Q := am_gu.trans rfl
theorem u3001_30 {v0 : Value} {v1 : Value} : am_g d X am_m3001 30 [v0, v1] sk st Q = am_gt 96 33 [v0, v1] sk st (fun pc lc sk st => am_g d X am_m3001 pc lc sk st Q) := am_gu.trans rfl
theorem u3001_33 {v0 : Value} {x : Int32} : am_g d X am_m3001 33 [v0, .int x] sk st Q = am_g d X am_m3001 34 [v0, .int x] (.int x :: sk) st Q := am_gu.trans rfl
theorem u3001_34 {v0 : Value} {v1 : Value} : am_g d X am_m3001 34 [v0, v1] sk st Q = am_nw 5 37 [v0, v1] sk st (fun pc lc sk st => am_g d X am_m3001 pc lc sk st Q) := am_gu.trans rfl
theorem u3001_37i {v0 : Value} {v1 : Value} {x : Int32} : am_g d X am_m3001 37 [v0, v1] (.int x :: sk) st Q = am_g d X am_m3001 38 [v0, v1] (.int x :: .int x :: sk) st Q := am_gu.trans rfl
theorem u3001_37r {v0 : Value} {v1 : Value} {x : Nat} : am_g d X am_m3001 37 [v0, v1] (.ref x :: sk) st Q = am_g d X am_m3001 38 [v0, v1] (.ref x :: .ref x :: sk) st Q := am_gu.trans rfl
theorem u3001_38 {v0 : Value} {v1 : Value} : am_g d X am_m3001 38 [v0, v1] (.ref o :: sk) st Q = ((am_ob st o 5 ∧ sk.length ≤ 4) ∧ am_Ca X d 5001 [.ref o] st (am_af am_m3001 38 [v0, v1] sk (fun pc lc sk st => am_g d X am_m3001 pc lc sk st Q) Q)) := am_gu.trans rfl
theorem u3001_41 {v0 : Value} {v1 : Value} : am_g d X am_m3001 41 [v0, v1] sk st Q = am_qs 42 [v0, v1] sk st (fun pc lc sk st => am_g d X am_m3001 pc lc sk st Q) := am_gu.trans rfl
theorem u3001_42 {v0 : Value} {x : Int32} : am_g d X am_m3001 42 [v0, .int x] sk st Q = am_g d X am_m3001 45 [am_kc v0, .int (x + am_i 1)] sk st Q := am_gu.trans (congrArg (fun l => am_g d X am_m3001 45 (List.set l 1 (.int (x + am_i 1))) sk st Q) (kl_1 (l := [.int x])))
theorem u3001_45 {v0 : Value} {v1 : Value} : am_g d X am_m3001 45 [v0, v1] sk st Q = am_g d X am_m3001 24 [v0, v1] sk st Q := am_gu.trans rfl
theorem u3001_48 {v0 : Value} {v1 : Value} : am_g d X am_m3001 48 [v0, v1] [] st Q = Q (.inl none) st := am_gu.trans rfl
set_option maxRecDepth 100000 in
theorem of_3002 : am_of 3002 = some am_m3002 := rfl
theorem c3002 {z a0} {P : am_Q} : am_Ca X (d + 1) 3002 [.ref z, .ref a0] st P = am_g d X am_m3002 0 [.ref z, .ref a0, am_u] [] st P := am_cg of_3002 (by show 2 ≤ 3; decide)
theorem hd_3002 : am_hd am_m3002 = [] := rfl
theorem u3002_0 {v1 : Value} {v2 : Value} {x : Nat} : am_g d X am_m3002 0 [.ref x, v1, v2] sk st Q = am_g d X am_m3002 1 [.ref x, v1, v2] (.ref x :: sk) st Q := am_gu.trans rfl
theorem u3002_1 {v0 : Value} {v1 : Value} {v2 : Value} : am_g d X am_m3002 1 [v0, v1, v2] sk st Q = am_gt 98 4 [v0, v1, v2] sk st (fun pc lc sk st => am_g d X am_m3002 pc lc sk st Q) := am_gu.trans rfl
theorem u3002_4 {v0 : Value} {v1 : Value} {v2 : Value} : am_g d X am_m3002 4 [v0, v1, v2] sk st Q = am_g d X am_m3002 5 [v0, v1, v2] (.int (am_i 4) :: sk) st Q := am_gu.trans rfl
theorem u3002_5 {v0 : Value} {v1 : Value} {v2 : Value} {x : Int32} {y : Int32} : am_g d X am_m3002 5 [v0, v1, v2] (.int y :: .int x :: sk) st Q = (if decide (¬ x = y) = true then am_g d X am_m3002 30 [v0, v1, v2] sk st Q else am_g d X am_m3002 8 [v0, v1, v2] sk st Q) := am_gu.trans rfl
theorem u3002_8 {v1 : Value} {v2 : Value} {x : Nat} : am_g d X am_m3002 8 [.ref x, v1, v2] sk st Q = am_g d X am_m3002 9 [.ref x, v1, v2] (.ref x :: sk) st Q := am_gu.trans rfl
theorem u3002_9 {v1 : Value} {v2 : Value} {x : Nat} : am_g d X am_m3002 9 [.ref x, v1, v2] sk st Q = am_g d X am_m3002 10 [.ref x, v1, v2] (.ref x :: sk) st Q := am_gu.trans rfl
theorem u3002_10 {v0 : Value} {v1 : Value} {v2 : Value} : am_g d X am_m3002 10 [v0, v1, v2] sk st Q = am_gt 97 13 [v0, v1, v2] sk st (fun pc lc sk st => am_g d X am_m3002 pc lc sk st Q) := am_gu.trans rfl
theorem u3002_13 {v0 : Value} {v1 : Value} {v2 : Value} : am_g d X am_m3002 13 [v0, v1, v2] sk st Q = am_g d X am_m3002 14 [v0, v1, v2] (.int (am_i 1) :: sk) st Q := am_gu.trans rfl
theorem u3002_14 {v0 : Value} {v1 : Value} {v2 : Value} {x : Int32} {y : Int32} : am_g d X am_m3002 14 [v0, v1, v2] (.int y :: .int x :: sk) st Q = am_g d X am_m3002 15 [v0, v1, v2] (.int (x + y) :: sk) st Q := am_gu.trans rfl
theorem u3002_15 {v0 : Value} {v1 : Value} {v2 : Value} : am_g d X am_m3002 15 [v0, v1, v2] sk st Q = am_g d X am_m3002 16 [v0, v1, v2] (.int (am_i 4) :: sk) st Q := am_gu.trans rfl
theorem u3002_16 {v0 : Value} {v1 : Value} {v2 : Value} {x : Int32} {y : Int32} : am_g d X am_m3002 16 [v0, v1, v2] (.int y :: .int x :: sk) st Q = (¬ y = 0 ∧ am_g d X am_m3002 17 [v0, v1, v2] (.int (x - x / y * y) :: sk) st Q) := am_gu.trans rfl
theorem u3002_17 {v0 : Value} {v1 : Value} {v2 : Value} : am_g d X am_m3002 17 [v0, v1, v2] sk st Q = am_pt 97 20 [v0, v1, v2] sk st (fun pc lc sk st => am_g d X am_m3002 pc lc sk st Q) := am_gu.trans rfl
theorem u3002_20 {v1 : Value} {v2 : Value} {x : Nat} : am_g d X am_m3002 20 [.ref x, v1, v2] sk st Q = am_g d X am_m3002 21 [.ref x, v1, v2] (.ref x :: sk) st Q := am_gu.trans rfl
theorem u3002_21i {v0 : Value} {v1 : Value} {v2 : Value} {x : Int32} : am_g d X am_m3002 21 [v0, v1, v2] (.int x :: sk) st Q = am_g d X am_m3002 22 [v0, v1, v2] (.int x :: .int x :: sk) st Q := am_gu.trans rfl
theorem u3002_21r {v0 : Value} {v1 : Value} {v2 : Value} {x : Nat} : am_g d X am_m3002 21 [v0, v1, v2] (.ref x :: sk) st Q = am_g d X am_m3002 22 [v0, v1, v2] (.ref x :: .ref x :: sk) st Q := am_gu.trans rfl
theorem u3002_22 {v0 : Value} {v1 : Value} {v2 : Value} : am_g d X am_m3002 22 [v0, v1, v2] sk st Q = am_gt 98 25 [v0, v1, v2] sk st (fun pc lc sk st => am_g d X am_m3002 pc lc sk st Q) := am_gu.trans rfl
theorem u3002_25 {v0 : Value} {v1 : Value} {v2 : Value} : am_g d X am_m3002 25 [v0, v1, v2] sk st Q = am_g d X am_m3002 26 [v0, v1, v2] (.int (am_i 1) :: sk) st Q := am_gu.trans rfl
theorem u3002_26 {v0 : Value} {v1 : Value} {v2 : Value} {x : Int32} {y : Int32} : am_g d X am_m3002 26 [v0, v1, v2] (.int y :: .int x :: sk) st Q = am_g d X am_m3002 27 [v0, v1, v2] (.int (x - y) :: sk) st Q := am_gu.trans rfl
theorem u3002_27 {v0 : Value} {v1 : Value} {v2 : Value} : am_g d X am_m3002 27 [v0, v1, v2] sk st Q = am_pt 98 30 [v0, v1, v2] sk st (fun pc lc sk st => am_g d X am_m3002 pc lc sk st Q) := am_gu.trans rfl
theorem u3002_30 {v1 : Value} {v2 : Value} {x : Nat} : am_g d X am_m3002 30 [.ref x, v1, v2] sk st Q = am_g d X am_m3002 31 [.ref x, v1, v2] (.ref x :: sk) st Q := am_gu.trans rfl
theorem u3002_31 {v1 : Value} {v2 : Value} {x : Nat} : am_g d X am_m3002 31 [.ref x, v1, v2] sk st Q = am_g d X am_m3002 32 [.ref x, v1, v2] (.ref x :: sk) st Q := am_gu.trans rfl
theorem u3002_32 {v0 : Value} {v1 : Value} {v2 : Value} : am_g d X am_m3002 32 [v0, v1, v2] sk st Q = am_gt 98 35 [v0, v1, v2] sk st (fun pc lc sk st => am_g d X am_m3002 pc lc sk st Q) := am_gu.trans rfl
theorem u3002_35 {a0 : Value} {v0 : Value} {v1 : Value} {v2 : Value} : am_g d X am_m3002 35 [v0, v1, v2] (a0 :: .ref o :: sk) st Q = ((am_ob st o 3 ∧ sk.length ≤ 4) ∧ am_Ca X d 3004 [.ref o, a0] st (am_af am_m3002 35 [v0, v1, v2] sk (fun pc lc sk st => am_g d X am_m3002 pc lc sk st Q) Q)) := am_gu.trans rfl
theorem u3002_38 {v0 : Value} {v1 : Value} {v2 : Value} {x : Nat} : am_g d X am_m3002 38 [v0, v1, v2] (.ref x :: sk) st Q = am_g d X am_m3002 39 [v0, am_kc v1, .ref x] sk st Q := am_gu.trans (congrArg (fun l => am_g d X am_m3002 39 (List.set l 2 (.ref x)) sk st Q) (kl_2 (l := [v2])))
theorem u3002_39 {v0 : Value} {v1 : Value} {x : Nat} : am_g d X am_m3002 39 [v0, v1, .ref x] sk st Q = am_g d X am_m3002 40 [v0, v1, .ref x] (.ref x :: sk) st Q := am_gu.trans rfl
theorem u3002_40 {v0 : Value} {v1 : Value} {v2 : Value} {x : Nat} : am_g d X am_m3002 40 [v0, v1, v2] (.ref x :: sk) st Q = am_g d X am_m3002 43 [v0, v1, v2] sk st Q := am_gu.trans rfl
theorem u3002_43 {v0 : Value} {v1 : Value} {x : Nat} : am_g d X am_m3002 43 [v0, v1, .ref x] sk st Q = am_g d X am_m3002 44 [v0, v1, .ref x] (.ref x :: sk) st Q := am_gu.trans rfl
theorem u3002_44 {v0 : Value} {v2 : Value} {x : Nat} : am_g d X am_m3002 44 [v0, .ref x, v2] sk st Q = am_g d X am_m3002 45 [v0, .ref x, v2] (.ref x :: sk) st Q := am_gu.trans rfl
theorem u3002_45 {a0 : Value} {v0 : Value} {v1 : Value} {v2 : Value} : am_g d X am_m3002 45 [v0, v1, v2] (a0 :: .ref o :: sk) st Q = ((am_ob st o 5 ∧ sk.length ≤ 4) ∧ am_Ca X d 5002 [.ref o, a0] st (am_af am_m3002 45 [v0, v1, v2] sk (fun pc lc sk st => am_g d X am_m3002 pc lc sk st Q) Q)) := am_gu.trans rfl
theorem u3002_48 {v1 : Value} {v2 : Value} {x : Nat} : am_g d X am_m3002 48 [.ref x, v1, v2] sk st Q = am_g d X am_m3002 49 [.ref x, v1, v2] (.ref x :: sk) st Q := am_gu.trans rfl
theorem u3002_49i {v0 : Value} {v1 : Value} {v2 : Value} {x : Int32} : am_g d X am_m3002 49 [v0, v1, v2] (.int x :: sk) st Q = am_g d X am_m3002 50 [v0, v1, v2] (.int x :: .int x :: sk) st Q := am_gu.trans rfl
theorem u3002_49r {v0 : Value} {v1 : Value} {v2 : Value} {x : Nat} : am_g d X am_m3002 49 [v0, v1, v2] (.ref x :: sk) st Q = am_g d X am_m3002 50 [v0, v1, v2] (.ref x :: .ref x :: sk) st Q := am_gu.trans rfl
theorem u3002_50 {v0 : Value} {v1 : Value} {v2 : Value} : am_g d X am_m3002 50 [v0, v1, v2] sk st Q = am_gt 98 53 [v0, v1, v2] sk st (fun pc lc sk st => am_g d X am_m3002 pc lc sk st Q) := am_gu.trans rfl
theorem u3002_53 {v0 : Value} {v1 : Value} {v2 : Value} : am_g d X am_m3002 53 [v0, v1, v2] sk st Q = am_g d X am_m3002 54 [v0, v1, v2] (.int (am_i 1) :: sk) st Q := am_gu.trans rfl
theorem u3002_54 {v0 : Value} {v1 : Value} {v2 : Value} {x : Int32} {y : Int32} : am_g d X am_m3002 54 [v0, v1, v2] (.int y :: .int x :: sk) st Q = am_g d X am_m3002 55 [v0, v1, v2] (.int (x + y) :: sk) st Q := am_gu.trans rfl
theorem u3002_55 {v0 : Value} {v1 : Value} {v2 : Value} : am_g d X am_m3002 55 [v0, v1, v2] sk st Q = am_pt 98 58 [v0, v1, v2] sk st (fun pc lc sk st => am_g d X am_m3002 pc lc sk st Q) := am_gu.trans rfl
theorem u3002_58 {v0 : Value} {v1 : Value} {v2 : Value} : am_g d X am_m3002 58 [v0, v1, v2] [] st Q = Q (.inl none) st := am_gu.trans rfl
set_option maxRecDepth 100000 in
theorem of_3003 : am_of 3003 = some am_m3003 := rfl
theorem c3003 {z a0} {P : am_Q} : am_Ca X (d + 1) 3003 [.ref z, .ref a0] st P = am_g d X am_m3003 0 [.ref z, .ref a0, am_u] [] st P := am_cg of_3003 (by show 2 ≤ 3; decide)
theorem hd_3003 : am_hd am_m3003 = [] := rfl
theorem u3003_0 {v1 : Value} {v2 : Value} {x : Nat} : am_g d X am_m3003 0 [.ref x, v1, v2] sk st Q = am_g d X am_m3003 1 [.ref x, v1, v2] (.ref x :: sk) st Q := am_gu.trans rfl
theorem u3003_1 {v1 : Value} {v2 : Value} {x : Nat} : am_g d X am_m3003 1 [.ref x, v1, v2] sk st Q = am_g d X am_m3003 2 [.ref x, v1, v2] (.ref x :: sk) st Q := am_gu.trans rfl
theorem u3003_2 {v0 : Value} {v1 : Value} {v2 : Value} : am_g d X am_m3003 2 [v0, v1, v2] sk st Q = am_gt 98 5 [v0, v1, v2] sk st (fun pc lc sk st => am_g d X am_m3003 pc lc sk st Q) := am_gu.trans rfl
theorem u3003_5 {v0 : Value} {v1 : Value} {v2 : Value} : am_g d X am_m3003 5 [v0, v1, v2] sk st Q = am_g d X am_m3003 6 [v0, v1, v2] (.int (am_i 1) :: sk) st Q := am_gu.trans rfl
theorem u3003_6 {v0 : Value} {v1 : Value} {v2 : Value} {x : Int32} {y : Int32} : am_g d X am_m3003 6 [v0, v1, v2] (.int y :: .int x :: sk) st Q = am_g d X am_m3003 7 [v0, v1, v2] (.int (x - y) :: sk) st Q := am_gu.trans rfl
theorem u3003_7 {a0 : Value} {v0 : Value} {v1 : Value} {v2 : Value} : am_g d X am_m3003 7 [v0, v1, v2] (a0 :: .ref o :: sk) st Q = ((am_ob st o 3 ∧ sk.length ≤ 4) ∧ am_Ca X d 3004 [.ref o, a0] st (am_af am_m3003 7 [v0, v1, v2] sk (fun pc lc sk st => am_g d X am_m3003 pc lc sk st Q) Q)) := am_gu.trans rfl
theorem u3003_10 {v0 : Value} {v1 : Value} {v2 : Value} {x : Nat} : am_g d X am_m3003 10 [v0, v1, v2] (.ref x :: sk) st Q = am_g d X am_m3003 11 [v0, am_kc v1, .ref x] sk st Q := am_gu.trans (congrArg (fun l => am_g d X am_m3003 11 (List.set l 2 (.ref x)) sk st Q) (kl_2 (l := [v2])))
theorem u3003_11 {v0 : Value} {v1 : Value} {x : Nat} : am_g d X am_m3003 11 [v0, v1, .ref x] sk st Q = am_g d X am_m3003 12 [v0, v1, .ref x] (.ref x :: sk) st Q := am_gu.trans rfl
theorem u3003_12 {v0 : Value} {v1 : Value} {v2 : Value} {x : Nat} : am_g d X am_m3003 12 [v0, v1, v2] (.ref x :: sk) st Q = am_g d X am_m3003 15 [v0, v1, v2] sk st Q := am_gu.trans rfl
theorem u3003_15 {v0 : Value} {v2 : Value} {x : Nat} : am_g d X am_m3003 15 [v0, .ref x, v2] sk st Q = am_g d X am_m3003 16 [v0, .ref x, v2] (.ref x :: sk) st Q := am_gu.trans rfl
theorem u3003_16 {v0 : Value} {v1 : Value} {x : Nat} : am_g d X am_m3003 16 [v0, v1, .ref x] sk st Q = am_g d X am_m3003 17 [v0, v1, .ref x] (.ref x :: sk) st Q := am_gu.trans rfl
theorem u3003_17 {a0 : Value} {v0 : Value} {v1 : Value} {v2 : Value} : am_g d X am_m3003 17 [v0, v1, v2] (a0 :: .ref o :: sk) st Q = ((am_ob st o 5 ∧ sk.length ≤ 4) ∧ am_Ca X d 5002 [.ref o, a0] st (am_af am_m3003 17 [v0, v1, v2] sk (fun pc lc sk st => am_g d X am_m3003 pc lc sk st Q) Q)) := am_gu.trans rfl
theorem u3003_20 {v1 : Value} {v2 : Value} {x : Nat} : am_g d X am_m3003 20 [.ref x, v1, v2] sk st Q = am_g d X am_m3003 21 [.ref x, v1, v2] (.ref x :: sk) st Q := am_gu.trans rfl
theorem u3003_21i {v0 : Value} {v1 : Value} {v2 : Value} {x : Int32} : am_g d X am_m3003 21 [v0, v1, v2] (.int x :: sk) st Q = am_g d X am_m3003 22 [v0, v1, v2] (.int x :: .int x :: sk) st Q := am_gu.trans rfl
theorem u3003_21r {v0 : Value} {v1 : Value} {v2 : Value} {x : Nat} : am_g d X am_m3003 21 [v0, v1, v2] (.ref x :: sk) st Q = am_g d X am_m3003 22 [v0, v1, v2] (.ref x :: .ref x :: sk) st Q := am_gu.trans rfl
theorem u3003_22 {v0 : Value} {v1 : Value} {v2 : Value} : am_g d X am_m3003 22 [v0, v1, v2] sk st Q = am_gt 98 25 [v0, v1, v2] sk st (fun pc lc sk st => am_g d X am_m3003 pc lc sk st Q) := am_gu.trans rfl
theorem u3003_25 {v0 : Value} {v1 : Value} {v2 : Value} : am_g d X am_m3003 25 [v0, v1, v2] sk st Q = am_g d X am_m3003 26 [v0, v1, v2] (.int (am_i 1) :: sk) st Q := am_gu.trans rfl
theorem u3003_26 {v0 : Value} {v1 : Value} {v2 : Value} {x : Int32} {y : Int32} : am_g d X am_m3003 26 [v0, v1, v2] (.int y :: .int x :: sk) st Q = am_g d X am_m3003 27 [v0, v1, v2] (.int (x - y) :: sk) st Q := am_gu.trans rfl
theorem u3003_27 {v0 : Value} {v1 : Value} {v2 : Value} : am_g d X am_m3003 27 [v0, v1, v2] sk st Q = am_pt 98 30 [v0, v1, v2] sk st (fun pc lc sk st => am_g d X am_m3003 pc lc sk st Q) := am_gu.trans rfl
theorem u3003_30 {v0 : Value} {v1 : Value} {v2 : Value} : am_g d X am_m3003 30 [v0, v1, v2] [] st Q = Q (.inl none) st := am_gu.trans rfl
set_option maxRecDepth 100000 in
theorem of_3004 : am_of 3004 = some am_m3004 := rfl
theorem c3004 {z a0} {P : am_Q} : am_Ca X (d + 1) 3004 [.ref z, .int a0] st P = am_g d X am_m3004 0 [.ref z, .int a0] [] st P := am_cg of_3004 (by show 2 ≤ 2; decide)
theorem hd_3004 : am_hd am_m3004 = [] := rfl
theorem u3004_0 {v0 : Value} {x : Int32} : am_g d X am_m3004 0 [v0, .int x] sk st Q = am_g d X am_m3004 1 [v0, .int x] (.int x :: sk) st Q := am_gu.trans rfl
theorem u3004_1 {v0 : Value} {v1 : Value} {x : Int32} : am_g d X am_m3004 1 [v0, v1] (.int x :: sk) st Q = (if decide (x < 0) = true then am_g d X am_m3004 25 [v0, v1] sk st Q else am_g d X am_m3004 4 [v0, v1] sk st Q) := am_gu.trans rfl
theorem u3004_4 {v0 : Value} {x : Int32} : am_g d X am_m3004 4 [v0, .int x] sk st Q = am_g d X am_m3004 5 [v0, .int x] (.int x :: sk) st Q := am_gu.trans rfl
theorem u3004_5 {v0 : Value} {v1 : Value} : am_g d X am_m3004 5 [v0, v1] sk st Q = am_g d X am_m3004 6 [v0, v1] (.int (am_i 4) :: sk) st Q := am_gu.trans rfl
theorem u3004_6 {v0 : Value} {v1 : Value} {x : Int32} {y : Int32} : am_g d X am_m3004 6 [v0, v1] (.int y :: .int x :: sk) st Q = (if decide (y ≤ x) = true then am_g d X am_m3004 25 [v0, v1] sk st Q else am_g d X am_m3004 9 [v0, v1] sk st Q) := am_gu.trans rfl
theorem u3004_9 {v1 : Value} {x : Nat} : am_g d X am_m3004 9 [.ref x, v1] sk st Q = am_g d X am_m3004 10 [.ref x, v1] (.ref x :: sk) st Q := am_gu.trans rfl
theorem u3004_10 {v0 : Value} {v1 : Value} : am_g d X am_m3004 10 [v0, v1] sk st Q = am_gt 96 13 [v0, v1] sk st (fun pc lc sk st => am_g d X am_m3004 pc lc sk st Q) := am_gu.trans rfl
theorem u3004_13 {v1 : Value} {x : Nat} : am_g d X am_m3004 13 [.ref x, v1] sk st Q = am_g d X am_m3004 14 [.ref x, v1] (.ref x :: sk) st Q := am_gu.trans rfl
theorem u3004_14 {v0 : Value} {v1 : Value} : am_g d X am_m3004 14 [v0, v1] sk st Q = am_gt 97 17 [v0, v1] sk st (fun pc lc sk st => am_g d X am_m3004 pc lc sk st Q) := am_gu.trans rfl
theorem u3004_17 {v0 : Value} {x : Int32} : am_g d X am_m3004 17 [v0, .int x] sk st Q = am_g d X am_m3004 18 [v0, .int x] (.int x :: sk) st Q := am_gu.trans rfl
theorem u3004_18 {v0 : Value} {v1 : Value} {x : Int32} {y : Int32} : am_g d X am_m3004 18 [v0, v1] (.int y :: .int x :: sk) st Q = am_g d X am_m3004 19 [v0, v1] (.int (x + y) :: sk) st Q := am_gu.trans rfl
theorem u3004_19 {v0 : Value} {v1 : Value} : am_g d X am_m3004 19 [v0, v1] sk st Q = am_g d X am_m3004 20 [v0, v1] (.int (am_i 4) :: sk) st Q := am_gu.trans rfl
theorem u3004_20 {v0 : Value} {v1 : Value} {x : Int32} {y : Int32} : am_g d X am_m3004 20 [v0, v1] (.int y :: .int x :: sk) st Q = (¬ y = 0 ∧ am_g d X am_m3004 21 [v0, v1] (.int (x - x / y * y) :: sk) st Q) := am_gu.trans rfl
theorem u3004_21 {v0 : Value} {v1 : Value} : am_g d X am_m3004 21 [v0, v1] sk st Q = am_ql 22 [v0, v1] sk st (fun pc lc sk st => am_g d X am_m3004 pc lc sk st Q) := am_gu.trans rfl
theorem u3004_22 {v0 : Value} {v1 : Value} : am_g d X am_m3004 22 [v0, v1] sk st Q = am_g d X am_m3004 26 [v0, v1] sk st Q := am_gu.trans rfl
theorem u3004_26 {v0 : Value} {v1 : Value} {x : Nat} : am_g d X am_m3004 26 [v0, v1] [.ref x] st Q = Q (.inl (some (.ref x))) st := am_gu.trans rfl
set_option maxRecDepth 100000 in
theorem of_4001 : am_of 4001 = some am_m4001 := rfl
theorem c4001 {z} {P : am_Q} : am_Ca X (d + 1) 4001 [.ref z] st P = am_g d X am_m4001 0 [.ref z] [] st P := am_cg of_4001 (by show 1 ≤ 1; decide)
theorem hd_4001 : am_hd am_m4001 = [] := rfl
theorem u4001_0 {x : Nat} : am_g d X am_m4001 0 [.ref x] sk st Q = am_g d X am_m4001 1 [.ref x] (.ref x :: sk) st Q := am_gu.trans rfl
theorem u4001_1 {v0 : Value} : am_g d X am_m4001 1 [v0] (.ref o :: sk) st Q = (sk.length ≤ 4 ∧ am_g d X am_m4001 4 [v0] sk st Q) := am_gu.trans rfl
theorem u4001_4 {x : Nat} : am_g d X am_m4001 4 [.ref x] sk st Q = am_g d X am_m4001 5 [.ref x] (.ref x :: sk) st Q := am_gu.trans rfl
theorem u4001_5 {v0 : Value} : am_g d X am_m4001 5 [v0] sk st Q = am_nw 5 8 [v0] sk st (fun pc lc sk st => am_g d X am_m4001 pc lc sk st Q) := am_gu.trans rfl
theorem u4001_8i {v0 : Value} {x : Int32} : am_g d X am_m4001 8 [v0] (.int x :: sk) st Q = am_g d X am_m4001 9 [v0] (.int x :: .int x :: sk) st Q := am_gu.trans rfl
theorem u4001_8r {v0 : Value} {x : Nat} : am_g d X am_m4001 8 [v0] (.ref x :: sk) st Q = am_g d X am_m4001 9 [v0] (.ref x :: .ref x :: sk) st Q := am_gu.trans rfl
theorem u4001_9 {v0 : Value} : am_g d X am_m4001 9 [v0] (.ref o :: sk) st Q = ((am_ob st o 5 ∧ sk.length ≤ 4) ∧ am_Ca X d 5001 [.ref o] st (am_af am_m4001 9 [v0] sk (fun pc lc sk st => am_g d X am_m4001 pc lc sk st Q) Q)) := am_gu.trans rfl
theorem u4001_12 {v0 : Value} : am_g d X am_m4001 12 [v0] sk st Q = am_pt 128 15 [v0] sk st (fun pc lc sk st => am_g d X am_m4001 pc lc sk st Q) := am_gu.trans rfl
theorem u4001_15 {x : Nat} : am_g d X am_m4001 15 [.ref x] sk st Q = am_g d X am_m4001 16 [.ref x] (.ref x :: sk) st Q := am_gu.trans rfl
theorem u4001_16 {v0 : Value} : am_g d X am_m4001 16 [v0] sk st Q = am_nw 1 19 [v0] sk st (fun pc lc sk st => am_g d X am_m4001 pc lc sk st Q) := am_gu.trans rfl
theorem u4001_19i {v0 : Value} {x : Int32} : am_g d X am_m4001 19 [v0] (.int x :: sk) st Q = am_g d X am_m4001 20 [v0] (.int x :: .int x :: sk) st Q := am_gu.trans rfl
theorem u4001_19r {v0 : Value} {x : Nat} : am_g d X am_m4001 19 [v0] (.ref x :: sk) st Q = am_g d X am_m4001 20 [v0] (.ref x :: .ref x :: sk) st Q := am_gu.trans rfl
theorem u4001_20 {v0 : Value} : am_g d X am_m4001 20 [v0] (.ref o :: sk) st Q = ((am_ob st o 1 ∧ sk.length ≤ 4) ∧ am_Ca X d 1001 [.ref o] st (am_af am_m4001 20 [v0] sk (fun pc lc sk st => am_g d X am_m4001 pc lc sk st Q) Q)) := am_gu.trans rfl
theorem u4001_23 {v0 : Value} : am_g d X am_m4001 23 [v0] sk st Q = am_pt 129 26 [v0] sk st (fun pc lc sk st => am_g d X am_m4001 pc lc sk st Q) := am_gu.trans rfl
theorem u4001_26 {x : Nat} : am_g d X am_m4001 26 [.ref x] sk st Q = am_g d X am_m4001 27 [.ref x] (.ref x :: sk) st Q := am_gu.trans rfl
theorem u4001_27 {v0 : Value} : am_g d X am_m4001 27 [v0] sk st Q = am_nw 0 30 [v0] sk st (fun pc lc sk st => am_g d X am_m4001 pc lc sk st Q) := am_gu.trans rfl
theorem u4001_30i {v0 : Value} {x : Int32} : am_g d X am_m4001 30 [v0] (.int x :: sk) st Q = am_g d X am_m4001 31 [v0] (.int x :: .int x :: sk) st Q := am_gu.trans rfl
theorem u4001_30r {v0 : Value} {x : Nat} : am_g d X am_m4001 30 [v0] (.ref x :: sk) st Q = am_g d X am_m4001 31 [v0] (.ref x :: .ref x :: sk) st Q := am_gu.trans rfl
theorem u4001_31 {v0 : Value} : am_g d X am_m4001 31 [v0] (.ref o :: sk) st Q = ((am_ob st o 0 ∧ sk.length ≤ 4) ∧ am_Ca X d 1 [.ref o] st (am_af am_m4001 31 [v0] sk (fun pc lc sk st => am_g d X am_m4001 pc lc sk st Q) Q)) := am_gu.trans rfl
theorem u4001_34 {v0 : Value} : am_g d X am_m4001 34 [v0] sk st Q = am_pt 130 37 [v0] sk st (fun pc lc sk st => am_g d X am_m4001 pc lc sk st Q) := am_gu.trans rfl
theorem u4001_37 {x : Nat} : am_g d X am_m4001 37 [.ref x] sk st Q = am_g d X am_m4001 38 [.ref x] (.ref x :: sk) st Q := am_gu.trans rfl
theorem u4001_38 {v0 : Value} : am_g d X am_m4001 38 [v0] sk st Q = am_g d X am_m4001 40 [v0] (.int (am_i 60) :: sk) st Q := am_gu.trans rfl
theorem u4001_40 {v0 : Value} : am_g d X am_m4001 40 [v0] sk st Q = am_na 1 none 42 [v0] sk st (fun pc lc sk st => am_g d X am_m4001 pc lc sk st Q) := am_gu.trans rfl
theorem u4001_42 {v0 : Value} : am_g d X am_m4001 42 [v0] sk st Q = am_pt 131 45 [v0] sk st (fun pc lc sk st => am_g d X am_m4001 pc lc sk st Q) := am_gu.trans rfl
theorem u4001_45 {v0 : Value} : am_g d X am_m4001 45 [v0] [] st Q = Q (.inl none) st := am_gu.trans rfl
set_option maxRecDepth 100000 in
theorem of_4002 : am_of 4002 = some am_m4002 := rfl
theorem c4002 {z a0 a1} {P : am_Q} : am_Ca X (d + 1) 4002 [.ref z, .int a0, .int a1] st P = am_g d X am_m4002 0 [.ref z, .int a0, .int a1] [] st P := am_cg of_4002 (by show 3 ≤ 3; decide)
theorem hd_4002 : am_hd am_m4002 = [] := rfl
theorem u4002_0 {v1 : Value} {v2 : Value} {x : Nat} : am_g d X am_m4002 0 [.ref x, v1, v2] sk st Q = am_g d X am_m4002 1 [.ref x, v1, v2] (.ref x :: sk) st Q := am_gu.trans rfl
theorem u4002_1 {v0 : Value} {v1 : Value} {v2 : Value} : am_g d X am_m4002 1 [v0, v1, v2] sk st Q = am_gt 128 4 [v0, v1, v2] sk st (fun pc lc sk st => am_g d X am_m4002 pc lc sk st Q) := am_gu.trans rfl
theorem u4002_4 {v0 : Value} {v2 : Value} {x : Int32} : am_g d X am_m4002 4 [v0, .int x, v2] sk st Q = am_g d X am_m4002 5 [v0, .int x, v2] (.int x :: sk) st Q := am_gu.trans rfl
theorem u4002_5 {v0 : Value} {v1 : Value} {x : Int32} : am_g d X am_m4002 5 [v0, v1, .int x] sk st Q = am_g d X am_m4002 6 [v0, v1, .int x] (.int x :: sk) st Q := am_gu.trans rfl
theorem u4002_6 {a0 : Value} {a1 : Value} {v0 : Value} {v1 : Value} {v2 : Value} : am_g d X am_m4002 6 [v0, v1, v2] (a1 :: a0 :: .ref o :: sk) st Q = ((am_ob st o 5 ∧ sk.length ≤ 4) ∧ am_Ca X d 5022 [.ref o, a0, a1] st (am_af am_m4002 6 [v0, v1, v2] sk (fun pc lc sk st => am_g d X am_m4002 pc lc sk st Q) Q)) := am_gu.trans rfl
theorem u4002_9 {v1 : Value} {v2 : Value} {x : Nat} : am_g d X am_m4002 9 [.ref x, v1, v2] sk st Q = am_g d X am_m4002 10 [.ref x, v1, v2] (.ref x :: sk) st Q := am_gu.trans rfl
theorem u4002_10 {v0 : Value} {v1 : Value} {v2 : Value} : am_g d X am_m4002 10 [v0, v1, v2] sk st Q = am_gt 128 13 [v0, v1, v2] sk st (fun pc lc sk st => am_g d X am_m4002 pc lc sk st Q) := am_gu.trans rfl
theorem u4002_13 {v0 : Value} {v1 : Value} {v2 : Value} : am_g d X am_m4002 13 [v0, v1, v2] (.ref o :: sk) st Q = ((am_ob st o 5 ∧ sk.length ≤ 4) ∧ am_Ca X d 5024 [.ref o] st (am_af am_m4002 13 [v0, v1, v2] sk (fun pc lc sk st => am_g d X am_m4002 pc lc sk st Q) Q)) := am_gu.trans rfl
theorem u4002_16 {v0 : Value} {v1 : Value} {v2 : Value} {x : Int32} : am_g d X am_m4002 16 [v0, v1, v2] [.int x] st Q = Q (.inl (some (.int x))) st := am_gu.trans rfl
set_option maxRecDepth 100000 in
theorem of_4003 : am_of 4003 = some am_m4003 := rfl
theorem c4003 {z} {P : am_Q} : am_Ca X (d + 1) 4003 [.ref z] st P = am_g d X am_m4003 0 [.ref z, am_u] [] st P := am_cg of_4003 (by show 1 ≤ 2; decide)
theorem hd_4003 : am_hd am_m4003 = [] := rfl
theorem u4003_0 {v1 : Value} {x : Nat} : am_g d X am_m4003 0 [.ref x, v1] sk st Q = am_g d X am_m4003 1 [.ref x, v1] (.ref x :: sk) st Q := am_gu.trans rfl
theorem u4003_1 {v0 : Value} {v1 : Value} : am_g d X am_m4003 1 [v0, v1] sk st Q = am_gt 128 4 [v0, v1] sk st (fun pc lc sk st => am_g d X am_m4003 pc lc sk st Q) := am_gu.trans rfl
theorem u4003_4 {v0 : Value} {v1 : Value} : am_g d X am_m4003 4 [v0, v1] sk st Q = am_gt 168 7 [v0, v1] sk st (fun pc lc sk st => am_g d X am_m4003 pc lc sk st Q) := am_gu.trans rfl
theorem u4003_7 {v0 : Value} {v1 : Value} : am_g d X am_m4003 7 [v0, v1] sk st Q = am_g d X am_m4003 8 [v0, v1] (.int (am_i 1) :: sk) st Q := am_gu.trans rfl
theorem u4003_8 {v0 : Value} {v1 : Value} {x : Int32} {y : Int32} : am_g d X am_m4003 8 [v0, v1] (.int y :: .int x :: sk) st Q = (if decide (x = y) = true then am_g d X am_m4003 21 [v0, v1] sk st Q else am_g d X am_m4003 11 [v0, v1] sk st Q) := am_gu.trans rfl
theorem u4003_11 {v1 : Value} {x : Nat} : am_g d X am_m4003 11 [.ref x, v1] sk st Q = am_g d X am_m4003 12 [.ref x, v1] (.ref x :: sk) st Q := am_gu.trans rfl
theorem u4003_12 {v0 : Value} {v1 : Value} : am_g d X am_m4003 12 [v0, v1] sk st Q = am_gt 128 15 [v0, v1] sk st (fun pc lc sk st => am_g d X am_m4003 pc lc sk st Q) := am_gu.trans rfl
theorem u4003_15 {v0 : Value} {v1 : Value} : am_g d X am_m4003 15 [v0, v1] (.ref o :: sk) st Q = ((am_ob st o 5 ∧ sk.length ≤ 4) ∧ am_Ca X d 5024 [.ref o] st (am_af am_m4003 15 [v0, v1] sk (fun pc lc sk st => am_g d X am_m4003 pc lc sk st Q) Q)) := am_gu.trans rfl
theorem u4003_18 {v0 : Value} {v1 : Value} {x : Int32} : am_g d X am_m4003 18 [v0, v1] (.int x :: sk) st Q = (if decide (x ≤ 0) = true then am_g d X am_m4003 25 [v0, v1] sk st Q else am_g d X am_m4003 21 [v0, v1] sk st Q) := am_gu.trans rfl
theorem u4003_21 {v0 : Value} {v1 : Value} : am_g d X am_m4003 21 [v0, v1] sk st Q = am_g d X am_m4003 22 [v0, v1] (.int (am_i 1) :: sk) st Q := am_gu.trans rfl
theorem u4003_22 {v0 : Value} {v1 : Value} : am_g d X am_m4003 22 [v0, v1] sk st Q = am_g d X am_m4003 26 [v0, v1] sk st Q := am_gu.trans rfl
theorem u4003_25 {v0 : Value} {v1 : Value} : am_g d X am_m4003 25 [v0, v1] sk st Q = am_g d X am_m4003 26 [v0, v1] (.int (am_i 0) :: sk) st Q := am_gu.trans rfl
theorem u4003_26 {v0 : Value} {v1 : Value} {x : Int32} : am_g d X am_m4003 26 [v0, v1] (.int x :: sk) st Q = am_g d X am_m4003 27 [am_kc v0, .int x] sk st Q := am_gu.trans (congrArg (fun l => am_g d X am_m4003 27 (List.set l 1 (.int x)) sk st Q) (kl_1 (l := [v1])))
theorem u4003_27 {v0 : Value} {x : Int32} : am_g d X am_m4003 27 [v0, .int x] sk st Q = am_g d X am_m4003 28 [v0, .int x] (.int x :: sk) st Q := am_gu.trans rfl
theorem u4003_28 {v0 : Value} {v1 : Value} {x : Int32} : am_g d X am_m4003 28 [v0, v1] (.int x :: sk) st Q = (if decide (x = 0) = true then am_g d X am_m4003 55 [v0, v1] sk st Q else am_g d X am_m4003 31 [v0, v1] sk st Q) := am_gu.trans rfl
theorem u4003_31 {v1 : Value} {x : Nat} : am_g d X am_m4003 31 [.ref x, v1] sk st Q = am_g d X am_m4003 32 [.ref x, v1] (.ref x :: sk) st Q := am_gu.trans rfl
theorem u4003_32 {v0 : Value} {v1 : Value} : am_g d X am_m4003 32 [v0, v1] sk st Q = am_gt 128 35 [v0, v1] sk st (fun pc lc sk st => am_g d X am_m4003 pc lc sk st Q) := am_gu.trans rfl
theorem u4003_35 {v0 : Value} {v1 : Value} : am_g d X am_m4003 35 [v0, v1] (.ref o :: sk) st Q = ((am_ob st o 5 ∧ sk.length ≤ 4) ∧ am_Ca X d 5029 [.ref o] st (am_af am_m4003 35 [v0, v1] sk (fun pc lc sk st => am_g d X am_m4003 pc lc sk st Q) Q)) := am_gu.trans rfl
theorem u4003_38 {v0 : Value} {v1 : Value} {x : Int32} : am_g d X am_m4003 38 [v0, v1] (.int x :: sk) st Q = (if decide (¬ x = 0) = true then am_g d X am_m4003 55 [v0, v1] sk st Q else am_g d X am_m4003 41 [v0, v1] sk st Q) := am_gu.trans rfl
theorem u4003_41 {v1 : Value} {x : Nat} : am_g d X am_m4003 41 [.ref x, v1] sk st Q = am_g d X am_m4003 42 [.ref x, v1] (.ref x :: sk) st Q := am_gu.trans rfl
theorem u4003_42 {v0 : Value} {v1 : Value} : am_g d X am_m4003 42 [v0, v1] sk st Q = am_gt 128 45 [v0, v1] sk st (fun pc lc sk st => am_g d X am_m4003 pc lc sk st Q) := am_gu.trans rfl
theorem u4003_45 {v0 : Value} {v1 : Value} : am_g d X am_m4003 45 [v0, v1] (.ref o :: sk) st Q = ((am_ob st o 5 ∧ sk.length ≤ 4) ∧ am_Ca X d 5004 [.ref o] st (am_af am_m4003 45 [v0, v1] sk (fun pc lc sk st => am_g d X am_m4003 pc lc sk st Q) Q)) := am_gu.trans rfl
theorem u4003_48 {v0 : Value} {v1 : Value} {x : Int32} : am_g d X am_m4003 48 [v0, v1] (.int x :: sk) st Q = (if decide (x = 0) = true then am_g d X am_m4003 55 [v0, v1] sk st Q else am_g d X am_m4003 51 [v0, v1] sk st Q) := am_gu.trans rfl
theorem u4003_51 {v0 : Value} {v1 : Value} : am_g d X am_m4003 51 [v0, v1] sk st Q = am_g d X am_m4003 52 [v0, v1] (.int (am_i 1) :: sk) st Q := am_gu.trans rfl
theorem u4003_52 {v0 : Value} {v1 : Value} : am_g d X am_m4003 52 [v0, v1] sk st Q = am_g d X am_m4003 56 [v0, v1] sk st Q := am_gu.trans rfl
theorem u4003_55 {v0 : Value} {v1 : Value} : am_g d X am_m4003 55 [v0, v1] sk st Q = am_g d X am_m4003 56 [v0, v1] (.int (am_i 0) :: sk) st Q := am_gu.trans rfl
theorem u4003_56 {v0 : Value} {v1 : Value} {x : Int32} : am_g d X am_m4003 56 [v0, v1] [.int x] st Q = ((x = 0 ∨ x = 1) ∧ Q (.inl (some (.int x))) st) := am_gu.trans rfl
set_option maxRecDepth 100000 in
theorem of_4004 : am_of 4004 = some am_m4004 := rfl
theorem c4004 {z} {P : am_Q} : am_Ca X (d + 1) 4004 [.ref z] st P = am_g d X am_m4004 0 [.ref z] [] st P := am_cg of_4004 (by show 1 ≤ 1; decide)
theorem hd_4004 : am_hd am_m4004 = [] := rfl
theorem u4004_0 {x : Nat} : am_g d X am_m4004 0 [.ref x] sk st Q = am_g d X am_m4004 1 [.ref x] (.ref x :: sk) st Q := am_gu.trans rfl
theorem u4004_1 {v0 : Value} : am_g d X am_m4004 1 [v0] sk st Q = am_gt 128 4 [v0] sk st (fun pc lc sk st => am_g d X am_m4004 pc lc sk st Q) := am_gu.trans rfl
theorem u4004_4 {x : Nat} : am_g d X am_m4004 4 [.ref x] sk st Q = am_g d X am_m4004 5 [.ref x] (.ref x :: sk) st Q := am_gu.trans rfl
theorem u4004_5 {v0 : Value} : am_g d X am_m4004 5 [v0] sk st Q = am_gt 128 8 [v0] sk st (fun pc lc sk st => am_g d X am_m4004 pc lc sk st Q) := am_gu.trans rfl
theorem u4004_8 {v0 : Value} : am_g d X am_m4004 8 [v0] sk st Q = am_gt 168 11 [v0] sk st (fun pc lc sk st => am_g d X am_m4004 pc lc sk st Q) := am_gu.trans rfl
theorem u4004_11 {v0 : Value} : am_g d X am_m4004 11 [v0] sk st Q = am_g d X am_m4004 12 [v0] (.int (am_i 1) :: sk) st Q := am_gu.trans rfl
theorem u4004_12 {v0 : Value} {x : Int32} {y : Int32} : am_g d X am_m4004 12 [v0] (.int y :: .int x :: sk) st Q = (if decide (¬ x = y) = true then am_g d X am_m4004 25 [v0] sk st Q else am_g d X am_m4004 15 [v0] sk st Q) := am_gu.trans rfl
theorem u4004_15 {x : Nat} : am_g d X am_m4004 15 [.ref x] sk st Q = am_g d X am_m4004 16 [.ref x] (.ref x :: sk) st Q := am_gu.trans rfl
theorem u4004_16 {v0 : Value} : am_g d X am_m4004 16 [v0] sk st Q = am_gt 128 19 [v0] sk st (fun pc lc sk st => am_g d X am_m4004 pc lc sk st Q) := am_gu.trans rfl
theorem u4004_19 {v0 : Value} : am_g d X am_m4004 19 [v0] sk st Q = am_gt 169 22 [v0] sk st (fun pc lc sk st => am_g d X am_m4004 pc lc sk st Q) := am_gu.trans rfl
theorem u4004_22 {v0 : Value} : am_g d X am_m4004 22 [v0] sk st Q = am_g d X am_m4004 26 [v0] sk st Q := am_gu.trans rfl
theorem u4004_25 {v0 : Value} : am_g d X am_m4004 25 [v0] sk st Q = am_g d X am_m4004 26 [v0] (.int (am_i (-1)) :: sk) st Q := am_gu.trans rfl
theorem u4004_26 {a0 : Value} {v0 : Value} : am_g d X am_m4004 26 [v0] (a0 :: .ref o :: sk) st Q = ((am_ob st o 5 ∧ sk.length ≤ 4) ∧ am_Ca X d 5013 [.ref o, a0] st (am_af am_m4004 26 [v0] sk (fun pc lc sk st => am_g d X am_m4004 pc lc sk st Q) Q)) := am_gu.trans rfl
theorem u4004_29 {v0 : Value} {x : Int32} : am_g d X am_m4004 29 [v0] [.int x] st Q = Q (.inl (some (.int x))) st := am_gu.trans rfl
set_option maxRecDepth 100000 in
theorem of_4005 : am_of 4005 = some am_m4005 := rfl
theorem c4005 {z a0} {P : am_Q} : am_Ca X (d + 1) 4005 [.ref z, .int a0] st P = am_g d X am_m4005 0 [.ref z, .int a0, am_u] [] st P := am_cg of_4005 (by show 2 ≤ 3; decide)
theorem hd_4005 : am_hd am_m4005 = [] := rfl
theorem u4005_0 {v1 : Value} {v2 : Value} {x : Nat} : am_g d X am_m4005 0 [.ref x, v1, v2] sk st Q = am_g d X am_m4005 1 [.ref x, v1, v2] (.ref x :: sk) st Q := am_gu.trans rfl
theorem u4005_1 {v0 : Value} {v1 : Value} {v2 : Value} : am_g d X am_m4005 1 [v0, v1, v2] sk st Q = am_gt 128 4 [v0, v1, v2] sk st (fun pc lc sk st => am_g d X am_m4005 pc lc sk st Q) := am_gu.trans rfl
theorem u4005_4 {v0 : Value} {v1 : Value} {v2 : Value} : am_g d X am_m4005 4 [v0, v1, v2] (.ref o :: sk) st Q = ((am_ob st o 5 ∧ sk.length ≤ 4) ∧ am_Ca X d 5016 [.ref o] st (am_af am_m4005 4 [v0, v1, v2] sk (fun pc lc sk st => am_g d X am_m4005 pc lc sk st Q) Q)) := am_gu.trans rfl
theorem u4005_7 {v0 : Value} {v1 : Value} {v2 : Value} {x : Int32} : am_g d X am_m4005 7 [v0, v1, v2] (.int x :: sk) st Q = am_g d X am_m4005 8 [v0, am_kc v1, .int x] sk st Q := am_gu.trans (congrArg (fun l => am_g d X am_m4005 8 (List.set l 2 (.int x)) sk st Q) (kl_2 (l := [v2])))
theorem u4005_8 {v1 : Value} {v2 : Value} {x : Nat} : am_g d X am_m4005 8 [.ref x, v1, v2] sk st Q = am_g d X am_m4005 9 [.ref x, v1, v2] (.ref x :: sk) st Q := am_gu.trans rfl
theorem u4005_9 {v0 : Value} {v1 : Value} {v2 : Value} : am_g d X am_m4005 9 [v0, v1, v2] sk st Q = am_gt 128 12 [v0, v1, v2] sk st (fun pc lc sk st => am_g d X am_m4005 pc lc sk st Q) := am_gu.trans rfl
theorem u4005_12 {v0 : Value} {v2 : Value} {x : Int32} : am_g d X am_m4005 12 [v0, .int x, v2] sk st Q = am_g d X am_m4005 13 [v0, .int x, v2] (.int x :: sk) st Q := am_gu.trans rfl
theorem u4005_13 {a0 : Value} {v0 : Value} {v1 : Value} {v2 : Value} : am_g d X am_m4005 13 [v0, v1, v2] (a0 :: .ref o :: sk) st Q = ((am_ob st o 5 ∧ sk.length ≤ 4) ∧ am_Ca X d 5020 [.ref o, a0] st (am_af am_m4005 13 [v0, v1, v2] sk (fun pc lc sk st => am_g d X am_m4005 pc lc sk st Q) Q)) := am_gu.trans rfl
theorem u4005_16 {v0 : Value} {v1 : Value} {x : Int32} : am_g d X am_m4005 16 [v0, v1, .int x] sk st Q = am_g d X am_m4005 17 [v0, v1, .int x] (.int x :: sk) st Q := am_gu.trans rfl
theorem u4005_17 {v0 : Value} {v1 : Value} {v2 : Value} {x : Int32} : am_g d X am_m4005 17 [v0, v1, v2] [.int x] st Q = Q (.inl (some (.int x))) st := am_gu.trans rfl
set_option maxRecDepth 100000 in
theorem of_4006 : am_of 4006 = some am_m4006 := rfl
theorem c4006 {z} {P : am_Q} : am_Ca X (d + 1) 4006 [.ref z] st P = am_g d X am_m4006 0 [.ref z] [] st P := am_cg of_4006 (by show 1 ≤ 1; decide)
theorem hd_4006 : am_hd am_m4006 = [] := rfl
theorem u4006_0 {x : Nat} : am_g d X am_m4006 0 [.ref x] sk st Q = am_g d X am_m4006 1 [.ref x] (.ref x :: sk) st Q := am_gu.trans rfl
theorem u4006_1 {v0 : Value} : am_g d X am_m4006 1 [v0] sk st Q = am_gt 128 4 [v0] sk st (fun pc lc sk st => am_g d X am_m4006 pc lc sk st Q) := am_gu.trans rfl
theorem u4006_4 {v0 : Value} : am_g d X am_m4006 4 [v0] sk st Q = am_gt 168 7 [v0] sk st (fun pc lc sk st => am_g d X am_m4006 pc lc sk st Q) := am_gu.trans rfl
theorem u4006_7 {v0 : Value} {x : Int32} : am_g d X am_m4006 7 [v0] (.int x :: sk) st Q = (if decide (¬ x = 0) = true then am_g d X am_m4006 35 [v0] sk st Q else am_g d X am_m4006 10 [v0] sk st Q) := am_gu.trans rfl
theorem u4006_10 {x : Nat} : am_g d X am_m4006 10 [.ref x] sk st Q = am_g d X am_m4006 11 [.ref x] (.ref x :: sk) st Q := am_gu.trans rfl
theorem u4006_11 {v0 : Value} : am_g d X am_m4006 11 [v0] sk st Q = am_gt 128 14 [v0] sk st (fun pc lc sk st => am_g d X am_m4006 pc lc sk st Q) := am_gu.trans rfl
theorem u4006_14 {v0 : Value} : am_g d X am_m4006 14 [v0] (.ref o :: sk) st Q = ((am_ob st o 5 ∧ sk.length ≤ 4) ∧ am_Ca X d 5024 [.ref o] st (am_af am_m4006 14 [v0] sk (fun pc lc sk st => am_g d X am_m4006 pc lc sk st Q) Q)) := am_gu.trans rfl
theorem u4006_17 {v0 : Value} {x : Int32} : am_g d X am_m4006 17 [v0] (.int x :: sk) st Q = (if decide (x ≤ 0) = true then am_g d X am_m4006 35 [v0] sk st Q else am_g d X am_m4006 20 [v0] sk st Q) := am_gu.trans rfl
theorem u4006_20 {x : Nat} : am_g d X am_m4006 20 [.ref x] sk st Q = am_g d X am_m4006 21 [.ref x] (.ref x :: sk) st Q := am_gu.trans rfl
theorem u4006_21 {v0 : Value} : am_g d X am_m4006 21 [v0] sk st Q = am_gt 128 24 [v0] sk st (fun pc lc sk st => am_g d X am_m4006 pc lc sk st Q) := am_gu.trans rfl
theorem u4006_24 {v0 : Value} : am_g d X am_m4006 24 [v0] sk st Q = am_gt 170 27 [v0] sk st (fun pc lc sk st => am_g d X am_m4006 pc lc sk st Q) := am_gu.trans rfl
theorem u4006_27 {v0 : Value} : am_g d X am_m4006 27 [v0] sk st Q = am_g d X am_m4006 28 [v0] (.int (am_i 3) :: sk) st Q := am_gu.trans rfl
theorem u4006_28 {v0 : Value} {x : Int32} {y : Int32} : am_g d X am_m4006 28 [v0] (.int y :: .int x :: sk) st Q = (if decide (y ≤ x) = true then am_g d X am_m4006 35 [v0] sk st Q else am_g d X am_m4006 31 [v0] sk st Q) := am_gu.trans rfl
theorem u4006_31 {v0 : Value} : am_g d X am_m4006 31 [v0] sk st Q = am_g d X am_m4006 32 [v0] (.int (am_i 1) :: sk) st Q := am_gu.trans rfl
theorem u4006_32 {v0 : Value} : am_g d X am_m4006 32 [v0] sk st Q = am_g d X am_m4006 36 [v0] sk st Q := am_gu.trans rfl
theorem u4006_35 {v0 : Value} : am_g d X am_m4006 35 [v0] sk st Q = am_g d X am_m4006 36 [v0] (.int (am_i 0) :: sk) st Q := am_gu.trans rfl
theorem u4006_36 {v0 : Value} {x : Int32} : am_g d X am_m4006 36 [v0] [.int x] st Q = ((x = 0 ∨ x = 1) ∧ Q (.inl (some (.int x))) st) := am_gu.trans rfl
set_option maxRecDepth 100000 in
theorem of_4007 : am_of 4007 = some am_m4007 := rfl
theorem c4007 {z} {P : am_Q} : am_Ca X (d + 1) 4007 [.ref z] st P = am_g d X am_m4007 0 [.ref z] [] st P := am_cg of_4007 (by show 1 ≤ 1; decide)
theorem hd_4007 : am_hd am_m4007 = [] := rfl
theorem u4007_0 {x : Nat} : am_g d X am_m4007 0 [.ref x] sk st Q = am_g d X am_m4007 1 [.ref x] (.ref x :: sk) st Q := am_gu.trans rfl
theorem u4007_1 {v0 : Value} : am_g d X am_m4007 1 [v0] sk st Q = am_gt 128 4 [v0] sk st (fun pc lc sk st => am_g d X am_m4007 pc lc sk st Q) := am_gu.trans rfl
theorem u4007_4 {v0 : Value} : am_g d X am_m4007 4 [v0] (.ref o :: sk) st Q = ((am_ob st o 5 ∧ sk.length ≤ 4) ∧ am_Ca X d 5032 [.ref o] st (am_af am_m4007 4 [v0] sk (fun pc lc sk st => am_g d X am_m4007 pc lc sk st Q) Q)) := am_gu.trans rfl
theorem u4007_7 {x : Nat} : am_g d X am_m4007 7 [.ref x] sk st Q = am_g d X am_m4007 8 [.ref x] (.ref x :: sk) st Q := am_gu.trans rfl
theorem u4007_8 {v0 : Value} : am_g d X am_m4007 8 [v0] sk st Q = am_gt 128 11 [v0] sk st (fun pc lc sk st => am_g d X am_m4007 pc lc sk st Q) := am_gu.trans rfl
theorem u4007_11 {x : Nat} : am_g d X am_m4007 11 [.ref x] sk st Q = am_g d X am_m4007 12 [.ref x] (.ref x :: sk) st Q := am_gu.trans rfl
theorem u4007_12 {v0 : Value} : am_g d X am_m4007 12 [v0] sk st Q = am_gt 128 15 [v0] sk st (fun pc lc sk st => am_g d X am_m4007 pc lc sk st Q) := am_gu.trans rfl
theorem u4007_15 {v0 : Value} : am_g d X am_m4007 15 [v0] (.ref o :: sk) st Q = ((am_ob st o 5 ∧ sk.length ≤ 4) ∧ am_Ca X d 5016 [.ref o] st (am_af am_m4007 15 [v0] sk (fun pc lc sk st => am_g d X am_m4007 pc lc sk st Q) Q)) := am_gu.trans rfl
theorem u4007_18 {a0 : Value} {v0 : Value} : am_g d X am_m4007 18 [v0] (a0 :: .ref o :: sk) st Q = ((am_ob st o 5 ∧ sk.length ≤ 4) ∧ am_Ca X d 5020 [.ref o, a0] st (am_af am_m4007 18 [v0] sk (fun pc lc sk st => am_g d X am_m4007 pc lc sk st Q) Q)) := am_gu.trans rfl
theorem u4007_21 {x : Nat} : am_g d X am_m4007 21 [.ref x] sk st Q = am_g d X am_m4007 22 [.ref x] (.ref x :: sk) st Q := am_gu.trans rfl
theorem u4007_22 {v0 : Value} : am_g d X am_m4007 22 [v0] sk st Q = am_gt 128 25 [v0] sk st (fun pc lc sk st => am_g d X am_m4007 pc lc sk st Q) := am_gu.trans rfl
theorem u4007_25 {v0 : Value} : am_g d X am_m4007 25 [v0] sk st Q = am_gt 170 28 [v0] sk st (fun pc lc sk st => am_g d X am_m4007 pc lc sk st Q) := am_gu.trans rfl
theorem u4007_28 {v0 : Value} {x : Int32} : am_g d X am_m4007 28 [v0] [.int x] st Q = Q (.inl (some (.int x))) st := am_gu.trans rfl
set_option maxRecDepth 100000 in
theorem of_4008 : am_of 4008 = some am_m4008 := rfl
theorem c4008 {z} {P : am_Q} : am_Ca X (d + 1) 4008 [.ref z] st P = am_g d X am_m4008 0 [.ref z] [] st P := am_cg of_4008 (by show 1 ≤ 1; decide)
theorem hd_4008 : am_hd am_m4008 = [] := rfl
theorem u4008_0 {x : Nat} : am_g d X am_m4008 0 [.ref x] sk st Q = am_g d X am_m4008 1 [.ref x] (.ref x :: sk) st Q := am_gu.trans rfl
theorem u4008_1 {v0 : Value} : am_g d X am_m4008 1 [v0] sk st Q = am_gt 128 4 [v0] sk st (fun pc lc sk st => am_g d X am_m4008 pc lc sk st Q) := am_gu.trans rfl
theorem u4008_4 {v0 : Value} : am_g d X am_m4008 4 [v0] sk st Q = am_gt 170 7 [v0] sk st (fun pc lc sk st => am_g d X am_m4008 pc lc sk st Q) := am_gu.trans rfl
theorem u4008_7 {v0 : Value} {x : Int32} : am_g d X am_m4008 7 [v0] (.int x :: sk) st Q = (if decide (x = 0) = true then am_g d X am_m4008 20 [v0] sk st Q else am_g d X am_m4008 10 [v0] sk st Q) := am_gu.trans rfl
theorem u4008_10 {x : Nat} : am_g d X am_m4008 10 [.ref x] sk st Q = am_g d X am_m4008 11 [.ref x] (.ref x :: sk) st Q := am_gu.trans rfl
theorem u4008_11 {v0 : Value} : am_g d X am_m4008 11 [v0] sk st Q = am_gt 128 14 [v0] sk st (fun pc lc sk st => am_g d X am_m4008 pc lc sk st Q) := am_gu.trans rfl
theorem u4008_14 {v0 : Value} : am_g d X am_m4008 14 [v0] sk st Q = am_gt 168 17 [v0] sk st (fun pc lc sk st => am_g d X am_m4008 pc lc sk st Q) := am_gu.trans rfl
theorem u4008_17 {v0 : Value} {x : Int32} : am_g d X am_m4008 17 [v0] (.int x :: sk) st Q = (if decide (x = 0) = true then am_g d X am_m4008 22 [v0] sk st Q else am_g d X am_m4008 20 [v0] sk st Q) := am_gu.trans rfl
theorem u4008_20 {v0 : Value} : am_g d X am_m4008 20 [v0] sk st Q = am_g d X am_m4008 21 [v0] (.int (am_i 0) :: sk) st Q := am_gu.trans rfl
theorem u4008_21 {v0 : Value} {x : Int32} : am_g d X am_m4008 21 [v0] [.int x] st Q = ((x = 0 ∨ x = 1) ∧ Q (.inl (some (.int x))) st) := am_gu.trans rfl
theorem u4008_22 {x : Nat} : am_g d X am_m4008 22 [.ref x] sk st Q = am_g d X am_m4008 23 [.ref x] (.ref x :: sk) st Q := am_gu.trans rfl
theorem u4008_23 {v0 : Value} : am_g d X am_m4008 23 [v0] (.ref o :: sk) st Q = ((am_ob st o 4 ∧ sk.length ≤ 4) ∧ am_Ca X d 4029 [.ref o] st (am_af am_m4008 23 [v0] sk (fun pc lc sk st => am_g d X am_m4008 pc lc sk st Q) Q)) := am_gu.trans rfl
theorem u4008_26 {x : Nat} : am_g d X am_m4008 26 [.ref x] sk st Q = am_g d X am_m4008 27 [.ref x] (.ref x :: sk) st Q := am_gu.trans rfl
theorem u4008_27 {v0 : Value} : am_g d X am_m4008 27 [v0] sk st Q = am_gt 130 30 [v0] sk st (fun pc lc sk st => am_g d X am_m4008 pc lc sk st Q) := am_gu.trans rfl
theorem u4008_30 {v0 : Value} : am_g d X am_m4008 30 [v0] sk st Q = am_gt 5 33 [v0] sk st (fun pc lc sk st => am_g d X am_m4008 pc lc sk st Q) := am_gu.trans rfl
theorem u4008_33 {v0 : Value} {x : Int32} : am_g d X am_m4008 33 [v0] (.int x :: sk) st Q = (if decide (¬ x = 0) = true then am_g d X am_m4008 40 [v0] sk st Q else am_g d X am_m4008 36 [v0] sk st Q) := am_gu.trans rfl
theorem u4008_36 {v0 : Value} : am_g d X am_m4008 36 [v0] sk st Q = am_g d X am_m4008 37 [v0] (.int (am_i 1) :: sk) st Q := am_gu.trans rfl
theorem u4008_37 {v0 : Value} : am_g d X am_m4008 37 [v0] sk st Q = am_g d X am_m4008 41 [v0] sk st Q := am_gu.trans rfl
theorem u4008_40 {v0 : Value} : am_g d X am_m4008 40 [v0] sk st Q = am_g d X am_m4008 41 [v0] (.int (am_i 0) :: sk) st Q := am_gu.trans rfl
theorem u4008_41 {v0 : Value} {x : Int32} : am_g d X am_m4008 41 [v0] [.int x] st Q = ((x = 0 ∨ x = 1) ∧ Q (.inl (some (.int x))) st) := am_gu.trans rfl
set_option maxRecDepth 100000 in
theorem of_4009 : am_of 4009 = some am_m4009 := rfl
theorem c4009 {z} {P : am_Q} : am_Ca X (d + 1) 4009 [.ref z] st P = am_g d X am_m4009 0 [.ref z] [] st P := am_cg of_4009 (by show 1 ≤ 1; decide)
theorem hd_4009 : am_hd am_m4009 = [] := rfl
theorem u4009_0 {x : Nat} : am_g d X am_m4009 0 [.ref x] sk st Q = am_g d X am_m4009 1 [.ref x] (.ref x :: sk) st Q := am_gu.trans rfl
theorem u4009_1 {v0 : Value} : am_g d X am_m4009 1 [v0] (.ref o :: sk) st Q = ((am_ob st o 4 ∧ sk.length ≤ 4) ∧ am_Ca X d 4029 [.ref o] st (am_af am_m4009 1 [v0] sk (fun pc lc sk st => am_g d X am_m4009 pc lc sk st Q) Q)) := am_gu.trans rfl
theorem u4009_4 {x : Nat} : am_g d X am_m4009 4 [.ref x] sk st Q = am_g d X am_m4009 5 [.ref x] (.ref x :: sk) st Q := am_gu.trans rfl
theorem u4009_5 {v0 : Value} : am_g d X am_m4009 5 [v0] (.ref o :: sk) st Q = ((am_ob st o 4 ∧ sk.length ≤ 4) ∧ am_Ca X d 4031 [.ref o] st (am_af am_m4009 5 [v0] sk (fun pc lc sk st => am_g d X am_m4009 pc lc sk st Q) Q)) := am_gu.trans rfl
theorem u4009_8 {x : Nat} : am_g d X am_m4009 8 [.ref x] sk st Q = am_g d X am_m4009 9 [.ref x] (.ref x :: sk) st Q := am_gu.trans rfl
theorem u4009_9 {v0 : Value} : am_g d X am_m4009 9 [v0] sk st Q = am_gt 128 12 [v0] sk st (fun pc lc sk st => am_g d X am_m4009 pc lc sk st Q) := am_gu.trans rfl
theorem u4009_12i {v0 : Value} {x : Int32} : am_g d X am_m4009 12 [v0] (.int x :: sk) st Q = am_g d X am_m4009 13 [v0] (.int x :: .int x :: sk) st Q := am_gu.trans rfl
theorem u4009_12r {v0 : Value} {x : Nat} : am_g d X am_m4009 12 [v0] (.ref x :: sk) st Q = am_g d X am_m4009 13 [v0] (.ref x :: .ref x :: sk) st Q := am_gu.trans rfl
theorem u4009_13 {v0 : Value} : am_g d X am_m4009 13 [v0] sk st Q = am_gt 170 16 [v0] sk st (fun pc lc sk st => am_g d X am_m4009 pc lc sk st Q) := am_gu.trans rfl
theorem u4009_16 {v0 : Value} : am_g d X am_m4009 16 [v0] sk st Q = am_g d X am_m4009 17 [v0] (.int (am_i 1) :: sk) st Q := am_gu.trans rfl
theorem u4009_17 {v0 : Value} {x : Int32} {y : Int32} : am_g d X am_m4009 17 [v0] (.int y :: .int x :: sk) st Q = am_g d X am_m4009 18 [v0] (.int (x - y) :: sk) st Q := am_gu.trans rfl
theorem u4009_18 {v0 : Value} : am_g d X am_m4009 18 [v0] sk st Q = am_pt 170 21 [v0] sk st (fun pc lc sk st => am_g d X am_m4009 pc lc sk st Q) := am_gu.trans rfl
theorem u4009_21 {x : Nat} : am_g d X am_m4009 21 [.ref x] sk st Q = am_g d X am_m4009 22 [.ref x] (.ref x :: sk) st Q := am_gu.trans rfl
theorem u4009_22 {v0 : Value} : am_g d X am_m4009 22 [v0] sk st Q = am_gt 130 25 [v0] sk st (fun pc lc sk st => am_g d X am_m4009 pc lc sk st Q) := am_gu.trans rfl
theorem u4009_25 {v0 : Value} : am_g d X am_m4009 25 [v0] sk st Q = am_gt 4 28 [v0] sk st (fun pc lc sk st => am_g d X am_m4009 pc lc sk st Q) := am_gu.trans rfl
theorem u4009_28 {v0 : Value} {x : Int32} : am_g d X am_m4009 28 [v0] [.int x] st Q = Q (.inl (some (.int x))) st := am_gu.trans rfl
set_option maxRecDepth 100000 in
theorem of_4010 : am_of 4010 = some am_m4010 := rfl
theorem c4010 {z} {P : am_Q} : am_Ca X (d + 1) 4010 [.ref z] st P = am_g d X am_m4010 0 [.ref z] [] st P := am_cg of_4010 (by show 1 ≤ 1; decide)
theorem hd_4010 : am_hd am_m4010 = [] := rfl
theorem u4010_0 {x : Nat} : am_g d X am_m4010 0 [.ref x] sk st Q = am_g d X am_m4010 1 [.ref x] (.ref x :: sk) st Q := am_gu.trans rfl
theorem u4010_1 {v0 : Value} : am_g d X am_m4010 1 [v0] sk st Q = am_gt 128 4 [v0] sk st (fun pc lc sk st => am_g d X am_m4010 pc lc sk st Q) := am_gu.trans rfl
theorem u4010_4 {v0 : Value} : am_g d X am_m4010 4 [v0] (.ref o :: sk) st Q = ((am_ob st o 5 ∧ sk.length ≤ 4) ∧ am_Ca X d 5018 [.ref o] st (am_af am_m4010 4 [v0] sk (fun pc lc sk st => am_g d X am_m4010 pc lc sk st Q) Q)) := am_gu.trans rfl
theorem u4010_7 {v0 : Value} : am_g d X am_m4010 7 [v0] sk st Q = am_g d X am_m4010 8 [v0] (.int (am_i (-1)) :: sk) st Q := am_gu.trans rfl
theorem u4010_8 {v0 : Value} {x : Int32} {y : Int32} : am_g d X am_m4010 8 [v0] (.int y :: .int x :: sk) st Q = (if decide (x = y) = true then am_g d X am_m4010 15 [v0] sk st Q else am_g d X am_m4010 11 [v0] sk st Q) := am_gu.trans rfl
theorem u4010_11 {v0 : Value} : am_g d X am_m4010 11 [v0] sk st Q = am_g d X am_m4010 12 [v0] (.int (am_i 1) :: sk) st Q := am_gu.trans rfl
theorem u4010_12 {v0 : Value} : am_g d X am_m4010 12 [v0] sk st Q = am_g d X am_m4010 16 [v0] sk st Q := am_gu.trans rfl
theorem u4010_15 {v0 : Value} : am_g d X am_m4010 15 [v0] sk st Q = am_g d X am_m4010 16 [v0] (.int (am_i 0) :: sk) st Q := am_gu.trans rfl
theorem u4010_16 {v0 : Value} {x : Int32} : am_g d X am_m4010 16 [v0] [.int x] st Q = ((x = 0 ∨ x = 1) ∧ Q (.inl (some (.int x))) st) := am_gu.trans rfl
set_option maxRecDepth 100000 in
theorem of_4011 : am_of 4011 = some am_m4011 := rfl
theorem c4011 {z} {P : am_Q} : am_Ca X (d + 1) 4011 [.ref z] st P = am_g d X am_m4011 0 [.ref z, am_u] [] st P := am_cg of_4011 (by show 1 ≤ 2; decide)
theorem hd_4011 : am_hd am_m4011 = [] := rfl
theorem u4011_0 {v1 : Value} {x : Nat} : am_g d X am_m4011 0 [.ref x, v1] sk st Q = am_g d X am_m4011 1 [.ref x, v1] (.ref x :: sk) st Q := am_gu.trans rfl
theorem u4011_1 {v0 : Value} {v1 : Value} : am_g d X am_m4011 1 [v0, v1] sk st Q = am_gt 128 4 [v0, v1] sk st (fun pc lc sk st => am_g d X am_m4011 pc lc sk st Q) := am_gu.trans rfl
theorem u4011_4 {v0 : Value} {v1 : Value} : am_g d X am_m4011 4 [v0, v1] (.ref o :: sk) st Q = ((am_ob st o 5 ∧ sk.length ≤ 4) ∧ am_Ca X d 5018 [.ref o] st (am_af am_m4011 4 [v0, v1] sk (fun pc lc sk st => am_g d X am_m4011 pc lc sk st Q) Q)) := am_gu.trans rfl
theorem u4011_7 {v0 : Value} {v1 : Value} {x : Int32} : am_g d X am_m4011 7 [v0, v1] (.int x :: sk) st Q = am_g d X am_m4011 8 [am_kc v0, .int x] sk st Q := am_gu.trans (congrArg (fun l => am_g d X am_m4011 8 (List.set l 1 (.int x)) sk st Q) (kl_1 (l := [v1])))
theorem u4011_8 {v1 : Value} {x : Nat} : am_g d X am_m4011 8 [.ref x, v1] sk st Q = am_g d X am_m4011 9 [.ref x, v1] (.ref x :: sk) st Q := am_gu.trans rfl
theorem u4011_9 {v0 : Value} {v1 : Value} : am_g d X am_m4011 9 [v0, v1] sk st Q = am_gt 128 12 [v0, v1] sk st (fun pc lc sk st => am_g d X am_m4011 pc lc sk st Q) := am_gu.trans rfl
theorem u4011_12 {v0 : Value} {x : Int32} : am_g d X am_m4011 12 [v0, .int x] sk st Q = am_g d X am_m4011 13 [v0, .int x] (.int x :: sk) st Q := am_gu.trans rfl
theorem u4011_13 {v1 : Value} {x : Nat} : am_g d X am_m4011 13 [.ref x, v1] sk st Q = am_g d X am_m4011 14 [.ref x, v1] (.ref x :: sk) st Q := am_gu.trans rfl
theorem u4011_14 {v0 : Value} {v1 : Value} : am_g d X am_m4011 14 [v0, v1] sk st Q = am_gt 128 17 [v0, v1] sk st (fun pc lc sk st => am_g d X am_m4011 pc lc sk st Q) := am_gu.trans rfl
theorem u4011_17 {v0 : Value} {v1 : Value} : am_g d X am_m4011 17 [v0, v1] (.ref o :: sk) st Q = ((am_ob st o 5 ∧ sk.length ≤ 4) ∧ am_Ca X d 5016 [.ref o] st (am_af am_m4011 17 [v0, v1] sk (fun pc lc sk st => am_g d X am_m4011 pc lc sk st Q) Q)) := am_gu.trans rfl
theorem u4011_20 {a0 : Value} {a1 : Value} {v0 : Value} {v1 : Value} : am_g d X am_m4011 20 [v0, v1] (a1 :: a0 :: .ref o :: sk) st Q = ((am_ob st o 5 ∧ sk.length ≤ 4) ∧ am_Ca X d 5019 [.ref o, a0, a1] st (am_af am_m4011 20 [v0, v1] sk (fun pc lc sk st => am_g d X am_m4011 pc lc sk st Q) Q)) := am_gu.trans rfl
theorem u4011_23 {v0 : Value} {x : Int32} : am_g d X am_m4011 23 [v0, .int x] sk st Q = am_g d X am_m4011 24 [v0, .int x] (.int x :: sk) st Q := am_gu.trans rfl
theorem u4011_24 {v0 : Value} {v1 : Value} {x : Int32} : am_g d X am_m4011 24 [v0, v1] [.int x] st Q = Q (.inl (some (.int x))) st := am_gu.trans rfl
set_option maxRecDepth 100000 in
theorem of_4012 : am_of 4012 = some am_m4012 := rfl
theorem c4012 {z a0} {P : am_Q} : am_Ca X (d + 1) 4012 [.ref z, .int a0] st P = am_g d X am_m4012 0 [.ref z, .int a0] [] st P := am_cg of_4012 (by show 2 ≤ 2; decide)
theorem hd_4012 : am_hd am_m4012 = [] := rfl
theorem u4012_0 {v1 : Value} {x : Nat} : am_g d X am_m4012 0 [.ref x, v1] sk st Q = am_g d X am_m4012 1 [.ref x, v1] (.ref x :: sk) st Q := am_gu.trans rfl
theorem u4012_1 {v0 : Value} {v1 : Value} : am_g d X am_m4012 1 [v0, v1] sk st Q = am_gt 128 4 [v0, v1] sk st (fun pc lc sk st => am_g d X am_m4012 pc lc sk st Q) := am_gu.trans rfl
theorem u4012_4 {v0 : Value} {x : Int32} : am_g d X am_m4012 4 [v0, .int x] sk st Q = am_g d X am_m4012 5 [v0, .int x] (.int x :: sk) st Q := am_gu.trans rfl
theorem u4012_5 {a0 : Value} {v0 : Value} {v1 : Value} : am_g d X am_m4012 5 [v0, v1] (a0 :: .ref o :: sk) st Q = ((am_ob st o 5 ∧ sk.length ≤ 4) ∧ am_Ca X d 5014 [.ref o, a0] st (am_af am_m4012 5 [v0, v1] sk (fun pc lc sk st => am_g d X am_m4012 pc lc sk st Q) Q)) := am_gu.trans rfl
theorem u4012_8 {v0 : Value} {v1 : Value} {x : Int32} : am_g d X am_m4012 8 [v0, v1] (.int x :: sk) st Q = (if decide (x = 0) = true then am_g d X am_m4012 26 [v0, v1] sk st Q else am_g d X am_m4012 11 [v0, v1] sk st Q) := am_gu.trans rfl
theorem u4012_11 {v0 : Value} {x : Int32} : am_g d X am_m4012 11 [v0, .int x] sk st Q = am_g d X am_m4012 12 [v0, .int x] (.int x :: sk) st Q := am_gu.trans rfl
theorem u4012_12 {v1 : Value} {x : Nat} : am_g d X am_m4012 12 [.ref x, v1] sk st Q = am_g d X am_m4012 13 [.ref x, v1] (.ref x :: sk) st Q := am_gu.trans rfl
theorem u4012_13 {v0 : Value} {v1 : Value} : am_g d X am_m4012 13 [v0, v1] sk st Q = am_gt 128 16 [v0, v1] sk st (fun pc lc sk st => am_g d X am_m4012 pc lc sk st Q) := am_gu.trans rfl
theorem u4012_16 {v0 : Value} {v1 : Value} : am_g d X am_m4012 16 [v0, v1] sk st Q = am_gt 165 19 [v0, v1] sk st (fun pc lc sk st => am_g d X am_m4012 pc lc sk st Q) := am_gu.trans rfl
theorem u4012_19 {v0 : Value} {v1 : Value} {x : Int32} {y : Int32} : am_g d X am_m4012 19 [v0, v1] (.int y :: .int x :: sk) st Q = (if decide (x = y) = true then am_g d X am_m4012 26 [v0, v1] sk st Q else am_g d X am_m4012 22 [v0, v1] sk st Q) := am_gu.trans rfl
theorem u4012_22 {v0 : Value} {v1 : Value} : am_g d X am_m4012 22 [v0, v1] sk st Q = am_g d X am_m4012 23 [v0, v1] (.int (am_i 1) :: sk) st Q := am_gu.trans rfl
theorem u4012_23 {v0 : Value} {v1 : Value} : am_g d X am_m4012 23 [v0, v1] sk st Q = am_g d X am_m4012 27 [v0, v1] sk st Q := am_gu.trans rfl
theorem u4012_26 {v0 : Value} {v1 : Value} : am_g d X am_m4012 26 [v0, v1] sk st Q = am_g d X am_m4012 27 [v0, v1] (.int (am_i 0) :: sk) st Q := am_gu.trans rfl
theorem u4012_27 {v0 : Value} {v1 : Value} {x : Int32} : am_g d X am_m4012 27 [v0, v1] [.int x] st Q = ((x = 0 ∨ x = 1) ∧ Q (.inl (some (.int x))) st) := am_gu.trans rfl
set_option maxRecDepth 100000 in
theorem of_4013 : am_of 4013 = some am_m4013 := rfl
theorem c4013 {z a0} {P : am_Q} : am_Ca X (d + 1) 4013 [.ref z, .int a0] st P = am_g d X am_m4013 0 [.ref z, .int a0, am_u] [] st P := am_cg of_4013 (by show 2 ≤ 3; decide)
theorem hd_4013 : am_hd am_m4013 = [] := rfl
theorem u4013_0 {v1 : Value} {v2 : Value} {x : Nat} : am_g d X am_m4013 0 [.ref x, v1, v2] sk st Q = am_g d X am_m4013 1 [.ref x, v1, v2] (.ref x :: sk) st Q := am_gu.trans rfl
theorem u4013_1 {v0 : Value} {v1 : Value} {v2 : Value} : am_g d X am_m4013 1 [v0, v1, v2] sk st Q = am_gt 128 4 [v0, v1, v2] sk st (fun pc lc sk st => am_g d X am_m4013 pc lc sk st Q) := am_gu.trans rfl
theorem u4013_4 {v0 : Value} {v2 : Value} {x : Int32} : am_g d X am_m4013 4 [v0, .int x, v2] sk st Q = am_g d X am_m4013 5 [v0, .int x, v2] (.int x :: sk) st Q := am_gu.trans rfl
theorem u4013_5 {a0 : Value} {v0 : Value} {v1 : Value} {v2 : Value} : am_g d X am_m4013 5 [v0, v1, v2] (a0 :: .ref o :: sk) st Q = ((am_ob st o 5 ∧ sk.length ≤ 4) ∧ am_Ca X d 5015 [.ref o, a0] st (am_af am_m4013 5 [v0, v1, v2] sk (fun pc lc sk st => am_g d X am_m4013 pc lc sk st Q) Q)) := am_gu.trans rfl
theorem u4013_8 {v0 : Value} {v1 : Value} {v2 : Value} {x : Int32} : am_g d X am_m4013 8 [v0, v1, v2] (.int x :: sk) st Q = am_g d X am_m4013 9 [v0, am_kc v1, .int x] sk st Q := am_gu.trans (congrArg (fun l => am_g d X am_m4013 9 (List.set l 2 (.int x)) sk st Q) (kl_2 (l := [v2])))
theorem u4013_9 {v1 : Value} {v2 : Value} {x : Nat} : am_g d X am_m4013 9 [.ref x, v1, v2] sk st Q = am_g d X am_m4013 10 [.ref x, v1, v2] (.ref x :: sk) st Q := am_gu.trans rfl
theorem u4013_10 {v0 : Value} {v1 : Value} {v2 : Value} : am_g d X am_m4013 10 [v0, v1, v2] sk st Q = am_gt 128 13 [v0, v1, v2] sk st (fun pc lc sk st => am_g d X am_m4013 pc lc sk st Q) := am_gu.trans rfl
theorem u4013_13 {v0 : Value} {v2 : Value} {x : Int32} : am_g d X am_m4013 13 [v0, .int x, v2] sk st Q = am_g d X am_m4013 14 [v0, .int x, v2] (.int x :: sk) st Q := am_gu.trans rfl
theorem u4013_14 {v0 : Value} {v1 : Value} {v2 : Value} : am_g d X am_m4013 14 [v0, v1, v2] sk st Q = am_g d X am_m4013 15 [v0, v1, v2] (.int (am_i (-1)) :: sk) st Q := am_gu.trans rfl
theorem u4013_15 {a0 : Value} {a1 : Value} {v0 : Value} {v1 : Value} {v2 : Value} : am_g d X am_m4013 15 [v0, v1, v2] (a1 :: a0 :: .ref o :: sk) st Q = ((am_ob st o 5 ∧ sk.length ≤ 4) ∧ am_Ca X d 5019 [.ref o, a0, a1] st (am_af am_m4013 15 [v0, v1, v2] sk (fun pc lc sk st => am_g d X am_m4013 pc lc sk st Q) Q)) := am_gu.trans rfl
theorem u4013_18 {v0 : Value} {v1 : Value} {x : Int32} : am_g d X am_m4013 18 [v0, v1, .int x] sk st Q = am_g d X am_m4013 19 [v0, v1, .int x] (.int x :: sk) st Q := am_gu.trans rfl
theorem u4013_19 {v0 : Value} {v1 : Value} {v2 : Value} {x : Int32} : am_g d X am_m4013 19 [v0, v1, v2] [.int x] st Q = Q (.inl (some (.int x))) st := am_gu.trans rfl
set_option maxRecDepth 100000 in
theorem of_4014 : am_of 4014 = some am_m4014 := rfl
theorem c4014 {z a0} {P : am_Q} : am_Ca X (d + 1) 4014 [.ref z, .int a0] st P = am_g d X am_m4014 0 [.ref z, .int a0] [] st P := am_cg of_4014 (by show 2 ≤ 2; decide)
theorem hd_4014 : am_hd am_m4014 = [] := rfl
theorem u4014_0 {v1 : Value} {x : Nat} : am_g d X am_m4014 0 [.ref x, v1] sk st Q = am_g d X am_m4014 1 [.ref x, v1] (.ref x :: sk) st Q := am_gu.trans rfl
theorem u4014_1 {v0 : Value} {v1 : Value} : am_g d X am_m4014 1 [v0, v1] sk st Q = am_gt 128 4 [v0, v1] sk st (fun pc lc sk st => am_g d X am_m4014 pc lc sk st Q) := am_gu.trans rfl
theorem u4014_4 {v0 : Value} {x : Int32} : am_g d X am_m4014 4 [v0, .int x] sk st Q = am_g d X am_m4014 5 [v0, .int x] (.int x :: sk) st Q := am_gu.trans rfl
theorem u4014_5 {a0 : Value} {v0 : Value} {v1 : Value} : am_g d X am_m4014 5 [v0, v1] (a0 :: .ref o :: sk) st Q = ((am_ob st o 5 ∧ sk.length ≤ 4) ∧ am_Ca X d 5014 [.ref o, a0] st (am_af am_m4014 5 [v0, v1] sk (fun pc lc sk st => am_g d X am_m4014 pc lc sk st Q) Q)) := am_gu.trans rfl
theorem u4014_8 {v0 : Value} {v1 : Value} {x : Int32} : am_g d X am_m4014 8 [v0, v1] (.int x :: sk) st Q = (if decide (x = 0) = true then am_g d X am_m4014 36 [v0, v1] sk st Q else am_g d X am_m4014 11 [v0, v1] sk st Q) := am_gu.trans rfl
theorem u4014_11 {v0 : Value} {x : Int32} : am_g d X am_m4014 11 [v0, .int x] sk st Q = am_g d X am_m4014 12 [v0, .int x] (.int x :: sk) st Q := am_gu.trans rfl
theorem u4014_12 {v1 : Value} {x : Nat} : am_g d X am_m4014 12 [.ref x, v1] sk st Q = am_g d X am_m4014 13 [.ref x, v1] (.ref x :: sk) st Q := am_gu.trans rfl
theorem u4014_13 {v0 : Value} {v1 : Value} : am_g d X am_m4014 13 [v0, v1] sk st Q = am_gt 128 16 [v0, v1] sk st (fun pc lc sk st => am_g d X am_m4014 pc lc sk st Q) := am_gu.trans rfl
theorem u4014_16 {v0 : Value} {v1 : Value} : am_g d X am_m4014 16 [v0, v1] sk st Q = am_gt 165 19 [v0, v1] sk st (fun pc lc sk st => am_g d X am_m4014 pc lc sk st Q) := am_gu.trans rfl
theorem u4014_19 {v0 : Value} {v1 : Value} {x : Int32} {y : Int32} : am_g d X am_m4014 19 [v0, v1] (.int y :: .int x :: sk) st Q = (if decide (x = y) = true then am_g d X am_m4014 36 [v0, v1] sk st Q else am_g d X am_m4014 22 [v0, v1] sk st Q) := am_gu.trans rfl
theorem u4014_22 {v1 : Value} {x : Nat} : am_g d X am_m4014 22 [.ref x, v1] sk st Q = am_g d X am_m4014 23 [.ref x, v1] (.ref x :: sk) st Q := am_gu.trans rfl
theorem u4014_23 {v0 : Value} {v1 : Value} : am_g d X am_m4014 23 [v0, v1] sk st Q = am_gt 128 26 [v0, v1] sk st (fun pc lc sk st => am_g d X am_m4014 pc lc sk st Q) := am_gu.trans rfl
theorem u4014_26 {v0 : Value} {v1 : Value} : am_g d X am_m4014 26 [v0, v1] (.ref o :: sk) st Q = ((am_ob st o 5 ∧ sk.length ≤ 4) ∧ am_Ca X d 5026 [.ref o] st (am_af am_m4014 26 [v0, v1] sk (fun pc lc sk st => am_g d X am_m4014 pc lc sk st Q) Q)) := am_gu.trans rfl
theorem u4014_29 {v0 : Value} {v1 : Value} {x : Int32} : am_g d X am_m4014 29 [v0, v1] (.int x :: sk) st Q = (if decide (x = 0) = true then am_g d X am_m4014 36 [v0, v1] sk st Q else am_g d X am_m4014 32 [v0, v1] sk st Q) := am_gu.trans rfl
theorem u4014_32 {v0 : Value} {v1 : Value} : am_g d X am_m4014 32 [v0, v1] sk st Q = am_g d X am_m4014 33 [v0, v1] (.int (am_i 1) :: sk) st Q := am_gu.trans rfl
theorem u4014_33 {v0 : Value} {v1 : Value} : am_g d X am_m4014 33 [v0, v1] sk st Q = am_g d X am_m4014 37 [v0, v1] sk st Q := am_gu.trans rfl
theorem u4014_36 {v0 : Value} {v1 : Value} : am_g d X am_m4014 36 [v0, v1] sk st Q = am_g d X am_m4014 37 [v0, v1] (.int (am_i 0) :: sk) st Q := am_gu.trans rfl
theorem u4014_37 {v0 : Value} {v1 : Value} {x : Int32} : am_g d X am_m4014 37 [v0, v1] [.int x] st Q = ((x = 0 ∨ x = 1) ∧ Q (.inl (some (.int x))) st) := am_gu.trans rfl
set_option maxRecDepth 100000 in
theorem of_4015 : am_of 4015 = some am_m4015 := rfl
theorem c4015 {z a0} {P : am_Q} : am_Ca X (d + 1) 4015 [.ref z, .int a0] st P = am_g d X am_m4015 0 [.ref z, .int a0] [] st P := am_cg of_4015 (by show 2 ≤ 2; decide)
theorem hd_4015 : am_hd am_m4015 = [] := rfl
theorem u4015_0 {v1 : Value} {x : Nat} : am_g d X am_m4015 0 [.ref x, v1] sk st Q = am_g d X am_m4015 1 [.ref x, v1] (.ref x :: sk) st Q := am_gu.trans rfl
theorem u4015_1 {v0 : Value} {v1 : Value} : am_g d X am_m4015 1 [v0, v1] sk st Q = am_gt 128 4 [v0, v1] sk st (fun pc lc sk st => am_g d X am_m4015 pc lc sk st Q) := am_gu.trans rfl
theorem u4015_4 {v0 : Value} {x : Int32} : am_g d X am_m4015 4 [v0, .int x] sk st Q = am_g d X am_m4015 5 [v0, .int x] (.int x :: sk) st Q := am_gu.trans rfl
theorem u4015_5 {v0 : Value} {v1 : Value} : am_g d X am_m4015 5 [v0, v1] sk st Q = am_pt 165 8 [v0, v1] sk st (fun pc lc sk st => am_g d X am_m4015 pc lc sk st Q) := am_gu.trans rfl
theorem u4015_8 {v1 : Value} {x : Nat} : am_g d X am_m4015 8 [.ref x, v1] sk st Q = am_g d X am_m4015 9 [.ref x, v1] (.ref x :: sk) st Q := am_gu.trans rfl
theorem u4015_9 {v0 : Value} {v1 : Value} : am_g d X am_m4015 9 [v0, v1] sk st Q = am_gt 128 12 [v0, v1] sk st (fun pc lc sk st => am_g d X am_m4015 pc lc sk st Q) := am_gu.trans rfl
theorem u4015_12 {v1 : Value} {x : Nat} : am_g d X am_m4015 12 [.ref x, v1] sk st Q = am_g d X am_m4015 13 [.ref x, v1] (.ref x :: sk) st Q := am_gu.trans rfl
theorem u4015_13 {v0 : Value} {v1 : Value} : am_g d X am_m4015 13 [v0, v1] sk st Q = am_gt 128 16 [v0, v1] sk st (fun pc lc sk st => am_g d X am_m4015 pc lc sk st Q) := am_gu.trans rfl
theorem u4015_16 {v0 : Value} {v1 : Value} : am_g d X am_m4015 16 [v0, v1] (.ref o :: sk) st Q = ((am_ob st o 5 ∧ sk.length ≤ 4) ∧ am_Ca X d 5016 [.ref o] st (am_af am_m4015 16 [v0, v1] sk (fun pc lc sk st => am_g d X am_m4015 pc lc sk st Q) Q)) := am_gu.trans rfl
theorem u4015_19 {a0 : Value} {v0 : Value} {v1 : Value} : am_g d X am_m4015 19 [v0, v1] (a0 :: .ref o :: sk) st Q = ((am_ob st o 5 ∧ sk.length ≤ 4) ∧ am_Ca X d 5020 [.ref o, a0] st (am_af am_m4015 19 [v0, v1] sk (fun pc lc sk st => am_g d X am_m4015 pc lc sk st Q) Q)) := am_gu.trans rfl
theorem u4015_22 {v1 : Value} {x : Nat} : am_g d X am_m4015 22 [.ref x, v1] sk st Q = am_g d X am_m4015 23 [.ref x, v1] (.ref x :: sk) st Q := am_gu.trans rfl
theorem u4015_23 {v0 : Value} {v1 : Value} : am_g d X am_m4015 23 [v0, v1] sk st Q = am_gt 128 26 [v0, v1] sk st (fun pc lc sk st => am_g d X am_m4015 pc lc sk st Q) := am_gu.trans rfl
theorem u4015_26 {v0 : Value} {v1 : Value} : am_g d X am_m4015 26 [v0, v1] (.ref o :: sk) st Q = ((am_ob st o 5 ∧ sk.length ≤ 4) ∧ am_Ca X d 5016 [.ref o] st (am_af am_m4015 26 [v0, v1] sk (fun pc lc sk st => am_g d X am_m4015 pc lc sk st Q) Q)) := am_gu.trans rfl
theorem u4015_29 {v0 : Value} {v1 : Value} {x : Int32} : am_g d X am_m4015 29 [v0, v1] [.int x] st Q = Q (.inl (some (.int x))) st := am_gu.trans rfl
set_option maxRecDepth 100000 in
theorem of_4016 : am_of 4016 = some am_m4016 := rfl
theorem c4016 {z a0} {P : am_Q} : am_Ca X (d + 1) 4016 [.ref z, .int a0] st P = am_g d X am_m4016 0 [.ref z, .int a0] [] st P := am_cg of_4016 (by show 2 ≤ 2; decide)
theorem hd_4016 : am_hd am_m4016 = [] := rfl
theorem u4016_0 {v1 : Value} {x : Nat} : am_g d X am_m4016 0 [.ref x, v1] sk st Q = am_g d X am_m4016 1 [.ref x, v1] (.ref x :: sk) st Q := am_gu.trans rfl
theorem u4016_1 {v0 : Value} {x : Int32} : am_g d X am_m4016 1 [v0, .int x] sk st Q = am_g d X am_m4016 2 [v0, .int x] (.int x :: sk) st Q := am_gu.trans rfl
theorem u4016_2 {a0 : Value} {v0 : Value} {v1 : Value} : am_g d X am_m4016 2 [v0, v1] (a0 :: .ref o :: sk) st Q = ((am_ob st o 4 ∧ sk.length ≤ 4) ∧ am_Ca X d 4025 [.ref o, a0] st (am_af am_m4016 2 [v0, v1] sk (fun pc lc sk st => am_g d X am_m4016 pc lc sk st Q) Q)) := am_gu.trans rfl
theorem u4016_5 {v0 : Value} {v1 : Value} {x : Int32} : am_g d X am_m4016 5 [v0, v1] (.int x :: sk) st Q = (if decide (x = 0) = true then am_g d X am_m4016 37 [v0, v1] sk st Q else am_g d X am_m4016 8 [v0, v1] sk st Q) := am_gu.trans rfl
theorem u4016_8 {v1 : Value} {x : Nat} : am_g d X am_m4016 8 [.ref x, v1] sk st Q = am_g d X am_m4016 9 [.ref x, v1] (.ref x :: sk) st Q := am_gu.trans rfl
theorem u4016_9 {v1 : Value} {x : Nat} : am_g d X am_m4016 9 [.ref x, v1] sk st Q = am_g d X am_m4016 10 [.ref x, v1] (.ref x :: sk) st Q := am_gu.trans rfl
theorem u4016_10 {v0 : Value} {v1 : Value} : am_g d X am_m4016 10 [v0, v1] sk st Q = am_gt 128 13 [v0, v1] sk st (fun pc lc sk st => am_g d X am_m4016 pc lc sk st Q) := am_gu.trans rfl
theorem u4016_13 {v0 : Value} {x : Int32} : am_g d X am_m4016 13 [v0, .int x] sk st Q = am_g d X am_m4016 14 [v0, .int x] (.int x :: sk) st Q := am_gu.trans rfl
theorem u4016_14 {a0 : Value} {v0 : Value} {v1 : Value} : am_g d X am_m4016 14 [v0, v1] (a0 :: .ref o :: sk) st Q = ((am_ob st o 5 ∧ sk.length ≤ 4) ∧ am_Ca X d 5015 [.ref o, a0] st (am_af am_m4016 14 [v0, v1] sk (fun pc lc sk st => am_g d X am_m4016 pc lc sk st Q) Q)) := am_gu.trans rfl
theorem u4016_17 {a0 : Value} {v0 : Value} {v1 : Value} : am_g d X am_m4016 17 [v0, v1] (a0 :: .ref o :: sk) st Q = ((am_ob st o 4 ∧ sk.length ≤ 4) ∧ am_Ca X d 4026 [.ref o, a0] st (am_af am_m4016 17 [v0, v1] sk (fun pc lc sk st => am_g d X am_m4016 pc lc sk st Q) Q)) := am_gu.trans rfl
theorem u4016_20 {v0 : Value} {v1 : Value} {x : Int32} : am_g d X am_m4016 20 [v0, v1] (.int x :: sk) st Q = (if decide (¬ x = 0) = true then am_g d X am_m4016 33 [v0, v1] sk st Q else am_g d X am_m4016 23 [v0, v1] sk st Q) := am_gu.trans rfl
theorem u4016_23 {v1 : Value} {x : Nat} : am_g d X am_m4016 23 [.ref x, v1] sk st Q = am_g d X am_m4016 24 [.ref x, v1] (.ref x :: sk) st Q := am_gu.trans rfl
theorem u4016_24 {v0 : Value} {v1 : Value} : am_g d X am_m4016 24 [v0, v1] sk st Q = am_gt 128 27 [v0, v1] sk st (fun pc lc sk st => am_g d X am_m4016 pc lc sk st Q) := am_gu.trans rfl
theorem u4016_27 {v0 : Value} {v1 : Value} : am_g d X am_m4016 27 [v0, v1] (.ref o :: sk) st Q = ((am_ob st o 5 ∧ sk.length ≤ 4) ∧ am_Ca X d 5004 [.ref o] st (am_af am_m4016 27 [v0, v1] sk (fun pc lc sk st => am_g d X am_m4016 pc lc sk st Q) Q)) := am_gu.trans rfl
theorem u4016_30 {v0 : Value} {v1 : Value} {x : Int32} : am_g d X am_m4016 30 [v0, v1] (.int x :: sk) st Q = (if decide (x = 0) = true then am_g d X am_m4016 37 [v0, v1] sk st Q else am_g d X am_m4016 33 [v0, v1] sk st Q) := am_gu.trans rfl
theorem u4016_33 {v0 : Value} {v1 : Value} : am_g d X am_m4016 33 [v0, v1] sk st Q = am_g d X am_m4016 34 [v0, v1] (.int (am_i 1) :: sk) st Q := am_gu.trans rfl
theorem u4016_34 {v0 : Value} {v1 : Value} : am_g d X am_m4016 34 [v0, v1] sk st Q = am_g d X am_m4016 38 [v0, v1] sk st Q := am_gu.trans rfl
theorem u4016_37 {v0 : Value} {v1 : Value} : am_g d X am_m4016 37 [v0, v1] sk st Q = am_g d X am_m4016 38 [v0, v1] (.int (am_i 0) :: sk) st Q := am_gu.trans rfl
theorem u4016_38 {v0 : Value} {v1 : Value} {x : Int32} : am_g d X am_m4016 38 [v0, v1] [.int x] st Q = ((x = 0 ∨ x = 1) ∧ Q (.inl (some (.int x))) st) := am_gu.trans rfl
set_option maxRecDepth 100000 in
theorem of_4017 : am_of 4017 = some am_m4017 := rfl
theorem c4017 {z a0} {P : am_Q} : am_Ca X (d + 1) 4017 [.ref z, .int a0] st P = am_g d X am_m4017 0 [.ref z, .int a0, am_u] [] st P := am_cg of_4017 (by show 2 ≤ 3; decide)
theorem hd_4017 : am_hd am_m4017 = [] := rfl
theorem u4017_0 {v1 : Value} {v2 : Value} {x : Nat} : am_g d X am_m4017 0 [.ref x, v1, v2] sk st Q = am_g d X am_m4017 1 [.ref x, v1, v2] (.ref x :: sk) st Q := am_gu.trans rfl
theorem u4017_1 {v0 : Value} {v1 : Value} {v2 : Value} : am_g d X am_m4017 1 [v0, v1, v2] sk st Q = am_gt 128 4 [v0, v1, v2] sk st (fun pc lc sk st => am_g d X am_m4017 pc lc sk st Q) := am_gu.trans rfl
theorem u4017_4 {v0 : Value} {v2 : Value} {x : Int32} : am_g d X am_m4017 4 [v0, .int x, v2] sk st Q = am_g d X am_m4017 5 [v0, .int x, v2] (.int x :: sk) st Q := am_gu.trans rfl
theorem u4017_5 {a0 : Value} {v0 : Value} {v1 : Value} {v2 : Value} : am_g d X am_m4017 5 [v0, v1, v2] (a0 :: .ref o :: sk) st Q = ((am_ob st o 5 ∧ sk.length ≤ 4) ∧ am_Ca X d 5015 [.ref o, a0] st (am_af am_m4017 5 [v0, v1, v2] sk (fun pc lc sk st => am_g d X am_m4017 pc lc sk st Q) Q)) := am_gu.trans rfl
theorem u4017_8 {v0 : Value} {v1 : Value} {v2 : Value} {x : Int32} : am_g d X am_m4017 8 [v0, v1, v2] (.int x :: sk) st Q = am_g d X am_m4017 9 [v0, am_kc v1, .int x] sk st Q := am_gu.trans (congrArg (fun l => am_g d X am_m4017 9 (List.set l 2 (.int x)) sk st Q) (kl_2 (l := [v2])))
theorem u4017_9 {v1 : Value} {v2 : Value} {x : Nat} : am_g d X am_m4017 9 [.ref x, v1, v2] sk st Q = am_g d X am_m4017 10 [.ref x, v1, v2] (.ref x :: sk) st Q := am_gu.trans rfl
theorem u4017_10 {v0 : Value} {v1 : Value} {x : Int32} : am_g d X am_m4017 10 [v0, v1, .int x] sk st Q = am_g d X am_m4017 11 [v0, v1, .int x] (.int x :: sk) st Q := am_gu.trans rfl
theorem u4017_11 {a0 : Value} {v0 : Value} {v1 : Value} {v2 : Value} : am_g d X am_m4017 11 [v0, v1, v2] (a0 :: .ref o :: sk) st Q = ((am_ob st o 4 ∧ sk.length ≤ 4) ∧ am_Ca X d 4026 [.ref o, a0] st (am_af am_m4017 11 [v0, v1, v2] sk (fun pc lc sk st => am_g d X am_m4017 pc lc sk st Q) Q)) := am_gu.trans rfl
theorem u4017_14 {v0 : Value} {v1 : Value} {v2 : Value} {x : Int32} : am_g d X am_m4017 14 [v0, v1, v2] (.int x :: sk) st Q = (if decide (x = 0) = true then am_g d X am_m4017 27 [v0, v1, v2] sk st Q else am_g d X am_m4017 17 [v0, v1, v2] sk st Q) := am_gu.trans rfl
theorem u4017_17 {v1 : Value} {v2 : Value} {x : Nat} : am_g d X am_m4017 17 [.ref x, v1, v2] sk st Q = am_g d X am_m4017 18 [.ref x, v1, v2] (.ref x :: sk) st Q := am_gu.trans rfl
theorem u4017_18 {v0 : Value} {v1 : Value} {v2 : Value} : am_g d X am_m4017 18 [v0, v1, v2] sk st Q = am_gt 128 21 [v0, v1, v2] sk st (fun pc lc sk st => am_g d X am_m4017 pc lc sk st Q) := am_gu.trans rfl
theorem u4017_21 {v0 : Value} {v1 : Value} {x : Int32} : am_g d X am_m4017 21 [v0, v1, .int x] sk st Q = am_g d X am_m4017 22 [v0, v1, .int x] (.int x :: sk) st Q := am_gu.trans rfl
theorem u4017_22 {a0 : Value} {v0 : Value} {v1 : Value} {v2 : Value} : am_g d X am_m4017 22 [v0, v1, v2] (a0 :: .ref o :: sk) st Q = ((am_ob st o 5 ∧ sk.length ≤ 4) ∧ am_Ca X d 5020 [.ref o, a0] st (am_af am_m4017 22 [v0, v1, v2] sk (fun pc lc sk st => am_g d X am_m4017 pc lc sk st Q) Q)) := am_gu.trans rfl
theorem u4017_25 {v0 : Value} {v1 : Value} {v2 : Value} : am_g d X am_m4017 25 [v0, v1, v2] sk st Q = am_g d X am_m4017 26 [v0, v1, v2] (.int (am_i 0) :: sk) st Q := am_gu.trans rfl
theorem u4017_26 {v0 : Value} {v1 : Value} {v2 : Value} {x : Int32} : am_g d X am_m4017 26 [v0, v1, v2] [.int x] st Q = Q (.inl (some (.int x))) st := am_gu.trans rfl
theorem u4017_27 {v1 : Value} {v2 : Value} {x : Nat} : am_g d X am_m4017 27 [.ref x, v1, v2] sk st Q = am_g d X am_m4017 28 [.ref x, v1, v2] (.ref x :: sk) st Q := am_gu.trans rfl
theorem u4017_28 {v0 : Value} {v1 : Value} {x : Int32} : am_g d X am_m4017 28 [v0, v1, .int x] sk st Q = am_g d X am_m4017 29 [v0, v1, .int x] (.int x :: sk) st Q := am_gu.trans rfl
theorem u4017_29 {a0 : Value} {v0 : Value} {v1 : Value} {v2 : Value} : am_g d X am_m4017 29 [v0, v1, v2] (a0 :: .ref o :: sk) st Q = ((am_ob st o 4 ∧ sk.length ≤ 4) ∧ am_Ca X d 4027 [.ref o, a0] st (am_af am_m4017 29 [v0, v1, v2] sk (fun pc lc sk st => am_g d X am_m4017 pc lc sk st Q) Q)) := am_gu.trans rfl
theorem u4017_32 {v1 : Value} {v2 : Value} {x : Nat} : am_g d X am_m4017 32 [.ref x, v1, v2] sk st Q = am_g d X am_m4017 33 [.ref x, v1, v2] (.ref x :: sk) st Q := am_gu.trans rfl
theorem u4017_33 {v0 : Value} {v1 : Value} {v2 : Value} : am_g d X am_m4017 33 [v0, v1, v2] sk st Q = am_g d X am_m4017 34 [v0, v1, v2] (.int (am_i 1) :: sk) st Q := am_gu.trans rfl
theorem u4017_34 {v0 : Value} {v1 : Value} {x : Int32} : am_g d X am_m4017 34 [v0, v1, .int x] sk st Q = am_g d X am_m4017 35 [v0, v1, .int x] (.int x :: sk) st Q := am_gu.trans rfl
theorem u4017_35 {a0 : Value} {a1 : Value} {v0 : Value} {v1 : Value} {v2 : Value} : am_g d X am_m4017 35 [v0, v1, v2] (a1 :: a0 :: .ref o :: sk) st Q = ((am_ob st o 4 ∧ sk.length ≤ 4) ∧ am_Ca X d 4032 [.ref o, a0, a1] st (am_af am_m4017 35 [v0, v1, v2] sk (fun pc lc sk st => am_g d X am_m4017 pc lc sk st Q) Q)) := am_gu.trans rfl
theorem u4017_38 {v0 : Value} {v1 : Value} {v2 : Value} {x : Int32} : am_g d X am_m4017 38 [v0, v1, v2] [.int x] st Q = Q (.inl (some (.int x))) st := am_gu.trans rfl
set_option maxRecDepth 100000 in
theorem of_4018 : am_of 4018 = some am_m4018 := rfl
theorem c4018 {z a0 a1} {P : am_Q} : am_Ca X (d + 1) 4018 [.ref z, .int a0, .int a1] st P = am_g d X am_m4018 0 [.ref z, .int a0, .int a1] [] st P := am_cg of_4018 (by show 3 ≤ 3; decide)
theorem hd_4018 : am_hd am_m4018 = [] := rfl
theorem u4018_0 {v1 : Value} {v2 : Value} {x : Nat} : am_g d X am_m4018 0 [.ref x, v1, v2] sk st Q = am_g d X am_m4018 1 [.ref x, v1, v2] (.ref x :: sk) st Q := am_gu.trans rfl
theorem u4018_1 {v0 : Value} {v1 : Value} {v2 : Value} : am_g d X am_m4018 1 [v0, v1, v2] sk st Q = am_gt 128 4 [v0, v1, v2] sk st (fun pc lc sk st => am_g d X am_m4018 pc lc sk st Q) := am_gu.trans rfl
theorem u4018_4 {v0 : Value} {v2 : Value} {x : Int32} : am_g d X am_m4018 4 [v0, .int x, v2] sk st Q = am_g d X am_m4018 5 [v0, .int x, v2] (.int x :: sk) st Q := am_gu.trans rfl
theorem u4018_5 {a0 : Value} {v0 : Value} {v1 : Value} {v2 : Value} : am_g d X am_m4018 5 [v0, v1, v2] (a0 :: .ref o :: sk) st Q = ((am_ob st o 5 ∧ sk.length ≤ 4) ∧ am_Ca X d 5003 [.ref o, a0] st (am_af am_m4018 5 [v0, v1, v2] sk (fun pc lc sk st => am_g d X am_m4018 pc lc sk st Q) Q)) := am_gu.trans rfl
theorem u4018_8 {v0 : Value} {v1 : Value} {v2 : Value} {x : Int32} : am_g d X am_m4018 8 [v0, v1, v2] (.int x :: sk) st Q = (if decide (x = 0) = true then am_g d X am_m4018 35 [v0, v1, v2] sk st Q else am_g d X am_m4018 11 [v0, v1, v2] sk st Q) := am_gu.trans rfl
theorem u4018_11 {v0 : Value} {v2 : Value} {x : Int32} : am_g d X am_m4018 11 [v0, .int x, v2] sk st Q = am_g d X am_m4018 12 [v0, .int x, v2] (.int x :: sk) st Q := am_gu.trans rfl
theorem u4018_12 {v0 : Value} {v1 : Value} {v2 : Value} {x : Int32} : am_g d X am_m4018 12 [v0, v1, v2] (.int x :: sk) st Q = (if decide (x = 0) = true then am_g d X am_m4018 35 [v0, v1, v2] sk st Q else am_g d X am_m4018 15 [v0, v1, v2] sk st Q) := am_gu.trans rfl
theorem u4018_15 {v1 : Value} {v2 : Value} {x : Nat} : am_g d X am_m4018 15 [.ref x, v1, v2] sk st Q = am_g d X am_m4018 16 [.ref x, v1, v2] (.ref x :: sk) st Q := am_gu.trans rfl
theorem u4018_16 {v0 : Value} {v1 : Value} {v2 : Value} : am_g d X am_m4018 16 [v0, v1, v2] sk st Q = am_gt 128 19 [v0, v1, v2] sk st (fun pc lc sk st => am_g d X am_m4018 pc lc sk st Q) := am_gu.trans rfl
theorem u4018_19 {v0 : Value} {v1 : Value} {v2 : Value} : am_g d X am_m4018 19 [v0, v1, v2] (.ref o :: sk) st Q = ((am_ob st o 5 ∧ sk.length ≤ 4) ∧ am_Ca X d 5026 [.ref o] st (am_af am_m4018 19 [v0, v1, v2] sk (fun pc lc sk st => am_g d X am_m4018 pc lc sk st Q) Q)) := am_gu.trans rfl
theorem u4018_22 {v0 : Value} {v1 : Value} {v2 : Value} {x : Int32} : am_g d X am_m4018 22 [v0, v1, v2] (.int x :: sk) st Q = (if decide (x = 0) = true then am_g d X am_m4018 35 [v0, v1, v2] sk st Q else am_g d X am_m4018 25 [v0, v1, v2] sk st Q) := am_gu.trans rfl
theorem u4018_25 {v1 : Value} {v2 : Value} {x : Nat} : am_g d X am_m4018 25 [.ref x, v1, v2] sk st Q = am_g d X am_m4018 26 [.ref x, v1, v2] (.ref x :: sk) st Q := am_gu.trans rfl
theorem u4018_26 {v0 : Value} {v1 : Value} {v2 : Value} : am_g d X am_m4018 26 [v0, v1, v2] sk st Q = am_gt 128 29 [v0, v1, v2] sk st (fun pc lc sk st => am_g d X am_m4018 pc lc sk st Q) := am_gu.trans rfl
theorem u4018_29 {v0 : Value} {v1 : Value} {v2 : Value} : am_g d X am_m4018 29 [v0, v1, v2] (.ref o :: sk) st Q = ((am_ob st o 5 ∧ sk.length ≤ 4) ∧ am_Ca X d 5004 [.ref o] st (am_af am_m4018 29 [v0, v1, v2] sk (fun pc lc sk st => am_g d X am_m4018 pc lc sk st Q) Q)) := am_gu.trans rfl
theorem u4018_32 {v0 : Value} {v1 : Value} {v2 : Value} {x : Int32} : am_g d X am_m4018 32 [v0, v1, v2] (.int x :: sk) st Q = (if decide (¬ x = 0) = true then am_g d X am_m4018 37 [v0, v1, v2] sk st Q else am_g d X am_m4018 35 [v0, v1, v2] sk st Q) := am_gu.trans rfl
theorem u4018_35 {v0 : Value} {v1 : Value} {v2 : Value} : am_g d X am_m4018 35 [v0, v1, v2] sk st Q = am_g d X am_m4018 36 [v0, v1, v2] (.int (am_i 0) :: sk) st Q := am_gu.trans rfl
theorem u4018_36 {v0 : Value} {v1 : Value} {v2 : Value} {x : Int32} : am_g d X am_m4018 36 [v0, v1, v2] [.int x] st Q = ((x = 0 ∨ x = 1) ∧ Q (.inl (some (.int x))) st) := am_gu.trans rfl
theorem u4018_37 {v1 : Value} {v2 : Value} {x : Nat} : am_g d X am_m4018 37 [.ref x, v1, v2] sk st Q = am_g d X am_m4018 38 [.ref x, v1, v2] (.ref x :: sk) st Q := am_gu.trans rfl
theorem u4018_38 {v0 : Value} {v2 : Value} {x : Int32} : am_g d X am_m4018 38 [v0, .int x, v2] sk st Q = am_g d X am_m4018 39 [v0, .int x, v2] (.int x :: sk) st Q := am_gu.trans rfl
theorem u4018_39 {v0 : Value} {v1 : Value} {x : Int32} : am_g d X am_m4018 39 [v0, v1, .int x] sk st Q = am_g d X am_m4018 40 [v0, v1, .int x] (.int x :: sk) st Q := am_gu.trans rfl
theorem u4018_40 {a0 : Value} {a1 : Value} {v0 : Value} {v1 : Value} {v2 : Value} : am_g d X am_m4018 40 [v0, v1, v2] (a1 :: a0 :: .ref o :: sk) st Q = ((am_ob st o 4 ∧ sk.length ≤ 4) ∧ am_Ca X d 4028 [.ref o, a0, a1] st (am_af am_m4018 40 [v0, v1, v2] sk (fun pc lc sk st => am_g d X am_m4018 pc lc sk st Q) Q)) := am_gu.trans rfl
theorem u4018_43 {v1 : Value} {v2 : Value} {x : Nat} : am_g d X am_m4018 43 [.ref x, v1, v2] sk st Q = am_g d X am_m4018 44 [.ref x, v1, v2] (.ref x :: sk) st Q := am_gu.trans rfl
theorem u4018_44 {v0 : Value} {v1 : Value} {v2 : Value} : am_g d X am_m4018 44 [v0, v1, v2] sk st Q = am_gt 130 47 [v0, v1, v2] sk st (fun pc lc sk st => am_g d X am_m4018 pc lc sk st Q) := am_gu.trans rfl
theorem u4018_47 {v0 : Value} {v1 : Value} {v2 : Value} : am_g d X am_m4018 47 [v0, v1, v2] (.ref o :: sk) st Q = ((am_ob st o 0 ∧ sk.length ≤ 4) ∧ am_Ca X d 3 [.ref o] st (am_af am_m4018 47 [v0, v1, v2] sk (fun pc lc sk st => am_g d X am_m4018 pc lc sk st Q) Q)) := am_gu.trans rfl
theorem u4018_50 {v0 : Value} {v1 : Value} {v2 : Value} {x : Int32} : am_g d X am_m4018 50 [v0, v1, v2] (.int x :: sk) st Q = (if decide (¬ x = 0) = true then am_g d X am_m4018 57 [v0, v1, v2] sk st Q else am_g d X am_m4018 53 [v0, v1, v2] sk st Q) := am_gu.trans rfl
theorem u4018_53 {v0 : Value} {v1 : Value} {v2 : Value} : am_g d X am_m4018 53 [v0, v1, v2] sk st Q = am_g d X am_m4018 54 [v0, v1, v2] (.int (am_i 1) :: sk) st Q := am_gu.trans rfl
theorem u4018_54 {v0 : Value} {v1 : Value} {v2 : Value} : am_g d X am_m4018 54 [v0, v1, v2] sk st Q = am_g d X am_m4018 58 [v0, v1, v2] sk st Q := am_gu.trans rfl
theorem u4018_57 {v0 : Value} {v1 : Value} {v2 : Value} : am_g d X am_m4018 57 [v0, v1, v2] sk st Q = am_g d X am_m4018 58 [v0, v1, v2] (.int (am_i 0) :: sk) st Q := am_gu.trans rfl
theorem u4018_58 {v0 : Value} {v1 : Value} {v2 : Value} {x : Int32} : am_g d X am_m4018 58 [v0, v1, v2] [.int x] st Q = ((x = 0 ∨ x = 1) ∧ Q (.inl (some (.int x))) st) := am_gu.trans rfl
set_option maxRecDepth 100000 in
theorem of_4019 : am_of 4019 = some am_m4019 := rfl
theorem c4019 {z a0 a1} {P : am_Q} : am_Ca X (d + 1) 4019 [.ref z, .int a0, .int a1] st P = am_g d X am_m4019 0 [.ref z, .int a0, .int a1] [] st P := am_cg of_4019 (by show 3 ≤ 3; decide)
theorem hd_4019 : am_hd am_m4019 = [] := rfl
theorem u4019_0 {v1 : Value} {v2 : Value} {x : Nat} : am_g d X am_m4019 0 [.ref x, v1, v2] sk st Q = am_g d X am_m4019 1 [.ref x, v1, v2] (.ref x :: sk) st Q := am_gu.trans rfl
theorem u4019_1 {v0 : Value} {v2 : Value} {x : Int32} : am_g d X am_m4019 1 [v0, .int x, v2] sk st Q = am_g d X am_m4019 2 [v0, .int x, v2] (.int x :: sk) st Q := am_gu.trans rfl
theorem u4019_2 {v0 : Value} {v1 : Value} {x : Int32} : am_g d X am_m4019 2 [v0, v1, .int x] sk st Q = am_g d X am_m4019 3 [v0, v1, .int x] (.int x :: sk) st Q := am_gu.trans rfl
theorem u4019_3 {a0 : Value} {a1 : Value} {v0 : Value} {v1 : Value} {v2 : Value} : am_g d X am_m4019 3 [v0, v1, v2] (a1 :: a0 :: .ref o :: sk) st Q = ((am_ob st o 4 ∧ sk.length ≤ 4) ∧ am_Ca X d 4028 [.ref o, a0, a1] st (am_af am_m4019 3 [v0, v1, v2] sk (fun pc lc sk st => am_g d X am_m4019 pc lc sk st Q) Q)) := am_gu.trans rfl
theorem u4019_6 {v1 : Value} {v2 : Value} {x : Nat} : am_g d X am_m4019 6 [.ref x, v1, v2] sk st Q = am_g d X am_m4019 7 [.ref x, v1, v2] (.ref x :: sk) st Q := am_gu.trans rfl
theorem u4019_7 {v0 : Value} {v1 : Value} {v2 : Value} : am_g d X am_m4019 7 [v0, v1, v2] sk st Q = am_g d X am_m4019 8 [v0, v1, v2] (.int (am_i 2) :: sk) st Q := am_gu.trans rfl
theorem u4019_8 {v0 : Value} {v1 : Value} {v2 : Value} : am_g d X am_m4019 8 [v0, v1, v2] sk st Q = am_g d X am_m4019 9 [v0, v1, v2] (.int (am_i (-1)) :: sk) st Q := am_gu.trans rfl
theorem u4019_9 {a0 : Value} {a1 : Value} {v0 : Value} {v1 : Value} {v2 : Value} : am_g d X am_m4019 9 [v0, v1, v2] (a1 :: a0 :: .ref o :: sk) st Q = ((am_ob st o 4 ∧ sk.length ≤ 4) ∧ am_Ca X d 4032 [.ref o, a0, a1] st (am_af am_m4019 9 [v0, v1, v2] sk (fun pc lc sk st => am_g d X am_m4019 pc lc sk st Q) Q)) := am_gu.trans rfl
theorem u4019_12 {v0 : Value} {v1 : Value} {v2 : Value} {x : Int32} : am_g d X am_m4019 12 [v0, v1, v2] [.int x] st Q = Q (.inl (some (.int x))) st := am_gu.trans rfl
set_option maxRecDepth 100000 in
theorem of_4020 : am_of 4020 = some am_m4020 := rfl
theorem c4020 {z a0} {P : am_Q} : am_Ca X (d + 1) 4020 [.ref z, .int a0] st P = am_g d X am_m4020 0 [.ref z, .int a0, am_u, am_u, am_u] [] st P := am_cg of_4020 (by show 2 ≤ 5; decide)
theorem hd_4020 : am_hd am_m4020 = [] := rfl
theorem u4020_0 {v1 : Value} {v2 : Value} {v3 : Value} {v4 : Value} {x : Nat} : am_g d X am_m4020 0 [.ref x, v1, v2, v3, v4] sk st Q = am_g d X am_m4020 1 [.ref x, v1, v2, v3, v4] (.ref x :: sk) st Q := am_gu.trans rfl
theorem u4020_1 {v0 : Value} {v2 : Value} {v3 : Value} {v4 : Value} {x : Int32} : am_g d X am_m4020 1 [v0, .int x, v2, v3, v4] sk st Q = am_g d X am_m4020 2 [v0, .int x, v2, v3, v4] (.int x :: sk) st Q := am_gu.trans rfl
theorem u4020_2 {a0 : Value} {v0 : Value} {v1 : Value} {v2 : Value} {v3 : Value} {v4 : Value} : am_g d X am_m4020 2 [v0, v1, v2, v3, v4] (a0 :: .ref o :: sk) st Q = ((am_ob st o 4 ∧ sk.length ≤ 4) ∧ am_Ca X d 4025 [.ref o, a0] st (am_af am_m4020 2 [v0, v1, v2, v3, v4] sk (fun pc lc sk st => am_g d X am_m4020 pc lc sk st Q) Q)) := am_gu.trans rfl
theorem u4020_5 {v0 : Value} {v1 : Value} {v2 : Value} {v3 : Value} {v4 : Value} {x : Int32} : am_g d X am_m4020 5 [v0, v1, v2, v3, v4] (.int x :: sk) st Q = (if decide (¬ x = 0) = true then am_g d X am_m4020 10 [v0, v1, v2, v3, v4] sk st Q else am_g d X am_m4020 8 [v0, v1, v2, v3, v4] sk st Q) := am_gu.trans rfl
theorem u4020_8 {v0 : Value} {v1 : Value} {v2 : Value} {v3 : Value} {v4 : Value} : am_g d X am_m4020 8 [v0, v1, v2, v3, v4] sk st Q = am_g d X am_m4020 9 [v0, v1, v2, v3, v4] (.int (am_i 0) :: sk) st Q := am_gu.trans rfl
theorem u4020_9 {v0 : Value} {v1 : Value} {v2 : Value} {v3 : Value} {v4 : Value} {x : Int32} : am_g d X am_m4020 9 [v0, v1, v2, v3, v4] [.int x] st Q = ((x = 0 ∨ x = 1) ∧ Q (.inl (some (.int x))) st) := am_gu.trans rfl
theorem u4020_10 {v1 : Value} {v2 : Value} {v3 : Value} {v4 : Value} {x : Nat} : am_g d X am_m4020 10 [.ref x, v1, v2, v3, v4] sk st Q = am_g d X am_m4020 11 [.ref x, v1, v2, v3, v4] (.ref x :: sk) st Q := am_gu.trans rfl
theorem u4020_11 {v0 : Value} {v1 : Value} {v2 : Value} {v3 : Value} {v4 : Value} : am_g d X am_m4020 11 [v0, v1, v2, v3, v4] sk st Q = am_gt 128 14 [v0, v1, v2, v3, v4] sk st (fun pc lc sk st => am_g d X am_m4020 pc lc sk st Q) := am_gu.trans rfl
theorem u4020_14 {v0 : Value} {v2 : Value} {v3 : Value} {v4 : Value} {x : Int32} : am_g d X am_m4020 14 [v0, .int x, v2, v3, v4] sk st Q = am_g d X am_m4020 15 [v0, .int x, v2, v3, v4] (.int x :: sk) st Q := am_gu.trans rfl
theorem u4020_15 {a0 : Value} {v0 : Value} {v1 : Value} {v2 : Value} {v3 : Value} {v4 : Value} : am_g d X am_m4020 15 [v0, v1, v2, v3, v4] (a0 :: .ref o :: sk) st Q = ((am_ob st o 5 ∧ sk.length ≤ 4) ∧ am_Ca X d 5015 [.ref o, a0] st (am_af am_m4020 15 [v0, v1, v2, v3, v4] sk (fun pc lc sk st => am_g d X am_m4020 pc lc sk st Q) Q)) := am_gu.trans rfl
theorem u4020_18 {v0 : Value} {v1 : Value} {v2 : Value} {v3 : Value} {v4 : Value} {x : Int32} : am_g d X am_m4020 18 [v0, v1, v2, v3, v4] (.int x :: sk) st Q = am_g d X am_m4020 19 [v0, am_kc v1, .int x, v3, v4] sk st Q := am_gu.trans (congrArg (fun l => am_g d X am_m4020 19 (List.set l 2 (.int x)) sk st Q) (kl_2 (l := [v2, v3, v4])))
theorem u4020_19 {v1 : Value} {v2 : Value} {v3 : Value} {v4 : Value} {x : Nat} : am_g d X am_m4020 19 [.ref x, v1, v2, v3, v4] sk st Q = am_g d X am_m4020 20 [.ref x, v1, v2, v3, v4] (.ref x :: sk) st Q := am_gu.trans rfl
theorem u4020_20 {v0 : Value} {v1 : Value} {v2 : Value} {v3 : Value} {v4 : Value} : am_g d X am_m4020 20 [v0, v1, v2, v3, v4] sk st Q = am_gt 128 23 [v0, v1, v2, v3, v4] sk st (fun pc lc sk st => am_g d X am_m4020 pc lc sk st Q) := am_gu.trans rfl
theorem u4020_23 {v0 : Value} {v1 : Value} {v2 : Value} {v3 : Value} {v4 : Value} : am_g d X am_m4020 23 [v0, v1, v2, v3, v4] sk st Q = am_gt 160 26 [v0, v1, v2, v3, v4] sk st (fun pc lc sk st => am_g d X am_m4020 pc lc sk st Q) := am_gu.trans rfl
theorem u4020_26 {v0 : Value} {v1 : Value} {v2 : Value} {v3 : Value} {v4 : Value} {x : Int32} : am_g d X am_m4020 26 [v0, v1, v2, v3, v4] (.int x :: sk) st Q = am_g d X am_m4020 27 [v0, v1, am_kc v2, .int x, v4] sk st Q := am_gu.trans (congrArg (fun l => am_g d X am_m4020 27 (List.set l 3 (.int x)) sk st Q) (kl_3 (l := [v3, v4])))
theorem u4020_27 {v1 : Value} {v2 : Value} {v3 : Value} {v4 : Value} {x : Nat} : am_g d X am_m4020 27 [.ref x, v1, v2, v3, v4] sk st Q = am_g d X am_m4020 28 [.ref x, v1, v2, v3, v4] (.ref x :: sk) st Q := am_gu.trans rfl
theorem u4020_28 {v0 : Value} {v1 : Value} {v2 : Value} {v3 : Value} {v4 : Value} : am_g d X am_m4020 28 [v0, v1, v2, v3, v4] sk st Q = am_gt 129 31 [v0, v1, v2, v3, v4] sk st (fun pc lc sk st => am_g d X am_m4020 pc lc sk st Q) := am_gu.trans rfl
theorem u4020_31 {v1 : Value} {v2 : Value} {v3 : Value} {v4 : Value} {x : Nat} : am_g d X am_m4020 31 [.ref x, v1, v2, v3, v4] sk st Q = am_g d X am_m4020 32 [.ref x, v1, v2, v3, v4] (.ref x :: sk) st Q := am_gu.trans rfl
theorem u4020_32 {v0 : Value} {v1 : Value} {v2 : Value} {v3 : Value} {v4 : Value} : am_g d X am_m4020 32 [v0, v1, v2, v3, v4] sk st Q = am_gt 128 35 [v0, v1, v2, v3, v4] sk st (fun pc lc sk st => am_g d X am_m4020 pc lc sk st Q) := am_gu.trans rfl
theorem u4020_35 {v0 : Value} {v1 : Value} {v3 : Value} {v4 : Value} {x : Int32} : am_g d X am_m4020 35 [v0, v1, .int x, v3, v4] sk st Q = am_g d X am_m4020 36 [v0, v1, .int x, v3, v4] (.int x :: sk) st Q := am_gu.trans rfl
theorem u4020_36 {v1 : Value} {v2 : Value} {v3 : Value} {v4 : Value} {x : Nat} : am_g d X am_m4020 36 [.ref x, v1, v2, v3, v4] sk st Q = am_g d X am_m4020 37 [.ref x, v1, v2, v3, v4] (.ref x :: sk) st Q := am_gu.trans rfl
theorem u4020_37 {v0 : Value} {v1 : Value} {v2 : Value} {v3 : Value} {v4 : Value} : am_g d X am_m4020 37 [v0, v1, v2, v3, v4] sk st Q = am_gt 131 40 [v0, v1, v2, v3, v4] sk st (fun pc lc sk st => am_g d X am_m4020 pc lc sk st Q) := am_gu.trans rfl
theorem u4020_40 {a0 : Value} {a1 : Value} {a2 : Value} {v0 : Value} {v1 : Value} {v2 : Value} {v3 : Value} {v4 : Value} : am_g d X am_m4020 40 [v0, v1, v2, v3, v4] (a2 :: a1 :: a0 :: .ref o :: sk) st Q = ((am_ob st o 1 ∧ sk.length ≤ 4) ∧ am_Ca X d 1014 [.ref o, a0, a1, a2] st (am_af am_m4020 40 [v0, v1, v2, v3, v4] sk (fun pc lc sk st => am_g d X am_m4020 pc lc sk st Q) Q)) := am_gu.trans rfl
theorem u4020_43 {v1 : Value} {v2 : Value} {v3 : Value} {v4 : Value} {x : Nat} : am_g d X am_m4020 43 [.ref x, v1, v2, v3, v4] sk st Q = am_g d X am_m4020 44 [.ref x, v1, v2, v3, v4] (.ref x :: sk) st Q := am_gu.trans rfl
theorem u4020_44 {v0 : Value} {v1 : Value} {v2 : Value} {v3 : Value} {v4 : Value} : am_g d X am_m4020 44 [v0, v1, v2, v3, v4] sk st Q = am_gt 128 47 [v0, v1, v2, v3, v4] sk st (fun pc lc sk st => am_g d X am_m4020 pc lc sk st Q) := am_gu.trans rfl
theorem u4020_47 {v0 : Value} {v1 : Value} {v3 : Value} {v4 : Value} {x : Int32} : am_g d X am_m4020 47 [v0, v1, .int x, v3, v4] sk st Q = am_g d X am_m4020 48 [v0, v1, .int x, v3, v4] (.int x :: sk) st Q := am_gu.trans rfl
theorem u4020_48 {v1 : Value} {v2 : Value} {v3 : Value} {v4 : Value} {x : Nat} : am_g d X am_m4020 48 [.ref x, v1, v2, v3, v4] sk st Q = am_g d X am_m4020 49 [.ref x, v1, v2, v3, v4] (.ref x :: sk) st Q := am_gu.trans rfl
theorem u4020_49 {v0 : Value} {v1 : Value} {v2 : Value} {v3 : Value} {v4 : Value} : am_g d X am_m4020 49 [v0, v1, v2, v3, v4] sk st Q = am_gt 130 52 [v0, v1, v2, v3, v4] sk st (fun pc lc sk st => am_g d X am_m4020 pc lc sk st Q) := am_gu.trans rfl
theorem u4020_52 {v0 : Value} {v1 : Value} {v2 : Value} {v3 : Value} {v4 : Value} : am_g d X am_m4020 52 [v0, v1, v2, v3, v4] sk st Q = am_gt 2 55 [v0, v1, v2, v3, v4] sk st (fun pc lc sk st => am_g d X am_m4020 pc lc sk st Q) := am_gu.trans rfl
theorem u4020_55 {a0 : Value} {a1 : Value} {v0 : Value} {v1 : Value} {v2 : Value} {v3 : Value} {v4 : Value} : am_g d X am_m4020 55 [v0, v1, v2, v3, v4] (a1 :: a0 :: .ref o :: sk) st Q = ((am_ob st o 5 ∧ sk.length ≤ 4) ∧ am_Ca X d 5008 [.ref o, a0, a1] st (am_af am_m4020 55 [v0, v1, v2, v3, v4] sk (fun pc lc sk st => am_g d X am_m4020 pc lc sk st Q) Q)) := am_gu.trans rfl
theorem u4020_58 {v0 : Value} {v1 : Value} {v2 : Value} {v3 : Value} {v4 : Value} : am_g d X am_m4020 58 [v0, v1, v2, v3, v4] sk st Q = am_g d X am_m4020 59 [v0, v1, v2, v3, v4] (.int (am_i 0) :: sk) st Q := am_gu.trans rfl
theorem u4020_59 {v0 : Value} {v1 : Value} {v2 : Value} {v3 : Value} {v4 : Value} {x : Int32} : am_g d X am_m4020 59 [v0, v1, v2, v3, v4] (.int x :: sk) st Q = am_g d X am_m4020 61 [v0, v1, v2, am_kc v3, .int x] sk st Q := am_gu.trans (congrArg (fun l => am_g d X am_m4020 61 (List.set l 4 (.int x)) sk st Q) (kl_4 (l := [v4])))
theorem u4020_61 {v0 : Value} {v1 : Value} {v2 : Value} {v3 : Value} {x : Int32} : am_g d X am_m4020 61 [v0, v1, v2, v3, .int x] sk st Q = am_g d X am_m4020 63 [v0, v1, v2, v3, .int x] (.int x :: sk) st Q := am_gu.trans rfl
theorem u4020_63 {v0 : Value} {v1 : Value} {v2 : Value} {v3 : Value} {v4 : Value} : am_g d X am_m4020 63 [v0, v1, v2, v3, v4] sk st Q = am_g d X am_m4020 65 [v0, v1, v2, v3, v4] (.int (am_i 60) :: sk) st Q := am_gu.trans rfl
theorem u4020_65 {v0 : Value} {v1 : Value} {v2 : Value} {v3 : Value} {v4 : Value} {x : Int32} {y : Int32} : am_g d X am_m4020 65 [v0, v1, v2, v3, v4] (.int y :: .int x :: sk) st Q = (if decide (y ≤ x) = true then am_g d X am_m4020 136 [v0, v1, v2, v3, v4] sk st Q else am_g d X am_m4020 68 [v0, v1, v2, v3, v4] sk st Q) := am_gu.trans rfl
theorem u4020_68 {v1 : Value} {v2 : Value} {v3 : Value} {v4 : Value} {x : Nat} : am_g d X am_m4020 68 [.ref x, v1, v2, v3, v4] sk st Q = am_g d X am_m4020 69 [.ref x, v1, v2, v3, v4] (.ref x :: sk) st Q := am_gu.trans rfl
theorem u4020_69 {v0 : Value} {v1 : Value} {v2 : Value} {v3 : Value} {v4 : Value} : am_g d X am_m4020 69 [v0, v1, v2, v3, v4] sk st Q = am_gt 131 72 [v0, v1, v2, v3, v4] sk st (fun pc lc sk st => am_g d X am_m4020 pc lc sk st Q) := am_gu.trans rfl
theorem u4020_72 {v0 : Value} {v1 : Value} {v2 : Value} {v3 : Value} {x : Int32} : am_g d X am_m4020 72 [v0, v1, v2, v3, .int x] sk st Q = am_g d X am_m4020 74 [v0, v1, v2, v3, .int x] (.int x :: sk) st Q := am_gu.trans rfl
theorem u4020_74 {a0 : Value} {a1 : Value} {v0 : Value} {v1 : Value} {v2 : Value} {v3 : Value} {v4 : Value} : am_g d X am_m4020 74 [v0, v1, v2, v3, v4] (a1 :: a0 :: sk) st Q = (sk.length ≤ 4 ∧ am_Ca X d 1015 [a0, a1] st (am_af am_m4020 74 [v0, v1, v2, v3, v4] sk (fun pc lc sk st => am_g d X am_m4020 pc lc sk st Q) Q)) := am_gu.trans (propext ⟨fun h => ⟨h.1.2, h.2⟩, fun h => ⟨⟨Nat.le_add_left _ _, h.1⟩, h.2⟩⟩)
theorem u4020_77 {v0 : Value} {v1 : Value} {v2 : Value} {v3 : Value} {v4 : Value} {x : Int32} : am_g d X am_m4020 77 [v0, v1, v2, v3, v4] (.int x :: sk) st Q = (if decide (x = 0) = true then am_g d X am_m4020 130 [v0, v1, v2, v3, v4] sk st Q else am_g d X am_m4020 80 [v0, v1, v2, v3, v4] sk st Q) := am_gu.trans rfl
theorem u4020_80 {v1 : Value} {v2 : Value} {v3 : Value} {v4 : Value} {x : Nat} : am_g d X am_m4020 80 [.ref x, v1, v2, v3, v4] sk st Q = am_g d X am_m4020 81 [.ref x, v1, v2, v3, v4] (.ref x :: sk) st Q := am_gu.trans rfl
theorem u4020_81 {v0 : Value} {v1 : Value} {v2 : Value} {v3 : Value} {x : Int32} : am_g d X am_m4020 81 [v0, v1, v2, v3, .int x] sk st Q = am_g d X am_m4020 83 [v0, v1, v2, v3, .int x] (.int x :: sk) st Q := am_gu.trans rfl
theorem u4020_83 {v0 : Value} {v1 : Value} {v2 : Value} {v3 : Value} {v4 : Value} : am_g d X am_m4020 83 [v0, v1, v2, v3, v4] sk st Q = am_g d X am_m4020 84 [v0, v1, v2, v3, v4] (.int (am_i 0) :: sk) st Q := am_gu.trans rfl
theorem u4020_84 {a0 : Value} {a1 : Value} {v0 : Value} {v1 : Value} {v2 : Value} {v3 : Value} {v4 : Value} : am_g d X am_m4020 84 [v0, v1, v2, v3, v4] (a1 :: a0 :: .ref o :: sk) st Q = ((am_ob st o 4 ∧ sk.length ≤ 4) ∧ am_Ca X d 4030 [.ref o, a0, a1] st (am_af am_m4020 84 [v0, v1, v2, v3, v4] sk (fun pc lc sk st => am_g d X am_m4020 pc lc sk st Q) Q)) := am_gu.trans rfl
theorem u4020_87 {v1 : Value} {v2 : Value} {v3 : Value} {v4 : Value} {x : Nat} : am_g d X am_m4020 87 [.ref x, v1, v2, v3, v4] sk st Q = am_g d X am_m4020 88 [.ref x, v1, v2, v3, v4] (.ref x :: sk) st Q := am_gu.trans rfl
theorem u4020_88 {v0 : Value} {v1 : Value} {v2 : Value} {v3 : Value} {v4 : Value} : am_g d X am_m4020 88 [v0, v1, v2, v3, v4] sk st Q = am_gt 130 91 [v0, v1, v2, v3, v4] sk st (fun pc lc sk st => am_g d X am_m4020 pc lc sk st Q) := am_gu.trans rfl
theorem u4020_91 {v0 : Value} {v1 : Value} {v2 : Value} {v3 : Value} {v4 : Value} : am_g d X am_m4020 91 [v0, v1, v2, v3, v4] (.ref o :: sk) st Q = ((am_ob st o 0 ∧ sk.length ≤ 4) ∧ am_Ca X d 2 [.ref o] st (am_af am_m4020 91 [v0, v1, v2, v3, v4] sk (fun pc lc sk st => am_g d X am_m4020 pc lc sk st Q) Q)) := am_gu.trans rfl
theorem u4020_94 {v0 : Value} {v1 : Value} {v2 : Value} {v4 : Value} {x : Int32} : am_g d X am_m4020 94 [v0, v1, v2, .int x, v4] sk st Q = am_g d X am_m4020 95 [v0, v1, v2, .int x, v4] (.int x :: sk) st Q := am_gu.trans rfl
theorem u4020_95 {v1 : Value} {v2 : Value} {v3 : Value} {v4 : Value} {x : Nat} : am_g d X am_m4020 95 [.ref x, v1, v2, v3, v4] sk st Q = am_g d X am_m4020 96 [.ref x, v1, v2, v3, v4] (.ref x :: sk) st Q := am_gu.trans rfl
theorem u4020_96 {v0 : Value} {v1 : Value} {v2 : Value} {v3 : Value} {v4 : Value} : am_g d X am_m4020 96 [v0, v1, v2, v3, v4] sk st Q = am_gt 130 99 [v0, v1, v2, v3, v4] sk st (fun pc lc sk st => am_g d X am_m4020 pc lc sk st Q) := am_gu.trans rfl
theorem u4020_99 {v0 : Value} {v1 : Value} {v2 : Value} {v3 : Value} {v4 : Value} : am_g d X am_m4020 99 [v0, v1, v2, v3, v4] sk st Q = am_gt 4 102 [v0, v1, v2, v3, v4] sk st (fun pc lc sk st => am_g d X am_m4020 pc lc sk st Q) := am_gu.trans rfl
theorem u4020_102 {v0 : Value} {v1 : Value} {v2 : Value} {v3 : Value} {v4 : Value} {x : Int32} : am_g d X am_m4020 102 [v0, v1, v2, v3, v4] (.int x :: sk) st Q = (if decide (x ≤ 0) = true then am_g d X am_m4020 109 [v0, v1, v2, v3, v4] sk st Q else am_g d X am_m4020 105 [v0, v1, v2, v3, v4] sk st Q) := am_gu.trans rfl
theorem u4020_105 {v0 : Value} {v1 : Value} {v2 : Value} {v3 : Value} {v4 : Value} : am_g d X am_m4020 105 [v0, v1, v2, v3, v4] sk st Q = am_g d X am_m4020 106 [v0, v1, v2, v3, v4] (.int (am_i 1) :: sk) st Q := am_gu.trans rfl
theorem u4020_106 {v0 : Value} {v1 : Value} {v2 : Value} {v3 : Value} {v4 : Value} : am_g d X am_m4020 106 [v0, v1, v2, v3, v4] sk st Q = am_g d X am_m4020 110 [v0, v1, v2, v3, v4] sk st Q := am_gu.trans rfl
theorem u4020_109 {v0 : Value} {v1 : Value} {v2 : Value} {v3 : Value} {v4 : Value} : am_g d X am_m4020 109 [v0, v1, v2, v3, v4] sk st Q = am_g d X am_m4020 110 [v0, v1, v2, v3, v4] (.int (am_i 0) :: sk) st Q := am_gu.trans rfl
theorem u4020_110 {v0 : Value} {v1 : Value} {v2 : Value} {v3 : Value} {v4 : Value} {x : Int32} {y : Int32} : am_g d X am_m4020 110 [v0, v1, v2, v3, v4] (.int y :: .int x :: sk) st Q = am_g d X am_m4020 111 [v0, v1, v2, v3, v4] (.int (x + y) :: sk) st Q := am_gu.trans rfl
theorem u4020_111 {v0 : Value} {v1 : Value} {v2 : Value} {v3 : Value} {v4 : Value} {x : Int32} : am_g d X am_m4020 111 [v0, v1, v2, v3, v4] (.int x :: sk) st Q = am_g d X am_m4020 112 [v0, v1, am_kc v2, .int x, v4] sk st Q := am_gu.trans (congrArg (fun l => am_g d X am_m4020 112 (List.set l 3 (.int x)) sk st Q) (kl_3 (l := [v3, v4])))
theorem u4020_112 {v1 : Value} {v2 : Value} {v3 : Value} {v4 : Value} {x : Nat} : am_g d X am_m4020 112 [.ref x, v1, v2, v3, v4] sk st Q = am_g d X am_m4020 113 [.ref x, v1, v2, v3, v4] (.ref x :: sk) st Q := am_gu.trans rfl
theorem u4020_113 {v0 : Value} {v1 : Value} {v2 : Value} {v3 : Value} {v4 : Value} : am_g d X am_m4020 113 [v0, v1, v2, v3, v4] sk st Q = am_gt 130 116 [v0, v1, v2, v3, v4] sk st (fun pc lc sk st => am_g d X am_m4020 pc lc sk st Q) := am_gu.trans rfl
theorem u4020_116 {v0 : Value} {v1 : Value} {v2 : Value} {v3 : Value} {v4 : Value} : am_g d X am_m4020 116 [v0, v1, v2, v3, v4] sk st Q = am_gt 5 119 [v0, v1, v2, v3, v4] sk st (fun pc lc sk st => am_g d X am_m4020 pc lc sk st Q) := am_gu.trans rfl
theorem u4020_119 {v0 : Value} {v1 : Value} {v2 : Value} {v3 : Value} {v4 : Value} {x : Int32} : am_g d X am_m4020 119 [v0, v1, v2, v3, v4] (.int x :: sk) st Q = (if decide (0 < x) = true then am_g d X am_m4020 128 [v0, v1, v2, v3, v4] sk st Q else am_g d X am_m4020 122 [v0, v1, v2, v3, v4] sk st Q) := am_gu.trans rfl
theorem u4020_122 {v0 : Value} {v1 : Value} {v2 : Value} {v4 : Value} {x : Int32} : am_g d X am_m4020 122 [v0, v1, v2, .int x, v4] sk st Q = am_g d X am_m4020 123 [v0, v1, v2, .int x, v4] (.int x :: sk) st Q := am_gu.trans rfl
theorem u4020_123 {v0 : Value} {v1 : Value} {v2 : Value} {v3 : Value} {v4 : Value} : am_g d X am_m4020 123 [v0, v1, v2, v3, v4] sk st Q = am_g d X am_m4020 125 [v0, v1, v2, v3, v4] (.int (am_i 60) :: sk) st Q := am_gu.trans rfl
theorem u4020_125 {v0 : Value} {v1 : Value} {v2 : Value} {v3 : Value} {v4 : Value} {x : Int32} {y : Int32} : am_g d X am_m4020 125 [v0, v1, v2, v3, v4] (.int y :: .int x :: sk) st Q = (if decide (x ≤ y) = true then am_g d X am_m4020 130 [v0, v1, v2, v3, v4] sk st Q else am_g d X am_m4020 128 [v0, v1, v2, v3, v4] sk st Q) := am_gu.trans rfl
theorem u4020_128 {v0 : Value} {v1 : Value} {v2 : Value} {v3 : Value} {v4 : Value} : am_g d X am_m4020 128 [v0, v1, v2, v3, v4] sk st Q = am_g d X am_m4020 129 [v0, v1, v2, v3, v4] (.int (am_i 0) :: sk) st Q := am_gu.trans rfl
theorem u4020_129 {v0 : Value} {v1 : Value} {v2 : Value} {v3 : Value} {v4 : Value} {x : Int32} : am_g d X am_m4020 129 [v0, v1, v2, v3, v4] [.int x] st Q = ((x = 0 ∨ x = 1) ∧ Q (.inl (some (.int x))) st) := am_gu.trans rfl
theorem u4020_130 {v0 : Value} {v1 : Value} {v2 : Value} {v3 : Value} {x : Int32} : am_g d X am_m4020 130 [v0, v1, v2, v3, .int x] sk st Q = am_g d X am_m4020 133 [v0, v1, v2, am_kc v3, .int (x + am_i 1)] sk st Q := am_gu.trans (congrArg (fun l => am_g d X am_m4020 133 (List.set l 4 (.int (x + am_i 1))) sk st Q) (kl_4 (l := [.int x])))
theorem u4020_133 {v0 : Value} {v1 : Value} {v2 : Value} {v3 : Value} {v4 : Value} : am_g d X am_m4020 133 [v0, v1, v2, v3, v4] sk st Q = am_g d X am_m4020 61 [v0, v1, v2, v3, v4] sk st Q := am_gu.trans rfl
theorem u4020_136 {v0 : Value} {v1 : Value} {v2 : Value} {v3 : Value} {v4 : Value} : am_g d X am_m4020 136 [v0, v1, v2, v3, v4] sk st Q = am_g d X am_m4020 137 [v0, v1, v2, v3, v4] (.int (am_i 1) :: sk) st Q := am_gu.trans rfl
theorem u4020_137 {v0 : Value} {v1 : Value} {v2 : Value} {v3 : Value} {v4 : Value} {x : Int32} : am_g d X am_m4020 137 [v0, v1, v2, v3, v4] [.int x] st Q = ((x = 0 ∨ x = 1) ∧ Q (.inl (some (.int x))) st) := am_gu.trans rfl
set_option maxRecDepth 100000 in
theorem of_4021 : am_of 4021 = some am_m4021 := rfl
theorem c4021 {z a0} {P : am_Q} : am_Ca X (d + 1) 4021 [.ref z, .int a0] st P = am_g d X am_m4021 0 [.ref z, .int a0, am_u, am_u, am_u] [] st P := am_cg of_4021 (by show 2 ≤ 5; decide)
theorem hd_4021 : am_hd am_m4021 = [] := rfl
theorem u4021_0 {v0 : Value} {v1 : Value} {v2 : Value} {v3 : Value} {v4 : Value} : am_g d X am_m4021 0 [v0, v1, v2, v3, v4] sk st Q = am_g d X am_m4021 1 [v0, v1, v2, v3, v4] (.int (am_i 0) :: sk) st Q := am_gu.trans rfl
theorem u4021_1 {v0 : Value} {v1 : Value} {v2 : Value} {v3 : Value} {v4 : Value} {x : Int32} : am_g d X am_m4021 1 [v0, v1, v2, v3, v4] (.int x :: sk) st Q = am_g d X am_m4021 2 [v0, am_kc v1, .int x, v3, v4] sk st Q := am_gu.trans (congrArg (fun l => am_g d X am_m4021 2 (List.set l 2 (.int x)) sk st Q) (kl_2 (l := [v2, v3, v4])))
theorem u4021_2 {v1 : Value} {v2 : Value} {v3 : Value} {v4 : Value} {x : Nat} : am_g d X am_m4021 2 [.ref x, v1, v2, v3, v4] sk st Q = am_g d X am_m4021 3 [.ref x, v1, v2, v3, v4] (.ref x :: sk) st Q := am_gu.trans rfl
theorem u4021_3 {v0 : Value} {v1 : Value} {v2 : Value} {v3 : Value} {v4 : Value} : am_g d X am_m4021 3 [v0, v1, v2, v3, v4] sk st Q = am_gt 128 6 [v0, v1, v2, v3, v4] sk st (fun pc lc sk st => am_g d X am_m4021 pc lc sk st Q) := am_gu.trans rfl
theorem u4021_6 {v0 : Value} {v2 : Value} {v3 : Value} {v4 : Value} {x : Int32} : am_g d X am_m4021 6 [v0, .int x, v2, v3, v4] sk st Q = am_g d X am_m4021 7 [v0, .int x, v2, v3, v4] (.int x :: sk) st Q := am_gu.trans rfl
theorem u4021_7 {a0 : Value} {v0 : Value} {v1 : Value} {v2 : Value} {v3 : Value} {v4 : Value} : am_g d X am_m4021 7 [v0, v1, v2, v3, v4] (a0 :: .ref o :: sk) st Q = ((am_ob st o 5 ∧ sk.length ≤ 4) ∧ am_Ca X d 5015 [.ref o, a0] st (am_af am_m4021 7 [v0, v1, v2, v3, v4] sk (fun pc lc sk st => am_g d X am_m4021 pc lc sk st Q) Q)) := am_gu.trans rfl
theorem u4021_10 {v0 : Value} {v1 : Value} {v2 : Value} {v3 : Value} {v4 : Value} {x : Int32} : am_g d X am_m4021 10 [v0, v1, v2, v3, v4] (.int x :: sk) st Q = am_g d X am_m4021 11 [v0, v1, am_kc v2, .int x, v4] sk st Q := am_gu.trans (congrArg (fun l => am_g d X am_m4021 11 (List.set l 3 (.int x)) sk st Q) (kl_3 (l := [v3, v4])))
theorem u4021_11 {v1 : Value} {v2 : Value} {v3 : Value} {v4 : Value} {x : Nat} : am_g d X am_m4021 11 [.ref x, v1, v2, v3, v4] sk st Q = am_g d X am_m4021 12 [.ref x, v1, v2, v3, v4] (.ref x :: sk) st Q := am_gu.trans rfl
theorem u4021_12 {v0 : Value} {v1 : Value} {v2 : Value} {v3 : Value} {v4 : Value} : am_g d X am_m4021 12 [v0, v1, v2, v3, v4] sk st Q = am_gt 129 15 [v0, v1, v2, v3, v4] sk st (fun pc lc sk st => am_g d X am_m4021 pc lc sk st Q) := am_gu.trans rfl
theorem u4021_15 {v1 : Value} {v2 : Value} {v3 : Value} {v4 : Value} {x : Nat} : am_g d X am_m4021 15 [.ref x, v1, v2, v3, v4] sk st Q = am_g d X am_m4021 16 [.ref x, v1, v2, v3, v4] (.ref x :: sk) st Q := am_gu.trans rfl
theorem u4021_16 {v0 : Value} {v1 : Value} {v2 : Value} {v3 : Value} {v4 : Value} : am_g d X am_m4021 16 [v0, v1, v2, v3, v4] sk st Q = am_gt 128 19 [v0, v1, v2, v3, v4] sk st (fun pc lc sk st => am_g d X am_m4021 pc lc sk st Q) := am_gu.trans rfl
theorem u4021_19 {v0 : Value} {v1 : Value} {v2 : Value} {v4 : Value} {x : Int32} : am_g d X am_m4021 19 [v0, v1, v2, .int x, v4] sk st Q = am_g d X am_m4021 20 [v0, v1, v2, .int x, v4] (.int x :: sk) st Q := am_gu.trans rfl
theorem u4021_20 {v1 : Value} {v2 : Value} {v3 : Value} {v4 : Value} {x : Nat} : am_g d X am_m4021 20 [.ref x, v1, v2, v3, v4] sk st Q = am_g d X am_m4021 21 [.ref x, v1, v2, v3, v4] (.ref x :: sk) st Q := am_gu.trans rfl
theorem u4021_21 {v0 : Value} {v1 : Value} {v2 : Value} {v3 : Value} {v4 : Value} : am_g d X am_m4021 21 [v0, v1, v2, v3, v4] sk st Q = am_gt 131 24 [v0, v1, v2, v3, v4] sk st (fun pc lc sk st => am_g d X am_m4021 pc lc sk st Q) := am_gu.trans rfl
theorem u4021_24 {a0 : Value} {a1 : Value} {a2 : Value} {v0 : Value} {v1 : Value} {v2 : Value} {v3 : Value} {v4 : Value} : am_g d X am_m4021 24 [v0, v1, v2, v3, v4] (a2 :: a1 :: a0 :: .ref o :: sk) st Q = ((am_ob st o 1 ∧ sk.length ≤ 4) ∧ am_Ca X d 1014 [.ref o, a0, a1, a2] st (am_af am_m4021 24 [v0, v1, v2, v3, v4] sk (fun pc lc sk st => am_g d X am_m4021 pc lc sk st Q) Q)) := am_gu.trans rfl
theorem u4021_27 {v1 : Value} {v2 : Value} {v3 : Value} {v4 : Value} {x : Nat} : am_g d X am_m4021 27 [.ref x, v1, v2, v3, v4] sk st Q = am_g d X am_m4021 28 [.ref x, v1, v2, v3, v4] (.ref x :: sk) st Q := am_gu.trans rfl
theorem u4021_28 {v0 : Value} {v1 : Value} {v2 : Value} {v3 : Value} {v4 : Value} : am_g d X am_m4021 28 [v0, v1, v2, v3, v4] sk st Q = am_gt 128 31 [v0, v1, v2, v3, v4] sk st (fun pc lc sk st => am_g d X am_m4021 pc lc sk st Q) := am_gu.trans rfl
theorem u4021_31 {v0 : Value} {v1 : Value} {v2 : Value} {v4 : Value} {x : Int32} : am_g d X am_m4021 31 [v0, v1, v2, .int x, v4] sk st Q = am_g d X am_m4021 32 [v0, v1, v2, .int x, v4] (.int x :: sk) st Q := am_gu.trans rfl
theorem u4021_32 {a0 : Value} {v0 : Value} {v1 : Value} {v2 : Value} {v3 : Value} {v4 : Value} : am_g d X am_m4021 32 [v0, v1, v2, v3, v4] (a0 :: .ref o :: sk) st Q = ((am_ob st o 5 ∧ sk.length ≤ 4) ∧ am_Ca X d 5020 [.ref o, a0] st (am_af am_m4021 32 [v0, v1, v2, v3, v4] sk (fun pc lc sk st => am_g d X am_m4021 pc lc sk st Q) Q)) := am_gu.trans rfl
theorem u4021_35 {v0 : Value} {v1 : Value} {v2 : Value} {v3 : Value} {v4 : Value} : am_g d X am_m4021 35 [v0, v1, v2, v3, v4] sk st Q = am_g d X am_m4021 36 [v0, v1, v2, v3, v4] (.int (am_i 0) :: sk) st Q := am_gu.trans rfl
theorem u4021_36 {v0 : Value} {v1 : Value} {v2 : Value} {v3 : Value} {v4 : Value} {x : Int32} : am_g d X am_m4021 36 [v0, v1, v2, v3, v4] (.int x :: sk) st Q = am_g d X am_m4021 38 [v0, v1, v2, am_kc v3, .int x] sk st Q := am_gu.trans (congrArg (fun l => am_g d X am_m4021 38 (List.set l 4 (.int x)) sk st Q) (kl_4 (l := [v4])))
theorem u4021_38 {v0 : Value} {v1 : Value} {v2 : Value} {v3 : Value} {x : Int32} : am_g d X am_m4021 38 [v0, v1, v2, v3, .int x] sk st Q = am_g d X am_m4021 40 [v0, v1, v2, v3, .int x] (.int x :: sk) st Q := am_gu.trans rfl
theorem u4021_40 {v0 : Value} {v1 : Value} {v2 : Value} {v3 : Value} {v4 : Value} : am_g d X am_m4021 40 [v0, v1, v2, v3, v4] sk st Q = am_g d X am_m4021 42 [v0, v1, v2, v3, v4] (.int (am_i 60) :: sk) st Q := am_gu.trans rfl
theorem u4021_42 {v0 : Value} {v1 : Value} {v2 : Value} {v3 : Value} {v4 : Value} {x : Int32} {y : Int32} : am_g d X am_m4021 42 [v0, v1, v2, v3, v4] (.int y :: .int x :: sk) st Q = (if decide (y ≤ x) = true then am_g d X am_m4021 96 [v0, v1, v2, v3, v4] sk st Q else am_g d X am_m4021 45 [v0, v1, v2, v3, v4] sk st Q) := am_gu.trans rfl
theorem u4021_45 {v1 : Value} {v2 : Value} {v3 : Value} {v4 : Value} {x : Nat} : am_g d X am_m4021 45 [.ref x, v1, v2, v3, v4] sk st Q = am_g d X am_m4021 46 [.ref x, v1, v2, v3, v4] (.ref x :: sk) st Q := am_gu.trans rfl
theorem u4021_46 {v0 : Value} {v1 : Value} {v2 : Value} {v3 : Value} {v4 : Value} : am_g d X am_m4021 46 [v0, v1, v2, v3, v4] sk st Q = am_gt 131 49 [v0, v1, v2, v3, v4] sk st (fun pc lc sk st => am_g d X am_m4021 pc lc sk st Q) := am_gu.trans rfl
theorem u4021_49 {v0 : Value} {v1 : Value} {v2 : Value} {v3 : Value} {x : Int32} : am_g d X am_m4021 49 [v0, v1, v2, v3, .int x] sk st Q = am_g d X am_m4021 51 [v0, v1, v2, v3, .int x] (.int x :: sk) st Q := am_gu.trans rfl
theorem u4021_51 {a0 : Value} {a1 : Value} {v0 : Value} {v1 : Value} {v2 : Value} {v3 : Value} {v4 : Value} : am_g d X am_m4021 51 [v0, v1, v2, v3, v4] (a1 :: a0 :: sk) st Q = (sk.length ≤ 4 ∧ am_Ca X d 1015 [a0, a1] st (am_af am_m4021 51 [v0, v1, v2, v3, v4] sk (fun pc lc sk st => am_g d X am_m4021 pc lc sk st Q) Q)) := am_gu.trans (propext ⟨fun h => ⟨h.1.2, h.2⟩, fun h => ⟨⟨Nat.le_add_left _ _, h.1⟩, h.2⟩⟩)
theorem u4021_54 {v0 : Value} {v1 : Value} {v2 : Value} {v3 : Value} {v4 : Value} {x : Int32} : am_g d X am_m4021 54 [v0, v1, v2, v3, v4] (.int x :: sk) st Q = (if decide (x = 0) = true then am_g d X am_m4021 90 [v0, v1, v2, v3, v4] sk st Q else am_g d X am_m4021 57 [v0, v1, v2, v3, v4] sk st Q) := am_gu.trans rfl
theorem u4021_57 {v1 : Value} {v2 : Value} {v3 : Value} {v4 : Value} {x : Nat} : am_g d X am_m4021 57 [.ref x, v1, v2, v3, v4] sk st Q = am_g d X am_m4021 58 [.ref x, v1, v2, v3, v4] (.ref x :: sk) st Q := am_gu.trans rfl
theorem u4021_58 {v0 : Value} {v1 : Value} {v2 : Value} {v3 : Value} {x : Int32} : am_g d X am_m4021 58 [v0, v1, v2, v3, .int x] sk st Q = am_g d X am_m4021 60 [v0, v1, v2, v3, .int x] (.int x :: sk) st Q := am_gu.trans rfl
theorem u4021_60 {v0 : Value} {v1 : Value} {v2 : Value} {v3 : Value} {v4 : Value} : am_g d X am_m4021 60 [v0, v1, v2, v3, v4] sk st Q = am_g d X am_m4021 61 [v0, v1, v2, v3, v4] (.int (am_i 0) :: sk) st Q := am_gu.trans rfl
theorem u4021_61 {a0 : Value} {a1 : Value} {v0 : Value} {v1 : Value} {v2 : Value} {v3 : Value} {v4 : Value} : am_g d X am_m4021 61 [v0, v1, v2, v3, v4] (a1 :: a0 :: .ref o :: sk) st Q = ((am_ob st o 4 ∧ sk.length ≤ 4) ∧ am_Ca X d 4028 [.ref o, a0, a1] st (am_af am_m4021 61 [v0, v1, v2, v3, v4] sk (fun pc lc sk st => am_g d X am_m4021 pc lc sk st Q) Q)) := am_gu.trans rfl
theorem u4021_64 {v1 : Value} {v2 : Value} {v3 : Value} {v4 : Value} {x : Nat} : am_g d X am_m4021 64 [.ref x, v1, v2, v3, v4] sk st Q = am_g d X am_m4021 65 [.ref x, v1, v2, v3, v4] (.ref x :: sk) st Q := am_gu.trans rfl
theorem u4021_65 {v0 : Value} {v1 : Value} {v2 : Value} {v3 : Value} {v4 : Value} : am_g d X am_m4021 65 [v0, v1, v2, v3, v4] sk st Q = am_gt 130 68 [v0, v1, v2, v3, v4] sk st (fun pc lc sk st => am_g d X am_m4021 pc lc sk st Q) := am_gu.trans rfl
theorem u4021_68 {v0 : Value} {v1 : Value} {v2 : Value} {v3 : Value} {v4 : Value} : am_g d X am_m4021 68 [v0, v1, v2, v3, v4] sk st Q = am_gt 4 71 [v0, v1, v2, v3, v4] sk st (fun pc lc sk st => am_g d X am_m4021 pc lc sk st Q) := am_gu.trans rfl
theorem u4021_71 {v0 : Value} {v1 : Value} {v2 : Value} {v3 : Value} {v4 : Value} {x : Int32} : am_g d X am_m4021 71 [v0, v1, v2, v3, v4] (.int x :: sk) st Q = (if decide (x ≤ 0) = true then am_g d X am_m4021 90 [v0, v1, v2, v3, v4] sk st Q else am_g d X am_m4021 74 [v0, v1, v2, v3, v4] sk st Q) := am_gu.trans rfl
theorem u4021_74 {v1 : Value} {v2 : Value} {v3 : Value} {v4 : Value} {x : Nat} : am_g d X am_m4021 74 [.ref x, v1, v2, v3, v4] sk st Q = am_g d X am_m4021 75 [.ref x, v1, v2, v3, v4] (.ref x :: sk) st Q := am_gu.trans rfl
theorem u4021_75 {v0 : Value} {v1 : Value} {v2 : Value} {v3 : Value} {v4 : Value} : am_g d X am_m4021 75 [v0, v1, v2, v3, v4] (.ref o :: sk) st Q = ((am_ob st o 4 ∧ sk.length ≤ 4) ∧ am_Ca X d 4031 [.ref o] st (am_af am_m4021 75 [v0, v1, v2, v3, v4] sk (fun pc lc sk st => am_g d X am_m4021 pc lc sk st Q) Q)) := am_gu.trans rfl
theorem u4021_78 {v1 : Value} {v2 : Value} {v3 : Value} {v4 : Value} {x : Nat} : am_g d X am_m4021 78 [.ref x, v1, v2, v3, v4] sk st Q = am_g d X am_m4021 79 [.ref x, v1, v2, v3, v4] (.ref x :: sk) st Q := am_gu.trans rfl
theorem u4021_79 {v0 : Value} {v1 : Value} {v2 : Value} {v3 : Value} {v4 : Value} : am_g d X am_m4021 79 [v0, v1, v2, v3, v4] sk st Q = am_gt 128 82 [v0, v1, v2, v3, v4] sk st (fun pc lc sk st => am_g d X am_m4021 pc lc sk st Q) := am_gu.trans rfl
theorem u4021_82 {v0 : Value} {v1 : Value} {v2 : Value} {v3 : Value} {v4 : Value} : am_g d X am_m4021 82 [v0, v1, v2, v3, v4] sk st Q = am_g d X am_m4021 83 [v0, v1, v2, v3, v4] (.int (am_i (-1)) :: sk) st Q := am_gu.trans rfl
theorem u4021_83 {a0 : Value} {v0 : Value} {v1 : Value} {v2 : Value} {v3 : Value} {v4 : Value} : am_g d X am_m4021 83 [v0, v1, v2, v3, v4] (a0 :: .ref o :: sk) st Q = ((am_ob st o 5 ∧ sk.length ≤ 4) ∧ am_Ca X d 5013 [.ref o, a0] st (am_af am_m4021 83 [v0, v1, v2, v3, v4] sk (fun pc lc sk st => am_g d X am_m4021 pc lc sk st Q) Q)) := am_gu.trans rfl
theorem u4021_86i {v0 : Value} {v1 : Value} {v2 : Value} {v3 : Value} {v4 : Value} {x : Int32} : am_g d X am_m4021 86 [v0, v1, v2, v3, v4] (.int x :: sk) st Q = am_g d X am_m4021 87 [v0, v1, v2, v3, v4] sk st Q := am_gu.trans rfl
theorem u4021_86r {v0 : Value} {v1 : Value} {v2 : Value} {v3 : Value} {v4 : Value} {x : Nat} : am_g d X am_m4021 86 [v0, v1, v2, v3, v4] (.ref x :: sk) st Q = am_g d X am_m4021 87 [v0, v1, v2, v3, v4] sk st Q := am_gu.trans rfl
theorem u4021_87 {v0 : Value} {v1 : Value} {v3 : Value} {v4 : Value} {x : Int32} : am_g d X am_m4021 87 [v0, v1, .int x, v3, v4] sk st Q = am_g d X am_m4021 90 [v0, am_kc v1, .int (x + am_i 1), v3, v4] sk st Q := am_gu.trans (congrArg (fun l => am_g d X am_m4021 90 (List.set l 2 (.int (x + am_i 1))) sk st Q) (kl_2 (l := [.int x, v3, v4])))
theorem u4021_90 {v0 : Value} {v1 : Value} {v2 : Value} {v3 : Value} {x : Int32} : am_g d X am_m4021 90 [v0, v1, v2, v3, .int x] sk st Q = am_g d X am_m4021 93 [v0, v1, v2, am_kc v3, .int (x + am_i 1)] sk st Q := am_gu.trans (congrArg (fun l => am_g d X am_m4021 93 (List.set l 4 (.int (x + am_i 1))) sk st Q) (kl_4 (l := [.int x])))
theorem u4021_93 {v0 : Value} {v1 : Value} {v2 : Value} {v3 : Value} {v4 : Value} : am_g d X am_m4021 93 [v0, v1, v2, v3, v4] sk st Q = am_g d X am_m4021 38 [v0, v1, v2, v3, v4] sk st Q := am_gu.trans rfl
theorem u4021_96 {v0 : Value} {v1 : Value} {v3 : Value} {v4 : Value} {x : Int32} : am_g d X am_m4021 96 [v0, v1, .int x, v3, v4] sk st Q = am_g d X am_m4021 97 [v0, v1, .int x, v3, v4] (.int x :: sk) st Q := am_gu.trans rfl
theorem u4021_97 {v0 : Value} {v1 : Value} {v2 : Value} {v3 : Value} {v4 : Value} {x : Int32} : am_g d X am_m4021 97 [v0, v1, v2, v3, v4] [.int x] st Q = Q (.inl (some (.int x))) st := am_gu.trans rfl
set_option maxRecDepth 100000 in
theorem of_4022 : am_of 4022 = some am_m4022 := rfl
theorem c4022 {z a0 a1} {P : am_Q} : am_Ca X (d + 1) 4022 [.ref z, .int a0, .int a1] st P = am_g d X am_m4022 0 [.ref z, .int a0, .int a1] [] st P := am_cg of_4022 (by show 3 ≤ 3; decide)
theorem hd_4022 : am_hd am_m4022 = [] := rfl
theorem u4022_0 {v1 : Value} {v2 : Value} {x : Nat} : am_g d X am_m4022 0 [.ref x, v1, v2] sk st Q = am_g d X am_m4022 1 [.ref x, v1, v2] (.ref x :: sk) st Q := am_gu.trans rfl
theorem u4022_1 {v0 : Value} {v1 : Value} {v2 : Value} : am_g d X am_m4022 1 [v0, v1, v2] sk st Q = am_gt 128 4 [v0, v1, v2] sk st (fun pc lc sk st => am_g d X am_m4022 pc lc sk st Q) := am_gu.trans rfl
theorem u4022_4 {v0 : Value} {v2 : Value} {x : Int32} : am_g d X am_m4022 4 [v0, .int x, v2] sk st Q = am_g d X am_m4022 5 [v0, .int x, v2] (.int x :: sk) st Q := am_gu.trans rfl
theorem u4022_5 {v0 : Value} {v1 : Value} {x : Int32} : am_g d X am_m4022 5 [v0, v1, .int x] sk st Q = am_g d X am_m4022 6 [v0, v1, .int x] (.int x :: sk) st Q := am_gu.trans rfl
theorem u4022_6 {v0 : Value} {v1 : Value} {v2 : Value} {x : Int32} : am_g d X am_m4022 6 [v0, v1, v2] (.int x :: sk) st Q = (if decide (x = 0) = true then am_g d X am_m4022 20 [v0, v1, v2] sk st Q else am_g d X am_m4022 9 [v0, v1, v2] sk st Q) := am_gu.trans rfl
theorem u4022_9 {v1 : Value} {v2 : Value} {x : Nat} : am_g d X am_m4022 9 [.ref x, v1, v2] sk st Q = am_g d X am_m4022 10 [.ref x, v1, v2] (.ref x :: sk) st Q := am_gu.trans rfl
theorem u4022_10 {v0 : Value} {v1 : Value} {v2 : Value} : am_g d X am_m4022 10 [v0, v1, v2] sk st Q = am_gt 128 13 [v0, v1, v2] sk st (fun pc lc sk st => am_g d X am_m4022 pc lc sk st Q) := am_gu.trans rfl
theorem u4022_13 {v0 : Value} {v2 : Value} {x : Int32} : am_g d X am_m4022 13 [v0, .int x, v2] sk st Q = am_g d X am_m4022 14 [v0, .int x, v2] (.int x :: sk) st Q := am_gu.trans rfl
theorem u4022_14 {a0 : Value} {v0 : Value} {v1 : Value} {v2 : Value} : am_g d X am_m4022 14 [v0, v1, v2] (a0 :: .ref o :: sk) st Q = ((am_ob st o 5 ∧ sk.length ≤ 4) ∧ am_Ca X d 5027 [.ref o, a0] st (am_af am_m4022 14 [v0, v1, v2] sk (fun pc lc sk st => am_g d X am_m4022 pc lc sk st Q) Q)) := am_gu.trans rfl
theorem u4022_17 {v0 : Value} {v1 : Value} {v2 : Value} : am_g d X am_m4022 17 [v0, v1, v2] sk st Q = am_g d X am_m4022 28 [v0, v1, v2] sk st Q := am_gu.trans rfl
theorem u4022_20 {v1 : Value} {v2 : Value} {x : Nat} : am_g d X am_m4022 20 [.ref x, v1, v2] sk st Q = am_g d X am_m4022 21 [.ref x, v1, v2] (.ref x :: sk) st Q := am_gu.trans rfl
theorem u4022_21 {v0 : Value} {v1 : Value} {v2 : Value} : am_g d X am_m4022 21 [v0, v1, v2] sk st Q = am_gt 128 24 [v0, v1, v2] sk st (fun pc lc sk st => am_g d X am_m4022 pc lc sk st Q) := am_gu.trans rfl
theorem u4022_24 {v0 : Value} {v2 : Value} {x : Int32} : am_g d X am_m4022 24 [v0, .int x, v2] sk st Q = am_g d X am_m4022 25 [v0, .int x, v2] (.int x :: sk) st Q := am_gu.trans rfl
theorem u4022_25 {a0 : Value} {v0 : Value} {v1 : Value} {v2 : Value} : am_g d X am_m4022 25 [v0, v1, v2] (a0 :: .ref o :: sk) st Q = ((am_ob st o 5 ∧ sk.length ≤ 4) ∧ am_Ca X d 5021 [.ref o, a0] st (am_af am_m4022 25 [v0, v1, v2] sk (fun pc lc sk st => am_g d X am_m4022 pc lc sk st Q) Q)) := am_gu.trans rfl
theorem u4022_28 {a0 : Value} {a1 : Value} {v0 : Value} {v1 : Value} {v2 : Value} : am_g d X am_m4022 28 [v0, v1, v2] (a1 :: a0 :: .ref o :: sk) st Q = ((am_ob st o 5 ∧ sk.length ≤ 4) ∧ am_Ca X d 5022 [.ref o, a0, a1] st (am_af am_m4022 28 [v0, v1, v2] sk (fun pc lc sk st => am_g d X am_m4022 pc lc sk st Q) Q)) := am_gu.trans rfl
theorem u4022_31 {v1 : Value} {v2 : Value} {x : Nat} : am_g d X am_m4022 31 [.ref x, v1, v2] sk st Q = am_g d X am_m4022 32 [.ref x, v1, v2] (.ref x :: sk) st Q := am_gu.trans rfl
theorem u4022_32 {v0 : Value} {v1 : Value} {v2 : Value} : am_g d X am_m4022 32 [v0, v1, v2] sk st Q = am_gt 128 35 [v0, v1, v2] sk st (fun pc lc sk st => am_g d X am_m4022 pc lc sk st Q) := am_gu.trans rfl
theorem u4022_35 {v0 : Value} {v1 : Value} {v2 : Value} : am_g d X am_m4022 35 [v0, v1, v2] (.ref o :: sk) st Q = ((am_ob st o 5 ∧ sk.length ≤ 4) ∧ am_Ca X d 5029 [.ref o] st (am_af am_m4022 35 [v0, v1, v2] sk (fun pc lc sk st => am_g d X am_m4022 pc lc sk st Q) Q)) := am_gu.trans rfl
theorem u4022_38 {v0 : Value} {v1 : Value} {v2 : Value} {x : Int32} : am_g d X am_m4022 38 [v0, v1, v2] [.int x] st Q = Q (.inl (some (.int x))) st := am_gu.trans rfl
set_option maxRecDepth 100000 in
theorem of_4023 : am_of 4023 = some am_m4023 := rfl
theorem c4023 {z} {P : am_Q} : am_Ca X (d + 1) 4023 [.ref z] st P = am_g d X am_m4023 0 [.ref z] [] st P := am_cg of_4023 (by show 1 ≤ 1; decide)
theorem hd_4023 : am_hd am_m4023 = [] := rfl
theorem u4023_0 {x : Nat} : am_g d X am_m4023 0 [.ref x] sk st Q = am_g d X am_m4023 1 [.ref x] (.ref x :: sk) st Q := am_gu.trans rfl
theorem u4023_1 {v0 : Value} : am_g d X am_m4023 1 [v0] sk st Q = am_gt 128 4 [v0] sk st (fun pc lc sk st => am_g d X am_m4023 pc lc sk st Q) := am_gu.trans rfl
theorem u4023_4 {v0 : Value} : am_g d X am_m4023 4 [v0] sk st Q = am_gt 168 7 [v0] sk st (fun pc lc sk st => am_g d X am_m4023 pc lc sk st Q) := am_gu.trans rfl
theorem u4023_7 {v0 : Value} {x : Int32} : am_g d X am_m4023 7 [v0] (.int x :: sk) st Q = (if decide (x = 0) = true then am_g d X am_m4023 14 [v0] sk st Q else am_g d X am_m4023 10 [v0] sk st Q) := am_gu.trans rfl
theorem u4023_10 {v0 : Value} : am_g d X am_m4023 10 [v0] sk st Q = am_g d X am_m4023 11 [v0] (.int (am_i 1) :: sk) st Q := am_gu.trans rfl
theorem u4023_11 {v0 : Value} : am_g d X am_m4023 11 [v0] sk st Q = am_g d X am_m4023 15 [v0] sk st Q := am_gu.trans rfl
theorem u4023_14 {v0 : Value} : am_g d X am_m4023 14 [v0] sk st Q = am_g d X am_m4023 15 [v0] (.int (am_i 0) :: sk) st Q := am_gu.trans rfl
theorem u4023_15 {v0 : Value} {x : Int32} : am_g d X am_m4023 15 [v0] [.int x] st Q = ((x = 0 ∨ x = 1) ∧ Q (.inl (some (.int x))) st) := am_gu.trans rfl
set_option maxRecDepth 100000 in
theorem of_4024 : am_of 4024 = some am_m4024 := rfl
theorem c4024 {z} {P : am_Q} : am_Ca X (d + 1) 4024 [.ref z] st P = am_g d X am_m4024 0 [.ref z, am_u] [] st P := am_cg of_4024 (by show 1 ≤ 2; decide)
theorem hd_4024 : am_hd am_m4024 = [] := rfl
theorem u4024_0 {v1 : Value} {x : Nat} : am_g d X am_m4024 0 [.ref x, v1] sk st Q = am_g d X am_m4024 1 [.ref x, v1] (.ref x :: sk) st Q := am_gu.trans rfl
theorem u4024_1 {v0 : Value} {v1 : Value} : am_g d X am_m4024 1 [v0, v1] sk st Q = am_gt 128 4 [v0, v1] sk st (fun pc lc sk st => am_g d X am_m4024 pc lc sk st Q) := am_gu.trans rfl
theorem u4024_4 {v0 : Value} {v1 : Value} : am_g d X am_m4024 4 [v0, v1] (.ref o :: sk) st Q = ((am_ob st o 5 ∧ sk.length ≤ 4) ∧ am_Ca X d 5029 [.ref o] st (am_af am_m4024 4 [v0, v1] sk (fun pc lc sk st => am_g d X am_m4024 pc lc sk st Q) Q)) := am_gu.trans rfl
theorem u4024_7 {v0 : Value} {v1 : Value} {x : Int32} : am_g d X am_m4024 7 [v0, v1] (.int x :: sk) st Q = am_g d X am_m4024 8 [am_kc v0, .int x] sk st Q := am_gu.trans (congrArg (fun l => am_g d X am_m4024 8 (List.set l 1 (.int x)) sk st Q) (kl_1 (l := [v1])))
theorem u4024_8 {v1 : Value} {x : Nat} : am_g d X am_m4024 8 [.ref x, v1] sk st Q = am_g d X am_m4024 9 [.ref x, v1] (.ref x :: sk) st Q := am_gu.trans rfl
theorem u4024_9 {v0 : Value} {v1 : Value} : am_g d X am_m4024 9 [v0, v1] sk st Q = am_gt 128 12 [v0, v1] sk st (fun pc lc sk st => am_g d X am_m4024 pc lc sk st Q) := am_gu.trans rfl
theorem u4024_12 {v1 : Value} {x : Nat} : am_g d X am_m4024 12 [.ref x, v1] sk st Q = am_g d X am_m4024 13 [.ref x, v1] (.ref x :: sk) st Q := am_gu.trans rfl
theorem u4024_13 {v0 : Value} {v1 : Value} : am_g d X am_m4024 13 [v0, v1] sk st Q = am_gt 128 16 [v0, v1] sk st (fun pc lc sk st => am_g d X am_m4024 pc lc sk st Q) := am_gu.trans rfl
theorem u4024_16 {v0 : Value} {v1 : Value} : am_g d X am_m4024 16 [v0, v1] (.ref o :: sk) st Q = ((am_ob st o 5 ∧ sk.length ≤ 4) ∧ am_Ca X d 5016 [.ref o] st (am_af am_m4024 16 [v0, v1] sk (fun pc lc sk st => am_g d X am_m4024 pc lc sk st Q) Q)) := am_gu.trans rfl
theorem u4024_19 {a0 : Value} {v0 : Value} {v1 : Value} : am_g d X am_m4024 19 [v0, v1] (a0 :: .ref o :: sk) st Q = ((am_ob st o 5 ∧ sk.length ≤ 4) ∧ am_Ca X d 5020 [.ref o, a0] st (am_af am_m4024 19 [v0, v1] sk (fun pc lc sk st => am_g d X am_m4024 pc lc sk st Q) Q)) := am_gu.trans rfl
theorem u4024_22 {v0 : Value} {x : Int32} : am_g d X am_m4024 22 [v0, .int x] sk st Q = am_g d X am_m4024 23 [v0, .int x] (.int x :: sk) st Q := am_gu.trans rfl
theorem u4024_23 {v0 : Value} {v1 : Value} {x : Int32} : am_g d X am_m4024 23 [v0, v1] [.int x] st Q = Q (.inl (some (.int x))) st := am_gu.trans rfl
set_option maxRecDepth 100000 in
theorem of_4025 : am_of 4025 = some am_m4025 := rfl
theorem c4025 {z a0} {P : am_Q} : am_Ca X (d + 1) 4025 [.ref z, .int a0] st P = am_g d X am_m4025 0 [.ref z, .int a0] [] st P := am_cg of_4025 (by show 2 ≤ 2; decide)
theorem hd_4025 : am_hd am_m4025 = [] := rfl
theorem u4025_0 {v1 : Value} {x : Nat} : am_g d X am_m4025 0 [.ref x, v1] sk st Q = am_g d X am_m4025 1 [.ref x, v1] (.ref x :: sk) st Q := am_gu.trans rfl
theorem u4025_1 {v0 : Value} {v1 : Value} : am_g d X am_m4025 1 [v0, v1] sk st Q = am_gt 128 4 [v0, v1] sk st (fun pc lc sk st => am_g d X am_m4025 pc lc sk st Q) := am_gu.trans rfl
theorem u4025_4 {v0 : Value} {x : Int32} : am_g d X am_m4025 4 [v0, .int x] sk st Q = am_g d X am_m4025 5 [v0, .int x] (.int x :: sk) st Q := am_gu.trans rfl
theorem u4025_5 {a0 : Value} {v0 : Value} {v1 : Value} : am_g d X am_m4025 5 [v0, v1] (a0 :: .ref o :: sk) st Q = ((am_ob st o 5 ∧ sk.length ≤ 4) ∧ am_Ca X d 5014 [.ref o, a0] st (am_af am_m4025 5 [v0, v1] sk (fun pc lc sk st => am_g d X am_m4025 pc lc sk st Q) Q)) := am_gu.trans rfl
theorem u4025_8 {v0 : Value} {v1 : Value} {x : Int32} : am_g d X am_m4025 8 [v0, v1] (.int x :: sk) st Q = (if decide (x = 0) = true then am_g d X am_m4025 54 [v0, v1] sk st Q else am_g d X am_m4025 11 [v0, v1] sk st Q) := am_gu.trans rfl
theorem u4025_11 {v1 : Value} {x : Nat} : am_g d X am_m4025 11 [.ref x, v1] sk st Q = am_g d X am_m4025 12 [.ref x, v1] (.ref x :: sk) st Q := am_gu.trans rfl
theorem u4025_12 {v0 : Value} {v1 : Value} : am_g d X am_m4025 12 [v0, v1] sk st Q = am_gt 128 15 [v0, v1] sk st (fun pc lc sk st => am_g d X am_m4025 pc lc sk st Q) := am_gu.trans rfl
theorem u4025_15 {v0 : Value} {v1 : Value} : am_g d X am_m4025 15 [v0, v1] (.ref o :: sk) st Q = ((am_ob st o 5 ∧ sk.length ≤ 4) ∧ am_Ca X d 5026 [.ref o] st (am_af am_m4025 15 [v0, v1] sk (fun pc lc sk st => am_g d X am_m4025 pc lc sk st Q) Q)) := am_gu.trans rfl
theorem u4025_18 {v0 : Value} {v1 : Value} {x : Int32} : am_g d X am_m4025 18 [v0, v1] (.int x :: sk) st Q = (if decide (x = 0) = true then am_g d X am_m4025 54 [v0, v1] sk st Q else am_g d X am_m4025 21 [v0, v1] sk st Q) := am_gu.trans rfl
theorem u4025_21 {v1 : Value} {x : Nat} : am_g d X am_m4025 21 [.ref x, v1] sk st Q = am_g d X am_m4025 22 [.ref x, v1] (.ref x :: sk) st Q := am_gu.trans rfl
theorem u4025_22 {v0 : Value} {v1 : Value} : am_g d X am_m4025 22 [v0, v1] sk st Q = am_gt 129 25 [v0, v1] sk st (fun pc lc sk st => am_g d X am_m4025 pc lc sk st Q) := am_gu.trans rfl
theorem u4025_25 {v1 : Value} {x : Nat} : am_g d X am_m4025 25 [.ref x, v1] sk st Q = am_g d X am_m4025 26 [.ref x, v1] (.ref x :: sk) st Q := am_gu.trans rfl
theorem u4025_26 {v0 : Value} {v1 : Value} : am_g d X am_m4025 26 [v0, v1] sk st Q = am_gt 128 29 [v0, v1] sk st (fun pc lc sk st => am_g d X am_m4025 pc lc sk st Q) := am_gu.trans rfl
theorem u4025_29 {v1 : Value} {x : Nat} : am_g d X am_m4025 29 [.ref x, v1] sk st Q = am_g d X am_m4025 30 [.ref x, v1] (.ref x :: sk) st Q := am_gu.trans rfl
theorem u4025_30 {v0 : Value} {v1 : Value} : am_g d X am_m4025 30 [v0, v1] sk st Q = am_gt 128 33 [v0, v1] sk st (fun pc lc sk st => am_g d X am_m4025 pc lc sk st Q) := am_gu.trans rfl
theorem u4025_33 {v0 : Value} {v1 : Value} : am_g d X am_m4025 33 [v0, v1] (.ref o :: sk) st Q = ((am_ob st o 5 ∧ sk.length ≤ 4) ∧ am_Ca X d 5016 [.ref o] st (am_af am_m4025 33 [v0, v1] sk (fun pc lc sk st => am_g d X am_m4025 pc lc sk st Q) Q)) := am_gu.trans rfl
theorem u4025_36 {v1 : Value} {x : Nat} : am_g d X am_m4025 36 [.ref x, v1] sk st Q = am_g d X am_m4025 37 [.ref x, v1] (.ref x :: sk) st Q := am_gu.trans rfl
theorem u4025_37 {v0 : Value} {v1 : Value} : am_g d X am_m4025 37 [v0, v1] sk st Q = am_gt 128 40 [v0, v1] sk st (fun pc lc sk st => am_g d X am_m4025 pc lc sk st Q) := am_gu.trans rfl
theorem u4025_40 {v0 : Value} {x : Int32} : am_g d X am_m4025 40 [v0, .int x] sk st Q = am_g d X am_m4025 41 [v0, .int x] (.int x :: sk) st Q := am_gu.trans rfl
theorem u4025_41 {a0 : Value} {v0 : Value} {v1 : Value} : am_g d X am_m4025 41 [v0, v1] (a0 :: .ref o :: sk) st Q = ((am_ob st o 5 ∧ sk.length ≤ 4) ∧ am_Ca X d 5015 [.ref o, a0] st (am_af am_m4025 41 [v0, v1] sk (fun pc lc sk st => am_g d X am_m4025 pc lc sk st Q) Q)) := am_gu.trans rfl
theorem u4025_44 {a0 : Value} {a1 : Value} {a2 : Value} {v0 : Value} {v1 : Value} : am_g d X am_m4025 44 [v0, v1] (a2 :: a1 :: a0 :: .ref o :: sk) st Q = ((am_ob st o 1 ∧ sk.length ≤ 4) ∧ am_Ca X d 1002 [.ref o, a0, a1, a2] st (am_af am_m4025 44 [v0, v1] sk (fun pc lc sk st => am_g d X am_m4025 pc lc sk st Q) Q)) := am_gu.trans rfl
theorem u4025_47 {v0 : Value} {v1 : Value} {x : Int32} : am_g d X am_m4025 47 [v0, v1] (.int x :: sk) st Q = (if decide (¬ x = 0) = true then am_g d X am_m4025 54 [v0, v1] sk st Q else am_g d X am_m4025 50 [v0, v1] sk st Q) := am_gu.trans rfl
theorem u4025_50 {v0 : Value} {v1 : Value} : am_g d X am_m4025 50 [v0, v1] sk st Q = am_g d X am_m4025 51 [v0, v1] (.int (am_i 1) :: sk) st Q := am_gu.trans rfl
theorem u4025_51 {v0 : Value} {v1 : Value} : am_g d X am_m4025 51 [v0, v1] sk st Q = am_g d X am_m4025 55 [v0, v1] sk st Q := am_gu.trans rfl
theorem u4025_54 {v0 : Value} {v1 : Value} : am_g d X am_m4025 54 [v0, v1] sk st Q = am_g d X am_m4025 55 [v0, v1] (.int (am_i 0) :: sk) st Q := am_gu.trans rfl
theorem u4025_55 {v0 : Value} {v1 : Value} {x : Int32} : am_g d X am_m4025 55 [v0, v1] [.int x] st Q = ((x = 0 ∨ x = 1) ∧ Q (.inl (some (.int x))) st) := am_gu.trans rfl
set_option maxRecDepth 100000 in
theorem of_4026 : am_of 4026 = some am_m4026 := rfl
theorem c4026 {z a0} {P : am_Q} : am_Ca X (d + 1) 4026 [.ref z, .int a0] st P = am_g d X am_m4026 0 [.ref z, .int a0] [] st P := am_cg of_4026 (by show 2 ≤ 2; decide)
theorem hd_4026 : am_hd am_m4026 = [] := rfl
theorem u4026_0 {v1 : Value} {x : Nat} : am_g d X am_m4026 0 [.ref x, v1] sk st Q = am_g d X am_m4026 1 [.ref x, v1] (.ref x :: sk) st Q := am_gu.trans rfl
theorem u4026_1 {v0 : Value} {v1 : Value} : am_g d X am_m4026 1 [v0, v1] sk st Q = am_gt 129 4 [v0, v1] sk st (fun pc lc sk st => am_g d X am_m4026 pc lc sk st Q) := am_gu.trans rfl
theorem u4026_4 {v1 : Value} {x : Nat} : am_g d X am_m4026 4 [.ref x, v1] sk st Q = am_g d X am_m4026 5 [.ref x, v1] (.ref x :: sk) st Q := am_gu.trans rfl
theorem u4026_5 {v0 : Value} {v1 : Value} : am_g d X am_m4026 5 [v0, v1] sk st Q = am_gt 128 8 [v0, v1] sk st (fun pc lc sk st => am_g d X am_m4026 pc lc sk st Q) := am_gu.trans rfl
theorem u4026_8 {v0 : Value} {x : Int32} : am_g d X am_m4026 8 [v0, .int x] sk st Q = am_g d X am_m4026 9 [v0, .int x] (.int x :: sk) st Q := am_gu.trans rfl
theorem u4026_9 {v1 : Value} {x : Nat} : am_g d X am_m4026 9 [.ref x, v1] sk st Q = am_g d X am_m4026 10 [.ref x, v1] (.ref x :: sk) st Q := am_gu.trans rfl
theorem u4026_10 {v0 : Value} {v1 : Value} : am_g d X am_m4026 10 [v0, v1] sk st Q = am_gt 128 13 [v0, v1] sk st (fun pc lc sk st => am_g d X am_m4026 pc lc sk st Q) := am_gu.trans rfl
theorem u4026_13 {v0 : Value} {v1 : Value} : am_g d X am_m4026 13 [v0, v1] (.ref o :: sk) st Q = ((am_ob st o 5 ∧ sk.length ≤ 4) ∧ am_Ca X d 5016 [.ref o] st (am_af am_m4026 13 [v0, v1] sk (fun pc lc sk st => am_g d X am_m4026 pc lc sk st Q) Q)) := am_gu.trans rfl
theorem u4026_16 {a0 : Value} {a1 : Value} {a2 : Value} {v0 : Value} {v1 : Value} : am_g d X am_m4026 16 [v0, v1] (a2 :: a1 :: a0 :: .ref o :: sk) st Q = ((am_ob st o 1 ∧ sk.length ≤ 4) ∧ am_Ca X d 1002 [.ref o, a0, a1, a2] st (am_af am_m4026 16 [v0, v1] sk (fun pc lc sk st => am_g d X am_m4026 pc lc sk st Q) Q)) := am_gu.trans rfl
theorem u4026_19 {v0 : Value} {v1 : Value} {x : Int32} : am_g d X am_m4026 19 [v0, v1] [.int x] st Q = ((x = 0 ∨ x = 1) ∧ Q (.inl (some (.int x))) st) := am_gu.trans rfl
set_option maxRecDepth 100000 in
theorem of_4027 : am_of 4027 = some am_m4027 := rfl
theorem c4027 {z a0} {P : am_Q} : am_Ca X (d + 1) 4027 [.ref z, .int a0] st P = am_g d X am_m4027 0 [.ref z, .int a0, am_u] [] st P := am_cg of_4027 (by show 2 ≤ 3; decide)
theorem hd_4027 : am_hd am_m4027 = [] := rfl
theorem u4027_0 {v1 : Value} {v2 : Value} {x : Nat} : am_g d X am_m4027 0 [.ref x, v1, v2] sk st Q = am_g d X am_m4027 1 [.ref x, v1, v2] (.ref x :: sk) st Q := am_gu.trans rfl
theorem u4027_1 {v0 : Value} {v1 : Value} {v2 : Value} : am_g d X am_m4027 1 [v0, v1, v2] sk st Q = am_gt 128 4 [v0, v1, v2] sk st (fun pc lc sk st => am_g d X am_m4027 pc lc sk st Q) := am_gu.trans rfl
theorem u4027_4 {v0 : Value} {v1 : Value} {v2 : Value} : am_g d X am_m4027 4 [v0, v1, v2] (.ref o :: sk) st Q = ((am_ob st o 5 ∧ sk.length ≤ 4) ∧ am_Ca X d 5016 [.ref o] st (am_af am_m4027 4 [v0, v1, v2] sk (fun pc lc sk st => am_g d X am_m4027 pc lc sk st Q) Q)) := am_gu.trans rfl
theorem u4027_7 {v0 : Value} {v1 : Value} {v2 : Value} {x : Int32} : am_g d X am_m4027 7 [v0, v1, v2] (.int x :: sk) st Q = am_g d X am_m4027 8 [v0, am_kc v1, .int x] sk st Q := am_gu.trans (congrArg (fun l => am_g d X am_m4027 8 (List.set l 2 (.int x)) sk st Q) (kl_2 (l := [v2])))
theorem u4027_8 {v1 : Value} {v2 : Value} {x : Nat} : am_g d X am_m4027 8 [.ref x, v1, v2] sk st Q = am_g d X am_m4027 9 [.ref x, v1, v2] (.ref x :: sk) st Q := am_gu.trans rfl
theorem u4027_9 {v0 : Value} {v1 : Value} {v2 : Value} : am_g d X am_m4027 9 [v0, v1, v2] sk st Q = am_gt 128 12 [v0, v1, v2] sk st (fun pc lc sk st => am_g d X am_m4027 pc lc sk st Q) := am_gu.trans rfl
theorem u4027_12 {v1 : Value} {v2 : Value} {x : Nat} : am_g d X am_m4027 12 [.ref x, v1, v2] sk st Q = am_g d X am_m4027 13 [.ref x, v1, v2] (.ref x :: sk) st Q := am_gu.trans rfl
theorem u4027_13 {v0 : Value} {v1 : Value} {v2 : Value} : am_g d X am_m4027 13 [v0, v1, v2] sk st Q = am_gt 129 16 [v0, v1, v2] sk st (fun pc lc sk st => am_g d X am_m4027 pc lc sk st Q) := am_gu.trans rfl
theorem u4027_16 {v1 : Value} {v2 : Value} {x : Nat} : am_g d X am_m4027 16 [.ref x, v1, v2] sk st Q = am_g d X am_m4027 17 [.ref x, v1, v2] (.ref x :: sk) st Q := am_gu.trans rfl
theorem u4027_17 {v0 : Value} {v1 : Value} {v2 : Value} : am_g d X am_m4027 17 [v0, v1, v2] sk st Q = am_gt 128 20 [v0, v1, v2] sk st (fun pc lc sk st => am_g d X am_m4027 pc lc sk st Q) := am_gu.trans rfl
theorem u4027_20 {v0 : Value} {v1 : Value} {x : Int32} : am_g d X am_m4027 20 [v0, v1, .int x] sk st Q = am_g d X am_m4027 21 [v0, v1, .int x] (.int x :: sk) st Q := am_gu.trans rfl
theorem u4027_21 {v0 : Value} {v2 : Value} {x : Int32} : am_g d X am_m4027 21 [v0, .int x, v2] sk st Q = am_g d X am_m4027 22 [v0, .int x, v2] (.int x :: sk) st Q := am_gu.trans rfl
theorem u4027_22 {a0 : Value} {a1 : Value} {a2 : Value} {v0 : Value} {v1 : Value} {v2 : Value} : am_g d X am_m4027 22 [v0, v1, v2] (a2 :: a1 :: a0 :: .ref o :: sk) st Q = ((am_ob st o 1 ∧ sk.length ≤ 4) ∧ am_Ca X d 1011 [.ref o, a0, a1, a2] st (am_af am_m4027 22 [v0, v1, v2] sk (fun pc lc sk st => am_g d X am_m4027 pc lc sk st Q) Q)) := am_gu.trans rfl
theorem u4027_25 {v1 : Value} {v2 : Value} {x : Nat} : am_g d X am_m4027 25 [.ref x, v1, v2] sk st Q = am_g d X am_m4027 26 [.ref x, v1, v2] (.ref x :: sk) st Q := am_gu.trans rfl
theorem u4027_26 {v0 : Value} {v1 : Value} {v2 : Value} : am_g d X am_m4027 26 [v0, v1, v2] sk st Q = am_gt 130 29 [v0, v1, v2] sk st (fun pc lc sk st => am_g d X am_m4027 pc lc sk st Q) := am_gu.trans rfl
theorem u4027_29 {v0 : Value} {v1 : Value} {v2 : Value} : am_g d X am_m4027 29 [v0, v1, v2] sk st Q = am_gt 0 32 [v0, v1, v2] sk st (fun pc lc sk st => am_g d X am_m4027 pc lc sk st Q) := am_gu.trans rfl
theorem u4027_32 {a0 : Value} {a1 : Value} {v0 : Value} {v1 : Value} {v2 : Value} : am_g d X am_m4027 32 [v0, v1, v2] (a1 :: a0 :: .ref o :: sk) st Q = ((am_ob st o 5 ∧ sk.length ≤ 4) ∧ am_Ca X d 5008 [.ref o, a0, a1] st (am_af am_m4027 32 [v0, v1, v2] sk (fun pc lc sk st => am_g d X am_m4027 pc lc sk st Q) Q)) := am_gu.trans rfl
theorem u4027_35 {v1 : Value} {v2 : Value} {x : Nat} : am_g d X am_m4027 35 [.ref x, v1, v2] sk st Q = am_g d X am_m4027 36 [.ref x, v1, v2] (.ref x :: sk) st Q := am_gu.trans rfl
theorem u4027_36 {v0 : Value} {v1 : Value} {v2 : Value} : am_g d X am_m4027 36 [v0, v1, v2] sk st Q = am_gt 128 39 [v0, v1, v2] sk st (fun pc lc sk st => am_g d X am_m4027 pc lc sk st Q) := am_gu.trans rfl
theorem u4027_39 {v0 : Value} {v2 : Value} {x : Int32} : am_g d X am_m4027 39 [v0, .int x, v2] sk st Q = am_g d X am_m4027 40 [v0, .int x, v2] (.int x :: sk) st Q := am_gu.trans rfl
theorem u4027_40 {v1 : Value} {v2 : Value} {x : Nat} : am_g d X am_m4027 40 [.ref x, v1, v2] sk st Q = am_g d X am_m4027 41 [.ref x, v1, v2] (.ref x :: sk) st Q := am_gu.trans rfl
theorem u4027_41 {v0 : Value} {v1 : Value} {v2 : Value} : am_g d X am_m4027 41 [v0, v1, v2] sk st Q = am_gt 130 44 [v0, v1, v2] sk st (fun pc lc sk st => am_g d X am_m4027 pc lc sk st Q) := am_gu.trans rfl
theorem u4027_44 {v0 : Value} {v1 : Value} {v2 : Value} : am_g d X am_m4027 44 [v0, v1, v2] sk st Q = am_gt 1 47 [v0, v1, v2] sk st (fun pc lc sk st => am_g d X am_m4027 pc lc sk st Q) := am_gu.trans rfl
theorem u4027_47 {a0 : Value} {a1 : Value} {v0 : Value} {v1 : Value} {v2 : Value} : am_g d X am_m4027 47 [v0, v1, v2] (a1 :: a0 :: .ref o :: sk) st Q = ((am_ob st o 5 ∧ sk.length ≤ 4) ∧ am_Ca X d 5008 [.ref o, a0, a1] st (am_af am_m4027 47 [v0, v1, v2] sk (fun pc lc sk st => am_g d X am_m4027 pc lc sk st Q) Q)) := am_gu.trans rfl
theorem u4027_50 {v1 : Value} {v2 : Value} {x : Nat} : am_g d X am_m4027 50 [.ref x, v1, v2] sk st Q = am_g d X am_m4027 51 [.ref x, v1, v2] (.ref x :: sk) st Q := am_gu.trans rfl
theorem u4027_51 {v0 : Value} {v1 : Value} {v2 : Value} : am_g d X am_m4027 51 [v0, v1, v2] sk st Q = am_gt 128 54 [v0, v1, v2] sk st (fun pc lc sk st => am_g d X am_m4027 pc lc sk st Q) := am_gu.trans rfl
theorem u4027_54 {v0 : Value} {v1 : Value} {x : Int32} : am_g d X am_m4027 54 [v0, v1, .int x] sk st Q = am_g d X am_m4027 55 [v0, v1, .int x] (.int x :: sk) st Q := am_gu.trans rfl
theorem u4027_55 {v1 : Value} {v2 : Value} {x : Nat} : am_g d X am_m4027 55 [.ref x, v1, v2] sk st Q = am_g d X am_m4027 56 [.ref x, v1, v2] (.ref x :: sk) st Q := am_gu.trans rfl
theorem u4027_56 {v0 : Value} {v1 : Value} {v2 : Value} : am_g d X am_m4027 56 [v0, v1, v2] sk st Q = am_gt 130 59 [v0, v1, v2] sk st (fun pc lc sk st => am_g d X am_m4027 pc lc sk st Q) := am_gu.trans rfl
theorem u4027_59 {v0 : Value} {v1 : Value} {v2 : Value} : am_g d X am_m4027 59 [v0, v1, v2] sk st Q = am_gt 2 62 [v0, v1, v2] sk st (fun pc lc sk st => am_g d X am_m4027 pc lc sk st Q) := am_gu.trans rfl
theorem u4027_62 {a0 : Value} {a1 : Value} {v0 : Value} {v1 : Value} {v2 : Value} : am_g d X am_m4027 62 [v0, v1, v2] (a1 :: a0 :: .ref o :: sk) st Q = ((am_ob st o 5 ∧ sk.length ≤ 4) ∧ am_Ca X d 5008 [.ref o, a0, a1] st (am_af am_m4027 62 [v0, v1, v2] sk (fun pc lc sk st => am_g d X am_m4027 pc lc sk st Q) Q)) := am_gu.trans rfl
theorem u4027_65 {v1 : Value} {v2 : Value} {x : Nat} : am_g d X am_m4027 65 [.ref x, v1, v2] sk st Q = am_g d X am_m4027 66 [.ref x, v1, v2] (.ref x :: sk) st Q := am_gu.trans rfl
theorem u4027_66 {v0 : Value} {v1 : Value} {v2 : Value} : am_g d X am_m4027 66 [v0, v1, v2] sk st Q = am_gt 130 69 [v0, v1, v2] sk st (fun pc lc sk st => am_g d X am_m4027 pc lc sk st Q) := am_gu.trans rfl
theorem u4027_69 {v0 : Value} {v1 : Value} {v2 : Value} : am_g d X am_m4027 69 [v0, v1, v2] (.ref o :: sk) st Q = ((am_ob st o 0 ∧ sk.length ≤ 4) ∧ am_Ca X d 2 [.ref o] st (am_af am_m4027 69 [v0, v1, v2] sk (fun pc lc sk st => am_g d X am_m4027 pc lc sk st Q) Q)) := am_gu.trans rfl
theorem u4027_72 {v0 : Value} {v1 : Value} {v2 : Value} : am_g d X am_m4027 72 [v0, v1, v2] [] st Q = Q (.inl none) st := am_gu.trans rfl
set_option maxRecDepth 100000 in
theorem of_4028 : am_of 4028 = some am_m4028 := rfl
theorem c4028 {z a0 a1} {P : am_Q} : am_Ca X (d + 1) 4028 [.ref z, .int a0, .int a1] st P = am_g d X am_m4028 0 [.ref z, .int a0, .int a1] [] st P := am_cg of_4028 (by show 3 ≤ 3; decide)
theorem hd_4028 : am_hd am_m4028 = [] := rfl
theorem u4028_0 {v1 : Value} {v2 : Value} {x : Nat} : am_g d X am_m4028 0 [.ref x, v1, v2] sk st Q = am_g d X am_m4028 1 [.ref x, v1, v2] (.ref x :: sk) st Q := am_gu.trans rfl
theorem u4028_1 {v0 : Value} {v2 : Value} {x : Int32} : am_g d X am_m4028 1 [v0, .int x, v2] sk st Q = am_g d X am_m4028 2 [v0, .int x, v2] (.int x :: sk) st Q := am_gu.trans rfl
theorem u4028_2 {v0 : Value} {v1 : Value} {x : Int32} : am_g d X am_m4028 2 [v0, v1, .int x] sk st Q = am_g d X am_m4028 3 [v0, v1, .int x] (.int x :: sk) st Q := am_gu.trans rfl
theorem u4028_3 {a0 : Value} {a1 : Value} {v0 : Value} {v1 : Value} {v2 : Value} : am_g d X am_m4028 3 [v0, v1, v2] (a1 :: a0 :: .ref o :: sk) st Q = ((am_ob st o 4 ∧ sk.length ≤ 4) ∧ am_Ca X d 4030 [.ref o, a0, a1] st (am_af am_m4028 3 [v0, v1, v2] sk (fun pc lc sk st => am_g d X am_m4028 pc lc sk st Q) Q)) := am_gu.trans rfl
theorem u4028_6 {v1 : Value} {v2 : Value} {x : Nat} : am_g d X am_m4028 6 [.ref x, v1, v2] sk st Q = am_g d X am_m4028 7 [.ref x, v1, v2] (.ref x :: sk) st Q := am_gu.trans rfl
theorem u4028_7 {v0 : Value} {v1 : Value} {v2 : Value} : am_g d X am_m4028 7 [v0, v1, v2] sk st Q = am_gt 128 10 [v0, v1, v2] sk st (fun pc lc sk st => am_g d X am_m4028 pc lc sk st Q) := am_gu.trans rfl
theorem u4028_10 {v0 : Value} {v1 : Value} {v2 : Value} : am_g d X am_m4028 10 [v0, v1, v2] sk st Q = am_gt 166 13 [v0, v1, v2] sk st (fun pc lc sk st => am_g d X am_m4028 pc lc sk st Q) := am_gu.trans rfl
theorem u4028_13 {v0 : Value} {v1 : Value} {v2 : Value} : am_g d X am_m4028 13 [v0, v1, v2] sk st Q = am_g d X am_m4028 14 [v0, v1, v2] (.int (am_i 0) :: sk) st Q := am_gu.trans rfl
theorem u4028_14 {v1 : Value} {v2 : Value} {x : Nat} : am_g d X am_m4028 14 [.ref x, v1, v2] sk st Q = am_g d X am_m4028 15 [.ref x, v1, v2] (.ref x :: sk) st Q := am_gu.trans rfl
theorem u4028_15 {v0 : Value} {v1 : Value} {v2 : Value} : am_g d X am_m4028 15 [v0, v1, v2] sk st Q = am_gt 130 18 [v0, v1, v2] sk st (fun pc lc sk st => am_g d X am_m4028 pc lc sk st Q) := am_gu.trans rfl
theorem u4028_18 {v0 : Value} {v1 : Value} {v2 : Value} : am_g d X am_m4028 18 [v0, v1, v2] sk st Q = am_gt 2 21 [v0, v1, v2] sk st (fun pc lc sk st => am_g d X am_m4028 pc lc sk st Q) := am_gu.trans rfl
theorem u4028_21 {v0 : Value} {v1 : Value} {v2 : Value} : am_g d X am_m4028 21 [v0, v1, v2] sk st Q = am_g d X am_m4028 22 [v0, v1, v2] (.int (am_i 0) :: sk) st Q := am_gu.trans rfl
theorem u4028_22 {v0 : Value} {v1 : Value} {v2 : Value} : am_g d X am_m4028 22 [v0, v1, v2] sk st Q = am_g d X am_m4028 24 [v0, v1, v2] (.int (am_i 24) :: sk) st Q := am_gu.trans rfl
theorem u4028_24 {v0 : Value} {v1 : Value} {v2 : Value} : am_g d X am_m4028 24 [v0, v1, v2] sk st Q = am_cp 27 [v0, v1, v2] sk st (fun pc lc sk st => am_g d X am_m4028 pc lc sk st Q) := am_gu.trans rfl
theorem u4028_27 {v1 : Value} {v2 : Value} {x : Nat} : am_g d X am_m4028 27 [.ref x, v1, v2] sk st Q = am_g d X am_m4028 28 [.ref x, v1, v2] (.ref x :: sk) st Q := am_gu.trans rfl
theorem u4028_28 {v0 : Value} {v1 : Value} {v2 : Value} : am_g d X am_m4028 28 [v0, v1, v2] sk st Q = am_gt 130 31 [v0, v1, v2] sk st (fun pc lc sk st => am_g d X am_m4028 pc lc sk st Q) := am_gu.trans rfl
theorem u4028_31 {v0 : Value} {v1 : Value} {v2 : Value} : am_g d X am_m4028 31 [v0, v1, v2] (.ref o :: sk) st Q = ((am_ob st o 0 ∧ sk.length ≤ 4) ∧ am_Ca X d 2 [.ref o] st (am_af am_m4028 31 [v0, v1, v2] sk (fun pc lc sk st => am_g d X am_m4028 pc lc sk st Q) Q)) := am_gu.trans rfl
theorem u4028_34 {v0 : Value} {v1 : Value} {v2 : Value} : am_g d X am_m4028 34 [v0, v1, v2] [] st Q = Q (.inl none) st := am_gu.trans rfl
set_option maxRecDepth 100000 in
theorem of_4029 : am_of 4029 = some am_m4029 := rfl
theorem c4029 {z} {P : am_Q} : am_Ca X (d + 1) 4029 [.ref z] st P = am_g d X am_m4029 0 [.ref z] [] st P := am_cg of_4029 (by show 1 ≤ 1; decide)
theorem hd_4029 : am_hd am_m4029 = [] := rfl
theorem u4029_0 {x : Nat} : am_g d X am_m4029 0 [.ref x] sk st Q = am_g d X am_m4029 1 [.ref x] (.ref x :: sk) st Q := am_gu.trans rfl
theorem u4029_1 {v0 : Value} : am_g d X am_m4029 1 [v0] sk st Q = am_gt 128 4 [v0] sk st (fun pc lc sk st => am_g d X am_m4029 pc lc sk st Q) := am_gu.trans rfl
theorem u4029_4 {x : Nat} : am_g d X am_m4029 4 [.ref x] sk st Q = am_g d X am_m4029 5 [.ref x] (.ref x :: sk) st Q := am_gu.trans rfl
theorem u4029_5 {v0 : Value} : am_g d X am_m4029 5 [v0] sk st Q = am_gt 128 8 [v0] sk st (fun pc lc sk st => am_g d X am_m4029 pc lc sk st Q) := am_gu.trans rfl
theorem u4029_8 {v0 : Value} : am_g d X am_m4029 8 [v0] (.ref o :: sk) st Q = ((am_ob st o 5 ∧ sk.length ≤ 4) ∧ am_Ca X d 5033 [.ref o] st (am_af am_m4029 8 [v0] sk (fun pc lc sk st => am_g d X am_m4029 pc lc sk st Q) Q)) := am_gu.trans rfl
theorem u4029_11 {x : Nat} : am_g d X am_m4029 11 [.ref x] sk st Q = am_g d X am_m4029 12 [.ref x] (.ref x :: sk) st Q := am_gu.trans rfl
theorem u4029_12 {v0 : Value} : am_g d X am_m4029 12 [v0] sk st Q = am_gt 130 15 [v0] sk st (fun pc lc sk st => am_g d X am_m4029 pc lc sk st Q) := am_gu.trans rfl
theorem u4029_15 {v0 : Value} : am_g d X am_m4029 15 [v0] sk st Q = am_gt 0 18 [v0] sk st (fun pc lc sk st => am_g d X am_m4029 pc lc sk st Q) := am_gu.trans rfl
theorem u4029_18 {a0 : Value} {a1 : Value} {v0 : Value} : am_g d X am_m4029 18 [v0] (a1 :: a0 :: .ref o :: sk) st Q = ((am_ob st o 5 ∧ sk.length ≤ 4) ∧ am_Ca X d 5008 [.ref o, a0, a1] st (am_af am_m4029 18 [v0] sk (fun pc lc sk st => am_g d X am_m4029 pc lc sk st Q) Q)) := am_gu.trans rfl
theorem u4029_21 {x : Nat} : am_g d X am_m4029 21 [.ref x] sk st Q = am_g d X am_m4029 22 [.ref x] (.ref x :: sk) st Q := am_gu.trans rfl
theorem u4029_22 {v0 : Value} : am_g d X am_m4029 22 [v0] sk st Q = am_gt 128 25 [v0] sk st (fun pc lc sk st => am_g d X am_m4029 pc lc sk st Q) := am_gu.trans rfl
theorem u4029_25 {x : Nat} : am_g d X am_m4029 25 [.ref x] sk st Q = am_g d X am_m4029 26 [.ref x] (.ref x :: sk) st Q := am_gu.trans rfl
theorem u4029_26 {v0 : Value} : am_g d X am_m4029 26 [v0] sk st Q = am_gt 130 29 [v0] sk st (fun pc lc sk st => am_g d X am_m4029 pc lc sk st Q) := am_gu.trans rfl
theorem u4029_29 {v0 : Value} : am_g d X am_m4029 29 [v0] sk st Q = am_gt 1 32 [v0] sk st (fun pc lc sk st => am_g d X am_m4029 pc lc sk st Q) := am_gu.trans rfl
theorem u4029_32 {a0 : Value} {v0 : Value} : am_g d X am_m4029 32 [v0] (a0 :: .ref o :: sk) st Q = ((am_ob st o 5 ∧ sk.length ≤ 4) ∧ am_Ca X d 5034 [.ref o, a0] st (am_af am_m4029 32 [v0] sk (fun pc lc sk st => am_g d X am_m4029 pc lc sk st Q) Q)) := am_gu.trans rfl
theorem u4029_35 {x : Nat} : am_g d X am_m4029 35 [.ref x] sk st Q = am_g d X am_m4029 36 [.ref x] (.ref x :: sk) st Q := am_gu.trans rfl
theorem u4029_36 {v0 : Value} : am_g d X am_m4029 36 [v0] sk st Q = am_gt 128 39 [v0] sk st (fun pc lc sk st => am_g d X am_m4029 pc lc sk st Q) := am_gu.trans rfl
theorem u4029_39 {v0 : Value} : am_g d X am_m4029 39 [v0] sk st Q = am_gt 166 42 [v0] sk st (fun pc lc sk st => am_g d X am_m4029 pc lc sk st Q) := am_gu.trans rfl
theorem u4029_42 {v0 : Value} : am_g d X am_m4029 42 [v0] sk st Q = am_g d X am_m4029 43 [v0] (.int (am_i 0) :: sk) st Q := am_gu.trans rfl
theorem u4029_43 {x : Nat} : am_g d X am_m4029 43 [.ref x] sk st Q = am_g d X am_m4029 44 [.ref x] (.ref x :: sk) st Q := am_gu.trans rfl
theorem u4029_44 {v0 : Value} : am_g d X am_m4029 44 [v0] sk st Q = am_gt 130 47 [v0] sk st (fun pc lc sk st => am_g d X am_m4029 pc lc sk st Q) := am_gu.trans rfl
theorem u4029_47 {v0 : Value} : am_g d X am_m4029 47 [v0] sk st Q = am_gt 2 50 [v0] sk st (fun pc lc sk st => am_g d X am_m4029 pc lc sk st Q) := am_gu.trans rfl
theorem u4029_50 {v0 : Value} : am_g d X am_m4029 50 [v0] sk st Q = am_g d X am_m4029 51 [v0] (.int (am_i 0) :: sk) st Q := am_gu.trans rfl
theorem u4029_51 {v0 : Value} : am_g d X am_m4029 51 [v0] sk st Q = am_g d X am_m4029 53 [v0] (.int (am_i 24) :: sk) st Q := am_gu.trans rfl
theorem u4029_53 {v0 : Value} : am_g d X am_m4029 53 [v0] sk st Q = am_cp 56 [v0] sk st (fun pc lc sk st => am_g d X am_m4029 pc lc sk st Q) := am_gu.trans rfl
theorem u4029_56 {x : Nat} : am_g d X am_m4029 56 [.ref x] sk st Q = am_g d X am_m4029 57 [.ref x] (.ref x :: sk) st Q := am_gu.trans rfl
theorem u4029_57 {v0 : Value} : am_g d X am_m4029 57 [v0] sk st Q = am_gt 130 60 [v0] sk st (fun pc lc sk st => am_g d X am_m4029 pc lc sk st Q) := am_gu.trans rfl
theorem u4029_60 {v0 : Value} : am_g d X am_m4029 60 [v0] (.ref o :: sk) st Q = ((am_ob st o 0 ∧ sk.length ≤ 4) ∧ am_Ca X d 2 [.ref o] st (am_af am_m4029 60 [v0] sk (fun pc lc sk st => am_g d X am_m4029 pc lc sk st Q) Q)) := am_gu.trans rfl
theorem u4029_63 {v0 : Value} : am_g d X am_m4029 63 [v0] [] st Q = Q (.inl none) st := am_gu.trans rfl
set_option maxRecDepth 100000 in
theorem of_4030 : am_of 4030 = some am_m4030 := rfl
theorem c4030 {z a0 a1} {P : am_Q} : am_Ca X (d + 1) 4030 [.ref z, .int a0, .int a1] st P = am_g d X am_m4030 0 [.ref z, .int a0, .int a1, am_u] [] st P := am_cg of_4030 (by show 3 ≤ 4; decide)
theorem hd_4030 : am_hd am_m4030 = [] := rfl
theorem u4030_0 {v1 : Value} {v2 : Value} {v3 : Value} {x : Nat} : am_g d X am_m4030 0 [.ref x, v1, v2, v3] sk st Q = am_g d X am_m4030 1 [.ref x, v1, v2, v3] (.ref x :: sk) st Q := am_gu.trans rfl
theorem u4030_1 {v0 : Value} {v1 : Value} {v2 : Value} {v3 : Value} : am_g d X am_m4030 1 [v0, v1, v2, v3] sk st Q = am_gt 128 4 [v0, v1, v2, v3] sk st (fun pc lc sk st => am_g d X am_m4030 pc lc sk st Q) := am_gu.trans rfl
theorem u4030_4 {v0 : Value} {v2 : Value} {v3 : Value} {x : Int32} : am_g d X am_m4030 4 [v0, .int x, v2, v3] sk st Q = am_g d X am_m4030 5 [v0, .int x, v2, v3] (.int x :: sk) st Q := am_gu.trans rfl
theorem u4030_5 {a0 : Value} {v0 : Value} {v1 : Value} {v2 : Value} {v3 : Value} : am_g d X am_m4030 5 [v0, v1, v2, v3] (a0 :: .ref o :: sk) st Q = ((am_ob st o 5 ∧ sk.length ≤ 4) ∧ am_Ca X d 5005 [.ref o, a0] st (am_af am_m4030 5 [v0, v1, v2, v3] sk (fun pc lc sk st => am_g d X am_m4030 pc lc sk st Q) Q)) := am_gu.trans rfl
theorem u4030_8 {v0 : Value} {v1 : Value} {v2 : Value} {v3 : Value} {x : Int32} : am_g d X am_m4030 8 [v0, v1, v2, v3] (.int x :: sk) st Q = am_g d X am_m4030 9 [v0, v1, am_kc v2, .int x] sk st Q := am_gu.trans (congrArg (fun l => am_g d X am_m4030 9 (List.set l 3 (.int x)) sk st Q) (kl_3 (l := [v3])))
theorem u4030_9 {v1 : Value} {v2 : Value} {v3 : Value} {x : Nat} : am_g d X am_m4030 9 [.ref x, v1, v2, v3] sk st Q = am_g d X am_m4030 10 [.ref x, v1, v2, v3] (.ref x :: sk) st Q := am_gu.trans rfl
theorem u4030_10 {v0 : Value} {v1 : Value} {v2 : Value} {v3 : Value} : am_g d X am_m4030 10 [v0, v1, v2, v3] sk st Q = am_gt 128 13 [v0, v1, v2, v3] sk st (fun pc lc sk st => am_g d X am_m4030 pc lc sk st Q) := am_gu.trans rfl
theorem u4030_13 {v0 : Value} {v1 : Value} {v3 : Value} {x : Int32} : am_g d X am_m4030 13 [v0, v1, .int x, v3] sk st Q = am_g d X am_m4030 14 [v0, v1, .int x, v3] (.int x :: sk) st Q := am_gu.trans rfl
theorem u4030_14 {v0 : Value} {v1 : Value} {v2 : Value} {v3 : Value} {x : Int32} : am_g d X am_m4030 14 [v0, v1, v2, v3] (.int x :: sk) st Q = (if decide (x = 0) = true then am_g d X am_m4030 21 [v0, v1, v2, v3] sk st Q else am_g d X am_m4030 17 [v0, v1, v2, v3] sk st Q) := am_gu.trans rfl
theorem u4030_17 {v0 : Value} {v2 : Value} {v3 : Value} {x : Int32} : am_g d X am_m4030 17 [v0, .int x, v2, v3] sk st Q = am_g d X am_m4030 18 [v0, .int x, v2, v3] (.int x :: sk) st Q := am_gu.trans rfl
theorem u4030_18 {v0 : Value} {v1 : Value} {v2 : Value} {v3 : Value} : am_g d X am_m4030 18 [v0, v1, v2, v3] sk st Q = am_g d X am_m4030 22 [v0, v1, v2, v3] sk st Q := am_gu.trans rfl
theorem u4030_21 {v0 : Value} {v1 : Value} {v2 : Value} {x : Int32} : am_g d X am_m4030 21 [v0, v1, v2, .int x] sk st Q = am_g d X am_m4030 22 [v0, v1, v2, .int x] (.int x :: sk) st Q := am_gu.trans rfl
theorem u4030_22 {v1 : Value} {v2 : Value} {v3 : Value} {x : Nat} : am_g d X am_m4030 22 [.ref x, v1, v2, v3] sk st Q = am_g d X am_m4030 23 [.ref x, v1, v2, v3] (.ref x :: sk) st Q := am_gu.trans rfl
theorem u4030_23 {v0 : Value} {v1 : Value} {v2 : Value} {v3 : Value} : am_g d X am_m4030 23 [v0, v1, v2, v3] sk st Q = am_gt 130 26 [v0, v1, v2, v3] sk st (fun pc lc sk st => am_g d X am_m4030 pc lc sk st Q) := am_gu.trans rfl
theorem u4030_26 {v0 : Value} {v1 : Value} {v2 : Value} {v3 : Value} : am_g d X am_m4030 26 [v0, v1, v2, v3] sk st Q = am_gt 0 29 [v0, v1, v2, v3] sk st (fun pc lc sk st => am_g d X am_m4030 pc lc sk st Q) := am_gu.trans rfl
theorem u4030_29 {a0 : Value} {a1 : Value} {v0 : Value} {v1 : Value} {v2 : Value} {v3 : Value} : am_g d X am_m4030 29 [v0, v1, v2, v3] (a1 :: a0 :: .ref o :: sk) st Q = ((am_ob st o 5 ∧ sk.length ≤ 4) ∧ am_Ca X d 5008 [.ref o, a0, a1] st (am_af am_m4030 29 [v0, v1, v2, v3] sk (fun pc lc sk st => am_g d X am_m4030 pc lc sk st Q) Q)) := am_gu.trans rfl
theorem u4030_32 {v1 : Value} {v2 : Value} {v3 : Value} {x : Nat} : am_g d X am_m4030 32 [.ref x, v1, v2, v3] sk st Q = am_g d X am_m4030 33 [.ref x, v1, v2, v3] (.ref x :: sk) st Q := am_gu.trans rfl
theorem u4030_33 {v0 : Value} {v1 : Value} {v2 : Value} {v3 : Value} : am_g d X am_m4030 33 [v0, v1, v2, v3] sk st Q = am_gt 128 36 [v0, v1, v2, v3] sk st (fun pc lc sk st => am_g d X am_m4030 pc lc sk st Q) := am_gu.trans rfl
theorem u4030_36 {v0 : Value} {v1 : Value} {v3 : Value} {x : Int32} : am_g d X am_m4030 36 [v0, v1, .int x, v3] sk st Q = am_g d X am_m4030 37 [v0, v1, .int x, v3] (.int x :: sk) st Q := am_gu.trans rfl
theorem u4030_37 {v0 : Value} {v1 : Value} {v2 : Value} {v3 : Value} {x : Int32} : am_g d X am_m4030 37 [v0, v1, v2, v3] (.int x :: sk) st Q = (if decide (x = 0) = true then am_g d X am_m4030 44 [v0, v1, v2, v3] sk st Q else am_g d X am_m4030 40 [v0, v1, v2, v3] sk st Q) := am_gu.trans rfl
theorem u4030_40 {v0 : Value} {v1 : Value} {v2 : Value} {x : Int32} : am_g d X am_m4030 40 [v0, v1, v2, .int x] sk st Q = am_g d X am_m4030 41 [v0, v1, v2, .int x] (.int x :: sk) st Q := am_gu.trans rfl
theorem u4030_41 {v0 : Value} {v1 : Value} {v2 : Value} {v3 : Value} : am_g d X am_m4030 41 [v0, v1, v2, v3] sk st Q = am_g d X am_m4030 45 [v0, v1, v2, v3] sk st Q := am_gu.trans rfl
theorem u4030_44 {v0 : Value} {v2 : Value} {v3 : Value} {x : Int32} : am_g d X am_m4030 44 [v0, .int x, v2, v3] sk st Q = am_g d X am_m4030 45 [v0, .int x, v2, v3] (.int x :: sk) st Q := am_gu.trans rfl
theorem u4030_45 {v1 : Value} {v2 : Value} {v3 : Value} {x : Nat} : am_g d X am_m4030 45 [.ref x, v1, v2, v3] sk st Q = am_g d X am_m4030 46 [.ref x, v1, v2, v3] (.ref x :: sk) st Q := am_gu.trans rfl
theorem u4030_46 {v0 : Value} {v1 : Value} {v2 : Value} {v3 : Value} : am_g d X am_m4030 46 [v0, v1, v2, v3] sk st Q = am_gt 130 49 [v0, v1, v2, v3] sk st (fun pc lc sk st => am_g d X am_m4030 pc lc sk st Q) := am_gu.trans rfl
theorem u4030_49 {v0 : Value} {v1 : Value} {v2 : Value} {v3 : Value} : am_g d X am_m4030 49 [v0, v1, v2, v3] sk st Q = am_gt 1 52 [v0, v1, v2, v3] sk st (fun pc lc sk st => am_g d X am_m4030 pc lc sk st Q) := am_gu.trans rfl
theorem u4030_52 {a0 : Value} {a1 : Value} {v0 : Value} {v1 : Value} {v2 : Value} {v3 : Value} : am_g d X am_m4030 52 [v0, v1, v2, v3] (a1 :: a0 :: .ref o :: sk) st Q = ((am_ob st o 5 ∧ sk.length ≤ 4) ∧ am_Ca X d 5008 [.ref o, a0, a1] st (am_af am_m4030 52 [v0, v1, v2, v3] sk (fun pc lc sk st => am_g d X am_m4030 pc lc sk st Q) Q)) := am_gu.trans rfl
theorem u4030_55 {v0 : Value} {v1 : Value} {v2 : Value} {v3 : Value} : am_g d X am_m4030 55 [v0, v1, v2, v3] [] st Q = Q (.inl none) st := am_gu.trans rfl
set_option maxRecDepth 100000 in
theorem of_4031 : am_of 4031 = some am_m4031 := rfl
theorem c4031 {z} {P : am_Q} : am_Ca X (d + 1) 4031 [.ref z] st P = am_g d X am_m4031 0 [.ref z] [] st P := am_cg of_4031 (by show 1 ≤ 1; decide)
theorem hd_4031 : am_hd am_m4031 = [] := rfl
theorem u4031_0 {x : Nat} : am_g d X am_m4031 0 [.ref x] sk st Q = am_g d X am_m4031 1 [.ref x] (.ref x :: sk) st Q := am_gu.trans rfl
theorem u4031_1 {v0 : Value} : am_g d X am_m4031 1 [v0] sk st Q = am_gt 130 4 [v0] sk st (fun pc lc sk st => am_g d X am_m4031 pc lc sk st Q) := am_gu.trans rfl
theorem u4031_4 {v0 : Value} : am_g d X am_m4031 4 [v0] sk st Q = am_gt 2 7 [v0] sk st (fun pc lc sk st => am_g d X am_m4031 pc lc sk st Q) := am_gu.trans rfl
theorem u4031_7 {v0 : Value} : am_g d X am_m4031 7 [v0] sk st Q = am_g d X am_m4031 8 [v0] (.int (am_i 0) :: sk) st Q := am_gu.trans rfl
theorem u4031_8 {x : Nat} : am_g d X am_m4031 8 [.ref x] sk st Q = am_g d X am_m4031 9 [.ref x] (.ref x :: sk) st Q := am_gu.trans rfl
theorem u4031_9 {v0 : Value} : am_g d X am_m4031 9 [v0] sk st Q = am_gt 128 12 [v0] sk st (fun pc lc sk st => am_g d X am_m4031 pc lc sk st Q) := am_gu.trans rfl
theorem u4031_12 {v0 : Value} : am_g d X am_m4031 12 [v0] sk st Q = am_gt 166 15 [v0] sk st (fun pc lc sk st => am_g d X am_m4031 pc lc sk st Q) := am_gu.trans rfl
theorem u4031_15 {v0 : Value} : am_g d X am_m4031 15 [v0] sk st Q = am_g d X am_m4031 16 [v0] (.int (am_i 0) :: sk) st Q := am_gu.trans rfl
theorem u4031_16 {v0 : Value} : am_g d X am_m4031 16 [v0] sk st Q = am_g d X am_m4031 18 [v0] (.int (am_i 24) :: sk) st Q := am_gu.trans rfl
theorem u4031_18 {v0 : Value} : am_g d X am_m4031 18 [v0] sk st Q = am_cp 21 [v0] sk st (fun pc lc sk st => am_g d X am_m4031 pc lc sk st Q) := am_gu.trans rfl
theorem u4031_21 {x : Nat} : am_g d X am_m4031 21 [.ref x] sk st Q = am_g d X am_m4031 22 [.ref x] (.ref x :: sk) st Q := am_gu.trans rfl
theorem u4031_22 {v0 : Value} : am_g d X am_m4031 22 [v0] sk st Q = am_gt 130 25 [v0] sk st (fun pc lc sk st => am_g d X am_m4031 pc lc sk st Q) := am_gu.trans rfl
theorem u4031_25 {v0 : Value} : am_g d X am_m4031 25 [v0] sk st Q = am_gt 3 28 [v0] sk st (fun pc lc sk st => am_g d X am_m4031 pc lc sk st Q) := am_gu.trans rfl
theorem u4031_28 {v0 : Value} : am_g d X am_m4031 28 [v0] sk st Q = am_g d X am_m4031 29 [v0] (.int (am_i 0) :: sk) st Q := am_gu.trans rfl
theorem u4031_29 {x : Nat} : am_g d X am_m4031 29 [.ref x] sk st Q = am_g d X am_m4031 30 [.ref x] (.ref x :: sk) st Q := am_gu.trans rfl
theorem u4031_30 {v0 : Value} : am_g d X am_m4031 30 [v0] sk st Q = am_gt 128 33 [v0] sk st (fun pc lc sk st => am_g d X am_m4031 pc lc sk st Q) := am_gu.trans rfl
theorem u4031_33 {v0 : Value} : am_g d X am_m4031 33 [v0] sk st Q = am_gt 167 36 [v0] sk st (fun pc lc sk st => am_g d X am_m4031 pc lc sk st Q) := am_gu.trans rfl
theorem u4031_36 {v0 : Value} : am_g d X am_m4031 36 [v0] sk st Q = am_g d X am_m4031 37 [v0] (.int (am_i 0) :: sk) st Q := am_gu.trans rfl
theorem u4031_37 {v0 : Value} : am_g d X am_m4031 37 [v0] sk st Q = am_g d X am_m4031 39 [v0] (.int (am_i 24) :: sk) st Q := am_gu.trans rfl
theorem u4031_39 {v0 : Value} : am_g d X am_m4031 39 [v0] sk st Q = am_cp 42 [v0] sk st (fun pc lc sk st => am_g d X am_m4031 pc lc sk st Q) := am_gu.trans rfl
theorem u4031_42 {v0 : Value} : am_g d X am_m4031 42 [v0] [] st Q = Q (.inl none) st := am_gu.trans rfl
set_option maxRecDepth 100000 in
theorem of_4032 : am_of 4032 = some am_m4032 := rfl
theorem c4032 {z a0 a1} {P : am_Q} : am_Ca X (d + 1) 4032 [.ref z, .int a0, .int a1] st P = am_g d X am_m4032 0 [.ref z, .int a0, .int a1] [] st P := am_cg of_4032 (by show 3 ≤ 3; decide)
theorem hd_4032 : am_hd am_m4032 = [] := rfl
theorem u4032_0 {v1 : Value} {v2 : Value} {x : Nat} : am_g d X am_m4032 0 [.ref x, v1, v2] sk st Q = am_g d X am_m4032 1 [.ref x, v1, v2] (.ref x :: sk) st Q := am_gu.trans rfl
theorem u4032_1 {v0 : Value} {v1 : Value} {v2 : Value} : am_g d X am_m4032 1 [v0, v1, v2] (.ref o :: sk) st Q = ((am_ob st o 4 ∧ sk.length ≤ 4) ∧ am_Ca X d 4031 [.ref o] st (am_af am_m4032 1 [v0, v1, v2] sk (fun pc lc sk st => am_g d X am_m4032 pc lc sk st Q) Q)) := am_gu.trans rfl
theorem u4032_4 {v1 : Value} {v2 : Value} {x : Nat} : am_g d X am_m4032 4 [.ref x, v1, v2] sk st Q = am_g d X am_m4032 5 [.ref x, v1, v2] (.ref x :: sk) st Q := am_gu.trans rfl
theorem u4032_5 {v0 : Value} {v1 : Value} {v2 : Value} : am_g d X am_m4032 5 [v0, v1, v2] sk st Q = am_gt 130 8 [v0, v1, v2] sk st (fun pc lc sk st => am_g d X am_m4032 pc lc sk st Q) := am_gu.trans rfl
theorem u4032_8 {v0 : Value} {v1 : Value} {v2 : Value} : am_g d X am_m4032 8 [v0, v1, v2] sk st Q = am_gt 5 11 [v0, v1, v2] sk st (fun pc lc sk st => am_g d X am_m4032 pc lc sk st Q) := am_gu.trans rfl
theorem u4032_11 {v0 : Value} {v1 : Value} {v2 : Value} {x : Int32} : am_g d X am_m4032 11 [v0, v1, v2] (.int x :: sk) st Q = (if decide (¬ x = 0) = true then am_g d X am_m4032 25 [v0, v1, v2] sk st Q else am_g d X am_m4032 14 [v0, v1, v2] sk st Q) := am_gu.trans rfl
theorem u4032_14 {v1 : Value} {v2 : Value} {x : Nat} : am_g d X am_m4032 14 [.ref x, v1, v2] sk st Q = am_g d X am_m4032 15 [.ref x, v1, v2] (.ref x :: sk) st Q := am_gu.trans rfl
theorem u4032_15 {v0 : Value} {v1 : Value} {v2 : Value} : am_g d X am_m4032 15 [v0, v1, v2] sk st Q = am_gt 128 18 [v0, v1, v2] sk st (fun pc lc sk st => am_g d X am_m4032 pc lc sk st Q) := am_gu.trans rfl
theorem u4032_18 {v0 : Value} {v1 : Value} {x : Int32} : am_g d X am_m4032 18 [v0, v1, .int x] sk st Q = am_g d X am_m4032 19 [v0, v1, .int x] (.int x :: sk) st Q := am_gu.trans rfl
theorem u4032_19 {a0 : Value} {v0 : Value} {v1 : Value} {v2 : Value} : am_g d X am_m4032 19 [v0, v1, v2] (a0 :: .ref o :: sk) st Q = ((am_ob st o 5 ∧ sk.length ≤ 4) ∧ am_Ca X d 5013 [.ref o, a0] st (am_af am_m4032 19 [v0, v1, v2] sk (fun pc lc sk st => am_g d X am_m4032 pc lc sk st Q) Q)) := am_gu.trans rfl
theorem u4032_22i {v0 : Value} {v1 : Value} {v2 : Value} {x : Int32} : am_g d X am_m4032 22 [v0, v1, v2] (.int x :: sk) st Q = am_g d X am_m4032 23 [v0, v1, v2] sk st Q := am_gu.trans rfl
theorem u4032_22r {v0 : Value} {v1 : Value} {v2 : Value} {x : Nat} : am_g d X am_m4032 22 [v0, v1, v2] (.ref x :: sk) st Q = am_g d X am_m4032 23 [v0, v1, v2] sk st Q := am_gu.trans rfl
theorem u4032_23 {v0 : Value} {v1 : Value} {v2 : Value} : am_g d X am_m4032 23 [v0, v1, v2] sk st Q = am_g d X am_m4032 24 [v0, v1, v2] (.int (am_i 0) :: sk) st Q := am_gu.trans rfl
theorem u4032_24 {v0 : Value} {v1 : Value} {v2 : Value} {x : Int32} : am_g d X am_m4032 24 [v0, v1, v2] [.int x] st Q = Q (.inl (some (.int x))) st := am_gu.trans rfl
theorem u4032_25 {v1 : Value} {v2 : Value} {x : Nat} : am_g d X am_m4032 25 [.ref x, v1, v2] sk st Q = am_g d X am_m4032 26 [.ref x, v1, v2] (.ref x :: sk) st Q := am_gu.trans rfl
theorem u4032_26 {v0 : Value} {v1 : Value} {v2 : Value} : am_g d X am_m4032 26 [v0, v1, v2] sk st Q = am_gt 128 29 [v0, v1, v2] sk st (fun pc lc sk st => am_g d X am_m4032 pc lc sk st Q) := am_gu.trans rfl
theorem u4032_29 {v0 : Value} {v2 : Value} {x : Int32} : am_g d X am_m4032 29 [v0, .int x, v2] sk st Q = am_g d X am_m4032 30 [v0, .int x, v2] (.int x :: sk) st Q := am_gu.trans rfl
theorem u4032_30 {v0 : Value} {v1 : Value} {v2 : Value} : am_g d X am_m4032 30 [v0, v1, v2] sk st Q = am_pt 168 33 [v0, v1, v2] sk st (fun pc lc sk st => am_g d X am_m4032 pc lc sk st Q) := am_gu.trans rfl
theorem u4032_33 {v1 : Value} {v2 : Value} {x : Nat} : am_g d X am_m4032 33 [.ref x, v1, v2] sk st Q = am_g d X am_m4032 34 [.ref x, v1, v2] (.ref x :: sk) st Q := am_gu.trans rfl
theorem u4032_34 {v0 : Value} {v1 : Value} {v2 : Value} : am_g d X am_m4032 34 [v0, v1, v2] sk st Q = am_gt 128 37 [v0, v1, v2] sk st (fun pc lc sk st => am_g d X am_m4032 pc lc sk st Q) := am_gu.trans rfl
theorem u4032_37 {v0 : Value} {v1 : Value} {x : Int32} : am_g d X am_m4032 37 [v0, v1, .int x] sk st Q = am_g d X am_m4032 38 [v0, v1, .int x] (.int x :: sk) st Q := am_gu.trans rfl
theorem u4032_38 {v0 : Value} {v1 : Value} {v2 : Value} : am_g d X am_m4032 38 [v0, v1, v2] sk st Q = am_pt 169 41 [v0, v1, v2] sk st (fun pc lc sk st => am_g d X am_m4032 pc lc sk st Q) := am_gu.trans rfl
theorem u4032_41 {v1 : Value} {v2 : Value} {x : Nat} : am_g d X am_m4032 41 [.ref x, v1, v2] sk st Q = am_g d X am_m4032 42 [.ref x, v1, v2] (.ref x :: sk) st Q := am_gu.trans rfl
theorem u4032_42 {v0 : Value} {v1 : Value} {v2 : Value} : am_g d X am_m4032 42 [v0, v1, v2] sk st Q = am_gt 128 45 [v0, v1, v2] sk st (fun pc lc sk st => am_g d X am_m4032 pc lc sk st Q) := am_gu.trans rfl
theorem u4032_45i {v0 : Value} {v1 : Value} {v2 : Value} {x : Int32} : am_g d X am_m4032 45 [v0, v1, v2] (.int x :: sk) st Q = am_g d X am_m4032 46 [v0, v1, v2] (.int x :: .int x :: sk) st Q := am_gu.trans rfl
theorem u4032_45r {v0 : Value} {v1 : Value} {v2 : Value} {x : Nat} : am_g d X am_m4032 45 [v0, v1, v2] (.ref x :: sk) st Q = am_g d X am_m4032 46 [v0, v1, v2] (.ref x :: .ref x :: sk) st Q := am_gu.trans rfl
theorem u4032_46 {v0 : Value} {v1 : Value} {v2 : Value} : am_g d X am_m4032 46 [v0, v1, v2] sk st Q = am_gt 173 49 [v0, v1, v2] sk st (fun pc lc sk st => am_g d X am_m4032 pc lc sk st Q) := am_gu.trans rfl
theorem u4032_49 {v1 : Value} {v2 : Value} {x : Nat} : am_g d X am_m4032 49 [.ref x, v1, v2] sk st Q = am_g d X am_m4032 50 [.ref x, v1, v2] (.ref x :: sk) st Q := am_gu.trans rfl
theorem u4032_50 {v0 : Value} {v1 : Value} {v2 : Value} : am_g d X am_m4032 50 [v0, v1, v2] sk st Q = am_gt 130 53 [v0, v1, v2] sk st (fun pc lc sk st => am_g d X am_m4032 pc lc sk st Q) := am_gu.trans rfl
theorem u4032_53 {v0 : Value} {v1 : Value} {v2 : Value} : am_g d X am_m4032 53 [v0, v1, v2] sk st Q = am_gt 5 56 [v0, v1, v2] sk st (fun pc lc sk st => am_g d X am_m4032 pc lc sk st Q) := am_gu.trans rfl
theorem u4032_56 {v0 : Value} {v1 : Value} {v2 : Value} {x : Int32} {y : Int32} : am_g d X am_m4032 56 [v0, v1, v2] (.int y :: .int x :: sk) st Q = am_g d X am_m4032 57 [v0, v1, v2] (.int (x + y) :: sk) st Q := am_gu.trans rfl
theorem u4032_57 {v0 : Value} {v1 : Value} {v2 : Value} : am_g d X am_m4032 57 [v0, v1, v2] sk st Q = am_pt 173 60 [v0, v1, v2] sk st (fun pc lc sk st => am_g d X am_m4032 pc lc sk st Q) := am_gu.trans rfl
theorem u4032_60 {v1 : Value} {v2 : Value} {x : Nat} : am_g d X am_m4032 60 [.ref x, v1, v2] sk st Q = am_g d X am_m4032 61 [.ref x, v1, v2] (.ref x :: sk) st Q := am_gu.trans rfl
theorem u4032_61 {v0 : Value} {v1 : Value} {v2 : Value} : am_g d X am_m4032 61 [v0, v1, v2] sk st Q = am_gt 130 64 [v0, v1, v2] sk st (fun pc lc sk st => am_g d X am_m4032 pc lc sk st Q) := am_gu.trans rfl
theorem u4032_64 {v0 : Value} {v1 : Value} {v2 : Value} : am_g d X am_m4032 64 [v0, v1, v2] sk st Q = am_gt 5 67 [v0, v1, v2] sk st (fun pc lc sk st => am_g d X am_m4032 pc lc sk st Q) := am_gu.trans rfl
theorem u4032_67 {v0 : Value} {v1 : Value} {v2 : Value} {x : Int32} : am_g d X am_m4032 67 [v0, v1, v2] [.int x] st Q = Q (.inl (some (.int x))) st := am_gu.trans rfl
set_option maxRecDepth 100000 in
theorem of_5001 : am_of 5001 = some am_m5001 := rfl
theorem c5001 {z} {P : am_Q} : am_Ca X (d + 1) 5001 [.ref z] st P = am_g d X am_m5001 0 [.ref z] [] st P := am_cg of_5001 (by show 1 ≤ 1; decide)
theorem hd_5001 : am_hd am_m5001 = [] := rfl
theorem u5001_0 {x : Nat} : am_g d X am_m5001 0 [.ref x] sk st Q = am_g d X am_m5001 1 [.ref x] (.ref x :: sk) st Q := am_gu.trans rfl
theorem u5001_1 {v0 : Value} : am_g d X am_m5001 1 [v0] (.ref o :: sk) st Q = (sk.length ≤ 4 ∧ am_g d X am_m5001 4 [v0] sk st Q) := am_gu.trans rfl
theorem u5001_4 {x : Nat} : am_g d X am_m5001 4 [.ref x] sk st Q = am_g d X am_m5001 5 [.ref x] (.ref x :: sk) st Q := am_gu.trans rfl
theorem u5001_5 {v0 : Value} : am_g d X am_m5001 5 [v0] sk st Q = am_g d X am_m5001 6 [v0] (.int (am_i 1) :: sk) st Q := am_gu.trans rfl
theorem u5001_6 {v0 : Value} : am_g d X am_m5001 6 [v0] sk st Q = am_pt 160 9 [v0] sk st (fun pc lc sk st => am_g d X am_m5001 pc lc sk st Q) := am_gu.trans rfl
theorem u5001_9 {x : Nat} : am_g d X am_m5001 9 [.ref x] sk st Q = am_g d X am_m5001 10 [.ref x] (.ref x :: sk) st Q := am_gu.trans rfl
theorem u5001_10 {v0 : Value} : am_g d X am_m5001 10 [v0] sk st Q = am_g d X am_m5001 12 [v0] (.int (am_i 60) :: sk) st Q := am_gu.trans rfl
theorem u5001_12 {v0 : Value} : am_g d X am_m5001 12 [v0] sk st Q = am_na 1 none 14 [v0] sk st (fun pc lc sk st => am_g d X am_m5001 pc lc sk st Q) := am_gu.trans rfl
theorem u5001_14 {v0 : Value} : am_g d X am_m5001 14 [v0] sk st Q = am_pt 161 17 [v0] sk st (fun pc lc sk st => am_g d X am_m5001 pc lc sk st Q) := am_gu.trans rfl
theorem u5001_17 {x : Nat} : am_g d X am_m5001 17 [.ref x] sk st Q = am_g d X am_m5001 18 [.ref x] (.ref x :: sk) st Q := am_gu.trans rfl
theorem u5001_18 {v0 : Value} : am_g d X am_m5001 18 [v0] sk st Q = am_g d X am_m5001 20 [v0] (.int (am_i 60) :: sk) st Q := am_gu.trans rfl
theorem u5001_20 {v0 : Value} : am_g d X am_m5001 20 [v0] sk st Q = am_na 1 none 22 [v0] sk st (fun pc lc sk st => am_g d X am_m5001 pc lc sk st Q) := am_gu.trans rfl
theorem u5001_22 {v0 : Value} : am_g d X am_m5001 22 [v0] sk st Q = am_pt 162 25 [v0] sk st (fun pc lc sk st => am_g d X am_m5001 pc lc sk st Q) := am_gu.trans rfl
theorem u5001_25 {x : Nat} : am_g d X am_m5001 25 [.ref x] sk st Q = am_g d X am_m5001 26 [.ref x] (.ref x :: sk) st Q := am_gu.trans rfl
theorem u5001_26 {v0 : Value} : am_g d X am_m5001 26 [v0] sk st Q = am_g d X am_m5001 29 [v0] (.int (am_i 1440) :: sk) st Q := am_gu.trans rfl
theorem u5001_29 {v0 : Value} : am_g d X am_m5001 29 [v0] sk st Q = am_na 1 none 31 [v0] sk st (fun pc lc sk st => am_g d X am_m5001 pc lc sk st Q) := am_gu.trans rfl
theorem u5001_31 {v0 : Value} : am_g d X am_m5001 31 [v0] sk st Q = am_pt 163 34 [v0] sk st (fun pc lc sk st => am_g d X am_m5001 pc lc sk st Q) := am_gu.trans rfl
theorem u5001_34 {x : Nat} : am_g d X am_m5001 34 [.ref x] sk st Q = am_g d X am_m5001 35 [.ref x] (.ref x :: sk) st Q := am_gu.trans rfl
theorem u5001_35 {v0 : Value} : am_g d X am_m5001 35 [v0] sk st Q = am_g d X am_m5001 37 [v0] (.int (am_i 6) :: sk) st Q := am_gu.trans rfl
theorem u5001_37 {v0 : Value} : am_g d X am_m5001 37 [v0] sk st Q = am_na 1 none 39 [v0] sk st (fun pc lc sk st => am_g d X am_m5001 pc lc sk st Q) := am_gu.trans rfl
theorem u5001_39 {v0 : Value} : am_g d X am_m5001 39 [v0] sk st Q = am_pt 164 42 [v0] sk st (fun pc lc sk st => am_g d X am_m5001 pc lc sk st Q) := am_gu.trans rfl
theorem u5001_42 {x : Nat} : am_g d X am_m5001 42 [.ref x] sk st Q = am_g d X am_m5001 43 [.ref x] (.ref x :: sk) st Q := am_gu.trans rfl
theorem u5001_43 {v0 : Value} : am_g d X am_m5001 43 [v0] sk st Q = am_g d X am_m5001 44 [v0] (.int (am_i 0) :: sk) st Q := am_gu.trans rfl
theorem u5001_44 {v0 : Value} : am_g d X am_m5001 44 [v0] sk st Q = am_pt 165 47 [v0] sk st (fun pc lc sk st => am_g d X am_m5001 pc lc sk st Q) := am_gu.trans rfl
theorem u5001_47 {x : Nat} : am_g d X am_m5001 47 [.ref x] sk st Q = am_g d X am_m5001 48 [.ref x] (.ref x :: sk) st Q := am_gu.trans rfl
theorem u5001_48 {v0 : Value} : am_g d X am_m5001 48 [v0] sk st Q = am_g d X am_m5001 50 [v0] (.int (am_i 24) :: sk) st Q := am_gu.trans rfl
theorem u5001_50 {v0 : Value} : am_g d X am_m5001 50 [v0] sk st Q = am_na 1 none 52 [v0] sk st (fun pc lc sk st => am_g d X am_m5001 pc lc sk st Q) := am_gu.trans rfl
theorem u5001_52 {v0 : Value} : am_g d X am_m5001 52 [v0] sk st Q = am_pt 166 55 [v0] sk st (fun pc lc sk st => am_g d X am_m5001 pc lc sk st Q) := am_gu.trans rfl
theorem u5001_55 {x : Nat} : am_g d X am_m5001 55 [.ref x] sk st Q = am_g d X am_m5001 56 [.ref x] (.ref x :: sk) st Q := am_gu.trans rfl
theorem u5001_56 {v0 : Value} : am_g d X am_m5001 56 [v0] sk st Q = am_g d X am_m5001 58 [v0] (.int (am_i 24) :: sk) st Q := am_gu.trans rfl
theorem u5001_58 {v0 : Value} : am_g d X am_m5001 58 [v0] sk st Q = am_na 1 none 60 [v0] sk st (fun pc lc sk st => am_g d X am_m5001 pc lc sk st Q) := am_gu.trans rfl
theorem u5001_60 {v0 : Value} : am_g d X am_m5001 60 [v0] sk st Q = am_pt 167 63 [v0] sk st (fun pc lc sk st => am_g d X am_m5001 pc lc sk st Q) := am_gu.trans rfl
theorem u5001_63 {x : Nat} : am_g d X am_m5001 63 [.ref x] sk st Q = am_g d X am_m5001 64 [.ref x] (.ref x :: sk) st Q := am_gu.trans rfl
theorem u5001_64 {v0 : Value} : am_g d X am_m5001 64 [v0] sk st Q = am_g d X am_m5001 65 [v0] (.int (am_i 0) :: sk) st Q := am_gu.trans rfl
theorem u5001_65 {v0 : Value} : am_g d X am_m5001 65 [v0] sk st Q = am_pt 168 68 [v0] sk st (fun pc lc sk st => am_g d X am_m5001 pc lc sk st Q) := am_gu.trans rfl
theorem u5001_68 {x : Nat} : am_g d X am_m5001 68 [.ref x] sk st Q = am_g d X am_m5001 69 [.ref x] (.ref x :: sk) st Q := am_gu.trans rfl
theorem u5001_69 {v0 : Value} : am_g d X am_m5001 69 [v0] sk st Q = am_g d X am_m5001 70 [v0] (.int (am_i (-1)) :: sk) st Q := am_gu.trans rfl
theorem u5001_70 {v0 : Value} : am_g d X am_m5001 70 [v0] sk st Q = am_pt 169 73 [v0] sk st (fun pc lc sk st => am_g d X am_m5001 pc lc sk st Q) := am_gu.trans rfl
theorem u5001_73 {x : Nat} : am_g d X am_m5001 73 [.ref x] sk st Q = am_g d X am_m5001 74 [.ref x] (.ref x :: sk) st Q := am_gu.trans rfl
theorem u5001_74 {v0 : Value} : am_g d X am_m5001 74 [v0] sk st Q = am_g d X am_m5001 75 [v0] (.int (am_i 0) :: sk) st Q := am_gu.trans rfl
theorem u5001_75 {v0 : Value} : am_g d X am_m5001 75 [v0] sk st Q = am_pt 170 78 [v0] sk st (fun pc lc sk st => am_g d X am_m5001 pc lc sk st Q) := am_gu.trans rfl
theorem u5001_78 {x : Nat} : am_g d X am_m5001 78 [.ref x] sk st Q = am_g d X am_m5001 79 [.ref x] (.ref x :: sk) st Q := am_gu.trans rfl
theorem u5001_79 {v0 : Value} : am_g d X am_m5001 79 [v0] sk st Q = am_g d X am_m5001 80 [v0] (.int (am_i 3) :: sk) st Q := am_gu.trans rfl
theorem u5001_80 {v0 : Value} : am_g d X am_m5001 80 [v0] sk st Q = am_na 1 none 82 [v0] sk st (fun pc lc sk st => am_g d X am_m5001 pc lc sk st Q) := am_gu.trans rfl
theorem u5001_82 {v0 : Value} : am_g d X am_m5001 82 [v0] sk st Q = am_pt 171 85 [v0] sk st (fun pc lc sk st => am_g d X am_m5001 pc lc sk st Q) := am_gu.trans rfl
theorem u5001_85 {x : Nat} : am_g d X am_m5001 85 [.ref x] sk st Q = am_g d X am_m5001 86 [.ref x] (.ref x :: sk) st Q := am_gu.trans rfl
theorem u5001_86 {v0 : Value} : am_g d X am_m5001 86 [v0] sk st Q = am_g d X am_m5001 88 [v0] (.int (am_i 72) :: sk) st Q := am_gu.trans rfl
theorem u5001_88 {v0 : Value} : am_g d X am_m5001 88 [v0] sk st Q = am_na 1 none 90 [v0] sk st (fun pc lc sk st => am_g d X am_m5001 pc lc sk st Q) := am_gu.trans rfl
theorem u5001_90 {v0 : Value} : am_g d X am_m5001 90 [v0] sk st Q = am_pt 172 93 [v0] sk st (fun pc lc sk st => am_g d X am_m5001 pc lc sk st Q) := am_gu.trans rfl
theorem u5001_93 {x : Nat} : am_g d X am_m5001 93 [.ref x] sk st Q = am_g d X am_m5001 94 [.ref x] (.ref x :: sk) st Q := am_gu.trans rfl
theorem u5001_94 {v0 : Value} : am_g d X am_m5001 94 [v0] sk st Q = am_g d X am_m5001 95 [v0] (.int (am_i 0) :: sk) st Q := am_gu.trans rfl
theorem u5001_95 {v0 : Value} : am_g d X am_m5001 95 [v0] sk st Q = am_pt 173 98 [v0] sk st (fun pc lc sk st => am_g d X am_m5001 pc lc sk st Q) := am_gu.trans rfl
theorem u5001_98 {x : Nat} : am_g d X am_m5001 98 [.ref x] sk st Q = am_g d X am_m5001 99 [.ref x] (.ref x :: sk) st Q := am_gu.trans rfl
theorem u5001_99 {v0 : Value} : am_g d X am_m5001 99 [v0] sk st Q = am_gt 161 102 [v0] sk st (fun pc lc sk st => am_g d X am_m5001 pc lc sk st Q) := am_gu.trans rfl
theorem u5001_102 {v0 : Value} : am_g d X am_m5001 102 [v0] sk st Q = am_g d X am_m5001 103 [v0] (.int (am_i (-1)) :: sk) st Q := am_gu.trans rfl
theorem u5001_103 {a0 : Value} {a1 : Value} {v0 : Value} : am_g d X am_m5001 103 [v0] (a1 :: a0 :: sk) st Q = (sk.length ≤ 4 ∧ am_Ca X d 9000 [a0, a1] st (am_af am_m5001 103 [v0] sk (fun pc lc sk st => am_g d X am_m5001 pc lc sk st Q) Q)) := am_gu.trans (propext ⟨fun h => ⟨h.1.2, h.2⟩, fun h => ⟨⟨Nat.le_add_left _ _, h.1⟩, h.2⟩⟩)
theorem u5001_106 {x : Nat} : am_g d X am_m5001 106 [.ref x] sk st Q = am_g d X am_m5001 107 [.ref x] (.ref x :: sk) st Q := am_gu.trans rfl
theorem u5001_107 {v0 : Value} : am_g d X am_m5001 107 [v0] sk st Q = am_gt 162 110 [v0] sk st (fun pc lc sk st => am_g d X am_m5001 pc lc sk st Q) := am_gu.trans rfl
theorem u5001_110 {v0 : Value} : am_g d X am_m5001 110 [v0] sk st Q = am_g d X am_m5001 111 [v0] (.int (am_i (-1)) :: sk) st Q := am_gu.trans rfl
theorem u5001_111 {a0 : Value} {a1 : Value} {v0 : Value} : am_g d X am_m5001 111 [v0] (a1 :: a0 :: sk) st Q = (sk.length ≤ 4 ∧ am_Ca X d 9000 [a0, a1] st (am_af am_m5001 111 [v0] sk (fun pc lc sk st => am_g d X am_m5001 pc lc sk st Q) Q)) := am_gu.trans (propext ⟨fun h => ⟨h.1.2, h.2⟩, fun h => ⟨⟨Nat.le_add_left _ _, h.1⟩, h.2⟩⟩)
theorem u5001_114 {x : Nat} : am_g d X am_m5001 114 [.ref x] sk st Q = am_g d X am_m5001 115 [.ref x] (.ref x :: sk) st Q := am_gu.trans rfl
theorem u5001_115 {v0 : Value} : am_g d X am_m5001 115 [v0] sk st Q = am_gt 164 118 [v0] sk st (fun pc lc sk st => am_g d X am_m5001 pc lc sk st Q) := am_gu.trans rfl
theorem u5001_118 {v0 : Value} : am_g d X am_m5001 118 [v0] sk st Q = am_g d X am_m5001 119 [v0] (.int (am_i (-1)) :: sk) st Q := am_gu.trans rfl
theorem u5001_119 {a0 : Value} {a1 : Value} {v0 : Value} : am_g d X am_m5001 119 [v0] (a1 :: a0 :: sk) st Q = (sk.length ≤ 4 ∧ am_Ca X d 9000 [a0, a1] st (am_af am_m5001 119 [v0] sk (fun pc lc sk st => am_g d X am_m5001 pc lc sk st Q) Q)) := am_gu.trans (propext ⟨fun h => ⟨h.1.2, h.2⟩, fun h => ⟨⟨Nat.le_add_left _ _, h.1⟩, h.2⟩⟩)
theorem u5001_122 {x : Nat} : am_g d X am_m5001 122 [.ref x] sk st Q = am_g d X am_m5001 123 [.ref x] (.ref x :: sk) st Q := am_gu.trans rfl
theorem u5001_123 {v0 : Value} : am_g d X am_m5001 123 [v0] sk st Q = am_gt 167 126 [v0] sk st (fun pc lc sk st => am_g d X am_m5001 pc lc sk st Q) := am_gu.trans rfl
theorem u5001_126 {v0 : Value} : am_g d X am_m5001 126 [v0] sk st Q = am_g d X am_m5001 127 [v0] (.int (am_i (-1)) :: sk) st Q := am_gu.trans rfl
theorem u5001_127 {a0 : Value} {a1 : Value} {v0 : Value} : am_g d X am_m5001 127 [v0] (a1 :: a0 :: sk) st Q = (sk.length ≤ 4 ∧ am_Ca X d 9000 [a0, a1] st (am_af am_m5001 127 [v0] sk (fun pc lc sk st => am_g d X am_m5001 pc lc sk st Q) Q)) := am_gu.trans (propext ⟨fun h => ⟨h.1.2, h.2⟩, fun h => ⟨⟨Nat.le_add_left _ _, h.1⟩, h.2⟩⟩)
theorem u5001_130 {x : Nat} : am_g d X am_m5001 130 [.ref x] sk st Q = am_g d X am_m5001 131 [.ref x] (.ref x :: sk) st Q := am_gu.trans rfl
theorem u5001_131 {v0 : Value} : am_g d X am_m5001 131 [v0] sk st Q = am_gt 164 134 [v0] sk st (fun pc lc sk st => am_g d X am_m5001 pc lc sk st Q) := am_gu.trans rfl
theorem u5001_134 {v0 : Value} : am_g d X am_m5001 134 [v0] sk st Q = am_g d X am_m5001 135 [v0] (.int (am_i 0) :: sk) st Q := am_gu.trans rfl
theorem u5001_135 {v0 : Value} : am_g d X am_m5001 135 [v0] sk st Q = am_g d X am_m5001 136 [v0] (.int (am_i 0) :: sk) st Q := am_gu.trans rfl
theorem u5001_136 {v0 : Value} : am_g d X am_m5001 136 [v0] sk st Q = am_xs 137 [v0] sk st (fun pc lc sk st => am_g d X am_m5001 pc lc sk st Q) := am_gu.trans rfl
theorem u5001_137 {v0 : Value} : am_g d X am_m5001 137 [v0] [] st Q = Q (.inl none) st := am_gu.trans rfl
set_option maxRecDepth 100000 in
theorem of_5002 : am_of 5002 = some am_m5002 := rfl
theorem c5002 {z a0} {P : am_Q} : am_Ca X (d + 1) 5002 [.ref z, .ref a0] st P = am_g d X am_m5002 0 [.ref z, .ref a0, am_u] [] st P := am_cg of_5002 (by show 2 ≤ 3; decide)
theorem hd_5002 : am_hd am_m5002 = [] := rfl
theorem u5002_0 {v0 : Value} {v2 : Value} {x : Nat} : am_g d X am_m5002 0 [v0, .ref x, v2] sk st Q = am_g d X am_m5002 1 [v0, .ref x, v2] (.ref x :: sk) st Q := am_gu.trans rfl
theorem u5002_1 {v0 : Value} {v1 : Value} {v2 : Value} : am_g d X am_m5002 1 [v0, v1, v2] sk st Q = am_gt 160 4 [v0, v1, v2] sk st (fun pc lc sk st => am_g d X am_m5002 pc lc sk st Q) := am_gu.trans rfl
theorem u5002_4 {v0 : Value} {v1 : Value} {v2 : Value} : am_g d X am_m5002 4 [v0, v1, v2] sk st Q = am_g d X am_m5002 6 [v0, v1, v2] (.int (am_i 60) :: sk) st Q := am_gu.trans rfl
theorem u5002_6 {v0 : Value} {v1 : Value} {v2 : Value} {x : Int32} {y : Int32} : am_g d X am_m5002 6 [v0, v1, v2] (.int y :: .int x :: sk) st Q = (sk.length ≤ 4 ∧ am_g d X am_m5002 9 [v0, v1, v2] (.int (if y < x then y else x) :: sk) st Q) := am_gu.trans rfl
theorem u5002_9 {v0 : Value} {v1 : Value} {v2 : Value} {x : Int32} : am_g d X am_m5002 9 [v0, v1, v2] (.int x :: sk) st Q = am_g d X am_m5002 10 [v0, am_kc v1, .int x] sk st Q := am_gu.trans (congrArg (fun l => am_g d X am_m5002 10 (List.set l 2 (.int x)) sk st Q) (kl_2 (l := [v2])))
theorem u5002_10 {v1 : Value} {v2 : Value} {x : Nat} : am_g d X am_m5002 10 [.ref x, v1, v2] sk st Q = am_g d X am_m5002 11 [.ref x, v1, v2] (.ref x :: sk) st Q := am_gu.trans rfl
theorem u5002_11 {v0 : Value} {v1 : Value} {x : Int32} : am_g d X am_m5002 11 [v0, v1, .int x] sk st Q = am_g d X am_m5002 12 [v0, v1, .int x] (.int x :: sk) st Q := am_gu.trans rfl
theorem u5002_12 {v0 : Value} {v1 : Value} {v2 : Value} : am_g d X am_m5002 12 [v0, v1, v2] sk st Q = am_pt 160 15 [v0, v1, v2] sk st (fun pc lc sk st => am_g d X am_m5002 pc lc sk st Q) := am_gu.trans rfl
theorem u5002_15 {v0 : Value} {v2 : Value} {x : Nat} : am_g d X am_m5002 15 [v0, .ref x, v2] sk st Q = am_g d X am_m5002 16 [v0, .ref x, v2] (.ref x :: sk) st Q := am_gu.trans rfl
theorem u5002_16 {v0 : Value} {v1 : Value} {v2 : Value} : am_g d X am_m5002 16 [v0, v1, v2] sk st Q = am_gt 161 19 [v0, v1, v2] sk st (fun pc lc sk st => am_g d X am_m5002 pc lc sk st Q) := am_gu.trans rfl
theorem u5002_19 {v0 : Value} {v1 : Value} {v2 : Value} : am_g d X am_m5002 19 [v0, v1, v2] sk st Q = am_g d X am_m5002 20 [v0, v1, v2] (.int (am_i 0) :: sk) st Q := am_gu.trans rfl
theorem u5002_20 {v1 : Value} {v2 : Value} {x : Nat} : am_g d X am_m5002 20 [.ref x, v1, v2] sk st Q = am_g d X am_m5002 21 [.ref x, v1, v2] (.ref x :: sk) st Q := am_gu.trans rfl
theorem u5002_21 {v0 : Value} {v1 : Value} {v2 : Value} : am_g d X am_m5002 21 [v0, v1, v2] sk st Q = am_gt 161 24 [v0, v1, v2] sk st (fun pc lc sk st => am_g d X am_m5002 pc lc sk st Q) := am_gu.trans rfl
theorem u5002_24 {v0 : Value} {v1 : Value} {v2 : Value} : am_g d X am_m5002 24 [v0, v1, v2] sk st Q = am_g d X am_m5002 25 [v0, v1, v2] (.int (am_i 0) :: sk) st Q := am_gu.trans rfl
theorem u5002_25 {v0 : Value} {v1 : Value} {x : Int32} : am_g d X am_m5002 25 [v0, v1, .int x] sk st Q = am_g d X am_m5002 26 [v0, v1, .int x] (.int x :: sk) st Q := am_gu.trans rfl
theorem u5002_26 {v0 : Value} {v1 : Value} {v2 : Value} : am_g d X am_m5002 26 [v0, v1, v2] sk st Q = am_cp 29 [v0, v1, v2] sk st (fun pc lc sk st => am_g d X am_m5002 pc lc sk st Q) := am_gu.trans rfl
theorem u5002_29 {v0 : Value} {v2 : Value} {x : Nat} : am_g d X am_m5002 29 [v0, .ref x, v2] sk st Q = am_g d X am_m5002 30 [v0, .ref x, v2] (.ref x :: sk) st Q := am_gu.trans rfl
theorem u5002_30 {v0 : Value} {v1 : Value} {v2 : Value} : am_g d X am_m5002 30 [v0, v1, v2] sk st Q = am_gt 162 33 [v0, v1, v2] sk st (fun pc lc sk st => am_g d X am_m5002 pc lc sk st Q) := am_gu.trans rfl
theorem u5002_33 {v0 : Value} {v1 : Value} {v2 : Value} : am_g d X am_m5002 33 [v0, v1, v2] sk st Q = am_g d X am_m5002 34 [v0, v1, v2] (.int (am_i 0) :: sk) st Q := am_gu.trans rfl
theorem u5002_34 {v1 : Value} {v2 : Value} {x : Nat} : am_g d X am_m5002 34 [.ref x, v1, v2] sk st Q = am_g d X am_m5002 35 [.ref x, v1, v2] (.ref x :: sk) st Q := am_gu.trans rfl
theorem u5002_35 {v0 : Value} {v1 : Value} {v2 : Value} : am_g d X am_m5002 35 [v0, v1, v2] sk st Q = am_gt 162 38 [v0, v1, v2] sk st (fun pc lc sk st => am_g d X am_m5002 pc lc sk st Q) := am_gu.trans rfl
theorem u5002_38 {v0 : Value} {v1 : Value} {v2 : Value} : am_g d X am_m5002 38 [v0, v1, v2] sk st Q = am_g d X am_m5002 39 [v0, v1, v2] (.int (am_i 0) :: sk) st Q := am_gu.trans rfl
theorem u5002_39 {v0 : Value} {v1 : Value} {x : Int32} : am_g d X am_m5002 39 [v0, v1, .int x] sk st Q = am_g d X am_m5002 40 [v0, v1, .int x] (.int x :: sk) st Q := am_gu.trans rfl
theorem u5002_40 {v0 : Value} {v1 : Value} {v2 : Value} : am_g d X am_m5002 40 [v0, v1, v2] sk st Q = am_cp 43 [v0, v1, v2] sk st (fun pc lc sk st => am_g d X am_m5002 pc lc sk st Q) := am_gu.trans rfl
theorem u5002_43 {v0 : Value} {v2 : Value} {x : Nat} : am_g d X am_m5002 43 [v0, .ref x, v2] sk st Q = am_g d X am_m5002 44 [v0, .ref x, v2] (.ref x :: sk) st Q := am_gu.trans rfl
theorem u5002_44 {v0 : Value} {v1 : Value} {v2 : Value} : am_g d X am_m5002 44 [v0, v1, v2] sk st Q = am_gt 163 47 [v0, v1, v2] sk st (fun pc lc sk st => am_g d X am_m5002 pc lc sk st Q) := am_gu.trans rfl
theorem u5002_47 {v0 : Value} {v1 : Value} {v2 : Value} : am_g d X am_m5002 47 [v0, v1, v2] sk st Q = am_g d X am_m5002 48 [v0, v1, v2] (.int (am_i 0) :: sk) st Q := am_gu.trans rfl
theorem u5002_48 {v1 : Value} {v2 : Value} {x : Nat} : am_g d X am_m5002 48 [.ref x, v1, v2] sk st Q = am_g d X am_m5002 49 [.ref x, v1, v2] (.ref x :: sk) st Q := am_gu.trans rfl
theorem u5002_49 {v0 : Value} {v1 : Value} {v2 : Value} : am_g d X am_m5002 49 [v0, v1, v2] sk st Q = am_gt 163 52 [v0, v1, v2] sk st (fun pc lc sk st => am_g d X am_m5002 pc lc sk st Q) := am_gu.trans rfl
theorem u5002_52 {v0 : Value} {v1 : Value} {v2 : Value} : am_g d X am_m5002 52 [v0, v1, v2] sk st Q = am_g d X am_m5002 53 [v0, v1, v2] (.int (am_i 0) :: sk) st Q := am_gu.trans rfl
theorem u5002_53 {v0 : Value} {v1 : Value} {x : Int32} : am_g d X am_m5002 53 [v0, v1, .int x] sk st Q = am_g d X am_m5002 54 [v0, v1, .int x] (.int x :: sk) st Q := am_gu.trans rfl
theorem u5002_54 {v0 : Value} {v1 : Value} {v2 : Value} : am_g d X am_m5002 54 [v0, v1, v2] sk st Q = am_g d X am_m5002 56 [v0, v1, v2] (.int (am_i 24) :: sk) st Q := am_gu.trans rfl
theorem u5002_56 {v0 : Value} {v1 : Value} {v2 : Value} {x : Int32} {y : Int32} : am_g d X am_m5002 56 [v0, v1, v2] (.int y :: .int x :: sk) st Q = am_g d X am_m5002 57 [v0, v1, v2] (.int (x * y) :: sk) st Q := am_gu.trans rfl
theorem u5002_57 {v0 : Value} {v1 : Value} {v2 : Value} : am_g d X am_m5002 57 [v0, v1, v2] sk st Q = am_cp 60 [v0, v1, v2] sk st (fun pc lc sk st => am_g d X am_m5002 pc lc sk st Q) := am_gu.trans rfl
theorem u5002_60 {v0 : Value} {v2 : Value} {x : Nat} : am_g d X am_m5002 60 [v0, .ref x, v2] sk st Q = am_g d X am_m5002 61 [v0, .ref x, v2] (.ref x :: sk) st Q := am_gu.trans rfl
theorem u5002_61 {v0 : Value} {v1 : Value} {v2 : Value} : am_g d X am_m5002 61 [v0, v1, v2] sk st Q = am_gt 164 64 [v0, v1, v2] sk st (fun pc lc sk st => am_g d X am_m5002 pc lc sk st Q) := am_gu.trans rfl
theorem u5002_64 {v0 : Value} {v1 : Value} {v2 : Value} : am_g d X am_m5002 64 [v0, v1, v2] sk st Q = am_g d X am_m5002 65 [v0, v1, v2] (.int (am_i 0) :: sk) st Q := am_gu.trans rfl
theorem u5002_65 {v1 : Value} {v2 : Value} {x : Nat} : am_g d X am_m5002 65 [.ref x, v1, v2] sk st Q = am_g d X am_m5002 66 [.ref x, v1, v2] (.ref x :: sk) st Q := am_gu.trans rfl
theorem u5002_66 {v0 : Value} {v1 : Value} {v2 : Value} : am_g d X am_m5002 66 [v0, v1, v2] sk st Q = am_gt 164 69 [v0, v1, v2] sk st (fun pc lc sk st => am_g d X am_m5002 pc lc sk st Q) := am_gu.trans rfl
theorem u5002_69 {v0 : Value} {v1 : Value} {v2 : Value} : am_g d X am_m5002 69 [v0, v1, v2] sk st Q = am_g d X am_m5002 70 [v0, v1, v2] (.int (am_i 0) :: sk) st Q := am_gu.trans rfl
theorem u5002_70 {v0 : Value} {v1 : Value} {v2 : Value} : am_g d X am_m5002 70 [v0, v1, v2] sk st Q = am_g d X am_m5002 72 [v0, v1, v2] (.int (am_i 6) :: sk) st Q := am_gu.trans rfl
theorem u5002_72 {v0 : Value} {v1 : Value} {v2 : Value} : am_g d X am_m5002 72 [v0, v1, v2] sk st Q = am_cp 75 [v0, v1, v2] sk st (fun pc lc sk st => am_g d X am_m5002 pc lc sk st Q) := am_gu.trans rfl
theorem u5002_75 {v1 : Value} {v2 : Value} {x : Nat} : am_g d X am_m5002 75 [.ref x, v1, v2] sk st Q = am_g d X am_m5002 76 [.ref x, v1, v2] (.ref x :: sk) st Q := am_gu.trans rfl
theorem u5002_76 {v0 : Value} {v2 : Value} {x : Nat} : am_g d X am_m5002 76 [v0, .ref x, v2] sk st Q = am_g d X am_m5002 77 [v0, .ref x, v2] (.ref x :: sk) st Q := am_gu.trans rfl
theorem u5002_77 {v0 : Value} {v1 : Value} {v2 : Value} : am_g d X am_m5002 77 [v0, v1, v2] sk st Q = am_gt 165 80 [v0, v1, v2] sk st (fun pc lc sk st => am_g d X am_m5002 pc lc sk st Q) := am_gu.trans rfl
theorem u5002_80 {v0 : Value} {v1 : Value} {v2 : Value} : am_g d X am_m5002 80 [v0, v1, v2] sk st Q = am_pt 165 83 [v0, v1, v2] sk st (fun pc lc sk st => am_g d X am_m5002 pc lc sk st Q) := am_gu.trans rfl
theorem u5002_83 {v0 : Value} {v2 : Value} {x : Nat} : am_g d X am_m5002 83 [v0, .ref x, v2] sk st Q = am_g d X am_m5002 84 [v0, .ref x, v2] (.ref x :: sk) st Q := am_gu.trans rfl
theorem u5002_84 {v0 : Value} {v1 : Value} {v2 : Value} : am_g d X am_m5002 84 [v0, v1, v2] sk st Q = am_gt 166 87 [v0, v1, v2] sk st (fun pc lc sk st => am_g d X am_m5002 pc lc sk st Q) := am_gu.trans rfl
theorem u5002_87 {v0 : Value} {v1 : Value} {v2 : Value} : am_g d X am_m5002 87 [v0, v1, v2] sk st Q = am_g d X am_m5002 88 [v0, v1, v2] (.int (am_i 0) :: sk) st Q := am_gu.trans rfl
theorem u5002_88 {v1 : Value} {v2 : Value} {x : Nat} : am_g d X am_m5002 88 [.ref x, v1, v2] sk st Q = am_g d X am_m5002 89 [.ref x, v1, v2] (.ref x :: sk) st Q := am_gu.trans rfl
theorem u5002_89 {v0 : Value} {v1 : Value} {v2 : Value} : am_g d X am_m5002 89 [v0, v1, v2] sk st Q = am_gt 166 92 [v0, v1, v2] sk st (fun pc lc sk st => am_g d X am_m5002 pc lc sk st Q) := am_gu.trans rfl
theorem u5002_92 {v0 : Value} {v1 : Value} {v2 : Value} : am_g d X am_m5002 92 [v0, v1, v2] sk st Q = am_g d X am_m5002 93 [v0, v1, v2] (.int (am_i 0) :: sk) st Q := am_gu.trans rfl
theorem u5002_93 {v0 : Value} {v1 : Value} {v2 : Value} : am_g d X am_m5002 93 [v0, v1, v2] sk st Q = am_g d X am_m5002 95 [v0, v1, v2] (.int (am_i 24) :: sk) st Q := am_gu.trans rfl
theorem u5002_95 {v0 : Value} {v1 : Value} {v2 : Value} : am_g d X am_m5002 95 [v0, v1, v2] sk st Q = am_cp 98 [v0, v1, v2] sk st (fun pc lc sk st => am_g d X am_m5002 pc lc sk st Q) := am_gu.trans rfl
theorem u5002_98 {v0 : Value} {v2 : Value} {x : Nat} : am_g d X am_m5002 98 [v0, .ref x, v2] sk st Q = am_g d X am_m5002 99 [v0, .ref x, v2] (.ref x :: sk) st Q := am_gu.trans rfl
theorem u5002_99 {v0 : Value} {v1 : Value} {v2 : Value} : am_g d X am_m5002 99 [v0, v1, v2] sk st Q = am_gt 167 102 [v0, v1, v2] sk st (fun pc lc sk st => am_g d X am_m5002 pc lc sk st Q) := am_gu.trans rfl
theorem u5002_102 {v0 : Value} {v1 : Value} {v2 : Value} : am_g d X am_m5002 102 [v0, v1, v2] sk st Q = am_g d X am_m5002 103 [v0, v1, v2] (.int (am_i 0) :: sk) st Q := am_gu.trans rfl
theorem u5002_103 {v1 : Value} {v2 : Value} {x : Nat} : am_g d X am_m5002 103 [.ref x, v1, v2] sk st Q = am_g d X am_m5002 104 [.ref x, v1, v2] (.ref x :: sk) st Q := am_gu.trans rfl
theorem u5002_104 {v0 : Value} {v1 : Value} {v2 : Value} : am_g d X am_m5002 104 [v0, v1, v2] sk st Q = am_gt 167 107 [v0, v1, v2] sk st (fun pc lc sk st => am_g d X am_m5002 pc lc sk st Q) := am_gu.trans rfl
theorem u5002_107 {v0 : Value} {v1 : Value} {v2 : Value} : am_g d X am_m5002 107 [v0, v1, v2] sk st Q = am_g d X am_m5002 108 [v0, v1, v2] (.int (am_i 0) :: sk) st Q := am_gu.trans rfl
theorem u5002_108 {v0 : Value} {v1 : Value} {v2 : Value} : am_g d X am_m5002 108 [v0, v1, v2] sk st Q = am_g d X am_m5002 110 [v0, v1, v2] (.int (am_i 24) :: sk) st Q := am_gu.trans rfl
theorem u5002_110 {v0 : Value} {v1 : Value} {v2 : Value} : am_g d X am_m5002 110 [v0, v1, v2] sk st Q = am_cp 113 [v0, v1, v2] sk st (fun pc lc sk st => am_g d X am_m5002 pc lc sk st Q) := am_gu.trans rfl
theorem u5002_113 {v1 : Value} {v2 : Value} {x : Nat} : am_g d X am_m5002 113 [.ref x, v1, v2] sk st Q = am_g d X am_m5002 114 [.ref x, v1, v2] (.ref x :: sk) st Q := am_gu.trans rfl
theorem u5002_114 {v0 : Value} {v2 : Value} {x : Nat} : am_g d X am_m5002 114 [v0, .ref x, v2] sk st Q = am_g d X am_m5002 115 [v0, .ref x, v2] (.ref x :: sk) st Q := am_gu.trans rfl
theorem u5002_115 {v0 : Value} {v1 : Value} {v2 : Value} : am_g d X am_m5002 115 [v0, v1, v2] sk st Q = am_gt 168 118 [v0, v1, v2] sk st (fun pc lc sk st => am_g d X am_m5002 pc lc sk st Q) := am_gu.trans rfl
theorem u5002_118 {v0 : Value} {v1 : Value} {v2 : Value} : am_g d X am_m5002 118 [v0, v1, v2] sk st Q = am_pt 168 121 [v0, v1, v2] sk st (fun pc lc sk st => am_g d X am_m5002 pc lc sk st Q) := am_gu.trans rfl
theorem u5002_121 {v1 : Value} {v2 : Value} {x : Nat} : am_g d X am_m5002 121 [.ref x, v1, v2] sk st Q = am_g d X am_m5002 122 [.ref x, v1, v2] (.ref x :: sk) st Q := am_gu.trans rfl
theorem u5002_122 {v0 : Value} {v2 : Value} {x : Nat} : am_g d X am_m5002 122 [v0, .ref x, v2] sk st Q = am_g d X am_m5002 123 [v0, .ref x, v2] (.ref x :: sk) st Q := am_gu.trans rfl
theorem u5002_123 {v0 : Value} {v1 : Value} {v2 : Value} : am_g d X am_m5002 123 [v0, v1, v2] sk st Q = am_gt 169 126 [v0, v1, v2] sk st (fun pc lc sk st => am_g d X am_m5002 pc lc sk st Q) := am_gu.trans rfl
theorem u5002_126 {v0 : Value} {v1 : Value} {v2 : Value} : am_g d X am_m5002 126 [v0, v1, v2] sk st Q = am_pt 169 129 [v0, v1, v2] sk st (fun pc lc sk st => am_g d X am_m5002 pc lc sk st Q) := am_gu.trans rfl
theorem u5002_129 {v1 : Value} {v2 : Value} {x : Nat} : am_g d X am_m5002 129 [.ref x, v1, v2] sk st Q = am_g d X am_m5002 130 [.ref x, v1, v2] (.ref x :: sk) st Q := am_gu.trans rfl
theorem u5002_130 {v0 : Value} {v2 : Value} {x : Nat} : am_g d X am_m5002 130 [v0, .ref x, v2] sk st Q = am_g d X am_m5002 131 [v0, .ref x, v2] (.ref x :: sk) st Q := am_gu.trans rfl
theorem u5002_131 {v0 : Value} {v1 : Value} {v2 : Value} : am_g d X am_m5002 131 [v0, v1, v2] sk st Q = am_gt 170 134 [v0, v1, v2] sk st (fun pc lc sk st => am_g d X am_m5002 pc lc sk st Q) := am_gu.trans rfl
theorem u5002_134 {v0 : Value} {v1 : Value} {v2 : Value} : am_g d X am_m5002 134 [v0, v1, v2] sk st Q = am_pt 170 137 [v0, v1, v2] sk st (fun pc lc sk st => am_g d X am_m5002 pc lc sk st Q) := am_gu.trans rfl
theorem u5002_137 {v0 : Value} {v2 : Value} {x : Nat} : am_g d X am_m5002 137 [v0, .ref x, v2] sk st Q = am_g d X am_m5002 138 [v0, .ref x, v2] (.ref x :: sk) st Q := am_gu.trans rfl
theorem u5002_138 {v0 : Value} {v1 : Value} {v2 : Value} : am_g d X am_m5002 138 [v0, v1, v2] sk st Q = am_gt 171 141 [v0, v1, v2] sk st (fun pc lc sk st => am_g d X am_m5002 pc lc sk st Q) := am_gu.trans rfl
theorem u5002_141 {v0 : Value} {v1 : Value} {v2 : Value} : am_g d X am_m5002 141 [v0, v1, v2] sk st Q = am_g d X am_m5002 142 [v0, v1, v2] (.int (am_i 0) :: sk) st Q := am_gu.trans rfl
theorem u5002_142 {v1 : Value} {v2 : Value} {x : Nat} : am_g d X am_m5002 142 [.ref x, v1, v2] sk st Q = am_g d X am_m5002 143 [.ref x, v1, v2] (.ref x :: sk) st Q := am_gu.trans rfl
theorem u5002_143 {v0 : Value} {v1 : Value} {v2 : Value} : am_g d X am_m5002 143 [v0, v1, v2] sk st Q = am_gt 171 146 [v0, v1, v2] sk st (fun pc lc sk st => am_g d X am_m5002 pc lc sk st Q) := am_gu.trans rfl
theorem u5002_146 {v0 : Value} {v1 : Value} {v2 : Value} : am_g d X am_m5002 146 [v0, v1, v2] sk st Q = am_g d X am_m5002 147 [v0, v1, v2] (.int (am_i 0) :: sk) st Q := am_gu.trans rfl
theorem u5002_147 {v0 : Value} {v1 : Value} {v2 : Value} : am_g d X am_m5002 147 [v0, v1, v2] sk st Q = am_g d X am_m5002 148 [v0, v1, v2] (.int (am_i 3) :: sk) st Q := am_gu.trans rfl
theorem u5002_148 {v0 : Value} {v1 : Value} {v2 : Value} : am_g d X am_m5002 148 [v0, v1, v2] sk st Q = am_cp 151 [v0, v1, v2] sk st (fun pc lc sk st => am_g d X am_m5002 pc lc sk st Q) := am_gu.trans rfl
theorem u5002_151 {v0 : Value} {v2 : Value} {x : Nat} : am_g d X am_m5002 151 [v0, .ref x, v2] sk st Q = am_g d X am_m5002 152 [v0, .ref x, v2] (.ref x :: sk) st Q := am_gu.trans rfl
theorem u5002_152 {v0 : Value} {v1 : Value} {v2 : Value} : am_g d X am_m5002 152 [v0, v1, v2] sk st Q = am_gt 172 155 [v0, v1, v2] sk st (fun pc lc sk st => am_g d X am_m5002 pc lc sk st Q) := am_gu.trans rfl
theorem u5002_155 {v0 : Value} {v1 : Value} {v2 : Value} : am_g d X am_m5002 155 [v0, v1, v2] sk st Q = am_g d X am_m5002 156 [v0, v1, v2] (.int (am_i 0) :: sk) st Q := am_gu.trans rfl
theorem u5002_156 {v1 : Value} {v2 : Value} {x : Nat} : am_g d X am_m5002 156 [.ref x, v1, v2] sk st Q = am_g d X am_m5002 157 [.ref x, v1, v2] (.ref x :: sk) st Q := am_gu.trans rfl
theorem u5002_157 {v0 : Value} {v1 : Value} {v2 : Value} : am_g d X am_m5002 157 [v0, v1, v2] sk st Q = am_gt 172 160 [v0, v1, v2] sk st (fun pc lc sk st => am_g d X am_m5002 pc lc sk st Q) := am_gu.trans rfl
theorem u5002_160 {v0 : Value} {v1 : Value} {v2 : Value} : am_g d X am_m5002 160 [v0, v1, v2] sk st Q = am_g d X am_m5002 161 [v0, v1, v2] (.int (am_i 0) :: sk) st Q := am_gu.trans rfl
theorem u5002_161 {v0 : Value} {v1 : Value} {v2 : Value} : am_g d X am_m5002 161 [v0, v1, v2] sk st Q = am_g d X am_m5002 163 [v0, v1, v2] (.int (am_i 72) :: sk) st Q := am_gu.trans rfl
theorem u5002_163 {v0 : Value} {v1 : Value} {v2 : Value} : am_g d X am_m5002 163 [v0, v1, v2] sk st Q = am_cp 166 [v0, v1, v2] sk st (fun pc lc sk st => am_g d X am_m5002 pc lc sk st Q) := am_gu.trans rfl
theorem u5002_166 {v1 : Value} {v2 : Value} {x : Nat} : am_g d X am_m5002 166 [.ref x, v1, v2] sk st Q = am_g d X am_m5002 167 [.ref x, v1, v2] (.ref x :: sk) st Q := am_gu.trans rfl
theorem u5002_167 {v0 : Value} {v2 : Value} {x : Nat} : am_g d X am_m5002 167 [v0, .ref x, v2] sk st Q = am_g d X am_m5002 168 [v0, .ref x, v2] (.ref x :: sk) st Q := am_gu.trans rfl
theorem u5002_168 {v0 : Value} {v1 : Value} {v2 : Value} : am_g d X am_m5002 168 [v0, v1, v2] sk st Q = am_gt 173 171 [v0, v1, v2] sk st (fun pc lc sk st => am_g d X am_m5002 pc lc sk st Q) := am_gu.trans rfl
theorem u5002_171 {v0 : Value} {v1 : Value} {v2 : Value} : am_g d X am_m5002 171 [v0, v1, v2] sk st Q = am_pt 173 174 [v0, v1, v2] sk st (fun pc lc sk st => am_g d X am_m5002 pc lc sk st Q) := am_gu.trans rfl
theorem u5002_174 {v0 : Value} {v1 : Value} {v2 : Value} : am_g d X am_m5002 174 [v0, v1, v2] [] st Q = Q (.inl none) st := am_gu.trans rfl
set_option maxRecDepth 100000 in
theorem of_5003 : am_of 5003 = some am_m5003 := rfl
theorem c5003 {z a0} {P : am_Q} : am_Ca X (d + 1) 5003 [.ref z, .int a0] st P = am_g d X am_m5003 0 [.ref z, .int a0] [] st P := am_cg of_5003 (by show 2 ≤ 2; decide)
theorem hd_5003 : am_hd am_m5003 = [] := rfl
theorem u5003_0 {v0 : Value} {x : Int32} : am_g d X am_m5003 0 [v0, .int x] sk st Q = am_g d X am_m5003 1 [v0, .int x] (.int x :: sk) st Q := am_gu.trans rfl
theorem u5003_1 {v0 : Value} {v1 : Value} {x : Int32} : am_g d X am_m5003 1 [v0, v1] (.int x :: sk) st Q = (if decide (x < 0) = true then am_g d X am_m5003 22 [v0, v1] sk st Q else am_g d X am_m5003 4 [v0, v1] sk st Q) := am_gu.trans rfl
theorem u5003_4 {v0 : Value} {x : Int32} : am_g d X am_m5003 4 [v0, .int x] sk st Q = am_g d X am_m5003 5 [v0, .int x] (.int x :: sk) st Q := am_gu.trans rfl
theorem u5003_5 {v1 : Value} {x : Nat} : am_g d X am_m5003 5 [.ref x, v1] sk st Q = am_g d X am_m5003 6 [.ref x, v1] (.ref x :: sk) st Q := am_gu.trans rfl
theorem u5003_6 {v0 : Value} {v1 : Value} : am_g d X am_m5003 6 [v0, v1] sk st Q = am_gt 160 9 [v0, v1] sk st (fun pc lc sk st => am_g d X am_m5003 pc lc sk st Q) := am_gu.trans rfl
theorem u5003_9 {v0 : Value} {v1 : Value} {x : Int32} {y : Int32} : am_g d X am_m5003 9 [v0, v1] (.int y :: .int x :: sk) st Q = (if decide (y ≤ x) = true then am_g d X am_m5003 22 [v0, v1] sk st Q else am_g d X am_m5003 12 [v0, v1] sk st Q) := am_gu.trans rfl
theorem u5003_12 {v0 : Value} {x : Int32} : am_g d X am_m5003 12 [v0, .int x] sk st Q = am_g d X am_m5003 13 [v0, .int x] (.int x :: sk) st Q := am_gu.trans rfl
theorem u5003_13 {v0 : Value} {v1 : Value} : am_g d X am_m5003 13 [v0, v1] sk st Q = am_g d X am_m5003 15 [v0, v1] (.int (am_i 60) :: sk) st Q := am_gu.trans rfl
theorem u5003_15 {v0 : Value} {v1 : Value} {x : Int32} {y : Int32} : am_g d X am_m5003 15 [v0, v1] (.int y :: .int x :: sk) st Q = (if decide (y ≤ x) = true then am_g d X am_m5003 22 [v0, v1] sk st Q else am_g d X am_m5003 18 [v0, v1] sk st Q) := am_gu.trans rfl
theorem u5003_18 {v0 : Value} {v1 : Value} : am_g d X am_m5003 18 [v0, v1] sk st Q = am_g d X am_m5003 19 [v0, v1] (.int (am_i 1) :: sk) st Q := am_gu.trans rfl
theorem u5003_19 {v0 : Value} {v1 : Value} : am_g d X am_m5003 19 [v0, v1] sk st Q = am_g d X am_m5003 23 [v0, v1] sk st Q := am_gu.trans rfl
theorem u5003_22 {v0 : Value} {v1 : Value} : am_g d X am_m5003 22 [v0, v1] sk st Q = am_g d X am_m5003 23 [v0, v1] (.int (am_i 0) :: sk) st Q := am_gu.trans rfl
theorem u5003_23 {v0 : Value} {v1 : Value} {x : Int32} : am_g d X am_m5003 23 [v0, v1] [.int x] st Q = ((x = 0 ∨ x = 1) ∧ Q (.inl (some (.int x))) st) := am_gu.trans rfl
set_option maxRecDepth 100000 in
theorem of_5004 : am_of 5004 = some am_m5004 := rfl
theorem c5004 {z} {P : am_Q} : am_Ca X (d + 1) 5004 [.ref z] st P = am_g d X am_m5004 0 [.ref z] [] st P := am_cg of_5004 (by show 1 ≤ 1; decide)
theorem hd_5004 : am_hd am_m5004 = [] := rfl
theorem u5004_0 {x : Nat} : am_g d X am_m5004 0 [.ref x] sk st Q = am_g d X am_m5004 1 [.ref x] (.ref x :: sk) st Q := am_gu.trans rfl
theorem u5004_1 {v0 : Value} : am_g d X am_m5004 1 [v0] sk st Q = am_gt 160 4 [v0] sk st (fun pc lc sk st => am_g d X am_m5004 pc lc sk st Q) := am_gu.trans rfl
theorem u5004_4 {v0 : Value} : am_g d X am_m5004 4 [v0] sk st Q = am_g d X am_m5004 6 [v0] (.int (am_i 60) :: sk) st Q := am_gu.trans rfl
theorem u5004_6 {v0 : Value} {x : Int32} {y : Int32} : am_g d X am_m5004 6 [v0] (.int y :: .int x :: sk) st Q = (if decide (y ≤ x) = true then am_g d X am_m5004 13 [v0] sk st Q else am_g d X am_m5004 9 [v0] sk st Q) := am_gu.trans rfl
theorem u5004_9 {v0 : Value} : am_g d X am_m5004 9 [v0] sk st Q = am_g d X am_m5004 10 [v0] (.int (am_i 1) :: sk) st Q := am_gu.trans rfl
theorem u5004_10 {v0 : Value} : am_g d X am_m5004 10 [v0] sk st Q = am_g d X am_m5004 14 [v0] sk st Q := am_gu.trans rfl
theorem u5004_13 {v0 : Value} : am_g d X am_m5004 13 [v0] sk st Q = am_g d X am_m5004 14 [v0] (.int (am_i 0) :: sk) st Q := am_gu.trans rfl
theorem u5004_14 {v0 : Value} {x : Int32} : am_g d X am_m5004 14 [v0] [.int x] st Q = ((x = 0 ∨ x = 1) ∧ Q (.inl (some (.int x))) st) := am_gu.trans rfl
set_option maxRecDepth 100000 in
theorem of_5005 : am_of 5005 = some am_m5005 := rfl
theorem c5005 {z a0} {P : am_Q} : am_Ca X (d + 1) 5005 [.ref z, .int a0] st P = am_g d X am_m5005 0 [.ref z, .int a0] [] st P := am_cg of_5005 (by show 2 ≤ 2; decide)
theorem hd_5005 : am_hd am_m5005 = [] := rfl
theorem u5005_0 {v0 : Value} {x : Int32} : am_g d X am_m5005 0 [v0, .int x] sk st Q = am_g d X am_m5005 1 [v0, .int x] (.int x :: sk) st Q := am_gu.trans rfl
theorem u5005_1 {v0 : Value} {v1 : Value} {x : Int32} : am_g d X am_m5005 1 [v0, v1] (.int x :: sk) st Q = (if decide (x < 0) = true then am_g d X am_m5005 27 [v0, v1] sk st Q else am_g d X am_m5005 4 [v0, v1] sk st Q) := am_gu.trans rfl
theorem u5005_4 {v0 : Value} {x : Int32} : am_g d X am_m5005 4 [v0, .int x] sk st Q = am_g d X am_m5005 5 [v0, .int x] (.int x :: sk) st Q := am_gu.trans rfl
theorem u5005_5 {v1 : Value} {x : Nat} : am_g d X am_m5005 5 [.ref x, v1] sk st Q = am_g d X am_m5005 6 [.ref x, v1] (.ref x :: sk) st Q := am_gu.trans rfl
theorem u5005_6 {v0 : Value} {v1 : Value} : am_g d X am_m5005 6 [v0, v1] sk st Q = am_gt 160 9 [v0, v1] sk st (fun pc lc sk st => am_g d X am_m5005 pc lc sk st Q) := am_gu.trans rfl
theorem u5005_9 {v0 : Value} {v1 : Value} {x : Int32} {y : Int32} : am_g d X am_m5005 9 [v0, v1] (.int y :: .int x :: sk) st Q = (if decide (y ≤ x) = true then am_g d X am_m5005 27 [v0, v1] sk st Q else am_g d X am_m5005 12 [v0, v1] sk st Q) := am_gu.trans rfl
theorem u5005_12 {v0 : Value} {x : Int32} : am_g d X am_m5005 12 [v0, .int x] sk st Q = am_g d X am_m5005 13 [v0, .int x] (.int x :: sk) st Q := am_gu.trans rfl
theorem u5005_13 {v0 : Value} {v1 : Value} : am_g d X am_m5005 13 [v0, v1] sk st Q = am_g d X am_m5005 15 [v0, v1] (.int (am_i 60) :: sk) st Q := am_gu.trans rfl
theorem u5005_15 {v0 : Value} {v1 : Value} {x : Int32} {y : Int32} : am_g d X am_m5005 15 [v0, v1] (.int y :: .int x :: sk) st Q = (if decide (y ≤ x) = true then am_g d X am_m5005 27 [v0, v1] sk st Q else am_g d X am_m5005 18 [v0, v1] sk st Q) := am_gu.trans rfl
theorem u5005_18 {v1 : Value} {x : Nat} : am_g d X am_m5005 18 [.ref x, v1] sk st Q = am_g d X am_m5005 19 [.ref x, v1] (.ref x :: sk) st Q := am_gu.trans rfl
theorem u5005_19 {v0 : Value} {v1 : Value} : am_g d X am_m5005 19 [v0, v1] sk st Q = am_gt 161 22 [v0, v1] sk st (fun pc lc sk st => am_g d X am_m5005 pc lc sk st Q) := am_gu.trans rfl
theorem u5005_22 {v0 : Value} {x : Int32} : am_g d X am_m5005 22 [v0, .int x] sk st Q = am_g d X am_m5005 23 [v0, .int x] (.int x :: sk) st Q := am_gu.trans rfl
theorem u5005_23 {v0 : Value} {v1 : Value} : am_g d X am_m5005 23 [v0, v1] sk st Q = am_xl (X.1, X.2.1, d) am_m5005 24 [v0, v1] sk st (fun pc lc sk st => am_g d X am_m5005 pc lc sk st Q) := am_gu.trans rfl
theorem u5005_24 {v0 : Value} {v1 : Value} : am_g d X am_m5005 24 [v0, v1] sk st Q = am_g d X am_m5005 28 [v0, v1] sk st Q := am_gu.trans rfl
theorem u5005_27 {v0 : Value} {v1 : Value} : am_g d X am_m5005 27 [v0, v1] sk st Q = am_g d X am_m5005 28 [v0, v1] (.int (am_i (-1)) :: sk) st Q := am_gu.trans rfl
theorem u5005_28 {v0 : Value} {v1 : Value} {x : Int32} : am_g d X am_m5005 28 [v0, v1] [.int x] st Q = Q (.inl (some (.int x))) st := am_gu.trans rfl
set_option maxRecDepth 100000 in
theorem of_5006 : am_of 5006 = some am_m5006 := rfl
theorem c5006 {z a0} {P : am_Q} : am_Ca X (d + 1) 5006 [.ref z, .int a0] st P = am_g d X am_m5006 0 [.ref z, .int a0] [] st P := am_cg of_5006 (by show 2 ≤ 2; decide)
theorem hd_5006 : am_hd am_m5006 = [] := rfl
theorem u5006_0 {v0 : Value} {x : Int32} : am_g d X am_m5006 0 [v0, .int x] sk st Q = am_g d X am_m5006 1 [v0, .int x] (.int x :: sk) st Q := am_gu.trans rfl
theorem u5006_1 {v0 : Value} {v1 : Value} {x : Int32} : am_g d X am_m5006 1 [v0, v1] (.int x :: sk) st Q = (if decide (x < 0) = true then am_g d X am_m5006 27 [v0, v1] sk st Q else am_g d X am_m5006 4 [v0, v1] sk st Q) := am_gu.trans rfl
theorem u5006_4 {v0 : Value} {x : Int32} : am_g d X am_m5006 4 [v0, .int x] sk st Q = am_g d X am_m5006 5 [v0, .int x] (.int x :: sk) st Q := am_gu.trans rfl
theorem u5006_5 {v1 : Value} {x : Nat} : am_g d X am_m5006 5 [.ref x, v1] sk st Q = am_g d X am_m5006 6 [.ref x, v1] (.ref x :: sk) st Q := am_gu.trans rfl
theorem u5006_6 {v0 : Value} {v1 : Value} : am_g d X am_m5006 6 [v0, v1] sk st Q = am_gt 160 9 [v0, v1] sk st (fun pc lc sk st => am_g d X am_m5006 pc lc sk st Q) := am_gu.trans rfl
theorem u5006_9 {v0 : Value} {v1 : Value} {x : Int32} {y : Int32} : am_g d X am_m5006 9 [v0, v1] (.int y :: .int x :: sk) st Q = (if decide (y ≤ x) = true then am_g d X am_m5006 27 [v0, v1] sk st Q else am_g d X am_m5006 12 [v0, v1] sk st Q) := am_gu.trans rfl
theorem u5006_12 {v0 : Value} {x : Int32} : am_g d X am_m5006 12 [v0, .int x] sk st Q = am_g d X am_m5006 13 [v0, .int x] (.int x :: sk) st Q := am_gu.trans rfl
theorem u5006_13 {v0 : Value} {v1 : Value} : am_g d X am_m5006 13 [v0, v1] sk st Q = am_g d X am_m5006 15 [v0, v1] (.int (am_i 60) :: sk) st Q := am_gu.trans rfl
theorem u5006_15 {v0 : Value} {v1 : Value} {x : Int32} {y : Int32} : am_g d X am_m5006 15 [v0, v1] (.int y :: .int x :: sk) st Q = (if decide (y ≤ x) = true then am_g d X am_m5006 27 [v0, v1] sk st Q else am_g d X am_m5006 18 [v0, v1] sk st Q) := am_gu.trans rfl
theorem u5006_18 {v1 : Value} {x : Nat} : am_g d X am_m5006 18 [.ref x, v1] sk st Q = am_g d X am_m5006 19 [.ref x, v1] (.ref x :: sk) st Q := am_gu.trans rfl
theorem u5006_19 {v0 : Value} {v1 : Value} : am_g d X am_m5006 19 [v0, v1] sk st Q = am_gt 162 22 [v0, v1] sk st (fun pc lc sk st => am_g d X am_m5006 pc lc sk st Q) := am_gu.trans rfl
theorem u5006_22 {v0 : Value} {x : Int32} : am_g d X am_m5006 22 [v0, .int x] sk st Q = am_g d X am_m5006 23 [v0, .int x] (.int x :: sk) st Q := am_gu.trans rfl
theorem u5006_23 {v0 : Value} {v1 : Value} : am_g d X am_m5006 23 [v0, v1] sk st Q = am_xl (X.1, X.2.1, d) am_m5006 24 [v0, v1] sk st (fun pc lc sk st => am_g d X am_m5006 pc lc sk st Q) := am_gu.trans rfl
theorem u5006_24 {v0 : Value} {v1 : Value} : am_g d X am_m5006 24 [v0, v1] sk st Q = am_g d X am_m5006 28 [v0, v1] sk st Q := am_gu.trans rfl
theorem u5006_27 {v0 : Value} {v1 : Value} : am_g d X am_m5006 27 [v0, v1] sk st Q = am_g d X am_m5006 28 [v0, v1] (.int (am_i (-1)) :: sk) st Q := am_gu.trans rfl
theorem u5006_28 {v0 : Value} {v1 : Value} {x : Int32} : am_g d X am_m5006 28 [v0, v1] [.int x] st Q = Q (.inl (some (.int x))) st := am_gu.trans rfl
set_option maxRecDepth 100000 in
theorem of_5007 : am_of 5007 = some am_m5007 := rfl
theorem c5007 {z a0 a1} {P : am_Q} : am_Ca X (d + 1) 5007 [.ref z, .int a0, .int a1] st P = am_g d X am_m5007 0 [.ref z, .int a0, .int a1, am_u] [] st P := am_cg of_5007 (by show 3 ≤ 4; decide)
theorem hd_5007 : am_hd am_m5007 = [] := rfl
theorem u5007_0 {v0 : Value} {v2 : Value} {v3 : Value} {x : Int32} : am_g d X am_m5007 0 [v0, .int x, v2, v3] sk st Q = am_g d X am_m5007 1 [v0, .int x, v2, v3] (.int x :: sk) st Q := am_gu.trans rfl
theorem u5007_1 {v0 : Value} {v1 : Value} {v2 : Value} {v3 : Value} {x : Int32} : am_g d X am_m5007 1 [v0, v1, v2, v3] (.int x :: sk) st Q = (if decide (x < 0) = true then am_g d X am_m5007 24 [v0, v1, v2, v3] sk st Q else am_g d X am_m5007 4 [v0, v1, v2, v3] sk st Q) := am_gu.trans rfl
theorem u5007_4 {v0 : Value} {v2 : Value} {v3 : Value} {x : Int32} : am_g d X am_m5007 4 [v0, .int x, v2, v3] sk st Q = am_g d X am_m5007 5 [v0, .int x, v2, v3] (.int x :: sk) st Q := am_gu.trans rfl
theorem u5007_5 {v0 : Value} {v1 : Value} {v2 : Value} {v3 : Value} : am_g d X am_m5007 5 [v0, v1, v2, v3] sk st Q = am_g d X am_m5007 7 [v0, v1, v2, v3] (.int (am_i 60) :: sk) st Q := am_gu.trans rfl
theorem u5007_7 {v0 : Value} {v1 : Value} {v2 : Value} {v3 : Value} {x : Int32} {y : Int32} : am_g d X am_m5007 7 [v0, v1, v2, v3] (.int y :: .int x :: sk) st Q = (if decide (y ≤ x) = true then am_g d X am_m5007 24 [v0, v1, v2, v3] sk st Q else am_g d X am_m5007 10 [v0, v1, v2, v3] sk st Q) := am_gu.trans rfl
theorem u5007_10 {v0 : Value} {v1 : Value} {v3 : Value} {x : Int32} : am_g d X am_m5007 10 [v0, v1, .int x, v3] sk st Q = am_g d X am_m5007 11 [v0, v1, .int x, v3] (.int x :: sk) st Q := am_gu.trans rfl
theorem u5007_11 {v0 : Value} {v1 : Value} {v2 : Value} {v3 : Value} {x : Int32} : am_g d X am_m5007 11 [v0, v1, v2, v3] (.int x :: sk) st Q = (if decide (x < 0) = true then am_g d X am_m5007 24 [v0, v1, v2, v3] sk st Q else am_g d X am_m5007 14 [v0, v1, v2, v3] sk st Q) := am_gu.trans rfl
theorem u5007_14 {v0 : Value} {v1 : Value} {v3 : Value} {x : Int32} : am_g d X am_m5007 14 [v0, v1, .int x, v3] sk st Q = am_g d X am_m5007 15 [v0, v1, .int x, v3] (.int x :: sk) st Q := am_gu.trans rfl
theorem u5007_15 {v0 : Value} {v1 : Value} {v2 : Value} {v3 : Value} : am_g d X am_m5007 15 [v0, v1, v2, v3] sk st Q = am_g d X am_m5007 17 [v0, v1, v2, v3] (.int (am_i 24) :: sk) st Q := am_gu.trans rfl
theorem u5007_17 {v0 : Value} {v1 : Value} {v2 : Value} {v3 : Value} {x : Int32} {y : Int32} : am_g d X am_m5007 17 [v0, v1, v2, v3] (.int y :: .int x :: sk) st Q = (if decide (y ≤ x) = true then am_g d X am_m5007 24 [v0, v1, v2, v3] sk st Q else am_g d X am_m5007 20 [v0, v1, v2, v3] sk st Q) := am_gu.trans rfl
theorem u5007_20 {v0 : Value} {v1 : Value} {v2 : Value} {v3 : Value} : am_g d X am_m5007 20 [v0, v1, v2, v3] sk st Q = am_g d X am_m5007 21 [v0, v1, v2, v3] (.int (am_i 1) :: sk) st Q := am_gu.trans rfl
theorem u5007_21 {v0 : Value} {v1 : Value} {v2 : Value} {v3 : Value} : am_g d X am_m5007 21 [v0, v1, v2, v3] sk st Q = am_g d X am_m5007 25 [v0, v1, v2, v3] sk st Q := am_gu.trans rfl
theorem u5007_24 {v0 : Value} {v1 : Value} {v2 : Value} {v3 : Value} : am_g d X am_m5007 24 [v0, v1, v2, v3] sk st Q = am_g d X am_m5007 25 [v0, v1, v2, v3] (.int (am_i 0) :: sk) st Q := am_gu.trans rfl
theorem u5007_25 {v0 : Value} {v1 : Value} {v2 : Value} {v3 : Value} {x : Int32} : am_g d X am_m5007 25 [v0, v1, v2, v3] (.int x :: sk) st Q = am_g d X am_m5007 26 [v0, v1, am_kc v2, .int x] sk st Q := am_gu.trans (congrArg (fun l => am_g d X am_m5007 26 (List.set l 3 (.int x)) sk st Q) (kl_3 (l := [v3])))
theorem u5007_26 {v0 : Value} {v1 : Value} {v2 : Value} {x : Int32} : am_g d X am_m5007 26 [v0, v1, v2, .int x] sk st Q = am_g d X am_m5007 27 [v0, v1, v2, .int x] (.int x :: sk) st Q := am_gu.trans rfl
theorem u5007_27 {v0 : Value} {v1 : Value} {v2 : Value} {v3 : Value} {x : Int32} : am_g d X am_m5007 27 [v0, v1, v2, v3] (.int x :: sk) st Q = (if decide (x = 0) = true then am_g d X am_m5007 44 [v0, v1, v2, v3] sk st Q else am_g d X am_m5007 30 [v0, v1, v2, v3] sk st Q) := am_gu.trans rfl
theorem u5007_30 {v1 : Value} {v2 : Value} {v3 : Value} {x : Nat} : am_g d X am_m5007 30 [.ref x, v1, v2, v3] sk st Q = am_g d X am_m5007 31 [.ref x, v1, v2, v3] (.ref x :: sk) st Q := am_gu.trans rfl
theorem u5007_31 {v0 : Value} {v1 : Value} {v2 : Value} {v3 : Value} : am_g d X am_m5007 31 [v0, v1, v2, v3] sk st Q = am_gt 163 34 [v0, v1, v2, v3] sk st (fun pc lc sk st => am_g d X am_m5007 pc lc sk st Q) := am_gu.trans rfl
theorem u5007_34 {v0 : Value} {v2 : Value} {v3 : Value} {x : Int32} : am_g d X am_m5007 34 [v0, .int x, v2, v3] sk st Q = am_g d X am_m5007 35 [v0, .int x, v2, v3] (.int x :: sk) st Q := am_gu.trans rfl
theorem u5007_35 {v0 : Value} {v1 : Value} {v2 : Value} {v3 : Value} : am_g d X am_m5007 35 [v0, v1, v2, v3] sk st Q = am_g d X am_m5007 37 [v0, v1, v2, v3] (.int (am_i 24) :: sk) st Q := am_gu.trans rfl
theorem u5007_37 {v0 : Value} {v1 : Value} {v2 : Value} {v3 : Value} {x : Int32} {y : Int32} : am_g d X am_m5007 37 [v0, v1, v2, v3] (.int y :: .int x :: sk) st Q = am_g d X am_m5007 38 [v0, v1, v2, v3] (.int (x * y) :: sk) st Q := am_gu.trans rfl
theorem u5007_38 {v0 : Value} {v1 : Value} {v3 : Value} {x : Int32} : am_g d X am_m5007 38 [v0, v1, .int x, v3] sk st Q = am_g d X am_m5007 39 [v0, v1, .int x, v3] (.int x :: sk) st Q := am_gu.trans rfl
theorem u5007_39 {v0 : Value} {v1 : Value} {v2 : Value} {v3 : Value} {x : Int32} {y : Int32} : am_g d X am_m5007 39 [v0, v1, v2, v3] (.int y :: .int x :: sk) st Q = am_g d X am_m5007 40 [v0, v1, v2, v3] (.int (x + y) :: sk) st Q := am_gu.trans rfl
theorem u5007_40 {v0 : Value} {v1 : Value} {v2 : Value} {v3 : Value} : am_g d X am_m5007 40 [v0, v1, v2, v3] sk st Q = am_xl (X.1, X.2.1, d) am_m5007 41 [v0, v1, v2, v3] sk st (fun pc lc sk st => am_g d X am_m5007 pc lc sk st Q) := am_gu.trans rfl
theorem u5007_41 {v0 : Value} {v1 : Value} {v2 : Value} {v3 : Value} : am_g d X am_m5007 41 [v0, v1, v2, v3] sk st Q = am_g d X am_m5007 45 [v0, v1, v2, v3] sk st Q := am_gu.trans rfl
theorem u5007_44 {v0 : Value} {v1 : Value} {v2 : Value} {v3 : Value} : am_g d X am_m5007 44 [v0, v1, v2, v3] sk st Q = am_g d X am_m5007 45 [v0, v1, v2, v3] (.int (am_i 0) :: sk) st Q := am_gu.trans rfl
theorem u5007_45 {v0 : Value} {v1 : Value} {v2 : Value} {v3 : Value} {x : Int32} : am_g d X am_m5007 45 [v0, v1, v2, v3] [.int x] st Q = Q (.inl (some (.int x))) st := am_gu.trans rfl
set_option maxRecDepth 100000 in
theorem of_5008 : am_of 5008 = some am_m5008 := rfl
theorem c5008 {z a0 a1} {P : am_Q} : am_Ca X (d + 1) 5008 [.ref z, .int a0, .ref a1] st P = am_g d X am_m5008 0 [.ref z, .int a0, .ref a1] [] st P := am_cg of_5008 (by show 3 ≤ 3; decide)
theorem hd_5008 : am_hd am_m5008 = [] := rfl
theorem u5008_0 {v0 : Value} {v2 : Value} {x : Int32} : am_g d X am_m5008 0 [v0, .int x, v2] sk st Q = am_g d X am_m5008 1 [v0, .int x, v2] (.int x :: sk) st Q := am_gu.trans rfl
theorem u5008_1 {v0 : Value} {v1 : Value} {v2 : Value} {x : Int32} : am_g d X am_m5008 1 [v0, v1, v2] (.int x :: sk) st Q = (if decide (x < 0) = true then am_g d X am_m5008 32 [v0, v1, v2] sk st Q else am_g d X am_m5008 4 [v0, v1, v2] sk st Q) := am_gu.trans rfl
theorem u5008_4 {v0 : Value} {v2 : Value} {x : Int32} : am_g d X am_m5008 4 [v0, .int x, v2] sk st Q = am_g d X am_m5008 5 [v0, .int x, v2] (.int x :: sk) st Q := am_gu.trans rfl
theorem u5008_5 {v0 : Value} {v1 : Value} {v2 : Value} : am_g d X am_m5008 5 [v0, v1, v2] sk st Q = am_g d X am_m5008 7 [v0, v1, v2] (.int (am_i 60) :: sk) st Q := am_gu.trans rfl
theorem u5008_7 {v0 : Value} {v1 : Value} {v2 : Value} {x : Int32} {y : Int32} : am_g d X am_m5008 7 [v0, v1, v2] (.int y :: .int x :: sk) st Q = (if decide (y ≤ x) = true then am_g d X am_m5008 32 [v0, v1, v2] sk st Q else am_g d X am_m5008 10 [v0, v1, v2] sk st Q) := am_gu.trans rfl
theorem u5008_10 {v0 : Value} {v1 : Value} {x : Nat} : am_g d X am_m5008 10 [v0, v1, .ref x] sk st Q = am_g d X am_m5008 11 [v0, v1, .ref x] (.ref x :: sk) st Q := am_gu.trans rfl
theorem u5008_11 {v0 : Value} {v1 : Value} {v2 : Value} : am_g d X am_m5008 11 [v0, v1, v2] sk st Q = am_al (X.1, X.2.1, d) am_m5008 12 [v0, v1, v2] sk st (fun pc lc sk st => am_g d X am_m5008 pc lc sk st Q) := am_gu.trans rfl
theorem u5008_12 {v0 : Value} {v1 : Value} {v2 : Value} : am_g d X am_m5008 12 [v0, v1, v2] sk st Q = am_g d X am_m5008 14 [v0, v1, v2] (.int (am_i 24) :: sk) st Q := am_gu.trans rfl
theorem u5008_14 {v0 : Value} {v1 : Value} {v2 : Value} {x : Int32} {y : Int32} : am_g d X am_m5008 14 [v0, v1, v2] (.int y :: .int x :: sk) st Q = (if decide (x < y) = true then am_g d X am_m5008 32 [v0, v1, v2] sk st Q else am_g d X am_m5008 17 [v0, v1, v2] sk st Q) := am_gu.trans rfl
theorem u5008_17 {v1 : Value} {v2 : Value} {x : Nat} : am_g d X am_m5008 17 [.ref x, v1, v2] sk st Q = am_g d X am_m5008 18 [.ref x, v1, v2] (.ref x :: sk) st Q := am_gu.trans rfl
theorem u5008_18 {v0 : Value} {v1 : Value} {v2 : Value} : am_g d X am_m5008 18 [v0, v1, v2] sk st Q = am_gt 163 21 [v0, v1, v2] sk st (fun pc lc sk st => am_g d X am_m5008 pc lc sk st Q) := am_gu.trans rfl
theorem u5008_21 {v0 : Value} {v2 : Value} {x : Int32} : am_g d X am_m5008 21 [v0, .int x, v2] sk st Q = am_g d X am_m5008 22 [v0, .int x, v2] (.int x :: sk) st Q := am_gu.trans rfl
theorem u5008_22 {v0 : Value} {v1 : Value} {v2 : Value} : am_g d X am_m5008 22 [v0, v1, v2] sk st Q = am_g d X am_m5008 24 [v0, v1, v2] (.int (am_i 24) :: sk) st Q := am_gu.trans rfl
theorem u5008_24 {v0 : Value} {v1 : Value} {v2 : Value} {x : Int32} {y : Int32} : am_g d X am_m5008 24 [v0, v1, v2] (.int y :: .int x :: sk) st Q = am_g d X am_m5008 25 [v0, v1, v2] (.int (x * y) :: sk) st Q := am_gu.trans rfl
theorem u5008_25 {v0 : Value} {v1 : Value} {x : Nat} : am_g d X am_m5008 25 [v0, v1, .ref x] sk st Q = am_g d X am_m5008 26 [v0, v1, .ref x] (.ref x :: sk) st Q := am_gu.trans rfl
theorem u5008_26 {v0 : Value} {v1 : Value} {v2 : Value} : am_g d X am_m5008 26 [v0, v1, v2] sk st Q = am_g d X am_m5008 27 [v0, v1, v2] (.int (am_i 0) :: sk) st Q := am_gu.trans rfl
theorem u5008_27 {v0 : Value} {v1 : Value} {v2 : Value} : am_g d X am_m5008 27 [v0, v1, v2] sk st Q = am_g d X am_m5008 29 [v0, v1, v2] (.int (am_i 24) :: sk) st Q := am_gu.trans rfl
theorem u5008_29 {v0 : Value} {v1 : Value} {v2 : Value} : am_g d X am_m5008 29 [v0, v1, v2] sk st Q = am_cp 32 [v0, v1, v2] sk st (fun pc lc sk st => am_g d X am_m5008 pc lc sk st Q) := am_gu.trans rfl
theorem u5008_32 {v0 : Value} {v1 : Value} {v2 : Value} : am_g d X am_m5008 32 [v0, v1, v2] [] st Q = Q (.inl none) st := am_gu.trans rfl
set_option maxRecDepth 100000 in
theorem of_5009 : am_of 5009 = some am_m5009 := rfl
theorem c5009 {z a0 a1} {P : am_Q} : am_Ca X (d + 1) 5009 [.ref z, .int a0, .int a1] st P = am_g d X am_m5009 0 [.ref z, .int a0, .int a1, am_u, am_u] [] st P := am_cg of_5009 (by show 3 ≤ 5; decide)
theorem hd_5009 : am_hd am_m5009 = [] := rfl
theorem u5009_0 {v0 : Value} {v1 : Value} {v2 : Value} {v3 : Value} {v4 : Value} : am_g d X am_m5009 0 [v0, v1, v2, v3, v4] sk st Q = am_g d X am_m5009 1 [v0, v1, v2, v3, v4] (.int (am_i 0) :: sk) st Q := am_gu.trans rfl
theorem u5009_1 {v0 : Value} {v1 : Value} {v2 : Value} {v3 : Value} {v4 : Value} {x : Int32} : am_g d X am_m5009 1 [v0, v1, v2, v3, v4] (.int x :: sk) st Q = am_g d X am_m5009 2 [v0, v1, am_kc v2, .int x, v4] sk st Q := am_gu.trans (congrArg (fun l => am_g d X am_m5009 2 (List.set l 3 (.int x)) sk st Q) (kl_3 (l := [v3, v4])))
theorem u5009_2 {v0 : Value} {v1 : Value} {v2 : Value} {v3 : Value} {v4 : Value} : am_g d X am_m5009 2 [v0, v1, v2, v3, v4] sk st Q = am_g d X am_m5009 3 [v0, v1, v2, v3, v4] (.int (am_i 0) :: sk) st Q := am_gu.trans rfl
theorem u5009_3 {v0 : Value} {v1 : Value} {v2 : Value} {v3 : Value} {v4 : Value} {x : Int32} : am_g d X am_m5009 3 [v0, v1, v2, v3, v4] (.int x :: sk) st Q = am_g d X am_m5009 5 [v0, v1, v2, am_kc v3, .int x] sk st Q := am_gu.trans (congrArg (fun l => am_g d X am_m5009 5 (List.set l 4 (.int x)) sk st Q) (kl_4 (l := [v4])))
theorem u5009_5 {v0 : Value} {v1 : Value} {v2 : Value} {v3 : Value} {x : Int32} : am_g d X am_m5009 5 [v0, v1, v2, v3, .int x] sk st Q = am_g d X am_m5009 7 [v0, v1, v2, v3, .int x] (.int x :: sk) st Q := am_gu.trans rfl
theorem u5009_7 {v0 : Value} {v1 : Value} {v2 : Value} {v3 : Value} {v4 : Value} : am_g d X am_m5009 7 [v0, v1, v2, v3, v4] sk st Q = am_g d X am_m5009 9 [v0, v1, v2, v3, v4] (.int (am_i 24) :: sk) st Q := am_gu.trans rfl
theorem u5009_9 {v0 : Value} {v1 : Value} {v2 : Value} {v3 : Value} {v4 : Value} {x : Int32} {y : Int32} : am_g d X am_m5009 9 [v0, v1, v2, v3, v4] (.int y :: .int x :: sk) st Q = (if decide (y ≤ x) = true then am_g d X am_m5009 38 [v0, v1, v2, v3, v4] sk st Q else am_g d X am_m5009 12 [v0, v1, v2, v3, v4] sk st Q) := am_gu.trans rfl
theorem u5009_12 {v1 : Value} {v2 : Value} {v3 : Value} {v4 : Value} {x : Nat} : am_g d X am_m5009 12 [.ref x, v1, v2, v3, v4] sk st Q = am_g d X am_m5009 13 [.ref x, v1, v2, v3, v4] (.ref x :: sk) st Q := am_gu.trans rfl
theorem u5009_13 {v0 : Value} {v2 : Value} {v3 : Value} {v4 : Value} {x : Int32} : am_g d X am_m5009 13 [v0, .int x, v2, v3, v4] sk st Q = am_g d X am_m5009 14 [v0, .int x, v2, v3, v4] (.int x :: sk) st Q := am_gu.trans rfl
theorem u5009_14 {v0 : Value} {v1 : Value} {v2 : Value} {v3 : Value} {x : Int32} : am_g d X am_m5009 14 [v0, v1, v2, v3, .int x] sk st Q = am_g d X am_m5009 16 [v0, v1, v2, v3, .int x] (.int x :: sk) st Q := am_gu.trans rfl
theorem u5009_16 {a0 : Value} {a1 : Value} {v0 : Value} {v1 : Value} {v2 : Value} {v3 : Value} {v4 : Value} : am_g d X am_m5009 16 [v0, v1, v2, v3, v4] (a1 :: a0 :: .ref o :: sk) st Q = ((am_ob st o 5 ∧ sk.length ≤ 4) ∧ am_Ca X d 5007 [.ref o, a0, a1] st (am_af am_m5009 16 [v0, v1, v2, v3, v4] sk (fun pc lc sk st => am_g d X am_m5009 pc lc sk st Q) Q)) := am_gu.trans rfl
theorem u5009_19 {v1 : Value} {v2 : Value} {v3 : Value} {v4 : Value} {x : Nat} : am_g d X am_m5009 19 [.ref x, v1, v2, v3, v4] sk st Q = am_g d X am_m5009 20 [.ref x, v1, v2, v3, v4] (.ref x :: sk) st Q := am_gu.trans rfl
theorem u5009_20 {v0 : Value} {v1 : Value} {v3 : Value} {v4 : Value} {x : Int32} : am_g d X am_m5009 20 [v0, v1, .int x, v3, v4] sk st Q = am_g d X am_m5009 21 [v0, v1, .int x, v3, v4] (.int x :: sk) st Q := am_gu.trans rfl
theorem u5009_21 {v0 : Value} {v1 : Value} {v2 : Value} {v3 : Value} {x : Int32} : am_g d X am_m5009 21 [v0, v1, v2, v3, .int x] sk st Q = am_g d X am_m5009 23 [v0, v1, v2, v3, .int x] (.int x :: sk) st Q := am_gu.trans rfl
theorem u5009_23 {a0 : Value} {a1 : Value} {v0 : Value} {v1 : Value} {v2 : Value} {v3 : Value} {v4 : Value} : am_g d X am_m5009 23 [v0, v1, v2, v3, v4] (a1 :: a0 :: .ref o :: sk) st Q = ((am_ob st o 5 ∧ sk.length ≤ 4) ∧ am_Ca X d 5007 [.ref o, a0, a1] st (am_af am_m5009 23 [v0, v1, v2, v3, v4] sk (fun pc lc sk st => am_g d X am_m5009 pc lc sk st Q) Q)) := am_gu.trans rfl
theorem u5009_26 {v0 : Value} {v1 : Value} {v2 : Value} {v3 : Value} {v4 : Value} {x : Int32} {y : Int32} : am_g d X am_m5009 26 [v0, v1, v2, v3, v4] (.int y :: .int x :: sk) st Q = (if decide (x = y) = true then am_g d X am_m5009 32 [v0, v1, v2, v3, v4] sk st Q else am_g d X am_m5009 29 [v0, v1, v2, v3, v4] sk st Q) := am_gu.trans rfl
theorem u5009_29 {v0 : Value} {v1 : Value} {v2 : Value} {v4 : Value} {x : Int32} : am_g d X am_m5009 29 [v0, v1, v2, .int x, v4] sk st Q = am_g d X am_m5009 32 [v0, v1, am_kc v2, .int (x + am_i 1), v4] sk st Q := am_gu.trans (congrArg (fun l => am_g d X am_m5009 32 (List.set l 3 (.int (x + am_i 1))) sk st Q) (kl_3 (l := [.int x, v4])))
theorem u5009_32 {v0 : Value} {v1 : Value} {v2 : Value} {v3 : Value} {x : Int32} : am_g d X am_m5009 32 [v0, v1, v2, v3, .int x] sk st Q = am_g d X am_m5009 35 [v0, v1, v2, am_kc v3, .int (x + am_i 1)] sk st Q := am_gu.trans (congrArg (fun l => am_g d X am_m5009 35 (List.set l 4 (.int (x + am_i 1))) sk st Q) (kl_4 (l := [.int x])))
theorem u5009_35 {v0 : Value} {v1 : Value} {v2 : Value} {v3 : Value} {v4 : Value} : am_g d X am_m5009 35 [v0, v1, v2, v3, v4] sk st Q = am_g d X am_m5009 5 [v0, v1, v2, v3, v4] sk st Q := am_gu.trans rfl
theorem u5009_38 {v0 : Value} {v1 : Value} {v2 : Value} {v4 : Value} {x : Int32} : am_g d X am_m5009 38 [v0, v1, v2, .int x, v4] sk st Q = am_g d X am_m5009 39 [v0, v1, v2, .int x, v4] (.int x :: sk) st Q := am_gu.trans rfl
theorem u5009_39 {v0 : Value} {v1 : Value} {v2 : Value} {v3 : Value} {v4 : Value} {x : Int32} : am_g d X am_m5009 39 [v0, v1, v2, v3, v4] [.int x] st Q = Q (.inl (some (.int x))) st := am_gu.trans rfl
set_option maxRecDepth 100000 in
theorem of_5010 : am_of 5010 = some am_m5010 := rfl
theorem c5010 {z} {P : am_Q} : am_Ca X (d + 1) 5010 [.ref z] st P = am_g d X am_m5010 0 [.ref z, am_u, am_u] [] st P := am_cg of_5010 (by show 1 ≤ 3; decide)
theorem hd_5010 : am_hd am_m5010 = [] := rfl
theorem u5010_0 {v0 : Value} {v1 : Value} {v2 : Value} : am_g d X am_m5010 0 [v0, v1, v2] sk st Q = am_g d X am_m5010 1 [v0, v1, v2] (.int (am_i 0) :: sk) st Q := am_gu.trans rfl
theorem u5010_1 {v0 : Value} {v1 : Value} {v2 : Value} {x : Int32} : am_g d X am_m5010 1 [v0, v1, v2] (.int x :: sk) st Q = am_g d X am_m5010 2 [am_kc v0, .int x, v2] sk st Q := am_gu.trans (congrArg (fun l => am_g d X am_m5010 2 (List.set l 1 (.int x)) sk st Q) (kl_1 (l := [v1, v2])))
theorem u5010_2 {v0 : Value} {v1 : Value} {v2 : Value} : am_g d X am_m5010 2 [v0, v1, v2] sk st Q = am_g d X am_m5010 3 [v0, v1, v2] (.int (am_i 0) :: sk) st Q := am_gu.trans rfl
theorem u5010_3 {v0 : Value} {v1 : Value} {v2 : Value} {x : Int32} : am_g d X am_m5010 3 [v0, v1, v2] (.int x :: sk) st Q = am_g d X am_m5010 4 [v0, am_kc v1, .int x] sk st Q := am_gu.trans (congrArg (fun l => am_g d X am_m5010 4 (List.set l 2 (.int x)) sk st Q) (kl_2 (l := [v2])))
theorem u5010_4 {v0 : Value} {v1 : Value} {x : Int32} : am_g d X am_m5010 4 [v0, v1, .int x] sk st Q = am_g d X am_m5010 5 [v0, v1, .int x] (.int x :: sk) st Q := am_gu.trans rfl
theorem u5010_5 {v1 : Value} {v2 : Value} {x : Nat} : am_g d X am_m5010 5 [.ref x, v1, v2] sk st Q = am_g d X am_m5010 6 [.ref x, v1, v2] (.ref x :: sk) st Q := am_gu.trans rfl
theorem u5010_6 {v0 : Value} {v1 : Value} {v2 : Value} : am_g d X am_m5010 6 [v0, v1, v2] sk st Q = am_gt 160 9 [v0, v1, v2] sk st (fun pc lc sk st => am_g d X am_m5010 pc lc sk st Q) := am_gu.trans rfl
theorem u5010_9 {v0 : Value} {v1 : Value} {v2 : Value} {x : Int32} {y : Int32} : am_g d X am_m5010 9 [v0, v1, v2] (.int y :: .int x :: sk) st Q = (if decide (y ≤ x) = true then am_g d X am_m5010 30 [v0, v1, v2] sk st Q else am_g d X am_m5010 12 [v0, v1, v2] sk st Q) := am_gu.trans rfl
theorem u5010_12 {v1 : Value} {v2 : Value} {x : Nat} : am_g d X am_m5010 12 [.ref x, v1, v2] sk st Q = am_g d X am_m5010 13 [.ref x, v1, v2] (.ref x :: sk) st Q := am_gu.trans rfl
theorem u5010_13 {v0 : Value} {v1 : Value} {x : Int32} : am_g d X am_m5010 13 [v0, v1, .int x] sk st Q = am_g d X am_m5010 14 [v0, v1, .int x] (.int x :: sk) st Q := am_gu.trans rfl
theorem u5010_14 {a0 : Value} {v0 : Value} {v1 : Value} {v2 : Value} : am_g d X am_m5010 14 [v0, v1, v2] (a0 :: .ref o :: sk) st Q = ((am_ob st o 5 ∧ sk.length ≤ 4) ∧ am_Ca X d 5006 [.ref o, a0] st (am_af am_m5010 14 [v0, v1, v2] sk (fun pc lc sk st => am_g d X am_m5010 pc lc sk st Q) Q)) := am_gu.trans rfl
theorem u5010_17 {v0 : Value} {v1 : Value} {v2 : Value} : am_g d X am_m5010 17 [v0, v1, v2] sk st Q = am_g d X am_m5010 18 [v0, v1, v2] (.int (am_i (-1)) :: sk) st Q := am_gu.trans rfl
theorem u5010_18 {v0 : Value} {v1 : Value} {v2 : Value} {x : Int32} {y : Int32} : am_g d X am_m5010 18 [v0, v1, v2] (.int y :: .int x :: sk) st Q = (if decide (x = y) = true then am_g d X am_m5010 24 [v0, v1, v2] sk st Q else am_g d X am_m5010 21 [v0, v1, v2] sk st Q) := am_gu.trans rfl
theorem u5010_21 {v0 : Value} {v2 : Value} {x : Int32} : am_g d X am_m5010 21 [v0, .int x, v2] sk st Q = am_g d X am_m5010 24 [am_kc v0, .int (x + am_i 1), v2] sk st Q := am_gu.trans (congrArg (fun l => am_g d X am_m5010 24 (List.set l 1 (.int (x + am_i 1))) sk st Q) (kl_1 (l := [.int x, v2])))
theorem u5010_24 {v0 : Value} {v1 : Value} {x : Int32} : am_g d X am_m5010 24 [v0, v1, .int x] sk st Q = am_g d X am_m5010 27 [v0, am_kc v1, .int (x + am_i 1)] sk st Q := am_gu.trans (congrArg (fun l => am_g d X am_m5010 27 (List.set l 2 (.int (x + am_i 1))) sk st Q) (kl_2 (l := [.int x])))
theorem u5010_27 {v0 : Value} {v1 : Value} {v2 : Value} : am_g d X am_m5010 27 [v0, v1, v2] sk st Q = am_g d X am_m5010 4 [v0, v1, v2] sk st Q := am_gu.trans rfl
theorem u5010_30 {v0 : Value} {v2 : Value} {x : Int32} : am_g d X am_m5010 30 [v0, .int x, v2] sk st Q = am_g d X am_m5010 31 [v0, .int x, v2] (.int x :: sk) st Q := am_gu.trans rfl
theorem u5010_31 {v0 : Value} {v1 : Value} {v2 : Value} {x : Int32} : am_g d X am_m5010 31 [v0, v1, v2] [.int x] st Q = Q (.inl (some (.int x))) st := am_gu.trans rfl
set_option maxRecDepth 100000 in
theorem of_5011 : am_of 5011 = some am_m5011 := rfl
theorem c5011 {z a0 a1} {P : am_Q} : am_Ca X (d + 1) 5011 [.ref z, .int a0, .int a1] st P = am_g d X am_m5011 0 [.ref z, .int a0, .int a1, am_u, am_u, am_u] [] st P := am_cg of_5011 (by show 3 ≤ 6; decide)
theorem hd_5011 : am_hd am_m5011 = [] := rfl
theorem u5011_0 {v0 : Value} {v2 : Value} {v3 : Value} {v4 : Value} {v5 : Value} {x : Int32} : am_g d X am_m5011 0 [v0, .int x, v2, v3, v4, v5] sk st Q = am_g d X am_m5011 1 [v0, .int x, v2, v3, v4, v5] (.int x :: sk) st Q := am_gu.trans rfl
theorem u5011_1 {v0 : Value} {v1 : Value} {v2 : Value} {v3 : Value} {v4 : Value} {v5 : Value} {x : Int32} : am_g d X am_m5011 1 [v0, v1, v2, v3, v4, v5] (.int x :: sk) st Q = am_g d X am_m5011 2 [v0, v1, am_kc v2, .int x, v4, v5] sk st Q := am_gu.trans (congrArg (fun l => am_g d X am_m5011 2 (List.set l 3 (.int x)) sk st Q) (kl_3 (l := [v3, v4, v5])))
theorem u5011_2 {v0 : Value} {v1 : Value} {v2 : Value} {v3 : Value} {v4 : Value} {v5 : Value} : am_g d X am_m5011 2 [v0, v1, v2, v3, v4, v5] sk st Q = am_g d X am_m5011 3 [v0, v1, v2, v3, v4, v5] (.int (am_i 0) :: sk) st Q := am_gu.trans rfl
theorem u5011_3 {v0 : Value} {v1 : Value} {v2 : Value} {v3 : Value} {v4 : Value} {v5 : Value} {x : Int32} : am_g d X am_m5011 3 [v0, v1, v2, v3, v4, v5] (.int x :: sk) st Q = am_g d X am_m5011 5 [v0, v1, v2, am_kc v3, .int x, v5] sk st Q := am_gu.trans (congrArg (fun l => am_g d X am_m5011 5 (List.set l 4 (.int x)) sk st Q) (kl_4 (l := [v4, v5])))
theorem u5011_5 {v0 : Value} {v1 : Value} {v2 : Value} {v3 : Value} {v5 : Value} {x : Int32} : am_g d X am_m5011 5 [v0, v1, v2, v3, .int x, v5] sk st Q = am_g d X am_m5011 7 [v0, v1, v2, v3, .int x, v5] (.int x :: sk) st Q := am_gu.trans rfl
theorem u5011_7 {v0 : Value} {v1 : Value} {v2 : Value} {v3 : Value} {v4 : Value} {v5 : Value} : am_g d X am_m5011 7 [v0, v1, v2, v3, v4, v5] sk st Q = am_g d X am_m5011 9 [v0, v1, v2, v3, v4, v5] (.int (am_i 60) :: sk) st Q := am_gu.trans rfl
theorem u5011_9 {v0 : Value} {v1 : Value} {v2 : Value} {v3 : Value} {v4 : Value} {v5 : Value} {x : Int32} {y : Int32} : am_g d X am_m5011 9 [v0, v1, v2, v3, v4, v5] (.int y :: .int x :: sk) st Q = (if decide (y ≤ x) = true then am_g d X am_m5011 37 [v0, v1, v2, v3, v4, v5] sk st Q else am_g d X am_m5011 12 [v0, v1, v2, v3, v4, v5] sk st Q) := am_gu.trans rfl
theorem u5011_12 {v1 : Value} {v2 : Value} {v3 : Value} {v4 : Value} {v5 : Value} {x : Nat} : am_g d X am_m5011 12 [.ref x, v1, v2, v3, v4, v5] sk st Q = am_g d X am_m5011 13 [.ref x, v1, v2, v3, v4, v5] (.ref x :: sk) st Q := am_gu.trans rfl
theorem u5011_13 {v0 : Value} {v1 : Value} {v2 : Value} {v4 : Value} {v5 : Value} {x : Int32} : am_g d X am_m5011 13 [v0, v1, v2, .int x, v4, v5] sk st Q = am_g d X am_m5011 14 [v0, v1, v2, .int x, v4, v5] (.int x :: sk) st Q := am_gu.trans rfl
theorem u5011_14 {v0 : Value} {v1 : Value} {v3 : Value} {v4 : Value} {v5 : Value} {x : Int32} : am_g d X am_m5011 14 [v0, v1, .int x, v3, v4, v5] sk st Q = am_g d X am_m5011 15 [v0, v1, .int x, v3, v4, v5] (.int x :: sk) st Q := am_gu.trans rfl
theorem u5011_15 {a0 : Value} {a1 : Value} {v0 : Value} {v1 : Value} {v2 : Value} {v3 : Value} {v4 : Value} {v5 : Value} : am_g d X am_m5011 15 [v0, v1, v2, v3, v4, v5] (a1 :: a0 :: .ref o :: sk) st Q = ((am_ob st o 5 ∧ sk.length ≤ 4) ∧ am_Ca X d 5012 [.ref o, a0, a1] st (am_af am_m5011 15 [v0, v1, v2, v3, v4, v5] sk (fun pc lc sk st => am_g d X am_m5011 pc lc sk st Q) Q)) := am_gu.trans rfl
theorem u5011_18 {v0 : Value} {v1 : Value} {v2 : Value} {v3 : Value} {v4 : Value} {v5 : Value} {x : Int32} : am_g d X am_m5011 18 [v0, v1, v2, v3, v4, v5] (.int x :: sk) st Q = am_g d X am_m5011 20 [v0, v1, v2, v3, am_kc v4, .int x] sk st Q := am_gu.trans (congrArg (fun l => am_g d X am_m5011 20 (List.set l 5 (.int x)) sk st Q) (kl_5 (l := [v5])))
theorem u5011_20 {v0 : Value} {v1 : Value} {v2 : Value} {v3 : Value} {v4 : Value} {x : Int32} : am_g d X am_m5011 20 [v0, v1, v2, v3, v4, .int x] sk st Q = am_g d X am_m5011 22 [v0, v1, v2, v3, v4, .int x] (.int x :: sk) st Q := am_gu.trans rfl
theorem u5011_22 {v0 : Value} {v1 : Value} {v2 : Value} {v3 : Value} {v4 : Value} {v5 : Value} : am_g d X am_m5011 22 [v0, v1, v2, v3, v4, v5] sk st Q = am_g d X am_m5011 23 [v0, v1, v2, v3, v4, v5] (.int (am_i (-1)) :: sk) st Q := am_gu.trans rfl
theorem u5011_23 {v0 : Value} {v1 : Value} {v2 : Value} {v3 : Value} {v4 : Value} {v5 : Value} {x : Int32} {y : Int32} : am_g d X am_m5011 23 [v0, v1, v2, v3, v4, v5] (.int y :: .int x :: sk) st Q = (if decide (¬ x = y) = true then am_g d X am_m5011 28 [v0, v1, v2, v3, v4, v5] sk st Q else am_g d X am_m5011 26 [v0, v1, v2, v3, v4, v5] sk st Q) := am_gu.trans rfl
theorem u5011_26 {v0 : Value} {v1 : Value} {v2 : Value} {v4 : Value} {v5 : Value} {x : Int32} : am_g d X am_m5011 26 [v0, v1, v2, .int x, v4, v5] sk st Q = am_g d X am_m5011 27 [v0, v1, v2, .int x, v4, v5] (.int x :: sk) st Q := am_gu.trans rfl
theorem u5011_27 {v0 : Value} {v1 : Value} {v2 : Value} {v3 : Value} {v4 : Value} {v5 : Value} {x : Int32} : am_g d X am_m5011 27 [v0, v1, v2, v3, v4, v5] [.int x] st Q = Q (.inl (some (.int x))) st := am_gu.trans rfl
theorem u5011_28 {v0 : Value} {v1 : Value} {v2 : Value} {v3 : Value} {v4 : Value} {x : Int32} : am_g d X am_m5011 28 [v0, v1, v2, v3, v4, .int x] sk st Q = am_g d X am_m5011 30 [v0, v1, v2, v3, v4, .int x] (.int x :: sk) st Q := am_gu.trans rfl
theorem u5011_30 {v0 : Value} {v1 : Value} {v2 : Value} {v3 : Value} {v4 : Value} {v5 : Value} {x : Int32} : am_g d X am_m5011 30 [v0, v1, v2, v3, v4, v5] (.int x :: sk) st Q = am_g d X am_m5011 31 [v0, v1, am_kc v2, .int x, v4, v5] sk st Q := am_gu.trans (congrArg (fun l => am_g d X am_m5011 31 (List.set l 3 (.int x)) sk st Q) (kl_3 (l := [v3, v4, v5])))
theorem u5011_31 {v0 : Value} {v1 : Value} {v2 : Value} {v3 : Value} {v5 : Value} {x : Int32} : am_g d X am_m5011 31 [v0, v1, v2, v3, .int x, v5] sk st Q = am_g d X am_m5011 34 [v0, v1, v2, am_kc v3, .int (x + am_i 1), v5] sk st Q := am_gu.trans (congrArg (fun l => am_g d X am_m5011 34 (List.set l 4 (.int (x + am_i 1))) sk st Q) (kl_4 (l := [.int x, v5])))
theorem u5011_34 {v0 : Value} {v1 : Value} {v2 : Value} {v3 : Value} {v4 : Value} {v5 : Value} : am_g d X am_m5011 34 [v0, v1, v2, v3, v4, v5] sk st Q = am_g d X am_m5011 5 [v0, v1, v2, v3, v4, v5] sk st Q := am_gu.trans rfl
theorem u5011_37 {v0 : Value} {v1 : Value} {v2 : Value} {v4 : Value} {v5 : Value} {x : Int32} : am_g d X am_m5011 37 [v0, v1, v2, .int x, v4, v5] sk st Q = am_g d X am_m5011 38 [v0, v1, v2, .int x, v4, v5] (.int x :: sk) st Q := am_gu.trans rfl
theorem u5011_38 {v0 : Value} {v1 : Value} {v2 : Value} {v3 : Value} {v4 : Value} {v5 : Value} {x : Int32} : am_g d X am_m5011 38 [v0, v1, v2, v3, v4, v5] [.int x] st Q = Q (.inl (some (.int x))) st := am_gu.trans rfl
set_option maxRecDepth 100000 in
theorem of_5012 : am_of 5012 = some am_m5012 := rfl
theorem c5012 {z a0 a1} {P : am_Q} : am_Ca X (d + 1) 5012 [.ref z, .int a0, .int a1] st P = am_g d X am_m5012 0 [.ref z, .int a0, .int a1, am_u, am_u, am_u] [] st P := am_cg of_5012 (by show 3 ≤ 6; decide)
theorem hd_5012 : am_hd am_m5012 = [] := rfl
theorem u5012_0 {v1 : Value} {v2 : Value} {v3 : Value} {v4 : Value} {v5 : Value} {x : Nat} : am_g d X am_m5012 0 [.ref x, v1, v2, v3, v4, v5] sk st Q = am_g d X am_m5012 1 [.ref x, v1, v2, v3, v4, v5] (.ref x :: sk) st Q := am_gu.trans rfl
theorem u5012_1 {v0 : Value} {v2 : Value} {v3 : Value} {v4 : Value} {v5 : Value} {x : Int32} : am_g d X am_m5012 1 [v0, .int x, v2, v3, v4, v5] sk st Q = am_g d X am_m5012 2 [v0, .int x, v2, v3, v4, v5] (.int x :: sk) st Q := am_gu.trans rfl
theorem u5012_2 {v0 : Value} {v1 : Value} {v3 : Value} {v4 : Value} {v5 : Value} {x : Int32} : am_g d X am_m5012 2 [v0, v1, .int x, v3, v4, v5] sk st Q = am_g d X am_m5012 3 [v0, v1, .int x, v3, v4, v5] (.int x :: sk) st Q := am_gu.trans rfl
theorem u5012_3 {a0 : Value} {a1 : Value} {v0 : Value} {v1 : Value} {v2 : Value} {v3 : Value} {v4 : Value} {v5 : Value} : am_g d X am_m5012 3 [v0, v1, v2, v3, v4, v5] (a1 :: a0 :: .ref o :: sk) st Q = ((am_ob st o 5 ∧ sk.length ≤ 4) ∧ am_Ca X d 5007 [.ref o, a0, a1] st (am_af am_m5012 3 [v0, v1, v2, v3, v4, v5] sk (fun pc lc sk st => am_g d X am_m5012 pc lc sk st Q) Q)) := am_gu.trans rfl
theorem u5012_6 {v0 : Value} {v1 : Value} {v2 : Value} {v3 : Value} {v4 : Value} {v5 : Value} {x : Int32} : am_g d X am_m5012 6 [v0, v1, v2, v3, v4, v5] (.int x :: sk) st Q = am_g d X am_m5012 7 [v0, v1, am_kc v2, .int x, v4, v5] sk st Q := am_gu.trans (congrArg (fun l => am_g d X am_m5012 7 (List.set l 3 (.int x)) sk st Q) (kl_3 (l := [v3, v4, v5])))
theorem u5012_7 {v1 : Value} {v2 : Value} {v3 : Value} {v4 : Value} {v5 : Value} {x : Nat} : am_g d X am_m5012 7 [.ref x, v1, v2, v3, v4, v5] sk st Q = am_g d X am_m5012 8 [.ref x, v1, v2, v3, v4, v5] (.ref x :: sk) st Q := am_gu.trans rfl
theorem u5012_8 {v0 : Value} {v2 : Value} {v3 : Value} {v4 : Value} {v5 : Value} {x : Int32} : am_g d X am_m5012 8 [v0, .int x, v2, v3, v4, v5] sk st Q = am_g d X am_m5012 9 [v0, .int x, v2, v3, v4, v5] (.int x :: sk) st Q := am_gu.trans rfl
theorem u5012_9 {a0 : Value} {v0 : Value} {v1 : Value} {v2 : Value} {v3 : Value} {v4 : Value} {v5 : Value} : am_g d X am_m5012 9 [v0, v1, v2, v3, v4, v5] (a0 :: .ref o :: sk) st Q = ((am_ob st o 5 ∧ sk.length ≤ 4) ∧ am_Ca X d 5005 [.ref o, a0] st (am_af am_m5012 9 [v0, v1, v2, v3, v4, v5] sk (fun pc lc sk st => am_g d X am_m5012 pc lc sk st Q) Q)) := am_gu.trans rfl
theorem u5012_12 {v0 : Value} {v1 : Value} {v2 : Value} {v3 : Value} {v4 : Value} {v5 : Value} {x : Int32} : am_g d X am_m5012 12 [v0, v1, v2, v3, v4, v5] (.int x :: sk) st Q = am_g d X am_m5012 14 [v0, v1, v2, am_kc v3, .int x, v5] sk st Q := am_gu.trans (congrArg (fun l => am_g d X am_m5012 14 (List.set l 4 (.int x)) sk st Q) (kl_4 (l := [v4, v5])))
theorem u5012_14 {v0 : Value} {v1 : Value} {v2 : Value} {v3 : Value} {v5 : Value} {x : Int32} : am_g d X am_m5012 14 [v0, v1, v2, v3, .int x, v5] sk st Q = am_g d X am_m5012 16 [v0, v1, v2, v3, .int x, v5] (.int x :: sk) st Q := am_gu.trans rfl
theorem u5012_16 {v0 : Value} {v1 : Value} {v2 : Value} {v3 : Value} {v4 : Value} {v5 : Value} : am_g d X am_m5012 16 [v0, v1, v2, v3, v4, v5] sk st Q = am_g d X am_m5012 17 [v0, v1, v2, v3, v4, v5] (.int (am_i (-1)) :: sk) st Q := am_gu.trans rfl
theorem u5012_17 {v0 : Value} {v1 : Value} {v2 : Value} {v3 : Value} {v4 : Value} {v5 : Value} {x : Int32} {y : Int32} : am_g d X am_m5012 17 [v0, v1, v2, v3, v4, v5] (.int y :: .int x :: sk) st Q = (if decide (x = y) = true then am_g d X am_m5012 34 [v0, v1, v2, v3, v4, v5] sk st Q else am_g d X am_m5012 20 [v0, v1, v2, v3, v4, v5] sk st Q) := am_gu.trans rfl
theorem u5012_20 {v1 : Value} {v2 : Value} {v3 : Value} {v4 : Value} {v5 : Value} {x : Nat} : am_g d X am_m5012 20 [.ref x, v1, v2, v3, v4, v5] sk st Q = am_g d X am_m5012 21 [.ref x, v1, v2, v3, v4, v5] (.ref x :: sk) st Q := am_gu.trans rfl
theorem u5012_21 {v0 : Value} {v1 : Value} {v2 : Value} {v3 : Value} {v5 : Value} {x : Int32} : am_g d X am_m5012 21 [v0, v1, v2, v3, .int x, v5] sk st Q = am_g d X am_m5012 23 [v0, v1, v2, v3, .int x, v5] (.int x :: sk) st Q := am_gu.trans rfl
theorem u5012_23 {v0 : Value} {v1 : Value} {v3 : Value} {v4 : Value} {v5 : Value} {x : Int32} : am_g d X am_m5012 23 [v0, v1, .int x, v3, v4, v5] sk st Q = am_g d X am_m5012 24 [v0, v1, .int x, v3, v4, v5] (.int x :: sk) st Q := am_gu.trans rfl
theorem u5012_24 {a0 : Value} {a1 : Value} {v0 : Value} {v1 : Value} {v2 : Value} {v3 : Value} {v4 : Value} {v5 : Value} : am_g d X am_m5012 24 [v0, v1, v2, v3, v4, v5] (a1 :: a0 :: .ref o :: sk) st Q = ((am_ob st o 5 ∧ sk.length ≤ 4) ∧ am_Ca X d 5007 [.ref o, a0, a1] st (am_af am_m5012 24 [v0, v1, v2, v3, v4, v5] sk (fun pc lc sk st => am_g d X am_m5012 pc lc sk st Q) Q)) := am_gu.trans rfl
theorem u5012_27 {v0 : Value} {v1 : Value} {v2 : Value} {v4 : Value} {v5 : Value} {x : Int32} : am_g d X am_m5012 27 [v0, v1, v2, .int x, v4, v5] sk st Q = am_g d X am_m5012 28 [v0, v1, v2, .int x, v4, v5] (.int x :: sk) st Q := am_gu.trans rfl
theorem u5012_28 {v0 : Value} {v1 : Value} {v2 : Value} {v3 : Value} {v4 : Value} {v5 : Value} {x : Int32} {y : Int32} : am_g d X am_m5012 28 [v0, v1, v2, v3, v4, v5] (.int y :: .int x :: sk) st Q = (if decide (¬ x = y) = true then am_g d X am_m5012 34 [v0, v1, v2, v3, v4, v5] sk st Q else am_g d X am_m5012 31 [v0, v1, v2, v3, v4, v5] sk st Q) := am_gu.trans rfl
theorem u5012_31 {v0 : Value} {v1 : Value} {v2 : Value} {v3 : Value} {v5 : Value} {x : Int32} : am_g d X am_m5012 31 [v0, v1, v2, v3, .int x, v5] sk st Q = am_g d X am_m5012 33 [v0, v1, v2, v3, .int x, v5] (.int x :: sk) st Q := am_gu.trans rfl
theorem u5012_33 {v0 : Value} {v1 : Value} {v2 : Value} {v3 : Value} {v4 : Value} {v5 : Value} {x : Int32} : am_g d X am_m5012 33 [v0, v1, v2, v3, v4, v5] [.int x] st Q = Q (.inl (some (.int x))) st := am_gu.trans rfl
theorem u5012_34 {v1 : Value} {v2 : Value} {v3 : Value} {v4 : Value} {v5 : Value} {x : Nat} : am_g d X am_m5012 34 [.ref x, v1, v2, v3, v4, v5] sk st Q = am_g d X am_m5012 35 [.ref x, v1, v2, v3, v4, v5] (.ref x :: sk) st Q := am_gu.trans rfl
theorem u5012_35 {v0 : Value} {v2 : Value} {v3 : Value} {v4 : Value} {v5 : Value} {x : Int32} : am_g d X am_m5012 35 [v0, .int x, v2, v3, v4, v5] sk st Q = am_g d X am_m5012 36 [v0, .int x, v2, v3, v4, v5] (.int x :: sk) st Q := am_gu.trans rfl
theorem u5012_36 {a0 : Value} {v0 : Value} {v1 : Value} {v2 : Value} {v3 : Value} {v4 : Value} {v5 : Value} : am_g d X am_m5012 36 [v0, v1, v2, v3, v4, v5] (a0 :: .ref o :: sk) st Q = ((am_ob st o 5 ∧ sk.length ≤ 4) ∧ am_Ca X d 5006 [.ref o, a0] st (am_af am_m5012 36 [v0, v1, v2, v3, v4, v5] sk (fun pc lc sk st => am_g d X am_m5012 pc lc sk st Q) Q)) := am_gu.trans rfl
theorem u5012_39 {v0 : Value} {v1 : Value} {v2 : Value} {v3 : Value} {v4 : Value} {v5 : Value} {x : Int32} : am_g d X am_m5012 39 [v0, v1, v2, v3, v4, v5] (.int x :: sk) st Q = am_g d X am_m5012 41 [v0, v1, v2, v3, am_kc v4, .int x] sk st Q := am_gu.trans (congrArg (fun l => am_g d X am_m5012 41 (List.set l 5 (.int x)) sk st Q) (kl_5 (l := [v5])))
theorem u5012_41 {v0 : Value} {v1 : Value} {v2 : Value} {v3 : Value} {v4 : Value} {x : Int32} : am_g d X am_m5012 41 [v0, v1, v2, v3, v4, .int x] sk st Q = am_g d X am_m5012 43 [v0, v1, v2, v3, v4, .int x] (.int x :: sk) st Q := am_gu.trans rfl
theorem u5012_43 {v0 : Value} {v1 : Value} {v2 : Value} {v3 : Value} {v4 : Value} {v5 : Value} : am_g d X am_m5012 43 [v0, v1, v2, v3, v4, v5] sk st Q = am_g d X am_m5012 44 [v0, v1, v2, v3, v4, v5] (.int (am_i (-1)) :: sk) st Q := am_gu.trans rfl
theorem u5012_44 {v0 : Value} {v1 : Value} {v2 : Value} {v3 : Value} {v4 : Value} {v5 : Value} {x : Int32} {y : Int32} : am_g d X am_m5012 44 [v0, v1, v2, v3, v4, v5] (.int y :: .int x :: sk) st Q = (if decide (x = y) = true then am_g d X am_m5012 63 [v0, v1, v2, v3, v4, v5] sk st Q else am_g d X am_m5012 47 [v0, v1, v2, v3, v4, v5] sk st Q) := am_gu.trans rfl
theorem u5012_47 {v1 : Value} {v2 : Value} {v3 : Value} {v4 : Value} {v5 : Value} {x : Nat} : am_g d X am_m5012 47 [.ref x, v1, v2, v3, v4, v5] sk st Q = am_g d X am_m5012 48 [.ref x, v1, v2, v3, v4, v5] (.ref x :: sk) st Q := am_gu.trans rfl
theorem u5012_48 {v0 : Value} {v1 : Value} {v2 : Value} {v3 : Value} {v4 : Value} {x : Int32} : am_g d X am_m5012 48 [v0, v1, v2, v3, v4, .int x] sk st Q = am_g d X am_m5012 50 [v0, v1, v2, v3, v4, .int x] (.int x :: sk) st Q := am_gu.trans rfl
theorem u5012_50 {v0 : Value} {v1 : Value} {v3 : Value} {v4 : Value} {v5 : Value} {x : Int32} : am_g d X am_m5012 50 [v0, v1, .int x, v3, v4, v5] sk st Q = am_g d X am_m5012 51 [v0, v1, .int x, v3, v4, v5] (.int x :: sk) st Q := am_gu.trans rfl
theorem u5012_51 {a0 : Value} {a1 : Value} {v0 : Value} {v1 : Value} {v2 : Value} {v3 : Value} {v4 : Value} {v5 : Value} : am_g d X am_m5012 51 [v0, v1, v2, v3, v4, v5] (a1 :: a0 :: .ref o :: sk) st Q = ((am_ob st o 5 ∧ sk.length ≤ 4) ∧ am_Ca X d 5007 [.ref o, a0, a1] st (am_af am_m5012 51 [v0, v1, v2, v3, v4, v5] sk (fun pc lc sk st => am_g d X am_m5012 pc lc sk st Q) Q)) := am_gu.trans rfl
theorem u5012_54 {v0 : Value} {v1 : Value} {v2 : Value} {v4 : Value} {v5 : Value} {x : Int32} : am_g d X am_m5012 54 [v0, v1, v2, .int x, v4, v5] sk st Q = am_g d X am_m5012 55 [v0, v1, v2, .int x, v4, v5] (.int x :: sk) st Q := am_gu.trans rfl
theorem u5012_55 {v0 : Value} {v1 : Value} {v2 : Value} {v3 : Value} {v4 : Value} {v5 : Value} {x : Int32} {y : Int32} : am_g d X am_m5012 55 [v0, v1, v2, v3, v4, v5] (.int y :: .int x :: sk) st Q = (if decide (¬ x = y) = true then am_g d X am_m5012 63 [v0, v1, v2, v3, v4, v5] sk st Q else am_g d X am_m5012 58 [v0, v1, v2, v3, v4, v5] sk st Q) := am_gu.trans rfl
theorem u5012_58 {v0 : Value} {v1 : Value} {v2 : Value} {v3 : Value} {v4 : Value} {x : Int32} : am_g d X am_m5012 58 [v0, v1, v2, v3, v4, .int x] sk st Q = am_g d X am_m5012 60 [v0, v1, v2, v3, v4, .int x] (.int x :: sk) st Q := am_gu.trans rfl
theorem u5012_60 {v0 : Value} {v1 : Value} {v2 : Value} {v3 : Value} {v4 : Value} {v5 : Value} : am_g d X am_m5012 60 [v0, v1, v2, v3, v4, v5] sk st Q = am_g d X am_m5012 64 [v0, v1, v2, v3, v4, v5] sk st Q := am_gu.trans rfl
theorem u5012_63 {v0 : Value} {v1 : Value} {v2 : Value} {v3 : Value} {v4 : Value} {v5 : Value} : am_g d X am_m5012 63 [v0, v1, v2, v3, v4, v5] sk st Q = am_g d X am_m5012 64 [v0, v1, v2, v3, v4, v5] (.int (am_i (-1)) :: sk) st Q := am_gu.trans rfl
theorem u5012_64 {v0 : Value} {v1 : Value} {v2 : Value} {v3 : Value} {v4 : Value} {v5 : Value} {x : Int32} : am_g d X am_m5012 64 [v0, v1, v2, v3, v4, v5] [.int x] st Q = Q (.inl (some (.int x))) st := am_gu.trans rfl
set_option maxRecDepth 100000 in
theorem of_5013 : am_of 5013 = some am_m5013 := rfl
theorem c5013 {z a0} {P : am_Q} : am_Ca X (d + 1) 5013 [.ref z, .int a0] st P = am_g d X am_m5013 0 [.ref z, .int a0, am_u] [] st P := am_cg of_5013 (by show 2 ≤ 3; decide)
theorem hd_5013 : am_hd am_m5013 = [] := rfl
theorem u5013_0 {v1 : Value} {v2 : Value} {x : Nat} : am_g d X am_m5013 0 [.ref x, v1, v2] sk st Q = am_g d X am_m5013 1 [.ref x, v1, v2] (.ref x :: sk) st Q := am_gu.trans rfl
theorem u5013_1 {v0 : Value} {v1 : Value} {v2 : Value} : am_g d X am_m5013 1 [v0, v1, v2] sk st Q = am_gt 160 4 [v0, v1, v2] sk st (fun pc lc sk st => am_g d X am_m5013 pc lc sk st Q) := am_gu.trans rfl
theorem u5013_4 {v0 : Value} {v1 : Value} {v2 : Value} {x : Int32} : am_g d X am_m5013 4 [v0, v1, v2] (.int x :: sk) st Q = am_g d X am_m5013 5 [v0, am_kc v1, .int x] sk st Q := am_gu.trans (congrArg (fun l => am_g d X am_m5013 5 (List.set l 2 (.int x)) sk st Q) (kl_2 (l := [v2])))
theorem u5013_5 {v0 : Value} {v1 : Value} {x : Int32} : am_g d X am_m5013 5 [v0, v1, .int x] sk st Q = am_g d X am_m5013 6 [v0, v1, .int x] (.int x :: sk) st Q := am_gu.trans rfl
theorem u5013_6 {v0 : Value} {v1 : Value} {v2 : Value} {x : Int32} : am_g d X am_m5013 6 [v0, v1, v2] (.int x :: sk) st Q = (if decide (x < 0) = true then am_g d X am_m5013 15 [v0, v1, v2] sk st Q else am_g d X am_m5013 9 [v0, v1, v2] sk st Q) := am_gu.trans rfl
theorem u5013_9 {v0 : Value} {v1 : Value} {x : Int32} : am_g d X am_m5013 9 [v0, v1, .int x] sk st Q = am_g d X am_m5013 10 [v0, v1, .int x] (.int x :: sk) st Q := am_gu.trans rfl
theorem u5013_10 {v0 : Value} {v1 : Value} {v2 : Value} : am_g d X am_m5013 10 [v0, v1, v2] sk st Q = am_g d X am_m5013 12 [v0, v1, v2] (.int (am_i 60) :: sk) st Q := am_gu.trans rfl
theorem u5013_12 {v0 : Value} {v1 : Value} {v2 : Value} {x : Int32} {y : Int32} : am_g d X am_m5013 12 [v0, v1, v2] (.int y :: .int x :: sk) st Q = (if decide (x < y) = true then am_g d X am_m5013 17 [v0, v1, v2] sk st Q else am_g d X am_m5013 15 [v0, v1, v2] sk st Q) := am_gu.trans rfl
theorem u5013_15 {v0 : Value} {v1 : Value} {v2 : Value} : am_g d X am_m5013 15 [v0, v1, v2] sk st Q = am_g d X am_m5013 16 [v0, v1, v2] (.int (am_i (-1)) :: sk) st Q := am_gu.trans rfl
theorem u5013_16 {v0 : Value} {v1 : Value} {v2 : Value} {x : Int32} : am_g d X am_m5013 16 [v0, v1, v2] [.int x] st Q = Q (.inl (some (.int x))) st := am_gu.trans rfl
theorem u5013_17 {v1 : Value} {v2 : Value} {x : Nat} : am_g d X am_m5013 17 [.ref x, v1, v2] sk st Q = am_g d X am_m5013 18 [.ref x, v1, v2] (.ref x :: sk) st Q := am_gu.trans rfl
theorem u5013_18 {v0 : Value} {v1 : Value} {v2 : Value} : am_g d X am_m5013 18 [v0, v1, v2] sk st Q = am_gt 161 21 [v0, v1, v2] sk st (fun pc lc sk st => am_g d X am_m5013 pc lc sk st Q) := am_gu.trans rfl
theorem u5013_21 {v0 : Value} {v1 : Value} {x : Int32} : am_g d X am_m5013 21 [v0, v1, .int x] sk st Q = am_g d X am_m5013 22 [v0, v1, .int x] (.int x :: sk) st Q := am_gu.trans rfl
theorem u5013_22 {v1 : Value} {v2 : Value} {x : Nat} : am_g d X am_m5013 22 [.ref x, v1, v2] sk st Q = am_g d X am_m5013 23 [.ref x, v1, v2] (.ref x :: sk) st Q := am_gu.trans rfl
theorem u5013_23 {v0 : Value} {v1 : Value} {v2 : Value} : am_g d X am_m5013 23 [v0, v1, v2] (.ref o :: sk) st Q = ((am_ob st o 5 ∧ sk.length ≤ 4) ∧ am_Ca X d 5016 [.ref o] st (am_af am_m5013 23 [v0, v1, v2] sk (fun pc lc sk st => am_g d X am_m5013 pc lc sk st Q) Q)) := am_gu.trans rfl
theorem u5013_26 {v0 : Value} {v1 : Value} {v2 : Value} : am_g d X am_m5013 26 [v0, v1, v2] sk st Q = am_xs 27 [v0, v1, v2] sk st (fun pc lc sk st => am_g d X am_m5013 pc lc sk st Q) := am_gu.trans rfl
theorem u5013_27 {v1 : Value} {v2 : Value} {x : Nat} : am_g d X am_m5013 27 [.ref x, v1, v2] sk st Q = am_g d X am_m5013 28 [.ref x, v1, v2] (.ref x :: sk) st Q := am_gu.trans rfl
theorem u5013_28 {v0 : Value} {v1 : Value} {v2 : Value} : am_g d X am_m5013 28 [v0, v1, v2] sk st Q = am_gt 162 31 [v0, v1, v2] sk st (fun pc lc sk st => am_g d X am_m5013 pc lc sk st Q) := am_gu.trans rfl
theorem u5013_31 {v0 : Value} {v1 : Value} {x : Int32} : am_g d X am_m5013 31 [v0, v1, .int x] sk st Q = am_g d X am_m5013 32 [v0, v1, .int x] (.int x :: sk) st Q := am_gu.trans rfl
theorem u5013_32 {v0 : Value} {v2 : Value} {x : Int32} : am_g d X am_m5013 32 [v0, .int x, v2] sk st Q = am_g d X am_m5013 33 [v0, .int x, v2] (.int x :: sk) st Q := am_gu.trans rfl
theorem u5013_33 {v0 : Value} {v1 : Value} {v2 : Value} : am_g d X am_m5013 33 [v0, v1, v2] sk st Q = am_xs 34 [v0, v1, v2] sk st (fun pc lc sk st => am_g d X am_m5013 pc lc sk st Q) := am_gu.trans rfl
theorem u5013_34 {v1 : Value} {v2 : Value} {x : Nat} : am_g d X am_m5013 34 [.ref x, v1, v2] sk st Q = am_g d X am_m5013 35 [.ref x, v1, v2] (.ref x :: sk) st Q := am_gu.trans rfl
theorem u5013_35 {v0 : Value} {v1 : Value} {v2 : Value} : am_g d X am_m5013 35 [v0, v1, v2] sk st Q = am_gt 166 38 [v0, v1, v2] sk st (fun pc lc sk st => am_g d X am_m5013 pc lc sk st Q) := am_gu.trans rfl
theorem u5013_38 {v0 : Value} {v1 : Value} {v2 : Value} : am_g d X am_m5013 38 [v0, v1, v2] sk st Q = am_g d X am_m5013 39 [v0, v1, v2] (.int (am_i 0) :: sk) st Q := am_gu.trans rfl
theorem u5013_39 {v1 : Value} {v2 : Value} {x : Nat} : am_g d X am_m5013 39 [.ref x, v1, v2] sk st Q = am_g d X am_m5013 40 [.ref x, v1, v2] (.ref x :: sk) st Q := am_gu.trans rfl
theorem u5013_40 {v0 : Value} {v1 : Value} {v2 : Value} : am_g d X am_m5013 40 [v0, v1, v2] sk st Q = am_gt 163 43 [v0, v1, v2] sk st (fun pc lc sk st => am_g d X am_m5013 pc lc sk st Q) := am_gu.trans rfl
theorem u5013_43 {v0 : Value} {v1 : Value} {x : Int32} : am_g d X am_m5013 43 [v0, v1, .int x] sk st Q = am_g d X am_m5013 44 [v0, v1, .int x] (.int x :: sk) st Q := am_gu.trans rfl
theorem u5013_44 {v0 : Value} {v1 : Value} {v2 : Value} : am_g d X am_m5013 44 [v0, v1, v2] sk st Q = am_g d X am_m5013 46 [v0, v1, v2] (.int (am_i 24) :: sk) st Q := am_gu.trans rfl
theorem u5013_46 {v0 : Value} {v1 : Value} {v2 : Value} {x : Int32} {y : Int32} : am_g d X am_m5013 46 [v0, v1, v2] (.int y :: .int x :: sk) st Q = am_g d X am_m5013 47 [v0, v1, v2] (.int (x * y) :: sk) st Q := am_gu.trans rfl
theorem u5013_47 {v0 : Value} {v1 : Value} {v2 : Value} : am_g d X am_m5013 47 [v0, v1, v2] sk st Q = am_g d X am_m5013 49 [v0, v1, v2] (.int (am_i 24) :: sk) st Q := am_gu.trans rfl
theorem u5013_49 {v0 : Value} {v1 : Value} {v2 : Value} : am_g d X am_m5013 49 [v0, v1, v2] sk st Q = am_cp 52 [v0, v1, v2] sk st (fun pc lc sk st => am_g d X am_m5013 pc lc sk st Q) := am_gu.trans rfl
theorem u5013_52 {v1 : Value} {v2 : Value} {x : Nat} : am_g d X am_m5013 52 [.ref x, v1, v2] sk st Q = am_g d X am_m5013 53 [.ref x, v1, v2] (.ref x :: sk) st Q := am_gu.trans rfl
theorem u5013_53i {v0 : Value} {v1 : Value} {v2 : Value} {x : Int32} : am_g d X am_m5013 53 [v0, v1, v2] (.int x :: sk) st Q = am_g d X am_m5013 54 [v0, v1, v2] (.int x :: .int x :: sk) st Q := am_gu.trans rfl
theorem u5013_53r {v0 : Value} {v1 : Value} {v2 : Value} {x : Nat} : am_g d X am_m5013 53 [v0, v1, v2] (.ref x :: sk) st Q = am_g d X am_m5013 54 [v0, v1, v2] (.ref x :: .ref x :: sk) st Q := am_gu.trans rfl
theorem u5013_54 {v0 : Value} {v1 : Value} {v2 : Value} : am_g d X am_m5013 54 [v0, v1, v2] sk st Q = am_gt 160 57 [v0, v1, v2] sk st (fun pc lc sk st => am_g d X am_m5013 pc lc sk st Q) := am_gu.trans rfl
theorem u5013_57 {v0 : Value} {v1 : Value} {v2 : Value} : am_g d X am_m5013 57 [v0, v1, v2] sk st Q = am_g d X am_m5013 58 [v0, v1, v2] (.int (am_i 1) :: sk) st Q := am_gu.trans rfl
theorem u5013_58 {v0 : Value} {v1 : Value} {v2 : Value} {x : Int32} {y : Int32} : am_g d X am_m5013 58 [v0, v1, v2] (.int y :: .int x :: sk) st Q = am_g d X am_m5013 59 [v0, v1, v2] (.int (x + y) :: sk) st Q := am_gu.trans rfl
theorem u5013_59 {v0 : Value} {v1 : Value} {v2 : Value} : am_g d X am_m5013 59 [v0, v1, v2] sk st Q = am_pt 160 62 [v0, v1, v2] sk st (fun pc lc sk st => am_g d X am_m5013 pc lc sk st Q) := am_gu.trans rfl
theorem u5013_62 {v1 : Value} {v2 : Value} {x : Nat} : am_g d X am_m5013 62 [.ref x, v1, v2] sk st Q = am_g d X am_m5013 63 [.ref x, v1, v2] (.ref x :: sk) st Q := am_gu.trans rfl
theorem u5013_63 {v0 : Value} {v1 : Value} {x : Int32} : am_g d X am_m5013 63 [v0, v1, .int x] sk st Q = am_g d X am_m5013 64 [v0, v1, .int x] (.int x :: sk) st Q := am_gu.trans rfl
theorem u5013_64 {a0 : Value} {v0 : Value} {v1 : Value} {v2 : Value} : am_g d X am_m5013 64 [v0, v1, v2] (a0 :: .ref o :: sk) st Q = ((am_ob st o 5 ∧ sk.length ≤ 4) ∧ am_Ca X d 5020 [.ref o, a0] st (am_af am_m5013 64 [v0, v1, v2] sk (fun pc lc sk st => am_g d X am_m5013 pc lc sk st Q) Q)) := am_gu.trans rfl
theorem u5013_67 {v0 : Value} {v1 : Value} {x : Int32} : am_g d X am_m5013 67 [v0, v1, .int x] sk st Q = am_g d X am_m5013 68 [v0, v1, .int x] (.int x :: sk) st Q := am_gu.trans rfl
theorem u5013_68 {v0 : Value} {v1 : Value} {v2 : Value} {x : Int32} : am_g d X am_m5013 68 [v0, v1, v2] [.int x] st Q = Q (.inl (some (.int x))) st := am_gu.trans rfl
set_option maxRecDepth 100000 in
theorem of_5014 : am_of 5014 = some am_m5014 := rfl
theorem c5014 {z a0} {P : am_Q} : am_Ca X (d + 1) 5014 [.ref z, .int a0] st P = am_g d X am_m5014 0 [.ref z, .int a0] [] st P := am_cg of_5014 (by show 2 ≤ 2; decide)
theorem hd_5014 : am_hd am_m5014 = [] := rfl
theorem u5014_0 {v1 : Value} {x : Nat} : am_g d X am_m5014 0 [.ref x, v1] sk st Q = am_g d X am_m5014 1 [.ref x, v1] (.ref x :: sk) st Q := am_gu.trans rfl
theorem u5014_1 {v0 : Value} {x : Int32} : am_g d X am_m5014 1 [v0, .int x] sk st Q = am_g d X am_m5014 2 [v0, .int x] (.int x :: sk) st Q := am_gu.trans rfl
theorem u5014_2 {a0 : Value} {v0 : Value} {v1 : Value} : am_g d X am_m5014 2 [v0, v1] (a0 :: .ref o :: sk) st Q = ((am_ob st o 5 ∧ sk.length ≤ 4) ∧ am_Ca X d 5015 [.ref o, a0] st (am_af am_m5014 2 [v0, v1] sk (fun pc lc sk st => am_g d X am_m5014 pc lc sk st Q) Q)) := am_gu.trans rfl
theorem u5014_5 {v0 : Value} {v1 : Value} : am_g d X am_m5014 5 [v0, v1] sk st Q = am_g d X am_m5014 6 [v0, v1] (.int (am_i (-1)) :: sk) st Q := am_gu.trans rfl
theorem u5014_6 {v0 : Value} {v1 : Value} {x : Int32} {y : Int32} : am_g d X am_m5014 6 [v0, v1] (.int y :: .int x :: sk) st Q = (if decide (x = y) = true then am_g d X am_m5014 13 [v0, v1] sk st Q else am_g d X am_m5014 9 [v0, v1] sk st Q) := am_gu.trans rfl
theorem u5014_9 {v0 : Value} {v1 : Value} : am_g d X am_m5014 9 [v0, v1] sk st Q = am_g d X am_m5014 10 [v0, v1] (.int (am_i 1) :: sk) st Q := am_gu.trans rfl
theorem u5014_10 {v0 : Value} {v1 : Value} : am_g d X am_m5014 10 [v0, v1] sk st Q = am_g d X am_m5014 14 [v0, v1] sk st Q := am_gu.trans rfl
theorem u5014_13 {v0 : Value} {v1 : Value} : am_g d X am_m5014 13 [v0, v1] sk st Q = am_g d X am_m5014 14 [v0, v1] (.int (am_i 0) :: sk) st Q := am_gu.trans rfl
theorem u5014_14 {v0 : Value} {v1 : Value} {x : Int32} : am_g d X am_m5014 14 [v0, v1] [.int x] st Q = ((x = 0 ∨ x = 1) ∧ Q (.inl (some (.int x))) st) := am_gu.trans rfl
set_option maxRecDepth 100000 in
theorem of_5015 : am_of 5015 = some am_m5015 := rfl
theorem c5015 {z a0} {P : am_Q} : am_Ca X (d + 1) 5015 [.ref z, .int a0] st P = am_g d X am_m5015 0 [.ref z, .int a0] [] st P := am_cg of_5015 (by show 2 ≤ 2; decide)
theorem hd_5015 : am_hd am_m5015 = [] := rfl
theorem u5015_0 {v0 : Value} {x : Int32} : am_g d X am_m5015 0 [v0, .int x] sk st Q = am_g d X am_m5015 1 [v0, .int x] (.int x :: sk) st Q := am_gu.trans rfl
theorem u5015_1 {v0 : Value} {v1 : Value} {x : Int32} : am_g d X am_m5015 1 [v0, v1] (.int x :: sk) st Q = (if decide (x < 0) = true then am_g d X am_m5015 19 [v0, v1] sk st Q else am_g d X am_m5015 4 [v0, v1] sk st Q) := am_gu.trans rfl
theorem u5015_4 {v0 : Value} {x : Int32} : am_g d X am_m5015 4 [v0, .int x] sk st Q = am_g d X am_m5015 5 [v0, .int x] (.int x :: sk) st Q := am_gu.trans rfl
theorem u5015_5 {v0 : Value} {v1 : Value} : am_g d X am_m5015 5 [v0, v1] sk st Q = am_g d X am_m5015 7 [v0, v1] (.int (am_i 6) :: sk) st Q := am_gu.trans rfl
theorem u5015_7 {v0 : Value} {v1 : Value} {x : Int32} {y : Int32} : am_g d X am_m5015 7 [v0, v1] (.int y :: .int x :: sk) st Q = (if decide (y ≤ x) = true then am_g d X am_m5015 19 [v0, v1] sk st Q else am_g d X am_m5015 10 [v0, v1] sk st Q) := am_gu.trans rfl
theorem u5015_10 {v1 : Value} {x : Nat} : am_g d X am_m5015 10 [.ref x, v1] sk st Q = am_g d X am_m5015 11 [.ref x, v1] (.ref x :: sk) st Q := am_gu.trans rfl
theorem u5015_11 {v0 : Value} {v1 : Value} : am_g d X am_m5015 11 [v0, v1] sk st Q = am_gt 164 14 [v0, v1] sk st (fun pc lc sk st => am_g d X am_m5015 pc lc sk st Q) := am_gu.trans rfl
theorem u5015_14 {v0 : Value} {x : Int32} : am_g d X am_m5015 14 [v0, .int x] sk st Q = am_g d X am_m5015 15 [v0, .int x] (.int x :: sk) st Q := am_gu.trans rfl
theorem u5015_15 {v0 : Value} {v1 : Value} : am_g d X am_m5015 15 [v0, v1] sk st Q = am_xl (X.1, X.2.1, d) am_m5015 16 [v0, v1] sk st (fun pc lc sk st => am_g d X am_m5015 pc lc sk st Q) := am_gu.trans rfl
theorem u5015_16 {v0 : Value} {v1 : Value} : am_g d X am_m5015 16 [v0, v1] sk st Q = am_g d X am_m5015 20 [v0, v1] sk st Q := am_gu.trans rfl
theorem u5015_19 {v0 : Value} {v1 : Value} : am_g d X am_m5015 19 [v0, v1] sk st Q = am_g d X am_m5015 20 [v0, v1] (.int (am_i (-1)) :: sk) st Q := am_gu.trans rfl
theorem u5015_20 {v0 : Value} {v1 : Value} {x : Int32} : am_g d X am_m5015 20 [v0, v1] [.int x] st Q = Q (.inl (some (.int x))) st := am_gu.trans rfl
set_option maxRecDepth 100000 in
theorem of_5016 : am_of 5016 = some am_m5016 := rfl
theorem c5016 {z} {P : am_Q} : am_Ca X (d + 1) 5016 [.ref z] st P = am_g d X am_m5016 0 [.ref z] [] st P := am_cg of_5016 (by show 1 ≤ 1; decide)
theorem hd_5016 : am_hd am_m5016 = [] := rfl
theorem u5016_0 {x : Nat} : am_g d X am_m5016 0 [.ref x] sk st Q = am_g d X am_m5016 1 [.ref x] (.ref x :: sk) st Q := am_gu.trans rfl
theorem u5016_1 {v0 : Value} : am_g d X am_m5016 1 [v0] sk st Q = am_gt 165 4 [v0] sk st (fun pc lc sk st => am_g d X am_m5016 pc lc sk st Q) := am_gu.trans rfl
theorem u5016_4 {v0 : Value} {x : Int32} : am_g d X am_m5016 4 [v0] (.int x :: sk) st Q = (if decide (x < 0) = true then am_g d X am_m5016 28 [v0] sk st Q else am_g d X am_m5016 7 [v0] sk st Q) := am_gu.trans rfl
theorem u5016_7 {x : Nat} : am_g d X am_m5016 7 [.ref x] sk st Q = am_g d X am_m5016 8 [.ref x] (.ref x :: sk) st Q := am_gu.trans rfl
theorem u5016_8 {v0 : Value} : am_g d X am_m5016 8 [v0] sk st Q = am_gt 165 11 [v0] sk st (fun pc lc sk st => am_g d X am_m5016 pc lc sk st Q) := am_gu.trans rfl
theorem u5016_11 {v0 : Value} : am_g d X am_m5016 11 [v0] sk st Q = am_g d X am_m5016 13 [v0] (.int (am_i 6) :: sk) st Q := am_gu.trans rfl
theorem u5016_13 {v0 : Value} {x : Int32} {y : Int32} : am_g d X am_m5016 13 [v0] (.int y :: .int x :: sk) st Q = (if decide (y ≤ x) = true then am_g d X am_m5016 28 [v0] sk st Q else am_g d X am_m5016 16 [v0] sk st Q) := am_gu.trans rfl
theorem u5016_16 {x : Nat} : am_g d X am_m5016 16 [.ref x] sk st Q = am_g d X am_m5016 17 [.ref x] (.ref x :: sk) st Q := am_gu.trans rfl
theorem u5016_17 {v0 : Value} : am_g d X am_m5016 17 [v0] sk st Q = am_gt 164 20 [v0] sk st (fun pc lc sk st => am_g d X am_m5016 pc lc sk st Q) := am_gu.trans rfl
theorem u5016_20 {x : Nat} : am_g d X am_m5016 20 [.ref x] sk st Q = am_g d X am_m5016 21 [.ref x] (.ref x :: sk) st Q := am_gu.trans rfl
theorem u5016_21 {v0 : Value} : am_g d X am_m5016 21 [v0] sk st Q = am_gt 165 24 [v0] sk st (fun pc lc sk st => am_g d X am_m5016 pc lc sk st Q) := am_gu.trans rfl
theorem u5016_24 {v0 : Value} : am_g d X am_m5016 24 [v0] sk st Q = am_xl (X.1, X.2.1, d) am_m5016 25 [v0] sk st (fun pc lc sk st => am_g d X am_m5016 pc lc sk st Q) := am_gu.trans rfl
theorem u5016_25 {v0 : Value} : am_g d X am_m5016 25 [v0] sk st Q = am_g d X am_m5016 29 [v0] sk st Q := am_gu.trans rfl
theorem u5016_28 {v0 : Value} : am_g d X am_m5016 28 [v0] sk st Q = am_g d X am_m5016 29 [v0] (.int (am_i (-1)) :: sk) st Q := am_gu.trans rfl
theorem u5016_29 {v0 : Value} {x : Int32} : am_g d X am_m5016 29 [v0] [.int x] st Q = Q (.inl (some (.int x))) st := am_gu.trans rfl
set_option maxRecDepth 100000 in
theorem of_5017 : am_of 5017 = some am_m5017 := rfl
theorem c5017 {z} {P : am_Q} : am_Ca X (d + 1) 5017 [.ref z] st P = am_g d X am_m5017 0 [.ref z, am_u, am_u] [] st P := am_cg of_5017 (by show 1 ≤ 3; decide)
theorem hd_5017 : am_hd am_m5017 = [] := rfl
theorem u5017_0 {v0 : Value} {v1 : Value} {v2 : Value} : am_g d X am_m5017 0 [v0, v1, v2] sk st Q = am_g d X am_m5017 1 [v0, v1, v2] (.int (am_i 0) :: sk) st Q := am_gu.trans rfl
theorem u5017_1 {v0 : Value} {v1 : Value} {v2 : Value} {x : Int32} : am_g d X am_m5017 1 [v0, v1, v2] (.int x :: sk) st Q = am_g d X am_m5017 2 [am_kc v0, .int x, v2] sk st Q := am_gu.trans (congrArg (fun l => am_g d X am_m5017 2 (List.set l 1 (.int x)) sk st Q) (kl_1 (l := [v1, v2])))
theorem u5017_2 {v0 : Value} {v1 : Value} {v2 : Value} : am_g d X am_m5017 2 [v0, v1, v2] sk st Q = am_g d X am_m5017 3 [v0, v1, v2] (.int (am_i 0) :: sk) st Q := am_gu.trans rfl
theorem u5017_3 {v0 : Value} {v1 : Value} {v2 : Value} {x : Int32} : am_g d X am_m5017 3 [v0, v1, v2] (.int x :: sk) st Q = am_g d X am_m5017 4 [v0, am_kc v1, .int x] sk st Q := am_gu.trans (congrArg (fun l => am_g d X am_m5017 4 (List.set l 2 (.int x)) sk st Q) (kl_2 (l := [v2])))
theorem u5017_4 {v0 : Value} {v1 : Value} {x : Int32} : am_g d X am_m5017 4 [v0, v1, .int x] sk st Q = am_g d X am_m5017 5 [v0, v1, .int x] (.int x :: sk) st Q := am_gu.trans rfl
theorem u5017_5 {v0 : Value} {v1 : Value} {v2 : Value} : am_g d X am_m5017 5 [v0, v1, v2] sk st Q = am_g d X am_m5017 7 [v0, v1, v2] (.int (am_i 6) :: sk) st Q := am_gu.trans rfl
theorem u5017_7 {v0 : Value} {v1 : Value} {v2 : Value} {x : Int32} {y : Int32} : am_g d X am_m5017 7 [v0, v1, v2] (.int y :: .int x :: sk) st Q = (if decide (y ≤ x) = true then am_g d X am_m5017 27 [v0, v1, v2] sk st Q else am_g d X am_m5017 10 [v0, v1, v2] sk st Q) := am_gu.trans rfl
theorem u5017_10 {v1 : Value} {v2 : Value} {x : Nat} : am_g d X am_m5017 10 [.ref x, v1, v2] sk st Q = am_g d X am_m5017 11 [.ref x, v1, v2] (.ref x :: sk) st Q := am_gu.trans rfl
theorem u5017_11 {v0 : Value} {v1 : Value} {x : Int32} : am_g d X am_m5017 11 [v0, v1, .int x] sk st Q = am_g d X am_m5017 12 [v0, v1, .int x] (.int x :: sk) st Q := am_gu.trans rfl
theorem u5017_12 {a0 : Value} {v0 : Value} {v1 : Value} {v2 : Value} : am_g d X am_m5017 12 [v0, v1, v2] (a0 :: .ref o :: sk) st Q = ((am_ob st o 5 ∧ sk.length ≤ 4) ∧ am_Ca X d 5014 [.ref o, a0] st (am_af am_m5017 12 [v0, v1, v2] sk (fun pc lc sk st => am_g d X am_m5017 pc lc sk st Q) Q)) := am_gu.trans rfl
theorem u5017_15 {v0 : Value} {v1 : Value} {v2 : Value} {x : Int32} : am_g d X am_m5017 15 [v0, v1, v2] (.int x :: sk) st Q = (if decide (x = 0) = true then am_g d X am_m5017 21 [v0, v1, v2] sk st Q else am_g d X am_m5017 18 [v0, v1, v2] sk st Q) := am_gu.trans rfl
theorem u5017_18 {v0 : Value} {v2 : Value} {x : Int32} : am_g d X am_m5017 18 [v0, .int x, v2] sk st Q = am_g d X am_m5017 21 [am_kc v0, .int (x + am_i 1), v2] sk st Q := am_gu.trans (congrArg (fun l => am_g d X am_m5017 21 (List.set l 1 (.int (x + am_i 1))) sk st Q) (kl_1 (l := [.int x, v2])))
theorem u5017_21 {v0 : Value} {v1 : Value} {x : Int32} : am_g d X am_m5017 21 [v0, v1, .int x] sk st Q = am_g d X am_m5017 24 [v0, am_kc v1, .int (x + am_i 1)] sk st Q := am_gu.trans (congrArg (fun l => am_g d X am_m5017 24 (List.set l 2 (.int (x + am_i 1))) sk st Q) (kl_2 (l := [.int x])))
theorem u5017_24 {v0 : Value} {v1 : Value} {v2 : Value} : am_g d X am_m5017 24 [v0, v1, v2] sk st Q = am_g d X am_m5017 4 [v0, v1, v2] sk st Q := am_gu.trans rfl
theorem u5017_27 {v0 : Value} {v2 : Value} {x : Int32} : am_g d X am_m5017 27 [v0, .int x, v2] sk st Q = am_g d X am_m5017 28 [v0, .int x, v2] (.int x :: sk) st Q := am_gu.trans rfl
theorem u5017_28 {v0 : Value} {v1 : Value} {v2 : Value} {x : Int32} : am_g d X am_m5017 28 [v0, v1, v2] [.int x] st Q = Q (.inl (some (.int x))) st := am_gu.trans rfl
set_option maxRecDepth 100000 in
theorem of_5018 : am_of 5018 = some am_m5018 := rfl
theorem c5018 {z} {P : am_Q} : am_Ca X (d + 1) 5018 [.ref z] st P = am_g d X am_m5018 0 [.ref z, am_u] [] st P := am_cg of_5018 (by show 1 ≤ 2; decide)
theorem hd_5018 : am_hd am_m5018 = [] := rfl
theorem u5018_0 {v0 : Value} {v1 : Value} : am_g d X am_m5018 0 [v0, v1] sk st Q = am_g d X am_m5018 1 [v0, v1] (.int (am_i 0) :: sk) st Q := am_gu.trans rfl
theorem u5018_1 {v0 : Value} {v1 : Value} {x : Int32} : am_g d X am_m5018 1 [v0, v1] (.int x :: sk) st Q = am_g d X am_m5018 2 [am_kc v0, .int x] sk st Q := am_gu.trans (congrArg (fun l => am_g d X am_m5018 2 (List.set l 1 (.int x)) sk st Q) (kl_1 (l := [v1])))
theorem u5018_2 {v0 : Value} {x : Int32} : am_g d X am_m5018 2 [v0, .int x] sk st Q = am_g d X am_m5018 3 [v0, .int x] (.int x :: sk) st Q := am_gu.trans rfl
theorem u5018_3 {v0 : Value} {v1 : Value} : am_g d X am_m5018 3 [v0, v1] sk st Q = am_g d X am_m5018 5 [v0, v1] (.int (am_i 6) :: sk) st Q := am_gu.trans rfl
theorem u5018_5 {v0 : Value} {v1 : Value} {x : Int32} {y : Int32} : am_g d X am_m5018 5 [v0, v1] (.int y :: .int x :: sk) st Q = (if decide (y ≤ x) = true then am_g d X am_m5018 24 [v0, v1] sk st Q else am_g d X am_m5018 8 [v0, v1] sk st Q) := am_gu.trans rfl
theorem u5018_8 {v1 : Value} {x : Nat} : am_g d X am_m5018 8 [.ref x, v1] sk st Q = am_g d X am_m5018 9 [.ref x, v1] (.ref x :: sk) st Q := am_gu.trans rfl
theorem u5018_9 {v0 : Value} {x : Int32} : am_g d X am_m5018 9 [v0, .int x] sk st Q = am_g d X am_m5018 10 [v0, .int x] (.int x :: sk) st Q := am_gu.trans rfl
theorem u5018_10 {a0 : Value} {v0 : Value} {v1 : Value} : am_g d X am_m5018 10 [v0, v1] (a0 :: .ref o :: sk) st Q = ((am_ob st o 5 ∧ sk.length ≤ 4) ∧ am_Ca X d 5014 [.ref o, a0] st (am_af am_m5018 10 [v0, v1] sk (fun pc lc sk st => am_g d X am_m5018 pc lc sk st Q) Q)) := am_gu.trans rfl
theorem u5018_13 {v0 : Value} {v1 : Value} {x : Int32} : am_g d X am_m5018 13 [v0, v1] (.int x :: sk) st Q = (if decide (¬ x = 0) = true then am_g d X am_m5018 18 [v0, v1] sk st Q else am_g d X am_m5018 16 [v0, v1] sk st Q) := am_gu.trans rfl
theorem u5018_16 {v0 : Value} {x : Int32} : am_g d X am_m5018 16 [v0, .int x] sk st Q = am_g d X am_m5018 17 [v0, .int x] (.int x :: sk) st Q := am_gu.trans rfl
theorem u5018_17 {v0 : Value} {v1 : Value} {x : Int32} : am_g d X am_m5018 17 [v0, v1] [.int x] st Q = Q (.inl (some (.int x))) st := am_gu.trans rfl
theorem u5018_18 {v0 : Value} {x : Int32} : am_g d X am_m5018 18 [v0, .int x] sk st Q = am_g d X am_m5018 21 [am_kc v0, .int (x + am_i 1)] sk st Q := am_gu.trans (congrArg (fun l => am_g d X am_m5018 21 (List.set l 1 (.int (x + am_i 1))) sk st Q) (kl_1 (l := [.int x])))
theorem u5018_21 {v0 : Value} {v1 : Value} : am_g d X am_m5018 21 [v0, v1] sk st Q = am_g d X am_m5018 2 [v0, v1] sk st Q := am_gu.trans rfl
theorem u5018_24 {v0 : Value} {v1 : Value} : am_g d X am_m5018 24 [v0, v1] sk st Q = am_g d X am_m5018 25 [v0, v1] (.int (am_i (-1)) :: sk) st Q := am_gu.trans rfl
theorem u5018_25 {v0 : Value} {v1 : Value} {x : Int32} : am_g d X am_m5018 25 [v0, v1] [.int x] st Q = Q (.inl (some (.int x))) st := am_gu.trans rfl
set_option maxRecDepth 100000 in
theorem of_5019 : am_of 5019 = some am_m5019 := rfl
theorem c5019 {z a0 a1} {P : am_Q} : am_Ca X (d + 1) 5019 [.ref z, .int a0, .int a1] st P = am_g d X am_m5019 0 [.ref z, .int a0, .int a1] [] st P := am_cg of_5019 (by show 3 ≤ 3; decide)
theorem hd_5019 : am_hd am_m5019 = [] := rfl
theorem u5019_0 {v0 : Value} {v2 : Value} {x : Int32} : am_g d X am_m5019 0 [v0, .int x, v2] sk st Q = am_g d X am_m5019 1 [v0, .int x, v2] (.int x :: sk) st Q := am_gu.trans rfl
theorem u5019_1 {v0 : Value} {v1 : Value} {v2 : Value} {x : Int32} : am_g d X am_m5019 1 [v0, v1, v2] (.int x :: sk) st Q = (if decide (x < 0) = true then am_g d X am_m5019 17 [v0, v1, v2] sk st Q else am_g d X am_m5019 4 [v0, v1, v2] sk st Q) := am_gu.trans rfl
theorem u5019_4 {v0 : Value} {v2 : Value} {x : Int32} : am_g d X am_m5019 4 [v0, .int x, v2] sk st Q = am_g d X am_m5019 5 [v0, .int x, v2] (.int x :: sk) st Q := am_gu.trans rfl
theorem u5019_5 {v0 : Value} {v1 : Value} {v2 : Value} : am_g d X am_m5019 5 [v0, v1, v2] sk st Q = am_g d X am_m5019 7 [v0, v1, v2] (.int (am_i 6) :: sk) st Q := am_gu.trans rfl
theorem u5019_7 {v0 : Value} {v1 : Value} {v2 : Value} {x : Int32} {y : Int32} : am_g d X am_m5019 7 [v0, v1, v2] (.int y :: .int x :: sk) st Q = (if decide (y ≤ x) = true then am_g d X am_m5019 17 [v0, v1, v2] sk st Q else am_g d X am_m5019 10 [v0, v1, v2] sk st Q) := am_gu.trans rfl
theorem u5019_10 {v1 : Value} {v2 : Value} {x : Nat} : am_g d X am_m5019 10 [.ref x, v1, v2] sk st Q = am_g d X am_m5019 11 [.ref x, v1, v2] (.ref x :: sk) st Q := am_gu.trans rfl
theorem u5019_11 {v0 : Value} {v1 : Value} {v2 : Value} : am_g d X am_m5019 11 [v0, v1, v2] sk st Q = am_gt 164 14 [v0, v1, v2] sk st (fun pc lc sk st => am_g d X am_m5019 pc lc sk st Q) := am_gu.trans rfl
theorem u5019_14 {v0 : Value} {v2 : Value} {x : Int32} : am_g d X am_m5019 14 [v0, .int x, v2] sk st Q = am_g d X am_m5019 15 [v0, .int x, v2] (.int x :: sk) st Q := am_gu.trans rfl
theorem u5019_15 {v0 : Value} {v1 : Value} {x : Int32} : am_g d X am_m5019 15 [v0, v1, .int x] sk st Q = am_g d X am_m5019 16 [v0, v1, .int x] (.int x :: sk) st Q := am_gu.trans rfl
theorem u5019_16 {v0 : Value} {v1 : Value} {v2 : Value} : am_g d X am_m5019 16 [v0, v1, v2] sk st Q = am_xs 17 [v0, v1, v2] sk st (fun pc lc sk st => am_g d X am_m5019 pc lc sk st Q) := am_gu.trans rfl
theorem u5019_17 {v0 : Value} {v1 : Value} {v2 : Value} : am_g d X am_m5019 17 [v0, v1, v2] [] st Q = Q (.inl none) st := am_gu.trans rfl
set_option maxRecDepth 100000 in
theorem of_5020 : am_of 5020 = some am_m5020 := rfl
theorem c5020 {z a0} {P : am_Q} : am_Ca X (d + 1) 5020 [.ref z, .int a0] st P = am_g d X am_m5020 0 [.ref z, .int a0] [] st P := am_cg of_5020 (by show 2 ≤ 2; decide)
theorem hd_5020 : am_hd am_m5020 = [] := rfl
theorem u5020_0 {v1 : Value} {x : Nat} : am_g d X am_m5020 0 [.ref x, v1] sk st Q = am_g d X am_m5020 1 [.ref x, v1] (.ref x :: sk) st Q := am_gu.trans rfl
theorem u5020_1 {v1 : Value} {x : Nat} : am_g d X am_m5020 1 [.ref x, v1] sk st Q = am_g d X am_m5020 2 [.ref x, v1] (.ref x :: sk) st Q := am_gu.trans rfl
theorem u5020_2 {v0 : Value} {v1 : Value} : am_g d X am_m5020 2 [v0, v1] sk st Q = am_gt 165 5 [v0, v1] sk st (fun pc lc sk st => am_g d X am_m5020 pc lc sk st Q) := am_gu.trans rfl
theorem u5020_5 {v0 : Value} {x : Int32} : am_g d X am_m5020 5 [v0, .int x] sk st Q = am_g d X am_m5020 6 [v0, .int x] (.int x :: sk) st Q := am_gu.trans rfl
theorem u5020_6 {a0 : Value} {a1 : Value} {v0 : Value} {v1 : Value} : am_g d X am_m5020 6 [v0, v1] (a1 :: a0 :: .ref o :: sk) st Q = ((am_ob st o 5 ∧ sk.length ≤ 4) ∧ am_Ca X d 5019 [.ref o, a0, a1] st (am_af am_m5020 6 [v0, v1] sk (fun pc lc sk st => am_g d X am_m5020 pc lc sk st Q) Q)) := am_gu.trans rfl
theorem u5020_9 {v1 : Value} {x : Nat} : am_g d X am_m5020 9 [.ref x, v1] sk st Q = am_g d X am_m5020 10 [.ref x, v1] (.ref x :: sk) st Q := am_gu.trans rfl
theorem u5020_10 {v0 : Value} {x : Int32} : am_g d X am_m5020 10 [v0, .int x] sk st Q = am_g d X am_m5020 11 [v0, .int x] (.int x :: sk) st Q := am_gu.trans rfl
theorem u5020_11 {v1 : Value} {x : Nat} : am_g d X am_m5020 11 [.ref x, v1] sk st Q = am_g d X am_m5020 12 [.ref x, v1] (.ref x :: sk) st Q := am_gu.trans rfl
theorem u5020_12 {v0 : Value} {v1 : Value} : am_g d X am_m5020 12 [v0, v1] sk st Q = am_gt 166 15 [v0, v1] sk st (fun pc lc sk st => am_g d X am_m5020 pc lc sk st Q) := am_gu.trans rfl
theorem u5020_15 {a0 : Value} {a1 : Value} {v0 : Value} {v1 : Value} : am_g d X am_m5020 15 [v0, v1] (a1 :: a0 :: .ref o :: sk) st Q = ((am_ob st o 5 ∧ sk.length ≤ 4) ∧ am_Ca X d 5008 [.ref o, a0, a1] st (am_af am_m5020 15 [v0, v1] sk (fun pc lc sk st => am_g d X am_m5020 pc lc sk st Q) Q)) := am_gu.trans rfl
theorem u5020_18 {v1 : Value} {x : Nat} : am_g d X am_m5020 18 [.ref x, v1] sk st Q = am_g d X am_m5020 19 [.ref x, v1] (.ref x :: sk) st Q := am_gu.trans rfl
theorem u5020_19 {v0 : Value} {v1 : Value} : am_g d X am_m5020 19 [v0, v1] sk st Q = am_gt 167 22 [v0, v1] sk st (fun pc lc sk st => am_g d X am_m5020 pc lc sk st Q) := am_gu.trans rfl
theorem u5020_22 {v0 : Value} {v1 : Value} : am_g d X am_m5020 22 [v0, v1] sk st Q = am_g d X am_m5020 23 [v0, v1] (.int (am_i (-1)) :: sk) st Q := am_gu.trans rfl
theorem u5020_23 {a0 : Value} {a1 : Value} {v0 : Value} {v1 : Value} : am_g d X am_m5020 23 [v0, v1] (a1 :: a0 :: sk) st Q = (sk.length ≤ 4 ∧ am_Ca X d 9000 [a0, a1] st (am_af am_m5020 23 [v0, v1] sk (fun pc lc sk st => am_g d X am_m5020 pc lc sk st Q) Q)) := am_gu.trans (propext ⟨fun h => ⟨h.1.2, h.2⟩, fun h => ⟨⟨Nat.le_add_left _ _, h.1⟩, h.2⟩⟩)
theorem u5020_26 {v1 : Value} {x : Nat} : am_g d X am_m5020 26 [.ref x, v1] sk st Q = am_g d X am_m5020 27 [.ref x, v1] (.ref x :: sk) st Q := am_gu.trans rfl
theorem u5020_27 {v0 : Value} {v1 : Value} : am_g d X am_m5020 27 [v0, v1] sk st Q = am_g d X am_m5020 28 [v0, v1] (.int (am_i 0) :: sk) st Q := am_gu.trans rfl
theorem u5020_28 {v0 : Value} {v1 : Value} : am_g d X am_m5020 28 [v0, v1] sk st Q = am_pt 168 31 [v0, v1] sk st (fun pc lc sk st => am_g d X am_m5020 pc lc sk st Q) := am_gu.trans rfl
theorem u5020_31 {v1 : Value} {x : Nat} : am_g d X am_m5020 31 [.ref x, v1] sk st Q = am_g d X am_m5020 32 [.ref x, v1] (.ref x :: sk) st Q := am_gu.trans rfl
theorem u5020_32 {v0 : Value} {v1 : Value} : am_g d X am_m5020 32 [v0, v1] sk st Q = am_g d X am_m5020 33 [v0, v1] (.int (am_i (-1)) :: sk) st Q := am_gu.trans rfl
theorem u5020_33 {v0 : Value} {v1 : Value} : am_g d X am_m5020 33 [v0, v1] sk st Q = am_pt 169 36 [v0, v1] sk st (fun pc lc sk st => am_g d X am_m5020 pc lc sk st Q) := am_gu.trans rfl
theorem u5020_36 {v0 : Value} {v1 : Value} : am_g d X am_m5020 36 [v0, v1] [] st Q = Q (.inl none) st := am_gu.trans rfl
set_option maxRecDepth 100000 in
theorem of_5021 : am_of 5021 = some am_m5021 := rfl
theorem c5021 {z a0} {P : am_Q} : am_Ca X (d + 1) 5021 [.ref z, .int a0] st P = am_g d X am_m5021 0 [.ref z, .int a0] [] st P := am_cg of_5021 (by show 2 ≤ 2; decide)
theorem hd_5021 : am_hd am_m5021 = [] := rfl
theorem u5021_0 {v0 : Value} {x : Int32} : am_g d X am_m5021 0 [v0, .int x] sk st Q = am_g d X am_m5021 1 [v0, .int x] (.int x :: sk) st Q := am_gu.trans rfl
theorem u5021_1 {v0 : Value} {v1 : Value} {x : Int32} : am_g d X am_m5021 1 [v0, v1] (.int x :: sk) st Q = (if decide (x < 0) = true then am_g d X am_m5021 19 [v0, v1] sk st Q else am_g d X am_m5021 4 [v0, v1] sk st Q) := am_gu.trans rfl
theorem u5021_4 {v0 : Value} {x : Int32} : am_g d X am_m5021 4 [v0, .int x] sk st Q = am_g d X am_m5021 5 [v0, .int x] (.int x :: sk) st Q := am_gu.trans rfl
theorem u5021_5 {v0 : Value} {v1 : Value} : am_g d X am_m5021 5 [v0, v1] sk st Q = am_g d X am_m5021 7 [v0, v1] (.int (am_i 24) :: sk) st Q := am_gu.trans rfl
theorem u5021_7 {v0 : Value} {v1 : Value} {x : Int32} {y : Int32} : am_g d X am_m5021 7 [v0, v1] (.int y :: .int x :: sk) st Q = (if decide (y ≤ x) = true then am_g d X am_m5021 19 [v0, v1] sk st Q else am_g d X am_m5021 10 [v0, v1] sk st Q) := am_gu.trans rfl
theorem u5021_10 {v1 : Value} {x : Nat} : am_g d X am_m5021 10 [.ref x, v1] sk st Q = am_g d X am_m5021 11 [.ref x, v1] (.ref x :: sk) st Q := am_gu.trans rfl
theorem u5021_11 {v0 : Value} {v1 : Value} : am_g d X am_m5021 11 [v0, v1] sk st Q = am_gt 166 14 [v0, v1] sk st (fun pc lc sk st => am_g d X am_m5021 pc lc sk st Q) := am_gu.trans rfl
theorem u5021_14 {v0 : Value} {x : Int32} : am_g d X am_m5021 14 [v0, .int x] sk st Q = am_g d X am_m5021 15 [v0, .int x] (.int x :: sk) st Q := am_gu.trans rfl
theorem u5021_15 {v0 : Value} {v1 : Value} : am_g d X am_m5021 15 [v0, v1] sk st Q = am_xl (X.1, X.2.1, d) am_m5021 16 [v0, v1] sk st (fun pc lc sk st => am_g d X am_m5021 pc lc sk st Q) := am_gu.trans rfl
theorem u5021_16 {v0 : Value} {v1 : Value} : am_g d X am_m5021 16 [v0, v1] sk st Q = am_g d X am_m5021 20 [v0, v1] sk st Q := am_gu.trans rfl
theorem u5021_19 {v0 : Value} {v1 : Value} : am_g d X am_m5021 19 [v0, v1] sk st Q = am_g d X am_m5021 20 [v0, v1] (.int (am_i 0) :: sk) st Q := am_gu.trans rfl
theorem u5021_20 {v0 : Value} {v1 : Value} {x : Int32} : am_g d X am_m5021 20 [v0, v1] [.int x] st Q = Q (.inl (some (.int x))) st := am_gu.trans rfl
set_option maxRecDepth 100000 in
theorem of_5022 : am_of 5022 = some am_m5022 := rfl
theorem c5022 {z a0 a1} {P : am_Q} : am_Ca X (d + 1) 5022 [.ref z, .int a0, .int a1] st P = am_g d X am_m5022 0 [.ref z, .int a0, .int a1] [] st P := am_cg of_5022 (by show 3 ≤ 3; decide)
theorem hd_5022 : am_hd am_m5022 = [] := rfl
theorem u5022_0 {v0 : Value} {v2 : Value} {x : Int32} : am_g d X am_m5022 0 [v0, .int x, v2] sk st Q = am_g d X am_m5022 1 [v0, .int x, v2] (.int x :: sk) st Q := am_gu.trans rfl
theorem u5022_1 {v0 : Value} {v1 : Value} {v2 : Value} {x : Int32} : am_g d X am_m5022 1 [v0, v1, v2] (.int x :: sk) st Q = (if decide (x < 0) = true then am_g d X am_m5022 24 [v0, v1, v2] sk st Q else am_g d X am_m5022 4 [v0, v1, v2] sk st Q) := am_gu.trans rfl
theorem u5022_4 {v0 : Value} {v2 : Value} {x : Int32} : am_g d X am_m5022 4 [v0, .int x, v2] sk st Q = am_g d X am_m5022 5 [v0, .int x, v2] (.int x :: sk) st Q := am_gu.trans rfl
theorem u5022_5 {v0 : Value} {v1 : Value} {v2 : Value} : am_g d X am_m5022 5 [v0, v1, v2] sk st Q = am_g d X am_m5022 7 [v0, v1, v2] (.int (am_i 24) :: sk) st Q := am_gu.trans rfl
theorem u5022_7 {v0 : Value} {v1 : Value} {v2 : Value} {x : Int32} {y : Int32} : am_g d X am_m5022 7 [v0, v1, v2] (.int y :: .int x :: sk) st Q = (if decide (y ≤ x) = true then am_g d X am_m5022 24 [v0, v1, v2] sk st Q else am_g d X am_m5022 10 [v0, v1, v2] sk st Q) := am_gu.trans rfl
theorem u5022_10 {v1 : Value} {v2 : Value} {x : Nat} : am_g d X am_m5022 10 [.ref x, v1, v2] sk st Q = am_g d X am_m5022 11 [.ref x, v1, v2] (.ref x :: sk) st Q := am_gu.trans rfl
theorem u5022_11 {v0 : Value} {v1 : Value} {v2 : Value} : am_g d X am_m5022 11 [v0, v1, v2] sk st Q = am_gt 166 14 [v0, v1, v2] sk st (fun pc lc sk st => am_g d X am_m5022 pc lc sk st Q) := am_gu.trans rfl
theorem u5022_14 {v0 : Value} {v2 : Value} {x : Int32} : am_g d X am_m5022 14 [v0, .int x, v2] sk st Q = am_g d X am_m5022 15 [v0, .int x, v2] (.int x :: sk) st Q := am_gu.trans rfl
theorem u5022_15 {v0 : Value} {v1 : Value} {x : Int32} : am_g d X am_m5022 15 [v0, v1, .int x] sk st Q = am_g d X am_m5022 16 [v0, v1, .int x] (.int x :: sk) st Q := am_gu.trans rfl
theorem u5022_16 {v0 : Value} {v1 : Value} {v2 : Value} : am_g d X am_m5022 16 [v0, v1, v2] sk st Q = am_xs 17 [v0, v1, v2] sk st (fun pc lc sk st => am_g d X am_m5022 pc lc sk st Q) := am_gu.trans rfl
theorem u5022_17 {v1 : Value} {v2 : Value} {x : Nat} : am_g d X am_m5022 17 [.ref x, v1, v2] sk st Q = am_g d X am_m5022 18 [.ref x, v1, v2] (.ref x :: sk) st Q := am_gu.trans rfl
theorem u5022_18 {v0 : Value} {v1 : Value} {v2 : Value} : am_g d X am_m5022 18 [v0, v1, v2] sk st Q = am_gt 167 21 [v0, v1, v2] sk st (fun pc lc sk st => am_g d X am_m5022 pc lc sk st Q) := am_gu.trans rfl
theorem u5022_21 {v0 : Value} {v2 : Value} {x : Int32} : am_g d X am_m5022 21 [v0, .int x, v2] sk st Q = am_g d X am_m5022 22 [v0, .int x, v2] (.int x :: sk) st Q := am_gu.trans rfl
theorem u5022_22 {v0 : Value} {v1 : Value} {v2 : Value} : am_g d X am_m5022 22 [v0, v1, v2] sk st Q = am_g d X am_m5022 23 [v0, v1, v2] (.int (am_i (-1)) :: sk) st Q := am_gu.trans rfl
theorem u5022_23 {v0 : Value} {v1 : Value} {v2 : Value} : am_g d X am_m5022 23 [v0, v1, v2] sk st Q = am_xs 24 [v0, v1, v2] sk st (fun pc lc sk st => am_g d X am_m5022 pc lc sk st Q) := am_gu.trans rfl
theorem u5022_24 {v0 : Value} {v1 : Value} {v2 : Value} : am_g d X am_m5022 24 [v0, v1, v2] [] st Q = Q (.inl none) st := am_gu.trans rfl
set_option maxRecDepth 100000 in
theorem of_5023 : am_of 5023 = some am_m5023 := rfl
theorem c5023 {z a0} {P : am_Q} : am_Ca X (d + 1) 5023 [.ref z, .int a0] st P = am_g d X am_m5023 0 [.ref z, .int a0] [] st P := am_cg of_5023 (by show 2 ≤ 2; decide)
theorem hd_5023 : am_hd am_m5023 = [] := rfl
theorem u5023_0 {v1 : Value} {x : Nat} : am_g d X am_m5023 0 [.ref x, v1] sk st Q = am_g d X am_m5023 1 [.ref x, v1] (.ref x :: sk) st Q := am_gu.trans rfl
theorem u5023_1 {v0 : Value} {x : Int32} : am_g d X am_m5023 1 [v0, .int x] sk st Q = am_g d X am_m5023 2 [v0, .int x] (.int x :: sk) st Q := am_gu.trans rfl
theorem u5023_2 {a0 : Value} {v0 : Value} {v1 : Value} : am_g d X am_m5023 2 [v0, v1] (a0 :: .ref o :: sk) st Q = ((am_ob st o 5 ∧ sk.length ≤ 4) ∧ am_Ca X d 5021 [.ref o, a0] st (am_af am_m5023 2 [v0, v1] sk (fun pc lc sk st => am_g d X am_m5023 pc lc sk st Q) Q)) := am_gu.trans rfl
theorem u5023_5 {v1 : Value} {x : Nat} : am_g d X am_m5023 5 [.ref x, v1] sk st Q = am_g d X am_m5023 6 [.ref x, v1] (.ref x :: sk) st Q := am_gu.trans rfl
theorem u5023_6 {v1 : Value} {x : Nat} : am_g d X am_m5023 6 [.ref x, v1] sk st Q = am_g d X am_m5023 7 [.ref x, v1] (.ref x :: sk) st Q := am_gu.trans rfl
theorem u5023_7 {v0 : Value} {v1 : Value} : am_g d X am_m5023 7 [v0, v1] (.ref o :: sk) st Q = ((am_ob st o 5 ∧ sk.length ≤ 4) ∧ am_Ca X d 5016 [.ref o] st (am_af am_m5023 7 [v0, v1] sk (fun pc lc sk st => am_g d X am_m5023 pc lc sk st Q) Q)) := am_gu.trans rfl
theorem u5023_10 {v0 : Value} {x : Int32} : am_g d X am_m5023 10 [v0, .int x] sk st Q = am_g d X am_m5023 11 [v0, .int x] (.int x :: sk) st Q := am_gu.trans rfl
theorem u5023_11 {a0 : Value} {a1 : Value} {v0 : Value} {v1 : Value} : am_g d X am_m5023 11 [v0, v1] (a1 :: a0 :: .ref o :: sk) st Q = ((am_ob st o 5 ∧ sk.length ≤ 4) ∧ am_Ca X d 5007 [.ref o, a0, a1] st (am_af am_m5023 11 [v0, v1] sk (fun pc lc sk st => am_g d X am_m5023 pc lc sk st Q) Q)) := am_gu.trans rfl
theorem u5023_14 {v0 : Value} {v1 : Value} {x : Int32} {y : Int32} : am_g d X am_m5023 14 [v0, v1] (.int y :: .int x :: sk) st Q = (if decide (x = y) = true then am_g d X am_m5023 21 [v0, v1] sk st Q else am_g d X am_m5023 17 [v0, v1] sk st Q) := am_gu.trans rfl
theorem u5023_17 {v0 : Value} {v1 : Value} : am_g d X am_m5023 17 [v0, v1] sk st Q = am_g d X am_m5023 18 [v0, v1] (.int (am_i 1) :: sk) st Q := am_gu.trans rfl
theorem u5023_18 {v0 : Value} {v1 : Value} : am_g d X am_m5023 18 [v0, v1] sk st Q = am_g d X am_m5023 22 [v0, v1] sk st Q := am_gu.trans rfl
theorem u5023_21 {v0 : Value} {v1 : Value} : am_g d X am_m5023 21 [v0, v1] sk st Q = am_g d X am_m5023 22 [v0, v1] (.int (am_i 0) :: sk) st Q := am_gu.trans rfl
theorem u5023_22 {v0 : Value} {v1 : Value} {x : Int32} : am_g d X am_m5023 22 [v0, v1] [.int x] st Q = ((x = 0 ∨ x = 1) ∧ Q (.inl (some (.int x))) st) := am_gu.trans rfl
set_option maxRecDepth 100000 in
theorem of_5024 : am_of 5024 = some am_m5024 := rfl
theorem c5024 {z} {P : am_Q} : am_Ca X (d + 1) 5024 [.ref z] st P = am_g d X am_m5024 0 [.ref z, am_u, am_u, am_u] [] st P := am_cg of_5024 (by show 1 ≤ 4; decide)
theorem hd_5024 : am_hd am_m5024 = [] := rfl
theorem u5024_0 {v1 : Value} {v2 : Value} {v3 : Value} {x : Nat} : am_g d X am_m5024 0 [.ref x, v1, v2, v3] sk st Q = am_g d X am_m5024 1 [.ref x, v1, v2, v3] (.ref x :: sk) st Q := am_gu.trans rfl
theorem u5024_1 {v0 : Value} {v1 : Value} {v2 : Value} {v3 : Value} : am_g d X am_m5024 1 [v0, v1, v2, v3] (.ref o :: sk) st Q = ((am_ob st o 5 ∧ sk.length ≤ 4) ∧ am_Ca X d 5016 [.ref o] st (am_af am_m5024 1 [v0, v1, v2, v3] sk (fun pc lc sk st => am_g d X am_m5024 pc lc sk st Q) Q)) := am_gu.trans rfl
theorem u5024_4 {v0 : Value} {v1 : Value} {v2 : Value} {v3 : Value} {x : Int32} : am_g d X am_m5024 4 [v0, v1, v2, v3] (.int x :: sk) st Q = am_g d X am_m5024 5 [am_kc v0, .int x, v2, v3] sk st Q := am_gu.trans (congrArg (fun l => am_g d X am_m5024 5 (List.set l 1 (.int x)) sk st Q) (kl_1 (l := [v1, v2, v3])))
theorem u5024_5 {v0 : Value} {v1 : Value} {v2 : Value} {v3 : Value} : am_g d X am_m5024 5 [v0, v1, v2, v3] sk st Q = am_g d X am_m5024 6 [v0, v1, v2, v3] (.int (am_i 0) :: sk) st Q := am_gu.trans rfl
theorem u5024_6 {v0 : Value} {v1 : Value} {v2 : Value} {v3 : Value} {x : Int32} : am_g d X am_m5024 6 [v0, v1, v2, v3] (.int x :: sk) st Q = am_g d X am_m5024 7 [v0, am_kc v1, .int x, v3] sk st Q := am_gu.trans (congrArg (fun l => am_g d X am_m5024 7 (List.set l 2 (.int x)) sk st Q) (kl_2 (l := [v2, v3])))
theorem u5024_7 {v0 : Value} {v1 : Value} {v2 : Value} {v3 : Value} : am_g d X am_m5024 7 [v0, v1, v2, v3] sk st Q = am_g d X am_m5024 8 [v0, v1, v2, v3] (.int (am_i 0) :: sk) st Q := am_gu.trans rfl
theorem u5024_8 {v0 : Value} {v1 : Value} {v2 : Value} {v3 : Value} {x : Int32} : am_g d X am_m5024 8 [v0, v1, v2, v3] (.int x :: sk) st Q = am_g d X am_m5024 9 [v0, v1, am_kc v2, .int x] sk st Q := am_gu.trans (congrArg (fun l => am_g d X am_m5024 9 (List.set l 3 (.int x)) sk st Q) (kl_3 (l := [v3])))
theorem u5024_9 {v0 : Value} {v1 : Value} {v2 : Value} {x : Int32} : am_g d X am_m5024 9 [v0, v1, v2, .int x] sk st Q = am_g d X am_m5024 10 [v0, v1, v2, .int x] (.int x :: sk) st Q := am_gu.trans rfl
theorem u5024_10 {v0 : Value} {v1 : Value} {v2 : Value} {v3 : Value} : am_g d X am_m5024 10 [v0, v1, v2, v3] sk st Q = am_g d X am_m5024 12 [v0, v1, v2, v3] (.int (am_i 24) :: sk) st Q := am_gu.trans rfl
theorem u5024_12 {v0 : Value} {v1 : Value} {v2 : Value} {v3 : Value} {x : Int32} {y : Int32} : am_g d X am_m5024 12 [v0, v1, v2, v3] (.int y :: .int x :: sk) st Q = (if decide (y ≤ x) = true then am_g d X am_m5024 39 [v0, v1, v2, v3] sk st Q else am_g d X am_m5024 15 [v0, v1, v2, v3] sk st Q) := am_gu.trans rfl
theorem u5024_15 {v1 : Value} {v2 : Value} {v3 : Value} {x : Nat} : am_g d X am_m5024 15 [.ref x, v1, v2, v3] sk st Q = am_g d X am_m5024 16 [.ref x, v1, v2, v3] (.ref x :: sk) st Q := am_gu.trans rfl
theorem u5024_16 {v0 : Value} {v1 : Value} {v2 : Value} {v3 : Value} : am_g d X am_m5024 16 [v0, v1, v2, v3] sk st Q = am_gt 166 19 [v0, v1, v2, v3] sk st (fun pc lc sk st => am_g d X am_m5024 pc lc sk st Q) := am_gu.trans rfl
theorem u5024_19 {v0 : Value} {v1 : Value} {v2 : Value} {x : Int32} : am_g d X am_m5024 19 [v0, v1, v2, .int x] sk st Q = am_g d X am_m5024 20 [v0, v1, v2, .int x] (.int x :: sk) st Q := am_gu.trans rfl
theorem u5024_20 {v0 : Value} {v1 : Value} {v2 : Value} {v3 : Value} : am_g d X am_m5024 20 [v0, v1, v2, v3] sk st Q = am_xl (X.1, X.2.1, d) am_m5024 21 [v0, v1, v2, v3] sk st (fun pc lc sk st => am_g d X am_m5024 pc lc sk st Q) := am_gu.trans rfl
theorem u5024_21 {v1 : Value} {v2 : Value} {v3 : Value} {x : Nat} : am_g d X am_m5024 21 [.ref x, v1, v2, v3] sk st Q = am_g d X am_m5024 22 [.ref x, v1, v2, v3] (.ref x :: sk) st Q := am_gu.trans rfl
theorem u5024_22 {v0 : Value} {v2 : Value} {v3 : Value} {x : Int32} : am_g d X am_m5024 22 [v0, .int x, v2, v3] sk st Q = am_g d X am_m5024 23 [v0, .int x, v2, v3] (.int x :: sk) st Q := am_gu.trans rfl
theorem u5024_23 {v0 : Value} {v1 : Value} {v2 : Value} {x : Int32} : am_g d X am_m5024 23 [v0, v1, v2, .int x] sk st Q = am_g d X am_m5024 24 [v0, v1, v2, .int x] (.int x :: sk) st Q := am_gu.trans rfl
theorem u5024_24 {a0 : Value} {a1 : Value} {v0 : Value} {v1 : Value} {v2 : Value} {v3 : Value} : am_g d X am_m5024 24 [v0, v1, v2, v3] (a1 :: a0 :: .ref o :: sk) st Q = ((am_ob st o 5 ∧ sk.length ≤ 4) ∧ am_Ca X d 5007 [.ref o, a0, a1] st (am_af am_m5024 24 [v0, v1, v2, v3] sk (fun pc lc sk st => am_g d X am_m5024 pc lc sk st Q) Q)) := am_gu.trans rfl
theorem u5024_27 {v0 : Value} {v1 : Value} {v2 : Value} {v3 : Value} {x : Int32} {y : Int32} : am_g d X am_m5024 27 [v0, v1, v2, v3] (.int y :: .int x :: sk) st Q = (if decide (x = y) = true then am_g d X am_m5024 33 [v0, v1, v2, v3] sk st Q else am_g d X am_m5024 30 [v0, v1, v2, v3] sk st Q) := am_gu.trans rfl
theorem u5024_30 {v0 : Value} {v1 : Value} {v3 : Value} {x : Int32} : am_g d X am_m5024 30 [v0, v1, .int x, v3] sk st Q = am_g d X am_m5024 33 [v0, am_kc v1, .int (x + am_i 1), v3] sk st Q := am_gu.trans (congrArg (fun l => am_g d X am_m5024 33 (List.set l 2 (.int (x + am_i 1))) sk st Q) (kl_2 (l := [.int x, v3])))
theorem u5024_33 {v0 : Value} {v1 : Value} {v2 : Value} {x : Int32} : am_g d X am_m5024 33 [v0, v1, v2, .int x] sk st Q = am_g d X am_m5024 36 [v0, v1, am_kc v2, .int (x + am_i 1)] sk st Q := am_gu.trans (congrArg (fun l => am_g d X am_m5024 36 (List.set l 3 (.int (x + am_i 1))) sk st Q) (kl_3 (l := [.int x])))
theorem u5024_36 {v0 : Value} {v1 : Value} {v2 : Value} {v3 : Value} : am_g d X am_m5024 36 [v0, v1, v2, v3] sk st Q = am_g d X am_m5024 9 [v0, v1, v2, v3] sk st Q := am_gu.trans rfl
theorem u5024_39 {v0 : Value} {v1 : Value} {v3 : Value} {x : Int32} : am_g d X am_m5024 39 [v0, v1, .int x, v3] sk st Q = am_g d X am_m5024 40 [v0, v1, .int x, v3] (.int x :: sk) st Q := am_gu.trans rfl
theorem u5024_40 {v0 : Value} {v1 : Value} {v2 : Value} {v3 : Value} {x : Int32} : am_g d X am_m5024 40 [v0, v1, v2, v3] [.int x] st Q = Q (.inl (some (.int x))) st := am_gu.trans rfl
set_option maxRecDepth 100000 in
theorem of_5025 : am_of 5025 = some am_m5025 := rfl
theorem c5025 {z} {P : am_Q} : am_Ca X (d + 1) 5025 [.ref z] st P = am_g d X am_m5025 0 [.ref z, am_u, am_u] [] st P := am_cg of_5025 (by show 1 ≤ 3; decide)
theorem hd_5025 : am_hd am_m5025 = [] := rfl
theorem u5025_0 {v0 : Value} {v1 : Value} {v2 : Value} : am_g d X am_m5025 0 [v0, v1, v2] sk st Q = am_g d X am_m5025 1 [v0, v1, v2] (.int (am_i 0) :: sk) st Q := am_gu.trans rfl
theorem u5025_1 {v0 : Value} {v1 : Value} {v2 : Value} {x : Int32} : am_g d X am_m5025 1 [v0, v1, v2] (.int x :: sk) st Q = am_g d X am_m5025 2 [am_kc v0, .int x, v2] sk st Q := am_gu.trans (congrArg (fun l => am_g d X am_m5025 2 (List.set l 1 (.int x)) sk st Q) (kl_1 (l := [v1, v2])))
theorem u5025_2 {v0 : Value} {v1 : Value} {v2 : Value} : am_g d X am_m5025 2 [v0, v1, v2] sk st Q = am_g d X am_m5025 3 [v0, v1, v2] (.int (am_i 0) :: sk) st Q := am_gu.trans rfl
theorem u5025_3 {v0 : Value} {v1 : Value} {v2 : Value} {x : Int32} : am_g d X am_m5025 3 [v0, v1, v2] (.int x :: sk) st Q = am_g d X am_m5025 4 [v0, am_kc v1, .int x] sk st Q := am_gu.trans (congrArg (fun l => am_g d X am_m5025 4 (List.set l 2 (.int x)) sk st Q) (kl_2 (l := [v2])))
theorem u5025_4 {v0 : Value} {v1 : Value} {x : Int32} : am_g d X am_m5025 4 [v0, v1, .int x] sk st Q = am_g d X am_m5025 5 [v0, v1, .int x] (.int x :: sk) st Q := am_gu.trans rfl
theorem u5025_5 {v0 : Value} {v1 : Value} {v2 : Value} : am_g d X am_m5025 5 [v0, v1, v2] sk st Q = am_g d X am_m5025 7 [v0, v1, v2] (.int (am_i 24) :: sk) st Q := am_gu.trans rfl
theorem u5025_7 {v0 : Value} {v1 : Value} {v2 : Value} {x : Int32} {y : Int32} : am_g d X am_m5025 7 [v0, v1, v2] (.int y :: .int x :: sk) st Q = (if decide (y ≤ x) = true then am_g d X am_m5025 28 [v0, v1, v2] sk st Q else am_g d X am_m5025 10 [v0, v1, v2] sk st Q) := am_gu.trans rfl
theorem u5025_10 {v1 : Value} {v2 : Value} {x : Nat} : am_g d X am_m5025 10 [.ref x, v1, v2] sk st Q = am_g d X am_m5025 11 [.ref x, v1, v2] (.ref x :: sk) st Q := am_gu.trans rfl
theorem u5025_11 {v0 : Value} {v1 : Value} {v2 : Value} : am_g d X am_m5025 11 [v0, v1, v2] sk st Q = am_gt 166 14 [v0, v1, v2] sk st (fun pc lc sk st => am_g d X am_m5025 pc lc sk st Q) := am_gu.trans rfl
theorem u5025_14 {v0 : Value} {v1 : Value} {x : Int32} : am_g d X am_m5025 14 [v0, v1, .int x] sk st Q = am_g d X am_m5025 15 [v0, v1, .int x] (.int x :: sk) st Q := am_gu.trans rfl
theorem u5025_15 {v0 : Value} {v1 : Value} {v2 : Value} : am_g d X am_m5025 15 [v0, v1, v2] sk st Q = am_xl (X.1, X.2.1, d) am_m5025 16 [v0, v1, v2] sk st (fun pc lc sk st => am_g d X am_m5025 pc lc sk st Q) := am_gu.trans rfl
theorem u5025_16 {v0 : Value} {v1 : Value} {v2 : Value} {x : Int32} : am_g d X am_m5025 16 [v0, v1, v2] (.int x :: sk) st Q = (if decide (x = 0) = true then am_g d X am_m5025 22 [v0, v1, v2] sk st Q else am_g d X am_m5025 19 [v0, v1, v2] sk st Q) := am_gu.trans rfl
theorem u5025_19 {v0 : Value} {v2 : Value} {x : Int32} : am_g d X am_m5025 19 [v0, .int x, v2] sk st Q = am_g d X am_m5025 22 [am_kc v0, .int (x + am_i 1), v2] sk st Q := am_gu.trans (congrArg (fun l => am_g d X am_m5025 22 (List.set l 1 (.int (x + am_i 1))) sk st Q) (kl_1 (l := [.int x, v2])))
theorem u5025_22 {v0 : Value} {v1 : Value} {x : Int32} : am_g d X am_m5025 22 [v0, v1, .int x] sk st Q = am_g d X am_m5025 25 [v0, am_kc v1, .int (x + am_i 1)] sk st Q := am_gu.trans (congrArg (fun l => am_g d X am_m5025 25 (List.set l 2 (.int (x + am_i 1))) sk st Q) (kl_2 (l := [.int x])))
theorem u5025_25 {v0 : Value} {v1 : Value} {v2 : Value} : am_g d X am_m5025 25 [v0, v1, v2] sk st Q = am_g d X am_m5025 4 [v0, v1, v2] sk st Q := am_gu.trans rfl
theorem u5025_28 {v0 : Value} {v2 : Value} {x : Int32} : am_g d X am_m5025 28 [v0, .int x, v2] sk st Q = am_g d X am_m5025 29 [v0, .int x, v2] (.int x :: sk) st Q := am_gu.trans rfl
theorem u5025_29 {v0 : Value} {v1 : Value} {v2 : Value} {x : Int32} : am_g d X am_m5025 29 [v0, v1, v2] [.int x] st Q = Q (.inl (some (.int x))) st := am_gu.trans rfl
set_option maxRecDepth 100000 in
theorem of_5026 : am_of 5026 = some am_m5026 := rfl
theorem c5026 {z} {P : am_Q} : am_Ca X (d + 1) 5026 [.ref z] st P = am_g d X am_m5026 0 [.ref z] [] st P := am_cg of_5026 (by show 1 ≤ 1; decide)
theorem hd_5026 : am_hd am_m5026 = [] := rfl
theorem u5026_0 {x : Nat} : am_g d X am_m5026 0 [.ref x] sk st Q = am_g d X am_m5026 1 [.ref x] (.ref x :: sk) st Q := am_gu.trans rfl
theorem u5026_1 {v0 : Value} : am_g d X am_m5026 1 [v0] sk st Q = am_gt 168 4 [v0] sk st (fun pc lc sk st => am_g d X am_m5026 pc lc sk st Q) := am_gu.trans rfl
theorem u5026_4 {v0 : Value} {x : Int32} : am_g d X am_m5026 4 [v0] (.int x :: sk) st Q = (if decide (¬ x = 0) = true then am_g d X am_m5026 18 [v0] sk st Q else am_g d X am_m5026 7 [v0] sk st Q) := am_gu.trans rfl
theorem u5026_7 {x : Nat} : am_g d X am_m5026 7 [.ref x] sk st Q = am_g d X am_m5026 8 [.ref x] (.ref x :: sk) st Q := am_gu.trans rfl
theorem u5026_8 {v0 : Value} : am_g d X am_m5026 8 [v0] (.ref o :: sk) st Q = ((am_ob st o 5 ∧ sk.length ≤ 4) ∧ am_Ca X d 5024 [.ref o] st (am_af am_m5026 8 [v0] sk (fun pc lc sk st => am_g d X am_m5026 pc lc sk st Q) Q)) := am_gu.trans rfl
theorem u5026_11 {v0 : Value} {x : Int32} : am_g d X am_m5026 11 [v0] (.int x :: sk) st Q = (if decide (¬ x = 0) = true then am_g d X am_m5026 18 [v0] sk st Q else am_g d X am_m5026 14 [v0] sk st Q) := am_gu.trans rfl
theorem u5026_14 {v0 : Value} : am_g d X am_m5026 14 [v0] sk st Q = am_g d X am_m5026 15 [v0] (.int (am_i 1) :: sk) st Q := am_gu.trans rfl
theorem u5026_15 {v0 : Value} : am_g d X am_m5026 15 [v0] sk st Q = am_g d X am_m5026 19 [v0] sk st Q := am_gu.trans rfl
theorem u5026_18 {v0 : Value} : am_g d X am_m5026 18 [v0] sk st Q = am_g d X am_m5026 19 [v0] (.int (am_i 0) :: sk) st Q := am_gu.trans rfl
theorem u5026_19 {v0 : Value} {x : Int32} : am_g d X am_m5026 19 [v0] [.int x] st Q = ((x = 0 ∨ x = 1) ∧ Q (.inl (some (.int x))) st) := am_gu.trans rfl
set_option maxRecDepth 100000 in
theorem of_5027 : am_of 5027 = some am_m5027 := rfl
theorem c5027 {z a0} {P : am_Q} : am_Ca X (d + 1) 5027 [.ref z, .int a0] st P = am_g d X am_m5027 0 [.ref z, .int a0] [] st P := am_cg of_5027 (by show 2 ≤ 2; decide)
theorem hd_5027 : am_hd am_m5027 = [] := rfl
theorem u5027_0 {v0 : Value} {x : Int32} : am_g d X am_m5027 0 [v0, .int x] sk st Q = am_g d X am_m5027 1 [v0, .int x] (.int x :: sk) st Q := am_gu.trans rfl
theorem u5027_1 {v0 : Value} {v1 : Value} {x : Int32} : am_g d X am_m5027 1 [v0, v1] (.int x :: sk) st Q = (if decide (x < 0) = true then am_g d X am_m5027 19 [v0, v1] sk st Q else am_g d X am_m5027 4 [v0, v1] sk st Q) := am_gu.trans rfl
theorem u5027_4 {v0 : Value} {x : Int32} : am_g d X am_m5027 4 [v0, .int x] sk st Q = am_g d X am_m5027 5 [v0, .int x] (.int x :: sk) st Q := am_gu.trans rfl
theorem u5027_5 {v0 : Value} {v1 : Value} : am_g d X am_m5027 5 [v0, v1] sk st Q = am_g d X am_m5027 7 [v0, v1] (.int (am_i 24) :: sk) st Q := am_gu.trans rfl
theorem u5027_7 {v0 : Value} {v1 : Value} {x : Int32} {y : Int32} : am_g d X am_m5027 7 [v0, v1] (.int y :: .int x :: sk) st Q = (if decide (y ≤ x) = true then am_g d X am_m5027 19 [v0, v1] sk st Q else am_g d X am_m5027 10 [v0, v1] sk st Q) := am_gu.trans rfl
theorem u5027_10 {v1 : Value} {x : Nat} : am_g d X am_m5027 10 [.ref x, v1] sk st Q = am_g d X am_m5027 11 [.ref x, v1] (.ref x :: sk) st Q := am_gu.trans rfl
theorem u5027_11 {v0 : Value} {v1 : Value} : am_g d X am_m5027 11 [v0, v1] sk st Q = am_gt 167 14 [v0, v1] sk st (fun pc lc sk st => am_g d X am_m5027 pc lc sk st Q) := am_gu.trans rfl
theorem u5027_14 {v0 : Value} {x : Int32} : am_g d X am_m5027 14 [v0, .int x] sk st Q = am_g d X am_m5027 15 [v0, .int x] (.int x :: sk) st Q := am_gu.trans rfl
theorem u5027_15 {v0 : Value} {v1 : Value} : am_g d X am_m5027 15 [v0, v1] sk st Q = am_xl (X.1, X.2.1, d) am_m5027 16 [v0, v1] sk st (fun pc lc sk st => am_g d X am_m5027 pc lc sk st Q) := am_gu.trans rfl
theorem u5027_16 {v0 : Value} {v1 : Value} : am_g d X am_m5027 16 [v0, v1] sk st Q = am_g d X am_m5027 20 [v0, v1] sk st Q := am_gu.trans rfl
theorem u5027_19 {v0 : Value} {v1 : Value} : am_g d X am_m5027 19 [v0, v1] sk st Q = am_g d X am_m5027 20 [v0, v1] (.int (am_i (-1)) :: sk) st Q := am_gu.trans rfl
theorem u5027_20 {v0 : Value} {v1 : Value} {x : Int32} : am_g d X am_m5027 20 [v0, v1] [.int x] st Q = Q (.inl (some (.int x))) st := am_gu.trans rfl
set_option maxRecDepth 100000 in
theorem of_5028 : am_of 5028 = some am_m5028 := rfl
theorem c5028 {z a0} {P : am_Q} : am_Ca X (d + 1) 5028 [.ref z, .int a0] st P = am_g d X am_m5028 0 [.ref z, .int a0] [] st P := am_cg of_5028 (by show 2 ≤ 2; decide)
theorem hd_5028 : am_hd am_m5028 = [] := rfl
theorem u5028_0 {v1 : Value} {x : Nat} : am_g d X am_m5028 0 [.ref x, v1] sk st Q = am_g d X am_m5028 1 [.ref x, v1] (.ref x :: sk) st Q := am_gu.trans rfl
theorem u5028_1 {v0 : Value} {x : Int32} : am_g d X am_m5028 1 [v0, .int x] sk st Q = am_g d X am_m5028 2 [v0, .int x] (.int x :: sk) st Q := am_gu.trans rfl
theorem u5028_2 {a0 : Value} {v0 : Value} {v1 : Value} : am_g d X am_m5028 2 [v0, v1] (a0 :: .ref o :: sk) st Q = ((am_ob st o 5 ∧ sk.length ≤ 4) ∧ am_Ca X d 5027 [.ref o, a0] st (am_af am_m5028 2 [v0, v1] sk (fun pc lc sk st => am_g d X am_m5028 pc lc sk st Q) Q)) := am_gu.trans rfl
theorem u5028_5 {v0 : Value} {v1 : Value} : am_g d X am_m5028 5 [v0, v1] sk st Q = am_g d X am_m5028 6 [v0, v1] (.int (am_i (-1)) :: sk) st Q := am_gu.trans rfl
theorem u5028_6 {v0 : Value} {v1 : Value} {x : Int32} {y : Int32} : am_g d X am_m5028 6 [v0, v1] (.int y :: .int x :: sk) st Q = (if decide (x = y) = true then am_g d X am_m5028 13 [v0, v1] sk st Q else am_g d X am_m5028 9 [v0, v1] sk st Q) := am_gu.trans rfl
theorem u5028_9 {v0 : Value} {v1 : Value} : am_g d X am_m5028 9 [v0, v1] sk st Q = am_g d X am_m5028 10 [v0, v1] (.int (am_i 1) :: sk) st Q := am_gu.trans rfl
theorem u5028_10 {v0 : Value} {v1 : Value} : am_g d X am_m5028 10 [v0, v1] sk st Q = am_g d X am_m5028 14 [v0, v1] sk st Q := am_gu.trans rfl
theorem u5028_13 {v0 : Value} {v1 : Value} : am_g d X am_m5028 13 [v0, v1] sk st Q = am_g d X am_m5028 14 [v0, v1] (.int (am_i 0) :: sk) st Q := am_gu.trans rfl
theorem u5028_14 {v0 : Value} {v1 : Value} {x : Int32} : am_g d X am_m5028 14 [v0, v1] [.int x] st Q = ((x = 0 ∨ x = 1) ∧ Q (.inl (some (.int x))) st) := am_gu.trans rfl
set_option maxRecDepth 100000 in
theorem of_5029 : am_of 5029 = some am_m5029 := rfl
theorem c5029 {z} {P : am_Q} : am_Ca X (d + 1) 5029 [.ref z] st P = am_g d X am_m5029 0 [.ref z, am_u, am_u] [] st P := am_cg of_5029 (by show 1 ≤ 3; decide)
theorem hd_5029 : am_hd am_m5029 = [] := rfl
theorem u5029_0 {v0 : Value} {v1 : Value} {v2 : Value} : am_g d X am_m5029 0 [v0, v1, v2] sk st Q = am_g d X am_m5029 1 [v0, v1, v2] (.int (am_i 0) :: sk) st Q := am_gu.trans rfl
theorem u5029_1 {v0 : Value} {v1 : Value} {v2 : Value} {x : Int32} : am_g d X am_m5029 1 [v0, v1, v2] (.int x :: sk) st Q = am_g d X am_m5029 2 [am_kc v0, .int x, v2] sk st Q := am_gu.trans (congrArg (fun l => am_g d X am_m5029 2 (List.set l 1 (.int x)) sk st Q) (kl_1 (l := [v1, v2])))
theorem u5029_2 {v0 : Value} {v1 : Value} {v2 : Value} : am_g d X am_m5029 2 [v0, v1, v2] sk st Q = am_g d X am_m5029 3 [v0, v1, v2] (.int (am_i 0) :: sk) st Q := am_gu.trans rfl
theorem u5029_3 {v0 : Value} {v1 : Value} {v2 : Value} {x : Int32} : am_g d X am_m5029 3 [v0, v1, v2] (.int x :: sk) st Q = am_g d X am_m5029 4 [v0, am_kc v1, .int x] sk st Q := am_gu.trans (congrArg (fun l => am_g d X am_m5029 4 (List.set l 2 (.int x)) sk st Q) (kl_2 (l := [v2])))
theorem u5029_4 {v0 : Value} {v1 : Value} {x : Int32} : am_g d X am_m5029 4 [v0, v1, .int x] sk st Q = am_g d X am_m5029 5 [v0, v1, .int x] (.int x :: sk) st Q := am_gu.trans rfl
theorem u5029_5 {v0 : Value} {v1 : Value} {v2 : Value} : am_g d X am_m5029 5 [v0, v1, v2] sk st Q = am_g d X am_m5029 7 [v0, v1, v2] (.int (am_i 24) :: sk) st Q := am_gu.trans rfl
theorem u5029_7 {v0 : Value} {v1 : Value} {v2 : Value} {x : Int32} {y : Int32} : am_g d X am_m5029 7 [v0, v1, v2] (.int y :: .int x :: sk) st Q = (if decide (y ≤ x) = true then am_g d X am_m5029 27 [v0, v1, v2] sk st Q else am_g d X am_m5029 10 [v0, v1, v2] sk st Q) := am_gu.trans rfl
theorem u5029_10 {v1 : Value} {v2 : Value} {x : Nat} : am_g d X am_m5029 10 [.ref x, v1, v2] sk st Q = am_g d X am_m5029 11 [.ref x, v1, v2] (.ref x :: sk) st Q := am_gu.trans rfl
theorem u5029_11 {v0 : Value} {v1 : Value} {x : Int32} : am_g d X am_m5029 11 [v0, v1, .int x] sk st Q = am_g d X am_m5029 12 [v0, v1, .int x] (.int x :: sk) st Q := am_gu.trans rfl
theorem u5029_12 {a0 : Value} {v0 : Value} {v1 : Value} {v2 : Value} : am_g d X am_m5029 12 [v0, v1, v2] (a0 :: .ref o :: sk) st Q = ((am_ob st o 5 ∧ sk.length ≤ 4) ∧ am_Ca X d 5028 [.ref o, a0] st (am_af am_m5029 12 [v0, v1, v2] sk (fun pc lc sk st => am_g d X am_m5029 pc lc sk st Q) Q)) := am_gu.trans rfl
theorem u5029_15 {v0 : Value} {v1 : Value} {v2 : Value} {x : Int32} : am_g d X am_m5029 15 [v0, v1, v2] (.int x :: sk) st Q = (if decide (x = 0) = true then am_g d X am_m5029 21 [v0, v1, v2] sk st Q else am_g d X am_m5029 18 [v0, v1, v2] sk st Q) := am_gu.trans rfl
theorem u5029_18 {v0 : Value} {v2 : Value} {x : Int32} : am_g d X am_m5029 18 [v0, .int x, v2] sk st Q = am_g d X am_m5029 21 [am_kc v0, .int (x + am_i 1), v2] sk st Q := am_gu.trans (congrArg (fun l => am_g d X am_m5029 21 (List.set l 1 (.int (x + am_i 1))) sk st Q) (kl_1 (l := [.int x, v2])))
theorem u5029_21 {v0 : Value} {v1 : Value} {x : Int32} : am_g d X am_m5029 21 [v0, v1, .int x] sk st Q = am_g d X am_m5029 24 [v0, am_kc v1, .int (x + am_i 1)] sk st Q := am_gu.trans (congrArg (fun l => am_g d X am_m5029 24 (List.set l 2 (.int (x + am_i 1))) sk st Q) (kl_2 (l := [.int x])))
theorem u5029_24 {v0 : Value} {v1 : Value} {v2 : Value} : am_g d X am_m5029 24 [v0, v1, v2] sk st Q = am_g d X am_m5029 4 [v0, v1, v2] sk st Q := am_gu.trans rfl
theorem u5029_27 {v0 : Value} {v2 : Value} {x : Int32} : am_g d X am_m5029 27 [v0, .int x, v2] sk st Q = am_g d X am_m5029 28 [v0, .int x, v2] (.int x :: sk) st Q := am_gu.trans rfl
theorem u5029_28 {v0 : Value} {v1 : Value} {v2 : Value} {x : Int32} : am_g d X am_m5029 28 [v0, v1, v2] [.int x] st Q = Q (.inl (some (.int x))) st := am_gu.trans rfl
set_option maxRecDepth 100000 in
theorem of_5030 : am_of 5030 = some am_m5030 := rfl
theorem c5030 {z} {P : am_Q} : am_Ca X (d + 1) 5030 [.ref z] st P = am_g d X am_m5030 0 [.ref z, am_u, am_u, am_u] [] st P := am_cg of_5030 (by show 1 ≤ 4; decide)
theorem hd_5030 : am_hd am_m5030 = [] := rfl
theorem u5030_0 {v0 : Value} {v1 : Value} {v2 : Value} {v3 : Value} : am_g d X am_m5030 0 [v0, v1, v2, v3] sk st Q = am_g d X am_m5030 1 [v0, v1, v2, v3] (.int (am_i 0) :: sk) st Q := am_gu.trans rfl
theorem u5030_1 {v0 : Value} {v1 : Value} {v2 : Value} {v3 : Value} {x : Int32} : am_g d X am_m5030 1 [v0, v1, v2, v3] (.int x :: sk) st Q = am_g d X am_m5030 2 [am_kc v0, .int x, v2, v3] sk st Q := am_gu.trans (congrArg (fun l => am_g d X am_m5030 2 (List.set l 1 (.int x)) sk st Q) (kl_1 (l := [v1, v2, v3])))
theorem u5030_2 {v0 : Value} {v1 : Value} {v2 : Value} {v3 : Value} : am_g d X am_m5030 2 [v0, v1, v2, v3] sk st Q = am_g d X am_m5030 3 [v0, v1, v2, v3] (.int (am_i 0) :: sk) st Q := am_gu.trans rfl
theorem u5030_3 {v0 : Value} {v1 : Value} {v2 : Value} {v3 : Value} {x : Int32} : am_g d X am_m5030 3 [v0, v1, v2, v3] (.int x :: sk) st Q = am_g d X am_m5030 4 [v0, am_kc v1, .int x, v3] sk st Q := am_gu.trans (congrArg (fun l => am_g d X am_m5030 4 (List.set l 2 (.int x)) sk st Q) (kl_2 (l := [v2, v3])))
theorem u5030_4 {v0 : Value} {v1 : Value} {v3 : Value} {x : Int32} : am_g d X am_m5030 4 [v0, v1, .int x, v3] sk st Q = am_g d X am_m5030 5 [v0, v1, .int x, v3] (.int x :: sk) st Q := am_gu.trans rfl
theorem u5030_5 {v0 : Value} {v1 : Value} {v2 : Value} {v3 : Value} : am_g d X am_m5030 5 [v0, v1, v2, v3] sk st Q = am_g d X am_m5030 7 [v0, v1, v2, v3] (.int (am_i 24) :: sk) st Q := am_gu.trans rfl
theorem u5030_7 {v0 : Value} {v1 : Value} {v2 : Value} {v3 : Value} {x : Int32} {y : Int32} : am_g d X am_m5030 7 [v0, v1, v2, v3] (.int y :: .int x :: sk) st Q = (if decide (y ≤ x) = true then am_g d X am_m5030 54 [v0, v1, v2, v3] sk st Q else am_g d X am_m5030 10 [v0, v1, v2, v3] sk st Q) := am_gu.trans rfl
theorem u5030_10 {v0 : Value} {v1 : Value} {v3 : Value} {x : Int32} : am_g d X am_m5030 10 [v0, v1, .int x, v3] sk st Q = am_g d X am_m5030 11 [v0, v1, .int x, v3] (.int x :: sk) st Q := am_gu.trans rfl
theorem u5030_11 {v0 : Value} {v1 : Value} {v2 : Value} {v3 : Value} : am_g d X am_m5030 11 [v0, v1, v2, v3] sk st Q = am_g d X am_m5030 13 [v0, v1, v2, v3] (.int (am_i 6) :: sk) st Q := am_gu.trans rfl
theorem u5030_13 {v0 : Value} {v1 : Value} {v2 : Value} {v3 : Value} {x : Int32} {y : Int32} : am_g d X am_m5030 13 [v0, v1, v2, v3] (.int y :: .int x :: sk) st Q = (¬ y = 0 ∧ am_g d X am_m5030 14 [v0, v1, v2, v3] (.int (x - x / y * y) :: sk) st Q) := am_gu.trans rfl
theorem u5030_14 {v0 : Value} {v1 : Value} {v2 : Value} {v3 : Value} {x : Int32} : am_g d X am_m5030 14 [v0, v1, v2, v3] (.int x :: sk) st Q = (if decide (x = 0) = true then am_g d X am_m5030 31 [v0, v1, v2, v3] sk st Q else am_g d X am_m5030 17 [v0, v1, v2, v3] sk st Q) := am_gu.trans rfl
theorem u5030_17 {v1 : Value} {v2 : Value} {v3 : Value} {x : Nat} : am_g d X am_m5030 17 [.ref x, v1, v2, v3] sk st Q = am_g d X am_m5030 18 [.ref x, v1, v2, v3] (.ref x :: sk) st Q := am_gu.trans rfl
theorem u5030_18 {v0 : Value} {v1 : Value} {v3 : Value} {x : Int32} : am_g d X am_m5030 18 [v0, v1, .int x, v3] sk st Q = am_g d X am_m5030 19 [v0, v1, .int x, v3] (.int x :: sk) st Q := am_gu.trans rfl
theorem u5030_19 {v0 : Value} {v1 : Value} {v2 : Value} {v3 : Value} : am_g d X am_m5030 19 [v0, v1, v2, v3] sk st Q = am_g d X am_m5030 20 [v0, v1, v2, v3] (.int (am_i 1) :: sk) st Q := am_gu.trans rfl
theorem u5030_20 {v0 : Value} {v1 : Value} {v2 : Value} {v3 : Value} {x : Int32} {y : Int32} : am_g d X am_m5030 20 [v0, v1, v2, v3] (.int y :: .int x :: sk) st Q = am_g d X am_m5030 21 [v0, v1, v2, v3] (.int (x - y) :: sk) st Q := am_gu.trans rfl
theorem u5030_21 {a0 : Value} {v0 : Value} {v1 : Value} {v2 : Value} {v3 : Value} : am_g d X am_m5030 21 [v0, v1, v2, v3] (a0 :: .ref o :: sk) st Q = ((am_ob st o 5 ∧ sk.length ≤ 4) ∧ am_Ca X d 5028 [.ref o, a0] st (am_af am_m5030 21 [v0, v1, v2, v3] sk (fun pc lc sk st => am_g d X am_m5030 pc lc sk st Q) Q)) := am_gu.trans rfl
theorem u5030_24 {v0 : Value} {v1 : Value} {v2 : Value} {v3 : Value} {x : Int32} : am_g d X am_m5030 24 [v0, v1, v2, v3] (.int x :: sk) st Q = (if decide (x = 0) = true then am_g d X am_m5030 31 [v0, v1, v2, v3] sk st Q else am_g d X am_m5030 27 [v0, v1, v2, v3] sk st Q) := am_gu.trans rfl
theorem u5030_27 {v0 : Value} {v1 : Value} {v2 : Value} {v3 : Value} : am_g d X am_m5030 27 [v0, v1, v2, v3] sk st Q = am_g d X am_m5030 28 [v0, v1, v2, v3] (.int (am_i 1) :: sk) st Q := am_gu.trans rfl
theorem u5030_28 {v0 : Value} {v1 : Value} {v2 : Value} {v3 : Value} : am_g d X am_m5030 28 [v0, v1, v2, v3] sk st Q = am_g d X am_m5030 32 [v0, v1, v2, v3] sk st Q := am_gu.trans rfl
theorem u5030_31 {v0 : Value} {v1 : Value} {v2 : Value} {v3 : Value} : am_g d X am_m5030 31 [v0, v1, v2, v3] sk st Q = am_g d X am_m5030 32 [v0, v1, v2, v3] (.int (am_i 0) :: sk) st Q := am_gu.trans rfl
theorem u5030_32 {v0 : Value} {v1 : Value} {v2 : Value} {v3 : Value} {x : Int32} : am_g d X am_m5030 32 [v0, v1, v2, v3] (.int x :: sk) st Q = am_g d X am_m5030 33 [v0, v1, am_kc v2, .int x] sk st Q := am_gu.trans (congrArg (fun l => am_g d X am_m5030 33 (List.set l 3 (.int x)) sk st Q) (kl_3 (l := [v3])))
theorem u5030_33 {v1 : Value} {v2 : Value} {v3 : Value} {x : Nat} : am_g d X am_m5030 33 [.ref x, v1, v2, v3] sk st Q = am_g d X am_m5030 34 [.ref x, v1, v2, v3] (.ref x :: sk) st Q := am_gu.trans rfl
theorem u5030_34 {v0 : Value} {v1 : Value} {v3 : Value} {x : Int32} : am_g d X am_m5030 34 [v0, v1, .int x, v3] sk st Q = am_g d X am_m5030 35 [v0, v1, .int x, v3] (.int x :: sk) st Q := am_gu.trans rfl
theorem u5030_35 {a0 : Value} {v0 : Value} {v1 : Value} {v2 : Value} {v3 : Value} : am_g d X am_m5030 35 [v0, v1, v2, v3] (a0 :: .ref o :: sk) st Q = ((am_ob st o 5 ∧ sk.length ≤ 4) ∧ am_Ca X d 5028 [.ref o, a0] st (am_af am_m5030 35 [v0, v1, v2, v3] sk (fun pc lc sk st => am_g d X am_m5030 pc lc sk st Q) Q)) := am_gu.trans rfl
theorem u5030_38 {v0 : Value} {v1 : Value} {v2 : Value} {v3 : Value} {x : Int32} : am_g d X am_m5030 38 [v0, v1, v2, v3] (.int x :: sk) st Q = (if decide (x = 0) = true then am_g d X am_m5030 48 [v0, v1, v2, v3] sk st Q else am_g d X am_m5030 41 [v0, v1, v2, v3] sk st Q) := am_gu.trans rfl
theorem u5030_41 {v0 : Value} {v1 : Value} {v2 : Value} {x : Int32} : am_g d X am_m5030 41 [v0, v1, v2, .int x] sk st Q = am_g d X am_m5030 42 [v0, v1, v2, .int x] (.int x :: sk) st Q := am_gu.trans rfl
theorem u5030_42 {v0 : Value} {v1 : Value} {v2 : Value} {v3 : Value} {x : Int32} : am_g d X am_m5030 42 [v0, v1, v2, v3] (.int x :: sk) st Q = (if decide (¬ x = 0) = true then am_g d X am_m5030 48 [v0, v1, v2, v3] sk st Q else am_g d X am_m5030 45 [v0, v1, v2, v3] sk st Q) := am_gu.trans rfl
theorem u5030_45 {v0 : Value} {v2 : Value} {v3 : Value} {x : Int32} : am_g d X am_m5030 45 [v0, .int x, v2, v3] sk st Q = am_g d X am_m5030 48 [am_kc v0, .int (x + am_i 1), v2, v3] sk st Q := am_gu.trans (congrArg (fun l => am_g d X am_m5030 48 (List.set l 1 (.int (x + am_i 1))) sk st Q) (kl_1 (l := [.int x, v2, v3])))
theorem u5030_48 {v0 : Value} {v1 : Value} {v3 : Value} {x : Int32} : am_g d X am_m5030 48 [v0, v1, .int x, v3] sk st Q = am_g d X am_m5030 51 [v0, am_kc v1, .int (x + am_i 1), v3] sk st Q := am_gu.trans (congrArg (fun l => am_g d X am_m5030 51 (List.set l 2 (.int (x + am_i 1))) sk st Q) (kl_2 (l := [.int x, v3])))
theorem u5030_51 {v0 : Value} {v1 : Value} {v2 : Value} {v3 : Value} : am_g d X am_m5030 51 [v0, v1, v2, v3] sk st Q = am_g d X am_m5030 4 [v0, v1, v2, v3] sk st Q := am_gu.trans rfl
theorem u5030_54 {v0 : Value} {v2 : Value} {v3 : Value} {x : Int32} : am_g d X am_m5030 54 [v0, .int x, v2, v3] sk st Q = am_g d X am_m5030 55 [v0, .int x, v2, v3] (.int x :: sk) st Q := am_gu.trans rfl
theorem u5030_55 {v0 : Value} {v1 : Value} {v2 : Value} {v3 : Value} {x : Int32} : am_g d X am_m5030 55 [v0, v1, v2, v3] [.int x] st Q = Q (.inl (some (.int x))) st := am_gu.trans rfl
set_option maxRecDepth 100000 in
theorem of_5031 : am_of 5031 = some am_m5031 := rfl
theorem c5031 {z} {P : am_Q} : am_Ca X (d + 1) 5031 [.ref z] st P = am_g d X am_m5031 0 [.ref z, am_u, am_u, am_u] [] st P := am_cg of_5031 (by show 1 ≤ 4; decide)
theorem hd_5031 : am_hd am_m5031 = [] := rfl
theorem u5031_0 {v0 : Value} {v1 : Value} {v2 : Value} {v3 : Value} : am_g d X am_m5031 0 [v0, v1, v2, v3] sk st Q = am_g d X am_m5031 1 [v0, v1, v2, v3] (.int (am_i 0) :: sk) st Q := am_gu.trans rfl
theorem u5031_1 {v0 : Value} {v1 : Value} {v2 : Value} {v3 : Value} {x : Int32} : am_g d X am_m5031 1 [v0, v1, v2, v3] (.int x :: sk) st Q = am_g d X am_m5031 2 [am_kc v0, .int x, v2, v3] sk st Q := am_gu.trans (congrArg (fun l => am_g d X am_m5031 2 (List.set l 1 (.int x)) sk st Q) (kl_1 (l := [v1, v2, v3])))
theorem u5031_2 {v0 : Value} {v1 : Value} {v2 : Value} {v3 : Value} : am_g d X am_m5031 2 [v0, v1, v2, v3] sk st Q = am_g d X am_m5031 3 [v0, v1, v2, v3] (.int (am_i 0) :: sk) st Q := am_gu.trans rfl
theorem u5031_3 {v0 : Value} {v1 : Value} {v2 : Value} {v3 : Value} {x : Int32} : am_g d X am_m5031 3 [v0, v1, v2, v3] (.int x :: sk) st Q = am_g d X am_m5031 4 [v0, am_kc v1, .int x, v3] sk st Q := am_gu.trans (congrArg (fun l => am_g d X am_m5031 4 (List.set l 2 (.int x)) sk st Q) (kl_2 (l := [v2, v3])))
theorem u5031_4 {v0 : Value} {v1 : Value} {v2 : Value} {v3 : Value} : am_g d X am_m5031 4 [v0, v1, v2, v3] sk st Q = am_g d X am_m5031 5 [v0, v1, v2, v3] (.int (am_i 0) :: sk) st Q := am_gu.trans rfl
theorem u5031_5 {v0 : Value} {v1 : Value} {v2 : Value} {v3 : Value} {x : Int32} : am_g d X am_m5031 5 [v0, v1, v2, v3] (.int x :: sk) st Q = am_g d X am_m5031 6 [v0, v1, am_kc v2, .int x] sk st Q := am_gu.trans (congrArg (fun l => am_g d X am_m5031 6 (List.set l 3 (.int x)) sk st Q) (kl_3 (l := [v3])))
theorem u5031_6 {v0 : Value} {v1 : Value} {v2 : Value} {x : Int32} : am_g d X am_m5031 6 [v0, v1, v2, .int x] sk st Q = am_g d X am_m5031 7 [v0, v1, v2, .int x] (.int x :: sk) st Q := am_gu.trans rfl
theorem u5031_7 {v0 : Value} {v1 : Value} {v2 : Value} {v3 : Value} : am_g d X am_m5031 7 [v0, v1, v2, v3] sk st Q = am_g d X am_m5031 9 [v0, v1, v2, v3] (.int (am_i 24) :: sk) st Q := am_gu.trans rfl
theorem u5031_9 {v0 : Value} {v1 : Value} {v2 : Value} {v3 : Value} {x : Int32} {y : Int32} : am_g d X am_m5031 9 [v0, v1, v2, v3] (.int y :: .int x :: sk) st Q = (if decide (y ≤ x) = true then am_g d X am_m5031 49 [v0, v1, v2, v3] sk st Q else am_g d X am_m5031 12 [v0, v1, v2, v3] sk st Q) := am_gu.trans rfl
theorem u5031_12 {v0 : Value} {v1 : Value} {v2 : Value} {x : Int32} : am_g d X am_m5031 12 [v0, v1, v2, .int x] sk st Q = am_g d X am_m5031 13 [v0, v1, v2, .int x] (.int x :: sk) st Q := am_gu.trans rfl
theorem u5031_13 {v0 : Value} {v1 : Value} {v2 : Value} {v3 : Value} : am_g d X am_m5031 13 [v0, v1, v2, v3] sk st Q = am_g d X am_m5031 15 [v0, v1, v2, v3] (.int (am_i 6) :: sk) st Q := am_gu.trans rfl
theorem u5031_15 {v0 : Value} {v1 : Value} {v2 : Value} {v3 : Value} {x : Int32} {y : Int32} : am_g d X am_m5031 15 [v0, v1, v2, v3] (.int y :: .int x :: sk) st Q = (¬ y = 0 ∧ am_g d X am_m5031 16 [v0, v1, v2, v3] (.int (x - x / y * y) :: sk) st Q) := am_gu.trans rfl
theorem u5031_16 {v0 : Value} {v1 : Value} {v2 : Value} {v3 : Value} {x : Int32} : am_g d X am_m5031 16 [v0, v1, v2, v3] (.int x :: sk) st Q = (if decide (¬ x = 0) = true then am_g d X am_m5031 21 [v0, v1, v2, v3] sk st Q else am_g d X am_m5031 19 [v0, v1, v2, v3] sk st Q) := am_gu.trans rfl
theorem u5031_19 {v0 : Value} {v1 : Value} {v2 : Value} {v3 : Value} : am_g d X am_m5031 19 [v0, v1, v2, v3] sk st Q = am_g d X am_m5031 20 [v0, v1, v2, v3] (.int (am_i 0) :: sk) st Q := am_gu.trans rfl
theorem u5031_20 {v0 : Value} {v1 : Value} {v2 : Value} {v3 : Value} {x : Int32} : am_g d X am_m5031 20 [v0, v1, v2, v3] (.int x :: sk) st Q = am_g d X am_m5031 21 [v0, am_kc v1, .int x, v3] sk st Q := am_gu.trans (congrArg (fun l => am_g d X am_m5031 21 (List.set l 2 (.int x)) sk st Q) (kl_2 (l := [v2, v3])))
theorem u5031_21 {v1 : Value} {v2 : Value} {v3 : Value} {x : Nat} : am_g d X am_m5031 21 [.ref x, v1, v2, v3] sk st Q = am_g d X am_m5031 22 [.ref x, v1, v2, v3] (.ref x :: sk) st Q := am_gu.trans rfl
theorem u5031_22 {v0 : Value} {v1 : Value} {v2 : Value} {x : Int32} : am_g d X am_m5031 22 [v0, v1, v2, .int x] sk st Q = am_g d X am_m5031 23 [v0, v1, v2, .int x] (.int x :: sk) st Q := am_gu.trans rfl
theorem u5031_23 {a0 : Value} {v0 : Value} {v1 : Value} {v2 : Value} {v3 : Value} : am_g d X am_m5031 23 [v0, v1, v2, v3] (a0 :: .ref o :: sk) st Q = ((am_ob st o 5 ∧ sk.length ≤ 4) ∧ am_Ca X d 5028 [.ref o, a0] st (am_af am_m5031 23 [v0, v1, v2, v3] sk (fun pc lc sk st => am_g d X am_m5031 pc lc sk st Q) Q)) := am_gu.trans rfl
theorem u5031_26 {v0 : Value} {v1 : Value} {v2 : Value} {v3 : Value} {x : Int32} : am_g d X am_m5031 26 [v0, v1, v2, v3] (.int x :: sk) st Q = (if decide (x = 0) = true then am_g d X am_m5031 35 [v0, v1, v2, v3] sk st Q else am_g d X am_m5031 29 [v0, v1, v2, v3] sk st Q) := am_gu.trans rfl
theorem u5031_29 {v0 : Value} {v1 : Value} {v3 : Value} {x : Int32} : am_g d X am_m5031 29 [v0, v1, .int x, v3] sk st Q = am_g d X am_m5031 30 [v0, v1, .int x, v3] (.int x :: sk) st Q := am_gu.trans rfl
theorem u5031_30 {v0 : Value} {v1 : Value} {v2 : Value} {v3 : Value} : am_g d X am_m5031 30 [v0, v1, v2, v3] sk st Q = am_g d X am_m5031 31 [v0, v1, v2, v3] (.int (am_i 1) :: sk) st Q := am_gu.trans rfl
theorem u5031_31 {v0 : Value} {v1 : Value} {v2 : Value} {v3 : Value} {x : Int32} {y : Int32} : am_g d X am_m5031 31 [v0, v1, v2, v3] (.int y :: .int x :: sk) st Q = am_g d X am_m5031 32 [v0, v1, v2, v3] (.int (x + y) :: sk) st Q := am_gu.trans rfl
theorem u5031_32 {v0 : Value} {v1 : Value} {v2 : Value} {v3 : Value} : am_g d X am_m5031 32 [v0, v1, v2, v3] sk st Q = am_g d X am_m5031 36 [v0, v1, v2, v3] sk st Q := am_gu.trans rfl
theorem u5031_35 {v0 : Value} {v1 : Value} {v2 : Value} {v3 : Value} : am_g d X am_m5031 35 [v0, v1, v2, v3] sk st Q = am_g d X am_m5031 36 [v0, v1, v2, v3] (.int (am_i 0) :: sk) st Q := am_gu.trans rfl
theorem u5031_36 {v0 : Value} {v1 : Value} {v2 : Value} {v3 : Value} {x : Int32} : am_g d X am_m5031 36 [v0, v1, v2, v3] (.int x :: sk) st Q = am_g d X am_m5031 37 [v0, am_kc v1, .int x, v3] sk st Q := am_gu.trans (congrArg (fun l => am_g d X am_m5031 37 (List.set l 2 (.int x)) sk st Q) (kl_2 (l := [v2, v3])))
theorem u5031_37 {v0 : Value} {v2 : Value} {v3 : Value} {x : Int32} : am_g d X am_m5031 37 [v0, .int x, v2, v3] sk st Q = am_g d X am_m5031 38 [v0, .int x, v2, v3] (.int x :: sk) st Q := am_gu.trans rfl
theorem u5031_38 {v0 : Value} {v1 : Value} {v3 : Value} {x : Int32} : am_g d X am_m5031 38 [v0, v1, .int x, v3] sk st Q = am_g d X am_m5031 39 [v0, v1, .int x, v3] (.int x :: sk) st Q := am_gu.trans rfl
theorem u5031_39 {v0 : Value} {v1 : Value} {v2 : Value} {v3 : Value} {x : Int32} {y : Int32} : am_g d X am_m5031 39 [v0, v1, v2, v3] (.int y :: .int x :: sk) st Q = (sk.length ≤ 4 ∧ am_g d X am_m5031 42 [v0, v1, v2, v3] (.int (if x < y then y else x) :: sk) st Q) := am_gu.trans rfl
theorem u5031_42 {v0 : Value} {v1 : Value} {v2 : Value} {v3 : Value} {x : Int32} : am_g d X am_m5031 42 [v0, v1, v2, v3] (.int x :: sk) st Q = am_g d X am_m5031 43 [am_kc v0, .int x, v2, v3] sk st Q := am_gu.trans (congrArg (fun l => am_g d X am_m5031 43 (List.set l 1 (.int x)) sk st Q) (kl_1 (l := [v1, v2, v3])))
theorem u5031_43 {v0 : Value} {v1 : Value} {v2 : Value} {x : Int32} : am_g d X am_m5031 43 [v0, v1, v2, .int x] sk st Q = am_g d X am_m5031 46 [v0, v1, am_kc v2, .int (x + am_i 1)] sk st Q := am_gu.trans (congrArg (fun l => am_g d X am_m5031 46 (List.set l 3 (.int (x + am_i 1))) sk st Q) (kl_3 (l := [.int x])))
theorem u5031_46 {v0 : Value} {v1 : Value} {v2 : Value} {v3 : Value} : am_g d X am_m5031 46 [v0, v1, v2, v3] sk st Q = am_g d X am_m5031 6 [v0, v1, v2, v3] sk st Q := am_gu.trans rfl
theorem u5031_49 {v0 : Value} {v2 : Value} {v3 : Value} {x : Int32} : am_g d X am_m5031 49 [v0, .int x, v2, v3] sk st Q = am_g d X am_m5031 50 [v0, .int x, v2, v3] (.int x :: sk) st Q := am_gu.trans rfl
theorem u5031_50 {v0 : Value} {v1 : Value} {v2 : Value} {v3 : Value} {x : Int32} : am_g d X am_m5031 50 [v0, v1, v2, v3] [.int x] st Q = Q (.inl (some (.int x))) st := am_gu.trans rfl
set_option maxRecDepth 100000 in
theorem of_5032 : am_of 5032 = some am_m5032 := rfl
theorem c5032 {z} {P : am_Q} : am_Ca X (d + 1) 5032 [.ref z] st P = am_g d X am_m5032 0 [.ref z] [] st P := am_cg of_5032 (by show 1 ≤ 1; decide)
theorem hd_5032 : am_hd am_m5032 = [] := rfl
theorem u5032_0 {x : Nat} : am_g d X am_m5032 0 [.ref x] sk st Q = am_g d X am_m5032 1 [.ref x] (.ref x :: sk) st Q := am_gu.trans rfl
theorem u5032_1 {v0 : Value} : am_g d X am_m5032 1 [v0] sk st Q = am_gt 170 4 [v0] sk st (fun pc lc sk st => am_g d X am_m5032 pc lc sk st Q) := am_gu.trans rfl
theorem u5032_4 {v0 : Value} {x : Int32} : am_g d X am_m5032 4 [v0] (.int x :: sk) st Q = (if decide (x < 0) = true then am_g d X am_m5032 59 [v0] sk st Q else am_g d X am_m5032 7 [v0] sk st Q) := am_gu.trans rfl
theorem u5032_7 {x : Nat} : am_g d X am_m5032 7 [.ref x] sk st Q = am_g d X am_m5032 8 [.ref x] (.ref x :: sk) st Q := am_gu.trans rfl
theorem u5032_8 {v0 : Value} : am_g d X am_m5032 8 [v0] sk st Q = am_gt 170 11 [v0] sk st (fun pc lc sk st => am_g d X am_m5032 pc lc sk st Q) := am_gu.trans rfl
theorem u5032_11 {v0 : Value} : am_g d X am_m5032 11 [v0] sk st Q = am_g d X am_m5032 12 [v0] (.int (am_i 3) :: sk) st Q := am_gu.trans rfl
theorem u5032_12 {v0 : Value} {x : Int32} {y : Int32} : am_g d X am_m5032 12 [v0] (.int y :: .int x :: sk) st Q = (if decide (y ≤ x) = true then am_g d X am_m5032 59 [v0] sk st Q else am_g d X am_m5032 15 [v0] sk st Q) := am_gu.trans rfl
theorem u5032_15 {x : Nat} : am_g d X am_m5032 15 [.ref x] sk st Q = am_g d X am_m5032 16 [.ref x] (.ref x :: sk) st Q := am_gu.trans rfl
theorem u5032_16 {v0 : Value} : am_g d X am_m5032 16 [v0] sk st Q = am_gt 171 19 [v0] sk st (fun pc lc sk st => am_g d X am_m5032 pc lc sk st Q) := am_gu.trans rfl
theorem u5032_19 {x : Nat} : am_g d X am_m5032 19 [.ref x] sk st Q = am_g d X am_m5032 20 [.ref x] (.ref x :: sk) st Q := am_gu.trans rfl
theorem u5032_20 {v0 : Value} : am_g d X am_m5032 20 [v0] sk st Q = am_gt 170 23 [v0] sk st (fun pc lc sk st => am_g d X am_m5032 pc lc sk st Q) := am_gu.trans rfl
theorem u5032_23 {x : Nat} : am_g d X am_m5032 23 [.ref x] sk st Q = am_g d X am_m5032 24 [.ref x] (.ref x :: sk) st Q := am_gu.trans rfl
theorem u5032_24 {v0 : Value} : am_g d X am_m5032 24 [v0] (.ref o :: sk) st Q = ((am_ob st o 5 ∧ sk.length ≤ 4) ∧ am_Ca X d 5016 [.ref o] st (am_af am_m5032 24 [v0] sk (fun pc lc sk st => am_g d X am_m5032 pc lc sk st Q) Q)) := am_gu.trans rfl
theorem u5032_27 {v0 : Value} : am_g d X am_m5032 27 [v0] sk st Q = am_xs 28 [v0] sk st (fun pc lc sk st => am_g d X am_m5032 pc lc sk st Q) := am_gu.trans rfl
theorem u5032_28 {x : Nat} : am_g d X am_m5032 28 [.ref x] sk st Q = am_g d X am_m5032 29 [.ref x] (.ref x :: sk) st Q := am_gu.trans rfl
theorem u5032_29 {v0 : Value} : am_g d X am_m5032 29 [v0] sk st Q = am_gt 166 32 [v0] sk st (fun pc lc sk st => am_g d X am_m5032 pc lc sk st Q) := am_gu.trans rfl
theorem u5032_32 {v0 : Value} : am_g d X am_m5032 32 [v0] sk st Q = am_g d X am_m5032 33 [v0] (.int (am_i 0) :: sk) st Q := am_gu.trans rfl
theorem u5032_33 {x : Nat} : am_g d X am_m5032 33 [.ref x] sk st Q = am_g d X am_m5032 34 [.ref x] (.ref x :: sk) st Q := am_gu.trans rfl
theorem u5032_34 {v0 : Value} : am_g d X am_m5032 34 [v0] sk st Q = am_gt 172 37 [v0] sk st (fun pc lc sk st => am_g d X am_m5032 pc lc sk st Q) := am_gu.trans rfl
theorem u5032_37 {x : Nat} : am_g d X am_m5032 37 [.ref x] sk st Q = am_g d X am_m5032 38 [.ref x] (.ref x :: sk) st Q := am_gu.trans rfl
theorem u5032_38 {v0 : Value} : am_g d X am_m5032 38 [v0] sk st Q = am_gt 170 41 [v0] sk st (fun pc lc sk st => am_g d X am_m5032 pc lc sk st Q) := am_gu.trans rfl
theorem u5032_41 {v0 : Value} : am_g d X am_m5032 41 [v0] sk st Q = am_g d X am_m5032 43 [v0] (.int (am_i 24) :: sk) st Q := am_gu.trans rfl
theorem u5032_43 {v0 : Value} {x : Int32} {y : Int32} : am_g d X am_m5032 43 [v0] (.int y :: .int x :: sk) st Q = am_g d X am_m5032 44 [v0] (.int (x * y) :: sk) st Q := am_gu.trans rfl
theorem u5032_44 {v0 : Value} : am_g d X am_m5032 44 [v0] sk st Q = am_g d X am_m5032 46 [v0] (.int (am_i 24) :: sk) st Q := am_gu.trans rfl
theorem u5032_46 {v0 : Value} : am_g d X am_m5032 46 [v0] sk st Q = am_cp 49 [v0] sk st (fun pc lc sk st => am_g d X am_m5032 pc lc sk st Q) := am_gu.trans rfl
theorem u5032_49 {x : Nat} : am_g d X am_m5032 49 [.ref x] sk st Q = am_g d X am_m5032 50 [.ref x] (.ref x :: sk) st Q := am_gu.trans rfl
theorem u5032_50i {v0 : Value} {x : Int32} : am_g d X am_m5032 50 [v0] (.int x :: sk) st Q = am_g d X am_m5032 51 [v0] (.int x :: .int x :: sk) st Q := am_gu.trans rfl
theorem u5032_50r {v0 : Value} {x : Nat} : am_g d X am_m5032 50 [v0] (.ref x :: sk) st Q = am_g d X am_m5032 51 [v0] (.ref x :: .ref x :: sk) st Q := am_gu.trans rfl
theorem u5032_51 {v0 : Value} : am_g d X am_m5032 51 [v0] sk st Q = am_gt 170 54 [v0] sk st (fun pc lc sk st => am_g d X am_m5032 pc lc sk st Q) := am_gu.trans rfl
theorem u5032_54 {v0 : Value} : am_g d X am_m5032 54 [v0] sk st Q = am_g d X am_m5032 55 [v0] (.int (am_i 1) :: sk) st Q := am_gu.trans rfl
theorem u5032_55 {v0 : Value} {x : Int32} {y : Int32} : am_g d X am_m5032 55 [v0] (.int y :: .int x :: sk) st Q = am_g d X am_m5032 56 [v0] (.int (x + y) :: sk) st Q := am_gu.trans rfl
theorem u5032_56 {v0 : Value} : am_g d X am_m5032 56 [v0] sk st Q = am_pt 170 59 [v0] sk st (fun pc lc sk st => am_g d X am_m5032 pc lc sk st Q) := am_gu.trans rfl
theorem u5032_59 {v0 : Value} : am_g d X am_m5032 59 [v0] [] st Q = Q (.inl none) st := am_gu.trans rfl
set_option maxRecDepth 100000 in
theorem of_5033 : am_of 5033 = some am_m5033 := rfl
theorem c5033 {z} {P : am_Q} : am_Ca X (d + 1) 5033 [.ref z] st P = am_g d X am_m5033 0 [.ref z, am_u] [] st P := am_cg of_5033 (by show 1 ≤ 2; decide)
theorem hd_5033 : am_hd am_m5033 = [] := rfl
theorem u5033_0 {v1 : Value} {x : Nat} : am_g d X am_m5033 0 [.ref x, v1] sk st Q = am_g d X am_m5033 1 [.ref x, v1] (.ref x :: sk) st Q := am_gu.trans rfl
theorem u5033_1 {v0 : Value} {v1 : Value} : am_g d X am_m5033 1 [v0, v1] sk st Q = am_gt 170 4 [v0, v1] sk st (fun pc lc sk st => am_g d X am_m5033 pc lc sk st Q) := am_gu.trans rfl
theorem u5033_4 {v0 : Value} {v1 : Value} : am_g d X am_m5033 4 [v0, v1] sk st Q = am_g d X am_m5033 5 [v0, v1] (.int (am_i 1) :: sk) st Q := am_gu.trans rfl
theorem u5033_5 {v0 : Value} {v1 : Value} {x : Int32} {y : Int32} : am_g d X am_m5033 5 [v0, v1] (.int y :: .int x :: sk) st Q = am_g d X am_m5033 6 [v0, v1] (.int (x - y) :: sk) st Q := am_gu.trans rfl
theorem u5033_6 {v0 : Value} {v1 : Value} {x : Int32} : am_g d X am_m5033 6 [v0, v1] (.int x :: sk) st Q = am_g d X am_m5033 7 [am_kc v0, .int x] sk st Q := am_gu.trans (congrArg (fun l => am_g d X am_m5033 7 (List.set l 1 (.int x)) sk st Q) (kl_1 (l := [v1])))
theorem u5033_7 {v0 : Value} {x : Int32} : am_g d X am_m5033 7 [v0, .int x] sk st Q = am_g d X am_m5033 8 [v0, .int x] (.int x :: sk) st Q := am_gu.trans rfl
theorem u5033_8 {v0 : Value} {v1 : Value} {x : Int32} : am_g d X am_m5033 8 [v0, v1] (.int x :: sk) st Q = (if decide (x < 0) = true then am_g d X am_m5033 25 [v0, v1] sk st Q else am_g d X am_m5033 11 [v0, v1] sk st Q) := am_gu.trans rfl
theorem u5033_11 {v0 : Value} {x : Int32} : am_g d X am_m5033 11 [v0, .int x] sk st Q = am_g d X am_m5033 12 [v0, .int x] (.int x :: sk) st Q := am_gu.trans rfl
theorem u5033_12 {v0 : Value} {v1 : Value} : am_g d X am_m5033 12 [v0, v1] sk st Q = am_g d X am_m5033 13 [v0, v1] (.int (am_i 3) :: sk) st Q := am_gu.trans rfl
theorem u5033_13 {v0 : Value} {v1 : Value} {x : Int32} {y : Int32} : am_g d X am_m5033 13 [v0, v1] (.int y :: .int x :: sk) st Q = (if decide (y ≤ x) = true then am_g d X am_m5033 25 [v0, v1] sk st Q else am_g d X am_m5033 16 [v0, v1] sk st Q) := am_gu.trans rfl
theorem u5033_16 {v1 : Value} {x : Nat} : am_g d X am_m5033 16 [.ref x, v1] sk st Q = am_g d X am_m5033 17 [.ref x, v1] (.ref x :: sk) st Q := am_gu.trans rfl
theorem u5033_17 {v0 : Value} {v1 : Value} : am_g d X am_m5033 17 [v0, v1] sk st Q = am_gt 171 20 [v0, v1] sk st (fun pc lc sk st => am_g d X am_m5033 pc lc sk st Q) := am_gu.trans rfl
theorem u5033_20 {v0 : Value} {x : Int32} : am_g d X am_m5033 20 [v0, .int x] sk st Q = am_g d X am_m5033 21 [v0, .int x] (.int x :: sk) st Q := am_gu.trans rfl
theorem u5033_21 {v0 : Value} {v1 : Value} : am_g d X am_m5033 21 [v0, v1] sk st Q = am_xl (X.1, X.2.1, d) am_m5033 22 [v0, v1] sk st (fun pc lc sk st => am_g d X am_m5033 pc lc sk st Q) := am_gu.trans rfl
theorem u5033_22 {v0 : Value} {v1 : Value} : am_g d X am_m5033 22 [v0, v1] sk st Q = am_g d X am_m5033 26 [v0, v1] sk st Q := am_gu.trans rfl
theorem u5033_25 {v0 : Value} {v1 : Value} : am_g d X am_m5033 25 [v0, v1] sk st Q = am_g d X am_m5033 26 [v0, v1] (.int (am_i (-1)) :: sk) st Q := am_gu.trans rfl
theorem u5033_26 {v0 : Value} {v1 : Value} {x : Int32} : am_g d X am_m5033 26 [v0, v1] [.int x] st Q = Q (.inl (some (.int x))) st := am_gu.trans rfl
set_option maxRecDepth 100000 in
theorem of_5034 : am_of 5034 = some am_m5034 := rfl
theorem c5034 {z a0} {P : am_Q} : am_Ca X (d + 1) 5034 [.ref z, .ref a0] st P = am_g d X am_m5034 0 [.ref z, .ref a0, am_u] [] st P := am_cg of_5034 (by show 2 ≤ 3; decide)
theorem hd_5034 : am_hd am_m5034 = [] := rfl
theorem u5034_0 {v1 : Value} {v2 : Value} {x : Nat} : am_g d X am_m5034 0 [.ref x, v1, v2] sk st Q = am_g d X am_m5034 1 [.ref x, v1, v2] (.ref x :: sk) st Q := am_gu.trans rfl
theorem u5034_1 {v0 : Value} {v1 : Value} {v2 : Value} : am_g d X am_m5034 1 [v0, v1, v2] sk st Q = am_gt 170 4 [v0, v1, v2] sk st (fun pc lc sk st => am_g d X am_m5034 pc lc sk st Q) := am_gu.trans rfl
theorem u5034_4 {v0 : Value} {v1 : Value} {v2 : Value} : am_g d X am_m5034 4 [v0, v1, v2] sk st Q = am_g d X am_m5034 5 [v0, v1, v2] (.int (am_i 1) :: sk) st Q := am_gu.trans rfl
theorem u5034_5 {v0 : Value} {v1 : Value} {v2 : Value} {x : Int32} {y : Int32} : am_g d X am_m5034 5 [v0, v1, v2] (.int y :: .int x :: sk) st Q = am_g d X am_m5034 6 [v0, v1, v2] (.int (x - y) :: sk) st Q := am_gu.trans rfl
theorem u5034_6 {v0 : Value} {v1 : Value} {v2 : Value} {x : Int32} : am_g d X am_m5034 6 [v0, v1, v2] (.int x :: sk) st Q = am_g d X am_m5034 7 [v0, am_kc v1, .int x] sk st Q := am_gu.trans (congrArg (fun l => am_g d X am_m5034 7 (List.set l 2 (.int x)) sk st Q) (kl_2 (l := [v2])))
theorem u5034_7 {v0 : Value} {v1 : Value} {x : Int32} : am_g d X am_m5034 7 [v0, v1, .int x] sk st Q = am_g d X am_m5034 8 [v0, v1, .int x] (.int x :: sk) st Q := am_gu.trans rfl
theorem u5034_8 {v0 : Value} {v1 : Value} {v2 : Value} {x : Int32} : am_g d X am_m5034 8 [v0, v1, v2] (.int x :: sk) st Q = (if decide (x < 0) = true then am_g d X am_m5034 38 [v0, v1, v2] sk st Q else am_g d X am_m5034 11 [v0, v1, v2] sk st Q) := am_gu.trans rfl
theorem u5034_11 {v0 : Value} {v1 : Value} {x : Int32} : am_g d X am_m5034 11 [v0, v1, .int x] sk st Q = am_g d X am_m5034 12 [v0, v1, .int x] (.int x :: sk) st Q := am_gu.trans rfl
theorem u5034_12 {v0 : Value} {v1 : Value} {v2 : Value} : am_g d X am_m5034 12 [v0, v1, v2] sk st Q = am_g d X am_m5034 13 [v0, v1, v2] (.int (am_i 3) :: sk) st Q := am_gu.trans rfl
theorem u5034_13 {v0 : Value} {v1 : Value} {v2 : Value} {x : Int32} {y : Int32} : am_g d X am_m5034 13 [v0, v1, v2] (.int y :: .int x :: sk) st Q = (if decide (y ≤ x) = true then am_g d X am_m5034 38 [v0, v1, v2] sk st Q else am_g d X am_m5034 16 [v0, v1, v2] sk st Q) := am_gu.trans rfl
theorem u5034_16 {v0 : Value} {v2 : Value} {x : Nat} : am_g d X am_m5034 16 [v0, .ref x, v2] sk st Q = am_g d X am_m5034 17 [v0, .ref x, v2] (.ref x :: sk) st Q := am_gu.trans rfl
theorem u5034_17 {v0 : Value} {v1 : Value} {v2 : Value} : am_g d X am_m5034 17 [v0, v1, v2] sk st Q = am_al (X.1, X.2.1, d) am_m5034 18 [v0, v1, v2] sk st (fun pc lc sk st => am_g d X am_m5034 pc lc sk st Q) := am_gu.trans rfl
theorem u5034_18 {v0 : Value} {v1 : Value} {v2 : Value} : am_g d X am_m5034 18 [v0, v1, v2] sk st Q = am_g d X am_m5034 20 [v0, v1, v2] (.int (am_i 24) :: sk) st Q := am_gu.trans rfl
theorem u5034_20 {v0 : Value} {v1 : Value} {v2 : Value} {x : Int32} {y : Int32} : am_g d X am_m5034 20 [v0, v1, v2] (.int y :: .int x :: sk) st Q = (if decide (x < y) = true then am_g d X am_m5034 38 [v0, v1, v2] sk st Q else am_g d X am_m5034 23 [v0, v1, v2] sk st Q) := am_gu.trans rfl
theorem u5034_23 {v1 : Value} {v2 : Value} {x : Nat} : am_g d X am_m5034 23 [.ref x, v1, v2] sk st Q = am_g d X am_m5034 24 [.ref x, v1, v2] (.ref x :: sk) st Q := am_gu.trans rfl
theorem u5034_24 {v0 : Value} {v1 : Value} {v2 : Value} : am_g d X am_m5034 24 [v0, v1, v2] sk st Q = am_gt 172 27 [v0, v1, v2] sk st (fun pc lc sk st => am_g d X am_m5034 pc lc sk st Q) := am_gu.trans rfl
theorem u5034_27 {v0 : Value} {v1 : Value} {x : Int32} : am_g d X am_m5034 27 [v0, v1, .int x] sk st Q = am_g d X am_m5034 28 [v0, v1, .int x] (.int x :: sk) st Q := am_gu.trans rfl
theorem u5034_28 {v0 : Value} {v1 : Value} {v2 : Value} : am_g d X am_m5034 28 [v0, v1, v2] sk st Q = am_g d X am_m5034 30 [v0, v1, v2] (.int (am_i 24) :: sk) st Q := am_gu.trans rfl
theorem u5034_30 {v0 : Value} {v1 : Value} {v2 : Value} {x : Int32} {y : Int32} : am_g d X am_m5034 30 [v0, v1, v2] (.int y :: .int x :: sk) st Q = am_g d X am_m5034 31 [v0, v1, v2] (.int (x * y) :: sk) st Q := am_gu.trans rfl
theorem u5034_31 {v0 : Value} {v2 : Value} {x : Nat} : am_g d X am_m5034 31 [v0, .ref x, v2] sk st Q = am_g d X am_m5034 32 [v0, .ref x, v2] (.ref x :: sk) st Q := am_gu.trans rfl
theorem u5034_32 {v0 : Value} {v1 : Value} {v2 : Value} : am_g d X am_m5034 32 [v0, v1, v2] sk st Q = am_g d X am_m5034 33 [v0, v1, v2] (.int (am_i 0) :: sk) st Q := am_gu.trans rfl
theorem u5034_33 {v0 : Value} {v1 : Value} {v2 : Value} : am_g d X am_m5034 33 [v0, v1, v2] sk st Q = am_g d X am_m5034 35 [v0, v1, v2] (.int (am_i 24) :: sk) st Q := am_gu.trans rfl
theorem u5034_35 {v0 : Value} {v1 : Value} {v2 : Value} : am_g d X am_m5034 35 [v0, v1, v2] sk st Q = am_cp 38 [v0, v1, v2] sk st (fun pc lc sk st => am_g d X am_m5034 pc lc sk st Q) := am_gu.trans rfl
theorem u5034_38 {v0 : Value} {v1 : Value} {v2 : Value} : am_g d X am_m5034 38 [v0, v1, v2] [] st Q = Q (.inl none) st := am_gu.trans rfl
set_option maxRecDepth 100000 in
theorem of_6001 : am_of 6001 = some am_m6001 := rfl
theorem c6001 {z} {P : am_Q} : am_Ca X (d + 1) 6001 [.ref z] st P = am_g d X am_m6001 0 [.ref z] [] st P := am_cg of_6001 (by show 1 ≤ 1; decide)
theorem hd_6001 : am_hd am_m6001 = [] := rfl
theorem u6001_0 {x : Nat} : am_g d X am_m6001 0 [.ref x] sk st Q = am_g d X am_m6001 1 [.ref x] (.ref x :: sk) st Q := am_gu.trans rfl
theorem u6001_1 {v0 : Value} : am_g d X am_m6001 1 [v0] (.ref o :: sk) st Q = (sk.length ≤ 4 ∧ am_g d X am_m6001 4 [v0] sk st Q) := am_gu.trans rfl
theorem u6001_4 {x : Nat} : am_g d X am_m6001 4 [.ref x] sk st Q = am_g d X am_m6001 5 [.ref x] (.ref x :: sk) st Q := am_gu.trans rfl
theorem u6001_5 {v0 : Value} : am_g d X am_m6001 5 [v0] sk st Q = am_nw 2 8 [v0] sk st (fun pc lc sk st => am_g d X am_m6001 pc lc sk st Q) := am_gu.trans rfl
theorem u6001_8i {v0 : Value} {x : Int32} : am_g d X am_m6001 8 [v0] (.int x :: sk) st Q = am_g d X am_m6001 9 [v0] (.int x :: .int x :: sk) st Q := am_gu.trans rfl
theorem u6001_8r {v0 : Value} {x : Nat} : am_g d X am_m6001 8 [v0] (.ref x :: sk) st Q = am_g d X am_m6001 9 [v0] (.ref x :: .ref x :: sk) st Q := am_gu.trans rfl
theorem u6001_9 {v0 : Value} : am_g d X am_m6001 9 [v0] (.ref o :: sk) st Q = ((am_ob st o 2 ∧ sk.length ≤ 4) ∧ am_Ca X d 2001 [.ref o] st (am_af am_m6001 9 [v0] sk (fun pc lc sk st => am_g d X am_m6001 pc lc sk st Q) Q)) := am_gu.trans rfl
theorem u6001_12 {v0 : Value} : am_g d X am_m6001 12 [v0] sk st Q = am_pt 192 15 [v0] sk st (fun pc lc sk st => am_g d X am_m6001 pc lc sk st Q) := am_gu.trans rfl
theorem u6001_15 {x : Nat} : am_g d X am_m6001 15 [.ref x] sk st Q = am_g d X am_m6001 16 [.ref x] (.ref x :: sk) st Q := am_gu.trans rfl
theorem u6001_16 {v0 : Value} : am_g d X am_m6001 16 [v0] sk st Q = am_nw 4 19 [v0] sk st (fun pc lc sk st => am_g d X am_m6001 pc lc sk st Q) := am_gu.trans rfl
theorem u6001_19i {v0 : Value} {x : Int32} : am_g d X am_m6001 19 [v0] (.int x :: sk) st Q = am_g d X am_m6001 20 [v0] (.int x :: .int x :: sk) st Q := am_gu.trans rfl
theorem u6001_19r {v0 : Value} {x : Nat} : am_g d X am_m6001 19 [v0] (.ref x :: sk) st Q = am_g d X am_m6001 20 [v0] (.ref x :: .ref x :: sk) st Q := am_gu.trans rfl
theorem u6001_20 {v0 : Value} : am_g d X am_m6001 20 [v0] (.ref o :: sk) st Q = ((am_ob st o 4 ∧ sk.length ≤ 4) ∧ am_Ca X d 4001 [.ref o] st (am_af am_m6001 20 [v0] sk (fun pc lc sk st => am_g d X am_m6001 pc lc sk st Q) Q)) := am_gu.trans rfl
theorem u6001_23 {v0 : Value} : am_g d X am_m6001 23 [v0] sk st Q = am_pt 193 26 [v0] sk st (fun pc lc sk st => am_g d X am_m6001 pc lc sk st Q) := am_gu.trans rfl
theorem u6001_26 {x : Nat} : am_g d X am_m6001 26 [.ref x] sk st Q = am_g d X am_m6001 27 [.ref x] (.ref x :: sk) st Q := am_gu.trans rfl
theorem u6001_27 {v0 : Value} : am_g d X am_m6001 27 [v0] sk st Q = am_nw 3 30 [v0] sk st (fun pc lc sk st => am_g d X am_m6001 pc lc sk st Q) := am_gu.trans rfl
theorem u6001_30i {v0 : Value} {x : Int32} : am_g d X am_m6001 30 [v0] (.int x :: sk) st Q = am_g d X am_m6001 31 [v0] (.int x :: .int x :: sk) st Q := am_gu.trans rfl
theorem u6001_30r {v0 : Value} {x : Nat} : am_g d X am_m6001 30 [v0] (.ref x :: sk) st Q = am_g d X am_m6001 31 [v0] (.ref x :: .ref x :: sk) st Q := am_gu.trans rfl
theorem u6001_31 {v0 : Value} : am_g d X am_m6001 31 [v0] (.ref o :: sk) st Q = ((am_ob st o 3 ∧ sk.length ≤ 4) ∧ am_Ca X d 3001 [.ref o] st (am_af am_m6001 31 [v0] sk (fun pc lc sk st => am_g d X am_m6001 pc lc sk st Q) Q)) := am_gu.trans rfl
theorem u6001_34 {v0 : Value} : am_g d X am_m6001 34 [v0] sk st Q = am_pt 194 37 [v0] sk st (fun pc lc sk st => am_g d X am_m6001 pc lc sk st Q) := am_gu.trans rfl
theorem u6001_37 {x : Nat} : am_g d X am_m6001 37 [.ref x] sk st Q = am_g d X am_m6001 38 [.ref x] (.ref x :: sk) st Q := am_gu.trans rfl
theorem u6001_38 {v0 : Value} : am_g d X am_m6001 38 [v0] sk st Q = am_nw 5 41 [v0] sk st (fun pc lc sk st => am_g d X am_m6001 pc lc sk st Q) := am_gu.trans rfl
theorem u6001_41i {v0 : Value} {x : Int32} : am_g d X am_m6001 41 [v0] (.int x :: sk) st Q = am_g d X am_m6001 42 [v0] (.int x :: .int x :: sk) st Q := am_gu.trans rfl
theorem u6001_41r {v0 : Value} {x : Nat} : am_g d X am_m6001 41 [v0] (.ref x :: sk) st Q = am_g d X am_m6001 42 [v0] (.ref x :: .ref x :: sk) st Q := am_gu.trans rfl
theorem u6001_42 {v0 : Value} : am_g d X am_m6001 42 [v0] (.ref o :: sk) st Q = ((am_ob st o 5 ∧ sk.length ≤ 4) ∧ am_Ca X d 5001 [.ref o] st (am_af am_m6001 42 [v0] sk (fun pc lc sk st => am_g d X am_m6001 pc lc sk st Q) Q)) := am_gu.trans rfl
theorem u6001_45 {v0 : Value} : am_g d X am_m6001 45 [v0] sk st Q = am_pt 195 48 [v0] sk st (fun pc lc sk st => am_g d X am_m6001 pc lc sk st Q) := am_gu.trans rfl
theorem u6001_48 {x : Nat} : am_g d X am_m6001 48 [.ref x] sk st Q = am_g d X am_m6001 49 [.ref x] (.ref x :: sk) st Q := am_gu.trans rfl
theorem u6001_49 {v0 : Value} : am_g d X am_m6001 49 [v0] sk st Q = am_g d X am_m6001 50 [v0] (.int (am_i 0) :: sk) st Q := am_gu.trans rfl
theorem u6001_50 {v0 : Value} : am_g d X am_m6001 50 [v0] sk st Q = am_pt 196 53 [v0] sk st (fun pc lc sk st => am_g d X am_m6001 pc lc sk st Q) := am_gu.trans rfl
theorem u6001_53 {v0 : Value} : am_g d X am_m6001 53 [v0] [] st Q = Q (.inl none) st := am_gu.trans rfl
set_option maxRecDepth 100000 in
theorem of_6002 : am_of 6002 = some am_m6002 := rfl
theorem c6002 {z a0} {P : am_Q} : am_Ca X (d + 1) 6002 [.ref z, .int a0] st P = am_g d X am_m6002 0 [.ref z, .int a0] [] st P := am_cg of_6002 (by show 2 ≤ 2; decide)
theorem hd_6002 : am_hd am_m6002 = [] := rfl
theorem u6002_0 {v0 : Value} {x : Int32} : am_g d X am_m6002 0 [v0, .int x] sk st Q = am_g d X am_m6002 1 [v0, .int x] (.int x :: sk) st Q := am_gu.trans rfl
theorem u6002_1 {v0 : Value} {v1 : Value} : am_g d X am_m6002 1 [v0, v1] sk st Q = am_g d X am_m6002 3 [v0, v1] (.int (am_i 32) :: sk) st Q := am_gu.trans rfl
theorem u6002_3 {v0 : Value} {v1 : Value} {x : Int32} {y : Int32} : am_g d X am_m6002 3 [v0, v1] (.int y :: .int x :: sk) st Q = (if decide (x < y) = true then am_g d X am_m6002 12 [v0, v1] sk st Q else am_g d X am_m6002 6 [v0, v1] sk st Q) := am_gu.trans rfl
theorem u6002_6 {v0 : Value} {x : Int32} : am_g d X am_m6002 6 [v0, .int x] sk st Q = am_g d X am_m6002 7 [v0, .int x] (.int x :: sk) st Q := am_gu.trans rfl
theorem u6002_7 {v0 : Value} {v1 : Value} : am_g d X am_m6002 7 [v0, v1] sk st Q = am_g d X am_m6002 9 [v0, v1] (.int (am_i 126) :: sk) st Q := am_gu.trans rfl
theorem u6002_9 {v0 : Value} {v1 : Value} {x : Int32} {y : Int32} : am_g d X am_m6002 9 [v0, v1] (.int y :: .int x :: sk) st Q = (if decide (x ≤ y) = true then am_g d X am_m6002 22 [v0, v1] sk st Q else am_g d X am_m6002 12 [v0, v1] sk st Q) := am_gu.trans rfl
theorem u6002_12 {v0 : Value} {v1 : Value} : am_g d X am_m6002 12 [v0, v1] [] (n, sh, cl, sl, F, A, L) Q = ((5 ≤ d ∧ n ≤ cl) ∧ Q (.inr 0) (n, sh, cl + 1, sl + 6, F, A, L)) := am_gu.trans (propext ⟨fun h => ⟨⟨h.1.2.2.1, h.1.2.2.2⟩, h.2⟩, fun h => ⟨⟨rfl, Nat.zero_le _, h.1.1, h.1.2⟩, h.2⟩⟩)
theorem u6002_22 {v1 : Value} {x : Nat} : am_g d X am_m6002 22 [.ref x, v1] sk st Q = am_g d X am_m6002 23 [.ref x, v1] (.ref x :: sk) st Q := am_gu.trans rfl
theorem u6002_23 {v0 : Value} {v1 : Value} : am_g d X am_m6002 23 [v0, v1] sk st Q = am_gt 192 26 [v0, v1] sk st (fun pc lc sk st => am_g d X am_m6002 pc lc sk st Q) := am_gu.trans rfl
theorem u6002_26 {v0 : Value} {v1 : Value} : am_g d X am_m6002 26 [v0, v1] (.ref o :: sk) st Q = ((am_ob st o 2 ∧ sk.length ≤ 4) ∧ am_Ca X d 2003 [.ref o] st (am_af am_m6002 26 [v0, v1] sk (fun pc lc sk st => am_g d X am_m6002 pc lc sk st Q) Q)) := am_gu.trans rfl
theorem u6002_29 {v0 : Value} {v1 : Value} {x : Int32} : am_g d X am_m6002 29 [v0, v1] (.int x :: sk) st Q = (if decide (x = 0) = true then am_g d X am_m6002 42 [v0, v1] sk st Q else am_g d X am_m6002 32 [v0, v1] sk st Q) := am_gu.trans rfl
theorem u6002_32 {v0 : Value} {v1 : Value} : am_g d X am_m6002 32 [v0, v1] [] (n, sh, cl, sl, F, A, L) Q = ((5 ≤ d ∧ n ≤ cl) ∧ Q (.inr 1) (n, sh, cl + 1, sl + 6, F, A, L)) := am_gu.trans (propext ⟨fun h => ⟨⟨h.1.2.2.1, h.1.2.2.2⟩, h.2⟩, fun h => ⟨⟨rfl, Nat.zero_le _, h.1.1, h.1.2⟩, h.2⟩⟩)
theorem u6002_42 {v1 : Value} {x : Nat} : am_g d X am_m6002 42 [.ref x, v1] sk st Q = am_g d X am_m6002 43 [.ref x, v1] (.ref x :: sk) st Q := am_gu.trans rfl
theorem u6002_43 {v0 : Value} {v1 : Value} : am_g d X am_m6002 43 [v0, v1] sk st Q = am_gt 192 46 [v0, v1] sk st (fun pc lc sk st => am_g d X am_m6002 pc lc sk st Q) := am_gu.trans rfl
theorem u6002_46 {v0 : Value} {x : Int32} : am_g d X am_m6002 46 [v0, .int x] sk st Q = am_g d X am_m6002 47 [v0, .int x] (.int x :: sk) st Q := am_gu.trans rfl
theorem u6002_47 {a0 : Value} {v0 : Value} {v1 : Value} : am_g d X am_m6002 47 [v0, v1] (a0 :: .ref o :: sk) st Q = ((am_ob st o 2 ∧ sk.length ≤ 4) ∧ am_Ca X d 2004 [.ref o, a0] st (am_af am_m6002 47 [v0, v1] sk (fun pc lc sk st => am_g d X am_m6002 pc lc sk st Q) Q)) := am_gu.trans rfl
theorem u6002_50 {v0 : Value} {v1 : Value} {x : Int32} : am_g d X am_m6002 50 [v0, v1] [.int x] st Q = Q (.inl (some (.int x))) st := am_gu.trans rfl
set_option maxRecDepth 100000 in
theorem of_6003 : am_of 6003 = some am_m6003 := rfl
theorem c6003 {z} {P : am_Q} : am_Ca X (d + 1) 6003 [.ref z] st P = am_g d X am_m6003 0 [.ref z] [] st P := am_cg of_6003 (by show 1 ≤ 1; decide)
theorem hd_6003 : am_hd am_m6003 = [] := rfl
theorem u6003_0 {x : Nat} : am_g d X am_m6003 0 [.ref x] sk st Q = am_g d X am_m6003 1 [.ref x] (.ref x :: sk) st Q := am_gu.trans rfl
theorem u6003_1 {v0 : Value} : am_g d X am_m6003 1 [v0] sk st Q = am_gt 192 4 [v0] sk st (fun pc lc sk st => am_g d X am_m6003 pc lc sk st Q) := am_gu.trans rfl
theorem u6003_4 {v0 : Value} : am_g d X am_m6003 4 [v0] (.ref o :: sk) st Q = ((am_ob st o 2 ∧ sk.length ≤ 4) ∧ am_Ca X d 2005 [.ref o] st (am_af am_m6003 4 [v0] sk (fun pc lc sk st => am_g d X am_m6003 pc lc sk st Q) Q)) := am_gu.trans rfl
theorem u6003_7 {v0 : Value} {x : Int32} : am_g d X am_m6003 7 [v0] [.int x] st Q = Q (.inl (some (.int x))) st := am_gu.trans rfl
set_option maxRecDepth 100000 in
theorem of_6004 : am_of 6004 = some am_m6004 := rfl
theorem c6004 {z} {P : am_Q} : am_Ca X (d + 1) 6004 [.ref z] st P = am_g d X am_m6004 0 [.ref z] [] st P := am_cg of_6004 (by show 1 ≤ 1; decide)
theorem hd_6004 : am_hd am_m6004 = [] := rfl
theorem u6004_0 {x : Nat} : am_g d X am_m6004 0 [.ref x] sk st Q = am_g d X am_m6004 1 [.ref x] (.ref x :: sk) st Q := am_gu.trans rfl
theorem u6004_1 {v0 : Value} : am_g d X am_m6004 1 [v0] sk st Q = am_gt 192 4 [v0] sk st (fun pc lc sk st => am_g d X am_m6004 pc lc sk st Q) := am_gu.trans rfl
theorem u6004_4 {v0 : Value} : am_g d X am_m6004 4 [v0] (.ref o :: sk) st Q = ((am_ob st o 2 ∧ sk.length ≤ 4) ∧ am_Ca X d 2007 [.ref o] st (am_af am_m6004 4 [v0] sk (fun pc lc sk st => am_g d X am_m6004 pc lc sk st Q) Q)) := am_gu.trans rfl
theorem u6004_7 {v0 : Value} {x : Int32} : am_g d X am_m6004 7 [v0] [.int x] st Q = Q (.inl (some (.int x))) st := am_gu.trans rfl
set_option maxRecDepth 100000 in
theorem of_6005 : am_of 6005 = some am_m6005 := rfl
theorem c6005 {z} {P : am_Q} : am_Ca X (d + 1) 6005 [.ref z] st P = am_g d X am_m6005 0 [.ref z, am_u, am_u] [] st P := am_cg of_6005 (by show 1 ≤ 3; decide)
theorem hd_6005 : am_hd am_m6005 = [] := rfl
theorem u6005_0 {v1 : Value} {v2 : Value} {x : Nat} : am_g d X am_m6005 0 [.ref x, v1, v2] sk st Q = am_g d X am_m6005 1 [.ref x, v1, v2] (.ref x :: sk) st Q := am_gu.trans rfl
theorem u6005_1 {v0 : Value} {v1 : Value} {v2 : Value} : am_g d X am_m6005 1 [v0, v1, v2] sk st Q = am_gt 192 4 [v0, v1, v2] sk st (fun pc lc sk st => am_g d X am_m6005 pc lc sk st Q) := am_gu.trans rfl
theorem u6005_4 {v0 : Value} {v1 : Value} {v2 : Value} : am_g d X am_m6005 4 [v0, v1, v2] (.ref o :: sk) st Q = ((am_ob st o 2 ∧ sk.length ≤ 4) ∧ am_Ca X d 2007 [.ref o] st (am_af am_m6005 4 [v0, v1, v2] sk (fun pc lc sk st => am_g d X am_m6005 pc lc sk st Q) Q)) := am_gu.trans rfl
theorem u6005_7 {v0 : Value} {v1 : Value} {v2 : Value} : am_g d X am_m6005 7 [v0, v1, v2] sk st Q = am_g d X am_m6005 8 [v0, v1, v2] (.int (am_i (-1)) :: sk) st Q := am_gu.trans rfl
theorem u6005_8 {v0 : Value} {v1 : Value} {v2 : Value} {x : Int32} {y : Int32} : am_g d X am_m6005 8 [v0, v1, v2] (.int y :: .int x :: sk) st Q = (if decide (x = y) = true then am_g d X am_m6005 21 [v0, v1, v2] sk st Q else am_g d X am_m6005 11 [v0, v1, v2] sk st Q) := am_gu.trans rfl
theorem u6005_11 {v0 : Value} {v1 : Value} {v2 : Value} : am_g d X am_m6005 11 [v0, v1, v2] [] (n, sh, cl, sl, F, A, L) Q = ((5 ≤ d ∧ n ≤ cl) ∧ Q (.inr 1) (n, sh, cl + 1, sl + 6, F, A, L)) := am_gu.trans (propext ⟨fun h => ⟨⟨h.1.2.2.1, h.1.2.2.2⟩, h.2⟩, fun h => ⟨⟨rfl, Nat.zero_le _, h.1.1, h.1.2⟩, h.2⟩⟩)
theorem u6005_21 {v1 : Value} {v2 : Value} {x : Nat} : am_g d X am_m6005 21 [.ref x, v1, v2] sk st Q = am_g d X am_m6005 22 [.ref x, v1, v2] (.ref x :: sk) st Q := am_gu.trans rfl
theorem u6005_22 {v0 : Value} {v1 : Value} {v2 : Value} : am_g d X am_m6005 22 [v0, v1, v2] (.ref o :: sk) st Q = ((am_ob st o 6 ∧ sk.length ≤ 4) ∧ am_Ca X d 6067 [.ref o] st (am_af am_m6005 22 [v0, v1, v2] sk (fun pc lc sk st => am_g d X am_m6005 pc lc sk st Q) Q)) := am_gu.trans rfl
theorem u6005_25 {v0 : Value} {v1 : Value} {v2 : Value} : am_g d X am_m6005 25 [v0, v1, v2] sk st Q = am_g d X am_m6005 26 [v0, v1, v2] (.int (am_i 0) :: sk) st Q := am_gu.trans rfl
theorem u6005_26 {v0 : Value} {v1 : Value} {v2 : Value} {x : Int32} : am_g d X am_m6005 26 [v0, v1, v2] (.int x :: sk) st Q = am_g d X am_m6005 27 [am_kc v0, .int x, v2] sk st Q := am_gu.trans (congrArg (fun l => am_g d X am_m6005 27 (List.set l 1 (.int x)) sk st Q) (kl_1 (l := [v1, v2])))
theorem u6005_27 {v0 : Value} {v1 : Value} {v2 : Value} : am_g d X am_m6005 27 [v0, v1, v2] sk st Q = am_g d X am_m6005 28 [v0, v1, v2] (.int (am_i 0) :: sk) st Q := am_gu.trans rfl
theorem u6005_28 {v0 : Value} {v1 : Value} {v2 : Value} {x : Int32} : am_g d X am_m6005 28 [v0, v1, v2] (.int x :: sk) st Q = am_g d X am_m6005 29 [v0, am_kc v1, .int x] sk st Q := am_gu.trans (congrArg (fun l => am_g d X am_m6005 29 (List.set l 2 (.int x)) sk st Q) (kl_2 (l := [v2])))
theorem u6005_29 {v0 : Value} {v1 : Value} {x : Int32} : am_g d X am_m6005 29 [v0, v1, .int x] sk st Q = am_g d X am_m6005 30 [v0, v1, .int x] (.int x :: sk) st Q := am_gu.trans rfl
theorem u6005_30 {v0 : Value} {v1 : Value} {v2 : Value} : am_g d X am_m6005 30 [v0, v1, v2] sk st Q = am_g d X am_m6005 32 [v0, v1, v2] (.int (am_i 60) :: sk) st Q := am_gu.trans rfl
theorem u6005_32 {v0 : Value} {v1 : Value} {v2 : Value} {x : Int32} {y : Int32} : am_g d X am_m6005 32 [v0, v1, v2] (.int y :: .int x :: sk) st Q = (if decide (y ≤ x) = true then am_g d X am_m6005 78 [v0, v1, v2] sk st Q else am_g d X am_m6005 35 [v0, v1, v2] sk st Q) := am_gu.trans rfl
theorem u6005_35 {v0 : Value} {v2 : Value} {x : Int32} : am_g d X am_m6005 35 [v0, .int x, v2] sk st Q = am_g d X am_m6005 36 [v0, .int x, v2] (.int x :: sk) st Q := am_gu.trans rfl
theorem u6005_36 {v1 : Value} {v2 : Value} {x : Nat} : am_g d X am_m6005 36 [.ref x, v1, v2] sk st Q = am_g d X am_m6005 37 [.ref x, v1, v2] (.ref x :: sk) st Q := am_gu.trans rfl
theorem u6005_37 {v0 : Value} {v1 : Value} {v2 : Value} : am_g d X am_m6005 37 [v0, v1, v2] sk st Q = am_gt 192 40 [v0, v1, v2] sk st (fun pc lc sk st => am_g d X am_m6005 pc lc sk st Q) := am_gu.trans rfl
theorem u6005_40 {v0 : Value} {v1 : Value} {v2 : Value} : am_g d X am_m6005 40 [v0, v1, v2] (.ref o :: sk) st Q = ((am_ob st o 2 ∧ sk.length ≤ 4) ∧ am_Ca X d 2002 [.ref o] st (am_af am_m6005 40 [v0, v1, v2] sk (fun pc lc sk st => am_g d X am_m6005 pc lc sk st Q) Q)) := am_gu.trans rfl
theorem u6005_43 {v0 : Value} {v1 : Value} {v2 : Value} {x : Int32} {y : Int32} : am_g d X am_m6005 43 [v0, v1, v2] (.int y :: .int x :: sk) st Q = (if decide (y ≤ x) = true then am_g d X am_m6005 54 [v0, v1, v2] sk st Q else am_g d X am_m6005 46 [v0, v1, v2] sk st Q) := am_gu.trans rfl
theorem u6005_46 {v1 : Value} {v2 : Value} {x : Nat} : am_g d X am_m6005 46 [.ref x, v1, v2] sk st Q = am_g d X am_m6005 47 [.ref x, v1, v2] (.ref x :: sk) st Q := am_gu.trans rfl
theorem u6005_47 {v0 : Value} {v2 : Value} {x : Int32} : am_g d X am_m6005 47 [v0, .int x, v2] sk st Q = am_g d X am_m6005 48 [v0, .int x, v2] (.int x :: sk) st Q := am_gu.trans rfl
theorem u6005_48 {a0 : Value} {v0 : Value} {v1 : Value} {v2 : Value} : am_g d X am_m6005 48 [v0, v1, v2] (a0 :: .ref o :: sk) st Q = ((am_ob st o 6 ∧ sk.length ≤ 4) ∧ am_Ca X d 6068 [.ref o, a0] st (am_af am_m6005 48 [v0, v1, v2] sk (fun pc lc sk st => am_g d X am_m6005 pc lc sk st Q) Q)) := am_gu.trans rfl
theorem u6005_51 {v0 : Value} {v1 : Value} {v2 : Value} {x : Int32} : am_g d X am_m6005 51 [v0, v1, v2] (.int x :: sk) st Q = (if decide (¬ x = 0) = true then am_g d X am_m6005 56 [v0, v1, v2] sk st Q else am_g d X am_m6005 54 [v0, v1, v2] sk st Q) := am_gu.trans rfl
theorem u6005_54 {v0 : Value} {v1 : Value} {x : Int32} : am_g d X am_m6005 54 [v0, v1, .int x] sk st Q = am_g d X am_m6005 55 [v0, v1, .int x] (.int x :: sk) st Q := am_gu.trans rfl
theorem u6005_55 {v0 : Value} {v1 : Value} {v2 : Value} {x : Int32} : am_g d X am_m6005 55 [v0, v1, v2] [.int x] st Q = Q (.inl (some (.int x))) st := am_gu.trans rfl
theorem u6005_56 {v1 : Value} {v2 : Value} {x : Nat} : am_g d X am_m6005 56 [.ref x, v1, v2] sk st Q = am_g d X am_m6005 57 [.ref x, v1, v2] (.ref x :: sk) st Q := am_gu.trans rfl
theorem u6005_57 {v0 : Value} {v2 : Value} {x : Int32} : am_g d X am_m6005 57 [v0, .int x, v2] sk st Q = am_g d X am_m6005 58 [v0, .int x, v2] (.int x :: sk) st Q := am_gu.trans rfl
theorem u6005_58 {a0 : Value} {v0 : Value} {v1 : Value} {v2 : Value} : am_g d X am_m6005 58 [v0, v1, v2] (a0 :: .ref o :: sk) st Q = ((am_ob st o 6 ∧ sk.length ≤ 4) ∧ am_Ca X d 6069 [.ref o, a0] st (am_af am_m6005 58 [v0, v1, v2] sk (fun pc lc sk st => am_g d X am_m6005 pc lc sk st Q) Q)) := am_gu.trans rfl
theorem u6005_61 {v1 : Value} {v2 : Value} {x : Nat} : am_g d X am_m6005 61 [.ref x, v1, v2] sk st Q = am_g d X am_m6005 62 [.ref x, v1, v2] (.ref x :: sk) st Q := am_gu.trans rfl
theorem u6005_62 {v0 : Value} {v1 : Value} {v2 : Value} : am_g d X am_m6005 62 [v0, v1, v2] sk st Q = am_gt 192 65 [v0, v1, v2] sk st (fun pc lc sk st => am_g d X am_m6005 pc lc sk st Q) := am_gu.trans rfl
theorem u6005_65 {v0 : Value} {v2 : Value} {x : Int32} : am_g d X am_m6005 65 [v0, .int x, v2] sk st Q = am_g d X am_m6005 66 [v0, .int x, v2] (.int x :: sk) st Q := am_gu.trans rfl
theorem u6005_66 {a0 : Value} {v0 : Value} {v1 : Value} {v2 : Value} : am_g d X am_m6005 66 [v0, v1, v2] (a0 :: .ref o :: sk) st Q = ((am_ob st o 2 ∧ sk.length ≤ 4) ∧ am_Ca X d 2008 [.ref o, a0] st (am_af am_m6005 66 [v0, v1, v2] sk (fun pc lc sk st => am_g d X am_m6005 pc lc sk st Q) Q)) := am_gu.trans rfl
theorem u6005_69 {v0 : Value} {v1 : Value} {v2 : Value} : am_g d X am_m6005 69 [v0, v1, v2] sk st Q = am_g d X am_m6005 70 [v0, v1, v2] (.int (am_i 1) :: sk) st Q := am_gu.trans rfl
theorem u6005_70 {v0 : Value} {v1 : Value} {v2 : Value} {x : Int32} {y : Int32} : am_g d X am_m6005 70 [v0, v1, v2] (.int y :: .int x :: sk) st Q = am_g d X am_m6005 71 [v0, v1, v2] (.int (x + y) :: sk) st Q := am_gu.trans rfl
theorem u6005_71 {v0 : Value} {v1 : Value} {v2 : Value} {x : Int32} : am_g d X am_m6005 71 [v0, v1, v2] (.int x :: sk) st Q = am_g d X am_m6005 72 [am_kc v0, .int x, v2] sk st Q := am_gu.trans (congrArg (fun l => am_g d X am_m6005 72 (List.set l 1 (.int x)) sk st Q) (kl_1 (l := [v1, v2])))
theorem u6005_72 {v0 : Value} {v1 : Value} {x : Int32} : am_g d X am_m6005 72 [v0, v1, .int x] sk st Q = am_g d X am_m6005 75 [v0, am_kc v1, .int (x + am_i 1)] sk st Q := am_gu.trans (congrArg (fun l => am_g d X am_m6005 75 (List.set l 2 (.int (x + am_i 1))) sk st Q) (kl_2 (l := [.int x])))
theorem u6005_75 {v0 : Value} {v1 : Value} {v2 : Value} : am_g d X am_m6005 75 [v0, v1, v2] sk st Q = am_g d X am_m6005 29 [v0, v1, v2] sk st Q := am_gu.trans rfl
theorem u6005_78 {v0 : Value} {v1 : Value} {v2 : Value} : am_g d X am_m6005 78 [v0, v1, v2] sk st Q = am_g d X am_m6005 80 [v0, v1, v2] (.int (am_i 60) :: sk) st Q := am_gu.trans rfl
theorem u6005_80 {v0 : Value} {v1 : Value} {v2 : Value} {x : Int32} : am_g d X am_m6005 80 [v0, v1, v2] [.int x] st Q = Q (.inl (some (.int x))) st := am_gu.trans rfl
set_option maxRecDepth 100000 in
theorem of_6006 : am_of 6006 = some am_m6006 := rfl
theorem c6006 {z a0 a1 a2} {P : am_Q} : am_Ca X (d + 1) 6006 [.ref z, .int a0, .int a1, .int a2] st P = am_g d X am_m6006 0 [.ref z, .int a0, .int a1, .int a2] [] st P := am_cg of_6006 (by show 4 ≤ 4; decide)
theorem hd_6006 : am_hd am_m6006 = [] := rfl
theorem u6006_0 {v0 : Value} {v2 : Value} {v3 : Value} {x : Int32} : am_g d X am_m6006 0 [v0, .int x, v2, v3] sk st Q = am_g d X am_m6006 1 [v0, .int x, v2, v3] (.int x :: sk) st Q := am_gu.trans rfl
theorem u6006_1 {v0 : Value} {v1 : Value} {v3 : Value} {x : Int32} : am_g d X am_m6006 1 [v0, v1, .int x, v3] sk st Q = am_g d X am_m6006 2 [v0, v1, .int x, v3] (.int x :: sk) st Q := am_gu.trans rfl
theorem u6006_2 {a0 : Value} {a1 : Value} {v0 : Value} {v1 : Value} {v2 : Value} {v3 : Value} : am_g d X am_m6006 2 [v0, v1, v2, v3] (a1 :: a0 :: sk) st Q = (sk.length ≤ 4 ∧ am_Ca X d 6062 [a0, a1] st (am_af am_m6006 2 [v0, v1, v2, v3] sk (fun pc lc sk st => am_g d X am_m6006 pc lc sk st Q) Q)) := am_gu.trans (propext ⟨fun h => ⟨h.1.2, h.2⟩, fun h => ⟨⟨Nat.le_add_left _ _, h.1⟩, h.2⟩⟩)
theorem u6006_5 {v0 : Value} {v1 : Value} {v2 : Value} {x : Int32} : am_g d X am_m6006 5 [v0, v1, v2, .int x] sk st Q = am_g d X am_m6006 6 [v0, v1, v2, .int x] (.int x :: sk) st Q := am_gu.trans rfl
theorem u6006_6 {v0 : Value} {v1 : Value} {v2 : Value} {v3 : Value} {x : Int32} : am_g d X am_m6006 6 [v0, v1, v2, v3] (.int x :: sk) st Q = (if decide (x < 0) = true then am_g d X am_m6006 15 [v0, v1, v2, v3] sk st Q else am_g d X am_m6006 9 [v0, v1, v2, v3] sk st Q) := am_gu.trans rfl
theorem u6006_9 {v0 : Value} {v1 : Value} {v2 : Value} {x : Int32} : am_g d X am_m6006 9 [v0, v1, v2, .int x] sk st Q = am_g d X am_m6006 10 [v0, v1, v2, .int x] (.int x :: sk) st Q := am_gu.trans rfl
theorem u6006_10 {v0 : Value} {v1 : Value} {v2 : Value} {v3 : Value} : am_g d X am_m6006 10 [v0, v1, v2, v3] sk st Q = am_g d X am_m6006 12 [v0, v1, v2, v3] (.int (am_i 100) :: sk) st Q := am_gu.trans rfl
theorem u6006_12 {v0 : Value} {v1 : Value} {v2 : Value} {v3 : Value} {x : Int32} {y : Int32} : am_g d X am_m6006 12 [v0, v1, v2, v3] (.int y :: .int x :: sk) st Q = (if decide (x < y) = true then am_g d X am_m6006 25 [v0, v1, v2, v3] sk st Q else am_g d X am_m6006 15 [v0, v1, v2, v3] sk st Q) := am_gu.trans rfl
theorem u6006_15 {v0 : Value} {v1 : Value} {v2 : Value} {v3 : Value} : am_g d X am_m6006 15 [v0, v1, v2, v3] [] (n, sh, cl, sl, F, A, L) Q = ((5 ≤ d ∧ n ≤ cl) ∧ Q (.inr 0) (n, sh, cl + 1, sl + 6, F, A, L)) := am_gu.trans (propext ⟨fun h => ⟨⟨h.1.2.2.1, h.1.2.2.2⟩, h.2⟩, fun h => ⟨⟨rfl, Nat.zero_le _, h.1.1, h.1.2⟩, h.2⟩⟩)
theorem u6006_25 {v1 : Value} {v2 : Value} {v3 : Value} {x : Nat} : am_g d X am_m6006 25 [.ref x, v1, v2, v3] sk st Q = am_g d X am_m6006 26 [.ref x, v1, v2, v3] (.ref x :: sk) st Q := am_gu.trans rfl
theorem u6006_26 {v0 : Value} {v1 : Value} {v2 : Value} {v3 : Value} : am_g d X am_m6006 26 [v0, v1, v2, v3] (.ref o :: sk) st Q = ((am_ob st o 6 ∧ sk.length ≤ 4) ∧ am_Ca X d 6067 [.ref o] st (am_af am_m6006 26 [v0, v1, v2, v3] sk (fun pc lc sk st => am_g d X am_m6006 pc lc sk st Q) Q)) := am_gu.trans rfl
theorem u6006_29 {v1 : Value} {v2 : Value} {v3 : Value} {x : Nat} : am_g d X am_m6006 29 [.ref x, v1, v2, v3] sk st Q = am_g d X am_m6006 30 [.ref x, v1, v2, v3] (.ref x :: sk) st Q := am_gu.trans rfl
theorem u6006_30 {v0 : Value} {v1 : Value} {v2 : Value} {v3 : Value} : am_g d X am_m6006 30 [v0, v1, v2, v3] sk st Q = am_gt 193 33 [v0, v1, v2, v3] sk st (fun pc lc sk st => am_g d X am_m6006 pc lc sk st Q) := am_gu.trans rfl
theorem u6006_33 {v0 : Value} {v2 : Value} {v3 : Value} {x : Int32} : am_g d X am_m6006 33 [v0, .int x, v2, v3] sk st Q = am_g d X am_m6006 34 [v0, .int x, v2, v3] (.int x :: sk) st Q := am_gu.trans rfl
theorem u6006_34 {v0 : Value} {v1 : Value} {v3 : Value} {x : Int32} : am_g d X am_m6006 34 [v0, v1, .int x, v3] sk st Q = am_g d X am_m6006 35 [v0, v1, .int x, v3] (.int x :: sk) st Q := am_gu.trans rfl
theorem u6006_35 {a0 : Value} {a1 : Value} {v0 : Value} {v1 : Value} {v2 : Value} {v3 : Value} : am_g d X am_m6006 35 [v0, v1, v2, v3] (a1 :: a0 :: sk) st Q = (sk.length ≤ 4 ∧ am_Ca X d 6061 [a0, a1] st (am_af am_m6006 35 [v0, v1, v2, v3] sk (fun pc lc sk st => am_g d X am_m6006 pc lc sk st Q) Q)) := am_gu.trans (propext ⟨fun h => ⟨h.1.2, h.2⟩, fun h => ⟨⟨Nat.le_add_left _ _, h.1⟩, h.2⟩⟩)
theorem u6006_38 {v0 : Value} {v1 : Value} {v2 : Value} {x : Int32} : am_g d X am_m6006 38 [v0, v1, v2, .int x] sk st Q = am_g d X am_m6006 39 [v0, v1, v2, .int x] (.int x :: sk) st Q := am_gu.trans rfl
theorem u6006_39 {a0 : Value} {a1 : Value} {v0 : Value} {v1 : Value} {v2 : Value} {v3 : Value} : am_g d X am_m6006 39 [v0, v1, v2, v3] (a1 :: a0 :: .ref o :: sk) st Q = ((am_ob st o 4 ∧ sk.length ≤ 4) ∧ am_Ca X d 4002 [.ref o, a0, a1] st (am_af am_m6006 39 [v0, v1, v2, v3] sk (fun pc lc sk st => am_g d X am_m6006 pc lc sk st Q) Q)) := am_gu.trans rfl
theorem u6006_42 {v0 : Value} {v1 : Value} {v2 : Value} {v3 : Value} {x : Int32} : am_g d X am_m6006 42 [v0, v1, v2, v3] [.int x] st Q = Q (.inl (some (.int x))) st := am_gu.trans rfl
set_option maxRecDepth 100000 in
theorem of_6007 : am_of 6007 = some am_m6007 := rfl
theorem c6007 {z} {P : am_Q} : am_Ca X (d + 1) 6007 [.ref z] st P = am_g d X am_m6007 0 [.ref z] [] st P := am_cg of_6007 (by show 1 ≤ 1; decide)
theorem hd_6007 : am_hd am_m6007 = [] := rfl
theorem u6007_0 {x : Nat} : am_g d X am_m6007 0 [.ref x] sk st Q = am_g d X am_m6007 1 [.ref x] (.ref x :: sk) st Q := am_gu.trans rfl
theorem u6007_1 {v0 : Value} : am_g d X am_m6007 1 [v0] sk st Q = am_gt 193 4 [v0] sk st (fun pc lc sk st => am_g d X am_m6007 pc lc sk st Q) := am_gu.trans rfl
theorem u6007_4 {v0 : Value} : am_g d X am_m6007 4 [v0] (.ref o :: sk) st Q = ((am_ob st o 4 ∧ sk.length ≤ 4) ∧ am_Ca X d 4003 [.ref o] st (am_af am_m6007 4 [v0] sk (fun pc lc sk st => am_g d X am_m6007 pc lc sk st Q) Q)) := am_gu.trans rfl
theorem u6007_7 {v0 : Value} {x : Int32} : am_g d X am_m6007 7 [v0] (.int x :: sk) st Q = (if decide (¬ x = 0) = true then am_g d X am_m6007 20 [v0] sk st Q else am_g d X am_m6007 10 [v0] sk st Q) := am_gu.trans rfl
theorem u6007_10 {v0 : Value} : am_g d X am_m6007 10 [v0] [] (n, sh, cl, sl, F, A, L) Q = ((5 ≤ d ∧ n ≤ cl) ∧ Q (.inr 1) (n, sh, cl + 1, sl + 6, F, A, L)) := am_gu.trans (propext ⟨fun h => ⟨⟨h.1.2.2.1, h.1.2.2.2⟩, h.2⟩, fun h => ⟨⟨rfl, Nat.zero_le _, h.1.1, h.1.2⟩, h.2⟩⟩)
theorem u6007_20 {x : Nat} : am_g d X am_m6007 20 [.ref x] sk st Q = am_g d X am_m6007 21 [.ref x] (.ref x :: sk) st Q := am_gu.trans rfl
theorem u6007_21 {v0 : Value} : am_g d X am_m6007 21 [v0] (.ref o :: sk) st Q = ((am_ob st o 6 ∧ sk.length ≤ 4) ∧ am_Ca X d 6067 [.ref o] st (am_af am_m6007 21 [v0] sk (fun pc lc sk st => am_g d X am_m6007 pc lc sk st Q) Q)) := am_gu.trans rfl
theorem u6007_24 {x : Nat} : am_g d X am_m6007 24 [.ref x] sk st Q = am_g d X am_m6007 25 [.ref x] (.ref x :: sk) st Q := am_gu.trans rfl
theorem u6007_25 {v0 : Value} : am_g d X am_m6007 25 [v0] sk st Q = am_gt 193 28 [v0] sk st (fun pc lc sk st => am_g d X am_m6007 pc lc sk st Q) := am_gu.trans rfl
theorem u6007_28 {v0 : Value} : am_g d X am_m6007 28 [v0] (.ref o :: sk) st Q = ((am_ob st o 4 ∧ sk.length ≤ 4) ∧ am_Ca X d 4004 [.ref o] st (am_af am_m6007 28 [v0] sk (fun pc lc sk st => am_g d X am_m6007 pc lc sk st Q) Q)) := am_gu.trans rfl
theorem u6007_31 {v0 : Value} {x : Int32} : am_g d X am_m6007 31 [v0] [.int x] st Q = Q (.inl (some (.int x))) st := am_gu.trans rfl
set_option maxRecDepth 100000 in
theorem of_6008 : am_of 6008 = some am_m6008 := rfl
theorem c6008 {z a0} {P : am_Q} : am_Ca X (d + 1) 6008 [.ref z, .int a0] st P = am_g d X am_m6008 0 [.ref z, .int a0] [] st P := am_cg of_6008 (by show 2 ≤ 2; decide)
theorem hd_6008 : am_hd am_m6008 = [] := rfl
theorem u6008_0 {v1 : Value} {x : Nat} : am_g d X am_m6008 0 [.ref x, v1] sk st Q = am_g d X am_m6008 1 [.ref x, v1] (.ref x :: sk) st Q := am_gu.trans rfl
theorem u6008_1 {v0 : Value} {x : Int32} : am_g d X am_m6008 1 [v0, .int x] sk st Q = am_g d X am_m6008 2 [v0, .int x] (.int x :: sk) st Q := am_gu.trans rfl
theorem u6008_2 {a0 : Value} {v0 : Value} {v1 : Value} : am_g d X am_m6008 2 [v0, v1] (a0 :: .ref o :: sk) st Q = ((am_ob st o 6 ∧ sk.length ≤ 4) ∧ am_Ca X d 6065 [.ref o, a0] st (am_af am_m6008 2 [v0, v1] sk (fun pc lc sk st => am_g d X am_m6008 pc lc sk st Q) Q)) := am_gu.trans rfl
theorem u6008_5 {v1 : Value} {x : Nat} : am_g d X am_m6008 5 [.ref x, v1] sk st Q = am_g d X am_m6008 6 [.ref x, v1] (.ref x :: sk) st Q := am_gu.trans rfl
theorem u6008_6 {v0 : Value} {v1 : Value} : am_g d X am_m6008 6 [v0, v1] (.ref o :: sk) st Q = ((am_ob st o 6 ∧ sk.length ≤ 4) ∧ am_Ca X d 6067 [.ref o] st (am_af am_m6008 6 [v0, v1] sk (fun pc lc sk st => am_g d X am_m6008 pc lc sk st Q) Q)) := am_gu.trans rfl
theorem u6008_9 {v1 : Value} {x : Nat} : am_g d X am_m6008 9 [.ref x, v1] sk st Q = am_g d X am_m6008 10 [.ref x, v1] (.ref x :: sk) st Q := am_gu.trans rfl
theorem u6008_10 {v0 : Value} {v1 : Value} : am_g d X am_m6008 10 [v0, v1] sk st Q = am_gt 193 13 [v0, v1] sk st (fun pc lc sk st => am_g d X am_m6008 pc lc sk st Q) := am_gu.trans rfl
theorem u6008_13 {v0 : Value} {x : Int32} : am_g d X am_m6008 13 [v0, .int x] sk st Q = am_g d X am_m6008 14 [v0, .int x] (.int x :: sk) st Q := am_gu.trans rfl
theorem u6008_14 {a0 : Value} {v0 : Value} {v1 : Value} : am_g d X am_m6008 14 [v0, v1] (a0 :: .ref o :: sk) st Q = ((am_ob st o 4 ∧ sk.length ≤ 4) ∧ am_Ca X d 4005 [.ref o, a0] st (am_af am_m6008 14 [v0, v1] sk (fun pc lc sk st => am_g d X am_m6008 pc lc sk st Q) Q)) := am_gu.trans rfl
theorem u6008_17 {v0 : Value} {v1 : Value} {x : Int32} : am_g d X am_m6008 17 [v0, v1] [.int x] st Q = Q (.inl (some (.int x))) st := am_gu.trans rfl
set_option maxRecDepth 100000 in
theorem of_6009 : am_of 6009 = some am_m6009 := rfl
theorem c6009 {z} {P : am_Q} : am_Ca X (d + 1) 6009 [.ref z] st P = am_g d X am_m6009 0 [.ref z] [] st P := am_cg of_6009 (by show 1 ≤ 1; decide)
theorem hd_6009 : am_hd am_m6009 = [] := rfl
theorem u6009_0 {x : Nat} : am_g d X am_m6009 0 [.ref x] sk st Q = am_g d X am_m6009 1 [.ref x] (.ref x :: sk) st Q := am_gu.trans rfl
theorem u6009_1 {v0 : Value} : am_g d X am_m6009 1 [v0] sk st Q = am_gt 193 4 [v0] sk st (fun pc lc sk st => am_g d X am_m6009 pc lc sk st Q) := am_gu.trans rfl
theorem u6009_4 {v0 : Value} : am_g d X am_m6009 4 [v0] (.ref o :: sk) st Q = ((am_ob st o 4 ∧ sk.length ≤ 4) ∧ am_Ca X d 4006 [.ref o] st (am_af am_m6009 4 [v0] sk (fun pc lc sk st => am_g d X am_m6009 pc lc sk st Q) Q)) := am_gu.trans rfl
theorem u6009_7 {v0 : Value} {x : Int32} : am_g d X am_m6009 7 [v0] (.int x :: sk) st Q = (if decide (¬ x = 0) = true then am_g d X am_m6009 20 [v0] sk st Q else am_g d X am_m6009 10 [v0] sk st Q) := am_gu.trans rfl
theorem u6009_10 {v0 : Value} : am_g d X am_m6009 10 [v0] [] (n, sh, cl, sl, F, A, L) Q = ((5 ≤ d ∧ n ≤ cl) ∧ Q (.inr 1) (n, sh, cl + 1, sl + 6, F, A, L)) := am_gu.trans (propext ⟨fun h => ⟨⟨h.1.2.2.1, h.1.2.2.2⟩, h.2⟩, fun h => ⟨⟨rfl, Nat.zero_le _, h.1.1, h.1.2⟩, h.2⟩⟩)
theorem u6009_20 {x : Nat} : am_g d X am_m6009 20 [.ref x] sk st Q = am_g d X am_m6009 21 [.ref x] (.ref x :: sk) st Q := am_gu.trans rfl
theorem u6009_21 {v0 : Value} : am_g d X am_m6009 21 [v0] (.ref o :: sk) st Q = ((am_ob st o 6 ∧ sk.length ≤ 4) ∧ am_Ca X d 6067 [.ref o] st (am_af am_m6009 21 [v0] sk (fun pc lc sk st => am_g d X am_m6009 pc lc sk st Q) Q)) := am_gu.trans rfl
theorem u6009_24 {x : Nat} : am_g d X am_m6009 24 [.ref x] sk st Q = am_g d X am_m6009 25 [.ref x] (.ref x :: sk) st Q := am_gu.trans rfl
theorem u6009_25 {v0 : Value} : am_g d X am_m6009 25 [v0] sk st Q = am_gt 193 28 [v0] sk st (fun pc lc sk st => am_g d X am_m6009 pc lc sk st Q) := am_gu.trans rfl
theorem u6009_28 {v0 : Value} : am_g d X am_m6009 28 [v0] (.ref o :: sk) st Q = ((am_ob st o 4 ∧ sk.length ≤ 4) ∧ am_Ca X d 4007 [.ref o] st (am_af am_m6009 28 [v0] sk (fun pc lc sk st => am_g d X am_m6009 pc lc sk st Q) Q)) := am_gu.trans rfl
theorem u6009_31 {v0 : Value} {x : Int32} : am_g d X am_m6009 31 [v0] [.int x] st Q = Q (.inl (some (.int x))) st := am_gu.trans rfl
set_option maxRecDepth 100000 in
theorem of_6010 : am_of 6010 = some am_m6010 := rfl
theorem c6010 {z} {P : am_Q} : am_Ca X (d + 1) 6010 [.ref z] st P = am_g d X am_m6010 0 [.ref z] [] st P := am_cg of_6010 (by show 1 ≤ 1; decide)
theorem hd_6010 : am_hd am_m6010 = [] := rfl
theorem u6010_0 {x : Nat} : am_g d X am_m6010 0 [.ref x] sk st Q = am_g d X am_m6010 1 [.ref x] (.ref x :: sk) st Q := am_gu.trans rfl
theorem u6010_1 {v0 : Value} : am_g d X am_m6010 1 [v0] sk st Q = am_gt 193 4 [v0] sk st (fun pc lc sk st => am_g d X am_m6010 pc lc sk st Q) := am_gu.trans rfl
theorem u6010_4 {v0 : Value} : am_g d X am_m6010 4 [v0] (.ref o :: sk) st Q = ((am_ob st o 4 ∧ sk.length ≤ 4) ∧ am_Ca X d 4008 [.ref o] st (am_af am_m6010 4 [v0] sk (fun pc lc sk st => am_g d X am_m6010 pc lc sk st Q) Q)) := am_gu.trans rfl
theorem u6010_7 {v0 : Value} {x : Int32} : am_g d X am_m6010 7 [v0] (.int x :: sk) st Q = (if decide (¬ x = 0) = true then am_g d X am_m6010 20 [v0] sk st Q else am_g d X am_m6010 10 [v0] sk st Q) := am_gu.trans rfl
theorem u6010_10 {v0 : Value} : am_g d X am_m6010 10 [v0] [] (n, sh, cl, sl, F, A, L) Q = ((5 ≤ d ∧ n ≤ cl) ∧ Q (.inr 1) (n, sh, cl + 1, sl + 6, F, A, L)) := am_gu.trans (propext ⟨fun h => ⟨⟨h.1.2.2.1, h.1.2.2.2⟩, h.2⟩, fun h => ⟨⟨rfl, Nat.zero_le _, h.1.1, h.1.2⟩, h.2⟩⟩)
theorem u6010_20 {x : Nat} : am_g d X am_m6010 20 [.ref x] sk st Q = am_g d X am_m6010 21 [.ref x] (.ref x :: sk) st Q := am_gu.trans rfl
theorem u6010_21 {v0 : Value} : am_g d X am_m6010 21 [v0] (.ref o :: sk) st Q = ((am_ob st o 6 ∧ sk.length ≤ 4) ∧ am_Ca X d 6067 [.ref o] st (am_af am_m6010 21 [v0] sk (fun pc lc sk st => am_g d X am_m6010 pc lc sk st Q) Q)) := am_gu.trans rfl
theorem u6010_24 {x : Nat} : am_g d X am_m6010 24 [.ref x] sk st Q = am_g d X am_m6010 25 [.ref x] (.ref x :: sk) st Q := am_gu.trans rfl
theorem u6010_25 {v0 : Value} : am_g d X am_m6010 25 [v0] sk st Q = am_gt 193 28 [v0] sk st (fun pc lc sk st => am_g d X am_m6010 pc lc sk st Q) := am_gu.trans rfl
theorem u6010_28 {v0 : Value} : am_g d X am_m6010 28 [v0] (.ref o :: sk) st Q = ((am_ob st o 4 ∧ sk.length ≤ 4) ∧ am_Ca X d 4009 [.ref o] st (am_af am_m6010 28 [v0] sk (fun pc lc sk st => am_g d X am_m6010 pc lc sk st Q) Q)) := am_gu.trans rfl
theorem u6010_31 {v0 : Value} {x : Int32} : am_g d X am_m6010 31 [v0] [.int x] st Q = Q (.inl (some (.int x))) st := am_gu.trans rfl
set_option maxRecDepth 100000 in
theorem of_6011 : am_of 6011 = some am_m6011 := rfl
theorem c6011 {z} {P : am_Q} : am_Ca X (d + 1) 6011 [.ref z] st P = am_g d X am_m6011 0 [.ref z] [] st P := am_cg of_6011 (by show 1 ≤ 1; decide)
theorem hd_6011 : am_hd am_m6011 = [] := rfl
theorem u6011_0 {x : Nat} : am_g d X am_m6011 0 [.ref x] sk st Q = am_g d X am_m6011 1 [.ref x] (.ref x :: sk) st Q := am_gu.trans rfl
theorem u6011_1 {v0 : Value} : am_g d X am_m6011 1 [v0] sk st Q = am_gt 193 4 [v0] sk st (fun pc lc sk st => am_g d X am_m6011 pc lc sk st Q) := am_gu.trans rfl
theorem u6011_4 {v0 : Value} : am_g d X am_m6011 4 [v0] (.ref o :: sk) st Q = ((am_ob st o 4 ∧ sk.length ≤ 4) ∧ am_Ca X d 4010 [.ref o] st (am_af am_m6011 4 [v0] sk (fun pc lc sk st => am_g d X am_m6011 pc lc sk st Q) Q)) := am_gu.trans rfl
theorem u6011_7 {v0 : Value} {x : Int32} : am_g d X am_m6011 7 [v0] (.int x :: sk) st Q = (if decide (¬ x = 0) = true then am_g d X am_m6011 20 [v0] sk st Q else am_g d X am_m6011 10 [v0] sk st Q) := am_gu.trans rfl
theorem u6011_10 {v0 : Value} : am_g d X am_m6011 10 [v0] [] (n, sh, cl, sl, F, A, L) Q = ((5 ≤ d ∧ n ≤ cl) ∧ Q (.inr 1) (n, sh, cl + 1, sl + 6, F, A, L)) := am_gu.trans (propext ⟨fun h => ⟨⟨h.1.2.2.1, h.1.2.2.2⟩, h.2⟩, fun h => ⟨⟨rfl, Nat.zero_le _, h.1.1, h.1.2⟩, h.2⟩⟩)
theorem u6011_20 {x : Nat} : am_g d X am_m6011 20 [.ref x] sk st Q = am_g d X am_m6011 21 [.ref x] (.ref x :: sk) st Q := am_gu.trans rfl
theorem u6011_21 {v0 : Value} : am_g d X am_m6011 21 [v0] (.ref o :: sk) st Q = ((am_ob st o 6 ∧ sk.length ≤ 4) ∧ am_Ca X d 6067 [.ref o] st (am_af am_m6011 21 [v0] sk (fun pc lc sk st => am_g d X am_m6011 pc lc sk st Q) Q)) := am_gu.trans rfl
theorem u6011_24 {x : Nat} : am_g d X am_m6011 24 [.ref x] sk st Q = am_g d X am_m6011 25 [.ref x] (.ref x :: sk) st Q := am_gu.trans rfl
theorem u6011_25 {v0 : Value} : am_g d X am_m6011 25 [v0] sk st Q = am_gt 193 28 [v0] sk st (fun pc lc sk st => am_g d X am_m6011 pc lc sk st Q) := am_gu.trans rfl
theorem u6011_28 {v0 : Value} : am_g d X am_m6011 28 [v0] (.ref o :: sk) st Q = ((am_ob st o 4 ∧ sk.length ≤ 4) ∧ am_Ca X d 4011 [.ref o] st (am_af am_m6011 28 [v0] sk (fun pc lc sk st => am_g d X am_m6011 pc lc sk st Q) Q)) := am_gu.trans rfl
theorem u6011_31 {v0 : Value} {x : Int32} : am_g d X am_m6011 31 [v0] [.int x] st Q = Q (.inl (some (.int x))) st := am_gu.trans rfl
set_option maxRecDepth 100000 in
theorem of_6012 : am_of 6012 = some am_m6012 := rfl
theorem c6012 {z a0} {P : am_Q} : am_Ca X (d + 1) 6012 [.ref z, .int a0] st P = am_g d X am_m6012 0 [.ref z, .int a0] [] st P := am_cg of_6012 (by show 2 ≤ 2; decide)
theorem hd_6012 : am_hd am_m6012 = [] := rfl
theorem u6012_0 {v0 : Value} {x : Int32} : am_g d X am_m6012 0 [v0, .int x] sk st Q = am_g d X am_m6012 1 [v0, .int x] (.int x :: sk) st Q := am_gu.trans rfl
theorem u6012_1 {a0 : Value} {v0 : Value} {v1 : Value} : am_g d X am_m6012 1 [v0, v1] (a0 :: sk) st Q = (sk.length ≤ 4 ∧ am_Ca X d 6063 [a0] st (am_af am_m6012 1 [v0, v1] sk (fun pc lc sk st => am_g d X am_m6012 pc lc sk st Q) Q)) := am_gu.trans (propext ⟨fun h => ⟨h.1.2, h.2⟩, fun h => ⟨⟨Nat.le_add_left _ _, h.1⟩, h.2⟩⟩)
theorem u6012_4 {v1 : Value} {x : Nat} : am_g d X am_m6012 4 [.ref x, v1] sk st Q = am_g d X am_m6012 5 [.ref x, v1] (.ref x :: sk) st Q := am_gu.trans rfl
theorem u6012_5 {v0 : Value} {v1 : Value} : am_g d X am_m6012 5 [v0, v1] sk st Q = am_gt 193 8 [v0, v1] sk st (fun pc lc sk st => am_g d X am_m6012 pc lc sk st Q) := am_gu.trans rfl
theorem u6012_8 {v0 : Value} {x : Int32} : am_g d X am_m6012 8 [v0, .int x] sk st Q = am_g d X am_m6012 9 [v0, .int x] (.int x :: sk) st Q := am_gu.trans rfl
theorem u6012_9 {a0 : Value} {v0 : Value} {v1 : Value} : am_g d X am_m6012 9 [v0, v1] (a0 :: .ref o :: sk) st Q = ((am_ob st o 4 ∧ sk.length ≤ 4) ∧ am_Ca X d 4012 [.ref o, a0] st (am_af am_m6012 9 [v0, v1] sk (fun pc lc sk st => am_g d X am_m6012 pc lc sk st Q) Q)) := am_gu.trans rfl
theorem u6012_12 {v0 : Value} {v1 : Value} {x : Int32} : am_g d X am_m6012 12 [v0, v1] (.int x :: sk) st Q = (if decide (¬ x = 0) = true then am_g d X am_m6012 25 [v0, v1] sk st Q else am_g d X am_m6012 15 [v0, v1] sk st Q) := am_gu.trans rfl
theorem u6012_15 {v0 : Value} {v1 : Value} : am_g d X am_m6012 15 [v0, v1] [] (n, sh, cl, sl, F, A, L) Q = ((5 ≤ d ∧ n ≤ cl) ∧ Q (.inr 1) (n, sh, cl + 1, sl + 6, F, A, L)) := am_gu.trans (propext ⟨fun h => ⟨⟨h.1.2.2.1, h.1.2.2.2⟩, h.2⟩, fun h => ⟨⟨rfl, Nat.zero_le _, h.1.1, h.1.2⟩, h.2⟩⟩)
theorem u6012_25 {v1 : Value} {x : Nat} : am_g d X am_m6012 25 [.ref x, v1] sk st Q = am_g d X am_m6012 26 [.ref x, v1] (.ref x :: sk) st Q := am_gu.trans rfl
theorem u6012_26 {v0 : Value} {v1 : Value} : am_g d X am_m6012 26 [v0, v1] (.ref o :: sk) st Q = ((am_ob st o 6 ∧ sk.length ≤ 4) ∧ am_Ca X d 6067 [.ref o] st (am_af am_m6012 26 [v0, v1] sk (fun pc lc sk st => am_g d X am_m6012 pc lc sk st Q) Q)) := am_gu.trans rfl
theorem u6012_29 {v1 : Value} {x : Nat} : am_g d X am_m6012 29 [.ref x, v1] sk st Q = am_g d X am_m6012 30 [.ref x, v1] (.ref x :: sk) st Q := am_gu.trans rfl
theorem u6012_30 {v0 : Value} {v1 : Value} : am_g d X am_m6012 30 [v0, v1] sk st Q = am_gt 193 33 [v0, v1] sk st (fun pc lc sk st => am_g d X am_m6012 pc lc sk st Q) := am_gu.trans rfl
theorem u6012_33 {v0 : Value} {x : Int32} : am_g d X am_m6012 33 [v0, .int x] sk st Q = am_g d X am_m6012 34 [v0, .int x] (.int x :: sk) st Q := am_gu.trans rfl
theorem u6012_34 {a0 : Value} {v0 : Value} {v1 : Value} : am_g d X am_m6012 34 [v0, v1] (a0 :: .ref o :: sk) st Q = ((am_ob st o 4 ∧ sk.length ≤ 4) ∧ am_Ca X d 4013 [.ref o, a0] st (am_af am_m6012 34 [v0, v1] sk (fun pc lc sk st => am_g d X am_m6012 pc lc sk st Q) Q)) := am_gu.trans rfl
theorem u6012_37 {v0 : Value} {v1 : Value} {x : Int32} : am_g d X am_m6012 37 [v0, v1] [.int x] st Q = Q (.inl (some (.int x))) st := am_gu.trans rfl
set_option maxRecDepth 100000 in
theorem of_6013 : am_of 6013 = some am_m6013 := rfl
theorem c6013 {z a0} {P : am_Q} : am_Ca X (d + 1) 6013 [.ref z, .int a0] st P = am_g d X am_m6013 0 [.ref z, .int a0] [] st P := am_cg of_6013 (by show 2 ≤ 2; decide)
theorem hd_6013 : am_hd am_m6013 = [] := rfl
theorem u6013_0 {v0 : Value} {x : Int32} : am_g d X am_m6013 0 [v0, .int x] sk st Q = am_g d X am_m6013 1 [v0, .int x] (.int x :: sk) st Q := am_gu.trans rfl
theorem u6013_1 {a0 : Value} {v0 : Value} {v1 : Value} : am_g d X am_m6013 1 [v0, v1] (a0 :: sk) st Q = (sk.length ≤ 4 ∧ am_Ca X d 6063 [a0] st (am_af am_m6013 1 [v0, v1] sk (fun pc lc sk st => am_g d X am_m6013 pc lc sk st Q) Q)) := am_gu.trans (propext ⟨fun h => ⟨h.1.2, h.2⟩, fun h => ⟨⟨Nat.le_add_left _ _, h.1⟩, h.2⟩⟩)
theorem u6013_4 {v1 : Value} {x : Nat} : am_g d X am_m6013 4 [.ref x, v1] sk st Q = am_g d X am_m6013 5 [.ref x, v1] (.ref x :: sk) st Q := am_gu.trans rfl
theorem u6013_5 {v0 : Value} {v1 : Value} : am_g d X am_m6013 5 [v0, v1] sk st Q = am_gt 193 8 [v0, v1] sk st (fun pc lc sk st => am_g d X am_m6013 pc lc sk st Q) := am_gu.trans rfl
theorem u6013_8 {v0 : Value} {x : Int32} : am_g d X am_m6013 8 [v0, .int x] sk st Q = am_g d X am_m6013 9 [v0, .int x] (.int x :: sk) st Q := am_gu.trans rfl
theorem u6013_9 {a0 : Value} {v0 : Value} {v1 : Value} : am_g d X am_m6013 9 [v0, v1] (a0 :: .ref o :: sk) st Q = ((am_ob st o 4 ∧ sk.length ≤ 4) ∧ am_Ca X d 4014 [.ref o, a0] st (am_af am_m6013 9 [v0, v1] sk (fun pc lc sk st => am_g d X am_m6013 pc lc sk st Q) Q)) := am_gu.trans rfl
theorem u6013_12 {v0 : Value} {v1 : Value} {x : Int32} : am_g d X am_m6013 12 [v0, v1] (.int x :: sk) st Q = (if decide (¬ x = 0) = true then am_g d X am_m6013 25 [v0, v1] sk st Q else am_g d X am_m6013 15 [v0, v1] sk st Q) := am_gu.trans rfl
theorem u6013_15 {v0 : Value} {v1 : Value} : am_g d X am_m6013 15 [v0, v1] [] (n, sh, cl, sl, F, A, L) Q = ((5 ≤ d ∧ n ≤ cl) ∧ Q (.inr 1) (n, sh, cl + 1, sl + 6, F, A, L)) := am_gu.trans (propext ⟨fun h => ⟨⟨h.1.2.2.1, h.1.2.2.2⟩, h.2⟩, fun h => ⟨⟨rfl, Nat.zero_le _, h.1.1, h.1.2⟩, h.2⟩⟩)
theorem u6013_25 {v1 : Value} {x : Nat} : am_g d X am_m6013 25 [.ref x, v1] sk st Q = am_g d X am_m6013 26 [.ref x, v1] (.ref x :: sk) st Q := am_gu.trans rfl
theorem u6013_26 {v0 : Value} {v1 : Value} : am_g d X am_m6013 26 [v0, v1] (.ref o :: sk) st Q = ((am_ob st o 6 ∧ sk.length ≤ 4) ∧ am_Ca X d 6067 [.ref o] st (am_af am_m6013 26 [v0, v1] sk (fun pc lc sk st => am_g d X am_m6013 pc lc sk st Q) Q)) := am_gu.trans rfl
theorem u6013_29 {v1 : Value} {x : Nat} : am_g d X am_m6013 29 [.ref x, v1] sk st Q = am_g d X am_m6013 30 [.ref x, v1] (.ref x :: sk) st Q := am_gu.trans rfl
theorem u6013_30 {v0 : Value} {v1 : Value} : am_g d X am_m6013 30 [v0, v1] sk st Q = am_gt 193 33 [v0, v1] sk st (fun pc lc sk st => am_g d X am_m6013 pc lc sk st Q) := am_gu.trans rfl
theorem u6013_33 {v0 : Value} {x : Int32} : am_g d X am_m6013 33 [v0, .int x] sk st Q = am_g d X am_m6013 34 [v0, .int x] (.int x :: sk) st Q := am_gu.trans rfl
theorem u6013_34 {a0 : Value} {v0 : Value} {v1 : Value} : am_g d X am_m6013 34 [v0, v1] (a0 :: .ref o :: sk) st Q = ((am_ob st o 4 ∧ sk.length ≤ 4) ∧ am_Ca X d 4015 [.ref o, a0] st (am_af am_m6013 34 [v0, v1] sk (fun pc lc sk st => am_g d X am_m6013 pc lc sk st Q) Q)) := am_gu.trans rfl
theorem u6013_37 {v0 : Value} {v1 : Value} {x : Int32} : am_g d X am_m6013 37 [v0, v1] [.int x] st Q = Q (.inl (some (.int x))) st := am_gu.trans rfl
set_option maxRecDepth 100000 in
theorem of_6014 : am_of 6014 = some am_m6014 := rfl
theorem c6014 {z a0} {P : am_Q} : am_Ca X (d + 1) 6014 [.ref z, .int a0] st P = am_g d X am_m6014 0 [.ref z, .int a0] [] st P := am_cg of_6014 (by show 2 ≤ 2; decide)
theorem hd_6014 : am_hd am_m6014 = [] := rfl
theorem u6014_0 {v0 : Value} {x : Int32} : am_g d X am_m6014 0 [v0, .int x] sk st Q = am_g d X am_m6014 1 [v0, .int x] (.int x :: sk) st Q := am_gu.trans rfl
theorem u6014_1 {a0 : Value} {v0 : Value} {v1 : Value} : am_g d X am_m6014 1 [v0, v1] (a0 :: sk) st Q = (sk.length ≤ 4 ∧ am_Ca X d 6063 [a0] st (am_af am_m6014 1 [v0, v1] sk (fun pc lc sk st => am_g d X am_m6014 pc lc sk st Q) Q)) := am_gu.trans (propext ⟨fun h => ⟨h.1.2, h.2⟩, fun h => ⟨⟨Nat.le_add_left _ _, h.1⟩, h.2⟩⟩)
theorem u6014_4 {v1 : Value} {x : Nat} : am_g d X am_m6014 4 [.ref x, v1] sk st Q = am_g d X am_m6014 5 [.ref x, v1] (.ref x :: sk) st Q := am_gu.trans rfl
theorem u6014_5 {v0 : Value} {v1 : Value} : am_g d X am_m6014 5 [v0, v1] sk st Q = am_gt 193 8 [v0, v1] sk st (fun pc lc sk st => am_g d X am_m6014 pc lc sk st Q) := am_gu.trans rfl
theorem u6014_8 {v0 : Value} {x : Int32} : am_g d X am_m6014 8 [v0, .int x] sk st Q = am_g d X am_m6014 9 [v0, .int x] (.int x :: sk) st Q := am_gu.trans rfl
theorem u6014_9 {a0 : Value} {v0 : Value} {v1 : Value} : am_g d X am_m6014 9 [v0, v1] (a0 :: .ref o :: sk) st Q = ((am_ob st o 4 ∧ sk.length ≤ 4) ∧ am_Ca X d 4016 [.ref o, a0] st (am_af am_m6014 9 [v0, v1] sk (fun pc lc sk st => am_g d X am_m6014 pc lc sk st Q) Q)) := am_gu.trans rfl
theorem u6014_12 {v0 : Value} {v1 : Value} {x : Int32} : am_g d X am_m6014 12 [v0, v1] (.int x :: sk) st Q = (if decide (¬ x = 0) = true then am_g d X am_m6014 25 [v0, v1] sk st Q else am_g d X am_m6014 15 [v0, v1] sk st Q) := am_gu.trans rfl
theorem u6014_15 {v0 : Value} {v1 : Value} : am_g d X am_m6014 15 [v0, v1] [] (n, sh, cl, sl, F, A, L) Q = ((5 ≤ d ∧ n ≤ cl) ∧ Q (.inr 1) (n, sh, cl + 1, sl + 6, F, A, L)) := am_gu.trans (propext ⟨fun h => ⟨⟨h.1.2.2.1, h.1.2.2.2⟩, h.2⟩, fun h => ⟨⟨rfl, Nat.zero_le _, h.1.1, h.1.2⟩, h.2⟩⟩)
theorem u6014_25 {v1 : Value} {x : Nat} : am_g d X am_m6014 25 [.ref x, v1] sk st Q = am_g d X am_m6014 26 [.ref x, v1] (.ref x :: sk) st Q := am_gu.trans rfl
theorem u6014_26 {v0 : Value} {v1 : Value} : am_g d X am_m6014 26 [v0, v1] (.ref o :: sk) st Q = ((am_ob st o 6 ∧ sk.length ≤ 4) ∧ am_Ca X d 6067 [.ref o] st (am_af am_m6014 26 [v0, v1] sk (fun pc lc sk st => am_g d X am_m6014 pc lc sk st Q) Q)) := am_gu.trans rfl
theorem u6014_29 {v1 : Value} {x : Nat} : am_g d X am_m6014 29 [.ref x, v1] sk st Q = am_g d X am_m6014 30 [.ref x, v1] (.ref x :: sk) st Q := am_gu.trans rfl
theorem u6014_30 {v0 : Value} {v1 : Value} : am_g d X am_m6014 30 [v0, v1] sk st Q = am_gt 193 33 [v0, v1] sk st (fun pc lc sk st => am_g d X am_m6014 pc lc sk st Q) := am_gu.trans rfl
theorem u6014_33 {v0 : Value} {x : Int32} : am_g d X am_m6014 33 [v0, .int x] sk st Q = am_g d X am_m6014 34 [v0, .int x] (.int x :: sk) st Q := am_gu.trans rfl
theorem u6014_34 {a0 : Value} {v0 : Value} {v1 : Value} : am_g d X am_m6014 34 [v0, v1] (a0 :: .ref o :: sk) st Q = ((am_ob st o 4 ∧ sk.length ≤ 4) ∧ am_Ca X d 4017 [.ref o, a0] st (am_af am_m6014 34 [v0, v1] sk (fun pc lc sk st => am_g d X am_m6014 pc lc sk st Q) Q)) := am_gu.trans rfl
theorem u6014_37 {v0 : Value} {v1 : Value} {x : Int32} : am_g d X am_m6014 37 [v0, v1] [.int x] st Q = Q (.inl (some (.int x))) st := am_gu.trans rfl
set_option maxRecDepth 100000 in
theorem of_6015 : am_of 6015 = some am_m6015 := rfl
theorem c6015 {z a0} {P : am_Q} : am_Ca X (d + 1) 6015 [.ref z, .int a0] st P = am_g d X am_m6015 0 [.ref z, .int a0] [] st P := am_cg of_6015 (by show 2 ≤ 2; decide)
theorem hd_6015 : am_hd am_m6015 = [] := rfl
theorem u6015_0 {v1 : Value} {x : Nat} : am_g d X am_m6015 0 [.ref x, v1] sk st Q = am_g d X am_m6015 1 [.ref x, v1] (.ref x :: sk) st Q := am_gu.trans rfl
theorem u6015_1 {v0 : Value} {x : Int32} : am_g d X am_m6015 1 [v0, .int x] sk st Q = am_g d X am_m6015 2 [v0, .int x] (.int x :: sk) st Q := am_gu.trans rfl
theorem u6015_2 {a0 : Value} {v0 : Value} {v1 : Value} : am_g d X am_m6015 2 [v0, v1] (a0 :: .ref o :: sk) st Q = ((am_ob st o 6 ∧ sk.length ≤ 4) ∧ am_Ca X d 6065 [.ref o, a0] st (am_af am_m6015 2 [v0, v1] sk (fun pc lc sk st => am_g d X am_m6015 pc lc sk st Q) Q)) := am_gu.trans rfl
theorem u6015_5 {v1 : Value} {x : Nat} : am_g d X am_m6015 5 [.ref x, v1] sk st Q = am_g d X am_m6015 6 [.ref x, v1] (.ref x :: sk) st Q := am_gu.trans rfl
theorem u6015_6 {v0 : Value} {v1 : Value} : am_g d X am_m6015 6 [v0, v1] sk st Q = am_gt 193 9 [v0, v1] sk st (fun pc lc sk st => am_g d X am_m6015 pc lc sk st Q) := am_gu.trans rfl
theorem u6015_9 {v0 : Value} {x : Int32} : am_g d X am_m6015 9 [v0, .int x] sk st Q = am_g d X am_m6015 10 [v0, .int x] (.int x :: sk) st Q := am_gu.trans rfl
theorem u6015_10 {v0 : Value} {v1 : Value} : am_g d X am_m6015 10 [v0, v1] sk st Q = am_g d X am_m6015 11 [v0, v1] (.int (am_i 0) :: sk) st Q := am_gu.trans rfl
theorem u6015_11 {a0 : Value} {a1 : Value} {v0 : Value} {v1 : Value} : am_g d X am_m6015 11 [v0, v1] (a1 :: a0 :: .ref o :: sk) st Q = ((am_ob st o 4 ∧ sk.length ≤ 4) ∧ am_Ca X d 4018 [.ref o, a0, a1] st (am_af am_m6015 11 [v0, v1] sk (fun pc lc sk st => am_g d X am_m6015 pc lc sk st Q) Q)) := am_gu.trans rfl
theorem u6015_14 {v0 : Value} {v1 : Value} {x : Int32} : am_g d X am_m6015 14 [v0, v1] (.int x :: sk) st Q = (if decide (¬ x = 0) = true then am_g d X am_m6015 27 [v0, v1] sk st Q else am_g d X am_m6015 17 [v0, v1] sk st Q) := am_gu.trans rfl
theorem u6015_17 {v0 : Value} {v1 : Value} : am_g d X am_m6015 17 [v0, v1] [] (n, sh, cl, sl, F, A, L) Q = ((5 ≤ d ∧ n ≤ cl) ∧ Q (.inr 1) (n, sh, cl + 1, sl + 6, F, A, L)) := am_gu.trans (propext ⟨fun h => ⟨⟨h.1.2.2.1, h.1.2.2.2⟩, h.2⟩, fun h => ⟨⟨rfl, Nat.zero_le _, h.1.1, h.1.2⟩, h.2⟩⟩)
theorem u6015_27 {v1 : Value} {x : Nat} : am_g d X am_m6015 27 [.ref x, v1] sk st Q = am_g d X am_m6015 28 [.ref x, v1] (.ref x :: sk) st Q := am_gu.trans rfl
theorem u6015_28 {v0 : Value} {v1 : Value} : am_g d X am_m6015 28 [v0, v1] (.ref o :: sk) st Q = ((am_ob st o 6 ∧ sk.length ≤ 4) ∧ am_Ca X d 6067 [.ref o] st (am_af am_m6015 28 [v0, v1] sk (fun pc lc sk st => am_g d X am_m6015 pc lc sk st Q) Q)) := am_gu.trans rfl
theorem u6015_31 {v1 : Value} {x : Nat} : am_g d X am_m6015 31 [.ref x, v1] sk st Q = am_g d X am_m6015 32 [.ref x, v1] (.ref x :: sk) st Q := am_gu.trans rfl
theorem u6015_32 {v0 : Value} {v1 : Value} : am_g d X am_m6015 32 [v0, v1] sk st Q = am_gt 193 35 [v0, v1] sk st (fun pc lc sk st => am_g d X am_m6015 pc lc sk st Q) := am_gu.trans rfl
theorem u6015_35 {v0 : Value} {x : Int32} : am_g d X am_m6015 35 [v0, .int x] sk st Q = am_g d X am_m6015 36 [v0, .int x] (.int x :: sk) st Q := am_gu.trans rfl
theorem u6015_36 {v0 : Value} {v1 : Value} : am_g d X am_m6015 36 [v0, v1] sk st Q = am_g d X am_m6015 37 [v0, v1] (.int (am_i 0) :: sk) st Q := am_gu.trans rfl
theorem u6015_37 {a0 : Value} {a1 : Value} {v0 : Value} {v1 : Value} : am_g d X am_m6015 37 [v0, v1] (a1 :: a0 :: .ref o :: sk) st Q = ((am_ob st o 4 ∧ sk.length ≤ 4) ∧ am_Ca X d 4019 [.ref o, a0, a1] st (am_af am_m6015 37 [v0, v1] sk (fun pc lc sk st => am_g d X am_m6015 pc lc sk st Q) Q)) := am_gu.trans rfl
theorem u6015_40 {v0 : Value} {v1 : Value} {x : Int32} : am_g d X am_m6015 40 [v0, v1] [.int x] st Q = Q (.inl (some (.int x))) st := am_gu.trans rfl
set_option maxRecDepth 100000 in
theorem of_6016 : am_of 6016 = some am_m6016 := rfl
theorem c6016 {z a0} {P : am_Q} : am_Ca X (d + 1) 6016 [.ref z, .int a0] st P = am_g d X am_m6016 0 [.ref z, .int a0] [] st P := am_cg of_6016 (by show 2 ≤ 2; decide)
theorem hd_6016 : am_hd am_m6016 = [] := rfl
theorem u6016_0 {v1 : Value} {x : Nat} : am_g d X am_m6016 0 [.ref x, v1] sk st Q = am_g d X am_m6016 1 [.ref x, v1] (.ref x :: sk) st Q := am_gu.trans rfl
theorem u6016_1 {v0 : Value} {x : Int32} : am_g d X am_m6016 1 [v0, .int x] sk st Q = am_g d X am_m6016 2 [v0, .int x] (.int x :: sk) st Q := am_gu.trans rfl
theorem u6016_2 {a0 : Value} {v0 : Value} {v1 : Value} : am_g d X am_m6016 2 [v0, v1] (a0 :: .ref o :: sk) st Q = ((am_ob st o 6 ∧ sk.length ≤ 4) ∧ am_Ca X d 6065 [.ref o, a0] st (am_af am_m6016 2 [v0, v1] sk (fun pc lc sk st => am_g d X am_m6016 pc lc sk st Q) Q)) := am_gu.trans rfl
theorem u6016_5 {v1 : Value} {x : Nat} : am_g d X am_m6016 5 [.ref x, v1] sk st Q = am_g d X am_m6016 6 [.ref x, v1] (.ref x :: sk) st Q := am_gu.trans rfl
theorem u6016_6 {v0 : Value} {v1 : Value} : am_g d X am_m6016 6 [v0, v1] sk st Q = am_gt 193 9 [v0, v1] sk st (fun pc lc sk st => am_g d X am_m6016 pc lc sk st Q) := am_gu.trans rfl
theorem u6016_9 {v0 : Value} {x : Int32} : am_g d X am_m6016 9 [v0, .int x] sk st Q = am_g d X am_m6016 10 [v0, .int x] (.int x :: sk) st Q := am_gu.trans rfl
theorem u6016_10 {v0 : Value} {v1 : Value} : am_g d X am_m6016 10 [v0, v1] sk st Q = am_g d X am_m6016 11 [v0, v1] (.int (am_i 1) :: sk) st Q := am_gu.trans rfl
theorem u6016_11 {a0 : Value} {a1 : Value} {v0 : Value} {v1 : Value} : am_g d X am_m6016 11 [v0, v1] (a1 :: a0 :: .ref o :: sk) st Q = ((am_ob st o 4 ∧ sk.length ≤ 4) ∧ am_Ca X d 4018 [.ref o, a0, a1] st (am_af am_m6016 11 [v0, v1] sk (fun pc lc sk st => am_g d X am_m6016 pc lc sk st Q) Q)) := am_gu.trans rfl
theorem u6016_14 {v0 : Value} {v1 : Value} {x : Int32} : am_g d X am_m6016 14 [v0, v1] (.int x :: sk) st Q = (if decide (¬ x = 0) = true then am_g d X am_m6016 27 [v0, v1] sk st Q else am_g d X am_m6016 17 [v0, v1] sk st Q) := am_gu.trans rfl
theorem u6016_17 {v0 : Value} {v1 : Value} : am_g d X am_m6016 17 [v0, v1] [] (n, sh, cl, sl, F, A, L) Q = ((5 ≤ d ∧ n ≤ cl) ∧ Q (.inr 1) (n, sh, cl + 1, sl + 6, F, A, L)) := am_gu.trans (propext ⟨fun h => ⟨⟨h.1.2.2.1, h.1.2.2.2⟩, h.2⟩, fun h => ⟨⟨rfl, Nat.zero_le _, h.1.1, h.1.2⟩, h.2⟩⟩)
theorem u6016_27 {v1 : Value} {x : Nat} : am_g d X am_m6016 27 [.ref x, v1] sk st Q = am_g d X am_m6016 28 [.ref x, v1] (.ref x :: sk) st Q := am_gu.trans rfl
theorem u6016_28 {v0 : Value} {v1 : Value} : am_g d X am_m6016 28 [v0, v1] (.ref o :: sk) st Q = ((am_ob st o 6 ∧ sk.length ≤ 4) ∧ am_Ca X d 6067 [.ref o] st (am_af am_m6016 28 [v0, v1] sk (fun pc lc sk st => am_g d X am_m6016 pc lc sk st Q) Q)) := am_gu.trans rfl
theorem u6016_31 {v1 : Value} {x : Nat} : am_g d X am_m6016 31 [.ref x, v1] sk st Q = am_g d X am_m6016 32 [.ref x, v1] (.ref x :: sk) st Q := am_gu.trans rfl
theorem u6016_32 {v0 : Value} {v1 : Value} : am_g d X am_m6016 32 [v0, v1] sk st Q = am_gt 193 35 [v0, v1] sk st (fun pc lc sk st => am_g d X am_m6016 pc lc sk st Q) := am_gu.trans rfl
theorem u6016_35 {v0 : Value} {x : Int32} : am_g d X am_m6016 35 [v0, .int x] sk st Q = am_g d X am_m6016 36 [v0, .int x] (.int x :: sk) st Q := am_gu.trans rfl
theorem u6016_36 {v0 : Value} {v1 : Value} : am_g d X am_m6016 36 [v0, v1] sk st Q = am_g d X am_m6016 37 [v0, v1] (.int (am_i 1) :: sk) st Q := am_gu.trans rfl
theorem u6016_37 {a0 : Value} {a1 : Value} {v0 : Value} {v1 : Value} : am_g d X am_m6016 37 [v0, v1] (a1 :: a0 :: .ref o :: sk) st Q = ((am_ob st o 4 ∧ sk.length ≤ 4) ∧ am_Ca X d 4019 [.ref o, a0, a1] st (am_af am_m6016 37 [v0, v1] sk (fun pc lc sk st => am_g d X am_m6016 pc lc sk st Q) Q)) := am_gu.trans rfl
theorem u6016_40 {v0 : Value} {v1 : Value} {x : Int32} : am_g d X am_m6016 40 [v0, v1] [.int x] st Q = Q (.inl (some (.int x))) st := am_gu.trans rfl
set_option maxRecDepth 100000 in
theorem of_6017 : am_of 6017 = some am_m6017 := rfl
theorem c6017 {z a0} {P : am_Q} : am_Ca X (d + 1) 6017 [.ref z, .int a0] st P = am_g d X am_m6017 0 [.ref z, .int a0] [] st P := am_cg of_6017 (by show 2 ≤ 2; decide)
theorem hd_6017 : am_hd am_m6017 = [] := rfl
theorem u6017_0 {v0 : Value} {x : Int32} : am_g d X am_m6017 0 [v0, .int x] sk st Q = am_g d X am_m6017 1 [v0, .int x] (.int x :: sk) st Q := am_gu.trans rfl
theorem u6017_1 {a0 : Value} {v0 : Value} {v1 : Value} : am_g d X am_m6017 1 [v0, v1] (a0 :: sk) st Q = (sk.length ≤ 4 ∧ am_Ca X d 6063 [a0] st (am_af am_m6017 1 [v0, v1] sk (fun pc lc sk st => am_g d X am_m6017 pc lc sk st Q) Q)) := am_gu.trans (propext ⟨fun h => ⟨h.1.2, h.2⟩, fun h => ⟨⟨Nat.le_add_left _ _, h.1⟩, h.2⟩⟩)
theorem u6017_4 {v1 : Value} {x : Nat} : am_g d X am_m6017 4 [.ref x, v1] sk st Q = am_g d X am_m6017 5 [.ref x, v1] (.ref x :: sk) st Q := am_gu.trans rfl
theorem u6017_5 {v0 : Value} {v1 : Value} : am_g d X am_m6017 5 [v0, v1] sk st Q = am_gt 193 8 [v0, v1] sk st (fun pc lc sk st => am_g d X am_m6017 pc lc sk st Q) := am_gu.trans rfl
theorem u6017_8 {v0 : Value} {x : Int32} : am_g d X am_m6017 8 [v0, .int x] sk st Q = am_g d X am_m6017 9 [v0, .int x] (.int x :: sk) st Q := am_gu.trans rfl
theorem u6017_9 {a0 : Value} {v0 : Value} {v1 : Value} : am_g d X am_m6017 9 [v0, v1] (a0 :: .ref o :: sk) st Q = ((am_ob st o 4 ∧ sk.length ≤ 4) ∧ am_Ca X d 4020 [.ref o, a0] st (am_af am_m6017 9 [v0, v1] sk (fun pc lc sk st => am_g d X am_m6017 pc lc sk st Q) Q)) := am_gu.trans rfl
theorem u6017_12 {v0 : Value} {v1 : Value} {x : Int32} : am_g d X am_m6017 12 [v0, v1] (.int x :: sk) st Q = (if decide (¬ x = 0) = true then am_g d X am_m6017 25 [v0, v1] sk st Q else am_g d X am_m6017 15 [v0, v1] sk st Q) := am_gu.trans rfl
theorem u6017_15 {v0 : Value} {v1 : Value} : am_g d X am_m6017 15 [v0, v1] [] (n, sh, cl, sl, F, A, L) Q = ((5 ≤ d ∧ n ≤ cl) ∧ Q (.inr 1) (n, sh, cl + 1, sl + 6, F, A, L)) := am_gu.trans (propext ⟨fun h => ⟨⟨h.1.2.2.1, h.1.2.2.2⟩, h.2⟩, fun h => ⟨⟨rfl, Nat.zero_le _, h.1.1, h.1.2⟩, h.2⟩⟩)
theorem u6017_25 {v1 : Value} {x : Nat} : am_g d X am_m6017 25 [.ref x, v1] sk st Q = am_g d X am_m6017 26 [.ref x, v1] (.ref x :: sk) st Q := am_gu.trans rfl
theorem u6017_26 {v0 : Value} {v1 : Value} : am_g d X am_m6017 26 [v0, v1] (.ref o :: sk) st Q = ((am_ob st o 6 ∧ sk.length ≤ 4) ∧ am_Ca X d 6067 [.ref o] st (am_af am_m6017 26 [v0, v1] sk (fun pc lc sk st => am_g d X am_m6017 pc lc sk st Q) Q)) := am_gu.trans rfl
theorem u6017_29 {v1 : Value} {x : Nat} : am_g d X am_m6017 29 [.ref x, v1] sk st Q = am_g d X am_m6017 30 [.ref x, v1] (.ref x :: sk) st Q := am_gu.trans rfl
theorem u6017_30 {v0 : Value} {v1 : Value} : am_g d X am_m6017 30 [v0, v1] sk st Q = am_gt 193 33 [v0, v1] sk st (fun pc lc sk st => am_g d X am_m6017 pc lc sk st Q) := am_gu.trans rfl
theorem u6017_33 {v0 : Value} {x : Int32} : am_g d X am_m6017 33 [v0, .int x] sk st Q = am_g d X am_m6017 34 [v0, .int x] (.int x :: sk) st Q := am_gu.trans rfl
theorem u6017_34 {a0 : Value} {v0 : Value} {v1 : Value} : am_g d X am_m6017 34 [v0, v1] (a0 :: .ref o :: sk) st Q = ((am_ob st o 4 ∧ sk.length ≤ 4) ∧ am_Ca X d 4021 [.ref o, a0] st (am_af am_m6017 34 [v0, v1] sk (fun pc lc sk st => am_g d X am_m6017 pc lc sk st Q) Q)) := am_gu.trans rfl
theorem u6017_37 {v0 : Value} {v1 : Value} {x : Int32} : am_g d X am_m6017 37 [v0, v1] [.int x] st Q = Q (.inl (some (.int x))) st := am_gu.trans rfl
set_option maxRecDepth 100000 in
theorem of_6018 : am_of 6018 = some am_m6018 := rfl
theorem c6018 {z a0 a1 a2} {P : am_Q} : am_Ca X (d + 1) 6018 [.ref z, .int a0, .int a1, .int a2] st P = am_g d X am_m6018 0 [.ref z, .int a0, .int a1, .int a2] [] st P := am_cg of_6018 (by show 4 ≤ 4; decide)
theorem hd_6018 : am_hd am_m6018 = [] := rfl
theorem u6018_0 {v0 : Value} {v2 : Value} {v3 : Value} {x : Int32} : am_g d X am_m6018 0 [v0, .int x, v2, v3] sk st Q = am_g d X am_m6018 1 [v0, .int x, v2, v3] (.int x :: sk) st Q := am_gu.trans rfl
theorem u6018_1 {v0 : Value} {v1 : Value} {v3 : Value} {x : Int32} : am_g d X am_m6018 1 [v0, v1, .int x, v3] sk st Q = am_g d X am_m6018 2 [v0, v1, .int x, v3] (.int x :: sk) st Q := am_gu.trans rfl
theorem u6018_2 {a0 : Value} {a1 : Value} {v0 : Value} {v1 : Value} {v2 : Value} {v3 : Value} : am_g d X am_m6018 2 [v0, v1, v2, v3] (a1 :: a0 :: sk) st Q = (sk.length ≤ 4 ∧ am_Ca X d 6062 [a0, a1] st (am_af am_m6018 2 [v0, v1, v2, v3] sk (fun pc lc sk st => am_g d X am_m6018 pc lc sk st Q) Q)) := am_gu.trans (propext ⟨fun h => ⟨h.1.2, h.2⟩, fun h => ⟨⟨Nat.le_add_left _ _, h.1⟩, h.2⟩⟩)
theorem u6018_5 {v1 : Value} {v2 : Value} {v3 : Value} {x : Nat} : am_g d X am_m6018 5 [.ref x, v1, v2, v3] sk st Q = am_g d X am_m6018 6 [.ref x, v1, v2, v3] (.ref x :: sk) st Q := am_gu.trans rfl
theorem u6018_6 {v0 : Value} {v2 : Value} {v3 : Value} {x : Int32} : am_g d X am_m6018 6 [v0, .int x, v2, v3] sk st Q = am_g d X am_m6018 7 [v0, .int x, v2, v3] (.int x :: sk) st Q := am_gu.trans rfl
theorem u6018_7 {v0 : Value} {v1 : Value} {v3 : Value} {x : Int32} : am_g d X am_m6018 7 [v0, v1, .int x, v3] sk st Q = am_g d X am_m6018 8 [v0, v1, .int x, v3] (.int x :: sk) st Q := am_gu.trans rfl
theorem u6018_8 {a0 : Value} {a1 : Value} {v0 : Value} {v1 : Value} {v2 : Value} {v3 : Value} : am_g d X am_m6018 8 [v0, v1, v2, v3] (a1 :: a0 :: sk) st Q = (sk.length ≤ 4 ∧ am_Ca X d 6061 [a0, a1] st (am_af am_m6018 8 [v0, v1, v2, v3] sk (fun pc lc sk st => am_g d X am_m6018 pc lc sk st Q) Q)) := am_gu.trans (propext ⟨fun h => ⟨h.1.2, h.2⟩, fun h => ⟨⟨Nat.le_add_left _ _, h.1⟩, h.2⟩⟩)
theorem u6018_11 {a0 : Value} {v0 : Value} {v1 : Value} {v2 : Value} {v3 : Value} : am_g d X am_m6018 11 [v0, v1, v2, v3] (a0 :: .ref o :: sk) st Q = ((am_ob st o 6 ∧ sk.length ≤ 4) ∧ am_Ca X d 6066 [.ref o, a0] st (am_af am_m6018 11 [v0, v1, v2, v3] sk (fun pc lc sk st => am_g d X am_m6018 pc lc sk st Q) Q)) := am_gu.trans rfl
theorem u6018_14 {v1 : Value} {v2 : Value} {v3 : Value} {x : Nat} : am_g d X am_m6018 14 [.ref x, v1, v2, v3] sk st Q = am_g d X am_m6018 15 [.ref x, v1, v2, v3] (.ref x :: sk) st Q := am_gu.trans rfl
theorem u6018_15 {v0 : Value} {v1 : Value} {v2 : Value} {v3 : Value} : am_g d X am_m6018 15 [v0, v1, v2, v3] (.ref o :: sk) st Q = ((am_ob st o 6 ∧ sk.length ≤ 4) ∧ am_Ca X d 6067 [.ref o] st (am_af am_m6018 15 [v0, v1, v2, v3] sk (fun pc lc sk st => am_g d X am_m6018 pc lc sk st Q) Q)) := am_gu.trans rfl
theorem u6018_18 {v1 : Value} {v2 : Value} {v3 : Value} {x : Nat} : am_g d X am_m6018 18 [.ref x, v1, v2, v3] sk st Q = am_g d X am_m6018 19 [.ref x, v1, v2, v3] (.ref x :: sk) st Q := am_gu.trans rfl
theorem u6018_19 {v0 : Value} {v1 : Value} {v2 : Value} {v3 : Value} : am_g d X am_m6018 19 [v0, v1, v2, v3] sk st Q = am_gt 193 22 [v0, v1, v2, v3] sk st (fun pc lc sk st => am_g d X am_m6018 pc lc sk st Q) := am_gu.trans rfl
theorem u6018_22 {v0 : Value} {v2 : Value} {v3 : Value} {x : Int32} : am_g d X am_m6018 22 [v0, .int x, v2, v3] sk st Q = am_g d X am_m6018 23 [v0, .int x, v2, v3] (.int x :: sk) st Q := am_gu.trans rfl
theorem u6018_23 {v0 : Value} {v1 : Value} {v3 : Value} {x : Int32} : am_g d X am_m6018 23 [v0, v1, .int x, v3] sk st Q = am_g d X am_m6018 24 [v0, v1, .int x, v3] (.int x :: sk) st Q := am_gu.trans rfl
theorem u6018_24 {a0 : Value} {a1 : Value} {v0 : Value} {v1 : Value} {v2 : Value} {v3 : Value} : am_g d X am_m6018 24 [v0, v1, v2, v3] (a1 :: a0 :: sk) st Q = (sk.length ≤ 4 ∧ am_Ca X d 6061 [a0, a1] st (am_af am_m6018 24 [v0, v1, v2, v3] sk (fun pc lc sk st => am_g d X am_m6018 pc lc sk st Q) Q)) := am_gu.trans (propext ⟨fun h => ⟨h.1.2, h.2⟩, fun h => ⟨⟨Nat.le_add_left _ _, h.1⟩, h.2⟩⟩)
theorem u6018_27 {v0 : Value} {v1 : Value} {v2 : Value} {x : Int32} : am_g d X am_m6018 27 [v0, v1, v2, .int x] sk st Q = am_g d X am_m6018 28 [v0, v1, v2, .int x] (.int x :: sk) st Q := am_gu.trans rfl
theorem u6018_28 {a0 : Value} {a1 : Value} {v0 : Value} {v1 : Value} {v2 : Value} {v3 : Value} : am_g d X am_m6018 28 [v0, v1, v2, v3] (a1 :: a0 :: .ref o :: sk) st Q = ((am_ob st o 4 ∧ sk.length ≤ 4) ∧ am_Ca X d 4022 [.ref o, a0, a1] st (am_af am_m6018 28 [v0, v1, v2, v3] sk (fun pc lc sk st => am_g d X am_m6018 pc lc sk st Q) Q)) := am_gu.trans rfl
theorem u6018_31 {v0 : Value} {v1 : Value} {v2 : Value} {v3 : Value} {x : Int32} : am_g d X am_m6018 31 [v0, v1, v2, v3] [.int x] st Q = Q (.inl (some (.int x))) st := am_gu.trans rfl
set_option maxRecDepth 100000 in
theorem of_6019 : am_of 6019 = some am_m6019 := rfl
theorem c6019 {z} {P : am_Q} : am_Ca X (d + 1) 6019 [.ref z] st P = am_g d X am_m6019 0 [.ref z] [] st P := am_cg of_6019 (by show 1 ≤ 1; decide)
theorem hd_6019 : am_hd am_m6019 = [] := rfl
theorem u6019_0 {x : Nat} : am_g d X am_m6019 0 [.ref x] sk st Q = am_g d X am_m6019 1 [.ref x] (.ref x :: sk) st Q := am_gu.trans rfl
theorem u6019_1 {v0 : Value} : am_g d X am_m6019 1 [v0] sk st Q = am_gt 193 4 [v0] sk st (fun pc lc sk st => am_g d X am_m6019 pc lc sk st Q) := am_gu.trans rfl
theorem u6019_4 {v0 : Value} : am_g d X am_m6019 4 [v0] (.ref o :: sk) st Q = ((am_ob st o 4 ∧ sk.length ≤ 4) ∧ am_Ca X d 4023 [.ref o] st (am_af am_m6019 4 [v0] sk (fun pc lc sk st => am_g d X am_m6019 pc lc sk st Q) Q)) := am_gu.trans rfl
theorem u6019_7 {v0 : Value} {x : Int32} : am_g d X am_m6019 7 [v0] (.int x :: sk) st Q = (if decide (¬ x = 0) = true then am_g d X am_m6019 20 [v0] sk st Q else am_g d X am_m6019 10 [v0] sk st Q) := am_gu.trans rfl
theorem u6019_10 {v0 : Value} : am_g d X am_m6019 10 [v0] [] (n, sh, cl, sl, F, A, L) Q = ((5 ≤ d ∧ n ≤ cl) ∧ Q (.inr 1) (n, sh, cl + 1, sl + 6, F, A, L)) := am_gu.trans (propext ⟨fun h => ⟨⟨h.1.2.2.1, h.1.2.2.2⟩, h.2⟩, fun h => ⟨⟨rfl, Nat.zero_le _, h.1.1, h.1.2⟩, h.2⟩⟩)
theorem u6019_20 {x : Nat} : am_g d X am_m6019 20 [.ref x] sk st Q = am_g d X am_m6019 21 [.ref x] (.ref x :: sk) st Q := am_gu.trans rfl
theorem u6019_21 {v0 : Value} : am_g d X am_m6019 21 [v0] (.ref o :: sk) st Q = ((am_ob st o 6 ∧ sk.length ≤ 4) ∧ am_Ca X d 6067 [.ref o] st (am_af am_m6019 21 [v0] sk (fun pc lc sk st => am_g d X am_m6019 pc lc sk st Q) Q)) := am_gu.trans rfl
theorem u6019_24 {x : Nat} : am_g d X am_m6019 24 [.ref x] sk st Q = am_g d X am_m6019 25 [.ref x] (.ref x :: sk) st Q := am_gu.trans rfl
theorem u6019_25 {v0 : Value} : am_g d X am_m6019 25 [v0] sk st Q = am_gt 193 28 [v0] sk st (fun pc lc sk st => am_g d X am_m6019 pc lc sk st Q) := am_gu.trans rfl
theorem u6019_28 {v0 : Value} : am_g d X am_m6019 28 [v0] (.ref o :: sk) st Q = ((am_ob st o 4 ∧ sk.length ≤ 4) ∧ am_Ca X d 4024 [.ref o] st (am_af am_m6019 28 [v0] sk (fun pc lc sk st => am_g d X am_m6019 pc lc sk st Q) Q)) := am_gu.trans rfl
theorem u6019_31 {v0 : Value} {x : Int32} : am_g d X am_m6019 31 [v0] [.int x] st Q = Q (.inl (some (.int x))) st := am_gu.trans rfl
set_option maxRecDepth 100000 in
theorem of_6020 : am_of 6020 = some am_m6020 := rfl
theorem c6020 {z a0 a1} {P : am_Q} : am_Ca X (d + 1) 6020 [.ref z, .int a0, .int a1] st P = am_g d X am_m6020 0 [.ref z, .int a0, .int a1] [] st P := am_cg of_6020 (by show 3 ≤ 3; decide)
theorem hd_6020 : am_hd am_m6020 = [] := rfl
theorem u6020_0 {v0 : Value} {v2 : Value} {x : Int32} : am_g d X am_m6020 0 [v0, .int x, v2] sk st Q = am_g d X am_m6020 1 [v0, .int x, v2] (.int x :: sk) st Q := am_gu.trans rfl
theorem u6020_1 {v0 : Value} {v1 : Value} {x : Int32} : am_g d X am_m6020 1 [v0, v1, .int x] sk st Q = am_g d X am_m6020 2 [v0, v1, .int x] (.int x :: sk) st Q := am_gu.trans rfl
theorem u6020_2 {a0 : Value} {a1 : Value} {v0 : Value} {v1 : Value} {v2 : Value} : am_g d X am_m6020 2 [v0, v1, v2] (a1 :: a0 :: sk) st Q = (sk.length ≤ 4 ∧ am_Ca X d 6062 [a0, a1] st (am_af am_m6020 2 [v0, v1, v2] sk (fun pc lc sk st => am_g d X am_m6020 pc lc sk st Q) Q)) := am_gu.trans (propext ⟨fun h => ⟨h.1.2, h.2⟩, fun h => ⟨⟨Nat.le_add_left _ _, h.1⟩, h.2⟩⟩)
theorem u6020_5 {v1 : Value} {v2 : Value} {x : Nat} : am_g d X am_m6020 5 [.ref x, v1, v2] sk st Q = am_g d X am_m6020 6 [.ref x, v1, v2] (.ref x :: sk) st Q := am_gu.trans rfl
theorem u6020_6 {v0 : Value} {v1 : Value} {v2 : Value} : am_g d X am_m6020 6 [v0, v1, v2] sk st Q = am_gt 193 9 [v0, v1, v2] sk st (fun pc lc sk st => am_g d X am_m6020 pc lc sk st Q) := am_gu.trans rfl
theorem u6020_9 {v0 : Value} {v1 : Value} {v2 : Value} : am_g d X am_m6020 9 [v0, v1, v2] sk st Q = am_gt 128 12 [v0, v1, v2] sk st (fun pc lc sk st => am_g d X am_m6020 pc lc sk st Q) := am_gu.trans rfl
theorem u6020_12 {v0 : Value} {v2 : Value} {x : Int32} : am_g d X am_m6020 12 [v0, .int x, v2] sk st Q = am_g d X am_m6020 13 [v0, .int x, v2] (.int x :: sk) st Q := am_gu.trans rfl
theorem u6020_13 {v0 : Value} {v1 : Value} {x : Int32} : am_g d X am_m6020 13 [v0, v1, .int x] sk st Q = am_g d X am_m6020 14 [v0, v1, .int x] (.int x :: sk) st Q := am_gu.trans rfl
theorem u6020_14 {a0 : Value} {a1 : Value} {v0 : Value} {v1 : Value} {v2 : Value} : am_g d X am_m6020 14 [v0, v1, v2] (a1 :: a0 :: sk) st Q = (sk.length ≤ 4 ∧ am_Ca X d 6061 [a0, a1] st (am_af am_m6020 14 [v0, v1, v2] sk (fun pc lc sk st => am_g d X am_m6020 pc lc sk st Q) Q)) := am_gu.trans (propext ⟨fun h => ⟨h.1.2, h.2⟩, fun h => ⟨⟨Nat.le_add_left _ _, h.1⟩, h.2⟩⟩)
theorem u6020_17 {a0 : Value} {v0 : Value} {v1 : Value} {v2 : Value} : am_g d X am_m6020 17 [v0, v1, v2] (a0 :: .ref o :: sk) st Q = ((am_ob st o 5 ∧ sk.length ≤ 4) ∧ am_Ca X d 5028 [.ref o, a0] st (am_af am_m6020 17 [v0, v1, v2] sk (fun pc lc sk st => am_g d X am_m6020 pc lc sk st Q) Q)) := am_gu.trans rfl
theorem u6020_20 {v0 : Value} {v1 : Value} {v2 : Value} {x : Int32} : am_g d X am_m6020 20 [v0, v1, v2] [.int x] st Q = ((x = 0 ∨ x = 1) ∧ Q (.inl (some (.int x))) st) := am_gu.trans rfl
set_option maxRecDepth 100000 in
theorem of_6021 : am_of 6021 = some am_m6021 := rfl
theorem c6021 {z a0 a1} {P : am_Q} : am_Ca X (d + 1) 6021 [.ref z, .int a0, .int a1] st P = am_g d X am_m6021 0 [.ref z, .int a0, .int a1] [] st P := am_cg of_6021 (by show 3 ≤ 3; decide)
theorem hd_6021 : am_hd am_m6021 = [] := rfl
theorem u6021_0 {v0 : Value} {v2 : Value} {x : Int32} : am_g d X am_m6021 0 [v0, .int x, v2] sk st Q = am_g d X am_m6021 1 [v0, .int x, v2] (.int x :: sk) st Q := am_gu.trans rfl
theorem u6021_1 {v0 : Value} {v1 : Value} {x : Int32} : am_g d X am_m6021 1 [v0, v1, .int x] sk st Q = am_g d X am_m6021 2 [v0, v1, .int x] (.int x :: sk) st Q := am_gu.trans rfl
theorem u6021_2 {a0 : Value} {a1 : Value} {v0 : Value} {v1 : Value} {v2 : Value} : am_g d X am_m6021 2 [v0, v1, v2] (a1 :: a0 :: sk) st Q = (sk.length ≤ 4 ∧ am_Ca X d 6062 [a0, a1] st (am_af am_m6021 2 [v0, v1, v2] sk (fun pc lc sk st => am_g d X am_m6021 pc lc sk st Q) Q)) := am_gu.trans (propext ⟨fun h => ⟨h.1.2, h.2⟩, fun h => ⟨⟨Nat.le_add_left _ _, h.1⟩, h.2⟩⟩)
theorem u6021_5 {v1 : Value} {v2 : Value} {x : Nat} : am_g d X am_m6021 5 [.ref x, v1, v2] sk st Q = am_g d X am_m6021 6 [.ref x, v1, v2] (.ref x :: sk) st Q := am_gu.trans rfl
theorem u6021_6 {v0 : Value} {v2 : Value} {x : Int32} : am_g d X am_m6021 6 [v0, .int x, v2] sk st Q = am_g d X am_m6021 7 [v0, .int x, v2] (.int x :: sk) st Q := am_gu.trans rfl
theorem u6021_7 {v0 : Value} {v1 : Value} {x : Int32} : am_g d X am_m6021 7 [v0, v1, .int x] sk st Q = am_g d X am_m6021 8 [v0, v1, .int x] (.int x :: sk) st Q := am_gu.trans rfl
theorem u6021_8 {a0 : Value} {a1 : Value} {v0 : Value} {v1 : Value} {v2 : Value} : am_g d X am_m6021 8 [v0, v1, v2] (a1 :: a0 :: sk) st Q = (sk.length ≤ 4 ∧ am_Ca X d 6061 [a0, a1] st (am_af am_m6021 8 [v0, v1, v2] sk (fun pc lc sk st => am_g d X am_m6021 pc lc sk st Q) Q)) := am_gu.trans (propext ⟨fun h => ⟨h.1.2, h.2⟩, fun h => ⟨⟨Nat.le_add_left _ _, h.1⟩, h.2⟩⟩)
theorem u6021_11 {a0 : Value} {v0 : Value} {v1 : Value} {v2 : Value} : am_g d X am_m6021 11 [v0, v1, v2] (a0 :: .ref o :: sk) st Q = ((am_ob st o 6 ∧ sk.length ≤ 4) ∧ am_Ca X d 6066 [.ref o, a0] st (am_af am_m6021 11 [v0, v1, v2] sk (fun pc lc sk st => am_g d X am_m6021 pc lc sk st Q) Q)) := am_gu.trans rfl
theorem u6021_14 {v1 : Value} {v2 : Value} {x : Nat} : am_g d X am_m6021 14 [.ref x, v1, v2] sk st Q = am_g d X am_m6021 15 [.ref x, v1, v2] (.ref x :: sk) st Q := am_gu.trans rfl
theorem u6021_15 {v0 : Value} {v1 : Value} {v2 : Value} : am_g d X am_m6021 15 [v0, v1, v2] sk st Q = am_gt 193 18 [v0, v1, v2] sk st (fun pc lc sk st => am_g d X am_m6021 pc lc sk st Q) := am_gu.trans rfl
theorem u6021_18 {v0 : Value} {v1 : Value} {v2 : Value} : am_g d X am_m6021 18 [v0, v1, v2] sk st Q = am_gt 128 21 [v0, v1, v2] sk st (fun pc lc sk st => am_g d X am_m6021 pc lc sk st Q) := am_gu.trans rfl
theorem u6021_21 {v0 : Value} {v2 : Value} {x : Int32} : am_g d X am_m6021 21 [v0, .int x, v2] sk st Q = am_g d X am_m6021 22 [v0, .int x, v2] (.int x :: sk) st Q := am_gu.trans rfl
theorem u6021_22 {v0 : Value} {v1 : Value} {x : Int32} : am_g d X am_m6021 22 [v0, v1, .int x] sk st Q = am_g d X am_m6021 23 [v0, v1, .int x] (.int x :: sk) st Q := am_gu.trans rfl
theorem u6021_23 {a0 : Value} {a1 : Value} {v0 : Value} {v1 : Value} {v2 : Value} : am_g d X am_m6021 23 [v0, v1, v2] (a1 :: a0 :: sk) st Q = (sk.length ≤ 4 ∧ am_Ca X d 6061 [a0, a1] st (am_af am_m6021 23 [v0, v1, v2] sk (fun pc lc sk st => am_g d X am_m6021 pc lc sk st Q) Q)) := am_gu.trans (propext ⟨fun h => ⟨h.1.2, h.2⟩, fun h => ⟨⟨Nat.le_add_left _ _, h.1⟩, h.2⟩⟩)
theorem u6021_26 {a0 : Value} {v0 : Value} {v1 : Value} {v2 : Value} : am_g d X am_m6021 26 [v0, v1, v2] (a0 :: .ref o :: sk) st Q = ((am_ob st o 5 ∧ sk.length ≤ 4) ∧ am_Ca X d 5027 [.ref o, a0] st (am_af am_m6021 26 [v0, v1, v2] sk (fun pc lc sk st => am_g d X am_m6021 pc lc sk st Q) Q)) := am_gu.trans rfl
theorem u6021_29 {v0 : Value} {v1 : Value} {v2 : Value} {x : Int32} : am_g d X am_m6021 29 [v0, v1, v2] [.int x] st Q = Q (.inl (some (.int x))) st := am_gu.trans rfl
set_option maxRecDepth 100000 in
theorem of_6022 : am_of 6022 = some am_m6022 := rfl
theorem c6022 {z} {P : am_Q} : am_Ca X (d + 1) 6022 [.ref z] st P = am_g d X am_m6022 0 [.ref z] [] st P := am_cg of_6022 (by show 1 ≤ 1; decide)
theorem hd_6022 : am_hd am_m6022 = [] := rfl
theorem u6022_0 {x : Nat} : am_g d X am_m6022 0 [.ref x] sk st Q = am_g d X am_m6022 1 [.ref x] (.ref x :: sk) st Q := am_gu.trans rfl
theorem u6022_1 {v0 : Value} : am_g d X am_m6022 1 [v0] sk st Q = am_gt 193 4 [v0] sk st (fun pc lc sk st => am_g d X am_m6022 pc lc sk st Q) := am_gu.trans rfl
theorem u6022_4 {v0 : Value} : am_g d X am_m6022 4 [v0] sk st Q = am_gt 128 7 [v0] sk st (fun pc lc sk st => am_g d X am_m6022 pc lc sk st Q) := am_gu.trans rfl
theorem u6022_7 {v0 : Value} : am_g d X am_m6022 7 [v0] (.ref o :: sk) st Q = ((am_ob st o 5 ∧ sk.length ≤ 4) ∧ am_Ca X d 5029 [.ref o] st (am_af am_m6022 7 [v0] sk (fun pc lc sk st => am_g d X am_m6022 pc lc sk st Q) Q)) := am_gu.trans rfl
theorem u6022_10 {v0 : Value} {x : Int32} : am_g d X am_m6022 10 [v0] [.int x] st Q = Q (.inl (some (.int x))) st := am_gu.trans rfl
set_option maxRecDepth 100000 in
theorem of_6023 : am_of 6023 = some am_m6023 := rfl
theorem c6023 {z} {P : am_Q} : am_Ca X (d + 1) 6023 [.ref z] st P = am_g d X am_m6023 0 [.ref z] [] st P := am_cg of_6023 (by show 1 ≤ 1; decide)
theorem hd_6023 : am_hd am_m6023 = [] := rfl
theorem u6023_0 {x : Nat} : am_g d X am_m6023 0 [.ref x] sk st Q = am_g d X am_m6023 1 [.ref x] (.ref x :: sk) st Q := am_gu.trans rfl
theorem u6023_1 {v0 : Value} : am_g d X am_m6023 1 [v0] sk st Q = am_gt 193 4 [v0] sk st (fun pc lc sk st => am_g d X am_m6023 pc lc sk st Q) := am_gu.trans rfl
theorem u6023_4 {v0 : Value} : am_g d X am_m6023 4 [v0] sk st Q = am_gt 128 7 [v0] sk st (fun pc lc sk st => am_g d X am_m6023 pc lc sk st Q) := am_gu.trans rfl
theorem u6023_7 {v0 : Value} : am_g d X am_m6023 7 [v0] (.ref o :: sk) st Q = ((am_ob st o 5 ∧ sk.length ≤ 4) ∧ am_Ca X d 5030 [.ref o] st (am_af am_m6023 7 [v0] sk (fun pc lc sk st => am_g d X am_m6023 pc lc sk st Q) Q)) := am_gu.trans rfl
theorem u6023_10 {v0 : Value} {x : Int32} : am_g d X am_m6023 10 [v0] [.int x] st Q = Q (.inl (some (.int x))) st := am_gu.trans rfl
set_option maxRecDepth 100000 in
theorem of_6024 : am_of 6024 = some am_m6024 := rfl
theorem c6024 {z} {P : am_Q} : am_Ca X (d + 1) 6024 [.ref z] st P = am_g d X am_m6024 0 [.ref z] [] st P := am_cg of_6024 (by show 1 ≤ 1; decide)
theorem hd_6024 : am_hd am_m6024 = [] := rfl
theorem u6024_0 {x : Nat} : am_g d X am_m6024 0 [.ref x] sk st Q = am_g d X am_m6024 1 [.ref x] (.ref x :: sk) st Q := am_gu.trans rfl
theorem u6024_1 {v0 : Value} : am_g d X am_m6024 1 [v0] sk st Q = am_gt 193 4 [v0] sk st (fun pc lc sk st => am_g d X am_m6024 pc lc sk st Q) := am_gu.trans rfl
theorem u6024_4 {v0 : Value} : am_g d X am_m6024 4 [v0] sk st Q = am_gt 128 7 [v0] sk st (fun pc lc sk st => am_g d X am_m6024 pc lc sk st Q) := am_gu.trans rfl
theorem u6024_7 {v0 : Value} : am_g d X am_m6024 7 [v0] (.ref o :: sk) st Q = ((am_ob st o 5 ∧ sk.length ≤ 4) ∧ am_Ca X d 5031 [.ref o] st (am_af am_m6024 7 [v0] sk (fun pc lc sk st => am_g d X am_m6024 pc lc sk st Q) Q)) := am_gu.trans rfl
theorem u6024_10 {v0 : Value} {x : Int32} : am_g d X am_m6024 10 [v0] [.int x] st Q = Q (.inl (some (.int x))) st := am_gu.trans rfl
set_option maxRecDepth 100000 in
theorem of_6025 : am_of 6025 = some am_m6025 := rfl
theorem c6025 {z} {P : am_Q} : am_Ca X (d + 1) 6025 [.ref z] st P = am_g d X am_m6025 0 [.ref z] [] st P := am_cg of_6025 (by show 1 ≤ 1; decide)
theorem hd_6025 : am_hd am_m6025 = [] := rfl
theorem u6025_0 {x : Nat} : am_g d X am_m6025 0 [.ref x] sk st Q = am_g d X am_m6025 1 [.ref x] (.ref x :: sk) st Q := am_gu.trans rfl
theorem u6025_1 {v0 : Value} : am_g d X am_m6025 1 [v0] sk st Q = am_gt 193 4 [v0] sk st (fun pc lc sk st => am_g d X am_m6025 pc lc sk st Q) := am_gu.trans rfl
theorem u6025_4 {v0 : Value} : am_g d X am_m6025 4 [v0] sk st Q = am_gt 128 7 [v0] sk st (fun pc lc sk st => am_g d X am_m6025 pc lc sk st Q) := am_gu.trans rfl
theorem u6025_7 {v0 : Value} : am_g d X am_m6025 7 [v0] sk st Q = am_gt 168 10 [v0] sk st (fun pc lc sk st => am_g d X am_m6025 pc lc sk st Q) := am_gu.trans rfl
theorem u6025_10 {v0 : Value} : am_g d X am_m6025 10 [v0] sk st Q = am_g d X am_m6025 11 [v0] (.int (am_i 1) :: sk) st Q := am_gu.trans rfl
theorem u6025_11 {v0 : Value} {x : Int32} {y : Int32} : am_g d X am_m6025 11 [v0] (.int y :: .int x :: sk) st Q = (if decide (¬ x = y) = true then am_g d X am_m6025 18 [v0] sk st Q else am_g d X am_m6025 14 [v0] sk st Q) := am_gu.trans rfl
theorem u6025_14 {v0 : Value} : am_g d X am_m6025 14 [v0] sk st Q = am_g d X am_m6025 15 [v0] (.int (am_i 1) :: sk) st Q := am_gu.trans rfl
theorem u6025_15 {v0 : Value} : am_g d X am_m6025 15 [v0] sk st Q = am_g d X am_m6025 19 [v0] sk st Q := am_gu.trans rfl
theorem u6025_18 {v0 : Value} : am_g d X am_m6025 18 [v0] sk st Q = am_g d X am_m6025 19 [v0] (.int (am_i 0) :: sk) st Q := am_gu.trans rfl
theorem u6025_19 {v0 : Value} {x : Int32} : am_g d X am_m6025 19 [v0] [.int x] st Q = ((x = 0 ∨ x = 1) ∧ Q (.inl (some (.int x))) st) := am_gu.trans rfl
set_option maxRecDepth 100000 in
theorem of_6026 : am_of 6026 = some am_m6026 := rfl
theorem c6026 {z} {P : am_Q} : am_Ca X (d + 1) 6026 [.ref z] st P = am_g d X am_m6026 0 [.ref z] [] st P := am_cg of_6026 (by show 1 ≤ 1; decide)
theorem hd_6026 : am_hd am_m6026 = [] := rfl
theorem u6026_0 {x : Nat} : am_g d X am_m6026 0 [.ref x] sk st Q = am_g d X am_m6026 1 [.ref x] (.ref x :: sk) st Q := am_gu.trans rfl
theorem u6026_1 {v0 : Value} : am_g d X am_m6026 1 [v0] sk st Q = am_gt 193 4 [v0] sk st (fun pc lc sk st => am_g d X am_m6026 pc lc sk st Q) := am_gu.trans rfl
theorem u6026_4 {v0 : Value} : am_g d X am_m6026 4 [v0] sk st Q = am_gt 128 7 [v0] sk st (fun pc lc sk st => am_g d X am_m6026 pc lc sk st Q) := am_gu.trans rfl
theorem u6026_7 {v0 : Value} : am_g d X am_m6026 7 [v0] sk st Q = am_gt 168 10 [v0] sk st (fun pc lc sk st => am_g d X am_m6026 pc lc sk st Q) := am_gu.trans rfl
theorem u6026_10 {v0 : Value} : am_g d X am_m6026 10 [v0] sk st Q = am_g d X am_m6026 11 [v0] (.int (am_i 2) :: sk) st Q := am_gu.trans rfl
theorem u6026_11 {v0 : Value} {x : Int32} {y : Int32} : am_g d X am_m6026 11 [v0] (.int y :: .int x :: sk) st Q = (if decide (¬ x = y) = true then am_g d X am_m6026 18 [v0] sk st Q else am_g d X am_m6026 14 [v0] sk st Q) := am_gu.trans rfl
theorem u6026_14 {v0 : Value} : am_g d X am_m6026 14 [v0] sk st Q = am_g d X am_m6026 15 [v0] (.int (am_i 1) :: sk) st Q := am_gu.trans rfl
theorem u6026_15 {v0 : Value} : am_g d X am_m6026 15 [v0] sk st Q = am_g d X am_m6026 19 [v0] sk st Q := am_gu.trans rfl
theorem u6026_18 {v0 : Value} : am_g d X am_m6026 18 [v0] sk st Q = am_g d X am_m6026 19 [v0] (.int (am_i 0) :: sk) st Q := am_gu.trans rfl
theorem u6026_19 {v0 : Value} {x : Int32} : am_g d X am_m6026 19 [v0] [.int x] st Q = ((x = 0 ∨ x = 1) ∧ Q (.inl (some (.int x))) st) := am_gu.trans rfl
set_option maxRecDepth 100000 in
theorem of_6027 : am_of 6027 = some am_m6027 := rfl
theorem c6027 {z a0 a1} {P : am_Q} : am_Ca X (d + 1) 6027 [.ref z, .int a0, .int a1] st P = am_g d X am_m6027 0 [.ref z, .int a0, .int a1] [] st P := am_cg of_6027 (by show 3 ≤ 3; decide)
theorem hd_6027 : am_hd am_m6027 = [] := rfl
theorem u6027_0 {v0 : Value} {v2 : Value} {x : Int32} : am_g d X am_m6027 0 [v0, .int x, v2] sk st Q = am_g d X am_m6027 1 [v0, .int x, v2] (.int x :: sk) st Q := am_gu.trans rfl
theorem u6027_1 {v0 : Value} {v1 : Value} {x : Int32} : am_g d X am_m6027 1 [v0, v1, .int x] sk st Q = am_g d X am_m6027 2 [v0, v1, .int x] (.int x :: sk) st Q := am_gu.trans rfl
theorem u6027_2 {a0 : Value} {a1 : Value} {v0 : Value} {v1 : Value} {v2 : Value} : am_g d X am_m6027 2 [v0, v1, v2] (a1 :: a0 :: sk) st Q = (sk.length ≤ 4 ∧ am_Ca X d 6062 [a0, a1] st (am_af am_m6027 2 [v0, v1, v2] sk (fun pc lc sk st => am_g d X am_m6027 pc lc sk st Q) Q)) := am_gu.trans (propext ⟨fun h => ⟨h.1.2, h.2⟩, fun h => ⟨⟨Nat.le_add_left _ _, h.1⟩, h.2⟩⟩)
theorem u6027_5 {v1 : Value} {v2 : Value} {x : Nat} : am_g d X am_m6027 5 [.ref x, v1, v2] sk st Q = am_g d X am_m6027 6 [.ref x, v1, v2] (.ref x :: sk) st Q := am_gu.trans rfl
theorem u6027_6 {v0 : Value} {v1 : Value} {v2 : Value} : am_g d X am_m6027 6 [v0, v1, v2] sk st Q = am_gt 193 9 [v0, v1, v2] sk st (fun pc lc sk st => am_g d X am_m6027 pc lc sk st Q) := am_gu.trans rfl
theorem u6027_9 {v0 : Value} {v1 : Value} {v2 : Value} : am_g d X am_m6027 9 [v0, v1, v2] sk st Q = am_gt 128 12 [v0, v1, v2] sk st (fun pc lc sk st => am_g d X am_m6027 pc lc sk st Q) := am_gu.trans rfl
theorem u6027_12 {v0 : Value} {v2 : Value} {x : Int32} : am_g d X am_m6027 12 [v0, .int x, v2] sk st Q = am_g d X am_m6027 13 [v0, .int x, v2] (.int x :: sk) st Q := am_gu.trans rfl
theorem u6027_13 {v0 : Value} {v1 : Value} {x : Int32} : am_g d X am_m6027 13 [v0, v1, .int x] sk st Q = am_g d X am_m6027 14 [v0, v1, .int x] (.int x :: sk) st Q := am_gu.trans rfl
theorem u6027_14 {a0 : Value} {a1 : Value} {v0 : Value} {v1 : Value} {v2 : Value} : am_g d X am_m6027 14 [v0, v1, v2] (a1 :: a0 :: sk) st Q = (sk.length ≤ 4 ∧ am_Ca X d 6061 [a0, a1] st (am_af am_m6027 14 [v0, v1, v2] sk (fun pc lc sk st => am_g d X am_m6027 pc lc sk st Q) Q)) := am_gu.trans (propext ⟨fun h => ⟨h.1.2, h.2⟩, fun h => ⟨⟨Nat.le_add_left _ _, h.1⟩, h.2⟩⟩)
theorem u6027_17 {a0 : Value} {v0 : Value} {v1 : Value} {v2 : Value} : am_g d X am_m6027 17 [v0, v1, v2] (a0 :: .ref o :: sk) st Q = ((am_ob st o 5 ∧ sk.length ≤ 4) ∧ am_Ca X d 5021 [.ref o, a0] st (am_af am_m6027 17 [v0, v1, v2] sk (fun pc lc sk st => am_g d X am_m6027 pc lc sk st Q) Q)) := am_gu.trans rfl
theorem u6027_20 {v0 : Value} {v1 : Value} {v2 : Value} {x : Int32} : am_g d X am_m6027 20 [v0, v1, v2] [.int x] st Q = Q (.inl (some (.int x))) st := am_gu.trans rfl
set_option maxRecDepth 100000 in
theorem of_6028 : am_of 6028 = some am_m6028 := rfl
theorem c6028 {z a0 a1} {P : am_Q} : am_Ca X (d + 1) 6028 [.ref z, .int a0, .int a1] st P = am_g d X am_m6028 0 [.ref z, .int a0, .int a1] [] st P := am_cg of_6028 (by show 3 ≤ 3; decide)
theorem hd_6028 : am_hd am_m6028 = [] := rfl
theorem u6028_0 {v0 : Value} {v2 : Value} {x : Int32} : am_g d X am_m6028 0 [v0, .int x, v2] sk st Q = am_g d X am_m6028 1 [v0, .int x, v2] (.int x :: sk) st Q := am_gu.trans rfl
theorem u6028_1 {v0 : Value} {v1 : Value} {x : Int32} : am_g d X am_m6028 1 [v0, v1, .int x] sk st Q = am_g d X am_m6028 2 [v0, v1, .int x] (.int x :: sk) st Q := am_gu.trans rfl
theorem u6028_2 {a0 : Value} {a1 : Value} {v0 : Value} {v1 : Value} {v2 : Value} : am_g d X am_m6028 2 [v0, v1, v2] (a1 :: a0 :: sk) st Q = (sk.length ≤ 4 ∧ am_Ca X d 6062 [a0, a1] st (am_af am_m6028 2 [v0, v1, v2] sk (fun pc lc sk st => am_g d X am_m6028 pc lc sk st Q) Q)) := am_gu.trans (propext ⟨fun h => ⟨h.1.2, h.2⟩, fun h => ⟨⟨Nat.le_add_left _ _, h.1⟩, h.2⟩⟩)
theorem u6028_5 {v1 : Value} {v2 : Value} {x : Nat} : am_g d X am_m6028 5 [.ref x, v1, v2] sk st Q = am_g d X am_m6028 6 [.ref x, v1, v2] (.ref x :: sk) st Q := am_gu.trans rfl
theorem u6028_6 {v0 : Value} {v1 : Value} {v2 : Value} : am_g d X am_m6028 6 [v0, v1, v2] sk st Q = am_gt 193 9 [v0, v1, v2] sk st (fun pc lc sk st => am_g d X am_m6028 pc lc sk st Q) := am_gu.trans rfl
theorem u6028_9 {v0 : Value} {v1 : Value} {v2 : Value} : am_g d X am_m6028 9 [v0, v1, v2] sk st Q = am_gt 128 12 [v0, v1, v2] sk st (fun pc lc sk st => am_g d X am_m6028 pc lc sk st Q) := am_gu.trans rfl
theorem u6028_12 {v0 : Value} {v2 : Value} {x : Int32} : am_g d X am_m6028 12 [v0, .int x, v2] sk st Q = am_g d X am_m6028 13 [v0, .int x, v2] (.int x :: sk) st Q := am_gu.trans rfl
theorem u6028_13 {v0 : Value} {v1 : Value} {x : Int32} : am_g d X am_m6028 13 [v0, v1, .int x] sk st Q = am_g d X am_m6028 14 [v0, v1, .int x] (.int x :: sk) st Q := am_gu.trans rfl
theorem u6028_14 {a0 : Value} {a1 : Value} {v0 : Value} {v1 : Value} {v2 : Value} : am_g d X am_m6028 14 [v0, v1, v2] (a1 :: a0 :: sk) st Q = (sk.length ≤ 4 ∧ am_Ca X d 6061 [a0, a1] st (am_af am_m6028 14 [v0, v1, v2] sk (fun pc lc sk st => am_g d X am_m6028 pc lc sk st Q) Q)) := am_gu.trans (propext ⟨fun h => ⟨h.1.2, h.2⟩, fun h => ⟨⟨Nat.le_add_left _ _, h.1⟩, h.2⟩⟩)
theorem u6028_17 {a0 : Value} {v0 : Value} {v1 : Value} {v2 : Value} : am_g d X am_m6028 17 [v0, v1, v2] (a0 :: .ref o :: sk) st Q = ((am_ob st o 5 ∧ sk.length ≤ 4) ∧ am_Ca X d 5023 [.ref o, a0] st (am_af am_m6028 17 [v0, v1, v2] sk (fun pc lc sk st => am_g d X am_m6028 pc lc sk st Q) Q)) := am_gu.trans rfl
theorem u6028_20 {v0 : Value} {v1 : Value} {v2 : Value} {x : Int32} : am_g d X am_m6028 20 [v0, v1, v2] [.int x] st Q = ((x = 0 ∨ x = 1) ∧ Q (.inl (some (.int x))) st) := am_gu.trans rfl
set_option maxRecDepth 100000 in
theorem of_6029 : am_of 6029 = some am_m6029 := rfl
theorem c6029 {z} {P : am_Q} : am_Ca X (d + 1) 6029 [.ref z] st P = am_g d X am_m6029 0 [.ref z] [] st P := am_cg of_6029 (by show 1 ≤ 1; decide)
theorem hd_6029 : am_hd am_m6029 = [] := rfl
theorem u6029_0 {x : Nat} : am_g d X am_m6029 0 [.ref x] sk st Q = am_g d X am_m6029 1 [.ref x] (.ref x :: sk) st Q := am_gu.trans rfl
theorem u6029_1 {v0 : Value} : am_g d X am_m6029 1 [v0] sk st Q = am_gt 193 4 [v0] sk st (fun pc lc sk st => am_g d X am_m6029 pc lc sk st Q) := am_gu.trans rfl
theorem u6029_4 {v0 : Value} : am_g d X am_m6029 4 [v0] sk st Q = am_gt 128 7 [v0] sk st (fun pc lc sk st => am_g d X am_m6029 pc lc sk st Q) := am_gu.trans rfl
theorem u6029_7 {v0 : Value} : am_g d X am_m6029 7 [v0] (.ref o :: sk) st Q = ((am_ob st o 5 ∧ sk.length ≤ 4) ∧ am_Ca X d 5024 [.ref o] st (am_af am_m6029 7 [v0] sk (fun pc lc sk st => am_g d X am_m6029 pc lc sk st Q) Q)) := am_gu.trans rfl
theorem u6029_10 {v0 : Value} {x : Int32} : am_g d X am_m6029 10 [v0] [.int x] st Q = Q (.inl (some (.int x))) st := am_gu.trans rfl
set_option maxRecDepth 100000 in
theorem of_6030 : am_of 6030 = some am_m6030 := rfl
theorem c6030 {z a0 a1 a2} {P : am_Q} : am_Ca X (d + 1) 6030 [.ref z, .int a0, .int a1, .int a2] st P = am_g d X am_m6030 0 [.ref z, .int a0, .int a1, .int a2] [] st P := am_cg of_6030 (by show 4 ≤ 4; decide)
theorem hd_6030 : am_hd am_m6030 = [] := rfl
theorem u6030_0 {v1 : Value} {v2 : Value} {v3 : Value} {x : Nat} : am_g d X am_m6030 0 [.ref x, v1, v2, v3] sk st Q = am_g d X am_m6030 1 [.ref x, v1, v2, v3] (.ref x :: sk) st Q := am_gu.trans rfl
theorem u6030_1 {v0 : Value} {v2 : Value} {v3 : Value} {x : Int32} : am_g d X am_m6030 1 [v0, .int x, v2, v3] sk st Q = am_g d X am_m6030 2 [v0, .int x, v2, v3] (.int x :: sk) st Q := am_gu.trans rfl
theorem u6030_2 {a0 : Value} {v0 : Value} {v1 : Value} {v2 : Value} {v3 : Value} : am_g d X am_m6030 2 [v0, v1, v2, v3] (a0 :: .ref o :: sk) st Q = ((am_ob st o 6 ∧ sk.length ≤ 4) ∧ am_Ca X d 6065 [.ref o, a0] st (am_af am_m6030 2 [v0, v1, v2, v3] sk (fun pc lc sk st => am_g d X am_m6030 pc lc sk st Q) Q)) := am_gu.trans rfl
theorem u6030_5 {v0 : Value} {v1 : Value} {v3 : Value} {x : Int32} : am_g d X am_m6030 5 [v0, v1, .int x, v3] sk st Q = am_g d X am_m6030 6 [v0, v1, .int x, v3] (.int x :: sk) st Q := am_gu.trans rfl
theorem u6030_6 {v0 : Value} {v1 : Value} {v2 : Value} {x : Int32} : am_g d X am_m6030 6 [v0, v1, v2, .int x] sk st Q = am_g d X am_m6030 7 [v0, v1, v2, .int x] (.int x :: sk) st Q := am_gu.trans rfl
theorem u6030_7 {a0 : Value} {a1 : Value} {v0 : Value} {v1 : Value} {v2 : Value} {v3 : Value} : am_g d X am_m6030 7 [v0, v1, v2, v3] (a1 :: a0 :: sk) st Q = (sk.length ≤ 4 ∧ am_Ca X d 6062 [a0, a1] st (am_af am_m6030 7 [v0, v1, v2, v3] sk (fun pc lc sk st => am_g d X am_m6030 pc lc sk st Q) Q)) := am_gu.trans (propext ⟨fun h => ⟨h.1.2, h.2⟩, fun h => ⟨⟨Nat.le_add_left _ _, h.1⟩, h.2⟩⟩)
theorem u6030_10 {v1 : Value} {v2 : Value} {v3 : Value} {x : Nat} : am_g d X am_m6030 10 [.ref x, v1, v2, v3] sk st Q = am_g d X am_m6030 11 [.ref x, v1, v2, v3] (.ref x :: sk) st Q := am_gu.trans rfl
theorem u6030_11 {v0 : Value} {v1 : Value} {v2 : Value} {v3 : Value} : am_g d X am_m6030 11 [v0, v1, v2, v3] sk st Q = am_gt 193 14 [v0, v1, v2, v3] sk st (fun pc lc sk st => am_g d X am_m6030 pc lc sk st Q) := am_gu.trans rfl
theorem u6030_14 {v0 : Value} {v1 : Value} {v2 : Value} {v3 : Value} : am_g d X am_m6030 14 [v0, v1, v2, v3] sk st Q = am_gt 128 17 [v0, v1, v2, v3] sk st (fun pc lc sk st => am_g d X am_m6030 pc lc sk st Q) := am_gu.trans rfl
theorem u6030_17 {v0 : Value} {v2 : Value} {v3 : Value} {x : Int32} : am_g d X am_m6030 17 [v0, .int x, v2, v3] sk st Q = am_g d X am_m6030 18 [v0, .int x, v2, v3] (.int x :: sk) st Q := am_gu.trans rfl
theorem u6030_18 {v0 : Value} {v1 : Value} {v3 : Value} {x : Int32} : am_g d X am_m6030 18 [v0, v1, .int x, v3] sk st Q = am_g d X am_m6030 19 [v0, v1, .int x, v3] (.int x :: sk) st Q := am_gu.trans rfl
theorem u6030_19 {v0 : Value} {v1 : Value} {v2 : Value} {x : Int32} : am_g d X am_m6030 19 [v0, v1, v2, .int x] sk st Q = am_g d X am_m6030 20 [v0, v1, v2, .int x] (.int x :: sk) st Q := am_gu.trans rfl
theorem u6030_20 {a0 : Value} {a1 : Value} {v0 : Value} {v1 : Value} {v2 : Value} {v3 : Value} : am_g d X am_m6030 20 [v0, v1, v2, v3] (a1 :: a0 :: sk) st Q = (sk.length ≤ 4 ∧ am_Ca X d 6061 [a0, a1] st (am_af am_m6030 20 [v0, v1, v2, v3] sk (fun pc lc sk st => am_g d X am_m6030 pc lc sk st Q) Q)) := am_gu.trans (propext ⟨fun h => ⟨h.1.2, h.2⟩, fun h => ⟨⟨Nat.le_add_left _ _, h.1⟩, h.2⟩⟩)
theorem u6030_23 {a0 : Value} {a1 : Value} {v0 : Value} {v1 : Value} {v2 : Value} {v3 : Value} : am_g d X am_m6030 23 [v0, v1, v2, v3] (a1 :: a0 :: .ref o :: sk) st Q = ((am_ob st o 5 ∧ sk.length ≤ 4) ∧ am_Ca X d 5007 [.ref o, a0, a1] st (am_af am_m6030 23 [v0, v1, v2, v3] sk (fun pc lc sk st => am_g d X am_m6030 pc lc sk st Q) Q)) := am_gu.trans rfl
theorem u6030_26 {v0 : Value} {v1 : Value} {v2 : Value} {v3 : Value} {x : Int32} : am_g d X am_m6030 26 [v0, v1, v2, v3] [.int x] st Q = Q (.inl (some (.int x))) st := am_gu.trans rfl
set_option maxRecDepth 100000 in
theorem of_6031 : am_of 6031 = some am_m6031 := rfl
theorem c6031 {z a0 a1} {P : am_Q} : am_Ca X (d + 1) 6031 [.ref z, .int a0, .int a1] st P = am_g d X am_m6031 0 [.ref z, .int a0, .int a1] [] st P := am_cg of_6031 (by show 3 ≤ 3; decide)
theorem hd_6031 : am_hd am_m6031 = [] := rfl
theorem u6031_0 {v1 : Value} {v2 : Value} {x : Nat} : am_g d X am_m6031 0 [.ref x, v1, v2] sk st Q = am_g d X am_m6031 1 [.ref x, v1, v2] (.ref x :: sk) st Q := am_gu.trans rfl
theorem u6031_1 {v0 : Value} {v2 : Value} {x : Int32} : am_g d X am_m6031 1 [v0, .int x, v2] sk st Q = am_g d X am_m6031 2 [v0, .int x, v2] (.int x :: sk) st Q := am_gu.trans rfl
theorem u6031_2 {a0 : Value} {v0 : Value} {v1 : Value} {v2 : Value} : am_g d X am_m6031 2 [v0, v1, v2] (a0 :: .ref o :: sk) st Q = ((am_ob st o 6 ∧ sk.length ≤ 4) ∧ am_Ca X d 6065 [.ref o, a0] st (am_af am_m6031 2 [v0, v1, v2] sk (fun pc lc sk st => am_g d X am_m6031 pc lc sk st Q) Q)) := am_gu.trans rfl
theorem u6031_5 {v1 : Value} {v2 : Value} {x : Nat} : am_g d X am_m6031 5 [.ref x, v1, v2] sk st Q = am_g d X am_m6031 6 [.ref x, v1, v2] (.ref x :: sk) st Q := am_gu.trans rfl
theorem u6031_6 {v0 : Value} {v1 : Value} {x : Int32} : am_g d X am_m6031 6 [v0, v1, .int x] sk st Q = am_g d X am_m6031 7 [v0, v1, .int x] (.int x :: sk) st Q := am_gu.trans rfl
theorem u6031_7 {a0 : Value} {v0 : Value} {v1 : Value} {v2 : Value} : am_g d X am_m6031 7 [v0, v1, v2] (a0 :: .ref o :: sk) st Q = ((am_ob st o 6 ∧ sk.length ≤ 4) ∧ am_Ca X d 6065 [.ref o, a0] st (am_af am_m6031 7 [v0, v1, v2] sk (fun pc lc sk st => am_g d X am_m6031 pc lc sk st Q) Q)) := am_gu.trans rfl
theorem u6031_10 {v1 : Value} {v2 : Value} {x : Nat} : am_g d X am_m6031 10 [.ref x, v1, v2] sk st Q = am_g d X am_m6031 11 [.ref x, v1, v2] (.ref x :: sk) st Q := am_gu.trans rfl
theorem u6031_11 {v0 : Value} {v1 : Value} {v2 : Value} : am_g d X am_m6031 11 [v0, v1, v2] sk st Q = am_gt 193 14 [v0, v1, v2] sk st (fun pc lc sk st => am_g d X am_m6031 pc lc sk st Q) := am_gu.trans rfl
theorem u6031_14 {v0 : Value} {v1 : Value} {v2 : Value} : am_g d X am_m6031 14 [v0, v1, v2] sk st Q = am_gt 128 17 [v0, v1, v2] sk st (fun pc lc sk st => am_g d X am_m6031 pc lc sk st Q) := am_gu.trans rfl
theorem u6031_17 {v0 : Value} {v2 : Value} {x : Int32} : am_g d X am_m6031 17 [v0, .int x, v2] sk st Q = am_g d X am_m6031 18 [v0, .int x, v2] (.int x :: sk) st Q := am_gu.trans rfl
theorem u6031_18 {v0 : Value} {v1 : Value} {x : Int32} : am_g d X am_m6031 18 [v0, v1, .int x] sk st Q = am_g d X am_m6031 19 [v0, v1, .int x] (.int x :: sk) st Q := am_gu.trans rfl
theorem u6031_19 {a0 : Value} {a1 : Value} {v0 : Value} {v1 : Value} {v2 : Value} : am_g d X am_m6031 19 [v0, v1, v2] (a1 :: a0 :: .ref o :: sk) st Q = ((am_ob st o 5 ∧ sk.length ≤ 4) ∧ am_Ca X d 5009 [.ref o, a0, a1] st (am_af am_m6031 19 [v0, v1, v2] sk (fun pc lc sk st => am_g d X am_m6031 pc lc sk st Q) Q)) := am_gu.trans rfl
theorem u6031_22 {v0 : Value} {v1 : Value} {v2 : Value} {x : Int32} : am_g d X am_m6031 22 [v0, v1, v2] [.int x] st Q = Q (.inl (some (.int x))) st := am_gu.trans rfl
set_option maxRecDepth 100000 in
theorem of_6032 : am_of 6032 = some am_m6032 := rfl
theorem c6032 {z a0 a1 a2} {P : am_Q} : am_Ca X (d + 1) 6032 [.ref z, .int a0, .int a1, .int a2] st P = am_g d X am_m6032 0 [.ref z, .int a0, .int a1, .int a2] [] st P := am_cg of_6032 (by show 4 ≤ 4; decide)
theorem hd_6032 : am_hd am_m6032 = [] := rfl
theorem u6032_0 {v1 : Value} {v2 : Value} {v3 : Value} {x : Nat} : am_g d X am_m6032 0 [.ref x, v1, v2, v3] sk st Q = am_g d X am_m6032 1 [.ref x, v1, v2, v3] (.ref x :: sk) st Q := am_gu.trans rfl
theorem u6032_1 {v0 : Value} {v2 : Value} {v3 : Value} {x : Int32} : am_g d X am_m6032 1 [v0, .int x, v2, v3] sk st Q = am_g d X am_m6032 2 [v0, .int x, v2, v3] (.int x :: sk) st Q := am_gu.trans rfl
theorem u6032_2 {a0 : Value} {v0 : Value} {v1 : Value} {v2 : Value} {v3 : Value} : am_g d X am_m6032 2 [v0, v1, v2, v3] (a0 :: .ref o :: sk) st Q = ((am_ob st o 6 ∧ sk.length ≤ 4) ∧ am_Ca X d 6065 [.ref o, a0] st (am_af am_m6032 2 [v0, v1, v2, v3] sk (fun pc lc sk st => am_g d X am_m6032 pc lc sk st Q) Q)) := am_gu.trans rfl
theorem u6032_5 {v0 : Value} {v1 : Value} {v3 : Value} {x : Int32} : am_g d X am_m6032 5 [v0, v1, .int x, v3] sk st Q = am_g d X am_m6032 6 [v0, v1, .int x, v3] (.int x :: sk) st Q := am_gu.trans rfl
theorem u6032_6 {v0 : Value} {v1 : Value} {v2 : Value} {x : Int32} : am_g d X am_m6032 6 [v0, v1, v2, .int x] sk st Q = am_g d X am_m6032 7 [v0, v1, v2, .int x] (.int x :: sk) st Q := am_gu.trans rfl
theorem u6032_7 {a0 : Value} {a1 : Value} {v0 : Value} {v1 : Value} {v2 : Value} {v3 : Value} : am_g d X am_m6032 7 [v0, v1, v2, v3] (a1 :: a0 :: sk) st Q = (sk.length ≤ 4 ∧ am_Ca X d 6062 [a0, a1] st (am_af am_m6032 7 [v0, v1, v2, v3] sk (fun pc lc sk st => am_g d X am_m6032 pc lc sk st Q) Q)) := am_gu.trans (propext ⟨fun h => ⟨h.1.2, h.2⟩, fun h => ⟨⟨Nat.le_add_left _ _, h.1⟩, h.2⟩⟩)
theorem u6032_10 {v1 : Value} {v2 : Value} {v3 : Value} {x : Nat} : am_g d X am_m6032 10 [.ref x, v1, v2, v3] sk st Q = am_g d X am_m6032 11 [.ref x, v1, v2, v3] (.ref x :: sk) st Q := am_gu.trans rfl
theorem u6032_11 {v0 : Value} {v1 : Value} {v2 : Value} {v3 : Value} : am_g d X am_m6032 11 [v0, v1, v2, v3] sk st Q = am_gt 193 14 [v0, v1, v2, v3] sk st (fun pc lc sk st => am_g d X am_m6032 pc lc sk st Q) := am_gu.trans rfl
theorem u6032_14 {v0 : Value} {v1 : Value} {v2 : Value} {v3 : Value} : am_g d X am_m6032 14 [v0, v1, v2, v3] sk st Q = am_gt 128 17 [v0, v1, v2, v3] sk st (fun pc lc sk st => am_g d X am_m6032 pc lc sk st Q) := am_gu.trans rfl
theorem u6032_17 {v0 : Value} {v2 : Value} {v3 : Value} {x : Int32} : am_g d X am_m6032 17 [v0, .int x, v2, v3] sk st Q = am_g d X am_m6032 18 [v0, .int x, v2, v3] (.int x :: sk) st Q := am_gu.trans rfl
theorem u6032_18 {v0 : Value} {v1 : Value} {v3 : Value} {x : Int32} : am_g d X am_m6032 18 [v0, v1, .int x, v3] sk st Q = am_g d X am_m6032 19 [v0, v1, .int x, v3] (.int x :: sk) st Q := am_gu.trans rfl
theorem u6032_19 {v0 : Value} {v1 : Value} {v2 : Value} {x : Int32} : am_g d X am_m6032 19 [v0, v1, v2, .int x] sk st Q = am_g d X am_m6032 20 [v0, v1, v2, .int x] (.int x :: sk) st Q := am_gu.trans rfl
theorem u6032_20 {a0 : Value} {a1 : Value} {v0 : Value} {v1 : Value} {v2 : Value} {v3 : Value} : am_g d X am_m6032 20 [v0, v1, v2, v3] (a1 :: a0 :: sk) st Q = (sk.length ≤ 4 ∧ am_Ca X d 6061 [a0, a1] st (am_af am_m6032 20 [v0, v1, v2, v3] sk (fun pc lc sk st => am_g d X am_m6032 pc lc sk st Q) Q)) := am_gu.trans (propext ⟨fun h => ⟨h.1.2, h.2⟩, fun h => ⟨⟨Nat.le_add_left _ _, h.1⟩, h.2⟩⟩)
theorem u6032_23 {a0 : Value} {a1 : Value} {v0 : Value} {v1 : Value} {v2 : Value} {v3 : Value} : am_g d X am_m6032 23 [v0, v1, v2, v3] (a1 :: a0 :: .ref o :: sk) st Q = ((am_ob st o 5 ∧ sk.length ≤ 4) ∧ am_Ca X d 5011 [.ref o, a0, a1] st (am_af am_m6032 23 [v0, v1, v2, v3] sk (fun pc lc sk st => am_g d X am_m6032 pc lc sk st Q) Q)) := am_gu.trans rfl
theorem u6032_26 {v0 : Value} {v1 : Value} {v2 : Value} {v3 : Value} {x : Int32} : am_g d X am_m6032 26 [v0, v1, v2, v3] [.int x] st Q = Q (.inl (some (.int x))) st := am_gu.trans rfl
set_option maxRecDepth 100000 in
theorem of_6033 : am_of 6033 = some am_m6033 := rfl
theorem c6033 {z a0 a1 a2 a3} {P : am_Q} : am_Ca X (d + 1) 6033 [.ref z, .int a0, .int a1, .int a2, .int a3] st P = am_g d X am_m6033 0 [.ref z, .int a0, .int a1, .int a2, .int a3] [] st P := am_cg of_6033 (by show 5 ≤ 5; decide)
theorem hd_6033 : am_hd am_m6033 = [] := rfl
theorem u6033_0 {v1 : Value} {v2 : Value} {v3 : Value} {v4 : Value} {x : Nat} : am_g d X am_m6033 0 [.ref x, v1, v2, v3, v4] sk st Q = am_g d X am_m6033 1 [.ref x, v1, v2, v3, v4] (.ref x :: sk) st Q := am_gu.trans rfl
theorem u6033_1 {v0 : Value} {v2 : Value} {v3 : Value} {v4 : Value} {x : Int32} : am_g d X am_m6033 1 [v0, .int x, v2, v3, v4] sk st Q = am_g d X am_m6033 2 [v0, .int x, v2, v3, v4] (.int x :: sk) st Q := am_gu.trans rfl
theorem u6033_2 {a0 : Value} {v0 : Value} {v1 : Value} {v2 : Value} {v3 : Value} {v4 : Value} : am_g d X am_m6033 2 [v0, v1, v2, v3, v4] (a0 :: .ref o :: sk) st Q = ((am_ob st o 6 ∧ sk.length ≤ 4) ∧ am_Ca X d 6065 [.ref o, a0] st (am_af am_m6033 2 [v0, v1, v2, v3, v4] sk (fun pc lc sk st => am_g d X am_m6033 pc lc sk st Q) Q)) := am_gu.trans rfl
theorem u6033_5 {v0 : Value} {v1 : Value} {v3 : Value} {v4 : Value} {x : Int32} : am_g d X am_m6033 5 [v0, v1, .int x, v3, v4] sk st Q = am_g d X am_m6033 6 [v0, v1, .int x, v3, v4] (.int x :: sk) st Q := am_gu.trans rfl
theorem u6033_6 {v0 : Value} {v1 : Value} {v2 : Value} {v4 : Value} {x : Int32} : am_g d X am_m6033 6 [v0, v1, v2, .int x, v4] sk st Q = am_g d X am_m6033 7 [v0, v1, v2, .int x, v4] (.int x :: sk) st Q := am_gu.trans rfl
theorem u6033_7 {a0 : Value} {a1 : Value} {v0 : Value} {v1 : Value} {v2 : Value} {v3 : Value} {v4 : Value} : am_g d X am_m6033 7 [v0, v1, v2, v3, v4] (a1 :: a0 :: sk) st Q = (sk.length ≤ 4 ∧ am_Ca X d 6062 [a0, a1] st (am_af am_m6033 7 [v0, v1, v2, v3, v4] sk (fun pc lc sk st => am_g d X am_m6033 pc lc sk st Q) Q)) := am_gu.trans (propext ⟨fun h => ⟨h.1.2, h.2⟩, fun h => ⟨⟨Nat.le_add_left _ _, h.1⟩, h.2⟩⟩)
theorem u6033_10 {v1 : Value} {v2 : Value} {v3 : Value} {v4 : Value} {x : Nat} : am_g d X am_m6033 10 [.ref x, v1, v2, v3, v4] sk st Q = am_g d X am_m6033 11 [.ref x, v1, v2, v3, v4] (.ref x :: sk) st Q := am_gu.trans rfl
theorem u6033_11 {v0 : Value} {v1 : Value} {v2 : Value} {v3 : Value} {v4 : Value} : am_g d X am_m6033 11 [v0, v1, v2, v3, v4] sk st Q = am_gt 193 14 [v0, v1, v2, v3, v4] sk st (fun pc lc sk st => am_g d X am_m6033 pc lc sk st Q) := am_gu.trans rfl
theorem u6033_14 {v0 : Value} {v1 : Value} {v2 : Value} {v3 : Value} {v4 : Value} : am_g d X am_m6033 14 [v0, v1, v2, v3, v4] sk st Q = am_gt 129 17 [v0, v1, v2, v3, v4] sk st (fun pc lc sk st => am_g d X am_m6033 pc lc sk st Q) := am_gu.trans rfl
theorem u6033_17 {v1 : Value} {v2 : Value} {v3 : Value} {v4 : Value} {x : Nat} : am_g d X am_m6033 17 [.ref x, v1, v2, v3, v4] sk st Q = am_g d X am_m6033 18 [.ref x, v1, v2, v3, v4] (.ref x :: sk) st Q := am_gu.trans rfl
theorem u6033_18 {v0 : Value} {v1 : Value} {v2 : Value} {v3 : Value} {v4 : Value} : am_g d X am_m6033 18 [v0, v1, v2, v3, v4] sk st Q = am_gt 193 21 [v0, v1, v2, v3, v4] sk st (fun pc lc sk st => am_g d X am_m6033 pc lc sk st Q) := am_gu.trans rfl
theorem u6033_21 {v0 : Value} {v1 : Value} {v2 : Value} {v3 : Value} {v4 : Value} : am_g d X am_m6033 21 [v0, v1, v2, v3, v4] sk st Q = am_gt 128 24 [v0, v1, v2, v3, v4] sk st (fun pc lc sk st => am_g d X am_m6033 pc lc sk st Q) := am_gu.trans rfl
theorem u6033_24 {v0 : Value} {v2 : Value} {v3 : Value} {v4 : Value} {x : Int32} : am_g d X am_m6033 24 [v0, .int x, v2, v3, v4] sk st Q = am_g d X am_m6033 25 [v0, .int x, v2, v3, v4] (.int x :: sk) st Q := am_gu.trans rfl
theorem u6033_25 {v0 : Value} {v1 : Value} {v3 : Value} {v4 : Value} {x : Int32} : am_g d X am_m6033 25 [v0, v1, .int x, v3, v4] sk st Q = am_g d X am_m6033 26 [v0, v1, .int x, v3, v4] (.int x :: sk) st Q := am_gu.trans rfl
theorem u6033_26 {v0 : Value} {v1 : Value} {v2 : Value} {v4 : Value} {x : Int32} : am_g d X am_m6033 26 [v0, v1, v2, .int x, v4] sk st Q = am_g d X am_m6033 27 [v0, v1, v2, .int x, v4] (.int x :: sk) st Q := am_gu.trans rfl
theorem u6033_27 {a0 : Value} {a1 : Value} {v0 : Value} {v1 : Value} {v2 : Value} {v3 : Value} {v4 : Value} : am_g d X am_m6033 27 [v0, v1, v2, v3, v4] (a1 :: a0 :: sk) st Q = (sk.length ≤ 4 ∧ am_Ca X d 6061 [a0, a1] st (am_af am_m6033 27 [v0, v1, v2, v3, v4] sk (fun pc lc sk st => am_g d X am_m6033 pc lc sk st Q) Q)) := am_gu.trans (propext ⟨fun h => ⟨h.1.2, h.2⟩, fun h => ⟨⟨Nat.le_add_left _ _, h.1⟩, h.2⟩⟩)
theorem u6033_30 {v0 : Value} {v1 : Value} {v2 : Value} {v3 : Value} {x : Int32} : am_g d X am_m6033 30 [v0, v1, v2, v3, .int x] sk st Q = am_g d X am_m6033 32 [v0, v1, v2, v3, .int x] (.int x :: sk) st Q := am_gu.trans rfl
theorem u6033_32 {a0 : Value} {a1 : Value} {a2 : Value} {a3 : Value} {v0 : Value} {v1 : Value} {v2 : Value} {v3 : Value} {v4 : Value} : am_g d X am_m6033 32 [v0, v1, v2, v3, v4] (a3 :: a2 :: a1 :: a0 :: .ref o :: sk) st Q = ((am_ob st o 1 ∧ sk.length ≤ 4) ∧ am_Ca X d 1005 [.ref o, a0, a1, a2, a3] st (am_af am_m6033 32 [v0, v1, v2, v3, v4] sk (fun pc lc sk st => am_g d X am_m6033 pc lc sk st Q) Q)) := am_gu.trans rfl
theorem u6033_35 {v0 : Value} {v1 : Value} {v2 : Value} {v3 : Value} {v4 : Value} {x : Int32} : am_g d X am_m6033 35 [v0, v1, v2, v3, v4] [.int x] st Q = Q (.inl (some (.int x))) st := am_gu.trans rfl
set_option maxRecDepth 100000 in
theorem of_6034 : am_of 6034 = some am_m6034 := rfl
theorem c6034 {z} {P : am_Q} : am_Ca X (d + 1) 6034 [.ref z] st P = am_g d X am_m6034 0 [.ref z] [] st P := am_cg of_6034 (by show 1 ≤ 1; decide)
theorem hd_6034 : am_hd am_m6034 = [] := rfl
theorem u6034_0 {x : Nat} : am_g d X am_m6034 0 [.ref x] sk st Q = am_g d X am_m6034 1 [.ref x] (.ref x :: sk) st Q := am_gu.trans rfl
theorem u6034_1 {v0 : Value} : am_g d X am_m6034 1 [v0] sk st Q = am_gt 193 4 [v0] sk st (fun pc lc sk st => am_g d X am_m6034 pc lc sk st Q) := am_gu.trans rfl
theorem u6034_4 {v0 : Value} : am_g d X am_m6034 4 [v0] sk st Q = am_gt 128 7 [v0] sk st (fun pc lc sk st => am_g d X am_m6034 pc lc sk st Q) := am_gu.trans rfl
theorem u6034_7 {v0 : Value} : am_g d X am_m6034 7 [v0] (.ref o :: sk) st Q = ((am_ob st o 5 ∧ sk.length ≤ 4) ∧ am_Ca X d 5025 [.ref o] st (am_af am_m6034 7 [v0] sk (fun pc lc sk st => am_g d X am_m6034 pc lc sk st Q) Q)) := am_gu.trans rfl
theorem u6034_10 {v0 : Value} {x : Int32} : am_g d X am_m6034 10 [v0] (.int x :: sk) st Q = am_g d X am_m6034 11 [v0] (.double (FP.i2d x) :: sk) st Q := am_gu.trans rfl
theorem u6034_11 {v0 : Value} : am_g d X am_m6034 11 [v0] sk st Q = am_g d X am_m6034 14 [v0] (.double (UInt64.ofNat 4627448617123184640) :: sk) st Q := am_gu.trans rfl
theorem u6034_14 {v0 : Value} {x : UInt64} {y : UInt64} : am_g d X am_m6034 14 [v0] (.double y :: .double x :: sk) st Q = (vf_n64 (FP.ddiv x y) ∧ am_g d X am_m6034 15 [v0] (.double (FP.ddiv x y) :: sk) st Q) := am_gu.trans rfl
theorem u6034_15 {v0 : Value} {x : UInt64} : am_g d X am_m6034 15 [v0] [.double x] st Q = Q (.inl (some (.double x))) st := am_gu.trans rfl
set_option maxRecDepth 100000 in
theorem of_6035 : am_of 6035 = some am_m6035 := rfl
theorem c6035 {z} {P : am_Q} : am_Ca X (d + 1) 6035 [.ref z] st P = am_g d X am_m6035 0 [.ref z] [] st P := am_cg of_6035 (by show 1 ≤ 1; decide)
theorem hd_6035 : am_hd am_m6035 = [] := rfl
theorem u6035_0 {x : Nat} : am_g d X am_m6035 0 [.ref x] sk st Q = am_g d X am_m6035 1 [.ref x] (.ref x :: sk) st Q := am_gu.trans rfl
theorem u6035_1 {v0 : Value} : am_g d X am_m6035 1 [v0] sk st Q = am_gt 193 4 [v0] sk st (fun pc lc sk st => am_g d X am_m6035 pc lc sk st Q) := am_gu.trans rfl
theorem u6035_4 {v0 : Value} : am_g d X am_m6035 4 [v0] sk st Q = am_gt 128 7 [v0] sk st (fun pc lc sk st => am_g d X am_m6035 pc lc sk st Q) := am_gu.trans rfl
theorem u6035_7 {v0 : Value} : am_g d X am_m6035 7 [v0] sk st Q = am_gt 160 10 [v0] sk st (fun pc lc sk st => am_g d X am_m6035 pc lc sk st Q) := am_gu.trans rfl
theorem u6035_10 {v0 : Value} {x : Int32} : am_g d X am_m6035 10 [v0] [.int x] st Q = Q (.inl (some (.int x))) st := am_gu.trans rfl
set_option maxRecDepth 100000 in
theorem of_6036 : am_of 6036 = some am_m6036 := rfl
theorem c6036 {z a0} {P : am_Q} : am_Ca X (d + 1) 6036 [.ref z, .int a0] st P = am_g d X am_m6036 0 [.ref z, .int a0] [] st P := am_cg of_6036 (by show 2 ≤ 2; decide)
theorem hd_6036 : am_hd am_m6036 = [] := rfl
theorem u6036_0 {v1 : Value} {x : Nat} : am_g d X am_m6036 0 [.ref x, v1] sk st Q = am_g d X am_m6036 1 [.ref x, v1] (.ref x :: sk) st Q := am_gu.trans rfl
theorem u6036_1 {v0 : Value} {x : Int32} : am_g d X am_m6036 1 [v0, .int x] sk st Q = am_g d X am_m6036 2 [v0, .int x] (.int x :: sk) st Q := am_gu.trans rfl
theorem u6036_2 {a0 : Value} {v0 : Value} {v1 : Value} : am_g d X am_m6036 2 [v0, v1] (a0 :: .ref o :: sk) st Q = ((am_ob st o 6 ∧ sk.length ≤ 4) ∧ am_Ca X d 6065 [.ref o, a0] st (am_af am_m6036 2 [v0, v1] sk (fun pc lc sk st => am_g d X am_m6036 pc lc sk st Q) Q)) := am_gu.trans rfl
theorem u6036_5 {v1 : Value} {x : Nat} : am_g d X am_m6036 5 [.ref x, v1] sk st Q = am_g d X am_m6036 6 [.ref x, v1] (.ref x :: sk) st Q := am_gu.trans rfl
theorem u6036_6 {v0 : Value} {v1 : Value} : am_g d X am_m6036 6 [v0, v1] sk st Q = am_gt 193 9 [v0, v1] sk st (fun pc lc sk st => am_g d X am_m6036 pc lc sk st Q) := am_gu.trans rfl
theorem u6036_9 {v0 : Value} {v1 : Value} : am_g d X am_m6036 9 [v0, v1] sk st Q = am_gt 128 12 [v0, v1] sk st (fun pc lc sk st => am_g d X am_m6036 pc lc sk st Q) := am_gu.trans rfl
theorem u6036_12 {v0 : Value} {x : Int32} : am_g d X am_m6036 12 [v0, .int x] sk st Q = am_g d X am_m6036 13 [v0, .int x] (.int x :: sk) st Q := am_gu.trans rfl
theorem u6036_13 {a0 : Value} {v0 : Value} {v1 : Value} : am_g d X am_m6036 13 [v0, v1] (a0 :: .ref o :: sk) st Q = ((am_ob st o 5 ∧ sk.length ≤ 4) ∧ am_Ca X d 5005 [.ref o, a0] st (am_af am_m6036 13 [v0, v1] sk (fun pc lc sk st => am_g d X am_m6036 pc lc sk st Q) Q)) := am_gu.trans rfl
theorem u6036_16 {v0 : Value} {v1 : Value} {x : Int32} : am_g d X am_m6036 16 [v0, v1] [.int x] st Q = Q (.inl (some (.int x))) st := am_gu.trans rfl
set_option maxRecDepth 100000 in
theorem of_6037 : am_of 6037 = some am_m6037 := rfl
theorem c6037 {z a0} {P : am_Q} : am_Ca X (d + 1) 6037 [.ref z, .int a0] st P = am_g d X am_m6037 0 [.ref z, .int a0] [] st P := am_cg of_6037 (by show 2 ≤ 2; decide)
theorem hd_6037 : am_hd am_m6037 = [] := rfl
theorem u6037_0 {v1 : Value} {x : Nat} : am_g d X am_m6037 0 [.ref x, v1] sk st Q = am_g d X am_m6037 1 [.ref x, v1] (.ref x :: sk) st Q := am_gu.trans rfl
theorem u6037_1 {v0 : Value} {x : Int32} : am_g d X am_m6037 1 [v0, .int x] sk st Q = am_g d X am_m6037 2 [v0, .int x] (.int x :: sk) st Q := am_gu.trans rfl
theorem u6037_2 {a0 : Value} {v0 : Value} {v1 : Value} : am_g d X am_m6037 2 [v0, v1] (a0 :: .ref o :: sk) st Q = ((am_ob st o 6 ∧ sk.length ≤ 4) ∧ am_Ca X d 6065 [.ref o, a0] st (am_af am_m6037 2 [v0, v1] sk (fun pc lc sk st => am_g d X am_m6037 pc lc sk st Q) Q)) := am_gu.trans rfl
theorem u6037_5 {v1 : Value} {x : Nat} : am_g d X am_m6037 5 [.ref x, v1] sk st Q = am_g d X am_m6037 6 [.ref x, v1] (.ref x :: sk) st Q := am_gu.trans rfl
theorem u6037_6 {v0 : Value} {v1 : Value} : am_g d X am_m6037 6 [v0, v1] sk st Q = am_gt 193 9 [v0, v1] sk st (fun pc lc sk st => am_g d X am_m6037 pc lc sk st Q) := am_gu.trans rfl
theorem u6037_9 {v0 : Value} {v1 : Value} : am_g d X am_m6037 9 [v0, v1] sk st Q = am_gt 128 12 [v0, v1] sk st (fun pc lc sk st => am_g d X am_m6037 pc lc sk st Q) := am_gu.trans rfl
theorem u6037_12 {v0 : Value} {x : Int32} : am_g d X am_m6037 12 [v0, .int x] sk st Q = am_g d X am_m6037 13 [v0, .int x] (.int x :: sk) st Q := am_gu.trans rfl
theorem u6037_13 {a0 : Value} {v0 : Value} {v1 : Value} : am_g d X am_m6037 13 [v0, v1] (a0 :: .ref o :: sk) st Q = ((am_ob st o 5 ∧ sk.length ≤ 4) ∧ am_Ca X d 5006 [.ref o, a0] st (am_af am_m6037 13 [v0, v1] sk (fun pc lc sk st => am_g d X am_m6037 pc lc sk st Q) Q)) := am_gu.trans rfl
theorem u6037_16 {v0 : Value} {v1 : Value} {x : Int32} : am_g d X am_m6037 16 [v0, v1] [.int x] st Q = Q (.inl (some (.int x))) st := am_gu.trans rfl
set_option maxRecDepth 100000 in
theorem of_6038 : am_of 6038 = some am_m6038 := rfl
theorem c6038 {z} {P : am_Q} : am_Ca X (d + 1) 6038 [.ref z] st P = am_g d X am_m6038 0 [.ref z] [] st P := am_cg of_6038 (by show 1 ≤ 1; decide)
theorem hd_6038 : am_hd am_m6038 = [] := rfl
theorem u6038_0 {x : Nat} : am_g d X am_m6038 0 [.ref x] sk st Q = am_g d X am_m6038 1 [.ref x] (.ref x :: sk) st Q := am_gu.trans rfl
theorem u6038_1 {v0 : Value} : am_g d X am_m6038 1 [v0] sk st Q = am_gt 193 4 [v0] sk st (fun pc lc sk st => am_g d X am_m6038 pc lc sk st Q) := am_gu.trans rfl
theorem u6038_4 {v0 : Value} : am_g d X am_m6038 4 [v0] sk st Q = am_gt 128 7 [v0] sk st (fun pc lc sk st => am_g d X am_m6038 pc lc sk st Q) := am_gu.trans rfl
theorem u6038_7 {v0 : Value} : am_g d X am_m6038 7 [v0] (.ref o :: sk) st Q = ((am_ob st o 5 ∧ sk.length ≤ 4) ∧ am_Ca X d 5017 [.ref o] st (am_af am_m6038 7 [v0] sk (fun pc lc sk st => am_g d X am_m6038 pc lc sk st Q) Q)) := am_gu.trans rfl
theorem u6038_10 {v0 : Value} {x : Int32} : am_g d X am_m6038 10 [v0] [.int x] st Q = Q (.inl (some (.int x))) st := am_gu.trans rfl
set_option maxRecDepth 100000 in
theorem of_6039 : am_of 6039 = some am_m6039 := rfl
theorem c6039 {z a0} {P : am_Q} : am_Ca X (d + 1) 6039 [.ref z, .int a0] st P = am_g d X am_m6039 0 [.ref z, .int a0] [] st P := am_cg of_6039 (by show 2 ≤ 2; decide)
theorem hd_6039 : am_hd am_m6039 = [] := rfl
theorem u6039_0 {v0 : Value} {x : Int32} : am_g d X am_m6039 0 [v0, .int x] sk st Q = am_g d X am_m6039 1 [v0, .int x] (.int x :: sk) st Q := am_gu.trans rfl
theorem u6039_1 {a0 : Value} {v0 : Value} {v1 : Value} : am_g d X am_m6039 1 [v0, v1] (a0 :: sk) st Q = (sk.length ≤ 4 ∧ am_Ca X d 6063 [a0] st (am_af am_m6039 1 [v0, v1] sk (fun pc lc sk st => am_g d X am_m6039 pc lc sk st Q) Q)) := am_gu.trans (propext ⟨fun h => ⟨h.1.2, h.2⟩, fun h => ⟨⟨Nat.le_add_left _ _, h.1⟩, h.2⟩⟩)
theorem u6039_4 {v1 : Value} {x : Nat} : am_g d X am_m6039 4 [.ref x, v1] sk st Q = am_g d X am_m6039 5 [.ref x, v1] (.ref x :: sk) st Q := am_gu.trans rfl
theorem u6039_5 {v0 : Value} {v1 : Value} : am_g d X am_m6039 5 [v0, v1] sk st Q = am_gt 193 8 [v0, v1] sk st (fun pc lc sk st => am_g d X am_m6039 pc lc sk st Q) := am_gu.trans rfl
theorem u6039_8 {v0 : Value} {v1 : Value} : am_g d X am_m6039 8 [v0, v1] sk st Q = am_gt 128 11 [v0, v1] sk st (fun pc lc sk st => am_g d X am_m6039 pc lc sk st Q) := am_gu.trans rfl
theorem u6039_11 {v0 : Value} {x : Int32} : am_g d X am_m6039 11 [v0, .int x] sk st Q = am_g d X am_m6039 12 [v0, .int x] (.int x :: sk) st Q := am_gu.trans rfl
theorem u6039_12 {a0 : Value} {v0 : Value} {v1 : Value} : am_g d X am_m6039 12 [v0, v1] (a0 :: .ref o :: sk) st Q = ((am_ob st o 5 ∧ sk.length ≤ 4) ∧ am_Ca X d 5014 [.ref o, a0] st (am_af am_m6039 12 [v0, v1] sk (fun pc lc sk st => am_g d X am_m6039 pc lc sk st Q) Q)) := am_gu.trans rfl
theorem u6039_15 {v0 : Value} {v1 : Value} {x : Int32} : am_g d X am_m6039 15 [v0, v1] [.int x] st Q = ((x = 0 ∨ x = 1) ∧ Q (.inl (some (.int x))) st) := am_gu.trans rfl
set_option maxRecDepth 100000 in
theorem of_6040 : am_of 6040 = some am_m6040 := rfl
theorem c6040 {z a0} {P : am_Q} : am_Ca X (d + 1) 6040 [.ref z, .int a0] st P = am_g d X am_m6040 0 [.ref z, .int a0] [] st P := am_cg of_6040 (by show 2 ≤ 2; decide)
theorem hd_6040 : am_hd am_m6040 = [] := rfl
theorem u6040_0 {v0 : Value} {x : Int32} : am_g d X am_m6040 0 [v0, .int x] sk st Q = am_g d X am_m6040 1 [v0, .int x] (.int x :: sk) st Q := am_gu.trans rfl
theorem u6040_1 {a0 : Value} {v0 : Value} {v1 : Value} : am_g d X am_m6040 1 [v0, v1] (a0 :: sk) st Q = (sk.length ≤ 4 ∧ am_Ca X d 6063 [a0] st (am_af am_m6040 1 [v0, v1] sk (fun pc lc sk st => am_g d X am_m6040 pc lc sk st Q) Q)) := am_gu.trans (propext ⟨fun h => ⟨h.1.2, h.2⟩, fun h => ⟨⟨Nat.le_add_left _ _, h.1⟩, h.2⟩⟩)
theorem u6040_4 {v1 : Value} {x : Nat} : am_g d X am_m6040 4 [.ref x, v1] sk st Q = am_g d X am_m6040 5 [.ref x, v1] (.ref x :: sk) st Q := am_gu.trans rfl
theorem u6040_5 {v0 : Value} {x : Int32} : am_g d X am_m6040 5 [v0, .int x] sk st Q = am_g d X am_m6040 6 [v0, .int x] (.int x :: sk) st Q := am_gu.trans rfl
theorem u6040_6 {a0 : Value} {v0 : Value} {v1 : Value} : am_g d X am_m6040 6 [v0, v1] (a0 :: .ref o :: sk) st Q = ((am_ob st o 6 ∧ sk.length ≤ 4) ∧ am_Ca X d 6064 [.ref o, a0] st (am_af am_m6040 6 [v0, v1] sk (fun pc lc sk st => am_g d X am_m6040 pc lc sk st Q) Q)) := am_gu.trans rfl
theorem u6040_9 {v1 : Value} {x : Nat} : am_g d X am_m6040 9 [.ref x, v1] sk st Q = am_g d X am_m6040 10 [.ref x, v1] (.ref x :: sk) st Q := am_gu.trans rfl
theorem u6040_10 {v0 : Value} {v1 : Value} : am_g d X am_m6040 10 [v0, v1] sk st Q = am_gt 193 13 [v0, v1] sk st (fun pc lc sk st => am_g d X am_m6040 pc lc sk st Q) := am_gu.trans rfl
theorem u6040_13 {v0 : Value} {v1 : Value} : am_g d X am_m6040 13 [v0, v1] sk st Q = am_gt 128 16 [v0, v1] sk st (fun pc lc sk st => am_g d X am_m6040 pc lc sk st Q) := am_gu.trans rfl
theorem u6040_16 {v0 : Value} {x : Int32} : am_g d X am_m6040 16 [v0, .int x] sk st Q = am_g d X am_m6040 17 [v0, .int x] (.int x :: sk) st Q := am_gu.trans rfl
theorem u6040_17 {a0 : Value} {v0 : Value} {v1 : Value} : am_g d X am_m6040 17 [v0, v1] (a0 :: .ref o :: sk) st Q = ((am_ob st o 5 ∧ sk.length ≤ 4) ∧ am_Ca X d 5015 [.ref o, a0] st (am_af am_m6040 17 [v0, v1] sk (fun pc lc sk st => am_g d X am_m6040 pc lc sk st Q) Q)) := am_gu.trans rfl
theorem u6040_20 {v0 : Value} {v1 : Value} {x : Int32} : am_g d X am_m6040 20 [v0, v1] [.int x] st Q = Q (.inl (some (.int x))) st := am_gu.trans rfl
set_option maxRecDepth 100000 in
theorem of_6041 : am_of 6041 = some am_m6041 := rfl
theorem c6041 {z} {P : am_Q} : am_Ca X (d + 1) 6041 [.ref z] st P = am_g d X am_m6041 0 [.ref z] [] st P := am_cg of_6041 (by show 1 ≤ 1; decide)
theorem hd_6041 : am_hd am_m6041 = [] := rfl
theorem u6041_0 {x : Nat} : am_g d X am_m6041 0 [.ref x] sk st Q = am_g d X am_m6041 1 [.ref x] (.ref x :: sk) st Q := am_gu.trans rfl
theorem u6041_1 {v0 : Value} : am_g d X am_m6041 1 [v0] sk st Q = am_gt 193 4 [v0] sk st (fun pc lc sk st => am_g d X am_m6041 pc lc sk st Q) := am_gu.trans rfl
theorem u6041_4 {v0 : Value} : am_g d X am_m6041 4 [v0] sk st Q = am_gt 128 7 [v0] sk st (fun pc lc sk st => am_g d X am_m6041 pc lc sk st Q) := am_gu.trans rfl
theorem u6041_7 {v0 : Value} : am_g d X am_m6041 7 [v0] sk st Q = am_gt 165 10 [v0] sk st (fun pc lc sk st => am_g d X am_m6041 pc lc sk st Q) := am_gu.trans rfl
theorem u6041_10 {v0 : Value} {x : Int32} : am_g d X am_m6041 10 [v0] [.int x] st Q = Q (.inl (some (.int x))) st := am_gu.trans rfl
set_option maxRecDepth 100000 in
theorem of_6042 : am_of 6042 = some am_m6042 := rfl
theorem c6042 {z} {P : am_Q} : am_Ca X (d + 1) 6042 [.ref z] st P = am_g d X am_m6042 0 [.ref z] [] st P := am_cg of_6042 (by show 1 ≤ 1; decide)
theorem hd_6042 : am_hd am_m6042 = [] := rfl
theorem u6042_0 {x : Nat} : am_g d X am_m6042 0 [.ref x] sk st Q = am_g d X am_m6042 1 [.ref x] (.ref x :: sk) st Q := am_gu.trans rfl
theorem u6042_1 {v0 : Value} : am_g d X am_m6042 1 [v0] sk st Q = am_gt 193 4 [v0] sk st (fun pc lc sk st => am_g d X am_m6042 pc lc sk st Q) := am_gu.trans rfl
theorem u6042_4 {v0 : Value} : am_g d X am_m6042 4 [v0] sk st Q = am_gt 128 7 [v0] sk st (fun pc lc sk st => am_g d X am_m6042 pc lc sk st Q) := am_gu.trans rfl
theorem u6042_7 {v0 : Value} : am_g d X am_m6042 7 [v0] (.ref o :: sk) st Q = ((am_ob st o 5 ∧ sk.length ≤ 4) ∧ am_Ca X d 5016 [.ref o] st (am_af am_m6042 7 [v0] sk (fun pc lc sk st => am_g d X am_m6042 pc lc sk st Q) Q)) := am_gu.trans rfl
theorem u6042_10 {v0 : Value} {x : Int32} : am_g d X am_m6042 10 [v0] [.int x] st Q = Q (.inl (some (.int x))) st := am_gu.trans rfl
set_option maxRecDepth 100000 in
theorem of_6043 : am_of 6043 = some am_m6043 := rfl
theorem c6043 {z} {P : am_Q} : am_Ca X (d + 1) 6043 [.ref z] st P = am_g d X am_m6043 0 [.ref z] [] st P := am_cg of_6043 (by show 1 ≤ 1; decide)
theorem hd_6043 : am_hd am_m6043 = [] := rfl
theorem u6043_0 {x : Nat} : am_g d X am_m6043 0 [.ref x] sk st Q = am_g d X am_m6043 1 [.ref x] (.ref x :: sk) st Q := am_gu.trans rfl
theorem u6043_1 {v0 : Value} : am_g d X am_m6043 1 [v0] sk st Q = am_gt 193 4 [v0] sk st (fun pc lc sk st => am_g d X am_m6043 pc lc sk st Q) := am_gu.trans rfl
theorem u6043_4 {v0 : Value} : am_g d X am_m6043 4 [v0] sk st Q = am_gt 128 7 [v0] sk st (fun pc lc sk st => am_g d X am_m6043 pc lc sk st Q) := am_gu.trans rfl
theorem u6043_7 {v0 : Value} : am_g d X am_m6043 7 [v0] sk st Q = am_gt 170 10 [v0] sk st (fun pc lc sk st => am_g d X am_m6043 pc lc sk st Q) := am_gu.trans rfl
theorem u6043_10 {v0 : Value} {x : Int32} : am_g d X am_m6043 10 [v0] [.int x] st Q = Q (.inl (some (.int x))) st := am_gu.trans rfl
set_option maxRecDepth 100000 in
theorem of_6044 : am_of 6044 = some am_m6044 := rfl
theorem c6044 {z} {P : am_Q} : am_Ca X (d + 1) 6044 [.ref z] st P = am_g d X am_m6044 0 [.ref z] [] st P := am_cg of_6044 (by show 1 ≤ 1; decide)
theorem hd_6044 : am_hd am_m6044 = [] := rfl
theorem u6044_0 {x : Nat} : am_g d X am_m6044 0 [.ref x] sk st Q = am_g d X am_m6044 1 [.ref x] (.ref x :: sk) st Q := am_gu.trans rfl
theorem u6044_1 {v0 : Value} : am_g d X am_m6044 1 [v0] sk st Q = am_gt 193 4 [v0] sk st (fun pc lc sk st => am_g d X am_m6044 pc lc sk st Q) := am_gu.trans rfl
theorem u6044_4 {v0 : Value} : am_g d X am_m6044 4 [v0] sk st Q = am_gt 129 7 [v0] sk st (fun pc lc sk st => am_g d X am_m6044 pc lc sk st Q) := am_gu.trans rfl
theorem u6044_7 {x : Nat} : am_g d X am_m6044 7 [.ref x] sk st Q = am_g d X am_m6044 8 [.ref x] (.ref x :: sk) st Q := am_gu.trans rfl
theorem u6044_8 {v0 : Value} : am_g d X am_m6044 8 [v0] sk st Q = am_gt 193 11 [v0] sk st (fun pc lc sk st => am_g d X am_m6044 pc lc sk st Q) := am_gu.trans rfl
theorem u6044_11 {v0 : Value} : am_g d X am_m6044 11 [v0] sk st Q = am_gt 128 14 [v0] sk st (fun pc lc sk st => am_g d X am_m6044 pc lc sk st Q) := am_gu.trans rfl
theorem u6044_14 {a0 : Value} {v0 : Value} : am_g d X am_m6044 14 [v0] (a0 :: .ref o :: sk) st Q = ((am_ob st o 1 ∧ sk.length ≤ 4) ∧ am_Ca X d 1006 [.ref o, a0] st (am_af am_m6044 14 [v0] sk (fun pc lc sk st => am_g d X am_m6044 pc lc sk st Q) Q)) := am_gu.trans rfl
theorem u6044_17 {v0 : Value} {x : Int32} : am_g d X am_m6044 17 [v0] [.int x] st Q = Q (.inl (some (.int x))) st := am_gu.trans rfl
set_option maxRecDepth 100000 in
theorem of_6045 : am_of 6045 = some am_m6045 := rfl
theorem c6045 {z a0 a1} {P : am_Q} : am_Ca X (d + 1) 6045 [.ref z, .int a0, .int a1] st P = am_g d X am_m6045 0 [.ref z, .int a0, .int a1] [] st P := am_cg of_6045 (by show 3 ≤ 3; decide)
theorem hd_6045 : am_hd am_m6045 = [] := rfl
theorem u6045_0 {v1 : Value} {v2 : Value} {x : Nat} : am_g d X am_m6045 0 [.ref x, v1, v2] sk st Q = am_g d X am_m6045 1 [.ref x, v1, v2] (.ref x :: sk) st Q := am_gu.trans rfl
theorem u6045_1 {v0 : Value} {v2 : Value} {x : Int32} : am_g d X am_m6045 1 [v0, .int x, v2] sk st Q = am_g d X am_m6045 2 [v0, .int x, v2] (.int x :: sk) st Q := am_gu.trans rfl
theorem u6045_2 {a0 : Value} {v0 : Value} {v1 : Value} {v2 : Value} : am_g d X am_m6045 2 [v0, v1, v2] (a0 :: .ref o :: sk) st Q = ((am_ob st o 6 ∧ sk.length ≤ 4) ∧ am_Ca X d 6065 [.ref o, a0] st (am_af am_m6045 2 [v0, v1, v2] sk (fun pc lc sk st => am_g d X am_m6045 pc lc sk st Q) Q)) := am_gu.trans rfl
theorem u6045_5 {v1 : Value} {v2 : Value} {x : Nat} : am_g d X am_m6045 5 [.ref x, v1, v2] sk st Q = am_g d X am_m6045 6 [.ref x, v1, v2] (.ref x :: sk) st Q := am_gu.trans rfl
theorem u6045_6 {v0 : Value} {v1 : Value} {x : Int32} : am_g d X am_m6045 6 [v0, v1, .int x] sk st Q = am_g d X am_m6045 7 [v0, v1, .int x] (.int x :: sk) st Q := am_gu.trans rfl
theorem u6045_7 {a0 : Value} {v0 : Value} {v1 : Value} {v2 : Value} : am_g d X am_m6045 7 [v0, v1, v2] (a0 :: .ref o :: sk) st Q = ((am_ob st o 6 ∧ sk.length ≤ 4) ∧ am_Ca X d 6065 [.ref o, a0] st (am_af am_m6045 7 [v0, v1, v2] sk (fun pc lc sk st => am_g d X am_m6045 pc lc sk st Q) Q)) := am_gu.trans rfl
theorem u6045_10 {v1 : Value} {v2 : Value} {x : Nat} : am_g d X am_m6045 10 [.ref x, v1, v2] sk st Q = am_g d X am_m6045 11 [.ref x, v1, v2] (.ref x :: sk) st Q := am_gu.trans rfl
theorem u6045_11 {v0 : Value} {v1 : Value} {v2 : Value} : am_g d X am_m6045 11 [v0, v1, v2] sk st Q = am_gt 193 14 [v0, v1, v2] sk st (fun pc lc sk st => am_g d X am_m6045 pc lc sk st Q) := am_gu.trans rfl
theorem u6045_14 {v0 : Value} {v1 : Value} {v2 : Value} : am_g d X am_m6045 14 [v0, v1, v2] sk st Q = am_gt 129 17 [v0, v1, v2] sk st (fun pc lc sk st => am_g d X am_m6045 pc lc sk st Q) := am_gu.trans rfl
theorem u6045_17 {v1 : Value} {v2 : Value} {x : Nat} : am_g d X am_m6045 17 [.ref x, v1, v2] sk st Q = am_g d X am_m6045 18 [.ref x, v1, v2] (.ref x :: sk) st Q := am_gu.trans rfl
theorem u6045_18 {v0 : Value} {v1 : Value} {v2 : Value} : am_g d X am_m6045 18 [v0, v1, v2] sk st Q = am_gt 193 21 [v0, v1, v2] sk st (fun pc lc sk st => am_g d X am_m6045 pc lc sk st Q) := am_gu.trans rfl
theorem u6045_21 {v0 : Value} {v1 : Value} {v2 : Value} : am_g d X am_m6045 21 [v0, v1, v2] sk st Q = am_gt 128 24 [v0, v1, v2] sk st (fun pc lc sk st => am_g d X am_m6045 pc lc sk st Q) := am_gu.trans rfl
theorem u6045_24 {v0 : Value} {v2 : Value} {x : Int32} : am_g d X am_m6045 24 [v0, .int x, v2] sk st Q = am_g d X am_m6045 25 [v0, .int x, v2] (.int x :: sk) st Q := am_gu.trans rfl
theorem u6045_25 {v0 : Value} {v1 : Value} {x : Int32} : am_g d X am_m6045 25 [v0, v1, .int x] sk st Q = am_g d X am_m6045 26 [v0, v1, .int x] (.int x :: sk) st Q := am_gu.trans rfl
theorem u6045_26 {a0 : Value} {a1 : Value} {a2 : Value} {v0 : Value} {v1 : Value} {v2 : Value} : am_g d X am_m6045 26 [v0, v1, v2] (a2 :: a1 :: a0 :: .ref o :: sk) st Q = ((am_ob st o 1 ∧ sk.length ≤ 4) ∧ am_Ca X d 1002 [.ref o, a0, a1, a2] st (am_af am_m6045 26 [v0, v1, v2] sk (fun pc lc sk st => am_g d X am_m6045 pc lc sk st Q) Q)) := am_gu.trans rfl
theorem u6045_29 {v0 : Value} {v1 : Value} {v2 : Value} {x : Int32} : am_g d X am_m6045 29 [v0, v1, v2] [.int x] st Q = ((x = 0 ∨ x = 1) ∧ Q (.inl (some (.int x))) st) := am_gu.trans rfl
set_option maxRecDepth 100000 in
theorem of_6046 : am_of 6046 = some am_m6046 := rfl
theorem c6046 {z a0} {P : am_Q} : am_Ca X (d + 1) 6046 [.ref z, .int a0] st P = am_g d X am_m6046 0 [.ref z, .int a0] [] st P := am_cg of_6046 (by show 2 ≤ 2; decide)
theorem hd_6046 : am_hd am_m6046 = [] := rfl
theorem u6046_0 {v1 : Value} {x : Nat} : am_g d X am_m6046 0 [.ref x, v1] sk st Q = am_g d X am_m6046 1 [.ref x, v1] (.ref x :: sk) st Q := am_gu.trans rfl
theorem u6046_1 {v0 : Value} {x : Int32} : am_g d X am_m6046 1 [v0, .int x] sk st Q = am_g d X am_m6046 2 [v0, .int x] (.int x :: sk) st Q := am_gu.trans rfl
theorem u6046_2 {a0 : Value} {v0 : Value} {v1 : Value} : am_g d X am_m6046 2 [v0, v1] (a0 :: .ref o :: sk) st Q = ((am_ob st o 6 ∧ sk.length ≤ 4) ∧ am_Ca X d 6065 [.ref o, a0] st (am_af am_m6046 2 [v0, v1] sk (fun pc lc sk st => am_g d X am_m6046 pc lc sk st Q) Q)) := am_gu.trans rfl
theorem u6046_5 {v1 : Value} {x : Nat} : am_g d X am_m6046 5 [.ref x, v1] sk st Q = am_g d X am_m6046 6 [.ref x, v1] (.ref x :: sk) st Q := am_gu.trans rfl
theorem u6046_6 {v0 : Value} {v1 : Value} : am_g d X am_m6046 6 [v0, v1] sk st Q = am_gt 193 9 [v0, v1] sk st (fun pc lc sk st => am_g d X am_m6046 pc lc sk st Q) := am_gu.trans rfl
theorem u6046_9 {v0 : Value} {v1 : Value} : am_g d X am_m6046 9 [v0, v1] sk st Q = am_gt 129 12 [v0, v1] sk st (fun pc lc sk st => am_g d X am_m6046 pc lc sk st Q) := am_gu.trans rfl
theorem u6046_12 {v1 : Value} {x : Nat} : am_g d X am_m6046 12 [.ref x, v1] sk st Q = am_g d X am_m6046 13 [.ref x, v1] (.ref x :: sk) st Q := am_gu.trans rfl
theorem u6046_13 {v0 : Value} {v1 : Value} : am_g d X am_m6046 13 [v0, v1] sk st Q = am_gt 193 16 [v0, v1] sk st (fun pc lc sk st => am_g d X am_m6046 pc lc sk st Q) := am_gu.trans rfl
theorem u6046_16 {v0 : Value} {v1 : Value} : am_g d X am_m6046 16 [v0, v1] sk st Q = am_gt 128 19 [v0, v1] sk st (fun pc lc sk st => am_g d X am_m6046 pc lc sk st Q) := am_gu.trans rfl
theorem u6046_19 {v0 : Value} {x : Int32} : am_g d X am_m6046 19 [v0, .int x] sk st Q = am_g d X am_m6046 20 [v0, .int x] (.int x :: sk) st Q := am_gu.trans rfl
theorem u6046_20 {a0 : Value} {a1 : Value} {v0 : Value} {v1 : Value} : am_g d X am_m6046 20 [v0, v1] (a1 :: a0 :: .ref o :: sk) st Q = ((am_ob st o 1 ∧ sk.length ≤ 4) ∧ am_Ca X d 1003 [.ref o, a0, a1] st (am_af am_m6046 20 [v0, v1] sk (fun pc lc sk st => am_g d X am_m6046 pc lc sk st Q) Q)) := am_gu.trans rfl
theorem u6046_23 {v0 : Value} {v1 : Value} {x : Int32} : am_g d X am_m6046 23 [v0, v1] [.int x] st Q = Q (.inl (some (.int x))) st := am_gu.trans rfl
set_option maxRecDepth 100000 in
theorem of_6047 : am_of 6047 = some am_m6047 := rfl
theorem c6047 {z a0 a1} {P : am_Q} : am_Ca X (d + 1) 6047 [.ref z, .int a0, .int a1] st P = am_g d X am_m6047 0 [.ref z, .int a0, .int a1] [] st P := am_cg of_6047 (by show 3 ≤ 3; decide)
theorem hd_6047 : am_hd am_m6047 = [] := rfl
theorem u6047_0 {v1 : Value} {v2 : Value} {x : Nat} : am_g d X am_m6047 0 [.ref x, v1, v2] sk st Q = am_g d X am_m6047 1 [.ref x, v1, v2] (.ref x :: sk) st Q := am_gu.trans rfl
theorem u6047_1 {v0 : Value} {v2 : Value} {x : Int32} : am_g d X am_m6047 1 [v0, .int x, v2] sk st Q = am_g d X am_m6047 2 [v0, .int x, v2] (.int x :: sk) st Q := am_gu.trans rfl
theorem u6047_2 {a0 : Value} {v0 : Value} {v1 : Value} {v2 : Value} : am_g d X am_m6047 2 [v0, v1, v2] (a0 :: .ref o :: sk) st Q = ((am_ob st o 6 ∧ sk.length ≤ 4) ∧ am_Ca X d 6065 [.ref o, a0] st (am_af am_m6047 2 [v0, v1, v2] sk (fun pc lc sk st => am_g d X am_m6047 pc lc sk st Q) Q)) := am_gu.trans rfl
theorem u6047_5 {v0 : Value} {v1 : Value} {x : Int32} : am_g d X am_m6047 5 [v0, v1, .int x] sk st Q = am_g d X am_m6047 6 [v0, v1, .int x] (.int x :: sk) st Q := am_gu.trans rfl
theorem u6047_6 {v0 : Value} {v1 : Value} {v2 : Value} {x : Int32} : am_g d X am_m6047 6 [v0, v1, v2] (.int x :: sk) st Q = (if decide (0 ≤ x) = true then am_g d X am_m6047 20 [v0, v1, v2] sk st Q else am_g d X am_m6047 9 [v0, v1, v2] sk st Q) := am_gu.trans rfl
theorem u6047_9 {v0 : Value} {v1 : Value} {v2 : Value} : am_g d X am_m6047 9 [v0, v1, v2] [] (n, sh, cl, sl, F, A, L) Q = ((5 ≤ d ∧ n ≤ cl) ∧ Q (.inr 0) (n, sh, cl + 1, sl + 6, F, A, L)) := am_gu.trans (propext ⟨fun h => ⟨⟨h.1.2.2.1, h.1.2.2.2⟩, h.2⟩, fun h => ⟨⟨rfl, Nat.zero_le _, h.1.1, h.1.2⟩, h.2⟩⟩)
theorem u6047_20 {v1 : Value} {v2 : Value} {x : Nat} : am_g d X am_m6047 20 [.ref x, v1, v2] sk st Q = am_g d X am_m6047 21 [.ref x, v1, v2] (.ref x :: sk) st Q := am_gu.trans rfl
theorem u6047_21 {v0 : Value} {v1 : Value} {v2 : Value} : am_g d X am_m6047 21 [v0, v1, v2] sk st Q = am_gt 193 24 [v0, v1, v2] sk st (fun pc lc sk st => am_g d X am_m6047 pc lc sk st Q) := am_gu.trans rfl
theorem u6047_24 {v0 : Value} {v1 : Value} {v2 : Value} : am_g d X am_m6047 24 [v0, v1, v2] sk st Q = am_gt 129 27 [v0, v1, v2] sk st (fun pc lc sk st => am_g d X am_m6047 pc lc sk st Q) := am_gu.trans rfl
theorem u6047_27 {v1 : Value} {v2 : Value} {x : Nat} : am_g d X am_m6047 27 [.ref x, v1, v2] sk st Q = am_g d X am_m6047 28 [.ref x, v1, v2] (.ref x :: sk) st Q := am_gu.trans rfl
theorem u6047_28 {v0 : Value} {v1 : Value} {v2 : Value} : am_g d X am_m6047 28 [v0, v1, v2] sk st Q = am_gt 193 31 [v0, v1, v2] sk st (fun pc lc sk st => am_g d X am_m6047 pc lc sk st Q) := am_gu.trans rfl
theorem u6047_31 {v0 : Value} {v1 : Value} {v2 : Value} : am_g d X am_m6047 31 [v0, v1, v2] sk st Q = am_gt 128 34 [v0, v1, v2] sk st (fun pc lc sk st => am_g d X am_m6047 pc lc sk st Q) := am_gu.trans rfl
theorem u6047_34 {v0 : Value} {v2 : Value} {x : Int32} : am_g d X am_m6047 34 [v0, .int x, v2] sk st Q = am_g d X am_m6047 35 [v0, .int x, v2] (.int x :: sk) st Q := am_gu.trans rfl
theorem u6047_35 {v0 : Value} {v1 : Value} {x : Int32} : am_g d X am_m6047 35 [v0, v1, .int x] sk st Q = am_g d X am_m6047 36 [v0, v1, .int x] (.int x :: sk) st Q := am_gu.trans rfl
theorem u6047_36 {a0 : Value} {a1 : Value} {a2 : Value} {v0 : Value} {v1 : Value} {v2 : Value} : am_g d X am_m6047 36 [v0, v1, v2] (a2 :: a1 :: a0 :: .ref o :: sk) st Q = ((am_ob st o 1 ∧ sk.length ≤ 4) ∧ am_Ca X d 1004 [.ref o, a0, a1, a2] st (am_af am_m6047 36 [v0, v1, v2] sk (fun pc lc sk st => am_g d X am_m6047 pc lc sk st Q) Q)) := am_gu.trans rfl
theorem u6047_39 {v0 : Value} {v1 : Value} {v2 : Value} {x : Int32} : am_g d X am_m6047 39 [v0, v1, v2] [.int x] st Q = Q (.inl (some (.int x))) st := am_gu.trans rfl
set_option maxRecDepth 100000 in
theorem of_6048 : am_of 6048 = some am_m6048 := rfl
theorem c6048 {z a0 a1} {P : am_Q} : am_Ca X (d + 1) 6048 [.ref z, .int a0, .int a1] st P = am_g d X am_m6048 0 [.ref z, .int a0, .int a1] [] st P := am_cg of_6048 (by show 3 ≤ 3; decide)
theorem hd_6048 : am_hd am_m6048 = [] := rfl
theorem u6048_0 {v1 : Value} {v2 : Value} {x : Nat} : am_g d X am_m6048 0 [.ref x, v1, v2] sk st Q = am_g d X am_m6048 1 [.ref x, v1, v2] (.ref x :: sk) st Q := am_gu.trans rfl
theorem u6048_1 {v0 : Value} {v2 : Value} {x : Int32} : am_g d X am_m6048 1 [v0, .int x, v2] sk st Q = am_g d X am_m6048 2 [v0, .int x, v2] (.int x :: sk) st Q := am_gu.trans rfl
theorem u6048_2 {a0 : Value} {v0 : Value} {v1 : Value} {v2 : Value} : am_g d X am_m6048 2 [v0, v1, v2] (a0 :: .ref o :: sk) st Q = ((am_ob st o 6 ∧ sk.length ≤ 4) ∧ am_Ca X d 6065 [.ref o, a0] st (am_af am_m6048 2 [v0, v1, v2] sk (fun pc lc sk st => am_g d X am_m6048 pc lc sk st Q) Q)) := am_gu.trans rfl
theorem u6048_5 {v1 : Value} {v2 : Value} {x : Nat} : am_g d X am_m6048 5 [.ref x, v1, v2] sk st Q = am_g d X am_m6048 6 [.ref x, v1, v2] (.ref x :: sk) st Q := am_gu.trans rfl
theorem u6048_6 {v0 : Value} {v1 : Value} {x : Int32} : am_g d X am_m6048 6 [v0, v1, .int x] sk st Q = am_g d X am_m6048 7 [v0, v1, .int x] (.int x :: sk) st Q := am_gu.trans rfl
theorem u6048_7 {a0 : Value} {v0 : Value} {v1 : Value} {v2 : Value} : am_g d X am_m6048 7 [v0, v1, v2] (a0 :: .ref o :: sk) st Q = ((am_ob st o 6 ∧ sk.length ≤ 4) ∧ am_Ca X d 6065 [.ref o, a0] st (am_af am_m6048 7 [v0, v1, v2] sk (fun pc lc sk st => am_g d X am_m6048 pc lc sk st Q) Q)) := am_gu.trans rfl
theorem u6048_10 {v1 : Value} {v2 : Value} {x : Nat} : am_g d X am_m6048 10 [.ref x, v1, v2] sk st Q = am_g d X am_m6048 11 [.ref x, v1, v2] (.ref x :: sk) st Q := am_gu.trans rfl
theorem u6048_11 {v0 : Value} {v1 : Value} {v2 : Value} : am_g d X am_m6048 11 [v0, v1, v2] sk st Q = am_gt 193 14 [v0, v1, v2] sk st (fun pc lc sk st => am_g d X am_m6048 pc lc sk st Q) := am_gu.trans rfl
theorem u6048_14 {v0 : Value} {v1 : Value} {v2 : Value} : am_g d X am_m6048 14 [v0, v1, v2] sk st Q = am_gt 129 17 [v0, v1, v2] sk st (fun pc lc sk st => am_g d X am_m6048 pc lc sk st Q) := am_gu.trans rfl
theorem u6048_17 {v1 : Value} {v2 : Value} {x : Nat} : am_g d X am_m6048 17 [.ref x, v1, v2] sk st Q = am_g d X am_m6048 18 [.ref x, v1, v2] (.ref x :: sk) st Q := am_gu.trans rfl
theorem u6048_18 {v0 : Value} {v1 : Value} {v2 : Value} : am_g d X am_m6048 18 [v0, v1, v2] sk st Q = am_gt 193 21 [v0, v1, v2] sk st (fun pc lc sk st => am_g d X am_m6048 pc lc sk st Q) := am_gu.trans rfl
theorem u6048_21 {v0 : Value} {v1 : Value} {v2 : Value} : am_g d X am_m6048 21 [v0, v1, v2] sk st Q = am_gt 128 24 [v0, v1, v2] sk st (fun pc lc sk st => am_g d X am_m6048 pc lc sk st Q) := am_gu.trans rfl
theorem u6048_24 {v0 : Value} {v2 : Value} {x : Int32} : am_g d X am_m6048 24 [v0, .int x, v2] sk st Q = am_g d X am_m6048 25 [v0, .int x, v2] (.int x :: sk) st Q := am_gu.trans rfl
theorem u6048_25 {v0 : Value} {v1 : Value} {x : Int32} : am_g d X am_m6048 25 [v0, v1, .int x] sk st Q = am_g d X am_m6048 26 [v0, v1, .int x] (.int x :: sk) st Q := am_gu.trans rfl
theorem u6048_26 {a0 : Value} {a1 : Value} {a2 : Value} {v0 : Value} {v1 : Value} {v2 : Value} : am_g d X am_m6048 26 [v0, v1, v2] (a2 :: a1 :: a0 :: .ref o :: sk) st Q = ((am_ob st o 1 ∧ sk.length ≤ 4) ∧ am_Ca X d 1007 [.ref o, a0, a1, a2] st (am_af am_m6048 26 [v0, v1, v2] sk (fun pc lc sk st => am_g d X am_m6048 pc lc sk st Q) Q)) := am_gu.trans rfl
theorem u6048_29 {v0 : Value} {v1 : Value} {v2 : Value} {x : Int32} : am_g d X am_m6048 29 [v0, v1, v2] [.int x] st Q = Q (.inl (some (.int x))) st := am_gu.trans rfl
set_option maxRecDepth 100000 in
theorem of_6049 : am_of 6049 = some am_m6049 := rfl
theorem c6049 {z a0} {P : am_Q} : am_Ca X (d + 1) 6049 [.ref z, .int a0] st P = am_g d X am_m6049 0 [.ref z, .int a0] [] st P := am_cg of_6049 (by show 2 ≤ 2; decide)
theorem hd_6049 : am_hd am_m6049 = [] := rfl
theorem u6049_0 {v1 : Value} {x : Nat} : am_g d X am_m6049 0 [.ref x, v1] sk st Q = am_g d X am_m6049 1 [.ref x, v1] (.ref x :: sk) st Q := am_gu.trans rfl
theorem u6049_1 {v0 : Value} {x : Int32} : am_g d X am_m6049 1 [v0, .int x] sk st Q = am_g d X am_m6049 2 [v0, .int x] (.int x :: sk) st Q := am_gu.trans rfl
theorem u6049_2 {a0 : Value} {v0 : Value} {v1 : Value} : am_g d X am_m6049 2 [v0, v1] (a0 :: .ref o :: sk) st Q = ((am_ob st o 6 ∧ sk.length ≤ 4) ∧ am_Ca X d 6065 [.ref o, a0] st (am_af am_m6049 2 [v0, v1] sk (fun pc lc sk st => am_g d X am_m6049 pc lc sk st Q) Q)) := am_gu.trans rfl
theorem u6049_5 {v1 : Value} {x : Nat} : am_g d X am_m6049 5 [.ref x, v1] sk st Q = am_g d X am_m6049 6 [.ref x, v1] (.ref x :: sk) st Q := am_gu.trans rfl
theorem u6049_6 {v0 : Value} {v1 : Value} : am_g d X am_m6049 6 [v0, v1] sk st Q = am_gt 193 9 [v0, v1] sk st (fun pc lc sk st => am_g d X am_m6049 pc lc sk st Q) := am_gu.trans rfl
theorem u6049_9 {v0 : Value} {v1 : Value} : am_g d X am_m6049 9 [v0, v1] sk st Q = am_gt 129 12 [v0, v1] sk st (fun pc lc sk st => am_g d X am_m6049 pc lc sk st Q) := am_gu.trans rfl
theorem u6049_12 {v1 : Value} {x : Nat} : am_g d X am_m6049 12 [.ref x, v1] sk st Q = am_g d X am_m6049 13 [.ref x, v1] (.ref x :: sk) st Q := am_gu.trans rfl
theorem u6049_13 {v0 : Value} {v1 : Value} : am_g d X am_m6049 13 [v0, v1] sk st Q = am_gt 193 16 [v0, v1] sk st (fun pc lc sk st => am_g d X am_m6049 pc lc sk st Q) := am_gu.trans rfl
theorem u6049_16 {v0 : Value} {v1 : Value} : am_g d X am_m6049 16 [v0, v1] sk st Q = am_gt 128 19 [v0, v1] sk st (fun pc lc sk st => am_g d X am_m6049 pc lc sk st Q) := am_gu.trans rfl
theorem u6049_19 {v0 : Value} {x : Int32} : am_g d X am_m6049 19 [v0, .int x] sk st Q = am_g d X am_m6049 20 [v0, .int x] (.int x :: sk) st Q := am_gu.trans rfl
theorem u6049_20 {a0 : Value} {a1 : Value} {v0 : Value} {v1 : Value} : am_g d X am_m6049 20 [v0, v1] (a1 :: a0 :: .ref o :: sk) st Q = ((am_ob st o 1 ∧ sk.length ≤ 4) ∧ am_Ca X d 1010 [.ref o, a0, a1] st (am_af am_m6049 20 [v0, v1] sk (fun pc lc sk st => am_g d X am_m6049 pc lc sk st Q) Q)) := am_gu.trans rfl
theorem u6049_23 {v0 : Value} {v1 : Value} {x : Int32} : am_g d X am_m6049 23 [v0, v1] [.int x] st Q = Q (.inl (some (.int x))) st := am_gu.trans rfl
set_option maxRecDepth 100000 in
theorem of_6050 : am_of 6050 = some am_m6050 := rfl
theorem c6050 {z a0 a1} {P : am_Q} : am_Ca X (d + 1) 6050 [.ref z, .int a0, .int a1] st P = am_g d X am_m6050 0 [.ref z, .int a0, .int a1] [] st P := am_cg of_6050 (by show 3 ≤ 3; decide)
theorem hd_6050 : am_hd am_m6050 = [] := rfl
theorem u6050_0 {v1 : Value} {v2 : Value} {x : Nat} : am_g d X am_m6050 0 [.ref x, v1, v2] sk st Q = am_g d X am_m6050 1 [.ref x, v1, v2] (.ref x :: sk) st Q := am_gu.trans rfl
theorem u6050_1 {v0 : Value} {v2 : Value} {x : Int32} : am_g d X am_m6050 1 [v0, .int x, v2] sk st Q = am_g d X am_m6050 2 [v0, .int x, v2] (.int x :: sk) st Q := am_gu.trans rfl
theorem u6050_2 {a0 : Value} {v0 : Value} {v1 : Value} {v2 : Value} : am_g d X am_m6050 2 [v0, v1, v2] (a0 :: .ref o :: sk) st Q = ((am_ob st o 6 ∧ sk.length ≤ 4) ∧ am_Ca X d 6065 [.ref o, a0] st (am_af am_m6050 2 [v0, v1, v2] sk (fun pc lc sk st => am_g d X am_m6050 pc lc sk st Q) Q)) := am_gu.trans rfl
theorem u6050_5 {v1 : Value} {v2 : Value} {x : Nat} : am_g d X am_m6050 5 [.ref x, v1, v2] sk st Q = am_g d X am_m6050 6 [.ref x, v1, v2] (.ref x :: sk) st Q := am_gu.trans rfl
theorem u6050_6 {v0 : Value} {v1 : Value} {x : Int32} : am_g d X am_m6050 6 [v0, v1, .int x] sk st Q = am_g d X am_m6050 7 [v0, v1, .int x] (.int x :: sk) st Q := am_gu.trans rfl
theorem u6050_7 {a0 : Value} {v0 : Value} {v1 : Value} {v2 : Value} : am_g d X am_m6050 7 [v0, v1, v2] (a0 :: .ref o :: sk) st Q = ((am_ob st o 6 ∧ sk.length ≤ 4) ∧ am_Ca X d 6065 [.ref o, a0] st (am_af am_m6050 7 [v0, v1, v2] sk (fun pc lc sk st => am_g d X am_m6050 pc lc sk st Q) Q)) := am_gu.trans rfl
theorem u6050_10 {v1 : Value} {v2 : Value} {x : Nat} : am_g d X am_m6050 10 [.ref x, v1, v2] sk st Q = am_g d X am_m6050 11 [.ref x, v1, v2] (.ref x :: sk) st Q := am_gu.trans rfl
theorem u6050_11 {v0 : Value} {v1 : Value} {v2 : Value} : am_g d X am_m6050 11 [v0, v1, v2] sk st Q = am_gt 193 14 [v0, v1, v2] sk st (fun pc lc sk st => am_g d X am_m6050 pc lc sk st Q) := am_gu.trans rfl
theorem u6050_14 {v0 : Value} {v1 : Value} {v2 : Value} : am_g d X am_m6050 14 [v0, v1, v2] sk st Q = am_gt 129 17 [v0, v1, v2] sk st (fun pc lc sk st => am_g d X am_m6050 pc lc sk st Q) := am_gu.trans rfl
theorem u6050_17 {v1 : Value} {v2 : Value} {x : Nat} : am_g d X am_m6050 17 [.ref x, v1, v2] sk st Q = am_g d X am_m6050 18 [.ref x, v1, v2] (.ref x :: sk) st Q := am_gu.trans rfl
theorem u6050_18 {v0 : Value} {v1 : Value} {v2 : Value} : am_g d X am_m6050 18 [v0, v1, v2] sk st Q = am_gt 193 21 [v0, v1, v2] sk st (fun pc lc sk st => am_g d X am_m6050 pc lc sk st Q) := am_gu.trans rfl
theorem u6050_21 {v0 : Value} {v1 : Value} {v2 : Value} : am_g d X am_m6050 21 [v0, v1, v2] sk st Q = am_gt 128 24 [v0, v1, v2] sk st (fun pc lc sk st => am_g d X am_m6050 pc lc sk st Q) := am_gu.trans rfl
theorem u6050_24 {v0 : Value} {v2 : Value} {x : Int32} : am_g d X am_m6050 24 [v0, .int x, v2] sk st Q = am_g d X am_m6050 25 [v0, .int x, v2] (.int x :: sk) st Q := am_gu.trans rfl
theorem u6050_25 {v0 : Value} {v1 : Value} {x : Int32} : am_g d X am_m6050 25 [v0, v1, .int x] sk st Q = am_g d X am_m6050 26 [v0, v1, .int x] (.int x :: sk) st Q := am_gu.trans rfl
theorem u6050_26 {a0 : Value} {a1 : Value} {a2 : Value} {v0 : Value} {v1 : Value} {v2 : Value} : am_g d X am_m6050 26 [v0, v1, v2] (a2 :: a1 :: a0 :: .ref o :: sk) st Q = ((am_ob st o 1 ∧ sk.length ≤ 4) ∧ am_Ca X d 1011 [.ref o, a0, a1, a2] st (am_af am_m6050 26 [v0, v1, v2] sk (fun pc lc sk st => am_g d X am_m6050 pc lc sk st Q) Q)) := am_gu.trans rfl
theorem u6050_29 {v0 : Value} {v1 : Value} {v2 : Value} {x : Int32} : am_g d X am_m6050 29 [v0, v1, v2] [.int x] st Q = Q (.inl (some (.int x))) st := am_gu.trans rfl
set_option maxRecDepth 100000 in
theorem of_6051 : am_of 6051 = some am_m6051 := rfl
theorem c6051 {z a0 a1} {P : am_Q} : am_Ca X (d + 1) 6051 [.ref z, .int a0, .int a1] st P = am_g d X am_m6051 0 [.ref z, .int a0, .int a1] [] st P := am_cg of_6051 (by show 3 ≤ 3; decide)
theorem hd_6051 : am_hd am_m6051 = [] := rfl
theorem u6051_0 {v1 : Value} {v2 : Value} {x : Nat} : am_g d X am_m6051 0 [.ref x, v1, v2] sk st Q = am_g d X am_m6051 1 [.ref x, v1, v2] (.ref x :: sk) st Q := am_gu.trans rfl
theorem u6051_1 {v0 : Value} {v2 : Value} {x : Int32} : am_g d X am_m6051 1 [v0, .int x, v2] sk st Q = am_g d X am_m6051 2 [v0, .int x, v2] (.int x :: sk) st Q := am_gu.trans rfl
theorem u6051_2 {a0 : Value} {v0 : Value} {v1 : Value} {v2 : Value} : am_g d X am_m6051 2 [v0, v1, v2] (a0 :: .ref o :: sk) st Q = ((am_ob st o 6 ∧ sk.length ≤ 4) ∧ am_Ca X d 6065 [.ref o, a0] st (am_af am_m6051 2 [v0, v1, v2] sk (fun pc lc sk st => am_g d X am_m6051 pc lc sk st Q) Q)) := am_gu.trans rfl
theorem u6051_5 {v1 : Value} {v2 : Value} {x : Nat} : am_g d X am_m6051 5 [.ref x, v1, v2] sk st Q = am_g d X am_m6051 6 [.ref x, v1, v2] (.ref x :: sk) st Q := am_gu.trans rfl
theorem u6051_6 {v0 : Value} {v1 : Value} {x : Int32} : am_g d X am_m6051 6 [v0, v1, .int x] sk st Q = am_g d X am_m6051 7 [v0, v1, .int x] (.int x :: sk) st Q := am_gu.trans rfl
theorem u6051_7 {a0 : Value} {v0 : Value} {v1 : Value} {v2 : Value} : am_g d X am_m6051 7 [v0, v1, v2] (a0 :: .ref o :: sk) st Q = ((am_ob st o 6 ∧ sk.length ≤ 4) ∧ am_Ca X d 6065 [.ref o, a0] st (am_af am_m6051 7 [v0, v1, v2] sk (fun pc lc sk st => am_g d X am_m6051 pc lc sk st Q) Q)) := am_gu.trans rfl
theorem u6051_10 {v1 : Value} {v2 : Value} {x : Nat} : am_g d X am_m6051 10 [.ref x, v1, v2] sk st Q = am_g d X am_m6051 11 [.ref x, v1, v2] (.ref x :: sk) st Q := am_gu.trans rfl
theorem u6051_11 {v0 : Value} {v1 : Value} {v2 : Value} : am_g d X am_m6051 11 [v0, v1, v2] sk st Q = am_gt 193 14 [v0, v1, v2] sk st (fun pc lc sk st => am_g d X am_m6051 pc lc sk st Q) := am_gu.trans rfl
theorem u6051_14 {v0 : Value} {v1 : Value} {v2 : Value} : am_g d X am_m6051 14 [v0, v1, v2] sk st Q = am_gt 129 17 [v0, v1, v2] sk st (fun pc lc sk st => am_g d X am_m6051 pc lc sk st Q) := am_gu.trans rfl
theorem u6051_17 {v1 : Value} {v2 : Value} {x : Nat} : am_g d X am_m6051 17 [.ref x, v1, v2] sk st Q = am_g d X am_m6051 18 [.ref x, v1, v2] (.ref x :: sk) st Q := am_gu.trans rfl
theorem u6051_18 {v0 : Value} {v1 : Value} {v2 : Value} : am_g d X am_m6051 18 [v0, v1, v2] sk st Q = am_gt 193 21 [v0, v1, v2] sk st (fun pc lc sk st => am_g d X am_m6051 pc lc sk st Q) := am_gu.trans rfl
theorem u6051_21 {v0 : Value} {v1 : Value} {v2 : Value} : am_g d X am_m6051 21 [v0, v1, v2] sk st Q = am_gt 128 24 [v0, v1, v2] sk st (fun pc lc sk st => am_g d X am_m6051 pc lc sk st Q) := am_gu.trans rfl
theorem u6051_24 {v0 : Value} {v2 : Value} {x : Int32} : am_g d X am_m6051 24 [v0, .int x, v2] sk st Q = am_g d X am_m6051 25 [v0, .int x, v2] (.int x :: sk) st Q := am_gu.trans rfl
theorem u6051_25 {v0 : Value} {v1 : Value} {x : Int32} : am_g d X am_m6051 25 [v0, v1, .int x] sk st Q = am_g d X am_m6051 26 [v0, v1, .int x] (.int x :: sk) st Q := am_gu.trans rfl
theorem u6051_26 {a0 : Value} {a1 : Value} {a2 : Value} {v0 : Value} {v1 : Value} {v2 : Value} : am_g d X am_m6051 26 [v0, v1, v2] (a2 :: a1 :: a0 :: .ref o :: sk) st Q = ((am_ob st o 1 ∧ sk.length ≤ 4) ∧ am_Ca X d 1012 [.ref o, a0, a1, a2] st (am_af am_m6051 26 [v0, v1, v2] sk (fun pc lc sk st => am_g d X am_m6051 pc lc sk st Q) Q)) := am_gu.trans rfl
theorem u6051_29 {v0 : Value} {v1 : Value} {v2 : Value} {x : Int32} : am_g d X am_m6051 29 [v0, v1, v2] [.int x] st Q = Q (.inl (some (.int x))) st := am_gu.trans rfl
set_option maxRecDepth 100000 in
theorem of_6052 : am_of 6052 = some am_m6052 := rfl
theorem c6052 {z a0 a1} {P : am_Q} : am_Ca X (d + 1) 6052 [.ref z, .int a0, .int a1] st P = am_g d X am_m6052 0 [.ref z, .int a0, .int a1] [] st P := am_cg of_6052 (by show 3 ≤ 3; decide)
theorem hd_6052 : am_hd am_m6052 = [] := rfl
theorem u6052_0 {v1 : Value} {v2 : Value} {x : Nat} : am_g d X am_m6052 0 [.ref x, v1, v2] sk st Q = am_g d X am_m6052 1 [.ref x, v1, v2] (.ref x :: sk) st Q := am_gu.trans rfl
theorem u6052_1 {v0 : Value} {v2 : Value} {x : Int32} : am_g d X am_m6052 1 [v0, .int x, v2] sk st Q = am_g d X am_m6052 2 [v0, .int x, v2] (.int x :: sk) st Q := am_gu.trans rfl
theorem u6052_2 {a0 : Value} {v0 : Value} {v1 : Value} {v2 : Value} : am_g d X am_m6052 2 [v0, v1, v2] (a0 :: .ref o :: sk) st Q = ((am_ob st o 6 ∧ sk.length ≤ 4) ∧ am_Ca X d 6065 [.ref o, a0] st (am_af am_m6052 2 [v0, v1, v2] sk (fun pc lc sk st => am_g d X am_m6052 pc lc sk st Q) Q)) := am_gu.trans rfl
theorem u6052_5 {v1 : Value} {v2 : Value} {x : Nat} : am_g d X am_m6052 5 [.ref x, v1, v2] sk st Q = am_g d X am_m6052 6 [.ref x, v1, v2] (.ref x :: sk) st Q := am_gu.trans rfl
theorem u6052_6 {v0 : Value} {v1 : Value} {x : Int32} : am_g d X am_m6052 6 [v0, v1, .int x] sk st Q = am_g d X am_m6052 7 [v0, v1, .int x] (.int x :: sk) st Q := am_gu.trans rfl
theorem u6052_7 {a0 : Value} {v0 : Value} {v1 : Value} {v2 : Value} : am_g d X am_m6052 7 [v0, v1, v2] (a0 :: .ref o :: sk) st Q = ((am_ob st o 6 ∧ sk.length ≤ 4) ∧ am_Ca X d 6065 [.ref o, a0] st (am_af am_m6052 7 [v0, v1, v2] sk (fun pc lc sk st => am_g d X am_m6052 pc lc sk st Q) Q)) := am_gu.trans rfl
theorem u6052_10 {v1 : Value} {v2 : Value} {x : Nat} : am_g d X am_m6052 10 [.ref x, v1, v2] sk st Q = am_g d X am_m6052 11 [.ref x, v1, v2] (.ref x :: sk) st Q := am_gu.trans rfl
theorem u6052_11 {v0 : Value} {v1 : Value} {v2 : Value} : am_g d X am_m6052 11 [v0, v1, v2] sk st Q = am_gt 193 14 [v0, v1, v2] sk st (fun pc lc sk st => am_g d X am_m6052 pc lc sk st Q) := am_gu.trans rfl
theorem u6052_14 {v0 : Value} {v1 : Value} {v2 : Value} : am_g d X am_m6052 14 [v0, v1, v2] sk st Q = am_gt 129 17 [v0, v1, v2] sk st (fun pc lc sk st => am_g d X am_m6052 pc lc sk st Q) := am_gu.trans rfl
theorem u6052_17 {v1 : Value} {v2 : Value} {x : Nat} : am_g d X am_m6052 17 [.ref x, v1, v2] sk st Q = am_g d X am_m6052 18 [.ref x, v1, v2] (.ref x :: sk) st Q := am_gu.trans rfl
theorem u6052_18 {v0 : Value} {v1 : Value} {v2 : Value} : am_g d X am_m6052 18 [v0, v1, v2] sk st Q = am_gt 193 21 [v0, v1, v2] sk st (fun pc lc sk st => am_g d X am_m6052 pc lc sk st Q) := am_gu.trans rfl
theorem u6052_21 {v0 : Value} {v1 : Value} {v2 : Value} : am_g d X am_m6052 21 [v0, v1, v2] sk st Q = am_gt 128 24 [v0, v1, v2] sk st (fun pc lc sk st => am_g d X am_m6052 pc lc sk st Q) := am_gu.trans rfl
theorem u6052_24 {v0 : Value} {v2 : Value} {x : Int32} : am_g d X am_m6052 24 [v0, .int x, v2] sk st Q = am_g d X am_m6052 25 [v0, .int x, v2] (.int x :: sk) st Q := am_gu.trans rfl
theorem u6052_25 {v0 : Value} {v1 : Value} {x : Int32} : am_g d X am_m6052 25 [v0, v1, .int x] sk st Q = am_g d X am_m6052 26 [v0, v1, .int x] (.int x :: sk) st Q := am_gu.trans rfl
theorem u6052_26 {a0 : Value} {a1 : Value} {a2 : Value} {v0 : Value} {v1 : Value} {v2 : Value} : am_g d X am_m6052 26 [v0, v1, v2] (a2 :: a1 :: a0 :: .ref o :: sk) st Q = ((am_ob st o 1 ∧ sk.length ≤ 4) ∧ am_Ca X d 1013 [.ref o, a0, a1, a2] st (am_af am_m6052 26 [v0, v1, v2] sk (fun pc lc sk st => am_g d X am_m6052 pc lc sk st Q) Q)) := am_gu.trans rfl
theorem u6052_29 {v0 : Value} {v1 : Value} {v2 : Value} {x : Int32} : am_g d X am_m6052 29 [v0, v1, v2] [.int x] st Q = Q (.inl (some (.int x))) st := am_gu.trans rfl
set_option maxRecDepth 100000 in
theorem of_6053 : am_of 6053 = some am_m6053 := rfl
theorem c6053 {z a0} {P : am_Q} : am_Ca X (d + 1) 6053 [.ref z, .int a0] st P = am_g d X am_m6053 0 [.ref z, .int a0] [] st P := am_cg of_6053 (by show 2 ≤ 2; decide)
theorem hd_6053 : am_hd am_m6053 = [] := rfl
theorem u6053_0 {v0 : Value} {x : Int32} : am_g d X am_m6053 0 [v0, .int x] sk st Q = am_g d X am_m6053 1 [v0, .int x] (.int x :: sk) st Q := am_gu.trans rfl
theorem u6053_1 {a0 : Value} {v0 : Value} {v1 : Value} : am_g d X am_m6053 1 [v0, v1] (a0 :: sk) st Q = (sk.length ≤ 4 ∧ am_Ca X d 6063 [a0] st (am_af am_m6053 1 [v0, v1] sk (fun pc lc sk st => am_g d X am_m6053 pc lc sk st Q) Q)) := am_gu.trans (propext ⟨fun h => ⟨h.1.2, h.2⟩, fun h => ⟨⟨Nat.le_add_left _ _, h.1⟩, h.2⟩⟩)
theorem u6053_4 {v1 : Value} {x : Nat} : am_g d X am_m6053 4 [.ref x, v1] sk st Q = am_g d X am_m6053 5 [.ref x, v1] (.ref x :: sk) st Q := am_gu.trans rfl
theorem u6053_5 {v0 : Value} {x : Int32} : am_g d X am_m6053 5 [v0, .int x] sk st Q = am_g d X am_m6053 6 [v0, .int x] (.int x :: sk) st Q := am_gu.trans rfl
theorem u6053_6 {a0 : Value} {v0 : Value} {v1 : Value} : am_g d X am_m6053 6 [v0, v1] (a0 :: .ref o :: sk) st Q = ((am_ob st o 6 ∧ sk.length ≤ 4) ∧ am_Ca X d 6064 [.ref o, a0] st (am_af am_m6053 6 [v0, v1] sk (fun pc lc sk st => am_g d X am_m6053 pc lc sk st Q) Q)) := am_gu.trans rfl
theorem u6053_9 {v1 : Value} {x : Nat} : am_g d X am_m6053 9 [.ref x, v1] sk st Q = am_g d X am_m6053 10 [.ref x, v1] (.ref x :: sk) st Q := am_gu.trans rfl
theorem u6053_10 {v0 : Value} {v1 : Value} : am_g d X am_m6053 10 [v0, v1] sk st Q = am_gt 193 13 [v0, v1] sk st (fun pc lc sk st => am_g d X am_m6053 pc lc sk st Q) := am_gu.trans rfl
theorem u6053_13 {v1 : Value} {x : Nat} : am_g d X am_m6053 13 [.ref x, v1] sk st Q = am_g d X am_m6053 14 [.ref x, v1] (.ref x :: sk) st Q := am_gu.trans rfl
theorem u6053_14 {v0 : Value} {v1 : Value} : am_g d X am_m6053 14 [v0, v1] sk st Q = am_gt 193 17 [v0, v1] sk st (fun pc lc sk st => am_g d X am_m6053 pc lc sk st Q) := am_gu.trans rfl
theorem u6053_17 {v0 : Value} {v1 : Value} : am_g d X am_m6053 17 [v0, v1] sk st Q = am_gt 128 20 [v0, v1] sk st (fun pc lc sk st => am_g d X am_m6053 pc lc sk st Q) := am_gu.trans rfl
theorem u6053_20 {v0 : Value} {x : Int32} : am_g d X am_m6053 20 [v0, .int x] sk st Q = am_g d X am_m6053 21 [v0, .int x] (.int x :: sk) st Q := am_gu.trans rfl
theorem u6053_21 {a0 : Value} {v0 : Value} {v1 : Value} : am_g d X am_m6053 21 [v0, v1] (a0 :: .ref o :: sk) st Q = ((am_ob st o 5 ∧ sk.length ≤ 4) ∧ am_Ca X d 5015 [.ref o, a0] st (am_af am_m6053 21 [v0, v1] sk (fun pc lc sk st => am_g d X am_m6053 pc lc sk st Q) Q)) := am_gu.trans rfl
theorem u6053_24 {a0 : Value} {v0 : Value} {v1 : Value} : am_g d X am_m6053 24 [v0, v1] (a0 :: .ref o :: sk) st Q = ((am_ob st o 4 ∧ sk.length ≤ 4) ∧ am_Ca X d 4027 [.ref o, a0] st (am_af am_m6053 24 [v0, v1] sk (fun pc lc sk st => am_g d X am_m6053 pc lc sk st Q) Q)) := am_gu.trans rfl
theorem u6053_27 {v1 : Value} {x : Nat} : am_g d X am_m6053 27 [.ref x, v1] sk st Q = am_g d X am_m6053 28 [.ref x, v1] (.ref x :: sk) st Q := am_gu.trans rfl
theorem u6053_28 {v0 : Value} {v1 : Value} : am_g d X am_m6053 28 [v0, v1] sk st Q = am_gt 193 31 [v0, v1] sk st (fun pc lc sk st => am_g d X am_m6053 pc lc sk st Q) := am_gu.trans rfl
theorem u6053_31 {v0 : Value} {v1 : Value} : am_g d X am_m6053 31 [v0, v1] sk st Q = am_gt 130 34 [v0, v1] sk st (fun pc lc sk st => am_g d X am_m6053 pc lc sk st Q) := am_gu.trans rfl
theorem u6053_34 {v0 : Value} {v1 : Value} : am_g d X am_m6053 34 [v0, v1] sk st Q = am_gt 5 37 [v0, v1] sk st (fun pc lc sk st => am_g d X am_m6053 pc lc sk st Q) := am_gu.trans rfl
theorem u6053_37 {v0 : Value} {v1 : Value} {x : Int32} : am_g d X am_m6053 37 [v0, v1] [.int x] st Q = Q (.inl (some (.int x))) st := am_gu.trans rfl
set_option maxRecDepth 100000 in
theorem of_6054 : am_of 6054 = some am_m6054 := rfl
theorem c6054 {z a0} {P : am_Q} : am_Ca X (d + 1) 6054 [.ref z, .int a0] st P = am_g d X am_m6054 0 [.ref z, .int a0] [] st P := am_cg of_6054 (by show 2 ≤ 2; decide)
theorem hd_6054 : am_hd am_m6054 = [] := rfl
theorem u6054_0 {v0 : Value} {x : Int32} : am_g d X am_m6054 0 [v0, .int x] sk st Q = am_g d X am_m6054 1 [v0, .int x] (.int x :: sk) st Q := am_gu.trans rfl
theorem u6054_1 {a0 : Value} {v0 : Value} {v1 : Value} : am_g d X am_m6054 1 [v0, v1] (a0 :: sk) st Q = (sk.length ≤ 4 ∧ am_Ca X d 6063 [a0] st (am_af am_m6054 1 [v0, v1] sk (fun pc lc sk st => am_g d X am_m6054 pc lc sk st Q) Q)) := am_gu.trans (propext ⟨fun h => ⟨h.1.2, h.2⟩, fun h => ⟨⟨Nat.le_add_left _ _, h.1⟩, h.2⟩⟩)
theorem u6054_4 {v1 : Value} {x : Nat} : am_g d X am_m6054 4 [.ref x, v1] sk st Q = am_g d X am_m6054 5 [.ref x, v1] (.ref x :: sk) st Q := am_gu.trans rfl
theorem u6054_5 {v0 : Value} {x : Int32} : am_g d X am_m6054 5 [v0, .int x] sk st Q = am_g d X am_m6054 6 [v0, .int x] (.int x :: sk) st Q := am_gu.trans rfl
theorem u6054_6 {a0 : Value} {v0 : Value} {v1 : Value} : am_g d X am_m6054 6 [v0, v1] (a0 :: .ref o :: sk) st Q = ((am_ob st o 6 ∧ sk.length ≤ 4) ∧ am_Ca X d 6064 [.ref o, a0] st (am_af am_m6054 6 [v0, v1] sk (fun pc lc sk st => am_g d X am_m6054 pc lc sk st Q) Q)) := am_gu.trans rfl
theorem u6054_9 {v1 : Value} {x : Nat} : am_g d X am_m6054 9 [.ref x, v1] sk st Q = am_g d X am_m6054 10 [.ref x, v1] (.ref x :: sk) st Q := am_gu.trans rfl
theorem u6054_10 {v0 : Value} {v1 : Value} : am_g d X am_m6054 10 [v0, v1] sk st Q = am_gt 193 13 [v0, v1] sk st (fun pc lc sk st => am_g d X am_m6054 pc lc sk st Q) := am_gu.trans rfl
theorem u6054_13 {v1 : Value} {x : Nat} : am_g d X am_m6054 13 [.ref x, v1] sk st Q = am_g d X am_m6054 14 [.ref x, v1] (.ref x :: sk) st Q := am_gu.trans rfl
theorem u6054_14 {v0 : Value} {v1 : Value} : am_g d X am_m6054 14 [v0, v1] sk st Q = am_gt 193 17 [v0, v1] sk st (fun pc lc sk st => am_g d X am_m6054 pc lc sk st Q) := am_gu.trans rfl
theorem u6054_17 {v0 : Value} {v1 : Value} : am_g d X am_m6054 17 [v0, v1] sk st Q = am_gt 128 20 [v0, v1] sk st (fun pc lc sk st => am_g d X am_m6054 pc lc sk st Q) := am_gu.trans rfl
theorem u6054_20 {v0 : Value} {x : Int32} : am_g d X am_m6054 20 [v0, .int x] sk st Q = am_g d X am_m6054 21 [v0, .int x] (.int x :: sk) st Q := am_gu.trans rfl
theorem u6054_21 {a0 : Value} {v0 : Value} {v1 : Value} : am_g d X am_m6054 21 [v0, v1] (a0 :: .ref o :: sk) st Q = ((am_ob st o 5 ∧ sk.length ≤ 4) ∧ am_Ca X d 5015 [.ref o, a0] st (am_af am_m6054 21 [v0, v1] sk (fun pc lc sk st => am_g d X am_m6054 pc lc sk st Q) Q)) := am_gu.trans rfl
theorem u6054_24 {a0 : Value} {v0 : Value} {v1 : Value} : am_g d X am_m6054 24 [v0, v1] (a0 :: .ref o :: sk) st Q = ((am_ob st o 4 ∧ sk.length ≤ 4) ∧ am_Ca X d 4027 [.ref o, a0] st (am_af am_m6054 24 [v0, v1] sk (fun pc lc sk st => am_g d X am_m6054 pc lc sk st Q) Q)) := am_gu.trans rfl
theorem u6054_27 {v1 : Value} {x : Nat} : am_g d X am_m6054 27 [.ref x, v1] sk st Q = am_g d X am_m6054 28 [.ref x, v1] (.ref x :: sk) st Q := am_gu.trans rfl
theorem u6054_28 {v0 : Value} {v1 : Value} : am_g d X am_m6054 28 [v0, v1] sk st Q = am_gt 193 31 [v0, v1] sk st (fun pc lc sk st => am_g d X am_m6054 pc lc sk st Q) := am_gu.trans rfl
theorem u6054_31 {v0 : Value} {v1 : Value} : am_g d X am_m6054 31 [v0, v1] sk st Q = am_gt 130 34 [v0, v1] sk st (fun pc lc sk st => am_g d X am_m6054 pc lc sk st Q) := am_gu.trans rfl
theorem u6054_34 {v0 : Value} {v1 : Value} : am_g d X am_m6054 34 [v0, v1] sk st Q = am_gt 4 37 [v0, v1] sk st (fun pc lc sk st => am_g d X am_m6054 pc lc sk st Q) := am_gu.trans rfl
theorem u6054_37 {v0 : Value} {v1 : Value} {x : Int32} : am_g d X am_m6054 37 [v0, v1] [.int x] st Q = Q (.inl (some (.int x))) st := am_gu.trans rfl
set_option maxRecDepth 100000 in
theorem of_6055 : am_of 6055 = some am_m6055 := rfl
theorem c6055 {z} {P : am_Q} : am_Ca X (d + 1) 6055 [.ref z] st P = am_g d X am_m6055 0 [.ref z] [] st P := am_cg of_6055 (by show 1 ≤ 1; decide)
theorem hd_6055 : am_hd am_m6055 = [] := rfl
theorem u6055_0 {x : Nat} : am_g d X am_m6055 0 [.ref x] sk st Q = am_g d X am_m6055 1 [.ref x] (.ref x :: sk) st Q := am_gu.trans rfl
theorem u6055_1 {v0 : Value} : am_g d X am_m6055 1 [v0] sk st Q = am_gt 193 4 [v0] sk st (fun pc lc sk st => am_g d X am_m6055 pc lc sk st Q) := am_gu.trans rfl
theorem u6055_4 {v0 : Value} : am_g d X am_m6055 4 [v0] sk st Q = am_gt 128 7 [v0] sk st (fun pc lc sk st => am_g d X am_m6055 pc lc sk st Q) := am_gu.trans rfl
theorem u6055_7 {v0 : Value} : am_g d X am_m6055 7 [v0] (.ref o :: sk) st Q = ((am_ob st o 5 ∧ sk.length ≤ 4) ∧ am_Ca X d 5010 [.ref o] st (am_af am_m6055 7 [v0] sk (fun pc lc sk st => am_g d X am_m6055 pc lc sk st Q) Q)) := am_gu.trans rfl
theorem u6055_10 {v0 : Value} {x : Int32} : am_g d X am_m6055 10 [v0] [.int x] st Q = Q (.inl (some (.int x))) st := am_gu.trans rfl
set_option maxRecDepth 100000 in
theorem of_6056 : am_of 6056 = some am_m6056 := rfl
theorem c6056 {z} {P : am_Q} : am_Ca X (d + 1) 6056 [.ref z] st P = am_g d X am_m6056 0 [.ref z] [] st P := am_cg of_6056 (by show 1 ≤ 1; decide)
theorem hd_6056 : am_hd am_m6056 = [] := rfl
theorem u6056_0 {x : Nat} : am_g d X am_m6056 0 [.ref x] sk st Q = am_g d X am_m6056 1 [.ref x] (.ref x :: sk) st Q := am_gu.trans rfl
theorem u6056_1 {v0 : Value} : am_g d X am_m6056 1 [v0] sk st Q = am_gt 193 4 [v0] sk st (fun pc lc sk st => am_g d X am_m6056 pc lc sk st Q) := am_gu.trans rfl
theorem u6056_4 {v0 : Value} : am_g d X am_m6056 4 [v0] sk st Q = am_gt 128 7 [v0] sk st (fun pc lc sk st => am_g d X am_m6056 pc lc sk st Q) := am_gu.trans rfl
theorem u6056_7 {v0 : Value} : am_g d X am_m6056 7 [v0] sk st Q = am_gt 173 10 [v0] sk st (fun pc lc sk st => am_g d X am_m6056 pc lc sk st Q) := am_gu.trans rfl
theorem u6056_10 {v0 : Value} {x : Int32} : am_g d X am_m6056 10 [v0] [.int x] st Q = Q (.inl (some (.int x))) st := am_gu.trans rfl
set_option maxRecDepth 100000 in
theorem of_6057 : am_of 6057 = some am_m6057 := rfl
theorem c6057 {z} {P : am_Q} : am_Ca X (d + 1) 6057 [.ref z] st P = am_g d X am_m6057 0 [.ref z] [] st P := am_cg of_6057 (by show 1 ≤ 1; decide)
theorem hd_6057 : am_hd am_m6057 = [] := rfl
theorem u6057_0 {x : Nat} : am_g d X am_m6057 0 [.ref x] sk st Q = am_g d X am_m6057 1 [.ref x] (.ref x :: sk) st Q := am_gu.trans rfl
theorem u6057_1 {v0 : Value} : am_g d X am_m6057 1 [v0] sk st Q = am_gt 195 4 [v0] sk st (fun pc lc sk st => am_g d X am_m6057 pc lc sk st Q) := am_gu.trans rfl
theorem u6057_4 {x : Nat} : am_g d X am_m6057 4 [.ref x] sk st Q = am_g d X am_m6057 5 [.ref x] (.ref x :: sk) st Q := am_gu.trans rfl
theorem u6057_5 {v0 : Value} : am_g d X am_m6057 5 [v0] sk st Q = am_gt 193 8 [v0] sk st (fun pc lc sk st => am_g d X am_m6057 pc lc sk st Q) := am_gu.trans rfl
theorem u6057_8 {v0 : Value} : am_g d X am_m6057 8 [v0] sk st Q = am_gt 128 11 [v0] sk st (fun pc lc sk st => am_g d X am_m6057 pc lc sk st Q) := am_gu.trans rfl
theorem u6057_11 {a0 : Value} {v0 : Value} : am_g d X am_m6057 11 [v0] (a0 :: .ref o :: sk) st Q = ((am_ob st o 5 ∧ sk.length ≤ 4) ∧ am_Ca X d 5002 [.ref o, a0] st (am_af am_m6057 11 [v0] sk (fun pc lc sk st => am_g d X am_m6057 pc lc sk st Q) Q)) := am_gu.trans rfl
theorem u6057_14 {x : Nat} : am_g d X am_m6057 14 [.ref x] sk st Q = am_g d X am_m6057 15 [.ref x] (.ref x :: sk) st Q := am_gu.trans rfl
theorem u6057_15 {v0 : Value} : am_g d X am_m6057 15 [v0] sk st Q = am_g d X am_m6057 16 [v0] (.int (am_i 1) :: sk) st Q := am_gu.trans rfl
theorem u6057_16 {v0 : Value} : am_g d X am_m6057 16 [v0] sk st Q = am_pt 196 19 [v0] sk st (fun pc lc sk st => am_g d X am_m6057 pc lc sk st Q) := am_gu.trans rfl
theorem u6057_19 {x : Nat} : am_g d X am_m6057 19 [.ref x] sk st Q = am_g d X am_m6057 20 [.ref x] (.ref x :: sk) st Q := am_gu.trans rfl
theorem u6057_20 {v0 : Value} : am_g d X am_m6057 20 [v0] sk st Q = am_gt 193 23 [v0] sk st (fun pc lc sk st => am_g d X am_m6057 pc lc sk st Q) := am_gu.trans rfl
theorem u6057_23 {v0 : Value} : am_g d X am_m6057 23 [v0] sk st Q = am_gt 128 26 [v0] sk st (fun pc lc sk st => am_g d X am_m6057 pc lc sk st Q) := am_gu.trans rfl
theorem u6057_26 {v0 : Value} : am_g d X am_m6057 26 [v0] sk st Q = am_gt 160 29 [v0] sk st (fun pc lc sk st => am_g d X am_m6057 pc lc sk st Q) := am_gu.trans rfl
theorem u6057_29 {v0 : Value} {x : Int32} : am_g d X am_m6057 29 [v0] [.int x] st Q = Q (.inl (some (.int x))) st := am_gu.trans rfl
set_option maxRecDepth 100000 in
theorem of_6058 : am_of 6058 = some am_m6058 := rfl
theorem c6058 {z} {P : am_Q} : am_Ca X (d + 1) 6058 [.ref z] st P = am_g d X am_m6058 0 [.ref z] [] st P := am_cg of_6058 (by show 1 ≤ 1; decide)
theorem hd_6058 : am_hd am_m6058 = [] := rfl
theorem u6058_0 {x : Nat} : am_g d X am_m6058 0 [.ref x] sk st Q = am_g d X am_m6058 1 [.ref x] (.ref x :: sk) st Q := am_gu.trans rfl
theorem u6058_1 {v0 : Value} : am_g d X am_m6058 1 [v0] sk st Q = am_gt 196 4 [v0] sk st (fun pc lc sk st => am_g d X am_m6058 pc lc sk st Q) := am_gu.trans rfl
theorem u6058_4 {v0 : Value} {x : Int32} : am_g d X am_m6058 4 [v0] (.int x :: sk) st Q = (if decide (¬ x = 0) = true then am_g d X am_m6058 18 [v0] sk st Q else am_g d X am_m6058 7 [v0] sk st Q) := am_gu.trans rfl
theorem u6058_7 {v0 : Value} : am_g d X am_m6058 7 [v0] [] (n, sh, cl, sl, F, A, L) Q = ((5 ≤ d ∧ n ≤ cl) ∧ Q (.inr 1) (n, sh, cl + 1, sl + 6, F, A, L)) := am_gu.trans (propext ⟨fun h => ⟨⟨h.1.2.2.1, h.1.2.2.2⟩, h.2⟩, fun h => ⟨⟨rfl, Nat.zero_le _, h.1.1, h.1.2⟩, h.2⟩⟩)
theorem u6058_18 {x : Nat} : am_g d X am_m6058 18 [.ref x] sk st Q = am_g d X am_m6058 19 [.ref x] (.ref x :: sk) st Q := am_gu.trans rfl
theorem u6058_19 {v0 : Value} : am_g d X am_m6058 19 [v0] (.ref o :: sk) st Q = ((am_ob st o 6 ∧ sk.length ≤ 4) ∧ am_Ca X d 6067 [.ref o] st (am_af am_m6058 19 [v0] sk (fun pc lc sk st => am_g d X am_m6058 pc lc sk st Q) Q)) := am_gu.trans rfl
theorem u6058_22 {x : Nat} : am_g d X am_m6058 22 [.ref x] sk st Q = am_g d X am_m6058 23 [.ref x] (.ref x :: sk) st Q := am_gu.trans rfl
theorem u6058_23 {v0 : Value} : am_g d X am_m6058 23 [v0] sk st Q = am_gt 193 26 [v0] sk st (fun pc lc sk st => am_g d X am_m6058 pc lc sk st Q) := am_gu.trans rfl
theorem u6058_26 {v0 : Value} : am_g d X am_m6058 26 [v0] sk st Q = am_gt 128 29 [v0] sk st (fun pc lc sk st => am_g d X am_m6058 pc lc sk st Q) := am_gu.trans rfl
theorem u6058_29 {x : Nat} : am_g d X am_m6058 29 [.ref x] sk st Q = am_g d X am_m6058 30 [.ref x] (.ref x :: sk) st Q := am_gu.trans rfl
theorem u6058_30 {v0 : Value} : am_g d X am_m6058 30 [v0] sk st Q = am_gt 195 33 [v0] sk st (fun pc lc sk st => am_g d X am_m6058 pc lc sk st Q) := am_gu.trans rfl
theorem u6058_33 {a0 : Value} {v0 : Value} : am_g d X am_m6058 33 [v0] (a0 :: .ref o :: sk) st Q = ((am_ob st o 5 ∧ sk.length ≤ 4) ∧ am_Ca X d 5002 [.ref o, a0] st (am_af am_m6058 33 [v0] sk (fun pc lc sk st => am_g d X am_m6058 pc lc sk st Q) Q)) := am_gu.trans rfl
theorem u6058_36 {x : Nat} : am_g d X am_m6058 36 [.ref x] sk st Q = am_g d X am_m6058 37 [.ref x] (.ref x :: sk) st Q := am_gu.trans rfl
theorem u6058_37 {v0 : Value} : am_g d X am_m6058 37 [v0] sk st Q = am_gt 193 40 [v0] sk st (fun pc lc sk st => am_g d X am_m6058 pc lc sk st Q) := am_gu.trans rfl
theorem u6058_40 {v0 : Value} : am_g d X am_m6058 40 [v0] sk st Q = am_gt 128 43 [v0] sk st (fun pc lc sk st => am_g d X am_m6058 pc lc sk st Q) := am_gu.trans rfl
theorem u6058_43 {v0 : Value} : am_g d X am_m6058 43 [v0] sk st Q = am_gt 160 46 [v0] sk st (fun pc lc sk st => am_g d X am_m6058 pc lc sk st Q) := am_gu.trans rfl
theorem u6058_46 {v0 : Value} {x : Int32} : am_g d X am_m6058 46 [v0] [.int x] st Q = Q (.inl (some (.int x))) st := am_gu.trans rfl
set_option maxRecDepth 100000 in
theorem of_6059 : am_of 6059 = some am_m6059 := rfl
theorem c6059 {z} {P : am_Q} : am_Ca X (d + 1) 6059 [.ref z] st P = am_g d X am_m6059 0 [.ref z] [] st P := am_cg of_6059 (by show 1 ≤ 1; decide)
theorem hd_6059 : am_hd am_m6059 = [] := rfl
theorem u6059_0 {x : Nat} : am_g d X am_m6059 0 [.ref x] sk st Q = am_g d X am_m6059 1 [.ref x] (.ref x :: sk) st Q := am_gu.trans rfl
theorem u6059_1 {v0 : Value} : am_g d X am_m6059 1 [v0] sk st Q = am_gt 194 4 [v0] sk st (fun pc lc sk st => am_g d X am_m6059 pc lc sk st Q) := am_gu.trans rfl
theorem u6059_4 {v0 : Value} : am_g d X am_m6059 4 [v0] sk st Q = am_gt 98 7 [v0] sk st (fun pc lc sk st => am_g d X am_m6059 pc lc sk st Q) := am_gu.trans rfl
theorem u6059_7 {v0 : Value} {x : Int32} : am_g d X am_m6059 7 [v0] (.int x :: sk) st Q = (if decide (¬ x = 0) = true then am_g d X am_m6059 21 [v0] sk st Q else am_g d X am_m6059 10 [v0] sk st Q) := am_gu.trans rfl
theorem u6059_10 {v0 : Value} : am_g d X am_m6059 10 [v0] [] (n, sh, cl, sl, F, A, L) Q = ((5 ≤ d ∧ n ≤ cl) ∧ Q (.inr 1) (n, sh, cl + 1, sl + 6, F, A, L)) := am_gu.trans (propext ⟨fun h => ⟨⟨h.1.2.2.1, h.1.2.2.2⟩, h.2⟩, fun h => ⟨⟨rfl, Nat.zero_le _, h.1.1, h.1.2⟩, h.2⟩⟩)
theorem u6059_21 {x : Nat} : am_g d X am_m6059 21 [.ref x] sk st Q = am_g d X am_m6059 22 [.ref x] (.ref x :: sk) st Q := am_gu.trans rfl
theorem u6059_22 {v0 : Value} : am_g d X am_m6059 22 [v0] sk st Q = am_gt 194 25 [v0] sk st (fun pc lc sk st => am_g d X am_m6059 pc lc sk st Q) := am_gu.trans rfl
theorem u6059_25 {x : Nat} : am_g d X am_m6059 25 [.ref x] sk st Q = am_g d X am_m6059 26 [.ref x] (.ref x :: sk) st Q := am_gu.trans rfl
theorem u6059_26 {v0 : Value} : am_g d X am_m6059 26 [v0] sk st Q = am_gt 193 29 [v0] sk st (fun pc lc sk st => am_g d X am_m6059 pc lc sk st Q) := am_gu.trans rfl
theorem u6059_29 {v0 : Value} : am_g d X am_m6059 29 [v0] sk st Q = am_gt 128 32 [v0] sk st (fun pc lc sk st => am_g d X am_m6059 pc lc sk st Q) := am_gu.trans rfl
theorem u6059_32 {a0 : Value} {v0 : Value} : am_g d X am_m6059 32 [v0] (a0 :: .ref o :: sk) st Q = ((am_ob st o 3 ∧ sk.length ≤ 4) ∧ am_Ca X d 3003 [.ref o, a0] st (am_af am_m6059 32 [v0] sk (fun pc lc sk st => am_g d X am_m6059 pc lc sk st Q) Q)) := am_gu.trans rfl
theorem u6059_35 {x : Nat} : am_g d X am_m6059 35 [.ref x] sk st Q = am_g d X am_m6059 36 [.ref x] (.ref x :: sk) st Q := am_gu.trans rfl
theorem u6059_36 {v0 : Value} : am_g d X am_m6059 36 [v0] sk st Q = am_gt 194 39 [v0] sk st (fun pc lc sk st => am_g d X am_m6059 pc lc sk st Q) := am_gu.trans rfl
theorem u6059_39 {v0 : Value} : am_g d X am_m6059 39 [v0] sk st Q = am_gt 98 42 [v0] sk st (fun pc lc sk st => am_g d X am_m6059 pc lc sk st Q) := am_gu.trans rfl
theorem u6059_42 {v0 : Value} {x : Int32} : am_g d X am_m6059 42 [v0] [.int x] st Q = Q (.inl (some (.int x))) st := am_gu.trans rfl
set_option maxRecDepth 100000 in
theorem of_6060 : am_of 6060 = some am_m6060 := rfl
theorem c6060 {a0 a1} {P : am_Q} : am_Ca X (d + 1) 6060 [.int a0, .int a1] st P = am_g d X am_m6060 0 [.int a0, .int a1] [] st P := am_cg of_6060 (by show 2 ≤ 2; decide)
theorem hd_6060 : am_hd am_m6060 = [] := rfl
theorem u6060_0 {v1 : Value} {x : Int32} : am_g d X am_m6060 0 [.int x, v1] sk st Q = am_g d X am_m6060 1 [.int x, v1] (.int x :: sk) st Q := am_gu.trans rfl
theorem u6060_1 {v0 : Value} {v1 : Value} {x : Int32} : am_g d X am_m6060 1 [v0, v1] (.int x :: sk) st Q = (if decide (x < 0) = true then am_g d X am_m6060 23 [v0, v1] sk st Q else am_g d X am_m6060 4 [v0, v1] sk st Q) := am_gu.trans rfl
theorem u6060_4 {v1 : Value} {x : Int32} : am_g d X am_m6060 4 [.int x, v1] sk st Q = am_g d X am_m6060 5 [.int x, v1] (.int x :: sk) st Q := am_gu.trans rfl
theorem u6060_5 {v0 : Value} {v1 : Value} : am_g d X am_m6060 5 [v0, v1] sk st Q = am_g d X am_m6060 6 [v0, v1] (.int (am_i 4) :: sk) st Q := am_gu.trans rfl
theorem u6060_6 {v0 : Value} {v1 : Value} {x : Int32} {y : Int32} : am_g d X am_m6060 6 [v0, v1] (.int y :: .int x :: sk) st Q = (if decide (y ≤ x) = true then am_g d X am_m6060 23 [v0, v1] sk st Q else am_g d X am_m6060 9 [v0, v1] sk st Q) := am_gu.trans rfl
theorem u6060_9 {v0 : Value} {x : Int32} : am_g d X am_m6060 9 [v0, .int x] sk st Q = am_g d X am_m6060 10 [v0, .int x] (.int x :: sk) st Q := am_gu.trans rfl
theorem u6060_10 {v0 : Value} {v1 : Value} {x : Int32} : am_g d X am_m6060 10 [v0, v1] (.int x :: sk) st Q = (if decide (x < 0) = true then am_g d X am_m6060 23 [v0, v1] sk st Q else am_g d X am_m6060 13 [v0, v1] sk st Q) := am_gu.trans rfl
theorem u6060_13 {v0 : Value} {x : Int32} : am_g d X am_m6060 13 [v0, .int x] sk st Q = am_g d X am_m6060 14 [v0, .int x] (.int x :: sk) st Q := am_gu.trans rfl
theorem u6060_14 {v0 : Value} {v1 : Value} : am_g d X am_m6060 14 [v0, v1] sk st Q = am_g d X am_m6060 16 [v0, v1] (.int (am_i 6) :: sk) st Q := am_gu.trans rfl
theorem u6060_16 {v0 : Value} {v1 : Value} {x : Int32} {y : Int32} : am_g d X am_m6060 16 [v0, v1] (.int y :: .int x :: sk) st Q = (if decide (y ≤ x) = true then am_g d X am_m6060 23 [v0, v1] sk st Q else am_g d X am_m6060 19 [v0, v1] sk st Q) := am_gu.trans rfl
theorem u6060_19 {v0 : Value} {v1 : Value} : am_g d X am_m6060 19 [v0, v1] sk st Q = am_g d X am_m6060 20 [v0, v1] (.int (am_i 1) :: sk) st Q := am_gu.trans rfl
theorem u6060_20 {v0 : Value} {v1 : Value} : am_g d X am_m6060 20 [v0, v1] sk st Q = am_g d X am_m6060 24 [v0, v1] sk st Q := am_gu.trans rfl
theorem u6060_23 {v0 : Value} {v1 : Value} : am_g d X am_m6060 23 [v0, v1] sk st Q = am_g d X am_m6060 24 [v0, v1] (.int (am_i 0) :: sk) st Q := am_gu.trans rfl
theorem u6060_24 {v0 : Value} {v1 : Value} {x : Int32} : am_g d X am_m6060 24 [v0, v1] [.int x] st Q = ((x = 0 ∨ x = 1) ∧ Q (.inl (some (.int x))) st) := am_gu.trans rfl
set_option maxRecDepth 100000 in
theorem of_6061 : am_of 6061 = some am_m6061 := rfl
theorem c6061 {a0 a1} {P : am_Q} : am_Ca X (d + 1) 6061 [.int a0, .int a1] st P = am_g d X am_m6061 0 [.int a0, .int a1] [] st P := am_cg of_6061 (by show 2 ≤ 2; decide)
theorem hd_6061 : am_hd am_m6061 = [] := rfl
theorem u6061_0 {v1 : Value} {x : Int32} : am_g d X am_m6061 0 [.int x, v1] sk st Q = am_g d X am_m6061 1 [.int x, v1] (.int x :: sk) st Q := am_gu.trans rfl
theorem u6061_1 {v0 : Value} {v1 : Value} : am_g d X am_m6061 1 [v0, v1] sk st Q = am_g d X am_m6061 3 [v0, v1] (.int (am_i 6) :: sk) st Q := am_gu.trans rfl
theorem u6061_3 {v0 : Value} {v1 : Value} {x : Int32} {y : Int32} : am_g d X am_m6061 3 [v0, v1] (.int y :: .int x :: sk) st Q = am_g d X am_m6061 4 [v0, v1] (.int (x * y) :: sk) st Q := am_gu.trans rfl
theorem u6061_4 {v0 : Value} {x : Int32} : am_g d X am_m6061 4 [v0, .int x] sk st Q = am_g d X am_m6061 5 [v0, .int x] (.int x :: sk) st Q := am_gu.trans rfl
theorem u6061_5 {v0 : Value} {v1 : Value} {x : Int32} {y : Int32} : am_g d X am_m6061 5 [v0, v1] (.int y :: .int x :: sk) st Q = am_g d X am_m6061 6 [v0, v1] (.int (x + y) :: sk) st Q := am_gu.trans rfl
theorem u6061_6 {v0 : Value} {v1 : Value} {x : Int32} : am_g d X am_m6061 6 [v0, v1] [.int x] st Q = Q (.inl (some (.int x))) st := am_gu.trans rfl
set_option maxRecDepth 100000 in
theorem of_6062 : am_of 6062 = some am_m6062 := rfl
theorem c6062 {a0 a1} {P : am_Q} : am_Ca X (d + 1) 6062 [.int a0, .int a1] st P = am_g d X am_m6062 0 [.int a0, .int a1] [] st P := am_cg of_6062 (by show 2 ≤ 2; decide)
theorem hd_6062 : am_hd am_m6062 = [] := rfl
theorem u6062_0 {v1 : Value} {x : Int32} : am_g d X am_m6062 0 [.int x, v1] sk st Q = am_g d X am_m6062 1 [.int x, v1] (.int x :: sk) st Q := am_gu.trans rfl
theorem u6062_1 {v0 : Value} {x : Int32} : am_g d X am_m6062 1 [v0, .int x] sk st Q = am_g d X am_m6062 2 [v0, .int x] (.int x :: sk) st Q := am_gu.trans rfl
theorem u6062_2 {a0 : Value} {a1 : Value} {v0 : Value} {v1 : Value} : am_g d X am_m6062 2 [v0, v1] (a1 :: a0 :: sk) st Q = (sk.length ≤ 4 ∧ am_Ca X d 6060 [a0, a1] st (am_af am_m6062 2 [v0, v1] sk (fun pc lc sk st => am_g d X am_m6062 pc lc sk st Q) Q)) := am_gu.trans (propext ⟨fun h => ⟨h.1.2, h.2⟩, fun h => ⟨⟨Nat.le_add_left _ _, h.1⟩, h.2⟩⟩)
theorem u6062_5 {v0 : Value} {v1 : Value} {x : Int32} : am_g d X am_m6062 5 [v0, v1] (.int x :: sk) st Q = (if decide (¬ x = 0) = true then am_g d X am_m6062 19 [v0, v1] sk st Q else am_g d X am_m6062 8 [v0, v1] sk st Q) := am_gu.trans rfl
theorem u6062_8 {v0 : Value} {v1 : Value} : am_g d X am_m6062 8 [v0, v1] [] (n, sh, cl, sl, F, A, L) Q = ((5 ≤ d ∧ n ≤ cl) ∧ Q (.inr 0) (n, sh, cl + 1, sl + 6, F, A, L)) := am_gu.trans (propext ⟨fun h => ⟨⟨h.1.2.2.1, h.1.2.2.2⟩, h.2⟩, fun h => ⟨⟨rfl, Nat.zero_le _, h.1.1, h.1.2⟩, h.2⟩⟩)
theorem u6062_19 {v0 : Value} {v1 : Value} : am_g d X am_m6062 19 [v0, v1] [] st Q = Q (.inl none) st := am_gu.trans rfl
set_option maxRecDepth 100000 in
theorem of_6063 : am_of 6063 = some am_m6063 := rfl
theorem c6063 {a0} {P : am_Q} : am_Ca X (d + 1) 6063 [.int a0] st P = am_g d X am_m6063 0 [.int a0] [] st P := am_cg of_6063 (by show 1 ≤ 1; decide)
theorem hd_6063 : am_hd am_m6063 = [] := rfl
theorem u6063_0 {x : Int32} : am_g d X am_m6063 0 [.int x] sk st Q = am_g d X am_m6063 1 [.int x] (.int x :: sk) st Q := am_gu.trans rfl
theorem u6063_1 {v0 : Value} {x : Int32} : am_g d X am_m6063 1 [v0] (.int x :: sk) st Q = (if decide (x < 0) = true then am_g d X am_m6063 10 [v0] sk st Q else am_g d X am_m6063 4 [v0] sk st Q) := am_gu.trans rfl
theorem u6063_4 {x : Int32} : am_g d X am_m6063 4 [.int x] sk st Q = am_g d X am_m6063 5 [.int x] (.int x :: sk) st Q := am_gu.trans rfl
theorem u6063_5 {v0 : Value} : am_g d X am_m6063 5 [v0] sk st Q = am_g d X am_m6063 7 [v0] (.int (am_i 6) :: sk) st Q := am_gu.trans rfl
theorem u6063_7 {v0 : Value} {x : Int32} {y : Int32} : am_g d X am_m6063 7 [v0] (.int y :: .int x :: sk) st Q = (if decide (x < y) = true then am_g d X am_m6063 21 [v0] sk st Q else am_g d X am_m6063 10 [v0] sk st Q) := am_gu.trans rfl
theorem u6063_10 {v0 : Value} : am_g d X am_m6063 10 [v0] [] (n, sh, cl, sl, F, A, L) Q = ((5 ≤ d ∧ n ≤ cl) ∧ Q (.inr 0) (n, sh, cl + 1, sl + 6, F, A, L)) := am_gu.trans (propext ⟨fun h => ⟨⟨h.1.2.2.1, h.1.2.2.2⟩, h.2⟩, fun h => ⟨⟨rfl, Nat.zero_le _, h.1.1, h.1.2⟩, h.2⟩⟩)
theorem u6063_21 {v0 : Value} : am_g d X am_m6063 21 [v0] [] st Q = Q (.inl none) st := am_gu.trans rfl
set_option maxRecDepth 100000 in
theorem of_6064 : am_of 6064 = some am_m6064 := rfl
theorem c6064 {z a0} {P : am_Q} : am_Ca X (d + 1) 6064 [.ref z, .int a0] st P = am_g d X am_m6064 0 [.ref z, .int a0] [] st P := am_cg of_6064 (by show 2 ≤ 2; decide)
theorem hd_6064 : am_hd am_m6064 = [] := rfl
theorem u6064_0 {v1 : Value} {x : Nat} : am_g d X am_m6064 0 [.ref x, v1] sk st Q = am_g d X am_m6064 1 [.ref x, v1] (.ref x :: sk) st Q := am_gu.trans rfl
theorem u6064_1 {v0 : Value} {v1 : Value} : am_g d X am_m6064 1 [v0, v1] sk st Q = am_gt 193 4 [v0, v1] sk st (fun pc lc sk st => am_g d X am_m6064 pc lc sk st Q) := am_gu.trans rfl
theorem u6064_4 {v0 : Value} {v1 : Value} : am_g d X am_m6064 4 [v0, v1] sk st Q = am_gt 128 7 [v0, v1] sk st (fun pc lc sk st => am_g d X am_m6064 pc lc sk st Q) := am_gu.trans rfl
theorem u6064_7 {v0 : Value} {x : Int32} : am_g d X am_m6064 7 [v0, .int x] sk st Q = am_g d X am_m6064 8 [v0, .int x] (.int x :: sk) st Q := am_gu.trans rfl
theorem u6064_8 {a0 : Value} {v0 : Value} {v1 : Value} : am_g d X am_m6064 8 [v0, v1] (a0 :: .ref o :: sk) st Q = ((am_ob st o 5 ∧ sk.length ≤ 4) ∧ am_Ca X d 5014 [.ref o, a0] st (am_af am_m6064 8 [v0, v1] sk (fun pc lc sk st => am_g d X am_m6064 pc lc sk st Q) Q)) := am_gu.trans rfl
theorem u6064_11 {v0 : Value} {v1 : Value} {x : Int32} : am_g d X am_m6064 11 [v0, v1] (.int x :: sk) st Q = (if decide (¬ x = 0) = true then am_g d X am_m6064 25 [v0, v1] sk st Q else am_g d X am_m6064 14 [v0, v1] sk st Q) := am_gu.trans rfl
theorem u6064_14 {v0 : Value} {v1 : Value} : am_g d X am_m6064 14 [v0, v1] [] (n, sh, cl, sl, F, A, L) Q = ((5 ≤ d ∧ n ≤ cl) ∧ Q (.inr 1) (n, sh, cl + 1, sl + 6, F, A, L)) := am_gu.trans (propext ⟨fun h => ⟨⟨h.1.2.2.1, h.1.2.2.2⟩, h.2⟩, fun h => ⟨⟨rfl, Nat.zero_le _, h.1.1, h.1.2⟩, h.2⟩⟩)
theorem u6064_25 {v0 : Value} {v1 : Value} : am_g d X am_m6064 25 [v0, v1] [] st Q = Q (.inl none) st := am_gu.trans rfl
set_option maxRecDepth 100000 in
theorem of_6065 : am_of 6065 = some am_m6065 := rfl
theorem c6065 {z a0} {P : am_Q} : am_Ca X (d + 1) 6065 [.ref z, .int a0] st P = am_g d X am_m6065 0 [.ref z, .int a0] [] st P := am_cg of_6065 (by show 2 ≤ 2; decide)
theorem hd_6065 : am_hd am_m6065 = [] := rfl
theorem u6065_0 {v1 : Value} {x : Nat} : am_g d X am_m6065 0 [.ref x, v1] sk st Q = am_g d X am_m6065 1 [.ref x, v1] (.ref x :: sk) st Q := am_gu.trans rfl
theorem u6065_1 {v0 : Value} {v1 : Value} : am_g d X am_m6065 1 [v0, v1] sk st Q = am_gt 193 4 [v0, v1] sk st (fun pc lc sk st => am_g d X am_m6065 pc lc sk st Q) := am_gu.trans rfl
theorem u6065_4 {v0 : Value} {v1 : Value} : am_g d X am_m6065 4 [v0, v1] sk st Q = am_gt 128 7 [v0, v1] sk st (fun pc lc sk st => am_g d X am_m6065 pc lc sk st Q) := am_gu.trans rfl
theorem u6065_7 {v0 : Value} {x : Int32} : am_g d X am_m6065 7 [v0, .int x] sk st Q = am_g d X am_m6065 8 [v0, .int x] (.int x :: sk) st Q := am_gu.trans rfl
theorem u6065_8 {a0 : Value} {v0 : Value} {v1 : Value} : am_g d X am_m6065 8 [v0, v1] (a0 :: .ref o :: sk) st Q = ((am_ob st o 5 ∧ sk.length ≤ 4) ∧ am_Ca X d 5003 [.ref o, a0] st (am_af am_m6065 8 [v0, v1] sk (fun pc lc sk st => am_g d X am_m6065 pc lc sk st Q) Q)) := am_gu.trans rfl
theorem u6065_11 {v0 : Value} {v1 : Value} {x : Int32} : am_g d X am_m6065 11 [v0, v1] (.int x :: sk) st Q = (if decide (¬ x = 0) = true then am_g d X am_m6065 25 [v0, v1] sk st Q else am_g d X am_m6065 14 [v0, v1] sk st Q) := am_gu.trans rfl
theorem u6065_14 {v0 : Value} {v1 : Value} : am_g d X am_m6065 14 [v0, v1] [] (n, sh, cl, sl, F, A, L) Q = ((5 ≤ d ∧ n ≤ cl) ∧ Q (.inr 0) (n, sh, cl + 1, sl + 6, F, A, L)) := am_gu.trans (propext ⟨fun h => ⟨⟨h.1.2.2.1, h.1.2.2.2⟩, h.2⟩, fun h => ⟨⟨rfl, Nat.zero_le _, h.1.1, h.1.2⟩, h.2⟩⟩)
theorem u6065_25 {v0 : Value} {v1 : Value} : am_g d X am_m6065 25 [v0, v1] [] st Q = Q (.inl none) st := am_gu.trans rfl
set_option maxRecDepth 100000 in
theorem of_6066 : am_of 6066 = some am_m6066 := rfl
theorem c6066 {z a0} {P : am_Q} : am_Ca X (d + 1) 6066 [.ref z, .int a0] st P = am_g d X am_m6066 0 [.ref z, .int a0] [] st P := am_cg of_6066 (by show 2 ≤ 2; decide)
theorem hd_6066 : am_hd am_m6066 = [] := rfl
theorem u6066_0 {v1 : Value} {x : Nat} : am_g d X am_m6066 0 [.ref x, v1] sk st Q = am_g d X am_m6066 1 [.ref x, v1] (.ref x :: sk) st Q := am_gu.trans rfl
theorem u6066_1 {v0 : Value} {v1 : Value} : am_g d X am_m6066 1 [v0, v1] sk st Q = am_gt 193 4 [v0, v1] sk st (fun pc lc sk st => am_g d X am_m6066 pc lc sk st Q) := am_gu.trans rfl
theorem u6066_4 {v0 : Value} {v1 : Value} : am_g d X am_m6066 4 [v0, v1] sk st Q = am_gt 128 7 [v0, v1] sk st (fun pc lc sk st => am_g d X am_m6066 pc lc sk st Q) := am_gu.trans rfl
theorem u6066_7 {v0 : Value} {x : Int32} : am_g d X am_m6066 7 [v0, .int x] sk st Q = am_g d X am_m6066 8 [v0, .int x] (.int x :: sk) st Q := am_gu.trans rfl
theorem u6066_8 {a0 : Value} {v0 : Value} {v1 : Value} : am_g d X am_m6066 8 [v0, v1] (a0 :: .ref o :: sk) st Q = ((am_ob st o 5 ∧ sk.length ≤ 4) ∧ am_Ca X d 5028 [.ref o, a0] st (am_af am_m6066 8 [v0, v1] sk (fun pc lc sk st => am_g d X am_m6066 pc lc sk st Q) Q)) := am_gu.trans rfl
theorem u6066_11 {v0 : Value} {v1 : Value} {x : Int32} : am_g d X am_m6066 11 [v0, v1] (.int x :: sk) st Q = (if decide (¬ x = 0) = true then am_g d X am_m6066 25 [v0, v1] sk st Q else am_g d X am_m6066 14 [v0, v1] sk st Q) := am_gu.trans rfl
theorem u6066_14 {v0 : Value} {v1 : Value} : am_g d X am_m6066 14 [v0, v1] [] (n, sh, cl, sl, F, A, L) Q = ((5 ≤ d ∧ n ≤ cl) ∧ Q (.inr 1) (n, sh, cl + 1, sl + 6, F, A, L)) := am_gu.trans (propext ⟨fun h => ⟨⟨h.1.2.2.1, h.1.2.2.2⟩, h.2⟩, fun h => ⟨⟨rfl, Nat.zero_le _, h.1.1, h.1.2⟩, h.2⟩⟩)
theorem u6066_25 {v0 : Value} {v1 : Value} : am_g d X am_m6066 25 [v0, v1] [] st Q = Q (.inl none) st := am_gu.trans rfl
set_option maxRecDepth 100000 in
theorem of_6067 : am_of 6067 = some am_m6067 := rfl
theorem c6067 {z} {P : am_Q} : am_Ca X (d + 1) 6067 [.ref z] st P = am_g d X am_m6067 0 [.ref z] [] st P := am_cg of_6067 (by show 1 ≤ 1; decide)
theorem hd_6067 : am_hd am_m6067 = [] := rfl
theorem u6067_0 {x : Nat} : am_g d X am_m6067 0 [.ref x] sk st Q = am_g d X am_m6067 1 [.ref x] (.ref x :: sk) st Q := am_gu.trans rfl
theorem u6067_1 {v0 : Value} : am_g d X am_m6067 1 [v0] sk st Q = am_gt 194 4 [v0] sk st (fun pc lc sk st => am_g d X am_m6067 pc lc sk st Q) := am_gu.trans rfl
theorem u6067_4 {x : Nat} : am_g d X am_m6067 4 [.ref x] sk st Q = am_g d X am_m6067 5 [.ref x] (.ref x :: sk) st Q := am_gu.trans rfl
theorem u6067_5 {v0 : Value} : am_g d X am_m6067 5 [v0] sk st Q = am_gt 193 8 [v0] sk st (fun pc lc sk st => am_g d X am_m6067 pc lc sk st Q) := am_gu.trans rfl
theorem u6067_8 {v0 : Value} : am_g d X am_m6067 8 [v0] sk st Q = am_gt 128 11 [v0] sk st (fun pc lc sk st => am_g d X am_m6067 pc lc sk st Q) := am_gu.trans rfl
theorem u6067_11 {a0 : Value} {v0 : Value} : am_g d X am_m6067 11 [v0] (a0 :: .ref o :: sk) st Q = ((am_ob st o 3 ∧ sk.length ≤ 4) ∧ am_Ca X d 3002 [.ref o, a0] st (am_af am_m6067 11 [v0] sk (fun pc lc sk st => am_g d X am_m6067 pc lc sk st Q) Q)) := am_gu.trans rfl
theorem u6067_14 {v0 : Value} : am_g d X am_m6067 14 [v0] [] st Q = Q (.inl none) st := am_gu.trans rfl
set_option maxRecDepth 100000 in
theorem of_6068 : am_of 6068 = some am_m6068 := rfl
theorem c6068 {z a0} {P : am_Q} : am_Ca X (d + 1) 6068 [.ref z, .int a0] st P = am_g d X am_m6068 0 [.ref z, .int a0, am_u] [] st P := am_cg of_6068 (by show 2 ≤ 3; decide)
theorem hd_6068 : am_hd am_m6068 = [] := rfl
theorem u6068_0 {v1 : Value} {v2 : Value} {x : Nat} : am_g d X am_m6068 0 [.ref x, v1, v2] sk st Q = am_g d X am_m6068 1 [.ref x, v1, v2] (.ref x :: sk) st Q := am_gu.trans rfl
theorem u6068_1 {v0 : Value} {v1 : Value} {v2 : Value} : am_g d X am_m6068 1 [v0, v1, v2] sk st Q = am_gt 192 4 [v0, v1, v2] sk st (fun pc lc sk st => am_g d X am_m6068 pc lc sk st Q) := am_gu.trans rfl
theorem u6068_4 {v0 : Value} {v2 : Value} {x : Int32} : am_g d X am_m6068 4 [v0, .int x, v2] sk st Q = am_g d X am_m6068 5 [v0, .int x, v2] (.int x :: sk) st Q := am_gu.trans rfl
theorem u6068_5 {v0 : Value} {v1 : Value} {v2 : Value} : am_g d X am_m6068 5 [v0, v1, v2] sk st Q = am_g d X am_m6068 6 [v0, v1, v2] (.int (am_i 1) :: sk) st Q := am_gu.trans rfl
theorem u6068_6 {v0 : Value} {v1 : Value} {v2 : Value} {x : Int32} {y : Int32} : am_g d X am_m6068 6 [v0, v1, v2] (.int y :: .int x :: sk) st Q = am_g d X am_m6068 7 [v0, v1, v2] (.int (x + y) :: sk) st Q := am_gu.trans rfl
theorem u6068_7 {a0 : Value} {v0 : Value} {v1 : Value} {v2 : Value} : am_g d X am_m6068 7 [v0, v1, v2] (a0 :: .ref o :: sk) st Q = ((am_ob st o 2 ∧ sk.length ≤ 4) ∧ am_Ca X d 2009 [.ref o, a0] st (am_af am_m6068 7 [v0, v1, v2] sk (fun pc lc sk st => am_g d X am_m6068 pc lc sk st Q) Q)) := am_gu.trans rfl
theorem u6068_10 {v0 : Value} {v1 : Value} {v2 : Value} {x : Int32} : am_g d X am_m6068 10 [v0, v1, v2] (.int x :: sk) st Q = am_g d X am_m6068 11 [v0, am_kc v1, .int x] sk st Q := am_gu.trans (congrArg (fun l => am_g d X am_m6068 11 (List.set l 2 (.int x)) sk st Q) (kl_2 (l := [v2])))
theorem u6068_11 {v1 : Value} {v2 : Value} {x : Nat} : am_g d X am_m6068 11 [.ref x, v1, v2] sk st Q = am_g d X am_m6068 12 [.ref x, v1, v2] (.ref x :: sk) st Q := am_gu.trans rfl
theorem u6068_12 {v0 : Value} {v1 : Value} {v2 : Value} : am_g d X am_m6068 12 [v0, v1, v2] sk st Q = am_gt 192 15 [v0, v1, v2] sk st (fun pc lc sk st => am_g d X am_m6068 pc lc sk st Q) := am_gu.trans rfl
theorem u6068_15 {v0 : Value} {v2 : Value} {x : Int32} : am_g d X am_m6068 15 [v0, .int x, v2] sk st Q = am_g d X am_m6068 16 [v0, .int x, v2] (.int x :: sk) st Q := am_gu.trans rfl
theorem u6068_16 {a0 : Value} {v0 : Value} {v1 : Value} {v2 : Value} : am_g d X am_m6068 16 [v0, v1, v2] (a0 :: .ref o :: sk) st Q = ((am_ob st o 2 ∧ sk.length ≤ 4) ∧ am_Ca X d 2006 [.ref o, a0] st (am_af am_m6068 16 [v0, v1, v2] sk (fun pc lc sk st => am_g d X am_m6068 pc lc sk st Q) Q)) := am_gu.trans rfl
theorem u6068_19 {v0 : Value} {v1 : Value} {v2 : Value} : am_g d X am_m6068 19 [v0, v1, v2] sk st Q = am_ts 170 97 115 #[124, 116, 108, 170, 170, 170, 170, 170, 170, 170, 170, 170, 141, 170, 170, 150, 170, 160, 132] [v0, v1, v2] sk st (fun pc lc sk st => am_g d X am_m6068 pc lc sk st Q) := am_gu.trans rfl
theorem u6068_108 {v1 : Value} {v2 : Value} {x : Nat} : am_g d X am_m6068 108 [.ref x, v1, v2] sk st Q = am_g d X am_m6068 109 [.ref x, v1, v2] (.ref x :: sk) st Q := am_gu.trans rfl
theorem u6068_109 {v0 : Value} {v1 : Value} {v2 : Value} : am_g d X am_m6068 109 [v0, v1, v2] sk st Q = am_gt 193 112 [v0, v1, v2] sk st (fun pc lc sk st => am_g d X am_m6068 pc lc sk st Q) := am_gu.trans rfl
theorem u6068_112 {v0 : Value} {v1 : Value} {v2 : Value} : am_g d X am_m6068 112 [v0, v1, v2] (.ref o :: sk) st Q = ((am_ob st o 4 ∧ sk.length ≤ 4) ∧ am_Ca X d 4003 [.ref o] st (am_af am_m6068 112 [v0, v1, v2] sk (fun pc lc sk st => am_g d X am_m6068 pc lc sk st Q) Q)) := am_gu.trans rfl
theorem u6068_115 {v0 : Value} {v1 : Value} {v2 : Value} {x : Int32} : am_g d X am_m6068 115 [v0, v1, v2] [.int x] st Q = ((x = 0 ∨ x = 1) ∧ Q (.inl (some (.int x))) st) := am_gu.trans rfl
theorem u6068_116 {v1 : Value} {v2 : Value} {x : Nat} : am_g d X am_m6068 116 [.ref x, v1, v2] sk st Q = am_g d X am_m6068 117 [.ref x, v1, v2] (.ref x :: sk) st Q := am_gu.trans rfl
theorem u6068_117 {v0 : Value} {v1 : Value} {v2 : Value} : am_g d X am_m6068 117 [v0, v1, v2] sk st Q = am_gt 193 120 [v0, v1, v2] sk st (fun pc lc sk st => am_g d X am_m6068 pc lc sk st Q) := am_gu.trans rfl
theorem u6068_120 {v0 : Value} {v1 : Value} {v2 : Value} : am_g d X am_m6068 120 [v0, v1, v2] (.ref o :: sk) st Q = ((am_ob st o 4 ∧ sk.length ≤ 4) ∧ am_Ca X d 4010 [.ref o] st (am_af am_m6068 120 [v0, v1, v2] sk (fun pc lc sk st => am_g d X am_m6068 pc lc sk st Q) Q)) := am_gu.trans rfl
theorem u6068_123 {v0 : Value} {v1 : Value} {v2 : Value} {x : Int32} : am_g d X am_m6068 123 [v0, v1, v2] [.int x] st Q = ((x = 0 ∨ x = 1) ∧ Q (.inl (some (.int x))) st) := am_gu.trans rfl
theorem u6068_124 {v1 : Value} {v2 : Value} {x : Nat} : am_g d X am_m6068 124 [.ref x, v1, v2] sk st Q = am_g d X am_m6068 125 [.ref x, v1, v2] (.ref x :: sk) st Q := am_gu.trans rfl
theorem u6068_125 {v0 : Value} {v1 : Value} {v2 : Value} : am_g d X am_m6068 125 [v0, v1, v2] sk st Q = am_gt 193 128 [v0, v1, v2] sk st (fun pc lc sk st => am_g d X am_m6068 pc lc sk st Q) := am_gu.trans rfl
theorem u6068_128 {v0 : Value} {v1 : Value} {v2 : Value} : am_g d X am_m6068 128 [v0, v1, v2] (.ref o :: sk) st Q = ((am_ob st o 4 ∧ sk.length ≤ 4) ∧ am_Ca X d 4023 [.ref o] st (am_af am_m6068 128 [v0, v1, v2] sk (fun pc lc sk st => am_g d X am_m6068 pc lc sk st Q) Q)) := am_gu.trans rfl
theorem u6068_131 {v0 : Value} {v1 : Value} {v2 : Value} {x : Int32} : am_g d X am_m6068 131 [v0, v1, v2] [.int x] st Q = ((x = 0 ∨ x = 1) ∧ Q (.inl (some (.int x))) st) := am_gu.trans rfl
theorem u6068_132 {v1 : Value} {v2 : Value} {x : Nat} : am_g d X am_m6068 132 [.ref x, v1, v2] sk st Q = am_g d X am_m6068 133 [.ref x, v1, v2] (.ref x :: sk) st Q := am_gu.trans rfl
theorem u6068_133 {v0 : Value} {v1 : Value} {v2 : Value} : am_g d X am_m6068 133 [v0, v1, v2] sk st Q = am_gt 193 136 [v0, v1, v2] sk st (fun pc lc sk st => am_g d X am_m6068 pc lc sk st Q) := am_gu.trans rfl
theorem u6068_136 {v0 : Value} {v1 : Value} {x : Int32} : am_g d X am_m6068 136 [v0, v1, .int x] sk st Q = am_g d X am_m6068 137 [v0, v1, .int x] (.int x :: sk) st Q := am_gu.trans rfl
theorem u6068_137 {a0 : Value} {v0 : Value} {v1 : Value} {v2 : Value} : am_g d X am_m6068 137 [v0, v1, v2] (a0 :: .ref o :: sk) st Q = ((am_ob st o 4 ∧ sk.length ≤ 4) ∧ am_Ca X d 4014 [.ref o, a0] st (am_af am_m6068 137 [v0, v1, v2] sk (fun pc lc sk st => am_g d X am_m6068 pc lc sk st Q) Q)) := am_gu.trans rfl
theorem u6068_140 {v0 : Value} {v1 : Value} {v2 : Value} {x : Int32} : am_g d X am_m6068 140 [v0, v1, v2] [.int x] st Q = ((x = 0 ∨ x = 1) ∧ Q (.inl (some (.int x))) st) := am_gu.trans rfl
theorem u6068_141 {v1 : Value} {v2 : Value} {x : Nat} : am_g d X am_m6068 141 [.ref x, v1, v2] sk st Q = am_g d X am_m6068 142 [.ref x, v1, v2] (.ref x :: sk) st Q := am_gu.trans rfl
theorem u6068_142 {v0 : Value} {v1 : Value} {v2 : Value} : am_g d X am_m6068 142 [v0, v1, v2] sk st Q = am_gt 193 145 [v0, v1, v2] sk st (fun pc lc sk st => am_g d X am_m6068 pc lc sk st Q) := am_gu.trans rfl
theorem u6068_145 {v0 : Value} {v1 : Value} {x : Int32} : am_g d X am_m6068 145 [v0, v1, .int x] sk st Q = am_g d X am_m6068 146 [v0, v1, .int x] (.int x :: sk) st Q := am_gu.trans rfl
theorem u6068_146 {a0 : Value} {v0 : Value} {v1 : Value} {v2 : Value} : am_g d X am_m6068 146 [v0, v1, v2] (a0 :: .ref o :: sk) st Q = ((am_ob st o 4 ∧ sk.length ≤ 4) ∧ am_Ca X d 4016 [.ref o, a0] st (am_af am_m6068 146 [v0, v1, v2] sk (fun pc lc sk st => am_g d X am_m6068 pc lc sk st Q) Q)) := am_gu.trans rfl
theorem u6068_149 {v0 : Value} {v1 : Value} {v2 : Value} {x : Int32} : am_g d X am_m6068 149 [v0, v1, v2] [.int x] st Q = ((x = 0 ∨ x = 1) ∧ Q (.inl (some (.int x))) st) := am_gu.trans rfl
theorem u6068_150 {v1 : Value} {v2 : Value} {x : Nat} : am_g d X am_m6068 150 [.ref x, v1, v2] sk st Q = am_g d X am_m6068 151 [.ref x, v1, v2] (.ref x :: sk) st Q := am_gu.trans rfl
theorem u6068_151 {v0 : Value} {v1 : Value} {v2 : Value} : am_g d X am_m6068 151 [v0, v1, v2] sk st Q = am_gt 193 154 [v0, v1, v2] sk st (fun pc lc sk st => am_g d X am_m6068 pc lc sk st Q) := am_gu.trans rfl
theorem u6068_154 {v0 : Value} {v1 : Value} {x : Int32} : am_g d X am_m6068 154 [v0, v1, .int x] sk st Q = am_g d X am_m6068 155 [v0, v1, .int x] (.int x :: sk) st Q := am_gu.trans rfl
theorem u6068_155 {v0 : Value} {v1 : Value} {v2 : Value} : am_g d X am_m6068 155 [v0, v1, v2] sk st Q = am_g d X am_m6068 156 [v0, v1, v2] (.int (am_i 0) :: sk) st Q := am_gu.trans rfl
theorem u6068_156 {a0 : Value} {a1 : Value} {v0 : Value} {v1 : Value} {v2 : Value} : am_g d X am_m6068 156 [v0, v1, v2] (a1 :: a0 :: .ref o :: sk) st Q = ((am_ob st o 4 ∧ sk.length ≤ 4) ∧ am_Ca X d 4018 [.ref o, a0, a1] st (am_af am_m6068 156 [v0, v1, v2] sk (fun pc lc sk st => am_g d X am_m6068 pc lc sk st Q) Q)) := am_gu.trans rfl
theorem u6068_159 {v0 : Value} {v1 : Value} {v2 : Value} {x : Int32} : am_g d X am_m6068 159 [v0, v1, v2] [.int x] st Q = ((x = 0 ∨ x = 1) ∧ Q (.inl (some (.int x))) st) := am_gu.trans rfl
theorem u6068_160 {v1 : Value} {v2 : Value} {x : Nat} : am_g d X am_m6068 160 [.ref x, v1, v2] sk st Q = am_g d X am_m6068 161 [.ref x, v1, v2] (.ref x :: sk) st Q := am_gu.trans rfl
theorem u6068_161 {v0 : Value} {v1 : Value} {v2 : Value} : am_g d X am_m6068 161 [v0, v1, v2] sk st Q = am_gt 193 164 [v0, v1, v2] sk st (fun pc lc sk st => am_g d X am_m6068 pc lc sk st Q) := am_gu.trans rfl
theorem u6068_164 {v0 : Value} {v1 : Value} {x : Int32} : am_g d X am_m6068 164 [v0, v1, .int x] sk st Q = am_g d X am_m6068 165 [v0, v1, .int x] (.int x :: sk) st Q := am_gu.trans rfl
theorem u6068_165 {v0 : Value} {v1 : Value} {v2 : Value} : am_g d X am_m6068 165 [v0, v1, v2] sk st Q = am_g d X am_m6068 166 [v0, v1, v2] (.int (am_i 1) :: sk) st Q := am_gu.trans rfl
theorem u6068_166 {a0 : Value} {a1 : Value} {v0 : Value} {v1 : Value} {v2 : Value} : am_g d X am_m6068 166 [v0, v1, v2] (a1 :: a0 :: .ref o :: sk) st Q = ((am_ob st o 4 ∧ sk.length ≤ 4) ∧ am_Ca X d 4018 [.ref o, a0, a1] st (am_af am_m6068 166 [v0, v1, v2] sk (fun pc lc sk st => am_g d X am_m6068 pc lc sk st Q) Q)) := am_gu.trans rfl
theorem u6068_169 {v0 : Value} {v1 : Value} {v2 : Value} {x : Int32} : am_g d X am_m6068 169 [v0, v1, v2] [.int x] st Q = ((x = 0 ∨ x = 1) ∧ Q (.inl (some (.int x))) st) := am_gu.trans rfl
theorem u6068_170 {v0 : Value} {v1 : Value} {v2 : Value} : am_g d X am_m6068 170 [v0, v1, v2] sk st Q = am_g d X am_m6068 171 [v0, v1, v2] (.int (am_i 1) :: sk) st Q := am_gu.trans rfl
theorem u6068_171 {v0 : Value} {v1 : Value} {v2 : Value} {x : Int32} : am_g d X am_m6068 171 [v0, v1, v2] [.int x] st Q = ((x = 0 ∨ x = 1) ∧ Q (.inl (some (.int x))) st) := am_gu.trans rfl
set_option maxRecDepth 100000 in
theorem of_6069 : am_of 6069 = some am_m6069 := rfl
theorem c6069 {z a0} {P : am_Q} : am_Ca X (d + 1) 6069 [.ref z, .int a0] st P = am_g d X am_m6069 0 [.ref z, .int a0, am_u, am_u] [] st P := am_cg of_6069 (by show 2 ≤ 4; decide)
theorem hd_6069 : am_hd am_m6069 = [] := rfl
theorem u6069_0 {v1 : Value} {v2 : Value} {v3 : Value} {x : Nat} : am_g d X am_m6069 0 [.ref x, v1, v2, v3] sk st Q = am_g d X am_m6069 1 [.ref x, v1, v2, v3] (.ref x :: sk) st Q := am_gu.trans rfl
theorem u6069_1 {v0 : Value} {v1 : Value} {v2 : Value} {v3 : Value} : am_g d X am_m6069 1 [v0, v1, v2, v3] sk st Q = am_gt 192 4 [v0, v1, v2, v3] sk st (fun pc lc sk st => am_g d X am_m6069 pc lc sk st Q) := am_gu.trans rfl
theorem u6069_4 {v0 : Value} {v2 : Value} {v3 : Value} {x : Int32} : am_g d X am_m6069 4 [v0, .int x, v2, v3] sk st Q = am_g d X am_m6069 5 [v0, .int x, v2, v3] (.int x :: sk) st Q := am_gu.trans rfl
theorem u6069_5 {v0 : Value} {v1 : Value} {v2 : Value} {v3 : Value} : am_g d X am_m6069 5 [v0, v1, v2, v3] sk st Q = am_g d X am_m6069 6 [v0, v1, v2, v3] (.int (am_i 1) :: sk) st Q := am_gu.trans rfl
theorem u6069_6 {v0 : Value} {v1 : Value} {v2 : Value} {v3 : Value} {x : Int32} {y : Int32} : am_g d X am_m6069 6 [v0, v1, v2, v3] (.int y :: .int x :: sk) st Q = am_g d X am_m6069 7 [v0, v1, v2, v3] (.int (x + y) :: sk) st Q := am_gu.trans rfl
theorem u6069_7 {a0 : Value} {v0 : Value} {v1 : Value} {v2 : Value} {v3 : Value} : am_g d X am_m6069 7 [v0, v1, v2, v3] (a0 :: .ref o :: sk) st Q = ((am_ob st o 2 ∧ sk.length ≤ 4) ∧ am_Ca X d 2009 [.ref o, a0] st (am_af am_m6069 7 [v0, v1, v2, v3] sk (fun pc lc sk st => am_g d X am_m6069 pc lc sk st Q) Q)) := am_gu.trans rfl
theorem u6069_10 {v0 : Value} {v1 : Value} {v2 : Value} {v3 : Value} {x : Int32} : am_g d X am_m6069 10 [v0, v1, v2, v3] (.int x :: sk) st Q = am_g d X am_m6069 11 [v0, am_kc v1, .int x, v3] sk st Q := am_gu.trans (congrArg (fun l => am_g d X am_m6069 11 (List.set l 2 (.int x)) sk st Q) (kl_2 (l := [v2, v3])))
theorem u6069_11 {v1 : Value} {v2 : Value} {v3 : Value} {x : Nat} : am_g d X am_m6069 11 [.ref x, v1, v2, v3] sk st Q = am_g d X am_m6069 12 [.ref x, v1, v2, v3] (.ref x :: sk) st Q := am_gu.trans rfl
theorem u6069_12 {v0 : Value} {v1 : Value} {v2 : Value} {v3 : Value} : am_g d X am_m6069 12 [v0, v1, v2, v3] sk st Q = am_gt 192 15 [v0, v1, v2, v3] sk st (fun pc lc sk st => am_g d X am_m6069 pc lc sk st Q) := am_gu.trans rfl
theorem u6069_15 {v0 : Value} {v2 : Value} {v3 : Value} {x : Int32} : am_g d X am_m6069 15 [v0, .int x, v2, v3] sk st Q = am_g d X am_m6069 16 [v0, .int x, v2, v3] (.int x :: sk) st Q := am_gu.trans rfl
theorem u6069_16 {a0 : Value} {v0 : Value} {v1 : Value} {v2 : Value} {v3 : Value} : am_g d X am_m6069 16 [v0, v1, v2, v3] (a0 :: .ref o :: sk) st Q = ((am_ob st o 2 ∧ sk.length ≤ 4) ∧ am_Ca X d 2006 [.ref o, a0] st (am_af am_m6069 16 [v0, v1, v2, v3] sk (fun pc lc sk st => am_g d X am_m6069 pc lc sk st Q) Q)) := am_gu.trans rfl
theorem u6069_19 {v0 : Value} {v1 : Value} {v2 : Value} {v3 : Value} : am_g d X am_m6069 19 [v0, v1, v2, v3] sk st Q = am_ts 191 97 115 #[130, 119, 108, 191, 191, 191, 191, 191, 191, 191, 191, 191, 153, 191, 191, 165, 191, 178, 141] [v0, v1, v2, v3] sk st (fun pc lc sk st => am_g d X am_m6069 pc lc sk st Q) := am_gu.trans rfl
theorem u6069_108 {v1 : Value} {v2 : Value} {v3 : Value} {x : Nat} : am_g d X am_m6069 108 [.ref x, v1, v2, v3] sk st Q = am_g d X am_m6069 109 [.ref x, v1, v2, v3] (.ref x :: sk) st Q := am_gu.trans rfl
theorem u6069_109 {v0 : Value} {v1 : Value} {v2 : Value} {v3 : Value} : am_g d X am_m6069 109 [v0, v1, v2, v3] sk st Q = am_gt 193 112 [v0, v1, v2, v3] sk st (fun pc lc sk st => am_g d X am_m6069 pc lc sk st Q) := am_gu.trans rfl
theorem u6069_112 {v0 : Value} {v1 : Value} {v2 : Value} {v3 : Value} : am_g d X am_m6069 112 [v0, v1, v2, v3] (.ref o :: sk) st Q = ((am_ob st o 4 ∧ sk.length ≤ 4) ∧ am_Ca X d 4004 [.ref o] st (am_af am_m6069 112 [v0, v1, v2, v3] sk (fun pc lc sk st => am_g d X am_m6069 pc lc sk st Q) Q)) := am_gu.trans rfl
theorem u6069_115i {v0 : Value} {v1 : Value} {v2 : Value} {v3 : Value} {x : Int32} : am_g d X am_m6069 115 [v0, v1, v2, v3] (.int x :: sk) st Q = am_g d X am_m6069 116 [v0, v1, v2, v3] sk st Q := am_gu.trans rfl
theorem u6069_115r {v0 : Value} {v1 : Value} {v2 : Value} {v3 : Value} {x : Nat} : am_g d X am_m6069 115 [v0, v1, v2, v3] (.ref x :: sk) st Q = am_g d X am_m6069 116 [v0, v1, v2, v3] sk st Q := am_gu.trans rfl
theorem u6069_116 {v0 : Value} {v1 : Value} {v2 : Value} {v3 : Value} : am_g d X am_m6069 116 [v0, v1, v2, v3] sk st Q = am_g d X am_m6069 232 [v0, v1, v2, v3] sk st Q := am_gu.trans rfl
theorem u6069_119 {v1 : Value} {v2 : Value} {v3 : Value} {x : Nat} : am_g d X am_m6069 119 [.ref x, v1, v2, v3] sk st Q = am_g d X am_m6069 120 [.ref x, v1, v2, v3] (.ref x :: sk) st Q := am_gu.trans rfl
theorem u6069_120 {v0 : Value} {v1 : Value} {v2 : Value} {v3 : Value} : am_g d X am_m6069 120 [v0, v1, v2, v3] sk st Q = am_gt 193 123 [v0, v1, v2, v3] sk st (fun pc lc sk st => am_g d X am_m6069 pc lc sk st Q) := am_gu.trans rfl
theorem u6069_123 {v0 : Value} {v1 : Value} {v2 : Value} {v3 : Value} : am_g d X am_m6069 123 [v0, v1, v2, v3] (.ref o :: sk) st Q = ((am_ob st o 4 ∧ sk.length ≤ 4) ∧ am_Ca X d 4011 [.ref o] st (am_af am_m6069 123 [v0, v1, v2, v3] sk (fun pc lc sk st => am_g d X am_m6069 pc lc sk st Q) Q)) := am_gu.trans rfl
theorem u6069_126i {v0 : Value} {v1 : Value} {v2 : Value} {v3 : Value} {x : Int32} : am_g d X am_m6069 126 [v0, v1, v2, v3] (.int x :: sk) st Q = am_g d X am_m6069 127 [v0, v1, v2, v3] sk st Q := am_gu.trans rfl
theorem u6069_126r {v0 : Value} {v1 : Value} {v2 : Value} {v3 : Value} {x : Nat} : am_g d X am_m6069 126 [v0, v1, v2, v3] (.ref x :: sk) st Q = am_g d X am_m6069 127 [v0, v1, v2, v3] sk st Q := am_gu.trans rfl
theorem u6069_127 {v0 : Value} {v1 : Value} {v2 : Value} {v3 : Value} : am_g d X am_m6069 127 [v0, v1, v2, v3] sk st Q = am_g d X am_m6069 232 [v0, v1, v2, v3] sk st Q := am_gu.trans rfl
theorem u6069_130 {v1 : Value} {v2 : Value} {v3 : Value} {x : Nat} : am_g d X am_m6069 130 [.ref x, v1, v2, v3] sk st Q = am_g d X am_m6069 131 [.ref x, v1, v2, v3] (.ref x :: sk) st Q := am_gu.trans rfl
theorem u6069_131 {v0 : Value} {v1 : Value} {v2 : Value} {v3 : Value} : am_g d X am_m6069 131 [v0, v1, v2, v3] sk st Q = am_gt 193 134 [v0, v1, v2, v3] sk st (fun pc lc sk st => am_g d X am_m6069 pc lc sk st Q) := am_gu.trans rfl
theorem u6069_134 {v0 : Value} {v1 : Value} {v2 : Value} {v3 : Value} : am_g d X am_m6069 134 [v0, v1, v2, v3] (.ref o :: sk) st Q = ((am_ob st o 4 ∧ sk.length ≤ 4) ∧ am_Ca X d 4024 [.ref o] st (am_af am_m6069 134 [v0, v1, v2, v3] sk (fun pc lc sk st => am_g d X am_m6069 pc lc sk st Q) Q)) := am_gu.trans rfl
theorem u6069_137i {v0 : Value} {v1 : Value} {v2 : Value} {v3 : Value} {x : Int32} : am_g d X am_m6069 137 [v0, v1, v2, v3] (.int x :: sk) st Q = am_g d X am_m6069 138 [v0, v1, v2, v3] sk st Q := am_gu.trans rfl
theorem u6069_137r {v0 : Value} {v1 : Value} {v2 : Value} {v3 : Value} {x : Nat} : am_g d X am_m6069 137 [v0, v1, v2, v3] (.ref x :: sk) st Q = am_g d X am_m6069 138 [v0, v1, v2, v3] sk st Q := am_gu.trans rfl
theorem u6069_138 {v0 : Value} {v1 : Value} {v2 : Value} {v3 : Value} : am_g d X am_m6069 138 [v0, v1, v2, v3] sk st Q = am_g d X am_m6069 232 [v0, v1, v2, v3] sk st Q := am_gu.trans rfl
theorem u6069_141 {v1 : Value} {v2 : Value} {v3 : Value} {x : Nat} : am_g d X am_m6069 141 [.ref x, v1, v2, v3] sk st Q = am_g d X am_m6069 142 [.ref x, v1, v2, v3] (.ref x :: sk) st Q := am_gu.trans rfl
theorem u6069_142 {v0 : Value} {v1 : Value} {v2 : Value} {v3 : Value} : am_g d X am_m6069 142 [v0, v1, v2, v3] sk st Q = am_gt 193 145 [v0, v1, v2, v3] sk st (fun pc lc sk st => am_g d X am_m6069 pc lc sk st Q) := am_gu.trans rfl
theorem u6069_145 {v0 : Value} {v1 : Value} {v3 : Value} {x : Int32} : am_g d X am_m6069 145 [v0, v1, .int x, v3] sk st Q = am_g d X am_m6069 146 [v0, v1, .int x, v3] (.int x :: sk) st Q := am_gu.trans rfl
theorem u6069_146 {a0 : Value} {v0 : Value} {v1 : Value} {v2 : Value} {v3 : Value} : am_g d X am_m6069 146 [v0, v1, v2, v3] (a0 :: .ref o :: sk) st Q = ((am_ob st o 4 ∧ sk.length ≤ 4) ∧ am_Ca X d 4015 [.ref o, a0] st (am_af am_m6069 146 [v0, v1, v2, v3] sk (fun pc lc sk st => am_g d X am_m6069 pc lc sk st Q) Q)) := am_gu.trans rfl
theorem u6069_149i {v0 : Value} {v1 : Value} {v2 : Value} {v3 : Value} {x : Int32} : am_g d X am_m6069 149 [v0, v1, v2, v3] (.int x :: sk) st Q = am_g d X am_m6069 150 [v0, v1, v2, v3] sk st Q := am_gu.trans rfl
theorem u6069_149r {v0 : Value} {v1 : Value} {v2 : Value} {v3 : Value} {x : Nat} : am_g d X am_m6069 149 [v0, v1, v2, v3] (.ref x :: sk) st Q = am_g d X am_m6069 150 [v0, v1, v2, v3] sk st Q := am_gu.trans rfl
theorem u6069_150 {v0 : Value} {v1 : Value} {v2 : Value} {v3 : Value} : am_g d X am_m6069 150 [v0, v1, v2, v3] sk st Q = am_g d X am_m6069 232 [v0, v1, v2, v3] sk st Q := am_gu.trans rfl
theorem u6069_153 {v1 : Value} {v2 : Value} {v3 : Value} {x : Nat} : am_g d X am_m6069 153 [.ref x, v1, v2, v3] sk st Q = am_g d X am_m6069 154 [.ref x, v1, v2, v3] (.ref x :: sk) st Q := am_gu.trans rfl
theorem u6069_154 {v0 : Value} {v1 : Value} {v2 : Value} {v3 : Value} : am_g d X am_m6069 154 [v0, v1, v2, v3] sk st Q = am_gt 193 157 [v0, v1, v2, v3] sk st (fun pc lc sk st => am_g d X am_m6069 pc lc sk st Q) := am_gu.trans rfl
theorem u6069_157 {v0 : Value} {v1 : Value} {v3 : Value} {x : Int32} : am_g d X am_m6069 157 [v0, v1, .int x, v3] sk st Q = am_g d X am_m6069 158 [v0, v1, .int x, v3] (.int x :: sk) st Q := am_gu.trans rfl
theorem u6069_158 {a0 : Value} {v0 : Value} {v1 : Value} {v2 : Value} {v3 : Value} : am_g d X am_m6069 158 [v0, v1, v2, v3] (a0 :: .ref o :: sk) st Q = ((am_ob st o 4 ∧ sk.length ≤ 4) ∧ am_Ca X d 4017 [.ref o, a0] st (am_af am_m6069 158 [v0, v1, v2, v3] sk (fun pc lc sk st => am_g d X am_m6069 pc lc sk st Q) Q)) := am_gu.trans rfl
theorem u6069_161i {v0 : Value} {v1 : Value} {v2 : Value} {v3 : Value} {x : Int32} : am_g d X am_m6069 161 [v0, v1, v2, v3] (.int x :: sk) st Q = am_g d X am_m6069 162 [v0, v1, v2, v3] sk st Q := am_gu.trans rfl
theorem u6069_161r {v0 : Value} {v1 : Value} {v2 : Value} {v3 : Value} {x : Nat} : am_g d X am_m6069 161 [v0, v1, v2, v3] (.ref x :: sk) st Q = am_g d X am_m6069 162 [v0, v1, v2, v3] sk st Q := am_gu.trans rfl
theorem u6069_162 {v0 : Value} {v1 : Value} {v2 : Value} {v3 : Value} : am_g d X am_m6069 162 [v0, v1, v2, v3] sk st Q = am_g d X am_m6069 232 [v0, v1, v2, v3] sk st Q := am_gu.trans rfl
theorem u6069_165 {v1 : Value} {v2 : Value} {v3 : Value} {x : Nat} : am_g d X am_m6069 165 [.ref x, v1, v2, v3] sk st Q = am_g d X am_m6069 166 [.ref x, v1, v2, v3] (.ref x :: sk) st Q := am_gu.trans rfl
theorem u6069_166 {v0 : Value} {v1 : Value} {v2 : Value} {v3 : Value} : am_g d X am_m6069 166 [v0, v1, v2, v3] sk st Q = am_gt 193 169 [v0, v1, v2, v3] sk st (fun pc lc sk st => am_g d X am_m6069 pc lc sk st Q) := am_gu.trans rfl
theorem u6069_169 {v0 : Value} {v1 : Value} {v3 : Value} {x : Int32} : am_g d X am_m6069 169 [v0, v1, .int x, v3] sk st Q = am_g d X am_m6069 170 [v0, v1, .int x, v3] (.int x :: sk) st Q := am_gu.trans rfl
theorem u6069_170 {v0 : Value} {v1 : Value} {v2 : Value} {v3 : Value} : am_g d X am_m6069 170 [v0, v1, v2, v3] sk st Q = am_g d X am_m6069 171 [v0, v1, v2, v3] (.int (am_i 0) :: sk) st Q := am_gu.trans rfl
theorem u6069_171 {a0 : Value} {a1 : Value} {v0 : Value} {v1 : Value} {v2 : Value} {v3 : Value} : am_g d X am_m6069 171 [v0, v1, v2, v3] (a1 :: a0 :: .ref o :: sk) st Q = ((am_ob st o 4 ∧ sk.length ≤ 4) ∧ am_Ca X d 4019 [.ref o, a0, a1] st (am_af am_m6069 171 [v0, v1, v2, v3] sk (fun pc lc sk st => am_g d X am_m6069 pc lc sk st Q) Q)) := am_gu.trans rfl
theorem u6069_174i {v0 : Value} {v1 : Value} {v2 : Value} {v3 : Value} {x : Int32} : am_g d X am_m6069 174 [v0, v1, v2, v3] (.int x :: sk) st Q = am_g d X am_m6069 175 [v0, v1, v2, v3] sk st Q := am_gu.trans rfl
theorem u6069_174r {v0 : Value} {v1 : Value} {v2 : Value} {v3 : Value} {x : Nat} : am_g d X am_m6069 174 [v0, v1, v2, v3] (.ref x :: sk) st Q = am_g d X am_m6069 175 [v0, v1, v2, v3] sk st Q := am_gu.trans rfl
theorem u6069_175 {v0 : Value} {v1 : Value} {v2 : Value} {v3 : Value} : am_g d X am_m6069 175 [v0, v1, v2, v3] sk st Q = am_g d X am_m6069 232 [v0, v1, v2, v3] sk st Q := am_gu.trans rfl
theorem u6069_178 {v1 : Value} {v2 : Value} {v3 : Value} {x : Nat} : am_g d X am_m6069 178 [.ref x, v1, v2, v3] sk st Q = am_g d X am_m6069 179 [.ref x, v1, v2, v3] (.ref x :: sk) st Q := am_gu.trans rfl
theorem u6069_179 {v0 : Value} {v1 : Value} {v2 : Value} {v3 : Value} : am_g d X am_m6069 179 [v0, v1, v2, v3] sk st Q = am_gt 193 182 [v0, v1, v2, v3] sk st (fun pc lc sk st => am_g d X am_m6069 pc lc sk st Q) := am_gu.trans rfl
theorem u6069_182 {v0 : Value} {v1 : Value} {v3 : Value} {x : Int32} : am_g d X am_m6069 182 [v0, v1, .int x, v3] sk st Q = am_g d X am_m6069 183 [v0, v1, .int x, v3] (.int x :: sk) st Q := am_gu.trans rfl
theorem u6069_183 {v0 : Value} {v1 : Value} {v2 : Value} {v3 : Value} : am_g d X am_m6069 183 [v0, v1, v2, v3] sk st Q = am_g d X am_m6069 184 [v0, v1, v2, v3] (.int (am_i 1) :: sk) st Q := am_gu.trans rfl
theorem u6069_184 {a0 : Value} {a1 : Value} {v0 : Value} {v1 : Value} {v2 : Value} {v3 : Value} : am_g d X am_m6069 184 [v0, v1, v2, v3] (a1 :: a0 :: .ref o :: sk) st Q = ((am_ob st o 4 ∧ sk.length ≤ 4) ∧ am_Ca X d 4019 [.ref o, a0, a1] st (am_af am_m6069 184 [v0, v1, v2, v3] sk (fun pc lc sk st => am_g d X am_m6069 pc lc sk st Q) Q)) := am_gu.trans rfl
theorem u6069_187i {v0 : Value} {v1 : Value} {v2 : Value} {v3 : Value} {x : Int32} : am_g d X am_m6069 187 [v0, v1, v2, v3] (.int x :: sk) st Q = am_g d X am_m6069 188 [v0, v1, v2, v3] sk st Q := am_gu.trans rfl
theorem u6069_187r {v0 : Value} {v1 : Value} {v2 : Value} {v3 : Value} {x : Nat} : am_g d X am_m6069 187 [v0, v1, v2, v3] (.ref x :: sk) st Q = am_g d X am_m6069 188 [v0, v1, v2, v3] sk st Q := am_gu.trans rfl
theorem u6069_188 {v0 : Value} {v1 : Value} {v2 : Value} {v3 : Value} : am_g d X am_m6069 188 [v0, v1, v2, v3] sk st Q = am_g d X am_m6069 232 [v0, v1, v2, v3] sk st Q := am_gu.trans rfl
theorem u6069_191 {v1 : Value} {v2 : Value} {v3 : Value} {x : Nat} : am_g d X am_m6069 191 [.ref x, v1, v2, v3] sk st Q = am_g d X am_m6069 192 [.ref x, v1, v2, v3] (.ref x :: sk) st Q := am_gu.trans rfl
theorem u6069_192 {v0 : Value} {v1 : Value} {v2 : Value} {v3 : Value} : am_g d X am_m6069 192 [v0, v1, v2, v3] sk st Q = am_gt 192 195 [v0, v1, v2, v3] sk st (fun pc lc sk st => am_g d X am_m6069 pc lc sk st Q) := am_gu.trans rfl
theorem u6069_195 {v0 : Value} {v2 : Value} {v3 : Value} {x : Int32} : am_g d X am_m6069 195 [v0, .int x, v2, v3] sk st Q = am_g d X am_m6069 196 [v0, .int x, v2, v3] (.int x :: sk) st Q := am_gu.trans rfl
theorem u6069_196 {a0 : Value} {v0 : Value} {v1 : Value} {v2 : Value} {v3 : Value} : am_g d X am_m6069 196 [v0, v1, v2, v3] (a0 :: .ref o :: sk) st Q = ((am_ob st o 2 ∧ sk.length ≤ 4) ∧ am_Ca X d 2009 [.ref o, a0] st (am_af am_m6069 196 [v0, v1, v2, v3] sk (fun pc lc sk st => am_g d X am_m6069 pc lc sk st Q) Q)) := am_gu.trans rfl
theorem u6069_199 {v1 : Value} {v2 : Value} {v3 : Value} {x : Nat} : am_g d X am_m6069 199 [.ref x, v1, v2, v3] sk st Q = am_g d X am_m6069 200 [.ref x, v1, v2, v3] (.ref x :: sk) st Q := am_gu.trans rfl
theorem u6069_200 {v0 : Value} {v1 : Value} {v2 : Value} {v3 : Value} : am_g d X am_m6069 200 [v0, v1, v2, v3] sk st Q = am_gt 192 203 [v0, v1, v2, v3] sk st (fun pc lc sk st => am_g d X am_m6069 pc lc sk st Q) := am_gu.trans rfl
theorem u6069_203 {v0 : Value} {v2 : Value} {v3 : Value} {x : Int32} : am_g d X am_m6069 203 [v0, .int x, v2, v3] sk st Q = am_g d X am_m6069 204 [v0, .int x, v2, v3] (.int x :: sk) st Q := am_gu.trans rfl
theorem u6069_204 {v0 : Value} {v1 : Value} {v2 : Value} {v3 : Value} : am_g d X am_m6069 204 [v0, v1, v2, v3] sk st Q = am_g d X am_m6069 205 [v0, v1, v2, v3] (.int (am_i 2) :: sk) st Q := am_gu.trans rfl
theorem u6069_205 {v0 : Value} {v1 : Value} {v2 : Value} {v3 : Value} {x : Int32} {y : Int32} : am_g d X am_m6069 205 [v0, v1, v2, v3] (.int y :: .int x :: sk) st Q = am_g d X am_m6069 206 [v0, v1, v2, v3] (.int (x + y) :: sk) st Q := am_gu.trans rfl
theorem u6069_206 {a0 : Value} {v0 : Value} {v1 : Value} {v2 : Value} {v3 : Value} : am_g d X am_m6069 206 [v0, v1, v2, v3] (a0 :: .ref o :: sk) st Q = ((am_ob st o 2 ∧ sk.length ≤ 4) ∧ am_Ca X d 2009 [.ref o, a0] st (am_af am_m6069 206 [v0, v1, v2, v3] sk (fun pc lc sk st => am_g d X am_m6069 pc lc sk st Q) Q)) := am_gu.trans rfl
theorem u6069_209 {a0 : Value} {a1 : Value} {v0 : Value} {v1 : Value} {v2 : Value} {v3 : Value} : am_g d X am_m6069 209 [v0, v1, v2, v3] (a1 :: a0 :: sk) st Q = (sk.length ≤ 4 ∧ am_Ca X d 6061 [a0, a1] st (am_af am_m6069 209 [v0, v1, v2, v3] sk (fun pc lc sk st => am_g d X am_m6069 pc lc sk st Q) Q)) := am_gu.trans (propext ⟨fun h => ⟨h.1.2, h.2⟩, fun h => ⟨⟨Nat.le_add_left _ _, h.1⟩, h.2⟩⟩)
theorem u6069_212 {v0 : Value} {v1 : Value} {v2 : Value} {v3 : Value} {x : Int32} : am_g d X am_m6069 212 [v0, v1, v2, v3] (.int x :: sk) st Q = am_g d X am_m6069 213 [v0, v1, am_kc v2, .int x] sk st Q := am_gu.trans (congrArg (fun l => am_g d X am_m6069 213 (List.set l 3 (.int x)) sk st Q) (kl_3 (l := [v3])))
theorem u6069_213 {v1 : Value} {v2 : Value} {v3 : Value} {x : Nat} : am_g d X am_m6069 213 [.ref x, v1, v2, v3] sk st Q = am_g d X am_m6069 214 [.ref x, v1, v2, v3] (.ref x :: sk) st Q := am_gu.trans rfl
theorem u6069_214 {v0 : Value} {v1 : Value} {v2 : Value} {v3 : Value} : am_g d X am_m6069 214 [v0, v1, v2, v3] sk st Q = am_gt 193 217 [v0, v1, v2, v3] sk st (fun pc lc sk st => am_g d X am_m6069 pc lc sk st Q) := am_gu.trans rfl
theorem u6069_217 {v0 : Value} {v1 : Value} {v2 : Value} {x : Int32} : am_g d X am_m6069 217 [v0, v1, v2, .int x] sk st Q = am_g d X am_m6069 218 [v0, v1, v2, .int x] (.int x :: sk) st Q := am_gu.trans rfl
theorem u6069_218 {v1 : Value} {v2 : Value} {v3 : Value} {x : Nat} : am_g d X am_m6069 218 [.ref x, v1, v2, v3] sk st Q = am_g d X am_m6069 219 [.ref x, v1, v2, v3] (.ref x :: sk) st Q := am_gu.trans rfl
theorem u6069_219 {v0 : Value} {v1 : Value} {v2 : Value} {v3 : Value} : am_g d X am_m6069 219 [v0, v1, v2, v3] sk st Q = am_gt 192 222 [v0, v1, v2, v3] sk st (fun pc lc sk st => am_g d X am_m6069 pc lc sk st Q) := am_gu.trans rfl
theorem u6069_222 {v0 : Value} {v2 : Value} {v3 : Value} {x : Int32} : am_g d X am_m6069 222 [v0, .int x, v2, v3] sk st Q = am_g d X am_m6069 223 [v0, .int x, v2, v3] (.int x :: sk) st Q := am_gu.trans rfl
theorem u6069_223 {v0 : Value} {v1 : Value} {v2 : Value} {v3 : Value} : am_g d X am_m6069 223 [v0, v1, v2, v3] sk st Q = am_g d X am_m6069 224 [v0, v1, v2, v3] (.int (am_i 4) :: sk) st Q := am_gu.trans rfl
theorem u6069_224 {v0 : Value} {v1 : Value} {v2 : Value} {v3 : Value} {x : Int32} {y : Int32} : am_g d X am_m6069 224 [v0, v1, v2, v3] (.int y :: .int x :: sk) st Q = am_g d X am_m6069 225 [v0, v1, v2, v3] (.int (x + y) :: sk) st Q := am_gu.trans rfl
theorem u6069_225 {a0 : Value} {v0 : Value} {v1 : Value} {v2 : Value} {v3 : Value} : am_g d X am_m6069 225 [v0, v1, v2, v3] (a0 :: .ref o :: sk) st Q = ((am_ob st o 2 ∧ sk.length ≤ 4) ∧ am_Ca X d 2009 [.ref o, a0] st (am_af am_m6069 225 [v0, v1, v2, v3] sk (fun pc lc sk st => am_g d X am_m6069 pc lc sk st Q) Q)) := am_gu.trans rfl
theorem u6069_228 {a0 : Value} {a1 : Value} {v0 : Value} {v1 : Value} {v2 : Value} {v3 : Value} : am_g d X am_m6069 228 [v0, v1, v2, v3] (a1 :: a0 :: .ref o :: sk) st Q = ((am_ob st o 4 ∧ sk.length ≤ 4) ∧ am_Ca X d 4002 [.ref o, a0, a1] st (am_af am_m6069 228 [v0, v1, v2, v3] sk (fun pc lc sk st => am_g d X am_m6069 pc lc sk st Q) Q)) := am_gu.trans rfl
theorem u6069_231i {v0 : Value} {v1 : Value} {v2 : Value} {v3 : Value} {x : Int32} : am_g d X am_m6069 231 [v0, v1, v2, v3] (.int x :: sk) st Q = am_g d X am_m6069 232 [v0, v1, v2, v3] sk st Q := am_gu.trans rfl
theorem u6069_231r {v0 : Value} {v1 : Value} {v2 : Value} {v3 : Value} {x : Nat} : am_g d X am_m6069 231 [v0, v1, v2, v3] (.ref x :: sk) st Q = am_g d X am_m6069 232 [v0, v1, v2, v3] sk st Q := am_gu.trans rfl
theorem u6069_232 {v0 : Value} {v1 : Value} {v2 : Value} {v3 : Value} : am_g d X am_m6069 232 [v0, v1, v2, v3] [] st Q = Q (.inl none) st := am_gu.trans rfl
set_option maxRecDepth 100000 in
theorem of_9000 : am_of 9000 = some am_m9000 := rfl
theorem c9000 {a0 a1} {P : am_Q} : am_Ca X (d + 1) 9000 [.ref a0, .int a1] st P = am_g d X am_m9000 0 [.ref a0, .int a1, am_u, am_u] [] st P := am_cg of_9000 (by show 2 ≤ 4; decide)
theorem hd_9000 : am_hd am_m9000 = [] := rfl
theorem u9000_0 {v0 : Value} {v1 : Value} {v2 : Value} {v3 : Value} : am_g d X am_m9000 0 [v0, v1, v2, v3] sk st Q = am_g d X am_m9000 1 [v0, v1, v2, v3] (.int (am_i 0) :: sk) st Q := am_gu.trans rfl
theorem u9000_1 {v0 : Value} {v1 : Value} {v2 : Value} {v3 : Value} {x : Int32} : am_g d X am_m9000 1 [v0, v1, v2, v3] (.int x :: sk) st Q = am_g d X am_m9000 2 [v0, am_kc v1, .int x, v3] sk st Q := am_gu.trans (congrArg (fun l => am_g d X am_m9000 2 (List.set l 2 (.int x)) sk st Q) (kl_2 (l := [v2, v3])))
theorem u9000_2 {v1 : Value} {v2 : Value} {v3 : Value} {x : Nat} : am_g d X am_m9000 2 [.ref x, v1, v2, v3] sk st Q = am_g d X am_m9000 3 [.ref x, v1, v2, v3] (.ref x :: sk) st Q := am_gu.trans rfl
theorem u9000_3 {v0 : Value} {v1 : Value} {v2 : Value} {v3 : Value} : am_g d X am_m9000 3 [v0, v1, v2, v3] sk st Q = am_al (X.1, X.2.1, d) am_m9000 4 [v0, v1, v2, v3] sk st (fun pc lc sk st => am_g d X am_m9000 pc lc sk st Q) := am_gu.trans rfl
theorem u9000_4 {v0 : Value} {v1 : Value} {v2 : Value} {v3 : Value} {x : Int32} : am_g d X am_m9000 4 [v0, v1, v2, v3] (.int x :: sk) st Q = am_g d X am_m9000 5 [v0, v1, am_kc v2, .int x] sk st Q := am_gu.trans (congrArg (fun l => am_g d X am_m9000 5 (List.set l 3 (.int x)) sk st Q) (kl_3 (l := [v3])))
theorem u9000_5 {v0 : Value} {v1 : Value} {v3 : Value} {x : Int32} : am_g d X am_m9000 5 [v0, v1, .int x, v3] sk st Q = am_g d X am_m9000 6 [v0, v1, .int x, v3] (.int x :: sk) st Q := am_gu.trans rfl
theorem u9000_6 {v0 : Value} {v1 : Value} {v2 : Value} {x : Int32} : am_g d X am_m9000 6 [v0, v1, v2, .int x] sk st Q = am_g d X am_m9000 7 [v0, v1, v2, .int x] (.int x :: sk) st Q := am_gu.trans rfl
theorem u9000_7 {v0 : Value} {v1 : Value} {v2 : Value} {v3 : Value} {x : Int32} {y : Int32} : am_g d X am_m9000 7 [v0, v1, v2, v3] (.int y :: .int x :: sk) st Q = (if decide (y ≤ x) = true then am_g d X am_m9000 20 [v0, v1, v2, v3] sk st Q else am_g d X am_m9000 10 [v0, v1, v2, v3] sk st Q) := am_gu.trans rfl
theorem u9000_10 {v1 : Value} {v2 : Value} {v3 : Value} {x : Nat} : am_g d X am_m9000 10 [.ref x, v1, v2, v3] sk st Q = am_g d X am_m9000 11 [.ref x, v1, v2, v3] (.ref x :: sk) st Q := am_gu.trans rfl
theorem u9000_11 {v0 : Value} {v1 : Value} {v3 : Value} {x : Int32} : am_g d X am_m9000 11 [v0, v1, .int x, v3] sk st Q = am_g d X am_m9000 12 [v0, v1, .int x, v3] (.int x :: sk) st Q := am_gu.trans rfl
theorem u9000_12 {v0 : Value} {v2 : Value} {v3 : Value} {x : Int32} : am_g d X am_m9000 12 [v0, .int x, v2, v3] sk st Q = am_g d X am_m9000 13 [v0, .int x, v2, v3] (.int x :: sk) st Q := am_gu.trans rfl
theorem u9000_13 {v0 : Value} {v1 : Value} {v2 : Value} {v3 : Value} : am_g d X am_m9000 13 [v0, v1, v2, v3] sk st Q = am_xs 14 [v0, v1, v2, v3] sk st (fun pc lc sk st => am_g d X am_m9000 pc lc sk st Q) := am_gu.trans rfl
theorem u9000_14 {v0 : Value} {v1 : Value} {v3 : Value} {x : Int32} : am_g d X am_m9000 14 [v0, v1, .int x, v3] sk st Q = am_g d X am_m9000 17 [v0, am_kc v1, .int (x + am_i 1), v3] sk st Q := am_gu.trans (congrArg (fun l => am_g d X am_m9000 17 (List.set l 2 (.int (x + am_i 1))) sk st Q) (kl_2 (l := [.int x, v3])))
theorem u9000_17 {v0 : Value} {v1 : Value} {v2 : Value} {v3 : Value} : am_g d X am_m9000 17 [v0, v1, v2, v3] sk st Q = am_g d X am_m9000 5 [v0, v1, v2, v3] sk st Q := am_gu.trans rfl
theorem u9000_20 {v0 : Value} {v1 : Value} {v2 : Value} {v3 : Value} : am_g d X am_m9000 20 [v0, v1, v2, v3] [] st Q = Q (.inl none) st := am_gu.trans rfl
end UU
