/-! each instruction as a rewriting row -/
section UU
variable {d o n cl sl : Nat} {X : am_X} {sk : List Value} {st : am_S} {Q : am_Q} {sh : Nat → am_D} {F A : Nat → Nat → Int32} {L : Nat → Nat → Int64}
set_option maxRecDepth 100000 in
theorem of_8001 : am_of 8001 = some am_m8001 := rfl
theorem c8001 {a0 a1 a2} {P : am_Q} : am_Ca X (d + 1) 8001 [.ref a0, .int a1, .ref a2] st P = am_g d X am_m8001 0 [.ref a0, .int a1, .ref a2, am_u] [] st P := am_cg of_8001 (by show 3 ≤ 4; decide)
theorem u8001_0 {v0 : Value} {v1 : Value} {v3 : Value} {x : Nat} : am_g d X am_m8001 0 [v0, v1, .ref x, v3] sk st Q = am_g d X am_m8001 1 [v0, v1, .ref x, v3] (.ref x :: sk) st Q := am_gu.trans rfl
theorem u8001_1 {v0 : Value} {v1 : Value} {v2 : Value} {v3 : Value} : am_g d X am_m8001 1 [v0, v1, v2, v3] sk st Q = am_g d X am_m8001 2 [v0, v1, v2, v3] (.int (am_i 0) :: sk) st Q := am_gu.trans rfl
theorem u8001_2 {v1 : Value} {v2 : Value} {v3 : Value} {x : Nat} : am_g d X am_m8001 2 [.ref x, v1, v2, v3] sk st Q = am_g d X am_m8001 3 [.ref x, v1, v2, v3] (.ref x :: sk) st Q := am_gu.trans rfl
theorem u8001_3 {v0 : Value} {v2 : Value} {v3 : Value} {x : Int32} : am_g d X am_m8001 3 [v0, .int x, v2, v3] sk st Q = am_g d X am_m8001 4 [v0, .int x, v2, v3] (.int x :: sk) st Q := am_gu.trans rfl
theorem u8001_4 {a0 : Value} {v0 : Value} {v1 : Value} {v2 : Value} {v3 : Value} : am_g d X am_m8001 4 [v0, v1, v2, v3] (a0 :: .ref o :: sk) st Q = ((am_ob st o 6 ∧ sk.length ≤ 4) ∧ am_Ca X d 6002 [.ref o, a0] st (am_af am_m8001 4 [v0, v1, v2, v3] sk (fun pc lc sk st => am_g d X am_m8001 pc lc sk st Q) Q)) := am_gu.trans rfl
theorem u8001_7 {v0 : Value} {v1 : Value} {v2 : Value} {v3 : Value} {x : Int32} : am_g d X am_m8001 7 [v0, v1, v2, v3] (.int x :: sk) st Q = am_g d X am_m8001 8 [v0, v1, v2, v3] (.long x.toInt64 :: sk) st Q := am_gu.trans rfl
theorem u8001_8 {v0 : Value} {v1 : Value} {v2 : Value} {v3 : Value} : am_g d X am_m8001 8 [v0, v1, v2, v3] sk st Q = am_js 9 [v0, v1, v2, v3] sk st (fun pc lc sk st => am_g d X am_m8001 pc lc sk st Q) := am_gu.trans rfl
theorem u8001_9 {v0 : Value} {v1 : Value} {v2 : Value} {v3 : Value} : am_g d X am_m8001 9 [v0, v1, v2, v3] sk st Q = am_g d X am_m8001 18 [v0, v1, v2, v3] sk st Q := am_gu.trans rfl
theorem u8001_13 {v0 : Value} {v1 : Value} {v2 : Value} {v3 : Value} : am_g d X am_m8001 13 [v0, v1, v2, v3] sk st Q = am_g d X am_m8001 14 [v0, v1, v2, v3] (.int (am_i 1) :: sk) st Q := am_gu.trans rfl
theorem u8001_14 {v0 : Value} {v1 : Value} {v2 : Value} {v3 : Value} {x : Int32} : am_g d X am_m8001 14 [v0, v1, v2, v3] [.int x] st Q = Q (.inl (some (.int x))) st := am_gu.trans rfl
theorem u8001_16 {v0 : Value} {v1 : Value} {v2 : Value} {v3 : Value} : am_g d X am_m8001 16 [v0, v1, v2, v3] sk st Q = am_g d X am_m8001 17 [v0, v1, v2, v3] (.int (am_i 2) :: sk) st Q := am_gu.trans rfl
theorem u8001_17 {v0 : Value} {v1 : Value} {v2 : Value} {v3 : Value} {x : Int32} : am_g d X am_m8001 17 [v0, v1, v2, v3] [.int x] st Q = Q (.inl (some (.int x))) st := am_gu.trans rfl
theorem u8001_18 {v0 : Value} {v1 : Value} {v2 : Value} {v3 : Value} : am_g d X am_m8001 18 [v0, v1, v2, v3] sk st Q = am_g d X am_m8001 19 [v0, v1, v2, v3] (.int (am_i 0) :: sk) st Q := am_gu.trans rfl
theorem u8001_19 {v0 : Value} {v1 : Value} {v2 : Value} {v3 : Value} {x : Int32} : am_g d X am_m8001 19 [v0, v1, v2, v3] [.int x] st Q = Q (.inl (some (.int x))) st := am_gu.trans rfl
set_option maxRecDepth 100000 in
theorem of_8002 : am_of 8002 = some am_m8002 := rfl
theorem c8002 {a0 a1} {P : am_Q} : am_Ca X (d + 1) 8002 [.ref a0, .ref a1] st P = am_g d X am_m8002 0 [.ref a0, .ref a1, am_u] [] st P := am_cg of_8002 (by show 2 ≤ 3; decide)
theorem u8002_0 {v0 : Value} {v2 : Value} {x : Nat} : am_g d X am_m8002 0 [v0, .ref x, v2] sk st Q = am_g d X am_m8002 1 [v0, .ref x, v2] (.ref x :: sk) st Q := am_gu.trans rfl
theorem u8002_1 {v0 : Value} {v1 : Value} {v2 : Value} : am_g d X am_m8002 1 [v0, v1, v2] sk st Q = am_g d X am_m8002 2 [v0, v1, v2] (.int (am_i 0) :: sk) st Q := am_gu.trans rfl
theorem u8002_2 {v1 : Value} {v2 : Value} {x : Nat} : am_g d X am_m8002 2 [.ref x, v1, v2] sk st Q = am_g d X am_m8002 3 [.ref x, v1, v2] (.ref x :: sk) st Q := am_gu.trans rfl
theorem u8002_3 {v0 : Value} {v1 : Value} {v2 : Value} : am_g d X am_m8002 3 [v0, v1, v2] (.ref o :: sk) st Q = ((am_ob st o 6 ∧ sk.length ≤ 4) ∧ am_Ca X d 6005 [.ref o] st (am_af am_m8002 3 [v0, v1, v2] sk (fun pc lc sk st => am_g d X am_m8002 pc lc sk st Q) Q)) := am_gu.trans rfl
theorem u8002_6 {v0 : Value} {v1 : Value} {v2 : Value} {x : Int32} : am_g d X am_m8002 6 [v0, v1, v2] (.int x :: sk) st Q = am_g d X am_m8002 7 [v0, v1, v2] (.long x.toInt64 :: sk) st Q := am_gu.trans rfl
theorem u8002_7 {v0 : Value} {v1 : Value} {v2 : Value} : am_g d X am_m8002 7 [v0, v1, v2] sk st Q = am_js 8 [v0, v1, v2] sk st (fun pc lc sk st => am_g d X am_m8002 pc lc sk st Q) := am_gu.trans rfl
theorem u8002_8 {v0 : Value} {v1 : Value} {v2 : Value} : am_g d X am_m8002 8 [v0, v1, v2] sk st Q = am_g d X am_m8002 14 [v0, v1, v2] sk st Q := am_gu.trans rfl
theorem u8002_12 {v0 : Value} {v1 : Value} {v2 : Value} : am_g d X am_m8002 12 [v0, v1, v2] sk st Q = am_g d X am_m8002 13 [v0, v1, v2] (.int (am_i 1) :: sk) st Q := am_gu.trans rfl
theorem u8002_13 {v0 : Value} {v1 : Value} {v2 : Value} {x : Int32} : am_g d X am_m8002 13 [v0, v1, v2] [.int x] st Q = Q (.inl (some (.int x))) st := am_gu.trans rfl
theorem u8002_14 {v0 : Value} {v1 : Value} {v2 : Value} : am_g d X am_m8002 14 [v0, v1, v2] sk st Q = am_g d X am_m8002 15 [v0, v1, v2] (.int (am_i 0) :: sk) st Q := am_gu.trans rfl
theorem u8002_15 {v0 : Value} {v1 : Value} {v2 : Value} {x : Int32} : am_g d X am_m8002 15 [v0, v1, v2] [.int x] st Q = Q (.inl (some (.int x))) st := am_gu.trans rfl
set_option maxRecDepth 100000 in
theorem of_8003 : am_of 8003 = some am_m8003 := rfl
theorem c8003 {a0 a1 a2 a3 a4} {P : am_Q} : am_Ca X (d + 1) 8003 [.ref a0, .int a1, .int a2, .int a3, .ref a4] st P = am_g d X am_m8003 0 [.ref a0, .int a1, .int a2, .int a3, .ref a4, am_u] [] st P := am_cg of_8003 (by show 5 ≤ 6; decide)
theorem u8003_0 {v0 : Value} {v1 : Value} {v2 : Value} {v3 : Value} {v5 : Value} {x : Nat} : am_g d X am_m8003 0 [v0, v1, v2, v3, .ref x, v5] sk st Q = am_g d X am_m8003 2 [v0, v1, v2, v3, .ref x, v5] (.ref x :: sk) st Q := am_gu.trans rfl
theorem u8003_2 {v0 : Value} {v1 : Value} {v2 : Value} {v3 : Value} {v4 : Value} {v5 : Value} : am_g d X am_m8003 2 [v0, v1, v2, v3, v4, v5] sk st Q = am_g d X am_m8003 3 [v0, v1, v2, v3, v4, v5] (.int (am_i 0) :: sk) st Q := am_gu.trans rfl
theorem u8003_3 {v1 : Value} {v2 : Value} {v3 : Value} {v4 : Value} {v5 : Value} {x : Nat} : am_g d X am_m8003 3 [.ref x, v1, v2, v3, v4, v5] sk st Q = am_g d X am_m8003 4 [.ref x, v1, v2, v3, v4, v5] (.ref x :: sk) st Q := am_gu.trans rfl
theorem u8003_4 {v0 : Value} {v2 : Value} {v3 : Value} {v4 : Value} {v5 : Value} {x : Int32} : am_g d X am_m8003 4 [v0, .int x, v2, v3, v4, v5] sk st Q = am_g d X am_m8003 5 [v0, .int x, v2, v3, v4, v5] (.int x :: sk) st Q := am_gu.trans rfl
theorem u8003_5 {v0 : Value} {v1 : Value} {v3 : Value} {v4 : Value} {v5 : Value} {x : Int32} : am_g d X am_m8003 5 [v0, v1, .int x, v3, v4, v5] sk st Q = am_g d X am_m8003 6 [v0, v1, .int x, v3, v4, v5] (.int x :: sk) st Q := am_gu.trans rfl
theorem u8003_6 {v0 : Value} {v1 : Value} {v2 : Value} {v4 : Value} {v5 : Value} {x : Int32} : am_g d X am_m8003 6 [v0, v1, v2, .int x, v4, v5] sk st Q = am_g d X am_m8003 7 [v0, v1, v2, .int x, v4, v5] (.int x :: sk) st Q := am_gu.trans rfl
theorem u8003_7 {a0 : Value} {a1 : Value} {a2 : Value} {v0 : Value} {v1 : Value} {v2 : Value} {v3 : Value} {v4 : Value} {v5 : Value} : am_g d X am_m8003 7 [v0, v1, v2, v3, v4, v5] (a2 :: a1 :: a0 :: .ref o :: sk) st Q = ((am_ob st o 6 ∧ sk.length ≤ 4) ∧ am_Ca X d 6006 [.ref o, a0, a1, a2] st (am_af am_m8003 7 [v0, v1, v2, v3, v4, v5] sk (fun pc lc sk st => am_g d X am_m8003 pc lc sk st Q) Q)) := am_gu.trans rfl
theorem u8003_10 {v0 : Value} {v1 : Value} {v2 : Value} {v3 : Value} {v4 : Value} {v5 : Value} {x : Int32} : am_g d X am_m8003 10 [v0, v1, v2, v3, v4, v5] (.int x :: sk) st Q = am_g d X am_m8003 11 [v0, v1, v2, v3, v4, v5] (.long x.toInt64 :: sk) st Q := am_gu.trans rfl
theorem u8003_11 {v0 : Value} {v1 : Value} {v2 : Value} {v3 : Value} {v4 : Value} {v5 : Value} : am_g d X am_m8003 11 [v0, v1, v2, v3, v4, v5] sk st Q = am_js 12 [v0, v1, v2, v3, v4, v5] sk st (fun pc lc sk st => am_g d X am_m8003 pc lc sk st Q) := am_gu.trans rfl
theorem u8003_12 {v0 : Value} {v1 : Value} {v2 : Value} {v3 : Value} {v4 : Value} {v5 : Value} : am_g d X am_m8003 12 [v0, v1, v2, v3, v4, v5] sk st Q = am_g d X am_m8003 19 [v0, v1, v2, v3, v4, v5] sk st Q := am_gu.trans rfl
theorem u8003_17 {v0 : Value} {v1 : Value} {v2 : Value} {v3 : Value} {v4 : Value} {v5 : Value} : am_g d X am_m8003 17 [v0, v1, v2, v3, v4, v5] sk st Q = am_g d X am_m8003 18 [v0, v1, v2, v3, v4, v5] (.int (am_i 1) :: sk) st Q := am_gu.trans rfl
theorem u8003_18 {v0 : Value} {v1 : Value} {v2 : Value} {v3 : Value} {v4 : Value} {v5 : Value} {x : Int32} : am_g d X am_m8003 18 [v0, v1, v2, v3, v4, v5] [.int x] st Q = Q (.inl (some (.int x))) st := am_gu.trans rfl
theorem u8003_19 {v0 : Value} {v1 : Value} {v2 : Value} {v3 : Value} {v4 : Value} {v5 : Value} : am_g d X am_m8003 19 [v0, v1, v2, v3, v4, v5] sk st Q = am_g d X am_m8003 20 [v0, v1, v2, v3, v4, v5] (.int (am_i 0) :: sk) st Q := am_gu.trans rfl
theorem u8003_20 {v0 : Value} {v1 : Value} {v2 : Value} {v3 : Value} {v4 : Value} {v5 : Value} {x : Int32} : am_g d X am_m8003 20 [v0, v1, v2, v3, v4, v5] [.int x] st Q = Q (.inl (some (.int x))) st := am_gu.trans rfl
set_option maxRecDepth 100000 in
theorem of_8004 : am_of 8004 = some am_m8004 := rfl
theorem c8004 {a0 a1} {P : am_Q} : am_Ca X (d + 1) 8004 [.ref a0, .ref a1] st P = am_g d X am_m8004 0 [.ref a0, .ref a1, am_u] [] st P := am_cg of_8004 (by show 2 ≤ 3; decide)
theorem u8004_0 {v0 : Value} {v2 : Value} {x : Nat} : am_g d X am_m8004 0 [v0, .ref x, v2] sk st Q = am_g d X am_m8004 1 [v0, .ref x, v2] (.ref x :: sk) st Q := am_gu.trans rfl
theorem u8004_1 {v0 : Value} {v1 : Value} {v2 : Value} : am_g d X am_m8004 1 [v0, v1, v2] sk st Q = am_g d X am_m8004 2 [v0, v1, v2] (.int (am_i 0) :: sk) st Q := am_gu.trans rfl
theorem u8004_2 {v1 : Value} {v2 : Value} {x : Nat} : am_g d X am_m8004 2 [.ref x, v1, v2] sk st Q = am_g d X am_m8004 3 [.ref x, v1, v2] (.ref x :: sk) st Q := am_gu.trans rfl
theorem u8004_3 {v0 : Value} {v1 : Value} {v2 : Value} : am_g d X am_m8004 3 [v0, v1, v2] (.ref o :: sk) st Q = ((am_ob st o 6 ∧ sk.length ≤ 4) ∧ am_Ca X d 6007 [.ref o] st (am_af am_m8004 3 [v0, v1, v2] sk (fun pc lc sk st => am_g d X am_m8004 pc lc sk st Q) Q)) := am_gu.trans rfl
theorem u8004_6 {v0 : Value} {v1 : Value} {v2 : Value} {x : Int32} : am_g d X am_m8004 6 [v0, v1, v2] (.int x :: sk) st Q = am_g d X am_m8004 7 [v0, v1, v2] (.long x.toInt64 :: sk) st Q := am_gu.trans rfl
theorem u8004_7 {v0 : Value} {v1 : Value} {v2 : Value} : am_g d X am_m8004 7 [v0, v1, v2] sk st Q = am_js 8 [v0, v1, v2] sk st (fun pc lc sk st => am_g d X am_m8004 pc lc sk st Q) := am_gu.trans rfl
theorem u8004_8 {v0 : Value} {v1 : Value} {v2 : Value} : am_g d X am_m8004 8 [v0, v1, v2] sk st Q = am_g d X am_m8004 14 [v0, v1, v2] sk st Q := am_gu.trans rfl
theorem u8004_12 {v0 : Value} {v1 : Value} {v2 : Value} : am_g d X am_m8004 12 [v0, v1, v2] sk st Q = am_g d X am_m8004 13 [v0, v1, v2] (.int (am_i 1) :: sk) st Q := am_gu.trans rfl
theorem u8004_13 {v0 : Value} {v1 : Value} {v2 : Value} {x : Int32} : am_g d X am_m8004 13 [v0, v1, v2] [.int x] st Q = Q (.inl (some (.int x))) st := am_gu.trans rfl
theorem u8004_14 {v0 : Value} {v1 : Value} {v2 : Value} : am_g d X am_m8004 14 [v0, v1, v2] sk st Q = am_g d X am_m8004 15 [v0, v1, v2] (.int (am_i 0) :: sk) st Q := am_gu.trans rfl
theorem u8004_15 {v0 : Value} {v1 : Value} {v2 : Value} {x : Int32} : am_g d X am_m8004 15 [v0, v1, v2] [.int x] st Q = Q (.inl (some (.int x))) st := am_gu.trans rfl
set_option maxRecDepth 100000 in
theorem of_8005 : am_of 8005 = some am_m8005 := rfl
theorem c8005 {a0 a1 a2} {P : am_Q} : am_Ca X (d + 1) 8005 [.ref a0, .int a1, .ref a2] st P = am_g d X am_m8005 0 [.ref a0, .int a1, .ref a2, am_u] [] st P := am_cg of_8005 (by show 3 ≤ 4; decide)
theorem u8005_0 {v0 : Value} {v1 : Value} {v3 : Value} {x : Nat} : am_g d X am_m8005 0 [v0, v1, .ref x, v3] sk st Q = am_g d X am_m8005 1 [v0, v1, .ref x, v3] (.ref x :: sk) st Q := am_gu.trans rfl
theorem u8005_1 {v0 : Value} {v1 : Value} {v2 : Value} {v3 : Value} : am_g d X am_m8005 1 [v0, v1, v2, v3] sk st Q = am_g d X am_m8005 2 [v0, v1, v2, v3] (.int (am_i 0) :: sk) st Q := am_gu.trans rfl
theorem u8005_2 {v1 : Value} {v2 : Value} {v3 : Value} {x : Nat} : am_g d X am_m8005 2 [.ref x, v1, v2, v3] sk st Q = am_g d X am_m8005 3 [.ref x, v1, v2, v3] (.ref x :: sk) st Q := am_gu.trans rfl
theorem u8005_3 {v0 : Value} {v2 : Value} {v3 : Value} {x : Int32} : am_g d X am_m8005 3 [v0, .int x, v2, v3] sk st Q = am_g d X am_m8005 4 [v0, .int x, v2, v3] (.int x :: sk) st Q := am_gu.trans rfl
theorem u8005_4 {a0 : Value} {v0 : Value} {v1 : Value} {v2 : Value} {v3 : Value} : am_g d X am_m8005 4 [v0, v1, v2, v3] (a0 :: .ref o :: sk) st Q = ((am_ob st o 6 ∧ sk.length ≤ 4) ∧ am_Ca X d 6008 [.ref o, a0] st (am_af am_m8005 4 [v0, v1, v2, v3] sk (fun pc lc sk st => am_g d X am_m8005 pc lc sk st Q) Q)) := am_gu.trans rfl
theorem u8005_7 {v0 : Value} {v1 : Value} {v2 : Value} {v3 : Value} {x : Int32} : am_g d X am_m8005 7 [v0, v1, v2, v3] (.int x :: sk) st Q = am_g d X am_m8005 8 [v0, v1, v2, v3] (.long x.toInt64 :: sk) st Q := am_gu.trans rfl
theorem u8005_8 {v0 : Value} {v1 : Value} {v2 : Value} {v3 : Value} : am_g d X am_m8005 8 [v0, v1, v2, v3] sk st Q = am_js 9 [v0, v1, v2, v3] sk st (fun pc lc sk st => am_g d X am_m8005 pc lc sk st Q) := am_gu.trans rfl
theorem u8005_9 {v0 : Value} {v1 : Value} {v2 : Value} {v3 : Value} : am_g d X am_m8005 9 [v0, v1, v2, v3] sk st Q = am_g d X am_m8005 15 [v0, v1, v2, v3] sk st Q := am_gu.trans rfl
theorem u8005_13 {v0 : Value} {v1 : Value} {v2 : Value} {v3 : Value} : am_g d X am_m8005 13 [v0, v1, v2, v3] sk st Q = am_g d X am_m8005 14 [v0, v1, v2, v3] (.int (am_i 1) :: sk) st Q := am_gu.trans rfl
theorem u8005_14 {v0 : Value} {v1 : Value} {v2 : Value} {v3 : Value} {x : Int32} : am_g d X am_m8005 14 [v0, v1, v2, v3] [.int x] st Q = Q (.inl (some (.int x))) st := am_gu.trans rfl
theorem u8005_15 {v0 : Value} {v1 : Value} {v2 : Value} {v3 : Value} : am_g d X am_m8005 15 [v0, v1, v2, v3] sk st Q = am_g d X am_m8005 16 [v0, v1, v2, v3] (.int (am_i 0) :: sk) st Q := am_gu.trans rfl
theorem u8005_16 {v0 : Value} {v1 : Value} {v2 : Value} {v3 : Value} {x : Int32} : am_g d X am_m8005 16 [v0, v1, v2, v3] [.int x] st Q = Q (.inl (some (.int x))) st := am_gu.trans rfl
set_option maxRecDepth 100000 in
theorem of_8006 : am_of 8006 = some am_m8006 := rfl
theorem c8006 {a0 a1} {P : am_Q} : am_Ca X (d + 1) 8006 [.ref a0, .ref a1] st P = am_g d X am_m8006 0 [.ref a0, .ref a1, am_u] [] st P := am_cg of_8006 (by show 2 ≤ 3; decide)
theorem u8006_0 {v0 : Value} {v2 : Value} {x : Nat} : am_g d X am_m8006 0 [v0, .ref x, v2] sk st Q = am_g d X am_m8006 1 [v0, .ref x, v2] (.ref x :: sk) st Q := am_gu.trans rfl
theorem u8006_1 {v0 : Value} {v1 : Value} {v2 : Value} : am_g d X am_m8006 1 [v0, v1, v2] sk st Q = am_g d X am_m8006 2 [v0, v1, v2] (.int (am_i 0) :: sk) st Q := am_gu.trans rfl
theorem u8006_2 {v1 : Value} {v2 : Value} {x : Nat} : am_g d X am_m8006 2 [.ref x, v1, v2] sk st Q = am_g d X am_m8006 3 [.ref x, v1, v2] (.ref x :: sk) st Q := am_gu.trans rfl
theorem u8006_3 {v0 : Value} {v1 : Value} {v2 : Value} : am_g d X am_m8006 3 [v0, v1, v2] (.ref o :: sk) st Q = ((am_ob st o 6 ∧ sk.length ≤ 4) ∧ am_Ca X d 6009 [.ref o] st (am_af am_m8006 3 [v0, v1, v2] sk (fun pc lc sk st => am_g d X am_m8006 pc lc sk st Q) Q)) := am_gu.trans rfl
theorem u8006_6 {v0 : Value} {v1 : Value} {v2 : Value} {x : Int32} : am_g d X am_m8006 6 [v0, v1, v2] (.int x :: sk) st Q = am_g d X am_m8006 7 [v0, v1, v2] (.long x.toInt64 :: sk) st Q := am_gu.trans rfl
theorem u8006_7 {v0 : Value} {v1 : Value} {v2 : Value} : am_g d X am_m8006 7 [v0, v1, v2] sk st Q = am_js 8 [v0, v1, v2] sk st (fun pc lc sk st => am_g d X am_m8006 pc lc sk st Q) := am_gu.trans rfl
theorem u8006_8 {v0 : Value} {v1 : Value} {v2 : Value} : am_g d X am_m8006 8 [v0, v1, v2] sk st Q = am_g d X am_m8006 14 [v0, v1, v2] sk st Q := am_gu.trans rfl
theorem u8006_12 {v0 : Value} {v1 : Value} {v2 : Value} : am_g d X am_m8006 12 [v0, v1, v2] sk st Q = am_g d X am_m8006 13 [v0, v1, v2] (.int (am_i 1) :: sk) st Q := am_gu.trans rfl
theorem u8006_13 {v0 : Value} {v1 : Value} {v2 : Value} {x : Int32} : am_g d X am_m8006 13 [v0, v1, v2] [.int x] st Q = Q (.inl (some (.int x))) st := am_gu.trans rfl
theorem u8006_14 {v0 : Value} {v1 : Value} {v2 : Value} : am_g d X am_m8006 14 [v0, v1, v2] sk st Q = am_g d X am_m8006 15 [v0, v1, v2] (.int (am_i 0) :: sk) st Q := am_gu.trans rfl
theorem u8006_15 {v0 : Value} {v1 : Value} {v2 : Value} {x : Int32} : am_g d X am_m8006 15 [v0, v1, v2] [.int x] st Q = Q (.inl (some (.int x))) st := am_gu.trans rfl
set_option maxRecDepth 100000 in
theorem of_8007 : am_of 8007 = some am_m8007 := rfl
theorem c8007 {a0 a1} {P : am_Q} : am_Ca X (d + 1) 8007 [.ref a0, .ref a1] st P = am_g d X am_m8007 0 [.ref a0, .ref a1, am_u] [] st P := am_cg of_8007 (by show 2 ≤ 3; decide)
theorem u8007_0 {v0 : Value} {v2 : Value} {x : Nat} : am_g d X am_m8007 0 [v0, .ref x, v2] sk st Q = am_g d X am_m8007 1 [v0, .ref x, v2] (.ref x :: sk) st Q := am_gu.trans rfl
theorem u8007_1 {v0 : Value} {v1 : Value} {v2 : Value} : am_g d X am_m8007 1 [v0, v1, v2] sk st Q = am_g d X am_m8007 2 [v0, v1, v2] (.int (am_i 0) :: sk) st Q := am_gu.trans rfl
theorem u8007_2 {v1 : Value} {v2 : Value} {x : Nat} : am_g d X am_m8007 2 [.ref x, v1, v2] sk st Q = am_g d X am_m8007 3 [.ref x, v1, v2] (.ref x :: sk) st Q := am_gu.trans rfl
theorem u8007_3 {v0 : Value} {v1 : Value} {v2 : Value} : am_g d X am_m8007 3 [v0, v1, v2] (.ref o :: sk) st Q = ((am_ob st o 6 ∧ sk.length ≤ 4) ∧ am_Ca X d 6010 [.ref o] st (am_af am_m8007 3 [v0, v1, v2] sk (fun pc lc sk st => am_g d X am_m8007 pc lc sk st Q) Q)) := am_gu.trans rfl
theorem u8007_6 {v0 : Value} {v1 : Value} {v2 : Value} {x : Int32} : am_g d X am_m8007 6 [v0, v1, v2] (.int x :: sk) st Q = am_g d X am_m8007 7 [v0, v1, v2] (.long x.toInt64 :: sk) st Q := am_gu.trans rfl
theorem u8007_7 {v0 : Value} {v1 : Value} {v2 : Value} : am_g d X am_m8007 7 [v0, v1, v2] sk st Q = am_js 8 [v0, v1, v2] sk st (fun pc lc sk st => am_g d X am_m8007 pc lc sk st Q) := am_gu.trans rfl
theorem u8007_8 {v0 : Value} {v1 : Value} {v2 : Value} : am_g d X am_m8007 8 [v0, v1, v2] sk st Q = am_g d X am_m8007 14 [v0, v1, v2] sk st Q := am_gu.trans rfl
theorem u8007_12 {v0 : Value} {v1 : Value} {v2 : Value} : am_g d X am_m8007 12 [v0, v1, v2] sk st Q = am_g d X am_m8007 13 [v0, v1, v2] (.int (am_i 1) :: sk) st Q := am_gu.trans rfl
theorem u8007_13 {v0 : Value} {v1 : Value} {v2 : Value} {x : Int32} : am_g d X am_m8007 13 [v0, v1, v2] [.int x] st Q = Q (.inl (some (.int x))) st := am_gu.trans rfl
theorem u8007_14 {v0 : Value} {v1 : Value} {v2 : Value} : am_g d X am_m8007 14 [v0, v1, v2] sk st Q = am_g d X am_m8007 15 [v0, v1, v2] (.int (am_i 0) :: sk) st Q := am_gu.trans rfl
theorem u8007_15 {v0 : Value} {v1 : Value} {v2 : Value} {x : Int32} : am_g d X am_m8007 15 [v0, v1, v2] [.int x] st Q = Q (.inl (some (.int x))) st := am_gu.trans rfl
set_option maxRecDepth 100000 in
theorem of_8008 : am_of 8008 = some am_m8008 := rfl
theorem c8008 {a0 a1} {P : am_Q} : am_Ca X (d + 1) 8008 [.ref a0, .ref a1] st P = am_g d X am_m8008 0 [.ref a0, .ref a1, am_u] [] st P := am_cg of_8008 (by show 2 ≤ 3; decide)
theorem u8008_0 {v0 : Value} {v2 : Value} {x : Nat} : am_g d X am_m8008 0 [v0, .ref x, v2] sk st Q = am_g d X am_m8008 1 [v0, .ref x, v2] (.ref x :: sk) st Q := am_gu.trans rfl
theorem u8008_1 {v0 : Value} {v1 : Value} {v2 : Value} : am_g d X am_m8008 1 [v0, v1, v2] sk st Q = am_g d X am_m8008 2 [v0, v1, v2] (.int (am_i 0) :: sk) st Q := am_gu.trans rfl
theorem u8008_2 {v1 : Value} {v2 : Value} {x : Nat} : am_g d X am_m8008 2 [.ref x, v1, v2] sk st Q = am_g d X am_m8008 3 [.ref x, v1, v2] (.ref x :: sk) st Q := am_gu.trans rfl
theorem u8008_3 {v0 : Value} {v1 : Value} {v2 : Value} : am_g d X am_m8008 3 [v0, v1, v2] (.ref o :: sk) st Q = ((am_ob st o 6 ∧ sk.length ≤ 4) ∧ am_Ca X d 6011 [.ref o] st (am_af am_m8008 3 [v0, v1, v2] sk (fun pc lc sk st => am_g d X am_m8008 pc lc sk st Q) Q)) := am_gu.trans rfl
theorem u8008_6 {v0 : Value} {v1 : Value} {v2 : Value} {x : Int32} : am_g d X am_m8008 6 [v0, v1, v2] (.int x :: sk) st Q = am_g d X am_m8008 7 [v0, v1, v2] (.long x.toInt64 :: sk) st Q := am_gu.trans rfl
theorem u8008_7 {v0 : Value} {v1 : Value} {v2 : Value} : am_g d X am_m8008 7 [v0, v1, v2] sk st Q = am_js 8 [v0, v1, v2] sk st (fun pc lc sk st => am_g d X am_m8008 pc lc sk st Q) := am_gu.trans rfl
theorem u8008_8 {v0 : Value} {v1 : Value} {v2 : Value} : am_g d X am_m8008 8 [v0, v1, v2] sk st Q = am_g d X am_m8008 14 [v0, v1, v2] sk st Q := am_gu.trans rfl
theorem u8008_12 {v0 : Value} {v1 : Value} {v2 : Value} : am_g d X am_m8008 12 [v0, v1, v2] sk st Q = am_g d X am_m8008 13 [v0, v1, v2] (.int (am_i 1) :: sk) st Q := am_gu.trans rfl
theorem u8008_13 {v0 : Value} {v1 : Value} {v2 : Value} {x : Int32} : am_g d X am_m8008 13 [v0, v1, v2] [.int x] st Q = Q (.inl (some (.int x))) st := am_gu.trans rfl
theorem u8008_14 {v0 : Value} {v1 : Value} {v2 : Value} : am_g d X am_m8008 14 [v0, v1, v2] sk st Q = am_g d X am_m8008 15 [v0, v1, v2] (.int (am_i 0) :: sk) st Q := am_gu.trans rfl
theorem u8008_15 {v0 : Value} {v1 : Value} {v2 : Value} {x : Int32} : am_g d X am_m8008 15 [v0, v1, v2] [.int x] st Q = Q (.inl (some (.int x))) st := am_gu.trans rfl
set_option maxRecDepth 100000 in
theorem of_8009 : am_of 8009 = some am_m8009 := rfl
theorem c8009 {a0 a1 a2} {P : am_Q} : am_Ca X (d + 1) 8009 [.ref a0, .int a1, .ref a2] st P = am_g d X am_m8009 0 [.ref a0, .int a1, .ref a2, am_u] [] st P := am_cg of_8009 (by show 3 ≤ 4; decide)
theorem u8009_0 {v0 : Value} {v1 : Value} {v3 : Value} {x : Nat} : am_g d X am_m8009 0 [v0, v1, .ref x, v3] sk st Q = am_g d X am_m8009 1 [v0, v1, .ref x, v3] (.ref x :: sk) st Q := am_gu.trans rfl
theorem u8009_1 {v0 : Value} {v1 : Value} {v2 : Value} {v3 : Value} : am_g d X am_m8009 1 [v0, v1, v2, v3] sk st Q = am_g d X am_m8009 2 [v0, v1, v2, v3] (.int (am_i 0) :: sk) st Q := am_gu.trans rfl
theorem u8009_2 {v1 : Value} {v2 : Value} {v3 : Value} {x : Nat} : am_g d X am_m8009 2 [.ref x, v1, v2, v3] sk st Q = am_g d X am_m8009 3 [.ref x, v1, v2, v3] (.ref x :: sk) st Q := am_gu.trans rfl
theorem u8009_3 {v0 : Value} {v2 : Value} {v3 : Value} {x : Int32} : am_g d X am_m8009 3 [v0, .int x, v2, v3] sk st Q = am_g d X am_m8009 4 [v0, .int x, v2, v3] (.int x :: sk) st Q := am_gu.trans rfl
theorem u8009_4 {a0 : Value} {v0 : Value} {v1 : Value} {v2 : Value} {v3 : Value} : am_g d X am_m8009 4 [v0, v1, v2, v3] (a0 :: .ref o :: sk) st Q = ((am_ob st o 6 ∧ sk.length ≤ 4) ∧ am_Ca X d 6012 [.ref o, a0] st (am_af am_m8009 4 [v0, v1, v2, v3] sk (fun pc lc sk st => am_g d X am_m8009 pc lc sk st Q) Q)) := am_gu.trans rfl
theorem u8009_7 {v0 : Value} {v1 : Value} {v2 : Value} {v3 : Value} {x : Int32} : am_g d X am_m8009 7 [v0, v1, v2, v3] (.int x :: sk) st Q = am_g d X am_m8009 8 [v0, v1, v2, v3] (.long x.toInt64 :: sk) st Q := am_gu.trans rfl
theorem u8009_8 {v0 : Value} {v1 : Value} {v2 : Value} {v3 : Value} : am_g d X am_m8009 8 [v0, v1, v2, v3] sk st Q = am_js 9 [v0, v1, v2, v3] sk st (fun pc lc sk st => am_g d X am_m8009 pc lc sk st Q) := am_gu.trans rfl
theorem u8009_9 {v0 : Value} {v1 : Value} {v2 : Value} {v3 : Value} : am_g d X am_m8009 9 [v0, v1, v2, v3] sk st Q = am_g d X am_m8009 18 [v0, v1, v2, v3] sk st Q := am_gu.trans rfl
theorem u8009_13 {v0 : Value} {v1 : Value} {v2 : Value} {v3 : Value} : am_g d X am_m8009 13 [v0, v1, v2, v3] sk st Q = am_g d X am_m8009 14 [v0, v1, v2, v3] (.int (am_i 1) :: sk) st Q := am_gu.trans rfl
theorem u8009_14 {v0 : Value} {v1 : Value} {v2 : Value} {v3 : Value} {x : Int32} : am_g d X am_m8009 14 [v0, v1, v2, v3] [.int x] st Q = Q (.inl (some (.int x))) st := am_gu.trans rfl
theorem u8009_16 {v0 : Value} {v1 : Value} {v2 : Value} {v3 : Value} : am_g d X am_m8009 16 [v0, v1, v2, v3] sk st Q = am_g d X am_m8009 17 [v0, v1, v2, v3] (.int (am_i 2) :: sk) st Q := am_gu.trans rfl
theorem u8009_17 {v0 : Value} {v1 : Value} {v2 : Value} {v3 : Value} {x : Int32} : am_g d X am_m8009 17 [v0, v1, v2, v3] [.int x] st Q = Q (.inl (some (.int x))) st := am_gu.trans rfl
theorem u8009_18 {v0 : Value} {v1 : Value} {v2 : Value} {v3 : Value} : am_g d X am_m8009 18 [v0, v1, v2, v3] sk st Q = am_g d X am_m8009 19 [v0, v1, v2, v3] (.int (am_i 0) :: sk) st Q := am_gu.trans rfl
theorem u8009_19 {v0 : Value} {v1 : Value} {v2 : Value} {v3 : Value} {x : Int32} : am_g d X am_m8009 19 [v0, v1, v2, v3] [.int x] st Q = Q (.inl (some (.int x))) st := am_gu.trans rfl
set_option maxRecDepth 100000 in
theorem of_8010 : am_of 8010 = some am_m8010 := rfl
theorem c8010 {a0 a1 a2} {P : am_Q} : am_Ca X (d + 1) 8010 [.ref a0, .int a1, .ref a2] st P = am_g d X am_m8010 0 [.ref a0, .int a1, .ref a2, am_u] [] st P := am_cg of_8010 (by show 3 ≤ 4; decide)
theorem u8010_0 {v0 : Value} {v1 : Value} {v3 : Value} {x : Nat} : am_g d X am_m8010 0 [v0, v1, .ref x, v3] sk st Q = am_g d X am_m8010 1 [v0, v1, .ref x, v3] (.ref x :: sk) st Q := am_gu.trans rfl
theorem u8010_1 {v0 : Value} {v1 : Value} {v2 : Value} {v3 : Value} : am_g d X am_m8010 1 [v0, v1, v2, v3] sk st Q = am_g d X am_m8010 2 [v0, v1, v2, v3] (.int (am_i 0) :: sk) st Q := am_gu.trans rfl
theorem u8010_2 {v1 : Value} {v2 : Value} {v3 : Value} {x : Nat} : am_g d X am_m8010 2 [.ref x, v1, v2, v3] sk st Q = am_g d X am_m8010 3 [.ref x, v1, v2, v3] (.ref x :: sk) st Q := am_gu.trans rfl
theorem u8010_3 {v0 : Value} {v2 : Value} {v3 : Value} {x : Int32} : am_g d X am_m8010 3 [v0, .int x, v2, v3] sk st Q = am_g d X am_m8010 4 [v0, .int x, v2, v3] (.int x :: sk) st Q := am_gu.trans rfl
theorem u8010_4 {a0 : Value} {v0 : Value} {v1 : Value} {v2 : Value} {v3 : Value} : am_g d X am_m8010 4 [v0, v1, v2, v3] (a0 :: .ref o :: sk) st Q = ((am_ob st o 6 ∧ sk.length ≤ 4) ∧ am_Ca X d 6013 [.ref o, a0] st (am_af am_m8010 4 [v0, v1, v2, v3] sk (fun pc lc sk st => am_g d X am_m8010 pc lc sk st Q) Q)) := am_gu.trans rfl
theorem u8010_7 {v0 : Value} {v1 : Value} {v2 : Value} {v3 : Value} {x : Int32} : am_g d X am_m8010 7 [v0, v1, v2, v3] (.int x :: sk) st Q = am_g d X am_m8010 8 [v0, v1, v2, v3] (.long x.toInt64 :: sk) st Q := am_gu.trans rfl
theorem u8010_8 {v0 : Value} {v1 : Value} {v2 : Value} {v3 : Value} : am_g d X am_m8010 8 [v0, v1, v2, v3] sk st Q = am_js 9 [v0, v1, v2, v3] sk st (fun pc lc sk st => am_g d X am_m8010 pc lc sk st Q) := am_gu.trans rfl
theorem u8010_9 {v0 : Value} {v1 : Value} {v2 : Value} {v3 : Value} : am_g d X am_m8010 9 [v0, v1, v2, v3] sk st Q = am_g d X am_m8010 18 [v0, v1, v2, v3] sk st Q := am_gu.trans rfl
theorem u8010_13 {v0 : Value} {v1 : Value} {v2 : Value} {v3 : Value} : am_g d X am_m8010 13 [v0, v1, v2, v3] sk st Q = am_g d X am_m8010 14 [v0, v1, v2, v3] (.int (am_i 1) :: sk) st Q := am_gu.trans rfl
theorem u8010_14 {v0 : Value} {v1 : Value} {v2 : Value} {v3 : Value} {x : Int32} : am_g d X am_m8010 14 [v0, v1, v2, v3] [.int x] st Q = Q (.inl (some (.int x))) st := am_gu.trans rfl
theorem u8010_16 {v0 : Value} {v1 : Value} {v2 : Value} {v3 : Value} : am_g d X am_m8010 16 [v0, v1, v2, v3] sk st Q = am_g d X am_m8010 17 [v0, v1, v2, v3] (.int (am_i 2) :: sk) st Q := am_gu.trans rfl
theorem u8010_17 {v0 : Value} {v1 : Value} {v2 : Value} {v3 : Value} {x : Int32} : am_g d X am_m8010 17 [v0, v1, v2, v3] [.int x] st Q = Q (.inl (some (.int x))) st := am_gu.trans rfl
theorem u8010_18 {v0 : Value} {v1 : Value} {v2 : Value} {v3 : Value} : am_g d X am_m8010 18 [v0, v1, v2, v3] sk st Q = am_g d X am_m8010 19 [v0, v1, v2, v3] (.int (am_i 0) :: sk) st Q := am_gu.trans rfl
theorem u8010_19 {v0 : Value} {v1 : Value} {v2 : Value} {v3 : Value} {x : Int32} : am_g d X am_m8010 19 [v0, v1, v2, v3] [.int x] st Q = Q (.inl (some (.int x))) st := am_gu.trans rfl
set_option maxRecDepth 100000 in
theorem of_8011 : am_of 8011 = some am_m8011 := rfl
theorem c8011 {a0 a1 a2} {P : am_Q} : am_Ca X (d + 1) 8011 [.ref a0, .int a1, .ref a2] st P = am_g d X am_m8011 0 [.ref a0, .int a1, .ref a2, am_u] [] st P := am_cg of_8011 (by show 3 ≤ 4; decide)
theorem u8011_0 {v0 : Value} {v1 : Value} {v3 : Value} {x : Nat} : am_g d X am_m8011 0 [v0, v1, .ref x, v3] sk st Q = am_g d X am_m8011 1 [v0, v1, .ref x, v3] (.ref x :: sk) st Q := am_gu.trans rfl
theorem u8011_1 {v0 : Value} {v1 : Value} {v2 : Value} {v3 : Value} : am_g d X am_m8011 1 [v0, v1, v2, v3] sk st Q = am_g d X am_m8011 2 [v0, v1, v2, v3] (.int (am_i 0) :: sk) st Q := am_gu.trans rfl
theorem u8011_2 {v1 : Value} {v2 : Value} {v3 : Value} {x : Nat} : am_g d X am_m8011 2 [.ref x, v1, v2, v3] sk st Q = am_g d X am_m8011 3 [.ref x, v1, v2, v3] (.ref x :: sk) st Q := am_gu.trans rfl
theorem u8011_3 {v0 : Value} {v2 : Value} {v3 : Value} {x : Int32} : am_g d X am_m8011 3 [v0, .int x, v2, v3] sk st Q = am_g d X am_m8011 4 [v0, .int x, v2, v3] (.int x :: sk) st Q := am_gu.trans rfl
theorem u8011_4 {a0 : Value} {v0 : Value} {v1 : Value} {v2 : Value} {v3 : Value} : am_g d X am_m8011 4 [v0, v1, v2, v3] (a0 :: .ref o :: sk) st Q = ((am_ob st o 6 ∧ sk.length ≤ 4) ∧ am_Ca X d 6014 [.ref o, a0] st (am_af am_m8011 4 [v0, v1, v2, v3] sk (fun pc lc sk st => am_g d X am_m8011 pc lc sk st Q) Q)) := am_gu.trans rfl
theorem u8011_7 {v0 : Value} {v1 : Value} {v2 : Value} {v3 : Value} {x : Int32} : am_g d X am_m8011 7 [v0, v1, v2, v3] (.int x :: sk) st Q = am_g d X am_m8011 8 [v0, v1, v2, v3] (.long x.toInt64 :: sk) st Q := am_gu.trans rfl
theorem u8011_8 {v0 : Value} {v1 : Value} {v2 : Value} {v3 : Value} : am_g d X am_m8011 8 [v0, v1, v2, v3] sk st Q = am_js 9 [v0, v1, v2, v3] sk st (fun pc lc sk st => am_g d X am_m8011 pc lc sk st Q) := am_gu.trans rfl
theorem u8011_9 {v0 : Value} {v1 : Value} {v2 : Value} {v3 : Value} : am_g d X am_m8011 9 [v0, v1, v2, v3] sk st Q = am_g d X am_m8011 18 [v0, v1, v2, v3] sk st Q := am_gu.trans rfl
theorem u8011_13 {v0 : Value} {v1 : Value} {v2 : Value} {v3 : Value} : am_g d X am_m8011 13 [v0, v1, v2, v3] sk st Q = am_g d X am_m8011 14 [v0, v1, v2, v3] (.int (am_i 1) :: sk) st Q := am_gu.trans rfl
theorem u8011_14 {v0 : Value} {v1 : Value} {v2 : Value} {v3 : Value} {x : Int32} : am_g d X am_m8011 14 [v0, v1, v2, v3] [.int x] st Q = Q (.inl (some (.int x))) st := am_gu.trans rfl
theorem u8011_16 {v0 : Value} {v1 : Value} {v2 : Value} {v3 : Value} : am_g d X am_m8011 16 [v0, v1, v2, v3] sk st Q = am_g d X am_m8011 17 [v0, v1, v2, v3] (.int (am_i 2) :: sk) st Q := am_gu.trans rfl
theorem u8011_17 {v0 : Value} {v1 : Value} {v2 : Value} {v3 : Value} {x : Int32} : am_g d X am_m8011 17 [v0, v1, v2, v3] [.int x] st Q = Q (.inl (some (.int x))) st := am_gu.trans rfl
theorem u8011_18 {v0 : Value} {v1 : Value} {v2 : Value} {v3 : Value} : am_g d X am_m8011 18 [v0, v1, v2, v3] sk st Q = am_g d X am_m8011 19 [v0, v1, v2, v3] (.int (am_i 0) :: sk) st Q := am_gu.trans rfl
theorem u8011_19 {v0 : Value} {v1 : Value} {v2 : Value} {v3 : Value} {x : Int32} : am_g d X am_m8011 19 [v0, v1, v2, v3] [.int x] st Q = Q (.inl (some (.int x))) st := am_gu.trans rfl
set_option maxRecDepth 100000 in
theorem of_8012 : am_of 8012 = some am_m8012 := rfl
theorem c8012 {a0 a1 a2} {P : am_Q} : am_Ca X (d + 1) 8012 [.ref a0, .int a1, .ref a2] st P = am_g d X am_m8012 0 [.ref a0, .int a1, .ref a2, am_u] [] st P := am_cg of_8012 (by show 3 ≤ 4; decide)
theorem u8012_0 {v0 : Value} {v1 : Value} {v3 : Value} {x : Nat} : am_g d X am_m8012 0 [v0, v1, .ref x, v3] sk st Q = am_g d X am_m8012 1 [v0, v1, .ref x, v3] (.ref x :: sk) st Q := am_gu.trans rfl
theorem u8012_1 {v0 : Value} {v1 : Value} {v2 : Value} {v3 : Value} : am_g d X am_m8012 1 [v0, v1, v2, v3] sk st Q = am_g d X am_m8012 2 [v0, v1, v2, v3] (.int (am_i 0) :: sk) st Q := am_gu.trans rfl
theorem u8012_2 {v1 : Value} {v2 : Value} {v3 : Value} {x : Nat} : am_g d X am_m8012 2 [.ref x, v1, v2, v3] sk st Q = am_g d X am_m8012 3 [.ref x, v1, v2, v3] (.ref x :: sk) st Q := am_gu.trans rfl
theorem u8012_3 {v0 : Value} {v2 : Value} {v3 : Value} {x : Int32} : am_g d X am_m8012 3 [v0, .int x, v2, v3] sk st Q = am_g d X am_m8012 4 [v0, .int x, v2, v3] (.int x :: sk) st Q := am_gu.trans rfl
theorem u8012_4 {a0 : Value} {v0 : Value} {v1 : Value} {v2 : Value} {v3 : Value} : am_g d X am_m8012 4 [v0, v1, v2, v3] (a0 :: .ref o :: sk) st Q = ((am_ob st o 6 ∧ sk.length ≤ 4) ∧ am_Ca X d 6015 [.ref o, a0] st (am_af am_m8012 4 [v0, v1, v2, v3] sk (fun pc lc sk st => am_g d X am_m8012 pc lc sk st Q) Q)) := am_gu.trans rfl
theorem u8012_7 {v0 : Value} {v1 : Value} {v2 : Value} {v3 : Value} {x : Int32} : am_g d X am_m8012 7 [v0, v1, v2, v3] (.int x :: sk) st Q = am_g d X am_m8012 8 [v0, v1, v2, v3] (.long x.toInt64 :: sk) st Q := am_gu.trans rfl
theorem u8012_8 {v0 : Value} {v1 : Value} {v2 : Value} {v3 : Value} : am_g d X am_m8012 8 [v0, v1, v2, v3] sk st Q = am_js 9 [v0, v1, v2, v3] sk st (fun pc lc sk st => am_g d X am_m8012 pc lc sk st Q) := am_gu.trans rfl
theorem u8012_9 {v0 : Value} {v1 : Value} {v2 : Value} {v3 : Value} : am_g d X am_m8012 9 [v0, v1, v2, v3] sk st Q = am_g d X am_m8012 18 [v0, v1, v2, v3] sk st Q := am_gu.trans rfl
theorem u8012_13 {v0 : Value} {v1 : Value} {v2 : Value} {v3 : Value} : am_g d X am_m8012 13 [v0, v1, v2, v3] sk st Q = am_g d X am_m8012 14 [v0, v1, v2, v3] (.int (am_i 1) :: sk) st Q := am_gu.trans rfl
theorem u8012_14 {v0 : Value} {v1 : Value} {v2 : Value} {v3 : Value} {x : Int32} : am_g d X am_m8012 14 [v0, v1, v2, v3] [.int x] st Q = Q (.inl (some (.int x))) st := am_gu.trans rfl
theorem u8012_16 {v0 : Value} {v1 : Value} {v2 : Value} {v3 : Value} : am_g d X am_m8012 16 [v0, v1, v2, v3] sk st Q = am_g d X am_m8012 17 [v0, v1, v2, v3] (.int (am_i 2) :: sk) st Q := am_gu.trans rfl
theorem u8012_17 {v0 : Value} {v1 : Value} {v2 : Value} {v3 : Value} {x : Int32} : am_g d X am_m8012 17 [v0, v1, v2, v3] [.int x] st Q = Q (.inl (some (.int x))) st := am_gu.trans rfl
theorem u8012_18 {v0 : Value} {v1 : Value} {v2 : Value} {v3 : Value} : am_g d X am_m8012 18 [v0, v1, v2, v3] sk st Q = am_g d X am_m8012 19 [v0, v1, v2, v3] (.int (am_i 0) :: sk) st Q := am_gu.trans rfl
theorem u8012_19 {v0 : Value} {v1 : Value} {v2 : Value} {v3 : Value} {x : Int32} : am_g d X am_m8012 19 [v0, v1, v2, v3] [.int x] st Q = Q (.inl (some (.int x))) st := am_gu.trans rfl
set_option maxRecDepth 100000 in
theorem of_8013 : am_of 8013 = some am_m8013 := rfl
theorem c8013 {a0 a1 a2} {P : am_Q} : am_Ca X (d + 1) 8013 [.ref a0, .int a1, .ref a2] st P = am_g d X am_m8013 0 [.ref a0, .int a1, .ref a2, am_u] [] st P := am_cg of_8013 (by show 3 ≤ 4; decide)
theorem u8013_0 {v0 : Value} {v1 : Value} {v3 : Value} {x : Nat} : am_g d X am_m8013 0 [v0, v1, .ref x, v3] sk st Q = am_g d X am_m8013 1 [v0, v1, .ref x, v3] (.ref x :: sk) st Q := am_gu.trans rfl
theorem u8013_1 {v0 : Value} {v1 : Value} {v2 : Value} {v3 : Value} : am_g d X am_m8013 1 [v0, v1, v2, v3] sk st Q = am_g d X am_m8013 2 [v0, v1, v2, v3] (.int (am_i 0) :: sk) st Q := am_gu.trans rfl
theorem u8013_2 {v1 : Value} {v2 : Value} {v3 : Value} {x : Nat} : am_g d X am_m8013 2 [.ref x, v1, v2, v3] sk st Q = am_g d X am_m8013 3 [.ref x, v1, v2, v3] (.ref x :: sk) st Q := am_gu.trans rfl
theorem u8013_3 {v0 : Value} {v2 : Value} {v3 : Value} {x : Int32} : am_g d X am_m8013 3 [v0, .int x, v2, v3] sk st Q = am_g d X am_m8013 4 [v0, .int x, v2, v3] (.int x :: sk) st Q := am_gu.trans rfl
theorem u8013_4 {a0 : Value} {v0 : Value} {v1 : Value} {v2 : Value} {v3 : Value} : am_g d X am_m8013 4 [v0, v1, v2, v3] (a0 :: .ref o :: sk) st Q = ((am_ob st o 6 ∧ sk.length ≤ 4) ∧ am_Ca X d 6016 [.ref o, a0] st (am_af am_m8013 4 [v0, v1, v2, v3] sk (fun pc lc sk st => am_g d X am_m8013 pc lc sk st Q) Q)) := am_gu.trans rfl
theorem u8013_7 {v0 : Value} {v1 : Value} {v2 : Value} {v3 : Value} {x : Int32} : am_g d X am_m8013 7 [v0, v1, v2, v3] (.int x :: sk) st Q = am_g d X am_m8013 8 [v0, v1, v2, v3] (.long x.toInt64 :: sk) st Q := am_gu.trans rfl
theorem u8013_8 {v0 : Value} {v1 : Value} {v2 : Value} {v3 : Value} : am_g d X am_m8013 8 [v0, v1, v2, v3] sk st Q = am_js 9 [v0, v1, v2, v3] sk st (fun pc lc sk st => am_g d X am_m8013 pc lc sk st Q) := am_gu.trans rfl
theorem u8013_9 {v0 : Value} {v1 : Value} {v2 : Value} {v3 : Value} : am_g d X am_m8013 9 [v0, v1, v2, v3] sk st Q = am_g d X am_m8013 18 [v0, v1, v2, v3] sk st Q := am_gu.trans rfl
theorem u8013_13 {v0 : Value} {v1 : Value} {v2 : Value} {v3 : Value} : am_g d X am_m8013 13 [v0, v1, v2, v3] sk st Q = am_g d X am_m8013 14 [v0, v1, v2, v3] (.int (am_i 1) :: sk) st Q := am_gu.trans rfl
theorem u8013_14 {v0 : Value} {v1 : Value} {v2 : Value} {v3 : Value} {x : Int32} : am_g d X am_m8013 14 [v0, v1, v2, v3] [.int x] st Q = Q (.inl (some (.int x))) st := am_gu.trans rfl
theorem u8013_16 {v0 : Value} {v1 : Value} {v2 : Value} {v3 : Value} : am_g d X am_m8013 16 [v0, v1, v2, v3] sk st Q = am_g d X am_m8013 17 [v0, v1, v2, v3] (.int (am_i 2) :: sk) st Q := am_gu.trans rfl
theorem u8013_17 {v0 : Value} {v1 : Value} {v2 : Value} {v3 : Value} {x : Int32} : am_g d X am_m8013 17 [v0, v1, v2, v3] [.int x] st Q = Q (.inl (some (.int x))) st := am_gu.trans rfl
theorem u8013_18 {v0 : Value} {v1 : Value} {v2 : Value} {v3 : Value} : am_g d X am_m8013 18 [v0, v1, v2, v3] sk st Q = am_g d X am_m8013 19 [v0, v1, v2, v3] (.int (am_i 0) :: sk) st Q := am_gu.trans rfl
theorem u8013_19 {v0 : Value} {v1 : Value} {v2 : Value} {v3 : Value} {x : Int32} : am_g d X am_m8013 19 [v0, v1, v2, v3] [.int x] st Q = Q (.inl (some (.int x))) st := am_gu.trans rfl
set_option maxRecDepth 100000 in
theorem of_8014 : am_of 8014 = some am_m8014 := rfl
theorem c8014 {a0 a1 a2} {P : am_Q} : am_Ca X (d + 1) 8014 [.ref a0, .int a1, .ref a2] st P = am_g d X am_m8014 0 [.ref a0, .int a1, .ref a2, am_u] [] st P := am_cg of_8014 (by show 3 ≤ 4; decide)
theorem u8014_0 {v0 : Value} {v1 : Value} {v3 : Value} {x : Nat} : am_g d X am_m8014 0 [v0, v1, .ref x, v3] sk st Q = am_g d X am_m8014 1 [v0, v1, .ref x, v3] (.ref x :: sk) st Q := am_gu.trans rfl
theorem u8014_1 {v0 : Value} {v1 : Value} {v2 : Value} {v3 : Value} : am_g d X am_m8014 1 [v0, v1, v2, v3] sk st Q = am_g d X am_m8014 2 [v0, v1, v2, v3] (.int (am_i 0) :: sk) st Q := am_gu.trans rfl
theorem u8014_2 {v1 : Value} {v2 : Value} {v3 : Value} {x : Nat} : am_g d X am_m8014 2 [.ref x, v1, v2, v3] sk st Q = am_g d X am_m8014 3 [.ref x, v1, v2, v3] (.ref x :: sk) st Q := am_gu.trans rfl
theorem u8014_3 {v0 : Value} {v2 : Value} {v3 : Value} {x : Int32} : am_g d X am_m8014 3 [v0, .int x, v2, v3] sk st Q = am_g d X am_m8014 4 [v0, .int x, v2, v3] (.int x :: sk) st Q := am_gu.trans rfl
theorem u8014_4 {a0 : Value} {v0 : Value} {v1 : Value} {v2 : Value} {v3 : Value} : am_g d X am_m8014 4 [v0, v1, v2, v3] (a0 :: .ref o :: sk) st Q = ((am_ob st o 6 ∧ sk.length ≤ 4) ∧ am_Ca X d 6017 [.ref o, a0] st (am_af am_m8014 4 [v0, v1, v2, v3] sk (fun pc lc sk st => am_g d X am_m8014 pc lc sk st Q) Q)) := am_gu.trans rfl
theorem u8014_7 {v0 : Value} {v1 : Value} {v2 : Value} {v3 : Value} {x : Int32} : am_g d X am_m8014 7 [v0, v1, v2, v3] (.int x :: sk) st Q = am_g d X am_m8014 8 [v0, v1, v2, v3] (.long x.toInt64 :: sk) st Q := am_gu.trans rfl
theorem u8014_8 {v0 : Value} {v1 : Value} {v2 : Value} {v3 : Value} : am_g d X am_m8014 8 [v0, v1, v2, v3] sk st Q = am_js 9 [v0, v1, v2, v3] sk st (fun pc lc sk st => am_g d X am_m8014 pc lc sk st Q) := am_gu.trans rfl
theorem u8014_9 {v0 : Value} {v1 : Value} {v2 : Value} {v3 : Value} : am_g d X am_m8014 9 [v0, v1, v2, v3] sk st Q = am_g d X am_m8014 18 [v0, v1, v2, v3] sk st Q := am_gu.trans rfl
theorem u8014_13 {v0 : Value} {v1 : Value} {v2 : Value} {v3 : Value} : am_g d X am_m8014 13 [v0, v1, v2, v3] sk st Q = am_g d X am_m8014 14 [v0, v1, v2, v3] (.int (am_i 1) :: sk) st Q := am_gu.trans rfl
theorem u8014_14 {v0 : Value} {v1 : Value} {v2 : Value} {v3 : Value} {x : Int32} : am_g d X am_m8014 14 [v0, v1, v2, v3] [.int x] st Q = Q (.inl (some (.int x))) st := am_gu.trans rfl
theorem u8014_16 {v0 : Value} {v1 : Value} {v2 : Value} {v3 : Value} : am_g d X am_m8014 16 [v0, v1, v2, v3] sk st Q = am_g d X am_m8014 17 [v0, v1, v2, v3] (.int (am_i 2) :: sk) st Q := am_gu.trans rfl
theorem u8014_17 {v0 : Value} {v1 : Value} {v2 : Value} {v3 : Value} {x : Int32} : am_g d X am_m8014 17 [v0, v1, v2, v3] [.int x] st Q = Q (.inl (some (.int x))) st := am_gu.trans rfl
theorem u8014_18 {v0 : Value} {v1 : Value} {v2 : Value} {v3 : Value} : am_g d X am_m8014 18 [v0, v1, v2, v3] sk st Q = am_g d X am_m8014 19 [v0, v1, v2, v3] (.int (am_i 0) :: sk) st Q := am_gu.trans rfl
theorem u8014_19 {v0 : Value} {v1 : Value} {v2 : Value} {v3 : Value} {x : Int32} : am_g d X am_m8014 19 [v0, v1, v2, v3] [.int x] st Q = Q (.inl (some (.int x))) st := am_gu.trans rfl
set_option maxRecDepth 100000 in
theorem of_8015 : am_of 8015 = some am_m8015 := rfl
theorem c8015 {a0 a1 a2 a3 a4} {P : am_Q} : am_Ca X (d + 1) 8015 [.ref a0, .int a1, .int a2, .int a3, .ref a4] st P = am_g d X am_m8015 0 [.ref a0, .int a1, .int a2, .int a3, .ref a4, am_u] [] st P := am_cg of_8015 (by show 5 ≤ 6; decide)
theorem u8015_0 {v0 : Value} {v1 : Value} {v2 : Value} {v3 : Value} {v5 : Value} {x : Nat} : am_g d X am_m8015 0 [v0, v1, v2, v3, .ref x, v5] sk st Q = am_g d X am_m8015 2 [v0, v1, v2, v3, .ref x, v5] (.ref x :: sk) st Q := am_gu.trans rfl
theorem u8015_2 {v0 : Value} {v1 : Value} {v2 : Value} {v3 : Value} {v4 : Value} {v5 : Value} : am_g d X am_m8015 2 [v0, v1, v2, v3, v4, v5] sk st Q = am_g d X am_m8015 3 [v0, v1, v2, v3, v4, v5] (.int (am_i 0) :: sk) st Q := am_gu.trans rfl
theorem u8015_3 {v1 : Value} {v2 : Value} {v3 : Value} {v4 : Value} {v5 : Value} {x : Nat} : am_g d X am_m8015 3 [.ref x, v1, v2, v3, v4, v5] sk st Q = am_g d X am_m8015 4 [.ref x, v1, v2, v3, v4, v5] (.ref x :: sk) st Q := am_gu.trans rfl
theorem u8015_4 {v0 : Value} {v2 : Value} {v3 : Value} {v4 : Value} {v5 : Value} {x : Int32} : am_g d X am_m8015 4 [v0, .int x, v2, v3, v4, v5] sk st Q = am_g d X am_m8015 5 [v0, .int x, v2, v3, v4, v5] (.int x :: sk) st Q := am_gu.trans rfl
theorem u8015_5 {v0 : Value} {v1 : Value} {v3 : Value} {v4 : Value} {v5 : Value} {x : Int32} : am_g d X am_m8015 5 [v0, v1, .int x, v3, v4, v5] sk st Q = am_g d X am_m8015 6 [v0, v1, .int x, v3, v4, v5] (.int x :: sk) st Q := am_gu.trans rfl
theorem u8015_6 {v0 : Value} {v1 : Value} {v2 : Value} {v4 : Value} {v5 : Value} {x : Int32} : am_g d X am_m8015 6 [v0, v1, v2, .int x, v4, v5] sk st Q = am_g d X am_m8015 7 [v0, v1, v2, .int x, v4, v5] (.int x :: sk) st Q := am_gu.trans rfl
theorem u8015_7 {a0 : Value} {a1 : Value} {a2 : Value} {v0 : Value} {v1 : Value} {v2 : Value} {v3 : Value} {v4 : Value} {v5 : Value} : am_g d X am_m8015 7 [v0, v1, v2, v3, v4, v5] (a2 :: a1 :: a0 :: .ref o :: sk) st Q = ((am_ob st o 6 ∧ sk.length ≤ 4) ∧ am_Ca X d 6018 [.ref o, a0, a1, a2] st (am_af am_m8015 7 [v0, v1, v2, v3, v4, v5] sk (fun pc lc sk st => am_g d X am_m8015 pc lc sk st Q) Q)) := am_gu.trans rfl
theorem u8015_10 {v0 : Value} {v1 : Value} {v2 : Value} {v3 : Value} {v4 : Value} {v5 : Value} {x : Int32} : am_g d X am_m8015 10 [v0, v1, v2, v3, v4, v5] (.int x :: sk) st Q = am_g d X am_m8015 11 [v0, v1, v2, v3, v4, v5] (.long x.toInt64 :: sk) st Q := am_gu.trans rfl
theorem u8015_11 {v0 : Value} {v1 : Value} {v2 : Value} {v3 : Value} {v4 : Value} {v5 : Value} : am_g d X am_m8015 11 [v0, v1, v2, v3, v4, v5] sk st Q = am_js 12 [v0, v1, v2, v3, v4, v5] sk st (fun pc lc sk st => am_g d X am_m8015 pc lc sk st Q) := am_gu.trans rfl
theorem u8015_12 {v0 : Value} {v1 : Value} {v2 : Value} {v3 : Value} {v4 : Value} {v5 : Value} : am_g d X am_m8015 12 [v0, v1, v2, v3, v4, v5] sk st Q = am_g d X am_m8015 23 [v0, v1, v2, v3, v4, v5] sk st Q := am_gu.trans rfl
theorem u8015_17 {v0 : Value} {v1 : Value} {v2 : Value} {v3 : Value} {v4 : Value} {v5 : Value} : am_g d X am_m8015 17 [v0, v1, v2, v3, v4, v5] sk st Q = am_g d X am_m8015 18 [v0, v1, v2, v3, v4, v5] (.int (am_i 1) :: sk) st Q := am_gu.trans rfl
theorem u8015_18 {v0 : Value} {v1 : Value} {v2 : Value} {v3 : Value} {v4 : Value} {v5 : Value} {x : Int32} : am_g d X am_m8015 18 [v0, v1, v2, v3, v4, v5] [.int x] st Q = Q (.inl (some (.int x))) st := am_gu.trans rfl
theorem u8015_21 {v0 : Value} {v1 : Value} {v2 : Value} {v3 : Value} {v4 : Value} {v5 : Value} : am_g d X am_m8015 21 [v0, v1, v2, v3, v4, v5] sk st Q = am_g d X am_m8015 22 [v0, v1, v2, v3, v4, v5] (.int (am_i 2) :: sk) st Q := am_gu.trans rfl
theorem u8015_22 {v0 : Value} {v1 : Value} {v2 : Value} {v3 : Value} {v4 : Value} {v5 : Value} {x : Int32} : am_g d X am_m8015 22 [v0, v1, v2, v3, v4, v5] [.int x] st Q = Q (.inl (some (.int x))) st := am_gu.trans rfl
theorem u8015_23 {v0 : Value} {v1 : Value} {v2 : Value} {v3 : Value} {v4 : Value} {v5 : Value} : am_g d X am_m8015 23 [v0, v1, v2, v3, v4, v5] sk st Q = am_g d X am_m8015 24 [v0, v1, v2, v3, v4, v5] (.int (am_i 0) :: sk) st Q := am_gu.trans rfl
theorem u8015_24 {v0 : Value} {v1 : Value} {v2 : Value} {v3 : Value} {v4 : Value} {v5 : Value} {x : Int32} : am_g d X am_m8015 24 [v0, v1, v2, v3, v4, v5] [.int x] st Q = Q (.inl (some (.int x))) st := am_gu.trans rfl
set_option maxRecDepth 100000 in
theorem of_8016 : am_of 8016 = some am_m8016 := rfl
theorem c8016 {a0 a1} {P : am_Q} : am_Ca X (d + 1) 8016 [.ref a0, .ref a1] st P = am_g d X am_m8016 0 [.ref a0, .ref a1, am_u] [] st P := am_cg of_8016 (by show 2 ≤ 3; decide)
theorem u8016_0 {v0 : Value} {v2 : Value} {x : Nat} : am_g d X am_m8016 0 [v0, .ref x, v2] sk st Q = am_g d X am_m8016 1 [v0, .ref x, v2] (.ref x :: sk) st Q := am_gu.trans rfl
theorem u8016_1 {v0 : Value} {v1 : Value} {v2 : Value} : am_g d X am_m8016 1 [v0, v1, v2] sk st Q = am_g d X am_m8016 2 [v0, v1, v2] (.int (am_i 0) :: sk) st Q := am_gu.trans rfl
theorem u8016_2 {v1 : Value} {v2 : Value} {x : Nat} : am_g d X am_m8016 2 [.ref x, v1, v2] sk st Q = am_g d X am_m8016 3 [.ref x, v1, v2] (.ref x :: sk) st Q := am_gu.trans rfl
theorem u8016_3 {v0 : Value} {v1 : Value} {v2 : Value} : am_g d X am_m8016 3 [v0, v1, v2] (.ref o :: sk) st Q = ((am_ob st o 6 ∧ sk.length ≤ 4) ∧ am_Ca X d 6019 [.ref o] st (am_af am_m8016 3 [v0, v1, v2] sk (fun pc lc sk st => am_g d X am_m8016 pc lc sk st Q) Q)) := am_gu.trans rfl
theorem u8016_6 {v0 : Value} {v1 : Value} {v2 : Value} {x : Int32} : am_g d X am_m8016 6 [v0, v1, v2] (.int x :: sk) st Q = am_g d X am_m8016 7 [v0, v1, v2] (.long x.toInt64 :: sk) st Q := am_gu.trans rfl
theorem u8016_7 {v0 : Value} {v1 : Value} {v2 : Value} : am_g d X am_m8016 7 [v0, v1, v2] sk st Q = am_js 8 [v0, v1, v2] sk st (fun pc lc sk st => am_g d X am_m8016 pc lc sk st Q) := am_gu.trans rfl
theorem u8016_8 {v0 : Value} {v1 : Value} {v2 : Value} : am_g d X am_m8016 8 [v0, v1, v2] sk st Q = am_g d X am_m8016 14 [v0, v1, v2] sk st Q := am_gu.trans rfl
theorem u8016_12 {v0 : Value} {v1 : Value} {v2 : Value} : am_g d X am_m8016 12 [v0, v1, v2] sk st Q = am_g d X am_m8016 13 [v0, v1, v2] (.int (am_i 1) :: sk) st Q := am_gu.trans rfl
theorem u8016_13 {v0 : Value} {v1 : Value} {v2 : Value} {x : Int32} : am_g d X am_m8016 13 [v0, v1, v2] [.int x] st Q = Q (.inl (some (.int x))) st := am_gu.trans rfl
theorem u8016_14 {v0 : Value} {v1 : Value} {v2 : Value} : am_g d X am_m8016 14 [v0, v1, v2] sk st Q = am_g d X am_m8016 15 [v0, v1, v2] (.int (am_i 0) :: sk) st Q := am_gu.trans rfl
theorem u8016_15 {v0 : Value} {v1 : Value} {v2 : Value} {x : Int32} : am_g d X am_m8016 15 [v0, v1, v2] [.int x] st Q = Q (.inl (some (.int x))) st := am_gu.trans rfl
set_option maxRecDepth 100000 in
theorem of_8017 : am_of 8017 = some am_m8017 := rfl
theorem c8017 {a0 a1 a2 a3} {P : am_Q} : am_Ca X (d + 1) 8017 [.ref a0, .int a1, .int a2, .ref a3] st P = am_g d X am_m8017 0 [.ref a0, .int a1, .int a2, .ref a3, am_u] [] st P := am_cg of_8017 (by show 4 ≤ 5; decide)
theorem u8017_0 {v0 : Value} {v1 : Value} {v2 : Value} {v4 : Value} {x : Nat} : am_g d X am_m8017 0 [v0, v1, v2, .ref x, v4] sk st Q = am_g d X am_m8017 1 [v0, v1, v2, .ref x, v4] (.ref x :: sk) st Q := am_gu.trans rfl
theorem u8017_1 {v0 : Value} {v1 : Value} {v2 : Value} {v3 : Value} {v4 : Value} : am_g d X am_m8017 1 [v0, v1, v2, v3, v4] sk st Q = am_g d X am_m8017 2 [v0, v1, v2, v3, v4] (.int (am_i 0) :: sk) st Q := am_gu.trans rfl
theorem u8017_2 {v1 : Value} {v2 : Value} {v3 : Value} {v4 : Value} {x : Nat} : am_g d X am_m8017 2 [.ref x, v1, v2, v3, v4] sk st Q = am_g d X am_m8017 3 [.ref x, v1, v2, v3, v4] (.ref x :: sk) st Q := am_gu.trans rfl
theorem u8017_3 {v0 : Value} {v2 : Value} {v3 : Value} {v4 : Value} {x : Int32} : am_g d X am_m8017 3 [v0, .int x, v2, v3, v4] sk st Q = am_g d X am_m8017 4 [v0, .int x, v2, v3, v4] (.int x :: sk) st Q := am_gu.trans rfl
theorem u8017_4 {v0 : Value} {v1 : Value} {v3 : Value} {v4 : Value} {x : Int32} : am_g d X am_m8017 4 [v0, v1, .int x, v3, v4] sk st Q = am_g d X am_m8017 5 [v0, v1, .int x, v3, v4] (.int x :: sk) st Q := am_gu.trans rfl
theorem u8017_5 {a0 : Value} {a1 : Value} {v0 : Value} {v1 : Value} {v2 : Value} {v3 : Value} {v4 : Value} : am_g d X am_m8017 5 [v0, v1, v2, v3, v4] (a1 :: a0 :: .ref o :: sk) st Q = ((am_ob st o 6 ∧ sk.length ≤ 4) ∧ am_Ca X d 6020 [.ref o, a0, a1] st (am_af am_m8017 5 [v0, v1, v2, v3, v4] sk (fun pc lc sk st => am_g d X am_m8017 pc lc sk st Q) Q)) := am_gu.trans rfl
theorem u8017_8 {v0 : Value} {v1 : Value} {v2 : Value} {v3 : Value} {v4 : Value} {x : Int32} : am_g d X am_m8017 8 [v0, v1, v2, v3, v4] (.int x :: sk) st Q = (if decide (x = 0) = true then am_g d X am_m8017 15 [v0, v1, v2, v3, v4] sk st Q else am_g d X am_m8017 11 [v0, v1, v2, v3, v4] sk st Q) := am_gu.trans rfl
theorem u8017_11 {v0 : Value} {v1 : Value} {v2 : Value} {v3 : Value} {v4 : Value} : am_g d X am_m8017 11 [v0, v1, v2, v3, v4] sk st Q = am_g d X am_m8017 12 [v0, v1, v2, v3, v4] (.long 1 :: sk) st Q := am_gu.trans rfl
theorem u8017_12 {v0 : Value} {v1 : Value} {v2 : Value} {v3 : Value} {v4 : Value} : am_g d X am_m8017 12 [v0, v1, v2, v3, v4] sk st Q = am_g d X am_m8017 16 [v0, v1, v2, v3, v4] sk st Q := am_gu.trans rfl
theorem u8017_15 {v0 : Value} {v1 : Value} {v2 : Value} {v3 : Value} {v4 : Value} : am_g d X am_m8017 15 [v0, v1, v2, v3, v4] sk st Q = am_g d X am_m8017 16 [v0, v1, v2, v3, v4] (.long 0 :: sk) st Q := am_gu.trans rfl
theorem u8017_16 {v0 : Value} {v1 : Value} {v2 : Value} {v3 : Value} {v4 : Value} : am_g d X am_m8017 16 [v0, v1, v2, v3, v4] sk st Q = am_js 17 [v0, v1, v2, v3, v4] sk st (fun pc lc sk st => am_g d X am_m8017 pc lc sk st Q) := am_gu.trans rfl
theorem u8017_17 {v0 : Value} {v1 : Value} {v2 : Value} {v3 : Value} {v4 : Value} : am_g d X am_m8017 17 [v0, v1, v2, v3, v4] sk st Q = am_g d X am_m8017 24 [v0, v1, v2, v3, v4] sk st Q := am_gu.trans rfl
theorem u8017_22 {v0 : Value} {v1 : Value} {v2 : Value} {v3 : Value} {v4 : Value} : am_g d X am_m8017 22 [v0, v1, v2, v3, v4] sk st Q = am_g d X am_m8017 23 [v0, v1, v2, v3, v4] (.int (am_i 1) :: sk) st Q := am_gu.trans rfl
theorem u8017_23 {v0 : Value} {v1 : Value} {v2 : Value} {v3 : Value} {v4 : Value} {x : Int32} : am_g d X am_m8017 23 [v0, v1, v2, v3, v4] [.int x] st Q = Q (.inl (some (.int x))) st := am_gu.trans rfl
theorem u8017_24 {v0 : Value} {v1 : Value} {v2 : Value} {v3 : Value} {v4 : Value} : am_g d X am_m8017 24 [v0, v1, v2, v3, v4] sk st Q = am_g d X am_m8017 25 [v0, v1, v2, v3, v4] (.int (am_i 0) :: sk) st Q := am_gu.trans rfl
theorem u8017_25 {v0 : Value} {v1 : Value} {v2 : Value} {v3 : Value} {v4 : Value} {x : Int32} : am_g d X am_m8017 25 [v0, v1, v2, v3, v4] [.int x] st Q = Q (.inl (some (.int x))) st := am_gu.trans rfl
set_option maxRecDepth 100000 in
theorem of_8018 : am_of 8018 = some am_m8018 := rfl
theorem c8018 {a0 a1 a2 a3} {P : am_Q} : am_Ca X (d + 1) 8018 [.ref a0, .int a1, .int a2, .ref a3] st P = am_g d X am_m8018 0 [.ref a0, .int a1, .int a2, .ref a3, am_u] [] st P := am_cg of_8018 (by show 4 ≤ 5; decide)
theorem u8018_0 {v0 : Value} {v1 : Value} {v2 : Value} {v4 : Value} {x : Nat} : am_g d X am_m8018 0 [v0, v1, v2, .ref x, v4] sk st Q = am_g d X am_m8018 1 [v0, v1, v2, .ref x, v4] (.ref x :: sk) st Q := am_gu.trans rfl
theorem u8018_1 {v0 : Value} {v1 : Value} {v2 : Value} {v3 : Value} {v4 : Value} : am_g d X am_m8018 1 [v0, v1, v2, v3, v4] sk st Q = am_g d X am_m8018 2 [v0, v1, v2, v3, v4] (.int (am_i 0) :: sk) st Q := am_gu.trans rfl
theorem u8018_2 {v1 : Value} {v2 : Value} {v3 : Value} {v4 : Value} {x : Nat} : am_g d X am_m8018 2 [.ref x, v1, v2, v3, v4] sk st Q = am_g d X am_m8018 3 [.ref x, v1, v2, v3, v4] (.ref x :: sk) st Q := am_gu.trans rfl
theorem u8018_3 {v0 : Value} {v2 : Value} {v3 : Value} {v4 : Value} {x : Int32} : am_g d X am_m8018 3 [v0, .int x, v2, v3, v4] sk st Q = am_g d X am_m8018 4 [v0, .int x, v2, v3, v4] (.int x :: sk) st Q := am_gu.trans rfl
theorem u8018_4 {v0 : Value} {v1 : Value} {v3 : Value} {v4 : Value} {x : Int32} : am_g d X am_m8018 4 [v0, v1, .int x, v3, v4] sk st Q = am_g d X am_m8018 5 [v0, v1, .int x, v3, v4] (.int x :: sk) st Q := am_gu.trans rfl
theorem u8018_5 {a0 : Value} {a1 : Value} {v0 : Value} {v1 : Value} {v2 : Value} {v3 : Value} {v4 : Value} : am_g d X am_m8018 5 [v0, v1, v2, v3, v4] (a1 :: a0 :: .ref o :: sk) st Q = ((am_ob st o 6 ∧ sk.length ≤ 4) ∧ am_Ca X d 6021 [.ref o, a0, a1] st (am_af am_m8018 5 [v0, v1, v2, v3, v4] sk (fun pc lc sk st => am_g d X am_m8018 pc lc sk st Q) Q)) := am_gu.trans rfl
theorem u8018_8 {v0 : Value} {v1 : Value} {v2 : Value} {v3 : Value} {v4 : Value} {x : Int32} : am_g d X am_m8018 8 [v0, v1, v2, v3, v4] (.int x :: sk) st Q = am_g d X am_m8018 9 [v0, v1, v2, v3, v4] (.long x.toInt64 :: sk) st Q := am_gu.trans rfl
theorem u8018_9 {v0 : Value} {v1 : Value} {v2 : Value} {v3 : Value} {v4 : Value} : am_g d X am_m8018 9 [v0, v1, v2, v3, v4] sk st Q = am_js 10 [v0, v1, v2, v3, v4] sk st (fun pc lc sk st => am_g d X am_m8018 pc lc sk st Q) := am_gu.trans rfl
theorem u8018_10 {v0 : Value} {v1 : Value} {v2 : Value} {v3 : Value} {v4 : Value} : am_g d X am_m8018 10 [v0, v1, v2, v3, v4] sk st Q = am_g d X am_m8018 21 [v0, v1, v2, v3, v4] sk st Q := am_gu.trans rfl
theorem u8018_15 {v0 : Value} {v1 : Value} {v2 : Value} {v3 : Value} {v4 : Value} : am_g d X am_m8018 15 [v0, v1, v2, v3, v4] sk st Q = am_g d X am_m8018 16 [v0, v1, v2, v3, v4] (.int (am_i 1) :: sk) st Q := am_gu.trans rfl
theorem u8018_16 {v0 : Value} {v1 : Value} {v2 : Value} {v3 : Value} {v4 : Value} {x : Int32} : am_g d X am_m8018 16 [v0, v1, v2, v3, v4] [.int x] st Q = Q (.inl (some (.int x))) st := am_gu.trans rfl
theorem u8018_19 {v0 : Value} {v1 : Value} {v2 : Value} {v3 : Value} {v4 : Value} : am_g d X am_m8018 19 [v0, v1, v2, v3, v4] sk st Q = am_g d X am_m8018 20 [v0, v1, v2, v3, v4] (.int (am_i 2) :: sk) st Q := am_gu.trans rfl
theorem u8018_20 {v0 : Value} {v1 : Value} {v2 : Value} {v3 : Value} {v4 : Value} {x : Int32} : am_g d X am_m8018 20 [v0, v1, v2, v3, v4] [.int x] st Q = Q (.inl (some (.int x))) st := am_gu.trans rfl
theorem u8018_21 {v0 : Value} {v1 : Value} {v2 : Value} {v3 : Value} {v4 : Value} : am_g d X am_m8018 21 [v0, v1, v2, v3, v4] sk st Q = am_g d X am_m8018 22 [v0, v1, v2, v3, v4] (.int (am_i 0) :: sk) st Q := am_gu.trans rfl
theorem u8018_22 {v0 : Value} {v1 : Value} {v2 : Value} {v3 : Value} {v4 : Value} {x : Int32} : am_g d X am_m8018 22 [v0, v1, v2, v3, v4] [.int x] st Q = Q (.inl (some (.int x))) st := am_gu.trans rfl
set_option maxRecDepth 100000 in
theorem of_8019 : am_of 8019 = some am_m8019 := rfl
theorem c8019 {a0 a1 a2 a3} {P : am_Q} : am_Ca X (d + 1) 8019 [.ref a0, .int a1, .int a2, .ref a3] st P = am_g d X am_m8019 0 [.ref a0, .int a1, .int a2, .ref a3, am_u] [] st P := am_cg of_8019 (by show 4 ≤ 5; decide)
theorem u8019_0 {v0 : Value} {v1 : Value} {v2 : Value} {v4 : Value} {x : Nat} : am_g d X am_m8019 0 [v0, v1, v2, .ref x, v4] sk st Q = am_g d X am_m8019 1 [v0, v1, v2, .ref x, v4] (.ref x :: sk) st Q := am_gu.trans rfl
theorem u8019_1 {v0 : Value} {v1 : Value} {v2 : Value} {v3 : Value} {v4 : Value} : am_g d X am_m8019 1 [v0, v1, v2, v3, v4] sk st Q = am_g d X am_m8019 2 [v0, v1, v2, v3, v4] (.int (am_i 0) :: sk) st Q := am_gu.trans rfl
theorem u8019_2 {v1 : Value} {v2 : Value} {v3 : Value} {v4 : Value} {x : Nat} : am_g d X am_m8019 2 [.ref x, v1, v2, v3, v4] sk st Q = am_g d X am_m8019 3 [.ref x, v1, v2, v3, v4] (.ref x :: sk) st Q := am_gu.trans rfl
theorem u8019_3 {v0 : Value} {v2 : Value} {v3 : Value} {v4 : Value} {x : Int32} : am_g d X am_m8019 3 [v0, .int x, v2, v3, v4] sk st Q = am_g d X am_m8019 4 [v0, .int x, v2, v3, v4] (.int x :: sk) st Q := am_gu.trans rfl
theorem u8019_4 {v0 : Value} {v1 : Value} {v3 : Value} {v4 : Value} {x : Int32} : am_g d X am_m8019 4 [v0, v1, .int x, v3, v4] sk st Q = am_g d X am_m8019 5 [v0, v1, .int x, v3, v4] (.int x :: sk) st Q := am_gu.trans rfl
theorem u8019_5 {a0 : Value} {a1 : Value} {v0 : Value} {v1 : Value} {v2 : Value} {v3 : Value} {v4 : Value} : am_g d X am_m8019 5 [v0, v1, v2, v3, v4] (a1 :: a0 :: .ref o :: sk) st Q = ((am_ob st o 6 ∧ sk.length ≤ 4) ∧ am_Ca X d 6027 [.ref o, a0, a1] st (am_af am_m8019 5 [v0, v1, v2, v3, v4] sk (fun pc lc sk st => am_g d X am_m8019 pc lc sk st Q) Q)) := am_gu.trans rfl
theorem u8019_8 {v0 : Value} {v1 : Value} {v2 : Value} {v3 : Value} {v4 : Value} {x : Int32} : am_g d X am_m8019 8 [v0, v1, v2, v3, v4] (.int x :: sk) st Q = am_g d X am_m8019 9 [v0, v1, v2, v3, v4] (.long x.toInt64 :: sk) st Q := am_gu.trans rfl
theorem u8019_9 {v0 : Value} {v1 : Value} {v2 : Value} {v3 : Value} {v4 : Value} : am_g d X am_m8019 9 [v0, v1, v2, v3, v4] sk st Q = am_js 10 [v0, v1, v2, v3, v4] sk st (fun pc lc sk st => am_g d X am_m8019 pc lc sk st Q) := am_gu.trans rfl
theorem u8019_10 {v0 : Value} {v1 : Value} {v2 : Value} {v3 : Value} {v4 : Value} : am_g d X am_m8019 10 [v0, v1, v2, v3, v4] sk st Q = am_g d X am_m8019 17 [v0, v1, v2, v3, v4] sk st Q := am_gu.trans rfl
theorem u8019_15 {v0 : Value} {v1 : Value} {v2 : Value} {v3 : Value} {v4 : Value} : am_g d X am_m8019 15 [v0, v1, v2, v3, v4] sk st Q = am_g d X am_m8019 16 [v0, v1, v2, v3, v4] (.int (am_i 1) :: sk) st Q := am_gu.trans rfl
theorem u8019_16 {v0 : Value} {v1 : Value} {v2 : Value} {v3 : Value} {v4 : Value} {x : Int32} : am_g d X am_m8019 16 [v0, v1, v2, v3, v4] [.int x] st Q = Q (.inl (some (.int x))) st := am_gu.trans rfl
theorem u8019_17 {v0 : Value} {v1 : Value} {v2 : Value} {v3 : Value} {v4 : Value} : am_g d X am_m8019 17 [v0, v1, v2, v3, v4] sk st Q = am_g d X am_m8019 18 [v0, v1, v2, v3, v4] (.int (am_i 0) :: sk) st Q := am_gu.trans rfl
theorem u8019_18 {v0 : Value} {v1 : Value} {v2 : Value} {v3 : Value} {v4 : Value} {x : Int32} : am_g d X am_m8019 18 [v0, v1, v2, v3, v4] [.int x] st Q = Q (.inl (some (.int x))) st := am_gu.trans rfl
set_option maxRecDepth 100000 in
theorem of_8020 : am_of 8020 = some am_m8020 := rfl
theorem c8020 {a0 a1 a2 a3} {P : am_Q} : am_Ca X (d + 1) 8020 [.ref a0, .int a1, .int a2, .ref a3] st P = am_g d X am_m8020 0 [.ref a0, .int a1, .int a2, .ref a3, am_u] [] st P := am_cg of_8020 (by show 4 ≤ 5; decide)
theorem u8020_0 {v0 : Value} {v1 : Value} {v2 : Value} {v4 : Value} {x : Nat} : am_g d X am_m8020 0 [v0, v1, v2, .ref x, v4] sk st Q = am_g d X am_m8020 1 [v0, v1, v2, .ref x, v4] (.ref x :: sk) st Q := am_gu.trans rfl
theorem u8020_1 {v0 : Value} {v1 : Value} {v2 : Value} {v3 : Value} {v4 : Value} : am_g d X am_m8020 1 [v0, v1, v2, v3, v4] sk st Q = am_g d X am_m8020 2 [v0, v1, v2, v3, v4] (.int (am_i 0) :: sk) st Q := am_gu.trans rfl
theorem u8020_2 {v1 : Value} {v2 : Value} {v3 : Value} {v4 : Value} {x : Nat} : am_g d X am_m8020 2 [.ref x, v1, v2, v3, v4] sk st Q = am_g d X am_m8020 3 [.ref x, v1, v2, v3, v4] (.ref x :: sk) st Q := am_gu.trans rfl
theorem u8020_3 {v0 : Value} {v2 : Value} {v3 : Value} {v4 : Value} {x : Int32} : am_g d X am_m8020 3 [v0, .int x, v2, v3, v4] sk st Q = am_g d X am_m8020 4 [v0, .int x, v2, v3, v4] (.int x :: sk) st Q := am_gu.trans rfl
theorem u8020_4 {v0 : Value} {v1 : Value} {v3 : Value} {v4 : Value} {x : Int32} : am_g d X am_m8020 4 [v0, v1, .int x, v3, v4] sk st Q = am_g d X am_m8020 5 [v0, v1, .int x, v3, v4] (.int x :: sk) st Q := am_gu.trans rfl
theorem u8020_5 {a0 : Value} {a1 : Value} {v0 : Value} {v1 : Value} {v2 : Value} {v3 : Value} {v4 : Value} : am_g d X am_m8020 5 [v0, v1, v2, v3, v4] (a1 :: a0 :: .ref o :: sk) st Q = ((am_ob st o 6 ∧ sk.length ≤ 4) ∧ am_Ca X d 6028 [.ref o, a0, a1] st (am_af am_m8020 5 [v0, v1, v2, v3, v4] sk (fun pc lc sk st => am_g d X am_m8020 pc lc sk st Q) Q)) := am_gu.trans rfl
theorem u8020_8 {v0 : Value} {v1 : Value} {v2 : Value} {v3 : Value} {v4 : Value} {x : Int32} : am_g d X am_m8020 8 [v0, v1, v2, v3, v4] (.int x :: sk) st Q = (if decide (x = 0) = true then am_g d X am_m8020 15 [v0, v1, v2, v3, v4] sk st Q else am_g d X am_m8020 11 [v0, v1, v2, v3, v4] sk st Q) := am_gu.trans rfl
theorem u8020_11 {v0 : Value} {v1 : Value} {v2 : Value} {v3 : Value} {v4 : Value} : am_g d X am_m8020 11 [v0, v1, v2, v3, v4] sk st Q = am_g d X am_m8020 12 [v0, v1, v2, v3, v4] (.long 1 :: sk) st Q := am_gu.trans rfl
theorem u8020_12 {v0 : Value} {v1 : Value} {v2 : Value} {v3 : Value} {v4 : Value} : am_g d X am_m8020 12 [v0, v1, v2, v3, v4] sk st Q = am_g d X am_m8020 16 [v0, v1, v2, v3, v4] sk st Q := am_gu.trans rfl
theorem u8020_15 {v0 : Value} {v1 : Value} {v2 : Value} {v3 : Value} {v4 : Value} : am_g d X am_m8020 15 [v0, v1, v2, v3, v4] sk st Q = am_g d X am_m8020 16 [v0, v1, v2, v3, v4] (.long 0 :: sk) st Q := am_gu.trans rfl
theorem u8020_16 {v0 : Value} {v1 : Value} {v2 : Value} {v3 : Value} {v4 : Value} : am_g d X am_m8020 16 [v0, v1, v2, v3, v4] sk st Q = am_js 17 [v0, v1, v2, v3, v4] sk st (fun pc lc sk st => am_g d X am_m8020 pc lc sk st Q) := am_gu.trans rfl
theorem u8020_17 {v0 : Value} {v1 : Value} {v2 : Value} {v3 : Value} {v4 : Value} : am_g d X am_m8020 17 [v0, v1, v2, v3, v4] sk st Q = am_g d X am_m8020 24 [v0, v1, v2, v3, v4] sk st Q := am_gu.trans rfl
theorem u8020_22 {v0 : Value} {v1 : Value} {v2 : Value} {v3 : Value} {v4 : Value} : am_g d X am_m8020 22 [v0, v1, v2, v3, v4] sk st Q = am_g d X am_m8020 23 [v0, v1, v2, v3, v4] (.int (am_i 1) :: sk) st Q := am_gu.trans rfl
theorem u8020_23 {v0 : Value} {v1 : Value} {v2 : Value} {v3 : Value} {v4 : Value} {x : Int32} : am_g d X am_m8020 23 [v0, v1, v2, v3, v4] [.int x] st Q = Q (.inl (some (.int x))) st := am_gu.trans rfl
theorem u8020_24 {v0 : Value} {v1 : Value} {v2 : Value} {v3 : Value} {v4 : Value} : am_g d X am_m8020 24 [v0, v1, v2, v3, v4] sk st Q = am_g d X am_m8020 25 [v0, v1, v2, v3, v4] (.int (am_i 0) :: sk) st Q := am_gu.trans rfl
theorem u8020_25 {v0 : Value} {v1 : Value} {v2 : Value} {v3 : Value} {v4 : Value} {x : Int32} : am_g d X am_m8020 25 [v0, v1, v2, v3, v4] [.int x] st Q = Q (.inl (some (.int x))) st := am_gu.trans rfl
set_option maxRecDepth 100000 in
theorem of_8021 : am_of 8021 = some am_m8021 := rfl
theorem c8021 {a0 a1 a2 a3 a4} {P : am_Q} : am_Ca X (d + 1) 8021 [.ref a0, .int a1, .int a2, .int a3, .ref a4] st P = am_g d X am_m8021 0 [.ref a0, .int a1, .int a2, .int a3, .ref a4, am_u] [] st P := am_cg of_8021 (by show 5 ≤ 6; decide)
theorem u8021_0 {v0 : Value} {v1 : Value} {v2 : Value} {v3 : Value} {v5 : Value} {x : Nat} : am_g d X am_m8021 0 [v0, v1, v2, v3, .ref x, v5] sk st Q = am_g d X am_m8021 2 [v0, v1, v2, v3, .ref x, v5] (.ref x :: sk) st Q := am_gu.trans rfl
theorem u8021_2 {v0 : Value} {v1 : Value} {v2 : Value} {v3 : Value} {v4 : Value} {v5 : Value} : am_g d X am_m8021 2 [v0, v1, v2, v3, v4, v5] sk st Q = am_g d X am_m8021 3 [v0, v1, v2, v3, v4, v5] (.int (am_i 0) :: sk) st Q := am_gu.trans rfl
theorem u8021_3 {v1 : Value} {v2 : Value} {v3 : Value} {v4 : Value} {v5 : Value} {x : Nat} : am_g d X am_m8021 3 [.ref x, v1, v2, v3, v4, v5] sk st Q = am_g d X am_m8021 4 [.ref x, v1, v2, v3, v4, v5] (.ref x :: sk) st Q := am_gu.trans rfl
theorem u8021_4 {v0 : Value} {v2 : Value} {v3 : Value} {v4 : Value} {v5 : Value} {x : Int32} : am_g d X am_m8021 4 [v0, .int x, v2, v3, v4, v5] sk st Q = am_g d X am_m8021 5 [v0, .int x, v2, v3, v4, v5] (.int x :: sk) st Q := am_gu.trans rfl
theorem u8021_5 {v0 : Value} {v1 : Value} {v3 : Value} {v4 : Value} {v5 : Value} {x : Int32} : am_g d X am_m8021 5 [v0, v1, .int x, v3, v4, v5] sk st Q = am_g d X am_m8021 6 [v0, v1, .int x, v3, v4, v5] (.int x :: sk) st Q := am_gu.trans rfl
theorem u8021_6 {v0 : Value} {v1 : Value} {v2 : Value} {v4 : Value} {v5 : Value} {x : Int32} : am_g d X am_m8021 6 [v0, v1, v2, .int x, v4, v5] sk st Q = am_g d X am_m8021 7 [v0, v1, v2, .int x, v4, v5] (.int x :: sk) st Q := am_gu.trans rfl
theorem u8021_7 {a0 : Value} {a1 : Value} {a2 : Value} {v0 : Value} {v1 : Value} {v2 : Value} {v3 : Value} {v4 : Value} {v5 : Value} : am_g d X am_m8021 7 [v0, v1, v2, v3, v4, v5] (a2 :: a1 :: a0 :: .ref o :: sk) st Q = ((am_ob st o 6 ∧ sk.length ≤ 4) ∧ am_Ca X d 6030 [.ref o, a0, a1, a2] st (am_af am_m8021 7 [v0, v1, v2, v3, v4, v5] sk (fun pc lc sk st => am_g d X am_m8021 pc lc sk st Q) Q)) := am_gu.trans rfl
theorem u8021_10 {v0 : Value} {v1 : Value} {v2 : Value} {v3 : Value} {v4 : Value} {v5 : Value} {x : Int32} : am_g d X am_m8021 10 [v0, v1, v2, v3, v4, v5] (.int x :: sk) st Q = am_g d X am_m8021 11 [v0, v1, v2, v3, v4, v5] (.long x.toInt64 :: sk) st Q := am_gu.trans rfl
theorem u8021_11 {v0 : Value} {v1 : Value} {v2 : Value} {v3 : Value} {v4 : Value} {v5 : Value} : am_g d X am_m8021 11 [v0, v1, v2, v3, v4, v5] sk st Q = am_js 12 [v0, v1, v2, v3, v4, v5] sk st (fun pc lc sk st => am_g d X am_m8021 pc lc sk st Q) := am_gu.trans rfl
theorem u8021_12 {v0 : Value} {v1 : Value} {v2 : Value} {v3 : Value} {v4 : Value} {v5 : Value} : am_g d X am_m8021 12 [v0, v1, v2, v3, v4, v5] sk st Q = am_g d X am_m8021 19 [v0, v1, v2, v3, v4, v5] sk st Q := am_gu.trans rfl
theorem u8021_17 {v0 : Value} {v1 : Value} {v2 : Value} {v3 : Value} {v4 : Value} {v5 : Value} : am_g d X am_m8021 17 [v0, v1, v2, v3, v4, v5] sk st Q = am_g d X am_m8021 18 [v0, v1, v2, v3, v4, v5] (.int (am_i 1) :: sk) st Q := am_gu.trans rfl
theorem u8021_18 {v0 : Value} {v1 : Value} {v2 : Value} {v3 : Value} {v4 : Value} {v5 : Value} {x : Int32} : am_g d X am_m8021 18 [v0, v1, v2, v3, v4, v5] [.int x] st Q = Q (.inl (some (.int x))) st := am_gu.trans rfl
theorem u8021_19 {v0 : Value} {v1 : Value} {v2 : Value} {v3 : Value} {v4 : Value} {v5 : Value} : am_g d X am_m8021 19 [v0, v1, v2, v3, v4, v5] sk st Q = am_g d X am_m8021 20 [v0, v1, v2, v3, v4, v5] (.int (am_i 0) :: sk) st Q := am_gu.trans rfl
theorem u8021_20 {v0 : Value} {v1 : Value} {v2 : Value} {v3 : Value} {v4 : Value} {v5 : Value} {x : Int32} : am_g d X am_m8021 20 [v0, v1, v2, v3, v4, v5] [.int x] st Q = Q (.inl (some (.int x))) st := am_gu.trans rfl
set_option maxRecDepth 100000 in
theorem of_8022 : am_of 8022 = some am_m8022 := rfl
theorem c8022 {a0 a1 a2 a3} {P : am_Q} : am_Ca X (d + 1) 8022 [.ref a0, .int a1, .int a2, .ref a3] st P = am_g d X am_m8022 0 [.ref a0, .int a1, .int a2, .ref a3, am_u] [] st P := am_cg of_8022 (by show 4 ≤ 5; decide)
theorem u8022_0 {v0 : Value} {v1 : Value} {v2 : Value} {v4 : Value} {x : Nat} : am_g d X am_m8022 0 [v0, v1, v2, .ref x, v4] sk st Q = am_g d X am_m8022 1 [v0, v1, v2, .ref x, v4] (.ref x :: sk) st Q := am_gu.trans rfl
theorem u8022_1 {v0 : Value} {v1 : Value} {v2 : Value} {v3 : Value} {v4 : Value} : am_g d X am_m8022 1 [v0, v1, v2, v3, v4] sk st Q = am_g d X am_m8022 2 [v0, v1, v2, v3, v4] (.int (am_i 0) :: sk) st Q := am_gu.trans rfl
theorem u8022_2 {v1 : Value} {v2 : Value} {v3 : Value} {v4 : Value} {x : Nat} : am_g d X am_m8022 2 [.ref x, v1, v2, v3, v4] sk st Q = am_g d X am_m8022 3 [.ref x, v1, v2, v3, v4] (.ref x :: sk) st Q := am_gu.trans rfl
theorem u8022_3 {v0 : Value} {v2 : Value} {v3 : Value} {v4 : Value} {x : Int32} : am_g d X am_m8022 3 [v0, .int x, v2, v3, v4] sk st Q = am_g d X am_m8022 4 [v0, .int x, v2, v3, v4] (.int x :: sk) st Q := am_gu.trans rfl
theorem u8022_4 {v0 : Value} {v1 : Value} {v3 : Value} {v4 : Value} {x : Int32} : am_g d X am_m8022 4 [v0, v1, .int x, v3, v4] sk st Q = am_g d X am_m8022 5 [v0, v1, .int x, v3, v4] (.int x :: sk) st Q := am_gu.trans rfl
theorem u8022_5 {a0 : Value} {a1 : Value} {v0 : Value} {v1 : Value} {v2 : Value} {v3 : Value} {v4 : Value} : am_g d X am_m8022 5 [v0, v1, v2, v3, v4] (a1 :: a0 :: .ref o :: sk) st Q = ((am_ob st o 6 ∧ sk.length ≤ 4) ∧ am_Ca X d 6031 [.ref o, a0, a1] st (am_af am_m8022 5 [v0, v1, v2, v3, v4] sk (fun pc lc sk st => am_g d X am_m8022 pc lc sk st Q) Q)) := am_gu.trans rfl
theorem u8022_8 {v0 : Value} {v1 : Value} {v2 : Value} {v3 : Value} {v4 : Value} {x : Int32} : am_g d X am_m8022 8 [v0, v1, v2, v3, v4] (.int x :: sk) st Q = am_g d X am_m8022 9 [v0, v1, v2, v3, v4] (.long x.toInt64 :: sk) st Q := am_gu.trans rfl
theorem u8022_9 {v0 : Value} {v1 : Value} {v2 : Value} {v3 : Value} {v4 : Value} : am_g d X am_m8022 9 [v0, v1, v2, v3, v4] sk st Q = am_js 10 [v0, v1, v2, v3, v4] sk st (fun pc lc sk st => am_g d X am_m8022 pc lc sk st Q) := am_gu.trans rfl
theorem u8022_10 {v0 : Value} {v1 : Value} {v2 : Value} {v3 : Value} {v4 : Value} : am_g d X am_m8022 10 [v0, v1, v2, v3, v4] sk st Q = am_g d X am_m8022 17 [v0, v1, v2, v3, v4] sk st Q := am_gu.trans rfl
theorem u8022_15 {v0 : Value} {v1 : Value} {v2 : Value} {v3 : Value} {v4 : Value} : am_g d X am_m8022 15 [v0, v1, v2, v3, v4] sk st Q = am_g d X am_m8022 16 [v0, v1, v2, v3, v4] (.int (am_i 1) :: sk) st Q := am_gu.trans rfl
theorem u8022_16 {v0 : Value} {v1 : Value} {v2 : Value} {v3 : Value} {v4 : Value} {x : Int32} : am_g d X am_m8022 16 [v0, v1, v2, v3, v4] [.int x] st Q = Q (.inl (some (.int x))) st := am_gu.trans rfl
theorem u8022_17 {v0 : Value} {v1 : Value} {v2 : Value} {v3 : Value} {v4 : Value} : am_g d X am_m8022 17 [v0, v1, v2, v3, v4] sk st Q = am_g d X am_m8022 18 [v0, v1, v2, v3, v4] (.int (am_i 0) :: sk) st Q := am_gu.trans rfl
theorem u8022_18 {v0 : Value} {v1 : Value} {v2 : Value} {v3 : Value} {v4 : Value} {x : Int32} : am_g d X am_m8022 18 [v0, v1, v2, v3, v4] [.int x] st Q = Q (.inl (some (.int x))) st := am_gu.trans rfl
set_option maxRecDepth 100000 in
theorem of_8023 : am_of 8023 = some am_m8023 := rfl
theorem c8023 {a0 a1 a2 a3 a4} {P : am_Q} : am_Ca X (d + 1) 8023 [.ref a0, .int a1, .int a2, .int a3, .ref a4] st P = am_g d X am_m8023 0 [.ref a0, .int a1, .int a2, .int a3, .ref a4, am_u] [] st P := am_cg of_8023 (by show 5 ≤ 6; decide)
theorem u8023_0 {v0 : Value} {v1 : Value} {v2 : Value} {v3 : Value} {v5 : Value} {x : Nat} : am_g d X am_m8023 0 [v0, v1, v2, v3, .ref x, v5] sk st Q = am_g d X am_m8023 2 [v0, v1, v2, v3, .ref x, v5] (.ref x :: sk) st Q := am_gu.trans rfl
theorem u8023_2 {v0 : Value} {v1 : Value} {v2 : Value} {v3 : Value} {v4 : Value} {v5 : Value} : am_g d X am_m8023 2 [v0, v1, v2, v3, v4, v5] sk st Q = am_g d X am_m8023 3 [v0, v1, v2, v3, v4, v5] (.int (am_i 0) :: sk) st Q := am_gu.trans rfl
theorem u8023_3 {v1 : Value} {v2 : Value} {v3 : Value} {v4 : Value} {v5 : Value} {x : Nat} : am_g d X am_m8023 3 [.ref x, v1, v2, v3, v4, v5] sk st Q = am_g d X am_m8023 4 [.ref x, v1, v2, v3, v4, v5] (.ref x :: sk) st Q := am_gu.trans rfl
theorem u8023_4 {v0 : Value} {v2 : Value} {v3 : Value} {v4 : Value} {v5 : Value} {x : Int32} : am_g d X am_m8023 4 [v0, .int x, v2, v3, v4, v5] sk st Q = am_g d X am_m8023 5 [v0, .int x, v2, v3, v4, v5] (.int x :: sk) st Q := am_gu.trans rfl
theorem u8023_5 {v0 : Value} {v1 : Value} {v3 : Value} {v4 : Value} {v5 : Value} {x : Int32} : am_g d X am_m8023 5 [v0, v1, .int x, v3, v4, v5] sk st Q = am_g d X am_m8023 6 [v0, v1, .int x, v3, v4, v5] (.int x :: sk) st Q := am_gu.trans rfl
theorem u8023_6 {v0 : Value} {v1 : Value} {v2 : Value} {v4 : Value} {v5 : Value} {x : Int32} : am_g d X am_m8023 6 [v0, v1, v2, .int x, v4, v5] sk st Q = am_g d X am_m8023 7 [v0, v1, v2, .int x, v4, v5] (.int x :: sk) st Q := am_gu.trans rfl
theorem u8023_7 {a0 : Value} {a1 : Value} {a2 : Value} {v0 : Value} {v1 : Value} {v2 : Value} {v3 : Value} {v4 : Value} {v5 : Value} : am_g d X am_m8023 7 [v0, v1, v2, v3, v4, v5] (a2 :: a1 :: a0 :: .ref o :: sk) st Q = ((am_ob st o 6 ∧ sk.length ≤ 4) ∧ am_Ca X d 6032 [.ref o, a0, a1, a2] st (am_af am_m8023 7 [v0, v1, v2, v3, v4, v5] sk (fun pc lc sk st => am_g d X am_m8023 pc lc sk st Q) Q)) := am_gu.trans rfl
theorem u8023_10 {v0 : Value} {v1 : Value} {v2 : Value} {v3 : Value} {v4 : Value} {v5 : Value} {x : Int32} : am_g d X am_m8023 10 [v0, v1, v2, v3, v4, v5] (.int x :: sk) st Q = am_g d X am_m8023 11 [v0, v1, v2, v3, v4, v5] (.long x.toInt64 :: sk) st Q := am_gu.trans rfl
theorem u8023_11 {v0 : Value} {v1 : Value} {v2 : Value} {v3 : Value} {v4 : Value} {v5 : Value} : am_g d X am_m8023 11 [v0, v1, v2, v3, v4, v5] sk st Q = am_js 12 [v0, v1, v2, v3, v4, v5] sk st (fun pc lc sk st => am_g d X am_m8023 pc lc sk st Q) := am_gu.trans rfl
theorem u8023_12 {v0 : Value} {v1 : Value} {v2 : Value} {v3 : Value} {v4 : Value} {v5 : Value} : am_g d X am_m8023 12 [v0, v1, v2, v3, v4, v5] sk st Q = am_g d X am_m8023 19 [v0, v1, v2, v3, v4, v5] sk st Q := am_gu.trans rfl
theorem u8023_17 {v0 : Value} {v1 : Value} {v2 : Value} {v3 : Value} {v4 : Value} {v5 : Value} : am_g d X am_m8023 17 [v0, v1, v2, v3, v4, v5] sk st Q = am_g d X am_m8023 18 [v0, v1, v2, v3, v4, v5] (.int (am_i 1) :: sk) st Q := am_gu.trans rfl
theorem u8023_18 {v0 : Value} {v1 : Value} {v2 : Value} {v3 : Value} {v4 : Value} {v5 : Value} {x : Int32} : am_g d X am_m8023 18 [v0, v1, v2, v3, v4, v5] [.int x] st Q = Q (.inl (some (.int x))) st := am_gu.trans rfl
theorem u8023_19 {v0 : Value} {v1 : Value} {v2 : Value} {v3 : Value} {v4 : Value} {v5 : Value} : am_g d X am_m8023 19 [v0, v1, v2, v3, v4, v5] sk st Q = am_g d X am_m8023 20 [v0, v1, v2, v3, v4, v5] (.int (am_i 0) :: sk) st Q := am_gu.trans rfl
theorem u8023_20 {v0 : Value} {v1 : Value} {v2 : Value} {v3 : Value} {v4 : Value} {v5 : Value} {x : Int32} : am_g d X am_m8023 20 [v0, v1, v2, v3, v4, v5] [.int x] st Q = Q (.inl (some (.int x))) st := am_gu.trans rfl
set_option maxRecDepth 100000 in
theorem of_8024 : am_of 8024 = some am_m8024 := rfl
theorem c8024 {a0 a1 a2 a3 a4 a5} {P : am_Q} : am_Ca X (d + 1) 8024 [.ref a0, .int a1, .int a2, .int a3, .int a4, .ref a5] st P = am_g d X am_m8024 0 [.ref a0, .int a1, .int a2, .int a3, .int a4, .ref a5, am_u] [] st P := am_cg of_8024 (by show 6 ≤ 7; decide)
theorem u8024_0 {v0 : Value} {v1 : Value} {v2 : Value} {v3 : Value} {v4 : Value} {v6 : Value} {x : Nat} : am_g d X am_m8024 0 [v0, v1, v2, v3, v4, .ref x, v6] sk st Q = am_g d X am_m8024 2 [v0, v1, v2, v3, v4, .ref x, v6] (.ref x :: sk) st Q := am_gu.trans rfl
theorem u8024_2 {v0 : Value} {v1 : Value} {v2 : Value} {v3 : Value} {v4 : Value} {v5 : Value} {v6 : Value} : am_g d X am_m8024 2 [v0, v1, v2, v3, v4, v5, v6] sk st Q = am_g d X am_m8024 3 [v0, v1, v2, v3, v4, v5, v6] (.int (am_i 0) :: sk) st Q := am_gu.trans rfl
theorem u8024_3 {v1 : Value} {v2 : Value} {v3 : Value} {v4 : Value} {v5 : Value} {v6 : Value} {x : Nat} : am_g d X am_m8024 3 [.ref x, v1, v2, v3, v4, v5, v6] sk st Q = am_g d X am_m8024 4 [.ref x, v1, v2, v3, v4, v5, v6] (.ref x :: sk) st Q := am_gu.trans rfl
theorem u8024_4 {v0 : Value} {v2 : Value} {v3 : Value} {v4 : Value} {v5 : Value} {v6 : Value} {x : Int32} : am_g d X am_m8024 4 [v0, .int x, v2, v3, v4, v5, v6] sk st Q = am_g d X am_m8024 5 [v0, .int x, v2, v3, v4, v5, v6] (.int x :: sk) st Q := am_gu.trans rfl
theorem u8024_5 {v0 : Value} {v1 : Value} {v3 : Value} {v4 : Value} {v5 : Value} {v6 : Value} {x : Int32} : am_g d X am_m8024 5 [v0, v1, .int x, v3, v4, v5, v6] sk st Q = am_g d X am_m8024 6 [v0, v1, .int x, v3, v4, v5, v6] (.int x :: sk) st Q := am_gu.trans rfl
theorem u8024_6 {v0 : Value} {v1 : Value} {v2 : Value} {v4 : Value} {v5 : Value} {v6 : Value} {x : Int32} : am_g d X am_m8024 6 [v0, v1, v2, .int x, v4, v5, v6] sk st Q = am_g d X am_m8024 7 [v0, v1, v2, .int x, v4, v5, v6] (.int x :: sk) st Q := am_gu.trans rfl
theorem u8024_7 {v0 : Value} {v1 : Value} {v2 : Value} {v3 : Value} {v5 : Value} {v6 : Value} {x : Int32} : am_g d X am_m8024 7 [v0, v1, v2, v3, .int x, v5, v6] sk st Q = am_g d X am_m8024 9 [v0, v1, v2, v3, .int x, v5, v6] (.int x :: sk) st Q := am_gu.trans rfl
theorem u8024_9 {a0 : Value} {a1 : Value} {a2 : Value} {a3 : Value} {v0 : Value} {v1 : Value} {v2 : Value} {v3 : Value} {v4 : Value} {v5 : Value} {v6 : Value} : am_g d X am_m8024 9 [v0, v1, v2, v3, v4, v5, v6] (a3 :: a2 :: a1 :: a0 :: .ref o :: sk) st Q = ((am_ob st o 6 ∧ sk.length ≤ 4) ∧ am_Ca X d 6033 [.ref o, a0, a1, a2, a3] st (am_af am_m8024 9 [v0, v1, v2, v3, v4, v5, v6] sk (fun pc lc sk st => am_g d X am_m8024 pc lc sk st Q) Q)) := am_gu.trans rfl
theorem u8024_12 {v0 : Value} {v1 : Value} {v2 : Value} {v3 : Value} {v4 : Value} {v5 : Value} {v6 : Value} {x : Int32} : am_g d X am_m8024 12 [v0, v1, v2, v3, v4, v5, v6] (.int x :: sk) st Q = am_g d X am_m8024 13 [v0, v1, v2, v3, v4, v5, v6] (.long x.toInt64 :: sk) st Q := am_gu.trans rfl
theorem u8024_13 {v0 : Value} {v1 : Value} {v2 : Value} {v3 : Value} {v4 : Value} {v5 : Value} {v6 : Value} : am_g d X am_m8024 13 [v0, v1, v2, v3, v4, v5, v6] sk st Q = am_js 14 [v0, v1, v2, v3, v4, v5, v6] sk st (fun pc lc sk st => am_g d X am_m8024 pc lc sk st Q) := am_gu.trans rfl
theorem u8024_14 {v0 : Value} {v1 : Value} {v2 : Value} {v3 : Value} {v4 : Value} {v5 : Value} {v6 : Value} : am_g d X am_m8024 14 [v0, v1, v2, v3, v4, v5, v6] sk st Q = am_g d X am_m8024 21 [v0, v1, v2, v3, v4, v5, v6] sk st Q := am_gu.trans rfl
theorem u8024_19 {v0 : Value} {v1 : Value} {v2 : Value} {v3 : Value} {v4 : Value} {v5 : Value} {v6 : Value} : am_g d X am_m8024 19 [v0, v1, v2, v3, v4, v5, v6] sk st Q = am_g d X am_m8024 20 [v0, v1, v2, v3, v4, v5, v6] (.int (am_i 1) :: sk) st Q := am_gu.trans rfl
theorem u8024_20 {v0 : Value} {v1 : Value} {v2 : Value} {v3 : Value} {v4 : Value} {v5 : Value} {v6 : Value} {x : Int32} : am_g d X am_m8024 20 [v0, v1, v2, v3, v4, v5, v6] [.int x] st Q = Q (.inl (some (.int x))) st := am_gu.trans rfl
theorem u8024_21 {v0 : Value} {v1 : Value} {v2 : Value} {v3 : Value} {v4 : Value} {v5 : Value} {v6 : Value} : am_g d X am_m8024 21 [v0, v1, v2, v3, v4, v5, v6] sk st Q = am_g d X am_m8024 22 [v0, v1, v2, v3, v4, v5, v6] (.int (am_i 0) :: sk) st Q := am_gu.trans rfl
theorem u8024_22 {v0 : Value} {v1 : Value} {v2 : Value} {v3 : Value} {v4 : Value} {v5 : Value} {v6 : Value} {x : Int32} : am_g d X am_m8024 22 [v0, v1, v2, v3, v4, v5, v6] [.int x] st Q = Q (.inl (some (.int x))) st := am_gu.trans rfl
set_option maxRecDepth 100000 in
theorem of_8025 : am_of 8025 = some am_m8025 := rfl
theorem c8025 {a0 a1 a2} {P : am_Q} : am_Ca X (d + 1) 8025 [.ref a0, .int a1, .ref a2] st P = am_g d X am_m8025 0 [.ref a0, .int a1, .ref a2, am_u] [] st P := am_cg of_8025 (by show 3 ≤ 4; decide)
theorem u8025_0 {v0 : Value} {v1 : Value} {v3 : Value} {x : Nat} : am_g d X am_m8025 0 [v0, v1, .ref x, v3] sk st Q = am_g d X am_m8025 1 [v0, v1, .ref x, v3] (.ref x :: sk) st Q := am_gu.trans rfl
theorem u8025_1 {v0 : Value} {v1 : Value} {v2 : Value} {v3 : Value} : am_g d X am_m8025 1 [v0, v1, v2, v3] sk st Q = am_g d X am_m8025 2 [v0, v1, v2, v3] (.int (am_i 0) :: sk) st Q := am_gu.trans rfl
theorem u8025_2 {v1 : Value} {v2 : Value} {v3 : Value} {x : Nat} : am_g d X am_m8025 2 [.ref x, v1, v2, v3] sk st Q = am_g d X am_m8025 3 [.ref x, v1, v2, v3] (.ref x :: sk) st Q := am_gu.trans rfl
theorem u8025_3 {v0 : Value} {v2 : Value} {v3 : Value} {x : Int32} : am_g d X am_m8025 3 [v0, .int x, v2, v3] sk st Q = am_g d X am_m8025 4 [v0, .int x, v2, v3] (.int x :: sk) st Q := am_gu.trans rfl
theorem u8025_4 {a0 : Value} {v0 : Value} {v1 : Value} {v2 : Value} {v3 : Value} : am_g d X am_m8025 4 [v0, v1, v2, v3] (a0 :: .ref o :: sk) st Q = ((am_ob st o 6 ∧ sk.length ≤ 4) ∧ am_Ca X d 6036 [.ref o, a0] st (am_af am_m8025 4 [v0, v1, v2, v3] sk (fun pc lc sk st => am_g d X am_m8025 pc lc sk st Q) Q)) := am_gu.trans rfl
theorem u8025_7 {v0 : Value} {v1 : Value} {v2 : Value} {v3 : Value} {x : Int32} : am_g d X am_m8025 7 [v0, v1, v2, v3] (.int x :: sk) st Q = am_g d X am_m8025 8 [v0, v1, v2, v3] (.long x.toInt64 :: sk) st Q := am_gu.trans rfl
theorem u8025_8 {v0 : Value} {v1 : Value} {v2 : Value} {v3 : Value} : am_g d X am_m8025 8 [v0, v1, v2, v3] sk st Q = am_js 9 [v0, v1, v2, v3] sk st (fun pc lc sk st => am_g d X am_m8025 pc lc sk st Q) := am_gu.trans rfl
theorem u8025_9 {v0 : Value} {v1 : Value} {v2 : Value} {v3 : Value} : am_g d X am_m8025 9 [v0, v1, v2, v3] sk st Q = am_g d X am_m8025 15 [v0, v1, v2, v3] sk st Q := am_gu.trans rfl
theorem u8025_13 {v0 : Value} {v1 : Value} {v2 : Value} {v3 : Value} : am_g d X am_m8025 13 [v0, v1, v2, v3] sk st Q = am_g d X am_m8025 14 [v0, v1, v2, v3] (.int (am_i 1) :: sk) st Q := am_gu.trans rfl
theorem u8025_14 {v0 : Value} {v1 : Value} {v2 : Value} {v3 : Value} {x : Int32} : am_g d X am_m8025 14 [v0, v1, v2, v3] [.int x] st Q = Q (.inl (some (.int x))) st := am_gu.trans rfl
theorem u8025_15 {v0 : Value} {v1 : Value} {v2 : Value} {v3 : Value} : am_g d X am_m8025 15 [v0, v1, v2, v3] sk st Q = am_g d X am_m8025 16 [v0, v1, v2, v3] (.int (am_i 0) :: sk) st Q := am_gu.trans rfl
theorem u8025_16 {v0 : Value} {v1 : Value} {v2 : Value} {v3 : Value} {x : Int32} : am_g d X am_m8025 16 [v0, v1, v2, v3] [.int x] st Q = Q (.inl (some (.int x))) st := am_gu.trans rfl
set_option maxRecDepth 100000 in
theorem of_8026 : am_of 8026 = some am_m8026 := rfl
theorem c8026 {a0 a1 a2} {P : am_Q} : am_Ca X (d + 1) 8026 [.ref a0, .int a1, .ref a2] st P = am_g d X am_m8026 0 [.ref a0, .int a1, .ref a2, am_u] [] st P := am_cg of_8026 (by show 3 ≤ 4; decide)
theorem u8026_0 {v0 : Value} {v1 : Value} {v3 : Value} {x : Nat} : am_g d X am_m8026 0 [v0, v1, .ref x, v3] sk st Q = am_g d X am_m8026 1 [v0, v1, .ref x, v3] (.ref x :: sk) st Q := am_gu.trans rfl
theorem u8026_1 {v0 : Value} {v1 : Value} {v2 : Value} {v3 : Value} : am_g d X am_m8026 1 [v0, v1, v2, v3] sk st Q = am_g d X am_m8026 2 [v0, v1, v2, v3] (.int (am_i 0) :: sk) st Q := am_gu.trans rfl
theorem u8026_2 {v1 : Value} {v2 : Value} {v3 : Value} {x : Nat} : am_g d X am_m8026 2 [.ref x, v1, v2, v3] sk st Q = am_g d X am_m8026 3 [.ref x, v1, v2, v3] (.ref x :: sk) st Q := am_gu.trans rfl
theorem u8026_3 {v0 : Value} {v2 : Value} {v3 : Value} {x : Int32} : am_g d X am_m8026 3 [v0, .int x, v2, v3] sk st Q = am_g d X am_m8026 4 [v0, .int x, v2, v3] (.int x :: sk) st Q := am_gu.trans rfl
theorem u8026_4 {a0 : Value} {v0 : Value} {v1 : Value} {v2 : Value} {v3 : Value} : am_g d X am_m8026 4 [v0, v1, v2, v3] (a0 :: .ref o :: sk) st Q = ((am_ob st o 6 ∧ sk.length ≤ 4) ∧ am_Ca X d 6037 [.ref o, a0] st (am_af am_m8026 4 [v0, v1, v2, v3] sk (fun pc lc sk st => am_g d X am_m8026 pc lc sk st Q) Q)) := am_gu.trans rfl
theorem u8026_7 {v0 : Value} {v1 : Value} {v2 : Value} {v3 : Value} {x : Int32} : am_g d X am_m8026 7 [v0, v1, v2, v3] (.int x :: sk) st Q = am_g d X am_m8026 8 [v0, v1, v2, v3] (.long x.toInt64 :: sk) st Q := am_gu.trans rfl
theorem u8026_8 {v0 : Value} {v1 : Value} {v2 : Value} {v3 : Value} : am_g d X am_m8026 8 [v0, v1, v2, v3] sk st Q = am_js 9 [v0, v1, v2, v3] sk st (fun pc lc sk st => am_g d X am_m8026 pc lc sk st Q) := am_gu.trans rfl
theorem u8026_9 {v0 : Value} {v1 : Value} {v2 : Value} {v3 : Value} : am_g d X am_m8026 9 [v0, v1, v2, v3] sk st Q = am_g d X am_m8026 15 [v0, v1, v2, v3] sk st Q := am_gu.trans rfl
theorem u8026_13 {v0 : Value} {v1 : Value} {v2 : Value} {v3 : Value} : am_g d X am_m8026 13 [v0, v1, v2, v3] sk st Q = am_g d X am_m8026 14 [v0, v1, v2, v3] (.int (am_i 1) :: sk) st Q := am_gu.trans rfl
theorem u8026_14 {v0 : Value} {v1 : Value} {v2 : Value} {v3 : Value} {x : Int32} : am_g d X am_m8026 14 [v0, v1, v2, v3] [.int x] st Q = Q (.inl (some (.int x))) st := am_gu.trans rfl
theorem u8026_15 {v0 : Value} {v1 : Value} {v2 : Value} {v3 : Value} : am_g d X am_m8026 15 [v0, v1, v2, v3] sk st Q = am_g d X am_m8026 16 [v0, v1, v2, v3] (.int (am_i 0) :: sk) st Q := am_gu.trans rfl
theorem u8026_16 {v0 : Value} {v1 : Value} {v2 : Value} {v3 : Value} {x : Int32} : am_g d X am_m8026 16 [v0, v1, v2, v3] [.int x] st Q = Q (.inl (some (.int x))) st := am_gu.trans rfl
set_option maxRecDepth 100000 in
theorem of_8027 : am_of 8027 = some am_m8027 := rfl
theorem c8027 {a0 a1 a2} {P : am_Q} : am_Ca X (d + 1) 8027 [.ref a0, .int a1, .ref a2] st P = am_g d X am_m8027 0 [.ref a0, .int a1, .ref a2, am_u] [] st P := am_cg of_8027 (by show 3 ≤ 4; decide)
theorem u8027_0 {v0 : Value} {v1 : Value} {v3 : Value} {x : Nat} : am_g d X am_m8027 0 [v0, v1, .ref x, v3] sk st Q = am_g d X am_m8027 1 [v0, v1, .ref x, v3] (.ref x :: sk) st Q := am_gu.trans rfl
theorem u8027_1 {v0 : Value} {v1 : Value} {v2 : Value} {v3 : Value} : am_g d X am_m8027 1 [v0, v1, v2, v3] sk st Q = am_g d X am_m8027 2 [v0, v1, v2, v3] (.int (am_i 0) :: sk) st Q := am_gu.trans rfl
theorem u8027_2 {v1 : Value} {v2 : Value} {v3 : Value} {x : Nat} : am_g d X am_m8027 2 [.ref x, v1, v2, v3] sk st Q = am_g d X am_m8027 3 [.ref x, v1, v2, v3] (.ref x :: sk) st Q := am_gu.trans rfl
theorem u8027_3 {v0 : Value} {v2 : Value} {v3 : Value} {x : Int32} : am_g d X am_m8027 3 [v0, .int x, v2, v3] sk st Q = am_g d X am_m8027 4 [v0, .int x, v2, v3] (.int x :: sk) st Q := am_gu.trans rfl
theorem u8027_4 {a0 : Value} {v0 : Value} {v1 : Value} {v2 : Value} {v3 : Value} : am_g d X am_m8027 4 [v0, v1, v2, v3] (a0 :: .ref o :: sk) st Q = ((am_ob st o 6 ∧ sk.length ≤ 4) ∧ am_Ca X d 6039 [.ref o, a0] st (am_af am_m8027 4 [v0, v1, v2, v3] sk (fun pc lc sk st => am_g d X am_m8027 pc lc sk st Q) Q)) := am_gu.trans rfl
theorem u8027_7 {v0 : Value} {v1 : Value} {v2 : Value} {v3 : Value} {x : Int32} : am_g d X am_m8027 7 [v0, v1, v2, v3] (.int x :: sk) st Q = (if decide (x = 0) = true then am_g d X am_m8027 14 [v0, v1, v2, v3] sk st Q else am_g d X am_m8027 10 [v0, v1, v2, v3] sk st Q) := am_gu.trans rfl
theorem u8027_10 {v0 : Value} {v1 : Value} {v2 : Value} {v3 : Value} : am_g d X am_m8027 10 [v0, v1, v2, v3] sk st Q = am_g d X am_m8027 11 [v0, v1, v2, v3] (.long 1 :: sk) st Q := am_gu.trans rfl
theorem u8027_11 {v0 : Value} {v1 : Value} {v2 : Value} {v3 : Value} : am_g d X am_m8027 11 [v0, v1, v2, v3] sk st Q = am_g d X am_m8027 15 [v0, v1, v2, v3] sk st Q := am_gu.trans rfl
theorem u8027_14 {v0 : Value} {v1 : Value} {v2 : Value} {v3 : Value} : am_g d X am_m8027 14 [v0, v1, v2, v3] sk st Q = am_g d X am_m8027 15 [v0, v1, v2, v3] (.long 0 :: sk) st Q := am_gu.trans rfl
theorem u8027_15 {v0 : Value} {v1 : Value} {v2 : Value} {v3 : Value} : am_g d X am_m8027 15 [v0, v1, v2, v3] sk st Q = am_js 16 [v0, v1, v2, v3] sk st (fun pc lc sk st => am_g d X am_m8027 pc lc sk st Q) := am_gu.trans rfl
theorem u8027_16 {v0 : Value} {v1 : Value} {v2 : Value} {v3 : Value} : am_g d X am_m8027 16 [v0, v1, v2, v3] sk st Q = am_g d X am_m8027 22 [v0, v1, v2, v3] sk st Q := am_gu.trans rfl
theorem u8027_20 {v0 : Value} {v1 : Value} {v2 : Value} {v3 : Value} : am_g d X am_m8027 20 [v0, v1, v2, v3] sk st Q = am_g d X am_m8027 21 [v0, v1, v2, v3] (.int (am_i 1) :: sk) st Q := am_gu.trans rfl
theorem u8027_21 {v0 : Value} {v1 : Value} {v2 : Value} {v3 : Value} {x : Int32} : am_g d X am_m8027 21 [v0, v1, v2, v3] [.int x] st Q = Q (.inl (some (.int x))) st := am_gu.trans rfl
theorem u8027_22 {v0 : Value} {v1 : Value} {v2 : Value} {v3 : Value} : am_g d X am_m8027 22 [v0, v1, v2, v3] sk st Q = am_g d X am_m8027 23 [v0, v1, v2, v3] (.int (am_i 0) :: sk) st Q := am_gu.trans rfl
theorem u8027_23 {v0 : Value} {v1 : Value} {v2 : Value} {v3 : Value} {x : Int32} : am_g d X am_m8027 23 [v0, v1, v2, v3] [.int x] st Q = Q (.inl (some (.int x))) st := am_gu.trans rfl
set_option maxRecDepth 100000 in
theorem of_8028 : am_of 8028 = some am_m8028 := rfl
theorem c8028 {a0 a1 a2} {P : am_Q} : am_Ca X (d + 1) 8028 [.ref a0, .int a1, .ref a2] st P = am_g d X am_m8028 0 [.ref a0, .int a1, .ref a2, am_u] [] st P := am_cg of_8028 (by show 3 ≤ 4; decide)
theorem u8028_0 {v0 : Value} {v1 : Value} {v3 : Value} {x : Nat} : am_g d X am_m8028 0 [v0, v1, .ref x, v3] sk st Q = am_g d X am_m8028 1 [v0, v1, .ref x, v3] (.ref x :: sk) st Q := am_gu.trans rfl
theorem u8028_1 {v0 : Value} {v1 : Value} {v2 : Value} {v3 : Value} : am_g d X am_m8028 1 [v0, v1, v2, v3] sk st Q = am_g d X am_m8028 2 [v0, v1, v2, v3] (.int (am_i 0) :: sk) st Q := am_gu.trans rfl
theorem u8028_2 {v1 : Value} {v2 : Value} {v3 : Value} {x : Nat} : am_g d X am_m8028 2 [.ref x, v1, v2, v3] sk st Q = am_g d X am_m8028 3 [.ref x, v1, v2, v3] (.ref x :: sk) st Q := am_gu.trans rfl
theorem u8028_3 {v0 : Value} {v2 : Value} {v3 : Value} {x : Int32} : am_g d X am_m8028 3 [v0, .int x, v2, v3] sk st Q = am_g d X am_m8028 4 [v0, .int x, v2, v3] (.int x :: sk) st Q := am_gu.trans rfl
theorem u8028_4 {a0 : Value} {v0 : Value} {v1 : Value} {v2 : Value} {v3 : Value} : am_g d X am_m8028 4 [v0, v1, v2, v3] (a0 :: .ref o :: sk) st Q = ((am_ob st o 6 ∧ sk.length ≤ 4) ∧ am_Ca X d 6040 [.ref o, a0] st (am_af am_m8028 4 [v0, v1, v2, v3] sk (fun pc lc sk st => am_g d X am_m8028 pc lc sk st Q) Q)) := am_gu.trans rfl
theorem u8028_7 {v0 : Value} {v1 : Value} {v2 : Value} {v3 : Value} {x : Int32} : am_g d X am_m8028 7 [v0, v1, v2, v3] (.int x :: sk) st Q = am_g d X am_m8028 8 [v0, v1, v2, v3] (.long x.toInt64 :: sk) st Q := am_gu.trans rfl
theorem u8028_8 {v0 : Value} {v1 : Value} {v2 : Value} {v3 : Value} : am_g d X am_m8028 8 [v0, v1, v2, v3] sk st Q = am_js 9 [v0, v1, v2, v3] sk st (fun pc lc sk st => am_g d X am_m8028 pc lc sk st Q) := am_gu.trans rfl
theorem u8028_9 {v0 : Value} {v1 : Value} {v2 : Value} {v3 : Value} : am_g d X am_m8028 9 [v0, v1, v2, v3] sk st Q = am_g d X am_m8028 18 [v0, v1, v2, v3] sk st Q := am_gu.trans rfl
theorem u8028_13 {v0 : Value} {v1 : Value} {v2 : Value} {v3 : Value} : am_g d X am_m8028 13 [v0, v1, v2, v3] sk st Q = am_g d X am_m8028 14 [v0, v1, v2, v3] (.int (am_i 1) :: sk) st Q := am_gu.trans rfl
theorem u8028_14 {v0 : Value} {v1 : Value} {v2 : Value} {v3 : Value} {x : Int32} : am_g d X am_m8028 14 [v0, v1, v2, v3] [.int x] st Q = Q (.inl (some (.int x))) st := am_gu.trans rfl
theorem u8028_16 {v0 : Value} {v1 : Value} {v2 : Value} {v3 : Value} : am_g d X am_m8028 16 [v0, v1, v2, v3] sk st Q = am_g d X am_m8028 17 [v0, v1, v2, v3] (.int (am_i 2) :: sk) st Q := am_gu.trans rfl
theorem u8028_17 {v0 : Value} {v1 : Value} {v2 : Value} {v3 : Value} {x : Int32} : am_g d X am_m8028 17 [v0, v1, v2, v3] [.int x] st Q = Q (.inl (some (.int x))) st := am_gu.trans rfl
theorem u8028_18 {v0 : Value} {v1 : Value} {v2 : Value} {v3 : Value} : am_g d X am_m8028 18 [v0, v1, v2, v3] sk st Q = am_g d X am_m8028 19 [v0, v1, v2, v3] (.int (am_i 0) :: sk) st Q := am_gu.trans rfl
theorem u8028_19 {v0 : Value} {v1 : Value} {v2 : Value} {v3 : Value} {x : Int32} : am_g d X am_m8028 19 [v0, v1, v2, v3] [.int x] st Q = Q (.inl (some (.int x))) st := am_gu.trans rfl
set_option maxRecDepth 100000 in
theorem of_8029 : am_of 8029 = some am_m8029 := rfl
theorem c8029 {a0 a1 a2 a3} {P : am_Q} : am_Ca X (d + 1) 8029 [.ref a0, .int a1, .int a2, .ref a3] st P = am_g d X am_m8029 0 [.ref a0, .int a1, .int a2, .ref a3, am_u] [] st P := am_cg of_8029 (by show 4 ≤ 5; decide)
theorem u8029_0 {v0 : Value} {v1 : Value} {v2 : Value} {v4 : Value} {x : Nat} : am_g d X am_m8029 0 [v0, v1, v2, .ref x, v4] sk st Q = am_g d X am_m8029 1 [v0, v1, v2, .ref x, v4] (.ref x :: sk) st Q := am_gu.trans rfl
theorem u8029_1 {v0 : Value} {v1 : Value} {v2 : Value} {v3 : Value} {v4 : Value} : am_g d X am_m8029 1 [v0, v1, v2, v3, v4] sk st Q = am_g d X am_m8029 2 [v0, v1, v2, v3, v4] (.int (am_i 0) :: sk) st Q := am_gu.trans rfl
theorem u8029_2 {v1 : Value} {v2 : Value} {v3 : Value} {v4 : Value} {x : Nat} : am_g d X am_m8029 2 [.ref x, v1, v2, v3, v4] sk st Q = am_g d X am_m8029 3 [.ref x, v1, v2, v3, v4] (.ref x :: sk) st Q := am_gu.trans rfl
theorem u8029_3 {v0 : Value} {v2 : Value} {v3 : Value} {v4 : Value} {x : Int32} : am_g d X am_m8029 3 [v0, .int x, v2, v3, v4] sk st Q = am_g d X am_m8029 4 [v0, .int x, v2, v3, v4] (.int x :: sk) st Q := am_gu.trans rfl
theorem u8029_4 {v0 : Value} {v1 : Value} {v3 : Value} {v4 : Value} {x : Int32} : am_g d X am_m8029 4 [v0, v1, .int x, v3, v4] sk st Q = am_g d X am_m8029 5 [v0, v1, .int x, v3, v4] (.int x :: sk) st Q := am_gu.trans rfl
theorem u8029_5 {a0 : Value} {a1 : Value} {v0 : Value} {v1 : Value} {v2 : Value} {v3 : Value} {v4 : Value} : am_g d X am_m8029 5 [v0, v1, v2, v3, v4] (a1 :: a0 :: .ref o :: sk) st Q = ((am_ob st o 6 ∧ sk.length ≤ 4) ∧ am_Ca X d 6045 [.ref o, a0, a1] st (am_af am_m8029 5 [v0, v1, v2, v3, v4] sk (fun pc lc sk st => am_g d X am_m8029 pc lc sk st Q) Q)) := am_gu.trans rfl
theorem u8029_8 {v0 : Value} {v1 : Value} {v2 : Value} {v3 : Value} {v4 : Value} {x : Int32} : am_g d X am_m8029 8 [v0, v1, v2, v3, v4] (.int x :: sk) st Q = (if decide (x = 0) = true then am_g d X am_m8029 15 [v0, v1, v2, v3, v4] sk st Q else am_g d X am_m8029 11 [v0, v1, v2, v3, v4] sk st Q) := am_gu.trans rfl
theorem u8029_11 {v0 : Value} {v1 : Value} {v2 : Value} {v3 : Value} {v4 : Value} : am_g d X am_m8029 11 [v0, v1, v2, v3, v4] sk st Q = am_g d X am_m8029 12 [v0, v1, v2, v3, v4] (.long 1 :: sk) st Q := am_gu.trans rfl
theorem u8029_12 {v0 : Value} {v1 : Value} {v2 : Value} {v3 : Value} {v4 : Value} : am_g d X am_m8029 12 [v0, v1, v2, v3, v4] sk st Q = am_g d X am_m8029 16 [v0, v1, v2, v3, v4] sk st Q := am_gu.trans rfl
theorem u8029_15 {v0 : Value} {v1 : Value} {v2 : Value} {v3 : Value} {v4 : Value} : am_g d X am_m8029 15 [v0, v1, v2, v3, v4] sk st Q = am_g d X am_m8029 16 [v0, v1, v2, v3, v4] (.long 0 :: sk) st Q := am_gu.trans rfl
theorem u8029_16 {v0 : Value} {v1 : Value} {v2 : Value} {v3 : Value} {v4 : Value} : am_g d X am_m8029 16 [v0, v1, v2, v3, v4] sk st Q = am_js 17 [v0, v1, v2, v3, v4] sk st (fun pc lc sk st => am_g d X am_m8029 pc lc sk st Q) := am_gu.trans rfl
theorem u8029_17 {v0 : Value} {v1 : Value} {v2 : Value} {v3 : Value} {v4 : Value} : am_g d X am_m8029 17 [v0, v1, v2, v3, v4] sk st Q = am_g d X am_m8029 24 [v0, v1, v2, v3, v4] sk st Q := am_gu.trans rfl
theorem u8029_22 {v0 : Value} {v1 : Value} {v2 : Value} {v3 : Value} {v4 : Value} : am_g d X am_m8029 22 [v0, v1, v2, v3, v4] sk st Q = am_g d X am_m8029 23 [v0, v1, v2, v3, v4] (.int (am_i 1) :: sk) st Q := am_gu.trans rfl
theorem u8029_23 {v0 : Value} {v1 : Value} {v2 : Value} {v3 : Value} {v4 : Value} {x : Int32} : am_g d X am_m8029 23 [v0, v1, v2, v3, v4] [.int x] st Q = Q (.inl (some (.int x))) st := am_gu.trans rfl
theorem u8029_24 {v0 : Value} {v1 : Value} {v2 : Value} {v3 : Value} {v4 : Value} : am_g d X am_m8029 24 [v0, v1, v2, v3, v4] sk st Q = am_g d X am_m8029 25 [v0, v1, v2, v3, v4] (.int (am_i 0) :: sk) st Q := am_gu.trans rfl
theorem u8029_25 {v0 : Value} {v1 : Value} {v2 : Value} {v3 : Value} {v4 : Value} {x : Int32} : am_g d X am_m8029 25 [v0, v1, v2, v3, v4] [.int x] st Q = Q (.inl (some (.int x))) st := am_gu.trans rfl
set_option maxRecDepth 100000 in
theorem of_8030 : am_of 8030 = some am_m8030 := rfl
theorem c8030 {a0 a1 a2} {P : am_Q} : am_Ca X (d + 1) 8030 [.ref a0, .int a1, .ref a2] st P = am_g d X am_m8030 0 [.ref a0, .int a1, .ref a2, am_u] [] st P := am_cg of_8030 (by show 3 ≤ 4; decide)
theorem u8030_0 {v0 : Value} {v1 : Value} {v3 : Value} {x : Nat} : am_g d X am_m8030 0 [v0, v1, .ref x, v3] sk st Q = am_g d X am_m8030 1 [v0, v1, .ref x, v3] (.ref x :: sk) st Q := am_gu.trans rfl
theorem u8030_1 {v0 : Value} {v1 : Value} {v2 : Value} {v3 : Value} : am_g d X am_m8030 1 [v0, v1, v2, v3] sk st Q = am_g d X am_m8030 2 [v0, v1, v2, v3] (.int (am_i 0) :: sk) st Q := am_gu.trans rfl
theorem u8030_2 {v1 : Value} {v2 : Value} {v3 : Value} {x : Nat} : am_g d X am_m8030 2 [.ref x, v1, v2, v3] sk st Q = am_g d X am_m8030 3 [.ref x, v1, v2, v3] (.ref x :: sk) st Q := am_gu.trans rfl
theorem u8030_3 {v0 : Value} {v2 : Value} {v3 : Value} {x : Int32} : am_g d X am_m8030 3 [v0, .int x, v2, v3] sk st Q = am_g d X am_m8030 4 [v0, .int x, v2, v3] (.int x :: sk) st Q := am_gu.trans rfl
theorem u8030_4 {a0 : Value} {v0 : Value} {v1 : Value} {v2 : Value} {v3 : Value} : am_g d X am_m8030 4 [v0, v1, v2, v3] (a0 :: .ref o :: sk) st Q = ((am_ob st o 6 ∧ sk.length ≤ 4) ∧ am_Ca X d 6046 [.ref o, a0] st (am_af am_m8030 4 [v0, v1, v2, v3] sk (fun pc lc sk st => am_g d X am_m8030 pc lc sk st Q) Q)) := am_gu.trans rfl
theorem u8030_7 {v0 : Value} {v1 : Value} {v2 : Value} {v3 : Value} {x : Int32} : am_g d X am_m8030 7 [v0, v1, v2, v3] (.int x :: sk) st Q = am_g d X am_m8030 8 [v0, v1, v2, v3] (.long x.toInt64 :: sk) st Q := am_gu.trans rfl
theorem u8030_8 {v0 : Value} {v1 : Value} {v2 : Value} {v3 : Value} : am_g d X am_m8030 8 [v0, v1, v2, v3] sk st Q = am_js 9 [v0, v1, v2, v3] sk st (fun pc lc sk st => am_g d X am_m8030 pc lc sk st Q) := am_gu.trans rfl
theorem u8030_9 {v0 : Value} {v1 : Value} {v2 : Value} {v3 : Value} : am_g d X am_m8030 9 [v0, v1, v2, v3] sk st Q = am_g d X am_m8030 15 [v0, v1, v2, v3] sk st Q := am_gu.trans rfl
theorem u8030_13 {v0 : Value} {v1 : Value} {v2 : Value} {v3 : Value} : am_g d X am_m8030 13 [v0, v1, v2, v3] sk st Q = am_g d X am_m8030 14 [v0, v1, v2, v3] (.int (am_i 1) :: sk) st Q := am_gu.trans rfl
theorem u8030_14 {v0 : Value} {v1 : Value} {v2 : Value} {v3 : Value} {x : Int32} : am_g d X am_m8030 14 [v0, v1, v2, v3] [.int x] st Q = Q (.inl (some (.int x))) st := am_gu.trans rfl
theorem u8030_15 {v0 : Value} {v1 : Value} {v2 : Value} {v3 : Value} : am_g d X am_m8030 15 [v0, v1, v2, v3] sk st Q = am_g d X am_m8030 16 [v0, v1, v2, v3] (.int (am_i 0) :: sk) st Q := am_gu.trans rfl
theorem u8030_16 {v0 : Value} {v1 : Value} {v2 : Value} {v3 : Value} {x : Int32} : am_g d X am_m8030 16 [v0, v1, v2, v3] [.int x] st Q = Q (.inl (some (.int x))) st := am_gu.trans rfl
set_option maxRecDepth 100000 in
theorem of_8031 : am_of 8031 = some am_m8031 := rfl
theorem c8031 {a0 a1 a2 a3} {P : am_Q} : am_Ca X (d + 1) 8031 [.ref a0, .int a1, .int a2, .ref a3] st P = am_g d X am_m8031 0 [.ref a0, .int a1, .int a2, .ref a3, am_u] [] st P := am_cg of_8031 (by show 4 ≤ 5; decide)
theorem u8031_0 {v0 : Value} {v1 : Value} {v2 : Value} {v4 : Value} {x : Nat} : am_g d X am_m8031 0 [v0, v1, v2, .ref x, v4] sk st Q = am_g d X am_m8031 1 [v0, v1, v2, .ref x, v4] (.ref x :: sk) st Q := am_gu.trans rfl
theorem u8031_1 {v0 : Value} {v1 : Value} {v2 : Value} {v3 : Value} {v4 : Value} : am_g d X am_m8031 1 [v0, v1, v2, v3, v4] sk st Q = am_g d X am_m8031 2 [v0, v1, v2, v3, v4] (.int (am_i 0) :: sk) st Q := am_gu.trans rfl
theorem u8031_2 {v1 : Value} {v2 : Value} {v3 : Value} {v4 : Value} {x : Nat} : am_g d X am_m8031 2 [.ref x, v1, v2, v3, v4] sk st Q = am_g d X am_m8031 3 [.ref x, v1, v2, v3, v4] (.ref x :: sk) st Q := am_gu.trans rfl
theorem u8031_3 {v0 : Value} {v2 : Value} {v3 : Value} {v4 : Value} {x : Int32} : am_g d X am_m8031 3 [v0, .int x, v2, v3, v4] sk st Q = am_g d X am_m8031 4 [v0, .int x, v2, v3, v4] (.int x :: sk) st Q := am_gu.trans rfl
theorem u8031_4 {v0 : Value} {v1 : Value} {v3 : Value} {v4 : Value} {x : Int32} : am_g d X am_m8031 4 [v0, v1, .int x, v3, v4] sk st Q = am_g d X am_m8031 5 [v0, v1, .int x, v3, v4] (.int x :: sk) st Q := am_gu.trans rfl
theorem u8031_5 {a0 : Value} {a1 : Value} {v0 : Value} {v1 : Value} {v2 : Value} {v3 : Value} {v4 : Value} : am_g d X am_m8031 5 [v0, v1, v2, v3, v4] (a1 :: a0 :: .ref o :: sk) st Q = ((am_ob st o 6 ∧ sk.length ≤ 4) ∧ am_Ca X d 6047 [.ref o, a0, a1] st (am_af am_m8031 5 [v0, v1, v2, v3, v4] sk (fun pc lc sk st => am_g d X am_m8031 pc lc sk st Q) Q)) := am_gu.trans rfl
theorem u8031_8 {v0 : Value} {v1 : Value} {v2 : Value} {v3 : Value} {v4 : Value} {x : Int32} : am_g d X am_m8031 8 [v0, v1, v2, v3, v4] (.int x :: sk) st Q = am_g d X am_m8031 9 [v0, v1, v2, v3, v4] (.long x.toInt64 :: sk) st Q := am_gu.trans rfl
theorem u8031_9 {v0 : Value} {v1 : Value} {v2 : Value} {v3 : Value} {v4 : Value} : am_g d X am_m8031 9 [v0, v1, v2, v3, v4] sk st Q = am_js 10 [v0, v1, v2, v3, v4] sk st (fun pc lc sk st => am_g d X am_m8031 pc lc sk st Q) := am_gu.trans rfl
theorem u8031_10 {v0 : Value} {v1 : Value} {v2 : Value} {v3 : Value} {v4 : Value} : am_g d X am_m8031 10 [v0, v1, v2, v3, v4] sk st Q = am_g d X am_m8031 17 [v0, v1, v2, v3, v4] sk st Q := am_gu.trans rfl
theorem u8031_15 {v0 : Value} {v1 : Value} {v2 : Value} {v3 : Value} {v4 : Value} : am_g d X am_m8031 15 [v0, v1, v2, v3, v4] sk st Q = am_g d X am_m8031 16 [v0, v1, v2, v3, v4] (.int (am_i 1) :: sk) st Q := am_gu.trans rfl
theorem u8031_16 {v0 : Value} {v1 : Value} {v2 : Value} {v3 : Value} {v4 : Value} {x : Int32} : am_g d X am_m8031 16 [v0, v1, v2, v3, v4] [.int x] st Q = Q (.inl (some (.int x))) st := am_gu.trans rfl
theorem u8031_17 {v0 : Value} {v1 : Value} {v2 : Value} {v3 : Value} {v4 : Value} : am_g d X am_m8031 17 [v0, v1, v2, v3, v4] sk st Q = am_g d X am_m8031 18 [v0, v1, v2, v3, v4] (.int (am_i 0) :: sk) st Q := am_gu.trans rfl
theorem u8031_18 {v0 : Value} {v1 : Value} {v2 : Value} {v3 : Value} {v4 : Value} {x : Int32} : am_g d X am_m8031 18 [v0, v1, v2, v3, v4] [.int x] st Q = Q (.inl (some (.int x))) st := am_gu.trans rfl
set_option maxRecDepth 100000 in
theorem of_8032 : am_of 8032 = some am_m8032 := rfl
theorem c8032 {a0 a1 a2 a3} {P : am_Q} : am_Ca X (d + 1) 8032 [.ref a0, .int a1, .int a2, .ref a3] st P = am_g d X am_m8032 0 [.ref a0, .int a1, .int a2, .ref a3, am_u] [] st P := am_cg of_8032 (by show 4 ≤ 5; decide)
theorem u8032_0 {v0 : Value} {v1 : Value} {v2 : Value} {v4 : Value} {x : Nat} : am_g d X am_m8032 0 [v0, v1, v2, .ref x, v4] sk st Q = am_g d X am_m8032 1 [v0, v1, v2, .ref x, v4] (.ref x :: sk) st Q := am_gu.trans rfl
theorem u8032_1 {v0 : Value} {v1 : Value} {v2 : Value} {v3 : Value} {v4 : Value} : am_g d X am_m8032 1 [v0, v1, v2, v3, v4] sk st Q = am_g d X am_m8032 2 [v0, v1, v2, v3, v4] (.int (am_i 0) :: sk) st Q := am_gu.trans rfl
theorem u8032_2 {v1 : Value} {v2 : Value} {v3 : Value} {v4 : Value} {x : Nat} : am_g d X am_m8032 2 [.ref x, v1, v2, v3, v4] sk st Q = am_g d X am_m8032 3 [.ref x, v1, v2, v3, v4] (.ref x :: sk) st Q := am_gu.trans rfl
theorem u8032_3 {v0 : Value} {v2 : Value} {v3 : Value} {v4 : Value} {x : Int32} : am_g d X am_m8032 3 [v0, .int x, v2, v3, v4] sk st Q = am_g d X am_m8032 4 [v0, .int x, v2, v3, v4] (.int x :: sk) st Q := am_gu.trans rfl
theorem u8032_4 {v0 : Value} {v1 : Value} {v3 : Value} {v4 : Value} {x : Int32} : am_g d X am_m8032 4 [v0, v1, .int x, v3, v4] sk st Q = am_g d X am_m8032 5 [v0, v1, .int x, v3, v4] (.int x :: sk) st Q := am_gu.trans rfl
theorem u8032_5 {a0 : Value} {a1 : Value} {v0 : Value} {v1 : Value} {v2 : Value} {v3 : Value} {v4 : Value} : am_g d X am_m8032 5 [v0, v1, v2, v3, v4] (a1 :: a0 :: .ref o :: sk) st Q = ((am_ob st o 6 ∧ sk.length ≤ 4) ∧ am_Ca X d 6048 [.ref o, a0, a1] st (am_af am_m8032 5 [v0, v1, v2, v3, v4] sk (fun pc lc sk st => am_g d X am_m8032 pc lc sk st Q) Q)) := am_gu.trans rfl
theorem u8032_8 {v0 : Value} {v1 : Value} {v2 : Value} {v3 : Value} {v4 : Value} {x : Int32} : am_g d X am_m8032 8 [v0, v1, v2, v3, v4] (.int x :: sk) st Q = am_g d X am_m8032 9 [v0, v1, v2, v3, v4] (.long x.toInt64 :: sk) st Q := am_gu.trans rfl
theorem u8032_9 {v0 : Value} {v1 : Value} {v2 : Value} {v3 : Value} {v4 : Value} : am_g d X am_m8032 9 [v0, v1, v2, v3, v4] sk st Q = am_js 10 [v0, v1, v2, v3, v4] sk st (fun pc lc sk st => am_g d X am_m8032 pc lc sk st Q) := am_gu.trans rfl
theorem u8032_10 {v0 : Value} {v1 : Value} {v2 : Value} {v3 : Value} {v4 : Value} : am_g d X am_m8032 10 [v0, v1, v2, v3, v4] sk st Q = am_g d X am_m8032 17 [v0, v1, v2, v3, v4] sk st Q := am_gu.trans rfl
theorem u8032_15 {v0 : Value} {v1 : Value} {v2 : Value} {v3 : Value} {v4 : Value} : am_g d X am_m8032 15 [v0, v1, v2, v3, v4] sk st Q = am_g d X am_m8032 16 [v0, v1, v2, v3, v4] (.int (am_i 1) :: sk) st Q := am_gu.trans rfl
theorem u8032_16 {v0 : Value} {v1 : Value} {v2 : Value} {v3 : Value} {v4 : Value} {x : Int32} : am_g d X am_m8032 16 [v0, v1, v2, v3, v4] [.int x] st Q = Q (.inl (some (.int x))) st := am_gu.trans rfl
theorem u8032_17 {v0 : Value} {v1 : Value} {v2 : Value} {v3 : Value} {v4 : Value} : am_g d X am_m8032 17 [v0, v1, v2, v3, v4] sk st Q = am_g d X am_m8032 18 [v0, v1, v2, v3, v4] (.int (am_i 0) :: sk) st Q := am_gu.trans rfl
theorem u8032_18 {v0 : Value} {v1 : Value} {v2 : Value} {v3 : Value} {v4 : Value} {x : Int32} : am_g d X am_m8032 18 [v0, v1, v2, v3, v4] [.int x] st Q = Q (.inl (some (.int x))) st := am_gu.trans rfl
set_option maxRecDepth 100000 in
theorem of_8033 : am_of 8033 = some am_m8033 := rfl
theorem c8033 {a0 a1 a2} {P : am_Q} : am_Ca X (d + 1) 8033 [.ref a0, .int a1, .ref a2] st P = am_g d X am_m8033 0 [.ref a0, .int a1, .ref a2, am_u] [] st P := am_cg of_8033 (by show 3 ≤ 4; decide)
theorem u8033_0 {v0 : Value} {v1 : Value} {v3 : Value} {x : Nat} : am_g d X am_m8033 0 [v0, v1, .ref x, v3] sk st Q = am_g d X am_m8033 1 [v0, v1, .ref x, v3] (.ref x :: sk) st Q := am_gu.trans rfl
theorem u8033_1 {v0 : Value} {v1 : Value} {v2 : Value} {v3 : Value} : am_g d X am_m8033 1 [v0, v1, v2, v3] sk st Q = am_g d X am_m8033 2 [v0, v1, v2, v3] (.int (am_i 0) :: sk) st Q := am_gu.trans rfl
theorem u8033_2 {v1 : Value} {v2 : Value} {v3 : Value} {x : Nat} : am_g d X am_m8033 2 [.ref x, v1, v2, v3] sk st Q = am_g d X am_m8033 3 [.ref x, v1, v2, v3] (.ref x :: sk) st Q := am_gu.trans rfl
theorem u8033_3 {v0 : Value} {v2 : Value} {v3 : Value} {x : Int32} : am_g d X am_m8033 3 [v0, .int x, v2, v3] sk st Q = am_g d X am_m8033 4 [v0, .int x, v2, v3] (.int x :: sk) st Q := am_gu.trans rfl
theorem u8033_4 {a0 : Value} {v0 : Value} {v1 : Value} {v2 : Value} {v3 : Value} : am_g d X am_m8033 4 [v0, v1, v2, v3] (a0 :: .ref o :: sk) st Q = ((am_ob st o 6 ∧ sk.length ≤ 4) ∧ am_Ca X d 6049 [.ref o, a0] st (am_af am_m8033 4 [v0, v1, v2, v3] sk (fun pc lc sk st => am_g d X am_m8033 pc lc sk st Q) Q)) := am_gu.trans rfl
theorem u8033_7 {v0 : Value} {v1 : Value} {v2 : Value} {v3 : Value} {x : Int32} : am_g d X am_m8033 7 [v0, v1, v2, v3] (.int x :: sk) st Q = am_g d X am_m8033 8 [v0, v1, v2, v3] (.long x.toInt64 :: sk) st Q := am_gu.trans rfl
theorem u8033_8 {v0 : Value} {v1 : Value} {v2 : Value} {v3 : Value} : am_g d X am_m8033 8 [v0, v1, v2, v3] sk st Q = am_js 9 [v0, v1, v2, v3] sk st (fun pc lc sk st => am_g d X am_m8033 pc lc sk st Q) := am_gu.trans rfl
theorem u8033_9 {v0 : Value} {v1 : Value} {v2 : Value} {v3 : Value} : am_g d X am_m8033 9 [v0, v1, v2, v3] sk st Q = am_g d X am_m8033 15 [v0, v1, v2, v3] sk st Q := am_gu.trans rfl
theorem u8033_13 {v0 : Value} {v1 : Value} {v2 : Value} {v3 : Value} : am_g d X am_m8033 13 [v0, v1, v2, v3] sk st Q = am_g d X am_m8033 14 [v0, v1, v2, v3] (.int (am_i 1) :: sk) st Q := am_gu.trans rfl
theorem u8033_14 {v0 : Value} {v1 : Value} {v2 : Value} {v3 : Value} {x : Int32} : am_g d X am_m8033 14 [v0, v1, v2, v3] [.int x] st Q = Q (.inl (some (.int x))) st := am_gu.trans rfl
theorem u8033_15 {v0 : Value} {v1 : Value} {v2 : Value} {v3 : Value} : am_g d X am_m8033 15 [v0, v1, v2, v3] sk st Q = am_g d X am_m8033 16 [v0, v1, v2, v3] (.int (am_i 0) :: sk) st Q := am_gu.trans rfl
theorem u8033_16 {v0 : Value} {v1 : Value} {v2 : Value} {v3 : Value} {x : Int32} : am_g d X am_m8033 16 [v0, v1, v2, v3] [.int x] st Q = Q (.inl (some (.int x))) st := am_gu.trans rfl
set_option maxRecDepth 100000 in
theorem of_8034 : am_of 8034 = some am_m8034 := rfl
theorem c8034 {a0 a1 a2 a3} {P : am_Q} : am_Ca X (d + 1) 8034 [.ref a0, .int a1, .int a2, .ref a3] st P = am_g d X am_m8034 0 [.ref a0, .int a1, .int a2, .ref a3, am_u] [] st P := am_cg of_8034 (by show 4 ≤ 5; decide)
theorem u8034_0 {v0 : Value} {v1 : Value} {v2 : Value} {v4 : Value} {x : Nat} : am_g d X am_m8034 0 [v0, v1, v2, .ref x, v4] sk st Q = am_g d X am_m8034 1 [v0, v1, v2, .ref x, v4] (.ref x :: sk) st Q := am_gu.trans rfl
theorem u8034_1 {v0 : Value} {v1 : Value} {v2 : Value} {v3 : Value} {v4 : Value} : am_g d X am_m8034 1 [v0, v1, v2, v3, v4] sk st Q = am_g d X am_m8034 2 [v0, v1, v2, v3, v4] (.int (am_i 0) :: sk) st Q := am_gu.trans rfl
theorem u8034_2 {v1 : Value} {v2 : Value} {v3 : Value} {v4 : Value} {x : Nat} : am_g d X am_m8034 2 [.ref x, v1, v2, v3, v4] sk st Q = am_g d X am_m8034 3 [.ref x, v1, v2, v3, v4] (.ref x :: sk) st Q := am_gu.trans rfl
theorem u8034_3 {v0 : Value} {v2 : Value} {v3 : Value} {v4 : Value} {x : Int32} : am_g d X am_m8034 3 [v0, .int x, v2, v3, v4] sk st Q = am_g d X am_m8034 4 [v0, .int x, v2, v3, v4] (.int x :: sk) st Q := am_gu.trans rfl
theorem u8034_4 {v0 : Value} {v1 : Value} {v3 : Value} {v4 : Value} {x : Int32} : am_g d X am_m8034 4 [v0, v1, .int x, v3, v4] sk st Q = am_g d X am_m8034 5 [v0, v1, .int x, v3, v4] (.int x :: sk) st Q := am_gu.trans rfl
theorem u8034_5 {a0 : Value} {a1 : Value} {v0 : Value} {v1 : Value} {v2 : Value} {v3 : Value} {v4 : Value} : am_g d X am_m8034 5 [v0, v1, v2, v3, v4] (a1 :: a0 :: .ref o :: sk) st Q = ((am_ob st o 6 ∧ sk.length ≤ 4) ∧ am_Ca X d 6050 [.ref o, a0, a1] st (am_af am_m8034 5 [v0, v1, v2, v3, v4] sk (fun pc lc sk st => am_g d X am_m8034 pc lc sk st Q) Q)) := am_gu.trans rfl
theorem u8034_8 {v0 : Value} {v1 : Value} {v2 : Value} {v3 : Value} {v4 : Value} {x : Int32} : am_g d X am_m8034 8 [v0, v1, v2, v3, v4] (.int x :: sk) st Q = am_g d X am_m8034 9 [v0, v1, v2, v3, v4] (.long x.toInt64 :: sk) st Q := am_gu.trans rfl
theorem u8034_9 {v0 : Value} {v1 : Value} {v2 : Value} {v3 : Value} {v4 : Value} : am_g d X am_m8034 9 [v0, v1, v2, v3, v4] sk st Q = am_js 10 [v0, v1, v2, v3, v4] sk st (fun pc lc sk st => am_g d X am_m8034 pc lc sk st Q) := am_gu.trans rfl
theorem u8034_10 {v0 : Value} {v1 : Value} {v2 : Value} {v3 : Value} {v4 : Value} : am_g d X am_m8034 10 [v0, v1, v2, v3, v4] sk st Q = am_g d X am_m8034 17 [v0, v1, v2, v3, v4] sk st Q := am_gu.trans rfl
theorem u8034_15 {v0 : Value} {v1 : Value} {v2 : Value} {v3 : Value} {v4 : Value} : am_g d X am_m8034 15 [v0, v1, v2, v3, v4] sk st Q = am_g d X am_m8034 16 [v0, v1, v2, v3, v4] (.int (am_i 1) :: sk) st Q := am_gu.trans rfl
theorem u8034_16 {v0 : Value} {v1 : Value} {v2 : Value} {v3 : Value} {v4 : Value} {x : Int32} : am_g d X am_m8034 16 [v0, v1, v2, v3, v4] [.int x] st Q = Q (.inl (some (.int x))) st := am_gu.trans rfl
theorem u8034_17 {v0 : Value} {v1 : Value} {v2 : Value} {v3 : Value} {v4 : Value} : am_g d X am_m8034 17 [v0, v1, v2, v3, v4] sk st Q = am_g d X am_m8034 18 [v0, v1, v2, v3, v4] (.int (am_i 0) :: sk) st Q := am_gu.trans rfl
theorem u8034_18 {v0 : Value} {v1 : Value} {v2 : Value} {v3 : Value} {v4 : Value} {x : Int32} : am_g d X am_m8034 18 [v0, v1, v2, v3, v4] [.int x] st Q = Q (.inl (some (.int x))) st := am_gu.trans rfl
set_option maxRecDepth 100000 in
theorem of_8035 : am_of 8035 = some am_m8035 := rfl
theorem c8035 {a0 a1 a2 a3} {P : am_Q} : am_Ca X (d + 1) 8035 [.ref a0, .int a1, .int a2, .ref a3] st P = am_g d X am_m8035 0 [.ref a0, .int a1, .int a2, .ref a3, am_u] [] st P := am_cg of_8035 (by show 4 ≤ 5; decide)
theorem u8035_0 {v0 : Value} {v1 : Value} {v2 : Value} {v4 : Value} {x : Nat} : am_g d X am_m8035 0 [v0, v1, v2, .ref x, v4] sk st Q = am_g d X am_m8035 1 [v0, v1, v2, .ref x, v4] (.ref x :: sk) st Q := am_gu.trans rfl
theorem u8035_1 {v0 : Value} {v1 : Value} {v2 : Value} {v3 : Value} {v4 : Value} : am_g d X am_m8035 1 [v0, v1, v2, v3, v4] sk st Q = am_g d X am_m8035 2 [v0, v1, v2, v3, v4] (.int (am_i 0) :: sk) st Q := am_gu.trans rfl
theorem u8035_2 {v1 : Value} {v2 : Value} {v3 : Value} {v4 : Value} {x : Nat} : am_g d X am_m8035 2 [.ref x, v1, v2, v3, v4] sk st Q = am_g d X am_m8035 3 [.ref x, v1, v2, v3, v4] (.ref x :: sk) st Q := am_gu.trans rfl
theorem u8035_3 {v0 : Value} {v2 : Value} {v3 : Value} {v4 : Value} {x : Int32} : am_g d X am_m8035 3 [v0, .int x, v2, v3, v4] sk st Q = am_g d X am_m8035 4 [v0, .int x, v2, v3, v4] (.int x :: sk) st Q := am_gu.trans rfl
theorem u8035_4 {v0 : Value} {v1 : Value} {v3 : Value} {v4 : Value} {x : Int32} : am_g d X am_m8035 4 [v0, v1, .int x, v3, v4] sk st Q = am_g d X am_m8035 5 [v0, v1, .int x, v3, v4] (.int x :: sk) st Q := am_gu.trans rfl
theorem u8035_5 {a0 : Value} {a1 : Value} {v0 : Value} {v1 : Value} {v2 : Value} {v3 : Value} {v4 : Value} : am_g d X am_m8035 5 [v0, v1, v2, v3, v4] (a1 :: a0 :: .ref o :: sk) st Q = ((am_ob st o 6 ∧ sk.length ≤ 4) ∧ am_Ca X d 6051 [.ref o, a0, a1] st (am_af am_m8035 5 [v0, v1, v2, v3, v4] sk (fun pc lc sk st => am_g d X am_m8035 pc lc sk st Q) Q)) := am_gu.trans rfl
theorem u8035_8 {v0 : Value} {v1 : Value} {v2 : Value} {v3 : Value} {v4 : Value} {x : Int32} : am_g d X am_m8035 8 [v0, v1, v2, v3, v4] (.int x :: sk) st Q = am_g d X am_m8035 9 [v0, v1, v2, v3, v4] (.long x.toInt64 :: sk) st Q := am_gu.trans rfl
theorem u8035_9 {v0 : Value} {v1 : Value} {v2 : Value} {v3 : Value} {v4 : Value} : am_g d X am_m8035 9 [v0, v1, v2, v3, v4] sk st Q = am_js 10 [v0, v1, v2, v3, v4] sk st (fun pc lc sk st => am_g d X am_m8035 pc lc sk st Q) := am_gu.trans rfl
theorem u8035_10 {v0 : Value} {v1 : Value} {v2 : Value} {v3 : Value} {v4 : Value} : am_g d X am_m8035 10 [v0, v1, v2, v3, v4] sk st Q = am_g d X am_m8035 17 [v0, v1, v2, v3, v4] sk st Q := am_gu.trans rfl
theorem u8035_15 {v0 : Value} {v1 : Value} {v2 : Value} {v3 : Value} {v4 : Value} : am_g d X am_m8035 15 [v0, v1, v2, v3, v4] sk st Q = am_g d X am_m8035 16 [v0, v1, v2, v3, v4] (.int (am_i 1) :: sk) st Q := am_gu.trans rfl
theorem u8035_16 {v0 : Value} {v1 : Value} {v2 : Value} {v3 : Value} {v4 : Value} {x : Int32} : am_g d X am_m8035 16 [v0, v1, v2, v3, v4] [.int x] st Q = Q (.inl (some (.int x))) st := am_gu.trans rfl
theorem u8035_17 {v0 : Value} {v1 : Value} {v2 : Value} {v3 : Value} {v4 : Value} : am_g d X am_m8035 17 [v0, v1, v2, v3, v4] sk st Q = am_g d X am_m8035 18 [v0, v1, v2, v3, v4] (.int (am_i 0) :: sk) st Q := am_gu.trans rfl
theorem u8035_18 {v0 : Value} {v1 : Value} {v2 : Value} {v3 : Value} {v4 : Value} {x : Int32} : am_g d X am_m8035 18 [v0, v1, v2, v3, v4] [.int x] st Q = Q (.inl (some (.int x))) st := am_gu.trans rfl
set_option maxRecDepth 100000 in
theorem of_8036 : am_of 8036 = some am_m8036 := rfl
theorem c8036 {a0 a1 a2 a3} {P : am_Q} : am_Ca X (d + 1) 8036 [.ref a0, .int a1, .int a2, .ref a3] st P = am_g d X am_m8036 0 [.ref a0, .int a1, .int a2, .ref a3, am_u] [] st P := am_cg of_8036 (by show 4 ≤ 5; decide)
theorem u8036_0 {v0 : Value} {v1 : Value} {v2 : Value} {v4 : Value} {x : Nat} : am_g d X am_m8036 0 [v0, v1, v2, .ref x, v4] sk st Q = am_g d X am_m8036 1 [v0, v1, v2, .ref x, v4] (.ref x :: sk) st Q := am_gu.trans rfl
theorem u8036_1 {v0 : Value} {v1 : Value} {v2 : Value} {v3 : Value} {v4 : Value} : am_g d X am_m8036 1 [v0, v1, v2, v3, v4] sk st Q = am_g d X am_m8036 2 [v0, v1, v2, v3, v4] (.int (am_i 0) :: sk) st Q := am_gu.trans rfl
theorem u8036_2 {v1 : Value} {v2 : Value} {v3 : Value} {v4 : Value} {x : Nat} : am_g d X am_m8036 2 [.ref x, v1, v2, v3, v4] sk st Q = am_g d X am_m8036 3 [.ref x, v1, v2, v3, v4] (.ref x :: sk) st Q := am_gu.trans rfl
theorem u8036_3 {v0 : Value} {v2 : Value} {v3 : Value} {v4 : Value} {x : Int32} : am_g d X am_m8036 3 [v0, .int x, v2, v3, v4] sk st Q = am_g d X am_m8036 4 [v0, .int x, v2, v3, v4] (.int x :: sk) st Q := am_gu.trans rfl
theorem u8036_4 {v0 : Value} {v1 : Value} {v3 : Value} {v4 : Value} {x : Int32} : am_g d X am_m8036 4 [v0, v1, .int x, v3, v4] sk st Q = am_g d X am_m8036 5 [v0, v1, .int x, v3, v4] (.int x :: sk) st Q := am_gu.trans rfl
theorem u8036_5 {a0 : Value} {a1 : Value} {v0 : Value} {v1 : Value} {v2 : Value} {v3 : Value} {v4 : Value} : am_g d X am_m8036 5 [v0, v1, v2, v3, v4] (a1 :: a0 :: .ref o :: sk) st Q = ((am_ob st o 6 ∧ sk.length ≤ 4) ∧ am_Ca X d 6052 [.ref o, a0, a1] st (am_af am_m8036 5 [v0, v1, v2, v3, v4] sk (fun pc lc sk st => am_g d X am_m8036 pc lc sk st Q) Q)) := am_gu.trans rfl
theorem u8036_8 {v0 : Value} {v1 : Value} {v2 : Value} {v3 : Value} {v4 : Value} {x : Int32} : am_g d X am_m8036 8 [v0, v1, v2, v3, v4] (.int x :: sk) st Q = am_g d X am_m8036 9 [v0, v1, v2, v3, v4] (.long x.toInt64 :: sk) st Q := am_gu.trans rfl
theorem u8036_9 {v0 : Value} {v1 : Value} {v2 : Value} {v3 : Value} {v4 : Value} : am_g d X am_m8036 9 [v0, v1, v2, v3, v4] sk st Q = am_js 10 [v0, v1, v2, v3, v4] sk st (fun pc lc sk st => am_g d X am_m8036 pc lc sk st Q) := am_gu.trans rfl
theorem u8036_10 {v0 : Value} {v1 : Value} {v2 : Value} {v3 : Value} {v4 : Value} : am_g d X am_m8036 10 [v0, v1, v2, v3, v4] sk st Q = am_g d X am_m8036 17 [v0, v1, v2, v3, v4] sk st Q := am_gu.trans rfl
theorem u8036_15 {v0 : Value} {v1 : Value} {v2 : Value} {v3 : Value} {v4 : Value} : am_g d X am_m8036 15 [v0, v1, v2, v3, v4] sk st Q = am_g d X am_m8036 16 [v0, v1, v2, v3, v4] (.int (am_i 1) :: sk) st Q := am_gu.trans rfl
theorem u8036_16 {v0 : Value} {v1 : Value} {v2 : Value} {v3 : Value} {v4 : Value} {x : Int32} : am_g d X am_m8036 16 [v0, v1, v2, v3, v4] [.int x] st Q = Q (.inl (some (.int x))) st := am_gu.trans rfl
theorem u8036_17 {v0 : Value} {v1 : Value} {v2 : Value} {v3 : Value} {v4 : Value} : am_g d X am_m8036 17 [v0, v1, v2, v3, v4] sk st Q = am_g d X am_m8036 18 [v0, v1, v2, v3, v4] (.int (am_i 0) :: sk) st Q := am_gu.trans rfl
theorem u8036_18 {v0 : Value} {v1 : Value} {v2 : Value} {v3 : Value} {v4 : Value} {x : Int32} : am_g d X am_m8036 18 [v0, v1, v2, v3, v4] [.int x] st Q = Q (.inl (some (.int x))) st := am_gu.trans rfl
set_option maxRecDepth 100000 in
theorem of_8037 : am_of 8037 = some am_m8037 := rfl
theorem c8037 {a0 a1 a2} {P : am_Q} : am_Ca X (d + 1) 8037 [.ref a0, .int a1, .ref a2] st P = am_g d X am_m8037 0 [.ref a0, .int a1, .ref a2, am_u] [] st P := am_cg of_8037 (by show 3 ≤ 4; decide)
theorem u8037_0 {v0 : Value} {v1 : Value} {v3 : Value} {x : Nat} : am_g d X am_m8037 0 [v0, v1, .ref x, v3] sk st Q = am_g d X am_m8037 1 [v0, v1, .ref x, v3] (.ref x :: sk) st Q := am_gu.trans rfl
theorem u8037_1 {v0 : Value} {v1 : Value} {v2 : Value} {v3 : Value} : am_g d X am_m8037 1 [v0, v1, v2, v3] sk st Q = am_g d X am_m8037 2 [v0, v1, v2, v3] (.int (am_i 0) :: sk) st Q := am_gu.trans rfl
theorem u8037_2 {v1 : Value} {v2 : Value} {v3 : Value} {x : Nat} : am_g d X am_m8037 2 [.ref x, v1, v2, v3] sk st Q = am_g d X am_m8037 3 [.ref x, v1, v2, v3] (.ref x :: sk) st Q := am_gu.trans rfl
theorem u8037_3 {v0 : Value} {v2 : Value} {v3 : Value} {x : Int32} : am_g d X am_m8037 3 [v0, .int x, v2, v3] sk st Q = am_g d X am_m8037 4 [v0, .int x, v2, v3] (.int x :: sk) st Q := am_gu.trans rfl
theorem u8037_4 {a0 : Value} {v0 : Value} {v1 : Value} {v2 : Value} {v3 : Value} : am_g d X am_m8037 4 [v0, v1, v2, v3] (a0 :: .ref o :: sk) st Q = ((am_ob st o 6 ∧ sk.length ≤ 4) ∧ am_Ca X d 6053 [.ref o, a0] st (am_af am_m8037 4 [v0, v1, v2, v3] sk (fun pc lc sk st => am_g d X am_m8037 pc lc sk st Q) Q)) := am_gu.trans rfl
theorem u8037_7 {v0 : Value} {v1 : Value} {v2 : Value} {v3 : Value} {x : Int32} : am_g d X am_m8037 7 [v0, v1, v2, v3] (.int x :: sk) st Q = am_g d X am_m8037 8 [v0, v1, v2, v3] (.long x.toInt64 :: sk) st Q := am_gu.trans rfl
theorem u8037_8 {v0 : Value} {v1 : Value} {v2 : Value} {v3 : Value} : am_g d X am_m8037 8 [v0, v1, v2, v3] sk st Q = am_js 9 [v0, v1, v2, v3] sk st (fun pc lc sk st => am_g d X am_m8037 pc lc sk st Q) := am_gu.trans rfl
theorem u8037_9 {v0 : Value} {v1 : Value} {v2 : Value} {v3 : Value} : am_g d X am_m8037 9 [v0, v1, v2, v3] sk st Q = am_g d X am_m8037 18 [v0, v1, v2, v3] sk st Q := am_gu.trans rfl
theorem u8037_13 {v0 : Value} {v1 : Value} {v2 : Value} {v3 : Value} : am_g d X am_m8037 13 [v0, v1, v2, v3] sk st Q = am_g d X am_m8037 14 [v0, v1, v2, v3] (.int (am_i 1) :: sk) st Q := am_gu.trans rfl
theorem u8037_14 {v0 : Value} {v1 : Value} {v2 : Value} {v3 : Value} {x : Int32} : am_g d X am_m8037 14 [v0, v1, v2, v3] [.int x] st Q = Q (.inl (some (.int x))) st := am_gu.trans rfl
theorem u8037_16 {v0 : Value} {v1 : Value} {v2 : Value} {v3 : Value} : am_g d X am_m8037 16 [v0, v1, v2, v3] sk st Q = am_g d X am_m8037 17 [v0, v1, v2, v3] (.int (am_i 2) :: sk) st Q := am_gu.trans rfl
theorem u8037_17 {v0 : Value} {v1 : Value} {v2 : Value} {v3 : Value} {x : Int32} : am_g d X am_m8037 17 [v0, v1, v2, v3] [.int x] st Q = Q (.inl (some (.int x))) st := am_gu.trans rfl
theorem u8037_18 {v0 : Value} {v1 : Value} {v2 : Value} {v3 : Value} : am_g d X am_m8037 18 [v0, v1, v2, v3] sk st Q = am_g d X am_m8037 19 [v0, v1, v2, v3] (.int (am_i 0) :: sk) st Q := am_gu.trans rfl
theorem u8037_19 {v0 : Value} {v1 : Value} {v2 : Value} {v3 : Value} {x : Int32} : am_g d X am_m8037 19 [v0, v1, v2, v3] [.int x] st Q = Q (.inl (some (.int x))) st := am_gu.trans rfl
set_option maxRecDepth 100000 in
theorem of_8038 : am_of 8038 = some am_m8038 := rfl
theorem c8038 {a0 a1 a2} {P : am_Q} : am_Ca X (d + 1) 8038 [.ref a0, .int a1, .ref a2] st P = am_g d X am_m8038 0 [.ref a0, .int a1, .ref a2, am_u] [] st P := am_cg of_8038 (by show 3 ≤ 4; decide)
theorem u8038_0 {v0 : Value} {v1 : Value} {v3 : Value} {x : Nat} : am_g d X am_m8038 0 [v0, v1, .ref x, v3] sk st Q = am_g d X am_m8038 1 [v0, v1, .ref x, v3] (.ref x :: sk) st Q := am_gu.trans rfl
theorem u8038_1 {v0 : Value} {v1 : Value} {v2 : Value} {v3 : Value} : am_g d X am_m8038 1 [v0, v1, v2, v3] sk st Q = am_g d X am_m8038 2 [v0, v1, v2, v3] (.int (am_i 0) :: sk) st Q := am_gu.trans rfl
theorem u8038_2 {v1 : Value} {v2 : Value} {v3 : Value} {x : Nat} : am_g d X am_m8038 2 [.ref x, v1, v2, v3] sk st Q = am_g d X am_m8038 3 [.ref x, v1, v2, v3] (.ref x :: sk) st Q := am_gu.trans rfl
theorem u8038_3 {v0 : Value} {v2 : Value} {v3 : Value} {x : Int32} : am_g d X am_m8038 3 [v0, .int x, v2, v3] sk st Q = am_g d X am_m8038 4 [v0, .int x, v2, v3] (.int x :: sk) st Q := am_gu.trans rfl
theorem u8038_4 {a0 : Value} {v0 : Value} {v1 : Value} {v2 : Value} {v3 : Value} : am_g d X am_m8038 4 [v0, v1, v2, v3] (a0 :: .ref o :: sk) st Q = ((am_ob st o 6 ∧ sk.length ≤ 4) ∧ am_Ca X d 6054 [.ref o, a0] st (am_af am_m8038 4 [v0, v1, v2, v3] sk (fun pc lc sk st => am_g d X am_m8038 pc lc sk st Q) Q)) := am_gu.trans rfl
theorem u8038_7 {v0 : Value} {v1 : Value} {v2 : Value} {v3 : Value} {x : Int32} : am_g d X am_m8038 7 [v0, v1, v2, v3] (.int x :: sk) st Q = am_g d X am_m8038 8 [v0, v1, v2, v3] (.long x.toInt64 :: sk) st Q := am_gu.trans rfl
theorem u8038_8 {v0 : Value} {v1 : Value} {v2 : Value} {v3 : Value} : am_g d X am_m8038 8 [v0, v1, v2, v3] sk st Q = am_js 9 [v0, v1, v2, v3] sk st (fun pc lc sk st => am_g d X am_m8038 pc lc sk st Q) := am_gu.trans rfl
theorem u8038_9 {v0 : Value} {v1 : Value} {v2 : Value} {v3 : Value} : am_g d X am_m8038 9 [v0, v1, v2, v3] sk st Q = am_g d X am_m8038 18 [v0, v1, v2, v3] sk st Q := am_gu.trans rfl
theorem u8038_13 {v0 : Value} {v1 : Value} {v2 : Value} {v3 : Value} : am_g d X am_m8038 13 [v0, v1, v2, v3] sk st Q = am_g d X am_m8038 14 [v0, v1, v2, v3] (.int (am_i 1) :: sk) st Q := am_gu.trans rfl
theorem u8038_14 {v0 : Value} {v1 : Value} {v2 : Value} {v3 : Value} {x : Int32} : am_g d X am_m8038 14 [v0, v1, v2, v3] [.int x] st Q = Q (.inl (some (.int x))) st := am_gu.trans rfl
theorem u8038_16 {v0 : Value} {v1 : Value} {v2 : Value} {v3 : Value} : am_g d X am_m8038 16 [v0, v1, v2, v3] sk st Q = am_g d X am_m8038 17 [v0, v1, v2, v3] (.int (am_i 2) :: sk) st Q := am_gu.trans rfl
theorem u8038_17 {v0 : Value} {v1 : Value} {v2 : Value} {v3 : Value} {x : Int32} : am_g d X am_m8038 17 [v0, v1, v2, v3] [.int x] st Q = Q (.inl (some (.int x))) st := am_gu.trans rfl
theorem u8038_18 {v0 : Value} {v1 : Value} {v2 : Value} {v3 : Value} : am_g d X am_m8038 18 [v0, v1, v2, v3] sk st Q = am_g d X am_m8038 19 [v0, v1, v2, v3] (.int (am_i 0) :: sk) st Q := am_gu.trans rfl
theorem u8038_19 {v0 : Value} {v1 : Value} {v2 : Value} {v3 : Value} {x : Int32} : am_g d X am_m8038 19 [v0, v1, v2, v3] [.int x] st Q = Q (.inl (some (.int x))) st := am_gu.trans rfl
set_option maxRecDepth 100000 in
theorem of_8039 : am_of 8039 = some am_m8039 := rfl
theorem c8039 {a0 a1} {P : am_Q} : am_Ca X (d + 1) 8039 [.ref a0, .ref a1] st P = am_g d X am_m8039 0 [.ref a0, .ref a1, am_u] [] st P := am_cg of_8039 (by show 2 ≤ 3; decide)
theorem u8039_0 {v0 : Value} {v2 : Value} {x : Nat} : am_g d X am_m8039 0 [v0, .ref x, v2] sk st Q = am_g d X am_m8039 1 [v0, .ref x, v2] (.ref x :: sk) st Q := am_gu.trans rfl
theorem u8039_1 {v0 : Value} {v1 : Value} {v2 : Value} : am_g d X am_m8039 1 [v0, v1, v2] sk st Q = am_g d X am_m8039 2 [v0, v1, v2] (.int (am_i 0) :: sk) st Q := am_gu.trans rfl
theorem u8039_2 {v1 : Value} {v2 : Value} {x : Nat} : am_g d X am_m8039 2 [.ref x, v1, v2] sk st Q = am_g d X am_m8039 3 [.ref x, v1, v2] (.ref x :: sk) st Q := am_gu.trans rfl
theorem u8039_3 {v0 : Value} {v1 : Value} {v2 : Value} : am_g d X am_m8039 3 [v0, v1, v2] (.ref o :: sk) st Q = ((am_ob st o 6 ∧ sk.length ≤ 4) ∧ am_Ca X d 6058 [.ref o] st (am_af am_m8039 3 [v0, v1, v2] sk (fun pc lc sk st => am_g d X am_m8039 pc lc sk st Q) Q)) := am_gu.trans rfl
theorem u8039_6 {v0 : Value} {v1 : Value} {v2 : Value} {x : Int32} : am_g d X am_m8039 6 [v0, v1, v2] (.int x :: sk) st Q = am_g d X am_m8039 7 [v0, v1, v2] (.long x.toInt64 :: sk) st Q := am_gu.trans rfl
theorem u8039_7 {v0 : Value} {v1 : Value} {v2 : Value} : am_g d X am_m8039 7 [v0, v1, v2] sk st Q = am_js 8 [v0, v1, v2] sk st (fun pc lc sk st => am_g d X am_m8039 pc lc sk st Q) := am_gu.trans rfl
theorem u8039_8 {v0 : Value} {v1 : Value} {v2 : Value} : am_g d X am_m8039 8 [v0, v1, v2] sk st Q = am_g d X am_m8039 14 [v0, v1, v2] sk st Q := am_gu.trans rfl
theorem u8039_12 {v0 : Value} {v1 : Value} {v2 : Value} : am_g d X am_m8039 12 [v0, v1, v2] sk st Q = am_g d X am_m8039 13 [v0, v1, v2] (.int (am_i 1) :: sk) st Q := am_gu.trans rfl
theorem u8039_13 {v0 : Value} {v1 : Value} {v2 : Value} {x : Int32} : am_g d X am_m8039 13 [v0, v1, v2] [.int x] st Q = Q (.inl (some (.int x))) st := am_gu.trans rfl
theorem u8039_14 {v0 : Value} {v1 : Value} {v2 : Value} : am_g d X am_m8039 14 [v0, v1, v2] sk st Q = am_g d X am_m8039 15 [v0, v1, v2] (.int (am_i 0) :: sk) st Q := am_gu.trans rfl
theorem u8039_15 {v0 : Value} {v1 : Value} {v2 : Value} {x : Int32} : am_g d X am_m8039 15 [v0, v1, v2] [.int x] st Q = Q (.inl (some (.int x))) st := am_gu.trans rfl
set_option maxRecDepth 100000 in
theorem of_8040 : am_of 8040 = some am_m8040 := rfl
theorem c8040 {a0 a1} {P : am_Q} : am_Ca X (d + 1) 8040 [.ref a0, .ref a1] st P = am_g d X am_m8040 0 [.ref a0, .ref a1, am_u] [] st P := am_cg of_8040 (by show 2 ≤ 3; decide)
theorem u8040_0 {v0 : Value} {v2 : Value} {x : Nat} : am_g d X am_m8040 0 [v0, .ref x, v2] sk st Q = am_g d X am_m8040 1 [v0, .ref x, v2] (.ref x :: sk) st Q := am_gu.trans rfl
theorem u8040_1 {v0 : Value} {v1 : Value} {v2 : Value} : am_g d X am_m8040 1 [v0, v1, v2] sk st Q = am_g d X am_m8040 2 [v0, v1, v2] (.int (am_i 0) :: sk) st Q := am_gu.trans rfl
theorem u8040_2 {v1 : Value} {v2 : Value} {x : Nat} : am_g d X am_m8040 2 [.ref x, v1, v2] sk st Q = am_g d X am_m8040 3 [.ref x, v1, v2] (.ref x :: sk) st Q := am_gu.trans rfl
theorem u8040_3 {v0 : Value} {v1 : Value} {v2 : Value} : am_g d X am_m8040 3 [v0, v1, v2] (.ref o :: sk) st Q = ((am_ob st o 6 ∧ sk.length ≤ 4) ∧ am_Ca X d 6059 [.ref o] st (am_af am_m8040 3 [v0, v1, v2] sk (fun pc lc sk st => am_g d X am_m8040 pc lc sk st Q) Q)) := am_gu.trans rfl
theorem u8040_6 {v0 : Value} {v1 : Value} {v2 : Value} {x : Int32} : am_g d X am_m8040 6 [v0, v1, v2] (.int x :: sk) st Q = am_g d X am_m8040 7 [v0, v1, v2] (.long x.toInt64 :: sk) st Q := am_gu.trans rfl
theorem u8040_7 {v0 : Value} {v1 : Value} {v2 : Value} : am_g d X am_m8040 7 [v0, v1, v2] sk st Q = am_js 8 [v0, v1, v2] sk st (fun pc lc sk st => am_g d X am_m8040 pc lc sk st Q) := am_gu.trans rfl
theorem u8040_8 {v0 : Value} {v1 : Value} {v2 : Value} : am_g d X am_m8040 8 [v0, v1, v2] sk st Q = am_g d X am_m8040 14 [v0, v1, v2] sk st Q := am_gu.trans rfl
theorem u8040_12 {v0 : Value} {v1 : Value} {v2 : Value} : am_g d X am_m8040 12 [v0, v1, v2] sk st Q = am_g d X am_m8040 13 [v0, v1, v2] (.int (am_i 1) :: sk) st Q := am_gu.trans rfl
theorem u8040_13 {v0 : Value} {v1 : Value} {v2 : Value} {x : Int32} : am_g d X am_m8040 13 [v0, v1, v2] [.int x] st Q = Q (.inl (some (.int x))) st := am_gu.trans rfl
theorem u8040_14 {v0 : Value} {v1 : Value} {v2 : Value} : am_g d X am_m8040 14 [v0, v1, v2] sk st Q = am_g d X am_m8040 15 [v0, v1, v2] (.int (am_i 0) :: sk) st Q := am_gu.trans rfl
theorem u8040_15 {v0 : Value} {v1 : Value} {v2 : Value} {x : Int32} : am_g d X am_m8040 15 [v0, v1, v2] [.int x] st Q = Q (.inl (some (.int x))) st := am_gu.trans rfl
end UU
