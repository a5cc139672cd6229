/-! each instruction as a rewriting row -/
section UU
variable {d o n cl sl : Nat} {X : am_X} {sk : List Value} {st : am_S} {Q : am_Q} {sh : Nat → am_D} {F A : Nat → Nat → Int32} {L : Nat → Nat → Int64}
set_option maxRecDepth 100000 in
set_option maxRecDepth 100000 in
theorem u8900_948 {v0 : Value} {v1 : Value} {v2 : Value} {v3 : Value} {v5 : Value} {v6 : Value} {v7 : Value} {v8 : Value} {x : Int32} : am_g d X am_m8900 948 [v0, v1, v2, v3, .int x, v5, v6, v7, v8] sk st Q = am_g d X am_m8900 950 [v0, v1, v2, v3, .int x, v5, v6, v7, v8] (.int x :: sk) st Q := am_gu.trans rfl
set_option maxRecDepth 100000 in
theorem u8900_950 {v0 : Value} {v1 : Value} {v2 : Value} {v3 : Value} {v4 : Value} {v5 : Value} {v6 : Value} {v7 : Value} {v8 : Value} : am_g d X am_m8900 950 [v0, v1, v2, v3, v4, v5, v6, v7, v8] sk st Q = am_g d X am_m8900 951 [v0, v1, v2, v3, v4, v5, v6, v7, v8] (.int (am_i 1) :: sk) st Q := am_gu.trans rfl
set_option maxRecDepth 100000 in
theorem u8900_951 {v0 : Value} {v1 : Value} {v2 : Value} {v3 : Value} {v4 : Value} {v5 : Value} {v6 : Value} {v7 : Value} {v8 : Value} {x : Int32} {y : Int32} : am_g d X am_m8900 951 [v0, v1, v2, v3, v4, v5, v6, v7, v8] (.int y :: .int x :: sk) st Q = am_g d X am_m8900 952 [v0, v1, v2, v3, v4, v5, v6, v7, v8] (.int (x + y) :: sk) st Q := am_gu.trans rfl
set_option maxRecDepth 100000 in
theorem u8900_952 {v0 : Value} {v1 : Value} {v2 : Value} {v3 : Value} {v4 : Value} {v5 : Value} {v6 : Value} {v7 : Value} {v8 : Value} : am_g d X am_m8900 952 [v0, v1, v2, v3, v4, v5, v6, v7, v8] sk st Q = am_xl (X.1, X.2.1, d) am_m8900 953 [v0, v1, v2, v3, v4, v5, v6, v7, v8] sk st (fun pc lc sk st => am_g d X am_m8900 pc lc sk st Q) := am_gu.trans rfl
set_option maxRecDepth 100000 in
theorem u8900_953 {v0 : Value} {v1 : Value} {v2 : Value} {v4 : Value} {v5 : Value} {v6 : Value} {v7 : Value} {v8 : Value} {x : Nat} : am_g d X am_m8900 953 [v0, v1, v2, .ref x, v4, v5, v6, v7, v8] sk st Q = am_g d X am_m8900 954 [v0, v1, v2, .ref x, v4, v5, v6, v7, v8] (.ref x :: sk) st Q := am_gu.trans rfl
set_option maxRecDepth 100000 in
theorem u8900_954 {a0 : Value} {a1 : Value} {a2 : Value} {v0 : Value} {v1 : Value} {v2 : Value} {v3 : Value} {v4 : Value} {v5 : Value} {v6 : Value} {v7 : Value} {v8 : Value} : am_g d X am_m8900 954 [v0, v1, v2, v3, v4, v5, v6, v7, v8] (a2 :: a1 :: a0 :: sk) st Q = (sk.length ≤ 4 ∧ am_Ca X d 8013 [a0, a1, a2] st (am_af am_m8900 954 [v0, v1, v2, v3, v4, v5, v6, v7, v8] sk (fun pc lc sk st => am_g d X am_m8900 pc lc sk st Q) Q)) := am_gu.trans (propext ⟨fun h => ⟨h.1.2, h.2⟩, fun h => ⟨⟨Nat.le_add_left _ _, h.1⟩, h.2⟩⟩)
set_option maxRecDepth 100000 in
theorem u8900_957 {v0 : Value} {v1 : Value} {v2 : Value} {v3 : Value} {v4 : Value} {v5 : Value} {v6 : Value} {v7 : Value} {v8 : Value} {x : Int32} : am_g d X am_m8900 957 [v0, v1, v2, v3, v4, v5, v6, v7, v8] (.int x :: sk) st Q = am_g d X am_m8900 959 [v0, v1, v2, v3, am_kc v4, .int x, v6, v7, v8] sk st Q := am_gu.trans (congrArg (fun l => am_g d X am_m8900 959 (List.set l 5 (.int x)) sk st Q) (kl_5 (l := [v5, v6, v7, v8])))
set_option maxRecDepth 100000 in
theorem u8900_959 {v0 : Value} {v1 : Value} {v3 : Value} {v4 : Value} {v5 : Value} {v6 : Value} {v7 : Value} {v8 : Value} {x : Nat} : am_g d X am_m8900 959 [v0, v1, .ref x, v3, v4, v5, v6, v7, v8] sk st Q = am_g d X am_m8900 960 [v0, v1, .ref x, v3, v4, v5, v6, v7, v8] (.ref x :: sk) st Q := am_gu.trans rfl
set_option maxRecDepth 100000 in
theorem u8900_960 {v1 : Value} {v2 : Value} {v3 : Value} {v4 : Value} {v5 : Value} {v6 : Value} {v7 : Value} {v8 : Value} : am_g d X am_m8900 960 [.retAddr 0, v1, v2, v3, v4, v5, v6, v7, v8] sk st Q = am_g d X am_m8900 961 [.retAddr 0, v1, v2, v3, v4, v5, v6, v7, v8] (.retAddr 0 :: sk) st Q := am_gu.trans rfl
set_option maxRecDepth 100000 in
theorem u8900_961 {v0 : Value} {v1 : Value} {v2 : Value} {v3 : Value} {v5 : Value} {v6 : Value} {v7 : Value} {v8 : Value} {x : Int32} : am_g d X am_m8900 961 [v0, v1, v2, v3, .int x, v5, v6, v7, v8] sk st Q = am_g d X am_m8900 963 [v0, v1, v2, v3, .int x, v5, v6, v7, v8] (.int x :: sk) st Q := am_gu.trans rfl
set_option maxRecDepth 100000 in
theorem u8900_963 {v0 : Value} {v1 : Value} {v2 : Value} {v3 : Value} {v4 : Value} {v5 : Value} {v6 : Value} {v7 : Value} {v8 : Value} : am_g d X am_m8900 963 [v0, v1, v2, v3, v4, v5, v6, v7, v8] sk st Q = am_g d X am_m8900 964 [v0, v1, v2, v3, v4, v5, v6, v7, v8] (.int (am_i 1) :: sk) st Q := am_gu.trans rfl
set_option maxRecDepth 100000 in
theorem u8900_964 {v0 : Value} {v1 : Value} {v2 : Value} {v3 : Value} {v4 : Value} {v5 : Value} {v6 : Value} {v7 : Value} {v8 : Value} {x : Int32} {y : Int32} : am_g d X am_m8900 964 [v0, v1, v2, v3, v4, v5, v6, v7, v8] (.int y :: .int x :: sk) st Q = am_g d X am_m8900 965 [v0, v1, v2, v3, v4, v5, v6, v7, v8] (.int (x + y) :: sk) st Q := am_gu.trans rfl
set_option maxRecDepth 100000 in
theorem u8900_965 {v0 : Value} {v1 : Value} {v2 : Value} {v3 : Value} {v4 : Value} {v5 : Value} {v6 : Value} {v7 : Value} {v8 : Value} : am_g d X am_m8900 965 [v0, v1, v2, v3, v4, v5, v6, v7, v8] sk st Q = am_xl (X.1, X.2.1, d) am_m8900 966 [v0, v1, v2, v3, v4, v5, v6, v7, v8] sk st (fun pc lc sk st => am_g d X am_m8900 pc lc sk st Q) := am_gu.trans rfl
set_option maxRecDepth 100000 in
theorem u8900_966 {a0 : Value} {v0 : Value} {v1 : Value} {v2 : Value} {v3 : Value} {v4 : Value} {v5 : Value} {v6 : Value} {v7 : Value} {v8 : Value} : am_g d X am_m8900 966 [v0, v1, v2, v3, v4, v5, v6, v7, v8] (a0 :: .ref o :: sk) st Q = ((am_ob st o 7 ∧ sk.length ≤ 4) ∧ am_Ca X d 7063 [.ref o, a0] st (am_af am_m8900 966 [v0, v1, v2, v3, v4, v5, v6, v7, v8] sk (fun pc lc sk st => am_g d X am_m8900 pc lc sk st Q) Q)) := am_gu.trans rfl
set_option maxRecDepth 100000 in
theorem u8900_969 {v0 : Value} {v1 : Value} {v2 : Value} {v3 : Value} {v4 : Value} {v5 : Value} {v6 : Value} {v7 : Value} {v8 : Value} {x : Int32} : am_g d X am_m8900 969 [v0, v1, v2, v3, v4, v5, v6, v7, v8] (.int x :: sk) st Q = am_g d X am_m8900 971 [v0, v1, v2, v3, v4, am_kc v5, .int x, v7, v8] sk st Q := am_gu.trans (congrArg (fun l => am_g d X am_m8900 971 (List.set l 6 (.int x)) sk st Q) (kl_6 (l := [v6, v7, v8])))
set_option maxRecDepth 100000 in
theorem u8900_971 {v0 : Value} {v1 : Value} {v3 : Value} {v4 : Value} {v5 : Value} {v6 : Value} {v7 : Value} {v8 : Value} {x : Nat} : am_g d X am_m8900 971 [v0, v1, .ref x, v3, v4, v5, v6, v7, v8] sk st Q = am_g d X am_m8900 972 [v0, v1, .ref x, v3, v4, v5, v6, v7, v8] (.ref x :: sk) st Q := am_gu.trans rfl
set_option maxRecDepth 100000 in
theorem u8900_972 {v0 : Value} {v1 : Value} {v2 : Value} {v3 : Value} {v4 : Value} {v5 : Value} {v6 : Value} {v7 : Value} {v8 : Value} : am_g d X am_m8900 972 [v0, v1, v2, v3, v4, v5, v6, v7, v8] (.ref o :: sk) st Q = ((am_ob st o 7 ∧ sk.length ≤ 4) ∧ am_Ca X d 7002 [.ref o] st (am_af am_m8900 972 [v0, v1, v2, v3, v4, v5, v6, v7, v8] sk (fun pc lc sk st => am_g d X am_m8900 pc lc sk st Q) Q)) := am_gu.trans rfl
set_option maxRecDepth 100000 in
theorem u8900_975 {v0 : Value} {v1 : Value} {v2 : Value} {v3 : Value} {v4 : Value} {v6 : Value} {v7 : Value} {v8 : Value} {x : Int32} : am_g d X am_m8900 975 [v0, v1, v2, v3, v4, .int x, v6, v7, v8] sk st Q = am_g d X am_m8900 977 [v0, v1, v2, v3, v4, .int x, v6, v7, v8] (.int x :: sk) st Q := am_gu.trans rfl
set_option maxRecDepth 100000 in
theorem u8900_977 {v0 : Value} {v1 : Value} {v2 : Value} {v3 : Value} {v4 : Value} {v5 : Value} {v6 : Value} {v7 : Value} {v8 : Value} {x : Int32} {y : Int32} : am_g d X am_m8900 977 [v0, v1, v2, v3, v4, v5, v6, v7, v8] (.int y :: .int x :: sk) st Q = (if decide (x = y) = true then am_g d X am_m8900 982 [v0, v1, v2, v3, v4, v5, v6, v7, v8] sk st Q else am_g d X am_m8900 980 [v0, v1, v2, v3, v4, v5, v6, v7, v8] sk st Q) := am_gu.trans rfl
set_option maxRecDepth 100000 in
theorem u8900_980 {v0 : Value} {v1 : Value} {v2 : Value} {v3 : Value} {v4 : Value} {v5 : Value} {v6 : Value} {v7 : Value} {v8 : Value} : am_g d X am_m8900 980 [v0, v1, v2, v3, v4, v5, v6, v7, v8] sk st Q = am_g d X am_m8900 981 [v0, v1, v2, v3, v4, v5, v6, v7, v8] (.int (am_i 0) :: sk) st Q := am_gu.trans rfl
set_option maxRecDepth 100000 in
theorem u8900_981 {v0 : Value} {v1 : Value} {v2 : Value} {v3 : Value} {v4 : Value} {v5 : Value} {v6 : Value} {v7 : Value} {v8 : Value} {x : Int32} : am_g d X am_m8900 981 [v0, v1, v2, v3, v4, v5, v6, v7, v8] [.int x] st Q = ((x = 0 ∨ x = 1) ∧ Q (.inl (some (.int x))) st) := am_gu.trans rfl
set_option maxRecDepth 100000 in
theorem u8900_982 {v0 : Value} {v1 : Value} {v2 : Value} {v3 : Value} {v4 : Value} {v6 : Value} {v7 : Value} {v8 : Value} {x : Int32} : am_g d X am_m8900 982 [v0, v1, v2, v3, v4, .int x, v6, v7, v8] sk st Q = am_g d X am_m8900 984 [v0, v1, v2, v3, v4, .int x, v6, v7, v8] (.int x :: sk) st Q := am_gu.trans rfl
set_option maxRecDepth 100000 in
theorem u8900_984 {v0 : Value} {v1 : Value} {v2 : Value} {v3 : Value} {v4 : Value} {v5 : Value} {v6 : Value} {v7 : Value} {v8 : Value} {x : Int32} : am_g d X am_m8900 984 [v0, v1, v2, v3, v4, v5, v6, v7, v8] (.int x :: sk) st Q = (if decide (¬ x = 0) = true then am_g d X am_m8900 999 [v0, v1, v2, v3, v4, v5, v6, v7, v8] sk st Q else am_g d X am_m8900 987 [v0, v1, v2, v3, v4, v5, v6, v7, v8] sk st Q) := am_gu.trans rfl
set_option maxRecDepth 100000 in
theorem u8900_987 {v0 : Value} {v1 : Value} {v2 : Value} {v4 : Value} {v5 : Value} {v6 : Value} {v7 : Value} {v8 : Value} {x : Nat} : am_g d X am_m8900 987 [v0, v1, v2, .ref x, v4, v5, v6, v7, v8] sk st Q = am_g d X am_m8900 988 [v0, v1, v2, .ref x, v4, v5, v6, v7, v8] (.ref x :: sk) st Q := am_gu.trans rfl
set_option maxRecDepth 100000 in
theorem u8900_988 {v0 : Value} {v1 : Value} {v2 : Value} {v3 : Value} {v4 : Value} {v5 : Value} {v6 : Value} {v7 : Value} {v8 : Value} : am_g d X am_m8900 988 [v0, v1, v2, v3, v4, v5, v6, v7, v8] sk st Q = am_g d X am_m8900 989 [v0, v1, v2, v3, v4, v5, v6, v7, v8] (.int (am_i 0) :: sk) st Q := am_gu.trans rfl
set_option maxRecDepth 100000 in
theorem u8900_989 {v0 : Value} {v1 : Value} {v2 : Value} {v3 : Value} {v4 : Value} {v5 : Value} {v6 : Value} {v7 : Value} {v8 : Value} : am_g d X am_m8900 989 [v0, v1, v2, v3, v4, v5, v6, v7, v8] sk st Q = am_jl 990 [v0, v1, v2, v3, v4, v5, v6, v7, v8] sk st (fun pc lc sk st => am_g d X am_m8900 pc lc sk st Q) := am_gu.trans rfl
set_option maxRecDepth 100000 in
theorem u8900_990 {v0 : Value} {v1 : Value} {v2 : Value} {v3 : Value} {v4 : Value} {v5 : Value} {v7 : Value} {v8 : Value} {x : Int32} : am_g d X am_m8900 990 [v0, v1, v2, v3, v4, v5, .int x, v7, v8] sk st Q = am_g d X am_m8900 992 [v0, v1, v2, v3, v4, v5, .int x, v7, v8] (.int x :: sk) st Q := am_gu.trans rfl
set_option maxRecDepth 100000 in
theorem u8900_992 {v0 : Value} {v1 : Value} {v2 : Value} {v3 : Value} {v4 : Value} {v5 : Value} {v6 : Value} {v7 : Value} {v8 : Value} {x : Int32} : am_g d X am_m8900 992 [v0, v1, v2, v3, v4, v5, v6, v7, v8] (.int x :: sk) st Q = am_g d X am_m8900 993 [v0, v1, v2, v3, v4, v5, v6, v7, v8] (.long x.toInt64 :: sk) st Q := am_gu.trans rfl
set_option maxRecDepth 100000 in
theorem u8900_993 {v0 : Value} {v1 : Value} {v2 : Value} {v3 : Value} {v4 : Value} {v5 : Value} {v6 : Value} {v7 : Value} {v8 : Value} {x : Int64} {y : Int64} : am_g d X am_m8900 993 [v0, v1, v2, v3, v4, v5, v6, v7, v8] (.long y :: .long x :: sk) st Q = am_g d X am_m8900 994 [v0, v1, v2, v3, v4, v5, v6, v7, v8] (.int (lg_cmp x y) :: sk) st Q := am_gu.trans rfl
set_option maxRecDepth 100000 in
theorem u8900_994 {v0 : Value} {v1 : Value} {v2 : Value} {v3 : Value} {v4 : Value} {v5 : Value} {v6 : Value} {v7 : Value} {v8 : Value} {x : Int32} : am_g d X am_m8900 994 [v0, v1, v2, v3, v4, v5, v6, v7, v8] (.int x :: sk) st Q = (if decide (x = 0) = true then am_g d X am_m8900 999 [v0, v1, v2, v3, v4, v5, v6, v7, v8] sk st Q else am_g d X am_m8900 997 [v0, v1, v2, v3, v4, v5, v6, v7, v8] sk st Q) := am_gu.trans rfl
set_option maxRecDepth 100000 in
theorem u8900_997 {v0 : Value} {v1 : Value} {v2 : Value} {v3 : Value} {v4 : Value} {v5 : Value} {v6 : Value} {v7 : Value} {v8 : Value} : am_g d X am_m8900 997 [v0, v1, v2, v3, v4, v5, v6, v7, v8] sk st Q = am_g d X am_m8900 998 [v0, v1, v2, v3, v4, v5, v6, v7, v8] (.int (am_i 0) :: sk) st Q := am_gu.trans rfl
set_option maxRecDepth 100000 in
theorem u8900_998 {v0 : Value} {v1 : Value} {v2 : Value} {v3 : Value} {v4 : Value} {v5 : Value} {v6 : Value} {v7 : Value} {v8 : Value} {x : Int32} : am_g d X am_m8900 998 [v0, v1, v2, v3, v4, v5, v6, v7, v8] [.int x] st Q = ((x = 0 ∨ x = 1) ∧ Q (.inl (some (.int x))) st) := am_gu.trans rfl
set_option maxRecDepth 100000 in
theorem u8900_999 {v0 : Value} {v1 : Value} {v2 : Value} {v3 : Value} {v4 : Value} {v5 : Value} {v6 : Value} {v7 : Value} {v8 : Value} : am_g d X am_m8900 999 [v0, v1, v2, v3, v4, v5, v6, v7, v8] sk st Q = am_g d X am_m8900 2998 [v0, v1, v2, v3, v4, v5, v6, v7, v8] sk st Q := am_gu.trans rfl
set_option maxRecDepth 100000 in
theorem u8900_1002 {v0 : Value} {v2 : Value} {v3 : Value} {v4 : Value} {v5 : Value} {v6 : Value} {v7 : Value} {v8 : Value} {x : Nat} : am_g d X am_m8900 1002 [v0, .ref x, v2, v3, v4, v5, v6, v7, v8] sk st Q = am_g d X am_m8900 1003 [v0, .ref x, v2, v3, v4, v5, v6, v7, v8] (.ref x :: sk) st Q := am_gu.trans rfl
set_option maxRecDepth 100000 in
theorem u8900_1003 {v1 : Value} {v2 : Value} {v3 : Value} {v4 : Value} {v5 : Value} {v6 : Value} {v7 : Value} {v8 : Value} : am_g d X am_m8900 1003 [.retAddr 0, v1, v2, v3, v4, v5, v6, v7, v8] sk st Q = am_g d X am_m8900 1004 [.retAddr 0, v1, v2, v3, v4, v5, v6, v7, v8] (.retAddr 0 :: sk) st Q := am_gu.trans rfl
set_option maxRecDepth 100000 in
theorem u8900_1004 {v0 : Value} {v1 : Value} {v2 : Value} {v3 : Value} {v5 : Value} {v6 : Value} {v7 : Value} {v8 : Value} {x : Int32} : am_g d X am_m8900 1004 [v0, v1, v2, v3, .int x, v5, v6, v7, v8] sk st Q = am_g d X am_m8900 1006 [v0, v1, v2, v3, .int x, v5, v6, v7, v8] (.int x :: sk) st Q := am_gu.trans rfl
set_option maxRecDepth 100000 in
theorem u8900_1006 {v0 : Value} {v1 : Value} {v2 : Value} {v3 : Value} {v4 : Value} {v5 : Value} {v6 : Value} {v7 : Value} {v8 : Value} : am_g d X am_m8900 1006 [v0, v1, v2, v3, v4, v5, v6, v7, v8] sk st Q = am_g d X am_m8900 1007 [v0, v1, v2, v3, v4, v5, v6, v7, v8] (.int (am_i 1) :: sk) st Q := am_gu.trans rfl
set_option maxRecDepth 100000 in
theorem u8900_1007 {v0 : Value} {v1 : Value} {v2 : Value} {v3 : Value} {v4 : Value} {v5 : Value} {v6 : Value} {v7 : Value} {v8 : Value} {x : Int32} {y : Int32} : am_g d X am_m8900 1007 [v0, v1, v2, v3, v4, v5, v6, v7, v8] (.int y :: .int x :: sk) st Q = am_g d X am_m8900 1008 [v0, v1, v2, v3, v4, v5, v6, v7, v8] (.int (x + y) :: sk) st Q := am_gu.trans rfl
set_option maxRecDepth 100000 in
theorem u8900_1008 {v0 : Value} {v1 : Value} {v2 : Value} {v3 : Value} {v4 : Value} {v5 : Value} {v6 : Value} {v7 : Value} {v8 : Value} : am_g d X am_m8900 1008 [v0, v1, v2, v3, v4, v5, v6, v7, v8] sk st Q = am_xl (X.1, X.2.1, d) am_m8900 1009 [v0, v1, v2, v3, v4, v5, v6, v7, v8] sk st (fun pc lc sk st => am_g d X am_m8900 pc lc sk st Q) := am_gu.trans rfl
set_option maxRecDepth 100000 in
theorem u8900_1009 {v0 : Value} {v1 : Value} {v2 : Value} {v4 : Value} {v5 : Value} {v6 : Value} {v7 : Value} {v8 : Value} {x : Nat} : am_g d X am_m8900 1009 [v0, v1, v2, .ref x, v4, v5, v6, v7, v8] sk st Q = am_g d X am_m8900 1010 [v0, v1, v2, .ref x, v4, v5, v6, v7, v8] (.ref x :: sk) st Q := am_gu.trans rfl
set_option maxRecDepth 100000 in
theorem u8900_1010 {a0 : Value} {a1 : Value} {a2 : Value} {v0 : Value} {v1 : Value} {v2 : Value} {v3 : Value} {v4 : Value} {v5 : Value} {v6 : Value} {v7 : Value} {v8 : Value} : am_g d X am_m8900 1010 [v0, v1, v2, v3, v4, v5, v6, v7, v8] (a2 :: a1 :: a0 :: sk) st Q = (sk.length ≤ 4 ∧ am_Ca X d 8014 [a0, a1, a2] st (am_af am_m8900 1010 [v0, v1, v2, v3, v4, v5, v6, v7, v8] sk (fun pc lc sk st => am_g d X am_m8900 pc lc sk st Q) Q)) := am_gu.trans (propext ⟨fun h => ⟨h.1.2, h.2⟩, fun h => ⟨⟨Nat.le_add_left _ _, h.1⟩, h.2⟩⟩)
set_option maxRecDepth 100000 in
theorem u8900_1013 {v0 : Value} {v1 : Value} {v2 : Value} {v3 : Value} {v4 : Value} {v5 : Value} {v6 : Value} {v7 : Value} {v8 : Value} {x : Int32} : am_g d X am_m8900 1013 [v0, v1, v2, v3, v4, v5, v6, v7, v8] (.int x :: sk) st Q = am_g d X am_m8900 1015 [v0, v1, v2, v3, am_kc v4, .int x, v6, v7, v8] sk st Q := am_gu.trans (congrArg (fun l => am_g d X am_m8900 1015 (List.set l 5 (.int x)) sk st Q) (kl_5 (l := [v5, v6, v7, v8])))
set_option maxRecDepth 100000 in
theorem u8900_1015 {v0 : Value} {v1 : Value} {v3 : Value} {v4 : Value} {v5 : Value} {v6 : Value} {v7 : Value} {v8 : Value} {x : Nat} : am_g d X am_m8900 1015 [v0, v1, .ref x, v3, v4, v5, v6, v7, v8] sk st Q = am_g d X am_m8900 1016 [v0, v1, .ref x, v3, v4, v5, v6, v7, v8] (.ref x :: sk) st Q := am_gu.trans rfl
set_option maxRecDepth 100000 in
theorem u8900_1016 {v1 : Value} {v2 : Value} {v3 : Value} {v4 : Value} {v5 : Value} {v6 : Value} {v7 : Value} {v8 : Value} : am_g d X am_m8900 1016 [.retAddr 0, v1, v2, v3, v4, v5, v6, v7, v8] sk st Q = am_g d X am_m8900 1017 [.retAddr 0, v1, v2, v3, v4, v5, v6, v7, v8] (.retAddr 0 :: sk) st Q := am_gu.trans rfl
set_option maxRecDepth 100000 in
theorem u8900_1017 {v0 : Value} {v1 : Value} {v2 : Value} {v3 : Value} {v5 : Value} {v6 : Value} {v7 : Value} {v8 : Value} {x : Int32} : am_g d X am_m8900 1017 [v0, v1, v2, v3, .int x, v5, v6, v7, v8] sk st Q = am_g d X am_m8900 1019 [v0, v1, v2, v3, .int x, v5, v6, v7, v8] (.int x :: sk) st Q := am_gu.trans rfl
set_option maxRecDepth 100000 in
theorem u8900_1019 {v0 : Value} {v1 : Value} {v2 : Value} {v3 : Value} {v4 : Value} {v5 : Value} {v6 : Value} {v7 : Value} {v8 : Value} : am_g d X am_m8900 1019 [v0, v1, v2, v3, v4, v5, v6, v7, v8] sk st Q = am_g d X am_m8900 1020 [v0, v1, v2, v3, v4, v5, v6, v7, v8] (.int (am_i 1) :: sk) st Q := am_gu.trans rfl
set_option maxRecDepth 100000 in
theorem u8900_1020 {v0 : Value} {v1 : Value} {v2 : Value} {v3 : Value} {v4 : Value} {v5 : Value} {v6 : Value} {v7 : Value} {v8 : Value} {x : Int32} {y : Int32} : am_g d X am_m8900 1020 [v0, v1, v2, v3, v4, v5, v6, v7, v8] (.int y :: .int x :: sk) st Q = am_g d X am_m8900 1021 [v0, v1, v2, v3, v4, v5, v6, v7, v8] (.int (x + y) :: sk) st Q := am_gu.trans rfl
set_option maxRecDepth 100000 in
theorem u8900_1021 {v0 : Value} {v1 : Value} {v2 : Value} {v3 : Value} {v4 : Value} {v5 : Value} {v6 : Value} {v7 : Value} {v8 : Value} : am_g d X am_m8900 1021 [v0, v1, v2, v3, v4, v5, v6, v7, v8] sk st Q = am_xl (X.1, X.2.1, d) am_m8900 1022 [v0, v1, v2, v3, v4, v5, v6, v7, v8] sk st (fun pc lc sk st => am_g d X am_m8900 pc lc sk st Q) := am_gu.trans rfl
set_option maxRecDepth 100000 in
theorem u8900_1022 {a0 : Value} {v0 : Value} {v1 : Value} {v2 : Value} {v3 : Value} {v4 : Value} {v5 : Value} {v6 : Value} {v7 : Value} {v8 : Value} : am_g d X am_m8900 1022 [v0, v1, v2, v3, v4, v5, v6, v7, v8] (a0 :: .ref o :: sk) st Q = ((am_ob st o 7 ∧ sk.length ≤ 4) ∧ am_Ca X d 7064 [.ref o, a0] st (am_af am_m8900 1022 [v0, v1, v2, v3, v4, v5, v6, v7, v8] sk (fun pc lc sk st => am_g d X am_m8900 pc lc sk st Q) Q)) := am_gu.trans rfl
set_option maxRecDepth 100000 in
theorem u8900_1025 {v0 : Value} {v1 : Value} {v2 : Value} {v3 : Value} {v4 : Value} {v5 : Value} {v6 : Value} {v7 : Value} {v8 : Value} {x : Int32} : am_g d X am_m8900 1025 [v0, v1, v2, v3, v4, v5, v6, v7, v8] (.int x :: sk) st Q = am_g d X am_m8900 1027 [v0, v1, v2, v3, v4, am_kc v5, .int x, v7, v8] sk st Q := am_gu.trans (congrArg (fun l => am_g d X am_m8900 1027 (List.set l 6 (.int x)) sk st Q) (kl_6 (l := [v6, v7, v8])))
set_option maxRecDepth 100000 in
theorem u8900_1027 {v0 : Value} {v1 : Value} {v3 : Value} {v4 : Value} {v5 : Value} {v6 : Value} {v7 : Value} {v8 : Value} {x : Nat} : am_g d X am_m8900 1027 [v0, v1, .ref x, v3, v4, v5, v6, v7, v8] sk st Q = am_g d X am_m8900 1028 [v0, v1, .ref x, v3, v4, v5, v6, v7, v8] (.ref x :: sk) st Q := am_gu.trans rfl
set_option maxRecDepth 100000 in
theorem u8900_1028 {v0 : Value} {v1 : Value} {v2 : Value} {v3 : Value} {v4 : Value} {v5 : Value} {v6 : Value} {v7 : Value} {v8 : Value} : am_g d X am_m8900 1028 [v0, v1, v2, v3, v4, v5, v6, v7, v8] (.ref o :: sk) st Q = ((am_ob st o 7 ∧ sk.length ≤ 4) ∧ am_Ca X d 7002 [.ref o] st (am_af am_m8900 1028 [v0, v1, v2, v3, v4, v5, v6, v7, v8] sk (fun pc lc sk st => am_g d X am_m8900 pc lc sk st Q) Q)) := am_gu.trans rfl
set_option maxRecDepth 100000 in
theorem u8900_1031 {v0 : Value} {v1 : Value} {v2 : Value} {v3 : Value} {v4 : Value} {v6 : Value} {v7 : Value} {v8 : Value} {x : Int32} : am_g d X am_m8900 1031 [v0, v1, v2, v3, v4, .int x, v6, v7, v8] sk st Q = am_g d X am_m8900 1033 [v0, v1, v2, v3, v4, .int x, v6, v7, v8] (.int x :: sk) st Q := am_gu.trans rfl
set_option maxRecDepth 100000 in
theorem u8900_1033 {v0 : Value} {v1 : Value} {v2 : Value} {v3 : Value} {v4 : Value} {v5 : Value} {v6 : Value} {v7 : Value} {v8 : Value} {x : Int32} {y : Int32} : am_g d X am_m8900 1033 [v0, v1, v2, v3, v4, v5, v6, v7, v8] (.int y :: .int x :: sk) st Q = (if decide (x = y) = true then am_g d X am_m8900 1038 [v0, v1, v2, v3, v4, v5, v6, v7, v8] sk st Q else am_g d X am_m8900 1036 [v0, v1, v2, v3, v4, v5, v6, v7, v8] sk st Q) := am_gu.trans rfl
set_option maxRecDepth 100000 in
theorem u8900_1036 {v0 : Value} {v1 : Value} {v2 : Value} {v3 : Value} {v4 : Value} {v5 : Value} {v6 : Value} {v7 : Value} {v8 : Value} : am_g d X am_m8900 1036 [v0, v1, v2, v3, v4, v5, v6, v7, v8] sk st Q = am_g d X am_m8900 1037 [v0, v1, v2, v3, v4, v5, v6, v7, v8] (.int (am_i 0) :: sk) st Q := am_gu.trans rfl
set_option maxRecDepth 100000 in
theorem u8900_1037 {v0 : Value} {v1 : Value} {v2 : Value} {v3 : Value} {v4 : Value} {v5 : Value} {v6 : Value} {v7 : Value} {v8 : Value} {x : Int32} : am_g d X am_m8900 1037 [v0, v1, v2, v3, v4, v5, v6, v7, v8] [.int x] st Q = ((x = 0 ∨ x = 1) ∧ Q (.inl (some (.int x))) st) := am_gu.trans rfl
set_option maxRecDepth 100000 in
theorem u8900_1038 {v0 : Value} {v1 : Value} {v2 : Value} {v3 : Value} {v4 : Value} {v6 : Value} {v7 : Value} {v8 : Value} {x : Int32} : am_g d X am_m8900 1038 [v0, v1, v2, v3, v4, .int x, v6, v7, v8] sk st Q = am_g d X am_m8900 1040 [v0, v1, v2, v3, v4, .int x, v6, v7, v8] (.int x :: sk) st Q := am_gu.trans rfl
set_option maxRecDepth 100000 in
theorem u8900_1040 {v0 : Value} {v1 : Value} {v2 : Value} {v3 : Value} {v4 : Value} {v5 : Value} {v6 : Value} {v7 : Value} {v8 : Value} {x : Int32} : am_g d X am_m8900 1040 [v0, v1, v2, v3, v4, v5, v6, v7, v8] (.int x :: sk) st Q = (if decide (¬ x = 0) = true then am_g d X am_m8900 1055 [v0, v1, v2, v3, v4, v5, v6, v7, v8] sk st Q else am_g d X am_m8900 1043 [v0, v1, v2, v3, v4, v5, v6, v7, v8] sk st Q) := am_gu.trans rfl
set_option maxRecDepth 100000 in
theorem u8900_1043 {v0 : Value} {v1 : Value} {v2 : Value} {v4 : Value} {v5 : Value} {v6 : Value} {v7 : Value} {v8 : Value} {x : Nat} : am_g d X am_m8900 1043 [v0, v1, v2, .ref x, v4, v5, v6, v7, v8] sk st Q = am_g d X am_m8900 1044 [v0, v1, v2, .ref x, v4, v5, v6, v7, v8] (.ref x :: sk) st Q := am_gu.trans rfl
set_option maxRecDepth 100000 in
theorem u8900_1044 {v0 : Value} {v1 : Value} {v2 : Value} {v3 : Value} {v4 : Value} {v5 : Value} {v6 : Value} {v7 : Value} {v8 : Value} : am_g d X am_m8900 1044 [v0, v1, v2, v3, v4, v5, v6, v7, v8] sk st Q = am_g d X am_m8900 1045 [v0, v1, v2, v3, v4, v5, v6, v7, v8] (.int (am_i 0) :: sk) st Q := am_gu.trans rfl
set_option maxRecDepth 100000 in
theorem u8900_1045 {v0 : Value} {v1 : Value} {v2 : Value} {v3 : Value} {v4 : Value} {v5 : Value} {v6 : Value} {v7 : Value} {v8 : Value} : am_g d X am_m8900 1045 [v0, v1, v2, v3, v4, v5, v6, v7, v8] sk st Q = am_jl 1046 [v0, v1, v2, v3, v4, v5, v6, v7, v8] sk st (fun pc lc sk st => am_g d X am_m8900 pc lc sk st Q) := am_gu.trans rfl
set_option maxRecDepth 100000 in
theorem u8900_1046 {v0 : Value} {v1 : Value} {v2 : Value} {v3 : Value} {v4 : Value} {v5 : Value} {v7 : Value} {v8 : Value} {x : Int32} : am_g d X am_m8900 1046 [v0, v1, v2, v3, v4, v5, .int x, v7, v8] sk st Q = am_g d X am_m8900 1048 [v0, v1, v2, v3, v4, v5, .int x, v7, v8] (.int x :: sk) st Q := am_gu.trans rfl
set_option maxRecDepth 100000 in
theorem u8900_1048 {v0 : Value} {v1 : Value} {v2 : Value} {v3 : Value} {v4 : Value} {v5 : Value} {v6 : Value} {v7 : Value} {v8 : Value} {x : Int32} : am_g d X am_m8900 1048 [v0, v1, v2, v3, v4, v5, v6, v7, v8] (.int x :: sk) st Q = am_g d X am_m8900 1049 [v0, v1, v2, v3, v4, v5, v6, v7, v8] (.long x.toInt64 :: sk) st Q := am_gu.trans rfl
set_option maxRecDepth 100000 in
theorem u8900_1049 {v0 : Value} {v1 : Value} {v2 : Value} {v3 : Value} {v4 : Value} {v5 : Value} {v6 : Value} {v7 : Value} {v8 : Value} {x : Int64} {y : Int64} : am_g d X am_m8900 1049 [v0, v1, v2, v3, v4, v5, v6, v7, v8] (.long y :: .long x :: sk) st Q = am_g d X am_m8900 1050 [v0, v1, v2, v3, v4, v5, v6, v7, v8] (.int (lg_cmp x y) :: sk) st Q := am_gu.trans rfl
set_option maxRecDepth 100000 in
theorem u8900_1050 {v0 : Value} {v1 : Value} {v2 : Value} {v3 : Value} {v4 : Value} {v5 : Value} {v6 : Value} {v7 : Value} {v8 : Value} {x : Int32} : am_g d X am_m8900 1050 [v0, v1, v2, v3, v4, v5, v6, v7, v8] (.int x :: sk) st Q = (if decide (x = 0) = true then am_g d X am_m8900 1055 [v0, v1, v2, v3, v4, v5, v6, v7, v8] sk st Q else am_g d X am_m8900 1053 [v0, v1, v2, v3, v4, v5, v6, v7, v8] sk st Q) := am_gu.trans rfl
set_option maxRecDepth 100000 in
theorem u8900_1053 {v0 : Value} {v1 : Value} {v2 : Value} {v3 : Value} {v4 : Value} {v5 : Value} {v6 : Value} {v7 : Value} {v8 : Value} : am_g d X am_m8900 1053 [v0, v1, v2, v3, v4, v5, v6, v7, v8] sk st Q = am_g d X am_m8900 1054 [v0, v1, v2, v3, v4, v5, v6, v7, v8] (.int (am_i 0) :: sk) st Q := am_gu.trans rfl
set_option maxRecDepth 100000 in
theorem u8900_1054 {v0 : Value} {v1 : Value} {v2 : Value} {v3 : Value} {v4 : Value} {v5 : Value} {v6 : Value} {v7 : Value} {v8 : Value} {x : Int32} : am_g d X am_m8900 1054 [v0, v1, v2, v3, v4, v5, v6, v7, v8] [.int x] st Q = ((x = 0 ∨ x = 1) ∧ Q (.inl (some (.int x))) st) := am_gu.trans rfl
set_option maxRecDepth 100000 in
theorem u8900_1055 {v0 : Value} {v1 : Value} {v2 : Value} {v3 : Value} {v4 : Value} {v5 : Value} {v6 : Value} {v7 : Value} {v8 : Value} : am_g d X am_m8900 1055 [v0, v1, v2, v3, v4, v5, v6, v7, v8] sk st Q = am_g d X am_m8900 2998 [v0, v1, v2, v3, v4, v5, v6, v7, v8] sk st Q := am_gu.trans rfl
set_option maxRecDepth 100000 in
theorem u8900_1058 {v0 : Value} {v2 : Value} {v3 : Value} {v4 : Value} {v5 : Value} {v6 : Value} {v7 : Value} {v8 : Value} {x : Nat} : am_g d X am_m8900 1058 [v0, .ref x, v2, v3, v4, v5, v6, v7, v8] sk st Q = am_g d X am_m8900 1059 [v0, .ref x, v2, v3, v4, v5, v6, v7, v8] (.ref x :: sk) st Q := am_gu.trans rfl
set_option maxRecDepth 100000 in
theorem u8900_1059 {v1 : Value} {v2 : Value} {v3 : Value} {v4 : Value} {v5 : Value} {v6 : Value} {v7 : Value} {v8 : Value} : am_g d X am_m8900 1059 [.retAddr 0, v1, v2, v3, v4, v5, v6, v7, v8] sk st Q = am_g d X am_m8900 1060 [.retAddr 0, v1, v2, v3, v4, v5, v6, v7, v8] (.retAddr 0 :: sk) st Q := am_gu.trans rfl
set_option maxRecDepth 100000 in
theorem u8900_1060 {v0 : Value} {v1 : Value} {v2 : Value} {v3 : Value} {v5 : Value} {v6 : Value} {v7 : Value} {v8 : Value} {x : Int32} : am_g d X am_m8900 1060 [v0, v1, v2, v3, .int x, v5, v6, v7, v8] sk st Q = am_g d X am_m8900 1062 [v0, v1, v2, v3, .int x, v5, v6, v7, v8] (.int x :: sk) st Q := am_gu.trans rfl
set_option maxRecDepth 100000 in
theorem u8900_1062 {v0 : Value} {v1 : Value} {v2 : Value} {v3 : Value} {v4 : Value} {v5 : Value} {v6 : Value} {v7 : Value} {v8 : Value} : am_g d X am_m8900 1062 [v0, v1, v2, v3, v4, v5, v6, v7, v8] sk st Q = am_g d X am_m8900 1063 [v0, v1, v2, v3, v4, v5, v6, v7, v8] (.int (am_i 1) :: sk) st Q := am_gu.trans rfl
set_option maxRecDepth 100000 in
theorem u8900_1063 {v0 : Value} {v1 : Value} {v2 : Value} {v3 : Value} {v4 : Value} {v5 : Value} {v6 : Value} {v7 : Value} {v8 : Value} {x : Int32} {y : Int32} : am_g d X am_m8900 1063 [v0, v1, v2, v3, v4, v5, v6, v7, v8] (.int y :: .int x :: sk) st Q = am_g d X am_m8900 1064 [v0, v1, v2, v3, v4, v5, v6, v7, v8] (.int (x + y) :: sk) st Q := am_gu.trans rfl
set_option maxRecDepth 100000 in
theorem u8900_1064 {v0 : Value} {v1 : Value} {v2 : Value} {v3 : Value} {v4 : Value} {v5 : Value} {v6 : Value} {v7 : Value} {v8 : Value} : am_g d X am_m8900 1064 [v0, v1, v2, v3, v4, v5, v6, v7, v8] sk st Q = am_xl (X.1, X.2.1, d) am_m8900 1065 [v0, v1, v2, v3, v4, v5, v6, v7, v8] sk st (fun pc lc sk st => am_g d X am_m8900 pc lc sk st Q) := am_gu.trans rfl
set_option maxRecDepth 100000 in
theorem u8900_1065 {v1 : Value} {v2 : Value} {v3 : Value} {v4 : Value} {v5 : Value} {v6 : Value} {v7 : Value} {v8 : Value} : am_g d X am_m8900 1065 [.retAddr 0, v1, v2, v3, v4, v5, v6, v7, v8] sk st Q = am_g d X am_m8900 1066 [.retAddr 0, v1, v2, v3, v4, v5, v6, v7, v8] (.retAddr 0 :: sk) st Q := am_gu.trans rfl
set_option maxRecDepth 100000 in
theorem u8900_1066 {v0 : Value} {v1 : Value} {v2 : Value} {v3 : Value} {v5 : Value} {v6 : Value} {v7 : Value} {v8 : Value} {x : Int32} : am_g d X am_m8900 1066 [v0, v1, v2, v3, .int x, v5, v6, v7, v8] sk st Q = am_g d X am_m8900 1068 [v0, v1, v2, v3, .int x, v5, v6, v7, v8] (.int x :: sk) st Q := am_gu.trans rfl
set_option maxRecDepth 100000 in
theorem u8900_1068 {v0 : Value} {v1 : Value} {v2 : Value} {v3 : Value} {v4 : Value} {v5 : Value} {v6 : Value} {v7 : Value} {v8 : Value} : am_g d X am_m8900 1068 [v0, v1, v2, v3, v4, v5, v6, v7, v8] sk st Q = am_g d X am_m8900 1069 [v0, v1, v2, v3, v4, v5, v6, v7, v8] (.int (am_i 2) :: sk) st Q := am_gu.trans rfl
set_option maxRecDepth 100000 in
theorem u8900_1069 {v0 : Value} {v1 : Value} {v2 : Value} {v3 : Value} {v4 : Value} {v5 : Value} {v6 : Value} {v7 : Value} {v8 : Value} {x : Int32} {y : Int32} : am_g d X am_m8900 1069 [v0, v1, v2, v3, v4, v5, v6, v7, v8] (.int y :: .int x :: sk) st Q = am_g d X am_m8900 1070 [v0, v1, v2, v3, v4, v5, v6, v7, v8] (.int (x + y) :: sk) st Q := am_gu.trans rfl
set_option maxRecDepth 100000 in
theorem u8900_1070 {v0 : Value} {v1 : Value} {v2 : Value} {v3 : Value} {v4 : Value} {v5 : Value} {v6 : Value} {v7 : Value} {v8 : Value} : am_g d X am_m8900 1070 [v0, v1, v2, v3, v4, v5, v6, v7, v8] sk st Q = am_xl (X.1, X.2.1, d) am_m8900 1071 [v0, v1, v2, v3, v4, v5, v6, v7, v8] sk st (fun pc lc sk st => am_g d X am_m8900 pc lc sk st Q) := am_gu.trans rfl
set_option maxRecDepth 100000 in
theorem u8900_1071 {v1 : Value} {v2 : Value} {v3 : Value} {v4 : Value} {v5 : Value} {v6 : Value} {v7 : Value} {v8 : Value} : am_g d X am_m8900 1071 [.retAddr 0, v1, v2, v3, v4, v5, v6, v7, v8] sk st Q = am_g d X am_m8900 1072 [.retAddr 0, v1, v2, v3, v4, v5, v6, v7, v8] (.retAddr 0 :: sk) st Q := am_gu.trans rfl
set_option maxRecDepth 100000 in
theorem u8900_1072 {v0 : Value} {v1 : Value} {v2 : Value} {v3 : Value} {v5 : Value} {v6 : Value} {v7 : Value} {v8 : Value} {x : Int32} : am_g d X am_m8900 1072 [v0, v1, v2, v3, .int x, v5, v6, v7, v8] sk st Q = am_g d X am_m8900 1074 [v0, v1, v2, v3, .int x, v5, v6, v7, v8] (.int x :: sk) st Q := am_gu.trans rfl
set_option maxRecDepth 100000 in
theorem u8900_1074 {v0 : Value} {v1 : Value} {v2 : Value} {v3 : Value} {v4 : Value} {v5 : Value} {v6 : Value} {v7 : Value} {v8 : Value} : am_g d X am_m8900 1074 [v0, v1, v2, v3, v4, v5, v6, v7, v8] sk st Q = am_g d X am_m8900 1075 [v0, v1, v2, v3, v4, v5, v6, v7, v8] (.int (am_i 3) :: sk) st Q := am_gu.trans rfl
set_option maxRecDepth 100000 in
theorem u8900_1075 {v0 : Value} {v1 : Value} {v2 : Value} {v3 : Value} {v4 : Value} {v5 : Value} {v6 : Value} {v7 : Value} {v8 : Value} {x : Int32} {y : Int32} : am_g d X am_m8900 1075 [v0, v1, v2, v3, v4, v5, v6, v7, v8] (.int y :: .int x :: sk) st Q = am_g d X am_m8900 1076 [v0, v1, v2, v3, v4, v5, v6, v7, v8] (.int (x + y) :: sk) st Q := am_gu.trans rfl
set_option maxRecDepth 100000 in
theorem u8900_1076 {v0 : Value} {v1 : Value} {v2 : Value} {v3 : Value} {v4 : Value} {v5 : Value} {v6 : Value} {v7 : Value} {v8 : Value} : am_g d X am_m8900 1076 [v0, v1, v2, v3, v4, v5, v6, v7, v8] sk st Q = am_xl (X.1, X.2.1, d) am_m8900 1077 [v0, v1, v2, v3, v4, v5, v6, v7, v8] sk st (fun pc lc sk st => am_g d X am_m8900 pc lc sk st Q) := am_gu.trans rfl
set_option maxRecDepth 100000 in
theorem u8900_1077 {v0 : Value} {v1 : Value} {v2 : Value} {v3 : Value} {v4 : Value} {v5 : Value} {v6 : Value} {v7 : Value} {v8 : Value} {x : Int32} : am_g d X am_m8900 1077 [v0, v1, v2, v3, v4, v5, v6, v7, v8] (.int x :: sk) st Q = (if decide (x = 0) = true then am_g d X am_m8900 1084 [v0, v1, v2, v3, v4, v5, v6, v7, v8] sk st Q else am_g d X am_m8900 1080 [v0, v1, v2, v3, v4, v5, v6, v7, v8] sk st Q) := am_gu.trans rfl
set_option maxRecDepth 100000 in
theorem u8900_1080 {v0 : Value} {v1 : Value} {v2 : Value} {v3 : Value} {v4 : Value} {v5 : Value} {v6 : Value} {v7 : Value} {v8 : Value} : am_g d X am_m8900 1080 [v0, v1, v2, v3, v4, v5, v6, v7, v8] sk st Q = am_g d X am_m8900 1081 [v0, v1, v2, v3, v4, v5, v6, v7, v8] (.int (am_i 1) :: sk) st Q := am_gu.trans rfl
set_option maxRecDepth 100000 in
theorem u8900_1081 {v0 : Value} {v1 : Value} {v2 : Value} {v3 : Value} {v4 : Value} {v5 : Value} {v6 : Value} {v7 : Value} {v8 : Value} : am_g d X am_m8900 1081 [v0, v1, v2, v3, v4, v5, v6, v7, v8] sk st Q = am_g d X am_m8900 1085 [v0, v1, v2, v3, v4, v5, v6, v7, v8] sk st Q := am_gu.trans rfl
set_option maxRecDepth 100000 in
theorem u8900_1084 {v0 : Value} {v1 : Value} {v2 : Value} {v3 : Value} {v4 : Value} {v5 : Value} {v6 : Value} {v7 : Value} {v8 : Value} : am_g d X am_m8900 1084 [v0, v1, v2, v3, v4, v5, v6, v7, v8] sk st Q = am_g d X am_m8900 1085 [v0, v1, v2, v3, v4, v5, v6, v7, v8] (.int (am_i 0) :: sk) st Q := am_gu.trans rfl
set_option maxRecDepth 100000 in
theorem u8900_1085 {v0 : Value} {v1 : Value} {v2 : Value} {v4 : Value} {v5 : Value} {v6 : Value} {v7 : Value} {v8 : Value} {x : Nat} : am_g d X am_m8900 1085 [v0, v1, v2, .ref x, v4, v5, v6, v7, v8] sk st Q = am_g d X am_m8900 1086 [v0, v1, v2, .ref x, v4, v5, v6, v7, v8] (.ref x :: sk) st Q := am_gu.trans rfl
set_option maxRecDepth 100000 in
theorem u8900_1086 {a0 : Value} {a1 : Value} {a2 : Value} {a3 : Value} {a4 : Value} {v0 : Value} {v1 : Value} {v2 : Value} {v3 : Value} {v4 : Value} {v5 : Value} {v6 : Value} {v7 : Value} {v8 : Value} : am_g d X am_m8900 1086 [v0, v1, v2, v3, v4, v5, v6, v7, v8] (a4 :: a3 :: a2 :: a1 :: a0 :: sk) st Q = (sk.length ≤ 4 ∧ am_Ca X d 8015 [a0, a1, a2, a3, a4] st (am_af am_m8900 1086 [v0, v1, v2, v3, v4, v5, v6, v7, v8] sk (fun pc lc sk st => am_g d X am_m8900 pc lc sk st Q) Q)) := am_gu.trans (propext ⟨fun h => ⟨h.1.2, h.2⟩, fun h => ⟨⟨Nat.le_add_left _ _, h.1⟩, h.2⟩⟩)
set_option maxRecDepth 100000 in
theorem u8900_1089 {v0 : Value} {v1 : Value} {v2 : Value} {v3 : Value} {v4 : Value} {v5 : Value} {v6 : Value} {v7 : Value} {v8 : Value} {x : Int32} : am_g d X am_m8900 1089 [v0, v1, v2, v3, v4, v5, v6, v7, v8] (.int x :: sk) st Q = am_g d X am_m8900 1091 [v0, v1, v2, v3, am_kc v4, .int x, v6, v7, v8] sk st Q := am_gu.trans (congrArg (fun l => am_g d X am_m8900 1091 (List.set l 5 (.int x)) sk st Q) (kl_5 (l := [v5, v6, v7, v8])))
set_option maxRecDepth 100000 in
theorem u8900_1091 {v0 : Value} {v1 : Value} {v3 : Value} {v4 : Value} {v5 : Value} {v6 : Value} {v7 : Value} {v8 : Value} {x : Nat} : am_g d X am_m8900 1091 [v0, v1, .ref x, v3, v4, v5, v6, v7, v8] sk st Q = am_g d X am_m8900 1092 [v0, v1, .ref x, v3, v4, v5, v6, v7, v8] (.ref x :: sk) st Q := am_gu.trans rfl
set_option maxRecDepth 100000 in
theorem u8900_1092 {v1 : Value} {v2 : Value} {v3 : Value} {v4 : Value} {v5 : Value} {v6 : Value} {v7 : Value} {v8 : Value} : am_g d X am_m8900 1092 [.retAddr 0, v1, v2, v3, v4, v5, v6, v7, v8] sk st Q = am_g d X am_m8900 1093 [.retAddr 0, v1, v2, v3, v4, v5, v6, v7, v8] (.retAddr 0 :: sk) st Q := am_gu.trans rfl
set_option maxRecDepth 100000 in
theorem u8900_1093 {v0 : Value} {v1 : Value} {v2 : Value} {v3 : Value} {v5 : Value} {v6 : Value} {v7 : Value} {v8 : Value} {x : Int32} : am_g d X am_m8900 1093 [v0, v1, v2, v3, .int x, v5, v6, v7, v8] sk st Q = am_g d X am_m8900 1095 [v0, v1, v2, v3, .int x, v5, v6, v7, v8] (.int x :: sk) st Q := am_gu.trans rfl
set_option maxRecDepth 100000 in
theorem u8900_1095 {v0 : Value} {v1 : Value} {v2 : Value} {v3 : Value} {v4 : Value} {v5 : Value} {v6 : Value} {v7 : Value} {v8 : Value} : am_g d X am_m8900 1095 [v0, v1, v2, v3, v4, v5, v6, v7, v8] sk st Q = am_g d X am_m8900 1096 [v0, v1, v2, v3, v4, v5, v6, v7, v8] (.int (am_i 1) :: sk) st Q := am_gu.trans rfl
set_option maxRecDepth 100000 in
theorem u8900_1096 {v0 : Value} {v1 : Value} {v2 : Value} {v3 : Value} {v4 : Value} {v5 : Value} {v6 : Value} {v7 : Value} {v8 : Value} {x : Int32} {y : Int32} : am_g d X am_m8900 1096 [v0, v1, v2, v3, v4, v5, v6, v7, v8] (.int y :: .int x :: sk) st Q = am_g d X am_m8900 1097 [v0, v1, v2, v3, v4, v5, v6, v7, v8] (.int (x + y) :: sk) st Q := am_gu.trans rfl
set_option maxRecDepth 100000 in
theorem u8900_1097 {v0 : Value} {v1 : Value} {v2 : Value} {v3 : Value} {v4 : Value} {v5 : Value} {v6 : Value} {v7 : Value} {v8 : Value} : am_g d X am_m8900 1097 [v0, v1, v2, v3, v4, v5, v6, v7, v8] sk st Q = am_xl (X.1, X.2.1, d) am_m8900 1098 [v0, v1, v2, v3, v4, v5, v6, v7, v8] sk st (fun pc lc sk st => am_g d X am_m8900 pc lc sk st Q) := am_gu.trans rfl
set_option maxRecDepth 100000 in
theorem u8900_1098 {v1 : Value} {v2 : Value} {v3 : Value} {v4 : Value} {v5 : Value} {v6 : Value} {v7 : Value} {v8 : Value} : am_g d X am_m8900 1098 [.retAddr 0, v1, v2, v3, v4, v5, v6, v7, v8] sk st Q = am_g d X am_m8900 1099 [.retAddr 0, v1, v2, v3, v4, v5, v6, v7, v8] (.retAddr 0 :: sk) st Q := am_gu.trans rfl
set_option maxRecDepth 100000 in
theorem u8900_1099 {v0 : Value} {v1 : Value} {v2 : Value} {v3 : Value} {v5 : Value} {v6 : Value} {v7 : Value} {v8 : Value} {x : Int32} : am_g d X am_m8900 1099 [v0, v1, v2, v3, .int x, v5, v6, v7, v8] sk st Q = am_g d X am_m8900 1101 [v0, v1, v2, v3, .int x, v5, v6, v7, v8] (.int x :: sk) st Q := am_gu.trans rfl
set_option maxRecDepth 100000 in
theorem u8900_1101 {v0 : Value} {v1 : Value} {v2 : Value} {v3 : Value} {v4 : Value} {v5 : Value} {v6 : Value} {v7 : Value} {v8 : Value} : am_g d X am_m8900 1101 [v0, v1, v2, v3, v4, v5, v6, v7, v8] sk st Q = am_g d X am_m8900 1102 [v0, v1, v2, v3, v4, v5, v6, v7, v8] (.int (am_i 2) :: sk) st Q := am_gu.trans rfl
set_option maxRecDepth 100000 in
theorem u8900_1102 {v0 : Value} {v1 : Value} {v2 : Value} {v3 : Value} {v4 : Value} {v5 : Value} {v6 : Value} {v7 : Value} {v8 : Value} {x : Int32} {y : Int32} : am_g d X am_m8900 1102 [v0, v1, v2, v3, v4, v5, v6, v7, v8] (.int y :: .int x :: sk) st Q = am_g d X am_m8900 1103 [v0, v1, v2, v3, v4, v5, v6, v7, v8] (.int (x + y) :: sk) st Q := am_gu.trans rfl
set_option maxRecDepth 100000 in
theorem u8900_1103 {v0 : Value} {v1 : Value} {v2 : Value} {v3 : Value} {v4 : Value} {v5 : Value} {v6 : Value} {v7 : Value} {v8 : Value} : am_g d X am_m8900 1103 [v0, v1, v2, v3, v4, v5, v6, v7, v8] sk st Q = am_xl (X.1, X.2.1, d) am_m8900 1104 [v0, v1, v2, v3, v4, v5, v6, v7, v8] sk st (fun pc lc sk st => am_g d X am_m8900 pc lc sk st Q) := am_gu.trans rfl
set_option maxRecDepth 100000 in
theorem u8900_1104 {v1 : Value} {v2 : Value} {v3 : Value} {v4 : Value} {v5 : Value} {v6 : Value} {v7 : Value} {v8 : Value} : am_g d X am_m8900 1104 [.retAddr 0, v1, v2, v3, v4, v5, v6, v7, v8] sk st Q = am_g d X am_m8900 1105 [.retAddr 0, v1, v2, v3, v4, v5, v6, v7, v8] (.retAddr 0 :: sk) st Q := am_gu.trans rfl
set_option maxRecDepth 100000 in
theorem u8900_1105 {v0 : Value} {v1 : Value} {v2 : Value} {v3 : Value} {v5 : Value} {v6 : Value} {v7 : Value} {v8 : Value} {x : Int32} : am_g d X am_m8900 1105 [v0, v1, v2, v3, .int x, v5, v6, v7, v8] sk st Q = am_g d X am_m8900 1107 [v0, v1, v2, v3, .int x, v5, v6, v7, v8] (.int x :: sk) st Q := am_gu.trans rfl
set_option maxRecDepth 100000 in
theorem u8900_1107 {v0 : Value} {v1 : Value} {v2 : Value} {v3 : Value} {v4 : Value} {v5 : Value} {v6 : Value} {v7 : Value} {v8 : Value} : am_g d X am_m8900 1107 [v0, v1, v2, v3, v4, v5, v6, v7, v8] sk st Q = am_g d X am_m8900 1108 [v0, v1, v2, v3, v4, v5, v6, v7, v8] (.int (am_i 3) :: sk) st Q := am_gu.trans rfl
set_option maxRecDepth 100000 in
theorem u8900_1108 {v0 : Value} {v1 : Value} {v2 : Value} {v3 : Value} {v4 : Value} {v5 : Value} {v6 : Value} {v7 : Value} {v8 : Value} {x : Int32} {y : Int32} : am_g d X am_m8900 1108 [v0, v1, v2, v3, v4, v5, v6, v7, v8] (.int y :: .int x :: sk) st Q = am_g d X am_m8900 1109 [v0, v1, v2, v3, v4, v5, v6, v7, v8] (.int (x + y) :: sk) st Q := am_gu.trans rfl
set_option maxRecDepth 100000 in
theorem u8900_1109 {v0 : Value} {v1 : Value} {v2 : Value} {v3 : Value} {v4 : Value} {v5 : Value} {v6 : Value} {v7 : Value} {v8 : Value} : am_g d X am_m8900 1109 [v0, v1, v2, v3, v4, v5, v6, v7, v8] sk st Q = am_xl (X.1, X.2.1, d) am_m8900 1110 [v0, v1, v2, v3, v4, v5, v6, v7, v8] sk st (fun pc lc sk st => am_g d X am_m8900 pc lc sk st Q) := am_gu.trans rfl
set_option maxRecDepth 100000 in
theorem u8900_1110 {v0 : Value} {v1 : Value} {v2 : Value} {v3 : Value} {v4 : Value} {v5 : Value} {v6 : Value} {v7 : Value} {v8 : Value} {x : Int32} : am_g d X am_m8900 1110 [v0, v1, v2, v3, v4, v5, v6, v7, v8] (.int x :: sk) st Q = (if decide (x = 0) = true then am_g d X am_m8900 1117 [v0, v1, v2, v3, v4, v5, v6, v7, v8] sk st Q else am_g d X am_m8900 1113 [v0, v1, v2, v3, v4, v5, v6, v7, v8] sk st Q) := am_gu.trans rfl
set_option maxRecDepth 100000 in
theorem u8900_1113 {v0 : Value} {v1 : Value} {v2 : Value} {v3 : Value} {v4 : Value} {v5 : Value} {v6 : Value} {v7 : Value} {v8 : Value} : am_g d X am_m8900 1113 [v0, v1, v2, v3, v4, v5, v6, v7, v8] sk st Q = am_g d X am_m8900 1114 [v0, v1, v2, v3, v4, v5, v6, v7, v8] (.int (am_i 1) :: sk) st Q := am_gu.trans rfl
set_option maxRecDepth 100000 in
theorem u8900_1114 {v0 : Value} {v1 : Value} {v2 : Value} {v3 : Value} {v4 : Value} {v5 : Value} {v6 : Value} {v7 : Value} {v8 : Value} : am_g d X am_m8900 1114 [v0, v1, v2, v3, v4, v5, v6, v7, v8] sk st Q = am_g d X am_m8900 1118 [v0, v1, v2, v3, v4, v5, v6, v7, v8] sk st Q := am_gu.trans rfl
set_option maxRecDepth 100000 in
theorem u8900_1117 {v0 : Value} {v1 : Value} {v2 : Value} {v3 : Value} {v4 : Value} {v5 : Value} {v6 : Value} {v7 : Value} {v8 : Value} : am_g d X am_m8900 1117 [v0, v1, v2, v3, v4, v5, v6, v7, v8] sk st Q = am_g d X am_m8900 1118 [v0, v1, v2, v3, v4, v5, v6, v7, v8] (.int (am_i 0) :: sk) st Q := am_gu.trans rfl
set_option maxRecDepth 100000 in
theorem u8900_1118 {a0 : Value} {a1 : Value} {a2 : Value} {v0 : Value} {v1 : Value} {v2 : Value} {v3 : Value} {v4 : Value} {v5 : Value} {v6 : Value} {v7 : Value} {v8 : Value} : am_g d X am_m8900 1118 [v0, v1, v2, v3, v4, v5, v6, v7, v8] (a2 :: a1 :: a0 :: .ref o :: sk) st Q = ((am_ob st o 7 ∧ sk.length ≤ 4) ∧ am_Ca X d 7065 [.ref o, a0, a1, a2] st (am_af am_m8900 1118 [v0, v1, v2, v3, v4, v5, v6, v7, v8] sk (fun pc lc sk st => am_g d X am_m8900 pc lc sk st Q) Q)) := am_gu.trans rfl
set_option maxRecDepth 100000 in
theorem u8900_1121 {v0 : Value} {v1 : Value} {v2 : Value} {v3 : Value} {v4 : Value} {v5 : Value} {v6 : Value} {v7 : Value} {v8 : Value} {x : Int32} : am_g d X am_m8900 1121 [v0, v1, v2, v3, v4, v5, v6, v7, v8] (.int x :: sk) st Q = am_g d X am_m8900 1123 [v0, v1, v2, v3, v4, am_kc v5, .int x, v7, v8] sk st Q := am_gu.trans (congrArg (fun l => am_g d X am_m8900 1123 (List.set l 6 (.int x)) sk st Q) (kl_6 (l := [v6, v7, v8])))
set_option maxRecDepth 100000 in
theorem u8900_1123 {v0 : Value} {v1 : Value} {v3 : Value} {v4 : Value} {v5 : Value} {v6 : Value} {v7 : Value} {v8 : Value} {x : Nat} : am_g d X am_m8900 1123 [v0, v1, .ref x, v3, v4, v5, v6, v7, v8] sk st Q = am_g d X am_m8900 1124 [v0, v1, .ref x, v3, v4, v5, v6, v7, v8] (.ref x :: sk) st Q := am_gu.trans rfl
set_option maxRecDepth 100000 in
theorem u8900_1124 {v0 : Value} {v1 : Value} {v2 : Value} {v3 : Value} {v4 : Value} {v5 : Value} {v6 : Value} {v7 : Value} {v8 : Value} : am_g d X am_m8900 1124 [v0, v1, v2, v3, v4, v5, v6, v7, v8] (.ref o :: sk) st Q = ((am_ob st o 7 ∧ sk.length ≤ 4) ∧ am_Ca X d 7002 [.ref o] st (am_af am_m8900 1124 [v0, v1, v2, v3, v4, v5, v6, v7, v8] sk (fun pc lc sk st => am_g d X am_m8900 pc lc sk st Q) Q)) := am_gu.trans rfl
set_option maxRecDepth 100000 in
theorem u8900_1127 {v0 : Value} {v1 : Value} {v2 : Value} {v3 : Value} {v4 : Value} {v6 : Value} {v7 : Value} {v8 : Value} {x : Int32} : am_g d X am_m8900 1127 [v0, v1, v2, v3, v4, .int x, v6, v7, v8] sk st Q = am_g d X am_m8900 1129 [v0, v1, v2, v3, v4, .int x, v6, v7, v8] (.int x :: sk) st Q := am_gu.trans rfl
set_option maxRecDepth 100000 in
theorem u8900_1129 {v0 : Value} {v1 : Value} {v2 : Value} {v3 : Value} {v4 : Value} {v5 : Value} {v6 : Value} {v7 : Value} {v8 : Value} {x : Int32} {y : Int32} : am_g d X am_m8900 1129 [v0, v1, v2, v3, v4, v5, v6, v7, v8] (.int y :: .int x :: sk) st Q = (if decide (x = y) = true then am_g d X am_m8900 1134 [v0, v1, v2, v3, v4, v5, v6, v7, v8] sk st Q else am_g d X am_m8900 1132 [v0, v1, v2, v3, v4, v5, v6, v7, v8] sk st Q) := am_gu.trans rfl
set_option maxRecDepth 100000 in
theorem u8900_1132 {v0 : Value} {v1 : Value} {v2 : Value} {v3 : Value} {v4 : Value} {v5 : Value} {v6 : Value} {v7 : Value} {v8 : Value} : am_g d X am_m8900 1132 [v0, v1, v2, v3, v4, v5, v6, v7, v8] sk st Q = am_g d X am_m8900 1133 [v0, v1, v2, v3, v4, v5, v6, v7, v8] (.int (am_i 0) :: sk) st Q := am_gu.trans rfl
set_option maxRecDepth 100000 in
theorem u8900_1133 {v0 : Value} {v1 : Value} {v2 : Value} {v3 : Value} {v4 : Value} {v5 : Value} {v6 : Value} {v7 : Value} {v8 : Value} {x : Int32} : am_g d X am_m8900 1133 [v0, v1, v2, v3, v4, v5, v6, v7, v8] [.int x] st Q = ((x = 0 ∨ x = 1) ∧ Q (.inl (some (.int x))) st) := am_gu.trans rfl
set_option maxRecDepth 100000 in
theorem u8900_1134 {v0 : Value} {v1 : Value} {v2 : Value} {v3 : Value} {v4 : Value} {v6 : Value} {v7 : Value} {v8 : Value} {x : Int32} : am_g d X am_m8900 1134 [v0, v1, v2, v3, v4, .int x, v6, v7, v8] sk st Q = am_g d X am_m8900 1136 [v0, v1, v2, v3, v4, .int x, v6, v7, v8] (.int x :: sk) st Q := am_gu.trans rfl
set_option maxRecDepth 100000 in
theorem u8900_1136 {v0 : Value} {v1 : Value} {v2 : Value} {v3 : Value} {v4 : Value} {v5 : Value} {v6 : Value} {v7 : Value} {v8 : Value} {x : Int32} : am_g d X am_m8900 1136 [v0, v1, v2, v3, v4, v5, v6, v7, v8] (.int x :: sk) st Q = (if decide (¬ x = 0) = true then am_g d X am_m8900 1151 [v0, v1, v2, v3, v4, v5, v6, v7, v8] sk st Q else am_g d X am_m8900 1139 [v0, v1, v2, v3, v4, v5, v6, v7, v8] sk st Q) := am_gu.trans rfl
set_option maxRecDepth 100000 in
theorem u8900_1139 {v0 : Value} {v1 : Value} {v2 : Value} {v4 : Value} {v5 : Value} {v6 : Value} {v7 : Value} {v8 : Value} {x : Nat} : am_g d X am_m8900 1139 [v0, v1, v2, .ref x, v4, v5, v6, v7, v8] sk st Q = am_g d X am_m8900 1140 [v0, v1, v2, .ref x, v4, v5, v6, v7, v8] (.ref x :: sk) st Q := am_gu.trans rfl
set_option maxRecDepth 100000 in
theorem u8900_1140 {v0 : Value} {v1 : Value} {v2 : Value} {v3 : Value} {v4 : Value} {v5 : Value} {v6 : Value} {v7 : Value} {v8 : Value} : am_g d X am_m8900 1140 [v0, v1, v2, v3, v4, v5, v6, v7, v8] sk st Q = am_g d X am_m8900 1141 [v0, v1, v2, v3, v4, v5, v6, v7, v8] (.int (am_i 0) :: sk) st Q := am_gu.trans rfl
set_option maxRecDepth 100000 in
theorem u8900_1141 {v0 : Value} {v1 : Value} {v2 : Value} {v3 : Value} {v4 : Value} {v5 : Value} {v6 : Value} {v7 : Value} {v8 : Value} : am_g d X am_m8900 1141 [v0, v1, v2, v3, v4, v5, v6, v7, v8] sk st Q = am_jl 1142 [v0, v1, v2, v3, v4, v5, v6, v7, v8] sk st (fun pc lc sk st => am_g d X am_m8900 pc lc sk st Q) := am_gu.trans rfl
set_option maxRecDepth 100000 in
theorem u8900_1142 {v0 : Value} {v1 : Value} {v2 : Value} {v3 : Value} {v4 : Value} {v5 : Value} {v7 : Value} {v8 : Value} {x : Int32} : am_g d X am_m8900 1142 [v0, v1, v2, v3, v4, v5, .int x, v7, v8] sk st Q = am_g d X am_m8900 1144 [v0, v1, v2, v3, v4, v5, .int x, v7, v8] (.int x :: sk) st Q := am_gu.trans rfl
set_option maxRecDepth 100000 in
theorem u8900_1144 {v0 : Value} {v1 : Value} {v2 : Value} {v3 : Value} {v4 : Value} {v5 : Value} {v6 : Value} {v7 : Value} {v8 : Value} {x : Int32} : am_g d X am_m8900 1144 [v0, v1, v2, v3, v4, v5, v6, v7, v8] (.int x :: sk) st Q = am_g d X am_m8900 1145 [v0, v1, v2, v3, v4, v5, v6, v7, v8] (.long x.toInt64 :: sk) st Q := am_gu.trans rfl
set_option maxRecDepth 100000 in
theorem u8900_1145 {v0 : Value} {v1 : Value} {v2 : Value} {v3 : Value} {v4 : Value} {v5 : Value} {v6 : Value} {v7 : Value} {v8 : Value} {x : Int64} {y : Int64} : am_g d X am_m8900 1145 [v0, v1, v2, v3, v4, v5, v6, v7, v8] (.long y :: .long x :: sk) st Q = am_g d X am_m8900 1146 [v0, v1, v2, v3, v4, v5, v6, v7, v8] (.int (lg_cmp x y) :: sk) st Q := am_gu.trans rfl
set_option maxRecDepth 100000 in
theorem u8900_1146 {v0 : Value} {v1 : Value} {v2 : Value} {v3 : Value} {v4 : Value} {v5 : Value} {v6 : Value} {v7 : Value} {v8 : Value} {x : Int32} : am_g d X am_m8900 1146 [v0, v1, v2, v3, v4, v5, v6, v7, v8] (.int x :: sk) st Q = (if decide (x = 0) = true then am_g d X am_m8900 1151 [v0, v1, v2, v3, v4, v5, v6, v7, v8] sk st Q else am_g d X am_m8900 1149 [v0, v1, v2, v3, v4, v5, v6, v7, v8] sk st Q) := am_gu.trans rfl
set_option maxRecDepth 100000 in
theorem u8900_1149 {v0 : Value} {v1 : Value} {v2 : Value} {v3 : Value} {v4 : Value} {v5 : Value} {v6 : Value} {v7 : Value} {v8 : Value} : am_g d X am_m8900 1149 [v0, v1, v2, v3, v4, v5, v6, v7, v8] sk st Q = am_g d X am_m8900 1150 [v0, v1, v2, v3, v4, v5, v6, v7, v8] (.int (am_i 0) :: sk) st Q := am_gu.trans rfl
set_option maxRecDepth 100000 in
theorem u8900_1150 {v0 : Value} {v1 : Value} {v2 : Value} {v3 : Value} {v4 : Value} {v5 : Value} {v6 : Value} {v7 : Value} {v8 : Value} {x : Int32} : am_g d X am_m8900 1150 [v0, v1, v2, v3, v4, v5, v6, v7, v8] [.int x] st Q = ((x = 0 ∨ x = 1) ∧ Q (.inl (some (.int x))) st) := am_gu.trans rfl
set_option maxRecDepth 100000 in
theorem u8900_1151 {v0 : Value} {v1 : Value} {v2 : Value} {v3 : Value} {v4 : Value} {v5 : Value} {v6 : Value} {v7 : Value} {v8 : Value} : am_g d X am_m8900 1151 [v0, v1, v2, v3, v4, v5, v6, v7, v8] sk st Q = am_g d X am_m8900 2998 [v0, v1, v2, v3, v4, v5, v6, v7, v8] sk st Q := am_gu.trans rfl
set_option maxRecDepth 100000 in
theorem u8900_1154 {v0 : Value} {v2 : Value} {v3 : Value} {v4 : Value} {v5 : Value} {v6 : Value} {v7 : Value} {v8 : Value} {x : Nat} : am_g d X am_m8900 1154 [v0, .ref x, v2, v3, v4, v5, v6, v7, v8] sk st Q = am_g d X am_m8900 1155 [v0, .ref x, v2, v3, v4, v5, v6, v7, v8] (.ref x :: sk) st Q := am_gu.trans rfl
set_option maxRecDepth 100000 in
theorem u8900_1155 {v0 : Value} {v1 : Value} {v2 : Value} {v4 : Value} {v5 : Value} {v6 : Value} {v7 : Value} {v8 : Value} {x : Nat} : am_g d X am_m8900 1155 [v0, v1, v2, .ref x, v4, v5, v6, v7, v8] sk st Q = am_g d X am_m8900 1156 [v0, v1, v2, .ref x, v4, v5, v6, v7, v8] (.ref x :: sk) st Q := am_gu.trans rfl
set_option maxRecDepth 100000 in
theorem u8900_1156 {a0 : Value} {a1 : Value} {v0 : Value} {v1 : Value} {v2 : Value} {v3 : Value} {v4 : Value} {v5 : Value} {v6 : Value} {v7 : Value} {v8 : Value} : am_g d X am_m8900 1156 [v0, v1, v2, v3, v4, v5, v6, v7, v8] (a1 :: a0 :: sk) st Q = (sk.length ≤ 4 ∧ am_Ca X d 8016 [a0, a1] st (am_af am_m8900 1156 [v0, v1, v2, v3, v4, v5, v6, v7, v8] sk (fun pc lc sk st => am_g d X am_m8900 pc lc sk st Q) Q)) := am_gu.trans (propext ⟨fun h => ⟨h.1.2, h.2⟩, fun h => ⟨⟨Nat.le_add_left _ _, h.1⟩, h.2⟩⟩)
set_option maxRecDepth 100000 in
theorem u8900_1159 {v0 : Value} {v1 : Value} {v2 : Value} {v3 : Value} {v4 : Value} {v5 : Value} {v6 : Value} {v7 : Value} {v8 : Value} {x : Int32} : am_g d X am_m8900 1159 [v0, v1, v2, v3, v4, v5, v6, v7, v8] (.int x :: sk) st Q = am_g d X am_m8900 1161 [v0, v1, v2, v3, am_kc v4, .int x, v6, v7, v8] sk st Q := am_gu.trans (congrArg (fun l => am_g d X am_m8900 1161 (List.set l 5 (.int x)) sk st Q) (kl_5 (l := [v5, v6, v7, v8])))
set_option maxRecDepth 100000 in
theorem u8900_1161 {v0 : Value} {v1 : Value} {v3 : Value} {v4 : Value} {v5 : Value} {v6 : Value} {v7 : Value} {v8 : Value} {x : Nat} : am_g d X am_m8900 1161 [v0, v1, .ref x, v3, v4, v5, v6, v7, v8] sk st Q = am_g d X am_m8900 1162 [v0, v1, .ref x, v3, v4, v5, v6, v7, v8] (.ref x :: sk) st Q := am_gu.trans rfl
set_option maxRecDepth 100000 in
theorem u8900_1162 {v0 : Value} {v1 : Value} {v2 : Value} {v3 : Value} {v4 : Value} {v5 : Value} {v6 : Value} {v7 : Value} {v8 : Value} : am_g d X am_m8900 1162 [v0, v1, v2, v3, v4, v5, v6, v7, v8] (.ref o :: sk) st Q = ((am_ob st o 7 ∧ sk.length ≤ 4) ∧ am_Ca X d 7066 [.ref o] st (am_af am_m8900 1162 [v0, v1, v2, v3, v4, v5, v6, v7, v8] sk (fun pc lc sk st => am_g d X am_m8900 pc lc sk st Q) Q)) := am_gu.trans rfl
set_option maxRecDepth 100000 in
theorem u8900_1165 {v0 : Value} {v1 : Value} {v2 : Value} {v3 : Value} {v4 : Value} {v5 : Value} {v6 : Value} {v7 : Value} {v8 : Value} {x : Int32} : am_g d X am_m8900 1165 [v0, v1, v2, v3, v4, v5, v6, v7, v8] (.int x :: sk) st Q = am_g d X am_m8900 1167 [v0, v1, v2, v3, v4, am_kc v5, .int x, v7, v8] sk st Q := am_gu.trans (congrArg (fun l => am_g d X am_m8900 1167 (List.set l 6 (.int x)) sk st Q) (kl_6 (l := [v6, v7, v8])))
set_option maxRecDepth 100000 in
theorem u8900_1167 {v0 : Value} {v1 : Value} {v3 : Value} {v4 : Value} {v5 : Value} {v6 : Value} {v7 : Value} {v8 : Value} {x : Nat} : am_g d X am_m8900 1167 [v0, v1, .ref x, v3, v4, v5, v6, v7, v8] sk st Q = am_g d X am_m8900 1168 [v0, v1, .ref x, v3, v4, v5, v6, v7, v8] (.ref x :: sk) st Q := am_gu.trans rfl
set_option maxRecDepth 100000 in
theorem u8900_1168 {v0 : Value} {v1 : Value} {v2 : Value} {v3 : Value} {v4 : Value} {v5 : Value} {v6 : Value} {v7 : Value} {v8 : Value} : am_g d X am_m8900 1168 [v0, v1, v2, v3, v4, v5, v6, v7, v8] (.ref o :: sk) st Q = ((am_ob st o 7 ∧ sk.length ≤ 4) ∧ am_Ca X d 7002 [.ref o] st (am_af am_m8900 1168 [v0, v1, v2, v3, v4, v5, v6, v7, v8] sk (fun pc lc sk st => am_g d X am_m8900 pc lc sk st Q) Q)) := am_gu.trans rfl
set_option maxRecDepth 100000 in
theorem u8900_1171 {v0 : Value} {v1 : Value} {v2 : Value} {v3 : Value} {v4 : Value} {v6 : Value} {v7 : Value} {v8 : Value} {x : Int32} : am_g d X am_m8900 1171 [v0, v1, v2, v3, v4, .int x, v6, v7, v8] sk st Q = am_g d X am_m8900 1173 [v0, v1, v2, v3, v4, .int x, v6, v7, v8] (.int x :: sk) st Q := am_gu.trans rfl
set_option maxRecDepth 100000 in
theorem u8900_1173 {v0 : Value} {v1 : Value} {v2 : Value} {v3 : Value} {v4 : Value} {v5 : Value} {v6 : Value} {v7 : Value} {v8 : Value} {x : Int32} {y : Int32} : am_g d X am_m8900 1173 [v0, v1, v2, v3, v4, v5, v6, v7, v8] (.int y :: .int x :: sk) st Q = (if decide (x = y) = true then am_g d X am_m8900 1178 [v0, v1, v2, v3, v4, v5, v6, v7, v8] sk st Q else am_g d X am_m8900 1176 [v0, v1, v2, v3, v4, v5, v6, v7, v8] sk st Q) := am_gu.trans rfl
set_option maxRecDepth 100000 in
theorem u8900_1176 {v0 : Value} {v1 : Value} {v2 : Value} {v3 : Value} {v4 : Value} {v5 : Value} {v6 : Value} {v7 : Value} {v8 : Value} : am_g d X am_m8900 1176 [v0, v1, v2, v3, v4, v5, v6, v7, v8] sk st Q = am_g d X am_m8900 1177 [v0, v1, v2, v3, v4, v5, v6, v7, v8] (.int (am_i 0) :: sk) st Q := am_gu.trans rfl
set_option maxRecDepth 100000 in
theorem u8900_1177 {v0 : Value} {v1 : Value} {v2 : Value} {v3 : Value} {v4 : Value} {v5 : Value} {v6 : Value} {v7 : Value} {v8 : Value} {x : Int32} : am_g d X am_m8900 1177 [v0, v1, v2, v3, v4, v5, v6, v7, v8] [.int x] st Q = ((x = 0 ∨ x = 1) ∧ Q (.inl (some (.int x))) st) := am_gu.trans rfl
set_option maxRecDepth 100000 in
theorem u8900_1178 {v0 : Value} {v1 : Value} {v2 : Value} {v3 : Value} {v4 : Value} {v6 : Value} {v7 : Value} {v8 : Value} {x : Int32} : am_g d X am_m8900 1178 [v0, v1, v2, v3, v4, .int x, v6, v7, v8] sk st Q = am_g d X am_m8900 1180 [v0, v1, v2, v3, v4, .int x, v6, v7, v8] (.int x :: sk) st Q := am_gu.trans rfl
set_option maxRecDepth 100000 in
theorem u8900_1180 {v0 : Value} {v1 : Value} {v2 : Value} {v3 : Value} {v4 : Value} {v5 : Value} {v6 : Value} {v7 : Value} {v8 : Value} {x : Int32} : am_g d X am_m8900 1180 [v0, v1, v2, v3, v4, v5, v6, v7, v8] (.int x :: sk) st Q = (if decide (¬ x = 0) = true then am_g d X am_m8900 1195 [v0, v1, v2, v3, v4, v5, v6, v7, v8] sk st Q else am_g d X am_m8900 1183 [v0, v1, v2, v3, v4, v5, v6, v7, v8] sk st Q) := am_gu.trans rfl
set_option maxRecDepth 100000 in
theorem u8900_1183 {v0 : Value} {v1 : Value} {v2 : Value} {v4 : Value} {v5 : Value} {v6 : Value} {v7 : Value} {v8 : Value} {x : Nat} : am_g d X am_m8900 1183 [v0, v1, v2, .ref x, v4, v5, v6, v7, v8] sk st Q = am_g d X am_m8900 1184 [v0, v1, v2, .ref x, v4, v5, v6, v7, v8] (.ref x :: sk) st Q := am_gu.trans rfl
set_option maxRecDepth 100000 in
theorem u8900_1184 {v0 : Value} {v1 : Value} {v2 : Value} {v3 : Value} {v4 : Value} {v5 : Value} {v6 : Value} {v7 : Value} {v8 : Value} : am_g d X am_m8900 1184 [v0, v1, v2, v3, v4, v5, v6, v7, v8] sk st Q = am_g d X am_m8900 1185 [v0, v1, v2, v3, v4, v5, v6, v7, v8] (.int (am_i 0) :: sk) st Q := am_gu.trans rfl
set_option maxRecDepth 100000 in
theorem u8900_1185 {v0 : Value} {v1 : Value} {v2 : Value} {v3 : Value} {v4 : Value} {v5 : Value} {v6 : Value} {v7 : Value} {v8 : Value} : am_g d X am_m8900 1185 [v0, v1, v2, v3, v4, v5, v6, v7, v8] sk st Q = am_jl 1186 [v0, v1, v2, v3, v4, v5, v6, v7, v8] sk st (fun pc lc sk st => am_g d X am_m8900 pc lc sk st Q) := am_gu.trans rfl
set_option maxRecDepth 100000 in
theorem u8900_1186 {v0 : Value} {v1 : Value} {v2 : Value} {v3 : Value} {v4 : Value} {v5 : Value} {v7 : Value} {v8 : Value} {x : Int32} : am_g d X am_m8900 1186 [v0, v1, v2, v3, v4, v5, .int x, v7, v8] sk st Q = am_g d X am_m8900 1188 [v0, v1, v2, v3, v4, v5, .int x, v7, v8] (.int x :: sk) st Q := am_gu.trans rfl
set_option maxRecDepth 100000 in
theorem u8900_1188 {v0 : Value} {v1 : Value} {v2 : Value} {v3 : Value} {v4 : Value} {v5 : Value} {v6 : Value} {v7 : Value} {v8 : Value} {x : Int32} : am_g d X am_m8900 1188 [v0, v1, v2, v3, v4, v5, v6, v7, v8] (.int x :: sk) st Q = am_g d X am_m8900 1189 [v0, v1, v2, v3, v4, v5, v6, v7, v8] (.long x.toInt64 :: sk) st Q := am_gu.trans rfl
set_option maxRecDepth 100000 in
theorem u8900_1189 {v0 : Value} {v1 : Value} {v2 : Value} {v3 : Value} {v4 : Value} {v5 : Value} {v6 : Value} {v7 : Value} {v8 : Value} {x : Int64} {y : Int64} : am_g d X am_m8900 1189 [v0, v1, v2, v3, v4, v5, v6, v7, v8] (.long y :: .long x :: sk) st Q = am_g d X am_m8900 1190 [v0, v1, v2, v3, v4, v5, v6, v7, v8] (.int (lg_cmp x y) :: sk) st Q := am_gu.trans rfl
set_option maxRecDepth 100000 in
theorem u8900_1190 {v0 : Value} {v1 : Value} {v2 : Value} {v3 : Value} {v4 : Value} {v5 : Value} {v6 : Value} {v7 : Value} {v8 : Value} {x : Int32} : am_g d X am_m8900 1190 [v0, v1, v2, v3, v4, v5, v6, v7, v8] (.int x :: sk) st Q = (if decide (x = 0) = true then am_g d X am_m8900 1195 [v0, v1, v2, v3, v4, v5, v6, v7, v8] sk st Q else am_g d X am_m8900 1193 [v0, v1, v2, v3, v4, v5, v6, v7, v8] sk st Q) := am_gu.trans rfl
set_option maxRecDepth 100000 in
theorem u8900_1193 {v0 : Value} {v1 : Value} {v2 : Value} {v3 : Value} {v4 : Value} {v5 : Value} {v6 : Value} {v7 : Value} {v8 : Value} : am_g d X am_m8900 1193 [v0, v1, v2, v3, v4, v5, v6, v7, v8] sk st Q = am_g d X am_m8900 1194 [v0, v1, v2, v3, v4, v5, v6, v7, v8] (.int (am_i 0) :: sk) st Q := am_gu.trans rfl
set_option maxRecDepth 100000 in
theorem u8900_1194 {v0 : Value} {v1 : Value} {v2 : Value} {v3 : Value} {v4 : Value} {v5 : Value} {v6 : Value} {v7 : Value} {v8 : Value} {x : Int32} : am_g d X am_m8900 1194 [v0, v1, v2, v3, v4, v5, v6, v7, v8] [.int x] st Q = ((x = 0 ∨ x = 1) ∧ Q (.inl (some (.int x))) st) := am_gu.trans rfl
set_option maxRecDepth 100000 in
theorem u8900_1195 {v0 : Value} {v1 : Value} {v2 : Value} {v3 : Value} {v4 : Value} {v5 : Value} {v6 : Value} {v7 : Value} {v8 : Value} : am_g d X am_m8900 1195 [v0, v1, v2, v3, v4, v5, v6, v7, v8] sk st Q = am_g d X am_m8900 2998 [v0, v1, v2, v3, v4, v5, v6, v7, v8] sk st Q := am_gu.trans rfl
set_option maxRecDepth 100000 in
theorem u8900_1198 {v0 : Value} {v2 : Value} {v3 : Value} {v4 : Value} {v5 : Value} {v6 : Value} {v7 : Value} {v8 : Value} {x : Nat} : am_g d X am_m8900 1198 [v0, .ref x, v2, v3, v4, v5, v6, v7, v8] sk st Q = am_g d X am_m8900 1199 [v0, .ref x, v2, v3, v4, v5, v6, v7, v8] (.ref x :: sk) st Q := am_gu.trans rfl
set_option maxRecDepth 100000 in
theorem u8900_1199 {v1 : Value} {v2 : Value} {v3 : Value} {v4 : Value} {v5 : Value} {v6 : Value} {v7 : Value} {v8 : Value} : am_g d X am_m8900 1199 [.retAddr 0, v1, v2, v3, v4, v5, v6, v7, v8] sk st Q = am_g d X am_m8900 1200 [.retAddr 0, v1, v2, v3, v4, v5, v6, v7, v8] (.retAddr 0 :: sk) st Q := am_gu.trans rfl
set_option maxRecDepth 100000 in
theorem u8900_1200 {v0 : Value} {v1 : Value} {v2 : Value} {v3 : Value} {v5 : Value} {v6 : Value} {v7 : Value} {v8 : Value} {x : Int32} : am_g d X am_m8900 1200 [v0, v1, v2, v3, .int x, v5, v6, v7, v8] sk st Q = am_g d X am_m8900 1202 [v0, v1, v2, v3, .int x, v5, v6, v7, v8] (.int x :: sk) st Q := am_gu.trans rfl
set_option maxRecDepth 100000 in
theorem u8900_1202 {v0 : Value} {v1 : Value} {v2 : Value} {v3 : Value} {v4 : Value} {v5 : Value} {v6 : Value} {v7 : Value} {v8 : Value} : am_g d X am_m8900 1202 [v0, v1, v2, v3, v4, v5, v6, v7, v8] sk st Q = am_g d X am_m8900 1203 [v0, v1, v2, v3, v4, v5, v6, v7, v8] (.int (am_i 1) :: sk) st Q := am_gu.trans rfl
set_option maxRecDepth 100000 in
theorem u8900_1203 {v0 : Value} {v1 : Value} {v2 : Value} {v3 : Value} {v4 : Value} {v5 : Value} {v6 : Value} {v7 : Value} {v8 : Value} {x : Int32} {y : Int32} : am_g d X am_m8900 1203 [v0, v1, v2, v3, v4, v5, v6, v7, v8] (.int y :: .int x :: sk) st Q = am_g d X am_m8900 1204 [v0, v1, v2, v3, v4, v5, v6, v7, v8] (.int (x + y) :: sk) st Q := am_gu.trans rfl
set_option maxRecDepth 100000 in
theorem u8900_1204 {v0 : Value} {v1 : Value} {v2 : Value} {v3 : Value} {v4 : Value} {v5 : Value} {v6 : Value} {v7 : Value} {v8 : Value} : am_g d X am_m8900 1204 [v0, v1, v2, v3, v4, v5, v6, v7, v8] sk st Q = am_xl (X.1, X.2.1, d) am_m8900 1205 [v0, v1, v2, v3, v4, v5, v6, v7, v8] sk st (fun pc lc sk st => am_g d X am_m8900 pc lc sk st Q) := am_gu.trans rfl
set_option maxRecDepth 100000 in
theorem u8900_1205 {v1 : Value} {v2 : Value} {v3 : Value} {v4 : Value} {v5 : Value} {v6 : Value} {v7 : Value} {v8 : Value} : am_g d X am_m8900 1205 [.retAddr 0, v1, v2, v3, v4, v5, v6, v7, v8] sk st Q = am_g d X am_m8900 1206 [.retAddr 0, v1, v2, v3, v4, v5, v6, v7, v8] (.retAddr 0 :: sk) st Q := am_gu.trans rfl
set_option maxRecDepth 100000 in
theorem u8900_1206 {v0 : Value} {v1 : Value} {v2 : Value} {v3 : Value} {v5 : Value} {v6 : Value} {v7 : Value} {v8 : Value} {x : Int32} : am_g d X am_m8900 1206 [v0, v1, v2, v3, .int x, v5, v6, v7, v8] sk st Q = am_g d X am_m8900 1208 [v0, v1, v2, v3, .int x, v5, v6, v7, v8] (.int x :: sk) st Q := am_gu.trans rfl
set_option maxRecDepth 100000 in
theorem u8900_1208 {v0 : Value} {v1 : Value} {v2 : Value} {v3 : Value} {v4 : Value} {v5 : Value} {v6 : Value} {v7 : Value} {v8 : Value} : am_g d X am_m8900 1208 [v0, v1, v2, v3, v4, v5, v6, v7, v8] sk st Q = am_g d X am_m8900 1209 [v0, v1, v2, v3, v4, v5, v6, v7, v8] (.int (am_i 2) :: sk) st Q := am_gu.trans rfl
set_option maxRecDepth 100000 in
theorem u8900_1209 {v0 : Value} {v1 : Value} {v2 : Value} {v3 : Value} {v4 : Value} {v5 : Value} {v6 : Value} {v7 : Value} {v8 : Value} {x : Int32} {y : Int32} : am_g d X am_m8900 1209 [v0, v1, v2, v3, v4, v5, v6, v7, v8] (.int y :: .int x :: sk) st Q = am_g d X am_m8900 1210 [v0, v1, v2, v3, v4, v5, v6, v7, v8] (.int (x + y) :: sk) st Q := am_gu.trans rfl
set_option maxRecDepth 100000 in
theorem u8900_1210 {v0 : Value} {v1 : Value} {v2 : Value} {v3 : Value} {v4 : Value} {v5 : Value} {v6 : Value} {v7 : Value} {v8 : Value} : am_g d X am_m8900 1210 [v0, v1, v2, v3, v4, v5, v6, v7, v8] sk st Q = am_xl (X.1, X.2.1, d) am_m8900 1211 [v0, v1, v2, v3, v4, v5, v6, v7, v8] sk st (fun pc lc sk st => am_g d X am_m8900 pc lc sk st Q) := am_gu.trans rfl
set_option maxRecDepth 100000 in
theorem u8900_1211 {v0 : Value} {v1 : Value} {v2 : Value} {v4 : Value} {v5 : Value} {v6 : Value} {v7 : Value} {v8 : Value} {x : Nat} : am_g d X am_m8900 1211 [v0, v1, v2, .ref x, v4, v5, v6, v7, v8] sk st Q = am_g d X am_m8900 1212 [v0, v1, v2, .ref x, v4, v5, v6, v7, v8] (.ref x :: sk) st Q := am_gu.trans rfl
set_option maxRecDepth 100000 in
theorem u8900_1212 {a0 : Value} {a1 : Value} {a2 : Value} {a3 : Value} {v0 : Value} {v1 : Value} {v2 : Value} {v3 : Value} {v4 : Value} {v5 : Value} {v6 : Value} {v7 : Value} {v8 : Value} : am_g d X am_m8900 1212 [v0, v1, v2, v3, v4, v5, v6, v7, v8] (a3 :: a2 :: a1 :: a0 :: sk) st Q = (sk.length ≤ 4 ∧ am_Ca X d 8017 [a0, a1, a2, a3] st (am_af am_m8900 1212 [v0, v1, v2, v3, v4, v5, v6, v7, v8] sk (fun pc lc sk st => am_g d X am_m8900 pc lc sk st Q) Q)) := am_gu.trans (propext ⟨fun h => ⟨h.1.2, h.2⟩, fun h => ⟨⟨Nat.le_add_left _ _, h.1⟩, h.2⟩⟩)
set_option maxRecDepth 100000 in
theorem u8900_1215 {v0 : Value} {v1 : Value} {v2 : Value} {v3 : Value} {v4 : Value} {v5 : Value} {v6 : Value} {v7 : Value} {v8 : Value} {x : Int32} : am_g d X am_m8900 1215 [v0, v1, v2, v3, v4, v5, v6, v7, v8] (.int x :: sk) st Q = am_g d X am_m8900 1217 [v0, v1, v2, v3, am_kc v4, .int x, v6, v7, v8] sk st Q := am_gu.trans (congrArg (fun l => am_g d X am_m8900 1217 (List.set l 5 (.int x)) sk st Q) (kl_5 (l := [v5, v6, v7, v8])))
set_option maxRecDepth 100000 in
theorem u8900_1217 {v0 : Value} {v1 : Value} {v3 : Value} {v4 : Value} {v5 : Value} {v6 : Value} {v7 : Value} {v8 : Value} {x : Nat} : am_g d X am_m8900 1217 [v0, v1, .ref x, v3, v4, v5, v6, v7, v8] sk st Q = am_g d X am_m8900 1218 [v0, v1, .ref x, v3, v4, v5, v6, v7, v8] (.ref x :: sk) st Q := am_gu.trans rfl
set_option maxRecDepth 100000 in
theorem u8900_1218 {v1 : Value} {v2 : Value} {v3 : Value} {v4 : Value} {v5 : Value} {v6 : Value} {v7 : Value} {v8 : Value} : am_g d X am_m8900 1218 [.retAddr 0, v1, v2, v3, v4, v5, v6, v7, v8] sk st Q = am_g d X am_m8900 1219 [.retAddr 0, v1, v2, v3, v4, v5, v6, v7, v8] (.retAddr 0 :: sk) st Q := am_gu.trans rfl
set_option maxRecDepth 100000 in
theorem u8900_1219 {v0 : Value} {v1 : Value} {v2 : Value} {v3 : Value} {v5 : Value} {v6 : Value} {v7 : Value} {v8 : Value} {x : Int32} : am_g d X am_m8900 1219 [v0, v1, v2, v3, .int x, v5, v6, v7, v8] sk st Q = am_g d X am_m8900 1221 [v0, v1, v2, v3, .int x, v5, v6, v7, v8] (.int x :: sk) st Q := am_gu.trans rfl
set_option maxRecDepth 100000 in
theorem u8900_1221 {v0 : Value} {v1 : Value} {v2 : Value} {v3 : Value} {v4 : Value} {v5 : Value} {v6 : Value} {v7 : Value} {v8 : Value} : am_g d X am_m8900 1221 [v0, v1, v2, v3, v4, v5, v6, v7, v8] sk st Q = am_g d X am_m8900 1222 [v0, v1, v2, v3, v4, v5, v6, v7, v8] (.int (am_i 1) :: sk) st Q := am_gu.trans rfl
set_option maxRecDepth 100000 in
theorem u8900_1222 {v0 : Value} {v1 : Value} {v2 : Value} {v3 : Value} {v4 : Value} {v5 : Value} {v6 : Value} {v7 : Value} {v8 : Value} {x : Int32} {y : Int32} : am_g d X am_m8900 1222 [v0, v1, v2, v3, v4, v5, v6, v7, v8] (.int y :: .int x :: sk) st Q = am_g d X am_m8900 1223 [v0, v1, v2, v3, v4, v5, v6, v7, v8] (.int (x + y) :: sk) st Q := am_gu.trans rfl
set_option maxRecDepth 100000 in
theorem u8900_1223 {v0 : Value} {v1 : Value} {v2 : Value} {v3 : Value} {v4 : Value} {v5 : Value} {v6 : Value} {v7 : Value} {v8 : Value} : am_g d X am_m8900 1223 [v0, v1, v2, v3, v4, v5, v6, v7, v8] sk st Q = am_xl (X.1, X.2.1, d) am_m8900 1224 [v0, v1, v2, v3, v4, v5, v6, v7, v8] sk st (fun pc lc sk st => am_g d X am_m8900 pc lc sk st Q) := am_gu.trans rfl
set_option maxRecDepth 100000 in
theorem u8900_1224 {v1 : Value} {v2 : Value} {v3 : Value} {v4 : Value} {v5 : Value} {v6 : Value} {v7 : Value} {v8 : Value} : am_g d X am_m8900 1224 [.retAddr 0, v1, v2, v3, v4, v5, v6, v7, v8] sk st Q = am_g d X am_m8900 1225 [.retAddr 0, v1, v2, v3, v4, v5, v6, v7, v8] (.retAddr 0 :: sk) st Q := am_gu.trans rfl
set_option maxRecDepth 100000 in
theorem u8900_1225 {v0 : Value} {v1 : Value} {v2 : Value} {v3 : Value} {v5 : Value} {v6 : Value} {v7 : Value} {v8 : Value} {x : Int32} : am_g d X am_m8900 1225 [v0, v1, v2, v3, .int x, v5, v6, v7, v8] sk st Q = am_g d X am_m8900 1227 [v0, v1, v2, v3, .int x, v5, v6, v7, v8] (.int x :: sk) st Q := am_gu.trans rfl
set_option maxRecDepth 100000 in
theorem u8900_1227 {v0 : Value} {v1 : Value} {v2 : Value} {v3 : Value} {v4 : Value} {v5 : Value} {v6 : Value} {v7 : Value} {v8 : Value} : am_g d X am_m8900 1227 [v0, v1, v2, v3, v4, v5, v6, v7, v8] sk st Q = am_g d X am_m8900 1228 [v0, v1, v2, v3, v4, v5, v6, v7, v8] (.int (am_i 2) :: sk) st Q := am_gu.trans rfl
set_option maxRecDepth 100000 in
theorem u8900_1228 {v0 : Value} {v1 : Value} {v2 : Value} {v3 : Value} {v4 : Value} {v5 : Value} {v6 : Value} {v7 : Value} {v8 : Value} {x : Int32} {y : Int32} : am_g d X am_m8900 1228 [v0, v1, v2, v3, v4, v5, v6, v7, v8] (.int y :: .int x :: sk) st Q = am_g d X am_m8900 1229 [v0, v1, v2, v3, v4, v5, v6, v7, v8] (.int (x + y) :: sk) st Q := am_gu.trans rfl
set_option maxRecDepth 100000 in
theorem u8900_1229 {v0 : Value} {v1 : Value} {v2 : Value} {v3 : Value} {v4 : Value} {v5 : Value} {v6 : Value} {v7 : Value} {v8 : Value} : am_g d X am_m8900 1229 [v0, v1, v2, v3, v4, v5, v6, v7, v8] sk st Q = am_xl (X.1, X.2.1, d) am_m8900 1230 [v0, v1, v2, v3, v4, v5, v6, v7, v8] sk st (fun pc lc sk st => am_g d X am_m8900 pc lc sk st Q) := am_gu.trans rfl
set_option maxRecDepth 100000 in
theorem u8900_1230 {a0 : Value} {a1 : Value} {v0 : Value} {v1 : Value} {v2 : Value} {v3 : Value} {v4 : Value} {v5 : Value} {v6 : Value} {v7 : Value} {v8 : Value} : am_g d X am_m8900 1230 [v0, v1, v2, v3, v4, v5, v6, v7, v8] (a1 :: a0 :: .ref o :: sk) st Q = ((am_ob st o 7 ∧ sk.length ≤ 4) ∧ am_Ca X d 7083 [.ref o, a0, a1] st (am_af am_m8900 1230 [v0, v1, v2, v3, v4, v5, v6, v7, v8] sk (fun pc lc sk st => am_g d X am_m8900 pc lc sk st Q) Q)) := am_gu.trans rfl
set_option maxRecDepth 100000 in
theorem u8900_1233 {v0 : Value} {v1 : Value} {v2 : Value} {v3 : Value} {v4 : Value} {v5 : Value} {v6 : Value} {v7 : Value} {v8 : Value} {x : Int32} : am_g d X am_m8900 1233 [v0, v1, v2, v3, v4, v5, v6, v7, v8] (.int x :: sk) st Q = am_g d X am_m8900 1235 [v0, v1, v2, v3, v4, am_kc v5, .int x, v7, v8] sk st Q := am_gu.trans (congrArg (fun l => am_g d X am_m8900 1235 (List.set l 6 (.int x)) sk st Q) (kl_6 (l := [v6, v7, v8])))
set_option maxRecDepth 100000 in
theorem u8900_1235 {v0 : Value} {v1 : Value} {v3 : Value} {v4 : Value} {v5 : Value} {v6 : Value} {v7 : Value} {v8 : Value} {x : Nat} : am_g d X am_m8900 1235 [v0, v1, .ref x, v3, v4, v5, v6, v7, v8] sk st Q = am_g d X am_m8900 1236 [v0, v1, .ref x, v3, v4, v5, v6, v7, v8] (.ref x :: sk) st Q := am_gu.trans rfl
set_option maxRecDepth 100000 in
theorem u8900_1236 {v0 : Value} {v1 : Value} {v2 : Value} {v3 : Value} {v4 : Value} {v5 : Value} {v6 : Value} {v7 : Value} {v8 : Value} : am_g d X am_m8900 1236 [v0, v1, v2, v3, v4, v5, v6, v7, v8] (.ref o :: sk) st Q = ((am_ob st o 7 ∧ sk.length ≤ 4) ∧ am_Ca X d 7002 [.ref o] st (am_af am_m8900 1236 [v0, v1, v2, v3, v4, v5, v6, v7, v8] sk (fun pc lc sk st => am_g d X am_m8900 pc lc sk st Q) Q)) := am_gu.trans rfl
set_option maxRecDepth 100000 in
theorem u8900_1239 {v0 : Value} {v1 : Value} {v2 : Value} {v3 : Value} {v4 : Value} {v6 : Value} {v7 : Value} {v8 : Value} {x : Int32} : am_g d X am_m8900 1239 [v0, v1, v2, v3, v4, .int x, v6, v7, v8] sk st Q = am_g d X am_m8900 1241 [v0, v1, v2, v3, v4, .int x, v6, v7, v8] (.int x :: sk) st Q := am_gu.trans rfl
set_option maxRecDepth 100000 in
theorem u8900_1241 {v0 : Value} {v1 : Value} {v2 : Value} {v3 : Value} {v4 : Value} {v5 : Value} {v6 : Value} {v7 : Value} {v8 : Value} {x : Int32} {y : Int32} : am_g d X am_m8900 1241 [v0, v1, v2, v3, v4, v5, v6, v7, v8] (.int y :: .int x :: sk) st Q = (if decide (x = y) = true then am_g d X am_m8900 1246 [v0, v1, v2, v3, v4, v5, v6, v7, v8] sk st Q else am_g d X am_m8900 1244 [v0, v1, v2, v3, v4, v5, v6, v7, v8] sk st Q) := am_gu.trans rfl
set_option maxRecDepth 100000 in
theorem u8900_1244 {v0 : Value} {v1 : Value} {v2 : Value} {v3 : Value} {v4 : Value} {v5 : Value} {v6 : Value} {v7 : Value} {v8 : Value} : am_g d X am_m8900 1244 [v0, v1, v2, v3, v4, v5, v6, v7, v8] sk st Q = am_g d X am_m8900 1245 [v0, v1, v2, v3, v4, v5, v6, v7, v8] (.int (am_i 0) :: sk) st Q := am_gu.trans rfl
set_option maxRecDepth 100000 in
theorem u8900_1245 {v0 : Value} {v1 : Value} {v2 : Value} {v3 : Value} {v4 : Value} {v5 : Value} {v6 : Value} {v7 : Value} {v8 : Value} {x : Int32} : am_g d X am_m8900 1245 [v0, v1, v2, v3, v4, v5, v6, v7, v8] [.int x] st Q = ((x = 0 ∨ x = 1) ∧ Q (.inl (some (.int x))) st) := am_gu.trans rfl
set_option maxRecDepth 100000 in
theorem u8900_1246 {v0 : Value} {v1 : Value} {v2 : Value} {v3 : Value} {v4 : Value} {v6 : Value} {v7 : Value} {v8 : Value} {x : Int32} : am_g d X am_m8900 1246 [v0, v1, v2, v3, v4, .int x, v6, v7, v8] sk st Q = am_g d X am_m8900 1248 [v0, v1, v2, v3, v4, .int x, v6, v7, v8] (.int x :: sk) st Q := am_gu.trans rfl
set_option maxRecDepth 100000 in
theorem u8900_1248 {v0 : Value} {v1 : Value} {v2 : Value} {v3 : Value} {v4 : Value} {v5 : Value} {v6 : Value} {v7 : Value} {v8 : Value} {x : Int32} : am_g d X am_m8900 1248 [v0, v1, v2, v3, v4, v5, v6, v7, v8] (.int x :: sk) st Q = (if decide (¬ x = 0) = true then am_g d X am_m8900 1270 [v0, v1, v2, v3, v4, v5, v6, v7, v8] sk st Q else am_g d X am_m8900 1251 [v0, v1, v2, v3, v4, v5, v6, v7, v8] sk st Q) := am_gu.trans rfl
set_option maxRecDepth 100000 in
theorem u8900_1251 {v0 : Value} {v1 : Value} {v2 : Value} {v4 : Value} {v5 : Value} {v6 : Value} {v7 : Value} {v8 : Value} {x : Nat} : am_g d X am_m8900 1251 [v0, v1, v2, .ref x, v4, v5, v6, v7, v8] sk st Q = am_g d X am_m8900 1252 [v0, v1, v2, .ref x, v4, v5, v6, v7, v8] (.ref x :: sk) st Q := am_gu.trans rfl
set_option maxRecDepth 100000 in
theorem u8900_1252 {v0 : Value} {v1 : Value} {v2 : Value} {v3 : Value} {v4 : Value} {v5 : Value} {v6 : Value} {v7 : Value} {v8 : Value} : am_g d X am_m8900 1252 [v0, v1, v2, v3, v4, v5, v6, v7, v8] sk st Q = am_g d X am_m8900 1253 [v0, v1, v2, v3, v4, v5, v6, v7, v8] (.int (am_i 0) :: sk) st Q := am_gu.trans rfl
set_option maxRecDepth 100000 in
theorem u8900_1253 {v0 : Value} {v1 : Value} {v2 : Value} {v3 : Value} {v4 : Value} {v5 : Value} {v6 : Value} {v7 : Value} {v8 : Value} : am_g d X am_m8900 1253 [v0, v1, v2, v3, v4, v5, v6, v7, v8] sk st Q = am_jl 1254 [v0, v1, v2, v3, v4, v5, v6, v7, v8] sk st (fun pc lc sk st => am_g d X am_m8900 pc lc sk st Q) := am_gu.trans rfl
set_option maxRecDepth 100000 in
theorem u8900_1254 {v0 : Value} {v1 : Value} {v2 : Value} {v3 : Value} {v4 : Value} {v5 : Value} {v7 : Value} {v8 : Value} {x : Int32} : am_g d X am_m8900 1254 [v0, v1, v2, v3, v4, v5, .int x, v7, v8] sk st Q = am_g d X am_m8900 1256 [v0, v1, v2, v3, v4, v5, .int x, v7, v8] (.int x :: sk) st Q := am_gu.trans rfl
set_option maxRecDepth 100000 in
theorem u8900_1256 {v0 : Value} {v1 : Value} {v2 : Value} {v3 : Value} {v4 : Value} {v5 : Value} {v6 : Value} {v7 : Value} {v8 : Value} {x : Int32} : am_g d X am_m8900 1256 [v0, v1, v2, v3, v4, v5, v6, v7, v8] (.int x :: sk) st Q = (if decide (x = 0) = true then am_g d X am_m8900 1263 [v0, v1, v2, v3, v4, v5, v6, v7, v8] sk st Q else am_g d X am_m8900 1259 [v0, v1, v2, v3, v4, v5, v6, v7, v8] sk st Q) := am_gu.trans rfl
set_option maxRecDepth 100000 in
theorem u8900_1259 {v0 : Value} {v1 : Value} {v2 : Value} {v3 : Value} {v4 : Value} {v5 : Value} {v6 : Value} {v7 : Value} {v8 : Value} : am_g d X am_m8900 1259 [v0, v1, v2, v3, v4, v5, v6, v7, v8] sk st Q = am_g d X am_m8900 1260 [v0, v1, v2, v3, v4, v5, v6, v7, v8] (.long 1 :: sk) st Q := am_gu.trans rfl
set_option maxRecDepth 100000 in
theorem u8900_1260 {v0 : Value} {v1 : Value} {v2 : Value} {v3 : Value} {v4 : Value} {v5 : Value} {v6 : Value} {v7 : Value} {v8 : Value} : am_g d X am_m8900 1260 [v0, v1, v2, v3, v4, v5, v6, v7, v8] sk st Q = am_g d X am_m8900 1264 [v0, v1, v2, v3, v4, v5, v6, v7, v8] sk st Q := am_gu.trans rfl
set_option maxRecDepth 100000 in
theorem u8900_1263 {v0 : Value} {v1 : Value} {v2 : Value} {v3 : Value} {v4 : Value} {v5 : Value} {v6 : Value} {v7 : Value} {v8 : Value} : am_g d X am_m8900 1263 [v0, v1, v2, v3, v4, v5, v6, v7, v8] sk st Q = am_g d X am_m8900 1264 [v0, v1, v2, v3, v4, v5, v6, v7, v8] (.long 0 :: sk) st Q := am_gu.trans rfl
set_option maxRecDepth 100000 in
theorem u8900_1264 {v0 : Value} {v1 : Value} {v2 : Value} {v3 : Value} {v4 : Value} {v5 : Value} {v6 : Value} {v7 : Value} {v8 : Value} {x : Int64} {y : Int64} : am_g d X am_m8900 1264 [v0, v1, v2, v3, v4, v5, v6, v7, v8] (.long y :: .long x :: sk) st Q = am_g d X am_m8900 1265 [v0, v1, v2, v3, v4, v5, v6, v7, v8] (.int (lg_cmp x y) :: sk) st Q := am_gu.trans rfl
set_option maxRecDepth 100000 in
theorem u8900_1265 {v0 : Value} {v1 : Value} {v2 : Value} {v3 : Value} {v4 : Value} {v5 : Value} {v6 : Value} {v7 : Value} {v8 : Value} {x : Int32} : am_g d X am_m8900 1265 [v0, v1, v2, v3, v4, v5, v6, v7, v8] (.int x :: sk) st Q = (if decide (x = 0) = true then am_g d X am_m8900 1270 [v0, v1, v2, v3, v4, v5, v6, v7, v8] sk st Q else am_g d X am_m8900 1268 [v0, v1, v2, v3, v4, v5, v6, v7, v8] sk st Q) := am_gu.trans rfl
set_option maxRecDepth 100000 in
theorem u8900_1268 {v0 : Value} {v1 : Value} {v2 : Value} {v3 : Value} {v4 : Value} {v5 : Value} {v6 : Value} {v7 : Value} {v8 : Value} : am_g d X am_m8900 1268 [v0, v1, v2, v3, v4, v5, v6, v7, v8] sk st Q = am_g d X am_m8900 1269 [v0, v1, v2, v3, v4, v5, v6, v7, v8] (.int (am_i 0) :: sk) st Q := am_gu.trans rfl
set_option maxRecDepth 100000 in
theorem u8900_1269 {v0 : Value} {v1 : Value} {v2 : Value} {v3 : Value} {v4 : Value} {v5 : Value} {v6 : Value} {v7 : Value} {v8 : Value} {x : Int32} : am_g d X am_m8900 1269 [v0, v1, v2, v3, v4, v5, v6, v7, v8] [.int x] st Q = ((x = 0 ∨ x = 1) ∧ Q (.inl (some (.int x))) st) := am_gu.trans rfl
set_option maxRecDepth 100000 in
theorem u8900_1270 {v0 : Value} {v1 : Value} {v2 : Value} {v3 : Value} {v4 : Value} {v5 : Value} {v6 : Value} {v7 : Value} {v8 : Value} : am_g d X am_m8900 1270 [v0, v1, v2, v3, v4, v5, v6, v7, v8] sk st Q = am_g d X am_m8900 2998 [v0, v1, v2, v3, v4, v5, v6, v7, v8] sk st Q := am_gu.trans rfl
set_option maxRecDepth 100000 in
theorem u8900_1273 {v0 : Value} {v2 : Value} {v3 : Value} {v4 : Value} {v5 : Value} {v6 : Value} {v7 : Value} {v8 : Value} {x : Nat} : am_g d X am_m8900 1273 [v0, .ref x, v2, v3, v4, v5, v6, v7, v8] sk st Q = am_g d X am_m8900 1274 [v0, .ref x, v2, v3, v4, v5, v6, v7, v8] (.ref x :: sk) st Q := am_gu.trans rfl
set_option maxRecDepth 100000 in
theorem u8900_1274 {v1 : Value} {v2 : Value} {v3 : Value} {v4 : Value} {v5 : Value} {v6 : Value} {v7 : Value} {v8 : Value} : am_g d X am_m8900 1274 [.retAddr 0, v1, v2, v3, v4, v5, v6, v7, v8] sk st Q = am_g d X am_m8900 1275 [.retAddr 0, v1, v2, v3, v4, v5, v6, v7, v8] (.retAddr 0 :: sk) st Q := am_gu.trans rfl
set_option maxRecDepth 100000 in
theorem u8900_1275 {v0 : Value} {v1 : Value} {v2 : Value} {v3 : Value} {v5 : Value} {v6 : Value} {v7 : Value} {v8 : Value} {x : Int32} : am_g d X am_m8900 1275 [v0, v1, v2, v3, .int x, v5, v6, v7, v8] sk st Q = am_g d X am_m8900 1277 [v0, v1, v2, v3, .int x, v5, v6, v7, v8] (.int x :: sk) st Q := am_gu.trans rfl
set_option maxRecDepth 100000 in
theorem u8900_1277 {v0 : Value} {v1 : Value} {v2 : Value} {v3 : Value} {v4 : Value} {v5 : Value} {v6 : Value} {v7 : Value} {v8 : Value} : am_g d X am_m8900 1277 [v0, v1, v2, v3, v4, v5, v6, v7, v8] sk st Q = am_g d X am_m8900 1278 [v0, v1, v2, v3, v4, v5, v6, v7, v8] (.int (am_i 1) :: sk) st Q := am_gu.trans rfl
set_option maxRecDepth 100000 in
theorem u8900_1278 {v0 : Value} {v1 : Value} {v2 : Value} {v3 : Value} {v4 : Value} {v5 : Value} {v6 : Value} {v7 : Value} {v8 : Value} {x : Int32} {y : Int32} : am_g d X am_m8900 1278 [v0, v1, v2, v3, v4, v5, v6, v7, v8] (.int y :: .int x :: sk) st Q = am_g d X am_m8900 1279 [v0, v1, v2, v3, v4, v5, v6, v7, v8] (.int (x + y) :: sk) st Q := am_gu.trans rfl
set_option maxRecDepth 100000 in
theorem u8900_1279 {v0 : Value} {v1 : Value} {v2 : Value} {v3 : Value} {v4 : Value} {v5 : Value} {v6 : Value} {v7 : Value} {v8 : Value} : am_g d X am_m8900 1279 [v0, v1, v2, v3, v4, v5, v6, v7, v8] sk st Q = am_xl (X.1, X.2.1, d) am_m8900 1280 [v0, v1, v2, v3, v4, v5, v6, v7, v8] sk st (fun pc lc sk st => am_g d X am_m8900 pc lc sk st Q) := am_gu.trans rfl
set_option maxRecDepth 100000 in
theorem u8900_1280 {v1 : Value} {v2 : Value} {v3 : Value} {v4 : Value} {v5 : Value} {v6 : Value} {v7 : Value} {v8 : Value} : am_g d X am_m8900 1280 [.retAddr 0, v1, v2, v3, v4, v5, v6, v7, v8] sk st Q = am_g d X am_m8900 1281 [.retAddr 0, v1, v2, v3, v4, v5, v6, v7, v8] (.retAddr 0 :: sk) st Q := am_gu.trans rfl
set_option maxRecDepth 100000 in
theorem u8900_1281 {v0 : Value} {v1 : Value} {v2 : Value} {v3 : Value} {v5 : Value} {v6 : Value} {v7 : Value} {v8 : Value} {x : Int32} : am_g d X am_m8900 1281 [v0, v1, v2, v3, .int x, v5, v6, v7, v8] sk st Q = am_g d X am_m8900 1283 [v0, v1, v2, v3, .int x, v5, v6, v7, v8] (.int x :: sk) st Q := am_gu.trans rfl
set_option maxRecDepth 100000 in
theorem u8900_1283 {v0 : Value} {v1 : Value} {v2 : Value} {v3 : Value} {v4 : Value} {v5 : Value} {v6 : Value} {v7 : Value} {v8 : Value} : am_g d X am_m8900 1283 [v0, v1, v2, v3, v4, v5, v6, v7, v8] sk st Q = am_g d X am_m8900 1284 [v0, v1, v2, v3, v4, v5, v6, v7, v8] (.int (am_i 2) :: sk) st Q := am_gu.trans rfl
set_option maxRecDepth 100000 in
theorem u8900_1284 {v0 : Value} {v1 : Value} {v2 : Value} {v3 : Value} {v4 : Value} {v5 : Value} {v6 : Value} {v7 : Value} {v8 : Value} {x : Int32} {y : Int32} : am_g d X am_m8900 1284 [v0, v1, v2, v3, v4, v5, v6, v7, v8] (.int y :: .int x :: sk) st Q = am_g d X am_m8900 1285 [v0, v1, v2, v3, v4, v5, v6, v7, v8] (.int (x + y) :: sk) st Q := am_gu.trans rfl
set_option maxRecDepth 100000 in
theorem u8900_1285 {v0 : Value} {v1 : Value} {v2 : Value} {v3 : Value} {v4 : Value} {v5 : Value} {v6 : Value} {v7 : Value} {v8 : Value} : am_g d X am_m8900 1285 [v0, v1, v2, v3, v4, v5, v6, v7, v8] sk st Q = am_xl (X.1, X.2.1, d) am_m8900 1286 [v0, v1, v2, v3, v4, v5, v6, v7, v8] sk st (fun pc lc sk st => am_g d X am_m8900 pc lc sk st Q) := am_gu.trans rfl
set_option maxRecDepth 100000 in
theorem u8900_1286 {v0 : Value} {v1 : Value} {v2 : Value} {v4 : Value} {v5 : Value} {v6 : Value} {v7 : Value} {v8 : Value} {x : Nat} : am_g d X am_m8900 1286 [v0, v1, v2, .ref x, v4, v5, v6, v7, v8] sk st Q = am_g d X am_m8900 1287 [v0, v1, v2, .ref x, v4, v5, v6, v7, v8] (.ref x :: sk) st Q := am_gu.trans rfl
set_option maxRecDepth 100000 in
theorem u8900_1287 {a0 : Value} {a1 : Value} {a2 : Value} {a3 : Value} {v0 : Value} {v1 : Value} {v2 : Value} {v3 : Value} {v4 : Value} {v5 : Value} {v6 : Value} {v7 : Value} {v8 : Value} : am_g d X am_m8900 1287 [v0, v1, v2, v3, v4, v5, v6, v7, v8] (a3 :: a2 :: a1 :: a0 :: sk) st Q = (sk.length ≤ 4 ∧ am_Ca X d 8018 [a0, a1, a2, a3] st (am_af am_m8900 1287 [v0, v1, v2, v3, v4, v5, v6, v7, v8] sk (fun pc lc sk st => am_g d X am_m8900 pc lc sk st Q) Q)) := am_gu.trans (propext ⟨fun h => ⟨h.1.2, h.2⟩, fun h => ⟨⟨Nat.le_add_left _ _, h.1⟩, h.2⟩⟩)
set_option maxRecDepth 100000 in
theorem u8900_1290 {v0 : Value} {v1 : Value} {v2 : Value} {v3 : Value} {v4 : Value} {v5 : Value} {v6 : Value} {v7 : Value} {v8 : Value} {x : Int32} : am_g d X am_m8900 1290 [v0, v1, v2, v3, v4, v5, v6, v7, v8] (.int x :: sk) st Q = am_g d X am_m8900 1292 [v0, v1, v2, v3, am_kc v4, .int x, v6, v7, v8] sk st Q := am_gu.trans (congrArg (fun l => am_g d X am_m8900 1292 (List.set l 5 (.int x)) sk st Q) (kl_5 (l := [v5, v6, v7, v8])))
set_option maxRecDepth 100000 in
theorem u8900_1292 {v0 : Value} {v1 : Value} {v3 : Value} {v4 : Value} {v5 : Value} {v6 : Value} {v7 : Value} {v8 : Value} {x : Nat} : am_g d X am_m8900 1292 [v0, v1, .ref x, v3, v4, v5, v6, v7, v8] sk st Q = am_g d X am_m8900 1293 [v0, v1, .ref x, v3, v4, v5, v6, v7, v8] (.ref x :: sk) st Q := am_gu.trans rfl
set_option maxRecDepth 100000 in
theorem u8900_1293 {v1 : Value} {v2 : Value} {v3 : Value} {v4 : Value} {v5 : Value} {v6 : Value} {v7 : Value} {v8 : Value} : am_g d X am_m8900 1293 [.retAddr 0, v1, v2, v3, v4, v5, v6, v7, v8] sk st Q = am_g d X am_m8900 1294 [.retAddr 0, v1, v2, v3, v4, v5, v6, v7, v8] (.retAddr 0 :: sk) st Q := am_gu.trans rfl
set_option maxRecDepth 100000 in
theorem u8900_1294 {v0 : Value} {v1 : Value} {v2 : Value} {v3 : Value} {v5 : Value} {v6 : Value} {v7 : Value} {v8 : Value} {x : Int32} : am_g d X am_m8900 1294 [v0, v1, v2, v3, .int x, v5, v6, v7, v8] sk st Q = am_g d X am_m8900 1296 [v0, v1, v2, v3, .int x, v5, v6, v7, v8] (.int x :: sk) st Q := am_gu.trans rfl
set_option maxRecDepth 100000 in
theorem u8900_1296 {v0 : Value} {v1 : Value} {v2 : Value} {v3 : Value} {v4 : Value} {v5 : Value} {v6 : Value} {v7 : Value} {v8 : Value} : am_g d X am_m8900 1296 [v0, v1, v2, v3, v4, v5, v6, v7, v8] sk st Q = am_g d X am_m8900 1297 [v0, v1, v2, v3, v4, v5, v6, v7, v8] (.int (am_i 1) :: sk) st Q := am_gu.trans rfl
set_option maxRecDepth 100000 in
theorem u8900_1297 {v0 : Value} {v1 : Value} {v2 : Value} {v3 : Value} {v4 : Value} {v5 : Value} {v6 : Value} {v7 : Value} {v8 : Value} {x : Int32} {y : Int32} : am_g d X am_m8900 1297 [v0, v1, v2, v3, v4, v5, v6, v7, v8] (.int y :: .int x :: sk) st Q = am_g d X am_m8900 1298 [v0, v1, v2, v3, v4, v5, v6, v7, v8] (.int (x + y) :: sk) st Q := am_gu.trans rfl
set_option maxRecDepth 100000 in
theorem u8900_1298 {v0 : Value} {v1 : Value} {v2 : Value} {v3 : Value} {v4 : Value} {v5 : Value} {v6 : Value} {v7 : Value} {v8 : Value} : am_g d X am_m8900 1298 [v0, v1, v2, v3, v4, v5, v6, v7, v8] sk st Q = am_xl (X.1, X.2.1, d) am_m8900 1299 [v0, v1, v2, v3, v4, v5, v6, v7, v8] sk st (fun pc lc sk st => am_g d X am_m8900 pc lc sk st Q) := am_gu.trans rfl
set_option maxRecDepth 100000 in
theorem u8900_1299 {v1 : Value} {v2 : Value} {v3 : Value} {v4 : Value} {v5 : Value} {v6 : Value} {v7 : Value} {v8 : Value} : am_g d X am_m8900 1299 [.retAddr 0, v1, v2, v3, v4, v5, v6, v7, v8] sk st Q = am_g d X am_m8900 1300 [.retAddr 0, v1, v2, v3, v4, v5, v6, v7, v8] (.retAddr 0 :: sk) st Q := am_gu.trans rfl
set_option maxRecDepth 100000 in
theorem u8900_1300 {v0 : Value} {v1 : Value} {v2 : Value} {v3 : Value} {v5 : Value} {v6 : Value} {v7 : Value} {v8 : Value} {x : Int32} : am_g d X am_m8900 1300 [v0, v1, v2, v3, .int x, v5, v6, v7, v8] sk st Q = am_g d X am_m8900 1302 [v0, v1, v2, v3, .int x, v5, v6, v7, v8] (.int x :: sk) st Q := am_gu.trans rfl
set_option maxRecDepth 100000 in
theorem u8900_1302 {v0 : Value} {v1 : Value} {v2 : Value} {v3 : Value} {v4 : Value} {v5 : Value} {v6 : Value} {v7 : Value} {v8 : Value} : am_g d X am_m8900 1302 [v0, v1, v2, v3, v4, v5, v6, v7, v8] sk st Q = am_g d X am_m8900 1303 [v0, v1, v2, v3, v4, v5, v6, v7, v8] (.int (am_i 2) :: sk) st Q := am_gu.trans rfl
set_option maxRecDepth 100000 in
theorem u8900_1303 {v0 : Value} {v1 : Value} {v2 : Value} {v3 : Value} {v4 : Value} {v5 : Value} {v6 : Value} {v7 : Value} {v8 : Value} {x : Int32} {y : Int32} : am_g d X am_m8900 1303 [v0, v1, v2, v3, v4, v5, v6, v7, v8] (.int y :: .int x :: sk) st Q = am_g d X am_m8900 1304 [v0, v1, v2, v3, v4, v5, v6, v7, v8] (.int (x + y) :: sk) st Q := am_gu.trans rfl
set_option maxRecDepth 100000 in
theorem u8900_1304 {v0 : Value} {v1 : Value} {v2 : Value} {v3 : Value} {v4 : Value} {v5 : Value} {v6 : Value} {v7 : Value} {v8 : Value} : am_g d X am_m8900 1304 [v0, v1, v2, v3, v4, v5, v6, v7, v8] sk st Q = am_xl (X.1, X.2.1, d) am_m8900 1305 [v0, v1, v2, v3, v4, v5, v6, v7, v8] sk st (fun pc lc sk st => am_g d X am_m8900 pc lc sk st Q) := am_gu.trans rfl
set_option maxRecDepth 100000 in
theorem u8900_1305 {a0 : Value} {a1 : Value} {v0 : Value} {v1 : Value} {v2 : Value} {v3 : Value} {v4 : Value} {v5 : Value} {v6 : Value} {v7 : Value} {v8 : Value} : am_g d X am_m8900 1305 [v0, v1, v2, v3, v4, v5, v6, v7, v8] (a1 :: a0 :: .ref o :: sk) st Q = ((am_ob st o 7 ∧ sk.length ≤ 4) ∧ am_Ca X d 7084 [.ref o, a0, a1] st (am_af am_m8900 1305 [v0, v1, v2, v3, v4, v5, v6, v7, v8] sk (fun pc lc sk st => am_g d X am_m8900 pc lc sk st Q) Q)) := am_gu.trans rfl
set_option maxRecDepth 100000 in
theorem u8900_1308 {v0 : Value} {v1 : Value} {v2 : Value} {v3 : Value} {v4 : Value} {v5 : Value} {v6 : Value} {v7 : Value} {v8 : Value} {x : Int32} : am_g d X am_m8900 1308 [v0, v1, v2, v3, v4, v5, v6, v7, v8] (.int x :: sk) st Q = am_g d X am_m8900 1310 [v0, v1, v2, v3, v4, am_kc v5, .int x, v7, v8] sk st Q := am_gu.trans (congrArg (fun l => am_g d X am_m8900 1310 (List.set l 6 (.int x)) sk st Q) (kl_6 (l := [v6, v7, v8])))
set_option maxRecDepth 100000 in
theorem u8900_1310 {v0 : Value} {v1 : Value} {v3 : Value} {v4 : Value} {v5 : Value} {v6 : Value} {v7 : Value} {v8 : Value} {x : Nat} : am_g d X am_m8900 1310 [v0, v1, .ref x, v3, v4, v5, v6, v7, v8] sk st Q = am_g d X am_m8900 1311 [v0, v1, .ref x, v3, v4, v5, v6, v7, v8] (.ref x :: sk) st Q := am_gu.trans rfl
set_option maxRecDepth 100000 in
theorem u8900_1311 {v0 : Value} {v1 : Value} {v2 : Value} {v3 : Value} {v4 : Value} {v5 : Value} {v6 : Value} {v7 : Value} {v8 : Value} : am_g d X am_m8900 1311 [v0, v1, v2, v3, v4, v5, v6, v7, v8] (.ref o :: sk) st Q = ((am_ob st o 7 ∧ sk.length ≤ 4) ∧ am_Ca X d 7002 [.ref o] st (am_af am_m8900 1311 [v0, v1, v2, v3, v4, v5, v6, v7, v8] sk (fun pc lc sk st => am_g d X am_m8900 pc lc sk st Q) Q)) := am_gu.trans rfl
set_option maxRecDepth 100000 in
theorem u8900_1314 {v0 : Value} {v1 : Value} {v2 : Value} {v3 : Value} {v4 : Value} {v6 : Value} {v7 : Value} {v8 : Value} {x : Int32} : am_g d X am_m8900 1314 [v0, v1, v2, v3, v4, .int x, v6, v7, v8] sk st Q = am_g d X am_m8900 1316 [v0, v1, v2, v3, v4, .int x, v6, v7, v8] (.int x :: sk) st Q := am_gu.trans rfl
set_option maxRecDepth 100000 in
theorem u8900_1316 {v0 : Value} {v1 : Value} {v2 : Value} {v3 : Value} {v4 : Value} {v5 : Value} {v6 : Value} {v7 : Value} {v8 : Value} {x : Int32} {y : Int32} : am_g d X am_m8900 1316 [v0, v1, v2, v3, v4, v5, v6, v7, v8] (.int y :: .int x :: sk) st Q = (if decide (x = y) = true then am_g d X am_m8900 1321 [v0, v1, v2, v3, v4, v5, v6, v7, v8] sk st Q else am_g d X am_m8900 1319 [v0, v1, v2, v3, v4, v5, v6, v7, v8] sk st Q) := am_gu.trans rfl
set_option maxRecDepth 100000 in
theorem u8900_1319 {v0 : Value} {v1 : Value} {v2 : Value} {v3 : Value} {v4 : Value} {v5 : Value} {v6 : Value} {v7 : Value} {v8 : Value} : am_g d X am_m8900 1319 [v0, v1, v2, v3, v4, v5, v6, v7, v8] sk st Q = am_g d X am_m8900 1320 [v0, v1, v2, v3, v4, v5, v6, v7, v8] (.int (am_i 0) :: sk) st Q := am_gu.trans rfl
set_option maxRecDepth 100000 in
theorem u8900_1320 {v0 : Value} {v1 : Value} {v2 : Value} {v3 : Value} {v4 : Value} {v5 : Value} {v6 : Value} {v7 : Value} {v8 : Value} {x : Int32} : am_g d X am_m8900 1320 [v0, v1, v2, v3, v4, v5, v6, v7, v8] [.int x] st Q = ((x = 0 ∨ x = 1) ∧ Q (.inl (some (.int x))) st) := am_gu.trans rfl
set_option maxRecDepth 100000 in
theorem u8900_1321 {v0 : Value} {v1 : Value} {v2 : Value} {v3 : Value} {v4 : Value} {v6 : Value} {v7 : Value} {v8 : Value} {x : Int32} : am_g d X am_m8900 1321 [v0, v1, v2, v3, v4, .int x, v6, v7, v8] sk st Q = am_g d X am_m8900 1323 [v0, v1, v2, v3, v4, .int x, v6, v7, v8] (.int x :: sk) st Q := am_gu.trans rfl
set_option maxRecDepth 100000 in
theorem u8900_1323 {v0 : Value} {v1 : Value} {v2 : Value} {v3 : Value} {v4 : Value} {v5 : Value} {v6 : Value} {v7 : Value} {v8 : Value} {x : Int32} : am_g d X am_m8900 1323 [v0, v1, v2, v3, v4, v5, v6, v7, v8] (.int x :: sk) st Q = (if decide (¬ x = 0) = true then am_g d X am_m8900 1338 [v0, v1, v2, v3, v4, v5, v6, v7, v8] sk st Q else am_g d X am_m8900 1326 [v0, v1, v2, v3, v4, v5, v6, v7, v8] sk st Q) := am_gu.trans rfl
set_option maxRecDepth 100000 in
theorem u8900_1326 {v0 : Value} {v1 : Value} {v2 : Value} {v4 : Value} {v5 : Value} {v6 : Value} {v7 : Value} {v8 : Value} {x : Nat} : am_g d X am_m8900 1326 [v0, v1, v2, .ref x, v4, v5, v6, v7, v8] sk st Q = am_g d X am_m8900 1327 [v0, v1, v2, .ref x, v4, v5, v6, v7, v8] (.ref x :: sk) st Q := am_gu.trans rfl
set_option maxRecDepth 100000 in
theorem u8900_1327 {v0 : Value} {v1 : Value} {v2 : Value} {v3 : Value} {v4 : Value} {v5 : Value} {v6 : Value} {v7 : Value} {v8 : Value} : am_g d X am_m8900 1327 [v0, v1, v2, v3, v4, v5, v6, v7, v8] sk st Q = am_g d X am_m8900 1328 [v0, v1, v2, v3, v4, v5, v6, v7, v8] (.int (am_i 0) :: sk) st Q := am_gu.trans rfl
set_option maxRecDepth 100000 in
theorem u8900_1328 {v0 : Value} {v1 : Value} {v2 : Value} {v3 : Value} {v4 : Value} {v5 : Value} {v6 : Value} {v7 : Value} {v8 : Value} : am_g d X am_m8900 1328 [v0, v1, v2, v3, v4, v5, v6, v7, v8] sk st Q = am_jl 1329 [v0, v1, v2, v3, v4, v5, v6, v7, v8] sk st (fun pc lc sk st => am_g d X am_m8900 pc lc sk st Q) := am_gu.trans rfl
set_option maxRecDepth 100000 in
theorem u8900_1329 {v0 : Value} {v1 : Value} {v2 : Value} {v3 : Value} {v4 : Value} {v5 : Value} {v7 : Value} {v8 : Value} {x : Int32} : am_g d X am_m8900 1329 [v0, v1, v2, v3, v4, v5, .int x, v7, v8] sk st Q = am_g d X am_m8900 1331 [v0, v1, v2, v3, v4, v5, .int x, v7, v8] (.int x :: sk) st Q := am_gu.trans rfl
set_option maxRecDepth 100000 in
theorem u8900_1331 {v0 : Value} {v1 : Value} {v2 : Value} {v3 : Value} {v4 : Value} {v5 : Value} {v6 : Value} {v7 : Value} {v8 : Value} {x : Int32} : am_g d X am_m8900 1331 [v0, v1, v2, v3, v4, v5, v6, v7, v8] (.int x :: sk) st Q = am_g d X am_m8900 1332 [v0, v1, v2, v3, v4, v5, v6, v7, v8] (.long x.toInt64 :: sk) st Q := am_gu.trans rfl
set_option maxRecDepth 100000 in
theorem u8900_1332 {v0 : Value} {v1 : Value} {v2 : Value} {v3 : Value} {v4 : Value} {v5 : Value} {v6 : Value} {v7 : Value} {v8 : Value} {x : Int64} {y : Int64} : am_g d X am_m8900 1332 [v0, v1, v2, v3, v4, v5, v6, v7, v8] (.long y :: .long x :: sk) st Q = am_g d X am_m8900 1333 [v0, v1, v2, v3, v4, v5, v6, v7, v8] (.int (lg_cmp x y) :: sk) st Q := am_gu.trans rfl
set_option maxRecDepth 100000 in
theorem u8900_1333 {v0 : Value} {v1 : Value} {v2 : Value} {v3 : Value} {v4 : Value} {v5 : Value} {v6 : Value} {v7 : Value} {v8 : Value} {x : Int32} : am_g d X am_m8900 1333 [v0, v1, v2, v3, v4, v5, v6, v7, v8] (.int x :: sk) st Q = (if decide (x = 0) = true then am_g d X am_m8900 1338 [v0, v1, v2, v3, v4, v5, v6, v7, v8] sk st Q else am_g d X am_m8900 1336 [v0, v1, v2, v3, v4, v5, v6, v7, v8] sk st Q) := am_gu.trans rfl
set_option maxRecDepth 100000 in
theorem u8900_1336 {v0 : Value} {v1 : Value} {v2 : Value} {v3 : Value} {v4 : Value} {v5 : Value} {v6 : Value} {v7 : Value} {v8 : Value} : am_g d X am_m8900 1336 [v0, v1, v2, v3, v4, v5, v6, v7, v8] sk st Q = am_g d X am_m8900 1337 [v0, v1, v2, v3, v4, v5, v6, v7, v8] (.int (am_i 0) :: sk) st Q := am_gu.trans rfl
set_option maxRecDepth 100000 in
theorem u8900_1337 {v0 : Value} {v1 : Value} {v2 : Value} {v3 : Value} {v4 : Value} {v5 : Value} {v6 : Value} {v7 : Value} {v8 : Value} {x : Int32} : am_g d X am_m8900 1337 [v0, v1, v2, v3, v4, v5, v6, v7, v8] [.int x] st Q = ((x = 0 ∨ x = 1) ∧ Q (.inl (some (.int x))) st) := am_gu.trans rfl
set_option maxRecDepth 100000 in
theorem u8900_1338 {v0 : Value} {v1 : Value} {v2 : Value} {v3 : Value} {v4 : Value} {v5 : Value} {v6 : Value} {v7 : Value} {v8 : Value} : am_g d X am_m8900 1338 [v0, v1, v2, v3, v4, v5, v6, v7, v8] sk st Q = am_g d X am_m8900 2998 [v0, v1, v2, v3, v4, v5, v6, v7, v8] sk st Q := am_gu.trans rfl
set_option maxRecDepth 100000 in
theorem u8900_1341 {v0 : Value} {v2 : Value} {v3 : Value} {v4 : Value} {v5 : Value} {v6 : Value} {v7 : Value} {v8 : Value} {x : Nat} : am_g d X am_m8900 1341 [v0, .ref x, v2, v3, v4, v5, v6, v7, v8] sk st Q = am_g d X am_m8900 1342 [v0, .ref x, v2, v3, v4, v5, v6, v7, v8] (.ref x :: sk) st Q := am_gu.trans rfl
set_option maxRecDepth 100000 in
theorem u8900_1342 {v0 : Value} {v1 : Value} {v2 : Value} {v3 : Value} {v4 : Value} {v5 : Value} {v6 : Value} {v7 : Value} {v8 : Value} : am_g d X am_m8900 1342 [v0, v1, v2, v3, v4, v5, v6, v7, v8] (.ref o :: sk) st Q = ((am_ob st o 6 ∧ sk.length ≤ 4) ∧ am_Ca X d 6022 [.ref o] st (am_af am_m8900 1342 [v0, v1, v2, v3, v4, v5, v6, v7, v8] sk (fun pc lc sk st => am_g d X am_m8900 pc lc sk st Q) Q)) := am_gu.trans rfl
set_option maxRecDepth 100000 in
theorem u8900_1345 {v0 : Value} {v1 : Value} {v3 : Value} {v4 : Value} {v5 : Value} {v6 : Value} {v7 : Value} {v8 : Value} {x : Nat} : am_g d X am_m8900 1345 [v0, v1, .ref x, v3, v4, v5, v6, v7, v8] sk st Q = am_g d X am_m8900 1346 [v0, v1, .ref x, v3, v4, v5, v6, v7, v8] (.ref x :: sk) st Q := am_gu.trans rfl
set_option maxRecDepth 100000 in
theorem u8900_1346 {v0 : Value} {v1 : Value} {v2 : Value} {v3 : Value} {v4 : Value} {v5 : Value} {v6 : Value} {v7 : Value} {v8 : Value} : am_g d X am_m8900 1346 [v0, v1, v2, v3, v4, v5, v6, v7, v8] (.ref o :: sk) st Q = ((am_ob st o 7 ∧ sk.length ≤ 4) ∧ am_Ca X d 7085 [.ref o] st (am_af am_m8900 1346 [v0, v1, v2, v3, v4, v5, v6, v7, v8] sk (fun pc lc sk st => am_g d X am_m8900 pc lc sk st Q) Q)) := am_gu.trans rfl
set_option maxRecDepth 100000 in
theorem u8900_1349 {v0 : Value} {v1 : Value} {v2 : Value} {v3 : Value} {v4 : Value} {v5 : Value} {v6 : Value} {v7 : Value} {v8 : Value} {x : Int32} {y : Int32} : am_g d X am_m8900 1349 [v0, v1, v2, v3, v4, v5, v6, v7, v8] (.int y :: .int x :: sk) st Q = (if decide (x = y) = true then am_g d X am_m8900 2998 [v0, v1, v2, v3, v4, v5, v6, v7, v8] sk st Q else am_g d X am_m8900 1352 [v0, v1, v2, v3, v4, v5, v6, v7, v8] sk st Q) := am_gu.trans rfl
set_option maxRecDepth 100000 in
theorem u8900_1352 {v0 : Value} {v1 : Value} {v2 : Value} {v3 : Value} {v4 : Value} {v5 : Value} {v6 : Value} {v7 : Value} {v8 : Value} : am_g d X am_m8900 1352 [v0, v1, v2, v3, v4, v5, v6, v7, v8] sk st Q = am_g d X am_m8900 1353 [v0, v1, v2, v3, v4, v5, v6, v7, v8] (.int (am_i 0) :: sk) st Q := am_gu.trans rfl
set_option maxRecDepth 100000 in
theorem u8900_1353 {v0 : Value} {v1 : Value} {v2 : Value} {v3 : Value} {v4 : Value} {v5 : Value} {v6 : Value} {v7 : Value} {v8 : Value} {x : Int32} : am_g d X am_m8900 1353 [v0, v1, v2, v3, v4, v5, v6, v7, v8] [.int x] st Q = ((x = 0 ∨ x = 1) ∧ Q (.inl (some (.int x))) st) := am_gu.trans rfl
set_option maxRecDepth 100000 in
theorem u8900_1354 {v0 : Value} {v2 : Value} {v3 : Value} {v4 : Value} {v5 : Value} {v6 : Value} {v7 : Value} {v8 : Value} {x : Nat} : am_g d X am_m8900 1354 [v0, .ref x, v2, v3, v4, v5, v6, v7, v8] sk st Q = am_g d X am_m8900 1355 [v0, .ref x, v2, v3, v4, v5, v6, v7, v8] (.ref x :: sk) st Q := am_gu.trans rfl
set_option maxRecDepth 100000 in
theorem u8900_1355 {v0 : Value} {v1 : Value} {v2 : Value} {v3 : Value} {v4 : Value} {v5 : Value} {v6 : Value} {v7 : Value} {v8 : Value} : am_g d X am_m8900 1355 [v0, v1, v2, v3, v4, v5, v6, v7, v8] (.ref o :: sk) st Q = ((am_ob st o 6 ∧ sk.length ≤ 4) ∧ am_Ca X d 6023 [.ref o] st (am_af am_m8900 1355 [v0, v1, v2, v3, v4, v5, v6, v7, v8] sk (fun pc lc sk st => am_g d X am_m8900 pc lc sk st Q) Q)) := am_gu.trans rfl
set_option maxRecDepth 100000 in
theorem u8900_1358 {v0 : Value} {v1 : Value} {v3 : Value} {v4 : Value} {v5 : Value} {v6 : Value} {v7 : Value} {v8 : Value} {x : Nat} : am_g d X am_m8900 1358 [v0, v1, .ref x, v3, v4, v5, v6, v7, v8] sk st Q = am_g d X am_m8900 1359 [v0, v1, .ref x, v3, v4, v5, v6, v7, v8] (.ref x :: sk) st Q := am_gu.trans rfl
set_option maxRecDepth 100000 in
theorem u8900_1359 {v0 : Value} {v1 : Value} {v2 : Value} {v3 : Value} {v4 : Value} {v5 : Value} {v6 : Value} {v7 : Value} {v8 : Value} : am_g d X am_m8900 1359 [v0, v1, v2, v3, v4, v5, v6, v7, v8] (.ref o :: sk) st Q = ((am_ob st o 7 ∧ sk.length ≤ 4) ∧ am_Ca X d 7087 [.ref o] st (am_af am_m8900 1359 [v0, v1, v2, v3, v4, v5, v6, v7, v8] sk (fun pc lc sk st => am_g d X am_m8900 pc lc sk st Q) Q)) := am_gu.trans rfl
set_option maxRecDepth 100000 in
theorem u8900_1362 {v0 : Value} {v1 : Value} {v2 : Value} {v3 : Value} {v4 : Value} {v5 : Value} {v6 : Value} {v7 : Value} {v8 : Value} {x : Int32} {y : Int32} : am_g d X am_m8900 1362 [v0, v1, v2, v3, v4, v5, v6, v7, v8] (.int y :: .int x :: sk) st Q = (if decide (x = y) = true then am_g d X am_m8900 2998 [v0, v1, v2, v3, v4, v5, v6, v7, v8] sk st Q else am_g d X am_m8900 1365 [v0, v1, v2, v3, v4, v5, v6, v7, v8] sk st Q) := am_gu.trans rfl
set_option maxRecDepth 100000 in
theorem u8900_1365 {v0 : Value} {v1 : Value} {v2 : Value} {v3 : Value} {v4 : Value} {v5 : Value} {v6 : Value} {v7 : Value} {v8 : Value} : am_g d X am_m8900 1365 [v0, v1, v2, v3, v4, v5, v6, v7, v8] sk st Q = am_g d X am_m8900 1366 [v0, v1, v2, v3, v4, v5, v6, v7, v8] (.int (am_i 0) :: sk) st Q := am_gu.trans rfl
set_option maxRecDepth 100000 in
theorem u8900_1366 {v0 : Value} {v1 : Value} {v2 : Value} {v3 : Value} {v4 : Value} {v5 : Value} {v6 : Value} {v7 : Value} {v8 : Value} {x : Int32} : am_g d X am_m8900 1366 [v0, v1, v2, v3, v4, v5, v6, v7, v8] [.int x] st Q = ((x = 0 ∨ x = 1) ∧ Q (.inl (some (.int x))) st) := am_gu.trans rfl
set_option maxRecDepth 100000 in
theorem u8900_1367 {v0 : Value} {v2 : Value} {v3 : Value} {v4 : Value} {v5 : Value} {v6 : Value} {v7 : Value} {v8 : Value} {x : Nat} : am_g d X am_m8900 1367 [v0, .ref x, v2, v3, v4, v5, v6, v7, v8] sk st Q = am_g d X am_m8900 1368 [v0, .ref x, v2, v3, v4, v5, v6, v7, v8] (.ref x :: sk) st Q := am_gu.trans rfl
set_option maxRecDepth 100000 in
theorem u8900_1368 {v0 : Value} {v1 : Value} {v2 : Value} {v3 : Value} {v4 : Value} {v5 : Value} {v6 : Value} {v7 : Value} {v8 : Value} : am_g d X am_m8900 1368 [v0, v1, v2, v3, v4, v5, v6, v7, v8] (.ref o :: sk) st Q = ((am_ob st o 6 ∧ sk.length ≤ 4) ∧ am_Ca X d 6024 [.ref o] st (am_af am_m8900 1368 [v0, v1, v2, v3, v4, v5, v6, v7, v8] sk (fun pc lc sk st => am_g d X am_m8900 pc lc sk st Q) Q)) := am_gu.trans rfl
set_option maxRecDepth 100000 in
theorem u8900_1371 {v0 : Value} {v1 : Value} {v3 : Value} {v4 : Value} {v5 : Value} {v6 : Value} {v7 : Value} {v8 : Value} {x : Nat} : am_g d X am_m8900 1371 [v0, v1, .ref x, v3, v4, v5, v6, v7, v8] sk st Q = am_g d X am_m8900 1372 [v0, v1, .ref x, v3, v4, v5, v6, v7, v8] (.ref x :: sk) st Q := am_gu.trans rfl
set_option maxRecDepth 100000 in
theorem u8900_1372 {v0 : Value} {v1 : Value} {v2 : Value} {v3 : Value} {v4 : Value} {v5 : Value} {v6 : Value} {v7 : Value} {v8 : Value} : am_g d X am_m8900 1372 [v0, v1, v2, v3, v4, v5, v6, v7, v8] (.ref o :: sk) st Q = ((am_ob st o 7 ∧ sk.length ≤ 4) ∧ am_Ca X d 7088 [.ref o] st (am_af am_m8900 1372 [v0, v1, v2, v3, v4, v5, v6, v7, v8] sk (fun pc lc sk st => am_g d X am_m8900 pc lc sk st Q) Q)) := am_gu.trans rfl
set_option maxRecDepth 100000 in
theorem u8900_1375 {v0 : Value} {v1 : Value} {v2 : Value} {v3 : Value} {v4 : Value} {v5 : Value} {v6 : Value} {v7 : Value} {v8 : Value} {x : Int32} {y : Int32} : am_g d X am_m8900 1375 [v0, v1, v2, v3, v4, v5, v6, v7, v8] (.int y :: .int x :: sk) st Q = (if decide (x = y) = true then am_g d X am_m8900 2998 [v0, v1, v2, v3, v4, v5, v6, v7, v8] sk st Q else am_g d X am_m8900 1378 [v0, v1, v2, v3, v4, v5, v6, v7, v8] sk st Q) := am_gu.trans rfl
set_option maxRecDepth 100000 in
theorem u8900_1378 {v0 : Value} {v1 : Value} {v2 : Value} {v3 : Value} {v4 : Value} {v5 : Value} {v6 : Value} {v7 : Value} {v8 : Value} : am_g d X am_m8900 1378 [v0, v1, v2, v3, v4, v5, v6, v7, v8] sk st Q = am_g d X am_m8900 1379 [v0, v1, v2, v3, v4, v5, v6, v7, v8] (.int (am_i 0) :: sk) st Q := am_gu.trans rfl
set_option maxRecDepth 100000 in
theorem u8900_1379 {v0 : Value} {v1 : Value} {v2 : Value} {v3 : Value} {v4 : Value} {v5 : Value} {v6 : Value} {v7 : Value} {v8 : Value} {x : Int32} : am_g d X am_m8900 1379 [v0, v1, v2, v3, v4, v5, v6, v7, v8] [.int x] st Q = ((x = 0 ∨ x = 1) ∧ Q (.inl (some (.int x))) st) := am_gu.trans rfl
set_option maxRecDepth 100000 in
theorem u8900_1380 {v0 : Value} {v2 : Value} {v3 : Value} {v4 : Value} {v5 : Value} {v6 : Value} {v7 : Value} {v8 : Value} {x : Nat} : am_g d X am_m8900 1380 [v0, .ref x, v2, v3, v4, v5, v6, v7, v8] sk st Q = am_g d X am_m8900 1381 [v0, .ref x, v2, v3, v4, v5, v6, v7, v8] (.ref x :: sk) st Q := am_gu.trans rfl
set_option maxRecDepth 100000 in
theorem u8900_1381 {v0 : Value} {v1 : Value} {v2 : Value} {v3 : Value} {v4 : Value} {v5 : Value} {v6 : Value} {v7 : Value} {v8 : Value} : am_g d X am_m8900 1381 [v0, v1, v2, v3, v4, v5, v6, v7, v8] (.ref o :: sk) st Q = ((am_ob st o 6 ∧ sk.length ≤ 4) ∧ am_Ca X d 6025 [.ref o] st (am_af am_m8900 1381 [v0, v1, v2, v3, v4, v5, v6, v7, v8] sk (fun pc lc sk st => am_g d X am_m8900 pc lc sk st Q) Q)) := am_gu.trans rfl
set_option maxRecDepth 100000 in
theorem u8900_1384 {v0 : Value} {v1 : Value} {v3 : Value} {v4 : Value} {v5 : Value} {v6 : Value} {v7 : Value} {v8 : Value} {x : Nat} : am_g d X am_m8900 1384 [v0, v1, .ref x, v3, v4, v5, v6, v7, v8] sk st Q = am_g d X am_m8900 1385 [v0, v1, .ref x, v3, v4, v5, v6, v7, v8] (.ref x :: sk) st Q := am_gu.trans rfl
set_option maxRecDepth 100000 in
theorem u8900_1385 {v0 : Value} {v1 : Value} {v2 : Value} {v3 : Value} {v4 : Value} {v5 : Value} {v6 : Value} {v7 : Value} {v8 : Value} : am_g d X am_m8900 1385 [v0, v1, v2, v3, v4, v5, v6, v7, v8] (.ref o :: sk) st Q = ((am_ob st o 7 ∧ sk.length ≤ 4) ∧ am_Ca X d 7089 [.ref o] st (am_af am_m8900 1385 [v0, v1, v2, v3, v4, v5, v6, v7, v8] sk (fun pc lc sk st => am_g d X am_m8900 pc lc sk st Q) Q)) := am_gu.trans rfl
set_option maxRecDepth 100000 in
theorem u8900_1388 {v0 : Value} {v1 : Value} {v2 : Value} {v3 : Value} {v4 : Value} {v5 : Value} {v6 : Value} {v7 : Value} {v8 : Value} {x : Int32} {y : Int32} : am_g d X am_m8900 1388 [v0, v1, v2, v3, v4, v5, v6, v7, v8] (.int y :: .int x :: sk) st Q = (if decide (x = y) = true then am_g d X am_m8900 2998 [v0, v1, v2, v3, v4, v5, v6, v7, v8] sk st Q else am_g d X am_m8900 1391 [v0, v1, v2, v3, v4, v5, v6, v7, v8] sk st Q) := am_gu.trans rfl
set_option maxRecDepth 100000 in
theorem u8900_1391 {v0 : Value} {v1 : Value} {v2 : Value} {v3 : Value} {v4 : Value} {v5 : Value} {v6 : Value} {v7 : Value} {v8 : Value} : am_g d X am_m8900 1391 [v0, v1, v2, v3, v4, v5, v6, v7, v8] sk st Q = am_g d X am_m8900 1392 [v0, v1, v2, v3, v4, v5, v6, v7, v8] (.int (am_i 0) :: sk) st Q := am_gu.trans rfl
set_option maxRecDepth 100000 in
theorem u8900_1392 {v0 : Value} {v1 : Value} {v2 : Value} {v3 : Value} {v4 : Value} {v5 : Value} {v6 : Value} {v7 : Value} {v8 : Value} {x : Int32} : am_g d X am_m8900 1392 [v0, v1, v2, v3, v4, v5, v6, v7, v8] [.int x] st Q = ((x = 0 ∨ x = 1) ∧ Q (.inl (some (.int x))) st) := am_gu.trans rfl
set_option maxRecDepth 100000 in
theorem u8900_1393 {v0 : Value} {v2 : Value} {v3 : Value} {v4 : Value} {v5 : Value} {v6 : Value} {v7 : Value} {v8 : Value} {x : Nat} : am_g d X am_m8900 1393 [v0, .ref x, v2, v3, v4, v5, v6, v7, v8] sk st Q = am_g d X am_m8900 1394 [v0, .ref x, v2, v3, v4, v5, v6, v7, v8] (.ref x :: sk) st Q := am_gu.trans rfl
set_option maxRecDepth 100000 in
theorem u8900_1394 {v0 : Value} {v1 : Value} {v2 : Value} {v3 : Value} {v4 : Value} {v5 : Value} {v6 : Value} {v7 : Value} {v8 : Value} : am_g d X am_m8900 1394 [v0, v1, v2, v3, v4, v5, v6, v7, v8] (.ref o :: sk) st Q = ((am_ob st o 6 ∧ sk.length ≤ 4) ∧ am_Ca X d 6026 [.ref o] st (am_af am_m8900 1394 [v0, v1, v2, v3, v4, v5, v6, v7, v8] sk (fun pc lc sk st => am_g d X am_m8900 pc lc sk st Q) Q)) := am_gu.trans rfl
set_option maxRecDepth 100000 in
theorem u8900_1397 {v0 : Value} {v1 : Value} {v3 : Value} {v4 : Value} {v5 : Value} {v6 : Value} {v7 : Value} {v8 : Value} {x : Nat} : am_g d X am_m8900 1397 [v0, v1, .ref x, v3, v4, v5, v6, v7, v8] sk st Q = am_g d X am_m8900 1398 [v0, v1, .ref x, v3, v4, v5, v6, v7, v8] (.ref x :: sk) st Q := am_gu.trans rfl
set_option maxRecDepth 100000 in
theorem u8900_1398 {v0 : Value} {v1 : Value} {v2 : Value} {v3 : Value} {v4 : Value} {v5 : Value} {v6 : Value} {v7 : Value} {v8 : Value} : am_g d X am_m8900 1398 [v0, v1, v2, v3, v4, v5, v6, v7, v8] (.ref o :: sk) st Q = ((am_ob st o 7 ∧ sk.length ≤ 4) ∧ am_Ca X d 7090 [.ref o] st (am_af am_m8900 1398 [v0, v1, v2, v3, v4, v5, v6, v7, v8] sk (fun pc lc sk st => am_g d X am_m8900 pc lc sk st Q) Q)) := am_gu.trans rfl
set_option maxRecDepth 100000 in
theorem u8900_1401 {v0 : Value} {v1 : Value} {v2 : Value} {v3 : Value} {v4 : Value} {v5 : Value} {v6 : Value} {v7 : Value} {v8 : Value} {x : Int32} {y : Int32} : am_g d X am_m8900 1401 [v0, v1, v2, v3, v4, v5, v6, v7, v8] (.int y :: .int x :: sk) st Q = (if decide (x = y) = true then am_g d X am_m8900 2998 [v0, v1, v2, v3, v4, v5, v6, v7, v8] sk st Q else am_g d X am_m8900 1404 [v0, v1, v2, v3, v4, v5, v6, v7, v8] sk st Q) := am_gu.trans rfl
set_option maxRecDepth 100000 in
theorem u8900_1404 {v0 : Value} {v1 : Value} {v2 : Value} {v3 : Value} {v4 : Value} {v5 : Value} {v6 : Value} {v7 : Value} {v8 : Value} : am_g d X am_m8900 1404 [v0, v1, v2, v3, v4, v5, v6, v7, v8] sk st Q = am_g d X am_m8900 1405 [v0, v1, v2, v3, v4, v5, v6, v7, v8] (.int (am_i 0) :: sk) st Q := am_gu.trans rfl
set_option maxRecDepth 100000 in
theorem u8900_1405 {v0 : Value} {v1 : Value} {v2 : Value} {v3 : Value} {v4 : Value} {v5 : Value} {v6 : Value} {v7 : Value} {v8 : Value} {x : Int32} : am_g d X am_m8900 1405 [v0, v1, v2, v3, v4, v5, v6, v7, v8] [.int x] st Q = ((x = 0 ∨ x = 1) ∧ Q (.inl (some (.int x))) st) := am_gu.trans rfl
set_option maxRecDepth 100000 in
theorem u8900_1406 {v0 : Value} {v2 : Value} {v3 : Value} {v4 : Value} {v5 : Value} {v6 : Value} {v7 : Value} {v8 : Value} {x : Nat} : am_g d X am_m8900 1406 [v0, .ref x, v2, v3, v4, v5, v6, v7, v8] sk st Q = am_g d X am_m8900 1407 [v0, .ref x, v2, v3, v4, v5, v6, v7, v8] (.ref x :: sk) st Q := am_gu.trans rfl
set_option maxRecDepth 100000 in
theorem u8900_1407 {v1 : Value} {v2 : Value} {v3 : Value} {v4 : Value} {v5 : Value} {v6 : Value} {v7 : Value} {v8 : Value} : am_g d X am_m8900 1407 [.retAddr 0, v1, v2, v3, v4, v5, v6, v7, v8] sk st Q = am_g d X am_m8900 1408 [.retAddr 0, v1, v2, v3, v4, v5, v6, v7, v8] (.retAddr 0 :: sk) st Q := am_gu.trans rfl
set_option maxRecDepth 100000 in
theorem u8900_1408 {v0 : Value} {v1 : Value} {v2 : Value} {v3 : Value} {v5 : Value} {v6 : Value} {v7 : Value} {v8 : Value} {x : Int32} : am_g d X am_m8900 1408 [v0, v1, v2, v3, .int x, v5, v6, v7, v8] sk st Q = am_g d X am_m8900 1410 [v0, v1, v2, v3, .int x, v5, v6, v7, v8] (.int x :: sk) st Q := am_gu.trans rfl
set_option maxRecDepth 100000 in
theorem u8900_1410 {v0 : Value} {v1 : Value} {v2 : Value} {v3 : Value} {v4 : Value} {v5 : Value} {v6 : Value} {v7 : Value} {v8 : Value} : am_g d X am_m8900 1410 [v0, v1, v2, v3, v4, v5, v6, v7, v8] sk st Q = am_g d X am_m8900 1411 [v0, v1, v2, v3, v4, v5, v6, v7, v8] (.int (am_i 1) :: sk) st Q := am_gu.trans rfl
set_option maxRecDepth 100000 in
theorem u8900_1411 {v0 : Value} {v1 : Value} {v2 : Value} {v3 : Value} {v4 : Value} {v5 : Value} {v6 : Value} {v7 : Value} {v8 : Value} {x : Int32} {y : Int32} : am_g d X am_m8900 1411 [v0, v1, v2, v3, v4, v5, v6, v7, v8] (.int y :: .int x :: sk) st Q = am_g d X am_m8900 1412 [v0, v1, v2, v3, v4, v5, v6, v7, v8] (.int (x + y) :: sk) st Q := am_gu.trans rfl
set_option maxRecDepth 100000 in
theorem u8900_1412 {v0 : Value} {v1 : Value} {v2 : Value} {v3 : Value} {v4 : Value} {v5 : Value} {v6 : Value} {v7 : Value} {v8 : Value} : am_g d X am_m8900 1412 [v0, v1, v2, v3, v4, v5, v6, v7, v8] sk st Q = am_xl (X.1, X.2.1, d) am_m8900 1413 [v0, v1, v2, v3, v4, v5, v6, v7, v8] sk st (fun pc lc sk st => am_g d X am_m8900 pc lc sk st Q) := am_gu.trans rfl
set_option maxRecDepth 100000 in
theorem u8900_1413 {v1 : Value} {v2 : Value} {v3 : Value} {v4 : Value} {v5 : Value} {v6 : Value} {v7 : Value} {v8 : Value} : am_g d X am_m8900 1413 [.retAddr 0, v1, v2, v3, v4, v5, v6, v7, v8] sk st Q = am_g d X am_m8900 1414 [.retAddr 0, v1, v2, v3, v4, v5, v6, v7, v8] (.retAddr 0 :: sk) st Q := am_gu.trans rfl
set_option maxRecDepth 100000 in
theorem u8900_1414 {v0 : Value} {v1 : Value} {v2 : Value} {v3 : Value} {v5 : Value} {v6 : Value} {v7 : Value} {v8 : Value} {x : Int32} : am_g d X am_m8900 1414 [v0, v1, v2, v3, .int x, v5, v6, v7, v8] sk st Q = am_g d X am_m8900 1416 [v0, v1, v2, v3, .int x, v5, v6, v7, v8] (.int x :: sk) st Q := am_gu.trans rfl
set_option maxRecDepth 100000 in
theorem u8900_1416 {v0 : Value} {v1 : Value} {v2 : Value} {v3 : Value} {v4 : Value} {v5 : Value} {v6 : Value} {v7 : Value} {v8 : Value} : am_g d X am_m8900 1416 [v0, v1, v2, v3, v4, v5, v6, v7, v8] sk st Q = am_g d X am_m8900 1417 [v0, v1, v2, v3, v4, v5, v6, v7, v8] (.int (am_i 2) :: sk) st Q := am_gu.trans rfl
set_option maxRecDepth 100000 in
theorem u8900_1417 {v0 : Value} {v1 : Value} {v2 : Value} {v3 : Value} {v4 : Value} {v5 : Value} {v6 : Value} {v7 : Value} {v8 : Value} {x : Int32} {y : Int32} : am_g d X am_m8900 1417 [v0, v1, v2, v3, v4, v5, v6, v7, v8] (.int y :: .int x :: sk) st Q = am_g d X am_m8900 1418 [v0, v1, v2, v3, v4, v5, v6, v7, v8] (.int (x + y) :: sk) st Q := am_gu.trans rfl
set_option maxRecDepth 100000 in
theorem u8900_1418 {v0 : Value} {v1 : Value} {v2 : Value} {v3 : Value} {v4 : Value} {v5 : Value} {v6 : Value} {v7 : Value} {v8 : Value} : am_g d X am_m8900 1418 [v0, v1, v2, v3, v4, v5, v6, v7, v8] sk st Q = am_xl (X.1, X.2.1, d) am_m8900 1419 [v0, v1, v2, v3, v4, v5, v6, v7, v8] sk st (fun pc lc sk st => am_g d X am_m8900 pc lc sk st Q) := am_gu.trans rfl
set_option maxRecDepth 100000 in
theorem u8900_1419 {v0 : Value} {v1 : Value} {v2 : Value} {v4 : Value} {v5 : Value} {v6 : Value} {v7 : Value} {v8 : Value} {x : Nat} : am_g d X am_m8900 1419 [v0, v1, v2, .ref x, v4, v5, v6, v7, v8] sk st Q = am_g d X am_m8900 1420 [v0, v1, v2, .ref x, v4, v5, v6, v7, v8] (.ref x :: sk) st Q := am_gu.trans rfl
set_option maxRecDepth 100000 in
theorem u8900_1420 {a0 : Value} {a1 : Value} {a2 : Value} {a3 : Value} {v0 : Value} {v1 : Value} {v2 : Value} {v3 : Value} {v4 : Value} {v5 : Value} {v6 : Value} {v7 : Value} {v8 : Value} : am_g d X am_m8900 1420 [v0, v1, v2, v3, v4, v5, v6, v7, v8] (a3 :: a2 :: a1 :: a0 :: sk) st Q = (sk.length ≤ 4 ∧ am_Ca X d 8019 [a0, a1, a2, a3] st (am_af am_m8900 1420 [v0, v1, v2, v3, v4, v5, v6, v7, v8] sk (fun pc lc sk st => am_g d X am_m8900 pc lc sk st Q) Q)) := am_gu.trans (propext ⟨fun h => ⟨h.1.2, h.2⟩, fun h => ⟨⟨Nat.le_add_left _ _, h.1⟩, h.2⟩⟩)
set_option maxRecDepth 100000 in
theorem u8900_1423 {v0 : Value} {v1 : Value} {v2 : Value} {v3 : Value} {v4 : Value} {v5 : Value} {v6 : Value} {v7 : Value} {v8 : Value} {x : Int32} : am_g d X am_m8900 1423 [v0, v1, v2, v3, v4, v5, v6, v7, v8] (.int x :: sk) st Q = am_g d X am_m8900 1425 [v0, v1, v2, v3, am_kc v4, .int x, v6, v7, v8] sk st Q := am_gu.trans (congrArg (fun l => am_g d X am_m8900 1425 (List.set l 5 (.int x)) sk st Q) (kl_5 (l := [v5, v6, v7, v8])))
set_option maxRecDepth 100000 in
theorem u8900_1425 {v0 : Value} {v1 : Value} {v3 : Value} {v4 : Value} {v5 : Value} {v6 : Value} {v7 : Value} {v8 : Value} {x : Nat} : am_g d X am_m8900 1425 [v0, v1, .ref x, v3, v4, v5, v6, v7, v8] sk st Q = am_g d X am_m8900 1426 [v0, v1, .ref x, v3, v4, v5, v6, v7, v8] (.ref x :: sk) st Q := am_gu.trans rfl
set_option maxRecDepth 100000 in
theorem u8900_1426 {v1 : Value} {v2 : Value} {v3 : Value} {v4 : Value} {v5 : Value} {v6 : Value} {v7 : Value} {v8 : Value} : am_g d X am_m8900 1426 [.retAddr 0, v1, v2, v3, v4, v5, v6, v7, v8] sk st Q = am_g d X am_m8900 1427 [.retAddr 0, v1, v2, v3, v4, v5, v6, v7, v8] (.retAddr 0 :: sk) st Q := am_gu.trans rfl
set_option maxRecDepth 100000 in
theorem u8900_1427 {v0 : Value} {v1 : Value} {v2 : Value} {v3 : Value} {v5 : Value} {v6 : Value} {v7 : Value} {v8 : Value} {x : Int32} : am_g d X am_m8900 1427 [v0, v1, v2, v3, .int x, v5, v6, v7, v8] sk st Q = am_g d X am_m8900 1429 [v0, v1, v2, v3, .int x, v5, v6, v7, v8] (.int x :: sk) st Q := am_gu.trans rfl
set_option maxRecDepth 100000 in
theorem u8900_1429 {v0 : Value} {v1 : Value} {v2 : Value} {v3 : Value} {v4 : Value} {v5 : Value} {v6 : Value} {v7 : Value} {v8 : Value} : am_g d X am_m8900 1429 [v0, v1, v2, v3, v4, v5, v6, v7, v8] sk st Q = am_g d X am_m8900 1430 [v0, v1, v2, v3, v4, v5, v6, v7, v8] (.int (am_i 1) :: sk) st Q := am_gu.trans rfl
set_option maxRecDepth 100000 in
theorem u8900_1430 {v0 : Value} {v1 : Value} {v2 : Value} {v3 : Value} {v4 : Value} {v5 : Value} {v6 : Value} {v7 : Value} {v8 : Value} {x : Int32} {y : Int32} : am_g d X am_m8900 1430 [v0, v1, v2, v3, v4, v5, v6, v7, v8] (.int y :: .int x :: sk) st Q = am_g d X am_m8900 1431 [v0, v1, v2, v3, v4, v5, v6, v7, v8] (.int (x + y) :: sk) st Q := am_gu.trans rfl
set_option maxRecDepth 100000 in
theorem u8900_1431 {v0 : Value} {v1 : Value} {v2 : Value} {v3 : Value} {v4 : Value} {v5 : Value} {v6 : Value} {v7 : Value} {v8 : Value} : am_g d X am_m8900 1431 [v0, v1, v2, v3, v4, v5, v6, v7, v8] sk st Q = am_xl (X.1, X.2.1, d) am_m8900 1432 [v0, v1, v2, v3, v4, v5, v6, v7, v8] sk st (fun pc lc sk st => am_g d X am_m8900 pc lc sk st Q) := am_gu.trans rfl
set_option maxRecDepth 100000 in
theorem u8900_1432 {v1 : Value} {v2 : Value} {v3 : Value} {v4 : Value} {v5 : Value} {v6 : Value} {v7 : Value} {v8 : Value} : am_g d X am_m8900 1432 [.retAddr 0, v1, v2, v3, v4, v5, v6, v7, v8] sk st Q = am_g d X am_m8900 1433 [.retAddr 0, v1, v2, v3, v4, v5, v6, v7, v8] (.retAddr 0 :: sk) st Q := am_gu.trans rfl
set_option maxRecDepth 100000 in
theorem u8900_1433 {v0 : Value} {v1 : Value} {v2 : Value} {v3 : Value} {v5 : Value} {v6 : Value} {v7 : Value} {v8 : Value} {x : Int32} : am_g d X am_m8900 1433 [v0, v1, v2, v3, .int x, v5, v6, v7, v8] sk st Q = am_g d X am_m8900 1435 [v0, v1, v2, v3, .int x, v5, v6, v7, v8] (.int x :: sk) st Q := am_gu.trans rfl
set_option maxRecDepth 100000 in
theorem u8900_1435 {v0 : Value} {v1 : Value} {v2 : Value} {v3 : Value} {v4 : Value} {v5 : Value} {v6 : Value} {v7 : Value} {v8 : Value} : am_g d X am_m8900 1435 [v0, v1, v2, v3, v4, v5, v6, v7, v8] sk st Q = am_g d X am_m8900 1436 [v0, v1, v2, v3, v4, v5, v6, v7, v8] (.int (am_i 2) :: sk) st Q := am_gu.trans rfl
set_option maxRecDepth 100000 in
theorem u8900_1436 {v0 : Value} {v1 : Value} {v2 : Value} {v3 : Value} {v4 : Value} {v5 : Value} {v6 : Value} {v7 : Value} {v8 : Value} {x : Int32} {y : Int32} : am_g d X am_m8900 1436 [v0, v1, v2, v3, v4, v5, v6, v7, v8] (.int y :: .int x :: sk) st Q = am_g d X am_m8900 1437 [v0, v1, v2, v3, v4, v5, v6, v7, v8] (.int (x + y) :: sk) st Q := am_gu.trans rfl
set_option maxRecDepth 100000 in
theorem u8900_1437 {v0 : Value} {v1 : Value} {v2 : Value} {v3 : Value} {v4 : Value} {v5 : Value} {v6 : Value} {v7 : Value} {v8 : Value} : am_g d X am_m8900 1437 [v0, v1, v2, v3, v4, v5, v6, v7, v8] sk st Q = am_xl (X.1, X.2.1, d) am_m8900 1438 [v0, v1, v2, v3, v4, v5, v6, v7, v8] sk st (fun pc lc sk st => am_g d X am_m8900 pc lc sk st Q) := am_gu.trans rfl
set_option maxRecDepth 100000 in
theorem u8900_1438 {a0 : Value} {a1 : Value} {v0 : Value} {v1 : Value} {v2 : Value} {v3 : Value} {v4 : Value} {v5 : Value} {v6 : Value} {v7 : Value} {v8 : Value} : am_g d X am_m8900 1438 [v0, v1, v2, v3, v4, v5, v6, v7, v8] (a1 :: a0 :: .ref o :: sk) st Q = ((am_ob st o 7 ∧ sk.length ≤ 4) ∧ am_Ca X d 7091 [.ref o, a0, a1] st (am_af am_m8900 1438 [v0, v1, v2, v3, v4, v5, v6, v7, v8] sk (fun pc lc sk st => am_g d X am_m8900 pc lc sk st Q) Q)) := am_gu.trans rfl
set_option maxRecDepth 100000 in
theorem u8900_1441 {v0 : Value} {v1 : Value} {v2 : Value} {v3 : Value} {v4 : Value} {v5 : Value} {v6 : Value} {v7 : Value} {v8 : Value} {x : Int32} : am_g d X am_m8900 1441 [v0, v1, v2, v3, v4, v5, v6, v7, v8] (.int x :: sk) st Q = am_g d X am_m8900 1443 [v0, v1, v2, v3, v4, am_kc v5, .int x, v7, v8] sk st Q := am_gu.trans (congrArg (fun l => am_g d X am_m8900 1443 (List.set l 6 (.int x)) sk st Q) (kl_6 (l := [v6, v7, v8])))
set_option maxRecDepth 100000 in
theorem u8900_1443 {v0 : Value} {v1 : Value} {v3 : Value} {v4 : Value} {v5 : Value} {v6 : Value} {v7 : Value} {v8 : Value} {x : Nat} : am_g d X am_m8900 1443 [v0, v1, .ref x, v3, v4, v5, v6, v7, v8] sk st Q = am_g d X am_m8900 1444 [v0, v1, .ref x, v3, v4, v5, v6, v7, v8] (.ref x :: sk) st Q := am_gu.trans rfl
set_option maxRecDepth 100000 in
theorem u8900_1444 {v0 : Value} {v1 : Value} {v2 : Value} {v3 : Value} {v4 : Value} {v5 : Value} {v6 : Value} {v7 : Value} {v8 : Value} : am_g d X am_m8900 1444 [v0, v1, v2, v3, v4, v5, v6, v7, v8] (.ref o :: sk) st Q = ((am_ob st o 7 ∧ sk.length ≤ 4) ∧ am_Ca X d 7002 [.ref o] st (am_af am_m8900 1444 [v0, v1, v2, v3, v4, v5, v6, v7, v8] sk (fun pc lc sk st => am_g d X am_m8900 pc lc sk st Q) Q)) := am_gu.trans rfl
set_option maxRecDepth 100000 in
theorem u8900_1447 {v0 : Value} {v1 : Value} {v2 : Value} {v3 : Value} {v4 : Value} {v6 : Value} {v7 : Value} {v8 : Value} {x : Int32} : am_g d X am_m8900 1447 [v0, v1, v2, v3, v4, .int x, v6, v7, v8] sk st Q = am_g d X am_m8900 1449 [v0, v1, v2, v3, v4, .int x, v6, v7, v8] (.int x :: sk) st Q := am_gu.trans rfl
set_option maxRecDepth 100000 in
theorem u8900_1449 {v0 : Value} {v1 : Value} {v2 : Value} {v3 : Value} {v4 : Value} {v5 : Value} {v6 : Value} {v7 : Value} {v8 : Value} {x : Int32} {y : Int32} : am_g d X am_m8900 1449 [v0, v1, v2, v3, v4, v5, v6, v7, v8] (.int y :: .int x :: sk) st Q = (if decide (x = y) = true then am_g d X am_m8900 1454 [v0, v1, v2, v3, v4, v5, v6, v7, v8] sk st Q else am_g d X am_m8900 1452 [v0, v1, v2, v3, v4, v5, v6, v7, v8] sk st Q) := am_gu.trans rfl
set_option maxRecDepth 100000 in
theorem u8900_1452 {v0 : Value} {v1 : Value} {v2 : Value} {v3 : Value} {v4 : Value} {v5 : Value} {v6 : Value} {v7 : Value} {v8 : Value} : am_g d X am_m8900 1452 [v0, v1, v2, v3, v4, v5, v6, v7, v8] sk st Q = am_g d X am_m8900 1453 [v0, v1, v2, v3, v4, v5, v6, v7, v8] (.int (am_i 0) :: sk) st Q := am_gu.trans rfl
set_option maxRecDepth 100000 in
theorem u8900_1453 {v0 : Value} {v1 : Value} {v2 : Value} {v3 : Value} {v4 : Value} {v5 : Value} {v6 : Value} {v7 : Value} {v8 : Value} {x : Int32} : am_g d X am_m8900 1453 [v0, v1, v2, v3, v4, v5, v6, v7, v8] [.int x] st Q = ((x = 0 ∨ x = 1) ∧ Q (.inl (some (.int x))) st) := am_gu.trans rfl
set_option maxRecDepth 100000 in
theorem u8900_1454 {v0 : Value} {v1 : Value} {v2 : Value} {v3 : Value} {v4 : Value} {v6 : Value} {v7 : Value} {v8 : Value} {x : Int32} : am_g d X am_m8900 1454 [v0, v1, v2, v3, v4, .int x, v6, v7, v8] sk st Q = am_g d X am_m8900 1456 [v0, v1, v2, v3, v4, .int x, v6, v7, v8] (.int x :: sk) st Q := am_gu.trans rfl
set_option maxRecDepth 100000 in
theorem u8900_1456 {v0 : Value} {v1 : Value} {v2 : Value} {v3 : Value} {v4 : Value} {v5 : Value} {v6 : Value} {v7 : Value} {v8 : Value} {x : Int32} : am_g d X am_m8900 1456 [v0, v1, v2, v3, v4, v5, v6, v7, v8] (.int x :: sk) st Q = (if decide (¬ x = 0) = true then am_g d X am_m8900 1471 [v0, v1, v2, v3, v4, v5, v6, v7, v8] sk st Q else am_g d X am_m8900 1459 [v0, v1, v2, v3, v4, v5, v6, v7, v8] sk st Q) := am_gu.trans rfl
set_option maxRecDepth 100000 in
theorem u8900_1459 {v0 : Value} {v1 : Value} {v2 : Value} {v4 : Value} {v5 : Value} {v6 : Value} {v7 : Value} {v8 : Value} {x : Nat} : am_g d X am_m8900 1459 [v0, v1, v2, .ref x, v4, v5, v6, v7, v8] sk st Q = am_g d X am_m8900 1460 [v0, v1, v2, .ref x, v4, v5, v6, v7, v8] (.ref x :: sk) st Q := am_gu.trans rfl
set_option maxRecDepth 100000 in
theorem u8900_1460 {v0 : Value} {v1 : Value} {v2 : Value} {v3 : Value} {v4 : Value} {v5 : Value} {v6 : Value} {v7 : Value} {v8 : Value} : am_g d X am_m8900 1460 [v0, v1, v2, v3, v4, v5, v6, v7, v8] sk st Q = am_g d X am_m8900 1461 [v0, v1, v2, v3, v4, v5, v6, v7, v8] (.int (am_i 0) :: sk) st Q := am_gu.trans rfl
set_option maxRecDepth 100000 in
theorem u8900_1461 {v0 : Value} {v1 : Value} {v2 : Value} {v3 : Value} {v4 : Value} {v5 : Value} {v6 : Value} {v7 : Value} {v8 : Value} : am_g d X am_m8900 1461 [v0, v1, v2, v3, v4, v5, v6, v7, v8] sk st Q = am_jl 1462 [v0, v1, v2, v3, v4, v5, v6, v7, v8] sk st (fun pc lc sk st => am_g d X am_m8900 pc lc sk st Q) := am_gu.trans rfl
set_option maxRecDepth 100000 in
theorem u8900_1462 {v0 : Value} {v1 : Value} {v2 : Value} {v3 : Value} {v4 : Value} {v5 : Value} {v7 : Value} {v8 : Value} {x : Int32} : am_g d X am_m8900 1462 [v0, v1, v2, v3, v4, v5, .int x, v7, v8] sk st Q = am_g d X am_m8900 1464 [v0, v1, v2, v3, v4, v5, .int x, v7, v8] (.int x :: sk) st Q := am_gu.trans rfl
set_option maxRecDepth 100000 in
theorem u8900_1464 {v0 : Value} {v1 : Value} {v2 : Value} {v3 : Value} {v4 : Value} {v5 : Value} {v6 : Value} {v7 : Value} {v8 : Value} {x : Int32} : am_g d X am_m8900 1464 [v0, v1, v2, v3, v4, v5, v6, v7, v8] (.int x :: sk) st Q = am_g d X am_m8900 1465 [v0, v1, v2, v3, v4, v5, v6, v7, v8] (.long x.toInt64 :: sk) st Q := am_gu.trans rfl
set_option maxRecDepth 100000 in
theorem u8900_1465 {v0 : Value} {v1 : Value} {v2 : Value} {v3 : Value} {v4 : Value} {v5 : Value} {v6 : Value} {v7 : Value} {v8 : Value} {x : Int64} {y : Int64} : am_g d X am_m8900 1465 [v0, v1, v2, v3, v4, v5, v6, v7, v8] (.long y :: .long x :: sk) st Q = am_g d X am_m8900 1466 [v0, v1, v2, v3, v4, v5, v6, v7, v8] (.int (lg_cmp x y) :: sk) st Q := am_gu.trans rfl
set_option maxRecDepth 100000 in
theorem u8900_1466 {v0 : Value} {v1 : Value} {v2 : Value} {v3 : Value} {v4 : Value} {v5 : Value} {v6 : Value} {v7 : Value} {v8 : Value} {x : Int32} : am_g d X am_m8900 1466 [v0, v1, v2, v3, v4, v5, v6, v7, v8] (.int x :: sk) st Q = (if decide (x = 0) = true then am_g d X am_m8900 1471 [v0, v1, v2, v3, v4, v5, v6, v7, v8] sk st Q else am_g d X am_m8900 1469 [v0, v1, v2, v3, v4, v5, v6, v7, v8] sk st Q) := am_gu.trans rfl
set_option maxRecDepth 100000 in
theorem u8900_1469 {v0 : Value} {v1 : Value} {v2 : Value} {v3 : Value} {v4 : Value} {v5 : Value} {v6 : Value} {v7 : Value} {v8 : Value} : am_g d X am_m8900 1469 [v0, v1, v2, v3, v4, v5, v6, v7, v8] sk st Q = am_g d X am_m8900 1470 [v0, v1, v2, v3, v4, v5, v6, v7, v8] (.int (am_i 0) :: sk) st Q := am_gu.trans rfl
set_option maxRecDepth 100000 in
theorem u8900_1470 {v0 : Value} {v1 : Value} {v2 : Value} {v3 : Value} {v4 : Value} {v5 : Value} {v6 : Value} {v7 : Value} {v8 : Value} {x : Int32} : am_g d X am_m8900 1470 [v0, v1, v2, v3, v4, v5, v6, v7, v8] [.int x] st Q = ((x = 0 ∨ x = 1) ∧ Q (.inl (some (.int x))) st) := am_gu.trans rfl
set_option maxRecDepth 100000 in
theorem u8900_1471 {v0 : Value} {v1 : Value} {v2 : Value} {v3 : Value} {v4 : Value} {v5 : Value} {v6 : Value} {v7 : Value} {v8 : Value} : am_g d X am_m8900 1471 [v0, v1, v2, v3, v4, v5, v6, v7, v8] sk st Q = am_g d X am_m8900 2998 [v0, v1, v2, v3, v4, v5, v6, v7, v8] sk st Q := am_gu.trans rfl
set_option maxRecDepth 100000 in
theorem u8900_1474 {v0 : Value} {v2 : Value} {v3 : Value} {v4 : Value} {v5 : Value} {v6 : Value} {v7 : Value} {v8 : Value} {x : Nat} : am_g d X am_m8900 1474 [v0, .ref x, v2, v3, v4, v5, v6, v7, v8] sk st Q = am_g d X am_m8900 1475 [v0, .ref x, v2, v3, v4, v5, v6, v7, v8] (.ref x :: sk) st Q := am_gu.trans rfl
set_option maxRecDepth 100000 in
theorem u8900_1475 {v1 : Value} {v2 : Value} {v3 : Value} {v4 : Value} {v5 : Value} {v6 : Value} {v7 : Value} {v8 : Value} : am_g d X am_m8900 1475 [.retAddr 0, v1, v2, v3, v4, v5, v6, v7, v8] sk st Q = am_g d X am_m8900 1476 [.retAddr 0, v1, v2, v3, v4, v5, v6, v7, v8] (.retAddr 0 :: sk) st Q := am_gu.trans rfl
set_option maxRecDepth 100000 in
theorem u8900_1476 {v0 : Value} {v1 : Value} {v2 : Value} {v3 : Value} {v5 : Value} {v6 : Value} {v7 : Value} {v8 : Value} {x : Int32} : am_g d X am_m8900 1476 [v0, v1, v2, v3, .int x, v5, v6, v7, v8] sk st Q = am_g d X am_m8900 1478 [v0, v1, v2, v3, .int x, v5, v6, v7, v8] (.int x :: sk) st Q := am_gu.trans rfl
set_option maxRecDepth 100000 in
theorem u8900_1478 {v0 : Value} {v1 : Value} {v2 : Value} {v3 : Value} {v4 : Value} {v5 : Value} {v6 : Value} {v7 : Value} {v8 : Value} : am_g d X am_m8900 1478 [v0, v1, v2, v3, v4, v5, v6, v7, v8] sk st Q = am_g d X am_m8900 1479 [v0, v1, v2, v3, v4, v5, v6, v7, v8] (.int (am_i 1) :: sk) st Q := am_gu.trans rfl
set_option maxRecDepth 100000 in
theorem u8900_1479 {v0 : Value} {v1 : Value} {v2 : Value} {v3 : Value} {v4 : Value} {v5 : Value} {v6 : Value} {v7 : Value} {v8 : Value} {x : Int32} {y : Int32} : am_g d X am_m8900 1479 [v0, v1, v2, v3, v4, v5, v6, v7, v8] (.int y :: .int x :: sk) st Q = am_g d X am_m8900 1480 [v0, v1, v2, v3, v4, v5, v6, v7, v8] (.int (x + y) :: sk) st Q := am_gu.trans rfl
set_option maxRecDepth 100000 in
theorem u8900_1480 {v0 : Value} {v1 : Value} {v2 : Value} {v3 : Value} {v4 : Value} {v5 : Value} {v6 : Value} {v7 : Value} {v8 : Value} : am_g d X am_m8900 1480 [v0, v1, v2, v3, v4, v5, v6, v7, v8] sk st Q = am_xl (X.1, X.2.1, d) am_m8900 1481 [v0, v1, v2, v3, v4, v5, v6, v7, v8] sk st (fun pc lc sk st => am_g d X am_m8900 pc lc sk st Q) := am_gu.trans rfl
set_option maxRecDepth 100000 in
theorem u8900_1481 {v1 : Value} {v2 : Value} {v3 : Value} {v4 : Value} {v5 : Value} {v6 : Value} {v7 : Value} {v8 : Value} : am_g d X am_m8900 1481 [.retAddr 0, v1, v2, v3, v4, v5, v6, v7, v8] sk st Q = am_g d X am_m8900 1482 [.retAddr 0, v1, v2, v3, v4, v5, v6, v7, v8] (.retAddr 0 :: sk) st Q := am_gu.trans rfl
set_option maxRecDepth 100000 in
theorem u8900_1482 {v0 : Value} {v1 : Value} {v2 : Value} {v3 : Value} {v5 : Value} {v6 : Value} {v7 : Value} {v8 : Value} {x : Int32} : am_g d X am_m8900 1482 [v0, v1, v2, v3, .int x, v5, v6, v7, v8] sk st Q = am_g d X am_m8900 1484 [v0, v1, v2, v3, .int x, v5, v6, v7, v8] (.int x :: sk) st Q := am_gu.trans rfl
set_option maxRecDepth 100000 in
theorem u8900_1484 {v0 : Value} {v1 : Value} {v2 : Value} {v3 : Value} {v4 : Value} {v5 : Value} {v6 : Value} {v7 : Value} {v8 : Value} : am_g d X am_m8900 1484 [v0, v1, v2, v3, v4, v5, v6, v7, v8] sk st Q = am_g d X am_m8900 1485 [v0, v1, v2, v3, v4, v5, v6, v7, v8] (.int (am_i 2) :: sk) st Q := am_gu.trans rfl
set_option maxRecDepth 100000 in
theorem u8900_1485 {v0 : Value} {v1 : Value} {v2 : Value} {v3 : Value} {v4 : Value} {v5 : Value} {v6 : Value} {v7 : Value} {v8 : Value} {x : Int32} {y : Int32} : am_g d X am_m8900 1485 [v0, v1, v2, v3, v4, v5, v6, v7, v8] (.int y :: .int x :: sk) st Q = am_g d X am_m8900 1486 [v0, v1, v2, v3, v4, v5, v6, v7, v8] (.int (x + y) :: sk) st Q := am_gu.trans rfl
set_option maxRecDepth 100000 in
theorem u8900_1486 {v0 : Value} {v1 : Value} {v2 : Value} {v3 : Value} {v4 : Value} {v5 : Value} {v6 : Value} {v7 : Value} {v8 : Value} : am_g d X am_m8900 1486 [v0, v1, v2, v3, v4, v5, v6, v7, v8] sk st Q = am_xl (X.1, X.2.1, d) am_m8900 1487 [v0, v1, v2, v3, v4, v5, v6, v7, v8] sk st (fun pc lc sk st => am_g d X am_m8900 pc lc sk st Q) := am_gu.trans rfl
set_option maxRecDepth 100000 in
theorem u8900_1487 {v0 : Value} {v1 : Value} {v2 : Value} {v4 : Value} {v5 : Value} {v6 : Value} {v7 : Value} {v8 : Value} {x : Nat} : am_g d X am_m8900 1487 [v0, v1, v2, .ref x, v4, v5, v6, v7, v8] sk st Q = am_g d X am_m8900 1488 [v0, v1, v2, .ref x, v4, v5, v6, v7, v8] (.ref x :: sk) st Q := am_gu.trans rfl
set_option maxRecDepth 100000 in
theorem u8900_1488 {a0 : Value} {a1 : Value} {a2 : Value} {a3 : Value} {v0 : Value} {v1 : Value} {v2 : Value} {v3 : Value} {v4 : Value} {v5 : Value} {v6 : Value} {v7 : Value} {v8 : Value} : am_g d X am_m8900 1488 [v0, v1, v2, v3, v4, v5, v6, v7, v8] (a3 :: a2 :: a1 :: a0 :: sk) st Q = (sk.length ≤ 4 ∧ am_Ca X d 8020 [a0, a1, a2, a3] st (am_af am_m8900 1488 [v0, v1, v2, v3, v4, v5, v6, v7, v8] sk (fun pc lc sk st => am_g d X am_m8900 pc lc sk st Q) Q)) := am_gu.trans (propext ⟨fun h => ⟨h.1.2, h.2⟩, fun h => ⟨⟨Nat.le_add_left _ _, h.1⟩, h.2⟩⟩)
set_option maxRecDepth 100000 in
theorem u8900_1491 {v0 : Value} {v1 : Value} {v2 : Value} {v3 : Value} {v4 : Value} {v5 : Value} {v6 : Value} {v7 : Value} {v8 : Value} {x : Int32} : am_g d X am_m8900 1491 [v0, v1, v2, v3, v4, v5, v6, v7, v8] (.int x :: sk) st Q = am_g d X am_m8900 1493 [v0, v1, v2, v3, am_kc v4, .int x, v6, v7, v8] sk st Q := am_gu.trans (congrArg (fun l => am_g d X am_m8900 1493 (List.set l 5 (.int x)) sk st Q) (kl_5 (l := [v5, v6, v7, v8])))
set_option maxRecDepth 100000 in
theorem u8900_1493 {v0 : Value} {v1 : Value} {v3 : Value} {v4 : Value} {v5 : Value} {v6 : Value} {v7 : Value} {v8 : Value} {x : Nat} : am_g d X am_m8900 1493 [v0, v1, .ref x, v3, v4, v5, v6, v7, v8] sk st Q = am_g d X am_m8900 1494 [v0, v1, .ref x, v3, v4, v5, v6, v7, v8] (.ref x :: sk) st Q := am_gu.trans rfl
set_option maxRecDepth 100000 in
theorem u8900_1494 {v1 : Value} {v2 : Value} {v3 : Value} {v4 : Value} {v5 : Value} {v6 : Value} {v7 : Value} {v8 : Value} : am_g d X am_m8900 1494 [.retAddr 0, v1, v2, v3, v4, v5, v6, v7, v8] sk st Q = am_g d X am_m8900 1495 [.retAddr 0, v1, v2, v3, v4, v5, v6, v7, v8] (.retAddr 0 :: sk) st Q := am_gu.trans rfl
set_option maxRecDepth 100000 in
theorem u8900_1495 {v0 : Value} {v1 : Value} {v2 : Value} {v3 : Value} {v5 : Value} {v6 : Value} {v7 : Value} {v8 : Value} {x : Int32} : am_g d X am_m8900 1495 [v0, v1, v2, v3, .int x, v5, v6, v7, v8] sk st Q = am_g d X am_m8900 1497 [v0, v1, v2, v3, .int x, v5, v6, v7, v8] (.int x :: sk) st Q := am_gu.trans rfl
set_option maxRecDepth 100000 in
theorem u8900_1497 {v0 : Value} {v1 : Value} {v2 : Value} {v3 : Value} {v4 : Value} {v5 : Value} {v6 : Value} {v7 : Value} {v8 : Value} : am_g d X am_m8900 1497 [v0, v1, v2, v3, v4, v5, v6, v7, v8] sk st Q = am_g d X am_m8900 1498 [v0, v1, v2, v3, v4, v5, v6, v7, v8] (.int (am_i 1) :: sk) st Q := am_gu.trans rfl
set_option maxRecDepth 100000 in
theorem u8900_1498 {v0 : Value} {v1 : Value} {v2 : Value} {v3 : Value} {v4 : Value} {v5 : Value} {v6 : Value} {v7 : Value} {v8 : Value} {x : Int32} {y : Int32} : am_g d X am_m8900 1498 [v0, v1, v2, v3, v4, v5, v6, v7, v8] (.int y :: .int x :: sk) st Q = am_g d X am_m8900 1499 [v0, v1, v2, v3, v4, v5, v6, v7, v8] (.int (x + y) :: sk) st Q := am_gu.trans rfl
set_option maxRecDepth 100000 in
theorem u8900_1499 {v0 : Value} {v1 : Value} {v2 : Value} {v3 : Value} {v4 : Value} {v5 : Value} {v6 : Value} {v7 : Value} {v8 : Value} : am_g d X am_m8900 1499 [v0, v1, v2, v3, v4, v5, v6, v7, v8] sk st Q = am_xl (X.1, X.2.1, d) am_m8900 1500 [v0, v1, v2, v3, v4, v5, v6, v7, v8] sk st (fun pc lc sk st => am_g d X am_m8900 pc lc sk st Q) := am_gu.trans rfl
set_option maxRecDepth 100000 in
theorem u8900_1500 {v1 : Value} {v2 : Value} {v3 : Value} {v4 : Value} {v5 : Value} {v6 : Value} {v7 : Value} {v8 : Value} : am_g d X am_m8900 1500 [.retAddr 0, v1, v2, v3, v4, v5, v6, v7, v8] sk st Q = am_g d X am_m8900 1501 [.retAddr 0, v1, v2, v3, v4, v5, v6, v7, v8] (.retAddr 0 :: sk) st Q := am_gu.trans rfl
set_option maxRecDepth 100000 in
theorem u8900_1501 {v0 : Value} {v1 : Value} {v2 : Value} {v3 : Value} {v5 : Value} {v6 : Value} {v7 : Value} {v8 : Value} {x : Int32} : am_g d X am_m8900 1501 [v0, v1, v2, v3, .int x, v5, v6, v7, v8] sk st Q = am_g d X am_m8900 1503 [v0, v1, v2, v3, .int x, v5, v6, v7, v8] (.int x :: sk) st Q := am_gu.trans rfl
set_option maxRecDepth 100000 in
theorem u8900_1503 {v0 : Value} {v1 : Value} {v2 : Value} {v3 : Value} {v4 : Value} {v5 : Value} {v6 : Value} {v7 : Value} {v8 : Value} : am_g d X am_m8900 1503 [v0, v1, v2, v3, v4, v5, v6, v7, v8] sk st Q = am_g d X am_m8900 1504 [v0, v1, v2, v3, v4, v5, v6, v7, v8] (.int (am_i 2) :: sk) st Q := am_gu.trans rfl
set_option maxRecDepth 100000 in
theorem u8900_1504 {v0 : Value} {v1 : Value} {v2 : Value} {v3 : Value} {v4 : Value} {v5 : Value} {v6 : Value} {v7 : Value} {v8 : Value} {x : Int32} {y : Int32} : am_g d X am_m8900 1504 [v0, v1, v2, v3, v4, v5, v6, v7, v8] (.int y :: .int x :: sk) st Q = am_g d X am_m8900 1505 [v0, v1, v2, v3, v4, v5, v6, v7, v8] (.int (x + y) :: sk) st Q := am_gu.trans rfl
set_option maxRecDepth 100000 in
theorem u8900_1505 {v0 : Value} {v1 : Value} {v2 : Value} {v3 : Value} {v4 : Value} {v5 : Value} {v6 : Value} {v7 : Value} {v8 : Value} : am_g d X am_m8900 1505 [v0, v1, v2, v3, v4, v5, v6, v7, v8] sk st Q = am_xl (X.1, X.2.1, d) am_m8900 1506 [v0, v1, v2, v3, v4, v5, v6, v7, v8] sk st (fun pc lc sk st => am_g d X am_m8900 pc lc sk st Q) := am_gu.trans rfl
set_option maxRecDepth 100000 in
theorem u8900_1506 {a0 : Value} {a1 : Value} {v0 : Value} {v1 : Value} {v2 : Value} {v3 : Value} {v4 : Value} {v5 : Value} {v6 : Value} {v7 : Value} {v8 : Value} : am_g d X am_m8900 1506 [v0, v1, v2, v3, v4, v5, v6, v7, v8] (a1 :: a0 :: .ref o :: sk) st Q = ((am_ob st o 7 ∧ sk.length ≤ 4) ∧ am_Ca X d 7092 [.ref o, a0, a1] st (am_af am_m8900 1506 [v0, v1, v2, v3, v4, v5, v6, v7, v8] sk (fun pc lc sk st => am_g d X am_m8900 pc lc sk st Q) Q)) := am_gu.trans rfl
set_option maxRecDepth 100000 in
theorem u8900_1509 {v0 : Value} {v1 : Value} {v2 : Value} {v3 : Value} {v4 : Value} {v5 : Value} {v6 : Value} {v7 : Value} {v8 : Value} {x : Int32} : am_g d X am_m8900 1509 [v0, v1, v2, v3, v4, v5, v6, v7, v8] (.int x :: sk) st Q = am_g d X am_m8900 1511 [v0, v1, v2, v3, v4, am_kc v5, .int x, v7, v8] sk st Q := am_gu.trans (congrArg (fun l => am_g d X am_m8900 1511 (List.set l 6 (.int x)) sk st Q) (kl_6 (l := [v6, v7, v8])))
set_option maxRecDepth 100000 in
theorem u8900_1511 {v0 : Value} {v1 : Value} {v3 : Value} {v4 : Value} {v5 : Value} {v6 : Value} {v7 : Value} {v8 : Value} {x : Nat} : am_g d X am_m8900 1511 [v0, v1, .ref x, v3, v4, v5, v6, v7, v8] sk st Q = am_g d X am_m8900 1512 [v0, v1, .ref x, v3, v4, v5, v6, v7, v8] (.ref x :: sk) st Q := am_gu.trans rfl
set_option maxRecDepth 100000 in
theorem u8900_1512 {v0 : Value} {v1 : Value} {v2 : Value} {v3 : Value} {v4 : Value} {v5 : Value} {v6 : Value} {v7 : Value} {v8 : Value} : am_g d X am_m8900 1512 [v0, v1, v2, v3, v4, v5, v6, v7, v8] (.ref o :: sk) st Q = ((am_ob st o 7 ∧ sk.length ≤ 4) ∧ am_Ca X d 7002 [.ref o] st (am_af am_m8900 1512 [v0, v1, v2, v3, v4, v5, v6, v7, v8] sk (fun pc lc sk st => am_g d X am_m8900 pc lc sk st Q) Q)) := am_gu.trans rfl
set_option maxRecDepth 100000 in
theorem u8900_1515 {v0 : Value} {v1 : Value} {v2 : Value} {v3 : Value} {v4 : Value} {v6 : Value} {v7 : Value} {v8 : Value} {x : Int32} : am_g d X am_m8900 1515 [v0, v1, v2, v3, v4, .int x, v6, v7, v8] sk st Q = am_g d X am_m8900 1517 [v0, v1, v2, v3, v4, .int x, v6, v7, v8] (.int x :: sk) st Q := am_gu.trans rfl
set_option maxRecDepth 100000 in
theorem u8900_1517 {v0 : Value} {v1 : Value} {v2 : Value} {v3 : Value} {v4 : Value} {v5 : Value} {v6 : Value} {v7 : Value} {v8 : Value} {x : Int32} {y : Int32} : am_g d X am_m8900 1517 [v0, v1, v2, v3, v4, v5, v6, v7, v8] (.int y :: .int x :: sk) st Q = (if decide (x = y) = true then am_g d X am_m8900 1522 [v0, v1, v2, v3, v4, v5, v6, v7, v8] sk st Q else am_g d X am_m8900 1520 [v0, v1, v2, v3, v4, v5, v6, v7, v8] sk st Q) := am_gu.trans rfl
set_option maxRecDepth 100000 in
theorem u8900_1520 {v0 : Value} {v1 : Value} {v2 : Value} {v3 : Value} {v4 : Value} {v5 : Value} {v6 : Value} {v7 : Value} {v8 : Value} : am_g d X am_m8900 1520 [v0, v1, v2, v3, v4, v5, v6, v7, v8] sk st Q = am_g d X am_m8900 1521 [v0, v1, v2, v3, v4, v5, v6, v7, v8] (.int (am_i 0) :: sk) st Q := am_gu.trans rfl
set_option maxRecDepth 100000 in
theorem u8900_1521 {v0 : Value} {v1 : Value} {v2 : Value} {v3 : Value} {v4 : Value} {v5 : Value} {v6 : Value} {v7 : Value} {v8 : Value} {x : Int32} : am_g d X am_m8900 1521 [v0, v1, v2, v3, v4, v5, v6, v7, v8] [.int x] st Q = ((x = 0 ∨ x = 1) ∧ Q (.inl (some (.int x))) st) := am_gu.trans rfl
set_option maxRecDepth 100000 in
theorem u8900_1522 {v0 : Value} {v1 : Value} {v2 : Value} {v3 : Value} {v4 : Value} {v6 : Value} {v7 : Value} {v8 : Value} {x : Int32} : am_g d X am_m8900 1522 [v0, v1, v2, v3, v4, .int x, v6, v7, v8] sk st Q = am_g d X am_m8900 1524 [v0, v1, v2, v3, v4, .int x, v6, v7, v8] (.int x :: sk) st Q := am_gu.trans rfl
set_option maxRecDepth 100000 in
theorem u8900_1524 {v0 : Value} {v1 : Value} {v2 : Value} {v3 : Value} {v4 : Value} {v5 : Value} {v6 : Value} {v7 : Value} {v8 : Value} {x : Int32} : am_g d X am_m8900 1524 [v0, v1, v2, v3, v4, v5, v6, v7, v8] (.int x :: sk) st Q = (if decide (¬ x = 0) = true then am_g d X am_m8900 1546 [v0, v1, v2, v3, v4, v5, v6, v7, v8] sk st Q else am_g d X am_m8900 1527 [v0, v1, v2, v3, v4, v5, v6, v7, v8] sk st Q) := am_gu.trans rfl
set_option maxRecDepth 100000 in
theorem u8900_1527 {v0 : Value} {v1 : Value} {v2 : Value} {v4 : Value} {v5 : Value} {v6 : Value} {v7 : Value} {v8 : Value} {x : Nat} : am_g d X am_m8900 1527 [v0, v1, v2, .ref x, v4, v5, v6, v7, v8] sk st Q = am_g d X am_m8900 1528 [v0, v1, v2, .ref x, v4, v5, v6, v7, v8] (.ref x :: sk) st Q := am_gu.trans rfl
set_option maxRecDepth 100000 in
theorem u8900_1528 {v0 : Value} {v1 : Value} {v2 : Value} {v3 : Value} {v4 : Value} {v5 : Value} {v6 : Value} {v7 : Value} {v8 : Value} : am_g d X am_m8900 1528 [v0, v1, v2, v3, v4, v5, v6, v7, v8] sk st Q = am_g d X am_m8900 1529 [v0, v1, v2, v3, v4, v5, v6, v7, v8] (.int (am_i 0) :: sk) st Q := am_gu.trans rfl
set_option maxRecDepth 100000 in
theorem u8900_1529 {v0 : Value} {v1 : Value} {v2 : Value} {v3 : Value} {v4 : Value} {v5 : Value} {v6 : Value} {v7 : Value} {v8 : Value} : am_g d X am_m8900 1529 [v0, v1, v2, v3, v4, v5, v6, v7, v8] sk st Q = am_jl 1530 [v0, v1, v2, v3, v4, v5, v6, v7, v8] sk st (fun pc lc sk st => am_g d X am_m8900 pc lc sk st Q) := am_gu.trans rfl
set_option maxRecDepth 100000 in
theorem u8900_1530 {v0 : Value} {v1 : Value} {v2 : Value} {v3 : Value} {v4 : Value} {v5 : Value} {v7 : Value} {v8 : Value} {x : Int32} : am_g d X am_m8900 1530 [v0, v1, v2, v3, v4, v5, .int x, v7, v8] sk st Q = am_g d X am_m8900 1532 [v0, v1, v2, v3, v4, v5, .int x, v7, v8] (.int x :: sk) st Q := am_gu.trans rfl
set_option maxRecDepth 100000 in
theorem u8900_1532 {v0 : Value} {v1 : Value} {v2 : Value} {v3 : Value} {v4 : Value} {v5 : Value} {v6 : Value} {v7 : Value} {v8 : Value} {x : Int32} : am_g d X am_m8900 1532 [v0, v1, v2, v3, v4, v5, v6, v7, v8] (.int x :: sk) st Q = (if decide (x = 0) = true then am_g d X am_m8900 1539 [v0, v1, v2, v3, v4, v5, v6, v7, v8] sk st Q else am_g d X am_m8900 1535 [v0, v1, v2, v3, v4, v5, v6, v7, v8] sk st Q) := am_gu.trans rfl
set_option maxRecDepth 100000 in
theorem u8900_1535 {v0 : Value} {v1 : Value} {v2 : Value} {v3 : Value} {v4 : Value} {v5 : Value} {v6 : Value} {v7 : Value} {v8 : Value} : am_g d X am_m8900 1535 [v0, v1, v2, v3, v4, v5, v6, v7, v8] sk st Q = am_g d X am_m8900 1536 [v0, v1, v2, v3, v4, v5, v6, v7, v8] (.long 1 :: sk) st Q := am_gu.trans rfl
set_option maxRecDepth 100000 in
theorem u8900_1536 {v0 : Value} {v1 : Value} {v2 : Value} {v3 : Value} {v4 : Value} {v5 : Value} {v6 : Value} {v7 : Value} {v8 : Value} : am_g d X am_m8900 1536 [v0, v1, v2, v3, v4, v5, v6, v7, v8] sk st Q = am_g d X am_m8900 1540 [v0, v1, v2, v3, v4, v5, v6, v7, v8] sk st Q := am_gu.trans rfl
set_option maxRecDepth 100000 in
theorem u8900_1539 {v0 : Value} {v1 : Value} {v2 : Value} {v3 : Value} {v4 : Value} {v5 : Value} {v6 : Value} {v7 : Value} {v8 : Value} : am_g d X am_m8900 1539 [v0, v1, v2, v3, v4, v5, v6, v7, v8] sk st Q = am_g d X am_m8900 1540 [v0, v1, v2, v3, v4, v5, v6, v7, v8] (.long 0 :: sk) st Q := am_gu.trans rfl
set_option maxRecDepth 100000 in
theorem u8900_1540 {v0 : Value} {v1 : Value} {v2 : Value} {v3 : Value} {v4 : Value} {v5 : Value} {v6 : Value} {v7 : Value} {v8 : Value} {x : Int64} {y : Int64} : am_g d X am_m8900 1540 [v0, v1, v2, v3, v4, v5, v6, v7, v8] (.long y :: .long x :: sk) st Q = am_g d X am_m8900 1541 [v0, v1, v2, v3, v4, v5, v6, v7, v8] (.int (lg_cmp x y) :: sk) st Q := am_gu.trans rfl
set_option maxRecDepth 100000 in
theorem u8900_1541 {v0 : Value} {v1 : Value} {v2 : Value} {v3 : Value} {v4 : Value} {v5 : Value} {v6 : Value} {v7 : Value} {v8 : Value} {x : Int32} : am_g d X am_m8900 1541 [v0, v1, v2, v3, v4, v5, v6, v7, v8] (.int x :: sk) st Q = (if decide (x = 0) = true then am_g d X am_m8900 1546 [v0, v1, v2, v3, v4, v5, v6, v7, v8] sk st Q else am_g d X am_m8900 1544 [v0, v1, v2, v3, v4, v5, v6, v7, v8] sk st Q) := am_gu.trans rfl
set_option maxRecDepth 100000 in
theorem u8900_1544 {v0 : Value} {v1 : Value} {v2 : Value} {v3 : Value} {v4 : Value} {v5 : Value} {v6 : Value} {v7 : Value} {v8 : Value} : am_g d X am_m8900 1544 [v0, v1, v2, v3, v4, v5, v6, v7, v8] sk st Q = am_g d X am_m8900 1545 [v0, v1, v2, v3, v4, v5, v6, v7, v8] (.int (am_i 0) :: sk) st Q := am_gu.trans rfl
set_option maxRecDepth 100000 in
theorem u8900_1545 {v0 : Value} {v1 : Value} {v2 : Value} {v3 : Value} {v4 : Value} {v5 : Value} {v6 : Value} {v7 : Value} {v8 : Value} {x : Int32} : am_g d X am_m8900 1545 [v0, v1, v2, v3, v4, v5, v6, v7, v8] [.int x] st Q = ((x = 0 ∨ x = 1) ∧ Q (.inl (some (.int x))) st) := am_gu.trans rfl
set_option maxRecDepth 100000 in
theorem u8900_1546 {v0 : Value} {v1 : Value} {v2 : Value} {v3 : Value} {v4 : Value} {v5 : Value} {v6 : Value} {v7 : Value} {v8 : Value} : am_g d X am_m8900 1546 [v0, v1, v2, v3, v4, v5, v6, v7, v8] sk st Q = am_g d X am_m8900 2998 [v0, v1, v2, v3, v4, v5, v6, v7, v8] sk st Q := am_gu.trans rfl
set_option maxRecDepth 100000 in
theorem u8900_1549 {v0 : Value} {v2 : Value} {v3 : Value} {v4 : Value} {v5 : Value} {v6 : Value} {v7 : Value} {v8 : Value} {x : Nat} : am_g d X am_m8900 1549 [v0, .ref x, v2, v3, v4, v5, v6, v7, v8] sk st Q = am_g d X am_m8900 1550 [v0, .ref x, v2, v3, v4, v5, v6, v7, v8] (.ref x :: sk) st Q := am_gu.trans rfl
set_option maxRecDepth 100000 in
theorem u8900_1550 {v0 : Value} {v1 : Value} {v2 : Value} {v3 : Value} {v4 : Value} {v5 : Value} {v6 : Value} {v7 : Value} {v8 : Value} : am_g d X am_m8900 1550 [v0, v1, v2, v3, v4, v5, v6, v7, v8] (.ref o :: sk) st Q = ((am_ob st o 6 ∧ sk.length ≤ 4) ∧ am_Ca X d 6029 [.ref o] st (am_af am_m8900 1550 [v0, v1, v2, v3, v4, v5, v6, v7, v8] sk (fun pc lc sk st => am_g d X am_m8900 pc lc sk st Q) Q)) := am_gu.trans rfl
set_option maxRecDepth 100000 in
theorem u8900_1553 {v0 : Value} {v1 : Value} {v3 : Value} {v4 : Value} {v5 : Value} {v6 : Value} {v7 : Value} {v8 : Value} {x : Nat} : am_g d X am_m8900 1553 [v0, v1, .ref x, v3, v4, v5, v6, v7, v8] sk st Q = am_g d X am_m8900 1554 [v0, v1, .ref x, v3, v4, v5, v6, v7, v8] (.ref x :: sk) st Q := am_gu.trans rfl
set_option maxRecDepth 100000 in
theorem u8900_1554 {v0 : Value} {v1 : Value} {v2 : Value} {v3 : Value} {v4 : Value} {v5 : Value} {v6 : Value} {v7 : Value} {v8 : Value} : am_g d X am_m8900 1554 [v0, v1, v2, v3, v4, v5, v6, v7, v8] (.ref o :: sk) st Q = ((am_ob st o 7 ∧ sk.length ≤ 4) ∧ am_Ca X d 7093 [.ref o] st (am_af am_m8900 1554 [v0, v1, v2, v3, v4, v5, v6, v7, v8] sk (fun pc lc sk st => am_g d X am_m8900 pc lc sk st Q) Q)) := am_gu.trans rfl
set_option maxRecDepth 100000 in
theorem u8900_1557 {v0 : Value} {v1 : Value} {v2 : Value} {v3 : Value} {v4 : Value} {v5 : Value} {v6 : Value} {v7 : Value} {v8 : Value} {x : Int32} {y : Int32} : am_g d X am_m8900 1557 [v0, v1, v2, v3, v4, v5, v6, v7, v8] (.int y :: .int x :: sk) st Q = (if decide (x = y) = true then am_g d X am_m8900 2998 [v0, v1, v2, v3, v4, v5, v6, v7, v8] sk st Q else am_g d X am_m8900 1560 [v0, v1, v2, v3, v4, v5, v6, v7, v8] sk st Q) := am_gu.trans rfl
set_option maxRecDepth 100000 in
theorem u8900_1560 {v0 : Value} {v1 : Value} {v2 : Value} {v3 : Value} {v4 : Value} {v5 : Value} {v6 : Value} {v7 : Value} {v8 : Value} : am_g d X am_m8900 1560 [v0, v1, v2, v3, v4, v5, v6, v7, v8] sk st Q = am_g d X am_m8900 1561 [v0, v1, v2, v3, v4, v5, v6, v7, v8] (.int (am_i 0) :: sk) st Q := am_gu.trans rfl
set_option maxRecDepth 100000 in
theorem u8900_1561 {v0 : Value} {v1 : Value} {v2 : Value} {v3 : Value} {v4 : Value} {v5 : Value} {v6 : Value} {v7 : Value} {v8 : Value} {x : Int32} : am_g d X am_m8900 1561 [v0, v1, v2, v3, v4, v5, v6, v7, v8] [.int x] st Q = ((x = 0 ∨ x = 1) ∧ Q (.inl (some (.int x))) st) := am_gu.trans rfl
set_option maxRecDepth 100000 in
theorem u8900_1562 {v0 : Value} {v2 : Value} {v3 : Value} {v4 : Value} {v5 : Value} {v6 : Value} {v7 : Value} {v8 : Value} {x : Nat} : am_g d X am_m8900 1562 [v0, .ref x, v2, v3, v4, v5, v6, v7, v8] sk st Q = am_g d X am_m8900 1563 [v0, .ref x, v2, v3, v4, v5, v6, v7, v8] (.ref x :: sk) st Q := am_gu.trans rfl
set_option maxRecDepth 100000 in
theorem u8900_1563 {v1 : Value} {v2 : Value} {v3 : Value} {v4 : Value} {v5 : Value} {v6 : Value} {v7 : Value} {v8 : Value} : am_g d X am_m8900 1563 [.retAddr 0, v1, v2, v3, v4, v5, v6, v7, v8] sk st Q = am_g d X am_m8900 1564 [.retAddr 0, v1, v2, v3, v4, v5, v6, v7, v8] (.retAddr 0 :: sk) st Q := am_gu.trans rfl
set_option maxRecDepth 100000 in
theorem u8900_1564 {v0 : Value} {v1 : Value} {v2 : Value} {v3 : Value} {v5 : Value} {v6 : Value} {v7 : Value} {v8 : Value} {x : Int32} : am_g d X am_m8900 1564 [v0, v1, v2, v3, .int x, v5, v6, v7, v8] sk st Q = am_g d X am_m8900 1566 [v0, v1, v2, v3, .int x, v5, v6, v7, v8] (.int x :: sk) st Q := am_gu.trans rfl
set_option maxRecDepth 100000 in
theorem u8900_1566 {v0 : Value} {v1 : Value} {v2 : Value} {v3 : Value} {v4 : Value} {v5 : Value} {v6 : Value} {v7 : Value} {v8 : Value} : am_g d X am_m8900 1566 [v0, v1, v2, v3, v4, v5, v6, v7, v8] sk st Q = am_g d X am_m8900 1567 [v0, v1, v2, v3, v4, v5, v6, v7, v8] (.int (am_i 1) :: sk) st Q := am_gu.trans rfl
set_option maxRecDepth 100000 in
theorem u8900_1567 {v0 : Value} {v1 : Value} {v2 : Value} {v3 : Value} {v4 : Value} {v5 : Value} {v6 : Value} {v7 : Value} {v8 : Value} {x : Int32} {y : Int32} : am_g d X am_m8900 1567 [v0, v1, v2, v3, v4, v5, v6, v7, v8] (.int y :: .int x :: sk) st Q = am_g d X am_m8900 1568 [v0, v1, v2, v3, v4, v5, v6, v7, v8] (.int (x + y) :: sk) st Q := am_gu.trans rfl
set_option maxRecDepth 100000 in
theorem u8900_1568 {v0 : Value} {v1 : Value} {v2 : Value} {v3 : Value} {v4 : Value} {v5 : Value} {v6 : Value} {v7 : Value} {v8 : Value} : am_g d X am_m8900 1568 [v0, v1, v2, v3, v4, v5, v6, v7, v8] sk st Q = am_xl (X.1, X.2.1, d) am_m8900 1569 [v0, v1, v2, v3, v4, v5, v6, v7, v8] sk st (fun pc lc sk st => am_g d X am_m8900 pc lc sk st Q) := am_gu.trans rfl
set_option maxRecDepth 100000 in
theorem u8900_1569 {v1 : Value} {v2 : Value} {v3 : Value} {v4 : Value} {v5 : Value} {v6 : Value} {v7 : Value} {v8 : Value} : am_g d X am_m8900 1569 [.retAddr 0, v1, v2, v3, v4, v5, v6, v7, v8] sk st Q = am_g d X am_m8900 1570 [.retAddr 0, v1, v2, v3, v4, v5, v6, v7, v8] (.retAddr 0 :: sk) st Q := am_gu.trans rfl
set_option maxRecDepth 100000 in
theorem u8900_1570 {v0 : Value} {v1 : Value} {v2 : Value} {v3 : Value} {v5 : Value} {v6 : Value} {v7 : Value} {v8 : Value} {x : Int32} : am_g d X am_m8900 1570 [v0, v1, v2, v3, .int x, v5, v6, v7, v8] sk st Q = am_g d X am_m8900 1572 [v0, v1, v2, v3, .int x, v5, v6, v7, v8] (.int x :: sk) st Q := am_gu.trans rfl
set_option maxRecDepth 100000 in
theorem u8900_1572 {v0 : Value} {v1 : Value} {v2 : Value} {v3 : Value} {v4 : Value} {v5 : Value} {v6 : Value} {v7 : Value} {v8 : Value} : am_g d X am_m8900 1572 [v0, v1, v2, v3, v4, v5, v6, v7, v8] sk st Q = am_g d X am_m8900 1573 [v0, v1, v2, v3, v4, v5, v6, v7, v8] (.int (am_i 2) :: sk) st Q := am_gu.trans rfl
set_option maxRecDepth 100000 in
theorem u8900_1573 {v0 : Value} {v1 : Value} {v2 : Value} {v3 : Value} {v4 : Value} {v5 : Value} {v6 : Value} {v7 : Value} {v8 : Value} {x : Int32} {y : Int32} : am_g d X am_m8900 1573 [v0, v1, v2, v3, v4, v5, v6, v7, v8] (.int y :: .int x :: sk) st Q = am_g d X am_m8900 1574 [v0, v1, v2, v3, v4, v5, v6, v7, v8] (.int (x + y) :: sk) st Q := am_gu.trans rfl
set_option maxRecDepth 100000 in
theorem u8900_1574 {v0 : Value} {v1 : Value} {v2 : Value} {v3 : Value} {v4 : Value} {v5 : Value} {v6 : Value} {v7 : Value} {v8 : Value} : am_g d X am_m8900 1574 [v0, v1, v2, v3, v4, v5, v6, v7, v8] sk st Q = am_xl (X.1, X.2.1, d) am_m8900 1575 [v0, v1, v2, v3, v4, v5, v6, v7, v8] sk st (fun pc lc sk st => am_g d X am_m8900 pc lc sk st Q) := am_gu.trans rfl
set_option maxRecDepth 100000 in
theorem u8900_1575 {v1 : Value} {v2 : Value} {v3 : Value} {v4 : Value} {v5 : Value} {v6 : Value} {v7 : Value} {v8 : Value} : am_g d X am_m8900 1575 [.retAddr 0, v1, v2, v3, v4, v5, v6, v7, v8] sk st Q = am_g d X am_m8900 1576 [.retAddr 0, v1, v2, v3, v4, v5, v6, v7, v8] (.retAddr 0 :: sk) st Q := am_gu.trans rfl
set_option maxRecDepth 100000 in
theorem u8900_1576 {v0 : Value} {v1 : Value} {v2 : Value} {v3 : Value} {v5 : Value} {v6 : Value} {v7 : Value} {v8 : Value} {x : Int32} : am_g d X am_m8900 1576 [v0, v1, v2, v3, .int x, v5, v6, v7, v8] sk st Q = am_g d X am_m8900 1578 [v0, v1, v2, v3, .int x, v5, v6, v7, v8] (.int x :: sk) st Q := am_gu.trans rfl
set_option maxRecDepth 100000 in
theorem u8900_1578 {v0 : Value} {v1 : Value} {v2 : Value} {v3 : Value} {v4 : Value} {v5 : Value} {v6 : Value} {v7 : Value} {v8 : Value} : am_g d X am_m8900 1578 [v0, v1, v2, v3, v4, v5, v6, v7, v8] sk st Q = am_g d X am_m8900 1579 [v0, v1, v2, v3, v4, v5, v6, v7, v8] (.int (am_i 3) :: sk) st Q := am_gu.trans rfl
set_option maxRecDepth 100000 in
theorem u8900_1579 {v0 : Value} {v1 : Value} {v2 : Value} {v3 : Value} {v4 : Value} {v5 : Value} {v6 : Value} {v7 : Value} {v8 : Value} {x : Int32} {y : Int32} : am_g d X am_m8900 1579 [v0, v1, v2, v3, v4, v5, v6, v7, v8] (.int y :: .int x :: sk) st Q = am_g d X am_m8900 1580 [v0, v1, v2, v3, v4, v5, v6, v7, v8] (.int (x + y) :: sk) st Q := am_gu.trans rfl
set_option maxRecDepth 100000 in
theorem u8900_1580 {v0 : Value} {v1 : Value} {v2 : Value} {v3 : Value} {v4 : Value} {v5 : Value} {v6 : Value} {v7 : Value} {v8 : Value} : am_g d X am_m8900 1580 [v0, v1, v2, v3, v4, v5, v6, v7, v8] sk st Q = am_xl (X.1, X.2.1, d) am_m8900 1581 [v0, v1, v2, v3, v4, v5, v6, v7, v8] sk st (fun pc lc sk st => am_g d X am_m8900 pc lc sk st Q) := am_gu.trans rfl
set_option maxRecDepth 100000 in
theorem u8900_1581 {v0 : Value} {v1 : Value} {v2 : Value} {v4 : Value} {v5 : Value} {v6 : Value} {v7 : Value} {v8 : Value} {x : Nat} : am_g d X am_m8900 1581 [v0, v1, v2, .ref x, v4, v5, v6, v7, v8] sk st Q = am_g d X am_m8900 1582 [v0, v1, v2, .ref x, v4, v5, v6, v7, v8] (.ref x :: sk) st Q := am_gu.trans rfl
set_option maxRecDepth 100000 in
theorem u8900_1582 {a0 : Value} {a1 : Value} {a2 : Value} {a3 : Value} {a4 : Value} {v0 : Value} {v1 : Value} {v2 : Value} {v3 : Value} {v4 : Value} {v5 : Value} {v6 : Value} {v7 : Value} {v8 : Value} : am_g d X am_m8900 1582 [v0, v1, v2, v3, v4, v5, v6, v7, v8] (a4 :: a3 :: a2 :: a1 :: a0 :: sk) st Q = (sk.length ≤ 4 ∧ am_Ca X d 8021 [a0, a1, a2, a3, a4] st (am_af am_m8900 1582 [v0, v1, v2, v3, v4, v5, v6, v7, v8] sk (fun pc lc sk st => am_g d X am_m8900 pc lc sk st Q) Q)) := am_gu.trans (propext ⟨fun h => ⟨h.1.2, h.2⟩, fun h => ⟨⟨Nat.le_add_left _ _, h.1⟩, h.2⟩⟩)
set_option maxRecDepth 100000 in
theorem u8900_1585 {v0 : Value} {v1 : Value} {v2 : Value} {v3 : Value} {v4 : Value} {v5 : Value} {v6 : Value} {v7 : Value} {v8 : Value} {x : Int32} : am_g d X am_m8900 1585 [v0, v1, v2, v3, v4, v5, v6, v7, v8] (.int x :: sk) st Q = am_g d X am_m8900 1587 [v0, v1, v2, v3, am_kc v4, .int x, v6, v7, v8] sk st Q := am_gu.trans (congrArg (fun l => am_g d X am_m8900 1587 (List.set l 5 (.int x)) sk st Q) (kl_5 (l := [v5, v6, v7, v8])))
set_option maxRecDepth 100000 in
theorem u8900_1587 {v0 : Value} {v1 : Value} {v3 : Value} {v4 : Value} {v5 : Value} {v6 : Value} {v7 : Value} {v8 : Value} {x : Nat} : am_g d X am_m8900 1587 [v0, v1, .ref x, v3, v4, v5, v6, v7, v8] sk st Q = am_g d X am_m8900 1588 [v0, v1, .ref x, v3, v4, v5, v6, v7, v8] (.ref x :: sk) st Q := am_gu.trans rfl
set_option maxRecDepth 100000 in
theorem u8900_1588 {v1 : Value} {v2 : Value} {v3 : Value} {v4 : Value} {v5 : Value} {v6 : Value} {v7 : Value} {v8 : Value} : am_g d X am_m8900 1588 [.retAddr 0, v1, v2, v3, v4, v5, v6, v7, v8] sk st Q = am_g d X am_m8900 1589 [.retAddr 0, v1, v2, v3, v4, v5, v6, v7, v8] (.retAddr 0 :: sk) st Q := am_gu.trans rfl
set_option maxRecDepth 100000 in
theorem u8900_1589 {v0 : Value} {v1 : Value} {v2 : Value} {v3 : Value} {v5 : Value} {v6 : Value} {v7 : Value} {v8 : Value} {x : Int32} : am_g d X am_m8900 1589 [v0, v1, v2, v3, .int x, v5, v6, v7, v8] sk st Q = am_g d X am_m8900 1591 [v0, v1, v2, v3, .int x, v5, v6, v7, v8] (.int x :: sk) st Q := am_gu.trans rfl
set_option maxRecDepth 100000 in
theorem u8900_1591 {v0 : Value} {v1 : Value} {v2 : Value} {v3 : Value} {v4 : Value} {v5 : Value} {v6 : Value} {v7 : Value} {v8 : Value} : am_g d X am_m8900 1591 [v0, v1, v2, v3, v4, v5, v6, v7, v8] sk st Q = am_g d X am_m8900 1592 [v0, v1, v2, v3, v4, v5, v6, v7, v8] (.int (am_i 1) :: sk) st Q := am_gu.trans rfl
set_option maxRecDepth 100000 in
theorem u8900_1592 {v0 : Value} {v1 : Value} {v2 : Value} {v3 : Value} {v4 : Value} {v5 : Value} {v6 : Value} {v7 : Value} {v8 : Value} {x : Int32} {y : Int32} : am_g d X am_m8900 1592 [v0, v1, v2, v3, v4, v5, v6, v7, v8] (.int y :: .int x :: sk) st Q = am_g d X am_m8900 1593 [v0, v1, v2, v3, v4, v5, v6, v7, v8] (.int (x + y) :: sk) st Q := am_gu.trans rfl
set_option maxRecDepth 100000 in
theorem u8900_1593 {v0 : Value} {v1 : Value} {v2 : Value} {v3 : Value} {v4 : Value} {v5 : Value} {v6 : Value} {v7 : Value} {v8 : Value} : am_g d X am_m8900 1593 [v0, v1, v2, v3, v4, v5, v6, v7, v8] sk st Q = am_xl (X.1, X.2.1, d) am_m8900 1594 [v0, v1, v2, v3, v4, v5, v6, v7, v8] sk st (fun pc lc sk st => am_g d X am_m8900 pc lc sk st Q) := am_gu.trans rfl
set_option maxRecDepth 100000 in
theorem u8900_1594 {v1 : Value} {v2 : Value} {v3 : Value} {v4 : Value} {v5 : Value} {v6 : Value} {v7 : Value} {v8 : Value} : am_g d X am_m8900 1594 [.retAddr 0, v1, v2, v3, v4, v5, v6, v7, v8] sk st Q = am_g d X am_m8900 1595 [.retAddr 0, v1, v2, v3, v4, v5, v6, v7, v8] (.retAddr 0 :: sk) st Q := am_gu.trans rfl
set_option maxRecDepth 100000 in
theorem u8900_1595 {v0 : Value} {v1 : Value} {v2 : Value} {v3 : Value} {v5 : Value} {v6 : Value} {v7 : Value} {v8 : Value} {x : Int32} : am_g d X am_m8900 1595 [v0, v1, v2, v3, .int x, v5, v6, v7, v8] sk st Q = am_g d X am_m8900 1597 [v0, v1, v2, v3, .int x, v5, v6, v7, v8] (.int x :: sk) st Q := am_gu.trans rfl
set_option maxRecDepth 100000 in
theorem u8900_1597 {v0 : Value} {v1 : Value} {v2 : Value} {v3 : Value} {v4 : Value} {v5 : Value} {v6 : Value} {v7 : Value} {v8 : Value} : am_g d X am_m8900 1597 [v0, v1, v2, v3, v4, v5, v6, v7, v8] sk st Q = am_g d X am_m8900 1598 [v0, v1, v2, v3, v4, v5, v6, v7, v8] (.int (am_i 2) :: sk) st Q := am_gu.trans rfl
set_option maxRecDepth 100000 in
theorem u8900_1598 {v0 : Value} {v1 : Value} {v2 : Value} {v3 : Value} {v4 : Value} {v5 : Value} {v6 : Value} {v7 : Value} {v8 : Value} {x : Int32} {y : Int32} : am_g d X am_m8900 1598 [v0, v1, v2, v3, v4, v5, v6, v7, v8] (.int y :: .int x :: sk) st Q = am_g d X am_m8900 1599 [v0, v1, v2, v3, v4, v5, v6, v7, v8] (.int (x + y) :: sk) st Q := am_gu.trans rfl
set_option maxRecDepth 100000 in
theorem u8900_1599 {v0 : Value} {v1 : Value} {v2 : Value} {v3 : Value} {v4 : Value} {v5 : Value} {v6 : Value} {v7 : Value} {v8 : Value} : am_g d X am_m8900 1599 [v0, v1, v2, v3, v4, v5, v6, v7, v8] sk st Q = am_xl (X.1, X.2.1, d) am_m8900 1600 [v0, v1, v2, v3, v4, v5, v6, v7, v8] sk st (fun pc lc sk st => am_g d X am_m8900 pc lc sk st Q) := am_gu.trans rfl
set_option maxRecDepth 100000 in
theorem u8900_1600 {v1 : Value} {v2 : Value} {v3 : Value} {v4 : Value} {v5 : Value} {v6 : Value} {v7 : Value} {v8 : Value} : am_g d X am_m8900 1600 [.retAddr 0, v1, v2, v3, v4, v5, v6, v7, v8] sk st Q = am_g d X am_m8900 1601 [.retAddr 0, v1, v2, v3, v4, v5, v6, v7, v8] (.retAddr 0 :: sk) st Q := am_gu.trans rfl
set_option maxRecDepth 100000 in
theorem u8900_1601 {v0 : Value} {v1 : Value} {v2 : Value} {v3 : Value} {v5 : Value} {v6 : Value} {v7 : Value} {v8 : Value} {x : Int32} : am_g d X am_m8900 1601 [v0, v1, v2, v3, .int x, v5, v6, v7, v8] sk st Q = am_g d X am_m8900 1603 [v0, v1, v2, v3, .int x, v5, v6, v7, v8] (.int x :: sk) st Q := am_gu.trans rfl
set_option maxRecDepth 100000 in
theorem u8900_1603 {v0 : Value} {v1 : Value} {v2 : Value} {v3 : Value} {v4 : Value} {v5 : Value} {v6 : Value} {v7 : Value} {v8 : Value} : am_g d X am_m8900 1603 [v0, v1, v2, v3, v4, v5, v6, v7, v8] sk st Q = am_g d X am_m8900 1604 [v0, v1, v2, v3, v4, v5, v6, v7, v8] (.int (am_i 3) :: sk) st Q := am_gu.trans rfl
set_option maxRecDepth 100000 in
theorem u8900_1604 {v0 : Value} {v1 : Value} {v2 : Value} {v3 : Value} {v4 : Value} {v5 : Value} {v6 : Value} {v7 : Value} {v8 : Value} {x : Int32} {y : Int32} : am_g d X am_m8900 1604 [v0, v1, v2, v3, v4, v5, v6, v7, v8] (.int y :: .int x :: sk) st Q = am_g d X am_m8900 1605 [v0, v1, v2, v3, v4, v5, v6, v7, v8] (.int (x + y) :: sk) st Q := am_gu.trans rfl
set_option maxRecDepth 100000 in
theorem u8900_1605 {v0 : Value} {v1 : Value} {v2 : Value} {v3 : Value} {v4 : Value} {v5 : Value} {v6 : Value} {v7 : Value} {v8 : Value} : am_g d X am_m8900 1605 [v0, v1, v2, v3, v4, v5, v6, v7, v8] sk st Q = am_xl (X.1, X.2.1, d) am_m8900 1606 [v0, v1, v2, v3, v4, v5, v6, v7, v8] sk st (fun pc lc sk st => am_g d X am_m8900 pc lc sk st Q) := am_gu.trans rfl
set_option maxRecDepth 100000 in
theorem u8900_1606 {a0 : Value} {a1 : Value} {a2 : Value} {v0 : Value} {v1 : Value} {v2 : Value} {v3 : Value} {v4 : Value} {v5 : Value} {v6 : Value} {v7 : Value} {v8 : Value} : am_g d X am_m8900 1606 [v0, v1, v2, v3, v4, v5, v6, v7, v8] (a2 :: a1 :: a0 :: .ref o :: sk) st Q = ((am_ob st o 7 ∧ sk.length ≤ 4) ∧ am_Ca X d 7094 [.ref o, a0, a1, a2] st (am_af am_m8900 1606 [v0, v1, v2, v3, v4, v5, v6, v7, v8] sk (fun pc lc sk st => am_g d X am_m8900 pc lc sk st Q) Q)) := am_gu.trans rfl
set_option maxRecDepth 100000 in
theorem u8900_1609 {v0 : Value} {v1 : Value} {v2 : Value} {v3 : Value} {v4 : Value} {v5 : Value} {v6 : Value} {v7 : Value} {v8 : Value} {x : Int32} : am_g d X am_m8900 1609 [v0, v1, v2, v3, v4, v5, v6, v7, v8] (.int x :: sk) st Q = am_g d X am_m8900 1611 [v0, v1, v2, v3, v4, am_kc v5, .int x, v7, v8] sk st Q := am_gu.trans (congrArg (fun l => am_g d X am_m8900 1611 (List.set l 6 (.int x)) sk st Q) (kl_6 (l := [v6, v7, v8])))
set_option maxRecDepth 100000 in
theorem u8900_1611 {v0 : Value} {v1 : Value} {v3 : Value} {v4 : Value} {v5 : Value} {v6 : Value} {v7 : Value} {v8 : Value} {x : Nat} : am_g d X am_m8900 1611 [v0, v1, .ref x, v3, v4, v5, v6, v7, v8] sk st Q = am_g d X am_m8900 1612 [v0, v1, .ref x, v3, v4, v5, v6, v7, v8] (.ref x :: sk) st Q := am_gu.trans rfl
set_option maxRecDepth 100000 in
theorem u8900_1612 {v0 : Value} {v1 : Value} {v2 : Value} {v3 : Value} {v4 : Value} {v5 : Value} {v6 : Value} {v7 : Value} {v8 : Value} : am_g d X am_m8900 1612 [v0, v1, v2, v3, v4, v5, v6, v7, v8] (.ref o :: sk) st Q = ((am_ob st o 7 ∧ sk.length ≤ 4) ∧ am_Ca X d 7002 [.ref o] st (am_af am_m8900 1612 [v0, v1, v2, v3, v4, v5, v6, v7, v8] sk (fun pc lc sk st => am_g d X am_m8900 pc lc sk st Q) Q)) := am_gu.trans rfl
set_option maxRecDepth 100000 in
theorem u8900_1615 {v0 : Value} {v1 : Value} {v2 : Value} {v3 : Value} {v4 : Value} {v6 : Value} {v7 : Value} {v8 : Value} {x : Int32} : am_g d X am_m8900 1615 [v0, v1, v2, v3, v4, .int x, v6, v7, v8] sk st Q = am_g d X am_m8900 1617 [v0, v1, v2, v3, v4, .int x, v6, v7, v8] (.int x :: sk) st Q := am_gu.trans rfl
set_option maxRecDepth 100000 in
theorem u8900_1617 {v0 : Value} {v1 : Value} {v2 : Value} {v3 : Value} {v4 : Value} {v5 : Value} {v6 : Value} {v7 : Value} {v8 : Value} {x : Int32} {y : Int32} : am_g d X am_m8900 1617 [v0, v1, v2, v3, v4, v5, v6, v7, v8] (.int y :: .int x :: sk) st Q = (if decide (x = y) = true then am_g d X am_m8900 1622 [v0, v1, v2, v3, v4, v5, v6, v7, v8] sk st Q else am_g d X am_m8900 1620 [v0, v1, v2, v3, v4, v5, v6, v7, v8] sk st Q) := am_gu.trans rfl
set_option maxRecDepth 100000 in
theorem u8900_1620 {v0 : Value} {v1 : Value} {v2 : Value} {v3 : Value} {v4 : Value} {v5 : Value} {v6 : Value} {v7 : Value} {v8 : Value} : am_g d X am_m8900 1620 [v0, v1, v2, v3, v4, v5, v6, v7, v8] sk st Q = am_g d X am_m8900 1621 [v0, v1, v2, v3, v4, v5, v6, v7, v8] (.int (am_i 0) :: sk) st Q := am_gu.trans rfl
set_option maxRecDepth 100000 in
theorem u8900_1621 {v0 : Value} {v1 : Value} {v2 : Value} {v3 : Value} {v4 : Value} {v5 : Value} {v6 : Value} {v7 : Value} {v8 : Value} {x : Int32} : am_g d X am_m8900 1621 [v0, v1, v2, v3, v4, v5, v6, v7, v8] [.int x] st Q = ((x = 0 ∨ x = 1) ∧ Q (.inl (some (.int x))) st) := am_gu.trans rfl
set_option maxRecDepth 100000 in
theorem u8900_1622 {v0 : Value} {v1 : Value} {v2 : Value} {v3 : Value} {v4 : Value} {v6 : Value} {v7 : Value} {v8 : Value} {x : Int32} : am_g d X am_m8900 1622 [v0, v1, v2, v3, v4, .int x, v6, v7, v8] sk st Q = am_g d X am_m8900 1624 [v0, v1, v2, v3, v4, .int x, v6, v7, v8] (.int x :: sk) st Q := am_gu.trans rfl
set_option maxRecDepth 100000 in
theorem u8900_1624 {v0 : Value} {v1 : Value} {v2 : Value} {v3 : Value} {v4 : Value} {v5 : Value} {v6 : Value} {v7 : Value} {v8 : Value} {x : Int32} : am_g d X am_m8900 1624 [v0, v1, v2, v3, v4, v5, v6, v7, v8] (.int x :: sk) st Q = (if decide (¬ x = 0) = true then am_g d X am_m8900 1639 [v0, v1, v2, v3, v4, v5, v6, v7, v8] sk st Q else am_g d X am_m8900 1627 [v0, v1, v2, v3, v4, v5, v6, v7, v8] sk st Q) := am_gu.trans rfl
set_option maxRecDepth 100000 in
theorem u8900_1627 {v0 : Value} {v1 : Value} {v2 : Value} {v4 : Value} {v5 : Value} {v6 : Value} {v7 : Value} {v8 : Value} {x : Nat} : am_g d X am_m8900 1627 [v0, v1, v2, .ref x, v4, v5, v6, v7, v8] sk st Q = am_g d X am_m8900 1628 [v0, v1, v2, .ref x, v4, v5, v6, v7, v8] (.ref x :: sk) st Q := am_gu.trans rfl
set_option maxRecDepth 100000 in
theorem u8900_1628 {v0 : Value} {v1 : Value} {v2 : Value} {v3 : Value} {v4 : Value} {v5 : Value} {v6 : Value} {v7 : Value} {v8 : Value} : am_g d X am_m8900 1628 [v0, v1, v2, v3, v4, v5, v6, v7, v8] sk st Q = am_g d X am_m8900 1629 [v0, v1, v2, v3, v4, v5, v6, v7, v8] (.int (am_i 0) :: sk) st Q := am_gu.trans rfl
set_option maxRecDepth 100000 in
theorem u8900_1629 {v0 : Value} {v1 : Value} {v2 : Value} {v3 : Value} {v4 : Value} {v5 : Value} {v6 : Value} {v7 : Value} {v8 : Value} : am_g d X am_m8900 1629 [v0, v1, v2, v3, v4, v5, v6, v7, v8] sk st Q = am_jl 1630 [v0, v1, v2, v3, v4, v5, v6, v7, v8] sk st (fun pc lc sk st => am_g d X am_m8900 pc lc sk st Q) := am_gu.trans rfl
set_option maxRecDepth 100000 in
theorem u8900_1630 {v0 : Value} {v1 : Value} {v2 : Value} {v3 : Value} {v4 : Value} {v5 : Value} {v7 : Value} {v8 : Value} {x : Int32} : am_g d X am_m8900 1630 [v0, v1, v2, v3, v4, v5, .int x, v7, v8] sk st Q = am_g d X am_m8900 1632 [v0, v1, v2, v3, v4, v5, .int x, v7, v8] (.int x :: sk) st Q := am_gu.trans rfl
end UU
