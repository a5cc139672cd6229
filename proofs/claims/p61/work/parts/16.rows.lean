/-! each instruction as a rewriting row -/
section UU
variable {d o n cl sl : Nat} {X : am_X} {sk : List Value} {st : am_S} {Q : am_Q} {sh : Nat → am_D} {F A : Nat → Nat → Int32} {L : Nat → Nat → Int64}
set_option maxRecDepth 100000 in
theorem of_5001 : am_of 5001 = some am_m5001 := rfl
theorem c5001 {z} {P : am_Q} : am_Ca X (d + 1) 5001 [.ref z] st P = am_g d X am_m5001 0 [.ref z] [] st P := am_cg of_5001 (by show 1 ≤ 1; decide)
theorem hd_5001 : am_hd am_m5001 = [] := rfl
theorem u5001_0 {x : Nat} : am_g d X am_m5001 0 [.ref x] sk st Q = am_g d X am_m5001 1 [.ref x] (.ref x :: sk) st Q := am_gu.trans rfl
theorem u5001_1 {v0 : Value} : am_g d X am_m5001 1 [v0] (.ref o :: sk) st Q = (sk.length ≤ 4 ∧ am_g d X am_m5001 4 [v0] sk st Q) := am_gu.trans rfl
theorem u5001_4 {x : Nat} : am_g d X am_m5001 4 [.ref x] sk st Q = am_g d X am_m5001 5 [.ref x] (.ref x :: sk) st Q := am_gu.trans rfl
theorem u5001_5 {v0 : Value} : am_g d X am_m5001 5 [v0] sk st Q = am_g d X am_m5001 6 [v0] (.int (am_i 1) :: sk) st Q := am_gu.trans rfl
theorem u5001_6 {v0 : Value} : am_g d X am_m5001 6 [v0] sk st Q = am_pt 160 9 [v0] sk st (fun pc lc sk st => am_g d X am_m5001 pc lc sk st Q) := am_gu.trans rfl
theorem u5001_9 {x : Nat} : am_g d X am_m5001 9 [.ref x] sk st Q = am_g d X am_m5001 10 [.ref x] (.ref x :: sk) st Q := am_gu.trans rfl
theorem u5001_10 {v0 : Value} : am_g d X am_m5001 10 [v0] sk st Q = am_g d X am_m5001 12 [v0] (.int (am_i 60) :: sk) st Q := am_gu.trans rfl
theorem u5001_12 {v0 : Value} : am_g d X am_m5001 12 [v0] sk st Q = am_na 1 none 14 [v0] sk st (fun pc lc sk st => am_g d X am_m5001 pc lc sk st Q) := am_gu.trans rfl
theorem u5001_14 {v0 : Value} : am_g d X am_m5001 14 [v0] sk st Q = am_pt 161 17 [v0] sk st (fun pc lc sk st => am_g d X am_m5001 pc lc sk st Q) := am_gu.trans rfl
theorem u5001_17 {x : Nat} : am_g d X am_m5001 17 [.ref x] sk st Q = am_g d X am_m5001 18 [.ref x] (.ref x :: sk) st Q := am_gu.trans rfl
theorem u5001_18 {v0 : Value} : am_g d X am_m5001 18 [v0] sk st Q = am_g d X am_m5001 20 [v0] (.int (am_i 60) :: sk) st Q := am_gu.trans rfl
theorem u5001_20 {v0 : Value} : am_g d X am_m5001 20 [v0] sk st Q = am_na 1 none 22 [v0] sk st (fun pc lc sk st => am_g d X am_m5001 pc lc sk st Q) := am_gu.trans rfl
theorem u5001_22 {v0 : Value} : am_g d X am_m5001 22 [v0] sk st Q = am_pt 162 25 [v0] sk st (fun pc lc sk st => am_g d X am_m5001 pc lc sk st Q) := am_gu.trans rfl
theorem u5001_25 {x : Nat} : am_g d X am_m5001 25 [.ref x] sk st Q = am_g d X am_m5001 26 [.ref x] (.ref x :: sk) st Q := am_gu.trans rfl
theorem u5001_26 {v0 : Value} : am_g d X am_m5001 26 [v0] sk st Q = am_g d X am_m5001 29 [v0] (.int (am_i 1440) :: sk) st Q := am_gu.trans rfl
theorem u5001_29 {v0 : Value} : am_g d X am_m5001 29 [v0] sk st Q = am_na 1 none 31 [v0] sk st (fun pc lc sk st => am_g d X am_m5001 pc lc sk st Q) := am_gu.trans rfl
theorem u5001_31 {v0 : Value} : am_g d X am_m5001 31 [v0] sk st Q = am_pt 163 34 [v0] sk st (fun pc lc sk st => am_g d X am_m5001 pc lc sk st Q) := am_gu.trans rfl
theorem u5001_34 {x : Nat} : am_g d X am_m5001 34 [.ref x] sk st Q = am_g d X am_m5001 35 [.ref x] (.ref x :: sk) st Q := am_gu.trans rfl
theorem u5001_35 {v0 : Value} : am_g d X am_m5001 35 [v0] sk st Q = am_g d X am_m5001 37 [v0] (.int (am_i 6) :: sk) st Q := am_gu.trans rfl
theorem u5001_37 {v0 : Value} : am_g d X am_m5001 37 [v0] sk st Q = am_na 1 none 39 [v0] sk st (fun pc lc sk st => am_g d X am_m5001 pc lc sk st Q) := am_gu.trans rfl
theorem u5001_39 {v0 : Value} : am_g d X am_m5001 39 [v0] sk st Q = am_pt 164 42 [v0] sk st (fun pc lc sk st => am_g d X am_m5001 pc lc sk st Q) := am_gu.trans rfl
theorem u5001_42 {x : Nat} : am_g d X am_m5001 42 [.ref x] sk st Q = am_g d X am_m5001 43 [.ref x] (.ref x :: sk) st Q := am_gu.trans rfl
theorem u5001_43 {v0 : Value} : am_g d X am_m5001 43 [v0] sk st Q = am_g d X am_m5001 44 [v0] (.int (am_i 0) :: sk) st Q := am_gu.trans rfl
theorem u5001_44 {v0 : Value} : am_g d X am_m5001 44 [v0] sk st Q = am_pt 165 47 [v0] sk st (fun pc lc sk st => am_g d X am_m5001 pc lc sk st Q) := am_gu.trans rfl
theorem u5001_47 {x : Nat} : am_g d X am_m5001 47 [.ref x] sk st Q = am_g d X am_m5001 48 [.ref x] (.ref x :: sk) st Q := am_gu.trans rfl
theorem u5001_48 {v0 : Value} : am_g d X am_m5001 48 [v0] sk st Q = am_g d X am_m5001 50 [v0] (.int (am_i 24) :: sk) st Q := am_gu.trans rfl
theorem u5001_50 {v0 : Value} : am_g d X am_m5001 50 [v0] sk st Q = am_na 1 none 52 [v0] sk st (fun pc lc sk st => am_g d X am_m5001 pc lc sk st Q) := am_gu.trans rfl
theorem u5001_52 {v0 : Value} : am_g d X am_m5001 52 [v0] sk st Q = am_pt 166 55 [v0] sk st (fun pc lc sk st => am_g d X am_m5001 pc lc sk st Q) := am_gu.trans rfl
theorem u5001_55 {x : Nat} : am_g d X am_m5001 55 [.ref x] sk st Q = am_g d X am_m5001 56 [.ref x] (.ref x :: sk) st Q := am_gu.trans rfl
theorem u5001_56 {v0 : Value} : am_g d X am_m5001 56 [v0] sk st Q = am_g d X am_m5001 58 [v0] (.int (am_i 24) :: sk) st Q := am_gu.trans rfl
theorem u5001_58 {v0 : Value} : am_g d X am_m5001 58 [v0] sk st Q = am_na 1 none 60 [v0] sk st (fun pc lc sk st => am_g d X am_m5001 pc lc sk st Q) := am_gu.trans rfl
theorem u5001_60 {v0 : Value} : am_g d X am_m5001 60 [v0] sk st Q = am_pt 167 63 [v0] sk st (fun pc lc sk st => am_g d X am_m5001 pc lc sk st Q) := am_gu.trans rfl
theorem u5001_63 {x : Nat} : am_g d X am_m5001 63 [.ref x] sk st Q = am_g d X am_m5001 64 [.ref x] (.ref x :: sk) st Q := am_gu.trans rfl
theorem u5001_64 {v0 : Value} : am_g d X am_m5001 64 [v0] sk st Q = am_g d X am_m5001 65 [v0] (.int (am_i 0) :: sk) st Q := am_gu.trans rfl
theorem u5001_65 {v0 : Value} : am_g d X am_m5001 65 [v0] sk st Q = am_pt 168 68 [v0] sk st (fun pc lc sk st => am_g d X am_m5001 pc lc sk st Q) := am_gu.trans rfl
theorem u5001_68 {x : Nat} : am_g d X am_m5001 68 [.ref x] sk st Q = am_g d X am_m5001 69 [.ref x] (.ref x :: sk) st Q := am_gu.trans rfl
theorem u5001_69 {v0 : Value} : am_g d X am_m5001 69 [v0] sk st Q = am_g d X am_m5001 70 [v0] (.int (am_i (-1)) :: sk) st Q := am_gu.trans rfl
theorem u5001_70 {v0 : Value} : am_g d X am_m5001 70 [v0] sk st Q = am_pt 169 73 [v0] sk st (fun pc lc sk st => am_g d X am_m5001 pc lc sk st Q) := am_gu.trans rfl
theorem u5001_73 {x : Nat} : am_g d X am_m5001 73 [.ref x] sk st Q = am_g d X am_m5001 74 [.ref x] (.ref x :: sk) st Q := am_gu.trans rfl
theorem u5001_74 {v0 : Value} : am_g d X am_m5001 74 [v0] sk st Q = am_g d X am_m5001 75 [v0] (.int (am_i 0) :: sk) st Q := am_gu.trans rfl
theorem u5001_75 {v0 : Value} : am_g d X am_m5001 75 [v0] sk st Q = am_pt 170 78 [v0] sk st (fun pc lc sk st => am_g d X am_m5001 pc lc sk st Q) := am_gu.trans rfl
theorem u5001_78 {x : Nat} : am_g d X am_m5001 78 [.ref x] sk st Q = am_g d X am_m5001 79 [.ref x] (.ref x :: sk) st Q := am_gu.trans rfl
theorem u5001_79 {v0 : Value} : am_g d X am_m5001 79 [v0] sk st Q = am_g d X am_m5001 80 [v0] (.int (am_i 3) :: sk) st Q := am_gu.trans rfl
theorem u5001_80 {v0 : Value} : am_g d X am_m5001 80 [v0] sk st Q = am_na 1 none 82 [v0] sk st (fun pc lc sk st => am_g d X am_m5001 pc lc sk st Q) := am_gu.trans rfl
theorem u5001_82 {v0 : Value} : am_g d X am_m5001 82 [v0] sk st Q = am_pt 171 85 [v0] sk st (fun pc lc sk st => am_g d X am_m5001 pc lc sk st Q) := am_gu.trans rfl
theorem u5001_85 {x : Nat} : am_g d X am_m5001 85 [.ref x] sk st Q = am_g d X am_m5001 86 [.ref x] (.ref x :: sk) st Q := am_gu.trans rfl
theorem u5001_86 {v0 : Value} : am_g d X am_m5001 86 [v0] sk st Q = am_g d X am_m5001 88 [v0] (.int (am_i 72) :: sk) st Q := am_gu.trans rfl
theorem u5001_88 {v0 : Value} : am_g d X am_m5001 88 [v0] sk st Q = am_na 1 none 90 [v0] sk st (fun pc lc sk st => am_g d X am_m5001 pc lc sk st Q) := am_gu.trans rfl
theorem u5001_90 {v0 : Value} : am_g d X am_m5001 90 [v0] sk st Q = am_pt 172 93 [v0] sk st (fun pc lc sk st => am_g d X am_m5001 pc lc sk st Q) := am_gu.trans rfl
theorem u5001_93 {x : Nat} : am_g d X am_m5001 93 [.ref x] sk st Q = am_g d X am_m5001 94 [.ref x] (.ref x :: sk) st Q := am_gu.trans rfl
theorem u5001_94 {v0 : Value} : am_g d X am_m5001 94 [v0] sk st Q = am_g d X am_m5001 95 [v0] (.int (am_i 0) :: sk) st Q := am_gu.trans rfl
theorem u5001_95 {v0 : Value} : am_g d X am_m5001 95 [v0] sk st Q = am_pt 173 98 [v0] sk st (fun pc lc sk st => am_g d X am_m5001 pc lc sk st Q) := am_gu.trans rfl
theorem u5001_98 {x : Nat} : am_g d X am_m5001 98 [.ref x] sk st Q = am_g d X am_m5001 99 [.ref x] (.ref x :: sk) st Q := am_gu.trans rfl
theorem u5001_99 {v0 : Value} : am_g d X am_m5001 99 [v0] sk st Q = am_gt 161 102 [v0] sk st (fun pc lc sk st => am_g d X am_m5001 pc lc sk st Q) := am_gu.trans rfl
theorem u5001_102 {v0 : Value} : am_g d X am_m5001 102 [v0] sk st Q = am_g d X am_m5001 103 [v0] (.int (am_i (-1)) :: sk) st Q := am_gu.trans rfl
theorem u5001_103 {a0 : Value} {a1 : Value} {v0 : Value} : am_g d X am_m5001 103 [v0] (a1 :: a0 :: sk) st Q = (sk.length ≤ 4 ∧ am_Ca X d 9000 [a0, a1] st (am_af am_m5001 103 [v0] sk (fun pc lc sk st => am_g d X am_m5001 pc lc sk st Q) Q)) := am_gu.trans (propext ⟨fun h => ⟨h.1.2, h.2⟩, fun h => ⟨⟨Nat.le_add_left _ _, h.1⟩, h.2⟩⟩)
theorem u5001_106 {x : Nat} : am_g d X am_m5001 106 [.ref x] sk st Q = am_g d X am_m5001 107 [.ref x] (.ref x :: sk) st Q := am_gu.trans rfl
theorem u5001_107 {v0 : Value} : am_g d X am_m5001 107 [v0] sk st Q = am_gt 162 110 [v0] sk st (fun pc lc sk st => am_g d X am_m5001 pc lc sk st Q) := am_gu.trans rfl
theorem u5001_110 {v0 : Value} : am_g d X am_m5001 110 [v0] sk st Q = am_g d X am_m5001 111 [v0] (.int (am_i (-1)) :: sk) st Q := am_gu.trans rfl
theorem u5001_111 {a0 : Value} {a1 : Value} {v0 : Value} : am_g d X am_m5001 111 [v0] (a1 :: a0 :: sk) st Q = (sk.length ≤ 4 ∧ am_Ca X d 9000 [a0, a1] st (am_af am_m5001 111 [v0] sk (fun pc lc sk st => am_g d X am_m5001 pc lc sk st Q) Q)) := am_gu.trans (propext ⟨fun h => ⟨h.1.2, h.2⟩, fun h => ⟨⟨Nat.le_add_left _ _, h.1⟩, h.2⟩⟩)
theorem u5001_114 {x : Nat} : am_g d X am_m5001 114 [.ref x] sk st Q = am_g d X am_m5001 115 [.ref x] (.ref x :: sk) st Q := am_gu.trans rfl
theorem u5001_115 {v0 : Value} : am_g d X am_m5001 115 [v0] sk st Q = am_gt 164 118 [v0] sk st (fun pc lc sk st => am_g d X am_m5001 pc lc sk st Q) := am_gu.trans rfl
theorem u5001_118 {v0 : Value} : am_g d X am_m5001 118 [v0] sk st Q = am_g d X am_m5001 119 [v0] (.int (am_i (-1)) :: sk) st Q := am_gu.trans rfl
theorem u5001_119 {a0 : Value} {a1 : Value} {v0 : Value} : am_g d X am_m5001 119 [v0] (a1 :: a0 :: sk) st Q = (sk.length ≤ 4 ∧ am_Ca X d 9000 [a0, a1] st (am_af am_m5001 119 [v0] sk (fun pc lc sk st => am_g d X am_m5001 pc lc sk st Q) Q)) := am_gu.trans (propext ⟨fun h => ⟨h.1.2, h.2⟩, fun h => ⟨⟨Nat.le_add_left _ _, h.1⟩, h.2⟩⟩)
theorem u5001_122 {x : Nat} : am_g d X am_m5001 122 [.ref x] sk st Q = am_g d X am_m5001 123 [.ref x] (.ref x :: sk) st Q := am_gu.trans rfl
theorem u5001_123 {v0 : Value} : am_g d X am_m5001 123 [v0] sk st Q = am_gt 167 126 [v0] sk st (fun pc lc sk st => am_g d X am_m5001 pc lc sk st Q) := am_gu.trans rfl
theorem u5001_126 {v0 : Value} : am_g d X am_m5001 126 [v0] sk st Q = am_g d X am_m5001 127 [v0] (.int (am_i (-1)) :: sk) st Q := am_gu.trans rfl
theorem u5001_127 {a0 : Value} {a1 : Value} {v0 : Value} : am_g d X am_m5001 127 [v0] (a1 :: a0 :: sk) st Q = (sk.length ≤ 4 ∧ am_Ca X d 9000 [a0, a1] st (am_af am_m5001 127 [v0] sk (fun pc lc sk st => am_g d X am_m5001 pc lc sk st Q) Q)) := am_gu.trans (propext ⟨fun h => ⟨h.1.2, h.2⟩, fun h => ⟨⟨Nat.le_add_left _ _, h.1⟩, h.2⟩⟩)
theorem u5001_130 {x : Nat} : am_g d X am_m5001 130 [.ref x] sk st Q = am_g d X am_m5001 131 [.ref x] (.ref x :: sk) st Q := am_gu.trans rfl
theorem u5001_131 {v0 : Value} : am_g d X am_m5001 131 [v0] sk st Q = am_gt 164 134 [v0] sk st (fun pc lc sk st => am_g d X am_m5001 pc lc sk st Q) := am_gu.trans rfl
theorem u5001_134 {v0 : Value} : am_g d X am_m5001 134 [v0] sk st Q = am_g d X am_m5001 135 [v0] (.int (am_i 0) :: sk) st Q := am_gu.trans rfl
theorem u5001_135 {v0 : Value} : am_g d X am_m5001 135 [v0] sk st Q = am_g d X am_m5001 136 [v0] (.int (am_i 0) :: sk) st Q := am_gu.trans rfl
theorem u5001_136 {v0 : Value} : am_g d X am_m5001 136 [v0] sk st Q = am_xs 137 [v0] sk st (fun pc lc sk st => am_g d X am_m5001 pc lc sk st Q) := am_gu.trans rfl
theorem u5001_137 {v0 : Value} : am_g d X am_m5001 137 [v0] [] st Q = Q (.inl none) st := am_gu.trans rfl
set_option maxRecDepth 100000 in
theorem of_5002 : am_of 5002 = some am_m5002 := rfl
theorem c5002 {z a0} {P : am_Q} : am_Ca X (d + 1) 5002 [.ref z, .ref a0] st P = am_g d X am_m5002 0 [.ref z, .ref a0, am_u] [] st P := am_cg of_5002 (by show 2 ≤ 3; decide)
theorem hd_5002 : am_hd am_m5002 = [] := rfl
set_option maxRecDepth 100000 in
theorem u5002_0 {v0 : Value} {v2 : Value} {x : Nat} : am_g d X am_m5002 0 [v0, .ref x, v2] sk st Q = am_g d X am_m5002 1 [v0, .ref x, v2] (.ref x :: sk) st Q := am_gu.trans rfl
set_option maxRecDepth 100000 in
theorem u5002_1 {v0 : Value} {v1 : Value} {v2 : Value} : am_g d X am_m5002 1 [v0, v1, v2] sk st Q = am_gt 160 4 [v0, v1, v2] sk st (fun pc lc sk st => am_g d X am_m5002 pc lc sk st Q) := am_gu.trans rfl
set_option maxRecDepth 100000 in
theorem u5002_4 {v0 : Value} {v1 : Value} {v2 : Value} : am_g d X am_m5002 4 [v0, v1, v2] sk st Q = am_g d X am_m5002 6 [v0, v1, v2] (.int (am_i 60) :: sk) st Q := am_gu.trans rfl
set_option maxRecDepth 100000 in
theorem u5002_6 {v0 : Value} {v1 : Value} {v2 : Value} {x : Int32} {y : Int32} : am_g d X am_m5002 6 [v0, v1, v2] (.int y :: .int x :: sk) st Q = (sk.length ≤ 4 ∧ am_g d X am_m5002 9 [v0, v1, v2] (.int (if y < x then y else x) :: sk) st Q) := am_gu.trans rfl
set_option maxRecDepth 100000 in
theorem u5002_9 {v0 : Value} {v1 : Value} {v2 : Value} {x : Int32} : am_g d X am_m5002 9 [v0, v1, v2] (.int x :: sk) st Q = am_g d X am_m5002 10 [v0, am_kc v1, .int x] sk st Q := am_gu.trans (congrArg (fun l => am_g d X am_m5002 10 (List.set l 2 (.int x)) sk st Q) (kl_2 (l := [v2])))
set_option maxRecDepth 100000 in
theorem u5002_10 {v1 : Value} {v2 : Value} {x : Nat} : am_g d X am_m5002 10 [.ref x, v1, v2] sk st Q = am_g d X am_m5002 11 [.ref x, v1, v2] (.ref x :: sk) st Q := am_gu.trans rfl
set_option maxRecDepth 100000 in
theorem u5002_11 {v0 : Value} {v1 : Value} {x : Int32} : am_g d X am_m5002 11 [v0, v1, .int x] sk st Q = am_g d X am_m5002 12 [v0, v1, .int x] (.int x :: sk) st Q := am_gu.trans rfl
set_option maxRecDepth 100000 in
theorem u5002_12 {v0 : Value} {v1 : Value} {v2 : Value} : am_g d X am_m5002 12 [v0, v1, v2] sk st Q = am_pt 160 15 [v0, v1, v2] sk st (fun pc lc sk st => am_g d X am_m5002 pc lc sk st Q) := am_gu.trans rfl
set_option maxRecDepth 100000 in
theorem u5002_15 {v0 : Value} {v2 : Value} {x : Nat} : am_g d X am_m5002 15 [v0, .ref x, v2] sk st Q = am_g d X am_m5002 16 [v0, .ref x, v2] (.ref x :: sk) st Q := am_gu.trans rfl
set_option maxRecDepth 100000 in
theorem u5002_16 {v0 : Value} {v1 : Value} {v2 : Value} : am_g d X am_m5002 16 [v0, v1, v2] sk st Q = am_gt 161 19 [v0, v1, v2] sk st (fun pc lc sk st => am_g d X am_m5002 pc lc sk st Q) := am_gu.trans rfl
set_option maxRecDepth 100000 in
theorem u5002_19 {v0 : Value} {v1 : Value} {v2 : Value} : am_g d X am_m5002 19 [v0, v1, v2] sk st Q = am_g d X am_m5002 20 [v0, v1, v2] (.int (am_i 0) :: sk) st Q := am_gu.trans rfl
set_option maxRecDepth 100000 in
theorem u5002_20 {v1 : Value} {v2 : Value} {x : Nat} : am_g d X am_m5002 20 [.ref x, v1, v2] sk st Q = am_g d X am_m5002 21 [.ref x, v1, v2] (.ref x :: sk) st Q := am_gu.trans rfl
set_option maxRecDepth 100000 in
theorem u5002_21 {v0 : Value} {v1 : Value} {v2 : Value} : am_g d X am_m5002 21 [v0, v1, v2] sk st Q = am_gt 161 24 [v0, v1, v2] sk st (fun pc lc sk st => am_g d X am_m5002 pc lc sk st Q) := am_gu.trans rfl
set_option maxRecDepth 100000 in
theorem u5002_24 {v0 : Value} {v1 : Value} {v2 : Value} : am_g d X am_m5002 24 [v0, v1, v2] sk st Q = am_g d X am_m5002 25 [v0, v1, v2] (.int (am_i 0) :: sk) st Q := am_gu.trans rfl
set_option maxRecDepth 100000 in
theorem u5002_25 {v0 : Value} {v1 : Value} {x : Int32} : am_g d X am_m5002 25 [v0, v1, .int x] sk st Q = am_g d X am_m5002 26 [v0, v1, .int x] (.int x :: sk) st Q := am_gu.trans rfl
set_option maxRecDepth 100000 in
theorem u5002_26 {v0 : Value} {v1 : Value} {v2 : Value} : am_g d X am_m5002 26 [v0, v1, v2] sk st Q = am_cp 29 [v0, v1, v2] sk st (fun pc lc sk st => am_g d X am_m5002 pc lc sk st Q) := am_gu.trans rfl
set_option maxRecDepth 100000 in
theorem u5002_29 {v0 : Value} {v2 : Value} {x : Nat} : am_g d X am_m5002 29 [v0, .ref x, v2] sk st Q = am_g d X am_m5002 30 [v0, .ref x, v2] (.ref x :: sk) st Q := am_gu.trans rfl
set_option maxRecDepth 100000 in
theorem u5002_30 {v0 : Value} {v1 : Value} {v2 : Value} : am_g d X am_m5002 30 [v0, v1, v2] sk st Q = am_gt 162 33 [v0, v1, v2] sk st (fun pc lc sk st => am_g d X am_m5002 pc lc sk st Q) := am_gu.trans rfl
set_option maxRecDepth 100000 in
theorem u5002_33 {v0 : Value} {v1 : Value} {v2 : Value} : am_g d X am_m5002 33 [v0, v1, v2] sk st Q = am_g d X am_m5002 34 [v0, v1, v2] (.int (am_i 0) :: sk) st Q := am_gu.trans rfl
set_option maxRecDepth 100000 in
theorem u5002_34 {v1 : Value} {v2 : Value} {x : Nat} : am_g d X am_m5002 34 [.ref x, v1, v2] sk st Q = am_g d X am_m5002 35 [.ref x, v1, v2] (.ref x :: sk) st Q := am_gu.trans rfl
set_option maxRecDepth 100000 in
theorem u5002_35 {v0 : Value} {v1 : Value} {v2 : Value} : am_g d X am_m5002 35 [v0, v1, v2] sk st Q = am_gt 162 38 [v0, v1, v2] sk st (fun pc lc sk st => am_g d X am_m5002 pc lc sk st Q) := am_gu.trans rfl
set_option maxRecDepth 100000 in
theorem u5002_38 {v0 : Value} {v1 : Value} {v2 : Value} : am_g d X am_m5002 38 [v0, v1, v2] sk st Q = am_g d X am_m5002 39 [v0, v1, v2] (.int (am_i 0) :: sk) st Q := am_gu.trans rfl
set_option maxRecDepth 100000 in
theorem u5002_39 {v0 : Value} {v1 : Value} {x : Int32} : am_g d X am_m5002 39 [v0, v1, .int x] sk st Q = am_g d X am_m5002 40 [v0, v1, .int x] (.int x :: sk) st Q := am_gu.trans rfl
set_option maxRecDepth 100000 in
theorem u5002_40 {v0 : Value} {v1 : Value} {v2 : Value} : am_g d X am_m5002 40 [v0, v1, v2] sk st Q = am_cp 43 [v0, v1, v2] sk st (fun pc lc sk st => am_g d X am_m5002 pc lc sk st Q) := am_gu.trans rfl
set_option maxRecDepth 100000 in
theorem u5002_43 {v0 : Value} {v2 : Value} {x : Nat} : am_g d X am_m5002 43 [v0, .ref x, v2] sk st Q = am_g d X am_m5002 44 [v0, .ref x, v2] (.ref x :: sk) st Q := am_gu.trans rfl
set_option maxRecDepth 100000 in
theorem u5002_44 {v0 : Value} {v1 : Value} {v2 : Value} : am_g d X am_m5002 44 [v0, v1, v2] sk st Q = am_gt 163 47 [v0, v1, v2] sk st (fun pc lc sk st => am_g d X am_m5002 pc lc sk st Q) := am_gu.trans rfl
set_option maxRecDepth 100000 in
theorem u5002_47 {v0 : Value} {v1 : Value} {v2 : Value} : am_g d X am_m5002 47 [v0, v1, v2] sk st Q = am_g d X am_m5002 48 [v0, v1, v2] (.int (am_i 0) :: sk) st Q := am_gu.trans rfl
set_option maxRecDepth 100000 in
theorem u5002_48 {v1 : Value} {v2 : Value} {x : Nat} : am_g d X am_m5002 48 [.ref x, v1, v2] sk st Q = am_g d X am_m5002 49 [.ref x, v1, v2] (.ref x :: sk) st Q := am_gu.trans rfl
set_option maxRecDepth 100000 in
theorem u5002_49 {v0 : Value} {v1 : Value} {v2 : Value} : am_g d X am_m5002 49 [v0, v1, v2] sk st Q = am_gt 163 52 [v0, v1, v2] sk st (fun pc lc sk st => am_g d X am_m5002 pc lc sk st Q) := am_gu.trans rfl
set_option maxRecDepth 100000 in
theorem u5002_52 {v0 : Value} {v1 : Value} {v2 : Value} : am_g d X am_m5002 52 [v0, v1, v2] sk st Q = am_g d X am_m5002 53 [v0, v1, v2] (.int (am_i 0) :: sk) st Q := am_gu.trans rfl
set_option maxRecDepth 100000 in
theorem u5002_53 {v0 : Value} {v1 : Value} {x : Int32} : am_g d X am_m5002 53 [v0, v1, .int x] sk st Q = am_g d X am_m5002 54 [v0, v1, .int x] (.int x :: sk) st Q := am_gu.trans rfl
set_option maxRecDepth 100000 in
theorem u5002_54 {v0 : Value} {v1 : Value} {v2 : Value} : am_g d X am_m5002 54 [v0, v1, v2] sk st Q = am_g d X am_m5002 56 [v0, v1, v2] (.int (am_i 24) :: sk) st Q := am_gu.trans rfl
set_option maxRecDepth 100000 in
theorem u5002_56 {v0 : Value} {v1 : Value} {v2 : Value} {x : Int32} {y : Int32} : am_g d X am_m5002 56 [v0, v1, v2] (.int y :: .int x :: sk) st Q = am_g d X am_m5002 57 [v0, v1, v2] (.int (x * y) :: sk) st Q := am_gu.trans rfl
set_option maxRecDepth 100000 in
theorem u5002_57 {v0 : Value} {v1 : Value} {v2 : Value} : am_g d X am_m5002 57 [v0, v1, v2] sk st Q = am_cp 60 [v0, v1, v2] sk st (fun pc lc sk st => am_g d X am_m5002 pc lc sk st Q) := am_gu.trans rfl
set_option maxRecDepth 100000 in
theorem u5002_60 {v0 : Value} {v2 : Value} {x : Nat} : am_g d X am_m5002 60 [v0, .ref x, v2] sk st Q = am_g d X am_m5002 61 [v0, .ref x, v2] (.ref x :: sk) st Q := am_gu.trans rfl
set_option maxRecDepth 100000 in
theorem u5002_61 {v0 : Value} {v1 : Value} {v2 : Value} : am_g d X am_m5002 61 [v0, v1, v2] sk st Q = am_gt 164 64 [v0, v1, v2] sk st (fun pc lc sk st => am_g d X am_m5002 pc lc sk st Q) := am_gu.trans rfl
set_option maxRecDepth 100000 in
theorem u5002_64 {v0 : Value} {v1 : Value} {v2 : Value} : am_g d X am_m5002 64 [v0, v1, v2] sk st Q = am_g d X am_m5002 65 [v0, v1, v2] (.int (am_i 0) :: sk) st Q := am_gu.trans rfl
set_option maxRecDepth 100000 in
theorem u5002_65 {v1 : Value} {v2 : Value} {x : Nat} : am_g d X am_m5002 65 [.ref x, v1, v2] sk st Q = am_g d X am_m5002 66 [.ref x, v1, v2] (.ref x :: sk) st Q := am_gu.trans rfl
set_option maxRecDepth 100000 in
theorem u5002_66 {v0 : Value} {v1 : Value} {v2 : Value} : am_g d X am_m5002 66 [v0, v1, v2] sk st Q = am_gt 164 69 [v0, v1, v2] sk st (fun pc lc sk st => am_g d X am_m5002 pc lc sk st Q) := am_gu.trans rfl
set_option maxRecDepth 100000 in
theorem u5002_69 {v0 : Value} {v1 : Value} {v2 : Value} : am_g d X am_m5002 69 [v0, v1, v2] sk st Q = am_g d X am_m5002 70 [v0, v1, v2] (.int (am_i 0) :: sk) st Q := am_gu.trans rfl
set_option maxRecDepth 100000 in
theorem u5002_70 {v0 : Value} {v1 : Value} {v2 : Value} : am_g d X am_m5002 70 [v0, v1, v2] sk st Q = am_g d X am_m5002 72 [v0, v1, v2] (.int (am_i 6) :: sk) st Q := am_gu.trans rfl
set_option maxRecDepth 100000 in
theorem u5002_72 {v0 : Value} {v1 : Value} {v2 : Value} : am_g d X am_m5002 72 [v0, v1, v2] sk st Q = am_cp 75 [v0, v1, v2] sk st (fun pc lc sk st => am_g d X am_m5002 pc lc sk st Q) := am_gu.trans rfl
set_option maxRecDepth 100000 in
theorem u5002_75 {v1 : Value} {v2 : Value} {x : Nat} : am_g d X am_m5002 75 [.ref x, v1, v2] sk st Q = am_g d X am_m5002 76 [.ref x, v1, v2] (.ref x :: sk) st Q := am_gu.trans rfl
set_option maxRecDepth 100000 in
theorem u5002_76 {v0 : Value} {v2 : Value} {x : Nat} : am_g d X am_m5002 76 [v0, .ref x, v2] sk st Q = am_g d X am_m5002 77 [v0, .ref x, v2] (.ref x :: sk) st Q := am_gu.trans rfl
set_option maxRecDepth 100000 in
theorem u5002_77 {v0 : Value} {v1 : Value} {v2 : Value} : am_g d X am_m5002 77 [v0, v1, v2] sk st Q = am_gt 165 80 [v0, v1, v2] sk st (fun pc lc sk st => am_g d X am_m5002 pc lc sk st Q) := am_gu.trans rfl
set_option maxRecDepth 100000 in
theorem u5002_80 {v0 : Value} {v1 : Value} {v2 : Value} : am_g d X am_m5002 80 [v0, v1, v2] sk st Q = am_pt 165 83 [v0, v1, v2] sk st (fun pc lc sk st => am_g d X am_m5002 pc lc sk st Q) := am_gu.trans rfl
set_option maxRecDepth 100000 in
theorem u5002_83 {v0 : Value} {v2 : Value} {x : Nat} : am_g d X am_m5002 83 [v0, .ref x, v2] sk st Q = am_g d X am_m5002 84 [v0, .ref x, v2] (.ref x :: sk) st Q := am_gu.trans rfl
set_option maxRecDepth 100000 in
theorem u5002_84 {v0 : Value} {v1 : Value} {v2 : Value} : am_g d X am_m5002 84 [v0, v1, v2] sk st Q = am_gt 166 87 [v0, v1, v2] sk st (fun pc lc sk st => am_g d X am_m5002 pc lc sk st Q) := am_gu.trans rfl
set_option maxRecDepth 100000 in
theorem u5002_87 {v0 : Value} {v1 : Value} {v2 : Value} : am_g d X am_m5002 87 [v0, v1, v2] sk st Q = am_g d X am_m5002 88 [v0, v1, v2] (.int (am_i 0) :: sk) st Q := am_gu.trans rfl
set_option maxRecDepth 100000 in
theorem u5002_88 {v1 : Value} {v2 : Value} {x : Nat} : am_g d X am_m5002 88 [.ref x, v1, v2] sk st Q = am_g d X am_m5002 89 [.ref x, v1, v2] (.ref x :: sk) st Q := am_gu.trans rfl
set_option maxRecDepth 100000 in
theorem u5002_89 {v0 : Value} {v1 : Value} {v2 : Value} : am_g d X am_m5002 89 [v0, v1, v2] sk st Q = am_gt 166 92 [v0, v1, v2] sk st (fun pc lc sk st => am_g d X am_m5002 pc lc sk st Q) := am_gu.trans rfl
set_option maxRecDepth 100000 in
theorem u5002_92 {v0 : Value} {v1 : Value} {v2 : Value} : am_g d X am_m5002 92 [v0, v1, v2] sk st Q = am_g d X am_m5002 93 [v0, v1, v2] (.int (am_i 0) :: sk) st Q := am_gu.trans rfl
set_option maxRecDepth 100000 in
theorem u5002_93 {v0 : Value} {v1 : Value} {v2 : Value} : am_g d X am_m5002 93 [v0, v1, v2] sk st Q = am_g d X am_m5002 95 [v0, v1, v2] (.int (am_i 24) :: sk) st Q := am_gu.trans rfl
set_option maxRecDepth 100000 in
theorem u5002_95 {v0 : Value} {v1 : Value} {v2 : Value} : am_g d X am_m5002 95 [v0, v1, v2] sk st Q = am_cp 98 [v0, v1, v2] sk st (fun pc lc sk st => am_g d X am_m5002 pc lc sk st Q) := am_gu.trans rfl
set_option maxRecDepth 100000 in
theorem u5002_98 {v0 : Value} {v2 : Value} {x : Nat} : am_g d X am_m5002 98 [v0, .ref x, v2] sk st Q = am_g d X am_m5002 99 [v0, .ref x, v2] (.ref x :: sk) st Q := am_gu.trans rfl
set_option maxRecDepth 100000 in
theorem u5002_99 {v0 : Value} {v1 : Value} {v2 : Value} : am_g d X am_m5002 99 [v0, v1, v2] sk st Q = am_gt 167 102 [v0, v1, v2] sk st (fun pc lc sk st => am_g d X am_m5002 pc lc sk st Q) := am_gu.trans rfl
set_option maxRecDepth 100000 in
theorem u5002_102 {v0 : Value} {v1 : Value} {v2 : Value} : am_g d X am_m5002 102 [v0, v1, v2] sk st Q = am_g d X am_m5002 103 [v0, v1, v2] (.int (am_i 0) :: sk) st Q := am_gu.trans rfl
set_option maxRecDepth 100000 in
theorem u5002_103 {v1 : Value} {v2 : Value} {x : Nat} : am_g d X am_m5002 103 [.ref x, v1, v2] sk st Q = am_g d X am_m5002 104 [.ref x, v1, v2] (.ref x :: sk) st Q := am_gu.trans rfl
set_option maxRecDepth 100000 in
theorem u5002_104 {v0 : Value} {v1 : Value} {v2 : Value} : am_g d X am_m5002 104 [v0, v1, v2] sk st Q = am_gt 167 107 [v0, v1, v2] sk st (fun pc lc sk st => am_g d X am_m5002 pc lc sk st Q) := am_gu.trans rfl
set_option maxRecDepth 100000 in
theorem u5002_107 {v0 : Value} {v1 : Value} {v2 : Value} : am_g d X am_m5002 107 [v0, v1, v2] sk st Q = am_g d X am_m5002 108 [v0, v1, v2] (.int (am_i 0) :: sk) st Q := am_gu.trans rfl
set_option maxRecDepth 100000 in
theorem u5002_108 {v0 : Value} {v1 : Value} {v2 : Value} : am_g d X am_m5002 108 [v0, v1, v2] sk st Q = am_g d X am_m5002 110 [v0, v1, v2] (.int (am_i 24) :: sk) st Q := am_gu.trans rfl
set_option maxRecDepth 100000 in
theorem u5002_110 {v0 : Value} {v1 : Value} {v2 : Value} : am_g d X am_m5002 110 [v0, v1, v2] sk st Q = am_cp 113 [v0, v1, v2] sk st (fun pc lc sk st => am_g d X am_m5002 pc lc sk st Q) := am_gu.trans rfl
set_option maxRecDepth 100000 in
theorem u5002_113 {v1 : Value} {v2 : Value} {x : Nat} : am_g d X am_m5002 113 [.ref x, v1, v2] sk st Q = am_g d X am_m5002 114 [.ref x, v1, v2] (.ref x :: sk) st Q := am_gu.trans rfl
set_option maxRecDepth 100000 in
theorem u5002_114 {v0 : Value} {v2 : Value} {x : Nat} : am_g d X am_m5002 114 [v0, .ref x, v2] sk st Q = am_g d X am_m5002 115 [v0, .ref x, v2] (.ref x :: sk) st Q := am_gu.trans rfl
set_option maxRecDepth 100000 in
theorem u5002_115 {v0 : Value} {v1 : Value} {v2 : Value} : am_g d X am_m5002 115 [v0, v1, v2] sk st Q = am_gt 168 118 [v0, v1, v2] sk st (fun pc lc sk st => am_g d X am_m5002 pc lc sk st Q) := am_gu.trans rfl
set_option maxRecDepth 100000 in
theorem u5002_118 {v0 : Value} {v1 : Value} {v2 : Value} : am_g d X am_m5002 118 [v0, v1, v2] sk st Q = am_pt 168 121 [v0, v1, v2] sk st (fun pc lc sk st => am_g d X am_m5002 pc lc sk st Q) := am_gu.trans rfl
set_option maxRecDepth 100000 in
theorem u5002_121 {v1 : Value} {v2 : Value} {x : Nat} : am_g d X am_m5002 121 [.ref x, v1, v2] sk st Q = am_g d X am_m5002 122 [.ref x, v1, v2] (.ref x :: sk) st Q := am_gu.trans rfl
set_option maxRecDepth 100000 in
theorem u5002_122 {v0 : Value} {v2 : Value} {x : Nat} : am_g d X am_m5002 122 [v0, .ref x, v2] sk st Q = am_g d X am_m5002 123 [v0, .ref x, v2] (.ref x :: sk) st Q := am_gu.trans rfl
set_option maxRecDepth 100000 in
theorem u5002_123 {v0 : Value} {v1 : Value} {v2 : Value} : am_g d X am_m5002 123 [v0, v1, v2] sk st Q = am_gt 169 126 [v0, v1, v2] sk st (fun pc lc sk st => am_g d X am_m5002 pc lc sk st Q) := am_gu.trans rfl
set_option maxRecDepth 100000 in
theorem u5002_126 {v0 : Value} {v1 : Value} {v2 : Value} : am_g d X am_m5002 126 [v0, v1, v2] sk st Q = am_pt 169 129 [v0, v1, v2] sk st (fun pc lc sk st => am_g d X am_m5002 pc lc sk st Q) := am_gu.trans rfl
set_option maxRecDepth 100000 in
theorem u5002_129 {v1 : Value} {v2 : Value} {x : Nat} : am_g d X am_m5002 129 [.ref x, v1, v2] sk st Q = am_g d X am_m5002 130 [.ref x, v1, v2] (.ref x :: sk) st Q := am_gu.trans rfl
set_option maxRecDepth 100000 in
theorem u5002_130 {v0 : Value} {v2 : Value} {x : Nat} : am_g d X am_m5002 130 [v0, .ref x, v2] sk st Q = am_g d X am_m5002 131 [v0, .ref x, v2] (.ref x :: sk) st Q := am_gu.trans rfl
set_option maxRecDepth 100000 in
theorem u5002_131 {v0 : Value} {v1 : Value} {v2 : Value} : am_g d X am_m5002 131 [v0, v1, v2] sk st Q = am_gt 170 134 [v0, v1, v2] sk st (fun pc lc sk st => am_g d X am_m5002 pc lc sk st Q) := am_gu.trans rfl
set_option maxRecDepth 100000 in
theorem u5002_134 {v0 : Value} {v1 : Value} {v2 : Value} : am_g d X am_m5002 134 [v0, v1, v2] sk st Q = am_pt 170 137 [v0, v1, v2] sk st (fun pc lc sk st => am_g d X am_m5002 pc lc sk st Q) := am_gu.trans rfl
set_option maxRecDepth 100000 in
theorem u5002_137 {v0 : Value} {v2 : Value} {x : Nat} : am_g d X am_m5002 137 [v0, .ref x, v2] sk st Q = am_g d X am_m5002 138 [v0, .ref x, v2] (.ref x :: sk) st Q := am_gu.trans rfl
set_option maxRecDepth 100000 in
theorem u5002_138 {v0 : Value} {v1 : Value} {v2 : Value} : am_g d X am_m5002 138 [v0, v1, v2] sk st Q = am_gt 171 141 [v0, v1, v2] sk st (fun pc lc sk st => am_g d X am_m5002 pc lc sk st Q) := am_gu.trans rfl
set_option maxRecDepth 100000 in
theorem u5002_141 {v0 : Value} {v1 : Value} {v2 : Value} : am_g d X am_m5002 141 [v0, v1, v2] sk st Q = am_g d X am_m5002 142 [v0, v1, v2] (.int (am_i 0) :: sk) st Q := am_gu.trans rfl
set_option maxRecDepth 100000 in
theorem u5002_142 {v1 : Value} {v2 : Value} {x : Nat} : am_g d X am_m5002 142 [.ref x, v1, v2] sk st Q = am_g d X am_m5002 143 [.ref x, v1, v2] (.ref x :: sk) st Q := am_gu.trans rfl
set_option maxRecDepth 100000 in
theorem u5002_143 {v0 : Value} {v1 : Value} {v2 : Value} : am_g d X am_m5002 143 [v0, v1, v2] sk st Q = am_gt 171 146 [v0, v1, v2] sk st (fun pc lc sk st => am_g d X am_m5002 pc lc sk st Q) := am_gu.trans rfl
set_option maxRecDepth 100000 in
theorem u5002_146 {v0 : Value} {v1 : Value} {v2 : Value} : am_g d X am_m5002 146 [v0, v1, v2] sk st Q = am_g d X am_m5002 147 [v0, v1, v2] (.int (am_i 0) :: sk) st Q := am_gu.trans rfl
set_option maxRecDepth 100000 in
theorem u5002_147 {v0 : Value} {v1 : Value} {v2 : Value} : am_g d X am_m5002 147 [v0, v1, v2] sk st Q = am_g d X am_m5002 148 [v0, v1, v2] (.int (am_i 3) :: sk) st Q := am_gu.trans rfl
set_option maxRecDepth 100000 in
theorem u5002_148 {v0 : Value} {v1 : Value} {v2 : Value} : am_g d X am_m5002 148 [v0, v1, v2] sk st Q = am_cp 151 [v0, v1, v2] sk st (fun pc lc sk st => am_g d X am_m5002 pc lc sk st Q) := am_gu.trans rfl
set_option maxRecDepth 100000 in
theorem u5002_151 {v0 : Value} {v2 : Value} {x : Nat} : am_g d X am_m5002 151 [v0, .ref x, v2] sk st Q = am_g d X am_m5002 152 [v0, .ref x, v2] (.ref x :: sk) st Q := am_gu.trans rfl
set_option maxRecDepth 100000 in
theorem u5002_152 {v0 : Value} {v1 : Value} {v2 : Value} : am_g d X am_m5002 152 [v0, v1, v2] sk st Q = am_gt 172 155 [v0, v1, v2] sk st (fun pc lc sk st => am_g d X am_m5002 pc lc sk st Q) := am_gu.trans rfl
set_option maxRecDepth 100000 in
theorem u5002_155 {v0 : Value} {v1 : Value} {v2 : Value} : am_g d X am_m5002 155 [v0, v1, v2] sk st Q = am_g d X am_m5002 156 [v0, v1, v2] (.int (am_i 0) :: sk) st Q := am_gu.trans rfl
set_option maxRecDepth 100000 in
theorem u5002_156 {v1 : Value} {v2 : Value} {x : Nat} : am_g d X am_m5002 156 [.ref x, v1, v2] sk st Q = am_g d X am_m5002 157 [.ref x, v1, v2] (.ref x :: sk) st Q := am_gu.trans rfl
set_option maxRecDepth 100000 in
theorem u5002_157 {v0 : Value} {v1 : Value} {v2 : Value} : am_g d X am_m5002 157 [v0, v1, v2] sk st Q = am_gt 172 160 [v0, v1, v2] sk st (fun pc lc sk st => am_g d X am_m5002 pc lc sk st Q) := am_gu.trans rfl
set_option maxRecDepth 100000 in
theorem u5002_160 {v0 : Value} {v1 : Value} {v2 : Value} : am_g d X am_m5002 160 [v0, v1, v2] sk st Q = am_g d X am_m5002 161 [v0, v1, v2] (.int (am_i 0) :: sk) st Q := am_gu.trans rfl
set_option maxRecDepth 100000 in
theorem u5002_161 {v0 : Value} {v1 : Value} {v2 : Value} : am_g d X am_m5002 161 [v0, v1, v2] sk st Q = am_g d X am_m5002 163 [v0, v1, v2] (.int (am_i 72) :: sk) st Q := am_gu.trans rfl
set_option maxRecDepth 100000 in
theorem u5002_163 {v0 : Value} {v1 : Value} {v2 : Value} : am_g d X am_m5002 163 [v0, v1, v2] sk st Q = am_cp 166 [v0, v1, v2] sk st (fun pc lc sk st => am_g d X am_m5002 pc lc sk st Q) := am_gu.trans rfl
set_option maxRecDepth 100000 in
theorem u5002_166 {v1 : Value} {v2 : Value} {x : Nat} : am_g d X am_m5002 166 [.ref x, v1, v2] sk st Q = am_g d X am_m5002 167 [.ref x, v1, v2] (.ref x :: sk) st Q := am_gu.trans rfl
set_option maxRecDepth 100000 in
theorem u5002_167 {v0 : Value} {v2 : Value} {x : Nat} : am_g d X am_m5002 167 [v0, .ref x, v2] sk st Q = am_g d X am_m5002 168 [v0, .ref x, v2] (.ref x :: sk) st Q := am_gu.trans rfl
set_option maxRecDepth 100000 in
theorem u5002_168 {v0 : Value} {v1 : Value} {v2 : Value} : am_g d X am_m5002 168 [v0, v1, v2] sk st Q = am_gt 173 171 [v0, v1, v2] sk st (fun pc lc sk st => am_g d X am_m5002 pc lc sk st Q) := am_gu.trans rfl
set_option maxRecDepth 100000 in
theorem u5002_171 {v0 : Value} {v1 : Value} {v2 : Value} : am_g d X am_m5002 171 [v0, v1, v2] sk st Q = am_pt 173 174 [v0, v1, v2] sk st (fun pc lc sk st => am_g d X am_m5002 pc lc sk st Q) := am_gu.trans rfl
set_option maxRecDepth 100000 in
theorem u5002_174 {v0 : Value} {v1 : Value} {v2 : Value} : am_g d X am_m5002 174 [v0, v1, v2] [] st Q = Q (.inl none) st := am_gu.trans rfl
set_option maxRecDepth 100000 in
theorem of_5003 : am_of 5003 = some am_m5003 := rfl
theorem c5003 {z a0} {P : am_Q} : am_Ca X (d + 1) 5003 [.ref z, .int a0] st P = am_g d X am_m5003 0 [.ref z, .int a0] [] st P := am_cg of_5003 (by show 2 ≤ 2; decide)
theorem hd_5003 : am_hd am_m5003 = [] := rfl
theorem u5003_0 {v0 : Value} {x : Int32} : am_g d X am_m5003 0 [v0, .int x] sk st Q = am_g d X am_m5003 1 [v0, .int x] (.int x :: sk) st Q := am_gu.trans rfl
theorem u5003_1 {v0 : Value} {v1 : Value} {x : Int32} : am_g d X am_m5003 1 [v0, v1] (.int x :: sk) st Q = (if decide (x < 0) = true then am_g d X am_m5003 22 [v0, v1] sk st Q else am_g d X am_m5003 4 [v0, v1] sk st Q) := am_gu.trans rfl
theorem u5003_4 {v0 : Value} {x : Int32} : am_g d X am_m5003 4 [v0, .int x] sk st Q = am_g d X am_m5003 5 [v0, .int x] (.int x :: sk) st Q := am_gu.trans rfl
theorem u5003_5 {v1 : Value} {x : Nat} : am_g d X am_m5003 5 [.ref x, v1] sk st Q = am_g d X am_m5003 6 [.ref x, v1] (.ref x :: sk) st Q := am_gu.trans rfl
theorem u5003_6 {v0 : Value} {v1 : Value} : am_g d X am_m5003 6 [v0, v1] sk st Q = am_gt 160 9 [v0, v1] sk st (fun pc lc sk st => am_g d X am_m5003 pc lc sk st Q) := am_gu.trans rfl
theorem u5003_9 {v0 : Value} {v1 : Value} {x : Int32} {y : Int32} : am_g d X am_m5003 9 [v0, v1] (.int y :: .int x :: sk) st Q = (if decide (y ≤ x) = true then am_g d X am_m5003 22 [v0, v1] sk st Q else am_g d X am_m5003 12 [v0, v1] sk st Q) := am_gu.trans rfl
theorem u5003_12 {v0 : Value} {x : Int32} : am_g d X am_m5003 12 [v0, .int x] sk st Q = am_g d X am_m5003 13 [v0, .int x] (.int x :: sk) st Q := am_gu.trans rfl
theorem u5003_13 {v0 : Value} {v1 : Value} : am_g d X am_m5003 13 [v0, v1] sk st Q = am_g d X am_m5003 15 [v0, v1] (.int (am_i 60) :: sk) st Q := am_gu.trans rfl
theorem u5003_15 {v0 : Value} {v1 : Value} {x : Int32} {y : Int32} : am_g d X am_m5003 15 [v0, v1] (.int y :: .int x :: sk) st Q = (if decide (y ≤ x) = true then am_g d X am_m5003 22 [v0, v1] sk st Q else am_g d X am_m5003 18 [v0, v1] sk st Q) := am_gu.trans rfl
theorem u5003_18 {v0 : Value} {v1 : Value} : am_g d X am_m5003 18 [v0, v1] sk st Q = am_g d X am_m5003 19 [v0, v1] (.int (am_i 1) :: sk) st Q := am_gu.trans rfl
theorem u5003_19 {v0 : Value} {v1 : Value} : am_g d X am_m5003 19 [v0, v1] sk st Q = am_g d X am_m5003 23 [v0, v1] sk st Q := am_gu.trans rfl
theorem u5003_22 {v0 : Value} {v1 : Value} : am_g d X am_m5003 22 [v0, v1] sk st Q = am_g d X am_m5003 23 [v0, v1] (.int (am_i 0) :: sk) st Q := am_gu.trans rfl
theorem u5003_23 {v0 : Value} {v1 : Value} {x : Int32} : am_g d X am_m5003 23 [v0, v1] [.int x] st Q = ((x = 0 ∨ x = 1) ∧ Q (.inl (some (.int x))) st) := am_gu.trans rfl
set_option maxRecDepth 100000 in
theorem of_5004 : am_of 5004 = some am_m5004 := rfl
theorem c5004 {z} {P : am_Q} : am_Ca X (d + 1) 5004 [.ref z] st P = am_g d X am_m5004 0 [.ref z] [] st P := am_cg of_5004 (by show 1 ≤ 1; decide)
theorem hd_5004 : am_hd am_m5004 = [] := rfl
theorem u5004_0 {x : Nat} : am_g d X am_m5004 0 [.ref x] sk st Q = am_g d X am_m5004 1 [.ref x] (.ref x :: sk) st Q := am_gu.trans rfl
theorem u5004_1 {v0 : Value} : am_g d X am_m5004 1 [v0] sk st Q = am_gt 160 4 [v0] sk st (fun pc lc sk st => am_g d X am_m5004 pc lc sk st Q) := am_gu.trans rfl
theorem u5004_4 {v0 : Value} : am_g d X am_m5004 4 [v0] sk st Q = am_g d X am_m5004 6 [v0] (.int (am_i 60) :: sk) st Q := am_gu.trans rfl
theorem u5004_6 {v0 : Value} {x : Int32} {y : Int32} : am_g d X am_m5004 6 [v0] (.int y :: .int x :: sk) st Q = (if decide (y ≤ x) = true then am_g d X am_m5004 13 [v0] sk st Q else am_g d X am_m5004 9 [v0] sk st Q) := am_gu.trans rfl
theorem u5004_9 {v0 : Value} : am_g d X am_m5004 9 [v0] sk st Q = am_g d X am_m5004 10 [v0] (.int (am_i 1) :: sk) st Q := am_gu.trans rfl
theorem u5004_10 {v0 : Value} : am_g d X am_m5004 10 [v0] sk st Q = am_g d X am_m5004 14 [v0] sk st Q := am_gu.trans rfl
theorem u5004_13 {v0 : Value} : am_g d X am_m5004 13 [v0] sk st Q = am_g d X am_m5004 14 [v0] (.int (am_i 0) :: sk) st Q := am_gu.trans rfl
theorem u5004_14 {v0 : Value} {x : Int32} : am_g d X am_m5004 14 [v0] [.int x] st Q = ((x = 0 ∨ x = 1) ∧ Q (.inl (some (.int x))) st) := am_gu.trans rfl
set_option maxRecDepth 100000 in
theorem of_5005 : am_of 5005 = some am_m5005 := rfl
theorem c5005 {z a0} {P : am_Q} : am_Ca X (d + 1) 5005 [.ref z, .int a0] st P = am_g d X am_m5005 0 [.ref z, .int a0] [] st P := am_cg of_5005 (by show 2 ≤ 2; decide)
theorem hd_5005 : am_hd am_m5005 = [] := rfl
theorem u5005_0 {v0 : Value} {x : Int32} : am_g d X am_m5005 0 [v0, .int x] sk st Q = am_g d X am_m5005 1 [v0, .int x] (.int x :: sk) st Q := am_gu.trans rfl
theorem u5005_1 {v0 : Value} {v1 : Value} {x : Int32} : am_g d X am_m5005 1 [v0, v1] (.int x :: sk) st Q = (if decide (x < 0) = true then am_g d X am_m5005 27 [v0, v1] sk st Q else am_g d X am_m5005 4 [v0, v1] sk st Q) := am_gu.trans rfl
theorem u5005_4 {v0 : Value} {x : Int32} : am_g d X am_m5005 4 [v0, .int x] sk st Q = am_g d X am_m5005 5 [v0, .int x] (.int x :: sk) st Q := am_gu.trans rfl
theorem u5005_5 {v1 : Value} {x : Nat} : am_g d X am_m5005 5 [.ref x, v1] sk st Q = am_g d X am_m5005 6 [.ref x, v1] (.ref x :: sk) st Q := am_gu.trans rfl
theorem u5005_6 {v0 : Value} {v1 : Value} : am_g d X am_m5005 6 [v0, v1] sk st Q = am_gt 160 9 [v0, v1] sk st (fun pc lc sk st => am_g d X am_m5005 pc lc sk st Q) := am_gu.trans rfl
theorem u5005_9 {v0 : Value} {v1 : Value} {x : Int32} {y : Int32} : am_g d X am_m5005 9 [v0, v1] (.int y :: .int x :: sk) st Q = (if decide (y ≤ x) = true then am_g d X am_m5005 27 [v0, v1] sk st Q else am_g d X am_m5005 12 [v0, v1] sk st Q) := am_gu.trans rfl
theorem u5005_12 {v0 : Value} {x : Int32} : am_g d X am_m5005 12 [v0, .int x] sk st Q = am_g d X am_m5005 13 [v0, .int x] (.int x :: sk) st Q := am_gu.trans rfl
theorem u5005_13 {v0 : Value} {v1 : Value} : am_g d X am_m5005 13 [v0, v1] sk st Q = am_g d X am_m5005 15 [v0, v1] (.int (am_i 60) :: sk) st Q := am_gu.trans rfl
theorem u5005_15 {v0 : Value} {v1 : Value} {x : Int32} {y : Int32} : am_g d X am_m5005 15 [v0, v1] (.int y :: .int x :: sk) st Q = (if decide (y ≤ x) = true then am_g d X am_m5005 27 [v0, v1] sk st Q else am_g d X am_m5005 18 [v0, v1] sk st Q) := am_gu.trans rfl
theorem u5005_18 {v1 : Value} {x : Nat} : am_g d X am_m5005 18 [.ref x, v1] sk st Q = am_g d X am_m5005 19 [.ref x, v1] (.ref x :: sk) st Q := am_gu.trans rfl
theorem u5005_19 {v0 : Value} {v1 : Value} : am_g d X am_m5005 19 [v0, v1] sk st Q = am_gt 161 22 [v0, v1] sk st (fun pc lc sk st => am_g d X am_m5005 pc lc sk st Q) := am_gu.trans rfl
theorem u5005_22 {v0 : Value} {x : Int32} : am_g d X am_m5005 22 [v0, .int x] sk st Q = am_g d X am_m5005 23 [v0, .int x] (.int x :: sk) st Q := am_gu.trans rfl
theorem u5005_23 {v0 : Value} {v1 : Value} : am_g d X am_m5005 23 [v0, v1] sk st Q = am_xl (X.1, X.2.1, d) am_m5005 24 [v0, v1] sk st (fun pc lc sk st => am_g d X am_m5005 pc lc sk st Q) := am_gu.trans rfl
theorem u5005_24 {v0 : Value} {v1 : Value} : am_g d X am_m5005 24 [v0, v1] sk st Q = am_g d X am_m5005 28 [v0, v1] sk st Q := am_gu.trans rfl
theorem u5005_27 {v0 : Value} {v1 : Value} : am_g d X am_m5005 27 [v0, v1] sk st Q = am_g d X am_m5005 28 [v0, v1] (.int (am_i (-1)) :: sk) st Q := am_gu.trans rfl
theorem u5005_28 {v0 : Value} {v1 : Value} {x : Int32} : am_g d X am_m5005 28 [v0, v1] [.int x] st Q = Q (.inl (some (.int x))) st := am_gu.trans rfl
set_option maxRecDepth 100000 in
theorem of_5006 : am_of 5006 = some am_m5006 := rfl
theorem c5006 {z a0} {P : am_Q} : am_Ca X (d + 1) 5006 [.ref z, .int a0] st P = am_g d X am_m5006 0 [.ref z, .int a0] [] st P := am_cg of_5006 (by show 2 ≤ 2; decide)
theorem hd_5006 : am_hd am_m5006 = [] := rfl
theorem u5006_0 {v0 : Value} {x : Int32} : am_g d X am_m5006 0 [v0, .int x] sk st Q = am_g d X am_m5006 1 [v0, .int x] (.int x :: sk) st Q := am_gu.trans rfl
theorem u5006_1 {v0 : Value} {v1 : Value} {x : Int32} : am_g d X am_m5006 1 [v0, v1] (.int x :: sk) st Q = (if decide (x < 0) = true then am_g d X am_m5006 27 [v0, v1] sk st Q else am_g d X am_m5006 4 [v0, v1] sk st Q) := am_gu.trans rfl
theorem u5006_4 {v0 : Value} {x : Int32} : am_g d X am_m5006 4 [v0, .int x] sk st Q = am_g d X am_m5006 5 [v0, .int x] (.int x :: sk) st Q := am_gu.trans rfl
theorem u5006_5 {v1 : Value} {x : Nat} : am_g d X am_m5006 5 [.ref x, v1] sk st Q = am_g d X am_m5006 6 [.ref x, v1] (.ref x :: sk) st Q := am_gu.trans rfl
theorem u5006_6 {v0 : Value} {v1 : Value} : am_g d X am_m5006 6 [v0, v1] sk st Q = am_gt 160 9 [v0, v1] sk st (fun pc lc sk st => am_g d X am_m5006 pc lc sk st Q) := am_gu.trans rfl
theorem u5006_9 {v0 : Value} {v1 : Value} {x : Int32} {y : Int32} : am_g d X am_m5006 9 [v0, v1] (.int y :: .int x :: sk) st Q = (if decide (y ≤ x) = true then am_g d X am_m5006 27 [v0, v1] sk st Q else am_g d X am_m5006 12 [v0, v1] sk st Q) := am_gu.trans rfl
theorem u5006_12 {v0 : Value} {x : Int32} : am_g d X am_m5006 12 [v0, .int x] sk st Q = am_g d X am_m5006 13 [v0, .int x] (.int x :: sk) st Q := am_gu.trans rfl
theorem u5006_13 {v0 : Value} {v1 : Value} : am_g d X am_m5006 13 [v0, v1] sk st Q = am_g d X am_m5006 15 [v0, v1] (.int (am_i 60) :: sk) st Q := am_gu.trans rfl
theorem u5006_15 {v0 : Value} {v1 : Value} {x : Int32} {y : Int32} : am_g d X am_m5006 15 [v0, v1] (.int y :: .int x :: sk) st Q = (if decide (y ≤ x) = true then am_g d X am_m5006 27 [v0, v1] sk st Q else am_g d X am_m5006 18 [v0, v1] sk st Q) := am_gu.trans rfl
theorem u5006_18 {v1 : Value} {x : Nat} : am_g d X am_m5006 18 [.ref x, v1] sk st Q = am_g d X am_m5006 19 [.ref x, v1] (.ref x :: sk) st Q := am_gu.trans rfl
theorem u5006_19 {v0 : Value} {v1 : Value} : am_g d X am_m5006 19 [v0, v1] sk st Q = am_gt 162 22 [v0, v1] sk st (fun pc lc sk st => am_g d X am_m5006 pc lc sk st Q) := am_gu.trans rfl
theorem u5006_22 {v0 : Value} {x : Int32} : am_g d X am_m5006 22 [v0, .int x] sk st Q = am_g d X am_m5006 23 [v0, .int x] (.int x :: sk) st Q := am_gu.trans rfl
theorem u5006_23 {v0 : Value} {v1 : Value} : am_g d X am_m5006 23 [v0, v1] sk st Q = am_xl (X.1, X.2.1, d) am_m5006 24 [v0, v1] sk st (fun pc lc sk st => am_g d X am_m5006 pc lc sk st Q) := am_gu.trans rfl
theorem u5006_24 {v0 : Value} {v1 : Value} : am_g d X am_m5006 24 [v0, v1] sk st Q = am_g d X am_m5006 28 [v0, v1] sk st Q := am_gu.trans rfl
theorem u5006_27 {v0 : Value} {v1 : Value} : am_g d X am_m5006 27 [v0, v1] sk st Q = am_g d X am_m5006 28 [v0, v1] (.int (am_i (-1)) :: sk) st Q := am_gu.trans rfl
theorem u5006_28 {v0 : Value} {v1 : Value} {x : Int32} : am_g d X am_m5006 28 [v0, v1] [.int x] st Q = Q (.inl (some (.int x))) st := am_gu.trans rfl
set_option maxRecDepth 100000 in
theorem of_5007 : am_of 5007 = some am_m5007 := rfl
theorem c5007 {z a0 a1} {P : am_Q} : am_Ca X (d + 1) 5007 [.ref z, .int a0, .int a1] st P = am_g d X am_m5007 0 [.ref z, .int a0, .int a1, am_u] [] st P := am_cg of_5007 (by show 3 ≤ 4; decide)
theorem hd_5007 : am_hd am_m5007 = [] := rfl
theorem u5007_0 {v0 : Value} {v2 : Value} {v3 : Value} {x : Int32} : am_g d X am_m5007 0 [v0, .int x, v2, v3] sk st Q = am_g d X am_m5007 1 [v0, .int x, v2, v3] (.int x :: sk) st Q := am_gu.trans rfl
theorem u5007_1 {v0 : Value} {v1 : Value} {v2 : Value} {v3 : Value} {x : Int32} : am_g d X am_m5007 1 [v0, v1, v2, v3] (.int x :: sk) st Q = (if decide (x < 0) = true then am_g d X am_m5007 24 [v0, v1, v2, v3] sk st Q else am_g d X am_m5007 4 [v0, v1, v2, v3] sk st Q) := am_gu.trans rfl
theorem u5007_4 {v0 : Value} {v2 : Value} {v3 : Value} {x : Int32} : am_g d X am_m5007 4 [v0, .int x, v2, v3] sk st Q = am_g d X am_m5007 5 [v0, .int x, v2, v3] (.int x :: sk) st Q := am_gu.trans rfl
theorem u5007_5 {v0 : Value} {v1 : Value} {v2 : Value} {v3 : Value} : am_g d X am_m5007 5 [v0, v1, v2, v3] sk st Q = am_g d X am_m5007 7 [v0, v1, v2, v3] (.int (am_i 60) :: sk) st Q := am_gu.trans rfl
theorem u5007_7 {v0 : Value} {v1 : Value} {v2 : Value} {v3 : Value} {x : Int32} {y : Int32} : am_g d X am_m5007 7 [v0, v1, v2, v3] (.int y :: .int x :: sk) st Q = (if decide (y ≤ x) = true then am_g d X am_m5007 24 [v0, v1, v2, v3] sk st Q else am_g d X am_m5007 10 [v0, v1, v2, v3] sk st Q) := am_gu.trans rfl
theorem u5007_10 {v0 : Value} {v1 : Value} {v3 : Value} {x : Int32} : am_g d X am_m5007 10 [v0, v1, .int x, v3] sk st Q = am_g d X am_m5007 11 [v0, v1, .int x, v3] (.int x :: sk) st Q := am_gu.trans rfl
theorem u5007_11 {v0 : Value} {v1 : Value} {v2 : Value} {v3 : Value} {x : Int32} : am_g d X am_m5007 11 [v0, v1, v2, v3] (.int x :: sk) st Q = (if decide (x < 0) = true then am_g d X am_m5007 24 [v0, v1, v2, v3] sk st Q else am_g d X am_m5007 14 [v0, v1, v2, v3] sk st Q) := am_gu.trans rfl
theorem u5007_14 {v0 : Value} {v1 : Value} {v3 : Value} {x : Int32} : am_g d X am_m5007 14 [v0, v1, .int x, v3] sk st Q = am_g d X am_m5007 15 [v0, v1, .int x, v3] (.int x :: sk) st Q := am_gu.trans rfl
theorem u5007_15 {v0 : Value} {v1 : Value} {v2 : Value} {v3 : Value} : am_g d X am_m5007 15 [v0, v1, v2, v3] sk st Q = am_g d X am_m5007 17 [v0, v1, v2, v3] (.int (am_i 24) :: sk) st Q := am_gu.trans rfl
theorem u5007_17 {v0 : Value} {v1 : Value} {v2 : Value} {v3 : Value} {x : Int32} {y : Int32} : am_g d X am_m5007 17 [v0, v1, v2, v3] (.int y :: .int x :: sk) st Q = (if decide (y ≤ x) = true then am_g d X am_m5007 24 [v0, v1, v2, v3] sk st Q else am_g d X am_m5007 20 [v0, v1, v2, v3] sk st Q) := am_gu.trans rfl
theorem u5007_20 {v0 : Value} {v1 : Value} {v2 : Value} {v3 : Value} : am_g d X am_m5007 20 [v0, v1, v2, v3] sk st Q = am_g d X am_m5007 21 [v0, v1, v2, v3] (.int (am_i 1) :: sk) st Q := am_gu.trans rfl
theorem u5007_21 {v0 : Value} {v1 : Value} {v2 : Value} {v3 : Value} : am_g d X am_m5007 21 [v0, v1, v2, v3] sk st Q = am_g d X am_m5007 25 [v0, v1, v2, v3] sk st Q := am_gu.trans rfl
theorem u5007_24 {v0 : Value} {v1 : Value} {v2 : Value} {v3 : Value} : am_g d X am_m5007 24 [v0, v1, v2, v3] sk st Q = am_g d X am_m5007 25 [v0, v1, v2, v3] (.int (am_i 0) :: sk) st Q := am_gu.trans rfl
theorem u5007_25 {v0 : Value} {v1 : Value} {v2 : Value} {v3 : Value} {x : Int32} : am_g d X am_m5007 25 [v0, v1, v2, v3] (.int x :: sk) st Q = am_g d X am_m5007 26 [v0, v1, am_kc v2, .int x] sk st Q := am_gu.trans (congrArg (fun l => am_g d X am_m5007 26 (List.set l 3 (.int x)) sk st Q) (kl_3 (l := [v3])))
theorem u5007_26 {v0 : Value} {v1 : Value} {v2 : Value} {x : Int32} : am_g d X am_m5007 26 [v0, v1, v2, .int x] sk st Q = am_g d X am_m5007 27 [v0, v1, v2, .int x] (.int x :: sk) st Q := am_gu.trans rfl
theorem u5007_27 {v0 : Value} {v1 : Value} {v2 : Value} {v3 : Value} {x : Int32} : am_g d X am_m5007 27 [v0, v1, v2, v3] (.int x :: sk) st Q = (if decide (x = 0) = true then am_g d X am_m5007 44 [v0, v1, v2, v3] sk st Q else am_g d X am_m5007 30 [v0, v1, v2, v3] sk st Q) := am_gu.trans rfl
theorem u5007_30 {v1 : Value} {v2 : Value} {v3 : Value} {x : Nat} : am_g d X am_m5007 30 [.ref x, v1, v2, v3] sk st Q = am_g d X am_m5007 31 [.ref x, v1, v2, v3] (.ref x :: sk) st Q := am_gu.trans rfl
theorem u5007_31 {v0 : Value} {v1 : Value} {v2 : Value} {v3 : Value} : am_g d X am_m5007 31 [v0, v1, v2, v3] sk st Q = am_gt 163 34 [v0, v1, v2, v3] sk st (fun pc lc sk st => am_g d X am_m5007 pc lc sk st Q) := am_gu.trans rfl
theorem u5007_34 {v0 : Value} {v2 : Value} {v3 : Value} {x : Int32} : am_g d X am_m5007 34 [v0, .int x, v2, v3] sk st Q = am_g d X am_m5007 35 [v0, .int x, v2, v3] (.int x :: sk) st Q := am_gu.trans rfl
theorem u5007_35 {v0 : Value} {v1 : Value} {v2 : Value} {v3 : Value} : am_g d X am_m5007 35 [v0, v1, v2, v3] sk st Q = am_g d X am_m5007 37 [v0, v1, v2, v3] (.int (am_i 24) :: sk) st Q := am_gu.trans rfl
theorem u5007_37 {v0 : Value} {v1 : Value} {v2 : Value} {v3 : Value} {x : Int32} {y : Int32} : am_g d X am_m5007 37 [v0, v1, v2, v3] (.int y :: .int x :: sk) st Q = am_g d X am_m5007 38 [v0, v1, v2, v3] (.int (x * y) :: sk) st Q := am_gu.trans rfl
theorem u5007_38 {v0 : Value} {v1 : Value} {v3 : Value} {x : Int32} : am_g d X am_m5007 38 [v0, v1, .int x, v3] sk st Q = am_g d X am_m5007 39 [v0, v1, .int x, v3] (.int x :: sk) st Q := am_gu.trans rfl
theorem u5007_39 {v0 : Value} {v1 : Value} {v2 : Value} {v3 : Value} {x : Int32} {y : Int32} : am_g d X am_m5007 39 [v0, v1, v2, v3] (.int y :: .int x :: sk) st Q = am_g d X am_m5007 40 [v0, v1, v2, v3] (.int (x + y) :: sk) st Q := am_gu.trans rfl
theorem u5007_40 {v0 : Value} {v1 : Value} {v2 : Value} {v3 : Value} : am_g d X am_m5007 40 [v0, v1, v2, v3] sk st Q = am_xl (X.1, X.2.1, d) am_m5007 41 [v0, v1, v2, v3] sk st (fun pc lc sk st => am_g d X am_m5007 pc lc sk st Q) := am_gu.trans rfl
theorem u5007_41 {v0 : Value} {v1 : Value} {v2 : Value} {v3 : Value} : am_g d X am_m5007 41 [v0, v1, v2, v3] sk st Q = am_g d X am_m5007 45 [v0, v1, v2, v3] sk st Q := am_gu.trans rfl
theorem u5007_44 {v0 : Value} {v1 : Value} {v2 : Value} {v3 : Value} : am_g d X am_m5007 44 [v0, v1, v2, v3] sk st Q = am_g d X am_m5007 45 [v0, v1, v2, v3] (.int (am_i 0) :: sk) st Q := am_gu.trans rfl
theorem u5007_45 {v0 : Value} {v1 : Value} {v2 : Value} {v3 : Value} {x : Int32} : am_g d X am_m5007 45 [v0, v1, v2, v3] [.int x] st Q = Q (.inl (some (.int x))) st := am_gu.trans rfl
set_option maxRecDepth 100000 in
theorem of_5008 : am_of 5008 = some am_m5008 := rfl
theorem c5008 {z a0 a1} {P : am_Q} : am_Ca X (d + 1) 5008 [.ref z, .int a0, .ref a1] st P = am_g d X am_m5008 0 [.ref z, .int a0, .ref a1] [] st P := am_cg of_5008 (by show 3 ≤ 3; decide)
theorem hd_5008 : am_hd am_m5008 = [] := rfl
theorem u5008_0 {v0 : Value} {v2 : Value} {x : Int32} : am_g d X am_m5008 0 [v0, .int x, v2] sk st Q = am_g d X am_m5008 1 [v0, .int x, v2] (.int x :: sk) st Q := am_gu.trans rfl
theorem u5008_1 {v0 : Value} {v1 : Value} {v2 : Value} {x : Int32} : am_g d X am_m5008 1 [v0, v1, v2] (.int x :: sk) st Q = (if decide (x < 0) = true then am_g d X am_m5008 32 [v0, v1, v2] sk st Q else am_g d X am_m5008 4 [v0, v1, v2] sk st Q) := am_gu.trans rfl
theorem u5008_4 {v0 : Value} {v2 : Value} {x : Int32} : am_g d X am_m5008 4 [v0, .int x, v2] sk st Q = am_g d X am_m5008 5 [v0, .int x, v2] (.int x :: sk) st Q := am_gu.trans rfl
theorem u5008_5 {v0 : Value} {v1 : Value} {v2 : Value} : am_g d X am_m5008 5 [v0, v1, v2] sk st Q = am_g d X am_m5008 7 [v0, v1, v2] (.int (am_i 60) :: sk) st Q := am_gu.trans rfl
theorem u5008_7 {v0 : Value} {v1 : Value} {v2 : Value} {x : Int32} {y : Int32} : am_g d X am_m5008 7 [v0, v1, v2] (.int y :: .int x :: sk) st Q = (if decide (y ≤ x) = true then am_g d X am_m5008 32 [v0, v1, v2] sk st Q else am_g d X am_m5008 10 [v0, v1, v2] sk st Q) := am_gu.trans rfl
theorem u5008_10 {v0 : Value} {v1 : Value} {x : Nat} : am_g d X am_m5008 10 [v0, v1, .ref x] sk st Q = am_g d X am_m5008 11 [v0, v1, .ref x] (.ref x :: sk) st Q := am_gu.trans rfl
theorem u5008_11 {v0 : Value} {v1 : Value} {v2 : Value} : am_g d X am_m5008 11 [v0, v1, v2] sk st Q = am_al (X.1, X.2.1, d) am_m5008 12 [v0, v1, v2] sk st (fun pc lc sk st => am_g d X am_m5008 pc lc sk st Q) := am_gu.trans rfl
theorem u5008_12 {v0 : Value} {v1 : Value} {v2 : Value} : am_g d X am_m5008 12 [v0, v1, v2] sk st Q = am_g d X am_m5008 14 [v0, v1, v2] (.int (am_i 24) :: sk) st Q := am_gu.trans rfl
theorem u5008_14 {v0 : Value} {v1 : Value} {v2 : Value} {x : Int32} {y : Int32} : am_g d X am_m5008 14 [v0, v1, v2] (.int y :: .int x :: sk) st Q = (if decide (x < y) = true then am_g d X am_m5008 32 [v0, v1, v2] sk st Q else am_g d X am_m5008 17 [v0, v1, v2] sk st Q) := am_gu.trans rfl
theorem u5008_17 {v1 : Value} {v2 : Value} {x : Nat} : am_g d X am_m5008 17 [.ref x, v1, v2] sk st Q = am_g d X am_m5008 18 [.ref x, v1, v2] (.ref x :: sk) st Q := am_gu.trans rfl
theorem u5008_18 {v0 : Value} {v1 : Value} {v2 : Value} : am_g d X am_m5008 18 [v0, v1, v2] sk st Q = am_gt 163 21 [v0, v1, v2] sk st (fun pc lc sk st => am_g d X am_m5008 pc lc sk st Q) := am_gu.trans rfl
theorem u5008_21 {v0 : Value} {v2 : Value} {x : Int32} : am_g d X am_m5008 21 [v0, .int x, v2] sk st Q = am_g d X am_m5008 22 [v0, .int x, v2] (.int x :: sk) st Q := am_gu.trans rfl
theorem u5008_22 {v0 : Value} {v1 : Value} {v2 : Value} : am_g d X am_m5008 22 [v0, v1, v2] sk st Q = am_g d X am_m5008 24 [v0, v1, v2] (.int (am_i 24) :: sk) st Q := am_gu.trans rfl
theorem u5008_24 {v0 : Value} {v1 : Value} {v2 : Value} {x : Int32} {y : Int32} : am_g d X am_m5008 24 [v0, v1, v2] (.int y :: .int x :: sk) st Q = am_g d X am_m5008 25 [v0, v1, v2] (.int (x * y) :: sk) st Q := am_gu.trans rfl
theorem u5008_25 {v0 : Value} {v1 : Value} {x : Nat} : am_g d X am_m5008 25 [v0, v1, .ref x] sk st Q = am_g d X am_m5008 26 [v0, v1, .ref x] (.ref x :: sk) st Q := am_gu.trans rfl
theorem u5008_26 {v0 : Value} {v1 : Value} {v2 : Value} : am_g d X am_m5008 26 [v0, v1, v2] sk st Q = am_g d X am_m5008 27 [v0, v1, v2] (.int (am_i 0) :: sk) st Q := am_gu.trans rfl
theorem u5008_27 {v0 : Value} {v1 : Value} {v2 : Value} : am_g d X am_m5008 27 [v0, v1, v2] sk st Q = am_g d X am_m5008 29 [v0, v1, v2] (.int (am_i 24) :: sk) st Q := am_gu.trans rfl
theorem u5008_29 {v0 : Value} {v1 : Value} {v2 : Value} : am_g d X am_m5008 29 [v0, v1, v2] sk st Q = am_cp 32 [v0, v1, v2] sk st (fun pc lc sk st => am_g d X am_m5008 pc lc sk st Q) := am_gu.trans rfl
theorem u5008_32 {v0 : Value} {v1 : Value} {v2 : Value} : am_g d X am_m5008 32 [v0, v1, v2] [] st Q = Q (.inl none) st := am_gu.trans rfl
set_option maxRecDepth 100000 in
theorem of_5009 : am_of 5009 = some am_m5009 := rfl
theorem c5009 {z a0 a1} {P : am_Q} : am_Ca X (d + 1) 5009 [.ref z, .int a0, .int a1] st P = am_g d X am_m5009 0 [.ref z, .int a0, .int a1, am_u, am_u] [] st P := am_cg of_5009 (by show 3 ≤ 5; decide)
theorem hd_5009 : am_hd am_m5009 = [] := rfl
theorem u5009_0 {v0 : Value} {v1 : Value} {v2 : Value} {v3 : Value} {v4 : Value} : am_g d X am_m5009 0 [v0, v1, v2, v3, v4] sk st Q = am_g d X am_m5009 1 [v0, v1, v2, v3, v4] (.int (am_i 0) :: sk) st Q := am_gu.trans rfl
theorem u5009_1 {v0 : Value} {v1 : Value} {v2 : Value} {v3 : Value} {v4 : Value} {x : Int32} : am_g d X am_m5009 1 [v0, v1, v2, v3, v4] (.int x :: sk) st Q = am_g d X am_m5009 2 [v0, v1, am_kc v2, .int x, v4] sk st Q := am_gu.trans (congrArg (fun l => am_g d X am_m5009 2 (List.set l 3 (.int x)) sk st Q) (kl_3 (l := [v3, v4])))
theorem u5009_2 {v0 : Value} {v1 : Value} {v2 : Value} {v3 : Value} {v4 : Value} : am_g d X am_m5009 2 [v0, v1, v2, v3, v4] sk st Q = am_g d X am_m5009 3 [v0, v1, v2, v3, v4] (.int (am_i 0) :: sk) st Q := am_gu.trans rfl
theorem u5009_3 {v0 : Value} {v1 : Value} {v2 : Value} {v3 : Value} {v4 : Value} {x : Int32} : am_g d X am_m5009 3 [v0, v1, v2, v3, v4] (.int x :: sk) st Q = am_g d X am_m5009 5 [v0, v1, v2, am_kc v3, .int x] sk st Q := am_gu.trans (congrArg (fun l => am_g d X am_m5009 5 (List.set l 4 (.int x)) sk st Q) (kl_4 (l := [v4])))
theorem u5009_5 {v0 : Value} {v1 : Value} {v2 : Value} {v3 : Value} {x : Int32} : am_g d X am_m5009 5 [v0, v1, v2, v3, .int x] sk st Q = am_g d X am_m5009 7 [v0, v1, v2, v3, .int x] (.int x :: sk) st Q := am_gu.trans rfl
theorem u5009_7 {v0 : Value} {v1 : Value} {v2 : Value} {v3 : Value} {v4 : Value} : am_g d X am_m5009 7 [v0, v1, v2, v3, v4] sk st Q = am_g d X am_m5009 9 [v0, v1, v2, v3, v4] (.int (am_i 24) :: sk) st Q := am_gu.trans rfl
theorem u5009_9 {v0 : Value} {v1 : Value} {v2 : Value} {v3 : Value} {v4 : Value} {x : Int32} {y : Int32} : am_g d X am_m5009 9 [v0, v1, v2, v3, v4] (.int y :: .int x :: sk) st Q = (if decide (y ≤ x) = true then am_g d X am_m5009 38 [v0, v1, v2, v3, v4] sk st Q else am_g d X am_m5009 12 [v0, v1, v2, v3, v4] sk st Q) := am_gu.trans rfl
theorem u5009_12 {v1 : Value} {v2 : Value} {v3 : Value} {v4 : Value} {x : Nat} : am_g d X am_m5009 12 [.ref x, v1, v2, v3, v4] sk st Q = am_g d X am_m5009 13 [.ref x, v1, v2, v3, v4] (.ref x :: sk) st Q := am_gu.trans rfl
theorem u5009_13 {v0 : Value} {v2 : Value} {v3 : Value} {v4 : Value} {x : Int32} : am_g d X am_m5009 13 [v0, .int x, v2, v3, v4] sk st Q = am_g d X am_m5009 14 [v0, .int x, v2, v3, v4] (.int x :: sk) st Q := am_gu.trans rfl
theorem u5009_14 {v0 : Value} {v1 : Value} {v2 : Value} {v3 : Value} {x : Int32} : am_g d X am_m5009 14 [v0, v1, v2, v3, .int x] sk st Q = am_g d X am_m5009 16 [v0, v1, v2, v3, .int x] (.int x :: sk) st Q := am_gu.trans rfl
theorem u5009_16 {a0 : Value} {a1 : Value} {v0 : Value} {v1 : Value} {v2 : Value} {v3 : Value} {v4 : Value} : am_g d X am_m5009 16 [v0, v1, v2, v3, v4] (a1 :: a0 :: .ref o :: sk) st Q = ((am_ob st o 5 ∧ sk.length ≤ 5) ∧ am_Ca X d 5007 [.ref o, a0, a1] st (am_af am_m5009 16 [v0, v1, v2, v3, v4] sk (fun pc lc sk st => am_g d X am_m5009 pc lc sk st Q) Q)) := am_gu.trans rfl
theorem u5009_19 {v1 : Value} {v2 : Value} {v3 : Value} {v4 : Value} {x : Nat} : am_g d X am_m5009 19 [.ref x, v1, v2, v3, v4] sk st Q = am_g d X am_m5009 20 [.ref x, v1, v2, v3, v4] (.ref x :: sk) st Q := am_gu.trans rfl
theorem u5009_20 {v0 : Value} {v1 : Value} {v3 : Value} {v4 : Value} {x : Int32} : am_g d X am_m5009 20 [v0, v1, .int x, v3, v4] sk st Q = am_g d X am_m5009 21 [v0, v1, .int x, v3, v4] (.int x :: sk) st Q := am_gu.trans rfl
theorem u5009_21 {v0 : Value} {v1 : Value} {v2 : Value} {v3 : Value} {x : Int32} : am_g d X am_m5009 21 [v0, v1, v2, v3, .int x] sk st Q = am_g d X am_m5009 23 [v0, v1, v2, v3, .int x] (.int x :: sk) st Q := am_gu.trans rfl
theorem u5009_23 {a0 : Value} {a1 : Value} {v0 : Value} {v1 : Value} {v2 : Value} {v3 : Value} {v4 : Value} : am_g d X am_m5009 23 [v0, v1, v2, v3, v4] (a1 :: a0 :: .ref o :: sk) st Q = ((am_ob st o 5 ∧ sk.length ≤ 5) ∧ am_Ca X d 5007 [.ref o, a0, a1] st (am_af am_m5009 23 [v0, v1, v2, v3, v4] sk (fun pc lc sk st => am_g d X am_m5009 pc lc sk st Q) Q)) := am_gu.trans rfl
theorem u5009_26 {v0 : Value} {v1 : Value} {v2 : Value} {v3 : Value} {v4 : Value} {x : Int32} {y : Int32} : am_g d X am_m5009 26 [v0, v1, v2, v3, v4] (.int y :: .int x :: sk) st Q = (if decide (x = y) = true then am_g d X am_m5009 32 [v0, v1, v2, v3, v4] sk st Q else am_g d X am_m5009 29 [v0, v1, v2, v3, v4] sk st Q) := am_gu.trans rfl
theorem u5009_29 {v0 : Value} {v1 : Value} {v2 : Value} {v4 : Value} {x : Int32} : am_g d X am_m5009 29 [v0, v1, v2, .int x, v4] sk st Q = am_g d X am_m5009 32 [v0, v1, am_kc v2, .int (x + am_i 1), v4] sk st Q := am_gu.trans (congrArg (fun l => am_g d X am_m5009 32 (List.set l 3 (.int (x + am_i 1))) sk st Q) (kl_3 (l := [.int x, v4])))
theorem u5009_32 {v0 : Value} {v1 : Value} {v2 : Value} {v3 : Value} {x : Int32} : am_g d X am_m5009 32 [v0, v1, v2, v3, .int x] sk st Q = am_g d X am_m5009 35 [v0, v1, v2, am_kc v3, .int (x + am_i 1)] sk st Q := am_gu.trans (congrArg (fun l => am_g d X am_m5009 35 (List.set l 4 (.int (x + am_i 1))) sk st Q) (kl_4 (l := [.int x])))
theorem u5009_35 {v0 : Value} {v1 : Value} {v2 : Value} {v3 : Value} {v4 : Value} : am_g d X am_m5009 35 [v0, v1, v2, v3, v4] sk st Q = am_g d X am_m5009 5 [v0, v1, v2, v3, v4] sk st Q := am_gu.trans rfl
theorem u5009_38 {v0 : Value} {v1 : Value} {v2 : Value} {v4 : Value} {x : Int32} : am_g d X am_m5009 38 [v0, v1, v2, .int x, v4] sk st Q = am_g d X am_m5009 39 [v0, v1, v2, .int x, v4] (.int x :: sk) st Q := am_gu.trans rfl
theorem u5009_39 {v0 : Value} {v1 : Value} {v2 : Value} {v3 : Value} {v4 : Value} {x : Int32} : am_g d X am_m5009 39 [v0, v1, v2, v3, v4] [.int x] st Q = Q (.inl (some (.int x))) st := am_gu.trans rfl
set_option maxRecDepth 100000 in
theorem of_5010 : am_of 5010 = some am_m5010 := rfl
theorem c5010 {z} {P : am_Q} : am_Ca X (d + 1) 5010 [.ref z] st P = am_g d X am_m5010 0 [.ref z, am_u, am_u] [] st P := am_cg of_5010 (by show 1 ≤ 3; decide)
theorem hd_5010 : am_hd am_m5010 = [] := rfl
theorem u5010_0 {v0 : Value} {v1 : Value} {v2 : Value} : am_g d X am_m5010 0 [v0, v1, v2] sk st Q = am_g d X am_m5010 1 [v0, v1, v2] (.int (am_i 0) :: sk) st Q := am_gu.trans rfl
theorem u5010_1 {v0 : Value} {v1 : Value} {v2 : Value} {x : Int32} : am_g d X am_m5010 1 [v0, v1, v2] (.int x :: sk) st Q = am_g d X am_m5010 2 [am_kc v0, .int x, v2] sk st Q := am_gu.trans (congrArg (fun l => am_g d X am_m5010 2 (List.set l 1 (.int x)) sk st Q) (kl_1 (l := [v1, v2])))
theorem u5010_2 {v0 : Value} {v1 : Value} {v2 : Value} : am_g d X am_m5010 2 [v0, v1, v2] sk st Q = am_g d X am_m5010 3 [v0, v1, v2] (.int (am_i 0) :: sk) st Q := am_gu.trans rfl
theorem u5010_3 {v0 : Value} {v1 : Value} {v2 : Value} {x : Int32} : am_g d X am_m5010 3 [v0, v1, v2] (.int x :: sk) st Q = am_g d X am_m5010 4 [v0, am_kc v1, .int x] sk st Q := am_gu.trans (congrArg (fun l => am_g d X am_m5010 4 (List.set l 2 (.int x)) sk st Q) (kl_2 (l := [v2])))
theorem u5010_4 {v0 : Value} {v1 : Value} {x : Int32} : am_g d X am_m5010 4 [v0, v1, .int x] sk st Q = am_g d X am_m5010 5 [v0, v1, .int x] (.int x :: sk) st Q := am_gu.trans rfl
theorem u5010_5 {v1 : Value} {v2 : Value} {x : Nat} : am_g d X am_m5010 5 [.ref x, v1, v2] sk st Q = am_g d X am_m5010 6 [.ref x, v1, v2] (.ref x :: sk) st Q := am_gu.trans rfl
theorem u5010_6 {v0 : Value} {v1 : Value} {v2 : Value} : am_g d X am_m5010 6 [v0, v1, v2] sk st Q = am_gt 160 9 [v0, v1, v2] sk st (fun pc lc sk st => am_g d X am_m5010 pc lc sk st Q) := am_gu.trans rfl
theorem u5010_9 {v0 : Value} {v1 : Value} {v2 : Value} {x : Int32} {y : Int32} : am_g d X am_m5010 9 [v0, v1, v2] (.int y :: .int x :: sk) st Q = (if decide (y ≤ x) = true then am_g d X am_m5010 30 [v0, v1, v2] sk st Q else am_g d X am_m5010 12 [v0, v1, v2] sk st Q) := am_gu.trans rfl
theorem u5010_12 {v1 : Value} {v2 : Value} {x : Nat} : am_g d X am_m5010 12 [.ref x, v1, v2] sk st Q = am_g d X am_m5010 13 [.ref x, v1, v2] (.ref x :: sk) st Q := am_gu.trans rfl
theorem u5010_13 {v0 : Value} {v1 : Value} {x : Int32} : am_g d X am_m5010 13 [v0, v1, .int x] sk st Q = am_g d X am_m5010 14 [v0, v1, .int x] (.int x :: sk) st Q := am_gu.trans rfl
theorem u5010_14 {a0 : Value} {v0 : Value} {v1 : Value} {v2 : Value} : am_g d X am_m5010 14 [v0, v1, v2] (a0 :: .ref o :: sk) st Q = ((am_ob st o 5 ∧ sk.length ≤ 5) ∧ am_Ca X d 5006 [.ref o, a0] st (am_af am_m5010 14 [v0, v1, v2] sk (fun pc lc sk st => am_g d X am_m5010 pc lc sk st Q) Q)) := am_gu.trans rfl
theorem u5010_17 {v0 : Value} {v1 : Value} {v2 : Value} : am_g d X am_m5010 17 [v0, v1, v2] sk st Q = am_g d X am_m5010 18 [v0, v1, v2] (.int (am_i (-1)) :: sk) st Q := am_gu.trans rfl
theorem u5010_18 {v0 : Value} {v1 : Value} {v2 : Value} {x : Int32} {y : Int32} : am_g d X am_m5010 18 [v0, v1, v2] (.int y :: .int x :: sk) st Q = (if decide (x = y) = true then am_g d X am_m5010 24 [v0, v1, v2] sk st Q else am_g d X am_m5010 21 [v0, v1, v2] sk st Q) := am_gu.trans rfl
theorem u5010_21 {v0 : Value} {v2 : Value} {x : Int32} : am_g d X am_m5010 21 [v0, .int x, v2] sk st Q = am_g d X am_m5010 24 [am_kc v0, .int (x + am_i 1), v2] sk st Q := am_gu.trans (congrArg (fun l => am_g d X am_m5010 24 (List.set l 1 (.int (x + am_i 1))) sk st Q) (kl_1 (l := [.int x, v2])))
theorem u5010_24 {v0 : Value} {v1 : Value} {x : Int32} : am_g d X am_m5010 24 [v0, v1, .int x] sk st Q = am_g d X am_m5010 27 [v0, am_kc v1, .int (x + am_i 1)] sk st Q := am_gu.trans (congrArg (fun l => am_g d X am_m5010 27 (List.set l 2 (.int (x + am_i 1))) sk st Q) (kl_2 (l := [.int x])))
theorem u5010_27 {v0 : Value} {v1 : Value} {v2 : Value} : am_g d X am_m5010 27 [v0, v1, v2] sk st Q = am_g d X am_m5010 4 [v0, v1, v2] sk st Q := am_gu.trans rfl
theorem u5010_30 {v0 : Value} {v2 : Value} {x : Int32} : am_g d X am_m5010 30 [v0, .int x, v2] sk st Q = am_g d X am_m5010 31 [v0, .int x, v2] (.int x :: sk) st Q := am_gu.trans rfl
theorem u5010_31 {v0 : Value} {v1 : Value} {v2 : Value} {x : Int32} : am_g d X am_m5010 31 [v0, v1, v2] [.int x] st Q = Q (.inl (some (.int x))) st := am_gu.trans rfl
set_option maxRecDepth 100000 in
theorem of_5011 : am_of 5011 = some am_m5011 := rfl
theorem c5011 {z a0 a1} {P : am_Q} : am_Ca X (d + 1) 5011 [.ref z, .int a0, .int a1] st P = am_g d X am_m5011 0 [.ref z, .int a0, .int a1, am_u, am_u, am_u] [] st P := am_cg of_5011 (by show 3 ≤ 6; decide)
theorem hd_5011 : am_hd am_m5011 = [] := rfl
theorem u5011_0 {v0 : Value} {v2 : Value} {v3 : Value} {v4 : Value} {v5 : Value} {x : Int32} : am_g d X am_m5011 0 [v0, .int x, v2, v3, v4, v5] sk st Q = am_g d X am_m5011 1 [v0, .int x, v2, v3, v4, v5] (.int x :: sk) st Q := am_gu.trans rfl
theorem u5011_1 {v0 : Value} {v1 : Value} {v2 : Value} {v3 : Value} {v4 : Value} {v5 : Value} {x : Int32} : am_g d X am_m5011 1 [v0, v1, v2, v3, v4, v5] (.int x :: sk) st Q = am_g d X am_m5011 2 [v0, v1, am_kc v2, .int x, v4, v5] sk st Q := am_gu.trans (congrArg (fun l => am_g d X am_m5011 2 (List.set l 3 (.int x)) sk st Q) (kl_3 (l := [v3, v4, v5])))
theorem u5011_2 {v0 : Value} {v1 : Value} {v2 : Value} {v3 : Value} {v4 : Value} {v5 : Value} : am_g d X am_m5011 2 [v0, v1, v2, v3, v4, v5] sk st Q = am_g d X am_m5011 3 [v0, v1, v2, v3, v4, v5] (.int (am_i 0) :: sk) st Q := am_gu.trans rfl
theorem u5011_3 {v0 : Value} {v1 : Value} {v2 : Value} {v3 : Value} {v4 : Value} {v5 : Value} {x : Int32} : am_g d X am_m5011 3 [v0, v1, v2, v3, v4, v5] (.int x :: sk) st Q = am_g d X am_m5011 5 [v0, v1, v2, am_kc v3, .int x, v5] sk st Q := am_gu.trans (congrArg (fun l => am_g d X am_m5011 5 (List.set l 4 (.int x)) sk st Q) (kl_4 (l := [v4, v5])))
theorem u5011_5 {v0 : Value} {v1 : Value} {v2 : Value} {v3 : Value} {v5 : Value} {x : Int32} : am_g d X am_m5011 5 [v0, v1, v2, v3, .int x, v5] sk st Q = am_g d X am_m5011 7 [v0, v1, v2, v3, .int x, v5] (.int x :: sk) st Q := am_gu.trans rfl
theorem u5011_7 {v0 : Value} {v1 : Value} {v2 : Value} {v3 : Value} {v4 : Value} {v5 : Value} : am_g d X am_m5011 7 [v0, v1, v2, v3, v4, v5] sk st Q = am_g d X am_m5011 9 [v0, v1, v2, v3, v4, v5] (.int (am_i 60) :: sk) st Q := am_gu.trans rfl
theorem u5011_9 {v0 : Value} {v1 : Value} {v2 : Value} {v3 : Value} {v4 : Value} {v5 : Value} {x : Int32} {y : Int32} : am_g d X am_m5011 9 [v0, v1, v2, v3, v4, v5] (.int y :: .int x :: sk) st Q = (if decide (y ≤ x) = true then am_g d X am_m5011 37 [v0, v1, v2, v3, v4, v5] sk st Q else am_g d X am_m5011 12 [v0, v1, v2, v3, v4, v5] sk st Q) := am_gu.trans rfl
theorem u5011_12 {v1 : Value} {v2 : Value} {v3 : Value} {v4 : Value} {v5 : Value} {x : Nat} : am_g d X am_m5011 12 [.ref x, v1, v2, v3, v4, v5] sk st Q = am_g d X am_m5011 13 [.ref x, v1, v2, v3, v4, v5] (.ref x :: sk) st Q := am_gu.trans rfl
theorem u5011_13 {v0 : Value} {v1 : Value} {v2 : Value} {v4 : Value} {v5 : Value} {x : Int32} : am_g d X am_m5011 13 [v0, v1, v2, .int x, v4, v5] sk st Q = am_g d X am_m5011 14 [v0, v1, v2, .int x, v4, v5] (.int x :: sk) st Q := am_gu.trans rfl
theorem u5011_14 {v0 : Value} {v1 : Value} {v3 : Value} {v4 : Value} {v5 : Value} {x : Int32} : am_g d X am_m5011 14 [v0, v1, .int x, v3, v4, v5] sk st Q = am_g d X am_m5011 15 [v0, v1, .int x, v3, v4, v5] (.int x :: sk) st Q := am_gu.trans rfl
theorem u5011_15 {a0 : Value} {a1 : Value} {v0 : Value} {v1 : Value} {v2 : Value} {v3 : Value} {v4 : Value} {v5 : Value} : am_g d X am_m5011 15 [v0, v1, v2, v3, v4, v5] (a1 :: a0 :: .ref o :: sk) st Q = ((am_ob st o 5 ∧ sk.length ≤ 5) ∧ am_Ca X d 5012 [.ref o, a0, a1] st (am_af am_m5011 15 [v0, v1, v2, v3, v4, v5] sk (fun pc lc sk st => am_g d X am_m5011 pc lc sk st Q) Q)) := am_gu.trans rfl
theorem u5011_18 {v0 : Value} {v1 : Value} {v2 : Value} {v3 : Value} {v4 : Value} {v5 : Value} {x : Int32} : am_g d X am_m5011 18 [v0, v1, v2, v3, v4, v5] (.int x :: sk) st Q = am_g d X am_m5011 20 [v0, v1, v2, v3, am_kc v4, .int x] sk st Q := am_gu.trans (congrArg (fun l => am_g d X am_m5011 20 (List.set l 5 (.int x)) sk st Q) (kl_5 (l := [v5])))
theorem u5011_20 {v0 : Value} {v1 : Value} {v2 : Value} {v3 : Value} {v4 : Value} {x : Int32} : am_g d X am_m5011 20 [v0, v1, v2, v3, v4, .int x] sk st Q = am_g d X am_m5011 22 [v0, v1, v2, v3, v4, .int x] (.int x :: sk) st Q := am_gu.trans rfl
theorem u5011_22 {v0 : Value} {v1 : Value} {v2 : Value} {v3 : Value} {v4 : Value} {v5 : Value} : am_g d X am_m5011 22 [v0, v1, v2, v3, v4, v5] sk st Q = am_g d X am_m5011 23 [v0, v1, v2, v3, v4, v5] (.int (am_i (-1)) :: sk) st Q := am_gu.trans rfl
theorem u5011_23 {v0 : Value} {v1 : Value} {v2 : Value} {v3 : Value} {v4 : Value} {v5 : Value} {x : Int32} {y : Int32} : am_g d X am_m5011 23 [v0, v1, v2, v3, v4, v5] (.int y :: .int x :: sk) st Q = (if decide (¬ x = y) = true then am_g d X am_m5011 28 [v0, v1, v2, v3, v4, v5] sk st Q else am_g d X am_m5011 26 [v0, v1, v2, v3, v4, v5] sk st Q) := am_gu.trans rfl
theorem u5011_26 {v0 : Value} {v1 : Value} {v2 : Value} {v4 : Value} {v5 : Value} {x : Int32} : am_g d X am_m5011 26 [v0, v1, v2, .int x, v4, v5] sk st Q = am_g d X am_m5011 27 [v0, v1, v2, .int x, v4, v5] (.int x :: sk) st Q := am_gu.trans rfl
theorem u5011_27 {v0 : Value} {v1 : Value} {v2 : Value} {v3 : Value} {v4 : Value} {v5 : Value} {x : Int32} : am_g d X am_m5011 27 [v0, v1, v2, v3, v4, v5] [.int x] st Q = Q (.inl (some (.int x))) st := am_gu.trans rfl
theorem u5011_28 {v0 : Value} {v1 : Value} {v2 : Value} {v3 : Value} {v4 : Value} {x : Int32} : am_g d X am_m5011 28 [v0, v1, v2, v3, v4, .int x] sk st Q = am_g d X am_m5011 30 [v0, v1, v2, v3, v4, .int x] (.int x :: sk) st Q := am_gu.trans rfl
theorem u5011_30 {v0 : Value} {v1 : Value} {v2 : Value} {v3 : Value} {v4 : Value} {v5 : Value} {x : Int32} : am_g d X am_m5011 30 [v0, v1, v2, v3, v4, v5] (.int x :: sk) st Q = am_g d X am_m5011 31 [v0, v1, am_kc v2, .int x, v4, v5] sk st Q := am_gu.trans (congrArg (fun l => am_g d X am_m5011 31 (List.set l 3 (.int x)) sk st Q) (kl_3 (l := [v3, v4, v5])))
theorem u5011_31 {v0 : Value} {v1 : Value} {v2 : Value} {v3 : Value} {v5 : Value} {x : Int32} : am_g d X am_m5011 31 [v0, v1, v2, v3, .int x, v5] sk st Q = am_g d X am_m5011 34 [v0, v1, v2, am_kc v3, .int (x + am_i 1), v5] sk st Q := am_gu.trans (congrArg (fun l => am_g d X am_m5011 34 (List.set l 4 (.int (x + am_i 1))) sk st Q) (kl_4 (l := [.int x, v5])))
theorem u5011_34 {v0 : Value} {v1 : Value} {v2 : Value} {v3 : Value} {v4 : Value} {v5 : Value} : am_g d X am_m5011 34 [v0, v1, v2, v3, v4, v5] sk st Q = am_g d X am_m5011 5 [v0, v1, v2, v3, v4, v5] sk st Q := am_gu.trans rfl
theorem u5011_37 {v0 : Value} {v1 : Value} {v2 : Value} {v4 : Value} {v5 : Value} {x : Int32} : am_g d X am_m5011 37 [v0, v1, v2, .int x, v4, v5] sk st Q = am_g d X am_m5011 38 [v0, v1, v2, .int x, v4, v5] (.int x :: sk) st Q := am_gu.trans rfl
theorem u5011_38 {v0 : Value} {v1 : Value} {v2 : Value} {v3 : Value} {v4 : Value} {v5 : Value} {x : Int32} : am_g d X am_m5011 38 [v0, v1, v2, v3, v4, v5] [.int x] st Q = Q (.inl (some (.int x))) st := am_gu.trans rfl
set_option maxRecDepth 100000 in
theorem of_5012 : am_of 5012 = some am_m5012 := rfl
theorem c5012 {z a0 a1} {P : am_Q} : am_Ca X (d + 1) 5012 [.ref z, .int a0, .int a1] st P = am_g d X am_m5012 0 [.ref z, .int a0, .int a1, am_u, am_u, am_u] [] st P := am_cg of_5012 (by show 3 ≤ 6; decide)
theorem hd_5012 : am_hd am_m5012 = [] := rfl
theorem u5012_0 {v1 : Value} {v2 : Value} {v3 : Value} {v4 : Value} {v5 : Value} {x : Nat} : am_g d X am_m5012 0 [.ref x, v1, v2, v3, v4, v5] sk st Q = am_g d X am_m5012 1 [.ref x, v1, v2, v3, v4, v5] (.ref x :: sk) st Q := am_gu.trans rfl
theorem u5012_1 {v0 : Value} {v2 : Value} {v3 : Value} {v4 : Value} {v5 : Value} {x : Int32} : am_g d X am_m5012 1 [v0, .int x, v2, v3, v4, v5] sk st Q = am_g d X am_m5012 2 [v0, .int x, v2, v3, v4, v5] (.int x :: sk) st Q := am_gu.trans rfl
theorem u5012_2 {v0 : Value} {v1 : Value} {v3 : Value} {v4 : Value} {v5 : Value} {x : Int32} : am_g d X am_m5012 2 [v0, v1, .int x, v3, v4, v5] sk st Q = am_g d X am_m5012 3 [v0, v1, .int x, v3, v4, v5] (.int x :: sk) st Q := am_gu.trans rfl
theorem u5012_3 {a0 : Value} {a1 : Value} {v0 : Value} {v1 : Value} {v2 : Value} {v3 : Value} {v4 : Value} {v5 : Value} : am_g d X am_m5012 3 [v0, v1, v2, v3, v4, v5] (a1 :: a0 :: .ref o :: sk) st Q = ((am_ob st o 5 ∧ sk.length ≤ 5) ∧ am_Ca X d 5007 [.ref o, a0, a1] st (am_af am_m5012 3 [v0, v1, v2, v3, v4, v5] sk (fun pc lc sk st => am_g d X am_m5012 pc lc sk st Q) Q)) := am_gu.trans rfl
theorem u5012_6 {v0 : Value} {v1 : Value} {v2 : Value} {v3 : Value} {v4 : Value} {v5 : Value} {x : Int32} : am_g d X am_m5012 6 [v0, v1, v2, v3, v4, v5] (.int x :: sk) st Q = am_g d X am_m5012 7 [v0, v1, am_kc v2, .int x, v4, v5] sk st Q := am_gu.trans (congrArg (fun l => am_g d X am_m5012 7 (List.set l 3 (.int x)) sk st Q) (kl_3 (l := [v3, v4, v5])))
theorem u5012_7 {v1 : Value} {v2 : Value} {v3 : Value} {v4 : Value} {v5 : Value} {x : Nat} : am_g d X am_m5012 7 [.ref x, v1, v2, v3, v4, v5] sk st Q = am_g d X am_m5012 8 [.ref x, v1, v2, v3, v4, v5] (.ref x :: sk) st Q := am_gu.trans rfl
theorem u5012_8 {v0 : Value} {v2 : Value} {v3 : Value} {v4 : Value} {v5 : Value} {x : Int32} : am_g d X am_m5012 8 [v0, .int x, v2, v3, v4, v5] sk st Q = am_g d X am_m5012 9 [v0, .int x, v2, v3, v4, v5] (.int x :: sk) st Q := am_gu.trans rfl
theorem u5012_9 {a0 : Value} {v0 : Value} {v1 : Value} {v2 : Value} {v3 : Value} {v4 : Value} {v5 : Value} : am_g d X am_m5012 9 [v0, v1, v2, v3, v4, v5] (a0 :: .ref o :: sk) st Q = ((am_ob st o 5 ∧ sk.length ≤ 5) ∧ am_Ca X d 5005 [.ref o, a0] st (am_af am_m5012 9 [v0, v1, v2, v3, v4, v5] sk (fun pc lc sk st => am_g d X am_m5012 pc lc sk st Q) Q)) := am_gu.trans rfl
theorem u5012_12 {v0 : Value} {v1 : Value} {v2 : Value} {v3 : Value} {v4 : Value} {v5 : Value} {x : Int32} : am_g d X am_m5012 12 [v0, v1, v2, v3, v4, v5] (.int x :: sk) st Q = am_g d X am_m5012 14 [v0, v1, v2, am_kc v3, .int x, v5] sk st Q := am_gu.trans (congrArg (fun l => am_g d X am_m5012 14 (List.set l 4 (.int x)) sk st Q) (kl_4 (l := [v4, v5])))
theorem u5012_14 {v0 : Value} {v1 : Value} {v2 : Value} {v3 : Value} {v5 : Value} {x : Int32} : am_g d X am_m5012 14 [v0, v1, v2, v3, .int x, v5] sk st Q = am_g d X am_m5012 16 [v0, v1, v2, v3, .int x, v5] (.int x :: sk) st Q := am_gu.trans rfl
theorem u5012_16 {v0 : Value} {v1 : Value} {v2 : Value} {v3 : Value} {v4 : Value} {v5 : Value} : am_g d X am_m5012 16 [v0, v1, v2, v3, v4, v5] sk st Q = am_g d X am_m5012 17 [v0, v1, v2, v3, v4, v5] (.int (am_i (-1)) :: sk) st Q := am_gu.trans rfl
theorem u5012_17 {v0 : Value} {v1 : Value} {v2 : Value} {v3 : Value} {v4 : Value} {v5 : Value} {x : Int32} {y : Int32} : am_g d X am_m5012 17 [v0, v1, v2, v3, v4, v5] (.int y :: .int x :: sk) st Q = (if decide (x = y) = true then am_g d X am_m5012 34 [v0, v1, v2, v3, v4, v5] sk st Q else am_g d X am_m5012 20 [v0, v1, v2, v3, v4, v5] sk st Q) := am_gu.trans rfl
theorem u5012_20 {v1 : Value} {v2 : Value} {v3 : Value} {v4 : Value} {v5 : Value} {x : Nat} : am_g d X am_m5012 20 [.ref x, v1, v2, v3, v4, v5] sk st Q = am_g d X am_m5012 21 [.ref x, v1, v2, v3, v4, v5] (.ref x :: sk) st Q := am_gu.trans rfl
theorem u5012_21 {v0 : Value} {v1 : Value} {v2 : Value} {v3 : Value} {v5 : Value} {x : Int32} : am_g d X am_m5012 21 [v0, v1, v2, v3, .int x, v5] sk st Q = am_g d X am_m5012 23 [v0, v1, v2, v3, .int x, v5] (.int x :: sk) st Q := am_gu.trans rfl
theorem u5012_23 {v0 : Value} {v1 : Value} {v3 : Value} {v4 : Value} {v5 : Value} {x : Int32} : am_g d X am_m5012 23 [v0, v1, .int x, v3, v4, v5] sk st Q = am_g d X am_m5012 24 [v0, v1, .int x, v3, v4, v5] (.int x :: sk) st Q := am_gu.trans rfl
theorem u5012_24 {a0 : Value} {a1 : Value} {v0 : Value} {v1 : Value} {v2 : Value} {v3 : Value} {v4 : Value} {v5 : Value} : am_g d X am_m5012 24 [v0, v1, v2, v3, v4, v5] (a1 :: a0 :: .ref o :: sk) st Q = ((am_ob st o 5 ∧ sk.length ≤ 5) ∧ am_Ca X d 5007 [.ref o, a0, a1] st (am_af am_m5012 24 [v0, v1, v2, v3, v4, v5] sk (fun pc lc sk st => am_g d X am_m5012 pc lc sk st Q) Q)) := am_gu.trans rfl
theorem u5012_27 {v0 : Value} {v1 : Value} {v2 : Value} {v4 : Value} {v5 : Value} {x : Int32} : am_g d X am_m5012 27 [v0, v1, v2, .int x, v4, v5] sk st Q = am_g d X am_m5012 28 [v0, v1, v2, .int x, v4, v5] (.int x :: sk) st Q := am_gu.trans rfl
theorem u5012_28 {v0 : Value} {v1 : Value} {v2 : Value} {v3 : Value} {v4 : Value} {v5 : Value} {x : Int32} {y : Int32} : am_g d X am_m5012 28 [v0, v1, v2, v3, v4, v5] (.int y :: .int x :: sk) st Q = (if decide (¬ x = y) = true then am_g d X am_m5012 34 [v0, v1, v2, v3, v4, v5] sk st Q else am_g d X am_m5012 31 [v0, v1, v2, v3, v4, v5] sk st Q) := am_gu.trans rfl
theorem u5012_31 {v0 : Value} {v1 : Value} {v2 : Value} {v3 : Value} {v5 : Value} {x : Int32} : am_g d X am_m5012 31 [v0, v1, v2, v3, .int x, v5] sk st Q = am_g d X am_m5012 33 [v0, v1, v2, v3, .int x, v5] (.int x :: sk) st Q := am_gu.trans rfl
theorem u5012_33 {v0 : Value} {v1 : Value} {v2 : Value} {v3 : Value} {v4 : Value} {v5 : Value} {x : Int32} : am_g d X am_m5012 33 [v0, v1, v2, v3, v4, v5] [.int x] st Q = Q (.inl (some (.int x))) st := am_gu.trans rfl
theorem u5012_34 {v1 : Value} {v2 : Value} {v3 : Value} {v4 : Value} {v5 : Value} {x : Nat} : am_g d X am_m5012 34 [.ref x, v1, v2, v3, v4, v5] sk st Q = am_g d X am_m5012 35 [.ref x, v1, v2, v3, v4, v5] (.ref x :: sk) st Q := am_gu.trans rfl
theorem u5012_35 {v0 : Value} {v2 : Value} {v3 : Value} {v4 : Value} {v5 : Value} {x : Int32} : am_g d X am_m5012 35 [v0, .int x, v2, v3, v4, v5] sk st Q = am_g d X am_m5012 36 [v0, .int x, v2, v3, v4, v5] (.int x :: sk) st Q := am_gu.trans rfl
theorem u5012_36 {a0 : Value} {v0 : Value} {v1 : Value} {v2 : Value} {v3 : Value} {v4 : Value} {v5 : Value} : am_g d X am_m5012 36 [v0, v1, v2, v3, v4, v5] (a0 :: .ref o :: sk) st Q = ((am_ob st o 5 ∧ sk.length ≤ 5) ∧ am_Ca X d 5006 [.ref o, a0] st (am_af am_m5012 36 [v0, v1, v2, v3, v4, v5] sk (fun pc lc sk st => am_g d X am_m5012 pc lc sk st Q) Q)) := am_gu.trans rfl
theorem u5012_39 {v0 : Value} {v1 : Value} {v2 : Value} {v3 : Value} {v4 : Value} {v5 : Value} {x : Int32} : am_g d X am_m5012 39 [v0, v1, v2, v3, v4, v5] (.int x :: sk) st Q = am_g d X am_m5012 41 [v0, v1, v2, v3, am_kc v4, .int x] sk st Q := am_gu.trans (congrArg (fun l => am_g d X am_m5012 41 (List.set l 5 (.int x)) sk st Q) (kl_5 (l := [v5])))
theorem u5012_41 {v0 : Value} {v1 : Value} {v2 : Value} {v3 : Value} {v4 : Value} {x : Int32} : am_g d X am_m5012 41 [v0, v1, v2, v3, v4, .int x] sk st Q = am_g d X am_m5012 43 [v0, v1, v2, v3, v4, .int x] (.int x :: sk) st Q := am_gu.trans rfl
theorem u5012_43 {v0 : Value} {v1 : Value} {v2 : Value} {v3 : Value} {v4 : Value} {v5 : Value} : am_g d X am_m5012 43 [v0, v1, v2, v3, v4, v5] sk st Q = am_g d X am_m5012 44 [v0, v1, v2, v3, v4, v5] (.int (am_i (-1)) :: sk) st Q := am_gu.trans rfl
theorem u5012_44 {v0 : Value} {v1 : Value} {v2 : Value} {v3 : Value} {v4 : Value} {v5 : Value} {x : Int32} {y : Int32} : am_g d X am_m5012 44 [v0, v1, v2, v3, v4, v5] (.int y :: .int x :: sk) st Q = (if decide (x = y) = true then am_g d X am_m5012 63 [v0, v1, v2, v3, v4, v5] sk st Q else am_g d X am_m5012 47 [v0, v1, v2, v3, v4, v5] sk st Q) := am_gu.trans rfl
theorem u5012_47 {v1 : Value} {v2 : Value} {v3 : Value} {v4 : Value} {v5 : Value} {x : Nat} : am_g d X am_m5012 47 [.ref x, v1, v2, v3, v4, v5] sk st Q = am_g d X am_m5012 48 [.ref x, v1, v2, v3, v4, v5] (.ref x :: sk) st Q := am_gu.trans rfl
theorem u5012_48 {v0 : Value} {v1 : Value} {v2 : Value} {v3 : Value} {v4 : Value} {x : Int32} : am_g d X am_m5012 48 [v0, v1, v2, v3, v4, .int x] sk st Q = am_g d X am_m5012 50 [v0, v1, v2, v3, v4, .int x] (.int x :: sk) st Q := am_gu.trans rfl
theorem u5012_50 {v0 : Value} {v1 : Value} {v3 : Value} {v4 : Value} {v5 : Value} {x : Int32} : am_g d X am_m5012 50 [v0, v1, .int x, v3, v4, v5] sk st Q = am_g d X am_m5012 51 [v0, v1, .int x, v3, v4, v5] (.int x :: sk) st Q := am_gu.trans rfl
theorem u5012_51 {a0 : Value} {a1 : Value} {v0 : Value} {v1 : Value} {v2 : Value} {v3 : Value} {v4 : Value} {v5 : Value} : am_g d X am_m5012 51 [v0, v1, v2, v3, v4, v5] (a1 :: a0 :: .ref o :: sk) st Q = ((am_ob st o 5 ∧ sk.length ≤ 5) ∧ am_Ca X d 5007 [.ref o, a0, a1] st (am_af am_m5012 51 [v0, v1, v2, v3, v4, v5] sk (fun pc lc sk st => am_g d X am_m5012 pc lc sk st Q) Q)) := am_gu.trans rfl
theorem u5012_54 {v0 : Value} {v1 : Value} {v2 : Value} {v4 : Value} {v5 : Value} {x : Int32} : am_g d X am_m5012 54 [v0, v1, v2, .int x, v4, v5] sk st Q = am_g d X am_m5012 55 [v0, v1, v2, .int x, v4, v5] (.int x :: sk) st Q := am_gu.trans rfl
theorem u5012_55 {v0 : Value} {v1 : Value} {v2 : Value} {v3 : Value} {v4 : Value} {v5 : Value} {x : Int32} {y : Int32} : am_g d X am_m5012 55 [v0, v1, v2, v3, v4, v5] (.int y :: .int x :: sk) st Q = (if decide (¬ x = y) = true then am_g d X am_m5012 63 [v0, v1, v2, v3, v4, v5] sk st Q else am_g d X am_m5012 58 [v0, v1, v2, v3, v4, v5] sk st Q) := am_gu.trans rfl
theorem u5012_58 {v0 : Value} {v1 : Value} {v2 : Value} {v3 : Value} {v4 : Value} {x : Int32} : am_g d X am_m5012 58 [v0, v1, v2, v3, v4, .int x] sk st Q = am_g d X am_m5012 60 [v0, v1, v2, v3, v4, .int x] (.int x :: sk) st Q := am_gu.trans rfl
theorem u5012_60 {v0 : Value} {v1 : Value} {v2 : Value} {v3 : Value} {v4 : Value} {v5 : Value} : am_g d X am_m5012 60 [v0, v1, v2, v3, v4, v5] sk st Q = am_g d X am_m5012 64 [v0, v1, v2, v3, v4, v5] sk st Q := am_gu.trans rfl
theorem u5012_63 {v0 : Value} {v1 : Value} {v2 : Value} {v3 : Value} {v4 : Value} {v5 : Value} : am_g d X am_m5012 63 [v0, v1, v2, v3, v4, v5] sk st Q = am_g d X am_m5012 64 [v0, v1, v2, v3, v4, v5] (.int (am_i (-1)) :: sk) st Q := am_gu.trans rfl
theorem u5012_64 {v0 : Value} {v1 : Value} {v2 : Value} {v3 : Value} {v4 : Value} {v5 : Value} {x : Int32} : am_g d X am_m5012 64 [v0, v1, v2, v3, v4, v5] [.int x] st Q = Q (.inl (some (.int x))) st := am_gu.trans rfl
set_option maxRecDepth 100000 in
theorem of_5013 : am_of 5013 = some am_m5013 := rfl
theorem c5013 {z a0} {P : am_Q} : am_Ca X (d + 1) 5013 [.ref z, .int a0] st P = am_g d X am_m5013 0 [.ref z, .int a0, am_u] [] st P := am_cg of_5013 (by show 2 ≤ 3; decide)
theorem hd_5013 : am_hd am_m5013 = [] := rfl
theorem u5013_0 {v1 : Value} {v2 : Value} {x : Nat} : am_g d X am_m5013 0 [.ref x, v1, v2] sk st Q = am_g d X am_m5013 1 [.ref x, v1, v2] (.ref x :: sk) st Q := am_gu.trans rfl
theorem u5013_1 {v0 : Value} {v1 : Value} {v2 : Value} : am_g d X am_m5013 1 [v0, v1, v2] sk st Q = am_gt 160 4 [v0, v1, v2] sk st (fun pc lc sk st => am_g d X am_m5013 pc lc sk st Q) := am_gu.trans rfl
theorem u5013_4 {v0 : Value} {v1 : Value} {v2 : Value} {x : Int32} : am_g d X am_m5013 4 [v0, v1, v2] (.int x :: sk) st Q = am_g d X am_m5013 5 [v0, am_kc v1, .int x] sk st Q := am_gu.trans (congrArg (fun l => am_g d X am_m5013 5 (List.set l 2 (.int x)) sk st Q) (kl_2 (l := [v2])))
theorem u5013_5 {v0 : Value} {v1 : Value} {x : Int32} : am_g d X am_m5013 5 [v0, v1, .int x] sk st Q = am_g d X am_m5013 6 [v0, v1, .int x] (.int x :: sk) st Q := am_gu.trans rfl
theorem u5013_6 {v0 : Value} {v1 : Value} {v2 : Value} {x : Int32} : am_g d X am_m5013 6 [v0, v1, v2] (.int x :: sk) st Q = (if decide (x < 0) = true then am_g d X am_m5013 15 [v0, v1, v2] sk st Q else am_g d X am_m5013 9 [v0, v1, v2] sk st Q) := am_gu.trans rfl
theorem u5013_9 {v0 : Value} {v1 : Value} {x : Int32} : am_g d X am_m5013 9 [v0, v1, .int x] sk st Q = am_g d X am_m5013 10 [v0, v1, .int x] (.int x :: sk) st Q := am_gu.trans rfl
theorem u5013_10 {v0 : Value} {v1 : Value} {v2 : Value} : am_g d X am_m5013 10 [v0, v1, v2] sk st Q = am_g d X am_m5013 12 [v0, v1, v2] (.int (am_i 60) :: sk) st Q := am_gu.trans rfl
theorem u5013_12 {v0 : Value} {v1 : Value} {v2 : Value} {x : Int32} {y : Int32} : am_g d X am_m5013 12 [v0, v1, v2] (.int y :: .int x :: sk) st Q = (if decide (x < y) = true then am_g d X am_m5013 17 [v0, v1, v2] sk st Q else am_g d X am_m5013 15 [v0, v1, v2] sk st Q) := am_gu.trans rfl
theorem u5013_15 {v0 : Value} {v1 : Value} {v2 : Value} : am_g d X am_m5013 15 [v0, v1, v2] sk st Q = am_g d X am_m5013 16 [v0, v1, v2] (.int (am_i (-1)) :: sk) st Q := am_gu.trans rfl
theorem u5013_16 {v0 : Value} {v1 : Value} {v2 : Value} {x : Int32} : am_g d X am_m5013 16 [v0, v1, v2] [.int x] st Q = Q (.inl (some (.int x))) st := am_gu.trans rfl
theorem u5013_17 {v1 : Value} {v2 : Value} {x : Nat} : am_g d X am_m5013 17 [.ref x, v1, v2] sk st Q = am_g d X am_m5013 18 [.ref x, v1, v2] (.ref x :: sk) st Q := am_gu.trans rfl
theorem u5013_18 {v0 : Value} {v1 : Value} {v2 : Value} : am_g d X am_m5013 18 [v0, v1, v2] sk st Q = am_gt 161 21 [v0, v1, v2] sk st (fun pc lc sk st => am_g d X am_m5013 pc lc sk st Q) := am_gu.trans rfl
theorem u5013_21 {v0 : Value} {v1 : Value} {x : Int32} : am_g d X am_m5013 21 [v0, v1, .int x] sk st Q = am_g d X am_m5013 22 [v0, v1, .int x] (.int x :: sk) st Q := am_gu.trans rfl
theorem u5013_22 {v1 : Value} {v2 : Value} {x : Nat} : am_g d X am_m5013 22 [.ref x, v1, v2] sk st Q = am_g d X am_m5013 23 [.ref x, v1, v2] (.ref x :: sk) st Q := am_gu.trans rfl
theorem u5013_23 {v0 : Value} {v1 : Value} {v2 : Value} : am_g d X am_m5013 23 [v0, v1, v2] (.ref o :: sk) st Q = ((am_ob st o 5 ∧ sk.length ≤ 5) ∧ am_Ca X d 5016 [.ref o] st (am_af am_m5013 23 [v0, v1, v2] sk (fun pc lc sk st => am_g d X am_m5013 pc lc sk st Q) Q)) := am_gu.trans rfl
theorem u5013_26 {v0 : Value} {v1 : Value} {v2 : Value} : am_g d X am_m5013 26 [v0, v1, v2] sk st Q = am_xs 27 [v0, v1, v2] sk st (fun pc lc sk st => am_g d X am_m5013 pc lc sk st Q) := am_gu.trans rfl
theorem u5013_27 {v1 : Value} {v2 : Value} {x : Nat} : am_g d X am_m5013 27 [.ref x, v1, v2] sk st Q = am_g d X am_m5013 28 [.ref x, v1, v2] (.ref x :: sk) st Q := am_gu.trans rfl
theorem u5013_28 {v0 : Value} {v1 : Value} {v2 : Value} : am_g d X am_m5013 28 [v0, v1, v2] sk st Q = am_gt 162 31 [v0, v1, v2] sk st (fun pc lc sk st => am_g d X am_m5013 pc lc sk st Q) := am_gu.trans rfl
theorem u5013_31 {v0 : Value} {v1 : Value} {x : Int32} : am_g d X am_m5013 31 [v0, v1, .int x] sk st Q = am_g d X am_m5013 32 [v0, v1, .int x] (.int x :: sk) st Q := am_gu.trans rfl
theorem u5013_32 {v0 : Value} {v2 : Value} {x : Int32} : am_g d X am_m5013 32 [v0, .int x, v2] sk st Q = am_g d X am_m5013 33 [v0, .int x, v2] (.int x :: sk) st Q := am_gu.trans rfl
theorem u5013_33 {v0 : Value} {v1 : Value} {v2 : Value} : am_g d X am_m5013 33 [v0, v1, v2] sk st Q = am_xs 34 [v0, v1, v2] sk st (fun pc lc sk st => am_g d X am_m5013 pc lc sk st Q) := am_gu.trans rfl
theorem u5013_34 {v1 : Value} {v2 : Value} {x : Nat} : am_g d X am_m5013 34 [.ref x, v1, v2] sk st Q = am_g d X am_m5013 35 [.ref x, v1, v2] (.ref x :: sk) st Q := am_gu.trans rfl
theorem u5013_35 {v0 : Value} {v1 : Value} {v2 : Value} : am_g d X am_m5013 35 [v0, v1, v2] sk st Q = am_gt 166 38 [v0, v1, v2] sk st (fun pc lc sk st => am_g d X am_m5013 pc lc sk st Q) := am_gu.trans rfl
theorem u5013_38 {v0 : Value} {v1 : Value} {v2 : Value} : am_g d X am_m5013 38 [v0, v1, v2] sk st Q = am_g d X am_m5013 39 [v0, v1, v2] (.int (am_i 0) :: sk) st Q := am_gu.trans rfl
theorem u5013_39 {v1 : Value} {v2 : Value} {x : Nat} : am_g d X am_m5013 39 [.ref x, v1, v2] sk st Q = am_g d X am_m5013 40 [.ref x, v1, v2] (.ref x :: sk) st Q := am_gu.trans rfl
theorem u5013_40 {v0 : Value} {v1 : Value} {v2 : Value} : am_g d X am_m5013 40 [v0, v1, v2] sk st Q = am_gt 163 43 [v0, v1, v2] sk st (fun pc lc sk st => am_g d X am_m5013 pc lc sk st Q) := am_gu.trans rfl
theorem u5013_43 {v0 : Value} {v1 : Value} {x : Int32} : am_g d X am_m5013 43 [v0, v1, .int x] sk st Q = am_g d X am_m5013 44 [v0, v1, .int x] (.int x :: sk) st Q := am_gu.trans rfl
theorem u5013_44 {v0 : Value} {v1 : Value} {v2 : Value} : am_g d X am_m5013 44 [v0, v1, v2] sk st Q = am_g d X am_m5013 46 [v0, v1, v2] (.int (am_i 24) :: sk) st Q := am_gu.trans rfl
theorem u5013_46 {v0 : Value} {v1 : Value} {v2 : Value} {x : Int32} {y : Int32} : am_g d X am_m5013 46 [v0, v1, v2] (.int y :: .int x :: sk) st Q = am_g d X am_m5013 47 [v0, v1, v2] (.int (x * y) :: sk) st Q := am_gu.trans rfl
theorem u5013_47 {v0 : Value} {v1 : Value} {v2 : Value} : am_g d X am_m5013 47 [v0, v1, v2] sk st Q = am_g d X am_m5013 49 [v0, v1, v2] (.int (am_i 24) :: sk) st Q := am_gu.trans rfl
theorem u5013_49 {v0 : Value} {v1 : Value} {v2 : Value} : am_g d X am_m5013 49 [v0, v1, v2] sk st Q = am_cp 52 [v0, v1, v2] sk st (fun pc lc sk st => am_g d X am_m5013 pc lc sk st Q) := am_gu.trans rfl
theorem u5013_52 {v1 : Value} {v2 : Value} {x : Nat} : am_g d X am_m5013 52 [.ref x, v1, v2] sk st Q = am_g d X am_m5013 53 [.ref x, v1, v2] (.ref x :: sk) st Q := am_gu.trans rfl
theorem u5013_53i {v0 : Value} {v1 : Value} {v2 : Value} {x : Int32} : am_g d X am_m5013 53 [v0, v1, v2] (.int x :: sk) st Q = am_g d X am_m5013 54 [v0, v1, v2] (.int x :: .int x :: sk) st Q := am_gu.trans rfl
theorem u5013_53r {v0 : Value} {v1 : Value} {v2 : Value} {x : Nat} : am_g d X am_m5013 53 [v0, v1, v2] (.ref x :: sk) st Q = am_g d X am_m5013 54 [v0, v1, v2] (.ref x :: .ref x :: sk) st Q := am_gu.trans rfl
theorem u5013_54 {v0 : Value} {v1 : Value} {v2 : Value} : am_g d X am_m5013 54 [v0, v1, v2] sk st Q = am_gt 160 57 [v0, v1, v2] sk st (fun pc lc sk st => am_g d X am_m5013 pc lc sk st Q) := am_gu.trans rfl
theorem u5013_57 {v0 : Value} {v1 : Value} {v2 : Value} : am_g d X am_m5013 57 [v0, v1, v2] sk st Q = am_g d X am_m5013 58 [v0, v1, v2] (.int (am_i 1) :: sk) st Q := am_gu.trans rfl
theorem u5013_58 {v0 : Value} {v1 : Value} {v2 : Value} {x : Int32} {y : Int32} : am_g d X am_m5013 58 [v0, v1, v2] (.int y :: .int x :: sk) st Q = am_g d X am_m5013 59 [v0, v1, v2] (.int (x + y) :: sk) st Q := am_gu.trans rfl
theorem u5013_59 {v0 : Value} {v1 : Value} {v2 : Value} : am_g d X am_m5013 59 [v0, v1, v2] sk st Q = am_pt 160 62 [v0, v1, v2] sk st (fun pc lc sk st => am_g d X am_m5013 pc lc sk st Q) := am_gu.trans rfl
theorem u5013_62 {v1 : Value} {v2 : Value} {x : Nat} : am_g d X am_m5013 62 [.ref x, v1, v2] sk st Q = am_g d X am_m5013 63 [.ref x, v1, v2] (.ref x :: sk) st Q := am_gu.trans rfl
theorem u5013_63 {v0 : Value} {v1 : Value} {x : Int32} : am_g d X am_m5013 63 [v0, v1, .int x] sk st Q = am_g d X am_m5013 64 [v0, v1, .int x] (.int x :: sk) st Q := am_gu.trans rfl
theorem u5013_64 {a0 : Value} {v0 : Value} {v1 : Value} {v2 : Value} : am_g d X am_m5013 64 [v0, v1, v2] (a0 :: .ref o :: sk) st Q = ((am_ob st o 5 ∧ sk.length ≤ 5) ∧ am_Ca X d 5020 [.ref o, a0] st (am_af am_m5013 64 [v0, v1, v2] sk (fun pc lc sk st => am_g d X am_m5013 pc lc sk st Q) Q)) := am_gu.trans rfl
theorem u5013_67 {v0 : Value} {v1 : Value} {x : Int32} : am_g d X am_m5013 67 [v0, v1, .int x] sk st Q = am_g d X am_m5013 68 [v0, v1, .int x] (.int x :: sk) st Q := am_gu.trans rfl
theorem u5013_68 {v0 : Value} {v1 : Value} {v2 : Value} {x : Int32} : am_g d X am_m5013 68 [v0, v1, v2] [.int x] st Q = Q (.inl (some (.int x))) st := am_gu.trans rfl
set_option maxRecDepth 100000 in
theorem of_5014 : am_of 5014 = some am_m5014 := rfl
theorem c5014 {z a0} {P : am_Q} : am_Ca X (d + 1) 5014 [.ref z, .int a0] st P = am_g d X am_m5014 0 [.ref z, .int a0] [] st P := am_cg of_5014 (by show 2 ≤ 2; decide)
theorem hd_5014 : am_hd am_m5014 = [] := rfl
theorem u5014_0 {v1 : Value} {x : Nat} : am_g d X am_m5014 0 [.ref x, v1] sk st Q = am_g d X am_m5014 1 [.ref x, v1] (.ref x :: sk) st Q := am_gu.trans rfl
theorem u5014_1 {v0 : Value} {x : Int32} : am_g d X am_m5014 1 [v0, .int x] sk st Q = am_g d X am_m5014 2 [v0, .int x] (.int x :: sk) st Q := am_gu.trans rfl
theorem u5014_2 {a0 : Value} {v0 : Value} {v1 : Value} : am_g d X am_m5014 2 [v0, v1] (a0 :: .ref o :: sk) st Q = ((am_ob st o 5 ∧ sk.length ≤ 5) ∧ am_Ca X d 5015 [.ref o, a0] st (am_af am_m5014 2 [v0, v1] sk (fun pc lc sk st => am_g d X am_m5014 pc lc sk st Q) Q)) := am_gu.trans rfl
theorem u5014_5 {v0 : Value} {v1 : Value} : am_g d X am_m5014 5 [v0, v1] sk st Q = am_g d X am_m5014 6 [v0, v1] (.int (am_i (-1)) :: sk) st Q := am_gu.trans rfl
theorem u5014_6 {v0 : Value} {v1 : Value} {x : Int32} {y : Int32} : am_g d X am_m5014 6 [v0, v1] (.int y :: .int x :: sk) st Q = (if decide (x = y) = true then am_g d X am_m5014 13 [v0, v1] sk st Q else am_g d X am_m5014 9 [v0, v1] sk st Q) := am_gu.trans rfl
theorem u5014_9 {v0 : Value} {v1 : Value} : am_g d X am_m5014 9 [v0, v1] sk st Q = am_g d X am_m5014 10 [v0, v1] (.int (am_i 1) :: sk) st Q := am_gu.trans rfl
theorem u5014_10 {v0 : Value} {v1 : Value} : am_g d X am_m5014 10 [v0, v1] sk st Q = am_g d X am_m5014 14 [v0, v1] sk st Q := am_gu.trans rfl
theorem u5014_13 {v0 : Value} {v1 : Value} : am_g d X am_m5014 13 [v0, v1] sk st Q = am_g d X am_m5014 14 [v0, v1] (.int (am_i 0) :: sk) st Q := am_gu.trans rfl
theorem u5014_14 {v0 : Value} {v1 : Value} {x : Int32} : am_g d X am_m5014 14 [v0, v1] [.int x] st Q = ((x = 0 ∨ x = 1) ∧ Q (.inl (some (.int x))) st) := am_gu.trans rfl
set_option maxRecDepth 100000 in
theorem of_5015 : am_of 5015 = some am_m5015 := rfl
theorem c5015 {z a0} {P : am_Q} : am_Ca X (d + 1) 5015 [.ref z, .int a0] st P = am_g d X am_m5015 0 [.ref z, .int a0] [] st P := am_cg of_5015 (by show 2 ≤ 2; decide)
theorem hd_5015 : am_hd am_m5015 = [] := rfl
theorem u5015_0 {v0 : Value} {x : Int32} : am_g d X am_m5015 0 [v0, .int x] sk st Q = am_g d X am_m5015 1 [v0, .int x] (.int x :: sk) st Q := am_gu.trans rfl
theorem u5015_1 {v0 : Value} {v1 : Value} {x : Int32} : am_g d X am_m5015 1 [v0, v1] (.int x :: sk) st Q = (if decide (x < 0) = true then am_g d X am_m5015 19 [v0, v1] sk st Q else am_g d X am_m5015 4 [v0, v1] sk st Q) := am_gu.trans rfl
theorem u5015_4 {v0 : Value} {x : Int32} : am_g d X am_m5015 4 [v0, .int x] sk st Q = am_g d X am_m5015 5 [v0, .int x] (.int x :: sk) st Q := am_gu.trans rfl
theorem u5015_5 {v0 : Value} {v1 : Value} : am_g d X am_m5015 5 [v0, v1] sk st Q = am_g d X am_m5015 7 [v0, v1] (.int (am_i 6) :: sk) st Q := am_gu.trans rfl
theorem u5015_7 {v0 : Value} {v1 : Value} {x : Int32} {y : Int32} : am_g d X am_m5015 7 [v0, v1] (.int y :: .int x :: sk) st Q = (if decide (y ≤ x) = true then am_g d X am_m5015 19 [v0, v1] sk st Q else am_g d X am_m5015 10 [v0, v1] sk st Q) := am_gu.trans rfl
theorem u5015_10 {v1 : Value} {x : Nat} : am_g d X am_m5015 10 [.ref x, v1] sk st Q = am_g d X am_m5015 11 [.ref x, v1] (.ref x :: sk) st Q := am_gu.trans rfl
theorem u5015_11 {v0 : Value} {v1 : Value} : am_g d X am_m5015 11 [v0, v1] sk st Q = am_gt 164 14 [v0, v1] sk st (fun pc lc sk st => am_g d X am_m5015 pc lc sk st Q) := am_gu.trans rfl
theorem u5015_14 {v0 : Value} {x : Int32} : am_g d X am_m5015 14 [v0, .int x] sk st Q = am_g d X am_m5015 15 [v0, .int x] (.int x :: sk) st Q := am_gu.trans rfl
theorem u5015_15 {v0 : Value} {v1 : Value} : am_g d X am_m5015 15 [v0, v1] sk st Q = am_xl (X.1, X.2.1, d) am_m5015 16 [v0, v1] sk st (fun pc lc sk st => am_g d X am_m5015 pc lc sk st Q) := am_gu.trans rfl
theorem u5015_16 {v0 : Value} {v1 : Value} : am_g d X am_m5015 16 [v0, v1] sk st Q = am_g d X am_m5015 20 [v0, v1] sk st Q := am_gu.trans rfl
theorem u5015_19 {v0 : Value} {v1 : Value} : am_g d X am_m5015 19 [v0, v1] sk st Q = am_g d X am_m5015 20 [v0, v1] (.int (am_i (-1)) :: sk) st Q := am_gu.trans rfl
theorem u5015_20 {v0 : Value} {v1 : Value} {x : Int32} : am_g d X am_m5015 20 [v0, v1] [.int x] st Q = Q (.inl (some (.int x))) st := am_gu.trans rfl
set_option maxRecDepth 100000 in
theorem of_5016 : am_of 5016 = some am_m5016 := rfl
theorem c5016 {z} {P : am_Q} : am_Ca X (d + 1) 5016 [.ref z] st P = am_g d X am_m5016 0 [.ref z] [] st P := am_cg of_5016 (by show 1 ≤ 1; decide)
theorem hd_5016 : am_hd am_m5016 = [] := rfl
theorem u5016_0 {x : Nat} : am_g d X am_m5016 0 [.ref x] sk st Q = am_g d X am_m5016 1 [.ref x] (.ref x :: sk) st Q := am_gu.trans rfl
theorem u5016_1 {v0 : Value} : am_g d X am_m5016 1 [v0] sk st Q = am_gt 165 4 [v0] sk st (fun pc lc sk st => am_g d X am_m5016 pc lc sk st Q) := am_gu.trans rfl
theorem u5016_4 {v0 : Value} {x : Int32} : am_g d X am_m5016 4 [v0] (.int x :: sk) st Q = (if decide (x < 0) = true then am_g d X am_m5016 28 [v0] sk st Q else am_g d X am_m5016 7 [v0] sk st Q) := am_gu.trans rfl
theorem u5016_7 {x : Nat} : am_g d X am_m5016 7 [.ref x] sk st Q = am_g d X am_m5016 8 [.ref x] (.ref x :: sk) st Q := am_gu.trans rfl
theorem u5016_8 {v0 : Value} : am_g d X am_m5016 8 [v0] sk st Q = am_gt 165 11 [v0] sk st (fun pc lc sk st => am_g d X am_m5016 pc lc sk st Q) := am_gu.trans rfl
theorem u5016_11 {v0 : Value} : am_g d X am_m5016 11 [v0] sk st Q = am_g d X am_m5016 13 [v0] (.int (am_i 6) :: sk) st Q := am_gu.trans rfl
theorem u5016_13 {v0 : Value} {x : Int32} {y : Int32} : am_g d X am_m5016 13 [v0] (.int y :: .int x :: sk) st Q = (if decide (y ≤ x) = true then am_g d X am_m5016 28 [v0] sk st Q else am_g d X am_m5016 16 [v0] sk st Q) := am_gu.trans rfl
theorem u5016_16 {x : Nat} : am_g d X am_m5016 16 [.ref x] sk st Q = am_g d X am_m5016 17 [.ref x] (.ref x :: sk) st Q := am_gu.trans rfl
theorem u5016_17 {v0 : Value} : am_g d X am_m5016 17 [v0] sk st Q = am_gt 164 20 [v0] sk st (fun pc lc sk st => am_g d X am_m5016 pc lc sk st Q) := am_gu.trans rfl
theorem u5016_20 {x : Nat} : am_g d X am_m5016 20 [.ref x] sk st Q = am_g d X am_m5016 21 [.ref x] (.ref x :: sk) st Q := am_gu.trans rfl
theorem u5016_21 {v0 : Value} : am_g d X am_m5016 21 [v0] sk st Q = am_gt 165 24 [v0] sk st (fun pc lc sk st => am_g d X am_m5016 pc lc sk st Q) := am_gu.trans rfl
theorem u5016_24 {v0 : Value} : am_g d X am_m5016 24 [v0] sk st Q = am_xl (X.1, X.2.1, d) am_m5016 25 [v0] sk st (fun pc lc sk st => am_g d X am_m5016 pc lc sk st Q) := am_gu.trans rfl
theorem u5016_25 {v0 : Value} : am_g d X am_m5016 25 [v0] sk st Q = am_g d X am_m5016 29 [v0] sk st Q := am_gu.trans rfl
theorem u5016_28 {v0 : Value} : am_g d X am_m5016 28 [v0] sk st Q = am_g d X am_m5016 29 [v0] (.int (am_i (-1)) :: sk) st Q := am_gu.trans rfl
theorem u5016_29 {v0 : Value} {x : Int32} : am_g d X am_m5016 29 [v0] [.int x] st Q = Q (.inl (some (.int x))) st := am_gu.trans rfl
set_option maxRecDepth 100000 in
theorem of_5017 : am_of 5017 = some am_m5017 := rfl
theorem c5017 {z} {P : am_Q} : am_Ca X (d + 1) 5017 [.ref z] st P = am_g d X am_m5017 0 [.ref z, am_u, am_u] [] st P := am_cg of_5017 (by show 1 ≤ 3; decide)
theorem hd_5017 : am_hd am_m5017 = [] := rfl
theorem u5017_0 {v0 : Value} {v1 : Value} {v2 : Value} : am_g d X am_m5017 0 [v0, v1, v2] sk st Q = am_g d X am_m5017 1 [v0, v1, v2] (.int (am_i 0) :: sk) st Q := am_gu.trans rfl
theorem u5017_1 {v0 : Value} {v1 : Value} {v2 : Value} {x : Int32} : am_g d X am_m5017 1 [v0, v1, v2] (.int x :: sk) st Q = am_g d X am_m5017 2 [am_kc v0, .int x, v2] sk st Q := am_gu.trans (congrArg (fun l => am_g d X am_m5017 2 (List.set l 1 (.int x)) sk st Q) (kl_1 (l := [v1, v2])))
theorem u5017_2 {v0 : Value} {v1 : Value} {v2 : Value} : am_g d X am_m5017 2 [v0, v1, v2] sk st Q = am_g d X am_m5017 3 [v0, v1, v2] (.int (am_i 0) :: sk) st Q := am_gu.trans rfl
theorem u5017_3 {v0 : Value} {v1 : Value} {v2 : Value} {x : Int32} : am_g d X am_m5017 3 [v0, v1, v2] (.int x :: sk) st Q = am_g d X am_m5017 4 [v0, am_kc v1, .int x] sk st Q := am_gu.trans (congrArg (fun l => am_g d X am_m5017 4 (List.set l 2 (.int x)) sk st Q) (kl_2 (l := [v2])))
theorem u5017_4 {v0 : Value} {v1 : Value} {x : Int32} : am_g d X am_m5017 4 [v0, v1, .int x] sk st Q = am_g d X am_m5017 5 [v0, v1, .int x] (.int x :: sk) st Q := am_gu.trans rfl
theorem u5017_5 {v0 : Value} {v1 : Value} {v2 : Value} : am_g d X am_m5017 5 [v0, v1, v2] sk st Q = am_g d X am_m5017 7 [v0, v1, v2] (.int (am_i 6) :: sk) st Q := am_gu.trans rfl
theorem u5017_7 {v0 : Value} {v1 : Value} {v2 : Value} {x : Int32} {y : Int32} : am_g d X am_m5017 7 [v0, v1, v2] (.int y :: .int x :: sk) st Q = (if decide (y ≤ x) = true then am_g d X am_m5017 27 [v0, v1, v2] sk st Q else am_g d X am_m5017 10 [v0, v1, v2] sk st Q) := am_gu.trans rfl
theorem u5017_10 {v1 : Value} {v2 : Value} {x : Nat} : am_g d X am_m5017 10 [.ref x, v1, v2] sk st Q = am_g d X am_m5017 11 [.ref x, v1, v2] (.ref x :: sk) st Q := am_gu.trans rfl
theorem u5017_11 {v0 : Value} {v1 : Value} {x : Int32} : am_g d X am_m5017 11 [v0, v1, .int x] sk st Q = am_g d X am_m5017 12 [v0, v1, .int x] (.int x :: sk) st Q := am_gu.trans rfl
theorem u5017_12 {a0 : Value} {v0 : Value} {v1 : Value} {v2 : Value} : am_g d X am_m5017 12 [v0, v1, v2] (a0 :: .ref o :: sk) st Q = ((am_ob st o 5 ∧ sk.length ≤ 5) ∧ am_Ca X d 5014 [.ref o, a0] st (am_af am_m5017 12 [v0, v1, v2] sk (fun pc lc sk st => am_g d X am_m5017 pc lc sk st Q) Q)) := am_gu.trans rfl
theorem u5017_15 {v0 : Value} {v1 : Value} {v2 : Value} {x : Int32} : am_g d X am_m5017 15 [v0, v1, v2] (.int x :: sk) st Q = (if decide (x = 0) = true then am_g d X am_m5017 21 [v0, v1, v2] sk st Q else am_g d X am_m5017 18 [v0, v1, v2] sk st Q) := am_gu.trans rfl
theorem u5017_18 {v0 : Value} {v2 : Value} {x : Int32} : am_g d X am_m5017 18 [v0, .int x, v2] sk st Q = am_g d X am_m5017 21 [am_kc v0, .int (x + am_i 1), v2] sk st Q := am_gu.trans (congrArg (fun l => am_g d X am_m5017 21 (List.set l 1 (.int (x + am_i 1))) sk st Q) (kl_1 (l := [.int x, v2])))
theorem u5017_21 {v0 : Value} {v1 : Value} {x : Int32} : am_g d X am_m5017 21 [v0, v1, .int x] sk st Q = am_g d X am_m5017 24 [v0, am_kc v1, .int (x + am_i 1)] sk st Q := am_gu.trans (congrArg (fun l => am_g d X am_m5017 24 (List.set l 2 (.int (x + am_i 1))) sk st Q) (kl_2 (l := [.int x])))
theorem u5017_24 {v0 : Value} {v1 : Value} {v2 : Value} : am_g d X am_m5017 24 [v0, v1, v2] sk st Q = am_g d X am_m5017 4 [v0, v1, v2] sk st Q := am_gu.trans rfl
theorem u5017_27 {v0 : Value} {v2 : Value} {x : Int32} : am_g d X am_m5017 27 [v0, .int x, v2] sk st Q = am_g d X am_m5017 28 [v0, .int x, v2] (.int x :: sk) st Q := am_gu.trans rfl
theorem u5017_28 {v0 : Value} {v1 : Value} {v2 : Value} {x : Int32} : am_g d X am_m5017 28 [v0, v1, v2] [.int x] st Q = Q (.inl (some (.int x))) st := am_gu.trans rfl
set_option maxRecDepth 100000 in
theorem of_5018 : am_of 5018 = some am_m5018 := rfl
theorem c5018 {z} {P : am_Q} : am_Ca X (d + 1) 5018 [.ref z] st P = am_g d X am_m5018 0 [.ref z, am_u] [] st P := am_cg of_5018 (by show 1 ≤ 2; decide)
theorem hd_5018 : am_hd am_m5018 = [] := rfl
theorem u5018_0 {v0 : Value} {v1 : Value} : am_g d X am_m5018 0 [v0, v1] sk st Q = am_g d X am_m5018 1 [v0, v1] (.int (am_i 0) :: sk) st Q := am_gu.trans rfl
theorem u5018_1 {v0 : Value} {v1 : Value} {x : Int32} : am_g d X am_m5018 1 [v0, v1] (.int x :: sk) st Q = am_g d X am_m5018 2 [am_kc v0, .int x] sk st Q := am_gu.trans (congrArg (fun l => am_g d X am_m5018 2 (List.set l 1 (.int x)) sk st Q) (kl_1 (l := [v1])))
theorem u5018_2 {v0 : Value} {x : Int32} : am_g d X am_m5018 2 [v0, .int x] sk st Q = am_g d X am_m5018 3 [v0, .int x] (.int x :: sk) st Q := am_gu.trans rfl
theorem u5018_3 {v0 : Value} {v1 : Value} : am_g d X am_m5018 3 [v0, v1] sk st Q = am_g d X am_m5018 5 [v0, v1] (.int (am_i 6) :: sk) st Q := am_gu.trans rfl
theorem u5018_5 {v0 : Value} {v1 : Value} {x : Int32} {y : Int32} : am_g d X am_m5018 5 [v0, v1] (.int y :: .int x :: sk) st Q = (if decide (y ≤ x) = true then am_g d X am_m5018 24 [v0, v1] sk st Q else am_g d X am_m5018 8 [v0, v1] sk st Q) := am_gu.trans rfl
theorem u5018_8 {v1 : Value} {x : Nat} : am_g d X am_m5018 8 [.ref x, v1] sk st Q = am_g d X am_m5018 9 [.ref x, v1] (.ref x :: sk) st Q := am_gu.trans rfl
theorem u5018_9 {v0 : Value} {x : Int32} : am_g d X am_m5018 9 [v0, .int x] sk st Q = am_g d X am_m5018 10 [v0, .int x] (.int x :: sk) st Q := am_gu.trans rfl
theorem u5018_10 {a0 : Value} {v0 : Value} {v1 : Value} : am_g d X am_m5018 10 [v0, v1] (a0 :: .ref o :: sk) st Q = ((am_ob st o 5 ∧ sk.length ≤ 5) ∧ am_Ca X d 5014 [.ref o, a0] st (am_af am_m5018 10 [v0, v1] sk (fun pc lc sk st => am_g d X am_m5018 pc lc sk st Q) Q)) := am_gu.trans rfl
theorem u5018_13 {v0 : Value} {v1 : Value} {x : Int32} : am_g d X am_m5018 13 [v0, v1] (.int x :: sk) st Q = (if decide (¬ x = 0) = true then am_g d X am_m5018 18 [v0, v1] sk st Q else am_g d X am_m5018 16 [v0, v1] sk st Q) := am_gu.trans rfl
theorem u5018_16 {v0 : Value} {x : Int32} : am_g d X am_m5018 16 [v0, .int x] sk st Q = am_g d X am_m5018 17 [v0, .int x] (.int x :: sk) st Q := am_gu.trans rfl
theorem u5018_17 {v0 : Value} {v1 : Value} {x : Int32} : am_g d X am_m5018 17 [v0, v1] [.int x] st Q = Q (.inl (some (.int x))) st := am_gu.trans rfl
theorem u5018_18 {v0 : Value} {x : Int32} : am_g d X am_m5018 18 [v0, .int x] sk st Q = am_g d X am_m5018 21 [am_kc v0, .int (x + am_i 1)] sk st Q := am_gu.trans (congrArg (fun l => am_g d X am_m5018 21 (List.set l 1 (.int (x + am_i 1))) sk st Q) (kl_1 (l := [.int x])))
theorem u5018_21 {v0 : Value} {v1 : Value} : am_g d X am_m5018 21 [v0, v1] sk st Q = am_g d X am_m5018 2 [v0, v1] sk st Q := am_gu.trans rfl
theorem u5018_24 {v0 : Value} {v1 : Value} : am_g d X am_m5018 24 [v0, v1] sk st Q = am_g d X am_m5018 25 [v0, v1] (.int (am_i (-1)) :: sk) st Q := am_gu.trans rfl
theorem u5018_25 {v0 : Value} {v1 : Value} {x : Int32} : am_g d X am_m5018 25 [v0, v1] [.int x] st Q = Q (.inl (some (.int x))) st := am_gu.trans rfl
set_option maxRecDepth 100000 in
theorem of_5019 : am_of 5019 = some am_m5019 := rfl
theorem c5019 {z a0 a1} {P : am_Q} : am_Ca X (d + 1) 5019 [.ref z, .int a0, .int a1] st P = am_g d X am_m5019 0 [.ref z, .int a0, .int a1] [] st P := am_cg of_5019 (by show 3 ≤ 3; decide)
theorem hd_5019 : am_hd am_m5019 = [] := rfl
theorem u5019_0 {v0 : Value} {v2 : Value} {x : Int32} : am_g d X am_m5019 0 [v0, .int x, v2] sk st Q = am_g d X am_m5019 1 [v0, .int x, v2] (.int x :: sk) st Q := am_gu.trans rfl
theorem u5019_1 {v0 : Value} {v1 : Value} {v2 : Value} {x : Int32} : am_g d X am_m5019 1 [v0, v1, v2] (.int x :: sk) st Q = (if decide (x < 0) = true then am_g d X am_m5019 17 [v0, v1, v2] sk st Q else am_g d X am_m5019 4 [v0, v1, v2] sk st Q) := am_gu.trans rfl
theorem u5019_4 {v0 : Value} {v2 : Value} {x : Int32} : am_g d X am_m5019 4 [v0, .int x, v2] sk st Q = am_g d X am_m5019 5 [v0, .int x, v2] (.int x :: sk) st Q := am_gu.trans rfl
theorem u5019_5 {v0 : Value} {v1 : Value} {v2 : Value} : am_g d X am_m5019 5 [v0, v1, v2] sk st Q = am_g d X am_m5019 7 [v0, v1, v2] (.int (am_i 6) :: sk) st Q := am_gu.trans rfl
theorem u5019_7 {v0 : Value} {v1 : Value} {v2 : Value} {x : Int32} {y : Int32} : am_g d X am_m5019 7 [v0, v1, v2] (.int y :: .int x :: sk) st Q = (if decide (y ≤ x) = true then am_g d X am_m5019 17 [v0, v1, v2] sk st Q else am_g d X am_m5019 10 [v0, v1, v2] sk st Q) := am_gu.trans rfl
theorem u5019_10 {v1 : Value} {v2 : Value} {x : Nat} : am_g d X am_m5019 10 [.ref x, v1, v2] sk st Q = am_g d X am_m5019 11 [.ref x, v1, v2] (.ref x :: sk) st Q := am_gu.trans rfl
theorem u5019_11 {v0 : Value} {v1 : Value} {v2 : Value} : am_g d X am_m5019 11 [v0, v1, v2] sk st Q = am_gt 164 14 [v0, v1, v2] sk st (fun pc lc sk st => am_g d X am_m5019 pc lc sk st Q) := am_gu.trans rfl
theorem u5019_14 {v0 : Value} {v2 : Value} {x : Int32} : am_g d X am_m5019 14 [v0, .int x, v2] sk st Q = am_g d X am_m5019 15 [v0, .int x, v2] (.int x :: sk) st Q := am_gu.trans rfl
theorem u5019_15 {v0 : Value} {v1 : Value} {x : Int32} : am_g d X am_m5019 15 [v0, v1, .int x] sk st Q = am_g d X am_m5019 16 [v0, v1, .int x] (.int x :: sk) st Q := am_gu.trans rfl
theorem u5019_16 {v0 : Value} {v1 : Value} {v2 : Value} : am_g d X am_m5019 16 [v0, v1, v2] sk st Q = am_xs 17 [v0, v1, v2] sk st (fun pc lc sk st => am_g d X am_m5019 pc lc sk st Q) := am_gu.trans rfl
theorem u5019_17 {v0 : Value} {v1 : Value} {v2 : Value} : am_g d X am_m5019 17 [v0, v1, v2] [] st Q = Q (.inl none) st := am_gu.trans rfl
set_option maxRecDepth 100000 in
theorem of_5020 : am_of 5020 = some am_m5020 := rfl
theorem c5020 {z a0} {P : am_Q} : am_Ca X (d + 1) 5020 [.ref z, .int a0] st P = am_g d X am_m5020 0 [.ref z, .int a0] [] st P := am_cg of_5020 (by show 2 ≤ 2; decide)
theorem hd_5020 : am_hd am_m5020 = [] := rfl
theorem u5020_0 {v1 : Value} {x : Nat} : am_g d X am_m5020 0 [.ref x, v1] sk st Q = am_g d X am_m5020 1 [.ref x, v1] (.ref x :: sk) st Q := am_gu.trans rfl
theorem u5020_1 {v1 : Value} {x : Nat} : am_g d X am_m5020 1 [.ref x, v1] sk st Q = am_g d X am_m5020 2 [.ref x, v1] (.ref x :: sk) st Q := am_gu.trans rfl
theorem u5020_2 {v0 : Value} {v1 : Value} : am_g d X am_m5020 2 [v0, v1] sk st Q = am_gt 165 5 [v0, v1] sk st (fun pc lc sk st => am_g d X am_m5020 pc lc sk st Q) := am_gu.trans rfl
theorem u5020_5 {v0 : Value} {x : Int32} : am_g d X am_m5020 5 [v0, .int x] sk st Q = am_g d X am_m5020 6 [v0, .int x] (.int x :: sk) st Q := am_gu.trans rfl
theorem u5020_6 {a0 : Value} {a1 : Value} {v0 : Value} {v1 : Value} : am_g d X am_m5020 6 [v0, v1] (a1 :: a0 :: .ref o :: sk) st Q = ((am_ob st o 5 ∧ sk.length ≤ 5) ∧ am_Ca X d 5019 [.ref o, a0, a1] st (am_af am_m5020 6 [v0, v1] sk (fun pc lc sk st => am_g d X am_m5020 pc lc sk st Q) Q)) := am_gu.trans rfl
theorem u5020_9 {v1 : Value} {x : Nat} : am_g d X am_m5020 9 [.ref x, v1] sk st Q = am_g d X am_m5020 10 [.ref x, v1] (.ref x :: sk) st Q := am_gu.trans rfl
theorem u5020_10 {v0 : Value} {x : Int32} : am_g d X am_m5020 10 [v0, .int x] sk st Q = am_g d X am_m5020 11 [v0, .int x] (.int x :: sk) st Q := am_gu.trans rfl
theorem u5020_11 {v1 : Value} {x : Nat} : am_g d X am_m5020 11 [.ref x, v1] sk st Q = am_g d X am_m5020 12 [.ref x, v1] (.ref x :: sk) st Q := am_gu.trans rfl
theorem u5020_12 {v0 : Value} {v1 : Value} : am_g d X am_m5020 12 [v0, v1] sk st Q = am_gt 166 15 [v0, v1] sk st (fun pc lc sk st => am_g d X am_m5020 pc lc sk st Q) := am_gu.trans rfl
theorem u5020_15 {a0 : Value} {a1 : Value} {v0 : Value} {v1 : Value} : am_g d X am_m5020 15 [v0, v1] (a1 :: a0 :: .ref o :: sk) st Q = ((am_ob st o 5 ∧ sk.length ≤ 5) ∧ am_Ca X d 5008 [.ref o, a0, a1] st (am_af am_m5020 15 [v0, v1] sk (fun pc lc sk st => am_g d X am_m5020 pc lc sk st Q) Q)) := am_gu.trans rfl
theorem u5020_18 {v1 : Value} {x : Nat} : am_g d X am_m5020 18 [.ref x, v1] sk st Q = am_g d X am_m5020 19 [.ref x, v1] (.ref x :: sk) st Q := am_gu.trans rfl
theorem u5020_19 {v0 : Value} {v1 : Value} : am_g d X am_m5020 19 [v0, v1] sk st Q = am_gt 167 22 [v0, v1] sk st (fun pc lc sk st => am_g d X am_m5020 pc lc sk st Q) := am_gu.trans rfl
theorem u5020_22 {v0 : Value} {v1 : Value} : am_g d X am_m5020 22 [v0, v1] sk st Q = am_g d X am_m5020 23 [v0, v1] (.int (am_i (-1)) :: sk) st Q := am_gu.trans rfl
theorem u5020_23 {a0 : Value} {a1 : Value} {v0 : Value} {v1 : Value} : am_g d X am_m5020 23 [v0, v1] (a1 :: a0 :: sk) st Q = (sk.length ≤ 4 ∧ am_Ca X d 9000 [a0, a1] st (am_af am_m5020 23 [v0, v1] sk (fun pc lc sk st => am_g d X am_m5020 pc lc sk st Q) Q)) := am_gu.trans (propext ⟨fun h => ⟨h.1.2, h.2⟩, fun h => ⟨⟨Nat.le_add_left _ _, h.1⟩, h.2⟩⟩)
theorem u5020_26 {v1 : Value} {x : Nat} : am_g d X am_m5020 26 [.ref x, v1] sk st Q = am_g d X am_m5020 27 [.ref x, v1] (.ref x :: sk) st Q := am_gu.trans rfl
theorem u5020_27 {v0 : Value} {v1 : Value} : am_g d X am_m5020 27 [v0, v1] sk st Q = am_g d X am_m5020 28 [v0, v1] (.int (am_i 0) :: sk) st Q := am_gu.trans rfl
theorem u5020_28 {v0 : Value} {v1 : Value} : am_g d X am_m5020 28 [v0, v1] sk st Q = am_pt 168 31 [v0, v1] sk st (fun pc lc sk st => am_g d X am_m5020 pc lc sk st Q) := am_gu.trans rfl
theorem u5020_31 {v1 : Value} {x : Nat} : am_g d X am_m5020 31 [.ref x, v1] sk st Q = am_g d X am_m5020 32 [.ref x, v1] (.ref x :: sk) st Q := am_gu.trans rfl
theorem u5020_32 {v0 : Value} {v1 : Value} : am_g d X am_m5020 32 [v0, v1] sk st Q = am_g d X am_m5020 33 [v0, v1] (.int (am_i (-1)) :: sk) st Q := am_gu.trans rfl
theorem u5020_33 {v0 : Value} {v1 : Value} : am_g d X am_m5020 33 [v0, v1] sk st Q = am_pt 169 36 [v0, v1] sk st (fun pc lc sk st => am_g d X am_m5020 pc lc sk st Q) := am_gu.trans rfl
theorem u5020_36 {v0 : Value} {v1 : Value} : am_g d X am_m5020 36 [v0, v1] [] st Q = Q (.inl none) st := am_gu.trans rfl
set_option maxRecDepth 100000 in
theorem of_5021 : am_of 5021 = some am_m5021 := rfl
theorem c5021 {z a0} {P : am_Q} : am_Ca X (d + 1) 5021 [.ref z, .int a0] st P = am_g d X am_m5021 0 [.ref z, .int a0] [] st P := am_cg of_5021 (by show 2 ≤ 2; decide)
theorem hd_5021 : am_hd am_m5021 = [] := rfl
theorem u5021_0 {v0 : Value} {x : Int32} : am_g d X am_m5021 0 [v0, .int x] sk st Q = am_g d X am_m5021 1 [v0, .int x] (.int x :: sk) st Q := am_gu.trans rfl
theorem u5021_1 {v0 : Value} {v1 : Value} {x : Int32} : am_g d X am_m5021 1 [v0, v1] (.int x :: sk) st Q = (if decide (x < 0) = true then am_g d X am_m5021 19 [v0, v1] sk st Q else am_g d X am_m5021 4 [v0, v1] sk st Q) := am_gu.trans rfl
theorem u5021_4 {v0 : Value} {x : Int32} : am_g d X am_m5021 4 [v0, .int x] sk st Q = am_g d X am_m5021 5 [v0, .int x] (.int x :: sk) st Q := am_gu.trans rfl
theorem u5021_5 {v0 : Value} {v1 : Value} : am_g d X am_m5021 5 [v0, v1] sk st Q = am_g d X am_m5021 7 [v0, v1] (.int (am_i 24) :: sk) st Q := am_gu.trans rfl
theorem u5021_7 {v0 : Value} {v1 : Value} {x : Int32} {y : Int32} : am_g d X am_m5021 7 [v0, v1] (.int y :: .int x :: sk) st Q = (if decide (y ≤ x) = true then am_g d X am_m5021 19 [v0, v1] sk st Q else am_g d X am_m5021 10 [v0, v1] sk st Q) := am_gu.trans rfl
theorem u5021_10 {v1 : Value} {x : Nat} : am_g d X am_m5021 10 [.ref x, v1] sk st Q = am_g d X am_m5021 11 [.ref x, v1] (.ref x :: sk) st Q := am_gu.trans rfl
theorem u5021_11 {v0 : Value} {v1 : Value} : am_g d X am_m5021 11 [v0, v1] sk st Q = am_gt 166 14 [v0, v1] sk st (fun pc lc sk st => am_g d X am_m5021 pc lc sk st Q) := am_gu.trans rfl
theorem u5021_14 {v0 : Value} {x : Int32} : am_g d X am_m5021 14 [v0, .int x] sk st Q = am_g d X am_m5021 15 [v0, .int x] (.int x :: sk) st Q := am_gu.trans rfl
theorem u5021_15 {v0 : Value} {v1 : Value} : am_g d X am_m5021 15 [v0, v1] sk st Q = am_xl (X.1, X.2.1, d) am_m5021 16 [v0, v1] sk st (fun pc lc sk st => am_g d X am_m5021 pc lc sk st Q) := am_gu.trans rfl
theorem u5021_16 {v0 : Value} {v1 : Value} : am_g d X am_m5021 16 [v0, v1] sk st Q = am_g d X am_m5021 20 [v0, v1] sk st Q := am_gu.trans rfl
theorem u5021_19 {v0 : Value} {v1 : Value} : am_g d X am_m5021 19 [v0, v1] sk st Q = am_g d X am_m5021 20 [v0, v1] (.int (am_i 0) :: sk) st Q := am_gu.trans rfl
theorem u5021_20 {v0 : Value} {v1 : Value} {x : Int32} : am_g d X am_m5021 20 [v0, v1] [.int x] st Q = Q (.inl (some (.int x))) st := am_gu.trans rfl
set_option maxRecDepth 100000 in
theorem of_5022 : am_of 5022 = some am_m5022 := rfl
theorem c5022 {z a0 a1} {P : am_Q} : am_Ca X (d + 1) 5022 [.ref z, .int a0, .int a1] st P = am_g d X am_m5022 0 [.ref z, .int a0, .int a1] [] st P := am_cg of_5022 (by show 3 ≤ 3; decide)
theorem hd_5022 : am_hd am_m5022 = [] := rfl
theorem u5022_0 {v0 : Value} {v2 : Value} {x : Int32} : am_g d X am_m5022 0 [v0, .int x, v2] sk st Q = am_g d X am_m5022 1 [v0, .int x, v2] (.int x :: sk) st Q := am_gu.trans rfl
theorem u5022_1 {v0 : Value} {v1 : Value} {v2 : Value} {x : Int32} : am_g d X am_m5022 1 [v0, v1, v2] (.int x :: sk) st Q = (if decide (x < 0) = true then am_g d X am_m5022 24 [v0, v1, v2] sk st Q else am_g d X am_m5022 4 [v0, v1, v2] sk st Q) := am_gu.trans rfl
theorem u5022_4 {v0 : Value} {v2 : Value} {x : Int32} : am_g d X am_m5022 4 [v0, .int x, v2] sk st Q = am_g d X am_m5022 5 [v0, .int x, v2] (.int x :: sk) st Q := am_gu.trans rfl
theorem u5022_5 {v0 : Value} {v1 : Value} {v2 : Value} : am_g d X am_m5022 5 [v0, v1, v2] sk st Q = am_g d X am_m5022 7 [v0, v1, v2] (.int (am_i 24) :: sk) st Q := am_gu.trans rfl
theorem u5022_7 {v0 : Value} {v1 : Value} {v2 : Value} {x : Int32} {y : Int32} : am_g d X am_m5022 7 [v0, v1, v2] (.int y :: .int x :: sk) st Q = (if decide (y ≤ x) = true then am_g d X am_m5022 24 [v0, v1, v2] sk st Q else am_g d X am_m5022 10 [v0, v1, v2] sk st Q) := am_gu.trans rfl
theorem u5022_10 {v1 : Value} {v2 : Value} {x : Nat} : am_g d X am_m5022 10 [.ref x, v1, v2] sk st Q = am_g d X am_m5022 11 [.ref x, v1, v2] (.ref x :: sk) st Q := am_gu.trans rfl
theorem u5022_11 {v0 : Value} {v1 : Value} {v2 : Value} : am_g d X am_m5022 11 [v0, v1, v2] sk st Q = am_gt 166 14 [v0, v1, v2] sk st (fun pc lc sk st => am_g d X am_m5022 pc lc sk st Q) := am_gu.trans rfl
theorem u5022_14 {v0 : Value} {v2 : Value} {x : Int32} : am_g d X am_m5022 14 [v0, .int x, v2] sk st Q = am_g d X am_m5022 15 [v0, .int x, v2] (.int x :: sk) st Q := am_gu.trans rfl
theorem u5022_15 {v0 : Value} {v1 : Value} {x : Int32} : am_g d X am_m5022 15 [v0, v1, .int x] sk st Q = am_g d X am_m5022 16 [v0, v1, .int x] (.int x :: sk) st Q := am_gu.trans rfl
theorem u5022_16 {v0 : Value} {v1 : Value} {v2 : Value} : am_g d X am_m5022 16 [v0, v1, v2] sk st Q = am_xs 17 [v0, v1, v2] sk st (fun pc lc sk st => am_g d X am_m5022 pc lc sk st Q) := am_gu.trans rfl
theorem u5022_17 {v1 : Value} {v2 : Value} {x : Nat} : am_g d X am_m5022 17 [.ref x, v1, v2] sk st Q = am_g d X am_m5022 18 [.ref x, v1, v2] (.ref x :: sk) st Q := am_gu.trans rfl
theorem u5022_18 {v0 : Value} {v1 : Value} {v2 : Value} : am_g d X am_m5022 18 [v0, v1, v2] sk st Q = am_gt 167 21 [v0, v1, v2] sk st (fun pc lc sk st => am_g d X am_m5022 pc lc sk st Q) := am_gu.trans rfl
theorem u5022_21 {v0 : Value} {v2 : Value} {x : Int32} : am_g d X am_m5022 21 [v0, .int x, v2] sk st Q = am_g d X am_m5022 22 [v0, .int x, v2] (.int x :: sk) st Q := am_gu.trans rfl
theorem u5022_22 {v0 : Value} {v1 : Value} {v2 : Value} : am_g d X am_m5022 22 [v0, v1, v2] sk st Q = am_g d X am_m5022 23 [v0, v1, v2] (.int (am_i (-1)) :: sk) st Q := am_gu.trans rfl
theorem u5022_23 {v0 : Value} {v1 : Value} {v2 : Value} : am_g d X am_m5022 23 [v0, v1, v2] sk st Q = am_xs 24 [v0, v1, v2] sk st (fun pc lc sk st => am_g d X am_m5022 pc lc sk st Q) := am_gu.trans rfl
theorem u5022_24 {v0 : Value} {v1 : Value} {v2 : Value} : am_g d X am_m5022 24 [v0, v1, v2] [] st Q = Q (.inl none) st := am_gu.trans rfl
set_option maxRecDepth 100000 in
theorem of_5023 : am_of 5023 = some am_m5023 := rfl
theorem c5023 {z a0} {P : am_Q} : am_Ca X (d + 1) 5023 [.ref z, .int a0] st P = am_g d X am_m5023 0 [.ref z, .int a0] [] st P := am_cg of_5023 (by show 2 ≤ 2; decide)
theorem hd_5023 : am_hd am_m5023 = [] := rfl
theorem u5023_0 {v1 : Value} {x : Nat} : am_g d X am_m5023 0 [.ref x, v1] sk st Q = am_g d X am_m5023 1 [.ref x, v1] (.ref x :: sk) st Q := am_gu.trans rfl
theorem u5023_1 {v0 : Value} {x : Int32} : am_g d X am_m5023 1 [v0, .int x] sk st Q = am_g d X am_m5023 2 [v0, .int x] (.int x :: sk) st Q := am_gu.trans rfl
theorem u5023_2 {a0 : Value} {v0 : Value} {v1 : Value} : am_g d X am_m5023 2 [v0, v1] (a0 :: .ref o :: sk) st Q = ((am_ob st o 5 ∧ sk.length ≤ 5) ∧ am_Ca X d 5021 [.ref o, a0] st (am_af am_m5023 2 [v0, v1] sk (fun pc lc sk st => am_g d X am_m5023 pc lc sk st Q) Q)) := am_gu.trans rfl
theorem u5023_5 {v1 : Value} {x : Nat} : am_g d X am_m5023 5 [.ref x, v1] sk st Q = am_g d X am_m5023 6 [.ref x, v1] (.ref x :: sk) st Q := am_gu.trans rfl
theorem u5023_6 {v1 : Value} {x : Nat} : am_g d X am_m5023 6 [.ref x, v1] sk st Q = am_g d X am_m5023 7 [.ref x, v1] (.ref x :: sk) st Q := am_gu.trans rfl
theorem u5023_7 {v0 : Value} {v1 : Value} : am_g d X am_m5023 7 [v0, v1] (.ref o :: sk) st Q = ((am_ob st o 5 ∧ sk.length ≤ 5) ∧ am_Ca X d 5016 [.ref o] st (am_af am_m5023 7 [v0, v1] sk (fun pc lc sk st => am_g d X am_m5023 pc lc sk st Q) Q)) := am_gu.trans rfl
theorem u5023_10 {v0 : Value} {x : Int32} : am_g d X am_m5023 10 [v0, .int x] sk st Q = am_g d X am_m5023 11 [v0, .int x] (.int x :: sk) st Q := am_gu.trans rfl
theorem u5023_11 {a0 : Value} {a1 : Value} {v0 : Value} {v1 : Value} : am_g d X am_m5023 11 [v0, v1] (a1 :: a0 :: .ref o :: sk) st Q = ((am_ob st o 5 ∧ sk.length ≤ 5) ∧ am_Ca X d 5007 [.ref o, a0, a1] st (am_af am_m5023 11 [v0, v1] sk (fun pc lc sk st => am_g d X am_m5023 pc lc sk st Q) Q)) := am_gu.trans rfl
theorem u5023_14 {v0 : Value} {v1 : Value} {x : Int32} {y : Int32} : am_g d X am_m5023 14 [v0, v1] (.int y :: .int x :: sk) st Q = (if decide (x = y) = true then am_g d X am_m5023 21 [v0, v1] sk st Q else am_g d X am_m5023 17 [v0, v1] sk st Q) := am_gu.trans rfl
theorem u5023_17 {v0 : Value} {v1 : Value} : am_g d X am_m5023 17 [v0, v1] sk st Q = am_g d X am_m5023 18 [v0, v1] (.int (am_i 1) :: sk) st Q := am_gu.trans rfl
theorem u5023_18 {v0 : Value} {v1 : Value} : am_g d X am_m5023 18 [v0, v1] sk st Q = am_g d X am_m5023 22 [v0, v1] sk st Q := am_gu.trans rfl
theorem u5023_21 {v0 : Value} {v1 : Value} : am_g d X am_m5023 21 [v0, v1] sk st Q = am_g d X am_m5023 22 [v0, v1] (.int (am_i 0) :: sk) st Q := am_gu.trans rfl
theorem u5023_22 {v0 : Value} {v1 : Value} {x : Int32} : am_g d X am_m5023 22 [v0, v1] [.int x] st Q = ((x = 0 ∨ x = 1) ∧ Q (.inl (some (.int x))) st) := am_gu.trans rfl
set_option maxRecDepth 100000 in
theorem of_5024 : am_of 5024 = some am_m5024 := rfl
theorem c5024 {z} {P : am_Q} : am_Ca X (d + 1) 5024 [.ref z] st P = am_g d X am_m5024 0 [.ref z, am_u, am_u, am_u] [] st P := am_cg of_5024 (by show 1 ≤ 4; decide)
theorem hd_5024 : am_hd am_m5024 = [] := rfl
theorem u5024_0 {v1 : Value} {v2 : Value} {v3 : Value} {x : Nat} : am_g d X am_m5024 0 [.ref x, v1, v2, v3] sk st Q = am_g d X am_m5024 1 [.ref x, v1, v2, v3] (.ref x :: sk) st Q := am_gu.trans rfl
theorem u5024_1 {v0 : Value} {v1 : Value} {v2 : Value} {v3 : Value} : am_g d X am_m5024 1 [v0, v1, v2, v3] (.ref o :: sk) st Q = ((am_ob st o 5 ∧ sk.length ≤ 5) ∧ am_Ca X d 5016 [.ref o] st (am_af am_m5024 1 [v0, v1, v2, v3] sk (fun pc lc sk st => am_g d X am_m5024 pc lc sk st Q) Q)) := am_gu.trans rfl
theorem u5024_4 {v0 : Value} {v1 : Value} {v2 : Value} {v3 : Value} {x : Int32} : am_g d X am_m5024 4 [v0, v1, v2, v3] (.int x :: sk) st Q = am_g d X am_m5024 5 [am_kc v0, .int x, v2, v3] sk st Q := am_gu.trans (congrArg (fun l => am_g d X am_m5024 5 (List.set l 1 (.int x)) sk st Q) (kl_1 (l := [v1, v2, v3])))
theorem u5024_5 {v0 : Value} {v1 : Value} {v2 : Value} {v3 : Value} : am_g d X am_m5024 5 [v0, v1, v2, v3] sk st Q = am_g d X am_m5024 6 [v0, v1, v2, v3] (.int (am_i 0) :: sk) st Q := am_gu.trans rfl
theorem u5024_6 {v0 : Value} {v1 : Value} {v2 : Value} {v3 : Value} {x : Int32} : am_g d X am_m5024 6 [v0, v1, v2, v3] (.int x :: sk) st Q = am_g d X am_m5024 7 [v0, am_kc v1, .int x, v3] sk st Q := am_gu.trans (congrArg (fun l => am_g d X am_m5024 7 (List.set l 2 (.int x)) sk st Q) (kl_2 (l := [v2, v3])))
theorem u5024_7 {v0 : Value} {v1 : Value} {v2 : Value} {v3 : Value} : am_g d X am_m5024 7 [v0, v1, v2, v3] sk st Q = am_g d X am_m5024 8 [v0, v1, v2, v3] (.int (am_i 0) :: sk) st Q := am_gu.trans rfl
theorem u5024_8 {v0 : Value} {v1 : Value} {v2 : Value} {v3 : Value} {x : Int32} : am_g d X am_m5024 8 [v0, v1, v2, v3] (.int x :: sk) st Q = am_g d X am_m5024 9 [v0, v1, am_kc v2, .int x] sk st Q := am_gu.trans (congrArg (fun l => am_g d X am_m5024 9 (List.set l 3 (.int x)) sk st Q) (kl_3 (l := [v3])))
theorem u5024_9 {v0 : Value} {v1 : Value} {v2 : Value} {x : Int32} : am_g d X am_m5024 9 [v0, v1, v2, .int x] sk st Q = am_g d X am_m5024 10 [v0, v1, v2, .int x] (.int x :: sk) st Q := am_gu.trans rfl
theorem u5024_10 {v0 : Value} {v1 : Value} {v2 : Value} {v3 : Value} : am_g d X am_m5024 10 [v0, v1, v2, v3] sk st Q = am_g d X am_m5024 12 [v0, v1, v2, v3] (.int (am_i 24) :: sk) st Q := am_gu.trans rfl
theorem u5024_12 {v0 : Value} {v1 : Value} {v2 : Value} {v3 : Value} {x : Int32} {y : Int32} : am_g d X am_m5024 12 [v0, v1, v2, v3] (.int y :: .int x :: sk) st Q = (if decide (y ≤ x) = true then am_g d X am_m5024 39 [v0, v1, v2, v3] sk st Q else am_g d X am_m5024 15 [v0, v1, v2, v3] sk st Q) := am_gu.trans rfl
theorem u5024_15 {v1 : Value} {v2 : Value} {v3 : Value} {x : Nat} : am_g d X am_m5024 15 [.ref x, v1, v2, v3] sk st Q = am_g d X am_m5024 16 [.ref x, v1, v2, v3] (.ref x :: sk) st Q := am_gu.trans rfl
theorem u5024_16 {v0 : Value} {v1 : Value} {v2 : Value} {v3 : Value} : am_g d X am_m5024 16 [v0, v1, v2, v3] sk st Q = am_gt 166 19 [v0, v1, v2, v3] sk st (fun pc lc sk st => am_g d X am_m5024 pc lc sk st Q) := am_gu.trans rfl
theorem u5024_19 {v0 : Value} {v1 : Value} {v2 : Value} {x : Int32} : am_g d X am_m5024 19 [v0, v1, v2, .int x] sk st Q = am_g d X am_m5024 20 [v0, v1, v2, .int x] (.int x :: sk) st Q := am_gu.trans rfl
theorem u5024_20 {v0 : Value} {v1 : Value} {v2 : Value} {v3 : Value} : am_g d X am_m5024 20 [v0, v1, v2, v3] sk st Q = am_xl (X.1, X.2.1, d) am_m5024 21 [v0, v1, v2, v3] sk st (fun pc lc sk st => am_g d X am_m5024 pc lc sk st Q) := am_gu.trans rfl
theorem u5024_21 {v1 : Value} {v2 : Value} {v3 : Value} {x : Nat} : am_g d X am_m5024 21 [.ref x, v1, v2, v3] sk st Q = am_g d X am_m5024 22 [.ref x, v1, v2, v3] (.ref x :: sk) st Q := am_gu.trans rfl
theorem u5024_22 {v0 : Value} {v2 : Value} {v3 : Value} {x : Int32} : am_g d X am_m5024 22 [v0, .int x, v2, v3] sk st Q = am_g d X am_m5024 23 [v0, .int x, v2, v3] (.int x :: sk) st Q := am_gu.trans rfl
theorem u5024_23 {v0 : Value} {v1 : Value} {v2 : Value} {x : Int32} : am_g d X am_m5024 23 [v0, v1, v2, .int x] sk st Q = am_g d X am_m5024 24 [v0, v1, v2, .int x] (.int x :: sk) st Q := am_gu.trans rfl
theorem u5024_24 {a0 : Value} {a1 : Value} {v0 : Value} {v1 : Value} {v2 : Value} {v3 : Value} : am_g d X am_m5024 24 [v0, v1, v2, v3] (a1 :: a0 :: .ref o :: sk) st Q = ((am_ob st o 5 ∧ sk.length ≤ 5) ∧ am_Ca X d 5007 [.ref o, a0, a1] st (am_af am_m5024 24 [v0, v1, v2, v3] sk (fun pc lc sk st => am_g d X am_m5024 pc lc sk st Q) Q)) := am_gu.trans rfl
theorem u5024_27 {v0 : Value} {v1 : Value} {v2 : Value} {v3 : Value} {x : Int32} {y : Int32} : am_g d X am_m5024 27 [v0, v1, v2, v3] (.int y :: .int x :: sk) st Q = (if decide (x = y) = true then am_g d X am_m5024 33 [v0, v1, v2, v3] sk st Q else am_g d X am_m5024 30 [v0, v1, v2, v3] sk st Q) := am_gu.trans rfl
theorem u5024_30 {v0 : Value} {v1 : Value} {v3 : Value} {x : Int32} : am_g d X am_m5024 30 [v0, v1, .int x, v3] sk st Q = am_g d X am_m5024 33 [v0, am_kc v1, .int (x + am_i 1), v3] sk st Q := am_gu.trans (congrArg (fun l => am_g d X am_m5024 33 (List.set l 2 (.int (x + am_i 1))) sk st Q) (kl_2 (l := [.int x, v3])))
theorem u5024_33 {v0 : Value} {v1 : Value} {v2 : Value} {x : Int32} : am_g d X am_m5024 33 [v0, v1, v2, .int x] sk st Q = am_g d X am_m5024 36 [v0, v1, am_kc v2, .int (x + am_i 1)] sk st Q := am_gu.trans (congrArg (fun l => am_g d X am_m5024 36 (List.set l 3 (.int (x + am_i 1))) sk st Q) (kl_3 (l := [.int x])))
theorem u5024_36 {v0 : Value} {v1 : Value} {v2 : Value} {v3 : Value} : am_g d X am_m5024 36 [v0, v1, v2, v3] sk st Q = am_g d X am_m5024 9 [v0, v1, v2, v3] sk st Q := am_gu.trans rfl
theorem u5024_39 {v0 : Value} {v1 : Value} {v3 : Value} {x : Int32} : am_g d X am_m5024 39 [v0, v1, .int x, v3] sk st Q = am_g d X am_m5024 40 [v0, v1, .int x, v3] (.int x :: sk) st Q := am_gu.trans rfl
theorem u5024_40 {v0 : Value} {v1 : Value} {v2 : Value} {v3 : Value} {x : Int32} : am_g d X am_m5024 40 [v0, v1, v2, v3] [.int x] st Q = Q (.inl (some (.int x))) st := am_gu.trans rfl
set_option maxRecDepth 100000 in
theorem of_5025 : am_of 5025 = some am_m5025 := rfl
theorem c5025 {z} {P : am_Q} : am_Ca X (d + 1) 5025 [.ref z] st P = am_g d X am_m5025 0 [.ref z, am_u, am_u] [] st P := am_cg of_5025 (by show 1 ≤ 3; decide)
theorem hd_5025 : am_hd am_m5025 = [] := rfl
theorem u5025_0 {v0 : Value} {v1 : Value} {v2 : Value} : am_g d X am_m5025 0 [v0, v1, v2] sk st Q = am_g d X am_m5025 1 [v0, v1, v2] (.int (am_i 0) :: sk) st Q := am_gu.trans rfl
theorem u5025_1 {v0 : Value} {v1 : Value} {v2 : Value} {x : Int32} : am_g d X am_m5025 1 [v0, v1, v2] (.int x :: sk) st Q = am_g d X am_m5025 2 [am_kc v0, .int x, v2] sk st Q := am_gu.trans (congrArg (fun l => am_g d X am_m5025 2 (List.set l 1 (.int x)) sk st Q) (kl_1 (l := [v1, v2])))
theorem u5025_2 {v0 : Value} {v1 : Value} {v2 : Value} : am_g d X am_m5025 2 [v0, v1, v2] sk st Q = am_g d X am_m5025 3 [v0, v1, v2] (.int (am_i 0) :: sk) st Q := am_gu.trans rfl
theorem u5025_3 {v0 : Value} {v1 : Value} {v2 : Value} {x : Int32} : am_g d X am_m5025 3 [v0, v1, v2] (.int x :: sk) st Q = am_g d X am_m5025 4 [v0, am_kc v1, .int x] sk st Q := am_gu.trans (congrArg (fun l => am_g d X am_m5025 4 (List.set l 2 (.int x)) sk st Q) (kl_2 (l := [v2])))
theorem u5025_4 {v0 : Value} {v1 : Value} {x : Int32} : am_g d X am_m5025 4 [v0, v1, .int x] sk st Q = am_g d X am_m5025 5 [v0, v1, .int x] (.int x :: sk) st Q := am_gu.trans rfl
theorem u5025_5 {v0 : Value} {v1 : Value} {v2 : Value} : am_g d X am_m5025 5 [v0, v1, v2] sk st Q = am_g d X am_m5025 7 [v0, v1, v2] (.int (am_i 24) :: sk) st Q := am_gu.trans rfl
theorem u5025_7 {v0 : Value} {v1 : Value} {v2 : Value} {x : Int32} {y : Int32} : am_g d X am_m5025 7 [v0, v1, v2] (.int y :: .int x :: sk) st Q = (if decide (y ≤ x) = true then am_g d X am_m5025 28 [v0, v1, v2] sk st Q else am_g d X am_m5025 10 [v0, v1, v2] sk st Q) := am_gu.trans rfl
theorem u5025_10 {v1 : Value} {v2 : Value} {x : Nat} : am_g d X am_m5025 10 [.ref x, v1, v2] sk st Q = am_g d X am_m5025 11 [.ref x, v1, v2] (.ref x :: sk) st Q := am_gu.trans rfl
theorem u5025_11 {v0 : Value} {v1 : Value} {v2 : Value} : am_g d X am_m5025 11 [v0, v1, v2] sk st Q = am_gt 166 14 [v0, v1, v2] sk st (fun pc lc sk st => am_g d X am_m5025 pc lc sk st Q) := am_gu.trans rfl
theorem u5025_14 {v0 : Value} {v1 : Value} {x : Int32} : am_g d X am_m5025 14 [v0, v1, .int x] sk st Q = am_g d X am_m5025 15 [v0, v1, .int x] (.int x :: sk) st Q := am_gu.trans rfl
theorem u5025_15 {v0 : Value} {v1 : Value} {v2 : Value} : am_g d X am_m5025 15 [v0, v1, v2] sk st Q = am_xl (X.1, X.2.1, d) am_m5025 16 [v0, v1, v2] sk st (fun pc lc sk st => am_g d X am_m5025 pc lc sk st Q) := am_gu.trans rfl
theorem u5025_16 {v0 : Value} {v1 : Value} {v2 : Value} {x : Int32} : am_g d X am_m5025 16 [v0, v1, v2] (.int x :: sk) st Q = (if decide (x = 0) = true then am_g d X am_m5025 22 [v0, v1, v2] sk st Q else am_g d X am_m5025 19 [v0, v1, v2] sk st Q) := am_gu.trans rfl
theorem u5025_19 {v0 : Value} {v2 : Value} {x : Int32} : am_g d X am_m5025 19 [v0, .int x, v2] sk st Q = am_g d X am_m5025 22 [am_kc v0, .int (x + am_i 1), v2] sk st Q := am_gu.trans (congrArg (fun l => am_g d X am_m5025 22 (List.set l 1 (.int (x + am_i 1))) sk st Q) (kl_1 (l := [.int x, v2])))
theorem u5025_22 {v0 : Value} {v1 : Value} {x : Int32} : am_g d X am_m5025 22 [v0, v1, .int x] sk st Q = am_g d X am_m5025 25 [v0, am_kc v1, .int (x + am_i 1)] sk st Q := am_gu.trans (congrArg (fun l => am_g d X am_m5025 25 (List.set l 2 (.int (x + am_i 1))) sk st Q) (kl_2 (l := [.int x])))
theorem u5025_25 {v0 : Value} {v1 : Value} {v2 : Value} : am_g d X am_m5025 25 [v0, v1, v2] sk st Q = am_g d X am_m5025 4 [v0, v1, v2] sk st Q := am_gu.trans rfl
theorem u5025_28 {v0 : Value} {v2 : Value} {x : Int32} : am_g d X am_m5025 28 [v0, .int x, v2] sk st Q = am_g d X am_m5025 29 [v0, .int x, v2] (.int x :: sk) st Q := am_gu.trans rfl
theorem u5025_29 {v0 : Value} {v1 : Value} {v2 : Value} {x : Int32} : am_g d X am_m5025 29 [v0, v1, v2] [.int x] st Q = Q (.inl (some (.int x))) st := am_gu.trans rfl
set_option maxRecDepth 100000 in
theorem of_5026 : am_of 5026 = some am_m5026 := rfl
theorem c5026 {z} {P : am_Q} : am_Ca X (d + 1) 5026 [.ref z] st P = am_g d X am_m5026 0 [.ref z] [] st P := am_cg of_5026 (by show 1 ≤ 1; decide)
theorem hd_5026 : am_hd am_m5026 = [] := rfl
theorem u5026_0 {x : Nat} : am_g d X am_m5026 0 [.ref x] sk st Q = am_g d X am_m5026 1 [.ref x] (.ref x :: sk) st Q := am_gu.trans rfl
theorem u5026_1 {v0 : Value} : am_g d X am_m5026 1 [v0] sk st Q = am_gt 168 4 [v0] sk st (fun pc lc sk st => am_g d X am_m5026 pc lc sk st Q) := am_gu.trans rfl
theorem u5026_4 {v0 : Value} {x : Int32} : am_g d X am_m5026 4 [v0] (.int x :: sk) st Q = (if decide (¬ x = 0) = true then am_g d X am_m5026 18 [v0] sk st Q else am_g d X am_m5026 7 [v0] sk st Q) := am_gu.trans rfl
theorem u5026_7 {x : Nat} : am_g d X am_m5026 7 [.ref x] sk st Q = am_g d X am_m5026 8 [.ref x] (.ref x :: sk) st Q := am_gu.trans rfl
theorem u5026_8 {v0 : Value} : am_g d X am_m5026 8 [v0] (.ref o :: sk) st Q = ((am_ob st o 5 ∧ sk.length ≤ 5) ∧ am_Ca X d 5024 [.ref o] st (am_af am_m5026 8 [v0] sk (fun pc lc sk st => am_g d X am_m5026 pc lc sk st Q) Q)) := am_gu.trans rfl
theorem u5026_11 {v0 : Value} {x : Int32} : am_g d X am_m5026 11 [v0] (.int x :: sk) st Q = (if decide (¬ x = 0) = true then am_g d X am_m5026 18 [v0] sk st Q else am_g d X am_m5026 14 [v0] sk st Q) := am_gu.trans rfl
theorem u5026_14 {v0 : Value} : am_g d X am_m5026 14 [v0] sk st Q = am_g d X am_m5026 15 [v0] (.int (am_i 1) :: sk) st Q := am_gu.trans rfl
theorem u5026_15 {v0 : Value} : am_g d X am_m5026 15 [v0] sk st Q = am_g d X am_m5026 19 [v0] sk st Q := am_gu.trans rfl
theorem u5026_18 {v0 : Value} : am_g d X am_m5026 18 [v0] sk st Q = am_g d X am_m5026 19 [v0] (.int (am_i 0) :: sk) st Q := am_gu.trans rfl
theorem u5026_19 {v0 : Value} {x : Int32} : am_g d X am_m5026 19 [v0] [.int x] st Q = ((x = 0 ∨ x = 1) ∧ Q (.inl (some (.int x))) st) := am_gu.trans rfl
set_option maxRecDepth 100000 in
theorem of_5027 : am_of 5027 = some am_m5027 := rfl
theorem c5027 {z a0} {P : am_Q} : am_Ca X (d + 1) 5027 [.ref z, .int a0] st P = am_g d X am_m5027 0 [.ref z, .int a0] [] st P := am_cg of_5027 (by show 2 ≤ 2; decide)
theorem hd_5027 : am_hd am_m5027 = [] := rfl
theorem u5027_0 {v0 : Value} {x : Int32} : am_g d X am_m5027 0 [v0, .int x] sk st Q = am_g d X am_m5027 1 [v0, .int x] (.int x :: sk) st Q := am_gu.trans rfl
theorem u5027_1 {v0 : Value} {v1 : Value} {x : Int32} : am_g d X am_m5027 1 [v0, v1] (.int x :: sk) st Q = (if decide (x < 0) = true then am_g d X am_m5027 19 [v0, v1] sk st Q else am_g d X am_m5027 4 [v0, v1] sk st Q) := am_gu.trans rfl
theorem u5027_4 {v0 : Value} {x : Int32} : am_g d X am_m5027 4 [v0, .int x] sk st Q = am_g d X am_m5027 5 [v0, .int x] (.int x :: sk) st Q := am_gu.trans rfl
theorem u5027_5 {v0 : Value} {v1 : Value} : am_g d X am_m5027 5 [v0, v1] sk st Q = am_g d X am_m5027 7 [v0, v1] (.int (am_i 24) :: sk) st Q := am_gu.trans rfl
theorem u5027_7 {v0 : Value} {v1 : Value} {x : Int32} {y : Int32} : am_g d X am_m5027 7 [v0, v1] (.int y :: .int x :: sk) st Q = (if decide (y ≤ x) = true then am_g d X am_m5027 19 [v0, v1] sk st Q else am_g d X am_m5027 10 [v0, v1] sk st Q) := am_gu.trans rfl
theorem u5027_10 {v1 : Value} {x : Nat} : am_g d X am_m5027 10 [.ref x, v1] sk st Q = am_g d X am_m5027 11 [.ref x, v1] (.ref x :: sk) st Q := am_gu.trans rfl
theorem u5027_11 {v0 : Value} {v1 : Value} : am_g d X am_m5027 11 [v0, v1] sk st Q = am_gt 167 14 [v0, v1] sk st (fun pc lc sk st => am_g d X am_m5027 pc lc sk st Q) := am_gu.trans rfl
theorem u5027_14 {v0 : Value} {x : Int32} : am_g d X am_m5027 14 [v0, .int x] sk st Q = am_g d X am_m5027 15 [v0, .int x] (.int x :: sk) st Q := am_gu.trans rfl
theorem u5027_15 {v0 : Value} {v1 : Value} : am_g d X am_m5027 15 [v0, v1] sk st Q = am_xl (X.1, X.2.1, d) am_m5027 16 [v0, v1] sk st (fun pc lc sk st => am_g d X am_m5027 pc lc sk st Q) := am_gu.trans rfl
theorem u5027_16 {v0 : Value} {v1 : Value} : am_g d X am_m5027 16 [v0, v1] sk st Q = am_g d X am_m5027 20 [v0, v1] sk st Q := am_gu.trans rfl
theorem u5027_19 {v0 : Value} {v1 : Value} : am_g d X am_m5027 19 [v0, v1] sk st Q = am_g d X am_m5027 20 [v0, v1] (.int (am_i (-1)) :: sk) st Q := am_gu.trans rfl
theorem u5027_20 {v0 : Value} {v1 : Value} {x : Int32} : am_g d X am_m5027 20 [v0, v1] [.int x] st Q = Q (.inl (some (.int x))) st := am_gu.trans rfl
set_option maxRecDepth 100000 in
theorem of_5028 : am_of 5028 = some am_m5028 := rfl
theorem c5028 {z a0} {P : am_Q} : am_Ca X (d + 1) 5028 [.ref z, .int a0] st P = am_g d X am_m5028 0 [.ref z, .int a0] [] st P := am_cg of_5028 (by show 2 ≤ 2; decide)
theorem hd_5028 : am_hd am_m5028 = [] := rfl
theorem u5028_0 {v1 : Value} {x : Nat} : am_g d X am_m5028 0 [.ref x, v1] sk st Q = am_g d X am_m5028 1 [.ref x, v1] (.ref x :: sk) st Q := am_gu.trans rfl
theorem u5028_1 {v0 : Value} {x : Int32} : am_g d X am_m5028 1 [v0, .int x] sk st Q = am_g d X am_m5028 2 [v0, .int x] (.int x :: sk) st Q := am_gu.trans rfl
theorem u5028_2 {a0 : Value} {v0 : Value} {v1 : Value} : am_g d X am_m5028 2 [v0, v1] (a0 :: .ref o :: sk) st Q = ((am_ob st o 5 ∧ sk.length ≤ 5) ∧ am_Ca X d 5027 [.ref o, a0] st (am_af am_m5028 2 [v0, v1] sk (fun pc lc sk st => am_g d X am_m5028 pc lc sk st Q) Q)) := am_gu.trans rfl
theorem u5028_5 {v0 : Value} {v1 : Value} : am_g d X am_m5028 5 [v0, v1] sk st Q = am_g d X am_m5028 6 [v0, v1] (.int (am_i (-1)) :: sk) st Q := am_gu.trans rfl
theorem u5028_6 {v0 : Value} {v1 : Value} {x : Int32} {y : Int32} : am_g d X am_m5028 6 [v0, v1] (.int y :: .int x :: sk) st Q = (if decide (x = y) = true then am_g d X am_m5028 13 [v0, v1] sk st Q else am_g d X am_m5028 9 [v0, v1] sk st Q) := am_gu.trans rfl
theorem u5028_9 {v0 : Value} {v1 : Value} : am_g d X am_m5028 9 [v0, v1] sk st Q = am_g d X am_m5028 10 [v0, v1] (.int (am_i 1) :: sk) st Q := am_gu.trans rfl
theorem u5028_10 {v0 : Value} {v1 : Value} : am_g d X am_m5028 10 [v0, v1] sk st Q = am_g d X am_m5028 14 [v0, v1] sk st Q := am_gu.trans rfl
theorem u5028_13 {v0 : Value} {v1 : Value} : am_g d X am_m5028 13 [v0, v1] sk st Q = am_g d X am_m5028 14 [v0, v1] (.int (am_i 0) :: sk) st Q := am_gu.trans rfl
theorem u5028_14 {v0 : Value} {v1 : Value} {x : Int32} : am_g d X am_m5028 14 [v0, v1] [.int x] st Q = ((x = 0 ∨ x = 1) ∧ Q (.inl (some (.int x))) st) := am_gu.trans rfl
set_option maxRecDepth 100000 in
theorem of_5029 : am_of 5029 = some am_m5029 := rfl
theorem c5029 {z} {P : am_Q} : am_Ca X (d + 1) 5029 [.ref z] st P = am_g d X am_m5029 0 [.ref z, am_u, am_u] [] st P := am_cg of_5029 (by show 1 ≤ 3; decide)
theorem hd_5029 : am_hd am_m5029 = [] := rfl
theorem u5029_0 {v0 : Value} {v1 : Value} {v2 : Value} : am_g d X am_m5029 0 [v0, v1, v2] sk st Q = am_g d X am_m5029 1 [v0, v1, v2] (.int (am_i 0) :: sk) st Q := am_gu.trans rfl
theorem u5029_1 {v0 : Value} {v1 : Value} {v2 : Value} {x : Int32} : am_g d X am_m5029 1 [v0, v1, v2] (.int x :: sk) st Q = am_g d X am_m5029 2 [am_kc v0, .int x, v2] sk st Q := am_gu.trans (congrArg (fun l => am_g d X am_m5029 2 (List.set l 1 (.int x)) sk st Q) (kl_1 (l := [v1, v2])))
theorem u5029_2 {v0 : Value} {v1 : Value} {v2 : Value} : am_g d X am_m5029 2 [v0, v1, v2] sk st Q = am_g d X am_m5029 3 [v0, v1, v2] (.int (am_i 0) :: sk) st Q := am_gu.trans rfl
theorem u5029_3 {v0 : Value} {v1 : Value} {v2 : Value} {x : Int32} : am_g d X am_m5029 3 [v0, v1, v2] (.int x :: sk) st Q = am_g d X am_m5029 4 [v0, am_kc v1, .int x] sk st Q := am_gu.trans (congrArg (fun l => am_g d X am_m5029 4 (List.set l 2 (.int x)) sk st Q) (kl_2 (l := [v2])))
theorem u5029_4 {v0 : Value} {v1 : Value} {x : Int32} : am_g d X am_m5029 4 [v0, v1, .int x] sk st Q = am_g d X am_m5029 5 [v0, v1, .int x] (.int x :: sk) st Q := am_gu.trans rfl
theorem u5029_5 {v0 : Value} {v1 : Value} {v2 : Value} : am_g d X am_m5029 5 [v0, v1, v2] sk st Q = am_g d X am_m5029 7 [v0, v1, v2] (.int (am_i 24) :: sk) st Q := am_gu.trans rfl
theorem u5029_7 {v0 : Value} {v1 : Value} {v2 : Value} {x : Int32} {y : Int32} : am_g d X am_m5029 7 [v0, v1, v2] (.int y :: .int x :: sk) st Q = (if decide (y ≤ x) = true then am_g d X am_m5029 27 [v0, v1, v2] sk st Q else am_g d X am_m5029 10 [v0, v1, v2] sk st Q) := am_gu.trans rfl
theorem u5029_10 {v1 : Value} {v2 : Value} {x : Nat} : am_g d X am_m5029 10 [.ref x, v1, v2] sk st Q = am_g d X am_m5029 11 [.ref x, v1, v2] (.ref x :: sk) st Q := am_gu.trans rfl
theorem u5029_11 {v0 : Value} {v1 : Value} {x : Int32} : am_g d X am_m5029 11 [v0, v1, .int x] sk st Q = am_g d X am_m5029 12 [v0, v1, .int x] (.int x :: sk) st Q := am_gu.trans rfl
theorem u5029_12 {a0 : Value} {v0 : Value} {v1 : Value} {v2 : Value} : am_g d X am_m5029 12 [v0, v1, v2] (a0 :: .ref o :: sk) st Q = ((am_ob st o 5 ∧ sk.length ≤ 5) ∧ am_Ca X d 5028 [.ref o, a0] st (am_af am_m5029 12 [v0, v1, v2] sk (fun pc lc sk st => am_g d X am_m5029 pc lc sk st Q) Q)) := am_gu.trans rfl
theorem u5029_15 {v0 : Value} {v1 : Value} {v2 : Value} {x : Int32} : am_g d X am_m5029 15 [v0, v1, v2] (.int x :: sk) st Q = (if decide (x = 0) = true then am_g d X am_m5029 21 [v0, v1, v2] sk st Q else am_g d X am_m5029 18 [v0, v1, v2] sk st Q) := am_gu.trans rfl
theorem u5029_18 {v0 : Value} {v2 : Value} {x : Int32} : am_g d X am_m5029 18 [v0, .int x, v2] sk st Q = am_g d X am_m5029 21 [am_kc v0, .int (x + am_i 1), v2] sk st Q := am_gu.trans (congrArg (fun l => am_g d X am_m5029 21 (List.set l 1 (.int (x + am_i 1))) sk st Q) (kl_1 (l := [.int x, v2])))
theorem u5029_21 {v0 : Value} {v1 : Value} {x : Int32} : am_g d X am_m5029 21 [v0, v1, .int x] sk st Q = am_g d X am_m5029 24 [v0, am_kc v1, .int (x + am_i 1)] sk st Q := am_gu.trans (congrArg (fun l => am_g d X am_m5029 24 (List.set l 2 (.int (x + am_i 1))) sk st Q) (kl_2 (l := [.int x])))
theorem u5029_24 {v0 : Value} {v1 : Value} {v2 : Value} : am_g d X am_m5029 24 [v0, v1, v2] sk st Q = am_g d X am_m5029 4 [v0, v1, v2] sk st Q := am_gu.trans rfl
theorem u5029_27 {v0 : Value} {v2 : Value} {x : Int32} : am_g d X am_m5029 27 [v0, .int x, v2] sk st Q = am_g d X am_m5029 28 [v0, .int x, v2] (.int x :: sk) st Q := am_gu.trans rfl
theorem u5029_28 {v0 : Value} {v1 : Value} {v2 : Value} {x : Int32} : am_g d X am_m5029 28 [v0, v1, v2] [.int x] st Q = Q (.inl (some (.int x))) st := am_gu.trans rfl
set_option maxRecDepth 100000 in
theorem of_5030 : am_of 5030 = some am_m5030 := rfl
theorem c5030 {z} {P : am_Q} : am_Ca X (d + 1) 5030 [.ref z] st P = am_g d X am_m5030 0 [.ref z, am_u, am_u, am_u] [] st P := am_cg of_5030 (by show 1 ≤ 4; decide)
theorem hd_5030 : am_hd am_m5030 = [] := rfl
theorem u5030_0 {v0 : Value} {v1 : Value} {v2 : Value} {v3 : Value} : am_g d X am_m5030 0 [v0, v1, v2, v3] sk st Q = am_g d X am_m5030 1 [v0, v1, v2, v3] (.int (am_i 0) :: sk) st Q := am_gu.trans rfl
theorem u5030_1 {v0 : Value} {v1 : Value} {v2 : Value} {v3 : Value} {x : Int32} : am_g d X am_m5030 1 [v0, v1, v2, v3] (.int x :: sk) st Q = am_g d X am_m5030 2 [am_kc v0, .int x, v2, v3] sk st Q := am_gu.trans (congrArg (fun l => am_g d X am_m5030 2 (List.set l 1 (.int x)) sk st Q) (kl_1 (l := [v1, v2, v3])))
theorem u5030_2 {v0 : Value} {v1 : Value} {v2 : Value} {v3 : Value} : am_g d X am_m5030 2 [v0, v1, v2, v3] sk st Q = am_g d X am_m5030 3 [v0, v1, v2, v3] (.int (am_i 0) :: sk) st Q := am_gu.trans rfl
theorem u5030_3 {v0 : Value} {v1 : Value} {v2 : Value} {v3 : Value} {x : Int32} : am_g d X am_m5030 3 [v0, v1, v2, v3] (.int x :: sk) st Q = am_g d X am_m5030 4 [v0, am_kc v1, .int x, v3] sk st Q := am_gu.trans (congrArg (fun l => am_g d X am_m5030 4 (List.set l 2 (.int x)) sk st Q) (kl_2 (l := [v2, v3])))
theorem u5030_4 {v0 : Value} {v1 : Value} {v3 : Value} {x : Int32} : am_g d X am_m5030 4 [v0, v1, .int x, v3] sk st Q = am_g d X am_m5030 5 [v0, v1, .int x, v3] (.int x :: sk) st Q := am_gu.trans rfl
theorem u5030_5 {v0 : Value} {v1 : Value} {v2 : Value} {v3 : Value} : am_g d X am_m5030 5 [v0, v1, v2, v3] sk st Q = am_g d X am_m5030 7 [v0, v1, v2, v3] (.int (am_i 24) :: sk) st Q := am_gu.trans rfl
theorem u5030_7 {v0 : Value} {v1 : Value} {v2 : Value} {v3 : Value} {x : Int32} {y : Int32} : am_g d X am_m5030 7 [v0, v1, v2, v3] (.int y :: .int x :: sk) st Q = (if decide (y ≤ x) = true then am_g d X am_m5030 54 [v0, v1, v2, v3] sk st Q else am_g d X am_m5030 10 [v0, v1, v2, v3] sk st Q) := am_gu.trans rfl
theorem u5030_10 {v0 : Value} {v1 : Value} {v3 : Value} {x : Int32} : am_g d X am_m5030 10 [v0, v1, .int x, v3] sk st Q = am_g d X am_m5030 11 [v0, v1, .int x, v3] (.int x :: sk) st Q := am_gu.trans rfl
theorem u5030_11 {v0 : Value} {v1 : Value} {v2 : Value} {v3 : Value} : am_g d X am_m5030 11 [v0, v1, v2, v3] sk st Q = am_g d X am_m5030 13 [v0, v1, v2, v3] (.int (am_i 6) :: sk) st Q := am_gu.trans rfl
theorem u5030_13 {v0 : Value} {v1 : Value} {v2 : Value} {v3 : Value} {x : Int32} {y : Int32} : am_g d X am_m5030 13 [v0, v1, v2, v3] (.int y :: .int x :: sk) st Q = (¬ y = 0 ∧ am_g d X am_m5030 14 [v0, v1, v2, v3] (.int (x - x / y * y) :: sk) st Q) := am_gu.trans rfl
theorem u5030_14 {v0 : Value} {v1 : Value} {v2 : Value} {v3 : Value} {x : Int32} : am_g d X am_m5030 14 [v0, v1, v2, v3] (.int x :: sk) st Q = (if decide (x = 0) = true then am_g d X am_m5030 31 [v0, v1, v2, v3] sk st Q else am_g d X am_m5030 17 [v0, v1, v2, v3] sk st Q) := am_gu.trans rfl
theorem u5030_17 {v1 : Value} {v2 : Value} {v3 : Value} {x : Nat} : am_g d X am_m5030 17 [.ref x, v1, v2, v3] sk st Q = am_g d X am_m5030 18 [.ref x, v1, v2, v3] (.ref x :: sk) st Q := am_gu.trans rfl
theorem u5030_18 {v0 : Value} {v1 : Value} {v3 : Value} {x : Int32} : am_g d X am_m5030 18 [v0, v1, .int x, v3] sk st Q = am_g d X am_m5030 19 [v0, v1, .int x, v3] (.int x :: sk) st Q := am_gu.trans rfl
theorem u5030_19 {v0 : Value} {v1 : Value} {v2 : Value} {v3 : Value} : am_g d X am_m5030 19 [v0, v1, v2, v3] sk st Q = am_g d X am_m5030 20 [v0, v1, v2, v3] (.int (am_i 1) :: sk) st Q := am_gu.trans rfl
theorem u5030_20 {v0 : Value} {v1 : Value} {v2 : Value} {v3 : Value} {x : Int32} {y : Int32} : am_g d X am_m5030 20 [v0, v1, v2, v3] (.int y :: .int x :: sk) st Q = am_g d X am_m5030 21 [v0, v1, v2, v3] (.int (x - y) :: sk) st Q := am_gu.trans rfl
theorem u5030_21 {a0 : Value} {v0 : Value} {v1 : Value} {v2 : Value} {v3 : Value} : am_g d X am_m5030 21 [v0, v1, v2, v3] (a0 :: .ref o :: sk) st Q = ((am_ob st o 5 ∧ sk.length ≤ 5) ∧ am_Ca X d 5028 [.ref o, a0] st (am_af am_m5030 21 [v0, v1, v2, v3] sk (fun pc lc sk st => am_g d X am_m5030 pc lc sk st Q) Q)) := am_gu.trans rfl
theorem u5030_24 {v0 : Value} {v1 : Value} {v2 : Value} {v3 : Value} {x : Int32} : am_g d X am_m5030 24 [v0, v1, v2, v3] (.int x :: sk) st Q = (if decide (x = 0) = true then am_g d X am_m5030 31 [v0, v1, v2, v3] sk st Q else am_g d X am_m5030 27 [v0, v1, v2, v3] sk st Q) := am_gu.trans rfl
theorem u5030_27 {v0 : Value} {v1 : Value} {v2 : Value} {v3 : Value} : am_g d X am_m5030 27 [v0, v1, v2, v3] sk st Q = am_g d X am_m5030 28 [v0, v1, v2, v3] (.int (am_i 1) :: sk) st Q := am_gu.trans rfl
theorem u5030_28 {v0 : Value} {v1 : Value} {v2 : Value} {v3 : Value} : am_g d X am_m5030 28 [v0, v1, v2, v3] sk st Q = am_g d X am_m5030 32 [v0, v1, v2, v3] sk st Q := am_gu.trans rfl
theorem u5030_31 {v0 : Value} {v1 : Value} {v2 : Value} {v3 : Value} : am_g d X am_m5030 31 [v0, v1, v2, v3] sk st Q = am_g d X am_m5030 32 [v0, v1, v2, v3] (.int (am_i 0) :: sk) st Q := am_gu.trans rfl
theorem u5030_32 {v0 : Value} {v1 : Value} {v2 : Value} {v3 : Value} {x : Int32} : am_g d X am_m5030 32 [v0, v1, v2, v3] (.int x :: sk) st Q = am_g d X am_m5030 33 [v0, v1, am_kc v2, .int x] sk st Q := am_gu.trans (congrArg (fun l => am_g d X am_m5030 33 (List.set l 3 (.int x)) sk st Q) (kl_3 (l := [v3])))
theorem u5030_33 {v1 : Value} {v2 : Value} {v3 : Value} {x : Nat} : am_g d X am_m5030 33 [.ref x, v1, v2, v3] sk st Q = am_g d X am_m5030 34 [.ref x, v1, v2, v3] (.ref x :: sk) st Q := am_gu.trans rfl
theorem u5030_34 {v0 : Value} {v1 : Value} {v3 : Value} {x : Int32} : am_g d X am_m5030 34 [v0, v1, .int x, v3] sk st Q = am_g d X am_m5030 35 [v0, v1, .int x, v3] (.int x :: sk) st Q := am_gu.trans rfl
theorem u5030_35 {a0 : Value} {v0 : Value} {v1 : Value} {v2 : Value} {v3 : Value} : am_g d X am_m5030 35 [v0, v1, v2, v3] (a0 :: .ref o :: sk) st Q = ((am_ob st o 5 ∧ sk.length ≤ 5) ∧ am_Ca X d 5028 [.ref o, a0] st (am_af am_m5030 35 [v0, v1, v2, v3] sk (fun pc lc sk st => am_g d X am_m5030 pc lc sk st Q) Q)) := am_gu.trans rfl
theorem u5030_38 {v0 : Value} {v1 : Value} {v2 : Value} {v3 : Value} {x : Int32} : am_g d X am_m5030 38 [v0, v1, v2, v3] (.int x :: sk) st Q = (if decide (x = 0) = true then am_g d X am_m5030 48 [v0, v1, v2, v3] sk st Q else am_g d X am_m5030 41 [v0, v1, v2, v3] sk st Q) := am_gu.trans rfl
theorem u5030_41 {v0 : Value} {v1 : Value} {v2 : Value} {x : Int32} : am_g d X am_m5030 41 [v0, v1, v2, .int x] sk st Q = am_g d X am_m5030 42 [v0, v1, v2, .int x] (.int x :: sk) st Q := am_gu.trans rfl
theorem u5030_42 {v0 : Value} {v1 : Value} {v2 : Value} {v3 : Value} {x : Int32} : am_g d X am_m5030 42 [v0, v1, v2, v3] (.int x :: sk) st Q = (if decide (¬ x = 0) = true then am_g d X am_m5030 48 [v0, v1, v2, v3] sk st Q else am_g d X am_m5030 45 [v0, v1, v2, v3] sk st Q) := am_gu.trans rfl
theorem u5030_45 {v0 : Value} {v2 : Value} {v3 : Value} {x : Int32} : am_g d X am_m5030 45 [v0, .int x, v2, v3] sk st Q = am_g d X am_m5030 48 [am_kc v0, .int (x + am_i 1), v2, v3] sk st Q := am_gu.trans (congrArg (fun l => am_g d X am_m5030 48 (List.set l 1 (.int (x + am_i 1))) sk st Q) (kl_1 (l := [.int x, v2, v3])))
theorem u5030_48 {v0 : Value} {v1 : Value} {v3 : Value} {x : Int32} : am_g d X am_m5030 48 [v0, v1, .int x, v3] sk st Q = am_g d X am_m5030 51 [v0, am_kc v1, .int (x + am_i 1), v3] sk st Q := am_gu.trans (congrArg (fun l => am_g d X am_m5030 51 (List.set l 2 (.int (x + am_i 1))) sk st Q) (kl_2 (l := [.int x, v3])))
theorem u5030_51 {v0 : Value} {v1 : Value} {v2 : Value} {v3 : Value} : am_g d X am_m5030 51 [v0, v1, v2, v3] sk st Q = am_g d X am_m5030 4 [v0, v1, v2, v3] sk st Q := am_gu.trans rfl
theorem u5030_54 {v0 : Value} {v2 : Value} {v3 : Value} {x : Int32} : am_g d X am_m5030 54 [v0, .int x, v2, v3] sk st Q = am_g d X am_m5030 55 [v0, .int x, v2, v3] (.int x :: sk) st Q := am_gu.trans rfl
theorem u5030_55 {v0 : Value} {v1 : Value} {v2 : Value} {v3 : Value} {x : Int32} : am_g d X am_m5030 55 [v0, v1, v2, v3] [.int x] st Q = Q (.inl (some (.int x))) st := am_gu.trans rfl
set_option maxRecDepth 100000 in
theorem of_5031 : am_of 5031 = some am_m5031 := rfl
theorem c5031 {z} {P : am_Q} : am_Ca X (d + 1) 5031 [.ref z] st P = am_g d X am_m5031 0 [.ref z, am_u, am_u, am_u] [] st P := am_cg of_5031 (by show 1 ≤ 4; decide)
theorem hd_5031 : am_hd am_m5031 = [] := rfl
theorem u5031_0 {v0 : Value} {v1 : Value} {v2 : Value} {v3 : Value} : am_g d X am_m5031 0 [v0, v1, v2, v3] sk st Q = am_g d X am_m5031 1 [v0, v1, v2, v3] (.int (am_i 0) :: sk) st Q := am_gu.trans rfl
theorem u5031_1 {v0 : Value} {v1 : Value} {v2 : Value} {v3 : Value} {x : Int32} : am_g d X am_m5031 1 [v0, v1, v2, v3] (.int x :: sk) st Q = am_g d X am_m5031 2 [am_kc v0, .int x, v2, v3] sk st Q := am_gu.trans (congrArg (fun l => am_g d X am_m5031 2 (List.set l 1 (.int x)) sk st Q) (kl_1 (l := [v1, v2, v3])))
theorem u5031_2 {v0 : Value} {v1 : Value} {v2 : Value} {v3 : Value} : am_g d X am_m5031 2 [v0, v1, v2, v3] sk st Q = am_g d X am_m5031 3 [v0, v1, v2, v3] (.int (am_i 0) :: sk) st Q := am_gu.trans rfl
theorem u5031_3 {v0 : Value} {v1 : Value} {v2 : Value} {v3 : Value} {x : Int32} : am_g d X am_m5031 3 [v0, v1, v2, v3] (.int x :: sk) st Q = am_g d X am_m5031 4 [v0, am_kc v1, .int x, v3] sk st Q := am_gu.trans (congrArg (fun l => am_g d X am_m5031 4 (List.set l 2 (.int x)) sk st Q) (kl_2 (l := [v2, v3])))
theorem u5031_4 {v0 : Value} {v1 : Value} {v2 : Value} {v3 : Value} : am_g d X am_m5031 4 [v0, v1, v2, v3] sk st Q = am_g d X am_m5031 5 [v0, v1, v2, v3] (.int (am_i 0) :: sk) st Q := am_gu.trans rfl
theorem u5031_5 {v0 : Value} {v1 : Value} {v2 : Value} {v3 : Value} {x : Int32} : am_g d X am_m5031 5 [v0, v1, v2, v3] (.int x :: sk) st Q = am_g d X am_m5031 6 [v0, v1, am_kc v2, .int x] sk st Q := am_gu.trans (congrArg (fun l => am_g d X am_m5031 6 (List.set l 3 (.int x)) sk st Q) (kl_3 (l := [v3])))
theorem u5031_6 {v0 : Value} {v1 : Value} {v2 : Value} {x : Int32} : am_g d X am_m5031 6 [v0, v1, v2, .int x] sk st Q = am_g d X am_m5031 7 [v0, v1, v2, .int x] (.int x :: sk) st Q := am_gu.trans rfl
theorem u5031_7 {v0 : Value} {v1 : Value} {v2 : Value} {v3 : Value} : am_g d X am_m5031 7 [v0, v1, v2, v3] sk st Q = am_g d X am_m5031 9 [v0, v1, v2, v3] (.int (am_i 24) :: sk) st Q := am_gu.trans rfl
theorem u5031_9 {v0 : Value} {v1 : Value} {v2 : Value} {v3 : Value} {x : Int32} {y : Int32} : am_g d X am_m5031 9 [v0, v1, v2, v3] (.int y :: .int x :: sk) st Q = (if decide (y ≤ x) = true then am_g d X am_m5031 49 [v0, v1, v2, v3] sk st Q else am_g d X am_m5031 12 [v0, v1, v2, v3] sk st Q) := am_gu.trans rfl
theorem u5031_12 {v0 : Value} {v1 : Value} {v2 : Value} {x : Int32} : am_g d X am_m5031 12 [v0, v1, v2, .int x] sk st Q = am_g d X am_m5031 13 [v0, v1, v2, .int x] (.int x :: sk) st Q := am_gu.trans rfl
theorem u5031_13 {v0 : Value} {v1 : Value} {v2 : Value} {v3 : Value} : am_g d X am_m5031 13 [v0, v1, v2, v3] sk st Q = am_g d X am_m5031 15 [v0, v1, v2, v3] (.int (am_i 6) :: sk) st Q := am_gu.trans rfl
theorem u5031_15 {v0 : Value} {v1 : Value} {v2 : Value} {v3 : Value} {x : Int32} {y : Int32} : am_g d X am_m5031 15 [v0, v1, v2, v3] (.int y :: .int x :: sk) st Q = (¬ y = 0 ∧ am_g d X am_m5031 16 [v0, v1, v2, v3] (.int (x - x / y * y) :: sk) st Q) := am_gu.trans rfl
theorem u5031_16 {v0 : Value} {v1 : Value} {v2 : Value} {v3 : Value} {x : Int32} : am_g d X am_m5031 16 [v0, v1, v2, v3] (.int x :: sk) st Q = (if decide (¬ x = 0) = true then am_g d X am_m5031 21 [v0, v1, v2, v3] sk st Q else am_g d X am_m5031 19 [v0, v1, v2, v3] sk st Q) := am_gu.trans rfl
theorem u5031_19 {v0 : Value} {v1 : Value} {v2 : Value} {v3 : Value} : am_g d X am_m5031 19 [v0, v1, v2, v3] sk st Q = am_g d X am_m5031 20 [v0, v1, v2, v3] (.int (am_i 0) :: sk) st Q := am_gu.trans rfl
theorem u5031_20 {v0 : Value} {v1 : Value} {v2 : Value} {v3 : Value} {x : Int32} : am_g d X am_m5031 20 [v0, v1, v2, v3] (.int x :: sk) st Q = am_g d X am_m5031 21 [v0, am_kc v1, .int x, v3] sk st Q := am_gu.trans (congrArg (fun l => am_g d X am_m5031 21 (List.set l 2 (.int x)) sk st Q) (kl_2 (l := [v2, v3])))
theorem u5031_21 {v1 : Value} {v2 : Value} {v3 : Value} {x : Nat} : am_g d X am_m5031 21 [.ref x, v1, v2, v3] sk st Q = am_g d X am_m5031 22 [.ref x, v1, v2, v3] (.ref x :: sk) st Q := am_gu.trans rfl
theorem u5031_22 {v0 : Value} {v1 : Value} {v2 : Value} {x : Int32} : am_g d X am_m5031 22 [v0, v1, v2, .int x] sk st Q = am_g d X am_m5031 23 [v0, v1, v2, .int x] (.int x :: sk) st Q := am_gu.trans rfl
theorem u5031_23 {a0 : Value} {v0 : Value} {v1 : Value} {v2 : Value} {v3 : Value} : am_g d X am_m5031 23 [v0, v1, v2, v3] (a0 :: .ref o :: sk) st Q = ((am_ob st o 5 ∧ sk.length ≤ 5) ∧ am_Ca X d 5028 [.ref o, a0] st (am_af am_m5031 23 [v0, v1, v2, v3] sk (fun pc lc sk st => am_g d X am_m5031 pc lc sk st Q) Q)) := am_gu.trans rfl
theorem u5031_26 {v0 : Value} {v1 : Value} {v2 : Value} {v3 : Value} {x : Int32} : am_g d X am_m5031 26 [v0, v1, v2, v3] (.int x :: sk) st Q = (if decide (x = 0) = true then am_g d X am_m5031 35 [v0, v1, v2, v3] sk st Q else am_g d X am_m5031 29 [v0, v1, v2, v3] sk st Q) := am_gu.trans rfl
theorem u5031_29 {v0 : Value} {v1 : Value} {v3 : Value} {x : Int32} : am_g d X am_m5031 29 [v0, v1, .int x, v3] sk st Q = am_g d X am_m5031 30 [v0, v1, .int x, v3] (.int x :: sk) st Q := am_gu.trans rfl
theorem u5031_30 {v0 : Value} {v1 : Value} {v2 : Value} {v3 : Value} : am_g d X am_m5031 30 [v0, v1, v2, v3] sk st Q = am_g d X am_m5031 31 [v0, v1, v2, v3] (.int (am_i 1) :: sk) st Q := am_gu.trans rfl
theorem u5031_31 {v0 : Value} {v1 : Value} {v2 : Value} {v3 : Value} {x : Int32} {y : Int32} : am_g d X am_m5031 31 [v0, v1, v2, v3] (.int y :: .int x :: sk) st Q = am_g d X am_m5031 32 [v0, v1, v2, v3] (.int (x + y) :: sk) st Q := am_gu.trans rfl
theorem u5031_32 {v0 : Value} {v1 : Value} {v2 : Value} {v3 : Value} : am_g d X am_m5031 32 [v0, v1, v2, v3] sk st Q = am_g d X am_m5031 36 [v0, v1, v2, v3] sk st Q := am_gu.trans rfl
theorem u5031_35 {v0 : Value} {v1 : Value} {v2 : Value} {v3 : Value} : am_g d X am_m5031 35 [v0, v1, v2, v3] sk st Q = am_g d X am_m5031 36 [v0, v1, v2, v3] (.int (am_i 0) :: sk) st Q := am_gu.trans rfl
theorem u5031_36 {v0 : Value} {v1 : Value} {v2 : Value} {v3 : Value} {x : Int32} : am_g d X am_m5031 36 [v0, v1, v2, v3] (.int x :: sk) st Q = am_g d X am_m5031 37 [v0, am_kc v1, .int x, v3] sk st Q := am_gu.trans (congrArg (fun l => am_g d X am_m5031 37 (List.set l 2 (.int x)) sk st Q) (kl_2 (l := [v2, v3])))
theorem u5031_37 {v0 : Value} {v2 : Value} {v3 : Value} {x : Int32} : am_g d X am_m5031 37 [v0, .int x, v2, v3] sk st Q = am_g d X am_m5031 38 [v0, .int x, v2, v3] (.int x :: sk) st Q := am_gu.trans rfl
theorem u5031_38 {v0 : Value} {v1 : Value} {v3 : Value} {x : Int32} : am_g d X am_m5031 38 [v0, v1, .int x, v3] sk st Q = am_g d X am_m5031 39 [v0, v1, .int x, v3] (.int x :: sk) st Q := am_gu.trans rfl
theorem u5031_39 {v0 : Value} {v1 : Value} {v2 : Value} {v3 : Value} {x : Int32} {y : Int32} : am_g d X am_m5031 39 [v0, v1, v2, v3] (.int y :: .int x :: sk) st Q = (sk.length ≤ 4 ∧ am_g d X am_m5031 42 [v0, v1, v2, v3] (.int (if x < y then y else x) :: sk) st Q) := am_gu.trans rfl
theorem u5031_42 {v0 : Value} {v1 : Value} {v2 : Value} {v3 : Value} {x : Int32} : am_g d X am_m5031 42 [v0, v1, v2, v3] (.int x :: sk) st Q = am_g d X am_m5031 43 [am_kc v0, .int x, v2, v3] sk st Q := am_gu.trans (congrArg (fun l => am_g d X am_m5031 43 (List.set l 1 (.int x)) sk st Q) (kl_1 (l := [v1, v2, v3])))
theorem u5031_43 {v0 : Value} {v1 : Value} {v2 : Value} {x : Int32} : am_g d X am_m5031 43 [v0, v1, v2, .int x] sk st Q = am_g d X am_m5031 46 [v0, v1, am_kc v2, .int (x + am_i 1)] sk st Q := am_gu.trans (congrArg (fun l => am_g d X am_m5031 46 (List.set l 3 (.int (x + am_i 1))) sk st Q) (kl_3 (l := [.int x])))
theorem u5031_46 {v0 : Value} {v1 : Value} {v2 : Value} {v3 : Value} : am_g d X am_m5031 46 [v0, v1, v2, v3] sk st Q = am_g d X am_m5031 6 [v0, v1, v2, v3] sk st Q := am_gu.trans rfl
theorem u5031_49 {v0 : Value} {v2 : Value} {v3 : Value} {x : Int32} : am_g d X am_m5031 49 [v0, .int x, v2, v3] sk st Q = am_g d X am_m5031 50 [v0, .int x, v2, v3] (.int x :: sk) st Q := am_gu.trans rfl
theorem u5031_50 {v0 : Value} {v1 : Value} {v2 : Value} {v3 : Value} {x : Int32} : am_g d X am_m5031 50 [v0, v1, v2, v3] [.int x] st Q = Q (.inl (some (.int x))) st := am_gu.trans rfl
set_option maxRecDepth 100000 in
theorem of_5032 : am_of 5032 = some am_m5032 := rfl
theorem c5032 {z} {P : am_Q} : am_Ca X (d + 1) 5032 [.ref z] st P = am_g d X am_m5032 0 [.ref z] [] st P := am_cg of_5032 (by show 1 ≤ 1; decide)
theorem hd_5032 : am_hd am_m5032 = [] := rfl
theorem u5032_0 {x : Nat} : am_g d X am_m5032 0 [.ref x] sk st Q = am_g d X am_m5032 1 [.ref x] (.ref x :: sk) st Q := am_gu.trans rfl
theorem u5032_1 {v0 : Value} : am_g d X am_m5032 1 [v0] sk st Q = am_gt 170 4 [v0] sk st (fun pc lc sk st => am_g d X am_m5032 pc lc sk st Q) := am_gu.trans rfl
theorem u5032_4 {v0 : Value} {x : Int32} : am_g d X am_m5032 4 [v0] (.int x :: sk) st Q = (if decide (x < 0) = true then am_g d X am_m5032 59 [v0] sk st Q else am_g d X am_m5032 7 [v0] sk st Q) := am_gu.trans rfl
theorem u5032_7 {x : Nat} : am_g d X am_m5032 7 [.ref x] sk st Q = am_g d X am_m5032 8 [.ref x] (.ref x :: sk) st Q := am_gu.trans rfl
theorem u5032_8 {v0 : Value} : am_g d X am_m5032 8 [v0] sk st Q = am_gt 170 11 [v0] sk st (fun pc lc sk st => am_g d X am_m5032 pc lc sk st Q) := am_gu.trans rfl
theorem u5032_11 {v0 : Value} : am_g d X am_m5032 11 [v0] sk st Q = am_g d X am_m5032 12 [v0] (.int (am_i 3) :: sk) st Q := am_gu.trans rfl
theorem u5032_12 {v0 : Value} {x : Int32} {y : Int32} : am_g d X am_m5032 12 [v0] (.int y :: .int x :: sk) st Q = (if decide (y ≤ x) = true then am_g d X am_m5032 59 [v0] sk st Q else am_g d X am_m5032 15 [v0] sk st Q) := am_gu.trans rfl
theorem u5032_15 {x : Nat} : am_g d X am_m5032 15 [.ref x] sk st Q = am_g d X am_m5032 16 [.ref x] (.ref x :: sk) st Q := am_gu.trans rfl
theorem u5032_16 {v0 : Value} : am_g d X am_m5032 16 [v0] sk st Q = am_gt 171 19 [v0] sk st (fun pc lc sk st => am_g d X am_m5032 pc lc sk st Q) := am_gu.trans rfl
theorem u5032_19 {x : Nat} : am_g d X am_m5032 19 [.ref x] sk st Q = am_g d X am_m5032 20 [.ref x] (.ref x :: sk) st Q := am_gu.trans rfl
theorem u5032_20 {v0 : Value} : am_g d X am_m5032 20 [v0] sk st Q = am_gt 170 23 [v0] sk st (fun pc lc sk st => am_g d X am_m5032 pc lc sk st Q) := am_gu.trans rfl
theorem u5032_23 {x : Nat} : am_g d X am_m5032 23 [.ref x] sk st Q = am_g d X am_m5032 24 [.ref x] (.ref x :: sk) st Q := am_gu.trans rfl
theorem u5032_24 {v0 : Value} : am_g d X am_m5032 24 [v0] (.ref o :: sk) st Q = ((am_ob st o 5 ∧ sk.length ≤ 5) ∧ am_Ca X d 5016 [.ref o] st (am_af am_m5032 24 [v0] sk (fun pc lc sk st => am_g d X am_m5032 pc lc sk st Q) Q)) := am_gu.trans rfl
theorem u5032_27 {v0 : Value} : am_g d X am_m5032 27 [v0] sk st Q = am_xs 28 [v0] sk st (fun pc lc sk st => am_g d X am_m5032 pc lc sk st Q) := am_gu.trans rfl
theorem u5032_28 {x : Nat} : am_g d X am_m5032 28 [.ref x] sk st Q = am_g d X am_m5032 29 [.ref x] (.ref x :: sk) st Q := am_gu.trans rfl
theorem u5032_29 {v0 : Value} : am_g d X am_m5032 29 [v0] sk st Q = am_gt 166 32 [v0] sk st (fun pc lc sk st => am_g d X am_m5032 pc lc sk st Q) := am_gu.trans rfl
theorem u5032_32 {v0 : Value} : am_g d X am_m5032 32 [v0] sk st Q = am_g d X am_m5032 33 [v0] (.int (am_i 0) :: sk) st Q := am_gu.trans rfl
theorem u5032_33 {x : Nat} : am_g d X am_m5032 33 [.ref x] sk st Q = am_g d X am_m5032 34 [.ref x] (.ref x :: sk) st Q := am_gu.trans rfl
theorem u5032_34 {v0 : Value} : am_g d X am_m5032 34 [v0] sk st Q = am_gt 172 37 [v0] sk st (fun pc lc sk st => am_g d X am_m5032 pc lc sk st Q) := am_gu.trans rfl
theorem u5032_37 {x : Nat} : am_g d X am_m5032 37 [.ref x] sk st Q = am_g d X am_m5032 38 [.ref x] (.ref x :: sk) st Q := am_gu.trans rfl
theorem u5032_38 {v0 : Value} : am_g d X am_m5032 38 [v0] sk st Q = am_gt 170 41 [v0] sk st (fun pc lc sk st => am_g d X am_m5032 pc lc sk st Q) := am_gu.trans rfl
theorem u5032_41 {v0 : Value} : am_g d X am_m5032 41 [v0] sk st Q = am_g d X am_m5032 43 [v0] (.int (am_i 24) :: sk) st Q := am_gu.trans rfl
theorem u5032_43 {v0 : Value} {x : Int32} {y : Int32} : am_g d X am_m5032 43 [v0] (.int y :: .int x :: sk) st Q = am_g d X am_m5032 44 [v0] (.int (x * y) :: sk) st Q := am_gu.trans rfl
theorem u5032_44 {v0 : Value} : am_g d X am_m5032 44 [v0] sk st Q = am_g d X am_m5032 46 [v0] (.int (am_i 24) :: sk) st Q := am_gu.trans rfl
theorem u5032_46 {v0 : Value} : am_g d X am_m5032 46 [v0] sk st Q = am_cp 49 [v0] sk st (fun pc lc sk st => am_g d X am_m5032 pc lc sk st Q) := am_gu.trans rfl
theorem u5032_49 {x : Nat} : am_g d X am_m5032 49 [.ref x] sk st Q = am_g d X am_m5032 50 [.ref x] (.ref x :: sk) st Q := am_gu.trans rfl
theorem u5032_50i {v0 : Value} {x : Int32} : am_g d X am_m5032 50 [v0] (.int x :: sk) st Q = am_g d X am_m5032 51 [v0] (.int x :: .int x :: sk) st Q := am_gu.trans rfl
theorem u5032_50r {v0 : Value} {x : Nat} : am_g d X am_m5032 50 [v0] (.ref x :: sk) st Q = am_g d X am_m5032 51 [v0] (.ref x :: .ref x :: sk) st Q := am_gu.trans rfl
theorem u5032_51 {v0 : Value} : am_g d X am_m5032 51 [v0] sk st Q = am_gt 170 54 [v0] sk st (fun pc lc sk st => am_g d X am_m5032 pc lc sk st Q) := am_gu.trans rfl
theorem u5032_54 {v0 : Value} : am_g d X am_m5032 54 [v0] sk st Q = am_g d X am_m5032 55 [v0] (.int (am_i 1) :: sk) st Q := am_gu.trans rfl
theorem u5032_55 {v0 : Value} {x : Int32} {y : Int32} : am_g d X am_m5032 55 [v0] (.int y :: .int x :: sk) st Q = am_g d X am_m5032 56 [v0] (.int (x + y) :: sk) st Q := am_gu.trans rfl
theorem u5032_56 {v0 : Value} : am_g d X am_m5032 56 [v0] sk st Q = am_pt 170 59 [v0] sk st (fun pc lc sk st => am_g d X am_m5032 pc lc sk st Q) := am_gu.trans rfl
theorem u5032_59 {v0 : Value} : am_g d X am_m5032 59 [v0] [] st Q = Q (.inl none) st := am_gu.trans rfl
set_option maxRecDepth 100000 in
theorem of_5033 : am_of 5033 = some am_m5033 := rfl
theorem c5033 {z} {P : am_Q} : am_Ca X (d + 1) 5033 [.ref z] st P = am_g d X am_m5033 0 [.ref z, am_u] [] st P := am_cg of_5033 (by show 1 ≤ 2; decide)
theorem hd_5033 : am_hd am_m5033 = [] := rfl
theorem u5033_0 {v1 : Value} {x : Nat} : am_g d X am_m5033 0 [.ref x, v1] sk st Q = am_g d X am_m5033 1 [.ref x, v1] (.ref x :: sk) st Q := am_gu.trans rfl
theorem u5033_1 {v0 : Value} {v1 : Value} : am_g d X am_m5033 1 [v0, v1] sk st Q = am_gt 170 4 [v0, v1] sk st (fun pc lc sk st => am_g d X am_m5033 pc lc sk st Q) := am_gu.trans rfl
theorem u5033_4 {v0 : Value} {v1 : Value} : am_g d X am_m5033 4 [v0, v1] sk st Q = am_g d X am_m5033 5 [v0, v1] (.int (am_i 1) :: sk) st Q := am_gu.trans rfl
theorem u5033_5 {v0 : Value} {v1 : Value} {x : Int32} {y : Int32} : am_g d X am_m5033 5 [v0, v1] (.int y :: .int x :: sk) st Q = am_g d X am_m5033 6 [v0, v1] (.int (x - y) :: sk) st Q := am_gu.trans rfl
theorem u5033_6 {v0 : Value} {v1 : Value} {x : Int32} : am_g d X am_m5033 6 [v0, v1] (.int x :: sk) st Q = am_g d X am_m5033 7 [am_kc v0, .int x] sk st Q := am_gu.trans (congrArg (fun l => am_g d X am_m5033 7 (List.set l 1 (.int x)) sk st Q) (kl_1 (l := [v1])))
theorem u5033_7 {v0 : Value} {x : Int32} : am_g d X am_m5033 7 [v0, .int x] sk st Q = am_g d X am_m5033 8 [v0, .int x] (.int x :: sk) st Q := am_gu.trans rfl
theorem u5033_8 {v0 : Value} {v1 : Value} {x : Int32} : am_g d X am_m5033 8 [v0, v1] (.int x :: sk) st Q = (if decide (x < 0) = true then am_g d X am_m5033 25 [v0, v1] sk st Q else am_g d X am_m5033 11 [v0, v1] sk st Q) := am_gu.trans rfl
theorem u5033_11 {v0 : Value} {x : Int32} : am_g d X am_m5033 11 [v0, .int x] sk st Q = am_g d X am_m5033 12 [v0, .int x] (.int x :: sk) st Q := am_gu.trans rfl
theorem u5033_12 {v0 : Value} {v1 : Value} : am_g d X am_m5033 12 [v0, v1] sk st Q = am_g d X am_m5033 13 [v0, v1] (.int (am_i 3) :: sk) st Q := am_gu.trans rfl
theorem u5033_13 {v0 : Value} {v1 : Value} {x : Int32} {y : Int32} : am_g d X am_m5033 13 [v0, v1] (.int y :: .int x :: sk) st Q = (if decide (y ≤ x) = true then am_g d X am_m5033 25 [v0, v1] sk st Q else am_g d X am_m5033 16 [v0, v1] sk st Q) := am_gu.trans rfl
theorem u5033_16 {v1 : Value} {x : Nat} : am_g d X am_m5033 16 [.ref x, v1] sk st Q = am_g d X am_m5033 17 [.ref x, v1] (.ref x :: sk) st Q := am_gu.trans rfl
theorem u5033_17 {v0 : Value} {v1 : Value} : am_g d X am_m5033 17 [v0, v1] sk st Q = am_gt 171 20 [v0, v1] sk st (fun pc lc sk st => am_g d X am_m5033 pc lc sk st Q) := am_gu.trans rfl
theorem u5033_20 {v0 : Value} {x : Int32} : am_g d X am_m5033 20 [v0, .int x] sk st Q = am_g d X am_m5033 21 [v0, .int x] (.int x :: sk) st Q := am_gu.trans rfl
theorem u5033_21 {v0 : Value} {v1 : Value} : am_g d X am_m5033 21 [v0, v1] sk st Q = am_xl (X.1, X.2.1, d) am_m5033 22 [v0, v1] sk st (fun pc lc sk st => am_g d X am_m5033 pc lc sk st Q) := am_gu.trans rfl
theorem u5033_22 {v0 : Value} {v1 : Value} : am_g d X am_m5033 22 [v0, v1] sk st Q = am_g d X am_m5033 26 [v0, v1] sk st Q := am_gu.trans rfl
theorem u5033_25 {v0 : Value} {v1 : Value} : am_g d X am_m5033 25 [v0, v1] sk st Q = am_g d X am_m5033 26 [v0, v1] (.int (am_i (-1)) :: sk) st Q := am_gu.trans rfl
theorem u5033_26 {v0 : Value} {v1 : Value} {x : Int32} : am_g d X am_m5033 26 [v0, v1] [.int x] st Q = Q (.inl (some (.int x))) st := am_gu.trans rfl
set_option maxRecDepth 100000 in
theorem of_5034 : am_of 5034 = some am_m5034 := rfl
theorem c5034 {z a0} {P : am_Q} : am_Ca X (d + 1) 5034 [.ref z, .ref a0] st P = am_g d X am_m5034 0 [.ref z, .ref a0, am_u] [] st P := am_cg of_5034 (by show 2 ≤ 3; decide)
theorem hd_5034 : am_hd am_m5034 = [] := rfl
theorem u5034_0 {v1 : Value} {v2 : Value} {x : Nat} : am_g d X am_m5034 0 [.ref x, v1, v2] sk st Q = am_g d X am_m5034 1 [.ref x, v1, v2] (.ref x :: sk) st Q := am_gu.trans rfl
theorem u5034_1 {v0 : Value} {v1 : Value} {v2 : Value} : am_g d X am_m5034 1 [v0, v1, v2] sk st Q = am_gt 170 4 [v0, v1, v2] sk st (fun pc lc sk st => am_g d X am_m5034 pc lc sk st Q) := am_gu.trans rfl
theorem u5034_4 {v0 : Value} {v1 : Value} {v2 : Value} : am_g d X am_m5034 4 [v0, v1, v2] sk st Q = am_g d X am_m5034 5 [v0, v1, v2] (.int (am_i 1) :: sk) st Q := am_gu.trans rfl
theorem u5034_5 {v0 : Value} {v1 : Value} {v2 : Value} {x : Int32} {y : Int32} : am_g d X am_m5034 5 [v0, v1, v2] (.int y :: .int x :: sk) st Q = am_g d X am_m5034 6 [v0, v1, v2] (.int (x - y) :: sk) st Q := am_gu.trans rfl
theorem u5034_6 {v0 : Value} {v1 : Value} {v2 : Value} {x : Int32} : am_g d X am_m5034 6 [v0, v1, v2] (.int x :: sk) st Q = am_g d X am_m5034 7 [v0, am_kc v1, .int x] sk st Q := am_gu.trans (congrArg (fun l => am_g d X am_m5034 7 (List.set l 2 (.int x)) sk st Q) (kl_2 (l := [v2])))
theorem u5034_7 {v0 : Value} {v1 : Value} {x : Int32} : am_g d X am_m5034 7 [v0, v1, .int x] sk st Q = am_g d X am_m5034 8 [v0, v1, .int x] (.int x :: sk) st Q := am_gu.trans rfl
theorem u5034_8 {v0 : Value} {v1 : Value} {v2 : Value} {x : Int32} : am_g d X am_m5034 8 [v0, v1, v2] (.int x :: sk) st Q = (if decide (x < 0) = true then am_g d X am_m5034 38 [v0, v1, v2] sk st Q else am_g d X am_m5034 11 [v0, v1, v2] sk st Q) := am_gu.trans rfl
theorem u5034_11 {v0 : Value} {v1 : Value} {x : Int32} : am_g d X am_m5034 11 [v0, v1, .int x] sk st Q = am_g d X am_m5034 12 [v0, v1, .int x] (.int x :: sk) st Q := am_gu.trans rfl
theorem u5034_12 {v0 : Value} {v1 : Value} {v2 : Value} : am_g d X am_m5034 12 [v0, v1, v2] sk st Q = am_g d X am_m5034 13 [v0, v1, v2] (.int (am_i 3) :: sk) st Q := am_gu.trans rfl
theorem u5034_13 {v0 : Value} {v1 : Value} {v2 : Value} {x : Int32} {y : Int32} : am_g d X am_m5034 13 [v0, v1, v2] (.int y :: .int x :: sk) st Q = (if decide (y ≤ x) = true then am_g d X am_m5034 38 [v0, v1, v2] sk st Q else am_g d X am_m5034 16 [v0, v1, v2] sk st Q) := am_gu.trans rfl
theorem u5034_16 {v0 : Value} {v2 : Value} {x : Nat} : am_g d X am_m5034 16 [v0, .ref x, v2] sk st Q = am_g d X am_m5034 17 [v0, .ref x, v2] (.ref x :: sk) st Q := am_gu.trans rfl
theorem u5034_17 {v0 : Value} {v1 : Value} {v2 : Value} : am_g d X am_m5034 17 [v0, v1, v2] sk st Q = am_al (X.1, X.2.1, d) am_m5034 18 [v0, v1, v2] sk st (fun pc lc sk st => am_g d X am_m5034 pc lc sk st Q) := am_gu.trans rfl
theorem u5034_18 {v0 : Value} {v1 : Value} {v2 : Value} : am_g d X am_m5034 18 [v0, v1, v2] sk st Q = am_g d X am_m5034 20 [v0, v1, v2] (.int (am_i 24) :: sk) st Q := am_gu.trans rfl
theorem u5034_20 {v0 : Value} {v1 : Value} {v2 : Value} {x : Int32} {y : Int32} : am_g d X am_m5034 20 [v0, v1, v2] (.int y :: .int x :: sk) st Q = (if decide (x < y) = true then am_g d X am_m5034 38 [v0, v1, v2] sk st Q else am_g d X am_m5034 23 [v0, v1, v2] sk st Q) := am_gu.trans rfl
theorem u5034_23 {v1 : Value} {v2 : Value} {x : Nat} : am_g d X am_m5034 23 [.ref x, v1, v2] sk st Q = am_g d X am_m5034 24 [.ref x, v1, v2] (.ref x :: sk) st Q := am_gu.trans rfl
theorem u5034_24 {v0 : Value} {v1 : Value} {v2 : Value} : am_g d X am_m5034 24 [v0, v1, v2] sk st Q = am_gt 172 27 [v0, v1, v2] sk st (fun pc lc sk st => am_g d X am_m5034 pc lc sk st Q) := am_gu.trans rfl
theorem u5034_27 {v0 : Value} {v1 : Value} {x : Int32} : am_g d X am_m5034 27 [v0, v1, .int x] sk st Q = am_g d X am_m5034 28 [v0, v1, .int x] (.int x :: sk) st Q := am_gu.trans rfl
theorem u5034_28 {v0 : Value} {v1 : Value} {v2 : Value} : am_g d X am_m5034 28 [v0, v1, v2] sk st Q = am_g d X am_m5034 30 [v0, v1, v2] (.int (am_i 24) :: sk) st Q := am_gu.trans rfl
theorem u5034_30 {v0 : Value} {v1 : Value} {v2 : Value} {x : Int32} {y : Int32} : am_g d X am_m5034 30 [v0, v1, v2] (.int y :: .int x :: sk) st Q = am_g d X am_m5034 31 [v0, v1, v2] (.int (x * y) :: sk) st Q := am_gu.trans rfl
theorem u5034_31 {v0 : Value} {v2 : Value} {x : Nat} : am_g d X am_m5034 31 [v0, .ref x, v2] sk st Q = am_g d X am_m5034 32 [v0, .ref x, v2] (.ref x :: sk) st Q := am_gu.trans rfl
theorem u5034_32 {v0 : Value} {v1 : Value} {v2 : Value} : am_g d X am_m5034 32 [v0, v1, v2] sk st Q = am_g d X am_m5034 33 [v0, v1, v2] (.int (am_i 0) :: sk) st Q := am_gu.trans rfl
theorem u5034_33 {v0 : Value} {v1 : Value} {v2 : Value} : am_g d X am_m5034 33 [v0, v1, v2] sk st Q = am_g d X am_m5034 35 [v0, v1, v2] (.int (am_i 24) :: sk) st Q := am_gu.trans rfl
theorem u5034_35 {v0 : Value} {v1 : Value} {v2 : Value} : am_g d X am_m5034 35 [v0, v1, v2] sk st Q = am_cp 38 [v0, v1, v2] sk st (fun pc lc sk st => am_g d X am_m5034 pc lc sk st Q) := am_gu.trans rfl
theorem u5034_38 {v0 : Value} {v1 : Value} {v2 : Value} : am_g d X am_m5034 38 [v0, v1, v2] [] st Q = Q (.inl none) st := am_gu.trans rfl
set_option maxRecDepth 100000 in
theorem of_6001 : am_of 6001 = some am_m6001 := rfl
theorem c6001 {z} {P : am_Q} : am_Ca X (d + 1) 6001 [.ref z] st P = am_g d X am_m6001 0 [.ref z] [] st P := am_cg of_6001 (by show 1 ≤ 1; decide)
theorem hd_6001 : am_hd am_m6001 = [] := rfl
theorem u6001_0 {x : Nat} : am_g d X am_m6001 0 [.ref x] sk st Q = am_g d X am_m6001 1 [.ref x] (.ref x :: sk) st Q := am_gu.trans rfl
theorem u6001_1 {v0 : Value} : am_g d X am_m6001 1 [v0] (.ref o :: sk) st Q = (sk.length ≤ 4 ∧ am_g d X am_m6001 4 [v0] sk st Q) := am_gu.trans rfl
theorem u6001_4 {x : Nat} : am_g d X am_m6001 4 [.ref x] sk st Q = am_g d X am_m6001 5 [.ref x] (.ref x :: sk) st Q := am_gu.trans rfl
theorem u6001_5 {v0 : Value} : am_g d X am_m6001 5 [v0] sk st Q = am_nw 2 8 [v0] sk st (fun pc lc sk st => am_g d X am_m6001 pc lc sk st Q) := am_gu.trans rfl
theorem u6001_8i {v0 : Value} {x : Int32} : am_g d X am_m6001 8 [v0] (.int x :: sk) st Q = am_g d X am_m6001 9 [v0] (.int x :: .int x :: sk) st Q := am_gu.trans rfl
theorem u6001_8r {v0 : Value} {x : Nat} : am_g d X am_m6001 8 [v0] (.ref x :: sk) st Q = am_g d X am_m6001 9 [v0] (.ref x :: .ref x :: sk) st Q := am_gu.trans rfl
theorem u6001_9 {v0 : Value} : am_g d X am_m6001 9 [v0] (.ref o :: sk) st Q = ((am_ob st o 2 ∧ sk.length ≤ 4) ∧ am_Ca X d 2001 [.ref o] st (am_af am_m6001 9 [v0] sk (fun pc lc sk st => am_g d X am_m6001 pc lc sk st Q) Q)) := am_gu.trans rfl
theorem u6001_12 {v0 : Value} : am_g d X am_m6001 12 [v0] sk st Q = am_pt 192 15 [v0] sk st (fun pc lc sk st => am_g d X am_m6001 pc lc sk st Q) := am_gu.trans rfl
theorem u6001_15 {x : Nat} : am_g d X am_m6001 15 [.ref x] sk st Q = am_g d X am_m6001 16 [.ref x] (.ref x :: sk) st Q := am_gu.trans rfl
theorem u6001_16 {v0 : Value} : am_g d X am_m6001 16 [v0] sk st Q = am_nw 4 19 [v0] sk st (fun pc lc sk st => am_g d X am_m6001 pc lc sk st Q) := am_gu.trans rfl
theorem u6001_19i {v0 : Value} {x : Int32} : am_g d X am_m6001 19 [v0] (.int x :: sk) st Q = am_g d X am_m6001 20 [v0] (.int x :: .int x :: sk) st Q := am_gu.trans rfl
theorem u6001_19r {v0 : Value} {x : Nat} : am_g d X am_m6001 19 [v0] (.ref x :: sk) st Q = am_g d X am_m6001 20 [v0] (.ref x :: .ref x :: sk) st Q := am_gu.trans rfl
theorem u6001_20 {v0 : Value} : am_g d X am_m6001 20 [v0] (.ref o :: sk) st Q = ((am_ob st o 4 ∧ sk.length ≤ 4) ∧ am_Ca X d 4001 [.ref o] st (am_af am_m6001 20 [v0] sk (fun pc lc sk st => am_g d X am_m6001 pc lc sk st Q) Q)) := am_gu.trans rfl
theorem u6001_23 {v0 : Value} : am_g d X am_m6001 23 [v0] sk st Q = am_pt 193 26 [v0] sk st (fun pc lc sk st => am_g d X am_m6001 pc lc sk st Q) := am_gu.trans rfl
theorem u6001_26 {x : Nat} : am_g d X am_m6001 26 [.ref x] sk st Q = am_g d X am_m6001 27 [.ref x] (.ref x :: sk) st Q := am_gu.trans rfl
theorem u6001_27 {v0 : Value} : am_g d X am_m6001 27 [v0] sk st Q = am_nw 3 30 [v0] sk st (fun pc lc sk st => am_g d X am_m6001 pc lc sk st Q) := am_gu.trans rfl
theorem u6001_30i {v0 : Value} {x : Int32} : am_g d X am_m6001 30 [v0] (.int x :: sk) st Q = am_g d X am_m6001 31 [v0] (.int x :: .int x :: sk) st Q := am_gu.trans rfl
theorem u6001_30r {v0 : Value} {x : Nat} : am_g d X am_m6001 30 [v0] (.ref x :: sk) st Q = am_g d X am_m6001 31 [v0] (.ref x :: .ref x :: sk) st Q := am_gu.trans rfl
theorem u6001_31 {v0 : Value} : am_g d X am_m6001 31 [v0] (.ref o :: sk) st Q = ((am_ob st o 3 ∧ sk.length ≤ 4) ∧ am_Ca X d 3001 [.ref o] st (am_af am_m6001 31 [v0] sk (fun pc lc sk st => am_g d X am_m6001 pc lc sk st Q) Q)) := am_gu.trans rfl
theorem u6001_34 {v0 : Value} : am_g d X am_m6001 34 [v0] sk st Q = am_pt 194 37 [v0] sk st (fun pc lc sk st => am_g d X am_m6001 pc lc sk st Q) := am_gu.trans rfl
theorem u6001_37 {x : Nat} : am_g d X am_m6001 37 [.ref x] sk st Q = am_g d X am_m6001 38 [.ref x] (.ref x :: sk) st Q := am_gu.trans rfl
theorem u6001_38 {v0 : Value} : am_g d X am_m6001 38 [v0] sk st Q = am_nw 5 41 [v0] sk st (fun pc lc sk st => am_g d X am_m6001 pc lc sk st Q) := am_gu.trans rfl
theorem u6001_41i {v0 : Value} {x : Int32} : am_g d X am_m6001 41 [v0] (.int x :: sk) st Q = am_g d X am_m6001 42 [v0] (.int x :: .int x :: sk) st Q := am_gu.trans rfl
theorem u6001_41r {v0 : Value} {x : Nat} : am_g d X am_m6001 41 [v0] (.ref x :: sk) st Q = am_g d X am_m6001 42 [v0] (.ref x :: .ref x :: sk) st Q := am_gu.trans rfl
theorem u6001_42 {v0 : Value} : am_g d X am_m6001 42 [v0] (.ref o :: sk) st Q = ((am_ob st o 5 ∧ sk.length ≤ 4) ∧ am_Ca X d 5001 [.ref o] st (am_af am_m6001 42 [v0] sk (fun pc lc sk st => am_g d X am_m6001 pc lc sk st Q) Q)) := am_gu.trans rfl
theorem u6001_45 {v0 : Value} : am_g d X am_m6001 45 [v0] sk st Q = am_pt 195 48 [v0] sk st (fun pc lc sk st => am_g d X am_m6001 pc lc sk st Q) := am_gu.trans rfl
theorem u6001_48 {x : Nat} : am_g d X am_m6001 48 [.ref x] sk st Q = am_g d X am_m6001 49 [.ref x] (.ref x :: sk) st Q := am_gu.trans rfl
theorem u6001_49 {v0 : Value} : am_g d X am_m6001 49 [v0] sk st Q = am_g d X am_m6001 50 [v0] (.int (am_i 0) :: sk) st Q := am_gu.trans rfl
theorem u6001_50 {v0 : Value} : am_g d X am_m6001 50 [v0] sk st Q = am_pt 196 53 [v0] sk st (fun pc lc sk st => am_g d X am_m6001 pc lc sk st Q) := am_gu.trans rfl
theorem u6001_53 {v0 : Value} : am_g d X am_m6001 53 [v0] [] st Q = Q (.inl none) st := am_gu.trans rfl
set_option maxRecDepth 100000 in
theorem of_6002 : am_of 6002 = some am_m6002 := rfl
theorem c6002 {z a0} {P : am_Q} : am_Ca X (d + 1) 6002 [.ref z, .int a0] st P = am_g d X am_m6002 0 [.ref z, .int a0] [] st P := am_cg of_6002 (by show 2 ≤ 2; decide)
theorem hd_6002 : am_hd am_m6002 = [] := rfl
theorem u6002_0 {v0 : Value} {x : Int32} : am_g d X am_m6002 0 [v0, .int x] sk st Q = am_g d X am_m6002 1 [v0, .int x] (.int x :: sk) st Q := am_gu.trans rfl
theorem u6002_1 {v0 : Value} {v1 : Value} : am_g d X am_m6002 1 [v0, v1] sk st Q = am_g d X am_m6002 3 [v0, v1] (.int (am_i 32) :: sk) st Q := am_gu.trans rfl
theorem u6002_3 {v0 : Value} {v1 : Value} {x : Int32} {y : Int32} : am_g d X am_m6002 3 [v0, v1] (.int y :: .int x :: sk) st Q = (if decide (x < y) = true then am_g d X am_m6002 12 [v0, v1] sk st Q else am_g d X am_m6002 6 [v0, v1] sk st Q) := am_gu.trans rfl
theorem u6002_6 {v0 : Value} {x : Int32} : am_g d X am_m6002 6 [v0, .int x] sk st Q = am_g d X am_m6002 7 [v0, .int x] (.int x :: sk) st Q := am_gu.trans rfl
theorem u6002_7 {v0 : Value} {v1 : Value} : am_g d X am_m6002 7 [v0, v1] sk st Q = am_g d X am_m6002 9 [v0, v1] (.int (am_i 126) :: sk) st Q := am_gu.trans rfl
theorem u6002_9 {v0 : Value} {v1 : Value} {x : Int32} {y : Int32} : am_g d X am_m6002 9 [v0, v1] (.int y :: .int x :: sk) st Q = (if decide (x ≤ y) = true then am_g d X am_m6002 22 [v0, v1] sk st Q else am_g d X am_m6002 12 [v0, v1] sk st Q) := am_gu.trans rfl
theorem u6002_12 {v0 : Value} {v1 : Value} : am_g d X am_m6002 12 [v0, v1] [] (n, sh, cl, sl, F, A, L) Q = ((5 ≤ d ∧ n ≤ cl) ∧ Q (.inr 0) (n, sh, cl + 1, sl + 6, F, A, L)) := am_gu.trans (propext ⟨fun h => ⟨⟨h.1.2.2.1, h.1.2.2.2⟩, h.2⟩, fun h => ⟨⟨rfl, Nat.zero_le _, h.1.1, h.1.2⟩, h.2⟩⟩)
theorem u6002_22 {v1 : Value} {x : Nat} : am_g d X am_m6002 22 [.ref x, v1] sk st Q = am_g d X am_m6002 23 [.ref x, v1] (.ref x :: sk) st Q := am_gu.trans rfl
theorem u6002_23 {v0 : Value} {v1 : Value} : am_g d X am_m6002 23 [v0, v1] sk st Q = am_gt 192 26 [v0, v1] sk st (fun pc lc sk st => am_g d X am_m6002 pc lc sk st Q) := am_gu.trans rfl
theorem u6002_26 {v0 : Value} {v1 : Value} : am_g d X am_m6002 26 [v0, v1] (.ref o :: sk) st Q = ((am_ob st o 2 ∧ sk.length ≤ 5) ∧ am_Ca X d 2003 [.ref o] st (am_af am_m6002 26 [v0, v1] sk (fun pc lc sk st => am_g d X am_m6002 pc lc sk st Q) Q)) := am_gu.trans rfl
theorem u6002_29 {v0 : Value} {v1 : Value} {x : Int32} : am_g d X am_m6002 29 [v0, v1] (.int x :: sk) st Q = (if decide (x = 0) = true then am_g d X am_m6002 42 [v0, v1] sk st Q else am_g d X am_m6002 32 [v0, v1] sk st Q) := am_gu.trans rfl
theorem u6002_32 {v0 : Value} {v1 : Value} : am_g d X am_m6002 32 [v0, v1] [] (n, sh, cl, sl, F, A, L) Q = ((5 ≤ d ∧ n ≤ cl) ∧ Q (.inr 1) (n, sh, cl + 1, sl + 6, F, A, L)) := am_gu.trans (propext ⟨fun h => ⟨⟨h.1.2.2.1, h.1.2.2.2⟩, h.2⟩, fun h => ⟨⟨rfl, Nat.zero_le _, h.1.1, h.1.2⟩, h.2⟩⟩)
theorem u6002_42 {v1 : Value} {x : Nat} : am_g d X am_m6002 42 [.ref x, v1] sk st Q = am_g d X am_m6002 43 [.ref x, v1] (.ref x :: sk) st Q := am_gu.trans rfl
theorem u6002_43 {v0 : Value} {v1 : Value} : am_g d X am_m6002 43 [v0, v1] sk st Q = am_gt 192 46 [v0, v1] sk st (fun pc lc sk st => am_g d X am_m6002 pc lc sk st Q) := am_gu.trans rfl
theorem u6002_46 {v0 : Value} {x : Int32} : am_g d X am_m6002 46 [v0, .int x] sk st Q = am_g d X am_m6002 47 [v0, .int x] (.int x :: sk) st Q := am_gu.trans rfl
theorem u6002_47 {a0 : Value} {v0 : Value} {v1 : Value} : am_g d X am_m6002 47 [v0, v1] (a0 :: .ref o :: sk) st Q = ((am_ob st o 2 ∧ sk.length ≤ 5) ∧ am_Ca X d 2004 [.ref o, a0] st (am_af am_m6002 47 [v0, v1] sk (fun pc lc sk st => am_g d X am_m6002 pc lc sk st Q) Q)) := am_gu.trans rfl
theorem u6002_50 {v0 : Value} {v1 : Value} {x : Int32} : am_g d X am_m6002 50 [v0, v1] [.int x] st Q = Q (.inl (some (.int x))) st := am_gu.trans rfl
set_option maxRecDepth 100000 in
theorem of_6003 : am_of 6003 = some am_m6003 := rfl
theorem c6003 {z} {P : am_Q} : am_Ca X (d + 1) 6003 [.ref z] st P = am_g d X am_m6003 0 [.ref z] [] st P := am_cg of_6003 (by show 1 ≤ 1; decide)
theorem hd_6003 : am_hd am_m6003 = [] := rfl
theorem u6003_0 {x : Nat} : am_g d X am_m6003 0 [.ref x] sk st Q = am_g d X am_m6003 1 [.ref x] (.ref x :: sk) st Q := am_gu.trans rfl
theorem u6003_1 {v0 : Value} : am_g d X am_m6003 1 [v0] sk st Q = am_gt 192 4 [v0] sk st (fun pc lc sk st => am_g d X am_m6003 pc lc sk st Q) := am_gu.trans rfl
theorem u6003_4 {v0 : Value} : am_g d X am_m6003 4 [v0] (.ref o :: sk) st Q = ((am_ob st o 2 ∧ sk.length ≤ 5) ∧ am_Ca X d 2005 [.ref o] st (am_af am_m6003 4 [v0] sk (fun pc lc sk st => am_g d X am_m6003 pc lc sk st Q) Q)) := am_gu.trans rfl
theorem u6003_7 {v0 : Value} {x : Int32} : am_g d X am_m6003 7 [v0] [.int x] st Q = Q (.inl (some (.int x))) st := am_gu.trans rfl
set_option maxRecDepth 100000 in
theorem of_6004 : am_of 6004 = some am_m6004 := rfl
theorem c6004 {z} {P : am_Q} : am_Ca X (d + 1) 6004 [.ref z] st P = am_g d X am_m6004 0 [.ref z] [] st P := am_cg of_6004 (by show 1 ≤ 1; decide)
theorem hd_6004 : am_hd am_m6004 = [] := rfl
theorem u6004_0 {x : Nat} : am_g d X am_m6004 0 [.ref x] sk st Q = am_g d X am_m6004 1 [.ref x] (.ref x :: sk) st Q := am_gu.trans rfl
theorem u6004_1 {v0 : Value} : am_g d X am_m6004 1 [v0] sk st Q = am_gt 192 4 [v0] sk st (fun pc lc sk st => am_g d X am_m6004 pc lc sk st Q) := am_gu.trans rfl
theorem u6004_4 {v0 : Value} : am_g d X am_m6004 4 [v0] (.ref o :: sk) st Q = ((am_ob st o 2 ∧ sk.length ≤ 5) ∧ am_Ca X d 2007 [.ref o] st (am_af am_m6004 4 [v0] sk (fun pc lc sk st => am_g d X am_m6004 pc lc sk st Q) Q)) := am_gu.trans rfl
theorem u6004_7 {v0 : Value} {x : Int32} : am_g d X am_m6004 7 [v0] [.int x] st Q = Q (.inl (some (.int x))) st := am_gu.trans rfl
set_option maxRecDepth 100000 in
theorem of_6005 : am_of 6005 = some am_m6005 := rfl
theorem c6005 {z} {P : am_Q} : am_Ca X (d + 1) 6005 [.ref z] st P = am_g d X am_m6005 0 [.ref z, am_u, am_u] [] st P := am_cg of_6005 (by show 1 ≤ 3; decide)
theorem hd_6005 : am_hd am_m6005 = [] := rfl
theorem u6005_0 {v1 : Value} {v2 : Value} {x : Nat} : am_g d X am_m6005 0 [.ref x, v1, v2] sk st Q = am_g d X am_m6005 1 [.ref x, v1, v2] (.ref x :: sk) st Q := am_gu.trans rfl
theorem u6005_1 {v0 : Value} {v1 : Value} {v2 : Value} : am_g d X am_m6005 1 [v0, v1, v2] sk st Q = am_gt 192 4 [v0, v1, v2] sk st (fun pc lc sk st => am_g d X am_m6005 pc lc sk st Q) := am_gu.trans rfl
theorem u6005_4 {v0 : Value} {v1 : Value} {v2 : Value} : am_g d X am_m6005 4 [v0, v1, v2] (.ref o :: sk) st Q = ((am_ob st o 2 ∧ sk.length ≤ 5) ∧ am_Ca X d 2007 [.ref o] st (am_af am_m6005 4 [v0, v1, v2] sk (fun pc lc sk st => am_g d X am_m6005 pc lc sk st Q) Q)) := am_gu.trans rfl
theorem u6005_7 {v0 : Value} {v1 : Value} {v2 : Value} : am_g d X am_m6005 7 [v0, v1, v2] sk st Q = am_g d X am_m6005 8 [v0, v1, v2] (.int (am_i (-1)) :: sk) st Q := am_gu.trans rfl
theorem u6005_8 {v0 : Value} {v1 : Value} {v2 : Value} {x : Int32} {y : Int32} : am_g d X am_m6005 8 [v0, v1, v2] (.int y :: .int x :: sk) st Q = (if decide (x = y) = true then am_g d X am_m6005 21 [v0, v1, v2] sk st Q else am_g d X am_m6005 11 [v0, v1, v2] sk st Q) := am_gu.trans rfl
theorem u6005_11 {v0 : Value} {v1 : Value} {v2 : Value} : am_g d X am_m6005 11 [v0, v1, v2] [] (n, sh, cl, sl, F, A, L) Q = ((5 ≤ d ∧ n ≤ cl) ∧ Q (.inr 1) (n, sh, cl + 1, sl + 6, F, A, L)) := am_gu.trans (propext ⟨fun h => ⟨⟨h.1.2.2.1, h.1.2.2.2⟩, h.2⟩, fun h => ⟨⟨rfl, Nat.zero_le _, h.1.1, h.1.2⟩, h.2⟩⟩)
theorem u6005_21 {v1 : Value} {v2 : Value} {x : Nat} : am_g d X am_m6005 21 [.ref x, v1, v2] sk st Q = am_g d X am_m6005 22 [.ref x, v1, v2] (.ref x :: sk) st Q := am_gu.trans rfl
theorem u6005_22 {v0 : Value} {v1 : Value} {v2 : Value} : am_g d X am_m6005 22 [v0, v1, v2] (.ref o :: sk) st Q = ((am_ob st o 6 ∧ sk.length ≤ 5) ∧ am_Ca X d 6066 [.ref o] st (am_af am_m6005 22 [v0, v1, v2] sk (fun pc lc sk st => am_g d X am_m6005 pc lc sk st Q) Q)) := am_gu.trans rfl
theorem u6005_25 {v0 : Value} {v1 : Value} {v2 : Value} : am_g d X am_m6005 25 [v0, v1, v2] sk st Q = am_g d X am_m6005 26 [v0, v1, v2] (.int (am_i 0) :: sk) st Q := am_gu.trans rfl
theorem u6005_26 {v0 : Value} {v1 : Value} {v2 : Value} {x : Int32} : am_g d X am_m6005 26 [v0, v1, v2] (.int x :: sk) st Q = am_g d X am_m6005 27 [am_kc v0, .int x, v2] sk st Q := am_gu.trans (congrArg (fun l => am_g d X am_m6005 27 (List.set l 1 (.int x)) sk st Q) (kl_1 (l := [v1, v2])))
theorem u6005_27 {v0 : Value} {v1 : Value} {v2 : Value} : am_g d X am_m6005 27 [v0, v1, v2] sk st Q = am_g d X am_m6005 28 [v0, v1, v2] (.int (am_i 0) :: sk) st Q := am_gu.trans rfl
theorem u6005_28 {v0 : Value} {v1 : Value} {v2 : Value} {x : Int32} : am_g d X am_m6005 28 [v0, v1, v2] (.int x :: sk) st Q = am_g d X am_m6005 29 [v0, am_kc v1, .int x] sk st Q := am_gu.trans (congrArg (fun l => am_g d X am_m6005 29 (List.set l 2 (.int x)) sk st Q) (kl_2 (l := [v2])))
theorem u6005_29 {v0 : Value} {v1 : Value} {x : Int32} : am_g d X am_m6005 29 [v0, v1, .int x] sk st Q = am_g d X am_m6005 30 [v0, v1, .int x] (.int x :: sk) st Q := am_gu.trans rfl
theorem u6005_30 {v0 : Value} {v1 : Value} {v2 : Value} : am_g d X am_m6005 30 [v0, v1, v2] sk st Q = am_g d X am_m6005 32 [v0, v1, v2] (.int (am_i 60) :: sk) st Q := am_gu.trans rfl
theorem u6005_32 {v0 : Value} {v1 : Value} {v2 : Value} {x : Int32} {y : Int32} : am_g d X am_m6005 32 [v0, v1, v2] (.int y :: .int x :: sk) st Q = (if decide (y ≤ x) = true then am_g d X am_m6005 78 [v0, v1, v2] sk st Q else am_g d X am_m6005 35 [v0, v1, v2] sk st Q) := am_gu.trans rfl
theorem u6005_35 {v0 : Value} {v2 : Value} {x : Int32} : am_g d X am_m6005 35 [v0, .int x, v2] sk st Q = am_g d X am_m6005 36 [v0, .int x, v2] (.int x :: sk) st Q := am_gu.trans rfl
theorem u6005_36 {v1 : Value} {v2 : Value} {x : Nat} : am_g d X am_m6005 36 [.ref x, v1, v2] sk st Q = am_g d X am_m6005 37 [.ref x, v1, v2] (.ref x :: sk) st Q := am_gu.trans rfl
theorem u6005_37 {v0 : Value} {v1 : Value} {v2 : Value} : am_g d X am_m6005 37 [v0, v1, v2] sk st Q = am_gt 192 40 [v0, v1, v2] sk st (fun pc lc sk st => am_g d X am_m6005 pc lc sk st Q) := am_gu.trans rfl
theorem u6005_40 {v0 : Value} {v1 : Value} {v2 : Value} : am_g d X am_m6005 40 [v0, v1, v2] (.ref o :: sk) st Q = ((am_ob st o 2 ∧ sk.length ≤ 5) ∧ am_Ca X d 2002 [.ref o] st (am_af am_m6005 40 [v0, v1, v2] sk (fun pc lc sk st => am_g d X am_m6005 pc lc sk st Q) Q)) := am_gu.trans rfl
theorem u6005_43 {v0 : Value} {v1 : Value} {v2 : Value} {x : Int32} {y : Int32} : am_g d X am_m6005 43 [v0, v1, v2] (.int y :: .int x :: sk) st Q = (if decide (y ≤ x) = true then am_g d X am_m6005 54 [v0, v1, v2] sk st Q else am_g d X am_m6005 46 [v0, v1, v2] sk st Q) := am_gu.trans rfl
theorem u6005_46 {v1 : Value} {v2 : Value} {x : Nat} : am_g d X am_m6005 46 [.ref x, v1, v2] sk st Q = am_g d X am_m6005 47 [.ref x, v1, v2] (.ref x :: sk) st Q := am_gu.trans rfl
theorem u6005_47 {v0 : Value} {v2 : Value} {x : Int32} : am_g d X am_m6005 47 [v0, .int x, v2] sk st Q = am_g d X am_m6005 48 [v0, .int x, v2] (.int x :: sk) st Q := am_gu.trans rfl
theorem u6005_48 {a0 : Value} {v0 : Value} {v1 : Value} {v2 : Value} : am_g d X am_m6005 48 [v0, v1, v2] (a0 :: .ref o :: sk) st Q = ((am_ob st o 6 ∧ sk.length ≤ 5) ∧ am_Ca X d 6067 [.ref o, a0] st (am_af am_m6005 48 [v0, v1, v2] sk (fun pc lc sk st => am_g d X am_m6005 pc lc sk st Q) Q)) := am_gu.trans rfl
theorem u6005_51 {v0 : Value} {v1 : Value} {v2 : Value} {x : Int32} : am_g d X am_m6005 51 [v0, v1, v2] (.int x :: sk) st Q = (if decide (¬ x = 0) = true then am_g d X am_m6005 56 [v0, v1, v2] sk st Q else am_g d X am_m6005 54 [v0, v1, v2] sk st Q) := am_gu.trans rfl
theorem u6005_54 {v0 : Value} {v1 : Value} {x : Int32} : am_g d X am_m6005 54 [v0, v1, .int x] sk st Q = am_g d X am_m6005 55 [v0, v1, .int x] (.int x :: sk) st Q := am_gu.trans rfl
theorem u6005_55 {v0 : Value} {v1 : Value} {v2 : Value} {x : Int32} : am_g d X am_m6005 55 [v0, v1, v2] [.int x] st Q = Q (.inl (some (.int x))) st := am_gu.trans rfl
theorem u6005_56 {v1 : Value} {v2 : Value} {x : Nat} : am_g d X am_m6005 56 [.ref x, v1, v2] sk st Q = am_g d X am_m6005 57 [.ref x, v1, v2] (.ref x :: sk) st Q := am_gu.trans rfl
theorem u6005_57 {v0 : Value} {v2 : Value} {x : Int32} : am_g d X am_m6005 57 [v0, .int x, v2] sk st Q = am_g d X am_m6005 58 [v0, .int x, v2] (.int x :: sk) st Q := am_gu.trans rfl
theorem u6005_58 {a0 : Value} {v0 : Value} {v1 : Value} {v2 : Value} : am_g d X am_m6005 58 [v0, v1, v2] (a0 :: .ref o :: sk) st Q = ((am_ob st o 6 ∧ sk.length ≤ 5) ∧ am_Ca X d 6068 [.ref o, a0] st (am_af am_m6005 58 [v0, v1, v2] sk (fun pc lc sk st => am_g d X am_m6005 pc lc sk st Q) Q)) := am_gu.trans rfl
theorem u6005_61 {v1 : Value} {v2 : Value} {x : Nat} : am_g d X am_m6005 61 [.ref x, v1, v2] sk st Q = am_g d X am_m6005 62 [.ref x, v1, v2] (.ref x :: sk) st Q := am_gu.trans rfl
theorem u6005_62 {v0 : Value} {v1 : Value} {v2 : Value} : am_g d X am_m6005 62 [v0, v1, v2] sk st Q = am_gt 192 65 [v0, v1, v2] sk st (fun pc lc sk st => am_g d X am_m6005 pc lc sk st Q) := am_gu.trans rfl
theorem u6005_65 {v0 : Value} {v2 : Value} {x : Int32} : am_g d X am_m6005 65 [v0, .int x, v2] sk st Q = am_g d X am_m6005 66 [v0, .int x, v2] (.int x :: sk) st Q := am_gu.trans rfl
theorem u6005_66 {a0 : Value} {v0 : Value} {v1 : Value} {v2 : Value} : am_g d X am_m6005 66 [v0, v1, v2] (a0 :: .ref o :: sk) st Q = ((am_ob st o 2 ∧ sk.length ≤ 5) ∧ am_Ca X d 2008 [.ref o, a0] st (am_af am_m6005 66 [v0, v1, v2] sk (fun pc lc sk st => am_g d X am_m6005 pc lc sk st Q) Q)) := am_gu.trans rfl
theorem u6005_69 {v0 : Value} {v1 : Value} {v2 : Value} : am_g d X am_m6005 69 [v0, v1, v2] sk st Q = am_g d X am_m6005 70 [v0, v1, v2] (.int (am_i 1) :: sk) st Q := am_gu.trans rfl
theorem u6005_70 {v0 : Value} {v1 : Value} {v2 : Value} {x : Int32} {y : Int32} : am_g d X am_m6005 70 [v0, v1, v2] (.int y :: .int x :: sk) st Q = am_g d X am_m6005 71 [v0, v1, v2] (.int (x + y) :: sk) st Q := am_gu.trans rfl
theorem u6005_71 {v0 : Value} {v1 : Value} {v2 : Value} {x : Int32} : am_g d X am_m6005 71 [v0, v1, v2] (.int x :: sk) st Q = am_g d X am_m6005 72 [am_kc v0, .int x, v2] sk st Q := am_gu.trans (congrArg (fun l => am_g d X am_m6005 72 (List.set l 1 (.int x)) sk st Q) (kl_1 (l := [v1, v2])))
theorem u6005_72 {v0 : Value} {v1 : Value} {x : Int32} : am_g d X am_m6005 72 [v0, v1, .int x] sk st Q = am_g d X am_m6005 75 [v0, am_kc v1, .int (x + am_i 1)] sk st Q := am_gu.trans (congrArg (fun l => am_g d X am_m6005 75 (List.set l 2 (.int (x + am_i 1))) sk st Q) (kl_2 (l := [.int x])))
theorem u6005_75 {v0 : Value} {v1 : Value} {v2 : Value} : am_g d X am_m6005 75 [v0, v1, v2] sk st Q = am_g d X am_m6005 29 [v0, v1, v2] sk st Q := am_gu.trans rfl
theorem u6005_78 {v0 : Value} {v1 : Value} {v2 : Value} : am_g d X am_m6005 78 [v0, v1, v2] sk st Q = am_g d X am_m6005 80 [v0, v1, v2] (.int (am_i 60) :: sk) st Q := am_gu.trans rfl
theorem u6005_80 {v0 : Value} {v1 : Value} {v2 : Value} {x : Int32} : am_g d X am_m6005 80 [v0, v1, v2] [.int x] st Q = Q (.inl (some (.int x))) st := am_gu.trans rfl
set_option maxRecDepth 100000 in
theorem of_6006 : am_of 6006 = some am_m6006 := rfl
theorem c6006 {z a0 a1 a2} {P : am_Q} : am_Ca X (d + 1) 6006 [.ref z, .int a0, .int a1, .int a2] st P = am_g d X am_m6006 0 [.ref z, .int a0, .int a1, .int a2] [] st P := am_cg of_6006 (by show 4 ≤ 4; decide)
theorem hd_6006 : am_hd am_m6006 = [] := rfl
theorem u6006_0 {v0 : Value} {v2 : Value} {v3 : Value} {x : Int32} : am_g d X am_m6006 0 [v0, .int x, v2, v3] sk st Q = am_g d X am_m6006 1 [v0, .int x, v2, v3] (.int x :: sk) st Q := am_gu.trans rfl
theorem u6006_1 {v0 : Value} {v1 : Value} {v3 : Value} {x : Int32} : am_g d X am_m6006 1 [v0, v1, .int x, v3] sk st Q = am_g d X am_m6006 2 [v0, v1, .int x, v3] (.int x :: sk) st Q := am_gu.trans rfl
theorem u6006_2 {a0 : Value} {a1 : Value} {v0 : Value} {v1 : Value} {v2 : Value} {v3 : Value} : am_g d X am_m6006 2 [v0, v1, v2, v3] (a1 :: a0 :: sk) st Q = (sk.length ≤ 4 ∧ am_Ca X d 6061 [a0, a1] st (am_af am_m6006 2 [v0, v1, v2, v3] sk (fun pc lc sk st => am_g d X am_m6006 pc lc sk st Q) Q)) := am_gu.trans (propext ⟨fun h => ⟨h.1.2, h.2⟩, fun h => ⟨⟨Nat.le_add_left _ _, h.1⟩, h.2⟩⟩)
theorem u6006_5 {v0 : Value} {v1 : Value} {v2 : Value} {x : Int32} : am_g d X am_m6006 5 [v0, v1, v2, .int x] sk st Q = am_g d X am_m6006 6 [v0, v1, v2, .int x] (.int x :: sk) st Q := am_gu.trans rfl
theorem u6006_6 {v0 : Value} {v1 : Value} {v2 : Value} {v3 : Value} {x : Int32} : am_g d X am_m6006 6 [v0, v1, v2, v3] (.int x :: sk) st Q = (if decide (x < 0) = true then am_g d X am_m6006 15 [v0, v1, v2, v3] sk st Q else am_g d X am_m6006 9 [v0, v1, v2, v3] sk st Q) := am_gu.trans rfl
theorem u6006_9 {v0 : Value} {v1 : Value} {v2 : Value} {x : Int32} : am_g d X am_m6006 9 [v0, v1, v2, .int x] sk st Q = am_g d X am_m6006 10 [v0, v1, v2, .int x] (.int x :: sk) st Q := am_gu.trans rfl
theorem u6006_10 {v0 : Value} {v1 : Value} {v2 : Value} {v3 : Value} : am_g d X am_m6006 10 [v0, v1, v2, v3] sk st Q = am_g d X am_m6006 12 [v0, v1, v2, v3] (.int (am_i 100) :: sk) st Q := am_gu.trans rfl
theorem u6006_12 {v0 : Value} {v1 : Value} {v2 : Value} {v3 : Value} {x : Int32} {y : Int32} : am_g d X am_m6006 12 [v0, v1, v2, v3] (.int y :: .int x :: sk) st Q = (if decide (x < y) = true then am_g d X am_m6006 25 [v0, v1, v2, v3] sk st Q else am_g d X am_m6006 15 [v0, v1, v2, v3] sk st Q) := am_gu.trans rfl
theorem u6006_15 {v0 : Value} {v1 : Value} {v2 : Value} {v3 : Value} : am_g d X am_m6006 15 [v0, v1, v2, v3] [] (n, sh, cl, sl, F, A, L) Q = ((5 ≤ d ∧ n ≤ cl) ∧ Q (.inr 0) (n, sh, cl + 1, sl + 6, F, A, L)) := am_gu.trans (propext ⟨fun h => ⟨⟨h.1.2.2.1, h.1.2.2.2⟩, h.2⟩, fun h => ⟨⟨rfl, Nat.zero_le _, h.1.1, h.1.2⟩, h.2⟩⟩)
theorem u6006_25 {v1 : Value} {v2 : Value} {v3 : Value} {x : Nat} : am_g d X am_m6006 25 [.ref x, v1, v2, v3] sk st Q = am_g d X am_m6006 26 [.ref x, v1, v2, v3] (.ref x :: sk) st Q := am_gu.trans rfl
theorem u6006_26 {v0 : Value} {v1 : Value} {v2 : Value} {v3 : Value} : am_g d X am_m6006 26 [v0, v1, v2, v3] (.ref o :: sk) st Q = ((am_ob st o 6 ∧ sk.length ≤ 5) ∧ am_Ca X d 6066 [.ref o] st (am_af am_m6006 26 [v0, v1, v2, v3] sk (fun pc lc sk st => am_g d X am_m6006 pc lc sk st Q) Q)) := am_gu.trans rfl
theorem u6006_29 {v1 : Value} {v2 : Value} {v3 : Value} {x : Nat} : am_g d X am_m6006 29 [.ref x, v1, v2, v3] sk st Q = am_g d X am_m6006 30 [.ref x, v1, v2, v3] (.ref x :: sk) st Q := am_gu.trans rfl
theorem u6006_30 {v0 : Value} {v1 : Value} {v2 : Value} {v3 : Value} : am_g d X am_m6006 30 [v0, v1, v2, v3] sk st Q = am_gt 193 33 [v0, v1, v2, v3] sk st (fun pc lc sk st => am_g d X am_m6006 pc lc sk st Q) := am_gu.trans rfl
theorem u6006_33 {v0 : Value} {v2 : Value} {v3 : Value} {x : Int32} : am_g d X am_m6006 33 [v0, .int x, v2, v3] sk st Q = am_g d X am_m6006 34 [v0, .int x, v2, v3] (.int x :: sk) st Q := am_gu.trans rfl
theorem u6006_34 {v0 : Value} {v1 : Value} {v3 : Value} {x : Int32} : am_g d X am_m6006 34 [v0, v1, .int x, v3] sk st Q = am_g d X am_m6006 35 [v0, v1, .int x, v3] (.int x :: sk) st Q := am_gu.trans rfl
theorem u6006_35 {a0 : Value} {a1 : Value} {v0 : Value} {v1 : Value} {v2 : Value} {v3 : Value} : am_g d X am_m6006 35 [v0, v1, v2, v3] (a1 :: a0 :: sk) st Q = (sk.length ≤ 4 ∧ am_Ca X d 6060 [a0, a1] st (am_af am_m6006 35 [v0, v1, v2, v3] sk (fun pc lc sk st => am_g d X am_m6006 pc lc sk st Q) Q)) := am_gu.trans (propext ⟨fun h => ⟨h.1.2, h.2⟩, fun h => ⟨⟨Nat.le_add_left _ _, h.1⟩, h.2⟩⟩)
theorem u6006_38 {v0 : Value} {v1 : Value} {v2 : Value} {x : Int32} : am_g d X am_m6006 38 [v0, v1, v2, .int x] sk st Q = am_g d X am_m6006 39 [v0, v1, v2, .int x] (.int x :: sk) st Q := am_gu.trans rfl
theorem u6006_39 {a0 : Value} {a1 : Value} {v0 : Value} {v1 : Value} {v2 : Value} {v3 : Value} : am_g d X am_m6006 39 [v0, v1, v2, v3] (a1 :: a0 :: .ref o :: sk) st Q = ((am_ob st o 4 ∧ sk.length ≤ 5) ∧ am_Ca X d 4002 [.ref o, a0, a1] st (am_af am_m6006 39 [v0, v1, v2, v3] sk (fun pc lc sk st => am_g d X am_m6006 pc lc sk st Q) Q)) := am_gu.trans rfl
theorem u6006_42 {v0 : Value} {v1 : Value} {v2 : Value} {v3 : Value} {x : Int32} : am_g d X am_m6006 42 [v0, v1, v2, v3] [.int x] st Q = Q (.inl (some (.int x))) st := am_gu.trans rfl
set_option maxRecDepth 100000 in
theorem of_6007 : am_of 6007 = some am_m6007 := rfl
theorem c6007 {z} {P : am_Q} : am_Ca X (d + 1) 6007 [.ref z] st P = am_g d X am_m6007 0 [.ref z] [] st P := am_cg of_6007 (by show 1 ≤ 1; decide)
theorem hd_6007 : am_hd am_m6007 = [] := rfl
theorem u6007_0 {x : Nat} : am_g d X am_m6007 0 [.ref x] sk st Q = am_g d X am_m6007 1 [.ref x] (.ref x :: sk) st Q := am_gu.trans rfl
theorem u6007_1 {v0 : Value} : am_g d X am_m6007 1 [v0] sk st Q = am_gt 193 4 [v0] sk st (fun pc lc sk st => am_g d X am_m6007 pc lc sk st Q) := am_gu.trans rfl
theorem u6007_4 {v0 : Value} : am_g d X am_m6007 4 [v0] (.ref o :: sk) st Q = ((am_ob st o 4 ∧ sk.length ≤ 5) ∧ am_Ca X d 4003 [.ref o] st (am_af am_m6007 4 [v0] sk (fun pc lc sk st => am_g d X am_m6007 pc lc sk st Q) Q)) := am_gu.trans rfl
theorem u6007_7 {v0 : Value} {x : Int32} : am_g d X am_m6007 7 [v0] (.int x :: sk) st Q = (if decide (¬ x = 0) = true then am_g d X am_m6007 20 [v0] sk st Q else am_g d X am_m6007 10 [v0] sk st Q) := am_gu.trans rfl
theorem u6007_10 {v0 : Value} : am_g d X am_m6007 10 [v0] [] (n, sh, cl, sl, F, A, L) Q = ((5 ≤ d ∧ n ≤ cl) ∧ Q (.inr 1) (n, sh, cl + 1, sl + 6, F, A, L)) := am_gu.trans (propext ⟨fun h => ⟨⟨h.1.2.2.1, h.1.2.2.2⟩, h.2⟩, fun h => ⟨⟨rfl, Nat.zero_le _, h.1.1, h.1.2⟩, h.2⟩⟩)
theorem u6007_20 {x : Nat} : am_g d X am_m6007 20 [.ref x] sk st Q = am_g d X am_m6007 21 [.ref x] (.ref x :: sk) st Q := am_gu.trans rfl
theorem u6007_21 {v0 : Value} : am_g d X am_m6007 21 [v0] (.ref o :: sk) st Q = ((am_ob st o 6 ∧ sk.length ≤ 5) ∧ am_Ca X d 6066 [.ref o] st (am_af am_m6007 21 [v0] sk (fun pc lc sk st => am_g d X am_m6007 pc lc sk st Q) Q)) := am_gu.trans rfl
theorem u6007_24 {x : Nat} : am_g d X am_m6007 24 [.ref x] sk st Q = am_g d X am_m6007 25 [.ref x] (.ref x :: sk) st Q := am_gu.trans rfl
theorem u6007_25 {v0 : Value} : am_g d X am_m6007 25 [v0] sk st Q = am_gt 193 28 [v0] sk st (fun pc lc sk st => am_g d X am_m6007 pc lc sk st Q) := am_gu.trans rfl
theorem u6007_28 {v0 : Value} : am_g d X am_m6007 28 [v0] (.ref o :: sk) st Q = ((am_ob st o 4 ∧ sk.length ≤ 5) ∧ am_Ca X d 4004 [.ref o] st (am_af am_m6007 28 [v0] sk (fun pc lc sk st => am_g d X am_m6007 pc lc sk st Q) Q)) := am_gu.trans rfl
theorem u6007_31 {v0 : Value} {x : Int32} : am_g d X am_m6007 31 [v0] [.int x] st Q = Q (.inl (some (.int x))) st := am_gu.trans rfl
set_option maxRecDepth 100000 in
theorem of_6008 : am_of 6008 = some am_m6008 := rfl
theorem c6008 {z a0} {P : am_Q} : am_Ca X (d + 1) 6008 [.ref z, .int a0] st P = am_g d X am_m6008 0 [.ref z, .int a0] [] st P := am_cg of_6008 (by show 2 ≤ 2; decide)
theorem hd_6008 : am_hd am_m6008 = [] := rfl
theorem u6008_0 {v1 : Value} {x : Nat} : am_g d X am_m6008 0 [.ref x, v1] sk st Q = am_g d X am_m6008 1 [.ref x, v1] (.ref x :: sk) st Q := am_gu.trans rfl
theorem u6008_1 {v0 : Value} {x : Int32} : am_g d X am_m6008 1 [v0, .int x] sk st Q = am_g d X am_m6008 2 [v0, .int x] (.int x :: sk) st Q := am_gu.trans rfl
theorem u6008_2 {a0 : Value} {v0 : Value} {v1 : Value} : am_g d X am_m6008 2 [v0, v1] (a0 :: .ref o :: sk) st Q = ((am_ob st o 6 ∧ sk.length ≤ 5) ∧ am_Ca X d 6064 [.ref o, a0] st (am_af am_m6008 2 [v0, v1] sk (fun pc lc sk st => am_g d X am_m6008 pc lc sk st Q) Q)) := am_gu.trans rfl
theorem u6008_5 {v1 : Value} {x : Nat} : am_g d X am_m6008 5 [.ref x, v1] sk st Q = am_g d X am_m6008 6 [.ref x, v1] (.ref x :: sk) st Q := am_gu.trans rfl
theorem u6008_6 {v0 : Value} {v1 : Value} : am_g d X am_m6008 6 [v0, v1] (.ref o :: sk) st Q = ((am_ob st o 6 ∧ sk.length ≤ 5) ∧ am_Ca X d 6066 [.ref o] st (am_af am_m6008 6 [v0, v1] sk (fun pc lc sk st => am_g d X am_m6008 pc lc sk st Q) Q)) := am_gu.trans rfl
theorem u6008_9 {v1 : Value} {x : Nat} : am_g d X am_m6008 9 [.ref x, v1] sk st Q = am_g d X am_m6008 10 [.ref x, v1] (.ref x :: sk) st Q := am_gu.trans rfl
theorem u6008_10 {v0 : Value} {v1 : Value} : am_g d X am_m6008 10 [v0, v1] sk st Q = am_gt 193 13 [v0, v1] sk st (fun pc lc sk st => am_g d X am_m6008 pc lc sk st Q) := am_gu.trans rfl
theorem u6008_13 {v0 : Value} {x : Int32} : am_g d X am_m6008 13 [v0, .int x] sk st Q = am_g d X am_m6008 14 [v0, .int x] (.int x :: sk) st Q := am_gu.trans rfl
theorem u6008_14 {a0 : Value} {v0 : Value} {v1 : Value} : am_g d X am_m6008 14 [v0, v1] (a0 :: .ref o :: sk) st Q = ((am_ob st o 4 ∧ sk.length ≤ 5) ∧ am_Ca X d 4005 [.ref o, a0] st (am_af am_m6008 14 [v0, v1] sk (fun pc lc sk st => am_g d X am_m6008 pc lc sk st Q) Q)) := am_gu.trans rfl
theorem u6008_17 {v0 : Value} {v1 : Value} {x : Int32} : am_g d X am_m6008 17 [v0, v1] [.int x] st Q = Q (.inl (some (.int x))) st := am_gu.trans rfl
set_option maxRecDepth 100000 in
theorem of_6009 : am_of 6009 = some am_m6009 := rfl
theorem c6009 {z} {P : am_Q} : am_Ca X (d + 1) 6009 [.ref z] st P = am_g d X am_m6009 0 [.ref z] [] st P := am_cg of_6009 (by show 1 ≤ 1; decide)
theorem hd_6009 : am_hd am_m6009 = [] := rfl
theorem u6009_0 {x : Nat} : am_g d X am_m6009 0 [.ref x] sk st Q = am_g d X am_m6009 1 [.ref x] (.ref x :: sk) st Q := am_gu.trans rfl
theorem u6009_1 {v0 : Value} : am_g d X am_m6009 1 [v0] sk st Q = am_gt 193 4 [v0] sk st (fun pc lc sk st => am_g d X am_m6009 pc lc sk st Q) := am_gu.trans rfl
theorem u6009_4 {v0 : Value} : am_g d X am_m6009 4 [v0] (.ref o :: sk) st Q = ((am_ob st o 4 ∧ sk.length ≤ 5) ∧ am_Ca X d 4006 [.ref o] st (am_af am_m6009 4 [v0] sk (fun pc lc sk st => am_g d X am_m6009 pc lc sk st Q) Q)) := am_gu.trans rfl
theorem u6009_7 {v0 : Value} {x : Int32} : am_g d X am_m6009 7 [v0] (.int x :: sk) st Q = (if decide (¬ x = 0) = true then am_g d X am_m6009 20 [v0] sk st Q else am_g d X am_m6009 10 [v0] sk st Q) := am_gu.trans rfl
theorem u6009_10 {v0 : Value} : am_g d X am_m6009 10 [v0] [] (n, sh, cl, sl, F, A, L) Q = ((5 ≤ d ∧ n ≤ cl) ∧ Q (.inr 1) (n, sh, cl + 1, sl + 6, F, A, L)) := am_gu.trans (propext ⟨fun h => ⟨⟨h.1.2.2.1, h.1.2.2.2⟩, h.2⟩, fun h => ⟨⟨rfl, Nat.zero_le _, h.1.1, h.1.2⟩, h.2⟩⟩)
theorem u6009_20 {x : Nat} : am_g d X am_m6009 20 [.ref x] sk st Q = am_g d X am_m6009 21 [.ref x] (.ref x :: sk) st Q := am_gu.trans rfl
theorem u6009_21 {v0 : Value} : am_g d X am_m6009 21 [v0] (.ref o :: sk) st Q = ((am_ob st o 6 ∧ sk.length ≤ 5) ∧ am_Ca X d 6066 [.ref o] st (am_af am_m6009 21 [v0] sk (fun pc lc sk st => am_g d X am_m6009 pc lc sk st Q) Q)) := am_gu.trans rfl
theorem u6009_24 {x : Nat} : am_g d X am_m6009 24 [.ref x] sk st Q = am_g d X am_m6009 25 [.ref x] (.ref x :: sk) st Q := am_gu.trans rfl
theorem u6009_25 {v0 : Value} : am_g d X am_m6009 25 [v0] sk st Q = am_gt 193 28 [v0] sk st (fun pc lc sk st => am_g d X am_m6009 pc lc sk st Q) := am_gu.trans rfl
theorem u6009_28 {v0 : Value} : am_g d X am_m6009 28 [v0] (.ref o :: sk) st Q = ((am_ob st o 4 ∧ sk.length ≤ 5) ∧ am_Ca X d 4007 [.ref o] st (am_af am_m6009 28 [v0] sk (fun pc lc sk st => am_g d X am_m6009 pc lc sk st Q) Q)) := am_gu.trans rfl
theorem u6009_31 {v0 : Value} {x : Int32} : am_g d X am_m6009 31 [v0] [.int x] st Q = Q (.inl (some (.int x))) st := am_gu.trans rfl
set_option maxRecDepth 100000 in
theorem of_6010 : am_of 6010 = some am_m6010 := rfl
theorem c6010 {z} {P : am_Q} : am_Ca X (d + 1) 6010 [.ref z] st P = am_g d X am_m6010 0 [.ref z] [] st P := am_cg of_6010 (by show 1 ≤ 1; decide)
theorem hd_6010 : am_hd am_m6010 = [] := rfl
theorem u6010_0 {x : Nat} : am_g d X am_m6010 0 [.ref x] sk st Q = am_g d X am_m6010 1 [.ref x] (.ref x :: sk) st Q := am_gu.trans rfl
theorem u6010_1 {v0 : Value} : am_g d X am_m6010 1 [v0] sk st Q = am_gt 193 4 [v0] sk st (fun pc lc sk st => am_g d X am_m6010 pc lc sk st Q) := am_gu.trans rfl
theorem u6010_4 {v0 : Value} : am_g d X am_m6010 4 [v0] (.ref o :: sk) st Q = ((am_ob st o 4 ∧ sk.length ≤ 5) ∧ am_Ca X d 4008 [.ref o] st (am_af am_m6010 4 [v0] sk (fun pc lc sk st => am_g d X am_m6010 pc lc sk st Q) Q)) := am_gu.trans rfl
theorem u6010_7 {v0 : Value} {x : Int32} : am_g d X am_m6010 7 [v0] (.int x :: sk) st Q = (if decide (¬ x = 0) = true then am_g d X am_m6010 20 [v0] sk st Q else am_g d X am_m6010 10 [v0] sk st Q) := am_gu.trans rfl
theorem u6010_10 {v0 : Value} : am_g d X am_m6010 10 [v0] [] (n, sh, cl, sl, F, A, L) Q = ((5 ≤ d ∧ n ≤ cl) ∧ Q (.inr 1) (n, sh, cl + 1, sl + 6, F, A, L)) := am_gu.trans (propext ⟨fun h => ⟨⟨h.1.2.2.1, h.1.2.2.2⟩, h.2⟩, fun h => ⟨⟨rfl, Nat.zero_le _, h.1.1, h.1.2⟩, h.2⟩⟩)
theorem u6010_20 {x : Nat} : am_g d X am_m6010 20 [.ref x] sk st Q = am_g d X am_m6010 21 [.ref x] (.ref x :: sk) st Q := am_gu.trans rfl
theorem u6010_21 {v0 : Value} : am_g d X am_m6010 21 [v0] (.ref o :: sk) st Q = ((am_ob st o 6 ∧ sk.length ≤ 5) ∧ am_Ca X d 6066 [.ref o] st (am_af am_m6010 21 [v0] sk (fun pc lc sk st => am_g d X am_m6010 pc lc sk st Q) Q)) := am_gu.trans rfl
theorem u6010_24 {x : Nat} : am_g d X am_m6010 24 [.ref x] sk st Q = am_g d X am_m6010 25 [.ref x] (.ref x :: sk) st Q := am_gu.trans rfl
theorem u6010_25 {v0 : Value} : am_g d X am_m6010 25 [v0] sk st Q = am_gt 193 28 [v0] sk st (fun pc lc sk st => am_g d X am_m6010 pc lc sk st Q) := am_gu.trans rfl
theorem u6010_28 {v0 : Value} : am_g d X am_m6010 28 [v0] (.ref o :: sk) st Q = ((am_ob st o 4 ∧ sk.length ≤ 5) ∧ am_Ca X d 4009 [.ref o] st (am_af am_m6010 28 [v0] sk (fun pc lc sk st => am_g d X am_m6010 pc lc sk st Q) Q)) := am_gu.trans rfl
theorem u6010_31 {v0 : Value} {x : Int32} : am_g d X am_m6010 31 [v0] [.int x] st Q = Q (.inl (some (.int x))) st := am_gu.trans rfl
set_option maxRecDepth 100000 in
theorem of_6011 : am_of 6011 = some am_m6011 := rfl
theorem c6011 {z} {P : am_Q} : am_Ca X (d + 1) 6011 [.ref z] st P = am_g d X am_m6011 0 [.ref z] [] st P := am_cg of_6011 (by show 1 ≤ 1; decide)
theorem hd_6011 : am_hd am_m6011 = [] := rfl
theorem u6011_0 {x : Nat} : am_g d X am_m6011 0 [.ref x] sk st Q = am_g d X am_m6011 1 [.ref x] (.ref x :: sk) st Q := am_gu.trans rfl
theorem u6011_1 {v0 : Value} : am_g d X am_m6011 1 [v0] sk st Q = am_gt 193 4 [v0] sk st (fun pc lc sk st => am_g d X am_m6011 pc lc sk st Q) := am_gu.trans rfl
theorem u6011_4 {v0 : Value} : am_g d X am_m6011 4 [v0] (.ref o :: sk) st Q = ((am_ob st o 4 ∧ sk.length ≤ 5) ∧ am_Ca X d 4010 [.ref o] st (am_af am_m6011 4 [v0] sk (fun pc lc sk st => am_g d X am_m6011 pc lc sk st Q) Q)) := am_gu.trans rfl
theorem u6011_7 {v0 : Value} {x : Int32} : am_g d X am_m6011 7 [v0] (.int x :: sk) st Q = (if decide (¬ x = 0) = true then am_g d X am_m6011 20 [v0] sk st Q else am_g d X am_m6011 10 [v0] sk st Q) := am_gu.trans rfl
theorem u6011_10 {v0 : Value} : am_g d X am_m6011 10 [v0] [] (n, sh, cl, sl, F, A, L) Q = ((5 ≤ d ∧ n ≤ cl) ∧ Q (.inr 1) (n, sh, cl + 1, sl + 6, F, A, L)) := am_gu.trans (propext ⟨fun h => ⟨⟨h.1.2.2.1, h.1.2.2.2⟩, h.2⟩, fun h => ⟨⟨rfl, Nat.zero_le _, h.1.1, h.1.2⟩, h.2⟩⟩)
theorem u6011_20 {x : Nat} : am_g d X am_m6011 20 [.ref x] sk st Q = am_g d X am_m6011 21 [.ref x] (.ref x :: sk) st Q := am_gu.trans rfl
theorem u6011_21 {v0 : Value} : am_g d X am_m6011 21 [v0] (.ref o :: sk) st Q = ((am_ob st o 6 ∧ sk.length ≤ 5) ∧ am_Ca X d 6066 [.ref o] st (am_af am_m6011 21 [v0] sk (fun pc lc sk st => am_g d X am_m6011 pc lc sk st Q) Q)) := am_gu.trans rfl
theorem u6011_24 {x : Nat} : am_g d X am_m6011 24 [.ref x] sk st Q = am_g d X am_m6011 25 [.ref x] (.ref x :: sk) st Q := am_gu.trans rfl
theorem u6011_25 {v0 : Value} : am_g d X am_m6011 25 [v0] sk st Q = am_gt 193 28 [v0] sk st (fun pc lc sk st => am_g d X am_m6011 pc lc sk st Q) := am_gu.trans rfl
theorem u6011_28 {v0 : Value} : am_g d X am_m6011 28 [v0] (.ref o :: sk) st Q = ((am_ob st o 4 ∧ sk.length ≤ 5) ∧ am_Ca X d 4011 [.ref o] st (am_af am_m6011 28 [v0] sk (fun pc lc sk st => am_g d X am_m6011 pc lc sk st Q) Q)) := am_gu.trans rfl
theorem u6011_31 {v0 : Value} {x : Int32} : am_g d X am_m6011 31 [v0] [.int x] st Q = Q (.inl (some (.int x))) st := am_gu.trans rfl
set_option maxRecDepth 100000 in
theorem of_6012 : am_of 6012 = some am_m6012 := rfl
theorem c6012 {z a0} {P : am_Q} : am_Ca X (d + 1) 6012 [.ref z, .int a0] st P = am_g d X am_m6012 0 [.ref z, .int a0] [] st P := am_cg of_6012 (by show 2 ≤ 2; decide)
theorem hd_6012 : am_hd am_m6012 = [] := rfl
theorem u6012_0 {v0 : Value} {x : Int32} : am_g d X am_m6012 0 [v0, .int x] sk st Q = am_g d X am_m6012 1 [v0, .int x] (.int x :: sk) st Q := am_gu.trans rfl
theorem u6012_1 {a0 : Value} {v0 : Value} {v1 : Value} : am_g d X am_m6012 1 [v0, v1] (a0 :: sk) st Q = (sk.length ≤ 4 ∧ am_Ca X d 6062 [a0] st (am_af am_m6012 1 [v0, v1] sk (fun pc lc sk st => am_g d X am_m6012 pc lc sk st Q) Q)) := am_gu.trans (propext ⟨fun h => ⟨h.1.2, h.2⟩, fun h => ⟨⟨Nat.le_add_left _ _, h.1⟩, h.2⟩⟩)
theorem u6012_4 {v1 : Value} {x : Nat} : am_g d X am_m6012 4 [.ref x, v1] sk st Q = am_g d X am_m6012 5 [.ref x, v1] (.ref x :: sk) st Q := am_gu.trans rfl
theorem u6012_5 {v0 : Value} {v1 : Value} : am_g d X am_m6012 5 [v0, v1] sk st Q = am_gt 193 8 [v0, v1] sk st (fun pc lc sk st => am_g d X am_m6012 pc lc sk st Q) := am_gu.trans rfl
theorem u6012_8 {v0 : Value} {x : Int32} : am_g d X am_m6012 8 [v0, .int x] sk st Q = am_g d X am_m6012 9 [v0, .int x] (.int x :: sk) st Q := am_gu.trans rfl
theorem u6012_9 {a0 : Value} {v0 : Value} {v1 : Value} : am_g d X am_m6012 9 [v0, v1] (a0 :: .ref o :: sk) st Q = ((am_ob st o 4 ∧ sk.length ≤ 5) ∧ am_Ca X d 4012 [.ref o, a0] st (am_af am_m6012 9 [v0, v1] sk (fun pc lc sk st => am_g d X am_m6012 pc lc sk st Q) Q)) := am_gu.trans rfl
theorem u6012_12 {v0 : Value} {v1 : Value} {x : Int32} : am_g d X am_m6012 12 [v0, v1] (.int x :: sk) st Q = (if decide (¬ x = 0) = true then am_g d X am_m6012 25 [v0, v1] sk st Q else am_g d X am_m6012 15 [v0, v1] sk st Q) := am_gu.trans rfl
theorem u6012_15 {v0 : Value} {v1 : Value} : am_g d X am_m6012 15 [v0, v1] [] (n, sh, cl, sl, F, A, L) Q = ((5 ≤ d ∧ n ≤ cl) ∧ Q (.inr 1) (n, sh, cl + 1, sl + 6, F, A, L)) := am_gu.trans (propext ⟨fun h => ⟨⟨h.1.2.2.1, h.1.2.2.2⟩, h.2⟩, fun h => ⟨⟨rfl, Nat.zero_le _, h.1.1, h.1.2⟩, h.2⟩⟩)
theorem u6012_25 {v1 : Value} {x : Nat} : am_g d X am_m6012 25 [.ref x, v1] sk st Q = am_g d X am_m6012 26 [.ref x, v1] (.ref x :: sk) st Q := am_gu.trans rfl
theorem u6012_26 {v0 : Value} {v1 : Value} : am_g d X am_m6012 26 [v0, v1] (.ref o :: sk) st Q = ((am_ob st o 6 ∧ sk.length ≤ 5) ∧ am_Ca X d 6066 [.ref o] st (am_af am_m6012 26 [v0, v1] sk (fun pc lc sk st => am_g d X am_m6012 pc lc sk st Q) Q)) := am_gu.trans rfl
theorem u6012_29 {v1 : Value} {x : Nat} : am_g d X am_m6012 29 [.ref x, v1] sk st Q = am_g d X am_m6012 30 [.ref x, v1] (.ref x :: sk) st Q := am_gu.trans rfl
theorem u6012_30 {v0 : Value} {v1 : Value} : am_g d X am_m6012 30 [v0, v1] sk st Q = am_gt 193 33 [v0, v1] sk st (fun pc lc sk st => am_g d X am_m6012 pc lc sk st Q) := am_gu.trans rfl
theorem u6012_33 {v0 : Value} {x : Int32} : am_g d X am_m6012 33 [v0, .int x] sk st Q = am_g d X am_m6012 34 [v0, .int x] (.int x :: sk) st Q := am_gu.trans rfl
theorem u6012_34 {a0 : Value} {v0 : Value} {v1 : Value} : am_g d X am_m6012 34 [v0, v1] (a0 :: .ref o :: sk) st Q = ((am_ob st o 4 ∧ sk.length ≤ 5) ∧ am_Ca X d 4013 [.ref o, a0] st (am_af am_m6012 34 [v0, v1] sk (fun pc lc sk st => am_g d X am_m6012 pc lc sk st Q) Q)) := am_gu.trans rfl
theorem u6012_37 {v0 : Value} {v1 : Value} {x : Int32} : am_g d X am_m6012 37 [v0, v1] [.int x] st Q = Q (.inl (some (.int x))) st := am_gu.trans rfl
set_option maxRecDepth 100000 in
theorem of_6013 : am_of 6013 = some am_m6013 := rfl
theorem c6013 {z a0} {P : am_Q} : am_Ca X (d + 1) 6013 [.ref z, .int a0] st P = am_g d X am_m6013 0 [.ref z, .int a0] [] st P := am_cg of_6013 (by show 2 ≤ 2; decide)
theorem hd_6013 : am_hd am_m6013 = [] := rfl
theorem u6013_0 {v0 : Value} {x : Int32} : am_g d X am_m6013 0 [v0, .int x] sk st Q = am_g d X am_m6013 1 [v0, .int x] (.int x :: sk) st Q := am_gu.trans rfl
theorem u6013_1 {a0 : Value} {v0 : Value} {v1 : Value} : am_g d X am_m6013 1 [v0, v1] (a0 :: sk) st Q = (sk.length ≤ 4 ∧ am_Ca X d 6062 [a0] st (am_af am_m6013 1 [v0, v1] sk (fun pc lc sk st => am_g d X am_m6013 pc lc sk st Q) Q)) := am_gu.trans (propext ⟨fun h => ⟨h.1.2, h.2⟩, fun h => ⟨⟨Nat.le_add_left _ _, h.1⟩, h.2⟩⟩)
theorem u6013_4 {v1 : Value} {x : Nat} : am_g d X am_m6013 4 [.ref x, v1] sk st Q = am_g d X am_m6013 5 [.ref x, v1] (.ref x :: sk) st Q := am_gu.trans rfl
theorem u6013_5 {v0 : Value} {v1 : Value} : am_g d X am_m6013 5 [v0, v1] sk st Q = am_gt 193 8 [v0, v1] sk st (fun pc lc sk st => am_g d X am_m6013 pc lc sk st Q) := am_gu.trans rfl
theorem u6013_8 {v0 : Value} {x : Int32} : am_g d X am_m6013 8 [v0, .int x] sk st Q = am_g d X am_m6013 9 [v0, .int x] (.int x :: sk) st Q := am_gu.trans rfl
theorem u6013_9 {a0 : Value} {v0 : Value} {v1 : Value} : am_g d X am_m6013 9 [v0, v1] (a0 :: .ref o :: sk) st Q = ((am_ob st o 4 ∧ sk.length ≤ 5) ∧ am_Ca X d 4014 [.ref o, a0] st (am_af am_m6013 9 [v0, v1] sk (fun pc lc sk st => am_g d X am_m6013 pc lc sk st Q) Q)) := am_gu.trans rfl
theorem u6013_12 {v0 : Value} {v1 : Value} {x : Int32} : am_g d X am_m6013 12 [v0, v1] (.int x :: sk) st Q = (if decide (¬ x = 0) = true then am_g d X am_m6013 25 [v0, v1] sk st Q else am_g d X am_m6013 15 [v0, v1] sk st Q) := am_gu.trans rfl
theorem u6013_15 {v0 : Value} {v1 : Value} : am_g d X am_m6013 15 [v0, v1] [] (n, sh, cl, sl, F, A, L) Q = ((5 ≤ d ∧ n ≤ cl) ∧ Q (.inr 1) (n, sh, cl + 1, sl + 6, F, A, L)) := am_gu.trans (propext ⟨fun h => ⟨⟨h.1.2.2.1, h.1.2.2.2⟩, h.2⟩, fun h => ⟨⟨rfl, Nat.zero_le _, h.1.1, h.1.2⟩, h.2⟩⟩)
theorem u6013_25 {v1 : Value} {x : Nat} : am_g d X am_m6013 25 [.ref x, v1] sk st Q = am_g d X am_m6013 26 [.ref x, v1] (.ref x :: sk) st Q := am_gu.trans rfl
theorem u6013_26 {v0 : Value} {v1 : Value} : am_g d X am_m6013 26 [v0, v1] (.ref o :: sk) st Q = ((am_ob st o 6 ∧ sk.length ≤ 5) ∧ am_Ca X d 6066 [.ref o] st (am_af am_m6013 26 [v0, v1] sk (fun pc lc sk st => am_g d X am_m6013 pc lc sk st Q) Q)) := am_gu.trans rfl
theorem u6013_29 {v1 : Value} {x : Nat} : am_g d X am_m6013 29 [.ref x, v1] sk st Q = am_g d X am_m6013 30 [.ref x, v1] (.ref x :: sk) st Q := am_gu.trans rfl
theorem u6013_30 {v0 : Value} {v1 : Value} : am_g d X am_m6013 30 [v0, v1] sk st Q = am_gt 193 33 [v0, v1] sk st (fun pc lc sk st => am_g d X am_m6013 pc lc sk st Q) := am_gu.trans rfl
theorem u6013_33 {v0 : Value} {x : Int32} : am_g d X am_m6013 33 [v0, .int x] sk st Q = am_g d X am_m6013 34 [v0, .int x] (.int x :: sk) st Q := am_gu.trans rfl
theorem u6013_34 {a0 : Value} {v0 : Value} {v1 : Value} : am_g d X am_m6013 34 [v0, v1] (a0 :: .ref o :: sk) st Q = ((am_ob st o 4 ∧ sk.length ≤ 5) ∧ am_Ca X d 4015 [.ref o, a0] st (am_af am_m6013 34 [v0, v1] sk (fun pc lc sk st => am_g d X am_m6013 pc lc sk st Q) Q)) := am_gu.trans rfl
theorem u6013_37 {v0 : Value} {v1 : Value} {x : Int32} : am_g d X am_m6013 37 [v0, v1] [.int x] st Q = Q (.inl (some (.int x))) st := am_gu.trans rfl
set_option maxRecDepth 100000 in
theorem of_6014 : am_of 6014 = some am_m6014 := rfl
theorem c6014 {z a0} {P : am_Q} : am_Ca X (d + 1) 6014 [.ref z, .int a0] st P = am_g d X am_m6014 0 [.ref z, .int a0] [] st P := am_cg of_6014 (by show 2 ≤ 2; decide)
theorem hd_6014 : am_hd am_m6014 = [] := rfl
theorem u6014_0 {v0 : Value} {x : Int32} : am_g d X am_m6014 0 [v0, .int x] sk st Q = am_g d X am_m6014 1 [v0, .int x] (.int x :: sk) st Q := am_gu.trans rfl
theorem u6014_1 {a0 : Value} {v0 : Value} {v1 : Value} : am_g d X am_m6014 1 [v0, v1] (a0 :: sk) st Q = (sk.length ≤ 4 ∧ am_Ca X d 6062 [a0] st (am_af am_m6014 1 [v0, v1] sk (fun pc lc sk st => am_g d X am_m6014 pc lc sk st Q) Q)) := am_gu.trans (propext ⟨fun h => ⟨h.1.2, h.2⟩, fun h => ⟨⟨Nat.le_add_left _ _, h.1⟩, h.2⟩⟩)
theorem u6014_4 {v1 : Value} {x : Nat} : am_g d X am_m6014 4 [.ref x, v1] sk st Q = am_g d X am_m6014 5 [.ref x, v1] (.ref x :: sk) st Q := am_gu.trans rfl
theorem u6014_5 {v0 : Value} {v1 : Value} : am_g d X am_m6014 5 [v0, v1] sk st Q = am_gt 193 8 [v0, v1] sk st (fun pc lc sk st => am_g d X am_m6014 pc lc sk st Q) := am_gu.trans rfl
theorem u6014_8 {v0 : Value} {x : Int32} : am_g d X am_m6014 8 [v0, .int x] sk st Q = am_g d X am_m6014 9 [v0, .int x] (.int x :: sk) st Q := am_gu.trans rfl
theorem u6014_9 {a0 : Value} {v0 : Value} {v1 : Value} : am_g d X am_m6014 9 [v0, v1] (a0 :: .ref o :: sk) st Q = ((am_ob st o 4 ∧ sk.length ≤ 5) ∧ am_Ca X d 4016 [.ref o, a0] st (am_af am_m6014 9 [v0, v1] sk (fun pc lc sk st => am_g d X am_m6014 pc lc sk st Q) Q)) := am_gu.trans rfl
theorem u6014_12 {v0 : Value} {v1 : Value} {x : Int32} : am_g d X am_m6014 12 [v0, v1] (.int x :: sk) st Q = (if decide (¬ x = 0) = true then am_g d X am_m6014 25 [v0, v1] sk st Q else am_g d X am_m6014 15 [v0, v1] sk st Q) := am_gu.trans rfl
theorem u6014_15 {v0 : Value} {v1 : Value} : am_g d X am_m6014 15 [v0, v1] [] (n, sh, cl, sl, F, A, L) Q = ((5 ≤ d ∧ n ≤ cl) ∧ Q (.inr 1) (n, sh, cl + 1, sl + 6, F, A, L)) := am_gu.trans (propext ⟨fun h => ⟨⟨h.1.2.2.1, h.1.2.2.2⟩, h.2⟩, fun h => ⟨⟨rfl, Nat.zero_le _, h.1.1, h.1.2⟩, h.2⟩⟩)
theorem u6014_25 {v1 : Value} {x : Nat} : am_g d X am_m6014 25 [.ref x, v1] sk st Q = am_g d X am_m6014 26 [.ref x, v1] (.ref x :: sk) st Q := am_gu.trans rfl
theorem u6014_26 {v0 : Value} {v1 : Value} : am_g d X am_m6014 26 [v0, v1] (.ref o :: sk) st Q = ((am_ob st o 6 ∧ sk.length ≤ 5) ∧ am_Ca X d 6066 [.ref o] st (am_af am_m6014 26 [v0, v1] sk (fun pc lc sk st => am_g d X am_m6014 pc lc sk st Q) Q)) := am_gu.trans rfl
theorem u6014_29 {v1 : Value} {x : Nat} : am_g d X am_m6014 29 [.ref x, v1] sk st Q = am_g d X am_m6014 30 [.ref x, v1] (.ref x :: sk) st Q := am_gu.trans rfl
theorem u6014_30 {v0 : Value} {v1 : Value} : am_g d X am_m6014 30 [v0, v1] sk st Q = am_gt 193 33 [v0, v1] sk st (fun pc lc sk st => am_g d X am_m6014 pc lc sk st Q) := am_gu.trans rfl
theorem u6014_33 {v0 : Value} {x : Int32} : am_g d X am_m6014 33 [v0, .int x] sk st Q = am_g d X am_m6014 34 [v0, .int x] (.int x :: sk) st Q := am_gu.trans rfl
theorem u6014_34 {a0 : Value} {v0 : Value} {v1 : Value} : am_g d X am_m6014 34 [v0, v1] (a0 :: .ref o :: sk) st Q = ((am_ob st o 4 ∧ sk.length ≤ 5) ∧ am_Ca X d 4017 [.ref o, a0] st (am_af am_m6014 34 [v0, v1] sk (fun pc lc sk st => am_g d X am_m6014 pc lc sk st Q) Q)) := am_gu.trans rfl
theorem u6014_37 {v0 : Value} {v1 : Value} {x : Int32} : am_g d X am_m6014 37 [v0, v1] [.int x] st Q = Q (.inl (some (.int x))) st := am_gu.trans rfl
set_option maxRecDepth 100000 in
theorem of_6015 : am_of 6015 = some am_m6015 := rfl
theorem c6015 {z a0} {P : am_Q} : am_Ca X (d + 1) 6015 [.ref z, .int a0] st P = am_g d X am_m6015 0 [.ref z, .int a0] [] st P := am_cg of_6015 (by show 2 ≤ 2; decide)
theorem hd_6015 : am_hd am_m6015 = [] := rfl
theorem u6015_0 {v1 : Value} {x : Nat} : am_g d X am_m6015 0 [.ref x, v1] sk st Q = am_g d X am_m6015 1 [.ref x, v1] (.ref x :: sk) st Q := am_gu.trans rfl
theorem u6015_1 {v0 : Value} {x : Int32} : am_g d X am_m6015 1 [v0, .int x] sk st Q = am_g d X am_m6015 2 [v0, .int x] (.int x :: sk) st Q := am_gu.trans rfl
theorem u6015_2 {a0 : Value} {v0 : Value} {v1 : Value} : am_g d X am_m6015 2 [v0, v1] (a0 :: .ref o :: sk) st Q = ((am_ob st o 6 ∧ sk.length ≤ 5) ∧ am_Ca X d 6064 [.ref o, a0] st (am_af am_m6015 2 [v0, v1] sk (fun pc lc sk st => am_g d X am_m6015 pc lc sk st Q) Q)) := am_gu.trans rfl
theorem u6015_5 {v1 : Value} {x : Nat} : am_g d X am_m6015 5 [.ref x, v1] sk st Q = am_g d X am_m6015 6 [.ref x, v1] (.ref x :: sk) st Q := am_gu.trans rfl
theorem u6015_6 {v0 : Value} {v1 : Value} : am_g d X am_m6015 6 [v0, v1] sk st Q = am_gt 193 9 [v0, v1] sk st (fun pc lc sk st => am_g d X am_m6015 pc lc sk st Q) := am_gu.trans rfl
theorem u6015_9 {v0 : Value} {x : Int32} : am_g d X am_m6015 9 [v0, .int x] sk st Q = am_g d X am_m6015 10 [v0, .int x] (.int x :: sk) st Q := am_gu.trans rfl
theorem u6015_10 {v0 : Value} {v1 : Value} : am_g d X am_m6015 10 [v0, v1] sk st Q = am_g d X am_m6015 11 [v0, v1] (.int (am_i 0) :: sk) st Q := am_gu.trans rfl
theorem u6015_11 {a0 : Value} {a1 : Value} {v0 : Value} {v1 : Value} : am_g d X am_m6015 11 [v0, v1] (a1 :: a0 :: .ref o :: sk) st Q = ((am_ob st o 4 ∧ sk.length ≤ 5) ∧ am_Ca X d 4018 [.ref o, a0, a1] st (am_af am_m6015 11 [v0, v1] sk (fun pc lc sk st => am_g d X am_m6015 pc lc sk st Q) Q)) := am_gu.trans rfl
theorem u6015_14 {v0 : Value} {v1 : Value} {x : Int32} : am_g d X am_m6015 14 [v0, v1] (.int x :: sk) st Q = (if decide (¬ x = 0) = true then am_g d X am_m6015 27 [v0, v1] sk st Q else am_g d X am_m6015 17 [v0, v1] sk st Q) := am_gu.trans rfl
theorem u6015_17 {v0 : Value} {v1 : Value} : am_g d X am_m6015 17 [v0, v1] [] (n, sh, cl, sl, F, A, L) Q = ((5 ≤ d ∧ n ≤ cl) ∧ Q (.inr 1) (n, sh, cl + 1, sl + 6, F, A, L)) := am_gu.trans (propext ⟨fun h => ⟨⟨h.1.2.2.1, h.1.2.2.2⟩, h.2⟩, fun h => ⟨⟨rfl, Nat.zero_le _, h.1.1, h.1.2⟩, h.2⟩⟩)
theorem u6015_27 {v1 : Value} {x : Nat} : am_g d X am_m6015 27 [.ref x, v1] sk st Q = am_g d X am_m6015 28 [.ref x, v1] (.ref x :: sk) st Q := am_gu.trans rfl
theorem u6015_28 {v0 : Value} {v1 : Value} : am_g d X am_m6015 28 [v0, v1] (.ref o :: sk) st Q = ((am_ob st o 6 ∧ sk.length ≤ 5) ∧ am_Ca X d 6066 [.ref o] st (am_af am_m6015 28 [v0, v1] sk (fun pc lc sk st => am_g d X am_m6015 pc lc sk st Q) Q)) := am_gu.trans rfl
theorem u6015_31 {v1 : Value} {x : Nat} : am_g d X am_m6015 31 [.ref x, v1] sk st Q = am_g d X am_m6015 32 [.ref x, v1] (.ref x :: sk) st Q := am_gu.trans rfl
theorem u6015_32 {v0 : Value} {v1 : Value} : am_g d X am_m6015 32 [v0, v1] sk st Q = am_gt 193 35 [v0, v1] sk st (fun pc lc sk st => am_g d X am_m6015 pc lc sk st Q) := am_gu.trans rfl
theorem u6015_35 {v0 : Value} {x : Int32} : am_g d X am_m6015 35 [v0, .int x] sk st Q = am_g d X am_m6015 36 [v0, .int x] (.int x :: sk) st Q := am_gu.trans rfl
theorem u6015_36 {v0 : Value} {v1 : Value} : am_g d X am_m6015 36 [v0, v1] sk st Q = am_g d X am_m6015 37 [v0, v1] (.int (am_i 0) :: sk) st Q := am_gu.trans rfl
theorem u6015_37 {a0 : Value} {a1 : Value} {v0 : Value} {v1 : Value} : am_g d X am_m6015 37 [v0, v1] (a1 :: a0 :: .ref o :: sk) st Q = ((am_ob st o 4 ∧ sk.length ≤ 5) ∧ am_Ca X d 4019 [.ref o, a0, a1] st (am_af am_m6015 37 [v0, v1] sk (fun pc lc sk st => am_g d X am_m6015 pc lc sk st Q) Q)) := am_gu.trans rfl
theorem u6015_40 {v0 : Value} {v1 : Value} {x : Int32} : am_g d X am_m6015 40 [v0, v1] [.int x] st Q = Q (.inl (some (.int x))) st := am_gu.trans rfl
set_option maxRecDepth 100000 in
theorem of_6016 : am_of 6016 = some am_m6016 := rfl
theorem c6016 {z a0} {P : am_Q} : am_Ca X (d + 1) 6016 [.ref z, .int a0] st P = am_g d X am_m6016 0 [.ref z, .int a0] [] st P := am_cg of_6016 (by show 2 ≤ 2; decide)
theorem hd_6016 : am_hd am_m6016 = [] := rfl
theorem u6016_0 {v1 : Value} {x : Nat} : am_g d X am_m6016 0 [.ref x, v1] sk st Q = am_g d X am_m6016 1 [.ref x, v1] (.ref x :: sk) st Q := am_gu.trans rfl
theorem u6016_1 {v0 : Value} {x : Int32} : am_g d X am_m6016 1 [v0, .int x] sk st Q = am_g d X am_m6016 2 [v0, .int x] (.int x :: sk) st Q := am_gu.trans rfl
theorem u6016_2 {a0 : Value} {v0 : Value} {v1 : Value} : am_g d X am_m6016 2 [v0, v1] (a0 :: .ref o :: sk) st Q = ((am_ob st o 6 ∧ sk.length ≤ 5) ∧ am_Ca X d 6064 [.ref o, a0] st (am_af am_m6016 2 [v0, v1] sk (fun pc lc sk st => am_g d X am_m6016 pc lc sk st Q) Q)) := am_gu.trans rfl
theorem u6016_5 {v1 : Value} {x : Nat} : am_g d X am_m6016 5 [.ref x, v1] sk st Q = am_g d X am_m6016 6 [.ref x, v1] (.ref x :: sk) st Q := am_gu.trans rfl
theorem u6016_6 {v0 : Value} {v1 : Value} : am_g d X am_m6016 6 [v0, v1] sk st Q = am_gt 193 9 [v0, v1] sk st (fun pc lc sk st => am_g d X am_m6016 pc lc sk st Q) := am_gu.trans rfl
theorem u6016_9 {v0 : Value} {x : Int32} : am_g d X am_m6016 9 [v0, .int x] sk st Q = am_g d X am_m6016 10 [v0, .int x] (.int x :: sk) st Q := am_gu.trans rfl
theorem u6016_10 {v0 : Value} {v1 : Value} : am_g d X am_m6016 10 [v0, v1] sk st Q = am_g d X am_m6016 11 [v0, v1] (.int (am_i 1) :: sk) st Q := am_gu.trans rfl
theorem u6016_11 {a0 : Value} {a1 : Value} {v0 : Value} {v1 : Value} : am_g d X am_m6016 11 [v0, v1] (a1 :: a0 :: .ref o :: sk) st Q = ((am_ob st o 4 ∧ sk.length ≤ 5) ∧ am_Ca X d 4018 [.ref o, a0, a1] st (am_af am_m6016 11 [v0, v1] sk (fun pc lc sk st => am_g d X am_m6016 pc lc sk st Q) Q)) := am_gu.trans rfl
theorem u6016_14 {v0 : Value} {v1 : Value} {x : Int32} : am_g d X am_m6016 14 [v0, v1] (.int x :: sk) st Q = (if decide (¬ x = 0) = true then am_g d X am_m6016 27 [v0, v1] sk st Q else am_g d X am_m6016 17 [v0, v1] sk st Q) := am_gu.trans rfl
theorem u6016_17 {v0 : Value} {v1 : Value} : am_g d X am_m6016 17 [v0, v1] [] (n, sh, cl, sl, F, A, L) Q = ((5 ≤ d ∧ n ≤ cl) ∧ Q (.inr 1) (n, sh, cl + 1, sl + 6, F, A, L)) := am_gu.trans (propext ⟨fun h => ⟨⟨h.1.2.2.1, h.1.2.2.2⟩, h.2⟩, fun h => ⟨⟨rfl, Nat.zero_le _, h.1.1, h.1.2⟩, h.2⟩⟩)
theorem u6016_27 {v1 : Value} {x : Nat} : am_g d X am_m6016 27 [.ref x, v1] sk st Q = am_g d X am_m6016 28 [.ref x, v1] (.ref x :: sk) st Q := am_gu.trans rfl
theorem u6016_28 {v0 : Value} {v1 : Value} : am_g d X am_m6016 28 [v0, v1] (.ref o :: sk) st Q = ((am_ob st o 6 ∧ sk.length ≤ 5) ∧ am_Ca X d 6066 [.ref o] st (am_af am_m6016 28 [v0, v1] sk (fun pc lc sk st => am_g d X am_m6016 pc lc sk st Q) Q)) := am_gu.trans rfl
theorem u6016_31 {v1 : Value} {x : Nat} : am_g d X am_m6016 31 [.ref x, v1] sk st Q = am_g d X am_m6016 32 [.ref x, v1] (.ref x :: sk) st Q := am_gu.trans rfl
theorem u6016_32 {v0 : Value} {v1 : Value} : am_g d X am_m6016 32 [v0, v1] sk st Q = am_gt 193 35 [v0, v1] sk st (fun pc lc sk st => am_g d X am_m6016 pc lc sk st Q) := am_gu.trans rfl
theorem u6016_35 {v0 : Value} {x : Int32} : am_g d X am_m6016 35 [v0, .int x] sk st Q = am_g d X am_m6016 36 [v0, .int x] (.int x :: sk) st Q := am_gu.trans rfl
theorem u6016_36 {v0 : Value} {v1 : Value} : am_g d X am_m6016 36 [v0, v1] sk st Q = am_g d X am_m6016 37 [v0, v1] (.int (am_i 1) :: sk) st Q := am_gu.trans rfl
theorem u6016_37 {a0 : Value} {a1 : Value} {v0 : Value} {v1 : Value} : am_g d X am_m6016 37 [v0, v1] (a1 :: a0 :: .ref o :: sk) st Q = ((am_ob st o 4 ∧ sk.length ≤ 5) ∧ am_Ca X d 4019 [.ref o, a0, a1] st (am_af am_m6016 37 [v0, v1] sk (fun pc lc sk st => am_g d X am_m6016 pc lc sk st Q) Q)) := am_gu.trans rfl
theorem u6016_40 {v0 : Value} {v1 : Value} {x : Int32} : am_g d X am_m6016 40 [v0, v1] [.int x] st Q = Q (.inl (some (.int x))) st := am_gu.trans rfl
set_option maxRecDepth 100000 in
theorem of_6017 : am_of 6017 = some am_m6017 := rfl
theorem c6017 {z a0} {P : am_Q} : am_Ca X (d + 1) 6017 [.ref z, .int a0] st P = am_g d X am_m6017 0 [.ref z, .int a0] [] st P := am_cg of_6017 (by show 2 ≤ 2; decide)
theorem hd_6017 : am_hd am_m6017 = [] := rfl
theorem u6017_0 {v0 : Value} {x : Int32} : am_g d X am_m6017 0 [v0, .int x] sk st Q = am_g d X am_m6017 1 [v0, .int x] (.int x :: sk) st Q := am_gu.trans rfl
theorem u6017_1 {a0 : Value} {v0 : Value} {v1 : Value} : am_g d X am_m6017 1 [v0, v1] (a0 :: sk) st Q = (sk.length ≤ 4 ∧ am_Ca X d 6062 [a0] st (am_af am_m6017 1 [v0, v1] sk (fun pc lc sk st => am_g d X am_m6017 pc lc sk st Q) Q)) := am_gu.trans (propext ⟨fun h => ⟨h.1.2, h.2⟩, fun h => ⟨⟨Nat.le_add_left _ _, h.1⟩, h.2⟩⟩)
theorem u6017_4 {v1 : Value} {x : Nat} : am_g d X am_m6017 4 [.ref x, v1] sk st Q = am_g d X am_m6017 5 [.ref x, v1] (.ref x :: sk) st Q := am_gu.trans rfl
theorem u6017_5 {v0 : Value} {v1 : Value} : am_g d X am_m6017 5 [v0, v1] sk st Q = am_gt 193 8 [v0, v1] sk st (fun pc lc sk st => am_g d X am_m6017 pc lc sk st Q) := am_gu.trans rfl
theorem u6017_8 {v0 : Value} {x : Int32} : am_g d X am_m6017 8 [v0, .int x] sk st Q = am_g d X am_m6017 9 [v0, .int x] (.int x :: sk) st Q := am_gu.trans rfl
theorem u6017_9 {a0 : Value} {v0 : Value} {v1 : Value} : am_g d X am_m6017 9 [v0, v1] (a0 :: .ref o :: sk) st Q = ((am_ob st o 4 ∧ sk.length ≤ 5) ∧ am_Ca X d 4020 [.ref o, a0] st (am_af am_m6017 9 [v0, v1] sk (fun pc lc sk st => am_g d X am_m6017 pc lc sk st Q) Q)) := am_gu.trans rfl
theorem u6017_12 {v0 : Value} {v1 : Value} {x : Int32} : am_g d X am_m6017 12 [v0, v1] (.int x :: sk) st Q = (if decide (¬ x = 0) = true then am_g d X am_m6017 25 [v0, v1] sk st Q else am_g d X am_m6017 15 [v0, v1] sk st Q) := am_gu.trans rfl
theorem u6017_15 {v0 : Value} {v1 : Value} : am_g d X am_m6017 15 [v0, v1] [] (n, sh, cl, sl, F, A, L) Q = ((5 ≤ d ∧ n ≤ cl) ∧ Q (.inr 1) (n, sh, cl + 1, sl + 6, F, A, L)) := am_gu.trans (propext ⟨fun h => ⟨⟨h.1.2.2.1, h.1.2.2.2⟩, h.2⟩, fun h => ⟨⟨rfl, Nat.zero_le _, h.1.1, h.1.2⟩, h.2⟩⟩)
theorem u6017_25 {v1 : Value} {x : Nat} : am_g d X am_m6017 25 [.ref x, v1] sk st Q = am_g d X am_m6017 26 [.ref x, v1] (.ref x :: sk) st Q := am_gu.trans rfl
theorem u6017_26 {v0 : Value} {v1 : Value} : am_g d X am_m6017 26 [v0, v1] (.ref o :: sk) st Q = ((am_ob st o 6 ∧ sk.length ≤ 5) ∧ am_Ca X d 6066 [.ref o] st (am_af am_m6017 26 [v0, v1] sk (fun pc lc sk st => am_g d X am_m6017 pc lc sk st Q) Q)) := am_gu.trans rfl
theorem u6017_29 {v1 : Value} {x : Nat} : am_g d X am_m6017 29 [.ref x, v1] sk st Q = am_g d X am_m6017 30 [.ref x, v1] (.ref x :: sk) st Q := am_gu.trans rfl
theorem u6017_30 {v0 : Value} {v1 : Value} : am_g d X am_m6017 30 [v0, v1] sk st Q = am_gt 193 33 [v0, v1] sk st (fun pc lc sk st => am_g d X am_m6017 pc lc sk st Q) := am_gu.trans rfl
theorem u6017_33 {v0 : Value} {x : Int32} : am_g d X am_m6017 33 [v0, .int x] sk st Q = am_g d X am_m6017 34 [v0, .int x] (.int x :: sk) st Q := am_gu.trans rfl
theorem u6017_34 {a0 : Value} {v0 : Value} {v1 : Value} : am_g d X am_m6017 34 [v0, v1] (a0 :: .ref o :: sk) st Q = ((am_ob st o 4 ∧ sk.length ≤ 5) ∧ am_Ca X d 4021 [.ref o, a0] st (am_af am_m6017 34 [v0, v1] sk (fun pc lc sk st => am_g d X am_m6017 pc lc sk st Q) Q)) := am_gu.trans rfl
theorem u6017_37 {v0 : Value} {v1 : Value} {x : Int32} : am_g d X am_m6017 37 [v0, v1] [.int x] st Q = Q (.inl (some (.int x))) st := am_gu.trans rfl
set_option maxRecDepth 100000 in
theorem of_6018 : am_of 6018 = some am_m6018 := rfl
theorem c6018 {z a0 a1 a2} {P : am_Q} : am_Ca X (d + 1) 6018 [.ref z, .int a0, .int a1, .int a2] st P = am_g d X am_m6018 0 [.ref z, .int a0, .int a1, .int a2] [] st P := am_cg of_6018 (by show 4 ≤ 4; decide)
theorem hd_6018 : am_hd am_m6018 = [] := rfl
theorem u6018_0 {v0 : Value} {v2 : Value} {v3 : Value} {x : Int32} : am_g d X am_m6018 0 [v0, .int x, v2, v3] sk st Q = am_g d X am_m6018 1 [v0, .int x, v2, v3] (.int x :: sk) st Q := am_gu.trans rfl
theorem u6018_1 {v0 : Value} {v1 : Value} {v3 : Value} {x : Int32} : am_g d X am_m6018 1 [v0, v1, .int x, v3] sk st Q = am_g d X am_m6018 2 [v0, v1, .int x, v3] (.int x :: sk) st Q := am_gu.trans rfl
theorem u6018_2 {a0 : Value} {a1 : Value} {v0 : Value} {v1 : Value} {v2 : Value} {v3 : Value} : am_g d X am_m6018 2 [v0, v1, v2, v3] (a1 :: a0 :: sk) st Q = (sk.length ≤ 4 ∧ am_Ca X d 6061 [a0, a1] st (am_af am_m6018 2 [v0, v1, v2, v3] sk (fun pc lc sk st => am_g d X am_m6018 pc lc sk st Q) Q)) := am_gu.trans (propext ⟨fun h => ⟨h.1.2, h.2⟩, fun h => ⟨⟨Nat.le_add_left _ _, h.1⟩, h.2⟩⟩)
theorem u6018_5 {v1 : Value} {v2 : Value} {v3 : Value} {x : Nat} : am_g d X am_m6018 5 [.ref x, v1, v2, v3] sk st Q = am_g d X am_m6018 6 [.ref x, v1, v2, v3] (.ref x :: sk) st Q := am_gu.trans rfl
theorem u6018_6 {v0 : Value} {v2 : Value} {v3 : Value} {x : Int32} : am_g d X am_m6018 6 [v0, .int x, v2, v3] sk st Q = am_g d X am_m6018 7 [v0, .int x, v2, v3] (.int x :: sk) st Q := am_gu.trans rfl
theorem u6018_7 {v0 : Value} {v1 : Value} {v3 : Value} {x : Int32} : am_g d X am_m6018 7 [v0, v1, .int x, v3] sk st Q = am_g d X am_m6018 8 [v0, v1, .int x, v3] (.int x :: sk) st Q := am_gu.trans rfl
theorem u6018_8 {a0 : Value} {a1 : Value} {v0 : Value} {v1 : Value} {v2 : Value} {v3 : Value} : am_g d X am_m6018 8 [v0, v1, v2, v3] (a1 :: a0 :: sk) st Q = (sk.length ≤ 4 ∧ am_Ca X d 6060 [a0, a1] st (am_af am_m6018 8 [v0, v1, v2, v3] sk (fun pc lc sk st => am_g d X am_m6018 pc lc sk st Q) Q)) := am_gu.trans (propext ⟨fun h => ⟨h.1.2, h.2⟩, fun h => ⟨⟨Nat.le_add_left _ _, h.1⟩, h.2⟩⟩)
theorem u6018_11 {a0 : Value} {v0 : Value} {v1 : Value} {v2 : Value} {v3 : Value} : am_g d X am_m6018 11 [v0, v1, v2, v3] (a0 :: .ref o :: sk) st Q = ((am_ob st o 6 ∧ sk.length ≤ 5) ∧ am_Ca X d 6065 [.ref o, a0] st (am_af am_m6018 11 [v0, v1, v2, v3] sk (fun pc lc sk st => am_g d X am_m6018 pc lc sk st Q) Q)) := am_gu.trans rfl
theorem u6018_14 {v1 : Value} {v2 : Value} {v3 : Value} {x : Nat} : am_g d X am_m6018 14 [.ref x, v1, v2, v3] sk st Q = am_g d X am_m6018 15 [.ref x, v1, v2, v3] (.ref x :: sk) st Q := am_gu.trans rfl
theorem u6018_15 {v0 : Value} {v1 : Value} {v2 : Value} {v3 : Value} : am_g d X am_m6018 15 [v0, v1, v2, v3] (.ref o :: sk) st Q = ((am_ob st o 6 ∧ sk.length ≤ 5) ∧ am_Ca X d 6066 [.ref o] st (am_af am_m6018 15 [v0, v1, v2, v3] sk (fun pc lc sk st => am_g d X am_m6018 pc lc sk st Q) Q)) := am_gu.trans rfl
theorem u6018_18 {v1 : Value} {v2 : Value} {v3 : Value} {x : Nat} : am_g d X am_m6018 18 [.ref x, v1, v2, v3] sk st Q = am_g d X am_m6018 19 [.ref x, v1, v2, v3] (.ref x :: sk) st Q := am_gu.trans rfl
theorem u6018_19 {v0 : Value} {v1 : Value} {v2 : Value} {v3 : Value} : am_g d X am_m6018 19 [v0, v1, v2, v3] sk st Q = am_gt 193 22 [v0, v1, v2, v3] sk st (fun pc lc sk st => am_g d X am_m6018 pc lc sk st Q) := am_gu.trans rfl
theorem u6018_22 {v0 : Value} {v2 : Value} {v3 : Value} {x : Int32} : am_g d X am_m6018 22 [v0, .int x, v2, v3] sk st Q = am_g d X am_m6018 23 [v0, .int x, v2, v3] (.int x :: sk) st Q := am_gu.trans rfl
theorem u6018_23 {v0 : Value} {v1 : Value} {v3 : Value} {x : Int32} : am_g d X am_m6018 23 [v0, v1, .int x, v3] sk st Q = am_g d X am_m6018 24 [v0, v1, .int x, v3] (.int x :: sk) st Q := am_gu.trans rfl
theorem u6018_24 {a0 : Value} {a1 : Value} {v0 : Value} {v1 : Value} {v2 : Value} {v3 : Value} : am_g d X am_m6018 24 [v0, v1, v2, v3] (a1 :: a0 :: sk) st Q = (sk.length ≤ 4 ∧ am_Ca X d 6060 [a0, a1] st (am_af am_m6018 24 [v0, v1, v2, v3] sk (fun pc lc sk st => am_g d X am_m6018 pc lc sk st Q) Q)) := am_gu.trans (propext ⟨fun h => ⟨h.1.2, h.2⟩, fun h => ⟨⟨Nat.le_add_left _ _, h.1⟩, h.2⟩⟩)
theorem u6018_27 {v0 : Value} {v1 : Value} {v2 : Value} {x : Int32} : am_g d X am_m6018 27 [v0, v1, v2, .int x] sk st Q = am_g d X am_m6018 28 [v0, v1, v2, .int x] (.int x :: sk) st Q := am_gu.trans rfl
theorem u6018_28 {a0 : Value} {a1 : Value} {v0 : Value} {v1 : Value} {v2 : Value} {v3 : Value} : am_g d X am_m6018 28 [v0, v1, v2, v3] (a1 :: a0 :: .ref o :: sk) st Q = ((am_ob st o 4 ∧ sk.length ≤ 5) ∧ am_Ca X d 4022 [.ref o, a0, a1] st (am_af am_m6018 28 [v0, v1, v2, v3] sk (fun pc lc sk st => am_g d X am_m6018 pc lc sk st Q) Q)) := am_gu.trans rfl
theorem u6018_31 {v0 : Value} {v1 : Value} {v2 : Value} {v3 : Value} {x : Int32} : am_g d X am_m6018 31 [v0, v1, v2, v3] [.int x] st Q = Q (.inl (some (.int x))) st := am_gu.trans rfl
set_option maxRecDepth 100000 in
theorem of_6019 : am_of 6019 = some am_m6019 := rfl
theorem c6019 {z} {P : am_Q} : am_Ca X (d + 1) 6019 [.ref z] st P = am_g d X am_m6019 0 [.ref z] [] st P := am_cg of_6019 (by show 1 ≤ 1; decide)
theorem hd_6019 : am_hd am_m6019 = [] := rfl
theorem u6019_0 {x : Nat} : am_g d X am_m6019 0 [.ref x] sk st Q = am_g d X am_m6019 1 [.ref x] (.ref x :: sk) st Q := am_gu.trans rfl
theorem u6019_1 {v0 : Value} : am_g d X am_m6019 1 [v0] sk st Q = am_gt 193 4 [v0] sk st (fun pc lc sk st => am_g d X am_m6019 pc lc sk st Q) := am_gu.trans rfl
theorem u6019_4 {v0 : Value} : am_g d X am_m6019 4 [v0] (.ref o :: sk) st Q = ((am_ob st o 4 ∧ sk.length ≤ 5) ∧ am_Ca X d 4023 [.ref o] st (am_af am_m6019 4 [v0] sk (fun pc lc sk st => am_g d X am_m6019 pc lc sk st Q) Q)) := am_gu.trans rfl
theorem u6019_7 {v0 : Value} {x : Int32} : am_g d X am_m6019 7 [v0] (.int x :: sk) st Q = (if decide (¬ x = 0) = true then am_g d X am_m6019 20 [v0] sk st Q else am_g d X am_m6019 10 [v0] sk st Q) := am_gu.trans rfl
theorem u6019_10 {v0 : Value} : am_g d X am_m6019 10 [v0] [] (n, sh, cl, sl, F, A, L) Q = ((5 ≤ d ∧ n ≤ cl) ∧ Q (.inr 1) (n, sh, cl + 1, sl + 6, F, A, L)) := am_gu.trans (propext ⟨fun h => ⟨⟨h.1.2.2.1, h.1.2.2.2⟩, h.2⟩, fun h => ⟨⟨rfl, Nat.zero_le _, h.1.1, h.1.2⟩, h.2⟩⟩)
theorem u6019_20 {x : Nat} : am_g d X am_m6019 20 [.ref x] sk st Q = am_g d X am_m6019 21 [.ref x] (.ref x :: sk) st Q := am_gu.trans rfl
theorem u6019_21 {v0 : Value} : am_g d X am_m6019 21 [v0] (.ref o :: sk) st Q = ((am_ob st o 6 ∧ sk.length ≤ 5) ∧ am_Ca X d 6066 [.ref o] st (am_af am_m6019 21 [v0] sk (fun pc lc sk st => am_g d X am_m6019 pc lc sk st Q) Q)) := am_gu.trans rfl
theorem u6019_24 {x : Nat} : am_g d X am_m6019 24 [.ref x] sk st Q = am_g d X am_m6019 25 [.ref x] (.ref x :: sk) st Q := am_gu.trans rfl
theorem u6019_25 {v0 : Value} : am_g d X am_m6019 25 [v0] sk st Q = am_gt 193 28 [v0] sk st (fun pc lc sk st => am_g d X am_m6019 pc lc sk st Q) := am_gu.trans rfl
theorem u6019_28 {v0 : Value} : am_g d X am_m6019 28 [v0] (.ref o :: sk) st Q = ((am_ob st o 4 ∧ sk.length ≤ 5) ∧ am_Ca X d 4024 [.ref o] st (am_af am_m6019 28 [v0] sk (fun pc lc sk st => am_g d X am_m6019 pc lc sk st Q) Q)) := am_gu.trans rfl
theorem u6019_31 {v0 : Value} {x : Int32} : am_g d X am_m6019 31 [v0] [.int x] st Q = Q (.inl (some (.int x))) st := am_gu.trans rfl
set_option maxRecDepth 100000 in
theorem of_6020 : am_of 6020 = some am_m6020 := rfl
theorem c6020 {z a0 a1} {P : am_Q} : am_Ca X (d + 1) 6020 [.ref z, .int a0, .int a1] st P = am_g d X am_m6020 0 [.ref z, .int a0, .int a1] [] st P := am_cg of_6020 (by show 3 ≤ 3; decide)
theorem hd_6020 : am_hd am_m6020 = [] := rfl
theorem u6020_0 {v0 : Value} {v2 : Value} {x : Int32} : am_g d X am_m6020 0 [v0, .int x, v2] sk st Q = am_g d X am_m6020 1 [v0, .int x, v2] (.int x :: sk) st Q := am_gu.trans rfl
theorem u6020_1 {v0 : Value} {v1 : Value} {x : Int32} : am_g d X am_m6020 1 [v0, v1, .int x] sk st Q = am_g d X am_m6020 2 [v0, v1, .int x] (.int x :: sk) st Q := am_gu.trans rfl
theorem u6020_2 {a0 : Value} {a1 : Value} {v0 : Value} {v1 : Value} {v2 : Value} : am_g d X am_m6020 2 [v0, v1, v2] (a1 :: a0 :: sk) st Q = (sk.length ≤ 4 ∧ am_Ca X d 6061 [a0, a1] st (am_af am_m6020 2 [v0, v1, v2] sk (fun pc lc sk st => am_g d X am_m6020 pc lc sk st Q) Q)) := am_gu.trans (propext ⟨fun h => ⟨h.1.2, h.2⟩, fun h => ⟨⟨Nat.le_add_left _ _, h.1⟩, h.2⟩⟩)
theorem u6020_5 {v1 : Value} {v2 : Value} {x : Nat} : am_g d X am_m6020 5 [.ref x, v1, v2] sk st Q = am_g d X am_m6020 6 [.ref x, v1, v2] (.ref x :: sk) st Q := am_gu.trans rfl
theorem u6020_6 {v0 : Value} {v1 : Value} {v2 : Value} : am_g d X am_m6020 6 [v0, v1, v2] sk st Q = am_gt 193 9 [v0, v1, v2] sk st (fun pc lc sk st => am_g d X am_m6020 pc lc sk st Q) := am_gu.trans rfl
theorem u6020_9 {v0 : Value} {v1 : Value} {v2 : Value} : am_g d X am_m6020 9 [v0, v1, v2] sk st Q = am_gt 128 12 [v0, v1, v2] sk st (fun pc lc sk st => am_g d X am_m6020 pc lc sk st Q) := am_gu.trans rfl
theorem u6020_12 {v0 : Value} {v2 : Value} {x : Int32} : am_g d X am_m6020 12 [v0, .int x, v2] sk st Q = am_g d X am_m6020 13 [v0, .int x, v2] (.int x :: sk) st Q := am_gu.trans rfl
theorem u6020_13 {v0 : Value} {v1 : Value} {x : Int32} : am_g d X am_m6020 13 [v0, v1, .int x] sk st Q = am_g d X am_m6020 14 [v0, v1, .int x] (.int x :: sk) st Q := am_gu.trans rfl
theorem u6020_14 {a0 : Value} {a1 : Value} {v0 : Value} {v1 : Value} {v2 : Value} : am_g d X am_m6020 14 [v0, v1, v2] (a1 :: a0 :: sk) st Q = (sk.length ≤ 4 ∧ am_Ca X d 6060 [a0, a1] st (am_af am_m6020 14 [v0, v1, v2] sk (fun pc lc sk st => am_g d X am_m6020 pc lc sk st Q) Q)) := am_gu.trans (propext ⟨fun h => ⟨h.1.2, h.2⟩, fun h => ⟨⟨Nat.le_add_left _ _, h.1⟩, h.2⟩⟩)
theorem u6020_17 {a0 : Value} {v0 : Value} {v1 : Value} {v2 : Value} : am_g d X am_m6020 17 [v0, v1, v2] (a0 :: .ref o :: sk) st Q = ((am_ob st o 5 ∧ sk.length ≤ 5) ∧ am_Ca X d 5028 [.ref o, a0] st (am_af am_m6020 17 [v0, v1, v2] sk (fun pc lc sk st => am_g d X am_m6020 pc lc sk st Q) Q)) := am_gu.trans rfl
theorem u6020_20 {v0 : Value} {v1 : Value} {v2 : Value} {x : Int32} : am_g d X am_m6020 20 [v0, v1, v2] [.int x] st Q = ((x = 0 ∨ x = 1) ∧ Q (.inl (some (.int x))) st) := am_gu.trans rfl
set_option maxRecDepth 100000 in
theorem of_6021 : am_of 6021 = some am_m6021 := rfl
theorem c6021 {z a0 a1} {P : am_Q} : am_Ca X (d + 1) 6021 [.ref z, .int a0, .int a1] st P = am_g d X am_m6021 0 [.ref z, .int a0, .int a1] [] st P := am_cg of_6021 (by show 3 ≤ 3; decide)
theorem hd_6021 : am_hd am_m6021 = [] := rfl
theorem u6021_0 {v0 : Value} {v2 : Value} {x : Int32} : am_g d X am_m6021 0 [v0, .int x, v2] sk st Q = am_g d X am_m6021 1 [v0, .int x, v2] (.int x :: sk) st Q := am_gu.trans rfl
theorem u6021_1 {v0 : Value} {v1 : Value} {x : Int32} : am_g d X am_m6021 1 [v0, v1, .int x] sk st Q = am_g d X am_m6021 2 [v0, v1, .int x] (.int x :: sk) st Q := am_gu.trans rfl
theorem u6021_2 {a0 : Value} {a1 : Value} {v0 : Value} {v1 : Value} {v2 : Value} : am_g d X am_m6021 2 [v0, v1, v2] (a1 :: a0 :: sk) st Q = (sk.length ≤ 4 ∧ am_Ca X d 6061 [a0, a1] st (am_af am_m6021 2 [v0, v1, v2] sk (fun pc lc sk st => am_g d X am_m6021 pc lc sk st Q) Q)) := am_gu.trans (propext ⟨fun h => ⟨h.1.2, h.2⟩, fun h => ⟨⟨Nat.le_add_left _ _, h.1⟩, h.2⟩⟩)
theorem u6021_5 {v1 : Value} {v2 : Value} {x : Nat} : am_g d X am_m6021 5 [.ref x, v1, v2] sk st Q = am_g d X am_m6021 6 [.ref x, v1, v2] (.ref x :: sk) st Q := am_gu.trans rfl
theorem u6021_6 {v0 : Value} {v2 : Value} {x : Int32} : am_g d X am_m6021 6 [v0, .int x, v2] sk st Q = am_g d X am_m6021 7 [v0, .int x, v2] (.int x :: sk) st Q := am_gu.trans rfl
theorem u6021_7 {v0 : Value} {v1 : Value} {x : Int32} : am_g d X am_m6021 7 [v0, v1, .int x] sk st Q = am_g d X am_m6021 8 [v0, v1, .int x] (.int x :: sk) st Q := am_gu.trans rfl
theorem u6021_8 {a0 : Value} {a1 : Value} {v0 : Value} {v1 : Value} {v2 : Value} : am_g d X am_m6021 8 [v0, v1, v2] (a1 :: a0 :: sk) st Q = (sk.length ≤ 4 ∧ am_Ca X d 6060 [a0, a1] st (am_af am_m6021 8 [v0, v1, v2] sk (fun pc lc sk st => am_g d X am_m6021 pc lc sk st Q) Q)) := am_gu.trans (propext ⟨fun h => ⟨h.1.2, h.2⟩, fun h => ⟨⟨Nat.le_add_left _ _, h.1⟩, h.2⟩⟩)
theorem u6021_11 {a0 : Value} {v0 : Value} {v1 : Value} {v2 : Value} : am_g d X am_m6021 11 [v0, v1, v2] (a0 :: .ref o :: sk) st Q = ((am_ob st o 6 ∧ sk.length ≤ 5) ∧ am_Ca X d 6065 [.ref o, a0] st (am_af am_m6021 11 [v0, v1, v2] sk (fun pc lc sk st => am_g d X am_m6021 pc lc sk st Q) Q)) := am_gu.trans rfl
theorem u6021_14 {v1 : Value} {v2 : Value} {x : Nat} : am_g d X am_m6021 14 [.ref x, v1, v2] sk st Q = am_g d X am_m6021 15 [.ref x, v1, v2] (.ref x :: sk) st Q := am_gu.trans rfl
theorem u6021_15 {v0 : Value} {v1 : Value} {v2 : Value} : am_g d X am_m6021 15 [v0, v1, v2] sk st Q = am_gt 193 18 [v0, v1, v2] sk st (fun pc lc sk st => am_g d X am_m6021 pc lc sk st Q) := am_gu.trans rfl
theorem u6021_18 {v0 : Value} {v1 : Value} {v2 : Value} : am_g d X am_m6021 18 [v0, v1, v2] sk st Q = am_gt 128 21 [v0, v1, v2] sk st (fun pc lc sk st => am_g d X am_m6021 pc lc sk st Q) := am_gu.trans rfl
theorem u6021_21 {v0 : Value} {v2 : Value} {x : Int32} : am_g d X am_m6021 21 [v0, .int x, v2] sk st Q = am_g d X am_m6021 22 [v0, .int x, v2] (.int x :: sk) st Q := am_gu.trans rfl
theorem u6021_22 {v0 : Value} {v1 : Value} {x : Int32} : am_g d X am_m6021 22 [v0, v1, .int x] sk st Q = am_g d X am_m6021 23 [v0, v1, .int x] (.int x :: sk) st Q := am_gu.trans rfl
theorem u6021_23 {a0 : Value} {a1 : Value} {v0 : Value} {v1 : Value} {v2 : Value} : am_g d X am_m6021 23 [v0, v1, v2] (a1 :: a0 :: sk) st Q = (sk.length ≤ 4 ∧ am_Ca X d 6060 [a0, a1] st (am_af am_m6021 23 [v0, v1, v2] sk (fun pc lc sk st => am_g d X am_m6021 pc lc sk st Q) Q)) := am_gu.trans (propext ⟨fun h => ⟨h.1.2, h.2⟩, fun h => ⟨⟨Nat.le_add_left _ _, h.1⟩, h.2⟩⟩)
theorem u6021_26 {a0 : Value} {v0 : Value} {v1 : Value} {v2 : Value} : am_g d X am_m6021 26 [v0, v1, v2] (a0 :: .ref o :: sk) st Q = ((am_ob st o 5 ∧ sk.length ≤ 5) ∧ am_Ca X d 5027 [.ref o, a0] st (am_af am_m6021 26 [v0, v1, v2] sk (fun pc lc sk st => am_g d X am_m6021 pc lc sk st Q) Q)) := am_gu.trans rfl
theorem u6021_29 {v0 : Value} {v1 : Value} {v2 : Value} {x : Int32} : am_g d X am_m6021 29 [v0, v1, v2] [.int x] st Q = Q (.inl (some (.int x))) st := am_gu.trans rfl
set_option maxRecDepth 100000 in
theorem of_6022 : am_of 6022 = some am_m6022 := rfl
theorem c6022 {z} {P : am_Q} : am_Ca X (d + 1) 6022 [.ref z] st P = am_g d X am_m6022 0 [.ref z] [] st P := am_cg of_6022 (by show 1 ≤ 1; decide)
theorem hd_6022 : am_hd am_m6022 = [] := rfl
theorem u6022_0 {x : Nat} : am_g d X am_m6022 0 [.ref x] sk st Q = am_g d X am_m6022 1 [.ref x] (.ref x :: sk) st Q := am_gu.trans rfl
theorem u6022_1 {v0 : Value} : am_g d X am_m6022 1 [v0] sk st Q = am_gt 193 4 [v0] sk st (fun pc lc sk st => am_g d X am_m6022 pc lc sk st Q) := am_gu.trans rfl
theorem u6022_4 {v0 : Value} : am_g d X am_m6022 4 [v0] sk st Q = am_gt 128 7 [v0] sk st (fun pc lc sk st => am_g d X am_m6022 pc lc sk st Q) := am_gu.trans rfl
theorem u6022_7 {v0 : Value} : am_g d X am_m6022 7 [v0] (.ref o :: sk) st Q = ((am_ob st o 5 ∧ sk.length ≤ 5) ∧ am_Ca X d 5029 [.ref o] st (am_af am_m6022 7 [v0] sk (fun pc lc sk st => am_g d X am_m6022 pc lc sk st Q) Q)) := am_gu.trans rfl
theorem u6022_10 {v0 : Value} {x : Int32} : am_g d X am_m6022 10 [v0] [.int x] st Q = Q (.inl (some (.int x))) st := am_gu.trans rfl
set_option maxRecDepth 100000 in
theorem of_6023 : am_of 6023 = some am_m6023 := rfl
theorem c6023 {z} {P : am_Q} : am_Ca X (d + 1) 6023 [.ref z] st P = am_g d X am_m6023 0 [.ref z] [] st P := am_cg of_6023 (by show 1 ≤ 1; decide)
theorem hd_6023 : am_hd am_m6023 = [] := rfl
theorem u6023_0 {x : Nat} : am_g d X am_m6023 0 [.ref x] sk st Q = am_g d X am_m6023 1 [.ref x] (.ref x :: sk) st Q := am_gu.trans rfl
theorem u6023_1 {v0 : Value} : am_g d X am_m6023 1 [v0] sk st Q = am_gt 193 4 [v0] sk st (fun pc lc sk st => am_g d X am_m6023 pc lc sk st Q) := am_gu.trans rfl
theorem u6023_4 {v0 : Value} : am_g d X am_m6023 4 [v0] sk st Q = am_gt 128 7 [v0] sk st (fun pc lc sk st => am_g d X am_m6023 pc lc sk st Q) := am_gu.trans rfl
theorem u6023_7 {v0 : Value} : am_g d X am_m6023 7 [v0] (.ref o :: sk) st Q = ((am_ob st o 5 ∧ sk.length ≤ 5) ∧ am_Ca X d 5030 [.ref o] st (am_af am_m6023 7 [v0] sk (fun pc lc sk st => am_g d X am_m6023 pc lc sk st Q) Q)) := am_gu.trans rfl
theorem u6023_10 {v0 : Value} {x : Int32} : am_g d X am_m6023 10 [v0] [.int x] st Q = Q (.inl (some (.int x))) st := am_gu.trans rfl
set_option maxRecDepth 100000 in
theorem of_6024 : am_of 6024 = some am_m6024 := rfl
theorem c6024 {z} {P : am_Q} : am_Ca X (d + 1) 6024 [.ref z] st P = am_g d X am_m6024 0 [.ref z] [] st P := am_cg of_6024 (by show 1 ≤ 1; decide)
theorem hd_6024 : am_hd am_m6024 = [] := rfl
theorem u6024_0 {x : Nat} : am_g d X am_m6024 0 [.ref x] sk st Q = am_g d X am_m6024 1 [.ref x] (.ref x :: sk) st Q := am_gu.trans rfl
theorem u6024_1 {v0 : Value} : am_g d X am_m6024 1 [v0] sk st Q = am_gt 193 4 [v0] sk st (fun pc lc sk st => am_g d X am_m6024 pc lc sk st Q) := am_gu.trans rfl
theorem u6024_4 {v0 : Value} : am_g d X am_m6024 4 [v0] sk st Q = am_gt 128 7 [v0] sk st (fun pc lc sk st => am_g d X am_m6024 pc lc sk st Q) := am_gu.trans rfl
theorem u6024_7 {v0 : Value} : am_g d X am_m6024 7 [v0] (.ref o :: sk) st Q = ((am_ob st o 5 ∧ sk.length ≤ 5) ∧ am_Ca X d 5031 [.ref o] st (am_af am_m6024 7 [v0] sk (fun pc lc sk st => am_g d X am_m6024 pc lc sk st Q) Q)) := am_gu.trans rfl
theorem u6024_10 {v0 : Value} {x : Int32} : am_g d X am_m6024 10 [v0] [.int x] st Q = Q (.inl (some (.int x))) st := am_gu.trans rfl
set_option maxRecDepth 100000 in
theorem of_6025 : am_of 6025 = some am_m6025 := rfl
theorem c6025 {z} {P : am_Q} : am_Ca X (d + 1) 6025 [.ref z] st P = am_g d X am_m6025 0 [.ref z] [] st P := am_cg of_6025 (by show 1 ≤ 1; decide)
theorem hd_6025 : am_hd am_m6025 = [] := rfl
theorem u6025_0 {x : Nat} : am_g d X am_m6025 0 [.ref x] sk st Q = am_g d X am_m6025 1 [.ref x] (.ref x :: sk) st Q := am_gu.trans rfl
theorem u6025_1 {v0 : Value} : am_g d X am_m6025 1 [v0] sk st Q = am_gt 193 4 [v0] sk st (fun pc lc sk st => am_g d X am_m6025 pc lc sk st Q) := am_gu.trans rfl
theorem u6025_4 {v0 : Value} : am_g d X am_m6025 4 [v0] sk st Q = am_gt 128 7 [v0] sk st (fun pc lc sk st => am_g d X am_m6025 pc lc sk st Q) := am_gu.trans rfl
theorem u6025_7 {v0 : Value} : am_g d X am_m6025 7 [v0] sk st Q = am_gt 168 10 [v0] sk st (fun pc lc sk st => am_g d X am_m6025 pc lc sk st Q) := am_gu.trans rfl
theorem u6025_10 {v0 : Value} : am_g d X am_m6025 10 [v0] sk st Q = am_g d X am_m6025 11 [v0] (.int (am_i 1) :: sk) st Q := am_gu.trans rfl
theorem u6025_11 {v0 : Value} {x : Int32} {y : Int32} : am_g d X am_m6025 11 [v0] (.int y :: .int x :: sk) st Q = (if decide (¬ x = y) = true then am_g d X am_m6025 18 [v0] sk st Q else am_g d X am_m6025 14 [v0] sk st Q) := am_gu.trans rfl
theorem u6025_14 {v0 : Value} : am_g d X am_m6025 14 [v0] sk st Q = am_g d X am_m6025 15 [v0] (.int (am_i 1) :: sk) st Q := am_gu.trans rfl
theorem u6025_15 {v0 : Value} : am_g d X am_m6025 15 [v0] sk st Q = am_g d X am_m6025 19 [v0] sk st Q := am_gu.trans rfl
theorem u6025_18 {v0 : Value} : am_g d X am_m6025 18 [v0] sk st Q = am_g d X am_m6025 19 [v0] (.int (am_i 0) :: sk) st Q := am_gu.trans rfl
theorem u6025_19 {v0 : Value} {x : Int32} : am_g d X am_m6025 19 [v0] [.int x] st Q = ((x = 0 ∨ x = 1) ∧ Q (.inl (some (.int x))) st) := am_gu.trans rfl
set_option maxRecDepth 100000 in
theorem of_6026 : am_of 6026 = some am_m6026 := rfl
theorem c6026 {z} {P : am_Q} : am_Ca X (d + 1) 6026 [.ref z] st P = am_g d X am_m6026 0 [.ref z] [] st P := am_cg of_6026 (by show 1 ≤ 1; decide)
theorem hd_6026 : am_hd am_m6026 = [] := rfl
theorem u6026_0 {x : Nat} : am_g d X am_m6026 0 [.ref x] sk st Q = am_g d X am_m6026 1 [.ref x] (.ref x :: sk) st Q := am_gu.trans rfl
theorem u6026_1 {v0 : Value} : am_g d X am_m6026 1 [v0] sk st Q = am_gt 193 4 [v0] sk st (fun pc lc sk st => am_g d X am_m6026 pc lc sk st Q) := am_gu.trans rfl
theorem u6026_4 {v0 : Value} : am_g d X am_m6026 4 [v0] sk st Q = am_gt 128 7 [v0] sk st (fun pc lc sk st => am_g d X am_m6026 pc lc sk st Q) := am_gu.trans rfl
theorem u6026_7 {v0 : Value} : am_g d X am_m6026 7 [v0] sk st Q = am_gt 168 10 [v0] sk st (fun pc lc sk st => am_g d X am_m6026 pc lc sk st Q) := am_gu.trans rfl
theorem u6026_10 {v0 : Value} : am_g d X am_m6026 10 [v0] sk st Q = am_g d X am_m6026 11 [v0] (.int (am_i 2) :: sk) st Q := am_gu.trans rfl
theorem u6026_11 {v0 : Value} {x : Int32} {y : Int32} : am_g d X am_m6026 11 [v0] (.int y :: .int x :: sk) st Q = (if decide (¬ x = y) = true then am_g d X am_m6026 18 [v0] sk st Q else am_g d X am_m6026 14 [v0] sk st Q) := am_gu.trans rfl
theorem u6026_14 {v0 : Value} : am_g d X am_m6026 14 [v0] sk st Q = am_g d X am_m6026 15 [v0] (.int (am_i 1) :: sk) st Q := am_gu.trans rfl
theorem u6026_15 {v0 : Value} : am_g d X am_m6026 15 [v0] sk st Q = am_g d X am_m6026 19 [v0] sk st Q := am_gu.trans rfl
theorem u6026_18 {v0 : Value} : am_g d X am_m6026 18 [v0] sk st Q = am_g d X am_m6026 19 [v0] (.int (am_i 0) :: sk) st Q := am_gu.trans rfl
theorem u6026_19 {v0 : Value} {x : Int32} : am_g d X am_m6026 19 [v0] [.int x] st Q = ((x = 0 ∨ x = 1) ∧ Q (.inl (some (.int x))) st) := am_gu.trans rfl
set_option maxRecDepth 100000 in
theorem of_6027 : am_of 6027 = some am_m6027 := rfl
theorem c6027 {z a0 a1} {P : am_Q} : am_Ca X (d + 1) 6027 [.ref z, .int a0, .int a1] st P = am_g d X am_m6027 0 [.ref z, .int a0, .int a1] [] st P := am_cg of_6027 (by show 3 ≤ 3; decide)
theorem hd_6027 : am_hd am_m6027 = [] := rfl
theorem u6027_0 {v0 : Value} {v2 : Value} {x : Int32} : am_g d X am_m6027 0 [v0, .int x, v2] sk st Q = am_g d X am_m6027 1 [v0, .int x, v2] (.int x :: sk) st Q := am_gu.trans rfl
theorem u6027_1 {v0 : Value} {v1 : Value} {x : Int32} : am_g d X am_m6027 1 [v0, v1, .int x] sk st Q = am_g d X am_m6027 2 [v0, v1, .int x] (.int x :: sk) st Q := am_gu.trans rfl
theorem u6027_2 {a0 : Value} {a1 : Value} {v0 : Value} {v1 : Value} {v2 : Value} : am_g d X am_m6027 2 [v0, v1, v2] (a1 :: a0 :: sk) st Q = (sk.length ≤ 4 ∧ am_Ca X d 6061 [a0, a1] st (am_af am_m6027 2 [v0, v1, v2] sk (fun pc lc sk st => am_g d X am_m6027 pc lc sk st Q) Q)) := am_gu.trans (propext ⟨fun h => ⟨h.1.2, h.2⟩, fun h => ⟨⟨Nat.le_add_left _ _, h.1⟩, h.2⟩⟩)
theorem u6027_5 {v1 : Value} {v2 : Value} {x : Nat} : am_g d X am_m6027 5 [.ref x, v1, v2] sk st Q = am_g d X am_m6027 6 [.ref x, v1, v2] (.ref x :: sk) st Q := am_gu.trans rfl
theorem u6027_6 {v0 : Value} {v1 : Value} {v2 : Value} : am_g d X am_m6027 6 [v0, v1, v2] sk st Q = am_gt 193 9 [v0, v1, v2] sk st (fun pc lc sk st => am_g d X am_m6027 pc lc sk st Q) := am_gu.trans rfl
theorem u6027_9 {v0 : Value} {v1 : Value} {v2 : Value} : am_g d X am_m6027 9 [v0, v1, v2] sk st Q = am_gt 128 12 [v0, v1, v2] sk st (fun pc lc sk st => am_g d X am_m6027 pc lc sk st Q) := am_gu.trans rfl
theorem u6027_12 {v0 : Value} {v2 : Value} {x : Int32} : am_g d X am_m6027 12 [v0, .int x, v2] sk st Q = am_g d X am_m6027 13 [v0, .int x, v2] (.int x :: sk) st Q := am_gu.trans rfl
theorem u6027_13 {v0 : Value} {v1 : Value} {x : Int32} : am_g d X am_m6027 13 [v0, v1, .int x] sk st Q = am_g d X am_m6027 14 [v0, v1, .int x] (.int x :: sk) st Q := am_gu.trans rfl
theorem u6027_14 {a0 : Value} {a1 : Value} {v0 : Value} {v1 : Value} {v2 : Value} : am_g d X am_m6027 14 [v0, v1, v2] (a1 :: a0 :: sk) st Q = (sk.length ≤ 4 ∧ am_Ca X d 6060 [a0, a1] st (am_af am_m6027 14 [v0, v1, v2] sk (fun pc lc sk st => am_g d X am_m6027 pc lc sk st Q) Q)) := am_gu.trans (propext ⟨fun h => ⟨h.1.2, h.2⟩, fun h => ⟨⟨Nat.le_add_left _ _, h.1⟩, h.2⟩⟩)
theorem u6027_17 {a0 : Value} {v0 : Value} {v1 : Value} {v2 : Value} : am_g d X am_m6027 17 [v0, v1, v2] (a0 :: .ref o :: sk) st Q = ((am_ob st o 5 ∧ sk.length ≤ 5) ∧ am_Ca X d 5021 [.ref o, a0] st (am_af am_m6027 17 [v0, v1, v2] sk (fun pc lc sk st => am_g d X am_m6027 pc lc sk st Q) Q)) := am_gu.trans rfl
theorem u6027_20 {v0 : Value} {v1 : Value} {v2 : Value} {x : Int32} : am_g d X am_m6027 20 [v0, v1, v2] [.int x] st Q = Q (.inl (some (.int x))) st := am_gu.trans rfl
set_option maxRecDepth 100000 in
theorem of_6028 : am_of 6028 = some am_m6028 := rfl
theorem c6028 {z a0 a1} {P : am_Q} : am_Ca X (d + 1) 6028 [.ref z, .int a0, .int a1] st P = am_g d X am_m6028 0 [.ref z, .int a0, .int a1] [] st P := am_cg of_6028 (by show 3 ≤ 3; decide)
theorem hd_6028 : am_hd am_m6028 = [] := rfl
theorem u6028_0 {v0 : Value} {v2 : Value} {x : Int32} : am_g d X am_m6028 0 [v0, .int x, v2] sk st Q = am_g d X am_m6028 1 [v0, .int x, v2] (.int x :: sk) st Q := am_gu.trans rfl
theorem u6028_1 {v0 : Value} {v1 : Value} {x : Int32} : am_g d X am_m6028 1 [v0, v1, .int x] sk st Q = am_g d X am_m6028 2 [v0, v1, .int x] (.int x :: sk) st Q := am_gu.trans rfl
theorem u6028_2 {a0 : Value} {a1 : Value} {v0 : Value} {v1 : Value} {v2 : Value} : am_g d X am_m6028 2 [v0, v1, v2] (a1 :: a0 :: sk) st Q = (sk.length ≤ 4 ∧ am_Ca X d 6061 [a0, a1] st (am_af am_m6028 2 [v0, v1, v2] sk (fun pc lc sk st => am_g d X am_m6028 pc lc sk st Q) Q)) := am_gu.trans (propext ⟨fun h => ⟨h.1.2, h.2⟩, fun h => ⟨⟨Nat.le_add_left _ _, h.1⟩, h.2⟩⟩)
theorem u6028_5 {v1 : Value} {v2 : Value} {x : Nat} : am_g d X am_m6028 5 [.ref x, v1, v2] sk st Q = am_g d X am_m6028 6 [.ref x, v1, v2] (.ref x :: sk) st Q := am_gu.trans rfl
theorem u6028_6 {v0 : Value} {v1 : Value} {v2 : Value} : am_g d X am_m6028 6 [v0, v1, v2] sk st Q = am_gt 193 9 [v0, v1, v2] sk st (fun pc lc sk st => am_g d X am_m6028 pc lc sk st Q) := am_gu.trans rfl
theorem u6028_9 {v0 : Value} {v1 : Value} {v2 : Value} : am_g d X am_m6028 9 [v0, v1, v2] sk st Q = am_gt 128 12 [v0, v1, v2] sk st (fun pc lc sk st => am_g d X am_m6028 pc lc sk st Q) := am_gu.trans rfl
theorem u6028_12 {v0 : Value} {v2 : Value} {x : Int32} : am_g d X am_m6028 12 [v0, .int x, v2] sk st Q = am_g d X am_m6028 13 [v0, .int x, v2] (.int x :: sk) st Q := am_gu.trans rfl
theorem u6028_13 {v0 : Value} {v1 : Value} {x : Int32} : am_g d X am_m6028 13 [v0, v1, .int x] sk st Q = am_g d X am_m6028 14 [v0, v1, .int x] (.int x :: sk) st Q := am_gu.trans rfl
theorem u6028_14 {a0 : Value} {a1 : Value} {v0 : Value} {v1 : Value} {v2 : Value} : am_g d X am_m6028 14 [v0, v1, v2] (a1 :: a0 :: sk) st Q = (sk.length ≤ 4 ∧ am_Ca X d 6060 [a0, a1] st (am_af am_m6028 14 [v0, v1, v2] sk (fun pc lc sk st => am_g d X am_m6028 pc lc sk st Q) Q)) := am_gu.trans (propext ⟨fun h => ⟨h.1.2, h.2⟩, fun h => ⟨⟨Nat.le_add_left _ _, h.1⟩, h.2⟩⟩)
theorem u6028_17 {a0 : Value} {v0 : Value} {v1 : Value} {v2 : Value} : am_g d X am_m6028 17 [v0, v1, v2] (a0 :: .ref o :: sk) st Q = ((am_ob st o 5 ∧ sk.length ≤ 5) ∧ am_Ca X d 5023 [.ref o, a0] st (am_af am_m6028 17 [v0, v1, v2] sk (fun pc lc sk st => am_g d X am_m6028 pc lc sk st Q) Q)) := am_gu.trans rfl
theorem u6028_20 {v0 : Value} {v1 : Value} {v2 : Value} {x : Int32} : am_g d X am_m6028 20 [v0, v1, v2] [.int x] st Q = ((x = 0 ∨ x = 1) ∧ Q (.inl (some (.int x))) st) := am_gu.trans rfl
set_option maxRecDepth 100000 in
theorem of_6029 : am_of 6029 = some am_m6029 := rfl
theorem c6029 {z} {P : am_Q} : am_Ca X (d + 1) 6029 [.ref z] st P = am_g d X am_m6029 0 [.ref z] [] st P := am_cg of_6029 (by show 1 ≤ 1; decide)
theorem hd_6029 : am_hd am_m6029 = [] := rfl
theorem u6029_0 {x : Nat} : am_g d X am_m6029 0 [.ref x] sk st Q = am_g d X am_m6029 1 [.ref x] (.ref x :: sk) st Q := am_gu.trans rfl
theorem u6029_1 {v0 : Value} : am_g d X am_m6029 1 [v0] sk st Q = am_gt 193 4 [v0] sk st (fun pc lc sk st => am_g d X am_m6029 pc lc sk st Q) := am_gu.trans rfl
theorem u6029_4 {v0 : Value} : am_g d X am_m6029 4 [v0] sk st Q = am_gt 128 7 [v0] sk st (fun pc lc sk st => am_g d X am_m6029 pc lc sk st Q) := am_gu.trans rfl
theorem u6029_7 {v0 : Value} : am_g d X am_m6029 7 [v0] (.ref o :: sk) st Q = ((am_ob st o 5 ∧ sk.length ≤ 5) ∧ am_Ca X d 5024 [.ref o] st (am_af am_m6029 7 [v0] sk (fun pc lc sk st => am_g d X am_m6029 pc lc sk st Q) Q)) := am_gu.trans rfl
theorem u6029_10 {v0 : Value} {x : Int32} : am_g d X am_m6029 10 [v0] [.int x] st Q = Q (.inl (some (.int x))) st := am_gu.trans rfl
set_option maxRecDepth 100000 in
theorem of_6030 : am_of 6030 = some am_m6030 := rfl
theorem c6030 {z a0 a1 a2} {P : am_Q} : am_Ca X (d + 1) 6030 [.ref z, .int a0, .int a1, .int a2] st P = am_g d X am_m6030 0 [.ref z, .int a0, .int a1, .int a2] [] st P := am_cg of_6030 (by show 4 ≤ 4; decide)
theorem hd_6030 : am_hd am_m6030 = [] := rfl
theorem u6030_0 {v1 : Value} {v2 : Value} {v3 : Value} {x : Nat} : am_g d X am_m6030 0 [.ref x, v1, v2, v3] sk st Q = am_g d X am_m6030 1 [.ref x, v1, v2, v3] (.ref x :: sk) st Q := am_gu.trans rfl
theorem u6030_1 {v0 : Value} {v2 : Value} {v3 : Value} {x : Int32} : am_g d X am_m6030 1 [v0, .int x, v2, v3] sk st Q = am_g d X am_m6030 2 [v0, .int x, v2, v3] (.int x :: sk) st Q := am_gu.trans rfl
theorem u6030_2 {a0 : Value} {v0 : Value} {v1 : Value} {v2 : Value} {v3 : Value} : am_g d X am_m6030 2 [v0, v1, v2, v3] (a0 :: .ref o :: sk) st Q = ((am_ob st o 6 ∧ sk.length ≤ 5) ∧ am_Ca X d 6064 [.ref o, a0] st (am_af am_m6030 2 [v0, v1, v2, v3] sk (fun pc lc sk st => am_g d X am_m6030 pc lc sk st Q) Q)) := am_gu.trans rfl
theorem u6030_5 {v0 : Value} {v1 : Value} {v3 : Value} {x : Int32} : am_g d X am_m6030 5 [v0, v1, .int x, v3] sk st Q = am_g d X am_m6030 6 [v0, v1, .int x, v3] (.int x :: sk) st Q := am_gu.trans rfl
theorem u6030_6 {v0 : Value} {v1 : Value} {v2 : Value} {x : Int32} : am_g d X am_m6030 6 [v0, v1, v2, .int x] sk st Q = am_g d X am_m6030 7 [v0, v1, v2, .int x] (.int x :: sk) st Q := am_gu.trans rfl
theorem u6030_7 {a0 : Value} {a1 : Value} {v0 : Value} {v1 : Value} {v2 : Value} {v3 : Value} : am_g d X am_m6030 7 [v0, v1, v2, v3] (a1 :: a0 :: sk) st Q = (sk.length ≤ 4 ∧ am_Ca X d 6061 [a0, a1] st (am_af am_m6030 7 [v0, v1, v2, v3] sk (fun pc lc sk st => am_g d X am_m6030 pc lc sk st Q) Q)) := am_gu.trans (propext ⟨fun h => ⟨h.1.2, h.2⟩, fun h => ⟨⟨Nat.le_add_left _ _, h.1⟩, h.2⟩⟩)
theorem u6030_10 {v1 : Value} {v2 : Value} {v3 : Value} {x : Nat} : am_g d X am_m6030 10 [.ref x, v1, v2, v3] sk st Q = am_g d X am_m6030 11 [.ref x, v1, v2, v3] (.ref x :: sk) st Q := am_gu.trans rfl
theorem u6030_11 {v0 : Value} {v1 : Value} {v2 : Value} {v3 : Value} : am_g d X am_m6030 11 [v0, v1, v2, v3] sk st Q = am_gt 193 14 [v0, v1, v2, v3] sk st (fun pc lc sk st => am_g d X am_m6030 pc lc sk st Q) := am_gu.trans rfl
theorem u6030_14 {v0 : Value} {v1 : Value} {v2 : Value} {v3 : Value} : am_g d X am_m6030 14 [v0, v1, v2, v3] sk st Q = am_gt 128 17 [v0, v1, v2, v3] sk st (fun pc lc sk st => am_g d X am_m6030 pc lc sk st Q) := am_gu.trans rfl
theorem u6030_17 {v0 : Value} {v2 : Value} {v3 : Value} {x : Int32} : am_g d X am_m6030 17 [v0, .int x, v2, v3] sk st Q = am_g d X am_m6030 18 [v0, .int x, v2, v3] (.int x :: sk) st Q := am_gu.trans rfl
theorem u6030_18 {v0 : Value} {v1 : Value} {v3 : Value} {x : Int32} : am_g d X am_m6030 18 [v0, v1, .int x, v3] sk st Q = am_g d X am_m6030 19 [v0, v1, .int x, v3] (.int x :: sk) st Q := am_gu.trans rfl
theorem u6030_19 {v0 : Value} {v1 : Value} {v2 : Value} {x : Int32} : am_g d X am_m6030 19 [v0, v1, v2, .int x] sk st Q = am_g d X am_m6030 20 [v0, v1, v2, .int x] (.int x :: sk) st Q := am_gu.trans rfl
theorem u6030_20 {a0 : Value} {a1 : Value} {v0 : Value} {v1 : Value} {v2 : Value} {v3 : Value} : am_g d X am_m6030 20 [v0, v1, v2, v3] (a1 :: a0 :: sk) st Q = (sk.length ≤ 4 ∧ am_Ca X d 6060 [a0, a1] st (am_af am_m6030 20 [v0, v1, v2, v3] sk (fun pc lc sk st => am_g d X am_m6030 pc lc sk st Q) Q)) := am_gu.trans (propext ⟨fun h => ⟨h.1.2, h.2⟩, fun h => ⟨⟨Nat.le_add_left _ _, h.1⟩, h.2⟩⟩)
theorem u6030_23 {a0 : Value} {a1 : Value} {v0 : Value} {v1 : Value} {v2 : Value} {v3 : Value} : am_g d X am_m6030 23 [v0, v1, v2, v3] (a1 :: a0 :: .ref o :: sk) st Q = ((am_ob st o 5 ∧ sk.length ≤ 5) ∧ am_Ca X d 5007 [.ref o, a0, a1] st (am_af am_m6030 23 [v0, v1, v2, v3] sk (fun pc lc sk st => am_g d X am_m6030 pc lc sk st Q) Q)) := am_gu.trans rfl
theorem u6030_26 {v0 : Value} {v1 : Value} {v2 : Value} {v3 : Value} {x : Int32} : am_g d X am_m6030 26 [v0, v1, v2, v3] [.int x] st Q = Q (.inl (some (.int x))) st := am_gu.trans rfl
set_option maxRecDepth 100000 in
theorem of_6031 : am_of 6031 = some am_m6031 := rfl
theorem c6031 {z a0 a1} {P : am_Q} : am_Ca X (d + 1) 6031 [.ref z, .int a0, .int a1] st P = am_g d X am_m6031 0 [.ref z, .int a0, .int a1] [] st P := am_cg of_6031 (by show 3 ≤ 3; decide)
theorem hd_6031 : am_hd am_m6031 = [] := rfl
theorem u6031_0 {v1 : Value} {v2 : Value} {x : Nat} : am_g d X am_m6031 0 [.ref x, v1, v2] sk st Q = am_g d X am_m6031 1 [.ref x, v1, v2] (.ref x :: sk) st Q := am_gu.trans rfl
theorem u6031_1 {v0 : Value} {v2 : Value} {x : Int32} : am_g d X am_m6031 1 [v0, .int x, v2] sk st Q = am_g d X am_m6031 2 [v0, .int x, v2] (.int x :: sk) st Q := am_gu.trans rfl
theorem u6031_2 {a0 : Value} {v0 : Value} {v1 : Value} {v2 : Value} : am_g d X am_m6031 2 [v0, v1, v2] (a0 :: .ref o :: sk) st Q = ((am_ob st o 6 ∧ sk.length ≤ 5) ∧ am_Ca X d 6064 [.ref o, a0] st (am_af am_m6031 2 [v0, v1, v2] sk (fun pc lc sk st => am_g d X am_m6031 pc lc sk st Q) Q)) := am_gu.trans rfl
theorem u6031_5 {v1 : Value} {v2 : Value} {x : Nat} : am_g d X am_m6031 5 [.ref x, v1, v2] sk st Q = am_g d X am_m6031 6 [.ref x, v1, v2] (.ref x :: sk) st Q := am_gu.trans rfl
theorem u6031_6 {v0 : Value} {v1 : Value} {x : Int32} : am_g d X am_m6031 6 [v0, v1, .int x] sk st Q = am_g d X am_m6031 7 [v0, v1, .int x] (.int x :: sk) st Q := am_gu.trans rfl
theorem u6031_7 {a0 : Value} {v0 : Value} {v1 : Value} {v2 : Value} : am_g d X am_m6031 7 [v0, v1, v2] (a0 :: .ref o :: sk) st Q = ((am_ob st o 6 ∧ sk.length ≤ 5) ∧ am_Ca X d 6064 [.ref o, a0] st (am_af am_m6031 7 [v0, v1, v2] sk (fun pc lc sk st => am_g d X am_m6031 pc lc sk st Q) Q)) := am_gu.trans rfl
theorem u6031_10 {v1 : Value} {v2 : Value} {x : Nat} : am_g d X am_m6031 10 [.ref x, v1, v2] sk st Q = am_g d X am_m6031 11 [.ref x, v1, v2] (.ref x :: sk) st Q := am_gu.trans rfl
theorem u6031_11 {v0 : Value} {v1 : Value} {v2 : Value} : am_g d X am_m6031 11 [v0, v1, v2] sk st Q = am_gt 193 14 [v0, v1, v2] sk st (fun pc lc sk st => am_g d X am_m6031 pc lc sk st Q) := am_gu.trans rfl
theorem u6031_14 {v0 : Value} {v1 : Value} {v2 : Value} : am_g d X am_m6031 14 [v0, v1, v2] sk st Q = am_gt 128 17 [v0, v1, v2] sk st (fun pc lc sk st => am_g d X am_m6031 pc lc sk st Q) := am_gu.trans rfl
theorem u6031_17 {v0 : Value} {v2 : Value} {x : Int32} : am_g d X am_m6031 17 [v0, .int x, v2] sk st Q = am_g d X am_m6031 18 [v0, .int x, v2] (.int x :: sk) st Q := am_gu.trans rfl
theorem u6031_18 {v0 : Value} {v1 : Value} {x : Int32} : am_g d X am_m6031 18 [v0, v1, .int x] sk st Q = am_g d X am_m6031 19 [v0, v1, .int x] (.int x :: sk) st Q := am_gu.trans rfl
theorem u6031_19 {a0 : Value} {a1 : Value} {v0 : Value} {v1 : Value} {v2 : Value} : am_g d X am_m6031 19 [v0, v1, v2] (a1 :: a0 :: .ref o :: sk) st Q = ((am_ob st o 5 ∧ sk.length ≤ 5) ∧ am_Ca X d 5009 [.ref o, a0, a1] st (am_af am_m6031 19 [v0, v1, v2] sk (fun pc lc sk st => am_g d X am_m6031 pc lc sk st Q) Q)) := am_gu.trans rfl
theorem u6031_22 {v0 : Value} {v1 : Value} {v2 : Value} {x : Int32} : am_g d X am_m6031 22 [v0, v1, v2] [.int x] st Q = Q (.inl (some (.int x))) st := am_gu.trans rfl
set_option maxRecDepth 100000 in
theorem of_6032 : am_of 6032 = some am_m6032 := rfl
theorem c6032 {z a0 a1 a2} {P : am_Q} : am_Ca X (d + 1) 6032 [.ref z, .int a0, .int a1, .int a2] st P = am_g d X am_m6032 0 [.ref z, .int a0, .int a1, .int a2] [] st P := am_cg of_6032 (by show 4 ≤ 4; decide)
theorem hd_6032 : am_hd am_m6032 = [] := rfl
theorem u6032_0 {v1 : Value} {v2 : Value} {v3 : Value} {x : Nat} : am_g d X am_m6032 0 [.ref x, v1, v2, v3] sk st Q = am_g d X am_m6032 1 [.ref x, v1, v2, v3] (.ref x :: sk) st Q := am_gu.trans rfl
theorem u6032_1 {v0 : Value} {v2 : Value} {v3 : Value} {x : Int32} : am_g d X am_m6032 1 [v0, .int x, v2, v3] sk st Q = am_g d X am_m6032 2 [v0, .int x, v2, v3] (.int x :: sk) st Q := am_gu.trans rfl
theorem u6032_2 {a0 : Value} {v0 : Value} {v1 : Value} {v2 : Value} {v3 : Value} : am_g d X am_m6032 2 [v0, v1, v2, v3] (a0 :: .ref o :: sk) st Q = ((am_ob st o 6 ∧ sk.length ≤ 5) ∧ am_Ca X d 6064 [.ref o, a0] st (am_af am_m6032 2 [v0, v1, v2, v3] sk (fun pc lc sk st => am_g d X am_m6032 pc lc sk st Q) Q)) := am_gu.trans rfl
theorem u6032_5 {v0 : Value} {v1 : Value} {v3 : Value} {x : Int32} : am_g d X am_m6032 5 [v0, v1, .int x, v3] sk st Q = am_g d X am_m6032 6 [v0, v1, .int x, v3] (.int x :: sk) st Q := am_gu.trans rfl
theorem u6032_6 {v0 : Value} {v1 : Value} {v2 : Value} {x : Int32} : am_g d X am_m6032 6 [v0, v1, v2, .int x] sk st Q = am_g d X am_m6032 7 [v0, v1, v2, .int x] (.int x :: sk) st Q := am_gu.trans rfl
theorem u6032_7 {a0 : Value} {a1 : Value} {v0 : Value} {v1 : Value} {v2 : Value} {v3 : Value} : am_g d X am_m6032 7 [v0, v1, v2, v3] (a1 :: a0 :: sk) st Q = (sk.length ≤ 4 ∧ am_Ca X d 6061 [a0, a1] st (am_af am_m6032 7 [v0, v1, v2, v3] sk (fun pc lc sk st => am_g d X am_m6032 pc lc sk st Q) Q)) := am_gu.trans (propext ⟨fun h => ⟨h.1.2, h.2⟩, fun h => ⟨⟨Nat.le_add_left _ _, h.1⟩, h.2⟩⟩)
theorem u6032_10 {v1 : Value} {v2 : Value} {v3 : Value} {x : Nat} : am_g d X am_m6032 10 [.ref x, v1, v2, v3] sk st Q = am_g d X am_m6032 11 [.ref x, v1, v2, v3] (.ref x :: sk) st Q := am_gu.trans rfl
theorem u6032_11 {v0 : Value} {v1 : Value} {v2 : Value} {v3 : Value} : am_g d X am_m6032 11 [v0, v1, v2, v3] sk st Q = am_gt 193 14 [v0, v1, v2, v3] sk st (fun pc lc sk st => am_g d X am_m6032 pc lc sk st Q) := am_gu.trans rfl
theorem u6032_14 {v0 : Value} {v1 : Value} {v2 : Value} {v3 : Value} : am_g d X am_m6032 14 [v0, v1, v2, v3] sk st Q = am_gt 128 17 [v0, v1, v2, v3] sk st (fun pc lc sk st => am_g d X am_m6032 pc lc sk st Q) := am_gu.trans rfl
theorem u6032_17 {v0 : Value} {v2 : Value} {v3 : Value} {x : Int32} : am_g d X am_m6032 17 [v0, .int x, v2, v3] sk st Q = am_g d X am_m6032 18 [v0, .int x, v2, v3] (.int x :: sk) st Q := am_gu.trans rfl
theorem u6032_18 {v0 : Value} {v1 : Value} {v3 : Value} {x : Int32} : am_g d X am_m6032 18 [v0, v1, .int x, v3] sk st Q = am_g d X am_m6032 19 [v0, v1, .int x, v3] (.int x :: sk) st Q := am_gu.trans rfl
theorem u6032_19 {v0 : Value} {v1 : Value} {v2 : Value} {x : Int32} : am_g d X am_m6032 19 [v0, v1, v2, .int x] sk st Q = am_g d X am_m6032 20 [v0, v1, v2, .int x] (.int x :: sk) st Q := am_gu.trans rfl
theorem u6032_20 {a0 : Value} {a1 : Value} {v0 : Value} {v1 : Value} {v2 : Value} {v3 : Value} : am_g d X am_m6032 20 [v0, v1, v2, v3] (a1 :: a0 :: sk) st Q = (sk.length ≤ 4 ∧ am_Ca X d 6060 [a0, a1] st (am_af am_m6032 20 [v0, v1, v2, v3] sk (fun pc lc sk st => am_g d X am_m6032 pc lc sk st Q) Q)) := am_gu.trans (propext ⟨fun h => ⟨h.1.2, h.2⟩, fun h => ⟨⟨Nat.le_add_left _ _, h.1⟩, h.2⟩⟩)
theorem u6032_23 {a0 : Value} {a1 : Value} {v0 : Value} {v1 : Value} {v2 : Value} {v3 : Value} : am_g d X am_m6032 23 [v0, v1, v2, v3] (a1 :: a0 :: .ref o :: sk) st Q = ((am_ob st o 5 ∧ sk.length ≤ 5) ∧ am_Ca X d 5011 [.ref o, a0, a1] st (am_af am_m6032 23 [v0, v1, v2, v3] sk (fun pc lc sk st => am_g d X am_m6032 pc lc sk st Q) Q)) := am_gu.trans rfl
theorem u6032_26 {v0 : Value} {v1 : Value} {v2 : Value} {v3 : Value} {x : Int32} : am_g d X am_m6032 26 [v0, v1, v2, v3] [.int x] st Q = Q (.inl (some (.int x))) st := am_gu.trans rfl
set_option maxRecDepth 100000 in
theorem of_6033 : am_of 6033 = some am_m6033 := rfl
theorem c6033 {z a0 a1 a2 a3} {P : am_Q} : am_Ca X (d + 1) 6033 [.ref z, .int a0, .int a1, .int a2, .int a3] st P = am_g d X am_m6033 0 [.ref z, .int a0, .int a1, .int a2, .int a3] [] st P := am_cg of_6033 (by show 5 ≤ 5; decide)
theorem hd_6033 : am_hd am_m6033 = [] := rfl
theorem u6033_0 {v1 : Value} {v2 : Value} {v3 : Value} {v4 : Value} {x : Nat} : am_g d X am_m6033 0 [.ref x, v1, v2, v3, v4] sk st Q = am_g d X am_m6033 1 [.ref x, v1, v2, v3, v4] (.ref x :: sk) st Q := am_gu.trans rfl
theorem u6033_1 {v0 : Value} {v2 : Value} {v3 : Value} {v4 : Value} {x : Int32} : am_g d X am_m6033 1 [v0, .int x, v2, v3, v4] sk st Q = am_g d X am_m6033 2 [v0, .int x, v2, v3, v4] (.int x :: sk) st Q := am_gu.trans rfl
theorem u6033_2 {a0 : Value} {v0 : Value} {v1 : Value} {v2 : Value} {v3 : Value} {v4 : Value} : am_g d X am_m6033 2 [v0, v1, v2, v3, v4] (a0 :: .ref o :: sk) st Q = ((am_ob st o 6 ∧ sk.length ≤ 5) ∧ am_Ca X d 6064 [.ref o, a0] st (am_af am_m6033 2 [v0, v1, v2, v3, v4] sk (fun pc lc sk st => am_g d X am_m6033 pc lc sk st Q) Q)) := am_gu.trans rfl
theorem u6033_5 {v0 : Value} {v1 : Value} {v3 : Value} {v4 : Value} {x : Int32} : am_g d X am_m6033 5 [v0, v1, .int x, v3, v4] sk st Q = am_g d X am_m6033 6 [v0, v1, .int x, v3, v4] (.int x :: sk) st Q := am_gu.trans rfl
theorem u6033_6 {v0 : Value} {v1 : Value} {v2 : Value} {v4 : Value} {x : Int32} : am_g d X am_m6033 6 [v0, v1, v2, .int x, v4] sk st Q = am_g d X am_m6033 7 [v0, v1, v2, .int x, v4] (.int x :: sk) st Q := am_gu.trans rfl
theorem u6033_7 {a0 : Value} {a1 : Value} {v0 : Value} {v1 : Value} {v2 : Value} {v3 : Value} {v4 : Value} : am_g d X am_m6033 7 [v0, v1, v2, v3, v4] (a1 :: a0 :: sk) st Q = (sk.length ≤ 4 ∧ am_Ca X d 6061 [a0, a1] st (am_af am_m6033 7 [v0, v1, v2, v3, v4] sk (fun pc lc sk st => am_g d X am_m6033 pc lc sk st Q) Q)) := am_gu.trans (propext ⟨fun h => ⟨h.1.2, h.2⟩, fun h => ⟨⟨Nat.le_add_left _ _, h.1⟩, h.2⟩⟩)
theorem u6033_10 {v1 : Value} {v2 : Value} {v3 : Value} {v4 : Value} {x : Nat} : am_g d X am_m6033 10 [.ref x, v1, v2, v3, v4] sk st Q = am_g d X am_m6033 11 [.ref x, v1, v2, v3, v4] (.ref x :: sk) st Q := am_gu.trans rfl
theorem u6033_11 {v0 : Value} {v1 : Value} {v2 : Value} {v3 : Value} {v4 : Value} : am_g d X am_m6033 11 [v0, v1, v2, v3, v4] sk st Q = am_gt 193 14 [v0, v1, v2, v3, v4] sk st (fun pc lc sk st => am_g d X am_m6033 pc lc sk st Q) := am_gu.trans rfl
theorem u6033_14 {v0 : Value} {v1 : Value} {v2 : Value} {v3 : Value} {v4 : Value} : am_g d X am_m6033 14 [v0, v1, v2, v3, v4] sk st Q = am_gt 129 17 [v0, v1, v2, v3, v4] sk st (fun pc lc sk st => am_g d X am_m6033 pc lc sk st Q) := am_gu.trans rfl
theorem u6033_17 {v1 : Value} {v2 : Value} {v3 : Value} {v4 : Value} {x : Nat} : am_g d X am_m6033 17 [.ref x, v1, v2, v3, v4] sk st Q = am_g d X am_m6033 18 [.ref x, v1, v2, v3, v4] (.ref x :: sk) st Q := am_gu.trans rfl
theorem u6033_18 {v0 : Value} {v1 : Value} {v2 : Value} {v3 : Value} {v4 : Value} : am_g d X am_m6033 18 [v0, v1, v2, v3, v4] sk st Q = am_gt 193 21 [v0, v1, v2, v3, v4] sk st (fun pc lc sk st => am_g d X am_m6033 pc lc sk st Q) := am_gu.trans rfl
theorem u6033_21 {v0 : Value} {v1 : Value} {v2 : Value} {v3 : Value} {v4 : Value} : am_g d X am_m6033 21 [v0, v1, v2, v3, v4] sk st Q = am_gt 128 24 [v0, v1, v2, v3, v4] sk st (fun pc lc sk st => am_g d X am_m6033 pc lc sk st Q) := am_gu.trans rfl
theorem u6033_24 {v0 : Value} {v2 : Value} {v3 : Value} {v4 : Value} {x : Int32} : am_g d X am_m6033 24 [v0, .int x, v2, v3, v4] sk st Q = am_g d X am_m6033 25 [v0, .int x, v2, v3, v4] (.int x :: sk) st Q := am_gu.trans rfl
theorem u6033_25 {v0 : Value} {v1 : Value} {v3 : Value} {v4 : Value} {x : Int32} : am_g d X am_m6033 25 [v0, v1, .int x, v3, v4] sk st Q = am_g d X am_m6033 26 [v0, v1, .int x, v3, v4] (.int x :: sk) st Q := am_gu.trans rfl
theorem u6033_26 {v0 : Value} {v1 : Value} {v2 : Value} {v4 : Value} {x : Int32} : am_g d X am_m6033 26 [v0, v1, v2, .int x, v4] sk st Q = am_g d X am_m6033 27 [v0, v1, v2, .int x, v4] (.int x :: sk) st Q := am_gu.trans rfl
theorem u6033_27 {a0 : Value} {a1 : Value} {v0 : Value} {v1 : Value} {v2 : Value} {v3 : Value} {v4 : Value} : am_g d X am_m6033 27 [v0, v1, v2, v3, v4] (a1 :: a0 :: sk) st Q = (sk.length ≤ 4 ∧ am_Ca X d 6060 [a0, a1] st (am_af am_m6033 27 [v0, v1, v2, v3, v4] sk (fun pc lc sk st => am_g d X am_m6033 pc lc sk st Q) Q)) := am_gu.trans (propext ⟨fun h => ⟨h.1.2, h.2⟩, fun h => ⟨⟨Nat.le_add_left _ _, h.1⟩, h.2⟩⟩)
theorem u6033_30 {v0 : Value} {v1 : Value} {v2 : Value} {v3 : Value} {x : Int32} : am_g d X am_m6033 30 [v0, v1, v2, v3, .int x] sk st Q = am_g d X am_m6033 32 [v0, v1, v2, v3, .int x] (.int x :: sk) st Q := am_gu.trans rfl
theorem u6033_32 {a0 : Value} {a1 : Value} {a2 : Value} {a3 : Value} {v0 : Value} {v1 : Value} {v2 : Value} {v3 : Value} {v4 : Value} : am_g d X am_m6033 32 [v0, v1, v2, v3, v4] (a3 :: a2 :: a1 :: a0 :: .ref o :: sk) st Q = ((am_ob st o 1 ∧ sk.length ≤ 5) ∧ am_Ca X d 1005 [.ref o, a0, a1, a2, a3] st (am_af am_m6033 32 [v0, v1, v2, v3, v4] sk (fun pc lc sk st => am_g d X am_m6033 pc lc sk st Q) Q)) := am_gu.trans rfl
theorem u6033_35 {v0 : Value} {v1 : Value} {v2 : Value} {v3 : Value} {v4 : Value} {x : Int32} : am_g d X am_m6033 35 [v0, v1, v2, v3, v4] [.int x] st Q = Q (.inl (some (.int x))) st := am_gu.trans rfl
set_option maxRecDepth 100000 in
theorem of_6034 : am_of 6034 = some am_m6034 := rfl
theorem c6034 {z} {P : am_Q} : am_Ca X (d + 1) 6034 [.ref z] st P = am_g d X am_m6034 0 [.ref z] [] st P := am_cg of_6034 (by show 1 ≤ 1; decide)
theorem hd_6034 : am_hd am_m6034 = [] := rfl
theorem u6034_0 {x : Nat} : am_g d X am_m6034 0 [.ref x] sk st Q = am_g d X am_m6034 1 [.ref x] (.ref x :: sk) st Q := am_gu.trans rfl
theorem u6034_1 {v0 : Value} : am_g d X am_m6034 1 [v0] sk st Q = am_gt 193 4 [v0] sk st (fun pc lc sk st => am_g d X am_m6034 pc lc sk st Q) := am_gu.trans rfl
theorem u6034_4 {v0 : Value} : am_g d X am_m6034 4 [v0] sk st Q = am_gt 128 7 [v0] sk st (fun pc lc sk st => am_g d X am_m6034 pc lc sk st Q) := am_gu.trans rfl
theorem u6034_7 {v0 : Value} : am_g d X am_m6034 7 [v0] (.ref o :: sk) st Q = ((am_ob st o 5 ∧ sk.length ≤ 5) ∧ am_Ca X d 5025 [.ref o] st (am_af am_m6034 7 [v0] sk (fun pc lc sk st => am_g d X am_m6034 pc lc sk st Q) Q)) := am_gu.trans rfl
theorem u6034_10 {v0 : Value} {x : Int32} : am_g d X am_m6034 10 [v0] (.int x :: sk) st Q = am_g d X am_m6034 11 [v0] (.double (FP.i2d x) :: sk) st Q := am_gu.trans rfl
theorem u6034_11 {v0 : Value} : am_g d X am_m6034 11 [v0] sk st Q = am_g d X am_m6034 14 [v0] (.double (UInt64.ofNat 4627448617123184640) :: sk) st Q := am_gu.trans rfl
theorem u6034_14 {v0 : Value} {x : UInt64} {y : UInt64} : am_g d X am_m6034 14 [v0] (.double y :: .double x :: sk) st Q = (vf_n64 (FP.ddiv x y) ∧ am_g d X am_m6034 15 [v0] (.double (FP.ddiv x y) :: sk) st Q) := am_gu.trans rfl
theorem u6034_15 {v0 : Value} {x : UInt64} : am_g d X am_m6034 15 [v0] [.double x] st Q = Q (.inl (some (.double x))) st := am_gu.trans rfl
set_option maxRecDepth 100000 in
theorem of_6035 : am_of 6035 = some am_m6035 := rfl
theorem c6035 {z} {P : am_Q} : am_Ca X (d + 1) 6035 [.ref z] st P = am_g d X am_m6035 0 [.ref z] [] st P := am_cg of_6035 (by show 1 ≤ 1; decide)
theorem hd_6035 : am_hd am_m6035 = [] := rfl
theorem u6035_0 {x : Nat} : am_g d X am_m6035 0 [.ref x] sk st Q = am_g d X am_m6035 1 [.ref x] (.ref x :: sk) st Q := am_gu.trans rfl
theorem u6035_1 {v0 : Value} : am_g d X am_m6035 1 [v0] sk st Q = am_gt 193 4 [v0] sk st (fun pc lc sk st => am_g d X am_m6035 pc lc sk st Q) := am_gu.trans rfl
theorem u6035_4 {v0 : Value} : am_g d X am_m6035 4 [v0] sk st Q = am_gt 128 7 [v0] sk st (fun pc lc sk st => am_g d X am_m6035 pc lc sk st Q) := am_gu.trans rfl
theorem u6035_7 {v0 : Value} : am_g d X am_m6035 7 [v0] sk st Q = am_gt 160 10 [v0] sk st (fun pc lc sk st => am_g d X am_m6035 pc lc sk st Q) := am_gu.trans rfl
theorem u6035_10 {v0 : Value} {x : Int32} : am_g d X am_m6035 10 [v0] [.int x] st Q = Q (.inl (some (.int x))) st := am_gu.trans rfl
set_option maxRecDepth 100000 in
theorem of_6036 : am_of 6036 = some am_m6036 := rfl
theorem c6036 {z a0} {P : am_Q} : am_Ca X (d + 1) 6036 [.ref z, .int a0] st P = am_g d X am_m6036 0 [.ref z, .int a0] [] st P := am_cg of_6036 (by show 2 ≤ 2; decide)
theorem hd_6036 : am_hd am_m6036 = [] := rfl
theorem u6036_0 {v1 : Value} {x : Nat} : am_g d X am_m6036 0 [.ref x, v1] sk st Q = am_g d X am_m6036 1 [.ref x, v1] (.ref x :: sk) st Q := am_gu.trans rfl
theorem u6036_1 {v0 : Value} {x : Int32} : am_g d X am_m6036 1 [v0, .int x] sk st Q = am_g d X am_m6036 2 [v0, .int x] (.int x :: sk) st Q := am_gu.trans rfl
theorem u6036_2 {a0 : Value} {v0 : Value} {v1 : Value} : am_g d X am_m6036 2 [v0, v1] (a0 :: .ref o :: sk) st Q = ((am_ob st o 6 ∧ sk.length ≤ 5) ∧ am_Ca X d 6064 [.ref o, a0] st (am_af am_m6036 2 [v0, v1] sk (fun pc lc sk st => am_g d X am_m6036 pc lc sk st Q) Q)) := am_gu.trans rfl
theorem u6036_5 {v1 : Value} {x : Nat} : am_g d X am_m6036 5 [.ref x, v1] sk st Q = am_g d X am_m6036 6 [.ref x, v1] (.ref x :: sk) st Q := am_gu.trans rfl
theorem u6036_6 {v0 : Value} {v1 : Value} : am_g d X am_m6036 6 [v0, v1] sk st Q = am_gt 193 9 [v0, v1] sk st (fun pc lc sk st => am_g d X am_m6036 pc lc sk st Q) := am_gu.trans rfl
theorem u6036_9 {v0 : Value} {v1 : Value} : am_g d X am_m6036 9 [v0, v1] sk st Q = am_gt 128 12 [v0, v1] sk st (fun pc lc sk st => am_g d X am_m6036 pc lc sk st Q) := am_gu.trans rfl
theorem u6036_12 {v0 : Value} {x : Int32} : am_g d X am_m6036 12 [v0, .int x] sk st Q = am_g d X am_m6036 13 [v0, .int x] (.int x :: sk) st Q := am_gu.trans rfl
theorem u6036_13 {a0 : Value} {v0 : Value} {v1 : Value} : am_g d X am_m6036 13 [v0, v1] (a0 :: .ref o :: sk) st Q = ((am_ob st o 5 ∧ sk.length ≤ 5) ∧ am_Ca X d 5005 [.ref o, a0] st (am_af am_m6036 13 [v0, v1] sk (fun pc lc sk st => am_g d X am_m6036 pc lc sk st Q) Q)) := am_gu.trans rfl
theorem u6036_16 {v0 : Value} {v1 : Value} {x : Int32} : am_g d X am_m6036 16 [v0, v1] [.int x] st Q = Q (.inl (some (.int x))) st := am_gu.trans rfl
set_option maxRecDepth 100000 in
theorem of_6037 : am_of 6037 = some am_m6037 := rfl
theorem c6037 {z a0} {P : am_Q} : am_Ca X (d + 1) 6037 [.ref z, .int a0] st P = am_g d X am_m6037 0 [.ref z, .int a0] [] st P := am_cg of_6037 (by show 2 ≤ 2; decide)
theorem hd_6037 : am_hd am_m6037 = [] := rfl
theorem u6037_0 {v1 : Value} {x : Nat} : am_g d X am_m6037 0 [.ref x, v1] sk st Q = am_g d X am_m6037 1 [.ref x, v1] (.ref x :: sk) st Q := am_gu.trans rfl
theorem u6037_1 {v0 : Value} {x : Int32} : am_g d X am_m6037 1 [v0, .int x] sk st Q = am_g d X am_m6037 2 [v0, .int x] (.int x :: sk) st Q := am_gu.trans rfl
theorem u6037_2 {a0 : Value} {v0 : Value} {v1 : Value} : am_g d X am_m6037 2 [v0, v1] (a0 :: .ref o :: sk) st Q = ((am_ob st o 6 ∧ sk.length ≤ 5) ∧ am_Ca X d 6064 [.ref o, a0] st (am_af am_m6037 2 [v0, v1] sk (fun pc lc sk st => am_g d X am_m6037 pc lc sk st Q) Q)) := am_gu.trans rfl
theorem u6037_5 {v1 : Value} {x : Nat} : am_g d X am_m6037 5 [.ref x, v1] sk st Q = am_g d X am_m6037 6 [.ref x, v1] (.ref x :: sk) st Q := am_gu.trans rfl
theorem u6037_6 {v0 : Value} {v1 : Value} : am_g d X am_m6037 6 [v0, v1] sk st Q = am_gt 193 9 [v0, v1] sk st (fun pc lc sk st => am_g d X am_m6037 pc lc sk st Q) := am_gu.trans rfl
theorem u6037_9 {v0 : Value} {v1 : Value} : am_g d X am_m6037 9 [v0, v1] sk st Q = am_gt 128 12 [v0, v1] sk st (fun pc lc sk st => am_g d X am_m6037 pc lc sk st Q) := am_gu.trans rfl
theorem u6037_12 {v0 : Value} {x : Int32} : am_g d X am_m6037 12 [v0, .int x] sk st Q = am_g d X am_m6037 13 [v0, .int x] (.int x :: sk) st Q := am_gu.trans rfl
theorem u6037_13 {a0 : Value} {v0 : Value} {v1 : Value} : am_g d X am_m6037 13 [v0, v1] (a0 :: .ref o :: sk) st Q = ((am_ob st o 5 ∧ sk.length ≤ 5) ∧ am_Ca X d 5006 [.ref o, a0] st (am_af am_m6037 13 [v0, v1] sk (fun pc lc sk st => am_g d X am_m6037 pc lc sk st Q) Q)) := am_gu.trans rfl
theorem u6037_16 {v0 : Value} {v1 : Value} {x : Int32} : am_g d X am_m6037 16 [v0, v1] [.int x] st Q = Q (.inl (some (.int x))) st := am_gu.trans rfl
set_option maxRecDepth 100000 in
theorem of_6038 : am_of 6038 = some am_m6038 := rfl
theorem c6038 {z} {P : am_Q} : am_Ca X (d + 1) 6038 [.ref z] st P = am_g d X am_m6038 0 [.ref z] [] st P := am_cg of_6038 (by show 1 ≤ 1; decide)
theorem hd_6038 : am_hd am_m6038 = [] := rfl
theorem u6038_0 {x : Nat} : am_g d X am_m6038 0 [.ref x] sk st Q = am_g d X am_m6038 1 [.ref x] (.ref x :: sk) st Q := am_gu.trans rfl
theorem u6038_1 {v0 : Value} : am_g d X am_m6038 1 [v0] sk st Q = am_gt 193 4 [v0] sk st (fun pc lc sk st => am_g d X am_m6038 pc lc sk st Q) := am_gu.trans rfl
theorem u6038_4 {v0 : Value} : am_g d X am_m6038 4 [v0] sk st Q = am_gt 128 7 [v0] sk st (fun pc lc sk st => am_g d X am_m6038 pc lc sk st Q) := am_gu.trans rfl
theorem u6038_7 {v0 : Value} : am_g d X am_m6038 7 [v0] (.ref o :: sk) st Q = ((am_ob st o 5 ∧ sk.length ≤ 5) ∧ am_Ca X d 5017 [.ref o] st (am_af am_m6038 7 [v0] sk (fun pc lc sk st => am_g d X am_m6038 pc lc sk st Q) Q)) := am_gu.trans rfl
theorem u6038_10 {v0 : Value} {x : Int32} : am_g d X am_m6038 10 [v0] [.int x] st Q = Q (.inl (some (.int x))) st := am_gu.trans rfl
set_option maxRecDepth 100000 in
theorem of_6039 : am_of 6039 = some am_m6039 := rfl
theorem c6039 {z a0} {P : am_Q} : am_Ca X (d + 1) 6039 [.ref z, .int a0] st P = am_g d X am_m6039 0 [.ref z, .int a0] [] st P := am_cg of_6039 (by show 2 ≤ 2; decide)
theorem hd_6039 : am_hd am_m6039 = [] := rfl
theorem u6039_0 {v0 : Value} {x : Int32} : am_g d X am_m6039 0 [v0, .int x] sk st Q = am_g d X am_m6039 1 [v0, .int x] (.int x :: sk) st Q := am_gu.trans rfl
theorem u6039_1 {a0 : Value} {v0 : Value} {v1 : Value} : am_g d X am_m6039 1 [v0, v1] (a0 :: sk) st Q = (sk.length ≤ 4 ∧ am_Ca X d 6062 [a0] st (am_af am_m6039 1 [v0, v1] sk (fun pc lc sk st => am_g d X am_m6039 pc lc sk st Q) Q)) := am_gu.trans (propext ⟨fun h => ⟨h.1.2, h.2⟩, fun h => ⟨⟨Nat.le_add_left _ _, h.1⟩, h.2⟩⟩)
theorem u6039_4 {v1 : Value} {x : Nat} : am_g d X am_m6039 4 [.ref x, v1] sk st Q = am_g d X am_m6039 5 [.ref x, v1] (.ref x :: sk) st Q := am_gu.trans rfl
theorem u6039_5 {v0 : Value} {v1 : Value} : am_g d X am_m6039 5 [v0, v1] sk st Q = am_gt 193 8 [v0, v1] sk st (fun pc lc sk st => am_g d X am_m6039 pc lc sk st Q) := am_gu.trans rfl
theorem u6039_8 {v0 : Value} {v1 : Value} : am_g d X am_m6039 8 [v0, v1] sk st Q = am_gt 128 11 [v0, v1] sk st (fun pc lc sk st => am_g d X am_m6039 pc lc sk st Q) := am_gu.trans rfl
theorem u6039_11 {v0 : Value} {x : Int32} : am_g d X am_m6039 11 [v0, .int x] sk st Q = am_g d X am_m6039 12 [v0, .int x] (.int x :: sk) st Q := am_gu.trans rfl
theorem u6039_12 {a0 : Value} {v0 : Value} {v1 : Value} : am_g d X am_m6039 12 [v0, v1] (a0 :: .ref o :: sk) st Q = ((am_ob st o 5 ∧ sk.length ≤ 5) ∧ am_Ca X d 5014 [.ref o, a0] st (am_af am_m6039 12 [v0, v1] sk (fun pc lc sk st => am_g d X am_m6039 pc lc sk st Q) Q)) := am_gu.trans rfl
theorem u6039_15 {v0 : Value} {v1 : Value} {x : Int32} : am_g d X am_m6039 15 [v0, v1] [.int x] st Q = ((x = 0 ∨ x = 1) ∧ Q (.inl (some (.int x))) st) := am_gu.trans rfl
set_option maxRecDepth 100000 in
theorem of_6040 : am_of 6040 = some am_m6040 := rfl
theorem c6040 {z a0} {P : am_Q} : am_Ca X (d + 1) 6040 [.ref z, .int a0] st P = am_g d X am_m6040 0 [.ref z, .int a0] [] st P := am_cg of_6040 (by show 2 ≤ 2; decide)
theorem hd_6040 : am_hd am_m6040 = [] := rfl
theorem u6040_0 {v0 : Value} {x : Int32} : am_g d X am_m6040 0 [v0, .int x] sk st Q = am_g d X am_m6040 1 [v0, .int x] (.int x :: sk) st Q := am_gu.trans rfl
theorem u6040_1 {a0 : Value} {v0 : Value} {v1 : Value} : am_g d X am_m6040 1 [v0, v1] (a0 :: sk) st Q = (sk.length ≤ 4 ∧ am_Ca X d 6062 [a0] st (am_af am_m6040 1 [v0, v1] sk (fun pc lc sk st => am_g d X am_m6040 pc lc sk st Q) Q)) := am_gu.trans (propext ⟨fun h => ⟨h.1.2, h.2⟩, fun h => ⟨⟨Nat.le_add_left _ _, h.1⟩, h.2⟩⟩)
theorem u6040_4 {v1 : Value} {x : Nat} : am_g d X am_m6040 4 [.ref x, v1] sk st Q = am_g d X am_m6040 5 [.ref x, v1] (.ref x :: sk) st Q := am_gu.trans rfl
theorem u6040_5 {v0 : Value} {x : Int32} : am_g d X am_m6040 5 [v0, .int x] sk st Q = am_g d X am_m6040 6 [v0, .int x] (.int x :: sk) st Q := am_gu.trans rfl
theorem u6040_6 {a0 : Value} {v0 : Value} {v1 : Value} : am_g d X am_m6040 6 [v0, v1] (a0 :: .ref o :: sk) st Q = ((am_ob st o 6 ∧ sk.length ≤ 5) ∧ am_Ca X d 6063 [.ref o, a0] st (am_af am_m6040 6 [v0, v1] sk (fun pc lc sk st => am_g d X am_m6040 pc lc sk st Q) Q)) := am_gu.trans rfl
theorem u6040_9 {v1 : Value} {x : Nat} : am_g d X am_m6040 9 [.ref x, v1] sk st Q = am_g d X am_m6040 10 [.ref x, v1] (.ref x :: sk) st Q := am_gu.trans rfl
theorem u6040_10 {v0 : Value} {v1 : Value} : am_g d X am_m6040 10 [v0, v1] sk st Q = am_gt 193 13 [v0, v1] sk st (fun pc lc sk st => am_g d X am_m6040 pc lc sk st Q) := am_gu.trans rfl
theorem u6040_13 {v0 : Value} {v1 : Value} : am_g d X am_m6040 13 [v0, v1] sk st Q = am_gt 128 16 [v0, v1] sk st (fun pc lc sk st => am_g d X am_m6040 pc lc sk st Q) := am_gu.trans rfl
theorem u6040_16 {v0 : Value} {x : Int32} : am_g d X am_m6040 16 [v0, .int x] sk st Q = am_g d X am_m6040 17 [v0, .int x] (.int x :: sk) st Q := am_gu.trans rfl
theorem u6040_17 {a0 : Value} {v0 : Value} {v1 : Value} : am_g d X am_m6040 17 [v0, v1] (a0 :: .ref o :: sk) st Q = ((am_ob st o 5 ∧ sk.length ≤ 5) ∧ am_Ca X d 5015 [.ref o, a0] st (am_af am_m6040 17 [v0, v1] sk (fun pc lc sk st => am_g d X am_m6040 pc lc sk st Q) Q)) := am_gu.trans rfl
theorem u6040_20 {v0 : Value} {v1 : Value} {x : Int32} : am_g d X am_m6040 20 [v0, v1] [.int x] st Q = Q (.inl (some (.int x))) st := am_gu.trans rfl
set_option maxRecDepth 100000 in
theorem of_6041 : am_of 6041 = some am_m6041 := rfl
theorem c6041 {z} {P : am_Q} : am_Ca X (d + 1) 6041 [.ref z] st P = am_g d X am_m6041 0 [.ref z] [] st P := am_cg of_6041 (by show 1 ≤ 1; decide)
theorem hd_6041 : am_hd am_m6041 = [] := rfl
theorem u6041_0 {x : Nat} : am_g d X am_m6041 0 [.ref x] sk st Q = am_g d X am_m6041 1 [.ref x] (.ref x :: sk) st Q := am_gu.trans rfl
theorem u6041_1 {v0 : Value} : am_g d X am_m6041 1 [v0] sk st Q = am_gt 193 4 [v0] sk st (fun pc lc sk st => am_g d X am_m6041 pc lc sk st Q) := am_gu.trans rfl
theorem u6041_4 {v0 : Value} : am_g d X am_m6041 4 [v0] sk st Q = am_gt 128 7 [v0] sk st (fun pc lc sk st => am_g d X am_m6041 pc lc sk st Q) := am_gu.trans rfl
theorem u6041_7 {v0 : Value} : am_g d X am_m6041 7 [v0] sk st Q = am_gt 165 10 [v0] sk st (fun pc lc sk st => am_g d X am_m6041 pc lc sk st Q) := am_gu.trans rfl
theorem u6041_10 {v0 : Value} {x : Int32} : am_g d X am_m6041 10 [v0] [.int x] st Q = Q (.inl (some (.int x))) st := am_gu.trans rfl
set_option maxRecDepth 100000 in
theorem of_6042 : am_of 6042 = some am_m6042 := rfl
theorem c6042 {z} {P : am_Q} : am_Ca X (d + 1) 6042 [.ref z] st P = am_g d X am_m6042 0 [.ref z] [] st P := am_cg of_6042 (by show 1 ≤ 1; decide)
theorem hd_6042 : am_hd am_m6042 = [] := rfl
theorem u6042_0 {x : Nat} : am_g d X am_m6042 0 [.ref x] sk st Q = am_g d X am_m6042 1 [.ref x] (.ref x :: sk) st Q := am_gu.trans rfl
theorem u6042_1 {v0 : Value} : am_g d X am_m6042 1 [v0] sk st Q = am_gt 193 4 [v0] sk st (fun pc lc sk st => am_g d X am_m6042 pc lc sk st Q) := am_gu.trans rfl
theorem u6042_4 {v0 : Value} : am_g d X am_m6042 4 [v0] sk st Q = am_gt 128 7 [v0] sk st (fun pc lc sk st => am_g d X am_m6042 pc lc sk st Q) := am_gu.trans rfl
theorem u6042_7 {v0 : Value} : am_g d X am_m6042 7 [v0] (.ref o :: sk) st Q = ((am_ob st o 5 ∧ sk.length ≤ 5) ∧ am_Ca X d 5016 [.ref o] st (am_af am_m6042 7 [v0] sk (fun pc lc sk st => am_g d X am_m6042 pc lc sk st Q) Q)) := am_gu.trans rfl
theorem u6042_10 {v0 : Value} {x : Int32} : am_g d X am_m6042 10 [v0] [.int x] st Q = Q (.inl (some (.int x))) st := am_gu.trans rfl
set_option maxRecDepth 100000 in
theorem of_6043 : am_of 6043 = some am_m6043 := rfl
theorem c6043 {z} {P : am_Q} : am_Ca X (d + 1) 6043 [.ref z] st P = am_g d X am_m6043 0 [.ref z] [] st P := am_cg of_6043 (by show 1 ≤ 1; decide)
theorem hd_6043 : am_hd am_m6043 = [] := rfl
theorem u6043_0 {x : Nat} : am_g d X am_m6043 0 [.ref x] sk st Q = am_g d X am_m6043 1 [.ref x] (.ref x :: sk) st Q := am_gu.trans rfl
theorem u6043_1 {v0 : Value} : am_g d X am_m6043 1 [v0] sk st Q = am_gt 193 4 [v0] sk st (fun pc lc sk st => am_g d X am_m6043 pc lc sk st Q) := am_gu.trans rfl
theorem u6043_4 {v0 : Value} : am_g d X am_m6043 4 [v0] sk st Q = am_gt 128 7 [v0] sk st (fun pc lc sk st => am_g d X am_m6043 pc lc sk st Q) := am_gu.trans rfl
theorem u6043_7 {v0 : Value} : am_g d X am_m6043 7 [v0] sk st Q = am_gt 170 10 [v0] sk st (fun pc lc sk st => am_g d X am_m6043 pc lc sk st Q) := am_gu.trans rfl
theorem u6043_10 {v0 : Value} {x : Int32} : am_g d X am_m6043 10 [v0] [.int x] st Q = Q (.inl (some (.int x))) st := am_gu.trans rfl
set_option maxRecDepth 100000 in
theorem of_6044 : am_of 6044 = some am_m6044 := rfl
theorem c6044 {z} {P : am_Q} : am_Ca X (d + 1) 6044 [.ref z] st P = am_g d X am_m6044 0 [.ref z] [] st P := am_cg of_6044 (by show 1 ≤ 1; decide)
theorem hd_6044 : am_hd am_m6044 = [] := rfl
theorem u6044_0 {x : Nat} : am_g d X am_m6044 0 [.ref x] sk st Q = am_g d X am_m6044 1 [.ref x] (.ref x :: sk) st Q := am_gu.trans rfl
theorem u6044_1 {v0 : Value} : am_g d X am_m6044 1 [v0] sk st Q = am_gt 193 4 [v0] sk st (fun pc lc sk st => am_g d X am_m6044 pc lc sk st Q) := am_gu.trans rfl
theorem u6044_4 {v0 : Value} : am_g d X am_m6044 4 [v0] sk st Q = am_gt 129 7 [v0] sk st (fun pc lc sk st => am_g d X am_m6044 pc lc sk st Q) := am_gu.trans rfl
theorem u6044_7 {x : Nat} : am_g d X am_m6044 7 [.ref x] sk st Q = am_g d X am_m6044 8 [.ref x] (.ref x :: sk) st Q := am_gu.trans rfl
theorem u6044_8 {v0 : Value} : am_g d X am_m6044 8 [v0] sk st Q = am_gt 193 11 [v0] sk st (fun pc lc sk st => am_g d X am_m6044 pc lc sk st Q) := am_gu.trans rfl
theorem u6044_11 {v0 : Value} : am_g d X am_m6044 11 [v0] sk st Q = am_gt 128 14 [v0] sk st (fun pc lc sk st => am_g d X am_m6044 pc lc sk st Q) := am_gu.trans rfl
theorem u6044_14 {a0 : Value} {v0 : Value} : am_g d X am_m6044 14 [v0] (a0 :: .ref o :: sk) st Q = ((am_ob st o 1 ∧ sk.length ≤ 5) ∧ am_Ca X d 1006 [.ref o, a0] st (am_af am_m6044 14 [v0] sk (fun pc lc sk st => am_g d X am_m6044 pc lc sk st Q) Q)) := am_gu.trans rfl
theorem u6044_17 {v0 : Value} {x : Int32} : am_g d X am_m6044 17 [v0] [.int x] st Q = Q (.inl (some (.int x))) st := am_gu.trans rfl
set_option maxRecDepth 100000 in
theorem of_6045 : am_of 6045 = some am_m6045 := rfl
theorem c6045 {z a0 a1} {P : am_Q} : am_Ca X (d + 1) 6045 [.ref z, .int a0, .int a1] st P = am_g d X am_m6045 0 [.ref z, .int a0, .int a1] [] st P := am_cg of_6045 (by show 3 ≤ 3; decide)
theorem hd_6045 : am_hd am_m6045 = [] := rfl
theorem u6045_0 {v1 : Value} {v2 : Value} {x : Nat} : am_g d X am_m6045 0 [.ref x, v1, v2] sk st Q = am_g d X am_m6045 1 [.ref x, v1, v2] (.ref x :: sk) st Q := am_gu.trans rfl
theorem u6045_1 {v0 : Value} {v2 : Value} {x : Int32} : am_g d X am_m6045 1 [v0, .int x, v2] sk st Q = am_g d X am_m6045 2 [v0, .int x, v2] (.int x :: sk) st Q := am_gu.trans rfl
theorem u6045_2 {a0 : Value} {v0 : Value} {v1 : Value} {v2 : Value} : am_g d X am_m6045 2 [v0, v1, v2] (a0 :: .ref o :: sk) st Q = ((am_ob st o 6 ∧ sk.length ≤ 5) ∧ am_Ca X d 6064 [.ref o, a0] st (am_af am_m6045 2 [v0, v1, v2] sk (fun pc lc sk st => am_g d X am_m6045 pc lc sk st Q) Q)) := am_gu.trans rfl
theorem u6045_5 {v1 : Value} {v2 : Value} {x : Nat} : am_g d X am_m6045 5 [.ref x, v1, v2] sk st Q = am_g d X am_m6045 6 [.ref x, v1, v2] (.ref x :: sk) st Q := am_gu.trans rfl
theorem u6045_6 {v0 : Value} {v1 : Value} {x : Int32} : am_g d X am_m6045 6 [v0, v1, .int x] sk st Q = am_g d X am_m6045 7 [v0, v1, .int x] (.int x :: sk) st Q := am_gu.trans rfl
theorem u6045_7 {a0 : Value} {v0 : Value} {v1 : Value} {v2 : Value} : am_g d X am_m6045 7 [v0, v1, v2] (a0 :: .ref o :: sk) st Q = ((am_ob st o 6 ∧ sk.length ≤ 5) ∧ am_Ca X d 6064 [.ref o, a0] st (am_af am_m6045 7 [v0, v1, v2] sk (fun pc lc sk st => am_g d X am_m6045 pc lc sk st Q) Q)) := am_gu.trans rfl
theorem u6045_10 {v1 : Value} {v2 : Value} {x : Nat} : am_g d X am_m6045 10 [.ref x, v1, v2] sk st Q = am_g d X am_m6045 11 [.ref x, v1, v2] (.ref x :: sk) st Q := am_gu.trans rfl
theorem u6045_11 {v0 : Value} {v1 : Value} {v2 : Value} : am_g d X am_m6045 11 [v0, v1, v2] sk st Q = am_gt 193 14 [v0, v1, v2] sk st (fun pc lc sk st => am_g d X am_m6045 pc lc sk st Q) := am_gu.trans rfl
theorem u6045_14 {v0 : Value} {v1 : Value} {v2 : Value} : am_g d X am_m6045 14 [v0, v1, v2] sk st Q = am_gt 129 17 [v0, v1, v2] sk st (fun pc lc sk st => am_g d X am_m6045 pc lc sk st Q) := am_gu.trans rfl
theorem u6045_17 {v1 : Value} {v2 : Value} {x : Nat} : am_g d X am_m6045 17 [.ref x, v1, v2] sk st Q = am_g d X am_m6045 18 [.ref x, v1, v2] (.ref x :: sk) st Q := am_gu.trans rfl
theorem u6045_18 {v0 : Value} {v1 : Value} {v2 : Value} : am_g d X am_m6045 18 [v0, v1, v2] sk st Q = am_gt 193 21 [v0, v1, v2] sk st (fun pc lc sk st => am_g d X am_m6045 pc lc sk st Q) := am_gu.trans rfl
theorem u6045_21 {v0 : Value} {v1 : Value} {v2 : Value} : am_g d X am_m6045 21 [v0, v1, v2] sk st Q = am_gt 128 24 [v0, v1, v2] sk st (fun pc lc sk st => am_g d X am_m6045 pc lc sk st Q) := am_gu.trans rfl
theorem u6045_24 {v0 : Value} {v2 : Value} {x : Int32} : am_g d X am_m6045 24 [v0, .int x, v2] sk st Q = am_g d X am_m6045 25 [v0, .int x, v2] (.int x :: sk) st Q := am_gu.trans rfl
theorem u6045_25 {v0 : Value} {v1 : Value} {x : Int32} : am_g d X am_m6045 25 [v0, v1, .int x] sk st Q = am_g d X am_m6045 26 [v0, v1, .int x] (.int x :: sk) st Q := am_gu.trans rfl
theorem u6045_26 {a0 : Value} {a1 : Value} {a2 : Value} {v0 : Value} {v1 : Value} {v2 : Value} : am_g d X am_m6045 26 [v0, v1, v2] (a2 :: a1 :: a0 :: .ref o :: sk) st Q = ((am_ob st o 1 ∧ sk.length ≤ 5) ∧ am_Ca X d 1002 [.ref o, a0, a1, a2] st (am_af am_m6045 26 [v0, v1, v2] sk (fun pc lc sk st => am_g d X am_m6045 pc lc sk st Q) Q)) := am_gu.trans rfl
theorem u6045_29 {v0 : Value} {v1 : Value} {v2 : Value} {x : Int32} : am_g d X am_m6045 29 [v0, v1, v2] [.int x] st Q = ((x = 0 ∨ x = 1) ∧ Q (.inl (some (.int x))) st) := am_gu.trans rfl
set_option maxRecDepth 100000 in
theorem of_6046 : am_of 6046 = some am_m6046 := rfl
theorem c6046 {z a0} {P : am_Q} : am_Ca X (d + 1) 6046 [.ref z, .int a0] st P = am_g d X am_m6046 0 [.ref z, .int a0] [] st P := am_cg of_6046 (by show 2 ≤ 2; decide)
theorem hd_6046 : am_hd am_m6046 = [] := rfl
theorem u6046_0 {v1 : Value} {x : Nat} : am_g d X am_m6046 0 [.ref x, v1] sk st Q = am_g d X am_m6046 1 [.ref x, v1] (.ref x :: sk) st Q := am_gu.trans rfl
theorem u6046_1 {v0 : Value} {x : Int32} : am_g d X am_m6046 1 [v0, .int x] sk st Q = am_g d X am_m6046 2 [v0, .int x] (.int x :: sk) st Q := am_gu.trans rfl
theorem u6046_2 {a0 : Value} {v0 : Value} {v1 : Value} : am_g d X am_m6046 2 [v0, v1] (a0 :: .ref o :: sk) st Q = ((am_ob st o 6 ∧ sk.length ≤ 5) ∧ am_Ca X d 6064 [.ref o, a0] st (am_af am_m6046 2 [v0, v1] sk (fun pc lc sk st => am_g d X am_m6046 pc lc sk st Q) Q)) := am_gu.trans rfl
theorem u6046_5 {v1 : Value} {x : Nat} : am_g d X am_m6046 5 [.ref x, v1] sk st Q = am_g d X am_m6046 6 [.ref x, v1] (.ref x :: sk) st Q := am_gu.trans rfl
theorem u6046_6 {v0 : Value} {v1 : Value} : am_g d X am_m6046 6 [v0, v1] sk st Q = am_gt 193 9 [v0, v1] sk st (fun pc lc sk st => am_g d X am_m6046 pc lc sk st Q) := am_gu.trans rfl
theorem u6046_9 {v0 : Value} {v1 : Value} : am_g d X am_m6046 9 [v0, v1] sk st Q = am_gt 129 12 [v0, v1] sk st (fun pc lc sk st => am_g d X am_m6046 pc lc sk st Q) := am_gu.trans rfl
theorem u6046_12 {v1 : Value} {x : Nat} : am_g d X am_m6046 12 [.ref x, v1] sk st Q = am_g d X am_m6046 13 [.ref x, v1] (.ref x :: sk) st Q := am_gu.trans rfl
theorem u6046_13 {v0 : Value} {v1 : Value} : am_g d X am_m6046 13 [v0, v1] sk st Q = am_gt 193 16 [v0, v1] sk st (fun pc lc sk st => am_g d X am_m6046 pc lc sk st Q) := am_gu.trans rfl
theorem u6046_16 {v0 : Value} {v1 : Value} : am_g d X am_m6046 16 [v0, v1] sk st Q = am_gt 128 19 [v0, v1] sk st (fun pc lc sk st => am_g d X am_m6046 pc lc sk st Q) := am_gu.trans rfl
theorem u6046_19 {v0 : Value} {x : Int32} : am_g d X am_m6046 19 [v0, .int x] sk st Q = am_g d X am_m6046 20 [v0, .int x] (.int x :: sk) st Q := am_gu.trans rfl
theorem u6046_20 {a0 : Value} {a1 : Value} {v0 : Value} {v1 : Value} : am_g d X am_m6046 20 [v0, v1] (a1 :: a0 :: .ref o :: sk) st Q = ((am_ob st o 1 ∧ sk.length ≤ 5) ∧ am_Ca X d 1003 [.ref o, a0, a1] st (am_af am_m6046 20 [v0, v1] sk (fun pc lc sk st => am_g d X am_m6046 pc lc sk st Q) Q)) := am_gu.trans rfl
theorem u6046_23 {v0 : Value} {v1 : Value} {x : Int32} : am_g d X am_m6046 23 [v0, v1] [.int x] st Q = Q (.inl (some (.int x))) st := am_gu.trans rfl
set_option maxRecDepth 100000 in
theorem of_6047 : am_of 6047 = some am_m6047 := rfl
theorem c6047 {z a0 a1} {P : am_Q} : am_Ca X (d + 1) 6047 [.ref z, .int a0, .int a1] st P = am_g d X am_m6047 0 [.ref z, .int a0, .int a1] [] st P := am_cg of_6047 (by show 3 ≤ 3; decide)
theorem hd_6047 : am_hd am_m6047 = [] := rfl
theorem u6047_0 {v1 : Value} {v2 : Value} {x : Nat} : am_g d X am_m6047 0 [.ref x, v1, v2] sk st Q = am_g d X am_m6047 1 [.ref x, v1, v2] (.ref x :: sk) st Q := am_gu.trans rfl
theorem u6047_1 {v0 : Value} {v2 : Value} {x : Int32} : am_g d X am_m6047 1 [v0, .int x, v2] sk st Q = am_g d X am_m6047 2 [v0, .int x, v2] (.int x :: sk) st Q := am_gu.trans rfl
theorem u6047_2 {a0 : Value} {v0 : Value} {v1 : Value} {v2 : Value} : am_g d X am_m6047 2 [v0, v1, v2] (a0 :: .ref o :: sk) st Q = ((am_ob st o 6 ∧ sk.length ≤ 5) ∧ am_Ca X d 6064 [.ref o, a0] st (am_af am_m6047 2 [v0, v1, v2] sk (fun pc lc sk st => am_g d X am_m6047 pc lc sk st Q) Q)) := am_gu.trans rfl
theorem u6047_5 {v0 : Value} {v1 : Value} {x : Int32} : am_g d X am_m6047 5 [v0, v1, .int x] sk st Q = am_g d X am_m6047 6 [v0, v1, .int x] (.int x :: sk) st Q := am_gu.trans rfl
theorem u6047_6 {v0 : Value} {v1 : Value} {v2 : Value} {x : Int32} : am_g d X am_m6047 6 [v0, v1, v2] (.int x :: sk) st Q = (if decide (0 ≤ x) = true then am_g d X am_m6047 20 [v0, v1, v2] sk st Q else am_g d X am_m6047 9 [v0, v1, v2] sk st Q) := am_gu.trans rfl
theorem u6047_9 {v0 : Value} {v1 : Value} {v2 : Value} : am_g d X am_m6047 9 [v0, v1, v2] [] (n, sh, cl, sl, F, A, L) Q = ((5 ≤ d ∧ n ≤ cl) ∧ Q (.inr 0) (n, sh, cl + 1, sl + 6, F, A, L)) := am_gu.trans (propext ⟨fun h => ⟨⟨h.1.2.2.1, h.1.2.2.2⟩, h.2⟩, fun h => ⟨⟨rfl, Nat.zero_le _, h.1.1, h.1.2⟩, h.2⟩⟩)
theorem u6047_20 {v1 : Value} {v2 : Value} {x : Nat} : am_g d X am_m6047 20 [.ref x, v1, v2] sk st Q = am_g d X am_m6047 21 [.ref x, v1, v2] (.ref x :: sk) st Q := am_gu.trans rfl
theorem u6047_21 {v0 : Value} {v1 : Value} {v2 : Value} : am_g d X am_m6047 21 [v0, v1, v2] sk st Q = am_gt 193 24 [v0, v1, v2] sk st (fun pc lc sk st => am_g d X am_m6047 pc lc sk st Q) := am_gu.trans rfl
theorem u6047_24 {v0 : Value} {v1 : Value} {v2 : Value} : am_g d X am_m6047 24 [v0, v1, v2] sk st Q = am_gt 129 27 [v0, v1, v2] sk st (fun pc lc sk st => am_g d X am_m6047 pc lc sk st Q) := am_gu.trans rfl
theorem u6047_27 {v1 : Value} {v2 : Value} {x : Nat} : am_g d X am_m6047 27 [.ref x, v1, v2] sk st Q = am_g d X am_m6047 28 [.ref x, v1, v2] (.ref x :: sk) st Q := am_gu.trans rfl
theorem u6047_28 {v0 : Value} {v1 : Value} {v2 : Value} : am_g d X am_m6047 28 [v0, v1, v2] sk st Q = am_gt 193 31 [v0, v1, v2] sk st (fun pc lc sk st => am_g d X am_m6047 pc lc sk st Q) := am_gu.trans rfl
theorem u6047_31 {v0 : Value} {v1 : Value} {v2 : Value} : am_g d X am_m6047 31 [v0, v1, v2] sk st Q = am_gt 128 34 [v0, v1, v2] sk st (fun pc lc sk st => am_g d X am_m6047 pc lc sk st Q) := am_gu.trans rfl
theorem u6047_34 {v0 : Value} {v2 : Value} {x : Int32} : am_g d X am_m6047 34 [v0, .int x, v2] sk st Q = am_g d X am_m6047 35 [v0, .int x, v2] (.int x :: sk) st Q := am_gu.trans rfl
theorem u6047_35 {v0 : Value} {v1 : Value} {x : Int32} : am_g d X am_m6047 35 [v0, v1, .int x] sk st Q = am_g d X am_m6047 36 [v0, v1, .int x] (.int x :: sk) st Q := am_gu.trans rfl
theorem u6047_36 {a0 : Value} {a1 : Value} {a2 : Value} {v0 : Value} {v1 : Value} {v2 : Value} : am_g d X am_m6047 36 [v0, v1, v2] (a2 :: a1 :: a0 :: .ref o :: sk) st Q = ((am_ob st o 1 ∧ sk.length ≤ 5) ∧ am_Ca X d 1004 [.ref o, a0, a1, a2] st (am_af am_m6047 36 [v0, v1, v2] sk (fun pc lc sk st => am_g d X am_m6047 pc lc sk st Q) Q)) := am_gu.trans rfl
theorem u6047_39 {v0 : Value} {v1 : Value} {v2 : Value} {x : Int32} : am_g d X am_m6047 39 [v0, v1, v2] [.int x] st Q = Q (.inl (some (.int x))) st := am_gu.trans rfl
set_option maxRecDepth 100000 in
theorem of_6048 : am_of 6048 = some am_m6048 := rfl
theorem c6048 {z a0 a1} {P : am_Q} : am_Ca X (d + 1) 6048 [.ref z, .int a0, .int a1] st P = am_g d X am_m6048 0 [.ref z, .int a0, .int a1] [] st P := am_cg of_6048 (by show 3 ≤ 3; decide)
theorem hd_6048 : am_hd am_m6048 = [] := rfl
theorem u6048_0 {v1 : Value} {v2 : Value} {x : Nat} : am_g d X am_m6048 0 [.ref x, v1, v2] sk st Q = am_g d X am_m6048 1 [.ref x, v1, v2] (.ref x :: sk) st Q := am_gu.trans rfl
theorem u6048_1 {v0 : Value} {v2 : Value} {x : Int32} : am_g d X am_m6048 1 [v0, .int x, v2] sk st Q = am_g d X am_m6048 2 [v0, .int x, v2] (.int x :: sk) st Q := am_gu.trans rfl
theorem u6048_2 {a0 : Value} {v0 : Value} {v1 : Value} {v2 : Value} : am_g d X am_m6048 2 [v0, v1, v2] (a0 :: .ref o :: sk) st Q = ((am_ob st o 6 ∧ sk.length ≤ 5) ∧ am_Ca X d 6064 [.ref o, a0] st (am_af am_m6048 2 [v0, v1, v2] sk (fun pc lc sk st => am_g d X am_m6048 pc lc sk st Q) Q)) := am_gu.trans rfl
theorem u6048_5 {v1 : Value} {v2 : Value} {x : Nat} : am_g d X am_m6048 5 [.ref x, v1, v2] sk st Q = am_g d X am_m6048 6 [.ref x, v1, v2] (.ref x :: sk) st Q := am_gu.trans rfl
theorem u6048_6 {v0 : Value} {v1 : Value} {x : Int32} : am_g d X am_m6048 6 [v0, v1, .int x] sk st Q = am_g d X am_m6048 7 [v0, v1, .int x] (.int x :: sk) st Q := am_gu.trans rfl
theorem u6048_7 {a0 : Value} {v0 : Value} {v1 : Value} {v2 : Value} : am_g d X am_m6048 7 [v0, v1, v2] (a0 :: .ref o :: sk) st Q = ((am_ob st o 6 ∧ sk.length ≤ 5) ∧ am_Ca X d 6064 [.ref o, a0] st (am_af am_m6048 7 [v0, v1, v2] sk (fun pc lc sk st => am_g d X am_m6048 pc lc sk st Q) Q)) := am_gu.trans rfl
theorem u6048_10 {v1 : Value} {v2 : Value} {x : Nat} : am_g d X am_m6048 10 [.ref x, v1, v2] sk st Q = am_g d X am_m6048 11 [.ref x, v1, v2] (.ref x :: sk) st Q := am_gu.trans rfl
theorem u6048_11 {v0 : Value} {v1 : Value} {v2 : Value} : am_g d X am_m6048 11 [v0, v1, v2] sk st Q = am_gt 193 14 [v0, v1, v2] sk st (fun pc lc sk st => am_g d X am_m6048 pc lc sk st Q) := am_gu.trans rfl
theorem u6048_14 {v0 : Value} {v1 : Value} {v2 : Value} : am_g d X am_m6048 14 [v0, v1, v2] sk st Q = am_gt 129 17 [v0, v1, v2] sk st (fun pc lc sk st => am_g d X am_m6048 pc lc sk st Q) := am_gu.trans rfl
theorem u6048_17 {v1 : Value} {v2 : Value} {x : Nat} : am_g d X am_m6048 17 [.ref x, v1, v2] sk st Q = am_g d X am_m6048 18 [.ref x, v1, v2] (.ref x :: sk) st Q := am_gu.trans rfl
theorem u6048_18 {v0 : Value} {v1 : Value} {v2 : Value} : am_g d X am_m6048 18 [v0, v1, v2] sk st Q = am_gt 193 21 [v0, v1, v2] sk st (fun pc lc sk st => am_g d X am_m6048 pc lc sk st Q) := am_gu.trans rfl
theorem u6048_21 {v0 : Value} {v1 : Value} {v2 : Value} : am_g d X am_m6048 21 [v0, v1, v2] sk st Q = am_gt 128 24 [v0, v1, v2] sk st (fun pc lc sk st => am_g d X am_m6048 pc lc sk st Q) := am_gu.trans rfl
theorem u6048_24 {v0 : Value} {v2 : Value} {x : Int32} : am_g d X am_m6048 24 [v0, .int x, v2] sk st Q = am_g d X am_m6048 25 [v0, .int x, v2] (.int x :: sk) st Q := am_gu.trans rfl
theorem u6048_25 {v0 : Value} {v1 : Value} {x : Int32} : am_g d X am_m6048 25 [v0, v1, .int x] sk st Q = am_g d X am_m6048 26 [v0, v1, .int x] (.int x :: sk) st Q := am_gu.trans rfl
theorem u6048_26 {a0 : Value} {a1 : Value} {a2 : Value} {v0 : Value} {v1 : Value} {v2 : Value} : am_g d X am_m6048 26 [v0, v1, v2] (a2 :: a1 :: a0 :: .ref o :: sk) st Q = ((am_ob st o 1 ∧ sk.length ≤ 5) ∧ am_Ca X d 1007 [.ref o, a0, a1, a2] st (am_af am_m6048 26 [v0, v1, v2] sk (fun pc lc sk st => am_g d X am_m6048 pc lc sk st Q) Q)) := am_gu.trans rfl
theorem u6048_29 {v0 : Value} {v1 : Value} {v2 : Value} {x : Int32} : am_g d X am_m6048 29 [v0, v1, v2] [.int x] st Q = Q (.inl (some (.int x))) st := am_gu.trans rfl
set_option maxRecDepth 100000 in
theorem of_6049 : am_of 6049 = some am_m6049 := rfl
theorem c6049 {z a0} {P : am_Q} : am_Ca X (d + 1) 6049 [.ref z, .int a0] st P = am_g d X am_m6049 0 [.ref z, .int a0] [] st P := am_cg of_6049 (by show 2 ≤ 2; decide)
theorem hd_6049 : am_hd am_m6049 = [] := rfl
theorem u6049_0 {v1 : Value} {x : Nat} : am_g d X am_m6049 0 [.ref x, v1] sk st Q = am_g d X am_m6049 1 [.ref x, v1] (.ref x :: sk) st Q := am_gu.trans rfl
theorem u6049_1 {v0 : Value} {x : Int32} : am_g d X am_m6049 1 [v0, .int x] sk st Q = am_g d X am_m6049 2 [v0, .int x] (.int x :: sk) st Q := am_gu.trans rfl
theorem u6049_2 {a0 : Value} {v0 : Value} {v1 : Value} : am_g d X am_m6049 2 [v0, v1] (a0 :: .ref o :: sk) st Q = ((am_ob st o 6 ∧ sk.length ≤ 5) ∧ am_Ca X d 6064 [.ref o, a0] st (am_af am_m6049 2 [v0, v1] sk (fun pc lc sk st => am_g d X am_m6049 pc lc sk st Q) Q)) := am_gu.trans rfl
theorem u6049_5 {v1 : Value} {x : Nat} : am_g d X am_m6049 5 [.ref x, v1] sk st Q = am_g d X am_m6049 6 [.ref x, v1] (.ref x :: sk) st Q := am_gu.trans rfl
theorem u6049_6 {v0 : Value} {v1 : Value} : am_g d X am_m6049 6 [v0, v1] sk st Q = am_gt 193 9 [v0, v1] sk st (fun pc lc sk st => am_g d X am_m6049 pc lc sk st Q) := am_gu.trans rfl
theorem u6049_9 {v0 : Value} {v1 : Value} : am_g d X am_m6049 9 [v0, v1] sk st Q = am_gt 129 12 [v0, v1] sk st (fun pc lc sk st => am_g d X am_m6049 pc lc sk st Q) := am_gu.trans rfl
theorem u6049_12 {v1 : Value} {x : Nat} : am_g d X am_m6049 12 [.ref x, v1] sk st Q = am_g d X am_m6049 13 [.ref x, v1] (.ref x :: sk) st Q := am_gu.trans rfl
theorem u6049_13 {v0 : Value} {v1 : Value} : am_g d X am_m6049 13 [v0, v1] sk st Q = am_gt 193 16 [v0, v1] sk st (fun pc lc sk st => am_g d X am_m6049 pc lc sk st Q) := am_gu.trans rfl
theorem u6049_16 {v0 : Value} {v1 : Value} : am_g d X am_m6049 16 [v0, v1] sk st Q = am_gt 128 19 [v0, v1] sk st (fun pc lc sk st => am_g d X am_m6049 pc lc sk st Q) := am_gu.trans rfl
theorem u6049_19 {v0 : Value} {x : Int32} : am_g d X am_m6049 19 [v0, .int x] sk st Q = am_g d X am_m6049 20 [v0, .int x] (.int x :: sk) st Q := am_gu.trans rfl
theorem u6049_20 {a0 : Value} {a1 : Value} {v0 : Value} {v1 : Value} : am_g d X am_m6049 20 [v0, v1] (a1 :: a0 :: .ref o :: sk) st Q = ((am_ob st o 1 ∧ sk.length ≤ 5) ∧ am_Ca X d 1010 [.ref o, a0, a1] st (am_af am_m6049 20 [v0, v1] sk (fun pc lc sk st => am_g d X am_m6049 pc lc sk st Q) Q)) := am_gu.trans rfl
theorem u6049_23 {v0 : Value} {v1 : Value} {x : Int32} : am_g d X am_m6049 23 [v0, v1] [.int x] st Q = Q (.inl (some (.int x))) st := am_gu.trans rfl
set_option maxRecDepth 100000 in
theorem of_6050 : am_of 6050 = some am_m6050 := rfl
theorem c6050 {z a0 a1} {P : am_Q} : am_Ca X (d + 1) 6050 [.ref z, .int a0, .int a1] st P = am_g d X am_m6050 0 [.ref z, .int a0, .int a1] [] st P := am_cg of_6050 (by show 3 ≤ 3; decide)
theorem hd_6050 : am_hd am_m6050 = [] := rfl
theorem u6050_0 {v1 : Value} {v2 : Value} {x : Nat} : am_g d X am_m6050 0 [.ref x, v1, v2] sk st Q = am_g d X am_m6050 1 [.ref x, v1, v2] (.ref x :: sk) st Q := am_gu.trans rfl
theorem u6050_1 {v0 : Value} {v2 : Value} {x : Int32} : am_g d X am_m6050 1 [v0, .int x, v2] sk st Q = am_g d X am_m6050 2 [v0, .int x, v2] (.int x :: sk) st Q := am_gu.trans rfl
theorem u6050_2 {a0 : Value} {v0 : Value} {v1 : Value} {v2 : Value} : am_g d X am_m6050 2 [v0, v1, v2] (a0 :: .ref o :: sk) st Q = ((am_ob st o 6 ∧ sk.length ≤ 5) ∧ am_Ca X d 6064 [.ref o, a0] st (am_af am_m6050 2 [v0, v1, v2] sk (fun pc lc sk st => am_g d X am_m6050 pc lc sk st Q) Q)) := am_gu.trans rfl
theorem u6050_5 {v1 : Value} {v2 : Value} {x : Nat} : am_g d X am_m6050 5 [.ref x, v1, v2] sk st Q = am_g d X am_m6050 6 [.ref x, v1, v2] (.ref x :: sk) st Q := am_gu.trans rfl
theorem u6050_6 {v0 : Value} {v1 : Value} {x : Int32} : am_g d X am_m6050 6 [v0, v1, .int x] sk st Q = am_g d X am_m6050 7 [v0, v1, .int x] (.int x :: sk) st Q := am_gu.trans rfl
theorem u6050_7 {a0 : Value} {v0 : Value} {v1 : Value} {v2 : Value} : am_g d X am_m6050 7 [v0, v1, v2] (a0 :: .ref o :: sk) st Q = ((am_ob st o 6 ∧ sk.length ≤ 5) ∧ am_Ca X d 6064 [.ref o, a0] st (am_af am_m6050 7 [v0, v1, v2] sk (fun pc lc sk st => am_g d X am_m6050 pc lc sk st Q) Q)) := am_gu.trans rfl
theorem u6050_10 {v1 : Value} {v2 : Value} {x : Nat} : am_g d X am_m6050 10 [.ref x, v1, v2] sk st Q = am_g d X am_m6050 11 [.ref x, v1, v2] (.ref x :: sk) st Q := am_gu.trans rfl
theorem u6050_11 {v0 : Value} {v1 : Value} {v2 : Value} : am_g d X am_m6050 11 [v0, v1, v2] sk st Q = am_gt 193 14 [v0, v1, v2] sk st (fun pc lc sk st => am_g d X am_m6050 pc lc sk st Q) := am_gu.trans rfl
theorem u6050_14 {v0 : Value} {v1 : Value} {v2 : Value} : am_g d X am_m6050 14 [v0, v1, v2] sk st Q = am_gt 129 17 [v0, v1, v2] sk st (fun pc lc sk st => am_g d X am_m6050 pc lc sk st Q) := am_gu.trans rfl
theorem u6050_17 {v1 : Value} {v2 : Value} {x : Nat} : am_g d X am_m6050 17 [.ref x, v1, v2] sk st Q = am_g d X am_m6050 18 [.ref x, v1, v2] (.ref x :: sk) st Q := am_gu.trans rfl
theorem u6050_18 {v0 : Value} {v1 : Value} {v2 : Value} : am_g d X am_m6050 18 [v0, v1, v2] sk st Q = am_gt 193 21 [v0, v1, v2] sk st (fun pc lc sk st => am_g d X am_m6050 pc lc sk st Q) := am_gu.trans rfl
theorem u6050_21 {v0 : Value} {v1 : Value} {v2 : Value} : am_g d X am_m6050 21 [v0, v1, v2] sk st Q = am_gt 128 24 [v0, v1, v2] sk st (fun pc lc sk st => am_g d X am_m6050 pc lc sk st Q) := am_gu.trans rfl
theorem u6050_24 {v0 : Value} {v2 : Value} {x : Int32} : am_g d X am_m6050 24 [v0, .int x, v2] sk st Q = am_g d X am_m6050 25 [v0, .int x, v2] (.int x :: sk) st Q := am_gu.trans rfl
theorem u6050_25 {v0 : Value} {v1 : Value} {x : Int32} : am_g d X am_m6050 25 [v0, v1, .int x] sk st Q = am_g d X am_m6050 26 [v0, v1, .int x] (.int x :: sk) st Q := am_gu.trans rfl
theorem u6050_26 {a0 : Value} {a1 : Value} {a2 : Value} {v0 : Value} {v1 : Value} {v2 : Value} : am_g d X am_m6050 26 [v0, v1, v2] (a2 :: a1 :: a0 :: .ref o :: sk) st Q = ((am_ob st o 1 ∧ sk.length ≤ 5) ∧ am_Ca X d 1011 [.ref o, a0, a1, a2] st (am_af am_m6050 26 [v0, v1, v2] sk (fun pc lc sk st => am_g d X am_m6050 pc lc sk st Q) Q)) := am_gu.trans rfl
theorem u6050_29 {v0 : Value} {v1 : Value} {v2 : Value} {x : Int32} : am_g d X am_m6050 29 [v0, v1, v2] [.int x] st Q = Q (.inl (some (.int x))) st := am_gu.trans rfl
set_option maxRecDepth 100000 in
theorem of_6051 : am_of 6051 = some am_m6051 := rfl
theorem c6051 {z a0 a1} {P : am_Q} : am_Ca X (d + 1) 6051 [.ref z, .int a0, .int a1] st P = am_g d X am_m6051 0 [.ref z, .int a0, .int a1] [] st P := am_cg of_6051 (by show 3 ≤ 3; decide)
theorem hd_6051 : am_hd am_m6051 = [] := rfl
theorem u6051_0 {v1 : Value} {v2 : Value} {x : Nat} : am_g d X am_m6051 0 [.ref x, v1, v2] sk st Q = am_g d X am_m6051 1 [.ref x, v1, v2] (.ref x :: sk) st Q := am_gu.trans rfl
theorem u6051_1 {v0 : Value} {v2 : Value} {x : Int32} : am_g d X am_m6051 1 [v0, .int x, v2] sk st Q = am_g d X am_m6051 2 [v0, .int x, v2] (.int x :: sk) st Q := am_gu.trans rfl
theorem u6051_2 {a0 : Value} {v0 : Value} {v1 : Value} {v2 : Value} : am_g d X am_m6051 2 [v0, v1, v2] (a0 :: .ref o :: sk) st Q = ((am_ob st o 6 ∧ sk.length ≤ 5) ∧ am_Ca X d 6064 [.ref o, a0] st (am_af am_m6051 2 [v0, v1, v2] sk (fun pc lc sk st => am_g d X am_m6051 pc lc sk st Q) Q)) := am_gu.trans rfl
theorem u6051_5 {v1 : Value} {v2 : Value} {x : Nat} : am_g d X am_m6051 5 [.ref x, v1, v2] sk st Q = am_g d X am_m6051 6 [.ref x, v1, v2] (.ref x :: sk) st Q := am_gu.trans rfl
theorem u6051_6 {v0 : Value} {v1 : Value} {x : Int32} : am_g d X am_m6051 6 [v0, v1, .int x] sk st Q = am_g d X am_m6051 7 [v0, v1, .int x] (.int x :: sk) st Q := am_gu.trans rfl
theorem u6051_7 {a0 : Value} {v0 : Value} {v1 : Value} {v2 : Value} : am_g d X am_m6051 7 [v0, v1, v2] (a0 :: .ref o :: sk) st Q = ((am_ob st o 6 ∧ sk.length ≤ 5) ∧ am_Ca X d 6064 [.ref o, a0] st (am_af am_m6051 7 [v0, v1, v2] sk (fun pc lc sk st => am_g d X am_m6051 pc lc sk st Q) Q)) := am_gu.trans rfl
theorem u6051_10 {v1 : Value} {v2 : Value} {x : Nat} : am_g d X am_m6051 10 [.ref x, v1, v2] sk st Q = am_g d X am_m6051 11 [.ref x, v1, v2] (.ref x :: sk) st Q := am_gu.trans rfl
theorem u6051_11 {v0 : Value} {v1 : Value} {v2 : Value} : am_g d X am_m6051 11 [v0, v1, v2] sk st Q = am_gt 193 14 [v0, v1, v2] sk st (fun pc lc sk st => am_g d X am_m6051 pc lc sk st Q) := am_gu.trans rfl
theorem u6051_14 {v0 : Value} {v1 : Value} {v2 : Value} : am_g d X am_m6051 14 [v0, v1, v2] sk st Q = am_gt 129 17 [v0, v1, v2] sk st (fun pc lc sk st => am_g d X am_m6051 pc lc sk st Q) := am_gu.trans rfl
theorem u6051_17 {v1 : Value} {v2 : Value} {x : Nat} : am_g d X am_m6051 17 [.ref x, v1, v2] sk st Q = am_g d X am_m6051 18 [.ref x, v1, v2] (.ref x :: sk) st Q := am_gu.trans rfl
theorem u6051_18 {v0 : Value} {v1 : Value} {v2 : Value} : am_g d X am_m6051 18 [v0, v1, v2] sk st Q = am_gt 193 21 [v0, v1, v2] sk st (fun pc lc sk st => am_g d X am_m6051 pc lc sk st Q) := am_gu.trans rfl
theorem u6051_21 {v0 : Value} {v1 : Value} {v2 : Value} : am_g d X am_m6051 21 [v0, v1, v2] sk st Q = am_gt 128 24 [v0, v1, v2] sk st (fun pc lc sk st => am_g d X am_m6051 pc lc sk st Q) := am_gu.trans rfl
theorem u6051_24 {v0 : Value} {v2 : Value} {x : Int32} : am_g d X am_m6051 24 [v0, .int x, v2] sk st Q = am_g d X am_m6051 25 [v0, .int x, v2] (.int x :: sk) st Q := am_gu.trans rfl
theorem u6051_25 {v0 : Value} {v1 : Value} {x : Int32} : am_g d X am_m6051 25 [v0, v1, .int x] sk st Q = am_g d X am_m6051 26 [v0, v1, .int x] (.int x :: sk) st Q := am_gu.trans rfl
theorem u6051_26 {a0 : Value} {a1 : Value} {a2 : Value} {v0 : Value} {v1 : Value} {v2 : Value} : am_g d X am_m6051 26 [v0, v1, v2] (a2 :: a1 :: a0 :: .ref o :: sk) st Q = ((am_ob st o 1 ∧ sk.length ≤ 5) ∧ am_Ca X d 1012 [.ref o, a0, a1, a2] st (am_af am_m6051 26 [v0, v1, v2] sk (fun pc lc sk st => am_g d X am_m6051 pc lc sk st Q) Q)) := am_gu.trans rfl
theorem u6051_29 {v0 : Value} {v1 : Value} {v2 : Value} {x : Int32} : am_g d X am_m6051 29 [v0, v1, v2] [.int x] st Q = Q (.inl (some (.int x))) st := am_gu.trans rfl
set_option maxRecDepth 100000 in
theorem of_6052 : am_of 6052 = some am_m6052 := rfl
theorem c6052 {z a0 a1} {P : am_Q} : am_Ca X (d + 1) 6052 [.ref z, .int a0, .int a1] st P = am_g d X am_m6052 0 [.ref z, .int a0, .int a1] [] st P := am_cg of_6052 (by show 3 ≤ 3; decide)
theorem hd_6052 : am_hd am_m6052 = [] := rfl
theorem u6052_0 {v1 : Value} {v2 : Value} {x : Nat} : am_g d X am_m6052 0 [.ref x, v1, v2] sk st Q = am_g d X am_m6052 1 [.ref x, v1, v2] (.ref x :: sk) st Q := am_gu.trans rfl
theorem u6052_1 {v0 : Value} {v2 : Value} {x : Int32} : am_g d X am_m6052 1 [v0, .int x, v2] sk st Q = am_g d X am_m6052 2 [v0, .int x, v2] (.int x :: sk) st Q := am_gu.trans rfl
theorem u6052_2 {a0 : Value} {v0 : Value} {v1 : Value} {v2 : Value} : am_g d X am_m6052 2 [v0, v1, v2] (a0 :: .ref o :: sk) st Q = ((am_ob st o 6 ∧ sk.length ≤ 5) ∧ am_Ca X d 6064 [.ref o, a0] st (am_af am_m6052 2 [v0, v1, v2] sk (fun pc lc sk st => am_g d X am_m6052 pc lc sk st Q) Q)) := am_gu.trans rfl
theorem u6052_5 {v1 : Value} {v2 : Value} {x : Nat} : am_g d X am_m6052 5 [.ref x, v1, v2] sk st Q = am_g d X am_m6052 6 [.ref x, v1, v2] (.ref x :: sk) st Q := am_gu.trans rfl
theorem u6052_6 {v0 : Value} {v1 : Value} {x : Int32} : am_g d X am_m6052 6 [v0, v1, .int x] sk st Q = am_g d X am_m6052 7 [v0, v1, .int x] (.int x :: sk) st Q := am_gu.trans rfl
theorem u6052_7 {a0 : Value} {v0 : Value} {v1 : Value} {v2 : Value} : am_g d X am_m6052 7 [v0, v1, v2] (a0 :: .ref o :: sk) st Q = ((am_ob st o 6 ∧ sk.length ≤ 5) ∧ am_Ca X d 6064 [.ref o, a0] st (am_af am_m6052 7 [v0, v1, v2] sk (fun pc lc sk st => am_g d X am_m6052 pc lc sk st Q) Q)) := am_gu.trans rfl
theorem u6052_10 {v1 : Value} {v2 : Value} {x : Nat} : am_g d X am_m6052 10 [.ref x, v1, v2] sk st Q = am_g d X am_m6052 11 [.ref x, v1, v2] (.ref x :: sk) st Q := am_gu.trans rfl
theorem u6052_11 {v0 : Value} {v1 : Value} {v2 : Value} : am_g d X am_m6052 11 [v0, v1, v2] sk st Q = am_gt 193 14 [v0, v1, v2] sk st (fun pc lc sk st => am_g d X am_m6052 pc lc sk st Q) := am_gu.trans rfl
theorem u6052_14 {v0 : Value} {v1 : Value} {v2 : Value} : am_g d X am_m6052 14 [v0, v1, v2] sk st Q = am_gt 129 17 [v0, v1, v2] sk st (fun pc lc sk st => am_g d X am_m6052 pc lc sk st Q) := am_gu.trans rfl
theorem u6052_17 {v1 : Value} {v2 : Value} {x : Nat} : am_g d X am_m6052 17 [.ref x, v1, v2] sk st Q = am_g d X am_m6052 18 [.ref x, v1, v2] (.ref x :: sk) st Q := am_gu.trans rfl
theorem u6052_18 {v0 : Value} {v1 : Value} {v2 : Value} : am_g d X am_m6052 18 [v0, v1, v2] sk st Q = am_gt 193 21 [v0, v1, v2] sk st (fun pc lc sk st => am_g d X am_m6052 pc lc sk st Q) := am_gu.trans rfl
theorem u6052_21 {v0 : Value} {v1 : Value} {v2 : Value} : am_g d X am_m6052 21 [v0, v1, v2] sk st Q = am_gt 128 24 [v0, v1, v2] sk st (fun pc lc sk st => am_g d X am_m6052 pc lc sk st Q) := am_gu.trans rfl
theorem u6052_24 {v0 : Value} {v2 : Value} {x : Int32} : am_g d X am_m6052 24 [v0, .int x, v2] sk st Q = am_g d X am_m6052 25 [v0, .int x, v2] (.int x :: sk) st Q := am_gu.trans rfl
theorem u6052_25 {v0 : Value} {v1 : Value} {x : Int32} : am_g d X am_m6052 25 [v0, v1, .int x] sk st Q = am_g d X am_m6052 26 [v0, v1, .int x] (.int x :: sk) st Q := am_gu.trans rfl
theorem u6052_26 {a0 : Value} {a1 : Value} {a2 : Value} {v0 : Value} {v1 : Value} {v2 : Value} : am_g d X am_m6052 26 [v0, v1, v2] (a2 :: a1 :: a0 :: .ref o :: sk) st Q = ((am_ob st o 1 ∧ sk.length ≤ 5) ∧ am_Ca X d 1013 [.ref o, a0, a1, a2] st (am_af am_m6052 26 [v0, v1, v2] sk (fun pc lc sk st => am_g d X am_m6052 pc lc sk st Q) Q)) := am_gu.trans rfl
theorem u6052_29 {v0 : Value} {v1 : Value} {v2 : Value} {x : Int32} : am_g d X am_m6052 29 [v0, v1, v2] [.int x] st Q = Q (.inl (some (.int x))) st := am_gu.trans rfl
set_option maxRecDepth 100000 in
theorem of_6053 : am_of 6053 = some am_m6053 := rfl
theorem c6053 {z a0} {P : am_Q} : am_Ca X (d + 1) 6053 [.ref z, .int a0] st P = am_g d X am_m6053 0 [.ref z, .int a0] [] st P := am_cg of_6053 (by show 2 ≤ 2; decide)
theorem hd_6053 : am_hd am_m6053 = [] := rfl
theorem u6053_0 {v0 : Value} {x : Int32} : am_g d X am_m6053 0 [v0, .int x] sk st Q = am_g d X am_m6053 1 [v0, .int x] (.int x :: sk) st Q := am_gu.trans rfl
theorem u6053_1 {a0 : Value} {v0 : Value} {v1 : Value} : am_g d X am_m6053 1 [v0, v1] (a0 :: sk) st Q = (sk.length ≤ 4 ∧ am_Ca X d 6062 [a0] st (am_af am_m6053 1 [v0, v1] sk (fun pc lc sk st => am_g d X am_m6053 pc lc sk st Q) Q)) := am_gu.trans (propext ⟨fun h => ⟨h.1.2, h.2⟩, fun h => ⟨⟨Nat.le_add_left _ _, h.1⟩, h.2⟩⟩)
theorem u6053_4 {v1 : Value} {x : Nat} : am_g d X am_m6053 4 [.ref x, v1] sk st Q = am_g d X am_m6053 5 [.ref x, v1] (.ref x :: sk) st Q := am_gu.trans rfl
theorem u6053_5 {v0 : Value} {x : Int32} : am_g d X am_m6053 5 [v0, .int x] sk st Q = am_g d X am_m6053 6 [v0, .int x] (.int x :: sk) st Q := am_gu.trans rfl
theorem u6053_6 {a0 : Value} {v0 : Value} {v1 : Value} : am_g d X am_m6053 6 [v0, v1] (a0 :: .ref o :: sk) st Q = ((am_ob st o 6 ∧ sk.length ≤ 5) ∧ am_Ca X d 6063 [.ref o, a0] st (am_af am_m6053 6 [v0, v1] sk (fun pc lc sk st => am_g d X am_m6053 pc lc sk st Q) Q)) := am_gu.trans rfl
theorem u6053_9 {v1 : Value} {x : Nat} : am_g d X am_m6053 9 [.ref x, v1] sk st Q = am_g d X am_m6053 10 [.ref x, v1] (.ref x :: sk) st Q := am_gu.trans rfl
theorem u6053_10 {v0 : Value} {v1 : Value} : am_g d X am_m6053 10 [v0, v1] sk st Q = am_gt 193 13 [v0, v1] sk st (fun pc lc sk st => am_g d X am_m6053 pc lc sk st Q) := am_gu.trans rfl
theorem u6053_13 {v1 : Value} {x : Nat} : am_g d X am_m6053 13 [.ref x, v1] sk st Q = am_g d X am_m6053 14 [.ref x, v1] (.ref x :: sk) st Q := am_gu.trans rfl
theorem u6053_14 {v0 : Value} {v1 : Value} : am_g d X am_m6053 14 [v0, v1] sk st Q = am_gt 193 17 [v0, v1] sk st (fun pc lc sk st => am_g d X am_m6053 pc lc sk st Q) := am_gu.trans rfl
theorem u6053_17 {v0 : Value} {v1 : Value} : am_g d X am_m6053 17 [v0, v1] sk st Q = am_gt 128 20 [v0, v1] sk st (fun pc lc sk st => am_g d X am_m6053 pc lc sk st Q) := am_gu.trans rfl
theorem u6053_20 {v0 : Value} {x : Int32} : am_g d X am_m6053 20 [v0, .int x] sk st Q = am_g d X am_m6053 21 [v0, .int x] (.int x :: sk) st Q := am_gu.trans rfl
theorem u6053_21 {a0 : Value} {v0 : Value} {v1 : Value} : am_g d X am_m6053 21 [v0, v1] (a0 :: .ref o :: sk) st Q = ((am_ob st o 5 ∧ sk.length ≤ 5) ∧ am_Ca X d 5015 [.ref o, a0] st (am_af am_m6053 21 [v0, v1] sk (fun pc lc sk st => am_g d X am_m6053 pc lc sk st Q) Q)) := am_gu.trans rfl
theorem u6053_24 {a0 : Value} {v0 : Value} {v1 : Value} : am_g d X am_m6053 24 [v0, v1] (a0 :: .ref o :: sk) st Q = ((am_ob st o 4 ∧ sk.length ≤ 5) ∧ am_Ca X d 4027 [.ref o, a0] st (am_af am_m6053 24 [v0, v1] sk (fun pc lc sk st => am_g d X am_m6053 pc lc sk st Q) Q)) := am_gu.trans rfl
theorem u6053_27 {v1 : Value} {x : Nat} : am_g d X am_m6053 27 [.ref x, v1] sk st Q = am_g d X am_m6053 28 [.ref x, v1] (.ref x :: sk) st Q := am_gu.trans rfl
theorem u6053_28 {v0 : Value} {v1 : Value} : am_g d X am_m6053 28 [v0, v1] sk st Q = am_gt 193 31 [v0, v1] sk st (fun pc lc sk st => am_g d X am_m6053 pc lc sk st Q) := am_gu.trans rfl
theorem u6053_31 {v0 : Value} {v1 : Value} : am_g d X am_m6053 31 [v0, v1] sk st Q = am_gt 130 34 [v0, v1] sk st (fun pc lc sk st => am_g d X am_m6053 pc lc sk st Q) := am_gu.trans rfl
theorem u6053_34 {v0 : Value} {v1 : Value} : am_g d X am_m6053 34 [v0, v1] sk st Q = am_gt 5 37 [v0, v1] sk st (fun pc lc sk st => am_g d X am_m6053 pc lc sk st Q) := am_gu.trans rfl
theorem u6053_37 {v0 : Value} {v1 : Value} {x : Int32} : am_g d X am_m6053 37 [v0, v1] [.int x] st Q = Q (.inl (some (.int x))) st := am_gu.trans rfl
set_option maxRecDepth 100000 in
theorem of_6054 : am_of 6054 = some am_m6054 := rfl
theorem c6054 {z} {P : am_Q} : am_Ca X (d + 1) 6054 [.ref z] st P = am_g d X am_m6054 0 [.ref z] [] st P := am_cg of_6054 (by show 1 ≤ 1; decide)
theorem hd_6054 : am_hd am_m6054 = [] := rfl
theorem u6054_0 {x : Nat} : am_g d X am_m6054 0 [.ref x] sk st Q = am_g d X am_m6054 1 [.ref x] (.ref x :: sk) st Q := am_gu.trans rfl
theorem u6054_1 {v0 : Value} : am_g d X am_m6054 1 [v0] sk st Q = am_gt 193 4 [v0] sk st (fun pc lc sk st => am_g d X am_m6054 pc lc sk st Q) := am_gu.trans rfl
theorem u6054_4 {v0 : Value} : am_g d X am_m6054 4 [v0] sk st Q = am_gt 128 7 [v0] sk st (fun pc lc sk st => am_g d X am_m6054 pc lc sk st Q) := am_gu.trans rfl
theorem u6054_7 {v0 : Value} : am_g d X am_m6054 7 [v0] (.ref o :: sk) st Q = ((am_ob st o 5 ∧ sk.length ≤ 5) ∧ am_Ca X d 5010 [.ref o] st (am_af am_m6054 7 [v0] sk (fun pc lc sk st => am_g d X am_m6054 pc lc sk st Q) Q)) := am_gu.trans rfl
theorem u6054_10 {v0 : Value} {x : Int32} : am_g d X am_m6054 10 [v0] [.int x] st Q = Q (.inl (some (.int x))) st := am_gu.trans rfl
set_option maxRecDepth 100000 in
theorem of_6055 : am_of 6055 = some am_m6055 := rfl
theorem c6055 {z} {P : am_Q} : am_Ca X (d + 1) 6055 [.ref z] st P = am_g d X am_m6055 0 [.ref z] [] st P := am_cg of_6055 (by show 1 ≤ 1; decide)
theorem hd_6055 : am_hd am_m6055 = [] := rfl
theorem u6055_0 {x : Nat} : am_g d X am_m6055 0 [.ref x] sk st Q = am_g d X am_m6055 1 [.ref x] (.ref x :: sk) st Q := am_gu.trans rfl
theorem u6055_1 {v0 : Value} : am_g d X am_m6055 1 [v0] sk st Q = am_gt 193 4 [v0] sk st (fun pc lc sk st => am_g d X am_m6055 pc lc sk st Q) := am_gu.trans rfl
theorem u6055_4 {v0 : Value} : am_g d X am_m6055 4 [v0] sk st Q = am_gt 128 7 [v0] sk st (fun pc lc sk st => am_g d X am_m6055 pc lc sk st Q) := am_gu.trans rfl
theorem u6055_7 {v0 : Value} : am_g d X am_m6055 7 [v0] sk st Q = am_gt 173 10 [v0] sk st (fun pc lc sk st => am_g d X am_m6055 pc lc sk st Q) := am_gu.trans rfl
theorem u6055_10 {v0 : Value} {x : Int32} : am_g d X am_m6055 10 [v0] [.int x] st Q = Q (.inl (some (.int x))) st := am_gu.trans rfl
set_option maxRecDepth 100000 in
theorem of_6056 : am_of 6056 = some am_m6056 := rfl
theorem c6056 {z} {P : am_Q} : am_Ca X (d + 1) 6056 [.ref z] st P = am_g d X am_m6056 0 [.ref z] [] st P := am_cg of_6056 (by show 1 ≤ 1; decide)
theorem hd_6056 : am_hd am_m6056 = [] := rfl
theorem u6056_0 {x : Nat} : am_g d X am_m6056 0 [.ref x] sk st Q = am_g d X am_m6056 1 [.ref x] (.ref x :: sk) st Q := am_gu.trans rfl
theorem u6056_1 {v0 : Value} : am_g d X am_m6056 1 [v0] sk st Q = am_gt 195 4 [v0] sk st (fun pc lc sk st => am_g d X am_m6056 pc lc sk st Q) := am_gu.trans rfl
theorem u6056_4 {x : Nat} : am_g d X am_m6056 4 [.ref x] sk st Q = am_g d X am_m6056 5 [.ref x] (.ref x :: sk) st Q := am_gu.trans rfl
theorem u6056_5 {v0 : Value} : am_g d X am_m6056 5 [v0] sk st Q = am_gt 193 8 [v0] sk st (fun pc lc sk st => am_g d X am_m6056 pc lc sk st Q) := am_gu.trans rfl
theorem u6056_8 {v0 : Value} : am_g d X am_m6056 8 [v0] sk st Q = am_gt 128 11 [v0] sk st (fun pc lc sk st => am_g d X am_m6056 pc lc sk st Q) := am_gu.trans rfl
theorem u6056_11 {a0 : Value} {v0 : Value} : am_g d X am_m6056 11 [v0] (a0 :: .ref o :: sk) st Q = ((am_ob st o 5 ∧ sk.length ≤ 5) ∧ am_Ca X d 5002 [.ref o, a0] st (am_af am_m6056 11 [v0] sk (fun pc lc sk st => am_g d X am_m6056 pc lc sk st Q) Q)) := am_gu.trans rfl
theorem u6056_14 {x : Nat} : am_g d X am_m6056 14 [.ref x] sk st Q = am_g d X am_m6056 15 [.ref x] (.ref x :: sk) st Q := am_gu.trans rfl
theorem u6056_15 {v0 : Value} : am_g d X am_m6056 15 [v0] sk st Q = am_g d X am_m6056 16 [v0] (.int (am_i 1) :: sk) st Q := am_gu.trans rfl
theorem u6056_16 {v0 : Value} : am_g d X am_m6056 16 [v0] sk st Q = am_pt 196 19 [v0] sk st (fun pc lc sk st => am_g d X am_m6056 pc lc sk st Q) := am_gu.trans rfl
theorem u6056_19 {x : Nat} : am_g d X am_m6056 19 [.ref x] sk st Q = am_g d X am_m6056 20 [.ref x] (.ref x :: sk) st Q := am_gu.trans rfl
theorem u6056_20 {v0 : Value} : am_g d X am_m6056 20 [v0] sk st Q = am_gt 193 23 [v0] sk st (fun pc lc sk st => am_g d X am_m6056 pc lc sk st Q) := am_gu.trans rfl
theorem u6056_23 {v0 : Value} : am_g d X am_m6056 23 [v0] sk st Q = am_gt 128 26 [v0] sk st (fun pc lc sk st => am_g d X am_m6056 pc lc sk st Q) := am_gu.trans rfl
theorem u6056_26 {v0 : Value} : am_g d X am_m6056 26 [v0] sk st Q = am_gt 160 29 [v0] sk st (fun pc lc sk st => am_g d X am_m6056 pc lc sk st Q) := am_gu.trans rfl
theorem u6056_29 {v0 : Value} {x : Int32} : am_g d X am_m6056 29 [v0] [.int x] st Q = Q (.inl (some (.int x))) st := am_gu.trans rfl
set_option maxRecDepth 100000 in
theorem of_6057 : am_of 6057 = some am_m6057 := rfl
theorem c6057 {z} {P : am_Q} : am_Ca X (d + 1) 6057 [.ref z] st P = am_g d X am_m6057 0 [.ref z] [] st P := am_cg of_6057 (by show 1 ≤ 1; decide)
theorem hd_6057 : am_hd am_m6057 = [] := rfl
theorem u6057_0 {x : Nat} : am_g d X am_m6057 0 [.ref x] sk st Q = am_g d X am_m6057 1 [.ref x] (.ref x :: sk) st Q := am_gu.trans rfl
theorem u6057_1 {v0 : Value} : am_g d X am_m6057 1 [v0] sk st Q = am_gt 196 4 [v0] sk st (fun pc lc sk st => am_g d X am_m6057 pc lc sk st Q) := am_gu.trans rfl
theorem u6057_4 {v0 : Value} {x : Int32} : am_g d X am_m6057 4 [v0] (.int x :: sk) st Q = (if decide (¬ x = 0) = true then am_g d X am_m6057 18 [v0] sk st Q else am_g d X am_m6057 7 [v0] sk st Q) := am_gu.trans rfl
theorem u6057_7 {v0 : Value} : am_g d X am_m6057 7 [v0] [] (n, sh, cl, sl, F, A, L) Q = ((5 ≤ d ∧ n ≤ cl) ∧ Q (.inr 1) (n, sh, cl + 1, sl + 6, F, A, L)) := am_gu.trans (propext ⟨fun h => ⟨⟨h.1.2.2.1, h.1.2.2.2⟩, h.2⟩, fun h => ⟨⟨rfl, Nat.zero_le _, h.1.1, h.1.2⟩, h.2⟩⟩)
theorem u6057_18 {x : Nat} : am_g d X am_m6057 18 [.ref x] sk st Q = am_g d X am_m6057 19 [.ref x] (.ref x :: sk) st Q := am_gu.trans rfl
theorem u6057_19 {v0 : Value} : am_g d X am_m6057 19 [v0] (.ref o :: sk) st Q = ((am_ob st o 6 ∧ sk.length ≤ 5) ∧ am_Ca X d 6066 [.ref o] st (am_af am_m6057 19 [v0] sk (fun pc lc sk st => am_g d X am_m6057 pc lc sk st Q) Q)) := am_gu.trans rfl
theorem u6057_22 {x : Nat} : am_g d X am_m6057 22 [.ref x] sk st Q = am_g d X am_m6057 23 [.ref x] (.ref x :: sk) st Q := am_gu.trans rfl
theorem u6057_23 {v0 : Value} : am_g d X am_m6057 23 [v0] sk st Q = am_gt 193 26 [v0] sk st (fun pc lc sk st => am_g d X am_m6057 pc lc sk st Q) := am_gu.trans rfl
theorem u6057_26 {v0 : Value} : am_g d X am_m6057 26 [v0] sk st Q = am_gt 128 29 [v0] sk st (fun pc lc sk st => am_g d X am_m6057 pc lc sk st Q) := am_gu.trans rfl
theorem u6057_29 {x : Nat} : am_g d X am_m6057 29 [.ref x] sk st Q = am_g d X am_m6057 30 [.ref x] (.ref x :: sk) st Q := am_gu.trans rfl
theorem u6057_30 {v0 : Value} : am_g d X am_m6057 30 [v0] sk st Q = am_gt 195 33 [v0] sk st (fun pc lc sk st => am_g d X am_m6057 pc lc sk st Q) := am_gu.trans rfl
theorem u6057_33 {a0 : Value} {v0 : Value} : am_g d X am_m6057 33 [v0] (a0 :: .ref o :: sk) st Q = ((am_ob st o 5 ∧ sk.length ≤ 5) ∧ am_Ca X d 5002 [.ref o, a0] st (am_af am_m6057 33 [v0] sk (fun pc lc sk st => am_g d X am_m6057 pc lc sk st Q) Q)) := am_gu.trans rfl
theorem u6057_36 {x : Nat} : am_g d X am_m6057 36 [.ref x] sk st Q = am_g d X am_m6057 37 [.ref x] (.ref x :: sk) st Q := am_gu.trans rfl
theorem u6057_37 {v0 : Value} : am_g d X am_m6057 37 [v0] sk st Q = am_gt 193 40 [v0] sk st (fun pc lc sk st => am_g d X am_m6057 pc lc sk st Q) := am_gu.trans rfl
theorem u6057_40 {v0 : Value} : am_g d X am_m6057 40 [v0] sk st Q = am_gt 128 43 [v0] sk st (fun pc lc sk st => am_g d X am_m6057 pc lc sk st Q) := am_gu.trans rfl
theorem u6057_43 {v0 : Value} : am_g d X am_m6057 43 [v0] sk st Q = am_gt 160 46 [v0] sk st (fun pc lc sk st => am_g d X am_m6057 pc lc sk st Q) := am_gu.trans rfl
theorem u6057_46 {v0 : Value} {x : Int32} : am_g d X am_m6057 46 [v0] [.int x] st Q = Q (.inl (some (.int x))) st := am_gu.trans rfl
set_option maxRecDepth 100000 in
theorem of_6058 : am_of 6058 = some am_m6058 := rfl
theorem c6058 {z} {P : am_Q} : am_Ca X (d + 1) 6058 [.ref z] st P = am_g d X am_m6058 0 [.ref z] [] st P := am_cg of_6058 (by show 1 ≤ 1; decide)
theorem hd_6058 : am_hd am_m6058 = [] := rfl
theorem u6058_0 {x : Nat} : am_g d X am_m6058 0 [.ref x] sk st Q = am_g d X am_m6058 1 [.ref x] (.ref x :: sk) st Q := am_gu.trans rfl
theorem u6058_1 {v0 : Value} : am_g d X am_m6058 1 [v0] sk st Q = am_gt 194 4 [v0] sk st (fun pc lc sk st => am_g d X am_m6058 pc lc sk st Q) := am_gu.trans rfl
theorem u6058_4 {v0 : Value} : am_g d X am_m6058 4 [v0] sk st Q = am_gt 98 7 [v0] sk st (fun pc lc sk st => am_g d X am_m6058 pc lc sk st Q) := am_gu.trans rfl
theorem u6058_7 {v0 : Value} {x : Int32} : am_g d X am_m6058 7 [v0] (.int x :: sk) st Q = (if decide (¬ x = 0) = true then am_g d X am_m6058 21 [v0] sk st Q else am_g d X am_m6058 10 [v0] sk st Q) := am_gu.trans rfl
theorem u6058_10 {v0 : Value} : am_g d X am_m6058 10 [v0] [] (n, sh, cl, sl, F, A, L) Q = ((5 ≤ d ∧ n ≤ cl) ∧ Q (.inr 1) (n, sh, cl + 1, sl + 6, F, A, L)) := am_gu.trans (propext ⟨fun h => ⟨⟨h.1.2.2.1, h.1.2.2.2⟩, h.2⟩, fun h => ⟨⟨rfl, Nat.zero_le _, h.1.1, h.1.2⟩, h.2⟩⟩)
theorem u6058_21 {x : Nat} : am_g d X am_m6058 21 [.ref x] sk st Q = am_g d X am_m6058 22 [.ref x] (.ref x :: sk) st Q := am_gu.trans rfl
theorem u6058_22 {v0 : Value} : am_g d X am_m6058 22 [v0] sk st Q = am_gt 194 25 [v0] sk st (fun pc lc sk st => am_g d X am_m6058 pc lc sk st Q) := am_gu.trans rfl
theorem u6058_25 {x : Nat} : am_g d X am_m6058 25 [.ref x] sk st Q = am_g d X am_m6058 26 [.ref x] (.ref x :: sk) st Q := am_gu.trans rfl
theorem u6058_26 {v0 : Value} : am_g d X am_m6058 26 [v0] sk st Q = am_gt 193 29 [v0] sk st (fun pc lc sk st => am_g d X am_m6058 pc lc sk st Q) := am_gu.trans rfl
theorem u6058_29 {v0 : Value} : am_g d X am_m6058 29 [v0] sk st Q = am_gt 128 32 [v0] sk st (fun pc lc sk st => am_g d X am_m6058 pc lc sk st Q) := am_gu.trans rfl
theorem u6058_32 {a0 : Value} {v0 : Value} : am_g d X am_m6058 32 [v0] (a0 :: .ref o :: sk) st Q = ((am_ob st o 3 ∧ sk.length ≤ 5) ∧ am_Ca X d 3003 [.ref o, a0] st (am_af am_m6058 32 [v0] sk (fun pc lc sk st => am_g d X am_m6058 pc lc sk st Q) Q)) := am_gu.trans rfl
theorem u6058_35 {x : Nat} : am_g d X am_m6058 35 [.ref x] sk st Q = am_g d X am_m6058 36 [.ref x] (.ref x :: sk) st Q := am_gu.trans rfl
theorem u6058_36 {v0 : Value} : am_g d X am_m6058 36 [v0] sk st Q = am_gt 194 39 [v0] sk st (fun pc lc sk st => am_g d X am_m6058 pc lc sk st Q) := am_gu.trans rfl
theorem u6058_39 {v0 : Value} : am_g d X am_m6058 39 [v0] sk st Q = am_gt 98 42 [v0] sk st (fun pc lc sk st => am_g d X am_m6058 pc lc sk st Q) := am_gu.trans rfl
theorem u6058_42 {v0 : Value} {x : Int32} : am_g d X am_m6058 42 [v0] [.int x] st Q = Q (.inl (some (.int x))) st := am_gu.trans rfl
set_option maxRecDepth 100000 in
theorem of_6059 : am_of 6059 = some am_m6059 := rfl
theorem c6059 {a0 a1} {P : am_Q} : am_Ca X (d + 1) 6059 [.int a0, .int a1] st P = am_g d X am_m6059 0 [.int a0, .int a1] [] st P := am_cg of_6059 (by show 2 ≤ 2; decide)
theorem hd_6059 : am_hd am_m6059 = [] := rfl
theorem u6059_0 {v1 : Value} {x : Int32} : am_g d X am_m6059 0 [.int x, v1] sk st Q = am_g d X am_m6059 1 [.int x, v1] (.int x :: sk) st Q := am_gu.trans rfl
theorem u6059_1 {v0 : Value} {v1 : Value} {x : Int32} : am_g d X am_m6059 1 [v0, v1] (.int x :: sk) st Q = (if decide (x < 0) = true then am_g d X am_m6059 23 [v0, v1] sk st Q else am_g d X am_m6059 4 [v0, v1] sk st Q) := am_gu.trans rfl
theorem u6059_4 {v1 : Value} {x : Int32} : am_g d X am_m6059 4 [.int x, v1] sk st Q = am_g d X am_m6059 5 [.int x, v1] (.int x :: sk) st Q := am_gu.trans rfl
theorem u6059_5 {v0 : Value} {v1 : Value} : am_g d X am_m6059 5 [v0, v1] sk st Q = am_g d X am_m6059 6 [v0, v1] (.int (am_i 4) :: sk) st Q := am_gu.trans rfl
theorem u6059_6 {v0 : Value} {v1 : Value} {x : Int32} {y : Int32} : am_g d X am_m6059 6 [v0, v1] (.int y :: .int x :: sk) st Q = (if decide (y ≤ x) = true then am_g d X am_m6059 23 [v0, v1] sk st Q else am_g d X am_m6059 9 [v0, v1] sk st Q) := am_gu.trans rfl
theorem u6059_9 {v0 : Value} {x : Int32} : am_g d X am_m6059 9 [v0, .int x] sk st Q = am_g d X am_m6059 10 [v0, .int x] (.int x :: sk) st Q := am_gu.trans rfl
theorem u6059_10 {v0 : Value} {v1 : Value} {x : Int32} : am_g d X am_m6059 10 [v0, v1] (.int x :: sk) st Q = (if decide (x < 0) = true then am_g d X am_m6059 23 [v0, v1] sk st Q else am_g d X am_m6059 13 [v0, v1] sk st Q) := am_gu.trans rfl
theorem u6059_13 {v0 : Value} {x : Int32} : am_g d X am_m6059 13 [v0, .int x] sk st Q = am_g d X am_m6059 14 [v0, .int x] (.int x :: sk) st Q := am_gu.trans rfl
theorem u6059_14 {v0 : Value} {v1 : Value} : am_g d X am_m6059 14 [v0, v1] sk st Q = am_g d X am_m6059 16 [v0, v1] (.int (am_i 6) :: sk) st Q := am_gu.trans rfl
theorem u6059_16 {v0 : Value} {v1 : Value} {x : Int32} {y : Int32} : am_g d X am_m6059 16 [v0, v1] (.int y :: .int x :: sk) st Q = (if decide (y ≤ x) = true then am_g d X am_m6059 23 [v0, v1] sk st Q else am_g d X am_m6059 19 [v0, v1] sk st Q) := am_gu.trans rfl
theorem u6059_19 {v0 : Value} {v1 : Value} : am_g d X am_m6059 19 [v0, v1] sk st Q = am_g d X am_m6059 20 [v0, v1] (.int (am_i 1) :: sk) st Q := am_gu.trans rfl
theorem u6059_20 {v0 : Value} {v1 : Value} : am_g d X am_m6059 20 [v0, v1] sk st Q = am_g d X am_m6059 24 [v0, v1] sk st Q := am_gu.trans rfl
theorem u6059_23 {v0 : Value} {v1 : Value} : am_g d X am_m6059 23 [v0, v1] sk st Q = am_g d X am_m6059 24 [v0, v1] (.int (am_i 0) :: sk) st Q := am_gu.trans rfl
theorem u6059_24 {v0 : Value} {v1 : Value} {x : Int32} : am_g d X am_m6059 24 [v0, v1] [.int x] st Q = ((x = 0 ∨ x = 1) ∧ Q (.inl (some (.int x))) st) := am_gu.trans rfl
set_option maxRecDepth 100000 in
theorem of_6060 : am_of 6060 = some am_m6060 := rfl
theorem c6060 {a0 a1} {P : am_Q} : am_Ca X (d + 1) 6060 [.int a0, .int a1] st P = am_g d X am_m6060 0 [.int a0, .int a1] [] st P := am_cg of_6060 (by show 2 ≤ 2; decide)
theorem hd_6060 : am_hd am_m6060 = [] := rfl
theorem u6060_0 {v1 : Value} {x : Int32} : am_g d X am_m6060 0 [.int x, v1] sk st Q = am_g d X am_m6060 1 [.int x, v1] (.int x :: sk) st Q := am_gu.trans rfl
theorem u6060_1 {v0 : Value} {v1 : Value} : am_g d X am_m6060 1 [v0, v1] sk st Q = am_g d X am_m6060 3 [v0, v1] (.int (am_i 6) :: sk) st Q := am_gu.trans rfl
theorem u6060_3 {v0 : Value} {v1 : Value} {x : Int32} {y : Int32} : am_g d X am_m6060 3 [v0, v1] (.int y :: .int x :: sk) st Q = am_g d X am_m6060 4 [v0, v1] (.int (x * y) :: sk) st Q := am_gu.trans rfl
theorem u6060_4 {v0 : Value} {x : Int32} : am_g d X am_m6060 4 [v0, .int x] sk st Q = am_g d X am_m6060 5 [v0, .int x] (.int x :: sk) st Q := am_gu.trans rfl
theorem u6060_5 {v0 : Value} {v1 : Value} {x : Int32} {y : Int32} : am_g d X am_m6060 5 [v0, v1] (.int y :: .int x :: sk) st Q = am_g d X am_m6060 6 [v0, v1] (.int (x + y) :: sk) st Q := am_gu.trans rfl
theorem u6060_6 {v0 : Value} {v1 : Value} {x : Int32} : am_g d X am_m6060 6 [v0, v1] [.int x] st Q = Q (.inl (some (.int x))) st := am_gu.trans rfl
set_option maxRecDepth 100000 in
theorem of_6061 : am_of 6061 = some am_m6061 := rfl
theorem c6061 {a0 a1} {P : am_Q} : am_Ca X (d + 1) 6061 [.int a0, .int a1] st P = am_g d X am_m6061 0 [.int a0, .int a1] [] st P := am_cg of_6061 (by show 2 ≤ 2; decide)
theorem hd_6061 : am_hd am_m6061 = [] := rfl
theorem u6061_0 {v1 : Value} {x : Int32} : am_g d X am_m6061 0 [.int x, v1] sk st Q = am_g d X am_m6061 1 [.int x, v1] (.int x :: sk) st Q := am_gu.trans rfl
theorem u6061_1 {v0 : Value} {x : Int32} : am_g d X am_m6061 1 [v0, .int x] sk st Q = am_g d X am_m6061 2 [v0, .int x] (.int x :: sk) st Q := am_gu.trans rfl
theorem u6061_2 {a0 : Value} {a1 : Value} {v0 : Value} {v1 : Value} : am_g d X am_m6061 2 [v0, v1] (a1 :: a0 :: sk) st Q = (sk.length ≤ 4 ∧ am_Ca X d 6059 [a0, a1] st (am_af am_m6061 2 [v0, v1] sk (fun pc lc sk st => am_g d X am_m6061 pc lc sk st Q) Q)) := am_gu.trans (propext ⟨fun h => ⟨h.1.2, h.2⟩, fun h => ⟨⟨Nat.le_add_left _ _, h.1⟩, h.2⟩⟩)
theorem u6061_5 {v0 : Value} {v1 : Value} {x : Int32} : am_g d X am_m6061 5 [v0, v1] (.int x :: sk) st Q = (if decide (¬ x = 0) = true then am_g d X am_m6061 19 [v0, v1] sk st Q else am_g d X am_m6061 8 [v0, v1] sk st Q) := am_gu.trans rfl
theorem u6061_8 {v0 : Value} {v1 : Value} : am_g d X am_m6061 8 [v0, v1] [] (n, sh, cl, sl, F, A, L) Q = ((5 ≤ d ∧ n ≤ cl) ∧ Q (.inr 0) (n, sh, cl + 1, sl + 6, F, A, L)) := am_gu.trans (propext ⟨fun h => ⟨⟨h.1.2.2.1, h.1.2.2.2⟩, h.2⟩, fun h => ⟨⟨rfl, Nat.zero_le _, h.1.1, h.1.2⟩, h.2⟩⟩)
theorem u6061_19 {v0 : Value} {v1 : Value} : am_g d X am_m6061 19 [v0, v1] [] st Q = Q (.inl none) st := am_gu.trans rfl
set_option maxRecDepth 100000 in
theorem of_6062 : am_of 6062 = some am_m6062 := rfl
theorem c6062 {a0} {P : am_Q} : am_Ca X (d + 1) 6062 [.int a0] st P = am_g d X am_m6062 0 [.int a0] [] st P := am_cg of_6062 (by show 1 ≤ 1; decide)
theorem hd_6062 : am_hd am_m6062 = [] := rfl
theorem u6062_0 {x : Int32} : am_g d X am_m6062 0 [.int x] sk st Q = am_g d X am_m6062 1 [.int x] (.int x :: sk) st Q := am_gu.trans rfl
theorem u6062_1 {v0 : Value} {x : Int32} : am_g d X am_m6062 1 [v0] (.int x :: sk) st Q = (if decide (x < 0) = true then am_g d X am_m6062 10 [v0] sk st Q else am_g d X am_m6062 4 [v0] sk st Q) := am_gu.trans rfl
theorem u6062_4 {x : Int32} : am_g d X am_m6062 4 [.int x] sk st Q = am_g d X am_m6062 5 [.int x] (.int x :: sk) st Q := am_gu.trans rfl
theorem u6062_5 {v0 : Value} : am_g d X am_m6062 5 [v0] sk st Q = am_g d X am_m6062 7 [v0] (.int (am_i 6) :: sk) st Q := am_gu.trans rfl
theorem u6062_7 {v0 : Value} {x : Int32} {y : Int32} : am_g d X am_m6062 7 [v0] (.int y :: .int x :: sk) st Q = (if decide (x < y) = true then am_g d X am_m6062 21 [v0] sk st Q else am_g d X am_m6062 10 [v0] sk st Q) := am_gu.trans rfl
theorem u6062_10 {v0 : Value} : am_g d X am_m6062 10 [v0] [] (n, sh, cl, sl, F, A, L) Q = ((5 ≤ d ∧ n ≤ cl) ∧ Q (.inr 0) (n, sh, cl + 1, sl + 6, F, A, L)) := am_gu.trans (propext ⟨fun h => ⟨⟨h.1.2.2.1, h.1.2.2.2⟩, h.2⟩, fun h => ⟨⟨rfl, Nat.zero_le _, h.1.1, h.1.2⟩, h.2⟩⟩)
theorem u6062_21 {v0 : Value} : am_g d X am_m6062 21 [v0] [] st Q = Q (.inl none) st := am_gu.trans rfl
set_option maxRecDepth 100000 in
theorem of_6063 : am_of 6063 = some am_m6063 := rfl
theorem c6063 {z a0} {P : am_Q} : am_Ca X (d + 1) 6063 [.ref z, .int a0] st P = am_g d X am_m6063 0 [.ref z, .int a0] [] st P := am_cg of_6063 (by show 2 ≤ 2; decide)
theorem hd_6063 : am_hd am_m6063 = [] := rfl
theorem u6063_0 {v1 : Value} {x : Nat} : am_g d X am_m6063 0 [.ref x, v1] sk st Q = am_g d X am_m6063 1 [.ref x, v1] (.ref x :: sk) st Q := am_gu.trans rfl
theorem u6063_1 {v0 : Value} {v1 : Value} : am_g d X am_m6063 1 [v0, v1] sk st Q = am_gt 193 4 [v0, v1] sk st (fun pc lc sk st => am_g d X am_m6063 pc lc sk st Q) := am_gu.trans rfl
theorem u6063_4 {v0 : Value} {v1 : Value} : am_g d X am_m6063 4 [v0, v1] sk st Q = am_gt 128 7 [v0, v1] sk st (fun pc lc sk st => am_g d X am_m6063 pc lc sk st Q) := am_gu.trans rfl
theorem u6063_7 {v0 : Value} {x : Int32} : am_g d X am_m6063 7 [v0, .int x] sk st Q = am_g d X am_m6063 8 [v0, .int x] (.int x :: sk) st Q := am_gu.trans rfl
theorem u6063_8 {a0 : Value} {v0 : Value} {v1 : Value} : am_g d X am_m6063 8 [v0, v1] (a0 :: .ref o :: sk) st Q = ((am_ob st o 5 ∧ sk.length ≤ 5) ∧ am_Ca X d 5014 [.ref o, a0] st (am_af am_m6063 8 [v0, v1] sk (fun pc lc sk st => am_g d X am_m6063 pc lc sk st Q) Q)) := am_gu.trans rfl
theorem u6063_11 {v0 : Value} {v1 : Value} {x : Int32} : am_g d X am_m6063 11 [v0, v1] (.int x :: sk) st Q = (if decide (¬ x = 0) = true then am_g d X am_m6063 25 [v0, v1] sk st Q else am_g d X am_m6063 14 [v0, v1] sk st Q) := am_gu.trans rfl
theorem u6063_14 {v0 : Value} {v1 : Value} : am_g d X am_m6063 14 [v0, v1] [] (n, sh, cl, sl, F, A, L) Q = ((5 ≤ d ∧ n ≤ cl) ∧ Q (.inr 1) (n, sh, cl + 1, sl + 6, F, A, L)) := am_gu.trans (propext ⟨fun h => ⟨⟨h.1.2.2.1, h.1.2.2.2⟩, h.2⟩, fun h => ⟨⟨rfl, Nat.zero_le _, h.1.1, h.1.2⟩, h.2⟩⟩)
theorem u6063_25 {v0 : Value} {v1 : Value} : am_g d X am_m6063 25 [v0, v1] [] st Q = Q (.inl none) st := am_gu.trans rfl
set_option maxRecDepth 100000 in
theorem of_6064 : am_of 6064 = some am_m6064 := rfl
theorem c6064 {z a0} {P : am_Q} : am_Ca X (d + 1) 6064 [.ref z, .int a0] st P = am_g d X am_m6064 0 [.ref z, .int a0] [] st P := am_cg of_6064 (by show 2 ≤ 2; decide)
theorem hd_6064 : am_hd am_m6064 = [] := rfl
theorem u6064_0 {v1 : Value} {x : Nat} : am_g d X am_m6064 0 [.ref x, v1] sk st Q = am_g d X am_m6064 1 [.ref x, v1] (.ref x :: sk) st Q := am_gu.trans rfl
theorem u6064_1 {v0 : Value} {v1 : Value} : am_g d X am_m6064 1 [v0, v1] sk st Q = am_gt 193 4 [v0, v1] sk st (fun pc lc sk st => am_g d X am_m6064 pc lc sk st Q) := am_gu.trans rfl
theorem u6064_4 {v0 : Value} {v1 : Value} : am_g d X am_m6064 4 [v0, v1] sk st Q = am_gt 128 7 [v0, v1] sk st (fun pc lc sk st => am_g d X am_m6064 pc lc sk st Q) := am_gu.trans rfl
theorem u6064_7 {v0 : Value} {x : Int32} : am_g d X am_m6064 7 [v0, .int x] sk st Q = am_g d X am_m6064 8 [v0, .int x] (.int x :: sk) st Q := am_gu.trans rfl
theorem u6064_8 {a0 : Value} {v0 : Value} {v1 : Value} : am_g d X am_m6064 8 [v0, v1] (a0 :: .ref o :: sk) st Q = ((am_ob st o 5 ∧ sk.length ≤ 5) ∧ am_Ca X d 5003 [.ref o, a0] st (am_af am_m6064 8 [v0, v1] sk (fun pc lc sk st => am_g d X am_m6064 pc lc sk st Q) Q)) := am_gu.trans rfl
theorem u6064_11 {v0 : Value} {v1 : Value} {x : Int32} : am_g d X am_m6064 11 [v0, v1] (.int x :: sk) st Q = (if decide (¬ x = 0) = true then am_g d X am_m6064 25 [v0, v1] sk st Q else am_g d X am_m6064 14 [v0, v1] sk st Q) := am_gu.trans rfl
theorem u6064_14 {v0 : Value} {v1 : Value} : am_g d X am_m6064 14 [v0, v1] [] (n, sh, cl, sl, F, A, L) Q = ((5 ≤ d ∧ n ≤ cl) ∧ Q (.inr 0) (n, sh, cl + 1, sl + 6, F, A, L)) := am_gu.trans (propext ⟨fun h => ⟨⟨h.1.2.2.1, h.1.2.2.2⟩, h.2⟩, fun h => ⟨⟨rfl, Nat.zero_le _, h.1.1, h.1.2⟩, h.2⟩⟩)
theorem u6064_25 {v0 : Value} {v1 : Value} : am_g d X am_m6064 25 [v0, v1] [] st Q = Q (.inl none) st := am_gu.trans rfl
set_option maxRecDepth 100000 in
theorem of_6065 : am_of 6065 = some am_m6065 := rfl
theorem c6065 {z a0} {P : am_Q} : am_Ca X (d + 1) 6065 [.ref z, .int a0] st P = am_g d X am_m6065 0 [.ref z, .int a0] [] st P := am_cg of_6065 (by show 2 ≤ 2; decide)
theorem hd_6065 : am_hd am_m6065 = [] := rfl
theorem u6065_0 {v1 : Value} {x : Nat} : am_g d X am_m6065 0 [.ref x, v1] sk st Q = am_g d X am_m6065 1 [.ref x, v1] (.ref x :: sk) st Q := am_gu.trans rfl
theorem u6065_1 {v0 : Value} {v1 : Value} : am_g d X am_m6065 1 [v0, v1] sk st Q = am_gt 193 4 [v0, v1] sk st (fun pc lc sk st => am_g d X am_m6065 pc lc sk st Q) := am_gu.trans rfl
theorem u6065_4 {v0 : Value} {v1 : Value} : am_g d X am_m6065 4 [v0, v1] sk st Q = am_gt 128 7 [v0, v1] sk st (fun pc lc sk st => am_g d X am_m6065 pc lc sk st Q) := am_gu.trans rfl
theorem u6065_7 {v0 : Value} {x : Int32} : am_g d X am_m6065 7 [v0, .int x] sk st Q = am_g d X am_m6065 8 [v0, .int x] (.int x :: sk) st Q := am_gu.trans rfl
theorem u6065_8 {a0 : Value} {v0 : Value} {v1 : Value} : am_g d X am_m6065 8 [v0, v1] (a0 :: .ref o :: sk) st Q = ((am_ob st o 5 ∧ sk.length ≤ 5) ∧ am_Ca X d 5028 [.ref o, a0] st (am_af am_m6065 8 [v0, v1] sk (fun pc lc sk st => am_g d X am_m6065 pc lc sk st Q) Q)) := am_gu.trans rfl
theorem u6065_11 {v0 : Value} {v1 : Value} {x : Int32} : am_g d X am_m6065 11 [v0, v1] (.int x :: sk) st Q = (if decide (¬ x = 0) = true then am_g d X am_m6065 25 [v0, v1] sk st Q else am_g d X am_m6065 14 [v0, v1] sk st Q) := am_gu.trans rfl
theorem u6065_14 {v0 : Value} {v1 : Value} : am_g d X am_m6065 14 [v0, v1] [] (n, sh, cl, sl, F, A, L) Q = ((5 ≤ d ∧ n ≤ cl) ∧ Q (.inr 1) (n, sh, cl + 1, sl + 6, F, A, L)) := am_gu.trans (propext ⟨fun h => ⟨⟨h.1.2.2.1, h.1.2.2.2⟩, h.2⟩, fun h => ⟨⟨rfl, Nat.zero_le _, h.1.1, h.1.2⟩, h.2⟩⟩)
theorem u6065_25 {v0 : Value} {v1 : Value} : am_g d X am_m6065 25 [v0, v1] [] st Q = Q (.inl none) st := am_gu.trans rfl
set_option maxRecDepth 100000 in
theorem of_6066 : am_of 6066 = some am_m6066 := rfl
theorem c6066 {z} {P : am_Q} : am_Ca X (d + 1) 6066 [.ref z] st P = am_g d X am_m6066 0 [.ref z] [] st P := am_cg of_6066 (by show 1 ≤ 1; decide)
theorem hd_6066 : am_hd am_m6066 = [] := rfl
theorem u6066_0 {x : Nat} : am_g d X am_m6066 0 [.ref x] sk st Q = am_g d X am_m6066 1 [.ref x] (.ref x :: sk) st Q := am_gu.trans rfl
theorem u6066_1 {v0 : Value} : am_g d X am_m6066 1 [v0] sk st Q = am_gt 194 4 [v0] sk st (fun pc lc sk st => am_g d X am_m6066 pc lc sk st Q) := am_gu.trans rfl
theorem u6066_4 {x : Nat} : am_g d X am_m6066 4 [.ref x] sk st Q = am_g d X am_m6066 5 [.ref x] (.ref x :: sk) st Q := am_gu.trans rfl
theorem u6066_5 {v0 : Value} : am_g d X am_m6066 5 [v0] sk st Q = am_gt 193 8 [v0] sk st (fun pc lc sk st => am_g d X am_m6066 pc lc sk st Q) := am_gu.trans rfl
theorem u6066_8 {v0 : Value} : am_g d X am_m6066 8 [v0] sk st Q = am_gt 128 11 [v0] sk st (fun pc lc sk st => am_g d X am_m6066 pc lc sk st Q) := am_gu.trans rfl
theorem u6066_11 {a0 : Value} {v0 : Value} : am_g d X am_m6066 11 [v0] (a0 :: .ref o :: sk) st Q = ((am_ob st o 3 ∧ sk.length ≤ 5) ∧ am_Ca X d 3002 [.ref o, a0] st (am_af am_m6066 11 [v0] sk (fun pc lc sk st => am_g d X am_m6066 pc lc sk st Q) Q)) := am_gu.trans rfl
theorem u6066_14 {v0 : Value} : am_g d X am_m6066 14 [v0] [] st Q = Q (.inl none) st := am_gu.trans rfl
set_option maxRecDepth 100000 in
theorem of_6067 : am_of 6067 = some am_m6067 := rfl
theorem c6067 {z a0} {P : am_Q} : am_Ca X (d + 1) 6067 [.ref z, .int a0] st P = am_g d X am_m6067 0 [.ref z, .int a0, am_u] [] st P := am_cg of_6067 (by show 2 ≤ 3; decide)
theorem hd_6067 : am_hd am_m6067 = [] := rfl
theorem u6067_0 {v1 : Value} {v2 : Value} {x : Nat} : am_g d X am_m6067 0 [.ref x, v1, v2] sk st Q = am_g d X am_m6067 1 [.ref x, v1, v2] (.ref x :: sk) st Q := am_gu.trans rfl
theorem u6067_1 {v0 : Value} {v1 : Value} {v2 : Value} : am_g d X am_m6067 1 [v0, v1, v2] sk st Q = am_gt 192 4 [v0, v1, v2] sk st (fun pc lc sk st => am_g d X am_m6067 pc lc sk st Q) := am_gu.trans rfl
theorem u6067_4 {v0 : Value} {v2 : Value} {x : Int32} : am_g d X am_m6067 4 [v0, .int x, v2] sk st Q = am_g d X am_m6067 5 [v0, .int x, v2] (.int x :: sk) st Q := am_gu.trans rfl
theorem u6067_5 {v0 : Value} {v1 : Value} {v2 : Value} : am_g d X am_m6067 5 [v0, v1, v2] sk st Q = am_g d X am_m6067 6 [v0, v1, v2] (.int (am_i 1) :: sk) st Q := am_gu.trans rfl
theorem u6067_6 {v0 : Value} {v1 : Value} {v2 : Value} {x : Int32} {y : Int32} : am_g d X am_m6067 6 [v0, v1, v2] (.int y :: .int x :: sk) st Q = am_g d X am_m6067 7 [v0, v1, v2] (.int (x + y) :: sk) st Q := am_gu.trans rfl
theorem u6067_7 {a0 : Value} {v0 : Value} {v1 : Value} {v2 : Value} : am_g d X am_m6067 7 [v0, v1, v2] (a0 :: .ref o :: sk) st Q = ((am_ob st o 2 ∧ sk.length ≤ 5) ∧ am_Ca X d 2009 [.ref o, a0] st (am_af am_m6067 7 [v0, v1, v2] sk (fun pc lc sk st => am_g d X am_m6067 pc lc sk st Q) Q)) := am_gu.trans rfl
theorem u6067_10 {v0 : Value} {v1 : Value} {v2 : Value} {x : Int32} : am_g d X am_m6067 10 [v0, v1, v2] (.int x :: sk) st Q = am_g d X am_m6067 11 [v0, am_kc v1, .int x] sk st Q := am_gu.trans (congrArg (fun l => am_g d X am_m6067 11 (List.set l 2 (.int x)) sk st Q) (kl_2 (l := [v2])))
theorem u6067_11 {v1 : Value} {v2 : Value} {x : Nat} : am_g d X am_m6067 11 [.ref x, v1, v2] sk st Q = am_g d X am_m6067 12 [.ref x, v1, v2] (.ref x :: sk) st Q := am_gu.trans rfl
theorem u6067_12 {v0 : Value} {v1 : Value} {v2 : Value} : am_g d X am_m6067 12 [v0, v1, v2] sk st Q = am_gt 192 15 [v0, v1, v2] sk st (fun pc lc sk st => am_g d X am_m6067 pc lc sk st Q) := am_gu.trans rfl
theorem u6067_15 {v0 : Value} {v2 : Value} {x : Int32} : am_g d X am_m6067 15 [v0, .int x, v2] sk st Q = am_g d X am_m6067 16 [v0, .int x, v2] (.int x :: sk) st Q := am_gu.trans rfl
theorem u6067_16 {a0 : Value} {v0 : Value} {v1 : Value} {v2 : Value} : am_g d X am_m6067 16 [v0, v1, v2] (a0 :: .ref o :: sk) st Q = ((am_ob st o 2 ∧ sk.length ≤ 5) ∧ am_Ca X d 2006 [.ref o, a0] st (am_af am_m6067 16 [v0, v1, v2] sk (fun pc lc sk st => am_g d X am_m6067 pc lc sk st Q) Q)) := am_gu.trans rfl
theorem u6067_19 {v0 : Value} {v1 : Value} {v2 : Value} : am_g d X am_m6067 19 [v0, v1, v2] sk st Q = am_ts 170 97 115 #[124, 116, 108, 170, 170, 170, 170, 170, 170, 170, 170, 170, 141, 170, 170, 150, 170, 160, 132] [v0, v1, v2] sk st (fun pc lc sk st => am_g d X am_m6067 pc lc sk st Q) := am_gu.trans rfl
theorem u6067_108 {v1 : Value} {v2 : Value} {x : Nat} : am_g d X am_m6067 108 [.ref x, v1, v2] sk st Q = am_g d X am_m6067 109 [.ref x, v1, v2] (.ref x :: sk) st Q := am_gu.trans rfl
theorem u6067_109 {v0 : Value} {v1 : Value} {v2 : Value} : am_g d X am_m6067 109 [v0, v1, v2] sk st Q = am_gt 193 112 [v0, v1, v2] sk st (fun pc lc sk st => am_g d X am_m6067 pc lc sk st Q) := am_gu.trans rfl
theorem u6067_112 {v0 : Value} {v1 : Value} {v2 : Value} : am_g d X am_m6067 112 [v0, v1, v2] (.ref o :: sk) st Q = ((am_ob st o 4 ∧ sk.length ≤ 5) ∧ am_Ca X d 4003 [.ref o] st (am_af am_m6067 112 [v0, v1, v2] sk (fun pc lc sk st => am_g d X am_m6067 pc lc sk st Q) Q)) := am_gu.trans rfl
theorem u6067_115 {v0 : Value} {v1 : Value} {v2 : Value} {x : Int32} : am_g d X am_m6067 115 [v0, v1, v2] [.int x] st Q = ((x = 0 ∨ x = 1) ∧ Q (.inl (some (.int x))) st) := am_gu.trans rfl
theorem u6067_116 {v1 : Value} {v2 : Value} {x : Nat} : am_g d X am_m6067 116 [.ref x, v1, v2] sk st Q = am_g d X am_m6067 117 [.ref x, v1, v2] (.ref x :: sk) st Q := am_gu.trans rfl
theorem u6067_117 {v0 : Value} {v1 : Value} {v2 : Value} : am_g d X am_m6067 117 [v0, v1, v2] sk st Q = am_gt 193 120 [v0, v1, v2] sk st (fun pc lc sk st => am_g d X am_m6067 pc lc sk st Q) := am_gu.trans rfl
theorem u6067_120 {v0 : Value} {v1 : Value} {v2 : Value} : am_g d X am_m6067 120 [v0, v1, v2] (.ref o :: sk) st Q = ((am_ob st o 4 ∧ sk.length ≤ 5) ∧ am_Ca X d 4010 [.ref o] st (am_af am_m6067 120 [v0, v1, v2] sk (fun pc lc sk st => am_g d X am_m6067 pc lc sk st Q) Q)) := am_gu.trans rfl
theorem u6067_123 {v0 : Value} {v1 : Value} {v2 : Value} {x : Int32} : am_g d X am_m6067 123 [v0, v1, v2] [.int x] st Q = ((x = 0 ∨ x = 1) ∧ Q (.inl (some (.int x))) st) := am_gu.trans rfl
theorem u6067_124 {v1 : Value} {v2 : Value} {x : Nat} : am_g d X am_m6067 124 [.ref x, v1, v2] sk st Q = am_g d X am_m6067 125 [.ref x, v1, v2] (.ref x :: sk) st Q := am_gu.trans rfl
theorem u6067_125 {v0 : Value} {v1 : Value} {v2 : Value} : am_g d X am_m6067 125 [v0, v1, v2] sk st Q = am_gt 193 128 [v0, v1, v2] sk st (fun pc lc sk st => am_g d X am_m6067 pc lc sk st Q) := am_gu.trans rfl
theorem u6067_128 {v0 : Value} {v1 : Value} {v2 : Value} : am_g d X am_m6067 128 [v0, v1, v2] (.ref o :: sk) st Q = ((am_ob st o 4 ∧ sk.length ≤ 5) ∧ am_Ca X d 4023 [.ref o] st (am_af am_m6067 128 [v0, v1, v2] sk (fun pc lc sk st => am_g d X am_m6067 pc lc sk st Q) Q)) := am_gu.trans rfl
theorem u6067_131 {v0 : Value} {v1 : Value} {v2 : Value} {x : Int32} : am_g d X am_m6067 131 [v0, v1, v2] [.int x] st Q = ((x = 0 ∨ x = 1) ∧ Q (.inl (some (.int x))) st) := am_gu.trans rfl
theorem u6067_132 {v1 : Value} {v2 : Value} {x : Nat} : am_g d X am_m6067 132 [.ref x, v1, v2] sk st Q = am_g d X am_m6067 133 [.ref x, v1, v2] (.ref x :: sk) st Q := am_gu.trans rfl
theorem u6067_133 {v0 : Value} {v1 : Value} {v2 : Value} : am_g d X am_m6067 133 [v0, v1, v2] sk st Q = am_gt 193 136 [v0, v1, v2] sk st (fun pc lc sk st => am_g d X am_m6067 pc lc sk st Q) := am_gu.trans rfl
theorem u6067_136 {v0 : Value} {v1 : Value} {x : Int32} : am_g d X am_m6067 136 [v0, v1, .int x] sk st Q = am_g d X am_m6067 137 [v0, v1, .int x] (.int x :: sk) st Q := am_gu.trans rfl
theorem u6067_137 {a0 : Value} {v0 : Value} {v1 : Value} {v2 : Value} : am_g d X am_m6067 137 [v0, v1, v2] (a0 :: .ref o :: sk) st Q = ((am_ob st o 4 ∧ sk.length ≤ 5) ∧ am_Ca X d 4014 [.ref o, a0] st (am_af am_m6067 137 [v0, v1, v2] sk (fun pc lc sk st => am_g d X am_m6067 pc lc sk st Q) Q)) := am_gu.trans rfl
theorem u6067_140 {v0 : Value} {v1 : Value} {v2 : Value} {x : Int32} : am_g d X am_m6067 140 [v0, v1, v2] [.int x] st Q = ((x = 0 ∨ x = 1) ∧ Q (.inl (some (.int x))) st) := am_gu.trans rfl
theorem u6067_141 {v1 : Value} {v2 : Value} {x : Nat} : am_g d X am_m6067 141 [.ref x, v1, v2] sk st Q = am_g d X am_m6067 142 [.ref x, v1, v2] (.ref x :: sk) st Q := am_gu.trans rfl
theorem u6067_142 {v0 : Value} {v1 : Value} {v2 : Value} : am_g d X am_m6067 142 [v0, v1, v2] sk st Q = am_gt 193 145 [v0, v1, v2] sk st (fun pc lc sk st => am_g d X am_m6067 pc lc sk st Q) := am_gu.trans rfl
theorem u6067_145 {v0 : Value} {v1 : Value} {x : Int32} : am_g d X am_m6067 145 [v0, v1, .int x] sk st Q = am_g d X am_m6067 146 [v0, v1, .int x] (.int x :: sk) st Q := am_gu.trans rfl
theorem u6067_146 {a0 : Value} {v0 : Value} {v1 : Value} {v2 : Value} : am_g d X am_m6067 146 [v0, v1, v2] (a0 :: .ref o :: sk) st Q = ((am_ob st o 4 ∧ sk.length ≤ 5) ∧ am_Ca X d 4016 [.ref o, a0] st (am_af am_m6067 146 [v0, v1, v2] sk (fun pc lc sk st => am_g d X am_m6067 pc lc sk st Q) Q)) := am_gu.trans rfl
theorem u6067_149 {v0 : Value} {v1 : Value} {v2 : Value} {x : Int32} : am_g d X am_m6067 149 [v0, v1, v2] [.int x] st Q = ((x = 0 ∨ x = 1) ∧ Q (.inl (some (.int x))) st) := am_gu.trans rfl
theorem u6067_150 {v1 : Value} {v2 : Value} {x : Nat} : am_g d X am_m6067 150 [.ref x, v1, v2] sk st Q = am_g d X am_m6067 151 [.ref x, v1, v2] (.ref x :: sk) st Q := am_gu.trans rfl
theorem u6067_151 {v0 : Value} {v1 : Value} {v2 : Value} : am_g d X am_m6067 151 [v0, v1, v2] sk st Q = am_gt 193 154 [v0, v1, v2] sk st (fun pc lc sk st => am_g d X am_m6067 pc lc sk st Q) := am_gu.trans rfl
theorem u6067_154 {v0 : Value} {v1 : Value} {x : Int32} : am_g d X am_m6067 154 [v0, v1, .int x] sk st Q = am_g d X am_m6067 155 [v0, v1, .int x] (.int x :: sk) st Q := am_gu.trans rfl
theorem u6067_155 {v0 : Value} {v1 : Value} {v2 : Value} : am_g d X am_m6067 155 [v0, v1, v2] sk st Q = am_g d X am_m6067 156 [v0, v1, v2] (.int (am_i 0) :: sk) st Q := am_gu.trans rfl
theorem u6067_156 {a0 : Value} {a1 : Value} {v0 : Value} {v1 : Value} {v2 : Value} : am_g d X am_m6067 156 [v0, v1, v2] (a1 :: a0 :: .ref o :: sk) st Q = ((am_ob st o 4 ∧ sk.length ≤ 5) ∧ am_Ca X d 4018 [.ref o, a0, a1] st (am_af am_m6067 156 [v0, v1, v2] sk (fun pc lc sk st => am_g d X am_m6067 pc lc sk st Q) Q)) := am_gu.trans rfl
theorem u6067_159 {v0 : Value} {v1 : Value} {v2 : Value} {x : Int32} : am_g d X am_m6067 159 [v0, v1, v2] [.int x] st Q = ((x = 0 ∨ x = 1) ∧ Q (.inl (some (.int x))) st) := am_gu.trans rfl
theorem u6067_160 {v1 : Value} {v2 : Value} {x : Nat} : am_g d X am_m6067 160 [.ref x, v1, v2] sk st Q = am_g d X am_m6067 161 [.ref x, v1, v2] (.ref x :: sk) st Q := am_gu.trans rfl
theorem u6067_161 {v0 : Value} {v1 : Value} {v2 : Value} : am_g d X am_m6067 161 [v0, v1, v2] sk st Q = am_gt 193 164 [v0, v1, v2] sk st (fun pc lc sk st => am_g d X am_m6067 pc lc sk st Q) := am_gu.trans rfl
theorem u6067_164 {v0 : Value} {v1 : Value} {x : Int32} : am_g d X am_m6067 164 [v0, v1, .int x] sk st Q = am_g d X am_m6067 165 [v0, v1, .int x] (.int x :: sk) st Q := am_gu.trans rfl
theorem u6067_165 {v0 : Value} {v1 : Value} {v2 : Value} : am_g d X am_m6067 165 [v0, v1, v2] sk st Q = am_g d X am_m6067 166 [v0, v1, v2] (.int (am_i 1) :: sk) st Q := am_gu.trans rfl
theorem u6067_166 {a0 : Value} {a1 : Value} {v0 : Value} {v1 : Value} {v2 : Value} : am_g d X am_m6067 166 [v0, v1, v2] (a1 :: a0 :: .ref o :: sk) st Q = ((am_ob st o 4 ∧ sk.length ≤ 5) ∧ am_Ca X d 4018 [.ref o, a0, a1] st (am_af am_m6067 166 [v0, v1, v2] sk (fun pc lc sk st => am_g d X am_m6067 pc lc sk st Q) Q)) := am_gu.trans rfl
theorem u6067_169 {v0 : Value} {v1 : Value} {v2 : Value} {x : Int32} : am_g d X am_m6067 169 [v0, v1, v2] [.int x] st Q = ((x = 0 ∨ x = 1) ∧ Q (.inl (some (.int x))) st) := am_gu.trans rfl
theorem u6067_170 {v0 : Value} {v1 : Value} {v2 : Value} : am_g d X am_m6067 170 [v0, v1, v2] sk st Q = am_g d X am_m6067 171 [v0, v1, v2] (.int (am_i 1) :: sk) st Q := am_gu.trans rfl
theorem u6067_171 {v0 : Value} {v1 : Value} {v2 : Value} {x : Int32} : am_g d X am_m6067 171 [v0, v1, v2] [.int x] st Q = ((x = 0 ∨ x = 1) ∧ Q (.inl (some (.int x))) st) := am_gu.trans rfl
set_option maxRecDepth 100000 in
theorem of_6068 : am_of 6068 = some am_m6068 := rfl
theorem c6068 {z a0} {P : am_Q} : am_Ca X (d + 1) 6068 [.ref z, .int a0] st P = am_g d X am_m6068 0 [.ref z, .int a0, am_u, am_u] [] st P := am_cg of_6068 (by show 2 ≤ 4; decide)
theorem hd_6068 : am_hd am_m6068 = [] := rfl
theorem u6068_0 {v1 : Value} {v2 : Value} {v3 : Value} {x : Nat} : am_g d X am_m6068 0 [.ref x, v1, v2, v3] sk st Q = am_g d X am_m6068 1 [.ref x, v1, v2, v3] (.ref x :: sk) st Q := am_gu.trans rfl
theorem u6068_1 {v0 : Value} {v1 : Value} {v2 : Value} {v3 : Value} : am_g d X am_m6068 1 [v0, v1, v2, v3] sk st Q = am_gt 192 4 [v0, v1, v2, v3] sk st (fun pc lc sk st => am_g d X am_m6068 pc lc sk st Q) := am_gu.trans rfl
theorem u6068_4 {v0 : Value} {v2 : Value} {v3 : Value} {x : Int32} : am_g d X am_m6068 4 [v0, .int x, v2, v3] sk st Q = am_g d X am_m6068 5 [v0, .int x, v2, v3] (.int x :: sk) st Q := am_gu.trans rfl
theorem u6068_5 {v0 : Value} {v1 : Value} {v2 : Value} {v3 : Value} : am_g d X am_m6068 5 [v0, v1, v2, v3] sk st Q = am_g d X am_m6068 6 [v0, v1, v2, v3] (.int (am_i 1) :: sk) st Q := am_gu.trans rfl
theorem u6068_6 {v0 : Value} {v1 : Value} {v2 : Value} {v3 : Value} {x : Int32} {y : Int32} : am_g d X am_m6068 6 [v0, v1, v2, v3] (.int y :: .int x :: sk) st Q = am_g d X am_m6068 7 [v0, v1, v2, v3] (.int (x + y) :: sk) st Q := am_gu.trans rfl
theorem u6068_7 {a0 : Value} {v0 : Value} {v1 : Value} {v2 : Value} {v3 : Value} : am_g d X am_m6068 7 [v0, v1, v2, v3] (a0 :: .ref o :: sk) st Q = ((am_ob st o 2 ∧ sk.length ≤ 5) ∧ am_Ca X d 2009 [.ref o, a0] st (am_af am_m6068 7 [v0, v1, v2, v3] sk (fun pc lc sk st => am_g d X am_m6068 pc lc sk st Q) Q)) := am_gu.trans rfl
theorem u6068_10 {v0 : Value} {v1 : Value} {v2 : Value} {v3 : Value} {x : Int32} : am_g d X am_m6068 10 [v0, v1, v2, v3] (.int x :: sk) st Q = am_g d X am_m6068 11 [v0, am_kc v1, .int x, v3] sk st Q := am_gu.trans (congrArg (fun l => am_g d X am_m6068 11 (List.set l 2 (.int x)) sk st Q) (kl_2 (l := [v2, v3])))
theorem u6068_11 {v1 : Value} {v2 : Value} {v3 : Value} {x : Nat} : am_g d X am_m6068 11 [.ref x, v1, v2, v3] sk st Q = am_g d X am_m6068 12 [.ref x, v1, v2, v3] (.ref x :: sk) st Q := am_gu.trans rfl
theorem u6068_12 {v0 : Value} {v1 : Value} {v2 : Value} {v3 : Value} : am_g d X am_m6068 12 [v0, v1, v2, v3] sk st Q = am_gt 192 15 [v0, v1, v2, v3] sk st (fun pc lc sk st => am_g d X am_m6068 pc lc sk st Q) := am_gu.trans rfl
theorem u6068_15 {v0 : Value} {v2 : Value} {v3 : Value} {x : Int32} : am_g d X am_m6068 15 [v0, .int x, v2, v3] sk st Q = am_g d X am_m6068 16 [v0, .int x, v2, v3] (.int x :: sk) st Q := am_gu.trans rfl
theorem u6068_16 {a0 : Value} {v0 : Value} {v1 : Value} {v2 : Value} {v3 : Value} : am_g d X am_m6068 16 [v0, v1, v2, v3] (a0 :: .ref o :: sk) st Q = ((am_ob st o 2 ∧ sk.length ≤ 5) ∧ am_Ca X d 2006 [.ref o, a0] st (am_af am_m6068 16 [v0, v1, v2, v3] sk (fun pc lc sk st => am_g d X am_m6068 pc lc sk st Q) Q)) := am_gu.trans rfl
theorem u6068_19 {v0 : Value} {v1 : Value} {v2 : Value} {v3 : Value} : am_g d X am_m6068 19 [v0, v1, v2, v3] sk st Q = am_ts 191 97 115 #[130, 119, 108, 191, 191, 191, 191, 191, 191, 191, 191, 191, 153, 191, 191, 165, 191, 178, 141] [v0, v1, v2, v3] sk st (fun pc lc sk st => am_g d X am_m6068 pc lc sk st Q) := am_gu.trans rfl
theorem u6068_108 {v1 : Value} {v2 : Value} {v3 : Value} {x : Nat} : am_g d X am_m6068 108 [.ref x, v1, v2, v3] sk st Q = am_g d X am_m6068 109 [.ref x, v1, v2, v3] (.ref x :: sk) st Q := am_gu.trans rfl
theorem u6068_109 {v0 : Value} {v1 : Value} {v2 : Value} {v3 : Value} : am_g d X am_m6068 109 [v0, v1, v2, v3] sk st Q = am_gt 193 112 [v0, v1, v2, v3] sk st (fun pc lc sk st => am_g d X am_m6068 pc lc sk st Q) := am_gu.trans rfl
theorem u6068_112 {v0 : Value} {v1 : Value} {v2 : Value} {v3 : Value} : am_g d X am_m6068 112 [v0, v1, v2, v3] (.ref o :: sk) st Q = ((am_ob st o 4 ∧ sk.length ≤ 5) ∧ am_Ca X d 4004 [.ref o] st (am_af am_m6068 112 [v0, v1, v2, v3] sk (fun pc lc sk st => am_g d X am_m6068 pc lc sk st Q) Q)) := am_gu.trans rfl
theorem u6068_115i {v0 : Value} {v1 : Value} {v2 : Value} {v3 : Value} {x : Int32} : am_g d X am_m6068 115 [v0, v1, v2, v3] (.int x :: sk) st Q = am_g d X am_m6068 116 [v0, v1, v2, v3] sk st Q := am_gu.trans rfl
theorem u6068_115r {v0 : Value} {v1 : Value} {v2 : Value} {v3 : Value} {x : Nat} : am_g d X am_m6068 115 [v0, v1, v2, v3] (.ref x :: sk) st Q = am_g d X am_m6068 116 [v0, v1, v2, v3] sk st Q := am_gu.trans rfl
theorem u6068_116 {v0 : Value} {v1 : Value} {v2 : Value} {v3 : Value} : am_g d X am_m6068 116 [v0, v1, v2, v3] sk st Q = am_g d X am_m6068 232 [v0, v1, v2, v3] sk st Q := am_gu.trans rfl
theorem u6068_119 {v1 : Value} {v2 : Value} {v3 : Value} {x : Nat} : am_g d X am_m6068 119 [.ref x, v1, v2, v3] sk st Q = am_g d X am_m6068 120 [.ref x, v1, v2, v3] (.ref x :: sk) st Q := am_gu.trans rfl
theorem u6068_120 {v0 : Value} {v1 : Value} {v2 : Value} {v3 : Value} : am_g d X am_m6068 120 [v0, v1, v2, v3] sk st Q = am_gt 193 123 [v0, v1, v2, v3] sk st (fun pc lc sk st => am_g d X am_m6068 pc lc sk st Q) := am_gu.trans rfl
theorem u6068_123 {v0 : Value} {v1 : Value} {v2 : Value} {v3 : Value} : am_g d X am_m6068 123 [v0, v1, v2, v3] (.ref o :: sk) st Q = ((am_ob st o 4 ∧ sk.length ≤ 5) ∧ am_Ca X d 4011 [.ref o] st (am_af am_m6068 123 [v0, v1, v2, v3] sk (fun pc lc sk st => am_g d X am_m6068 pc lc sk st Q) Q)) := am_gu.trans rfl
theorem u6068_126i {v0 : Value} {v1 : Value} {v2 : Value} {v3 : Value} {x : Int32} : am_g d X am_m6068 126 [v0, v1, v2, v3] (.int x :: sk) st Q = am_g d X am_m6068 127 [v0, v1, v2, v3] sk st Q := am_gu.trans rfl
theorem u6068_126r {v0 : Value} {v1 : Value} {v2 : Value} {v3 : Value} {x : Nat} : am_g d X am_m6068 126 [v0, v1, v2, v3] (.ref x :: sk) st Q = am_g d X am_m6068 127 [v0, v1, v2, v3] sk st Q := am_gu.trans rfl
theorem u6068_127 {v0 : Value} {v1 : Value} {v2 : Value} {v3 : Value} : am_g d X am_m6068 127 [v0, v1, v2, v3] sk st Q = am_g d X am_m6068 232 [v0, v1, v2, v3] sk st Q := am_gu.trans rfl
theorem u6068_130 {v1 : Value} {v2 : Value} {v3 : Value} {x : Nat} : am_g d X am_m6068 130 [.ref x, v1, v2, v3] sk st Q = am_g d X am_m6068 131 [.ref x, v1, v2, v3] (.ref x :: sk) st Q := am_gu.trans rfl
theorem u6068_131 {v0 : Value} {v1 : Value} {v2 : Value} {v3 : Value} : am_g d X am_m6068 131 [v0, v1, v2, v3] sk st Q = am_gt 193 134 [v0, v1, v2, v3] sk st (fun pc lc sk st => am_g d X am_m6068 pc lc sk st Q) := am_gu.trans rfl
theorem u6068_134 {v0 : Value} {v1 : Value} {v2 : Value} {v3 : Value} : am_g d X am_m6068 134 [v0, v1, v2, v3] (.ref o :: sk) st Q = ((am_ob st o 4 ∧ sk.length ≤ 5) ∧ am_Ca X d 4024 [.ref o] st (am_af am_m6068 134 [v0, v1, v2, v3] sk (fun pc lc sk st => am_g d X am_m6068 pc lc sk st Q) Q)) := am_gu.trans rfl
theorem u6068_137i {v0 : Value} {v1 : Value} {v2 : Value} {v3 : Value} {x : Int32} : am_g d X am_m6068 137 [v0, v1, v2, v3] (.int x :: sk) st Q = am_g d X am_m6068 138 [v0, v1, v2, v3] sk st Q := am_gu.trans rfl
theorem u6068_137r {v0 : Value} {v1 : Value} {v2 : Value} {v3 : Value} {x : Nat} : am_g d X am_m6068 137 [v0, v1, v2, v3] (.ref x :: sk) st Q = am_g d X am_m6068 138 [v0, v1, v2, v3] sk st Q := am_gu.trans rfl
theorem u6068_138 {v0 : Value} {v1 : Value} {v2 : Value} {v3 : Value} : am_g d X am_m6068 138 [v0, v1, v2, v3] sk st Q = am_g d X am_m6068 232 [v0, v1, v2, v3] sk st Q := am_gu.trans rfl
theorem u6068_141 {v1 : Value} {v2 : Value} {v3 : Value} {x : Nat} : am_g d X am_m6068 141 [.ref x, v1, v2, v3] sk st Q = am_g d X am_m6068 142 [.ref x, v1, v2, v3] (.ref x :: sk) st Q := am_gu.trans rfl
theorem u6068_142 {v0 : Value} {v1 : Value} {v2 : Value} {v3 : Value} : am_g d X am_m6068 142 [v0, v1, v2, v3] sk st Q = am_gt 193 145 [v0, v1, v2, v3] sk st (fun pc lc sk st => am_g d X am_m6068 pc lc sk st Q) := am_gu.trans rfl
theorem u6068_145 {v0 : Value} {v1 : Value} {v3 : Value} {x : Int32} : am_g d X am_m6068 145 [v0, v1, .int x, v3] sk st Q = am_g d X am_m6068 146 [v0, v1, .int x, v3] (.int x :: sk) st Q := am_gu.trans rfl
theorem u6068_146 {a0 : Value} {v0 : Value} {v1 : Value} {v2 : Value} {v3 : Value} : am_g d X am_m6068 146 [v0, v1, v2, v3] (a0 :: .ref o :: sk) st Q = ((am_ob st o 4 ∧ sk.length ≤ 5) ∧ am_Ca X d 4015 [.ref o, a0] st (am_af am_m6068 146 [v0, v1, v2, v3] sk (fun pc lc sk st => am_g d X am_m6068 pc lc sk st Q) Q)) := am_gu.trans rfl
theorem u6068_149i {v0 : Value} {v1 : Value} {v2 : Value} {v3 : Value} {x : Int32} : am_g d X am_m6068 149 [v0, v1, v2, v3] (.int x :: sk) st Q = am_g d X am_m6068 150 [v0, v1, v2, v3] sk st Q := am_gu.trans rfl
theorem u6068_149r {v0 : Value} {v1 : Value} {v2 : Value} {v3 : Value} {x : Nat} : am_g d X am_m6068 149 [v0, v1, v2, v3] (.ref x :: sk) st Q = am_g d X am_m6068 150 [v0, v1, v2, v3] sk st Q := am_gu.trans rfl
theorem u6068_150 {v0 : Value} {v1 : Value} {v2 : Value} {v3 : Value} : am_g d X am_m6068 150 [v0, v1, v2, v3] sk st Q = am_g d X am_m6068 232 [v0, v1, v2, v3] sk st Q := am_gu.trans rfl
theorem u6068_153 {v1 : Value} {v2 : Value} {v3 : Value} {x : Nat} : am_g d X am_m6068 153 [.ref x, v1, v2, v3] sk st Q = am_g d X am_m6068 154 [.ref x, v1, v2, v3] (.ref x :: sk) st Q := am_gu.trans rfl
theorem u6068_154 {v0 : Value} {v1 : Value} {v2 : Value} {v3 : Value} : am_g d X am_m6068 154 [v0, v1, v2, v3] sk st Q = am_gt 193 157 [v0, v1, v2, v3] sk st (fun pc lc sk st => am_g d X am_m6068 pc lc sk st Q) := am_gu.trans rfl
theorem u6068_157 {v0 : Value} {v1 : Value} {v3 : Value} {x : Int32} : am_g d X am_m6068 157 [v0, v1, .int x, v3] sk st Q = am_g d X am_m6068 158 [v0, v1, .int x, v3] (.int x :: sk) st Q := am_gu.trans rfl
theorem u6068_158 {a0 : Value} {v0 : Value} {v1 : Value} {v2 : Value} {v3 : Value} : am_g d X am_m6068 158 [v0, v1, v2, v3] (a0 :: .ref o :: sk) st Q = ((am_ob st o 4 ∧ sk.length ≤ 5) ∧ am_Ca X d 4017 [.ref o, a0] st (am_af am_m6068 158 [v0, v1, v2, v3] sk (fun pc lc sk st => am_g d X am_m6068 pc lc sk st Q) Q)) := am_gu.trans rfl
theorem u6068_161i {v0 : Value} {v1 : Value} {v2 : Value} {v3 : Value} {x : Int32} : am_g d X am_m6068 161 [v0, v1, v2, v3] (.int x :: sk) st Q = am_g d X am_m6068 162 [v0, v1, v2, v3] sk st Q := am_gu.trans rfl
theorem u6068_161r {v0 : Value} {v1 : Value} {v2 : Value} {v3 : Value} {x : Nat} : am_g d X am_m6068 161 [v0, v1, v2, v3] (.ref x :: sk) st Q = am_g d X am_m6068 162 [v0, v1, v2, v3] sk st Q := am_gu.trans rfl
theorem u6068_162 {v0 : Value} {v1 : Value} {v2 : Value} {v3 : Value} : am_g d X am_m6068 162 [v0, v1, v2, v3] sk st Q = am_g d X am_m6068 232 [v0, v1, v2, v3] sk st Q := am_gu.trans rfl
theorem u6068_165 {v1 : Value} {v2 : Value} {v3 : Value} {x : Nat} : am_g d X am_m6068 165 [.ref x, v1, v2, v3] sk st Q = am_g d X am_m6068 166 [.ref x, v1, v2, v3] (.ref x :: sk) st Q := am_gu.trans rfl
theorem u6068_166 {v0 : Value} {v1 : Value} {v2 : Value} {v3 : Value} : am_g d X am_m6068 166 [v0, v1, v2, v3] sk st Q = am_gt 193 169 [v0, v1, v2, v3] sk st (fun pc lc sk st => am_g d X am_m6068 pc lc sk st Q) := am_gu.trans rfl
theorem u6068_169 {v0 : Value} {v1 : Value} {v3 : Value} {x : Int32} : am_g d X am_m6068 169 [v0, v1, .int x, v3] sk st Q = am_g d X am_m6068 170 [v0, v1, .int x, v3] (.int x :: sk) st Q := am_gu.trans rfl
theorem u6068_170 {v0 : Value} {v1 : Value} {v2 : Value} {v3 : Value} : am_g d X am_m6068 170 [v0, v1, v2, v3] sk st Q = am_g d X am_m6068 171 [v0, v1, v2, v3] (.int (am_i 0) :: sk) st Q := am_gu.trans rfl
theorem u6068_171 {a0 : Value} {a1 : Value} {v0 : Value} {v1 : Value} {v2 : Value} {v3 : Value} : am_g d X am_m6068 171 [v0, v1, v2, v3] (a1 :: a0 :: .ref o :: sk) st Q = ((am_ob st o 4 ∧ sk.length ≤ 5) ∧ am_Ca X d 4019 [.ref o, a0, a1] st (am_af am_m6068 171 [v0, v1, v2, v3] sk (fun pc lc sk st => am_g d X am_m6068 pc lc sk st Q) Q)) := am_gu.trans rfl
theorem u6068_174i {v0 : Value} {v1 : Value} {v2 : Value} {v3 : Value} {x : Int32} : am_g d X am_m6068 174 [v0, v1, v2, v3] (.int x :: sk) st Q = am_g d X am_m6068 175 [v0, v1, v2, v3] sk st Q := am_gu.trans rfl
theorem u6068_174r {v0 : Value} {v1 : Value} {v2 : Value} {v3 : Value} {x : Nat} : am_g d X am_m6068 174 [v0, v1, v2, v3] (.ref x :: sk) st Q = am_g d X am_m6068 175 [v0, v1, v2, v3] sk st Q := am_gu.trans rfl
theorem u6068_175 {v0 : Value} {v1 : Value} {v2 : Value} {v3 : Value} : am_g d X am_m6068 175 [v0, v1, v2, v3] sk st Q = am_g d X am_m6068 232 [v0, v1, v2, v3] sk st Q := am_gu.trans rfl
theorem u6068_178 {v1 : Value} {v2 : Value} {v3 : Value} {x : Nat} : am_g d X am_m6068 178 [.ref x, v1, v2, v3] sk st Q = am_g d X am_m6068 179 [.ref x, v1, v2, v3] (.ref x :: sk) st Q := am_gu.trans rfl
theorem u6068_179 {v0 : Value} {v1 : Value} {v2 : Value} {v3 : Value} : am_g d X am_m6068 179 [v0, v1, v2, v3] sk st Q = am_gt 193 182 [v0, v1, v2, v3] sk st (fun pc lc sk st => am_g d X am_m6068 pc lc sk st Q) := am_gu.trans rfl
theorem u6068_182 {v0 : Value} {v1 : Value} {v3 : Value} {x : Int32} : am_g d X am_m6068 182 [v0, v1, .int x, v3] sk st Q = am_g d X am_m6068 183 [v0, v1, .int x, v3] (.int x :: sk) st Q := am_gu.trans rfl
theorem u6068_183 {v0 : Value} {v1 : Value} {v2 : Value} {v3 : Value} : am_g d X am_m6068 183 [v0, v1, v2, v3] sk st Q = am_g d X am_m6068 184 [v0, v1, v2, v3] (.int (am_i 1) :: sk) st Q := am_gu.trans rfl
theorem u6068_184 {a0 : Value} {a1 : Value} {v0 : Value} {v1 : Value} {v2 : Value} {v3 : Value} : am_g d X am_m6068 184 [v0, v1, v2, v3] (a1 :: a0 :: .ref o :: sk) st Q = ((am_ob st o 4 ∧ sk.length ≤ 5) ∧ am_Ca X d 4019 [.ref o, a0, a1] st (am_af am_m6068 184 [v0, v1, v2, v3] sk (fun pc lc sk st => am_g d X am_m6068 pc lc sk st Q) Q)) := am_gu.trans rfl
theorem u6068_187i {v0 : Value} {v1 : Value} {v2 : Value} {v3 : Value} {x : Int32} : am_g d X am_m6068 187 [v0, v1, v2, v3] (.int x :: sk) st Q = am_g d X am_m6068 188 [v0, v1, v2, v3] sk st Q := am_gu.trans rfl
theorem u6068_187r {v0 : Value} {v1 : Value} {v2 : Value} {v3 : Value} {x : Nat} : am_g d X am_m6068 187 [v0, v1, v2, v3] (.ref x :: sk) st Q = am_g d X am_m6068 188 [v0, v1, v2, v3] sk st Q := am_gu.trans rfl
theorem u6068_188 {v0 : Value} {v1 : Value} {v2 : Value} {v3 : Value} : am_g d X am_m6068 188 [v0, v1, v2, v3] sk st Q = am_g d X am_m6068 232 [v0, v1, v2, v3] sk st Q := am_gu.trans rfl
theorem u6068_191 {v1 : Value} {v2 : Value} {v3 : Value} {x : Nat} : am_g d X am_m6068 191 [.ref x, v1, v2, v3] sk st Q = am_g d X am_m6068 192 [.ref x, v1, v2, v3] (.ref x :: sk) st Q := am_gu.trans rfl
theorem u6068_192 {v0 : Value} {v1 : Value} {v2 : Value} {v3 : Value} : am_g d X am_m6068 192 [v0, v1, v2, v3] sk st Q = am_gt 192 195 [v0, v1, v2, v3] sk st (fun pc lc sk st => am_g d X am_m6068 pc lc sk st Q) := am_gu.trans rfl
theorem u6068_195 {v0 : Value} {v2 : Value} {v3 : Value} {x : Int32} : am_g d X am_m6068 195 [v0, .int x, v2, v3] sk st Q = am_g d X am_m6068 196 [v0, .int x, v2, v3] (.int x :: sk) st Q := am_gu.trans rfl
theorem u6068_196 {a0 : Value} {v0 : Value} {v1 : Value} {v2 : Value} {v3 : Value} : am_g d X am_m6068 196 [v0, v1, v2, v3] (a0 :: .ref o :: sk) st Q = ((am_ob st o 2 ∧ sk.length ≤ 5) ∧ am_Ca X d 2009 [.ref o, a0] st (am_af am_m6068 196 [v0, v1, v2, v3] sk (fun pc lc sk st => am_g d X am_m6068 pc lc sk st Q) Q)) := am_gu.trans rfl
theorem u6068_199 {v1 : Value} {v2 : Value} {v3 : Value} {x : Nat} : am_g d X am_m6068 199 [.ref x, v1, v2, v3] sk st Q = am_g d X am_m6068 200 [.ref x, v1, v2, v3] (.ref x :: sk) st Q := am_gu.trans rfl
theorem u6068_200 {v0 : Value} {v1 : Value} {v2 : Value} {v3 : Value} : am_g d X am_m6068 200 [v0, v1, v2, v3] sk st Q = am_gt 192 203 [v0, v1, v2, v3] sk st (fun pc lc sk st => am_g d X am_m6068 pc lc sk st Q) := am_gu.trans rfl
theorem u6068_203 {v0 : Value} {v2 : Value} {v3 : Value} {x : Int32} : am_g d X am_m6068 203 [v0, .int x, v2, v3] sk st Q = am_g d X am_m6068 204 [v0, .int x, v2, v3] (.int x :: sk) st Q := am_gu.trans rfl
theorem u6068_204 {v0 : Value} {v1 : Value} {v2 : Value} {v3 : Value} : am_g d X am_m6068 204 [v0, v1, v2, v3] sk st Q = am_g d X am_m6068 205 [v0, v1, v2, v3] (.int (am_i 2) :: sk) st Q := am_gu.trans rfl
theorem u6068_205 {v0 : Value} {v1 : Value} {v2 : Value} {v3 : Value} {x : Int32} {y : Int32} : am_g d X am_m6068 205 [v0, v1, v2, v3] (.int y :: .int x :: sk) st Q = am_g d X am_m6068 206 [v0, v1, v2, v3] (.int (x + y) :: sk) st Q := am_gu.trans rfl
theorem u6068_206 {a0 : Value} {v0 : Value} {v1 : Value} {v2 : Value} {v3 : Value} : am_g d X am_m6068 206 [v0, v1, v2, v3] (a0 :: .ref o :: sk) st Q = ((am_ob st o 2 ∧ sk.length ≤ 5) ∧ am_Ca X d 2009 [.ref o, a0] st (am_af am_m6068 206 [v0, v1, v2, v3] sk (fun pc lc sk st => am_g d X am_m6068 pc lc sk st Q) Q)) := am_gu.trans rfl
theorem u6068_209 {a0 : Value} {a1 : Value} {v0 : Value} {v1 : Value} {v2 : Value} {v3 : Value} : am_g d X am_m6068 209 [v0, v1, v2, v3] (a1 :: a0 :: sk) st Q = (sk.length ≤ 4 ∧ am_Ca X d 6060 [a0, a1] st (am_af am_m6068 209 [v0, v1, v2, v3] sk (fun pc lc sk st => am_g d X am_m6068 pc lc sk st Q) Q)) := am_gu.trans (propext ⟨fun h => ⟨h.1.2, h.2⟩, fun h => ⟨⟨Nat.le_add_left _ _, h.1⟩, h.2⟩⟩)
theorem u6068_212 {v0 : Value} {v1 : Value} {v2 : Value} {v3 : Value} {x : Int32} : am_g d X am_m6068 212 [v0, v1, v2, v3] (.int x :: sk) st Q = am_g d X am_m6068 213 [v0, v1, am_kc v2, .int x] sk st Q := am_gu.trans (congrArg (fun l => am_g d X am_m6068 213 (List.set l 3 (.int x)) sk st Q) (kl_3 (l := [v3])))
theorem u6068_213 {v1 : Value} {v2 : Value} {v3 : Value} {x : Nat} : am_g d X am_m6068 213 [.ref x, v1, v2, v3] sk st Q = am_g d X am_m6068 214 [.ref x, v1, v2, v3] (.ref x :: sk) st Q := am_gu.trans rfl
theorem u6068_214 {v0 : Value} {v1 : Value} {v2 : Value} {v3 : Value} : am_g d X am_m6068 214 [v0, v1, v2, v3] sk st Q = am_gt 193 217 [v0, v1, v2, v3] sk st (fun pc lc sk st => am_g d X am_m6068 pc lc sk st Q) := am_gu.trans rfl
theorem u6068_217 {v0 : Value} {v1 : Value} {v2 : Value} {x : Int32} : am_g d X am_m6068 217 [v0, v1, v2, .int x] sk st Q = am_g d X am_m6068 218 [v0, v1, v2, .int x] (.int x :: sk) st Q := am_gu.trans rfl
theorem u6068_218 {v1 : Value} {v2 : Value} {v3 : Value} {x : Nat} : am_g d X am_m6068 218 [.ref x, v1, v2, v3] sk st Q = am_g d X am_m6068 219 [.ref x, v1, v2, v3] (.ref x :: sk) st Q := am_gu.trans rfl
theorem u6068_219 {v0 : Value} {v1 : Value} {v2 : Value} {v3 : Value} : am_g d X am_m6068 219 [v0, v1, v2, v3] sk st Q = am_gt 192 222 [v0, v1, v2, v3] sk st (fun pc lc sk st => am_g d X am_m6068 pc lc sk st Q) := am_gu.trans rfl
theorem u6068_222 {v0 : Value} {v2 : Value} {v3 : Value} {x : Int32} : am_g d X am_m6068 222 [v0, .int x, v2, v3] sk st Q = am_g d X am_m6068 223 [v0, .int x, v2, v3] (.int x :: sk) st Q := am_gu.trans rfl
theorem u6068_223 {v0 : Value} {v1 : Value} {v2 : Value} {v3 : Value} : am_g d X am_m6068 223 [v0, v1, v2, v3] sk st Q = am_g d X am_m6068 224 [v0, v1, v2, v3] (.int (am_i 4) :: sk) st Q := am_gu.trans rfl
theorem u6068_224 {v0 : Value} {v1 : Value} {v2 : Value} {v3 : Value} {x : Int32} {y : Int32} : am_g d X am_m6068 224 [v0, v1, v2, v3] (.int y :: .int x :: sk) st Q = am_g d X am_m6068 225 [v0, v1, v2, v3] (.int (x + y) :: sk) st Q := am_gu.trans rfl
theorem u6068_225 {a0 : Value} {v0 : Value} {v1 : Value} {v2 : Value} {v3 : Value} : am_g d X am_m6068 225 [v0, v1, v2, v3] (a0 :: .ref o :: sk) st Q = ((am_ob st o 2 ∧ sk.length ≤ 5) ∧ am_Ca X d 2009 [.ref o, a0] st (am_af am_m6068 225 [v0, v1, v2, v3] sk (fun pc lc sk st => am_g d X am_m6068 pc lc sk st Q) Q)) := am_gu.trans rfl
theorem u6068_228 {a0 : Value} {a1 : Value} {v0 : Value} {v1 : Value} {v2 : Value} {v3 : Value} : am_g d X am_m6068 228 [v0, v1, v2, v3] (a1 :: a0 :: .ref o :: sk) st Q = ((am_ob st o 4 ∧ sk.length ≤ 5) ∧ am_Ca X d 4002 [.ref o, a0, a1] st (am_af am_m6068 228 [v0, v1, v2, v3] sk (fun pc lc sk st => am_g d X am_m6068 pc lc sk st Q) Q)) := am_gu.trans rfl
theorem u6068_231i {v0 : Value} {v1 : Value} {v2 : Value} {v3 : Value} {x : Int32} : am_g d X am_m6068 231 [v0, v1, v2, v3] (.int x :: sk) st Q = am_g d X am_m6068 232 [v0, v1, v2, v3] sk st Q := am_gu.trans rfl
theorem u6068_231r {v0 : Value} {v1 : Value} {v2 : Value} {v3 : Value} {x : Nat} : am_g d X am_m6068 231 [v0, v1, v2, v3] (.ref x :: sk) st Q = am_g d X am_m6068 232 [v0, v1, v2, v3] sk st Q := am_gu.trans rfl
theorem u6068_232 {v0 : Value} {v1 : Value} {v2 : Value} {v3 : Value} : am_g d X am_m6068 232 [v0, v1, v2, v3] [] st Q = Q (.inl none) st := am_gu.trans rfl
end UU
