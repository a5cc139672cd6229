/-! A STATE AS THE LAW SEES IT: the class's whole state G; at most n cells were made */ -/
def Hs (n : Nat) (G : Fu) (s : am_S) : Prop := ∃ cl sl F A L, s = am_Z cl sl F A L ∧ gF F A G ∧ 70 < cl ∧ cl ≤ n ∧ sl ≤ 20000 + 6 * cl
theorem Hs_le {n m : Nat} {G : Fu} {s : am_S} (h : Hs n G s) (e : n ≤ m) : Hs m G s := by
  obtain ⟨cl, sl, F, A, L, rfl, g, h1, h2, h3⟩ := h
  exact ⟨cl, sl, F, A, L, rfl, g, h1, Nat.le_trans h2 e, h3⟩
theorem h_ob {n : Nat} {G : Fu} {s : am_S} (h : Hs n G s) : am_ob s 0 6 = True := by
  obtain ⟨cl, sl, F, A, L, rfl, -⟩ := h
  exact ob_0
theorem h_w {n : Nat} {G : Fu} {s : am_S} (h : Hs n G s) : wS G.S := by
  obtain ⟨cl, sl, F, A, L, rfl, g, -⟩ := h
  exact g.w
theorem h_m {n : Nat} {G : Fu} {s : am_S} (h : Hs n G s) : G.m ≤ 4 := by
  obtain ⟨cl, sl, F, A, L, rfl, g, -⟩ := h
  exact g.r.1
theorem h_len {n : Nat} {G : Fu} {s : am_S} (h : Hs n G s) : G.len ≤ 60 ∧ ∀ i, i < G.len → 32 ≤ G.pd i ∧ G.pd i ≤ 126 := by
  obtain ⟨cl, sl, F, A, L, rfl, g, -⟩ := h
  exact ⟨g.p.2.1, fun i hi => (g.p.2.2 i hi).2⟩
theorem gF_scr {F A : Nat → Nat → Int32} {G : Fu} {a : Nat} {g : Nat → Int32} (c : gF F A G) (h1 : 14 ≤ a) (h2 : a ≤ 22) : gF F (va_up A a g) G := gF_fr c (cR_scr c.R (by omega)) (Fr_up (by omega))
section HH
variable {d n : Nat} {X : am_X} {G : Fu} {s : am_S} {P : am_Q}
theorem h_commit (hm : mayC G.S) (hh : Hs n G s) : ∃ s2, Hs n (setG (recG G) (cmS2 G.S)) s2 ∧ ∀ P, am_Ca X (d + 8) 6007 [.ref 0] s P = P (.inl (some (.int (nI G.S.n)))) s2 := by
  obtain ⟨cl, sl, F, A, L, rfl, g, q1, q2, q3⟩ := hh
  obtain ⟨F2, A2, e, g2, -⟩ := (k_commit (d := d) (X := X) (cl := cl) (sl := sl) (L := L) (hm := hm) (c := g) (hcl := q1))
  exact ⟨_, ⟨_, _, F2, A2, L, rfl, g2, by omega, by omega, by omega⟩, e⟩
theorem h_commit_no (hm : ¬ (mayC G.S)) (hh : Hs n G s) : ∃ s2, Hs (n + 1) G s2 ∧ ∀ P, am_Ca X (d + 8) 6007 [.ref 0] s P = P (.inr 1) s2 := by
  obtain ⟨cl, sl, F, A, L, rfl, g, q1, q2, q3⟩ := hh
  obtain ⟨F2, A2, e, g2, -⟩ := (k_commit_no (d := d) (X := X) (cl := cl) (sl := sl) (L := L) (hm := hm) (c := g) (hcl := q1))
  exact ⟨_, ⟨_, _, F2, A2, L, rfl, g2, by omega, by omega, by omega⟩, e⟩
theorem h_putAside (hm : mayA G.S) (hh : Hs n G s) : ∃ s2, Hs n (setG (recG G) (stand (push G.S) (hd G.S))) s2 ∧ ∀ P, am_Ca X (d + 8) 6009 [.ref 0] s P = P (.inl (some (.int (nI (G.S.ac + 1))))) s2 := by
  obtain ⟨cl, sl, F, A, L, rfl, g, q1, q2, q3⟩ := hh
  obtain ⟨F2, A2, e, g2, -⟩ := (k_putAside (d := d) (X := X) (cl := cl) (sl := sl) (L := L) (hm := hm) (c := g) (hcl := q1))
  exact ⟨_, ⟨_, _, F2, A2, L, rfl, g2, by omega, by omega, by omega⟩, e⟩
theorem h_putAside_no (hm : ¬ (mayA G.S)) (hh : Hs n G s) : ∃ s2, Hs (n + 1) G s2 ∧ ∀ P, am_Ca X (d + 8) 6009 [.ref 0] s P = P (.inr 1) s2 := by
  obtain ⟨cl, sl, F, A, L, rfl, g, q1, q2, q3⟩ := hh
  obtain ⟨F2, A2, e, g2, -⟩ := (k_putAside_no (d := d) (X := X) (cl := cl) (sl := sl) (L := L) (hm := hm) (c := g) (hcl := q1))
  exact ⟨_, ⟨_, _, F2, A2, L, rfl, g2, by omega, by omega, by omega⟩, e⟩
theorem h_takeBack (hm : mayT G.S) (hh : Hs n G s) : ∃ s2, Hs n (setG (recG G) (tbS G.S)) s2 ∧ ∀ P, am_Ca X (d + 8) 6010 [.ref 0] s P = P (.inl (some (.int (nI (cnt (kB (G.S.T (G.S.ah (G.S.ac - 1))) (G.S.aT (G.S.ac - 1)) G.S.W) 24))))) s2 := by
  obtain ⟨cl, sl, F, A, L, rfl, g, q1, q2, q3⟩ := hh
  obtain ⟨F2, A2, e, g2, -⟩ := (k_takeBack (d := d) (X := X) (cl := cl) (sl := sl) (L := L) (hm := hm) (c := g) (hcl := q1))
  exact ⟨_, ⟨_, _, F2, A2, L, rfl, g2, by omega, by omega, by omega⟩, e⟩
theorem h_takeBack_no (hm : ¬ (mayT G.S)) (hh : Hs n G s) : ∃ s2, Hs (n + 1) G s2 ∧ ∀ P, am_Ca X (d + 8) 6010 [.ref 0] s P = P (.inr 1) s2 := by
  obtain ⟨cl, sl, F, A, L, rfl, g, q1, q2, q3⟩ := hh
  obtain ⟨F2, A2, e, g2, -⟩ := (k_takeBack_no (d := d) (X := X) (cl := cl) (sl := sl) (L := L) (hm := hm) (c := g) (hcl := q1))
  exact ⟨_, ⟨_, _, F2, A2, L, rfl, g2, by omega, by omega, by omega⟩, e⟩
theorem h_newBranch (hm : ¬ lfN G.S.br 6 0 = 0) (hh : Hs n G s) : ∃ s2, Hs n (setG (recG G) (setB G.S (lfN G.S.br 6 0 - 1) (hd G.S + 1))) s2 ∧ ∀ P, am_Ca X (d + 8) 6011 [.ref 0] s P = P (.inl (some (.int (nI (lfN G.S.br 6 0 - 1))))) s2 := by
  obtain ⟨cl, sl, F, A, L, rfl, g, q1, q2, q3⟩ := hh
  obtain ⟨F2, A2, e, g2, -⟩ := (k_newBranch (d := d) (X := X) (cl := cl) (sl := sl) (L := L) (hm := hm) (c := g) (hcl := q1))
  exact ⟨_, ⟨_, _, F2, A2, L, rfl, g2, by omega, by omega, by omega⟩, e⟩
theorem h_newBranch_no (hm : ¬ (¬ lfN G.S.br 6 0 = 0)) (hh : Hs n G s) : ∃ s2, Hs (n + 1) G s2 ∧ ∀ P, am_Ca X (d + 8) 6011 [.ref 0] s P = P (.inr 1) s2 := by
  obtain ⟨cl, sl, F, A, L, rfl, g, q1, q2, q3⟩ := hh
  obtain ⟨F2, A2, e, g2, -⟩ := (k_newBranch_no (d := d) (X := X) (cl := cl) (sl := sl) (L := L) (hm := hm) (c := g) (hcl := q1))
  exact ⟨_, ⟨_, _, F2, A2, L, rfl, g2, by omega, by omega, by omega⟩, e⟩
theorem h_abort (hm : ¬ G.S.op = 0) (hh : Hs n G s) : ∃ s2, Hs n (setG (recG G) (stand G.S (hd G.S))) s2 ∧ ∀ P, am_Ca X (d + 8) 6019 [.ref 0] s P = P (.inl (some (.int (nI (nco G.S))))) s2 := by
  obtain ⟨cl, sl, F, A, L, rfl, g, q1, q2, q3⟩ := hh
  obtain ⟨F2, A2, e, g2, -⟩ := (k_abort (d := d) (X := X) (cl := cl) (sl := sl) (L := L) (hm := hm) (c := g) (hcl := q1))
  exact ⟨_, ⟨_, _, F2, A2, L, rfl, g2, by omega, by omega, by omega⟩, e⟩
theorem h_abort_no (hm : ¬ (¬ G.S.op = 0)) (hh : Hs n G s) : ∃ s2, Hs (n + 1) G s2 ∧ ∀ P, am_Ca X (d + 8) 6019 [.ref 0] s P = P (.inr 1) s2 := by
  obtain ⟨cl, sl, F, A, L, rfl, g, q1, q2, q3⟩ := hh
  obtain ⟨F2, A2, e, g2, -⟩ := (k_abort_no (d := d) (X := X) (cl := cl) (sl := sl) (L := L) (hm := hm) (c := g) (hcl := q1))
  exact ⟨_, ⟨_, _, F2, A2, L, rfl, g2, by omega, by omega, by omega⟩, e⟩
theorem h_dropBranch {b : Nat} (hb : b < 6) (hm : ¬ G.S.br b = 0 ∧ ¬ b = G.S.cur) (hh : Hs n G s) : ∃ s2, Hs n (setG (recG G) (setB G.S b 0)) s2 ∧ ∀ P, am_Ca X (d + 8) 6012 [.ref 0, .int (nI b)] s P = P (.inl (some (.int (pk (G.S.br b))))) s2 := by
  obtain ⟨cl, sl, F, A, L, rfl, g, q1, q2, q3⟩ := hh
  obtain ⟨F2, A2, e, g2, -⟩ := (k_dropBranch (d := d) (X := X) (cl := cl) (sl := sl) (L := L) (hb := hb) (hm := hm) (c := g) (hcl := q1))
  exact ⟨_, ⟨_, _, F2, A2, L, rfl, g2, by omega, by omega, by omega⟩, e⟩
theorem h_dropBranch_no {b : Nat} (hb : b < 6) (hm : ¬ (¬ G.S.br b = 0 ∧ ¬ b = G.S.cur)) (hh : Hs n G s) : ∃ s2, Hs (n + 1) G s2 ∧ ∀ P, am_Ca X (d + 8) 6012 [.ref 0, .int (nI b)] s P = P (.inr 1) s2 := by
  obtain ⟨cl, sl, F, A, L, rfl, g, q1, q2, q3⟩ := hh
  obtain ⟨F2, A2, e, g2, -⟩ := (k_dropBranch_no (d := d) (X := X) (cl := cl) (sl := sl) (L := L) (hb := hb) (hm := hm) (c := g) (hcl := q1))
  exact ⟨_, ⟨_, _, F2, A2, L, rfl, g2, by omega, by omega, by omega⟩, e⟩
theorem h_switchTo {b : Nat} (hb : b < 6) (hm : mayS G.S b) (hh : Hs n G s) : ∃ s2, Hs n (setG (recG G) (stand (curB G.S b) (G.S.br b - 1))) s2 ∧ ∀ P, am_Ca X (d + 8) 6013 [.ref 0, .int (nI b)] s P = P (.inl (some (.int (nI (G.S.br b - 1))))) s2 := by
  obtain ⟨cl, sl, F, A, L, rfl, g, q1, q2, q3⟩ := hh
  obtain ⟨F2, A2, e, g2, -⟩ := (k_switchTo (d := d) (X := X) (cl := cl) (sl := sl) (L := L) (hb := hb) (hm := hm) (c := g) (hcl := q1))
  exact ⟨_, ⟨_, _, F2, A2, L, rfl, g2, by omega, by omega, by omega⟩, e⟩
theorem h_switchTo_no {b : Nat} (hb : b < 6) (hm : ¬ (mayS G.S b)) (hh : Hs n G s) : ∃ s2, Hs (n + 1) G s2 ∧ ∀ P, am_Ca X (d + 8) 6013 [.ref 0, .int (nI b)] s P = P (.inr 1) s2 := by
  obtain ⟨cl, sl, F, A, L, rfl, g, q1, q2, q3⟩ := hh
  obtain ⟨F2, A2, e, g2, -⟩ := (k_switchTo_no (d := d) (X := X) (cl := cl) (sl := sl) (L := L) (hb := hb) (hm := hm) (c := g) (hcl := q1))
  exact ⟨_, ⟨_, _, F2, A2, L, rfl, g2, by omega, by omega, by omega⟩, e⟩
theorem h_merge {b : Nat} (hb : b < 6) (hm : mayM G.S b) (hh : Hs n G s) : ∃ s2, Hs n (setG (recG G) (mrgS G.S b)) s2 ∧ ∀ P, am_Ca X (d + 8) 6014 [.ref 0, .int (nI b)] s P = P (.inl (some (.int (nI (mrgN G.S b))))) s2 := by
  obtain ⟨cl, sl, F, A, L, rfl, g, q1, q2, q3⟩ := hh
  obtain ⟨F2, A2, e, g2, -⟩ := (k_merge (d := d) (X := X) (cl := cl) (sl := sl) (L := L) (hb := hb) (hm := hm) (c := g) (hcl := q1))
  exact ⟨_, ⟨_, _, F2, A2, L, rfl, g2, by omega, by omega, by omega⟩, e⟩
theorem h_merge_no {b : Nat} (hb : b < 6) (hm : ¬ (mayM G.S b)) (hh : Hs n G s) : ∃ s2, Hs (n + 1) G s2 ∧ ∀ P, am_Ca X (d + 8) 6014 [.ref 0, .int (nI b)] s P = P (.inr 1) s2 := by
  obtain ⟨cl, sl, F, A, L, rfl, g, q1, q2, q3⟩ := hh
  obtain ⟨F2, A2, e, g2, -⟩ := (k_merge_no (d := d) (X := X) (cl := cl) (sl := sl) (L := L) (hb := hb) (hm := hm) (c := g) (hcl := q1))
  exact ⟨_, ⟨_, _, F2, A2, L, rfl, g2, by omega, by omega, by omega⟩, e⟩
theorem h_pick {k : Nat} (hk : k < G.S.n) (hm : mayP G.S k 0) (hh : Hs n G s) : ∃ s2, Hs n (setG (recG G) (pickS G.S k 0)) s2 ∧ ∀ P, am_Ca X (d + 8) 6015 [.ref 0, .int (nI k)] s P = P (.inl (some (.int (nI (cnt (kC (fromT G.S k 0) (toT G.S k 0) G.S.W) 24))))) s2 := by
  obtain ⟨cl, sl, F, A, L, rfl, g, q1, q2, q3⟩ := hh
  obtain ⟨F2, A2, e, g2, -⟩ := (k_pick (d := d) (X := X) (cl := cl) (sl := sl) (L := L) (hk := hk) (hm := hm) (c := g) (hcl := q1))
  exact ⟨_, ⟨_, _, F2, A2, L, rfl, g2, by omega, by omega, by omega⟩, e⟩
theorem h_pick_no {k : Nat} (hk : k < G.S.n) (hm : ¬ (mayP G.S k 0)) (hh : Hs n G s) : ∃ s2, Hs (n + 1) G s2 ∧ ∀ P, am_Ca X (d + 8) 6015 [.ref 0, .int (nI k)] s P = P (.inr 1) s2 := by
  obtain ⟨cl, sl, F, A, L, rfl, g, q1, q2, q3⟩ := hh
  obtain ⟨F2, A2, e, g2, -⟩ := (k_pick_no (d := d) (X := X) (cl := cl) (sl := sl) (L := L) (hk := hk) (hm := hm) (c := g) (hcl := q1))
  exact ⟨_, ⟨_, _, F2, A2, L, rfl, g2, by omega, by omega, by omega⟩, e⟩
theorem h_revert {k : Nat} (hk : k < G.S.n) (hm : mayP G.S k 1) (hh : Hs n G s) : ∃ s2, Hs n (setG (recG G) (pickS G.S k 1)) s2 ∧ ∀ P, am_Ca X (d + 8) 6016 [.ref 0, .int (nI k)] s P = P (.inl (some (.int (nI (cnt (kC (fromT G.S k 1) (toT G.S k 1) G.S.W) 24))))) s2 := by
  obtain ⟨cl, sl, F, A, L, rfl, g, q1, q2, q3⟩ := hh
  obtain ⟨F2, A2, e, g2, -⟩ := (k_revert (d := d) (X := X) (cl := cl) (sl := sl) (L := L) (hk := hk) (hm := hm) (c := g) (hcl := q1))
  exact ⟨_, ⟨_, _, F2, A2, L, rfl, g2, by omega, by omega, by omega⟩, e⟩
theorem h_revert_no {k : Nat} (hk : k < G.S.n) (hm : ¬ (mayP G.S k 1)) (hh : Hs n G s) : ∃ s2, Hs (n + 1) G s2 ∧ ∀ P, am_Ca X (d + 8) 6016 [.ref 0, .int (nI k)] s P = P (.inr 1) s2 := by
  obtain ⟨cl, sl, F, A, L, rfl, g, q1, q2, q3⟩ := hh
  obtain ⟨F2, A2, e, g2, -⟩ := (k_revert_no (d := d) (X := X) (cl := cl) (sl := sl) (L := L) (hk := hk) (hm := hm) (c := g) (hcl := q1))
  exact ⟨_, ⟨_, _, F2, A2, L, rfl, g2, by omega, by omega, by omega⟩, e⟩
theorem h_replay {b : Nat} (hb : b < 6) (hm : mayR G.S b) (hh : Hs n G s) : ∃ s2, Hs n (setG (recG G) ((repS G.S b).1)) s2 ∧ ∀ P, am_Ca X (d + 8) 6017 [.ref 0, .int (nI b)] s P = P (.inl (some (.int (nI (repS G.S b).2)))) s2 := by
  obtain ⟨cl, sl, F, A, L, rfl, g, q1, q2, q3⟩ := hh
  obtain ⟨F2, A2, e, g2, -⟩ := (k_replay (d := d) (X := X) (cl := cl) (sl := sl) (L := L) (hb := hb) (hm := hm) (c := g) (hcl := q1))
  exact ⟨_, ⟨_, _, F2, A2, L, rfl, g2, by omega, by omega, by omega⟩, e⟩
theorem h_replay_no {b : Nat} (hb : b < 6) (hm : ¬ (mayR G.S b)) (hh : Hs n G s) : ∃ s2, Hs (n + 1) G s2 ∧ ∀ P, am_Ca X (d + 8) 6017 [.ref 0, .int (nI b)] s P = P (.inr 1) s2 := by
  obtain ⟨cl, sl, F, A, L, rfl, g, q1, q2, q3⟩ := hh
  obtain ⟨F2, A2, e, g2, -⟩ := (k_replay_no (d := d) (X := X) (cl := cl) (sl := sl) (L := L) (hb := hb) (hm := hm) (c := g) (hcl := q1))
  exact ⟨_, ⟨_, _, F2, A2, L, rfl, g2, by omega, by omega, by omega⟩, e⟩
theorem h_reset {k : Nat} (hk : k < G.S.n) (hh : Hs n G s) : ∃ s2, Hs n (setG (recG G) (stand G.S k)) s2 ∧ ∀ P, am_Ca X (d + 8) 6008 [.ref 0, .int (nI k)] s P = P (.inl (some (.int (nI (hd G.S))))) s2 := by
  obtain ⟨cl, sl, F, A, L, rfl, g, q1, q2, q3⟩ := hh
  obtain ⟨F2, A2, e, g2, -⟩ := (k_reset (d := d) (X := X) (cl := cl) (sl := sl) (L := L) (hk := hk) (c := g) (hcl := q1))
  exact ⟨_, ⟨_, _, F2, A2, L, rfl, g2, by omega, by omega, by omega⟩, e⟩
theorem h_reset_no {x : Int32} (hx : noC G.S x) (hh : Hs n G s) : ∃ s2, Hs (n + 1) G s2 ∧ ∀ P, am_Ca X (d + 8) 6008 [.ref 0, .int x] s P = P (.inr 0) s2 := by
  obtain ⟨cl, sl, F, A, L, rfl, g, q1, q2, q3⟩ := hh
  exact ⟨_, ⟨_, _, _, _, L, rfl, g, by omega, by omega, by omega⟩, fun P => (k_reset_no (d := d) (X := X) (cl := cl) (sl := sl) (L := L) (hx := hx) (c := g) (hcl := q1) (P := P))⟩
theorem h_edit {a b v : Nat} (ha : a < 4) (hb : b < 6) (hv : v < 100) (hh : Hs n G s) : ∃ s2, Hs n (setG (recG G) (setL G.S (a * 6 + b) v)) s2 ∧ ∀ P, am_Ca X (d + 8) 6006 [.ref 0, .int (nI a), .int (nI b), .int (nI v)] s P = P (.inl (some (.int (nI (unl (setL G.S (a * 6 + b) v)))))) s2 := by
  obtain ⟨cl, sl, F, A, L, rfl, g, q1, q2, q3⟩ := hh
  obtain ⟨F2, A2, e, g2, -⟩ := (k_edit (d := d) (X := X) (cl := cl) (sl := sl) (L := L) (ha := ha) (hb := hb) (hv := hv) (c := g) (hcl := q1))
  exact ⟨_, ⟨_, _, F2, A2, L, rfl, g2, by omega, by omega, by omega⟩, e⟩
theorem h_edit_place {x y v : Int32} (hx : noP x y) (hh : Hs n G s) : ∃ s2, Hs (n + 1) G s2 ∧ ∀ P, am_Ca X (d + 8) 6006 [.ref 0, .int x, .int y, .int v] s P = P (.inr 0) s2 := by
  obtain ⟨cl, sl, F, A, L, rfl, g, q1, q2, q3⟩ := hh
  exact ⟨_, ⟨_, _, _, _, L, rfl, g, by omega, by omega, by omega⟩, fun P => (k_edit_place (d := d) (X := X) (cl := cl) (sl := sl) (L := L) (hx := hx) (hcl := q1) (P := P))⟩
theorem h_edit_value {a b : Nat} {v : Int32} (ha : a < 4) (hb : b < 6) (hv : noV v) (hh : Hs n G s) : ∃ s2, Hs (n + 1) G s2 ∧ ∀ P, am_Ca X (d + 8) 6006 [.ref 0, .int (nI a), .int (nI b), .int v] s P = P (.inr 0) s2 := by
  obtain ⟨cl, sl, F, A, L, rfl, g, q1, q2, q3⟩ := hh
  exact ⟨_, ⟨_, _, _, _, L, rfl, g, by omega, by omega, by omega⟩, fun P => (k_edit_value (d := d) (X := X) (cl := cl) (sl := sl) (L := L) (ha := ha) (hb := hb) (hv := hv) (hcl := q1) (P := P))⟩
theorem h_resolve {a b k : Nat} (ha : a < 4) (hb : b < 6) (hk : k < 2) (h0 : ¬ G.S.O (a * 6 + b) = 0) (hh : Hs n G s) : ∃ s2, Hs n (setG (recG G) (resS G.S (a * 6 + b) k)) s2 ∧ ∀ P, am_Ca X (d + 8) 6018 [.ref 0, .int (nI a), .int (nI b), .int (nI k)] s P = P (.inl (some (.int (nI (nco (resS G.S (a * 6 + b) k)))))) s2 := by
  obtain ⟨cl, sl, F, A, L, rfl, g, q1, q2, q3⟩ := hh
  obtain ⟨F2, A2, e, g2, -⟩ := (k_resolve (d := d) (X := X) (cl := cl) (sl := sl) (L := L) (ha := ha) (hb := hb) (hk := hk) (h0 := h0) (c := g) (hcl := q1))
  exact ⟨_, ⟨_, _, F2, A2, L, rfl, g2, by omega, by omega, by omega⟩, e⟩
theorem h_resolve_place {x y v : Int32} (hx : noP x y) (hh : Hs n G s) : ∃ s2, Hs (n + 1) G s2 ∧ ∀ P, am_Ca X (d + 8) 6018 [.ref 0, .int x, .int y, .int v] s P = P (.inr 0) s2 := by
  obtain ⟨cl, sl, F, A, L, rfl, g, q1, q2, q3⟩ := hh
  exact ⟨_, ⟨_, _, _, _, L, rfl, g, by omega, by omega, by omega⟩, fun P => (k_resolve_place (d := d) (X := X) (cl := cl) (sl := sl) (L := L) (hx := hx) (hcl := q1) (P := P))⟩
theorem h_resolve_no {a b : Nat} {v : Int32} (ha : a < 4) (hb : b < 6) (h0 : G.S.O (a * 6 + b) = 0) (hh : Hs n G s) : ∃ s2, Hs (n + 1) G s2 ∧ ∀ P, am_Ca X (d + 8) 6018 [.ref 0, .int (nI a), .int (nI b), .int v] s P = P (.inr 1) s2 := by
  obtain ⟨cl, sl, F, A, L, rfl, g, q1, q2, q3⟩ := hh
  exact ⟨_, ⟨_, _, _, _, L, rfl, g, by omega, by omega, by omega⟩, fun P => (k_resolve_no (d := d) (X := X) (cl := cl) (sl := sl) (L := L) (ha := ha) (hb := hb) (h0 := h0) (c := g) (hcl := q1) (P := P))⟩
theorem h_keep  (hh : Hs n G s) : ∃ s2, Hs n (mkG G.S G.m G.rs 1 G.S G.len G.pd) s2 ∧ ∀ P, am_Ca X (d + 8) 6056 [.ref 0] s P = P (.inl (some (.int (nI G.S.n)))) s2 := by
  obtain ⟨cl, sl, F, A, L, rfl, g, q1, q2, q3⟩ := hh
  obtain ⟨F2, A2, e, g2, -⟩ := (k_keep (d := d) (X := X) (cl := cl) (sl := sl) (L := L)  (c := g) (hcl := q1))
  exact ⟨_, ⟨_, _, F2, A2, L, rfl, g2, by omega, by omega, by omega⟩, e⟩
theorem h_goBack (h1 : G.hs = 1) (hh : Hs n G s) : ∃ s2, Hs n (setG (recG G) G.sn) s2 ∧ ∀ P, am_Ca X (d + 8) 6057 [.ref 0] s P = P (.inl (some (.int (nI G.sn.n)))) s2 := by
  obtain ⟨cl, sl, F, A, L, rfl, g, q1, q2, q3⟩ := hh
  obtain ⟨F2, A2, e, g2, -⟩ := (k_goBack (d := d) (X := X) (cl := cl) (sl := sl) (L := L) (h1 := h1) (c := g) (hcl := q1))
  exact ⟨_, ⟨_, _, F2, A2, L, rfl, g2, by omega, by omega, by omega⟩, e⟩
theorem h_goBack_no (h1 : G.hs = 0) (hh : Hs n G s) : ∃ s2, Hs (n + 1) G s2 ∧ ∀ P, am_Ca X (d + 8) 6057 [.ref 0] s P = P (.inr 1) s2 := by
  obtain ⟨cl, sl, F, A, L, rfl, g, q1, q2, q3⟩ := hh
  exact ⟨_, ⟨_, _, _, _, L, rfl, g, by omega, by omega, by omega⟩, fun P => (k_goBack_no (d := d) (X := X) (cl := cl) (sl := sl) (L := L) (h1 := h1) (c := g) (hcl := q1) (P := P))⟩
theorem h_undo {m : Nat} (h1 : G.m = m + 1) (hh : Hs n G s) : ∃ s2, Hs n (mkG (G.rs m) m G.rs G.hs G.sn G.len G.pd) s2 ∧ ∀ P, am_Ca X (d + 8) 6058 [.ref 0] s P = P (.inl (some (.int (nI m)))) s2 := by
  obtain ⟨cl, sl, F, A, L, rfl, g, q1, q2, q3⟩ := hh
  obtain ⟨F2, A2, e, g2, -⟩ := (k_undo (d := d) (X := X) (cl := cl) (sl := sl) (L := L) (h1 := h1) (c := g) (hcl := q1))
  exact ⟨_, ⟨_, _, F2, A2, L, rfl, g2, by omega, by omega, by omega⟩, e⟩
theorem h_undo_no (h1 : G.m = 0) (hh : Hs n G s) : ∃ s2, Hs (n + 1) G s2 ∧ ∀ P, am_Ca X (d + 8) 6058 [.ref 0] s P = P (.inr 1) s2 := by
  obtain ⟨cl, sl, F, A, L, rfl, g, q1, q2, q3⟩ := hh
  exact ⟨_, ⟨_, _, _, _, L, rfl, g, by omega, by omega, by omega⟩, fun P => (k_undo_no (d := d) (X := X) (cl := cl) (sl := sl) (L := L) (h1 := h1) (c := g) (hcl := q1) (P := P))⟩
theorem h_type {v : Nat} (h1 : 32 ≤ v) (h2 : v ≤ 126) (hl : G.len < 60) (hh : Hs n G s) : ∃ s2, Hs n (mkG G.S G.m G.rs G.hs G.sn (G.len + 1) (va_up G.pd G.len v)) s2 ∧ ∀ P, am_Ca X (d + 7) 6002 [.ref 0, .int (nI v)] s P = P (.inl (some (.int (nI (G.len + 1))))) s2 := by
  obtain ⟨cl, sl, F, A, L, rfl, g, q1, q2, q3⟩ := hh
  obtain ⟨F2, A2, e, g2, -⟩ := (k_type (d := d) (X := X) (cl := cl) (sl := sl) (L := L) (h1 := h1) (h2 := h2) (hl := hl) (c := g))
  exact ⟨_, ⟨_, _, F2, A2, L, rfl, g2, by omega, by omega, by omega⟩, e⟩
theorem h_type_bad {x : Int32} (h : noT x) (hh : Hs n G s) : ∃ s2, Hs (n + 1) G s2 ∧ ∀ P, am_Ca X (d + 8) 6002 [.ref 0, .int x] s P = P (.inr 0) s2 := by
  obtain ⟨cl, sl, F, A, L, rfl, g, q1, q2, q3⟩ := hh
  exact ⟨_, ⟨_, _, _, _, L, rfl, g, by omega, by omega, by omega⟩, fun P => (k_type_bad (d := d) (X := X) (cl := cl) (sl := sl) (L := L) (h := h) (hcl := q1) (P := P))⟩
theorem h_type_full {v : Nat} (h1 : 32 ≤ v) (h2 : v ≤ 126) (hl : G.len = 60) (hh : Hs n G s) : ∃ s2, Hs (n + 1) G s2 ∧ ∀ P, am_Ca X (d + 8) 6002 [.ref 0, .int (nI v)] s P = P (.inr 1) s2 := by
  obtain ⟨cl, sl, F, A, L, rfl, g, q1, q2, q3⟩ := hh
  exact ⟨_, ⟨_, _, _, _, L, rfl, g, by omega, by omega, by omega⟩, fun P => (k_type_full (d := d) (X := X) (cl := cl) (sl := sl) (L := L) (h1 := h1) (h2 := h2) (hl := hl) (c := g) (hcl := q1) (P := P))⟩
theorem h_clearPad  (hh : Hs n G s) : ∃ s2, Hs n (mkG G.S G.m G.rs G.hs G.sn 0 G.pd) s2 ∧ ∀ P, am_Ca X (d + 8) 6003 [.ref 0] s P = P (.inl (some (.int (nI G.len)))) s2 := by
  obtain ⟨cl, sl, F, A, L, rfl, g, q1, q2, q3⟩ := hh
  obtain ⟨F2, e, g2, -⟩ := (k_clearPad (d := d) (X := X) (cl := cl) (sl := sl) (L := L)  (c := g))
  exact ⟨_, ⟨_, _, F2, A, L, rfl, g2, by omega, by omega, by omega⟩, e⟩
theorem h_fault  (hh : Hs n G s) : am_Ca X (d + 8) 6004 [.ref 0] s P = P (.inl (some (.int (pk (ffN G.len G.pd G.len 0 0))))) s := by
  obtain ⟨cl, sl, F, A, L, rfl, g, q1, q2, q3⟩ := hh
  exact (k_fault (d := d) (X := X) (cl := cl) (sl := sl) (L := L)  (c := g) (P := P))
theorem h_isConflict {a b : Nat} (ha : a < 4) (hb : b < 6) (hh : Hs n G s) : am_Ca X (d + 8) 6020 [.ref 0, .int (nI a), .int (nI b)] s P = P (.inl (some (.int (bI (¬ G.S.O (a * 6 + b) = 0))))) s := by
  obtain ⟨cl, sl, F, A, L, rfl, g, q1, q2, q3⟩ := hh
  exact (k_isConflict (d := d) (X := X) (cl := cl) (sl := sl) (L := L) (ha := ha) (hb := hb) (c := g) (P := P))
theorem h_theirs {a b : Nat} (ha : a < 4) (hb : b < 6) (h0 : ¬ G.S.O (a * 6 + b) = 0) (hh : Hs n G s) : am_Ca X (d + 7) 6021 [.ref 0, .int (nI a), .int (nI b)] s P = P (.inl (some (.int (nI (G.S.O (a * 6 + b) - 1))))) s := by
  obtain ⟨cl, sl, F, A, L, rfl, g, q1, q2, q3⟩ := hh
  exact (k_theirs (d := d) (X := X) (cl := cl) (sl := sl) (L := L) (ha := ha) (hb := hb) (h0 := h0) (c := g) (P := P))
theorem h_conflicts  (hh : Hs n G s) : am_Ca X (d + 8) 6022 [.ref 0] s P = P (.inl (some (.int (nI (nco G.S))))) s := by
  obtain ⟨cl, sl, F, A, L, rfl, g, q1, q2, q3⟩ := hh
  exact (k_conflicts (d := d) (X := X) (cl := cl) (sl := sl) (L := L)  (c := g) (P := P))
theorem h_regions  (hh : Hs n G s) : am_Ca X (d + 8) 6023 [.ref 0] s P = P (.inl (some (.int (nI (cnt (rgF (coN G.S)) 24))))) s := by
  obtain ⟨cl, sl, F, A, L, rfl, g, q1, q2, q3⟩ := hh
  exact (k_regions (d := d) (X := X) (cl := cl) (sl := sl) (L := L)  (c := g) (P := P))
theorem h_longestRegion  (hh : Hs n G s) : am_Ca X (d + 8) 6024 [.ref 0] s P = P (.inl (some (.int (nI (lonL (coN G.S) 24))))) s := by
  obtain ⟨cl, sl, F, A, L, rfl, g, q1, q2, q3⟩ := hh
  exact (k_longestRegion (d := d) (X := X) (cl := cl) (sl := sl) (L := L)  (c := g) (P := P))
theorem h_isMerging  (hh : Hs n G s) : am_Ca X (d + 7) 6025 [.ref 0] s P = P (.inl (some (.int (bI (G.S.op = 1))))) s := by
  obtain ⟨cl, sl, F, A, L, rfl, g, q1, q2, q3⟩ := hh
  exact (k_isMerging (d := d) (X := X) (cl := cl) (sl := sl) (L := L)  (c := g) (P := P))
theorem h_isPicking  (hh : Hs n G s) : am_Ca X (d + 7) 6026 [.ref 0] s P = P (.inl (some (.int (bI (G.S.op = 2))))) s := by
  obtain ⟨cl, sl, F, A, L, rfl, g, q1, q2, q3⟩ := hh
  exact (k_isPicking (d := d) (X := X) (cl := cl) (sl := sl) (L := L)  (c := g) (P := P))
theorem h_lineOf {a b : Nat} (ha : a < 4) (hb : b < 6) (hh : Hs n G s) : am_Ca X (d + 7) 6027 [.ref 0, .int (nI a), .int (nI b)] s P = P (.inl (some (.int (nI (G.S.W (a * 6 + b)))))) s := by
  obtain ⟨cl, sl, F, A, L, rfl, g, q1, q2, q3⟩ := hh
  exact (k_lineOf (d := d) (X := X) (cl := cl) (sl := sl) (L := L) (ha := ha) (hb := hb) (c := g) (P := P))
theorem h_changed  (hh : Hs n G s) : am_Ca X (d + 8) 6029 [.ref 0] s P = P (.inl (some (.int (nI (unl G.S))))) s := by
  obtain ⟨cl, sl, F, A, L, rfl, g, q1, q2, q3⟩ := hh
  exact (k_changed (d := d) (X := X) (cl := cl) (sl := sl) (L := L)  (c := g) (P := P))
theorem h_lineAt {a b : Nat} (ha : a < 4) (hb : b < 6) {k : Nat} (hk : k < G.S.n) (hh : Hs n G s) : am_Ca X (d + 7) 6030 [.ref 0, .int (nI k), .int (nI a), .int (nI b)] s P = P (.inl (some (.int (nI (G.S.T k (a * 6 + b)))))) s := by
  obtain ⟨cl, sl, F, A, L, rfl, g, q1, q2, q3⟩ := hh
  exact (k_lineAt (d := d) (X := X) (cl := cl) (sl := sl) (L := L) (ha := ha) (hb := hb) (hk := hk) (c := g) (P := P))
theorem h_commits  (hh : Hs n G s) : am_Ca X (d + 7) 6035 [.ref 0] s P = P (.inl (some (.int (nI G.S.n)))) s := by
  obtain ⟨cl, sl, F, A, L, rfl, g, q1, q2, q3⟩ := hh
  exact (k_commits (d := d) (X := X) (cl := cl) (sl := sl) (L := L)  (c := g) (P := P))
theorem h_firstParent {k : Nat} (hk : k < G.S.n) (hh : Hs n G s) : am_Ca X (d + 7) 6036 [.ref 0, .int (nI k)] s P = P (.inl (some (.int (pk (G.S.p k))))) s := by
  obtain ⟨cl, sl, F, A, L, rfl, g, q1, q2, q3⟩ := hh
  exact (k_firstParent (d := d) (X := X) (cl := cl) (sl := sl) (L := L) (hk := hk) (c := g) (P := P))
theorem h_secondParent {k : Nat} (hk : k < G.S.n) (hh : Hs n G s) : am_Ca X (d + 7) 6037 [.ref 0, .int (nI k)] s P = P (.inl (some (.int (pk (G.S.q k))))) s := by
  obtain ⟨cl, sl, F, A, L, rfl, g, q1, q2, q3⟩ := hh
  exact (k_secondParent (d := d) (X := X) (cl := cl) (sl := sl) (L := L) (hk := hk) (c := g) (P := P))
theorem h_isBranch {b : Nat} (hb : b < 6) (hh : Hs n G s) : am_Ca X (d + 8) 6039 [.ref 0, .int (nI b)] s P = P (.inl (some (.int (bI (¬ G.S.br b = 0))))) s := by
  obtain ⟨cl, sl, F, A, L, rfl, g, q1, q2, q3⟩ := hh
  exact (k_isBranch (d := d) (X := X) (cl := cl) (sl := sl) (L := L) (hb := hb) (c := g) (P := P))
theorem h_standsAt {b : Nat} (hb : b < 6) (h0 : ¬ G.S.br b = 0) (hh : Hs n G s) : am_Ca X (d + 7) 6040 [.ref 0, .int (nI b)] s P = P (.inl (some (.int (nI (G.S.br b - 1))))) s := by
  obtain ⟨cl, sl, F, A, L, rfl, g, q1, q2, q3⟩ := hh
  exact (k_standsAt (d := d) (X := X) (cl := cl) (sl := sl) (L := L) (hb := hb) (h0 := h0) (c := g) (P := P))
theorem h_current  (hh : Hs n G s) : am_Ca X (d + 7) 6041 [.ref 0] s P = P (.inl (some (.int (nI G.S.cur)))) s := by
  obtain ⟨cl, sl, F, A, L, rfl, g, q1, q2, q3⟩ := hh
  exact (k_current (d := d) (X := X) (cl := cl) (sl := sl) (L := L)  (c := g) (P := P))
theorem h_head  (hh : Hs n G s) : am_Ca X (d + 8) 6042 [.ref 0] s P = P (.inl (some (.int (nI (hd G.S))))) s := by
  obtain ⟨cl, sl, F, A, L, rfl, g, q1, q2, q3⟩ := hh
  exact (k_head (d := d) (X := X) (cl := cl) (sl := sl) (L := L)  (c := g) (P := P))
theorem h_aside  (hh : Hs n G s) : am_Ca X (d + 7) 6043 [.ref 0] s P = P (.inl (some (.int (nI G.S.ac)))) s := by
  obtain ⟨cl, sl, F, A, L, rfl, g, q1, q2, q3⟩ := hh
  exact (k_aside (d := d) (X := X) (cl := cl) (sl := sl) (L := L)  (c := g) (P := P))
theorem h_allConflicts  (hh : Hs n G s) : am_Ca X (d + 7) 6055 [.ref 0] s P = P (.inl (some (.int (nI G.S.cf)))) s := by
  obtain ⟨cl, sl, F, A, L, rfl, g, q1, q2, q3⟩ := hh
  exact (k_allConflicts (d := d) (X := X) (cl := cl) (sl := sl) (L := L)  (c := g) (P := P))
theorem h_reaches {k o : Nat} (hk : k < G.S.n) (ho : o < G.S.n) (hh : Hs n G s) : ∃ s2, Hs n G s2 ∧ ∀ P, am_Ca X (d + 8) 6045 [.ref 0, .int (nI k), .int (nI o)] s P = P (.inl (some (.int (bI (Re G.S.p G.S.q k o))))) s2 := by
  obtain ⟨cl, sl, F, A, L, rfl, g, q1, q2, q3⟩ := hh
  exact ⟨_, ⟨_, _, _, _, L, rfl, (gF_scr g (by decide) (by decide)), by omega, by omega, by omega⟩, fun P => (k_reaches (d := d) (X := X) (cl := cl) (sl := sl) (L := L) (hk := hk) (ho := ho) (c := g) (P := P))⟩
theorem h_history {k : Nat} (hk : k < G.S.n) (hh : Hs n G s) : ∃ s2, Hs n G s2 ∧ ∀ P, am_Ca X (d + 8) 6046 [.ref 0, .int (nI k)] s P = P (.inl (some (.int (nI (cnt (dP (Re G.S.p G.S.q k)) 60))))) s2 := by
  obtain ⟨cl, sl, F, A, L, rfl, g, q1, q2, q3⟩ := hh
  exact ⟨_, ⟨_, _, _, _, L, rfl, (gF_scr g (by decide) (by decide)), by omega, by omega, by omega⟩, fun P => (k_history (d := d) (X := X) (cl := cl) (sl := sl) (L := L) (hk := hk) (c := g) (P := P))⟩
theorem h_historyAt {k pl : Nat} (hk : k < G.S.n) (hp : pl < 2147483648) (hh : Hs n G s) : ∃ s2, Hs n G s2 ∧ ∀ P, am_Ca X (d + 8) 6047 [.ref 0, .int (nI k), .int (nI pl)] s P = P (.inl (some (.int (rat (Re G.S.p G.S.q k) pl 60 0)))) s2 := by
  obtain ⟨cl, sl, F, A, L, rfl, g, q1, q2, q3⟩ := hh
  exact ⟨_, ⟨_, _, _, _, L, rfl, (gF_scr g (by decide) (by decide)), by omega, by omega, by omega⟩, fun P => (k_historyAt (d := d) (X := X) (cl := cl) (sl := sl) (L := L) (hk := hk) (hp := hp) (c := g) (P := P))⟩
theorem h_distance {k o : Nat} (hk : k < G.S.n) (ho : o < G.S.n) (hh : Hs n G s) : ∃ s2, Hs n G s2 ∧ ∀ P, am_Ca X (d + 8) 6048 [.ref 0, .int (nI k), .int (nI o)] s P = P (.inl (some (.int (pk (fw G.S.p G.S.q 60 (st0 k) o))))) s2 := by
  obtain ⟨cl, sl, F, A, L, rfl, g, q1, q2, q3⟩ := hh
  exact ⟨_, ⟨_, _, _, _, L, rfl, (gF_scr g (by decide) (by decide)), by omega, by omega, by omega⟩, fun P => (k_distance (d := d) (X := X) (cl := cl) (sl := sl) (L := L) (hk := hk) (ho := ho) (c := g) (P := P))⟩
theorem h_depth {k : Nat} (hk : k < G.S.n) (hh : Hs n G s) : ∃ s2, Hs n G s2 ∧ ∀ P, am_Ca X (d + 8) 6049 [.ref 0, .int (nI k)] s P = P (.inl (some (.int (nI (dr G.S.p G.S.q (k + 1) k))))) s2 := by
  obtain ⟨cl, sl, F, A, L, rfl, g, q1, q2, q3⟩ := hh
  exact ⟨_, ⟨_, _, _, _, L, rfl, (gF_scr g (by decide) (by decide)), by omega, by omega, by omega⟩, fun P => (k_depth (d := d) (X := X) (cl := cl) (sl := sl) (L := L) (hk := hk) (c := g) (P := P))⟩
theorem h_base {k o : Nat} (hk : k < G.S.n) (ho : o < G.S.n) (hh : Hs n G s) : ∃ s2, Hs n G s2 ∧ ∀ P, am_Ca X (d + 8) 6050 [.ref 0, .int (nI k), .int (nI o)] s P = P (.inl (some (.int (hiC (fun x => Re G.S.p G.S.q k x ∧ Re G.S.p G.S.q o x) 60)))) s2 := by
  obtain ⟨cl, sl, F, A, L, rfl, g, q1, q2, q3⟩ := hh
  exact ⟨_, ⟨_, _, _, _, L, rfl, (gF_scr g (by decide) (by decide)), by omega, by omega, by omega⟩, fun P => (k_base (d := d) (X := X) (cl := cl) (sl := sl) (L := L) (hk := hk) (ho := ho) (c := g) (P := P))⟩
theorem h_baseByMarks {k o : Nat} (hk : k < G.S.n) (ho : o < G.S.n) (hh : Hs n G s) : ∃ s2, Hs n G s2 ∧ ∀ P, am_Ca X (d + 8) 6051 [.ref 0, .int (nI k), .int (nI o)] s P = P (.inl (some (.int (hiC (fun x => Re G.S.p G.S.q k x ∧ Re G.S.p G.S.q o x) 60)))) s2 := by
  obtain ⟨cl, sl, F, A, L, rfl, g, q1, q2, q3⟩ := hh
  exact ⟨_, ⟨_, _, _, _, L, rfl, (gF_scr (gF_scr g (by decide) (by decide)) (by decide) (by decide)), by omega, by omega, by omega⟩, fun P => (k_baseByMarks (d := d) (X := X) (cl := cl) (sl := sl) (L := L) (hk := hk) (ho := ho) (c := g) (P := P))⟩
theorem h_bestCommon {k o : Nat} (hk : k < G.S.n) (ho : o < G.S.n) (hh : Hs n G s) : ∃ s2, Hs n G s2 ∧ ∀ P, am_Ca X (d + 8) 6052 [.ref 0, .int (nI k), .int (nI o)] s P = P (.inl (some (.int (nI (cnt (bP G.S.p G.S.q (fun x => Re G.S.p G.S.q k x ∧ Re G.S.p G.S.q o x)) 60))))) s2 := by
  obtain ⟨cl, sl, F, A, L, rfl, g, q1, q2, q3⟩ := hh
  exact ⟨_, ⟨_, _, _, _, L, rfl, (gF_scr g (by decide) (by decide)), by omega, by omega, by omega⟩, fun P => (k_bestCommon (d := d) (X := X) (cl := cl) (sl := sl) (L := L) (hk := hk) (ho := ho) (c := g) (P := P))⟩
theorem h_lost  (hh : Hs n G s) : ∃ s2, Hs n G s2 ∧ ∀ P, am_Ca X (d + 8) 6044 [.ref 0] s P = P (.inl (some (.int (nI (cnt (dP (fun x => ¬ Ub G.S.p G.S.q G.S.br 6 x)) G.S.n))))) s2 := by
  obtain ⟨cl, sl, F, A, L, rfl, g, q1, q2, q3⟩ := hh
  exact ⟨_, ⟨_, _, _, _, L, rfl, (gF_scr g (by decide) (by decide)), by omega, by omega, by omega⟩, fun P => (k_lost (d := d) (X := X) (cl := cl) (sl := sl) (L := L)  (c := g) (P := P))⟩
theorem h_isConflict_place {x y : Int32} (h : noP x y) (hh : Hs n G s) : ∃ s2, Hs (n + 1) G s2 ∧ ∀ P, am_Ca X (d + 8) 6020 [.ref 0, .int x, .int y] s P = P (.inr 0) s2 := by
  obtain ⟨cl, sl, F, A, L, rfl, g, q1, q2, q3⟩ := hh
  exact ⟨_, ⟨_, _, _, _, L, rfl, g, by omega, by omega, by omega⟩, fun P => (k_isConflict_place (d := d) (X := X) (cl := cl) (sl := sl) (L := L) (h := h) (c := g) (hcl := q1) (P := P))⟩
theorem h_theirs_place {x y : Int32} (h : noP x y) (hh : Hs n G s) : ∃ s2, Hs (n + 1) G s2 ∧ ∀ P, am_Ca X (d + 8) 6021 [.ref 0, .int x, .int y] s P = P (.inr 0) s2 := by
  obtain ⟨cl, sl, F, A, L, rfl, g, q1, q2, q3⟩ := hh
  exact ⟨_, ⟨_, _, _, _, L, rfl, g, by omega, by omega, by omega⟩, fun P => (k_theirs_place (d := d) (X := X) (cl := cl) (sl := sl) (L := L) (h := h) (c := g) (hcl := q1) (P := P))⟩
theorem h_lineOf_place {x y : Int32} (h : noP x y) (hh : Hs n G s) : ∃ s2, Hs (n + 1) G s2 ∧ ∀ P, am_Ca X (d + 8) 6027 [.ref 0, .int x, .int y] s P = P (.inr 0) s2 := by
  obtain ⟨cl, sl, F, A, L, rfl, g, q1, q2, q3⟩ := hh
  exact ⟨_, ⟨_, _, _, _, L, rfl, g, by omega, by omega, by omega⟩, fun P => (k_lineOf_place (d := d) (X := X) (cl := cl) (sl := sl) (L := L) (h := h) (c := g) (hcl := q1) (P := P))⟩
theorem h_isChanged_place {x y : Int32} (h : noP x y) (hh : Hs n G s) : ∃ s2, Hs (n + 1) G s2 ∧ ∀ P, am_Ca X (d + 8) 6028 [.ref 0, .int x, .int y] s P = P (.inr 0) s2 := by
  obtain ⟨cl, sl, F, A, L, rfl, g, q1, q2, q3⟩ := hh
  exact ⟨_, ⟨_, _, _, _, L, rfl, g, by omega, by omega, by omega⟩, fun P => (k_isChanged_place (d := d) (X := X) (cl := cl) (sl := sl) (L := L) (h := h) (c := g) (hcl := q1) (P := P))⟩
theorem h_theirs_no {a b : Nat} (ha : a < 4) (hb : b < 6) (h0 : G.S.O (a * 6 + b) = 0) (hh : Hs n G s) : ∃ s2, Hs (n + 1) G s2 ∧ ∀ P, am_Ca X (d + 7) 6021 [.ref 0, .int (nI a), .int (nI b)] s P = P (.inr 1) s2 := by
  obtain ⟨cl, sl, F, A, L, rfl, g, q1, q2, q3⟩ := hh
  exact ⟨_, ⟨_, _, _, _, L, rfl, g, by omega, by omega, by omega⟩, fun P => (k_theirs_no (d := d) (X := X) (cl := cl) (sl := sl) (L := L) (ha := ha) (hb := hb) (h0 := h0) (c := g) (hcl := q1) (P := P))⟩
theorem h_lineAt_commit {z x y : Int32} (h : noC G.S z) (hh : Hs n G s) : ∃ s2, Hs (n + 1) G s2 ∧ ∀ P, am_Ca X (d + 8) 6030 [.ref 0, .int z, .int x, .int y] s P = P (.inr 0) s2 := by
  obtain ⟨cl, sl, F, A, L, rfl, g, q1, q2, q3⟩ := hh
  exact ⟨_, ⟨_, _, _, _, L, rfl, g, by omega, by omega, by omega⟩, fun P => (k_lineAt_commit (d := d) (X := X) (cl := cl) (sl := sl) (L := L) (h := h) (c := g) (hcl := q1) (P := P))⟩
theorem h_lineAt_place {k : Nat} {x y : Int32} (hk : k < G.S.n) (h : noP x y) (hh : Hs n G s) : ∃ s2, Hs (n + 1) G s2 ∧ ∀ P, am_Ca X (d + 8) 6030 [.ref 0, .int (nI k), .int x, .int y] s P = P (.inr 0) s2 := by
  obtain ⟨cl, sl, F, A, L, rfl, g, q1, q2, q3⟩ := hh
  exact ⟨_, ⟨_, _, _, _, L, rfl, g, by omega, by omega, by omega⟩, fun P => (k_lineAt_place (d := d) (X := X) (cl := cl) (sl := sl) (L := L) (hk := hk) (h := h) (c := g) (hcl := q1) (P := P))⟩
theorem h_broughtBy_commit {z x y : Int32} (h : noC G.S z) (hh : Hs n G s) : ∃ s2, Hs (n + 1) G s2 ∧ ∀ P, am_Ca X (d + 8) 6032 [.ref 0, .int z, .int x, .int y] s P = P (.inr 0) s2 := by
  obtain ⟨cl, sl, F, A, L, rfl, g, q1, q2, q3⟩ := hh
  exact ⟨_, ⟨_, _, _, _, L, rfl, g, by omega, by omega, by omega⟩, fun P => (k_broughtBy_commit (d := d) (X := X) (cl := cl) (sl := sl) (L := L) (h := h) (c := g) (hcl := q1) (P := P))⟩
theorem h_broughtBy_place {k : Nat} {x y : Int32} (hk : k < G.S.n) (h : noP x y) (hh : Hs n G s) : ∃ s2, Hs (n + 1) G s2 ∧ ∀ P, am_Ca X (d + 8) 6032 [.ref 0, .int (nI k), .int x, .int y] s P = P (.inr 0) s2 := by
  obtain ⟨cl, sl, F, A, L, rfl, g, q1, q2, q3⟩ := hh
  exact ⟨_, ⟨_, _, _, _, L, rfl, g, by omega, by omega, by omega⟩, fun P => (k_broughtBy_place (d := d) (X := X) (cl := cl) (sl := sl) (L := L) (hk := hk) (h := h) (c := g) (hcl := q1) (P := P))⟩
theorem h_firstWith_commit {z x y v : Int32} (h : noC G.S z) (hh : Hs n G s) : ∃ s2, Hs (n + 1) G s2 ∧ ∀ P, am_Ca X (d + 8) 6033 [.ref 0, .int z, .int x, .int y, .int v] s P = P (.inr 0) s2 := by
  obtain ⟨cl, sl, F, A, L, rfl, g, q1, q2, q3⟩ := hh
  exact ⟨_, ⟨_, _, _, _, L, rfl, g, by omega, by omega, by omega⟩, fun P => (k_firstWith_commit (d := d) (X := X) (cl := cl) (sl := sl) (L := L) (h := h) (c := g) (hcl := q1) (P := P))⟩
theorem h_firstWith_place {k : Nat} {x y v : Int32} (hk : k < G.S.n) (h : noP x y) (hh : Hs n G s) : ∃ s2, Hs (n + 1) G s2 ∧ ∀ P, am_Ca X (d + 8) 6033 [.ref 0, .int (nI k), .int x, .int y, .int v] s P = P (.inr 0) s2 := by
  obtain ⟨cl, sl, F, A, L, rfl, g, q1, q2, q3⟩ := hh
  exact ⟨_, ⟨_, _, _, _, L, rfl, g, by omega, by omega, by omega⟩, fun P => (k_firstWith_place (d := d) (X := X) (cl := cl) (sl := sl) (L := L) (hk := hk) (h := h) (c := g) (hcl := q1) (P := P))⟩
theorem h_differences_one {x y : Int32} (h : noC G.S x) (hh : Hs n G s) : ∃ s2, Hs (n + 1) G s2 ∧ ∀ P, am_Ca X (d + 8) 6031 [.ref 0, .int x, .int y] s P = P (.inr 0) s2 := by
  obtain ⟨cl, sl, F, A, L, rfl, g, q1, q2, q3⟩ := hh
  exact ⟨_, ⟨_, _, _, _, L, rfl, g, by omega, by omega, by omega⟩, fun P => (k_differences_one (d := d) (X := X) (cl := cl) (sl := sl) (L := L) (h := h) (c := g) (hcl := q1) (P := P))⟩
theorem h_differences_two {k : Nat} {y : Int32} (hk : k < G.S.n) (h : noC G.S y) (hh : Hs n G s) : ∃ s2, Hs (n + 1) G s2 ∧ ∀ P, am_Ca X (d + 8) 6031 [.ref 0, .int (nI k), .int y] s P = P (.inr 0) s2 := by
  obtain ⟨cl, sl, F, A, L, rfl, g, q1, q2, q3⟩ := hh
  exact ⟨_, ⟨_, _, _, _, L, rfl, g, by omega, by omega, by omega⟩, fun P => (k_differences_two (d := d) (X := X) (cl := cl) (sl := sl) (L := L) (hk := hk) (h := h) (c := g) (hcl := q1) (P := P))⟩
theorem h_reaches_one {x y : Int32} (h : noC G.S x) (hh : Hs n G s) : ∃ s2, Hs (n + 1) G s2 ∧ ∀ P, am_Ca X (d + 8) 6045 [.ref 0, .int x, .int y] s P = P (.inr 0) s2 := by
  obtain ⟨cl, sl, F, A, L, rfl, g, q1, q2, q3⟩ := hh
  exact ⟨_, ⟨_, _, _, _, L, rfl, g, by omega, by omega, by omega⟩, fun P => (k_reaches_one (d := d) (X := X) (cl := cl) (sl := sl) (L := L) (h := h) (c := g) (hcl := q1) (P := P))⟩
theorem h_reaches_two {k : Nat} {y : Int32} (hk : k < G.S.n) (h : noC G.S y) (hh : Hs n G s) : ∃ s2, Hs (n + 1) G s2 ∧ ∀ P, am_Ca X (d + 8) 6045 [.ref 0, .int (nI k), .int y] s P = P (.inr 0) s2 := by
  obtain ⟨cl, sl, F, A, L, rfl, g, q1, q2, q3⟩ := hh
  exact ⟨_, ⟨_, _, _, _, L, rfl, g, by omega, by omega, by omega⟩, fun P => (k_reaches_two (d := d) (X := X) (cl := cl) (sl := sl) (L := L) (hk := hk) (h := h) (c := g) (hcl := q1) (P := P))⟩
theorem h_distance_one {x y : Int32} (h : noC G.S x) (hh : Hs n G s) : ∃ s2, Hs (n + 1) G s2 ∧ ∀ P, am_Ca X (d + 8) 6048 [.ref 0, .int x, .int y] s P = P (.inr 0) s2 := by
  obtain ⟨cl, sl, F, A, L, rfl, g, q1, q2, q3⟩ := hh
  exact ⟨_, ⟨_, _, _, _, L, rfl, g, by omega, by omega, by omega⟩, fun P => (k_distance_one (d := d) (X := X) (cl := cl) (sl := sl) (L := L) (h := h) (c := g) (hcl := q1) (P := P))⟩
theorem h_distance_two {k : Nat} {y : Int32} (hk : k < G.S.n) (h : noC G.S y) (hh : Hs n G s) : ∃ s2, Hs (n + 1) G s2 ∧ ∀ P, am_Ca X (d + 8) 6048 [.ref 0, .int (nI k), .int y] s P = P (.inr 0) s2 := by
  obtain ⟨cl, sl, F, A, L, rfl, g, q1, q2, q3⟩ := hh
  exact ⟨_, ⟨_, _, _, _, L, rfl, g, by omega, by omega, by omega⟩, fun P => (k_distance_two (d := d) (X := X) (cl := cl) (sl := sl) (L := L) (hk := hk) (h := h) (c := g) (hcl := q1) (P := P))⟩
theorem h_base_one {x y : Int32} (h : noC G.S x) (hh : Hs n G s) : ∃ s2, Hs (n + 1) G s2 ∧ ∀ P, am_Ca X (d + 8) 6050 [.ref 0, .int x, .int y] s P = P (.inr 0) s2 := by
  obtain ⟨cl, sl, F, A, L, rfl, g, q1, q2, q3⟩ := hh
  exact ⟨_, ⟨_, _, _, _, L, rfl, g, by omega, by omega, by omega⟩, fun P => (k_base_one (d := d) (X := X) (cl := cl) (sl := sl) (L := L) (h := h) (c := g) (hcl := q1) (P := P))⟩
theorem h_base_two {k : Nat} {y : Int32} (hk : k < G.S.n) (h : noC G.S y) (hh : Hs n G s) : ∃ s2, Hs (n + 1) G s2 ∧ ∀ P, am_Ca X (d + 8) 6050 [.ref 0, .int (nI k), .int y] s P = P (.inr 0) s2 := by
  obtain ⟨cl, sl, F, A, L, rfl, g, q1, q2, q3⟩ := hh
  exact ⟨_, ⟨_, _, _, _, L, rfl, g, by omega, by omega, by omega⟩, fun P => (k_base_two (d := d) (X := X) (cl := cl) (sl := sl) (L := L) (hk := hk) (h := h) (c := g) (hcl := q1) (P := P))⟩
theorem h_baseByMarks_one {x y : Int32} (h : noC G.S x) (hh : Hs n G s) : ∃ s2, Hs (n + 1) G s2 ∧ ∀ P, am_Ca X (d + 8) 6051 [.ref 0, .int x, .int y] s P = P (.inr 0) s2 := by
  obtain ⟨cl, sl, F, A, L, rfl, g, q1, q2, q3⟩ := hh
  exact ⟨_, ⟨_, _, _, _, L, rfl, g, by omega, by omega, by omega⟩, fun P => (k_baseByMarks_one (d := d) (X := X) (cl := cl) (sl := sl) (L := L) (h := h) (c := g) (hcl := q1) (P := P))⟩
theorem h_baseByMarks_two {k : Nat} {y : Int32} (hk : k < G.S.n) (h : noC G.S y) (hh : Hs n G s) : ∃ s2, Hs (n + 1) G s2 ∧ ∀ P, am_Ca X (d + 8) 6051 [.ref 0, .int (nI k), .int y] s P = P (.inr 0) s2 := by
  obtain ⟨cl, sl, F, A, L, rfl, g, q1, q2, q3⟩ := hh
  exact ⟨_, ⟨_, _, _, _, L, rfl, g, by omega, by omega, by omega⟩, fun P => (k_baseByMarks_two (d := d) (X := X) (cl := cl) (sl := sl) (L := L) (hk := hk) (h := h) (c := g) (hcl := q1) (P := P))⟩
theorem h_bestCommon_one {x y : Int32} (h : noC G.S x) (hh : Hs n G s) : ∃ s2, Hs (n + 1) G s2 ∧ ∀ P, am_Ca X (d + 8) 6052 [.ref 0, .int x, .int y] s P = P (.inr 0) s2 := by
  obtain ⟨cl, sl, F, A, L, rfl, g, q1, q2, q3⟩ := hh
  exact ⟨_, ⟨_, _, _, _, L, rfl, g, by omega, by omega, by omega⟩, fun P => (k_bestCommon_one (d := d) (X := X) (cl := cl) (sl := sl) (L := L) (h := h) (c := g) (hcl := q1) (P := P))⟩
theorem h_bestCommon_two {k : Nat} {y : Int32} (hk : k < G.S.n) (h : noC G.S y) (hh : Hs n G s) : ∃ s2, Hs (n + 1) G s2 ∧ ∀ P, am_Ca X (d + 8) 6052 [.ref 0, .int (nI k), .int y] s P = P (.inr 0) s2 := by
  obtain ⟨cl, sl, F, A, L, rfl, g, q1, q2, q3⟩ := hh
  exact ⟨_, ⟨_, _, _, _, L, rfl, g, by omega, by omega, by omega⟩, fun P => (k_bestCommon_two (d := d) (X := X) (cl := cl) (sl := sl) (L := L) (hk := hk) (h := h) (c := g) (hcl := q1) (P := P))⟩
theorem h_firstParent_commit {x : Int32} (h : noC G.S x) (hh : Hs n G s) : ∃ s2, Hs (n + 1) G s2 ∧ ∀ P, am_Ca X (d + 8) 6036 [.ref 0, .int x] s P = P (.inr 0) s2 := by
  obtain ⟨cl, sl, F, A, L, rfl, g, q1, q2, q3⟩ := hh
  exact ⟨_, ⟨_, _, _, _, L, rfl, g, by omega, by omega, by omega⟩, fun P => (k_firstParent_commit (d := d) (X := X) (cl := cl) (sl := sl) (L := L) (h := h) (c := g) (hcl := q1) (P := P))⟩
theorem h_secondParent_commit {x : Int32} (h : noC G.S x) (hh : Hs n G s) : ∃ s2, Hs (n + 1) G s2 ∧ ∀ P, am_Ca X (d + 8) 6037 [.ref 0, .int x] s P = P (.inr 0) s2 := by
  obtain ⟨cl, sl, F, A, L, rfl, g, q1, q2, q3⟩ := hh
  exact ⟨_, ⟨_, _, _, _, L, rfl, g, by omega, by omega, by omega⟩, fun P => (k_secondParent_commit (d := d) (X := X) (cl := cl) (sl := sl) (L := L) (h := h) (c := g) (hcl := q1) (P := P))⟩
theorem h_history_commit {x : Int32} (h : noC G.S x) (hh : Hs n G s) : ∃ s2, Hs (n + 1) G s2 ∧ ∀ P, am_Ca X (d + 8) 6046 [.ref 0, .int x] s P = P (.inr 0) s2 := by
  obtain ⟨cl, sl, F, A, L, rfl, g, q1, q2, q3⟩ := hh
  exact ⟨_, ⟨_, _, _, _, L, rfl, g, by omega, by omega, by omega⟩, fun P => (k_history_commit (d := d) (X := X) (cl := cl) (sl := sl) (L := L) (h := h) (c := g) (hcl := q1) (P := P))⟩
theorem h_depth_commit {x : Int32} (h : noC G.S x) (hh : Hs n G s) : ∃ s2, Hs (n + 1) G s2 ∧ ∀ P, am_Ca X (d + 8) 6049 [.ref 0, .int x] s P = P (.inr 0) s2 := by
  obtain ⟨cl, sl, F, A, L, rfl, g, q1, q2, q3⟩ := hh
  exact ⟨_, ⟨_, _, _, _, L, rfl, g, by omega, by omega, by omega⟩, fun P => (k_depth_commit (d := d) (X := X) (cl := cl) (sl := sl) (L := L) (h := h) (c := g) (hcl := q1) (P := P))⟩
theorem h_pick_commit {x : Int32} (h : noC G.S x) (hh : Hs n G s) : ∃ s2, Hs (n + 1) G s2 ∧ ∀ P, am_Ca X (d + 8) 6015 [.ref 0, .int x] s P = P (.inr 0) s2 := by
  obtain ⟨cl, sl, F, A, L, rfl, g, q1, q2, q3⟩ := hh
  exact ⟨_, ⟨_, _, _, _, L, rfl, g, by omega, by omega, by omega⟩, fun P => (k_pick_commit (d := d) (X := X) (cl := cl) (sl := sl) (L := L) (h := h) (c := g) (hcl := q1) (P := P))⟩
theorem h_revert_commit {x : Int32} (h : noC G.S x) (hh : Hs n G s) : ∃ s2, Hs (n + 1) G s2 ∧ ∀ P, am_Ca X (d + 8) 6016 [.ref 0, .int x] s P = P (.inr 0) s2 := by
  obtain ⟨cl, sl, F, A, L, rfl, g, q1, q2, q3⟩ := hh
  exact ⟨_, ⟨_, _, _, _, L, rfl, g, by omega, by omega, by omega⟩, fun P => (k_revert_commit (d := d) (X := X) (cl := cl) (sl := sl) (L := L) (h := h) (c := g) (hcl := q1) (P := P))⟩
theorem h_historyAt_commit {x y : Int32} (h : noC G.S x) (hh : Hs n G s) : ∃ s2, Hs (n + 1) G s2 ∧ ∀ P, am_Ca X (d + 8) 6047 [.ref 0, .int x, .int y] s P = P (.inr 0) s2 := by
  obtain ⟨cl, sl, F, A, L, rfl, g, q1, q2, q3⟩ := hh
  exact ⟨_, ⟨_, _, _, _, L, rfl, g, by omega, by omega, by omega⟩, fun P => (k_historyAt_commit (d := d) (X := X) (cl := cl) (sl := sl) (L := L) (h := h) (c := g) (hcl := q1) (P := P))⟩
theorem h_historyAt_place {k : Nat} {y : Int32} (hk : k < G.S.n) (h : y < nI 0) (hh : Hs n G s) : ∃ s2, Hs (n + 1) G s2 ∧ ∀ P, am_Ca X (d + 8) 6047 [.ref 0, .int (nI k), .int y] s P = P (.inr 0) s2 := by
  obtain ⟨cl, sl, F, A, L, rfl, g, q1, q2, q3⟩ := hh
  exact ⟨_, ⟨_, _, _, _, L, rfl, g, by omega, by omega, by omega⟩, fun P => (k_historyAt_place (d := d) (X := X) (cl := cl) (sl := sl) (L := L) (hk := hk) (h := h) (c := g) (hcl := q1) (P := P))⟩
theorem h_isBranch_number {x : Int32} (h : noB x) (hh : Hs n G s) : ∃ s2, Hs (n + 1) G s2 ∧ ∀ P, am_Ca X (d + 8) 6039 [.ref 0, .int x] s P = P (.inr 0) s2 := by
  obtain ⟨cl, sl, F, A, L, rfl, g, q1, q2, q3⟩ := hh
  exact ⟨_, ⟨_, _, _, _, L, rfl, g, by omega, by omega, by omega⟩, fun P => (k_isBranch_number (d := d) (X := X) (cl := cl) (sl := sl) (L := L) (h := h) (c := g) (hcl := q1) (P := P))⟩
theorem h_standsAt_number {x : Int32} (h : noB x) (hh : Hs n G s) : ∃ s2, Hs (n + 1) G s2 ∧ ∀ P, am_Ca X (d + 8) 6040 [.ref 0, .int x] s P = P (.inr 0) s2 := by
  obtain ⟨cl, sl, F, A, L, rfl, g, q1, q2, q3⟩ := hh
  exact ⟨_, ⟨_, _, _, _, L, rfl, g, by omega, by omega, by omega⟩, fun P => (k_standsAt_number (d := d) (X := X) (cl := cl) (sl := sl) (L := L) (h := h) (c := g) (hcl := q1) (P := P))⟩
theorem h_wouldConflict_number {x : Int32} (h : noB x) (hh : Hs n G s) : ∃ s2, Hs (n + 1) G s2 ∧ ∀ P, am_Ca X (d + 8) 6053 [.ref 0, .int x] s P = P (.inr 0) s2 := by
  obtain ⟨cl, sl, F, A, L, rfl, g, q1, q2, q3⟩ := hh
  exact ⟨_, ⟨_, _, _, _, L, rfl, g, by omega, by omega, by omega⟩, fun P => (k_wouldConflict_number (d := d) (X := X) (cl := cl) (sl := sl) (L := L) (h := h) (c := g) (hcl := q1) (P := P))⟩
theorem h_dropBranch_number {x : Int32} (h : noB x) (hh : Hs n G s) : ∃ s2, Hs (n + 1) G s2 ∧ ∀ P, am_Ca X (d + 8) 6012 [.ref 0, .int x] s P = P (.inr 0) s2 := by
  obtain ⟨cl, sl, F, A, L, rfl, g, q1, q2, q3⟩ := hh
  exact ⟨_, ⟨_, _, _, _, L, rfl, g, by omega, by omega, by omega⟩, fun P => (k_dropBranch_number (d := d) (X := X) (cl := cl) (sl := sl) (L := L) (h := h) (c := g) (hcl := q1) (P := P))⟩
theorem h_switchTo_number {x : Int32} (h : noB x) (hh : Hs n G s) : ∃ s2, Hs (n + 1) G s2 ∧ ∀ P, am_Ca X (d + 8) 6013 [.ref 0, .int x] s P = P (.inr 0) s2 := by
  obtain ⟨cl, sl, F, A, L, rfl, g, q1, q2, q3⟩ := hh
  exact ⟨_, ⟨_, _, _, _, L, rfl, g, by omega, by omega, by omega⟩, fun P => (k_switchTo_number (d := d) (X := X) (cl := cl) (sl := sl) (L := L) (h := h) (c := g) (hcl := q1) (P := P))⟩
theorem h_merge_number {x : Int32} (h : noB x) (hh : Hs n G s) : ∃ s2, Hs (n + 1) G s2 ∧ ∀ P, am_Ca X (d + 8) 6014 [.ref 0, .int x] s P = P (.inr 0) s2 := by
  obtain ⟨cl, sl, F, A, L, rfl, g, q1, q2, q3⟩ := hh
  exact ⟨_, ⟨_, _, _, _, L, rfl, g, by omega, by omega, by omega⟩, fun P => (k_merge_number (d := d) (X := X) (cl := cl) (sl := sl) (L := L) (h := h) (c := g) (hcl := q1) (P := P))⟩
theorem h_replay_number {x : Int32} (h : noB x) (hh : Hs n G s) : ∃ s2, Hs (n + 1) G s2 ∧ ∀ P, am_Ca X (d + 8) 6017 [.ref 0, .int x] s P = P (.inr 0) s2 := by
  obtain ⟨cl, sl, F, A, L, rfl, g, q1, q2, q3⟩ := hh
  exact ⟨_, ⟨_, _, _, _, L, rfl, g, by omega, by omega, by omega⟩, fun P => (k_replay_number (d := d) (X := X) (cl := cl) (sl := sl) (L := L) (h := h) (c := g) (hcl := q1) (P := P))⟩
theorem h_standsAt_no {b : Nat} (hb : b < 6) (h0 : G.S.br b = 0) (hh : Hs n G s) : ∃ s2, Hs (n + 1) G s2 ∧ ∀ P, am_Ca X (d + 7) 6040 [.ref 0, .int (nI b)] s P = P (.inr 1) s2 := by
  obtain ⟨cl, sl, F, A, L, rfl, g, q1, q2, q3⟩ := hh
  exact ⟨_, ⟨_, _, _, _, L, rfl, g, by omega, by omega, by omega⟩, fun P => (k_standsAt_no (d := d) (X := X) (cl := cl) (sl := sl) (L := L) (hb := hb) (h0 := h0) (c := g) (hcl := q1) (P := P))⟩
theorem h_wouldConflict_no {b : Nat} (hb : b < 6) (h0 : G.S.br b = 0) (hh : Hs n G s) : ∃ s2, Hs (n + 1) G s2 ∧ ∀ P, am_Ca X (d + 8) 6053 [.ref 0, .int (nI b)] s P = P (.inr 1) s2 := by
  obtain ⟨cl, sl, F, A, L, rfl, g, q1, q2, q3⟩ := hh
  exact ⟨_, ⟨_, _, _, _, L, rfl, g, by omega, by omega, by omega⟩, fun P => (k_wouldConflict_no (d := d) (X := X) (cl := cl) (sl := sl) (L := L) (hb := hb) (h0 := h0) (c := g) (hcl := q1) (P := P))⟩
theorem h_isChanged {a b : Nat} (ha : a < 4) (hb : b < 6) (hh : Hs n G s) : am_Ca X (d + 8) 6028 [.ref 0, .int (nI a), .int (nI b)] s P = P (.inl (some (.int (bI (¬ G.S.W (a * 6 + b) = G.S.T (hd G.S) (a * 6 + b)))))) s := by
  obtain ⟨cl, sl, F, A, L, rfl, g, q1, q2, q3⟩ := hh
  exact (k_isChanged (d := d) (X := X) (cl := cl) (sl := sl) (L := L) (ha := ha) (hb := hb) (c := g) (P := P))
theorem h_differences {k o : Nat} (hk : k < G.S.n) (ho : o < G.S.n) (hh : Hs n G s) : am_Ca X (d + 8) 6031 [.ref 0, .int (nI k), .int (nI o)] s P = P (.inl (some (.int (nI (cnt (dfN G.S k o) 24))))) s := by
  obtain ⟨cl, sl, F, A, L, rfl, g, q1, q2, q3⟩ := hh
  exact (k_differences (d := d) (X := X) (cl := cl) (sl := sl) (L := L) (hk := hk) (ho := ho) (c := g) (P := P))
theorem h_branches  (hh : Hs n G s) : am_Ca X (d + 8) 6038 [.ref 0] s P = P (.inl (some (.int (nI (cnt (brN G.S) 6))))) s := by
  obtain ⟨cl, sl, F, A, L, rfl, g, q1, q2, q3⟩ := hh
  exact (k_branches (d := d) (X := X) (cl := cl) (sl := sl) (L := L)  (c := g) (P := P))
theorem h_merges  (hh : Hs n G s) : am_Ca X (d + 8) 6054 [.ref 0] s P = P (.inl (some (.int (nI (cnt (meN G.S) G.S.n))))) s := by
  obtain ⟨cl, sl, F, A, L, rfl, g, q1, q2, q3⟩ := hh
  exact (k_merges (d := d) (X := X) (cl := cl) (sl := sl) (L := L)  (c := g) (P := P))
theorem h_wouldConflict {b : Nat} (hb : b < 6) (h0 : ¬ G.S.br b = 0) (hh : Hs n G s) : ∃ s2, Hs n G s2 ∧ ∀ P, am_Ca X (d + 8) 6053 [.ref 0, .int (nI b)] s P = P (.inl (some (.int (nI (cnt (kC (G.S.T (basN G.S (G.S.br b - 1))) (G.S.T (G.S.br b - 1)) (G.S.T (hd G.S))) 24))))) s2 := by
  obtain ⟨cl, sl, F, A, L, rfl, g, q1, q2, q3⟩ := hh
  obtain ⟨F2, A2, e, g2, -⟩ := (k_wouldConflict (d := d) (X := X) (cl := cl) (sl := sl) (L := L) (hb := hb) (h0 := h0) (c := g) (hcl := q1))
  exact ⟨_, ⟨_, _, F2, A2, L, rfl, g2, by omega, by omega, by omega⟩, e⟩
theorem h_broughtBy {k a b : Nat} (hk : k < G.S.n) (ha : a < 4) (hb : b < 6) (hh : Hs n G s) : am_Ca X (d + 8) 6032 [.ref 0, .int (nI k), .int (nI a), .int (nI b)] s P = P (.inl (some (.int (nI (brgN G.S (a * 6 + b) 60 k))))) s := by
  obtain ⟨cl, sl, F, A, L, rfl, g, q1, q2, q3⟩ := hh
  exact (k_broughtBy (d := d) (X := X) (cl := cl) (sl := sl) (L := L) (hk := hk) (ha := ha) (hb := hb) (c := g) (P := P))
theorem h_firstWith {k a b : Nat} {v : Int32} (hk : k < G.S.n) (ha : a < 4) (hb : b < 6) (hh : Hs n G s) : ∃ s2, Hs n G s2 ∧ ∀ P, am_Ca X (d + 8) 6033 [.ref 0, .int (nI k), .int (nI a), .int (nI b), .int v] s P = P (.inl (some (.int (loN (lwN G.S (Re G.S.p G.S.q k) (a * 6 + b) v) 60 0)))) s2 := by
  obtain ⟨cl, sl, F, A, L, rfl, g, q1, q2, q3⟩ := hh
  exact ⟨_, ⟨_, _, _, _, L, rfl, (gF_scr g (by decide) (by decide)), by omega, by omega, by omega⟩, fun P => (k_firstWith (d := d) (X := X) (cl := cl) (sl := sl) (L := L) (hk := hk) (ha := ha) (hb := hb) (c := g) (P := P))⟩
theorem h_fullness  (hh : Hs n G s) : am_Ca X (d + 8) 6034 [.ref 0] s P = P (.inl (some (.double (fulD (cnt (fiN G.S) 24))))) s := by
  obtain ⟨cl, sl, F, A, L, rfl, g, q1, q2, q3⟩ := hh
  exact (k_fullness (d := d) (X := X) (cl := cl) (sl := sl) (L := L)  (c := g) (P := P))
theorem h_runOrders (h0 : ffN G.len G.pd G.len 0 0 = 0) (hh : Hs n G s) : ∃ s2, Hs n (setG (recG G) (rnO G.len G.pd 60 0 G.S 0).2) s2 ∧ ∀ P, am_Ca X (d + 8) 6005 [.ref 0] s P = P (.inl (some (.int (nI (rnO G.len G.pd 60 0 G.S 0).1)))) s2 := by
  obtain ⟨cl, sl, F, A, L, rfl, g, q1, q2, q3⟩ := hh
  obtain ⟨F2, A2, e, g2, -⟩ := (k_runOrders (d := d) (X := X) (cl := cl) (sl := sl) (L := L) (h0 := h0) (c := g) (hcl := q1))
  exact ⟨_, ⟨_, _, F2, A2, L, rfl, g2, by omega, by omega, by omega⟩, e⟩
theorem h_runOrders_no (h0 : ¬ ffN G.len G.pd G.len 0 0 = 0) (hl : ffN G.len G.pd G.len 0 0 ≤ 100) (hh : Hs n G s) : ∃ s2, Hs (n + 1) G s2 ∧ ∀ P, am_Ca X (d + 8) 6005 [.ref 0] s P = P (.inr 1) s2 := by
  obtain ⟨cl, sl, F, A, L, rfl, g, q1, q2, q3⟩ := hh
  exact ⟨_, ⟨_, _, _, _, L, rfl, g, by omega, by omega, by omega⟩, fun P => (k_runOrders_no (d := d) (X := X) (cl := cl) (sl := sl) (L := L) (h0 := h0) (hl := hl) (c := g) (hcl := q1) (P := P))⟩
end HH
