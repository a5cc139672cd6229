/-! BOTH SIDES: each call comes out alike -/
theorem wG_of {F A : Nat → Nat → Int32} {G : Fu} (c : gF F A G) : wG G := wG.mk c.w c.r.1 (fun a ha => (c.r.2.2.choose_spec.2.2 a ha).2) (fun e => (c.s e).2) c.h2 c.p.2.1 (fun i hi => (c.p.2.2 i hi).2)
theorem gF_fl {F A F2 A2 : Nat → Nat → Int32} {G : Fu} (c : gF F A G) (f : Fl F A F2 A2) : gF F2 A2 G := by
  refine gF.mk (cR_cg c.R (f.1 4 (by decide)) (fun k h1 h2 => f.2 _ (by omega))) c.w ?_ (pR_cg c.p (f.1 1 (by decide)) (f.2 2 (by decide))) (by rw [f.1 0 (by decide)]; exact c.h) c.h2 (fun e => ⟨cR_cg (c.s e).1 (f.1 61 (by decide)) (fun k h1 h2 => f.2 _ (by omega)), (c.s e).2⟩)
  obtain ⟨g1, g2, o, g3, g4, g5⟩ := c.r
  exact ⟨g1, by rw [f.1 23 (by decide)]; exact g2, o, g3, by rw [f.1 23 (by decide)]; exact g4, fun a ha => ⟨cR_cg (g5 a ha).1 (f.1 _ (by omega)) (fun k h1 h2 => f.2 _ (by omega)), (g5 a ha).2⟩⟩
theorem gF_scr {F A : Nat → Nat → Int32} {G : Fu} {a : Nat} {g : Nat → Int32} (c : gF F A G) (h1 : 14 ≤ a) (h2 : a ≤ 22) : gF F (va_up A a g) G := gF_fr c (cR_scr c.R (by omega)) (Fr_up (by omega))
theorem Fm_scr {F A : Nat → Nat → Int32} {a : Nat} {g : Nat → Int32} (h2 : a ≤ 22) : Fm F A F (va_up A a g) := ⟨fun _ _ => rfl, fun o ho => up_ne (by omega)⟩
theorem ng_n {n m : Nat} (h : n < 1000) (hm : 0 < m) (hm2 : m < 1000) : ¬ nI n = -nI m := by
  intro e
  have e2 := congrArg Int32.toInt e
  have e3 : nI n + nI m = nI 0 := by rw [e]; exact Int32.add_left_neg _
  rw [n_add, n_eq (by omega) (by omega)] at e3
  omega
theorem in_0 {x : Int32} (h0 : ¬ x < nI 0) : ∃ n, n < 2147483648 ∧ x = nI n := by
  have h : 0 ≤ x.toInt := by
    have h1 := Int32.not_lt.mp h0
    rw [Int32.le_iff_toInt_le, nI_toInt (by omega)] at h1
    exact h1
  have h2 := x.toInt_lt
  refine ⟨x.toInt.toNat, by omega, ?_⟩
  rw [← Int32.toInt_inj, nI_toInt (by omega)]
  omega
theorem isT {x : Int32} (h : ¬ noT x) : ∃ v, 32 ≤ v ∧ v ≤ 126 ∧ x = nI v := by
  have h1 : ¬ x < nI 0 := fun z => h (Or.inl (Int32.lt_trans z (by decide)))
  obtain ⟨v, hv, rfl⟩ := in_0 h1
  refine ⟨v, ?_, ?_, rfl⟩
  · by_cases e : 32 ≤ v
    · exact e
    · exact absurd (Or.inl (by rw [n_lt (by omega) (by omega)]; omega)) h
  · by_cases e : v ≤ 126
    · exact e
    · exact absurd (Or.inr (by rw [n_lt (by omega) (by omega)]; omega)) h
theorem ffN_le {len : Nat} {pd : Nat → Nat} : ∀ (k i a : Nat), i + k = len → ffN len pd k i a ≤ len + 1 := by
  intro k
  induction k with
  | zero =>
    intro i a _
    unfold ffN
    split <;> omega
  | succ k ih =>
    intro i a h
    unfold ffN
    split
    · omega
    · exact ih _ _ (by omega)
def wJ (X : am_X) (d mm : Nat) (ma : List Value) (cl sl : Nat) (F A : Nat → Nat → Int32) (L : Nat → Nat → Int64) (t : Nat) (v : Int32) (U : Fu) : Prop := ∃ F3 A3 L3, (∀ P, am_Ca X d mm ma (am_Z cl sl F A L) P = P (.inl (some (.int v))) (am_Z cl sl F3 A3 L3)) ∧ F3 70 8 = nI t ∧ gF F3 A3 U ∧ mG F3 A3 U ∧ Lf L L3
def jO (B : Int32 → Prop) (X : am_X) (d cm : Nat) (ca : List Value) (mm : Nat) (ma : List Value) (cl sl : Nat) (F A : Nat → Nat → Int32) (L : Nat → Nat → Int64) : Prop := ∃ v F2 A2 U, B v ∧ (∀ P, am_Ca X (d + 8) cm ca (am_Z cl sl F A L) P = P (.inl (some (.int v))) (am_Z cl sl F2 A2 L)) ∧ ∀ d2 cl2 sl2 L2, wJ X (d2 + 8) mm ma cl2 sl2 F2 A2 L2 0 v U
def jX (t k : Nat) (X : am_X) (d cm : Nat) (ca : List Value) (mm : Nat) (ma : List Value) (cl sl : Nat) (F A : Nat → Nat → Int32) (L : Nat → Nat → Int64) : Prop := ∃ F2 A2 U, (∀ P, am_Ca X (d + 8) cm ca (am_Z cl sl F A L) P = P (.inr t) (am_Z (cl + 1) (sl + 6) F2 A2 L)) ∧ ∀ d2 cl2 sl2 L2, wJ X (d2 + 8) mm ma cl2 sl2 F2 A2 L2 k (nI 0) U
def bA (_ : Int32) : Prop := True
def bB (v : Int32) : Prop := v = nI 0 ∨ v = nI 1
theorem bB_I (Z : Prop) : bB (bI Z) := by
  by_cases h : Z
  · exact Or.inr (bI_t h)
  · exact Or.inl (bI_f h)
section JO
variable {d cl sl cm mm : Nat} {ca ma : List Value} {X : am_X} {F A : Nat → Nat → Int32} {L : Nat → Nat → Int64} {P : am_Q} {G U : Fu} {v : Int32} {B : Int32 → Prop}
theorem j_ok (hv : B v) (k : ∃ F2 A2, (∀ P, am_Ca X (d + 8) cm ca (am_Z cl sl F A L) P = P (.inl (some (.int v))) (am_Z cl sl F2 A2 L)) ∧ gF F2 A2 U ∧ Fm F A F2 A2) (m : mG F A G) (hm : ∀ (d cl sl : Nat) (F A : Nat → Nat → Int32) (L : Nat → Nat → Int64), mG F A G → wO X (d + 8) mm ma cl sl F A L 0 v U) : jO B X d cm ca mm ma cl sl F A L := by
  obtain ⟨F2, A2, e, c2, f2⟩ := k
  refine ⟨v, F2, A2, U, hv, e, fun d2 cl2 sl2 L2 => ?_⟩
  obtain ⟨F3, A3, L3, e3, t3, m3, f3, l3⟩ := hm d2 cl2 sl2 F2 A2 L2 (mG_fm m f2)
  exact ⟨F3, A3, L3, e3, t3, gF_fl c2 f3, m3, l3⟩
theorem j_no {t k : Nat} (kk : ∃ F2 A2, (∀ P, am_Ca X (d + 8) cm ca (am_Z cl sl F A L) P = P (.inr t) (am_Z (cl + 1) (sl + 6) F2 A2 L)) ∧ gF F2 A2 G ∧ Fm F A F2 A2) (m : mG F A G) (hm : ∀ (d cl sl : Nat) (F A : Nat → Nat → Int32) (L : Nat → Nat → Int64), mG F A G → wO X (d + 8) mm ma cl sl F A L k (nI 0) G) : jX t k X d cm ca mm ma cl sl F A L := by
  obtain ⟨F2, A2, e, c2, f2⟩ := kk
  refine ⟨F2, A2, G, e, fun d2 cl2 sl2 L2 => ?_⟩
  obtain ⟨F3, A3, L3, e3, t3, m3, f3, l3⟩ := hm d2 cl2 sl2 F2 A2 L2 (mG_fm m f2)
  exact ⟨F3, A3, L3, e3, t3, gF_fl c2 f3, m3, l3⟩
theorem mR_bg (m : mG F A G) : mR (bgA A 71) G.S := by rw [bg_71]; exact m.R
theorem rpl_le {Z : Nat → Prop} : ∀ (k i m : Nat) (S : Ab), (rpl Z k i S m).2 ≤ m + k := by
  intro k
  induction k with
  | zero => intro i m S; exact Nat.le_refl _
  | succ k ih =>
    intro i m S
    unfold rpl
    split
    · split
      · have := ih (i + 1) m S; omega
      · have := ih (i + 1) (m + 1) (addC (takeS S (fromT S i 0) (toT S i 0) S.W) 0); omega
    · have := ih (i + 1) m S; omega
theorem rep_lt {S : Ab} {b : Nat} : (repS S b).2 < 1000 := by
  have := rpl_le (Z := rpZ S (S.br b - 1)) 60 0 0 (stand S (S.br b - 1))
  unfold repS
  omega
theorem j_type {x : Int32} (c : gF F A G) (m : mG F A G) (hcl : 79 < cl) : jO bA X d 6002 [.ref 0, .int x] 7070 [.ref 70, .int x] cl sl F A L ∨ jX 0 1 X d 6002 [.ref 0, .int x] 7070 [.ref 70, .int x] cl sl F A L ∨ jX 1 2 X d 6002 [.ref 0, .int x] 7070 [.ref 70, .int x] cl sl F A L := by
  have w := wG_of c
  by_cases h0 : noT x
  · exact Or.inr (Or.inl (j_no (⟨F, A, fun P => k_type_bad h0 hcl, c, Fm_id⟩) m (fun d cl sl F A L mg => w_type_bad h0 mg w)))
  obtain ⟨v, h1, h2, rfl⟩ := isT h0
  by_cases hl : G.len = 60
  · exact Or.inr (Or.inr (j_no (⟨F, A, fun P => k_type_full c h1 h2 hl hcl, c, Fm_id⟩) m (fun d cl sl F A L mg => w_type_full h1 h2 hl mg w)))
  have hl2 : G.len < 60 := by have := w.l60; omega
  exact Or.inl (j_ok (trivial) (k_type c h1 h2 hl2) m (fun d cl sl F A L mg => w_type h1 h2 hl2 mg w))
theorem j_runOrders (c : gF F A G) (m : mG F A G) (hcl : 79 < cl) : jO bA X d 6005 [.ref 0] 7080 [.ref 70] cl sl F A L ∨ jX 1 1 X d 6005 [.ref 0] 7080 [.ref 70] cl sl F A L := by
  have w := wG_of c
  by_cases h0 : ffN G.len G.pd G.len 0 0 = 0
  · exact Or.inl (j_ok (trivial) (k_runOrders c h0 hcl) m (fun d cl sl F A L mg => w_runOrders mg w h0))
  have hl : ffN G.len G.pd G.len 0 0 ≤ 100 := by have := ffN_le (len := G.len) (pd := G.pd) G.len 0 0 (by omega); have := w.l60; omega
  exact Or.inr (j_no (⟨F, A, fun P => k_runOrders_no c h0 hl hcl, c, Fm_id⟩) m (fun d cl sl F A L mg => w_runOrders_no mg w h0))
theorem j_edit {x y z : Int32} (c : gF F A G) (m : mG F A G) (hcl : 79 < cl) : jO bA X d 6006 [.ref 0, .int x, .int y, .int z] 7053 [.ref 70, .int x, .int y, .int z] cl sl F A L ∨ jX 0 1 X d 6006 [.ref 0, .int x, .int y, .int z] 7053 [.ref 70, .int x, .int y, .int z] cl sl F A L := by
  have w := wG_of c
  by_cases h1 : noP x y
  · exact Or.inr (j_no (⟨F, A, fun P => k_edit_place h1 hcl, c, Fm_id⟩) m (fun d cl sl F A L mg => w_arg wh_edit mg (g_edit_place (mR_bg mg) mg.z h1)))
  obtain ⟨a, b, ha, hb, rfl, rfl⟩ := isP h1
  by_cases h2 : noV z
  · exact Or.inr (j_no (⟨F, A, fun P => k_edit_value ha hb h2 hcl, c, Fm_id⟩) m (fun d cl sl F A L mg => w_arg wh_edit mg (g_edit_value (mR_bg mg) mg.z ha hb h2)))
  obtain ⟨v, hv, rfl⟩ := isV h2
  have hu : unl (setL G.S (a * 6 + b) v) < 1000 := by have : unl (setL G.S (a * 6 + b) v) ≤ 24 := cnt_le _ _; omega
  exact Or.inl (j_ok (trivial) (k_edit c ha hb hv hcl) m (fun d cl sl F A L mg => w_ok wh_edit mg w (g_edit (mR_bg mg) w.w mg.z ha hb hv) (ng_n (hu) (by decide) (by decide)) (ng_n (hu) (by decide) (by decide))))
theorem j_commit (c : gF F A G) (m : mG F A G) (hcl : 79 < cl) : jO bA X d 6007 [.ref 0] 7054 [.ref 70] cl sl F A L ∨ jX 1 1 X d 6007 [.ref 0] 7054 [.ref 70] cl sl F A L := by
  have w := wG_of c
  by_cases hm : mayC G.S
  · exact Or.inl (j_ok (trivial) (k_commit c hm hcl) m (fun d cl sl F A L mg => w_ok wh_commit mg w (g_commit (mR_bg mg) w.w hm) (ng_n (by have := w.w.n60; omega) (by decide) (by decide)) (ng_n (by have := w.w.n60; omega) (by decide) (by decide))))
  exact Or.inr (j_no (k_commit_no c hm hcl) m (fun d cl sl F A L mg => w_st wh_commit mg (g_commit_no (mR_bg mg) w.w mg.z hm)))
theorem j_putAside (c : gF F A G) (m : mG F A G) (hcl : 79 < cl) : jO bA X d 6009 [.ref 0] 7056 [.ref 70] cl sl F A L ∨ jX 1 1 X d 6009 [.ref 0] 7056 [.ref 70] cl sl F A L := by
  have w := wG_of c
  by_cases hm : mayA G.S
  · exact Or.inl (j_ok (trivial) (k_putAside c hm hcl) m (fun d cl sl F A L mg => w_ok wh_putAside mg w (g_aside (mR_bg mg) w.w mg.z hm) (ng_n (by have := w.w.ac3; omega) (by decide) (by decide)) (ng_n (by have := w.w.ac3; omega) (by decide) (by decide))))
  exact Or.inr (j_no (k_putAside_no c hm hcl) m (fun d cl sl F A L mg => w_st wh_putAside mg (g_aside_no (mR_bg mg) w.w mg.z hm)))
theorem j_takeBack (c : gF F A G) (m : mG F A G) (hcl : 79 < cl) : jO bA X d 6010 [.ref 0] 7057 [.ref 70] cl sl F A L ∨ jX 1 1 X d 6010 [.ref 0] 7057 [.ref 70] cl sl F A L := by
  have w := wG_of c
  by_cases hm : mayT G.S
  · exact Or.inl (j_ok (trivial) (k_takeBack c hm hcl) m (fun d cl sl F A L mg => w_ok wh_takeBack mg w (g_backIn (mR_bg mg) w.w hm) (ng_n (by have := cnt_le (kB (G.S.T (G.S.ah (G.S.ac - 1))) (G.S.aT (G.S.ac - 1)) G.S.W) 24; omega) (by decide) (by decide)) (ng_n (by have := cnt_le (kB (G.S.T (G.S.ah (G.S.ac - 1))) (G.S.aT (G.S.ac - 1)) G.S.W) 24; omega) (by decide) (by decide))))
  exact Or.inr (j_no (k_takeBack_no c hm hcl) m (fun d cl sl F A L mg => w_st wh_takeBack mg (g_backIn_no (mR_bg mg) w.w mg.z hm)))
theorem j_newBranch (c : gF F A G) (m : mG F A G) (hcl : 79 < cl) : jO bA X d 6011 [.ref 0] 7058 [.ref 70] cl sl F A L ∨ jX 1 1 X d 6011 [.ref 0] 7058 [.ref 70] cl sl F A L := by
  have w := wG_of c
  by_cases hm : ¬ lfN G.S.br 6 0 = 0
  · exact Or.inl (j_ok (trivial) (k_newBranch c hm hcl) m (fun d cl sl F A L mg => w_ok wh_newBranch mg w (g_branch (mR_bg mg) w.w mg.z hm) (ng_n (by have := lfN_le G.S.br 6 0; omega) (by decide) (by decide)) (ng_n (by have := lfN_le G.S.br 6 0; omega) (by decide) (by decide))))
  exact Or.inr (j_no (k_newBranch_no c hm hcl) m (fun d cl sl F A L mg => w_st wh_newBranch mg (g_branch_no (mR_bg mg) w.w mg.z (Classical.byContradiction hm))))
theorem j_abort (c : gF F A G) (m : mG F A G) (hcl : 79 < cl) : jO bA X d 6019 [.ref 0] 7066 [.ref 70] cl sl F A L ∨ jX 1 1 X d 6019 [.ref 0] 7066 [.ref 70] cl sl F A L := by
  have w := wG_of c
  by_cases hm : ¬ G.S.op = 0
  · exact Or.inl (j_ok (trivial) (k_abort c hm hcl) m (fun d cl sl F A L mg => w_ok wh_abort mg w (g_abort (mR_bg mg) w.w hm) (ng_n (by have : nco G.S ≤ 24 := cnt_le _ _; omega) (by decide) (by decide)) (ng_n (by have : nco G.S ≤ 24 := cnt_le _ _; omega) (by decide) (by decide))))
  exact Or.inr (j_no (k_abort_no c hm hcl) m (fun d cl sl F A L mg => w_st wh_abort mg (g_abort_no (mR_bg mg) mg.z (Classical.byContradiction hm))))
theorem j_reset {x : Int32} (c : gF F A G) (m : mG F A G) (hcl : 79 < cl) : jO bA X d 6008 [.ref 0, .int x] 7055 [.ref 70, .int x] cl sl F A L ∨ jX 0 1 X d 6008 [.ref 0, .int x] 7055 [.ref 70, .int x] cl sl F A L := by
  have w := wG_of c
  by_cases h0 : noC G.S x
  · exact Or.inr (j_no (⟨F, A, fun P => k_reset_no c h0 hcl, c, Fm_id⟩) m (fun d cl sl F A L mg => w_arg wh_reset mg (g_reset_no (mR_bg mg) w.w mg.z h0)))
  obtain ⟨k, hk, rfl⟩ := isC c.w h0
  exact Or.inl (j_ok (trivial) (k_reset c hk hcl) m (fun d cl sl F A L mg => w_ok wh_reset mg w (g_reset (mR_bg mg) w.w hk) (ng_n (by have := hd_n w.w; have := w.w.n60; omega) (by decide) (by decide)) (ng_n (by have := hd_n w.w; have := w.w.n60; omega) (by decide) (by decide))))
theorem j_switchTo {x : Int32} (c : gF F A G) (m : mG F A G) (hcl : 79 < cl) : jO bA X d 6013 [.ref 0, .int x] 7060 [.ref 70, .int x] cl sl F A L ∨ jX 0 1 X d 6013 [.ref 0, .int x] 7060 [.ref 70, .int x] cl sl F A L ∨ jX 1 2 X d 6013 [.ref 0, .int x] 7060 [.ref 70, .int x] cl sl F A L := by
  have w := wG_of c
  by_cases h0 : noB x
  · exact Or.inr (Or.inl (j_no (⟨F, A, fun P => k_switchTo_number h0 c hcl, c, Fm_id⟩) m (fun d cl sl F A L mg => w_arg (wh_switchTo) mg (g_switch_num (mR_bg mg) mg.z h0))))
  obtain ⟨b, hb, rfl⟩ := isB h0
  by_cases hm : mayS G.S b
  · exact Or.inl (j_ok (trivial) (k_switchTo hb c hm hcl) m (fun d cl sl F A L mg => w_ok wh_switchTo mg w (g_switch (mR_bg mg) w.w mg.z hb hm) (ng_n (by have := w.w.brn b hb; have := w.w.n60; omega) (by decide) (by decide)) (ng_n (by have := w.w.brn b hb; have := w.w.n60; omega) (by decide) (by decide))))
  exact Or.inr (Or.inr (j_no (k_switchTo_no hb c hm hcl) m (fun d cl sl F A L mg => w_st wh_switchTo mg (g_switch_no (mR_bg mg) w.w mg.z hb hm))))
theorem j_merge {x : Int32} (c : gF F A G) (m : mG F A G) (hcl : 79 < cl) : jO bA X d 6014 [.ref 0, .int x] 7061 [.ref 70, .int x] cl sl F A L ∨ jX 0 1 X d 6014 [.ref 0, .int x] 7061 [.ref 70, .int x] cl sl F A L ∨ jX 1 2 X d 6014 [.ref 0, .int x] 7061 [.ref 70, .int x] cl sl F A L := by
  have w := wG_of c
  by_cases h0 : noB x
  · exact Or.inr (Or.inl (j_no (⟨F, A, fun P => k_merge_number h0 c hcl, c, Fm_id⟩) m (fun d cl sl F A L mg => w_arg (wh_merge) mg (g_merge_num (mR_bg mg) mg.z h0))))
  obtain ⟨b, hb, rfl⟩ := isB h0
  by_cases hm : mayM G.S b
  · exact Or.inl (j_ok (trivial) (k_merge hb c hm hcl) m (fun d cl sl F A L mg => w_ok wh_merge mg w (g_merge (mR_bg mg) w.w mg.z hb hm) (ng_n (mrgN_lt) (by decide) (by decide)) (ng_n (mrgN_lt) (by decide) (by decide))))
  exact Or.inr (Or.inr (j_no (k_merge_no hb c hm hcl) m (fun d cl sl F A L mg => w_st wh_merge mg (g_merge_no (mR_bg mg) w.w mg.z hb hm))))
theorem j_replay {x : Int32} (c : gF F A G) (m : mG F A G) (hcl : 79 < cl) : jO bA X d 6017 [.ref 0, .int x] 7064 [.ref 70, .int x] cl sl F A L ∨ jX 0 1 X d 6017 [.ref 0, .int x] 7064 [.ref 70, .int x] cl sl F A L ∨ jX 1 2 X d 6017 [.ref 0, .int x] 7064 [.ref 70, .int x] cl sl F A L := by
  have w := wG_of c
  by_cases h0 : noB x
  · exact Or.inr (Or.inl (j_no (⟨F, A, fun P => k_replay_number h0 c hcl, c, Fm_id⟩) m (fun d cl sl F A L mg => w_arg (wh_replay) mg (g_replay_num (mR_bg mg) mg.z h0))))
  obtain ⟨b, hb, rfl⟩ := isB h0
  by_cases hm : mayR G.S b
  · exact Or.inl (j_ok (trivial) (k_replay hb c hm hcl) m (fun d cl sl F A L mg => w_ok wh_replay mg w (g_replay (mR_bg mg) w.w hb hm) (ng_n (rep_lt) (by decide) (by decide)) (ng_n (rep_lt) (by decide) (by decide))))
  exact Or.inr (Or.inr (j_no (k_replay_no hb c hm hcl) m (fun d cl sl F A L mg => w_st wh_replay mg (g_replay_no (mR_bg mg) w.w mg.z (bg_72 mg.R w.w) hb hm))))
theorem j_dropBranch {x : Int32} (c : gF F A G) (m : mG F A G) (hcl : 79 < cl) : jO bA X d 6012 [.ref 0, .int x] 7059 [.ref 70, .int x] cl sl F A L ∨ jX 0 1 X d 6012 [.ref 0, .int x] 7059 [.ref 70, .int x] cl sl F A L ∨ jX 1 2 X d 6012 [.ref 0, .int x] 7059 [.ref 70, .int x] cl sl F A L := by
  have w := wG_of c
  by_cases h0 : noB x
  · exact Or.inr (Or.inl (j_no (⟨F, A, fun P => k_dropBranch_number h0 c hcl, c, Fm_id⟩) m (fun d cl sl F A L mg => w_arg (wh_dropBranch) mg (g_drop_num (mR_bg mg) mg.z h0))))
  obtain ⟨b, hb, rfl⟩ := isB h0
  by_cases hm : ¬ G.S.br b = 0 ∧ ¬ b = G.S.cur
  · have hv : ∀ n, 0 < n → n < 1000 → ¬ pk (G.S.br b) = -nI n := fun n h1 h2 => by rw [pk_p _ hm.1]; exact ng_n (by have := w.w.brn b hb; have := w.w.n60; omega) h1 h2
    exact Or.inl (j_ok (trivial) (k_dropBranch hb c hm hcl) m (fun d cl sl F A L mg => w_ok wh_dropBranch mg w (g_drop (mR_bg mg) w.w mg.z hb hm) (hv 11 (by decide) (by decide)) (hv 12 (by decide) (by decide))))
  exact Or.inr (Or.inr (j_no (k_dropBranch_no hb c hm hcl) m (fun d cl sl F A L mg => w_st wh_dropBranch mg (g_drop_no (mR_bg mg) w.w mg.z hb hm))))
theorem j_pick {x : Int32} (c : gF F A G) (m : mG F A G) (hcl : 79 < cl) : jO bA X d 6015 [.ref 0, .int x] 7062 [.ref 70, .int x] cl sl F A L ∨ jX 0 1 X d 6015 [.ref 0, .int x] 7062 [.ref 70, .int x] cl sl F A L ∨ jX 1 2 X d 6015 [.ref 0, .int x] 7062 [.ref 70, .int x] cl sl F A L := by
  have w := wG_of c
  by_cases h0 : noC G.S x
  · exact Or.inr (Or.inl (j_no (⟨F, A, fun P => k_pick_commit h0 c hcl, c, Fm_id⟩) m (fun d cl sl F A L mg => w_arg wh_pick mg (g_pick_commit (mR_bg mg) w.w mg.z h0))))
  obtain ⟨k, hk, rfl⟩ := isC c.w h0
  by_cases hm : mayP G.S k 0
  · exact Or.inl (j_ok (trivial) (k_pick hk c hm hcl) m (fun d cl sl F A L mg => w_ok wh_pick mg w (g_pick (mR_bg mg) w.w (k := 0) (by decide) hm) (ng_n (by have := cnt_le (kC (fromT G.S k 0) (toT G.S k 0) G.S.W) 24; omega) (by decide) (by decide)) (ng_n (by have := cnt_le (kC (fromT G.S k 0) (toT G.S k 0) G.S.W) 24; omega) (by decide) (by decide))))
  exact Or.inr (Or.inr (j_no (k_pick_no hk c hm hcl) m (fun d cl sl F A L mg => w_st wh_pick mg (g_pick_no (mR_bg mg) w.w mg.z hk (k := 0) (by decide) hm))))
theorem j_revert {x : Int32} (c : gF F A G) (m : mG F A G) (hcl : 79 < cl) : jO bA X d 6016 [.ref 0, .int x] 7063 [.ref 70, .int x] cl sl F A L ∨ jX 0 1 X d 6016 [.ref 0, .int x] 7063 [.ref 70, .int x] cl sl F A L ∨ jX 1 2 X d 6016 [.ref 0, .int x] 7063 [.ref 70, .int x] cl sl F A L := by
  have w := wG_of c
  by_cases h0 : noC G.S x
  · exact Or.inr (Or.inl (j_no (⟨F, A, fun P => k_revert_commit h0 c hcl, c, Fm_id⟩) m (fun d cl sl F A L mg => w_arg wh_revert mg (g_pick_commit (mR_bg mg) w.w mg.z h0))))
  obtain ⟨k, hk, rfl⟩ := isC c.w h0
  by_cases hm : mayP G.S k 1
  · exact Or.inl (j_ok (trivial) (k_revert hk c hm hcl) m (fun d cl sl F A L mg => w_ok wh_revert mg w (g_pick (mR_bg mg) w.w (k := 1) (by decide) hm) (ng_n (by have := cnt_le (kC (fromT G.S k 1) (toT G.S k 1) G.S.W) 24; omega) (by decide) (by decide)) (ng_n (by have := cnt_le (kC (fromT G.S k 1) (toT G.S k 1) G.S.W) 24; omega) (by decide) (by decide))))
  exact Or.inr (Or.inr (j_no (k_revert_no hk c hm hcl) m (fun d cl sl F A L mg => w_st wh_revert mg (g_pick_no (mR_bg mg) w.w mg.z hk (k := 1) (by decide) hm))))
theorem j_isConflict {x y : Int32} (c : gF F A G) (m : mG F A G) (hcl : 79 < cl) : jO bB X d 6020 [.ref 0, .int x, .int y] 7083 [.ref 70, .int x, .int y] cl sl F A L ∨ jX 0 1 X d 6020 [.ref 0, .int x, .int y] 7083 [.ref 70, .int x, .int y] cl sl F A L := by
  have w := wG_of c
  by_cases h1 : noP x y
  · exact Or.inr (j_no (⟨F, A, fun P => k_isConflict_place h1 c hcl, c, Fm_id⟩) m (fun d cl sl F A L mg => w_isConflict_place h1 mg w))
  obtain ⟨a, b, ha, hb, rfl, rfl⟩ := isP h1
  exact Or.inl (j_ok (bB_I _) (⟨F, _, fun P => k_isConflict ha hb c, c, Fm_id⟩) m (fun d cl sl F A L mg => w_isConflict ha hb mg w))
theorem j_theirs {x y : Int32} (c : gF F A G) (m : mG F A G) (hcl : 79 < cl) : jO bA X d 6021 [.ref 0, .int x, .int y] 7084 [.ref 70, .int x, .int y] cl sl F A L ∨ jX 0 1 X d 6021 [.ref 0, .int x, .int y] 7084 [.ref 70, .int x, .int y] cl sl F A L ∨ jX 1 2 X d 6021 [.ref 0, .int x, .int y] 7084 [.ref 70, .int x, .int y] cl sl F A L := by
  have w := wG_of c
  by_cases h1 : noP x y
  · exact Or.inr (Or.inl (j_no (⟨F, A, fun P => k_theirs_place h1 c hcl, c, Fm_id⟩) m (fun d cl sl F A L mg => w_theirs_place h1 mg w)))
  obtain ⟨a, b, ha, hb, rfl, rfl⟩ := isP h1
  by_cases h0 : G.S.O (a * 6 + b) = 0
  · exact Or.inr (Or.inr (j_no (⟨F, A, fun P => k_theirs_no ha hb h0 c hcl, c, Fm_id⟩) m (fun d cl sl F A L mg => w_theirs_no ha hb h0 mg w)))
  exact Or.inl (j_ok (trivial) (⟨F, _, fun P => k_theirs ha hb h0 c, c, Fm_id⟩) m (fun d cl sl F A L mg => w_theirs ha hb h0 mg w))
theorem j_lineOf {x y : Int32} (c : gF F A G) (m : mG F A G) (hcl : 79 < cl) : jO bA X d 6027 [.ref 0, .int x, .int y] 7091 [.ref 70, .int x, .int y] cl sl F A L ∨ jX 0 1 X d 6027 [.ref 0, .int x, .int y] 7091 [.ref 70, .int x, .int y] cl sl F A L := by
  have w := wG_of c
  by_cases h1 : noP x y
  · exact Or.inr (j_no (⟨F, A, fun P => k_lineOf_place h1 c hcl, c, Fm_id⟩) m (fun d cl sl F A L mg => w_lineOf_place h1 mg w))
  obtain ⟨a, b, ha, hb, rfl, rfl⟩ := isP h1
  exact Or.inl (j_ok (trivial) (⟨F, _, fun P => k_lineOf ha hb c, c, Fm_id⟩) m (fun d cl sl F A L mg => w_lineOf ha hb mg w))
theorem j_isChanged {x y : Int32} (c : gF F A G) (m : mG F A G) (hcl : 79 < cl) : jO bB X d 6028 [.ref 0, .int x, .int y] 7092 [.ref 70, .int x, .int y] cl sl F A L ∨ jX 0 1 X d 6028 [.ref 0, .int x, .int y] 7092 [.ref 70, .int x, .int y] cl sl F A L := by
  have w := wG_of c
  by_cases h1 : noP x y
  · exact Or.inr (j_no (⟨F, A, fun P => k_isChanged_place h1 c hcl, c, Fm_id⟩) m (fun d cl sl F A L mg => w_isChanged_place h1 mg w))
  obtain ⟨a, b, ha, hb, rfl, rfl⟩ := isP h1
  exact Or.inl (j_ok (bB_I _) (⟨F, _, fun P => k_isChanged ha hb c, c, Fm_id⟩) m (fun d cl sl F A L mg => w_isChanged ha hb mg w))
theorem j_lineAt {x y z : Int32} (c : gF F A G) (m : mG F A G) (hcl : 79 < cl) : jO bA X d 6030 [.ref 0, .int x, .int y, .int z] 7094 [.ref 70, .int x, .int y, .int z] cl sl F A L ∨ jX 0 1 X d 6030 [.ref 0, .int x, .int y, .int z] 7094 [.ref 70, .int x, .int y, .int z] cl sl F A L := by
  have w := wG_of c
  by_cases h0 : noC G.S x
  · exact Or.inr (j_no (⟨F, A, fun P => k_lineAt_commit h0 c hcl, c, Fm_id⟩) m (fun d cl sl F A L mg => w_lineAt_commit h0 mg w))
  obtain ⟨k, hk, rfl⟩ := isC c.w h0
  by_cases h1 : noP y z
  · exact Or.inr (j_no (⟨F, A, fun P => k_lineAt_place hk h1 c hcl, c, Fm_id⟩) m (fun d cl sl F A L mg => w_lineAt_place hk h1 mg w))
  obtain ⟨a, b, ha, hb, rfl, rfl⟩ := isP h1
  exact Or.inl (j_ok (trivial) (⟨F, _, fun P => k_lineAt ha hb hk c, c, Fm_id⟩) m (fun d cl sl F A L mg => w_lineAt hk ha hb mg w))
theorem j_broughtBy {x y z : Int32} (c : gF F A G) (m : mG F A G) (hcl : 79 < cl) : jO bA X d 6032 [.ref 0, .int x, .int y, .int z] 7097 [.ref 70, .int x, .int y, .int z] cl sl F A L ∨ jX 0 1 X d 6032 [.ref 0, .int x, .int y, .int z] 7097 [.ref 70, .int x, .int y, .int z] cl sl F A L := by
  have w := wG_of c
  by_cases h0 : noC G.S x
  · exact Or.inr (j_no (⟨F, A, fun P => k_broughtBy_commit h0 c hcl, c, Fm_id⟩) m (fun d cl sl F A L mg => w_broughtBy_commit h0 mg w))
  obtain ⟨k, hk, rfl⟩ := isC c.w h0
  by_cases h1 : noP y z
  · exact Or.inr (j_no (⟨F, A, fun P => k_broughtBy_place hk h1 c hcl, c, Fm_id⟩) m (fun d cl sl F A L mg => w_broughtBy_place hk h1 mg w))
  obtain ⟨a, b, ha, hb, rfl, rfl⟩ := isP h1
  exact Or.inl (j_ok (trivial) (⟨F, _, fun P => k_broughtBy hk ha hb c, c, Fm_id⟩) m (fun d cl sl F A L mg => w_broughtBy hk ha hb mg w))
theorem j_firstWith {x y z u : Int32} (c : gF F A G) (m : mG F A G) (hcl : 79 < cl) : jO bA X d 6033 [.ref 0, .int x, .int y, .int z, .int u] 7098 [.ref 70, .int x, .int y, .int z, .int u] cl sl F A L ∨ jX 0 1 X d 6033 [.ref 0, .int x, .int y, .int z, .int u] 7098 [.ref 70, .int x, .int y, .int z, .int u] cl sl F A L := by
  have w := wG_of c
  by_cases h0 : noC G.S x
  · exact Or.inr (j_no (⟨F, A, fun P => k_firstWith_commit h0 c hcl, c, Fm_id⟩) m (fun d cl sl F A L mg => w_firstWith_commit h0 mg w))
  obtain ⟨k, hk, rfl⟩ := isC c.w h0
  by_cases h1 : noP y z
  · exact Or.inr (j_no (⟨F, A, fun P => k_firstWith_place hk h1 c hcl, c, Fm_id⟩) m (fun d cl sl F A L mg => w_firstWith_place hk h1 mg w))
  obtain ⟨a, b, ha, hb, rfl, rfl⟩ := isP h1
  exact Or.inl (j_ok (trivial) (⟨F, _, fun P => k_firstWith hk ha hb c, gF_scr c (a := 14) (by decide) (by decide), Fm_scr (a := 14) (by decide)⟩) m (fun d cl sl F A L mg => w_firstWith hk ha hb mg w))
theorem j_differences {x y : Int32} (c : gF F A G) (m : mG F A G) (hcl : 79 < cl) : jO bA X d 6031 [.ref 0, .int x, .int y] 7096 [.ref 70, .int x, .int y] cl sl F A L ∨ jX 0 1 X d 6031 [.ref 0, .int x, .int y] 7096 [.ref 70, .int x, .int y] cl sl F A L := by
  have w := wG_of c
  by_cases h0 : noC G.S x
  · exact Or.inr (j_no (⟨F, A, fun P => k_differences_one h0 c hcl, c, Fm_id⟩) m (fun d cl sl F A L mg => w_differences_one h0 mg w))
  obtain ⟨k, hk, rfl⟩ := isC c.w h0
  by_cases h2 : noC G.S y
  · exact Or.inr (j_no (⟨F, A, fun P => k_differences_two hk h2 c hcl, c, Fm_id⟩) m (fun d cl sl F A L mg => w_differences_two hk h2 mg w))
  obtain ⟨o, ho, rfl⟩ := isC c.w h2
  exact Or.inl (j_ok (trivial) (⟨F, _, fun P => k_differences hk ho c, c, Fm_id⟩) m (fun d cl sl F A L mg => w_differences hk ho mg w))
theorem j_reaches {x y : Int32} (c : gF F A G) (m : mG F A G) (hcl : 79 < cl) : jO bB X d 6045 [.ref 0, .int x, .int y] 7110 [.ref 70, .int x, .int y] cl sl F A L ∨ jX 0 1 X d 6045 [.ref 0, .int x, .int y] 7110 [.ref 70, .int x, .int y] cl sl F A L := by
  have w := wG_of c
  by_cases h0 : noC G.S x
  · exact Or.inr (j_no (⟨F, A, fun P => k_reaches_one h0 c hcl, c, Fm_id⟩) m (fun d cl sl F A L mg => w_reaches_one h0 mg w))
  obtain ⟨k, hk, rfl⟩ := isC c.w h0
  by_cases h2 : noC G.S y
  · exact Or.inr (j_no (⟨F, A, fun P => k_reaches_two hk h2 c hcl, c, Fm_id⟩) m (fun d cl sl F A L mg => w_reaches_two hk h2 mg w))
  obtain ⟨o, ho, rfl⟩ := isC c.w h2
  exact Or.inl (j_ok (bB_I _) (⟨F, _, fun P => k_reaches hk ho c, gF_scr c (a := 14) (by decide) (by decide), Fm_scr (a := 14) (by decide)⟩) m (fun d cl sl F A L mg => w_reaches hk ho mg w))
theorem j_distance {x y : Int32} (c : gF F A G) (m : mG F A G) (hcl : 79 < cl) : jO bA X d 6048 [.ref 0, .int x, .int y] 7114 [.ref 70, .int x, .int y] cl sl F A L ∨ jX 0 1 X d 6048 [.ref 0, .int x, .int y] 7114 [.ref 70, .int x, .int y] cl sl F A L := by
  have w := wG_of c
  by_cases h0 : noC G.S x
  · exact Or.inr (j_no (⟨F, A, fun P => k_distance_one h0 c hcl, c, Fm_id⟩) m (fun d cl sl F A L mg => w_distance_one h0 mg w))
  obtain ⟨k, hk, rfl⟩ := isC c.w h0
  by_cases h2 : noC G.S y
  · exact Or.inr (j_no (⟨F, A, fun P => k_distance_two hk h2 c hcl, c, Fm_id⟩) m (fun d cl sl F A L mg => w_distance_two hk h2 mg w))
  obtain ⟨o, ho, rfl⟩ := isC c.w h2
  exact Or.inl (j_ok (trivial) (⟨F, _, fun P => k_distance hk ho c, gF_scr c (a := 16) (by decide) (by decide), Fm_scr (a := 16) (by decide)⟩) m (fun d cl sl F A L mg => w_distance hk ho mg w))
theorem j_base {x y : Int32} (c : gF F A G) (m : mG F A G) (hcl : 79 < cl) : jO bA X d 6050 [.ref 0, .int x, .int y] 7116 [.ref 70, .int x, .int y] cl sl F A L ∨ jX 0 1 X d 6050 [.ref 0, .int x, .int y] 7116 [.ref 70, .int x, .int y] cl sl F A L := by
  have w := wG_of c
  by_cases h0 : noC G.S x
  · exact Or.inr (j_no (⟨F, A, fun P => k_base_one h0 c hcl, c, Fm_id⟩) m (fun d cl sl F A L mg => w_base_one h0 mg w))
  obtain ⟨k, hk, rfl⟩ := isC c.w h0
  by_cases h2 : noC G.S y
  · exact Or.inr (j_no (⟨F, A, fun P => k_base_two hk h2 c hcl, c, Fm_id⟩) m (fun d cl sl F A L mg => w_base_two hk h2 mg w))
  obtain ⟨o, ho, rfl⟩ := isC c.w h2
  exact Or.inl (j_ok (trivial) (⟨F, _, fun P => k_base hk ho c, gF_scr c (a := 14) (by decide) (by decide), Fm_scr (a := 14) (by decide)⟩) m (fun d cl sl F A L mg => w_base hk ho mg w))
theorem j_baseByMarks {x y : Int32} (c : gF F A G) (m : mG F A G) (hcl : 79 < cl) : jO bA X d 6051 [.ref 0, .int x, .int y] 7117 [.ref 70, .int x, .int y] cl sl F A L ∨ jX 0 1 X d 6051 [.ref 0, .int x, .int y] 7117 [.ref 70, .int x, .int y] cl sl F A L := by
  have w := wG_of c
  by_cases h0 : noC G.S x
  · exact Or.inr (j_no (⟨F, A, fun P => k_baseByMarks_one h0 c hcl, c, Fm_id⟩) m (fun d cl sl F A L mg => w_baseByMarks_one h0 mg w))
  obtain ⟨k, hk, rfl⟩ := isC c.w h0
  by_cases h2 : noC G.S y
  · exact Or.inr (j_no (⟨F, A, fun P => k_baseByMarks_two hk h2 c hcl, c, Fm_id⟩) m (fun d cl sl F A L mg => w_baseByMarks_two hk h2 mg w))
  obtain ⟨o, ho, rfl⟩ := isC c.w h2
  exact Or.inl (j_ok (trivial) (⟨F, _, fun P => k_baseByMarks hk ho c, gF_scr (gF_scr c (a := 14) (by decide) (by decide)) (a := 15) (by decide) (by decide), Fm_tr (Fm_scr (a := 14) (by decide)) (Fm_scr (a := 15) (by decide))⟩) m (fun d cl sl F A L mg => w_baseByMarks hk ho mg w))
theorem j_bestCommon {x y : Int32} (c : gF F A G) (m : mG F A G) (hcl : 79 < cl) : jO bA X d 6052 [.ref 0, .int x, .int y] 7118 [.ref 70, .int x, .int y] cl sl F A L ∨ jX 0 1 X d 6052 [.ref 0, .int x, .int y] 7118 [.ref 70, .int x, .int y] cl sl F A L := by
  have w := wG_of c
  by_cases h0 : noC G.S x
  · exact Or.inr (j_no (⟨F, A, fun P => k_bestCommon_one h0 c hcl, c, Fm_id⟩) m (fun d cl sl F A L mg => w_bestCommon_one h0 mg w))
  obtain ⟨k, hk, rfl⟩ := isC c.w h0
  by_cases h2 : noC G.S y
  · exact Or.inr (j_no (⟨F, A, fun P => k_bestCommon_two hk h2 c hcl, c, Fm_id⟩) m (fun d cl sl F A L mg => w_bestCommon_two hk h2 mg w))
  obtain ⟨o, ho, rfl⟩ := isC c.w h2
  exact Or.inl (j_ok (trivial) (⟨F, _, fun P => k_bestCommon hk ho c, gF_scr c (a := 14) (by decide) (by decide), Fm_scr (a := 14) (by decide)⟩) m (fun d cl sl F A L mg => w_bestCommon hk ho mg w))
theorem j_firstParent {x : Int32} (c : gF F A G) (m : mG F A G) (hcl : 79 < cl) : jO bA X d 6036 [.ref 0, .int x] 7101 [.ref 70, .int x] cl sl F A L ∨ jX 0 1 X d 6036 [.ref 0, .int x] 7101 [.ref 70, .int x] cl sl F A L := by
  have w := wG_of c
  by_cases h0 : noC G.S x
  · exact Or.inr (j_no (⟨F, A, fun P => k_firstParent_commit h0 c hcl, c, Fm_id⟩) m (fun d cl sl F A L mg => w_firstParent_commit h0 mg w))
  obtain ⟨k, hk, rfl⟩ := isC c.w h0
  exact Or.inl (j_ok (trivial) (⟨F, _, fun P => k_firstParent hk c, c, Fm_id⟩) m (fun d cl sl F A L mg => w_firstParent hk mg w))
theorem j_secondParent {x : Int32} (c : gF F A G) (m : mG F A G) (hcl : 79 < cl) : jO bA X d 6037 [.ref 0, .int x] 7102 [.ref 70, .int x] cl sl F A L ∨ jX 0 1 X d 6037 [.ref 0, .int x] 7102 [.ref 70, .int x] cl sl F A L := by
  have w := wG_of c
  by_cases h0 : noC G.S x
  · exact Or.inr (j_no (⟨F, A, fun P => k_secondParent_commit h0 c hcl, c, Fm_id⟩) m (fun d cl sl F A L mg => w_secondParent_commit h0 mg w))
  obtain ⟨k, hk, rfl⟩ := isC c.w h0
  exact Or.inl (j_ok (trivial) (⟨F, _, fun P => k_secondParent hk c, c, Fm_id⟩) m (fun d cl sl F A L mg => w_secondParent hk mg w))
theorem j_history {x : Int32} (c : gF F A G) (m : mG F A G) (hcl : 79 < cl) : jO bA X d 6046 [.ref 0, .int x] 7111 [.ref 70, .int x] cl sl F A L ∨ jX 0 1 X d 6046 [.ref 0, .int x] 7111 [.ref 70, .int x] cl sl F A L := by
  have w := wG_of c
  by_cases h0 : noC G.S x
  · exact Or.inr (j_no (⟨F, A, fun P => k_history_commit h0 c hcl, c, Fm_id⟩) m (fun d cl sl F A L mg => w_history_commit h0 mg w))
  obtain ⟨k, hk, rfl⟩ := isC c.w h0
  exact Or.inl (j_ok (trivial) (⟨F, _, fun P => k_history hk c, gF_scr c (a := 14) (by decide) (by decide), Fm_scr (a := 14) (by decide)⟩) m (fun d cl sl F A L mg => w_history hk mg w))
theorem j_depth {x : Int32} (c : gF F A G) (m : mG F A G) (hcl : 79 < cl) : jO bA X d 6049 [.ref 0, .int x] 7115 [.ref 70, .int x] cl sl F A L ∨ jX 0 1 X d 6049 [.ref 0, .int x] 7115 [.ref 70, .int x] cl sl F A L := by
  have w := wG_of c
  by_cases h0 : noC G.S x
  · exact Or.inr (j_no (⟨F, A, fun P => k_depth_commit h0 c hcl, c, Fm_id⟩) m (fun d cl sl F A L mg => w_depth_commit h0 mg w))
  obtain ⟨k, hk, rfl⟩ := isC c.w h0
  exact Or.inl (j_ok (trivial) (⟨F, _, fun P => k_depth hk c, gF_scr c (a := 16) (by decide) (by decide), Fm_scr (a := 16) (by decide)⟩) m (fun d cl sl F A L mg => w_depth hk mg w))
theorem j_historyAt {x y : Int32} (c : gF F A G) (m : mG F A G) (hcl : 79 < cl) : jO bA X d 6047 [.ref 0, .int x, .int y] 7112 [.ref 70, .int x, .int y] cl sl F A L ∨ jX 0 1 X d 6047 [.ref 0, .int x, .int y] 7112 [.ref 70, .int x, .int y] cl sl F A L := by
  have w := wG_of c
  by_cases h0 : noC G.S x
  · exact Or.inr (j_no (⟨F, A, fun P => k_historyAt_commit h0 c hcl, c, Fm_id⟩) m (fun d cl sl F A L mg => w_historyAt_commit h0 mg w))
  obtain ⟨k, hk, rfl⟩ := isC c.w h0
  by_cases h1 : y < nI 0
  · exact Or.inr (j_no (⟨F, A, fun P => k_historyAt_place hk h1 c hcl, c, Fm_id⟩) m (fun d cl sl F A L mg => w_historyAt_place hk h1 mg w))
  obtain ⟨pl, hp, rfl⟩ := in_0 h1
  exact Or.inl (j_ok (trivial) (⟨F, _, fun P => k_historyAt hk hp c, gF_scr c (a := 14) (by decide) (by decide), Fm_scr (a := 14) (by decide)⟩) m (fun d cl sl F A L mg => w_historyAt hk hp mg w))
theorem j_isBranch {x : Int32} (c : gF F A G) (m : mG F A G) (hcl : 79 < cl) : jO bB X d 6039 [.ref 0, .int x] 7104 [.ref 70, .int x] cl sl F A L ∨ jX 0 1 X d 6039 [.ref 0, .int x] 7104 [.ref 70, .int x] cl sl F A L := by
  have w := wG_of c
  by_cases h0 : noB x
  · exact Or.inr (j_no (⟨F, A, fun P => k_isBranch_number h0 c hcl, c, Fm_id⟩) m (fun d cl sl F A L mg => w_isBranch_number h0 mg w))
  obtain ⟨b, hb, rfl⟩ := isB h0
  exact Or.inl (j_ok (bB_I _) (⟨F, _, fun P => k_isBranch hb c, c, Fm_id⟩) m (fun d cl sl F A L mg => w_isBranch hb mg w))
theorem j_standsAt {x : Int32} (c : gF F A G) (m : mG F A G) (hcl : 79 < cl) : jO bA X d 6040 [.ref 0, .int x] 7105 [.ref 70, .int x] cl sl F A L ∨ jX 0 1 X d 6040 [.ref 0, .int x] 7105 [.ref 70, .int x] cl sl F A L ∨ jX 1 2 X d 6040 [.ref 0, .int x] 7105 [.ref 70, .int x] cl sl F A L := by
  have w := wG_of c
  by_cases h0 : noB x
  · exact Or.inr (Or.inl (j_no (⟨F, A, fun P => k_standsAt_number h0 c hcl, c, Fm_id⟩) m (fun d cl sl F A L mg => w_standsAt_number h0 mg w)))
  obtain ⟨b, hb, rfl⟩ := isB h0
  by_cases h1 : G.S.br b = 0
  · exact Or.inr (Or.inr (j_no (⟨F, A, fun P => k_standsAt_no hb h1 c hcl, c, Fm_id⟩) m (fun d cl sl F A L mg => w_standsAt_no hb h1 mg w)))
  exact Or.inl (j_ok (trivial) (⟨F, _, fun P => k_standsAt hb h1 c, c, Fm_id⟩) m (fun d cl sl F A L mg => w_standsAt hb h1 mg w))
theorem j_wouldConflict {x : Int32} (c : gF F A G) (m : mG F A G) (hcl : 79 < cl) : jO bA X d 6053 [.ref 0, .int x] 7120 [.ref 70, .int x] cl sl F A L ∨ jX 0 1 X d 6053 [.ref 0, .int x] 7120 [.ref 70, .int x] cl sl F A L ∨ jX 1 2 X d 6053 [.ref 0, .int x] 7120 [.ref 70, .int x] cl sl F A L := by
  have w := wG_of c
  by_cases h0 : noB x
  · exact Or.inr (Or.inl (j_no (⟨F, A, fun P => k_wouldConflict_number h0 c hcl, c, Fm_id⟩) m (fun d cl sl F A L mg => w_wouldConflict_number h0 mg w)))
  obtain ⟨b, hb, rfl⟩ := isB h0
  by_cases h1 : G.S.br b = 0
  · exact Or.inr (Or.inr (j_no (⟨F, A, fun P => k_wouldConflict_no hb h1 c hcl, c, Fm_id⟩) m (fun d cl sl F A L mg => w_wouldConflict_no hb h1 mg w)))
  exact Or.inl (j_ok (trivial) (k_wouldConflict hb h1 c hcl) m (fun d cl sl F A L mg => w_wouldConflict hb h1 mg w))
theorem j_wouldBecome {x : Int32} (c : gF F A G) (m : mG F A G) (hcl : 79 < cl) : jO bA X d 6054 [.ref 0, .int x] 7121 [.ref 70, .int x] cl sl F A L ∨ jX 0 1 X d 6054 [.ref 0, .int x] 7121 [.ref 70, .int x] cl sl F A L ∨ jX 1 2 X d 6054 [.ref 0, .int x] 7121 [.ref 70, .int x] cl sl F A L := by
  have w := wG_of c
  by_cases h0 : noB x
  · exact Or.inr (Or.inl (j_no (⟨F, A, fun P => k_wouldBecome_number h0 c hcl, c, Fm_id⟩) m (fun d cl sl F A L mg => w_wouldBecome_number h0 mg w)))
  obtain ⟨b, hb, rfl⟩ := isB h0
  by_cases h1 : G.S.br b = 0
  · exact Or.inr (Or.inr (j_no (⟨F, A, fun P => k_wouldBecome_no hb h1 c hcl, c, Fm_id⟩) m (fun d cl sl F A L mg => w_wouldBecome_no hb h1 mg w)))
  exact Or.inl (j_ok (trivial) (k_wouldBecome hb h1 c hcl) m (fun d cl sl F A L mg => w_wouldBecome hb h1 mg w))
theorem j_goBack (c : gF F A G) (m : mG F A G) (hcl : 79 < cl) : jO bA X d 6058 [.ref 0] 7068 [.ref 70] cl sl F A L ∨ jX 1 1 X d 6058 [.ref 0] 7068 [.ref 70] cl sl F A L := by
  have w := wG_of c
  by_cases h1 : G.hs = 1
  · exact Or.inl (j_ok (trivial) (k_goBack c h1 hcl) m (fun d cl sl F A L mg => w_goBack h1 mg w))
  have h0 : G.hs = 0 := by have := w.h1; omega
  exact Or.inr (j_no (⟨F, A, fun P => k_goBack_no c h0 hcl, c, Fm_id⟩) m (fun d cl sl F A L mg => w_goBack_no h0 mg w))
theorem j_undo (c : gF F A G) (m : mG F A G) (hcl : 79 < cl) : jO bA X d 6059 [.ref 0] 7069 [.ref 70] cl sl F A L ∨ jX 1 1 X d 6059 [.ref 0] 7069 [.ref 70] cl sl F A L := by
  have w := wG_of c
  by_cases h0 : G.m = 0
  · exact Or.inr (j_no (⟨F, A, fun P => k_undo_no c h0 hcl, c, Fm_id⟩) m (fun d cl sl F A L mg => w_undo_no h0 mg w))
  obtain ⟨n, hn⟩ : ∃ n, G.m = n + 1 := ⟨G.m - 1, by omega⟩
  exact Or.inl (j_ok (trivial) (k_undo c hn hcl) m (fun d cl sl F A L mg => w_undo hn mg w))
theorem j_clearPad (c : gF F A G) (m : mG F A G) (hcl : 79 < cl) : jO bA X d 6003 [.ref 0] 7071 [.ref 70] cl sl F A L := by
  have w := wG_of c
  have kk := k_clearPad (d := d) (X := X) (cl := cl) (sl := sl) (L := L) c
  obtain ⟨F2, e2, c2, f2⟩ := kk
  exact j_ok (trivial) (⟨F2, A, fun P => e2 P, c2, f2⟩) m (fun d cl sl F A L mg => w_clearPad mg w)
theorem j_fault (c : gF F A G) (m : mG F A G) (hcl : 79 < cl) : jO bA X d 6004 [.ref 0] 7078 [.ref 70] cl sl F A L := by
  have w := wG_of c
  exact j_ok (trivial) (⟨F, _, fun P => k_fault c, c, Fm_id⟩) m (fun d cl sl F A L mg => w_fault mg w)
theorem j_conflicts (c : gF F A G) (m : mG F A G) (hcl : 79 < cl) : jO bA X d 6022 [.ref 0] 7085 [.ref 70] cl sl F A L := by
  have w := wG_of c
  exact j_ok (trivial) (⟨F, _, fun P => k_conflicts c, c, Fm_id⟩) m (fun d cl sl F A L mg => w_conflicts mg w)
theorem j_regions (c : gF F A G) (m : mG F A G) (hcl : 79 < cl) : jO bA X d 6023 [.ref 0] 7087 [.ref 70] cl sl F A L := by
  have w := wG_of c
  exact j_ok (trivial) (⟨F, _, fun P => k_regions c, c, Fm_id⟩) m (fun d cl sl F A L mg => w_regions mg w)
theorem j_longestRegion (c : gF F A G) (m : mG F A G) (hcl : 79 < cl) : jO bA X d 6024 [.ref 0] 7088 [.ref 70] cl sl F A L := by
  have w := wG_of c
  exact j_ok (trivial) (⟨F, _, fun P => k_longestRegion c, c, Fm_id⟩) m (fun d cl sl F A L mg => w_longestRegion mg w)
theorem j_changed (c : gF F A G) (m : mG F A G) (hcl : 79 < cl) : jO bA X d 6029 [.ref 0] 7093 [.ref 70] cl sl F A L := by
  have w := wG_of c
  exact j_ok (trivial) (⟨F, _, fun P => k_changed c, c, Fm_id⟩) m (fun d cl sl F A L mg => w_changed mg w)
theorem j_commits (c : gF F A G) (m : mG F A G) (hcl : 79 < cl) : jO bA X d 6035 [.ref 0] 7100 [.ref 70] cl sl F A L := by
  have w := wG_of c
  exact j_ok (trivial) (⟨F, _, fun P => k_commits c, c, Fm_id⟩) m (fun d cl sl F A L mg => w_commits mg w)
theorem j_branches (c : gF F A G) (m : mG F A G) (hcl : 79 < cl) : jO bA X d 6038 [.ref 0] 7103 [.ref 70] cl sl F A L := by
  have w := wG_of c
  exact j_ok (trivial) (⟨F, _, fun P => k_branches c, c, Fm_id⟩) m (fun d cl sl F A L mg => w_branches mg w)
theorem j_current (c : gF F A G) (m : mG F A G) (hcl : 79 < cl) : jO bA X d 6041 [.ref 0] 7106 [.ref 70] cl sl F A L := by
  have w := wG_of c
  exact j_ok (trivial) (⟨F, _, fun P => k_current c, c, Fm_id⟩) m (fun d cl sl F A L mg => w_current mg w)
theorem j_head (c : gF F A G) (m : mG F A G) (hcl : 79 < cl) : jO bA X d 6042 [.ref 0] 7107 [.ref 70] cl sl F A L := by
  have w := wG_of c
  exact j_ok (trivial) (⟨F, _, fun P => k_head c, c, Fm_id⟩) m (fun d cl sl F A L mg => w_head mg w)
theorem j_aside (c : gF F A G) (m : mG F A G) (hcl : 79 < cl) : jO bA X d 6043 [.ref 0] 7108 [.ref 70] cl sl F A L := by
  have w := wG_of c
  exact j_ok (trivial) (⟨F, _, fun P => k_aside c, c, Fm_id⟩) m (fun d cl sl F A L mg => w_aside mg w)
theorem j_merges (c : gF F A G) (m : mG F A G) (hcl : 79 < cl) : jO bA X d 6055 [.ref 0] 7122 [.ref 70] cl sl F A L := by
  have w := wG_of c
  exact j_ok (trivial) (⟨F, _, fun P => k_merges c, c, Fm_id⟩) m (fun d cl sl F A L mg => w_merges mg w)
theorem j_allConflicts (c : gF F A G) (m : mG F A G) (hcl : 79 < cl) : jO bA X d 6056 [.ref 0] 7123 [.ref 70] cl sl F A L := by
  have w := wG_of c
  exact j_ok (trivial) (⟨F, _, fun P => k_allConflicts c, c, Fm_id⟩) m (fun d cl sl F A L mg => w_allConflicts mg w)
theorem j_isMerging (c : gF F A G) (m : mG F A G) (hcl : 79 < cl) : jO bB X d 6025 [.ref 0] 7089 [.ref 70] cl sl F A L := by
  have w := wG_of c
  exact j_ok (bB_I _) (⟨F, _, fun P => k_isMerging c, c, Fm_id⟩) m (fun d cl sl F A L mg => w_isMerging mg w)
theorem j_isPicking (c : gF F A G) (m : mG F A G) (hcl : 79 < cl) : jO bB X d 6026 [.ref 0] 7090 [.ref 70] cl sl F A L := by
  have w := wG_of c
  exact j_ok (bB_I _) (⟨F, _, fun P => k_isPicking c, c, Fm_id⟩) m (fun d cl sl F A L mg => w_isPicking mg w)
theorem j_lost (c : gF F A G) (m : mG F A G) (hcl : 79 < cl) : jO bA X d 6044 [.ref 0] 7109 [.ref 70] cl sl F A L := by
  have w := wG_of c
  exact j_ok (trivial) (⟨F, _, fun P => k_lost c, gF_scr c (a := 14) (by decide) (by decide), Fm_scr (a := 14) (by decide)⟩) m (fun d cl sl F A L mg => w_lost mg w)
theorem j_keep (c : gF F A G) (m : mG F A G) (hcl : 79 < cl) : jO bA X d 6057 [.ref 0] 7067 [.ref 70] cl sl F A L := by
  have w := wG_of c
  exact j_ok (trivial) (k_keep c hcl) m (fun d cl sl F A L mg => w_keep mg w)
theorem j_resolve {x y : Int32} {k : Nat} (hk : k < 2) (c : gF F A G) (m : mG F A G) (hcl : 79 < cl) : jO bA X d 6018 [.ref 0, .int x, .int y, .int (nI k)] 7065 [.ref 70, .int x, .int y, .int (nI k)] cl sl F A L ∨ jX 0 1 X d 6018 [.ref 0, .int x, .int y, .int (nI k)] 7065 [.ref 70, .int x, .int y, .int (nI k)] cl sl F A L ∨ jX 1 2 X d 6018 [.ref 0, .int x, .int y, .int (nI k)] 7065 [.ref 70, .int x, .int y, .int (nI k)] cl sl F A L := by
  have w := wG_of c
  by_cases h1 : noP x y
  · exact Or.inr (Or.inl (j_no (⟨F, A, fun P => k_resolve_place h1 hcl, c, Fm_id⟩) m (fun d cl sl F A L mg => w_arg wh_resolve mg (g_resolve_place (mR_bg mg) mg.z h1))))
  obtain ⟨a, b, ha, hb, rfl, rfl⟩ := isP h1
  by_cases h0 : G.S.O (a * 6 + b) = 0
  · exact Or.inr (Or.inr (j_no (⟨F, A, fun P => k_resolve_no c ha hb h0 hcl, c, Fm_id⟩) m (fun d cl sl F A L mg => w_st wh_resolve mg (g_resolve_no (mR_bg mg) w.w mg.z ha hb h0))))
  have hu : nco (resS G.S (a * 6 + b) k) < 1000 := by have : nco (resS G.S (a * 6 + b) k) ≤ 24 := cnt_le _ _; omega
  exact Or.inl (j_ok (trivial) (k_resolve c ha hb hk h0 hcl) m (fun d cl sl F A L mg => w_ok wh_resolve mg w (g_resolve (mR_bg mg) w.w mg.z ha hb hk h0) (ng_n (hu) (by decide) (by decide)) (ng_n (hu) (by decide) (by decide))))
end JO
