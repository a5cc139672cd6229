/-! REPOSITORY: combinations, merges, picks -/
theorem kT_lt {o w t : Nat → Nat} {i : Nat} (h1 : w i < 100) (h2 : t i < 100) : kT o w t i < 100 := by
  unfold kT
  split
  · exact h1
  · exact h2
theorem kO_le {o w t : Nat → Nat} {i : Nat} (h1 : w i < 100) : kO o w t i ≤ 100 := by
  unfold kO
  split
  · omega
  · omega
section RQ
variable {d cl sl : Nat} {X : am_X} {F A : Nat → Nat → Int32} {L : Nat → Nat → Int64} {P : am_Q} {S : Ab} {o w t : Nat → Nat}
/-- the rows 18, 19 and 20 are numbers: combined -/
theorem r_combine (R : cR F A 4 S) (h18 : ∀ i, i < 24 → A 18 i = nI (o i)) (h19 : ∀ i, i < 24 → A 19 i = nI (w i)) (h20 : ∀ i, i < 24 → A 20 i = nI (t i)) (v1 : ∀ i, i < 24 → o i < 100) (v2 : ∀ i, i < 24 → w i < 100) (v3 : ∀ i, i < 24 → t i < 100) : ∃ F2 A2, (∀ P, am_Ca X (d + 1) 2 [.ref 17] (am_Z cl sl F A L) P = P (.inl none) (am_Z cl sl F2 A2 L)) ∧ cmR F2 A2 o w t ∧ cR F2 A2 4 S ∧ Fr F A F2 A2 ∧ A2 22 = A 22 := by
  have hk : ∀ i, i < 24 → cmB (A 18) (A 19) (A 20) i = kB o w t i ∧ cmC (A 18) (A 19) (A 20) i = kC o w t i := fun i hi => kk_B h18 h19 h20 v1 v2 v3 hi
  refine ⟨_, _, fun P => s_combine, ?_, ?_, ?_, ?_⟩
  · refine cmR.mk ?_ ?_ ?_ ?_
    · rw [kmF_r4, cnt_congr fun i hi => (hk i hi).1]
    · rw [kmF_r5, cnt_congr fun i hi => (hk i hi).2]
    · intro i hi
      rw [kmA_20]
      unfold cmT kT
      rw [(hk i hi).1]
      by_cases e : kB o w t i = true
      · rw [if_pos ⟨hi, e⟩, if_pos e, h19 i hi]
      · rw [if_neg (fun z => e z.2), if_neg e, h20 i hi]
    · intro i hi
      rw [kmA_21]
      unfold cmS kO
      rw [if_pos hi, (hk i hi).2]
      by_cases e : kC o w t i = true
      · rw [if_pos e, if_pos e, pk_s, h19 i hi]
      · rw [if_neg e, if_neg e, pk_0]
  · exact cR_cg R (kmF_ne (by decide)) (fun k h1 h2 => kmA_ne (by omega) (by omega))
  · exact Fr_tr (Fr_tr (Fr_tr (Fr_f2 (Or.inr rfl)) (Fr_f2 (Or.inr rfl))) (Fr_up (o := 20) (by omega))) (Fr_up (o := 21) (by omega))
  · exact kmA_ne (by decide) (by decide)
/-- the trees that a commit's change goes from and to; k: 1 backwards -/
def fromT (S : Ab) (c k : Nat) : Nat → Nat := if k = 0 then S.T (S.p c - 1) else S.T c
def toT (S : Ab) (c k : Nat) : Nat → Nat := if k = 0 then S.T c else S.T (S.p c - 1)
theorem r_readChange (R : cR F A 4 S) (h : wS S) {c k : Nat} (hc : c < S.n) (h0 : c ≠ 0) (hk : k < 2) (hcl : 70 < cl) : ∃ A2, (∀ P, am_Ca X (d + 2) 4030 [.ref 3, .int (nI c), .int (nI k)] (am_Z cl sl F A L) P = P (.inl none) (am_Z cl sl F A2 L)) ∧ cR F A2 4 S ∧ Fr F A F A2 ∧ (∀ i, i < 24 → A2 18 i = nI (fromT S c k i)) ∧ (∀ i, i < 24 → A2 19 i = nI (toT S c k i)) ∧ A2 20 = A 20 ∧ A2 22 = A 22 := by
  obtain ⟨z, hz⟩ : ∃ z, S.p c = z + 1 := ⟨S.p c - 1, by have := h.root c hc h0; omega⟩
  have hzc := (h.par c hc).1
  have hzn : z < S.n := by omega
  have h6 := h.n60
  have key : ∀ x y : Nat, x < S.n → y < S.n → (∀ i, i < 24 → va_up (va_up A 18 (va_cpy (A 7) (A 18) (x * 24) 0 24)) 19 (va_cpy (A 7) (A 19) (y * 24) 0 24) 18 i = nI (S.T x i)) ∧ (∀ i, i < 24 → va_up (va_up A 18 (va_cpy (A 7) (A 18) (x * 24) 0 24)) 19 (va_cpy (A 7) (A 19) (y * 24) 0 24) 19 i = nI (S.T y i)) := by
    intro x y hx hy
    refine ⟨fun i hi => ?_, fun i hi => ?_⟩
    · rw [up_ne (by decide), up_eq, cpy_in (by omega) (by omega)]
      exact R.T x hx i hi
    · rw [up_eq, cpy_in (by omega) (by omega)]
      exact R.T y hy i hi
  have fr : ∀ g g2 : Nat → Int32, cR F (va_up (va_up A 18 g) 19 g2) 4 S ∧ Fr F A F (va_up (va_up A 18 g) 19 g2) := fun g g2 => ⟨cR_scr (cR_scr R (by omega)) (by omega), Fr_tr (Fr_up (o := 18) (by omega)) (Fr_up (o := 19) (by omega))⟩
  have ef : S.T (S.p c - 1) = S.T z := by rw [hz]; rfl
  by_cases e : k = 0
  · subst e
    refine ⟨_, fun P => ?_, (fr _ _).1, (fr _ _).2, (by rw [show fromT S c 0 = S.T (S.p c - 1) from rfl, ef]; exact (key z c hzn hc).1), (key z c hzn hc).2, ?_, ?_⟩
    · rw [c4030]
      simp (disch := omega) only [q_p1 R h hc, hz, pk_s, s_copyTree (a := 18) (h1 := rfl) (hcl := hcl), s_copyTree (a := 19) (h1 := rfl) (hcl := hcl), u4030_0, u4030_1, u4030_4, u4030_5, u4030_8, u4030_9, u4030_10, u4030_13, u4030_14, u4030_17, u4030_18, u4030_21, u4030_22, u4030_23, u4030_26, u4030_29, u4030_32, u4030_33, u4030_36, u4030_37, u4030_40, u4030_41, u4030_44, u4030_45, u4030_46, u4030_49, u4030_52, u4030_55, gt_3_0, ob_4, gt_3_2, gt_17_0, gt_17_1, af_x hd_4030, decide_eq_true_eq, if_true, if_false, f2_ne, f2_eq, up_ne, up_eq, kc_int, kc_ref, kc_retAddr, kc_long, kc_double, af_n, af_v, z0, z1, n_of, nz6, nz4, bI_T, bI_F, bI_01, n_lt, n_le, n_eq, n_add, n_mul, n_sub, n_clamp, n_vp, m_lt, m_le, m_eq, m_eq2, m_ltm, m_add, true_and, and_true, eq_self, if_pos, if_neg, List.length_nil, List.length_cons, Nat.reduceAdd, Nat.reduceLeDiff, Nat.zero_le, not_true_eq_false, not_false_eq_true, true_or, or_true]
    · simp [va_up]
    · simp [va_up]
  · have e1 : k = 1 := by omega
    subst e1
    refine ⟨_, fun P => ?_, (fr _ _).1, (fr _ _).2, (key c z hc hzn).1, (by rw [show toT S c 1 = S.T (S.p c - 1) from rfl, ef]; exact (key c z hc hzn).2), ?_, ?_⟩
    · rw [c4030]
      simp (disch := omega) only [q_p1 R h hc, hz, pk_s, s_copyTree (a := 18) (h1 := rfl) (hcl := hcl), s_copyTree (a := 19) (h1 := rfl) (hcl := hcl), u4030_0, u4030_1, u4030_4, u4030_5, u4030_8, u4030_9, u4030_10, u4030_13, u4030_14, u4030_17, u4030_18, u4030_21, u4030_22, u4030_23, u4030_26, u4030_29, u4030_32, u4030_33, u4030_36, u4030_37, u4030_40, u4030_41, u4030_44, u4030_45, u4030_46, u4030_49, u4030_52, u4030_55, gt_3_0, ob_4, gt_3_2, gt_17_0, gt_17_1, af_x hd_4030, decide_eq_true_eq, if_true, if_false, f2_ne, f2_eq, up_ne, up_eq, kc_int, kc_ref, kc_retAddr, kc_long, kc_double, af_n, af_v, z0, z1, n_of, nz6, nz4, bI_T, bI_F, bI_01, n_lt, n_le, n_eq, n_add, n_mul, n_sub, n_clamp, n_vp, m_lt, m_le, m_eq, m_eq2, m_ltm, m_add, true_and, and_true, eq_self, if_pos, if_neg, List.length_nil, List.length_cons, Nat.reduceAdd, Nat.reduceLeDiff, Nat.zero_le, not_true_eq_false, not_false_eq_true, true_or, or_true]
    · simp [va_up]
    · simp [va_up]
theorem fromT_lt (h : wS S) {c k : Nat} (hc : c < S.n) (h0 : c ≠ 0) : ∀ i, i < 24 → fromT S c k i < 100 := by
  intro i hi
  have := h.root c hc h0
  have := (h.par c hc).1
  unfold fromT
  split
  · exact h.Tv _ (by omega) i hi
  · exact h.Tv _ hc i hi
theorem toT_lt (h : wS S) {c k : Nat} (hc : c < S.n) (h0 : c ≠ 0) : ∀ i, i < 24 → toT S c k i < 100 := by
  intro i hi
  have := h.root c hc h0
  have := (h.par c hc).1
  unfold toT
  split
  · exact h.Tv _ hc i hi
  · exact h.Tv _ (by omega) i hi
theorem r_withWork (R : cR F A 4 S) (h : wS S) {c k : Nat} (hc : c < S.n) (h0 : c ≠ 0) (hk : k < 2) (hcl : 70 < cl) : ∃ F2 A2, (∀ P, am_Ca X (d + 3) 4028 [.ref 3, .int (nI c), .int (nI k)] (am_Z cl sl F A L) P = P (.inl none) (am_Z cl sl F2 A2 L)) ∧ cmR F2 A2 (fromT S c k) (toT S c k) S.W ∧ cR F2 A2 4 S ∧ Fr F A F2 A2 ∧ A2 22 = A 22 := by
  obtain ⟨A1, e1, R1, f1, g18, g19, g20, g22⟩ := r_readChange (d := d) (X := X) (cl := cl) (sl := sl) (L := L) R h hc h0 hk hcl
  have R2 : cR F (va_up A1 20 (va_cpy (A1 9) (A1 20) 0 0 24)) 4 S := cR_scr R1 (by omega)
  have k20 : ∀ i, i < 24 → va_up A1 20 (va_cpy (A1 9) (A1 20) 0 0 24) 20 i = nI (S.W i) := by
    intro i hi
    rw [up_eq, cpy_in (by omega) (by omega), show 0 + (i - 0) = i by omega]
    exact R1.W i hi
  have k18 : ∀ i, i < 24 → va_up A1 20 (va_cpy (A1 9) (A1 20) 0 0 24) 18 i = nI (fromT S c k i) := fun i hi => by rw [up_ne (by decide)]; exact g18 i hi
  have k19 : ∀ i, i < 24 → va_up A1 20 (va_cpy (A1 9) (A1 20) 0 0 24) 19 i = nI (toT S c k i) := fun i hi => by rw [up_ne (by decide)]; exact g19 i hi
  obtain ⟨F3, A3, e3, m3, R3, f3, g3⟩ := r_combine (d := d + 1) (X := X) (cl := cl) (sl := sl) (L := L) R2 k18 k19 k20 (fromT_lt h hc h0) (toT_lt h hc h0) h.Wv
  refine ⟨F3, A3, fun P => ?_, m3, R3, Fr_tr (Fr_tr f1 (Fr_up (o := 20) (by omega))) f3, ?_⟩
  · rw [c4028]
    simp (disch := omega) only [e1, cp_g (a := 9) (b := 20) (na := 24) (nb := 24) (by decide) (by decide) rfl rfl, e3, u4028_0, u4028_1, u4028_2, u4028_3, u4028_6, u4028_7, u4028_10, u4028_13, u4028_14, u4028_15, u4028_18, u4028_21, u4028_22, u4028_24, u4028_27, u4028_28, u4028_31, u4028_34, ob_3, gt_3_0, gt_4_6, gt_3_2, gt_17_2, ob_17, ki_0, ki_24, af_x hd_4028, decide_eq_true_eq, if_true, if_false, f2_ne, f2_eq, up_ne, up_eq, kc_int, kc_ref, kc_retAddr, kc_long, kc_double, af_n, af_v, z0, z1, n_of, nz6, nz4, bI_T, bI_F, bI_01, n_lt, n_le, n_eq, n_add, n_mul, n_sub, n_clamp, n_vp, m_lt, m_le, m_eq, m_eq2, m_ltm, m_add, true_and, and_true, eq_self, if_pos, if_neg, List.length_nil, List.length_cons, Nat.reduceAdd, Nat.reduceLeDiff, Nat.zero_le, not_true_eq_false, not_false_eq_true, true_or, or_true]
  · rw [g3, up_ne (by decide), g22]
/-- what is aside at last: the tree of its head, its work -/
theorem r_withAside (R : cR F A 4 S) (h : wS S) {a : Nat} (ha : S.ac = a + 1) (hcl : 70 < cl) : ∃ F2 A2, (∀ P, am_Ca X (d + 3) 4029 [.ref 3] (am_Z cl sl F A L) P = P (.inl none) (am_Z cl sl F2 A2 L)) ∧ cmR F2 A2 (S.T (S.ah a)) (S.aT a) S.W ∧ cR F2 A2 4 S ∧ Fr F A F2 A2 := by
  have ha3 := h.ac3
  have hh : S.ah a < S.n := h.ahn a (by omega)
  have h6 := h.n60
  have hac : F 4 10 = nI (a + 1) := by rw [R.ac, ha]
  have hah : A 11 a = nI (S.ah a) := R.ah a (by omega)
  have e20 : ∀ (g g2 g3 : Nat → Int32) (i : Nat), i < 24 → va_up (va_up (va_up A 18 g) 19 g2) 20 (va_cpy (A 9) g3 0 0 24) 20 i = nI (S.W i) := by
    intro g g2 g3 i hi
    rw [up_eq, cpy_in (by omega) (by omega), show 0 + (i - 0) = i by omega]
    exact R.W i hi
  have R2 : ∀ g g2 g3 : Nat → Int32, cR F (va_up (va_up (va_up A 18 g) 19 g2) 20 g3) 4 S := fun g g2 g3 => cR_scr (cR_scr (cR_scr R (by omega)) (by omega)) (by omega)
  have k18 : ∀ (g2 g3 : Nat → Int32) (i : Nat), i < 24 → va_up (va_up (va_up A 18 (va_cpy (A 7) (A 18) (S.ah a * 24) 0 24)) 19 g2) 20 g3 18 i = nI (S.T (S.ah a) i) := by
    intro g2 g3 i hi
    rw [up_ne (by decide), up_ne (by decide), up_eq, cpy_in (by omega) (by omega)]
    exact R.T _ hh i hi
  have k19 : ∀ (g g3 : Nat → Int32) (i : Nat), i < 24 → va_up (va_up (va_up A 18 g) 19 (va_cpy (A 12) (A 19) (a * 24) 0 24)) 20 g3 19 i = nI (S.aT a i) := by
    intro g g3 i hi
    rw [up_ne (by decide), up_eq, cpy_in (by omega) (by omega)]
    exact R.aT a (by omega) i hi
  obtain ⟨F3, A3, e3, m3, R3, f3, -⟩ := r_combine (d := d + 1) (X := X) (cl := cl) (sl := sl) (L := L) (R2 (va_cpy (A 7) (A 18) (S.ah a * 24) 0 24) (va_cpy (A 12) (A 19) (a * 24) 0 24) (va_cpy (A 9) (A 20) 0 0 24)) (k18 _ _) (k19 _ _) (e20 _ _ _) (h.Tv _ hh) (h.aTv a (by omega)) h.Wv
  refine ⟨F3, A3, fun P => ?_, m3, R3, Fr_tr (Fr_tr (Fr_tr (Fr_up (o := 18) (by omega)) (Fr_up (o := 19) (by omega))) (Fr_up (o := 20) (by omega))) f3⟩
  rw [c4029]
  simp (disch := omega) only [s_latestAsideHead hac, hah, s_copyTree (a := 18) (h1 := rfl) (hcl := hcl), s_copyLatestAside hac (z := 19) (h1 := rfl) (hcl := hcl), cp_g (a := 9) (b := 20) (na := 24) (nb := 24) (by decide) (by decide) rfl rfl, e3, u4029_0, u4029_1, u4029_4, u4029_5, u4029_8, u4029_11, u4029_12, u4029_15, u4029_18, u4029_21, u4029_22, u4029_25, u4029_26, u4029_29, u4029_32, u4029_35, u4029_36, u4029_39, u4029_42, u4029_43, u4029_44, u4029_47, u4029_50, u4029_51, u4029_53, u4029_56, u4029_57, u4029_60, u4029_63, gt_3_0, ob_4, gt_3_2, gt_17_0, gt_17_1, gt_4_6, gt_17_2, ob_17, ki_0, ki_24, af_x hd_4029, decide_eq_true_eq, if_true, if_false, f2_ne, f2_eq, up_ne, up_eq, kc_int, kc_ref, kc_retAddr, kc_long, kc_double, af_n, af_v, z0, z1, n_of, nz6, nz4, bI_T, bI_F, bI_01, n_lt, n_le, n_eq, n_add, n_mul, n_sub, n_clamp, n_vp, m_lt, m_le, m_eq, m_eq2, m_ltm, m_add, true_and, and_true, eq_self, if_pos, if_neg, List.length_nil, List.length_cons, Nat.reduceAdd, Nat.reduceLeDiff, Nat.zero_le, not_true_eq_false, not_false_eq_true, true_or, or_true]
/-- the base of the head and another commit -/
noncomputable def bas (S : Ab) (c : Nat) : Nat → Prop := fun x => Re S.p S.q (hd S) x ∧ Re S.p S.q c x
noncomputable def basN (S : Ab) (c : Nat) : Nat := gd (bas S c) 60 - 1
theorem hiC_gd {C : Nat → Prop} : ∀ k, hiC C k = pk (gd C k) := by
  intro k
  induction k with
  | zero => rfl
  | succ k ih =>
    unfold hiC gd
    by_cases e : C k
    · rw [if_pos e, if_pos e, pk_s]
    · rw [if_neg e, if_neg e, ih]
theorem gd_0 {C : Nat → Prop} : ∀ {k : Nat}, C 0 → 1 ≤ k → gd C k ≠ 0 := by
  intro k
  induction k with
  | zero => intro _ h; omega
  | succ k ih =>
    intro h0 _
    unfold gd
    by_cases e : C k
    · rw [if_pos e]; omega
    · rw [if_neg e]
      refine ih h0 ?_
      apply Nat.pos_of_ne_zero
      rintro rfl
      exact e h0
theorem gd_C {C : Nat → Prop} : ∀ {k : Nat}, gd C k ≠ 0 → C (gd C k - 1) := by
  intro k
  induction k with
  | zero => intro h; exact absurd rfl h
  | succ k ih =>
    unfold gd
    by_cases e : C k
    · rw [if_pos e]; intro _; exact e
    · rw [if_neg e]; exact ih
/-- all reach the commit 0 -/
theorem Re_root (h : wS S) : ∀ c, c < S.n → Re S.p S.q c 0 := by
  intro c
  induction c using Nat.strongRecOn with
  | ind c ih =>
    intro hc
    by_cases e : c = 0
    · subst e; exact Re_refl
    · have h1 := h.root c hc e
      have h2 := (h.par c hc).1
      exact (Re_iff h.par hc).mpr (Or.inr (Or.inl ⟨h1, ih _ (by omega) (by omega)⟩))
theorem bas_0 (h : wS S) {c : Nat} (hc : c < S.n) : gd (bas S c) 60 ≠ 0 := gd_0 ⟨Re_root h _ (hd_n h), Re_root h c hc⟩ (by decide)
theorem basN_n (h : wS S) {c : Nat} (hc : c < S.n) : basN S c < S.n := by
  have h1 := gd_C (bas_0 h hc)
  have h2 := Re_le h.par c hc _ h1.2
  unfold basN
  omega
theorem r_withHead (R : cR F A 4 S) (h : wS S) {c : Nat} (hc : c < S.n) (hcl : 70 < cl) : ∃ F2 A2, (∀ P, am_Ca X (d + 3) 4027 [.ref 3, .int (nI c)] (am_Z cl sl F A L) P = P (.inl none) (am_Z cl sl F2 A2 L)) ∧ cmR F2 A2 (S.T (basN S c)) (S.T c) (S.T (hd S)) ∧ cR F2 A2 4 S ∧ Fr F A F2 A2 := by
  have h6 := h.n60
  have hb := basN_n h hc
  have hh := hd_n h
  have eb : hiC (fun x => Re S.p S.q (hd S) x ∧ Re S.p S.q c x) 60 = nI (basN S c) := by
    rw [hiC_gd]
    show pk (gd (bas S c) 60) = nI (gd (bas S c) 60 - 1)
    unfold pk
    rw [if_neg (bas_0 h hc)]
  have R0 : cR F (gdA A S.p S.q (hd S) c) 4 S := cR_scr R (by omega)
  have n7 : gdA A S.p S.q (hd S) c 7 = A 7 := up_ne (by decide)
  have n18 : gdA A S.p S.q (hd S) c 18 = A 18 := up_ne (by decide)
  have n19 : gdA A S.p S.q (hd S) c 19 = A 19 := up_ne (by decide)
  have n20 : gdA A S.p S.q (hd S) c 20 = A 20 := up_ne (by decide)
  have R2 : ∀ g g2 g3 : Nat → Int32, cR F (va_up (va_up (va_up (gdA A S.p S.q (hd S) c) 18 g) 19 g2) 20 g3) 4 S := fun g g2 g3 => cR_scr (cR_scr (cR_scr R0 (by omega)) (by omega)) (by omega)
  have kk : ∀ (x : Nat) (g : Nat → Int32) (i : Nat), x < S.n → i < 24 → va_cpy (A 7) g (x * 24) 0 24 i = nI (S.T x i) := by
    intro x g i hx hi
    rw [cpy_in (by omega) (by omega)]
    exact R.T x hx i hi
  obtain ⟨F3, A3, e3, m3, R3, f3, -⟩ := r_combine (d := d + 1) (X := X) (cl := cl) (sl := sl) (L := L) (o := S.T (basN S c)) (w := S.T c) (t := S.T (hd S)) (R2 (va_cpy (A 7) (A 18) (basN S c * 24) 0 24) (va_cpy (A 7) (A 19) (c * 24) 0 24) (va_cpy (A 7) (A 20) (hd S * 24) 0 24)) (fun i hi => by rw [up_ne (by decide), up_ne (by decide), up_eq]; exact kk _ _ i hb hi) (fun i hi => by rw [up_ne (by decide), up_eq]; exact kk _ _ i hc hi) (fun i hi => by rw [up_eq]; exact kk _ _ i hh hi) (h.Tv _ hb) (h.Tv _ hc) (h.Tv _ hh)
  refine ⟨F3, A3, fun P => ?_, m3, R3, Fr_tr (Fr_tr (Fr_tr (Fr_tr (Fr_up (o := 14) (by omega)) (Fr_up (o := 18) (by omega))) (Fr_up (o := 19) (by omega))) (Fr_up (o := 20) (by omega))) f3⟩
  rw [c4027]
  simp (disch := omega) only [q_head R h, s_commonByGoingDown R.n0 h.n60 (wf_of R h) hh hc, eb, s_copyTree (a := 18) (h1 := rfl) (hcl := hcl), s_copyTree (a := 19) (h1 := rfl) (hcl := hcl), s_copyTree (a := 20) (h1 := rfl) (hcl := hcl), n7, n18, n19, n20, e3, u4027_0, u4027_1, u4027_4, u4027_7, u4027_8, u4027_9, u4027_12, u4027_13, u4027_16, u4027_17, u4027_20, u4027_21, u4027_22, u4027_25, u4027_26, u4027_29, u4027_32, u4027_35, u4027_36, u4027_39, u4027_40, u4027_41, u4027_44, u4027_47, u4027_50, u4027_51, u4027_54, u4027_55, u4027_56, u4027_59, u4027_62, u4027_65, u4027_66, u4027_69, u4027_72, gt_3_0, ob_4, gt_3_1, ob_13, gt_3_2, gt_17_0, gt_17_1, gt_17_2, ob_17, af_x hd_4027, decide_eq_true_eq, if_true, if_false, f2_ne, f2_eq, up_ne, up_eq, kc_int, kc_ref, kc_retAddr, kc_long, kc_double, af_n, af_v, z0, z1, n_of, nz6, nz4, bI_T, bI_F, bI_01, n_lt, n_le, n_eq, n_add, n_mul, n_sub, n_clamp, n_vp, m_lt, m_le, m_eq, m_eq2, m_ltm, m_add, true_and, and_true, eq_self, if_pos, if_neg, List.length_nil, List.length_cons, Nat.reduceAdd, Nat.reduceLeDiff, Nat.zero_le, not_true_eq_false, not_false_eq_true, true_or, or_true]
def takeS (S : Ab) (o w t : Nat → Nat) : Ab := mkA S.n S.cur S.op S.mg S.ac S.cf S.p S.q S.br (kT o w t) (kO o w t) S.ah S.T S.aT
theorem wS_take (h : wS S) (v2 : ∀ i, i < 24 → w i < 100) (v3 : ∀ i, i < 24 → t i < 100) : wS (takeS S o w t) := wS.mk
  (n1 := h.n1)
  (n60 := h.n60)
  (par := h.par)
  (root := h.root)
  (brn := h.brn)
  (cur6 := h.cur6)
  (curb := h.curb)
  (op3 := h.op3)
  (mgn := h.mgn)
  (ac3 := h.ac3)
  (ahn := h.ahn)
  (Tv := h.Tv)
  (Wv := fun i hi => kT_lt (v2 i hi) (v3 i hi))
  (Ov := fun i hi => kO_le (v2 i hi))
  (aTv := h.aTv)
def tkA (A : Nat → Nat → Int32) : Nat → Nat → Int32 := va_up (va_up A 9 (va_cpy (A 20) (A 9) 0 0 24)) 10 (va_cpy (A 21) (A 10) 0 0 24)
theorem cR_take (R : cR F A 4 S) (m : cmR F A o w t) : cR F (tkA A) 4 (takeS S o w t) := by
  refine cR.mk R.n0 R.cu R.op R.mg R.ac R.cf R.p R.q R.T R.br ?_ ?_ R.ah R.aT
  · intro i hi
    show tkA A 9 i = nI (kT o w t i)
    unfold tkA
    rw [up_ne (by decide), up_eq, cpy_in (by omega) (by omega), show 0 + (i - 0) = i by omega]
    exact m.T i hi
  · intro i hi
    show tkA A 10 i = pk (kO o w t i)
    unfold tkA
    rw [up_eq, cpy_in (by omega) (by omega), show 0 + (i - 0) = i by omega]
    exact m.O i hi
theorem s_take (hcl : 70 < cl) : am_Ca X (d + 1) 4031 [.ref 3] (am_Z cl sl F A L) P = P (.inl none) (am_Z cl sl F (tkA A) L) := by
  rw [c4031]
  simp (disch := omega) only [cp_g (a := 20) (b := 9) (na := 24) (nb := 24) (by decide) (by decide) rfl rfl, cp_g (a := 21) (b := 10) (na := 24) (nb := 24) (by decide) (by decide) rfl rfl, u4031_0, u4031_1, u4031_4, u4031_7, u4031_8, u4031_9, u4031_12, u4031_15, u4031_16, u4031_18, u4031_21, u4031_22, u4031_25, u4031_28, u4031_29, u4031_30, u4031_33, u4031_36, u4031_37, u4031_39, u4031_42, gt_3_2, gt_17_2, gt_3_0, gt_4_6, gt_17_3, gt_4_7, ki_0, ki_24, af_x hd_4031, decide_eq_true_eq, if_true, if_false, f2_ne, f2_eq, up_ne, up_eq, kc_int, kc_ref, kc_retAddr, kc_long, kc_double, af_n, af_v, z0, z1, n_of, nz6, nz4, bI_T, bI_F, bI_01, n_lt, n_le, n_eq, n_add, n_mul, n_sub, n_clamp, n_vp, m_lt, m_le, m_eq, m_eq2, m_ltm, m_add, true_and, and_true, eq_self, if_pos, if_neg, List.length_nil, List.length_cons, Nat.reduceAdd, Nat.reduceLeDiff, Nat.zero_le, not_true_eq_false, not_false_eq_true, true_or, or_true]
  rfl
theorem Fr_take : Fr F A F (tkA A) := Fr_tr (Fr_up (o := 9) (by omega)) (Fr_up (o := 10) (by omega))
/-- taken, and then committed, or open with its conflicts; v: the merged commit plus one -/
def openS (S : Ab) (k v c : Nat) : Ab := mkA S.n S.cur k v S.ac (S.cf + c) S.p S.q S.br S.W S.O S.ah S.T S.aT
def setS (S : Ab) (o w t : Nat → Nat) (k v : Nat) : Ab := if cnt (kC o w t) 24 = 0 then addC (takeS S o w t) v else openS (takeS S o w t) k v (cnt (kC o w t) 24)
theorem wS_set (h : wS S) (hn : S.n < 60) {k v : Nat} (hk : k < 3) (hv : v ≤ S.n) (v2 : ∀ i, i < 24 → w i < 100) (v3 : ∀ i, i < 24 → t i < 100) : wS (setS S o w t k v) := by
  have h1 := wS_take (o := o) h v2 v3
  unfold setS
  split
  · exact wS_addC h1 hn hv
  · exact wS.mk h1.n1 h1.n60 h1.par h1.root h1.brn h1.cur6 h1.curb hk hv h1.ac3 h1.ahn h1.Tv h1.Wv h1.Ov h1.aTv
theorem r_settle (R : cR F A 4 S) (h : wS S) (hn : S.n < 60) (m : cmR F A o w t) {k v : Nat} (hk : k < 3) (hv : v ≤ S.n) (v2 : ∀ i, i < 24 → w i < 100) (v3 : ∀ i, i < 24 → t i < 100) (hcl : 70 < cl) : ∃ F2 A2, (∀ P, am_Ca X (d + 4) 4032 [.ref 3, .int (nI k), .int (pk v)] (am_Z cl sl F A L) P = P (.inl (some (.int (nI (cnt (kC o w t) 24))))) (am_Z cl sl F2 A2 L)) ∧ cR F2 A2 4 (setS S o w t k v) ∧ Fr F A F2 A2 := by
  have R1 := cR_take R m
  have h1 := wS_take (o := o) h v2 v3
  have hc := cnt_le (kC o w t) 24
  have hn1 : (takeS S o w t).n < 60 := hn
  unfold setS
  by_cases e : cnt (kC o w t) 24 = 0
  · rw [if_pos e]
    refine ⟨_, _, fun P => ?_, cR_addC R1 h1 hn1 hv, Fr_tr Fr_take Fr_addC⟩
    rw [c4032]
    simp (disch := omega) only [s_take hcl, m.c, e, q_addC R1 h1 hn1 hcl, u4032_0, u4032_1, u4032_4, u4032_5, u4032_8, u4032_11, u4032_14, u4032_15, u4032_18, u4032_19, u4032_22i, u4032_22r, u4032_23, u4032_24, u4032_25, u4032_26, u4032_29, u4032_30, u4032_33, u4032_34, u4032_37, u4032_38, u4032_41, u4032_42, u4032_45i, u4032_45r, u4032_46, u4032_49, u4032_50, u4032_53, u4032_56, u4032_57, u4032_60, u4032_61, u4032_64, u4032_67, ob_3, gt_3_2, gt_17_5, gt_3_0, ob_4, pt_4_8, pt_4_9, gt_4_13, pt_4_13, ki_0, af_x hd_4032, decide_eq_true_eq, if_true, if_false, f2_ne, f2_eq, up_ne, up_eq, kc_int, kc_ref, kc_retAddr, kc_long, kc_double, af_n, af_v, z0, z1, n_of, nz6, nz4, bI_T, bI_F, bI_01, n_lt, n_le, n_eq, n_add, n_mul, n_sub, n_clamp, n_vp, m_lt, m_le, m_eq, m_eq2, m_ltm, m_add, true_and, and_true, eq_self, if_pos, if_neg, List.length_nil, List.length_cons, Nat.reduceAdd, Nat.reduceLeDiff, Nat.zero_le, not_true_eq_false, not_false_eq_true, true_or, or_true]
  · rw [if_neg e]
    have R2 : cR (am_f2 (am_f2 (am_f2 F 4 8 (nI k)) 4 9 (pk v)) 4 13 (nI (S.cf + cnt (kC o w t) 24))) (tkA A) 4 (openS (takeS S o w t) k v (cnt (kC o w t) 24)) := by
      refine cR.mk R1.n0 R1.cu ?_ ?_ R1.ac ?_ R1.p R1.q R1.T R1.br R1.W R1.O R1.ah R1.aT
      · show am_f2 (am_f2 (am_f2 F 4 8 (nI k)) 4 9 (pk v)) 4 13 (nI (S.cf + cnt (kC o w t) 24)) 4 8 = nI k
        simp [am_f2, va_up]
      · show am_f2 (am_f2 (am_f2 F 4 8 (nI k)) 4 9 (pk v)) 4 13 (nI (S.cf + cnt (kC o w t) 24)) 4 9 = pk v
        simp [am_f2, va_up]
      · show am_f2 (am_f2 (am_f2 F 4 8 (nI k)) 4 9 (pk v)) 4 13 (nI (S.cf + cnt (kC o w t) 24)) 4 13 = nI (S.cf + cnt (kC o w t) 24)
        simp [am_f2, va_up]
    refine ⟨_, _, fun P => ?_, R2, Fr_tr Fr_take (Fr_tr (Fr_tr (Fr_f2 (Or.inl rfl)) (Fr_f2 (Or.inl rfl))) (Fr_f2 (Or.inl rfl)))⟩
    rw [c4032]
    simp (disch := omega) only [s_take hcl, m.c, R.cf, u4032_0, u4032_1, u4032_4, u4032_5, u4032_8, u4032_11, u4032_14, u4032_15, u4032_18, u4032_19, u4032_22i, u4032_22r, u4032_23, u4032_24, u4032_25, u4032_26, u4032_29, u4032_30, u4032_33, u4032_34, u4032_37, u4032_38, u4032_41, u4032_42, u4032_45i, u4032_45r, u4032_46, u4032_49, u4032_50, u4032_53, u4032_56, u4032_57, u4032_60, u4032_61, u4032_64, u4032_67, ob_3, gt_3_2, gt_17_5, gt_3_0, ob_4, pt_4_8, pt_4_9, gt_4_13, pt_4_13, ki_0, af_x hd_4032, decide_eq_true_eq, if_true, if_false, f2_ne, f2_eq, up_ne, up_eq, kc_int, kc_ref, kc_retAddr, kc_long, kc_double, af_n, af_v, z0, z1, n_of, nz6, nz4, bI_T, bI_F, bI_01, n_lt, n_le, n_eq, n_add, n_mul, n_sub, n_clamp, n_vp, m_lt, m_le, m_eq, m_eq2, m_ltm, m_add, true_and, and_true, eq_self, if_pos, if_neg, List.length_nil, List.length_cons, Nat.reduceAdd, Nat.reduceLeDiff, Nat.zero_le, not_true_eq_false, not_false_eq_true, true_or, or_true]
end RQ
