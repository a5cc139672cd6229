/-! REPOSITORY: what is aside comes back; merges; picks -/
section RS
variable {d cl sl : Nat} {X : am_X} {F A : Nat → Nat → Int32} {L : Nat → Nat → Int64} {P : am_Q} {S : Ab}
noncomputable def mayT (S : Ab) : Prop := ¬ S.ac = 0 ∧ S.op = 0 ∧ cnt (kC (S.T (S.ah (S.ac - 1))) (S.aT (S.ac - 1)) S.W) 24 = 0
theorem r_mayTakeBack (R : cR F A 4 S) (h : wS S) (hcl : 70 < cl) : ∃ F2 A2, (∀ P, am_Ca X (d + 4) 4008 [.ref 3] (am_Z cl sl F A L) P = P (.inl (some (.int (bI (mayT S))))) (am_Z cl sl F2 A2 L)) ∧ cR F2 A2 4 S ∧ Fr F A F2 A2 := by
  have h1 := h.op3
  have h2 := h.ac3
  by_cases e : S.ac = 0
  · refine ⟨F, A, fun P => ?_, R, Fr_id⟩
    rw [c4008, bI_f (fun z => z.1 e)]
    simp (disch := omega) only [R.ac, e, R.op, u4008_0, u4008_1, u4008_4, u4008_7, u4008_10, u4008_11, u4008_14, u4008_17, u4008_20, u4008_21, u4008_22, u4008_23, u4008_26, u4008_27, u4008_30, u4008_33, u4008_36, u4008_37, u4008_40, u4008_41, gt_3_0, gt_4_10, gt_4_8, ob_3, gt_3_2, gt_17_5, ki_0, ki_1, af_x hd_4008, decide_eq_true_eq, if_true, if_false, f2_ne, f2_eq, up_ne, up_eq, kc_int, kc_ref, kc_retAddr, kc_long, kc_double, af_n, af_v, z0, z1, n_of, nz6, nz4, bI_T, bI_F, bI_01, n_lt, n_le, n_eq, n_add, n_mul, n_sub, n_clamp, n_vp, m_lt, m_le, m_eq, m_eq2, m_ltm, m_add, true_and, and_true, eq_self, if_pos, if_neg, List.length_nil, List.length_cons, Nat.reduceAdd, Nat.reduceLeDiff, Nat.zero_le, not_true_eq_false, not_false_eq_true, true_or, or_true]
  · by_cases e2 : S.op = 0
    · obtain ⟨a, ha⟩ : ∃ a, S.ac = a + 1 := ⟨S.ac - 1, by omega⟩
      obtain ⟨F2, A2, e3, m, R2, f2⟩ := r_withAside (d := d) (X := X) (cl := cl) (sl := sl) (L := L) R h ha hcl
      refine ⟨F2, A2, fun P => ?_, R2, f2⟩
      have ea : S.ac - 1 = a := by omega
      have hc := cnt_le (kC (S.T (S.ah a)) (S.aT a) S.W) 24
      rw [c4008]
      by_cases e4 : cnt (kC (S.T (S.ah a)) (S.aT a) S.W) 24 = 0
      · rw [bI_t (show mayT S from ⟨e, e2, by rw [ea]; exact e4⟩)]
        simp (disch := omega) only [R.ac, R.op, e3, m.c, u4008_0, u4008_1, u4008_4, u4008_7, u4008_10, u4008_11, u4008_14, u4008_17, u4008_20, u4008_21, u4008_22, u4008_23, u4008_26, u4008_27, u4008_30, u4008_33, u4008_36, u4008_37, u4008_40, u4008_41, gt_3_0, gt_4_10, gt_4_8, ob_3, gt_3_2, gt_17_5, ki_0, ki_1, af_x hd_4008, decide_eq_true_eq, if_true, if_false, f2_ne, f2_eq, up_ne, up_eq, kc_int, kc_ref, kc_retAddr, kc_long, kc_double, af_n, af_v, z0, z1, n_of, nz6, nz4, bI_T, bI_F, bI_01, n_lt, n_le, n_eq, n_add, n_mul, n_sub, n_clamp, n_vp, m_lt, m_le, m_eq, m_eq2, m_ltm, m_add, true_and, and_true, eq_self, if_pos, if_neg, List.length_nil, List.length_cons, Nat.reduceAdd, Nat.reduceLeDiff, Nat.zero_le, not_true_eq_false, not_false_eq_true, true_or, or_true]
      · rw [bI_f (fun z : mayT S => e4 (by have := z.2.2; rw [ea] at this; exact this))]
        simp (disch := omega) only [R.ac, R.op, e3, m.c, u4008_0, u4008_1, u4008_4, u4008_7, u4008_10, u4008_11, u4008_14, u4008_17, u4008_20, u4008_21, u4008_22, u4008_23, u4008_26, u4008_27, u4008_30, u4008_33, u4008_36, u4008_37, u4008_40, u4008_41, gt_3_0, gt_4_10, gt_4_8, ob_3, gt_3_2, gt_17_5, ki_0, ki_1, af_x hd_4008, decide_eq_true_eq, if_true, if_false, f2_ne, f2_eq, up_ne, up_eq, kc_int, kc_ref, kc_retAddr, kc_long, kc_double, af_n, af_v, z0, z1, n_of, nz6, nz4, bI_T, bI_F, bI_01, n_lt, n_le, n_eq, n_add, n_mul, n_sub, n_clamp, n_vp, m_lt, m_le, m_eq, m_eq2, m_ltm, m_add, true_and, and_true, eq_self, if_pos, if_neg, List.length_nil, List.length_cons, Nat.reduceAdd, Nat.reduceLeDiff, Nat.zero_le, not_true_eq_false, not_false_eq_true, true_or, or_true]
    · refine ⟨F, A, fun P => ?_, R, Fr_id⟩
      rw [c4008, bI_f (fun z => e2 z.2.1)]
      simp (disch := omega) only [R.ac, R.op, u4008_0, u4008_1, u4008_4, u4008_7, u4008_10, u4008_11, u4008_14, u4008_17, u4008_20, u4008_21, u4008_22, u4008_23, u4008_26, u4008_27, u4008_30, u4008_33, u4008_36, u4008_37, u4008_40, u4008_41, gt_3_0, gt_4_10, gt_4_8, ob_3, gt_3_2, gt_17_5, ki_0, ki_1, af_x hd_4008, decide_eq_true_eq, if_true, if_false, f2_ne, f2_eq, up_ne, up_eq, kc_int, kc_ref, kc_retAddr, kc_long, kc_double, af_n, af_v, z0, z1, n_of, nz6, nz4, bI_T, bI_F, bI_01, n_lt, n_le, n_eq, n_add, n_mul, n_sub, n_clamp, n_vp, m_lt, m_le, m_eq, m_eq2, m_ltm, m_add, true_and, and_true, eq_self, if_pos, if_neg, List.length_nil, List.length_cons, Nat.reduceAdd, Nat.reduceLeDiff, Nat.zero_le, not_true_eq_false, not_false_eq_true, true_or, or_true]
def popS (S : Ab) : Ab := mkA S.n S.cur S.op S.mg (S.ac - 1) S.cf S.p S.q S.br S.W S.O S.ah S.T S.aT
theorem wS_pop (h : wS S) : wS (popS S) := wS.mk
  (n1 := h.n1)
  (n60 := h.n60)
  (par := h.par)
  (root := h.root)
  (brn := h.brn)
  (cur6 := h.cur6)
  (curb := h.curb)
  (op3 := h.op3)
  (mgn := h.mgn)
  (ac3 := Nat.le_trans (Nat.sub_le _ _) h.ac3)
  (ahn := fun j hj => h.ahn j (Nat.lt_of_lt_of_le hj (Nat.sub_le _ _)))
  (Tv := h.Tv)
  (Wv := h.Wv)
  (Ov := h.Ov)
  (aTv := fun j hj => h.aTv j (Nat.lt_of_lt_of_le hj (Nat.sub_le _ _)))
theorem cR_pop (R : cR F A 4 S) : cR (am_f2 F 4 10 (nI (S.ac - 1))) A 4 (popS S) := by
  refine cR.mk R.n0 R.cu R.op R.mg ?_ R.cf R.p R.q R.T R.br R.W R.O (fun j hj => R.ah j (Nat.lt_of_lt_of_le hj (Nat.sub_le _ _))) (fun j hj => R.aT j (Nat.lt_of_lt_of_le hj (Nat.sub_le _ _)))
  show am_f2 F 4 10 (nI (S.ac - 1)) 4 10 = nI (S.ac - 1)
  simp [am_f2, va_up]
def tbS (S : Ab) : Ab := popS (takeS S (S.T (S.ah (S.ac - 1))) (S.aT (S.ac - 1)) S.W)
theorem wS_tb (h : wS S) (h0 : ¬ S.ac = 0) : wS (tbS S) := wS_pop (wS_take h (h.aTv _ (by omega)) h.Wv)
theorem r_doTakeBack (R : cR F A 4 S) (h : wS S) (h0 : ¬ S.ac = 0) (hcl : 70 < cl) : ∃ F2 A2, (∀ P, am_Ca X (d + 4) 4009 [.ref 3] (am_Z cl sl F A L) P = P (.inl (some (.int (nI (cnt (kB (S.T (S.ah (S.ac - 1))) (S.aT (S.ac - 1)) S.W) 24))))) (am_Z cl sl F2 A2 L)) ∧ cR F2 A2 4 (tbS S) ∧ Fr F A F2 A2 := by
  obtain ⟨a, ha⟩ : ∃ a, S.ac = a + 1 := ⟨S.ac - 1, by omega⟩
  obtain ⟨F2, A2, e3, m, R2, f2⟩ := r_withAside (d := d) (X := X) (cl := cl) (sl := sl) (L := L) R h ha hcl
  have h2 := h.ac3
  have ea : S.ac - 1 = a := by omega
  rw [← ea] at m
  have R3 := cR_pop (cR_take R2 m)
  refine ⟨_, _, fun P => ?_, R3, Fr_tr f2 (Fr_tr Fr_take (Fr_f2 (Or.inl rfl)))⟩
  rw [c4009]
  simp (disch := omega) only [e3, s_take hcl, R2.ac, m.b, u4009_0, u4009_1, u4009_4, u4009_5, u4009_8, u4009_9, u4009_12i, u4009_12r, u4009_13, u4009_16, u4009_17, u4009_18, u4009_21, u4009_22, u4009_25, u4009_28, ob_3, gt_3_0, gt_4_10, pt_4_10, gt_3_2, gt_17_4, ki_1, af_x hd_4009, decide_eq_true_eq, if_true, if_false, f2_ne, f2_eq, up_ne, up_eq, kc_int, kc_ref, kc_retAddr, kc_long, kc_double, af_n, af_v, z0, z1, n_of, nz6, nz4, bI_T, bI_F, bI_01, n_lt, n_le, n_eq, n_add, n_mul, n_sub, n_clamp, n_vp, m_lt, m_le, m_eq, m_eq2, m_ltm, m_add, true_and, and_true, eq_self, if_pos, if_neg, List.length_nil, List.length_cons, Nat.reduceAdd, Nat.reduceLeDiff, Nat.zero_le, not_true_eq_false, not_false_eq_true, true_or, or_true]
  rfl
/-! going on to a branch -/
def mayG (S : Ab) (b : Nat) : Prop := ¬ S.br b = 0 ∧ S.op = 0 ∧ unl S = 0 ∧ ¬ Re S.p S.q (hd S) (S.br b - 1)
theorem br_n (h : wS S) {b : Nat} (hb : b < 6) (h0 : ¬ S.br b = 0) : S.br b - 1 < S.n := by
  have := h.brn b hb
  omega
theorem pk_p (z : Nat) (h : ¬ z = 0) : pk z = nI (z - 1) := by
  unfold pk
  rw [if_neg h]
theorem r_mayGo (R : cR F A 4 S) (h : wS S) {b : Nat} (hb : b < 6) : ∃ A2, (∀ P, am_Ca X (d + 4) 4025 [.ref 3, .int (nI b)] (am_Z cl sl F A L) P = P (.inl (some (.int (bI (mayG S b))))) (am_Z cl sl F A2 L)) ∧ cR F A2 4 S ∧ Fr F A F A2 := by
  by_cases e : S.br b = 0
  · refine ⟨A, fun P => ?_, R, Fr_id⟩
    rw [c4025, bI_f (fun z => z.1 e)]
    simp (disch := omega) only [q_hasBranch R h hb, e, u4025_0, u4025_1, u4025_4, u4025_5, u4025_8, u4025_11, u4025_12, u4025_15, u4025_18, u4025_21, u4025_22, u4025_25, u4025_26, u4025_29, u4025_30, u4025_33, u4025_36, u4025_37, u4025_40, u4025_41, u4025_44, u4025_47, u4025_50, u4025_51, u4025_54, u4025_55, gt_3_0, ob_4, gt_3_1, ob_13, ki_0, ki_1, af_x hd_4025, decide_eq_true_eq, if_true, if_false, f2_ne, f2_eq, up_ne, up_eq, kc_int, kc_ref, kc_retAddr, kc_long, kc_double, af_n, af_v, z0, z1, n_of, nz6, nz4, bI_T, bI_F, bI_01, n_lt, n_le, n_eq, n_add, n_mul, n_sub, n_clamp, n_vp, m_lt, m_le, m_eq, m_eq2, m_ltm, m_add, true_and, and_true, eq_self, if_pos, if_neg, List.length_nil, List.length_cons, Nat.reduceAdd, Nat.reduceLeDiff, Nat.zero_le, not_true_eq_false, not_false_eq_true, true_or, or_true]
  · by_cases e2 : S.op = 0 ∧ unl S = 0
    · refine ⟨_, fun P => ?_, cR_scr (z := 14) (g := ind (Re S.p S.q (hd S)) (A 14)) R (by omega), Fr_up (by omega)⟩
      rw [c4025]
      by_cases e3 : Re S.p S.q (hd S) (S.br b - 1)
      · rw [bI_f (fun z : mayG S b => z.2.2.2 e3)]
        simp (disch := omega) only [q_hasBranch R h hb, e, q_rest R h, e2, q_head R h, q_commitOf R hb, pk_p _ e, q_reached R h (hd_n h) (br_n h hb e), bI_t e3, rcA, u4025_0, u4025_1, u4025_4, u4025_5, u4025_8, u4025_11, u4025_12, u4025_15, u4025_18, u4025_21, u4025_22, u4025_25, u4025_26, u4025_29, u4025_30, u4025_33, u4025_36, u4025_37, u4025_40, u4025_41, u4025_44, u4025_47, u4025_50, u4025_51, u4025_54, u4025_55, gt_3_0, ob_4, gt_3_1, ob_13, ki_0, ki_1, af_x hd_4025, decide_eq_true_eq, if_true, if_false, f2_ne, f2_eq, up_ne, up_eq, kc_int, kc_ref, kc_retAddr, kc_long, kc_double, af_n, af_v, z0, z1, n_of, nz6, nz4, bI_T, bI_F, bI_01, n_lt, n_le, n_eq, n_add, n_mul, n_sub, n_clamp, n_vp, m_lt, m_le, m_eq, m_eq2, m_ltm, m_add, true_and, and_true, eq_self, if_pos, if_neg, List.length_nil, List.length_cons, Nat.reduceAdd, Nat.reduceLeDiff, Nat.zero_le, not_true_eq_false, not_false_eq_true, true_or, or_true]
      · rw [bI_t (show mayG S b from ⟨e, e2.1, e2.2, e3⟩)]
        simp (disch := omega) only [q_hasBranch R h hb, e, q_rest R h, e2, q_head R h, q_commitOf R hb, pk_p _ e, q_reached R h (hd_n h) (br_n h hb e), bI_f e3, rcA, u4025_0, u4025_1, u4025_4, u4025_5, u4025_8, u4025_11, u4025_12, u4025_15, u4025_18, u4025_21, u4025_22, u4025_25, u4025_26, u4025_29, u4025_30, u4025_33, u4025_36, u4025_37, u4025_40, u4025_41, u4025_44, u4025_47, u4025_50, u4025_51, u4025_54, u4025_55, gt_3_0, ob_4, gt_3_1, ob_13, ki_0, ki_1, af_x hd_4025, decide_eq_true_eq, if_true, if_false, f2_ne, f2_eq, up_ne, up_eq, kc_int, kc_ref, kc_retAddr, kc_long, kc_double, af_n, af_v, z0, z1, n_of, nz6, nz4, bI_T, bI_F, bI_01, n_lt, n_le, n_eq, n_add, n_mul, n_sub, n_clamp, n_vp, m_lt, m_le, m_eq, m_eq2, m_ltm, m_add, true_and, and_true, eq_self, if_pos, if_neg, List.length_nil, List.length_cons, Nat.reduceAdd, Nat.reduceLeDiff, Nat.zero_le, not_true_eq_false, not_false_eq_true, true_or, or_true]
    · refine ⟨A, fun P => ?_, R, Fr_id⟩
      rw [c4025, bI_f (fun z => e2 ⟨z.2.1, z.2.2.1⟩)]
      simp (disch := omega) only [q_hasBranch R h hb, e, q_rest R h, e2, u4025_0, u4025_1, u4025_4, u4025_5, u4025_8, u4025_11, u4025_12, u4025_15, u4025_18, u4025_21, u4025_22, u4025_25, u4025_26, u4025_29, u4025_30, u4025_33, u4025_36, u4025_37, u4025_40, u4025_41, u4025_44, u4025_47, u4025_50, u4025_51, u4025_54, u4025_55, gt_3_0, ob_4, gt_3_1, ob_13, ki_0, ki_1, af_x hd_4025, decide_eq_true_eq, if_true, if_false, f2_ne, f2_eq, up_ne, up_eq, kc_int, kc_ref, kc_retAddr, kc_long, kc_double, af_n, af_v, z0, z1, n_of, nz6, nz4, bI_T, bI_F, bI_01, n_lt, n_le, n_eq, n_add, n_mul, n_sub, n_clamp, n_vp, m_lt, m_le, m_eq, m_eq2, m_ltm, m_add, true_and, and_true, eq_self, if_pos, if_neg, List.length_nil, List.length_cons, Nat.reduceAdd, Nat.reduceLeDiff, Nat.zero_le, not_true_eq_false, not_false_eq_true, true_or, or_true]
theorem r_isAhead (R : cR F A 4 S) (h : wS S) {c : Nat} (hc : c < S.n) : am_Ca X (d + 4) 4026 [.ref 3, .int (nI c)] (am_Z cl sl F A L) P = P (.inl (some (.int (bI (Re S.p S.q c (hd S)))))) (am_Z cl sl F (rcA A (Re S.p S.q c)) L) := by
  rw [c4026]
  simp (disch := omega) only [q_head R h, q_reached R h hc (hd_n h), u4026_0, u4026_1, u4026_4, u4026_5, u4026_8, u4026_9, u4026_10, u4026_13, u4026_16, u4026_19, gt_3_1, gt_3_0, ob_4, ob_13, af_x hd_4026, decide_eq_true_eq, if_true, if_false, f2_ne, f2_eq, up_ne, up_eq, kc_int, kc_ref, kc_retAddr, kc_long, kc_double, af_n, af_v, z0, z1, n_of, nz6, nz4, bI_T, bI_F, bI_01, n_lt, n_le, n_eq, n_add, n_mul, n_sub, n_clamp, n_vp, m_lt, m_le, m_eq, m_eq2, m_ltm, m_add, true_and, and_true, eq_self, if_pos, if_neg, List.length_nil, List.length_cons, Nat.reduceAdd, Nat.reduceLeDiff, Nat.zero_le, not_true_eq_false, not_false_eq_true, true_or, or_true]
theorem cR_rc (R : cR F A 4 S) (Z : Nat → Prop) : cR F (rcA A Z) 4 S := cR_scr R (by omega)
theorem Fr_rc (Z : Nat → Prop) : Fr F A F (rcA A Z) := Fr_up (by omega)
def mayM (S : Ab) (b : Nat) : Prop := mayG S b ∧ (Re S.p S.q (S.br b - 1) (hd S) ∨ S.n < 60)
theorem r_mayMerge (R : cR F A 4 S) (h : wS S) {b : Nat} (hb : b < 6) : ∃ A2, (∀ P, am_Ca X (d + 5) 4016 [.ref 3, .int (nI b)] (am_Z cl sl F A L) P = P (.inl (some (.int (bI (mayM S b))))) (am_Z cl sl F A2 L)) ∧ cR F A2 4 S ∧ Fr F A F A2 := by
  obtain ⟨A1, e1, R1, f1⟩ := r_mayGo (d := d) (X := X) (cl := cl) (sl := sl) (L := L) R h hb
  by_cases e : mayG S b
  · have h0 := e.1
    have hc := br_n h hb h0
    refine ⟨_, fun P => ?_, cR_rc R1 (Re S.p S.q (S.br b - 1)), Fr_tr f1 (Fr_rc _)⟩
    rw [c4016]
    by_cases e3 : Re S.p S.q (S.br b - 1) (hd S)
    · rw [bI_t (show mayM S b from ⟨e, Or.inl e3⟩)]
      simp (disch := omega) only [e1, bI_t e, q_commitOf R1 hb, pk_p _ h0, r_isAhead R1 h hc, bI_t e3, u4016_0, u4016_1, u4016_2, u4016_5, u4016_8, u4016_9, u4016_10, u4016_13, u4016_14, u4016_17, u4016_20, u4016_23, u4016_24, u4016_27, u4016_30, u4016_33, u4016_34, u4016_37, u4016_38, ob_3, gt_3_0, ob_4, ki_0, ki_1, af_x hd_4016, decide_eq_true_eq, if_true, if_false, f2_ne, f2_eq, up_ne, up_eq, kc_int, kc_ref, kc_retAddr, kc_long, kc_double, af_n, af_v, z0, z1, n_of, nz6, nz4, bI_T, bI_F, bI_01, n_lt, n_le, n_eq, n_add, n_mul, n_sub, n_clamp, n_vp, m_lt, m_le, m_eq, m_eq2, m_ltm, m_add, true_and, and_true, eq_self, if_pos, if_neg, List.length_nil, List.length_cons, Nat.reduceAdd, Nat.reduceLeDiff, Nat.zero_le, not_true_eq_false, not_false_eq_true, true_or, or_true]
    · by_cases e4 : S.n < 60
      · rw [bI_t (show mayM S b from ⟨e, Or.inr e4⟩)]
        simp (disch := omega) only [e1, bI_t e, q_commitOf R1 hb, pk_p _ h0, r_isAhead R1 h hc, bI_f e3, q_room (cR_rc R1 _) h, e4, u4016_0, u4016_1, u4016_2, u4016_5, u4016_8, u4016_9, u4016_10, u4016_13, u4016_14, u4016_17, u4016_20, u4016_23, u4016_24, u4016_27, u4016_30, u4016_33, u4016_34, u4016_37, u4016_38, ob_3, gt_3_0, ob_4, ki_0, ki_1, af_x hd_4016, decide_eq_true_eq, if_true, if_false, f2_ne, f2_eq, up_ne, up_eq, kc_int, kc_ref, kc_retAddr, kc_long, kc_double, af_n, af_v, z0, z1, n_of, nz6, nz4, bI_T, bI_F, bI_01, n_lt, n_le, n_eq, n_add, n_mul, n_sub, n_clamp, n_vp, m_lt, m_le, m_eq, m_eq2, m_ltm, m_add, true_and, and_true, eq_self, if_pos, if_neg, List.length_nil, List.length_cons, Nat.reduceAdd, Nat.reduceLeDiff, Nat.zero_le, not_true_eq_false, not_false_eq_true, true_or, or_true]
      · rw [bI_f (fun z : mayM S b => z.2.elim e3 e4)]
        simp (disch := omega) only [e1, bI_t e, q_commitOf R1 hb, pk_p _ h0, r_isAhead R1 h hc, bI_f e3, q_room (cR_rc R1 _) h, e4, u4016_0, u4016_1, u4016_2, u4016_5, u4016_8, u4016_9, u4016_10, u4016_13, u4016_14, u4016_17, u4016_20, u4016_23, u4016_24, u4016_27, u4016_30, u4016_33, u4016_34, u4016_37, u4016_38, ob_3, gt_3_0, ob_4, ki_0, ki_1, af_x hd_4016, decide_eq_true_eq, if_true, if_false, f2_ne, f2_eq, up_ne, up_eq, kc_int, kc_ref, kc_retAddr, kc_long, kc_double, af_n, af_v, z0, z1, n_of, nz6, nz4, bI_T, bI_F, bI_01, n_lt, n_le, n_eq, n_add, n_mul, n_sub, n_clamp, n_vp, m_lt, m_le, m_eq, m_eq2, m_ltm, m_add, true_and, and_true, eq_self, if_pos, if_neg, List.length_nil, List.length_cons, Nat.reduceAdd, Nat.reduceLeDiff, Nat.zero_le, not_true_eq_false, not_false_eq_true, true_or, or_true]
  · refine ⟨A1, fun P => ?_, R1, f1⟩
    rw [c4016, bI_f (fun z => e z.1)]
    simp (disch := omega) only [e1, bI_f e, u4016_0, u4016_1, u4016_2, u4016_5, u4016_8, u4016_9, u4016_10, u4016_13, u4016_14, u4016_17, u4016_20, u4016_23, u4016_24, u4016_27, u4016_30, u4016_33, u4016_34, u4016_37, u4016_38, ob_3, gt_3_0, ob_4, ki_0, ki_1, af_x hd_4016, decide_eq_true_eq, if_true, if_false, f2_ne, f2_eq, up_ne, up_eq, kc_int, kc_ref, kc_retAddr, kc_long, kc_double, af_n, af_v, z0, z1, n_of, nz6, nz4, bI_T, bI_F, bI_01, n_lt, n_le, n_eq, n_add, n_mul, n_sub, n_clamp, n_vp, m_lt, m_le, m_eq, m_eq2, m_ltm, m_add, true_and, and_true, eq_self, if_pos, if_neg, List.length_nil, List.length_cons, Nat.reduceAdd, Nat.reduceLeDiff, Nat.zero_le, not_true_eq_false, not_false_eq_true, true_or, or_true]
noncomputable def mrgS (S : Ab) (b : Nat) : Ab := @ite _ (Re S.p S.q (S.br b - 1) (hd S)) (Classical.propDecidable _) (stand S (S.br b - 1)) (setS S (S.T (basN S (S.br b - 1))) (S.T (S.br b - 1)) (S.T (hd S)) 1 (S.br b))
noncomputable def mrgN (S : Ab) (b : Nat) : Nat := @ite _ (Re S.p S.q (S.br b - 1) (hd S)) (Classical.propDecidable _) 0 (cnt (kC (S.T (basN S (S.br b - 1))) (S.T (S.br b - 1)) (S.T (hd S))) 24)
theorem wS_mrg (h : wS S) {b : Nat} (hb : b < 6) (hm : mayM S b) : wS (mrgS S b) := by
  have hc := br_n h hb hm.1.1
  unfold mrgS
  by_cases e : Re S.p S.q (S.br b - 1) (hd S)
  · rw [if_pos e]; exact wS_stand h hc
  · rw [if_neg e]
    exact wS_set h (hm.2.resolve_left e) (by decide) (h.brn b hb) (h.Tv _ hc) (h.Tv _ (hd_n h))
theorem r_doMerge (R : cR F A 4 S) (h : wS S) {b : Nat} (hb : b < 6) (hm : mayM S b) (hcl : 70 < cl) : ∃ F2 A2, (∀ P, am_Ca X (d + 5) 4017 [.ref 3, .int (nI b)] (am_Z cl sl F A L) P = P (.inl (some (.int (nI (mrgN S b))))) (am_Z cl sl F2 A2 L)) ∧ cR F2 A2 4 (mrgS S b) ∧ Fr F A F2 A2 := by
  have h0 := hm.1.1
  have hc := br_n h hb h0
  have R1 := cR_rc R (Re S.p S.q (S.br b - 1))
  unfold mrgS mrgN
  by_cases e3 : Re S.p S.q (S.br b - 1) (hd S)
  · rw [if_pos e3, if_pos e3]
    refine ⟨_, _, fun P => ?_, cR_stand R1 h hc, Fr_tr (Fr_rc _) Fr_stand⟩
    rw [c4017]
    simp (disch := omega) only [q_commitOf R hb, pk_p _ h0, r_isAhead R h hc, bI_t e3, q_stand R1 h hc hcl, u4017_0, u4017_1, u4017_4, u4017_5, u4017_8, u4017_9, u4017_10, u4017_11, u4017_14, u4017_17, u4017_18, u4017_21, u4017_22, u4017_25, u4017_26, u4017_27, u4017_28, u4017_29, u4017_32, u4017_33, u4017_34, u4017_35, u4017_38, gt_3_0, ob_4, ob_3, ki_0, ki_1, af_x hd_4017, decide_eq_true_eq, if_true, if_false, f2_ne, f2_eq, up_ne, up_eq, kc_int, kc_ref, kc_retAddr, kc_long, kc_double, af_n, af_v, z0, z1, n_of, nz6, nz4, bI_T, bI_F, bI_01, n_lt, n_le, n_eq, n_add, n_mul, n_sub, n_clamp, n_vp, m_lt, m_le, m_eq, m_eq2, m_ltm, m_add, true_and, and_true, eq_self, if_pos, if_neg, List.length_nil, List.length_cons, Nat.reduceAdd, Nat.reduceLeDiff, Nat.zero_le, not_true_eq_false, not_false_eq_true, true_or, or_true]
  · rw [if_neg e3, if_neg e3]
    have hn := hm.2.resolve_left e3
    obtain ⟨F2, A2, e2, m, R2, f2⟩ := r_withHead (d := d + 1) (X := X) (cl := cl) (sl := sl) (L := L) R1 h hc hcl
    obtain ⟨F3, A3, e4, R4, f4⟩ := r_settle (d := d) (X := X) (cl := cl) (sl := sl) (L := L) R2 h hn m (k := 1) (v := S.br b) (by decide) (h.brn b hb) (h.Tv _ hc) (h.Tv _ (hd_n h)) hcl
    rw [pk_p _ h0] at e4
    refine ⟨F3, A3, fun P => ?_, R4, Fr_tr (Fr_rc _) (Fr_tr f2 f4)⟩
    rw [c4017]
    simp (disch := omega) only [q_commitOf R hb, pk_p _ h0, r_isAhead R h hc, bI_f e3, e2, e4, u4017_0, u4017_1, u4017_4, u4017_5, u4017_8, u4017_9, u4017_10, u4017_11, u4017_14, u4017_17, u4017_18, u4017_21, u4017_22, u4017_25, u4017_26, u4017_27, u4017_28, u4017_29, u4017_32, u4017_33, u4017_34, u4017_35, u4017_38, gt_3_0, ob_4, ob_3, ki_0, ki_1, af_x hd_4017, decide_eq_true_eq, if_true, if_false, f2_ne, f2_eq, up_ne, up_eq, kc_int, kc_ref, kc_retAddr, kc_long, kc_double, af_n, af_v, z0, z1, n_of, nz6, nz4, bI_T, bI_F, bI_01, n_lt, n_le, n_eq, n_add, n_mul, n_sub, n_clamp, n_vp, m_lt, m_le, m_eq, m_eq2, m_ltm, m_add, true_and, and_true, eq_self, if_pos, if_neg, List.length_nil, List.length_cons, Nat.reduceAdd, Nat.reduceLeDiff, Nat.zero_le, not_true_eq_false, not_false_eq_true, true_or, or_true]
/-! picks -/
def nothing (S : Ab) (c k : Nat) : Prop := cnt (kB (fromT S c k) (toT S c k) S.W) 24 = 0 ∧ cnt (kC (fromT S c k) (toT S c k) S.W) 24 = 0
def mayP (S : Ab) (c k : Nat) : Prop := c < S.n ∧ ¬ c = 0 ∧ (S.op = 0 ∧ unl S = 0) ∧ S.n < 60 ∧ ¬ nothing S c k
theorem r_mayPick (R : cR F A 4 S) (h : wS S) {c k : Nat} (hc6 : c < 60) (hk : k < 2) (hcl : 70 < cl) : ∃ F2 A2, (∀ P, am_Ca X (d + 4) 4018 [.ref 3, .int (nI c), .int (nI k)] (am_Z cl sl F A L) P = P (.inl (some (.int (bI (mayP S c k))))) (am_Z cl sl F2 A2 L)) ∧ cR F2 A2 4 S ∧ Fr F A F2 A2 := by
  have h6 := h.n60
  by_cases e1 : c < S.n
  · have g1 : ∀ {d : Nat} {Q : am_Q}, am_Ca X (d + 1) 5003 [.ref 4, .int (nI c)] (am_Z cl sl F A L) Q = Q (.inl (some (.int (nI 1)))) (am_Z cl sl F A L) := fun {d} {Q} => s_hasCommit_t R.n0 h6 e1
    by_cases e2 : c = 0
    · refine ⟨F, A, fun P => ?_, R, Fr_id⟩
      rw [c4018, bI_f (fun z : mayP S c k => z.2.1 e2)]
      simp (disch := omega) only [g1, u4018_0, u4018_1, u4018_4, u4018_5, u4018_8, u4018_11, u4018_12, u4018_15, u4018_16, u4018_19, u4018_22, u4018_25, u4018_26, u4018_29, u4018_32, u4018_35, u4018_36, u4018_37, u4018_38, u4018_39, u4018_40, u4018_43, u4018_44, u4018_47, u4018_50, u4018_53, u4018_54, u4018_57, u4018_58, gt_3_0, ob_4, ob_3, gt_3_2, ob_17, ki_0, ki_1, af_x hd_4018, decide_eq_true_eq, if_true, if_false, f2_ne, f2_eq, up_ne, up_eq, kc_int, kc_ref, kc_retAddr, kc_long, kc_double, af_n, af_v, z0, z1, n_of, nz6, nz4, bI_T, bI_F, bI_01, n_lt, n_le, n_eq, n_add, n_mul, n_sub, n_clamp, n_vp, m_lt, m_le, m_eq, m_eq2, m_ltm, m_add, true_and, and_true, eq_self, if_pos, if_neg, List.length_nil, List.length_cons, Nat.reduceAdd, Nat.reduceLeDiff, Nat.zero_le, not_true_eq_false, not_false_eq_true, true_or, or_true]
    · by_cases e3 : S.op = 0 ∧ unl S = 0
      · by_cases e4 : S.n < 60
        · obtain ⟨F2, A2, e5, m, R2, f2, -⟩ := r_withWork (d := d) (X := X) (cl := cl) (sl := sl) (L := L) R h e1 e2 hk hcl
          refine ⟨F2, A2, fun P => ?_, R2, f2⟩
          have c1 := cnt_le (kB (fromT S c k) (toT S c k) S.W) 24
          have c2 := cnt_le (kC (fromT S c k) (toT S c k) S.W) 24
          rw [c4018]
          by_cases e6 : nothing S c k
          · rw [bI_f (fun z : mayP S c k => z.2.2.2.2 e6)]
            have e6' : cnt (kB (fromT S c k) (toT S c k) S.W) 24 = 0 ∧ cnt (kC (fromT S c k) (toT S c k) S.W) 24 = 0 := e6
            simp (disch := omega) only [g1, q_rest R h, e3, q_room R h, e5, s_isEmpty m.b m.c c1 c2, e6', u4018_0, u4018_1, u4018_4, u4018_5, u4018_8, u4018_11, u4018_12, u4018_15, u4018_16, u4018_19, u4018_22, u4018_25, u4018_26, u4018_29, u4018_32, u4018_35, u4018_36, u4018_37, u4018_38, u4018_39, u4018_40, u4018_43, u4018_44, u4018_47, u4018_50, u4018_53, u4018_54, u4018_57, u4018_58, gt_3_0, ob_4, ob_3, gt_3_2, ob_17, ki_0, ki_1, af_x hd_4018, decide_eq_true_eq, if_true, if_false, f2_ne, f2_eq, up_ne, up_eq, kc_int, kc_ref, kc_retAddr, kc_long, kc_double, af_n, af_v, z0, z1, n_of, nz6, nz4, bI_T, bI_F, bI_01, n_lt, n_le, n_eq, n_add, n_mul, n_sub, n_clamp, n_vp, m_lt, m_le, m_eq, m_eq2, m_ltm, m_add, true_and, and_true, eq_self, if_pos, if_neg, List.length_nil, List.length_cons, Nat.reduceAdd, Nat.reduceLeDiff, Nat.zero_le, not_true_eq_false, not_false_eq_true, true_or, or_true]
          · rw [bI_t (show mayP S c k from ⟨e1, e2, e3, e4, e6⟩)]
            have e6' : ¬ (cnt (kB (fromT S c k) (toT S c k) S.W) 24 = 0 ∧ cnt (kC (fromT S c k) (toT S c k) S.W) 24 = 0) := e6
            simp (disch := omega) only [g1, q_rest R h, e3, q_room R h, e5, s_isEmpty m.b m.c c1 c2, e6', u4018_0, u4018_1, u4018_4, u4018_5, u4018_8, u4018_11, u4018_12, u4018_15, u4018_16, u4018_19, u4018_22, u4018_25, u4018_26, u4018_29, u4018_32, u4018_35, u4018_36, u4018_37, u4018_38, u4018_39, u4018_40, u4018_43, u4018_44, u4018_47, u4018_50, u4018_53, u4018_54, u4018_57, u4018_58, gt_3_0, ob_4, ob_3, gt_3_2, ob_17, ki_0, ki_1, af_x hd_4018, decide_eq_true_eq, if_true, if_false, f2_ne, f2_eq, up_ne, up_eq, kc_int, kc_ref, kc_retAddr, kc_long, kc_double, af_n, af_v, z0, z1, n_of, nz6, nz4, bI_T, bI_F, bI_01, n_lt, n_le, n_eq, n_add, n_mul, n_sub, n_clamp, n_vp, m_lt, m_le, m_eq, m_eq2, m_ltm, m_add, true_and, and_true, eq_self, if_pos, if_neg, List.length_nil, List.length_cons, Nat.reduceAdd, Nat.reduceLeDiff, Nat.zero_le, not_true_eq_false, not_false_eq_true, true_or, or_true]
        · refine ⟨F, A, fun P => ?_, R, Fr_id⟩
          rw [c4018, bI_f (fun z : mayP S c k => e4 z.2.2.2.1)]
          simp (disch := omega) only [g1, q_rest R h, e3, q_room R h, e4, u4018_0, u4018_1, u4018_4, u4018_5, u4018_8, u4018_11, u4018_12, u4018_15, u4018_16, u4018_19, u4018_22, u4018_25, u4018_26, u4018_29, u4018_32, u4018_35, u4018_36, u4018_37, u4018_38, u4018_39, u4018_40, u4018_43, u4018_44, u4018_47, u4018_50, u4018_53, u4018_54, u4018_57, u4018_58, gt_3_0, ob_4, ob_3, gt_3_2, ob_17, ki_0, ki_1, af_x hd_4018, decide_eq_true_eq, if_true, if_false, f2_ne, f2_eq, up_ne, up_eq, kc_int, kc_ref, kc_retAddr, kc_long, kc_double, af_n, af_v, z0, z1, n_of, nz6, nz4, bI_T, bI_F, bI_01, n_lt, n_le, n_eq, n_add, n_mul, n_sub, n_clamp, n_vp, m_lt, m_le, m_eq, m_eq2, m_ltm, m_add, true_and, and_true, eq_self, if_pos, if_neg, List.length_nil, List.length_cons, Nat.reduceAdd, Nat.reduceLeDiff, Nat.zero_le, not_true_eq_false, not_false_eq_true, true_or, or_true]
      · refine ⟨F, A, fun P => ?_, R, Fr_id⟩
        rw [c4018, bI_f (fun z : mayP S c k => e3 z.2.2.1)]
        simp (disch := omega) only [g1, q_rest R h, e3, u4018_0, u4018_1, u4018_4, u4018_5, u4018_8, u4018_11, u4018_12, u4018_15, u4018_16, u4018_19, u4018_22, u4018_25, u4018_26, u4018_29, u4018_32, u4018_35, u4018_36, u4018_37, u4018_38, u4018_39, u4018_40, u4018_43, u4018_44, u4018_47, u4018_50, u4018_53, u4018_54, u4018_57, u4018_58, gt_3_0, ob_4, ob_3, gt_3_2, ob_17, ki_0, ki_1, af_x hd_4018, decide_eq_true_eq, if_true, if_false, f2_ne, f2_eq, up_ne, up_eq, kc_int, kc_ref, kc_retAddr, kc_long, kc_double, af_n, af_v, z0, z1, n_of, nz6, nz4, bI_T, bI_F, bI_01, n_lt, n_le, n_eq, n_add, n_mul, n_sub, n_clamp, n_vp, m_lt, m_le, m_eq, m_eq2, m_ltm, m_add, true_and, and_true, eq_self, if_pos, if_neg, List.length_nil, List.length_cons, Nat.reduceAdd, Nat.reduceLeDiff, Nat.zero_le, not_true_eq_false, not_false_eq_true, true_or, or_true]
  · refine ⟨F, A, fun P => ?_, R, Fr_id⟩
    have g1 : ∀ {d : Nat} {Q : am_Q}, am_Ca X (d + 1) 5003 [.ref 4, .int (nI c)] (am_Z cl sl F A L) Q = Q (.inl (some (.int (nI 0)))) (am_Z cl sl F A L) := fun {d} {Q} => s_hasCommit_f R.n0 h6 (Or.inr (by rw [n_le (by omega) (by omega)]; omega))
    rw [c4018, bI_f (fun z : mayP S c k => e1 z.1)]
    simp (disch := omega) only [g1, u4018_0, u4018_1, u4018_4, u4018_5, u4018_8, u4018_11, u4018_12, u4018_15, u4018_16, u4018_19, u4018_22, u4018_25, u4018_26, u4018_29, u4018_32, u4018_35, u4018_36, u4018_37, u4018_38, u4018_39, u4018_40, u4018_43, u4018_44, u4018_47, u4018_50, u4018_53, u4018_54, u4018_57, u4018_58, gt_3_0, ob_4, ob_3, gt_3_2, ob_17, ki_0, ki_1, af_x hd_4018, decide_eq_true_eq, if_true, if_false, f2_ne, f2_eq, up_ne, up_eq, kc_int, kc_ref, kc_retAddr, kc_long, kc_double, af_n, af_v, z0, z1, n_of, nz6, nz4, bI_T, bI_F, bI_01, n_lt, n_le, n_eq, n_add, n_mul, n_sub, n_clamp, n_vp, m_lt, m_le, m_eq, m_eq2, m_ltm, m_add, true_and, and_true, eq_self, if_pos, if_neg, List.length_nil, List.length_cons, Nat.reduceAdd, Nat.reduceLeDiff, Nat.zero_le, not_true_eq_false, not_false_eq_true, true_or, or_true]
def pickS (S : Ab) (c k : Nat) : Ab := setS S (fromT S c k) (toT S c k) S.W 2 0
theorem wS_pick (h : wS S) {c k : Nat} (hm : mayP S c k) : wS (pickS S c k) := wS_set h hm.2.2.2.1 (by decide) (Nat.zero_le _) (toT_lt h hm.1 hm.2.1) h.Wv
theorem r_doPick (R : cR F A 4 S) (h : wS S) {c k : Nat} (hk : k < 2) (hm : mayP S c k) (hcl : 70 < cl) : ∃ F2 A2, (∀ P, am_Ca X (d + 5) 4019 [.ref 3, .int (nI c), .int (nI k)] (am_Z cl sl F A L) P = P (.inl (some (.int (nI (cnt (kC (fromT S c k) (toT S c k) S.W) 24))))) (am_Z cl sl F2 A2 L)) ∧ cR F2 A2 4 (pickS S c k) ∧ Fr F A F2 A2 := by
  obtain ⟨F2, A2, e5, m, R2, f2, -⟩ := r_withWork (d := d + 1) (X := X) (cl := cl) (sl := sl) (L := L) R h hm.1 hm.2.1 hk hcl
  obtain ⟨F3, A3, e4, R4, f4⟩ := r_settle (d := d) (X := X) (cl := cl) (sl := sl) (L := L) R2 h hm.2.2.2.1 m (k := 2) (v := 0) (by decide) (Nat.zero_le _) (toT_lt h hm.1 hm.2.1) h.Wv hcl
  rw [pk_0] at e4
  refine ⟨F3, A3, fun P => ?_, R4, Fr_tr f2 f4⟩
  rw [c4019]
  simp (disch := omega) only [e5, e4, u4019_0, u4019_1, u4019_2, u4019_3, u4019_6, u4019_7, u4019_8, u4019_9, u4019_12, ob_3, ki_m1, ki_2, af_x hd_4019, decide_eq_true_eq, if_true, if_false, f2_ne, f2_eq, up_ne, up_eq, kc_int, kc_ref, kc_retAddr, kc_long, kc_double, af_n, af_v, z0, z1, n_of, nz6, nz4, bI_T, bI_F, bI_01, n_lt, n_le, n_eq, n_add, n_mul, n_sub, n_clamp, n_vp, m_lt, m_le, m_eq, m_eq2, m_ltm, m_add, true_and, and_true, eq_self, if_pos, if_neg, List.length_nil, List.length_cons, Nat.reduceAdd, Nat.reduceLeDiff, Nat.zero_le, not_true_eq_false, not_false_eq_true, true_or, or_true]
end RS
