/-! REPOSITORY (object 3): what may be done, and the doing -/
theorem i01 (p : Prop) [Decidable p] : (nI (if p then 1 else 0) = nI 0) = ¬ p := by
  by_cases h : p
  · rw [if_pos h, n_eq (by omega) (by omega)]; simp [h]
  · rw [if_neg h]; simp [h]
theorem i10 (p : Prop) [Decidable p] : (nI (if p then 0 else 1) = nI 0) = p := by
  by_cases h : p
  · rw [if_pos h]; simp [h]
  · rw [if_neg h, n_eq (by omega) (by omega)]; simp [h]
theorem b01 (p : Prop) : (bI p = nI 0) = ¬ p := by
  by_cases h : p
  · rw [bI_t h, n_eq (by omega) (by omega)]; simp [h]
  · rw [bI_f h]; simp [h]
section RP
variable {d cl sl : Nat} {X : am_X} {F A : Nat → Nat → Int32} {L : Nat → Nat → Int64} {P : am_Q} {S : Ab}
theorem r_doEdit (R : cR F A 4 S) (h : wS S) {i v : Nat} (hi : i < 24) (hv : v < 100) : ∃ F2 A2, (∀ P, am_Ca X (d + 4) 4002 [.ref 3, .int (nI i), .int (nI v)] (am_Z cl sl F A L) P = P (.inl (some (.int (nI (unl (setL S i v)))))) (am_Z cl sl F2 A2 L)) ∧ cR F2 A2 4 (setL S i v) ∧ Fr F A F2 A2 := by
  refine ⟨F, _, fun P => ?_, cR_setL R, Fr_tr (Fr_u2 (o := 9) (by omega)) (Fr_u2 (o := 10) (by omega))⟩
  rw [c4002]
  simp (disch := omega) only [s_setLine hi, q_changed (cR_setL R) (wS_setL h hv), u4002_0, u4002_1, u4002_4, u4002_5, u4002_6, u4002_9, u4002_10, u4002_13, u4002_16, gt_3_0, ob_4, af_x hd_4002, decide_eq_true_eq, if_true, if_false, f2_ne, f2_eq, up_ne, up_eq, kc_int, kc_ref, kc_retAddr, kc_long, kc_double, af_n, af_v, z0, z1, n_of, nz6, nz4, bI_T, bI_F, bI_01, n_lt, n_le, n_eq, n_add, n_mul, n_sub, n_clamp, n_vp, m_lt, m_le, m_eq, m_eq2, m_ltm, m_add, true_and, and_true, eq_self, if_pos, if_neg, List.length_nil, List.length_cons, Nat.reduceAdd, Nat.reduceLeDiff, Nat.zero_le, not_true_eq_false, not_false_eq_true, true_or, or_true]
def mayC (S : Ab) : Prop := (S.op = 1 ∨ ¬ unl S = 0) ∧ nco S = 0 ∧ S.n < 60
theorem r_mayCommit (R : cR F A 4 S) (h : wS S) : am_Ca X (d + 4) 4003 [.ref 3] (am_Z cl sl F A L) P = P (.inl (some (.int (bI (mayC S))))) (am_Z cl sl F A L) := by
  rw [c4003]
  have h1 := h.op3
  have h2 : unl S ≤ 24 := cnt_le _ _
  have h3 : nco S ≤ 24 := cnt_le _ _
  by_cases hm : mayC S
  · rw [bI_t hm]
    obtain ⟨ha, hb, hc⟩ := hm
    by_cases e : S.op = 1
    · simp (disch := omega) only [R.op, e, q_changed R h, q_conf R h, hb, q_room R h, hc, u4003_0, u4003_1, u4003_4, u4003_7, u4003_8, u4003_11, u4003_12, u4003_15, u4003_18, u4003_21, u4003_22, u4003_25, u4003_26, u4003_27, u4003_28, u4003_31, u4003_32, u4003_35, u4003_38, u4003_41, u4003_42, u4003_45, u4003_48, u4003_51, u4003_52, u4003_55, u4003_56, gt_3_0, gt_4_8, ob_4, ki_0, ki_1, af_x hd_4003, decide_eq_true_eq, if_true, if_false, f2_ne, f2_eq, up_ne, up_eq, kc_int, kc_ref, kc_retAddr, kc_long, kc_double, af_n, af_v, z0, z1, n_of, nz6, nz4, bI_T, bI_F, bI_01, n_lt, n_le, n_eq, n_add, n_mul, n_sub, n_clamp, n_vp, m_lt, m_le, m_eq, m_eq2, m_ltm, m_add, true_and, and_true, eq_self, if_pos, if_neg, List.length_nil, List.length_cons, Nat.reduceAdd, Nat.reduceLeDiff, Nat.zero_le, not_true_eq_false, not_false_eq_true, true_or, or_true]
    · have hu : ¬ unl S = 0 := ha.resolve_left e
      simp (disch := omega) only [R.op, q_changed R h, q_conf R h, hb, q_room R h, hc, u4003_0, u4003_1, u4003_4, u4003_7, u4003_8, u4003_11, u4003_12, u4003_15, u4003_18, u4003_21, u4003_22, u4003_25, u4003_26, u4003_27, u4003_28, u4003_31, u4003_32, u4003_35, u4003_38, u4003_41, u4003_42, u4003_45, u4003_48, u4003_51, u4003_52, u4003_55, u4003_56, gt_3_0, gt_4_8, ob_4, ki_0, ki_1, af_x hd_4003, decide_eq_true_eq, if_true, if_false, f2_ne, f2_eq, up_ne, up_eq, kc_int, kc_ref, kc_retAddr, kc_long, kc_double, af_n, af_v, z0, z1, n_of, nz6, nz4, bI_T, bI_F, bI_01, n_lt, n_le, n_eq, n_add, n_mul, n_sub, n_clamp, n_vp, m_lt, m_le, m_eq, m_eq2, m_ltm, m_add, true_and, and_true, eq_self, if_pos, if_neg, List.length_nil, List.length_cons, Nat.reduceAdd, Nat.reduceLeDiff, Nat.zero_le, not_true_eq_false, not_false_eq_true, true_or, or_true]
  · rw [bI_f hm]
    by_cases e : S.op = 1
    · by_cases e3 : nco S = 0
      · have e4 : ¬ S.n < 60 := fun z => hm ⟨Or.inl e, e3, z⟩
        simp (disch := omega) only [R.op, e, q_changed R h, q_conf R h, e3, q_room R h, e4, u4003_0, u4003_1, u4003_4, u4003_7, u4003_8, u4003_11, u4003_12, u4003_15, u4003_18, u4003_21, u4003_22, u4003_25, u4003_26, u4003_27, u4003_28, u4003_31, u4003_32, u4003_35, u4003_38, u4003_41, u4003_42, u4003_45, u4003_48, u4003_51, u4003_52, u4003_55, u4003_56, gt_3_0, gt_4_8, ob_4, ki_0, ki_1, af_x hd_4003, decide_eq_true_eq, if_true, if_false, f2_ne, f2_eq, up_ne, up_eq, kc_int, kc_ref, kc_retAddr, kc_long, kc_double, af_n, af_v, z0, z1, n_of, nz6, nz4, bI_T, bI_F, bI_01, n_lt, n_le, n_eq, n_add, n_mul, n_sub, n_clamp, n_vp, m_lt, m_le, m_eq, m_eq2, m_ltm, m_add, true_and, and_true, eq_self, if_pos, if_neg, List.length_nil, List.length_cons, Nat.reduceAdd, Nat.reduceLeDiff, Nat.zero_le, not_true_eq_false, not_false_eq_true, true_or, or_true]
      · simp (disch := omega) only [R.op, e, q_changed R h, q_conf R h, e3, q_room R h, u4003_0, u4003_1, u4003_4, u4003_7, u4003_8, u4003_11, u4003_12, u4003_15, u4003_18, u4003_21, u4003_22, u4003_25, u4003_26, u4003_27, u4003_28, u4003_31, u4003_32, u4003_35, u4003_38, u4003_41, u4003_42, u4003_45, u4003_48, u4003_51, u4003_52, u4003_55, u4003_56, gt_3_0, gt_4_8, ob_4, ki_0, ki_1, af_x hd_4003, decide_eq_true_eq, if_true, if_false, f2_ne, f2_eq, up_ne, up_eq, kc_int, kc_ref, kc_retAddr, kc_long, kc_double, af_n, af_v, z0, z1, n_of, nz6, nz4, bI_T, bI_F, bI_01, n_lt, n_le, n_eq, n_add, n_mul, n_sub, n_clamp, n_vp, m_lt, m_le, m_eq, m_eq2, m_ltm, m_add, true_and, and_true, eq_self, if_pos, if_neg, List.length_nil, List.length_cons, Nat.reduceAdd, Nat.reduceLeDiff, Nat.zero_le, not_true_eq_false, not_false_eq_true, true_or, or_true]
    · by_cases e2 : unl S = 0
      · simp (disch := omega) only [R.op, e2, q_changed R h, u4003_0, u4003_1, u4003_4, u4003_7, u4003_8, u4003_11, u4003_12, u4003_15, u4003_18, u4003_21, u4003_22, u4003_25, u4003_26, u4003_27, u4003_28, u4003_31, u4003_32, u4003_35, u4003_38, u4003_41, u4003_42, u4003_45, u4003_48, u4003_51, u4003_52, u4003_55, u4003_56, gt_3_0, gt_4_8, ob_4, ki_0, ki_1, af_x hd_4003, decide_eq_true_eq, if_true, if_false, f2_ne, f2_eq, up_ne, up_eq, kc_int, kc_ref, kc_retAddr, kc_long, kc_double, af_n, af_v, z0, z1, n_of, nz6, nz4, bI_T, bI_F, bI_01, n_lt, n_le, n_eq, n_add, n_mul, n_sub, n_clamp, n_vp, m_lt, m_le, m_eq, m_eq2, m_ltm, m_add, true_and, and_true, eq_self, if_pos, if_neg, List.length_nil, List.length_cons, Nat.reduceAdd, Nat.reduceLeDiff, Nat.zero_le, not_true_eq_false, not_false_eq_true, true_or, or_true]
      · by_cases e3 : nco S = 0
        · have e4 : ¬ S.n < 60 := fun z => hm ⟨Or.inr e2, e3, z⟩
          simp (disch := omega) only [R.op, q_changed R h, q_conf R h, e3, q_room R h, e4, u4003_0, u4003_1, u4003_4, u4003_7, u4003_8, u4003_11, u4003_12, u4003_15, u4003_18, u4003_21, u4003_22, u4003_25, u4003_26, u4003_27, u4003_28, u4003_31, u4003_32, u4003_35, u4003_38, u4003_41, u4003_42, u4003_45, u4003_48, u4003_51, u4003_52, u4003_55, u4003_56, gt_3_0, gt_4_8, ob_4, ki_0, ki_1, af_x hd_4003, decide_eq_true_eq, if_true, if_false, f2_ne, f2_eq, up_ne, up_eq, kc_int, kc_ref, kc_retAddr, kc_long, kc_double, af_n, af_v, z0, z1, n_of, nz6, nz4, bI_T, bI_F, bI_01, n_lt, n_le, n_eq, n_add, n_mul, n_sub, n_clamp, n_vp, m_lt, m_le, m_eq, m_eq2, m_ltm, m_add, true_and, and_true, eq_self, if_pos, if_neg, List.length_nil, List.length_cons, Nat.reduceAdd, Nat.reduceLeDiff, Nat.zero_le, not_true_eq_false, not_false_eq_true, true_or, or_true]
        · simp (disch := omega) only [R.op, q_changed R h, q_conf R h, e3, q_room R h, u4003_0, u4003_1, u4003_4, u4003_7, u4003_8, u4003_11, u4003_12, u4003_15, u4003_18, u4003_21, u4003_22, u4003_25, u4003_26, u4003_27, u4003_28, u4003_31, u4003_32, u4003_35, u4003_38, u4003_41, u4003_42, u4003_45, u4003_48, u4003_51, u4003_52, u4003_55, u4003_56, gt_3_0, gt_4_8, ob_4, ki_0, ki_1, af_x hd_4003, decide_eq_true_eq, if_true, if_false, f2_ne, f2_eq, up_ne, up_eq, kc_int, kc_ref, kc_retAddr, kc_long, kc_double, af_n, af_v, z0, z1, n_of, nz6, nz4, bI_T, bI_F, bI_01, n_lt, n_le, n_eq, n_add, n_mul, n_sub, n_clamp, n_vp, m_lt, m_le, m_eq, m_eq2, m_ltm, m_add, true_and, and_true, eq_self, if_pos, if_neg, List.length_nil, List.length_cons, Nat.reduceAdd, Nat.reduceLeDiff, Nat.zero_le, not_true_eq_false, not_false_eq_true, true_or, or_true]
def cmS2 (S : Ab) : Ab := addC S (if S.op = 1 then S.mg else 0)
theorem r_doCommit (R : cR F A 4 S) (h : wS S) (hn : S.n < 60) (hcl : 70 < cl) : ∃ F2 A2, (∀ P, am_Ca X (d + 4) 4004 [.ref 3] (am_Z cl sl F A L) P = P (.inl (some (.int (nI S.n)))) (am_Z cl sl F2 A2 L)) ∧ cR F2 A2 4 (cmS2 S) ∧ Fr F A F2 A2 := by
  have h1 := h.op3
  unfold cmS2
  by_cases e : S.op = 1
  · rw [if_pos e]
    refine ⟨_, _, fun P => ?_, cR_addC R h hn h.mgn, Fr_addC⟩
    rw [c4004]
    simp (disch := omega) only [R.op, e, R.mg, q_addC R h hn hcl, u4004_0, u4004_1, u4004_4, u4004_5, u4004_8, u4004_11, u4004_12, u4004_15, u4004_16, u4004_19, u4004_22, u4004_25, u4004_26, u4004_29, gt_3_0, gt_4_8, gt_4_9, ob_4, ki_m1, ki_1, af_x hd_4004, decide_eq_true_eq, if_true, if_false, f2_ne, f2_eq, up_ne, up_eq, kc_int, kc_ref, kc_retAddr, kc_long, kc_double, af_n, af_v, z0, z1, n_of, nz6, nz4, bI_T, bI_F, bI_01, n_lt, n_le, n_eq, n_add, n_mul, n_sub, n_clamp, n_vp, m_lt, m_le, m_eq, m_eq2, m_ltm, m_add, true_and, and_true, eq_self, if_pos, if_neg, List.length_nil, List.length_cons, Nat.reduceAdd, Nat.reduceLeDiff, Nat.zero_le, not_true_eq_false, not_false_eq_true, true_or, or_true]
  · rw [if_neg e]
    refine ⟨_, _, fun P => ?_, cR_addC R h hn (Nat.zero_le _), Fr_addC⟩
    rw [c4004]
    simp (disch := omega) only [R.op, q_addC R h hn hcl, pk_0, u4004_0, u4004_1, u4004_4, u4004_5, u4004_8, u4004_11, u4004_12, u4004_15, u4004_16, u4004_19, u4004_22, u4004_25, u4004_26, u4004_29, gt_3_0, gt_4_8, gt_4_9, ob_4, ki_m1, ki_1, af_x hd_4004, decide_eq_true_eq, if_true, if_false, f2_ne, f2_eq, up_ne, up_eq, kc_int, kc_ref, kc_retAddr, kc_long, kc_double, af_n, af_v, z0, z1, n_of, nz6, nz4, bI_T, bI_F, bI_01, n_lt, n_le, n_eq, n_add, n_mul, n_sub, n_clamp, n_vp, m_lt, m_le, m_eq, m_eq2, m_ltm, m_add, true_and, and_true, eq_self, if_pos, if_neg, List.length_nil, List.length_cons, Nat.reduceAdd, Nat.reduceLeDiff, Nat.zero_le, not_true_eq_false, not_false_eq_true, true_or, or_true]
theorem r_doReset (R : cR F A 4 S) (h : wS S) {c : Nat} (hc : c < S.n) (hcl : 70 < cl) : ∃ F2 A2, (∀ P, am_Ca X (d + 4) 4005 [.ref 3, .int (nI c)] (am_Z cl sl F A L) P = P (.inl (some (.int (nI (hd S))))) (am_Z cl sl F2 A2 L)) ∧ cR F2 A2 4 (stand S c) ∧ Fr F A F2 A2 := by
  refine ⟨_, _, fun P => ?_, cR_stand R h hc, Fr_stand⟩
  rw [c4005]
  simp (disch := omega) only [q_head R h, q_stand R h hc hcl, u4005_0, u4005_1, u4005_4, u4005_7, u4005_8, u4005_9, u4005_12, u4005_13, u4005_16, u4005_17, gt_3_0, ob_4, af_x hd_4005, decide_eq_true_eq, if_true, if_false, f2_ne, f2_eq, up_ne, up_eq, kc_int, kc_ref, kc_retAddr, kc_long, kc_double, af_n, af_v, z0, z1, n_of, nz6, nz4, bI_T, bI_F, bI_01, n_lt, n_le, n_eq, n_add, n_mul, n_sub, n_clamp, n_vp, m_lt, m_le, m_eq, m_eq2, m_ltm, m_add, true_and, and_true, eq_self, if_pos, if_neg, List.length_nil, List.length_cons, Nat.reduceAdd, Nat.reduceLeDiff, Nat.zero_le, not_true_eq_false, not_false_eq_true, true_or, or_true]
def mayA (S : Ab) : Prop := S.op = 0 ∧ ¬ unl S = 0 ∧ S.ac < 3
theorem r_mayPutAside (R : cR F A 4 S) (h : wS S) : am_Ca X (d + 4) 4006 [.ref 3] (am_Z cl sl F A L) P = P (.inl (some (.int (bI (mayA S))))) (am_Z cl sl F A L) := by
  rw [c4006]
  have h1 := h.op3
  have h2 : unl S ≤ 24 := cnt_le _ _
  have h3 := h.ac3
  by_cases hm : mayA S
  · rw [bI_t hm]
    obtain ⟨ha, hb, hc⟩ := hm
    simp (disch := omega) only [R.op, R.ac, q_changed R h, u4006_0, u4006_1, u4006_4, u4006_7, u4006_10, u4006_11, u4006_14, u4006_17, u4006_20, u4006_21, u4006_24, u4006_27, u4006_28, u4006_31, u4006_32, u4006_35, u4006_36, gt_3_0, gt_4_8, ob_4, gt_4_10, ki_0, ki_1, ki_3, af_x hd_4006, decide_eq_true_eq, if_true, if_false, f2_ne, f2_eq, up_ne, up_eq, kc_int, kc_ref, kc_retAddr, kc_long, kc_double, af_n, af_v, z0, z1, n_of, nz6, nz4, bI_T, bI_F, bI_01, n_lt, n_le, n_eq, n_add, n_mul, n_sub, n_clamp, n_vp, m_lt, m_le, m_eq, m_eq2, m_ltm, m_add, true_and, and_true, eq_self, if_pos, if_neg, List.length_nil, List.length_cons, Nat.reduceAdd, Nat.reduceLeDiff, Nat.zero_le, not_true_eq_false, not_false_eq_true, true_or, or_true]
  · rw [bI_f hm]
    by_cases e : S.op = 0
    · by_cases e2 : unl S = 0
      · simp (disch := omega) only [R.op, R.ac, q_changed R h, u4006_0, u4006_1, u4006_4, u4006_7, u4006_10, u4006_11, u4006_14, u4006_17, u4006_20, u4006_21, u4006_24, u4006_27, u4006_28, u4006_31, u4006_32, u4006_35, u4006_36, gt_3_0, gt_4_8, ob_4, gt_4_10, ki_0, ki_1, ki_3, af_x hd_4006, decide_eq_true_eq, if_true, if_false, f2_ne, f2_eq, up_ne, up_eq, kc_int, kc_ref, kc_retAddr, kc_long, kc_double, af_n, af_v, z0, z1, n_of, nz6, nz4, bI_T, bI_F, bI_01, n_lt, n_le, n_eq, n_add, n_mul, n_sub, n_clamp, n_vp, m_lt, m_le, m_eq, m_eq2, m_ltm, m_add, true_and, and_true, eq_self, if_pos, if_neg, List.length_nil, List.length_cons, Nat.reduceAdd, Nat.reduceLeDiff, Nat.zero_le, not_true_eq_false, not_false_eq_true, true_or, or_true]
      · have e3 : ¬ S.ac < 3 := fun z => hm ⟨e, e2, z⟩
        simp (disch := omega) only [R.op, R.ac, q_changed R h, u4006_0, u4006_1, u4006_4, u4006_7, u4006_10, u4006_11, u4006_14, u4006_17, u4006_20, u4006_21, u4006_24, u4006_27, u4006_28, u4006_31, u4006_32, u4006_35, u4006_36, gt_3_0, gt_4_8, ob_4, gt_4_10, ki_0, ki_1, ki_3, af_x hd_4006, decide_eq_true_eq, if_true, if_false, f2_ne, f2_eq, up_ne, up_eq, kc_int, kc_ref, kc_retAddr, kc_long, kc_double, af_n, af_v, z0, z1, n_of, nz6, nz4, bI_T, bI_F, bI_01, n_lt, n_le, n_eq, n_add, n_mul, n_sub, n_clamp, n_vp, m_lt, m_le, m_eq, m_eq2, m_ltm, m_add, true_and, and_true, eq_self, if_pos, if_neg, List.length_nil, List.length_cons, Nat.reduceAdd, Nat.reduceLeDiff, Nat.zero_le, not_true_eq_false, not_false_eq_true, true_or, or_true]
    · simp (disch := omega) only [R.op, R.ac, q_changed R h, u4006_0, u4006_1, u4006_4, u4006_7, u4006_10, u4006_11, u4006_14, u4006_17, u4006_20, u4006_21, u4006_24, u4006_27, u4006_28, u4006_31, u4006_32, u4006_35, u4006_36, gt_3_0, gt_4_8, ob_4, gt_4_10, ki_0, ki_1, ki_3, af_x hd_4006, decide_eq_true_eq, if_true, if_false, f2_ne, f2_eq, up_ne, up_eq, kc_int, kc_ref, kc_retAddr, kc_long, kc_double, af_n, af_v, z0, z1, n_of, nz6, nz4, bI_T, bI_F, bI_01, n_lt, n_le, n_eq, n_add, n_mul, n_sub, n_clamp, n_vp, m_lt, m_le, m_eq, m_eq2, m_ltm, m_add, true_and, and_true, eq_self, if_pos, if_neg, List.length_nil, List.length_cons, Nat.reduceAdd, Nat.reduceLeDiff, Nat.zero_le, not_true_eq_false, not_false_eq_true, true_or, or_true]
theorem r_doPutAside (R : cR F A 4 S) (h : wS S) (h3 : S.ac < 3) (hcl : 70 < cl) : ∃ F2 A2, (∀ P, am_Ca X (d + 4) 4007 [.ref 3] (am_Z cl sl F A L) P = P (.inl (some (.int (nI (S.ac + 1))))) (am_Z cl sl F2 A2 L)) ∧ cR F2 A2 4 (stand (push S) (hd S)) ∧ Fr F A F2 A2 := by
  have R1 := cR_push R h
  have h1 := wS_push h h3
  have hc : hd (push S) < (push S).n := hd_n h1
  have R2 := cR_stand R1 h1 hc
  refine ⟨_, _, fun P => ?_, R2, Fr_tr Fr_push Fr_stand⟩
  rw [c4007]
  have e : (ksF (am_f2 F 4 10 (nI (S.ac + 1)))) 4 10 = nI (S.ac + 1) := R2.ac
  simp (disch := omega) only [s_pushAside R.cu h.cur6 (q_h8 R h) R.ac h3 hcl, q_head R1 h1, q_stand R1 h1 hc hcl, e, u4007_0, u4007_1, u4007_4, u4007_7, u4007_8, u4007_11, u4007_12, u4007_15, u4007_18, u4007_21, u4007_22, u4007_25, u4007_28, gt_3_0, ob_4, gt_4_10, af_x hd_4007, decide_eq_true_eq, if_true, if_false, f2_ne, f2_eq, up_ne, up_eq, kc_int, kc_ref, kc_retAddr, kc_long, kc_double, af_n, af_v, z0, z1, n_of, nz6, nz4, bI_T, bI_F, bI_01, n_lt, n_le, n_eq, n_add, n_mul, n_sub, n_clamp, n_vp, m_lt, m_le, m_eq, m_eq2, m_ltm, m_add, true_and, and_true, eq_self, if_pos, if_neg, List.length_nil, List.length_cons, Nat.reduceAdd, Nat.reduceLeDiff, Nat.zero_le, not_true_eq_false, not_false_eq_true, true_or, or_true]
theorem r_mayBranch (R : cR F A 4 S) (h : wS S) : am_Ca X (d + 4) 4010 [.ref 3] (am_Z cl sl F A L) P = P (.inl (some (.int (bI (¬ lfN S.br 6 0 = 0))))) (am_Z cl sl F A L) := by
  rw [c4010]
  have h1 := lfN_le S.br 6 0
  rcases e : lfN S.br 6 0 with _ | z
  · rw [bI_f (fun z => z rfl)]
    simp (disch := omega) only [q_free R h, e, pk_0, u4010_0, u4010_1, u4010_4, u4010_7, u4010_8, u4010_11, u4010_12, u4010_15, u4010_16, gt_3_0, ob_4, ki_m1, ki_0, ki_1, af_x hd_4010, decide_eq_true_eq, if_true, if_false, f2_ne, f2_eq, up_ne, up_eq, kc_int, kc_ref, kc_retAddr, kc_long, kc_double, af_n, af_v, z0, z1, n_of, nz6, nz4, bI_T, bI_F, bI_01, n_lt, n_le, n_eq, n_add, n_mul, n_sub, n_clamp, n_vp, m_lt, m_le, m_eq, m_eq2, m_ltm, m_add, true_and, and_true, eq_self, if_pos, if_neg, List.length_nil, List.length_cons, Nat.reduceAdd, Nat.reduceLeDiff, Nat.zero_le, not_true_eq_false, not_false_eq_true, true_or, or_true]
  · rw [bI_t (by omega)]
    simp (disch := omega) only [q_free R h, e, pk_s, u4010_0, u4010_1, u4010_4, u4010_7, u4010_8, u4010_11, u4010_12, u4010_15, u4010_16, gt_3_0, ob_4, ki_m1, ki_0, ki_1, af_x hd_4010, decide_eq_true_eq, if_true, if_false, f2_ne, f2_eq, up_ne, up_eq, kc_int, kc_ref, kc_retAddr, kc_long, kc_double, af_n, af_v, z0, z1, n_of, nz6, nz4, bI_T, bI_F, bI_01, n_lt, n_le, n_eq, n_add, n_mul, n_sub, n_clamp, n_vp, m_lt, m_le, m_eq, m_eq2, m_ltm, m_add, true_and, and_true, eq_self, if_pos, if_neg, List.length_nil, List.length_cons, Nat.reduceAdd, Nat.reduceLeDiff, Nat.zero_le, not_true_eq_false, not_false_eq_true, true_or, or_true]
theorem r_doBranch (R : cR F A 4 S) (h : wS S) {z : Nat} (e : lfN S.br 6 0 = z + 1) : ∃ F2 A2, (∀ P, am_Ca X (d + 4) 4011 [.ref 3] (am_Z cl sl F A L) P = P (.inl (some (.int (nI z)))) (am_Z cl sl F2 A2 L)) ∧ cR F2 A2 4 (setB S z (hd S + 1)) ∧ Fr F A F2 A2 := by
  have h1 := lfN_le S.br 6 0
  have R2 := cR_setB (b := z) (z := hd S + 1) R
  rw [pk_s] at R2
  refine ⟨_, _, fun P => ?_, R2, Fr_u2 (by omega)⟩
  rw [c4011]
  simp (disch := omega) only [q_free R h, e, pk_s, q_head R h, s_setBranch, u4011_0, u4011_1, u4011_4, u4011_7, u4011_8, u4011_9, u4011_12, u4011_13, u4011_14, u4011_17, u4011_20, u4011_23, u4011_24, gt_3_0, ob_4, af_x hd_4011, decide_eq_true_eq, if_true, if_false, f2_ne, f2_eq, up_ne, up_eq, kc_int, kc_ref, kc_retAddr, kc_long, kc_double, af_n, af_v, z0, z1, n_of, nz6, nz4, bI_T, bI_F, bI_01, n_lt, n_le, n_eq, n_add, n_mul, n_sub, n_clamp, n_vp, m_lt, m_le, m_eq, m_eq2, m_ltm, m_add, true_and, and_true, eq_self, if_pos, if_neg, List.length_nil, List.length_cons, Nat.reduceAdd, Nat.reduceLeDiff, Nat.zero_le, not_true_eq_false, not_false_eq_true, true_or, or_true]
theorem r_mayDrop (R : cR F A 4 S) (h : wS S) {b : Nat} (hb : b < 6) : am_Ca X (d + 4) 4012 [.ref 3, .int (nI b)] (am_Z cl sl F A L) P = P (.inl (some (.int (bI (¬ S.br b = 0 ∧ ¬ b = S.cur))))) (am_Z cl sl F A L) := by
  rw [c4012]
  have h1 := h.cur6
  by_cases e : S.br b = 0
  · rw [bI_f (fun z => z.1 e)]
    simp (disch := omega) only [q_hasBranch R h hb, e, u4012_0, u4012_1, u4012_4, u4012_5, u4012_8, u4012_11, u4012_12, u4012_13, u4012_16, u4012_19, u4012_22, u4012_23, u4012_26, u4012_27, gt_3_0, ob_4, gt_4_5, ki_0, ki_1, af_x hd_4012, decide_eq_true_eq, if_true, if_false, f2_ne, f2_eq, up_ne, up_eq, kc_int, kc_ref, kc_retAddr, kc_long, kc_double, af_n, af_v, z0, z1, n_of, nz6, nz4, bI_T, bI_F, bI_01, n_lt, n_le, n_eq, n_add, n_mul, n_sub, n_clamp, n_vp, m_lt, m_le, m_eq, m_eq2, m_ltm, m_add, true_and, and_true, eq_self, if_pos, if_neg, List.length_nil, List.length_cons, Nat.reduceAdd, Nat.reduceLeDiff, Nat.zero_le, not_true_eq_false, not_false_eq_true, true_or, or_true]
  · by_cases e2 : b = S.cur
    · rw [bI_f (fun z => z.2 e2)]
      simp (disch := omega) only [q_hasBranch R h hb, e, R.cu, u4012_0, u4012_1, u4012_4, u4012_5, u4012_8, u4012_11, u4012_12, u4012_13, u4012_16, u4012_19, u4012_22, u4012_23, u4012_26, u4012_27, gt_3_0, ob_4, gt_4_5, ki_0, ki_1, af_x hd_4012, decide_eq_true_eq, if_true, if_false, f2_ne, f2_eq, up_ne, up_eq, kc_int, kc_ref, kc_retAddr, kc_long, kc_double, af_n, af_v, z0, z1, n_of, nz6, nz4, bI_T, bI_F, bI_01, n_lt, n_le, n_eq, n_add, n_mul, n_sub, n_clamp, n_vp, m_lt, m_le, m_eq, m_eq2, m_ltm, m_add, true_and, and_true, eq_self, if_pos, if_neg, List.length_nil, List.length_cons, Nat.reduceAdd, Nat.reduceLeDiff, Nat.zero_le, not_true_eq_false, not_false_eq_true, true_or, or_true]
    · rw [bI_t ⟨e, e2⟩]
      simp (disch := omega) only [q_hasBranch R h hb, e, R.cu, u4012_0, u4012_1, u4012_4, u4012_5, u4012_8, u4012_11, u4012_12, u4012_13, u4012_16, u4012_19, u4012_22, u4012_23, u4012_26, u4012_27, gt_3_0, ob_4, gt_4_5, ki_0, ki_1, af_x hd_4012, decide_eq_true_eq, if_true, if_false, f2_ne, f2_eq, up_ne, up_eq, kc_int, kc_ref, kc_retAddr, kc_long, kc_double, af_n, af_v, z0, z1, n_of, nz6, nz4, bI_T, bI_F, bI_01, n_lt, n_le, n_eq, n_add, n_mul, n_sub, n_clamp, n_vp, m_lt, m_le, m_eq, m_eq2, m_ltm, m_add, true_and, and_true, eq_self, if_pos, if_neg, List.length_nil, List.length_cons, Nat.reduceAdd, Nat.reduceLeDiff, Nat.zero_le, not_true_eq_false, not_false_eq_true, true_or, or_true]
theorem r_doDrop (R : cR F A 4 S) (h : wS S) {b : Nat} (hb : b < 6) : ∃ F2 A2, (∀ P, am_Ca X (d + 4) 4013 [.ref 3, .int (nI b)] (am_Z cl sl F A L) P = P (.inl (some (.int (pk (S.br b))))) (am_Z cl sl F2 A2 L)) ∧ cR F2 A2 4 (setB S b 0) ∧ Fr F A F2 A2 := by
  have R2 := cR_setB (b := b) (z := 0) R
  rw [pk_0] at R2
  refine ⟨_, _, fun P => ?_, R2, Fr_u2 (by omega)⟩
  rw [c4013]
  simp (disch := omega) only [q_commitOf R hb, s_setBranch hb, u4013_0, u4013_1, u4013_4, u4013_5, u4013_8, u4013_9, u4013_10, u4013_13, u4013_14, u4013_15, u4013_18, u4013_19, gt_3_0, ob_4, ki_m1, af_x hd_4013, decide_eq_true_eq, if_true, if_false, f2_ne, f2_eq, up_ne, up_eq, kc_int, kc_ref, kc_retAddr, kc_long, kc_double, af_n, af_v, z0, z1, n_of, nz6, nz4, bI_T, bI_F, bI_01, n_lt, n_le, n_eq, n_add, n_mul, n_sub, n_clamp, n_vp, m_lt, m_le, m_eq, m_eq2, m_ltm, m_add, true_and, and_true, eq_self, if_pos, if_neg, List.length_nil, List.length_cons, Nat.reduceAdd, Nat.reduceLeDiff, Nat.zero_le, not_true_eq_false, not_false_eq_true, true_or, or_true]
def mayS (S : Ab) (b : Nat) : Prop := ¬ S.br b = 0 ∧ ¬ b = S.cur ∧ S.op = 0 ∧ unl S = 0
theorem r_maySwitch (R : cR F A 4 S) (h : wS S) {b : Nat} (hb : b < 6) : am_Ca X (d + 4) 4014 [.ref 3, .int (nI b)] (am_Z cl sl F A L) P = P (.inl (some (.int (bI (mayS S b))))) (am_Z cl sl F A L) := by
  rw [c4014]
  have h1 := h.cur6
  by_cases e : S.br b = 0
  · rw [bI_f (fun z => z.1 e)]
    simp (disch := omega) only [q_hasBranch R h hb, e, u4014_0, u4014_1, u4014_4, u4014_5, u4014_8, u4014_11, u4014_12, u4014_13, u4014_16, u4014_19, u4014_22, u4014_23, u4014_26, u4014_29, u4014_32, u4014_33, u4014_36, u4014_37, gt_3_0, ob_4, gt_4_5, ki_0, ki_1, af_x hd_4014, decide_eq_true_eq, if_true, if_false, f2_ne, f2_eq, up_ne, up_eq, kc_int, kc_ref, kc_retAddr, kc_long, kc_double, af_n, af_v, z0, z1, n_of, nz6, nz4, bI_T, bI_F, bI_01, n_lt, n_le, n_eq, n_add, n_mul, n_sub, n_clamp, n_vp, m_lt, m_le, m_eq, m_eq2, m_ltm, m_add, true_and, and_true, eq_self, if_pos, if_neg, List.length_nil, List.length_cons, Nat.reduceAdd, Nat.reduceLeDiff, Nat.zero_le, not_true_eq_false, not_false_eq_true, true_or, or_true]
  · by_cases e2 : b = S.cur
    · rw [bI_f (fun z => z.2.1 e2)]
      simp (disch := omega) only [q_hasBranch R h hb, e, R.cu, u4014_0, u4014_1, u4014_4, u4014_5, u4014_8, u4014_11, u4014_12, u4014_13, u4014_16, u4014_19, u4014_22, u4014_23, u4014_26, u4014_29, u4014_32, u4014_33, u4014_36, u4014_37, gt_3_0, ob_4, gt_4_5, ki_0, ki_1, af_x hd_4014, decide_eq_true_eq, if_true, if_false, f2_ne, f2_eq, up_ne, up_eq, kc_int, kc_ref, kc_retAddr, kc_long, kc_double, af_n, af_v, z0, z1, n_of, nz6, nz4, bI_T, bI_F, bI_01, n_lt, n_le, n_eq, n_add, n_mul, n_sub, n_clamp, n_vp, m_lt, m_le, m_eq, m_eq2, m_ltm, m_add, true_and, and_true, eq_self, if_pos, if_neg, List.length_nil, List.length_cons, Nat.reduceAdd, Nat.reduceLeDiff, Nat.zero_le, not_true_eq_false, not_false_eq_true, true_or, or_true]
    · by_cases e3 : S.op = 0 ∧ unl S = 0
      · rw [bI_t ⟨e, e2, e3⟩]
        simp (disch := omega) only [q_hasBranch R h hb, e, R.cu, q_rest R h, e3, u4014_0, u4014_1, u4014_4, u4014_5, u4014_8, u4014_11, u4014_12, u4014_13, u4014_16, u4014_19, u4014_22, u4014_23, u4014_26, u4014_29, u4014_32, u4014_33, u4014_36, u4014_37, gt_3_0, ob_4, gt_4_5, ki_0, ki_1, af_x hd_4014, decide_eq_true_eq, if_true, if_false, f2_ne, f2_eq, up_ne, up_eq, kc_int, kc_ref, kc_retAddr, kc_long, kc_double, af_n, af_v, z0, z1, n_of, nz6, nz4, bI_T, bI_F, bI_01, n_lt, n_le, n_eq, n_add, n_mul, n_sub, n_clamp, n_vp, m_lt, m_le, m_eq, m_eq2, m_ltm, m_add, true_and, and_true, eq_self, if_pos, if_neg, List.length_nil, List.length_cons, Nat.reduceAdd, Nat.reduceLeDiff, Nat.zero_le, not_true_eq_false, not_false_eq_true, true_or, or_true]
      · rw [bI_f (fun z => e3 z.2.2)]
        simp (disch := omega) only [q_hasBranch R h hb, e, R.cu, q_rest R h, e3, u4014_0, u4014_1, u4014_4, u4014_5, u4014_8, u4014_11, u4014_12, u4014_13, u4014_16, u4014_19, u4014_22, u4014_23, u4014_26, u4014_29, u4014_32, u4014_33, u4014_36, u4014_37, gt_3_0, ob_4, gt_4_5, ki_0, ki_1, af_x hd_4014, decide_eq_true_eq, if_true, if_false, f2_ne, f2_eq, up_ne, up_eq, kc_int, kc_ref, kc_retAddr, kc_long, kc_double, af_n, af_v, z0, z1, n_of, nz6, nz4, bI_T, bI_F, bI_01, n_lt, n_le, n_eq, n_add, n_mul, n_sub, n_clamp, n_vp, m_lt, m_le, m_eq, m_eq2, m_ltm, m_add, true_and, and_true, eq_self, if_pos, if_neg, List.length_nil, List.length_cons, Nat.reduceAdd, Nat.reduceLeDiff, Nat.zero_le, not_true_eq_false, not_false_eq_true, true_or, or_true]
theorem r_doSwitch (R : cR F A 4 S) (h : wS S) {b : Nat} (hb : b < 6) (h0 : S.br b ≠ 0) (hcl : 70 < cl) : ∃ F2 A2, (∀ P, am_Ca X (d + 4) 4015 [.ref 3, .int (nI b)] (am_Z cl sl F A L) P = P (.inl (some (.int (nI (S.br b - 1))))) (am_Z cl sl F2 A2 L)) ∧ cR F2 A2 4 (stand (curB S b) (S.br b - 1)) ∧ Fr F A F2 A2 := by
  have R1 := cR_cur (b := b) R
  have h1 := wS_cur h hb h0
  have hc : hd (curB S b) < (curB S b).n := hd_n h1
  have R2 := cR_stand R1 h1 hc
  have h2 := wS_stand h1 hc
  have e : hd (stand (curB S b) (hd (curB S b))) = S.br b - 1 := by
    show va_up S.br b (S.br b - 1 + 1) b - 1 = S.br b - 1
    rw [up_eq]
    omega
  refine ⟨_, _, fun P => ?_, R2, Fr_tr (Fr_f2 (Or.inl rfl)) Fr_stand⟩
  rw [c4015]
  simp (disch := omega) only [q_head R1 h1, q_stand R1 h1 hc hcl, q_head R2 h2, e, u4015_0, u4015_1, u4015_4, u4015_5, u4015_8, u4015_9, u4015_12, u4015_13, u4015_16, u4015_19, u4015_22, u4015_23, u4015_26, u4015_29, gt_3_0, pt_4_5, ob_4, af_x hd_4015, decide_eq_true_eq, if_true, if_false, f2_ne, f2_eq, up_ne, up_eq, kc_int, kc_ref, kc_retAddr, kc_long, kc_double, af_n, af_v, z0, z1, n_of, nz6, nz4, bI_T, bI_F, bI_01, n_lt, n_le, n_eq, n_add, n_mul, n_sub, n_clamp, n_vp, m_lt, m_le, m_eq, m_eq2, m_ltm, m_add, true_and, and_true, eq_self, if_pos, if_neg, List.length_nil, List.length_cons, Nat.reduceAdd, Nat.reduceLeDiff, Nat.zero_le, not_true_eq_false, not_false_eq_true, true_or, or_true]
def resS (S : Ab) (i k : Nat) : Ab := setL S i (if k = 0 then S.W i else S.O i - 1)
theorem r_doResolve (R : cR F A 4 S) (h : wS S) {i k : Nat} (hi : i < 24) (hk : k < 2) (h0 : ¬ S.O i = 0) : ∃ F2 A2, (∀ P, am_Ca X (d + 4) 4022 [.ref 3, .int (nI i), .int (nI k)] (am_Z cl sl F A L) P = P (.inl (some (.int (nI (nco (resS S i k)))))) (am_Z cl sl F2 A2 L)) ∧ cR F2 A2 4 (resS S i k) ∧ wS (resS S i k) ∧ Fr F A F2 A2 := by
  have ho := h.Ov i hi
  have hv : (if k = 0 then S.W i else S.O i - 1) < 100 := by
    have := h.Wv i hi
    split <;> omega
  have R1 : cR F _ 4 (resS S i k) := cR_setL R
  have h1 : wS (resS S i k) := wS_setL h hv
  refine ⟨_, _, fun P => ?_, R1, h1, Fr_tr (Fr_u2 (o := 9) (by omega)) (Fr_u2 (o := 10) (by omega))⟩
  rw [c4022]
  by_cases e : k = 0
  · subst e
    have R1' : cR F (am_f2 (am_f2 A 9 i (nI (S.W i))) 10 i m1) 4 (resS S i 0) := R1
    simp (disch := omega) only [q_work R hi, s_setLine hi, q_conf R1' h1, if_true, u4022_0, u4022_1, u4022_4, u4022_5, u4022_6, u4022_9, u4022_10, u4022_13, u4022_14, u4022_17, u4022_20, u4022_21, u4022_24, u4022_25, u4022_28, u4022_31, u4022_32, u4022_35, u4022_38, gt_3_0, ob_4, af_x hd_4022, decide_eq_true_eq, if_true, if_false, f2_ne, f2_eq, up_ne, up_eq, kc_int, kc_ref, kc_retAddr, kc_long, kc_double, af_n, af_v, z0, z1, n_of, nz6, nz4, bI_T, bI_F, bI_01, n_lt, n_le, n_eq, n_add, n_mul, n_sub, n_clamp, n_vp, m_lt, m_le, m_eq, m_eq2, m_ltm, m_add, true_and, and_true, eq_self, if_pos, if_neg, List.length_nil, List.length_cons, Nat.reduceAdd, Nat.reduceLeDiff, Nat.zero_le, not_true_eq_false, not_false_eq_true, true_or, or_true]
  · have R1' : cR F (am_f2 (am_f2 A 9 i (nI (S.O i - 1))) 10 i m1) 4 (resS S i k) := by
      have := R1
      rw [if_neg e] at this
      exact this
    have eo : pk (S.O i) = nI (S.O i - 1) := by
      unfold pk
      rw [if_neg h0]
    simp (disch := omega) only [q_other R hi, eo, s_setLine hi, q_conf R1' h1, u4022_0, u4022_1, u4022_4, u4022_5, u4022_6, u4022_9, u4022_10, u4022_13, u4022_14, u4022_17, u4022_20, u4022_21, u4022_24, u4022_25, u4022_28, u4022_31, u4022_32, u4022_35, u4022_38, gt_3_0, ob_4, af_x hd_4022, decide_eq_true_eq, if_true, if_false, f2_ne, f2_eq, up_ne, up_eq, kc_int, kc_ref, kc_retAddr, kc_long, kc_double, af_n, af_v, z0, z1, n_of, nz6, nz4, bI_T, bI_F, bI_01, n_lt, n_le, n_eq, n_add, n_mul, n_sub, n_clamp, n_vp, m_lt, m_le, m_eq, m_eq2, m_ltm, m_add, true_and, and_true, eq_self, if_pos, if_neg, List.length_nil, List.length_cons, Nat.reduceAdd, Nat.reduceLeDiff, Nat.zero_le, not_true_eq_false, not_false_eq_true, true_or, or_true]
theorem r_mayAbort (R : cR F A 4 S) (h : wS S) : am_Ca X (d + 4) 4023 [.ref 3] (am_Z cl sl F A L) P = P (.inl (some (.int (bI (¬ S.op = 0))))) (am_Z cl sl F A L) := by
  rw [c4023]
  have h1 := h.op3
  by_cases e : S.op = 0
  · rw [bI_f (fun z => z e)]
    simp (disch := omega) only [R.op, e, u4023_0, u4023_1, u4023_4, u4023_7, u4023_10, u4023_11, u4023_14, u4023_15, gt_3_0, gt_4_8, ki_0, ki_1, af_x hd_4023, decide_eq_true_eq, if_true, if_false, f2_ne, f2_eq, up_ne, up_eq, kc_int, kc_ref, kc_retAddr, kc_long, kc_double, af_n, af_v, z0, z1, n_of, nz6, nz4, bI_T, bI_F, bI_01, n_lt, n_le, n_eq, n_add, n_mul, n_sub, n_clamp, n_vp, m_lt, m_le, m_eq, m_eq2, m_ltm, m_add, true_and, and_true, eq_self, if_pos, if_neg, List.length_nil, List.length_cons, Nat.reduceAdd, Nat.reduceLeDiff, Nat.zero_le, not_true_eq_false, not_false_eq_true, true_or, or_true]
  · rw [bI_t e]
    simp (disch := omega) only [R.op, e, u4023_0, u4023_1, u4023_4, u4023_7, u4023_10, u4023_11, u4023_14, u4023_15, gt_3_0, gt_4_8, ki_0, ki_1, af_x hd_4023, decide_eq_true_eq, if_true, if_false, f2_ne, f2_eq, up_ne, up_eq, kc_int, kc_ref, kc_retAddr, kc_long, kc_double, af_n, af_v, z0, z1, n_of, nz6, nz4, bI_T, bI_F, bI_01, n_lt, n_le, n_eq, n_add, n_mul, n_sub, n_clamp, n_vp, m_lt, m_le, m_eq, m_eq2, m_ltm, m_add, true_and, and_true, eq_self, if_pos, if_neg, List.length_nil, List.length_cons, Nat.reduceAdd, Nat.reduceLeDiff, Nat.zero_le, not_true_eq_false, not_false_eq_true, true_or, or_true]
theorem r_doAbort (R : cR F A 4 S) (h : wS S) (hcl : 70 < cl) : ∃ F2 A2, (∀ P, am_Ca X (d + 4) 4024 [.ref 3] (am_Z cl sl F A L) P = P (.inl (some (.int (nI (nco S))))) (am_Z cl sl F2 A2 L)) ∧ cR F2 A2 4 (stand S (hd S)) ∧ Fr F A F2 A2 := by
  refine ⟨_, _, fun P => ?_, cR_stand R h (hd_n h), Fr_stand⟩
  rw [c4024]
  simp (disch := omega) only [q_conf R h, q_head R h, q_stand R h (hd_n h) hcl, u4024_0, u4024_1, u4024_4, u4024_7, u4024_8, u4024_9, u4024_12, u4024_13, u4024_16, u4024_19, u4024_22, u4024_23, gt_3_0, ob_4, af_x hd_4024, decide_eq_true_eq, if_true, if_false, f2_ne, f2_eq, up_ne, up_eq, kc_int, kc_ref, kc_retAddr, kc_long, kc_double, af_n, af_v, z0, z1, n_of, nz6, nz4, bI_T, bI_F, bI_01, n_lt, n_le, n_eq, n_add, n_mul, n_sub, n_clamp, n_vp, m_lt, m_le, m_eq, m_eq2, m_ltm, m_add, true_and, and_true, eq_self, if_pos, if_neg, List.length_nil, List.length_cons, Nat.reduceAdd, Nat.reduceLeDiff, Nat.zero_le, not_true_eq_false, not_false_eq_true, true_or, or_true]
end RP
