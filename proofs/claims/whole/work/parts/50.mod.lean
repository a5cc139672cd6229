/-! THE MODEL (object 70; its row 71): small words -/
section M0
variable {d cl sl : Nat} {X : am_X} {F A : Nat → Nat → Int32} {L : Nat → Nat → Int64} {P : am_Q} {S : Ab}
theorem m_in {x a b : Int32} : am_Ca X (d + 1) 7005 [.int x, .int a, .int b] (am_Z cl sl F A L) P = P (.inl (some (.int (bI (a ≤ x ∧ x ≤ b))))) (am_Z cl sl F A L) := by
  rw [c7005]
  by_cases e1 : a ≤ x
  · have n1 : ¬ x < a := Int32.not_lt.mpr e1
    by_cases e2 : x ≤ b
    · have n2 : ¬ b < x := Int32.not_lt.mpr e2
      rw [bI_t ⟨e1, e2⟩]
      simp (disch := omega) only [n1, n2, u7005_0, u7005_1, u7005_2, u7005_5, u7005_6, u7005_7, u7005_10, u7005_11, u7005_14, u7005_15, ki_0, ki_1, af_x hd_7005, decide_eq_true_eq, if_true, if_false, f2_ne, f2_eq, up_ne, up_eq, kc_int, kc_ref, kc_retAddr, kc_long, kc_double, af_n, af_v, z0, z1, n_of, nz6, nz4, bI_T, bI_F, bI_01, n_lt, n_le, n_eq, n_add, n_mul, n_sub, n_clamp, n_vp, m_lt, m_le, m_eq, m_eq2, m_ltm, m_add, true_and, and_true, eq_self, if_pos, if_neg, List.length_nil, List.length_cons, Nat.reduceAdd, Nat.reduceLeDiff, Nat.zero_le, not_true_eq_false, not_false_eq_true, true_or, or_true]
    · have n2 : b < x := Int32.not_le.mp e2
      rw [bI_f (fun z => e2 z.2)]
      simp (disch := omega) only [n1, n2, u7005_0, u7005_1, u7005_2, u7005_5, u7005_6, u7005_7, u7005_10, u7005_11, u7005_14, u7005_15, ki_0, ki_1, af_x hd_7005, decide_eq_true_eq, if_true, if_false, f2_ne, f2_eq, up_ne, up_eq, kc_int, kc_ref, kc_retAddr, kc_long, kc_double, af_n, af_v, z0, z1, n_of, nz6, nz4, bI_T, bI_F, bI_01, n_lt, n_le, n_eq, n_add, n_mul, n_sub, n_clamp, n_vp, m_lt, m_le, m_eq, m_eq2, m_ltm, m_add, true_and, and_true, eq_self, if_pos, if_neg, List.length_nil, List.length_cons, Nat.reduceAdd, Nat.reduceLeDiff, Nat.zero_le, not_true_eq_false, not_false_eq_true, true_or, or_true]
  · have n1 : x < a := Int32.not_le.mp e1
    rw [bI_f (fun z => e1 z.1)]
    simp (disch := omega) only [n1, u7005_0, u7005_1, u7005_2, u7005_5, u7005_6, u7005_7, u7005_10, u7005_11, u7005_14, u7005_15, ki_0, ki_1, af_x hd_7005, decide_eq_true_eq, if_true, if_false, f2_ne, f2_eq, up_ne, up_eq, kc_int, kc_ref, kc_retAddr, kc_long, kc_double, af_n, af_v, z0, z1, n_of, nz6, nz4, bI_T, bI_F, bI_01, n_lt, n_le, n_eq, n_add, n_mul, n_sub, n_clamp, n_vp, m_lt, m_le, m_eq, m_eq2, m_ltm, m_add, true_and, and_true, eq_self, if_pos, if_neg, List.length_nil, List.length_cons, Nat.reduceAdd, Nat.reduceLeDiff, Nat.zero_le, not_true_eq_false, not_false_eq_true, true_or, or_true]
theorem m_fails {v : Int32} : am_Ca X (d + 1) 7003 [.ref 70, .int v] (am_Z cl sl F A L) P = P (.inl (some (.int (nI 0)))) (am_Z cl sl (am_f2 F 70 8 v) A L) := by
  rw [c7003]
  simp (disch := omega) only [u7003_0, u7003_1, u7003_2, u7003_5, u7003_6, pt_70_8, ki_0, af_x hd_7003, decide_eq_true_eq, if_true, if_false, f2_ne, f2_eq, up_ne, up_eq, kc_int, kc_ref, kc_retAddr, kc_long, kc_double, af_n, af_v, z0, z1, n_of, nz6, nz4, bI_T, bI_F, bI_01, n_lt, n_le, n_eq, n_add, n_mul, n_sub, n_clamp, n_vp, m_lt, m_le, m_eq, m_eq2, m_ltm, m_add, true_and, and_true, eq_self, if_pos, if_neg, List.length_nil, List.length_cons, Nat.reduceAdd, Nat.reduceLeDiff, Nat.zero_le, not_true_eq_false, not_false_eq_true, true_or, or_true]
theorem m_thrown : am_Ca X (d + 1) 7002 [.ref 70] (am_Z cl sl F A L) P = P (.inl (some (.int (F 70 8)))) (am_Z cl sl F A L) := by
  rw [c7002]
  simp (disch := omega) only [u7002_0, u7002_1, u7002_4, gt_70_8, af_x hd_7002, decide_eq_true_eq, if_true, if_false, f2_ne, f2_eq, up_ne, up_eq, kc_int, kc_ref, kc_retAddr, kc_long, kc_double, af_n, af_v, z0, z1, n_of, nz6, nz4, bI_T, bI_F, bI_01, n_lt, n_le, n_eq, n_add, n_mul, n_sub, n_clamp, n_vp, m_lt, m_le, m_eq, m_eq2, m_ltm, m_add, true_and, and_true, eq_self, if_pos, if_neg, List.length_nil, List.length_cons, Nat.reduceAdd, Nat.reduceLeDiff, Nat.zero_le, not_true_eq_false, not_false_eq_true, true_or, or_true]
theorem m_asks {Z : Prop} : am_Ca X (d + 1) 7004 [.ref 70, .int (bI Z)] (am_Z cl sl F A L) P = P (.inl (some (.int (bI Z)))) (am_Z cl sl (am_f2 F 70 8 (bI (¬ Z))) A L) := by
  rw [c7004]
  by_cases e : Z
  · have n : ¬ ¬ Z := fun z => z e
    rw [bI_t e, bI_f n]
    simp (disch := omega) only [u7004_0, u7004_1, u7004_2, u7004_5, u7004_6, u7004_9, u7004_10, u7004_13, u7004_14, pt_70_8, ki_0, ki_1, af_x hd_7004, decide_eq_true_eq, if_true, if_false, f2_ne, f2_eq, up_ne, up_eq, kc_int, kc_ref, kc_retAddr, kc_long, kc_double, af_n, af_v, z0, z1, n_of, nz6, nz4, bI_T, bI_F, bI_01, n_lt, n_le, n_eq, n_add, n_mul, n_sub, n_clamp, n_vp, m_lt, m_le, m_eq, m_eq2, m_ltm, m_add, true_and, and_true, eq_self, if_pos, if_neg, List.length_nil, List.length_cons, Nat.reduceAdd, Nat.reduceLeDiff, Nat.zero_le, not_true_eq_false, not_false_eq_true, true_or, or_true]
  · rw [bI_f e, bI_t e]
    simp (disch := omega) only [u7004_0, u7004_1, u7004_2, u7004_5, u7004_6, u7004_9, u7004_10, u7004_13, u7004_14, pt_70_8, ki_0, ki_1, af_x hd_7004, decide_eq_true_eq, if_true, if_false, f2_ne, f2_eq, up_ne, up_eq, kc_int, kc_ref, kc_retAddr, kc_long, kc_double, af_n, af_v, z0, z1, n_of, nz6, nz4, bI_T, bI_F, bI_01, n_lt, n_le, n_eq, n_add, n_mul, n_sub, n_clamp, n_vp, m_lt, m_le, m_eq, m_eq2, m_ltm, m_add, true_and, and_true, eq_self, if_pos, if_neg, List.length_nil, List.length_cons, Nat.reduceAdd, Nat.reduceLeDiff, Nat.zero_le, not_true_eq_false, not_false_eq_true, true_or, or_true]
theorem m_tree {c : Nat} : am_Ca X (d + 1) 7016 [.int (nI c)] (am_Z cl sl F A L) P = P (.inl (some (.int (nI (24 * c))))) (am_Z cl sl F A L) := by
  rw [c7016]
  simp (disch := omega) only [Nat.zero_add, u7016_0, u7016_1, u7016_3, u7016_4, u7016_5, u7016_6, ki_0, ki_24, af_x hd_7016, decide_eq_true_eq, if_true, if_false, f2_ne, f2_eq, up_ne, up_eq, kc_int, kc_ref, kc_retAddr, kc_long, kc_double, af_n, af_v, z0, z1, n_of, nz6, nz4, bI_T, bI_F, bI_01, n_lt, n_le, n_eq, n_add, n_mul, n_sub, n_clamp, n_vp, m_lt, m_le, m_eq, m_eq2, m_ltm, m_add, true_and, and_true, eq_self, if_pos, if_neg, List.length_nil, List.length_cons, Nat.reduceAdd, Nat.reduceLeDiff, Nat.zero_le, not_true_eq_false, not_false_eq_true, true_or, or_true]
theorem pk_sub1 (z : Nat) : nI z - nI 1 = pk z := by
  cases z with
  | zero => rfl
  | succ z => rw [n_sub (by omega), pk_s]; rfl
theorem m_stand (R : mR (A 71) S) {b : Nat} (hb : b < 6) : am_Ca X (d + 1) 7014 [.ref 70, .int (nI b)] (am_Z cl sl F A L) P = P (.inl (some (.int (pk (S.br b))))) (am_Z cl sl F A L) := by
  rw [c7014]
  simp (disch := omega) only [R.br b hb, pk_sub1, u7014_0, u7014_1, u7014_4, u7014_7, u7014_8, u7014_9, u7014_10, u7014_11, u7014_12, gt_70_0, xl_71, ki_1, ki_1560, af_x hd_7014, decide_eq_true_eq, if_true, if_false, f2_ne, f2_eq, up_ne, up_eq, kc_int, kc_ref, kc_retAddr, kc_long, kc_double, af_n, af_v, z0, z1, n_of, nz6, nz4, bI_T, bI_F, bI_01, n_lt, n_le, n_eq, n_add, n_mul, n_sub, n_clamp, n_vp, m_lt, m_le, m_eq, m_eq2, m_ltm, m_add, true_and, and_true, eq_self, if_pos, if_neg, List.length_nil, List.length_cons, Nat.reduceAdd, Nat.reduceLeDiff, Nat.zero_le, not_true_eq_false, not_false_eq_true, true_or, or_true]
theorem m_top (R : mR (A 71) S) (h : wS S) : am_Ca X (d + 2) 7015 [.ref 70] (am_Z cl sl F A L) P = P (.inl (some (.int (nI (hd S))))) (am_Z cl sl F A L) := by
  have h6 := h.cur6
  rw [c7015]
  simp (disch := omega) only [R.cu, m_stand R h6, hd_pk h, u7015_0, u7015_1, u7015_2, u7015_5, u7015_8, u7015_9, u7015_12, gt_70_0, ob_70, xl_71, ki_1566, af_x hd_7015, decide_eq_true_eq, if_true, if_false, f2_ne, f2_eq, up_ne, up_eq, kc_int, kc_ref, kc_retAddr, kc_long, kc_double, af_n, af_v, z0, z1, n_of, nz6, nz4, bI_T, bI_F, bI_01, n_lt, n_le, n_eq, n_add, n_mul, n_sub, n_clamp, n_vp, m_lt, m_le, m_eq, m_eq2, m_ltm, m_add, true_and, and_true, eq_self, if_pos, if_neg, List.length_nil, List.length_cons, Nat.reduceAdd, Nat.reduceLeDiff, Nat.zero_le, not_true_eq_false, not_false_eq_true, true_or, or_true]
theorem m_isCommit (R : mR (A 71) S) (h : wS S) {x : Int32} : am_Ca X (d + 2) 7012 [.ref 70, .int x] (am_Z cl sl F A L) P = P (.inl (some (.int (bI (nI 0 ≤ x ∧ x ≤ nI (S.n - 1)))))) (am_Z cl sl F A L) := by
  have h1 := h.n1
  rw [c7012]
  simp (disch := omega) only [R.n0, m_in, u7012_0, u7012_1, u7012_2, u7012_3, u7012_6, u7012_9, u7012_10, u7012_11, u7012_12, u7012_15, gt_70_0, xl_71, ki_0, ki_1, ki_1762, af_x hd_7012, decide_eq_true_eq, if_true, if_false, f2_ne, f2_eq, up_ne, up_eq, kc_int, kc_ref, kc_retAddr, kc_long, kc_double, af_n, af_v, z0, z1, n_of, nz6, nz4, bI_T, bI_F, bI_01, n_lt, n_le, n_eq, n_add, n_mul, n_sub, n_clamp, n_vp, m_lt, m_le, m_eq, m_eq2, m_ltm, m_add, true_and, and_true, eq_self, if_pos, if_neg, List.length_nil, List.length_cons, Nat.reduceAdd, Nat.reduceLeDiff, Nat.zero_le, not_true_eq_false, not_false_eq_true, true_or, or_true]
theorem m_isNumber {x : Int32} : am_Ca X (d + 2) 7013 [.int x] (am_Z cl sl F A L) P = P (.inl (some (.int (bI (nI 0 ≤ x ∧ x ≤ nI 5))))) (am_Z cl sl F A L) := by
  rw [c7013]
  simp (disch := omega) only [m_in, u7013_0, u7013_1, u7013_2, u7013_3, u7013_6, ki_0, ki_5, af_x hd_7013, decide_eq_true_eq, if_true, if_false, f2_ne, f2_eq, up_ne, up_eq, kc_int, kc_ref, kc_retAddr, kc_long, kc_double, af_n, af_v, z0, z1, n_of, nz6, nz4, bI_T, bI_F, bI_01, n_lt, n_le, n_eq, n_add, n_mul, n_sub, n_clamp, n_vp, m_lt, m_le, m_eq, m_eq2, m_ltm, m_add, true_and, and_true, eq_self, if_pos, if_neg, List.length_nil, List.length_cons, Nat.reduceAdd, Nat.reduceLeDiff, Nat.zero_le, not_true_eq_false, not_false_eq_true, true_or, or_true]
theorem l_differ {a b : Nat} (ha : a ≤ 1700) (hb : b ≤ 1700) : ∀ (k i : Nat), i + k = 24 → am_g (d) X am_m7018 5 [.ref 70, .int (nI a), .int (nI b), .int (nI (cnt (fun i => decide (¬ A 71 (a + i) = A 71 (b + i))) i)), .int (nI i)] [] (am_Z cl sl F A L) P = P (.inl (some (.int (nI (cnt (fun i => decide (¬ A 71 (a + i) = A 71 (b + i))) 24))))) (am_Z cl sl F A L) := by
  intro k
  induction k with
  | zero =>
    intro i hi
    obtain rfl : i = 24 := by omega
    rw [u7018_5]
    simp (disch := omega) only [u7018_0, u7018_1, u7018_2, u7018_3, u7018_7, u7018_9, u7018_12, u7018_13, u7018_14, u7018_17, u7018_18, u7018_20, u7018_21, u7018_22, u7018_23, u7018_26, u7018_27, u7018_29, u7018_30, u7018_31, u7018_34, u7018_35, u7018_38, u7018_39, u7018_40, u7018_41, u7018_44, u7018_47, u7018_48, gt_70_0, xl_71, ki_0, ki_1, ki_24, af_x hd_7018, decide_eq_true_eq, if_true, if_false, f2_ne, f2_eq, up_ne, up_eq, kc_int, kc_ref, kc_retAddr, kc_long, kc_double, af_n, af_v, z0, z1, n_of, nz6, nz4, bI_T, bI_F, bI_01, n_lt, n_le, n_eq, n_add, n_mul, n_sub, n_clamp, n_vp, m_lt, m_le, m_eq, m_eq2, m_ltm, m_add, true_and, and_true, eq_self, if_pos, if_neg, List.length_nil, List.length_cons, Nat.reduceAdd, Nat.reduceLeDiff, Nat.zero_le, not_true_eq_false, not_false_eq_true, true_or, or_true]
  | succ k ih =>
    intro i hi
    rw [u7018_5]
    by_cases hv : A 71 (a + i) = A 71 (b + i)
    · simp (disch := omega) only [hv, u7018_0, u7018_1, u7018_2, u7018_3, u7018_7, u7018_9, u7018_12, u7018_13, u7018_14, u7018_17, u7018_18, u7018_20, u7018_21, u7018_22, u7018_23, u7018_26, u7018_27, u7018_29, u7018_30, u7018_31, u7018_34, u7018_35, u7018_38, u7018_39, u7018_40, u7018_41, u7018_44, u7018_47, u7018_48, gt_70_0, xl_71, ki_0, ki_1, ki_24, af_x hd_7018, decide_eq_true_eq, if_true, if_false, f2_ne, f2_eq, up_ne, up_eq, kc_int, kc_ref, kc_retAddr, kc_long, kc_double, af_n, af_v, z0, z1, n_of, nz6, nz4, bI_T, bI_F, bI_01, n_lt, n_le, n_eq, n_add, n_mul, n_sub, n_clamp, n_vp, m_lt, m_le, m_eq, m_eq2, m_ltm, m_add, true_and, and_true, eq_self, if_pos, if_neg, List.length_nil, List.length_cons, Nat.reduceAdd, Nat.reduceLeDiff, Nat.zero_le, not_true_eq_false, not_false_eq_true, true_or, or_true]
      have e : cnt (fun i => decide (¬ A 71 (a + i) = A 71 (b + i))) (i + 1) = cnt (fun i => decide (¬ A 71 (a + i) = A 71 (b + i))) i := cnt_f (by simp [hv])
      have h2 := ih (i + 1) (by omega)
      rw [e] at h2
      exact h2
    · simp (disch := omega) only [hv, u7018_0, u7018_1, u7018_2, u7018_3, u7018_7, u7018_9, u7018_12, u7018_13, u7018_14, u7018_17, u7018_18, u7018_20, u7018_21, u7018_22, u7018_23, u7018_26, u7018_27, u7018_29, u7018_30, u7018_31, u7018_34, u7018_35, u7018_38, u7018_39, u7018_40, u7018_41, u7018_44, u7018_47, u7018_48, gt_70_0, xl_71, ki_0, ki_1, ki_24, af_x hd_7018, decide_eq_true_eq, if_true, if_false, f2_ne, f2_eq, up_ne, up_eq, kc_int, kc_ref, kc_retAddr, kc_long, kc_double, af_n, af_v, z0, z1, n_of, nz6, nz4, bI_T, bI_F, bI_01, n_lt, n_le, n_eq, n_add, n_mul, n_sub, n_clamp, n_vp, m_lt, m_le, m_eq, m_eq2, m_ltm, m_add, true_and, and_true, eq_self, if_pos, if_neg, List.length_nil, List.length_cons, Nat.reduceAdd, Nat.reduceLeDiff, Nat.zero_le, not_true_eq_false, not_false_eq_true, true_or, or_true]
      have e : cnt (fun i => decide (¬ A 71 (a + i) = A 71 (b + i))) (i + 1) = cnt (fun i => decide (¬ A 71 (a + i) = A 71 (b + i))) i + 1 := cnt_t (by simp [hv])
      have h2 := ih (i + 1) (by omega)
      rw [e] at h2
      exact h2

theorem m_differ {a b : Nat} (ha : a ≤ 1700) (hb : b ≤ 1700) : am_Ca X (d + 1) 7018 [.ref 70, .int (nI a), .int (nI b)] (am_Z cl sl F A L) P = P (.inl (some (.int (nI (cnt (fun i => decide (¬ A 71 (a + i) = A 71 (b + i))) 24))))) (am_Z cl sl F A L) := by
  rw [c7018]
  simp (disch := omega) only [u7018_0, u7018_1, u7018_2, u7018_3, u7018_7, u7018_9, u7018_12, u7018_13, u7018_14, u7018_17, u7018_18, u7018_20, u7018_21, u7018_22, u7018_23, u7018_26, u7018_27, u7018_29, u7018_30, u7018_31, u7018_34, u7018_35, u7018_38, u7018_39, u7018_40, u7018_41, u7018_44, u7018_47, u7018_48, gt_70_0, xl_71, ki_0, ki_1, ki_24, af_x hd_7018, decide_eq_true_eq, if_true, if_false, f2_ne, f2_eq, up_ne, up_eq, kc_int, kc_ref, kc_retAddr, kc_long, kc_double, af_n, af_v, z0, z1, n_of, nz6, nz4, bI_T, bI_F, bI_01, n_lt, n_le, n_eq, n_add, n_mul, n_sub, n_clamp, n_vp, m_lt, m_le, m_eq, m_eq2, m_ltm, m_add, true_and, and_true, eq_self, if_pos, if_neg, List.length_nil, List.length_cons, Nat.reduceAdd, Nat.reduceLeDiff, Nat.zero_le, not_true_eq_false, not_false_eq_true, true_or, or_true]
  exact l_differ ha hb 24 0 rfl
theorem m_unlike (R : mR (A 71) S) (h : wS S) : am_Ca X (d + 3) 7019 [.ref 70] (am_Z cl sl F A L) P = P (.inl (some (.int (nI (unl S))))) (am_Z cl sl F A L) := by
  have hh := hd_n h
  have h6 := h.n60
  rw [c7019]
  have e : cnt (fun i => decide (¬ A 71 (1567 + i) = A 71 (24 * hd S + i))) 24 = unl S := cnt_congr fun i hi => by
    have h1 := h.Wv i hi
    have h2 := h.Tv _ hh i hi
    unfold chN
    refine decide_eq_decide.mpr ?_
    rw [R.W i hi, R.T _ hh i hi, n_eq (by omega) (by omega)]
  simp (disch := omega) only [m_top R h, m_tree, m_differ, e, u7019_0, u7019_1, u7019_4, u7019_5, u7019_8, u7019_11, u7019_14, ob_70, ki_1567, af_x hd_7019, decide_eq_true_eq, if_true, if_false, f2_ne, f2_eq, up_ne, up_eq, kc_int, kc_ref, kc_retAddr, kc_long, kc_double, af_n, af_v, z0, z1, n_of, nz6, nz4, bI_T, bI_F, bI_01, n_lt, n_le, n_eq, n_add, n_mul, n_sub, n_clamp, n_vp, m_lt, m_le, m_eq, m_eq2, m_ltm, m_add, true_and, and_true, eq_self, if_pos, if_neg, List.length_nil, List.length_cons, Nat.reduceAdd, Nat.reduceLeDiff, Nat.zero_le, not_true_eq_false, not_false_eq_true, true_or, or_true]
theorem m_isQuiet (R : mR (A 71) S) (h : wS S) : am_Ca X (d + 4) 7020 [.ref 70] (am_Z cl sl F A L) P = P (.inl (some (.int (bI (S.op = 0 ∧ unl S = 0))))) (am_Z cl sl F A L) := by
  have h3 := h.op3
  have h2 : unl S ≤ 24 := cnt_le _ _
  rw [c7020]
  by_cases e : unl S = 0
  · by_cases e2 : S.op = 0
    · rw [bI_t ⟨e2, e⟩]
      simp (disch := omega) only [m_unlike R h, R.op, e, e2, u7020_0, u7020_1, u7020_4, u7020_7, u7020_8, u7020_11, u7020_14, u7020_15, u7020_18, u7020_19, u7020_22, u7020_23, ob_70, gt_70_0, xl_71, ki_0, ki_1, ki_1615, af_x hd_7020, decide_eq_true_eq, if_true, if_false, f2_ne, f2_eq, up_ne, up_eq, kc_int, kc_ref, kc_retAddr, kc_long, kc_double, af_n, af_v, z0, z1, n_of, nz6, nz4, bI_T, bI_F, bI_01, n_lt, n_le, n_eq, n_add, n_mul, n_sub, n_clamp, n_vp, m_lt, m_le, m_eq, m_eq2, m_ltm, m_add, true_and, and_true, eq_self, if_pos, if_neg, List.length_nil, List.length_cons, Nat.reduceAdd, Nat.reduceLeDiff, Nat.zero_le, not_true_eq_false, not_false_eq_true, true_or, or_true]
    · rw [bI_f (fun z => e2 z.1)]
      simp (disch := omega) only [m_unlike R h, R.op, e, u7020_0, u7020_1, u7020_4, u7020_7, u7020_8, u7020_11, u7020_14, u7020_15, u7020_18, u7020_19, u7020_22, u7020_23, ob_70, gt_70_0, xl_71, ki_0, ki_1, ki_1615, af_x hd_7020, decide_eq_true_eq, if_true, if_false, f2_ne, f2_eq, up_ne, up_eq, kc_int, kc_ref, kc_retAddr, kc_long, kc_double, af_n, af_v, z0, z1, n_of, nz6, nz4, bI_T, bI_F, bI_01, n_lt, n_le, n_eq, n_add, n_mul, n_sub, n_clamp, n_vp, m_lt, m_le, m_eq, m_eq2, m_ltm, m_add, true_and, and_true, eq_self, if_pos, if_neg, List.length_nil, List.length_cons, Nat.reduceAdd, Nat.reduceLeDiff, Nat.zero_le, not_true_eq_false, not_false_eq_true, true_or, or_true]
  · rw [bI_f (fun z => e z.2)]
    simp (disch := omega) only [m_unlike R h, u7020_0, u7020_1, u7020_4, u7020_7, u7020_8, u7020_11, u7020_14, u7020_15, u7020_18, u7020_19, u7020_22, u7020_23, ob_70, gt_70_0, xl_71, ki_0, ki_1, ki_1615, af_x hd_7020, decide_eq_true_eq, if_true, if_false, f2_ne, f2_eq, up_ne, up_eq, kc_int, kc_ref, kc_retAddr, kc_long, kc_double, af_n, af_v, z0, z1, n_of, nz6, nz4, bI_T, bI_F, bI_01, n_lt, n_le, n_eq, n_add, n_mul, n_sub, n_clamp, n_vp, m_lt, m_le, m_eq, m_eq2, m_ltm, m_add, true_and, and_true, eq_self, if_pos, if_neg, List.length_nil, List.length_cons, Nat.reduceAdd, Nat.reduceLeDiff, Nat.zero_le, not_true_eq_false, not_false_eq_true, true_or, or_true]
end M0
