/-! State's methods with loops, and those that stand on them -/
def chP (A : Nat → Nat → Int32) (h : Nat) : Nat → Bool := fun i => decide (¬ A 9 i = A 7 (h * 24 + i))
def dfP (A : Nat → Nat → Int32) (c o : Nat) : Nat → Bool := fun i => decide (¬ A 7 (c * 24 + i) = A 7 (o * 24 + i))
def fiP (A : Nat → Nat → Int32) : Nat → Bool := fun i => decide (¬ A 9 i = nI 0)
def coP (A : Nat → Nat → Int32) : Nat → Bool := fun i => decide (¬ A 10 i = m1)
def brP (A : Nat → Nat → Int32) : Nat → Bool := fun i => decide (¬ A 8 i = m1)
def meP (A : Nat → Nat → Int32) : Nat → Bool := fun i => decide (¬ A 6 i = m1)
section ST
variable {d cl sl : Nat} {X : am_X} {F A : Nat → Nat → Int32} {L : Nat → Nat → Int64} {P : am_Q}
theorem l_countChanged {h : Nat} (hh : h < 60) : ∀ (k i : Nat), i + k = 24 → am_g (d + 1) X am_m5024 9 [.ref 4, .int (nI h), .int (nI (cnt (chP A h) i)), .int (nI i)] [] (am_Z cl sl F A L) P = P (.inl (some (.int (nI (cnt (chP A h) 24))))) (am_Z cl sl F A L) := by
  intro k
  induction k with
  | zero =>
    intro i hi
    obtain rfl : i = 24 := by omega
    simp (disch := omega) only [u5024_0, u5024_1, u5024_4, u5024_5, u5024_6, u5024_7, u5024_8, u5024_9, u5024_10, u5024_12, u5024_15, u5024_16, u5024_19, u5024_20, u5024_21, u5024_22, u5024_23, u5024_24, u5024_27, u5024_30, u5024_33, u5024_36, u5024_39, u5024_40, ob_4, gt_4_6, xl_9, ki_0, ki_1, ki_24, af_x hd_5024, decide_eq_true_eq, if_true, if_false, f2_ne, f2_eq, up_ne, up_eq, kc_int, kc_ref, kc_retAddr, kc_long, kc_double, af_n, af_v, z0, z1, n_of, nz6, nz4, bI_T, bI_F, bI_01, n_lt, n_le, n_eq, n_add, n_mul, n_sub, n_clamp, n_vp, m_lt, m_le, m_eq, m_eq2, m_ltm, m_add, true_and, and_true, eq_self, if_pos, if_neg, List.length_nil, List.length_cons, Nat.reduceAdd, Nat.reduceLeDiff, Nat.zero_le, not_true_eq_false, not_false_eq_true, true_or, or_true]
  | succ k ih =>
    intro i hi
    rw [u5024_9]
    simp (disch := omega) only [s_treeLine, u5024_0, u5024_1, u5024_4, u5024_5, u5024_6, u5024_7, u5024_8, u5024_10, u5024_12, u5024_15, u5024_16, u5024_19, u5024_20, u5024_21, u5024_22, u5024_23, u5024_24, u5024_27, u5024_30, u5024_33, u5024_36, u5024_39, u5024_40, ob_4, gt_4_6, xl_9, ki_0, ki_1, ki_24, af_x hd_5024, decide_eq_true_eq, if_true, if_false, f2_ne, f2_eq, up_ne, up_eq, kc_int, kc_ref, kc_retAddr, kc_long, kc_double, af_n, af_v, z0, z1, n_of, nz6, nz4, bI_T, bI_F, bI_01, n_lt, n_le, n_eq, n_add, n_mul, n_sub, n_clamp, n_vp, m_lt, m_le, m_eq, m_eq2, m_ltm, m_add, true_and, and_true, eq_self, if_pos, if_neg, List.length_nil, List.length_cons, Nat.reduceAdd, Nat.reduceLeDiff, Nat.zero_le, not_true_eq_false, not_false_eq_true, true_or, or_true]
    by_cases hv : A 9 i = A 7 (h * 24 + i)
    · rw [if_pos hv]
      have e : cnt (chP A h) (i + 1) = cnt (chP A h) i := cnt_f (by simp [chP, hv])
      have h2 := ih (i + 1) (by omega)
      rw [e] at h2
      exact h2
    · rw [if_neg hv]
      have e : cnt (chP A h) (i + 1) = cnt (chP A h) i + 1 := cnt_t (by simp [chP, hv])
      have h2 := ih (i + 1) (by omega)
      rw [e] at h2
      exact h2
theorem s_countChanged {b h : Nat} (hF : F 4 5 = nI b) (hb : b < 6) (hh : A 8 b = nI h) (h60 : h < 60) : am_Ca X (d + 2) 5024 [.ref 4] (am_Z cl sl F A L) P = P (.inl (some (.int (nI (cnt (chP A h) 24))))) (am_Z cl sl F A L) := by
  rw [c5024]
  simp (disch := omega) only [s_headCommit hF hb, hh, u5024_0, u5024_1, u5024_4, u5024_5, u5024_6, u5024_7, u5024_8, u5024_10, u5024_12, u5024_15, u5024_16, u5024_19, u5024_20, u5024_21, u5024_22, u5024_23, u5024_24, u5024_27, u5024_30, u5024_33, u5024_36, u5024_39, u5024_40, ob_4, gt_4_6, xl_9, ki_0, ki_1, ki_24, af_x hd_5024, decide_eq_true_eq, if_true, if_false, f2_ne, f2_eq, up_ne, up_eq, kc_int, kc_ref, kc_retAddr, kc_long, kc_double, af_n, af_v, z0, z1, n_of, nz6, nz4, bI_T, bI_F, bI_01, n_lt, n_le, n_eq, n_add, n_mul, n_sub, n_clamp, n_vp, m_lt, m_le, m_eq, m_eq2, m_ltm, m_add, true_and, and_true, eq_self, if_pos, if_neg, List.length_nil, List.length_cons, Nat.reduceAdd, Nat.reduceLeDiff, Nat.zero_le, not_true_eq_false, not_false_eq_true, true_or, or_true]
  exact l_countChanged h60 24 0 rfl
theorem l_countDifferences {c o : Nat} (hc : c < 60) (ho : o < 60) : ∀ (k i : Nat), i + k = 24 → am_g (d + 1) X am_m5009 5 [.ref 4, .int (nI c), .int (nI o), .int (nI (cnt (dfP A c o) i)), .int (nI i)] [] (am_Z cl sl F A L) P = P (.inl (some (.int (nI (cnt (dfP A c o) 24))))) (am_Z cl sl F A L) := by
  intro k
  induction k with
  | zero =>
    intro i hi
    obtain rfl : i = 24 := by omega
    simp (disch := omega) only [u5009_0, u5009_1, u5009_2, u5009_3, u5009_5, u5009_7, u5009_9, u5009_12, u5009_13, u5009_14, u5009_16, u5009_19, u5009_20, u5009_21, u5009_23, u5009_26, u5009_29, u5009_32, u5009_35, u5009_38, u5009_39, ob_4, ki_0, ki_1, ki_24, af_x hd_5009, decide_eq_true_eq, if_true, if_false, f2_ne, f2_eq, up_ne, up_eq, kc_int, kc_ref, kc_retAddr, kc_long, kc_double, af_n, af_v, z0, z1, n_of, nz6, nz4, bI_T, bI_F, bI_01, n_lt, n_le, n_eq, n_add, n_mul, n_sub, n_clamp, n_vp, m_lt, m_le, m_eq, m_eq2, m_ltm, m_add, true_and, and_true, eq_self, if_pos, if_neg, List.length_nil, List.length_cons, Nat.reduceAdd, Nat.reduceLeDiff, Nat.zero_le, not_true_eq_false, not_false_eq_true, true_or, or_true]
  | succ k ih =>
    intro i hi
    rw [u5009_5]
    simp (disch := omega) only [s_treeLine, u5009_0, u5009_1, u5009_2, u5009_3, u5009_7, u5009_9, u5009_12, u5009_13, u5009_14, u5009_16, u5009_19, u5009_20, u5009_21, u5009_23, u5009_26, u5009_29, u5009_32, u5009_35, u5009_38, u5009_39, ob_4, ki_0, ki_1, ki_24, af_x hd_5009, decide_eq_true_eq, if_true, if_false, f2_ne, f2_eq, up_ne, up_eq, kc_int, kc_ref, kc_retAddr, kc_long, kc_double, af_n, af_v, z0, z1, n_of, nz6, nz4, bI_T, bI_F, bI_01, n_lt, n_le, n_eq, n_add, n_mul, n_sub, n_clamp, n_vp, m_lt, m_le, m_eq, m_eq2, m_ltm, m_add, true_and, and_true, eq_self, if_pos, if_neg, List.length_nil, List.length_cons, Nat.reduceAdd, Nat.reduceLeDiff, Nat.zero_le, not_true_eq_false, not_false_eq_true, true_or, or_true]
    by_cases hv : A 7 (c * 24 + i) = A 7 (o * 24 + i)
    · rw [if_pos hv]
      have e : cnt (dfP A c o) (i + 1) = cnt (dfP A c o) i := cnt_f (by simp [dfP, hv])
      have h2 := ih (i + 1) (by omega)
      rw [e] at h2
      exact h2
    · rw [if_neg hv]
      have e : cnt (dfP A c o) (i + 1) = cnt (dfP A c o) i + 1 := cnt_t (by simp [dfP, hv])
      have h2 := ih (i + 1) (by omega)
      rw [e] at h2
      exact h2
theorem s_countDifferences {c o : Nat} (hc : c < 60) (ho : o < 60) : am_Ca X (d + 2) 5009 [.ref 4, .int (nI c), .int (nI o)] (am_Z cl sl F A L) P = P (.inl (some (.int (nI (cnt (dfP A c o) 24))))) (am_Z cl sl F A L) := by
  rw [c5009]
  simp (disch := omega) only [u5009_0, u5009_1, u5009_2, u5009_3, u5009_7, u5009_9, u5009_12, u5009_13, u5009_14, u5009_16, u5009_19, u5009_20, u5009_21, u5009_23, u5009_26, u5009_29, u5009_32, u5009_35, u5009_38, u5009_39, ob_4, ki_0, ki_1, ki_24, af_x hd_5009, decide_eq_true_eq, if_true, if_false, f2_ne, f2_eq, up_ne, up_eq, kc_int, kc_ref, kc_retAddr, kc_long, kc_double, af_n, af_v, z0, z1, n_of, nz6, nz4, bI_T, bI_F, bI_01, n_lt, n_le, n_eq, n_add, n_mul, n_sub, n_clamp, n_vp, m_lt, m_le, m_eq, m_eq2, m_ltm, m_add, true_and, and_true, eq_self, if_pos, if_neg, List.length_nil, List.length_cons, Nat.reduceAdd, Nat.reduceLeDiff, Nat.zero_le, not_true_eq_false, not_false_eq_true, true_or, or_true]
  exact l_countDifferences hc ho 24 0 rfl
theorem l_countFilled  : ∀ (k i : Nat), i + k = 24 → am_g (d) X am_m5025 4 [.ref 4, .int (nI (cnt (fiP A) i)), .int (nI i)] [] (am_Z cl sl F A L) P = P (.inl (some (.int (nI (cnt (fiP A) 24))))) (am_Z cl sl F A L) := by
  intro k
  induction k with
  | zero =>
    intro i hi
    obtain rfl : i = 24 := by omega
    rw [u5025_4]
    simp (disch := omega) only [u5025_0, u5025_1, u5025_2, u5025_3, u5025_5, u5025_7, u5025_10, u5025_11, u5025_14, u5025_15, u5025_16, u5025_19, u5025_22, u5025_25, u5025_28, u5025_29, gt_4_6, xl_9, ki_0, ki_1, ki_24, af_x hd_5025, decide_eq_true_eq, if_true, if_false, f2_ne, f2_eq, up_ne, up_eq, kc_int, kc_ref, kc_retAddr, kc_long, kc_double, af_n, af_v, z0, z1, n_of, nz6, nz4, bI_T, bI_F, bI_01, n_lt, n_le, n_eq, n_add, n_mul, n_sub, n_clamp, n_vp, m_lt, m_le, m_eq, m_eq2, m_ltm, m_add, true_and, and_true, eq_self, if_pos, if_neg, List.length_nil, List.length_cons, Nat.reduceAdd, Nat.reduceLeDiff, Nat.zero_le, not_true_eq_false, not_false_eq_true, true_or, or_true]
  | succ k ih =>
    intro i hi
    rw [u5025_4]
    by_cases hv : A 9 i = nI 0
    · simp (disch := omega) only [hv, u5025_0, u5025_1, u5025_2, u5025_3, u5025_5, u5025_7, u5025_10, u5025_11, u5025_14, u5025_15, u5025_16, u5025_19, u5025_22, u5025_25, u5025_28, u5025_29, gt_4_6, xl_9, ki_0, ki_1, ki_24, af_x hd_5025, decide_eq_true_eq, if_true, if_false, f2_ne, f2_eq, up_ne, up_eq, kc_int, kc_ref, kc_retAddr, kc_long, kc_double, af_n, af_v, z0, z1, n_of, nz6, nz4, bI_T, bI_F, bI_01, n_lt, n_le, n_eq, n_add, n_mul, n_sub, n_clamp, n_vp, m_lt, m_le, m_eq, m_eq2, m_ltm, m_add, true_and, and_true, eq_self, if_pos, if_neg, List.length_nil, List.length_cons, Nat.reduceAdd, Nat.reduceLeDiff, Nat.zero_le, not_true_eq_false, not_false_eq_true, true_or, or_true]
      have e : cnt (fiP A) (i + 1) = cnt (fiP A) i := cnt_f (by simp [fiP, hv])
      have h2 := ih (i + 1) (by omega)
      rw [e] at h2
      exact h2
    · simp (disch := omega) only [hv, u5025_0, u5025_1, u5025_2, u5025_3, u5025_5, u5025_7, u5025_10, u5025_11, u5025_14, u5025_15, u5025_16, u5025_19, u5025_22, u5025_25, u5025_28, u5025_29, gt_4_6, xl_9, ki_0, ki_1, ki_24, af_x hd_5025, decide_eq_true_eq, if_true, if_false, f2_ne, f2_eq, up_ne, up_eq, kc_int, kc_ref, kc_retAddr, kc_long, kc_double, af_n, af_v, z0, z1, n_of, nz6, nz4, bI_T, bI_F, bI_01, n_lt, n_le, n_eq, n_add, n_mul, n_sub, n_clamp, n_vp, m_lt, m_le, m_eq, m_eq2, m_ltm, m_add, true_and, and_true, eq_self, if_pos, if_neg, List.length_nil, List.length_cons, Nat.reduceAdd, Nat.reduceLeDiff, Nat.zero_le, not_true_eq_false, not_false_eq_true, true_or, or_true]
      have e : cnt (fiP A) (i + 1) = cnt (fiP A) i + 1 := cnt_t (by simp [fiP, hv])
      have h2 := ih (i + 1) (by omega)
      rw [e] at h2
      exact h2

theorem s_countFilled : am_Ca X (d + 1) 5025 [.ref 4] (am_Z cl sl F A L) P = P (.inl (some (.int (nI (cnt (fiP A) 24))))) (am_Z cl sl F A L) := by
  rw [c5025]
  simp (disch := omega) only [u5025_0, u5025_1, u5025_2, u5025_3, u5025_5, u5025_7, u5025_10, u5025_11, u5025_14, u5025_15, u5025_16, u5025_19, u5025_22, u5025_25, u5025_28, u5025_29, gt_4_6, xl_9, ki_0, ki_1, ki_24, af_x hd_5025, decide_eq_true_eq, if_true, if_false, f2_ne, f2_eq, up_ne, up_eq, kc_int, kc_ref, kc_retAddr, kc_long, kc_double, af_n, af_v, z0, z1, n_of, nz6, nz4, bI_T, bI_F, bI_01, n_lt, n_le, n_eq, n_add, n_mul, n_sub, n_clamp, n_vp, m_lt, m_le, m_eq, m_eq2, m_ltm, m_add, true_and, and_true, eq_self, if_pos, if_neg, List.length_nil, List.length_cons, Nat.reduceAdd, Nat.reduceLeDiff, Nat.zero_le, not_true_eq_false, not_false_eq_true, true_or, or_true]
  exact l_countFilled 24 0 rfl
theorem l_countConflicts : ∀ (k i : Nat), i + k = 24 → am_g (d + 2) X am_m5029 4 [.ref 4, .int (nI (cnt (coP A) i)), .int (nI i)] [] (am_Z cl sl F A L) P = P (.inl (some (.int (nI (cnt (coP A) 24))))) (am_Z cl sl F A L) := by
  intro k
  induction k with
  | zero =>
    intro i hi
    obtain rfl : i = 24 := by omega
    simp (disch := omega) only [u5029_0, u5029_1, u5029_2, u5029_3, u5029_4, u5029_5, u5029_7, u5029_10, u5029_11, u5029_12, u5029_15, u5029_18, u5029_21, u5029_24, u5029_27, u5029_28, ob_4, ki_0, ki_1, ki_24, af_x hd_5029, decide_eq_true_eq, if_true, if_false, f2_ne, f2_eq, up_ne, up_eq, kc_int, kc_ref, kc_retAddr, kc_long, kc_double, af_n, af_v, z0, z1, n_of, nz6, nz4, bI_T, bI_F, bI_01, n_lt, n_le, n_eq, n_add, n_mul, n_sub, n_clamp, n_vp, m_lt, m_le, m_eq, m_eq2, m_ltm, m_add, true_and, and_true, eq_self, if_pos, if_neg, List.length_nil, List.length_cons, Nat.reduceAdd, Nat.reduceLeDiff, Nat.zero_le, not_true_eq_false, not_false_eq_true, true_or, or_true]
  | succ k ih =>
    intro i hi
    rw [u5029_4]
    by_cases hv : A 10 i = m1
    · simp (disch := omega) only [s_isInConflict, hv, u5029_0, u5029_1, u5029_2, u5029_3, u5029_5, u5029_7, u5029_10, u5029_11, u5029_12, u5029_15, u5029_18, u5029_21, u5029_24, u5029_27, u5029_28, ob_4, ki_0, ki_1, ki_24, af_x hd_5029, decide_eq_true_eq, if_true, if_false, f2_ne, f2_eq, up_ne, up_eq, kc_int, kc_ref, kc_retAddr, kc_long, kc_double, af_n, af_v, z0, z1, n_of, nz6, nz4, bI_T, bI_F, bI_01, n_lt, n_le, n_eq, n_add, n_mul, n_sub, n_clamp, n_vp, m_lt, m_le, m_eq, m_eq2, m_ltm, m_add, true_and, and_true, eq_self, if_pos, if_neg, List.length_nil, List.length_cons, Nat.reduceAdd, Nat.reduceLeDiff, Nat.zero_le, not_true_eq_false, not_false_eq_true, true_or, or_true]
      have e : cnt (coP A) (i + 1) = cnt (coP A) i := cnt_f (by simp [coP, hv])
      have h2 := ih (i + 1) (by omega)
      rw [e] at h2
      exact h2
    · simp (disch := omega) only [s_isInConflict, hv, u5029_0, u5029_1, u5029_2, u5029_3, u5029_5, u5029_7, u5029_10, u5029_11, u5029_12, u5029_15, u5029_18, u5029_21, u5029_24, u5029_27, u5029_28, ob_4, ki_0, ki_1, ki_24, af_x hd_5029, decide_eq_true_eq, if_true, if_false, f2_ne, f2_eq, up_ne, up_eq, kc_int, kc_ref, kc_retAddr, kc_long, kc_double, af_n, af_v, z0, z1, n_of, nz6, nz4, bI_T, bI_F, bI_01, n_lt, n_le, n_eq, n_add, n_mul, n_sub, n_clamp, n_vp, m_lt, m_le, m_eq, m_eq2, m_ltm, m_add, true_and, and_true, eq_self, if_pos, if_neg, List.length_nil, List.length_cons, Nat.reduceAdd, Nat.reduceLeDiff, Nat.zero_le, not_true_eq_false, not_false_eq_true, true_or, or_true]
      have e : cnt (coP A) (i + 1) = cnt (coP A) i + 1 := cnt_t (by simp [coP, hv])
      have h2 := ih (i + 1) (by omega)
      rw [e] at h2
      exact h2
theorem s_countConflicts : am_Ca X (d + 3) 5029 [.ref 4] (am_Z cl sl F A L) P = P (.inl (some (.int (nI (cnt (coP A) 24))))) (am_Z cl sl F A L) := by
  rw [c5029]
  simp (disch := omega) only [u5029_0, u5029_1, u5029_2, u5029_3, u5029_5, u5029_7, u5029_10, u5029_11, u5029_12, u5029_15, u5029_18, u5029_21, u5029_24, u5029_27, u5029_28, ob_4, ki_0, ki_1, ki_24, af_x hd_5029, decide_eq_true_eq, if_true, if_false, f2_ne, f2_eq, up_ne, up_eq, kc_int, kc_ref, kc_retAddr, kc_long, kc_double, af_n, af_v, z0, z1, n_of, nz6, nz4, bI_T, bI_F, bI_01, n_lt, n_le, n_eq, n_add, n_mul, n_sub, n_clamp, n_vp, m_lt, m_le, m_eq, m_eq2, m_ltm, m_add, true_and, and_true, eq_self, if_pos, if_neg, List.length_nil, List.length_cons, Nat.reduceAdd, Nat.reduceLeDiff, Nat.zero_le, not_true_eq_false, not_false_eq_true, true_or, or_true]
  exact l_countConflicts 24 0 rfl
theorem l_countBranches : ∀ (k i : Nat), i + k = 6 → am_g (d + 2) X am_m5017 4 [.ref 4, .int (nI (cnt (brP A) i)), .int (nI i)] [] (am_Z cl sl F A L) P = P (.inl (some (.int (nI (cnt (brP A) 6))))) (am_Z cl sl F A L) := by
  intro k
  induction k with
  | zero =>
    intro i hi
    obtain rfl : i = 6 := by omega
    simp (disch := omega) only [u5017_0, u5017_1, u5017_2, u5017_3, u5017_4, u5017_5, u5017_7, u5017_10, u5017_11, u5017_12, u5017_15, u5017_18, u5017_21, u5017_24, u5017_27, u5017_28, ob_4, ki_0, ki_1, ki_6, af_x hd_5017, decide_eq_true_eq, if_true, if_false, f2_ne, f2_eq, up_ne, up_eq, kc_int, kc_ref, kc_retAddr, kc_long, kc_double, af_n, af_v, z0, z1, n_of, nz6, nz4, bI_T, bI_F, bI_01, n_lt, n_le, n_eq, n_add, n_mul, n_sub, n_clamp, n_vp, m_lt, m_le, m_eq, m_eq2, m_ltm, m_add, true_and, and_true, eq_self, if_pos, if_neg, List.length_nil, List.length_cons, Nat.reduceAdd, Nat.reduceLeDiff, Nat.zero_le, not_true_eq_false, not_false_eq_true, true_or, or_true]
  | succ k ih =>
    intro i hi
    rw [u5017_4]
    by_cases hv : A 8 i = m1
    · simp (disch := omega) only [s_hasBranch, hv, u5017_0, u5017_1, u5017_2, u5017_3, u5017_5, u5017_7, u5017_10, u5017_11, u5017_12, u5017_15, u5017_18, u5017_21, u5017_24, u5017_27, u5017_28, ob_4, ki_0, ki_1, ki_6, af_x hd_5017, decide_eq_true_eq, if_true, if_false, f2_ne, f2_eq, up_ne, up_eq, kc_int, kc_ref, kc_retAddr, kc_long, kc_double, af_n, af_v, z0, z1, n_of, nz6, nz4, bI_T, bI_F, bI_01, n_lt, n_le, n_eq, n_add, n_mul, n_sub, n_clamp, n_vp, m_lt, m_le, m_eq, m_eq2, m_ltm, m_add, true_and, and_true, eq_self, if_pos, if_neg, List.length_nil, List.length_cons, Nat.reduceAdd, Nat.reduceLeDiff, Nat.zero_le, not_true_eq_false, not_false_eq_true, true_or, or_true]
      have e : cnt (brP A) (i + 1) = cnt (brP A) i := cnt_f (by simp [brP, hv])
      have h2 := ih (i + 1) (by omega)
      rw [e] at h2
      exact h2
    · simp (disch := omega) only [s_hasBranch, hv, u5017_0, u5017_1, u5017_2, u5017_3, u5017_5, u5017_7, u5017_10, u5017_11, u5017_12, u5017_15, u5017_18, u5017_21, u5017_24, u5017_27, u5017_28, ob_4, ki_0, ki_1, ki_6, af_x hd_5017, decide_eq_true_eq, if_true, if_false, f2_ne, f2_eq, up_ne, up_eq, kc_int, kc_ref, kc_retAddr, kc_long, kc_double, af_n, af_v, z0, z1, n_of, nz6, nz4, bI_T, bI_F, bI_01, n_lt, n_le, n_eq, n_add, n_mul, n_sub, n_clamp, n_vp, m_lt, m_le, m_eq, m_eq2, m_ltm, m_add, true_and, and_true, eq_self, if_pos, if_neg, List.length_nil, List.length_cons, Nat.reduceAdd, Nat.reduceLeDiff, Nat.zero_le, not_true_eq_false, not_false_eq_true, true_or, or_true]
      have e : cnt (brP A) (i + 1) = cnt (brP A) i + 1 := cnt_t (by simp [brP, hv])
      have h2 := ih (i + 1) (by omega)
      rw [e] at h2
      exact h2
theorem s_countBranches : am_Ca X (d + 3) 5017 [.ref 4] (am_Z cl sl F A L) P = P (.inl (some (.int (nI (cnt (brP A) 6))))) (am_Z cl sl F A L) := by
  rw [c5017]
  simp (disch := omega) only [u5017_0, u5017_1, u5017_2, u5017_3, u5017_5, u5017_7, u5017_10, u5017_11, u5017_12, u5017_15, u5017_18, u5017_21, u5017_24, u5017_27, u5017_28, ob_4, ki_0, ki_1, ki_6, af_x hd_5017, decide_eq_true_eq, if_true, if_false, f2_ne, f2_eq, up_ne, up_eq, kc_int, kc_ref, kc_retAddr, kc_long, kc_double, af_n, af_v, z0, z1, n_of, nz6, nz4, bI_T, bI_F, bI_01, n_lt, n_le, n_eq, n_add, n_mul, n_sub, n_clamp, n_vp, m_lt, m_le, m_eq, m_eq2, m_ltm, m_add, true_and, and_true, eq_self, if_pos, if_neg, List.length_nil, List.length_cons, Nat.reduceAdd, Nat.reduceLeDiff, Nat.zero_le, not_true_eq_false, not_false_eq_true, true_or, or_true]
  exact l_countBranches 6 0 rfl
theorem l_countMerges {n : Nat} (hn : F 4 0 = nI n) (h60 : n ≤ 60) : ∀ (k i : Nat), i + k = n → am_g (d + 1) X am_m5010 4 [.ref 4, .int (nI (cnt (meP A) i)), .int (nI i)] [] (am_Z cl sl F A L) P = P (.inl (some (.int (nI (cnt (meP A) n))))) (am_Z cl sl F A L) := by
  intro k
  induction k with
  | zero =>
    intro i hi
    obtain rfl : i = n := by omega
    simp (disch := omega) only [hn, u5010_0, u5010_1, u5010_2, u5010_3, u5010_4, u5010_5, u5010_6, u5010_9, u5010_12, u5010_13, u5010_14, u5010_17, u5010_18, u5010_21, u5010_24, u5010_27, u5010_30, u5010_31, gt_4_0, ob_4, ki_m1, ki_0, ki_1, af_x hd_5010, decide_eq_true_eq, if_true, if_false, f2_ne, f2_eq, up_ne, up_eq, kc_int, kc_ref, kc_retAddr, kc_long, kc_double, af_n, af_v, z0, z1, n_of, nz6, nz4, bI_T, bI_F, bI_01, n_lt, n_le, n_eq, n_add, n_mul, n_sub, n_clamp, n_vp, m_lt, m_le, m_eq, m_eq2, m_ltm, m_add, true_and, and_true, eq_self, if_pos, if_neg, List.length_nil, List.length_cons, Nat.reduceAdd, Nat.reduceLeDiff, Nat.zero_le, not_true_eq_false, not_false_eq_true, true_or, or_true]
  | succ k ih =>
    intro i hi
    rw [u5010_4]
    have hp2 : p2 A n i = A 6 i := by unfold p2; rw [if_pos (by omega)]
    by_cases hv : A 6 i = m1
    · simp (disch := omega) only [hn, s_parentTwo hn h60, hp2, hv, u5010_0, u5010_1, u5010_2, u5010_3, u5010_5, u5010_6, u5010_9, u5010_12, u5010_13, u5010_14, u5010_17, u5010_18, u5010_21, u5010_24, u5010_27, u5010_30, u5010_31, gt_4_0, ob_4, ki_m1, ki_0, ki_1, af_x hd_5010, decide_eq_true_eq, if_true, if_false, f2_ne, f2_eq, up_ne, up_eq, kc_int, kc_ref, kc_retAddr, kc_long, kc_double, af_n, af_v, z0, z1, n_of, nz6, nz4, bI_T, bI_F, bI_01, n_lt, n_le, n_eq, n_add, n_mul, n_sub, n_clamp, n_vp, m_lt, m_le, m_eq, m_eq2, m_ltm, m_add, true_and, and_true, eq_self, if_pos, if_neg, List.length_nil, List.length_cons, Nat.reduceAdd, Nat.reduceLeDiff, Nat.zero_le, not_true_eq_false, not_false_eq_true, true_or, or_true]
      have e : cnt (meP A) (i + 1) = cnt (meP A) i := cnt_f (by simp [meP, hv])
      have h2 := ih (i + 1) (by omega)
      rw [e] at h2
      exact h2
    · simp (disch := omega) only [hn, s_parentTwo hn h60, hp2, hv, u5010_0, u5010_1, u5010_2, u5010_3, u5010_5, u5010_6, u5010_9, u5010_12, u5010_13, u5010_14, u5010_17, u5010_18, u5010_21, u5010_24, u5010_27, u5010_30, u5010_31, gt_4_0, ob_4, ki_m1, ki_0, ki_1, af_x hd_5010, decide_eq_true_eq, if_true, if_false, f2_ne, f2_eq, up_ne, up_eq, kc_int, kc_ref, kc_retAddr, kc_long, kc_double, af_n, af_v, z0, z1, n_of, nz6, nz4, bI_T, bI_F, bI_01, n_lt, n_le, n_eq, n_add, n_mul, n_sub, n_clamp, n_vp, m_lt, m_le, m_eq, m_eq2, m_ltm, m_add, true_and, and_true, eq_self, if_pos, if_neg, List.length_nil, List.length_cons, Nat.reduceAdd, Nat.reduceLeDiff, Nat.zero_le, not_true_eq_false, not_false_eq_true, true_or, or_true]
      have e : cnt (meP A) (i + 1) = cnt (meP A) i + 1 := cnt_t (by simp [meP, hv])
      have h2 := ih (i + 1) (by omega)
      rw [e] at h2
      exact h2
theorem s_countMerges {n : Nat} (hn : F 4 0 = nI n) (h60 : n ≤ 60) : am_Ca X (d + 2) 5010 [.ref 4] (am_Z cl sl F A L) P = P (.inl (some (.int (nI (cnt (meP A) n))))) (am_Z cl sl F A L) := by
  rw [c5010]
  simp (disch := omega) only [u5010_0, u5010_1, u5010_2, u5010_3, u5010_5, u5010_6, u5010_9, u5010_12, u5010_13, u5010_14, u5010_17, u5010_18, u5010_21, u5010_24, u5010_27, u5010_30, u5010_31, gt_4_0, ob_4, ki_m1, ki_0, ki_1, af_x hd_5010, decide_eq_true_eq, if_true, if_false, f2_ne, f2_eq, up_ne, up_eq, kc_int, kc_ref, kc_retAddr, kc_long, kc_double, af_n, af_v, z0, z1, n_of, nz6, nz4, bI_T, bI_F, bI_01, n_lt, n_le, n_eq, n_add, n_mul, n_sub, n_clamp, n_vp, m_lt, m_le, m_eq, m_eq2, m_ltm, m_add, true_and, and_true, eq_self, if_pos, if_neg, List.length_nil, List.length_cons, Nat.reduceAdd, Nat.reduceLeDiff, Nat.zero_le, not_true_eq_false, not_false_eq_true, true_or, or_true]
  exact l_countMerges hn h60 n 0 (by omega)
/-- the lowest free branch: b, or none -/
def lfb (A : Nat → Nat → Int32) : Nat → Nat → Int32
  | 0, _ => m1
  | k + 1, i => if A 8 i = m1 then nI i else lfb A k (i + 1)
theorem l_lowestFreeBranch : ∀ (k i : Nat), i + k = 6 → am_g (d + 2) X am_m5018 2 [.ref 4, .int (nI i)] [] (am_Z cl sl F A L) P = P (.inl (some (.int (lfb A k i)))) (am_Z cl sl F A L) := by
  intro k
  induction k with
  | zero =>
    intro i hi
    obtain rfl : i = 6 := by omega
    simp (disch := omega) only [lfb, u5018_0, u5018_1, u5018_2, u5018_3, u5018_5, u5018_8, u5018_9, u5018_10, u5018_13, u5018_16, u5018_17, u5018_18, u5018_21, u5018_24, u5018_25, ob_4, ki_m1, ki_0, ki_1, ki_6, af_x hd_5018, decide_eq_true_eq, if_true, if_false, f2_ne, f2_eq, up_ne, up_eq, kc_int, kc_ref, kc_retAddr, kc_long, kc_double, af_n, af_v, z0, z1, n_of, nz6, nz4, bI_T, bI_F, bI_01, n_lt, n_le, n_eq, n_add, n_mul, n_sub, n_clamp, n_vp, m_lt, m_le, m_eq, m_eq2, m_ltm, m_add, true_and, and_true, eq_self, if_pos, if_neg, List.length_nil, List.length_cons, Nat.reduceAdd, Nat.reduceLeDiff, Nat.zero_le, not_true_eq_false, not_false_eq_true, true_or, or_true]
  | succ k ih =>
    intro i hi
    rw [u5018_2]
    unfold lfb
    by_cases hv : A 8 i = m1
    · simp (disch := omega) only [s_hasBranch, hv, u5018_0, u5018_1, u5018_3, u5018_5, u5018_8, u5018_9, u5018_10, u5018_13, u5018_16, u5018_17, u5018_18, u5018_21, u5018_24, u5018_25, ob_4, ki_m1, ki_0, ki_1, ki_6, af_x hd_5018, decide_eq_true_eq, if_true, if_false, f2_ne, f2_eq, up_ne, up_eq, kc_int, kc_ref, kc_retAddr, kc_long, kc_double, af_n, af_v, z0, z1, n_of, nz6, nz4, bI_T, bI_F, bI_01, n_lt, n_le, n_eq, n_add, n_mul, n_sub, n_clamp, n_vp, m_lt, m_le, m_eq, m_eq2, m_ltm, m_add, true_and, and_true, eq_self, if_pos, if_neg, List.length_nil, List.length_cons, Nat.reduceAdd, Nat.reduceLeDiff, Nat.zero_le, not_true_eq_false, not_false_eq_true, true_or, or_true]
    · simp (disch := omega) only [s_hasBranch, hv, u5018_0, u5018_1, u5018_3, u5018_5, u5018_8, u5018_9, u5018_10, u5018_13, u5018_16, u5018_17, u5018_18, u5018_21, u5018_24, u5018_25, ob_4, ki_m1, ki_0, ki_1, ki_6, af_x hd_5018, decide_eq_true_eq, if_true, if_false, f2_ne, f2_eq, up_ne, up_eq, kc_int, kc_ref, kc_retAddr, kc_long, kc_double, af_n, af_v, z0, z1, n_of, nz6, nz4, bI_T, bI_F, bI_01, n_lt, n_le, n_eq, n_add, n_mul, n_sub, n_clamp, n_vp, m_lt, m_le, m_eq, m_eq2, m_ltm, m_add, true_and, and_true, eq_self, if_pos, if_neg, List.length_nil, List.length_cons, Nat.reduceAdd, Nat.reduceLeDiff, Nat.zero_le, not_true_eq_false, not_false_eq_true, true_or, or_true]
      exact ih (i + 1) (by omega)
theorem s_lowestFreeBranch : am_Ca X (d + 3) 5018 [.ref 4] (am_Z cl sl F A L) P = P (.inl (some (.int (lfb A 6 0)))) (am_Z cl sl F A L) := by
  rw [c5018]
  simp (disch := omega) only [u5018_0, u5018_1, u5018_3, u5018_5, u5018_8, u5018_9, u5018_10, u5018_13, u5018_16, u5018_17, u5018_18, u5018_21, u5018_24, u5018_25, ob_4, ki_m1, ki_0, ki_1, ki_6, af_x hd_5018, decide_eq_true_eq, if_true, if_false, f2_ne, f2_eq, up_ne, up_eq, kc_int, kc_ref, kc_retAddr, kc_long, kc_double, af_n, af_v, z0, z1, n_of, nz6, nz4, bI_T, bI_F, bI_01, n_lt, n_le, n_eq, n_add, n_mul, n_sub, n_clamp, n_vp, m_lt, m_le, m_eq, m_eq2, m_ltm, m_add, true_and, and_true, eq_self, if_pos, if_neg, List.length_nil, List.length_cons, Nat.reduceAdd, Nat.reduceLeDiff, Nat.zero_le, not_true_eq_false, not_false_eq_true, true_or, or_true]
  exact l_lowestFreeBranch 6 0 rfl
theorem s_isAtRest {b h o : Nat} (hF : F 4 5 = nI b) (hb : b < 6) (hh : A 8 b = nI h) (h60 : h < 60) (ho : F 4 8 = nI o) (ho3 : o < 3) : am_Ca X (d + 3) 5026 [.ref 4] (am_Z cl sl F A L) P = P (.inl (some (.int (nI (if o = 0 ∧ cnt (chP A h) 24 = 0 then 1 else 0))))) (am_Z cl sl F A L) := by
  rw [c5026]
  have h1 := cnt_le (chP A h) 24
  by_cases h0 : o = 0
  · by_cases h2 : cnt (chP A h) 24 = 0
    · simp (disch := omega) only [ho, s_countChanged hF hb hh h60, u5026_0, u5026_1, u5026_4, u5026_7, u5026_8, u5026_11, u5026_14, u5026_15, u5026_18, u5026_19, gt_4_8, ob_4, ki_0, ki_1, af_x hd_5026, decide_eq_true_eq, if_true, if_false, f2_ne, f2_eq, up_ne, up_eq, kc_int, kc_ref, kc_retAddr, kc_long, kc_double, af_n, af_v, z0, z1, n_of, nz6, nz4, bI_T, bI_F, bI_01, n_lt, n_le, n_eq, n_add, n_mul, n_sub, n_clamp, n_vp, m_lt, m_le, m_eq, m_eq2, m_ltm, m_add, true_and, and_true, eq_self, if_pos, if_neg, List.length_nil, List.length_cons, Nat.reduceAdd, Nat.reduceLeDiff, Nat.zero_le, not_true_eq_false, not_false_eq_true, true_or, or_true]
    · simp (disch := omega) only [ho, s_countChanged hF hb hh h60, u5026_0, u5026_1, u5026_4, u5026_7, u5026_8, u5026_11, u5026_14, u5026_15, u5026_18, u5026_19, gt_4_8, ob_4, ki_0, ki_1, af_x hd_5026, decide_eq_true_eq, if_true, if_false, f2_ne, f2_eq, up_ne, up_eq, kc_int, kc_ref, kc_retAddr, kc_long, kc_double, af_n, af_v, z0, z1, n_of, nz6, nz4, bI_T, bI_F, bI_01, n_lt, n_le, n_eq, n_add, n_mul, n_sub, n_clamp, n_vp, m_lt, m_le, m_eq, m_eq2, m_ltm, m_add, true_and, and_true, eq_self, if_pos, if_neg, List.length_nil, List.length_cons, Nat.reduceAdd, Nat.reduceLeDiff, Nat.zero_le, not_true_eq_false, not_false_eq_true, true_or, or_true]
  · simp (disch := omega) only [ho, s_countChanged hF hb hh h60, u5026_0, u5026_1, u5026_4, u5026_7, u5026_8, u5026_11, u5026_14, u5026_15, u5026_18, u5026_19, gt_4_8, ob_4, ki_0, ki_1, af_x hd_5026, decide_eq_true_eq, if_true, if_false, f2_ne, f2_eq, up_ne, up_eq, kc_int, kc_ref, kc_retAddr, kc_long, kc_double, af_n, af_v, z0, z1, n_of, nz6, nz4, bI_T, bI_F, bI_01, n_lt, n_le, n_eq, n_add, n_mul, n_sub, n_clamp, n_vp, m_lt, m_le, m_eq, m_eq2, m_ltm, m_add, true_and, and_true, eq_self, if_pos, if_neg, List.length_nil, List.length_cons, Nat.reduceAdd, Nat.reduceLeDiff, Nat.zero_le, not_true_eq_false, not_false_eq_true, true_or, or_true]
/-- the current branch b stands at c: scalars, rows -/
def ksF (F : Nat → Nat → Int32) : Nat → Nat → Int32 := am_f2 (am_f2 F 4 8 (nI 0)) 4 9 m1
def ksA (A : Nat → Nat → Int32) (b c : Nat) : Nat → Nat → Int32 := va_up (va_up (am_f2 A 8 b (nI c)) 9 (va_cpy (A 7) (A 9) (c * 24) 0 24)) 10 (fil m1 24 (A 10))
theorem s_standAt {b c : Nat} (hF : F 4 5 = nI b) (hb : b < 6) (hc : c < 60) (hcl : 70 < cl) : am_Ca X (d + 2) 5020 [.ref 4, .int (nI c)] (am_Z cl sl F A L) P = P (.inl none) (am_Z cl sl (ksF F) (ksA A b c) L) := by
  rw [c5020]
  simp (disch := omega) only [hF, s_setBranch hb, s_copyTree hc (a := 9) (by decide) rfl hcl, s_fill (a := 10) (n := 24) (by decide) rfl (by decide), u5020_0, u5020_1, u5020_2, u5020_5, u5020_6, u5020_9, u5020_10, u5020_11, u5020_12, u5020_15, u5020_18, u5020_19, u5020_22, u5020_23, u5020_26, u5020_27, u5020_28, u5020_31, u5020_32, u5020_33, u5020_36, gt_4_5, ob_4, gt_4_6, gt_4_7, pt_4_8, pt_4_9, ki_m1, ki_0, af_x hd_5020, decide_eq_true_eq, if_true, if_false, f2_ne, f2_eq, up_ne, up_eq, kc_int, kc_ref, kc_retAddr, kc_long, kc_double, af_n, af_v, z0, z1, n_of, nz6, nz4, bI_T, bI_F, bI_01, n_lt, n_le, n_eq, n_add, n_mul, n_sub, n_clamp, n_vp, m_lt, m_le, m_eq, m_eq2, m_ltm, m_add, true_and, and_true, eq_self, if_pos, if_neg, List.length_nil, List.length_cons, Nat.reduceAdd, Nat.reduceLeDiff, Nat.zero_le, not_true_eq_false, not_false_eq_true, true_or, or_true]
  rfl
/-- a commit of the work: n commits were there, b is the current branch, h the head, v the second parent -/
def kcF (F : Nat → Nat → Int32) (n : Nat) : Nat → Nat → Int32 := ksF (am_f2 F 4 0 (nI (n + 1)))
def kcA (A : Nat → Nat → Int32) (n b h : Nat) (v : Int32) : Nat → Nat → Int32 := ksA (va_up (am_f2 (am_f2 A 5 n (nI h)) 6 n v) 7 (va_cpy (A 9) (A 7) 0 (n * 24) 24)) b n
theorem s_addCommit {n b h : Nat} {v : Int32} (hn : F 4 0 = nI n) (h60 : n < 60) (hF : F 4 5 = nI b) (hb : b < 6) (hh : A 8 b = nI h) (hcl : 70 < cl) : am_Ca X (d + 3) 5013 [.ref 4, .int v] (am_Z cl sl F A L) P = P (.inl (some (.int (nI n)))) (am_Z cl sl (kcF F n) (kcA A n b h v) L) := by
  rw [c5013]
  have hF2 : am_f2 F 4 0 (nI (n + 1)) 4 5 = nI b := by rw [f2_eq, up_ne (by decide), hF]
  simp (disch := omega) only [hn, s_headCommit hF hb, hh, cp_g (a := 9) (b := 7) (na := 24) (nb := 1440) (by decide) (by decide) rfl rfl, s_standAt (F := am_f2 F 4 0 (nI (n + 1))) hF2 hb h60 hcl, u5013_0, u5013_1, u5013_4, u5013_5, u5013_6, u5013_9, u5013_10, u5013_12, u5013_15, u5013_16, u5013_17, u5013_18, u5013_21, u5013_22, u5013_23, u5013_26, u5013_27, u5013_28, u5013_31, u5013_32, u5013_33, u5013_34, u5013_35, u5013_38, u5013_39, u5013_40, u5013_43, u5013_44, u5013_46, u5013_47, u5013_49, u5013_52, u5013_53i, u5013_53r, u5013_54, u5013_57, u5013_58, u5013_59, u5013_62, u5013_63, u5013_64, u5013_67, u5013_68, gt_4_0, gt_4_1, ob_4, gt_4_2, gt_4_6, gt_4_3, pt_4_0, xs_5, xs_6, xs_7, xs_9, ki_m1, ki_0, ki_1, ki_24, ki_60, af_x hd_5013, decide_eq_true_eq, if_true, if_false, f2_ne, f2_eq, up_ne, up_eq, kc_int, kc_ref, kc_retAddr, kc_long, kc_double, af_n, af_v, z0, z1, n_of, nz6, nz4, bI_T, bI_F, bI_01, n_lt, n_le, n_eq, n_add, n_mul, n_sub, n_clamp, n_vp, m_lt, m_le, m_eq, m_eq2, m_ltm, m_add, true_and, and_true, eq_self, if_pos, if_neg, List.length_nil, List.length_cons, Nat.reduceAdd, Nat.reduceLeDiff, Nat.zero_le, not_true_eq_false, not_false_eq_true, true_or, or_true]
  rfl
end ST
