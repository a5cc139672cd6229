/-! THE MODEL: what comes, what clashes -/
/-- a row of numbers lies at a -/
def at24 (f : Nat → Int32) (a : Nat) (o : Nat → Nat) : Prop := a ≤ 1740 ∧ ∀ i, i < 24 → f (a + i) = nI (o i) ∧ o i < 100
section M2
variable {d cl sl : Nat} {X : am_X} {F A : Nat → Nat → Int32} {L : Nat → Nat → Int64} {P : am_Q} {a b c : Nat} {o w t : Nat → Nat}
theorem m_comes (h1 : at24 (A 71) a o) (h2 : at24 (A 71) b w) (h3 : at24 (A 71) c t) {i : Nat} (hi : i < 24) : am_Ca X (d + 1) 7023 [.ref 70, .int (nI a), .int (nI b), .int (nI c), .int (nI i)] (am_Z cl sl F A L) P = P (.inl (some (.int (bI (kB o w t i = true))))) (am_Z cl sl F A L) := by
  obtain ⟨a1, a2⟩ := h1
  obtain ⟨b1, b2⟩ := h2
  obtain ⟨c1, c2⟩ := h3
  obtain ⟨e1, v1⟩ := a2 i hi
  obtain ⟨e2, v2⟩ := b2 i hi
  obtain ⟨e3, v3⟩ := c2 i hi
  rw [c7023]
  by_cases g1 : w i = o i
  · rw [bI_f (by simp [kB, g1])]
    simp (disch := omega) only [e1, e2, e3, g1, u7023_0, u7023_1, u7023_4, u7023_5, u7023_7, u7023_8, u7023_9, u7023_10, u7023_13, u7023_14, u7023_16, u7023_17, u7023_18, u7023_21, u7023_22, u7023_25, u7023_26, u7023_28, u7023_29, u7023_30, u7023_31, u7023_34, u7023_35, u7023_37, u7023_38, u7023_39, u7023_42, u7023_43, u7023_46, u7023_47, u7023_49, u7023_50, u7023_51, u7023_52, u7023_55, u7023_56, u7023_58, u7023_59, u7023_60, u7023_63, u7023_64, u7023_67, u7023_68, gt_70_0, xl_71, ki_0, ki_1, af_x hd_7023, decide_eq_true_eq, if_true, if_false, f2_ne, f2_eq, up_ne, up_eq, kc_int, kc_ref, kc_retAddr, kc_long, kc_double, af_n, af_v, z0, z1, n_of, nz6, nz4, bI_T, bI_F, bI_01, n_lt, n_le, n_eq, n_add, n_mul, n_sub, n_clamp, n_vp, m_lt, m_le, m_eq, m_eq2, m_ltm, m_add, true_and, and_true, eq_self, if_pos, if_neg, List.length_nil, List.length_cons, Nat.reduceAdd, Nat.reduceLeDiff, Nat.zero_le, not_true_eq_false, not_false_eq_true, true_or, or_true]
  · by_cases g2 : w i = t i
    · rw [bI_f (by simp [kB, g2])]
      simp (disch := omega) only [e1, e2, e3, u7023_0, u7023_1, u7023_4, u7023_5, u7023_7, u7023_8, u7023_9, u7023_10, u7023_13, u7023_14, u7023_16, u7023_17, u7023_18, u7023_21, u7023_22, u7023_25, u7023_26, u7023_28, u7023_29, u7023_30, u7023_31, u7023_34, u7023_35, u7023_37, u7023_38, u7023_39, u7023_42, u7023_43, u7023_46, u7023_47, u7023_49, u7023_50, u7023_51, u7023_52, u7023_55, u7023_56, u7023_58, u7023_59, u7023_60, u7023_63, u7023_64, u7023_67, u7023_68, gt_70_0, xl_71, ki_0, ki_1, af_x hd_7023, decide_eq_true_eq, if_true, if_false, f2_ne, f2_eq, up_ne, up_eq, kc_int, kc_ref, kc_retAddr, kc_long, kc_double, af_n, af_v, z0, z1, n_of, nz6, nz4, bI_T, bI_F, bI_01, n_lt, n_le, n_eq, n_add, n_mul, n_sub, n_clamp, n_vp, m_lt, m_le, m_eq, m_eq2, m_ltm, m_add, true_and, and_true, eq_self, if_pos, if_neg, List.length_nil, List.length_cons, Nat.reduceAdd, Nat.reduceLeDiff, Nat.zero_le, not_true_eq_false, not_false_eq_true, true_or, or_true]
    · by_cases g3 : t i = o i
      · rw [bI_t (by simp [kB, g1, g2, g3])]
        simp (disch := omega) only [e1, e2, e3, u7023_0, u7023_1, u7023_4, u7023_5, u7023_7, u7023_8, u7023_9, u7023_10, u7023_13, u7023_14, u7023_16, u7023_17, u7023_18, u7023_21, u7023_22, u7023_25, u7023_26, u7023_28, u7023_29, u7023_30, u7023_31, u7023_34, u7023_35, u7023_37, u7023_38, u7023_39, u7023_42, u7023_43, u7023_46, u7023_47, u7023_49, u7023_50, u7023_51, u7023_52, u7023_55, u7023_56, u7023_58, u7023_59, u7023_60, u7023_63, u7023_64, u7023_67, u7023_68, gt_70_0, xl_71, ki_0, ki_1, af_x hd_7023, decide_eq_true_eq, if_true, if_false, f2_ne, f2_eq, up_ne, up_eq, kc_int, kc_ref, kc_retAddr, kc_long, kc_double, af_n, af_v, z0, z1, n_of, nz6, nz4, bI_T, bI_F, bI_01, n_lt, n_le, n_eq, n_add, n_mul, n_sub, n_clamp, n_vp, m_lt, m_le, m_eq, m_eq2, m_ltm, m_add, true_and, and_true, eq_self, if_pos, if_neg, List.length_nil, List.length_cons, Nat.reduceAdd, Nat.reduceLeDiff, Nat.zero_le, not_true_eq_false, not_false_eq_true, true_or, or_true]
      · rw [bI_f (by simp [kB, g3])]
        simp (disch := omega) only [e1, e2, e3, u7023_0, u7023_1, u7023_4, u7023_5, u7023_7, u7023_8, u7023_9, u7023_10, u7023_13, u7023_14, u7023_16, u7023_17, u7023_18, u7023_21, u7023_22, u7023_25, u7023_26, u7023_28, u7023_29, u7023_30, u7023_31, u7023_34, u7023_35, u7023_37, u7023_38, u7023_39, u7023_42, u7023_43, u7023_46, u7023_47, u7023_49, u7023_50, u7023_51, u7023_52, u7023_55, u7023_56, u7023_58, u7023_59, u7023_60, u7023_63, u7023_64, u7023_67, u7023_68, gt_70_0, xl_71, ki_0, ki_1, af_x hd_7023, decide_eq_true_eq, if_true, if_false, f2_ne, f2_eq, up_ne, up_eq, kc_int, kc_ref, kc_retAddr, kc_long, kc_double, af_n, af_v, z0, z1, n_of, nz6, nz4, bI_T, bI_F, bI_01, n_lt, n_le, n_eq, n_add, n_mul, n_sub, n_clamp, n_vp, m_lt, m_le, m_eq, m_eq2, m_ltm, m_add, true_and, and_true, eq_self, if_pos, if_neg, List.length_nil, List.length_cons, Nat.reduceAdd, Nat.reduceLeDiff, Nat.zero_le, not_true_eq_false, not_false_eq_true, true_or, or_true]
theorem m_clash (h1 : at24 (A 71) a o) (h2 : at24 (A 71) b w) (h3 : at24 (A 71) c t) {i : Nat} (hi : i < 24) : am_Ca X (d + 1) 7024 [.ref 70, .int (nI a), .int (nI b), .int (nI c), .int (nI i)] (am_Z cl sl F A L) P = P (.inl (some (.int (bI (kC o w t i = true))))) (am_Z cl sl F A L) := by
  obtain ⟨a1, a2⟩ := h1
  obtain ⟨b1, b2⟩ := h2
  obtain ⟨c1, c2⟩ := h3
  obtain ⟨e1, v1⟩ := a2 i hi
  obtain ⟨e2, v2⟩ := b2 i hi
  obtain ⟨e3, v3⟩ := c2 i hi
  rw [c7024]
  by_cases g1 : w i = o i
  · rw [bI_f (by simp [kC, g1])]
    simp (disch := omega) only [e1, e2, e3, g1, u7024_0, u7024_1, u7024_4, u7024_5, u7024_7, u7024_8, u7024_9, u7024_10, u7024_13, u7024_14, u7024_16, u7024_17, u7024_18, u7024_21, u7024_22, u7024_25, u7024_26, u7024_28, u7024_29, u7024_30, u7024_31, u7024_34, u7024_35, u7024_37, u7024_38, u7024_39, u7024_42, u7024_43, u7024_46, u7024_47, u7024_49, u7024_50, u7024_51, u7024_52, u7024_55, u7024_56, u7024_58, u7024_59, u7024_60, u7024_63, u7024_64, u7024_67, u7024_68, gt_70_0, xl_71, ki_0, ki_1, af_x hd_7024, decide_eq_true_eq, if_true, if_false, f2_ne, f2_eq, up_ne, up_eq, kc_int, kc_ref, kc_retAddr, kc_long, kc_double, af_n, af_v, z0, z1, n_of, nz6, nz4, bI_T, bI_F, bI_01, n_lt, n_le, n_eq, n_add, n_mul, n_sub, n_clamp, n_vp, m_lt, m_le, m_eq, m_eq2, m_ltm, m_add, true_and, and_true, eq_self, if_pos, if_neg, List.length_nil, List.length_cons, Nat.reduceAdd, Nat.reduceLeDiff, Nat.zero_le, not_true_eq_false, not_false_eq_true, true_or, or_true]
  · by_cases g2 : w i = t i
    · rw [bI_f (by simp [kC, g2])]
      simp (disch := omega) only [e1, e2, e3, u7024_0, u7024_1, u7024_4, u7024_5, u7024_7, u7024_8, u7024_9, u7024_10, u7024_13, u7024_14, u7024_16, u7024_17, u7024_18, u7024_21, u7024_22, u7024_25, u7024_26, u7024_28, u7024_29, u7024_30, u7024_31, u7024_34, u7024_35, u7024_37, u7024_38, u7024_39, u7024_42, u7024_43, u7024_46, u7024_47, u7024_49, u7024_50, u7024_51, u7024_52, u7024_55, u7024_56, u7024_58, u7024_59, u7024_60, u7024_63, u7024_64, u7024_67, u7024_68, gt_70_0, xl_71, ki_0, ki_1, af_x hd_7024, decide_eq_true_eq, if_true, if_false, f2_ne, f2_eq, up_ne, up_eq, kc_int, kc_ref, kc_retAddr, kc_long, kc_double, af_n, af_v, z0, z1, n_of, nz6, nz4, bI_T, bI_F, bI_01, n_lt, n_le, n_eq, n_add, n_mul, n_sub, n_clamp, n_vp, m_lt, m_le, m_eq, m_eq2, m_ltm, m_add, true_and, and_true, eq_self, if_pos, if_neg, List.length_nil, List.length_cons, Nat.reduceAdd, Nat.reduceLeDiff, Nat.zero_le, not_true_eq_false, not_false_eq_true, true_or, or_true]
    · by_cases g3 : t i = o i
      · rw [bI_f (by simp [kC, g3])]
        simp (disch := omega) only [e1, e2, e3, u7024_0, u7024_1, u7024_4, u7024_5, u7024_7, u7024_8, u7024_9, u7024_10, u7024_13, u7024_14, u7024_16, u7024_17, u7024_18, u7024_21, u7024_22, u7024_25, u7024_26, u7024_28, u7024_29, u7024_30, u7024_31, u7024_34, u7024_35, u7024_37, u7024_38, u7024_39, u7024_42, u7024_43, u7024_46, u7024_47, u7024_49, u7024_50, u7024_51, u7024_52, u7024_55, u7024_56, u7024_58, u7024_59, u7024_60, u7024_63, u7024_64, u7024_67, u7024_68, gt_70_0, xl_71, ki_0, ki_1, af_x hd_7024, decide_eq_true_eq, if_true, if_false, f2_ne, f2_eq, up_ne, up_eq, kc_int, kc_ref, kc_retAddr, kc_long, kc_double, af_n, af_v, z0, z1, n_of, nz6, nz4, bI_T, bI_F, bI_01, n_lt, n_le, n_eq, n_add, n_mul, n_sub, n_clamp, n_vp, m_lt, m_le, m_eq, m_eq2, m_ltm, m_add, true_and, and_true, eq_self, if_pos, if_neg, List.length_nil, List.length_cons, Nat.reduceAdd, Nat.reduceLeDiff, Nat.zero_le, not_true_eq_false, not_false_eq_true, true_or, or_true]
      · rw [bI_t (by simp [kC, g1, g2, g3])]
        simp (disch := omega) only [e1, e2, e3, u7024_0, u7024_1, u7024_4, u7024_5, u7024_7, u7024_8, u7024_9, u7024_10, u7024_13, u7024_14, u7024_16, u7024_17, u7024_18, u7024_21, u7024_22, u7024_25, u7024_26, u7024_28, u7024_29, u7024_30, u7024_31, u7024_34, u7024_35, u7024_37, u7024_38, u7024_39, u7024_42, u7024_43, u7024_46, u7024_47, u7024_49, u7024_50, u7024_51, u7024_52, u7024_55, u7024_56, u7024_58, u7024_59, u7024_60, u7024_63, u7024_64, u7024_67, u7024_68, gt_70_0, xl_71, ki_0, ki_1, af_x hd_7024, decide_eq_true_eq, if_true, if_false, f2_ne, f2_eq, up_ne, up_eq, kc_int, kc_ref, kc_retAddr, kc_long, kc_double, af_n, af_v, z0, z1, n_of, nz6, nz4, bI_T, bI_F, bI_01, n_lt, n_le, n_eq, n_add, n_mul, n_sub, n_clamp, n_vp, m_lt, m_le, m_eq, m_eq2, m_ltm, m_add, true_and, and_true, eq_self, if_pos, if_neg, List.length_nil, List.length_cons, Nat.reduceAdd, Nat.reduceLeDiff, Nat.zero_le, not_true_eq_false, not_false_eq_true, true_or, or_true]
theorem l_coming (h1 : at24 (A 71) a o) (h2 : at24 (A 71) b w) (h3 : at24 (A 71) c t) : ∀ (k i : Nat), i + k = 24 → am_g (d + 1) X am_m7025 6 [.ref 70, .int (nI a), .int (nI b), .int (nI c), .int (nI (cnt (kB o w t) i)), .int (nI i)] [] (am_Z cl sl F A L) P = P (.inl (some (.int (nI (cnt (kB o w t) 24))))) (am_Z cl sl F A L) := by
  intro k
  induction k with
  | zero =>
    intro i hi
    obtain rfl : i = 24 := by omega
    rw [u7025_6]
    simp (disch := omega) only [Bool.false_eq_true, Nat.add_zero, m_comes h1 h2 h3, u7025_0, u7025_1, u7025_3, u7025_4, u7025_8, u7025_10, u7025_13, u7025_15, u7025_16, u7025_17, u7025_18, u7025_19, u7025_21, u7025_24, u7025_27, u7025_28, u7025_31, u7025_32, u7025_33, u7025_35, u7025_38, u7025_41, u7025_43, ob_70, ki_0, ki_1, ki_24, af_x hd_7025, decide_eq_true_eq, if_true, if_false, f2_ne, f2_eq, up_ne, up_eq, kc_int, kc_ref, kc_retAddr, kc_long, kc_double, af_n, af_v, z0, z1, n_of, nz6, nz4, bI_T, bI_F, bI_01, n_lt, n_le, n_eq, n_add, n_mul, n_sub, n_clamp, n_vp, m_lt, m_le, m_eq, m_eq2, m_ltm, m_add, true_and, and_true, eq_self, if_pos, if_neg, List.length_nil, List.length_cons, Nat.reduceAdd, Nat.reduceLeDiff, Nat.zero_le, not_true_eq_false, not_false_eq_true, true_or, or_true]
  | succ k ih =>
    intro i hi
    rw [u7025_6]
    by_cases hv : kB o w t i = true
    · simp (disch := omega) only [Bool.false_eq_true, Nat.add_zero, m_comes h1 h2 h3, hv, u7025_0, u7025_1, u7025_3, u7025_4, u7025_8, u7025_10, u7025_13, u7025_15, u7025_16, u7025_17, u7025_18, u7025_19, u7025_21, u7025_24, u7025_27, u7025_28, u7025_31, u7025_32, u7025_33, u7025_35, u7025_38, u7025_41, u7025_43, ob_70, ki_0, ki_1, ki_24, af_x hd_7025, decide_eq_true_eq, if_true, if_false, f2_ne, f2_eq, up_ne, up_eq, kc_int, kc_ref, kc_retAddr, kc_long, kc_double, af_n, af_v, z0, z1, n_of, nz6, nz4, bI_T, bI_F, bI_01, n_lt, n_le, n_eq, n_add, n_mul, n_sub, n_clamp, n_vp, m_lt, m_le, m_eq, m_eq2, m_ltm, m_add, true_and, and_true, eq_self, if_pos, if_neg, List.length_nil, List.length_cons, Nat.reduceAdd, Nat.reduceLeDiff, Nat.zero_le, not_true_eq_false, not_false_eq_true, true_or, or_true]
      have e : cnt (kB o w t) (i + 1) = cnt (kB o w t) i + 1 := cnt_t (by simp [hv])
      have h2 := ih (i + 1) (by omega)
      rw [e] at h2
      exact h2
    · simp (disch := omega) only [Bool.false_eq_true, Nat.add_zero, m_comes h1 h2 h3, hv, u7025_0, u7025_1, u7025_3, u7025_4, u7025_8, u7025_10, u7025_13, u7025_15, u7025_16, u7025_17, u7025_18, u7025_19, u7025_21, u7025_24, u7025_27, u7025_28, u7025_31, u7025_32, u7025_33, u7025_35, u7025_38, u7025_41, u7025_43, ob_70, ki_0, ki_1, ki_24, af_x hd_7025, decide_eq_true_eq, if_true, if_false, f2_ne, f2_eq, up_ne, up_eq, kc_int, kc_ref, kc_retAddr, kc_long, kc_double, af_n, af_v, z0, z1, n_of, nz6, nz4, bI_T, bI_F, bI_01, n_lt, n_le, n_eq, n_add, n_mul, n_sub, n_clamp, n_vp, m_lt, m_le, m_eq, m_eq2, m_ltm, m_add, true_and, and_true, eq_self, if_pos, if_neg, List.length_nil, List.length_cons, Nat.reduceAdd, Nat.reduceLeDiff, Nat.zero_le, not_true_eq_false, not_false_eq_true, true_or, or_true]
      have e : cnt (kB o w t) (i + 1) = cnt (kB o w t) i := cnt_f (by simp [hv])
      have h2 := ih (i + 1) (by omega)
      rw [e] at h2
      exact h2

theorem m_coming (h1 : at24 (A 71) a o) (h2 : at24 (A 71) b w) (h3 : at24 (A 71) c t) : am_Ca X (d + 2) 7025 [.ref 70, .int (nI a), .int (nI b), .int (nI c)] (am_Z cl sl F A L) P = P (.inl (some (.int (nI (cnt (kB o w t) 24))))) (am_Z cl sl F A L) := by
  rw [c7025]
  simp (disch := omega) only [u7025_0, u7025_1, u7025_3, u7025_4, u7025_8, u7025_10, u7025_13, u7025_15, u7025_16, u7025_17, u7025_18, u7025_19, u7025_21, u7025_24, u7025_27, u7025_28, u7025_31, u7025_32, u7025_33, u7025_35, u7025_38, u7025_41, u7025_43, ob_70, ki_0, ki_1, ki_24, af_x hd_7025, decide_eq_true_eq, if_true, if_false, f2_ne, f2_eq, up_ne, up_eq, kc_int, kc_ref, kc_retAddr, kc_long, kc_double, af_n, af_v, z0, z1, n_of, nz6, nz4, bI_T, bI_F, bI_01, n_lt, n_le, n_eq, n_add, n_mul, n_sub, n_clamp, n_vp, m_lt, m_le, m_eq, m_eq2, m_ltm, m_add, true_and, and_true, eq_self, if_pos, if_neg, List.length_nil, List.length_cons, Nat.reduceAdd, Nat.reduceLeDiff, Nat.zero_le, not_true_eq_false, not_false_eq_true, true_or, or_true]
  exact l_coming h1 h2 h3 24 0 rfl
theorem l_clashing (h1 : at24 (A 71) a o) (h2 : at24 (A 71) b w) (h3 : at24 (A 71) c t) : ∀ (k i : Nat), i + k = 24 → am_g (d + 1) X am_m7026 6 [.ref 70, .int (nI a), .int (nI b), .int (nI c), .int (nI (cnt (kC o w t) i)), .int (nI i)] [] (am_Z cl sl F A L) P = P (.inl (some (.int (nI (cnt (kC o w t) 24))))) (am_Z cl sl F A L) := by
  intro k
  induction k with
  | zero =>
    intro i hi
    obtain rfl : i = 24 := by omega
    rw [u7026_6]
    simp (disch := omega) only [Bool.false_eq_true, Nat.add_zero, m_clash h1 h2 h3, u7026_0, u7026_1, u7026_3, u7026_4, u7026_8, u7026_10, u7026_13, u7026_15, u7026_16, u7026_17, u7026_18, u7026_19, u7026_21, u7026_24, u7026_27, u7026_28, u7026_31, u7026_32, u7026_33, u7026_35, u7026_38, u7026_41, u7026_43, ob_70, ki_0, ki_1, ki_24, af_x hd_7026, decide_eq_true_eq, if_true, if_false, f2_ne, f2_eq, up_ne, up_eq, kc_int, kc_ref, kc_retAddr, kc_long, kc_double, af_n, af_v, z0, z1, n_of, nz6, nz4, bI_T, bI_F, bI_01, n_lt, n_le, n_eq, n_add, n_mul, n_sub, n_clamp, n_vp, m_lt, m_le, m_eq, m_eq2, m_ltm, m_add, true_and, and_true, eq_self, if_pos, if_neg, List.length_nil, List.length_cons, Nat.reduceAdd, Nat.reduceLeDiff, Nat.zero_le, not_true_eq_false, not_false_eq_true, true_or, or_true]
  | succ k ih =>
    intro i hi
    rw [u7026_6]
    by_cases hv : kC o w t i = true
    · simp (disch := omega) only [Bool.false_eq_true, Nat.add_zero, m_clash h1 h2 h3, hv, u7026_0, u7026_1, u7026_3, u7026_4, u7026_8, u7026_10, u7026_13, u7026_15, u7026_16, u7026_17, u7026_18, u7026_19, u7026_21, u7026_24, u7026_27, u7026_28, u7026_31, u7026_32, u7026_33, u7026_35, u7026_38, u7026_41, u7026_43, ob_70, ki_0, ki_1, ki_24, af_x hd_7026, decide_eq_true_eq, if_true, if_false, f2_ne, f2_eq, up_ne, up_eq, kc_int, kc_ref, kc_retAddr, kc_long, kc_double, af_n, af_v, z0, z1, n_of, nz6, nz4, bI_T, bI_F, bI_01, n_lt, n_le, n_eq, n_add, n_mul, n_sub, n_clamp, n_vp, m_lt, m_le, m_eq, m_eq2, m_ltm, m_add, true_and, and_true, eq_self, if_pos, if_neg, List.length_nil, List.length_cons, Nat.reduceAdd, Nat.reduceLeDiff, Nat.zero_le, not_true_eq_false, not_false_eq_true, true_or, or_true]
      have e : cnt (kC o w t) (i + 1) = cnt (kC o w t) i + 1 := cnt_t (by simp [hv])
      have h2 := ih (i + 1) (by omega)
      rw [e] at h2
      exact h2
    · simp (disch := omega) only [Bool.false_eq_true, Nat.add_zero, m_clash h1 h2 h3, hv, u7026_0, u7026_1, u7026_3, u7026_4, u7026_8, u7026_10, u7026_13, u7026_15, u7026_16, u7026_17, u7026_18, u7026_19, u7026_21, u7026_24, u7026_27, u7026_28, u7026_31, u7026_32, u7026_33, u7026_35, u7026_38, u7026_41, u7026_43, ob_70, ki_0, ki_1, ki_24, af_x hd_7026, decide_eq_true_eq, if_true, if_false, f2_ne, f2_eq, up_ne, up_eq, kc_int, kc_ref, kc_retAddr, kc_long, kc_double, af_n, af_v, z0, z1, n_of, nz6, nz4, bI_T, bI_F, bI_01, n_lt, n_le, n_eq, n_add, n_mul, n_sub, n_clamp, n_vp, m_lt, m_le, m_eq, m_eq2, m_ltm, m_add, true_and, and_true, eq_self, if_pos, if_neg, List.length_nil, List.length_cons, Nat.reduceAdd, Nat.reduceLeDiff, Nat.zero_le, not_true_eq_false, not_false_eq_true, true_or, or_true]
      have e : cnt (kC o w t) (i + 1) = cnt (kC o w t) i := cnt_f (by simp [hv])
      have h2 := ih (i + 1) (by omega)
      rw [e] at h2
      exact h2

theorem m_clashing (h1 : at24 (A 71) a o) (h2 : at24 (A 71) b w) (h3 : at24 (A 71) c t) : am_Ca X (d + 2) 7026 [.ref 70, .int (nI a), .int (nI b), .int (nI c)] (am_Z cl sl F A L) P = P (.inl (some (.int (nI (cnt (kC o w t) 24))))) (am_Z cl sl F A L) := by
  rw [c7026]
  simp (disch := omega) only [u7026_0, u7026_1, u7026_3, u7026_4, u7026_8, u7026_10, u7026_13, u7026_15, u7026_16, u7026_17, u7026_18, u7026_19, u7026_21, u7026_24, u7026_27, u7026_28, u7026_31, u7026_32, u7026_33, u7026_35, u7026_38, u7026_41, u7026_43, ob_70, ki_0, ki_1, ki_24, af_x hd_7026, decide_eq_true_eq, if_true, if_false, f2_ne, f2_eq, up_ne, up_eq, kc_int, kc_ref, kc_retAddr, kc_long, kc_double, af_n, af_v, z0, z1, n_of, nz6, nz4, bI_T, bI_F, bI_01, n_lt, n_le, n_eq, n_add, n_mul, n_sub, n_clamp, n_vp, m_lt, m_le, m_eq, m_eq2, m_ltm, m_add, true_and, and_true, eq_self, if_pos, if_neg, List.length_nil, List.length_cons, Nat.reduceAdd, Nat.reduceLeDiff, Nat.zero_le, not_true_eq_false, not_false_eq_true, true_or, or_true]
  exact l_clashing h1 h2 h3 24 0 rfl
end M2
