/-! THE MODEL: rows laid, clashes, what comes -/
theorem lay_s {f : Nat → Int32} {a b i : Nat} (h : a + i < b ∨ b + i ≤ a + i) : va_up (va_cpy f f a b i) (b + i) (va_cpy f f a b i (a + i)) = va_cpy f f a b (i + 1) := by
  have e : va_cpy f f a b i (a + i) = f (a + i) := cpy_out (by omega)
  rw [e]
  funext j
  by_cases hj : j = b + i
  · subst hj
    rw [up_eq, cpy_in (by omega) (by omega), show a + (b + i - b) = a + i by omega]
  · rw [up_ne hj]
    by_cases h1 : b ≤ j ∧ j < b + i
    · rw [cpy_in h1.1 h1.2, cpy_in h1.1 (by omega)]
    · rw [cpy_out (by omega), cpy_out (by omega)]
theorem cpy_0 {f : Nat → Int32} {a b : Nat} : va_cpy f f a b 0 = f := by
  funext j
  exact cpy_out (by omega)
section M1
variable {d cl sl : Nat} {X : am_X} {F A : Nat → Nat → Int32} {L : Nat → Nat → Int64} {P : am_Q} {S : Ab} {f : Nat → Int32}
theorem l_lays {a b : Nat} (ha : a + 24 ≤ b ∨ b + 24 ≤ a) (ha2 : a ≤ 1740) (hb2 : b ≤ 1740) : ∀ (k i : Nat), i + k = 24 → am_g d X am_m7017 2 [.ref 70, .int (nI a), .int (nI b), .int (nI i)] [] (am_Z cl sl F (va_up A 71 (va_cpy f f a b i)) L) P = P (.inl none) (am_Z cl sl F (va_up A 71 (va_cpy f f a b 24)) L) := by
  intro k
  induction k with
  | zero =>
    intro i hi
    obtain rfl : i = 24 := by omega
    rw [u7017_2]
    simp (disch := omega) only [u7017_0, u7017_1, u7017_3, u7017_5, u7017_8, u7017_9, u7017_12, u7017_13, u7017_14, u7017_15, u7017_16, u7017_19, u7017_20, u7017_21, u7017_22, u7017_23, u7017_24, u7017_27, u7017_30, gt_70_0, xl_71, xs_71, ki_0, ki_1, ki_24, af_x hd_7017, decide_eq_true_eq, if_true, if_false, f2_ne, f2_eq, up_ne, up_eq, kc_int, kc_ref, kc_retAddr, kc_long, kc_double, af_n, af_v, z0, z1, n_of, nz6, nz4, bI_T, bI_F, bI_01, n_lt, n_le, n_eq, n_add, n_mul, n_sub, n_clamp, n_vp, m_lt, m_le, m_eq, m_eq2, m_ltm, m_add, true_and, and_true, eq_self, if_pos, if_neg, List.length_nil, List.length_cons, Nat.reduceAdd, Nat.reduceLeDiff, Nat.zero_le, not_true_eq_false, not_false_eq_true, true_or, or_true]
  | succ k ih =>
    intro i hi
    rw [u7017_2]
    have e := lay_s (f := f) (a := a) (b := b) (i := i) (by omega)
    simp (disch := omega) only [f2_up, e, u7017_0, u7017_1, u7017_3, u7017_5, u7017_8, u7017_9, u7017_12, u7017_13, u7017_14, u7017_15, u7017_16, u7017_19, u7017_20, u7017_21, u7017_22, u7017_23, u7017_24, u7017_27, u7017_30, gt_70_0, xl_71, xs_71, ki_0, ki_1, ki_24, af_x hd_7017, decide_eq_true_eq, if_true, if_false, f2_ne, f2_eq, up_ne, up_eq, kc_int, kc_ref, kc_retAddr, kc_long, kc_double, af_n, af_v, z0, z1, n_of, nz6, nz4, bI_T, bI_F, bI_01, n_lt, n_le, n_eq, n_add, n_mul, n_sub, n_clamp, n_vp, m_lt, m_le, m_eq, m_eq2, m_ltm, m_add, true_and, and_true, eq_self, if_pos, if_neg, List.length_nil, List.length_cons, Nat.reduceAdd, Nat.reduceLeDiff, Nat.zero_le, not_true_eq_false, not_false_eq_true, true_or, or_true]
    exact ih (i + 1) (by omega)
theorem m_lays {a b : Nat} (ha : a + 24 ≤ b ∨ b + 24 ≤ a) (ha2 : a ≤ 1740) (hb2 : b ≤ 1740) : am_Ca X (d + 1) 7017 [.ref 70, .int (nI a), .int (nI b)] (am_Z cl sl F A L) P = P (.inl none) (am_Z cl sl F (va_up A 71 (va_cpy (A 71) (A 71) a b 24)) L) := by
  rw [c7017]
  simp (disch := omega) only [u7017_0, u7017_1, u7017_3, u7017_5, u7017_8, u7017_9, u7017_12, u7017_13, u7017_14, u7017_15, u7017_16, u7017_19, u7017_20, u7017_21, u7017_22, u7017_23, u7017_24, u7017_27, u7017_30, gt_70_0, xl_71, xs_71, ki_0, ki_1, ki_24, af_x hd_7017, decide_eq_true_eq, if_true, if_false, f2_ne, f2_eq, up_ne, up_eq, kc_int, kc_ref, kc_retAddr, kc_long, kc_double, af_n, af_v, z0, z1, n_of, nz6, nz4, bI_T, bI_F, bI_01, n_lt, n_le, n_eq, n_add, n_mul, n_sub, n_clamp, n_vp, m_lt, m_le, m_eq, m_eq2, m_ltm, m_add, true_and, and_true, eq_self, if_pos, if_neg, List.length_nil, List.length_cons, Nat.reduceAdd, Nat.reduceLeDiff, Nat.zero_le, not_true_eq_false, not_false_eq_true, true_or, or_true]
  have h := l_lays (d := d) (X := X) (cl := cl) (sl := sl) (F := F) (A := A) (L := L) (P := P) (f := A 71) ha ha2 hb2 24 0 rfl
  rw [cpy_0, up_same] at h
  exact h
theorem l_clashes (R : mR (A 71) S) (h : wS S) : ∀ (k i : Nat), i + k = 24 → am_g (d) X am_m7021 4 [.ref 70, .int (nI (cnt (coN S) i)), .int (nI i)] [] (am_Z cl sl F A L) P = P (.inl (some (.int (nI (cnt (coN S) 24))))) (am_Z cl sl F A L) := by
  intro k
  induction k with
  | zero =>
    intro i hi
    obtain rfl : i = 24 := by omega
    rw [u7021_4]
    simp (disch := omega) only [R.O, u7021_0, u7021_1, u7021_2, u7021_3, u7021_5, u7021_7, u7021_10, u7021_11, u7021_12, u7021_15, u7021_18, u7021_19, u7021_20, u7021_21, u7021_24, u7021_25, u7021_28, u7021_29, u7021_30, u7021_31, u7021_34, u7021_37, u7021_38, gt_70_0, xl_71, ki_0, ki_1, ki_1591, ki_24, af_x hd_7021, decide_eq_true_eq, if_true, if_false, f2_ne, f2_eq, up_ne, up_eq, kc_int, kc_ref, kc_retAddr, kc_long, kc_double, af_n, af_v, z0, z1, n_of, nz6, nz4, bI_T, bI_F, bI_01, n_lt, n_le, n_eq, n_add, n_mul, n_sub, n_clamp, n_vp, m_lt, m_le, m_eq, m_eq2, m_ltm, m_add, true_and, and_true, eq_self, if_pos, if_neg, List.length_nil, List.length_cons, Nat.reduceAdd, Nat.reduceLeDiff, Nat.zero_le, not_true_eq_false, not_false_eq_true, true_or, or_true]
  | succ k ih =>
    intro i hi
    rw [u7021_4]
    have h1 := h.Ov i (by omega)
    by_cases hv : S.O i = 0
    · simp (disch := omega) only [R.O, hv, u7021_0, u7021_1, u7021_2, u7021_3, u7021_5, u7021_7, u7021_10, u7021_11, u7021_12, u7021_15, u7021_18, u7021_19, u7021_20, u7021_21, u7021_24, u7021_25, u7021_28, u7021_29, u7021_30, u7021_31, u7021_34, u7021_37, u7021_38, gt_70_0, xl_71, ki_0, ki_1, ki_1591, ki_24, af_x hd_7021, decide_eq_true_eq, if_true, if_false, f2_ne, f2_eq, up_ne, up_eq, kc_int, kc_ref, kc_retAddr, kc_long, kc_double, af_n, af_v, z0, z1, n_of, nz6, nz4, bI_T, bI_F, bI_01, n_lt, n_le, n_eq, n_add, n_mul, n_sub, n_clamp, n_vp, m_lt, m_le, m_eq, m_eq2, m_ltm, m_add, true_and, and_true, eq_self, if_pos, if_neg, List.length_nil, List.length_cons, Nat.reduceAdd, Nat.reduceLeDiff, Nat.zero_le, not_true_eq_false, not_false_eq_true, true_or, or_true]
      have e : cnt (coN S) (i + 1) = cnt (coN S) i := cnt_f (by simp [coN, hv])
      have h2 := ih (i + 1) (by omega)
      rw [e] at h2
      exact h2
    · simp (disch := omega) only [R.O, hv, u7021_0, u7021_1, u7021_2, u7021_3, u7021_5, u7021_7, u7021_10, u7021_11, u7021_12, u7021_15, u7021_18, u7021_19, u7021_20, u7021_21, u7021_24, u7021_25, u7021_28, u7021_29, u7021_30, u7021_31, u7021_34, u7021_37, u7021_38, gt_70_0, xl_71, ki_0, ki_1, ki_1591, ki_24, af_x hd_7021, decide_eq_true_eq, if_true, if_false, f2_ne, f2_eq, up_ne, up_eq, kc_int, kc_ref, kc_retAddr, kc_long, kc_double, af_n, af_v, z0, z1, n_of, nz6, nz4, bI_T, bI_F, bI_01, n_lt, n_le, n_eq, n_add, n_mul, n_sub, n_clamp, n_vp, m_lt, m_le, m_eq, m_eq2, m_ltm, m_add, true_and, and_true, eq_self, if_pos, if_neg, List.length_nil, List.length_cons, Nat.reduceAdd, Nat.reduceLeDiff, Nat.zero_le, not_true_eq_false, not_false_eq_true, true_or, or_true]
      have e : cnt (coN S) (i + 1) = cnt (coN S) i + 1 := cnt_t (by simp [coN, hv])
      have h2 := ih (i + 1) (by omega)
      rw [e] at h2
      exact h2

theorem m_clashes (R : mR (A 71) S) (h : wS S) : am_Ca X (d + 1) 7021 [.ref 70] (am_Z cl sl F A L) P = P (.inl (some (.int (nI (nco S))))) (am_Z cl sl F A L) := by
  rw [c7021]
  simp (disch := omega) only [u7021_0, u7021_1, u7021_2, u7021_3, u7021_5, u7021_7, u7021_10, u7021_11, u7021_12, u7021_15, u7021_18, u7021_19, u7021_20, u7021_21, u7021_24, u7021_25, u7021_28, u7021_29, u7021_30, u7021_31, u7021_34, u7021_37, u7021_38, gt_70_0, xl_71, ki_0, ki_1, ki_1591, ki_24, af_x hd_7021, decide_eq_true_eq, if_true, if_false, f2_ne, f2_eq, up_ne, up_eq, kc_int, kc_ref, kc_retAddr, kc_long, kc_double, af_n, af_v, z0, z1, n_of, nz6, nz4, bI_T, bI_F, bI_01, n_lt, n_le, n_eq, n_add, n_mul, n_sub, n_clamp, n_vp, m_lt, m_le, m_eq, m_eq2, m_ltm, m_add, true_and, and_true, eq_self, if_pos, if_neg, List.length_nil, List.length_cons, Nat.reduceAdd, Nat.reduceLeDiff, Nat.zero_le, not_true_eq_false, not_false_eq_true, true_or, or_true]
  exact l_clashes R h 24 0 rfl
theorem l_all (R : mR (A 71) S) (h : wS S) : ∀ (k i : Nat), i + k = 6 → am_g (d) X am_m7042 4 [.ref 70, .int (nI (cnt (brN S) i)), .int (nI i)] [] (am_Z cl sl F A L) P = P (.inl (some (.int (nI (cnt (brN S) 6))))) (am_Z cl sl F A L) := by
  intro k
  induction k with
  | zero =>
    intro i hi
    obtain rfl : i = 6 := by omega
    rw [u7042_4]
    simp (disch := omega) only [R.br, u7042_0, u7042_1, u7042_2, u7042_3, u7042_5, u7042_7, u7042_10, u7042_11, u7042_12, u7042_15, u7042_18, u7042_19, u7042_20, u7042_21, u7042_24, u7042_25, u7042_28, u7042_29, u7042_30, u7042_31, u7042_34, u7042_37, u7042_38, gt_70_0, xl_71, ki_0, ki_1, ki_1560, ki_6, af_x hd_7042, decide_eq_true_eq, if_true, if_false, f2_ne, f2_eq, up_ne, up_eq, kc_int, kc_ref, kc_retAddr, kc_long, kc_double, af_n, af_v, z0, z1, n_of, nz6, nz4, bI_T, bI_F, bI_01, n_lt, n_le, n_eq, n_add, n_mul, n_sub, n_clamp, n_vp, m_lt, m_le, m_eq, m_eq2, m_ltm, m_add, true_and, and_true, eq_self, if_pos, if_neg, List.length_nil, List.length_cons, Nat.reduceAdd, Nat.reduceLeDiff, Nat.zero_le, not_true_eq_false, not_false_eq_true, true_or, or_true]
  | succ k ih =>
    intro i hi
    rw [u7042_4]
    have h1 := h.brn i (by omega)
    have h6 := h.n60
    by_cases hv : S.br i = 0
    · simp (disch := omega) only [R.br, hv, u7042_0, u7042_1, u7042_2, u7042_3, u7042_5, u7042_7, u7042_10, u7042_11, u7042_12, u7042_15, u7042_18, u7042_19, u7042_20, u7042_21, u7042_24, u7042_25, u7042_28, u7042_29, u7042_30, u7042_31, u7042_34, u7042_37, u7042_38, gt_70_0, xl_71, ki_0, ki_1, ki_1560, ki_6, af_x hd_7042, decide_eq_true_eq, if_true, if_false, f2_ne, f2_eq, up_ne, up_eq, kc_int, kc_ref, kc_retAddr, kc_long, kc_double, af_n, af_v, z0, z1, n_of, nz6, nz4, bI_T, bI_F, bI_01, n_lt, n_le, n_eq, n_add, n_mul, n_sub, n_clamp, n_vp, m_lt, m_le, m_eq, m_eq2, m_ltm, m_add, true_and, and_true, eq_self, if_pos, if_neg, List.length_nil, List.length_cons, Nat.reduceAdd, Nat.reduceLeDiff, Nat.zero_le, not_true_eq_false, not_false_eq_true, true_or, or_true]
      have e : cnt (brN S) (i + 1) = cnt (brN S) i := cnt_f (by simp [brN, hv])
      have h2 := ih (i + 1) (by omega)
      rw [e] at h2
      exact h2
    · simp (disch := omega) only [R.br, hv, u7042_0, u7042_1, u7042_2, u7042_3, u7042_5, u7042_7, u7042_10, u7042_11, u7042_12, u7042_15, u7042_18, u7042_19, u7042_20, u7042_21, u7042_24, u7042_25, u7042_28, u7042_29, u7042_30, u7042_31, u7042_34, u7042_37, u7042_38, gt_70_0, xl_71, ki_0, ki_1, ki_1560, ki_6, af_x hd_7042, decide_eq_true_eq, if_true, if_false, f2_ne, f2_eq, up_ne, up_eq, kc_int, kc_ref, kc_retAddr, kc_long, kc_double, af_n, af_v, z0, z1, n_of, nz6, nz4, bI_T, bI_F, bI_01, n_lt, n_le, n_eq, n_add, n_mul, n_sub, n_clamp, n_vp, m_lt, m_le, m_eq, m_eq2, m_ltm, m_add, true_and, and_true, eq_self, if_pos, if_neg, List.length_nil, List.length_cons, Nat.reduceAdd, Nat.reduceLeDiff, Nat.zero_le, not_true_eq_false, not_false_eq_true, true_or, or_true]
      have e : cnt (brN S) (i + 1) = cnt (brN S) i + 1 := cnt_t (by simp [brN, hv])
      have h2 := ih (i + 1) (by omega)
      rw [e] at h2
      exact h2

theorem m_all (R : mR (A 71) S) (h : wS S) : am_Ca X (d + 1) 7042 [.ref 70] (am_Z cl sl F A L) P = P (.inl (some (.int (nI (cnt (brN S) 6))))) (am_Z cl sl F A L) := by
  rw [c7042]
  simp (disch := omega) only [u7042_0, u7042_1, u7042_2, u7042_3, u7042_5, u7042_7, u7042_10, u7042_11, u7042_12, u7042_15, u7042_18, u7042_19, u7042_20, u7042_21, u7042_24, u7042_25, u7042_28, u7042_29, u7042_30, u7042_31, u7042_34, u7042_37, u7042_38, gt_70_0, xl_71, ki_0, ki_1, ki_1560, ki_6, af_x hd_7042, decide_eq_true_eq, if_true, if_false, f2_ne, f2_eq, up_ne, up_eq, kc_int, kc_ref, kc_retAddr, kc_long, kc_double, af_n, af_v, z0, z1, n_of, nz6, nz4, bI_T, bI_F, bI_01, n_lt, n_le, n_eq, n_add, n_mul, n_sub, n_clamp, n_vp, m_lt, m_le, m_eq, m_eq2, m_ltm, m_add, true_and, and_true, eq_self, if_pos, if_neg, List.length_nil, List.length_cons, Nat.reduceAdd, Nat.reduceLeDiff, Nat.zero_le, not_true_eq_false, not_false_eq_true, true_or, or_true]
  exact l_all R h 6 0 rfl
end M1
