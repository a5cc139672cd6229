/-! THE MODEL: closes -/
def zer (a n : Nat) (f : Nat → Int32) : Nat → Int32 := fun k => if a ≤ k ∧ k < a + n then nI 0 else f k
theorem zer_s {a n : Nat} {f : Nat → Int32} : va_up (zer a n f) (a + n) (nI 0) = zer a (n + 1) f := by
  funext j
  unfold va_up zer
  by_cases hj : j = a + n
  · subst hj; rw [if_pos rfl, if_pos (by omega)]
  · rw [if_neg hj]
    by_cases h : a ≤ j ∧ j < a + n
    · rw [if_pos h, if_pos (by omega)]
    · rw [if_neg h, if_neg (by omega)]
theorem zer_0 {a : Nat} {f : Nat → Int32} : zer a 0 f = f := by
  funext j
  unfold zer
  rw [if_neg (by omega)]
def cloR (f : Nat → Int32) : Nat → Int32 := va_up (va_up (zer 1591 24 f) 1615 (nI 0)) 1616 (nI 0)
section M3
variable {d cl sl : Nat} {X : am_X} {F A : Nat → Nat → Int32} {L : Nat → Nat → Int64} {P : am_Q} {S : Ab} {f : Nat → Int32}
theorem l_closes : ∀ (k i : Nat), i + k = 24 → am_g d X am_m7022 2 [.ref 70, .int (nI i)] [] (am_Z cl sl F (va_up A 71 (zer 1591 i f)) L) P = P (.inl none) (am_Z cl sl F (va_up A 71 (cloR f)) L) := by
  intro k
  induction k with
  | zero =>
    intro i hi
    obtain rfl : i = 24 := by omega
    rw [u7022_2]
    simp (disch := omega) only [f2_up, u7022_0, u7022_1, u7022_3, u7022_5, u7022_8, u7022_9, u7022_12, u7022_15, u7022_16, u7022_17, u7022_18, u7022_19, u7022_22, u7022_25, u7022_26, u7022_29, u7022_32, u7022_33, u7022_34, u7022_35, u7022_38, u7022_41, u7022_42, u7022_43, gt_70_0, xs_71, ki_0, ki_1, ki_1591, ki_1615, ki_1616, ki_24, af_x hd_7022, decide_eq_true_eq, if_true, if_false, f2_ne, f2_eq, up_ne, up_eq, kc_int, kc_ref, kc_retAddr, kc_long, kc_double, af_n, af_v, z0, z1, n_of, nz6, nz4, bI_T, bI_F, bI_01, n_lt, n_le, n_eq, n_add, n_mul, n_sub, n_clamp, n_vp, m_lt, m_le, m_eq, m_eq2, m_ltm, m_add, true_and, and_true, eq_self, if_pos, if_neg, List.length_nil, List.length_cons, Nat.reduceAdd, Nat.reduceLeDiff, Nat.zero_le, not_true_eq_false, not_false_eq_true, true_or, or_true]
    rfl
  | succ k ih =>
    intro i hi
    rw [u7022_2]
    simp (disch := omega) only [f2_up, zer_s, u7022_0, u7022_1, u7022_3, u7022_5, u7022_8, u7022_9, u7022_12, u7022_15, u7022_16, u7022_17, u7022_18, u7022_19, u7022_22, u7022_25, u7022_26, u7022_29, u7022_32, u7022_33, u7022_34, u7022_35, u7022_38, u7022_41, u7022_42, u7022_43, gt_70_0, xs_71, ki_0, ki_1, ki_1591, ki_1615, ki_1616, ki_24, af_x hd_7022, decide_eq_true_eq, if_true, if_false, f2_ne, f2_eq, up_ne, up_eq, kc_int, kc_ref, kc_retAddr, kc_long, kc_double, af_n, af_v, z0, z1, n_of, nz6, nz4, bI_T, bI_F, bI_01, n_lt, n_le, n_eq, n_add, n_mul, n_sub, n_clamp, n_vp, m_lt, m_le, m_eq, m_eq2, m_ltm, m_add, true_and, and_true, eq_self, if_pos, if_neg, List.length_nil, List.length_cons, Nat.reduceAdd, Nat.reduceLeDiff, Nat.zero_le, not_true_eq_false, not_false_eq_true, true_or, or_true]
    exact ih (i + 1) (by omega)
theorem m_closes : am_Ca X (d + 1) 7022 [.ref 70] (am_Z cl sl F A L) P = P (.inl none) (am_Z cl sl F (va_up A 71 (cloR (A 71))) L) := by
  rw [c7022]
  simp (disch := omega) only [u7022_0, u7022_1, u7022_3, u7022_5, u7022_8, u7022_9, u7022_12, u7022_15, u7022_16, u7022_17, u7022_18, u7022_19, u7022_22, u7022_25, u7022_26, u7022_29, u7022_32, u7022_33, u7022_34, u7022_35, u7022_38, u7022_41, u7022_42, u7022_43, gt_70_0, xs_71, ki_0, ki_1, ki_1591, ki_1615, ki_1616, ki_24, af_x hd_7022, decide_eq_true_eq, if_true, if_false, f2_ne, f2_eq, up_ne, up_eq, kc_int, kc_ref, kc_retAddr, kc_long, kc_double, af_n, af_v, z0, z1, n_of, nz6, nz4, bI_T, bI_F, bI_01, n_lt, n_le, n_eq, n_add, n_mul, n_sub, n_clamp, n_vp, m_lt, m_le, m_eq, m_eq2, m_ltm, m_add, true_and, and_true, eq_self, if_pos, if_neg, List.length_nil, List.length_cons, Nat.reduceAdd, Nat.reduceLeDiff, Nat.zero_le, not_true_eq_false, not_false_eq_true, true_or, or_true]
  have h := l_closes (d := d) (X := X) (cl := cl) (sl := sl) (F := F) (A := A) (L := L) (P := P) (f := A 71) 24 0 rfl
  rw [zer_0, up_same] at h
  exact h
end M3
