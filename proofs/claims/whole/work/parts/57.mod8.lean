/-! THE MODEL: edit, commit, branches -/
section M7
variable {d cl sl : Nat} {X : am_X} {F A : Nat → Nat → Int32} {L : Nat → Nat → Int64} {P : am_Q} {S : Ab}
theorem m_isLine {a b : Nat} (ha : a < 4) (hb : b < 6) : am_Ca X (d + 2) 7011 [.int (nI a), .int (nI b)] (am_Z cl sl F A L) P = P (.inl (some (.int (nI 1)))) (am_Z cl sl F A L) := by
  have e1 : ∀ {Q : am_Q}, am_Ca X (d + 1) 7005 [.int (nI a), .int (nI 0), .int (nI 3)] (am_Z cl sl F A L) Q = Q (.inl (some (.int (nI 1)))) (am_Z cl sl F A L) := by
    intro Q
    rw [m_in, bI_t]
    rw [n_le (by omega) (by omega), n_le (by omega) (by omega)]
    omega
  have e2 : ∀ {Q : am_Q}, am_Ca X (d + 1) 7005 [.int (nI b), .int (nI 0), .int (nI 5)] (am_Z cl sl F A L) Q = Q (.inl (some (.int (nI 1)))) (am_Z cl sl F A L) := by
    intro Q
    rw [m_in, bI_t]
    rw [n_le (by omega) (by omega), n_le (by omega) (by omega)]
    omega
  rw [c7011]
  simp (disch := omega) only [e1, e2, u7011_0, u7011_1, u7011_2, u7011_3, u7011_6, u7011_9, u7011_10, u7011_11, u7011_12, u7011_15, u7011_18, u7011_19, u7011_22, u7011_23, ki_0, ki_1, ki_3, ki_5, af_x hd_7011, decide_eq_true_eq, if_true, if_false, f2_ne, f2_eq, up_ne, up_eq, kc_int, kc_ref, kc_retAddr, kc_long, kc_double, af_n, af_v, z0, z1, n_of, nz6, nz4, bI_T, bI_F, bI_01, n_lt, n_le, n_eq, n_add, n_mul, n_sub, n_clamp, n_vp, m_lt, m_le, m_eq, m_eq2, m_ltm, m_add, true_and, and_true, eq_self, if_pos, if_neg, List.length_nil, List.length_cons, Nat.reduceAdd, Nat.reduceLeDiff, Nat.zero_le, not_true_eq_false, not_false_eq_true, true_or, or_true]
theorem m_goEdit (R : mR (A 71) S) (h : wS S) {a b v : Nat} (ha : a < 4) (hb : b < 6) (hv : v < 100) : ∃ g, (∀ P, am_Ca X (d + 4) 7034 [.ref 70, .int (nI a), .int (nI b), .int (nI v)] (am_Z cl sl F A L) P = P (.inl (some (.int (nI (unl (setL S (a * 6 + b) v)))))) (am_Z cl sl F (va_up A 71 g) L)) ∧ mR g (setL S (a * 6 + b) v) := by
  have hi : a * 6 + b < 24 := by omega
  have R1 := mR_setL (v := v) R h hi
  have h1 := wS_setL (i := a * 6 + b) h hv
  refine ⟨_, fun P => ?_, R1⟩
  have e1 : ∀ {d : Nat} {Q : am_Q}, am_Ca X (d + 1) 7005 [.int (nI v), .int (nI 0), .int (nI 99)] (am_Z cl sl F A L) Q = Q (.inl (some (.int (nI 1)))) (am_Z cl sl F A L) := by
    intro d Q
    rw [m_in, bI_t]
    rw [n_le (by omega) (by omega), n_le (by omega) (by omega)]
    omega
  have ea : am_f2 A 71 (1567 + (a * 6 + b)) (nI v) = va_up A 71 (va_up (A 71) (1567 + (a * 6 + b)) (nI v)) := rfl
  have R1' : mR ((va_up A 71 (va_up (va_up (A 71) (1567 + (a * 6 + b)) (nI v)) (1591 + (a * 6 + b)) (nI 0))) 71) (setL S (a * 6 + b) v) := by rw [up_eq]; exact R1
  have ec : 6 * a + b = a * 6 + b := by omega
  rw [c7034]
  simp (disch := omega) only [m_isLine, e1, ec, ea, f2_up, m_unlike R1' h1, u7034_0, u7034_1, u7034_2, u7034_5, u7034_8, u7034_9, u7034_10, u7034_12, u7034_15, u7034_18, u7034_20, u7034_21, u7034_23, u7034_24, u7034_25, u7034_26, u7034_27, u7034_29, u7034_30, u7034_33, u7034_36, u7034_38, u7034_39, u7034_40, u7034_41, u7034_42, u7034_45, u7034_48, u7034_50, u7034_51, u7034_52, u7034_53, u7034_54, u7034_57, gt_70_0, ob_70, xs_71, ki_m11, ki_0, ki_1567, ki_1591, ki_6, ki_99, af_x hd_7034, decide_eq_true_eq, if_true, if_false, f2_ne, f2_eq, up_ne, up_eq, kc_int, kc_ref, kc_retAddr, kc_long, kc_double, af_n, af_v, z0, z1, n_of, nz6, nz4, bI_T, bI_F, bI_01, n_lt, n_le, n_eq, n_add, n_mul, n_sub, n_clamp, n_vp, m_lt, m_le, m_eq, m_eq2, m_ltm, m_add, true_and, and_true, eq_self, if_pos, if_neg, List.length_nil, List.length_cons, Nat.reduceAdd, Nat.reduceLeDiff, Nat.zero_le, not_true_eq_false, not_false_eq_true, true_or, or_true]
end M7
