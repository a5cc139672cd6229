/-! THE MODEL: edit, commit, reset, branches, abort, resolve -/
theorem mR_setL {f : Nat → Int32} {S : Ab} {i v : Nat} (R : mR f S) (h : wS S) (hi : i < 24) : mR (va_up (va_up f (1567 + i) (nI v)) (1591 + i) (nI 0)) (setL S i v) := by
  have h3 := h.ac3
  have h60 := h.n60
  have out : ∀ k, k ≠ 1567 + i → k ≠ 1591 + i → va_up (va_up f (1567 + i) (nI v)) (1591 + i) (nI 0) k = f k := fun k h1 h2 => by rw [up_ne h2, up_ne h1]
  refine mR.mk ?_ ?_ ?_ (fun e => ?_) ?_ ?_ ?_ ?_ ?_ ?_ ?_ ?_ ?_ ?_
  · rw [out _ (by omega) (by omega)]; exact R.n0
  · rw [out _ (by omega) (by omega)]; exact R.cu
  · rw [out _ (by omega) (by omega)]; exact R.op
  · rw [out _ (by omega) (by omega)]; exact R.mg e
  · rw [out _ (by omega) (by omega)]; exact R.ac
  · rw [out _ (by omega) (by omega)]; exact R.cf
  · intro k hk
    have hk' : k < S.n := hk
    rw [out _ (by omega) (by omega)]; exact R.p k hk
  · intro k hk
    have hk' : k < S.n := hk
    rw [out _ (by omega) (by omega)]; exact R.q k hk
  · intro k hk j hj
    have hk' : k < S.n := hk
    rw [out _ (by omega) (by omega)]; exact R.T k hk j hj
  · intro b hb
    rw [out _ (by omega) (by omega)]; exact R.br b hb
  · intro j hj
    show _ = nI (va_up S.W i v j)
    by_cases e : j = i
    · subst e; rw [up_ne (by omega), up_eq, up_eq]
    · rw [out _ (by omega) (by omega), up_ne e]; exact R.W j hj
  · intro j hj
    show _ = nI (va_up S.O i 0 j)
    by_cases e : j = i
    · subst e; rw [up_eq, up_eq]
    · rw [out _ (by omega) (by omega), up_ne e]; exact R.O j hj
  · intro j hj k hk
    have hj' : j < S.ac := hj
    rw [out _ (by omega) (by omega)]; exact R.ah j hj k hk
  · intro j hj k hk
    have hj' : j < S.ac := hj
    rw [out _ (by omega) (by omega)]; exact R.aT j hj k hk
theorem mR_setB {f : Nat → Int32} {S : Ab} {b z : Nat} (R : mR f S) (h : wS S) (hb : b < 6) : mR (va_up f (1560 + b) (nI z)) (setB S b z) := by
  have h3 := h.ac3
  have h60 := h.n60
  have out : ∀ k, k ≠ 1560 + b → va_up f (1560 + b) (nI z) k = f k := fun k h1 => up_ne h1
  refine mR.mk ?_ ?_ ?_ (fun e => ?_) ?_ ?_ ?_ ?_ ?_ ?_ ?_ ?_ ?_ ?_
  · rw [out _ (by omega)]; exact R.n0
  · rw [out _ (by omega)]; exact R.cu
  · rw [out _ (by omega)]; exact R.op
  · rw [out _ (by omega)]; exact R.mg e
  · rw [out _ (by omega)]; exact R.ac
  · rw [out _ (by omega)]; exact R.cf
  · intro k hk
    have hk' : k < S.n := hk
    rw [out _ (by omega)]; exact R.p k hk
  · intro k hk
    have hk' : k < S.n := hk
    rw [out _ (by omega)]; exact R.q k hk
  · intro k hk j hj
    have hk' : k < S.n := hk
    rw [out _ (by omega)]; exact R.T k hk j hj
  · intro j hj
    show _ = nI (va_up S.br b z j)
    by_cases e : j = b
    · subst e; rw [up_eq, up_eq]
    · rw [out _ (by omega), up_ne e]; exact R.br j hj
  · intro j hj
    rw [out _ (by omega)]; exact R.W j hj
  · intro j hj
    rw [out _ (by omega)]; exact R.O j hj
  · intro j hj k hk
    rw [out _ (by omega)]; exact R.ah j hj k hk
  · intro j hj k hk
    rw [out _ (by omega)]; exact R.aT j hj k hk
section M6
variable {d cl sl : Nat} {X : am_X} {F A : Nat → Nat → Int32} {L : Nat → Nat → Int64} {P : am_Q} {S : Ab}
theorem m_isFull (R : mR (A 71) S) (h : wS S) : am_Ca X (d + 1) 7036 [.ref 70] (am_Z cl sl F A L) P = P (.inl (some (.int (bI (¬ S.n < 60))))) (am_Z cl sl F A L) := by
  have h6 := h.n60
  rw [c7036]
  by_cases e : S.n < 60
  · rw [bI_f (fun z => z e)]
    simp (disch := omega) only [R.n0, u7036_0, u7036_1, u7036_4, u7036_7, u7036_8, u7036_10, u7036_13, u7036_14, u7036_17, u7036_18, gt_70_0, xl_71, ki_0, ki_1, ki_1762, ki_60, af_x hd_7036, decide_eq_true_eq, if_true, if_false, f2_ne, f2_eq, up_ne, up_eq, kc_int, kc_ref, kc_retAddr, kc_long, kc_double, af_n, af_v, z0, z1, n_of, nz6, nz4, bI_T, bI_F, bI_01, n_lt, n_le, n_eq, n_add, n_mul, n_sub, n_clamp, n_vp, m_lt, m_le, m_eq, m_eq2, m_ltm, m_add, true_and, and_true, eq_self, if_pos, if_neg, List.length_nil, List.length_cons, Nat.reduceAdd, Nat.reduceLeDiff, Nat.zero_le, not_true_eq_false, not_false_eq_true, true_or, or_true]
  · rw [bI_t e]
    simp (disch := omega) only [R.n0, u7036_0, u7036_1, u7036_4, u7036_7, u7036_8, u7036_10, u7036_13, u7036_14, u7036_17, u7036_18, gt_70_0, xl_71, ki_0, ki_1, ki_1762, ki_60, af_x hd_7036, decide_eq_true_eq, if_true, if_false, f2_ne, f2_eq, up_ne, up_eq, kc_int, kc_ref, kc_retAddr, kc_long, kc_double, af_n, af_v, z0, z1, n_of, nz6, nz4, bI_T, bI_F, bI_01, n_lt, n_le, n_eq, n_add, n_mul, n_sub, n_clamp, n_vp, m_lt, m_le, m_eq, m_eq2, m_ltm, m_add, true_and, and_true, eq_self, if_pos, if_neg, List.length_nil, List.length_cons, Nat.reduceAdd, Nat.reduceLeDiff, Nat.zero_le, not_true_eq_false, not_false_eq_true, true_or, or_true]
theorem m_isCommit_t (R : mR (A 71) S) (h : wS S) {k : Nat} (hk : k < S.n) : am_Ca X (d + 2) 7012 [.ref 70, .int (nI k)] (am_Z cl sl F A L) P = P (.inl (some (.int (nI 1)))) (am_Z cl sl F A L) := by
  have h6 := h.n60
  rw [m_isCommit R h, bI_t]
  rw [n_le (by omega) (by omega), n_le (by omega) (by omega)]
  omega
theorem m_isCommit_f (R : mR (A 71) S) (h : wS S) {x : Int32} (hx : noC S x) : am_Ca X (d + 2) 7012 [.ref 70, .int x] (am_Z cl sl F A L) P = P (.inl (some (.int (nI 0)))) (am_Z cl sl F A L) := by
  have h6 := h.n60
  have h1 := h.n1
  rw [m_isCommit R h, bI_f]
  rintro ⟨g1, g2⟩
  rcases hx with hx | hx
  · exact Int32.not_le.mpr hx g1
  · have := Int32.le_trans hx g2
    rw [n_le (by omega) (by omega)] at this
    omega
theorem m_goReset (R : mR (A 71) S) (h : wS S) {k : Nat} (hk : k < S.n) : am_Ca X (d + 4) 7039 [.ref 70, .int (nI k)] (am_Z cl sl F A L) P = P (.inl (some (.int (nI (hd S))))) (am_Z cl sl F (va_up A 71 (stR (A 71) S.cur k)) L) := by
  have h6 := h.n60
  rw [c7039]
  simp (disch := omega) only [m_isCommit_t R h hk, m_top R h, m_stands R h hk, u7039_0, u7039_1, u7039_2, u7039_5, u7039_8, u7039_10, u7039_11, u7039_12, u7039_15, u7039_16, u7039_17, u7039_18, u7039_21, u7039_22, ob_70, ki_m11, af_x hd_7039, decide_eq_true_eq, if_true, if_false, f2_ne, f2_eq, up_ne, up_eq, kc_int, kc_ref, kc_retAddr, kc_long, kc_double, af_n, af_v, z0, z1, n_of, nz6, nz4, bI_T, bI_F, bI_01, n_lt, n_le, n_eq, n_add, n_mul, n_sub, n_clamp, n_vp, m_lt, m_le, m_eq, m_eq2, m_ltm, m_add, true_and, and_true, eq_self, if_pos, if_neg, List.length_nil, List.length_cons, Nat.reduceAdd, Nat.reduceLeDiff, Nat.zero_le, not_true_eq_false, not_false_eq_true, true_or, or_true]
theorem m_goAbort (R : mR (A 71) S) (h : wS S) (h0 : ¬ S.op = 0) : am_Ca X (d + 4) 7052 [.ref 70] (am_Z cl sl F A L) P = P (.inl (some (.int (nI (nco S))))) (am_Z cl sl F (va_up A 71 (stR (A 71) S.cur (hd S))) L) := by
  have h3 := h.op3
  rw [c7052]
  simp (disch := omega) only [R.op, m_clashes R h, m_top R h, m_stands R h (hd_n h), u7052_0, u7052_1, u7052_4, u7052_7, u7052_8, u7052_11, u7052_13, u7052_14, u7052_15, u7052_18, u7052_19, u7052_20, u7052_21, u7052_24, u7052_27, u7052_28, gt_70_0, ob_70, xl_71, ki_m12, ki_1615, af_x hd_7052, decide_eq_true_eq, if_true, if_false, f2_ne, f2_eq, up_ne, up_eq, kc_int, kc_ref, kc_retAddr, kc_long, kc_double, af_n, af_v, z0, z1, n_of, nz6, nz4, bI_T, bI_F, bI_01, n_lt, n_le, n_eq, n_add, n_mul, n_sub, n_clamp, n_vp, m_lt, m_le, m_eq, m_eq2, m_ltm, m_add, true_and, and_true, eq_self, if_pos, if_neg, List.length_nil, List.length_cons, Nat.reduceAdd, Nat.reduceLeDiff, Nat.zero_le, not_true_eq_false, not_false_eq_true, true_or, or_true]
end M6
