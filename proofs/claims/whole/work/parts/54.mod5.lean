/-! THE MODEL: the current branch stands at a commit; a commit is made -/
def stR (f : Nat → Int32) (b c : Nat) : Nat → Int32 := cloR (va_cpy (va_up f (1560 + b) (nI (c + 1))) (va_up f (1560 + b) (nI (c + 1))) (24 * c) 1567 24)
theorem cloR_out {f : Nat → Int32} {k : Nat} (h : k < 1591 ∨ 1616 < k) : cloR f k = f k := by
  unfold cloR zer
  rw [up_ne (by omega), up_ne (by omega), if_neg (by omega)]
theorem cloR_O {f : Nat → Int32} {i : Nat} (h : i < 24) : cloR f (1591 + i) = nI 0 := by
  unfold cloR zer
  rw [up_ne (by omega), up_ne (by omega), if_pos (by omega)]
theorem cloR_op {f : Nat → Int32} : cloR f 1615 = nI 0 := by
  unfold cloR
  rw [up_ne (by decide), up_eq]
theorem stR_out {f : Nat → Int32} {b c k : Nat} (h : k < 1567 ∨ 1616 < k) (h2 : k ≠ 1560 + b) : stR f b c k = f k := by
  unfold stR
  rw [cloR_out (by omega), cpy_out (by omega), up_ne h2]
theorem mR_stand {f : Nat → Int32} {S : Ab} {c : Nat} (R : mR f S) (h : wS S) (hc : c < S.n) : mR (stR f S.cur c) (stand S c) := by
  have h6 := h.cur6
  have h60 := h.n60
  have h3 := h.ac3
  refine mR.mk ?_ ?_ ?_ (fun e => ?_) ?_ ?_ ?_ ?_ ?_ ?_ ?_ ?_ ?_ ?_
  · rw [stR_out (by omega) (by omega)]; exact R.n0
  · rw [stR_out (by omega) (by omega)]; exact R.cu
  · exact cloR_op
  · exact absurd (show (0 : Nat) = 1 from e) (by decide)
  · rw [stR_out (by omega) (by omega)]; exact R.ac
  · rw [stR_out (by omega) (by omega)]; exact R.cf
  · intro k hk
    have hk' : k < S.n := hk
    rw [stR_out (by omega) (by omega)]; exact R.p k hk
  · intro k hk
    have hk' : k < S.n := hk
    rw [stR_out (by omega) (by omega)]; exact R.q k hk
  · intro k hk i hi
    have hk' : k < S.n := hk
    rw [stR_out (by omega) (by omega)]; exact R.T k hk i hi
  · intro b hb
    show stR f S.cur c (1560 + b) = nI (va_up S.br S.cur (c + 1) b)
    by_cases e : b = S.cur
    · subst e
      unfold stR
      rw [cloR_out (by omega), cpy_out (by omega), up_eq, up_eq]
    · rw [stR_out (by omega) (by omega), up_ne e]; exact R.br b hb
  · intro i hi
    show stR f S.cur c (1567 + i) = nI (S.T c i)
    unfold stR
    rw [cloR_out (by omega), cpy_in (by omega) (by omega), up_ne (by omega), show 24 * c + (1567 + i - 1567) = 24 * c + i by omega]
    exact R.T c hc i hi
  · intro i hi
    exact cloR_O hi
  · intro j hj i hi
    have hj' : j < S.ac := hj
    rw [stR_out (by omega) (by omega)]; exact R.ah j hj i hi
  · intro j hj i hi
    have hj' : j < S.ac := hj
    rw [stR_out (by omega) (by omega)]; exact R.aT j hj i hi
section M4
variable {d cl sl : Nat} {X : am_X} {F A : Nat → Nat → Int32} {L : Nat → Nat → Int64} {P : am_Q} {S : Ab}
theorem m_stands (R : mR (A 71) S) (h : wS S) {c : Nat} (hc : c < S.n) : am_Ca X (d + 2) 7038 [.ref 70, .int (nI c)] (am_Z cl sl F A L) P = P (.inl none) (am_Z cl sl F (va_up A 71 (stR (A 71) S.cur c)) L) := by
  have h6 := h.cur6
  have h60 := h.n60
  rw [c7038]
  have e : am_f2 A 71 (1560 + S.cur) (nI (c + 1)) = va_up A 71 (va_up (A 71) (1560 + S.cur) (nI (c + 1))) := rfl
  simp (disch := omega) only [R.cu, e, m_tree, m_lays, up_up, m_closes, u7038_0, u7038_1, u7038_4, u7038_7, u7038_8, u7038_11, u7038_14, u7038_15, u7038_16, u7038_17, u7038_18, u7038_19, u7038_20, u7038_21, u7038_22, u7038_25, u7038_28, u7038_31, u7038_32, u7038_35, gt_70_0, ob_70, xl_71, xs_71, ki_1, ki_1560, ki_1566, ki_1567, af_x hd_7038, decide_eq_true_eq, if_true, if_false, f2_ne, f2_eq, up_ne, up_eq, kc_int, kc_ref, kc_retAddr, kc_long, kc_double, af_n, af_v, z0, z1, n_of, nz6, nz4, bI_T, bI_F, bI_01, n_lt, n_le, n_eq, n_add, n_mul, n_sub, n_clamp, n_vp, m_lt, m_le, m_eq, m_eq2, m_ltm, m_add, true_and, and_true, eq_self, if_pos, if_neg, List.length_nil, List.length_cons, Nat.reduceAdd, Nat.reduceLeDiff, Nat.zero_le, not_true_eq_false, not_false_eq_true, true_or, or_true]
  rfl
end M4
