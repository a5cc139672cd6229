/-! THE MODEL: a commit is made -/
def mk1 (f : Nat → Int32) (n h v : Nat) : Nat → Int32 := va_up (va_up f (1440 + n) (nI (h + 1))) (1500 + n) (nI v)
def mk2 (f : Nat → Int32) (b n h v : Nat) : Nat → Int32 := va_up (va_up (va_cpy (mk1 f n h v) (mk1 f n h v) 1567 (24 * n) 24) (1560 + b) (nI (n + 1))) 1762 (nI (n + 1))
def mkR (f : Nat → Int32) (b n h v : Nat) : Nat → Int32 := cloR (mk2 f b n h v)
theorem mR_addC {f : Nat → Int32} {S : Ab} {v : Nat} (R : mR f S) (h : wS S) (hn : S.n < 60) : mR (mkR f S.cur S.n (hd S) v) (addC S v) := by
  have h6 := h.cur6
  have h3 := h.ac3
  -- where nothing changes
  have out : ∀ k, k ≠ 1762 → (k < 1591 ∨ 1616 < k) → k ≠ 1560 + S.cur → (k < 24 * S.n ∨ 24 * S.n + 24 ≤ k) → k ≠ 1440 + S.n → k ≠ 1500 + S.n → mkR f S.cur S.n (hd S) v k = f k := by
    intro k h1 h2 h3 h4 h5 h6
    unfold mkR mk2 mk1
    rw [cloR_out h2, up_ne h1, up_ne h3, cpy_out h4, up_ne h6, up_ne h5]
  refine mR.mk ?_ ?_ ?_ (fun e => ?_) ?_ ?_ ?_ ?_ ?_ ?_ ?_ ?_ ?_ ?_
  · show mkR f S.cur S.n (hd S) v 1762 = nI (S.n + 1)
    unfold mkR mk2
    rw [cloR_out (by omega), up_eq]
  · rw [out 1566 (by omega) (by omega) (by omega) (by omega) (by omega) (by omega)]; exact R.cu
  · exact cloR_op
  · exact absurd (show (0 : Nat) = 1 from e) (by decide)
  · rw [out 1617 (by omega) (by omega) (by omega) (by omega) (by omega) (by omega)]; exact R.ac
  · rw [out 1763 (by omega) (by omega) (by omega) (by omega) (by omega) (by omega)]; exact R.cf
  · intro k hk
    have hk' : k < S.n + 1 := hk
    show mkR f S.cur S.n (hd S) v (1440 + k) = nI (va_up S.p S.n (S.br S.cur) k)
    by_cases e : k = S.n
    · subst e
      unfold mkR mk2 mk1
      rw [cloR_out (by omega), up_ne (by omega), up_ne (by omega), cpy_out (by omega), up_ne (by omega), up_eq, up_eq, br_hd h]
    · rw [out _ (by omega) (by omega) (by omega) (by omega) (by omega) (by omega), up_ne e]; exact R.p k (by omega)
  · intro k hk
    have hk' : k < S.n + 1 := hk
    show mkR f S.cur S.n (hd S) v (1500 + k) = nI (va_up S.q S.n v k)
    by_cases e : k = S.n
    · subst e
      unfold mkR mk2 mk1
      rw [cloR_out (by omega), up_ne (by omega), up_ne (by omega), cpy_out (by omega), up_eq, up_eq]
    · rw [out _ (by omega) (by omega) (by omega) (by omega) (by omega) (by omega), up_ne e]; exact R.q k (by omega)
  · intro k hk i hi
    have hk' : k < S.n + 1 := hk
    show mkR f S.cur S.n (hd S) v (24 * k + i) = nI (va_up S.T S.n S.W k i)
    by_cases e : k = S.n
    · subst e
      unfold mkR mk2 mk1
      rw [cloR_out (by omega), up_ne (by omega), up_ne (by omega), cpy_in (by omega) (by omega), up_ne (by omega), up_ne (by omega), up_eq, show 1567 + (24 * S.n + i - 24 * S.n) = 1567 + i by omega]
      exact R.W i hi
    · rw [out _ (by omega) (by omega) (by omega) (by omega) (by omega) (by omega), up_ne e]; exact R.T k (by omega) i hi
  · intro b hb
    show mkR f S.cur S.n (hd S) v (1560 + b) = nI (va_up S.br S.cur (S.n + 1) b)
    by_cases e : b = S.cur
    · subst e
      unfold mkR mk2
      rw [cloR_out (by omega), up_ne (by omega), up_eq, up_eq]
    · rw [out _ (by omega) (by omega) (by omega) (by omega) (by omega) (by omega), up_ne e]; exact R.br b hb
  · intro i hi
    rw [addC_W, out _ (by omega) (by omega) (by omega) (by omega) (by omega) (by omega)]; exact R.W i hi
  · intro i hi
    exact cloR_O hi
  · intro j hj i hi
    have hj' : j < S.ac := hj
    have hah := h.ahn j hj'
    show mkR f S.cur S.n (hd S) v (1618 + 48 * j + i) = nI (va_up S.T S.n S.W (S.ah j) i)
    rw [out _ (by omega) (by omega) (by omega) (by omega) (by omega) (by omega), up_ne (by omega)]; exact R.ah j hj' i hi
  · intro j hj i hi
    have hj' : j < S.ac := hj
    rw [out _ (by omega) (by omega) (by omega) (by omega) (by omega) (by omega)]; exact R.aT j hj' i hi
section M5
variable {d cl sl : Nat} {X : am_X} {F A : Nat → Nat → Int32} {L : Nat → Nat → Int64} {P : am_Q} {S : Ab}
theorem m_makes (R : mR (A 71) S) (h : wS S) (hn : S.n < 60) {v : Nat} : am_Ca X (d + 3) 7035 [.ref 70, .int (pk v)] (am_Z cl sl F A L) P = P (.inl (some (.int (nI S.n)))) (am_Z cl sl F (va_up A 71 (mkR (A 71) S.cur S.n (hd S) v)) L) := by
  have h6 := h.cur6
  rw [c7035]
  have e1 : am_f2 A 71 (1440 + S.n) (nI (hd S + 1)) = va_up A 71 (va_up (A 71) (1440 + S.n) (nI (hd S + 1))) := rfl
  have ec : va_cpy (mk1 (A 71) S.n (hd S) v) (mk1 (A 71) S.n (hd S) v) 1567 (24 * S.n) 24 1566 = nI S.cur := by
    unfold mk1
    rw [cpy_out (by omega), up_ne (by omega), up_ne (by omega)]
    exact R.cu
  have en : va_up (va_cpy (mk1 (A 71) S.n (hd S) v) (mk1 (A 71) S.n (hd S) v) 1567 (24 * S.n) 24) (1560 + S.cur) (nI (S.n + 1)) 1762 = nI S.n := by
    unfold mk1
    rw [up_ne (by omega), cpy_out (by omega), up_ne (by omega), up_ne (by omega)]
    exact R.n0
  have em : va_up (va_up (A 71) (1440 + S.n) (nI (hd S + 1))) (1500 + S.n) (nI v) = mk1 (A 71) S.n (hd S) v := rfl
  simp (disch := omega) only [R.n0, m_top R h, e1, f2_up, pk_up, em, m_tree, m_lays, up_up, ec, en, m_closes, u7035_0, u7035_1, u7035_4, u7035_7, u7035_8, u7035_9, u7035_10, u7035_13, u7035_16, u7035_17, u7035_18, u7035_19, u7035_22, u7035_23, u7035_24, u7035_25, u7035_26, u7035_29, u7035_32, u7035_33, u7035_34, u7035_35, u7035_36, u7035_37, u7035_38, u7035_39, u7035_42, u7035_43, u7035_46, u7035_49, u7035_50, u7035_53, u7035_56, u7035_57, u7035_60, u7035_63, u7035_64, u7035_65, u7035_66, u7035_67, u7035_68, u7035_69, u7035_70, u7035_73, u7035_76ir, u7035_77, u7035_78, u7035_79, u7035_80, u7035_81, u7035_82, u7035_85, u7035_86, gt_70_0, ob_70, xl_71, xs_71, ki_1, ki_1440, ki_1500, ki_1560, ki_1566, ki_1567, ki_1762, af_x hd_7035, decide_eq_true_eq, if_true, if_false, f2_ne, f2_eq, up_ne, up_eq, kc_int, kc_ref, kc_retAddr, kc_long, kc_double, af_n, af_v, z0, z1, n_of, nz6, nz4, bI_T, bI_F, bI_01, n_lt, n_le, n_eq, n_add, n_mul, n_sub, n_clamp, n_vp, m_lt, m_le, m_eq, m_eq2, m_ltm, m_add, true_and, and_true, eq_self, if_pos, if_neg, List.length_nil, List.length_cons, Nat.reduceAdd, Nat.reduceLeDiff, Nat.zero_le, not_true_eq_false, not_false_eq_true, true_or, or_true]
  rfl
end M5
