/-! THE MODEL: answers that are counted -/
theorem cnt_not (p : Nat → Bool) : ∀ n, cnt (fun x => !p x) n + cnt p n = n
  | 0 => rfl
  | n + 1 => by
    have ih := cnt_not p n
    cases hp : p n with
    | true => rw [cnt_t hp, cnt_f (p := fun x => !p x) (by simp [hp])]; omega
    | false => rw [cnt_f hp, cnt_t (p := fun x => !p x) (by simp [hp])]; omega
theorem cnt_cut {p : Nat → Bool} {n : Nat} : ∀ j, (∀ i, n ≤ i → p i = false) → cnt p (n + j) = cnt p n
  | 0, _ => rfl
  | j + 1, h => by
    show cnt p (n + j + 1) = cnt p n
    rw [cnt_f (h (n + j) (by omega)), cnt_cut j h]
theorem cnt_60 {p : Nat → Bool} {n : Nat} (hn : n ≤ 60) (h : ∀ i, n ≤ i → p i = false) : cnt p 60 = cnt p n := by
  have e := cnt_cut (60 - n) h
  rw [show n + (60 - n) = 60 by omega] at e
  exact e
theorem rat_cut {Z : Nat → Prop} {pl a m : Nat} : ∀ j, (∀ i, m ≤ i → ¬ Z i) → rat Z pl (m + j) a = rat Z pl m a
  | 0, _ => rfl
  | j + 1, h => (if_neg (h (m + j) (by omega))).trans (rat_cut j h)
theorem rat_60 {Z : Nat → Prop} {pl a m : Nat} (hm : m ≤ 60) (h : ∀ i, m ≤ i → ¬ Z i) : rat Z pl 60 a = rat Z pl m a := by
  have e := rat_cut (pl := pl) (a := a) (60 - m) h
  rw [show m + (60 - m) = 60 by omega] at e
  exact e
theorem loN_none {f : Nat → Bool} : ∀ (j i : Nat), (∀ x, i ≤ x → f x = false) → loN f j i = m1
  | 0, _, _ => rfl
  | j + 1, i, h => by
    show (if f i = true then nI i else loN f j (i + 1)) = m1
    rw [if_neg (by rw [h i (by omega)]; decide)]
    exact loN_none j (i + 1) fun x hx => h x (by omega)
theorem loN_cut {f : Nat → Bool} : ∀ (j m i : Nat), (∀ x, i + m ≤ x → f x = false) → loN f (m + j) i = loN f m i := by
  intro j m
  induction m with
  | zero =>
    intro i h
    rw [Nat.zero_add]
    exact loN_none j i fun x hx => h x (by omega)
  | succ m ih =>
    intro i h
    rw [show m + 1 + j = (m + j) + 1 by omega]
    show (if f i = true then nI i else loN f (m + j) (i + 1)) = (if f i = true then nI i else loN f m (i + 1))
    rw [ih (i + 1) fun x hx => h x (by omega)]
theorem loN_60 {f : Nat → Bool} {m : Nat} (hm : m ≤ 60) (h : ∀ x, m ≤ x → f x = false) : loN f 60 0 = loN f m 0 := by
  have e := loN_cut (60 - m) m 0 (fun x hx => h x (by omega))
  rw [show m + (60 - m) = 60 by omega] at e
  exact e
section QB
variable {d cl sl m t : Nat} {X : am_X} {F A : Nat → Nat → Int32} {L L2 : Nat → Nat → Int64} {P : am_Q} {S : Ab} {G : Fu}
theorem m_isRowAhead (R : mR (A 71) S) (h : wS S) {i : Nat} (hi : i < 24) : am_Ca X (d + 1) 7086 [.ref 70, .int (nI i)] (am_Z cl sl F A L) P = P (.inl (some (.int (bI (i % 6 ≠ 0 ∧ coN S (i - 1) = true))))) (am_Z cl sl F A L) := by
  rw [c7086]
  by_cases e : i % 6 = 0
  · rw [bI_f (fun z => z.1 e)]
    simp (disch := omega) only [n_rem, e, u7086_0, u7086_1, u7086_3, u7086_4, u7086_7, u7086_8, u7086_11, u7086_14, u7086_15, u7086_16, u7086_17, u7086_18, u7086_19, u7086_22, u7086_23, u7086_26, u7086_27, gt_70_0, xl_71, ki_0, ki_1, ki_1591, ki_6, af_x hd_7086, decide_eq_true_eq, if_true, if_false, f2_ne, f2_eq, up_ne, up_eq, kc_int, kc_ref, kc_retAddr, kc_long, kc_double, af_n, af_v, z0, z1, n_of, nz6, nz4, bI_T, bI_F, bI_01, n_lt, n_le, n_eq, n_add, n_mul, n_sub, n_clamp, n_vp, m_lt, m_le, m_eq, m_eq2, m_ltm, m_add, true_and, and_true, eq_self, if_pos, if_neg, List.length_nil, List.length_cons, Nat.reduceAdd, Nat.reduceLeDiff, Nat.zero_le, not_true_eq_false, not_false_eq_true, true_or, or_true]
  · have ho := h.Ov (i - 1) (by omega)
    have ei : 1591 + i - 1 = 1591 + (i - 1) := by omega
    by_cases e2 : S.O (i - 1) = 0
    · rw [bI_f (fun z => by have := z.2; simp [coN, e2] at this)]
      simp (disch := omega) only [n_rem, e, ei, R.O (i - 1), e2, u7086_0, u7086_1, u7086_3, u7086_4, u7086_7, u7086_8, u7086_11, u7086_14, u7086_15, u7086_16, u7086_17, u7086_18, u7086_19, u7086_22, u7086_23, u7086_26, u7086_27, gt_70_0, xl_71, ki_0, ki_1, ki_1591, ki_6, af_x hd_7086, decide_eq_true_eq, if_true, if_false, f2_ne, f2_eq, up_ne, up_eq, kc_int, kc_ref, kc_retAddr, kc_long, kc_double, af_n, af_v, z0, z1, n_of, nz6, nz4, bI_T, bI_F, bI_01, n_lt, n_le, n_eq, n_add, n_mul, n_sub, n_clamp, n_vp, m_lt, m_le, m_eq, m_eq2, m_ltm, m_add, true_and, and_true, eq_self, if_pos, if_neg, List.length_nil, List.length_cons, Nat.reduceAdd, Nat.reduceLeDiff, Nat.zero_le, not_true_eq_false, not_false_eq_true, true_or, or_true]
    · rw [bI_t ⟨e, by simp [coN, e2]⟩]
      simp (disch := omega) only [n_rem, e, ei, R.O (i - 1), u7086_0, u7086_1, u7086_3, u7086_4, u7086_7, u7086_8, u7086_11, u7086_14, u7086_15, u7086_16, u7086_17, u7086_18, u7086_19, u7086_22, u7086_23, u7086_26, u7086_27, gt_70_0, xl_71, ki_0, ki_1, ki_1591, ki_6, af_x hd_7086, decide_eq_true_eq, if_true, if_false, f2_ne, f2_eq, up_ne, up_eq, kc_int, kc_ref, kc_retAddr, kc_long, kc_double, af_n, af_v, z0, z1, n_of, nz6, nz4, bI_T, bI_F, bI_01, n_lt, n_le, n_eq, n_add, n_mul, n_sub, n_clamp, n_vp, m_lt, m_le, m_eq, m_eq2, m_ltm, m_add, true_and, and_true, eq_self, if_pos, if_neg, List.length_nil, List.length_cons, Nat.reduceAdd, Nat.reduceLeDiff, Nat.zero_le, not_true_eq_false, not_false_eq_true, true_or, or_true]
theorem rg_t {f : Nat → Bool} {i : Nat} (h1 : f i = true) (h2 : ¬ (i % 6 ≠ 0 ∧ f (i - 1) = true)) : rgF f i = true := by unfold rgF; simp only [decide_eq_true_eq]; exact ⟨h1, h2⟩
theorem rg_f {f : Nat → Bool} {i : Nat} (h : ¬ (f i = true ∧ ¬ (i % 6 ≠ 0 ∧ f (i - 1) = true))) : rgF f i = false := by unfold rgF; simpa using h
theorem l_regions (R : mR (A 71) S) (h : wS S) : ∀ (k i : Nat), i + k = 24 → am_g (d + 1) X am_m7087 9 [.ref 70, .int (nI (cnt (rgF (coN S)) i)), .int (nI i)] [] (am_Z cl sl F A L) P = P (.inl (some (.int (nI (cnt (rgF (coN S)) 24))))) (am_Z cl sl F A L) := by
  intro k
  induction k with
  | zero =>
    intro i hi
    obtain rfl : i = 24 := by omega
    rw [u7087_9]
    simp (disch := omega) only [u7087_0, u7087_1, u7087_2, u7087_5, u7087_6, u7087_7, u7087_8, u7087_10, u7087_12, u7087_15, u7087_16, u7087_17, u7087_20, u7087_23, u7087_24, u7087_25, u7087_26, u7087_29, u7087_30, u7087_31, u7087_34, u7087_37, u7087_38, u7087_41, u7087_42, u7087_43, u7087_44, u7087_47, u7087_50, u7087_51, pt_70_8, gt_70_0, ob_70, xl_71, ki_0, ki_1, ki_1591, ki_24, af_x hd_7087, decide_eq_true_eq, if_true, if_false, f2_ne, f2_eq, up_ne, up_eq, kc_int, kc_ref, kc_retAddr, kc_long, kc_double, af_n, af_v, z0, z1, n_of, nz6, nz4, bI_T, bI_F, bI_01, n_lt, n_le, n_eq, n_add, n_mul, n_sub, n_clamp, n_vp, m_lt, m_le, m_eq, m_eq2, m_ltm, m_add, true_and, and_true, eq_self, if_pos, if_neg, List.length_nil, List.length_cons, Nat.reduceAdd, Nat.reduceLeDiff, Nat.zero_le, not_true_eq_false, not_false_eq_true, true_or, or_true]
  | succ k ih =>
    intro i hi
    have ho := h.Ov i (by omega)
    have h2 := ih (i + 1) (by omega)
    rw [u7087_9]
    by_cases e : S.O i = 0
    · rw [cnt_f (rg_f fun z => by have := z.1; simp [coN, e] at this)] at h2
      simp (disch := omega) only [R.O i, e, Nat.add_zero, u7087_0, u7087_1, u7087_2, u7087_5, u7087_6, u7087_7, u7087_8, u7087_10, u7087_12, u7087_15, u7087_16, u7087_17, u7087_20, u7087_23, u7087_24, u7087_25, u7087_26, u7087_29, u7087_30, u7087_31, u7087_34, u7087_37, u7087_38, u7087_41, u7087_42, u7087_43, u7087_44, u7087_47, u7087_50, u7087_51, pt_70_8, gt_70_0, ob_70, xl_71, ki_0, ki_1, ki_1591, ki_24, af_x hd_7087, decide_eq_true_eq, if_true, if_false, f2_ne, f2_eq, up_ne, up_eq, kc_int, kc_ref, kc_retAddr, kc_long, kc_double, af_n, af_v, z0, z1, n_of, nz6, nz4, bI_T, bI_F, bI_01, n_lt, n_le, n_eq, n_add, n_mul, n_sub, n_clamp, n_vp, m_lt, m_le, m_eq, m_eq2, m_ltm, m_add, true_and, and_true, eq_self, if_pos, if_neg, List.length_nil, List.length_cons, Nat.reduceAdd, Nat.reduceLeDiff, Nat.zero_le, not_true_eq_false, not_false_eq_true, true_or, or_true]
      exact h2
    · have e1 : coN S i = true := by simp [coN, e]
      by_cases e2 : i % 6 ≠ 0 ∧ coN S (i - 1) = true
      · rw [cnt_f (rg_f fun z => z.2 e2)] at h2
        simp (disch := omega) only [R.O i, m_isRowAhead R h, bI_t e2, Nat.add_zero, u7087_0, u7087_1, u7087_2, u7087_5, u7087_6, u7087_7, u7087_8, u7087_10, u7087_12, u7087_15, u7087_16, u7087_17, u7087_20, u7087_23, u7087_24, u7087_25, u7087_26, u7087_29, u7087_30, u7087_31, u7087_34, u7087_37, u7087_38, u7087_41, u7087_42, u7087_43, u7087_44, u7087_47, u7087_50, u7087_51, pt_70_8, gt_70_0, ob_70, xl_71, ki_0, ki_1, ki_1591, ki_24, af_x hd_7087, decide_eq_true_eq, if_true, if_false, f2_ne, f2_eq, up_ne, up_eq, kc_int, kc_ref, kc_retAddr, kc_long, kc_double, af_n, af_v, z0, z1, n_of, nz6, nz4, bI_T, bI_F, bI_01, n_lt, n_le, n_eq, n_add, n_mul, n_sub, n_clamp, n_vp, m_lt, m_le, m_eq, m_eq2, m_ltm, m_add, true_and, and_true, eq_self, if_pos, if_neg, List.length_nil, List.length_cons, Nat.reduceAdd, Nat.reduceLeDiff, Nat.zero_le, not_true_eq_false, not_false_eq_true, true_or, or_true]
        exact h2
      · rw [cnt_t (rg_t e1 e2)] at h2
        simp (disch := omega) only [R.O i, m_isRowAhead R h, bI_f e2, u7087_0, u7087_1, u7087_2, u7087_5, u7087_6, u7087_7, u7087_8, u7087_10, u7087_12, u7087_15, u7087_16, u7087_17, u7087_20, u7087_23, u7087_24, u7087_25, u7087_26, u7087_29, u7087_30, u7087_31, u7087_34, u7087_37, u7087_38, u7087_41, u7087_42, u7087_43, u7087_44, u7087_47, u7087_50, u7087_51, pt_70_8, gt_70_0, ob_70, xl_71, ki_0, ki_1, ki_1591, ki_24, af_x hd_7087, decide_eq_true_eq, if_true, if_false, f2_ne, f2_eq, up_ne, up_eq, kc_int, kc_ref, kc_retAddr, kc_long, kc_double, af_n, af_v, z0, z1, n_of, nz6, nz4, bI_T, bI_F, bI_01, n_lt, n_le, n_eq, n_add, n_mul, n_sub, n_clamp, n_vp, m_lt, m_le, m_eq, m_eq2, m_ltm, m_add, true_and, and_true, eq_self, if_pos, if_neg, List.length_nil, List.length_cons, Nat.reduceAdd, Nat.reduceLeDiff, Nat.zero_le, not_true_eq_false, not_false_eq_true, true_or, or_true]
        exact h2
theorem w_regions (c : mG F A G) (w : wG G) : wO X (d + 8) 7087 [.ref 70] cl sl F A L 0 (nI (cnt (rgF (coN G.S)) 24)) G := wO_q c Lf_id fun P => by
  rw [c7087]
  simp (disch := omega) only [u7087_0, u7087_1, u7087_2, u7087_5, u7087_6, u7087_7, u7087_8, u7087_10, u7087_12, u7087_15, u7087_16, u7087_17, u7087_20, u7087_23, u7087_24, u7087_25, u7087_26, u7087_29, u7087_30, u7087_31, u7087_34, u7087_37, u7087_38, u7087_41, u7087_42, u7087_43, u7087_44, u7087_47, u7087_50, u7087_51, pt_70_8, gt_70_0, ob_70, xl_71, ki_0, ki_1, ki_1591, ki_24, af_x hd_7087, decide_eq_true_eq, if_true, if_false, f2_ne, f2_eq, up_ne, up_eq, kc_int, kc_ref, kc_retAddr, kc_long, kc_double, af_n, af_v, z0, z1, n_of, nz6, nz4, bI_T, bI_F, bI_01, n_lt, n_le, n_eq, n_add, n_mul, n_sub, n_clamp, n_vp, m_lt, m_le, m_eq, m_eq2, m_ltm, m_add, true_and, and_true, eq_self, if_pos, if_neg, List.length_nil, List.length_cons, Nat.reduceAdd, Nat.reduceLeDiff, Nat.zero_le, not_true_eq_false, not_false_eq_true, true_or, or_true]
  exact l_regions (d := d + 6) c.R w.w 24 0 rfl
theorem m_more {a b : Nat} (ha : a < 1000) (hb : b < 1000) : am_Ca X (d + 1) 7006 [.int (nI a), .int (nI b)] (am_Z cl sl F A L) P = P (.inl (some (.int (nI (max a b))))) (am_Z cl sl F A L) := by
  rw [c7006]
  by_cases e : a < b
  · rw [show max a b = b by omega]
    simp (disch := omega) only [e, u7006_0, u7006_1, u7006_2, u7006_5, u7006_6, u7006_9, u7006_10, af_x hd_7006, decide_eq_true_eq, if_true, if_false, f2_ne, f2_eq, up_ne, up_eq, kc_int, kc_ref, kc_retAddr, kc_long, kc_double, af_n, af_v, z0, z1, n_of, nz6, nz4, bI_T, bI_F, bI_01, n_lt, n_le, n_eq, n_add, n_mul, n_sub, n_clamp, n_vp, m_lt, m_le, m_eq, m_eq2, m_ltm, m_add, true_and, and_true, eq_self, if_pos, if_neg, List.length_nil, List.length_cons, Nat.reduceAdd, Nat.reduceLeDiff, Nat.zero_le, not_true_eq_false, not_false_eq_true, true_or, or_true]
  · rw [show max a b = a by omega]
    simp (disch := omega) only [e, u7006_0, u7006_1, u7006_2, u7006_5, u7006_6, u7006_9, u7006_10, af_x hd_7006, decide_eq_true_eq, if_true, if_false, f2_ne, f2_eq, up_ne, up_eq, kc_int, kc_ref, kc_retAddr, kc_long, kc_double, af_n, af_v, z0, z1, n_of, nz6, nz4, bI_T, bI_F, bI_01, n_lt, n_le, n_eq, n_add, n_mul, n_sub, n_clamp, n_vp, m_lt, m_le, m_eq, m_eq2, m_ltm, m_add, true_and, and_true, eq_self, if_pos, if_neg, List.length_nil, List.length_cons, Nat.reduceAdd, Nat.reduceLeDiff, Nat.zero_le, not_true_eq_false, not_false_eq_true, true_or, or_true]
theorem l_lon2 (R : mR (A 71) S) (h : wS S) {a : Nat} (ha : a < 4) : ∀ (k b : Nat), b + k = 6 → am_g (d + 1) X am_m7088 19 [.ref 70, .int (nI (lonL (coN S) (a * 6 + b))), .int (nI a), .int (nI (if b = 0 then 0 else rowL (coN S) (a * 6 + b))), .int (nI b)] [] (am_Z cl sl F A L) P = am_g (d + 1) X am_m7088 9 [.ref 70, .int (nI (lonL (coN S) ((a + 1) * 6))), .int (nI (a + 1)), .int (nI (rowL (coN S) (a * 6 + 6))), .int (nI 6)] [] (am_Z cl sl F A L) P := by
  intro k
  induction k with
  | zero =>
    intro b hb
    obtain rfl : b = 6 := by omega
    rw [show (a + 1) * 6 = a * 6 + 6 by omega, if_neg (by decide), u7088_19]
    simp (disch := omega) only [u7088_0, u7088_1, u7088_2, u7088_5, u7088_6, u7088_7, u7088_8, u7088_10, u7088_11, u7088_14, u7088_15, u7088_16, u7088_17, u7088_21, u7088_23, u7088_26, u7088_27, u7088_28, u7088_30, u7088_33, u7088_36, u7088_37, u7088_38, u7088_39, u7088_42, u7088_43, u7088_44, u7088_45, u7088_46, u7088_49, u7088_50, u7088_53, u7088_56, u7088_59, u7088_62, u7088_63, pt_70_8, ob_70, ki_0, ki_1, ki_4, ki_6, af_x hd_7088, decide_eq_true_eq, if_true, if_false, f2_ne, f2_eq, up_ne, up_eq, kc_int, kc_ref, kc_retAddr, kc_long, kc_double, af_n, af_v, z0, z1, n_of, nz6, nz4, bI_T, bI_F, bI_01, n_lt, n_le, n_eq, n_add, n_mul, n_sub, n_clamp, n_vp, m_lt, m_le, m_eq, m_eq2, m_ltm, m_add, true_and, and_true, eq_self, if_pos, if_neg, List.length_nil, List.length_cons, Nat.reduceAdd, Nat.reduceLeDiff, Nat.zero_le, not_true_eq_false, not_false_eq_true, true_or, or_true]
  | succ k ih =>
    intro b hb
    have h9 := ih (b + 1) (by omega)
    have ho := h.Ov (a * 6 + b) (by omega)
    have hl := lonL_le (coN S) (a * 6 + b)
    have hr := rowL_le (coN S) (a * 6 + b)
    have em : (a * 6 + b) % 6 = b := by omega
    have er : (if b = 0 then 0 else rowL (coN S) (a * 6 + b)) ≤ 24 := by split <;> omega
    rw [if_neg (show ¬ b + 1 = 0 by omega), show a * 6 + (b + 1) = a * 6 + b + 1 by omega] at h9
    rw [u7088_19]
    by_cases e : S.O (a * 6 + b) = 0
    · have e1 : rowL (coN S) (a * 6 + b + 1) = 0 := if_neg (by simp [coN, e])
      have e2 : lonL (coN S) (a * 6 + b + 1) = max (lonL (coN S) (a * 6 + b)) 0 := by
        show max _ (rowL _ _) = _
        rw [e1]
      rw [e1, e2] at h9
      simp (disch := omega) only [m_their R ha, e, m_more, u7088_0, u7088_1, u7088_2, u7088_5, u7088_6, u7088_7, u7088_8, u7088_10, u7088_11, u7088_14, u7088_15, u7088_16, u7088_17, u7088_21, u7088_23, u7088_26, u7088_27, u7088_28, u7088_30, u7088_33, u7088_36, u7088_37, u7088_38, u7088_39, u7088_42, u7088_43, u7088_44, u7088_45, u7088_46, u7088_49, u7088_50, u7088_53, u7088_56, u7088_59, u7088_62, u7088_63, pt_70_8, ob_70, ki_0, ki_1, ki_4, ki_6, af_x hd_7088, decide_eq_true_eq, if_true, if_false, f2_ne, f2_eq, up_ne, up_eq, kc_int, kc_ref, kc_retAddr, kc_long, kc_double, af_n, af_v, z0, z1, n_of, nz6, nz4, bI_T, bI_F, bI_01, n_lt, n_le, n_eq, n_add, n_mul, n_sub, n_clamp, n_vp, m_lt, m_le, m_eq, m_eq2, m_ltm, m_add, true_and, and_true, eq_self, if_pos, if_neg, List.length_nil, List.length_cons, Nat.reduceAdd, Nat.reduceLeDiff, Nat.zero_le, not_true_eq_false, not_false_eq_true, true_or, or_true]
      exact h9
    · have e1 : rowL (coN S) (a * 6 + b + 1) = (if b = 0 then 0 else rowL (coN S) (a * 6 + b)) + 1 := by
        refine (if_pos (by simp [coN, e])).trans ?_
        rw [em]
      have e2 : lonL (coN S) (a * 6 + b + 1) = max (lonL (coN S) (a * 6 + b)) ((if b = 0 then 0 else rowL (coN S) (a * 6 + b)) + 1) := by
        show max _ (rowL _ _) = _
        rw [e1]
      rw [e1, e2] at h9
      generalize (if b = 0 then 0 else rowL (coN S) (a * 6 + b)) = r at *
      simp (disch := omega) only [m_their R ha, m_more, u7088_0, u7088_1, u7088_2, u7088_5, u7088_6, u7088_7, u7088_8, u7088_10, u7088_11, u7088_14, u7088_15, u7088_16, u7088_17, u7088_21, u7088_23, u7088_26, u7088_27, u7088_28, u7088_30, u7088_33, u7088_36, u7088_37, u7088_38, u7088_39, u7088_42, u7088_43, u7088_44, u7088_45, u7088_46, u7088_49, u7088_50, u7088_53, u7088_56, u7088_59, u7088_62, u7088_63, pt_70_8, ob_70, ki_0, ki_1, ki_4, ki_6, af_x hd_7088, decide_eq_true_eq, if_true, if_false, f2_ne, f2_eq, up_ne, up_eq, kc_int, kc_ref, kc_retAddr, kc_long, kc_double, af_n, af_v, z0, z1, n_of, nz6, nz4, bI_T, bI_F, bI_01, n_lt, n_le, n_eq, n_add, n_mul, n_sub, n_clamp, n_vp, m_lt, m_le, m_eq, m_eq2, m_ltm, m_add, true_and, and_true, eq_self, if_pos, if_neg, List.length_nil, List.length_cons, Nat.reduceAdd, Nat.reduceLeDiff, Nat.zero_le, not_true_eq_false, not_false_eq_true, true_or, or_true]
      exact h9
theorem l_lon (R : mR (A 71) S) (h : wS S) : ∀ (k a : Nat) (v3 v4 : Value), a + k = 4 → am_g (d + 1) X am_m7088 9 [.ref 70, .int (nI (lonL (coN S) (a * 6))), .int (nI a), v3, v4] [] (am_Z cl sl F A L) P = P (.inl (some (.int (nI (lonL (coN S) 24))))) (am_Z cl sl F A L) := by
  intro k
  induction k with
  | zero =>
    intro a v3 v4 ha
    obtain rfl : a = 4 := by omega
    rw [u7088_9]
    simp (disch := omega) only [u7088_0, u7088_1, u7088_2, u7088_5, u7088_6, u7088_7, u7088_8, u7088_10, u7088_11, u7088_14, u7088_15, u7088_16, u7088_17, u7088_19, u7088_21, u7088_23, u7088_26, u7088_27, u7088_28, u7088_30, u7088_33, u7088_36, u7088_37, u7088_38, u7088_39, u7088_42, u7088_43, u7088_44, u7088_45, u7088_46, u7088_49, u7088_50, u7088_53, u7088_56, u7088_59, u7088_62, u7088_63, pt_70_8, ob_70, ki_0, ki_1, ki_4, ki_6, af_x hd_7088, decide_eq_true_eq, if_true, if_false, f2_ne, f2_eq, up_ne, up_eq, kc_int, kc_ref, kc_retAddr, kc_long, kc_double, af_n, af_v, z0, z1, n_of, nz6, nz4, bI_T, bI_F, bI_01, n_lt, n_le, n_eq, n_add, n_mul, n_sub, n_clamp, n_vp, m_lt, m_le, m_eq, m_eq2, m_ltm, m_add, true_and, and_true, eq_self, if_pos, if_neg, List.length_nil, List.length_cons, Nat.reduceAdd, Nat.reduceLeDiff, Nat.zero_le, not_true_eq_false, not_false_eq_true, true_or, or_true]
  | succ k ih =>
    intro a v3 v4 ha
    have h2 := l_lon2 (d := d) (X := X) (cl := cl) (sl := sl) (F := F) (L := L) (P := P) R h (show a < 4 by omega) 6 0 rfl
    rw [if_pos rfl] at h2
    simp only [Nat.add_zero] at h2
    rw [u7088_9]
    simp (disch := omega) only [u7088_0, u7088_1, u7088_2, u7088_5, u7088_6, u7088_7, u7088_8, u7088_10, u7088_11, u7088_14, u7088_15, u7088_16, u7088_17, u7088_21, u7088_23, u7088_26, u7088_27, u7088_28, u7088_30, u7088_33, u7088_36, u7088_37, u7088_38, u7088_39, u7088_42, u7088_43, u7088_44, u7088_45, u7088_46, u7088_49, u7088_50, u7088_53, u7088_56, u7088_59, u7088_62, u7088_63, pt_70_8, ob_70, ki_0, ki_1, ki_4, ki_6, af_x hd_7088, decide_eq_true_eq, if_true, if_false, f2_ne, f2_eq, up_ne, up_eq, kc_int, kc_ref, kc_retAddr, kc_long, kc_double, af_n, af_v, z0, z1, n_of, nz6, nz4, bI_T, bI_F, bI_01, n_lt, n_le, n_eq, n_add, n_mul, n_sub, n_clamp, n_vp, m_lt, m_le, m_eq, m_eq2, m_ltm, m_add, true_and, and_true, eq_self, if_pos, if_neg, List.length_nil, List.length_cons, Nat.reduceAdd, Nat.reduceLeDiff, Nat.zero_le, not_true_eq_false, not_false_eq_true, true_or, or_true]
    rw [h2]
    exact ih (a + 1) _ _ (by omega)
theorem w_longestRegion (c : mG F A G) (w : wG G) : wO X (d + 8) 7088 [.ref 70] cl sl F A L 0 (nI (lonL (coN G.S) 24)) G := wO_q c Lf_id fun P => by
  rw [c7088]
  simp (disch := omega) only [u7088_0, u7088_1, u7088_2, u7088_5, u7088_6, u7088_7, u7088_8, u7088_10, u7088_11, u7088_14, u7088_15, u7088_16, u7088_17, u7088_19, u7088_21, u7088_23, u7088_26, u7088_27, u7088_28, u7088_30, u7088_33, u7088_36, u7088_37, u7088_38, u7088_39, u7088_42, u7088_43, u7088_44, u7088_45, u7088_46, u7088_49, u7088_50, u7088_53, u7088_56, u7088_59, u7088_62, u7088_63, pt_70_8, ob_70, ki_0, ki_1, ki_4, ki_6, af_x hd_7088, decide_eq_true_eq, if_true, if_false, f2_ne, f2_eq, up_ne, up_eq, kc_int, kc_ref, kc_retAddr, kc_long, kc_double, af_n, af_v, z0, z1, n_of, nz6, nz4, bI_T, bI_F, bI_01, n_lt, n_le, n_eq, n_add, n_mul, n_sub, n_clamp, n_vp, m_lt, m_le, m_eq, m_eq2, m_ltm, m_add, true_and, and_true, eq_self, if_pos, if_neg, List.length_nil, List.length_cons, Nat.reduceAdd, Nat.reduceLeDiff, Nat.zero_le, not_true_eq_false, not_false_eq_true, true_or, or_true]
  exact l_lon (d := d + 6) c.R w.w 4 0 _ _ rfl
theorem l_mmerges (R : mR (A 71) S) (h : wS S) (h6 : S.n ≤ 60) : ∀ (k i : Nat), i + k = S.n → am_g (d) X am_m7122 9 [.ref 70, .int (nI (cnt (meN S) i)), .int (nI i)] [] (am_Z cl sl F A L) P = P (.inl (some (.int (nI (cnt (meN S) S.n))))) (am_Z cl sl F A L) := by
  intro k
  induction k with
  | zero =>
    intro i hi
    obtain rfl : i = S.n := by omega
    rw [u7122_9]
    simp (disch := omega) only [R.n0, R.q, u7122_0, u7122_1, u7122_2, u7122_5, u7122_6, u7122_7, u7122_8, u7122_10, u7122_11, u7122_14, u7122_17, u7122_18, u7122_21, u7122_22, u7122_23, u7122_26, u7122_29, u7122_30, u7122_31, u7122_32, u7122_35, u7122_36, u7122_39, u7122_40, u7122_41, u7122_42, u7122_45, u7122_48, u7122_49, pt_70_8, gt_70_0, xl_71, ki_0, ki_1, ki_1500, ki_1762, af_x hd_7122, decide_eq_true_eq, if_true, if_false, f2_ne, f2_eq, up_ne, up_eq, kc_int, kc_ref, kc_retAddr, kc_long, kc_double, af_n, af_v, z0, z1, n_of, nz6, nz4, bI_T, bI_F, bI_01, n_lt, n_le, n_eq, n_add, n_mul, n_sub, n_clamp, n_vp, m_lt, m_le, m_eq, m_eq2, m_ltm, m_add, true_and, and_true, eq_self, if_pos, if_neg, List.length_nil, List.length_cons, Nat.reduceAdd, Nat.reduceLeDiff, Nat.zero_le, not_true_eq_false, not_false_eq_true, true_or, or_true]
  | succ k ih =>
    intro i hi
    rw [u7122_9]
    have h1 := (h.par i (by omega)).2
    by_cases hv : S.q i = 0
    · simp (disch := omega) only [R.n0, R.q, hv, u7122_0, u7122_1, u7122_2, u7122_5, u7122_6, u7122_7, u7122_8, u7122_10, u7122_11, u7122_14, u7122_17, u7122_18, u7122_21, u7122_22, u7122_23, u7122_26, u7122_29, u7122_30, u7122_31, u7122_32, u7122_35, u7122_36, u7122_39, u7122_40, u7122_41, u7122_42, u7122_45, u7122_48, u7122_49, pt_70_8, gt_70_0, xl_71, ki_0, ki_1, ki_1500, ki_1762, af_x hd_7122, decide_eq_true_eq, if_true, if_false, f2_ne, f2_eq, up_ne, up_eq, kc_int, kc_ref, kc_retAddr, kc_long, kc_double, af_n, af_v, z0, z1, n_of, nz6, nz4, bI_T, bI_F, bI_01, n_lt, n_le, n_eq, n_add, n_mul, n_sub, n_clamp, n_vp, m_lt, m_le, m_eq, m_eq2, m_ltm, m_add, true_and, and_true, eq_self, if_pos, if_neg, List.length_nil, List.length_cons, Nat.reduceAdd, Nat.reduceLeDiff, Nat.zero_le, not_true_eq_false, not_false_eq_true, true_or, or_true]
      have e : cnt (meN S) (i + 1) = cnt (meN S) i := cnt_f (by simp [meN, hv])
      have h2 := ih (i + 1) (by omega)
      rw [e] at h2
      exact h2
    · simp (disch := omega) only [R.n0, R.q, hv, u7122_0, u7122_1, u7122_2, u7122_5, u7122_6, u7122_7, u7122_8, u7122_10, u7122_11, u7122_14, u7122_17, u7122_18, u7122_21, u7122_22, u7122_23, u7122_26, u7122_29, u7122_30, u7122_31, u7122_32, u7122_35, u7122_36, u7122_39, u7122_40, u7122_41, u7122_42, u7122_45, u7122_48, u7122_49, pt_70_8, gt_70_0, xl_71, ki_0, ki_1, ki_1500, ki_1762, af_x hd_7122, decide_eq_true_eq, if_true, if_false, f2_ne, f2_eq, up_ne, up_eq, kc_int, kc_ref, kc_retAddr, kc_long, kc_double, af_n, af_v, z0, z1, n_of, nz6, nz4, bI_T, bI_F, bI_01, n_lt, n_le, n_eq, n_add, n_mul, n_sub, n_clamp, n_vp, m_lt, m_le, m_eq, m_eq2, m_ltm, m_add, true_and, and_true, eq_self, if_pos, if_neg, List.length_nil, List.length_cons, Nat.reduceAdd, Nat.reduceLeDiff, Nat.zero_le, not_true_eq_false, not_false_eq_true, true_or, or_true]
      have e : cnt (meN S) (i + 1) = cnt (meN S) i + 1 := cnt_t (by simp [meN, hv])
      have h2 := ih (i + 1) (by omega)
      rw [e] at h2
      exact h2

theorem w_merges (c : mG F A G) (w : wG G) : wO X (d + 8) 7122 [.ref 70] cl sl F A L 0 (nI (cnt (meN G.S) G.S.n)) G := wO_q c Lf_id fun P => by
  rw [c7122]
  simp (disch := omega) only [u7122_0, u7122_1, u7122_2, u7122_5, u7122_6, u7122_7, u7122_8, u7122_10, u7122_11, u7122_14, u7122_17, u7122_18, u7122_21, u7122_22, u7122_23, u7122_26, u7122_29, u7122_30, u7122_31, u7122_32, u7122_35, u7122_36, u7122_39, u7122_40, u7122_41, u7122_42, u7122_45, u7122_48, u7122_49, pt_70_8, gt_70_0, xl_71, ki_0, ki_1, ki_1500, ki_1762, af_x hd_7122, decide_eq_true_eq, if_true, if_false, f2_ne, f2_eq, up_ne, up_eq, kc_int, kc_ref, kc_retAddr, kc_long, kc_double, af_n, af_v, z0, z1, n_of, nz6, nz4, bI_T, bI_F, bI_01, n_lt, n_le, n_eq, n_add, n_mul, n_sub, n_clamp, n_vp, m_lt, m_le, m_eq, m_eq2, m_ltm, m_add, true_and, and_true, eq_self, if_pos, if_neg, List.length_nil, List.length_cons, Nat.reduceAdd, Nat.reduceLeDiff, Nat.zero_le, not_true_eq_false, not_false_eq_true, true_or, or_true]
  exact l_mmerges (d := d + 7) c.R w.w w.w.n60 G.S.n 0 (by omega)
theorem l_mful (R : mR (A 71) S) (h : wS S) : ∀ (k i : Nat), i + k = 24 → am_g d X am_m7099 9 [.ref 70, .int (nI (cnt (fiN S) i)), .int (nI i)] [] (am_Z cl sl F A L) P = P (.inl (some (.double (fulD (cnt (fiN S) 24))))) (am_Z cl sl F A L) := by
  have hf : vf_n64 (FP.ddiv (FP.i2d (nI (cnt (fiN S) 24))) (UInt64.ofNat 4627448617123184640)) = True := eq_true (ful_n _ (by have := cnt_le (fiN S) 24; omega))
  intro k
  induction k with
  | zero =>
    intro i hi
    obtain rfl : i = 24 := by omega
    rw [u7099_9]
    simp (disch := omega) only [hf, u7099_0, u7099_1, u7099_2, u7099_5, u7099_6, u7099_7, u7099_8, u7099_10, u7099_12, u7099_15, u7099_16, u7099_17, u7099_20, u7099_23, u7099_24, u7099_25, u7099_26, u7099_29, u7099_30, u7099_33, u7099_34, u7099_35, u7099_36, u7099_39, u7099_42, u7099_43, u7099_44, u7099_47, u7099_48, pt_70_8, gt_70_0, xl_71, ki_0, ki_1, ki_1567, ki_24, af_x hd_7099, decide_eq_true_eq, if_true, if_false, f2_ne, f2_eq, up_ne, up_eq, kc_int, kc_ref, kc_retAddr, kc_long, kc_double, af_n, af_v, z0, z1, n_of, nz6, nz4, bI_T, bI_F, bI_01, n_lt, n_le, n_eq, n_add, n_mul, n_sub, n_clamp, n_vp, m_lt, m_le, m_eq, m_eq2, m_ltm, m_add, true_and, and_true, eq_self, if_pos, if_neg, List.length_nil, List.length_cons, Nat.reduceAdd, Nat.reduceLeDiff, Nat.zero_le, not_true_eq_false, not_false_eq_true, true_or, or_true]
    rfl
  | succ k ih =>
    intro i hi
    have hw := h.Wv i (by omega)
    have h2 := ih (i + 1) (by omega)
    rw [u7099_9]
    by_cases e : S.W i = 0
    · rw [cnt_f (p := fiN S) (by simp [fiN, e])] at h2
      simp (disch := omega) only [R.W i, e, Nat.add_zero, u7099_0, u7099_1, u7099_2, u7099_5, u7099_6, u7099_7, u7099_8, u7099_10, u7099_12, u7099_15, u7099_16, u7099_17, u7099_20, u7099_23, u7099_24, u7099_25, u7099_26, u7099_29, u7099_30, u7099_33, u7099_34, u7099_35, u7099_36, u7099_39, u7099_42, u7099_43, u7099_44, u7099_47, u7099_48, pt_70_8, gt_70_0, xl_71, ki_0, ki_1, ki_1567, ki_24, af_x hd_7099, decide_eq_true_eq, if_true, if_false, f2_ne, f2_eq, up_ne, up_eq, kc_int, kc_ref, kc_retAddr, kc_long, kc_double, af_n, af_v, z0, z1, n_of, nz6, nz4, bI_T, bI_F, bI_01, n_lt, n_le, n_eq, n_add, n_mul, n_sub, n_clamp, n_vp, m_lt, m_le, m_eq, m_eq2, m_ltm, m_add, true_and, and_true, eq_self, if_pos, if_neg, List.length_nil, List.length_cons, Nat.reduceAdd, Nat.reduceLeDiff, Nat.zero_le, not_true_eq_false, not_false_eq_true, true_or, or_true]
      exact h2
    · rw [cnt_t (p := fiN S) (by simp [fiN, e])] at h2
      simp (disch := omega) only [R.W i, u7099_0, u7099_1, u7099_2, u7099_5, u7099_6, u7099_7, u7099_8, u7099_10, u7099_12, u7099_15, u7099_16, u7099_17, u7099_20, u7099_23, u7099_24, u7099_25, u7099_26, u7099_29, u7099_30, u7099_33, u7099_34, u7099_35, u7099_36, u7099_39, u7099_42, u7099_43, u7099_44, u7099_47, u7099_48, pt_70_8, gt_70_0, xl_71, ki_0, ki_1, ki_1567, ki_24, af_x hd_7099, decide_eq_true_eq, if_true, if_false, f2_ne, f2_eq, up_ne, up_eq, kc_int, kc_ref, kc_retAddr, kc_long, kc_double, af_n, af_v, z0, z1, n_of, nz6, nz4, bI_T, bI_F, bI_01, n_lt, n_le, n_eq, n_add, n_mul, n_sub, n_clamp, n_vp, m_lt, m_le, m_eq, m_eq2, m_ltm, m_add, true_and, and_true, eq_self, if_pos, if_neg, List.length_nil, List.length_cons, Nat.reduceAdd, Nat.reduceLeDiff, Nat.zero_le, not_true_eq_false, not_false_eq_true, true_or, or_true]
      exact h2
theorem w_fullness (c : mG F A G) (w : wG G) : am_Ca X (d + 8) 7099 [.ref 70] (am_Z cl sl F A L) P = P (.inl (some (.double (fulD (cnt (fiN G.S) 24))))) (am_Z cl sl (am_f2 F 70 8 (nI 0)) A L) := by
  rw [c7099]
  simp (disch := omega) only [u7099_0, u7099_1, u7099_2, u7099_5, u7099_6, u7099_7, u7099_8, u7099_10, u7099_12, u7099_15, u7099_16, u7099_17, u7099_20, u7099_23, u7099_24, u7099_25, u7099_26, u7099_29, u7099_30, u7099_33, u7099_34, u7099_35, u7099_36, u7099_39, u7099_42, u7099_43, u7099_44, u7099_47, u7099_48, pt_70_8, gt_70_0, xl_71, ki_0, ki_1, ki_1567, ki_24, af_x hd_7099, decide_eq_true_eq, if_true, if_false, f2_ne, f2_eq, up_ne, up_eq, kc_int, kc_ref, kc_retAddr, kc_long, kc_double, af_n, af_v, z0, z1, n_of, nz6, nz4, bI_T, bI_F, bI_01, n_lt, n_le, n_eq, n_add, n_mul, n_sub, n_clamp, n_vp, m_lt, m_le, m_eq, m_eq2, m_ltm, m_add, true_and, and_true, eq_self, if_pos, if_neg, List.length_nil, List.length_cons, Nat.reduceAdd, Nat.reduceLeDiff, Nat.zero_le, not_true_eq_false, not_false_eq_true, true_or, or_true]
  exact l_mful (d := d + 7) c.R w.w 24 0 rfl
/-! lost commits -/
theorem Ub_n (h : wS S) {b x : Nat} (hb : b ≤ 6) (hx : Ub S.p S.q S.br b x) : x < S.n := by
  obtain ⟨y, h1, h2, h3⟩ := hx
  have h4 := h.brn y (by omega)
  have := Re_le h.par _ (show S.br y - 1 < S.n by omega) x h3
  omega
theorem l_lost (R : mR (A 71) S) (h : wS S) (hm : mk76 L S S.n) : ∀ (k b : Nat) (x : Int64), b + k = 6 → lS x (Ub S.p S.q S.br b) → am_g (d + 2) X am_m7109 13 [.ref 70, .long x, am_u, .int (nI b)] [] (am_Z cl sl F A L) P = P (.inl (some (.int (nI (cnt (dP (fun x => ¬ Ub S.p S.q S.br 6 x)) S.n))))) (am_Z cl sl F A L) := by
  have h60 := h.n60
  intro k
  induction k with
  | zero =>
    intro b x hb hx
    obtain rfl : b = 6 := by omega
    have e1 : cnt (dP (Ub S.p S.q S.br 6)) 60 = cnt (dP (Ub S.p S.q S.br 6)) S.n := cnt_60 h60 fun i hi => by
      refine dP_f fun z => ?_
      have := Ub_n h (Nat.le_refl 6) z
      omega
    have e2 : cnt (dP (fun x => ¬ Ub S.p S.q S.br 6 x)) S.n = S.n - cnt (dP (Ub S.p S.q S.br 6)) S.n := by
      have e3 := cnt_not (dP (Ub S.p S.q S.br 6)) S.n
      have e4 : cnt (dP (fun x => ¬ Ub S.p S.q S.br 6 x)) S.n = cnt (fun x => !dP (Ub S.p S.q S.br 6) x) S.n := cnt_congr fun i _ => by
        by_cases z : Ub S.p S.q S.br 6 i
        · rw [dP_t z, dP_f (fun y => y z)]; rfl
        · rw [dP_f z, dP_t (S := fun x => ¬ Ub S.p S.q S.br 6 x) z]; rfl
      omega
    have e5 := cnt_le (dP (Ub S.p S.q S.br 6)) S.n
    rw [u7109_13]
    simp (disch := omega) only [R.n0, m_size hx, e1, e2, u7109_0, u7109_1, u7109_2, u7109_5, u7109_6, u7109_9, u7109_10, u7109_11, u7109_12, u7109_14, u7109_16, u7109_19, u7109_20, u7109_21, u7109_22, u7109_25, u7109_28, u7109_29, u7109_32, u7109_33, u7109_34, u7109_37, u7109_38, u7109_41, u7109_42, u7109_43, u7109_44, u7109_47, u7109_50, u7109_51, u7109_54, u7109_57, u7109_58, u7109_59, u7109_62, u7109_63, pt_70_8, ob_70, gt_70_9, gt_70_0, xl_71, jl_76, ki_0, ki_1, ki_1762, ki_6, af_x hd_7109, decide_eq_true_eq, if_true, if_false, f2_ne, f2_eq, up_ne, up_eq, kc_int, kc_ref, kc_retAddr, kc_long, kc_double, af_n, af_v, z0, z1, n_of, nz6, nz4, bI_T, bI_F, bI_01, n_lt, n_le, n_eq, n_add, n_mul, n_sub, n_clamp, n_vp, m_lt, m_le, m_eq, m_eq2, m_ltm, m_add, true_and, and_true, eq_self, if_pos, if_neg, List.length_nil, List.length_cons, Nat.reduceAdd, Nat.reduceLeDiff, Nat.zero_le, not_true_eq_false, not_false_eq_true, true_or, or_true]
  | succ k ih =>
    intro b x hb hx
    have hb6 : b < 6 := by omega
    have hn := h.brn b hb6
    rw [u7109_13]
    by_cases e : S.br b = 0
    · have g : lS (x ||| 0) (Ub S.p S.q S.br (b + 1)) := lS_cg (lS_or hx lS_0) fun c => by
        constructor
        · rintro (z | z)
          · obtain ⟨y, h1, h2, h3⟩ := z
            exact ⟨y, by omega, h2, h3⟩
          · exact z.elim
        · rintro ⟨y, h1, h2, h3⟩
          by_cases ey : y = b
          · subst ey; exact absurd e h2
          · exact Or.inl ⟨y, by omega, h2, h3⟩
      simp (disch := omega) only [m_stand R hb6, e, pk_0, u7109_0, u7109_1, u7109_2, u7109_5, u7109_6, u7109_9, u7109_10, u7109_11, u7109_12, u7109_14, u7109_16, u7109_19, u7109_20, u7109_21, u7109_22, u7109_25, u7109_28, u7109_29, u7109_32, u7109_33, u7109_34, u7109_37, u7109_38, u7109_41, u7109_42, u7109_43, u7109_44, u7109_47, u7109_50, u7109_51, u7109_54, u7109_57, u7109_58, u7109_59, u7109_62, u7109_63, pt_70_8, ob_70, gt_70_9, gt_70_0, xl_71, jl_76, ki_0, ki_1, ki_1762, ki_6, af_x hd_7109, decide_eq_true_eq, if_true, if_false, f2_ne, f2_eq, up_ne, up_eq, kc_int, kc_ref, kc_retAddr, kc_long, kc_double, af_n, af_v, z0, z1, n_of, nz6, nz4, bI_T, bI_F, bI_01, n_lt, n_le, n_eq, n_add, n_mul, n_sub, n_clamp, n_vp, m_lt, m_le, m_eq, m_eq2, m_ltm, m_add, true_and, and_true, eq_self, if_pos, if_neg, List.length_nil, List.length_cons, Nat.reduceAdd, Nat.reduceLeDiff, Nat.zero_le, not_true_eq_false, not_false_eq_true, true_or, or_true]
      exact ih (b + 1) _ (by omega) g
    · have g : lS (x ||| L 76 (S.br b - 1)) (Ub S.p S.q S.br (b + 1)) := lS_cg (lS_or hx (hm (S.br b - 1) (by omega))) fun c => by
        constructor
        · rintro (z | z)
          · obtain ⟨y, h1, h2, h3⟩ := z
            exact ⟨y, by omega, h2, h3⟩
          · exact ⟨b, by omega, e, z⟩
        · rintro ⟨y, h1, h2, h3⟩
          by_cases ey : y = b
          · subst ey; exact Or.inr h3
          · exact Or.inl ⟨y, by omega, h2, h3⟩
      simp (disch := omega) only [m_stand R hb6, pk_p _ e, u7109_0, u7109_1, u7109_2, u7109_5, u7109_6, u7109_9, u7109_10, u7109_11, u7109_12, u7109_14, u7109_16, u7109_19, u7109_20, u7109_21, u7109_22, u7109_25, u7109_28, u7109_29, u7109_32, u7109_33, u7109_34, u7109_37, u7109_38, u7109_41, u7109_42, u7109_43, u7109_44, u7109_47, u7109_50, u7109_51, u7109_54, u7109_57, u7109_58, u7109_59, u7109_62, u7109_63, pt_70_8, ob_70, gt_70_9, gt_70_0, xl_71, jl_76, ki_0, ki_1, ki_1762, ki_6, af_x hd_7109, decide_eq_true_eq, if_true, if_false, f2_ne, f2_eq, up_ne, up_eq, kc_int, kc_ref, kc_retAddr, kc_long, kc_double, af_n, af_v, z0, z1, n_of, nz6, nz4, bI_T, bI_F, bI_01, n_lt, n_le, n_eq, n_add, n_mul, n_sub, n_clamp, n_vp, m_lt, m_le, m_eq, m_eq2, m_ltm, m_add, true_and, and_true, eq_self, if_pos, if_neg, List.length_nil, List.length_cons, Nat.reduceAdd, Nat.reduceLeDiff, Nat.zero_le, not_true_eq_false, not_false_eq_true, true_or, or_true]
      exact ih (b + 1) _ (by omega) g
theorem w_lost (c : mG F A G) (w : wG G) : wO X (d + 8) 7109 [.ref 70] cl sl F A L 0 (nI (cnt (dP (fun x => ¬ Ub G.S.p G.S.q G.S.br 6 x)) G.S.n)) G := by
  obtain ⟨L1, e1, m1', f1⟩ := m_marks (d := d + 6) (X := X) (cl := cl) (sl := sl) (F := am_f2 F 70 8 (nI 0)) (L := L) c.R w.w
  refine wO_q c f1 fun P => ?_
  rw [c7109]
  simp (disch := omega) only [e1, u7109_0, u7109_1, u7109_2, u7109_5, u7109_6, u7109_9, u7109_10, u7109_11, u7109_12, u7109_14, u7109_16, u7109_19, u7109_20, u7109_21, u7109_22, u7109_25, u7109_28, u7109_29, u7109_32, u7109_33, u7109_34, u7109_37, u7109_38, u7109_41, u7109_42, u7109_43, u7109_44, u7109_47, u7109_50, u7109_51, u7109_54, u7109_57, u7109_58, u7109_59, u7109_62, u7109_63, pt_70_8, ob_70, gt_70_9, gt_70_0, xl_71, jl_76, ki_0, ki_1, ki_1762, ki_6, af_x hd_7109, decide_eq_true_eq, if_true, if_false, f2_ne, f2_eq, up_ne, up_eq, kc_int, kc_ref, kc_retAddr, kc_long, kc_double, af_n, af_v, z0, z1, n_of, nz6, nz4, bI_T, bI_F, bI_01, n_lt, n_le, n_eq, n_add, n_mul, n_sub, n_clamp, n_vp, m_lt, m_le, m_eq, m_eq2, m_ltm, m_add, true_and, and_true, eq_self, if_pos, if_neg, List.length_nil, List.length_cons, Nat.reduceAdd, Nat.reduceLeDiff, Nat.zero_le, not_true_eq_false, not_false_eq_true, true_or, or_true]
  exact l_lost (d := d + 5) c.R w.w m1' 6 0 0 rfl (lS_cg lS_0 fun x => ⟨fun z => z.elim, fun ⟨y, h1, _⟩ => absurd h1 (by omega)⟩)
/-! histories -/
theorem l_mhistoryAt {k0 pl : Nat} (hk : k0 < 60) (hp : pl < 2147483648) {Z : Nat → Prop} (hx : lS (L 76 k0) Z) : ∀ (k a : Nat), k ≤ 60 → a ≤ pl → am_g (d + 1) X am_m7112 35 [.ref 70, .int (nI k0), .int (nI pl), .int (nI (pl - a)), .int (pk k)] [] (am_Z cl sl F A L) P = P (.inl (some (.int (rat Z pl k a)))) (am_Z cl sl F A L) := by
  intro k
  induction k with
  | zero =>
    intro a _ ha
    rw [u7112_35]
    simp (disch := omega) only [pk_0, u7112_0, u7112_1, u7112_2, u7112_3, u7112_6, u7112_9, u7112_10, u7112_13, u7112_14, u7112_17, u7112_18, u7112_21, u7112_24, u7112_25, u7112_26, u7112_27, u7112_30, u7112_31, u7112_32, u7112_33, u7112_37, u7112_40, u7112_41, u7112_44, u7112_45, u7112_46, u7112_48, u7112_51, u7112_54, u7112_55, u7112_58, u7112_60, u7112_61, u7112_64, u7112_67, u7112_70, u7112_71, ob_70, gt_70_9, jl_76, ki_m1, ki_0, ki_1, af_x hd_7112, decide_eq_true_eq, if_true, if_false, f2_ne, f2_eq, up_ne, up_eq, kc_int, kc_ref, kc_retAddr, kc_long, kc_double, af_n, af_v, z0, z1, n_of, nz6, nz4, bI_T, bI_F, bI_01, n_lt, n_le, n_eq, n_add, n_mul, n_sub, n_clamp, n_vp, m_lt, m_le, m_eq, m_eq2, m_ltm, m_add, true_and, and_true, eq_self, if_pos, if_neg, List.length_nil, List.length_cons, Nat.reduceAdd, Nat.reduceLeDiff, Nat.zero_le, not_true_eq_false, not_false_eq_true, true_or, or_true]
    rfl
  | succ k ih =>
    intro a hk6 ha
    unfold rat
    rw [u7112_35]
    by_cases e : Z k
    · rw [if_pos e]
      by_cases e2 : a = pl
      · have e3 : pl - a = 0 := by omega
        rw [if_pos e2]
        simp (disch := omega) only [pk_s, m_has hx, bI_t e, e3, u7112_0, u7112_1, u7112_2, u7112_3, u7112_6, u7112_9, u7112_10, u7112_13, u7112_14, u7112_17, u7112_18, u7112_21, u7112_24, u7112_25, u7112_26, u7112_27, u7112_30, u7112_31, u7112_32, u7112_33, u7112_37, u7112_40, u7112_41, u7112_44, u7112_45, u7112_46, u7112_48, u7112_51, u7112_54, u7112_55, u7112_58, u7112_60, u7112_61, u7112_64, u7112_67, u7112_70, u7112_71, ob_70, gt_70_9, jl_76, ki_m1, ki_0, ki_1, af_x hd_7112, decide_eq_true_eq, if_true, if_false, f2_ne, f2_eq, up_ne, up_eq, kc_int, kc_ref, kc_retAddr, kc_long, kc_double, af_n, af_v, z0, z1, n_of, nz6, nz4, bI_T, bI_F, bI_01, n_lt, n_le, n_eq, n_add, n_mul, n_sub, n_clamp, n_vp, m_lt, m_le, m_eq, m_eq2, m_ltm, m_add, true_and, and_true, eq_self, if_pos, if_neg, List.length_nil, List.length_cons, Nat.reduceAdd, Nat.reduceLeDiff, Nat.zero_le, not_true_eq_false, not_false_eq_true, true_or, or_true]
      · rw [if_neg e2]
        simp (disch := omega) only [pk_s, m_has hx, bI_t e, pk_dn, u7112_0, u7112_1, u7112_2, u7112_3, u7112_6, u7112_9, u7112_10, u7112_13, u7112_14, u7112_17, u7112_18, u7112_21, u7112_24, u7112_25, u7112_26, u7112_27, u7112_30, u7112_31, u7112_32, u7112_33, u7112_37, u7112_40, u7112_41, u7112_44, u7112_45, u7112_46, u7112_48, u7112_51, u7112_54, u7112_55, u7112_58, u7112_60, u7112_61, u7112_64, u7112_67, u7112_70, u7112_71, ob_70, gt_70_9, jl_76, ki_m1, ki_0, ki_1, af_x hd_7112, decide_eq_true_eq, if_true, if_false, f2_ne, f2_eq, up_ne, up_eq, kc_int, kc_ref, kc_retAddr, kc_long, kc_double, af_n, af_v, z0, z1, n_of, nz6, nz4, bI_T, bI_F, bI_01, n_lt, n_le, n_eq, n_add, n_mul, n_sub, n_clamp, n_vp, m_lt, m_le, m_eq, m_eq2, m_ltm, m_add, true_and, and_true, eq_self, if_pos, if_neg, List.length_nil, List.length_cons, Nat.reduceAdd, Nat.reduceLeDiff, Nat.zero_le, not_true_eq_false, not_false_eq_true, true_or, or_true]
        rw [pk_p _ (show ¬ pl - a = 0 by omega), show pl - a - 1 = pl - (a + 1) by omega]
        exact ih (a + 1) (by omega) (by omega)
    · rw [if_neg e]
      simp (disch := omega) only [pk_s, m_has hx, bI_f e, pk_dn, u7112_0, u7112_1, u7112_2, u7112_3, u7112_6, u7112_9, u7112_10, u7112_13, u7112_14, u7112_17, u7112_18, u7112_21, u7112_24, u7112_25, u7112_26, u7112_27, u7112_30, u7112_31, u7112_32, u7112_33, u7112_37, u7112_40, u7112_41, u7112_44, u7112_45, u7112_46, u7112_48, u7112_51, u7112_54, u7112_55, u7112_58, u7112_60, u7112_61, u7112_64, u7112_67, u7112_70, u7112_71, ob_70, gt_70_9, jl_76, ki_m1, ki_0, ki_1, af_x hd_7112, decide_eq_true_eq, if_true, if_false, f2_ne, f2_eq, up_ne, up_eq, kc_int, kc_ref, kc_retAddr, kc_long, kc_double, af_n, af_v, z0, z1, n_of, nz6, nz4, bI_T, bI_F, bI_01, n_lt, n_le, n_eq, n_add, n_mul, n_sub, n_clamp, n_vp, m_lt, m_le, m_eq, m_eq2, m_ltm, m_add, true_and, and_true, eq_self, if_pos, if_neg, List.length_nil, List.length_cons, Nat.reduceAdd, Nat.reduceLeDiff, Nat.zero_le, not_true_eq_false, not_false_eq_true, true_or, or_true]
      exact ih a (by omega) ha
theorem w_historyAt {k pl : Nat} (hk : k < G.S.n) (hp : pl < 2147483648) (c : mG F A G) (w : wG G) : wO X (d + 8) 7112 [.ref 70, .int (nI k), .int (nI pl)] cl sl F A L 0 (rat (Re G.S.p G.S.q k) pl 60 0) G := by
  have h60 := w.w.n60
  obtain ⟨L1, e1, m1', f1⟩ := m_marks (d := d + 6) (X := X) (cl := cl) (sl := sl) (F := am_f2 F 70 8 (nI 0)) (L := L) c.R w.w
  refine wO_q c f1 fun P => ?_
  have hl := l_mhistoryAt (d := d + 6) (X := X) (cl := cl) (sl := sl) (F := am_f2 F 70 8 (nI 0)) (A := A) (P := P) (k0 := k) (pl := pl) (by omega) hp (m1' k hk) (k + 1) 0 (by omega) (Nat.zero_le _)
  rw [pk_s, Nat.sub_zero] at hl
  rw [rat_60 (m := k + 1) (by omega) (fun i hi z => by have := Re_le w.w.par k hk i z; omega), c7112]
  simp (disch := omega) only [m_isCommit_t c.R w.w hk, m_asks1, e1, u7112_0, u7112_1, u7112_2, u7112_3, u7112_6, u7112_9, u7112_10, u7112_13, u7112_14, u7112_17, u7112_18, u7112_21, u7112_24, u7112_25, u7112_26, u7112_27, u7112_30, u7112_31, u7112_32, u7112_33, u7112_37, u7112_40, u7112_41, u7112_44, u7112_45, u7112_46, u7112_48, u7112_51, u7112_54, u7112_55, u7112_58, u7112_60, u7112_61, u7112_64, u7112_67, u7112_70, u7112_71, ob_70, gt_70_9, jl_76, ki_m1, ki_0, ki_1, af_x hd_7112, decide_eq_true_eq, if_true, if_false, f2_ne, f2_eq, up_ne, up_eq, kc_int, kc_ref, kc_retAddr, kc_long, kc_double, af_n, af_v, z0, z1, n_of, nz6, nz4, bI_T, bI_F, bI_01, n_lt, n_le, n_eq, n_add, n_mul, n_sub, n_clamp, n_vp, m_lt, m_le, m_eq, m_eq2, m_ltm, m_add, true_and, and_true, eq_self, if_pos, if_neg, List.length_nil, List.length_cons, Nat.reduceAdd, Nat.reduceLeDiff, Nat.zero_le, not_true_eq_false, not_false_eq_true, true_or, or_true]
  exact hl
theorem l_mfirstWith (R : mR (A 71) S) (h : wS S) {k0 a b : Nat} {v : Int32} (hk0 : k0 < S.n) (ha : a < 4) (hb : b < 6) {Z : Nat → Prop} (hx : lS (L 76 k0) Z) : ∀ (k j : Nat) (v7 : Value), k + j = k0 + 1 → am_g (d + 2) X am_m7098 40 [.ref 70, .int (nI k0), .int (nI a), .int (nI b), .int v, .int (loN (lwN S Z (a * 6 + b) v) j k), .int (pk k), v7] [] (am_Z cl sl F A L) P = P (.inl (some (.int (loN (lwN S Z (a * 6 + b) v) (k0 + 1) 0)))) (am_Z cl sl F A L) := by
  have h60 := h.n60
  intro k
  induction k with
  | zero =>
    intro j v7 hj
    obtain rfl : j = k0 + 1 := by omega
    rw [u7098_40]
    simp (disch := omega) only [pk_0, u7098_0, u7098_1, u7098_2, u7098_3, u7098_6, u7098_9, u7098_10, u7098_11, u7098_14, u7098_17, u7098_18, u7098_21, u7098_22, u7098_25, u7098_28, u7098_29, u7098_30, u7098_31, u7098_34, u7098_35, u7098_37, u7098_38, u7098_42, u7098_45, u7098_46, u7098_49, u7098_50, u7098_51, u7098_53, u7098_56, u7098_59, u7098_60, u7098_63, u7098_65, u7098_68, u7098_70, u7098_71, u7098_72, u7098_73, u7098_74, u7098_75, u7098_76, u7098_78, u7098_81, u7098_82, u7098_85, u7098_86, u7098_88, u7098_90, u7098_93, u7098_95, u7098_98, u7098_100, u7098_102, u7098_105, u7098_108, u7098_110, ob_70, gt_70_9, gt_70_0, xl_71, jl_76, ki_m1, ki_0, ki_1, ki_6, af_x hd_7098, decide_eq_true_eq, if_true, if_false, f2_ne, f2_eq, up_ne, up_eq, kc_int, kc_ref, kc_retAddr, kc_long, kc_double, af_n, af_v, z0, z1, n_of, nz6, nz4, bI_T, bI_F, bI_01, n_lt, n_le, n_eq, n_add, n_mul, n_sub, n_clamp, n_vp, m_lt, m_le, m_eq, m_eq2, m_ltm, m_add, true_and, and_true, eq_self, if_pos, if_neg, List.length_nil, List.length_cons, Nat.reduceAdd, Nat.reduceLeDiff, Nat.zero_le, not_true_eq_false, not_false_eq_true, true_or, or_true]
  | succ k ih =>
    intro j v7 hj
    have h9 := fun v7 => ih (j + 1) v7 (by omega)
    have hi : a * 6 + b < 24 := by omega
    have ec : 24 * k + 6 * a + b = 24 * k + (a * 6 + b) := by omega
    have RT := R.T k (by omega) _ hi
    rw [u7098_40]
    by_cases e : Z k
    · by_cases e2 : nI (S.T k (a * 6 + b)) = v
      · have el : loN (lwN S Z (a * 6 + b) v) (j + 1) k = nI k := if_pos (by unfold lwN; simp only [decide_eq_true_eq]; exact ⟨e, e2⟩)
        rw [el] at h9
        simp (disch := omega) only [pk_s, m_has hx, bI_t e, m_tree, ec, RT, e2, pk_dn, u7098_0, u7098_1, u7098_2, u7098_3, u7098_6, u7098_9, u7098_10, u7098_11, u7098_14, u7098_17, u7098_18, u7098_21, u7098_22, u7098_25, u7098_28, u7098_29, u7098_30, u7098_31, u7098_34, u7098_35, u7098_37, u7098_38, u7098_42, u7098_45, u7098_46, u7098_49, u7098_50, u7098_51, u7098_53, u7098_56, u7098_59, u7098_60, u7098_63, u7098_65, u7098_68, u7098_70, u7098_71, u7098_72, u7098_73, u7098_74, u7098_75, u7098_76, u7098_78, u7098_81, u7098_82, u7098_85, u7098_86, u7098_88, u7098_90, u7098_93, u7098_95, u7098_98, u7098_100, u7098_102, u7098_105, u7098_108, u7098_110, ob_70, gt_70_9, gt_70_0, xl_71, jl_76, ki_m1, ki_0, ki_1, ki_6, af_x hd_7098, decide_eq_true_eq, if_true, if_false, f2_ne, f2_eq, up_ne, up_eq, kc_int, kc_ref, kc_retAddr, kc_long, kc_double, af_n, af_v, z0, z1, n_of, nz6, nz4, bI_T, bI_F, bI_01, n_lt, n_le, n_eq, n_add, n_mul, n_sub, n_clamp, n_vp, m_lt, m_le, m_eq, m_eq2, m_ltm, m_add, true_and, and_true, eq_self, if_pos, if_neg, List.length_nil, List.length_cons, Nat.reduceAdd, Nat.reduceLeDiff, Nat.zero_le, not_true_eq_false, not_false_eq_true, true_or, or_true]
        exact h9 _
      · have el : loN (lwN S Z (a * 6 + b) v) (j + 1) k = loN (lwN S Z (a * 6 + b) v) j (k + 1) := if_neg (by unfold lwN; simp only [decide_eq_true_eq]; exact fun z => e2 z.2)
        rw [el] at h9
        simp (disch := omega) only [pk_s, m_has hx, bI_t e, m_tree, ec, RT, e2, pk_dn, u7098_0, u7098_1, u7098_2, u7098_3, u7098_6, u7098_9, u7098_10, u7098_11, u7098_14, u7098_17, u7098_18, u7098_21, u7098_22, u7098_25, u7098_28, u7098_29, u7098_30, u7098_31, u7098_34, u7098_35, u7098_37, u7098_38, u7098_42, u7098_45, u7098_46, u7098_49, u7098_50, u7098_51, u7098_53, u7098_56, u7098_59, u7098_60, u7098_63, u7098_65, u7098_68, u7098_70, u7098_71, u7098_72, u7098_73, u7098_74, u7098_75, u7098_76, u7098_78, u7098_81, u7098_82, u7098_85, u7098_86, u7098_88, u7098_90, u7098_93, u7098_95, u7098_98, u7098_100, u7098_102, u7098_105, u7098_108, u7098_110, ob_70, gt_70_9, gt_70_0, xl_71, jl_76, ki_m1, ki_0, ki_1, ki_6, af_x hd_7098, decide_eq_true_eq, if_true, if_false, f2_ne, f2_eq, up_ne, up_eq, kc_int, kc_ref, kc_retAddr, kc_long, kc_double, af_n, af_v, z0, z1, n_of, nz6, nz4, bI_T, bI_F, bI_01, n_lt, n_le, n_eq, n_add, n_mul, n_sub, n_clamp, n_vp, m_lt, m_le, m_eq, m_eq2, m_ltm, m_add, true_and, and_true, eq_self, if_pos, if_neg, List.length_nil, List.length_cons, Nat.reduceAdd, Nat.reduceLeDiff, Nat.zero_le, not_true_eq_false, not_false_eq_true, true_or, or_true]
        exact h9 _
    · have el : loN (lwN S Z (a * 6 + b) v) (j + 1) k = loN (lwN S Z (a * 6 + b) v) j (k + 1) := if_neg (by unfold lwN; simp only [decide_eq_true_eq]; exact fun z => e z.1)
      rw [el] at h9
      simp (disch := omega) only [pk_s, m_has hx, bI_f e, pk_dn, u7098_0, u7098_1, u7098_2, u7098_3, u7098_6, u7098_9, u7098_10, u7098_11, u7098_14, u7098_17, u7098_18, u7098_21, u7098_22, u7098_25, u7098_28, u7098_29, u7098_30, u7098_31, u7098_34, u7098_35, u7098_37, u7098_38, u7098_42, u7098_45, u7098_46, u7098_49, u7098_50, u7098_51, u7098_53, u7098_56, u7098_59, u7098_60, u7098_63, u7098_65, u7098_68, u7098_70, u7098_71, u7098_72, u7098_73, u7098_74, u7098_75, u7098_76, u7098_78, u7098_81, u7098_82, u7098_85, u7098_86, u7098_88, u7098_90, u7098_93, u7098_95, u7098_98, u7098_100, u7098_102, u7098_105, u7098_108, u7098_110, ob_70, gt_70_9, gt_70_0, xl_71, jl_76, ki_m1, ki_0, ki_1, ki_6, af_x hd_7098, decide_eq_true_eq, if_true, if_false, f2_ne, f2_eq, up_ne, up_eq, kc_int, kc_ref, kc_retAddr, kc_long, kc_double, af_n, af_v, z0, z1, n_of, nz6, nz4, bI_T, bI_F, bI_01, n_lt, n_le, n_eq, n_add, n_mul, n_sub, n_clamp, n_vp, m_lt, m_le, m_eq, m_eq2, m_ltm, m_add, true_and, and_true, eq_self, if_pos, if_neg, List.length_nil, List.length_cons, Nat.reduceAdd, Nat.reduceLeDiff, Nat.zero_le, not_true_eq_false, not_false_eq_true, true_or, or_true]
      exact h9 _
theorem w_firstWith {k a b : Nat} {v : Int32} (hk : k < G.S.n) (ha : a < 4) (hb : b < 6) (c : mG F A G) (w : wG G) : wO X (d + 8) 7098 [.ref 70, .int (nI k), .int (nI a), .int (nI b), .int v] cl sl F A L 0 (loN (lwN G.S (Re G.S.p G.S.q k) (a * 6 + b) v) 60 0) G := by
  have h60 := w.w.n60
  obtain ⟨L1, e1, m1', f1⟩ := m_marks (d := d + 6) (X := X) (cl := cl) (sl := sl) (F := am_f2 F 70 8 (nI 0)) (L := L) c.R w.w
  refine wO_q c f1 fun P => ?_
  have hl := fun v7 => l_mfirstWith (d := d + 5) (X := X) (cl := cl) (sl := sl) (F := am_f2 F 70 8 (nI 0)) (P := P) c.R w.w (v := v) hk ha hb (m1' k hk) (k + 1) 0 v7 (by omega)
  rw [pk_s, show loN (lwN G.S (Re G.S.p G.S.q k) (a * 6 + b) v) 0 (k + 1) = m1 from rfl] at hl
  rw [loN_60 (m := k + 1) (by omega) (fun i hi => by
    unfold lwN
    simp only [decide_eq_false_iff_not]
    intro z
    have := Re_le w.w.par k hk i z.1
    omega), c7098]
  simp (disch := omega) only [m_isCommit_t c.R w.w hk, m_isLine, m_asks1, e1, u7098_0, u7098_1, u7098_2, u7098_3, u7098_6, u7098_9, u7098_10, u7098_11, u7098_14, u7098_17, u7098_18, u7098_21, u7098_22, u7098_25, u7098_28, u7098_29, u7098_30, u7098_31, u7098_34, u7098_35, u7098_37, u7098_38, u7098_42, u7098_45, u7098_46, u7098_49, u7098_50, u7098_51, u7098_53, u7098_56, u7098_59, u7098_60, u7098_63, u7098_65, u7098_68, u7098_70, u7098_71, u7098_72, u7098_73, u7098_74, u7098_75, u7098_76, u7098_78, u7098_81, u7098_82, u7098_85, u7098_86, u7098_88, u7098_90, u7098_93, u7098_95, u7098_98, u7098_100, u7098_102, u7098_105, u7098_108, u7098_110, ob_70, gt_70_9, gt_70_0, xl_71, jl_76, ki_m1, ki_0, ki_1, ki_6, af_x hd_7098, decide_eq_true_eq, if_true, if_false, f2_ne, f2_eq, up_ne, up_eq, kc_int, kc_ref, kc_retAddr, kc_long, kc_double, af_n, af_v, z0, z1, n_of, nz6, nz4, bI_T, bI_F, bI_01, n_lt, n_le, n_eq, n_add, n_mul, n_sub, n_clamp, n_vp, m_lt, m_le, m_eq, m_eq2, m_ltm, m_add, true_and, and_true, eq_self, if_pos, if_neg, List.length_nil, List.length_cons, Nat.reduceAdd, Nat.reduceLeDiff, Nat.zero_le, not_true_eq_false, not_false_eq_true, true_or, or_true]
  exact hl _
/-! who brought a line -/
theorem l_mbrought (R : mR (A 71) S) (h : wS S) {k0 a b i v : Nat} (hi : i < 24) : ∀ (f c : Nat) (v8 v9 v10 v11 : Value), c < f → c < S.n → S.T c i = v → am_g (d + 1) X am_m7097 58 [.ref 70, .int (nI k0), .int (nI a), .int (nI b), .int (nI i), .int (nI v), .int (nI c), .int (nI 1), v8, v9, v10, v11] [] (am_Z cl sl F A L) P = P (.inl (some (.int (nI (brgN S i f c))))) (am_Z cl sl F A L) := by
  have h60 := h.n60
  intro f
  induction f with
  | zero => intro c _ _ _ _ hf; omega
  | succ f ih =>
    intro c v8 v9 v10 v11 hf hc hv
    have RP := R.p c hc
    have RQ := R.q c hc
    obtain ⟨hp, hq⟩ := h.par c hc
    have tc := h.Tv c hc i hi
    unfold brgN
    rw [u7097_58]
    by_cases p0 : S.p c = 0
    · by_cases q0 : S.q c = 0
      · have ep : pwN S i c = 0 := by unfold pwN; rw [if_neg (fun z => z.1 p0), if_neg (fun z => z.1 q0)]
        rw [if_pos ep]
        simp (disch := omega) only [RP, RQ, p0, q0, pk_sub1, pk_0, u7097_0, u7097_1, u7097_2, u7097_3, u7097_6, u7097_9, u7097_10, u7097_11, u7097_14, u7097_17, u7097_18, u7097_21, u7097_22, u7097_25, u7097_28, u7097_29, u7097_30, u7097_32, u7097_33, u7097_34, u7097_35, u7097_36, u7097_38, u7097_39, u7097_42, u7097_43, u7097_46, u7097_48, u7097_49, u7097_50, u7097_52, u7097_53, u7097_55, u7097_56, u7097_60, u7097_63, u7097_64, u7097_67, u7097_70, u7097_72, u7097_73, u7097_74, u7097_75, u7097_76, u7097_78, u7097_79, u7097_82, u7097_85, u7097_87, u7097_88, u7097_89, u7097_90, u7097_91, u7097_93, u7097_95, u7097_98, u7097_99, u7097_102, u7097_104, u7097_107, u7097_109, u7097_110, u7097_111, u7097_113, u7097_116, u7097_117, u7097_120, u7097_121, u7097_123, u7097_125, u7097_128, u7097_129, u7097_132, u7097_134, u7097_137, u7097_139, u7097_140, u7097_141, u7097_143, u7097_146, u7097_147, u7097_150, u7097_151, u7097_153, u7097_155, u7097_158, u7097_160, u7097_163, u7097_165, u7097_168, u7097_170, u7097_173, u7097_175, u7097_177, u7097_179, u7097_182, u7097_184, u7097_187, u7097_188, u7097_191, u7097_192, u7097_194, u7097_197, u7097_199, ob_70, gt_70_0, xl_71, ki_0, ki_1, ki_1440, ki_1500, ki_6, af_x hd_7097, decide_eq_true_eq, if_true, if_false, f2_ne, f2_eq, up_ne, up_eq, kc_int, kc_ref, kc_retAddr, kc_long, kc_double, af_n, af_v, z0, z1, n_of, nz6, nz4, bI_T, bI_F, bI_01, n_lt, n_le, n_eq, n_add, n_mul, n_sub, n_clamp, n_vp, m_lt, m_le, m_eq, m_eq2, m_ltm, m_add, true_and, and_true, eq_self, if_pos, if_neg, List.length_nil, List.length_cons, Nat.reduceAdd, Nat.reduceLeDiff, Nat.zero_le, not_true_eq_false, not_false_eq_true, true_or, or_true]
        rw [u7097_58]
        simp (disch := omega) only [u7097_0, u7097_1, u7097_2, u7097_3, u7097_6, u7097_9, u7097_10, u7097_11, u7097_14, u7097_17, u7097_18, u7097_21, u7097_22, u7097_25, u7097_28, u7097_29, u7097_30, u7097_32, u7097_33, u7097_34, u7097_35, u7097_36, u7097_38, u7097_39, u7097_42, u7097_43, u7097_46, u7097_48, u7097_49, u7097_50, u7097_52, u7097_53, u7097_55, u7097_56, u7097_60, u7097_63, u7097_64, u7097_67, u7097_70, u7097_72, u7097_73, u7097_74, u7097_75, u7097_76, u7097_78, u7097_79, u7097_82, u7097_85, u7097_87, u7097_88, u7097_89, u7097_90, u7097_91, u7097_93, u7097_95, u7097_98, u7097_99, u7097_102, u7097_104, u7097_107, u7097_109, u7097_110, u7097_111, u7097_113, u7097_116, u7097_117, u7097_120, u7097_121, u7097_123, u7097_125, u7097_128, u7097_129, u7097_132, u7097_134, u7097_137, u7097_139, u7097_140, u7097_141, u7097_143, u7097_146, u7097_147, u7097_150, u7097_151, u7097_153, u7097_155, u7097_158, u7097_160, u7097_163, u7097_165, u7097_168, u7097_170, u7097_173, u7097_175, u7097_177, u7097_179, u7097_182, u7097_184, u7097_187, u7097_188, u7097_191, u7097_192, u7097_194, u7097_197, u7097_199, ob_70, gt_70_0, xl_71, ki_0, ki_1, ki_1440, ki_1500, ki_6, af_x hd_7097, decide_eq_true_eq, if_true, if_false, f2_ne, f2_eq, up_ne, up_eq, kc_int, kc_ref, kc_retAddr, kc_long, kc_double, af_n, af_v, z0, z1, n_of, nz6, nz4, bI_T, bI_F, bI_01, n_lt, n_le, n_eq, n_add, n_mul, n_sub, n_clamp, n_vp, m_lt, m_le, m_eq, m_eq2, m_ltm, m_add, true_and, and_true, eq_self, if_pos, if_neg, List.length_nil, List.length_cons, Nat.reduceAdd, Nat.reduceLeDiff, Nat.zero_le, not_true_eq_false, not_false_eq_true, true_or, or_true]
      · have RT := R.T (S.q c - 1) (by omega) i hi
        have tq := h.Tv (S.q c - 1) (by omega) i hi
        by_cases e : S.T (S.q c - 1) i = v
        · have ep : pwN S i c = S.q c := by unfold pwN; rw [if_neg (fun z => z.1 p0), if_pos ⟨q0, by rw [e, hv]⟩]
          rw [ep, if_neg q0]
          simp (disch := omega) only [RP, RQ, p0, pk_sub1, pk_0, pk_p _ q0, m_tree, RT, e, u7097_0, u7097_1, u7097_2, u7097_3, u7097_6, u7097_9, u7097_10, u7097_11, u7097_14, u7097_17, u7097_18, u7097_21, u7097_22, u7097_25, u7097_28, u7097_29, u7097_30, u7097_32, u7097_33, u7097_34, u7097_35, u7097_36, u7097_38, u7097_39, u7097_42, u7097_43, u7097_46, u7097_48, u7097_49, u7097_50, u7097_52, u7097_53, u7097_55, u7097_56, u7097_60, u7097_63, u7097_64, u7097_67, u7097_70, u7097_72, u7097_73, u7097_74, u7097_75, u7097_76, u7097_78, u7097_79, u7097_82, u7097_85, u7097_87, u7097_88, u7097_89, u7097_90, u7097_91, u7097_93, u7097_95, u7097_98, u7097_99, u7097_102, u7097_104, u7097_107, u7097_109, u7097_110, u7097_111, u7097_113, u7097_116, u7097_117, u7097_120, u7097_121, u7097_123, u7097_125, u7097_128, u7097_129, u7097_132, u7097_134, u7097_137, u7097_139, u7097_140, u7097_141, u7097_143, u7097_146, u7097_147, u7097_150, u7097_151, u7097_153, u7097_155, u7097_158, u7097_160, u7097_163, u7097_165, u7097_168, u7097_170, u7097_173, u7097_175, u7097_177, u7097_179, u7097_182, u7097_184, u7097_187, u7097_188, u7097_191, u7097_192, u7097_194, u7097_197, u7097_199, ob_70, gt_70_0, xl_71, ki_0, ki_1, ki_1440, ki_1500, ki_6, af_x hd_7097, decide_eq_true_eq, if_true, if_false, f2_ne, f2_eq, up_ne, up_eq, kc_int, kc_ref, kc_retAddr, kc_long, kc_double, af_n, af_v, z0, z1, n_of, nz6, nz4, bI_T, bI_F, bI_01, n_lt, n_le, n_eq, n_add, n_mul, n_sub, n_clamp, n_vp, m_lt, m_le, m_eq, m_eq2, m_ltm, m_add, true_and, and_true, eq_self, if_pos, if_neg, List.length_nil, List.length_cons, Nat.reduceAdd, Nat.reduceLeDiff, Nat.zero_le, not_true_eq_false, not_false_eq_true, true_or, or_true]
          exact ih _ _ _ _ _ (by omega) (by omega) e
        · have ep : pwN S i c = 0 := by unfold pwN; rw [if_neg (fun z => z.1 p0), if_neg (fun z => e (z.2.trans hv))]
          rw [if_pos ep]
          simp (disch := omega) only [RP, RQ, p0, pk_sub1, pk_0, pk_p _ q0, m_tree, RT, e, u7097_0, u7097_1, u7097_2, u7097_3, u7097_6, u7097_9, u7097_10, u7097_11, u7097_14, u7097_17, u7097_18, u7097_21, u7097_22, u7097_25, u7097_28, u7097_29, u7097_30, u7097_32, u7097_33, u7097_34, u7097_35, u7097_36, u7097_38, u7097_39, u7097_42, u7097_43, u7097_46, u7097_48, u7097_49, u7097_50, u7097_52, u7097_53, u7097_55, u7097_56, u7097_60, u7097_63, u7097_64, u7097_67, u7097_70, u7097_72, u7097_73, u7097_74, u7097_75, u7097_76, u7097_78, u7097_79, u7097_82, u7097_85, u7097_87, u7097_88, u7097_89, u7097_90, u7097_91, u7097_93, u7097_95, u7097_98, u7097_99, u7097_102, u7097_104, u7097_107, u7097_109, u7097_110, u7097_111, u7097_113, u7097_116, u7097_117, u7097_120, u7097_121, u7097_123, u7097_125, u7097_128, u7097_129, u7097_132, u7097_134, u7097_137, u7097_139, u7097_140, u7097_141, u7097_143, u7097_146, u7097_147, u7097_150, u7097_151, u7097_153, u7097_155, u7097_158, u7097_160, u7097_163, u7097_165, u7097_168, u7097_170, u7097_173, u7097_175, u7097_177, u7097_179, u7097_182, u7097_184, u7097_187, u7097_188, u7097_191, u7097_192, u7097_194, u7097_197, u7097_199, ob_70, gt_70_0, xl_71, ki_0, ki_1, ki_1440, ki_1500, ki_6, af_x hd_7097, decide_eq_true_eq, if_true, if_false, f2_ne, f2_eq, up_ne, up_eq, kc_int, kc_ref, kc_retAddr, kc_long, kc_double, af_n, af_v, z0, z1, n_of, nz6, nz4, bI_T, bI_F, bI_01, n_lt, n_le, n_eq, n_add, n_mul, n_sub, n_clamp, n_vp, m_lt, m_le, m_eq, m_eq2, m_ltm, m_add, true_and, and_true, eq_self, if_pos, if_neg, List.length_nil, List.length_cons, Nat.reduceAdd, Nat.reduceLeDiff, Nat.zero_le, not_true_eq_false, not_false_eq_true, true_or, or_true]
          rw [u7097_58]
          simp (disch := omega) only [u7097_0, u7097_1, u7097_2, u7097_3, u7097_6, u7097_9, u7097_10, u7097_11, u7097_14, u7097_17, u7097_18, u7097_21, u7097_22, u7097_25, u7097_28, u7097_29, u7097_30, u7097_32, u7097_33, u7097_34, u7097_35, u7097_36, u7097_38, u7097_39, u7097_42, u7097_43, u7097_46, u7097_48, u7097_49, u7097_50, u7097_52, u7097_53, u7097_55, u7097_56, u7097_60, u7097_63, u7097_64, u7097_67, u7097_70, u7097_72, u7097_73, u7097_74, u7097_75, u7097_76, u7097_78, u7097_79, u7097_82, u7097_85, u7097_87, u7097_88, u7097_89, u7097_90, u7097_91, u7097_93, u7097_95, u7097_98, u7097_99, u7097_102, u7097_104, u7097_107, u7097_109, u7097_110, u7097_111, u7097_113, u7097_116, u7097_117, u7097_120, u7097_121, u7097_123, u7097_125, u7097_128, u7097_129, u7097_132, u7097_134, u7097_137, u7097_139, u7097_140, u7097_141, u7097_143, u7097_146, u7097_147, u7097_150, u7097_151, u7097_153, u7097_155, u7097_158, u7097_160, u7097_163, u7097_165, u7097_168, u7097_170, u7097_173, u7097_175, u7097_177, u7097_179, u7097_182, u7097_184, u7097_187, u7097_188, u7097_191, u7097_192, u7097_194, u7097_197, u7097_199, ob_70, gt_70_0, xl_71, ki_0, ki_1, ki_1440, ki_1500, ki_6, af_x hd_7097, decide_eq_true_eq, if_true, if_false, f2_ne, f2_eq, up_ne, up_eq, kc_int, kc_ref, kc_retAddr, kc_long, kc_double, af_n, af_v, z0, z1, n_of, nz6, nz4, bI_T, bI_F, bI_01, n_lt, n_le, n_eq, n_add, n_mul, n_sub, n_clamp, n_vp, m_lt, m_le, m_eq, m_eq2, m_ltm, m_add, true_and, and_true, eq_self, if_pos, if_neg, List.length_nil, List.length_cons, Nat.reduceAdd, Nat.reduceLeDiff, Nat.zero_le, not_true_eq_false, not_false_eq_true, true_or, or_true]
    · have RT := R.T (S.p c - 1) (by omega) i hi
      have tp := h.Tv (S.p c - 1) (by omega) i hi
      by_cases e : S.T (S.p c - 1) i = v
      · have ep : pwN S i c = S.p c := by unfold pwN; rw [if_pos ⟨p0, by rw [e, hv]⟩]
        rw [ep, if_neg p0]
        by_cases q0 : S.q c = 0
        · simp (disch := omega) only [RP, RQ, q0, pk_sub1, pk_0, pk_p _ p0, m_tree, RT, e, u7097_0, u7097_1, u7097_2, u7097_3, u7097_6, u7097_9, u7097_10, u7097_11, u7097_14, u7097_17, u7097_18, u7097_21, u7097_22, u7097_25, u7097_28, u7097_29, u7097_30, u7097_32, u7097_33, u7097_34, u7097_35, u7097_36, u7097_38, u7097_39, u7097_42, u7097_43, u7097_46, u7097_48, u7097_49, u7097_50, u7097_52, u7097_53, u7097_55, u7097_56, u7097_60, u7097_63, u7097_64, u7097_67, u7097_70, u7097_72, u7097_73, u7097_74, u7097_75, u7097_76, u7097_78, u7097_79, u7097_82, u7097_85, u7097_87, u7097_88, u7097_89, u7097_90, u7097_91, u7097_93, u7097_95, u7097_98, u7097_99, u7097_102, u7097_104, u7097_107, u7097_109, u7097_110, u7097_111, u7097_113, u7097_116, u7097_117, u7097_120, u7097_121, u7097_123, u7097_125, u7097_128, u7097_129, u7097_132, u7097_134, u7097_137, u7097_139, u7097_140, u7097_141, u7097_143, u7097_146, u7097_147, u7097_150, u7097_151, u7097_153, u7097_155, u7097_158, u7097_160, u7097_163, u7097_165, u7097_168, u7097_170, u7097_173, u7097_175, u7097_177, u7097_179, u7097_182, u7097_184, u7097_187, u7097_188, u7097_191, u7097_192, u7097_194, u7097_197, u7097_199, ob_70, gt_70_0, xl_71, ki_0, ki_1, ki_1440, ki_1500, ki_6, af_x hd_7097, decide_eq_true_eq, if_true, if_false, f2_ne, f2_eq, up_ne, up_eq, kc_int, kc_ref, kc_retAddr, kc_long, kc_double, af_n, af_v, z0, z1, n_of, nz6, nz4, bI_T, bI_F, bI_01, n_lt, n_le, n_eq, n_add, n_mul, n_sub, n_clamp, n_vp, m_lt, m_le, m_eq, m_eq2, m_ltm, m_add, true_and, and_true, eq_self, if_pos, if_neg, List.length_nil, List.length_cons, Nat.reduceAdd, Nat.reduceLeDiff, Nat.zero_le, not_true_eq_false, not_false_eq_true, true_or, or_true]
          exact ih _ _ _ _ _ (by omega) (by omega) e
        · have RT2 := R.T (S.q c - 1) (by omega) i hi
          have tq := h.Tv (S.q c - 1) (by omega) i hi
          by_cases e2 : S.T (S.q c - 1) i = v
          · simp (disch := omega) only [RP, RQ, pk_sub1, pk_p _ p0, pk_p _ q0, m_tree, RT, RT2, e, e2, u7097_0, u7097_1, u7097_2, u7097_3, u7097_6, u7097_9, u7097_10, u7097_11, u7097_14, u7097_17, u7097_18, u7097_21, u7097_22, u7097_25, u7097_28, u7097_29, u7097_30, u7097_32, u7097_33, u7097_34, u7097_35, u7097_36, u7097_38, u7097_39, u7097_42, u7097_43, u7097_46, u7097_48, u7097_49, u7097_50, u7097_52, u7097_53, u7097_55, u7097_56, u7097_60, u7097_63, u7097_64, u7097_67, u7097_70, u7097_72, u7097_73, u7097_74, u7097_75, u7097_76, u7097_78, u7097_79, u7097_82, u7097_85, u7097_87, u7097_88, u7097_89, u7097_90, u7097_91, u7097_93, u7097_95, u7097_98, u7097_99, u7097_102, u7097_104, u7097_107, u7097_109, u7097_110, u7097_111, u7097_113, u7097_116, u7097_117, u7097_120, u7097_121, u7097_123, u7097_125, u7097_128, u7097_129, u7097_132, u7097_134, u7097_137, u7097_139, u7097_140, u7097_141, u7097_143, u7097_146, u7097_147, u7097_150, u7097_151, u7097_153, u7097_155, u7097_158, u7097_160, u7097_163, u7097_165, u7097_168, u7097_170, u7097_173, u7097_175, u7097_177, u7097_179, u7097_182, u7097_184, u7097_187, u7097_188, u7097_191, u7097_192, u7097_194, u7097_197, u7097_199, ob_70, gt_70_0, xl_71, ki_0, ki_1, ki_1440, ki_1500, ki_6, af_x hd_7097, decide_eq_true_eq, if_true, if_false, f2_ne, f2_eq, up_ne, up_eq, kc_int, kc_ref, kc_retAddr, kc_long, kc_double, af_n, af_v, z0, z1, n_of, nz6, nz4, bI_T, bI_F, bI_01, n_lt, n_le, n_eq, n_add, n_mul, n_sub, n_clamp, n_vp, m_lt, m_le, m_eq, m_eq2, m_ltm, m_add, true_and, and_true, eq_self, if_pos, if_neg, List.length_nil, List.length_cons, Nat.reduceAdd, Nat.reduceLeDiff, Nat.zero_le, not_true_eq_false, not_false_eq_true, true_or, or_true]
            exact ih _ _ _ _ _ (by omega) (by omega) e
          · simp (disch := omega) only [RP, RQ, pk_sub1, pk_p _ p0, pk_p _ q0, m_tree, RT, RT2, e, e2, u7097_0, u7097_1, u7097_2, u7097_3, u7097_6, u7097_9, u7097_10, u7097_11, u7097_14, u7097_17, u7097_18, u7097_21, u7097_22, u7097_25, u7097_28, u7097_29, u7097_30, u7097_32, u7097_33, u7097_34, u7097_35, u7097_36, u7097_38, u7097_39, u7097_42, u7097_43, u7097_46, u7097_48, u7097_49, u7097_50, u7097_52, u7097_53, u7097_55, u7097_56, u7097_60, u7097_63, u7097_64, u7097_67, u7097_70, u7097_72, u7097_73, u7097_74, u7097_75, u7097_76, u7097_78, u7097_79, u7097_82, u7097_85, u7097_87, u7097_88, u7097_89, u7097_90, u7097_91, u7097_93, u7097_95, u7097_98, u7097_99, u7097_102, u7097_104, u7097_107, u7097_109, u7097_110, u7097_111, u7097_113, u7097_116, u7097_117, u7097_120, u7097_121, u7097_123, u7097_125, u7097_128, u7097_129, u7097_132, u7097_134, u7097_137, u7097_139, u7097_140, u7097_141, u7097_143, u7097_146, u7097_147, u7097_150, u7097_151, u7097_153, u7097_155, u7097_158, u7097_160, u7097_163, u7097_165, u7097_168, u7097_170, u7097_173, u7097_175, u7097_177, u7097_179, u7097_182, u7097_184, u7097_187, u7097_188, u7097_191, u7097_192, u7097_194, u7097_197, u7097_199, ob_70, gt_70_0, xl_71, ki_0, ki_1, ki_1440, ki_1500, ki_6, af_x hd_7097, decide_eq_true_eq, if_true, if_false, f2_ne, f2_eq, up_ne, up_eq, kc_int, kc_ref, kc_retAddr, kc_long, kc_double, af_n, af_v, z0, z1, n_of, nz6, nz4, bI_T, bI_F, bI_01, n_lt, n_le, n_eq, n_add, n_mul, n_sub, n_clamp, n_vp, m_lt, m_le, m_eq, m_eq2, m_ltm, m_add, true_and, and_true, eq_self, if_pos, if_neg, List.length_nil, List.length_cons, Nat.reduceAdd, Nat.reduceLeDiff, Nat.zero_le, not_true_eq_false, not_false_eq_true, true_or, or_true]
            exact ih _ _ _ _ _ (by omega) (by omega) e
      · by_cases q0 : S.q c = 0
        · have ep : pwN S i c = 0 := by unfold pwN; rw [if_neg (fun z => e (z.2.trans hv)), if_neg (fun z => z.1 q0)]
          rw [if_pos ep]
          simp (disch := omega) only [RP, RQ, q0, pk_sub1, pk_0, pk_p _ p0, m_tree, RT, e, u7097_0, u7097_1, u7097_2, u7097_3, u7097_6, u7097_9, u7097_10, u7097_11, u7097_14, u7097_17, u7097_18, u7097_21, u7097_22, u7097_25, u7097_28, u7097_29, u7097_30, u7097_32, u7097_33, u7097_34, u7097_35, u7097_36, u7097_38, u7097_39, u7097_42, u7097_43, u7097_46, u7097_48, u7097_49, u7097_50, u7097_52, u7097_53, u7097_55, u7097_56, u7097_60, u7097_63, u7097_64, u7097_67, u7097_70, u7097_72, u7097_73, u7097_74, u7097_75, u7097_76, u7097_78, u7097_79, u7097_82, u7097_85, u7097_87, u7097_88, u7097_89, u7097_90, u7097_91, u7097_93, u7097_95, u7097_98, u7097_99, u7097_102, u7097_104, u7097_107, u7097_109, u7097_110, u7097_111, u7097_113, u7097_116, u7097_117, u7097_120, u7097_121, u7097_123, u7097_125, u7097_128, u7097_129, u7097_132, u7097_134, u7097_137, u7097_139, u7097_140, u7097_141, u7097_143, u7097_146, u7097_147, u7097_150, u7097_151, u7097_153, u7097_155, u7097_158, u7097_160, u7097_163, u7097_165, u7097_168, u7097_170, u7097_173, u7097_175, u7097_177, u7097_179, u7097_182, u7097_184, u7097_187, u7097_188, u7097_191, u7097_192, u7097_194, u7097_197, u7097_199, ob_70, gt_70_0, xl_71, ki_0, ki_1, ki_1440, ki_1500, ki_6, af_x hd_7097, decide_eq_true_eq, if_true, if_false, f2_ne, f2_eq, up_ne, up_eq, kc_int, kc_ref, kc_retAddr, kc_long, kc_double, af_n, af_v, z0, z1, n_of, nz6, nz4, bI_T, bI_F, bI_01, n_lt, n_le, n_eq, n_add, n_mul, n_sub, n_clamp, n_vp, m_lt, m_le, m_eq, m_eq2, m_ltm, m_add, true_and, and_true, eq_self, if_pos, if_neg, List.length_nil, List.length_cons, Nat.reduceAdd, Nat.reduceLeDiff, Nat.zero_le, not_true_eq_false, not_false_eq_true, true_or, or_true]
          rw [u7097_58]
          simp (disch := omega) only [u7097_0, u7097_1, u7097_2, u7097_3, u7097_6, u7097_9, u7097_10, u7097_11, u7097_14, u7097_17, u7097_18, u7097_21, u7097_22, u7097_25, u7097_28, u7097_29, u7097_30, u7097_32, u7097_33, u7097_34, u7097_35, u7097_36, u7097_38, u7097_39, u7097_42, u7097_43, u7097_46, u7097_48, u7097_49, u7097_50, u7097_52, u7097_53, u7097_55, u7097_56, u7097_60, u7097_63, u7097_64, u7097_67, u7097_70, u7097_72, u7097_73, u7097_74, u7097_75, u7097_76, u7097_78, u7097_79, u7097_82, u7097_85, u7097_87, u7097_88, u7097_89, u7097_90, u7097_91, u7097_93, u7097_95, u7097_98, u7097_99, u7097_102, u7097_104, u7097_107, u7097_109, u7097_110, u7097_111, u7097_113, u7097_116, u7097_117, u7097_120, u7097_121, u7097_123, u7097_125, u7097_128, u7097_129, u7097_132, u7097_134, u7097_137, u7097_139, u7097_140, u7097_141, u7097_143, u7097_146, u7097_147, u7097_150, u7097_151, u7097_153, u7097_155, u7097_158, u7097_160, u7097_163, u7097_165, u7097_168, u7097_170, u7097_173, u7097_175, u7097_177, u7097_179, u7097_182, u7097_184, u7097_187, u7097_188, u7097_191, u7097_192, u7097_194, u7097_197, u7097_199, ob_70, gt_70_0, xl_71, ki_0, ki_1, ki_1440, ki_1500, ki_6, af_x hd_7097, decide_eq_true_eq, if_true, if_false, f2_ne, f2_eq, up_ne, up_eq, kc_int, kc_ref, kc_retAddr, kc_long, kc_double, af_n, af_v, z0, z1, n_of, nz6, nz4, bI_T, bI_F, bI_01, n_lt, n_le, n_eq, n_add, n_mul, n_sub, n_clamp, n_vp, m_lt, m_le, m_eq, m_eq2, m_ltm, m_add, true_and, and_true, eq_self, if_pos, if_neg, List.length_nil, List.length_cons, Nat.reduceAdd, Nat.reduceLeDiff, Nat.zero_le, not_true_eq_false, not_false_eq_true, true_or, or_true]
        · have RT2 := R.T (S.q c - 1) (by omega) i hi
          have tq := h.Tv (S.q c - 1) (by omega) i hi
          by_cases e2 : S.T (S.q c - 1) i = v
          · have ep : pwN S i c = S.q c := by unfold pwN; rw [if_neg (fun z => e (z.2.trans hv)), if_pos ⟨q0, by rw [e2, hv]⟩]
            rw [ep, if_neg q0]
            simp (disch := omega) only [RP, RQ, pk_sub1, pk_p _ p0, pk_p _ q0, m_tree, RT, RT2, e, e2, u7097_0, u7097_1, u7097_2, u7097_3, u7097_6, u7097_9, u7097_10, u7097_11, u7097_14, u7097_17, u7097_18, u7097_21, u7097_22, u7097_25, u7097_28, u7097_29, u7097_30, u7097_32, u7097_33, u7097_34, u7097_35, u7097_36, u7097_38, u7097_39, u7097_42, u7097_43, u7097_46, u7097_48, u7097_49, u7097_50, u7097_52, u7097_53, u7097_55, u7097_56, u7097_60, u7097_63, u7097_64, u7097_67, u7097_70, u7097_72, u7097_73, u7097_74, u7097_75, u7097_76, u7097_78, u7097_79, u7097_82, u7097_85, u7097_87, u7097_88, u7097_89, u7097_90, u7097_91, u7097_93, u7097_95, u7097_98, u7097_99, u7097_102, u7097_104, u7097_107, u7097_109, u7097_110, u7097_111, u7097_113, u7097_116, u7097_117, u7097_120, u7097_121, u7097_123, u7097_125, u7097_128, u7097_129, u7097_132, u7097_134, u7097_137, u7097_139, u7097_140, u7097_141, u7097_143, u7097_146, u7097_147, u7097_150, u7097_151, u7097_153, u7097_155, u7097_158, u7097_160, u7097_163, u7097_165, u7097_168, u7097_170, u7097_173, u7097_175, u7097_177, u7097_179, u7097_182, u7097_184, u7097_187, u7097_188, u7097_191, u7097_192, u7097_194, u7097_197, u7097_199, ob_70, gt_70_0, xl_71, ki_0, ki_1, ki_1440, ki_1500, ki_6, af_x hd_7097, decide_eq_true_eq, if_true, if_false, f2_ne, f2_eq, up_ne, up_eq, kc_int, kc_ref, kc_retAddr, kc_long, kc_double, af_n, af_v, z0, z1, n_of, nz6, nz4, bI_T, bI_F, bI_01, n_lt, n_le, n_eq, n_add, n_mul, n_sub, n_clamp, n_vp, m_lt, m_le, m_eq, m_eq2, m_ltm, m_add, true_and, and_true, eq_self, if_pos, if_neg, List.length_nil, List.length_cons, Nat.reduceAdd, Nat.reduceLeDiff, Nat.zero_le, not_true_eq_false, not_false_eq_true, true_or, or_true]
            exact ih _ _ _ _ _ (by omega) (by omega) e2
          · have ep : pwN S i c = 0 := by unfold pwN; rw [if_neg (fun z => e (z.2.trans hv)), if_neg (fun z => e2 (z.2.trans hv))]
            rw [if_pos ep]
            simp (disch := omega) only [RP, RQ, pk_sub1, pk_p _ p0, pk_p _ q0, m_tree, RT, RT2, e, e2, u7097_0, u7097_1, u7097_2, u7097_3, u7097_6, u7097_9, u7097_10, u7097_11, u7097_14, u7097_17, u7097_18, u7097_21, u7097_22, u7097_25, u7097_28, u7097_29, u7097_30, u7097_32, u7097_33, u7097_34, u7097_35, u7097_36, u7097_38, u7097_39, u7097_42, u7097_43, u7097_46, u7097_48, u7097_49, u7097_50, u7097_52, u7097_53, u7097_55, u7097_56, u7097_60, u7097_63, u7097_64, u7097_67, u7097_70, u7097_72, u7097_73, u7097_74, u7097_75, u7097_76, u7097_78, u7097_79, u7097_82, u7097_85, u7097_87, u7097_88, u7097_89, u7097_90, u7097_91, u7097_93, u7097_95, u7097_98, u7097_99, u7097_102, u7097_104, u7097_107, u7097_109, u7097_110, u7097_111, u7097_113, u7097_116, u7097_117, u7097_120, u7097_121, u7097_123, u7097_125, u7097_128, u7097_129, u7097_132, u7097_134, u7097_137, u7097_139, u7097_140, u7097_141, u7097_143, u7097_146, u7097_147, u7097_150, u7097_151, u7097_153, u7097_155, u7097_158, u7097_160, u7097_163, u7097_165, u7097_168, u7097_170, u7097_173, u7097_175, u7097_177, u7097_179, u7097_182, u7097_184, u7097_187, u7097_188, u7097_191, u7097_192, u7097_194, u7097_197, u7097_199, ob_70, gt_70_0, xl_71, ki_0, ki_1, ki_1440, ki_1500, ki_6, af_x hd_7097, decide_eq_true_eq, if_true, if_false, f2_ne, f2_eq, up_ne, up_eq, kc_int, kc_ref, kc_retAddr, kc_long, kc_double, af_n, af_v, z0, z1, n_of, nz6, nz4, bI_T, bI_F, bI_01, n_lt, n_le, n_eq, n_add, n_mul, n_sub, n_clamp, n_vp, m_lt, m_le, m_eq, m_eq2, m_ltm, m_add, true_and, and_true, eq_self, if_pos, if_neg, List.length_nil, List.length_cons, Nat.reduceAdd, Nat.reduceLeDiff, Nat.zero_le, not_true_eq_false, not_false_eq_true, true_or, or_true]
            rw [u7097_58]
            simp (disch := omega) only [u7097_0, u7097_1, u7097_2, u7097_3, u7097_6, u7097_9, u7097_10, u7097_11, u7097_14, u7097_17, u7097_18, u7097_21, u7097_22, u7097_25, u7097_28, u7097_29, u7097_30, u7097_32, u7097_33, u7097_34, u7097_35, u7097_36, u7097_38, u7097_39, u7097_42, u7097_43, u7097_46, u7097_48, u7097_49, u7097_50, u7097_52, u7097_53, u7097_55, u7097_56, u7097_60, u7097_63, u7097_64, u7097_67, u7097_70, u7097_72, u7097_73, u7097_74, u7097_75, u7097_76, u7097_78, u7097_79, u7097_82, u7097_85, u7097_87, u7097_88, u7097_89, u7097_90, u7097_91, u7097_93, u7097_95, u7097_98, u7097_99, u7097_102, u7097_104, u7097_107, u7097_109, u7097_110, u7097_111, u7097_113, u7097_116, u7097_117, u7097_120, u7097_121, u7097_123, u7097_125, u7097_128, u7097_129, u7097_132, u7097_134, u7097_137, u7097_139, u7097_140, u7097_141, u7097_143, u7097_146, u7097_147, u7097_150, u7097_151, u7097_153, u7097_155, u7097_158, u7097_160, u7097_163, u7097_165, u7097_168, u7097_170, u7097_173, u7097_175, u7097_177, u7097_179, u7097_182, u7097_184, u7097_187, u7097_188, u7097_191, u7097_192, u7097_194, u7097_197, u7097_199, ob_70, gt_70_0, xl_71, ki_0, ki_1, ki_1440, ki_1500, ki_6, af_x hd_7097, decide_eq_true_eq, if_true, if_false, f2_ne, f2_eq, up_ne, up_eq, kc_int, kc_ref, kc_retAddr, kc_long, kc_double, af_n, af_v, z0, z1, n_of, nz6, nz4, bI_T, bI_F, bI_01, n_lt, n_le, n_eq, n_add, n_mul, n_sub, n_clamp, n_vp, m_lt, m_le, m_eq, m_eq2, m_ltm, m_add, true_and, and_true, eq_self, if_pos, if_neg, List.length_nil, List.length_cons, Nat.reduceAdd, Nat.reduceLeDiff, Nat.zero_le, not_true_eq_false, not_false_eq_true, true_or, or_true]
theorem w_broughtBy {k a b : Nat} (hk : k < G.S.n) (ha : a < 4) (hb : b < 6) (c : mG F A G) (w : wG G) : wO X (d + 8) 7097 [.ref 70, .int (nI k), .int (nI a), .int (nI b)] cl sl F A L 0 (nI (brgN G.S (a * 6 + b) 60 k)) G := wO_q c Lf_id fun P => by
  have h60 := w.w.n60
  have hi : a * 6 + b < 24 := by omega
  have ec : 6 * a + b = a * 6 + b := by omega
  have RT := c.R.T k hk _ hi
  rw [c7097]
  simp (disch := omega) only [m_isCommit_t c.R w.w hk, m_isLine, m_asks1, ec, m_tree, RT, u7097_0, u7097_1, u7097_2, u7097_3, u7097_6, u7097_9, u7097_10, u7097_11, u7097_14, u7097_17, u7097_18, u7097_21, u7097_22, u7097_25, u7097_28, u7097_29, u7097_30, u7097_32, u7097_33, u7097_34, u7097_35, u7097_36, u7097_38, u7097_39, u7097_42, u7097_43, u7097_46, u7097_48, u7097_49, u7097_50, u7097_52, u7097_53, u7097_55, u7097_56, u7097_60, u7097_63, u7097_64, u7097_67, u7097_70, u7097_72, u7097_73, u7097_74, u7097_75, u7097_76, u7097_78, u7097_79, u7097_82, u7097_85, u7097_87, u7097_88, u7097_89, u7097_90, u7097_91, u7097_93, u7097_95, u7097_98, u7097_99, u7097_102, u7097_104, u7097_107, u7097_109, u7097_110, u7097_111, u7097_113, u7097_116, u7097_117, u7097_120, u7097_121, u7097_123, u7097_125, u7097_128, u7097_129, u7097_132, u7097_134, u7097_137, u7097_139, u7097_140, u7097_141, u7097_143, u7097_146, u7097_147, u7097_150, u7097_151, u7097_153, u7097_155, u7097_158, u7097_160, u7097_163, u7097_165, u7097_168, u7097_170, u7097_173, u7097_175, u7097_177, u7097_179, u7097_182, u7097_184, u7097_187, u7097_188, u7097_191, u7097_192, u7097_194, u7097_197, u7097_199, ob_70, gt_70_0, xl_71, ki_0, ki_1, ki_1440, ki_1500, ki_6, af_x hd_7097, decide_eq_true_eq, if_true, if_false, f2_ne, f2_eq, up_ne, up_eq, kc_int, kc_ref, kc_retAddr, kc_long, kc_double, af_n, af_v, z0, z1, n_of, nz6, nz4, bI_T, bI_F, bI_01, n_lt, n_le, n_eq, n_add, n_mul, n_sub, n_clamp, n_vp, m_lt, m_le, m_eq, m_eq2, m_ltm, m_add, true_and, and_true, eq_self, if_pos, if_neg, List.length_nil, List.length_cons, Nat.reduceAdd, Nat.reduceLeDiff, Nat.zero_le, not_true_eq_false, not_false_eq_true, true_or, or_true]
  exact l_mbrought (d := d + 6) c.R w.w hi 60 k _ _ _ _ (by omega) hk rfl
/-! the best common ones -/
theorem l_best2 (R : mR (A 71) S) (h : wS S) (hm : mk76 L S S.n) {k0 o0 cnt0 c : Nat} {x : Int64} {C : Nat → Prop} (hx : lS x C) (hc : c < S.n) : ∀ (k j : Nat), j + k = S.n → am_g (d + 1) X am_m7118 59 [.ref 70, .int (nI k0), .int (nI o0), .long x, am_u, .int (nI cnt0), .int (nI c), .int (bI (C c ∧ ∀ y, y < j → (y = c ∨ ¬ C y ∨ ¬ Re S.p S.q y c))), .int (nI j)] [] (am_Z cl sl F A L) P = am_g (d + 1) X am_m7118 121 [.ref 70, .int (nI k0), .int (nI o0), .long x, am_u, .int (nI cnt0), .int (nI c), .int (bI (C c ∧ ∀ y, y < S.n → (y = c ∨ ¬ C y ∨ ¬ Re S.p S.q y c))), .int (nI S.n)] [] (am_Z cl sl F A L) P := by
  have h60 := h.n60
  intro k
  induction k with
  | zero =>
    intro j hj
    obtain rfl : j = S.n := by omega
    rw [u7118_59]
    simp (disch := omega) only [R.n0, u7118_0, u7118_1, u7118_2, u7118_3, u7118_6, u7118_9, u7118_10, u7118_11, u7118_12, u7118_15, u7118_16, u7118_19, u7118_20, u7118_21, u7118_22, u7118_25, u7118_26, u7118_27, u7118_28, u7118_29, u7118_30, u7118_32, u7118_33, u7118_35, u7118_37, u7118_38, u7118_41, u7118_44, u7118_45, u7118_48, u7118_49, u7118_51, u7118_54, u7118_56, u7118_57, u7118_61, u7118_62, u7118_65, u7118_68, u7118_69, u7118_72, u7118_74, u7118_77, u7118_79, u7118_81, u7118_84, u7118_85, u7118_87, u7118_90, u7118_93, u7118_94, u7118_97, u7118_99, u7118_100, u7118_102, u7118_105, u7118_108, u7118_109, u7118_112, u7118_113, u7118_115, u7118_118, u7118_123, u7118_125, u7118_128, u7118_129, u7118_132, u7118_133, u7118_134, u7118_136, u7118_139, u7118_142, u7118_144, ob_70, gt_70_9, gt_70_0, xl_71, jl_76, ki_0, ki_1, ki_1762, af_x hd_7118, decide_eq_true_eq, if_true, if_false, f2_ne, f2_eq, up_ne, up_eq, kc_int, kc_ref, kc_retAddr, kc_long, kc_double, af_n, af_v, z0, z1, n_of, nz6, nz4, bI_T, bI_F, bI_01, n_lt, n_le, n_eq, n_add, n_mul, n_sub, n_clamp, n_vp, m_lt, m_le, m_eq, m_eq2, m_ltm, m_add, true_and, and_true, eq_self, if_pos, if_neg, List.length_nil, List.length_cons, Nat.reduceAdd, Nat.reduceLeDiff, Nat.zero_le, not_true_eq_false, not_false_eq_true, true_or, or_true]
  | succ k ih =>
    intro j hj
    have h9 := ih (j + 1) (by omega)
    have hmj := hm j (by omega)
    rw [u7118_59]
    by_cases e : C c ∧ ∀ y, y < j → (y = c ∨ ¬ C y ∨ ¬ Re S.p S.q y c)
    · by_cases e1 : j = c
      · rw [bI_t (S := C c ∧ ∀ y, y < j + 1 → (y = c ∨ ¬ C y ∨ ¬ Re S.p S.q y c)) ⟨e.1, fun y hy => by
          by_cases ey : y = j
          · exact Or.inl (ey.trans e1)
          · exact e.2 y (by omega)⟩] at h9
        rw [bI_t e]
        simp (disch := omega) only [R.n0, e1, u7118_0, u7118_1, u7118_2, u7118_3, u7118_6, u7118_9, u7118_10, u7118_11, u7118_12, u7118_15, u7118_16, u7118_19, u7118_20, u7118_21, u7118_22, u7118_25, u7118_26, u7118_27, u7118_28, u7118_29, u7118_30, u7118_32, u7118_33, u7118_35, u7118_37, u7118_38, u7118_41, u7118_44, u7118_45, u7118_48, u7118_49, u7118_51, u7118_54, u7118_56, u7118_57, u7118_61, u7118_62, u7118_65, u7118_68, u7118_69, u7118_72, u7118_74, u7118_77, u7118_79, u7118_81, u7118_84, u7118_85, u7118_87, u7118_90, u7118_93, u7118_94, u7118_97, u7118_99, u7118_100, u7118_102, u7118_105, u7118_108, u7118_109, u7118_112, u7118_113, u7118_115, u7118_118, u7118_123, u7118_125, u7118_128, u7118_129, u7118_132, u7118_133, u7118_134, u7118_136, u7118_139, u7118_142, u7118_144, ob_70, gt_70_9, gt_70_0, xl_71, jl_76, ki_0, ki_1, ki_1762, af_x hd_7118, decide_eq_true_eq, if_true, if_false, f2_ne, f2_eq, up_ne, up_eq, kc_int, kc_ref, kc_retAddr, kc_long, kc_double, af_n, af_v, z0, z1, n_of, nz6, nz4, bI_T, bI_F, bI_01, n_lt, n_le, n_eq, n_add, n_mul, n_sub, n_clamp, n_vp, m_lt, m_le, m_eq, m_eq2, m_ltm, m_add, true_and, and_true, eq_self, if_pos, if_neg, List.length_nil, List.length_cons, Nat.reduceAdd, Nat.reduceLeDiff, Nat.zero_le, not_true_eq_false, not_false_eq_true, true_or, or_true]
        rw [e1] at h9
        exact h9
      · by_cases e2 : C j
        · by_cases e3 : Re S.p S.q j c
          · rw [bI_f (S := C c ∧ ∀ y, y < j + 1 → (y = c ∨ ¬ C y ∨ ¬ Re S.p S.q y c)) (fun z => by
              rcases z.2 j (by omega) with z | z | z
              · exact e1 z
              · exact z e2
              · exact z e3)] at h9
            rw [bI_t e]
            simp (disch := omega) only [R.n0, e1, m_has hx, bI_t e2, m_has hmj, bI_t e3, u7118_0, u7118_1, u7118_2, u7118_3, u7118_6, u7118_9, u7118_10, u7118_11, u7118_12, u7118_15, u7118_16, u7118_19, u7118_20, u7118_21, u7118_22, u7118_25, u7118_26, u7118_27, u7118_28, u7118_29, u7118_30, u7118_32, u7118_33, u7118_35, u7118_37, u7118_38, u7118_41, u7118_44, u7118_45, u7118_48, u7118_49, u7118_51, u7118_54, u7118_56, u7118_57, u7118_61, u7118_62, u7118_65, u7118_68, u7118_69, u7118_72, u7118_74, u7118_77, u7118_79, u7118_81, u7118_84, u7118_85, u7118_87, u7118_90, u7118_93, u7118_94, u7118_97, u7118_99, u7118_100, u7118_102, u7118_105, u7118_108, u7118_109, u7118_112, u7118_113, u7118_115, u7118_118, u7118_123, u7118_125, u7118_128, u7118_129, u7118_132, u7118_133, u7118_134, u7118_136, u7118_139, u7118_142, u7118_144, ob_70, gt_70_9, gt_70_0, xl_71, jl_76, ki_0, ki_1, ki_1762, af_x hd_7118, decide_eq_true_eq, if_true, if_false, f2_ne, f2_eq, up_ne, up_eq, kc_int, kc_ref, kc_retAddr, kc_long, kc_double, af_n, af_v, z0, z1, n_of, nz6, nz4, bI_T, bI_F, bI_01, n_lt, n_le, n_eq, n_add, n_mul, n_sub, n_clamp, n_vp, m_lt, m_le, m_eq, m_eq2, m_ltm, m_add, true_and, and_true, eq_self, if_pos, if_neg, List.length_nil, List.length_cons, Nat.reduceAdd, Nat.reduceLeDiff, Nat.zero_le, not_true_eq_false, not_false_eq_true, true_or, or_true]
            exact h9
          · rw [bI_t (S := C c ∧ ∀ y, y < j + 1 → (y = c ∨ ¬ C y ∨ ¬ Re S.p S.q y c)) ⟨e.1, fun y hy => by
              by_cases ey : y = j
              · subst ey; exact Or.inr (Or.inr e3)
              · exact e.2 y (by omega)⟩] at h9
            rw [bI_t e]
            simp (disch := omega) only [R.n0, e1, m_has hx, bI_t e2, m_has hmj, bI_f e3, u7118_0, u7118_1, u7118_2, u7118_3, u7118_6, u7118_9, u7118_10, u7118_11, u7118_12, u7118_15, u7118_16, u7118_19, u7118_20, u7118_21, u7118_22, u7118_25, u7118_26, u7118_27, u7118_28, u7118_29, u7118_30, u7118_32, u7118_33, u7118_35, u7118_37, u7118_38, u7118_41, u7118_44, u7118_45, u7118_48, u7118_49, u7118_51, u7118_54, u7118_56, u7118_57, u7118_61, u7118_62, u7118_65, u7118_68, u7118_69, u7118_72, u7118_74, u7118_77, u7118_79, u7118_81, u7118_84, u7118_85, u7118_87, u7118_90, u7118_93, u7118_94, u7118_97, u7118_99, u7118_100, u7118_102, u7118_105, u7118_108, u7118_109, u7118_112, u7118_113, u7118_115, u7118_118, u7118_123, u7118_125, u7118_128, u7118_129, u7118_132, u7118_133, u7118_134, u7118_136, u7118_139, u7118_142, u7118_144, ob_70, gt_70_9, gt_70_0, xl_71, jl_76, ki_0, ki_1, ki_1762, af_x hd_7118, decide_eq_true_eq, if_true, if_false, f2_ne, f2_eq, up_ne, up_eq, kc_int, kc_ref, kc_retAddr, kc_long, kc_double, af_n, af_v, z0, z1, n_of, nz6, nz4, bI_T, bI_F, bI_01, n_lt, n_le, n_eq, n_add, n_mul, n_sub, n_clamp, n_vp, m_lt, m_le, m_eq, m_eq2, m_ltm, m_add, true_and, and_true, eq_self, if_pos, if_neg, List.length_nil, List.length_cons, Nat.reduceAdd, Nat.reduceLeDiff, Nat.zero_le, not_true_eq_false, not_false_eq_true, true_or, or_true]
            exact h9
        · rw [bI_t (S := C c ∧ ∀ y, y < j + 1 → (y = c ∨ ¬ C y ∨ ¬ Re S.p S.q y c)) ⟨e.1, fun y hy => by
              by_cases ey : y = j
              · subst ey; exact Or.inr (Or.inl e2)
              · exact e.2 y (by omega)⟩] at h9
          rw [bI_t e]
          simp (disch := omega) only [R.n0, e1, m_has hx, bI_f e2, u7118_0, u7118_1, u7118_2, u7118_3, u7118_6, u7118_9, u7118_10, u7118_11, u7118_12, u7118_15, u7118_16, u7118_19, u7118_20, u7118_21, u7118_22, u7118_25, u7118_26, u7118_27, u7118_28, u7118_29, u7118_30, u7118_32, u7118_33, u7118_35, u7118_37, u7118_38, u7118_41, u7118_44, u7118_45, u7118_48, u7118_49, u7118_51, u7118_54, u7118_56, u7118_57, u7118_61, u7118_62, u7118_65, u7118_68, u7118_69, u7118_72, u7118_74, u7118_77, u7118_79, u7118_81, u7118_84, u7118_85, u7118_87, u7118_90, u7118_93, u7118_94, u7118_97, u7118_99, u7118_100, u7118_102, u7118_105, u7118_108, u7118_109, u7118_112, u7118_113, u7118_115, u7118_118, u7118_123, u7118_125, u7118_128, u7118_129, u7118_132, u7118_133, u7118_134, u7118_136, u7118_139, u7118_142, u7118_144, ob_70, gt_70_9, gt_70_0, xl_71, jl_76, ki_0, ki_1, ki_1762, af_x hd_7118, decide_eq_true_eq, if_true, if_false, f2_ne, f2_eq, up_ne, up_eq, kc_int, kc_ref, kc_retAddr, kc_long, kc_double, af_n, af_v, z0, z1, n_of, nz6, nz4, bI_T, bI_F, bI_01, n_lt, n_le, n_eq, n_add, n_mul, n_sub, n_clamp, n_vp, m_lt, m_le, m_eq, m_eq2, m_ltm, m_add, true_and, and_true, eq_self, if_pos, if_neg, List.length_nil, List.length_cons, Nat.reduceAdd, Nat.reduceLeDiff, Nat.zero_le, not_true_eq_false, not_false_eq_true, true_or, or_true]
          exact h9
    · rw [bI_f (S := C c ∧ ∀ y, y < j + 1 → (y = c ∨ ¬ C y ∨ ¬ Re S.p S.q y c)) (fun z => e ⟨z.1, fun y hy => z.2 y (by omega)⟩)] at h9
      rw [bI_f e]
      simp (disch := omega) only [R.n0, u7118_0, u7118_1, u7118_2, u7118_3, u7118_6, u7118_9, u7118_10, u7118_11, u7118_12, u7118_15, u7118_16, u7118_19, u7118_20, u7118_21, u7118_22, u7118_25, u7118_26, u7118_27, u7118_28, u7118_29, u7118_30, u7118_32, u7118_33, u7118_35, u7118_37, u7118_38, u7118_41, u7118_44, u7118_45, u7118_48, u7118_49, u7118_51, u7118_54, u7118_56, u7118_57, u7118_61, u7118_62, u7118_65, u7118_68, u7118_69, u7118_72, u7118_74, u7118_77, u7118_79, u7118_81, u7118_84, u7118_85, u7118_87, u7118_90, u7118_93, u7118_94, u7118_97, u7118_99, u7118_100, u7118_102, u7118_105, u7118_108, u7118_109, u7118_112, u7118_113, u7118_115, u7118_118, u7118_123, u7118_125, u7118_128, u7118_129, u7118_132, u7118_133, u7118_134, u7118_136, u7118_139, u7118_142, u7118_144, ob_70, gt_70_9, gt_70_0, xl_71, jl_76, ki_0, ki_1, ki_1762, af_x hd_7118, decide_eq_true_eq, if_true, if_false, f2_ne, f2_eq, up_ne, up_eq, kc_int, kc_ref, kc_retAddr, kc_long, kc_double, af_n, af_v, z0, z1, n_of, nz6, nz4, bI_T, bI_F, bI_01, n_lt, n_le, n_eq, n_add, n_mul, n_sub, n_clamp, n_vp, m_lt, m_le, m_eq, m_eq2, m_ltm, m_add, true_and, and_true, eq_self, if_pos, if_neg, List.length_nil, List.length_cons, Nat.reduceAdd, Nat.reduceLeDiff, Nat.zero_le, not_true_eq_false, not_false_eq_true, true_or, or_true]
      exact h9
noncomputable def bM (S : Ab) (C : Nat → Prop) : Nat → Bool := dP (fun c => C c ∧ ∀ y, y < S.n → (y = c ∨ ¬ C y ∨ ¬ Re S.p S.q y c))
theorem l_best (R : mR (A 71) S) (h : wS S) (hm : mk76 L S S.n) {k0 o0 : Nat} {x : Int64} {C : Nat → Prop} (hx : lS x C) : ∀ (k c : Nat) (v7 v8 : Value), c + k = S.n → am_g (d + 1) X am_m7118 35 [.ref 70, .int (nI k0), .int (nI o0), .long x, am_u, .int (nI (cnt (bM S C) c)), .int (nI c), v7, v8] [] (am_Z cl sl F A L) P = P (.inl (some (.int (nI (cnt (bM S C) S.n))))) (am_Z cl sl F A L) := by
  have h60 := h.n60
  intro k
  induction k with
  | zero =>
    intro c v7 v8 hc
    obtain rfl : c = S.n := by omega
    rw [u7118_35]
    simp (disch := omega) only [R.n0, u7118_0, u7118_1, u7118_2, u7118_3, u7118_6, u7118_9, u7118_10, u7118_11, u7118_12, u7118_15, u7118_16, u7118_19, u7118_20, u7118_21, u7118_22, u7118_25, u7118_26, u7118_27, u7118_28, u7118_29, u7118_30, u7118_32, u7118_33, u7118_37, u7118_38, u7118_41, u7118_44, u7118_45, u7118_48, u7118_49, u7118_51, u7118_54, u7118_56, u7118_57, u7118_59, u7118_61, u7118_62, u7118_65, u7118_68, u7118_69, u7118_72, u7118_74, u7118_77, u7118_79, u7118_81, u7118_84, u7118_85, u7118_87, u7118_90, u7118_93, u7118_94, u7118_97, u7118_99, u7118_100, u7118_102, u7118_105, u7118_108, u7118_109, u7118_112, u7118_113, u7118_115, u7118_118, u7118_121, u7118_123, u7118_125, u7118_128, u7118_129, u7118_132, u7118_133, u7118_134, u7118_136, u7118_139, u7118_142, u7118_144, ob_70, gt_70_9, gt_70_0, xl_71, jl_76, ki_0, ki_1, ki_1762, af_x hd_7118, decide_eq_true_eq, if_true, if_false, f2_ne, f2_eq, up_ne, up_eq, kc_int, kc_ref, kc_retAddr, kc_long, kc_double, af_n, af_v, z0, z1, n_of, nz6, nz4, bI_T, bI_F, bI_01, n_lt, n_le, n_eq, n_add, n_mul, n_sub, n_clamp, n_vp, m_lt, m_le, m_eq, m_eq2, m_ltm, m_add, true_and, and_true, eq_self, if_pos, if_neg, List.length_nil, List.length_cons, Nat.reduceAdd, Nat.reduceLeDiff, Nat.zero_le, not_true_eq_false, not_false_eq_true, true_or, or_true]
  | succ k ih =>
    intro c v7 v8 hc
    have h9 := fun v7 v8 => ih (c + 1) v7 v8 (by omega)
    have h2 := l_best2 (d := d) (X := X) (cl := cl) (sl := sl) (F := F) (P := P) (k0 := k0) (o0 := o0) (cnt0 := cnt (bM S C) c) R h hm hx (show c < S.n by omega) S.n 0 (by omega)
    have e0 : bI (C c ∧ ∀ y, y < 0 → (y = c ∨ ¬ C y ∨ ¬ Re S.p S.q y c)) = bI (C c) := congrArg bI (propext ⟨fun z => z.1, fun z => ⟨z, fun y hy => absurd hy (by omega)⟩⟩)
    rw [e0] at h2
    rw [u7118_35]
    simp (disch := omega) only [R.n0, m_has hx, u7118_0, u7118_1, u7118_2, u7118_3, u7118_6, u7118_9, u7118_10, u7118_11, u7118_12, u7118_15, u7118_16, u7118_19, u7118_20, u7118_21, u7118_22, u7118_25, u7118_26, u7118_27, u7118_28, u7118_29, u7118_30, u7118_32, u7118_33, u7118_37, u7118_38, u7118_41, u7118_44, u7118_45, u7118_48, u7118_49, u7118_51, u7118_54, u7118_56, u7118_57, u7118_61, u7118_62, u7118_65, u7118_68, u7118_69, u7118_72, u7118_74, u7118_77, u7118_79, u7118_81, u7118_84, u7118_85, u7118_87, u7118_90, u7118_93, u7118_94, u7118_97, u7118_99, u7118_100, u7118_102, u7118_105, u7118_108, u7118_109, u7118_112, u7118_113, u7118_115, u7118_118, u7118_121, u7118_123, u7118_125, u7118_128, u7118_129, u7118_132, u7118_133, u7118_134, u7118_136, u7118_139, u7118_142, u7118_144, ob_70, gt_70_9, gt_70_0, xl_71, jl_76, ki_0, ki_1, ki_1762, af_x hd_7118, decide_eq_true_eq, if_true, if_false, f2_ne, f2_eq, up_ne, up_eq, kc_int, kc_ref, kc_retAddr, kc_long, kc_double, af_n, af_v, z0, z1, n_of, nz6, nz4, bI_T, bI_F, bI_01, n_lt, n_le, n_eq, n_add, n_mul, n_sub, n_clamp, n_vp, m_lt, m_le, m_eq, m_eq2, m_ltm, m_add, true_and, and_true, eq_self, if_pos, if_neg, List.length_nil, List.length_cons, Nat.reduceAdd, Nat.reduceLeDiff, Nat.zero_le, not_true_eq_false, not_false_eq_true, true_or, or_true]
    rw [h2]
    by_cases e : C c ∧ ∀ y, y < S.n → (y = c ∨ ¬ C y ∨ ¬ Re S.p S.q y c)
    · rw [cnt_t (p := bM S C) (dP_t e)] at h9
      rw [bI_t e]
      simp (disch := omega) only [u7118_0, u7118_1, u7118_2, u7118_3, u7118_6, u7118_9, u7118_10, u7118_11, u7118_12, u7118_15, u7118_16, u7118_19, u7118_20, u7118_21, u7118_22, u7118_25, u7118_26, u7118_27, u7118_28, u7118_29, u7118_30, u7118_32, u7118_33, u7118_37, u7118_38, u7118_41, u7118_44, u7118_45, u7118_48, u7118_49, u7118_51, u7118_54, u7118_56, u7118_57, u7118_61, u7118_62, u7118_65, u7118_68, u7118_69, u7118_72, u7118_74, u7118_77, u7118_79, u7118_81, u7118_84, u7118_85, u7118_87, u7118_90, u7118_93, u7118_94, u7118_97, u7118_99, u7118_100, u7118_102, u7118_105, u7118_108, u7118_109, u7118_112, u7118_113, u7118_115, u7118_118, u7118_121, u7118_123, u7118_125, u7118_128, u7118_129, u7118_132, u7118_133, u7118_134, u7118_136, u7118_139, u7118_142, u7118_144, ob_70, gt_70_9, gt_70_0, xl_71, jl_76, ki_0, ki_1, ki_1762, af_x hd_7118, decide_eq_true_eq, if_true, if_false, f2_ne, f2_eq, up_ne, up_eq, kc_int, kc_ref, kc_retAddr, kc_long, kc_double, af_n, af_v, z0, z1, n_of, nz6, nz4, bI_T, bI_F, bI_01, n_lt, n_le, n_eq, n_add, n_mul, n_sub, n_clamp, n_vp, m_lt, m_le, m_eq, m_eq2, m_ltm, m_add, true_and, and_true, eq_self, if_pos, if_neg, List.length_nil, List.length_cons, Nat.reduceAdd, Nat.reduceLeDiff, Nat.zero_le, not_true_eq_false, not_false_eq_true, true_or, or_true]
      exact h9 _ _
    · rw [cnt_f (p := bM S C) (dP_f e)] at h9
      rw [bI_f e]
      simp (disch := omega) only [Nat.add_zero, u7118_0, u7118_1, u7118_2, u7118_3, u7118_6, u7118_9, u7118_10, u7118_11, u7118_12, u7118_15, u7118_16, u7118_19, u7118_20, u7118_21, u7118_22, u7118_25, u7118_26, u7118_27, u7118_28, u7118_29, u7118_30, u7118_32, u7118_33, u7118_37, u7118_38, u7118_41, u7118_44, u7118_45, u7118_48, u7118_49, u7118_51, u7118_54, u7118_56, u7118_57, u7118_61, u7118_62, u7118_65, u7118_68, u7118_69, u7118_72, u7118_74, u7118_77, u7118_79, u7118_81, u7118_84, u7118_85, u7118_87, u7118_90, u7118_93, u7118_94, u7118_97, u7118_99, u7118_100, u7118_102, u7118_105, u7118_108, u7118_109, u7118_112, u7118_113, u7118_115, u7118_118, u7118_121, u7118_123, u7118_125, u7118_128, u7118_129, u7118_132, u7118_133, u7118_134, u7118_136, u7118_139, u7118_142, u7118_144, ob_70, gt_70_9, gt_70_0, xl_71, jl_76, ki_0, ki_1, ki_1762, af_x hd_7118, decide_eq_true_eq, if_true, if_false, f2_ne, f2_eq, up_ne, up_eq, kc_int, kc_ref, kc_retAddr, kc_long, kc_double, af_n, af_v, z0, z1, n_of, nz6, nz4, bI_T, bI_F, bI_01, n_lt, n_le, n_eq, n_add, n_mul, n_sub, n_clamp, n_vp, m_lt, m_le, m_eq, m_eq2, m_ltm, m_add, true_and, and_true, eq_self, if_pos, if_neg, List.length_nil, List.length_cons, Nat.reduceAdd, Nat.reduceLeDiff, Nat.zero_le, not_true_eq_false, not_false_eq_true, true_or, or_true]
      exact h9 _ _
theorem best_eq (h : wS S) {k o : Nat} (hk : k < S.n) (ho : o < S.n) : cnt (bP S.p S.q (fun x => Re S.p S.q k x ∧ Re S.p S.q o x)) 60 = cnt (bM S (fun x => Re S.p S.q k x ∧ Re S.p S.q o x)) S.n := by
  have h60 := h.n60
  have hC : ∀ x, (Re S.p S.q k x ∧ Re S.p S.q o x) → x < S.n := fun x z => by
    have := Re_le h.par k hk x z.1
    omega
  have e0 : cnt (bP S.p S.q (fun x => Re S.p S.q k x ∧ Re S.p S.q o x)) 60 = cnt (bP S.p S.q (fun x => Re S.p S.q k x ∧ Re S.p S.q o x)) S.n := cnt_60 h60 fun i hi => dP_f fun z => by have := hC i z.1; omega
  rw [e0]
  refine cnt_congr fun c hc => ?_
  unfold bP bM
  have e : ((Re S.p S.q k c ∧ Re S.p S.q o c) ∧ ¬ ∃ y, (Re S.p S.q k y ∧ Re S.p S.q o y) ∧ par S.p S.q y c) ↔ ((Re S.p S.q k c ∧ Re S.p S.q o c) ∧ ∀ y, y < S.n → (y = c ∨ ¬ (Re S.p S.q k y ∧ Re S.p S.q o y) ∨ ¬ Re S.p S.q y c)) := by
    refine and_congr_right fun h0 => ⟨fun h1 y hy => ?_, fun h1 h2 => ?_⟩
    · by_cases e1 : y = c
      · exact Or.inl e1
      · by_cases e2 : Re S.p S.q k y ∧ Re S.p S.q o y
        · refine Or.inr (Or.inr fun e3 => ?_)
          rcases Re_last h.par y hy e3 with z | ⟨u, u1, u2, u3, u4⟩
          · exact e1 z.symm
          · exact h1 ⟨u, ⟨Re_trans h.par u3 k hk e2.1, Re_trans h.par u3 o ho e2.2⟩, u4⟩
        · exact Or.inr (Or.inl e2)
    · obtain ⟨y, y1, y2⟩ := h2
      have hy := hC y y1
      have hl := par_lt h.par hy y2
      rcases h1 y hy with z | z | z
      · omega
      · exact z y1
      · exact z (Re_par h.par hy y2)
  by_cases z : (Re S.p S.q k c ∧ Re S.p S.q o c) ∧ ¬ ∃ y, (Re S.p S.q k y ∧ Re S.p S.q o y) ∧ par S.p S.q y c
  · rw [dP_t (S := fun x => (Re S.p S.q k x ∧ Re S.p S.q o x) ∧ ¬ ∃ y, (Re S.p S.q k y ∧ Re S.p S.q o y) ∧ par S.p S.q y x) z, dP_t (e.mp z)]
  · rw [dP_f (S := fun x => (Re S.p S.q k x ∧ Re S.p S.q o x) ∧ ¬ ∃ y, (Re S.p S.q k y ∧ Re S.p S.q o y) ∧ par S.p S.q y x) z, dP_f (fun y => z (e.mpr y))]
theorem w_bestCommon {k o : Nat} (hk : k < G.S.n) (ho : o < G.S.n) (c : mG F A G) (w : wG G) : wO X (d + 8) 7118 [.ref 70, .int (nI k), .int (nI o)] cl sl F A L 0 (nI (cnt (bP G.S.p G.S.q (fun x => Re G.S.p G.S.q k x ∧ Re G.S.p G.S.q o x)) 60)) G := by
  have h60 := w.w.n60
  obtain ⟨L1, e1, m1', f1⟩ := m_marks (d := d + 6) (X := X) (cl := cl) (sl := sl) (F := am_f2 F 70 8 (nI 0)) (L := L) c.R w.w
  refine wO_q c f1 fun P => ?_
  rw [best_eq w.w hk ho, c7118]
  simp (disch := omega) only [m_asksTwo c.R w.w hk ho, e1, u7118_0, u7118_1, u7118_2, u7118_3, u7118_6, u7118_9, u7118_10, u7118_11, u7118_12, u7118_15, u7118_16, u7118_19, u7118_20, u7118_21, u7118_22, u7118_25, u7118_26, u7118_27, u7118_28, u7118_29, u7118_30, u7118_32, u7118_33, u7118_37, u7118_38, u7118_41, u7118_44, u7118_45, u7118_48, u7118_49, u7118_51, u7118_54, u7118_56, u7118_57, u7118_59, u7118_61, u7118_62, u7118_65, u7118_68, u7118_69, u7118_72, u7118_74, u7118_77, u7118_79, u7118_81, u7118_84, u7118_85, u7118_87, u7118_90, u7118_93, u7118_94, u7118_97, u7118_99, u7118_100, u7118_102, u7118_105, u7118_108, u7118_109, u7118_112, u7118_113, u7118_115, u7118_118, u7118_121, u7118_123, u7118_125, u7118_128, u7118_129, u7118_132, u7118_133, u7118_134, u7118_136, u7118_139, u7118_142, u7118_144, ob_70, gt_70_9, gt_70_0, xl_71, jl_76, ki_0, ki_1, ki_1762, af_x hd_7118, decide_eq_true_eq, if_true, if_false, f2_ne, f2_eq, up_ne, up_eq, kc_int, kc_ref, kc_retAddr, kc_long, kc_double, af_n, af_v, z0, z1, n_of, nz6, nz4, bI_T, bI_F, bI_01, n_lt, n_le, n_eq, n_add, n_mul, n_sub, n_clamp, n_vp, m_lt, m_le, m_eq, m_eq2, m_ltm, m_add, true_and, and_true, eq_self, if_pos, if_neg, List.length_nil, List.length_cons, Nat.reduceAdd, Nat.reduceLeDiff, Nat.zero_le, not_true_eq_false, not_false_eq_true, true_or, or_true]
  exact l_best (d := d + 6) c.R w.w m1' (lS_and (m1' k hk) (m1' o ho)) G.S.n 0 _ _ (by omega)
end QB
