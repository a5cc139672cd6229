/-! THE MODEL: the changes, one by one -/
def gO (X : am_X) (d m : Nat) (args : List Value) (cl sl : Nat) (F A : Nat → Nat → Int32) (L : Nat → Nat → Int64) (v : Int32) (U : Ab) : Prop := ∃ g L2, (∀ P, am_Ca X d m args (am_Z cl sl F A L) P = P (.inl (some (.int v))) (am_Z cl sl F (va_up A 71 g) L2)) ∧ mR g U ∧ zO U ∧ Lf L L2
theorem gO_no {X : am_X} {d m : Nat} {args : List Value} {cl sl : Nat} {F A : Nat → Nat → Int32} {L : Nat → Nat → Int64} {v : Int32} {S : Ab} (R : mR (A 71) S) (z : zO S) (e : ∀ P, am_Ca X d m args (am_Z cl sl F A L) P = P (.inl (some (.int v))) (am_Z cl sl F A L)) : gO X d m args cl sl F A L v S := ⟨A 71, L, fun P => by rw [up_same]; exact e P, R, z, Lf_id⟩
theorem gO_noL {X : am_X} {d m : Nat} {args : List Value} {cl sl : Nat} {F A : Nat → Nat → Int32} {L L2 : Nat → Nat → Int64} {v : Int32} {S : Ab} (R : mR (A 71) S) (z : zO S) (f : Lf L L2) (e : ∀ P, am_Ca X d m args (am_Z cl sl F A L) P = P (.inl (some (.int v))) (am_Z cl sl F A L2)) : gO X d m args cl sl F A L v S := ⟨A 71, L2, fun P => by rw [up_same]; exact e P, R, z, f⟩
theorem gO_L {X : am_X} {d m : Nat} {args : List Value} {cl sl : Nat} {F A : Nat → Nat → Int32} {L : Nat → Nat → Int64} {v : Int32} {U : Ab} (z : zO U) (h : ∃ g, (∀ P, am_Ca X d m args (am_Z cl sl F A L) P = P (.inl (some (.int v))) (am_Z cl sl F (va_up A 71 g) L)) ∧ mR g U) : gO X d m args cl sl F A L v U := by
  obtain ⟨g, e, R⟩ := h
  exact ⟨g, L, e, R, z, Lf_id⟩
theorem in_t {n k : Nat} (h : n ≤ k) (hk : k < 2147483648) : bI (nI 0 ≤ nI n ∧ nI n ≤ nI k) = nI 1 := bI_t (by rw [n_le (by omega) (by omega), n_le (by omega) (by omega)]; omega)
theorem in_f {x : Int32} {k : Nat} (hk : k + 1 < 2147483648) (h : x < nI 0 ∨ nI (k + 1) ≤ x) : bI (nI 0 ≤ x ∧ x ≤ nI k) = nI 0 := bI_f (by
  rintro ⟨g1, g2⟩
  rcases h with hx | hx
  · exact Int32.not_le.mpr hx g1
  · have := Int32.le_trans hx g2
    rw [n_le (by omega) (by omega)] at this
    omega)
section MC
variable {d cl sl : Nat} {X : am_X} {F A : Nat → Nat → Int32} {L : Nat → Nat → Int64} {P : am_Q} {S : Ab}
theorem m_num_t {b : Nat} (hb : b < 6) : am_Ca X (d + 2) 7013 [.int (nI b)] (am_Z cl sl F A L) P = P (.inl (some (.int (nI 1)))) (am_Z cl sl F A L) := by rw [m_isNumber, in_t (by omega) (by omega)]
theorem m_num_f {x : Int32} (hx : noB x) : am_Ca X (d + 2) 7013 [.int x] (am_Z cl sl F A L) P = P (.inl (some (.int (nI 0)))) (am_Z cl sl F A L) := by rw [m_isNumber, in_f (by omega) hx]
theorem m_isLine_f {x y : Int32} (h : noP x y) : am_Ca X (d + 2) 7011 [.int x, .int y] (am_Z cl sl F A L) P = P (.inl (some (.int (nI 0)))) (am_Z cl sl F A L) := by
  rw [c7011]
  by_cases h1 : x < nI 0 ∨ nI 4 ≤ x
  · have e1 := in_f (k := 3) (by omega) h1
    simp (disch := omega) only [m_in, e1, u7011_0, u7011_1, u7011_2, u7011_3, u7011_6, u7011_9, u7011_10, u7011_11, u7011_12, u7011_15, u7011_18, u7011_19, u7011_22, u7011_23, ki_0, ki_1, ki_3, ki_5, af_x hd_7011, decide_eq_true_eq, if_true, if_false, f2_ne, f2_eq, up_ne, up_eq, kc_int, kc_ref, kc_retAddr, kc_long, kc_double, af_n, af_v, z0, z1, n_of, nz6, nz4, bI_T, bI_F, bI_01, n_lt, n_le, n_eq, n_add, n_mul, n_sub, n_clamp, n_vp, m_lt, m_le, m_eq, m_eq2, m_ltm, m_add, true_and, and_true, eq_self, if_pos, if_neg, List.length_nil, List.length_cons, Nat.reduceAdd, Nat.reduceLeDiff, Nat.zero_le, not_true_eq_false, not_false_eq_true, true_or, or_true]
  · have h2 : y < nI 0 ∨ nI 6 ≤ y := by
      rcases h with h | h | h
      · exact absurd (Or.inl h) h1
      · exact absurd (Or.inr h) h1
      · exact h
    have e2 := in_f (k := 5) (by omega) h2
    by_cases h3 : nI 0 ≤ x ∧ x ≤ nI 3
    · simp (disch := omega) only [m_in, bI_t h3, e2, u7011_0, u7011_1, u7011_2, u7011_3, u7011_6, u7011_9, u7011_10, u7011_11, u7011_12, u7011_15, u7011_18, u7011_19, u7011_22, u7011_23, ki_0, ki_1, ki_3, ki_5, af_x hd_7011, decide_eq_true_eq, if_true, if_false, f2_ne, f2_eq, up_ne, up_eq, kc_int, kc_ref, kc_retAddr, kc_long, kc_double, af_n, af_v, z0, z1, n_of, nz6, nz4, bI_T, bI_F, bI_01, n_lt, n_le, n_eq, n_add, n_mul, n_sub, n_clamp, n_vp, m_lt, m_le, m_eq, m_eq2, m_ltm, m_add, true_and, and_true, eq_self, if_pos, if_neg, List.length_nil, List.length_cons, Nat.reduceAdd, Nat.reduceLeDiff, Nat.zero_le, not_true_eq_false, not_false_eq_true, true_or, or_true]
    · simp (disch := omega) only [m_in, bI_f h3, u7011_0, u7011_1, u7011_2, u7011_3, u7011_6, u7011_9, u7011_10, u7011_11, u7011_12, u7011_15, u7011_18, u7011_19, u7011_22, u7011_23, ki_0, ki_1, ki_3, ki_5, af_x hd_7011, decide_eq_true_eq, if_true, if_false, f2_ne, f2_eq, up_ne, up_eq, kc_int, kc_ref, kc_retAddr, kc_long, kc_double, af_n, af_v, z0, z1, n_of, nz6, nz4, bI_T, bI_F, bI_01, n_lt, n_le, n_eq, n_add, n_mul, n_sub, n_clamp, n_vp, m_lt, m_le, m_eq, m_eq2, m_ltm, m_add, true_and, and_true, eq_self, if_pos, if_neg, List.length_nil, List.length_cons, Nat.reduceAdd, Nat.reduceLeDiff, Nat.zero_le, not_true_eq_false, not_false_eq_true, true_or, or_true]
theorem g_edit (R : mR (A 71) S) (h : wS S) (z : zO S) {a b v : Nat} (ha : a < 4) (hb : b < 6) (hv : v < 100) : gO X (d + 4) 7034 [.ref 70, .int (nI a), .int (nI b), .int (nI v)] cl sl F A L (nI (unl (setL S (a * 6 + b) v))) (setL S (a * 6 + b) v) := gO_L (zO_setL z) (m_goEdit R h ha hb hv)
theorem g_edit_place (R : mR (A 71) S) (z : zO S) {x y v : Int32} (hx : noP x y) : gO X (d + 4) 7034 [.ref 70, .int x, .int y, .int v] cl sl F A L (-nI 11) S := gO_no R z fun P => by
  rw [c7034]
  simp (disch := omega) only [m_isLine_f hx, u7034_0, u7034_1, u7034_2, u7034_5, u7034_8, u7034_9, u7034_10, u7034_12, u7034_15, u7034_18, u7034_20, u7034_21, u7034_23, u7034_24, u7034_25, u7034_26, u7034_27, u7034_29, u7034_30, u7034_33, u7034_36, u7034_38, u7034_39, u7034_40, u7034_41, u7034_42, u7034_45, u7034_48, u7034_50, u7034_51, u7034_52, u7034_53, u7034_54, u7034_57, gt_70_0, ob_70, xs_71, ki_m11, ki_0, ki_1567, ki_1591, ki_6, ki_99, af_x hd_7034, decide_eq_true_eq, if_true, if_false, f2_ne, f2_eq, up_ne, up_eq, kc_int, kc_ref, kc_retAddr, kc_long, kc_double, af_n, af_v, z0, z1, n_of, nz6, nz4, bI_T, bI_F, bI_01, n_lt, n_le, n_eq, n_add, n_mul, n_sub, n_clamp, n_vp, m_lt, m_le, m_eq, m_eq2, m_ltm, m_add, true_and, and_true, eq_self, if_pos, if_neg, List.length_nil, List.length_cons, Nat.reduceAdd, Nat.reduceLeDiff, Nat.zero_le, not_true_eq_false, not_false_eq_true, true_or, or_true]
theorem g_edit_value (R : mR (A 71) S) (z : zO S) {a b : Nat} {v : Int32} (ha : a < 4) (hb : b < 6) (hv : noV v) : gO X (d + 4) 7034 [.ref 70, .int (nI a), .int (nI b), .int v] cl sl F A L (-nI 11) S := gO_no R z fun P => by
  have e1 := in_f (k := 99) (by omega) hv
  rw [c7034]
  simp (disch := omega) only [m_isLine ha hb, m_in, e1, u7034_0, u7034_1, u7034_2, u7034_5, u7034_8, u7034_9, u7034_10, u7034_12, u7034_15, u7034_18, u7034_20, u7034_21, u7034_23, u7034_24, u7034_25, u7034_26, u7034_27, u7034_29, u7034_30, u7034_33, u7034_36, u7034_38, u7034_39, u7034_40, u7034_41, u7034_42, u7034_45, u7034_48, u7034_50, u7034_51, u7034_52, u7034_53, u7034_54, u7034_57, gt_70_0, ob_70, xs_71, ki_m11, ki_0, ki_1567, ki_1591, ki_6, ki_99, af_x hd_7034, decide_eq_true_eq, if_true, if_false, f2_ne, f2_eq, up_ne, up_eq, kc_int, kc_ref, kc_retAddr, kc_long, kc_double, af_n, af_v, z0, z1, n_of, nz6, nz4, bI_T, bI_F, bI_01, n_lt, n_le, n_eq, n_add, n_mul, n_sub, n_clamp, n_vp, m_lt, m_le, m_eq, m_eq2, m_ltm, m_add, true_and, and_true, eq_self, if_pos, if_neg, List.length_nil, List.length_cons, Nat.reduceAdd, Nat.reduceLeDiff, Nat.zero_le, not_true_eq_false, not_false_eq_true, true_or, or_true]
theorem g_commit (R : mR (A 71) S) (h : wS S) (hm : mayC S) : gO X (d + 4) 7037 [.ref 70] cl sl F A L (nI S.n) (cmS2 S) := gO_L zO_addC (m_goCommit R h hm)
theorem g_commit_no (R : mR (A 71) S) (h : wS S) (z : zO S) (hm : ¬ mayC S) : gO X (d + 4) 7037 [.ref 70] cl sl F A L (-nI 12) S := gO_no R z fun P => by
  have h3 := h.op3
  have hu : unl S ≤ 24 := cnt_le _ _
  have hc : nco S ≤ 24 := cnt_le _ _
  rw [c7037]
  by_cases eu : unl S = 0
  · by_cases eo : S.op = 1
    · by_cases ec : nco S = 0
      · have en : ¬ S.n < 60 := fun en => hm ⟨Or.inl eo, ec, en⟩
        have en2 : ¬ ¬ ¬ S.n < 60 := fun z => z en
        simp (disch := omega) only [m_unlike R h, R.op, m_clashes R h, m_isFull R h, bI_t en, eu, eo, ec, u7037_0, u7037_1, u7037_4, u7037_7, u7037_8, u7037_11, u7037_14, u7037_15, u7037_16, u7037_19, u7037_20, u7037_23, u7037_24, u7037_25, u7037_26, u7037_29, u7037_32, u7037_33, u7037_36, u7037_37, u7037_40, u7037_43, u7037_45, u7037_46, u7037_47, u7037_48, u7037_51, u7037_54, u7037_55, u7037_56, u7037_59, u7037_60, u7037_63, u7037_66, u7037_67, u7037_70, u7037_71, u7037_74, ob_70, gt_70_0, xl_71, ki_m1, ki_m12, ki_0, ki_1, ki_1615, ki_1616, af_x hd_7037, decide_eq_true_eq, if_true, if_false, f2_ne, f2_eq, up_ne, up_eq, kc_int, kc_ref, kc_retAddr, kc_long, kc_double, af_n, af_v, z0, z1, n_of, nz6, nz4, bI_T, bI_F, bI_01, n_lt, n_le, n_eq, n_add, n_mul, n_sub, n_clamp, n_vp, m_lt, m_le, m_eq, m_eq2, m_ltm, m_add, true_and, and_true, eq_self, if_pos, if_neg, List.length_nil, List.length_cons, Nat.reduceAdd, Nat.reduceLeDiff, Nat.zero_le, not_true_eq_false, not_false_eq_true, true_or, or_true]
      · simp (disch := omega) only [m_unlike R h, R.op, m_clashes R h, eu, eo, u7037_0, u7037_1, u7037_4, u7037_7, u7037_8, u7037_11, u7037_14, u7037_15, u7037_16, u7037_19, u7037_20, u7037_23, u7037_24, u7037_25, u7037_26, u7037_29, u7037_32, u7037_33, u7037_36, u7037_37, u7037_40, u7037_43, u7037_45, u7037_46, u7037_47, u7037_48, u7037_51, u7037_54, u7037_55, u7037_56, u7037_59, u7037_60, u7037_63, u7037_66, u7037_67, u7037_70, u7037_71, u7037_74, ob_70, gt_70_0, xl_71, ki_m1, ki_m12, ki_0, ki_1, ki_1615, ki_1616, af_x hd_7037, decide_eq_true_eq, if_true, if_false, f2_ne, f2_eq, up_ne, up_eq, kc_int, kc_ref, kc_retAddr, kc_long, kc_double, af_n, af_v, z0, z1, n_of, nz6, nz4, bI_T, bI_F, bI_01, n_lt, n_le, n_eq, n_add, n_mul, n_sub, n_clamp, n_vp, m_lt, m_le, m_eq, m_eq2, m_ltm, m_add, true_and, and_true, eq_self, if_pos, if_neg, List.length_nil, List.length_cons, Nat.reduceAdd, Nat.reduceLeDiff, Nat.zero_le, not_true_eq_false, not_false_eq_true, true_or, or_true]
    · by_cases ec : nco S = 0
      · simp (disch := omega) only [m_unlike R h, R.op, m_clashes R h, eu, ec, u7037_0, u7037_1, u7037_4, u7037_7, u7037_8, u7037_11, u7037_14, u7037_15, u7037_16, u7037_19, u7037_20, u7037_23, u7037_24, u7037_25, u7037_26, u7037_29, u7037_32, u7037_33, u7037_36, u7037_37, u7037_40, u7037_43, u7037_45, u7037_46, u7037_47, u7037_48, u7037_51, u7037_54, u7037_55, u7037_56, u7037_59, u7037_60, u7037_63, u7037_66, u7037_67, u7037_70, u7037_71, u7037_74, ob_70, gt_70_0, xl_71, ki_m1, ki_m12, ki_0, ki_1, ki_1615, ki_1616, af_x hd_7037, decide_eq_true_eq, if_true, if_false, f2_ne, f2_eq, up_ne, up_eq, kc_int, kc_ref, kc_retAddr, kc_long, kc_double, af_n, af_v, z0, z1, n_of, nz6, nz4, bI_T, bI_F, bI_01, n_lt, n_le, n_eq, n_add, n_mul, n_sub, n_clamp, n_vp, m_lt, m_le, m_eq, m_eq2, m_ltm, m_add, true_and, and_true, eq_self, if_pos, if_neg, List.length_nil, List.length_cons, Nat.reduceAdd, Nat.reduceLeDiff, Nat.zero_le, not_true_eq_false, not_false_eq_true, true_or, or_true]
      · simp (disch := omega) only [m_unlike R h, R.op, m_clashes R h, eu, u7037_0, u7037_1, u7037_4, u7037_7, u7037_8, u7037_11, u7037_14, u7037_15, u7037_16, u7037_19, u7037_20, u7037_23, u7037_24, u7037_25, u7037_26, u7037_29, u7037_32, u7037_33, u7037_36, u7037_37, u7037_40, u7037_43, u7037_45, u7037_46, u7037_47, u7037_48, u7037_51, u7037_54, u7037_55, u7037_56, u7037_59, u7037_60, u7037_63, u7037_66, u7037_67, u7037_70, u7037_71, u7037_74, ob_70, gt_70_0, xl_71, ki_m1, ki_m12, ki_0, ki_1, ki_1615, ki_1616, af_x hd_7037, decide_eq_true_eq, if_true, if_false, f2_ne, f2_eq, up_ne, up_eq, kc_int, kc_ref, kc_retAddr, kc_long, kc_double, af_n, af_v, z0, z1, n_of, nz6, nz4, bI_T, bI_F, bI_01, n_lt, n_le, n_eq, n_add, n_mul, n_sub, n_clamp, n_vp, m_lt, m_le, m_eq, m_eq2, m_ltm, m_add, true_and, and_true, eq_self, if_pos, if_neg, List.length_nil, List.length_cons, Nat.reduceAdd, Nat.reduceLeDiff, Nat.zero_le, not_true_eq_false, not_false_eq_true, true_or, or_true]
  · by_cases ec : nco S = 0
    · have en : ¬ S.n < 60 := fun en => hm ⟨Or.inr eu, ec, en⟩
      simp (disch := omega) only [m_unlike R h, R.op, m_clashes R h, m_isFull R h, bI_t en, ec, u7037_0, u7037_1, u7037_4, u7037_7, u7037_8, u7037_11, u7037_14, u7037_15, u7037_16, u7037_19, u7037_20, u7037_23, u7037_24, u7037_25, u7037_26, u7037_29, u7037_32, u7037_33, u7037_36, u7037_37, u7037_40, u7037_43, u7037_45, u7037_46, u7037_47, u7037_48, u7037_51, u7037_54, u7037_55, u7037_56, u7037_59, u7037_60, u7037_63, u7037_66, u7037_67, u7037_70, u7037_71, u7037_74, ob_70, gt_70_0, xl_71, ki_m1, ki_m12, ki_0, ki_1, ki_1615, ki_1616, af_x hd_7037, decide_eq_true_eq, if_true, if_false, f2_ne, f2_eq, up_ne, up_eq, kc_int, kc_ref, kc_retAddr, kc_long, kc_double, af_n, af_v, z0, z1, n_of, nz6, nz4, bI_T, bI_F, bI_01, n_lt, n_le, n_eq, n_add, n_mul, n_sub, n_clamp, n_vp, m_lt, m_le, m_eq, m_eq2, m_ltm, m_add, true_and, and_true, eq_self, if_pos, if_neg, List.length_nil, List.length_cons, Nat.reduceAdd, Nat.reduceLeDiff, Nat.zero_le, not_true_eq_false, not_false_eq_true, true_or, or_true]
    · simp (disch := omega) only [m_unlike R h, R.op, m_clashes R h, u7037_0, u7037_1, u7037_4, u7037_7, u7037_8, u7037_11, u7037_14, u7037_15, u7037_16, u7037_19, u7037_20, u7037_23, u7037_24, u7037_25, u7037_26, u7037_29, u7037_32, u7037_33, u7037_36, u7037_37, u7037_40, u7037_43, u7037_45, u7037_46, u7037_47, u7037_48, u7037_51, u7037_54, u7037_55, u7037_56, u7037_59, u7037_60, u7037_63, u7037_66, u7037_67, u7037_70, u7037_71, u7037_74, ob_70, gt_70_0, xl_71, ki_m1, ki_m12, ki_0, ki_1, ki_1615, ki_1616, af_x hd_7037, decide_eq_true_eq, if_true, if_false, f2_ne, f2_eq, up_ne, up_eq, kc_int, kc_ref, kc_retAddr, kc_long, kc_double, af_n, af_v, z0, z1, n_of, nz6, nz4, bI_T, bI_F, bI_01, n_lt, n_le, n_eq, n_add, n_mul, n_sub, n_clamp, n_vp, m_lt, m_le, m_eq, m_eq2, m_ltm, m_add, true_and, and_true, eq_self, if_pos, if_neg, List.length_nil, List.length_cons, Nat.reduceAdd, Nat.reduceLeDiff, Nat.zero_le, not_true_eq_false, not_false_eq_true, true_or, or_true]
theorem g_reset (R : mR (A 71) S) (h : wS S) {k : Nat} (hk : k < S.n) : gO X (d + 4) 7039 [.ref 70, .int (nI k)] cl sl F A L (nI (hd S)) (stand S k) := gO_L zO_stand ⟨_, fun P => m_goReset R h hk, mR_stand R h hk⟩
theorem g_reset_no (R : mR (A 71) S) (h : wS S) (z : zO S) {x : Int32} (hx : noC S x) : gO X (d + 4) 7039 [.ref 70, .int x] cl sl F A L (-nI 11) S := gO_no R z fun P => by
  rw [c7039]
  simp (disch := omega) only [m_isCommit_f R h hx, u7039_0, u7039_1, u7039_2, u7039_5, u7039_8, u7039_10, u7039_11, u7039_12, u7039_15, u7039_16, u7039_17, u7039_18, u7039_21, u7039_22, ob_70, ki_m11, af_x hd_7039, decide_eq_true_eq, if_true, if_false, f2_ne, f2_eq, up_ne, up_eq, kc_int, kc_ref, kc_retAddr, kc_long, kc_double, af_n, af_v, z0, z1, n_of, nz6, nz4, bI_T, bI_F, bI_01, n_lt, n_le, n_eq, n_add, n_mul, n_sub, n_clamp, n_vp, m_lt, m_le, m_eq, m_eq2, m_ltm, m_add, true_and, and_true, eq_self, if_pos, if_neg, List.length_nil, List.length_cons, Nat.reduceAdd, Nat.reduceLeDiff, Nat.zero_le, not_true_eq_false, not_false_eq_true, true_or, or_true]
theorem g_abort (R : mR (A 71) S) (h : wS S) (h0 : ¬ S.op = 0) : gO X (d + 4) 7052 [.ref 70] cl sl F A L (nI (nco S)) (stand S (hd S)) := gO_L zO_stand ⟨_, fun P => m_goAbort R h h0, mR_stand R h (hd_n h)⟩
theorem g_abort_no (R : mR (A 71) S) (z : zO S) (h0 : S.op = 0) : gO X (d + 4) 7052 [.ref 70] cl sl F A L (-nI 12) S := gO_no R z fun P => by
  rw [c7052]
  simp (disch := omega) only [R.op, h0, u7052_0, u7052_1, u7052_4, u7052_7, u7052_8, u7052_11, u7052_13, u7052_14, u7052_15, u7052_18, u7052_19, u7052_20, u7052_21, u7052_24, u7052_27, u7052_28, gt_70_0, ob_70, xl_71, ki_m12, ki_1615, af_x hd_7052, decide_eq_true_eq, if_true, if_false, f2_ne, f2_eq, up_ne, up_eq, kc_int, kc_ref, kc_retAddr, kc_long, kc_double, af_n, af_v, z0, z1, n_of, nz6, nz4, bI_T, bI_F, bI_01, n_lt, n_le, n_eq, n_add, n_mul, n_sub, n_clamp, n_vp, m_lt, m_le, m_eq, m_eq2, m_ltm, m_add, true_and, and_true, eq_self, if_pos, if_neg, List.length_nil, List.length_cons, Nat.reduceAdd, Nat.reduceLeDiff, Nat.zero_le, not_true_eq_false, not_false_eq_true, true_or, or_true]
/-! branches -/
theorem lf_all (br : Nat → Nat) (hb : Nat → Bool) (e : ∀ i, i < 6 → hb i = decide (¬ br i = 0)) : ∀ k i, k + i = 6 → (lfN br k i = 0 ↔ ∀ j, i ≤ j → j < 6 → hb j = true) := by
  intro k
  induction k with
  | zero => intro i hi; exact ⟨fun _ j h1 h2 => by omega, fun _ => rfl⟩
  | succ k ih =>
    intro i hi
    have h9 := ih (i + 1) (by omega)
    unfold lfN
    by_cases h0 : br i = 0
    · rw [if_pos h0]
      refine ⟨fun z => by omega, fun z => ?_⟩
      have := z i (Nat.le_refl i) (by omega)
      rw [e i (by omega)] at this
      simp [h0] at this
    · rw [if_neg h0, h9]
      refine ⟨fun z j h1 h2 => ?_, fun z j h1 h2 => z j (by omega) h2⟩
      by_cases hj : j = i
      · subst hj; rw [e j h2]; simp [h0]
      · exact z j (by omega) h2
theorem cnt_all {p : Nat → Bool} : ∀ {n : Nat}, cnt p n = n ↔ ∀ i, i < n → p i = true
  | 0 => ⟨fun _ i hi => by omega, fun _ => rfl⟩
  | n + 1 => by
    have ih := cnt_all (p := p) (n := n)
    have hl := cnt_le p n
    constructor
    · intro h i hi
      cases hp : p n with
      | false =>
        have := cnt_f hp
        omega
      | true =>
        have := cnt_t hp
        by_cases e : i = n
        · subst e; exact hp
        · exact ih.mp (by omega) i (by omega)
    · intro h
      rw [cnt_t (h n (by omega)), ih.mpr fun i hi => h i (by omega)]
theorem lf_cnt : lfN S.br 6 0 = 0 ↔ cnt (brN S) 6 = 6 := by
  rw [lf_all S.br (brN S) (fun _ _ => rfl) 6 0 rfl, cnt_all]
  exact ⟨fun z i hi => z i (Nat.zero_le i) hi, fun z j _ h => z j h⟩
theorem lfN_at {br : Nat → Nat} : ∀ k i w, lfN br k i = w + 1 → i ≤ w ∧ w < i + k ∧ br w = 0 := by
  intro k
  induction k with
  | zero => intro i w h; exact absurd h (by simp [lfN])
  | succ k ih =>
    intro i w h
    unfold lfN at h
    by_cases e : br i = 0
    · rw [if_pos e] at h
      obtain rfl : i = w := by omega
      exact ⟨Nat.le_refl _, by omega, e⟩
    · rw [if_neg e] at h
      have := ih (i + 1) w h
      exact ⟨by omega, by omega, this.2.2⟩
theorem l_goBranch (R : mR (A 71) S) (h : wS S) {w : Nat} : ∀ k i, k + i = 6 → lfN S.br k i = w + 1 → am_g (d + 3) X am_m7043 14 [.ref 70, .int (nI i)] [] (am_Z cl sl F A L) P = P (.inl (some (.int (nI w)))) (am_Z cl sl F (va_up A 71 (va_up (A 71) (1560 + w) (nI (hd S + 1)))) L) := by
  have h60 := h.n60
  intro k
  induction k with
  | zero => intro i _ e; exact absurd e (by simp [lfN])
  | succ k ih =>
    intro i hi e
    have hb := h.brn i (by omega)
    unfold lfN at e
    rw [u7043_14]
    by_cases e0 : S.br i = 0
    · rw [if_pos e0] at e
      obtain rfl : i = w := by omega
      simp (disch := omega) only [R.br, e0, m_top R h, u7043_0, u7043_1, u7043_4, u7043_6, u7043_9, u7043_11, u7043_12, u7043_13, u7043_15, u7043_18, u7043_21, u7043_22, u7043_23, u7043_24, u7043_27, u7043_30, u7043_33, u7043_34, u7043_37, u7043_40, u7043_41, u7043_42, u7043_43, u7043_46, u7043_47, u7043_48, u7043_49, u7043_50, ob_70, gt_70_0, xl_71, xs_71, ki_m12, ki_0, ki_1, ki_1560, ki_6, af_x hd_7043, decide_eq_true_eq, if_true, if_false, f2_ne, f2_eq, up_ne, up_eq, kc_int, kc_ref, kc_retAddr, kc_long, kc_double, af_n, af_v, z0, z1, n_of, nz6, nz4, bI_T, bI_F, bI_01, n_lt, n_le, n_eq, n_add, n_mul, n_sub, n_clamp, n_vp, m_lt, m_le, m_eq, m_eq2, m_ltm, m_add, true_and, and_true, eq_self, if_pos, if_neg, List.length_nil, List.length_cons, Nat.reduceAdd, Nat.reduceLeDiff, Nat.zero_le, not_true_eq_false, not_false_eq_true, true_or, or_true]
      rfl
    · rw [if_neg e0] at e
      simp (disch := omega) only [R.br, u7043_0, u7043_1, u7043_4, u7043_6, u7043_9, u7043_11, u7043_12, u7043_13, u7043_15, u7043_18, u7043_21, u7043_22, u7043_23, u7043_24, u7043_27, u7043_30, u7043_33, u7043_34, u7043_37, u7043_40, u7043_41, u7043_42, u7043_43, u7043_46, u7043_47, u7043_48, u7043_49, u7043_50, ob_70, gt_70_0, xl_71, xs_71, ki_m12, ki_0, ki_1, ki_1560, ki_6, af_x hd_7043, decide_eq_true_eq, if_true, if_false, f2_ne, f2_eq, up_ne, up_eq, kc_int, kc_ref, kc_retAddr, kc_long, kc_double, af_n, af_v, z0, z1, n_of, nz6, nz4, bI_T, bI_F, bI_01, n_lt, n_le, n_eq, n_add, n_mul, n_sub, n_clamp, n_vp, m_lt, m_le, m_eq, m_eq2, m_ltm, m_add, true_and, and_true, eq_self, if_pos, if_neg, List.length_nil, List.length_cons, Nat.reduceAdd, Nat.reduceLeDiff, Nat.zero_le, not_true_eq_false, not_false_eq_true, true_or, or_true]
      exact ih (i + 1) (by omega) e
theorem g_branch (R : mR (A 71) S) (h : wS S) (z : zO S) (hm : ¬ lfN S.br 6 0 = 0) : gO X (d + 4) 7043 [.ref 70] cl sl F A L (nI (lfN S.br 6 0 - 1)) (setB S (lfN S.br 6 0 - 1) (hd S + 1)) := by
  have hw := (lfN_at (br := S.br) 6 0 (lfN S.br 6 0 - 1) (by omega)).2.1
  have h6 : cnt (brN S) 6 ≤ 6 := cnt_le _ _
  have h7 : ¬ cnt (brN S) 6 = 6 := fun z => hm ((lf_cnt (S := S)).mpr z)
  refine gO_L (zO_setB z) ⟨_, fun P => ?_, mR_setB R h (by omega)⟩
  rw [c7043]
  simp (disch := omega) only [m_all R h, u7043_0, u7043_1, u7043_4, u7043_6, u7043_9, u7043_11, u7043_12, u7043_13, u7043_15, u7043_18, u7043_21, u7043_22, u7043_23, u7043_24, u7043_27, u7043_30, u7043_33, u7043_34, u7043_37, u7043_40, u7043_41, u7043_42, u7043_43, u7043_46, u7043_47, u7043_48, u7043_49, u7043_50, ob_70, gt_70_0, xl_71, xs_71, ki_m12, ki_0, ki_1, ki_1560, ki_6, af_x hd_7043, decide_eq_true_eq, if_true, if_false, f2_ne, f2_eq, up_ne, up_eq, kc_int, kc_ref, kc_retAddr, kc_long, kc_double, af_n, af_v, z0, z1, n_of, nz6, nz4, bI_T, bI_F, bI_01, n_lt, n_le, n_eq, n_add, n_mul, n_sub, n_clamp, n_vp, m_lt, m_le, m_eq, m_eq2, m_ltm, m_add, true_and, and_true, eq_self, if_pos, if_neg, List.length_nil, List.length_cons, Nat.reduceAdd, Nat.reduceLeDiff, Nat.zero_le, not_true_eq_false, not_false_eq_true, true_or, or_true]
  exact l_goBranch R h 6 0 rfl (by omega)
theorem g_branch_no (R : mR (A 71) S) (h : wS S) (z : zO S) (hm : lfN S.br 6 0 = 0) : gO X (d + 4) 7043 [.ref 70] cl sl F A L (-nI 12) S := gO_no R z fun P => by
  rw [c7043]
  simp (disch := omega) only [m_all R h, (lf_cnt (S := S)).mp hm, u7043_0, u7043_1, u7043_4, u7043_6, u7043_9, u7043_11, u7043_12, u7043_13, u7043_15, u7043_18, u7043_21, u7043_22, u7043_23, u7043_24, u7043_27, u7043_30, u7043_33, u7043_34, u7043_37, u7043_40, u7043_41, u7043_42, u7043_43, u7043_46, u7043_47, u7043_48, u7043_49, u7043_50, ob_70, gt_70_0, xl_71, xs_71, ki_m12, ki_0, ki_1, ki_1560, ki_6, af_x hd_7043, decide_eq_true_eq, if_true, if_false, f2_ne, f2_eq, up_ne, up_eq, kc_int, kc_ref, kc_retAddr, kc_long, kc_double, af_n, af_v, z0, z1, n_of, nz6, nz4, bI_T, bI_F, bI_01, n_lt, n_le, n_eq, n_add, n_mul, n_sub, n_clamp, n_vp, m_lt, m_le, m_eq, m_eq2, m_ltm, m_add, true_and, and_true, eq_self, if_pos, if_neg, List.length_nil, List.length_cons, Nat.reduceAdd, Nat.reduceLeDiff, Nat.zero_le, not_true_eq_false, not_false_eq_true, true_or, or_true]
theorem g_drop (R : mR (A 71) S) (h : wS S) (z : zO S) {b : Nat} (hb : b < 6) (hm : ¬ S.br b = 0 ∧ ¬ b = S.cur) : gO X (d + 4) 7044 [.ref 70, .int (nI b)] cl sl F A L (pk (S.br b)) (setB S b 0) := by
  obtain ⟨h1, h2⟩ := hm
  have h6 := h.cur6
  have h60 := h.n60
  have hn := h.brn b hb
  refine gO_L (zO_setB z) ⟨_, fun P => ?_, mR_setB R h hb⟩
  rw [c7044]
  simp (disch := omega) only [m_num_t, R.br, R.cu, m_stand R hb, u7044_0, u7044_1, u7044_4, u7044_7, u7044_9, u7044_10, u7044_11, u7044_14, u7044_17, u7044_18, u7044_19, u7044_20, u7044_23, u7044_24, u7044_25, u7044_28, u7044_31, u7044_32, u7044_35, u7044_37, u7044_38, u7044_39, u7044_40, u7044_43, u7044_44, u7044_45, u7044_48, u7044_51, u7044_52, u7044_53, u7044_54, u7044_55, u7044_56, gt_70_0, ob_70, xl_71, xs_71, ki_m11, ki_m12, ki_0, ki_1560, ki_1566, af_x hd_7044, decide_eq_true_eq, if_true, if_false, f2_ne, f2_eq, up_ne, up_eq, kc_int, kc_ref, kc_retAddr, kc_long, kc_double, af_n, af_v, z0, z1, n_of, nz6, nz4, bI_T, bI_F, bI_01, n_lt, n_le, n_eq, n_add, n_mul, n_sub, n_clamp, n_vp, m_lt, m_le, m_eq, m_eq2, m_ltm, m_add, true_and, and_true, eq_self, if_pos, if_neg, List.length_nil, List.length_cons, Nat.reduceAdd, Nat.reduceLeDiff, Nat.zero_le, not_true_eq_false, not_false_eq_true, true_or, or_true]
  rfl
theorem g_drop_no (R : mR (A 71) S) (h : wS S) (z : zO S) {b : Nat} (hb : b < 6) (hm : ¬ (¬ S.br b = 0 ∧ ¬ b = S.cur)) : gO X (d + 4) 7044 [.ref 70, .int (nI b)] cl sl F A L (-nI 12) S := gO_no R z fun P => by
  have h6 := h.cur6
  have h60 := h.n60
  have hn := h.brn b hb
  rw [c7044]
  by_cases h1 : S.br b = 0
  · simp (disch := omega) only [m_num_t, R.br, R.cu, h1, u7044_0, u7044_1, u7044_4, u7044_7, u7044_9, u7044_10, u7044_11, u7044_14, u7044_17, u7044_18, u7044_19, u7044_20, u7044_23, u7044_24, u7044_25, u7044_28, u7044_31, u7044_32, u7044_35, u7044_37, u7044_38, u7044_39, u7044_40, u7044_43, u7044_44, u7044_45, u7044_48, u7044_51, u7044_52, u7044_53, u7044_54, u7044_55, u7044_56, gt_70_0, ob_70, xl_71, xs_71, ki_m11, ki_m12, ki_0, ki_1560, ki_1566, af_x hd_7044, decide_eq_true_eq, if_true, if_false, f2_ne, f2_eq, up_ne, up_eq, kc_int, kc_ref, kc_retAddr, kc_long, kc_double, af_n, af_v, z0, z1, n_of, nz6, nz4, bI_T, bI_F, bI_01, n_lt, n_le, n_eq, n_add, n_mul, n_sub, n_clamp, n_vp, m_lt, m_le, m_eq, m_eq2, m_ltm, m_add, true_and, and_true, eq_self, if_pos, if_neg, List.length_nil, List.length_cons, Nat.reduceAdd, Nat.reduceLeDiff, Nat.zero_le, not_true_eq_false, not_false_eq_true, true_or, or_true]
  · have h2 : b = S.cur := by
      by_cases h2 : b = S.cur
      · exact h2
      · exact absurd ⟨h1, h2⟩ hm
    rw [h2] at h1 hn
    simp (disch := omega) only [m_num_t, R.br, R.cu, h2, u7044_0, u7044_1, u7044_4, u7044_7, u7044_9, u7044_10, u7044_11, u7044_14, u7044_17, u7044_18, u7044_19, u7044_20, u7044_23, u7044_24, u7044_25, u7044_28, u7044_31, u7044_32, u7044_35, u7044_37, u7044_38, u7044_39, u7044_40, u7044_43, u7044_44, u7044_45, u7044_48, u7044_51, u7044_52, u7044_53, u7044_54, u7044_55, u7044_56, gt_70_0, ob_70, xl_71, xs_71, ki_m11, ki_m12, ki_0, ki_1560, ki_1566, af_x hd_7044, decide_eq_true_eq, if_true, if_false, f2_ne, f2_eq, up_ne, up_eq, kc_int, kc_ref, kc_retAddr, kc_long, kc_double, af_n, af_v, z0, z1, n_of, nz6, nz4, bI_T, bI_F, bI_01, n_lt, n_le, n_eq, n_add, n_mul, n_sub, n_clamp, n_vp, m_lt, m_le, m_eq, m_eq2, m_ltm, m_add, true_and, and_true, eq_self, if_pos, if_neg, List.length_nil, List.length_cons, Nat.reduceAdd, Nat.reduceLeDiff, Nat.zero_le, not_true_eq_false, not_false_eq_true, true_or, or_true]
theorem g_drop_num (R : mR (A 71) S) (z : zO S) {x : Int32} (hx : noB x) : gO X (d + 4) 7044 [.ref 70, .int x] cl sl F A L (-nI 11) S := gO_no R z fun P => by
  rw [c7044]
  simp (disch := omega) only [m_num_f hx, u7044_0, u7044_1, u7044_4, u7044_7, u7044_9, u7044_10, u7044_11, u7044_14, u7044_17, u7044_18, u7044_19, u7044_20, u7044_23, u7044_24, u7044_25, u7044_28, u7044_31, u7044_32, u7044_35, u7044_37, u7044_38, u7044_39, u7044_40, u7044_43, u7044_44, u7044_45, u7044_48, u7044_51, u7044_52, u7044_53, u7044_54, u7044_55, u7044_56, gt_70_0, ob_70, xl_71, xs_71, ki_m11, ki_m12, ki_0, ki_1560, ki_1566, af_x hd_7044, decide_eq_true_eq, if_true, if_false, f2_ne, f2_eq, up_ne, up_eq, kc_int, kc_ref, kc_retAddr, kc_long, kc_double, af_n, af_v, z0, z1, n_of, nz6, nz4, bI_T, bI_F, bI_01, n_lt, n_le, n_eq, n_add, n_mul, n_sub, n_clamp, n_vp, m_lt, m_le, m_eq, m_eq2, m_ltm, m_add, true_and, and_true, eq_self, if_pos, if_neg, List.length_nil, List.length_cons, Nat.reduceAdd, Nat.reduceLeDiff, Nat.zero_le, not_true_eq_false, not_false_eq_true, true_or, or_true]
theorem m_topW {b k : Nat} (e1 : A 71 1566 = nI b) (hb : b < 6) (e2 : A 71 (1560 + b) = nI (k + 1)) (hk : k < 100) : am_Ca X (d + 2) 7015 [.ref 70] (am_Z cl sl F A L) P = P (.inl (some (.int (nI k)))) (am_Z cl sl F A L) := by
  have e3 : ∀ {d : Nat} {Q : am_Q}, am_Ca X (d + 1) 7014 [.ref 70, .int (nI b)] (am_Z cl sl F A L) Q = Q (.inl (some (.int (nI k)))) (am_Z cl sl F A L) := by
    intro d Q
    rw [c7014]
    simp (disch := omega) only [e2, Nat.add_sub_cancel, u7014_0, u7014_1, u7014_4, u7014_7, u7014_8, u7014_9, u7014_10, u7014_11, u7014_12, gt_70_0, xl_71, ki_1, ki_1560, af_x hd_7014, decide_eq_true_eq, if_true, if_false, f2_ne, f2_eq, up_ne, up_eq, kc_int, kc_ref, kc_retAddr, kc_long, kc_double, af_n, af_v, z0, z1, n_of, nz6, nz4, bI_T, bI_F, bI_01, n_lt, n_le, n_eq, n_add, n_mul, n_sub, n_clamp, n_vp, m_lt, m_le, m_eq, m_eq2, m_ltm, m_add, true_and, and_true, eq_self, if_pos, if_neg, List.length_nil, List.length_cons, Nat.reduceAdd, Nat.reduceLeDiff, Nat.zero_le, not_true_eq_false, not_false_eq_true, true_or, or_true]
  rw [c7015]
  simp (disch := omega) only [e1, e3, u7015_0, u7015_1, u7015_2, u7015_5, u7015_8, u7015_9, u7015_12, gt_70_0, ob_70, xl_71, ki_1566, af_x hd_7015, decide_eq_true_eq, if_true, if_false, f2_ne, f2_eq, up_ne, up_eq, kc_int, kc_ref, kc_retAddr, kc_long, kc_double, af_n, af_v, z0, z1, n_of, nz6, nz4, bI_T, bI_F, bI_01, n_lt, n_le, n_eq, n_add, n_mul, n_sub, n_clamp, n_vp, m_lt, m_le, m_eq, m_eq2, m_ltm, m_add, true_and, and_true, eq_self, if_pos, if_neg, List.length_nil, List.length_cons, Nat.reduceAdd, Nat.reduceLeDiff, Nat.zero_le, not_true_eq_false, not_false_eq_true, true_or, or_true]
def swR (f : Nat → Int32) (b k : Nat) : Nat → Int32 := va_cpy (va_up f 1566 (nI b)) (va_up f 1566 (nI b)) (24 * k) 1567 24
theorem mR_switch {f : Nat → Int32} (R : mR f S) (h : wS S) (z : zO S) {b : Nat} (hb : b < 6) (hm : mayS S b) : mR (swR f b (S.br b - 1)) (stand (curB S b) (S.br b - 1)) := by
  obtain ⟨m1, m2, m3, m4⟩ := hm
  have h3 := h.ac3
  have h60 := h.n60
  have hn := h.brn b hb
  have out : ∀ k, (k < 1566 ∨ 1591 ≤ k) → swR f b (S.br b - 1) k = f k := fun k h1 => by
    unfold swR
    rw [cpy_out (by omega), up_ne (by omega)]
  refine mR.mk ?_ ?_ ?_ (fun e => ?_) ?_ ?_ ?_ ?_ ?_ ?_ ?_ ?_ ?_ ?_
  · rw [out _ (by omega)]; exact R.n0
  · unfold swR
    rw [cpy_out (by omega), up_eq]; rfl
  · rw [out _ (by omega), R.op, m3]; rfl
  · exact absurd (show (0 : Nat) = 1 from e) (by decide)
  · rw [out _ (by omega)]; exact R.ac
  · rw [out _ (by omega)]; exact R.cf
  · intro k hk
    have hk' : k < S.n := hk
    rw [out _ (by omega)]; exact R.p k hk
  · intro k hk
    have hk' : k < S.n := hk
    rw [out _ (by omega)]; exact R.q k hk
  · intro k hk j hj
    have hk' : k < S.n := hk
    rw [out _ (by omega)]; exact R.T k hk j hj
  · intro j hj
    show _ = nI (va_up S.br b (S.br b - 1 + 1) j)
    rw [out _ (by omega), show S.br b - 1 + 1 = S.br b by omega, up_same]; exact R.br j hj
  · intro j hj
    show _ = nI (S.T (S.br b - 1) j)
    unfold swR
    rw [cpy_in (by omega) (by omega), up_ne (by omega), show 24 * (S.br b - 1) + (1567 + j - 1567) = 24 * (S.br b - 1) + j by omega]
    exact R.T _ (by omega) j hj
  · intro j hj
    rw [out _ (by omega), R.O j hj, z m3 j hj]; rfl
  · intro j hj k hk
    have hj' : j < S.ac := hj
    rw [out _ (by omega)]; exact R.ah j hj k hk
  · intro j hj k hk
    have hj' : j < S.ac := hj
    rw [out _ (by omega)]; exact R.aT j hj k hk
theorem g_switch (R : mR (A 71) S) (h : wS S) (z : zO S) {b : Nat} (hb : b < 6) (hm : mayS S b) : gO X (d + 5) 7045 [.ref 70, .int (nI b)] cl sl F A L (nI (S.br b - 1)) (stand (curB S b) (S.br b - 1)) := by
  have RR := mR_switch R h z hb hm
  obtain ⟨m1, m2, m3, m4⟩ := hm
  have h6 := h.cur6
  have h60 := h.n60
  have hn := h.brn b hb
  refine gO_L zO_stand ⟨_, fun P => ?_, RR⟩
  have e0 : am_f2 A 71 1566 (nI b) = va_up A 71 (va_up (A 71) 1566 (nI b)) := rfl
  have e1 : ∀ {d : Nat} {Q : am_Q}, am_Ca X (d + 2) 7015 [.ref 70] (am_Z cl sl F (va_up A 71 (va_up (A 71) 1566 (nI b))) L) Q = Q (.inl (some (.int (nI (S.br b - 1))))) (am_Z cl sl F (va_up A 71 (va_up (A 71) 1566 (nI b))) L) := fun {d} {Q} => m_topW (by rw [up_eq, up_eq]) hb (by rw [up_eq, up_ne (by omega), R.br b hb, show S.br b - 1 + 1 = S.br b by omega]) (by omega)
  have e2 : ∀ {d : Nat} {Q : am_Q}, am_Ca X (d + 2) 7015 [.ref 70] (am_Z cl sl F (va_up A 71 (swR (A 71) b (S.br b - 1))) L) Q = Q (.inl (some (.int (nI (S.br b - 1))))) (am_Z cl sl F (va_up A 71 (swR (A 71) b (S.br b - 1))) L) := fun {d} {Q} => m_topW (by rw [up_eq]; exact RR.cu) hb (by
    rw [up_eq]
    have := RR.br b hb
    rw [this]
    show nI (va_up S.br b (S.br b - 1 + 1) b) = _
    rw [up_eq]) (by omega)
  have e3 : va_cpy (va_up (A 71) 1566 (nI b)) (va_up (A 71) 1566 (nI b)) (24 * (S.br b - 1)) 1567 24 = swR (A 71) b (S.br b - 1) := rfl
  rw [c7045]
  simp (disch := omega) only [m_num_t, R.br, R.cu, m_isQuiet R h, bI_t (show S.op = 0 ∧ unl S = 0 from ⟨m3, m4⟩), e0, e1, m_tree, m_lays, up_up, e3, e2, u7045_0, u7045_1, u7045_4, u7045_7, u7045_9, u7045_10, u7045_11, u7045_14, u7045_17, u7045_18, u7045_19, u7045_20, u7045_23, u7045_24, u7045_25, u7045_28, u7045_31, u7045_32, u7045_35, u7045_36, u7045_39, u7045_42, u7045_44, u7045_45, u7045_46, u7045_49, u7045_52, u7045_53, u7045_54, u7045_55, u7045_56, u7045_59, u7045_62, u7045_65, u7045_68, u7045_69, u7045_72, gt_70_0, ob_70, xl_71, xs_71, ki_m11, ki_m12, ki_1560, ki_1566, ki_1567, af_x hd_7045, decide_eq_true_eq, if_true, if_false, f2_ne, f2_eq, up_ne, up_eq, kc_int, kc_ref, kc_retAddr, kc_long, kc_double, af_n, af_v, z0, z1, n_of, nz6, nz4, bI_T, bI_F, bI_01, n_lt, n_le, n_eq, n_add, n_mul, n_sub, n_clamp, n_vp, m_lt, m_le, m_eq, m_eq2, m_ltm, m_add, true_and, and_true, eq_self, if_pos, if_neg, List.length_nil, List.length_cons, Nat.reduceAdd, Nat.reduceLeDiff, Nat.zero_le, not_true_eq_false, not_false_eq_true, true_or, or_true]
theorem g_switch_no (R : mR (A 71) S) (h : wS S) (z : zO S) {b : Nat} (hb : b < 6) (hm : ¬ mayS S b) : gO X (d + 5) 7045 [.ref 70, .int (nI b)] cl sl F A L (-nI 12) S := gO_no R z fun P => by
  have h6 := h.cur6
  have h60 := h.n60
  have hn := h.brn b hb
  rw [c7045]
  by_cases h1 : S.br b = 0
  · simp (disch := omega) only [m_num_t, R.br, R.cu, h1, u7045_0, u7045_1, u7045_4, u7045_7, u7045_9, u7045_10, u7045_11, u7045_14, u7045_17, u7045_18, u7045_19, u7045_20, u7045_23, u7045_24, u7045_25, u7045_28, u7045_31, u7045_32, u7045_35, u7045_36, u7045_39, u7045_42, u7045_44, u7045_45, u7045_46, u7045_49, u7045_52, u7045_53, u7045_54, u7045_55, u7045_56, u7045_59, u7045_62, u7045_65, u7045_68, u7045_69, u7045_72, gt_70_0, ob_70, xl_71, xs_71, ki_m11, ki_m12, ki_1560, ki_1566, ki_1567, af_x hd_7045, decide_eq_true_eq, if_true, if_false, f2_ne, f2_eq, up_ne, up_eq, kc_int, kc_ref, kc_retAddr, kc_long, kc_double, af_n, af_v, z0, z1, n_of, nz6, nz4, bI_T, bI_F, bI_01, n_lt, n_le, n_eq, n_add, n_mul, n_sub, n_clamp, n_vp, m_lt, m_le, m_eq, m_eq2, m_ltm, m_add, true_and, and_true, eq_self, if_pos, if_neg, List.length_nil, List.length_cons, Nat.reduceAdd, Nat.reduceLeDiff, Nat.zero_le, not_true_eq_false, not_false_eq_true, true_or, or_true]
  · by_cases h2 : b = S.cur
    · rw [h2] at h1 hn
      simp (disch := omega) only [m_num_t, R.br, R.cu, h2, u7045_0, u7045_1, u7045_4, u7045_7, u7045_9, u7045_10, u7045_11, u7045_14, u7045_17, u7045_18, u7045_19, u7045_20, u7045_23, u7045_24, u7045_25, u7045_28, u7045_31, u7045_32, u7045_35, u7045_36, u7045_39, u7045_42, u7045_44, u7045_45, u7045_46, u7045_49, u7045_52, u7045_53, u7045_54, u7045_55, u7045_56, u7045_59, u7045_62, u7045_65, u7045_68, u7045_69, u7045_72, gt_70_0, ob_70, xl_71, xs_71, ki_m11, ki_m12, ki_1560, ki_1566, ki_1567, af_x hd_7045, decide_eq_true_eq, if_true, if_false, f2_ne, f2_eq, up_ne, up_eq, kc_int, kc_ref, kc_retAddr, kc_long, kc_double, af_n, af_v, z0, z1, n_of, nz6, nz4, bI_T, bI_F, bI_01, n_lt, n_le, n_eq, n_add, n_mul, n_sub, n_clamp, n_vp, m_lt, m_le, m_eq, m_eq2, m_ltm, m_add, true_and, and_true, eq_self, if_pos, if_neg, List.length_nil, List.length_cons, Nat.reduceAdd, Nat.reduceLeDiff, Nat.zero_le, not_true_eq_false, not_false_eq_true, true_or, or_true]
    · have h3 : ¬ (S.op = 0 ∧ unl S = 0) := fun z => hm ⟨h1, h2, z⟩
      simp (disch := omega) only [m_num_t, R.br, R.cu, m_isQuiet R h, bI_f h3, u7045_0, u7045_1, u7045_4, u7045_7, u7045_9, u7045_10, u7045_11, u7045_14, u7045_17, u7045_18, u7045_19, u7045_20, u7045_23, u7045_24, u7045_25, u7045_28, u7045_31, u7045_32, u7045_35, u7045_36, u7045_39, u7045_42, u7045_44, u7045_45, u7045_46, u7045_49, u7045_52, u7045_53, u7045_54, u7045_55, u7045_56, u7045_59, u7045_62, u7045_65, u7045_68, u7045_69, u7045_72, gt_70_0, ob_70, xl_71, xs_71, ki_m11, ki_m12, ki_1560, ki_1566, ki_1567, af_x hd_7045, decide_eq_true_eq, if_true, if_false, f2_ne, f2_eq, up_ne, up_eq, kc_int, kc_ref, kc_retAddr, kc_long, kc_double, af_n, af_v, z0, z1, n_of, nz6, nz4, bI_T, bI_F, bI_01, n_lt, n_le, n_eq, n_add, n_mul, n_sub, n_clamp, n_vp, m_lt, m_le, m_eq, m_eq2, m_ltm, m_add, true_and, and_true, eq_self, if_pos, if_neg, List.length_nil, List.length_cons, Nat.reduceAdd, Nat.reduceLeDiff, Nat.zero_le, not_true_eq_false, not_false_eq_true, true_or, or_true]
theorem g_switch_num (R : mR (A 71) S) (z : zO S) {x : Int32} (hx : noB x) : gO X (d + 5) 7045 [.ref 70, .int x] cl sl F A L (-nI 11) S := gO_no R z fun P => by
  rw [c7045]
  simp (disch := omega) only [m_num_f hx, u7045_0, u7045_1, u7045_4, u7045_7, u7045_9, u7045_10, u7045_11, u7045_14, u7045_17, u7045_18, u7045_19, u7045_20, u7045_23, u7045_24, u7045_25, u7045_28, u7045_31, u7045_32, u7045_35, u7045_36, u7045_39, u7045_42, u7045_44, u7045_45, u7045_46, u7045_49, u7045_52, u7045_53, u7045_54, u7045_55, u7045_56, u7045_59, u7045_62, u7045_65, u7045_68, u7045_69, u7045_72, gt_70_0, ob_70, xl_71, xs_71, ki_m11, ki_m12, ki_1560, ki_1566, ki_1567, af_x hd_7045, decide_eq_true_eq, if_true, if_false, f2_ne, f2_eq, up_ne, up_eq, kc_int, kc_ref, kc_retAddr, kc_long, kc_double, af_n, af_v, z0, z1, n_of, nz6, nz4, bI_T, bI_F, bI_01, n_lt, n_le, n_eq, n_add, n_mul, n_sub, n_clamp, n_vp, m_lt, m_le, m_eq, m_eq2, m_ltm, m_add, true_and, and_true, eq_self, if_pos, if_neg, List.length_nil, List.length_cons, Nat.reduceAdd, Nat.reduceLeDiff, Nat.zero_le, not_true_eq_false, not_false_eq_true, true_or, or_true]
theorem g_resolve (R : mR (A 71) S) (h : wS S) (z : zO S) {a b k : Nat} (ha : a < 4) (hb : b < 6) (hk : k < 2) (h0 : ¬ S.O (a * 6 + b) = 0) : gO X (d + 4) 7051 [.ref 70, .int (nI a), .int (nI b), .int (nI k)] cl sl F A L (nI (nco (resS S (a * 6 + b) k))) (resS S (a * 6 + b) k) := by
  have hi : a * 6 + b < 24 := by omega
  have ho := h.Ov _ hi
  have hw := h.Wv _ hi
  have R1 := mR_setL (v := if k = 0 then S.W (a * 6 + b) else S.O (a * 6 + b) - 1) R h hi
  have h1 : wS (resS S (a * 6 + b) k) := wS_setL (i := a * 6 + b) h (by split <;> omega)
  refine gO_L (zO_setL z) ⟨_, fun P => ?_, R1⟩
  have ea : ∀ v, am_f2 A 71 (1567 + (a * 6 + b)) (nI v) = va_up A 71 (va_up (A 71) (1567 + (a * 6 + b)) (nI v)) := fun _ => rfl
  have ec : 6 * a + b = a * 6 + b := by omega
  by_cases e : k = 0
  · have R2 : mR ((va_up A 71 (va_up (va_up (A 71) (1567 + (a * 6 + b)) (nI (S.W (a * 6 + b)))) (1591 + (a * 6 + b)) (nI 0))) 71) (resS S (a * 6 + b) k) := by rw [up_eq]; rw [if_pos e] at R1; unfold resS; rw [if_pos e]; exact R1
    rw [if_pos e, c7051]
    simp (disch := omega) only [m_isLine, ec, e, R.O, R.W, ea, f2_up, m_clashes R2 h1, u7051_0, u7051_1, u7051_2, u7051_5, u7051_8, u7051_10, u7051_11, u7051_13, u7051_14, u7051_15, u7051_16, u7051_17, u7051_19, u7051_20, u7051_23, u7051_26, u7051_28, u7051_29, u7051_30, u7051_33, u7051_35, u7051_36, u7051_37, u7051_40, u7051_43, u7051_45, u7051_46, u7051_47, u7051_50, u7051_51, u7051_54, u7051_57, u7051_59, u7051_60, u7051_61, u7051_62, u7051_63, u7051_66, u7051_67, u7051_70, u7051_73, u7051_75, u7051_76, u7051_77, u7051_78, u7051_79, u7051_82, u7051_85, u7051_87, u7051_88, u7051_89, u7051_90, u7051_91, u7051_94, gt_70_0, ob_70, xl_71, xs_71, ki_m11, ki_m12, ki_0, ki_1, ki_1567, ki_1591, ki_6, af_x hd_7051, decide_eq_true_eq, if_true, if_false, f2_ne, f2_eq, up_ne, up_eq, kc_int, kc_ref, kc_retAddr, kc_long, kc_double, af_n, af_v, z0, z1, n_of, nz6, nz4, bI_T, bI_F, bI_01, n_lt, n_le, n_eq, n_add, n_mul, n_sub, n_clamp, n_vp, m_lt, m_le, m_eq, m_eq2, m_ltm, m_add, true_and, and_true, eq_self, if_pos, if_neg, List.length_nil, List.length_cons, Nat.reduceAdd, Nat.reduceLeDiff, Nat.zero_le, not_true_eq_false, not_false_eq_true, true_or, or_true]
  · have R2 : mR ((va_up A 71 (va_up (va_up (A 71) (1567 + (a * 6 + b)) (nI (S.O (a * 6 + b) - 1))) (1591 + (a * 6 + b)) (nI 0))) 71) (resS S (a * 6 + b) k) := by rw [up_eq]; rw [if_neg e] at R1; unfold resS; rw [if_neg e]; exact R1
    rw [if_neg e, c7051]
    simp (disch := omega) only [m_isLine, ec, R.O, R.W, ea, f2_up, m_clashes R2 h1, u7051_0, u7051_1, u7051_2, u7051_5, u7051_8, u7051_10, u7051_11, u7051_13, u7051_14, u7051_15, u7051_16, u7051_17, u7051_19, u7051_20, u7051_23, u7051_26, u7051_28, u7051_29, u7051_30, u7051_33, u7051_35, u7051_36, u7051_37, u7051_40, u7051_43, u7051_45, u7051_46, u7051_47, u7051_50, u7051_51, u7051_54, u7051_57, u7051_59, u7051_60, u7051_61, u7051_62, u7051_63, u7051_66, u7051_67, u7051_70, u7051_73, u7051_75, u7051_76, u7051_77, u7051_78, u7051_79, u7051_82, u7051_85, u7051_87, u7051_88, u7051_89, u7051_90, u7051_91, u7051_94, gt_70_0, ob_70, xl_71, xs_71, ki_m11, ki_m12, ki_0, ki_1, ki_1567, ki_1591, ki_6, af_x hd_7051, decide_eq_true_eq, if_true, if_false, f2_ne, f2_eq, up_ne, up_eq, kc_int, kc_ref, kc_retAddr, kc_long, kc_double, af_n, af_v, z0, z1, n_of, nz6, nz4, bI_T, bI_F, bI_01, n_lt, n_le, n_eq, n_add, n_mul, n_sub, n_clamp, n_vp, m_lt, m_le, m_eq, m_eq2, m_ltm, m_add, true_and, and_true, eq_self, if_pos, if_neg, List.length_nil, List.length_cons, Nat.reduceAdd, Nat.reduceLeDiff, Nat.zero_le, not_true_eq_false, not_false_eq_true, true_or, or_true]
theorem g_resolve_no (R : mR (A 71) S) (h : wS S) (z : zO S) {a b : Nat} {v : Int32} (ha : a < 4) (hb : b < 6) (h0 : S.O (a * 6 + b) = 0) : gO X (d + 4) 7051 [.ref 70, .int (nI a), .int (nI b), .int v] cl sl F A L (-nI 12) S := gO_no R z fun P => by
  have hi : a * 6 + b < 24 := by omega
  have ec : 6 * a + b = a * 6 + b := by omega
  rw [c7051]
  simp (disch := omega) only [m_isLine, ec, R.O, h0, u7051_0, u7051_1, u7051_2, u7051_5, u7051_8, u7051_10, u7051_11, u7051_13, u7051_14, u7051_15, u7051_16, u7051_17, u7051_19, u7051_20, u7051_23, u7051_26, u7051_28, u7051_29, u7051_30, u7051_33, u7051_35, u7051_36, u7051_37, u7051_40, u7051_43, u7051_45, u7051_46, u7051_47, u7051_50, u7051_51, u7051_54, u7051_57, u7051_59, u7051_60, u7051_61, u7051_62, u7051_63, u7051_66, u7051_67, u7051_70, u7051_73, u7051_75, u7051_76, u7051_77, u7051_78, u7051_79, u7051_82, u7051_85, u7051_87, u7051_88, u7051_89, u7051_90, u7051_91, u7051_94, gt_70_0, ob_70, xl_71, xs_71, ki_m11, ki_m12, ki_0, ki_1, ki_1567, ki_1591, ki_6, af_x hd_7051, decide_eq_true_eq, if_true, if_false, f2_ne, f2_eq, up_ne, up_eq, kc_int, kc_ref, kc_retAddr, kc_long, kc_double, af_n, af_v, z0, z1, n_of, nz6, nz4, bI_T, bI_F, bI_01, n_lt, n_le, n_eq, n_add, n_mul, n_sub, n_clamp, n_vp, m_lt, m_le, m_eq, m_eq2, m_ltm, m_add, true_and, and_true, eq_self, if_pos, if_neg, List.length_nil, List.length_cons, Nat.reduceAdd, Nat.reduceLeDiff, Nat.zero_le, not_true_eq_false, not_false_eq_true, true_or, or_true]
theorem g_resolve_place (R : mR (A 71) S) (z : zO S) {x y v : Int32} (hx : noP x y) : gO X (d + 4) 7051 [.ref 70, .int x, .int y, .int v] cl sl F A L (-nI 11) S := gO_no R z fun P => by
  rw [c7051]
  simp (disch := omega) only [m_isLine_f hx, u7051_0, u7051_1, u7051_2, u7051_5, u7051_8, u7051_10, u7051_11, u7051_13, u7051_14, u7051_15, u7051_16, u7051_17, u7051_19, u7051_20, u7051_23, u7051_26, u7051_28, u7051_29, u7051_30, u7051_33, u7051_35, u7051_36, u7051_37, u7051_40, u7051_43, u7051_45, u7051_46, u7051_47, u7051_50, u7051_51, u7051_54, u7051_57, u7051_59, u7051_60, u7051_61, u7051_62, u7051_63, u7051_66, u7051_67, u7051_70, u7051_73, u7051_75, u7051_76, u7051_77, u7051_78, u7051_79, u7051_82, u7051_85, u7051_87, u7051_88, u7051_89, u7051_90, u7051_91, u7051_94, gt_70_0, ob_70, xl_71, xs_71, ki_m11, ki_m12, ki_0, ki_1, ki_1567, ki_1591, ki_6, af_x hd_7051, decide_eq_true_eq, if_true, if_false, f2_ne, f2_eq, up_ne, up_eq, kc_int, kc_ref, kc_retAddr, kc_long, kc_double, af_n, af_v, z0, z1, n_of, nz6, nz4, bI_T, bI_F, bI_01, n_lt, n_le, n_eq, n_add, n_mul, n_sub, n_clamp, n_vp, m_lt, m_le, m_eq, m_eq2, m_ltm, m_add, true_and, and_true, eq_self, if_pos, if_neg, List.length_nil, List.length_cons, Nat.reduceAdd, Nat.reduceLeDiff, Nat.zero_le, not_true_eq_false, not_false_eq_true, true_or, or_true]
end MC
