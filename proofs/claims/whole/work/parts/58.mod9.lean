/-! THE MODEL: commit, drop, switch -/
section M8
variable {d cl sl : Nat} {X : am_X} {F A : Nat → Nat → Int32} {L : Nat → Nat → Int64} {P : am_Q} {S : Ab}
theorem m_goCommit (R : mR (A 71) S) (h : wS S) (hm : mayC S) : ∃ g, (∀ P, am_Ca X (d + 4) 7037 [.ref 70] (am_Z cl sl F A L) P = P (.inl (some (.int (nI S.n)))) (am_Z cl sl F (va_up A 71 g) L)) ∧ mR g (cmS2 S) := by
  obtain ⟨g1, g2, g3⟩ := hm
  have h3 := h.op3
  have hu : unl S ≤ 24 := cnt_le _ _
  refine ⟨_, fun P => ?_, mR_addC R h g3⟩
  rw [c7037]
  by_cases e : S.op = 1
  · rw [if_pos e]
    have em := R.mg e
    by_cases eu : unl S = 0
    · simp (disch := omega) only [m_unlike R h, R.op, em, e, eu, m_clashes R h, g2, m_isFull R h, g3, m_makes R h g3, u7037_0, u7037_1, u7037_4, u7037_7, u7037_8, u7037_11, u7037_14, u7037_15, u7037_16, u7037_19, u7037_20, u7037_23, u7037_24, u7037_25, u7037_26, u7037_29, u7037_32, u7037_33, u7037_36, u7037_37, u7037_40, u7037_43, u7037_45, u7037_46, u7037_47, u7037_48, u7037_51, u7037_54, u7037_55, u7037_56, u7037_59, u7037_60, u7037_63, u7037_66, u7037_67, u7037_70, u7037_71, u7037_74, ob_70, gt_70_0, xl_71, ki_m1, ki_m12, ki_0, ki_1, ki_1615, ki_1616, af_x hd_7037, decide_eq_true_eq, if_true, if_false, f2_ne, f2_eq, up_ne, up_eq, kc_int, kc_ref, kc_retAddr, kc_long, kc_double, af_n, af_v, z0, z1, n_of, nz6, nz4, bI_T, bI_F, bI_01, n_lt, n_le, n_eq, n_add, n_mul, n_sub, n_clamp, n_vp, m_lt, m_le, m_eq, m_eq2, m_ltm, m_add, true_and, and_true, eq_self, if_pos, if_neg, List.length_nil, List.length_cons, Nat.reduceAdd, Nat.reduceLeDiff, Nat.zero_le, not_true_eq_false, not_false_eq_true, true_or, or_true]
    · simp (disch := omega) only [m_unlike R h, R.op, em, e, m_clashes R h, g2, m_isFull R h, g3, m_makes R h g3, u7037_0, u7037_1, u7037_4, u7037_7, u7037_8, u7037_11, u7037_14, u7037_15, u7037_16, u7037_19, u7037_20, u7037_23, u7037_24, u7037_25, u7037_26, u7037_29, u7037_32, u7037_33, u7037_36, u7037_37, u7037_40, u7037_43, u7037_45, u7037_46, u7037_47, u7037_48, u7037_51, u7037_54, u7037_55, u7037_56, u7037_59, u7037_60, u7037_63, u7037_66, u7037_67, u7037_70, u7037_71, u7037_74, ob_70, gt_70_0, xl_71, ki_m1, ki_m12, ki_0, ki_1, ki_1615, ki_1616, af_x hd_7037, decide_eq_true_eq, if_true, if_false, f2_ne, f2_eq, up_ne, up_eq, kc_int, kc_ref, kc_retAddr, kc_long, kc_double, af_n, af_v, z0, z1, n_of, nz6, nz4, bI_T, bI_F, bI_01, n_lt, n_le, n_eq, n_add, n_mul, n_sub, n_clamp, n_vp, m_lt, m_le, m_eq, m_eq2, m_ltm, m_add, true_and, and_true, eq_self, if_pos, if_neg, List.length_nil, List.length_cons, Nat.reduceAdd, Nat.reduceLeDiff, Nat.zero_le, not_true_eq_false, not_false_eq_true, true_or, or_true]
  · rw [if_neg e]
    have eu := g1.resolve_left e
    have em := fun {d : Nat} {Q : am_Q} => m_makes (d := d) (X := X) (cl := cl) (sl := sl) (F := F) (L := L) (P := Q) R h g3 (v := 0)
    rw [pk_0] at em
    simp (disch := omega) only [m_unlike R h, R.op, m_clashes R h, g2, m_isFull R h, g3, em, u7037_0, u7037_1, u7037_4, u7037_7, u7037_8, u7037_11, u7037_14, u7037_15, u7037_16, u7037_19, u7037_20, u7037_23, u7037_24, u7037_25, u7037_26, u7037_29, u7037_32, u7037_33, u7037_36, u7037_37, u7037_40, u7037_43, u7037_45, u7037_46, u7037_47, u7037_48, u7037_51, u7037_54, u7037_55, u7037_56, u7037_59, u7037_60, u7037_63, u7037_66, u7037_67, u7037_70, u7037_71, u7037_74, ob_70, gt_70_0, xl_71, ki_m1, ki_m12, ki_0, ki_1, ki_1615, ki_1616, af_x hd_7037, decide_eq_true_eq, if_true, if_false, f2_ne, f2_eq, up_ne, up_eq, kc_int, kc_ref, kc_retAddr, kc_long, kc_double, af_n, af_v, z0, z1, n_of, nz6, nz4, bI_T, bI_F, bI_01, n_lt, n_le, n_eq, n_add, n_mul, n_sub, n_clamp, n_vp, m_lt, m_le, m_eq, m_eq2, m_ltm, m_add, true_and, and_true, eq_self, if_pos, if_neg, List.length_nil, List.length_cons, Nat.reduceAdd, Nat.reduceLeDiff, Nat.zero_le, not_true_eq_false, not_false_eq_true, true_or, or_true]
end M8
