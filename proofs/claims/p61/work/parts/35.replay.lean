/-! REPOSITORY: the replay. A trial on a tree alone; then in earnest -/
section RR
variable {d cl sl : Nat} {X : am_X} {F A : Nat → Nat → Int32} {L : Nat → Nat → Int64} {P : am_Q} {S : Ab} {g : Nat → Int32} {Z : Nat → Prop}
theorem s_marked {a c : Nat} (ha : a < 70) (h1 : SH a = (1, 60, [])) (hc : c < 60) (hA : A a = ind Z g) : am_Ca X (d + 1) 1015 [.ref a, .int (nI c)] (am_Z cl sl F A L) P = P (.inl (some (.int (bI (Z c))))) (am_Z cl sl F A L) := by
  have e : A = va_up A a (ind Z g) := by rw [← hA, up_same]
  have h := s_isMarked (d := d) (X := X) (cl := cl) (sl := sl) (F := F) (A := A) (L := L) (P := P) (S := Z) (g := g) ha h1 hc
  rw [← e] at h
  exact h
/-- whether the commits from i on, k of them, can be picked one after another on the tree t; tot: how many commits there would be -/
noncomputable def trOk (S : Ab) (Z : Nat → Prop) : Nat → Nat → (Nat → Nat) → Nat → Prop
  | 0, _, _, _ => True
  | k + 1, i, t, tot => @ite _ (Z i) (Classical.propDecidable _) (if cnt (kC (fromT S i 0) (toT S i 0) t) 24 = 0 then (if cnt (kB (fromT S i 0) (toT S i 0) t) 24 = 0 then trOk S Z k (i + 1) t tot else (if tot + 1 ≤ 60 then trOk S Z k (i + 1) (kT (fromT S i 0) (toT S i 0) t) (tot + 1) else False)) else False) (trOk S Z k (i + 1) t tot)
theorem kT_0 {o w t : Nat → Nat} (h : cnt (kB o w t) 24 = 0) : ∀ i, i < 24 → kT o w t i = t i := by
  intro i hi
  unfold kT
  rw [if_neg (by rw [cnt_0.mp h i hi]; decide)]
theorem l_mayReplay (h : wS S) (hcl : 70 < cl) (hZ : ∀ x, Z x → x < S.n ∧ x ≠ 0) {b c : Nat} : ∀ (k i tot : Nat) (t : Nat → Nat) (F A : Nat → Nat → Int32), k + i = 60 → tot ≤ 60 → cR F A 4 S → (∀ i, i < 24 → A 20 i = nI (t i)) → (∀ i, i < 24 → t i < 100) → A 22 = ind Z g → ∃ F2 A2, (∀ P, am_g (d + 3) X am_m4020 61 [.ref 3, .int (nI b), .int (nI c), .int (nI tot), .int (nI i)] [] (am_Z cl sl F A L) P = P (.inl (some (.int (bI (trOk S Z k i t tot))))) (am_Z cl sl F2 A2 L)) ∧ cR F2 A2 4 S ∧ Fr F A F2 A2 := by
  intro k
  induction k with
  | zero =>
    intro i tot t F A hi _ R _ _ _
    obtain rfl : i = 60 := by omega
    refine ⟨F, A, fun P => ?_, R, Fr_id⟩
    rw [u4020_61]
    simp (disch := omega) only [trOk, u4020_0, u4020_1, u4020_2, u4020_5, u4020_8, u4020_9, u4020_10, u4020_11, u4020_14, u4020_15, u4020_18, u4020_19, u4020_20, u4020_23, u4020_26, u4020_27, u4020_28, u4020_31, u4020_32, u4020_35, u4020_36, u4020_37, u4020_40, u4020_43, u4020_44, u4020_47, u4020_48, u4020_49, u4020_52, u4020_55, u4020_58, u4020_59, u4020_63, u4020_65, u4020_68, u4020_69, u4020_72, u4020_74, u4020_77, u4020_80, u4020_81, u4020_83, u4020_84, u4020_87, u4020_88, u4020_91, u4020_94, u4020_95, u4020_96, u4020_99, u4020_102, u4020_105, u4020_106, u4020_109, u4020_110, u4020_111, u4020_112, u4020_113, u4020_116, u4020_119, u4020_122, u4020_123, u4020_125, u4020_128, u4020_129, u4020_130, u4020_133, u4020_136, u4020_137, ob_3, gt_3_0, ob_4, gt_4_0, gt_3_1, gt_3_3, ob_13, gt_3_2, gt_17_2, ob_17, gt_17_4, gt_17_5, ki_0, ki_1, ki_60, af_x hd_4020, decide_eq_true_eq, if_true, if_false, f2_ne, f2_eq, up_ne, up_eq, kc_int, kc_ref, kc_retAddr, kc_long, kc_double, af_n, af_v, z0, z1, n_of, nz6, nz4, bI_T, bI_F, bI_01, n_lt, n_le, n_eq, n_add, n_mul, n_sub, n_clamp, n_vp, m_lt, m_le, m_eq, m_eq2, m_ltm, m_add, true_and, and_true, eq_self, if_pos, if_neg, List.length_nil, List.length_cons, Nat.reduceAdd, Nat.reduceLeDiff, Nat.zero_le, not_true_eq_false, not_false_eq_true, true_or, or_true]
  | succ k ih =>
    intro i tot t F A hi htot R h20 hv h22
    have i6 : i < 60 := by omega
    have em : ∀ {d : Nat} {Q : am_Q}, am_Ca X (d + 1) 1015 [.ref 22, .int (nI i)] (am_Z cl sl F A L) Q = Q (.inl (some (.int (bI (Z i))))) (am_Z cl sl F A L) := fun {d} {Q} => s_marked (by decide) rfl i6 h22
    by_cases hz : Z i
    · obtain ⟨hin, hi0⟩ := hZ i hz
      obtain ⟨A1, e1, R1, f1, g18, g19, g20, g22⟩ := r_readChange (d := d + 1) (X := X) (cl := cl) (sl := sl) (L := L) R h hin hi0 (k := 0) (by decide) hcl
      obtain ⟨F2, A2, e2, m, R2, f2, g2⟩ := r_combine (d := d + 2) (X := X) (cl := cl) (sl := sl) (L := L) R1 g18 g19 (fun i hi => by rw [g20]; exact h20 i hi) (fromT_lt h hin hi0) (toT_lt h hin hi0) hv
      have c1 := cnt_le (kB (fromT S i 0) (toT S i 0) t) 24
      have c2 := cnt_le (kC (fromT S i 0) (toT S i 0) t) 24
      unfold trOk
      rw [if_pos hz]
      have mk : ∀ {P : am_Q}, am_g (d + 3) X am_m4020 61 [.ref 3, .int (nI b), .int (nI c), .int (nI tot), .int (nI i)] [] (am_Z cl sl F A L) P = (if 0 < cnt (kC (fromT S i 0) (toT S i 0) t) 24 ∨ 60 < tot + (if 0 < cnt (kB (fromT S i 0) (toT S i 0) t) 24 then 1 else 0) then P (.inl (some (.int (nI 0)))) (am_Z cl sl F2 A2 L) else am_g (d + 3) X am_m4020 61 [.ref 3, .int (nI b), .int (nI c), .int (nI (tot + (if 0 < cnt (kB (fromT S i 0) (toT S i 0) t) 24 then 1 else 0))), .int (nI (i + 1))] [] (am_Z cl sl F2 A2 L) P) := by
        intro P
        rw [u4020_61]
        by_cases hb : 0 < cnt (kB (fromT S i 0) (toT S i 0) t) 24
        · by_cases hc : 0 < cnt (kC (fromT S i 0) (toT S i 0) t) 24
          · simp (disch := omega) only [em, bI_t hz, e1, e2, m.b, m.c, hb, hc, u4020_0, u4020_1, u4020_2, u4020_5, u4020_8, u4020_9, u4020_10, u4020_11, u4020_14, u4020_15, u4020_18, u4020_19, u4020_20, u4020_23, u4020_26, u4020_27, u4020_28, u4020_31, u4020_32, u4020_35, u4020_36, u4020_37, u4020_40, u4020_43, u4020_44, u4020_47, u4020_48, u4020_49, u4020_52, u4020_55, u4020_58, u4020_59, u4020_63, u4020_65, u4020_68, u4020_69, u4020_72, u4020_74, u4020_77, u4020_80, u4020_81, u4020_83, u4020_84, u4020_87, u4020_88, u4020_91, u4020_94, u4020_95, u4020_96, u4020_99, u4020_102, u4020_105, u4020_106, u4020_109, u4020_110, u4020_111, u4020_112, u4020_113, u4020_116, u4020_119, u4020_122, u4020_123, u4020_125, u4020_128, u4020_129, u4020_130, u4020_133, u4020_136, u4020_137, ob_3, gt_3_0, ob_4, gt_4_0, gt_3_1, gt_3_3, ob_13, gt_3_2, gt_17_2, ob_17, gt_17_4, gt_17_5, ki_0, ki_1, ki_60, af_x hd_4020, decide_eq_true_eq, if_true, if_false, f2_ne, f2_eq, up_ne, up_eq, kc_int, kc_ref, kc_retAddr, kc_long, kc_double, af_n, af_v, z0, z1, n_of, nz6, nz4, bI_T, bI_F, bI_01, n_lt, n_le, n_eq, n_add, n_mul, n_sub, n_clamp, n_vp, m_lt, m_le, m_eq, m_eq2, m_ltm, m_add, true_and, and_true, eq_self, if_pos, if_neg, List.length_nil, List.length_cons, Nat.reduceAdd, Nat.reduceLeDiff, Nat.zero_le, not_true_eq_false, not_false_eq_true, true_or, or_true]
          · by_cases ht : 60 < tot + 1
            · simp (disch := omega) only [em, bI_t hz, e1, e2, m.b, m.c, hb, hc, ht, false_or, u4020_0, u4020_1, u4020_2, u4020_5, u4020_8, u4020_9, u4020_10, u4020_11, u4020_14, u4020_15, u4020_18, u4020_19, u4020_20, u4020_23, u4020_26, u4020_27, u4020_28, u4020_31, u4020_32, u4020_35, u4020_36, u4020_37, u4020_40, u4020_43, u4020_44, u4020_47, u4020_48, u4020_49, u4020_52, u4020_55, u4020_58, u4020_59, u4020_63, u4020_65, u4020_68, u4020_69, u4020_72, u4020_74, u4020_77, u4020_80, u4020_81, u4020_83, u4020_84, u4020_87, u4020_88, u4020_91, u4020_94, u4020_95, u4020_96, u4020_99, u4020_102, u4020_105, u4020_106, u4020_109, u4020_110, u4020_111, u4020_112, u4020_113, u4020_116, u4020_119, u4020_122, u4020_123, u4020_125, u4020_128, u4020_129, u4020_130, u4020_133, u4020_136, u4020_137, ob_3, gt_3_0, ob_4, gt_4_0, gt_3_1, gt_3_3, ob_13, gt_3_2, gt_17_2, ob_17, gt_17_4, gt_17_5, ki_0, ki_1, ki_60, af_x hd_4020, decide_eq_true_eq, if_true, if_false, f2_ne, f2_eq, up_ne, up_eq, kc_int, kc_ref, kc_retAddr, kc_long, kc_double, af_n, af_v, z0, z1, n_of, nz6, nz4, bI_T, bI_F, bI_01, n_lt, n_le, n_eq, n_add, n_mul, n_sub, n_clamp, n_vp, m_lt, m_le, m_eq, m_eq2, m_ltm, m_add, true_and, and_true, eq_self, if_pos, if_neg, List.length_nil, List.length_cons, Nat.reduceAdd, Nat.reduceLeDiff, Nat.zero_le, not_true_eq_false, not_false_eq_true, true_or, or_true]
            · simp (disch := omega) only [em, bI_t hz, e1, e2, m.b, m.c, hb, hc, ht, false_or, or_self, u4020_0, u4020_1, u4020_2, u4020_5, u4020_8, u4020_9, u4020_10, u4020_11, u4020_14, u4020_15, u4020_18, u4020_19, u4020_20, u4020_23, u4020_26, u4020_27, u4020_28, u4020_31, u4020_32, u4020_35, u4020_36, u4020_37, u4020_40, u4020_43, u4020_44, u4020_47, u4020_48, u4020_49, u4020_52, u4020_55, u4020_58, u4020_59, u4020_63, u4020_65, u4020_68, u4020_69, u4020_72, u4020_74, u4020_77, u4020_80, u4020_81, u4020_83, u4020_84, u4020_87, u4020_88, u4020_91, u4020_94, u4020_95, u4020_96, u4020_99, u4020_102, u4020_105, u4020_106, u4020_109, u4020_110, u4020_111, u4020_112, u4020_113, u4020_116, u4020_119, u4020_122, u4020_123, u4020_125, u4020_128, u4020_129, u4020_130, u4020_133, u4020_136, u4020_137, ob_3, gt_3_0, ob_4, gt_4_0, gt_3_1, gt_3_3, ob_13, gt_3_2, gt_17_2, ob_17, gt_17_4, gt_17_5, ki_0, ki_1, ki_60, af_x hd_4020, decide_eq_true_eq, if_true, if_false, f2_ne, f2_eq, up_ne, up_eq, kc_int, kc_ref, kc_retAddr, kc_long, kc_double, af_n, af_v, z0, z1, n_of, nz6, nz4, bI_T, bI_F, bI_01, n_lt, n_le, n_eq, n_add, n_mul, n_sub, n_clamp, n_vp, m_lt, m_le, m_eq, m_eq2, m_ltm, m_add, true_and, and_true, eq_self, if_pos, if_neg, List.length_nil, List.length_cons, Nat.reduceAdd, Nat.reduceLeDiff, Nat.zero_le, not_true_eq_false, not_false_eq_true, true_or, or_true]
        · by_cases hc : 0 < cnt (kC (fromT S i 0) (toT S i 0) t) 24
          · simp (disch := omega) only [em, bI_t hz, e1, e2, m.b, m.c, hb, hc, Nat.add_zero, u4020_0, u4020_1, u4020_2, u4020_5, u4020_8, u4020_9, u4020_10, u4020_11, u4020_14, u4020_15, u4020_18, u4020_19, u4020_20, u4020_23, u4020_26, u4020_27, u4020_28, u4020_31, u4020_32, u4020_35, u4020_36, u4020_37, u4020_40, u4020_43, u4020_44, u4020_47, u4020_48, u4020_49, u4020_52, u4020_55, u4020_58, u4020_59, u4020_63, u4020_65, u4020_68, u4020_69, u4020_72, u4020_74, u4020_77, u4020_80, u4020_81, u4020_83, u4020_84, u4020_87, u4020_88, u4020_91, u4020_94, u4020_95, u4020_96, u4020_99, u4020_102, u4020_105, u4020_106, u4020_109, u4020_110, u4020_111, u4020_112, u4020_113, u4020_116, u4020_119, u4020_122, u4020_123, u4020_125, u4020_128, u4020_129, u4020_130, u4020_133, u4020_136, u4020_137, ob_3, gt_3_0, ob_4, gt_4_0, gt_3_1, gt_3_3, ob_13, gt_3_2, gt_17_2, ob_17, gt_17_4, gt_17_5, ki_0, ki_1, ki_60, af_x hd_4020, decide_eq_true_eq, if_true, if_false, f2_ne, f2_eq, up_ne, up_eq, kc_int, kc_ref, kc_retAddr, kc_long, kc_double, af_n, af_v, z0, z1, n_of, nz6, nz4, bI_T, bI_F, bI_01, n_lt, n_le, n_eq, n_add, n_mul, n_sub, n_clamp, n_vp, m_lt, m_le, m_eq, m_eq2, m_ltm, m_add, true_and, and_true, eq_self, if_pos, if_neg, List.length_nil, List.length_cons, Nat.reduceAdd, Nat.reduceLeDiff, Nat.zero_le, not_true_eq_false, not_false_eq_true, true_or, or_true]
          · have ht : ¬ 60 < tot := by omega
            simp (disch := omega) only [em, bI_t hz, e1, e2, m.b, m.c, hb, hc, ht, false_or, or_self, Nat.add_zero, u4020_0, u4020_1, u4020_2, u4020_5, u4020_8, u4020_9, u4020_10, u4020_11, u4020_14, u4020_15, u4020_18, u4020_19, u4020_20, u4020_23, u4020_26, u4020_27, u4020_28, u4020_31, u4020_32, u4020_35, u4020_36, u4020_37, u4020_40, u4020_43, u4020_44, u4020_47, u4020_48, u4020_49, u4020_52, u4020_55, u4020_58, u4020_59, u4020_63, u4020_65, u4020_68, u4020_69, u4020_72, u4020_74, u4020_77, u4020_80, u4020_81, u4020_83, u4020_84, u4020_87, u4020_88, u4020_91, u4020_94, u4020_95, u4020_96, u4020_99, u4020_102, u4020_105, u4020_106, u4020_109, u4020_110, u4020_111, u4020_112, u4020_113, u4020_116, u4020_119, u4020_122, u4020_123, u4020_125, u4020_128, u4020_129, u4020_130, u4020_133, u4020_136, u4020_137, ob_3, gt_3_0, ob_4, gt_4_0, gt_3_1, gt_3_3, ob_13, gt_3_2, gt_17_2, ob_17, gt_17_4, gt_17_5, ki_0, ki_1, ki_60, af_x hd_4020, decide_eq_true_eq, if_true, if_false, f2_ne, f2_eq, up_ne, up_eq, kc_int, kc_ref, kc_retAddr, kc_long, kc_double, af_n, af_v, z0, z1, n_of, nz6, nz4, bI_T, bI_F, bI_01, n_lt, n_le, n_eq, n_add, n_mul, n_sub, n_clamp, n_vp, m_lt, m_le, m_eq, m_eq2, m_ltm, m_add, true_and, and_true, eq_self, if_pos, if_neg, List.length_nil, List.length_cons, Nat.reduceAdd, Nat.reduceLeDiff, Nat.zero_le, not_true_eq_false, not_false_eq_true, true_or, or_true]
      by_cases ok : cnt (kC (fromT S i 0) (toT S i 0) t) 24 = 0
      · rw [if_pos ok]
        by_cases hb : cnt (kB (fromT S i 0) (toT S i 0) t) 24 = 0
        · rw [if_pos hb]
          obtain ⟨F3, A3, e3, R3, f3⟩ := ih (i + 1) tot t F2 A2 (by omega) htot R2 (fun j hj => by rw [m.T j hj, kT_0 hb j hj]) hv (by rw [g2, g22, h22])
          refine ⟨F3, A3, fun P => ?_, R3, Fr_tr f1 (Fr_tr f2 f3)⟩
          refine Eq.trans ?_ (e3 P)
          rw [mk, if_neg (by rw [if_neg (by omega)]; omega), if_neg (by omega)]
          rfl
        · rw [if_neg hb]
          by_cases ht : tot + 1 ≤ 60
          · rw [if_pos ht]
            obtain ⟨F3, A3, e3, R3, f3⟩ := ih (i + 1) (tot + 1) (kT (fromT S i 0) (toT S i 0) t) F2 A2 (by omega) ht R2 m.T (fun j hj => kT_lt (toT_lt h hin hi0 j hj) (hv j hj)) (by rw [g2, g22, h22])
            refine ⟨F3, A3, fun P => ?_, R3, Fr_tr f1 (Fr_tr f2 f3)⟩
            refine Eq.trans ?_ (e3 P)
            rw [mk, if_neg (by rw [if_pos (by omega)]; omega), if_pos (by omega)]
          · rw [if_neg ht]
            refine ⟨F2, A2, fun P => ?_, R2, Fr_tr f1 f2⟩
            rw [mk, if_pos (by rw [if_pos (by omega)]; omega), bI_F]
      · rw [if_neg ok]
        refine ⟨F2, A2, fun P => ?_, R2, Fr_tr f1 f2⟩
        rw [mk, if_pos (by omega), bI_F]
    · unfold trOk
      rw [if_neg hz]
      obtain ⟨F3, A3, e3, R3, f3⟩ := ih (i + 1) tot t F A (by omega) htot R h20 hv h22
      refine ⟨F3, A3, fun P => ?_, R3, f3⟩
      refine Eq.trans ?_ (e3 P)
      rw [u4020_61]
      simp (disch := omega) only [em, bI_f hz, u4020_0, u4020_1, u4020_2, u4020_5, u4020_8, u4020_9, u4020_10, u4020_11, u4020_14, u4020_15, u4020_18, u4020_19, u4020_20, u4020_23, u4020_26, u4020_27, u4020_28, u4020_31, u4020_32, u4020_35, u4020_36, u4020_37, u4020_40, u4020_43, u4020_44, u4020_47, u4020_48, u4020_49, u4020_52, u4020_55, u4020_58, u4020_59, u4020_63, u4020_65, u4020_68, u4020_69, u4020_72, u4020_74, u4020_77, u4020_80, u4020_81, u4020_83, u4020_84, u4020_87, u4020_88, u4020_91, u4020_94, u4020_95, u4020_96, u4020_99, u4020_102, u4020_105, u4020_106, u4020_109, u4020_110, u4020_111, u4020_112, u4020_113, u4020_116, u4020_119, u4020_122, u4020_123, u4020_125, u4020_128, u4020_129, u4020_130, u4020_133, u4020_136, u4020_137, ob_3, gt_3_0, ob_4, gt_4_0, gt_3_1, gt_3_3, ob_13, gt_3_2, gt_17_2, ob_17, gt_17_4, gt_17_5, ki_0, ki_1, ki_60, af_x hd_4020, decide_eq_true_eq, if_true, if_false, f2_ne, f2_eq, up_ne, up_eq, kc_int, kc_ref, kc_retAddr, kc_long, kc_double, af_n, af_v, z0, z1, n_of, nz6, nz4, bI_T, bI_F, bI_01, n_lt, n_le, n_eq, n_add, n_mul, n_sub, n_clamp, n_vp, m_lt, m_le, m_eq, m_eq2, m_ltm, m_add, true_and, and_true, eq_self, if_pos, if_neg, List.length_nil, List.length_cons, Nat.reduceAdd, Nat.reduceLeDiff, Nat.zero_le, not_true_eq_false, not_false_eq_true, true_or, or_true]
/-- the commits of a replay on c -/
def rpZ (S : Ab) (c : Nat) : Nat → Prop := ow S.p (Re S.p S.q c) 60 (hd S + 1)
theorem ow_in {p q : Nat → Nat} {n : Nat} {T : Nat → Prop} (hw : wfP p q n) (h0 : T 0) : ∀ (f z x : Nat), z ≤ n → ow p T f z x → x < n ∧ x ≠ 0 := by
  intro f
  induction f with
  | zero => intro z x _ h; exact h.elim
  | succ f ih =>
    rintro z x hz ⟨h1, h2, h3⟩
    have hzn : z - 1 < n := by omega
    rcases h3 with h3 | h3
    · refine ⟨by omega, ?_⟩
      rintro rfl
      exact h2 (by rw [← h3]; exact h0)
    · have := (hw (z - 1) hzn).1
      exact ih _ x (by omega) h3
theorem rpZ_in (h : wS S) {c : Nat} (hc : c < S.n) : ∀ x, rpZ S c x → x < S.n ∧ x ≠ 0 := fun x hx => ow_in h.par (Re_root h c hc) 60 _ x (hd_n h) hx
def mayR (S : Ab) (b : Nat) : Prop := mayG S b ∧ trOk S (rpZ S (S.br b - 1)) 60 0 (S.T (S.br b - 1)) S.n
theorem r_mayReplay (R : cR F A 4 S) (h : wS S) {b : Nat} (hb : b < 6) (hcl : 70 < cl) : ∃ F2 A2, (∀ P, am_Ca X (d + 5) 4020 [.ref 3, .int (nI b)] (am_Z cl sl F A L) P = P (.inl (some (.int (bI (mayR S b))))) (am_Z cl sl F2 A2 L)) ∧ cR F2 A2 4 S ∧ Fr F A F2 A2 := by
  obtain ⟨A1, e1, R1, f1⟩ := r_mayGo (d := d) (X := X) (cl := cl) (sl := sl) (L := L) R h hb
  by_cases e : mayG S b
  · have h0 := e.1
    have hc := br_n h hb h0
    have h6 := h.n60
    have R2 : cR F (rpA A1 (Re S.p S.q (S.br b - 1)) (rpZ S (S.br b - 1))) 4 S := cR_scr (cR_scr R1 (by omega)) (by omega)
    have R3 : cR F (va_up (rpA A1 (Re S.p S.q (S.br b - 1)) (rpZ S (S.br b - 1))) 20 (va_cpy (rpA A1 (Re S.p S.q (S.br b - 1)) (rpZ S (S.br b - 1)) 7) (rpA A1 (Re S.p S.q (S.br b - 1)) (rpZ S (S.br b - 1)) 20) ((S.br b - 1) * 24) 0 24)) 4 S := cR_scr R2 (by omega)
    obtain ⟨F4, A4, e4, R4, f4⟩ := l_mayReplay (d := d + 1) (X := X) (cl := cl) (sl := sl) (L := L) (Z := rpZ S (S.br b - 1)) (g := A1 22) (b := b) (c := S.br b - 1) h hcl (rpZ_in h hc) 60 0 S.n (S.T (S.br b - 1)) _ _ rfl h6 R3 (fun i hi => by rw [up_eq, cpy_in (by omega) (by omega)]; exact R2.T _ hc i hi) (h.Tv _ hc) (by rw [up_ne (by decide)]; unfold rpA rcA; rw [up_eq])
    refine ⟨F4, A4, fun P => ?_, R4, Fr_tr f1 (Fr_tr (Fr_tr (Fr_tr (Fr_up (o := 14) (by omega)) (Fr_up (o := 22) (by omega))) (Fr_up (o := 20) (by omega))) f4)⟩
    have ew : bI (mayR S b) = bI (trOk S (rpZ S (S.br b - 1)) 60 0 (S.T (S.br b - 1)) S.n) := congrArg bI (propext ⟨fun z => z.2, fun z => ⟨e, z⟩⟩)
    rw [ew]
    refine Eq.trans ?_ (e4 P)
    rw [c4020]
    have em : ∀ {Q : am_Q}, am_Ca X (d + 3 + 1) 1014 [.ref 13, .ref 4, .int (nI (S.br b - 1)), .ref 22] (am_Z cl sl F A1 L) Q = Q (.inl none) (am_Z cl sl F (rpA A1 (Re S.p S.q (S.br b - 1)) (rpZ S (S.br b - 1))) L) := fun {Q} => s_markReplayed (d := d + 1) R1.n0 h6 (wf_of R1 h) hc R1.cu h.cur6 (q_h8 R1 h) (hd_n h)
    simp (disch := omega) only [e1, bI_t e, q_commitOf R1 hb, pk_p _ h0, R1.n0, em, s_copyTree (a := 20) (h1 := rfl) (hcl := hcl), u4020_0, u4020_1, u4020_2, u4020_5, u4020_8, u4020_9, u4020_10, u4020_11, u4020_14, u4020_15, u4020_18, u4020_19, u4020_20, u4020_23, u4020_26, u4020_27, u4020_28, u4020_31, u4020_32, u4020_35, u4020_36, u4020_37, u4020_40, u4020_43, u4020_44, u4020_47, u4020_48, u4020_49, u4020_52, u4020_55, u4020_58, u4020_59, u4020_63, u4020_65, u4020_68, u4020_69, u4020_72, u4020_74, u4020_77, u4020_80, u4020_81, u4020_83, u4020_84, u4020_87, u4020_88, u4020_91, u4020_94, u4020_95, u4020_96, u4020_99, u4020_102, u4020_105, u4020_106, u4020_109, u4020_110, u4020_111, u4020_112, u4020_113, u4020_116, u4020_119, u4020_122, u4020_123, u4020_125, u4020_128, u4020_129, u4020_130, u4020_133, u4020_136, u4020_137, ob_3, gt_3_0, ob_4, gt_4_0, gt_3_1, gt_3_3, ob_13, gt_3_2, gt_17_2, ob_17, gt_17_4, gt_17_5, ki_0, ki_1, ki_60, af_x hd_4020, decide_eq_true_eq, if_true, if_false, f2_ne, f2_eq, up_ne, up_eq, kc_int, kc_ref, kc_retAddr, kc_long, kc_double, af_n, af_v, z0, z1, n_of, nz6, nz4, bI_T, bI_F, bI_01, n_lt, n_le, n_eq, n_add, n_mul, n_sub, n_clamp, n_vp, m_lt, m_le, m_eq, m_eq2, m_ltm, m_add, true_and, and_true, eq_self, if_pos, if_neg, List.length_nil, List.length_cons, Nat.reduceAdd, Nat.reduceLeDiff, Nat.zero_le, not_true_eq_false, not_false_eq_true, true_or, or_true]
  · refine ⟨F, A1, fun P => ?_, R1, f1⟩
    rw [c4020, bI_f (fun z => e z.1)]
    simp (disch := omega) only [e1, bI_f e, u4020_0, u4020_1, u4020_2, u4020_5, u4020_8, u4020_9, u4020_10, u4020_11, u4020_14, u4020_15, u4020_18, u4020_19, u4020_20, u4020_23, u4020_26, u4020_27, u4020_28, u4020_31, u4020_32, u4020_35, u4020_36, u4020_37, u4020_40, u4020_43, u4020_44, u4020_47, u4020_48, u4020_49, u4020_52, u4020_55, u4020_58, u4020_59, u4020_63, u4020_65, u4020_68, u4020_69, u4020_72, u4020_74, u4020_77, u4020_80, u4020_81, u4020_83, u4020_84, u4020_87, u4020_88, u4020_91, u4020_94, u4020_95, u4020_96, u4020_99, u4020_102, u4020_105, u4020_106, u4020_109, u4020_110, u4020_111, u4020_112, u4020_113, u4020_116, u4020_119, u4020_122, u4020_123, u4020_125, u4020_128, u4020_129, u4020_130, u4020_133, u4020_136, u4020_137, ob_3, gt_3_0, ob_4, gt_4_0, gt_3_1, gt_3_3, ob_13, gt_3_2, gt_17_2, ob_17, gt_17_4, gt_17_5, ki_0, ki_1, ki_60, af_x hd_4020, decide_eq_true_eq, if_true, if_false, f2_ne, f2_eq, up_ne, up_eq, kc_int, kc_ref, kc_retAddr, kc_long, kc_double, af_n, af_v, z0, z1, n_of, nz6, nz4, bI_T, bI_F, bI_01, n_lt, n_le, n_eq, n_add, n_mul, n_sub, n_clamp, n_vp, m_lt, m_le, m_eq, m_eq2, m_ltm, m_add, true_and, and_true, eq_self, if_pos, if_neg, List.length_nil, List.length_cons, Nat.reduceAdd, Nat.reduceLeDiff, Nat.zero_le, not_true_eq_false, not_false_eq_true, true_or, or_true]
noncomputable def rpl (Z : Nat → Prop) : Nat → Nat → Ab → Nat → Ab × Nat
  | 0, _, S, m => (S, m)
  | k + 1, i, S, m => @ite _ (Z i) (Classical.propDecidable _) (if cnt (kB (fromT S i 0) (toT S i 0) S.W) 24 = 0 then rpl Z k (i + 1) S m else rpl Z k (i + 1) (addC (takeS S (fromT S i 0) (toT S i 0) S.W) 0) (m + 1)) (rpl Z k (i + 1) S m)
/-- what was there before is as it was -/
def agr (S0 S : Ab) : Prop := S0.n ≤ S.n ∧ ∀ c, c < S0.n → S.p c = S0.p c ∧ S.T c = S0.T c
theorem agr_from {S0 S : Ab} (h : wS S0) (a : agr S0 S) {i : Nat} (hi : i < S0.n) (h0 : i ≠ 0) : fromT S i 0 = fromT S0 i 0 ∧ toT S i 0 = toT S0 i 0 := by
  have h1 := h.root i hi h0
  have h2 := (h.par i hi).1
  have h3 := a.2 i hi
  have h4 := a.2 (S0.p i - 1) (by omega)
  refine ⟨?_, h3.2⟩
  show S.T (S.p i - 1) = S0.T (S0.p i - 1)
  rw [h3.1, h4.2]
theorem agr_add {S0 S : Ab} (a : agr S0 S) {o w t : Nat → Nat} : agr S0 (addC (takeS S o w t) 0) := by
  refine ⟨Nat.le_succ_of_le a.1, fun c hc => ?_⟩
  have h1 := a.1
  have h2 := a.2 c hc
  refine ⟨?_, ?_⟩
  · show va_up S.p S.n _ c = S0.p c
    rw [up_ne (by omega), h2.1]
  · show va_up S.T S.n _ c = S0.T c
    rw [up_ne (by omega), h2.2]
theorem addC_W {S : Ab} {v : Nat} : (addC S v).W = S.W := by
  show va_up S.T S.n S.W S.n = S.W
  rw [up_eq]
theorem l_doReplay {S0 : Ab} (h0 : wS S0) (hcl : 70 < cl) (hZ : ∀ x, Z x → x < S0.n ∧ x ≠ 0) {b c : Nat} : ∀ (k i made : Nat) (S : Ab) (F A : Nat → Nat → Int32), k + i = 60 → cR F A 4 S → wS S → agr S0 S → trOk S0 Z k i S.W S.n → A 22 = ind Z g → ∃ F2 A2, (∀ P, am_g (d + 3) X am_m4021 38 [.ref 3, .int (nI b), .int (nI made), .int (nI c), .int (nI i)] [] (am_Z cl sl F A L) P = P (.inl (some (.int (nI (rpl Z k i S made).2)))) (am_Z cl sl F2 A2 L)) ∧ cR F2 A2 4 (rpl Z k i S made).1 ∧ wS (rpl Z k i S made).1 ∧ Fr F A F2 A2 := by
  intro k
  induction k with
  | zero =>
    intro i made S F A hi R h _ _ _
    obtain rfl : i = 60 := by omega
    refine ⟨F, A, fun P => ?_, R, h, Fr_id⟩
    rw [u4021_38]
    simp (disch := omega) only [rpl, u4021_0, u4021_1, u4021_2, u4021_3, u4021_6, u4021_7, u4021_10, u4021_11, u4021_12, u4021_15, u4021_16, u4021_19, u4021_20, u4021_21, u4021_24, u4021_27, u4021_28, u4021_31, u4021_32, u4021_35, u4021_36, u4021_40, u4021_42, u4021_45, u4021_46, u4021_49, u4021_51, u4021_54, u4021_57, u4021_58, u4021_60, u4021_61, u4021_64, u4021_65, u4021_68, u4021_71, u4021_74, u4021_75, u4021_78, u4021_79, u4021_82, u4021_83, u4021_86i, u4021_86r, u4021_87, u4021_90, u4021_93, u4021_96, u4021_97, gt_3_0, ob_4, gt_3_1, gt_3_3, ob_13, ob_3, gt_3_2, gt_17_4, ki_m1, ki_0, ki_1, ki_60, af_x hd_4021, decide_eq_true_eq, if_true, if_false, f2_ne, f2_eq, up_ne, up_eq, kc_int, kc_ref, kc_retAddr, kc_long, kc_double, af_n, af_v, z0, z1, n_of, nz6, nz4, bI_T, bI_F, bI_01, n_lt, n_le, n_eq, n_add, n_mul, n_sub, n_clamp, n_vp, m_lt, m_le, m_eq, m_eq2, m_ltm, m_add, true_and, and_true, eq_self, if_pos, if_neg, List.length_nil, List.length_cons, Nat.reduceAdd, Nat.reduceLeDiff, Nat.zero_le, not_true_eq_false, not_false_eq_true, true_or, or_true]
  | succ k ih =>
    intro i made S F A hi R h ag ht h22
    have i6 : i < 60 := by omega
    have em : ∀ {d : Nat} {Q : am_Q}, am_Ca X (d + 1) 1015 [.ref 22, .int (nI i)] (am_Z cl sl F A L) Q = Q (.inl (some (.int (bI (Z i))))) (am_Z cl sl F A L) := fun {d} {Q} => s_marked (by decide) rfl i6 h22
    unfold trOk at ht
    by_cases hz : Z i
    · rw [if_pos hz] at ht
      obtain ⟨hin0, hi0⟩ := hZ i hz
      have hin : i < S.n := Nat.lt_of_lt_of_le hin0 ag.1
      obtain ⟨q1, q2⟩ := agr_from h0 ag hin0 hi0
      rw [← q1, ← q2] at ht
      obtain ⟨F2, A2, e2, m, R2, f2, g2⟩ := r_withWork (d := d) (X := X) (cl := cl) (sl := sl) (L := L) R h hin hi0 (k := 0) (by decide) hcl
      have c1 := cnt_le (kB (fromT S i 0) (toT S i 0) S.W) 24
      by_cases hc : cnt (kC (fromT S i 0) (toT S i 0) S.W) 24 = 0
      · rw [if_pos hc] at ht
        unfold rpl
        rw [if_pos hz]
        by_cases hb : cnt (kB (fromT S i 0) (toT S i 0) S.W) 24 = 0
        · rw [if_pos hb] at ht
          rw [if_pos hb]
          obtain ⟨F3, A3, e3, R3, h3, f3⟩ := ih (i + 1) made S F2 A2 (by omega) R2 h ag ht (by rw [g2, h22])
          refine ⟨F3, A3, fun P => ?_, R3, h3, Fr_tr f2 f3⟩
          refine Eq.trans ?_ (e3 P)
          rw [u4021_38]
          simp (disch := omega) only [em, bI_t hz, e2, m.b, hb, u4021_0, u4021_1, u4021_2, u4021_3, u4021_6, u4021_7, u4021_10, u4021_11, u4021_12, u4021_15, u4021_16, u4021_19, u4021_20, u4021_21, u4021_24, u4021_27, u4021_28, u4021_31, u4021_32, u4021_35, u4021_36, u4021_40, u4021_42, u4021_45, u4021_46, u4021_49, u4021_51, u4021_54, u4021_57, u4021_58, u4021_60, u4021_61, u4021_64, u4021_65, u4021_68, u4021_71, u4021_74, u4021_75, u4021_78, u4021_79, u4021_82, u4021_83, u4021_86i, u4021_86r, u4021_87, u4021_90, u4021_93, u4021_96, u4021_97, gt_3_0, ob_4, gt_3_1, gt_3_3, ob_13, ob_3, gt_3_2, gt_17_4, ki_m1, ki_0, ki_1, ki_60, af_x hd_4021, decide_eq_true_eq, if_true, if_false, f2_ne, f2_eq, up_ne, up_eq, kc_int, kc_ref, kc_retAddr, kc_long, kc_double, af_n, af_v, z0, z1, n_of, nz6, nz4, bI_T, bI_F, bI_01, n_lt, n_le, n_eq, n_add, n_mul, n_sub, n_clamp, n_vp, m_lt, m_le, m_eq, m_eq2, m_ltm, m_add, true_and, and_true, eq_self, if_pos, if_neg, List.length_nil, List.length_cons, Nat.reduceAdd, Nat.reduceLeDiff, Nat.zero_le, not_true_eq_false, not_false_eq_true, true_or, or_true]
        · rw [if_neg hb] at ht
          rw [if_neg hb]
          by_cases hr : S.n + 1 ≤ 60
          · rw [if_pos hr] at ht
            have R4 := cR_take R2 m
            have h4 := wS_take (o := fromT S i 0) (w := toT S i 0) (t := S.W) h (toT_lt h hin hi0) h.Wv
            have hn4 : (takeS S (fromT S i 0) (toT S i 0) S.W).n < 60 := hr
            have R5 := cR_addC R4 h4 hn4 (Nat.zero_le _)
            have h5 := wS_addC (v := 0) h4 hn4 (Nat.zero_le _)
            have et : trOk S0 Z k (i + 1) (addC (takeS S (fromT S i 0) (toT S i 0) S.W) 0).W (addC (takeS S (fromT S i 0) (toT S i 0) S.W) 0).n := by
              rw [addC_W]
              exact ht
            obtain ⟨F3, A3, e3, R3, h3, f3⟩ := ih (i + 1) (made + 1) _ _ _ (by omega) R5 h5 (agr_add ag) et (by
              rw [show ∀ (n b h : Nat) (v : Int32), kcA (tkA A2) n b h v 22 = A2 22 from fun n b h v => by simp [kcA, ksA, tkA, am_f2, va_up], g2, h22])
            refine ⟨F3, A3, fun P => ?_, R3, h3, Fr_tr f2 (Fr_tr Fr_take (Fr_tr Fr_addC f3))⟩
            refine Eq.trans ?_ (e3 P)
            rw [u4021_38]
            have ea := fun {d : Nat} {Q : am_Q} {v : Int32} => q_addC (d := d) (X := X) (cl := cl) (sl := sl) (L := L) (P := Q) (v := v) R4 h4 hn4 hcl
            simp (disch := omega) only [em, bI_t hz, e2, m.b, s_take hcl, ea, pk_0, u4021_0, u4021_1, u4021_2, u4021_3, u4021_6, u4021_7, u4021_10, u4021_11, u4021_12, u4021_15, u4021_16, u4021_19, u4021_20, u4021_21, u4021_24, u4021_27, u4021_28, u4021_31, u4021_32, u4021_35, u4021_36, u4021_40, u4021_42, u4021_45, u4021_46, u4021_49, u4021_51, u4021_54, u4021_57, u4021_58, u4021_60, u4021_61, u4021_64, u4021_65, u4021_68, u4021_71, u4021_74, u4021_75, u4021_78, u4021_79, u4021_82, u4021_83, u4021_86i, u4021_86r, u4021_87, u4021_90, u4021_93, u4021_96, u4021_97, gt_3_0, ob_4, gt_3_1, gt_3_3, ob_13, ob_3, gt_3_2, gt_17_4, ki_m1, ki_0, ki_1, ki_60, af_x hd_4021, decide_eq_true_eq, if_true, if_false, f2_ne, f2_eq, up_ne, up_eq, kc_int, kc_ref, kc_retAddr, kc_long, kc_double, af_n, af_v, z0, z1, n_of, nz6, nz4, bI_T, bI_F, bI_01, n_lt, n_le, n_eq, n_add, n_mul, n_sub, n_clamp, n_vp, m_lt, m_le, m_eq, m_eq2, m_ltm, m_add, true_and, and_true, eq_self, if_pos, if_neg, List.length_nil, List.length_cons, Nat.reduceAdd, Nat.reduceLeDiff, Nat.zero_le, not_true_eq_false, not_false_eq_true, true_or, or_true]
          · rw [if_neg hr] at ht
            exact ht.elim
      · rw [if_neg hc] at ht
        exact ht.elim
    · rw [if_neg hz] at ht
      unfold rpl
      rw [if_neg hz]
      obtain ⟨F3, A3, e3, R3, h3, f3⟩ := ih (i + 1) made S F A (by omega) R h ag ht h22
      refine ⟨F3, A3, fun P => ?_, R3, h3, f3⟩
      refine Eq.trans ?_ (e3 P)
      rw [u4021_38]
      simp (disch := omega) only [em, bI_f hz, u4021_0, u4021_1, u4021_2, u4021_3, u4021_6, u4021_7, u4021_10, u4021_11, u4021_12, u4021_15, u4021_16, u4021_19, u4021_20, u4021_21, u4021_24, u4021_27, u4021_28, u4021_31, u4021_32, u4021_35, u4021_36, u4021_40, u4021_42, u4021_45, u4021_46, u4021_49, u4021_51, u4021_54, u4021_57, u4021_58, u4021_60, u4021_61, u4021_64, u4021_65, u4021_68, u4021_71, u4021_74, u4021_75, u4021_78, u4021_79, u4021_82, u4021_83, u4021_86i, u4021_86r, u4021_87, u4021_90, u4021_93, u4021_96, u4021_97, gt_3_0, ob_4, gt_3_1, gt_3_3, ob_13, ob_3, gt_3_2, gt_17_4, ki_m1, ki_0, ki_1, ki_60, af_x hd_4021, decide_eq_true_eq, if_true, if_false, f2_ne, f2_eq, up_ne, up_eq, kc_int, kc_ref, kc_retAddr, kc_long, kc_double, af_n, af_v, z0, z1, n_of, nz6, nz4, bI_T, bI_F, bI_01, n_lt, n_le, n_eq, n_add, n_mul, n_sub, n_clamp, n_vp, m_lt, m_le, m_eq, m_eq2, m_ltm, m_add, true_and, and_true, eq_self, if_pos, if_neg, List.length_nil, List.length_cons, Nat.reduceAdd, Nat.reduceLeDiff, Nat.zero_le, not_true_eq_false, not_false_eq_true, true_or, or_true]
noncomputable def repS (S : Ab) (b : Nat) : Ab × Nat := rpl (rpZ S (S.br b - 1)) 60 0 (stand S (S.br b - 1)) 0
theorem r_doReplay (R : cR F A 4 S) (h : wS S) {b : Nat} (hb : b < 6) (hm : mayR S b) (hcl : 70 < cl) : ∃ F2 A2, (∀ P, am_Ca X (d + 5) 4021 [.ref 3, .int (nI b)] (am_Z cl sl F A L) P = P (.inl (some (.int (nI (repS S b).2)))) (am_Z cl sl F2 A2 L)) ∧ cR F2 A2 4 (repS S b).1 ∧ wS (repS S b).1 ∧ Fr F A F2 A2 := by
  have h0 := hm.1.1
  have hc := br_n h hb h0
  have h6 := h.n60
  have R2 : cR F (rpA A (Re S.p S.q (S.br b - 1)) (rpZ S (S.br b - 1))) 4 S := cR_scr (cR_scr R (by omega)) (by omega)
  have R3 := cR_stand R2 h hc
  have h3 := wS_stand h hc
  obtain ⟨F4, A4, e4, R4, h4, f4⟩ := l_doReplay (d := d + 1) (X := X) (cl := cl) (sl := sl) (L := L) (Z := rpZ S (S.br b - 1)) (g := A 22) (b := b) (c := S.br b - 1) h hcl (rpZ_in h hc) 60 0 0 (stand S (S.br b - 1)) _ _ rfl R3 h3 ⟨Nat.le_refl _, fun c hc => ⟨rfl, rfl⟩⟩ hm.2 (by
    rw [show ∀ (A : Nat → Nat → Int32) (b c : Nat), ksA A b c 22 = A 22 from fun A b c => by simp [ksA, am_f2, va_up]]
    unfold rpA rcA
    rw [up_eq])
  refine ⟨F4, A4, fun P => ?_, R4, h4, Fr_tr (Fr_tr (Fr_tr (Fr_up (o := 14) (by omega)) (Fr_up (o := 22) (by omega))) Fr_stand) f4⟩
  refine Eq.trans ?_ (e4 P)
  rw [c4021]
  have em : ∀ {Q : am_Q}, am_Ca X (d + 3 + 1) 1014 [.ref 13, .ref 4, .int (nI (S.br b - 1)), .ref 22] (am_Z cl sl F A L) Q = Q (.inl none) (am_Z cl sl F (rpA A (Re S.p S.q (S.br b - 1)) (rpZ S (S.br b - 1))) L) := fun {Q} => s_markReplayed (d := d + 1) R.n0 h6 (wf_of R h) hc R.cu h.cur6 (q_h8 R h) (hd_n h)
  simp (disch := omega) only [q_commitOf R hb, pk_p _ h0, em, q_stand R2 h hc hcl, u4021_0, u4021_1, u4021_2, u4021_3, u4021_6, u4021_7, u4021_10, u4021_11, u4021_12, u4021_15, u4021_16, u4021_19, u4021_20, u4021_21, u4021_24, u4021_27, u4021_28, u4021_31, u4021_32, u4021_35, u4021_36, u4021_40, u4021_42, u4021_45, u4021_46, u4021_49, u4021_51, u4021_54, u4021_57, u4021_58, u4021_60, u4021_61, u4021_64, u4021_65, u4021_68, u4021_71, u4021_74, u4021_75, u4021_78, u4021_79, u4021_82, u4021_83, u4021_86i, u4021_86r, u4021_87, u4021_90, u4021_93, u4021_96, u4021_97, gt_3_0, ob_4, gt_3_1, gt_3_3, ob_13, ob_3, gt_3_2, gt_17_4, ki_m1, ki_0, ki_1, ki_60, af_x hd_4021, decide_eq_true_eq, if_true, if_false, f2_ne, f2_eq, up_ne, up_eq, kc_int, kc_ref, kc_retAddr, kc_long, kc_double, af_n, af_v, z0, z1, n_of, nz6, nz4, bI_T, bI_F, bI_01, n_lt, n_le, n_eq, n_add, n_mul, n_sub, n_clamp, n_vp, m_lt, m_le, m_eq, m_eq2, m_ltm, m_add, true_and, and_true, eq_self, if_pos, if_neg, List.length_nil, List.length_cons, Nat.reduceAdd, Nat.reduceLeDiff, Nat.zero_le, not_true_eq_false, not_false_eq_true, true_or, or_true]
end RR
