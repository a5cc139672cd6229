/-! THE MODEL: steps from a commit, the fewest or the most -/
def hig (st : Nat → Nat) (z v : Nat) : Nat → Nat := if z ≠ 0 ∧ (st (z - 1) = 0 ∨ st (z - 1) < v) then va_up st (z - 1) v else st
def stp (w : Nat) (st : Nat → Nat) (z v : Nat) : Nat → Nat := if w = 1 then low st z v else hig st z v
def fwG (w : Nat) (p q : Nat → Nat) : Nat → (Nat → Nat) → Nat → Nat
  | 0, st => st
  | c + 1, st => fwG w p q c (if st (c + 1) = 0 then st else stp w (stp w st (p (c + 1)) (st (c + 1) + 1)) (q (c + 1)) (st (c + 1) + 1))
theorem stp_ne {w z v x : Nat} {st : Nat → Nat} (h : z ≤ x) : stp w st z v x = st x := by
  unfold stp
  split
  · exact low_ne h
  · unfold hig
    split
    · have h0 := (‹z ≠ 0 ∧ _›).1
      rw [up_ne (by omega)]
    · rfl
theorem stp_B {w z v : Nat} {st : Nat → Nat} (h : ∀ x, x < 60 → st x + x ≤ 60) (hv : z ≠ 0 → v + (z - 1) ≤ 60) : ∀ x, x < 60 → stp w st z v x + x ≤ 60 := by
  unfold stp
  split
  · exact low_B h hv
  · unfold hig
    split
    · have h0 := (‹z ≠ 0 ∧ _›).1
      intro x hx
      by_cases e : x = z - 1
      · subst e; rw [up_eq]; exact hv h0
      · rw [up_ne e]; exact h x hx
    · exact h
def pkn (st : Nat → Nat) (i : Nat) (g : Nat → Int32) : Nat → Int32 := fun x => if x < i then pk (st x) else g x
theorem pkn_s {st : Nat → Nat} {i : Nat} {g : Nat → Int32} : va_up (pkn st i g) i (pk (st i)) = pkn st (i + 1) g := by
  funext x
  by_cases e : x = i
  · subst e; rw [up_eq]; unfold pkn; rw [if_pos (by omega)]
  · rw [up_ne e]
    unfold pkn
    by_cases h : x < i
    · rw [if_pos h, if_pos (by omega)]
    · rw [if_neg h, if_neg (by omega)]
theorem pkn_0 {st : Nat → Nat} {g : Nat → Int32} : pkn st 0 g = g := by
  funext x
  exact if_neg (by omega)
section QC
variable {d cl sl m t : Nat} {X : am_X} {F A : Nat → Nat → Int32} {L L2 : Nat → Nat → Int64} {P : am_Q} {S : Ab} {G : Fu}
theorem l_w1 {f w : Nat} {v4 v5 v6 : Value} {g : Nat → Int32} (hf : f < 60) : ∀ (k i : Nat), i + k = 60 → am_g d X am_m7113 2 [.ref 70, .int (nI f), .int (nI w), .int (nI i), v4, v5, v6] [] (am_Z cl sl F (va_up A 77 (pkn (st0 f) i g)) L) P = am_g d X am_m7113 30 [.ref 70, .int (nI f), .int (nI w), .int (nI 60), v4, v5, v6] [] (am_Z cl sl F (va_up A 77 (pkr (st0 f) g)) L) P := by
  intro k
  induction k with
  | zero =>
    intro i hi
    obtain rfl : i = 60 := by omega
    rw [u7113_2]
    simp (disch := omega) only [u7113_0, u7113_1, u7113_3, u7113_5, u7113_8, u7113_9, u7113_12, u7113_13, u7113_14, u7113_15, u7113_18, u7113_19, u7113_22, u7113_23, u7113_24, u7113_27, u7113_31, u7113_32, u7113_33, u7113_36, u7113_37, u7113_41, u7113_42, u7113_45, u7113_46, u7113_49, u7113_50, u7113_51, u7113_54, u7113_55, u7113_58, u7113_60, u7113_63, u7113_66, u7113_69, u7113_72, u7113_73, u7113_74, u7113_75, u7113_76, u7113_77, u7113_79, u7113_81, u7113_84, u7113_85, u7113_88, u7113_90, u7113_91, u7113_94, u7113_95, u7113_98, u7113_99, u7113_102, u7113_103, u7113_104, u7113_105, u7113_106, u7113_107, u7113_110, u7113_112, u7113_113, u7113_116, u7113_119, u7113_120, u7113_123, u7113_124, u7113_125, u7113_126, u7113_127, u7113_128, u7113_131, u7113_133, u7113_134, u7113_137, u7113_138, u7113_141, u7113_142, u7113_144, u7113_146, u7113_149, u7113_150, u7113_153, u7113_155, u7113_156, u7113_159, u7113_160, u7113_161, u7113_162, u7113_163, u7113_164, u7113_167, u7113_170, u7113_173, u7113_176, gt_70_16, gt_70_0, xl_71, xs_71, xl_77, xs_77, ki_m1, ki_0, ki_1, ki_1440, ki_1500, ki_2, ki_60, af_x hd_7113, decide_eq_true_eq, if_true, if_false, f2_ne, f2_eq, up_ne, up_eq, kc_int, kc_ref, kc_retAddr, kc_long, kc_double, af_n, af_v, z0, z1, n_of, nz6, nz4, bI_T, bI_F, bI_01, n_lt, n_le, n_eq, n_add, n_mul, n_sub, n_clamp, n_vp, m_lt, m_le, m_eq, m_eq2, m_ltm, m_add, true_and, and_true, eq_self, if_pos, if_neg, List.length_nil, List.length_cons, Nat.reduceAdd, Nat.reduceLeDiff, Nat.zero_le, not_true_eq_false, not_false_eq_true, true_or, or_true]
    rfl
  | succ k ih =>
    intro i hi
    have h2 := ih (i + 1) (by omega)
    rw [← pkn_s] at h2
    rw [u7113_2]
    by_cases e : i = f
    · have e1 : pk (st0 f i) = nI 0 := by
        rw [e]
        unfold st0
        rw [up_eq]
        rfl
      rw [e1] at h2
      simp (disch := omega) only [e, f2_up, u7113_0, u7113_1, u7113_3, u7113_5, u7113_8, u7113_9, u7113_12, u7113_13, u7113_14, u7113_15, u7113_18, u7113_19, u7113_22, u7113_23, u7113_24, u7113_27, u7113_31, u7113_32, u7113_33, u7113_36, u7113_37, u7113_41, u7113_42, u7113_45, u7113_46, u7113_49, u7113_50, u7113_51, u7113_54, u7113_55, u7113_58, u7113_60, u7113_63, u7113_66, u7113_69, u7113_72, u7113_73, u7113_74, u7113_75, u7113_76, u7113_77, u7113_79, u7113_81, u7113_84, u7113_85, u7113_88, u7113_90, u7113_91, u7113_94, u7113_95, u7113_98, u7113_99, u7113_102, u7113_103, u7113_104, u7113_105, u7113_106, u7113_107, u7113_110, u7113_112, u7113_113, u7113_116, u7113_119, u7113_120, u7113_123, u7113_124, u7113_125, u7113_126, u7113_127, u7113_128, u7113_131, u7113_133, u7113_134, u7113_137, u7113_138, u7113_141, u7113_142, u7113_144, u7113_146, u7113_149, u7113_150, u7113_153, u7113_155, u7113_156, u7113_159, u7113_160, u7113_161, u7113_162, u7113_163, u7113_164, u7113_167, u7113_170, u7113_173, u7113_176, gt_70_16, gt_70_0, xl_71, xs_71, xl_77, xs_77, ki_m1, ki_0, ki_1, ki_1440, ki_1500, ki_2, ki_60, af_x hd_7113, decide_eq_true_eq, if_true, if_false, f2_ne, f2_eq, up_ne, up_eq, kc_int, kc_ref, kc_retAddr, kc_long, kc_double, af_n, af_v, z0, z1, n_of, nz6, nz4, bI_T, bI_F, bI_01, n_lt, n_le, n_eq, n_add, n_mul, n_sub, n_clamp, n_vp, m_lt, m_le, m_eq, m_eq2, m_ltm, m_add, true_and, and_true, eq_self, if_pos, if_neg, List.length_nil, List.length_cons, Nat.reduceAdd, Nat.reduceLeDiff, Nat.zero_le, not_true_eq_false, not_false_eq_true, true_or, or_true]
      rw [e] at h2
      exact h2
    · have e1 : pk (st0 f i) = m1 := by
        unfold st0
        rw [up_ne e]
        rfl
      rw [e1] at h2
      simp (disch := omega) only [e, f2_up, u7113_0, u7113_1, u7113_3, u7113_5, u7113_8, u7113_9, u7113_12, u7113_13, u7113_14, u7113_15, u7113_18, u7113_19, u7113_22, u7113_23, u7113_24, u7113_27, u7113_31, u7113_32, u7113_33, u7113_36, u7113_37, u7113_41, u7113_42, u7113_45, u7113_46, u7113_49, u7113_50, u7113_51, u7113_54, u7113_55, u7113_58, u7113_60, u7113_63, u7113_66, u7113_69, u7113_72, u7113_73, u7113_74, u7113_75, u7113_76, u7113_77, u7113_79, u7113_81, u7113_84, u7113_85, u7113_88, u7113_90, u7113_91, u7113_94, u7113_95, u7113_98, u7113_99, u7113_102, u7113_103, u7113_104, u7113_105, u7113_106, u7113_107, u7113_110, u7113_112, u7113_113, u7113_116, u7113_119, u7113_120, u7113_123, u7113_124, u7113_125, u7113_126, u7113_127, u7113_128, u7113_131, u7113_133, u7113_134, u7113_137, u7113_138, u7113_141, u7113_142, u7113_144, u7113_146, u7113_149, u7113_150, u7113_153, u7113_155, u7113_156, u7113_159, u7113_160, u7113_161, u7113_162, u7113_163, u7113_164, u7113_167, u7113_170, u7113_173, u7113_176, gt_70_16, gt_70_0, xl_71, xs_71, xl_77, xs_77, ki_m1, ki_0, ki_1, ki_1440, ki_1500, ki_2, ki_60, af_x hd_7113, decide_eq_true_eq, if_true, if_false, f2_ne, f2_eq, up_ne, up_eq, kc_int, kc_ref, kc_retAddr, kc_long, kc_double, af_n, af_v, z0, z1, n_of, nz6, nz4, bI_T, bI_F, bI_01, n_lt, n_le, n_eq, n_add, n_mul, n_sub, n_clamp, n_vp, m_lt, m_le, m_eq, m_eq2, m_ltm, m_add, true_and, and_true, eq_self, if_pos, if_neg, List.length_nil, List.length_cons, Nat.reduceAdd, Nat.reduceLeDiff, Nat.zero_le, not_true_eq_false, not_false_eq_true, true_or, or_true]
      exact h2
theorem l_w2_0 (R : mR (A 71) S) (h : wS S) {f w c : Nat} {st : Nat → Nat} {g : Nat → Int32} (hw : w < 2) (hc : c < S.n) (hs : st c ≠ 0) (hB : ∀ x, x < 60 → st x + x ≤ 60) {v5 v6 : Value} : ∃ u5 u6, ∀ P, am_g d X am_m7113 39 [.ref 70, .int (nI f), .int (nI w), .int (nI c), .int (nI 0), v5, v6] [] (am_Z cl sl F (va_up A 77 (pkr st g)) L) P = am_g d X am_m7113 39 [.ref 70, .int (nI f), .int (nI w), .int (nI c), .int (nI 1), u5, u6] [] (am_Z cl sl F (va_up A 77 (pkr (stp w st (S.p c) (st c + 1)) g)) L) P := by
  have h60 := h.n60
  have RP := R.p c hc
  have hz := (h.par c hc).1
  have ec : pkr st g c = nI (st c - 1) := by rw [pkr_at (by omega), pk_p _ hs]
  have hBc := hB c (by omega)
  by_cases y0 : S.p c = 0
  · have es : stp w st (S.p c) (st c + 1) = st := by
      unfold stp
      split
      · unfold low
        rw [if_neg (fun z => z.1 y0)]
      · unfold hig
        rw [if_neg (fun z => z.1 y0)]
    rw [es]
    refine ⟨.int m1, .int (nI 0), fun P => ?_⟩
    rw [u7113_39]
    simp (disch := omega) only [ec, RP, y0, pk_sub1, pk_0, u7113_0, u7113_1, u7113_2, u7113_3, u7113_5, u7113_8, u7113_9, u7113_12, u7113_13, u7113_14, u7113_15, u7113_18, u7113_19, u7113_22, u7113_23, u7113_24, u7113_27, u7113_30, u7113_31, u7113_32, u7113_33, u7113_36, u7113_37, u7113_41, u7113_42, u7113_45, u7113_46, u7113_49, u7113_50, u7113_51, u7113_54, u7113_55, u7113_58, u7113_60, u7113_63, u7113_66, u7113_69, u7113_72, u7113_73, u7113_74, u7113_75, u7113_76, u7113_77, u7113_79, u7113_81, u7113_84, u7113_85, u7113_88, u7113_90, u7113_91, u7113_94, u7113_95, u7113_98, u7113_99, u7113_102, u7113_103, u7113_104, u7113_105, u7113_106, u7113_107, u7113_110, u7113_112, u7113_113, u7113_116, u7113_119, u7113_120, u7113_123, u7113_124, u7113_125, u7113_126, u7113_127, u7113_128, u7113_131, u7113_133, u7113_134, u7113_137, u7113_138, u7113_141, u7113_142, u7113_144, u7113_146, u7113_149, u7113_150, u7113_153, u7113_155, u7113_156, u7113_159, u7113_160, u7113_161, u7113_162, u7113_163, u7113_164, u7113_167, u7113_170, u7113_173, u7113_176, gt_70_16, gt_70_0, xl_71, xs_71, xl_77, xs_77, ki_m1, ki_0, ki_1, ki_1440, ki_1500, ki_2, ki_60, af_x hd_7113, decide_eq_true_eq, if_true, if_false, f2_ne, f2_eq, up_ne, up_eq, kc_int, kc_ref, kc_retAddr, kc_long, kc_double, af_n, af_v, z0, z1, n_of, nz6, nz4, bI_T, bI_F, bI_01, n_lt, n_le, n_eq, n_add, n_mul, n_sub, n_clamp, n_vp, m_lt, m_le, m_eq, m_eq2, m_ltm, m_add, true_and, and_true, eq_self, if_pos, if_neg, List.length_nil, List.length_cons, Nat.reduceAdd, Nat.reduceLeDiff, Nat.zero_le, not_true_eq_false, not_false_eq_true, true_or, or_true]
  · have ez : pkr st g (S.p c - 1) = pk (st (S.p c - 1)) := pkr_at (by omega)
    have hBz := hB (S.p c - 1) (by omega)
    have ev : ∀ v, va_up (pkr st g) (S.p c - 1) (nI v) = pkr (va_up st (S.p c - 1) (v + 1)) g := fun v => by rw [← pk_s, pkr_up (by omega)]
    have e1 : st c - 1 + 1 = st c := by omega
    by_cases t0 : st (S.p c - 1) = 0
    · have es : stp w st (S.p c) (st c + 1) = va_up st (S.p c - 1) (st c + 1) := by
        unfold stp
        split
        · unfold low
          rw [if_pos ⟨y0, Or.inl t0⟩]
        · unfold hig
          rw [if_pos ⟨y0, Or.inl t0⟩]
      rw [es]
      refine ⟨.int (nI (S.p c - 1)), .int (nI 1), fun P => ?_⟩
      rw [u7113_39]
      simp (disch := omega) only [ec, RP, pk_sub1, pk_p _ y0, ez, t0, pk_0, e1, f2_up, ev, u7113_0, u7113_1, u7113_2, u7113_3, u7113_5, u7113_8, u7113_9, u7113_12, u7113_13, u7113_14, u7113_15, u7113_18, u7113_19, u7113_22, u7113_23, u7113_24, u7113_27, u7113_30, u7113_31, u7113_32, u7113_33, u7113_36, u7113_37, u7113_41, u7113_42, u7113_45, u7113_46, u7113_49, u7113_50, u7113_51, u7113_54, u7113_55, u7113_58, u7113_60, u7113_63, u7113_66, u7113_69, u7113_72, u7113_73, u7113_74, u7113_75, u7113_76, u7113_77, u7113_79, u7113_81, u7113_84, u7113_85, u7113_88, u7113_90, u7113_91, u7113_94, u7113_95, u7113_98, u7113_99, u7113_102, u7113_103, u7113_104, u7113_105, u7113_106, u7113_107, u7113_110, u7113_112, u7113_113, u7113_116, u7113_119, u7113_120, u7113_123, u7113_124, u7113_125, u7113_126, u7113_127, u7113_128, u7113_131, u7113_133, u7113_134, u7113_137, u7113_138, u7113_141, u7113_142, u7113_144, u7113_146, u7113_149, u7113_150, u7113_153, u7113_155, u7113_156, u7113_159, u7113_160, u7113_161, u7113_162, u7113_163, u7113_164, u7113_167, u7113_170, u7113_173, u7113_176, gt_70_16, gt_70_0, xl_71, xs_71, xl_77, xs_77, ki_m1, ki_0, ki_1, ki_1440, ki_1500, ki_2, ki_60, af_x hd_7113, decide_eq_true_eq, if_true, if_false, f2_ne, f2_eq, up_ne, up_eq, kc_int, kc_ref, kc_retAddr, kc_long, kc_double, af_n, af_v, z0, z1, n_of, nz6, nz4, bI_T, bI_F, bI_01, n_lt, n_le, n_eq, n_add, n_mul, n_sub, n_clamp, n_vp, m_lt, m_le, m_eq, m_eq2, m_ltm, m_add, true_and, and_true, eq_self, if_pos, if_neg, List.length_nil, List.length_cons, Nat.reduceAdd, Nat.reduceLeDiff, Nat.zero_le, not_true_eq_false, not_false_eq_true, true_or, or_true]
    · have ez2 : pkr st g (S.p c - 1) = nI (st (S.p c - 1) - 1) := by rw [ez, pk_p _ t0]
      by_cases ew : w = 1
      · subst ew
        by_cases lt : st c < st (S.p c - 1) - 1
        · have es : stp 1 st (S.p c) (st c + 1) = va_up st (S.p c - 1) (st c + 1) := by
            unfold stp low
            rw [if_pos rfl, if_pos ⟨y0, Or.inr (by omega)⟩]
          rw [es]
          refine ⟨.int (nI (S.p c - 1)), .int (nI 1), fun P => ?_⟩
          rw [u7113_39]
          simp (disch := omega) only [ec, RP, pk_sub1, pk_p _ y0, ez2, e1, f2_up, ev, lt, u7113_0, u7113_1, u7113_2, u7113_3, u7113_5, u7113_8, u7113_9, u7113_12, u7113_13, u7113_14, u7113_15, u7113_18, u7113_19, u7113_22, u7113_23, u7113_24, u7113_27, u7113_30, u7113_31, u7113_32, u7113_33, u7113_36, u7113_37, u7113_41, u7113_42, u7113_45, u7113_46, u7113_49, u7113_50, u7113_51, u7113_54, u7113_55, u7113_58, u7113_60, u7113_63, u7113_66, u7113_69, u7113_72, u7113_73, u7113_74, u7113_75, u7113_76, u7113_77, u7113_79, u7113_81, u7113_84, u7113_85, u7113_88, u7113_90, u7113_91, u7113_94, u7113_95, u7113_98, u7113_99, u7113_102, u7113_103, u7113_104, u7113_105, u7113_106, u7113_107, u7113_110, u7113_112, u7113_113, u7113_116, u7113_119, u7113_120, u7113_123, u7113_124, u7113_125, u7113_126, u7113_127, u7113_128, u7113_131, u7113_133, u7113_134, u7113_137, u7113_138, u7113_141, u7113_142, u7113_144, u7113_146, u7113_149, u7113_150, u7113_153, u7113_155, u7113_156, u7113_159, u7113_160, u7113_161, u7113_162, u7113_163, u7113_164, u7113_167, u7113_170, u7113_173, u7113_176, gt_70_16, gt_70_0, xl_71, xs_71, xl_77, xs_77, ki_m1, ki_0, ki_1, ki_1440, ki_1500, ki_2, ki_60, af_x hd_7113, decide_eq_true_eq, if_true, if_false, f2_ne, f2_eq, up_ne, up_eq, kc_int, kc_ref, kc_retAddr, kc_long, kc_double, af_n, af_v, z0, z1, n_of, nz6, nz4, bI_T, bI_F, bI_01, n_lt, n_le, n_eq, n_add, n_mul, n_sub, n_clamp, n_vp, m_lt, m_le, m_eq, m_eq2, m_ltm, m_add, true_and, and_true, eq_self, if_pos, if_neg, List.length_nil, List.length_cons, Nat.reduceAdd, Nat.reduceLeDiff, Nat.zero_le, not_true_eq_false, not_false_eq_true, true_or, or_true]
        · have es : stp 1 st (S.p c) (st c + 1) = st := by
            unfold stp low
            rw [if_pos rfl, if_neg (fun z => z.2.elim t0 (fun y => lt (by omega)))]
          rw [es]
          refine ⟨.int (nI (S.p c - 1)), .int (nI 0), fun P => ?_⟩
          rw [u7113_39]
          simp (disch := omega) only [ec, RP, pk_sub1, pk_p _ y0, ez2, e1, f2_up, ev, lt, u7113_0, u7113_1, u7113_2, u7113_3, u7113_5, u7113_8, u7113_9, u7113_12, u7113_13, u7113_14, u7113_15, u7113_18, u7113_19, u7113_22, u7113_23, u7113_24, u7113_27, u7113_30, u7113_31, u7113_32, u7113_33, u7113_36, u7113_37, u7113_41, u7113_42, u7113_45, u7113_46, u7113_49, u7113_50, u7113_51, u7113_54, u7113_55, u7113_58, u7113_60, u7113_63, u7113_66, u7113_69, u7113_72, u7113_73, u7113_74, u7113_75, u7113_76, u7113_77, u7113_79, u7113_81, u7113_84, u7113_85, u7113_88, u7113_90, u7113_91, u7113_94, u7113_95, u7113_98, u7113_99, u7113_102, u7113_103, u7113_104, u7113_105, u7113_106, u7113_107, u7113_110, u7113_112, u7113_113, u7113_116, u7113_119, u7113_120, u7113_123, u7113_124, u7113_125, u7113_126, u7113_127, u7113_128, u7113_131, u7113_133, u7113_134, u7113_137, u7113_138, u7113_141, u7113_142, u7113_144, u7113_146, u7113_149, u7113_150, u7113_153, u7113_155, u7113_156, u7113_159, u7113_160, u7113_161, u7113_162, u7113_163, u7113_164, u7113_167, u7113_170, u7113_173, u7113_176, gt_70_16, gt_70_0, xl_71, xs_71, xl_77, xs_77, ki_m1, ki_0, ki_1, ki_1440, ki_1500, ki_2, ki_60, af_x hd_7113, decide_eq_true_eq, if_true, if_false, f2_ne, f2_eq, up_ne, up_eq, kc_int, kc_ref, kc_retAddr, kc_long, kc_double, af_n, af_v, z0, z1, n_of, nz6, nz4, bI_T, bI_F, bI_01, n_lt, n_le, n_eq, n_add, n_mul, n_sub, n_clamp, n_vp, m_lt, m_le, m_eq, m_eq2, m_ltm, m_add, true_and, and_true, eq_self, if_pos, if_neg, List.length_nil, List.length_cons, Nat.reduceAdd, Nat.reduceLeDiff, Nat.zero_le, not_true_eq_false, not_false_eq_true, true_or, or_true]
      · obtain rfl : w = 0 := by omega
        by_cases lt : st (S.p c - 1) - 1 < st c
        · have es : stp 0 st (S.p c) (st c + 1) = va_up st (S.p c - 1) (st c + 1) := by
            unfold stp hig
            rw [if_neg (by decide), if_pos ⟨y0, Or.inr (by omega)⟩]
          rw [es]
          refine ⟨.int (nI (S.p c - 1)), .int (nI 1), fun P => ?_⟩
          rw [u7113_39]
          simp (disch := omega) only [ec, RP, pk_sub1, pk_p _ y0, ez2, e1, f2_up, ev, lt, u7113_0, u7113_1, u7113_2, u7113_3, u7113_5, u7113_8, u7113_9, u7113_12, u7113_13, u7113_14, u7113_15, u7113_18, u7113_19, u7113_22, u7113_23, u7113_24, u7113_27, u7113_30, u7113_31, u7113_32, u7113_33, u7113_36, u7113_37, u7113_41, u7113_42, u7113_45, u7113_46, u7113_49, u7113_50, u7113_51, u7113_54, u7113_55, u7113_58, u7113_60, u7113_63, u7113_66, u7113_69, u7113_72, u7113_73, u7113_74, u7113_75, u7113_76, u7113_77, u7113_79, u7113_81, u7113_84, u7113_85, u7113_88, u7113_90, u7113_91, u7113_94, u7113_95, u7113_98, u7113_99, u7113_102, u7113_103, u7113_104, u7113_105, u7113_106, u7113_107, u7113_110, u7113_112, u7113_113, u7113_116, u7113_119, u7113_120, u7113_123, u7113_124, u7113_125, u7113_126, u7113_127, u7113_128, u7113_131, u7113_133, u7113_134, u7113_137, u7113_138, u7113_141, u7113_142, u7113_144, u7113_146, u7113_149, u7113_150, u7113_153, u7113_155, u7113_156, u7113_159, u7113_160, u7113_161, u7113_162, u7113_163, u7113_164, u7113_167, u7113_170, u7113_173, u7113_176, gt_70_16, gt_70_0, xl_71, xs_71, xl_77, xs_77, ki_m1, ki_0, ki_1, ki_1440, ki_1500, ki_2, ki_60, af_x hd_7113, decide_eq_true_eq, if_true, if_false, f2_ne, f2_eq, up_ne, up_eq, kc_int, kc_ref, kc_retAddr, kc_long, kc_double, af_n, af_v, z0, z1, n_of, nz6, nz4, bI_T, bI_F, bI_01, n_lt, n_le, n_eq, n_add, n_mul, n_sub, n_clamp, n_vp, m_lt, m_le, m_eq, m_eq2, m_ltm, m_add, true_and, and_true, eq_self, if_pos, if_neg, List.length_nil, List.length_cons, Nat.reduceAdd, Nat.reduceLeDiff, Nat.zero_le, not_true_eq_false, not_false_eq_true, true_or, or_true]
        · have es : stp 0 st (S.p c) (st c + 1) = st := by
            unfold stp hig
            rw [if_neg (by decide), if_neg (fun z => z.2.elim t0 (fun y => lt (by omega)))]
          rw [es]
          refine ⟨.int (nI (S.p c - 1)), .int (nI 0), fun P => ?_⟩
          rw [u7113_39]
          simp (disch := omega) only [ec, RP, pk_sub1, pk_p _ y0, ez2, e1, f2_up, ev, lt, u7113_0, u7113_1, u7113_2, u7113_3, u7113_5, u7113_8, u7113_9, u7113_12, u7113_13, u7113_14, u7113_15, u7113_18, u7113_19, u7113_22, u7113_23, u7113_24, u7113_27, u7113_30, u7113_31, u7113_32, u7113_33, u7113_36, u7113_37, u7113_41, u7113_42, u7113_45, u7113_46, u7113_49, u7113_50, u7113_51, u7113_54, u7113_55, u7113_58, u7113_60, u7113_63, u7113_66, u7113_69, u7113_72, u7113_73, u7113_74, u7113_75, u7113_76, u7113_77, u7113_79, u7113_81, u7113_84, u7113_85, u7113_88, u7113_90, u7113_91, u7113_94, u7113_95, u7113_98, u7113_99, u7113_102, u7113_103, u7113_104, u7113_105, u7113_106, u7113_107, u7113_110, u7113_112, u7113_113, u7113_116, u7113_119, u7113_120, u7113_123, u7113_124, u7113_125, u7113_126, u7113_127, u7113_128, u7113_131, u7113_133, u7113_134, u7113_137, u7113_138, u7113_141, u7113_142, u7113_144, u7113_146, u7113_149, u7113_150, u7113_153, u7113_155, u7113_156, u7113_159, u7113_160, u7113_161, u7113_162, u7113_163, u7113_164, u7113_167, u7113_170, u7113_173, u7113_176, gt_70_16, gt_70_0, xl_71, xs_71, xl_77, xs_77, ki_m1, ki_0, ki_1, ki_1440, ki_1500, ki_2, ki_60, af_x hd_7113, decide_eq_true_eq, if_true, if_false, f2_ne, f2_eq, up_ne, up_eq, kc_int, kc_ref, kc_retAddr, kc_long, kc_double, af_n, af_v, z0, z1, n_of, nz6, nz4, bI_T, bI_F, bI_01, n_lt, n_le, n_eq, n_add, n_mul, n_sub, n_clamp, n_vp, m_lt, m_le, m_eq, m_eq2, m_ltm, m_add, true_and, and_true, eq_self, if_pos, if_neg, List.length_nil, List.length_cons, Nat.reduceAdd, Nat.reduceLeDiff, Nat.zero_le, not_true_eq_false, not_false_eq_true, true_or, or_true]
theorem l_w2_1 (R : mR (A 71) S) (h : wS S) {f w c : Nat} {st : Nat → Nat} {g : Nat → Int32} (hw : w < 2) (hc : c < S.n) (hs : st c ≠ 0) (hB : ∀ x, x < 60 → st x + x ≤ 60) {v5 v6 : Value} : ∃ u5 u6, ∀ P, am_g d X am_m7113 39 [.ref 70, .int (nI f), .int (nI w), .int (nI c), .int (nI 1), v5, v6] [] (am_Z cl sl F (va_up A 77 (pkr st g)) L) P = am_g d X am_m7113 39 [.ref 70, .int (nI f), .int (nI w), .int (nI c), .int (nI 2), u5, u6] [] (am_Z cl sl F (va_up A 77 (pkr (stp w st (S.q c) (st c + 1)) g)) L) P := by
  have h60 := h.n60
  have RP := R.q c hc
  have hz := (h.par c hc).2
  have ec : pkr st g c = nI (st c - 1) := by rw [pkr_at (by omega), pk_p _ hs]
  have hBc := hB c (by omega)
  by_cases y0 : S.q c = 0
  · have es : stp w st (S.q c) (st c + 1) = st := by
      unfold stp
      split
      · unfold low
        rw [if_neg (fun z => z.1 y0)]
      · unfold hig
        rw [if_neg (fun z => z.1 y0)]
    rw [es]
    refine ⟨.int m1, .int (nI 0), fun P => ?_⟩
    rw [u7113_39]
    simp (disch := omega) only [ec, RP, y0, pk_sub1, pk_0, u7113_0, u7113_1, u7113_2, u7113_3, u7113_5, u7113_8, u7113_9, u7113_12, u7113_13, u7113_14, u7113_15, u7113_18, u7113_19, u7113_22, u7113_23, u7113_24, u7113_27, u7113_30, u7113_31, u7113_32, u7113_33, u7113_36, u7113_37, u7113_41, u7113_42, u7113_45, u7113_46, u7113_49, u7113_50, u7113_51, u7113_54, u7113_55, u7113_58, u7113_60, u7113_63, u7113_66, u7113_69, u7113_72, u7113_73, u7113_74, u7113_75, u7113_76, u7113_77, u7113_79, u7113_81, u7113_84, u7113_85, u7113_88, u7113_90, u7113_91, u7113_94, u7113_95, u7113_98, u7113_99, u7113_102, u7113_103, u7113_104, u7113_105, u7113_106, u7113_107, u7113_110, u7113_112, u7113_113, u7113_116, u7113_119, u7113_120, u7113_123, u7113_124, u7113_125, u7113_126, u7113_127, u7113_128, u7113_131, u7113_133, u7113_134, u7113_137, u7113_138, u7113_141, u7113_142, u7113_144, u7113_146, u7113_149, u7113_150, u7113_153, u7113_155, u7113_156, u7113_159, u7113_160, u7113_161, u7113_162, u7113_163, u7113_164, u7113_167, u7113_170, u7113_173, u7113_176, gt_70_16, gt_70_0, xl_71, xs_71, xl_77, xs_77, ki_m1, ki_0, ki_1, ki_1440, ki_1500, ki_2, ki_60, af_x hd_7113, decide_eq_true_eq, if_true, if_false, f2_ne, f2_eq, up_ne, up_eq, kc_int, kc_ref, kc_retAddr, kc_long, kc_double, af_n, af_v, z0, z1, n_of, nz6, nz4, bI_T, bI_F, bI_01, n_lt, n_le, n_eq, n_add, n_mul, n_sub, n_clamp, n_vp, m_lt, m_le, m_eq, m_eq2, m_ltm, m_add, true_and, and_true, eq_self, if_pos, if_neg, List.length_nil, List.length_cons, Nat.reduceAdd, Nat.reduceLeDiff, Nat.zero_le, not_true_eq_false, not_false_eq_true, true_or, or_true]
  · have ez : pkr st g (S.q c - 1) = pk (st (S.q c - 1)) := pkr_at (by omega)
    have hBz := hB (S.q c - 1) (by omega)
    have ev : ∀ v, va_up (pkr st g) (S.q c - 1) (nI v) = pkr (va_up st (S.q c - 1) (v + 1)) g := fun v => by rw [← pk_s, pkr_up (by omega)]
    have e1 : st c - 1 + 1 = st c := by omega
    by_cases t0 : st (S.q c - 1) = 0
    · have es : stp w st (S.q c) (st c + 1) = va_up st (S.q c - 1) (st c + 1) := by
        unfold stp
        split
        · unfold low
          rw [if_pos ⟨y0, Or.inl t0⟩]
        · unfold hig
          rw [if_pos ⟨y0, Or.inl t0⟩]
      rw [es]
      refine ⟨.int (nI (S.q c - 1)), .int (nI 1), fun P => ?_⟩
      rw [u7113_39]
      simp (disch := omega) only [ec, RP, pk_sub1, pk_p _ y0, ez, t0, pk_0, e1, f2_up, ev, u7113_0, u7113_1, u7113_2, u7113_3, u7113_5, u7113_8, u7113_9, u7113_12, u7113_13, u7113_14, u7113_15, u7113_18, u7113_19, u7113_22, u7113_23, u7113_24, u7113_27, u7113_30, u7113_31, u7113_32, u7113_33, u7113_36, u7113_37, u7113_41, u7113_42, u7113_45, u7113_46, u7113_49, u7113_50, u7113_51, u7113_54, u7113_55, u7113_58, u7113_60, u7113_63, u7113_66, u7113_69, u7113_72, u7113_73, u7113_74, u7113_75, u7113_76, u7113_77, u7113_79, u7113_81, u7113_84, u7113_85, u7113_88, u7113_90, u7113_91, u7113_94, u7113_95, u7113_98, u7113_99, u7113_102, u7113_103, u7113_104, u7113_105, u7113_106, u7113_107, u7113_110, u7113_112, u7113_113, u7113_116, u7113_119, u7113_120, u7113_123, u7113_124, u7113_125, u7113_126, u7113_127, u7113_128, u7113_131, u7113_133, u7113_134, u7113_137, u7113_138, u7113_141, u7113_142, u7113_144, u7113_146, u7113_149, u7113_150, u7113_153, u7113_155, u7113_156, u7113_159, u7113_160, u7113_161, u7113_162, u7113_163, u7113_164, u7113_167, u7113_170, u7113_173, u7113_176, gt_70_16, gt_70_0, xl_71, xs_71, xl_77, xs_77, ki_m1, ki_0, ki_1, ki_1440, ki_1500, ki_2, ki_60, af_x hd_7113, decide_eq_true_eq, if_true, if_false, f2_ne, f2_eq, up_ne, up_eq, kc_int, kc_ref, kc_retAddr, kc_long, kc_double, af_n, af_v, z0, z1, n_of, nz6, nz4, bI_T, bI_F, bI_01, n_lt, n_le, n_eq, n_add, n_mul, n_sub, n_clamp, n_vp, m_lt, m_le, m_eq, m_eq2, m_ltm, m_add, true_and, and_true, eq_self, if_pos, if_neg, List.length_nil, List.length_cons, Nat.reduceAdd, Nat.reduceLeDiff, Nat.zero_le, not_true_eq_false, not_false_eq_true, true_or, or_true]
    · have ez2 : pkr st g (S.q c - 1) = nI (st (S.q c - 1) - 1) := by rw [ez, pk_p _ t0]
      by_cases ew : w = 1
      · subst ew
        by_cases lt : st c < st (S.q c - 1) - 1
        · have es : stp 1 st (S.q c) (st c + 1) = va_up st (S.q c - 1) (st c + 1) := by
            unfold stp low
            rw [if_pos rfl, if_pos ⟨y0, Or.inr (by omega)⟩]
          rw [es]
          refine ⟨.int (nI (S.q c - 1)), .int (nI 1), fun P => ?_⟩
          rw [u7113_39]
          simp (disch := omega) only [ec, RP, pk_sub1, pk_p _ y0, ez2, e1, f2_up, ev, lt, u7113_0, u7113_1, u7113_2, u7113_3, u7113_5, u7113_8, u7113_9, u7113_12, u7113_13, u7113_14, u7113_15, u7113_18, u7113_19, u7113_22, u7113_23, u7113_24, u7113_27, u7113_30, u7113_31, u7113_32, u7113_33, u7113_36, u7113_37, u7113_41, u7113_42, u7113_45, u7113_46, u7113_49, u7113_50, u7113_51, u7113_54, u7113_55, u7113_58, u7113_60, u7113_63, u7113_66, u7113_69, u7113_72, u7113_73, u7113_74, u7113_75, u7113_76, u7113_77, u7113_79, u7113_81, u7113_84, u7113_85, u7113_88, u7113_90, u7113_91, u7113_94, u7113_95, u7113_98, u7113_99, u7113_102, u7113_103, u7113_104, u7113_105, u7113_106, u7113_107, u7113_110, u7113_112, u7113_113, u7113_116, u7113_119, u7113_120, u7113_123, u7113_124, u7113_125, u7113_126, u7113_127, u7113_128, u7113_131, u7113_133, u7113_134, u7113_137, u7113_138, u7113_141, u7113_142, u7113_144, u7113_146, u7113_149, u7113_150, u7113_153, u7113_155, u7113_156, u7113_159, u7113_160, u7113_161, u7113_162, u7113_163, u7113_164, u7113_167, u7113_170, u7113_173, u7113_176, gt_70_16, gt_70_0, xl_71, xs_71, xl_77, xs_77, ki_m1, ki_0, ki_1, ki_1440, ki_1500, ki_2, ki_60, af_x hd_7113, decide_eq_true_eq, if_true, if_false, f2_ne, f2_eq, up_ne, up_eq, kc_int, kc_ref, kc_retAddr, kc_long, kc_double, af_n, af_v, z0, z1, n_of, nz6, nz4, bI_T, bI_F, bI_01, n_lt, n_le, n_eq, n_add, n_mul, n_sub, n_clamp, n_vp, m_lt, m_le, m_eq, m_eq2, m_ltm, m_add, true_and, and_true, eq_self, if_pos, if_neg, List.length_nil, List.length_cons, Nat.reduceAdd, Nat.reduceLeDiff, Nat.zero_le, not_true_eq_false, not_false_eq_true, true_or, or_true]
        · have es : stp 1 st (S.q c) (st c + 1) = st := by
            unfold stp low
            rw [if_pos rfl, if_neg (fun z => z.2.elim t0 (fun y => lt (by omega)))]
          rw [es]
          refine ⟨.int (nI (S.q c - 1)), .int (nI 0), fun P => ?_⟩
          rw [u7113_39]
          simp (disch := omega) only [ec, RP, pk_sub1, pk_p _ y0, ez2, e1, f2_up, ev, lt, u7113_0, u7113_1, u7113_2, u7113_3, u7113_5, u7113_8, u7113_9, u7113_12, u7113_13, u7113_14, u7113_15, u7113_18, u7113_19, u7113_22, u7113_23, u7113_24, u7113_27, u7113_30, u7113_31, u7113_32, u7113_33, u7113_36, u7113_37, u7113_41, u7113_42, u7113_45, u7113_46, u7113_49, u7113_50, u7113_51, u7113_54, u7113_55, u7113_58, u7113_60, u7113_63, u7113_66, u7113_69, u7113_72, u7113_73, u7113_74, u7113_75, u7113_76, u7113_77, u7113_79, u7113_81, u7113_84, u7113_85, u7113_88, u7113_90, u7113_91, u7113_94, u7113_95, u7113_98, u7113_99, u7113_102, u7113_103, u7113_104, u7113_105, u7113_106, u7113_107, u7113_110, u7113_112, u7113_113, u7113_116, u7113_119, u7113_120, u7113_123, u7113_124, u7113_125, u7113_126, u7113_127, u7113_128, u7113_131, u7113_133, u7113_134, u7113_137, u7113_138, u7113_141, u7113_142, u7113_144, u7113_146, u7113_149, u7113_150, u7113_153, u7113_155, u7113_156, u7113_159, u7113_160, u7113_161, u7113_162, u7113_163, u7113_164, u7113_167, u7113_170, u7113_173, u7113_176, gt_70_16, gt_70_0, xl_71, xs_71, xl_77, xs_77, ki_m1, ki_0, ki_1, ki_1440, ki_1500, ki_2, ki_60, af_x hd_7113, decide_eq_true_eq, if_true, if_false, f2_ne, f2_eq, up_ne, up_eq, kc_int, kc_ref, kc_retAddr, kc_long, kc_double, af_n, af_v, z0, z1, n_of, nz6, nz4, bI_T, bI_F, bI_01, n_lt, n_le, n_eq, n_add, n_mul, n_sub, n_clamp, n_vp, m_lt, m_le, m_eq, m_eq2, m_ltm, m_add, true_and, and_true, eq_self, if_pos, if_neg, List.length_nil, List.length_cons, Nat.reduceAdd, Nat.reduceLeDiff, Nat.zero_le, not_true_eq_false, not_false_eq_true, true_or, or_true]
      · obtain rfl : w = 0 := by omega
        by_cases lt : st (S.q c - 1) - 1 < st c
        · have es : stp 0 st (S.q c) (st c + 1) = va_up st (S.q c - 1) (st c + 1) := by
            unfold stp hig
            rw [if_neg (by decide), if_pos ⟨y0, Or.inr (by omega)⟩]
          rw [es]
          refine ⟨.int (nI (S.q c - 1)), .int (nI 1), fun P => ?_⟩
          rw [u7113_39]
          simp (disch := omega) only [ec, RP, pk_sub1, pk_p _ y0, ez2, e1, f2_up, ev, lt, u7113_0, u7113_1, u7113_2, u7113_3, u7113_5, u7113_8, u7113_9, u7113_12, u7113_13, u7113_14, u7113_15, u7113_18, u7113_19, u7113_22, u7113_23, u7113_24, u7113_27, u7113_30, u7113_31, u7113_32, u7113_33, u7113_36, u7113_37, u7113_41, u7113_42, u7113_45, u7113_46, u7113_49, u7113_50, u7113_51, u7113_54, u7113_55, u7113_58, u7113_60, u7113_63, u7113_66, u7113_69, u7113_72, u7113_73, u7113_74, u7113_75, u7113_76, u7113_77, u7113_79, u7113_81, u7113_84, u7113_85, u7113_88, u7113_90, u7113_91, u7113_94, u7113_95, u7113_98, u7113_99, u7113_102, u7113_103, u7113_104, u7113_105, u7113_106, u7113_107, u7113_110, u7113_112, u7113_113, u7113_116, u7113_119, u7113_120, u7113_123, u7113_124, u7113_125, u7113_126, u7113_127, u7113_128, u7113_131, u7113_133, u7113_134, u7113_137, u7113_138, u7113_141, u7113_142, u7113_144, u7113_146, u7113_149, u7113_150, u7113_153, u7113_155, u7113_156, u7113_159, u7113_160, u7113_161, u7113_162, u7113_163, u7113_164, u7113_167, u7113_170, u7113_173, u7113_176, gt_70_16, gt_70_0, xl_71, xs_71, xl_77, xs_77, ki_m1, ki_0, ki_1, ki_1440, ki_1500, ki_2, ki_60, af_x hd_7113, decide_eq_true_eq, if_true, if_false, f2_ne, f2_eq, up_ne, up_eq, kc_int, kc_ref, kc_retAddr, kc_long, kc_double, af_n, af_v, z0, z1, n_of, nz6, nz4, bI_T, bI_F, bI_01, n_lt, n_le, n_eq, n_add, n_mul, n_sub, n_clamp, n_vp, m_lt, m_le, m_eq, m_eq2, m_ltm, m_add, true_and, and_true, eq_self, if_pos, if_neg, List.length_nil, List.length_cons, Nat.reduceAdd, Nat.reduceLeDiff, Nat.zero_le, not_true_eq_false, not_false_eq_true, true_or, or_true]
        · have es : stp 0 st (S.q c) (st c + 1) = st := by
            unfold stp hig
            rw [if_neg (by decide), if_neg (fun z => z.2.elim t0 (fun y => lt (by omega)))]
          rw [es]
          refine ⟨.int (nI (S.q c - 1)), .int (nI 0), fun P => ?_⟩
          rw [u7113_39]
          simp (disch := omega) only [ec, RP, pk_sub1, pk_p _ y0, ez2, e1, f2_up, ev, lt, u7113_0, u7113_1, u7113_2, u7113_3, u7113_5, u7113_8, u7113_9, u7113_12, u7113_13, u7113_14, u7113_15, u7113_18, u7113_19, u7113_22, u7113_23, u7113_24, u7113_27, u7113_30, u7113_31, u7113_32, u7113_33, u7113_36, u7113_37, u7113_41, u7113_42, u7113_45, u7113_46, u7113_49, u7113_50, u7113_51, u7113_54, u7113_55, u7113_58, u7113_60, u7113_63, u7113_66, u7113_69, u7113_72, u7113_73, u7113_74, u7113_75, u7113_76, u7113_77, u7113_79, u7113_81, u7113_84, u7113_85, u7113_88, u7113_90, u7113_91, u7113_94, u7113_95, u7113_98, u7113_99, u7113_102, u7113_103, u7113_104, u7113_105, u7113_106, u7113_107, u7113_110, u7113_112, u7113_113, u7113_116, u7113_119, u7113_120, u7113_123, u7113_124, u7113_125, u7113_126, u7113_127, u7113_128, u7113_131, u7113_133, u7113_134, u7113_137, u7113_138, u7113_141, u7113_142, u7113_144, u7113_146, u7113_149, u7113_150, u7113_153, u7113_155, u7113_156, u7113_159, u7113_160, u7113_161, u7113_162, u7113_163, u7113_164, u7113_167, u7113_170, u7113_173, u7113_176, gt_70_16, gt_70_0, xl_71, xs_71, xl_77, xs_77, ki_m1, ki_0, ki_1, ki_1440, ki_1500, ki_2, ki_60, af_x hd_7113, decide_eq_true_eq, if_true, if_false, f2_ne, f2_eq, up_ne, up_eq, kc_int, kc_ref, kc_retAddr, kc_long, kc_double, af_n, af_v, z0, z1, n_of, nz6, nz4, bI_T, bI_F, bI_01, n_lt, n_le, n_eq, n_add, n_mul, n_sub, n_clamp, n_vp, m_lt, m_le, m_eq, m_eq2, m_ltm, m_add, true_and, and_true, eq_self, if_pos, if_neg, List.length_nil, List.length_cons, Nat.reduceAdd, Nat.reduceLeDiff, Nat.zero_le, not_true_eq_false, not_false_eq_true, true_or, or_true]
theorem l_walks (R : mR (A 71) S) (h : wS S) {f w : Nat} {g : Nat → Int32} (hw : w < 2) : ∀ (c : Nat) (st : Nat → Nat) (v4 v5 v6 : Value), c < S.n → (∀ x, x < 60 → st x + x ≤ 60) → am_g d X am_m7113 32 [.ref 70, .int (nI f), .int (nI w), .int (nI c), v4, v5, v6] [] (am_Z cl sl F (va_up A 77 (pkr st g)) L) P = P (.inl none) (am_Z cl sl F (va_up A 77 (pkr (fwG w S.p S.q c st) g)) L) := by
  have h60 := h.n60
  intro c
  induction c with
  | zero =>
    intro st v4 v5 v6 hc hB
    rw [u7113_32]
    simp (disch := omega) only [u7113_0, u7113_1, u7113_2, u7113_3, u7113_5, u7113_8, u7113_9, u7113_12, u7113_13, u7113_14, u7113_15, u7113_18, u7113_19, u7113_22, u7113_23, u7113_24, u7113_27, u7113_30, u7113_31, u7113_33, u7113_36, u7113_37, u7113_41, u7113_42, u7113_45, u7113_46, u7113_49, u7113_50, u7113_51, u7113_54, u7113_55, u7113_58, u7113_60, u7113_63, u7113_66, u7113_69, u7113_72, u7113_73, u7113_74, u7113_75, u7113_76, u7113_77, u7113_79, u7113_81, u7113_84, u7113_85, u7113_88, u7113_90, u7113_91, u7113_94, u7113_95, u7113_98, u7113_99, u7113_102, u7113_103, u7113_104, u7113_105, u7113_106, u7113_107, u7113_110, u7113_112, u7113_113, u7113_116, u7113_119, u7113_120, u7113_123, u7113_124, u7113_125, u7113_126, u7113_127, u7113_128, u7113_131, u7113_133, u7113_134, u7113_137, u7113_138, u7113_141, u7113_142, u7113_144, u7113_146, u7113_149, u7113_150, u7113_153, u7113_155, u7113_156, u7113_159, u7113_160, u7113_161, u7113_162, u7113_163, u7113_164, u7113_167, u7113_170, u7113_173, u7113_176, gt_70_16, gt_70_0, xl_71, xs_71, xl_77, xs_77, ki_m1, ki_0, ki_1, ki_1440, ki_1500, ki_2, ki_60, af_x hd_7113, decide_eq_true_eq, if_true, if_false, f2_ne, f2_eq, up_ne, up_eq, kc_int, kc_ref, kc_retAddr, kc_long, kc_double, af_n, af_v, z0, z1, n_of, nz6, nz4, bI_T, bI_F, bI_01, n_lt, n_le, n_eq, n_add, n_mul, n_sub, n_clamp, n_vp, m_lt, m_le, m_eq, m_eq2, m_ltm, m_add, true_and, and_true, eq_self, if_pos, if_neg, List.length_nil, List.length_cons, Nat.reduceAdd, Nat.reduceLeDiff, Nat.zero_le, not_true_eq_false, not_false_eq_true, true_or, or_true]
    rfl
  | succ c ih =>
    intro st v4 v5 v6 hc hB
    obtain ⟨hp, hq⟩ := h.par (c + 1) hc
    have hBc := hB (c + 1) (by omega)
    show _ = P (.inl none) (am_Z cl sl F (va_up A 77 (pkr (fwG w S.p S.q c (if st (c + 1) = 0 then st else stp w (stp w st (S.p (c + 1)) (st (c + 1) + 1)) (S.q (c + 1)) (st (c + 1) + 1))) g)) L)
    by_cases e : st (c + 1) = 0
    · rw [if_pos e]
      have ec : pkr st g (c + 1) = m1 := by rw [pkr_at (by omega), e]; rfl
      refine Eq.trans ?_ (ih st (.int (nI 0)) v5 v6 (by omega) hB)
      rw [u7113_32]
      simp (disch := omega) only [u7113_0, u7113_1, u7113_2, u7113_3, u7113_5, u7113_8, u7113_9, u7113_12, u7113_13, u7113_14, u7113_15, u7113_18, u7113_19, u7113_22, u7113_23, u7113_24, u7113_27, u7113_30, u7113_31, u7113_33, u7113_36, u7113_37, u7113_41, u7113_42, u7113_45, u7113_46, u7113_49, u7113_50, u7113_51, u7113_54, u7113_55, u7113_58, u7113_60, u7113_63, u7113_66, u7113_69, u7113_72, u7113_73, u7113_74, u7113_75, u7113_76, u7113_77, u7113_79, u7113_81, u7113_84, u7113_85, u7113_88, u7113_90, u7113_91, u7113_94, u7113_95, u7113_98, u7113_99, u7113_102, u7113_103, u7113_104, u7113_105, u7113_106, u7113_107, u7113_110, u7113_112, u7113_113, u7113_116, u7113_119, u7113_120, u7113_123, u7113_124, u7113_125, u7113_126, u7113_127, u7113_128, u7113_131, u7113_133, u7113_134, u7113_137, u7113_138, u7113_141, u7113_142, u7113_144, u7113_146, u7113_149, u7113_150, u7113_153, u7113_155, u7113_156, u7113_159, u7113_160, u7113_161, u7113_162, u7113_163, u7113_164, u7113_167, u7113_170, u7113_173, u7113_176, gt_70_16, gt_70_0, xl_71, xs_71, xl_77, xs_77, ki_m1, ki_0, ki_1, ki_1440, ki_1500, ki_2, ki_60, af_x hd_7113, decide_eq_true_eq, if_true, if_false, f2_ne, f2_eq, up_ne, up_eq, kc_int, kc_ref, kc_retAddr, kc_long, kc_double, af_n, af_v, z0, z1, n_of, nz6, nz4, bI_T, bI_F, bI_01, n_lt, n_le, n_eq, n_add, n_mul, n_sub, n_clamp, n_vp, m_lt, m_le, m_eq, m_eq2, m_ltm, m_add, true_and, and_true, eq_self, if_pos, if_neg, List.length_nil, List.length_cons, Nat.reduceAdd, Nat.reduceLeDiff, Nat.zero_le, not_true_eq_false, not_false_eq_true, true_or, or_true]
      rw [u7113_39]
      simp (disch := omega) only [ec, Nat.add_sub_cancel, u7113_0, u7113_1, u7113_2, u7113_3, u7113_5, u7113_8, u7113_9, u7113_12, u7113_13, u7113_14, u7113_15, u7113_18, u7113_19, u7113_22, u7113_23, u7113_24, u7113_27, u7113_30, u7113_31, u7113_33, u7113_36, u7113_37, u7113_41, u7113_42, u7113_45, u7113_46, u7113_49, u7113_50, u7113_51, u7113_54, u7113_55, u7113_58, u7113_60, u7113_63, u7113_66, u7113_69, u7113_72, u7113_73, u7113_74, u7113_75, u7113_76, u7113_77, u7113_79, u7113_81, u7113_84, u7113_85, u7113_88, u7113_90, u7113_91, u7113_94, u7113_95, u7113_98, u7113_99, u7113_102, u7113_103, u7113_104, u7113_105, u7113_106, u7113_107, u7113_110, u7113_112, u7113_113, u7113_116, u7113_119, u7113_120, u7113_123, u7113_124, u7113_125, u7113_126, u7113_127, u7113_128, u7113_131, u7113_133, u7113_134, u7113_137, u7113_138, u7113_141, u7113_142, u7113_144, u7113_146, u7113_149, u7113_150, u7113_153, u7113_155, u7113_156, u7113_159, u7113_160, u7113_161, u7113_162, u7113_163, u7113_164, u7113_167, u7113_170, u7113_173, u7113_176, gt_70_16, gt_70_0, xl_71, xs_71, xl_77, xs_77, ki_m1, ki_0, ki_1, ki_1440, ki_1500, ki_2, ki_60, af_x hd_7113, decide_eq_true_eq, if_true, if_false, f2_ne, f2_eq, up_ne, up_eq, kc_int, kc_ref, kc_retAddr, kc_long, kc_double, af_n, af_v, z0, z1, n_of, nz6, nz4, bI_T, bI_F, bI_01, n_lt, n_le, n_eq, n_add, n_mul, n_sub, n_clamp, n_vp, m_lt, m_le, m_eq, m_eq2, m_ltm, m_add, true_and, and_true, eq_self, if_pos, if_neg, List.length_nil, List.length_cons, Nat.reduceAdd, Nat.reduceLeDiff, Nat.zero_le, not_true_eq_false, not_false_eq_true, true_or, or_true]
    · rw [if_neg e]
      obtain ⟨u5, u6, e5⟩ := l_w2_0 (d := d) (X := X) (cl := cl) (sl := sl) (F := F) (L := L) R h (f := f) (g := g) (v5 := v5) (v6 := v6) hw hc e hB
      have es : stp w st (S.p (c + 1)) (st (c + 1) + 1) (c + 1) = st (c + 1) := stp_ne hp
      have hB2 : ∀ x, x < 60 → stp w st (S.p (c + 1)) (st (c + 1) + 1) x + x ≤ 60 := stp_B hB (fun _ => by omega)
      obtain ⟨u7, u8, e7⟩ := l_w2_1 (d := d) (X := X) (cl := cl) (sl := sl) (F := F) (L := L) R h (f := f) (g := g) (v5 := u5) (v6 := u6) hw hc (by rw [es]; exact e) hB2
      rw [es] at e7
      have hB3 : ∀ x, x < 60 → stp w (stp w st (S.p (c + 1)) (st (c + 1) + 1)) (S.q (c + 1)) (st (c + 1) + 1) x + x ≤ 60 := stp_B hB2 (fun _ => by omega)
      refine Eq.trans ?_ (ih _ (.int (nI 2)) u7 u8 (by omega) hB3)
      rw [u7113_32]
      simp (disch := omega) only [e5, e7, u7113_0, u7113_1, u7113_2, u7113_3, u7113_5, u7113_8, u7113_9, u7113_12, u7113_13, u7113_14, u7113_15, u7113_18, u7113_19, u7113_22, u7113_23, u7113_24, u7113_27, u7113_30, u7113_31, u7113_33, u7113_36, u7113_37, u7113_41, u7113_42, u7113_45, u7113_46, u7113_49, u7113_50, u7113_51, u7113_54, u7113_55, u7113_58, u7113_60, u7113_63, u7113_66, u7113_69, u7113_72, u7113_73, u7113_74, u7113_75, u7113_76, u7113_77, u7113_79, u7113_81, u7113_84, u7113_85, u7113_88, u7113_90, u7113_91, u7113_94, u7113_95, u7113_98, u7113_99, u7113_102, u7113_103, u7113_104, u7113_105, u7113_106, u7113_107, u7113_110, u7113_112, u7113_113, u7113_116, u7113_119, u7113_120, u7113_123, u7113_124, u7113_125, u7113_126, u7113_127, u7113_128, u7113_131, u7113_133, u7113_134, u7113_137, u7113_138, u7113_141, u7113_142, u7113_144, u7113_146, u7113_149, u7113_150, u7113_153, u7113_155, u7113_156, u7113_159, u7113_160, u7113_161, u7113_162, u7113_163, u7113_164, u7113_167, u7113_170, u7113_173, u7113_176, gt_70_16, gt_70_0, xl_71, xs_71, xl_77, xs_77, ki_m1, ki_0, ki_1, ki_1440, ki_1500, ki_2, ki_60, af_x hd_7113, decide_eq_true_eq, if_true, if_false, f2_ne, f2_eq, up_ne, up_eq, kc_int, kc_ref, kc_retAddr, kc_long, kc_double, af_n, af_v, z0, z1, n_of, nz6, nz4, bI_T, bI_F, bI_01, n_lt, n_le, n_eq, n_add, n_mul, n_sub, n_clamp, n_vp, m_lt, m_le, m_eq, m_eq2, m_ltm, m_add, true_and, and_true, eq_self, if_pos, if_neg, List.length_nil, List.length_cons, Nat.reduceAdd, Nat.reduceLeDiff, Nat.zero_le, not_true_eq_false, not_false_eq_true, true_or, or_true]
      rw [u7113_39]
      simp (disch := omega) only [Nat.add_sub_cancel, u7113_0, u7113_1, u7113_2, u7113_3, u7113_5, u7113_8, u7113_9, u7113_12, u7113_13, u7113_14, u7113_15, u7113_18, u7113_19, u7113_22, u7113_23, u7113_24, u7113_27, u7113_30, u7113_31, u7113_33, u7113_36, u7113_37, u7113_41, u7113_42, u7113_45, u7113_46, u7113_49, u7113_50, u7113_51, u7113_54, u7113_55, u7113_58, u7113_60, u7113_63, u7113_66, u7113_69, u7113_72, u7113_73, u7113_74, u7113_75, u7113_76, u7113_77, u7113_79, u7113_81, u7113_84, u7113_85, u7113_88, u7113_90, u7113_91, u7113_94, u7113_95, u7113_98, u7113_99, u7113_102, u7113_103, u7113_104, u7113_105, u7113_106, u7113_107, u7113_110, u7113_112, u7113_113, u7113_116, u7113_119, u7113_120, u7113_123, u7113_124, u7113_125, u7113_126, u7113_127, u7113_128, u7113_131, u7113_133, u7113_134, u7113_137, u7113_138, u7113_141, u7113_142, u7113_144, u7113_146, u7113_149, u7113_150, u7113_153, u7113_155, u7113_156, u7113_159, u7113_160, u7113_161, u7113_162, u7113_163, u7113_164, u7113_167, u7113_170, u7113_173, u7113_176, gt_70_16, gt_70_0, xl_71, xs_71, xl_77, xs_77, ki_m1, ki_0, ki_1, ki_1440, ki_1500, ki_2, ki_60, af_x hd_7113, decide_eq_true_eq, if_true, if_false, f2_ne, f2_eq, up_ne, up_eq, kc_int, kc_ref, kc_retAddr, kc_long, kc_double, af_n, af_v, z0, z1, n_of, nz6, nz4, bI_T, bI_F, bI_01, n_lt, n_le, n_eq, n_add, n_mul, n_sub, n_clamp, n_vp, m_lt, m_le, m_eq, m_eq2, m_ltm, m_add, true_and, and_true, eq_self, if_pos, if_neg, List.length_nil, List.length_cons, Nat.reduceAdd, Nat.reduceLeDiff, Nat.zero_le, not_true_eq_false, not_false_eq_true, true_or, or_true]
theorem m_walks (R : mR (A 71) S) (h : wS S) {f w : Nat} (hw : w < 2) (hf : f < S.n) : am_Ca X (d + 1) 7113 [.ref 70, .int (nI f), .int (nI w)] (am_Z cl sl F A L) P = P (.inl none) (am_Z cl sl F (va_up A 77 (pkr (fwG w S.p S.q f (st0 f)) (A 77))) L) := by
  have h60 := h.n60
  have hB : ∀ x, x < 60 → st0 f x + x ≤ 60 := by
    intro x hx
    unfold st0
    by_cases e : x = f
    · subst e; rw [up_eq]; omega
    · rw [up_ne e]; omega
  have h1 := l_w1 (d := d) (X := X) (cl := cl) (sl := sl) (F := F) (A := A) (L := L) (P := P) (f := f) (w := w) (v4 := am_u) (v5 := am_u) (v6 := am_u) (g := A 77) (by omega) 60 0 rfl
  rw [pkn_0, up_same] at h1
  rw [c7113]
  simp (disch := omega) only [u7113_0, u7113_1, u7113_3, u7113_5, u7113_8, u7113_9, u7113_12, u7113_13, u7113_14, u7113_15, u7113_18, u7113_19, u7113_22, u7113_23, u7113_24, u7113_27, u7113_30, u7113_31, u7113_32, u7113_33, u7113_36, u7113_37, u7113_41, u7113_42, u7113_45, u7113_46, u7113_49, u7113_50, u7113_51, u7113_54, u7113_55, u7113_58, u7113_60, u7113_63, u7113_66, u7113_69, u7113_72, u7113_73, u7113_74, u7113_75, u7113_76, u7113_77, u7113_79, u7113_81, u7113_84, u7113_85, u7113_88, u7113_90, u7113_91, u7113_94, u7113_95, u7113_98, u7113_99, u7113_102, u7113_103, u7113_104, u7113_105, u7113_106, u7113_107, u7113_110, u7113_112, u7113_113, u7113_116, u7113_119, u7113_120, u7113_123, u7113_124, u7113_125, u7113_126, u7113_127, u7113_128, u7113_131, u7113_133, u7113_134, u7113_137, u7113_138, u7113_141, u7113_142, u7113_144, u7113_146, u7113_149, u7113_150, u7113_153, u7113_155, u7113_156, u7113_159, u7113_160, u7113_161, u7113_162, u7113_163, u7113_164, u7113_167, u7113_170, u7113_173, u7113_176, gt_70_16, gt_70_0, xl_71, xs_71, xl_77, xs_77, ki_m1, ki_0, ki_1, ki_1440, ki_1500, ki_2, ki_60, af_x hd_7113, decide_eq_true_eq, if_true, if_false, f2_ne, f2_eq, up_ne, up_eq, kc_int, kc_ref, kc_retAddr, kc_long, kc_double, af_n, af_v, z0, z1, n_of, nz6, nz4, bI_T, bI_F, bI_01, n_lt, n_le, n_eq, n_add, n_mul, n_sub, n_clamp, n_vp, m_lt, m_le, m_eq, m_eq2, m_ltm, m_add, true_and, and_true, eq_self, if_pos, if_neg, List.length_nil, List.length_cons, Nat.reduceAdd, Nat.reduceLeDiff, Nat.zero_le, not_true_eq_false, not_false_eq_true, true_or, or_true]
  rw [h1]
  simp (disch := omega) only [u7113_0, u7113_1, u7113_3, u7113_5, u7113_8, u7113_9, u7113_12, u7113_13, u7113_14, u7113_15, u7113_18, u7113_19, u7113_22, u7113_23, u7113_24, u7113_27, u7113_30, u7113_31, u7113_33, u7113_36, u7113_37, u7113_41, u7113_42, u7113_45, u7113_46, u7113_49, u7113_50, u7113_51, u7113_54, u7113_55, u7113_58, u7113_60, u7113_63, u7113_66, u7113_69, u7113_72, u7113_73, u7113_74, u7113_75, u7113_76, u7113_77, u7113_79, u7113_81, u7113_84, u7113_85, u7113_88, u7113_90, u7113_91, u7113_94, u7113_95, u7113_98, u7113_99, u7113_102, u7113_103, u7113_104, u7113_105, u7113_106, u7113_107, u7113_110, u7113_112, u7113_113, u7113_116, u7113_119, u7113_120, u7113_123, u7113_124, u7113_125, u7113_126, u7113_127, u7113_128, u7113_131, u7113_133, u7113_134, u7113_137, u7113_138, u7113_141, u7113_142, u7113_144, u7113_146, u7113_149, u7113_150, u7113_153, u7113_155, u7113_156, u7113_159, u7113_160, u7113_161, u7113_162, u7113_163, u7113_164, u7113_167, u7113_170, u7113_173, u7113_176, gt_70_16, gt_70_0, xl_71, xs_71, xl_77, xs_77, ki_m1, ki_0, ki_1, ki_1440, ki_1500, ki_2, ki_60, af_x hd_7113, decide_eq_true_eq, if_true, if_false, f2_ne, f2_eq, up_ne, up_eq, kc_int, kc_ref, kc_retAddr, kc_long, kc_double, af_n, af_v, z0, z1, n_of, nz6, nz4, bI_T, bI_F, bI_01, n_lt, n_le, n_eq, n_add, n_mul, n_sub, n_clamp, n_vp, m_lt, m_le, m_eq, m_eq2, m_ltm, m_add, true_and, and_true, eq_self, if_pos, if_neg, List.length_nil, List.length_cons, Nat.reduceAdd, Nat.reduceLeDiff, Nat.zero_le, not_true_eq_false, not_false_eq_true, true_or, or_true]
  exact l_walks R h hw f _ _ _ _ hf hB
/-! the same numbers as the class's -/
theorem fwG_fw {p q : Nat → Nat} {n : Nat} (h : wfP p q n) (hn : 0 < n) : ∀ (c : Nat) (st : Nat → Nat), fw p q (c + 1) st = fwG 1 p q c st := by
  obtain ⟨p0, q0⟩ := h 0 hn
  intro c
  induction c with
  | zero =>
    intro st
    show (if st 0 = 0 then st else low (low st (p 0) (st 0 + 1)) (q 0) (st 0 + 1)) = st
    split
    · rfl
    · unfold low
      rw [if_neg (fun z => z.1 (by omega)), if_neg (fun z => z.1 (by omega))]
  | succ c ih =>
    intro st
    show fw p q (c + 1) _ = fwG 1 p q c _
    rw [ih]
    unfold stp
    rw [if_pos rfl, if_pos rfl]
theorem fw_cut {p q : Nat → Nat} {st : Nat → Nat} {m : Nat} : ∀ j, (∀ x, m ≤ x → st x = 0) → fw p q (m + j) st = fw p q m st
  | 0, _ => rfl
  | j + 1, h => by
    show fw p q (m + j) (if st (m + j) = 0 then st else low (low st (p (m + j)) (st (m + j) + 1)) (q (m + j)) (st (m + j) + 1)) = fw p q m st
    rw [if_pos (h (m + j) (by omega)), fw_cut j h]
theorem w_distance {k o : Nat} (hk : k < G.S.n) (ho : o < G.S.n) (c : mG F A G) (w : wG G) : wO X (d + 8) 7114 [.ref 70, .int (nI k), .int (nI o)] cl sl F A L 0 (pk (fw G.S.p G.S.q 60 (st0 k) o)) G := by
  have h60 := w.w.n60
  have e1 : fw G.S.p G.S.q 60 (st0 k) = fwG 1 G.S.p G.S.q k (st0 k) := by
    rw [← fwG_fw w.w.par (by omega), show 60 = k + 1 + (59 - k) by omega]
    exact fw_cut (59 - k) fun x hx => by unfold st0; exact up_ne (by omega)
  rw [e1]
  refine wO_a (g := pkr (fwG 1 G.S.p G.S.q k (st0 k)) (A 77)) c Lf_id fun P => ?_
  have e2 : pkr (fwG 1 G.S.p G.S.q k (st0 k)) (A 77) o = pk (fwG 1 G.S.p G.S.q k (st0 k) o) := pkr_at (by omega)
  rw [c7114]
  simp (disch := omega) only [m_asksTwo c.R w.w hk ho, m_walks c.R w.w (show 1 < 2 by decide) hk, e2, u7114_0, u7114_1, u7114_2, u7114_3, u7114_6, u7114_9, u7114_10, u7114_11, u7114_12, u7114_13, u7114_14, u7114_17, u7114_18, u7114_21, u7114_22, u7114_23, ob_70, gt_70_16, xl_77, ki_0, ki_1, af_x hd_7114, decide_eq_true_eq, if_true, if_false, f2_ne, f2_eq, up_ne, up_eq, kc_int, kc_ref, kc_retAddr, kc_long, kc_double, af_n, af_v, z0, z1, n_of, nz6, nz4, bI_T, bI_F, bI_01, n_lt, n_le, n_eq, n_add, n_mul, n_sub, n_clamp, n_vp, m_lt, m_le, m_eq, m_eq2, m_ltm, m_add, true_and, and_true, eq_self, if_pos, if_neg, List.length_nil, List.length_cons, Nat.reduceAdd, Nat.reduceLeDiff, Nat.zero_le, not_true_eq_false, not_false_eq_true, true_or, or_true]
/-- the most steps down from a commit -/
def dpN (p q : Nat → Nat) (c : Nat) : Nat := dr p q (c + 1) c
theorem dr_st {p q : Nat → Nat} : ∀ (k x : Nat), x < k → dr p q k x = dpN p q x := by
  intro k
  induction k with
  | zero => intro x h; omega
  | succ k ih =>
    intro x h
    by_cases e : x = k
    · subst e; rfl
    · show va_up (dr p q k) k _ x = _
      rw [up_ne e]
      exact ih x (by omega)
theorem dp_eq {p q : Nat → Nat} {n c : Nat} (h : wfP p q n) (hc : c < n) : dpN p q c = max (if p c = 0 then 0 else dpN p q (p c - 1) + 1) (if q c = 0 then 0 else dpN p q (q c - 1) + 1) := by
  obtain ⟨hp, hq⟩ := h c hc
  show va_up (dr p q c) c (max (dz (dr p q c) (p c)) (dz (dr p q c) (q c))) c = _
  rw [up_eq]
  have e : ∀ z, z ≤ c → dz (dr p q c) z = if z = 0 then 0 else dpN p q (z - 1) + 1 := by
    intro z hz
    unfold dz
    by_cases z0 : z = 0
    · rw [if_pos z0, if_pos z0]
    · rw [if_neg z0, if_neg z0, dr_st c (z - 1) (by omega)]
  rw [e _ hp, e _ hq]
/-- before c is gone through: what is reached, with what lies below it, makes the whole -/
def dQ (p q : Nat → Nat) (D c : Nat) (st : Nat → Nat) : Prop := (∀ x, x ≤ c → st x ≠ 0 → st x - 1 + dpN p q x ≤ D) ∧ ∃ x, x ≤ c ∧ st x ≠ 0 ∧ st x - 1 + dpN p q x = D
theorem dQ_hig {p q : Nat → Nat} {D c z v : Nat} {st : Nat → Nat} (h : dQ p q D c st) (hv : v ≠ 0) (hz : z ≠ 0 → v - 1 + dpN p q (z - 1) ≤ D) : dQ p q D c (hig st z v) := by
  unfold hig
  split
  · obtain ⟨z0, hh⟩ := ‹z ≠ 0 ∧ _›
    obtain ⟨h1, x, h2, h3, h4⟩ := h
    refine ⟨fun y hy hy2 => ?_, x, h2, ?_⟩
    · by_cases e : y = z - 1
      · subst e; rw [up_eq]; exact hz z0
      · rw [up_ne e] at hy2 ⊢; exact h1 y hy hy2
    · by_cases e : x = z - 1
      · subst e
        rw [up_eq]
        have := hz z0
        refine ⟨hv, ?_⟩
        rcases hh with hh | hh
        · exact absurd hh h3
        · omega
      · rw [up_ne e]; exact ⟨h3, h4⟩
  · exact h
theorem hig_ge {st : Nat → Nat} {z v : Nat} (h0 : z ≠ 0) : v ≤ hig st z v (z - 1) ∧ (v ≠ 0 → hig st z v (z - 1) ≠ 0) := by
  unfold hig
  by_cases e : st (z - 1) = 0 ∨ st (z - 1) < v
  · rw [if_pos ⟨h0, e⟩, up_eq]
    exact ⟨Nat.le_refl _, fun h => h⟩
  · rw [if_neg (fun w => e w.2)]
    have e1 : ¬ st (z - 1) = 0 := fun w => e (Or.inl w)
    have e2 : ¬ st (z - 1) < v := fun w => e (Or.inr w)
    exact ⟨by omega, fun _ => e1⟩
theorem hig_mono {st : Nat → Nat} {z v x : Nat} (h0 : st x ≠ 0) : st x ≤ hig st z v x := by
  unfold hig
  split
  · obtain ⟨z0, hh⟩ := ‹z ≠ 0 ∧ _›
    by_cases e : x = z - 1
    · subst e
      rw [up_eq]
      rcases hh with hh | hh
      · exact absurd hh h0
      · omega
    · rw [up_ne e]; exact Nat.le_refl _
  · exact Nat.le_refl _
theorem dQ_step {D c : Nat} {st : Nat → Nat} (h : wS S) (hc : c + 1 < S.n) (q0 : dQ S.p S.q D (c + 1) st) : dQ S.p S.q D c (if st (c + 1) = 0 then st else stp 0 (stp 0 st (S.p (c + 1)) (st (c + 1) + 1)) (S.q (c + 1)) (st (c + 1) + 1)) := by
  obtain ⟨hp, hq⟩ := h.par (c + 1) hc
  have hr := h.root (c + 1) hc (by omega)
  have de := dp_eq h.par hc
  by_cases e : st (c + 1) = 0
  · rw [if_pos e]
    obtain ⟨h1, x, h2, h3, h4⟩ := q0
    refine ⟨fun y hy => h1 y (by omega), x, ?_, h3, h4⟩
    by_cases ex : x = c + 1
    · subst ex; exact absurd e h3
    · omega
  · rw [if_neg e]
    unfold stp
    rw [if_neg (by decide), if_neg (by decide)]
    have hb := q0.1 (c + 1) (Nat.le_refl _) e
    have b1 : S.p (c + 1) ≠ 0 → st (c + 1) + 1 - 1 + dpN S.p S.q (S.p (c + 1) - 1) ≤ D := fun z => by
      rw [if_neg z] at de
      have : dpN S.p S.q (S.p (c + 1) - 1) + 1 ≤ dpN S.p S.q (c + 1) := by omega
      omega
    have b2 : S.q (c + 1) ≠ 0 → st (c + 1) + 1 - 1 + dpN S.p S.q (S.q (c + 1) - 1) ≤ D := fun z => by
      rw [if_neg z] at de
      have : dpN S.p S.q (S.q (c + 1) - 1) + 1 ≤ dpN S.p S.q (c + 1) := by omega
      omega
    have q1 := dQ_hig q0 (v := st (c + 1) + 1) (z := S.p (c + 1)) (by omega) b1
    have q2 := dQ_hig q1 (v := st (c + 1) + 1) (z := S.q (c + 1)) (by omega) b2
    refine ⟨fun y hy => q2.1 y (by omega), ?_⟩
    obtain ⟨h1, x, h2, h3, h4⟩ := q0
    by_cases ex : x = c + 1
    · subst ex
      rw [if_neg hr] at de
      by_cases ep : dpN S.p S.q (c + 1) = dpN S.p S.q (S.p (c + 1) - 1) + 1
      · have g1 := hig_ge (st := st) (v := st (c + 1) + 1) hr
        have g2 := g1.2 (by omega)
        have g3 := hig_mono (z := S.q (c + 1)) (v := st (c + 1) + 1) g2
        have g4 := q2.1 (S.p (c + 1) - 1) (by omega) (by omega)
        exact ⟨S.p (c + 1) - 1, by omega, by omega, by omega⟩
      · by_cases z : S.q (c + 1) = 0
        · rw [if_pos z] at de
          omega
        · rw [if_neg z] at de
          have g1 := hig_ge (st := hig st (S.p (c + 1)) (st (c + 1) + 1)) (v := st (c + 1) + 1) z
          have g2 := g1.2 (by omega)
          have g4 := q2.1 (S.q (c + 1) - 1) (by omega) g2
          exact ⟨S.q (c + 1) - 1, by omega, g2, by omega⟩
    · have g1 := hig_mono (z := S.p (c + 1)) (v := st (c + 1) + 1) h3
      have g2 := hig_mono (z := S.q (c + 1)) (v := st (c + 1) + 1) (show hig st (S.p (c + 1)) (st (c + 1) + 1) x ≠ 0 by omega)
      have g3 := q2.1 x (by omega) (by omega)
      exact ⟨x, by omega, by omega, by omega⟩
theorem dQ_end (h : wS S) : ∀ (c : Nat) (st : Nat → Nat) (D : Nat), c < S.n → dQ S.p S.q D c st → fwG 0 S.p S.q c st 0 = D + 1 := by
  have h1 := h.n1
  intro c
  induction c with
  | zero =>
    intro st D hc q0
    obtain ⟨-, x, h2, h3, h4⟩ := q0
    obtain rfl : x = 0 := by omega
    obtain ⟨p0, q0⟩ := h.par 0 (by omega)
    have de := dp_eq h.par (show 0 < S.n by omega)
    rw [if_pos (by omega), if_pos (by omega)] at de
    show st 0 = D + 1
    omega
  | succ c ih =>
    intro st D hc q0
    exact ih _ D (by omega) (dQ_step h hc q0)
theorem w_depth {k : Nat} (hk : k < G.S.n) (c : mG F A G) (w : wG G) : wO X (d + 8) 7115 [.ref 70, .int (nI k)] cl sl F A L 0 (nI (dr G.S.p G.S.q (k + 1) k)) G := by
  have h60 := w.w.n60
  have e1 := dQ_end w.w k (st0 k) (dpN G.S.p G.S.q k) hk ⟨fun x hx h0 => by
    unfold st0 at h0 ⊢
    by_cases e : x = k
    · subst e; rw [up_eq]; omega
    · rw [up_ne e] at h0; exact absurd rfl h0, k, Nat.le_refl _, by unfold st0; rw [up_eq]; decide, by unfold st0; rw [up_eq]; omega⟩
  refine wO_a (g := pkr (fwG 0 G.S.p G.S.q k (st0 k)) (A 77)) c Lf_id fun P => ?_
  have e2 : pkr (fwG 0 G.S.p G.S.q k (st0 k)) (A 77) 0 = nI (dr G.S.p G.S.q (k + 1) k) := by
    rw [pkr_at (by omega), e1, pk_s]
    rfl
  rw [c7115]
  simp (disch := omega) only [m_isCommit_t c.R w.w hk, m_asks1, m_walks c.R w.w (show 0 < 2 by decide) hk, e2, u7115_0, u7115_1, u7115_2, u7115_3, u7115_6, u7115_9, u7115_12, u7115_13, u7115_14, u7115_15, u7115_16, u7115_17, u7115_20, u7115_21, u7115_24, u7115_25, u7115_26, ob_70, gt_70_16, xl_77, ki_0, af_x hd_7115, decide_eq_true_eq, if_true, if_false, f2_ne, f2_eq, up_ne, up_eq, kc_int, kc_ref, kc_retAddr, kc_long, kc_double, af_n, af_v, z0, z1, n_of, nz6, nz4, bI_T, bI_F, bI_01, n_lt, n_le, n_eq, n_add, n_mul, n_sub, n_clamp, n_vp, m_lt, m_le, m_eq, m_eq2, m_ltm, m_add, true_and, and_true, eq_self, if_pos, if_neg, List.length_nil, List.length_cons, Nat.reduceAdd, Nat.reduceLeDiff, Nat.zero_le, not_true_eq_false, not_false_eq_true, true_or, or_true]
end QC
