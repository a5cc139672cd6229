/-! THE MODEL: sets of commits as bits -/
def lS (x : Int64) (S : Nat → Prop) : Prop := ∀ c, c < 64 → (x.toBitVec.getLsbD c = true ↔ S c)
theorem lS_or {x y : Int64} {S T : Nat → Prop} (h : lS x S) (g : lS y T) : lS (x ||| y) (fun c => S c ∨ T c) := by
  intro c hc
  rw [Int64.toBitVec_or, BitVec.getLsbD_or, Bool.or_eq_true, h c hc, g c hc]
theorem lS_and {x y : Int64} {S T : Nat → Prop} (h : lS x S) (g : lS y T) : lS (x &&& y) (fun c => S c ∧ T c) := by
  intro c hc
  rw [Int64.toBitVec_and, BitVec.getLsbD_and, Bool.and_eq_true, h c hc, g c hc]
theorem lS_0 : lS 0 (fun _ => False) := by
  intro c hc
  rw [show (0 : Int64).toBitVec = 0#64 from rfl]
  simp
theorem sh_n : ∀ c, c < 60 → ((nI c).toInt64 &&& 63).toBitVec.smod 64 = BitVec.ofNat 64 c := by decide
theorem lS_1 {k : Nat} (hk : k < 60) : lS (1 <<< ((nI k).toInt64 &&& 63)) (fun x => x = k) := by
  intro c hc
  rw [Int64.toBitVec_shiftLeft, sh_n k hk, show (1 : Int64).toBitVec = 1#64 from rfl]
  rw [BitVec.shiftLeft_eq', BitVec.getLsbD_shiftLeft, BitVec.toNat_ofNat, Nat.mod_eq_of_lt (by omega), BitVec.getLsbD_one]
  simp
  omega
theorem lS_bit {x : Int64} {S : Nat → Prop} (h : lS x S) {c : Nat} (hc : c < 60) : (lg_cmp (x >>> ((nI c).toInt64 &&& 63) &&& 1) 1 = nI 0) ↔ S c := by
  have e : (x >>> ((nI c).toInt64 &&& 63) &&& 1 = 1) ↔ S c := by
    rw [← h c (by omega), ← Int64.toBitVec_inj, Int64.toBitVec_and, Int64.toBitVec_shiftRight, sh_n c hc, show (1 : Int64).toBitVec = 1#64 from rfl]
    rw [BitVec.sshiftRight_eq', BitVec.toNat_ofNat, Nat.mod_eq_of_lt (by omega), BitVec.and_one_eq_setWidth_ofBool_getLsbD, BitVec.getLsbD_sshiftRight]
    rw [if_pos (by omega)]
    simp
    cases x.toBitVec.getLsbD c <;> decide
  rw [← e]
  unfold lg_cmp
  by_cases g : x >>> ((nI c).toInt64 &&& 63) &&& 1 = 1
  · rw [g]; decide
  · rw [if_neg g]
    refine ⟨fun z => ?_, fun z => absurd z g⟩
    exfalso
    by_cases g2 : x >>> ((nI c).toInt64 &&& 63) &&& 1 > 1
    · rw [if_pos g2] at z; revert z; decide
    · rw [if_neg g2] at z; revert z; decide
def Lf (L L2 : Nat → Nat → Int64) : Prop := ∀ o, o ≠ 76 → L2 o = L o
theorem Lf_id {L : Nat → Nat → Int64} : Lf L L := fun _ _ => rfl
theorem Lf_tr {L L2 L3 : Nat → Nat → Int64} (h : Lf L L2) (g : Lf L2 L3) : Lf L L3 := fun o ho => (g o ho).trans (h o ho)
theorem lS_cg {x : Int64} {S T : Nat → Prop} (h : lS x S) (e : ∀ c, S c ↔ T c) : lS x T := fun c hc => (h c hc).trans (e c)
section M9
variable {d cl sl : Nat} {X : am_X} {F A : Nat → Nat → Int32} {L : Nat → Nat → Int64} {P : am_Q} {S : Ab}
theorem m_has {x : Int64} {Z : Nat → Prop} (h : lS x Z) {c : Nat} (hc : c < 60) : am_Ca X (d + 1) 7029 [.long x, .int (nI c)] (am_Z cl sl F A L) P = P (.inl (some (.int (bI (Z c))))) (am_Z cl sl F A L) := by
  rw [c7029]
  by_cases e : Z c
  · have e1 := eq_true ((lS_bit h hc).mpr e)
    rw [bI_t e]
    simp (disch := omega) only [e1, u7029_0, u7029_1, u7029_2, u7029_3, u7029_4, u7029_5, u7029_6, u7029_7, u7029_10, u7029_11, u7029_14, u7029_15, ki_0, ki_1, af_x hd_7029, decide_eq_true_eq, if_true, if_false, f2_ne, f2_eq, up_ne, up_eq, kc_int, kc_ref, kc_retAddr, kc_long, kc_double, af_n, af_v, z0, z1, n_of, nz6, nz4, bI_T, bI_F, bI_01, n_lt, n_le, n_eq, n_add, n_mul, n_sub, n_clamp, n_vp, m_lt, m_le, m_eq, m_eq2, m_ltm, m_add, true_and, and_true, eq_self, if_pos, if_neg, List.length_nil, List.length_cons, Nat.reduceAdd, Nat.reduceLeDiff, Nat.zero_le, not_true_eq_false, not_false_eq_true, true_or, or_true]
  · have e1 := eq_false (fun z => e ((lS_bit h hc).mp z))
    rw [bI_f e]
    simp (disch := omega) only [e1, u7029_0, u7029_1, u7029_2, u7029_3, u7029_4, u7029_5, u7029_6, u7029_7, u7029_10, u7029_11, u7029_14, u7029_15, ki_0, ki_1, af_x hd_7029, decide_eq_true_eq, if_true, if_false, f2_ne, f2_eq, up_ne, up_eq, kc_int, kc_ref, kc_retAddr, kc_long, kc_double, af_n, af_v, z0, z1, n_of, nz6, nz4, bI_T, bI_F, bI_01, n_lt, n_le, n_eq, n_add, n_mul, n_sub, n_clamp, n_vp, m_lt, m_le, m_eq, m_eq2, m_ltm, m_add, true_and, and_true, eq_self, if_pos, if_neg, List.length_nil, List.length_cons, Nat.reduceAdd, Nat.reduceLeDiff, Nat.zero_le, not_true_eq_false, not_false_eq_true, true_or, or_true]
/-- what each commit reaches lies in row 76 -/
def mk76 (L : Nat → Nat → Int64) (S : Ab) (i : Nat) : Prop := ∀ c, c < i → lS (L 76 c) (Re S.p S.q c)
theorem l_marks (R : mR (A 71) S) (h : wS S) : ∀ (k i : Nat) (L : Nat → Nat → Int64) (v2 v3 : Value), i + k = S.n → mk76 L S i → ∃ L2, (∀ P, am_g d X am_m7028 2 [.ref 70, .int (nI i), v2, v3] [] (am_Z cl sl F A L) P = P (.inl none) (am_Z cl sl F A L2)) ∧ mk76 L2 S S.n ∧ Lf L L2 := by
  have h60 := h.n60
  intro k
  induction k with
  | zero =>
    intro i L v2 v3 hi hm
    obtain rfl : i = S.n := by omega
    refine ⟨L, fun P => ?_, hm, Lf_id⟩
    rw [u7028_2]
    simp (disch := omega) only [R.n0, u7028_0, u7028_1, u7028_3, u7028_4, u7028_7, u7028_10, u7028_11, u7028_14, u7028_15, u7028_16, u7028_17, u7028_18, u7028_19, u7028_20, u7028_23, u7028_26, u7028_27, u7028_28, u7028_29, u7028_32, u7028_33, u7028_36, u7028_37, u7028_40, u7028_43, u7028_44, u7028_45, u7028_46, u7028_47, u7028_48, u7028_49, u7028_52, u7028_53, u7028_54, u7028_55, u7028_56, u7028_57, u7028_60, u7028_63, u7028_64, u7028_65, u7028_66, u7028_69, u7028_70, u7028_73, u7028_74, u7028_77, u7028_80, u7028_81, u7028_82, u7028_83, u7028_84, u7028_85, u7028_86, u7028_89, u7028_90, u7028_91, u7028_92, u7028_93, u7028_96, u7028_97, u7028_98, u7028_99, u7028_102, u7028_105, gt_70_0, gt_70_9, xl_71, jl_76, js_76, ki_0, ki_1, ki_1440, ki_1500, ki_1762, af_x hd_7028, decide_eq_true_eq, if_true, if_false, f2_ne, f2_eq, up_ne, up_eq, kc_int, kc_ref, kc_retAddr, kc_long, kc_double, af_n, af_v, z0, z1, n_of, nz6, nz4, bI_T, bI_F, bI_01, n_lt, n_le, n_eq, n_add, n_mul, n_sub, n_clamp, n_vp, m_lt, m_le, m_eq, m_eq2, m_ltm, m_add, true_and, and_true, eq_self, if_pos, if_neg, List.length_nil, List.length_cons, Nat.reduceAdd, Nat.reduceLeDiff, Nat.zero_le, not_true_eq_false, not_false_eq_true, true_or, or_true]
  | succ k ih =>
    intro i L v2 v3 hi hm
    have hin : i < S.n := by omega
    obtain ⟨p1, q1⟩ := h.par i hin
    have step : ∀ {y : Int64}, lS y (Re S.p S.q i) → mk76 (am_f2 L 76 i y) S (i + 1) ∧ Lf L (am_f2 L 76 i y) := by
      intro y hy
      refine ⟨fun c hc => ?_, fun o ho => f2_ne ho⟩
      rw [f2_eq]
      by_cases e : c = i
      · subst e; rw [up_eq]; exact hy
      · rw [up_ne e]; exact hm c (by omega)
    have Z0 := lS_1 (k := i) (by omega)
    by_cases hp : S.p i = 0
    · by_cases hq : S.q i = 0
      · have g : lS (1 <<< ((nI i).toInt64 &&& 63) ||| 0 ||| 0) (Re S.p S.q i) := lS_cg (lS_or (lS_or Z0 lS_0) lS_0) fun c => by
          rw [Re_iff h.par hin]
          simp [hp, hq]
        obtain ⟨s1, s2⟩ := step g
        obtain ⟨L2, e2, m2, f2⟩ := ih (i + 1) _ (.long (1 <<< ((nI i).toInt64 &&& 63) ||| 0 ||| 0)) am_u (by omega) s1
        refine ⟨L2, fun P => ?_, m2, Lf_tr s2 f2⟩
        refine Eq.trans ?_ (e2 P)
        rw [u7028_2]
        simp (disch := omega) only [R.n0, R.p i hin, R.q i hin, hp, hq, u7028_0, u7028_1, u7028_3, u7028_4, u7028_7, u7028_10, u7028_11, u7028_14, u7028_15, u7028_16, u7028_17, u7028_18, u7028_19, u7028_20, u7028_23, u7028_26, u7028_27, u7028_28, u7028_29, u7028_32, u7028_33, u7028_36, u7028_37, u7028_40, u7028_43, u7028_44, u7028_45, u7028_46, u7028_47, u7028_48, u7028_49, u7028_52, u7028_53, u7028_54, u7028_55, u7028_56, u7028_57, u7028_60, u7028_63, u7028_64, u7028_65, u7028_66, u7028_69, u7028_70, u7028_73, u7028_74, u7028_77, u7028_80, u7028_81, u7028_82, u7028_83, u7028_84, u7028_85, u7028_86, u7028_89, u7028_90, u7028_91, u7028_92, u7028_93, u7028_96, u7028_97, u7028_98, u7028_99, u7028_102, u7028_105, gt_70_0, gt_70_9, xl_71, jl_76, js_76, ki_0, ki_1, ki_1440, ki_1500, ki_1762, af_x hd_7028, decide_eq_true_eq, if_true, if_false, f2_ne, f2_eq, up_ne, up_eq, kc_int, kc_ref, kc_retAddr, kc_long, kc_double, af_n, af_v, z0, z1, n_of, nz6, nz4, bI_T, bI_F, bI_01, n_lt, n_le, n_eq, n_add, n_mul, n_sub, n_clamp, n_vp, m_lt, m_le, m_eq, m_eq2, m_ltm, m_add, true_and, and_true, eq_self, if_pos, if_neg, List.length_nil, List.length_cons, Nat.reduceAdd, Nat.reduceLeDiff, Nat.zero_le, not_true_eq_false, not_false_eq_true, true_or, or_true]
      · have g : lS (1 <<< ((nI i).toInt64 &&& 63) ||| 0 ||| L 76 (S.q i - 1)) (Re S.p S.q i) := lS_cg (lS_or (lS_or Z0 lS_0) (hm (S.q i - 1) (by omega))) fun c => by
          rw [Re_iff h.par hin]
          simp [hp, hq]
        obtain ⟨s1, s2⟩ := step g
        obtain ⟨L2, e2, m2, f2⟩ := ih (i + 1) _ (.long (1 <<< ((nI i).toInt64 &&& 63) ||| 0 ||| L 76 (S.q i - 1))) am_u (by omega) s1
        refine ⟨L2, fun P => ?_, m2, Lf_tr s2 f2⟩
        refine Eq.trans ?_ (e2 P)
        rw [u7028_2]
        simp (disch := omega) only [R.n0, R.p i hin, R.q i hin, hp, u7028_0, u7028_1, u7028_3, u7028_4, u7028_7, u7028_10, u7028_11, u7028_14, u7028_15, u7028_16, u7028_17, u7028_18, u7028_19, u7028_20, u7028_23, u7028_26, u7028_27, u7028_28, u7028_29, u7028_32, u7028_33, u7028_36, u7028_37, u7028_40, u7028_43, u7028_44, u7028_45, u7028_46, u7028_47, u7028_48, u7028_49, u7028_52, u7028_53, u7028_54, u7028_55, u7028_56, u7028_57, u7028_60, u7028_63, u7028_64, u7028_65, u7028_66, u7028_69, u7028_70, u7028_73, u7028_74, u7028_77, u7028_80, u7028_81, u7028_82, u7028_83, u7028_84, u7028_85, u7028_86, u7028_89, u7028_90, u7028_91, u7028_92, u7028_93, u7028_96, u7028_97, u7028_98, u7028_99, u7028_102, u7028_105, gt_70_0, gt_70_9, xl_71, jl_76, js_76, ki_0, ki_1, ki_1440, ki_1500, ki_1762, af_x hd_7028, decide_eq_true_eq, if_true, if_false, f2_ne, f2_eq, up_ne, up_eq, kc_int, kc_ref, kc_retAddr, kc_long, kc_double, af_n, af_v, z0, z1, n_of, nz6, nz4, bI_T, bI_F, bI_01, n_lt, n_le, n_eq, n_add, n_mul, n_sub, n_clamp, n_vp, m_lt, m_le, m_eq, m_eq2, m_ltm, m_add, true_and, and_true, eq_self, if_pos, if_neg, List.length_nil, List.length_cons, Nat.reduceAdd, Nat.reduceLeDiff, Nat.zero_le, not_true_eq_false, not_false_eq_true, true_or, or_true]
    · by_cases hq : S.q i = 0
      · have g : lS (1 <<< ((nI i).toInt64 &&& 63) ||| L 76 (S.p i - 1) ||| 0) (Re S.p S.q i) := lS_cg (lS_or (lS_or Z0 (hm (S.p i - 1) (by omega))) lS_0) fun c => by
          rw [Re_iff h.par hin]
          simp [hp, hq]
        obtain ⟨s1, s2⟩ := step g
        obtain ⟨L2, e2, m2, f2⟩ := ih (i + 1) _ (.long (1 <<< ((nI i).toInt64 &&& 63) ||| L 76 (S.p i - 1) ||| 0)) am_u (by omega) s1
        refine ⟨L2, fun P => ?_, m2, Lf_tr s2 f2⟩
        refine Eq.trans ?_ (e2 P)
        rw [u7028_2]
        simp (disch := omega) only [R.n0, R.p i hin, R.q i hin, hq, u7028_0, u7028_1, u7028_3, u7028_4, u7028_7, u7028_10, u7028_11, u7028_14, u7028_15, u7028_16, u7028_17, u7028_18, u7028_19, u7028_20, u7028_23, u7028_26, u7028_27, u7028_28, u7028_29, u7028_32, u7028_33, u7028_36, u7028_37, u7028_40, u7028_43, u7028_44, u7028_45, u7028_46, u7028_47, u7028_48, u7028_49, u7028_52, u7028_53, u7028_54, u7028_55, u7028_56, u7028_57, u7028_60, u7028_63, u7028_64, u7028_65, u7028_66, u7028_69, u7028_70, u7028_73, u7028_74, u7028_77, u7028_80, u7028_81, u7028_82, u7028_83, u7028_84, u7028_85, u7028_86, u7028_89, u7028_90, u7028_91, u7028_92, u7028_93, u7028_96, u7028_97, u7028_98, u7028_99, u7028_102, u7028_105, gt_70_0, gt_70_9, xl_71, jl_76, js_76, ki_0, ki_1, ki_1440, ki_1500, ki_1762, af_x hd_7028, decide_eq_true_eq, if_true, if_false, f2_ne, f2_eq, up_ne, up_eq, kc_int, kc_ref, kc_retAddr, kc_long, kc_double, af_n, af_v, z0, z1, n_of, nz6, nz4, bI_T, bI_F, bI_01, n_lt, n_le, n_eq, n_add, n_mul, n_sub, n_clamp, n_vp, m_lt, m_le, m_eq, m_eq2, m_ltm, m_add, true_and, and_true, eq_self, if_pos, if_neg, List.length_nil, List.length_cons, Nat.reduceAdd, Nat.reduceLeDiff, Nat.zero_le, not_true_eq_false, not_false_eq_true, true_or, or_true]
      · have g : lS (1 <<< ((nI i).toInt64 &&& 63) ||| L 76 (S.p i - 1) ||| L 76 (S.q i - 1)) (Re S.p S.q i) := lS_cg (lS_or (lS_or Z0 (hm (S.p i - 1) (by omega))) (hm (S.q i - 1) (by omega))) fun c => by
          rw [Re_iff h.par hin]
          simp [hp, hq, or_assoc]
        obtain ⟨s1, s2⟩ := step g
        obtain ⟨L2, e2, m2, f2⟩ := ih (i + 1) _ (.long (1 <<< ((nI i).toInt64 &&& 63) ||| L 76 (S.p i - 1) ||| L 76 (S.q i - 1))) am_u (by omega) s1
        refine ⟨L2, fun P => ?_, m2, Lf_tr s2 f2⟩
        refine Eq.trans ?_ (e2 P)
        rw [u7028_2]
        simp (disch := omega) only [R.n0, R.p i hin, R.q i hin, u7028_0, u7028_1, u7028_3, u7028_4, u7028_7, u7028_10, u7028_11, u7028_14, u7028_15, u7028_16, u7028_17, u7028_18, u7028_19, u7028_20, u7028_23, u7028_26, u7028_27, u7028_28, u7028_29, u7028_32, u7028_33, u7028_36, u7028_37, u7028_40, u7028_43, u7028_44, u7028_45, u7028_46, u7028_47, u7028_48, u7028_49, u7028_52, u7028_53, u7028_54, u7028_55, u7028_56, u7028_57, u7028_60, u7028_63, u7028_64, u7028_65, u7028_66, u7028_69, u7028_70, u7028_73, u7028_74, u7028_77, u7028_80, u7028_81, u7028_82, u7028_83, u7028_84, u7028_85, u7028_86, u7028_89, u7028_90, u7028_91, u7028_92, u7028_93, u7028_96, u7028_97, u7028_98, u7028_99, u7028_102, u7028_105, gt_70_0, gt_70_9, xl_71, jl_76, js_76, ki_0, ki_1, ki_1440, ki_1500, ki_1762, af_x hd_7028, decide_eq_true_eq, if_true, if_false, f2_ne, f2_eq, up_ne, up_eq, kc_int, kc_ref, kc_retAddr, kc_long, kc_double, af_n, af_v, z0, z1, n_of, nz6, nz4, bI_T, bI_F, bI_01, n_lt, n_le, n_eq, n_add, n_mul, n_sub, n_clamp, n_vp, m_lt, m_le, m_eq, m_eq2, m_ltm, m_add, true_and, and_true, eq_self, if_pos, if_neg, List.length_nil, List.length_cons, Nat.reduceAdd, Nat.reduceLeDiff, Nat.zero_le, not_true_eq_false, not_false_eq_true, true_or, or_true]
theorem m_marks (R : mR (A 71) S) (h : wS S) : ∃ L2, (∀ P, am_Ca X (d + 1) 7028 [.ref 70] (am_Z cl sl F A L) P = P (.inl none) (am_Z cl sl F A L2)) ∧ mk76 L2 S S.n ∧ Lf L L2 := by
  obtain ⟨L2, e2, m2, f2⟩ := l_marks (d := d) (X := X) (cl := cl) (sl := sl) (F := F) R h S.n 0 L am_u am_u (by omega) (fun c hc => absurd hc (by omega))
  refine ⟨L2, fun P => ?_, m2, f2⟩
  refine Eq.trans ?_ (e2 P)
  rw [c7028]
  simp (disch := omega) only [u7028_0, u7028_1, u7028_3, u7028_4, u7028_7, u7028_10, u7028_11, u7028_14, u7028_15, u7028_16, u7028_17, u7028_18, u7028_19, u7028_20, u7028_23, u7028_26, u7028_27, u7028_28, u7028_29, u7028_32, u7028_33, u7028_36, u7028_37, u7028_40, u7028_43, u7028_44, u7028_45, u7028_46, u7028_47, u7028_48, u7028_49, u7028_52, u7028_53, u7028_54, u7028_55, u7028_56, u7028_57, u7028_60, u7028_63, u7028_64, u7028_65, u7028_66, u7028_69, u7028_70, u7028_73, u7028_74, u7028_77, u7028_80, u7028_81, u7028_82, u7028_83, u7028_84, u7028_85, u7028_86, u7028_89, u7028_90, u7028_91, u7028_92, u7028_93, u7028_96, u7028_97, u7028_98, u7028_99, u7028_102, u7028_105, gt_70_0, gt_70_9, xl_71, jl_76, js_76, ki_0, ki_1, ki_1440, ki_1500, ki_1762, af_x hd_7028, decide_eq_true_eq, if_true, if_false, f2_ne, f2_eq, up_ne, up_eq, kc_int, kc_ref, kc_retAddr, kc_long, kc_double, af_n, af_v, z0, z1, n_of, nz6, nz4, bI_T, bI_F, bI_01, n_lt, n_le, n_eq, n_add, n_mul, n_sub, n_clamp, n_vp, m_lt, m_le, m_eq, m_eq2, m_ltm, m_add, true_and, and_true, eq_self, if_pos, if_neg, List.length_nil, List.length_cons, Nat.reduceAdd, Nat.reduceLeDiff, Nat.zero_le, not_true_eq_false, not_false_eq_true, true_or, or_true]
theorem l_size {x : Int64} {Z : Nat → Prop} (h : lS x Z) : ∀ (k i : Nat), i + k = 60 → am_g (d + 1) X am_m7030 4 [.long x, am_u, .int (nI (cnt (dP Z) i)), .int (nI i)] [] (am_Z cl sl F A L) P = P (.inl (some (.int (nI (cnt (dP Z) 60))))) (am_Z cl sl F A L) := by
  intro k
  induction k with
  | zero =>
    intro i hi
    obtain rfl : i = 60 := by omega
    rw [u7030_4]
    simp (disch := omega) only [Nat.add_zero, m_has h, bI_t, bI_f, u7030_0, u7030_1, u7030_2, u7030_3, u7030_5, u7030_7, u7030_10, u7030_11, u7030_12, u7030_13, u7030_16, u7030_19, u7030_20, u7030_23, u7030_24, u7030_25, u7030_26, u7030_29, u7030_32, u7030_33, ki_0, ki_1, ki_60, af_x hd_7030, decide_eq_true_eq, if_true, if_false, f2_ne, f2_eq, up_ne, up_eq, kc_int, kc_ref, kc_retAddr, kc_long, kc_double, af_n, af_v, z0, z1, n_of, nz6, nz4, bI_T, bI_F, bI_01, n_lt, n_le, n_eq, n_add, n_mul, n_sub, n_clamp, n_vp, m_lt, m_le, m_eq, m_eq2, m_ltm, m_add, true_and, and_true, eq_self, if_pos, if_neg, List.length_nil, List.length_cons, Nat.reduceAdd, Nat.reduceLeDiff, Nat.zero_le, not_true_eq_false, not_false_eq_true, true_or, or_true]
  | succ k ih =>
    intro i hi
    rw [u7030_4]
    by_cases hv : Z i
    · simp (disch := omega) only [Nat.add_zero, m_has h, bI_t, bI_f, hv, u7030_0, u7030_1, u7030_2, u7030_3, u7030_5, u7030_7, u7030_10, u7030_11, u7030_12, u7030_13, u7030_16, u7030_19, u7030_20, u7030_23, u7030_24, u7030_25, u7030_26, u7030_29, u7030_32, u7030_33, ki_0, ki_1, ki_60, af_x hd_7030, decide_eq_true_eq, if_true, if_false, f2_ne, f2_eq, up_ne, up_eq, kc_int, kc_ref, kc_retAddr, kc_long, kc_double, af_n, af_v, z0, z1, n_of, nz6, nz4, bI_T, bI_F, bI_01, n_lt, n_le, n_eq, n_add, n_mul, n_sub, n_clamp, n_vp, m_lt, m_le, m_eq, m_eq2, m_ltm, m_add, true_and, and_true, eq_self, if_pos, if_neg, List.length_nil, List.length_cons, Nat.reduceAdd, Nat.reduceLeDiff, Nat.zero_le, not_true_eq_false, not_false_eq_true, true_or, or_true]
      have e : cnt (dP Z) (i + 1) = cnt (dP Z) i + 1 := cnt_t (by simp [dP, hv])
      have h2 := ih (i + 1) (by omega)
      rw [e] at h2
      exact h2
    · simp (disch := omega) only [Nat.add_zero, m_has h, bI_t, bI_f, hv, u7030_0, u7030_1, u7030_2, u7030_3, u7030_5, u7030_7, u7030_10, u7030_11, u7030_12, u7030_13, u7030_16, u7030_19, u7030_20, u7030_23, u7030_24, u7030_25, u7030_26, u7030_29, u7030_32, u7030_33, ki_0, ki_1, ki_60, af_x hd_7030, decide_eq_true_eq, if_true, if_false, f2_ne, f2_eq, up_ne, up_eq, kc_int, kc_ref, kc_retAddr, kc_long, kc_double, af_n, af_v, z0, z1, n_of, nz6, nz4, bI_T, bI_F, bI_01, n_lt, n_le, n_eq, n_add, n_mul, n_sub, n_clamp, n_vp, m_lt, m_le, m_eq, m_eq2, m_ltm, m_add, true_and, and_true, eq_self, if_pos, if_neg, List.length_nil, List.length_cons, Nat.reduceAdd, Nat.reduceLeDiff, Nat.zero_le, not_true_eq_false, not_false_eq_true, true_or, or_true]
      have e : cnt (dP Z) (i + 1) = cnt (dP Z) i := cnt_f (by simp [dP, hv])
      have h2 := ih (i + 1) (by omega)
      rw [e] at h2
      exact h2

theorem m_size {x : Int64} {Z : Nat → Prop} (h : lS x Z) : am_Ca X (d + 2) 7030 [.long x] (am_Z cl sl F A L) P = P (.inl (some (.int (nI (cnt (dP Z) 60))))) (am_Z cl sl F A L) := by
  rw [c7030]
  simp (disch := omega) only [u7030_0, u7030_1, u7030_2, u7030_3, u7030_5, u7030_7, u7030_10, u7030_11, u7030_12, u7030_13, u7030_16, u7030_19, u7030_20, u7030_23, u7030_24, u7030_25, u7030_26, u7030_29, u7030_32, u7030_33, ki_0, ki_1, ki_60, af_x hd_7030, decide_eq_true_eq, if_true, if_false, f2_ne, f2_eq, up_ne, up_eq, kc_int, kc_ref, kc_retAddr, kc_long, kc_double, af_n, af_v, z0, z1, n_of, nz6, nz4, bI_T, bI_F, bI_01, n_lt, n_le, n_eq, n_add, n_mul, n_sub, n_clamp, n_vp, m_lt, m_le, m_eq, m_eq2, m_ltm, m_add, true_and, and_true, eq_self, if_pos, if_neg, List.length_nil, List.length_cons, Nat.reduceAdd, Nat.reduceLeDiff, Nat.zero_le, not_true_eq_false, not_false_eq_true, true_or, or_true]
  exact l_size h 60 0 rfl
theorem l_highest {x : Int64} {Z : Nat → Prop} (h : lS x Z) : ∀ (k i : Nat), i + k = 60 → am_g (d + 1) X am_m7031 4 [.long x, am_u, .int (hiC Z i), .int (nI i)] [] (am_Z cl sl F A L) P = P (.inl (some (.int (hiC Z 60)))) (am_Z cl sl F A L) := by
  intro k
  induction k with
  | zero =>
    intro i hi
    obtain rfl : i = 60 := by omega
    rw [u7031_4]
    simp (disch := omega) only [u7031_0, u7031_1, u7031_2, u7031_3, u7031_5, u7031_7, u7031_10, u7031_11, u7031_12, u7031_15, u7031_18, u7031_19, u7031_22, u7031_23, u7031_24, u7031_27, u7031_30, u7031_31, ki_m1, ki_0, ki_1, ki_60, af_x hd_7031, decide_eq_true_eq, if_true, if_false, f2_ne, f2_eq, up_ne, up_eq, kc_int, kc_ref, kc_retAddr, kc_long, kc_double, af_n, af_v, z0, z1, n_of, nz6, nz4, bI_T, bI_F, bI_01, n_lt, n_le, n_eq, n_add, n_mul, n_sub, n_clamp, n_vp, m_lt, m_le, m_eq, m_eq2, m_ltm, m_add, true_and, and_true, eq_self, if_pos, if_neg, List.length_nil, List.length_cons, Nat.reduceAdd, Nat.reduceLeDiff, Nat.zero_le, not_true_eq_false, not_false_eq_true, true_or, or_true]
  | succ k ih =>
    intro i hi
    have h2 := ih (i + 1) (by omega)
    rw [u7031_4]
    by_cases hv : Z i
    · have e : hiC Z (i + 1) = nI i := if_pos hv
      rw [e] at h2
      simp (disch := omega) only [m_has h, bI_t hv, u7031_0, u7031_1, u7031_2, u7031_3, u7031_5, u7031_7, u7031_10, u7031_11, u7031_12, u7031_15, u7031_18, u7031_19, u7031_22, u7031_23, u7031_24, u7031_27, u7031_30, u7031_31, ki_m1, ki_0, ki_1, ki_60, af_x hd_7031, decide_eq_true_eq, if_true, if_false, f2_ne, f2_eq, up_ne, up_eq, kc_int, kc_ref, kc_retAddr, kc_long, kc_double, af_n, af_v, z0, z1, n_of, nz6, nz4, bI_T, bI_F, bI_01, n_lt, n_le, n_eq, n_add, n_mul, n_sub, n_clamp, n_vp, m_lt, m_le, m_eq, m_eq2, m_ltm, m_add, true_and, and_true, eq_self, if_pos, if_neg, List.length_nil, List.length_cons, Nat.reduceAdd, Nat.reduceLeDiff, Nat.zero_le, not_true_eq_false, not_false_eq_true, true_or, or_true]
      exact h2
    · have e : hiC Z (i + 1) = hiC Z i := if_neg hv
      rw [e] at h2
      simp (disch := omega) only [m_has h, bI_f hv, u7031_0, u7031_1, u7031_2, u7031_3, u7031_5, u7031_7, u7031_10, u7031_11, u7031_12, u7031_15, u7031_18, u7031_19, u7031_22, u7031_23, u7031_24, u7031_27, u7031_30, u7031_31, ki_m1, ki_0, ki_1, ki_60, af_x hd_7031, decide_eq_true_eq, if_true, if_false, f2_ne, f2_eq, up_ne, up_eq, kc_int, kc_ref, kc_retAddr, kc_long, kc_double, af_n, af_v, z0, z1, n_of, nz6, nz4, bI_T, bI_F, bI_01, n_lt, n_le, n_eq, n_add, n_mul, n_sub, n_clamp, n_vp, m_lt, m_le, m_eq, m_eq2, m_ltm, m_add, true_and, and_true, eq_self, if_pos, if_neg, List.length_nil, List.length_cons, Nat.reduceAdd, Nat.reduceLeDiff, Nat.zero_le, not_true_eq_false, not_false_eq_true, true_or, or_true]
      exact h2
theorem m_highest {x : Int64} {Z : Nat → Prop} (h : lS x Z) : am_Ca X (d + 2) 7031 [.long x] (am_Z cl sl F A L) P = P (.inl (some (.int (hiC Z 60)))) (am_Z cl sl F A L) := by
  rw [c7031]
  simp (disch := omega) only [u7031_0, u7031_1, u7031_2, u7031_3, u7031_5, u7031_7, u7031_10, u7031_11, u7031_12, u7031_15, u7031_18, u7031_19, u7031_22, u7031_23, u7031_24, u7031_27, u7031_30, u7031_31, ki_m1, ki_0, ki_1, ki_60, af_x hd_7031, decide_eq_true_eq, if_true, if_false, f2_ne, f2_eq, up_ne, up_eq, kc_int, kc_ref, kc_retAddr, kc_long, kc_double, af_n, af_v, z0, z1, n_of, nz6, nz4, bI_T, bI_F, bI_01, n_lt, n_le, n_eq, n_add, n_mul, n_sub, n_clamp, n_vp, m_lt, m_le, m_eq, m_eq2, m_ltm, m_add, true_and, and_true, eq_self, if_pos, if_neg, List.length_nil, List.length_cons, Nat.reduceAdd, Nat.reduceLeDiff, Nat.zero_le, not_true_eq_false, not_false_eq_true, true_or, or_true]
  exact l_highest h 60 0 rfl
theorem m_isReached (R : mR (A 71) S) (h : wS S) {c o : Nat} (hc : c < S.n) (ho : o < 60) : ∃ L2, (∀ P, am_Ca X (d + 2) 7032 [.ref 70, .int (nI c), .int (nI o)] (am_Z cl sl F A L) P = P (.inl (some (.int (bI (Re S.p S.q c o))))) (am_Z cl sl F A L2)) ∧ Lf L L2 := by
  have h60 := h.n60
  obtain ⟨L2, e2, m2, f2⟩ := m_marks (d := d) (X := X) (cl := cl) (sl := sl) (F := F) (L := L) R h
  refine ⟨L2, fun P => ?_, f2⟩
  rw [c7032]
  simp (disch := omega) only [e2, m_has (m2 c hc), u7032_0, u7032_1, u7032_4, u7032_5, u7032_8, u7032_9, u7032_10, u7032_11, u7032_14, ob_70, gt_70_9, jl_76, af_x hd_7032, decide_eq_true_eq, if_true, if_false, f2_ne, f2_eq, up_ne, up_eq, kc_int, kc_ref, kc_retAddr, kc_long, kc_double, af_n, af_v, z0, z1, n_of, nz6, nz4, bI_T, bI_F, bI_01, n_lt, n_le, n_eq, n_add, n_mul, n_sub, n_clamp, n_vp, m_lt, m_le, m_eq, m_eq2, m_ltm, m_add, true_and, and_true, eq_self, if_pos, if_neg, List.length_nil, List.length_cons, Nat.reduceAdd, Nat.reduceLeDiff, Nat.zero_le, not_true_eq_false, not_false_eq_true, true_or, or_true]
theorem m_root (R : mR (A 71) S) (h : wS S) {c o : Nat} (hc : c < S.n) (ho : o < S.n) : ∃ L2, (∀ P, am_Ca X (d + 3) 7033 [.ref 70, .int (nI c), .int (nI o)] (am_Z cl sl F A L) P = P (.inl (some (.int (hiC (fun x => Re S.p S.q c x ∧ Re S.p S.q o x) 60)))) (am_Z cl sl F A L2)) ∧ Lf L L2 := by
  have h60 := h.n60
  obtain ⟨L2, e2, m2, f2⟩ := m_marks (d := d + 1) (X := X) (cl := cl) (sl := sl) (F := F) (L := L) R h
  refine ⟨L2, fun P => ?_, f2⟩
  rw [c7033]
  simp (disch := omega) only [e2, m_highest (lS_and (m2 c hc) (m2 o ho)), u7033_0, u7033_1, u7033_4, u7033_5, u7033_8, u7033_9, u7033_10, u7033_11, u7033_14, u7033_15, u7033_16, u7033_17, u7033_20, ob_70, gt_70_9, jl_76, af_x hd_7033, decide_eq_true_eq, if_true, if_false, f2_ne, f2_eq, up_ne, up_eq, kc_int, kc_ref, kc_retAddr, kc_long, kc_double, af_n, af_v, z0, z1, n_of, nz6, nz4, bI_T, bI_F, bI_01, n_lt, n_le, n_eq, n_add, n_mul, n_sub, n_clamp, n_vp, m_lt, m_le, m_eq, m_eq2, m_ltm, m_add, true_and, and_true, eq_self, if_pos, if_neg, List.length_nil, List.length_cons, Nat.reduceAdd, Nat.reduceLeDiff, Nat.zero_le, not_true_eq_false, not_false_eq_true, true_or, or_true]
end M9
