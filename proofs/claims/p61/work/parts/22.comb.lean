/-! Combination (object 17; arrays: 18 the old tree, 19 the new one, 20 the third, 21 the other sides) -/
def cmB (o w t : Nat → Int32) : Nat → Bool := fun i => decide (¬ w i = o i ∧ ¬ w i = t i ∧ t i = o i)
def cmC (o w t : Nat → Int32) : Nat → Bool := fun i => decide (¬ w i = o i ∧ ¬ w i = t i ∧ ¬ t i = o i)
def cmT (o w t : Nat → Int32) (k : Nat) : Nat → Int32 := fun i => if i < k ∧ cmB o w t i = true then w i else t i
def cmS (o w t g : Nat → Int32) (k : Nat) : Nat → Int32 := fun i => if i < k then (if cmC o w t i = true then w i else m1) else g i
theorem cmT_at {o w t : Nat → Int32} {k : Nat} : cmT o w t k k = t k := by
  unfold cmT
  rw [if_neg (by omega)]
theorem cmT_t {o w t : Nat → Int32} {k : Nat} (h : cmB o w t k = true) : va_up (cmT o w t k) k (w k) = cmT o w t (k + 1) := by
  funext j
  unfold va_up cmT
  by_cases hj : j = k
  · subst hj; rw [if_pos rfl, if_pos ⟨by omega, h⟩]
  · rw [if_neg hj]
    have e : (j < k ∧ cmB o w t j = true) ↔ (j < k + 1 ∧ cmB o w t j = true) := ⟨fun z => ⟨by omega, z.2⟩, fun z => ⟨by omega, z.2⟩⟩
    simp only [e]
theorem cmT_f {o w t : Nat → Int32} {k : Nat} (h : cmB o w t k = false) : cmT o w t (k + 1) = cmT o w t k := by
  funext j
  unfold cmT
  by_cases hj : j = k
  · subst hj; rw [if_neg (by rw [h]; simp), if_neg (by omega)]
  · have e : (j < k ∧ cmB o w t j = true) ↔ (j < k + 1 ∧ cmB o w t j = true) := ⟨fun z => ⟨by omega, z.2⟩, fun z => ⟨by omega, z.2⟩⟩
    simp only [e]
theorem cmS_t {o w t g : Nat → Int32} {k : Nat} (h : cmC o w t k = true) : va_up (va_up (cmS o w t g k) k m1) k (w k) = cmS o w t g (k + 1) := by
  funext j
  unfold va_up cmS
  by_cases hj : j = k
  · subst hj; rw [if_pos rfl, if_pos (by omega), if_pos h]
  · rw [if_neg hj, if_neg hj]
    by_cases h2 : j < k
    · rw [if_pos h2, if_pos (show j < k + 1 by omega)]
    · rw [if_neg h2, if_neg (by omega)]
theorem cmS_f {o w t g : Nat → Int32} {k : Nat} (h : cmC o w t k = false) : va_up (cmS o w t g k) k m1 = cmS o w t g (k + 1) := by
  funext j
  unfold va_up cmS
  by_cases hj : j = k
  · subst hj; rw [if_pos rfl, if_pos (by omega), if_neg (by rw [h]; decide)]
  · rw [if_neg hj]
    by_cases h2 : j < k
    · rw [if_pos h2, if_pos (show j < k + 1 by omega)]
    · rw [if_neg h2, if_neg (by omega)]
/-- the scalars becoming and conflicting; the rows 20 and 21 -/
def kmF (F : Nat → Nat → Int32) (x y : Int32) : Nat → Nat → Int32 := am_f2 (am_f2 F 17 4 x) 17 5 y
def kmA (A : Nat → Nat → Int32) (T S : Nat → Int32) : Nat → Nat → Int32 := va_up (va_up A 20 T) 21 S
section KM
variable {F A : Nat → Nat → Int32} {x y z : Int32} {T S R : Nat → Int32} {i : Nat}
theorem kmF_r4 : kmF F x y 17 4 = x := by simp [kmF, am_f2, va_up]
theorem kmF_r5 : kmF F x y 17 5 = y := by simp [kmF, am_f2, va_up]
theorem kmF_ne {o : Nat} (h : o ≠ 17) : kmF F x y o = F o := by unfold kmF; rw [f2_ne h, f2_ne h]
theorem kmF_w4 : am_f2 (kmF F x y) 17 4 z = kmF F z y := by
  funext a b
  unfold kmF am_f2 va_up
  by_cases h : a = 17
  · subst h
    by_cases h4 : b = 4
    · subst h4; simp
    · simp [h4]
  · simp [h]
theorem kmF_w5 : am_f2 (kmF F x y) 17 5 z = kmF F x z := by
  funext a b
  unfold kmF am_f2 va_up
  by_cases h : a = 17
  · subst h
    by_cases h4 : b = 5
    · subst h4; simp
    · simp [h4]
  · simp [h]
theorem kmA_20 : kmA A T S 20 = T := by simp [kmA, va_up]
theorem kmA_21 : kmA A T S 21 = S := by simp [kmA, va_up]
theorem kmA_ne {o : Nat} (h : o ≠ 20) (h2 : o ≠ 21) : kmA A T S o = A o := by unfold kmA; rw [up_ne h2, up_ne h]
theorem kmA_w20 {v : Int32} : am_f2 (kmA A T S) 20 i v = kmA A (va_up T i v) S := by
  funext a
  unfold kmA am_f2
  by_cases h : a = 20
  · subst h; simp [va_up]
  · by_cases h1 : a = 21
    · subst h1; simp [va_up]
    · simp [va_up, h, h1]
theorem kmA_w21 {v : Int32} : am_f2 (kmA A T S) 21 i v = kmA A T (va_up S i v) := by
  funext a
  unfold kmA am_f2
  by_cases h : a = 21
  · subst h; simp [va_up]
  · by_cases h1 : a = 20
    · subst h1; simp [va_up]
    · simp [va_up, h, h1]
theorem kmF_mk : am_f2 (am_f2 F 17 4 x) 17 5 y = kmF F x y := rfl
theorem kmA_id : kmA A (A 20) (A 21) = A := by
  funext a
  unfold kmA va_up
  by_cases h : a = 21
  · subst h; simp
  · by_cases h1 : a = 20
    · subst h1; simp
    · simp [h, h1]
end KM
section CB
variable {d cl sl : Nat} {X : am_X} {F A : Nat → Nat → Int32} {L : Nat → Nat → Int64} {P : am_Q} {v2 : Value}
theorem l_combine : ∀ (k i : Nat) (v2 : Value), v2 = am_kc v2 → i + k = 24 → am_g d X am_m2 12 [.ref 17, .int (nI i), v2] [] (am_Z cl sl (kmF F (nI (cnt (cmB (A 18) (A 19) (A 20)) i)) (nI (cnt (cmC (A 18) (A 19) (A 20)) i))) (kmA A (cmT (A 18) (A 19) (A 20) i) (cmS (A 18) (A 19) (A 20) (A 21) i)) L) P =
    P (.inl none) (am_Z cl sl (kmF F (nI (cnt (cmB (A 18) (A 19) (A 20)) 24)) (nI (cnt (cmC (A 18) (A 19) (A 20)) 24))) (kmA A (cmT (A 18) (A 19) (A 20) 24) (cmS (A 18) (A 19) (A 20) (A 21) 24)) L) := by
  intro k
  induction k with
  | zero =>
    intro i v2 _ hi
    obtain rfl : i = 24 := by omega
    rw [u2_12]
    simp (disch := omega) only [u2_0, u2_1, u2_2, u2_5, u2_6, u2_7, u2_10, u2_11, u2_13, u2_15, u2_18, u2_19, u2_22, u2_23, u2_24, u2_25, u2_26, u2_29, u2_30, u2_31, u2_32, u2_33, u2_34, u2_37, u2_38, u2_39, u2_42, u2_43, u2_44, u2_47, u2_48, u2_49, u2_52, u2_55, u2_56, u2_59, u2_60, u2_61, u2_62, u2_65, u2_66, u2_67, u2_70, u2_71, u2_74, u2_75, u2_76, u2_77, u2_78i, u2_78r, u2_79, u2_82, u2_83, u2_84, u2_87, u2_90, u2_91, u2_94, u2_95, u2_96, u2_97, u2_98i, u2_98r, u2_99, u2_102, u2_103, u2_104, u2_107, u2_110, u2_113, pt_17_4, pt_17_5, gt_17_3, gt_17_1, gt_17_0, gt_17_2, gt_17_4, gt_17_5, xl_18, xs_18, xl_19, xs_19, xl_20, xs_20, xl_21, xs_21, ki_m1, ki_0, ki_1, ki_24, af_x hd_2, decide_eq_true_eq, if_true, if_false, f2_ne, f2_eq, up_ne, up_eq, kc_int, kc_ref, kc_retAddr, kc_long, kc_double, af_n, af_v, z0, z1, n_of, nz6, nz4, bI_T, bI_F, bI_01, n_lt, n_le, n_eq, n_add, n_mul, n_sub, n_clamp, n_vp, m_lt, m_le, m_eq, m_eq2, m_ltm, m_add, true_and, and_true, eq_self, if_pos, if_neg, List.length_nil, List.length_cons, Nat.reduceAdd, Nat.reduceLeDiff, Nat.zero_le, not_true_eq_false, not_false_eq_true, true_or, or_true]
  | succ k ih =>
    intro i v2 hv2 hi
    rw [u2_12]
    simp (disch := omega) only [kmF_r4, kmF_r5, kmF_w4, kmF_w5, kmA_20, kmA_21, kmA_w20, kmA_w21, kmA_ne, cmT_at, u2_0, u2_1, u2_2, u2_5, u2_6, u2_7, u2_10, u2_11, u2_13, u2_15, u2_18, u2_19, u2_22, u2_23, u2_24, u2_25, u2_26, u2_29, u2_30, u2_31, u2_32, u2_33, u2_34, u2_37, u2_38, u2_39, u2_42, u2_43, u2_44, u2_47, u2_48, u2_49, u2_52, u2_55, u2_56, u2_59, u2_60, u2_61, u2_62, u2_65, u2_66, u2_67, u2_70, u2_71, u2_74, u2_75, u2_76, u2_77, u2_78i, u2_78r, u2_79, u2_82, u2_83, u2_84, u2_87, u2_90, u2_91, u2_94, u2_95, u2_96, u2_97, u2_98i, u2_98r, u2_99, u2_102, u2_103, u2_104, u2_107, u2_110, u2_113, pt_17_4, pt_17_5, gt_17_3, gt_17_1, gt_17_0, gt_17_2, gt_17_4, gt_17_5, xl_18, xs_18, xl_19, xs_19, xl_20, xs_20, xl_21, xs_21, ki_m1, ki_0, ki_1, ki_24, af_x hd_2, decide_eq_true_eq, if_true, if_false, f2_ne, f2_eq, up_ne, up_eq, kc_int, kc_ref, kc_retAddr, kc_long, kc_double, af_n, af_v, z0, z1, n_of, nz6, nz4, bI_T, bI_F, bI_01, n_lt, n_le, n_eq, n_add, n_mul, n_sub, n_clamp, n_vp, m_lt, m_le, m_eq, m_eq2, m_ltm, m_add, true_and, and_true, eq_self, if_pos, if_neg, List.length_nil, List.length_cons, Nat.reduceAdd, Nat.reduceLeDiff, Nat.zero_le, not_true_eq_false, not_false_eq_true, true_or, or_true]
    by_cases h1 : A 19 i = A 18 i
    · have eB : cmB (A 18) (A 19) (A 20) i = false := by simp [cmB, h1]
      have eC : cmC (A 18) (A 19) (A 20) i = false := by simp [cmC, h1]
      rw [if_pos h1, cmS_f eC, ← cmT_f eB, ← cnt_f eB, ← cnt_f eC]
      exact ih (i + 1) _ rfl (by omega)
    · rw [if_neg h1]
      by_cases h2 : A 19 i = A 20 i
      · have eB : cmB (A 18) (A 19) (A 20) i = false := by simp [cmB, h2]
        have eC : cmC (A 18) (A 19) (A 20) i = false := by simp [cmC, h2]
        rw [if_neg (by rw [h2]; simp), cmS_f eC, ← cmT_f eB, ← cnt_f eB, ← cnt_f eC]
        exact ih (i + 1) _ rfl (by omega)
      · rw [if_pos h2]
        by_cases h3 : A 20 i = A 18 i
        · have eB : cmB (A 18) (A 19) (A 20) i = true := by simp [cmB, h1, h2, h3]
          have eC : cmC (A 18) (A 19) (A 20) i = false := by simp [cmC, h3]
          rw [if_neg (by rw [h3]; simp), cmS_f eC, cmT_t eB, ← cnt_t eB, ← cnt_f eC]
          exact ih (i + 1) _ rfl (by omega)
        · have eB : cmB (A 18) (A 19) (A 20) i = false := by simp [cmB, h3]
          have eC : cmC (A 18) (A 19) (A 20) i = true := by simp [cmC, h1, h2, h3]
          rw [if_pos h3, cmS_t eC, ← cmT_f eB, ← cnt_f eB, ← cnt_t eC]
          exact ih (i + 1) _ rfl (by omega)
theorem s_combine : am_Ca X (d + 1) 2 [.ref 17] (am_Z cl sl F A L) P = P (.inl none) (am_Z cl sl (kmF F (nI (cnt (cmB (A 18) (A 19) (A 20)) 24)) (nI (cnt (cmC (A 18) (A 19) (A 20)) 24))) (kmA A (cmT (A 18) (A 19) (A 20) 24) (cmS (A 18) (A 19) (A 20) (A 21) 24)) L) := by
  rw [c2]
  simp (disch := omega) only [kmF_mk, u2_0, u2_1, u2_2, u2_5, u2_6, u2_7, u2_10, u2_11, u2_13, u2_15, u2_18, u2_19, u2_22, u2_23, u2_24, u2_25, u2_26, u2_29, u2_30, u2_31, u2_32, u2_33, u2_34, u2_37, u2_38, u2_39, u2_42, u2_43, u2_44, u2_47, u2_48, u2_49, u2_52, u2_55, u2_56, u2_59, u2_60, u2_61, u2_62, u2_65, u2_66, u2_67, u2_70, u2_71, u2_74, u2_75, u2_76, u2_77, u2_78i, u2_78r, u2_79, u2_82, u2_83, u2_84, u2_87, u2_90, u2_91, u2_94, u2_95, u2_96, u2_97, u2_98i, u2_98r, u2_99, u2_102, u2_103, u2_104, u2_107, u2_110, u2_113, pt_17_4, pt_17_5, gt_17_3, gt_17_1, gt_17_0, gt_17_2, gt_17_4, gt_17_5, xl_18, xs_18, xl_19, xs_19, xl_20, xs_20, xl_21, xs_21, ki_m1, ki_0, ki_1, ki_24, af_x hd_2, decide_eq_true_eq, if_true, if_false, f2_ne, f2_eq, up_ne, up_eq, kc_int, kc_ref, kc_retAddr, kc_long, kc_double, af_n, af_v, z0, z1, n_of, nz6, nz4, bI_T, bI_F, bI_01, n_lt, n_le, n_eq, n_add, n_mul, n_sub, n_clamp, n_vp, m_lt, m_le, m_eq, m_eq2, m_ltm, m_add, true_and, and_true, eq_self, if_pos, if_neg, List.length_nil, List.length_cons, Nat.reduceAdd, Nat.reduceLeDiff, Nat.zero_le, not_true_eq_false, not_false_eq_true, true_or, or_true]
  have h := l_combine (d := d) (X := X) (F := F) (A := A) (L := L) (cl := cl) (sl := sl) (P := P) 24 0 am_u rfl rfl
  have e1 : cmT (A 18) (A 19) (A 20) 0 = A 20 := by
    funext j
    unfold cmT
    rw [if_neg (by omega)]
  have e2 : cmS (A 18) (A 19) (A 20) (A 21) 0 = A 21 := by
    funext j
    unfold cmS
    rw [if_neg (by omega)]
  rw [e1, e2, kmA_id] at h
  exact h
theorem s_isEmpty {x y : Nat} (h1 : F 17 4 = nI x) (h2 : F 17 5 = nI y) (hx : x ≤ 24) (hy : y ≤ 24) : am_Ca X (d + 1) 3 [.ref 17] (am_Z cl sl F A L) P = P (.inl (some (.int (nI (if x = 0 ∧ y = 0 then 1 else 0))))) (am_Z cl sl F A L) := by
  rw [c3]
  by_cases e1 : x = 0
  · by_cases e2 : y = 0
    · simp (disch := omega) only [h1, h2, u3_0, u3_1, u3_4, u3_7, u3_8, u3_11, u3_14, u3_15, u3_18, u3_19, gt_17_4, gt_17_5, ki_0, ki_1, af_x hd_3, decide_eq_true_eq, if_true, if_false, f2_ne, f2_eq, up_ne, up_eq, kc_int, kc_ref, kc_retAddr, kc_long, kc_double, af_n, af_v, z0, z1, n_of, nz6, nz4, bI_T, bI_F, bI_01, n_lt, n_le, n_eq, n_add, n_mul, n_sub, n_clamp, n_vp, m_lt, m_le, m_eq, m_eq2, m_ltm, m_add, true_and, and_true, eq_self, if_pos, if_neg, List.length_nil, List.length_cons, Nat.reduceAdd, Nat.reduceLeDiff, Nat.zero_le, not_true_eq_false, not_false_eq_true, true_or, or_true]
    · simp (disch := omega) only [h1, h2, u3_0, u3_1, u3_4, u3_7, u3_8, u3_11, u3_14, u3_15, u3_18, u3_19, gt_17_4, gt_17_5, ki_0, ki_1, af_x hd_3, decide_eq_true_eq, if_true, if_false, f2_ne, f2_eq, up_ne, up_eq, kc_int, kc_ref, kc_retAddr, kc_long, kc_double, af_n, af_v, z0, z1, n_of, nz6, nz4, bI_T, bI_F, bI_01, n_lt, n_le, n_eq, n_add, n_mul, n_sub, n_clamp, n_vp, m_lt, m_le, m_eq, m_eq2, m_ltm, m_add, true_and, and_true, eq_self, if_pos, if_neg, List.length_nil, List.length_cons, Nat.reduceAdd, Nat.reduceLeDiff, Nat.zero_le, not_true_eq_false, not_false_eq_true, true_or, or_true]
  · simp (disch := omega) only [h1, h2, u3_0, u3_1, u3_4, u3_7, u3_8, u3_11, u3_14, u3_15, u3_18, u3_19, gt_17_4, gt_17_5, ki_0, ki_1, af_x hd_3, decide_eq_true_eq, if_true, if_false, f2_ne, f2_eq, up_ne, up_eq, kc_int, kc_ref, kc_retAddr, kc_long, kc_double, af_n, af_v, z0, z1, n_of, nz6, nz4, bI_T, bI_F, bI_01, n_lt, n_le, n_eq, n_add, n_mul, n_sub, n_clamp, n_vp, m_lt, m_le, m_eq, m_eq2, m_ltm, m_add, true_and, and_true, eq_self, if_pos, if_neg, List.length_nil, List.length_cons, Nat.reduceAdd, Nat.reduceLeDiff, Nat.zero_le, not_true_eq_false, not_false_eq_true, true_or, or_true]
end CB
