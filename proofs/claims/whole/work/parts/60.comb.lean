/-! THE MODEL: a change is combined with the working tree -/
theorem at24_cg {f g : Nat → Int32} {a : Nat} {o : Nat → Nat} (h : at24 f a o) (e : ∀ k, a ≤ k → k < a + 24 → g k = f k) : at24 g a o := ⟨h.1, fun i hi => by rw [e (a + i) (by omega) (by omega)]; exact h.2 i hi⟩
def coR (o w t : Nat → Nat) (i : Nat) (f : Nat → Int32) : Nat → Int32 := fun k => if 1567 ≤ k ∧ k < 1567 + i then nI (kT o w t (k - 1567)) else if 1591 ≤ k ∧ k < 1591 + i then nI (kO o w t (k - 1591)) else f k
theorem coR_0 {o w t : Nat → Nat} {f : Nat → Int32} : coR o w t 0 f = f := by
  funext k
  unfold coR
  rw [if_neg (by omega), if_neg (by omega)]
theorem coR_out {o w t : Nat → Nat} {f : Nat → Int32} {i k : Nat} (hi : i ≤ 24) (h : k < 1567 ∨ 1615 ≤ k) : coR o w t i f k = f k := by
  unfold coR
  rw [if_neg (by omega), if_neg (by omega)]
theorem coR_w {o w t : Nat → Nat} {f : Nat → Int32} {i j : Nat} (hi : i ≤ 24) (h : j < 24) : coR o w t i f (1567 + j) = if j < i then nI (kT o w t j) else f (1567 + j) := by
  unfold coR
  by_cases e : j < i
  · rw [if_pos (by omega), if_pos e, show 1567 + j - 1567 = j by omega]
  · rw [if_neg (by omega), if_neg (by omega), if_neg e]
theorem coR_o {o w t : Nat → Nat} {f : Nat → Int32} {j : Nat} (h : j < 24) : coR o w t 24 f (1591 + j) = nI (kO o w t j) := by
  unfold coR
  rw [if_neg (by omega), if_pos (by omega), show 1591 + j - 1591 = j by omega]
theorem coR_s {o w t : Nat → Nat} {f : Nat → Int32} {i : Nat} (hi : i < 24) : va_up (va_up (coR o w t i f) (1591 + i) (nI (kO o w t i))) (1567 + i) (nI (kT o w t i)) = coR o w t (i + 1) f := by
  funext k
  by_cases e : k = 1567 + i
  · subst e
    rw [up_eq, coR_w (by omega) hi, if_pos (by omega)]
  · rw [up_ne e]
    by_cases e2 : k = 1591 + i
    · subst e2
      rw [up_eq]
      unfold coR
      rw [if_neg (by omega), if_pos (by omega), show 1591 + i - 1591 = i by omega]
    · rw [up_ne e2]
      unfold coR
      by_cases h1 : 1567 ≤ k ∧ k < 1567 + i
      · rw [if_pos h1, if_pos (by omega)]
      · rw [if_neg h1, if_neg (c := 1567 ≤ k ∧ k < 1567 + (i + 1)) (by omega)]
        by_cases h2 : 1591 ≤ k ∧ k < 1591 + i
        · rw [if_pos h2, if_pos (by omega)]
        · rw [if_neg h2, if_neg (by omega)]
/-- the working tree half way -/
def hw (o w t : Nat → Nat) (i : Nat) : Nat → Nat := fun j => if j < i then kT o w t j else t j
theorem hw_k {o w t : Nat → Nat} {i : Nat} : kC o w (hw o w t i) i = kC o w t i ∧ kB o w (hw o w t i) i = kB o w t i := by
  have e : hw o w t i i = t i := if_neg (Nat.lt_irrefl i)
  unfold kC kB
  rw [e]
  exact ⟨rfl, rfl⟩
theorem at_hw {b : Nat} {o w t : Nat → Nat} {f : Nat → Int32} {i : Nat} (h2 : at24 f b w) (h3 : at24 f 1567 t) (hi : i ≤ 24) : at24 (coR o w t i f) 1567 (hw o w t i) := by
  refine ⟨by decide, fun j hj => ?_⟩
  rw [coR_w hi hj]
  unfold hw
  by_cases e : j < i
  · rw [if_pos e, if_pos e]; exact ⟨rfl, kT_lt (h2.2 j hj).2 (h3.2 j hj).2⟩
  · rw [if_neg e, if_neg e]; exact h3.2 j hj
section MA
variable {d cl sl : Nat} {X : am_X} {F A : Nat → Nat → Int32} {L : Nat → Nat → Int64} {P : am_Q} {a b : Nat} {o w t : Nat → Nat} {f : Nat → Int32}
theorem l_combines (h1 : at24 f a o) (h2 : at24 f b w) (h3 : at24 f 1567 t) (ha : a + 24 ≤ 1567 ∨ 1615 ≤ a) (hb : b + 24 ≤ 1567 ∨ 1615 ≤ b) : ∀ (k i : Nat) (v5 : Value), i + k = 24 → am_g (d + 1) X am_m7027 5 [.ref 70, .int (nI a), .int (nI b), .int (nI (cnt (kC o w t) i)), .int (nI i), v5] [] (am_Z cl sl F (va_up A 71 (coR o w t i f)) L) P = P (.inl (some (.int (nI (cnt (kC o w t) 24))))) (am_Z cl sl F (va_up A 71 (coR o w t 24 f)) L) := by
  intro k
  have a1 := h1.1
  have b1 := h2.1
  induction k with
  | zero =>
    intro i v5 hi
    obtain rfl : i = 24 := by omega
    rw [u7027_5]
    simp (disch := omega) only [u7027_0, u7027_1, u7027_2, u7027_3, u7027_7, u7027_9, u7027_12, u7027_13, u7027_14, u7027_15, u7027_18, u7027_20, u7027_23, u7027_25, u7027_26, u7027_28, u7027_31, u7027_32, u7027_35, u7027_36, u7027_37, u7027_38, u7027_39, u7027_42, u7027_45, u7027_47, u7027_48, u7027_50, u7027_53, u7027_54, u7027_57, u7027_58, u7027_60, u7027_61, u7027_62, u7027_63, u7027_64, u7027_67, u7027_68, u7027_69, u7027_70, u7027_73, u7027_76, u7027_78, u7027_79, u7027_80, u7027_81, u7027_82, u7027_85, u7027_87, u7027_90, u7027_93, u7027_94, u7027_97, u7027_98, u7027_100, u7027_101, u7027_102, u7027_105, u7027_106, u7027_109, u7027_112, u7027_114, u7027_115, u7027_116, u7027_117, u7027_120, u7027_123, u7027_124, ob_70, gt_70_0, xl_71, xs_71, ki_0, ki_1, ki_1567, ki_1591, ki_24, af_x hd_7027, decide_eq_true_eq, if_true, if_false, f2_ne, f2_eq, up_ne, up_eq, kc_int, kc_ref, kc_retAddr, kc_long, kc_double, af_n, af_v, z0, z1, n_of, nz6, nz4, bI_T, bI_F, bI_01, n_lt, n_le, n_eq, n_add, n_mul, n_sub, n_clamp, n_vp, m_lt, m_le, m_eq, m_eq2, m_ltm, m_add, true_and, and_true, eq_self, if_pos, if_neg, List.length_nil, List.length_cons, Nat.reduceAdd, Nat.reduceLeDiff, Nat.zero_le, not_true_eq_false, not_false_eq_true, true_or, or_true]
  | succ k ih =>
    intro i v5 hi
    have hi24 : i < 24 := by omega
    have g1 : at24 ((va_up A 71 (coR o w t i f)) 71) a o := by rw [up_eq]; exact at24_cg h1 fun k h1 h2 => coR_out (by omega) (by omega)
    have g2 : at24 ((va_up A 71 (coR o w t i f)) 71) b w := by rw [up_eq]; exact at24_cg h2 fun k h1 h2 => coR_out (by omega) (by omega)
    have g3 : at24 ((va_up A 71 (coR o w t i f)) 71) 1567 (hw o w t i) := by rw [up_eq]; exact at_hw h2 h3 (by omega)
    have ec := fun {Q : am_Q} => m_clash (d := d) (X := X) (cl := cl) (sl := sl) (F := F) (L := L) (P := Q) g1 g2 g3 hi24
    rw [hw_k.1] at ec
    have eb : ∀ {v : Int32} {Q : am_Q}, am_Ca X (d + 1) 7023 [.ref 70, .int (nI a), .int (nI b), .int (nI 1567), .int (nI i)] (am_Z cl sl F (va_up A 71 (va_up (coR o w t i f) (1591 + i) v)) L) Q = Q (.inl (some (.int (bI (kB o w t i = true))))) (am_Z cl sl F (va_up A 71 (va_up (coR o w t i f) (1591 + i) v)) L) := by
      intro v Q
      have k1 : at24 ((va_up A 71 (va_up (coR o w t i f) (1591 + i) v)) 71) a o := by rw [up_eq]; rw [up_eq] at g1; exact at24_cg g1 fun k h1 h2 => up_ne (by omega)
      have k2 : at24 ((va_up A 71 (va_up (coR o w t i f) (1591 + i) v)) 71) b w := by rw [up_eq]; rw [up_eq] at g2; exact at24_cg g2 fun k h1 h2 => up_ne (by omega)
      have k3 : at24 ((va_up A 71 (va_up (coR o w t i f) (1591 + i) v)) 71) 1567 (hw o w t i) := by rw [up_eq]; rw [up_eq] at g3; exact at24_cg g3 fun k h1 h2 => up_ne (by omega)
      rw [m_comes k1 k2 k3 hi24, hw_k.2]
    have ew : coR o w t i f (1567 + i) = nI (t i) := by rw [coR_w (by omega) hi24, if_neg (by omega)]; exact (h3.2 i hi24).1
    have ey : coR o w t i f (b + i) = nI (w i) := by rw [coR_out (by omega) (by omega)]; exact (h2.2 i hi24).1
    have es := coR_s (o := o) (w := w) (t := t) (f := f) hi24
    rw [u7027_5]
    by_cases hc : kC o w t i = true
    · have eo : kO o w t i = w i + 1 := if_pos hc
      rw [eo] at es
      have e := cnt_t hc
      have h9 := fun v5 => ih (i + 1) v5 (by omega)
      rw [e] at h9
      by_cases hb : kB o w t i = true
      · have et : kT o w t i = w i := if_pos hb
        rw [et] at es
        simp (disch := omega) only [ec, bI_t hc, f2_up, ey, eb, bI_t hb, es, u7027_0, u7027_1, u7027_2, u7027_3, u7027_7, u7027_9, u7027_12, u7027_13, u7027_14, u7027_15, u7027_18, u7027_20, u7027_23, u7027_25, u7027_26, u7027_28, u7027_31, u7027_32, u7027_35, u7027_36, u7027_37, u7027_38, u7027_39, u7027_42, u7027_45, u7027_47, u7027_48, u7027_50, u7027_53, u7027_54, u7027_57, u7027_58, u7027_60, u7027_61, u7027_62, u7027_63, u7027_64, u7027_67, u7027_68, u7027_69, u7027_70, u7027_73, u7027_76, u7027_78, u7027_79, u7027_80, u7027_81, u7027_82, u7027_85, u7027_87, u7027_90, u7027_93, u7027_94, u7027_97, u7027_98, u7027_100, u7027_101, u7027_102, u7027_105, u7027_106, u7027_109, u7027_112, u7027_114, u7027_115, u7027_116, u7027_117, u7027_120, u7027_123, u7027_124, ob_70, gt_70_0, xl_71, xs_71, ki_0, ki_1, ki_1567, ki_1591, ki_24, af_x hd_7027, decide_eq_true_eq, if_true, if_false, f2_ne, f2_eq, up_ne, up_eq, kc_int, kc_ref, kc_retAddr, kc_long, kc_double, af_n, af_v, z0, z1, n_of, nz6, nz4, bI_T, bI_F, bI_01, n_lt, n_le, n_eq, n_add, n_mul, n_sub, n_clamp, n_vp, m_lt, m_le, m_eq, m_eq2, m_ltm, m_add, true_and, and_true, eq_self, if_pos, if_neg, List.length_nil, List.length_cons, Nat.reduceAdd, Nat.reduceLeDiff, Nat.zero_le, not_true_eq_false, not_false_eq_true, true_or, or_true]
        exact h9 _
      · have et : kT o w t i = t i := if_neg hb
        rw [et] at es
        simp (disch := omega) only [ec, bI_t hc, f2_up, ey, ew, eb, bI_f hb, es, u7027_0, u7027_1, u7027_2, u7027_3, u7027_7, u7027_9, u7027_12, u7027_13, u7027_14, u7027_15, u7027_18, u7027_20, u7027_23, u7027_25, u7027_26, u7027_28, u7027_31, u7027_32, u7027_35, u7027_36, u7027_37, u7027_38, u7027_39, u7027_42, u7027_45, u7027_47, u7027_48, u7027_50, u7027_53, u7027_54, u7027_57, u7027_58, u7027_60, u7027_61, u7027_62, u7027_63, u7027_64, u7027_67, u7027_68, u7027_69, u7027_70, u7027_73, u7027_76, u7027_78, u7027_79, u7027_80, u7027_81, u7027_82, u7027_85, u7027_87, u7027_90, u7027_93, u7027_94, u7027_97, u7027_98, u7027_100, u7027_101, u7027_102, u7027_105, u7027_106, u7027_109, u7027_112, u7027_114, u7027_115, u7027_116, u7027_117, u7027_120, u7027_123, u7027_124, ob_70, gt_70_0, xl_71, xs_71, ki_0, ki_1, ki_1567, ki_1591, ki_24, af_x hd_7027, decide_eq_true_eq, if_true, if_false, f2_ne, f2_eq, up_ne, up_eq, kc_int, kc_ref, kc_retAddr, kc_long, kc_double, af_n, af_v, z0, z1, n_of, nz6, nz4, bI_T, bI_F, bI_01, n_lt, n_le, n_eq, n_add, n_mul, n_sub, n_clamp, n_vp, m_lt, m_le, m_eq, m_eq2, m_ltm, m_add, true_and, and_true, eq_self, if_pos, if_neg, List.length_nil, List.length_cons, Nat.reduceAdd, Nat.reduceLeDiff, Nat.zero_le, not_true_eq_false, not_false_eq_true, true_or, or_true]
        exact h9 _
    · have eo : kO o w t i = 0 := if_neg hc
      rw [eo] at es
      have e := cnt_f (p := kC o w t) (i := i) (by simpa using hc)
      have h9 := fun v5 => ih (i + 1) v5 (by omega)
      rw [e] at h9
      by_cases hb : kB o w t i = true
      · have et : kT o w t i = w i := if_pos hb
        rw [et] at es
        simp (disch := omega) only [ec, bI_f hc, f2_up, ey, eb, bI_t hb, es, Nat.add_zero, u7027_0, u7027_1, u7027_2, u7027_3, u7027_7, u7027_9, u7027_12, u7027_13, u7027_14, u7027_15, u7027_18, u7027_20, u7027_23, u7027_25, u7027_26, u7027_28, u7027_31, u7027_32, u7027_35, u7027_36, u7027_37, u7027_38, u7027_39, u7027_42, u7027_45, u7027_47, u7027_48, u7027_50, u7027_53, u7027_54, u7027_57, u7027_58, u7027_60, u7027_61, u7027_62, u7027_63, u7027_64, u7027_67, u7027_68, u7027_69, u7027_70, u7027_73, u7027_76, u7027_78, u7027_79, u7027_80, u7027_81, u7027_82, u7027_85, u7027_87, u7027_90, u7027_93, u7027_94, u7027_97, u7027_98, u7027_100, u7027_101, u7027_102, u7027_105, u7027_106, u7027_109, u7027_112, u7027_114, u7027_115, u7027_116, u7027_117, u7027_120, u7027_123, u7027_124, ob_70, gt_70_0, xl_71, xs_71, ki_0, ki_1, ki_1567, ki_1591, ki_24, af_x hd_7027, decide_eq_true_eq, if_true, if_false, f2_ne, f2_eq, up_ne, up_eq, kc_int, kc_ref, kc_retAddr, kc_long, kc_double, af_n, af_v, z0, z1, n_of, nz6, nz4, bI_T, bI_F, bI_01, n_lt, n_le, n_eq, n_add, n_mul, n_sub, n_clamp, n_vp, m_lt, m_le, m_eq, m_eq2, m_ltm, m_add, true_and, and_true, eq_self, if_pos, if_neg, List.length_nil, List.length_cons, Nat.reduceAdd, Nat.reduceLeDiff, Nat.zero_le, not_true_eq_false, not_false_eq_true, true_or, or_true]
        exact h9 _
      · have et : kT o w t i = t i := if_neg hb
        rw [et] at es
        simp (disch := omega) only [ec, bI_f hc, f2_up, ey, ew, eb, bI_f hb, es, Nat.add_zero, u7027_0, u7027_1, u7027_2, u7027_3, u7027_7, u7027_9, u7027_12, u7027_13, u7027_14, u7027_15, u7027_18, u7027_20, u7027_23, u7027_25, u7027_26, u7027_28, u7027_31, u7027_32, u7027_35, u7027_36, u7027_37, u7027_38, u7027_39, u7027_42, u7027_45, u7027_47, u7027_48, u7027_50, u7027_53, u7027_54, u7027_57, u7027_58, u7027_60, u7027_61, u7027_62, u7027_63, u7027_64, u7027_67, u7027_68, u7027_69, u7027_70, u7027_73, u7027_76, u7027_78, u7027_79, u7027_80, u7027_81, u7027_82, u7027_85, u7027_87, u7027_90, u7027_93, u7027_94, u7027_97, u7027_98, u7027_100, u7027_101, u7027_102, u7027_105, u7027_106, u7027_109, u7027_112, u7027_114, u7027_115, u7027_116, u7027_117, u7027_120, u7027_123, u7027_124, ob_70, gt_70_0, xl_71, xs_71, ki_0, ki_1, ki_1567, ki_1591, ki_24, af_x hd_7027, decide_eq_true_eq, if_true, if_false, f2_ne, f2_eq, up_ne, up_eq, kc_int, kc_ref, kc_retAddr, kc_long, kc_double, af_n, af_v, z0, z1, n_of, nz6, nz4, bI_T, bI_F, bI_01, n_lt, n_le, n_eq, n_add, n_mul, n_sub, n_clamp, n_vp, m_lt, m_le, m_eq, m_eq2, m_ltm, m_add, true_and, and_true, eq_self, if_pos, if_neg, List.length_nil, List.length_cons, Nat.reduceAdd, Nat.reduceLeDiff, Nat.zero_le, not_true_eq_false, not_false_eq_true, true_or, or_true]
        exact h9 _
theorem m_combines (h1 : at24 (A 71) a o) (h2 : at24 (A 71) b w) (h3 : at24 (A 71) 1567 t) (ha : a + 24 ≤ 1567 ∨ 1615 ≤ a) (hb : b + 24 ≤ 1567 ∨ 1615 ≤ b) : am_Ca X (d + 2) 7027 [.ref 70, .int (nI a), .int (nI b)] (am_Z cl sl F A L) P = P (.inl (some (.int (nI (cnt (kC o w t) 24))))) (am_Z cl sl F (va_up A 71 (coR o w t 24 (A 71))) L) := by
  rw [c7027]
  simp (disch := omega) only [u7027_0, u7027_1, u7027_2, u7027_3, u7027_7, u7027_9, u7027_12, u7027_13, u7027_14, u7027_15, u7027_18, u7027_20, u7027_23, u7027_25, u7027_26, u7027_28, u7027_31, u7027_32, u7027_35, u7027_36, u7027_37, u7027_38, u7027_39, u7027_42, u7027_45, u7027_47, u7027_48, u7027_50, u7027_53, u7027_54, u7027_57, u7027_58, u7027_60, u7027_61, u7027_62, u7027_63, u7027_64, u7027_67, u7027_68, u7027_69, u7027_70, u7027_73, u7027_76, u7027_78, u7027_79, u7027_80, u7027_81, u7027_82, u7027_85, u7027_87, u7027_90, u7027_93, u7027_94, u7027_97, u7027_98, u7027_100, u7027_101, u7027_102, u7027_105, u7027_106, u7027_109, u7027_112, u7027_114, u7027_115, u7027_116, u7027_117, u7027_120, u7027_123, u7027_124, ob_70, gt_70_0, xl_71, xs_71, ki_0, ki_1, ki_1567, ki_1591, ki_24, af_x hd_7027, decide_eq_true_eq, if_true, if_false, f2_ne, f2_eq, up_ne, up_eq, kc_int, kc_ref, kc_retAddr, kc_long, kc_double, af_n, af_v, z0, z1, n_of, nz6, nz4, bI_T, bI_F, bI_01, n_lt, n_le, n_eq, n_add, n_mul, n_sub, n_clamp, n_vp, m_lt, m_le, m_eq, m_eq2, m_ltm, m_add, true_and, and_true, eq_self, if_pos, if_neg, List.length_nil, List.length_cons, Nat.reduceAdd, Nat.reduceLeDiff, Nat.zero_le, not_true_eq_false, not_false_eq_true, true_or, or_true]
  have h := l_combines (d := d) (X := X) (cl := cl) (sl := sl) (F := F) (A := A) (L := L) (P := P) h1 h2 h3 ha hb 24 0 am_u rfl
  rw [coR_0, up_same] at h
  exact h
end MA
section MB
variable {S : Ab} {f : Nat → Int32} {o w t : Nat → Nat}
theorem at_T (R : mR f S) (h : wS S) {c : Nat} (hc : c < S.n) : at24 f (24 * c) (S.T c) := ⟨by have := h.n60; omega, fun i hi => ⟨R.T c hc i hi, h.Tv c hc i hi⟩⟩
theorem at_W (R : mR f S) (h : wS S) : at24 f 1567 S.W := ⟨by decide, fun i hi => ⟨R.W i hi, h.Wv i hi⟩⟩
theorem at_ah (R : mR f S) (h : wS S) {j : Nat} (hj : j < S.ac) : at24 f (1618 + 48 * j) (S.T (S.ah j)) := ⟨by have := h.ac3; omega, fun i hi => ⟨R.ah j hj i hi, h.Tv _ (h.ahn j hj) i hi⟩⟩
theorem at_aT (R : mR f S) (h : wS S) {j : Nat} (hj : j < S.ac) : at24 f (1618 + 48 * j + 24) (S.aT j) := ⟨by have := h.ac3; omega, fun i hi => ⟨R.aT j hj i hi, h.aTv j hj i hi⟩⟩
/-- a clean working tree is the head's -/
theorem at_hd (R : mR f S) (h : wS S) (hu : unl S = 0) : at24 f 1567 (S.T (hd S)) := ⟨by decide, fun i hi => ⟨by
  have e := cnt_0.mp hu i hi
  have e2 : S.W i = S.T (hd S) i := by simpa [chN] using e
  rw [← e2]; exact R.W i hi, h.Tv _ (hd_n h) i hi⟩⟩
theorem mR_take (R : mR f S) (h : wS S) : mR (coR o w t 24 f) (takeS S o w t) := by
  have h3 := h.ac3
  have h60 := h.n60
  have out : ∀ k, (k < 1567 ∨ 1615 ≤ k) → coR o w t 24 f k = f k := fun k h1 => coR_out (by omega) h1
  refine mR.mk ?_ ?_ ?_ (fun e => ?_) ?_ ?_ ?_ ?_ ?_ ?_ ?_ ?_ ?_ ?_
  · rw [out _ (by omega)]; exact R.n0
  · rw [out _ (by omega)]; exact R.cu
  · rw [out _ (by omega)]; exact R.op
  · rw [out _ (by omega)]; exact R.mg e
  · rw [out _ (by omega)]; exact R.ac
  · rw [out _ (by omega)]; exact R.cf
  · intro k hk
    have hk' : k < S.n := hk
    rw [out _ (by omega)]; exact R.p k hk
  · intro k hk
    have hk' : k < S.n := hk
    rw [out _ (by omega)]; exact R.q k hk
  · intro k hk j hj
    have hk' : k < S.n := hk
    rw [out _ (by omega)]; exact R.T k hk j hj
  · intro j hj
    rw [out _ (by omega)]; exact R.br j hj
  · intro j hj
    rw [coR_w (by omega) hj, if_pos hj]; rfl
  · intro j hj
    rw [coR_o hj]; rfl
  · intro j hj k hk
    have hj' : j < S.ac := hj
    rw [out _ (by omega)]; exact R.ah j hj k hk
  · intro j hj k hk
    have hj' : j < S.ac := hj
    rw [out _ (by omega)]; exact R.aT j hj k hk
/-- nothing open: no other sides -/
def zO (S : Ab) : Prop := S.op = 0 → ∀ i, i < 24 → S.O i = 0
theorem zO_stand {c : Nat} : zO (stand S c) := fun _ _ _ => rfl
theorem zO_addC {v : Nat} : zO (addC S v) := zO_stand
theorem zO_setL (z : zO S) {i v : Nat} : zO (setL S i v) := fun e j hj => by
  show va_up S.O i 0 j = 0
  by_cases h : j = i
  · subst h; exact up_eq
  · rw [up_ne h]; exact z e j hj
theorem zO_setB (z : zO S) {b v : Nat} : zO (setB S b v) := z
theorem zO_set {k v : Nat} (hk : k ≠ 0) : zO (setS S o w t k v) := by
  unfold setS
  split
  · exact zO_addC
  · exact fun e => absurd e hk
theorem zO_tb (hm : mayT S) : zO (tbS S) := fun _ i hi => by
  have e := cnt_0.mp hm.2.2 i hi
  show kO _ _ _ i = 0
  unfold kO
  rw [e]
  rfl
end MB
