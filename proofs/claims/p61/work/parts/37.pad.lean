/-! PAD (object 1, signs 2) -/
theorem ts_out {d lo hi : Int} {offs : Array Int} {lc r : List Value} {st : am_S} {K : am_K} {x : Nat} (hx : x < 2147483648) (h : (x : Int) < lo ∨ hi < (x : Int)) : am_ts d lo hi offs lc (.int (nI x) :: r) st K = K d.toNat lc r st := by
  unfold am_ts
  dsimp only
  rw [nI_toInt hx, if_pos h]
theorem ts_in {d lo hi t : Int} {offs : Array Int} {lc r : List Value} {st : am_S} {K : am_K} {x : Nat} (hx : x < 2147483648) (h1 : lo ≤ (x : Int)) (h2 : (x : Int) ≤ hi) (ht : offs[((x : Int) - lo).toNat]? = some t) : am_ts d lo hi offs lc (.int (nI x) :: r) st K = K t.toNat lc r st := by
  unfold am_ts
  dsimp only
  rw [nI_toInt hx, if_neg (by omega), ht]
def dg (s : Nat) : Prop := 48 ≤ s ∧ s ≤ 57
def awS (s : Nat) : Nat := if s = 97 ∨ s = 98 ∨ s = 99 then 8 else if s = 115 ∨ s = 109 then 5 else if s = 112 ∨ s = 114 then 6 else if 48 ≤ s ∧ s ≤ 51 then 1 else 9
def awF (s h : Nat) : Nat := if 48 ≤ s ∧ s ≤ 57 then (if 49 ≤ s ∧ s ≤ h then 7 else 8) else 9
def awN (a s : Nat) : Nat := match a with
  | 0 => awS s
  | 1 => if s = 46 then 2 else 9
  | 2 => if 48 ≤ s ∧ s ≤ 53 then 3 else 9
  | 3 => if s = 61 then 4 else 9
  | 4 => awF s 57
  | 5 => if 48 ≤ s ∧ s ≤ 53 then 8 else 9
  | 6 => awF s 53
  | 7 => if 48 ≤ s ∧ s ≤ 57 then 8 else if s = 59 then 0 else 9
  | _ => if s = 59 then 0 else 9
theorem awN_le (a s : Nat) : awN a s ≤ 9 := by
  unfold awN awS awF
  repeat' split
  all_goals omega
section PD
variable {d cl sl : Nat} {X : am_X} {F A : Nat → Nat → Int32} {L : Nat → Nat → Int64} {P : am_Q} {len : Nat} {pd : Nat → Nat}
def pR (F A : Nat → Nat → Int32) (len : Nat) (pd : Nat → Nat) : Prop := F 1 1 = nI len ∧ len ≤ 60 ∧ ∀ i, i < len → A 2 i = nI (pd i) ∧ 32 ≤ pd i ∧ pd i ≤ 126
/-- the sign at a place; behind the text the end of an order -/
def sg (len : Nat) (pd : Nat → Nat) (i : Nat) : Nat := if i < len then pd i else 59
theorem sg_lt (h : pR F A len pd) (i : Nat) : 32 ≤ sg len pd i ∧ sg len pd i ≤ 126 := by
  unfold sg
  split
  · rename_i hi; exact (h.2.2 i hi).2
  · omega
theorem s_length (h : pR F A len pd) : am_Ca X (d + 1) 2002 [.ref 1] (am_Z cl sl F A L) P = P (.inl (some (.int (nI len)))) (am_Z cl sl F A L) := by
  rw [c2002]
  simp (disch := omega) only [h.1, u2002_0, u2002_1, u2002_4, gt_1_1, af_x hd_2002, decide_eq_true_eq, if_true, if_false, f2_ne, f2_eq, up_ne, up_eq, kc_int, kc_ref, kc_retAddr, kc_long, kc_double, af_n, af_v, z0, z1, n_of, nz6, nz4, bI_T, bI_F, bI_01, n_lt, n_le, n_eq, n_add, n_mul, n_sub, n_clamp, n_vp, m_lt, m_le, m_eq, m_eq2, m_ltm, m_add, true_and, and_true, eq_self, if_pos, if_neg, List.length_nil, List.length_cons, Nat.reduceAdd, Nat.reduceLeDiff, Nat.zero_le, not_true_eq_false, not_false_eq_true, true_or, or_true]
theorem s_isFull (h : pR F A len pd) : am_Ca X (d + 1) 2003 [.ref 1] (am_Z cl sl F A L) P = P (.inl (some (.int (bI (len = 60))))) (am_Z cl sl F A L) := by
  rw [c2003]
  have h6 := h.2.1
  by_cases e : len = 60
  · rw [bI_t e]
    simp (disch := omega) only [h.1, u2003_0, u2003_1, u2003_4, u2003_6, u2003_9, u2003_10, u2003_13, u2003_14, gt_1_1, ki_0, ki_1, ki_60, af_x hd_2003, decide_eq_true_eq, if_true, if_false, f2_ne, f2_eq, up_ne, up_eq, kc_int, kc_ref, kc_retAddr, kc_long, kc_double, af_n, af_v, z0, z1, n_of, nz6, nz4, bI_T, bI_F, bI_01, n_lt, n_le, n_eq, n_add, n_mul, n_sub, n_clamp, n_vp, m_lt, m_le, m_eq, m_eq2, m_ltm, m_add, true_and, and_true, eq_self, if_pos, if_neg, List.length_nil, List.length_cons, Nat.reduceAdd, Nat.reduceLeDiff, Nat.zero_le, not_true_eq_false, not_false_eq_true, true_or, or_true]
  · rw [bI_f e]
    simp (disch := omega) only [h.1, u2003_0, u2003_1, u2003_4, u2003_6, u2003_9, u2003_10, u2003_13, u2003_14, gt_1_1, ki_0, ki_1, ki_60, af_x hd_2003, decide_eq_true_eq, if_true, if_false, f2_ne, f2_eq, up_ne, up_eq, kc_int, kc_ref, kc_retAddr, kc_long, kc_double, af_n, af_v, z0, z1, n_of, nz6, nz4, bI_T, bI_F, bI_01, n_lt, n_le, n_eq, n_add, n_mul, n_sub, n_clamp, n_vp, m_lt, m_le, m_eq, m_eq2, m_ltm, m_add, true_and, and_true, eq_self, if_pos, if_neg, List.length_nil, List.length_cons, Nat.reduceAdd, Nat.reduceLeDiff, Nat.zero_le, not_true_eq_false, not_false_eq_true, true_or, or_true]
theorem s_append (h : pR F A len pd) {v : Nat} (hl : len < 60) (h1 : 32 ≤ v) (h2 : v ≤ 126) : ∃ F2 A2, (∀ P, am_Ca X (d + 1) 2004 [.ref 1, .int (nI v)] (am_Z cl sl F A L) P = P (.inl (some (.int (nI (len + 1))))) (am_Z cl sl F2 A2 L)) ∧ pR F2 A2 (len + 1) (va_up pd len v) ∧ (∀ o, o ≠ 1 → F2 o = F o) ∧ ∀ o, o ≠ 2 → A2 o = A o := by
  refine ⟨am_f2 F 1 1 (nI (len + 1)), am_f2 A 2 len (nI v), fun P => ?_, ⟨by simp [am_f2, va_up], hl, fun i hi => ?_⟩, fun o ho => f2_ne ho, fun o ho => f2_ne ho⟩
  · rw [c2004]
    simp (disch := omega) only [h.1, u2004_0, u2004_1, u2004_4, u2004_6, u2004_9, u2004_10, u2004_13, u2004_14, u2004_17, u2004_18, u2004_19, u2004_20i, u2004_20r, u2004_21, u2004_24, u2004_25, u2004_26, u2004_29, u2004_30, u2004_33, gt_1_1, gt_1_0, pt_1_1, xs_2, ki_1, ki_60, af_x hd_2004, decide_eq_true_eq, if_true, if_false, f2_ne, f2_eq, up_ne, up_eq, kc_int, kc_ref, kc_retAddr, kc_long, kc_double, af_n, af_v, z0, z1, n_of, nz6, nz4, bI_T, bI_F, bI_01, n_lt, n_le, n_eq, n_add, n_mul, n_sub, n_clamp, n_vp, m_lt, m_le, m_eq, m_eq2, m_ltm, m_add, true_and, and_true, eq_self, if_pos, if_neg, List.length_nil, List.length_cons, Nat.reduceAdd, Nat.reduceLeDiff, Nat.zero_le, not_true_eq_false, not_false_eq_true, true_or, or_true]
  · rw [f2_eq]
    by_cases e : i = len
    · subst e; rw [up_eq, up_eq]; exact ⟨rfl, h1, h2⟩
    · rw [up_ne e, up_ne e]; exact h.2.2 i (by omega)
theorem s_empty (h : pR F A len pd) : ∃ F2, (∀ P, am_Ca X (d + 1) 2005 [.ref 1] (am_Z cl sl F A L) P = P (.inl (some (.int (nI len)))) (am_Z cl sl F2 A L)) ∧ pR F2 A 0 pd ∧ (∀ o, o ≠ 1 → F2 o = F o) := by
  refine ⟨am_f2 F 1 1 (nI 0), fun P => ?_, ⟨by simp [am_f2, va_up], by omega, fun i hi => by omega⟩, fun o ho => f2_ne ho⟩
  rw [c2005]
  simp (disch := omega) only [h.1, u2005_0, u2005_1, u2005_4, u2005_5, u2005_6, u2005_7, u2005_10, u2005_11, gt_1_1, pt_1_1, ki_0, af_x hd_2005, decide_eq_true_eq, if_true, if_false, f2_ne, f2_eq, up_ne, up_eq, kc_int, kc_ref, kc_retAddr, kc_long, kc_double, af_n, af_v, z0, z1, n_of, nz6, nz4, bI_T, bI_F, bI_01, n_lt, n_le, n_eq, n_add, n_mul, n_sub, n_clamp, n_vp, m_lt, m_le, m_eq, m_eq2, m_ltm, m_add, true_and, and_true, eq_self, if_pos, if_neg, List.length_nil, List.length_cons, Nat.reduceAdd, Nat.reduceLeDiff, Nat.zero_le, not_true_eq_false, not_false_eq_true, true_or, or_true]
theorem s_signAt (h : pR F A len pd) {i : Nat} (hi : i < 1000) : am_Ca X (d + 1) 2006 [.ref 1, .int (nI i)] (am_Z cl sl F A L) P = P (.inl (some (.int (nI (sg len pd i))))) (am_Z cl sl F A L) := by
  rw [c2006]
  have h6 := h.2.1
  unfold sg
  by_cases e : i < len
  · simp (disch := omega) only [h.1, (h.2.2 i e).1, u2006_0, u2006_1, u2006_4, u2006_5, u2006_6, u2006_9, u2006_12, u2006_13, u2006_15, u2006_18, u2006_19, u2006_22, u2006_23, u2006_24, u2006_27, u2006_29, gt_1_1, gt_1_0, xl_2, ki_59, ki_60, af_x hd_2006, decide_eq_true_eq, if_true, if_false, f2_ne, f2_eq, up_ne, up_eq, kc_int, kc_ref, kc_retAddr, kc_long, kc_double, af_n, af_v, z0, z1, n_of, nz6, nz4, bI_T, bI_F, bI_01, n_lt, n_le, n_eq, n_add, n_mul, n_sub, n_clamp, n_vp, m_lt, m_le, m_eq, m_eq2, m_ltm, m_add, true_and, and_true, eq_self, if_pos, if_neg, List.length_nil, List.length_cons, Nat.reduceAdd, Nat.reduceLeDiff, Nat.zero_le, not_true_eq_false, not_false_eq_true, true_or, or_true]
  · simp (disch := omega) only [h.1, u2006_0, u2006_1, u2006_4, u2006_5, u2006_6, u2006_9, u2006_12, u2006_13, u2006_15, u2006_18, u2006_19, u2006_22, u2006_23, u2006_24, u2006_27, u2006_29, gt_1_1, gt_1_0, xl_2, ki_59, ki_60, af_x hd_2006, decide_eq_true_eq, if_true, if_false, f2_ne, f2_eq, up_ne, up_eq, kc_int, kc_ref, kc_retAddr, kc_long, kc_double, af_n, af_v, z0, z1, n_of, nz6, nz4, bI_T, bI_F, bI_01, n_lt, n_le, n_eq, n_add, n_mul, n_sub, n_clamp, n_vp, m_lt, m_le, m_eq, m_eq2, m_ltm, m_add, true_and, and_true, eq_self, if_pos, if_neg, List.length_nil, List.length_cons, Nat.reduceAdd, Nat.reduceLeDiff, Nat.zero_le, not_true_eq_false, not_false_eq_true, true_or, or_true]
theorem s_isBetween {s a b : Nat} (h1 : s < 1000) (h2 : a < 1000) (h3 : b < 1000) : am_Ca X (d + 1) 2010 [.int (nI s), .int (nI a), .int (nI b)] (am_Z cl sl F A L) P = P (.inl (some (.int (nI (if a ≤ s ∧ s ≤ b then 1 else 0))))) (am_Z cl sl F A L) := by
  rw [c2010]
  by_cases e : a ≤ s
  · by_cases e2 : s ≤ b
    · simp (disch := omega) only [e, e2, u2010_0, u2010_1, u2010_2, u2010_5, u2010_6, u2010_7, u2010_10, u2010_11, u2010_14, u2010_15, ki_0, ki_1, af_x hd_2010, decide_eq_true_eq, if_true, if_false, f2_ne, f2_eq, up_ne, up_eq, kc_int, kc_ref, kc_retAddr, kc_long, kc_double, af_n, af_v, z0, z1, n_of, nz6, nz4, bI_T, bI_F, bI_01, n_lt, n_le, n_eq, n_add, n_mul, n_sub, n_clamp, n_vp, m_lt, m_le, m_eq, m_eq2, m_ltm, m_add, true_and, and_true, eq_self, if_pos, if_neg, List.length_nil, List.length_cons, Nat.reduceAdd, Nat.reduceLeDiff, Nat.zero_le, not_true_eq_false, not_false_eq_true, true_or, or_true]
    · simp (disch := omega) only [e, e2, and_false, u2010_0, u2010_1, u2010_2, u2010_5, u2010_6, u2010_7, u2010_10, u2010_11, u2010_14, u2010_15, ki_0, ki_1, af_x hd_2010, decide_eq_true_eq, if_true, if_false, f2_ne, f2_eq, up_ne, up_eq, kc_int, kc_ref, kc_retAddr, kc_long, kc_double, af_n, af_v, z0, z1, n_of, nz6, nz4, bI_T, bI_F, bI_01, n_lt, n_le, n_eq, n_add, n_mul, n_sub, n_clamp, n_vp, m_lt, m_le, m_eq, m_eq2, m_ltm, m_add, true_and, and_true, eq_self, if_pos, if_neg, List.length_nil, List.length_cons, Nat.reduceAdd, Nat.reduceLeDiff, Nat.zero_le, not_true_eq_false, not_false_eq_true, true_or, or_true]
  · simp (disch := omega) only [e, false_and, u2010_0, u2010_1, u2010_2, u2010_5, u2010_6, u2010_7, u2010_10, u2010_11, u2010_14, u2010_15, ki_0, ki_1, af_x hd_2010, decide_eq_true_eq, if_true, if_false, f2_ne, f2_eq, up_ne, up_eq, kc_int, kc_ref, kc_retAddr, kc_long, kc_double, af_n, af_v, z0, z1, n_of, nz6, nz4, bI_T, bI_F, bI_01, n_lt, n_le, n_eq, n_add, n_mul, n_sub, n_clamp, n_vp, m_lt, m_le, m_eq, m_eq2, m_ltm, m_add, true_and, and_true, eq_self, if_pos, if_neg, List.length_nil, List.length_cons, Nat.reduceAdd, Nat.reduceLeDiff, Nat.zero_le, not_true_eq_false, not_false_eq_true, true_or, or_true]
theorem s_awF {s b : Nat} (h1 : s < 1000) (h3 : b < 1000) : am_Ca X (d + 2) 2013 [.int (nI s), .int (nI b)] (am_Z cl sl F A L) P = P (.inl (some (.int (nI (awF s b))))) (am_Z cl sl F A L) := by
  rw [c2013]
  unfold awF
  by_cases e : 48 ≤ s ∧ s ≤ 57
  · by_cases e2 : 49 ≤ s ∧ s ≤ b
    · simp (disch := omega) only [s_isBetween, e, e2, u2013_0, u2013_1, u2013_3, u2013_5, u2013_8, u2013_11, u2013_13, u2013_14, u2013_15, u2013_17, u2013_18, u2013_21, u2013_24, u2013_26, u2013_29, u2013_31, ki_48, ki_49, ki_57, ki_7, ki_8, ki_9, af_x hd_2013, decide_eq_true_eq, if_true, if_false, f2_ne, f2_eq, up_ne, up_eq, kc_int, kc_ref, kc_retAddr, kc_long, kc_double, af_n, af_v, z0, z1, n_of, nz6, nz4, bI_T, bI_F, bI_01, n_lt, n_le, n_eq, n_add, n_mul, n_sub, n_clamp, n_vp, m_lt, m_le, m_eq, m_eq2, m_ltm, m_add, true_and, and_true, eq_self, if_pos, if_neg, List.length_nil, List.length_cons, Nat.reduceAdd, Nat.reduceLeDiff, Nat.zero_le, not_true_eq_false, not_false_eq_true, true_or, or_true]
    · simp (disch := omega) only [s_isBetween, e, e2, u2013_0, u2013_1, u2013_3, u2013_5, u2013_8, u2013_11, u2013_13, u2013_14, u2013_15, u2013_17, u2013_18, u2013_21, u2013_24, u2013_26, u2013_29, u2013_31, ki_48, ki_49, ki_57, ki_7, ki_8, ki_9, af_x hd_2013, decide_eq_true_eq, if_true, if_false, f2_ne, f2_eq, up_ne, up_eq, kc_int, kc_ref, kc_retAddr, kc_long, kc_double, af_n, af_v, z0, z1, n_of, nz6, nz4, bI_T, bI_F, bI_01, n_lt, n_le, n_eq, n_add, n_mul, n_sub, n_clamp, n_vp, m_lt, m_le, m_eq, m_eq2, m_ltm, m_add, true_and, and_true, eq_self, if_pos, if_neg, List.length_nil, List.length_cons, Nat.reduceAdd, Nat.reduceLeDiff, Nat.zero_le, not_true_eq_false, not_false_eq_true, true_or, or_true]
  · simp (disch := omega) only [s_isBetween, e, u2013_0, u2013_1, u2013_3, u2013_5, u2013_8, u2013_11, u2013_13, u2013_14, u2013_15, u2013_17, u2013_18, u2013_21, u2013_24, u2013_26, u2013_29, u2013_31, ki_48, ki_49, ki_57, ki_7, ki_8, ki_9, af_x hd_2013, decide_eq_true_eq, if_true, if_false, f2_ne, f2_eq, up_ne, up_eq, kc_int, kc_ref, kc_retAddr, kc_long, kc_double, af_n, af_v, z0, z1, n_of, nz6, nz4, bI_T, bI_F, bI_01, n_lt, n_le, n_eq, n_add, n_mul, n_sub, n_clamp, n_vp, m_lt, m_le, m_eq, m_eq2, m_ltm, m_add, true_and, and_true, eq_self, if_pos, if_neg, List.length_nil, List.length_cons, Nat.reduceAdd, Nat.reduceLeDiff, Nat.zero_le, not_true_eq_false, not_false_eq_true, true_or, or_true]
end PD
