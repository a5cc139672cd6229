/-! Histories: what is asked of what commits reach -/
section H2
variable {d cl sl : Nat} {X : am_X} {F A : Nat → Nat → Int32} {L : Nat → Nat → Int64} {P : am_Q} {n : Nat} {p q : Nat → Nat}
noncomputable def rcA (A : Nat → Nat → Int32) (S : Nat → Prop) : Nat → Nat → Int32 := va_up A 14 (ind S (A 14))
theorem s_fresh (a : Nat) (ha : a < 70) (h1 : SH a = (1, 60, [])) : am_Ca X (d + 1) 9000 [.ref a, .int (nI 0)] (am_Z cl sl F A L) P = P (.inl none) (am_Z cl sl F (va_up A a (ind (fun _ => False) (A a))) L) := by
  rw [s_fill ha h1 (by decide), ind_0]
theorem s_reach {g : Nat → Int32} {c : Nat} (a : Nat) (ha : a < 70) (h1 : SH a = (1, 60, [])) (h5 : 5 ≠ a) (h6 : 6 ≠ a) (hn : F 4 0 = nI n) (h60 : n ≤ 60) (hw : wfA A p q n) (hc : c < n) : am_Ca X (d + 2) 1017 [.ref 4, .int (nI c), .ref a] (am_Z cl sl F (va_up A a (ind (fun _ => False) g)) L) P = P (.inl none) (am_Z cl sl F (va_up A a (ind (Re p q c) g)) L) := by
  rw [s_markReached ha h1 h5 h6 hn h60 hw (fun _ _ _ h _ => h) hc]
  rw [show (fun x => False ∨ Re p q c x) = Re p q c from funext fun x => propext (or_iff_right (fun h => h))]
theorem s_isReached {c o : Nat} (hn : F 4 0 = nI n) (h60 : n ≤ 60) (hw : wfA A p q n) (hc : c < n) (ho : o < 60) : am_Ca X (d + 3) 1002 [.ref 13, .ref 4, .int (nI c), .int (nI o)] (am_Z cl sl F A L) P = P (.inl (some (.int (bI (Re p q c o))))) (am_Z cl sl F (rcA A (Re p q c)) L) := by
  rw [c1002]
  simp (disch := omega) only [s_fresh 14 (by decide) rfl, s_reach 14 (by decide) rfl (by decide) (by decide) hn h60 hw hc, s_isMarked (a := 14) (by decide) rfl ho, u1002_0, u1002_1, u1002_4, u1002_5, u1002_8, u1002_9, u1002_10, u1002_11, u1002_14, u1002_17, u1002_18, u1002_21, u1002_22, u1002_25, gt_13_0, ki_0, af_x hd_1002, decide_eq_true_eq, if_true, if_false, f2_ne, f2_eq, up_ne, up_eq, kc_int, kc_ref, kc_retAddr, kc_long, kc_double, af_n, af_v, z0, z1, n_of, nz6, nz4, bI_T, bI_F, bI_01, n_lt, n_le, n_eq, n_add, n_mul, n_sub, n_clamp, n_vp, m_lt, m_le, m_eq, m_eq2, m_ltm, m_add, true_and, and_true, eq_self, if_pos, if_neg, List.length_nil, List.length_cons, Nat.reduceAdd, Nat.reduceLeDiff, Nat.zero_le, not_true_eq_false, not_false_eq_true, true_or, or_true]
  rfl
theorem l_countReached {c : Nat} {g : Nat → Int32} {S : Nat → Prop} : ∀ (k i : Nat), i + k = 60 → am_g (d + 1) X am_m1003 22 [.ref 13, .ref 4, .int (nI c), .int (nI (cnt (dP S) i)), .int (nI i)] [] (am_Z cl sl F (va_up A 14 (ind S g)) L) P = P (.inl (some (.int (nI (cnt (dP S) 60))))) (am_Z cl sl F (va_up A 14 (ind S g)) L) := by
  intro k
  induction k with
  | zero =>
    intro i hi
    obtain rfl : i = 60 := by omega
    rw [u1003_22]
    simp (disch := omega) only [s_isMarked (a := 14) (by decide) rfl, u1003_0, u1003_1, u1003_4, u1003_5, u1003_8, u1003_9, u1003_10, u1003_11, u1003_14, u1003_17, u1003_18, u1003_19, u1003_20, u1003_24, u1003_26, u1003_29, u1003_30, u1003_33, u1003_35, u1003_38, u1003_41, u1003_44, u1003_47, u1003_50, u1003_51, gt_13_0, ki_0, ki_1, ki_60, af_x hd_1003, decide_eq_true_eq, if_true, if_false, f2_ne, f2_eq, up_ne, up_eq, kc_int, kc_ref, kc_retAddr, kc_long, kc_double, af_n, af_v, z0, z1, n_of, nz6, nz4, bI_T, bI_F, bI_01, n_lt, n_le, n_eq, n_add, n_mul, n_sub, n_clamp, n_vp, m_lt, m_le, m_eq, m_eq2, m_ltm, m_add, true_and, and_true, eq_self, if_pos, if_neg, List.length_nil, List.length_cons, Nat.reduceAdd, Nat.reduceLeDiff, Nat.zero_le, not_true_eq_false, not_false_eq_true, true_or, or_true]
  | succ k ih =>
    intro i hi
    rw [u1003_22]
    by_cases hv : S i
    · simp (disch := omega) only [s_isMarked (a := 14) (by decide) rfl, hv, bI_t hv, u1003_0, u1003_1, u1003_4, u1003_5, u1003_8, u1003_9, u1003_10, u1003_11, u1003_14, u1003_17, u1003_18, u1003_19, u1003_20, u1003_24, u1003_26, u1003_29, u1003_30, u1003_33, u1003_35, u1003_38, u1003_41, u1003_44, u1003_47, u1003_50, u1003_51, gt_13_0, ki_0, ki_1, ki_60, af_x hd_1003, decide_eq_true_eq, if_true, if_false, f2_ne, f2_eq, up_ne, up_eq, kc_int, kc_ref, kc_retAddr, kc_long, kc_double, af_n, af_v, z0, z1, n_of, nz6, nz4, bI_T, bI_F, bI_01, n_lt, n_le, n_eq, n_add, n_mul, n_sub, n_clamp, n_vp, m_lt, m_le, m_eq, m_eq2, m_ltm, m_add, true_and, and_true, eq_self, if_pos, if_neg, List.length_nil, List.length_cons, Nat.reduceAdd, Nat.reduceLeDiff, Nat.zero_le, not_true_eq_false, not_false_eq_true, true_or, or_true]
      have e : cnt (dP S) (i + 1) = cnt (dP S) i + 1 := cnt_t (by first | exact dP_t hv | exact dP_f hv)
      have h2 := ih (i + 1) (by omega)
      rw [e] at h2
      exact h2
    · simp (disch := omega) only [s_isMarked (a := 14) (by decide) rfl, hv, bI_f hv, u1003_0, u1003_1, u1003_4, u1003_5, u1003_8, u1003_9, u1003_10, u1003_11, u1003_14, u1003_17, u1003_18, u1003_19, u1003_20, u1003_24, u1003_26, u1003_29, u1003_30, u1003_33, u1003_35, u1003_38, u1003_41, u1003_44, u1003_47, u1003_50, u1003_51, gt_13_0, ki_0, ki_1, ki_60, af_x hd_1003, decide_eq_true_eq, if_true, if_false, f2_ne, f2_eq, up_ne, up_eq, kc_int, kc_ref, kc_retAddr, kc_long, kc_double, af_n, af_v, z0, z1, n_of, nz6, nz4, bI_T, bI_F, bI_01, n_lt, n_le, n_eq, n_add, n_mul, n_sub, n_clamp, n_vp, m_lt, m_le, m_eq, m_eq2, m_ltm, m_add, true_and, and_true, eq_self, if_pos, if_neg, List.length_nil, List.length_cons, Nat.reduceAdd, Nat.reduceLeDiff, Nat.zero_le, not_true_eq_false, not_false_eq_true, true_or, or_true]
      have e : cnt (dP S) (i + 1) = cnt (dP S) i := cnt_f (by first | exact dP_t hv | exact dP_f hv)
      have h2 := ih (i + 1) (by omega)
      rw [e] at h2
      exact h2

theorem s_countReached {c : Nat} (hn : F 4 0 = nI n) (h60 : n ≤ 60) (hw : wfA A p q n) (hc : c < n) : am_Ca X (d + 3) 1003 [.ref 13, .ref 4, .int (nI c)] (am_Z cl sl F A L) P = P (.inl (some (.int (nI (cnt (dP (Re p q c)) 60))))) (am_Z cl sl F (rcA A (Re p q c)) L) := by
  rw [c1003]
  simp (disch := omega) only [s_fresh 14 (by decide) rfl, s_reach 14 (by decide) rfl (by decide) (by decide) hn h60 hw hc, u1003_0, u1003_1, u1003_4, u1003_5, u1003_8, u1003_9, u1003_10, u1003_11, u1003_14, u1003_17, u1003_18, u1003_19, u1003_20, u1003_24, u1003_26, u1003_29, u1003_30, u1003_33, u1003_35, u1003_38, u1003_41, u1003_44, u1003_47, u1003_50, u1003_51, gt_13_0, ki_0, ki_1, ki_60, af_x hd_1003, decide_eq_true_eq, if_true, if_false, f2_ne, f2_eq, up_ne, up_eq, kc_int, kc_ref, kc_retAddr, kc_long, kc_double, af_n, af_v, z0, z1, n_of, nz6, nz4, bI_T, bI_F, bI_01, n_lt, n_le, n_eq, n_add, n_mul, n_sub, n_clamp, n_vp, m_lt, m_le, m_eq, m_eq2, m_ltm, m_add, true_and, and_true, eq_self, if_pos, if_neg, List.length_nil, List.length_cons, Nat.reduceAdd, Nat.reduceLeDiff, Nat.zero_le, not_true_eq_false, not_false_eq_true, true_or, or_true]
  exact l_countReached 60 0 rfl
/-- the place-th of a set, from the highest below k down -/
noncomputable def rat (S : Nat → Prop) (pl : Nat) : Nat → Nat → Int32
  | 0, _ => m1
  | k + 1, a => @ite _ (S k) (Classical.propDecidable _) (if a = pl then nI k else rat S pl k (a + 1)) (rat S pl k a)
theorem pk_dn (k : Nat) : nI k + m1 = pk k := by
  cases k with
  | zero => rfl
  | succ k => rw [pk_s, m_add (by omega)]; rfl
theorem l_reachedAt {c pl : Nat} {g : Nat → Int32} {S : Nat → Prop} (hp : pl < 2147483648) : ∀ (k a : Nat), k + a ≤ 60 → am_g (d + 1) X am_m1004 24 [.ref 13, .ref 4, .int (nI c), .int (nI pl), .int (nI a), .int (pk k)] [] (am_Z cl sl F (va_up A 14 (ind S g)) L) P = P (.inl (some (.int (rat S pl k a)))) (am_Z cl sl F (va_up A 14 (ind S g)) L) := by
  intro k
  induction k with
  | zero =>
    intro a _
    rw [u1004_24]
    simp (disch := omega) only [pk_0, rat, u1004_0, u1004_1, u1004_4, u1004_5, u1004_8, u1004_9, u1004_10, u1004_11, u1004_14, u1004_17, u1004_18, u1004_20, u1004_22, u1004_26, u1004_29, u1004_30, u1004_33, u1004_35, u1004_38, u1004_41, u1004_43, u1004_44, u1004_47, u1004_49, u1004_50, u1004_53, u1004_56, u1004_59, u1004_60, gt_13_0, ki_m1, ki_0, ki_1, ki_59, af_x hd_1004, decide_eq_true_eq, if_true, if_false, f2_ne, f2_eq, up_ne, up_eq, kc_int, kc_ref, kc_retAddr, kc_long, kc_double, af_n, af_v, z0, z1, n_of, nz6, nz4, bI_T, bI_F, bI_01, n_lt, n_le, n_eq, n_add, n_mul, n_sub, n_clamp, n_vp, m_lt, m_le, m_eq, m_eq2, m_ltm, m_add, true_and, and_true, eq_self, if_pos, if_neg, List.length_nil, List.length_cons, Nat.reduceAdd, Nat.reduceLeDiff, Nat.zero_le, not_true_eq_false, not_false_eq_true, true_or, or_true]
  | succ k ih =>
    intro a hk
    rw [pk_s, u1004_24]
    unfold rat
    by_cases hv : S k
    · by_cases hz : a = pl
      · simp (disch := omega) only [s_isMarked (a := 14) (by decide) rfl, bI_t hv, hz, hv, u1004_0, u1004_1, u1004_4, u1004_5, u1004_8, u1004_9, u1004_10, u1004_11, u1004_14, u1004_17, u1004_18, u1004_20, u1004_22, u1004_26, u1004_29, u1004_30, u1004_33, u1004_35, u1004_38, u1004_41, u1004_43, u1004_44, u1004_47, u1004_49, u1004_50, u1004_53, u1004_56, u1004_59, u1004_60, gt_13_0, ki_m1, ki_0, ki_1, ki_59, af_x hd_1004, decide_eq_true_eq, if_true, if_false, f2_ne, f2_eq, up_ne, up_eq, kc_int, kc_ref, kc_retAddr, kc_long, kc_double, af_n, af_v, z0, z1, n_of, nz6, nz4, bI_T, bI_F, bI_01, n_lt, n_le, n_eq, n_add, n_mul, n_sub, n_clamp, n_vp, m_lt, m_le, m_eq, m_eq2, m_ltm, m_add, true_and, and_true, eq_self, if_pos, if_neg, List.length_nil, List.length_cons, Nat.reduceAdd, Nat.reduceLeDiff, Nat.zero_le, not_true_eq_false, not_false_eq_true, true_or, or_true]
      · simp (disch := omega) only [s_isMarked (a := 14) (by decide) rfl, bI_t hv, hz, hv, pk_dn, u1004_0, u1004_1, u1004_4, u1004_5, u1004_8, u1004_9, u1004_10, u1004_11, u1004_14, u1004_17, u1004_18, u1004_20, u1004_22, u1004_26, u1004_29, u1004_30, u1004_33, u1004_35, u1004_38, u1004_41, u1004_43, u1004_44, u1004_47, u1004_49, u1004_50, u1004_53, u1004_56, u1004_59, u1004_60, gt_13_0, ki_m1, ki_0, ki_1, ki_59, af_x hd_1004, decide_eq_true_eq, if_true, if_false, f2_ne, f2_eq, up_ne, up_eq, kc_int, kc_ref, kc_retAddr, kc_long, kc_double, af_n, af_v, z0, z1, n_of, nz6, nz4, bI_T, bI_F, bI_01, n_lt, n_le, n_eq, n_add, n_mul, n_sub, n_clamp, n_vp, m_lt, m_le, m_eq, m_eq2, m_ltm, m_add, true_and, and_true, eq_self, if_pos, if_neg, List.length_nil, List.length_cons, Nat.reduceAdd, Nat.reduceLeDiff, Nat.zero_le, not_true_eq_false, not_false_eq_true, true_or, or_true]
        exact ih (a + 1) (by omega)
    · simp (disch := omega) only [s_isMarked (a := 14) (by decide) rfl, bI_f hv, hv, pk_dn, u1004_0, u1004_1, u1004_4, u1004_5, u1004_8, u1004_9, u1004_10, u1004_11, u1004_14, u1004_17, u1004_18, u1004_20, u1004_22, u1004_26, u1004_29, u1004_30, u1004_33, u1004_35, u1004_38, u1004_41, u1004_43, u1004_44, u1004_47, u1004_49, u1004_50, u1004_53, u1004_56, u1004_59, u1004_60, gt_13_0, ki_m1, ki_0, ki_1, ki_59, af_x hd_1004, decide_eq_true_eq, if_true, if_false, f2_ne, f2_eq, up_ne, up_eq, kc_int, kc_ref, kc_retAddr, kc_long, kc_double, af_n, af_v, z0, z1, n_of, nz6, nz4, bI_T, bI_F, bI_01, n_lt, n_le, n_eq, n_add, n_mul, n_sub, n_clamp, n_vp, m_lt, m_le, m_eq, m_eq2, m_ltm, m_add, true_and, and_true, eq_self, if_pos, if_neg, List.length_nil, List.length_cons, Nat.reduceAdd, Nat.reduceLeDiff, Nat.zero_le, not_true_eq_false, not_false_eq_true, true_or, or_true]
      exact ih a (by omega)
theorem s_reachedAt {c pl : Nat} (hn : F 4 0 = nI n) (h60 : n ≤ 60) (hw : wfA A p q n) (hc : c < n) (hp : pl < 2147483648) : am_Ca X (d + 3) 1004 [.ref 13, .ref 4, .int (nI c), .int (nI pl)] (am_Z cl sl F A L) P = P (.inl (some (.int (rat (Re p q c) pl 60 0)))) (am_Z cl sl F (rcA A (Re p q c)) L) := by
  rw [c1004]
  simp (disch := omega) only [s_fresh 14 (by decide) rfl, s_reach 14 (by decide) rfl (by decide) (by decide) hn h60 hw hc, u1004_0, u1004_1, u1004_4, u1004_5, u1004_8, u1004_9, u1004_10, u1004_11, u1004_14, u1004_17, u1004_18, u1004_20, u1004_22, u1004_26, u1004_29, u1004_30, u1004_33, u1004_35, u1004_38, u1004_41, u1004_43, u1004_44, u1004_47, u1004_49, u1004_50, u1004_53, u1004_56, u1004_59, u1004_60, gt_13_0, ki_m1, ki_0, ki_1, ki_59, af_x hd_1004, decide_eq_true_eq, if_true, if_false, f2_ne, f2_eq, up_ne, up_eq, kc_int, kc_ref, kc_retAddr, kc_long, kc_double, af_n, af_v, z0, z1, n_of, nz6, nz4, bI_T, bI_F, bI_01, n_lt, n_le, n_eq, n_add, n_mul, n_sub, n_clamp, n_vp, m_lt, m_le, m_eq, m_eq2, m_ltm, m_add, true_and, and_true, eq_self, if_pos, if_neg, List.length_nil, List.length_cons, Nat.reduceAdd, Nat.reduceLeDiff, Nat.zero_le, not_true_eq_false, not_false_eq_true, true_or, or_true]
  exact l_reachedAt hp 60 0 (by omega)
/-- the lowest from i on, below i + k, with p -/
def loN (p : Nat → Bool) : Nat → Nat → Int32
  | 0, _ => m1
  | k + 1, i => if p i = true then nI i else loN p k (i + 1)
noncomputable def lwP (A : Nat → Nat → Int32) (S : Nat → Prop) (pl : Nat) (v : Int32) : Nat → Bool := fun i => @decide (S i ∧ A 7 (i * 24 + pl) = v) (Classical.propDecidable _)
theorem l_lowestWith {c pl : Nat} {v : Int32} {g : Nat → Int32} {S : Nat → Prop} (hp : pl < 24) : ∀ (k i : Nat), i + k = 60 → am_g (d + 1) X am_m1005 20 [.ref 13, .ref 4, .int (nI c), .int (nI pl), .int v, .int (nI i)] [] (am_Z cl sl F (va_up A 14 (ind S g)) L) P = P (.inl (some (.int (loN (lwP A S pl v) k i)))) (am_Z cl sl F (va_up A 14 (ind S g)) L) := by
  intro k
  induction k with
  | zero =>
    intro i hi
    obtain rfl : i = 60 := by omega
    rw [u1005_20]
    simp (disch := omega) only [loN, u1005_0, u1005_1, u1005_4, u1005_5, u1005_8, u1005_9, u1005_10, u1005_11, u1005_14, u1005_17, u1005_18, u1005_22, u1005_24, u1005_27, u1005_28, u1005_31, u1005_33, u1005_36, u1005_39, u1005_40, u1005_42, u1005_43, u1005_46, u1005_48, u1005_51, u1005_53, u1005_54, u1005_57, u1005_60, u1005_61, gt_13_0, ob_4, ki_m1, ki_0, ki_1, ki_60, af_x hd_1005, decide_eq_true_eq, if_true, if_false, f2_ne, f2_eq, up_ne, up_eq, kc_int, kc_ref, kc_retAddr, kc_long, kc_double, af_n, af_v, z0, z1, n_of, nz6, nz4, bI_T, bI_F, bI_01, n_lt, n_le, n_eq, n_add, n_mul, n_sub, n_clamp, n_vp, m_lt, m_le, m_eq, m_eq2, m_ltm, m_add, true_and, and_true, eq_self, if_pos, if_neg, List.length_nil, List.length_cons, Nat.reduceAdd, Nat.reduceLeDiff, Nat.zero_le, not_true_eq_false, not_false_eq_true, true_or, or_true]
  | succ k ih =>
    intro i hi
    rw [u1005_20]
    unfold loN
    by_cases hv : S i
    · by_cases hz : A 7 (i * 24 + pl) = v
      · have e : lwP A S pl v i = true := by simp [lwP, hv, hz]
        simp (disch := omega) only [s_isMarked (a := 14) (by decide) rfl, bI_t hv, s_treeLine, hz, e, u1005_0, u1005_1, u1005_4, u1005_5, u1005_8, u1005_9, u1005_10, u1005_11, u1005_14, u1005_17, u1005_18, u1005_22, u1005_24, u1005_27, u1005_28, u1005_31, u1005_33, u1005_36, u1005_39, u1005_40, u1005_42, u1005_43, u1005_46, u1005_48, u1005_51, u1005_53, u1005_54, u1005_57, u1005_60, u1005_61, gt_13_0, ob_4, ki_m1, ki_0, ki_1, ki_60, af_x hd_1005, decide_eq_true_eq, if_true, if_false, f2_ne, f2_eq, up_ne, up_eq, kc_int, kc_ref, kc_retAddr, kc_long, kc_double, af_n, af_v, z0, z1, n_of, nz6, nz4, bI_T, bI_F, bI_01, n_lt, n_le, n_eq, n_add, n_mul, n_sub, n_clamp, n_vp, m_lt, m_le, m_eq, m_eq2, m_ltm, m_add, true_and, and_true, eq_self, if_pos, if_neg, List.length_nil, List.length_cons, Nat.reduceAdd, Nat.reduceLeDiff, Nat.zero_le, not_true_eq_false, not_false_eq_true, true_or, or_true]
      · have e : ¬ lwP A S pl v i = true := by simp [lwP, hv, hz]
        simp (disch := omega) only [s_isMarked (a := 14) (by decide) rfl, bI_t hv, s_treeLine, hz, e, u1005_0, u1005_1, u1005_4, u1005_5, u1005_8, u1005_9, u1005_10, u1005_11, u1005_14, u1005_17, u1005_18, u1005_22, u1005_24, u1005_27, u1005_28, u1005_31, u1005_33, u1005_36, u1005_39, u1005_40, u1005_42, u1005_43, u1005_46, u1005_48, u1005_51, u1005_53, u1005_54, u1005_57, u1005_60, u1005_61, gt_13_0, ob_4, ki_m1, ki_0, ki_1, ki_60, af_x hd_1005, decide_eq_true_eq, if_true, if_false, f2_ne, f2_eq, up_ne, up_eq, kc_int, kc_ref, kc_retAddr, kc_long, kc_double, af_n, af_v, z0, z1, n_of, nz6, nz4, bI_T, bI_F, bI_01, n_lt, n_le, n_eq, n_add, n_mul, n_sub, n_clamp, n_vp, m_lt, m_le, m_eq, m_eq2, m_ltm, m_add, true_and, and_true, eq_self, if_pos, if_neg, List.length_nil, List.length_cons, Nat.reduceAdd, Nat.reduceLeDiff, Nat.zero_le, not_true_eq_false, not_false_eq_true, true_or, or_true]
        exact ih (i + 1) (by omega)
    · have e : ¬ lwP A S pl v i = true := by simp [lwP, hv]
      simp (disch := omega) only [s_isMarked (a := 14) (by decide) rfl, bI_f hv, e, u1005_0, u1005_1, u1005_4, u1005_5, u1005_8, u1005_9, u1005_10, u1005_11, u1005_14, u1005_17, u1005_18, u1005_22, u1005_24, u1005_27, u1005_28, u1005_31, u1005_33, u1005_36, u1005_39, u1005_40, u1005_42, u1005_43, u1005_46, u1005_48, u1005_51, u1005_53, u1005_54, u1005_57, u1005_60, u1005_61, gt_13_0, ob_4, ki_m1, ki_0, ki_1, ki_60, af_x hd_1005, decide_eq_true_eq, if_true, if_false, f2_ne, f2_eq, up_ne, up_eq, kc_int, kc_ref, kc_retAddr, kc_long, kc_double, af_n, af_v, z0, z1, n_of, nz6, nz4, bI_T, bI_F, bI_01, n_lt, n_le, n_eq, n_add, n_mul, n_sub, n_clamp, n_vp, m_lt, m_le, m_eq, m_eq2, m_ltm, m_add, true_and, and_true, eq_self, if_pos, if_neg, List.length_nil, List.length_cons, Nat.reduceAdd, Nat.reduceLeDiff, Nat.zero_le, not_true_eq_false, not_false_eq_true, true_or, or_true]
      exact ih (i + 1) (by omega)
theorem s_lowestWith {c pl : Nat} {v : Int32} (hn : F 4 0 = nI n) (h60 : n ≤ 60) (hw : wfA A p q n) (hc : c < n) (hp : pl < 24) : am_Ca X (d + 3) 1005 [.ref 13, .ref 4, .int (nI c), .int (nI pl), .int v] (am_Z cl sl F A L) P = P (.inl (some (.int (loN (lwP A (Re p q c) pl v) 60 0)))) (am_Z cl sl F (rcA A (Re p q c)) L) := by
  rw [c1005]
  simp (disch := omega) only [s_fresh 14 (by decide) rfl, s_reach 14 (by decide) rfl (by decide) (by decide) hn h60 hw hc, u1005_0, u1005_1, u1005_4, u1005_5, u1005_8, u1005_9, u1005_10, u1005_11, u1005_14, u1005_17, u1005_18, u1005_22, u1005_24, u1005_27, u1005_28, u1005_31, u1005_33, u1005_36, u1005_39, u1005_40, u1005_42, u1005_43, u1005_46, u1005_48, u1005_51, u1005_53, u1005_54, u1005_57, u1005_60, u1005_61, gt_13_0, ob_4, ki_m1, ki_0, ki_1, ki_60, af_x hd_1005, decide_eq_true_eq, if_true, if_false, f2_ne, f2_eq, up_ne, up_eq, kc_int, kc_ref, kc_retAddr, kc_long, kc_double, af_n, af_v, z0, z1, n_of, nz6, nz4, bI_T, bI_F, bI_01, n_lt, n_le, n_eq, n_add, n_mul, n_sub, n_clamp, n_vp, m_lt, m_le, m_eq, m_eq2, m_ltm, m_add, true_and, and_true, eq_self, if_pos, if_neg, List.length_nil, List.length_cons, Nat.reduceAdd, Nat.reduceLeDiff, Nat.zero_le, not_true_eq_false, not_false_eq_true, true_or, or_true]
  exact l_lowestWith hp 60 0 rfl
/-- the highest of a set -/
theorem l_commonByMarks {c o : Nat} {g g2 : Nat → Int32} {S S2 : Nat → Prop} : ∀ (k : Nat), k ≤ 60 → am_g (d + 1) X am_m1012 38 [.ref 13, .ref 4, .int (nI c), .int (nI o), .int (pk k)] [] (am_Z cl sl F (va_up (va_up A 14 (ind S g)) 15 (ind S2 g2)) L) P = P (.inl (some (.int (hiC (fun x => S x ∧ S2 x) k)))) (am_Z cl sl F (va_up (va_up A 14 (ind S g)) 15 (ind S2 g2)) L) := by
  have e14 : va_up (va_up A 14 (ind S g)) 15 (ind S2 g2) = va_up (va_up A 15 (ind S2 g2)) 14 (ind S g) := by
    funext j
    unfold va_up
    by_cases h : j = 15
    · subst h; simp
    · simp [h]
  intro k
  induction k with
  | zero =>
    intro _
    rw [u1012_38]
    simp (disch := omega) only [pk_0, hiC, u1012_0, u1012_1, u1012_4, u1012_5, u1012_8, u1012_9, u1012_10, u1012_11, u1012_14, u1012_17, u1012_18, u1012_21, u1012_22, u1012_25, u1012_26, u1012_27, u1012_28, u1012_31, u1012_34, u1012_36, u1012_40, u1012_43, u1012_44, u1012_47, u1012_49, u1012_52, u1012_55, u1012_56, u1012_59, u1012_61, u1012_64, u1012_67, u1012_69, u1012_70, u1012_73, u1012_76, u1012_77, gt_13_0, gt_13_1, ki_m1, ki_0, ki_59, af_x hd_1012, decide_eq_true_eq, if_true, if_false, f2_ne, f2_eq, up_ne, up_eq, kc_int, kc_ref, kc_retAddr, kc_long, kc_double, af_n, af_v, z0, z1, n_of, nz6, nz4, bI_T, bI_F, bI_01, n_lt, n_le, n_eq, n_add, n_mul, n_sub, n_clamp, n_vp, m_lt, m_le, m_eq, m_eq2, m_ltm, m_add, true_and, and_true, eq_self, if_pos, if_neg, List.length_nil, List.length_cons, Nat.reduceAdd, Nat.reduceLeDiff, Nat.zero_le, not_true_eq_false, not_false_eq_true, true_or, or_true]
  | succ k ih =>
    intro hk
    rw [pk_s, u1012_38]
    unfold hiC
    have m2 : ∀ {Q : am_Q}, am_Ca X (d + 1) 1015 [.ref 15, .int (nI k)] (am_Z cl sl F (va_up (va_up A 14 (ind S g)) 15 (ind S2 g2)) L) Q = Q (.inl (some (.int (bI (S2 k))))) (am_Z cl sl F (va_up (va_up A 14 (ind S g)) 15 (ind S2 g2)) L) := s_isMarked (by decide) rfl (by omega)
    have m3 : ∀ {Q : am_Q}, am_Ca X (d + 1) 1015 [.ref 14, .int (nI k)] (am_Z cl sl F (va_up (va_up A 14 (ind S g)) 15 (ind S2 g2)) L) Q = Q (.inl (some (.int (bI (S k))))) (am_Z cl sl F (va_up (va_up A 14 (ind S g)) 15 (ind S2 g2)) L) := by
      intro Q
      rw [e14]
      exact s_isMarked (by decide) rfl (by omega)
    by_cases h1 : S k
    · by_cases h2 : S2 k
      · simp (disch := omega) only [m3, m2, bI_t h1, bI_t h2, h1, h2, u1012_0, u1012_1, u1012_4, u1012_5, u1012_8, u1012_9, u1012_10, u1012_11, u1012_14, u1012_17, u1012_18, u1012_21, u1012_22, u1012_25, u1012_26, u1012_27, u1012_28, u1012_31, u1012_34, u1012_36, u1012_40, u1012_43, u1012_44, u1012_47, u1012_49, u1012_52, u1012_55, u1012_56, u1012_59, u1012_61, u1012_64, u1012_67, u1012_69, u1012_70, u1012_73, u1012_76, u1012_77, gt_13_0, gt_13_1, ki_m1, ki_0, ki_59, af_x hd_1012, decide_eq_true_eq, if_true, if_false, f2_ne, f2_eq, up_ne, up_eq, kc_int, kc_ref, kc_retAddr, kc_long, kc_double, af_n, af_v, z0, z1, n_of, nz6, nz4, bI_T, bI_F, bI_01, n_lt, n_le, n_eq, n_add, n_mul, n_sub, n_clamp, n_vp, m_lt, m_le, m_eq, m_eq2, m_ltm, m_add, true_and, and_true, eq_self, if_pos, if_neg, List.length_nil, List.length_cons, Nat.reduceAdd, Nat.reduceLeDiff, Nat.zero_le, not_true_eq_false, not_false_eq_true, true_or, or_true]
      · simp (disch := omega) only [m3, m2, bI_t h1, bI_f h2, h1, h2, pk_dn, and_false, u1012_0, u1012_1, u1012_4, u1012_5, u1012_8, u1012_9, u1012_10, u1012_11, u1012_14, u1012_17, u1012_18, u1012_21, u1012_22, u1012_25, u1012_26, u1012_27, u1012_28, u1012_31, u1012_34, u1012_36, u1012_40, u1012_43, u1012_44, u1012_47, u1012_49, u1012_52, u1012_55, u1012_56, u1012_59, u1012_61, u1012_64, u1012_67, u1012_69, u1012_70, u1012_73, u1012_76, u1012_77, gt_13_0, gt_13_1, ki_m1, ki_0, ki_59, af_x hd_1012, decide_eq_true_eq, if_true, if_false, f2_ne, f2_eq, up_ne, up_eq, kc_int, kc_ref, kc_retAddr, kc_long, kc_double, af_n, af_v, z0, z1, n_of, nz6, nz4, bI_T, bI_F, bI_01, n_lt, n_le, n_eq, n_add, n_mul, n_sub, n_clamp, n_vp, m_lt, m_le, m_eq, m_eq2, m_ltm, m_add, true_and, and_true, eq_self, if_pos, if_neg, List.length_nil, List.length_cons, Nat.reduceAdd, Nat.reduceLeDiff, Nat.zero_le, not_true_eq_false, not_false_eq_true, true_or, or_true]
        exact ih (by omega)
    · simp (disch := omega) only [m3, bI_f h1, h1, pk_dn, false_and, u1012_0, u1012_1, u1012_4, u1012_5, u1012_8, u1012_9, u1012_10, u1012_11, u1012_14, u1012_17, u1012_18, u1012_21, u1012_22, u1012_25, u1012_26, u1012_27, u1012_28, u1012_31, u1012_34, u1012_36, u1012_40, u1012_43, u1012_44, u1012_47, u1012_49, u1012_52, u1012_55, u1012_56, u1012_59, u1012_61, u1012_64, u1012_67, u1012_69, u1012_70, u1012_73, u1012_76, u1012_77, gt_13_0, gt_13_1, ki_m1, ki_0, ki_59, af_x hd_1012, decide_eq_true_eq, if_true, if_false, f2_ne, f2_eq, up_ne, up_eq, kc_int, kc_ref, kc_retAddr, kc_long, kc_double, af_n, af_v, z0, z1, n_of, nz6, nz4, bI_T, bI_F, bI_01, n_lt, n_le, n_eq, n_add, n_mul, n_sub, n_clamp, n_vp, m_lt, m_le, m_eq, m_eq2, m_ltm, m_add, true_and, and_true, eq_self, if_pos, if_neg, List.length_nil, List.length_cons, Nat.reduceAdd, Nat.reduceLeDiff, Nat.zero_le, not_true_eq_false, not_false_eq_true, true_or, or_true]
      exact ih (by omega)
theorem s_commonByMarks {c o : Nat} (hn : F 4 0 = nI n) (h60 : n ≤ 60) (hw : wfA A p q n) (hc : c < n) (ho : o < n) : am_Ca X (d + 3) 1012 [.ref 13, .ref 4, .int (nI c), .int (nI o)] (am_Z cl sl F A L) P = P (.inl (some (.int (hiC (fun x => Re p q c x ∧ Re p q o x) 60)))) (am_Z cl sl F (va_up (rcA A (Re p q c)) 15 (ind (Re p q o) (A 15))) L) := by
  rw [c1012]
  have hw2 : ∀ g : Nat → Int32, wfA (va_up A 14 g) p q n := fun g => wfA_up hw (by decide) (by decide)
  simp (disch := omega) only [s_fresh 14 (by decide) rfl, s_reach 14 (by decide) rfl (by decide) (by decide) hn h60 hw hc, s_fresh 15 (by decide) rfl, s_reach 15 (by decide) rfl (by decide) (by decide) hn h60 (hw2 _) ho, u1012_0, u1012_1, u1012_4, u1012_5, u1012_8, u1012_9, u1012_10, u1012_11, u1012_14, u1012_17, u1012_18, u1012_21, u1012_22, u1012_25, u1012_26, u1012_27, u1012_28, u1012_31, u1012_34, u1012_36, u1012_40, u1012_43, u1012_44, u1012_47, u1012_49, u1012_52, u1012_55, u1012_56, u1012_59, u1012_61, u1012_64, u1012_67, u1012_69, u1012_70, u1012_73, u1012_76, u1012_77, gt_13_0, gt_13_1, ki_m1, ki_0, ki_59, af_x hd_1012, decide_eq_true_eq, if_true, if_false, f2_ne, f2_eq, up_ne, up_eq, kc_int, kc_ref, kc_retAddr, kc_long, kc_double, af_n, af_v, z0, z1, n_of, nz6, nz4, bI_T, bI_F, bI_01, n_lt, n_le, n_eq, n_add, n_mul, n_sub, n_clamp, n_vp, m_lt, m_le, m_eq, m_eq2, m_ltm, m_add, true_and, and_true, eq_self, if_pos, if_neg, List.length_nil, List.length_cons, Nat.reduceAdd, Nat.reduceLeDiff, Nat.zero_le, not_true_eq_false, not_false_eq_true, true_or, or_true]
  exact l_commonByMarks 60 (Nat.le_refl _)
end H2
