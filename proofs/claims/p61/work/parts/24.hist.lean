/-! Histories (object 13; rows 14 the marks, 15 the other marks, 16 the steps) -/
noncomputable def dP (S : Nat → Prop) : Nat → Bool := fun x => @decide (S x) (Classical.propDecidable _)
theorem dP_t {S : Nat → Prop} {x : Nat} (h : S x) : dP S x = true := by simp [dP, h]
theorem dP_f {S : Nat → Prop} {x : Nat} (h : ¬ S x) : dP S x = false := by simp [dP, h]
theorem ind_bI {S : Nat → Prop} {g : Nat → Int32} {x : Nat} (hx : x < 60) : ind S g x = bI (S x) := by
  unfold ind bI
  rw [if_pos hx]
/-- the highest that is in the set, below k -/
noncomputable def hiC (S : Nat → Prop) : Nat → Int32
  | 0 => m1
  | k + 1 => @ite _ (S k) (Classical.propDecidable _) (nI k) (hiC S k)
theorem p1_up {A : Nat → Nat → Int32} {a n c : Nat} {f : Nat → Int32} (h : 5 ≠ a) : p1 (va_up A a f) n c = p1 A n c := by unfold p1; rw [up_ne h]
theorem p2_up {A : Nat → Nat → Int32} {a n c : Nat} {f : Nat → Int32} (h : 6 ≠ a) : p2 (va_up A a f) n c = p2 A n c := by unfold p2; rw [up_ne h]
/-- the commits as numbers: n of them; p, q their parents plus one -/
def wfA (A : Nat → Nat → Int32) (p q : Nat → Nat) (n : Nat) : Prop := wfP p q n ∧ (∀ c, c < n → A 5 c = pk (p c)) ∧ ∀ c, c < n → A 6 c = pk (q c)
theorem wfA_up {A : Nat → Nat → Int32} {p q : Nat → Nat} {n a : Nat} {f : Nat → Int32} (h : wfA A p q n) (h5 : 5 ≠ a) (h6 : 6 ≠ a) : wfA (va_up A a f) p q n := ⟨h.1, fun c hc => by rw [up_ne h5]; exact h.2.1 c hc, fun c hc => by rw [up_ne h6]; exact h.2.2 c hc⟩
section HI
variable {d cl sl : Nat} {X : am_X} {F A : Nat → Nat → Int32} {L : Nat → Nat → Int64} {P : am_Q} {a n : Nat} {p q : Nat → Nat} {S : Nat → Prop} {g : Nat → Int32}
theorem s_addMark {c : Nat} {v : Int32} (ha : a < 70) (h1 : SH a = (1, 60, [])) (hc : c < 60) : am_Ca X (d + 1) 1016 [.ref a, .int (nI c), .int v] (am_Z cl sl F A L) P = P (.inl none) (am_Z cl sl F (am_f2 A a c (A a c ||| v)) L) := by
  rw [c1016]
  simp (disch := omega) only [al_g ha h1, xl_g ha h1, xs_g ha h1, u1016_0, u1016_1, u1016_4, u1016_5, u1016_6, u1016_7, u1016_10, u1016_11, u1016_12ir, u1016_13, u1016_14, u1016_15, u1016_16, u1016_17, af_x hd_1016, decide_eq_true_eq, if_true, if_false, f2_ne, f2_eq, up_ne, up_eq, kc_int, kc_ref, kc_retAddr, kc_long, kc_double, af_n, af_v, z0, z1, n_of, nz6, nz4, bI_T, bI_F, bI_01, n_lt, n_le, n_eq, n_add, n_mul, n_sub, n_clamp, n_vp, m_lt, m_le, m_eq, m_eq2, m_ltm, m_add, true_and, and_true, eq_self, if_pos, if_neg, List.length_nil, List.length_cons, Nat.reduceAdd, Nat.reduceLeDiff, Nat.zero_le, not_true_eq_false, not_false_eq_true, true_or, or_true]
theorem s_addMark_m {v : Int32} : am_Ca X (d + 1) 1016 [.ref a, .int m1, .int v] (am_Z cl sl F A L) P = P (.inl none) (am_Z cl sl F A L) := by
  rw [c1016]
  simp (disch := omega) only [u1016_0, u1016_1, u1016_4, u1016_5, u1016_6, u1016_7, u1016_10, u1016_11, u1016_12ir, u1016_13, u1016_14, u1016_15, u1016_16, u1016_17, af_x hd_1016, decide_eq_true_eq, if_true, if_false, f2_ne, f2_eq, up_ne, up_eq, kc_int, kc_ref, kc_retAddr, kc_long, kc_double, af_n, af_v, z0, z1, n_of, nz6, nz4, bI_T, bI_F, bI_01, n_lt, n_le, n_eq, n_add, n_mul, n_sub, n_clamp, n_vp, m_lt, m_le, m_eq, m_eq2, m_ltm, m_add, true_and, and_true, eq_self, if_pos, if_neg, List.length_nil, List.length_cons, Nat.reduceAdd, Nat.reduceLeDiff, Nat.zero_le, not_true_eq_false, not_false_eq_true, true_or, or_true]
theorem s_addPk {z : Nat} (ha : a < 70) (h1 : SH a = (1, 60, [])) (hz : z ≤ 60) : am_Ca X (d + 1) 1016 [.ref a, .int (pk z), .int (nI 1)] (am_Z cl sl F (va_up A a (ind S g)) L) P = P (.inl none) (am_Z cl sl F (va_up A a (ind (fun x => S x ∨ z = x + 1) g)) L) := by
  cases z with
  | zero =>
    rw [pk_0, s_addMark_m]
    rw [show ind (fun x => S x ∨ 0 = x + 1) g = ind S g from ind_cg fun x _ => ⟨fun h => h.resolve_right (by omega), Or.inl⟩]
  | succ z =>
    rw [pk_s, s_addMark ha h1 (by omega), f2_up, up_eq, ind_up (by omega)]
    rw [show ind (fun x => S x ∨ x = z) g = ind (fun x => S x ∨ z + 1 = x + 1) g from ind_cg fun x _ => by
      constructor
      · rintro (h | h)
        · exact Or.inl h
        · exact Or.inr (by omega)
      · rintro (h | h)
        · exact Or.inl h
        · exact Or.inr (by omega)]
theorem s_isMarked {c : Nat} (ha : a < 70) (h1 : SH a = (1, 60, [])) (hc : c < 60) : am_Ca X (d + 1) 1015 [.ref a, .int (nI c)] (am_Z cl sl F (va_up A a (ind S g)) L) P = P (.inl (some (.int (bI (S c))))) (am_Z cl sl F (va_up A a (ind S g)) L) := by
  rw [c1015]
  by_cases h : S c
  · simp (disch := omega) only [al_g ha h1, xl_g ha h1, ind_t hc h, bI_t h, u1015_0, u1015_1, u1015_4, u1015_5, u1015_6, u1015_7, u1015_10, u1015_11, u1015_12, u1015_13, u1015_16, u1015_17, u1015_20, u1015_21, ki_0, ki_1, af_x hd_1015, decide_eq_true_eq, if_true, if_false, f2_ne, f2_eq, up_ne, up_eq, kc_int, kc_ref, kc_retAddr, kc_long, kc_double, af_n, af_v, z0, z1, n_of, nz6, nz4, bI_T, bI_F, bI_01, n_lt, n_le, n_eq, n_add, n_mul, n_sub, n_clamp, n_vp, m_lt, m_le, m_eq, m_eq2, m_ltm, m_add, true_and, and_true, eq_self, if_pos, if_neg, List.length_nil, List.length_cons, Nat.reduceAdd, Nat.reduceLeDiff, Nat.zero_le, not_true_eq_false, not_false_eq_true, true_or, or_true]
  · simp (disch := omega) only [al_g ha h1, xl_g ha h1, ind_f hc h, bI_f h, u1015_0, u1015_1, u1015_4, u1015_5, u1015_6, u1015_7, u1015_10, u1015_11, u1015_12, u1015_13, u1015_16, u1015_17, u1015_20, u1015_21, ki_0, ki_1, af_x hd_1015, decide_eq_true_eq, if_true, if_false, f2_ne, f2_eq, up_ne, up_eq, kc_int, kc_ref, kc_retAddr, kc_long, kc_double, af_n, af_v, z0, z1, n_of, nz6, nz4, bI_T, bI_F, bI_01, n_lt, n_le, n_eq, n_add, n_mul, n_sub, n_clamp, n_vp, m_lt, m_le, m_eq, m_eq2, m_ltm, m_add, true_and, and_true, eq_self, if_pos, if_neg, List.length_nil, List.length_cons, Nat.reduceAdd, Nat.reduceLeDiff, Nat.zero_le, not_true_eq_false, not_false_eq_true, true_or, or_true]
theorem l_markReached {c : Nat} (ha : a < 70) (h1 : SH a = (1, 60, [])) (h5 : 5 ≠ a) (h6 : 6 ≠ a) (hn : F 4 0 = nI n) (h60 : n ≤ 60) (hw : wfA A p q n) (hS : ∀ y x, y < n → S y → par p q y x → S x) (hc : c < n) : ∀ (k : Nat), k ≤ c + 1 →
    am_g (d + 1) X am_m1017 15 [.ref 4, .int (nI c), .ref a, .int (pk k)] [] (am_Z cl sl F (va_up A a (ind (mT p q S c k) g)) L) P = P (.inl none) (am_Z cl sl F (va_up A a (ind (mT p q S c 0) g)) L) := by
  intro k
  induction k with
  | zero =>
    intro _
    simp (disch := omega) only [pk_0, u1017_0, u1017_1, u1017_2, u1017_3, u1017_6, u1017_7, u1017_8, u1017_9, u1017_10, u1017_11, u1017_14, u1017_15, u1017_16, u1017_19, u1017_20, u1017_21, u1017_22, u1017_25, u1017_26, u1017_27, u1017_28, u1017_31, u1017_32, u1017_35, u1017_36, u1017_37, u1017_38, u1017_41, u1017_42, u1017_45, u1017_48, u1017_51, ob_4, ki_m1, ki_1, af_x hd_1017, decide_eq_true_eq, if_true, if_false, f2_ne, f2_eq, up_ne, up_eq, kc_int, kc_ref, kc_retAddr, kc_long, kc_double, af_n, af_v, z0, z1, n_of, nz6, nz4, bI_T, bI_F, bI_01, n_lt, n_le, n_eq, n_add, n_mul, n_sub, n_clamp, n_vp, m_lt, m_le, m_eq, m_eq2, m_ltm, m_add, true_and, and_true, eq_self, if_pos, if_neg, List.length_nil, List.length_cons, Nat.reduceAdd, Nat.reduceLeDiff, Nat.zero_le, not_true_eq_false, not_false_eq_true, true_or, or_true]
  | succ k ih =>
    intro hk
    rw [pk_s, u1017_15]
    have hkn : k < n := by omega
    have e1 : p1 (va_up A a (ind (mT p q S c (k + 1)) g)) n k = pk (p k) := by rw [p1_up h5]; unfold p1; rw [if_pos hkn]; exact hw.2.1 k hkn
    have hpk := hw.1 k hkn
    have em : nI k + m1 = pk k := by
      cases k with
      | zero => rfl
      | succ k => rw [pk_s, m_add (by omega)]; rfl
    by_cases hm : mT p q S c (k + 1) k
    · simp (disch := omega) only [xl_g ha h1, ind_t (show k < 60 by omega) hm, s_parentOne hn h60, e1, s_addPk ha h1, s_parentTwo hn h60, p2_up h6, u1017_0, u1017_1, u1017_2, u1017_3, u1017_6, u1017_7, u1017_8, u1017_9, u1017_10, u1017_11, u1017_14, u1017_16, u1017_19, u1017_20, u1017_21, u1017_22, u1017_25, u1017_26, u1017_27, u1017_28, u1017_31, u1017_32, u1017_35, u1017_36, u1017_37, u1017_38, u1017_41, u1017_42, u1017_45, u1017_48, u1017_51, ob_4, ki_m1, ki_1, af_x hd_1017, decide_eq_true_eq, if_true, if_false, f2_ne, f2_eq, up_ne, up_eq, kc_int, kc_ref, kc_retAddr, kc_long, kc_double, af_n, af_v, z0, z1, n_of, nz6, nz4, bI_T, bI_F, bI_01, n_lt, n_le, n_eq, n_add, n_mul, n_sub, n_clamp, n_vp, m_lt, m_le, m_eq, m_eq2, m_ltm, m_add, true_and, and_true, eq_self, if_pos, if_neg, List.length_nil, List.length_cons, Nat.reduceAdd, Nat.reduceLeDiff, Nat.zero_le, not_true_eq_false, not_false_eq_true, true_or, or_true]
      have e2 : p2 A n k = pk (q k) := by unfold p2; rw [if_pos hkn]; exact hw.2.2 k hkn
      rw [e2]
      simp (disch := omega) only [s_addPk ha h1, em, u1017_0, u1017_1, u1017_2, u1017_3, u1017_6, u1017_7, u1017_8, u1017_9, u1017_10, u1017_11, u1017_14, u1017_16, u1017_19, u1017_20, u1017_21, u1017_22, u1017_25, u1017_26, u1017_27, u1017_28, u1017_31, u1017_32, u1017_35, u1017_36, u1017_37, u1017_38, u1017_41, u1017_42, u1017_45, u1017_48, u1017_51, ob_4, ki_m1, ki_1, af_x hd_1017, decide_eq_true_eq, if_true, if_false, f2_ne, f2_eq, up_ne, up_eq, kc_int, kc_ref, kc_retAddr, kc_long, kc_double, af_n, af_v, z0, z1, n_of, nz6, nz4, bI_T, bI_F, bI_01, n_lt, n_le, n_eq, n_add, n_mul, n_sub, n_clamp, n_vp, m_lt, m_le, m_eq, m_eq2, m_ltm, m_add, true_and, and_true, eq_self, if_pos, if_neg, List.length_nil, List.length_cons, Nat.reduceAdd, Nat.reduceLeDiff, Nat.zero_le, not_true_eq_false, not_false_eq_true, true_or, or_true]
      rw [show ind (fun x => (mT p q S c (k + 1) x ∨ p k = x + 1) ∨ q k = x + 1) g = ind (mT p q S c k) g from ind_cg fun x _ => by
        rw [mT_in hw.1 hc (by omega) hS hm]
        unfold par
        exact or_assoc]
      exact ih (by omega)
    · simp (disch := omega) only [xl_g ha h1, ind_f (show k < 60 by omega) hm, em, u1017_0, u1017_1, u1017_2, u1017_3, u1017_6, u1017_7, u1017_8, u1017_9, u1017_10, u1017_11, u1017_14, u1017_16, u1017_19, u1017_20, u1017_21, u1017_22, u1017_25, u1017_26, u1017_27, u1017_28, u1017_31, u1017_32, u1017_35, u1017_36, u1017_37, u1017_38, u1017_41, u1017_42, u1017_45, u1017_48, u1017_51, ob_4, ki_m1, ki_1, af_x hd_1017, decide_eq_true_eq, if_true, if_false, f2_ne, f2_eq, up_ne, up_eq, kc_int, kc_ref, kc_retAddr, kc_long, kc_double, af_n, af_v, z0, z1, n_of, nz6, nz4, bI_T, bI_F, bI_01, n_lt, n_le, n_eq, n_add, n_mul, n_sub, n_clamp, n_vp, m_lt, m_le, m_eq, m_eq2, m_ltm, m_add, true_and, and_true, eq_self, if_pos, if_neg, List.length_nil, List.length_cons, Nat.reduceAdd, Nat.reduceLeDiff, Nat.zero_le, not_true_eq_false, not_false_eq_true, true_or, or_true]
      rw [show ind (mT p q S c (k + 1)) g = ind (mT p q S c k) g from ind_cg fun x _ => (mT_out hw.1 hc (by omega) hm).symm]
      exact ih (by omega)
theorem s_markReached {c : Nat} (ha : a < 70) (h1 : SH a = (1, 60, [])) (h5 : 5 ≠ a) (h6 : 6 ≠ a) (hn : F 4 0 = nI n) (h60 : n ≤ 60) (hw : wfA A p q n) (hS : ∀ y x, y < n → S y → par p q y x → S x) (hc : c < n) :
    am_Ca X (d + 2) 1017 [.ref 4, .int (nI c), .ref a] (am_Z cl sl F (va_up A a (ind S g)) L) P = P (.inl none) (am_Z cl sl F (va_up A a (ind (fun x => S x ∨ Re p q c x) g)) L) := by
  rw [c1017]
  have e0 : nI c = pk (c + 1) := (pk_s c).symm
  rw [u1017_0]
  simp (disch := omega) only [al_g ha h1, u1017_0, u1017_1, u1017_2, u1017_3, u1017_6, u1017_7, u1017_8, u1017_9, u1017_10, u1017_11, u1017_14, u1017_16, u1017_19, u1017_20, u1017_21, u1017_22, u1017_25, u1017_26, u1017_27, u1017_28, u1017_31, u1017_32, u1017_35, u1017_36, u1017_37, u1017_38, u1017_41, u1017_42, u1017_45, u1017_48, u1017_51, ob_4, ki_m1, ki_1, af_x hd_1017, decide_eq_true_eq, if_true, if_false, f2_ne, f2_eq, up_ne, up_eq, kc_int, kc_ref, kc_retAddr, kc_long, kc_double, af_n, af_v, z0, z1, n_of, nz6, nz4, bI_T, bI_F, bI_01, n_lt, n_le, n_eq, n_add, n_mul, n_sub, n_clamp, n_vp, m_lt, m_le, m_eq, m_eq2, m_ltm, m_add, true_and, and_true, eq_self, if_pos, if_neg, List.length_nil, List.length_cons, Nat.reduceAdd, Nat.reduceLeDiff, Nat.zero_le, not_true_eq_false, not_false_eq_true, true_or, or_true]
  rw [e0]
  simp (disch := omega) only [s_addPk ha h1, al_g ha h1, u1017_0, u1017_1, u1017_2, u1017_3, u1017_6, u1017_7, u1017_8, u1017_9, u1017_10, u1017_11, u1017_14, u1017_16, u1017_19, u1017_20, u1017_21, u1017_22, u1017_25, u1017_26, u1017_27, u1017_28, u1017_31, u1017_32, u1017_35, u1017_36, u1017_37, u1017_38, u1017_41, u1017_42, u1017_45, u1017_48, u1017_51, ob_4, ki_m1, ki_1, af_x hd_1017, decide_eq_true_eq, if_true, if_false, f2_ne, f2_eq, up_ne, up_eq, kc_int, kc_ref, kc_retAddr, kc_long, kc_double, af_n, af_v, z0, z1, n_of, nz6, nz4, bI_T, bI_F, bI_01, n_lt, n_le, n_eq, n_add, n_mul, n_sub, n_clamp, n_vp, m_lt, m_le, m_eq, m_eq2, m_ltm, m_add, true_and, and_true, eq_self, if_pos, if_neg, List.length_nil, List.length_cons, Nat.reduceAdd, Nat.reduceLeDiff, Nat.zero_le, not_true_eq_false, not_false_eq_true, true_or, or_true]
  rw [pk_s]
  simp (disch := omega) only [u1017_0, u1017_1, u1017_2, u1017_3, u1017_6, u1017_7, u1017_8, u1017_9, u1017_10, u1017_11, u1017_14, u1017_16, u1017_19, u1017_20, u1017_21, u1017_22, u1017_25, u1017_26, u1017_27, u1017_28, u1017_31, u1017_32, u1017_35, u1017_36, u1017_37, u1017_38, u1017_41, u1017_42, u1017_45, u1017_48, u1017_51, ob_4, ki_m1, ki_1, af_x hd_1017, decide_eq_true_eq, if_true, if_false, f2_ne, f2_eq, up_ne, up_eq, kc_int, kc_ref, kc_retAddr, kc_long, kc_double, af_n, af_v, z0, z1, n_of, nz6, nz4, bI_T, bI_F, bI_01, n_lt, n_le, n_eq, n_add, n_mul, n_sub, n_clamp, n_vp, m_lt, m_le, m_eq, m_eq2, m_ltm, m_add, true_and, and_true, eq_self, if_pos, if_neg, List.length_nil, List.length_cons, Nat.reduceAdd, Nat.reduceLeDiff, Nat.zero_le, not_true_eq_false, not_false_eq_true, true_or, or_true]
  rw [show ind (fun x => S x ∨ c + 1 = x + 1) g = ind (mT p q S c (c + 1)) g from ind_cg fun x _ => by
    rw [mT_top]
    constructor
    · rintro (h | h)
      · exact Or.inl h
      · exact Or.inr (by omega)
    · rintro (h | h)
      · exact Or.inl h
      · exact Or.inr (by omega)]
  have h := l_markReached (d := d) (X := X) (F := F) (A := A) (L := L) (cl := cl) (sl := sl) (P := P) (g := g) ha h1 h5 h6 hn h60 hw hS hc (c + 1) (Nat.le_refl _)
  rw [pk_s] at h
  rw [h]
  rw [show ind (mT p q S c 0) g = ind (fun x => S x ∨ Re p q c x) g from ind_cg fun x _ => mT_end hw.1 hc]
end HI
