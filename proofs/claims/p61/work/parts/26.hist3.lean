/-! Histories: the steps, the lost ones, the commits of a replay -/
theorem pk_inj {a b : Nat} (ha : a < 2147483648) (hb : b < 2147483648) : (pk a = pk b) = (a = b) := by
  cases a with
  | zero =>
    cases b with
    | zero => exact propext ⟨fun _ => rfl, fun _ => rfl⟩
    | succ b => rw [pk_0, pk_s, m_eq2 (by omega)]; simp
  | succ a =>
    cases b with
    | zero => rw [pk_0, pk_s, m_eq (by omega)]; simp
    | succ b => rw [pk_s, pk_s, n_eq (by omega) (by omega)]; simp
theorem pk_max {a b : Nat} (ha : a < 2147483648) (hb : b < 2147483648) : (if pk a < pk b then pk b else pk a) = pk (max a b) := by
  have e : (pk a < pk b) = (a < b) := by
    cases a with
    | zero =>
      cases b with
      | zero => simp [pk_0]
      | succ b => rw [pk_0, pk_s, m_lt (by omega)]; simp
    | succ a =>
      cases b with
      | zero => rw [pk_0, pk_s, m_ltm (by omega)]; simp
      | succ b => rw [pk_s, pk_s, n_lt (by omega) (by omega)]; simp
  simp only [e]
  by_cases h : a < b
  · rw [if_pos h, Nat.max_eq_right (by omega)]
  · rw [if_neg h, Nat.max_eq_left (by omega)]
theorem pk_up (a : Nat) : pk a + nI 1 = nI a := by
  cases a with
  | zero => rfl
  | succ a => rw [pk_s, n_add]
/-- a row of numbers, each plus one; 0 for none -/
def pkr (st : Nat → Nat) (g : Nat → Int32) : Nat → Int32 := fun x => if x < 60 then pk (st x) else g x
theorem pkr_at {st : Nat → Nat} {g : Nat → Int32} {x : Nat} (h : x < 60) : pkr st g x = pk (st x) := if_pos h
theorem pkr_up {st : Nat → Nat} {g : Nat → Int32} {x v : Nat} (h : x < 60) : va_up (pkr st g) x (pk v) = pkr (va_up st x v) g := by
  funext j
  unfold va_up pkr
  by_cases hj : j = x
  · subst hj
    rw [if_pos rfl, if_pos h]
    show pk v = pk (va_up st j v j)
    rw [up_eq]
  · rw [if_neg hj]
    by_cases h6 : j < 60
    · rw [if_pos h6, if_pos h6]
      show pk (st j) = pk (va_up st x v j)
      rw [up_ne hj]
    · rw [if_neg h6, if_neg h6]
theorem pkr_0 {g : Nat → Int32} : fil m1 60 g = pkr (fun _ => 0) g := rfl
def low (st : Nat → Nat) (z v : Nat) : Nat → Nat := if z ≠ 0 ∧ (st (z - 1) = 0 ∨ v < st (z - 1)) then va_up st (z - 1) v else st
def fw (p q : Nat → Nat) : Nat → (Nat → Nat) → Nat → Nat
  | 0, st => st
  | k + 1, st => fw p q k (if st k = 0 then st else low (low st (p k) (st k + 1)) (q k) (st k + 1))
theorem low_ne {st : Nat → Nat} {z v x : Nat} (h : z ≤ x) : low st z v x = st x := by
  unfold low
  split
  · rw [up_ne (by omega)]
  · rfl
theorem low_B {st : Nat → Nat} {z v : Nat} (h : ∀ x, x < 60 → st x + x ≤ 60) (hv : z ≠ 0 → v + (z - 1) ≤ 60) : ∀ x, x < 60 → low st z v x + x ≤ 60 := by
  intro x hx
  unfold low
  split
  · rename_i h2
    by_cases e : x = z - 1
    · rw [e, up_eq]; exact hv h2.1
    · rw [up_ne e]; exact h x hx
  · exact h x hx
section H3
variable {d cl sl : Nat} {X : am_X} {F A : Nat → Nat → Int32} {L : Nat → Nat → Int64} {P : am_Q} {n : Nat} {p q : Nat → Nat} {g : Nat → Int32} {st : Nat → Nat}
theorem s_stepsOf {x : Nat} (hx : x < 60) : am_Ca X (d + 1) 1008 [.ref 13, .int (nI x)] (am_Z cl sl F A L) P = P (.inl (some (.int (A 16 x)))) (am_Z cl sl F A L) := by
  rw [c1008]
  simp (disch := omega) only [u1008_0, u1008_1, u1008_4, u1008_5, u1008_7, u1008_10, u1008_11, u1008_14, u1008_15, u1008_16, u1008_19, u1008_20, gt_13_2, xl_16, ki_m1, ki_60, af_x hd_1008, decide_eq_true_eq, if_true, if_false, f2_ne, f2_eq, up_ne, up_eq, kc_int, kc_ref, kc_retAddr, kc_long, kc_double, af_n, af_v, z0, z1, n_of, nz6, nz4, bI_T, bI_F, bI_01, n_lt, n_le, n_eq, n_add, n_mul, n_sub, n_clamp, n_vp, m_lt, m_le, m_eq, m_eq2, m_ltm, m_add, true_and, and_true, eq_self, if_pos, if_neg, List.length_nil, List.length_cons, Nat.reduceAdd, Nat.reduceLeDiff, Nat.zero_le, not_true_eq_false, not_false_eq_true, true_or, or_true]
theorem s_stepsOf_m : am_Ca X (d + 1) 1008 [.ref 13, .int m1] (am_Z cl sl F A L) P = P (.inl (some (.int m1))) (am_Z cl sl F A L) := by
  rw [c1008]
  simp (disch := omega) only [u1008_0, u1008_1, u1008_4, u1008_5, u1008_7, u1008_10, u1008_11, u1008_14, u1008_15, u1008_16, u1008_19, u1008_20, gt_13_2, xl_16, ki_m1, ki_60, af_x hd_1008, decide_eq_true_eq, if_true, if_false, f2_ne, f2_eq, up_ne, up_eq, kc_int, kc_ref, kc_retAddr, kc_long, kc_double, af_n, af_v, z0, z1, n_of, nz6, nz4, bI_T, bI_F, bI_01, n_lt, n_le, n_eq, n_add, n_mul, n_sub, n_clamp, n_vp, m_lt, m_le, m_eq, m_eq2, m_ltm, m_add, true_and, and_true, eq_self, if_pos, if_neg, List.length_nil, List.length_cons, Nat.reduceAdd, Nat.reduceLeDiff, Nat.zero_le, not_true_eq_false, not_false_eq_true, true_or, or_true]
theorem s_lowerSteps {z v : Nat} (hz : z ≤ 60) (hv : v ≤ 60) (hB : ∀ x, x < 60 → st x + x ≤ 60) : am_Ca X (d + 1) 1009 [.ref 13, .int (pk z), .int (nI v)] (am_Z cl sl F (va_up A 16 (pkr st g)) L) P = P (.inl none) (am_Z cl sl F (va_up A 16 (pkr (low st z (v + 1)) g)) L) := by
  rw [c1009]
  cases z with
  | zero =>
    have e : low st 0 (v + 1) = st := by
      unfold low
      rw [if_neg (fun h => h.1 rfl)]
    rw [e]
    simp (disch := omega) only [pk_0, u1009_0, u1009_1, u1009_4, u1009_5, u1009_7, u1009_10, u1009_11, u1009_14, u1009_15, u1009_16, u1009_17, u1009_20, u1009_21, u1009_24, u1009_25, u1009_26, u1009_27, u1009_30, u1009_31, u1009_34, u1009_35, u1009_36, u1009_37, gt_13_2, xl_16, xs_16, ki_m1, ki_60, af_x hd_1009, decide_eq_true_eq, if_true, if_false, f2_ne, f2_eq, up_ne, up_eq, kc_int, kc_ref, kc_retAddr, kc_long, kc_double, af_n, af_v, z0, z1, n_of, nz6, nz4, bI_T, bI_F, bI_01, n_lt, n_le, n_eq, n_add, n_mul, n_sub, n_clamp, n_vp, m_lt, m_le, m_eq, m_eq2, m_ltm, m_add, true_and, and_true, eq_self, if_pos, if_neg, List.length_nil, List.length_cons, Nat.reduceAdd, Nat.reduceLeDiff, Nat.zero_le, not_true_eq_false, not_false_eq_true, true_or, or_true]
  | succ z =>
    have hz6 : z < 60 := by omega
    have hBz := hB z hz6
    rw [pk_s]
    by_cases h0 : st z = 0
    · have e : low st (z + 1) (v + 1) = va_up st z (v + 1) := by
        unfold low
        rw [if_pos ⟨by omega, Or.inl h0⟩]
        rfl
      rw [e]
      simp (disch := omega) only [pkr_at hz6, h0, pk_0, f2_up, u1009_0, u1009_1, u1009_4, u1009_5, u1009_7, u1009_10, u1009_11, u1009_14, u1009_15, u1009_16, u1009_17, u1009_20, u1009_21, u1009_24, u1009_25, u1009_26, u1009_27, u1009_30, u1009_31, u1009_34, u1009_35, u1009_36, u1009_37, gt_13_2, xl_16, xs_16, ki_m1, ki_60, af_x hd_1009, decide_eq_true_eq, if_true, if_false, f2_ne, f2_eq, up_ne, up_eq, kc_int, kc_ref, kc_retAddr, kc_long, kc_double, af_n, af_v, z0, z1, n_of, nz6, nz4, bI_T, bI_F, bI_01, n_lt, n_le, n_eq, n_add, n_mul, n_sub, n_clamp, n_vp, m_lt, m_le, m_eq, m_eq2, m_ltm, m_add, true_and, and_true, eq_self, if_pos, if_neg, List.length_nil, List.length_cons, Nat.reduceAdd, Nat.reduceLeDiff, Nat.zero_le, not_true_eq_false, not_false_eq_true, true_or, or_true]
      rw [← pk_s v, pkr_up hz6]
    · obtain ⟨s, hs⟩ : ∃ s, st z = s + 1 := ⟨st z - 1, by omega⟩
      by_cases h1 : v < s
      · have e : low st (z + 1) (v + 1) = va_up st z (v + 1) := by
          unfold low
          rw [if_pos ⟨by omega, Or.inr (by show v + 1 < st z; omega)⟩]
          rfl
        rw [e]
        simp (disch := omega) only [pkr_at hz6, hs, pk_s, f2_up, u1009_0, u1009_1, u1009_4, u1009_5, u1009_7, u1009_10, u1009_11, u1009_14, u1009_15, u1009_16, u1009_17, u1009_20, u1009_21, u1009_24, u1009_25, u1009_26, u1009_27, u1009_30, u1009_31, u1009_34, u1009_35, u1009_36, u1009_37, gt_13_2, xl_16, xs_16, ki_m1, ki_60, af_x hd_1009, decide_eq_true_eq, if_true, if_false, f2_ne, f2_eq, up_ne, up_eq, kc_int, kc_ref, kc_retAddr, kc_long, kc_double, af_n, af_v, z0, z1, n_of, nz6, nz4, bI_T, bI_F, bI_01, n_lt, n_le, n_eq, n_add, n_mul, n_sub, n_clamp, n_vp, m_lt, m_le, m_eq, m_eq2, m_ltm, m_add, true_and, and_true, eq_self, if_pos, if_neg, List.length_nil, List.length_cons, Nat.reduceAdd, Nat.reduceLeDiff, Nat.zero_le, not_true_eq_false, not_false_eq_true, true_or, or_true]
        rw [← pk_s v, pkr_up hz6]
      · have e : low st (z + 1) (v + 1) = st := by
          unfold low
          rw [if_neg]
          rintro ⟨-, h | h⟩
          · exact h0 h
          · have h' : v + 1 < st z := h
            omega
        rw [e]
        simp (disch := omega) only [pkr_at hz6, hs, pk_s, f2_up, u1009_0, u1009_1, u1009_4, u1009_5, u1009_7, u1009_10, u1009_11, u1009_14, u1009_15, u1009_16, u1009_17, u1009_20, u1009_21, u1009_24, u1009_25, u1009_26, u1009_27, u1009_30, u1009_31, u1009_34, u1009_35, u1009_36, u1009_37, gt_13_2, xl_16, xs_16, ki_m1, ki_60, af_x hd_1009, decide_eq_true_eq, if_true, if_false, f2_ne, f2_eq, up_ne, up_eq, kc_int, kc_ref, kc_retAddr, kc_long, kc_double, af_n, af_v, z0, z1, n_of, nz6, nz4, bI_T, bI_F, bI_01, n_lt, n_le, n_eq, n_add, n_mul, n_sub, n_clamp, n_vp, m_lt, m_le, m_eq, m_eq2, m_ltm, m_add, true_and, and_true, eq_self, if_pos, if_neg, List.length_nil, List.length_cons, Nat.reduceAdd, Nat.reduceLeDiff, Nat.zero_le, not_true_eq_false, not_false_eq_true, true_or, or_true]
theorem l_fewestSteps {c o : Nat} (hn : F 4 0 = nI n) (h60 : n ≤ 60) (hw : wfA A p q n) (ho : o < 60) : ∀ (k : Nat) (st : Nat → Nat), k ≤ 60 → (∀ x, x < 60 → st x + x ≤ 60) → (∀ x, n ≤ x → st x = 0) → am_g (d + 1) X am_m1007 18 [.ref 13, .ref 4, .int (nI c), .int (nI o), .int (pk k)] [] (am_Z cl sl F (va_up A 16 (pkr st g)) L) P = P (.inl (some (.int (pk (fw p q k st o))))) (am_Z cl sl F (va_up A 16 (pkr (fw p q k st) g)) L) := by
  intro k
  induction k with
  | zero =>
    intro st _ _ _
    rw [u1007_18]
    simp (disch := omega) only [pk_0, s_stepsOf, pkr_at, fw, u1007_0, u1007_1, u1007_4, u1007_5, u1007_8, u1007_9, u1007_10, u1007_11, u1007_14, u1007_16, u1007_20, u1007_23, u1007_24, u1007_26, u1007_29, u1007_30, u1007_33, u1007_34, u1007_35, u1007_37, u1007_40, u1007_41, u1007_43, u1007_46, u1007_47, u1007_48, u1007_51, u1007_52, u1007_53, u1007_55, u1007_58, u1007_59, u1007_61, u1007_64, u1007_65, u1007_66, u1007_69, u1007_72, u1007_75, u1007_76, u1007_77, u1007_80, gt_13_2, ob_13, ob_4, ki_m1, ki_0, ki_1, ki_59, af_x hd_1007, decide_eq_true_eq, if_true, if_false, f2_ne, f2_eq, up_ne, up_eq, kc_int, kc_ref, kc_retAddr, kc_long, kc_double, af_n, af_v, z0, z1, n_of, nz6, nz4, bI_T, bI_F, bI_01, n_lt, n_le, n_eq, n_add, n_mul, n_sub, n_clamp, n_vp, m_lt, m_le, m_eq, m_eq2, m_ltm, m_add, true_and, and_true, eq_self, if_pos, if_neg, List.length_nil, List.length_cons, Nat.reduceAdd, Nat.reduceLeDiff, Nat.zero_le, not_true_eq_false, not_false_eq_true, true_or, or_true]
  | succ k ih =>
    intro st hk hB hz
    rw [pk_s, u1007_18]
    have hk6 : k < 60 := by omega
    have hBk := hB k hk6
    unfold fw
    by_cases h0 : st k = 0
    · simp (disch := omega) only [s_stepsOf, pkr_at, h0, pk_0, pk_dn, u1007_0, u1007_1, u1007_4, u1007_5, u1007_8, u1007_9, u1007_10, u1007_11, u1007_14, u1007_16, u1007_20, u1007_23, u1007_24, u1007_26, u1007_29, u1007_30, u1007_33, u1007_34, u1007_35, u1007_37, u1007_40, u1007_41, u1007_43, u1007_46, u1007_47, u1007_48, u1007_51, u1007_52, u1007_53, u1007_55, u1007_58, u1007_59, u1007_61, u1007_64, u1007_65, u1007_66, u1007_69, u1007_72, u1007_75, u1007_76, u1007_77, u1007_80, gt_13_2, ob_13, ob_4, ki_m1, ki_0, ki_1, ki_59, af_x hd_1007, decide_eq_true_eq, if_true, if_false, f2_ne, f2_eq, up_ne, up_eq, kc_int, kc_ref, kc_retAddr, kc_long, kc_double, af_n, af_v, z0, z1, n_of, nz6, nz4, bI_T, bI_F, bI_01, n_lt, n_le, n_eq, n_add, n_mul, n_sub, n_clamp, n_vp, m_lt, m_le, m_eq, m_eq2, m_ltm, m_add, true_and, and_true, eq_self, if_pos, if_neg, List.length_nil, List.length_cons, Nat.reduceAdd, Nat.reduceLeDiff, Nat.zero_le, not_true_eq_false, not_false_eq_true, true_or, or_true]
      exact ih st (by omega) hB hz
    · have hkn : k < n := by
        apply Nat.lt_of_not_le
        intro h
        exact h0 (hz k h)
      obtain ⟨hp, hq⟩ := hw.1 k hkn
      obtain ⟨s, hs⟩ : ∃ s, st k = s + 1 := ⟨st k - 1, by omega⟩
      have e1 : ∀ f : Nat → Int32, p1 (va_up A 16 f) n k = pk (p k) := fun f => by rw [p1_up (by decide)]; unfold p1; rw [if_pos hkn]; exact hw.2.1 k hkn
      have e2 : ∀ f : Nat → Int32, p2 (va_up A 16 f) n k = pk (q k) := fun f => by rw [p2_up (by decide)]; unfold p2; rw [if_pos hkn]; exact hw.2.2 k hkn
      have hB1 : ∀ x, x < 60 → low st (p k) (s + 1 + 1) x + x ≤ 60 := low_B hB (fun _ => by omega)
      have hB2 : ∀ x, x < 60 → low (low st (p k) (s + 1 + 1)) (q k) (s + 1 + 1) x + x ≤ 60 := low_B hB1 (fun _ => by omega)
      have hl : low st (p k) (s + 1 + 1) k = s + 1 := by rw [low_ne hp, hs]
      have h0' : ¬ s + 1 = 0 := by omega
      simp (disch := omega) only [s_stepsOf, pkr_at, hs, h0', pk_s, s_parentOne hn h60, e1, s_lowerSteps (hB := hB), hl, s_parentTwo hn h60, e2, s_lowerSteps (hB := hB1), pk_dn, u1007_0, u1007_1, u1007_4, u1007_5, u1007_8, u1007_9, u1007_10, u1007_11, u1007_14, u1007_16, u1007_20, u1007_23, u1007_24, u1007_26, u1007_29, u1007_30, u1007_33, u1007_34, u1007_35, u1007_37, u1007_40, u1007_41, u1007_43, u1007_46, u1007_47, u1007_48, u1007_51, u1007_52, u1007_53, u1007_55, u1007_58, u1007_59, u1007_61, u1007_64, u1007_65, u1007_66, u1007_69, u1007_72, u1007_75, u1007_76, u1007_77, u1007_80, gt_13_2, ob_13, ob_4, ki_m1, ki_0, ki_1, ki_59, af_x hd_1007, decide_eq_true_eq, if_true, if_false, f2_ne, f2_eq, up_ne, up_eq, kc_int, kc_ref, kc_retAddr, kc_long, kc_double, af_n, af_v, z0, z1, n_of, nz6, nz4, bI_T, bI_F, bI_01, n_lt, n_le, n_eq, n_add, n_mul, n_sub, n_clamp, n_vp, m_lt, m_le, m_eq, m_eq2, m_ltm, m_add, true_and, and_true, eq_self, if_pos, if_neg, List.length_nil, List.length_cons, Nat.reduceAdd, Nat.reduceLeDiff, Nat.zero_le, not_true_eq_false, not_false_eq_true, true_or, or_true]
      refine ih _ (by omega) hB2 ?_
      intro x hx
      rw [low_ne (by omega), low_ne (by omega)]
      exact hz x hx
def st0 (c : Nat) : Nat → Nat := va_up (fun _ => 0) c 1
theorem s_fewestSteps {c o : Nat} (hn : F 4 0 = nI n) (h60 : n ≤ 60) (hw : wfA A p q n) (hc : c < n) (ho : o < 60) : am_Ca X (d + 2) 1007 [.ref 13, .ref 4, .int (nI c), .int (nI o)] (am_Z cl sl F A L) P = P (.inl (some (.int (pk (fw p q 60 (st0 c) o))))) (am_Z cl sl F (va_up A 16 (pkr (fw p q 60 (st0 c)) (A 16))) L) := by
  rw [c1007]
  have e : nI c = pk (c + 1) := (pk_s c).symm
  have e0 : low (fun _ => 0) (c + 1) (0 + 1) = st0 c := by
    unfold low st0
    rw [if_pos ⟨by omega, Or.inl rfl⟩]
    rfl
  have hl : ∀ {Q : am_Q}, am_Ca X (d + 1) 1009 [.ref 13, .int (nI c), .int (nI 0)] (am_Z cl sl F (va_up A 16 (pkr (fun _ => 0) (A 16))) L) Q = Q (.inl none) (am_Z cl sl F (va_up A 16 (pkr (st0 c) (A 16))) L) := by
    intro Q
    rw [e, s_lowerSteps (by omega) (by omega) (fun x hx => by
      show 0 + x ≤ 60
      omega), e0]
  simp (disch := omega) only [s_fill (a := 16) (n := 60) (by decide) rfl (by decide), pkr_0, hl, u1007_0, u1007_1, u1007_4, u1007_5, u1007_8, u1007_9, u1007_10, u1007_11, u1007_14, u1007_16, u1007_20, u1007_23, u1007_24, u1007_26, u1007_29, u1007_30, u1007_33, u1007_34, u1007_35, u1007_37, u1007_40, u1007_41, u1007_43, u1007_46, u1007_47, u1007_48, u1007_51, u1007_52, u1007_53, u1007_55, u1007_58, u1007_59, u1007_61, u1007_64, u1007_65, u1007_66, u1007_69, u1007_72, u1007_75, u1007_76, u1007_77, u1007_80, gt_13_2, ob_13, ob_4, ki_m1, ki_0, ki_1, ki_59, af_x hd_1007, decide_eq_true_eq, if_true, if_false, f2_ne, f2_eq, up_ne, up_eq, kc_int, kc_ref, kc_retAddr, kc_long, kc_double, af_n, af_v, z0, z1, n_of, nz6, nz4, bI_T, bI_F, bI_01, n_lt, n_le, n_eq, n_add, n_mul, n_sub, n_clamp, n_vp, m_lt, m_le, m_eq, m_eq2, m_ltm, m_add, true_and, and_true, eq_self, if_pos, if_neg, List.length_nil, List.length_cons, Nat.reduceAdd, Nat.reduceLeDiff, Nat.zero_le, not_true_eq_false, not_false_eq_true, true_or, or_true]
  refine l_fewestSteps hn h60 hw ho 60 _ (by omega) ?_ ?_
  · intro x hx
    unfold st0
    by_cases h : x = c
    · rw [h, up_eq]; omega
    · rw [up_ne h]; show 0 + x ≤ 60; omega
  · intro x hx
    unfold st0
    rw [up_ne (by omega)]
/-- the most steps down, of the commits below k -/
def dz (f : Nat → Nat) (z : Nat) : Nat := if z = 0 then 0 else f (z - 1) + 1
def dr (p q : Nat → Nat) : Nat → Nat → Nat
  | 0 => fun _ => 0
  | k + 1 => va_up (dr p q k) k (max (dz (dr p q k) (p k)) (dz (dr p q k) (q k)))
theorem dr_B : ∀ (k : Nat), wfP p q k → ∀ x, dr p q k x ≤ x := by
  intro k
  induction k with
  | zero => intro _ x; exact Nat.zero_le x
  | succ k ih =>
    intro hw x
    have h := ih (fun c hc => hw c (by omega))
    obtain ⟨hp, hq⟩ := hw k (by omega)
    by_cases hx : x = k
    · subst hx
      show va_up _ x _ x ≤ x
      rw [up_eq]
      have e : ∀ z, z ≤ x → dz (dr p q x) z ≤ x := by
        intro z hz
        unfold dz
        split
        · omega
        · have := h (z - 1); omega
      exact Nat.max_le.mpr ⟨e _ hp, e _ hq⟩
    · show va_up _ k _ x ≤ x
      rw [up_ne hx]
      exact h x
def drR (p q : Nat → Nat) (k : Nat) (g : Nat → Int32) : Nat → Int32 := fun x => if x < k then nI (dr p q k x) else g x
theorem s_stepsPk {k z : Nat} (hk : k < 60) (hz : z ≤ k) : am_Ca X (d + 1) 1008 [.ref 13, .int (pk z)] (am_Z cl sl F (va_up A 16 (drR p q k g)) L) P = P (.inl (some (.int (pk (dz (dr p q k) z))))) (am_Z cl sl F (va_up A 16 (drR p q k g)) L) := by
  cases z with
  | zero =>
    rw [pk_0, s_stepsOf_m]
    rfl
  | succ z =>
    rw [pk_s, s_stepsOf (by omega), up_eq]
    have e : drR p q k g z = pk (dz (dr p q k) (z + 1)) := by
      unfold drR dz
      rw [if_pos (by omega), if_neg (by omega), pk_s]
      rfl
    rw [e]
theorem l_mostSteps {c : Nat} {v4 : Value} (hn : F 4 0 = nI n) (h60 : n ≤ 60) (hw : wfA A p q n) (hc : c < n) : ∀ (j k : Nat) (v4 : Value), j + k = c + 1 → am_g (d + 1) X am_m1010 2 [.ref 13, .ref 4, .int (nI c), .int (nI k), v4] [] (am_Z cl sl F (va_up A 16 (drR p q k g)) L) P = P (.inl (some (.int (nI (dr p q (c + 1) c))))) (am_Z cl sl F (va_up A 16 (drR p q (c + 1) g)) L) := by
  intro j
  induction j with
  | zero =>
    intro k v4 hk
    obtain rfl : k = c + 1 := by omega
    have e : drR p q (c + 1) g c = nI (dr p q (c + 1) c) := if_pos (by omega)
    rw [u1010_2]
    simp (disch := omega) only [s_stepsOf, e, ite_self, u1010_0, u1010_1, u1010_3, u1010_5, u1010_8, u1010_9, u1010_10, u1010_13, u1010_14, u1010_15, u1010_16, u1010_19, u1010_22, u1010_23, u1010_24, u1010_25, u1010_28, u1010_31, u1010_34, u1010_36, u1010_37, u1010_40, u1010_41, u1010_43, u1010_44, u1010_45, u1010_46, u1010_49, u1010_52, u1010_53, u1010_54, u1010_57, ob_4, ob_13, gt_13_2, xs_16, ki_0, ki_1, ki_60, af_x hd_1010, decide_eq_true_eq, if_true, if_false, f2_ne, f2_eq, up_ne, up_eq, kc_int, kc_ref, kc_retAddr, kc_long, kc_double, af_n, af_v, z0, z1, n_of, nz6, nz4, bI_T, bI_F, bI_01, n_lt, n_le, n_eq, n_add, n_mul, n_sub, n_clamp, n_vp, m_lt, m_le, m_eq, m_eq2, m_ltm, m_add, true_and, and_true, eq_self, if_pos, if_neg, List.length_nil, List.length_cons, Nat.reduceAdd, Nat.reduceLeDiff, Nat.zero_le, not_true_eq_false, not_false_eq_true, true_or, or_true]
  | succ j ih =>
    intro k v4 hk
    rw [u1010_2]
    have hkn : k < n := by omega
    obtain ⟨hp, hq⟩ := hw.1 k hkn
    have hB := dr_B (p := p) (q := q) k (fun c hc => hw.1 c (by omega))
    have e1 : ∀ f : Nat → Int32, p1 (va_up A 16 f) n k = pk (p k) := fun f => by rw [p1_up (by decide)]; unfold p1; rw [if_pos hkn]; exact hw.2.1 k hkn
    have e2 : ∀ f : Nat → Int32, p2 (va_up A 16 f) n k = pk (q k) := fun f => by rw [p2_up (by decide)]; unfold p2; rw [if_pos hkn]; exact hw.2.2 k hkn
    have hz : ∀ z, z ≤ k → dz (dr p q k) z ≤ k := by
      intro z hz
      unfold dz
      split
      · omega
      · have := hB (z - 1); omega
    have hz1 := hz _ hp
    have hz2 := hz _ hq
    have e3 : va_up (drR p q k g) k (nI (max (dz (dr p q k) (p k)) (dz (dr p q k) (q k)))) = drR p q (k + 1) g := by
      funext x
      unfold va_up drR
      by_cases hx : x = k
      · subst hx
        rw [if_pos rfl, if_pos (by omega)]
        show _ = nI (va_up _ x _ x)
        rw [up_eq]
      · rw [if_neg hx]
        by_cases h : x < k
        · rw [if_pos h, if_pos (by omega)]
          show _ = nI (va_up _ k _ x)
          rw [up_ne hx]
        · rw [if_neg h, if_neg (by omega)]
    simp (disch := omega) only [s_parentOne hn h60, s_parentTwo hn h60, e1, e2, s_stepsPk, pk_max, pk_up, f2_up, e3, u1010_0, u1010_1, u1010_3, u1010_5, u1010_8, u1010_9, u1010_10, u1010_13, u1010_14, u1010_15, u1010_16, u1010_19, u1010_22, u1010_23, u1010_24, u1010_25, u1010_28, u1010_31, u1010_34, u1010_36, u1010_37, u1010_40, u1010_41, u1010_43, u1010_44, u1010_45, u1010_46, u1010_49, u1010_52, u1010_53, u1010_54, u1010_57, ob_4, ob_13, gt_13_2, xs_16, ki_0, ki_1, ki_60, af_x hd_1010, decide_eq_true_eq, if_true, if_false, f2_ne, f2_eq, up_ne, up_eq, kc_int, kc_ref, kc_retAddr, kc_long, kc_double, af_n, af_v, z0, z1, n_of, nz6, nz4, bI_T, bI_F, bI_01, n_lt, n_le, n_eq, n_add, n_mul, n_sub, n_clamp, n_vp, m_lt, m_le, m_eq, m_eq2, m_ltm, m_add, true_and, and_true, eq_self, if_pos, if_neg, List.length_nil, List.length_cons, Nat.reduceAdd, Nat.reduceLeDiff, Nat.zero_le, not_true_eq_false, not_false_eq_true, true_or, or_true]
    exact ih (k + 1) _ (by omega)
theorem s_mostSteps {c : Nat} (hn : F 4 0 = nI n) (h60 : n ≤ 60) (hw : wfA A p q n) (hc : c < n) : am_Ca X (d + 2) 1010 [.ref 13, .ref 4, .int (nI c)] (am_Z cl sl F A L) P = P (.inl (some (.int (nI (dr p q (c + 1) c))))) (am_Z cl sl F (va_up A 16 (drR p q (c + 1) (A 16))) L) := by
  rw [c1010]
  simp (disch := omega) only [u1010_0, u1010_1, u1010_3, u1010_5, u1010_8, u1010_9, u1010_10, u1010_13, u1010_14, u1010_15, u1010_16, u1010_19, u1010_22, u1010_23, u1010_24, u1010_25, u1010_28, u1010_31, u1010_34, u1010_36, u1010_37, u1010_40, u1010_41, u1010_43, u1010_44, u1010_45, u1010_46, u1010_49, u1010_52, u1010_53, u1010_54, u1010_57, ob_4, ob_13, gt_13_2, xs_16, ki_0, ki_1, ki_60, af_x hd_1010, decide_eq_true_eq, if_true, if_false, f2_ne, f2_eq, up_ne, up_eq, kc_int, kc_ref, kc_retAddr, kc_long, kc_double, af_n, af_v, z0, z1, n_of, nz6, nz4, bI_T, bI_F, bI_01, n_lt, n_le, n_eq, n_add, n_mul, n_sub, n_clamp, n_vp, m_lt, m_le, m_eq, m_eq2, m_ltm, m_add, true_and, and_true, eq_self, if_pos, if_neg, List.length_nil, List.length_cons, Nat.reduceAdd, Nat.reduceLeDiff, Nat.zero_le, not_true_eq_false, not_false_eq_true, true_or, or_true]
  have h := l_mostSteps (d := d) (X := X) (cl := cl) (sl := sl) (F := F) (L := L) (P := P) (g := A 16) (v4 := am_u) hn h60 hw hc (c + 1) 0 am_u (by omega)
  have e : drR p q 0 (A 16) = A 16 := by
    funext x
    unfold drR
    rw [if_neg (by omega)]
  rw [e, up_same] at h
  exact h
/-- what the branches below b reach -/
def Ub (p q br : Nat → Nat) (b : Nat) : Nat → Prop := fun x => ∃ y, y < b ∧ br y ≠ 0 ∧ Re p q (br y - 1) x
theorem s_markReached_m {a : Nat} (ha : a < 70) (h1 : SH a = (1, 60, [])) : am_Ca X (d + 2) 1017 [.ref 4, .int m1, .ref a] (am_Z cl sl F A L) P = P (.inl none) (am_Z cl sl F A L) := by
  rw [c1017]
  simp (disch := omega) only [s_addMark_m, al_g ha h1, u1017_0, u1017_1, u1017_2, u1017_3, u1017_6, u1017_7, u1017_8, u1017_9, u1017_10, u1017_11, u1017_14, u1017_15, u1017_16, u1017_19, u1017_20, u1017_21, u1017_22, u1017_25, u1017_26, u1017_27, u1017_28, u1017_31, u1017_32, u1017_35, u1017_36, u1017_37, u1017_38, u1017_41, u1017_42, u1017_45, u1017_48, u1017_51, ob_4, ki_m1, ki_1, af_x hd_1017, decide_eq_true_eq, if_true, if_false, f2_ne, f2_eq, up_ne, up_eq, kc_int, kc_ref, kc_retAddr, kc_long, kc_double, af_n, af_v, z0, z1, n_of, nz6, nz4, bI_T, bI_F, bI_01, n_lt, n_le, n_eq, n_add, n_mul, n_sub, n_clamp, n_vp, m_lt, m_le, m_eq, m_eq2, m_ltm, m_add, true_and, and_true, eq_self, if_pos, if_neg, List.length_nil, List.length_cons, Nat.reduceAdd, Nat.reduceLeDiff, Nat.zero_le, not_true_eq_false, not_false_eq_true, true_or, or_true]
theorem l_un1 {br : Nat → Nat} {v3 : Value} (hn : F 4 0 = nI n) (h60 : n ≤ 60) (hw : wfA A p q n) (hb : ∀ b, b < 6 → A 8 b = pk (br b) ∧ br b ≤ n) : ∀ (k b : Nat), k + b = 6 → am_g (d + 2) X am_m1006 10 [.ref 13, .ref 4, .int (nI b), v3] [] (am_Z cl sl F (va_up A 14 (ind (Ub p q br b) g)) L) P = am_g (d + 2) X am_m1006 35 [.ref 13, .ref 4, .int (nI 6), v3] [] (am_Z cl sl F (va_up A 14 (ind (Ub p q br 6) g)) L) P := by
  intro k
  induction k with
  | zero =>
    intro b hk
    obtain rfl : b = 6 := by omega
    rw [u1006_10]
    simp (disch := omega) only [u1006_0, u1006_1, u1006_4, u1006_5, u1006_8, u1006_9, u1006_11, u1006_13, u1006_16, u1006_17, u1006_18, u1006_19, u1006_22, u1006_23, u1006_26, u1006_29, u1006_32, u1006_36, u1006_37, u1006_38, u1006_39, u1006_40, u1006_41, u1006_44, u1006_47, u1006_48, u1006_51, u1006_52, u1006_55, u1006_58, u1006_61, u1006_64, u1006_67, u1006_68, gt_13_0, ob_4, gt_4_0, ki_0, ki_1, ki_6, af_x hd_1006, decide_eq_true_eq, if_true, if_false, f2_ne, f2_eq, up_ne, up_eq, kc_int, kc_ref, kc_retAddr, kc_long, kc_double, af_n, af_v, z0, z1, n_of, nz6, nz4, bI_T, bI_F, bI_01, n_lt, n_le, n_eq, n_add, n_mul, n_sub, n_clamp, n_vp, m_lt, m_le, m_eq, m_eq2, m_ltm, m_add, true_and, and_true, eq_self, if_pos, if_neg, List.length_nil, List.length_cons, Nat.reduceAdd, Nat.reduceLeDiff, Nat.zero_le, not_true_eq_false, not_false_eq_true, true_or, or_true]
  | succ k ih =>
    intro b hk
    rw [u1006_10]
    obtain ⟨h8, hbn⟩ := hb b (by omega)
    have hwU : wfA (va_up A 14 (ind (Ub p q br b) g)) p q n := wfA_up hw (by decide) (by decide)
    have hcl : ∀ y x, y < n → Ub p q br b y → par p q y x → Ub p q br b x := by
      rintro y x hy ⟨z, h1, h2, h3⟩ h4
      have := (hb z (by omega)).2
      exact ⟨z, h1, h2, Re_step hw.1 (by omega) h3 h4⟩
    by_cases h0 : br b = 0
    · rw [h0, pk_0] at h8
      simp (disch := omega) only [s_commitOf, h8, s_markReached_m (a := 14) (by decide) rfl, u1006_0, u1006_1, u1006_4, u1006_5, u1006_8, u1006_9, u1006_11, u1006_13, u1006_16, u1006_17, u1006_18, u1006_19, u1006_22, u1006_23, u1006_26, u1006_29, u1006_32, u1006_36, u1006_37, u1006_38, u1006_39, u1006_40, u1006_41, u1006_44, u1006_47, u1006_48, u1006_51, u1006_52, u1006_55, u1006_58, u1006_61, u1006_64, u1006_67, u1006_68, gt_13_0, ob_4, gt_4_0, ki_0, ki_1, ki_6, af_x hd_1006, decide_eq_true_eq, if_true, if_false, f2_ne, f2_eq, up_ne, up_eq, kc_int, kc_ref, kc_retAddr, kc_long, kc_double, af_n, af_v, z0, z1, n_of, nz6, nz4, bI_T, bI_F, bI_01, n_lt, n_le, n_eq, n_add, n_mul, n_sub, n_clamp, n_vp, m_lt, m_le, m_eq, m_eq2, m_ltm, m_add, true_and, and_true, eq_self, if_pos, if_neg, List.length_nil, List.length_cons, Nat.reduceAdd, Nat.reduceLeDiff, Nat.zero_le, not_true_eq_false, not_false_eq_true, true_or, or_true]
      rw [show ind (Ub p q br b) g = ind (Ub p q br (b + 1)) g from ind_cg fun x _ => by
        constructor
        · rintro ⟨y, h1, h2, h3⟩
          exact ⟨y, by omega, h2, h3⟩
        · rintro ⟨y, h1, h2, h3⟩
          by_cases hy : y = b
          · subst hy; exact absurd h0 h2
          · exact ⟨y, by omega, h2, h3⟩]
      exact ih (b + 1) (by omega)
    · obtain ⟨c, hc⟩ : ∃ c, br b = c + 1 := ⟨br b - 1, by omega⟩
      rw [hc, pk_s] at h8
      simp (disch := omega) only [s_commitOf, h8, s_markReached (a := 14) (by decide) rfl (by decide) (by decide) hn h60 hw hcl, u1006_0, u1006_1, u1006_4, u1006_5, u1006_8, u1006_9, u1006_11, u1006_13, u1006_16, u1006_17, u1006_18, u1006_19, u1006_22, u1006_23, u1006_26, u1006_29, u1006_32, u1006_36, u1006_37, u1006_38, u1006_39, u1006_40, u1006_41, u1006_44, u1006_47, u1006_48, u1006_51, u1006_52, u1006_55, u1006_58, u1006_61, u1006_64, u1006_67, u1006_68, gt_13_0, ob_4, gt_4_0, ki_0, ki_1, ki_6, af_x hd_1006, decide_eq_true_eq, if_true, if_false, f2_ne, f2_eq, up_ne, up_eq, kc_int, kc_ref, kc_retAddr, kc_long, kc_double, af_n, af_v, z0, z1, n_of, nz6, nz4, bI_T, bI_F, bI_01, n_lt, n_le, n_eq, n_add, n_mul, n_sub, n_clamp, n_vp, m_lt, m_le, m_eq, m_eq2, m_ltm, m_add, true_and, and_true, eq_self, if_pos, if_neg, List.length_nil, List.length_cons, Nat.reduceAdd, Nat.reduceLeDiff, Nat.zero_le, not_true_eq_false, not_false_eq_true, true_or, or_true]
      rw [show ind (fun x => Ub p q br b x ∨ Re p q c x) g = ind (Ub p q br (b + 1)) g from ind_cg fun x _ => by
        constructor
        · rintro (⟨y, h1, h2, h3⟩ | h)
          · exact ⟨y, by omega, h2, h3⟩
          · exact ⟨b, by omega, h0, by rw [hc]; exact h⟩
        · rintro ⟨y, h1, h2, h3⟩
          by_cases hy : y = b
          · subst hy; exact Or.inr (by rw [hc] at h3; exact h3)
          · exact Or.inl ⟨y, by omega, h2, h3⟩]
      exact ih (b + 1) (by omega)
theorem l_un2 {S : Nat → Prop} (hn : F 4 0 = nI n) (h60 : n ≤ 60) : ∀ (k i : Nat), i + k = n → am_g (d + 1) X am_m1006 39 [.ref 13, .ref 4, .int (nI (cnt (dP (fun x => ¬ S x)) i)), .int (nI i)] [] (am_Z cl sl F (va_up A 14 (ind S g)) L) P = P (.inl (some (.int (nI (cnt (dP (fun x => ¬ S x)) n))))) (am_Z cl sl F (va_up A 14 (ind S g)) L) := by
  intro k
  induction k with
  | zero =>
    intro i hi
    obtain rfl : i = n := by omega
    rw [u1006_39]
    simp (disch := omega) only [hn, s_isMarked (a := 14) (by decide) rfl, u1006_0, u1006_1, u1006_4, u1006_5, u1006_8, u1006_9, u1006_10, u1006_11, u1006_13, u1006_16, u1006_17, u1006_18, u1006_19, u1006_22, u1006_23, u1006_26, u1006_29, u1006_32, u1006_35, u1006_36, u1006_37, u1006_38, u1006_40, u1006_41, u1006_44, u1006_47, u1006_48, u1006_51, u1006_52, u1006_55, u1006_58, u1006_61, u1006_64, u1006_67, u1006_68, gt_13_0, ob_4, gt_4_0, ki_0, ki_1, ki_6, af_x hd_1006, decide_eq_true_eq, if_true, if_false, f2_ne, f2_eq, up_ne, up_eq, kc_int, kc_ref, kc_retAddr, kc_long, kc_double, af_n, af_v, z0, z1, n_of, nz6, nz4, bI_T, bI_F, bI_01, n_lt, n_le, n_eq, n_add, n_mul, n_sub, n_clamp, n_vp, m_lt, m_le, m_eq, m_eq2, m_ltm, m_add, true_and, and_true, eq_self, if_pos, if_neg, List.length_nil, List.length_cons, Nat.reduceAdd, Nat.reduceLeDiff, Nat.zero_le, not_true_eq_false, not_false_eq_true, true_or, or_true]
  | succ k ih =>
    intro i hi
    rw [u1006_39]
    by_cases hv : S i
    · simp (disch := omega) only [hn, s_isMarked (a := 14) (by decide) rfl, hv, bI_t hv, u1006_0, u1006_1, u1006_4, u1006_5, u1006_8, u1006_9, u1006_10, u1006_11, u1006_13, u1006_16, u1006_17, u1006_18, u1006_19, u1006_22, u1006_23, u1006_26, u1006_29, u1006_32, u1006_35, u1006_36, u1006_37, u1006_38, u1006_40, u1006_41, u1006_44, u1006_47, u1006_48, u1006_51, u1006_52, u1006_55, u1006_58, u1006_61, u1006_64, u1006_67, u1006_68, gt_13_0, ob_4, gt_4_0, ki_0, ki_1, ki_6, af_x hd_1006, decide_eq_true_eq, if_true, if_false, f2_ne, f2_eq, up_ne, up_eq, kc_int, kc_ref, kc_retAddr, kc_long, kc_double, af_n, af_v, z0, z1, n_of, nz6, nz4, bI_T, bI_F, bI_01, n_lt, n_le, n_eq, n_add, n_mul, n_sub, n_clamp, n_vp, m_lt, m_le, m_eq, m_eq2, m_ltm, m_add, true_and, and_true, eq_self, if_pos, if_neg, List.length_nil, List.length_cons, Nat.reduceAdd, Nat.reduceLeDiff, Nat.zero_le, not_true_eq_false, not_false_eq_true, true_or, or_true]
      have e : cnt (dP (fun x => ¬ S x)) (i + 1) = cnt (dP (fun x => ¬ S x)) i := cnt_f (by first | exact dP_t hv | exact dP_f (fun z => z hv))
      have h2 := ih (i + 1) (by omega)
      rw [e] at h2
      exact h2
    · simp (disch := omega) only [hn, s_isMarked (a := 14) (by decide) rfl, hv, bI_f hv, u1006_0, u1006_1, u1006_4, u1006_5, u1006_8, u1006_9, u1006_10, u1006_11, u1006_13, u1006_16, u1006_17, u1006_18, u1006_19, u1006_22, u1006_23, u1006_26, u1006_29, u1006_32, u1006_35, u1006_36, u1006_37, u1006_38, u1006_40, u1006_41, u1006_44, u1006_47, u1006_48, u1006_51, u1006_52, u1006_55, u1006_58, u1006_61, u1006_64, u1006_67, u1006_68, gt_13_0, ob_4, gt_4_0, ki_0, ki_1, ki_6, af_x hd_1006, decide_eq_true_eq, if_true, if_false, f2_ne, f2_eq, up_ne, up_eq, kc_int, kc_ref, kc_retAddr, kc_long, kc_double, af_n, af_v, z0, z1, n_of, nz6, nz4, bI_T, bI_F, bI_01, n_lt, n_le, n_eq, n_add, n_mul, n_sub, n_clamp, n_vp, m_lt, m_le, m_eq, m_eq2, m_ltm, m_add, true_and, and_true, eq_self, if_pos, if_neg, List.length_nil, List.length_cons, Nat.reduceAdd, Nat.reduceLeDiff, Nat.zero_le, not_true_eq_false, not_false_eq_true, true_or, or_true]
      have e : cnt (dP (fun x => ¬ S x)) (i + 1) = cnt (dP (fun x => ¬ S x)) i + 1 := cnt_t (by first | exact dP_t hv | exact dP_f (fun z => z hv))
      have h2 := ih (i + 1) (by omega)
      rw [e] at h2
      exact h2

theorem s_countUnreached {br : Nat → Nat} (hn : F 4 0 = nI n) (h60 : n ≤ 60) (hw : wfA A p q n) (hb : ∀ b, b < 6 → A 8 b = pk (br b) ∧ br b ≤ n) : am_Ca X (d + 3) 1006 [.ref 13, .ref 4] (am_Z cl sl F A L) P = P (.inl (some (.int (nI (cnt (dP (fun x => ¬ Ub p q br 6 x)) n))))) (am_Z cl sl F (rcA A (Ub p q br 6)) L) := by
  rw [c1006]
  have e : ind (fun _ => False) (A 14) = ind (Ub p q br 0) (A 14) := ind_cg fun x _ => ⟨fun h => h.elim, fun ⟨y, h, _⟩ => absurd h (Nat.not_lt_zero y)⟩
  simp (disch := omega) only [s_fresh 14 (by decide) rfl, e, u1006_0, u1006_1, u1006_4, u1006_5, u1006_8, u1006_9, u1006_11, u1006_13, u1006_16, u1006_17, u1006_18, u1006_19, u1006_22, u1006_23, u1006_26, u1006_29, u1006_32, u1006_36, u1006_37, u1006_38, u1006_39, u1006_40, u1006_41, u1006_44, u1006_47, u1006_48, u1006_51, u1006_52, u1006_55, u1006_58, u1006_61, u1006_64, u1006_67, u1006_68, gt_13_0, ob_4, gt_4_0, ki_0, ki_1, ki_6, af_x hd_1006, decide_eq_true_eq, if_true, if_false, f2_ne, f2_eq, up_ne, up_eq, kc_int, kc_ref, kc_retAddr, kc_long, kc_double, af_n, af_v, z0, z1, n_of, nz6, nz4, bI_T, bI_F, bI_01, n_lt, n_le, n_eq, n_add, n_mul, n_sub, n_clamp, n_vp, m_lt, m_le, m_eq, m_eq2, m_ltm, m_add, true_and, and_true, eq_self, if_pos, if_neg, List.length_nil, List.length_cons, Nat.reduceAdd, Nat.reduceLeDiff, Nat.zero_le, not_true_eq_false, not_false_eq_true, true_or, or_true]
  rw [l_un1 hn h60 hw hb 6 0 rfl]
  simp (disch := omega) only [u1006_0, u1006_1, u1006_4, u1006_5, u1006_8, u1006_9, u1006_11, u1006_13, u1006_16, u1006_17, u1006_18, u1006_19, u1006_22, u1006_23, u1006_26, u1006_29, u1006_32, u1006_35, u1006_36, u1006_37, u1006_38, u1006_40, u1006_41, u1006_44, u1006_47, u1006_48, u1006_51, u1006_52, u1006_55, u1006_58, u1006_61, u1006_64, u1006_67, u1006_68, gt_13_0, ob_4, gt_4_0, ki_0, ki_1, ki_6, af_x hd_1006, decide_eq_true_eq, if_true, if_false, f2_ne, f2_eq, up_ne, up_eq, kc_int, kc_ref, kc_retAddr, kc_long, kc_double, af_n, af_v, z0, z1, n_of, nz6, nz4, bI_T, bI_F, bI_01, n_lt, n_le, n_eq, n_add, n_mul, n_sub, n_clamp, n_vp, m_lt, m_le, m_eq, m_eq2, m_ltm, m_add, true_and, and_true, eq_self, if_pos, if_neg, List.length_nil, List.length_cons, Nat.reduceAdd, Nat.reduceLeDiff, Nat.zero_le, not_true_eq_false, not_false_eq_true, true_or, or_true]
  exact l_un2 hn h60 n 0 (by omega)
/-- from z - 1 down the first parents, as long as S does not hold -/
def ow (p : Nat → Nat) (S : Nat → Prop) : Nat → Nat → Nat → Prop
  | 0, _, _ => False
  | f + 1, z, x => z ≠ 0 ∧ ¬ S (z - 1) ∧ (x = z - 1 ∨ ow p S f (p (z - 1)) x)
theorem l_markReplayed {S : Nat → Prop} {c : Nat} {g2 : Nat → Int32} (hn : F 4 0 = nI n) (h60 : n ≤ 60) (hw : wfA A p q n) : ∀ (f z t : Nat) (R : Nat → Prop), f + t = 60 → z ≤ n → am_g (d + 1) X am_m1014 31 [.ref 13, .ref 4, .int (nI c), .ref 22, .int (pk z), .int (nI t)] [] (am_Z cl sl F (va_up (va_up A 14 (ind S g)) 22 (ind R g2)) L) P = P (.inl none) (am_Z cl sl F (va_up (va_up A 14 (ind S g)) 22 (ind (fun x => R x ∨ ow p S f z x) g2)) L) := by
  have e14 : ∀ R : Nat → Prop, va_up (va_up A 14 (ind S g)) 22 (ind R g2) = va_up (va_up A 22 (ind R g2)) 14 (ind S g) := by
    intro R
    funext j
    unfold va_up
    by_cases h : j = 22
    · subst h; simp
    · simp [h]
  intro f
  induction f with
  | zero =>
    intro z t R ht hz
    obtain rfl : t = 60 := by omega
    rw [show ind (fun x => R x ∨ ow p S 0 z x) g2 = ind R g2 from ind_cg fun x _ => or_iff_left (fun h => h)]
    rw [u1014_31]
    simp (disch := omega) only [u1014_0, u1014_1, u1014_4, u1014_5, u1014_8, u1014_9, u1014_10, u1014_11, u1014_14, u1014_17, u1014_18, u1014_19, u1014_22, u1014_23, u1014_26, u1014_28, u1014_29, u1014_33, u1014_35, u1014_38, u1014_40, u1014_41, u1014_44, u1014_45, u1014_48, u1014_50, u1014_53, u1014_56, u1014_57, u1014_59, u1014_60, u1014_63, u1014_64, u1014_66, u1014_69, u1014_71, u1014_74, u1014_77, gt_13_0, ob_4, ki_m1, ki_0, ki_1, ki_60, af_x hd_1014, decide_eq_true_eq, if_true, if_false, f2_ne, f2_eq, up_ne, up_eq, kc_int, kc_ref, kc_retAddr, kc_long, kc_double, af_n, af_v, z0, z1, n_of, nz6, nz4, bI_T, bI_F, bI_01, n_lt, n_le, n_eq, n_add, n_mul, n_sub, n_clamp, n_vp, m_lt, m_le, m_eq, m_eq2, m_ltm, m_add, true_and, and_true, eq_self, if_pos, if_neg, List.length_nil, List.length_cons, Nat.reduceAdd, Nat.reduceLeDiff, Nat.zero_le, not_true_eq_false, not_false_eq_true, true_or, or_true]
  | succ f ih =>
    intro z t R ht hz
    rw [u1014_31]
    cases z with
    | zero =>
      rw [show ind (fun x => R x ∨ ow p S (f + 1) 0 x) g2 = ind R g2 from ind_cg fun x _ => or_iff_left (fun h => h.1 rfl)]
      simp (disch := omega) only [pk_0, u1014_0, u1014_1, u1014_4, u1014_5, u1014_8, u1014_9, u1014_10, u1014_11, u1014_14, u1014_17, u1014_18, u1014_19, u1014_22, u1014_23, u1014_26, u1014_28, u1014_29, u1014_33, u1014_35, u1014_38, u1014_40, u1014_41, u1014_44, u1014_45, u1014_48, u1014_50, u1014_53, u1014_56, u1014_57, u1014_59, u1014_60, u1014_63, u1014_64, u1014_66, u1014_69, u1014_71, u1014_74, u1014_77, gt_13_0, ob_4, ki_m1, ki_0, ki_1, ki_60, af_x hd_1014, decide_eq_true_eq, if_true, if_false, f2_ne, f2_eq, up_ne, up_eq, kc_int, kc_ref, kc_retAddr, kc_long, kc_double, af_n, af_v, z0, z1, n_of, nz6, nz4, bI_T, bI_F, bI_01, n_lt, n_le, n_eq, n_add, n_mul, n_sub, n_clamp, n_vp, m_lt, m_le, m_eq, m_eq2, m_ltm, m_add, true_and, and_true, eq_self, if_pos, if_neg, List.length_nil, List.length_cons, Nat.reduceAdd, Nat.reduceLeDiff, Nat.zero_le, not_true_eq_false, not_false_eq_true, true_or, or_true]
    | succ z =>
      rw [pk_s]
      have m3 : ∀ {Q : am_Q}, am_Ca X (d + 1) 1015 [.ref 14, .int (nI z)] (am_Z cl sl F (va_up (va_up A 14 (ind S g)) 22 (ind R g2)) L) Q = Q (.inl (some (.int (bI (S z))))) (am_Z cl sl F (va_up (va_up A 14 (ind S g)) 22 (ind R g2)) L) := by
        intro Q
        rw [e14]
        exact s_isMarked (by decide) rfl (by omega)
      by_cases hS : S z
      · rw [show ind (fun x => R x ∨ ow p S (f + 1) (z + 1) x) g2 = ind R g2 from ind_cg fun x _ => or_iff_left (fun h => h.2.1 hS)]
        simp (disch := omega) only [m3, bI_t hS, u1014_0, u1014_1, u1014_4, u1014_5, u1014_8, u1014_9, u1014_10, u1014_11, u1014_14, u1014_17, u1014_18, u1014_19, u1014_22, u1014_23, u1014_26, u1014_28, u1014_29, u1014_33, u1014_35, u1014_38, u1014_40, u1014_41, u1014_44, u1014_45, u1014_48, u1014_50, u1014_53, u1014_56, u1014_57, u1014_59, u1014_60, u1014_63, u1014_64, u1014_66, u1014_69, u1014_71, u1014_74, u1014_77, gt_13_0, ob_4, ki_m1, ki_0, ki_1, ki_60, af_x hd_1014, decide_eq_true_eq, if_true, if_false, f2_ne, f2_eq, up_ne, up_eq, kc_int, kc_ref, kc_retAddr, kc_long, kc_double, af_n, af_v, z0, z1, n_of, nz6, nz4, bI_T, bI_F, bI_01, n_lt, n_le, n_eq, n_add, n_mul, n_sub, n_clamp, n_vp, m_lt, m_le, m_eq, m_eq2, m_ltm, m_add, true_and, and_true, eq_self, if_pos, if_neg, List.length_nil, List.length_cons, Nat.reduceAdd, Nat.reduceLeDiff, Nat.zero_le, not_true_eq_false, not_false_eq_true, true_or, or_true]
      · have ea : ∀ {Q : am_Q}, am_Ca X (d + 1) 1016 [.ref 22, .int (nI z), .int (nI 1)] (am_Z cl sl F (va_up (va_up A 14 (ind S g)) 22 (ind R g2)) L) Q = Q (.inl none) (am_Z cl sl F (va_up (va_up A 14 (ind S g)) 22 (ind (fun x => R x ∨ x = z) g2)) L) := by
          intro Q
          rw [s_addMark (by decide) rfl (by omega), f2_up, up_eq, ind_up (by omega)]
        have hzn : z < n := by omega
        have e1 : ∀ f2 f3 : Nat → Int32, p1 (va_up (va_up A 14 f2) 22 f3) n z = pk (p z) := fun f2 f3 => by rw [p1_up (by decide), p1_up (by decide)]; unfold p1; rw [if_pos hzn]; exact hw.2.1 z hzn
        simp (disch := omega) only [m3, bI_f hS, ea, s_parentOne hn h60, e1, u1014_0, u1014_1, u1014_4, u1014_5, u1014_8, u1014_9, u1014_10, u1014_11, u1014_14, u1014_17, u1014_18, u1014_19, u1014_22, u1014_23, u1014_26, u1014_28, u1014_29, u1014_33, u1014_35, u1014_38, u1014_40, u1014_41, u1014_44, u1014_45, u1014_48, u1014_50, u1014_53, u1014_56, u1014_57, u1014_59, u1014_60, u1014_63, u1014_64, u1014_66, u1014_69, u1014_71, u1014_74, u1014_77, gt_13_0, ob_4, ki_m1, ki_0, ki_1, ki_60, af_x hd_1014, decide_eq_true_eq, if_true, if_false, f2_ne, f2_eq, up_ne, up_eq, kc_int, kc_ref, kc_retAddr, kc_long, kc_double, af_n, af_v, z0, z1, n_of, nz6, nz4, bI_T, bI_F, bI_01, n_lt, n_le, n_eq, n_add, n_mul, n_sub, n_clamp, n_vp, m_lt, m_le, m_eq, m_eq2, m_ltm, m_add, true_and, and_true, eq_self, if_pos, if_neg, List.length_nil, List.length_cons, Nat.reduceAdd, Nat.reduceLeDiff, Nat.zero_le, not_true_eq_false, not_false_eq_true, true_or, or_true]
        have hpz := (hw.1 z hzn).1
        rw [ih (p z) (t + 1) _ (by omega) (by omega)]
        rw [show ind (fun x => (R x ∨ x = z) ∨ ow p S f (p z) x) g2 = ind (fun x => R x ∨ ow p S (f + 1) (z + 1) x) g2 from ind_cg fun x _ => by
          constructor
          · rintro ((h | h) | h)
            · exact Or.inl h
            · exact Or.inr ⟨by omega, hS, Or.inl h⟩
            · exact Or.inr ⟨by omega, hS, Or.inr h⟩
          · rintro (h | ⟨_, _, h | h⟩)
            · exact Or.inl (Or.inl h)
            · exact Or.inl (Or.inr h)
            · exact Or.inr h]
noncomputable def rpA (A : Nat → Nat → Int32) (S R : Nat → Prop) : Nat → Nat → Int32 := va_up (rcA A S) 22 (ind R (A 22))
theorem s_markReplayed {b c h : Nat} (hn : F 4 0 = nI n) (h60 : n ≤ 60) (hw : wfA A p q n) (hc : c < n) (hF : F 4 5 = nI b) (hb : b < 6) (hh : A 8 b = nI h) (hhn : h < n) : am_Ca X (d + 3) 1014 [.ref 13, .ref 4, .int (nI c), .ref 22] (am_Z cl sl F A L) P = P (.inl none) (am_Z cl sl F (rpA A (Re p q c) (ow p (Re p q c) 60 (h + 1))) L) := by
  rw [c1014]
  simp (disch := omega) only [s_fresh 14 (by decide) rfl, s_reach 14 (by decide) rfl (by decide) (by decide) hn h60 hw hc, s_fresh 22 (by decide) rfl, s_headCommit hF hb, hh, u1014_0, u1014_1, u1014_4, u1014_5, u1014_8, u1014_9, u1014_10, u1014_11, u1014_14, u1014_17, u1014_18, u1014_19, u1014_22, u1014_23, u1014_26, u1014_28, u1014_29, u1014_33, u1014_35, u1014_38, u1014_40, u1014_41, u1014_44, u1014_45, u1014_48, u1014_50, u1014_53, u1014_56, u1014_57, u1014_59, u1014_60, u1014_63, u1014_64, u1014_66, u1014_69, u1014_71, u1014_74, u1014_77, gt_13_0, ob_4, ki_m1, ki_0, ki_1, ki_60, af_x hd_1014, decide_eq_true_eq, if_true, if_false, f2_ne, f2_eq, up_ne, up_eq, kc_int, kc_ref, kc_retAddr, kc_long, kc_double, af_n, af_v, z0, z1, n_of, nz6, nz4, bI_T, bI_F, bI_01, n_lt, n_le, n_eq, n_add, n_mul, n_sub, n_clamp, n_vp, m_lt, m_le, m_eq, m_eq2, m_ltm, m_add, true_and, and_true, eq_self, if_pos, if_neg, List.length_nil, List.length_cons, Nat.reduceAdd, Nat.reduceLeDiff, Nat.zero_le, not_true_eq_false, not_false_eq_true, true_or, or_true]
  have h2 := l_markReplayed (d := d + 1) (X := X) (cl := cl) (sl := sl) (F := F) (L := L) (P := P) (c := c) (S := Re p q c) (g := A 14) (g2 := A 22) hn h60 hw 60 (h + 1) 0 (fun _ => False) rfl (by omega)
  rw [pk_s] at h2
  rw [h2]
  unfold rpA rcA
  rw [show (fun x => False ∨ ow p (Re p q c) 60 (h + 1) x) = ow p (Re p q c) 60 (h + 1) from funext fun x => propext (or_iff_right (fun h => h))]
end H3
