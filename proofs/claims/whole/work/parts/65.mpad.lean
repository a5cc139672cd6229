/-! THE MODEL'S PAD: an order is taken from the text -/
def hr (len : Nat) (pd : Nat → Nat) (s : Nat) : Nat := if s < len then pd s else 0
def tk (c : Bool) (x : Bool × Nat) : Bool × Nat := (x.1 && c, if (x.1 && c) = true then x.2 + 1 else x.2)
def tkc (len : Nat) (pd : Nat → Nat) (ch : Nat) (x : Bool × Nat) : Bool × Nat := tk (decide (hr len pd x.2 = ch)) x
def td (len : Nat) (pd : Nat → Nat) (most : Nat) (x : Bool × Nat) : Bool × Nat := tk (decide (48 ≤ hr len pd x.2 ∧ hr len pd x.2 ≤ 48 + most)) x
def is2' (len : Nat) (pd : Nat → Nat) (most s : Nat) : Bool := decide (48 < hr len pd s ∧ (48 ≤ hr len pd (s + 1) ∧ hr len pd (s + 1) ≤ 57) ∧ 10 * (hr len pd s - 48) + (hr len pd (s + 1) - 48) ≤ most)
def tn (len : Nat) (pd : Nat → Nat) (most : Nat) (x : Bool × Nat) : Bool × Nat := ((td len pd 9 x).1, if (td len pd 9 x).1 = true ∧ is2' len pd most x.2 = true then (td len pd 9 x).2 + 1 else (td len pd 9 x).2)
def nm (len : Nat) (pd : Nat → Nat) (most s : Nat) : Nat := if is2' len pd most s = true then 10 * (hr len pd s - 48) + (hr len pd (s + 1) - 48) else hr len pd s - 48
def tO (len : Nat) (pd : Nat → Nat) (s : Nat) : Bool × Nat := if 48 ≤ hr len pd s ∧ hr len pd s ≤ 51 then tkc len pd 59 (tn len pd 99 (tkc len pd 61 (td len pd 5 (tkc len pd 46 (true, s + 1))))) else if hr len pd s = 115 ∨ hr len pd s = 109 then tkc len pd 59 (td len pd 5 (true, s + 1)) else if hr len pd s = 112 ∨ hr len pd s = 114 then tkc len pd 59 (tn len pd 59 (true, s + 1)) else if hr len pd s = 99 ∨ hr len pd s = 98 ∨ hr len pd s = 97 then tkc len pd 59 (true, s + 1) else (false, s)
/-- the pad's machine stands so -/
def pmF (F : Nat → Nat → Int32) (len : Nat) (x : Bool × Nat) : Prop := F 70 7 = nI len ∧ F 70 10 = nI x.2 ∧ F 70 11 = bI (x.1 = true)
def padR (A : Nat → Nat → Int32) (len : Nat) (pd : Nat → Nat) : Prop := len ≤ 60 ∧ ∀ i, i < len → A 75 i = nI (pd i) ∧ pd i ≤ 126
def Fp2 (F F2 : Nat → Nat → Int32) : Prop := (∀ o, o ≠ 70 → F2 o = F o) ∧ ∀ k, k ≠ 10 → k ≠ 11 → F2 70 k = F 70 k
def Fp (F F2 : Nat → Nat → Int32) : Prop := (∀ o, o ≠ 70 → F2 o = F o) ∧ ∀ k, (k < 10 ∨ 15 < k) → F2 70 k = F 70 k
theorem Fp_id {F : Nat → Nat → Int32} : Fp F F := ⟨fun _ _ => rfl, fun _ _ => rfl⟩
theorem Fp_tr {F F2 F3 : Nat → Nat → Int32} (h : Fp F F2) (g : Fp F2 F3) : Fp F F3 := ⟨fun o ho => (g.1 o ho).trans (h.1 o ho), fun k hk => (g.2 k hk).trans (h.2 k hk)⟩
theorem Fp2_tr {F F2 F3 : Nat → Nat → Int32} (h : Fp2 F F2) (g : Fp2 F2 F3) : Fp2 F F3 := ⟨fun o ho => (g.1 o ho).trans (h.1 o ho), fun k hk hk2 => (g.2 k hk hk2).trans (h.2 k hk hk2)⟩
theorem Fp_2 {F F2 : Nat → Nat → Int32} (h : Fp2 F F2) : Fp F F2 := ⟨h.1, fun k hk => h.2 k (by omega) (by omega)⟩
theorem Fp_f {F : Nat → Nat → Int32} {k : Nat} {v : Int32} (h : 10 ≤ k) (h2 : k ≤ 15) : Fp F (am_f2 F 70 k v) := ⟨fun o ho => f2_ne ho, fun j hj => by rw [f2_eq, up_ne (by omega)]⟩
theorem pm_f2 {F : Nat → Nat → Int32} {len : Nat} {x : Bool × Nat} {k : Nat} {v : Int32} (h : pmF F len x) (h7 : 7 ≠ k) (h10 : 10 ≠ k) (h11 : 11 ≠ k) : pmF (am_f2 F 70 k v) len x := ⟨by rw [f2_eq, up_ne h7]; exact h.1, by rw [f2_eq, up_ne h10]; exact h.2.1, by rw [f2_eq, up_ne h11]; exact h.2.2⟩
theorem hr_le {A : Nat → Nat → Int32} {len : Nat} {pd : Nat → Nat} (p : padR A len pd) (s : Nat) : hr len pd s ≤ 126 := by
  unfold hr
  split
  · exact (p.2 s (by assumption)).2
  · omega
theorem dg_in {h m : Nat} (hh : h ≤ 126) (hm : m ≤ 9) : bI (nI 0 ≤ nI h - nI 48 ∧ nI h - nI 48 ≤ nI m) = bI (decide (48 ≤ h ∧ h ≤ 48 + m) = true) := by
  by_cases e : 48 ≤ h
  · rw [n_sub e, n_le (by omega) (by omega), n_le (by omega) (by omega)]
    congr 1
    apply propext
    simp
    omega
  · rw [bI_f (S := decide (48 ≤ h ∧ h ≤ 48 + m) = true) (by simp; omega), bI_f]
    rintro ⟨g, -⟩
    revert g
    have : ∀ h, h < 48 → ¬ nI 0 ≤ nI h - nI 48 := by decide
    exact this h (by omega)
section MP
variable {d cl sl len : Nat} {X : am_X} {F A : Nat → Nat → Int32} {L : Nat → Nat → Int64} {P : am_Q} {pd : Nat → Nat} {x : Bool × Nat}
theorem m_here (p : padR A len pd) (h : pmF F len x) (hs : x.2 < 1000) : am_Ca X (d + 1) 7072 [.ref 70] (am_Z cl sl F A L) P = P (.inl (some (.int (nI (hr len pd x.2))))) (am_Z cl sl F A L) := by
  have hl := p.1
  rw [c7072]
  unfold hr
  by_cases e : x.2 < len
  · rw [if_pos e]
    simp (disch := omega) only [h.1, h.2.1, e, (p.2 x.2 e).1, u7072_0, u7072_1, u7072_4, u7072_5, u7072_8, u7072_11, u7072_12, u7072_15, u7072_16, u7072_19, u7072_20, u7072_23, u7072_24, gt_70_10, gt_70_7, gt_70_6, xl_75, ki_0, af_x hd_7072, decide_eq_true_eq, if_true, if_false, f2_ne, f2_eq, up_ne, up_eq, kc_int, kc_ref, kc_retAddr, kc_long, kc_double, af_n, af_v, z0, z1, n_of, nz6, nz4, bI_T, bI_F, bI_01, n_lt, n_le, n_eq, n_add, n_mul, n_sub, n_clamp, n_vp, m_lt, m_le, m_eq, m_eq2, m_ltm, m_add, true_and, and_true, eq_self, if_pos, if_neg, List.length_nil, List.length_cons, Nat.reduceAdd, Nat.reduceLeDiff, Nat.zero_le, not_true_eq_false, not_false_eq_true, true_or, or_true]
  · rw [if_neg e]
    simp (disch := omega) only [h.1, h.2.1, e, u7072_0, u7072_1, u7072_4, u7072_5, u7072_8, u7072_11, u7072_12, u7072_15, u7072_16, u7072_19, u7072_20, u7072_23, u7072_24, gt_70_10, gt_70_7, gt_70_6, xl_75, ki_0, af_x hd_7072, decide_eq_true_eq, if_true, if_false, f2_ne, f2_eq, up_ne, up_eq, kc_int, kc_ref, kc_retAddr, kc_long, kc_double, af_n, af_v, z0, z1, n_of, nz6, nz4, bI_T, bI_F, bI_01, n_lt, n_le, n_eq, n_add, n_mul, n_sub, n_clamp, n_vp, m_lt, m_le, m_eq, m_eq2, m_ltm, m_add, true_and, and_true, eq_self, if_pos, if_neg, List.length_nil, List.length_cons, Nat.reduceAdd, Nat.reduceLeDiff, Nat.zero_le, not_true_eq_false, not_false_eq_true, true_or, or_true]
theorem m_takes {c : Bool} (h : pmF F len x) : ∃ F2, (∀ P, am_Ca X (d + 1) 7073 [.ref 70, .int (bI (c = true))] (am_Z cl sl F A L) P = P (.inl none) (am_Z cl sl F2 A L)) ∧ pmF F2 len (tk c x) ∧ Fp2 F F2 := by
  obtain ⟨b, s⟩ := x
  obtain ⟨h1, h2, h3⟩ := h
  have h2' : F 70 10 = nI s := h2
  have h3' : F 70 11 = bI (b = true) := h3
  refine ⟨am_f2 (am_f2 F 70 11 (bI ((b && c) = true))) 70 10 (nI (if (b && c) = true then s + 1 else s)), fun P => ?_, ⟨?_, ?_, ?_⟩, fun o ho => ?_, fun k hk1 hk2 => ?_⟩
  · rw [c7073]
    cases b with
    | true =>
      rw [bI_t rfl] at h3'
      cases c with
      | true => simp (disch := omega) only [h2', h3', Bool.and_true, bI_T, if_true, u7073_0, u7073_1, u7073_2, u7073_5, u7073_8, u7073_9, u7073_12, u7073_13, u7073_16, u7073_17, u7073_20, u7073_21i, u7073_21r, u7073_22, u7073_25, u7073_26, u7073_29, u7073_32, u7073_33, u7073_36, u7073_37, u7073_38, u7073_41, gt_70_11, pt_70_11, gt_70_10, pt_70_10, ki_0, ki_1, af_x hd_7073, decide_eq_true_eq, if_true, if_false, f2_ne, f2_eq, up_ne, up_eq, kc_int, kc_ref, kc_retAddr, kc_long, kc_double, af_n, af_v, z0, z1, n_of, nz6, nz4, bI_T, bI_F, bI_01, n_lt, n_le, n_eq, n_add, n_mul, n_sub, n_clamp, n_vp, m_lt, m_le, m_eq, m_eq2, m_ltm, m_add, true_and, and_true, eq_self, if_pos, if_neg, List.length_nil, List.length_cons, Nat.reduceAdd, Nat.reduceLeDiff, Nat.zero_le, not_true_eq_false, not_false_eq_true, true_or, or_true]
      | false => simp (disch := omega) only [h2', h3', Bool.and_false, Bool.false_eq_true, bI_F, if_false, Nat.add_zero, u7073_0, u7073_1, u7073_2, u7073_5, u7073_8, u7073_9, u7073_12, u7073_13, u7073_16, u7073_17, u7073_20, u7073_21i, u7073_21r, u7073_22, u7073_25, u7073_26, u7073_29, u7073_32, u7073_33, u7073_36, u7073_37, u7073_38, u7073_41, gt_70_11, pt_70_11, gt_70_10, pt_70_10, ki_0, ki_1, af_x hd_7073, decide_eq_true_eq, if_true, if_false, f2_ne, f2_eq, up_ne, up_eq, kc_int, kc_ref, kc_retAddr, kc_long, kc_double, af_n, af_v, z0, z1, n_of, nz6, nz4, bI_T, bI_F, bI_01, n_lt, n_le, n_eq, n_add, n_mul, n_sub, n_clamp, n_vp, m_lt, m_le, m_eq, m_eq2, m_ltm, m_add, true_and, and_true, eq_self, if_pos, if_neg, List.length_nil, List.length_cons, Nat.reduceAdd, Nat.reduceLeDiff, Nat.zero_le, not_true_eq_false, not_false_eq_true, true_or, or_true]
    | false =>
      rw [bI_f (by decide)] at h3'
      cases c with
      | true => simp (disch := omega) only [h2', h3', Bool.false_and, Bool.false_eq_true, bI_F, bI_T, if_false, Nat.add_zero, u7073_0, u7073_1, u7073_2, u7073_5, u7073_8, u7073_9, u7073_12, u7073_13, u7073_16, u7073_17, u7073_20, u7073_21i, u7073_21r, u7073_22, u7073_25, u7073_26, u7073_29, u7073_32, u7073_33, u7073_36, u7073_37, u7073_38, u7073_41, gt_70_11, pt_70_11, gt_70_10, pt_70_10, ki_0, ki_1, af_x hd_7073, decide_eq_true_eq, if_true, if_false, f2_ne, f2_eq, up_ne, up_eq, kc_int, kc_ref, kc_retAddr, kc_long, kc_double, af_n, af_v, z0, z1, n_of, nz6, nz4, bI_T, bI_F, bI_01, n_lt, n_le, n_eq, n_add, n_mul, n_sub, n_clamp, n_vp, m_lt, m_le, m_eq, m_eq2, m_ltm, m_add, true_and, and_true, eq_self, if_pos, if_neg, List.length_nil, List.length_cons, Nat.reduceAdd, Nat.reduceLeDiff, Nat.zero_le, not_true_eq_false, not_false_eq_true, true_or, or_true]
      | false => simp (disch := omega) only [h2', h3', Bool.false_and, Bool.false_eq_true, bI_F, if_false, Nat.add_zero, u7073_0, u7073_1, u7073_2, u7073_5, u7073_8, u7073_9, u7073_12, u7073_13, u7073_16, u7073_17, u7073_20, u7073_21i, u7073_21r, u7073_22, u7073_25, u7073_26, u7073_29, u7073_32, u7073_33, u7073_36, u7073_37, u7073_38, u7073_41, gt_70_11, pt_70_11, gt_70_10, pt_70_10, ki_0, ki_1, af_x hd_7073, decide_eq_true_eq, if_true, if_false, f2_ne, f2_eq, up_ne, up_eq, kc_int, kc_ref, kc_retAddr, kc_long, kc_double, af_n, af_v, z0, z1, n_of, nz6, nz4, bI_T, bI_F, bI_01, n_lt, n_le, n_eq, n_add, n_mul, n_sub, n_clamp, n_vp, m_lt, m_le, m_eq, m_eq2, m_ltm, m_add, true_and, and_true, eq_self, if_pos, if_neg, List.length_nil, List.length_cons, Nat.reduceAdd, Nat.reduceLeDiff, Nat.zero_le, not_true_eq_false, not_false_eq_true, true_or, or_true]
  · rw [f2_eq, up_ne (by decide), f2_eq, up_ne (by decide)]; exact h1
  · rw [f2_eq, up_eq]; rfl
  · rw [f2_eq, up_ne (by decide), f2_eq, up_eq]; rfl
  · rw [f2_ne ho, f2_ne ho]
  · rw [f2_eq, up_ne hk1, f2_eq, up_ne hk2]
theorem m_inT {h a b : Nat} (h1 : a ≤ h) (h2 : h ≤ b) (hb : b < 2147483648) : am_Ca X (d + 1) 7005 [.int (nI h), .int (nI a), .int (nI b)] (am_Z cl sl F A L) P = P (.inl (some (.int (nI 1)))) (am_Z cl sl F A L) := by
  rw [m_in, bI_t]
  rw [n_le (by omega) (by omega), n_le (by omega) (by omega)]
  omega
theorem m_inF {h a b : Nat} (h1 : h < a ∨ b < h) (ha : a < 2147483648) (hb : b < 2147483648) (hh : h < 2147483648) : am_Ca X (d + 1) 7005 [.int (nI h), .int (nI a), .int (nI b)] (am_Z cl sl F A L) P = P (.inl (some (.int (nI 0)))) (am_Z cl sl F A L) := by
  rw [m_in, bI_f]
  rw [n_le (by omega) (by omega), n_le (by omega) (by omega)]
  omega
theorem m_takesDigit (p : padR A len pd) {most : Nat} (hm : most ≤ 9) (h : pmF F len x) (hs : x.2 < 1000) : ∃ F2, (∀ P, am_Ca X (d + 2) 7074 [.ref 70, .int (nI most)] (am_Z cl sl F A L) P = P (.inl (some (.int (nI (hr len pd x.2) - nI 48)))) (am_Z cl sl F2 A L)) ∧ pmF F2 len (td len pd most x) ∧ Fp2 F F2 := by
  have hh := hr_le p x.2
  obtain ⟨c, hc⟩ : ∃ c, c = decide (48 ≤ hr len pd x.2 ∧ hr len pd x.2 ≤ 48 + most) := ⟨_, rfl⟩
  obtain ⟨F2, e, h2, f2⟩ := m_takes (d := d) (X := X) (cl := cl) (sl := sl) (A := A) (L := L) (c := c) h
  refine ⟨F2, fun P => ?_, by unfold td; rw [← hc]; exact h2, f2⟩
  have ei : ∀ {Q : am_Q}, am_Ca X (d + 1) 7005 [.int (nI (hr len pd x.2) - nI 48), .int (nI 0), .int (nI most)] (am_Z cl sl F A L) Q = Q (.inl (some (.int (bI (c = true))))) (am_Z cl sl F A L) := fun {Q} => by rw [m_in, dg_in hh hm, ← hc]
  rw [c7074]
  simp (disch := omega) only [m_here p h hs, ei, e, u7074_0, u7074_1, u7074_4, u7074_6, u7074_7, u7074_8, u7074_9, u7074_10, u7074_11, u7074_12, u7074_15, u7074_18, u7074_19, ob_70, ki_0, ki_48, af_x hd_7074, decide_eq_true_eq, if_true, if_false, f2_ne, f2_eq, up_ne, up_eq, kc_int, kc_ref, kc_retAddr, kc_long, kc_double, af_n, af_v, z0, z1, n_of, nz6, nz4, bI_T, bI_F, bI_01, n_lt, n_le, n_eq, n_add, n_mul, n_sub, n_clamp, n_vp, m_lt, m_le, m_eq, m_eq2, m_ltm, m_add, true_and, and_true, eq_self, if_pos, if_neg, List.length_nil, List.length_cons, Nat.reduceAdd, Nat.reduceLeDiff, Nat.zero_le, not_true_eq_false, not_false_eq_true, true_or, or_true]
theorem tk_2 (c : Bool) (x : Bool × Nat) : (tk c x).2 ≤ x.2 + 1 := by
  unfold tk
  dsimp only
  split <;> omega
theorem tk_t {c : Bool} {x : Bool × Nat} (h : (tk c x).1 = true) : x.1 = true ∧ c = true ∧ (tk c x).2 = x.2 + 1 := by
  have h2 : (x.1 && c) = true := h
  refine ⟨by revert h2; cases x.1 <;> simp, by revert h2; cases c <;> simp, ?_⟩
  exact if_pos h2
theorem tn_t {most : Nat} (h : (tn len pd most x).1 = true) : x.1 = true ∧ (48 ≤ hr len pd x.2 ∧ hr len pd x.2 ≤ 57) := by
  have h2 : (td len pd 9 x).1 = true := h
  obtain ⟨a, b, -⟩ := tk_t h2
  exact ⟨a, by simpa using b⟩
theorem m_takesNumber (p : padR A len pd) {most : Nat} (hm : most ≤ 99) (h : pmF F len x) (hs : x.2 < 900) : ∃ F2 v, (∀ P, am_Ca X (d + 3) 7075 [.ref 70, .int (nI most)] (am_Z cl sl F A L) P = P (.inl (some (.int v))) (am_Z cl sl F2 A L)) ∧ pmF F2 len (tn len pd most x) ∧ Fp2 F F2 ∧ ((tn len pd most x).1 = true → v = nI (nm len pd most x.2)) := by
  have hh := hr_le p x.2
  obtain ⟨F1, e1, h1, f1⟩ := m_takesDigit (d := d) (X := X) (cl := cl) (sl := sl) (L := L) p (show 9 ≤ 9 by decide) h (by omega)
  have hx1 : (td len pd 9 x).2 < 1000 := by
    have := tk_2 (decide (48 ≤ hr len pd x.2 ∧ hr len pd x.2 ≤ 48 + 9)) x
    unfold td
    omega
  have hh2 := hr_le p (td len pd 9 x).2
  have fin : ∀ z, Fp2 F (am_f2 F1 70 10 (nI z)) := fun z => Fp2_tr f1 ⟨fun o ho => f2_ne ho, fun k hk1 hk2 => by rw [f2_eq, up_ne hk1]⟩
  have pf : ∀ z, pmF (am_f2 F1 70 10 (nI z)) len ((td len pd 9 x).1, z) := fun z => ⟨by rw [f2_eq, up_ne (by decide)]; exact h1.1, by rw [f2_eq, up_eq], by rw [f2_eq, up_ne (by decide)]; exact h1.2.2⟩
  have F10 := h1.2.1
  have F11 := h1.2.2
  by_cases ok : (td len pd 9 x).1 = true
  · obtain ⟨o1, o2, o3⟩ := tk_t ok
    have o3' : (td len pd 9 x).2 = x.2 + 1 := o3
    have o4 : 48 ≤ hr len pd x.2 ∧ hr len pd x.2 ≤ 48 + 9 := by simpa using o2
    rw [bI_t ok] at F11
    rw [o3'] at F10 hh2
    have eh : ∀ {d : Nat} {Q : am_Q}, am_Ca X (d + 1) 7072 [.ref 70] (am_Z cl sl F1 A L) Q = Q (.inl (some (.int (nI (hr len pd (x.2 + 1)))))) (am_Z cl sl F1 A L) := fun {d} {Q} => by
      have z := m_here (d := d) (X := X) (cl := cl) (sl := sl) (L := L) (P := Q) p h1 hx1
      rw [o3'] at z
      exact z
    have es := n_sub o4.1
    rw [es] at e1
    by_cases i2 : is2' len pd most x.2 = true
    · have i3 : 48 < hr len pd x.2 ∧ (48 ≤ hr len pd (x.2 + 1) ∧ hr len pd (x.2 + 1) ≤ 57) ∧ 10 * (hr len pd x.2 - 48) + (hr len pd (x.2 + 1) - 48) ≤ most := by simpa [is2'] using i2
      have et : tn len pd most x = ((td len pd 9 x).1, x.2 + 1 + 1) := by
        unfold tn
        rw [if_pos ⟨ok, i2⟩, o3']
      have en : nm len pd most x.2 = 10 * (hr len pd x.2 - 48) + (hr len pd (x.2 + 1) - 48) := if_pos i2
      refine ⟨_, nI (10 * (hr len pd x.2 - 48) + hr len pd (x.2 + 1) - 48), fun P => ?_, by rw [et]; exact pf _, fin _, fun _ => by rw [en]; congr 1; omega⟩
      rw [c7075]
      simp (disch := omega) only [e1, eh, F10, F11, m_inT, m_inF, u7075_0, u7075_1, u7075_3, u7075_6, u7075_7, u7075_9, u7075_10, u7075_11, u7075_12, u7075_15, u7075_16, u7075_18, u7075_19, u7075_20, u7075_21, u7075_24, u7075_27, u7075_28, u7075_31, u7075_32, u7075_35, u7075_37, u7075_39, u7075_42, u7075_45, u7075_46, u7075_47, u7075_50, u7075_51, u7075_54, u7075_55, u7075_57, u7075_58i, u7075_58r, u7075_59, u7075_62, u7075_64, u7075_67, u7075_68, u7075_71, u7075_72, u7075_73, u7075_76, u7075_78, u7075_81, u7075_82, u7075_85, u7075_86, ob_70, gt_70_11, gt_70_10, pt_70_10, ki_0, ki_1, ki_10, ki_48, ki_57, ki_9, af_x hd_7075, decide_eq_true_eq, if_true, if_false, f2_ne, f2_eq, up_ne, up_eq, kc_int, kc_ref, kc_retAddr, kc_long, kc_double, af_n, af_v, z0, z1, n_of, nz6, nz4, bI_T, bI_F, bI_01, n_lt, n_le, n_eq, n_add, n_mul, n_sub, n_clamp, n_vp, m_lt, m_le, m_eq, m_eq2, m_ltm, m_add, true_and, and_true, eq_self, if_pos, if_neg, List.length_nil, List.length_cons, Nat.reduceAdd, Nat.reduceLeDiff, Nat.zero_le, not_true_eq_false, not_false_eq_true, true_or, or_true]
    · have et : tn len pd most x = ((td len pd 9 x).1, x.2 + 1) := by
        unfold tn
        rw [if_neg (fun z => i2 z.2), o3']
      have en : nm len pd most x.2 = hr len pd x.2 - 48 := if_neg i2
      refine ⟨_, nI (hr len pd x.2 - 48), fun P => ?_, by rw [et]; exact pf _, fin _, fun _ => by rw [en]⟩
      rw [c7075]
      by_cases c1 : 48 < hr len pd x.2
      · by_cases c2 : 48 ≤ hr len pd (x.2 + 1) ∧ hr len pd (x.2 + 1) ≤ 57
        · have c3 : most < 10 * (hr len pd x.2 - 48) + hr len pd (x.2 + 1) - 48 := by
            by_cases c3 : most < 10 * (hr len pd x.2 - 48) + hr len pd (x.2 + 1) - 48
            · exact c3
            · exact absurd (by simp [is2']; omega) i2
          simp (disch := omega) only [e1, eh, F10, F11, m_inT, m_inF, Nat.add_zero, u7075_0, u7075_1, u7075_3, u7075_6, u7075_7, u7075_9, u7075_10, u7075_11, u7075_12, u7075_15, u7075_16, u7075_18, u7075_19, u7075_20, u7075_21, u7075_24, u7075_27, u7075_28, u7075_31, u7075_32, u7075_35, u7075_37, u7075_39, u7075_42, u7075_45, u7075_46, u7075_47, u7075_50, u7075_51, u7075_54, u7075_55, u7075_57, u7075_58i, u7075_58r, u7075_59, u7075_62, u7075_64, u7075_67, u7075_68, u7075_71, u7075_72, u7075_73, u7075_76, u7075_78, u7075_81, u7075_82, u7075_85, u7075_86, ob_70, gt_70_11, gt_70_10, pt_70_10, ki_0, ki_1, ki_10, ki_48, ki_57, ki_9, af_x hd_7075, decide_eq_true_eq, if_true, if_false, f2_ne, f2_eq, up_ne, up_eq, kc_int, kc_ref, kc_retAddr, kc_long, kc_double, af_n, af_v, z0, z1, n_of, nz6, nz4, bI_T, bI_F, bI_01, n_lt, n_le, n_eq, n_add, n_mul, n_sub, n_clamp, n_vp, m_lt, m_le, m_eq, m_eq2, m_ltm, m_add, true_and, and_true, eq_self, if_pos, if_neg, List.length_nil, List.length_cons, Nat.reduceAdd, Nat.reduceLeDiff, Nat.zero_le, not_true_eq_false, not_false_eq_true, true_or, or_true]
        · simp (disch := omega) only [e1, eh, F10, F11, m_inT, m_inF, Nat.add_zero, u7075_0, u7075_1, u7075_3, u7075_6, u7075_7, u7075_9, u7075_10, u7075_11, u7075_12, u7075_15, u7075_16, u7075_18, u7075_19, u7075_20, u7075_21, u7075_24, u7075_27, u7075_28, u7075_31, u7075_32, u7075_35, u7075_37, u7075_39, u7075_42, u7075_45, u7075_46, u7075_47, u7075_50, u7075_51, u7075_54, u7075_55, u7075_57, u7075_58i, u7075_58r, u7075_59, u7075_62, u7075_64, u7075_67, u7075_68, u7075_71, u7075_72, u7075_73, u7075_76, u7075_78, u7075_81, u7075_82, u7075_85, u7075_86, ob_70, gt_70_11, gt_70_10, pt_70_10, ki_0, ki_1, ki_10, ki_48, ki_57, ki_9, af_x hd_7075, decide_eq_true_eq, if_true, if_false, f2_ne, f2_eq, up_ne, up_eq, kc_int, kc_ref, kc_retAddr, kc_long, kc_double, af_n, af_v, z0, z1, n_of, nz6, nz4, bI_T, bI_F, bI_01, n_lt, n_le, n_eq, n_add, n_mul, n_sub, n_clamp, n_vp, m_lt, m_le, m_eq, m_eq2, m_ltm, m_add, true_and, and_true, eq_self, if_pos, if_neg, List.length_nil, List.length_cons, Nat.reduceAdd, Nat.reduceLeDiff, Nat.zero_le, not_true_eq_false, not_false_eq_true, true_or, or_true]
      · have c4 : hr len pd x.2 - 48 = 0 := by omega
        simp (disch := omega) only [e1, eh, F10, F11, c4, Nat.add_zero, u7075_0, u7075_1, u7075_3, u7075_6, u7075_7, u7075_9, u7075_10, u7075_11, u7075_12, u7075_15, u7075_16, u7075_18, u7075_19, u7075_20, u7075_21, u7075_24, u7075_27, u7075_28, u7075_31, u7075_32, u7075_35, u7075_37, u7075_39, u7075_42, u7075_45, u7075_46, u7075_47, u7075_50, u7075_51, u7075_54, u7075_55, u7075_57, u7075_58i, u7075_58r, u7075_59, u7075_62, u7075_64, u7075_67, u7075_68, u7075_71, u7075_72, u7075_73, u7075_76, u7075_78, u7075_81, u7075_82, u7075_85, u7075_86, ob_70, gt_70_11, gt_70_10, pt_70_10, ki_0, ki_1, ki_10, ki_48, ki_57, ki_9, af_x hd_7075, decide_eq_true_eq, if_true, if_false, f2_ne, f2_eq, up_ne, up_eq, kc_int, kc_ref, kc_retAddr, kc_long, kc_double, af_n, af_v, z0, z1, n_of, nz6, nz4, bI_T, bI_F, bI_01, n_lt, n_le, n_eq, n_add, n_mul, n_sub, n_clamp, n_vp, m_lt, m_le, m_eq, m_eq2, m_ltm, m_add, true_and, and_true, eq_self, if_pos, if_neg, List.length_nil, List.length_cons, Nat.reduceAdd, Nat.reduceLeDiff, Nat.zero_le, not_true_eq_false, not_false_eq_true, true_or, or_true]
  · rw [bI_f ok] at F11
    have et : tn len pd most x = ((td len pd 9 x).1, (td len pd 9 x).2) := by
      unfold tn
      rw [if_neg (fun z => ok z.1)]
    refine ⟨_, nI (hr len pd x.2) - nI 48, fun P => ?_, by rw [et]; exact pf _, fin _, fun z => absurd z ok⟩
    rw [c7075]
    generalize nI (hr len pd x.2) - nI 48 = v at e1
    simp (disch := omega) only [e1, m_here p h1 hx1, F10, F11, Nat.add_zero, u7075_0, u7075_1, u7075_3, u7075_6, u7075_7, u7075_9, u7075_10, u7075_11, u7075_12, u7075_15, u7075_16, u7075_18, u7075_19, u7075_20, u7075_21, u7075_24, u7075_27, u7075_28, u7075_31, u7075_32, u7075_35, u7075_37, u7075_39, u7075_42, u7075_45, u7075_46, u7075_47, u7075_50, u7075_51, u7075_54, u7075_55, u7075_57, u7075_58i, u7075_58r, u7075_59, u7075_62, u7075_64, u7075_67, u7075_68, u7075_71, u7075_72, u7075_73, u7075_76, u7075_78, u7075_81, u7075_82, u7075_85, u7075_86, ob_70, gt_70_11, gt_70_10, pt_70_10, ki_0, ki_1, ki_10, ki_48, ki_57, ki_9, af_x hd_7075, decide_eq_true_eq, if_true, if_false, f2_ne, f2_eq, up_ne, up_eq, kc_int, kc_ref, kc_retAddr, kc_long, kc_double, af_n, af_v, z0, z1, n_of, nz6, nz4, bI_T, bI_F, bI_01, n_lt, n_le, n_eq, n_add, n_mul, n_sub, n_clamp, n_vp, m_lt, m_le, m_eq, m_eq2, m_ltm, m_add, true_and, and_true, eq_self, if_pos, if_neg, List.length_nil, List.length_cons, Nat.reduceAdd, Nat.reduceLeDiff, Nat.zero_le, not_true_eq_false, not_false_eq_true, true_or, or_true]
/-! an order -/
theorem sg_131 {v1 v2 v3 : Value} (p : padR A len pd) (h : pmF F len x) (hs : x.2 < 1000) : ∃ F2, (∀ P, am_g (d + 3) X am_m7076 131 [.ref 70, v1, v2, v3] [] (am_Z cl sl F A L) P = am_g (d + 3) X am_m7076 149 [.ref 70, v1, v2, v3] [] (am_Z cl sl F2 A L) P) ∧ pmF F2 len (tkc len pd 46 x) ∧ Fp2 F F2 := by
  have hh := hr_le p x.2
  obtain ⟨F2, e, h2, f2⟩ := m_takes (d := d + 2) (X := X) (cl := cl) (sl := sl) (A := A) (L := L) (c := decide (hr len pd x.2 = 46)) h
  refine ⟨F2, fun P => ?_, h2, f2⟩
  by_cases hv : hr len pd x.2 = 46
  · rw [bI_t (by simp [hv])] at e
    simp (disch := omega) only [m_here p h hs, hv, e, u7076_0, u7076_1, u7076_2, u7076_5, u7076_8, u7076_9, u7076_12, u7076_14, u7076_16, u7076_19, u7076_20, u7076_21, u7076_24, u7076_26, u7076_29, u7076_30, u7076_33, u7076_35, u7076_38, u7076_39, u7076_42, u7076_43, u7076_44, u7076_45, u7076_48, u7076_50, u7076_53, u7076_54, u7076_57, u7076_59, u7076_62, u7076_63, u7076_66, u7076_67, u7076_68, u7076_69, u7076_70, u7076_73, u7076_74, u7076_77, u7076_78, u7076_81, u7076_82, u7076_85, u7076_87, u7076_90, u7076_91, u7076_94, u7076_96, u7076_99, u7076_100, u7076_103, u7076_105, u7076_108, u7076_109, u7076_112, u7076_113, u7076_116, u7076_117, u7076_120, u7076_121, u7076_122, u7076_125, u7076_127, u7076_128, u7076_131, u7076_132, u7076_133, u7076_136, u7076_138, u7076_141, u7076_142, u7076_145, u7076_146, u7076_150, u7076_151, u7076_152, u7076_155, u7076_158, u7076_159, u7076_160, u7076_163, u7076_165, u7076_168, u7076_169, u7076_172, u7076_173, u7076_176, u7076_177, u7076_178, u7076_180, u7076_183, u7076_186, u7076_187, u7076_190, u7076_191, u7076_192, u7076_193, u7076_196, u7076_199, u7076_200, u7076_203, u7076_204, u7076_205, u7076_207, u7076_210, u7076_213, u7076_214, u7076_215, u7076_218, u7076_220, u7076_223, u7076_224, u7076_227, u7076_228, u7076_231, ob_70, pt_70_12, gt_70_12, pt_70_13, pt_70_14, pt_70_15, ki_0, ki_1, ki_109, ki_112, ki_114, ki_115, ki_46, ki_48, ki_5, ki_51, ki_59, ki_61, ki_97, ki_98, ki_99, af_x hd_7076, decide_eq_true_eq, if_true, if_false, f2_ne, f2_eq, up_ne, up_eq, kc_int, kc_ref, kc_retAddr, kc_long, kc_double, af_n, af_v, z0, z1, n_of, nz6, nz4, bI_T, bI_F, bI_01, n_lt, n_le, n_eq, n_add, n_mul, n_sub, n_clamp, n_vp, m_lt, m_le, m_eq, m_eq2, m_ltm, m_add, true_and, and_true, eq_self, if_pos, if_neg, List.length_nil, List.length_cons, Nat.reduceAdd, Nat.reduceLeDiff, Nat.zero_le, not_true_eq_false, not_false_eq_true, true_or, or_true]
  · rw [bI_f (by simp [hv])] at e
    simp (disch := omega) only [m_here p h hs, hv, e, u7076_0, u7076_1, u7076_2, u7076_5, u7076_8, u7076_9, u7076_12, u7076_14, u7076_16, u7076_19, u7076_20, u7076_21, u7076_24, u7076_26, u7076_29, u7076_30, u7076_33, u7076_35, u7076_38, u7076_39, u7076_42, u7076_43, u7076_44, u7076_45, u7076_48, u7076_50, u7076_53, u7076_54, u7076_57, u7076_59, u7076_62, u7076_63, u7076_66, u7076_67, u7076_68, u7076_69, u7076_70, u7076_73, u7076_74, u7076_77, u7076_78, u7076_81, u7076_82, u7076_85, u7076_87, u7076_90, u7076_91, u7076_94, u7076_96, u7076_99, u7076_100, u7076_103, u7076_105, u7076_108, u7076_109, u7076_112, u7076_113, u7076_116, u7076_117, u7076_120, u7076_121, u7076_122, u7076_125, u7076_127, u7076_128, u7076_131, u7076_132, u7076_133, u7076_136, u7076_138, u7076_141, u7076_142, u7076_145, u7076_146, u7076_150, u7076_151, u7076_152, u7076_155, u7076_158, u7076_159, u7076_160, u7076_163, u7076_165, u7076_168, u7076_169, u7076_172, u7076_173, u7076_176, u7076_177, u7076_178, u7076_180, u7076_183, u7076_186, u7076_187, u7076_190, u7076_191, u7076_192, u7076_193, u7076_196, u7076_199, u7076_200, u7076_203, u7076_204, u7076_205, u7076_207, u7076_210, u7076_213, u7076_214, u7076_215, u7076_218, u7076_220, u7076_223, u7076_224, u7076_227, u7076_228, u7076_231, ob_70, pt_70_12, gt_70_12, pt_70_13, pt_70_14, pt_70_15, ki_0, ki_1, ki_109, ki_112, ki_114, ki_115, ki_46, ki_48, ki_5, ki_51, ki_59, ki_61, ki_97, ki_98, ki_99, af_x hd_7076, decide_eq_true_eq, if_true, if_false, f2_ne, f2_eq, up_ne, up_eq, kc_int, kc_ref, kc_retAddr, kc_long, kc_double, af_n, af_v, z0, z1, n_of, nz6, nz4, bI_T, bI_F, bI_01, n_lt, n_le, n_eq, n_add, n_mul, n_sub, n_clamp, n_vp, m_lt, m_le, m_eq, m_eq2, m_ltm, m_add, true_and, and_true, eq_self, if_pos, if_neg, List.length_nil, List.length_cons, Nat.reduceAdd, Nat.reduceLeDiff, Nat.zero_le, not_true_eq_false, not_false_eq_true, true_or, or_true]

theorem sg_158 {v1 v2 v3 : Value} (p : padR A len pd) (h : pmF F len x) (hs : x.2 < 1000) : ∃ F2, (∀ P, am_g (d + 3) X am_m7076 158 [.ref 70, v1, v2, v3] [] (am_Z cl sl F A L) P = am_g (d + 3) X am_m7076 176 [.ref 70, v1, v2, v3] [] (am_Z cl sl F2 A L) P) ∧ pmF F2 len (tkc len pd 61 x) ∧ Fp2 F F2 := by
  have hh := hr_le p x.2
  obtain ⟨F2, e, h2, f2⟩ := m_takes (d := d + 2) (X := X) (cl := cl) (sl := sl) (A := A) (L := L) (c := decide (hr len pd x.2 = 61)) h
  refine ⟨F2, fun P => ?_, h2, f2⟩
  by_cases hv : hr len pd x.2 = 61
  · rw [bI_t (by simp [hv])] at e
    simp (disch := omega) only [m_here p h hs, hv, e, u7076_0, u7076_1, u7076_2, u7076_5, u7076_8, u7076_9, u7076_12, u7076_14, u7076_16, u7076_19, u7076_20, u7076_21, u7076_24, u7076_26, u7076_29, u7076_30, u7076_33, u7076_35, u7076_38, u7076_39, u7076_42, u7076_43, u7076_44, u7076_45, u7076_48, u7076_50, u7076_53, u7076_54, u7076_57, u7076_59, u7076_62, u7076_63, u7076_66, u7076_67, u7076_68, u7076_69, u7076_70, u7076_73, u7076_74, u7076_77, u7076_78, u7076_81, u7076_82, u7076_85, u7076_87, u7076_90, u7076_91, u7076_94, u7076_96, u7076_99, u7076_100, u7076_103, u7076_105, u7076_108, u7076_109, u7076_112, u7076_113, u7076_116, u7076_117, u7076_120, u7076_121, u7076_122, u7076_125, u7076_127, u7076_128, u7076_131, u7076_132, u7076_133, u7076_136, u7076_138, u7076_141, u7076_142, u7076_145, u7076_146, u7076_149, u7076_150, u7076_151, u7076_152, u7076_155, u7076_158, u7076_159, u7076_160, u7076_163, u7076_165, u7076_168, u7076_169, u7076_172, u7076_173, u7076_177, u7076_178, u7076_180, u7076_183, u7076_186, u7076_187, u7076_190, u7076_191, u7076_192, u7076_193, u7076_196, u7076_199, u7076_200, u7076_203, u7076_204, u7076_205, u7076_207, u7076_210, u7076_213, u7076_214, u7076_215, u7076_218, u7076_220, u7076_223, u7076_224, u7076_227, u7076_228, u7076_231, ob_70, pt_70_12, gt_70_12, pt_70_13, pt_70_14, pt_70_15, ki_0, ki_1, ki_109, ki_112, ki_114, ki_115, ki_46, ki_48, ki_5, ki_51, ki_59, ki_61, ki_97, ki_98, ki_99, af_x hd_7076, decide_eq_true_eq, if_true, if_false, f2_ne, f2_eq, up_ne, up_eq, kc_int, kc_ref, kc_retAddr, kc_long, kc_double, af_n, af_v, z0, z1, n_of, nz6, nz4, bI_T, bI_F, bI_01, n_lt, n_le, n_eq, n_add, n_mul, n_sub, n_clamp, n_vp, m_lt, m_le, m_eq, m_eq2, m_ltm, m_add, true_and, and_true, eq_self, if_pos, if_neg, List.length_nil, List.length_cons, Nat.reduceAdd, Nat.reduceLeDiff, Nat.zero_le, not_true_eq_false, not_false_eq_true, true_or, or_true]
  · rw [bI_f (by simp [hv])] at e
    simp (disch := omega) only [m_here p h hs, hv, e, u7076_0, u7076_1, u7076_2, u7076_5, u7076_8, u7076_9, u7076_12, u7076_14, u7076_16, u7076_19, u7076_20, u7076_21, u7076_24, u7076_26, u7076_29, u7076_30, u7076_33, u7076_35, u7076_38, u7076_39, u7076_42, u7076_43, u7076_44, u7076_45, u7076_48, u7076_50, u7076_53, u7076_54, u7076_57, u7076_59, u7076_62, u7076_63, u7076_66, u7076_67, u7076_68, u7076_69, u7076_70, u7076_73, u7076_74, u7076_77, u7076_78, u7076_81, u7076_82, u7076_85, u7076_87, u7076_90, u7076_91, u7076_94, u7076_96, u7076_99, u7076_100, u7076_103, u7076_105, u7076_108, u7076_109, u7076_112, u7076_113, u7076_116, u7076_117, u7076_120, u7076_121, u7076_122, u7076_125, u7076_127, u7076_128, u7076_131, u7076_132, u7076_133, u7076_136, u7076_138, u7076_141, u7076_142, u7076_145, u7076_146, u7076_149, u7076_150, u7076_151, u7076_152, u7076_155, u7076_158, u7076_159, u7076_160, u7076_163, u7076_165, u7076_168, u7076_169, u7076_172, u7076_173, u7076_177, u7076_178, u7076_180, u7076_183, u7076_186, u7076_187, u7076_190, u7076_191, u7076_192, u7076_193, u7076_196, u7076_199, u7076_200, u7076_203, u7076_204, u7076_205, u7076_207, u7076_210, u7076_213, u7076_214, u7076_215, u7076_218, u7076_220, u7076_223, u7076_224, u7076_227, u7076_228, u7076_231, ob_70, pt_70_12, gt_70_12, pt_70_13, pt_70_14, pt_70_15, ki_0, ki_1, ki_109, ki_112, ki_114, ki_115, ki_46, ki_48, ki_5, ki_51, ki_59, ki_61, ki_97, ki_98, ki_99, af_x hd_7076, decide_eq_true_eq, if_true, if_false, f2_ne, f2_eq, up_ne, up_eq, kc_int, kc_ref, kc_retAddr, kc_long, kc_double, af_n, af_v, z0, z1, n_of, nz6, nz4, bI_T, bI_F, bI_01, n_lt, n_le, n_eq, n_add, n_mul, n_sub, n_clamp, n_vp, m_lt, m_le, m_eq, m_eq2, m_ltm, m_add, true_and, and_true, eq_self, if_pos, if_neg, List.length_nil, List.length_cons, Nat.reduceAdd, Nat.reduceLeDiff, Nat.zero_le, not_true_eq_false, not_false_eq_true, true_or, or_true]

theorem sg_213 {v1 v2 v3 : Value} (p : padR A len pd) (h : pmF F len x) (hs : x.2 < 1000) : ∃ F2, (∀ P, am_g (d + 3) X am_m7076 213 [.ref 70, v1, v2, v3] [] (am_Z cl sl F A L) P = P (.inl none) (am_Z cl sl F2 A L)) ∧ pmF F2 len (tkc len pd 59 x) ∧ Fp2 F F2 := by
  have hh := hr_le p x.2
  obtain ⟨F2, e, h2, f2⟩ := m_takes (d := d + 2) (X := X) (cl := cl) (sl := sl) (A := A) (L := L) (c := decide (hr len pd x.2 = 59)) h
  refine ⟨F2, fun P => ?_, h2, f2⟩
  by_cases hv : hr len pd x.2 = 59
  · rw [bI_t (by simp [hv])] at e
    simp (disch := omega) only [m_here p h hs, hv, e, u7076_0, u7076_1, u7076_2, u7076_5, u7076_8, u7076_9, u7076_12, u7076_14, u7076_16, u7076_19, u7076_20, u7076_21, u7076_24, u7076_26, u7076_29, u7076_30, u7076_33, u7076_35, u7076_38, u7076_39, u7076_42, u7076_43, u7076_44, u7076_45, u7076_48, u7076_50, u7076_53, u7076_54, u7076_57, u7076_59, u7076_62, u7076_63, u7076_66, u7076_67, u7076_68, u7076_69, u7076_70, u7076_73, u7076_74, u7076_77, u7076_78, u7076_81, u7076_82, u7076_85, u7076_87, u7076_90, u7076_91, u7076_94, u7076_96, u7076_99, u7076_100, u7076_103, u7076_105, u7076_108, u7076_109, u7076_112, u7076_113, u7076_116, u7076_117, u7076_120, u7076_121, u7076_122, u7076_125, u7076_127, u7076_128, u7076_131, u7076_132, u7076_133, u7076_136, u7076_138, u7076_141, u7076_142, u7076_145, u7076_146, u7076_149, u7076_150, u7076_151, u7076_152, u7076_155, u7076_158, u7076_159, u7076_160, u7076_163, u7076_165, u7076_168, u7076_169, u7076_172, u7076_173, u7076_176, u7076_177, u7076_178, u7076_180, u7076_183, u7076_186, u7076_187, u7076_190, u7076_191, u7076_192, u7076_193, u7076_196, u7076_199, u7076_200, u7076_203, u7076_204, u7076_205, u7076_207, u7076_210, u7076_213, u7076_214, u7076_215, u7076_218, u7076_220, u7076_223, u7076_224, u7076_227, u7076_228, u7076_231, ob_70, pt_70_12, gt_70_12, pt_70_13, pt_70_14, pt_70_15, ki_0, ki_1, ki_109, ki_112, ki_114, ki_115, ki_46, ki_48, ki_5, ki_51, ki_59, ki_61, ki_97, ki_98, ki_99, af_x hd_7076, decide_eq_true_eq, if_true, if_false, f2_ne, f2_eq, up_ne, up_eq, kc_int, kc_ref, kc_retAddr, kc_long, kc_double, af_n, af_v, z0, z1, n_of, nz6, nz4, bI_T, bI_F, bI_01, n_lt, n_le, n_eq, n_add, n_mul, n_sub, n_clamp, n_vp, m_lt, m_le, m_eq, m_eq2, m_ltm, m_add, true_and, and_true, eq_self, if_pos, if_neg, List.length_nil, List.length_cons, Nat.reduceAdd, Nat.reduceLeDiff, Nat.zero_le, not_true_eq_false, not_false_eq_true, true_or, or_true]
  · rw [bI_f (by simp [hv])] at e
    simp (disch := omega) only [m_here p h hs, hv, e, u7076_0, u7076_1, u7076_2, u7076_5, u7076_8, u7076_9, u7076_12, u7076_14, u7076_16, u7076_19, u7076_20, u7076_21, u7076_24, u7076_26, u7076_29, u7076_30, u7076_33, u7076_35, u7076_38, u7076_39, u7076_42, u7076_43, u7076_44, u7076_45, u7076_48, u7076_50, u7076_53, u7076_54, u7076_57, u7076_59, u7076_62, u7076_63, u7076_66, u7076_67, u7076_68, u7076_69, u7076_70, u7076_73, u7076_74, u7076_77, u7076_78, u7076_81, u7076_82, u7076_85, u7076_87, u7076_90, u7076_91, u7076_94, u7076_96, u7076_99, u7076_100, u7076_103, u7076_105, u7076_108, u7076_109, u7076_112, u7076_113, u7076_116, u7076_117, u7076_120, u7076_121, u7076_122, u7076_125, u7076_127, u7076_128, u7076_131, u7076_132, u7076_133, u7076_136, u7076_138, u7076_141, u7076_142, u7076_145, u7076_146, u7076_149, u7076_150, u7076_151, u7076_152, u7076_155, u7076_158, u7076_159, u7076_160, u7076_163, u7076_165, u7076_168, u7076_169, u7076_172, u7076_173, u7076_176, u7076_177, u7076_178, u7076_180, u7076_183, u7076_186, u7076_187, u7076_190, u7076_191, u7076_192, u7076_193, u7076_196, u7076_199, u7076_200, u7076_203, u7076_204, u7076_205, u7076_207, u7076_210, u7076_213, u7076_214, u7076_215, u7076_218, u7076_220, u7076_223, u7076_224, u7076_227, u7076_228, u7076_231, ob_70, pt_70_12, gt_70_12, pt_70_13, pt_70_14, pt_70_15, ki_0, ki_1, ki_109, ki_112, ki_114, ki_115, ki_46, ki_48, ki_5, ki_51, ki_59, ki_61, ki_97, ki_98, ki_99, af_x hd_7076, decide_eq_true_eq, if_true, if_false, f2_ne, f2_eq, up_ne, up_eq, kc_int, kc_ref, kc_retAddr, kc_long, kc_double, af_n, af_v, z0, z1, n_of, nz6, nz4, bI_T, bI_F, bI_01, n_lt, n_le, n_eq, n_add, n_mul, n_sub, n_clamp, n_vp, m_lt, m_le, m_eq, m_eq2, m_ltm, m_add, true_and, and_true, eq_self, if_pos, if_neg, List.length_nil, List.length_cons, Nat.reduceAdd, Nat.reduceLeDiff, Nat.zero_le, not_true_eq_false, not_false_eq_true, true_or, or_true]
def ordF (F : Nat → Nat → Int32) (len : Nat) (pd : Nat → Nat) (s : Nat) : Prop := F 70 12 = nI (hr len pd s) ∧ ((48 ≤ hr len pd s ∧ hr len pd s ≤ 51) → F 70 13 = nI (hr len pd s - 48) ∧ F 70 14 = nI (hr len pd (s + 2) - 48) ∧ F 70 15 = nI (nm len pd 99 (s + 4))) ∧ ((hr len pd s = 115 ∨ hr len pd s = 109) → F 70 13 = nI (hr len pd (s + 1) - 48)) ∧ ((hr len pd s = 112 ∨ hr len pd s = 114) → F 70 13 = nI (nm len pd 59 (s + 1)))
theorem tn_2 (most : Nat) (x : Bool × Nat) : (tn len pd most x).2 ≤ x.2 + 2 := by
  have h : (td len pd 9 x).2 ≤ x.2 + 1 := tk_2 _ x
  unfold tn
  dsimp only
  split <;> omega
theorem m_takesOrder (p : padR A len pd) {s : Nat} (h : pmF F len (true, s)) (hs : s < 100) : ∃ F2, (∀ P, am_Ca X (d + 4) 7076 [.ref 70] (am_Z cl sl F A L) P = P (.inl none) (am_Z cl sl F2 A L)) ∧ pmF F2 len (tO len pd s) ∧ Fp F F2 ∧ ((tO len pd s).1 = true → ordF F2 len pd s) := by
  have hh := hr_le p s
  have h0 : pmF (am_f2 F 70 12 (nI (hr len pd s))) len (true, s) := pm_f2 h (by decide) (by decide) (by decide)
  have eh := fun {d : Nat} {Q : am_Q} => m_here (d := d) (X := X) (cl := cl) (sl := sl) (F := F) (L := L) (P := Q) p h (show s < 1000 by omega)
  have f0 : Fp F (am_f2 F 70 12 (nI (hr len pd s))) := Fp_f (by decide) (by decide)
  obtain ⟨F1, e1, h1, f1⟩ := m_takes (d := d + 2) (X := X) (cl := cl) (sl := sl) (A := A) (L := L) (c := true) h0
  rw [bI_t rfl] at e1
  have h1' : pmF F1 len (true, s + 1) := h1
  have e12 : F1 70 12 = nI (hr len pd s) := by rw [f1.2 12 (by decide) (by decide), f2_eq, up_eq]
  unfold tO
  by_cases c1 : 48 ≤ hr len pd s ∧ hr len pd s ≤ 51
  · rw [if_pos c1]
    have k2 : pmF (am_f2 F1 70 13 (nI (hr len pd s - 48))) len (true, s + 1) := pm_f2 h1' (by decide) (by decide) (by decide)
    obtain ⟨F2, e2, h2, f2⟩ := sg_131 (d := d) (X := X) (cl := cl) (sl := sl) (L := L) (v1 := .int (nI 1)) (v2 := .int (nI 0)) (v3 := .int (nI 0)) p k2 (show s + 1 < 1000 by omega)
    have q2 : (tkc len pd 46 (true, s + 1)).2 ≤ s + 2 := tk_2 _ _
    obtain ⟨F3, e3, h3, f3⟩ := m_takesDigit (d := d + 1) (X := X) (cl := cl) (sl := sl) (L := L) p (show 5 ≤ 9 by decide) h2 (by omega)
    have k4 : pmF (am_f2 F3 70 14 (nI (hr len pd (tkc len pd 46 (true, s + 1)).2) - nI 48)) len _ := pm_f2 h3 (by decide) (by decide) (by decide)
    have q3 : (td len pd 5 (tkc len pd 46 (true, s + 1))).2 ≤ _ := tk_2 _ _
    obtain ⟨F4, e4, h4, f4⟩ := sg_158 (d := d) (X := X) (cl := cl) (sl := sl) (L := L) (v1 := .int (nI 1)) (v2 := .int (nI 0)) (v3 := .int (nI 0)) p k4 (by omega)
    have q4 : (tkc len pd 61 (td len pd 5 (tkc len pd 46 (true, s + 1)))).2 ≤ _ := tk_2 _ _
    obtain ⟨F5, v, e5, h5, f5, hv⟩ := m_takesNumber (d := d) (X := X) (cl := cl) (sl := sl) (L := L) p (show 99 ≤ 99 by decide) h4 (by omega)
    have k6 : pmF (am_f2 F5 70 15 v) len _ := pm_f2 h5 (by decide) (by decide) (by decide)
    have q5 := tn_2 (len := len) (pd := pd) 99 (tkc len pd 61 (td len pd 5 (tkc len pd 46 (true, s + 1))))
    obtain ⟨F6, e6, h6, f6⟩ := sg_213 (d := d) (X := X) (cl := cl) (sl := sl) (L := L) (v1 := .int (nI 1)) (v2 := .int (nI 0)) (v3 := .int (nI 0)) p k6 (by omega)
    refine ⟨F6, fun P => ?_, h6, Fp_tr f0 (Fp_tr (Fp_2 f1) (Fp_tr (Fp_f (by decide) (by decide)) (Fp_tr (Fp_2 f2) (Fp_tr (Fp_2 f3) (Fp_tr (Fp_f (by decide) (by decide)) (Fp_tr (Fp_2 f4) (Fp_tr (Fp_2 f5) (Fp_tr (Fp_f (by decide) (by decide)) (Fp_2 f6))))))))), fun ok => ?_⟩
    · generalize nI (hr len pd (tkc len pd 46 (true, s + 1)).2) - nI 48 = u at e3 e4
      refine Eq.trans ?_ (e6 P)
      rw [c7076]
      simp (disch := omega) only [eh, m_inT, m_inF, e1, e12, e2, e3, e4, e5, u7076_0, u7076_1, u7076_2, u7076_5, u7076_8, u7076_9, u7076_12, u7076_14, u7076_16, u7076_19, u7076_20, u7076_21, u7076_24, u7076_26, u7076_29, u7076_30, u7076_33, u7076_35, u7076_38, u7076_39, u7076_42, u7076_43, u7076_44, u7076_45, u7076_48, u7076_50, u7076_53, u7076_54, u7076_57, u7076_59, u7076_62, u7076_63, u7076_66, u7076_67, u7076_68, u7076_69, u7076_70, u7076_73, u7076_74, u7076_77, u7076_78, u7076_81, u7076_82, u7076_85, u7076_87, u7076_90, u7076_91, u7076_94, u7076_96, u7076_99, u7076_100, u7076_103, u7076_105, u7076_108, u7076_109, u7076_112, u7076_113, u7076_116, u7076_117, u7076_120, u7076_121, u7076_122, u7076_125, u7076_127, u7076_128, u7076_132, u7076_133, u7076_136, u7076_138, u7076_141, u7076_142, u7076_145, u7076_146, u7076_149, u7076_150, u7076_151, u7076_152, u7076_155, u7076_159, u7076_160, u7076_163, u7076_165, u7076_168, u7076_169, u7076_172, u7076_173, u7076_176, u7076_177, u7076_178, u7076_180, u7076_183, u7076_186, u7076_187, u7076_190, u7076_191, u7076_192, u7076_193, u7076_196, u7076_199, u7076_200, u7076_203, u7076_204, u7076_205, u7076_207, u7076_210, u7076_214, u7076_215, u7076_218, u7076_220, u7076_223, u7076_224, u7076_227, u7076_228, u7076_231, ob_70, pt_70_12, gt_70_12, pt_70_13, pt_70_14, pt_70_15, ki_0, ki_1, ki_109, ki_112, ki_114, ki_115, ki_46, ki_48, ki_5, ki_51, ki_59, ki_61, ki_97, ki_98, ki_99, af_x hd_7076, decide_eq_true_eq, if_true, if_false, f2_ne, f2_eq, up_ne, up_eq, kc_int, kc_ref, kc_retAddr, kc_long, kc_double, af_n, af_v, z0, z1, n_of, nz6, nz4, bI_T, bI_F, bI_01, n_lt, n_le, n_eq, n_add, n_mul, n_sub, n_clamp, n_vp, m_lt, m_le, m_eq, m_eq2, m_ltm, m_add, true_and, and_true, eq_self, if_pos, if_neg, List.length_nil, List.length_cons, Nat.reduceAdd, Nat.reduceLeDiff, Nat.zero_le, not_true_eq_false, not_false_eq_true, true_or, or_true]
    · obtain ⟨a1, -, -⟩ := tk_t ok
      have a2 := hv a1
      obtain ⟨b1, -⟩ := tn_t a1
      obtain ⟨b2, -, b3⟩ := tk_t b1
      obtain ⟨b4, b5, b6⟩ := tk_t b2
      obtain ⟨-, -, b7⟩ := tk_t b4
      have z1 : (tkc len pd 46 (true, s + 1)).2 = s + 2 := b7
      have z2 : (td len pd 5 (tkc len pd 46 (true, s + 1))).2 = (tkc len pd 46 (true, s + 1)).2 + 1 := b6
      have z3 : (tkc len pd 61 (td len pd 5 (tkc len pd 46 (true, s + 1)))).2 = (td len pd 5 (tkc len pd 46 (true, s + 1))).2 + 1 := b3
      have z4 : 48 ≤ hr len pd (tkc len pd 46 (true, s + 1)).2 ∧ hr len pd (tkc len pd 46 (true, s + 1)).2 ≤ 48 + 5 := by simpa using b5
      rw [z3, z2, z1] at a2
      refine ⟨?_, fun _ => ⟨?_, ?_, ?_⟩, fun w => ?_, fun w => ?_⟩
      · rw [f6.2 _ (by decide) (by decide), f2_eq, up_ne (by decide), f5.2 _ (by decide) (by decide), f4.2 _ (by decide) (by decide), f2_eq, up_ne (by decide), f3.2 _ (by decide) (by decide), f2.2 _ (by decide) (by decide), f2_eq, up_ne (by decide), e12]
      · rw [f6.2 _ (by decide) (by decide), f2_eq, up_ne (by decide), f5.2 _ (by decide) (by decide), f4.2 _ (by decide) (by decide), f2_eq, up_ne (by decide), f3.2 _ (by decide) (by decide), f2.2 _ (by decide) (by decide), f2_eq, up_eq]
      · rw [f6.2 _ (by decide) (by decide), f2_eq, up_ne (by decide), f5.2 _ (by decide) (by decide), f4.2 _ (by decide) (by decide), f2_eq, up_eq, n_sub z4.1, z1]
      · rw [f6.2 _ (by decide) (by decide), f2_eq, up_eq, a2]
      · omega
      · omega
  · rw [if_neg c1]
    by_cases c2 : hr len pd s = 115 ∨ hr len pd s = 109
    · rw [if_pos c2]
      obtain ⟨F3, e3, h3, f3⟩ := m_takesDigit (d := d + 1) (X := X) (cl := cl) (sl := sl) (L := L) p (show 5 ≤ 9 by decide) h1' (show s + 1 < 1000 by omega)
      have k4 : pmF (am_f2 F3 70 13 (nI (hr len pd (s + 1)) - nI 48)) len _ := pm_f2 h3 (by decide) (by decide) (by decide)
      have q3 : (td len pd 5 (true, s + 1)).2 ≤ s + 1 + 1 := tk_2 _ _
      obtain ⟨F6, e6, h6, f6⟩ := sg_213 (d := d) (X := X) (cl := cl) (sl := sl) (L := L) (v1 := .int (nI 0)) (v2 := .int (nI 1)) (v3 := .int (nI 0)) p k4 (by omega)
      refine ⟨F6, fun P => ?_, h6, Fp_tr f0 (Fp_tr (Fp_2 f1) (Fp_tr (Fp_2 f3) (Fp_tr (Fp_f (by decide) (by decide)) (Fp_2 f6)))), fun ok => ?_⟩
      · have e3' : ∀ Q, am_Ca X (d + 1 + 2) 7074 [.ref 70, .int (nI 5)] (am_Z cl sl F1 A L) Q = Q (.inl (some (.int (nI (hr len pd (s + 1)) - nI 48)))) (am_Z cl sl F3 A L) := e3
        generalize nI (hr len pd (s + 1)) - nI 48 = u at e3' e6
        refine Eq.trans ?_ (e6 P)
        rw [c7076]
        rcases c2 with c2 | c2
        · rw [c2] at eh
          rw [c2] at e1
          simp (disch := omega) only [eh, m_inT, m_inF, e1, e3', u7076_0, u7076_1, u7076_2, u7076_5, u7076_8, u7076_9, u7076_12, u7076_14, u7076_16, u7076_19, u7076_20, u7076_21, u7076_24, u7076_26, u7076_29, u7076_30, u7076_33, u7076_35, u7076_38, u7076_39, u7076_42, u7076_43, u7076_44, u7076_45, u7076_48, u7076_50, u7076_53, u7076_54, u7076_57, u7076_59, u7076_62, u7076_63, u7076_66, u7076_67, u7076_68, u7076_69, u7076_70, u7076_73, u7076_74, u7076_77, u7076_78, u7076_81, u7076_82, u7076_85, u7076_87, u7076_90, u7076_91, u7076_94, u7076_96, u7076_99, u7076_100, u7076_103, u7076_105, u7076_108, u7076_109, u7076_112, u7076_113, u7076_116, u7076_117, u7076_120, u7076_121, u7076_122, u7076_125, u7076_127, u7076_128, u7076_132, u7076_133, u7076_136, u7076_138, u7076_141, u7076_142, u7076_145, u7076_146, u7076_149, u7076_150, u7076_151, u7076_152, u7076_155, u7076_159, u7076_160, u7076_163, u7076_165, u7076_168, u7076_169, u7076_172, u7076_173, u7076_176, u7076_177, u7076_178, u7076_180, u7076_183, u7076_186, u7076_187, u7076_190, u7076_191, u7076_192, u7076_193, u7076_196, u7076_199, u7076_200, u7076_203, u7076_204, u7076_205, u7076_207, u7076_210, u7076_214, u7076_215, u7076_218, u7076_220, u7076_223, u7076_224, u7076_227, u7076_228, u7076_231, ob_70, pt_70_12, gt_70_12, pt_70_13, pt_70_14, pt_70_15, ki_0, ki_1, ki_109, ki_112, ki_114, ki_115, ki_46, ki_48, ki_5, ki_51, ki_59, ki_61, ki_97, ki_98, ki_99, af_x hd_7076, decide_eq_true_eq, if_true, if_false, f2_ne, f2_eq, up_ne, up_eq, kc_int, kc_ref, kc_retAddr, kc_long, kc_double, af_n, af_v, z0, z1, n_of, nz6, nz4, bI_T, bI_F, bI_01, n_lt, n_le, n_eq, n_add, n_mul, n_sub, n_clamp, n_vp, m_lt, m_le, m_eq, m_eq2, m_ltm, m_add, true_and, and_true, eq_self, if_pos, if_neg, List.length_nil, List.length_cons, Nat.reduceAdd, Nat.reduceLeDiff, Nat.zero_le, not_true_eq_false, not_false_eq_true, true_or, or_true]
        · rw [c2] at eh
          rw [c2] at e1
          simp (disch := omega) only [eh, m_inT, m_inF, e1, e3', u7076_0, u7076_1, u7076_2, u7076_5, u7076_8, u7076_9, u7076_12, u7076_14, u7076_16, u7076_19, u7076_20, u7076_21, u7076_24, u7076_26, u7076_29, u7076_30, u7076_33, u7076_35, u7076_38, u7076_39, u7076_42, u7076_43, u7076_44, u7076_45, u7076_48, u7076_50, u7076_53, u7076_54, u7076_57, u7076_59, u7076_62, u7076_63, u7076_66, u7076_67, u7076_68, u7076_69, u7076_70, u7076_73, u7076_74, u7076_77, u7076_78, u7076_81, u7076_82, u7076_85, u7076_87, u7076_90, u7076_91, u7076_94, u7076_96, u7076_99, u7076_100, u7076_103, u7076_105, u7076_108, u7076_109, u7076_112, u7076_113, u7076_116, u7076_117, u7076_120, u7076_121, u7076_122, u7076_125, u7076_127, u7076_128, u7076_132, u7076_133, u7076_136, u7076_138, u7076_141, u7076_142, u7076_145, u7076_146, u7076_149, u7076_150, u7076_151, u7076_152, u7076_155, u7076_159, u7076_160, u7076_163, u7076_165, u7076_168, u7076_169, u7076_172, u7076_173, u7076_176, u7076_177, u7076_178, u7076_180, u7076_183, u7076_186, u7076_187, u7076_190, u7076_191, u7076_192, u7076_193, u7076_196, u7076_199, u7076_200, u7076_203, u7076_204, u7076_205, u7076_207, u7076_210, u7076_214, u7076_215, u7076_218, u7076_220, u7076_223, u7076_224, u7076_227, u7076_228, u7076_231, ob_70, pt_70_12, gt_70_12, pt_70_13, pt_70_14, pt_70_15, ki_0, ki_1, ki_109, ki_112, ki_114, ki_115, ki_46, ki_48, ki_5, ki_51, ki_59, ki_61, ki_97, ki_98, ki_99, af_x hd_7076, decide_eq_true_eq, if_true, if_false, f2_ne, f2_eq, up_ne, up_eq, kc_int, kc_ref, kc_retAddr, kc_long, kc_double, af_n, af_v, z0, z1, n_of, nz6, nz4, bI_T, bI_F, bI_01, n_lt, n_le, n_eq, n_add, n_mul, n_sub, n_clamp, n_vp, m_lt, m_le, m_eq, m_eq2, m_ltm, m_add, true_and, and_true, eq_self, if_pos, if_neg, List.length_nil, List.length_cons, Nat.reduceAdd, Nat.reduceLeDiff, Nat.zero_le, not_true_eq_false, not_false_eq_true, true_or, or_true]
      · obtain ⟨a1, -, -⟩ := tk_t ok
        obtain ⟨-, b5, -⟩ := tk_t a1
        have z4 : 48 ≤ hr len pd (s + 1) ∧ hr len pd (s + 1) ≤ 48 + 5 := by simpa using b5
        refine ⟨?_, fun w => absurd w c1, fun w => ?_, fun w => ?_⟩
        · rw [f6.2 _ (by decide) (by decide), f2_eq, up_ne (by decide), f3.2 _ (by decide) (by decide), e12]
        · rw [f6.2 _ (by decide) (by decide), f2_eq, up_eq, n_sub z4.1]
        · omega
    · rw [if_neg c2]
      by_cases c3 : hr len pd s = 112 ∨ hr len pd s = 114
      · rw [if_pos c3]
        obtain ⟨F3, v, e3, h3, f3, hv⟩ := m_takesNumber (d := d) (X := X) (cl := cl) (sl := sl) (L := L) p (show 59 ≤ 99 by decide) h1' (show s + 1 < 900 by omega)
        have k4 : pmF (am_f2 F3 70 13 v) len _ := pm_f2 h3 (by decide) (by decide) (by decide)
        have q3 := tn_2 (len := len) (pd := pd) 59 (true, s + 1)
        have q3' : (tn len pd 59 (true, s + 1)).2 ≤ s + 1 + 2 := q3
        obtain ⟨F6, e6, h6, f6⟩ := sg_213 (d := d) (X := X) (cl := cl) (sl := sl) (L := L) (v1 := .int (nI 0)) (v2 := .int (nI 0)) (v3 := .int (nI 1)) p k4 (by omega)
        refine ⟨F6, fun P => ?_, h6, Fp_tr f0 (Fp_tr (Fp_2 f1) (Fp_tr (Fp_2 f3) (Fp_tr (Fp_f (by decide) (by decide)) (Fp_2 f6)))), fun ok => ?_⟩
        · refine Eq.trans ?_ (e6 P)
          rw [c7076]
          rcases c3 with c3 | c3
          · rw [c3] at eh e1
            simp (disch := omega) only [eh, m_inT, m_inF, e1, e3, u7076_0, u7076_1, u7076_2, u7076_5, u7076_8, u7076_9, u7076_12, u7076_14, u7076_16, u7076_19, u7076_20, u7076_21, u7076_24, u7076_26, u7076_29, u7076_30, u7076_33, u7076_35, u7076_38, u7076_39, u7076_42, u7076_43, u7076_44, u7076_45, u7076_48, u7076_50, u7076_53, u7076_54, u7076_57, u7076_59, u7076_62, u7076_63, u7076_66, u7076_67, u7076_68, u7076_69, u7076_70, u7076_73, u7076_74, u7076_77, u7076_78, u7076_81, u7076_82, u7076_85, u7076_87, u7076_90, u7076_91, u7076_94, u7076_96, u7076_99, u7076_100, u7076_103, u7076_105, u7076_108, u7076_109, u7076_112, u7076_113, u7076_116, u7076_117, u7076_120, u7076_121, u7076_122, u7076_125, u7076_127, u7076_128, u7076_132, u7076_133, u7076_136, u7076_138, u7076_141, u7076_142, u7076_145, u7076_146, u7076_149, u7076_150, u7076_151, u7076_152, u7076_155, u7076_159, u7076_160, u7076_163, u7076_165, u7076_168, u7076_169, u7076_172, u7076_173, u7076_176, u7076_177, u7076_178, u7076_180, u7076_183, u7076_186, u7076_187, u7076_190, u7076_191, u7076_192, u7076_193, u7076_196, u7076_199, u7076_200, u7076_203, u7076_204, u7076_205, u7076_207, u7076_210, u7076_214, u7076_215, u7076_218, u7076_220, u7076_223, u7076_224, u7076_227, u7076_228, u7076_231, ob_70, pt_70_12, gt_70_12, pt_70_13, pt_70_14, pt_70_15, ki_0, ki_1, ki_109, ki_112, ki_114, ki_115, ki_46, ki_48, ki_5, ki_51, ki_59, ki_61, ki_97, ki_98, ki_99, af_x hd_7076, decide_eq_true_eq, if_true, if_false, f2_ne, f2_eq, up_ne, up_eq, kc_int, kc_ref, kc_retAddr, kc_long, kc_double, af_n, af_v, z0, z1, n_of, nz6, nz4, bI_T, bI_F, bI_01, n_lt, n_le, n_eq, n_add, n_mul, n_sub, n_clamp, n_vp, m_lt, m_le, m_eq, m_eq2, m_ltm, m_add, true_and, and_true, eq_self, if_pos, if_neg, List.length_nil, List.length_cons, Nat.reduceAdd, Nat.reduceLeDiff, Nat.zero_le, not_true_eq_false, not_false_eq_true, true_or, or_true]
          · rw [c3] at eh e1
            simp (disch := omega) only [eh, m_inT, m_inF, e1, e3, u7076_0, u7076_1, u7076_2, u7076_5, u7076_8, u7076_9, u7076_12, u7076_14, u7076_16, u7076_19, u7076_20, u7076_21, u7076_24, u7076_26, u7076_29, u7076_30, u7076_33, u7076_35, u7076_38, u7076_39, u7076_42, u7076_43, u7076_44, u7076_45, u7076_48, u7076_50, u7076_53, u7076_54, u7076_57, u7076_59, u7076_62, u7076_63, u7076_66, u7076_67, u7076_68, u7076_69, u7076_70, u7076_73, u7076_74, u7076_77, u7076_78, u7076_81, u7076_82, u7076_85, u7076_87, u7076_90, u7076_91, u7076_94, u7076_96, u7076_99, u7076_100, u7076_103, u7076_105, u7076_108, u7076_109, u7076_112, u7076_113, u7076_116, u7076_117, u7076_120, u7076_121, u7076_122, u7076_125, u7076_127, u7076_128, u7076_132, u7076_133, u7076_136, u7076_138, u7076_141, u7076_142, u7076_145, u7076_146, u7076_149, u7076_150, u7076_151, u7076_152, u7076_155, u7076_159, u7076_160, u7076_163, u7076_165, u7076_168, u7076_169, u7076_172, u7076_173, u7076_176, u7076_177, u7076_178, u7076_180, u7076_183, u7076_186, u7076_187, u7076_190, u7076_191, u7076_192, u7076_193, u7076_196, u7076_199, u7076_200, u7076_203, u7076_204, u7076_205, u7076_207, u7076_210, u7076_214, u7076_215, u7076_218, u7076_220, u7076_223, u7076_224, u7076_227, u7076_228, u7076_231, ob_70, pt_70_12, gt_70_12, pt_70_13, pt_70_14, pt_70_15, ki_0, ki_1, ki_109, ki_112, ki_114, ki_115, ki_46, ki_48, ki_5, ki_51, ki_59, ki_61, ki_97, ki_98, ki_99, af_x hd_7076, decide_eq_true_eq, if_true, if_false, f2_ne, f2_eq, up_ne, up_eq, kc_int, kc_ref, kc_retAddr, kc_long, kc_double, af_n, af_v, z0, z1, n_of, nz6, nz4, bI_T, bI_F, bI_01, n_lt, n_le, n_eq, n_add, n_mul, n_sub, n_clamp, n_vp, m_lt, m_le, m_eq, m_eq2, m_ltm, m_add, true_and, and_true, eq_self, if_pos, if_neg, List.length_nil, List.length_cons, Nat.reduceAdd, Nat.reduceLeDiff, Nat.zero_le, not_true_eq_false, not_false_eq_true, true_or, or_true]
        · obtain ⟨a1, -, -⟩ := tk_t ok
          have a2 := hv a1
          refine ⟨?_, fun w => absurd w c1, fun w => absurd w c2, fun w => ?_⟩
          · rw [f6.2 _ (by decide) (by decide), f2_eq, up_ne (by decide), f3.2 _ (by decide) (by decide), e12]
          · rw [f6.2 _ (by decide) (by decide), f2_eq, up_eq, a2]
      · rw [if_neg c3]
        by_cases c4 : hr len pd s = 99 ∨ hr len pd s = 98 ∨ hr len pd s = 97
        · rw [if_pos c4]
          obtain ⟨F6, e6, h6, f6⟩ := sg_213 (d := d) (X := X) (cl := cl) (sl := sl) (L := L) (v1 := .int (nI 0)) (v2 := .int (nI 0)) (v3 := .int (nI 0)) p h1' (show s + 1 < 1000 by omega)
          refine ⟨F6, fun P => ?_, h6, Fp_tr f0 (Fp_tr (Fp_2 f1) (Fp_2 f6)), fun ok => ⟨?_, fun w => absurd w c1, fun w => absurd w c2, fun w => absurd w c3⟩⟩
          · refine Eq.trans ?_ (e6 P)
            rw [c7076]
            rcases c4 with c4 | c4 | c4
            · rw [c4] at eh e1
              simp (disch := omega) only [eh, m_inT, m_inF, e1, u7076_0, u7076_1, u7076_2, u7076_5, u7076_8, u7076_9, u7076_12, u7076_14, u7076_16, u7076_19, u7076_20, u7076_21, u7076_24, u7076_26, u7076_29, u7076_30, u7076_33, u7076_35, u7076_38, u7076_39, u7076_42, u7076_43, u7076_44, u7076_45, u7076_48, u7076_50, u7076_53, u7076_54, u7076_57, u7076_59, u7076_62, u7076_63, u7076_66, u7076_67, u7076_68, u7076_69, u7076_70, u7076_73, u7076_74, u7076_77, u7076_78, u7076_81, u7076_82, u7076_85, u7076_87, u7076_90, u7076_91, u7076_94, u7076_96, u7076_99, u7076_100, u7076_103, u7076_105, u7076_108, u7076_109, u7076_112, u7076_113, u7076_116, u7076_117, u7076_120, u7076_121, u7076_122, u7076_125, u7076_127, u7076_128, u7076_132, u7076_133, u7076_136, u7076_138, u7076_141, u7076_142, u7076_145, u7076_146, u7076_149, u7076_150, u7076_151, u7076_152, u7076_155, u7076_159, u7076_160, u7076_163, u7076_165, u7076_168, u7076_169, u7076_172, u7076_173, u7076_176, u7076_177, u7076_178, u7076_180, u7076_183, u7076_186, u7076_187, u7076_190, u7076_191, u7076_192, u7076_193, u7076_196, u7076_199, u7076_200, u7076_203, u7076_204, u7076_205, u7076_207, u7076_210, u7076_214, u7076_215, u7076_218, u7076_220, u7076_223, u7076_224, u7076_227, u7076_228, u7076_231, ob_70, pt_70_12, gt_70_12, pt_70_13, pt_70_14, pt_70_15, ki_0, ki_1, ki_109, ki_112, ki_114, ki_115, ki_46, ki_48, ki_5, ki_51, ki_59, ki_61, ki_97, ki_98, ki_99, af_x hd_7076, decide_eq_true_eq, if_true, if_false, f2_ne, f2_eq, up_ne, up_eq, kc_int, kc_ref, kc_retAddr, kc_long, kc_double, af_n, af_v, z0, z1, n_of, nz6, nz4, bI_T, bI_F, bI_01, n_lt, n_le, n_eq, n_add, n_mul, n_sub, n_clamp, n_vp, m_lt, m_le, m_eq, m_eq2, m_ltm, m_add, true_and, and_true, eq_self, if_pos, if_neg, List.length_nil, List.length_cons, Nat.reduceAdd, Nat.reduceLeDiff, Nat.zero_le, not_true_eq_false, not_false_eq_true, true_or, or_true]
            · rw [c4] at eh e1
              simp (disch := omega) only [eh, m_inT, m_inF, e1, u7076_0, u7076_1, u7076_2, u7076_5, u7076_8, u7076_9, u7076_12, u7076_14, u7076_16, u7076_19, u7076_20, u7076_21, u7076_24, u7076_26, u7076_29, u7076_30, u7076_33, u7076_35, u7076_38, u7076_39, u7076_42, u7076_43, u7076_44, u7076_45, u7076_48, u7076_50, u7076_53, u7076_54, u7076_57, u7076_59, u7076_62, u7076_63, u7076_66, u7076_67, u7076_68, u7076_69, u7076_70, u7076_73, u7076_74, u7076_77, u7076_78, u7076_81, u7076_82, u7076_85, u7076_87, u7076_90, u7076_91, u7076_94, u7076_96, u7076_99, u7076_100, u7076_103, u7076_105, u7076_108, u7076_109, u7076_112, u7076_113, u7076_116, u7076_117, u7076_120, u7076_121, u7076_122, u7076_125, u7076_127, u7076_128, u7076_132, u7076_133, u7076_136, u7076_138, u7076_141, u7076_142, u7076_145, u7076_146, u7076_149, u7076_150, u7076_151, u7076_152, u7076_155, u7076_159, u7076_160, u7076_163, u7076_165, u7076_168, u7076_169, u7076_172, u7076_173, u7076_176, u7076_177, u7076_178, u7076_180, u7076_183, u7076_186, u7076_187, u7076_190, u7076_191, u7076_192, u7076_193, u7076_196, u7076_199, u7076_200, u7076_203, u7076_204, u7076_205, u7076_207, u7076_210, u7076_214, u7076_215, u7076_218, u7076_220, u7076_223, u7076_224, u7076_227, u7076_228, u7076_231, ob_70, pt_70_12, gt_70_12, pt_70_13, pt_70_14, pt_70_15, ki_0, ki_1, ki_109, ki_112, ki_114, ki_115, ki_46, ki_48, ki_5, ki_51, ki_59, ki_61, ki_97, ki_98, ki_99, af_x hd_7076, decide_eq_true_eq, if_true, if_false, f2_ne, f2_eq, up_ne, up_eq, kc_int, kc_ref, kc_retAddr, kc_long, kc_double, af_n, af_v, z0, z1, n_of, nz6, nz4, bI_T, bI_F, bI_01, n_lt, n_le, n_eq, n_add, n_mul, n_sub, n_clamp, n_vp, m_lt, m_le, m_eq, m_eq2, m_ltm, m_add, true_and, and_true, eq_self, if_pos, if_neg, List.length_nil, List.length_cons, Nat.reduceAdd, Nat.reduceLeDiff, Nat.zero_le, not_true_eq_false, not_false_eq_true, true_or, or_true]
            · rw [c4] at eh e1
              simp (disch := omega) only [eh, m_inT, m_inF, e1, u7076_0, u7076_1, u7076_2, u7076_5, u7076_8, u7076_9, u7076_12, u7076_14, u7076_16, u7076_19, u7076_20, u7076_21, u7076_24, u7076_26, u7076_29, u7076_30, u7076_33, u7076_35, u7076_38, u7076_39, u7076_42, u7076_43, u7076_44, u7076_45, u7076_48, u7076_50, u7076_53, u7076_54, u7076_57, u7076_59, u7076_62, u7076_63, u7076_66, u7076_67, u7076_68, u7076_69, u7076_70, u7076_73, u7076_74, u7076_77, u7076_78, u7076_81, u7076_82, u7076_85, u7076_87, u7076_90, u7076_91, u7076_94, u7076_96, u7076_99, u7076_100, u7076_103, u7076_105, u7076_108, u7076_109, u7076_112, u7076_113, u7076_116, u7076_117, u7076_120, u7076_121, u7076_122, u7076_125, u7076_127, u7076_128, u7076_132, u7076_133, u7076_136, u7076_138, u7076_141, u7076_142, u7076_145, u7076_146, u7076_149, u7076_150, u7076_151, u7076_152, u7076_155, u7076_159, u7076_160, u7076_163, u7076_165, u7076_168, u7076_169, u7076_172, u7076_173, u7076_176, u7076_177, u7076_178, u7076_180, u7076_183, u7076_186, u7076_187, u7076_190, u7076_191, u7076_192, u7076_193, u7076_196, u7076_199, u7076_200, u7076_203, u7076_204, u7076_205, u7076_207, u7076_210, u7076_214, u7076_215, u7076_218, u7076_220, u7076_223, u7076_224, u7076_227, u7076_228, u7076_231, ob_70, pt_70_12, gt_70_12, pt_70_13, pt_70_14, pt_70_15, ki_0, ki_1, ki_109, ki_112, ki_114, ki_115, ki_46, ki_48, ki_5, ki_51, ki_59, ki_61, ki_97, ki_98, ki_99, af_x hd_7076, decide_eq_true_eq, if_true, if_false, f2_ne, f2_eq, up_ne, up_eq, kc_int, kc_ref, kc_retAddr, kc_long, kc_double, af_n, af_v, z0, z1, n_of, nz6, nz4, bI_T, bI_F, bI_01, n_lt, n_le, n_eq, n_add, n_mul, n_sub, n_clamp, n_vp, m_lt, m_le, m_eq, m_eq2, m_ltm, m_add, true_and, and_true, eq_self, if_pos, if_neg, List.length_nil, List.length_cons, Nat.reduceAdd, Nat.reduceLeDiff, Nat.zero_le, not_true_eq_false, not_false_eq_true, true_or, or_true]
          · rw [f6.2 _ (by decide) (by decide), e12]
        · rw [if_neg c4]
          obtain ⟨F2, e2, h2, f2⟩ := m_takes (d := d + 2) (X := X) (cl := cl) (sl := sl) (A := A) (L := L) (c := false) h0
          rw [bI_f (by decide)] at e2
          have h2' : pmF F2 len (false, s) := h2
          obtain ⟨F6, e6, h6, f6⟩ := sg_213 (d := d) (X := X) (cl := cl) (sl := sl) (L := L) (v1 := .int (nI 0)) (v2 := .int (nI 0)) (v3 := .int (nI 0)) p h2' (show s < 1000 by omega)
          have h6' : pmF F6 len (false, s) := h6
          refine ⟨F6, fun P => ?_, h6', Fp_tr f0 (Fp_tr (Fp_2 f2) (Fp_2 f6)), fun ok => absurd (show false = true from ok) (by decide)⟩
          refine Eq.trans ?_ (e6 P)
          have d1 : ¬ hr len pd s = 115 := fun z => c2 (Or.inl z)
          have d2 : ¬ hr len pd s = 109 := fun z => c2 (Or.inr z)
          have d3 : ¬ hr len pd s = 112 := fun z => c3 (Or.inl z)
          have d4 : ¬ hr len pd s = 114 := fun z => c3 (Or.inr z)
          have d5 : ¬ hr len pd s = 99 := fun z => c4 (Or.inl z)
          have d6 : ¬ hr len pd s = 98 := fun z => c4 (Or.inr (Or.inl z))
          have d7 : ¬ hr len pd s = 97 := fun z => c4 (Or.inr (Or.inr z))
          rw [c7076]
          simp (disch := omega) only [eh, m_inT, m_inF, e2, d1, d2, d3, d4, d5, d6, d7, u7076_0, u7076_1, u7076_2, u7076_5, u7076_8, u7076_9, u7076_12, u7076_14, u7076_16, u7076_19, u7076_20, u7076_21, u7076_24, u7076_26, u7076_29, u7076_30, u7076_33, u7076_35, u7076_38, u7076_39, u7076_42, u7076_43, u7076_44, u7076_45, u7076_48, u7076_50, u7076_53, u7076_54, u7076_57, u7076_59, u7076_62, u7076_63, u7076_66, u7076_67, u7076_68, u7076_69, u7076_70, u7076_73, u7076_74, u7076_77, u7076_78, u7076_81, u7076_82, u7076_85, u7076_87, u7076_90, u7076_91, u7076_94, u7076_96, u7076_99, u7076_100, u7076_103, u7076_105, u7076_108, u7076_109, u7076_112, u7076_113, u7076_116, u7076_117, u7076_120, u7076_121, u7076_122, u7076_125, u7076_127, u7076_128, u7076_132, u7076_133, u7076_136, u7076_138, u7076_141, u7076_142, u7076_145, u7076_146, u7076_149, u7076_150, u7076_151, u7076_152, u7076_155, u7076_159, u7076_160, u7076_163, u7076_165, u7076_168, u7076_169, u7076_172, u7076_173, u7076_176, u7076_177, u7076_178, u7076_180, u7076_183, u7076_186, u7076_187, u7076_190, u7076_191, u7076_192, u7076_193, u7076_196, u7076_199, u7076_200, u7076_203, u7076_204, u7076_205, u7076_207, u7076_210, u7076_214, u7076_215, u7076_218, u7076_220, u7076_223, u7076_224, u7076_227, u7076_228, u7076_231, ob_70, pt_70_12, gt_70_12, pt_70_13, pt_70_14, pt_70_15, ki_0, ki_1, ki_109, ki_112, ki_114, ki_115, ki_46, ki_48, ki_5, ki_51, ki_59, ki_61, ki_97, ki_98, ki_99, af_x hd_7076, decide_eq_true_eq, if_true, if_false, f2_ne, f2_eq, up_ne, up_eq, kc_int, kc_ref, kc_retAddr, kc_long, kc_double, af_n, af_v, z0, z1, n_of, nz6, nz4, bI_T, bI_F, bI_01, n_lt, n_le, n_eq, n_add, n_mul, n_sub, n_clamp, n_vp, m_lt, m_le, m_eq, m_eq2, m_ltm, m_add, true_and, and_true, eq_self, if_pos, if_neg, List.length_nil, List.length_cons, Nat.reduceAdd, Nat.reduceLeDiff, Nat.zero_le, not_true_eq_false, not_false_eq_true, true_or, or_true]
end MP
