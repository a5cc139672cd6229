/-! THE FACE (object 0): what its calls have in common -/
theorem in_r {x : Int32} {k : Nat} (hk : k < 2147483648) (h0 : ¬ x < nI 0) (h1 : ¬ nI k ≤ x) : ∃ n, n < k ∧ x = nI n := by
  have e0 : ¬ x.toInt < 0 := by
    intro h
    apply h0
    rw [Int32.lt_iff_toInt_lt, nI_toInt (by omega)]
    exact h
  have e1 : ¬ (k : Int) ≤ x.toInt := by
    intro h
    apply h1
    rw [Int32.le_iff_toInt_le, nI_toInt hk]
    exact h
  refine ⟨x.toInt.toNat, by omega, ?_⟩
  rw [← Int32.toInt_inj, nI_toInt (by omega)]
  omega
/-- the whole state of the class: now, m records, the snapshot, the pad -/
def Fu : Type := Ab × Nat × (Nat → Ab) × Nat × Ab × Nat × (Nat → Nat)
def Fu.S (G : Fu) : Ab := G.1
def Fu.m (G : Fu) : Nat := G.2.1
def Fu.rs (G : Fu) : Nat → Ab := G.2.2.1
def Fu.hs (G : Fu) : Nat := G.2.2.2.1
def Fu.sn (G : Fu) : Ab := G.2.2.2.2.1
def Fu.len (G : Fu) : Nat := G.2.2.2.2.2.1
def Fu.pd (G : Fu) : Nat → Nat := G.2.2.2.2.2.2
def mkG (S : Ab) (m : Nat) (rs : Nat → Ab) (hs : Nat) (sn : Ab) (len : Nat) (pd : Nat → Nat) : Fu := (S, m, rs, hs, sn, len, pd)
def setG (G : Fu) (S : Ab) : Fu := mkG S G.m G.rs G.hs G.sn G.len G.pd
def recG (G : Fu) : Fu := mkG G.S (recM G.m) (recR G.m G.rs G.S) G.hs G.sn G.len G.pd
def gF (F A : Nat → Nat → Int32) (G : Fu) : Prop := (cR F A 4 G.S) ∧ (wS G.S) ∧ (rR F A G.m G.rs) ∧ (pR F A G.len G.pd) ∧ (F 0 4 = nI G.hs) ∧ (G.hs < 2) ∧ (G.hs = 1 → cR F A 61 G.sn ∧ wS G.sn)
theorem gF.R {F A : Nat → Nat → Int32} {G : Fu} (h : gF F A G) : cR F A 4 G.S := h.1
theorem gF.w {F A : Nat → Nat → Int32} {G : Fu} (h : gF F A G) : wS G.S := h.2.1
theorem gF.r {F A : Nat → Nat → Int32} {G : Fu} (h : gF F A G) : rR F A G.m G.rs := h.2.2.1
theorem gF.p {F A : Nat → Nat → Int32} {G : Fu} (h : gF F A G) : pR F A G.len G.pd := h.2.2.2.1
theorem gF.h {F A : Nat → Nat → Int32} {G : Fu} (h : gF F A G) : F 0 4 = nI G.hs := h.2.2.2.2.1
theorem gF.h2 {F A : Nat → Nat → Int32} {G : Fu} (h : gF F A G) : G.hs < 2 := h.2.2.2.2.2.1
theorem gF.s {F A : Nat → Nat → Int32} {G : Fu} (h : gF F A G) : G.hs = 1 → cR F A 61 G.sn ∧ wS G.sn := h.2.2.2.2.2.2
theorem gF.mk {F A : Nat → Nat → Int32} {G : Fu} (R : cR F A 4 G.S) (w : wS G.S) (r : rR F A G.m G.rs) (p : pR F A G.len G.pd) (h : F 0 4 = nI G.hs) (h2 : G.hs < 2) (s : G.hs = 1 → cR F A 61 G.sn ∧ wS G.sn) : gF F A G := ⟨R, w, r, p, h, h2, s⟩
/-- what no call of the class touches -/
def Fm (F A F2 A2 : Nat → Nat → Int32) : Prop := (∀ o, 70 ≤ o → F2 o = F o) ∧ ∀ o, 70 ≤ o → A2 o = A o
theorem Fm_id {F A : Nat → Nat → Int32} : Fm F A F A := ⟨fun _ _ => rfl, fun _ _ => rfl⟩
theorem Fm_tr {F A F2 A2 F3 A3 : Nat → Nat → Int32} (h : Fm F A F2 A2) (g : Fm F2 A2 F3 A3) : Fm F A F3 A3 := ⟨fun o h1 => (g.1 o h1).trans (h.1 o h1), fun o h1 => (g.2 o h1).trans (h.2 o h1)⟩
theorem Fm_fr {F A F2 A2 : Nat → Nat → Int32} (h : Fr F A F2 A2) : Fm F A F2 A2 := ⟨fun o h1 => h.f o (by omega) (by omega), fun o h1 => h.a o (by omega) (by omega)⟩
theorem Fm_fq {F A F2 A2 : Nat → Nat → Int32} (h : Fq F A F2 A2) : Fm F A F2 A2 := ⟨fun o h1 => h.1 o (by omega), fun o h1 => h.2 o (by omega)⟩
theorem Fm_fb {F A F2 A2 : Nat → Nat → Int32} (h : Fb F A F2 A2) : Fm F A F2 A2 := ⟨fun o h1 => h.1 o (by omega) (by omega), fun o h1 => h.2 o (by omega)⟩
section CF
variable {F A F2 A2 : Nat → Nat → Int32} {G : Fu} {S : Ab}
theorem pR_cg {len : Nat} {pd : Nat → Nat} (h : pR F A len pd) (h1 : F2 1 = F 1) (h2 : A2 2 = A 2) : pR F2 A2 len pd := ⟨by rw [h1]; exact h.1, h.2.1, fun i hi => by rw [h2]; exact h.2.2 i hi⟩
/-- a change of now, and of nothing else -/
theorem gF_set (c : gF F A G) (R : cR F2 A2 4 S) (w : wS S) (f : Fr F A F2 A2) : gF F2 A2 (setG G S) := gF.mk R w (rR_fr c.r f) (pR_cg c.p (f.f 1 (by decide) (by decide)) (f.a 2 (by omega) (by omega))) (by rw [f.f 0 (by decide) (by decide)]; exact c.h) c.h2 (fun e => ⟨cR_fr (c.s e).1 f (by omega), (c.s e).2⟩)
theorem gF_fr (c : gF F A G) (R : cR F2 A2 4 G.S) (f : Fr F A F2 A2) : gF F2 A2 G := gF_set c R c.w f
end CF
section FC
variable {d cl sl : Nat} {X : am_X} {F A : Nat → Nat → Int32} {L : Nat → Nat → Int64} {P : am_Q} {G : Fu}
theorem f_record (c : gF F A G) (hcl : 70 < cl) : ∃ F2 A2, (∀ P, am_Ca X (d + 3) 6066 [.ref 0] (am_Z cl sl F A L) P = P (.inl none) (am_Z cl sl F2 A2 L)) ∧ gF F2 A2 (recG G) ∧ Fm F A F2 A2 := by
  obtain ⟨F2, A2, e, r2, q⟩ := s_add (d := d) (X := X) (cl := cl) (sl := sl) (L := L) c.R c.w c.r hcl
  refine ⟨F2, A2, fun P => ?_, gF.mk (cR_cg c.R (q.1 4 (by omega)) (fun k h1 h2 => q.2 _ (by omega))) c.w r2 (pR_cg c.p (q.1 1 (by omega)) (q.2 2 (by omega))) (by rw [q.1 0 (by omega)]; exact c.h) c.h2 (fun e => ⟨cR_cg (c.s e).1 (q.1 61 (by omega)) (fun k h1 h2 => q.2 _ (by omega)), (c.s e).2⟩), Fm_fq q⟩
  rw [c6066]
  simp (disch := omega) only [e, u6066_0, u6066_1, u6066_4, u6066_5, u6066_8, u6066_11, u6066_14, gt_0_2, gt_0_1, gt_3_0, ob_23, af_x hd_6066, decide_eq_true_eq, if_true, if_false, f2_ne, f2_eq, up_ne, up_eq, kc_int, kc_ref, kc_retAddr, kc_long, kc_double, af_n, af_v, z0, z1, n_of, nz6, nz4, bI_T, bI_F, bI_01, n_lt, n_le, n_eq, n_add, n_mul, n_sub, n_clamp, n_vp, m_lt, m_le, m_eq, m_eq2, m_ltm, m_add, true_and, and_true, eq_self, if_pos, if_neg, List.length_nil, List.length_cons, Nat.reduceAdd, Nat.reduceLeDiff, Nat.zero_le, not_true_eq_false, not_false_eq_true, true_or, or_true]
theorem f_placeOf {a b : Nat} : am_Ca X (d + 1) 6060 [.int (nI a), .int (nI b)] (am_Z cl sl F A L) P = P (.inl (some (.int (nI (a * 6 + b))))) (am_Z cl sl F A L) := by
  rw [c6060]
  simp (disch := omega) only [u6060_0, u6060_1, u6060_3, u6060_4, u6060_5, u6060_6, ki_6, af_x hd_6060, decide_eq_true_eq, if_true, if_false, f2_ne, f2_eq, up_ne, up_eq, kc_int, kc_ref, kc_retAddr, kc_long, kc_double, af_n, af_v, z0, z1, n_of, nz6, nz4, bI_T, bI_F, bI_01, n_lt, n_le, n_eq, n_add, n_mul, n_sub, n_clamp, n_vp, m_lt, m_le, m_eq, m_eq2, m_ltm, m_add, true_and, and_true, eq_self, if_pos, if_neg, List.length_nil, List.length_cons, Nat.reduceAdd, Nat.reduceLeDiff, Nat.zero_le, not_true_eq_false, not_false_eq_true, true_or, or_true]
theorem f_place {a b : Nat} (ha : a < 4) (hb : b < 6) : am_Ca X (d + 2) 6061 [.int (nI a), .int (nI b)] (am_Z cl sl F A L) P = P (.inl none) (am_Z cl sl F A L) := by
  have h1 : ∀ {Q : am_Q}, am_Ca X (d + 1) 6059 [.int (nI a), .int (nI b)] (am_Z cl sl F A L) Q = Q (.inl (some (.int (nI 1)))) (am_Z cl sl F A L) := by
    intro Q
    rw [c6059]
    simp (disch := omega) only [u6059_0, u6059_1, u6059_4, u6059_5, u6059_6, u6059_9, u6059_10, u6059_13, u6059_14, u6059_16, u6059_19, u6059_20, u6059_23, u6059_24, ki_0, ki_1, ki_4, ki_6, af_x hd_6059, decide_eq_true_eq, if_true, if_false, f2_ne, f2_eq, up_ne, up_eq, kc_int, kc_ref, kc_retAddr, kc_long, kc_double, af_n, af_v, z0, z1, n_of, nz6, nz4, bI_T, bI_F, bI_01, n_lt, n_le, n_eq, n_add, n_mul, n_sub, n_clamp, n_vp, m_lt, m_le, m_eq, m_eq2, m_ltm, m_add, true_and, and_true, eq_self, if_pos, if_neg, List.length_nil, List.length_cons, Nat.reduceAdd, Nat.reduceLeDiff, Nat.zero_le, not_true_eq_false, not_false_eq_true, true_or, or_true]
  rw [c6061]
  simp (disch := omega) only [h1, u6061_0, u6061_1, u6061_2, u6061_5, u6061_8, u6061_19, af_x hd_6061, decide_eq_true_eq, if_true, if_false, f2_ne, f2_eq, up_ne, up_eq, kc_int, kc_ref, kc_retAddr, kc_long, kc_double, af_n, af_v, z0, z1, n_of, nz6, nz4, bI_T, bI_F, bI_01, n_lt, n_le, n_eq, n_add, n_mul, n_sub, n_clamp, n_vp, m_lt, m_le, m_eq, m_eq2, m_ltm, m_add, true_and, and_true, eq_self, if_pos, if_neg, List.length_nil, List.length_cons, Nat.reduceAdd, Nat.reduceLeDiff, Nat.zero_le, not_true_eq_false, not_false_eq_true, true_or, or_true]
/-- no place -/
def noP (x y : Int32) : Prop := x < nI 0 ∨ nI 4 ≤ x ∨ y < nI 0 ∨ nI 6 ≤ y
theorem isP {x y : Int32} (h : ¬ noP x y) : ∃ a b, a < 4 ∧ b < 6 ∧ x = nI a ∧ y = nI b := by
  obtain ⟨a, h1, h2⟩ := in_r (x := x) (k := 4) (by decide) (fun z => h (Or.inl z)) (fun z => h (Or.inr (Or.inl z)))
  obtain ⟨b, h3, h4⟩ := in_r (x := y) (k := 6) (by decide) (fun z => h (Or.inr (Or.inr (Or.inl z)))) (fun z => h (Or.inr (Or.inr (Or.inr z))))
  exact ⟨a, b, h1, h3, h2, h4⟩
theorem f_noPlace {x y : Int32} (h : noP x y) (hcl : 70 < cl) : am_Ca X (d + 7) 6061 [.int x, .int y] (am_Z cl sl F A L) P = P (.inr 0) (am_Z (cl + 1) (sl + 6) F A L) := by
  have hcl' : (70 ≤ cl) = True := eq_true (by omega)
  have h1 : ∀ {Q : am_Q}, am_Ca X (d + 6) 6059 [.int x, .int y] (am_Z cl sl F A L) Q = Q (.inl (some (.int (nI 0)))) (am_Z cl sl F A L) := by
    intro Q
    rw [c6059]
    by_cases e1 : x < nI 0
    · simp (disch := omega) only [e1, u6059_0, u6059_1, u6059_4, u6059_5, u6059_6, u6059_9, u6059_10, u6059_13, u6059_14, u6059_16, u6059_19, u6059_20, u6059_23, u6059_24, ki_0, ki_1, ki_4, ki_6, af_x hd_6059, decide_eq_true_eq, if_true, if_false, f2_ne, f2_eq, up_ne, up_eq, kc_int, kc_ref, kc_retAddr, kc_long, kc_double, af_n, af_v, z0, z1, n_of, nz6, nz4, bI_T, bI_F, bI_01, n_lt, n_le, n_eq, n_add, n_mul, n_sub, n_clamp, n_vp, m_lt, m_le, m_eq, m_eq2, m_ltm, m_add, true_and, and_true, eq_self, if_pos, if_neg, List.length_nil, List.length_cons, Nat.reduceAdd, Nat.reduceLeDiff, Nat.zero_le, not_true_eq_false, not_false_eq_true, true_or, or_true]
    · by_cases e2 : nI 4 ≤ x
      · simp (disch := omega) only [e1, e2, u6059_0, u6059_1, u6059_4, u6059_5, u6059_6, u6059_9, u6059_10, u6059_13, u6059_14, u6059_16, u6059_19, u6059_20, u6059_23, u6059_24, ki_0, ki_1, ki_4, ki_6, af_x hd_6059, decide_eq_true_eq, if_true, if_false, f2_ne, f2_eq, up_ne, up_eq, kc_int, kc_ref, kc_retAddr, kc_long, kc_double, af_n, af_v, z0, z1, n_of, nz6, nz4, bI_T, bI_F, bI_01, n_lt, n_le, n_eq, n_add, n_mul, n_sub, n_clamp, n_vp, m_lt, m_le, m_eq, m_eq2, m_ltm, m_add, true_and, and_true, eq_self, if_pos, if_neg, List.length_nil, List.length_cons, Nat.reduceAdd, Nat.reduceLeDiff, Nat.zero_le, not_true_eq_false, not_false_eq_true, true_or, or_true]
      · by_cases e3 : y < nI 0
        · simp (disch := omega) only [e1, e2, e3, u6059_0, u6059_1, u6059_4, u6059_5, u6059_6, u6059_9, u6059_10, u6059_13, u6059_14, u6059_16, u6059_19, u6059_20, u6059_23, u6059_24, ki_0, ki_1, ki_4, ki_6, af_x hd_6059, decide_eq_true_eq, if_true, if_false, f2_ne, f2_eq, up_ne, up_eq, kc_int, kc_ref, kc_retAddr, kc_long, kc_double, af_n, af_v, z0, z1, n_of, nz6, nz4, bI_T, bI_F, bI_01, n_lt, n_le, n_eq, n_add, n_mul, n_sub, n_clamp, n_vp, m_lt, m_le, m_eq, m_eq2, m_ltm, m_add, true_and, and_true, eq_self, if_pos, if_neg, List.length_nil, List.length_cons, Nat.reduceAdd, Nat.reduceLeDiff, Nat.zero_le, not_true_eq_false, not_false_eq_true, true_or, or_true]
        · have e4 : nI 6 ≤ y := ((h.resolve_left e1).resolve_left e2).resolve_left e3
          simp (disch := omega) only [e1, e2, e3, e4, u6059_0, u6059_1, u6059_4, u6059_5, u6059_6, u6059_9, u6059_10, u6059_13, u6059_14, u6059_16, u6059_19, u6059_20, u6059_23, u6059_24, ki_0, ki_1, ki_4, ki_6, af_x hd_6059, decide_eq_true_eq, if_true, if_false, f2_ne, f2_eq, up_ne, up_eq, kc_int, kc_ref, kc_retAddr, kc_long, kc_double, af_n, af_v, z0, z1, n_of, nz6, nz4, bI_T, bI_F, bI_01, n_lt, n_le, n_eq, n_add, n_mul, n_sub, n_clamp, n_vp, m_lt, m_le, m_eq, m_eq2, m_ltm, m_add, true_and, and_true, eq_self, if_pos, if_neg, List.length_nil, List.length_cons, Nat.reduceAdd, Nat.reduceLeDiff, Nat.zero_le, not_true_eq_false, not_false_eq_true, true_or, or_true]
  rw [c6061]
  simp (disch := omega) only [h1, hcl', u6061_0, u6061_1, u6061_2, u6061_5, u6061_8, u6061_19, af_x hd_6061, decide_eq_true_eq, if_true, if_false, f2_ne, f2_eq, up_ne, up_eq, kc_int, kc_ref, kc_retAddr, kc_long, kc_double, af_n, af_v, z0, z1, n_of, nz6, nz4, bI_T, bI_F, bI_01, n_lt, n_le, n_eq, n_add, n_mul, n_sub, n_clamp, n_vp, m_lt, m_le, m_eq, m_eq2, m_ltm, m_add, true_and, and_true, eq_self, if_pos, if_neg, List.length_nil, List.length_cons, Nat.reduceAdd, Nat.reduceLeDiff, Nat.zero_le, not_true_eq_false, not_false_eq_true, true_or, or_true]
def noB (x : Int32) : Prop := x < nI 0 ∨ nI 6 ≤ x
theorem isB {x : Int32} (h : ¬ noB x) : ∃ b, b < 6 ∧ x = nI b := in_r (by decide) (fun z => h (Or.inl z)) (fun z => h (Or.inr z))
theorem f_branchNo {b : Nat} (hb : b < 6) : am_Ca X (d + 1) 6062 [.int (nI b)] (am_Z cl sl F A L) P = P (.inl none) (am_Z cl sl F A L) := by
  rw [c6062]
  simp (disch := omega) only [u6062_0, u6062_1, u6062_4, u6062_5, u6062_7, u6062_10, u6062_21, ki_6, af_x hd_6062, decide_eq_true_eq, if_true, if_false, f2_ne, f2_eq, up_ne, up_eq, kc_int, kc_ref, kc_retAddr, kc_long, kc_double, af_n, af_v, z0, z1, n_of, nz6, nz4, bI_T, bI_F, bI_01, n_lt, n_le, n_eq, n_add, n_mul, n_sub, n_clamp, n_vp, m_lt, m_le, m_eq, m_eq2, m_ltm, m_add, true_and, and_true, eq_self, if_pos, if_neg, List.length_nil, List.length_cons, Nat.reduceAdd, Nat.reduceLeDiff, Nat.zero_le, not_true_eq_false, not_false_eq_true, true_or, or_true]
theorem f_noBranchNo {x : Int32} (h : noB x) (hcl : 70 < cl) : am_Ca X (d + 6) 6062 [.int x] (am_Z cl sl F A L) P = P (.inr 0) (am_Z (cl + 1) (sl + 6) F A L) := by
  have hcl' : (70 ≤ cl) = True := eq_true (by omega)
  rw [c6062]
  by_cases e1 : x < nI 0
  · simp (disch := omega) only [e1, hcl', u6062_0, u6062_1, u6062_4, u6062_5, u6062_7, u6062_10, u6062_21, ki_6, af_x hd_6062, decide_eq_true_eq, if_true, if_false, f2_ne, f2_eq, up_ne, up_eq, kc_int, kc_ref, kc_retAddr, kc_long, kc_double, af_n, af_v, z0, z1, n_of, nz6, nz4, bI_T, bI_F, bI_01, n_lt, n_le, n_eq, n_add, n_mul, n_sub, n_clamp, n_vp, m_lt, m_le, m_eq, m_eq2, m_ltm, m_add, true_and, and_true, eq_self, if_pos, if_neg, List.length_nil, List.length_cons, Nat.reduceAdd, Nat.reduceLeDiff, Nat.zero_le, not_true_eq_false, not_false_eq_true, true_or, or_true]
  · have e2 : nI 6 ≤ x := h.resolve_left e1
    have e3 : ¬ x < nI 6 := Int32.not_lt.mpr e2
    simp (disch := omega) only [e1, e3, hcl', u6062_0, u6062_1, u6062_4, u6062_5, u6062_7, u6062_10, u6062_21, ki_6, af_x hd_6062, decide_eq_true_eq, if_true, if_false, f2_ne, f2_eq, up_ne, up_eq, kc_int, kc_ref, kc_retAddr, kc_long, kc_double, af_n, af_v, z0, z1, n_of, nz6, nz4, bI_T, bI_F, bI_01, n_lt, n_le, n_eq, n_add, n_mul, n_sub, n_clamp, n_vp, m_lt, m_le, m_eq, m_eq2, m_ltm, m_add, true_and, and_true, eq_self, if_pos, if_neg, List.length_nil, List.length_cons, Nat.reduceAdd, Nat.reduceLeDiff, Nat.zero_le, not_true_eq_false, not_false_eq_true, true_or, or_true]
def noC (S : Ab) (x : Int32) : Prop := x < nI 0 ∨ nI S.n ≤ x
theorem isC {S : Ab} {x : Int32} (w : wS S) (h : ¬ noC S x) : ∃ c, c < S.n ∧ x = nI c := in_r (by have := w.n60; omega) (fun z => h (Or.inl z)) (fun z => h (Or.inr z))
theorem f_commit {k : Nat} (c : gF F A G) (hk : k < G.S.n) : am_Ca X (d + 2) 6064 [.ref 0, .int (nI k)] (am_Z cl sl F A L) P = P (.inl none) (am_Z cl sl F A L) := by
  rw [c6064]
  simp (disch := omega) only [s_hasCommit_t c.R.n0 c.w.n60 hk, u6064_0, u6064_1, u6064_4, u6064_7, u6064_8, u6064_11, u6064_14, u6064_25, gt_0_1, gt_3_0, ob_4, af_x hd_6064, decide_eq_true_eq, if_true, if_false, f2_ne, f2_eq, up_ne, up_eq, kc_int, kc_ref, kc_retAddr, kc_long, kc_double, af_n, af_v, z0, z1, n_of, nz6, nz4, bI_T, bI_F, bI_01, n_lt, n_le, n_eq, n_add, n_mul, n_sub, n_clamp, n_vp, m_lt, m_le, m_eq, m_eq2, m_ltm, m_add, true_and, and_true, eq_self, if_pos, if_neg, List.length_nil, List.length_cons, Nat.reduceAdd, Nat.reduceLeDiff, Nat.zero_le, not_true_eq_false, not_false_eq_true, true_or, or_true]
theorem f_noCommit {x : Int32} (c : gF F A G) (h : noC G.S x) (hcl : 70 < cl) : am_Ca X (d + 6) 6064 [.ref 0, .int x] (am_Z cl sl F A L) P = P (.inr 0) (am_Z (cl + 1) (sl + 6) F A L) := by
  have hcl' : (70 ≤ cl) = True := eq_true (by omega)
  rw [c6064]
  simp (disch := omega) only [s_hasCommit_f c.R.n0 c.w.n60 h, hcl', u6064_0, u6064_1, u6064_4, u6064_7, u6064_8, u6064_11, u6064_14, u6064_25, gt_0_1, gt_3_0, ob_4, af_x hd_6064, decide_eq_true_eq, if_true, if_false, f2_ne, f2_eq, up_ne, up_eq, kc_int, kc_ref, kc_retAddr, kc_long, kc_double, af_n, af_v, z0, z1, n_of, nz6, nz4, bI_T, bI_F, bI_01, n_lt, n_le, n_eq, n_add, n_mul, n_sub, n_clamp, n_vp, m_lt, m_le, m_eq, m_eq2, m_ltm, m_add, true_and, and_true, eq_self, if_pos, if_neg, List.length_nil, List.length_cons, Nat.reduceAdd, Nat.reduceLeDiff, Nat.zero_le, not_true_eq_false, not_false_eq_true, true_or, or_true]
theorem f_branch {b : Nat} (c : gF F A G) (hb : b < 6) (h0 : ¬ G.S.br b = 0) : am_Ca X (d + 3) 6063 [.ref 0, .int (nI b)] (am_Z cl sl F A L) P = P (.inl none) (am_Z cl sl F A L) := by
  rw [c6063]
  simp (disch := omega) only [q_hasBranch c.R c.w hb, h0, u6063_0, u6063_1, u6063_4, u6063_7, u6063_8, u6063_11, u6063_14, u6063_25, gt_0_1, gt_3_0, ob_4, af_x hd_6063, decide_eq_true_eq, if_true, if_false, f2_ne, f2_eq, up_ne, up_eq, kc_int, kc_ref, kc_retAddr, kc_long, kc_double, af_n, af_v, z0, z1, n_of, nz6, nz4, bI_T, bI_F, bI_01, n_lt, n_le, n_eq, n_add, n_mul, n_sub, n_clamp, n_vp, m_lt, m_le, m_eq, m_eq2, m_ltm, m_add, true_and, and_true, eq_self, if_pos, if_neg, List.length_nil, List.length_cons, Nat.reduceAdd, Nat.reduceLeDiff, Nat.zero_le, not_true_eq_false, not_false_eq_true, true_or, or_true]
theorem f_noBranch {b : Nat} (c : gF F A G) (hb : b < 6) (h0 : G.S.br b = 0) (hcl : 70 < cl) : am_Ca X (d + 6) 6063 [.ref 0, .int (nI b)] (am_Z cl sl F A L) P = P (.inr 1) (am_Z (cl + 1) (sl + 6) F A L) := by
  have hcl' : (70 ≤ cl) = True := eq_true (by omega)
  rw [c6063]
  simp (disch := omega) only [q_hasBranch c.R c.w hb, h0, hcl', u6063_0, u6063_1, u6063_4, u6063_7, u6063_8, u6063_11, u6063_14, u6063_25, gt_0_1, gt_3_0, ob_4, af_x hd_6063, decide_eq_true_eq, if_true, if_false, f2_ne, f2_eq, up_ne, up_eq, kc_int, kc_ref, kc_retAddr, kc_long, kc_double, af_n, af_v, z0, z1, n_of, nz6, nz4, bI_T, bI_F, bI_01, n_lt, n_le, n_eq, n_add, n_mul, n_sub, n_clamp, n_vp, m_lt, m_le, m_eq, m_eq2, m_ltm, m_add, true_and, and_true, eq_self, if_pos, if_neg, List.length_nil, List.length_cons, Nat.reduceAdd, Nat.reduceLeDiff, Nat.zero_le, not_true_eq_false, not_false_eq_true, true_or, or_true]
theorem f_conflict {i : Nat} (c : gF F A G) (hi : i < 24) (h0 : ¬ G.S.O i = 0) : am_Ca X (d + 3) 6065 [.ref 0, .int (nI i)] (am_Z cl sl F A L) P = P (.inl none) (am_Z cl sl F A L) := by
  rw [c6065]
  simp (disch := omega) only [q_inConf c.R c.w hi, h0, u6065_0, u6065_1, u6065_4, u6065_7, u6065_8, u6065_11, u6065_14, u6065_25, gt_0_1, gt_3_0, ob_4, af_x hd_6065, decide_eq_true_eq, if_true, if_false, f2_ne, f2_eq, up_ne, up_eq, kc_int, kc_ref, kc_retAddr, kc_long, kc_double, af_n, af_v, z0, z1, n_of, nz6, nz4, bI_T, bI_F, bI_01, n_lt, n_le, n_eq, n_add, n_mul, n_sub, n_clamp, n_vp, m_lt, m_le, m_eq, m_eq2, m_ltm, m_add, true_and, and_true, eq_self, if_pos, if_neg, List.length_nil, List.length_cons, Nat.reduceAdd, Nat.reduceLeDiff, Nat.zero_le, not_true_eq_false, not_false_eq_true, true_or, or_true]
theorem f_noConflict {i : Nat} (c : gF F A G) (hi : i < 24) (h0 : G.S.O i = 0) (hcl : 70 < cl) : am_Ca X (d + 6) 6065 [.ref 0, .int (nI i)] (am_Z cl sl F A L) P = P (.inr 1) (am_Z (cl + 1) (sl + 6) F A L) := by
  have hcl' : (70 ≤ cl) = True := eq_true (by omega)
  rw [c6065]
  simp (disch := omega) only [q_inConf c.R c.w hi, h0, hcl', u6065_0, u6065_1, u6065_4, u6065_7, u6065_8, u6065_11, u6065_14, u6065_25, gt_0_1, gt_3_0, ob_4, af_x hd_6065, decide_eq_true_eq, if_true, if_false, f2_ne, f2_eq, up_ne, up_eq, kc_int, kc_ref, kc_retAddr, kc_long, kc_double, af_n, af_v, z0, z1, n_of, nz6, nz4, bI_T, bI_F, bI_01, n_lt, n_le, n_eq, n_add, n_mul, n_sub, n_clamp, n_vp, m_lt, m_le, m_eq, m_eq2, m_ltm, m_add, true_and, and_true, eq_self, if_pos, if_neg, List.length_nil, List.length_cons, Nat.reduceAdd, Nat.reduceLeDiff, Nat.zero_le, not_true_eq_false, not_false_eq_true, true_or, or_true]
end FC
