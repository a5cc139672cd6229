/-! THE FACE: edit, reset, resolve, the snapshot, undo, the pad -/
section FE
variable {d cl sl : Nat} {X : am_X} {F A : Nat → Nat → Int32} {L : Nat → Nat → Int64} {P : am_Q} {G : Fu}
theorem k_reset {k : Nat} (c : gF F A G) (hk : k < G.S.n) (hcl : 70 < cl) : ∃ F2 A2, (∀ P, am_Ca X (d + 8) 6008 [.ref 0, .int (nI k)] (am_Z cl sl F A L) P = P (.inl (some (.int (nI (hd G.S))))) (am_Z cl sl F2 A2 L)) ∧ gF F2 A2 (setG (recG G) (stand G.S k)) ∧ Fm F A F2 A2 := by
  obtain ⟨F1, A1, e1, c1, f1⟩ := f_record (d := d + 4) (X := X) (cl := cl) (sl := sl) (L := L) c hcl
  have R1 : cR F1 A1 4 G.S := c1.R
  obtain ⟨F2, A2, e2, R2, f2⟩ := r_doReset (d := d + 3) (X := X) (cl := cl) (sl := sl) (L := L) R1 c.w hk hcl
  refine ⟨F2, A2, fun P => ?_, gF_set c1 R2 (wS_stand c.w hk) f2, Fm_tr f1 (Fm_fr f2)⟩
  rw [c6008]
  simp (disch := omega) only [f_commit c hk, e1, e2, u6008_0, u6008_1, u6008_2, u6008_5, u6008_6, u6008_9, u6008_10, u6008_13, u6008_14, u6008_17, ob_0, gt_0_1, ob_3, af_x hd_6008, decide_eq_true_eq, if_true, if_false, f2_ne, f2_eq, up_ne, up_eq, kc_int, kc_ref, kc_retAddr, kc_long, kc_double, af_n, af_v, z0, z1, n_of, nz6, nz4, bI_T, bI_F, bI_01, n_lt, n_le, n_eq, n_add, n_mul, n_sub, n_clamp, n_vp, m_lt, m_le, m_eq, m_eq2, m_ltm, m_add, true_and, and_true, eq_self, if_pos, if_neg, List.length_nil, List.length_cons, Nat.reduceAdd, Nat.reduceLeDiff, Nat.zero_le, not_true_eq_false, not_false_eq_true, true_or, or_true]
theorem k_reset_no {x : Int32} (c : gF F A G) (hx : noC G.S x) (hcl : 70 < cl) : am_Ca X (d + 8) 6008 [.ref 0, .int x] (am_Z cl sl F A L) P = P (.inr 0) (am_Z (cl + 1) (sl + 6) F A L) := by
  rw [c6008]
  simp (disch := omega) only [f_noCommit c hx hcl, u6008_0, u6008_1, u6008_2, u6008_5, u6008_6, u6008_9, u6008_10, u6008_13, u6008_14, u6008_17, ob_0, gt_0_1, ob_3, af_x hd_6008, decide_eq_true_eq, if_true, if_false, f2_ne, f2_eq, up_ne, up_eq, kc_int, kc_ref, kc_retAddr, kc_long, kc_double, af_n, af_v, z0, z1, n_of, nz6, nz4, bI_T, bI_F, bI_01, n_lt, n_le, n_eq, n_add, n_mul, n_sub, n_clamp, n_vp, m_lt, m_le, m_eq, m_eq2, m_ltm, m_add, true_and, and_true, eq_self, if_pos, if_neg, List.length_nil, List.length_cons, Nat.reduceAdd, Nat.reduceLeDiff, Nat.zero_le, not_true_eq_false, not_false_eq_true, true_or, or_true]
theorem k_edit {a b v : Nat} (c : gF F A G) (ha : a < 4) (hb : b < 6) (hv : v < 100) (hcl : 70 < cl) : ∃ F2 A2, (∀ P, am_Ca X (d + 8) 6006 [.ref 0, .int (nI a), .int (nI b), .int (nI v)] (am_Z cl sl F A L) P = P (.inl (some (.int (nI (unl (setL G.S (a * 6 + b) v)))))) (am_Z cl sl F2 A2 L)) ∧ gF F2 A2 (setG (recG G) (setL G.S (a * 6 + b) v)) ∧ Fm F A F2 A2 := by
  obtain ⟨F1, A1, e1, c1, f1⟩ := f_record (d := d + 4) (X := X) (cl := cl) (sl := sl) (L := L) c hcl
  have R1 : cR F1 A1 4 G.S := c1.R
  obtain ⟨F2, A2, e2, R2, f2⟩ := r_doEdit (d := d + 3) (X := X) (cl := cl) (sl := sl) (L := L) R1 c.w (i := a * 6 + b) (by omega) hv
  refine ⟨F2, A2, fun P => ?_, gF_set c1 R2 (wS_setL c.w hv) f2, Fm_tr f1 (Fm_fr f2)⟩
  rw [c6006]
  simp (disch := omega) only [f_place, e1, f_placeOf, e2, u6006_0, u6006_1, u6006_2, u6006_5, u6006_6, u6006_9, u6006_10, u6006_12, u6006_15, u6006_25, u6006_26, u6006_29, u6006_30, u6006_33, u6006_34, u6006_35, u6006_38, u6006_39, u6006_42, ob_0, gt_0_1, ob_3, ki_100, af_x hd_6006, decide_eq_true_eq, if_true, if_false, f2_ne, f2_eq, up_ne, up_eq, kc_int, kc_ref, kc_retAddr, kc_long, kc_double, af_n, af_v, z0, z1, n_of, nz6, nz4, bI_T, bI_F, bI_01, n_lt, n_le, n_eq, n_add, n_mul, n_sub, n_clamp, n_vp, m_lt, m_le, m_eq, m_eq2, m_ltm, m_add, true_and, and_true, eq_self, if_pos, if_neg, List.length_nil, List.length_cons, Nat.reduceAdd, Nat.reduceLeDiff, Nat.zero_le, not_true_eq_false, not_false_eq_true, true_or, or_true]
theorem k_edit_place {x y v : Int32} (hx : noP x y) (hcl : 70 < cl) : am_Ca X (d + 8) 6006 [.ref 0, .int x, .int y, .int v] (am_Z cl sl F A L) P = P (.inr 0) (am_Z (cl + 1) (sl + 6) F A L) := by
  rw [c6006]
  simp (disch := omega) only [f_noPlace hx hcl, u6006_0, u6006_1, u6006_2, u6006_5, u6006_6, u6006_9, u6006_10, u6006_12, u6006_15, u6006_25, u6006_26, u6006_29, u6006_30, u6006_33, u6006_34, u6006_35, u6006_38, u6006_39, u6006_42, ob_0, gt_0_1, ob_3, ki_100, af_x hd_6006, decide_eq_true_eq, if_true, if_false, f2_ne, f2_eq, up_ne, up_eq, kc_int, kc_ref, kc_retAddr, kc_long, kc_double, af_n, af_v, z0, z1, n_of, nz6, nz4, bI_T, bI_F, bI_01, n_lt, n_le, n_eq, n_add, n_mul, n_sub, n_clamp, n_vp, m_lt, m_le, m_eq, m_eq2, m_ltm, m_add, true_and, and_true, eq_self, if_pos, if_neg, List.length_nil, List.length_cons, Nat.reduceAdd, Nat.reduceLeDiff, Nat.zero_le, not_true_eq_false, not_false_eq_true, true_or, or_true]
def noV (v : Int32) : Prop := v < nI 0 ∨ nI 100 ≤ v
theorem isV {v : Int32} (h : ¬ noV v) : ∃ k, k < 100 ∧ v = nI k := in_r (by decide) (fun z => h (Or.inl z)) (fun z => h (Or.inr z))
theorem k_edit_value {a b : Nat} {v : Int32} (ha : a < 4) (hb : b < 6) (hv : noV v) (hcl : 70 < cl) : am_Ca X (d + 8) 6006 [.ref 0, .int (nI a), .int (nI b), .int v] (am_Z cl sl F A L) P = P (.inr 0) (am_Z (cl + 1) (sl + 6) F A L) := by
  have hcl' : (70 ≤ cl) = True := eq_true (by omega)
  rw [c6006]
  by_cases e1 : v < nI 0
  · simp (disch := omega) only [f_place, e1, hcl', u6006_0, u6006_1, u6006_2, u6006_5, u6006_6, u6006_9, u6006_10, u6006_12, u6006_15, u6006_25, u6006_26, u6006_29, u6006_30, u6006_33, u6006_34, u6006_35, u6006_38, u6006_39, u6006_42, ob_0, gt_0_1, ob_3, ki_100, af_x hd_6006, decide_eq_true_eq, if_true, if_false, f2_ne, f2_eq, up_ne, up_eq, kc_int, kc_ref, kc_retAddr, kc_long, kc_double, af_n, af_v, z0, z1, n_of, nz6, nz4, bI_T, bI_F, bI_01, n_lt, n_le, n_eq, n_add, n_mul, n_sub, n_clamp, n_vp, m_lt, m_le, m_eq, m_eq2, m_ltm, m_add, true_and, and_true, eq_self, if_pos, if_neg, List.length_nil, List.length_cons, Nat.reduceAdd, Nat.reduceLeDiff, Nat.zero_le, not_true_eq_false, not_false_eq_true, true_or, or_true]
  · have e2 : nI 100 ≤ v := hv.resolve_left e1
    have e3 : ¬ v < nI 100 := Int32.not_lt.mpr e2
    simp (disch := omega) only [f_place, e1, e3, hcl', u6006_0, u6006_1, u6006_2, u6006_5, u6006_6, u6006_9, u6006_10, u6006_12, u6006_15, u6006_25, u6006_26, u6006_29, u6006_30, u6006_33, u6006_34, u6006_35, u6006_38, u6006_39, u6006_42, ob_0, gt_0_1, ob_3, ki_100, af_x hd_6006, decide_eq_true_eq, if_true, if_false, f2_ne, f2_eq, up_ne, up_eq, kc_int, kc_ref, kc_retAddr, kc_long, kc_double, af_n, af_v, z0, z1, n_of, nz6, nz4, bI_T, bI_F, bI_01, n_lt, n_le, n_eq, n_add, n_mul, n_sub, n_clamp, n_vp, m_lt, m_le, m_eq, m_eq2, m_ltm, m_add, true_and, and_true, eq_self, if_pos, if_neg, List.length_nil, List.length_cons, Nat.reduceAdd, Nat.reduceLeDiff, Nat.zero_le, not_true_eq_false, not_false_eq_true, true_or, or_true]
theorem k_resolve {a b k : Nat} (c : gF F A G) (ha : a < 4) (hb : b < 6) (hk : k < 2) (h0 : ¬ G.S.O (a * 6 + b) = 0) (hcl : 70 < cl) : ∃ F2 A2, (∀ P, am_Ca X (d + 8) 6018 [.ref 0, .int (nI a), .int (nI b), .int (nI k)] (am_Z cl sl F A L) P = P (.inl (some (.int (nI (nco (resS G.S (a * 6 + b) k)))))) (am_Z cl sl F2 A2 L)) ∧ gF F2 A2 (setG (recG G) (resS G.S (a * 6 + b) k)) ∧ Fm F A F2 A2 := by
  obtain ⟨F1, A1, e1, c1, f1⟩ := f_record (d := d + 4) (X := X) (cl := cl) (sl := sl) (L := L) c hcl
  have R1 : cR F1 A1 4 G.S := c1.R
  have hi : a * 6 + b < 24 := by omega
  obtain ⟨F2, A2, e2, R2, w2, f2⟩ := r_doResolve (d := d + 3) (X := X) (cl := cl) (sl := sl) (L := L) R1 c.w hi hk h0
  refine ⟨F2, A2, fun P => ?_, gF_set c1 R2 w2 f2, Fm_tr f1 (Fm_fr f2)⟩
  rw [c6018]
  simp (disch := omega) only [f_place, f_placeOf, f_conflict c hi h0, e1, e2, u6018_0, u6018_1, u6018_2, u6018_5, u6018_6, u6018_7, u6018_8, u6018_11, u6018_14, u6018_15, u6018_18, u6018_19, u6018_22, u6018_23, u6018_24, u6018_27, u6018_28, u6018_31, ob_0, gt_0_1, ob_3, af_x hd_6018, decide_eq_true_eq, if_true, if_false, f2_ne, f2_eq, up_ne, up_eq, kc_int, kc_ref, kc_retAddr, kc_long, kc_double, af_n, af_v, z0, z1, n_of, nz6, nz4, bI_T, bI_F, bI_01, n_lt, n_le, n_eq, n_add, n_mul, n_sub, n_clamp, n_vp, m_lt, m_le, m_eq, m_eq2, m_ltm, m_add, true_and, and_true, eq_self, if_pos, if_neg, List.length_nil, List.length_cons, Nat.reduceAdd, Nat.reduceLeDiff, Nat.zero_le, not_true_eq_false, not_false_eq_true, true_or, or_true]
theorem k_resolve_place {x y v : Int32} (hx : noP x y) (hcl : 70 < cl) : am_Ca X (d + 8) 6018 [.ref 0, .int x, .int y, .int v] (am_Z cl sl F A L) P = P (.inr 0) (am_Z (cl + 1) (sl + 6) F A L) := by
  rw [c6018]
  simp (disch := omega) only [f_noPlace hx hcl, u6018_0, u6018_1, u6018_2, u6018_5, u6018_6, u6018_7, u6018_8, u6018_11, u6018_14, u6018_15, u6018_18, u6018_19, u6018_22, u6018_23, u6018_24, u6018_27, u6018_28, u6018_31, ob_0, gt_0_1, ob_3, af_x hd_6018, decide_eq_true_eq, if_true, if_false, f2_ne, f2_eq, up_ne, up_eq, kc_int, kc_ref, kc_retAddr, kc_long, kc_double, af_n, af_v, z0, z1, n_of, nz6, nz4, bI_T, bI_F, bI_01, n_lt, n_le, n_eq, n_add, n_mul, n_sub, n_clamp, n_vp, m_lt, m_le, m_eq, m_eq2, m_ltm, m_add, true_and, and_true, eq_self, if_pos, if_neg, List.length_nil, List.length_cons, Nat.reduceAdd, Nat.reduceLeDiff, Nat.zero_le, not_true_eq_false, not_false_eq_true, true_or, or_true]
theorem k_resolve_no {a b : Nat} {v : Int32} (c : gF F A G) (ha : a < 4) (hb : b < 6) (h0 : G.S.O (a * 6 + b) = 0) (hcl : 70 < cl) : am_Ca X (d + 8) 6018 [.ref 0, .int (nI a), .int (nI b), .int v] (am_Z cl sl F A L) P = P (.inr 1) (am_Z (cl + 1) (sl + 6) F A L) := by
  have hi : a * 6 + b < 24 := by omega
  rw [c6018]
  simp (disch := omega) only [f_place, f_placeOf, f_noConflict c hi h0 hcl, u6018_0, u6018_1, u6018_2, u6018_5, u6018_6, u6018_7, u6018_8, u6018_11, u6018_14, u6018_15, u6018_18, u6018_19, u6018_22, u6018_23, u6018_24, u6018_27, u6018_28, u6018_31, ob_0, gt_0_1, ob_3, af_x hd_6018, decide_eq_true_eq, if_true, if_false, f2_ne, f2_eq, up_ne, up_eq, kc_int, kc_ref, kc_retAddr, kc_long, kc_double, af_n, af_v, z0, z1, n_of, nz6, nz4, bI_T, bI_F, bI_01, n_lt, n_le, n_eq, n_add, n_mul, n_sub, n_clamp, n_vp, m_lt, m_le, m_eq, m_eq2, m_ltm, m_add, true_and, and_true, eq_self, if_pos, if_neg, List.length_nil, List.length_cons, Nat.reduceAdd, Nat.reduceLeDiff, Nat.zero_le, not_true_eq_false, not_false_eq_true, true_or, or_true]
/-! the snapshot, undo -/
theorem k_keep (c : gF F A G) (hcl : 70 < cl) : ∃ F2 A2, (∀ P, am_Ca X (d + 8) 6056 [.ref 0] (am_Z cl sl F A L) P = P (.inl (some (.int (nI G.S.n)))) (am_Z cl sl F2 A2 L)) ∧ gF F2 A2 (mkG G.S G.m G.rs 1 G.S G.len G.pd) ∧ Fm F A F2 A2 := by
  have n0 : ∀ z, z ≠ 0 → z ≠ 61 → am_f2 (cfF F 61 4 G.S.n) 0 4 (nI 1) z = F z := fun z h1 h2 => by rw [f2_ne h1, cfF_ne h2]
  have a0 : ∀ z, z < 62 ∨ 69 < z → cfA A 61 4 G.S.n z = A z := fun z h => cfA_ne (by omega)
  obtain ⟨g1, g2, o, g3, g4, g5⟩ := c.r
  refine ⟨am_f2 (cfF F 61 4 G.S.n) 0 4 (nI 1), cfA A 61 4 G.S.n, fun P => ?_, gF.mk ?_ c.w ⟨g1, ?_, o, g3, ?_, ?_⟩ ?_ ?_ (by show 1 < 2; decide) (fun _ => ⟨?_, c.w⟩), ⟨fun z hz => n0 z (by omega) (by omega), fun z hz => a0 z (by omega)⟩⟩
  · rw [c6056]
    have e : cfF F 61 4 G.S.n 4 0 = nI G.S.n := by rw [cfF_ne (by decide)]; exact c.R.n0
    simp (disch := omega) only [ob_61, s_copy_61_4 c.R.n0 c.w.n60 hcl, e, u6056_0, u6056_1, u6056_4, u6056_5, u6056_8, u6056_11, u6056_14, u6056_15, u6056_16, u6056_19, u6056_20, u6056_23, u6056_26, u6056_29, gt_0_3, gt_0_1, gt_3_0, ob_4, pt_0_4, gt_4_0, ki_1, af_x hd_6056, decide_eq_true_eq, if_true, if_false, f2_ne, f2_eq, up_ne, up_eq, kc_int, kc_ref, kc_retAddr, kc_long, kc_double, af_n, af_v, z0, z1, n_of, nz6, nz4, bI_T, bI_F, bI_01, n_lt, n_le, n_eq, n_add, n_mul, n_sub, n_clamp, n_vp, m_lt, m_le, m_eq, m_eq2, m_ltm, m_add, true_and, and_true, eq_self, if_pos, if_neg, List.length_nil, List.length_cons, Nat.reduceAdd, Nat.reduceLeDiff, Nat.zero_le, not_true_eq_false, not_false_eq_true, true_or, or_true]
  · exact cR_cg c.R (n0 4 (by decide) (by decide)) (fun k h1 h2 => a0 _ (by omega))
  · rw [n0 23 (by decide) (by decide)]; exact g2
  · rw [n0 23 (by decide) (by decide)]; exact g4
  · exact fun a ha => ⟨cR_cg (g5 a ha).1 (n0 _ (by omega) (by omega)) (fun k h1 h2 => a0 _ (by omega)), (g5 a ha).2⟩
  · exact pR_cg c.p (n0 1 (by decide) (by decide)) (a0 2 (by omega))
  · show am_f2 (cfF F 61 4 G.S.n) 0 4 (nI 1) 0 4 = nI 1
    simp [am_f2, va_up]
  · exact cR_cg (cR_copy c.R c.w (by omega)) (f2_ne (by decide)) (fun _ _ _ => rfl)
theorem k_goBack (c : gF F A G) (h1 : G.hs = 1) (hcl : 70 < cl) : ∃ F2 A2, (∀ P, am_Ca X (d + 8) 6057 [.ref 0] (am_Z cl sl F A L) P = P (.inl (some (.int (nI G.sn.n)))) (am_Z cl sl F2 A2 L)) ∧ gF F2 A2 (setG (recG G) G.sn) ∧ Fm F A F2 A2 := by
  obtain ⟨F1, A1, e1, c1, f1⟩ := f_record (d := d + 4) (X := X) (cl := cl) (sl := sl) (L := L) c hcl
  have s1 : cR F1 A1 61 G.sn ∧ wS G.sn := c1.s h1
  have n0 : ∀ z, z ≠ 4 → cfF F1 4 61 G.sn.n z = F1 z := fun z h => cfF_ne h
  have a0 : ∀ z, z < 5 ∨ 12 < z → cfA A1 4 61 G.sn.n z = A1 z := fun z h => cfA_ne (by omega)
  obtain ⟨g1, g2, o, g3, g4, g5⟩ := c1.r
  refine ⟨cfF F1 4 61 G.sn.n, cfA A1 4 61 G.sn.n, fun P => ?_, gF.mk (cR_copy s1.1 s1.2 (by omega)) s1.2 ⟨g1, ?_, o, g3, ?_, ?_⟩ ?_ ?_ c1.h2 (fun e => ?_), Fm_tr f1 ⟨fun z hz => n0 z (by omega), fun z hz => a0 z (by omega)⟩⟩
  · rw [c6057]
    have e : cfF F1 4 61 G.sn.n 4 0 = nI G.sn.n := (cR_copy s1.1 s1.2 (by omega)).n0
    have eh : F 0 4 = nI 1 := by rw [c.h, h1]
    simp (disch := omega) only [eh, e1, s_copy_4_61 s1.1.n0 s1.2.n60 hcl, e, u6057_0, u6057_1, u6057_4, u6057_7, u6057_18, u6057_19, u6057_22, u6057_23, u6057_26, u6057_29, u6057_30, u6057_33, u6057_36, u6057_37, u6057_40, u6057_43, u6057_46, gt_0_4, ob_0, gt_0_1, gt_3_0, gt_0_3, ob_4, gt_4_0, af_x hd_6057, decide_eq_true_eq, if_true, if_false, f2_ne, f2_eq, up_ne, up_eq, kc_int, kc_ref, kc_retAddr, kc_long, kc_double, af_n, af_v, z0, z1, n_of, nz6, nz4, bI_T, bI_F, bI_01, n_lt, n_le, n_eq, n_add, n_mul, n_sub, n_clamp, n_vp, m_lt, m_le, m_eq, m_eq2, m_ltm, m_add, true_and, and_true, eq_self, if_pos, if_neg, List.length_nil, List.length_cons, Nat.reduceAdd, Nat.reduceLeDiff, Nat.zero_le, not_true_eq_false, not_false_eq_true, true_or, or_true]
  · rw [n0 23 (by decide)]; exact g2
  · rw [n0 23 (by decide)]; exact g4
  · exact fun a ha => ⟨cR_cg (g5 a ha).1 (n0 _ (by omega)) (fun k h1 h2 => a0 _ (by omega)), (g5 a ha).2⟩
  · exact pR_cg c1.p (n0 1 (by decide)) (a0 2 (by omega))
  · rw [n0 0 (by decide)]; exact c1.h
  · exact ⟨cR_cg (c1.s e).1 (n0 61 (by decide)) (fun k h1 h2 => a0 _ (by omega)), (c1.s e).2⟩
theorem k_goBack_no (c : gF F A G) (h1 : G.hs = 0) (hcl : 70 < cl) : am_Ca X (d + 8) 6057 [.ref 0] (am_Z cl sl F A L) P = P (.inr 1) (am_Z (cl + 1) (sl + 6) F A L) := by
  have hcl' : (70 ≤ cl) = True := eq_true (by omega)
  have eh : F 0 4 = nI 0 := by rw [c.h, h1]
  rw [c6057]
  simp (disch := omega) only [eh, hcl', u6057_0, u6057_1, u6057_4, u6057_7, u6057_18, u6057_19, u6057_22, u6057_23, u6057_26, u6057_29, u6057_30, u6057_33, u6057_36, u6057_37, u6057_40, u6057_43, u6057_46, gt_0_4, ob_0, gt_0_1, gt_3_0, gt_0_3, ob_4, gt_4_0, af_x hd_6057, decide_eq_true_eq, if_true, if_false, f2_ne, f2_eq, up_ne, up_eq, kc_int, kc_ref, kc_retAddr, kc_long, kc_double, af_n, af_v, z0, z1, n_of, nz6, nz4, bI_T, bI_F, bI_01, n_lt, n_le, n_eq, n_add, n_mul, n_sub, n_clamp, n_vp, m_lt, m_le, m_eq, m_eq2, m_ltm, m_add, true_and, and_true, eq_self, if_pos, if_neg, List.length_nil, List.length_cons, Nat.reduceAdd, Nat.reduceLeDiff, Nat.zero_le, not_true_eq_false, not_false_eq_true, true_or, or_true]
theorem k_undo {m : Nat} (c : gF F A G) (h1 : G.m = m + 1) (hcl : 70 < cl) : ∃ F2 A2, (∀ P, am_Ca X (d + 8) 6058 [.ref 0] (am_Z cl sl F A L) P = P (.inl (some (.int (nI m)))) (am_Z cl sl F2 A2 L)) ∧ gF F2 A2 (mkG (G.rs m) m G.rs G.hs G.sn G.len G.pd) ∧ Fm F A F2 A2 := by
  have r := c.r
  rw [h1] at r
  obtain ⟨F2, A2, e2, R2, w2, r2, f2⟩ := s_bringBack (d := d + 5) (X := X) (cl := cl) (sl := sl) (L := L) r hcl
  have r2' := r2
  obtain ⟨g1, g2, o, g3, g4, g5⟩ := r2
  refine ⟨F2, A2, fun P => ?_, gF.mk R2 w2 r2' (pR_cg c.p (f2.1 1 (by decide) (by decide)) (f2.2 2 (by omega))) (by rw [f2.1 0 (by decide) (by decide)]; exact c.h) c.h2 (fun e => ⟨cR_cg (c.s e).1 (f2.1 61 (by decide) (by decide)) (fun k h1 h2 => f2.2 _ (by omega)), (c.s e).2⟩), Fm_fb f2⟩
  rw [c6058]
  have e0 := r.2.1
  have hm4 := r.1
  simp (disch := omega) only [e0, e2, g2, u6058_0, u6058_1, u6058_4, u6058_7, u6058_10, u6058_21, u6058_22, u6058_25, u6058_26, u6058_29, u6058_32, u6058_35, u6058_36, u6058_39, u6058_42, gt_0_2, gt_23_2, gt_0_1, gt_3_0, ob_23, af_x hd_6058, decide_eq_true_eq, if_true, if_false, f2_ne, f2_eq, up_ne, up_eq, kc_int, kc_ref, kc_retAddr, kc_long, kc_double, af_n, af_v, z0, z1, n_of, nz6, nz4, bI_T, bI_F, bI_01, n_lt, n_le, n_eq, n_add, n_mul, n_sub, n_clamp, n_vp, m_lt, m_le, m_eq, m_eq2, m_ltm, m_add, true_and, and_true, eq_self, if_pos, if_neg, List.length_nil, List.length_cons, Nat.reduceAdd, Nat.reduceLeDiff, Nat.zero_le, not_true_eq_false, not_false_eq_true, true_or, or_true]
theorem k_undo_no (c : gF F A G) (h1 : G.m = 0) (hcl : 70 < cl) : am_Ca X (d + 8) 6058 [.ref 0] (am_Z cl sl F A L) P = P (.inr 1) (am_Z (cl + 1) (sl + 6) F A L) := by
  have hcl' : (70 ≤ cl) = True := eq_true (by omega)
  have e0 := c.r.2.1
  rw [h1] at e0
  rw [c6058]
  simp (disch := omega) only [e0, hcl', u6058_0, u6058_1, u6058_4, u6058_7, u6058_10, u6058_21, u6058_22, u6058_25, u6058_26, u6058_29, u6058_32, u6058_35, u6058_36, u6058_39, u6058_42, gt_0_2, gt_23_2, gt_0_1, gt_3_0, ob_23, af_x hd_6058, decide_eq_true_eq, if_true, if_false, f2_ne, f2_eq, up_ne, up_eq, kc_int, kc_ref, kc_retAddr, kc_long, kc_double, af_n, af_v, z0, z1, n_of, nz6, nz4, bI_T, bI_F, bI_01, n_lt, n_le, n_eq, n_add, n_mul, n_sub, n_clamp, n_vp, m_lt, m_le, m_eq, m_eq2, m_ltm, m_add, true_and, and_true, eq_self, if_pos, if_neg, List.length_nil, List.length_cons, Nat.reduceAdd, Nat.reduceLeDiff, Nat.zero_le, not_true_eq_false, not_false_eq_true, true_or, or_true]
/-! the pad -/
theorem gF_pad {F2 A2 : Nat → Nat → Int32} {len : Nat} {pd : Nat → Nat} (c : gF F A G) (p : pR F2 A2 len pd) (hf : ∀ o, o ≠ 1 → F2 o = F o) (ha : ∀ o, o ≠ 2 → A2 o = A o) : gF F2 A2 (mkG G.S G.m G.rs G.hs G.sn len pd) := by
  obtain ⟨g1, g2, o, g3, g4, g5⟩ := c.r
  refine gF.mk (cR_cg c.R (hf 4 (by decide)) (fun k h1 h2 => ha _ (by omega))) c.w ⟨g1, ?_, o, g3, ?_, ?_⟩ p ?_ c.h2 (fun e => ⟨cR_cg (c.s e).1 (hf 61 (by decide)) (fun k h1 h2 => ha _ (by omega)), (c.s e).2⟩)
  · rw [hf 23 (by decide)]; exact g2
  · rw [hf 23 (by decide)]; exact g4
  · exact fun a ha2 => ⟨cR_cg (g5 a ha2).1 (hf _ (by omega)) (fun k h1 h2 => ha _ (by omega)), (g5 a ha2).2⟩
  · rw [hf 0 (by decide)]; exact c.h
theorem k_type {v : Nat} (c : gF F A G) (h1 : 32 ≤ v) (h2 : v ≤ 126) (hl : G.len < 60) : ∃ F2 A2, (∀ P, am_Ca X (d + 7) 6002 [.ref 0, .int (nI v)] (am_Z cl sl F A L) P = P (.inl (some (.int (nI (G.len + 1))))) (am_Z cl sl F2 A2 L)) ∧ gF F2 A2 (mkG G.S G.m G.rs G.hs G.sn (G.len + 1) (va_up G.pd G.len v)) ∧ Fm F A F2 A2 := by
  obtain ⟨F2, A2, e, p, hf, ha⟩ := s_append (d := d + 5) (X := X) (cl := cl) (sl := sl) (L := L) c.p hl h1 h2
  refine ⟨F2, A2, fun P => ?_, gF_pad c p hf ha, ⟨fun z hz => hf z (by omega), fun z hz => ha z (by omega)⟩⟩
  rw [c6002]
  have hn : ¬ G.len = 60 := by omega
  simp (disch := omega) only [s_isFull c.p, bI_f hn, e, u6002_0, u6002_1, u6002_3, u6002_6, u6002_7, u6002_9, u6002_12, u6002_22, u6002_23, u6002_26, u6002_29, u6002_32, u6002_42, u6002_43, u6002_46, u6002_47, u6002_50, gt_0_0, ob_1, ki_126, ki_32, af_x hd_6002, decide_eq_true_eq, if_true, if_false, f2_ne, f2_eq, up_ne, up_eq, kc_int, kc_ref, kc_retAddr, kc_long, kc_double, af_n, af_v, z0, z1, n_of, nz6, nz4, bI_T, bI_F, bI_01, n_lt, n_le, n_eq, n_add, n_mul, n_sub, n_clamp, n_vp, m_lt, m_le, m_eq, m_eq2, m_ltm, m_add, true_and, and_true, eq_self, if_pos, if_neg, List.length_nil, List.length_cons, Nat.reduceAdd, Nat.reduceLeDiff, Nat.zero_le, not_true_eq_false, not_false_eq_true, true_or, or_true]
def noT (x : Int32) : Prop := x < nI 32 ∨ nI 126 < x
theorem k_type_bad {x : Int32} (h : noT x) (hcl : 70 < cl) : am_Ca X (d + 8) 6002 [.ref 0, .int x] (am_Z cl sl F A L) P = P (.inr 0) (am_Z (cl + 1) (sl + 6) F A L) := by
  have hcl' : (70 ≤ cl) = True := eq_true (by omega)
  rw [c6002]
  by_cases e1 : x < nI 32
  · simp (disch := omega) only [e1, hcl', u6002_0, u6002_1, u6002_3, u6002_6, u6002_7, u6002_9, u6002_12, u6002_22, u6002_23, u6002_26, u6002_29, u6002_32, u6002_42, u6002_43, u6002_46, u6002_47, u6002_50, gt_0_0, ob_1, ki_126, ki_32, af_x hd_6002, decide_eq_true_eq, if_true, if_false, f2_ne, f2_eq, up_ne, up_eq, kc_int, kc_ref, kc_retAddr, kc_long, kc_double, af_n, af_v, z0, z1, n_of, nz6, nz4, bI_T, bI_F, bI_01, n_lt, n_le, n_eq, n_add, n_mul, n_sub, n_clamp, n_vp, m_lt, m_le, m_eq, m_eq2, m_ltm, m_add, true_and, and_true, eq_self, if_pos, if_neg, List.length_nil, List.length_cons, Nat.reduceAdd, Nat.reduceLeDiff, Nat.zero_le, not_true_eq_false, not_false_eq_true, true_or, or_true]
  · have e3 : ¬ x ≤ nI 126 := Int32.not_le.mpr (h.resolve_left e1)
    simp (disch := omega) only [e1, e3, hcl', u6002_0, u6002_1, u6002_3, u6002_6, u6002_7, u6002_9, u6002_12, u6002_22, u6002_23, u6002_26, u6002_29, u6002_32, u6002_42, u6002_43, u6002_46, u6002_47, u6002_50, gt_0_0, ob_1, ki_126, ki_32, af_x hd_6002, decide_eq_true_eq, if_true, if_false, f2_ne, f2_eq, up_ne, up_eq, kc_int, kc_ref, kc_retAddr, kc_long, kc_double, af_n, af_v, z0, z1, n_of, nz6, nz4, bI_T, bI_F, bI_01, n_lt, n_le, n_eq, n_add, n_mul, n_sub, n_clamp, n_vp, m_lt, m_le, m_eq, m_eq2, m_ltm, m_add, true_and, and_true, eq_self, if_pos, if_neg, List.length_nil, List.length_cons, Nat.reduceAdd, Nat.reduceLeDiff, Nat.zero_le, not_true_eq_false, not_false_eq_true, true_or, or_true]
theorem k_type_full {v : Nat} (c : gF F A G) (h1 : 32 ≤ v) (h2 : v ≤ 126) (hl : G.len = 60) (hcl : 70 < cl) : am_Ca X (d + 8) 6002 [.ref 0, .int (nI v)] (am_Z cl sl F A L) P = P (.inr 1) (am_Z (cl + 1) (sl + 6) F A L) := by
  have hcl' : (70 ≤ cl) = True := eq_true (by omega)
  rw [c6002]
  simp (disch := omega) only [s_isFull c.p, bI_t hl, hcl', u6002_0, u6002_1, u6002_3, u6002_6, u6002_7, u6002_9, u6002_12, u6002_22, u6002_23, u6002_26, u6002_29, u6002_32, u6002_42, u6002_43, u6002_46, u6002_47, u6002_50, gt_0_0, ob_1, ki_126, ki_32, af_x hd_6002, decide_eq_true_eq, if_true, if_false, f2_ne, f2_eq, up_ne, up_eq, kc_int, kc_ref, kc_retAddr, kc_long, kc_double, af_n, af_v, z0, z1, n_of, nz6, nz4, bI_T, bI_F, bI_01, n_lt, n_le, n_eq, n_add, n_mul, n_sub, n_clamp, n_vp, m_lt, m_le, m_eq, m_eq2, m_ltm, m_add, true_and, and_true, eq_self, if_pos, if_neg, List.length_nil, List.length_cons, Nat.reduceAdd, Nat.reduceLeDiff, Nat.zero_le, not_true_eq_false, not_false_eq_true, true_or, or_true]
theorem k_clearPad (c : gF F A G) : ∃ F2, (∀ P, am_Ca X (d + 8) 6003 [.ref 0] (am_Z cl sl F A L) P = P (.inl (some (.int (nI G.len)))) (am_Z cl sl F2 A L)) ∧ gF F2 A (mkG G.S G.m G.rs G.hs G.sn 0 G.pd) ∧ Fm F A F2 A := by
  obtain ⟨F2, e, p, hf⟩ := s_empty (d := d + 6) (X := X) (cl := cl) (sl := sl) (L := L) c.p
  refine ⟨F2, fun P => ?_, gF_pad c p hf (fun _ _ => rfl), ⟨fun z hz => hf z (by omega), fun _ _ => rfl⟩⟩
  rw [c6003]
  simp (disch := omega) only [e, u6003_0, u6003_1, u6003_4, u6003_7, gt_0_0, ob_1, af_x hd_6003, decide_eq_true_eq, if_true, if_false, f2_ne, f2_eq, up_ne, up_eq, kc_int, kc_ref, kc_retAddr, kc_long, kc_double, af_n, af_v, z0, z1, n_of, nz6, nz4, bI_T, bI_F, bI_01, n_lt, n_le, n_eq, n_add, n_mul, n_sub, n_clamp, n_vp, m_lt, m_le, m_eq, m_eq2, m_ltm, m_add, true_and, and_true, eq_self, if_pos, if_neg, List.length_nil, List.length_cons, Nat.reduceAdd, Nat.reduceLeDiff, Nat.zero_le, not_true_eq_false, not_false_eq_true, true_or, or_true]
theorem k_fault (c : gF F A G) : am_Ca X (d + 8) 6004 [.ref 0] (am_Z cl sl F A L) P = P (.inl (some (.int (pk (ffN G.len G.pd G.len 0 0))))) (am_Z cl sl F A L) := by
  rw [c6004]
  simp (disch := omega) only [s_firstFault c.p, u6004_0, u6004_1, u6004_4, u6004_7, gt_0_0, ob_1, af_x hd_6004, decide_eq_true_eq, if_true, if_false, f2_ne, f2_eq, up_ne, up_eq, kc_int, kc_ref, kc_retAddr, kc_long, kc_double, af_n, af_v, z0, z1, n_of, nz6, nz4, bI_T, bI_F, bI_01, n_lt, n_le, n_eq, n_add, n_mul, n_sub, n_clamp, n_vp, m_lt, m_le, m_eq, m_eq2, m_ltm, m_add, true_and, and_true, eq_self, if_pos, if_neg, List.length_nil, List.length_cons, Nat.reduceAdd, Nat.reduceLeDiff, Nat.zero_le, not_true_eq_false, not_false_eq_true, true_or, or_true]
end FE
