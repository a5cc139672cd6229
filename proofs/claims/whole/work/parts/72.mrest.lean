/-! THE MODEL: snapshot, undo, the pad -/
section QD
variable {d cl sl m t : Nat} {X : am_X} {F A : Nat → Nat → Int32} {L L2 : Nat → Nat → Int64} {P : am_Q} {S : Ab} {G : Fu}
theorem w_keep (c : mG F A G) (w : wG G) : wO X (d + 8) 7067 [.ref 70] cl sl F A L 0 (nI G.S.n) (mkG G.S G.m G.rs 1 G.S G.len G.pd) := by
  refine ⟨am_f2 (am_f2 F 70 8 (nI 0)) 70 3 (nI 1), va_up A 73 (va_cpy (A 71) (A 73) 0 0 1764), L, fun P => ?_, ?_, mG.mk ?_ c.z ?_ ?_ ?_ (fun _ => ⟨?_, c.z⟩) ?_ ?_, Fl_a (Fl_f (Fl_f Fl_id (by decide)) (by decide)) (by decide), Lf_id⟩
  · have ec := fun {F : Nat → Nat → Int32} {Q : am_Q} => m_copies (d := d + 6) (X := X) (cl := cl) (sl := sl) (F := F) (A := A) (L := L) (P := Q) (a := 71) (b := 73) (na := 1764) (nb := 1764) (sa := 0) (sb := 0) (by decide) (by decide) rfl rfl (by decide) (by decide) (by decide) (by decide) (by decide)
    rw [c7067]
    simp (disch := omega) only [ec, c.R.n0, u7067_0, u7067_1, u7067_2, u7067_5, u7067_6, u7067_7, u7067_10, u7067_11, u7067_14, u7067_15, u7067_16, u7067_19, u7067_20, u7067_23, u7067_24, u7067_27, u7067_30, u7067_31, pt_70_8, pt_70_3, gt_70_0, gt_70_2, xl_71, xl_73, ki_0, ki_1, ki_1762, af_x hd_7067, decide_eq_true_eq, if_true, if_false, f2_ne, f2_eq, up_ne, up_eq, kc_int, kc_ref, kc_retAddr, kc_long, kc_double, af_n, af_v, z0, z1, n_of, nz6, nz4, bI_T, bI_F, bI_01, n_lt, n_le, n_eq, n_add, n_mul, n_sub, n_clamp, n_vp, m_lt, m_le, m_eq, m_eq2, m_ltm, m_add, true_and, and_true, eq_self, if_pos, if_neg, List.length_nil, List.length_cons, Nat.reduceAdd, Nat.reduceLeDiff, Nat.zero_le, not_true_eq_false, not_false_eq_true, true_or, or_true]
  · rw [f2_eq, up_ne (by decide), f2_eq, up_eq]
  · rw [up_ne (by decide)]; exact c.R
  · rw [f2_eq, up_ne (by decide), f2_eq, up_ne (by decide)]; exact c.m
  · rw [up_ne (by decide)]; exact c.rs
  · rw [f2_eq, up_eq]; rfl
  · rw [up_eq]; exact mR_eq c.R w.w fun k hk => cpy_lo hk
  · rw [f2_eq, up_ne (by decide), f2_eq, up_ne (by decide)]; exact c.ln
  · rw [up_ne (by decide)]; exact c.pd
theorem w_goBack (h1 : G.hs = 1) (c : mG F A G) (w : wG G) : wO X (d + 8) 7068 [.ref 70] cl sl F A L 0 (nI G.sn.n) (setG (recG G) G.sn) := by
  have hs := c.hs
  rw [h1] at hs
  have rs := mR_eq (g := va_cpy (A 73) (A 71) 0 0 1764) (c.sn h1).1 (w.sn h1) fun k hk => cpy_lo hk
  have hF : ∀ k, k < 8 → bgF F 70 k = F 70 k := fun k hk => by
    unfold bgF
    rw [f2_eq, up_ne (by omega)]
  refine ⟨_, _, L, fun P => ?_, ?_, mG_fin (F2 := bgF F) c w hF rs (c.sn h1).2, ?_, Lf_id⟩
  · have ec : ∀ {Q : am_Q}, am_Ca X (d + 6 + 1) 7007 [.ref 73, .int (nI 0), .ref 71, .int (nI 0)] (am_Z cl sl (bgF F) (bgA A) L) Q = Q (.inl none) (am_Z cl sl (bgF F) (va_up (bgA A) 71 (va_cpy (A 73) (A 71) 0 0 1764)) L) := by
      intro Q
      have e1 : bgA A 73 = A 73 := up_ne (by decide)
      rw [m_copies (d := d + 6) (a := 73) (b := 71) (na := 1764) (nb := 1764) (sa := 0) (sb := 0) (by decide) (by decide) rfl rfl (by decide) (by decide) (by decide) (by decide) (by decide), e1, bg_71]
    have e3 : bgF F 70 3 = nI 1 := by rw [hF 3 (by decide), hs]
    have em := fun {Q : am_Q} => m_records (d := d + 5) (X := X) (cl := cl) (sl := sl) (L := L) (P := Q) (F := bgF F) (A := va_up (bgA A) 71 (va_cpy (A 73) (A 71) 0 0 1764)) (m := G.m) (by rw [hF 5 (by decide)]; exact c.m) w.m4
    have en : va_cpy (A 73) (A 71) 0 0 1764 1762 = nI G.sn.n := rs.n0
    rw [c7068]
    simp (disch := omega) only [m_begins2, e3, ec, em, en, u7068_0, u7068_1, u7068_4, u7068_5, u7068_8, u7068_11, u7068_12, u7068_13, u7068_16, u7068_17, u7068_18, u7068_21, u7068_22, u7068_23, u7068_26, u7068_27, u7068_30, u7068_31, u7068_34, u7068_35, u7068_38, u7068_41, u7068_42, ob_70, gt_70_3, gt_70_2, gt_70_0, xl_71, xl_73, ki_0, ki_1, ki_1762, af_x hd_7068, decide_eq_true_eq, if_true, if_false, f2_ne, f2_eq, up_ne, up_eq, kc_int, kc_ref, kc_retAddr, kc_long, kc_double, af_n, af_v, z0, z1, n_of, nz6, nz4, bI_T, bI_F, bI_01, n_lt, n_le, n_eq, n_add, n_mul, n_sub, n_clamp, n_vp, m_lt, m_le, m_eq, m_eq2, m_ltm, m_add, true_and, and_true, eq_self, if_pos, if_neg, List.length_nil, List.length_cons, Nat.reduceAdd, Nat.reduceLeDiff, Nat.zero_le, not_true_eq_false, not_false_eq_true, true_or, or_true]
  · unfold bgF
    rw [f2_eq, up_ne (by decide), f2_eq, up_eq]
  · exact Fl_a (Fl_f (Fl_a (Fl_a (Fl_f Fl_id (by decide)) (by decide)) (by decide)) (by decide)) (by decide)
theorem w_goBack_no (h1 : G.hs = 0) (c : mG F A G) (w : wG G) : wO X (d + 8) 7068 [.ref 70] cl sl F A L 1 (nI 0) G := by
  have hs := c.hs
  rw [h1] at hs
  have e3 : bgF F 70 3 = nI 0 := by
    unfold bgF
    rw [f2_eq, up_ne (by decide), hs]
  have mg := mG_no (t := nI 1) c c.R
  have ea : va_up (bgA A) 71 (A 71) = bgA A := by rw [← bg_71 (A := A), up_same]
  rw [ea] at mg
  refine ⟨_, _, L, fun P => ?_, ?_, mg, Fl_f (Fl_a (Fl_f Fl_id (by decide)) (by decide)) (by decide), Lf_id⟩
  · rw [c7068]
    simp (disch := omega) only [m_begins2, e3, m_fails, u7068_0, u7068_1, u7068_4, u7068_5, u7068_8, u7068_11, u7068_12, u7068_13, u7068_16, u7068_17, u7068_18, u7068_21, u7068_22, u7068_23, u7068_26, u7068_27, u7068_30, u7068_31, u7068_34, u7068_35, u7068_38, u7068_41, u7068_42, ob_70, gt_70_3, gt_70_2, gt_70_0, xl_71, xl_73, ki_0, ki_1, ki_1762, af_x hd_7068, decide_eq_true_eq, if_true, if_false, f2_ne, f2_eq, up_ne, up_eq, kc_int, kc_ref, kc_retAddr, kc_long, kc_double, af_n, af_v, z0, z1, n_of, nz6, nz4, bI_T, bI_F, bI_01, n_lt, n_le, n_eq, n_add, n_mul, n_sub, n_clamp, n_vp, m_lt, m_le, m_eq, m_eq2, m_ltm, m_add, true_and, and_true, eq_self, if_pos, if_neg, List.length_nil, List.length_cons, Nat.reduceAdd, Nat.reduceLeDiff, Nat.zero_le, not_true_eq_false, not_false_eq_true, true_or, or_true]
  · rw [f2_eq, up_eq]
theorem w_undo {m : Nat} (h1 : G.m = m + 1) (c : mG F A G) (w : wG G) : wO X (d + 8) 7069 [.ref 70] cl sl F A L 0 (nI m) (mkG (G.rs m) m G.rs G.hs G.sn G.len G.pd) := by
  have hm := c.m
  rw [h1] at hm
  have h4 := w.m4
  have rr := c.rs m (by omega)
  have ww := w.rs m (by omega)
  refine ⟨am_f2 (am_f2 F 70 8 (nI 0)) 70 5 (nI m), va_up A 71 (va_cpy (A 74) (A 71) (1764 * m) 0 1764), L, fun P => ?_, ?_, mG.mk ?_ rr.2 ?_ (fun a ha => ?_) ?_ ?_ ?_ ?_, Fl_a (Fl_f (Fl_f Fl_id (by decide)) (by decide)) (by decide), Lf_id⟩
  · have ec := fun {F : Nat → Nat → Int32} {Q : am_Q} => m_copies (d := d + 6) (X := X) (cl := cl) (sl := sl) (F := F) (A := A) (L := L) (P := Q) (a := 74) (b := 71) (na := 7056) (nb := 1764) (sa := 1764 * m) (sb := 0) (by decide) (by decide) rfl rfl (by decide) (by decide) (by omega) (by decide) (by decide)
    rw [c7069]
    simp (disch := omega) only [hm, m_asks1, Nat.add_sub_cancel, ec, u7069_0, u7069_1, u7069_2, u7069_5, u7069_8, u7069_9, u7069_12, u7069_13, u7069_16, u7069_19, u7069_20, u7069_21, u7069_22i, u7069_22r, u7069_23, u7069_26, u7069_27, u7069_28, u7069_31, u7069_32, u7069_35, u7069_38, u7069_39, u7069_42, u7069_43, u7069_44, u7069_47, u7069_48, u7069_51, u7069_52, u7069_55, gt_70_5, ob_70, pt_70_5, gt_70_4, gt_70_0, ki_0, ki_1, ki_1764, af_x hd_7069, decide_eq_true_eq, if_true, if_false, f2_ne, f2_eq, up_ne, up_eq, kc_int, kc_ref, kc_retAddr, kc_long, kc_double, af_n, af_v, z0, z1, n_of, nz6, nz4, bI_T, bI_F, bI_01, n_lt, n_le, n_eq, n_add, n_mul, n_sub, n_clamp, n_vp, m_lt, m_le, m_eq, m_eq2, m_ltm, m_add, true_and, and_true, eq_self, if_pos, if_neg, List.length_nil, List.length_cons, Nat.reduceAdd, Nat.reduceLeDiff, Nat.zero_le, not_true_eq_false, not_false_eq_true, true_or, or_true]
  · rw [f2_eq, up_ne (by decide), f2_eq, up_eq]
  · rw [up_eq]
    refine mR_eq rr.1 ww fun k hk => ?_
    rw [cpy_in (by omega) (by omega), Nat.sub_zero]
  · rw [f2_eq, up_eq]; rfl
  · have ha' : a < m := ha
    rw [up_ne (by decide)]; exact c.rs a (by omega)
  · rw [f2_eq, up_ne (by decide), f2_eq, up_ne (by decide)]; exact c.hs
  · rw [up_ne (by decide)]; exact c.sn
  · rw [f2_eq, up_ne (by decide), f2_eq, up_ne (by decide)]; exact c.ln
  · rw [up_ne (by decide)]; exact c.pd
theorem w_undo_no (h1 : G.m = 0) (c : mG F A G) (w : wG G) : wO X (d + 8) 7069 [.ref 70] cl sl F A L 1 (nI 0) G := wO_q c Lf_id fun P => by
  have hm := c.m
  rw [h1] at hm
  rw [c7069]
  simp (disch := omega) only [hm, m_asks0, u7069_0, u7069_1, u7069_2, u7069_5, u7069_8, u7069_9, u7069_12, u7069_13, u7069_16, u7069_19, u7069_20, u7069_21, u7069_22i, u7069_22r, u7069_23, u7069_26, u7069_27, u7069_28, u7069_31, u7069_32, u7069_35, u7069_38, u7069_39, u7069_42, u7069_43, u7069_44, u7069_47, u7069_48, u7069_51, u7069_52, u7069_55, gt_70_5, ob_70, pt_70_5, gt_70_4, gt_70_0, ki_0, ki_1, ki_1764, af_x hd_7069, decide_eq_true_eq, if_true, if_false, f2_ne, f2_eq, up_ne, up_eq, kc_int, kc_ref, kc_retAddr, kc_long, kc_double, af_n, af_v, z0, z1, n_of, nz6, nz4, bI_T, bI_F, bI_01, n_lt, n_le, n_eq, n_add, n_mul, n_sub, n_clamp, n_vp, m_lt, m_le, m_eq, m_eq2, m_ltm, m_add, true_and, and_true, eq_self, if_pos, if_neg, List.length_nil, List.length_cons, Nat.reduceAdd, Nat.reduceLeDiff, Nat.zero_le, not_true_eq_false, not_false_eq_true, true_or, or_true]
theorem w_type {v : Nat} (h1 : 32 ≤ v) (h2 : v ≤ 126) (hl : G.len < 60) (c : mG F A G) (w : wG G) : wO X (d + 8) 7070 [.ref 70, .int (nI v)] cl sl F A L 0 (nI (G.len + 1)) (mkG G.S G.m G.rs G.hs G.sn (G.len + 1) (va_up G.pd G.len v)) := by
  have ln := c.ln
  refine ⟨am_f2 (am_f2 F 70 8 (nI 0)) 70 7 (nI (G.len + 1)), am_f2 A 75 G.len (nI v), L, fun P => ?_, ?_, mG.mk ?_ c.z ?_ ?_ ?_ ?_ ?_ (fun i hi => ?_), Fl_a (Fl_f (Fl_f Fl_id (by decide)) (by decide)) (by decide), Lf_id⟩
  · rw [c7070]
    simp (disch := omega) only [m_inT, ln, u7070_0, u7070_1, u7070_2, u7070_5, u7070_6, u7070_8, u7070_10, u7070_13, u7070_16, u7070_17, u7070_18, u7070_21, u7070_22, u7070_23, u7070_26, u7070_28, u7070_31, u7070_32, u7070_33, u7070_36, u7070_37, u7070_38, u7070_41, u7070_42, u7070_45, u7070_46, u7070_47, u7070_48i, u7070_48r, u7070_49, u7070_52, u7070_53, u7070_54, u7070_57, u7070_58, u7070_61, pt_70_8, ob_70, gt_70_7, gt_70_6, pt_70_7, xs_75, ki_0, ki_1, ki_126, ki_2, ki_32, ki_60, af_x hd_7070, decide_eq_true_eq, if_true, if_false, f2_ne, f2_eq, up_ne, up_eq, kc_int, kc_ref, kc_retAddr, kc_long, kc_double, af_n, af_v, z0, z1, n_of, nz6, nz4, bI_T, bI_F, bI_01, n_lt, n_le, n_eq, n_add, n_mul, n_sub, n_clamp, n_vp, m_lt, m_le, m_eq, m_eq2, m_ltm, m_add, true_and, and_true, eq_self, if_pos, if_neg, List.length_nil, List.length_cons, Nat.reduceAdd, Nat.reduceLeDiff, Nat.zero_le, not_true_eq_false, not_false_eq_true, true_or, or_true]
  · rw [f2_eq, up_ne (by decide), f2_eq, up_eq]
  · rw [f2_ne (by decide)]; exact c.R
  · rw [f2_eq, up_ne (by decide), f2_eq, up_ne (by decide)]; exact c.m
  · rw [f2_ne (by decide)]; exact c.rs
  · rw [f2_eq, up_ne (by decide), f2_eq, up_ne (by decide)]; exact c.hs
  · rw [f2_ne (by decide)]; exact c.sn
  · rw [f2_eq, up_eq]; rfl
  · have hi' : i < G.len + 1 := hi
    rw [f2_eq]
    show va_up (A 75) G.len (nI v) i = nI (va_up G.pd G.len v i)
    by_cases e : i = G.len
    · rw [e, up_eq, up_eq]
    · rw [up_ne e, up_ne e]; exact c.pd i (by omega)
theorem w_type_bad {x : Int32} (h : noT x) (c : mG F A G) (w : wG G) : wO X (d + 8) 7070 [.ref 70, .int x] cl sl F A L 1 (nI 0) G := wO_q c Lf_id fun P => by
  have e1 : bI (nI 32 ≤ x ∧ x ≤ nI 126) = nI 0 := bI_f fun z => by
    rcases h with h | h
    · exact Int32.not_le.mpr h z.1
    · exact Int32.not_le.mpr h z.2
  rw [c7070]
  simp (disch := omega) only [m_in, e1, m_fails, f2_f2, u7070_0, u7070_1, u7070_2, u7070_5, u7070_6, u7070_8, u7070_10, u7070_13, u7070_16, u7070_17, u7070_18, u7070_21, u7070_22, u7070_23, u7070_26, u7070_28, u7070_31, u7070_32, u7070_33, u7070_36, u7070_37, u7070_38, u7070_41, u7070_42, u7070_45, u7070_46, u7070_47, u7070_48i, u7070_48r, u7070_49, u7070_52, u7070_53, u7070_54, u7070_57, u7070_58, u7070_61, pt_70_8, ob_70, gt_70_7, gt_70_6, pt_70_7, xs_75, ki_0, ki_1, ki_126, ki_2, ki_32, ki_60, af_x hd_7070, decide_eq_true_eq, if_true, if_false, f2_ne, f2_eq, up_ne, up_eq, kc_int, kc_ref, kc_retAddr, kc_long, kc_double, af_n, af_v, z0, z1, n_of, nz6, nz4, bI_T, bI_F, bI_01, n_lt, n_le, n_eq, n_add, n_mul, n_sub, n_clamp, n_vp, m_lt, m_le, m_eq, m_eq2, m_ltm, m_add, true_and, and_true, eq_self, if_pos, if_neg, List.length_nil, List.length_cons, Nat.reduceAdd, Nat.reduceLeDiff, Nat.zero_le, not_true_eq_false, not_false_eq_true, true_or, or_true]
theorem w_type_full {v : Nat} (h1 : 32 ≤ v) (h2 : v ≤ 126) (hl : G.len = 60) (c : mG F A G) (w : wG G) : wO X (d + 8) 7070 [.ref 70, .int (nI v)] cl sl F A L 2 (nI 0) G := wO_q c Lf_id fun P => by
  have ln := c.ln
  rw [hl] at ln
  rw [c7070]
  simp (disch := omega) only [m_inT, ln, m_fails, f2_f2, u7070_0, u7070_1, u7070_2, u7070_5, u7070_6, u7070_8, u7070_10, u7070_13, u7070_16, u7070_17, u7070_18, u7070_21, u7070_22, u7070_23, u7070_26, u7070_28, u7070_31, u7070_32, u7070_33, u7070_36, u7070_37, u7070_38, u7070_41, u7070_42, u7070_45, u7070_46, u7070_47, u7070_48i, u7070_48r, u7070_49, u7070_52, u7070_53, u7070_54, u7070_57, u7070_58, u7070_61, pt_70_8, ob_70, gt_70_7, gt_70_6, pt_70_7, xs_75, ki_0, ki_1, ki_126, ki_2, ki_32, ki_60, af_x hd_7070, decide_eq_true_eq, if_true, if_false, f2_ne, f2_eq, up_ne, up_eq, kc_int, kc_ref, kc_retAddr, kc_long, kc_double, af_n, af_v, z0, z1, n_of, nz6, nz4, bI_T, bI_F, bI_01, n_lt, n_le, n_eq, n_add, n_mul, n_sub, n_clamp, n_vp, m_lt, m_le, m_eq, m_eq2, m_ltm, m_add, true_and, and_true, eq_self, if_pos, if_neg, List.length_nil, List.length_cons, Nat.reduceAdd, Nat.reduceLeDiff, Nat.zero_le, not_true_eq_false, not_false_eq_true, true_or, or_true]
theorem w_clearPad (c : mG F A G) (w : wG G) : wO X (d + 8) 7071 [.ref 70] cl sl F A L 0 (nI G.len) (mkG G.S G.m G.rs G.hs G.sn 0 G.pd) := by
  have ln := c.ln
  refine ⟨am_f2 (am_f2 F 70 8 (nI 0)) 70 7 (nI 0), A, L, fun P => ?_, ?_, mG.mk c.R c.z ?_ c.rs ?_ c.sn ?_ (fun i hi => absurd (show i < 0 from hi) (by omega)), Fl_f (Fl_f Fl_id (by decide)) (by decide), Lf_id⟩
  · rw [c7071]
    simp (disch := omega) only [ln, u7071_0, u7071_1, u7071_2, u7071_5, u7071_6, u7071_9, u7071_10, u7071_11, u7071_12, u7071_15, u7071_16, pt_70_8, gt_70_7, pt_70_7, ki_0, af_x hd_7071, decide_eq_true_eq, if_true, if_false, f2_ne, f2_eq, up_ne, up_eq, kc_int, kc_ref, kc_retAddr, kc_long, kc_double, af_n, af_v, z0, z1, n_of, nz6, nz4, bI_T, bI_F, bI_01, n_lt, n_le, n_eq, n_add, n_mul, n_sub, n_clamp, n_vp, m_lt, m_le, m_eq, m_eq2, m_ltm, m_add, true_and, and_true, eq_self, if_pos, if_neg, List.length_nil, List.length_cons, Nat.reduceAdd, Nat.reduceLeDiff, Nat.zero_le, not_true_eq_false, not_false_eq_true, true_or, or_true]
  · rw [f2_eq, up_ne (by decide), f2_eq, up_eq]
  · rw [f2_eq, up_ne (by decide), f2_eq, up_ne (by decide)]; exact c.m
  · rw [f2_eq, up_ne (by decide), f2_eq, up_ne (by decide)]; exact c.hs
  · rw [f2_eq, up_eq]; rfl
theorem w_fault (c : mG F A G) (w : wG G) : wO X (d + 8) 7078 [.ref 70] cl sl F A L 0 (pk (ffN G.len G.pd G.len 0 0)) G := by
  obtain ⟨F2, e, h8, f⟩ := m_fault (d := d + 2) (X := X) (cl := cl) (sl := sl) (L := L) (pad_of c w) c.ln
  have hF : ∀ k, k < 8 → F2 70 k = F 70 k := fun k hk => by rw [f.2 k (by omega), f2_eq, up_ne (by omega)]
  refine ⟨F2, A, L, e, h8, mG.mk c.R c.z ?_ c.rs ?_ c.sn ?_ c.pd, ⟨fun o ho => ?_, fun _ _ => rfl⟩, Lf_id⟩
  · rw [hF 5 (by decide)]; exact c.m
  · rw [hF 3 (by decide)]; exact c.hs
  · rw [hF 7 (by decide)]; exact c.ln
  · rw [f.1 o (by omega), f2_ne (by omega)]
end QD
