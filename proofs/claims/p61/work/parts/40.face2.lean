/-! THE FACE: the calls that change now -/
section FD
variable {d cl sl : Nat} {X : am_X} {F A : Nat → Nat → Int32} {L : Nat → Nat → Int64} {P : am_Q} {G : Fu}
theorem k_commit  (c : gF F A G) (hm : mayC G.S) (hcl : 70 < cl) : ∃ F2 A2, (∀ P, am_Ca X (d + 8) 6007 [.ref 0] (am_Z cl sl F A L) P = P (.inl (some (.int (nI G.S.n)))) (am_Z cl sl F2 A2 L)) ∧ gF F2 A2 (setG (recG G) (cmS2 G.S)) ∧ Fm F A F2 A2 := by
  have F0 : Fm F A F A := Fm_id
  have c0 := c
  obtain ⟨F1, A1, e1, c1, f1⟩ := f_record (d := d + 4) (X := X) (cl := cl) (sl := sl) (L := L) c0 hcl
  have R1 : cR F1 A1 4 G.S := c1.R
  obtain ⟨F2, A2, e2, R2, f2⟩ := r_doCommit (d := d + 3) (X := X) (cl := cl) (sl := sl) (L := L) R1 c.w hm.2.2 hcl
  refine ⟨F2, A2, fun P => ?_, gF_set c1 R2 (wS_addC c.w hm.2.2 (by split; exact c.w.mgn; exact Nat.zero_le _)) f2, Fm_tr F0 (Fm_tr f1 (Fm_fr f2))⟩
  rw [c6007]
  simp (disch := omega) only [r_mayCommit c.R c.w, bI_t hm, e1, e2, u6007_0, u6007_1, u6007_4, u6007_7, u6007_10, u6007_20, u6007_21, u6007_24, u6007_25, u6007_28, u6007_31, gt_0_1, ob_3, ob_0, af_x hd_6007, decide_eq_true_eq, if_true, if_false, f2_ne, f2_eq, up_ne, up_eq, kc_int, kc_ref, kc_retAddr, kc_long, kc_double, af_n, af_v, z0, z1, n_of, nz6, nz4, bI_T, bI_F, bI_01, n_lt, n_le, n_eq, n_add, n_mul, n_sub, n_clamp, n_vp, m_lt, m_le, m_eq, m_eq2, m_ltm, m_add, true_and, and_true, eq_self, if_pos, if_neg, List.length_nil, List.length_cons, Nat.reduceAdd, Nat.reduceLeDiff, Nat.zero_le, not_true_eq_false, not_false_eq_true, true_or, or_true]
theorem k_commit_no  (c : gF F A G) (hm : ¬ (mayC G.S)) (hcl : 70 < cl) : ∃ F2 A2, (∀ P, am_Ca X (d + 8) 6007 [.ref 0] (am_Z cl sl F A L) P = P (.inr 1) (am_Z (cl + 1) (sl + 6) F2 A2 L)) ∧ gF F2 A2 G ∧ Fm F A F2 A2 := by
  have hcl' : (70 ≤ cl) = True := eq_true (by omega)
  have F0 : Fm F A F A := Fm_id
  have c0 := c
  refine ⟨F, A, fun P => ?_, c0, F0⟩
  rw [c6007]
  simp (disch := omega) only [r_mayCommit c.R c.w, bI_f hm, hcl', u6007_0, u6007_1, u6007_4, u6007_7, u6007_10, u6007_20, u6007_21, u6007_24, u6007_25, u6007_28, u6007_31, gt_0_1, ob_3, ob_0, af_x hd_6007, decide_eq_true_eq, if_true, if_false, f2_ne, f2_eq, up_ne, up_eq, kc_int, kc_ref, kc_retAddr, kc_long, kc_double, af_n, af_v, z0, z1, n_of, nz6, nz4, bI_T, bI_F, bI_01, n_lt, n_le, n_eq, n_add, n_mul, n_sub, n_clamp, n_vp, m_lt, m_le, m_eq, m_eq2, m_ltm, m_add, true_and, and_true, eq_self, if_pos, if_neg, List.length_nil, List.length_cons, Nat.reduceAdd, Nat.reduceLeDiff, Nat.zero_le, not_true_eq_false, not_false_eq_true, true_or, or_true]
theorem k_putAside  (c : gF F A G) (hm : mayA G.S) (hcl : 70 < cl) : ∃ F2 A2, (∀ P, am_Ca X (d + 8) 6009 [.ref 0] (am_Z cl sl F A L) P = P (.inl (some (.int (nI (G.S.ac + 1))))) (am_Z cl sl F2 A2 L)) ∧ gF F2 A2 (setG (recG G) (stand (push G.S) (hd G.S))) ∧ Fm F A F2 A2 := by
  have F0 : Fm F A F A := Fm_id
  have c0 := c
  obtain ⟨F1, A1, e1, c1, f1⟩ := f_record (d := d + 4) (X := X) (cl := cl) (sl := sl) (L := L) c0 hcl
  have R1 : cR F1 A1 4 G.S := c1.R
  obtain ⟨F2, A2, e2, R2, f2⟩ := r_doPutAside (d := d + 3) (X := X) (cl := cl) (sl := sl) (L := L) R1 c.w hm.2.2 hcl
  refine ⟨F2, A2, fun P => ?_, gF_set c1 R2 (wS_stand (wS_push c.w hm.2.2) (hd_n c.w)) f2, Fm_tr F0 (Fm_tr f1 (Fm_fr f2))⟩
  rw [c6009]
  simp (disch := omega) only [r_mayPutAside c.R c.w, bI_t hm, e1, e2, u6009_0, u6009_1, u6009_4, u6009_7, u6009_10, u6009_20, u6009_21, u6009_24, u6009_25, u6009_28, u6009_31, gt_0_1, ob_3, ob_0, af_x hd_6009, decide_eq_true_eq, if_true, if_false, f2_ne, f2_eq, up_ne, up_eq, kc_int, kc_ref, kc_retAddr, kc_long, kc_double, af_n, af_v, z0, z1, n_of, nz6, nz4, bI_T, bI_F, bI_01, n_lt, n_le, n_eq, n_add, n_mul, n_sub, n_clamp, n_vp, m_lt, m_le, m_eq, m_eq2, m_ltm, m_add, true_and, and_true, eq_self, if_pos, if_neg, List.length_nil, List.length_cons, Nat.reduceAdd, Nat.reduceLeDiff, Nat.zero_le, not_true_eq_false, not_false_eq_true, true_or, or_true]
theorem k_putAside_no  (c : gF F A G) (hm : ¬ (mayA G.S)) (hcl : 70 < cl) : ∃ F2 A2, (∀ P, am_Ca X (d + 8) 6009 [.ref 0] (am_Z cl sl F A L) P = P (.inr 1) (am_Z (cl + 1) (sl + 6) F2 A2 L)) ∧ gF F2 A2 G ∧ Fm F A F2 A2 := by
  have hcl' : (70 ≤ cl) = True := eq_true (by omega)
  have F0 : Fm F A F A := Fm_id
  have c0 := c
  refine ⟨F, A, fun P => ?_, c0, F0⟩
  rw [c6009]
  simp (disch := omega) only [r_mayPutAside c.R c.w, bI_f hm, hcl', u6009_0, u6009_1, u6009_4, u6009_7, u6009_10, u6009_20, u6009_21, u6009_24, u6009_25, u6009_28, u6009_31, gt_0_1, ob_3, ob_0, af_x hd_6009, decide_eq_true_eq, if_true, if_false, f2_ne, f2_eq, up_ne, up_eq, kc_int, kc_ref, kc_retAddr, kc_long, kc_double, af_n, af_v, z0, z1, n_of, nz6, nz4, bI_T, bI_F, bI_01, n_lt, n_le, n_eq, n_add, n_mul, n_sub, n_clamp, n_vp, m_lt, m_le, m_eq, m_eq2, m_ltm, m_add, true_and, and_true, eq_self, if_pos, if_neg, List.length_nil, List.length_cons, Nat.reduceAdd, Nat.reduceLeDiff, Nat.zero_le, not_true_eq_false, not_false_eq_true, true_or, or_true]
theorem k_takeBack  (c : gF F A G) (hm : mayT G.S) (hcl : 70 < cl) : ∃ F2 A2, (∀ P, am_Ca X (d + 8) 6010 [.ref 0] (am_Z cl sl F A L) P = P (.inl (some (.int (nI (cnt (kB (G.S.T (G.S.ah (G.S.ac - 1))) (G.S.aT (G.S.ac - 1)) G.S.W) 24))))) (am_Z cl sl F2 A2 L)) ∧ gF F2 A2 (setG (recG G) (tbS G.S)) ∧ Fm F A F2 A2 := by
  obtain ⟨F00, A0, em, R0, f0⟩ := r_mayTakeBack (d := d + 3) (X := X) (cl := cl) (sl := sl) (L := L) c.R c.w hcl
  have c0 := gF_fr c R0 f0
  have F0 := Fm_fr f0
  obtain ⟨F1, A1, e1, c1, f1⟩ := f_record (d := d + 4) (X := X) (cl := cl) (sl := sl) (L := L) c0 hcl
  have R1 : cR F1 A1 4 G.S := c1.R
  obtain ⟨F2, A2, e2, R2, f2⟩ := r_doTakeBack (d := d + 3) (X := X) (cl := cl) (sl := sl) (L := L) R1 c.w hm.1 hcl
  refine ⟨F2, A2, fun P => ?_, gF_set c1 R2 (wS_tb c.w hm.1) f2, Fm_tr F0 (Fm_tr f1 (Fm_fr f2))⟩
  rw [c6010]
  simp (disch := omega) only [em, bI_t hm, e1, e2, u6010_0, u6010_1, u6010_4, u6010_7, u6010_10, u6010_20, u6010_21, u6010_24, u6010_25, u6010_28, u6010_31, gt_0_1, ob_3, ob_0, af_x hd_6010, decide_eq_true_eq, if_true, if_false, f2_ne, f2_eq, up_ne, up_eq, kc_int, kc_ref, kc_retAddr, kc_long, kc_double, af_n, af_v, z0, z1, n_of, nz6, nz4, bI_T, bI_F, bI_01, n_lt, n_le, n_eq, n_add, n_mul, n_sub, n_clamp, n_vp, m_lt, m_le, m_eq, m_eq2, m_ltm, m_add, true_and, and_true, eq_self, if_pos, if_neg, List.length_nil, List.length_cons, Nat.reduceAdd, Nat.reduceLeDiff, Nat.zero_le, not_true_eq_false, not_false_eq_true, true_or, or_true]
theorem k_takeBack_no  (c : gF F A G) (hm : ¬ (mayT G.S)) (hcl : 70 < cl) : ∃ F2 A2, (∀ P, am_Ca X (d + 8) 6010 [.ref 0] (am_Z cl sl F A L) P = P (.inr 1) (am_Z (cl + 1) (sl + 6) F2 A2 L)) ∧ gF F2 A2 G ∧ Fm F A F2 A2 := by
  have hcl' : (70 ≤ cl) = True := eq_true (by omega)
  obtain ⟨F00, A0, em, R0, f0⟩ := r_mayTakeBack (d := d + 3) (X := X) (cl := cl) (sl := sl) (L := L) c.R c.w hcl
  have c0 := gF_fr c R0 f0
  have F0 := Fm_fr f0
  refine ⟨F00, A0, fun P => ?_, c0, F0⟩
  rw [c6010]
  simp (disch := omega) only [em, bI_f hm, hcl', u6010_0, u6010_1, u6010_4, u6010_7, u6010_10, u6010_20, u6010_21, u6010_24, u6010_25, u6010_28, u6010_31, gt_0_1, ob_3, ob_0, af_x hd_6010, decide_eq_true_eq, if_true, if_false, f2_ne, f2_eq, up_ne, up_eq, kc_int, kc_ref, kc_retAddr, kc_long, kc_double, af_n, af_v, z0, z1, n_of, nz6, nz4, bI_T, bI_F, bI_01, n_lt, n_le, n_eq, n_add, n_mul, n_sub, n_clamp, n_vp, m_lt, m_le, m_eq, m_eq2, m_ltm, m_add, true_and, and_true, eq_self, if_pos, if_neg, List.length_nil, List.length_cons, Nat.reduceAdd, Nat.reduceLeDiff, Nat.zero_le, not_true_eq_false, not_false_eq_true, true_or, or_true]
theorem k_newBranch  (c : gF F A G) (hm : ¬ lfN G.S.br 6 0 = 0) (hcl : 70 < cl) : ∃ F2 A2, (∀ P, am_Ca X (d + 8) 6011 [.ref 0] (am_Z cl sl F A L) P = P (.inl (some (.int (nI (lfN G.S.br 6 0 - 1))))) (am_Z cl sl F2 A2 L)) ∧ gF F2 A2 (setG (recG G) (setB G.S (lfN G.S.br 6 0 - 1) (hd G.S + 1))) ∧ Fm F A F2 A2 := by
  have F0 : Fm F A F A := Fm_id
  have c0 := c
  obtain ⟨F1, A1, e1, c1, f1⟩ := f_record (d := d + 4) (X := X) (cl := cl) (sl := sl) (L := L) c0 hcl
  have R1 : cR F1 A1 4 G.S := c1.R
  obtain ⟨F2, A2, e2, R2, f2⟩ := r_doBranch (d := d + 3) (X := X) (cl := cl) (sl := sl) (L := L) R1 c.w (z := lfN G.S.br 6 0 - 1) (by omega)
  refine ⟨F2, A2, fun P => ?_, gF_set c1 R2 (wS_setB c.w (hd_n c.w) (fun _ => by omega)) f2, Fm_tr F0 (Fm_tr f1 (Fm_fr f2))⟩
  rw [c6011]
  simp (disch := omega) only [r_mayBranch c.R c.w, bI_t hm, e1, e2, u6011_0, u6011_1, u6011_4, u6011_7, u6011_10, u6011_20, u6011_21, u6011_24, u6011_25, u6011_28, u6011_31, gt_0_1, ob_3, ob_0, af_x hd_6011, decide_eq_true_eq, if_true, if_false, f2_ne, f2_eq, up_ne, up_eq, kc_int, kc_ref, kc_retAddr, kc_long, kc_double, af_n, af_v, z0, z1, n_of, nz6, nz4, bI_T, bI_F, bI_01, n_lt, n_le, n_eq, n_add, n_mul, n_sub, n_clamp, n_vp, m_lt, m_le, m_eq, m_eq2, m_ltm, m_add, true_and, and_true, eq_self, if_pos, if_neg, List.length_nil, List.length_cons, Nat.reduceAdd, Nat.reduceLeDiff, Nat.zero_le, not_true_eq_false, not_false_eq_true, true_or, or_true]
theorem k_newBranch_no  (c : gF F A G) (hm : ¬ (¬ lfN G.S.br 6 0 = 0)) (hcl : 70 < cl) : ∃ F2 A2, (∀ P, am_Ca X (d + 8) 6011 [.ref 0] (am_Z cl sl F A L) P = P (.inr 1) (am_Z (cl + 1) (sl + 6) F2 A2 L)) ∧ gF F2 A2 G ∧ Fm F A F2 A2 := by
  have hcl' : (70 ≤ cl) = True := eq_true (by omega)
  have F0 : Fm F A F A := Fm_id
  have c0 := c
  refine ⟨F, A, fun P => ?_, c0, F0⟩
  rw [c6011]
  simp (disch := omega) only [r_mayBranch c.R c.w, bI_f hm, hcl', u6011_0, u6011_1, u6011_4, u6011_7, u6011_10, u6011_20, u6011_21, u6011_24, u6011_25, u6011_28, u6011_31, gt_0_1, ob_3, ob_0, af_x hd_6011, decide_eq_true_eq, if_true, if_false, f2_ne, f2_eq, up_ne, up_eq, kc_int, kc_ref, kc_retAddr, kc_long, kc_double, af_n, af_v, z0, z1, n_of, nz6, nz4, bI_T, bI_F, bI_01, n_lt, n_le, n_eq, n_add, n_mul, n_sub, n_clamp, n_vp, m_lt, m_le, m_eq, m_eq2, m_ltm, m_add, true_and, and_true, eq_self, if_pos, if_neg, List.length_nil, List.length_cons, Nat.reduceAdd, Nat.reduceLeDiff, Nat.zero_le, not_true_eq_false, not_false_eq_true, true_or, or_true]
theorem k_abort  (c : gF F A G) (hm : ¬ G.S.op = 0) (hcl : 70 < cl) : ∃ F2 A2, (∀ P, am_Ca X (d + 8) 6019 [.ref 0] (am_Z cl sl F A L) P = P (.inl (some (.int (nI (nco G.S))))) (am_Z cl sl F2 A2 L)) ∧ gF F2 A2 (setG (recG G) (stand G.S (hd G.S))) ∧ Fm F A F2 A2 := by
  have F0 : Fm F A F A := Fm_id
  have c0 := c
  obtain ⟨F1, A1, e1, c1, f1⟩ := f_record (d := d + 4) (X := X) (cl := cl) (sl := sl) (L := L) c0 hcl
  have R1 : cR F1 A1 4 G.S := c1.R
  obtain ⟨F2, A2, e2, R2, f2⟩ := r_doAbort (d := d + 3) (X := X) (cl := cl) (sl := sl) (L := L) R1 c.w hcl
  refine ⟨F2, A2, fun P => ?_, gF_set c1 R2 (wS_stand c.w (hd_n c.w)) f2, Fm_tr F0 (Fm_tr f1 (Fm_fr f2))⟩
  rw [c6019]
  simp (disch := omega) only [r_mayAbort c.R c.w, bI_t hm, e1, e2, u6019_0, u6019_1, u6019_4, u6019_7, u6019_10, u6019_20, u6019_21, u6019_24, u6019_25, u6019_28, u6019_31, gt_0_1, ob_3, ob_0, af_x hd_6019, decide_eq_true_eq, if_true, if_false, f2_ne, f2_eq, up_ne, up_eq, kc_int, kc_ref, kc_retAddr, kc_long, kc_double, af_n, af_v, z0, z1, n_of, nz6, nz4, bI_T, bI_F, bI_01, n_lt, n_le, n_eq, n_add, n_mul, n_sub, n_clamp, n_vp, m_lt, m_le, m_eq, m_eq2, m_ltm, m_add, true_and, and_true, eq_self, if_pos, if_neg, List.length_nil, List.length_cons, Nat.reduceAdd, Nat.reduceLeDiff, Nat.zero_le, not_true_eq_false, not_false_eq_true, true_or, or_true]
theorem k_abort_no  (c : gF F A G) (hm : ¬ (¬ G.S.op = 0)) (hcl : 70 < cl) : ∃ F2 A2, (∀ P, am_Ca X (d + 8) 6019 [.ref 0] (am_Z cl sl F A L) P = P (.inr 1) (am_Z (cl + 1) (sl + 6) F2 A2 L)) ∧ gF F2 A2 G ∧ Fm F A F2 A2 := by
  have hcl' : (70 ≤ cl) = True := eq_true (by omega)
  have F0 : Fm F A F A := Fm_id
  have c0 := c
  refine ⟨F, A, fun P => ?_, c0, F0⟩
  rw [c6019]
  simp (disch := omega) only [r_mayAbort c.R c.w, bI_f hm, hcl', u6019_0, u6019_1, u6019_4, u6019_7, u6019_10, u6019_20, u6019_21, u6019_24, u6019_25, u6019_28, u6019_31, gt_0_1, ob_3, ob_0, af_x hd_6019, decide_eq_true_eq, if_true, if_false, f2_ne, f2_eq, up_ne, up_eq, kc_int, kc_ref, kc_retAddr, kc_long, kc_double, af_n, af_v, z0, z1, n_of, nz6, nz4, bI_T, bI_F, bI_01, n_lt, n_le, n_eq, n_add, n_mul, n_sub, n_clamp, n_vp, m_lt, m_le, m_eq, m_eq2, m_ltm, m_add, true_and, and_true, eq_self, if_pos, if_neg, List.length_nil, List.length_cons, Nat.reduceAdd, Nat.reduceLeDiff, Nat.zero_le, not_true_eq_false, not_false_eq_true, true_or, or_true]
theorem k_dropBranch {b : Nat} (hb : b < 6) (c : gF F A G) (hm : ¬ G.S.br b = 0 ∧ ¬ b = G.S.cur) (hcl : 70 < cl) : ∃ F2 A2, (∀ P, am_Ca X (d + 8) 6012 [.ref 0, .int (nI b)] (am_Z cl sl F A L) P = P (.inl (some (.int (pk (G.S.br b))))) (am_Z cl sl F2 A2 L)) ∧ gF F2 A2 (setG (recG G) (setB G.S b 0)) ∧ Fm F A F2 A2 := by
  have F0 : Fm F A F A := Fm_id
  have c0 := c
  obtain ⟨F1, A1, e1, c1, f1⟩ := f_record (d := d + 4) (X := X) (cl := cl) (sl := sl) (L := L) c0 hcl
  have R1 : cR F1 A1 4 G.S := c1.R
  obtain ⟨F2, A2, e2, R2, f2⟩ := r_doDrop (d := d + 3) (X := X) (cl := cl) (sl := sl) (L := L) R1 c.w hb
  refine ⟨F2, A2, fun P => ?_, gF_set c1 R2 (wS_setB c.w (Nat.zero_le _) (fun e => absurd e hm.2)) f2, Fm_tr F0 (Fm_tr f1 (Fm_fr f2))⟩
  rw [c6012]
  simp (disch := omega) only [f_branchNo hb, r_mayDrop c.R c.w hb, bI_t hm, e1, e2, u6012_0, u6012_1, u6012_4, u6012_5, u6012_8, u6012_9, u6012_12, u6012_15, u6012_25, u6012_26, u6012_29, u6012_30, u6012_33, u6012_34, u6012_37, gt_0_1, ob_3, ob_0, af_x hd_6012, decide_eq_true_eq, if_true, if_false, f2_ne, f2_eq, up_ne, up_eq, kc_int, kc_ref, kc_retAddr, kc_long, kc_double, af_n, af_v, z0, z1, n_of, nz6, nz4, bI_T, bI_F, bI_01, n_lt, n_le, n_eq, n_add, n_mul, n_sub, n_clamp, n_vp, m_lt, m_le, m_eq, m_eq2, m_ltm, m_add, true_and, and_true, eq_self, if_pos, if_neg, List.length_nil, List.length_cons, Nat.reduceAdd, Nat.reduceLeDiff, Nat.zero_le, not_true_eq_false, not_false_eq_true, true_or, or_true]
theorem k_dropBranch_no {b : Nat} (hb : b < 6) (c : gF F A G) (hm : ¬ (¬ G.S.br b = 0 ∧ ¬ b = G.S.cur)) (hcl : 70 < cl) : ∃ F2 A2, (∀ P, am_Ca X (d + 8) 6012 [.ref 0, .int (nI b)] (am_Z cl sl F A L) P = P (.inr 1) (am_Z (cl + 1) (sl + 6) F2 A2 L)) ∧ gF F2 A2 G ∧ Fm F A F2 A2 := by
  have hcl' : (70 ≤ cl) = True := eq_true (by omega)
  have F0 : Fm F A F A := Fm_id
  have c0 := c
  refine ⟨F, A, fun P => ?_, c0, F0⟩
  rw [c6012]
  simp (disch := omega) only [f_branchNo hb, r_mayDrop c.R c.w hb, bI_f hm, hcl', u6012_0, u6012_1, u6012_4, u6012_5, u6012_8, u6012_9, u6012_12, u6012_15, u6012_25, u6012_26, u6012_29, u6012_30, u6012_33, u6012_34, u6012_37, gt_0_1, ob_3, ob_0, af_x hd_6012, decide_eq_true_eq, if_true, if_false, f2_ne, f2_eq, up_ne, up_eq, kc_int, kc_ref, kc_retAddr, kc_long, kc_double, af_n, af_v, z0, z1, n_of, nz6, nz4, bI_T, bI_F, bI_01, n_lt, n_le, n_eq, n_add, n_mul, n_sub, n_clamp, n_vp, m_lt, m_le, m_eq, m_eq2, m_ltm, m_add, true_and, and_true, eq_self, if_pos, if_neg, List.length_nil, List.length_cons, Nat.reduceAdd, Nat.reduceLeDiff, Nat.zero_le, not_true_eq_false, not_false_eq_true, true_or, or_true]
theorem k_switchTo {b : Nat} (hb : b < 6) (c : gF F A G) (hm : mayS G.S b) (hcl : 70 < cl) : ∃ F2 A2, (∀ P, am_Ca X (d + 8) 6013 [.ref 0, .int (nI b)] (am_Z cl sl F A L) P = P (.inl (some (.int (nI (G.S.br b - 1))))) (am_Z cl sl F2 A2 L)) ∧ gF F2 A2 (setG (recG G) (stand (curB G.S b) (G.S.br b - 1))) ∧ Fm F A F2 A2 := by
  have F0 : Fm F A F A := Fm_id
  have c0 := c
  obtain ⟨F1, A1, e1, c1, f1⟩ := f_record (d := d + 4) (X := X) (cl := cl) (sl := sl) (L := L) c0 hcl
  have R1 : cR F1 A1 4 G.S := c1.R
  obtain ⟨F2, A2, e2, R2, f2⟩ := r_doSwitch (d := d + 3) (X := X) (cl := cl) (sl := sl) (L := L) R1 c.w hb hm.1 hcl
  refine ⟨F2, A2, fun P => ?_, gF_set c1 R2 (wS_stand (wS_cur c.w hb hm.1) (br_n c.w hb hm.1)) f2, Fm_tr F0 (Fm_tr f1 (Fm_fr f2))⟩
  rw [c6013]
  simp (disch := omega) only [f_branchNo hb, r_maySwitch c.R c.w hb, bI_t hm, e1, e2, u6013_0, u6013_1, u6013_4, u6013_5, u6013_8, u6013_9, u6013_12, u6013_15, u6013_25, u6013_26, u6013_29, u6013_30, u6013_33, u6013_34, u6013_37, gt_0_1, ob_3, ob_0, af_x hd_6013, decide_eq_true_eq, if_true, if_false, f2_ne, f2_eq, up_ne, up_eq, kc_int, kc_ref, kc_retAddr, kc_long, kc_double, af_n, af_v, z0, z1, n_of, nz6, nz4, bI_T, bI_F, bI_01, n_lt, n_le, n_eq, n_add, n_mul, n_sub, n_clamp, n_vp, m_lt, m_le, m_eq, m_eq2, m_ltm, m_add, true_and, and_true, eq_self, if_pos, if_neg, List.length_nil, List.length_cons, Nat.reduceAdd, Nat.reduceLeDiff, Nat.zero_le, not_true_eq_false, not_false_eq_true, true_or, or_true]
theorem k_switchTo_no {b : Nat} (hb : b < 6) (c : gF F A G) (hm : ¬ (mayS G.S b)) (hcl : 70 < cl) : ∃ F2 A2, (∀ P, am_Ca X (d + 8) 6013 [.ref 0, .int (nI b)] (am_Z cl sl F A L) P = P (.inr 1) (am_Z (cl + 1) (sl + 6) F2 A2 L)) ∧ gF F2 A2 G ∧ Fm F A F2 A2 := by
  have hcl' : (70 ≤ cl) = True := eq_true (by omega)
  have F0 : Fm F A F A := Fm_id
  have c0 := c
  refine ⟨F, A, fun P => ?_, c0, F0⟩
  rw [c6013]
  simp (disch := omega) only [f_branchNo hb, r_maySwitch c.R c.w hb, bI_f hm, hcl', u6013_0, u6013_1, u6013_4, u6013_5, u6013_8, u6013_9, u6013_12, u6013_15, u6013_25, u6013_26, u6013_29, u6013_30, u6013_33, u6013_34, u6013_37, gt_0_1, ob_3, ob_0, af_x hd_6013, decide_eq_true_eq, if_true, if_false, f2_ne, f2_eq, up_ne, up_eq, kc_int, kc_ref, kc_retAddr, kc_long, kc_double, af_n, af_v, z0, z1, n_of, nz6, nz4, bI_T, bI_F, bI_01, n_lt, n_le, n_eq, n_add, n_mul, n_sub, n_clamp, n_vp, m_lt, m_le, m_eq, m_eq2, m_ltm, m_add, true_and, and_true, eq_self, if_pos, if_neg, List.length_nil, List.length_cons, Nat.reduceAdd, Nat.reduceLeDiff, Nat.zero_le, not_true_eq_false, not_false_eq_true, true_or, or_true]
theorem k_merge {b : Nat} (hb : b < 6) (c : gF F A G) (hm : mayM G.S b) (hcl : 70 < cl) : ∃ F2 A2, (∀ P, am_Ca X (d + 8) 6014 [.ref 0, .int (nI b)] (am_Z cl sl F A L) P = P (.inl (some (.int (nI (mrgN G.S b))))) (am_Z cl sl F2 A2 L)) ∧ gF F2 A2 (setG (recG G) (mrgS G.S b)) ∧ Fm F A F2 A2 := by
  obtain ⟨A0, em, R0, f0⟩ := r_mayMerge (d := d + 2) (X := X) (cl := cl) (sl := sl) (L := L) c.R c.w hb
  have c0 := gF_fr c R0 f0
  have F0 := Fm_fr f0
  obtain ⟨F1, A1, e1, c1, f1⟩ := f_record (d := d + 4) (X := X) (cl := cl) (sl := sl) (L := L) c0 hcl
  have R1 : cR F1 A1 4 G.S := c1.R
  obtain ⟨F2, A2, e2, R2, f2⟩ := r_doMerge (d := d + 2) (X := X) (cl := cl) (sl := sl) (L := L) R1 c.w hb hm hcl
  refine ⟨F2, A2, fun P => ?_, gF_set c1 R2 (wS_mrg c.w hb hm) f2, Fm_tr F0 (Fm_tr f1 (Fm_fr f2))⟩
  rw [c6014]
  simp (disch := omega) only [f_branchNo hb, em, bI_t hm, e1, e2, u6014_0, u6014_1, u6014_4, u6014_5, u6014_8, u6014_9, u6014_12, u6014_15, u6014_25, u6014_26, u6014_29, u6014_30, u6014_33, u6014_34, u6014_37, gt_0_1, ob_3, ob_0, af_x hd_6014, decide_eq_true_eq, if_true, if_false, f2_ne, f2_eq, up_ne, up_eq, kc_int, kc_ref, kc_retAddr, kc_long, kc_double, af_n, af_v, z0, z1, n_of, nz6, nz4, bI_T, bI_F, bI_01, n_lt, n_le, n_eq, n_add, n_mul, n_sub, n_clamp, n_vp, m_lt, m_le, m_eq, m_eq2, m_ltm, m_add, true_and, and_true, eq_self, if_pos, if_neg, List.length_nil, List.length_cons, Nat.reduceAdd, Nat.reduceLeDiff, Nat.zero_le, not_true_eq_false, not_false_eq_true, true_or, or_true]
theorem k_merge_no {b : Nat} (hb : b < 6) (c : gF F A G) (hm : ¬ (mayM G.S b)) (hcl : 70 < cl) : ∃ F2 A2, (∀ P, am_Ca X (d + 8) 6014 [.ref 0, .int (nI b)] (am_Z cl sl F A L) P = P (.inr 1) (am_Z (cl + 1) (sl + 6) F2 A2 L)) ∧ gF F2 A2 G ∧ Fm F A F2 A2 := by
  have hcl' : (70 ≤ cl) = True := eq_true (by omega)
  obtain ⟨A0, em, R0, f0⟩ := r_mayMerge (d := d + 2) (X := X) (cl := cl) (sl := sl) (L := L) c.R c.w hb
  have c0 := gF_fr c R0 f0
  have F0 := Fm_fr f0
  refine ⟨F, A0, fun P => ?_, c0, F0⟩
  rw [c6014]
  simp (disch := omega) only [f_branchNo hb, em, bI_f hm, hcl', u6014_0, u6014_1, u6014_4, u6014_5, u6014_8, u6014_9, u6014_12, u6014_15, u6014_25, u6014_26, u6014_29, u6014_30, u6014_33, u6014_34, u6014_37, gt_0_1, ob_3, ob_0, af_x hd_6014, decide_eq_true_eq, if_true, if_false, f2_ne, f2_eq, up_ne, up_eq, kc_int, kc_ref, kc_retAddr, kc_long, kc_double, af_n, af_v, z0, z1, n_of, nz6, nz4, bI_T, bI_F, bI_01, n_lt, n_le, n_eq, n_add, n_mul, n_sub, n_clamp, n_vp, m_lt, m_le, m_eq, m_eq2, m_ltm, m_add, true_and, and_true, eq_self, if_pos, if_neg, List.length_nil, List.length_cons, Nat.reduceAdd, Nat.reduceLeDiff, Nat.zero_le, not_true_eq_false, not_false_eq_true, true_or, or_true]
theorem k_pick {k : Nat} (hk : k < G.S.n) (c : gF F A G) (hm : mayP G.S k 0) (hcl : 70 < cl) : ∃ F2 A2, (∀ P, am_Ca X (d + 8) 6015 [.ref 0, .int (nI k)] (am_Z cl sl F A L) P = P (.inl (some (.int (nI (cnt (kC (fromT G.S k 0) (toT G.S k 0) G.S.W) 24))))) (am_Z cl sl F2 A2 L)) ∧ gF F2 A2 (setG (recG G) (pickS G.S k 0)) ∧ Fm F A F2 A2 := by
  obtain ⟨F00, A0, em, R0, f0⟩ := r_mayPick (d := d + 3) (X := X) (cl := cl) (sl := sl) (L := L) (c := k) (k := 0) c.R c.w (Nat.lt_of_lt_of_le hk c.w.n60) (by decide) hcl
  have c0 := gF_fr c R0 f0
  have F0 := Fm_fr f0
  obtain ⟨F1, A1, e1, c1, f1⟩ := f_record (d := d + 4) (X := X) (cl := cl) (sl := sl) (L := L) c0 hcl
  have R1 : cR F1 A1 4 G.S := c1.R
  obtain ⟨F2, A2, e2, R2, f2⟩ := r_doPick (d := d + 2) (X := X) (cl := cl) (sl := sl) (L := L) R1 c.w (by decide) hm hcl
  refine ⟨F2, A2, fun P => ?_, gF_set c1 R2 (wS_pick c.w hm) f2, Fm_tr F0 (Fm_tr f1 (Fm_fr f2))⟩
  rw [c6015]
  simp (disch := omega) only [f_commit c hk, em, bI_t hm, e1, e2, u6015_0, u6015_1, u6015_2, u6015_5, u6015_6, u6015_9, u6015_10, u6015_11, u6015_14, u6015_17, u6015_27, u6015_28, u6015_31, u6015_32, u6015_35, u6015_36, u6015_37, u6015_40, ob_0, gt_0_1, ob_3, ki_0, af_x hd_6015, decide_eq_true_eq, if_true, if_false, f2_ne, f2_eq, up_ne, up_eq, kc_int, kc_ref, kc_retAddr, kc_long, kc_double, af_n, af_v, z0, z1, n_of, nz6, nz4, bI_T, bI_F, bI_01, n_lt, n_le, n_eq, n_add, n_mul, n_sub, n_clamp, n_vp, m_lt, m_le, m_eq, m_eq2, m_ltm, m_add, true_and, and_true, eq_self, if_pos, if_neg, List.length_nil, List.length_cons, Nat.reduceAdd, Nat.reduceLeDiff, Nat.zero_le, not_true_eq_false, not_false_eq_true, true_or, or_true]
theorem k_pick_no {k : Nat} (hk : k < G.S.n) (c : gF F A G) (hm : ¬ (mayP G.S k 0)) (hcl : 70 < cl) : ∃ F2 A2, (∀ P, am_Ca X (d + 8) 6015 [.ref 0, .int (nI k)] (am_Z cl sl F A L) P = P (.inr 1) (am_Z (cl + 1) (sl + 6) F2 A2 L)) ∧ gF F2 A2 G ∧ Fm F A F2 A2 := by
  have hcl' : (70 ≤ cl) = True := eq_true (by omega)
  obtain ⟨F00, A0, em, R0, f0⟩ := r_mayPick (d := d + 3) (X := X) (cl := cl) (sl := sl) (L := L) (c := k) (k := 0) c.R c.w (Nat.lt_of_lt_of_le hk c.w.n60) (by decide) hcl
  have c0 := gF_fr c R0 f0
  have F0 := Fm_fr f0
  refine ⟨F00, A0, fun P => ?_, c0, F0⟩
  rw [c6015]
  simp (disch := omega) only [f_commit c hk, em, bI_f hm, hcl', u6015_0, u6015_1, u6015_2, u6015_5, u6015_6, u6015_9, u6015_10, u6015_11, u6015_14, u6015_17, u6015_27, u6015_28, u6015_31, u6015_32, u6015_35, u6015_36, u6015_37, u6015_40, ob_0, gt_0_1, ob_3, ki_0, af_x hd_6015, decide_eq_true_eq, if_true, if_false, f2_ne, f2_eq, up_ne, up_eq, kc_int, kc_ref, kc_retAddr, kc_long, kc_double, af_n, af_v, z0, z1, n_of, nz6, nz4, bI_T, bI_F, bI_01, n_lt, n_le, n_eq, n_add, n_mul, n_sub, n_clamp, n_vp, m_lt, m_le, m_eq, m_eq2, m_ltm, m_add, true_and, and_true, eq_self, if_pos, if_neg, List.length_nil, List.length_cons, Nat.reduceAdd, Nat.reduceLeDiff, Nat.zero_le, not_true_eq_false, not_false_eq_true, true_or, or_true]
theorem k_revert {k : Nat} (hk : k < G.S.n) (c : gF F A G) (hm : mayP G.S k 1) (hcl : 70 < cl) : ∃ F2 A2, (∀ P, am_Ca X (d + 8) 6016 [.ref 0, .int (nI k)] (am_Z cl sl F A L) P = P (.inl (some (.int (nI (cnt (kC (fromT G.S k 1) (toT G.S k 1) G.S.W) 24))))) (am_Z cl sl F2 A2 L)) ∧ gF F2 A2 (setG (recG G) (pickS G.S k 1)) ∧ Fm F A F2 A2 := by
  obtain ⟨F00, A0, em, R0, f0⟩ := r_mayPick (d := d + 3) (X := X) (cl := cl) (sl := sl) (L := L) (c := k) (k := 1) c.R c.w (Nat.lt_of_lt_of_le hk c.w.n60) (by decide) hcl
  have c0 := gF_fr c R0 f0
  have F0 := Fm_fr f0
  obtain ⟨F1, A1, e1, c1, f1⟩ := f_record (d := d + 4) (X := X) (cl := cl) (sl := sl) (L := L) c0 hcl
  have R1 : cR F1 A1 4 G.S := c1.R
  obtain ⟨F2, A2, e2, R2, f2⟩ := r_doPick (d := d + 2) (X := X) (cl := cl) (sl := sl) (L := L) R1 c.w (by decide) hm hcl
  refine ⟨F2, A2, fun P => ?_, gF_set c1 R2 (wS_pick c.w hm) f2, Fm_tr F0 (Fm_tr f1 (Fm_fr f2))⟩
  rw [c6016]
  simp (disch := omega) only [f_commit c hk, em, bI_t hm, e1, e2, u6016_0, u6016_1, u6016_2, u6016_5, u6016_6, u6016_9, u6016_10, u6016_11, u6016_14, u6016_17, u6016_27, u6016_28, u6016_31, u6016_32, u6016_35, u6016_36, u6016_37, u6016_40, ob_0, gt_0_1, ob_3, ki_1, af_x hd_6016, decide_eq_true_eq, if_true, if_false, f2_ne, f2_eq, up_ne, up_eq, kc_int, kc_ref, kc_retAddr, kc_long, kc_double, af_n, af_v, z0, z1, n_of, nz6, nz4, bI_T, bI_F, bI_01, n_lt, n_le, n_eq, n_add, n_mul, n_sub, n_clamp, n_vp, m_lt, m_le, m_eq, m_eq2, m_ltm, m_add, true_and, and_true, eq_self, if_pos, if_neg, List.length_nil, List.length_cons, Nat.reduceAdd, Nat.reduceLeDiff, Nat.zero_le, not_true_eq_false, not_false_eq_true, true_or, or_true]
theorem k_revert_no {k : Nat} (hk : k < G.S.n) (c : gF F A G) (hm : ¬ (mayP G.S k 1)) (hcl : 70 < cl) : ∃ F2 A2, (∀ P, am_Ca X (d + 8) 6016 [.ref 0, .int (nI k)] (am_Z cl sl F A L) P = P (.inr 1) (am_Z (cl + 1) (sl + 6) F2 A2 L)) ∧ gF F2 A2 G ∧ Fm F A F2 A2 := by
  have hcl' : (70 ≤ cl) = True := eq_true (by omega)
  obtain ⟨F00, A0, em, R0, f0⟩ := r_mayPick (d := d + 3) (X := X) (cl := cl) (sl := sl) (L := L) (c := k) (k := 1) c.R c.w (Nat.lt_of_lt_of_le hk c.w.n60) (by decide) hcl
  have c0 := gF_fr c R0 f0
  have F0 := Fm_fr f0
  refine ⟨F00, A0, fun P => ?_, c0, F0⟩
  rw [c6016]
  simp (disch := omega) only [f_commit c hk, em, bI_f hm, hcl', u6016_0, u6016_1, u6016_2, u6016_5, u6016_6, u6016_9, u6016_10, u6016_11, u6016_14, u6016_17, u6016_27, u6016_28, u6016_31, u6016_32, u6016_35, u6016_36, u6016_37, u6016_40, ob_0, gt_0_1, ob_3, ki_1, af_x hd_6016, decide_eq_true_eq, if_true, if_false, f2_ne, f2_eq, up_ne, up_eq, kc_int, kc_ref, kc_retAddr, kc_long, kc_double, af_n, af_v, z0, z1, n_of, nz6, nz4, bI_T, bI_F, bI_01, n_lt, n_le, n_eq, n_add, n_mul, n_sub, n_clamp, n_vp, m_lt, m_le, m_eq, m_eq2, m_ltm, m_add, true_and, and_true, eq_self, if_pos, if_neg, List.length_nil, List.length_cons, Nat.reduceAdd, Nat.reduceLeDiff, Nat.zero_le, not_true_eq_false, not_false_eq_true, true_or, or_true]
theorem k_replay {b : Nat} (hb : b < 6) (c : gF F A G) (hm : mayR G.S b) (hcl : 70 < cl) : ∃ F2 A2, (∀ P, am_Ca X (d + 8) 6017 [.ref 0, .int (nI b)] (am_Z cl sl F A L) P = P (.inl (some (.int (nI (repS G.S b).2)))) (am_Z cl sl F2 A2 L)) ∧ gF F2 A2 (setG (recG G) ((repS G.S b).1)) ∧ Fm F A F2 A2 := by
  obtain ⟨F00, A0, em, R0, f0⟩ := r_mayReplay (d := d + 2) (X := X) (cl := cl) (sl := sl) (L := L) c.R c.w hb hcl
  have c0 := gF_fr c R0 f0
  have F0 := Fm_fr f0
  obtain ⟨F1, A1, e1, c1, f1⟩ := f_record (d := d + 4) (X := X) (cl := cl) (sl := sl) (L := L) c0 hcl
  have R1 : cR F1 A1 4 G.S := c1.R
  obtain ⟨F2, A2, e2, R2, w2, f2⟩ := r_doReplay (d := d + 2) (X := X) (cl := cl) (sl := sl) (L := L) R1 c.w hb hm hcl
  refine ⟨F2, A2, fun P => ?_, gF_set c1 R2 w2 f2, Fm_tr F0 (Fm_tr f1 (Fm_fr f2))⟩
  rw [c6017]
  simp (disch := omega) only [f_branchNo hb, em, bI_t hm, e1, e2, u6017_0, u6017_1, u6017_4, u6017_5, u6017_8, u6017_9, u6017_12, u6017_15, u6017_25, u6017_26, u6017_29, u6017_30, u6017_33, u6017_34, u6017_37, gt_0_1, ob_3, ob_0, af_x hd_6017, decide_eq_true_eq, if_true, if_false, f2_ne, f2_eq, up_ne, up_eq, kc_int, kc_ref, kc_retAddr, kc_long, kc_double, af_n, af_v, z0, z1, n_of, nz6, nz4, bI_T, bI_F, bI_01, n_lt, n_le, n_eq, n_add, n_mul, n_sub, n_clamp, n_vp, m_lt, m_le, m_eq, m_eq2, m_ltm, m_add, true_and, and_true, eq_self, if_pos, if_neg, List.length_nil, List.length_cons, Nat.reduceAdd, Nat.reduceLeDiff, Nat.zero_le, not_true_eq_false, not_false_eq_true, true_or, or_true]
theorem k_replay_no {b : Nat} (hb : b < 6) (c : gF F A G) (hm : ¬ (mayR G.S b)) (hcl : 70 < cl) : ∃ F2 A2, (∀ P, am_Ca X (d + 8) 6017 [.ref 0, .int (nI b)] (am_Z cl sl F A L) P = P (.inr 1) (am_Z (cl + 1) (sl + 6) F2 A2 L)) ∧ gF F2 A2 G ∧ Fm F A F2 A2 := by
  have hcl' : (70 ≤ cl) = True := eq_true (by omega)
  obtain ⟨F00, A0, em, R0, f0⟩ := r_mayReplay (d := d + 2) (X := X) (cl := cl) (sl := sl) (L := L) c.R c.w hb hcl
  have c0 := gF_fr c R0 f0
  have F0 := Fm_fr f0
  refine ⟨F00, A0, fun P => ?_, c0, F0⟩
  rw [c6017]
  simp (disch := omega) only [f_branchNo hb, em, bI_f hm, hcl', u6017_0, u6017_1, u6017_4, u6017_5, u6017_8, u6017_9, u6017_12, u6017_15, u6017_25, u6017_26, u6017_29, u6017_30, u6017_33, u6017_34, u6017_37, gt_0_1, ob_3, ob_0, af_x hd_6017, decide_eq_true_eq, if_true, if_false, f2_ne, f2_eq, up_ne, up_eq, kc_int, kc_ref, kc_retAddr, kc_long, kc_double, af_n, af_v, z0, z1, n_of, nz6, nz4, bI_T, bI_F, bI_01, n_lt, n_le, n_eq, n_add, n_mul, n_sub, n_clamp, n_vp, m_lt, m_le, m_eq, m_eq2, m_ltm, m_add, true_and, and_true, eq_self, if_pos, if_neg, List.length_nil, List.length_cons, Nat.reduceAdd, Nat.reduceLeDiff, Nat.zero_le, not_true_eq_false, not_false_eq_true, true_or, or_true]
end FD
