/-! THE LAW'S WRAPPERS: a call of the class, its exceptions caught: -102, -103 */ -/
section WR
variable {d : Nat} {X : am_X} {s s2 : am_S} {P : am_Q} {v : Int32}
theorem ax_8003_0 {x0 : Int32} {r : List Value} {K : am_K} {st : am_S} : am_af am_m8003 2 [.ref 0, .int x0, am_u] r K P (.inr 0) st = K 7 [.ref 0, .int x0, am_u] [] st := propext ⟨fun h => h.2, fun h => ⟨Nat.le_of_ble_eq_true rfl, h⟩⟩
theorem ax_8003_1 {x0 : Int32} {r : List Value} {K : am_K} {st : am_S} : am_af am_m8003 2 [.ref 0, .int x0, am_u] r K P (.inr 1) st = K 11 [.ref 0, .int x0, am_u] [] st := propext ⟨fun h => h.2, fun h => ⟨Nat.le_of_ble_eq_true rfl, h⟩⟩
theorem wo_type {x0 : Int32} (ob : am_ob s 0 6 = True) (e : ∀ P, am_Ca X d 6002 [.ref 0, .int x0] s P = P (.inl (some (.int v))) s2) : am_Ca X (d + 1) 8003 [.ref 0, .int x0] s P = P (.inl (some (.int v))) s2 := by
  rw [c8003]
  simp (disch := omega) only [e, ob, u8003_0, u8003_1, u8003_2, u8003_5, u8003_7, u8003_9, u8003_11, u8003_13, ob_0, ki_m102, ki_m103, decide_eq_true_eq, if_true, if_false, f2_ne, f2_eq, up_ne, up_eq, kc_int, kc_ref, kc_retAddr, kc_long, kc_double, af_n, af_v, z0, z1, n_of, nz6, nz4, bI_T, bI_F, bI_01, n_lt, n_le, n_eq, n_add, n_mul, n_sub, n_clamp, n_vp, m_lt, m_le, m_eq, m_eq2, m_ltm, m_add, true_and, and_true, eq_self, if_pos, if_neg, List.length_nil, List.length_cons, Nat.reduceAdd, Nat.reduceLeDiff, Nat.zero_le, not_true_eq_false, not_false_eq_true, true_or, or_true]
theorem wx_type_0 {x0 : Int32} (ob : am_ob s 0 6 = True) (e : ∀ P, am_Ca X d 6002 [.ref 0, .int x0] s P = P (.inr 0) s2) : am_Ca X (d + 1) 8003 [.ref 0, .int x0] s P = P (.inl (some (.int (-nI 102)))) s2 := by
  rw [c8003]
  simp (disch := omega) only [e, ob, ax_8003_0, ax_8003_1, u8003_0, u8003_1, u8003_2, u8003_5, u8003_7, u8003_9, u8003_11, u8003_13, ob_0, ki_m102, ki_m103, decide_eq_true_eq, if_true, if_false, f2_ne, f2_eq, up_ne, up_eq, kc_int, kc_ref, kc_retAddr, kc_long, kc_double, af_n, af_v, z0, z1, n_of, nz6, nz4, bI_T, bI_F, bI_01, n_lt, n_le, n_eq, n_add, n_mul, n_sub, n_clamp, n_vp, m_lt, m_le, m_eq, m_eq2, m_ltm, m_add, true_and, and_true, eq_self, if_pos, if_neg, List.length_nil, List.length_cons, Nat.reduceAdd, Nat.reduceLeDiff, Nat.zero_le, not_true_eq_false, not_false_eq_true, true_or, or_true]
theorem wx_type_1 {x0 : Int32} (ob : am_ob s 0 6 = True) (e : ∀ P, am_Ca X d 6002 [.ref 0, .int x0] s P = P (.inr 1) s2) : am_Ca X (d + 1) 8003 [.ref 0, .int x0] s P = P (.inl (some (.int (-nI 103)))) s2 := by
  rw [c8003]
  simp (disch := omega) only [e, ob, ax_8003_0, ax_8003_1, u8003_0, u8003_1, u8003_2, u8003_5, u8003_7, u8003_9, u8003_11, u8003_13, ob_0, ki_m102, ki_m103, decide_eq_true_eq, if_true, if_false, f2_ne, f2_eq, up_ne, up_eq, kc_int, kc_ref, kc_retAddr, kc_long, kc_double, af_n, af_v, z0, z1, n_of, nz6, nz4, bI_T, bI_F, bI_01, n_lt, n_le, n_eq, n_add, n_mul, n_sub, n_clamp, n_vp, m_lt, m_le, m_eq, m_eq2, m_ltm, m_add, true_and, and_true, eq_self, if_pos, if_neg, List.length_nil, List.length_cons, Nat.reduceAdd, Nat.reduceLeDiff, Nat.zero_le, not_true_eq_false, not_false_eq_true, true_or, or_true]
theorem ax_8004_1 {r : List Value} {K : am_K} {st : am_S} : am_af am_m8004 1 [.ref 0, am_u] r K P (.inr 1) st = K 6 [.ref 0, am_u] [] st := propext ⟨fun h => h.2, fun h => ⟨Nat.le_of_ble_eq_true rfl, h⟩⟩
theorem wo_runOrders (ob : am_ob s 0 6 = True) (e : ∀ P, am_Ca X d 6005 [.ref 0] s P = P (.inl (some (.int v))) s2) : am_Ca X (d + 1) 8004 [.ref 0] s P = P (.inl (some (.int v))) s2 := by
  rw [c8004]
  simp (disch := omega) only [e, ob, u8004_0, u8004_1, u8004_4, u8004_6, u8004_8, ob_0, ki_m103, decide_eq_true_eq, if_true, if_false, f2_ne, f2_eq, up_ne, up_eq, kc_int, kc_ref, kc_retAddr, kc_long, kc_double, af_n, af_v, z0, z1, n_of, nz6, nz4, bI_T, bI_F, bI_01, n_lt, n_le, n_eq, n_add, n_mul, n_sub, n_clamp, n_vp, m_lt, m_le, m_eq, m_eq2, m_ltm, m_add, true_and, and_true, eq_self, if_pos, if_neg, List.length_nil, List.length_cons, Nat.reduceAdd, Nat.reduceLeDiff, Nat.zero_le, not_true_eq_false, not_false_eq_true, true_or, or_true]
theorem wx_runOrders_1 (ob : am_ob s 0 6 = True) (e : ∀ P, am_Ca X d 6005 [.ref 0] s P = P (.inr 1) s2) : am_Ca X (d + 1) 8004 [.ref 0] s P = P (.inl (some (.int (-nI 103)))) s2 := by
  rw [c8004]
  simp (disch := omega) only [e, ob, ax_8004_1, u8004_0, u8004_1, u8004_4, u8004_6, u8004_8, ob_0, ki_m103, decide_eq_true_eq, if_true, if_false, f2_ne, f2_eq, up_ne, up_eq, kc_int, kc_ref, kc_retAddr, kc_long, kc_double, af_n, af_v, z0, z1, n_of, nz6, nz4, bI_T, bI_F, bI_01, n_lt, n_le, n_eq, n_add, n_mul, n_sub, n_clamp, n_vp, m_lt, m_le, m_eq, m_eq2, m_ltm, m_add, true_and, and_true, eq_self, if_pos, if_neg, List.length_nil, List.length_cons, Nat.reduceAdd, Nat.reduceLeDiff, Nat.zero_le, not_true_eq_false, not_false_eq_true, true_or, or_true]
theorem ax_8005_0 {x0 x1 x2 : Int32} {r : List Value} {K : am_K} {st : am_S} : am_af am_m8005 4 [.ref 0, .int x0, .int x1, .int x2, am_u] r K P (.inr 0) st = K 10 [.ref 0, .int x0, .int x1, .int x2, am_u] [] st := propext ⟨fun h => h.2, fun h => ⟨Nat.le_of_ble_eq_true rfl, h⟩⟩
theorem wo_edit {x0 x1 x2 : Int32} (ob : am_ob s 0 6 = True) (e : ∀ P, am_Ca X d 6006 [.ref 0, .int x0, .int x1, .int x2] s P = P (.inl (some (.int v))) s2) : am_Ca X (d + 1) 8005 [.ref 0, .int x0, .int x1, .int x2] s P = P (.inl (some (.int v))) s2 := by
  rw [c8005]
  simp (disch := omega) only [e, ob, u8005_0, u8005_1, u8005_2, u8005_3, u8005_4, u8005_7, u8005_10, u8005_12, ob_0, ki_m102, decide_eq_true_eq, if_true, if_false, f2_ne, f2_eq, up_ne, up_eq, kc_int, kc_ref, kc_retAddr, kc_long, kc_double, af_n, af_v, z0, z1, n_of, nz6, nz4, bI_T, bI_F, bI_01, n_lt, n_le, n_eq, n_add, n_mul, n_sub, n_clamp, n_vp, m_lt, m_le, m_eq, m_eq2, m_ltm, m_add, true_and, and_true, eq_self, if_pos, if_neg, List.length_nil, List.length_cons, Nat.reduceAdd, Nat.reduceLeDiff, Nat.zero_le, not_true_eq_false, not_false_eq_true, true_or, or_true]
theorem wx_edit_0 {x0 x1 x2 : Int32} (ob : am_ob s 0 6 = True) (e : ∀ P, am_Ca X d 6006 [.ref 0, .int x0, .int x1, .int x2] s P = P (.inr 0) s2) : am_Ca X (d + 1) 8005 [.ref 0, .int x0, .int x1, .int x2] s P = P (.inl (some (.int (-nI 102)))) s2 := by
  rw [c8005]
  simp (disch := omega) only [e, ob, ax_8005_0, u8005_0, u8005_1, u8005_2, u8005_3, u8005_4, u8005_7, u8005_10, u8005_12, ob_0, ki_m102, decide_eq_true_eq, if_true, if_false, f2_ne, f2_eq, up_ne, up_eq, kc_int, kc_ref, kc_retAddr, kc_long, kc_double, af_n, af_v, z0, z1, n_of, nz6, nz4, bI_T, bI_F, bI_01, n_lt, n_le, n_eq, n_add, n_mul, n_sub, n_clamp, n_vp, m_lt, m_le, m_eq, m_eq2, m_ltm, m_add, true_and, and_true, eq_self, if_pos, if_neg, List.length_nil, List.length_cons, Nat.reduceAdd, Nat.reduceLeDiff, Nat.zero_le, not_true_eq_false, not_false_eq_true, true_or, or_true]
theorem ax_8006_1 {r : List Value} {K : am_K} {st : am_S} : am_af am_m8006 1 [.ref 0, am_u] r K P (.inr 1) st = K 6 [.ref 0, am_u] [] st := propext ⟨fun h => h.2, fun h => ⟨Nat.le_of_ble_eq_true rfl, h⟩⟩
theorem wo_commit (ob : am_ob s 0 6 = True) (e : ∀ P, am_Ca X d 6007 [.ref 0] s P = P (.inl (some (.int v))) s2) : am_Ca X (d + 1) 8006 [.ref 0] s P = P (.inl (some (.int v))) s2 := by
  rw [c8006]
  simp (disch := omega) only [e, ob, u8006_0, u8006_1, u8006_4, u8006_6, u8006_8, ob_0, ki_m103, decide_eq_true_eq, if_true, if_false, f2_ne, f2_eq, up_ne, up_eq, kc_int, kc_ref, kc_retAddr, kc_long, kc_double, af_n, af_v, z0, z1, n_of, nz6, nz4, bI_T, bI_F, bI_01, n_lt, n_le, n_eq, n_add, n_mul, n_sub, n_clamp, n_vp, m_lt, m_le, m_eq, m_eq2, m_ltm, m_add, true_and, and_true, eq_self, if_pos, if_neg, List.length_nil, List.length_cons, Nat.reduceAdd, Nat.reduceLeDiff, Nat.zero_le, not_true_eq_false, not_false_eq_true, true_or, or_true]
theorem wx_commit_1 (ob : am_ob s 0 6 = True) (e : ∀ P, am_Ca X d 6007 [.ref 0] s P = P (.inr 1) s2) : am_Ca X (d + 1) 8006 [.ref 0] s P = P (.inl (some (.int (-nI 103)))) s2 := by
  rw [c8006]
  simp (disch := omega) only [e, ob, ax_8006_1, u8006_0, u8006_1, u8006_4, u8006_6, u8006_8, ob_0, ki_m103, decide_eq_true_eq, if_true, if_false, f2_ne, f2_eq, up_ne, up_eq, kc_int, kc_ref, kc_retAddr, kc_long, kc_double, af_n, af_v, z0, z1, n_of, nz6, nz4, bI_T, bI_F, bI_01, n_lt, n_le, n_eq, n_add, n_mul, n_sub, n_clamp, n_vp, m_lt, m_le, m_eq, m_eq2, m_ltm, m_add, true_and, and_true, eq_self, if_pos, if_neg, List.length_nil, List.length_cons, Nat.reduceAdd, Nat.reduceLeDiff, Nat.zero_le, not_true_eq_false, not_false_eq_true, true_or, or_true]
theorem ax_8007_0 {x0 : Int32} {r : List Value} {K : am_K} {st : am_S} : am_af am_m8007 2 [.ref 0, .int x0, am_u] r K P (.inr 0) st = K 7 [.ref 0, .int x0, am_u] [] st := propext ⟨fun h => h.2, fun h => ⟨Nat.le_of_ble_eq_true rfl, h⟩⟩
theorem wo_reset {x0 : Int32} (ob : am_ob s 0 6 = True) (e : ∀ P, am_Ca X d 6008 [.ref 0, .int x0] s P = P (.inl (some (.int v))) s2) : am_Ca X (d + 1) 8007 [.ref 0, .int x0] s P = P (.inl (some (.int v))) s2 := by
  rw [c8007]
  simp (disch := omega) only [e, ob, u8007_0, u8007_1, u8007_2, u8007_5, u8007_7, u8007_9, ob_0, ki_m102, decide_eq_true_eq, if_true, if_false, f2_ne, f2_eq, up_ne, up_eq, kc_int, kc_ref, kc_retAddr, kc_long, kc_double, af_n, af_v, z0, z1, n_of, nz6, nz4, bI_T, bI_F, bI_01, n_lt, n_le, n_eq, n_add, n_mul, n_sub, n_clamp, n_vp, m_lt, m_le, m_eq, m_eq2, m_ltm, m_add, true_and, and_true, eq_self, if_pos, if_neg, List.length_nil, List.length_cons, Nat.reduceAdd, Nat.reduceLeDiff, Nat.zero_le, not_true_eq_false, not_false_eq_true, true_or, or_true]
theorem wx_reset_0 {x0 : Int32} (ob : am_ob s 0 6 = True) (e : ∀ P, am_Ca X d 6008 [.ref 0, .int x0] s P = P (.inr 0) s2) : am_Ca X (d + 1) 8007 [.ref 0, .int x0] s P = P (.inl (some (.int (-nI 102)))) s2 := by
  rw [c8007]
  simp (disch := omega) only [e, ob, ax_8007_0, u8007_0, u8007_1, u8007_2, u8007_5, u8007_7, u8007_9, ob_0, ki_m102, decide_eq_true_eq, if_true, if_false, f2_ne, f2_eq, up_ne, up_eq, kc_int, kc_ref, kc_retAddr, kc_long, kc_double, af_n, af_v, z0, z1, n_of, nz6, nz4, bI_T, bI_F, bI_01, n_lt, n_le, n_eq, n_add, n_mul, n_sub, n_clamp, n_vp, m_lt, m_le, m_eq, m_eq2, m_ltm, m_add, true_and, and_true, eq_self, if_pos, if_neg, List.length_nil, List.length_cons, Nat.reduceAdd, Nat.reduceLeDiff, Nat.zero_le, not_true_eq_false, not_false_eq_true, true_or, or_true]
theorem ax_8008_1 {r : List Value} {K : am_K} {st : am_S} : am_af am_m8008 1 [.ref 0, am_u] r K P (.inr 1) st = K 6 [.ref 0, am_u] [] st := propext ⟨fun h => h.2, fun h => ⟨Nat.le_of_ble_eq_true rfl, h⟩⟩
theorem wo_putAside (ob : am_ob s 0 6 = True) (e : ∀ P, am_Ca X d 6009 [.ref 0] s P = P (.inl (some (.int v))) s2) : am_Ca X (d + 1) 8008 [.ref 0] s P = P (.inl (some (.int v))) s2 := by
  rw [c8008]
  simp (disch := omega) only [e, ob, u8008_0, u8008_1, u8008_4, u8008_6, u8008_8, ob_0, ki_m103, decide_eq_true_eq, if_true, if_false, f2_ne, f2_eq, up_ne, up_eq, kc_int, kc_ref, kc_retAddr, kc_long, kc_double, af_n, af_v, z0, z1, n_of, nz6, nz4, bI_T, bI_F, bI_01, n_lt, n_le, n_eq, n_add, n_mul, n_sub, n_clamp, n_vp, m_lt, m_le, m_eq, m_eq2, m_ltm, m_add, true_and, and_true, eq_self, if_pos, if_neg, List.length_nil, List.length_cons, Nat.reduceAdd, Nat.reduceLeDiff, Nat.zero_le, not_true_eq_false, not_false_eq_true, true_or, or_true]
theorem wx_putAside_1 (ob : am_ob s 0 6 = True) (e : ∀ P, am_Ca X d 6009 [.ref 0] s P = P (.inr 1) s2) : am_Ca X (d + 1) 8008 [.ref 0] s P = P (.inl (some (.int (-nI 103)))) s2 := by
  rw [c8008]
  simp (disch := omega) only [e, ob, ax_8008_1, u8008_0, u8008_1, u8008_4, u8008_6, u8008_8, ob_0, ki_m103, decide_eq_true_eq, if_true, if_false, f2_ne, f2_eq, up_ne, up_eq, kc_int, kc_ref, kc_retAddr, kc_long, kc_double, af_n, af_v, z0, z1, n_of, nz6, nz4, bI_T, bI_F, bI_01, n_lt, n_le, n_eq, n_add, n_mul, n_sub, n_clamp, n_vp, m_lt, m_le, m_eq, m_eq2, m_ltm, m_add, true_and, and_true, eq_self, if_pos, if_neg, List.length_nil, List.length_cons, Nat.reduceAdd, Nat.reduceLeDiff, Nat.zero_le, not_true_eq_false, not_false_eq_true, true_or, or_true]
theorem ax_8009_1 {r : List Value} {K : am_K} {st : am_S} : am_af am_m8009 1 [.ref 0, am_u] r K P (.inr 1) st = K 6 [.ref 0, am_u] [] st := propext ⟨fun h => h.2, fun h => ⟨Nat.le_of_ble_eq_true rfl, h⟩⟩
theorem wo_takeBack (ob : am_ob s 0 6 = True) (e : ∀ P, am_Ca X d 6010 [.ref 0] s P = P (.inl (some (.int v))) s2) : am_Ca X (d + 1) 8009 [.ref 0] s P = P (.inl (some (.int v))) s2 := by
  rw [c8009]
  simp (disch := omega) only [e, ob, u8009_0, u8009_1, u8009_4, u8009_6, u8009_8, ob_0, ki_m103, decide_eq_true_eq, if_true, if_false, f2_ne, f2_eq, up_ne, up_eq, kc_int, kc_ref, kc_retAddr, kc_long, kc_double, af_n, af_v, z0, z1, n_of, nz6, nz4, bI_T, bI_F, bI_01, n_lt, n_le, n_eq, n_add, n_mul, n_sub, n_clamp, n_vp, m_lt, m_le, m_eq, m_eq2, m_ltm, m_add, true_and, and_true, eq_self, if_pos, if_neg, List.length_nil, List.length_cons, Nat.reduceAdd, Nat.reduceLeDiff, Nat.zero_le, not_true_eq_false, not_false_eq_true, true_or, or_true]
theorem wx_takeBack_1 (ob : am_ob s 0 6 = True) (e : ∀ P, am_Ca X d 6010 [.ref 0] s P = P (.inr 1) s2) : am_Ca X (d + 1) 8009 [.ref 0] s P = P (.inl (some (.int (-nI 103)))) s2 := by
  rw [c8009]
  simp (disch := omega) only [e, ob, ax_8009_1, u8009_0, u8009_1, u8009_4, u8009_6, u8009_8, ob_0, ki_m103, decide_eq_true_eq, if_true, if_false, f2_ne, f2_eq, up_ne, up_eq, kc_int, kc_ref, kc_retAddr, kc_long, kc_double, af_n, af_v, z0, z1, n_of, nz6, nz4, bI_T, bI_F, bI_01, n_lt, n_le, n_eq, n_add, n_mul, n_sub, n_clamp, n_vp, m_lt, m_le, m_eq, m_eq2, m_ltm, m_add, true_and, and_true, eq_self, if_pos, if_neg, List.length_nil, List.length_cons, Nat.reduceAdd, Nat.reduceLeDiff, Nat.zero_le, not_true_eq_false, not_false_eq_true, true_or, or_true]
theorem ax_8010_1 {r : List Value} {K : am_K} {st : am_S} : am_af am_m8010 1 [.ref 0, am_u] r K P (.inr 1) st = K 6 [.ref 0, am_u] [] st := propext ⟨fun h => h.2, fun h => ⟨Nat.le_of_ble_eq_true rfl, h⟩⟩
theorem wo_newBranch (ob : am_ob s 0 6 = True) (e : ∀ P, am_Ca X d 6011 [.ref 0] s P = P (.inl (some (.int v))) s2) : am_Ca X (d + 1) 8010 [.ref 0] s P = P (.inl (some (.int v))) s2 := by
  rw [c8010]
  simp (disch := omega) only [e, ob, u8010_0, u8010_1, u8010_4, u8010_6, u8010_8, ob_0, ki_m103, decide_eq_true_eq, if_true, if_false, f2_ne, f2_eq, up_ne, up_eq, kc_int, kc_ref, kc_retAddr, kc_long, kc_double, af_n, af_v, z0, z1, n_of, nz6, nz4, bI_T, bI_F, bI_01, n_lt, n_le, n_eq, n_add, n_mul, n_sub, n_clamp, n_vp, m_lt, m_le, m_eq, m_eq2, m_ltm, m_add, true_and, and_true, eq_self, if_pos, if_neg, List.length_nil, List.length_cons, Nat.reduceAdd, Nat.reduceLeDiff, Nat.zero_le, not_true_eq_false, not_false_eq_true, true_or, or_true]
theorem wx_newBranch_1 (ob : am_ob s 0 6 = True) (e : ∀ P, am_Ca X d 6011 [.ref 0] s P = P (.inr 1) s2) : am_Ca X (d + 1) 8010 [.ref 0] s P = P (.inl (some (.int (-nI 103)))) s2 := by
  rw [c8010]
  simp (disch := omega) only [e, ob, ax_8010_1, u8010_0, u8010_1, u8010_4, u8010_6, u8010_8, ob_0, ki_m103, decide_eq_true_eq, if_true, if_false, f2_ne, f2_eq, up_ne, up_eq, kc_int, kc_ref, kc_retAddr, kc_long, kc_double, af_n, af_v, z0, z1, n_of, nz6, nz4, bI_T, bI_F, bI_01, n_lt, n_le, n_eq, n_add, n_mul, n_sub, n_clamp, n_vp, m_lt, m_le, m_eq, m_eq2, m_ltm, m_add, true_and, and_true, eq_self, if_pos, if_neg, List.length_nil, List.length_cons, Nat.reduceAdd, Nat.reduceLeDiff, Nat.zero_le, not_true_eq_false, not_false_eq_true, true_or, or_true]
theorem ax_8011_0 {x0 : Int32} {r : List Value} {K : am_K} {st : am_S} : am_af am_m8011 2 [.ref 0, .int x0, am_u] r K P (.inr 0) st = K 7 [.ref 0, .int x0, am_u] [] st := propext ⟨fun h => h.2, fun h => ⟨Nat.le_of_ble_eq_true rfl, h⟩⟩
theorem ax_8011_1 {x0 : Int32} {r : List Value} {K : am_K} {st : am_S} : am_af am_m8011 2 [.ref 0, .int x0, am_u] r K P (.inr 1) st = K 11 [.ref 0, .int x0, am_u] [] st := propext ⟨fun h => h.2, fun h => ⟨Nat.le_of_ble_eq_true rfl, h⟩⟩
theorem wo_dropBranch {x0 : Int32} (ob : am_ob s 0 6 = True) (e : ∀ P, am_Ca X d 6012 [.ref 0, .int x0] s P = P (.inl (some (.int v))) s2) : am_Ca X (d + 1) 8011 [.ref 0, .int x0] s P = P (.inl (some (.int v))) s2 := by
  rw [c8011]
  simp (disch := omega) only [e, ob, u8011_0, u8011_1, u8011_2, u8011_5, u8011_7, u8011_9, u8011_11, u8011_13, ob_0, ki_m102, ki_m103, decide_eq_true_eq, if_true, if_false, f2_ne, f2_eq, up_ne, up_eq, kc_int, kc_ref, kc_retAddr, kc_long, kc_double, af_n, af_v, z0, z1, n_of, nz6, nz4, bI_T, bI_F, bI_01, n_lt, n_le, n_eq, n_add, n_mul, n_sub, n_clamp, n_vp, m_lt, m_le, m_eq, m_eq2, m_ltm, m_add, true_and, and_true, eq_self, if_pos, if_neg, List.length_nil, List.length_cons, Nat.reduceAdd, Nat.reduceLeDiff, Nat.zero_le, not_true_eq_false, not_false_eq_true, true_or, or_true]
theorem wx_dropBranch_0 {x0 : Int32} (ob : am_ob s 0 6 = True) (e : ∀ P, am_Ca X d 6012 [.ref 0, .int x0] s P = P (.inr 0) s2) : am_Ca X (d + 1) 8011 [.ref 0, .int x0] s P = P (.inl (some (.int (-nI 102)))) s2 := by
  rw [c8011]
  simp (disch := omega) only [e, ob, ax_8011_0, ax_8011_1, u8011_0, u8011_1, u8011_2, u8011_5, u8011_7, u8011_9, u8011_11, u8011_13, ob_0, ki_m102, ki_m103, decide_eq_true_eq, if_true, if_false, f2_ne, f2_eq, up_ne, up_eq, kc_int, kc_ref, kc_retAddr, kc_long, kc_double, af_n, af_v, z0, z1, n_of, nz6, nz4, bI_T, bI_F, bI_01, n_lt, n_le, n_eq, n_add, n_mul, n_sub, n_clamp, n_vp, m_lt, m_le, m_eq, m_eq2, m_ltm, m_add, true_and, and_true, eq_self, if_pos, if_neg, List.length_nil, List.length_cons, Nat.reduceAdd, Nat.reduceLeDiff, Nat.zero_le, not_true_eq_false, not_false_eq_true, true_or, or_true]
theorem wx_dropBranch_1 {x0 : Int32} (ob : am_ob s 0 6 = True) (e : ∀ P, am_Ca X d 6012 [.ref 0, .int x0] s P = P (.inr 1) s2) : am_Ca X (d + 1) 8011 [.ref 0, .int x0] s P = P (.inl (some (.int (-nI 103)))) s2 := by
  rw [c8011]
  simp (disch := omega) only [e, ob, ax_8011_0, ax_8011_1, u8011_0, u8011_1, u8011_2, u8011_5, u8011_7, u8011_9, u8011_11, u8011_13, ob_0, ki_m102, ki_m103, decide_eq_true_eq, if_true, if_false, f2_ne, f2_eq, up_ne, up_eq, kc_int, kc_ref, kc_retAddr, kc_long, kc_double, af_n, af_v, z0, z1, n_of, nz6, nz4, bI_T, bI_F, bI_01, n_lt, n_le, n_eq, n_add, n_mul, n_sub, n_clamp, n_vp, m_lt, m_le, m_eq, m_eq2, m_ltm, m_add, true_and, and_true, eq_self, if_pos, if_neg, List.length_nil, List.length_cons, Nat.reduceAdd, Nat.reduceLeDiff, Nat.zero_le, not_true_eq_false, not_false_eq_true, true_or, or_true]
theorem ax_8012_0 {x0 : Int32} {r : List Value} {K : am_K} {st : am_S} : am_af am_m8012 2 [.ref 0, .int x0, am_u] r K P (.inr 0) st = K 7 [.ref 0, .int x0, am_u] [] st := propext ⟨fun h => h.2, fun h => ⟨Nat.le_of_ble_eq_true rfl, h⟩⟩
theorem ax_8012_1 {x0 : Int32} {r : List Value} {K : am_K} {st : am_S} : am_af am_m8012 2 [.ref 0, .int x0, am_u] r K P (.inr 1) st = K 11 [.ref 0, .int x0, am_u] [] st := propext ⟨fun h => h.2, fun h => ⟨Nat.le_of_ble_eq_true rfl, h⟩⟩
theorem wo_switchTo {x0 : Int32} (ob : am_ob s 0 6 = True) (e : ∀ P, am_Ca X d 6013 [.ref 0, .int x0] s P = P (.inl (some (.int v))) s2) : am_Ca X (d + 1) 8012 [.ref 0, .int x0] s P = P (.inl (some (.int v))) s2 := by
  rw [c8012]
  simp (disch := omega) only [e, ob, u8012_0, u8012_1, u8012_2, u8012_5, u8012_7, u8012_9, u8012_11, u8012_13, ob_0, ki_m102, ki_m103, decide_eq_true_eq, if_true, if_false, f2_ne, f2_eq, up_ne, up_eq, kc_int, kc_ref, kc_retAddr, kc_long, kc_double, af_n, af_v, z0, z1, n_of, nz6, nz4, bI_T, bI_F, bI_01, n_lt, n_le, n_eq, n_add, n_mul, n_sub, n_clamp, n_vp, m_lt, m_le, m_eq, m_eq2, m_ltm, m_add, true_and, and_true, eq_self, if_pos, if_neg, List.length_nil, List.length_cons, Nat.reduceAdd, Nat.reduceLeDiff, Nat.zero_le, not_true_eq_false, not_false_eq_true, true_or, or_true]
theorem wx_switchTo_0 {x0 : Int32} (ob : am_ob s 0 6 = True) (e : ∀ P, am_Ca X d 6013 [.ref 0, .int x0] s P = P (.inr 0) s2) : am_Ca X (d + 1) 8012 [.ref 0, .int x0] s P = P (.inl (some (.int (-nI 102)))) s2 := by
  rw [c8012]
  simp (disch := omega) only [e, ob, ax_8012_0, ax_8012_1, u8012_0, u8012_1, u8012_2, u8012_5, u8012_7, u8012_9, u8012_11, u8012_13, ob_0, ki_m102, ki_m103, decide_eq_true_eq, if_true, if_false, f2_ne, f2_eq, up_ne, up_eq, kc_int, kc_ref, kc_retAddr, kc_long, kc_double, af_n, af_v, z0, z1, n_of, nz6, nz4, bI_T, bI_F, bI_01, n_lt, n_le, n_eq, n_add, n_mul, n_sub, n_clamp, n_vp, m_lt, m_le, m_eq, m_eq2, m_ltm, m_add, true_and, and_true, eq_self, if_pos, if_neg, List.length_nil, List.length_cons, Nat.reduceAdd, Nat.reduceLeDiff, Nat.zero_le, not_true_eq_false, not_false_eq_true, true_or, or_true]
theorem wx_switchTo_1 {x0 : Int32} (ob : am_ob s 0 6 = True) (e : ∀ P, am_Ca X d 6013 [.ref 0, .int x0] s P = P (.inr 1) s2) : am_Ca X (d + 1) 8012 [.ref 0, .int x0] s P = P (.inl (some (.int (-nI 103)))) s2 := by
  rw [c8012]
  simp (disch := omega) only [e, ob, ax_8012_0, ax_8012_1, u8012_0, u8012_1, u8012_2, u8012_5, u8012_7, u8012_9, u8012_11, u8012_13, ob_0, ki_m102, ki_m103, decide_eq_true_eq, if_true, if_false, f2_ne, f2_eq, up_ne, up_eq, kc_int, kc_ref, kc_retAddr, kc_long, kc_double, af_n, af_v, z0, z1, n_of, nz6, nz4, bI_T, bI_F, bI_01, n_lt, n_le, n_eq, n_add, n_mul, n_sub, n_clamp, n_vp, m_lt, m_le, m_eq, m_eq2, m_ltm, m_add, true_and, and_true, eq_self, if_pos, if_neg, List.length_nil, List.length_cons, Nat.reduceAdd, Nat.reduceLeDiff, Nat.zero_le, not_true_eq_false, not_false_eq_true, true_or, or_true]
theorem ax_8013_0 {x0 : Int32} {r : List Value} {K : am_K} {st : am_S} : am_af am_m8013 2 [.ref 0, .int x0, am_u] r K P (.inr 0) st = K 7 [.ref 0, .int x0, am_u] [] st := propext ⟨fun h => h.2, fun h => ⟨Nat.le_of_ble_eq_true rfl, h⟩⟩
theorem ax_8013_1 {x0 : Int32} {r : List Value} {K : am_K} {st : am_S} : am_af am_m8013 2 [.ref 0, .int x0, am_u] r K P (.inr 1) st = K 11 [.ref 0, .int x0, am_u] [] st := propext ⟨fun h => h.2, fun h => ⟨Nat.le_of_ble_eq_true rfl, h⟩⟩
theorem wo_merge {x0 : Int32} (ob : am_ob s 0 6 = True) (e : ∀ P, am_Ca X d 6014 [.ref 0, .int x0] s P = P (.inl (some (.int v))) s2) : am_Ca X (d + 1) 8013 [.ref 0, .int x0] s P = P (.inl (some (.int v))) s2 := by
  rw [c8013]
  simp (disch := omega) only [e, ob, u8013_0, u8013_1, u8013_2, u8013_5, u8013_7, u8013_9, u8013_11, u8013_13, ob_0, ki_m102, ki_m103, decide_eq_true_eq, if_true, if_false, f2_ne, f2_eq, up_ne, up_eq, kc_int, kc_ref, kc_retAddr, kc_long, kc_double, af_n, af_v, z0, z1, n_of, nz6, nz4, bI_T, bI_F, bI_01, n_lt, n_le, n_eq, n_add, n_mul, n_sub, n_clamp, n_vp, m_lt, m_le, m_eq, m_eq2, m_ltm, m_add, true_and, and_true, eq_self, if_pos, if_neg, List.length_nil, List.length_cons, Nat.reduceAdd, Nat.reduceLeDiff, Nat.zero_le, not_true_eq_false, not_false_eq_true, true_or, or_true]
theorem wx_merge_0 {x0 : Int32} (ob : am_ob s 0 6 = True) (e : ∀ P, am_Ca X d 6014 [.ref 0, .int x0] s P = P (.inr 0) s2) : am_Ca X (d + 1) 8013 [.ref 0, .int x0] s P = P (.inl (some (.int (-nI 102)))) s2 := by
  rw [c8013]
  simp (disch := omega) only [e, ob, ax_8013_0, ax_8013_1, u8013_0, u8013_1, u8013_2, u8013_5, u8013_7, u8013_9, u8013_11, u8013_13, ob_0, ki_m102, ki_m103, decide_eq_true_eq, if_true, if_false, f2_ne, f2_eq, up_ne, up_eq, kc_int, kc_ref, kc_retAddr, kc_long, kc_double, af_n, af_v, z0, z1, n_of, nz6, nz4, bI_T, bI_F, bI_01, n_lt, n_le, n_eq, n_add, n_mul, n_sub, n_clamp, n_vp, m_lt, m_le, m_eq, m_eq2, m_ltm, m_add, true_and, and_true, eq_self, if_pos, if_neg, List.length_nil, List.length_cons, Nat.reduceAdd, Nat.reduceLeDiff, Nat.zero_le, not_true_eq_false, not_false_eq_true, true_or, or_true]
theorem wx_merge_1 {x0 : Int32} (ob : am_ob s 0 6 = True) (e : ∀ P, am_Ca X d 6014 [.ref 0, .int x0] s P = P (.inr 1) s2) : am_Ca X (d + 1) 8013 [.ref 0, .int x0] s P = P (.inl (some (.int (-nI 103)))) s2 := by
  rw [c8013]
  simp (disch := omega) only [e, ob, ax_8013_0, ax_8013_1, u8013_0, u8013_1, u8013_2, u8013_5, u8013_7, u8013_9, u8013_11, u8013_13, ob_0, ki_m102, ki_m103, decide_eq_true_eq, if_true, if_false, f2_ne, f2_eq, up_ne, up_eq, kc_int, kc_ref, kc_retAddr, kc_long, kc_double, af_n, af_v, z0, z1, n_of, nz6, nz4, bI_T, bI_F, bI_01, n_lt, n_le, n_eq, n_add, n_mul, n_sub, n_clamp, n_vp, m_lt, m_le, m_eq, m_eq2, m_ltm, m_add, true_and, and_true, eq_self, if_pos, if_neg, List.length_nil, List.length_cons, Nat.reduceAdd, Nat.reduceLeDiff, Nat.zero_le, not_true_eq_false, not_false_eq_true, true_or, or_true]
theorem ax_8014_0 {x0 : Int32} {r : List Value} {K : am_K} {st : am_S} : am_af am_m8014 2 [.ref 0, .int x0, am_u] r K P (.inr 0) st = K 7 [.ref 0, .int x0, am_u] [] st := propext ⟨fun h => h.2, fun h => ⟨Nat.le_of_ble_eq_true rfl, h⟩⟩
theorem ax_8014_1 {x0 : Int32} {r : List Value} {K : am_K} {st : am_S} : am_af am_m8014 2 [.ref 0, .int x0, am_u] r K P (.inr 1) st = K 11 [.ref 0, .int x0, am_u] [] st := propext ⟨fun h => h.2, fun h => ⟨Nat.le_of_ble_eq_true rfl, h⟩⟩
theorem wo_pick {x0 : Int32} (ob : am_ob s 0 6 = True) (e : ∀ P, am_Ca X d 6015 [.ref 0, .int x0] s P = P (.inl (some (.int v))) s2) : am_Ca X (d + 1) 8014 [.ref 0, .int x0] s P = P (.inl (some (.int v))) s2 := by
  rw [c8014]
  simp (disch := omega) only [e, ob, u8014_0, u8014_1, u8014_2, u8014_5, u8014_7, u8014_9, u8014_11, u8014_13, ob_0, ki_m102, ki_m103, decide_eq_true_eq, if_true, if_false, f2_ne, f2_eq, up_ne, up_eq, kc_int, kc_ref, kc_retAddr, kc_long, kc_double, af_n, af_v, z0, z1, n_of, nz6, nz4, bI_T, bI_F, bI_01, n_lt, n_le, n_eq, n_add, n_mul, n_sub, n_clamp, n_vp, m_lt, m_le, m_eq, m_eq2, m_ltm, m_add, true_and, and_true, eq_self, if_pos, if_neg, List.length_nil, List.length_cons, Nat.reduceAdd, Nat.reduceLeDiff, Nat.zero_le, not_true_eq_false, not_false_eq_true, true_or, or_true]
theorem wx_pick_0 {x0 : Int32} (ob : am_ob s 0 6 = True) (e : ∀ P, am_Ca X d 6015 [.ref 0, .int x0] s P = P (.inr 0) s2) : am_Ca X (d + 1) 8014 [.ref 0, .int x0] s P = P (.inl (some (.int (-nI 102)))) s2 := by
  rw [c8014]
  simp (disch := omega) only [e, ob, ax_8014_0, ax_8014_1, u8014_0, u8014_1, u8014_2, u8014_5, u8014_7, u8014_9, u8014_11, u8014_13, ob_0, ki_m102, ki_m103, decide_eq_true_eq, if_true, if_false, f2_ne, f2_eq, up_ne, up_eq, kc_int, kc_ref, kc_retAddr, kc_long, kc_double, af_n, af_v, z0, z1, n_of, nz6, nz4, bI_T, bI_F, bI_01, n_lt, n_le, n_eq, n_add, n_mul, n_sub, n_clamp, n_vp, m_lt, m_le, m_eq, m_eq2, m_ltm, m_add, true_and, and_true, eq_self, if_pos, if_neg, List.length_nil, List.length_cons, Nat.reduceAdd, Nat.reduceLeDiff, Nat.zero_le, not_true_eq_false, not_false_eq_true, true_or, or_true]
theorem wx_pick_1 {x0 : Int32} (ob : am_ob s 0 6 = True) (e : ∀ P, am_Ca X d 6015 [.ref 0, .int x0] s P = P (.inr 1) s2) : am_Ca X (d + 1) 8014 [.ref 0, .int x0] s P = P (.inl (some (.int (-nI 103)))) s2 := by
  rw [c8014]
  simp (disch := omega) only [e, ob, ax_8014_0, ax_8014_1, u8014_0, u8014_1, u8014_2, u8014_5, u8014_7, u8014_9, u8014_11, u8014_13, ob_0, ki_m102, ki_m103, decide_eq_true_eq, if_true, if_false, f2_ne, f2_eq, up_ne, up_eq, kc_int, kc_ref, kc_retAddr, kc_long, kc_double, af_n, af_v, z0, z1, n_of, nz6, nz4, bI_T, bI_F, bI_01, n_lt, n_le, n_eq, n_add, n_mul, n_sub, n_clamp, n_vp, m_lt, m_le, m_eq, m_eq2, m_ltm, m_add, true_and, and_true, eq_self, if_pos, if_neg, List.length_nil, List.length_cons, Nat.reduceAdd, Nat.reduceLeDiff, Nat.zero_le, not_true_eq_false, not_false_eq_true, true_or, or_true]
theorem ax_8015_0 {x0 : Int32} {r : List Value} {K : am_K} {st : am_S} : am_af am_m8015 2 [.ref 0, .int x0, am_u] r K P (.inr 0) st = K 7 [.ref 0, .int x0, am_u] [] st := propext ⟨fun h => h.2, fun h => ⟨Nat.le_of_ble_eq_true rfl, h⟩⟩
theorem ax_8015_1 {x0 : Int32} {r : List Value} {K : am_K} {st : am_S} : am_af am_m8015 2 [.ref 0, .int x0, am_u] r K P (.inr 1) st = K 11 [.ref 0, .int x0, am_u] [] st := propext ⟨fun h => h.2, fun h => ⟨Nat.le_of_ble_eq_true rfl, h⟩⟩
theorem wo_revert {x0 : Int32} (ob : am_ob s 0 6 = True) (e : ∀ P, am_Ca X d 6016 [.ref 0, .int x0] s P = P (.inl (some (.int v))) s2) : am_Ca X (d + 1) 8015 [.ref 0, .int x0] s P = P (.inl (some (.int v))) s2 := by
  rw [c8015]
  simp (disch := omega) only [e, ob, u8015_0, u8015_1, u8015_2, u8015_5, u8015_7, u8015_9, u8015_11, u8015_13, ob_0, ki_m102, ki_m103, decide_eq_true_eq, if_true, if_false, f2_ne, f2_eq, up_ne, up_eq, kc_int, kc_ref, kc_retAddr, kc_long, kc_double, af_n, af_v, z0, z1, n_of, nz6, nz4, bI_T, bI_F, bI_01, n_lt, n_le, n_eq, n_add, n_mul, n_sub, n_clamp, n_vp, m_lt, m_le, m_eq, m_eq2, m_ltm, m_add, true_and, and_true, eq_self, if_pos, if_neg, List.length_nil, List.length_cons, Nat.reduceAdd, Nat.reduceLeDiff, Nat.zero_le, not_true_eq_false, not_false_eq_true, true_or, or_true]
theorem wx_revert_0 {x0 : Int32} (ob : am_ob s 0 6 = True) (e : ∀ P, am_Ca X d 6016 [.ref 0, .int x0] s P = P (.inr 0) s2) : am_Ca X (d + 1) 8015 [.ref 0, .int x0] s P = P (.inl (some (.int (-nI 102)))) s2 := by
  rw [c8015]
  simp (disch := omega) only [e, ob, ax_8015_0, ax_8015_1, u8015_0, u8015_1, u8015_2, u8015_5, u8015_7, u8015_9, u8015_11, u8015_13, ob_0, ki_m102, ki_m103, decide_eq_true_eq, if_true, if_false, f2_ne, f2_eq, up_ne, up_eq, kc_int, kc_ref, kc_retAddr, kc_long, kc_double, af_n, af_v, z0, z1, n_of, nz6, nz4, bI_T, bI_F, bI_01, n_lt, n_le, n_eq, n_add, n_mul, n_sub, n_clamp, n_vp, m_lt, m_le, m_eq, m_eq2, m_ltm, m_add, true_and, and_true, eq_self, if_pos, if_neg, List.length_nil, List.length_cons, Nat.reduceAdd, Nat.reduceLeDiff, Nat.zero_le, not_true_eq_false, not_false_eq_true, true_or, or_true]
theorem wx_revert_1 {x0 : Int32} (ob : am_ob s 0 6 = True) (e : ∀ P, am_Ca X d 6016 [.ref 0, .int x0] s P = P (.inr 1) s2) : am_Ca X (d + 1) 8015 [.ref 0, .int x0] s P = P (.inl (some (.int (-nI 103)))) s2 := by
  rw [c8015]
  simp (disch := omega) only [e, ob, ax_8015_0, ax_8015_1, u8015_0, u8015_1, u8015_2, u8015_5, u8015_7, u8015_9, u8015_11, u8015_13, ob_0, ki_m102, ki_m103, decide_eq_true_eq, if_true, if_false, f2_ne, f2_eq, up_ne, up_eq, kc_int, kc_ref, kc_retAddr, kc_long, kc_double, af_n, af_v, z0, z1, n_of, nz6, nz4, bI_T, bI_F, bI_01, n_lt, n_le, n_eq, n_add, n_mul, n_sub, n_clamp, n_vp, m_lt, m_le, m_eq, m_eq2, m_ltm, m_add, true_and, and_true, eq_self, if_pos, if_neg, List.length_nil, List.length_cons, Nat.reduceAdd, Nat.reduceLeDiff, Nat.zero_le, not_true_eq_false, not_false_eq_true, true_or, or_true]
theorem ax_8016_0 {x0 : Int32} {r : List Value} {K : am_K} {st : am_S} : am_af am_m8016 2 [.ref 0, .int x0, am_u] r K P (.inr 0) st = K 7 [.ref 0, .int x0, am_u] [] st := propext ⟨fun h => h.2, fun h => ⟨Nat.le_of_ble_eq_true rfl, h⟩⟩
theorem ax_8016_1 {x0 : Int32} {r : List Value} {K : am_K} {st : am_S} : am_af am_m8016 2 [.ref 0, .int x0, am_u] r K P (.inr 1) st = K 11 [.ref 0, .int x0, am_u] [] st := propext ⟨fun h => h.2, fun h => ⟨Nat.le_of_ble_eq_true rfl, h⟩⟩
theorem wo_replay {x0 : Int32} (ob : am_ob s 0 6 = True) (e : ∀ P, am_Ca X d 6017 [.ref 0, .int x0] s P = P (.inl (some (.int v))) s2) : am_Ca X (d + 1) 8016 [.ref 0, .int x0] s P = P (.inl (some (.int v))) s2 := by
  rw [c8016]
  simp (disch := omega) only [e, ob, u8016_0, u8016_1, u8016_2, u8016_5, u8016_7, u8016_9, u8016_11, u8016_13, ob_0, ki_m102, ki_m103, decide_eq_true_eq, if_true, if_false, f2_ne, f2_eq, up_ne, up_eq, kc_int, kc_ref, kc_retAddr, kc_long, kc_double, af_n, af_v, z0, z1, n_of, nz6, nz4, bI_T, bI_F, bI_01, n_lt, n_le, n_eq, n_add, n_mul, n_sub, n_clamp, n_vp, m_lt, m_le, m_eq, m_eq2, m_ltm, m_add, true_and, and_true, eq_self, if_pos, if_neg, List.length_nil, List.length_cons, Nat.reduceAdd, Nat.reduceLeDiff, Nat.zero_le, not_true_eq_false, not_false_eq_true, true_or, or_true]
theorem wx_replay_0 {x0 : Int32} (ob : am_ob s 0 6 = True) (e : ∀ P, am_Ca X d 6017 [.ref 0, .int x0] s P = P (.inr 0) s2) : am_Ca X (d + 1) 8016 [.ref 0, .int x0] s P = P (.inl (some (.int (-nI 102)))) s2 := by
  rw [c8016]
  simp (disch := omega) only [e, ob, ax_8016_0, ax_8016_1, u8016_0, u8016_1, u8016_2, u8016_5, u8016_7, u8016_9, u8016_11, u8016_13, ob_0, ki_m102, ki_m103, decide_eq_true_eq, if_true, if_false, f2_ne, f2_eq, up_ne, up_eq, kc_int, kc_ref, kc_retAddr, kc_long, kc_double, af_n, af_v, z0, z1, n_of, nz6, nz4, bI_T, bI_F, bI_01, n_lt, n_le, n_eq, n_add, n_mul, n_sub, n_clamp, n_vp, m_lt, m_le, m_eq, m_eq2, m_ltm, m_add, true_and, and_true, eq_self, if_pos, if_neg, List.length_nil, List.length_cons, Nat.reduceAdd, Nat.reduceLeDiff, Nat.zero_le, not_true_eq_false, not_false_eq_true, true_or, or_true]
theorem wx_replay_1 {x0 : Int32} (ob : am_ob s 0 6 = True) (e : ∀ P, am_Ca X d 6017 [.ref 0, .int x0] s P = P (.inr 1) s2) : am_Ca X (d + 1) 8016 [.ref 0, .int x0] s P = P (.inl (some (.int (-nI 103)))) s2 := by
  rw [c8016]
  simp (disch := omega) only [e, ob, ax_8016_0, ax_8016_1, u8016_0, u8016_1, u8016_2, u8016_5, u8016_7, u8016_9, u8016_11, u8016_13, ob_0, ki_m102, ki_m103, decide_eq_true_eq, if_true, if_false, f2_ne, f2_eq, up_ne, up_eq, kc_int, kc_ref, kc_retAddr, kc_long, kc_double, af_n, af_v, z0, z1, n_of, nz6, nz4, bI_T, bI_F, bI_01, n_lt, n_le, n_eq, n_add, n_mul, n_sub, n_clamp, n_vp, m_lt, m_le, m_eq, m_eq2, m_ltm, m_add, true_and, and_true, eq_self, if_pos, if_neg, List.length_nil, List.length_cons, Nat.reduceAdd, Nat.reduceLeDiff, Nat.zero_le, not_true_eq_false, not_false_eq_true, true_or, or_true]
theorem ax_8017_0 {x0 x1 x2 : Int32} {r : List Value} {K : am_K} {st : am_S} : am_af am_m8017 4 [.ref 0, .int x0, .int x1, .int x2, am_u] r K P (.inr 0) st = K 10 [.ref 0, .int x0, .int x1, .int x2, am_u] [] st := propext ⟨fun h => h.2, fun h => ⟨Nat.le_of_ble_eq_true rfl, h⟩⟩
theorem ax_8017_1 {x0 x1 x2 : Int32} {r : List Value} {K : am_K} {st : am_S} : am_af am_m8017 4 [.ref 0, .int x0, .int x1, .int x2, am_u] r K P (.inr 1) st = K 15 [.ref 0, .int x0, .int x1, .int x2, am_u] [] st := propext ⟨fun h => h.2, fun h => ⟨Nat.le_of_ble_eq_true rfl, h⟩⟩
theorem wo_resolve {x0 x1 x2 : Int32} (ob : am_ob s 0 6 = True) (e : ∀ P, am_Ca X d 6018 [.ref 0, .int x0, .int x1, .int x2] s P = P (.inl (some (.int v))) s2) : am_Ca X (d + 1) 8017 [.ref 0, .int x0, .int x1, .int x2] s P = P (.inl (some (.int v))) s2 := by
  rw [c8017]
  simp (disch := omega) only [e, ob, u8017_0, u8017_1, u8017_2, u8017_3, u8017_4, u8017_7, u8017_10, u8017_12, u8017_15, u8017_17, ob_0, ki_m102, ki_m103, decide_eq_true_eq, if_true, if_false, f2_ne, f2_eq, up_ne, up_eq, kc_int, kc_ref, kc_retAddr, kc_long, kc_double, af_n, af_v, z0, z1, n_of, nz6, nz4, bI_T, bI_F, bI_01, n_lt, n_le, n_eq, n_add, n_mul, n_sub, n_clamp, n_vp, m_lt, m_le, m_eq, m_eq2, m_ltm, m_add, true_and, and_true, eq_self, if_pos, if_neg, List.length_nil, List.length_cons, Nat.reduceAdd, Nat.reduceLeDiff, Nat.zero_le, not_true_eq_false, not_false_eq_true, true_or, or_true]
theorem wx_resolve_0 {x0 x1 x2 : Int32} (ob : am_ob s 0 6 = True) (e : ∀ P, am_Ca X d 6018 [.ref 0, .int x0, .int x1, .int x2] s P = P (.inr 0) s2) : am_Ca X (d + 1) 8017 [.ref 0, .int x0, .int x1, .int x2] s P = P (.inl (some (.int (-nI 102)))) s2 := by
  rw [c8017]
  simp (disch := omega) only [e, ob, ax_8017_0, ax_8017_1, u8017_0, u8017_1, u8017_2, u8017_3, u8017_4, u8017_7, u8017_10, u8017_12, u8017_15, u8017_17, ob_0, ki_m102, ki_m103, decide_eq_true_eq, if_true, if_false, f2_ne, f2_eq, up_ne, up_eq, kc_int, kc_ref, kc_retAddr, kc_long, kc_double, af_n, af_v, z0, z1, n_of, nz6, nz4, bI_T, bI_F, bI_01, n_lt, n_le, n_eq, n_add, n_mul, n_sub, n_clamp, n_vp, m_lt, m_le, m_eq, m_eq2, m_ltm, m_add, true_and, and_true, eq_self, if_pos, if_neg, List.length_nil, List.length_cons, Nat.reduceAdd, Nat.reduceLeDiff, Nat.zero_le, not_true_eq_false, not_false_eq_true, true_or, or_true]
theorem wx_resolve_1 {x0 x1 x2 : Int32} (ob : am_ob s 0 6 = True) (e : ∀ P, am_Ca X d 6018 [.ref 0, .int x0, .int x1, .int x2] s P = P (.inr 1) s2) : am_Ca X (d + 1) 8017 [.ref 0, .int x0, .int x1, .int x2] s P = P (.inl (some (.int (-nI 103)))) s2 := by
  rw [c8017]
  simp (disch := omega) only [e, ob, ax_8017_0, ax_8017_1, u8017_0, u8017_1, u8017_2, u8017_3, u8017_4, u8017_7, u8017_10, u8017_12, u8017_15, u8017_17, ob_0, ki_m102, ki_m103, decide_eq_true_eq, if_true, if_false, f2_ne, f2_eq, up_ne, up_eq, kc_int, kc_ref, kc_retAddr, kc_long, kc_double, af_n, af_v, z0, z1, n_of, nz6, nz4, bI_T, bI_F, bI_01, n_lt, n_le, n_eq, n_add, n_mul, n_sub, n_clamp, n_vp, m_lt, m_le, m_eq, m_eq2, m_ltm, m_add, true_and, and_true, eq_self, if_pos, if_neg, List.length_nil, List.length_cons, Nat.reduceAdd, Nat.reduceLeDiff, Nat.zero_le, not_true_eq_false, not_false_eq_true, true_or, or_true]
theorem ax_8018_1 {r : List Value} {K : am_K} {st : am_S} : am_af am_m8018 1 [.ref 0, am_u] r K P (.inr 1) st = K 6 [.ref 0, am_u] [] st := propext ⟨fun h => h.2, fun h => ⟨Nat.le_of_ble_eq_true rfl, h⟩⟩
theorem wo_abort (ob : am_ob s 0 6 = True) (e : ∀ P, am_Ca X d 6019 [.ref 0] s P = P (.inl (some (.int v))) s2) : am_Ca X (d + 1) 8018 [.ref 0] s P = P (.inl (some (.int v))) s2 := by
  rw [c8018]
  simp (disch := omega) only [e, ob, u8018_0, u8018_1, u8018_4, u8018_6, u8018_8, ob_0, ki_m103, decide_eq_true_eq, if_true, if_false, f2_ne, f2_eq, up_ne, up_eq, kc_int, kc_ref, kc_retAddr, kc_long, kc_double, af_n, af_v, z0, z1, n_of, nz6, nz4, bI_T, bI_F, bI_01, n_lt, n_le, n_eq, n_add, n_mul, n_sub, n_clamp, n_vp, m_lt, m_le, m_eq, m_eq2, m_ltm, m_add, true_and, and_true, eq_self, if_pos, if_neg, List.length_nil, List.length_cons, Nat.reduceAdd, Nat.reduceLeDiff, Nat.zero_le, not_true_eq_false, not_false_eq_true, true_or, or_true]
theorem wx_abort_1 (ob : am_ob s 0 6 = True) (e : ∀ P, am_Ca X d 6019 [.ref 0] s P = P (.inr 1) s2) : am_Ca X (d + 1) 8018 [.ref 0] s P = P (.inl (some (.int (-nI 103)))) s2 := by
  rw [c8018]
  simp (disch := omega) only [e, ob, ax_8018_1, u8018_0, u8018_1, u8018_4, u8018_6, u8018_8, ob_0, ki_m103, decide_eq_true_eq, if_true, if_false, f2_ne, f2_eq, up_ne, up_eq, kc_int, kc_ref, kc_retAddr, kc_long, kc_double, af_n, af_v, z0, z1, n_of, nz6, nz4, bI_T, bI_F, bI_01, n_lt, n_le, n_eq, n_add, n_mul, n_sub, n_clamp, n_vp, m_lt, m_le, m_eq, m_eq2, m_ltm, m_add, true_and, and_true, eq_self, if_pos, if_neg, List.length_nil, List.length_cons, Nat.reduceAdd, Nat.reduceLeDiff, Nat.zero_le, not_true_eq_false, not_false_eq_true, true_or, or_true]
theorem ax_8019_0 {x0 x1 : Int32} {r : List Value} {K : am_K} {st : am_S} : am_af am_m8019 5 [.ref 0, .int x0, .int x1, .int (nI 0), am_u] r K P (.inr 0) st = K 14 [.ref 0, .int x0, .int x1, .int (nI 0), am_u] [] st := propext ⟨fun h => h.2, fun h => ⟨Nat.le_of_ble_eq_true rfl, h⟩⟩
theorem wo_isConflict {x0 x1 : Int32} {Z : Prop} (ob : am_ob s 0 6 = True) (e : ∀ P, am_Ca X d 6020 [.ref 0, .int x0, .int x1] s P = P (.inl (some (.int (bI Z)))) s2) : am_Ca X (d + 1) 8019 [.ref 0, .int x0, .int x1] s P = P (.inl (some (.int (bI Z)))) s2 := by
  rw [c8019]
  by_cases hv : Z
  · rw [bI_t hv] at e ⊢
    simp (disch := omega) only [e, ob, u8019_0, u8019_1, u8019_2, u8019_3, u8019_4, u8019_5, u8019_8, u8019_9, u8019_14, u8019_16, u8019_17, u8019_18, u8019_21, u8019_22, u8019_25, u8019_26, ob_0, ki_m102, ki_0, ki_1, decide_eq_true_eq, if_true, if_false, f2_ne, f2_eq, up_ne, up_eq, kc_int, kc_ref, kc_retAddr, kc_long, kc_double, af_n, af_v, z0, z1, n_of, nz6, nz4, bI_T, bI_F, bI_01, n_lt, n_le, n_eq, n_add, n_mul, n_sub, n_clamp, n_vp, m_lt, m_le, m_eq, m_eq2, m_ltm, m_add, true_and, and_true, eq_self, if_pos, if_neg, List.length_nil, List.length_cons, Nat.reduceAdd, Nat.reduceLeDiff, Nat.zero_le, not_true_eq_false, not_false_eq_true, true_or, or_true]
  · rw [bI_f hv] at e ⊢
    simp (disch := omega) only [e, ob, u8019_0, u8019_1, u8019_2, u8019_3, u8019_4, u8019_5, u8019_8, u8019_9, u8019_14, u8019_16, u8019_17, u8019_18, u8019_21, u8019_22, u8019_25, u8019_26, ob_0, ki_m102, ki_0, ki_1, decide_eq_true_eq, if_true, if_false, f2_ne, f2_eq, up_ne, up_eq, kc_int, kc_ref, kc_retAddr, kc_long, kc_double, af_n, af_v, z0, z1, n_of, nz6, nz4, bI_T, bI_F, bI_01, n_lt, n_le, n_eq, n_add, n_mul, n_sub, n_clamp, n_vp, m_lt, m_le, m_eq, m_eq2, m_ltm, m_add, true_and, and_true, eq_self, if_pos, if_neg, List.length_nil, List.length_cons, Nat.reduceAdd, Nat.reduceLeDiff, Nat.zero_le, not_true_eq_false, not_false_eq_true, true_or, or_true]
theorem wx_isConflict_0 {x0 x1 : Int32} (ob : am_ob s 0 6 = True) (e : ∀ P, am_Ca X d 6020 [.ref 0, .int x0, .int x1] s P = P (.inr 0) s2) : am_Ca X (d + 1) 8019 [.ref 0, .int x0, .int x1] s P = P (.inl (some (.int (-nI 102)))) s2 := by
  rw [c8019]
  simp (disch := omega) only [e, ob, ax_8019_0, u8019_0, u8019_1, u8019_2, u8019_3, u8019_4, u8019_5, u8019_8, u8019_9, u8019_14, u8019_16, u8019_17, u8019_18, u8019_21, u8019_22, u8019_25, u8019_26, ob_0, ki_m102, ki_0, ki_1, decide_eq_true_eq, if_true, if_false, f2_ne, f2_eq, up_ne, up_eq, kc_int, kc_ref, kc_retAddr, kc_long, kc_double, af_n, af_v, z0, z1, n_of, nz6, nz4, bI_T, bI_F, bI_01, n_lt, n_le, n_eq, n_add, n_mul, n_sub, n_clamp, n_vp, m_lt, m_le, m_eq, m_eq2, m_ltm, m_add, true_and, and_true, eq_self, if_pos, if_neg, List.length_nil, List.length_cons, Nat.reduceAdd, Nat.reduceLeDiff, Nat.zero_le, not_true_eq_false, not_false_eq_true, true_or, or_true]
theorem ax_8020_0 {x0 x1 : Int32} {r : List Value} {K : am_K} {st : am_S} : am_af am_m8020 3 [.ref 0, .int x0, .int x1, am_u] r K P (.inr 0) st = K 8 [.ref 0, .int x0, .int x1, am_u] [] st := propext ⟨fun h => h.2, fun h => ⟨Nat.le_of_ble_eq_true rfl, h⟩⟩
theorem ax_8020_1 {x0 x1 : Int32} {r : List Value} {K : am_K} {st : am_S} : am_af am_m8020 3 [.ref 0, .int x0, .int x1, am_u] r K P (.inr 1) st = K 12 [.ref 0, .int x0, .int x1, am_u] [] st := propext ⟨fun h => h.2, fun h => ⟨Nat.le_of_ble_eq_true rfl, h⟩⟩
theorem wo_theirs {x0 x1 : Int32} (ob : am_ob s 0 6 = True) (e : ∀ P, am_Ca X d 6021 [.ref 0, .int x0, .int x1] s P = P (.inl (some (.int v))) s2) : am_Ca X (d + 1) 8020 [.ref 0, .int x0, .int x1] s P = P (.inl (some (.int v))) s2 := by
  rw [c8020]
  simp (disch := omega) only [e, ob, u8020_0, u8020_1, u8020_2, u8020_3, u8020_6, u8020_8, u8020_10, u8020_12, u8020_14, ob_0, ki_m102, ki_m103, decide_eq_true_eq, if_true, if_false, f2_ne, f2_eq, up_ne, up_eq, kc_int, kc_ref, kc_retAddr, kc_long, kc_double, af_n, af_v, z0, z1, n_of, nz6, nz4, bI_T, bI_F, bI_01, n_lt, n_le, n_eq, n_add, n_mul, n_sub, n_clamp, n_vp, m_lt, m_le, m_eq, m_eq2, m_ltm, m_add, true_and, and_true, eq_self, if_pos, if_neg, List.length_nil, List.length_cons, Nat.reduceAdd, Nat.reduceLeDiff, Nat.zero_le, not_true_eq_false, not_false_eq_true, true_or, or_true]
theorem wx_theirs_0 {x0 x1 : Int32} (ob : am_ob s 0 6 = True) (e : ∀ P, am_Ca X d 6021 [.ref 0, .int x0, .int x1] s P = P (.inr 0) s2) : am_Ca X (d + 1) 8020 [.ref 0, .int x0, .int x1] s P = P (.inl (some (.int (-nI 102)))) s2 := by
  rw [c8020]
  simp (disch := omega) only [e, ob, ax_8020_0, ax_8020_1, u8020_0, u8020_1, u8020_2, u8020_3, u8020_6, u8020_8, u8020_10, u8020_12, u8020_14, ob_0, ki_m102, ki_m103, decide_eq_true_eq, if_true, if_false, f2_ne, f2_eq, up_ne, up_eq, kc_int, kc_ref, kc_retAddr, kc_long, kc_double, af_n, af_v, z0, z1, n_of, nz6, nz4, bI_T, bI_F, bI_01, n_lt, n_le, n_eq, n_add, n_mul, n_sub, n_clamp, n_vp, m_lt, m_le, m_eq, m_eq2, m_ltm, m_add, true_and, and_true, eq_self, if_pos, if_neg, List.length_nil, List.length_cons, Nat.reduceAdd, Nat.reduceLeDiff, Nat.zero_le, not_true_eq_false, not_false_eq_true, true_or, or_true]
theorem wx_theirs_1 {x0 x1 : Int32} (ob : am_ob s 0 6 = True) (e : ∀ P, am_Ca X d 6021 [.ref 0, .int x0, .int x1] s P = P (.inr 1) s2) : am_Ca X (d + 1) 8020 [.ref 0, .int x0, .int x1] s P = P (.inl (some (.int (-nI 103)))) s2 := by
  rw [c8020]
  simp (disch := omega) only [e, ob, ax_8020_0, ax_8020_1, u8020_0, u8020_1, u8020_2, u8020_3, u8020_6, u8020_8, u8020_10, u8020_12, u8020_14, ob_0, ki_m102, ki_m103, decide_eq_true_eq, if_true, if_false, f2_ne, f2_eq, up_ne, up_eq, kc_int, kc_ref, kc_retAddr, kc_long, kc_double, af_n, af_v, z0, z1, n_of, nz6, nz4, bI_T, bI_F, bI_01, n_lt, n_le, n_eq, n_add, n_mul, n_sub, n_clamp, n_vp, m_lt, m_le, m_eq, m_eq2, m_ltm, m_add, true_and, and_true, eq_self, if_pos, if_neg, List.length_nil, List.length_cons, Nat.reduceAdd, Nat.reduceLeDiff, Nat.zero_le, not_true_eq_false, not_false_eq_true, true_or, or_true]
theorem ax_8021_0 {x0 x1 : Int32} {r : List Value} {K : am_K} {st : am_S} : am_af am_m8021 3 [.ref 0, .int x0, .int x1, am_u] r K P (.inr 0) st = K 8 [.ref 0, .int x0, .int x1, am_u] [] st := propext ⟨fun h => h.2, fun h => ⟨Nat.le_of_ble_eq_true rfl, h⟩⟩
theorem wo_lineOf {x0 x1 : Int32} (ob : am_ob s 0 6 = True) (e : ∀ P, am_Ca X d 6027 [.ref 0, .int x0, .int x1] s P = P (.inl (some (.int v))) s2) : am_Ca X (d + 1) 8021 [.ref 0, .int x0, .int x1] s P = P (.inl (some (.int v))) s2 := by
  rw [c8021]
  simp (disch := omega) only [e, ob, u8021_0, u8021_1, u8021_2, u8021_3, u8021_6, u8021_8, u8021_10, ob_0, ki_m102, decide_eq_true_eq, if_true, if_false, f2_ne, f2_eq, up_ne, up_eq, kc_int, kc_ref, kc_retAddr, kc_long, kc_double, af_n, af_v, z0, z1, n_of, nz6, nz4, bI_T, bI_F, bI_01, n_lt, n_le, n_eq, n_add, n_mul, n_sub, n_clamp, n_vp, m_lt, m_le, m_eq, m_eq2, m_ltm, m_add, true_and, and_true, eq_self, if_pos, if_neg, List.length_nil, List.length_cons, Nat.reduceAdd, Nat.reduceLeDiff, Nat.zero_le, not_true_eq_false, not_false_eq_true, true_or, or_true]
theorem wx_lineOf_0 {x0 x1 : Int32} (ob : am_ob s 0 6 = True) (e : ∀ P, am_Ca X d 6027 [.ref 0, .int x0, .int x1] s P = P (.inr 0) s2) : am_Ca X (d + 1) 8021 [.ref 0, .int x0, .int x1] s P = P (.inl (some (.int (-nI 102)))) s2 := by
  rw [c8021]
  simp (disch := omega) only [e, ob, ax_8021_0, u8021_0, u8021_1, u8021_2, u8021_3, u8021_6, u8021_8, u8021_10, ob_0, ki_m102, decide_eq_true_eq, if_true, if_false, f2_ne, f2_eq, up_ne, up_eq, kc_int, kc_ref, kc_retAddr, kc_long, kc_double, af_n, af_v, z0, z1, n_of, nz6, nz4, bI_T, bI_F, bI_01, n_lt, n_le, n_eq, n_add, n_mul, n_sub, n_clamp, n_vp, m_lt, m_le, m_eq, m_eq2, m_ltm, m_add, true_and, and_true, eq_self, if_pos, if_neg, List.length_nil, List.length_cons, Nat.reduceAdd, Nat.reduceLeDiff, Nat.zero_le, not_true_eq_false, not_false_eq_true, true_or, or_true]
theorem ax_8022_0 {x0 x1 x2 : Int32} {r : List Value} {K : am_K} {st : am_S} : am_af am_m8022 4 [.ref 0, .int x0, .int x1, .int x2, am_u] r K P (.inr 0) st = K 10 [.ref 0, .int x0, .int x1, .int x2, am_u] [] st := propext ⟨fun h => h.2, fun h => ⟨Nat.le_of_ble_eq_true rfl, h⟩⟩
theorem wo_lineAt {x0 x1 x2 : Int32} (ob : am_ob s 0 6 = True) (e : ∀ P, am_Ca X d 6030 [.ref 0, .int x0, .int x1, .int x2] s P = P (.inl (some (.int v))) s2) : am_Ca X (d + 1) 8022 [.ref 0, .int x0, .int x1, .int x2] s P = P (.inl (some (.int v))) s2 := by
  rw [c8022]
  simp (disch := omega) only [e, ob, u8022_0, u8022_1, u8022_2, u8022_3, u8022_4, u8022_7, u8022_10, u8022_12, ob_0, ki_m102, decide_eq_true_eq, if_true, if_false, f2_ne, f2_eq, up_ne, up_eq, kc_int, kc_ref, kc_retAddr, kc_long, kc_double, af_n, af_v, z0, z1, n_of, nz6, nz4, bI_T, bI_F, bI_01, n_lt, n_le, n_eq, n_add, n_mul, n_sub, n_clamp, n_vp, m_lt, m_le, m_eq, m_eq2, m_ltm, m_add, true_and, and_true, eq_self, if_pos, if_neg, List.length_nil, List.length_cons, Nat.reduceAdd, Nat.reduceLeDiff, Nat.zero_le, not_true_eq_false, not_false_eq_true, true_or, or_true]
theorem wx_lineAt_0 {x0 x1 x2 : Int32} (ob : am_ob s 0 6 = True) (e : ∀ P, am_Ca X d 6030 [.ref 0, .int x0, .int x1, .int x2] s P = P (.inr 0) s2) : am_Ca X (d + 1) 8022 [.ref 0, .int x0, .int x1, .int x2] s P = P (.inl (some (.int (-nI 102)))) s2 := by
  rw [c8022]
  simp (disch := omega) only [e, ob, ax_8022_0, u8022_0, u8022_1, u8022_2, u8022_3, u8022_4, u8022_7, u8022_10, u8022_12, ob_0, ki_m102, decide_eq_true_eq, if_true, if_false, f2_ne, f2_eq, up_ne, up_eq, kc_int, kc_ref, kc_retAddr, kc_long, kc_double, af_n, af_v, z0, z1, n_of, nz6, nz4, bI_T, bI_F, bI_01, n_lt, n_le, n_eq, n_add, n_mul, n_sub, n_clamp, n_vp, m_lt, m_le, m_eq, m_eq2, m_ltm, m_add, true_and, and_true, eq_self, if_pos, if_neg, List.length_nil, List.length_cons, Nat.reduceAdd, Nat.reduceLeDiff, Nat.zero_le, not_true_eq_false, not_false_eq_true, true_or, or_true]
theorem ax_8023_0 {x0 : Int32} {r : List Value} {K : am_K} {st : am_S} : am_af am_m8023 4 [.ref 0, .int x0, .int (nI 0), am_u] r K P (.inr 0) st = K 12 [.ref 0, .int x0, .int (nI 0), am_u] [] st := propext ⟨fun h => h.2, fun h => ⟨Nat.le_of_ble_eq_true rfl, h⟩⟩
theorem wo_isBranch {x0 : Int32} {Z : Prop} (ob : am_ob s 0 6 = True) (e : ∀ P, am_Ca X d 6039 [.ref 0, .int x0] s P = P (.inl (some (.int (bI Z)))) s2) : am_Ca X (d + 1) 8023 [.ref 0, .int x0] s P = P (.inl (some (.int (bI Z)))) s2 := by
  rw [c8023]
  by_cases hv : Z
  · rw [bI_t hv] at e ⊢
    simp (disch := omega) only [e, ob, u8023_0, u8023_1, u8023_2, u8023_3, u8023_4, u8023_7, u8023_8, u8023_12, u8023_14, u8023_15, u8023_16, u8023_19, u8023_20, u8023_23, u8023_24, ob_0, ki_m102, ki_0, ki_1, decide_eq_true_eq, if_true, if_false, f2_ne, f2_eq, up_ne, up_eq, kc_int, kc_ref, kc_retAddr, kc_long, kc_double, af_n, af_v, z0, z1, n_of, nz6, nz4, bI_T, bI_F, bI_01, n_lt, n_le, n_eq, n_add, n_mul, n_sub, n_clamp, n_vp, m_lt, m_le, m_eq, m_eq2, m_ltm, m_add, true_and, and_true, eq_self, if_pos, if_neg, List.length_nil, List.length_cons, Nat.reduceAdd, Nat.reduceLeDiff, Nat.zero_le, not_true_eq_false, not_false_eq_true, true_or, or_true]
  · rw [bI_f hv] at e ⊢
    simp (disch := omega) only [e, ob, u8023_0, u8023_1, u8023_2, u8023_3, u8023_4, u8023_7, u8023_8, u8023_12, u8023_14, u8023_15, u8023_16, u8023_19, u8023_20, u8023_23, u8023_24, ob_0, ki_m102, ki_0, ki_1, decide_eq_true_eq, if_true, if_false, f2_ne, f2_eq, up_ne, up_eq, kc_int, kc_ref, kc_retAddr, kc_long, kc_double, af_n, af_v, z0, z1, n_of, nz6, nz4, bI_T, bI_F, bI_01, n_lt, n_le, n_eq, n_add, n_mul, n_sub, n_clamp, n_vp, m_lt, m_le, m_eq, m_eq2, m_ltm, m_add, true_and, and_true, eq_self, if_pos, if_neg, List.length_nil, List.length_cons, Nat.reduceAdd, Nat.reduceLeDiff, Nat.zero_le, not_true_eq_false, not_false_eq_true, true_or, or_true]
theorem wx_isBranch_0 {x0 : Int32} (ob : am_ob s 0 6 = True) (e : ∀ P, am_Ca X d 6039 [.ref 0, .int x0] s P = P (.inr 0) s2) : am_Ca X (d + 1) 8023 [.ref 0, .int x0] s P = P (.inl (some (.int (-nI 102)))) s2 := by
  rw [c8023]
  simp (disch := omega) only [e, ob, ax_8023_0, u8023_0, u8023_1, u8023_2, u8023_3, u8023_4, u8023_7, u8023_8, u8023_12, u8023_14, u8023_15, u8023_16, u8023_19, u8023_20, u8023_23, u8023_24, ob_0, ki_m102, ki_0, ki_1, decide_eq_true_eq, if_true, if_false, f2_ne, f2_eq, up_ne, up_eq, kc_int, kc_ref, kc_retAddr, kc_long, kc_double, af_n, af_v, z0, z1, n_of, nz6, nz4, bI_T, bI_F, bI_01, n_lt, n_le, n_eq, n_add, n_mul, n_sub, n_clamp, n_vp, m_lt, m_le, m_eq, m_eq2, m_ltm, m_add, true_and, and_true, eq_self, if_pos, if_neg, List.length_nil, List.length_cons, Nat.reduceAdd, Nat.reduceLeDiff, Nat.zero_le, not_true_eq_false, not_false_eq_true, true_or, or_true]
theorem ax_8024_0 {x0 : Int32} {r : List Value} {K : am_K} {st : am_S} : am_af am_m8024 2 [.ref 0, .int x0, am_u] r K P (.inr 0) st = K 7 [.ref 0, .int x0, am_u] [] st := propext ⟨fun h => h.2, fun h => ⟨Nat.le_of_ble_eq_true rfl, h⟩⟩
theorem ax_8024_1 {x0 : Int32} {r : List Value} {K : am_K} {st : am_S} : am_af am_m8024 2 [.ref 0, .int x0, am_u] r K P (.inr 1) st = K 11 [.ref 0, .int x0, am_u] [] st := propext ⟨fun h => h.2, fun h => ⟨Nat.le_of_ble_eq_true rfl, h⟩⟩
theorem wo_standsAt {x0 : Int32} (ob : am_ob s 0 6 = True) (e : ∀ P, am_Ca X d 6040 [.ref 0, .int x0] s P = P (.inl (some (.int v))) s2) : am_Ca X (d + 1) 8024 [.ref 0, .int x0] s P = P (.inl (some (.int v))) s2 := by
  rw [c8024]
  simp (disch := omega) only [e, ob, u8024_0, u8024_1, u8024_2, u8024_5, u8024_7, u8024_9, u8024_11, u8024_13, ob_0, ki_m102, ki_m103, decide_eq_true_eq, if_true, if_false, f2_ne, f2_eq, up_ne, up_eq, kc_int, kc_ref, kc_retAddr, kc_long, kc_double, af_n, af_v, z0, z1, n_of, nz6, nz4, bI_T, bI_F, bI_01, n_lt, n_le, n_eq, n_add, n_mul, n_sub, n_clamp, n_vp, m_lt, m_le, m_eq, m_eq2, m_ltm, m_add, true_and, and_true, eq_self, if_pos, if_neg, List.length_nil, List.length_cons, Nat.reduceAdd, Nat.reduceLeDiff, Nat.zero_le, not_true_eq_false, not_false_eq_true, true_or, or_true]
theorem wx_standsAt_0 {x0 : Int32} (ob : am_ob s 0 6 = True) (e : ∀ P, am_Ca X d 6040 [.ref 0, .int x0] s P = P (.inr 0) s2) : am_Ca X (d + 1) 8024 [.ref 0, .int x0] s P = P (.inl (some (.int (-nI 102)))) s2 := by
  rw [c8024]
  simp (disch := omega) only [e, ob, ax_8024_0, ax_8024_1, u8024_0, u8024_1, u8024_2, u8024_5, u8024_7, u8024_9, u8024_11, u8024_13, ob_0, ki_m102, ki_m103, decide_eq_true_eq, if_true, if_false, f2_ne, f2_eq, up_ne, up_eq, kc_int, kc_ref, kc_retAddr, kc_long, kc_double, af_n, af_v, z0, z1, n_of, nz6, nz4, bI_T, bI_F, bI_01, n_lt, n_le, n_eq, n_add, n_mul, n_sub, n_clamp, n_vp, m_lt, m_le, m_eq, m_eq2, m_ltm, m_add, true_and, and_true, eq_self, if_pos, if_neg, List.length_nil, List.length_cons, Nat.reduceAdd, Nat.reduceLeDiff, Nat.zero_le, not_true_eq_false, not_false_eq_true, true_or, or_true]
theorem wx_standsAt_1 {x0 : Int32} (ob : am_ob s 0 6 = True) (e : ∀ P, am_Ca X d 6040 [.ref 0, .int x0] s P = P (.inr 1) s2) : am_Ca X (d + 1) 8024 [.ref 0, .int x0] s P = P (.inl (some (.int (-nI 103)))) s2 := by
  rw [c8024]
  simp (disch := omega) only [e, ob, ax_8024_0, ax_8024_1, u8024_0, u8024_1, u8024_2, u8024_5, u8024_7, u8024_9, u8024_11, u8024_13, ob_0, ki_m102, ki_m103, decide_eq_true_eq, if_true, if_false, f2_ne, f2_eq, up_ne, up_eq, kc_int, kc_ref, kc_retAddr, kc_long, kc_double, af_n, af_v, z0, z1, n_of, nz6, nz4, bI_T, bI_F, bI_01, n_lt, n_le, n_eq, n_add, n_mul, n_sub, n_clamp, n_vp, m_lt, m_le, m_eq, m_eq2, m_ltm, m_add, true_and, and_true, eq_self, if_pos, if_neg, List.length_nil, List.length_cons, Nat.reduceAdd, Nat.reduceLeDiff, Nat.zero_le, not_true_eq_false, not_false_eq_true, true_or, or_true]
theorem ax_8025_0 {x0 x1 : Int32} {r : List Value} {K : am_K} {st : am_S} : am_af am_m8025 3 [.ref 0, .int x0, .int x1, am_u] r K P (.inr 0) st = K 8 [.ref 0, .int x0, .int x1, am_u] [] st := propext ⟨fun h => h.2, fun h => ⟨Nat.le_of_ble_eq_true rfl, h⟩⟩
theorem wo_historyAt {x0 x1 : Int32} (ob : am_ob s 0 6 = True) (e : ∀ P, am_Ca X d 6047 [.ref 0, .int x0, .int x1] s P = P (.inl (some (.int v))) s2) : am_Ca X (d + 1) 8025 [.ref 0, .int x0, .int x1] s P = P (.inl (some (.int v))) s2 := by
  rw [c8025]
  simp (disch := omega) only [e, ob, u8025_0, u8025_1, u8025_2, u8025_3, u8025_6, u8025_8, u8025_10, ob_0, ki_m102, decide_eq_true_eq, if_true, if_false, f2_ne, f2_eq, up_ne, up_eq, kc_int, kc_ref, kc_retAddr, kc_long, kc_double, af_n, af_v, z0, z1, n_of, nz6, nz4, bI_T, bI_F, bI_01, n_lt, n_le, n_eq, n_add, n_mul, n_sub, n_clamp, n_vp, m_lt, m_le, m_eq, m_eq2, m_ltm, m_add, true_and, and_true, eq_self, if_pos, if_neg, List.length_nil, List.length_cons, Nat.reduceAdd, Nat.reduceLeDiff, Nat.zero_le, not_true_eq_false, not_false_eq_true, true_or, or_true]
theorem wx_historyAt_0 {x0 x1 : Int32} (ob : am_ob s 0 6 = True) (e : ∀ P, am_Ca X d 6047 [.ref 0, .int x0, .int x1] s P = P (.inr 0) s2) : am_Ca X (d + 1) 8025 [.ref 0, .int x0, .int x1] s P = P (.inl (some (.int (-nI 102)))) s2 := by
  rw [c8025]
  simp (disch := omega) only [e, ob, ax_8025_0, u8025_0, u8025_1, u8025_2, u8025_3, u8025_6, u8025_8, u8025_10, ob_0, ki_m102, decide_eq_true_eq, if_true, if_false, f2_ne, f2_eq, up_ne, up_eq, kc_int, kc_ref, kc_retAddr, kc_long, kc_double, af_n, af_v, z0, z1, n_of, nz6, nz4, bI_T, bI_F, bI_01, n_lt, n_le, n_eq, n_add, n_mul, n_sub, n_clamp, n_vp, m_lt, m_le, m_eq, m_eq2, m_ltm, m_add, true_and, and_true, eq_self, if_pos, if_neg, List.length_nil, List.length_cons, Nat.reduceAdd, Nat.reduceLeDiff, Nat.zero_le, not_true_eq_false, not_false_eq_true, true_or, or_true]
theorem ax_8026_0 {x0 : Int32} {r : List Value} {K : am_K} {st : am_S} : am_af am_m8026 2 [.ref 0, .int x0, am_u] r K P (.inr 0) st = K 7 [.ref 0, .int x0, am_u] [] st := propext ⟨fun h => h.2, fun h => ⟨Nat.le_of_ble_eq_true rfl, h⟩⟩
theorem ax_8026_1 {x0 : Int32} {r : List Value} {K : am_K} {st : am_S} : am_af am_m8026 2 [.ref 0, .int x0, am_u] r K P (.inr 1) st = K 11 [.ref 0, .int x0, am_u] [] st := propext ⟨fun h => h.2, fun h => ⟨Nat.le_of_ble_eq_true rfl, h⟩⟩
theorem wo_wouldConflict {x0 : Int32} (ob : am_ob s 0 6 = True) (e : ∀ P, am_Ca X d 6053 [.ref 0, .int x0] s P = P (.inl (some (.int v))) s2) : am_Ca X (d + 1) 8026 [.ref 0, .int x0] s P = P (.inl (some (.int v))) s2 := by
  rw [c8026]
  simp (disch := omega) only [e, ob, u8026_0, u8026_1, u8026_2, u8026_5, u8026_7, u8026_9, u8026_11, u8026_13, ob_0, ki_m102, ki_m103, decide_eq_true_eq, if_true, if_false, f2_ne, f2_eq, up_ne, up_eq, kc_int, kc_ref, kc_retAddr, kc_long, kc_double, af_n, af_v, z0, z1, n_of, nz6, nz4, bI_T, bI_F, bI_01, n_lt, n_le, n_eq, n_add, n_mul, n_sub, n_clamp, n_vp, m_lt, m_le, m_eq, m_eq2, m_ltm, m_add, true_and, and_true, eq_self, if_pos, if_neg, List.length_nil, List.length_cons, Nat.reduceAdd, Nat.reduceLeDiff, Nat.zero_le, not_true_eq_false, not_false_eq_true, true_or, or_true]
theorem wx_wouldConflict_0 {x0 : Int32} (ob : am_ob s 0 6 = True) (e : ∀ P, am_Ca X d 6053 [.ref 0, .int x0] s P = P (.inr 0) s2) : am_Ca X (d + 1) 8026 [.ref 0, .int x0] s P = P (.inl (some (.int (-nI 102)))) s2 := by
  rw [c8026]
  simp (disch := omega) only [e, ob, ax_8026_0, ax_8026_1, u8026_0, u8026_1, u8026_2, u8026_5, u8026_7, u8026_9, u8026_11, u8026_13, ob_0, ki_m102, ki_m103, decide_eq_true_eq, if_true, if_false, f2_ne, f2_eq, up_ne, up_eq, kc_int, kc_ref, kc_retAddr, kc_long, kc_double, af_n, af_v, z0, z1, n_of, nz6, nz4, bI_T, bI_F, bI_01, n_lt, n_le, n_eq, n_add, n_mul, n_sub, n_clamp, n_vp, m_lt, m_le, m_eq, m_eq2, m_ltm, m_add, true_and, and_true, eq_self, if_pos, if_neg, List.length_nil, List.length_cons, Nat.reduceAdd, Nat.reduceLeDiff, Nat.zero_le, not_true_eq_false, not_false_eq_true, true_or, or_true]
theorem wx_wouldConflict_1 {x0 : Int32} (ob : am_ob s 0 6 = True) (e : ∀ P, am_Ca X d 6053 [.ref 0, .int x0] s P = P (.inr 1) s2) : am_Ca X (d + 1) 8026 [.ref 0, .int x0] s P = P (.inl (some (.int (-nI 103)))) s2 := by
  rw [c8026]
  simp (disch := omega) only [e, ob, ax_8026_0, ax_8026_1, u8026_0, u8026_1, u8026_2, u8026_5, u8026_7, u8026_9, u8026_11, u8026_13, ob_0, ki_m102, ki_m103, decide_eq_true_eq, if_true, if_false, f2_ne, f2_eq, up_ne, up_eq, kc_int, kc_ref, kc_retAddr, kc_long, kc_double, af_n, af_v, z0, z1, n_of, nz6, nz4, bI_T, bI_F, bI_01, n_lt, n_le, n_eq, n_add, n_mul, n_sub, n_clamp, n_vp, m_lt, m_le, m_eq, m_eq2, m_ltm, m_add, true_and, and_true, eq_self, if_pos, if_neg, List.length_nil, List.length_cons, Nat.reduceAdd, Nat.reduceLeDiff, Nat.zero_le, not_true_eq_false, not_false_eq_true, true_or, or_true]
theorem ax_8027_1 {r : List Value} {K : am_K} {st : am_S} : am_af am_m8027 1 [.ref 0, am_u] r K P (.inr 1) st = K 6 [.ref 0, am_u] [] st := propext ⟨fun h => h.2, fun h => ⟨Nat.le_of_ble_eq_true rfl, h⟩⟩
theorem wo_goBack (ob : am_ob s 0 6 = True) (e : ∀ P, am_Ca X d 6057 [.ref 0] s P = P (.inl (some (.int v))) s2) : am_Ca X (d + 1) 8027 [.ref 0] s P = P (.inl (some (.int v))) s2 := by
  rw [c8027]
  simp (disch := omega) only [e, ob, u8027_0, u8027_1, u8027_4, u8027_6, u8027_8, ob_0, ki_m103, decide_eq_true_eq, if_true, if_false, f2_ne, f2_eq, up_ne, up_eq, kc_int, kc_ref, kc_retAddr, kc_long, kc_double, af_n, af_v, z0, z1, n_of, nz6, nz4, bI_T, bI_F, bI_01, n_lt, n_le, n_eq, n_add, n_mul, n_sub, n_clamp, n_vp, m_lt, m_le, m_eq, m_eq2, m_ltm, m_add, true_and, and_true, eq_self, if_pos, if_neg, List.length_nil, List.length_cons, Nat.reduceAdd, Nat.reduceLeDiff, Nat.zero_le, not_true_eq_false, not_false_eq_true, true_or, or_true]
theorem wx_goBack_1 (ob : am_ob s 0 6 = True) (e : ∀ P, am_Ca X d 6057 [.ref 0] s P = P (.inr 1) s2) : am_Ca X (d + 1) 8027 [.ref 0] s P = P (.inl (some (.int (-nI 103)))) s2 := by
  rw [c8027]
  simp (disch := omega) only [e, ob, ax_8027_1, u8027_0, u8027_1, u8027_4, u8027_6, u8027_8, ob_0, ki_m103, decide_eq_true_eq, if_true, if_false, f2_ne, f2_eq, up_ne, up_eq, kc_int, kc_ref, kc_retAddr, kc_long, kc_double, af_n, af_v, z0, z1, n_of, nz6, nz4, bI_T, bI_F, bI_01, n_lt, n_le, n_eq, n_add, n_mul, n_sub, n_clamp, n_vp, m_lt, m_le, m_eq, m_eq2, m_ltm, m_add, true_and, and_true, eq_self, if_pos, if_neg, List.length_nil, List.length_cons, Nat.reduceAdd, Nat.reduceLeDiff, Nat.zero_le, not_true_eq_false, not_false_eq_true, true_or, or_true]
theorem ax_8028_1 {r : List Value} {K : am_K} {st : am_S} : am_af am_m8028 1 [.ref 0, am_u] r K P (.inr 1) st = K 6 [.ref 0, am_u] [] st := propext ⟨fun h => h.2, fun h => ⟨Nat.le_of_ble_eq_true rfl, h⟩⟩
theorem wo_undo (ob : am_ob s 0 6 = True) (e : ∀ P, am_Ca X d 6058 [.ref 0] s P = P (.inl (some (.int v))) s2) : am_Ca X (d + 1) 8028 [.ref 0] s P = P (.inl (some (.int v))) s2 := by
  rw [c8028]
  simp (disch := omega) only [e, ob, u8028_0, u8028_1, u8028_4, u8028_6, u8028_8, ob_0, ki_m103, decide_eq_true_eq, if_true, if_false, f2_ne, f2_eq, up_ne, up_eq, kc_int, kc_ref, kc_retAddr, kc_long, kc_double, af_n, af_v, z0, z1, n_of, nz6, nz4, bI_T, bI_F, bI_01, n_lt, n_le, n_eq, n_add, n_mul, n_sub, n_clamp, n_vp, m_lt, m_le, m_eq, m_eq2, m_ltm, m_add, true_and, and_true, eq_self, if_pos, if_neg, List.length_nil, List.length_cons, Nat.reduceAdd, Nat.reduceLeDiff, Nat.zero_le, not_true_eq_false, not_false_eq_true, true_or, or_true]
theorem wx_undo_1 (ob : am_ob s 0 6 = True) (e : ∀ P, am_Ca X d 6058 [.ref 0] s P = P (.inr 1) s2) : am_Ca X (d + 1) 8028 [.ref 0] s P = P (.inl (some (.int (-nI 103)))) s2 := by
  rw [c8028]
  simp (disch := omega) only [e, ob, ax_8028_1, u8028_0, u8028_1, u8028_4, u8028_6, u8028_8, ob_0, ki_m103, decide_eq_true_eq, if_true, if_false, f2_ne, f2_eq, up_ne, up_eq, kc_int, kc_ref, kc_retAddr, kc_long, kc_double, af_n, af_v, z0, z1, n_of, nz6, nz4, bI_T, bI_F, bI_01, n_lt, n_le, n_eq, n_add, n_mul, n_sub, n_clamp, n_vp, m_lt, m_le, m_eq, m_eq2, m_ltm, m_add, true_and, and_true, eq_self, if_pos, if_neg, List.length_nil, List.length_cons, Nat.reduceAdd, Nat.reduceLeDiff, Nat.zero_le, not_true_eq_false, not_false_eq_true, true_or, or_true]
theorem ax_8029_0 {x0 x1 : Int32} {r : List Value} {K : am_K} {st : am_S} : am_af am_m8029 3 [.ref 0, .int x0, .int x1, am_u] r K P (.inr 0) st = K 8 [.ref 0, .int x0, .int x1, am_u] [] st := propext ⟨fun h => h.2, fun h => ⟨Nat.le_of_ble_eq_true rfl, h⟩⟩
theorem wo_differences {x0 x1 : Int32} (ob : am_ob s 0 6 = True) (e : ∀ P, am_Ca X d 6031 [.ref 0, .int x0, .int x1] s P = P (.inl (some (.int v))) s2) : am_Ca X (d + 1) 8029 [.ref 0, .int x0, .int x1] s P = P (.inl (some (.int v))) s2 := by
  rw [c8029]
  simp (disch := omega) only [e, ob, u8029_0, u8029_1, u8029_2, u8029_3, u8029_6, u8029_8, u8029_10, ob_0, ki_m102, decide_eq_true_eq, if_true, if_false, f2_ne, f2_eq, up_ne, up_eq, kc_int, kc_ref, kc_retAddr, kc_long, kc_double, af_n, af_v, z0, z1, n_of, nz6, nz4, bI_T, bI_F, bI_01, n_lt, n_le, n_eq, n_add, n_mul, n_sub, n_clamp, n_vp, m_lt, m_le, m_eq, m_eq2, m_ltm, m_add, true_and, and_true, eq_self, if_pos, if_neg, List.length_nil, List.length_cons, Nat.reduceAdd, Nat.reduceLeDiff, Nat.zero_le, not_true_eq_false, not_false_eq_true, true_or, or_true]
theorem wx_differences_0 {x0 x1 : Int32} (ob : am_ob s 0 6 = True) (e : ∀ P, am_Ca X d 6031 [.ref 0, .int x0, .int x1] s P = P (.inr 0) s2) : am_Ca X (d + 1) 8029 [.ref 0, .int x0, .int x1] s P = P (.inl (some (.int (-nI 102)))) s2 := by
  rw [c8029]
  simp (disch := omega) only [e, ob, ax_8029_0, u8029_0, u8029_1, u8029_2, u8029_3, u8029_6, u8029_8, u8029_10, ob_0, ki_m102, decide_eq_true_eq, if_true, if_false, f2_ne, f2_eq, up_ne, up_eq, kc_int, kc_ref, kc_retAddr, kc_long, kc_double, af_n, af_v, z0, z1, n_of, nz6, nz4, bI_T, bI_F, bI_01, n_lt, n_le, n_eq, n_add, n_mul, n_sub, n_clamp, n_vp, m_lt, m_le, m_eq, m_eq2, m_ltm, m_add, true_and, and_true, eq_self, if_pos, if_neg, List.length_nil, List.length_cons, Nat.reduceAdd, Nat.reduceLeDiff, Nat.zero_le, not_true_eq_false, not_false_eq_true, true_or, or_true]
theorem ax_8030_0 {x0 x1 : Int32} {r : List Value} {K : am_K} {st : am_S} : am_af am_m8030 3 [.ref 0, .int x0, .int x1, am_u] r K P (.inr 0) st = K 8 [.ref 0, .int x0, .int x1, am_u] [] st := propext ⟨fun h => h.2, fun h => ⟨Nat.le_of_ble_eq_true rfl, h⟩⟩
theorem wo_distance {x0 x1 : Int32} (ob : am_ob s 0 6 = True) (e : ∀ P, am_Ca X d 6048 [.ref 0, .int x0, .int x1] s P = P (.inl (some (.int v))) s2) : am_Ca X (d + 1) 8030 [.ref 0, .int x0, .int x1] s P = P (.inl (some (.int v))) s2 := by
  rw [c8030]
  simp (disch := omega) only [e, ob, u8030_0, u8030_1, u8030_2, u8030_3, u8030_6, u8030_8, u8030_10, ob_0, ki_m102, decide_eq_true_eq, if_true, if_false, f2_ne, f2_eq, up_ne, up_eq, kc_int, kc_ref, kc_retAddr, kc_long, kc_double, af_n, af_v, z0, z1, n_of, nz6, nz4, bI_T, bI_F, bI_01, n_lt, n_le, n_eq, n_add, n_mul, n_sub, n_clamp, n_vp, m_lt, m_le, m_eq, m_eq2, m_ltm, m_add, true_and, and_true, eq_self, if_pos, if_neg, List.length_nil, List.length_cons, Nat.reduceAdd, Nat.reduceLeDiff, Nat.zero_le, not_true_eq_false, not_false_eq_true, true_or, or_true]
theorem wx_distance_0 {x0 x1 : Int32} (ob : am_ob s 0 6 = True) (e : ∀ P, am_Ca X d 6048 [.ref 0, .int x0, .int x1] s P = P (.inr 0) s2) : am_Ca X (d + 1) 8030 [.ref 0, .int x0, .int x1] s P = P (.inl (some (.int (-nI 102)))) s2 := by
  rw [c8030]
  simp (disch := omega) only [e, ob, ax_8030_0, u8030_0, u8030_1, u8030_2, u8030_3, u8030_6, u8030_8, u8030_10, ob_0, ki_m102, decide_eq_true_eq, if_true, if_false, f2_ne, f2_eq, up_ne, up_eq, kc_int, kc_ref, kc_retAddr, kc_long, kc_double, af_n, af_v, z0, z1, n_of, nz6, nz4, bI_T, bI_F, bI_01, n_lt, n_le, n_eq, n_add, n_mul, n_sub, n_clamp, n_vp, m_lt, m_le, m_eq, m_eq2, m_ltm, m_add, true_and, and_true, eq_self, if_pos, if_neg, List.length_nil, List.length_cons, Nat.reduceAdd, Nat.reduceLeDiff, Nat.zero_le, not_true_eq_false, not_false_eq_true, true_or, or_true]
theorem ax_8031_0 {x0 x1 : Int32} {r : List Value} {K : am_K} {st : am_S} : am_af am_m8031 3 [.ref 0, .int x0, .int x1, am_u] r K P (.inr 0) st = K 8 [.ref 0, .int x0, .int x1, am_u] [] st := propext ⟨fun h => h.2, fun h => ⟨Nat.le_of_ble_eq_true rfl, h⟩⟩
theorem wo_base {x0 x1 : Int32} (ob : am_ob s 0 6 = True) (e : ∀ P, am_Ca X d 6050 [.ref 0, .int x0, .int x1] s P = P (.inl (some (.int v))) s2) : am_Ca X (d + 1) 8031 [.ref 0, .int x0, .int x1] s P = P (.inl (some (.int v))) s2 := by
  rw [c8031]
  simp (disch := omega) only [e, ob, u8031_0, u8031_1, u8031_2, u8031_3, u8031_6, u8031_8, u8031_10, ob_0, ki_m102, decide_eq_true_eq, if_true, if_false, f2_ne, f2_eq, up_ne, up_eq, kc_int, kc_ref, kc_retAddr, kc_long, kc_double, af_n, af_v, z0, z1, n_of, nz6, nz4, bI_T, bI_F, bI_01, n_lt, n_le, n_eq, n_add, n_mul, n_sub, n_clamp, n_vp, m_lt, m_le, m_eq, m_eq2, m_ltm, m_add, true_and, and_true, eq_self, if_pos, if_neg, List.length_nil, List.length_cons, Nat.reduceAdd, Nat.reduceLeDiff, Nat.zero_le, not_true_eq_false, not_false_eq_true, true_or, or_true]
theorem wx_base_0 {x0 x1 : Int32} (ob : am_ob s 0 6 = True) (e : ∀ P, am_Ca X d 6050 [.ref 0, .int x0, .int x1] s P = P (.inr 0) s2) : am_Ca X (d + 1) 8031 [.ref 0, .int x0, .int x1] s P = P (.inl (some (.int (-nI 102)))) s2 := by
  rw [c8031]
  simp (disch := omega) only [e, ob, ax_8031_0, u8031_0, u8031_1, u8031_2, u8031_3, u8031_6, u8031_8, u8031_10, ob_0, ki_m102, decide_eq_true_eq, if_true, if_false, f2_ne, f2_eq, up_ne, up_eq, kc_int, kc_ref, kc_retAddr, kc_long, kc_double, af_n, af_v, z0, z1, n_of, nz6, nz4, bI_T, bI_F, bI_01, n_lt, n_le, n_eq, n_add, n_mul, n_sub, n_clamp, n_vp, m_lt, m_le, m_eq, m_eq2, m_ltm, m_add, true_and, and_true, eq_self, if_pos, if_neg, List.length_nil, List.length_cons, Nat.reduceAdd, Nat.reduceLeDiff, Nat.zero_le, not_true_eq_false, not_false_eq_true, true_or, or_true]
theorem ax_8032_0 {x0 : Int32} {r : List Value} {K : am_K} {st : am_S} : am_af am_m8032 2 [.ref 0, .int x0, am_u] r K P (.inr 0) st = K 7 [.ref 0, .int x0, am_u] [] st := propext ⟨fun h => h.2, fun h => ⟨Nat.le_of_ble_eq_true rfl, h⟩⟩
theorem wo_history {x0 : Int32} (ob : am_ob s 0 6 = True) (e : ∀ P, am_Ca X d 6046 [.ref 0, .int x0] s P = P (.inl (some (.int v))) s2) : am_Ca X (d + 1) 8032 [.ref 0, .int x0] s P = P (.inl (some (.int v))) s2 := by
  rw [c8032]
  simp (disch := omega) only [e, ob, u8032_0, u8032_1, u8032_2, u8032_5, u8032_7, u8032_9, ob_0, ki_m102, decide_eq_true_eq, if_true, if_false, f2_ne, f2_eq, up_ne, up_eq, kc_int, kc_ref, kc_retAddr, kc_long, kc_double, af_n, af_v, z0, z1, n_of, nz6, nz4, bI_T, bI_F, bI_01, n_lt, n_le, n_eq, n_add, n_mul, n_sub, n_clamp, n_vp, m_lt, m_le, m_eq, m_eq2, m_ltm, m_add, true_and, and_true, eq_self, if_pos, if_neg, List.length_nil, List.length_cons, Nat.reduceAdd, Nat.reduceLeDiff, Nat.zero_le, not_true_eq_false, not_false_eq_true, true_or, or_true]
theorem wx_history_0 {x0 : Int32} (ob : am_ob s 0 6 = True) (e : ∀ P, am_Ca X d 6046 [.ref 0, .int x0] s P = P (.inr 0) s2) : am_Ca X (d + 1) 8032 [.ref 0, .int x0] s P = P (.inl (some (.int (-nI 102)))) s2 := by
  rw [c8032]
  simp (disch := omega) only [e, ob, ax_8032_0, u8032_0, u8032_1, u8032_2, u8032_5, u8032_7, u8032_9, ob_0, ki_m102, decide_eq_true_eq, if_true, if_false, f2_ne, f2_eq, up_ne, up_eq, kc_int, kc_ref, kc_retAddr, kc_long, kc_double, af_n, af_v, z0, z1, n_of, nz6, nz4, bI_T, bI_F, bI_01, n_lt, n_le, n_eq, n_add, n_mul, n_sub, n_clamp, n_vp, m_lt, m_le, m_eq, m_eq2, m_ltm, m_add, true_and, and_true, eq_self, if_pos, if_neg, List.length_nil, List.length_cons, Nat.reduceAdd, Nat.reduceLeDiff, Nat.zero_le, not_true_eq_false, not_false_eq_true, true_or, or_true]
theorem ax_8033_0 {x0 : Int32} {r : List Value} {K : am_K} {st : am_S} : am_af am_m8033 2 [.ref 0, .int x0, am_u] r K P (.inr 0) st = K 7 [.ref 0, .int x0, am_u] [] st := propext ⟨fun h => h.2, fun h => ⟨Nat.le_of_ble_eq_true rfl, h⟩⟩
theorem wo_depth {x0 : Int32} (ob : am_ob s 0 6 = True) (e : ∀ P, am_Ca X d 6049 [.ref 0, .int x0] s P = P (.inl (some (.int v))) s2) : am_Ca X (d + 1) 8033 [.ref 0, .int x0] s P = P (.inl (some (.int v))) s2 := by
  rw [c8033]
  simp (disch := omega) only [e, ob, u8033_0, u8033_1, u8033_2, u8033_5, u8033_7, u8033_9, ob_0, ki_m102, decide_eq_true_eq, if_true, if_false, f2_ne, f2_eq, up_ne, up_eq, kc_int, kc_ref, kc_retAddr, kc_long, kc_double, af_n, af_v, z0, z1, n_of, nz6, nz4, bI_T, bI_F, bI_01, n_lt, n_le, n_eq, n_add, n_mul, n_sub, n_clamp, n_vp, m_lt, m_le, m_eq, m_eq2, m_ltm, m_add, true_and, and_true, eq_self, if_pos, if_neg, List.length_nil, List.length_cons, Nat.reduceAdd, Nat.reduceLeDiff, Nat.zero_le, not_true_eq_false, not_false_eq_true, true_or, or_true]
theorem wx_depth_0 {x0 : Int32} (ob : am_ob s 0 6 = True) (e : ∀ P, am_Ca X d 6049 [.ref 0, .int x0] s P = P (.inr 0) s2) : am_Ca X (d + 1) 8033 [.ref 0, .int x0] s P = P (.inl (some (.int (-nI 102)))) s2 := by
  rw [c8033]
  simp (disch := omega) only [e, ob, ax_8033_0, u8033_0, u8033_1, u8033_2, u8033_5, u8033_7, u8033_9, ob_0, ki_m102, decide_eq_true_eq, if_true, if_false, f2_ne, f2_eq, up_ne, up_eq, kc_int, kc_ref, kc_retAddr, kc_long, kc_double, af_n, af_v, z0, z1, n_of, nz6, nz4, bI_T, bI_F, bI_01, n_lt, n_le, n_eq, n_add, n_mul, n_sub, n_clamp, n_vp, m_lt, m_le, m_eq, m_eq2, m_ltm, m_add, true_and, and_true, eq_self, if_pos, if_neg, List.length_nil, List.length_cons, Nat.reduceAdd, Nat.reduceLeDiff, Nat.zero_le, not_true_eq_false, not_false_eq_true, true_or, or_true]
end WR
section WH
variable {d n : Nat} {X : am_X} {G : Fu} {s : am_S} {P : am_Q}
theorem w_commit (hm : mayC G.S) (hh : Hs n G s) : ∃ s2, Hs n (setG (recG G) (cmS2 G.S)) s2 ∧ ∀ P, am_Ca X (d + 9) 8006 [.ref 0] s P = P (.inl (some (.int (nI G.S.n)))) s2 := by
  obtain ⟨s2, h2, e⟩ := h_commit (d := d) (X := X) (hm := hm) (hh := hh)
  exact ⟨s2, h2, fun P => wo_commit (h_ob hh) e⟩
theorem w_commit_no (hm : ¬ (mayC G.S)) (hh : Hs n G s) : ∃ s2, Hs (n + 1) G s2 ∧ ∀ P, am_Ca X (d + 9) 8006 [.ref 0] s P = P (.inl (some (.int (-nI 103)))) s2 := by
  obtain ⟨s2, h2, e⟩ := h_commit_no (d := d) (X := X) (hm := hm) (hh := hh)
  exact ⟨s2, h2, fun P => wx_commit_1 (h_ob hh) e⟩
theorem w_putAside (hm : mayA G.S) (hh : Hs n G s) : ∃ s2, Hs n (setG (recG G) (stand (push G.S) (hd G.S))) s2 ∧ ∀ P, am_Ca X (d + 9) 8008 [.ref 0] s P = P (.inl (some (.int (nI (G.S.ac + 1))))) s2 := by
  obtain ⟨s2, h2, e⟩ := h_putAside (d := d) (X := X) (hm := hm) (hh := hh)
  exact ⟨s2, h2, fun P => wo_putAside (h_ob hh) e⟩
theorem w_putAside_no (hm : ¬ (mayA G.S)) (hh : Hs n G s) : ∃ s2, Hs (n + 1) G s2 ∧ ∀ P, am_Ca X (d + 9) 8008 [.ref 0] s P = P (.inl (some (.int (-nI 103)))) s2 := by
  obtain ⟨s2, h2, e⟩ := h_putAside_no (d := d) (X := X) (hm := hm) (hh := hh)
  exact ⟨s2, h2, fun P => wx_putAside_1 (h_ob hh) e⟩
theorem w_takeBack (hm : mayT G.S) (hh : Hs n G s) : ∃ s2, Hs n (setG (recG G) (tbS G.S)) s2 ∧ ∀ P, am_Ca X (d + 9) 8009 [.ref 0] s P = P (.inl (some (.int (nI (cnt (kB (G.S.T (G.S.ah (G.S.ac - 1))) (G.S.aT (G.S.ac - 1)) G.S.W) 24))))) s2 := by
  obtain ⟨s2, h2, e⟩ := h_takeBack (d := d) (X := X) (hm := hm) (hh := hh)
  exact ⟨s2, h2, fun P => wo_takeBack (h_ob hh) e⟩
theorem w_takeBack_no (hm : ¬ (mayT G.S)) (hh : Hs n G s) : ∃ s2, Hs (n + 1) G s2 ∧ ∀ P, am_Ca X (d + 9) 8009 [.ref 0] s P = P (.inl (some (.int (-nI 103)))) s2 := by
  obtain ⟨s2, h2, e⟩ := h_takeBack_no (d := d) (X := X) (hm := hm) (hh := hh)
  exact ⟨s2, h2, fun P => wx_takeBack_1 (h_ob hh) e⟩
theorem w_newBranch (hm : ¬ lfN G.S.br 6 0 = 0) (hh : Hs n G s) : ∃ s2, Hs n (setG (recG G) (setB G.S (lfN G.S.br 6 0 - 1) (hd G.S + 1))) s2 ∧ ∀ P, am_Ca X (d + 9) 8010 [.ref 0] s P = P (.inl (some (.int (nI (lfN G.S.br 6 0 - 1))))) s2 := by
  obtain ⟨s2, h2, e⟩ := h_newBranch (d := d) (X := X) (hm := hm) (hh := hh)
  exact ⟨s2, h2, fun P => wo_newBranch (h_ob hh) e⟩
theorem w_newBranch_no (hm : ¬ (¬ lfN G.S.br 6 0 = 0)) (hh : Hs n G s) : ∃ s2, Hs (n + 1) G s2 ∧ ∀ P, am_Ca X (d + 9) 8010 [.ref 0] s P = P (.inl (some (.int (-nI 103)))) s2 := by
  obtain ⟨s2, h2, e⟩ := h_newBranch_no (d := d) (X := X) (hm := hm) (hh := hh)
  exact ⟨s2, h2, fun P => wx_newBranch_1 (h_ob hh) e⟩
theorem w_abort (hm : ¬ G.S.op = 0) (hh : Hs n G s) : ∃ s2, Hs n (setG (recG G) (stand G.S (hd G.S))) s2 ∧ ∀ P, am_Ca X (d + 9) 8018 [.ref 0] s P = P (.inl (some (.int (nI (nco G.S))))) s2 := by
  obtain ⟨s2, h2, e⟩ := h_abort (d := d) (X := X) (hm := hm) (hh := hh)
  exact ⟨s2, h2, fun P => wo_abort (h_ob hh) e⟩
theorem w_abort_no (hm : ¬ (¬ G.S.op = 0)) (hh : Hs n G s) : ∃ s2, Hs (n + 1) G s2 ∧ ∀ P, am_Ca X (d + 9) 8018 [.ref 0] s P = P (.inl (some (.int (-nI 103)))) s2 := by
  obtain ⟨s2, h2, e⟩ := h_abort_no (d := d) (X := X) (hm := hm) (hh := hh)
  exact ⟨s2, h2, fun P => wx_abort_1 (h_ob hh) e⟩
theorem w_dropBranch {b : Nat} (hb : b < 6) (hm : ¬ G.S.br b = 0 ∧ ¬ b = G.S.cur) (hh : Hs n G s) : ∃ s2, Hs n (setG (recG G) (setB G.S b 0)) s2 ∧ ∀ P, am_Ca X (d + 9) 8011 [.ref 0, .int (nI b)] s P = P (.inl (some (.int (pk (G.S.br b))))) s2 := by
  obtain ⟨s2, h2, e⟩ := h_dropBranch (d := d) (X := X) (hb := hb) (hm := hm) (hh := hh)
  exact ⟨s2, h2, fun P => wo_dropBranch (h_ob hh) e⟩
theorem w_dropBranch_no {b : Nat} (hb : b < 6) (hm : ¬ (¬ G.S.br b = 0 ∧ ¬ b = G.S.cur)) (hh : Hs n G s) : ∃ s2, Hs (n + 1) G s2 ∧ ∀ P, am_Ca X (d + 9) 8011 [.ref 0, .int (nI b)] s P = P (.inl (some (.int (-nI 103)))) s2 := by
  obtain ⟨s2, h2, e⟩ := h_dropBranch_no (d := d) (X := X) (hb := hb) (hm := hm) (hh := hh)
  exact ⟨s2, h2, fun P => wx_dropBranch_1 (h_ob hh) e⟩
theorem w_switchTo {b : Nat} (hb : b < 6) (hm : mayS G.S b) (hh : Hs n G s) : ∃ s2, Hs n (setG (recG G) (stand (curB G.S b) (G.S.br b - 1))) s2 ∧ ∀ P, am_Ca X (d + 9) 8012 [.ref 0, .int (nI b)] s P = P (.inl (some (.int (nI (G.S.br b - 1))))) s2 := by
  obtain ⟨s2, h2, e⟩ := h_switchTo (d := d) (X := X) (hb := hb) (hm := hm) (hh := hh)
  exact ⟨s2, h2, fun P => wo_switchTo (h_ob hh) e⟩
theorem w_switchTo_no {b : Nat} (hb : b < 6) (hm : ¬ (mayS G.S b)) (hh : Hs n G s) : ∃ s2, Hs (n + 1) G s2 ∧ ∀ P, am_Ca X (d + 9) 8012 [.ref 0, .int (nI b)] s P = P (.inl (some (.int (-nI 103)))) s2 := by
  obtain ⟨s2, h2, e⟩ := h_switchTo_no (d := d) (X := X) (hb := hb) (hm := hm) (hh := hh)
  exact ⟨s2, h2, fun P => wx_switchTo_1 (h_ob hh) e⟩
theorem w_merge {b : Nat} (hb : b < 6) (hm : mayM G.S b) (hh : Hs n G s) : ∃ s2, Hs n (setG (recG G) (mrgS G.S b)) s2 ∧ ∀ P, am_Ca X (d + 9) 8013 [.ref 0, .int (nI b)] s P = P (.inl (some (.int (nI (mrgN G.S b))))) s2 := by
  obtain ⟨s2, h2, e⟩ := h_merge (d := d) (X := X) (hb := hb) (hm := hm) (hh := hh)
  exact ⟨s2, h2, fun P => wo_merge (h_ob hh) e⟩
theorem w_merge_no {b : Nat} (hb : b < 6) (hm : ¬ (mayM G.S b)) (hh : Hs n G s) : ∃ s2, Hs (n + 1) G s2 ∧ ∀ P, am_Ca X (d + 9) 8013 [.ref 0, .int (nI b)] s P = P (.inl (some (.int (-nI 103)))) s2 := by
  obtain ⟨s2, h2, e⟩ := h_merge_no (d := d) (X := X) (hb := hb) (hm := hm) (hh := hh)
  exact ⟨s2, h2, fun P => wx_merge_1 (h_ob hh) e⟩
theorem w_pick {k : Nat} (hk : k < G.S.n) (hm : mayP G.S k 0) (hh : Hs n G s) : ∃ s2, Hs n (setG (recG G) (pickS G.S k 0)) s2 ∧ ∀ P, am_Ca X (d + 9) 8014 [.ref 0, .int (nI k)] s P = P (.inl (some (.int (nI (cnt (kC (fromT G.S k 0) (toT G.S k 0) G.S.W) 24))))) s2 := by
  obtain ⟨s2, h2, e⟩ := h_pick (d := d) (X := X) (hk := hk) (hm := hm) (hh := hh)
  exact ⟨s2, h2, fun P => wo_pick (h_ob hh) e⟩
theorem w_pick_no {k : Nat} (hk : k < G.S.n) (hm : ¬ (mayP G.S k 0)) (hh : Hs n G s) : ∃ s2, Hs (n + 1) G s2 ∧ ∀ P, am_Ca X (d + 9) 8014 [.ref 0, .int (nI k)] s P = P (.inl (some (.int (-nI 103)))) s2 := by
  obtain ⟨s2, h2, e⟩ := h_pick_no (d := d) (X := X) (hk := hk) (hm := hm) (hh := hh)
  exact ⟨s2, h2, fun P => wx_pick_1 (h_ob hh) e⟩
theorem w_revert {k : Nat} (hk : k < G.S.n) (hm : mayP G.S k 1) (hh : Hs n G s) : ∃ s2, Hs n (setG (recG G) (pickS G.S k 1)) s2 ∧ ∀ P, am_Ca X (d + 9) 8015 [.ref 0, .int (nI k)] s P = P (.inl (some (.int (nI (cnt (kC (fromT G.S k 1) (toT G.S k 1) G.S.W) 24))))) s2 := by
  obtain ⟨s2, h2, e⟩ := h_revert (d := d) (X := X) (hk := hk) (hm := hm) (hh := hh)
  exact ⟨s2, h2, fun P => wo_revert (h_ob hh) e⟩
theorem w_revert_no {k : Nat} (hk : k < G.S.n) (hm : ¬ (mayP G.S k 1)) (hh : Hs n G s) : ∃ s2, Hs (n + 1) G s2 ∧ ∀ P, am_Ca X (d + 9) 8015 [.ref 0, .int (nI k)] s P = P (.inl (some (.int (-nI 103)))) s2 := by
  obtain ⟨s2, h2, e⟩ := h_revert_no (d := d) (X := X) (hk := hk) (hm := hm) (hh := hh)
  exact ⟨s2, h2, fun P => wx_revert_1 (h_ob hh) e⟩
theorem w_replay {b : Nat} (hb : b < 6) (hm : mayR G.S b) (hh : Hs n G s) : ∃ s2, Hs n (setG (recG G) ((repS G.S b).1)) s2 ∧ ∀ P, am_Ca X (d + 9) 8016 [.ref 0, .int (nI b)] s P = P (.inl (some (.int (nI (repS G.S b).2)))) s2 := by
  obtain ⟨s2, h2, e⟩ := h_replay (d := d) (X := X) (hb := hb) (hm := hm) (hh := hh)
  exact ⟨s2, h2, fun P => wo_replay (h_ob hh) e⟩
theorem w_replay_no {b : Nat} (hb : b < 6) (hm : ¬ (mayR G.S b)) (hh : Hs n G s) : ∃ s2, Hs (n + 1) G s2 ∧ ∀ P, am_Ca X (d + 9) 8016 [.ref 0, .int (nI b)] s P = P (.inl (some (.int (-nI 103)))) s2 := by
  obtain ⟨s2, h2, e⟩ := h_replay_no (d := d) (X := X) (hb := hb) (hm := hm) (hh := hh)
  exact ⟨s2, h2, fun P => wx_replay_1 (h_ob hh) e⟩
theorem w_reset {k : Nat} (hk : k < G.S.n) (hh : Hs n G s) : ∃ s2, Hs n (setG (recG G) (stand G.S k)) s2 ∧ ∀ P, am_Ca X (d + 9) 8007 [.ref 0, .int (nI k)] s P = P (.inl (some (.int (nI (hd G.S))))) s2 := by
  obtain ⟨s2, h2, e⟩ := h_reset (d := d) (X := X) (hk := hk) (hh := hh)
  exact ⟨s2, h2, fun P => wo_reset (h_ob hh) e⟩
theorem w_reset_no {x : Int32} (hx : noC G.S x) (hh : Hs n G s) : ∃ s2, Hs (n + 1) G s2 ∧ ∀ P, am_Ca X (d + 9) 8007 [.ref 0, .int x] s P = P (.inl (some (.int (-nI 102)))) s2 := by
  obtain ⟨s2, h2, e⟩ := h_reset_no (d := d) (X := X) (hx := hx) (hh := hh)
  exact ⟨s2, h2, fun P => wx_reset_0 (h_ob hh) e⟩
theorem w_edit {a b v : Nat} (ha : a < 4) (hb : b < 6) (hv : v < 100) (hh : Hs n G s) : ∃ s2, Hs n (setG (recG G) (setL G.S (a * 6 + b) v)) s2 ∧ ∀ P, am_Ca X (d + 9) 8005 [.ref 0, .int (nI a), .int (nI b), .int (nI v)] s P = P (.inl (some (.int (nI (unl (setL G.S (a * 6 + b) v)))))) s2 := by
  obtain ⟨s2, h2, e⟩ := h_edit (d := d) (X := X) (ha := ha) (hb := hb) (hv := hv) (hh := hh)
  exact ⟨s2, h2, fun P => wo_edit (h_ob hh) e⟩
theorem w_edit_place {x y v : Int32} (hx : noP x y) (hh : Hs n G s) : ∃ s2, Hs (n + 1) G s2 ∧ ∀ P, am_Ca X (d + 9) 8005 [.ref 0, .int x, .int y, .int v] s P = P (.inl (some (.int (-nI 102)))) s2 := by
  obtain ⟨s2, h2, e⟩ := h_edit_place (d := d) (X := X) (hx := hx) (hh := hh)
  exact ⟨s2, h2, fun P => wx_edit_0 (h_ob hh) e⟩
theorem w_edit_value {a b : Nat} {v : Int32} (ha : a < 4) (hb : b < 6) (hv : noV v) (hh : Hs n G s) : ∃ s2, Hs (n + 1) G s2 ∧ ∀ P, am_Ca X (d + 9) 8005 [.ref 0, .int (nI a), .int (nI b), .int v] s P = P (.inl (some (.int (-nI 102)))) s2 := by
  obtain ⟨s2, h2, e⟩ := h_edit_value (d := d) (X := X) (ha := ha) (hb := hb) (hv := hv) (hh := hh)
  exact ⟨s2, h2, fun P => wx_edit_0 (h_ob hh) e⟩
theorem w_resolve {a b k : Nat} (ha : a < 4) (hb : b < 6) (hk : k < 2) (h0 : ¬ G.S.O (a * 6 + b) = 0) (hh : Hs n G s) : ∃ s2, Hs n (setG (recG G) (resS G.S (a * 6 + b) k)) s2 ∧ ∀ P, am_Ca X (d + 9) 8017 [.ref 0, .int (nI a), .int (nI b), .int (nI k)] s P = P (.inl (some (.int (nI (nco (resS G.S (a * 6 + b) k)))))) s2 := by
  obtain ⟨s2, h2, e⟩ := h_resolve (d := d) (X := X) (ha := ha) (hb := hb) (hk := hk) (h0 := h0) (hh := hh)
  exact ⟨s2, h2, fun P => wo_resolve (h_ob hh) e⟩
theorem w_resolve_place {x y v : Int32} (hx : noP x y) (hh : Hs n G s) : ∃ s2, Hs (n + 1) G s2 ∧ ∀ P, am_Ca X (d + 9) 8017 [.ref 0, .int x, .int y, .int v] s P = P (.inl (some (.int (-nI 102)))) s2 := by
  obtain ⟨s2, h2, e⟩ := h_resolve_place (d := d) (X := X) (hx := hx) (hh := hh)
  exact ⟨s2, h2, fun P => wx_resolve_0 (h_ob hh) e⟩
theorem w_resolve_no {a b : Nat} {v : Int32} (ha : a < 4) (hb : b < 6) (h0 : G.S.O (a * 6 + b) = 0) (hh : Hs n G s) : ∃ s2, Hs (n + 1) G s2 ∧ ∀ P, am_Ca X (d + 9) 8017 [.ref 0, .int (nI a), .int (nI b), .int v] s P = P (.inl (some (.int (-nI 103)))) s2 := by
  obtain ⟨s2, h2, e⟩ := h_resolve_no (d := d) (X := X) (ha := ha) (hb := hb) (h0 := h0) (hh := hh)
  exact ⟨s2, h2, fun P => wx_resolve_1 (h_ob hh) e⟩
theorem w_goBack (h1 : G.hs = 1) (hh : Hs n G s) : ∃ s2, Hs n (setG (recG G) G.sn) s2 ∧ ∀ P, am_Ca X (d + 9) 8027 [.ref 0] s P = P (.inl (some (.int (nI G.sn.n)))) s2 := by
  obtain ⟨s2, h2, e⟩ := h_goBack (d := d) (X := X) (h1 := h1) (hh := hh)
  exact ⟨s2, h2, fun P => wo_goBack (h_ob hh) e⟩
theorem w_goBack_no (h1 : G.hs = 0) (hh : Hs n G s) : ∃ s2, Hs (n + 1) G s2 ∧ ∀ P, am_Ca X (d + 9) 8027 [.ref 0] s P = P (.inl (some (.int (-nI 103)))) s2 := by
  obtain ⟨s2, h2, e⟩ := h_goBack_no (d := d) (X := X) (h1 := h1) (hh := hh)
  exact ⟨s2, h2, fun P => wx_goBack_1 (h_ob hh) e⟩
theorem w_undo {m : Nat} (h1 : G.m = m + 1) (hh : Hs n G s) : ∃ s2, Hs n (mkG (G.rs m) m G.rs G.hs G.sn G.len G.pd) s2 ∧ ∀ P, am_Ca X (d + 9) 8028 [.ref 0] s P = P (.inl (some (.int (nI m)))) s2 := by
  obtain ⟨s2, h2, e⟩ := h_undo (d := d) (X := X) (h1 := h1) (hh := hh)
  exact ⟨s2, h2, fun P => wo_undo (h_ob hh) e⟩
theorem w_undo_no (h1 : G.m = 0) (hh : Hs n G s) : ∃ s2, Hs (n + 1) G s2 ∧ ∀ P, am_Ca X (d + 9) 8028 [.ref 0] s P = P (.inl (some (.int (-nI 103)))) s2 := by
  obtain ⟨s2, h2, e⟩ := h_undo_no (d := d) (X := X) (h1 := h1) (hh := hh)
  exact ⟨s2, h2, fun P => wx_undo_1 (h_ob hh) e⟩
theorem w_type {v : Nat} (h1 : 32 ≤ v) (h2 : v ≤ 126) (hl : G.len < 60) (hh : Hs n G s) : ∃ s2, Hs n (mkG G.S G.m G.rs G.hs G.sn (G.len + 1) (va_up G.pd G.len v)) s2 ∧ ∀ P, am_Ca X (d + 8) 8003 [.ref 0, .int (nI v)] s P = P (.inl (some (.int (nI (G.len + 1))))) s2 := by
  obtain ⟨s2, h2, e⟩ := h_type (d := d) (X := X) (h1 := h1) (h2 := h2) (hl := hl) (hh := hh)
  exact ⟨s2, h2, fun P => wo_type (h_ob hh) e⟩
theorem w_type_bad {x : Int32} (h : noT x) (hh : Hs n G s) : ∃ s2, Hs (n + 1) G s2 ∧ ∀ P, am_Ca X (d + 9) 8003 [.ref 0, .int x] s P = P (.inl (some (.int (-nI 102)))) s2 := by
  obtain ⟨s2, h2, e⟩ := h_type_bad (d := d) (X := X) (h := h) (hh := hh)
  exact ⟨s2, h2, fun P => wx_type_0 (h_ob hh) e⟩
theorem w_type_full {v : Nat} (h1 : 32 ≤ v) (h2 : v ≤ 126) (hl : G.len = 60) (hh : Hs n G s) : ∃ s2, Hs (n + 1) G s2 ∧ ∀ P, am_Ca X (d + 9) 8003 [.ref 0, .int (nI v)] s P = P (.inl (some (.int (-nI 103)))) s2 := by
  obtain ⟨s2, h2, e⟩ := h_type_full (d := d) (X := X) (h1 := h1) (h2 := h2) (hl := hl) (hh := hh)
  exact ⟨s2, h2, fun P => wx_type_1 (h_ob hh) e⟩
theorem w_isConflict {a b : Nat} (ha : a < 4) (hb : b < 6) (hh : Hs n G s) : am_Ca X (d + 9) 8019 [.ref 0, .int (nI a), .int (nI b)] s P = P (.inl (some (.int (bI (¬ G.S.O (a * 6 + b) = 0))))) s := wo_isConflict (h_ob hh) (fun P => h_isConflict (d := d) (X := X) (P := P) (ha := ha) (hb := hb) (hh := hh))
theorem w_theirs {a b : Nat} (ha : a < 4) (hb : b < 6) (h0 : ¬ G.S.O (a * 6 + b) = 0) (hh : Hs n G s) : am_Ca X (d + 8) 8020 [.ref 0, .int (nI a), .int (nI b)] s P = P (.inl (some (.int (nI (G.S.O (a * 6 + b) - 1))))) s := wo_theirs (h_ob hh) (fun P => h_theirs (d := d) (X := X) (P := P) (ha := ha) (hb := hb) (h0 := h0) (hh := hh))
theorem w_lineOf {a b : Nat} (ha : a < 4) (hb : b < 6) (hh : Hs n G s) : am_Ca X (d + 8) 8021 [.ref 0, .int (nI a), .int (nI b)] s P = P (.inl (some (.int (nI (G.S.W (a * 6 + b)))))) s := wo_lineOf (h_ob hh) (fun P => h_lineOf (d := d) (X := X) (P := P) (ha := ha) (hb := hb) (hh := hh))
theorem w_lineAt {a b : Nat} (ha : a < 4) (hb : b < 6) {k : Nat} (hk : k < G.S.n) (hh : Hs n G s) : am_Ca X (d + 8) 8022 [.ref 0, .int (nI k), .int (nI a), .int (nI b)] s P = P (.inl (some (.int (nI (G.S.T k (a * 6 + b)))))) s := wo_lineAt (h_ob hh) (fun P => h_lineAt (d := d) (X := X) (P := P) (ha := ha) (hb := hb) (hk := hk) (hh := hh))
theorem w_isBranch {b : Nat} (hb : b < 6) (hh : Hs n G s) : am_Ca X (d + 9) 8023 [.ref 0, .int (nI b)] s P = P (.inl (some (.int (bI (¬ G.S.br b = 0))))) s := wo_isBranch (h_ob hh) (fun P => h_isBranch (d := d) (X := X) (P := P) (hb := hb) (hh := hh))
theorem w_standsAt {b : Nat} (hb : b < 6) (h0 : ¬ G.S.br b = 0) (hh : Hs n G s) : am_Ca X (d + 8) 8024 [.ref 0, .int (nI b)] s P = P (.inl (some (.int (nI (G.S.br b - 1))))) s := wo_standsAt (h_ob hh) (fun P => h_standsAt (d := d) (X := X) (P := P) (hb := hb) (h0 := h0) (hh := hh))
theorem w_history {k : Nat} (hk : k < G.S.n) (hh : Hs n G s) : ∃ s2, Hs n G s2 ∧ ∀ P, am_Ca X (d + 9) 8032 [.ref 0, .int (nI k)] s P = P (.inl (some (.int (nI (cnt (dP (Re G.S.p G.S.q k)) 60))))) s2 := by
  obtain ⟨s2, h2, e⟩ := h_history (d := d) (X := X) (hk := hk) (hh := hh)
  exact ⟨s2, h2, fun P => wo_history (h_ob hh) e⟩
theorem w_historyAt {k pl : Nat} (hk : k < G.S.n) (hp : pl < 2147483648) (hh : Hs n G s) : ∃ s2, Hs n G s2 ∧ ∀ P, am_Ca X (d + 9) 8025 [.ref 0, .int (nI k), .int (nI pl)] s P = P (.inl (some (.int (rat (Re G.S.p G.S.q k) pl 60 0)))) s2 := by
  obtain ⟨s2, h2, e⟩ := h_historyAt (d := d) (X := X) (hk := hk) (hp := hp) (hh := hh)
  exact ⟨s2, h2, fun P => wo_historyAt (h_ob hh) e⟩
theorem w_distance {k o : Nat} (hk : k < G.S.n) (ho : o < G.S.n) (hh : Hs n G s) : ∃ s2, Hs n G s2 ∧ ∀ P, am_Ca X (d + 9) 8030 [.ref 0, .int (nI k), .int (nI o)] s P = P (.inl (some (.int (pk (fw G.S.p G.S.q 60 (st0 k) o))))) s2 := by
  obtain ⟨s2, h2, e⟩ := h_distance (d := d) (X := X) (hk := hk) (ho := ho) (hh := hh)
  exact ⟨s2, h2, fun P => wo_distance (h_ob hh) e⟩
theorem w_depth {k : Nat} (hk : k < G.S.n) (hh : Hs n G s) : ∃ s2, Hs n G s2 ∧ ∀ P, am_Ca X (d + 9) 8033 [.ref 0, .int (nI k)] s P = P (.inl (some (.int (nI (dr G.S.p G.S.q (k + 1) k))))) s2 := by
  obtain ⟨s2, h2, e⟩ := h_depth (d := d) (X := X) (hk := hk) (hh := hh)
  exact ⟨s2, h2, fun P => wo_depth (h_ob hh) e⟩
theorem w_base {k o : Nat} (hk : k < G.S.n) (ho : o < G.S.n) (hh : Hs n G s) : ∃ s2, Hs n G s2 ∧ ∀ P, am_Ca X (d + 9) 8031 [.ref 0, .int (nI k), .int (nI o)] s P = P (.inl (some (.int (hiC (fun x => Re G.S.p G.S.q k x ∧ Re G.S.p G.S.q o x) 60)))) s2 := by
  obtain ⟨s2, h2, e⟩ := h_base (d := d) (X := X) (hk := hk) (ho := ho) (hh := hh)
  exact ⟨s2, h2, fun P => wo_base (h_ob hh) e⟩
theorem w_isConflict_place {x y : Int32} (h : noP x y) (hh : Hs n G s) : ∃ s2, Hs (n + 1) G s2 ∧ ∀ P, am_Ca X (d + 9) 8019 [.ref 0, .int x, .int y] s P = P (.inl (some (.int (-nI 102)))) s2 := by
  obtain ⟨s2, h2, e⟩ := h_isConflict_place (d := d) (X := X) (h := h) (hh := hh)
  exact ⟨s2, h2, fun P => wx_isConflict_0 (h_ob hh) e⟩
theorem w_theirs_place {x y : Int32} (h : noP x y) (hh : Hs n G s) : ∃ s2, Hs (n + 1) G s2 ∧ ∀ P, am_Ca X (d + 9) 8020 [.ref 0, .int x, .int y] s P = P (.inl (some (.int (-nI 102)))) s2 := by
  obtain ⟨s2, h2, e⟩ := h_theirs_place (d := d) (X := X) (h := h) (hh := hh)
  exact ⟨s2, h2, fun P => wx_theirs_0 (h_ob hh) e⟩
theorem w_lineOf_place {x y : Int32} (h : noP x y) (hh : Hs n G s) : ∃ s2, Hs (n + 1) G s2 ∧ ∀ P, am_Ca X (d + 9) 8021 [.ref 0, .int x, .int y] s P = P (.inl (some (.int (-nI 102)))) s2 := by
  obtain ⟨s2, h2, e⟩ := h_lineOf_place (d := d) (X := X) (h := h) (hh := hh)
  exact ⟨s2, h2, fun P => wx_lineOf_0 (h_ob hh) e⟩
theorem w_theirs_no {a b : Nat} (ha : a < 4) (hb : b < 6) (h0 : G.S.O (a * 6 + b) = 0) (hh : Hs n G s) : ∃ s2, Hs (n + 1) G s2 ∧ ∀ P, am_Ca X (d + 8) 8020 [.ref 0, .int (nI a), .int (nI b)] s P = P (.inl (some (.int (-nI 103)))) s2 := by
  obtain ⟨s2, h2, e⟩ := h_theirs_no (d := d) (X := X) (ha := ha) (hb := hb) (h0 := h0) (hh := hh)
  exact ⟨s2, h2, fun P => wx_theirs_1 (h_ob hh) e⟩
theorem w_lineAt_commit {z x y : Int32} (h : noC G.S z) (hh : Hs n G s) : ∃ s2, Hs (n + 1) G s2 ∧ ∀ P, am_Ca X (d + 9) 8022 [.ref 0, .int z, .int x, .int y] s P = P (.inl (some (.int (-nI 102)))) s2 := by
  obtain ⟨s2, h2, e⟩ := h_lineAt_commit (d := d) (X := X) (h := h) (hh := hh)
  exact ⟨s2, h2, fun P => wx_lineAt_0 (h_ob hh) e⟩
theorem w_lineAt_place {k : Nat} {x y : Int32} (hk : k < G.S.n) (h : noP x y) (hh : Hs n G s) : ∃ s2, Hs (n + 1) G s2 ∧ ∀ P, am_Ca X (d + 9) 8022 [.ref 0, .int (nI k), .int x, .int y] s P = P (.inl (some (.int (-nI 102)))) s2 := by
  obtain ⟨s2, h2, e⟩ := h_lineAt_place (d := d) (X := X) (hk := hk) (h := h) (hh := hh)
  exact ⟨s2, h2, fun P => wx_lineAt_0 (h_ob hh) e⟩
theorem w_differences_one {x y : Int32} (h : noC G.S x) (hh : Hs n G s) : ∃ s2, Hs (n + 1) G s2 ∧ ∀ P, am_Ca X (d + 9) 8029 [.ref 0, .int x, .int y] s P = P (.inl (some (.int (-nI 102)))) s2 := by
  obtain ⟨s2, h2, e⟩ := h_differences_one (d := d) (X := X) (h := h) (hh := hh)
  exact ⟨s2, h2, fun P => wx_differences_0 (h_ob hh) e⟩
theorem w_differences_two {k : Nat} {y : Int32} (hk : k < G.S.n) (h : noC G.S y) (hh : Hs n G s) : ∃ s2, Hs (n + 1) G s2 ∧ ∀ P, am_Ca X (d + 9) 8029 [.ref 0, .int (nI k), .int y] s P = P (.inl (some (.int (-nI 102)))) s2 := by
  obtain ⟨s2, h2, e⟩ := h_differences_two (d := d) (X := X) (hk := hk) (h := h) (hh := hh)
  exact ⟨s2, h2, fun P => wx_differences_0 (h_ob hh) e⟩
theorem w_distance_one {x y : Int32} (h : noC G.S x) (hh : Hs n G s) : ∃ s2, Hs (n + 1) G s2 ∧ ∀ P, am_Ca X (d + 9) 8030 [.ref 0, .int x, .int y] s P = P (.inl (some (.int (-nI 102)))) s2 := by
  obtain ⟨s2, h2, e⟩ := h_distance_one (d := d) (X := X) (h := h) (hh := hh)
  exact ⟨s2, h2, fun P => wx_distance_0 (h_ob hh) e⟩
theorem w_distance_two {k : Nat} {y : Int32} (hk : k < G.S.n) (h : noC G.S y) (hh : Hs n G s) : ∃ s2, Hs (n + 1) G s2 ∧ ∀ P, am_Ca X (d + 9) 8030 [.ref 0, .int (nI k), .int y] s P = P (.inl (some (.int (-nI 102)))) s2 := by
  obtain ⟨s2, h2, e⟩ := h_distance_two (d := d) (X := X) (hk := hk) (h := h) (hh := hh)
  exact ⟨s2, h2, fun P => wx_distance_0 (h_ob hh) e⟩
theorem w_base_one {x y : Int32} (h : noC G.S x) (hh : Hs n G s) : ∃ s2, Hs (n + 1) G s2 ∧ ∀ P, am_Ca X (d + 9) 8031 [.ref 0, .int x, .int y] s P = P (.inl (some (.int (-nI 102)))) s2 := by
  obtain ⟨s2, h2, e⟩ := h_base_one (d := d) (X := X) (h := h) (hh := hh)
  exact ⟨s2, h2, fun P => wx_base_0 (h_ob hh) e⟩
theorem w_base_two {k : Nat} {y : Int32} (hk : k < G.S.n) (h : noC G.S y) (hh : Hs n G s) : ∃ s2, Hs (n + 1) G s2 ∧ ∀ P, am_Ca X (d + 9) 8031 [.ref 0, .int (nI k), .int y] s P = P (.inl (some (.int (-nI 102)))) s2 := by
  obtain ⟨s2, h2, e⟩ := h_base_two (d := d) (X := X) (hk := hk) (h := h) (hh := hh)
  exact ⟨s2, h2, fun P => wx_base_0 (h_ob hh) e⟩
theorem w_history_commit {x : Int32} (h : noC G.S x) (hh : Hs n G s) : ∃ s2, Hs (n + 1) G s2 ∧ ∀ P, am_Ca X (d + 9) 8032 [.ref 0, .int x] s P = P (.inl (some (.int (-nI 102)))) s2 := by
  obtain ⟨s2, h2, e⟩ := h_history_commit (d := d) (X := X) (h := h) (hh := hh)
  exact ⟨s2, h2, fun P => wx_history_0 (h_ob hh) e⟩
theorem w_depth_commit {x : Int32} (h : noC G.S x) (hh : Hs n G s) : ∃ s2, Hs (n + 1) G s2 ∧ ∀ P, am_Ca X (d + 9) 8033 [.ref 0, .int x] s P = P (.inl (some (.int (-nI 102)))) s2 := by
  obtain ⟨s2, h2, e⟩ := h_depth_commit (d := d) (X := X) (h := h) (hh := hh)
  exact ⟨s2, h2, fun P => wx_depth_0 (h_ob hh) e⟩
theorem w_pick_commit {x : Int32} (h : noC G.S x) (hh : Hs n G s) : ∃ s2, Hs (n + 1) G s2 ∧ ∀ P, am_Ca X (d + 9) 8014 [.ref 0, .int x] s P = P (.inl (some (.int (-nI 102)))) s2 := by
  obtain ⟨s2, h2, e⟩ := h_pick_commit (d := d) (X := X) (h := h) (hh := hh)
  exact ⟨s2, h2, fun P => wx_pick_0 (h_ob hh) e⟩
theorem w_revert_commit {x : Int32} (h : noC G.S x) (hh : Hs n G s) : ∃ s2, Hs (n + 1) G s2 ∧ ∀ P, am_Ca X (d + 9) 8015 [.ref 0, .int x] s P = P (.inl (some (.int (-nI 102)))) s2 := by
  obtain ⟨s2, h2, e⟩ := h_revert_commit (d := d) (X := X) (h := h) (hh := hh)
  exact ⟨s2, h2, fun P => wx_revert_0 (h_ob hh) e⟩
theorem w_historyAt_commit {x y : Int32} (h : noC G.S x) (hh : Hs n G s) : ∃ s2, Hs (n + 1) G s2 ∧ ∀ P, am_Ca X (d + 9) 8025 [.ref 0, .int x, .int y] s P = P (.inl (some (.int (-nI 102)))) s2 := by
  obtain ⟨s2, h2, e⟩ := h_historyAt_commit (d := d) (X := X) (h := h) (hh := hh)
  exact ⟨s2, h2, fun P => wx_historyAt_0 (h_ob hh) e⟩
theorem w_historyAt_place {k : Nat} {y : Int32} (hk : k < G.S.n) (h : y < nI 0) (hh : Hs n G s) : ∃ s2, Hs (n + 1) G s2 ∧ ∀ P, am_Ca X (d + 9) 8025 [.ref 0, .int (nI k), .int y] s P = P (.inl (some (.int (-nI 102)))) s2 := by
  obtain ⟨s2, h2, e⟩ := h_historyAt_place (d := d) (X := X) (hk := hk) (h := h) (hh := hh)
  exact ⟨s2, h2, fun P => wx_historyAt_0 (h_ob hh) e⟩
theorem w_isBranch_number {x : Int32} (h : noB x) (hh : Hs n G s) : ∃ s2, Hs (n + 1) G s2 ∧ ∀ P, am_Ca X (d + 9) 8023 [.ref 0, .int x] s P = P (.inl (some (.int (-nI 102)))) s2 := by
  obtain ⟨s2, h2, e⟩ := h_isBranch_number (d := d) (X := X) (h := h) (hh := hh)
  exact ⟨s2, h2, fun P => wx_isBranch_0 (h_ob hh) e⟩
theorem w_standsAt_number {x : Int32} (h : noB x) (hh : Hs n G s) : ∃ s2, Hs (n + 1) G s2 ∧ ∀ P, am_Ca X (d + 9) 8024 [.ref 0, .int x] s P = P (.inl (some (.int (-nI 102)))) s2 := by
  obtain ⟨s2, h2, e⟩ := h_standsAt_number (d := d) (X := X) (h := h) (hh := hh)
  exact ⟨s2, h2, fun P => wx_standsAt_0 (h_ob hh) e⟩
theorem w_wouldConflict_number {x : Int32} (h : noB x) (hh : Hs n G s) : ∃ s2, Hs (n + 1) G s2 ∧ ∀ P, am_Ca X (d + 9) 8026 [.ref 0, .int x] s P = P (.inl (some (.int (-nI 102)))) s2 := by
  obtain ⟨s2, h2, e⟩ := h_wouldConflict_number (d := d) (X := X) (h := h) (hh := hh)
  exact ⟨s2, h2, fun P => wx_wouldConflict_0 (h_ob hh) e⟩
theorem w_dropBranch_number {x : Int32} (h : noB x) (hh : Hs n G s) : ∃ s2, Hs (n + 1) G s2 ∧ ∀ P, am_Ca X (d + 9) 8011 [.ref 0, .int x] s P = P (.inl (some (.int (-nI 102)))) s2 := by
  obtain ⟨s2, h2, e⟩ := h_dropBranch_number (d := d) (X := X) (h := h) (hh := hh)
  exact ⟨s2, h2, fun P => wx_dropBranch_0 (h_ob hh) e⟩
theorem w_switchTo_number {x : Int32} (h : noB x) (hh : Hs n G s) : ∃ s2, Hs (n + 1) G s2 ∧ ∀ P, am_Ca X (d + 9) 8012 [.ref 0, .int x] s P = P (.inl (some (.int (-nI 102)))) s2 := by
  obtain ⟨s2, h2, e⟩ := h_switchTo_number (d := d) (X := X) (h := h) (hh := hh)
  exact ⟨s2, h2, fun P => wx_switchTo_0 (h_ob hh) e⟩
theorem w_merge_number {x : Int32} (h : noB x) (hh : Hs n G s) : ∃ s2, Hs (n + 1) G s2 ∧ ∀ P, am_Ca X (d + 9) 8013 [.ref 0, .int x] s P = P (.inl (some (.int (-nI 102)))) s2 := by
  obtain ⟨s2, h2, e⟩ := h_merge_number (d := d) (X := X) (h := h) (hh := hh)
  exact ⟨s2, h2, fun P => wx_merge_0 (h_ob hh) e⟩
theorem w_replay_number {x : Int32} (h : noB x) (hh : Hs n G s) : ∃ s2, Hs (n + 1) G s2 ∧ ∀ P, am_Ca X (d + 9) 8016 [.ref 0, .int x] s P = P (.inl (some (.int (-nI 102)))) s2 := by
  obtain ⟨s2, h2, e⟩ := h_replay_number (d := d) (X := X) (h := h) (hh := hh)
  exact ⟨s2, h2, fun P => wx_replay_0 (h_ob hh) e⟩
theorem w_standsAt_no {b : Nat} (hb : b < 6) (h0 : G.S.br b = 0) (hh : Hs n G s) : ∃ s2, Hs (n + 1) G s2 ∧ ∀ P, am_Ca X (d + 8) 8024 [.ref 0, .int (nI b)] s P = P (.inl (some (.int (-nI 103)))) s2 := by
  obtain ⟨s2, h2, e⟩ := h_standsAt_no (d := d) (X := X) (hb := hb) (h0 := h0) (hh := hh)
  exact ⟨s2, h2, fun P => wx_standsAt_1 (h_ob hh) e⟩
theorem w_wouldConflict_no {b : Nat} (hb : b < 6) (h0 : G.S.br b = 0) (hh : Hs n G s) : ∃ s2, Hs (n + 1) G s2 ∧ ∀ P, am_Ca X (d + 9) 8026 [.ref 0, .int (nI b)] s P = P (.inl (some (.int (-nI 103)))) s2 := by
  obtain ⟨s2, h2, e⟩ := h_wouldConflict_no (d := d) (X := X) (hb := hb) (h0 := h0) (hh := hh)
  exact ⟨s2, h2, fun P => wx_wouldConflict_1 (h_ob hh) e⟩
theorem w_differences {k o : Nat} (hk : k < G.S.n) (ho : o < G.S.n) (hh : Hs n G s) : am_Ca X (d + 9) 8029 [.ref 0, .int (nI k), .int (nI o)] s P = P (.inl (some (.int (nI (cnt (dfN G.S k o) 24))))) s := wo_differences (h_ob hh) (fun P => h_differences (d := d) (X := X) (P := P) (hk := hk) (ho := ho) (hh := hh))
theorem w_wouldConflict {b : Nat} (hb : b < 6) (h0 : ¬ G.S.br b = 0) (hh : Hs n G s) : ∃ s2, Hs n G s2 ∧ ∀ P, am_Ca X (d + 9) 8026 [.ref 0, .int (nI b)] s P = P (.inl (some (.int (nI (cnt (kC (G.S.T (basN G.S (G.S.br b - 1))) (G.S.T (G.S.br b - 1)) (G.S.T (hd G.S))) 24))))) s2 := by
  obtain ⟨s2, h2, e⟩ := h_wouldConflict (d := d) (X := X) (hb := hb) (h0 := h0) (hh := hh)
  exact ⟨s2, h2, fun P => wo_wouldConflict (h_ob hh) e⟩
theorem w_runOrders (h0 : ffN G.len G.pd G.len 0 0 = 0) (hh : Hs n G s) : ∃ s2, Hs n (setG (recG G) (rnO G.len G.pd 60 0 G.S 0).2) s2 ∧ ∀ P, am_Ca X (d + 9) 8004 [.ref 0] s P = P (.inl (some (.int (nI (rnO G.len G.pd 60 0 G.S 0).1)))) s2 := by
  obtain ⟨s2, h2, e⟩ := h_runOrders (d := d) (X := X) (h0 := h0) (hh := hh)
  exact ⟨s2, h2, fun P => wo_runOrders (h_ob hh) e⟩
theorem w_runOrders_no (h0 : ¬ ffN G.len G.pd G.len 0 0 = 0) (hl : ffN G.len G.pd G.len 0 0 ≤ 100) (hh : Hs n G s) : ∃ s2, Hs (n + 1) G s2 ∧ ∀ P, am_Ca X (d + 9) 8004 [.ref 0] s P = P (.inl (some (.int (-nI 103)))) s2 := by
  obtain ⟨s2, h2, e⟩ := h_runOrders_no (d := d) (X := X) (h0 := h0) (hl := hl) (hh := hh)
  exact ⟨s2, h2, fun P => wx_runOrders_1 (h_ob hh) e⟩
end WH
