/-! THE MODEL: what is put aside; merges; picks -/
def brR (f : Nat → Int32) (c : Nat) : Nat → Int32 := va_up f 1763 (nI c)
def opR (f : Nat → Int32) (c k : Nat) (v : Int32) : Nat → Int32 := va_up (va_up (brR f c) 1615 (nI k)) 1616 v
section MD
variable {d cl sl : Nat} {X : am_X} {F A : Nat → Nat → Int32} {L : Nat → Nat → Int64} {P : am_Q} {S : Ab} {a b : Nat} {o w t : Nat → Nat} {f : Nat → Int32}
theorem mR_open {k v c : Nat} {u : Int32} (R : mR f S) (h : wS S) (hk : k = 1 → u = pk v) : mR (opR f (S.cf + c) k u) (openS S k v c) := by
  have h3 := h.ac3
  have h60 := h.n60
  have out : ∀ j, j ≠ 1763 → j ≠ 1615 → j ≠ 1616 → opR f (S.cf + c) k u j = f j := fun j h1 h2 h3 => by
    unfold opR brR
    rw [up_ne h3, up_ne h2, up_ne h1]
  refine mR.mk ?_ ?_ ?_ (fun e => ?_) ?_ ?_ ?_ ?_ ?_ ?_ ?_ ?_ ?_ ?_
  · rw [out _ (by omega) (by omega) (by omega)]; exact R.n0
  · rw [out _ (by omega) (by omega) (by omega)]; exact R.cu
  · unfold opR brR
    rw [up_ne (by omega), up_eq]; rfl
  · unfold opR brR
    rw [up_eq]; exact hk e
  · rw [out _ (by omega) (by omega) (by omega)]; exact R.ac
  · unfold opR brR
    rw [up_ne (by omega), up_ne (by omega), up_eq]; rfl
  · intro k hk
    have hk' : k < S.n := hk
    rw [out _ (by omega) (by omega) (by omega)]; exact R.p k hk
  · intro k hk
    have hk' : k < S.n := hk
    rw [out _ (by omega) (by omega) (by omega)]; exact R.q k hk
  · intro k hk j hj
    have hk' : k < S.n := hk
    rw [out _ (by omega) (by omega) (by omega)]; exact R.T k hk j hj
  · intro j hj
    rw [out _ (by omega) (by omega) (by omega)]; exact R.br j hj
  · intro j hj
    rw [out _ (by omega) (by omega) (by omega)]; exact R.W j hj
  · intro j hj
    rw [out _ (by omega) (by omega) (by omega)]; exact R.O j hj
  · intro j hj k hk
    have hj' : j < S.ac := hj
    rw [out _ (by omega) (by omega) (by omega)]; exact R.ah j hj k hk
  · intro j hj k hk
    have hj' : j < S.ac := hj
    rw [out _ (by omega) (by omega) (by omega)]; exact R.aT j hj k hk
theorem g_brings (R : mR (A 71) S) (h : wS S) (hn : S.n < 60) (h1 : at24 (A 71) a o) (h2 : at24 (A 71) b w) (h3 : at24 (A 71) 1567 t) (ha : a + 24 ≤ 1567 ∨ 1615 ≤ a) (hb : b + 24 ≤ 1567 ∨ 1615 ≤ b) {k v : Nat} (hk : k = 1 ∨ k = 2) : gO X (d + 4) 7046 [.ref 70, .int (nI a), .int (nI b), .int (nI k), .int (pk v)] cl sl F A L (nI (cnt (kC o w t) 24)) (setS S o w t k v) := by
  have R1 : mR (coR o w t 24 (A 71)) (takeS S o w t) := mR_take R h
  have w1 : wS (takeS S o w t) := wS_take h (fun i hi => (h2.2 i hi).2) (fun i hi => (h3.2 i hi).2)
  have hc : cnt (kC o w t) 24 ≤ 24 := cnt_le _ _
  have z1 : zO (setS S o w t k v) := zO_set (by omega)
  have ecf : coR o w t 24 (A 71) 1763 = nI S.cf := R1.cf
  by_cases e0 : cnt (kC o w t) 24 = 0
  · have es : setS S o w t k v = addC (takeS S o w t) v := if_pos e0
    rw [es] at z1
    have eb : va_up (coR o w t 24 (A 71)) 1763 (nI S.cf) = coR o w t 24 (A 71) := by rw [← ecf, up_same]
    have R2 : mR ((va_up A 71 (coR o w t 24 (A 71))) 71) (takeS S o w t) := by rw [up_eq]; exact R1
    rw [es]
    refine gO_L z1 ⟨_, fun P => ?_, mR_addC R1 w1 hn⟩
    rw [c7046]
    simp (disch := omega) only [m_combines h1 h2 h3, f2_up, ecf, e0, Nat.add_zero, eb, m_makes R2 w1 hn, up_up, u7046_0, u7046_1, u7046_2, u7046_3, u7046_6, u7046_8, u7046_9, u7046_12, u7046_15ir, u7046_16, u7046_17, u7046_19, u7046_20, u7046_21, u7046_23, u7046_26, u7046_27, u7046_30, u7046_33, u7046_34, u7046_35, u7046_36, u7046_39, u7046_42, u7046_43, u7046_44, u7046_47, u7046_49, u7046_52, u7046_53, u7046_54, u7046_57, u7046_58, u7046_60, u7046_63i, u7046_63r, u7046_64, u7046_66, ob_70, gt_70_0, xl_71, xs_71, ki_0, ki_1, ki_1615, ki_1616, ki_1763, af_x hd_7046, decide_eq_true_eq, if_true, if_false, f2_ne, f2_eq, up_ne, up_eq, kc_int, kc_ref, kc_retAddr, kc_long, kc_double, af_n, af_v, z0, z1, n_of, nz6, nz4, bI_T, bI_F, bI_01, n_lt, n_le, n_eq, n_add, n_mul, n_sub, n_clamp, n_vp, m_lt, m_le, m_eq, m_eq2, m_ltm, m_add, true_and, and_true, eq_self, if_pos, if_neg, List.length_nil, List.length_cons, Nat.reduceAdd, Nat.reduceLeDiff, Nat.zero_le, not_true_eq_false, not_false_eq_true, true_or, or_true]
  · have es : setS S o w t k v = openS (takeS S o w t) k v (cnt (kC o w t) 24) := if_neg e0
    rw [es] at z1
    rw [es]
    rcases hk with rfl | rfl
    · refine gO_L z1 ⟨_, fun P => ?_, mR_open (u := pk v) R1 w1 fun _ => rfl⟩
      rw [c7046]
      simp (disch := omega) only [m_combines h1 h2 h3, f2_up, ecf, u7046_0, u7046_1, u7046_2, u7046_3, u7046_6, u7046_8, u7046_9, u7046_12, u7046_15ir, u7046_16, u7046_17, u7046_19, u7046_20, u7046_21, u7046_23, u7046_26, u7046_27, u7046_30, u7046_33, u7046_34, u7046_35, u7046_36, u7046_39, u7046_42, u7046_43, u7046_44, u7046_47, u7046_49, u7046_52, u7046_53, u7046_54, u7046_57, u7046_58, u7046_60, u7046_63i, u7046_63r, u7046_64, u7046_66, ob_70, gt_70_0, xl_71, xs_71, ki_0, ki_1, ki_1615, ki_1616, ki_1763, af_x hd_7046, decide_eq_true_eq, if_true, if_false, f2_ne, f2_eq, up_ne, up_eq, kc_int, kc_ref, kc_retAddr, kc_long, kc_double, af_n, af_v, z0, z1, n_of, nz6, nz4, bI_T, bI_F, bI_01, n_lt, n_le, n_eq, n_add, n_mul, n_sub, n_clamp, n_vp, m_lt, m_le, m_eq, m_eq2, m_ltm, m_add, true_and, and_true, eq_self, if_pos, if_neg, List.length_nil, List.length_cons, Nat.reduceAdd, Nat.reduceLeDiff, Nat.zero_le, not_true_eq_false, not_false_eq_true, true_or, or_true]
      rfl
    · refine gO_L z1 ⟨_, fun P => ?_, mR_open (u := nI 0) R1 w1 fun e => absurd e (by decide)⟩
      rw [c7046]
      simp (disch := omega) only [m_combines h1 h2 h3, f2_up, ecf, u7046_0, u7046_1, u7046_2, u7046_3, u7046_6, u7046_8, u7046_9, u7046_12, u7046_15ir, u7046_16, u7046_17, u7046_19, u7046_20, u7046_21, u7046_23, u7046_26, u7046_27, u7046_30, u7046_33, u7046_34, u7046_35, u7046_36, u7046_39, u7046_42, u7046_43, u7046_44, u7046_47, u7046_49, u7046_52, u7046_53, u7046_54, u7046_57, u7046_58, u7046_60, u7046_63i, u7046_63r, u7046_64, u7046_66, ob_70, gt_70_0, xl_71, xs_71, ki_0, ki_1, ki_1615, ki_1616, ki_1763, af_x hd_7046, decide_eq_true_eq, if_true, if_false, f2_ne, f2_eq, up_ne, up_eq, kc_int, kc_ref, kc_retAddr, kc_long, kc_double, af_n, af_v, z0, z1, n_of, nz6, nz4, bI_T, bI_F, bI_01, n_lt, n_le, n_eq, n_add, n_mul, n_sub, n_clamp, n_vp, m_lt, m_le, m_eq, m_eq2, m_ltm, m_add, true_and, and_true, eq_self, if_pos, if_neg, List.length_nil, List.length_cons, Nat.reduceAdd, Nat.reduceLeDiff, Nat.zero_le, not_true_eq_false, not_false_eq_true, true_or, or_true]
      rfl
theorem gO_pre {m : Nat} {args : List Value} {v : Int32} {U : Ab} {L2 : Nat → Nat → Int64} {d2 m2 : Nat} {args2 : List Value} (f : Lf L L2) (g : gO X d m args cl sl F A L2 v U) (e : ∀ (r : Nat → Int32) (L3 : Nat → Nat → Int64), (∀ P, am_Ca X d m args (am_Z cl sl F A L2) P = P (.inl (some (.int v))) (am_Z cl sl F (va_up A 71 r) L3)) → ∀ P, am_Ca X d2 m2 args2 (am_Z cl sl F A L) P = P (.inl (some (.int v))) (am_Z cl sl F (va_up A 71 r) L3)) : gO X d2 m2 args2 cl sl F A L v U := by
  obtain ⟨r, L3, e3, R3, z3, f3⟩ := g
  exact ⟨r, L3, e r L3 e3, R3, z3, Lf_tr f f3⟩
theorem g_merge (R : mR (A 71) S) (h : wS S) (z : zO S) {b : Nat} (hb : b < 6) (hm : mayM S b) : gO X (d + 5) 7047 [.ref 70, .int (nI b)] cl sl F A L (nI (mrgN S b)) (mrgS S b) := by
  have h0 := hm.1.1
  have hc := br_n h hb h0
  have h60 := h.n60
  have hq := bI_t (show S.op = 0 ∧ unl S = 0 from ⟨hm.1.2.1, hm.1.2.2.1⟩)
  obtain ⟨L1, e1, f1⟩ := m_isReached (d := d + 2) (X := X) (cl := cl) (sl := sl) (F := F) (L := L) R h (hd_n h) (show S.br b - 1 < 60 by omega)
  obtain ⟨L2, e2, f2⟩ := m_isReached (d := d + 2) (X := X) (cl := cl) (sl := sl) (F := F) (L := L1) R h hc (show hd S < 60 by have := hd_n h; omega)
  unfold mrgS mrgN
  by_cases e3 : Re S.p S.q (S.br b - 1) (hd S)
  · rw [if_pos e3, if_pos e3]
    refine ⟨_, L2, fun P => ?_, mR_stand R h hc, zO_stand, Lf_tr f1 f2⟩
    rw [c7047]
    simp (disch := omega) only [m_num_t, m_stand R hb, pk_p _ h0, m_isQuiet R h, hq, m_top R h, e1, bI_f hm.1.2.2.2, e2, bI_t e3, m_stands R h hc, u7047_0, u7047_1, u7047_4, u7047_7, u7047_9, u7047_10, u7047_11, u7047_12, u7047_15, u7047_16, u7047_17, u7047_20, u7047_21, u7047_24, u7047_27, u7047_28, u7047_29, u7047_32, u7047_33, u7047_36, u7047_39, u7047_41, u7047_42, u7047_43, u7047_44, u7047_45, u7047_48, u7047_51, u7047_54, u7047_55, u7047_56, u7047_59, u7047_60, u7047_61, u7047_62, u7047_65, u7047_68, u7047_70, u7047_73, u7047_74, u7047_75, u7047_76, u7047_79, u7047_80, u7047_83, u7047_86, u7047_87, u7047_90, u7047_91, u7047_92, u7047_95, ob_70, ki_m11, ki_m12, ki_0, ki_1, af_x hd_7047, decide_eq_true_eq, if_true, if_false, f2_ne, f2_eq, up_ne, up_eq, kc_int, kc_ref, kc_retAddr, kc_long, kc_double, af_n, af_v, z0, z1, n_of, nz6, nz4, bI_T, bI_F, bI_01, n_lt, n_le, n_eq, n_add, n_mul, n_sub, n_clamp, n_vp, m_lt, m_le, m_eq, m_eq2, m_ltm, m_add, true_and, and_true, eq_self, if_pos, if_neg, List.length_nil, List.length_cons, Nat.reduceAdd, Nat.reduceLeDiff, Nat.zero_le, not_true_eq_false, not_false_eq_true, true_or, or_true]
  · rw [if_neg e3, if_neg e3]
    have hn := hm.2.resolve_left e3
    obtain ⟨L3, e4, f3⟩ := m_root (d := d + 1) (X := X) (cl := cl) (sl := sl) (F := F) (L := L2) R h (hd_n h) hc
    have er : hiC (fun x => Re S.p S.q (hd S) x ∧ Re S.p S.q (S.br b - 1) x) 60 = nI (basN S (S.br b - 1)) := by
      rw [hiC_gd]
      exact pk_p _ (bas_0 h hc)
    rw [er] at e4
    have hbn := basN_n h hc
    have g := g_brings (d := d) (X := X) (cl := cl) (sl := sl) (F := F) (L := L3) (k := 1) (v := S.br b) R h hn (at_T R h hbn) (at_T R h hc) (at_hd R h hm.1.2.2.1) (by omega) (by omega) (Or.inl rfl)
    rw [pk_p _ h0] at g
    refine gO_pre (Lf_tr f1 (Lf_tr f2 f3)) g fun r L9 e9 P => ?_
    rw [c7047]
    simp (disch := omega) only [m_num_t, m_stand R hb, pk_p _ h0, m_isQuiet R h, hq, m_top R h, e1, bI_f hm.1.2.2.2, e2, bI_f e3, m_isFull R h, bI_f (fun z : ¬ S.n < 60 => z hn), e4, m_tree, e9, u7047_0, u7047_1, u7047_4, u7047_7, u7047_9, u7047_10, u7047_11, u7047_12, u7047_15, u7047_16, u7047_17, u7047_20, u7047_21, u7047_24, u7047_27, u7047_28, u7047_29, u7047_32, u7047_33, u7047_36, u7047_39, u7047_41, u7047_42, u7047_43, u7047_44, u7047_45, u7047_48, u7047_51, u7047_54, u7047_55, u7047_56, u7047_59, u7047_60, u7047_61, u7047_62, u7047_65, u7047_68, u7047_70, u7047_73, u7047_74, u7047_75, u7047_76, u7047_79, u7047_80, u7047_83, u7047_86, u7047_87, u7047_90, u7047_91, u7047_92, u7047_95, ob_70, ki_m11, ki_m12, ki_0, ki_1, af_x hd_7047, decide_eq_true_eq, if_true, if_false, f2_ne, f2_eq, up_ne, up_eq, kc_int, kc_ref, kc_retAddr, kc_long, kc_double, af_n, af_v, z0, z1, n_of, nz6, nz4, bI_T, bI_F, bI_01, n_lt, n_le, n_eq, n_add, n_mul, n_sub, n_clamp, n_vp, m_lt, m_le, m_eq, m_eq2, m_ltm, m_add, true_and, and_true, eq_self, if_pos, if_neg, List.length_nil, List.length_cons, Nat.reduceAdd, Nat.reduceLeDiff, Nat.zero_le, not_true_eq_false, not_false_eq_true, true_or, or_true]
theorem g_merge_no (R : mR (A 71) S) (h : wS S) (z : zO S) {b : Nat} (hb : b < 6) (hm : ¬ mayM S b) : gO X (d + 5) 7047 [.ref 70, .int (nI b)] cl sl F A L (-nI 12) S := by
  have h60 := h.n60
  by_cases h0 : S.br b = 0
  · refine gO_no R z fun P => ?_
    rw [c7047]
    simp (disch := omega) only [m_num_t, m_stand R hb, h0, pk_0, u7047_0, u7047_1, u7047_4, u7047_7, u7047_9, u7047_10, u7047_11, u7047_12, u7047_15, u7047_16, u7047_17, u7047_20, u7047_21, u7047_24, u7047_27, u7047_28, u7047_29, u7047_32, u7047_33, u7047_36, u7047_39, u7047_41, u7047_42, u7047_43, u7047_44, u7047_45, u7047_48, u7047_51, u7047_54, u7047_55, u7047_56, u7047_59, u7047_60, u7047_61, u7047_62, u7047_65, u7047_68, u7047_70, u7047_73, u7047_74, u7047_75, u7047_76, u7047_79, u7047_80, u7047_83, u7047_86, u7047_87, u7047_90, u7047_91, u7047_92, u7047_95, ob_70, ki_m11, ki_m12, ki_0, ki_1, af_x hd_7047, decide_eq_true_eq, if_true, if_false, f2_ne, f2_eq, up_ne, up_eq, kc_int, kc_ref, kc_retAddr, kc_long, kc_double, af_n, af_v, z0, z1, n_of, nz6, nz4, bI_T, bI_F, bI_01, n_lt, n_le, n_eq, n_add, n_mul, n_sub, n_clamp, n_vp, m_lt, m_le, m_eq, m_eq2, m_ltm, m_add, true_and, and_true, eq_self, if_pos, if_neg, List.length_nil, List.length_cons, Nat.reduceAdd, Nat.reduceLeDiff, Nat.zero_le, not_true_eq_false, not_false_eq_true, true_or, or_true]
  · have hc := br_n h hb h0
    by_cases hq : S.op = 0 ∧ unl S = 0
    · obtain ⟨L1, e1, f1⟩ := m_isReached (d := d + 2) (X := X) (cl := cl) (sl := sl) (F := F) (L := L) R h (hd_n h) (show S.br b - 1 < 60 by omega)
      by_cases e3 : Re S.p S.q (hd S) (S.br b - 1)
      · refine gO_noL R z f1 fun P => ?_
        rw [c7047]
        simp (disch := omega) only [m_num_t, m_stand R hb, pk_p _ h0, m_isQuiet R h, bI_t hq, m_top R h, e1, bI_t e3, u7047_0, u7047_1, u7047_4, u7047_7, u7047_9, u7047_10, u7047_11, u7047_12, u7047_15, u7047_16, u7047_17, u7047_20, u7047_21, u7047_24, u7047_27, u7047_28, u7047_29, u7047_32, u7047_33, u7047_36, u7047_39, u7047_41, u7047_42, u7047_43, u7047_44, u7047_45, u7047_48, u7047_51, u7047_54, u7047_55, u7047_56, u7047_59, u7047_60, u7047_61, u7047_62, u7047_65, u7047_68, u7047_70, u7047_73, u7047_74, u7047_75, u7047_76, u7047_79, u7047_80, u7047_83, u7047_86, u7047_87, u7047_90, u7047_91, u7047_92, u7047_95, ob_70, ki_m11, ki_m12, ki_0, ki_1, af_x hd_7047, decide_eq_true_eq, if_true, if_false, f2_ne, f2_eq, up_ne, up_eq, kc_int, kc_ref, kc_retAddr, kc_long, kc_double, af_n, af_v, z0, z1, n_of, nz6, nz4, bI_T, bI_F, bI_01, n_lt, n_le, n_eq, n_add, n_mul, n_sub, n_clamp, n_vp, m_lt, m_le, m_eq, m_eq2, m_ltm, m_add, true_and, and_true, eq_self, if_pos, if_neg, List.length_nil, List.length_cons, Nat.reduceAdd, Nat.reduceLeDiff, Nat.zero_le, not_true_eq_false, not_false_eq_true, true_or, or_true]
      · have hg : mayG S b := ⟨h0, hq.1, hq.2, e3⟩
        obtain ⟨L2, e2, f2⟩ := m_isReached (d := d + 2) (X := X) (cl := cl) (sl := sl) (F := F) (L := L1) R h hc (show hd S < 60 by have := hd_n h; omega)
        have e4 : ¬ Re S.p S.q (S.br b - 1) (hd S) := fun z => hm ⟨hg, Or.inl z⟩
        have e5 : ¬ S.n < 60 := fun z => hm ⟨hg, Or.inr z⟩
        refine gO_noL R z (Lf_tr f1 f2) fun P => ?_
        rw [c7047]
        simp (disch := omega) only [m_num_t, m_stand R hb, pk_p _ h0, m_isQuiet R h, bI_t hq, m_top R h, e1, bI_f e3, e2, bI_f e4, m_isFull R h, bI_t e5, u7047_0, u7047_1, u7047_4, u7047_7, u7047_9, u7047_10, u7047_11, u7047_12, u7047_15, u7047_16, u7047_17, u7047_20, u7047_21, u7047_24, u7047_27, u7047_28, u7047_29, u7047_32, u7047_33, u7047_36, u7047_39, u7047_41, u7047_42, u7047_43, u7047_44, u7047_45, u7047_48, u7047_51, u7047_54, u7047_55, u7047_56, u7047_59, u7047_60, u7047_61, u7047_62, u7047_65, u7047_68, u7047_70, u7047_73, u7047_74, u7047_75, u7047_76, u7047_79, u7047_80, u7047_83, u7047_86, u7047_87, u7047_90, u7047_91, u7047_92, u7047_95, ob_70, ki_m11, ki_m12, ki_0, ki_1, af_x hd_7047, decide_eq_true_eq, if_true, if_false, f2_ne, f2_eq, up_ne, up_eq, kc_int, kc_ref, kc_retAddr, kc_long, kc_double, af_n, af_v, z0, z1, n_of, nz6, nz4, bI_T, bI_F, bI_01, n_lt, n_le, n_eq, n_add, n_mul, n_sub, n_clamp, n_vp, m_lt, m_le, m_eq, m_eq2, m_ltm, m_add, true_and, and_true, eq_self, if_pos, if_neg, List.length_nil, List.length_cons, Nat.reduceAdd, Nat.reduceLeDiff, Nat.zero_le, not_true_eq_false, not_false_eq_true, true_or, or_true]
    · refine gO_no R z fun P => ?_
      rw [c7047]
      simp (disch := omega) only [m_num_t, m_stand R hb, pk_p _ h0, m_isQuiet R h, bI_f hq, u7047_0, u7047_1, u7047_4, u7047_7, u7047_9, u7047_10, u7047_11, u7047_12, u7047_15, u7047_16, u7047_17, u7047_20, u7047_21, u7047_24, u7047_27, u7047_28, u7047_29, u7047_32, u7047_33, u7047_36, u7047_39, u7047_41, u7047_42, u7047_43, u7047_44, u7047_45, u7047_48, u7047_51, u7047_54, u7047_55, u7047_56, u7047_59, u7047_60, u7047_61, u7047_62, u7047_65, u7047_68, u7047_70, u7047_73, u7047_74, u7047_75, u7047_76, u7047_79, u7047_80, u7047_83, u7047_86, u7047_87, u7047_90, u7047_91, u7047_92, u7047_95, ob_70, ki_m11, ki_m12, ki_0, ki_1, af_x hd_7047, decide_eq_true_eq, if_true, if_false, f2_ne, f2_eq, up_ne, up_eq, kc_int, kc_ref, kc_retAddr, kc_long, kc_double, af_n, af_v, z0, z1, n_of, nz6, nz4, bI_T, bI_F, bI_01, n_lt, n_le, n_eq, n_add, n_mul, n_sub, n_clamp, n_vp, m_lt, m_le, m_eq, m_eq2, m_ltm, m_add, true_and, and_true, eq_self, if_pos, if_neg, List.length_nil, List.length_cons, Nat.reduceAdd, Nat.reduceLeDiff, Nat.zero_le, not_true_eq_false, not_false_eq_true, true_or, or_true]
theorem g_merge_num (R : mR (A 71) S) (z : zO S) {x : Int32} (hx : noB x) : gO X (d + 5) 7047 [.ref 70, .int x] cl sl F A L (-nI 11) S := gO_no R z fun P => by
  rw [c7047]
  simp (disch := omega) only [m_num_f hx, u7047_0, u7047_1, u7047_4, u7047_7, u7047_9, u7047_10, u7047_11, u7047_12, u7047_15, u7047_16, u7047_17, u7047_20, u7047_21, u7047_24, u7047_27, u7047_28, u7047_29, u7047_32, u7047_33, u7047_36, u7047_39, u7047_41, u7047_42, u7047_43, u7047_44, u7047_45, u7047_48, u7047_51, u7047_54, u7047_55, u7047_56, u7047_59, u7047_60, u7047_61, u7047_62, u7047_65, u7047_68, u7047_70, u7047_73, u7047_74, u7047_75, u7047_76, u7047_79, u7047_80, u7047_83, u7047_86, u7047_87, u7047_90, u7047_91, u7047_92, u7047_95, ob_70, ki_m11, ki_m12, ki_0, ki_1, af_x hd_7047, decide_eq_true_eq, if_true, if_false, f2_ne, f2_eq, up_ne, up_eq, kc_int, kc_ref, kc_retAddr, kc_long, kc_double, af_n, af_v, z0, z1, n_of, nz6, nz4, bI_T, bI_F, bI_01, n_lt, n_le, n_eq, n_add, n_mul, n_sub, n_clamp, n_vp, m_lt, m_le, m_eq, m_eq2, m_ltm, m_add, true_and, and_true, eq_self, if_pos, if_neg, List.length_nil, List.length_cons, Nat.reduceAdd, Nat.reduceLeDiff, Nat.zero_le, not_true_eq_false, not_false_eq_true, true_or, or_true]
/-! picks: from and to as places of the row -/
def frA (S : Ab) (c k : Nat) : Nat := if k = 0 then 24 * (S.p c - 1) else 24 * c
def toA (S : Ab) (c k : Nat) : Nat := if k = 0 then 24 * c else 24 * (S.p c - 1)
theorem at_fr (R : mR f S) (h : wS S) {c k : Nat} (hc : c < S.n) (h0 : c ≠ 0) : at24 f (frA S c k) (fromT S c k) ∧ frA S c k + 24 ≤ 1567 := by
  have h1 := h.root c hc h0
  have h2 := (h.par c hc).1
  have h60 := h.n60
  unfold frA fromT
  by_cases e : k = 0
  · rw [if_pos e, if_pos e]; exact ⟨at_T R h (by omega), by omega⟩
  · rw [if_neg e, if_neg e]; exact ⟨at_T R h hc, by omega⟩
theorem at_to (R : mR f S) (h : wS S) {c k : Nat} (hc : c < S.n) (h0 : c ≠ 0) : at24 f (toA S c k) (toT S c k) ∧ toA S c k + 24 ≤ 1567 := by
  have h1 := h.root c hc h0
  have h2 := (h.par c hc).1
  have h60 := h.n60
  unfold toA toT
  by_cases e : k = 0
  · rw [if_pos e, if_pos e]; exact ⟨at_T R h hc, by omega⟩
  · rw [if_neg e, if_neg e]; exact ⟨at_T R h (by omega), by omega⟩
theorem g_pick (R : mR (A 71) S) (h : wS S) {c k : Nat} (hk : k < 2) (hm : mayP S c k) : gO X (d + 5) 7048 [.ref 70, .int (nI c), .int (nI k)] cl sl F A L (nI (cnt (kC (fromT S c k) (toT S c k) S.W) 24)) (pickS S c k) := by
  obtain ⟨m1, m2, m3, m4, m5⟩ := hm
  have h60 := h.n60
  have hp := h.root c m1 m2
  have hp2 := (h.par c m1).1
  obtain ⟨a1, a2⟩ := at_fr (k := k) R h m1 m2
  obtain ⟨b1, b2⟩ := at_to (k := k) R h m1 m2
  have c1 := cnt_le (kB (fromT S c k) (toT S c k) S.W) 24
  have c2 := cnt_le (kC (fromT S c k) (toT S c k) S.W) 24
  have hz : ¬ cnt (kB (fromT S c k) (toT S c k) S.W) 24 + cnt (kC (fromT S c k) (toT S c k) S.W) 24 = 0 := fun z => m5 ⟨by omega, by omega⟩
  have g := g_brings (d := d) (X := X) (cl := cl) (sl := sl) (F := F) (L := L) (k := 2) (v := 0) R h m4 a1 b1 (at_W R h) (Or.inl a2) (Or.inl b2) (Or.inr rfl)
  rw [pk_0] at g
  refine gO_pre Lf_id g fun r L9 e9 P => ?_
  have en : bI (¬ S.n < 60) = nI 0 := bI_f fun z => z m4
  have ec1 := fun {Q : am_Q} => m_coming (d := d + 2) (X := X) (cl := cl) (sl := sl) (F := F) (L := L) (P := Q) a1 b1 (at_W R h)
  have ec2 := fun {Q : am_Q} => m_clashing (d := d + 2) (X := X) (cl := cl) (sl := sl) (F := F) (L := L) (P := Q) a1 b1 (at_W R h)
  by_cases e : k = 0
  · subst e
    rw [show frA S c 0 = 24 * (S.p c - 1) from rfl, show toA S c 0 = 24 * c from rfl] at *
    rw [c7048]
    simp (disch := omega) only [m_isCommit_t R h m1, m_isQuiet R h, bI_t m3, m_isFull R h, en, R.p c m1, pk_sub1, pk_p _ hp, m_tree, ec1, ec2, e9, u7048_0, u7048_1, u7048_2, u7048_5, u7048_8, u7048_10, u7048_11, u7048_12, u7048_15, u7048_16, u7048_19, u7048_22, u7048_23, u7048_26, u7048_29, u7048_31, u7048_32, u7048_33, u7048_36, u7048_39, u7048_40, u7048_41, u7048_42, u7048_43, u7048_44, u7048_47, u7048_48, u7048_49, u7048_52, u7048_53, u7048_56, u7048_59, u7048_60, u7048_62, u7048_63, u7048_66, u7048_67, u7048_70, u7048_71, u7048_74, u7048_76, u7048_77, u7048_79, u7048_81, u7048_84, u7048_87, u7048_88, u7048_90, u7048_92, u7048_95, u7048_98, u7048_99, u7048_102, u7048_103, u7048_106, u7048_107, u7048_109, u7048_111, u7048_114, u7048_116, u7048_119, u7048_120, u7048_122, u7048_124, u7048_125, u7048_126, u7048_129, ob_70, gt_70_0, xl_71, ki_m1, ki_m11, ki_m12, ki_0, ki_1, ki_1440, ki_1567, ki_2, af_x hd_7048, decide_eq_true_eq, if_true, if_false, f2_ne, f2_eq, up_ne, up_eq, kc_int, kc_ref, kc_retAddr, kc_long, kc_double, af_n, af_v, z0, z1, n_of, nz6, nz4, bI_T, bI_F, bI_01, n_lt, n_le, n_eq, n_add, n_mul, n_sub, n_clamp, n_vp, m_lt, m_le, m_eq, m_eq2, m_ltm, m_add, true_and, and_true, eq_self, if_pos, if_neg, List.length_nil, List.length_cons, Nat.reduceAdd, Nat.reduceLeDiff, Nat.zero_le, not_true_eq_false, not_false_eq_true, true_or, or_true]
  · obtain rfl : k = 1 := by omega
    rw [show frA S c 1 = 24 * c from rfl, show toA S c 1 = 24 * (S.p c - 1) from rfl] at *
    rw [c7048]
    simp (disch := omega) only [m_isCommit_t R h m1, m_isQuiet R h, bI_t m3, m_isFull R h, en, R.p c m1, pk_sub1, pk_p _ hp, m_tree, ec1, ec2, e9, u7048_0, u7048_1, u7048_2, u7048_5, u7048_8, u7048_10, u7048_11, u7048_12, u7048_15, u7048_16, u7048_19, u7048_22, u7048_23, u7048_26, u7048_29, u7048_31, u7048_32, u7048_33, u7048_36, u7048_39, u7048_40, u7048_41, u7048_42, u7048_43, u7048_44, u7048_47, u7048_48, u7048_49, u7048_52, u7048_53, u7048_56, u7048_59, u7048_60, u7048_62, u7048_63, u7048_66, u7048_67, u7048_70, u7048_71, u7048_74, u7048_76, u7048_77, u7048_79, u7048_81, u7048_84, u7048_87, u7048_88, u7048_90, u7048_92, u7048_95, u7048_98, u7048_99, u7048_102, u7048_103, u7048_106, u7048_107, u7048_109, u7048_111, u7048_114, u7048_116, u7048_119, u7048_120, u7048_122, u7048_124, u7048_125, u7048_126, u7048_129, ob_70, gt_70_0, xl_71, ki_m1, ki_m11, ki_m12, ki_0, ki_1, ki_1440, ki_1567, ki_2, af_x hd_7048, decide_eq_true_eq, if_true, if_false, f2_ne, f2_eq, up_ne, up_eq, kc_int, kc_ref, kc_retAddr, kc_long, kc_double, af_n, af_v, z0, z1, n_of, nz6, nz4, bI_T, bI_F, bI_01, n_lt, n_le, n_eq, n_add, n_mul, n_sub, n_clamp, n_vp, m_lt, m_le, m_eq, m_eq2, m_ltm, m_add, true_and, and_true, eq_self, if_pos, if_neg, List.length_nil, List.length_cons, Nat.reduceAdd, Nat.reduceLeDiff, Nat.zero_le, not_true_eq_false, not_false_eq_true, true_or, or_true]
theorem g_pick_no (R : mR (A 71) S) (h : wS S) (z : zO S) {c k : Nat} (hc : c < S.n) (hk : k < 2) (hm : ¬ mayP S c k) : gO X (d + 5) 7048 [.ref 70, .int (nI c), .int (nI k)] cl sl F A L (-nI 12) S := gO_no R z fun P => by
  have h60 := h.n60
  rw [c7048]
  by_cases m2 : c = 0
  · subst m2
    simp (disch := omega) only [m_isCommit_t R h hc, u7048_0, u7048_1, u7048_2, u7048_5, u7048_8, u7048_10, u7048_11, u7048_12, u7048_15, u7048_16, u7048_19, u7048_22, u7048_23, u7048_26, u7048_29, u7048_31, u7048_32, u7048_33, u7048_36, u7048_39, u7048_40, u7048_41, u7048_42, u7048_43, u7048_44, u7048_47, u7048_48, u7048_49, u7048_52, u7048_53, u7048_56, u7048_59, u7048_60, u7048_62, u7048_63, u7048_66, u7048_67, u7048_70, u7048_71, u7048_74, u7048_76, u7048_77, u7048_79, u7048_81, u7048_84, u7048_87, u7048_88, u7048_90, u7048_92, u7048_95, u7048_98, u7048_99, u7048_102, u7048_103, u7048_106, u7048_107, u7048_109, u7048_111, u7048_114, u7048_116, u7048_119, u7048_120, u7048_122, u7048_124, u7048_125, u7048_126, u7048_129, ob_70, gt_70_0, xl_71, ki_m1, ki_m11, ki_m12, ki_0, ki_1, ki_1440, ki_1567, ki_2, af_x hd_7048, decide_eq_true_eq, if_true, if_false, f2_ne, f2_eq, up_ne, up_eq, kc_int, kc_ref, kc_retAddr, kc_long, kc_double, af_n, af_v, z0, z1, n_of, nz6, nz4, bI_T, bI_F, bI_01, n_lt, n_le, n_eq, n_add, n_mul, n_sub, n_clamp, n_vp, m_lt, m_le, m_eq, m_eq2, m_ltm, m_add, true_and, and_true, eq_self, if_pos, if_neg, List.length_nil, List.length_cons, Nat.reduceAdd, Nat.reduceLeDiff, Nat.zero_le, not_true_eq_false, not_false_eq_true, true_or, or_true]
  · by_cases m3 : S.op = 0 ∧ unl S = 0
    · by_cases m4 : S.n < 60
      · have en : bI (¬ S.n < 60) = nI 0 := bI_f fun z => z m4
        have m5 : nothing S c k := by
          by_cases m5 : nothing S c k
          · exact m5
          · exact absurd ⟨hc, m2, m3, m4, m5⟩ hm
        obtain ⟨n1, n2⟩ := m5
        have hp := h.root c hc m2
        have hp2 := (h.par c hc).1
        obtain ⟨a1, a2⟩ := at_fr (k := k) R h hc m2
        obtain ⟨b1, b2⟩ := at_to (k := k) R h hc m2
        have ec1 := fun {Q : am_Q} => m_coming (d := d + 2) (X := X) (cl := cl) (sl := sl) (F := F) (L := L) (P := Q) a1 b1 (at_W R h)
        have ec2 := fun {Q : am_Q} => m_clashing (d := d + 2) (X := X) (cl := cl) (sl := sl) (F := F) (L := L) (P := Q) a1 b1 (at_W R h)
        rw [n1] at ec1
        rw [n2] at ec2
        by_cases e : k = 0
        · subst e
          rw [show frA S c 0 = 24 * (S.p c - 1) from rfl, show toA S c 0 = 24 * c from rfl] at *
          simp (disch := omega) only [m_isCommit_t R h hc, m_isQuiet R h, bI_t m3, m_isFull R h, en, R.p c hc, pk_sub1, pk_p _ hp, m_tree, ec1, ec2, u7048_0, u7048_1, u7048_2, u7048_5, u7048_8, u7048_10, u7048_11, u7048_12, u7048_15, u7048_16, u7048_19, u7048_22, u7048_23, u7048_26, u7048_29, u7048_31, u7048_32, u7048_33, u7048_36, u7048_39, u7048_40, u7048_41, u7048_42, u7048_43, u7048_44, u7048_47, u7048_48, u7048_49, u7048_52, u7048_53, u7048_56, u7048_59, u7048_60, u7048_62, u7048_63, u7048_66, u7048_67, u7048_70, u7048_71, u7048_74, u7048_76, u7048_77, u7048_79, u7048_81, u7048_84, u7048_87, u7048_88, u7048_90, u7048_92, u7048_95, u7048_98, u7048_99, u7048_102, u7048_103, u7048_106, u7048_107, u7048_109, u7048_111, u7048_114, u7048_116, u7048_119, u7048_120, u7048_122, u7048_124, u7048_125, u7048_126, u7048_129, ob_70, gt_70_0, xl_71, ki_m1, ki_m11, ki_m12, ki_0, ki_1, ki_1440, ki_1567, ki_2, af_x hd_7048, decide_eq_true_eq, if_true, if_false, f2_ne, f2_eq, up_ne, up_eq, kc_int, kc_ref, kc_retAddr, kc_long, kc_double, af_n, af_v, z0, z1, n_of, nz6, nz4, bI_T, bI_F, bI_01, n_lt, n_le, n_eq, n_add, n_mul, n_sub, n_clamp, n_vp, m_lt, m_le, m_eq, m_eq2, m_ltm, m_add, true_and, and_true, eq_self, if_pos, if_neg, List.length_nil, List.length_cons, Nat.reduceAdd, Nat.reduceLeDiff, Nat.zero_le, not_true_eq_false, not_false_eq_true, true_or, or_true]
        · obtain rfl : k = 1 := by omega
          rw [show frA S c 1 = 24 * c from rfl, show toA S c 1 = 24 * (S.p c - 1) from rfl] at *
          simp (disch := omega) only [m_isCommit_t R h hc, m_isQuiet R h, bI_t m3, m_isFull R h, en, R.p c hc, pk_sub1, pk_p _ hp, m_tree, ec1, ec2, u7048_0, u7048_1, u7048_2, u7048_5, u7048_8, u7048_10, u7048_11, u7048_12, u7048_15, u7048_16, u7048_19, u7048_22, u7048_23, u7048_26, u7048_29, u7048_31, u7048_32, u7048_33, u7048_36, u7048_39, u7048_40, u7048_41, u7048_42, u7048_43, u7048_44, u7048_47, u7048_48, u7048_49, u7048_52, u7048_53, u7048_56, u7048_59, u7048_60, u7048_62, u7048_63, u7048_66, u7048_67, u7048_70, u7048_71, u7048_74, u7048_76, u7048_77, u7048_79, u7048_81, u7048_84, u7048_87, u7048_88, u7048_90, u7048_92, u7048_95, u7048_98, u7048_99, u7048_102, u7048_103, u7048_106, u7048_107, u7048_109, u7048_111, u7048_114, u7048_116, u7048_119, u7048_120, u7048_122, u7048_124, u7048_125, u7048_126, u7048_129, ob_70, gt_70_0, xl_71, ki_m1, ki_m11, ki_m12, ki_0, ki_1, ki_1440, ki_1567, ki_2, af_x hd_7048, decide_eq_true_eq, if_true, if_false, f2_ne, f2_eq, up_ne, up_eq, kc_int, kc_ref, kc_retAddr, kc_long, kc_double, af_n, af_v, z0, z1, n_of, nz6, nz4, bI_T, bI_F, bI_01, n_lt, n_le, n_eq, n_add, n_mul, n_sub, n_clamp, n_vp, m_lt, m_le, m_eq, m_eq2, m_ltm, m_add, true_and, and_true, eq_self, if_pos, if_neg, List.length_nil, List.length_cons, Nat.reduceAdd, Nat.reduceLeDiff, Nat.zero_le, not_true_eq_false, not_false_eq_true, true_or, or_true]
      · simp (disch := omega) only [m_isCommit_t R h hc, m_isQuiet R h, bI_t m3, m_isFull R h, bI_t m4, u7048_0, u7048_1, u7048_2, u7048_5, u7048_8, u7048_10, u7048_11, u7048_12, u7048_15, u7048_16, u7048_19, u7048_22, u7048_23, u7048_26, u7048_29, u7048_31, u7048_32, u7048_33, u7048_36, u7048_39, u7048_40, u7048_41, u7048_42, u7048_43, u7048_44, u7048_47, u7048_48, u7048_49, u7048_52, u7048_53, u7048_56, u7048_59, u7048_60, u7048_62, u7048_63, u7048_66, u7048_67, u7048_70, u7048_71, u7048_74, u7048_76, u7048_77, u7048_79, u7048_81, u7048_84, u7048_87, u7048_88, u7048_90, u7048_92, u7048_95, u7048_98, u7048_99, u7048_102, u7048_103, u7048_106, u7048_107, u7048_109, u7048_111, u7048_114, u7048_116, u7048_119, u7048_120, u7048_122, u7048_124, u7048_125, u7048_126, u7048_129, ob_70, gt_70_0, xl_71, ki_m1, ki_m11, ki_m12, ki_0, ki_1, ki_1440, ki_1567, ki_2, af_x hd_7048, decide_eq_true_eq, if_true, if_false, f2_ne, f2_eq, up_ne, up_eq, kc_int, kc_ref, kc_retAddr, kc_long, kc_double, af_n, af_v, z0, z1, n_of, nz6, nz4, bI_T, bI_F, bI_01, n_lt, n_le, n_eq, n_add, n_mul, n_sub, n_clamp, n_vp, m_lt, m_le, m_eq, m_eq2, m_ltm, m_add, true_and, and_true, eq_self, if_pos, if_neg, List.length_nil, List.length_cons, Nat.reduceAdd, Nat.reduceLeDiff, Nat.zero_le, not_true_eq_false, not_false_eq_true, true_or, or_true]
    · simp (disch := omega) only [m_isCommit_t R h hc, m_isQuiet R h, bI_f m3, u7048_0, u7048_1, u7048_2, u7048_5, u7048_8, u7048_10, u7048_11, u7048_12, u7048_15, u7048_16, u7048_19, u7048_22, u7048_23, u7048_26, u7048_29, u7048_31, u7048_32, u7048_33, u7048_36, u7048_39, u7048_40, u7048_41, u7048_42, u7048_43, u7048_44, u7048_47, u7048_48, u7048_49, u7048_52, u7048_53, u7048_56, u7048_59, u7048_60, u7048_62, u7048_63, u7048_66, u7048_67, u7048_70, u7048_71, u7048_74, u7048_76, u7048_77, u7048_79, u7048_81, u7048_84, u7048_87, u7048_88, u7048_90, u7048_92, u7048_95, u7048_98, u7048_99, u7048_102, u7048_103, u7048_106, u7048_107, u7048_109, u7048_111, u7048_114, u7048_116, u7048_119, u7048_120, u7048_122, u7048_124, u7048_125, u7048_126, u7048_129, ob_70, gt_70_0, xl_71, ki_m1, ki_m11, ki_m12, ki_0, ki_1, ki_1440, ki_1567, ki_2, af_x hd_7048, decide_eq_true_eq, if_true, if_false, f2_ne, f2_eq, up_ne, up_eq, kc_int, kc_ref, kc_retAddr, kc_long, kc_double, af_n, af_v, z0, z1, n_of, nz6, nz4, bI_T, bI_F, bI_01, n_lt, n_le, n_eq, n_add, n_mul, n_sub, n_clamp, n_vp, m_lt, m_le, m_eq, m_eq2, m_ltm, m_add, true_and, and_true, eq_self, if_pos, if_neg, List.length_nil, List.length_cons, Nat.reduceAdd, Nat.reduceLeDiff, Nat.zero_le, not_true_eq_false, not_false_eq_true, true_or, or_true]
theorem g_pick_commit (R : mR (A 71) S) (h : wS S) (z : zO S) {x v : Int32} (hx : noC S x) : gO X (d + 5) 7048 [.ref 70, .int x, .int v] cl sl F A L (-nI 11) S := gO_no R z fun P => by
  rw [c7048]
  simp (disch := omega) only [m_isCommit_f R h hx, u7048_0, u7048_1, u7048_2, u7048_5, u7048_8, u7048_10, u7048_11, u7048_12, u7048_15, u7048_16, u7048_19, u7048_22, u7048_23, u7048_26, u7048_29, u7048_31, u7048_32, u7048_33, u7048_36, u7048_39, u7048_40, u7048_41, u7048_42, u7048_43, u7048_44, u7048_47, u7048_48, u7048_49, u7048_52, u7048_53, u7048_56, u7048_59, u7048_60, u7048_62, u7048_63, u7048_66, u7048_67, u7048_70, u7048_71, u7048_74, u7048_76, u7048_77, u7048_79, u7048_81, u7048_84, u7048_87, u7048_88, u7048_90, u7048_92, u7048_95, u7048_98, u7048_99, u7048_102, u7048_103, u7048_106, u7048_107, u7048_109, u7048_111, u7048_114, u7048_116, u7048_119, u7048_120, u7048_122, u7048_124, u7048_125, u7048_126, u7048_129, ob_70, gt_70_0, xl_71, ki_m1, ki_m11, ki_m12, ki_0, ki_1, ki_1440, ki_1567, ki_2, af_x hd_7048, decide_eq_true_eq, if_true, if_false, f2_ne, f2_eq, up_ne, up_eq, kc_int, kc_ref, kc_retAddr, kc_long, kc_double, af_n, af_v, z0, z1, n_of, nz6, nz4, bI_T, bI_F, bI_01, n_lt, n_le, n_eq, n_add, n_mul, n_sub, n_clamp, n_vp, m_lt, m_le, m_eq, m_eq2, m_ltm, m_add, true_and, and_true, eq_self, if_pos, if_neg, List.length_nil, List.length_cons, Nat.reduceAdd, Nat.reduceLeDiff, Nat.zero_le, not_true_eq_false, not_false_eq_true, true_or, or_true]
/-! aside -/
def asR (f : Nat → Int32) (h a : Nat) : Nat → Int32 := va_up (va_cpy (va_cpy (va_cpy f f (24 * h) (1618 + 48 * a) 24) (va_cpy f f (24 * h) (1618 + 48 * a) 24) 1567 (1618 + 48 * a + 24) 24) (va_cpy (va_cpy f f (24 * h) (1618 + 48 * a) 24) (va_cpy f f (24 * h) (1618 + 48 * a) 24) 1567 (1618 + 48 * a + 24) 24) (24 * h) 1567 24) 1617 (nI (a + 1))
theorem mR_aside (R : mR f S) (h : wS S) (z : zO S) (hm : mayA S) : mR (asR f (hd S) S.ac) (stand (push S) (hd S)) := by
  obtain ⟨m1, m2, m3⟩ := hm
  have h60 := h.n60
  have hh := hd_n h
  have out : ∀ j, (j < 1567 ∨ 1591 ≤ j) → j ≠ 1617 → (j < 1618 + 48 * S.ac ∨ 1618 + 48 * S.ac + 48 ≤ j) → asR f (hd S) S.ac j = f j := fun j h1 h2 h3 => by
    unfold asR
    rw [up_ne h2, cpy_out (by omega), cpy_out (by omega), cpy_out (by omega)]
  refine mR.mk ?_ ?_ ?_ (fun e => ?_) ?_ ?_ ?_ ?_ ?_ ?_ ?_ ?_ ?_ ?_
  · rw [out _ (by omega) (by omega) (by omega)]; exact R.n0
  · rw [out _ (by omega) (by omega) (by omega)]; exact R.cu
  · rw [out _ (by omega) (by omega) (by omega), R.op, m1]; rfl
  · exact absurd (show (0 : Nat) = 1 from e) (by decide)
  · unfold asR
    rw [up_eq]; rfl
  · rw [out _ (by omega) (by omega) (by omega)]; exact R.cf
  · intro k hk
    have hk' : k < S.n := hk
    rw [out _ (by omega) (by omega) (by omega)]; exact R.p k hk
  · intro k hk
    have hk' : k < S.n := hk
    rw [out _ (by omega) (by omega) (by omega)]; exact R.q k hk
  · intro k hk j hj
    have hk' : k < S.n := hk
    rw [out _ (by omega) (by omega) (by omega)]; exact R.T k hk j hj
  · intro j hj
    show _ = nI (va_up S.br S.cur (hd S + 1) j)
    rw [out _ (by omega) (by omega) (by omega), ← br_hd h, up_same]; exact R.br j hj
  · intro j hj
    show _ = nI (S.T (hd S) j)
    unfold asR
    rw [up_ne (by omega), cpy_in (by omega) (by omega), cpy_out (by omega), cpy_out (by omega), show 24 * hd S + (1567 + j - 1567) = 24 * hd S + j by omega]
    exact R.T _ hh j hj
  · intro j hj
    rw [out _ (by omega) (by omega) (by omega), R.O j hj, z m1 j hj]; rfl
  · intro j hj k hk
    have hj' : j < S.ac + 1 := hj
    show _ = nI (S.T (va_up S.ah S.ac (hd S) j) k)
    by_cases e : j = S.ac
    · subst e
      unfold asR
      rw [up_ne (by omega), cpy_out (by omega), cpy_out (by omega), cpy_in (by omega) (by omega), up_eq, show 24 * hd S + (1618 + 48 * S.ac + k - (1618 + 48 * S.ac)) = 24 * hd S + k by omega]
      exact R.T _ hh k hk
    · rw [out _ (by omega) (by omega) (by omega), up_ne e]; exact R.ah j (by omega) k hk
  · intro j hj k hk
    have hj' : j < S.ac + 1 := hj
    show _ = nI (va_up S.aT S.ac S.W j k)
    by_cases e : j = S.ac
    · subst e
      unfold asR
      rw [up_ne (by omega), cpy_out (by omega), cpy_in (by omega) (by omega), up_eq, cpy_out (by omega), show 1567 + (1618 + 48 * S.ac + 24 + k - (1618 + 48 * S.ac + 24)) = 1567 + k by omega]
      exact R.W k hk
    · rw [out _ (by omega) (by omega) (by omega), up_ne e]; exact R.aT j (by omega) k hk
theorem g_aside (R : mR (A 71) S) (h : wS S) (z : zO S) (hm : mayA S) : gO X (d + 4) 7040 [.ref 70] cl sl F A L (nI (S.ac + 1)) (stand (push S) (hd S)) := by
  have RR := mR_aside R h z hm
  obtain ⟨m1, m2, m3⟩ := hm
  have h60 := h.n60
  have h6 := h.cur6
  have hh := hd_n h
  have hu : unl S ≤ 24 := cnt_le _ _
  refine gO_L zO_stand ⟨_, fun P => ?_, RR⟩
  have et : ∀ {d : Nat} {Q : am_Q}, am_Ca X (d + 2) 7015 [.ref 70] (am_Z cl sl F (va_up A 71 (va_cpy (va_cpy (A 71) (A 71) (24 * hd S) (1618 + 48 * S.ac) 24) (va_cpy (A 71) (A 71) (24 * hd S) (1618 + 48 * S.ac) 24) 1567 (1618 + 48 * S.ac + 24) 24)) L) Q = Q (.inl (some (.int (nI (hd S))))) (am_Z cl sl F (va_up A 71 (va_cpy (va_cpy (A 71) (A 71) (24 * hd S) (1618 + 48 * S.ac) 24) (va_cpy (A 71) (A 71) (24 * hd S) (1618 + 48 * S.ac) 24) 1567 (1618 + 48 * S.ac + 24) 24)) L) := fun {d} {Q} => m_topW (b := S.cur) (by rw [up_eq, cpy_out (by omega), cpy_out (by omega)]; exact R.cu) h6 (by rw [up_eq, cpy_out (by omega), cpy_out (by omega), R.br _ h6, br_hd h]) (by omega)
  have ea : va_cpy (va_cpy (va_cpy (A 71) (A 71) (24 * hd S) (1618 + 48 * S.ac) 24) (va_cpy (A 71) (A 71) (24 * hd S) (1618 + 48 * S.ac) 24) 1567 (1618 + 48 * S.ac + 24) 24) (va_cpy (va_cpy (A 71) (A 71) (24 * hd S) (1618 + 48 * S.ac) 24) (va_cpy (A 71) (A 71) (24 * hd S) (1618 + 48 * S.ac) 24) 1567 (1618 + 48 * S.ac + 24) 24) (24 * hd S) 1567 24 1617 = nI S.ac := by
    rw [cpy_out (by omega), cpy_out (by omega), cpy_out (by omega)]; exact R.ac
  rw [c7040]
  simp (disch := omega) only [m_unlike R h, R.op, m1, R.ac, m_top R h, m_tree, m_lays, up_up, et, f2_up, ea, u7040_0, u7040_1, u7040_4, u7040_7, u7040_8, u7040_11, u7040_14, u7040_15, u7040_18, u7040_19, u7040_22, u7040_25, u7040_26, u7040_27, u7040_30, u7040_32, u7040_33, u7040_36, u7040_38, u7040_39, u7040_42, u7040_45, u7040_46, u7040_47, u7040_48, u7040_49, u7040_50, u7040_51, u7040_54, u7040_57, u7040_58, u7040_61, u7040_62, u7040_65, u7040_66, u7040_68, u7040_69, u7040_72, u7040_73, u7040_74, u7040_77, u7040_80, u7040_83, u7040_86, u7040_87, u7040_90, u7040_93ir, u7040_94, u7040_95, u7040_96, u7040_97, u7040_98, u7040_99, u7040_102, u7040_105, u7040_106, ob_70, gt_70_0, xl_71, xs_71, ki_m12, ki_1, ki_1567, ki_1615, ki_1617, ki_1618, ki_24, ki_3, ki_48, af_x hd_7040, decide_eq_true_eq, if_true, if_false, f2_ne, f2_eq, up_ne, up_eq, kc_int, kc_ref, kc_retAddr, kc_long, kc_double, af_n, af_v, z0, z1, n_of, nz6, nz4, bI_T, bI_F, bI_01, n_lt, n_le, n_eq, n_add, n_mul, n_sub, n_clamp, n_vp, m_lt, m_le, m_eq, m_eq2, m_ltm, m_add, true_and, and_true, eq_self, if_pos, if_neg, List.length_nil, List.length_cons, Nat.reduceAdd, Nat.reduceLeDiff, Nat.zero_le, not_true_eq_false, not_false_eq_true, true_or, or_true]
  rfl
theorem g_aside_no (R : mR (A 71) S) (h : wS S) (z : zO S) (hm : ¬ mayA S) : gO X (d + 4) 7040 [.ref 70] cl sl F A L (-nI 12) S := gO_no R z fun P => by
  have h3 := h.op3
  have ha := h.ac3
  have hu : unl S ≤ 24 := cnt_le _ _
  rw [c7040]
  by_cases m1 : unl S = 0
  · simp (disch := omega) only [m_unlike R h, m1, u7040_0, u7040_1, u7040_4, u7040_7, u7040_8, u7040_11, u7040_14, u7040_15, u7040_18, u7040_19, u7040_22, u7040_25, u7040_26, u7040_27, u7040_30, u7040_32, u7040_33, u7040_36, u7040_38, u7040_39, u7040_42, u7040_45, u7040_46, u7040_47, u7040_48, u7040_49, u7040_50, u7040_51, u7040_54, u7040_57, u7040_58, u7040_61, u7040_62, u7040_65, u7040_66, u7040_68, u7040_69, u7040_72, u7040_73, u7040_74, u7040_77, u7040_80, u7040_83, u7040_86, u7040_87, u7040_90, u7040_93ir, u7040_94, u7040_95, u7040_96, u7040_97, u7040_98, u7040_99, u7040_102, u7040_105, u7040_106, ob_70, gt_70_0, xl_71, xs_71, ki_m12, ki_1, ki_1567, ki_1615, ki_1617, ki_1618, ki_24, ki_3, ki_48, af_x hd_7040, decide_eq_true_eq, if_true, if_false, f2_ne, f2_eq, up_ne, up_eq, kc_int, kc_ref, kc_retAddr, kc_long, kc_double, af_n, af_v, z0, z1, n_of, nz6, nz4, bI_T, bI_F, bI_01, n_lt, n_le, n_eq, n_add, n_mul, n_sub, n_clamp, n_vp, m_lt, m_le, m_eq, m_eq2, m_ltm, m_add, true_and, and_true, eq_self, if_pos, if_neg, List.length_nil, List.length_cons, Nat.reduceAdd, Nat.reduceLeDiff, Nat.zero_le, not_true_eq_false, not_false_eq_true, true_or, or_true]
  · by_cases m2 : S.op = 0
    · have m3 : S.ac = 3 := by
        by_cases e : S.ac = 3
        · exact e
        · exact absurd ⟨m2, m1, by omega⟩ hm
      simp (disch := omega) only [m_unlike R h, R.op, m2, R.ac, m3, u7040_0, u7040_1, u7040_4, u7040_7, u7040_8, u7040_11, u7040_14, u7040_15, u7040_18, u7040_19, u7040_22, u7040_25, u7040_26, u7040_27, u7040_30, u7040_32, u7040_33, u7040_36, u7040_38, u7040_39, u7040_42, u7040_45, u7040_46, u7040_47, u7040_48, u7040_49, u7040_50, u7040_51, u7040_54, u7040_57, u7040_58, u7040_61, u7040_62, u7040_65, u7040_66, u7040_68, u7040_69, u7040_72, u7040_73, u7040_74, u7040_77, u7040_80, u7040_83, u7040_86, u7040_87, u7040_90, u7040_93ir, u7040_94, u7040_95, u7040_96, u7040_97, u7040_98, u7040_99, u7040_102, u7040_105, u7040_106, ob_70, gt_70_0, xl_71, xs_71, ki_m12, ki_1, ki_1567, ki_1615, ki_1617, ki_1618, ki_24, ki_3, ki_48, af_x hd_7040, decide_eq_true_eq, if_true, if_false, f2_ne, f2_eq, up_ne, up_eq, kc_int, kc_ref, kc_retAddr, kc_long, kc_double, af_n, af_v, z0, z1, n_of, nz6, nz4, bI_T, bI_F, bI_01, n_lt, n_le, n_eq, n_add, n_mul, n_sub, n_clamp, n_vp, m_lt, m_le, m_eq, m_eq2, m_ltm, m_add, true_and, and_true, eq_self, if_pos, if_neg, List.length_nil, List.length_cons, Nat.reduceAdd, Nat.reduceLeDiff, Nat.zero_le, not_true_eq_false, not_false_eq_true, true_or, or_true]
    · simp (disch := omega) only [m_unlike R h, R.op, u7040_0, u7040_1, u7040_4, u7040_7, u7040_8, u7040_11, u7040_14, u7040_15, u7040_18, u7040_19, u7040_22, u7040_25, u7040_26, u7040_27, u7040_30, u7040_32, u7040_33, u7040_36, u7040_38, u7040_39, u7040_42, u7040_45, u7040_46, u7040_47, u7040_48, u7040_49, u7040_50, u7040_51, u7040_54, u7040_57, u7040_58, u7040_61, u7040_62, u7040_65, u7040_66, u7040_68, u7040_69, u7040_72, u7040_73, u7040_74, u7040_77, u7040_80, u7040_83, u7040_86, u7040_87, u7040_90, u7040_93ir, u7040_94, u7040_95, u7040_96, u7040_97, u7040_98, u7040_99, u7040_102, u7040_105, u7040_106, ob_70, gt_70_0, xl_71, xs_71, ki_m12, ki_1, ki_1567, ki_1615, ki_1617, ki_1618, ki_24, ki_3, ki_48, af_x hd_7040, decide_eq_true_eq, if_true, if_false, f2_ne, f2_eq, up_ne, up_eq, kc_int, kc_ref, kc_retAddr, kc_long, kc_double, af_n, af_v, z0, z1, n_of, nz6, nz4, bI_T, bI_F, bI_01, n_lt, n_le, n_eq, n_add, n_mul, n_sub, n_clamp, n_vp, m_lt, m_le, m_eq, m_eq2, m_ltm, m_add, true_and, and_true, eq_self, if_pos, if_neg, List.length_nil, List.length_cons, Nat.reduceAdd, Nat.reduceLeDiff, Nat.zero_le, not_true_eq_false, not_false_eq_true, true_or, or_true]
theorem mR_pop {a : Nat} (R : mR f S) (h : wS S) (e : S.ac = a + 1) : mR (va_up (zer (1618 + 48 * a) 48 f) 1617 (nI a)) (popS S) := by
  have h60 := h.n60
  have h3 := h.ac3
  have out : ∀ j, j ≠ 1617 → (j < 1618 + 48 * a ∨ 1618 + 48 * a + 48 ≤ j) → va_up (zer (1618 + 48 * a) 48 f) 1617 (nI a) j = f j := fun j h1 h2 => by
    rw [up_ne h1]
    unfold zer
    rw [if_neg (by omega)]
  refine mR.mk ?_ ?_ ?_ (fun e => ?_) ?_ ?_ ?_ ?_ ?_ ?_ ?_ ?_ ?_ ?_
  · rw [out _ (by omega) (by omega)]; exact R.n0
  · rw [out _ (by omega) (by omega)]; exact R.cu
  · rw [out _ (by omega) (by omega)]; exact R.op
  · rw [out _ (by omega) (by omega)]; exact R.mg e
  · show _ = nI (S.ac - 1)
    rw [up_eq, e]; rfl
  · rw [out _ (by omega) (by omega)]; exact R.cf
  · intro k hk
    have hk' : k < S.n := hk
    rw [out _ (by omega) (by omega)]; exact R.p k hk
  · intro k hk
    have hk' : k < S.n := hk
    rw [out _ (by omega) (by omega)]; exact R.q k hk
  · intro k hk j hj
    have hk' : k < S.n := hk
    rw [out _ (by omega) (by omega)]; exact R.T k hk j hj
  · intro j hj
    rw [out _ (by omega) (by omega)]; exact R.br j hj
  · intro j hj
    rw [out _ (by omega) (by omega)]; exact R.W j hj
  · intro j hj
    rw [out _ (by omega) (by omega)]; exact R.O j hj
  · intro j hj k hk
    have hj' : j < S.ac - 1 := hj
    rw [out _ (by omega) (by omega)]; exact R.ah j (by omega) k hk
  · intro j hj k hk
    have hj' : j < S.ac - 1 := hj
    rw [out _ (by omega) (by omega)]; exact R.aT j (by omega) k hk
theorem l_goBackIn {a m : Nat} (ha : a < 3) (e : f 1617 = nI (a + 1)) : ∀ (k i : Nat), i + k = 48 → am_g (d + 3) X am_m7041 85 [.ref 70, .int (nI (1618 + 48 * a)), .int (nI m), .int (nI i)] [] (am_Z cl sl F (va_up A 71 (zer (1618 + 48 * a) i f)) L) P = P (.inl (some (.int (nI m)))) (am_Z cl sl F (va_up A 71 (va_up (zer (1618 + 48 * a) 48 f) 1617 (nI a))) L) := by
  intro k
  induction k with
  | zero =>
    intro i hi
    obtain rfl : i = 48 := by omega
    have e2 : zer (1618 + 48 * a) 48 f 1617 = nI (a + 1) := by
      unfold zer
      rw [if_neg (by omega)]; exact e
    rw [u7041_85]
    simp (disch := omega) only [f2_up, e2, Nat.add_sub_cancel, u7041_0, u7041_3, u7041_5, u7041_6, u7041_9, u7041_12, u7041_13, u7041_14, u7041_15, u7041_16, u7041_17, u7041_18, u7041_19, u7041_22, u7041_25, u7041_26, u7041_29, u7041_30, u7041_33, u7041_36, u7041_37, u7041_40, u7041_41, u7041_42, u7041_43, u7041_45, u7041_46, u7041_49, u7041_52, u7041_55, u7041_57, u7041_58, u7041_59, u7041_60, u7041_61, u7041_63, u7041_64, u7041_67, u7041_70, u7041_71, u7041_72, u7041_73, u7041_74, u7041_75, u7041_77, u7041_78, u7041_81, u7041_82, u7041_83, u7041_84, u7041_86, u7041_88, u7041_91, u7041_92, u7041_95, u7041_96, u7041_97, u7041_98, u7041_99, u7041_100, u7041_103, u7041_106, u7041_107, u7041_110, u7041_113ir, u7041_114, u7041_115, u7041_116, u7041_117, u7041_118, u7041_119, gt_70_0, ob_70, xl_71, xs_71, ki_m12, ki_0, ki_1, ki_1567, ki_1615, ki_1617, ki_1618, ki_24, ki_48, af_x hd_7041, decide_eq_true_eq, if_true, if_false, f2_ne, f2_eq, up_ne, up_eq, kc_int, kc_ref, kc_retAddr, kc_long, kc_double, af_n, af_v, z0, z1, n_of, nz6, nz4, bI_T, bI_F, bI_01, n_lt, n_le, n_eq, n_add, n_mul, n_sub, n_clamp, n_vp, m_lt, m_le, m_eq, m_eq2, m_ltm, m_add, true_and, and_true, eq_self, if_pos, if_neg, List.length_nil, List.length_cons, Nat.reduceAdd, Nat.reduceLeDiff, Nat.zero_le, not_true_eq_false, not_false_eq_true, true_or, or_true]
  | succ k ih =>
    intro i hi
    rw [u7041_85]
    simp (disch := omega) only [f2_up, zer_s, u7041_0, u7041_3, u7041_5, u7041_6, u7041_9, u7041_12, u7041_13, u7041_14, u7041_15, u7041_16, u7041_17, u7041_18, u7041_19, u7041_22, u7041_25, u7041_26, u7041_29, u7041_30, u7041_33, u7041_36, u7041_37, u7041_40, u7041_41, u7041_42, u7041_43, u7041_45, u7041_46, u7041_49, u7041_52, u7041_55, u7041_57, u7041_58, u7041_59, u7041_60, u7041_61, u7041_63, u7041_64, u7041_67, u7041_70, u7041_71, u7041_72, u7041_73, u7041_74, u7041_75, u7041_77, u7041_78, u7041_81, u7041_82, u7041_83, u7041_84, u7041_86, u7041_88, u7041_91, u7041_92, u7041_95, u7041_96, u7041_97, u7041_98, u7041_99, u7041_100, u7041_103, u7041_106, u7041_107, u7041_110, u7041_113ir, u7041_114, u7041_115, u7041_116, u7041_117, u7041_118, u7041_119, gt_70_0, ob_70, xl_71, xs_71, ki_m12, ki_0, ki_1, ki_1567, ki_1615, ki_1617, ki_1618, ki_24, ki_48, af_x hd_7041, decide_eq_true_eq, if_true, if_false, f2_ne, f2_eq, up_ne, up_eq, kc_int, kc_ref, kc_retAddr, kc_long, kc_double, af_n, af_v, z0, z1, n_of, nz6, nz4, bI_T, bI_F, bI_01, n_lt, n_le, n_eq, n_add, n_mul, n_sub, n_clamp, n_vp, m_lt, m_le, m_eq, m_eq2, m_ltm, m_add, true_and, and_true, eq_self, if_pos, if_neg, List.length_nil, List.length_cons, Nat.reduceAdd, Nat.reduceLeDiff, Nat.zero_le, not_true_eq_false, not_false_eq_true, true_or, or_true]
    exact ih (i + 1) (by omega)
theorem g_backIn (R : mR (A 71) S) (h : wS S) (hm : mayT S) : gO X (d + 4) 7041 [.ref 70] cl sl F A L (nI (cnt (kB (S.T (S.ah (S.ac - 1))) (S.aT (S.ac - 1)) S.W) 24)) (tbS S) := by
  have zz := zO_tb hm
  obtain ⟨m1, m2, m3⟩ := hm
  have h3 := h.ac3
  obtain ⟨a, ha⟩ : ∃ a, S.ac = a + 1 := ⟨S.ac - 1, by omega⟩
  have ea : S.ac - 1 = a := by omega
  unfold tbS at zz ⊢
  rw [ea] at zz m3 ⊢
  have a1 := at_ah R h (j := a) (by omega)
  have b1 := at_aT R h (j := a) (by omega)
  have w1 : wS (takeS S (S.T (S.ah a)) (S.aT a) S.W) := wS_take h (h.aTv _ (by omega)) h.Wv
  have R1 : mR (coR (S.T (S.ah a)) (S.aT a) S.W 24 (A 71)) (takeS S (S.T (S.ah a)) (S.aT a) S.W) := mR_take R h
  have c1 := cnt_le (kB (S.T (S.ah a)) (S.aT a) S.W) 24
  refine gO_L zz ⟨_, fun P => ?_, mR_pop R1 w1 ha⟩
  have hl := l_goBackIn (d := d) (X := X) (cl := cl) (sl := sl) (F := F) (A := A) (L := L) (P := P) (m := cnt (kB (S.T (S.ah a)) (S.aT a) S.W) 24) (f := coR (S.T (S.ah a)) (S.aT a) S.W 24 (A 71)) (a := a) (by omega) (by rw [← ha]; exact R1.ac) 48 0 rfl
  rw [zer_0] at hl
  rw [c7041]
  simp (disch := omega) only [R.ac, ha, Nat.add_sub_cancel, R.op, m2, m_clashing a1 b1 (at_W R h), m3, m_coming a1 b1 (at_W R h), m_combines a1 b1 (at_W R h), Nat.add_zero, u7041_0, u7041_3, u7041_5, u7041_6, u7041_9, u7041_12, u7041_13, u7041_14, u7041_15, u7041_16, u7041_17, u7041_18, u7041_19, u7041_22, u7041_25, u7041_26, u7041_29, u7041_30, u7041_33, u7041_36, u7041_37, u7041_40, u7041_41, u7041_42, u7041_43, u7041_45, u7041_46, u7041_49, u7041_52, u7041_55, u7041_57, u7041_58, u7041_59, u7041_60, u7041_61, u7041_63, u7041_64, u7041_67, u7041_70, u7041_71, u7041_72, u7041_73, u7041_74, u7041_75, u7041_77, u7041_78, u7041_81, u7041_82, u7041_83, u7041_84, u7041_86, u7041_88, u7041_91, u7041_92, u7041_95, u7041_96, u7041_97, u7041_98, u7041_99, u7041_100, u7041_103, u7041_106, u7041_107, u7041_110, u7041_113ir, u7041_114, u7041_115, u7041_116, u7041_117, u7041_118, u7041_119, gt_70_0, ob_70, xl_71, xs_71, ki_m12, ki_0, ki_1, ki_1567, ki_1615, ki_1617, ki_1618, ki_24, ki_48, af_x hd_7041, decide_eq_true_eq, if_true, if_false, f2_ne, f2_eq, up_ne, up_eq, kc_int, kc_ref, kc_retAddr, kc_long, kc_double, af_n, af_v, z0, z1, n_of, nz6, nz4, bI_T, bI_F, bI_01, n_lt, n_le, n_eq, n_add, n_mul, n_sub, n_clamp, n_vp, m_lt, m_le, m_eq, m_eq2, m_ltm, m_add, true_and, and_true, eq_self, if_pos, if_neg, List.length_nil, List.length_cons, Nat.reduceAdd, Nat.reduceLeDiff, Nat.zero_le, not_true_eq_false, not_false_eq_true, true_or, or_true]
  exact hl
theorem g_backIn_no (R : mR (A 71) S) (h : wS S) (z : zO S) (hm : ¬ mayT S) : gO X (d + 4) 7041 [.ref 70] cl sl F A L (-nI 12) S := gO_no R z fun P => by
  have h3 := h.ac3
  have ho := h.op3
  rw [c7041]
  by_cases m1 : S.ac = 0
  · simp (disch := omega) only [R.ac, m1, pk_sub1, pk_0, u7041_0, u7041_3, u7041_5, u7041_6, u7041_9, u7041_12, u7041_13, u7041_14, u7041_15, u7041_16, u7041_17, u7041_18, u7041_19, u7041_22, u7041_25, u7041_26, u7041_29, u7041_30, u7041_33, u7041_36, u7041_37, u7041_40, u7041_41, u7041_42, u7041_43, u7041_45, u7041_46, u7041_49, u7041_52, u7041_55, u7041_57, u7041_58, u7041_59, u7041_60, u7041_61, u7041_63, u7041_64, u7041_67, u7041_70, u7041_71, u7041_72, u7041_73, u7041_74, u7041_75, u7041_77, u7041_78, u7041_81, u7041_82, u7041_83, u7041_84, u7041_86, u7041_88, u7041_91, u7041_92, u7041_95, u7041_96, u7041_97, u7041_98, u7041_99, u7041_100, u7041_103, u7041_106, u7041_107, u7041_110, u7041_113ir, u7041_114, u7041_115, u7041_116, u7041_117, u7041_118, u7041_119, gt_70_0, ob_70, xl_71, xs_71, ki_m12, ki_0, ki_1, ki_1567, ki_1615, ki_1617, ki_1618, ki_24, ki_48, af_x hd_7041, decide_eq_true_eq, if_true, if_false, f2_ne, f2_eq, up_ne, up_eq, kc_int, kc_ref, kc_retAddr, kc_long, kc_double, af_n, af_v, z0, z1, n_of, nz6, nz4, bI_T, bI_F, bI_01, n_lt, n_le, n_eq, n_add, n_mul, n_sub, n_clamp, n_vp, m_lt, m_le, m_eq, m_eq2, m_ltm, m_add, true_and, and_true, eq_self, if_pos, if_neg, List.length_nil, List.length_cons, Nat.reduceAdd, Nat.reduceLeDiff, Nat.zero_le, not_true_eq_false, not_false_eq_true, true_or, or_true]
  · obtain ⟨a, ha⟩ : ∃ a, S.ac = a + 1 := ⟨S.ac - 1, by omega⟩
    have ea : S.ac - 1 = a := by omega
    by_cases m2 : S.op = 0
    · have a1 := at_ah R h (j := a) (by omega)
      have b1 := at_aT R h (j := a) (by omega)
      have c1 := cnt_le (kC (S.T (S.ah a)) (S.aT a) S.W) 24
      have m3 : ¬ cnt (kC (S.T (S.ah a)) (S.aT a) S.W) 24 = 0 := fun z => hm ⟨m1, m2, by rw [ea]; exact z⟩
      simp (disch := omega) only [R.ac, ha, Nat.add_sub_cancel, R.op, m2, m_clashing a1 b1 (at_W R h), u7041_0, u7041_3, u7041_5, u7041_6, u7041_9, u7041_12, u7041_13, u7041_14, u7041_15, u7041_16, u7041_17, u7041_18, u7041_19, u7041_22, u7041_25, u7041_26, u7041_29, u7041_30, u7041_33, u7041_36, u7041_37, u7041_40, u7041_41, u7041_42, u7041_43, u7041_45, u7041_46, u7041_49, u7041_52, u7041_55, u7041_57, u7041_58, u7041_59, u7041_60, u7041_61, u7041_63, u7041_64, u7041_67, u7041_70, u7041_71, u7041_72, u7041_73, u7041_74, u7041_75, u7041_77, u7041_78, u7041_81, u7041_82, u7041_83, u7041_84, u7041_86, u7041_88, u7041_91, u7041_92, u7041_95, u7041_96, u7041_97, u7041_98, u7041_99, u7041_100, u7041_103, u7041_106, u7041_107, u7041_110, u7041_113ir, u7041_114, u7041_115, u7041_116, u7041_117, u7041_118, u7041_119, gt_70_0, ob_70, xl_71, xs_71, ki_m12, ki_0, ki_1, ki_1567, ki_1615, ki_1617, ki_1618, ki_24, ki_48, af_x hd_7041, decide_eq_true_eq, if_true, if_false, f2_ne, f2_eq, up_ne, up_eq, kc_int, kc_ref, kc_retAddr, kc_long, kc_double, af_n, af_v, z0, z1, n_of, nz6, nz4, bI_T, bI_F, bI_01, n_lt, n_le, n_eq, n_add, n_mul, n_sub, n_clamp, n_vp, m_lt, m_le, m_eq, m_eq2, m_ltm, m_add, true_and, and_true, eq_self, if_pos, if_neg, List.length_nil, List.length_cons, Nat.reduceAdd, Nat.reduceLeDiff, Nat.zero_le, not_true_eq_false, not_false_eq_true, true_or, or_true]
    · simp (disch := omega) only [R.ac, ha, Nat.add_sub_cancel, R.op, u7041_0, u7041_3, u7041_5, u7041_6, u7041_9, u7041_12, u7041_13, u7041_14, u7041_15, u7041_16, u7041_17, u7041_18, u7041_19, u7041_22, u7041_25, u7041_26, u7041_29, u7041_30, u7041_33, u7041_36, u7041_37, u7041_40, u7041_41, u7041_42, u7041_43, u7041_45, u7041_46, u7041_49, u7041_52, u7041_55, u7041_57, u7041_58, u7041_59, u7041_60, u7041_61, u7041_63, u7041_64, u7041_67, u7041_70, u7041_71, u7041_72, u7041_73, u7041_74, u7041_75, u7041_77, u7041_78, u7041_81, u7041_82, u7041_83, u7041_84, u7041_86, u7041_88, u7041_91, u7041_92, u7041_95, u7041_96, u7041_97, u7041_98, u7041_99, u7041_100, u7041_103, u7041_106, u7041_107, u7041_110, u7041_113ir, u7041_114, u7041_115, u7041_116, u7041_117, u7041_118, u7041_119, gt_70_0, ob_70, xl_71, xs_71, ki_m12, ki_0, ki_1, ki_1567, ki_1615, ki_1617, ki_1618, ki_24, ki_48, af_x hd_7041, decide_eq_true_eq, if_true, if_false, f2_ne, f2_eq, up_ne, up_eq, kc_int, kc_ref, kc_retAddr, kc_long, kc_double, af_n, af_v, z0, z1, n_of, nz6, nz4, bI_T, bI_F, bI_01, n_lt, n_le, n_eq, n_add, n_mul, n_sub, n_clamp, n_vp, m_lt, m_le, m_eq, m_eq2, m_ltm, m_add, true_and, and_true, eq_self, if_pos, if_neg, List.length_nil, List.length_cons, Nat.reduceAdd, Nat.reduceLeDiff, Nat.zero_le, not_true_eq_false, not_false_eq_true, true_or, or_true]
end MD
