/-! THE MODEL: orders carried out -/
section MQ
variable {d cl sl : Nat} {X : am_X} {F A : Nat → Nat → Int32} {L : Nat → Nat → Int64} {P : am_Q} {G : Fu} {s len : Nat} {S : Ab} {pd : Nat → Nat}
theorem ng11 : (-nI 11 < nI 0) = True := eq_true (by decide)
theorem ng12 : (-nI 12 < nI 0) = True := eq_true (by decide)
theorem zO_cur (z : zO S) {b : Nat} : zO (curB S b) := z
theorem mrgN_lt {b : Nat} : mrgN S b < 1000 := by
  unfold mrgN
  split
  · decide
  · have := cnt_le (kC (S.T (basN S (S.br b - 1))) (S.T (S.br b - 1)) (S.T (hd S))) 24
    omega
theorem m_does (R : mR (A 71) S) (h : wS S) (z : zO S) (hs : s < len) (ok : (tO len pd s).1 = true) (o : ordF F len pd s) : (oM S (hr len pd s) (orX len pd s) → ∃ v, v < 1000 ∧ gO X (d + 6) 7079 [.ref 70] cl sl F A L (nI v) (oN len pd s S)) ∧ (¬ oM S (hr len pd s) (orX len pd s) → ∃ v, (v = -nI 11 ∨ v = -nI 12) ∧ gO X (d + 6) 7079 [.ref 70] cl sl F A L v S) := by
  have h60 := h.n60
  obtain ⟨-, w1, w2, w3, w4⟩ := tO_w hs ok
  obtain ⟨o1, o2, o3, o4⟩ := o
  unfold oM oN oS
  by_cases e0 : hr len pd s = 99
  · rw [if_pos e0, if_pos e0]
    rw [e0] at o1
    refine ⟨fun hm => ⟨S.n, by omega, gO_pre Lf_id (g_commit (d := d + 1) (X := X) (cl := cl) (sl := sl) (F := F) (L := L) R h hm) fun r L9 e9 P => ?_⟩, fun hm => ⟨-nI 12, Or.inr rfl, gO_pre Lf_id (g_commit_no (d := d + 1) (X := X) (cl := cl) (sl := sl) (F := F) (L := L) R h z hm) fun r L9 e9 P => ?_⟩⟩
    · rw [c7079]
      simp (disch := omega) only [o1, e9, sw7079_97, sw7079_98, sw7079_99, sw7079_109, sw7079_112, sw7079_114, sw7079_115, sw7079_lo, u7079_0, u7079_1, u7079_4, u7079_96, u7079_97, u7079_100, u7079_101, u7079_102, u7079_105, u7079_106, u7079_107, u7079_110, u7079_111, u7079_112, u7079_113, u7079_116, u7079_119, u7079_120, u7079_121, u7079_122, u7079_125, u7079_128, u7079_129, u7079_130, u7079_131, u7079_134, u7079_135, u7079_138, u7079_139, u7079_140, u7079_141, u7079_144, u7079_145, u7079_148, u7079_149, u7079_150, u7079_151, u7079_154, u7079_155, u7079_158, u7079_159, u7079_162, u7079_165, gt_70_12, ob_70, gt_70_13, gt_70_14, gt_70_15, ki_0, ki_1, af_x hd_7079, decide_eq_true_eq, if_true, if_false, f2_ne, f2_eq, up_ne, up_eq, kc_int, kc_ref, kc_retAddr, kc_long, kc_double, af_n, af_v, z0, z1, n_of, nz6, nz4, bI_T, bI_F, bI_01, n_lt, n_le, n_eq, n_add, n_mul, n_sub, n_clamp, n_vp, m_lt, m_le, m_eq, m_eq2, m_ltm, m_add, true_and, and_true, eq_self, if_pos, if_neg, List.length_nil, List.length_cons, Nat.reduceAdd, Nat.reduceLeDiff, Nat.zero_le, not_true_eq_false, not_false_eq_true, true_or, or_true]
    · rw [c7079]
      simp (disch := omega) only [o1, e9, sw7079_97, sw7079_98, sw7079_99, sw7079_109, sw7079_112, sw7079_114, sw7079_115, sw7079_lo, u7079_0, u7079_1, u7079_4, u7079_96, u7079_97, u7079_100, u7079_101, u7079_102, u7079_105, u7079_106, u7079_107, u7079_110, u7079_111, u7079_112, u7079_113, u7079_116, u7079_119, u7079_120, u7079_121, u7079_122, u7079_125, u7079_128, u7079_129, u7079_130, u7079_131, u7079_134, u7079_135, u7079_138, u7079_139, u7079_140, u7079_141, u7079_144, u7079_145, u7079_148, u7079_149, u7079_150, u7079_151, u7079_154, u7079_155, u7079_158, u7079_159, u7079_162, u7079_165, gt_70_12, ob_70, gt_70_13, gt_70_14, gt_70_15, ki_0, ki_1, af_x hd_7079, decide_eq_true_eq, if_true, if_false, f2_ne, f2_eq, up_ne, up_eq, kc_int, kc_ref, kc_retAddr, kc_long, kc_double, af_n, af_v, z0, z1, n_of, nz6, nz4, bI_T, bI_F, bI_01, n_lt, n_le, n_eq, n_add, n_mul, n_sub, n_clamp, n_vp, m_lt, m_le, m_eq, m_eq2, m_ltm, m_add, true_and, and_true, eq_self, if_pos, if_neg, List.length_nil, List.length_cons, Nat.reduceAdd, Nat.reduceLeDiff, Nat.zero_le, not_true_eq_false, not_false_eq_true, true_or, or_true]
  rw [if_neg e0, if_neg e0]
  by_cases e1 : hr len pd s = 98
  · rw [if_pos e1, if_pos e1]
    rw [e1] at o1
    refine ⟨fun hm => ⟨lfN S.br 6 0 - 1, by have := lfN_le S.br 6 0; omega, gO_pre Lf_id (g_branch (d := d + 1) (X := X) (cl := cl) (sl := sl) (F := F) (L := L) R h z hm) fun r L9 e9 P => ?_⟩, fun hm => ⟨-nI 12, Or.inr rfl, gO_pre Lf_id (g_branch_no (d := d + 1) (X := X) (cl := cl) (sl := sl) (F := F) (L := L) R h z (Classical.byContradiction hm)) fun r L9 e9 P => ?_⟩⟩
    · rw [c7079]
      simp (disch := omega) only [o1, e9, sw7079_97, sw7079_98, sw7079_99, sw7079_109, sw7079_112, sw7079_114, sw7079_115, sw7079_lo, u7079_0, u7079_1, u7079_4, u7079_96, u7079_97, u7079_100, u7079_101, u7079_102, u7079_105, u7079_106, u7079_107, u7079_110, u7079_111, u7079_112, u7079_113, u7079_116, u7079_119, u7079_120, u7079_121, u7079_122, u7079_125, u7079_128, u7079_129, u7079_130, u7079_131, u7079_134, u7079_135, u7079_138, u7079_139, u7079_140, u7079_141, u7079_144, u7079_145, u7079_148, u7079_149, u7079_150, u7079_151, u7079_154, u7079_155, u7079_158, u7079_159, u7079_162, u7079_165, gt_70_12, ob_70, gt_70_13, gt_70_14, gt_70_15, ki_0, ki_1, af_x hd_7079, decide_eq_true_eq, if_true, if_false, f2_ne, f2_eq, up_ne, up_eq, kc_int, kc_ref, kc_retAddr, kc_long, kc_double, af_n, af_v, z0, z1, n_of, nz6, nz4, bI_T, bI_F, bI_01, n_lt, n_le, n_eq, n_add, n_mul, n_sub, n_clamp, n_vp, m_lt, m_le, m_eq, m_eq2, m_ltm, m_add, true_and, and_true, eq_self, if_pos, if_neg, List.length_nil, List.length_cons, Nat.reduceAdd, Nat.reduceLeDiff, Nat.zero_le, not_true_eq_false, not_false_eq_true, true_or, or_true]
    · rw [c7079]
      simp (disch := omega) only [o1, e9, sw7079_97, sw7079_98, sw7079_99, sw7079_109, sw7079_112, sw7079_114, sw7079_115, sw7079_lo, u7079_0, u7079_1, u7079_4, u7079_96, u7079_97, u7079_100, u7079_101, u7079_102, u7079_105, u7079_106, u7079_107, u7079_110, u7079_111, u7079_112, u7079_113, u7079_116, u7079_119, u7079_120, u7079_121, u7079_122, u7079_125, u7079_128, u7079_129, u7079_130, u7079_131, u7079_134, u7079_135, u7079_138, u7079_139, u7079_140, u7079_141, u7079_144, u7079_145, u7079_148, u7079_149, u7079_150, u7079_151, u7079_154, u7079_155, u7079_158, u7079_159, u7079_162, u7079_165, gt_70_12, ob_70, gt_70_13, gt_70_14, gt_70_15, ki_0, ki_1, af_x hd_7079, decide_eq_true_eq, if_true, if_false, f2_ne, f2_eq, up_ne, up_eq, kc_int, kc_ref, kc_retAddr, kc_long, kc_double, af_n, af_v, z0, z1, n_of, nz6, nz4, bI_T, bI_F, bI_01, n_lt, n_le, n_eq, n_add, n_mul, n_sub, n_clamp, n_vp, m_lt, m_le, m_eq, m_eq2, m_ltm, m_add, true_and, and_true, eq_self, if_pos, if_neg, List.length_nil, List.length_cons, Nat.reduceAdd, Nat.reduceLeDiff, Nat.zero_le, not_true_eq_false, not_false_eq_true, true_or, or_true]
  rw [if_neg e1, if_neg e1]
  by_cases e2 : hr len pd s = 97
  · rw [if_pos e2, if_pos e2]
    rw [e2] at o1
    refine ⟨fun hm => ⟨nco S, by have : nco S ≤ 24 := cnt_le _ _; omega, gO_pre Lf_id (g_abort (d := d + 1) (X := X) (cl := cl) (sl := sl) (F := F) (L := L) R h hm) fun r L9 e9 P => ?_⟩, fun hm => ⟨-nI 12, Or.inr rfl, gO_pre Lf_id (g_abort_no (d := d + 1) (X := X) (cl := cl) (sl := sl) (F := F) (L := L) R z (Classical.byContradiction hm)) fun r L9 e9 P => ?_⟩⟩
    · rw [c7079]
      simp (disch := omega) only [o1, e9, sw7079_97, sw7079_98, sw7079_99, sw7079_109, sw7079_112, sw7079_114, sw7079_115, sw7079_lo, u7079_0, u7079_1, u7079_4, u7079_96, u7079_97, u7079_100, u7079_101, u7079_102, u7079_105, u7079_106, u7079_107, u7079_110, u7079_111, u7079_112, u7079_113, u7079_116, u7079_119, u7079_120, u7079_121, u7079_122, u7079_125, u7079_128, u7079_129, u7079_130, u7079_131, u7079_134, u7079_135, u7079_138, u7079_139, u7079_140, u7079_141, u7079_144, u7079_145, u7079_148, u7079_149, u7079_150, u7079_151, u7079_154, u7079_155, u7079_158, u7079_159, u7079_162, u7079_165, gt_70_12, ob_70, gt_70_13, gt_70_14, gt_70_15, ki_0, ki_1, af_x hd_7079, decide_eq_true_eq, if_true, if_false, f2_ne, f2_eq, up_ne, up_eq, kc_int, kc_ref, kc_retAddr, kc_long, kc_double, af_n, af_v, z0, z1, n_of, nz6, nz4, bI_T, bI_F, bI_01, n_lt, n_le, n_eq, n_add, n_mul, n_sub, n_clamp, n_vp, m_lt, m_le, m_eq, m_eq2, m_ltm, m_add, true_and, and_true, eq_self, if_pos, if_neg, List.length_nil, List.length_cons, Nat.reduceAdd, Nat.reduceLeDiff, Nat.zero_le, not_true_eq_false, not_false_eq_true, true_or, or_true]
    · rw [c7079]
      simp (disch := omega) only [o1, e9, sw7079_97, sw7079_98, sw7079_99, sw7079_109, sw7079_112, sw7079_114, sw7079_115, sw7079_lo, u7079_0, u7079_1, u7079_4, u7079_96, u7079_97, u7079_100, u7079_101, u7079_102, u7079_105, u7079_106, u7079_107, u7079_110, u7079_111, u7079_112, u7079_113, u7079_116, u7079_119, u7079_120, u7079_121, u7079_122, u7079_125, u7079_128, u7079_129, u7079_130, u7079_131, u7079_134, u7079_135, u7079_138, u7079_139, u7079_140, u7079_141, u7079_144, u7079_145, u7079_148, u7079_149, u7079_150, u7079_151, u7079_154, u7079_155, u7079_158, u7079_159, u7079_162, u7079_165, gt_70_12, ob_70, gt_70_13, gt_70_14, gt_70_15, ki_0, ki_1, af_x hd_7079, decide_eq_true_eq, if_true, if_false, f2_ne, f2_eq, up_ne, up_eq, kc_int, kc_ref, kc_retAddr, kc_long, kc_double, af_n, af_v, z0, z1, n_of, nz6, nz4, bI_T, bI_F, bI_01, n_lt, n_le, n_eq, n_add, n_mul, n_sub, n_clamp, n_vp, m_lt, m_le, m_eq, m_eq2, m_ltm, m_add, true_and, and_true, eq_self, if_pos, if_neg, List.length_nil, List.length_cons, Nat.reduceAdd, Nat.reduceLeDiff, Nat.zero_le, not_true_eq_false, not_false_eq_true, true_or, or_true]
  rw [if_neg e2, if_neg e2]
  by_cases e3 : hr len pd s = 115
  · rw [if_pos e3, if_pos e3]
    rw [e3] at o1
    have ex : orX len pd s = hr len pd (s + 1) - 48 := by unfold orX; rw [if_neg (by omega), if_pos (Or.inl e3)]
    have o13 := o3 (Or.inl e3)
    have hx := (w2 (Or.inl e3)).2
    rw [← ex] at o13 hx
    refine ⟨fun hm => ⟨S.br (orX len pd s) - 1, by have := h.brn _ hx; omega, gO_pre Lf_id (g_switch (d := d) (X := X) (cl := cl) (sl := sl) (F := F) (L := L) R h z hx hm) fun r L9 e9 P => ?_⟩, fun hm => ⟨-nI 12, Or.inr rfl, gO_pre Lf_id (g_switch_no (d := d) (X := X) (cl := cl) (sl := sl) (F := F) (L := L) R h z hx hm) fun r L9 e9 P => ?_⟩⟩
    · rw [c7079]
      simp (disch := omega) only [o1, o13, e9, sw7079_97, sw7079_98, sw7079_99, sw7079_109, sw7079_112, sw7079_114, sw7079_115, sw7079_lo, u7079_0, u7079_1, u7079_4, u7079_96, u7079_97, u7079_100, u7079_101, u7079_102, u7079_105, u7079_106, u7079_107, u7079_110, u7079_111, u7079_112, u7079_113, u7079_116, u7079_119, u7079_120, u7079_121, u7079_122, u7079_125, u7079_128, u7079_129, u7079_130, u7079_131, u7079_134, u7079_135, u7079_138, u7079_139, u7079_140, u7079_141, u7079_144, u7079_145, u7079_148, u7079_149, u7079_150, u7079_151, u7079_154, u7079_155, u7079_158, u7079_159, u7079_162, u7079_165, gt_70_12, ob_70, gt_70_13, gt_70_14, gt_70_15, ki_0, ki_1, af_x hd_7079, decide_eq_true_eq, if_true, if_false, f2_ne, f2_eq, up_ne, up_eq, kc_int, kc_ref, kc_retAddr, kc_long, kc_double, af_n, af_v, z0, z1, n_of, nz6, nz4, bI_T, bI_F, bI_01, n_lt, n_le, n_eq, n_add, n_mul, n_sub, n_clamp, n_vp, m_lt, m_le, m_eq, m_eq2, m_ltm, m_add, true_and, and_true, eq_self, if_pos, if_neg, List.length_nil, List.length_cons, Nat.reduceAdd, Nat.reduceLeDiff, Nat.zero_le, not_true_eq_false, not_false_eq_true, true_or, or_true]
    · rw [c7079]
      simp (disch := omega) only [o1, o13, e9, sw7079_97, sw7079_98, sw7079_99, sw7079_109, sw7079_112, sw7079_114, sw7079_115, sw7079_lo, u7079_0, u7079_1, u7079_4, u7079_96, u7079_97, u7079_100, u7079_101, u7079_102, u7079_105, u7079_106, u7079_107, u7079_110, u7079_111, u7079_112, u7079_113, u7079_116, u7079_119, u7079_120, u7079_121, u7079_122, u7079_125, u7079_128, u7079_129, u7079_130, u7079_131, u7079_134, u7079_135, u7079_138, u7079_139, u7079_140, u7079_141, u7079_144, u7079_145, u7079_148, u7079_149, u7079_150, u7079_151, u7079_154, u7079_155, u7079_158, u7079_159, u7079_162, u7079_165, gt_70_12, ob_70, gt_70_13, gt_70_14, gt_70_15, ki_0, ki_1, af_x hd_7079, decide_eq_true_eq, if_true, if_false, f2_ne, f2_eq, up_ne, up_eq, kc_int, kc_ref, kc_retAddr, kc_long, kc_double, af_n, af_v, z0, z1, n_of, nz6, nz4, bI_T, bI_F, bI_01, n_lt, n_le, n_eq, n_add, n_mul, n_sub, n_clamp, n_vp, m_lt, m_le, m_eq, m_eq2, m_ltm, m_add, true_and, and_true, eq_self, if_pos, if_neg, List.length_nil, List.length_cons, Nat.reduceAdd, Nat.reduceLeDiff, Nat.zero_le, not_true_eq_false, not_false_eq_true, true_or, or_true]
  rw [if_neg e3, if_neg e3]
  by_cases e4 : hr len pd s = 109
  · rw [if_pos e4, if_pos e4]
    rw [e4] at o1
    have ex : orX len pd s = hr len pd (s + 1) - 48 := by unfold orX; rw [if_neg (by omega), if_pos (Or.inr e4)]
    have o13 := o3 (Or.inr e4)
    have hx := (w2 (Or.inr e4)).2
    rw [← ex] at o13 hx
    refine ⟨fun hm => ⟨mrgN S (orX len pd s), mrgN_lt, gO_pre Lf_id (g_merge (d := d) (X := X) (cl := cl) (sl := sl) (F := F) (L := L) R h z hx hm) fun r L9 e9 P => ?_⟩, fun hm => ⟨-nI 12, Or.inr rfl, gO_pre Lf_id (g_merge_no (d := d) (X := X) (cl := cl) (sl := sl) (F := F) (L := L) R h z hx hm) fun r L9 e9 P => ?_⟩⟩
    · rw [c7079]
      simp (disch := omega) only [o1, o13, e9, sw7079_97, sw7079_98, sw7079_99, sw7079_109, sw7079_112, sw7079_114, sw7079_115, sw7079_lo, u7079_0, u7079_1, u7079_4, u7079_96, u7079_97, u7079_100, u7079_101, u7079_102, u7079_105, u7079_106, u7079_107, u7079_110, u7079_111, u7079_112, u7079_113, u7079_116, u7079_119, u7079_120, u7079_121, u7079_122, u7079_125, u7079_128, u7079_129, u7079_130, u7079_131, u7079_134, u7079_135, u7079_138, u7079_139, u7079_140, u7079_141, u7079_144, u7079_145, u7079_148, u7079_149, u7079_150, u7079_151, u7079_154, u7079_155, u7079_158, u7079_159, u7079_162, u7079_165, gt_70_12, ob_70, gt_70_13, gt_70_14, gt_70_15, ki_0, ki_1, af_x hd_7079, decide_eq_true_eq, if_true, if_false, f2_ne, f2_eq, up_ne, up_eq, kc_int, kc_ref, kc_retAddr, kc_long, kc_double, af_n, af_v, z0, z1, n_of, nz6, nz4, bI_T, bI_F, bI_01, n_lt, n_le, n_eq, n_add, n_mul, n_sub, n_clamp, n_vp, m_lt, m_le, m_eq, m_eq2, m_ltm, m_add, true_and, and_true, eq_self, if_pos, if_neg, List.length_nil, List.length_cons, Nat.reduceAdd, Nat.reduceLeDiff, Nat.zero_le, not_true_eq_false, not_false_eq_true, true_or, or_true]
    · rw [c7079]
      simp (disch := omega) only [o1, o13, e9, sw7079_97, sw7079_98, sw7079_99, sw7079_109, sw7079_112, sw7079_114, sw7079_115, sw7079_lo, u7079_0, u7079_1, u7079_4, u7079_96, u7079_97, u7079_100, u7079_101, u7079_102, u7079_105, u7079_106, u7079_107, u7079_110, u7079_111, u7079_112, u7079_113, u7079_116, u7079_119, u7079_120, u7079_121, u7079_122, u7079_125, u7079_128, u7079_129, u7079_130, u7079_131, u7079_134, u7079_135, u7079_138, u7079_139, u7079_140, u7079_141, u7079_144, u7079_145, u7079_148, u7079_149, u7079_150, u7079_151, u7079_154, u7079_155, u7079_158, u7079_159, u7079_162, u7079_165, gt_70_12, ob_70, gt_70_13, gt_70_14, gt_70_15, ki_0, ki_1, af_x hd_7079, decide_eq_true_eq, if_true, if_false, f2_ne, f2_eq, up_ne, up_eq, kc_int, kc_ref, kc_retAddr, kc_long, kc_double, af_n, af_v, z0, z1, n_of, nz6, nz4, bI_T, bI_F, bI_01, n_lt, n_le, n_eq, n_add, n_mul, n_sub, n_clamp, n_vp, m_lt, m_le, m_eq, m_eq2, m_ltm, m_add, true_and, and_true, eq_self, if_pos, if_neg, List.length_nil, List.length_cons, Nat.reduceAdd, Nat.reduceLeDiff, Nat.zero_le, not_true_eq_false, not_false_eq_true, true_or, or_true]
  rw [if_neg e4, if_neg e4]
  by_cases e5 : hr len pd s = 112
  · rw [if_pos e5, if_pos e5]
    rw [e5] at o1
    have ex : orX len pd s = nm len pd 59 (s + 1) := by unfold orX; rw [if_neg (by omega), if_neg (by omega)]
    have o13 := o4 (Or.inl e5)
    have hx := (w3 (Or.inl e5)).2
    rw [← ex] at o13 hx
    refine ⟨fun hm => ⟨cnt (kC (fromT S (orX len pd s) 0) (toT S (orX len pd s) 0) S.W) 24, by have := cnt_le (kC (fromT S (orX len pd s) 0) (toT S (orX len pd s) 0) S.W) 24; omega, gO_pre Lf_id (g_pick (d := d) (X := X) (cl := cl) (sl := sl) (F := F) (L := L) R h (k := 0) (by decide) hm) fun r L9 e9 P => ?_⟩, fun hm => ?_⟩
    · rw [c7079]
      simp (disch := omega) only [o1, o13, e9, sw7079_97, sw7079_98, sw7079_99, sw7079_109, sw7079_112, sw7079_114, sw7079_115, sw7079_lo, u7079_0, u7079_1, u7079_4, u7079_96, u7079_97, u7079_100, u7079_101, u7079_102, u7079_105, u7079_106, u7079_107, u7079_110, u7079_111, u7079_112, u7079_113, u7079_116, u7079_119, u7079_120, u7079_121, u7079_122, u7079_125, u7079_128, u7079_129, u7079_130, u7079_131, u7079_134, u7079_135, u7079_138, u7079_139, u7079_140, u7079_141, u7079_144, u7079_145, u7079_148, u7079_149, u7079_150, u7079_151, u7079_154, u7079_155, u7079_158, u7079_159, u7079_162, u7079_165, gt_70_12, ob_70, gt_70_13, gt_70_14, gt_70_15, ki_0, ki_1, af_x hd_7079, decide_eq_true_eq, if_true, if_false, f2_ne, f2_eq, up_ne, up_eq, kc_int, kc_ref, kc_retAddr, kc_long, kc_double, af_n, af_v, z0, z1, n_of, nz6, nz4, bI_T, bI_F, bI_01, n_lt, n_le, n_eq, n_add, n_mul, n_sub, n_clamp, n_vp, m_lt, m_le, m_eq, m_eq2, m_ltm, m_add, true_and, and_true, eq_self, if_pos, if_neg, List.length_nil, List.length_cons, Nat.reduceAdd, Nat.reduceLeDiff, Nat.zero_le, not_true_eq_false, not_false_eq_true, true_or, or_true]
    · by_cases hc : orX len pd s < S.n
      · refine ⟨-nI 12, Or.inr rfl, gO_pre Lf_id (g_pick_no (d := d) (X := X) (cl := cl) (sl := sl) (F := F) (L := L) R h z hc (k := 0) (by decide) hm) fun r L9 e9 P => ?_⟩
        rw [c7079]
        simp (disch := omega) only [o1, o13, e9, sw7079_97, sw7079_98, sw7079_99, sw7079_109, sw7079_112, sw7079_114, sw7079_115, sw7079_lo, u7079_0, u7079_1, u7079_4, u7079_96, u7079_97, u7079_100, u7079_101, u7079_102, u7079_105, u7079_106, u7079_107, u7079_110, u7079_111, u7079_112, u7079_113, u7079_116, u7079_119, u7079_120, u7079_121, u7079_122, u7079_125, u7079_128, u7079_129, u7079_130, u7079_131, u7079_134, u7079_135, u7079_138, u7079_139, u7079_140, u7079_141, u7079_144, u7079_145, u7079_148, u7079_149, u7079_150, u7079_151, u7079_154, u7079_155, u7079_158, u7079_159, u7079_162, u7079_165, gt_70_12, ob_70, gt_70_13, gt_70_14, gt_70_15, ki_0, ki_1, af_x hd_7079, decide_eq_true_eq, if_true, if_false, f2_ne, f2_eq, up_ne, up_eq, kc_int, kc_ref, kc_retAddr, kc_long, kc_double, af_n, af_v, z0, z1, n_of, nz6, nz4, bI_T, bI_F, bI_01, n_lt, n_le, n_eq, n_add, n_mul, n_sub, n_clamp, n_vp, m_lt, m_le, m_eq, m_eq2, m_ltm, m_add, true_and, and_true, eq_self, if_pos, if_neg, List.length_nil, List.length_cons, Nat.reduceAdd, Nat.reduceLeDiff, Nat.zero_le, not_true_eq_false, not_false_eq_true, true_or, or_true]
      · refine ⟨-nI 11, Or.inl rfl, gO_pre Lf_id (g_pick_commit (d := d) (X := X) (cl := cl) (sl := sl) (F := F) (L := L) R h z (x := nI (orX len pd s)) (v := nI 0) (Or.inr (by rw [n_le (by omega) (by omega)]; omega))) fun r L9 e9 P => ?_⟩
        rw [c7079]
        simp (disch := omega) only [o1, o13, e9, sw7079_97, sw7079_98, sw7079_99, sw7079_109, sw7079_112, sw7079_114, sw7079_115, sw7079_lo, u7079_0, u7079_1, u7079_4, u7079_96, u7079_97, u7079_100, u7079_101, u7079_102, u7079_105, u7079_106, u7079_107, u7079_110, u7079_111, u7079_112, u7079_113, u7079_116, u7079_119, u7079_120, u7079_121, u7079_122, u7079_125, u7079_128, u7079_129, u7079_130, u7079_131, u7079_134, u7079_135, u7079_138, u7079_139, u7079_140, u7079_141, u7079_144, u7079_145, u7079_148, u7079_149, u7079_150, u7079_151, u7079_154, u7079_155, u7079_158, u7079_159, u7079_162, u7079_165, gt_70_12, ob_70, gt_70_13, gt_70_14, gt_70_15, ki_0, ki_1, af_x hd_7079, decide_eq_true_eq, if_true, if_false, f2_ne, f2_eq, up_ne, up_eq, kc_int, kc_ref, kc_retAddr, kc_long, kc_double, af_n, af_v, z0, z1, n_of, nz6, nz4, bI_T, bI_F, bI_01, n_lt, n_le, n_eq, n_add, n_mul, n_sub, n_clamp, n_vp, m_lt, m_le, m_eq, m_eq2, m_ltm, m_add, true_and, and_true, eq_self, if_pos, if_neg, List.length_nil, List.length_cons, Nat.reduceAdd, Nat.reduceLeDiff, Nat.zero_le, not_true_eq_false, not_false_eq_true, true_or, or_true]
  rw [if_neg e5, if_neg e5]
  by_cases e6 : hr len pd s = 114
  · rw [if_pos e6, if_pos e6]
    rw [e6] at o1
    have ex : orX len pd s = nm len pd 59 (s + 1) := by unfold orX; rw [if_neg (by omega), if_neg (by omega)]
    have o13 := o4 (Or.inr e6)
    have hx := (w3 (Or.inr e6)).2
    rw [← ex] at o13 hx
    refine ⟨fun hm => ⟨cnt (kC (fromT S (orX len pd s) 1) (toT S (orX len pd s) 1) S.W) 24, by have := cnt_le (kC (fromT S (orX len pd s) 1) (toT S (orX len pd s) 1) S.W) 24; omega, gO_pre Lf_id (g_pick (d := d) (X := X) (cl := cl) (sl := sl) (F := F) (L := L) R h (k := 1) (by decide) hm) fun r L9 e9 P => ?_⟩, fun hm => ?_⟩
    · rw [c7079]
      simp (disch := omega) only [o1, o13, e9, sw7079_97, sw7079_98, sw7079_99, sw7079_109, sw7079_112, sw7079_114, sw7079_115, sw7079_lo, u7079_0, u7079_1, u7079_4, u7079_96, u7079_97, u7079_100, u7079_101, u7079_102, u7079_105, u7079_106, u7079_107, u7079_110, u7079_111, u7079_112, u7079_113, u7079_116, u7079_119, u7079_120, u7079_121, u7079_122, u7079_125, u7079_128, u7079_129, u7079_130, u7079_131, u7079_134, u7079_135, u7079_138, u7079_139, u7079_140, u7079_141, u7079_144, u7079_145, u7079_148, u7079_149, u7079_150, u7079_151, u7079_154, u7079_155, u7079_158, u7079_159, u7079_162, u7079_165, gt_70_12, ob_70, gt_70_13, gt_70_14, gt_70_15, ki_0, ki_1, af_x hd_7079, decide_eq_true_eq, if_true, if_false, f2_ne, f2_eq, up_ne, up_eq, kc_int, kc_ref, kc_retAddr, kc_long, kc_double, af_n, af_v, z0, z1, n_of, nz6, nz4, bI_T, bI_F, bI_01, n_lt, n_le, n_eq, n_add, n_mul, n_sub, n_clamp, n_vp, m_lt, m_le, m_eq, m_eq2, m_ltm, m_add, true_and, and_true, eq_self, if_pos, if_neg, List.length_nil, List.length_cons, Nat.reduceAdd, Nat.reduceLeDiff, Nat.zero_le, not_true_eq_false, not_false_eq_true, true_or, or_true]
    · by_cases hc : orX len pd s < S.n
      · refine ⟨-nI 12, Or.inr rfl, gO_pre Lf_id (g_pick_no (d := d) (X := X) (cl := cl) (sl := sl) (F := F) (L := L) R h z hc (k := 1) (by decide) hm) fun r L9 e9 P => ?_⟩
        rw [c7079]
        simp (disch := omega) only [o1, o13, e9, sw7079_97, sw7079_98, sw7079_99, sw7079_109, sw7079_112, sw7079_114, sw7079_115, sw7079_lo, u7079_0, u7079_1, u7079_4, u7079_96, u7079_97, u7079_100, u7079_101, u7079_102, u7079_105, u7079_106, u7079_107, u7079_110, u7079_111, u7079_112, u7079_113, u7079_116, u7079_119, u7079_120, u7079_121, u7079_122, u7079_125, u7079_128, u7079_129, u7079_130, u7079_131, u7079_134, u7079_135, u7079_138, u7079_139, u7079_140, u7079_141, u7079_144, u7079_145, u7079_148, u7079_149, u7079_150, u7079_151, u7079_154, u7079_155, u7079_158, u7079_159, u7079_162, u7079_165, gt_70_12, ob_70, gt_70_13, gt_70_14, gt_70_15, ki_0, ki_1, af_x hd_7079, decide_eq_true_eq, if_true, if_false, f2_ne, f2_eq, up_ne, up_eq, kc_int, kc_ref, kc_retAddr, kc_long, kc_double, af_n, af_v, z0, z1, n_of, nz6, nz4, bI_T, bI_F, bI_01, n_lt, n_le, n_eq, n_add, n_mul, n_sub, n_clamp, n_vp, m_lt, m_le, m_eq, m_eq2, m_ltm, m_add, true_and, and_true, eq_self, if_pos, if_neg, List.length_nil, List.length_cons, Nat.reduceAdd, Nat.reduceLeDiff, Nat.zero_le, not_true_eq_false, not_false_eq_true, true_or, or_true]
      · refine ⟨-nI 11, Or.inl rfl, gO_pre Lf_id (g_pick_commit (d := d) (X := X) (cl := cl) (sl := sl) (F := F) (L := L) R h z (x := nI (orX len pd s)) (v := nI 1) (Or.inr (by rw [n_le (by omega) (by omega)]; omega))) fun r L9 e9 P => ?_⟩
        rw [c7079]
        simp (disch := omega) only [o1, o13, e9, sw7079_97, sw7079_98, sw7079_99, sw7079_109, sw7079_112, sw7079_114, sw7079_115, sw7079_lo, u7079_0, u7079_1, u7079_4, u7079_96, u7079_97, u7079_100, u7079_101, u7079_102, u7079_105, u7079_106, u7079_107, u7079_110, u7079_111, u7079_112, u7079_113, u7079_116, u7079_119, u7079_120, u7079_121, u7079_122, u7079_125, u7079_128, u7079_129, u7079_130, u7079_131, u7079_134, u7079_135, u7079_138, u7079_139, u7079_140, u7079_141, u7079_144, u7079_145, u7079_148, u7079_149, u7079_150, u7079_151, u7079_154, u7079_155, u7079_158, u7079_159, u7079_162, u7079_165, gt_70_12, ob_70, gt_70_13, gt_70_14, gt_70_15, ki_0, ki_1, af_x hd_7079, decide_eq_true_eq, if_true, if_false, f2_ne, f2_eq, up_ne, up_eq, kc_int, kc_ref, kc_retAddr, kc_long, kc_double, af_n, af_v, z0, z1, n_of, nz6, nz4, bI_T, bI_F, bI_01, n_lt, n_le, n_eq, n_add, n_mul, n_sub, n_clamp, n_vp, m_lt, m_le, m_eq, m_eq2, m_ltm, m_add, true_and, and_true, eq_self, if_pos, if_neg, List.length_nil, List.length_cons, Nat.reduceAdd, Nat.reduceLeDiff, Nat.zero_le, not_true_eq_false, not_false_eq_true, true_or, or_true]
  rw [if_neg e6, if_neg e6]
  have e8 : 48 ≤ hr len pd s ∧ hr len pd s ≤ 51 := by omega
  have ex : orX len pd s = hr len pd s - 48 := by unfold orX; rw [if_pos e8]
  obtain ⟨n1, n2, n3, n4, n5⟩ := w1 e8
  obtain ⟨o13, o14, o15⟩ := o2 e8
  rw [← ex] at o13
  have hx : orX len pd s < 4 := by omega
  refine ⟨fun _ => ⟨unl (setL S (orX len pd s * 6 + (hr len pd (s + 2) - 48)) (nm len pd 99 (s + 4))), by have : unl (setL S (orX len pd s * 6 + (hr len pd (s + 2) - 48)) (nm len pd 99 (s + 4))) ≤ 24 := cnt_le _ _; omega, gO_pre Lf_id (g_edit (d := d + 1) (X := X) (cl := cl) (sl := sl) (F := F) (L := L) R h z hx n3 n5) fun r L9 e9 P => ?_⟩, fun hm => absurd trivial hm⟩
  rw [c7079]
  simp (disch := omega) only [o1, o13, o14, o15, e9, sw7079_97, sw7079_98, sw7079_99, sw7079_109, sw7079_112, sw7079_114, sw7079_115, sw7079_lo, u7079_0, u7079_1, u7079_4, u7079_96, u7079_97, u7079_100, u7079_101, u7079_102, u7079_105, u7079_106, u7079_107, u7079_110, u7079_111, u7079_112, u7079_113, u7079_116, u7079_119, u7079_120, u7079_121, u7079_122, u7079_125, u7079_128, u7079_129, u7079_130, u7079_131, u7079_134, u7079_135, u7079_138, u7079_139, u7079_140, u7079_141, u7079_144, u7079_145, u7079_148, u7079_149, u7079_150, u7079_151, u7079_154, u7079_155, u7079_158, u7079_159, u7079_162, u7079_165, gt_70_12, ob_70, gt_70_13, gt_70_14, gt_70_15, ki_0, ki_1, af_x hd_7079, decide_eq_true_eq, if_true, if_false, f2_ne, f2_eq, up_ne, up_eq, kc_int, kc_ref, kc_retAddr, kc_long, kc_double, af_n, af_v, z0, z1, n_of, nz6, nz4, bI_T, bI_F, bI_01, n_lt, n_le, n_eq, n_add, n_mul, n_sub, n_clamp, n_vp, m_lt, m_le, m_eq, m_eq2, m_ltm, m_add, true_and, and_true, eq_self, if_pos, if_neg, List.length_nil, List.length_cons, Nat.reduceAdd, Nat.reduceLeDiff, Nat.zero_le, not_true_eq_false, not_false_eq_true, true_or, or_true]
theorem l_mrun : ∀ (k s n t : Nat) (F A : Nat → Nat → Int32) (L : Nat → Nat → Int64) (S : Ab), k + n = 60 → n ≤ s → s ≤ len → stA len pd 0 s = 0 → t < 1000 → padR A len pd → pmF F len (true, s) → mR (A 71) S → wS S → zO S → ∃ F2 g L2 v, (∀ P, am_g (d + 7) X am_m7080 26 [.ref 70, .int (nI n), .int (nI t)] [] (am_Z cl sl F A L) P = am_g (d + 7) X am_m7080 65 [.ref 70, .int (nI (rnO len pd k s S n).1), v] [] (am_Z cl sl F2 (va_up A 71 g) L2) P) ∧ mR g (rnO len pd k s S n).2 ∧ zO (rnO len pd k s S n).2 ∧ Fp F F2 ∧ Lf L L2 := by
  intro k
  induction k with
  | zero =>
    intro s n t F A L S h1 h2 h3 h4 ht p q R h z
    have hl := p.1
    obtain rfl : s = len := by omega
    refine ⟨F, A 71, L, .int (nI t), fun P => ?_, R, z, Fp_id, Lf_id⟩
    have h10 : F 70 10 = nI s := q.2.1
    rw [up_same, u7080_26]
    simp (disch := omega) only [q.1, h10, u7080_0, u7080_1, u7080_4, u7080_5, u7080_8, u7080_11, u7080_12, u7080_13, u7080_16, u7080_17, u7080_18, u7080_19, u7080_20, u7080_21, u7080_22, u7080_23, u7080_27, u7080_30, u7080_31, u7080_34, u7080_35, u7080_38, u7080_41, u7080_42, u7080_45, u7080_46, u7080_49, u7080_50, u7080_51, u7080_52, u7080_55, u7080_56, u7080_59, u7080_60, u7080_61, u7080_62, u7080_66, u7080_69, u7080_70, ob_70, pt_70_10, gt_70_10, gt_70_7, ki_0, ki_1, af_x hd_7080, decide_eq_true_eq, if_true, if_false, f2_ne, f2_eq, up_ne, up_eq, kc_int, kc_ref, kc_retAddr, kc_long, kc_double, af_n, af_v, z0, z1, n_of, nz6, nz4, bI_T, bI_F, bI_01, n_lt, n_le, n_eq, n_add, n_mul, n_sub, n_clamp, n_vp, m_lt, m_le, m_eq, m_eq2, m_ltm, m_add, true_and, and_true, eq_self, if_pos, if_neg, List.length_nil, List.length_cons, Nat.reduceAdd, Nat.reduceLeDiff, Nat.zero_le, not_true_eq_false, not_false_eq_true, true_or, or_true]
    rfl
  | succ k ih =>
    intro s n t F A L S h1 h2 h3 h4 ht p q R h z
    have hl := p.1
    have h10 : F 70 10 = nI s := q.2.1
    by_cases hs : s < len
    · have tq := tO_q (pd := pd) hs
      have ok : (tO len pd s).1 = true := by
        cases e : (tO len pd s).1 with
        | true => rfl
        | false =>
          have := tq.2 e
          omega
      obtain ⟨q1, q2⟩ := tq.1 ok
      have hg := tO_gt ok hs
      obtain ⟨F1, e1, k1, f1, o1⟩ := m_takesOrder (d := d + 3) (X := X) (cl := cl) (sl := sl) (L := L) p q (by omega)
      obtain ⟨y1, y2⟩ := m_does (d := d + 1) (X := X) (cl := cl) (sl := sl) (L := L) R h z hs ok (o1 ok)
      have k1' : pmF F1 len (true, (tO len pd s).2) := by
        rw [show ((true, (tO len pd s).2) : Bool × Nat) = tO len pd s from by rw [← ok]]
        exact k1
      by_cases hm : oM S (hr len pd s) (orX len pd s)
      · obtain ⟨v, hv, g, L2, e2, r2, z2, f2⟩ := y1 hm
        have p2 : padR (va_up A 71 g) len pd := ⟨p.1, fun i hi => by rw [up_ne (by decide)]; exact p.2 i hi⟩
        obtain ⟨F3, g3, L3, v3, e3, r3, z3, f3, l3⟩ := ih (tO len pd s).2 (n + 1) v F1 (va_up A 71 g) L2 (oN len pd s S) (by omega) (by omega) q1 (by rw [← q2]; exact h4) hv p2 k1' (by rw [up_eq]; exact r2) (wS_oN h hs ok hm) z2
        rw [rnO_t ⟨hs, hm⟩]
        refine ⟨F3, g3, L3, v3, fun P => ?_, r3, z3, Fp_tr f1 f3, Lf_tr f2 l3⟩
        have e3' := e3 P
        rw [up_up] at e3'
        refine Eq.trans ?_ e3'
        rw [u7080_26]
        simp (disch := omega) only [q.1, h10, e1, e2, u7080_0, u7080_1, u7080_4, u7080_5, u7080_8, u7080_11, u7080_12, u7080_13, u7080_16, u7080_17, u7080_18, u7080_19, u7080_20, u7080_21, u7080_22, u7080_23, u7080_27, u7080_30, u7080_31, u7080_34, u7080_35, u7080_38, u7080_41, u7080_42, u7080_45, u7080_46, u7080_49, u7080_50, u7080_51, u7080_52, u7080_55, u7080_56, u7080_59, u7080_60, u7080_61, u7080_62, u7080_66, u7080_69, u7080_70, ob_70, pt_70_10, gt_70_10, gt_70_7, ki_0, ki_1, af_x hd_7080, decide_eq_true_eq, if_true, if_false, f2_ne, f2_eq, up_ne, up_eq, kc_int, kc_ref, kc_retAddr, kc_long, kc_double, af_n, af_v, z0, z1, n_of, nz6, nz4, bI_T, bI_F, bI_01, n_lt, n_le, n_eq, n_add, n_mul, n_sub, n_clamp, n_vp, m_lt, m_le, m_eq, m_eq2, m_ltm, m_add, true_and, and_true, eq_self, if_pos, if_neg, List.length_nil, List.length_cons, Nat.reduceAdd, Nat.reduceLeDiff, Nat.zero_le, not_true_eq_false, not_false_eq_true, true_or, or_true]
      · obtain ⟨v, hv, g, L2, e2, r2, z2, f2⟩ := y2 hm
        rw [rnO_f (fun z => hm z.2)]
        refine ⟨F1, g, L2, .int v, fun P => ?_, r2, z2, f1, f2⟩
        rcases hv with rfl | rfl
        · rw [u7080_26]
          simp (disch := omega) only [q.1, h10, e1, e2, ng11, Nat.add_zero, u7080_0, u7080_1, u7080_4, u7080_5, u7080_8, u7080_11, u7080_12, u7080_13, u7080_16, u7080_17, u7080_18, u7080_19, u7080_20, u7080_21, u7080_22, u7080_23, u7080_27, u7080_30, u7080_31, u7080_34, u7080_35, u7080_38, u7080_41, u7080_42, u7080_45, u7080_46, u7080_49, u7080_50, u7080_51, u7080_52, u7080_55, u7080_56, u7080_59, u7080_60, u7080_61, u7080_62, u7080_66, u7080_69, u7080_70, ob_70, pt_70_10, gt_70_10, gt_70_7, ki_0, ki_1, af_x hd_7080, decide_eq_true_eq, if_true, if_false, f2_ne, f2_eq, up_ne, up_eq, kc_int, kc_ref, kc_retAddr, kc_long, kc_double, af_n, af_v, z0, z1, n_of, nz6, nz4, bI_T, bI_F, bI_01, n_lt, n_le, n_eq, n_add, n_mul, n_sub, n_clamp, n_vp, m_lt, m_le, m_eq, m_eq2, m_ltm, m_add, true_and, and_true, eq_self, if_pos, if_neg, List.length_nil, List.length_cons, Nat.reduceAdd, Nat.reduceLeDiff, Nat.zero_le, not_true_eq_false, not_false_eq_true, true_or, or_true]
          rw [u7080_26]
          simp (disch := omega) only [ng11, u7080_0, u7080_1, u7080_4, u7080_5, u7080_8, u7080_11, u7080_12, u7080_13, u7080_16, u7080_17, u7080_18, u7080_19, u7080_20, u7080_21, u7080_22, u7080_23, u7080_27, u7080_30, u7080_31, u7080_34, u7080_35, u7080_38, u7080_41, u7080_42, u7080_45, u7080_46, u7080_49, u7080_50, u7080_51, u7080_52, u7080_55, u7080_56, u7080_59, u7080_60, u7080_61, u7080_62, u7080_66, u7080_69, u7080_70, ob_70, pt_70_10, gt_70_10, gt_70_7, ki_0, ki_1, af_x hd_7080, decide_eq_true_eq, if_true, if_false, f2_ne, f2_eq, up_ne, up_eq, kc_int, kc_ref, kc_retAddr, kc_long, kc_double, af_n, af_v, z0, z1, n_of, nz6, nz4, bI_T, bI_F, bI_01, n_lt, n_le, n_eq, n_add, n_mul, n_sub, n_clamp, n_vp, m_lt, m_le, m_eq, m_eq2, m_ltm, m_add, true_and, and_true, eq_self, if_pos, if_neg, List.length_nil, List.length_cons, Nat.reduceAdd, Nat.reduceLeDiff, Nat.zero_le, not_true_eq_false, not_false_eq_true, true_or, or_true]
        · rw [u7080_26]
          simp (disch := omega) only [q.1, h10, e1, e2, ng12, Nat.add_zero, u7080_0, u7080_1, u7080_4, u7080_5, u7080_8, u7080_11, u7080_12, u7080_13, u7080_16, u7080_17, u7080_18, u7080_19, u7080_20, u7080_21, u7080_22, u7080_23, u7080_27, u7080_30, u7080_31, u7080_34, u7080_35, u7080_38, u7080_41, u7080_42, u7080_45, u7080_46, u7080_49, u7080_50, u7080_51, u7080_52, u7080_55, u7080_56, u7080_59, u7080_60, u7080_61, u7080_62, u7080_66, u7080_69, u7080_70, ob_70, pt_70_10, gt_70_10, gt_70_7, ki_0, ki_1, af_x hd_7080, decide_eq_true_eq, if_true, if_false, f2_ne, f2_eq, up_ne, up_eq, kc_int, kc_ref, kc_retAddr, kc_long, kc_double, af_n, af_v, z0, z1, n_of, nz6, nz4, bI_T, bI_F, bI_01, n_lt, n_le, n_eq, n_add, n_mul, n_sub, n_clamp, n_vp, m_lt, m_le, m_eq, m_eq2, m_ltm, m_add, true_and, and_true, eq_self, if_pos, if_neg, List.length_nil, List.length_cons, Nat.reduceAdd, Nat.reduceLeDiff, Nat.zero_le, not_true_eq_false, not_false_eq_true, true_or, or_true]
          rw [u7080_26]
          simp (disch := omega) only [ng12, u7080_0, u7080_1, u7080_4, u7080_5, u7080_8, u7080_11, u7080_12, u7080_13, u7080_16, u7080_17, u7080_18, u7080_19, u7080_20, u7080_21, u7080_22, u7080_23, u7080_27, u7080_30, u7080_31, u7080_34, u7080_35, u7080_38, u7080_41, u7080_42, u7080_45, u7080_46, u7080_49, u7080_50, u7080_51, u7080_52, u7080_55, u7080_56, u7080_59, u7080_60, u7080_61, u7080_62, u7080_66, u7080_69, u7080_70, ob_70, pt_70_10, gt_70_10, gt_70_7, ki_0, ki_1, af_x hd_7080, decide_eq_true_eq, if_true, if_false, f2_ne, f2_eq, up_ne, up_eq, kc_int, kc_ref, kc_retAddr, kc_long, kc_double, af_n, af_v, z0, z1, n_of, nz6, nz4, bI_T, bI_F, bI_01, n_lt, n_le, n_eq, n_add, n_mul, n_sub, n_clamp, n_vp, m_lt, m_le, m_eq, m_eq2, m_ltm, m_add, true_and, and_true, eq_self, if_pos, if_neg, List.length_nil, List.length_cons, Nat.reduceAdd, Nat.reduceLeDiff, Nat.zero_le, not_true_eq_false, not_false_eq_true, true_or, or_true]
    · rw [rnO_f (fun z => hs z.1)]
      refine ⟨F, A 71, L, .int (nI t), fun P => ?_, R, z, Fp_id, Lf_id⟩
      rw [up_same, u7080_26]
      simp (disch := omega) only [q.1, h10, u7080_0, u7080_1, u7080_4, u7080_5, u7080_8, u7080_11, u7080_12, u7080_13, u7080_16, u7080_17, u7080_18, u7080_19, u7080_20, u7080_21, u7080_22, u7080_23, u7080_27, u7080_30, u7080_31, u7080_34, u7080_35, u7080_38, u7080_41, u7080_42, u7080_45, u7080_46, u7080_49, u7080_50, u7080_51, u7080_52, u7080_55, u7080_56, u7080_59, u7080_60, u7080_61, u7080_62, u7080_66, u7080_69, u7080_70, ob_70, pt_70_10, gt_70_10, gt_70_7, ki_0, ki_1, af_x hd_7080, decide_eq_true_eq, if_true, if_false, f2_ne, f2_eq, up_ne, up_eq, kc_int, kc_ref, kc_retAddr, kc_long, kc_double, af_n, af_v, z0, z1, n_of, nz6, nz4, bI_T, bI_F, bI_01, n_lt, n_le, n_eq, n_add, n_mul, n_sub, n_clamp, n_vp, m_lt, m_le, m_eq, m_eq2, m_ltm, m_add, true_and, and_true, eq_self, if_pos, if_neg, List.length_nil, List.length_cons, Nat.reduceAdd, Nat.reduceLeDiff, Nat.zero_le, not_true_eq_false, not_false_eq_true, true_or, or_true]
theorem mG_fin {F2 : Nat → Nat → Int32} {g : Nat → Int32} {U : Ab} (c : mG F A G) (w : wG G) (hF : ∀ k, k < 8 → F2 70 k = F 70 k) (r : mR g U) (zz : zO U) : mG (am_f2 F2 70 5 (nI (recM G.m))) (va_up (va_up (bgA A) 71 g) 74 (rcR (va_up (bgA A) 71 g 74) (va_up (bgA A) 71 g 72) G.m)) (setG (recG G) U) := by
  have hB : mR (va_up (bgA A) 71 g 72) G.S := by rw [up_ne (by decide)]; exact bg_72 c.R w.w
  have h74 : va_up (bgA A) 71 g 74 = A 74 := by unfold bgA; rw [up_ne (by decide), up_ne (by decide)]
  have hr := rcR_at (f := va_up (bgA A) 71 g 74) (S := G.S) w.m4 (fun a ha => by rw [h74]; exact (c.rs a ha).1) w.rs hB w.w
  refine mG.mk ?_ zz ?_ (fun a ha => ⟨?_, ?_⟩) ?_ ?_ ?_ ?_
  · rw [up_ne (by decide), up_eq]; exact r
  · rw [f2_eq, up_eq]; rfl
  · rw [up_eq]; exact hr a ha
  · show zO (recR G.m G.rs G.S a)
    have ha' : a < recM G.m := ha
    unfold recM at ha'
    have h4 := w.m4
    unfold recR
    by_cases e1 : G.m = 4
    · rw [if_pos e1] at ha'
      rw [if_pos e1]
      by_cases e2 : a = 3
      · rw [if_pos e2]; exact c.z
      · rw [if_neg e2]; exact (c.rs (a + 1) (by omega)).2
    · rw [if_neg e1] at ha'
      rw [if_neg e1]
      by_cases e2 : a = G.m
      · rw [if_pos e2]; exact c.z
      · rw [if_neg e2]; exact (c.rs a (by omega)).2
  · rw [f2_eq, up_ne (by decide), hF _ (by decide)]; exact c.hs
  · unfold bgA
    rw [up_ne (by decide), up_ne (by decide), up_ne (by decide)]; exact c.sn
  · rw [f2_eq, up_ne (by decide), hF _ (by decide)]; exact c.ln
  · unfold bgA
    rw [up_ne (by decide), up_ne (by decide), up_ne (by decide)]; exact c.pd
theorem pad_of (c : mG F A G) (w : wG G) : padR A G.len G.pd := ⟨w.l60, fun i hi => ⟨c.pd i hi, (w.pd i hi).2⟩⟩
theorem m_begins2 : am_Ca X (d + 2) 7008 [.ref 70] (am_Z cl sl F A L) P = P (.inl none) (am_Z cl sl (bgF F) (bgA A) L) := m_begins
theorem w_runOrders (c : mG F A G) (w : wG G) (h0 : ffN G.len G.pd G.len 0 0 = 0) : wO X (d + 8) 7080 [.ref 70] cl sl F A L 0 (nI (rnO G.len G.pd 60 0 G.S 0).1) (setG (recG G) (rnO G.len G.pd 60 0 G.S 0).2) := by
  have p : padR (bgA A) G.len G.pd := ⟨w.l60, fun i hi => by unfold bgA; rw [up_ne (by decide)]; exact ⟨c.pd i hi, (w.pd i hi).2⟩⟩
  have h7 : bgF F 70 7 = nI G.len := by unfold bgF; rw [f2_eq, up_ne (by decide)]; exact c.ln
  obtain ⟨F1, x, e1, k1, f1, hx⟩ := m_isOrders (d := d + 2) (X := X) (cl := cl) (sl := sl) (L := L) p h7
  have ok : x.1 = true := by
    cases e : x.1 with
    | true => rfl
    | false => rw [h0, e] at hx; simp at hx
  rw [bI_t ok] at e1
  have k2 : pmF (am_f2 F1 70 10 (nI 0)) G.len (true, 0) := ⟨by rw [f2_eq, up_ne (by decide)]; exact k1.1, by rw [f2_eq, up_eq], by rw [f2_eq, up_ne (by decide), k1.2.2, ok]⟩
  obtain ⟨F2, g, L2, v, e2, r2, z2, f2, l2⟩ := l_mrun (d := d) (X := X) (cl := cl) (sl := sl) (len := G.len) (pd := G.pd) 60 0 0 0 (am_f2 F1 70 10 (nI 0)) (bgA A) L G.S rfl (Nat.le_refl _) (Nat.zero_le _) h0 (by decide) p k2 (by rw [bg_71]; exact c.R) w.w c.z
  have fa : Fp (bgF F) F2 := Fp_tr f1 (Fp_tr (Fp_f (by decide) (by decide)) f2)
  have hF : ∀ k, k < 8 → F2 70 k = F 70 k := fun k hk => by
    rw [fa.2 k (by omega)]
    unfold bgF
    rw [f2_eq, up_ne (by omega)]
  refine ⟨_, _, L2, fun P => ?_, ?_, mG_fin (F2 := F2) c w hF r2 z2, ?_, l2⟩
  · have e2' := e2 P
    have em := fun {Q : am_Q} => m_records (d := d + 5) (X := X) (cl := cl) (sl := sl) (L := L2) (P := Q) (F := F2) (A := va_up (bgA A) 71 g) (m := G.m) (by rw [hF 5 (by decide)]; exact c.m) w.m4
    rw [c7080]
    simp (disch := omega) only [m_begins2, e1, e2', em, u7080_0, u7080_1, u7080_4, u7080_5, u7080_8, u7080_11, u7080_12, u7080_13, u7080_16, u7080_17, u7080_18, u7080_19, u7080_20, u7080_21, u7080_22, u7080_23, u7080_27, u7080_30, u7080_31, u7080_34, u7080_35, u7080_38, u7080_41, u7080_42, u7080_45, u7080_46, u7080_49, u7080_50, u7080_51, u7080_52, u7080_55, u7080_56, u7080_59, u7080_60, u7080_61, u7080_62, u7080_65, u7080_66, u7080_69, u7080_70, ob_70, pt_70_10, gt_70_10, gt_70_7, ki_0, ki_1, af_x hd_7080, decide_eq_true_eq, if_true, if_false, f2_ne, f2_eq, up_ne, up_eq, kc_int, kc_ref, kc_retAddr, kc_long, kc_double, af_n, af_v, z0, z1, n_of, nz6, nz4, bI_T, bI_F, bI_01, n_lt, n_le, n_eq, n_add, n_mul, n_sub, n_clamp, n_vp, m_lt, m_le, m_eq, m_eq2, m_ltm, m_add, true_and, and_true, eq_self, if_pos, if_neg, List.length_nil, List.length_cons, Nat.reduceAdd, Nat.reduceLeDiff, Nat.zero_le, not_true_eq_false, not_false_eq_true, true_or, or_true]
  · rw [f2_eq, up_ne (by decide), fa.2 8 (by decide)]
    unfold bgF
    rw [f2_eq, up_eq]
  · refine ⟨fun o ho => ?_, fun o ho => ?_⟩
    · rw [f2_ne (by omega), fa.1 o (by omega)]
      unfold bgF
      rw [f2_ne (by omega)]
    · unfold bgA
      rw [up_ne (by omega), up_ne (by omega), up_ne (by omega)]
theorem w_runOrders_no (c : mG F A G) (w : wG G) (h0 : ¬ ffN G.len G.pd G.len 0 0 = 0) : wO X (d + 8) 7080 [.ref 70] cl sl F A L 1 (nI 0) G := by
  have p : padR (bgA A) G.len G.pd := ⟨w.l60, fun i hi => by unfold bgA; rw [up_ne (by decide)]; exact ⟨c.pd i hi, (w.pd i hi).2⟩⟩
  have h7 : bgF F 70 7 = nI G.len := by unfold bgF; rw [f2_eq, up_ne (by decide)]; exact c.ln
  obtain ⟨F1, x, e1, k1, f1, hx⟩ := m_isOrders (d := d + 2) (X := X) (cl := cl) (sl := sl) (L := L) p h7
  have ok : ¬ x.1 = true := fun e => h0 (by rw [hx, if_pos e])
  rw [bI_f ok] at e1
  have hF : ∀ k, k < 8 → F1 70 k = F 70 k := fun k hk => by
    rw [f1.2 k (by omega)]
    unfold bgF
    rw [f2_eq, up_ne (by omega)]
  refine ⟨am_f2 F1 70 8 (nI 1), bgA A, L, fun P => ?_, by rw [f2_eq, up_eq], mG.mk ?_ c.z ?_ ?_ ?_ ?_ ?_ ?_, ⟨fun o ho => ?_, fun o ho => ?_⟩, Lf_id⟩
  · rw [c7080]
    simp (disch := omega) only [m_begins2, e1, m_fails, u7080_0, u7080_1, u7080_4, u7080_5, u7080_8, u7080_11, u7080_12, u7080_13, u7080_16, u7080_17, u7080_18, u7080_19, u7080_20, u7080_21, u7080_22, u7080_23, u7080_27, u7080_30, u7080_31, u7080_34, u7080_35, u7080_38, u7080_41, u7080_42, u7080_45, u7080_46, u7080_49, u7080_50, u7080_51, u7080_52, u7080_55, u7080_56, u7080_59, u7080_60, u7080_61, u7080_62, u7080_65, u7080_66, u7080_69, u7080_70, ob_70, pt_70_10, gt_70_10, gt_70_7, ki_0, ki_1, af_x hd_7080, decide_eq_true_eq, if_true, if_false, f2_ne, f2_eq, up_ne, up_eq, kc_int, kc_ref, kc_retAddr, kc_long, kc_double, af_n, af_v, z0, z1, n_of, nz6, nz4, bI_T, bI_F, bI_01, n_lt, n_le, n_eq, n_add, n_mul, n_sub, n_clamp, n_vp, m_lt, m_le, m_eq, m_eq2, m_ltm, m_add, true_and, and_true, eq_self, if_pos, if_neg, List.length_nil, List.length_cons, Nat.reduceAdd, Nat.reduceLeDiff, Nat.zero_le, not_true_eq_false, not_false_eq_true, true_or, or_true]
  · rw [bg_71]; exact c.R
  · rw [f2_eq, up_ne (by decide), hF 5 (by decide)]; exact c.m
  · unfold bgA
    rw [up_ne (by decide)]; exact c.rs
  · rw [f2_eq, up_ne (by decide), hF 3 (by decide)]; exact c.hs
  · unfold bgA
    rw [up_ne (by decide)]; exact c.sn
  · rw [f2_eq, up_ne (by decide), hF 7 (by decide)]; exact c.ln
  · unfold bgA
    rw [up_ne (by decide)]; exact c.pd
  · rw [f2_ne (by omega), f1.1 o (by omega)]
    unfold bgF
    rw [f2_ne (by omega)]
  · unfold bgA
    rw [up_ne (by omega)]
end MQ
