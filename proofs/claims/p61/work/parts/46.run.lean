/-! THE ORDERS CARRIED OUT: the abstract run -/
def oM (S : Ab) (c x : Nat) : Prop := if c = 99 then mayC S else if c = 98 then ¬ lfN S.br 6 0 = 0 else if c = 97 then ¬ S.op = 0 else if c = 115 then mayS S x else if c = 109 then mayM S x else if c = 112 then mayP S x 0 else if c = 114 then mayP S x 1 else True
noncomputable def oS (S : Ab) (c x y z : Nat) : Ab := if c = 99 then cmS2 S else if c = 98 then setB S (lfN S.br 6 0 - 1) (hd S + 1) else if c = 97 then stand S (hd S) else if c = 115 then stand (curB S x) (S.br x - 1) else if c = 109 then mrgS S x else if c = 112 then pickS S x 0 else if c = 114 then pickS S x 1 else setL S (x * 6 + y) z
def orX (len : Nat) (pd : Nat → Nat) (s : Nat) : Nat := if 48 ≤ hr len pd s ∧ hr len pd s ≤ 51 then hr len pd s - 48 else if hr len pd s = 115 ∨ hr len pd s = 109 then hr len pd (s + 1) - 48 else nm len pd 59 (s + 1)
noncomputable def oN (len : Nat) (pd : Nat → Nat) (s : Nat) (S : Ab) : Ab := oS S (hr len pd s) (orX len pd s) (hr len pd (s + 2) - 48) (nm len pd 99 (s + 4))
noncomputable def rnO (len : Nat) (pd : Nat → Nat) : Nat → Nat → Ab → Nat → Nat × Ab
  | 0, _, S, n => (n, S)
  | k + 1, s, S, n => @ite _ (s < len ∧ oM S (hr len pd s) (orX len pd s)) (Classical.propDecidable _) (rnO len pd k (tO len pd s).2 (oN len pd s S) (n + 1)) (n, S)
section TS
variable {lc r : List Value} {st : am_S} {K : am_K}
theorem sw6068_97 : am_ts 170 97 115 #[124, 116, 108, 170, 170, 170, 170, 170, 170, 170, 170, 170, 141, 170, 170, 150, 170, 160, 132] lc (.int (nI 97) :: r) st K = K 124 lc r st := ts_in (t := 124) (by decide) (by decide) (by decide) rfl
theorem sw6068_98 : am_ts 170 97 115 #[124, 116, 108, 170, 170, 170, 170, 170, 170, 170, 170, 170, 141, 170, 170, 150, 170, 160, 132] lc (.int (nI 98) :: r) st K = K 116 lc r st := ts_in (t := 116) (by decide) (by decide) (by decide) rfl
theorem sw6068_99 : am_ts 170 97 115 #[124, 116, 108, 170, 170, 170, 170, 170, 170, 170, 170, 170, 141, 170, 170, 150, 170, 160, 132] lc (.int (nI 99) :: r) st K = K 108 lc r st := ts_in (t := 108) (by decide) (by decide) (by decide) rfl
theorem sw6068_109 : am_ts 170 97 115 #[124, 116, 108, 170, 170, 170, 170, 170, 170, 170, 170, 170, 141, 170, 170, 150, 170, 160, 132] lc (.int (nI 109) :: r) st K = K 141 lc r st := ts_in (t := 141) (by decide) (by decide) (by decide) rfl
theorem sw6068_112 : am_ts 170 97 115 #[124, 116, 108, 170, 170, 170, 170, 170, 170, 170, 170, 170, 141, 170, 170, 150, 170, 160, 132] lc (.int (nI 112) :: r) st K = K 150 lc r st := ts_in (t := 150) (by decide) (by decide) (by decide) rfl
theorem sw6068_114 : am_ts 170 97 115 #[124, 116, 108, 170, 170, 170, 170, 170, 170, 170, 170, 170, 141, 170, 170, 150, 170, 160, 132] lc (.int (nI 114) :: r) st K = K 160 lc r st := ts_in (t := 160) (by decide) (by decide) (by decide) rfl
theorem sw6068_115 : am_ts 170 97 115 #[124, 116, 108, 170, 170, 170, 170, 170, 170, 170, 170, 170, 141, 170, 170, 150, 170, 160, 132] lc (.int (nI 115) :: r) st K = K 132 lc r st := ts_in (t := 132) (by decide) (by decide) (by decide) rfl
theorem sw6068_lo {x : Nat} (hx : x ≤ 51) : am_ts 170 97 115 #[124, 116, 108, 170, 170, 170, 170, 170, 170, 170, 170, 170, 141, 170, 170, 150, 170, 160, 132] lc (.int (nI x) :: r) st K = K 170 lc r st := ts_out (by omega) (by omega)
theorem sw6069_97 : am_ts 191 97 115 #[130, 119, 108, 191, 191, 191, 191, 191, 191, 191, 191, 191, 153, 191, 191, 165, 191, 178, 141] lc (.int (nI 97) :: r) st K = K 130 lc r st := ts_in (t := 130) (by decide) (by decide) (by decide) rfl
theorem sw6069_98 : am_ts 191 97 115 #[130, 119, 108, 191, 191, 191, 191, 191, 191, 191, 191, 191, 153, 191, 191, 165, 191, 178, 141] lc (.int (nI 98) :: r) st K = K 119 lc r st := ts_in (t := 119) (by decide) (by decide) (by decide) rfl
theorem sw6069_99 : am_ts 191 97 115 #[130, 119, 108, 191, 191, 191, 191, 191, 191, 191, 191, 191, 153, 191, 191, 165, 191, 178, 141] lc (.int (nI 99) :: r) st K = K 108 lc r st := ts_in (t := 108) (by decide) (by decide) (by decide) rfl
theorem sw6069_109 : am_ts 191 97 115 #[130, 119, 108, 191, 191, 191, 191, 191, 191, 191, 191, 191, 153, 191, 191, 165, 191, 178, 141] lc (.int (nI 109) :: r) st K = K 153 lc r st := ts_in (t := 153) (by decide) (by decide) (by decide) rfl
theorem sw6069_112 : am_ts 191 97 115 #[130, 119, 108, 191, 191, 191, 191, 191, 191, 191, 191, 191, 153, 191, 191, 165, 191, 178, 141] lc (.int (nI 112) :: r) st K = K 165 lc r st := ts_in (t := 165) (by decide) (by decide) (by decide) rfl
theorem sw6069_114 : am_ts 191 97 115 #[130, 119, 108, 191, 191, 191, 191, 191, 191, 191, 191, 191, 153, 191, 191, 165, 191, 178, 141] lc (.int (nI 114) :: r) st K = K 178 lc r st := ts_in (t := 178) (by decide) (by decide) (by decide) rfl
theorem sw6069_115 : am_ts 191 97 115 #[130, 119, 108, 191, 191, 191, 191, 191, 191, 191, 191, 191, 153, 191, 191, 165, 191, 178, 141] lc (.int (nI 115) :: r) st K = K 141 lc r st := ts_in (t := 141) (by decide) (by decide) (by decide) rfl
theorem sw6069_lo {x : Nat} (hx : x ≤ 51) : am_ts 191 97 115 #[130, 119, 108, 191, 191, 191, 191, 191, 191, 191, 191, 191, 153, 191, 191, 165, 191, 178, 141] lc (.int (nI x) :: r) st K = K 191 lc r st := ts_out (by omega) (by omega)
end TS
section RO
variable {d cl sl : Nat} {X : am_X} {F A : Nat → Nat → Int32} {L : Nat → Nat → Int64} {P : am_Q} {G : Fu} {s : Nat} {S : Ab}
theorem wS_oN {len : Nat} {pd : Nat → Nat} (h : wS S) (hs : s < len) (ok : (tO len pd s).1 = true) (hm : oM S (hr len pd s) (orX len pd s)) : wS (oN len pd s S) := by
  obtain ⟨-, w1, w2, w3, w4⟩ := tO_w hs ok
  unfold oN oS
  unfold oM at hm
  by_cases e1 : hr len pd s = 99
  · rw [if_pos e1] at hm ⊢
    exact wS_addC h hm.2.2 (by split; exact h.mgn; exact Nat.zero_le _)
  · rw [if_neg e1] at hm ⊢
    by_cases e2 : hr len pd s = 98
    · rw [if_pos e2] at hm ⊢
      exact wS_setB h (by have := hd_n h; omega) (fun _ => by omega)
    · rw [if_neg e2] at hm ⊢
      by_cases e3 : hr len pd s = 97
      · rw [if_pos e3] at hm ⊢
        exact wS_stand h (hd_n h)
      · rw [if_neg e3] at hm ⊢
        by_cases e4 : hr len pd s = 115
        · rw [if_pos e4] at hm ⊢
          have e5 : orX len pd s = hr len pd (s + 1) - 48 := by unfold orX; rw [if_neg (by omega), if_pos (Or.inl e4)]
          have hx := (w2 (Or.inl e4)).2
          rw [← e5] at hx
          have hb := h.brn _ hx
          exact wS_stand (wS_cur h hx hm.1) (by have := hm.1; show _ < S.n; omega)
        · rw [if_neg e4] at hm ⊢
          by_cases e5 : hr len pd s = 109
          · rw [if_pos e5] at hm ⊢
            have e6 : orX len pd s = hr len pd (s + 1) - 48 := by unfold orX; rw [if_neg (by omega), if_pos (Or.inr e5)]
            have hx := (w2 (Or.inr e5)).2
            rw [← e6] at hx
            exact wS_mrg h hx hm
          · rw [if_neg e5] at hm ⊢
            by_cases e6 : hr len pd s = 112
            · rw [if_pos e6] at hm ⊢
              exact wS_pick h hm
            · rw [if_neg e6] at hm ⊢
              by_cases e7 : hr len pd s = 114
              · rw [if_pos e7] at hm ⊢
                exact wS_pick h hm
              · rw [if_neg e7] at hm ⊢
                have e8 : 48 ≤ hr len pd s ∧ hr len pd s ≤ 51 := by omega
                have e9 : orX len pd s = hr len pd s - 48 := by unfold orX; rw [if_pos e8]
                exact wS_setL h (w1 e8).2.2.2.2
theorem r_mayCarry (c : gF F A G) (hs : s < G.len) (ok : (tO G.len G.pd s).1 = true) (hcl : 70 < cl) : ∃ F2 A2, (∀ P, am_Ca X (d + 6) 6067 [.ref 0, .int (nI s)] (am_Z cl sl F A L) P = P (.inl (some (.int (bI (oM G.S (hr G.len G.pd s) (orX G.len G.pd s)))))) (am_Z cl sl F2 A2 L)) ∧ gF F2 A2 G ∧ Fm F A F2 A2 := by
  have h60 := c.p.2.1
  obtain ⟨-, w1, w2, w3, w4⟩ := tO_w hs ok
  have es := hr_sg (pd := G.pd) hs
  unfold oM
  by_cases e0 : hr G.len G.pd s = 99
  · rw [if_pos e0]
    refine ⟨F, A, fun P => ?_, c, Fm_id⟩
    rw [c6067]
    simp (disch := omega) only [s_numberFrom c.p, s_signAt c.p, es, e0, r_mayCommit c.R c.w, sw6068_97, sw6068_98, sw6068_99, sw6068_109, sw6068_112, sw6068_114, sw6068_115, sw6068_lo, u6067_0, u6067_1, u6067_4, u6067_5, u6067_6, u6067_7, u6067_10, u6067_11, u6067_12, u6067_15, u6067_16, u6067_19, u6067_108, u6067_109, u6067_112, u6067_115, u6067_116, u6067_117, u6067_120, u6067_123, u6067_124, u6067_125, u6067_128, u6067_131, u6067_132, u6067_133, u6067_136, u6067_137, u6067_140, u6067_141, u6067_142, u6067_145, u6067_146, u6067_149, u6067_150, u6067_151, u6067_154, u6067_155, u6067_156, u6067_159, u6067_160, u6067_161, u6067_164, u6067_165, u6067_166, u6067_169, u6067_170, u6067_171, gt_0_0, ob_1, gt_0_1, ob_3, ki_0, ki_1, af_x hd_6067, decide_eq_true_eq, if_true, if_false, f2_ne, f2_eq, up_ne, up_eq, kc_int, kc_ref, kc_retAddr, kc_long, kc_double, af_n, af_v, z0, z1, n_of, nz6, nz4, bI_T, bI_F, bI_01, n_lt, n_le, n_eq, n_add, n_mul, n_sub, n_clamp, n_vp, m_lt, m_le, m_eq, m_eq2, m_ltm, m_add, true_and, and_true, eq_self, if_pos, if_neg, List.length_nil, List.length_cons, Nat.reduceAdd, Nat.reduceLeDiff, Nat.zero_le, not_true_eq_false, not_false_eq_true, true_or, or_true]
  rw [if_neg e0]
  by_cases e1 : hr G.len G.pd s = 98
  · rw [if_pos e1]
    refine ⟨F, A, fun P => ?_, c, Fm_id⟩
    rw [c6067]
    simp (disch := omega) only [s_numberFrom c.p, s_signAt c.p, es, e1, r_mayBranch c.R c.w, sw6068_97, sw6068_98, sw6068_99, sw6068_109, sw6068_112, sw6068_114, sw6068_115, sw6068_lo, u6067_0, u6067_1, u6067_4, u6067_5, u6067_6, u6067_7, u6067_10, u6067_11, u6067_12, u6067_15, u6067_16, u6067_19, u6067_108, u6067_109, u6067_112, u6067_115, u6067_116, u6067_117, u6067_120, u6067_123, u6067_124, u6067_125, u6067_128, u6067_131, u6067_132, u6067_133, u6067_136, u6067_137, u6067_140, u6067_141, u6067_142, u6067_145, u6067_146, u6067_149, u6067_150, u6067_151, u6067_154, u6067_155, u6067_156, u6067_159, u6067_160, u6067_161, u6067_164, u6067_165, u6067_166, u6067_169, u6067_170, u6067_171, gt_0_0, ob_1, gt_0_1, ob_3, ki_0, ki_1, af_x hd_6067, decide_eq_true_eq, if_true, if_false, f2_ne, f2_eq, up_ne, up_eq, kc_int, kc_ref, kc_retAddr, kc_long, kc_double, af_n, af_v, z0, z1, n_of, nz6, nz4, bI_T, bI_F, bI_01, n_lt, n_le, n_eq, n_add, n_mul, n_sub, n_clamp, n_vp, m_lt, m_le, m_eq, m_eq2, m_ltm, m_add, true_and, and_true, eq_self, if_pos, if_neg, List.length_nil, List.length_cons, Nat.reduceAdd, Nat.reduceLeDiff, Nat.zero_le, not_true_eq_false, not_false_eq_true, true_or, or_true]
  rw [if_neg e1]
  by_cases e2 : hr G.len G.pd s = 97
  · rw [if_pos e2]
    refine ⟨F, A, fun P => ?_, c, Fm_id⟩
    rw [c6067]
    simp (disch := omega) only [s_numberFrom c.p, s_signAt c.p, es, e2, r_mayAbort c.R c.w, sw6068_97, sw6068_98, sw6068_99, sw6068_109, sw6068_112, sw6068_114, sw6068_115, sw6068_lo, u6067_0, u6067_1, u6067_4, u6067_5, u6067_6, u6067_7, u6067_10, u6067_11, u6067_12, u6067_15, u6067_16, u6067_19, u6067_108, u6067_109, u6067_112, u6067_115, u6067_116, u6067_117, u6067_120, u6067_123, u6067_124, u6067_125, u6067_128, u6067_131, u6067_132, u6067_133, u6067_136, u6067_137, u6067_140, u6067_141, u6067_142, u6067_145, u6067_146, u6067_149, u6067_150, u6067_151, u6067_154, u6067_155, u6067_156, u6067_159, u6067_160, u6067_161, u6067_164, u6067_165, u6067_166, u6067_169, u6067_170, u6067_171, gt_0_0, ob_1, gt_0_1, ob_3, ki_0, ki_1, af_x hd_6067, decide_eq_true_eq, if_true, if_false, f2_ne, f2_eq, up_ne, up_eq, kc_int, kc_ref, kc_retAddr, kc_long, kc_double, af_n, af_v, z0, z1, n_of, nz6, nz4, bI_T, bI_F, bI_01, n_lt, n_le, n_eq, n_add, n_mul, n_sub, n_clamp, n_vp, m_lt, m_le, m_eq, m_eq2, m_ltm, m_add, true_and, and_true, eq_self, if_pos, if_neg, List.length_nil, List.length_cons, Nat.reduceAdd, Nat.reduceLeDiff, Nat.zero_le, not_true_eq_false, not_false_eq_true, true_or, or_true]
  rw [if_neg e2]
  by_cases e3 : hr G.len G.pd s = 115
  · rw [if_pos e3]
    have ex : orX G.len G.pd s = hr G.len G.pd (s + 1) - 48 := by unfold orX; rw [if_neg (by omega), if_pos (Or.inl e3)]
    obtain ⟨en, hx⟩ := w2 (Or.inl e3)
    rw [← ex] at en hx
    refine ⟨F, A, fun P => ?_, c, Fm_id⟩
    rw [c6067]
    simp (disch := omega) only [s_numberFrom c.p, s_signAt c.p, es, e3, en, r_maySwitch c.R c.w hx, sw6068_97, sw6068_98, sw6068_99, sw6068_109, sw6068_112, sw6068_114, sw6068_115, sw6068_lo, u6067_0, u6067_1, u6067_4, u6067_5, u6067_6, u6067_7, u6067_10, u6067_11, u6067_12, u6067_15, u6067_16, u6067_19, u6067_108, u6067_109, u6067_112, u6067_115, u6067_116, u6067_117, u6067_120, u6067_123, u6067_124, u6067_125, u6067_128, u6067_131, u6067_132, u6067_133, u6067_136, u6067_137, u6067_140, u6067_141, u6067_142, u6067_145, u6067_146, u6067_149, u6067_150, u6067_151, u6067_154, u6067_155, u6067_156, u6067_159, u6067_160, u6067_161, u6067_164, u6067_165, u6067_166, u6067_169, u6067_170, u6067_171, gt_0_0, ob_1, gt_0_1, ob_3, ki_0, ki_1, af_x hd_6067, decide_eq_true_eq, if_true, if_false, f2_ne, f2_eq, up_ne, up_eq, kc_int, kc_ref, kc_retAddr, kc_long, kc_double, af_n, af_v, z0, z1, n_of, nz6, nz4, bI_T, bI_F, bI_01, n_lt, n_le, n_eq, n_add, n_mul, n_sub, n_clamp, n_vp, m_lt, m_le, m_eq, m_eq2, m_ltm, m_add, true_and, and_true, eq_self, if_pos, if_neg, List.length_nil, List.length_cons, Nat.reduceAdd, Nat.reduceLeDiff, Nat.zero_le, not_true_eq_false, not_false_eq_true, true_or, or_true]
  rw [if_neg e3]
  by_cases e4 : hr G.len G.pd s = 109
  · rw [if_pos e4]
    have ex : orX G.len G.pd s = hr G.len G.pd (s + 1) - 48 := by unfold orX; rw [if_neg (by omega), if_pos (Or.inr e4)]
    obtain ⟨en, hx⟩ := w2 (Or.inr e4)
    rw [← ex] at en hx
    obtain ⟨A2, e, R2, f2⟩ := r_mayMerge (d := d) (X := X) (cl := cl) (sl := sl) (L := L) c.R c.w hx
    refine ⟨F, A2, fun P => ?_, gF_fr c R2 f2, Fm_fr f2⟩
    rw [c6067]
    simp (disch := omega) only [s_numberFrom c.p, s_signAt c.p, es, e4, en, e, sw6068_97, sw6068_98, sw6068_99, sw6068_109, sw6068_112, sw6068_114, sw6068_115, sw6068_lo, u6067_0, u6067_1, u6067_4, u6067_5, u6067_6, u6067_7, u6067_10, u6067_11, u6067_12, u6067_15, u6067_16, u6067_19, u6067_108, u6067_109, u6067_112, u6067_115, u6067_116, u6067_117, u6067_120, u6067_123, u6067_124, u6067_125, u6067_128, u6067_131, u6067_132, u6067_133, u6067_136, u6067_137, u6067_140, u6067_141, u6067_142, u6067_145, u6067_146, u6067_149, u6067_150, u6067_151, u6067_154, u6067_155, u6067_156, u6067_159, u6067_160, u6067_161, u6067_164, u6067_165, u6067_166, u6067_169, u6067_170, u6067_171, gt_0_0, ob_1, gt_0_1, ob_3, ki_0, ki_1, af_x hd_6067, decide_eq_true_eq, if_true, if_false, f2_ne, f2_eq, up_ne, up_eq, kc_int, kc_ref, kc_retAddr, kc_long, kc_double, af_n, af_v, z0, z1, n_of, nz6, nz4, bI_T, bI_F, bI_01, n_lt, n_le, n_eq, n_add, n_mul, n_sub, n_clamp, n_vp, m_lt, m_le, m_eq, m_eq2, m_ltm, m_add, true_and, and_true, eq_self, if_pos, if_neg, List.length_nil, List.length_cons, Nat.reduceAdd, Nat.reduceLeDiff, Nat.zero_le, not_true_eq_false, not_false_eq_true, true_or, or_true]
  rw [if_neg e4]
  by_cases e5 : hr G.len G.pd s = 112
  · rw [if_pos e5]
    have ex : orX G.len G.pd s = nm G.len G.pd 59 (s + 1) := by unfold orX; rw [if_neg (by omega), if_neg (by omega)]
    obtain ⟨en, hx⟩ := w3 (Or.inl e5)
    rw [← ex] at en hx
    obtain ⟨F2, A2, e, R2, f2⟩ := r_mayPick (d := d + 1) (X := X) (cl := cl) (sl := sl) (L := L) c.R c.w hx (k := 0) (by decide) hcl
    refine ⟨F2, A2, fun P => ?_, gF_fr c R2 f2, Fm_fr f2⟩
    rw [c6067]
    simp (disch := omega) only [s_numberFrom c.p, s_signAt c.p, es, e5, en, e, sw6068_97, sw6068_98, sw6068_99, sw6068_109, sw6068_112, sw6068_114, sw6068_115, sw6068_lo, u6067_0, u6067_1, u6067_4, u6067_5, u6067_6, u6067_7, u6067_10, u6067_11, u6067_12, u6067_15, u6067_16, u6067_19, u6067_108, u6067_109, u6067_112, u6067_115, u6067_116, u6067_117, u6067_120, u6067_123, u6067_124, u6067_125, u6067_128, u6067_131, u6067_132, u6067_133, u6067_136, u6067_137, u6067_140, u6067_141, u6067_142, u6067_145, u6067_146, u6067_149, u6067_150, u6067_151, u6067_154, u6067_155, u6067_156, u6067_159, u6067_160, u6067_161, u6067_164, u6067_165, u6067_166, u6067_169, u6067_170, u6067_171, gt_0_0, ob_1, gt_0_1, ob_3, ki_0, ki_1, af_x hd_6067, decide_eq_true_eq, if_true, if_false, f2_ne, f2_eq, up_ne, up_eq, kc_int, kc_ref, kc_retAddr, kc_long, kc_double, af_n, af_v, z0, z1, n_of, nz6, nz4, bI_T, bI_F, bI_01, n_lt, n_le, n_eq, n_add, n_mul, n_sub, n_clamp, n_vp, m_lt, m_le, m_eq, m_eq2, m_ltm, m_add, true_and, and_true, eq_self, if_pos, if_neg, List.length_nil, List.length_cons, Nat.reduceAdd, Nat.reduceLeDiff, Nat.zero_le, not_true_eq_false, not_false_eq_true, true_or, or_true]
  rw [if_neg e5]
  by_cases e6 : hr G.len G.pd s = 114
  · rw [if_pos e6]
    have ex : orX G.len G.pd s = nm G.len G.pd 59 (s + 1) := by unfold orX; rw [if_neg (by omega), if_neg (by omega)]
    obtain ⟨en, hx⟩ := w3 (Or.inr e6)
    rw [← ex] at en hx
    obtain ⟨F2, A2, e, R2, f2⟩ := r_mayPick (d := d + 1) (X := X) (cl := cl) (sl := sl) (L := L) c.R c.w hx (k := 1) (by decide) hcl
    refine ⟨F2, A2, fun P => ?_, gF_fr c R2 f2, Fm_fr f2⟩
    rw [c6067]
    simp (disch := omega) only [s_numberFrom c.p, s_signAt c.p, es, e6, en, e, sw6068_97, sw6068_98, sw6068_99, sw6068_109, sw6068_112, sw6068_114, sw6068_115, sw6068_lo, u6067_0, u6067_1, u6067_4, u6067_5, u6067_6, u6067_7, u6067_10, u6067_11, u6067_12, u6067_15, u6067_16, u6067_19, u6067_108, u6067_109, u6067_112, u6067_115, u6067_116, u6067_117, u6067_120, u6067_123, u6067_124, u6067_125, u6067_128, u6067_131, u6067_132, u6067_133, u6067_136, u6067_137, u6067_140, u6067_141, u6067_142, u6067_145, u6067_146, u6067_149, u6067_150, u6067_151, u6067_154, u6067_155, u6067_156, u6067_159, u6067_160, u6067_161, u6067_164, u6067_165, u6067_166, u6067_169, u6067_170, u6067_171, gt_0_0, ob_1, gt_0_1, ob_3, ki_0, ki_1, af_x hd_6067, decide_eq_true_eq, if_true, if_false, f2_ne, f2_eq, up_ne, up_eq, kc_int, kc_ref, kc_retAddr, kc_long, kc_double, af_n, af_v, z0, z1, n_of, nz6, nz4, bI_T, bI_F, bI_01, n_lt, n_le, n_eq, n_add, n_mul, n_sub, n_clamp, n_vp, m_lt, m_le, m_eq, m_eq2, m_ltm, m_add, true_and, and_true, eq_self, if_pos, if_neg, List.length_nil, List.length_cons, Nat.reduceAdd, Nat.reduceLeDiff, Nat.zero_le, not_true_eq_false, not_false_eq_true, true_or, or_true]
  rw [if_neg e6]
  have e8 : 48 ≤ hr G.len G.pd s ∧ hr G.len G.pd s ≤ 51 := by omega
  refine ⟨F, A, fun P => ?_, c, Fm_id⟩
  rw [bI_T, c6067]
  simp (disch := omega) only [s_numberFrom c.p, s_signAt c.p, es, sw6068_97, sw6068_98, sw6068_99, sw6068_109, sw6068_112, sw6068_114, sw6068_115, sw6068_lo, u6067_0, u6067_1, u6067_4, u6067_5, u6067_6, u6067_7, u6067_10, u6067_11, u6067_12, u6067_15, u6067_16, u6067_19, u6067_108, u6067_109, u6067_112, u6067_115, u6067_116, u6067_117, u6067_120, u6067_123, u6067_124, u6067_125, u6067_128, u6067_131, u6067_132, u6067_133, u6067_136, u6067_137, u6067_140, u6067_141, u6067_142, u6067_145, u6067_146, u6067_149, u6067_150, u6067_151, u6067_154, u6067_155, u6067_156, u6067_159, u6067_160, u6067_161, u6067_164, u6067_165, u6067_166, u6067_169, u6067_170, u6067_171, gt_0_0, ob_1, gt_0_1, ob_3, ki_0, ki_1, af_x hd_6067, decide_eq_true_eq, if_true, if_false, f2_ne, f2_eq, up_ne, up_eq, kc_int, kc_ref, kc_retAddr, kc_long, kc_double, af_n, af_v, z0, z1, n_of, nz6, nz4, bI_T, bI_F, bI_01, n_lt, n_le, n_eq, n_add, n_mul, n_sub, n_clamp, n_vp, m_lt, m_le, m_eq, m_eq2, m_ltm, m_add, true_and, and_true, eq_self, if_pos, if_neg, List.length_nil, List.length_cons, Nat.reduceAdd, Nat.reduceLeDiff, Nat.zero_le, not_true_eq_false, not_false_eq_true, true_or, or_true]
theorem r_carry (c : gF F A G) (hs : s < G.len) (ok : (tO G.len G.pd s).1 = true) (hm : oM G.S (hr G.len G.pd s) (orX G.len G.pd s)) (hcl : 70 < cl) : ∃ F2 A2, (∀ P, am_Ca X (d + 6) 6068 [.ref 0, .int (nI s)] (am_Z cl sl F A L) P = P (.inl none) (am_Z cl sl F2 A2 L)) ∧ gF F2 A2 (setG G (oN G.len G.pd s G.S)) ∧ Fm F A F2 A2 := by
  have hw := wS_oN c.w hs ok hm
  have h60 := c.p.2.1
  obtain ⟨-, w1, w2, w3, w4⟩ := tO_w hs ok
  have es := hr_sg (pd := G.pd) hs
  unfold oN oS at *
  unfold oM at hm
  by_cases e0 : hr G.len G.pd s = 99
  · rw [if_pos e0] at hm hw ⊢
    obtain ⟨F2, A2, e, R2, f2⟩ := r_doCommit (d := d + 1) (X := X) (cl := cl) (sl := sl) (L := L) c.R c.w hm.2.2 hcl
    refine ⟨F2, A2, fun P => ?_, gF_set c R2 hw f2, Fm_fr f2⟩
    rw [c6068]
    simp (disch := omega) only [s_numberFrom c.p, s_signAt c.p, es, e0, e, sw6069_97, sw6069_98, sw6069_99, sw6069_109, sw6069_112, sw6069_114, sw6069_115, sw6069_lo, u6068_0, u6068_1, u6068_4, u6068_5, u6068_6, u6068_7, u6068_10, u6068_11, u6068_12, u6068_15, u6068_16, u6068_19, u6068_108, u6068_109, u6068_112, u6068_115i, u6068_115r, u6068_116, u6068_119, u6068_120, u6068_123, u6068_126i, u6068_126r, u6068_127, u6068_130, u6068_131, u6068_134, u6068_137i, u6068_137r, u6068_138, u6068_141, u6068_142, u6068_145, u6068_146, u6068_149i, u6068_149r, u6068_150, u6068_153, u6068_154, u6068_157, u6068_158, u6068_161i, u6068_161r, u6068_162, u6068_165, u6068_166, u6068_169, u6068_170, u6068_171, u6068_174i, u6068_174r, u6068_175, u6068_178, u6068_179, u6068_182, u6068_183, u6068_184, u6068_187i, u6068_187r, u6068_188, u6068_191, u6068_192, u6068_195, u6068_196, u6068_199, u6068_200, u6068_203, u6068_204, u6068_205, u6068_206, u6068_209, u6068_212, u6068_213, u6068_214, u6068_217, u6068_218, u6068_219, u6068_222, u6068_223, u6068_224, u6068_225, u6068_228, u6068_231i, u6068_231r, u6068_232, gt_0_0, ob_1, gt_0_1, ob_3, ki_0, ki_1, ki_2, ki_4, af_x hd_6068, decide_eq_true_eq, if_true, if_false, f2_ne, f2_eq, up_ne, up_eq, kc_int, kc_ref, kc_retAddr, kc_long, kc_double, af_n, af_v, z0, z1, n_of, nz6, nz4, bI_T, bI_F, bI_01, n_lt, n_le, n_eq, n_add, n_mul, n_sub, n_clamp, n_vp, m_lt, m_le, m_eq, m_eq2, m_ltm, m_add, true_and, and_true, eq_self, if_pos, if_neg, List.length_nil, List.length_cons, Nat.reduceAdd, Nat.reduceLeDiff, Nat.zero_le, not_true_eq_false, not_false_eq_true, true_or, or_true]
  rw [if_neg e0] at hm hw ⊢
  by_cases e1 : hr G.len G.pd s = 98
  · rw [if_pos e1] at hm hw ⊢
    obtain ⟨F2, A2, e, R2, f2⟩ := r_doBranch (d := d + 1) (X := X) (cl := cl) (sl := sl) (L := L) c.R c.w (z := lfN G.S.br 6 0 - 1) (by omega)
    refine ⟨F2, A2, fun P => ?_, gF_set c R2 hw f2, Fm_fr f2⟩
    rw [c6068]
    simp (disch := omega) only [s_numberFrom c.p, s_signAt c.p, es, e1, e, sw6069_97, sw6069_98, sw6069_99, sw6069_109, sw6069_112, sw6069_114, sw6069_115, sw6069_lo, u6068_0, u6068_1, u6068_4, u6068_5, u6068_6, u6068_7, u6068_10, u6068_11, u6068_12, u6068_15, u6068_16, u6068_19, u6068_108, u6068_109, u6068_112, u6068_115i, u6068_115r, u6068_116, u6068_119, u6068_120, u6068_123, u6068_126i, u6068_126r, u6068_127, u6068_130, u6068_131, u6068_134, u6068_137i, u6068_137r, u6068_138, u6068_141, u6068_142, u6068_145, u6068_146, u6068_149i, u6068_149r, u6068_150, u6068_153, u6068_154, u6068_157, u6068_158, u6068_161i, u6068_161r, u6068_162, u6068_165, u6068_166, u6068_169, u6068_170, u6068_171, u6068_174i, u6068_174r, u6068_175, u6068_178, u6068_179, u6068_182, u6068_183, u6068_184, u6068_187i, u6068_187r, u6068_188, u6068_191, u6068_192, u6068_195, u6068_196, u6068_199, u6068_200, u6068_203, u6068_204, u6068_205, u6068_206, u6068_209, u6068_212, u6068_213, u6068_214, u6068_217, u6068_218, u6068_219, u6068_222, u6068_223, u6068_224, u6068_225, u6068_228, u6068_231i, u6068_231r, u6068_232, gt_0_0, ob_1, gt_0_1, ob_3, ki_0, ki_1, ki_2, ki_4, af_x hd_6068, decide_eq_true_eq, if_true, if_false, f2_ne, f2_eq, up_ne, up_eq, kc_int, kc_ref, kc_retAddr, kc_long, kc_double, af_n, af_v, z0, z1, n_of, nz6, nz4, bI_T, bI_F, bI_01, n_lt, n_le, n_eq, n_add, n_mul, n_sub, n_clamp, n_vp, m_lt, m_le, m_eq, m_eq2, m_ltm, m_add, true_and, and_true, eq_self, if_pos, if_neg, List.length_nil, List.length_cons, Nat.reduceAdd, Nat.reduceLeDiff, Nat.zero_le, not_true_eq_false, not_false_eq_true, true_or, or_true]
  rw [if_neg e1] at hm hw ⊢
  by_cases e2 : hr G.len G.pd s = 97
  · rw [if_pos e2] at hm hw ⊢
    obtain ⟨F2, A2, e, R2, f2⟩ := r_doAbort (d := d + 1) (X := X) (cl := cl) (sl := sl) (L := L) c.R c.w hcl
    refine ⟨F2, A2, fun P => ?_, gF_set c R2 hw f2, Fm_fr f2⟩
    rw [c6068]
    simp (disch := omega) only [s_numberFrom c.p, s_signAt c.p, es, e2, e, sw6069_97, sw6069_98, sw6069_99, sw6069_109, sw6069_112, sw6069_114, sw6069_115, sw6069_lo, u6068_0, u6068_1, u6068_4, u6068_5, u6068_6, u6068_7, u6068_10, u6068_11, u6068_12, u6068_15, u6068_16, u6068_19, u6068_108, u6068_109, u6068_112, u6068_115i, u6068_115r, u6068_116, u6068_119, u6068_120, u6068_123, u6068_126i, u6068_126r, u6068_127, u6068_130, u6068_131, u6068_134, u6068_137i, u6068_137r, u6068_138, u6068_141, u6068_142, u6068_145, u6068_146, u6068_149i, u6068_149r, u6068_150, u6068_153, u6068_154, u6068_157, u6068_158, u6068_161i, u6068_161r, u6068_162, u6068_165, u6068_166, u6068_169, u6068_170, u6068_171, u6068_174i, u6068_174r, u6068_175, u6068_178, u6068_179, u6068_182, u6068_183, u6068_184, u6068_187i, u6068_187r, u6068_188, u6068_191, u6068_192, u6068_195, u6068_196, u6068_199, u6068_200, u6068_203, u6068_204, u6068_205, u6068_206, u6068_209, u6068_212, u6068_213, u6068_214, u6068_217, u6068_218, u6068_219, u6068_222, u6068_223, u6068_224, u6068_225, u6068_228, u6068_231i, u6068_231r, u6068_232, gt_0_0, ob_1, gt_0_1, ob_3, ki_0, ki_1, ki_2, ki_4, af_x hd_6068, decide_eq_true_eq, if_true, if_false, f2_ne, f2_eq, up_ne, up_eq, kc_int, kc_ref, kc_retAddr, kc_long, kc_double, af_n, af_v, z0, z1, n_of, nz6, nz4, bI_T, bI_F, bI_01, n_lt, n_le, n_eq, n_add, n_mul, n_sub, n_clamp, n_vp, m_lt, m_le, m_eq, m_eq2, m_ltm, m_add, true_and, and_true, eq_self, if_pos, if_neg, List.length_nil, List.length_cons, Nat.reduceAdd, Nat.reduceLeDiff, Nat.zero_le, not_true_eq_false, not_false_eq_true, true_or, or_true]
  rw [if_neg e2] at hm hw ⊢
  by_cases e3 : hr G.len G.pd s = 115
  · rw [if_pos e3] at hm hw ⊢
    have ex : orX G.len G.pd s = hr G.len G.pd (s + 1) - 48 := by unfold orX; rw [if_neg (by omega), if_pos (Or.inl e3)]
    obtain ⟨en, hx⟩ := w2 (Or.inl e3)
    rw [← ex] at en hx
    obtain ⟨F2, A2, e, R2, f2⟩ := r_doSwitch (d := d + 1) (X := X) (cl := cl) (sl := sl) (L := L) c.R c.w hx hm.1 hcl
    refine ⟨F2, A2, fun P => ?_, gF_set c R2 hw f2, Fm_fr f2⟩
    rw [c6068]
    simp (disch := omega) only [s_numberFrom c.p, s_signAt c.p, es, e3, en, e, sw6069_97, sw6069_98, sw6069_99, sw6069_109, sw6069_112, sw6069_114, sw6069_115, sw6069_lo, u6068_0, u6068_1, u6068_4, u6068_5, u6068_6, u6068_7, u6068_10, u6068_11, u6068_12, u6068_15, u6068_16, u6068_19, u6068_108, u6068_109, u6068_112, u6068_115i, u6068_115r, u6068_116, u6068_119, u6068_120, u6068_123, u6068_126i, u6068_126r, u6068_127, u6068_130, u6068_131, u6068_134, u6068_137i, u6068_137r, u6068_138, u6068_141, u6068_142, u6068_145, u6068_146, u6068_149i, u6068_149r, u6068_150, u6068_153, u6068_154, u6068_157, u6068_158, u6068_161i, u6068_161r, u6068_162, u6068_165, u6068_166, u6068_169, u6068_170, u6068_171, u6068_174i, u6068_174r, u6068_175, u6068_178, u6068_179, u6068_182, u6068_183, u6068_184, u6068_187i, u6068_187r, u6068_188, u6068_191, u6068_192, u6068_195, u6068_196, u6068_199, u6068_200, u6068_203, u6068_204, u6068_205, u6068_206, u6068_209, u6068_212, u6068_213, u6068_214, u6068_217, u6068_218, u6068_219, u6068_222, u6068_223, u6068_224, u6068_225, u6068_228, u6068_231i, u6068_231r, u6068_232, gt_0_0, ob_1, gt_0_1, ob_3, ki_0, ki_1, ki_2, ki_4, af_x hd_6068, decide_eq_true_eq, if_true, if_false, f2_ne, f2_eq, up_ne, up_eq, kc_int, kc_ref, kc_retAddr, kc_long, kc_double, af_n, af_v, z0, z1, n_of, nz6, nz4, bI_T, bI_F, bI_01, n_lt, n_le, n_eq, n_add, n_mul, n_sub, n_clamp, n_vp, m_lt, m_le, m_eq, m_eq2, m_ltm, m_add, true_and, and_true, eq_self, if_pos, if_neg, List.length_nil, List.length_cons, Nat.reduceAdd, Nat.reduceLeDiff, Nat.zero_le, not_true_eq_false, not_false_eq_true, true_or, or_true]
  rw [if_neg e3] at hm hw ⊢
  by_cases e4 : hr G.len G.pd s = 109
  · rw [if_pos e4] at hm hw ⊢
    have ex : orX G.len G.pd s = hr G.len G.pd (s + 1) - 48 := by unfold orX; rw [if_neg (by omega), if_pos (Or.inr e4)]
    obtain ⟨en, hx⟩ := w2 (Or.inr e4)
    rw [← ex] at en hx
    obtain ⟨F2, A2, e, R2, f2⟩ := r_doMerge (d := d) (X := X) (cl := cl) (sl := sl) (L := L) c.R c.w hx hm hcl
    refine ⟨F2, A2, fun P => ?_, gF_set c R2 hw f2, Fm_fr f2⟩
    rw [c6068]
    simp (disch := omega) only [s_numberFrom c.p, s_signAt c.p, es, e4, en, e, sw6069_97, sw6069_98, sw6069_99, sw6069_109, sw6069_112, sw6069_114, sw6069_115, sw6069_lo, u6068_0, u6068_1, u6068_4, u6068_5, u6068_6, u6068_7, u6068_10, u6068_11, u6068_12, u6068_15, u6068_16, u6068_19, u6068_108, u6068_109, u6068_112, u6068_115i, u6068_115r, u6068_116, u6068_119, u6068_120, u6068_123, u6068_126i, u6068_126r, u6068_127, u6068_130, u6068_131, u6068_134, u6068_137i, u6068_137r, u6068_138, u6068_141, u6068_142, u6068_145, u6068_146, u6068_149i, u6068_149r, u6068_150, u6068_153, u6068_154, u6068_157, u6068_158, u6068_161i, u6068_161r, u6068_162, u6068_165, u6068_166, u6068_169, u6068_170, u6068_171, u6068_174i, u6068_174r, u6068_175, u6068_178, u6068_179, u6068_182, u6068_183, u6068_184, u6068_187i, u6068_187r, u6068_188, u6068_191, u6068_192, u6068_195, u6068_196, u6068_199, u6068_200, u6068_203, u6068_204, u6068_205, u6068_206, u6068_209, u6068_212, u6068_213, u6068_214, u6068_217, u6068_218, u6068_219, u6068_222, u6068_223, u6068_224, u6068_225, u6068_228, u6068_231i, u6068_231r, u6068_232, gt_0_0, ob_1, gt_0_1, ob_3, ki_0, ki_1, ki_2, ki_4, af_x hd_6068, decide_eq_true_eq, if_true, if_false, f2_ne, f2_eq, up_ne, up_eq, kc_int, kc_ref, kc_retAddr, kc_long, kc_double, af_n, af_v, z0, z1, n_of, nz6, nz4, bI_T, bI_F, bI_01, n_lt, n_le, n_eq, n_add, n_mul, n_sub, n_clamp, n_vp, m_lt, m_le, m_eq, m_eq2, m_ltm, m_add, true_and, and_true, eq_self, if_pos, if_neg, List.length_nil, List.length_cons, Nat.reduceAdd, Nat.reduceLeDiff, Nat.zero_le, not_true_eq_false, not_false_eq_true, true_or, or_true]
  rw [if_neg e4] at hm hw ⊢
  by_cases e5 : hr G.len G.pd s = 112
  · rw [if_pos e5] at hm hw ⊢
    have ex : orX G.len G.pd s = nm G.len G.pd 59 (s + 1) := by unfold orX; rw [if_neg (by omega), if_neg (by omega)]
    obtain ⟨en, hx⟩ := w3 (Or.inl e5)
    rw [← ex] at en hx
    obtain ⟨F2, A2, e, R2, f2⟩ := r_doPick (d := d) (X := X) (cl := cl) (sl := sl) (L := L) c.R c.w (k := 0) (by decide) hm hcl
    refine ⟨F2, A2, fun P => ?_, gF_set c R2 hw f2, Fm_fr f2⟩
    rw [c6068]
    simp (disch := omega) only [s_numberFrom c.p, s_signAt c.p, es, e5, en, e, sw6069_97, sw6069_98, sw6069_99, sw6069_109, sw6069_112, sw6069_114, sw6069_115, sw6069_lo, u6068_0, u6068_1, u6068_4, u6068_5, u6068_6, u6068_7, u6068_10, u6068_11, u6068_12, u6068_15, u6068_16, u6068_19, u6068_108, u6068_109, u6068_112, u6068_115i, u6068_115r, u6068_116, u6068_119, u6068_120, u6068_123, u6068_126i, u6068_126r, u6068_127, u6068_130, u6068_131, u6068_134, u6068_137i, u6068_137r, u6068_138, u6068_141, u6068_142, u6068_145, u6068_146, u6068_149i, u6068_149r, u6068_150, u6068_153, u6068_154, u6068_157, u6068_158, u6068_161i, u6068_161r, u6068_162, u6068_165, u6068_166, u6068_169, u6068_170, u6068_171, u6068_174i, u6068_174r, u6068_175, u6068_178, u6068_179, u6068_182, u6068_183, u6068_184, u6068_187i, u6068_187r, u6068_188, u6068_191, u6068_192, u6068_195, u6068_196, u6068_199, u6068_200, u6068_203, u6068_204, u6068_205, u6068_206, u6068_209, u6068_212, u6068_213, u6068_214, u6068_217, u6068_218, u6068_219, u6068_222, u6068_223, u6068_224, u6068_225, u6068_228, u6068_231i, u6068_231r, u6068_232, gt_0_0, ob_1, gt_0_1, ob_3, ki_0, ki_1, ki_2, ki_4, af_x hd_6068, decide_eq_true_eq, if_true, if_false, f2_ne, f2_eq, up_ne, up_eq, kc_int, kc_ref, kc_retAddr, kc_long, kc_double, af_n, af_v, z0, z1, n_of, nz6, nz4, bI_T, bI_F, bI_01, n_lt, n_le, n_eq, n_add, n_mul, n_sub, n_clamp, n_vp, m_lt, m_le, m_eq, m_eq2, m_ltm, m_add, true_and, and_true, eq_self, if_pos, if_neg, List.length_nil, List.length_cons, Nat.reduceAdd, Nat.reduceLeDiff, Nat.zero_le, not_true_eq_false, not_false_eq_true, true_or, or_true]
  rw [if_neg e5] at hm hw ⊢
  by_cases e6 : hr G.len G.pd s = 114
  · rw [if_pos e6] at hm hw ⊢
    have ex : orX G.len G.pd s = nm G.len G.pd 59 (s + 1) := by unfold orX; rw [if_neg (by omega), if_neg (by omega)]
    obtain ⟨en, hx⟩ := w3 (Or.inr e6)
    rw [← ex] at en hx
    obtain ⟨F2, A2, e, R2, f2⟩ := r_doPick (d := d) (X := X) (cl := cl) (sl := sl) (L := L) c.R c.w (k := 1) (by decide) hm hcl
    refine ⟨F2, A2, fun P => ?_, gF_set c R2 hw f2, Fm_fr f2⟩
    rw [c6068]
    simp (disch := omega) only [s_numberFrom c.p, s_signAt c.p, es, e6, en, e, sw6069_97, sw6069_98, sw6069_99, sw6069_109, sw6069_112, sw6069_114, sw6069_115, sw6069_lo, u6068_0, u6068_1, u6068_4, u6068_5, u6068_6, u6068_7, u6068_10, u6068_11, u6068_12, u6068_15, u6068_16, u6068_19, u6068_108, u6068_109, u6068_112, u6068_115i, u6068_115r, u6068_116, u6068_119, u6068_120, u6068_123, u6068_126i, u6068_126r, u6068_127, u6068_130, u6068_131, u6068_134, u6068_137i, u6068_137r, u6068_138, u6068_141, u6068_142, u6068_145, u6068_146, u6068_149i, u6068_149r, u6068_150, u6068_153, u6068_154, u6068_157, u6068_158, u6068_161i, u6068_161r, u6068_162, u6068_165, u6068_166, u6068_169, u6068_170, u6068_171, u6068_174i, u6068_174r, u6068_175, u6068_178, u6068_179, u6068_182, u6068_183, u6068_184, u6068_187i, u6068_187r, u6068_188, u6068_191, u6068_192, u6068_195, u6068_196, u6068_199, u6068_200, u6068_203, u6068_204, u6068_205, u6068_206, u6068_209, u6068_212, u6068_213, u6068_214, u6068_217, u6068_218, u6068_219, u6068_222, u6068_223, u6068_224, u6068_225, u6068_228, u6068_231i, u6068_231r, u6068_232, gt_0_0, ob_1, gt_0_1, ob_3, ki_0, ki_1, ki_2, ki_4, af_x hd_6068, decide_eq_true_eq, if_true, if_false, f2_ne, f2_eq, up_ne, up_eq, kc_int, kc_ref, kc_retAddr, kc_long, kc_double, af_n, af_v, z0, z1, n_of, nz6, nz4, bI_T, bI_F, bI_01, n_lt, n_le, n_eq, n_add, n_mul, n_sub, n_clamp, n_vp, m_lt, m_le, m_eq, m_eq2, m_ltm, m_add, true_and, and_true, eq_self, if_pos, if_neg, List.length_nil, List.length_cons, Nat.reduceAdd, Nat.reduceLeDiff, Nat.zero_le, not_true_eq_false, not_false_eq_true, true_or, or_true]
  rw [if_neg e6] at hm hw ⊢
  have e8 : 48 ≤ hr G.len G.pd s ∧ hr G.len G.pd s ≤ 51 := by omega
  have ex : orX G.len G.pd s = hr G.len G.pd s - 48 := by unfold orX; rw [if_pos e8]
  obtain ⟨n1, n2, n3, n4, n5⟩ := w1 e8
  rw [← ex] at n1
  have hx : orX G.len G.pd s < 4 := by omega
  obtain ⟨F2, A2, e, R2, f2⟩ := r_doEdit (d := d + 1) (X := X) (cl := cl) (sl := sl) (L := L) c.R c.w (i := orX G.len G.pd s * 6 + (hr G.len G.pd (s + 2) - 48)) (v := nm G.len G.pd 99 (s + 4)) (by omega) n5
  refine ⟨F2, A2, fun P => ?_, gF_set c R2 hw f2, Fm_fr f2⟩
  rw [c6068]
  simp (disch := omega) only [s_numberFrom c.p, s_signAt c.p, es, n1, n2, n4, f_placeOf, e, sw6069_97, sw6069_98, sw6069_99, sw6069_109, sw6069_112, sw6069_114, sw6069_115, sw6069_lo, u6068_0, u6068_1, u6068_4, u6068_5, u6068_6, u6068_7, u6068_10, u6068_11, u6068_12, u6068_15, u6068_16, u6068_19, u6068_108, u6068_109, u6068_112, u6068_115i, u6068_115r, u6068_116, u6068_119, u6068_120, u6068_123, u6068_126i, u6068_126r, u6068_127, u6068_130, u6068_131, u6068_134, u6068_137i, u6068_137r, u6068_138, u6068_141, u6068_142, u6068_145, u6068_146, u6068_149i, u6068_149r, u6068_150, u6068_153, u6068_154, u6068_157, u6068_158, u6068_161i, u6068_161r, u6068_162, u6068_165, u6068_166, u6068_169, u6068_170, u6068_171, u6068_174i, u6068_174r, u6068_175, u6068_178, u6068_179, u6068_182, u6068_183, u6068_184, u6068_187i, u6068_187r, u6068_188, u6068_191, u6068_192, u6068_195, u6068_196, u6068_199, u6068_200, u6068_203, u6068_204, u6068_205, u6068_206, u6068_209, u6068_212, u6068_213, u6068_214, u6068_217, u6068_218, u6068_219, u6068_222, u6068_223, u6068_224, u6068_225, u6068_228, u6068_231i, u6068_231r, u6068_232, gt_0_0, ob_1, gt_0_1, ob_3, ki_0, ki_1, ki_2, ki_4, af_x hd_6068, decide_eq_true_eq, if_true, if_false, f2_ne, f2_eq, up_ne, up_eq, kc_int, kc_ref, kc_retAddr, kc_long, kc_double, af_n, af_v, z0, z1, n_of, nz6, nz4, bI_T, bI_F, bI_01, n_lt, n_le, n_eq, n_add, n_mul, n_sub, n_clamp, n_vp, m_lt, m_le, m_eq, m_eq2, m_ltm, m_add, true_and, and_true, eq_self, if_pos, if_neg, List.length_nil, List.length_cons, Nat.reduceAdd, Nat.reduceLeDiff, Nat.zero_le, not_true_eq_false, not_false_eq_true, true_or, or_true]
theorem rnO_t {len : Nat} {pd : Nat → Nat} {k n : Nat} (h : s < len ∧ oM S (hr len pd s) (orX len pd s)) : rnO len pd (k + 1) s S n = rnO len pd k (tO len pd s).2 (oN len pd s S) (n + 1) := if_pos h
theorem rnO_f {len : Nat} {pd : Nat → Nat} {k n : Nat} (h : ¬ (s < len ∧ oM S (hr len pd s) (orX len pd s))) : rnO len pd (k + 1) s S n = (n, S) := if_neg h
theorem l_runOrders (hcl : 70 < cl) : ∀ (k s n : Nat) (F A : Nat → Nat → Int32) (G : Fu), k + n = 60 → n ≤ s → s ≤ G.len → stA G.len G.pd 0 s = 0 → gF F A G → ∃ F2 A2, (∀ P, am_g (d + 7) X am_m6005 29 [.ref 0, .int (nI s), .int (nI n)] [] (am_Z cl sl F A L) P = P (.inl (some (.int (nI (rnO G.len G.pd k s G.S n).1)))) (am_Z cl sl F2 A2 L)) ∧ gF F2 A2 (setG G (rnO G.len G.pd k s G.S n).2) ∧ Fm F A F2 A2 := by
  intro k
  induction k with
  | zero =>
    intro s n F A G h1 h2 h3 h4 c
    obtain rfl : n = 60 := by omega
    refine ⟨F, A, fun P => ?_, c, Fm_id⟩
    rw [u6005_29]
    simp (disch := omega) only [u6005_0, u6005_1, u6005_4, u6005_7, u6005_8, u6005_11, u6005_21, u6005_22, u6005_25, u6005_26, u6005_27, u6005_28, u6005_30, u6005_32, u6005_35, u6005_36, u6005_37, u6005_40, u6005_43, u6005_46, u6005_47, u6005_48, u6005_51, u6005_54, u6005_55, u6005_56, u6005_57, u6005_58, u6005_61, u6005_62, u6005_65, u6005_66, u6005_69, u6005_70, u6005_71, u6005_72, u6005_75, u6005_78, u6005_80, gt_0_0, ob_1, ob_0, ki_m1, ki_0, ki_1, ki_60, af_x hd_6005, decide_eq_true_eq, if_true, if_false, f2_ne, f2_eq, up_ne, up_eq, kc_int, kc_ref, kc_retAddr, kc_long, kc_double, af_n, af_v, z0, z1, n_of, nz6, nz4, bI_T, bI_F, bI_01, n_lt, n_le, n_eq, n_add, n_mul, n_sub, n_clamp, n_vp, m_lt, m_le, m_eq, m_eq2, m_ltm, m_add, true_and, and_true, eq_self, if_pos, if_neg, List.length_nil, List.length_cons, Nat.reduceAdd, Nat.reduceLeDiff, Nat.zero_le, not_true_eq_false, not_false_eq_true, true_or, or_true]
    rfl
  | succ k ih =>
    intro s n F A G h1 h2 h3 h4 c
    have h60 := c.p.2.1
    by_cases hs : s < G.len
    · have q := tO_q (pd := G.pd) hs
      have ok : (tO G.len G.pd s).1 = true := by
        cases e : (tO G.len G.pd s).1 with
        | true => rfl
        | false =>
          have := q.2 e
          omega
      obtain ⟨q1, q2⟩ := q.1 ok
      have hw := (tO_w hs ok).1
      have hg := tO_gt ok hs
      obtain ⟨F1, A1, e1, c1, f1⟩ := r_mayCarry (d := d + 1) (X := X) (cl := cl) (sl := sl) (L := L) c hs ok hcl
      by_cases hm : oM G.S (hr G.len G.pd s) (orX G.len G.pd s)
      · rw [rnO_t ⟨hs, hm⟩]
        obtain ⟨F2, A2, e2, c2, f2⟩ := r_carry (d := d + 1) (X := X) (cl := cl) (sl := sl) (L := L) c1 hs ok hm hcl
        obtain ⟨F3, A3, e3, c3, f3⟩ := ih (tO G.len G.pd s).2 (n + 1) F2 A2 (setG G (oN G.len G.pd s G.S)) (by omega) (by omega) q1 (show stA G.len G.pd 0 (tO G.len G.pd s).2 = 0 by rw [← q2]; exact h4) c2
        refine ⟨F3, A3, fun P => ?_, c3, Fm_tr f1 (Fm_tr f2 f3)⟩
        refine Eq.trans ?_ (e3 P)
        rw [u6005_29]
        rw [bI_t hm] at e1
        simp (disch := omega) only [s_length c.p, e1, e2, s_endOfOrder c2.p (show s ≤ (setG G (oN G.len G.pd s G.S)).len from h3), u6005_0, u6005_1, u6005_4, u6005_7, u6005_8, u6005_11, u6005_21, u6005_22, u6005_25, u6005_26, u6005_27, u6005_28, u6005_30, u6005_32, u6005_35, u6005_36, u6005_37, u6005_40, u6005_43, u6005_46, u6005_47, u6005_48, u6005_51, u6005_54, u6005_55, u6005_56, u6005_57, u6005_58, u6005_61, u6005_62, u6005_65, u6005_66, u6005_69, u6005_70, u6005_71, u6005_72, u6005_75, u6005_78, u6005_80, gt_0_0, ob_1, ob_0, ki_m1, ki_0, ki_1, ki_60, af_x hd_6005, decide_eq_true_eq, if_true, if_false, f2_ne, f2_eq, up_ne, up_eq, kc_int, kc_ref, kc_retAddr, kc_long, kc_double, af_n, af_v, z0, z1, n_of, nz6, nz4, bI_T, bI_F, bI_01, n_lt, n_le, n_eq, n_add, n_mul, n_sub, n_clamp, n_vp, m_lt, m_le, m_eq, m_eq2, m_ltm, m_add, true_and, and_true, eq_self, if_pos, if_neg, List.length_nil, List.length_cons, Nat.reduceAdd, Nat.reduceLeDiff, Nat.zero_le, not_true_eq_false, not_false_eq_true, true_or, or_true]
        rw [show endN (setG G (oN G.len G.pd s G.S)).len (setG G (oN G.len G.pd s G.S)).pd ((setG G (oN G.len G.pd s G.S)).len - s) s + 1 = (tO G.len G.pd s).2 from hw]
      · rw [rnO_f (fun z => hm z.2)]
        refine ⟨F1, A1, fun P => ?_, c1, f1⟩
        rw [u6005_29]
        rw [bI_f hm] at e1
        simp (disch := omega) only [s_length c.p, e1, u6005_0, u6005_1, u6005_4, u6005_7, u6005_8, u6005_11, u6005_21, u6005_22, u6005_25, u6005_26, u6005_27, u6005_28, u6005_30, u6005_32, u6005_35, u6005_36, u6005_37, u6005_40, u6005_43, u6005_46, u6005_47, u6005_48, u6005_51, u6005_54, u6005_55, u6005_56, u6005_57, u6005_58, u6005_61, u6005_62, u6005_65, u6005_66, u6005_69, u6005_70, u6005_71, u6005_72, u6005_75, u6005_78, u6005_80, gt_0_0, ob_1, ob_0, ki_m1, ki_0, ki_1, ki_60, af_x hd_6005, decide_eq_true_eq, if_true, if_false, f2_ne, f2_eq, up_ne, up_eq, kc_int, kc_ref, kc_retAddr, kc_long, kc_double, af_n, af_v, z0, z1, n_of, nz6, nz4, bI_T, bI_F, bI_01, n_lt, n_le, n_eq, n_add, n_mul, n_sub, n_clamp, n_vp, m_lt, m_le, m_eq, m_eq2, m_ltm, m_add, true_and, and_true, eq_self, if_pos, if_neg, List.length_nil, List.length_cons, Nat.reduceAdd, Nat.reduceLeDiff, Nat.zero_le, not_true_eq_false, not_false_eq_true, true_or, or_true]
    · rw [rnO_f (fun z => hs z.1)]
      refine ⟨F, A, fun P => ?_, c, Fm_id⟩
      rw [u6005_29]
      simp (disch := omega) only [s_length c.p, u6005_0, u6005_1, u6005_4, u6005_7, u6005_8, u6005_11, u6005_21, u6005_22, u6005_25, u6005_26, u6005_27, u6005_28, u6005_30, u6005_32, u6005_35, u6005_36, u6005_37, u6005_40, u6005_43, u6005_46, u6005_47, u6005_48, u6005_51, u6005_54, u6005_55, u6005_56, u6005_57, u6005_58, u6005_61, u6005_62, u6005_65, u6005_66, u6005_69, u6005_70, u6005_71, u6005_72, u6005_75, u6005_78, u6005_80, gt_0_0, ob_1, ob_0, ki_m1, ki_0, ki_1, ki_60, af_x hd_6005, decide_eq_true_eq, if_true, if_false, f2_ne, f2_eq, up_ne, up_eq, kc_int, kc_ref, kc_retAddr, kc_long, kc_double, af_n, af_v, z0, z1, n_of, nz6, nz4, bI_T, bI_F, bI_01, n_lt, n_le, n_eq, n_add, n_mul, n_sub, n_clamp, n_vp, m_lt, m_le, m_eq, m_eq2, m_ltm, m_add, true_and, and_true, eq_self, if_pos, if_neg, List.length_nil, List.length_cons, Nat.reduceAdd, Nat.reduceLeDiff, Nat.zero_le, not_true_eq_false, not_false_eq_true, true_or, or_true]
theorem k_runOrders (c : gF F A G) (h0 : ffN G.len G.pd G.len 0 0 = 0) (hcl : 70 < cl) : ∃ F2 A2, (∀ P, am_Ca X (d + 8) 6005 [.ref 0] (am_Z cl sl F A L) P = P (.inl (some (.int (nI (rnO G.len G.pd 60 0 G.S 0).1)))) (am_Z cl sl F2 A2 L)) ∧ gF F2 A2 (setG (recG G) (rnO G.len G.pd 60 0 G.S 0).2) ∧ Fm F A F2 A2 := by
  obtain ⟨F1, A1, e1, c1, f1⟩ := f_record (d := d + 4) (X := X) (cl := cl) (sl := sl) (L := L) c hcl
  obtain ⟨F2, A2, e2, c2, f2⟩ := l_runOrders (d := d) (X := X) (cl := cl) (sl := sl) (L := L) hcl 60 0 0 F1 A1 (recG G) rfl (Nat.le_refl _) (Nat.zero_le _) h0 c1
  refine ⟨F2, A2, fun P => ?_, c2, Fm_tr f1 f2⟩
  refine Eq.trans ?_ (e2 P)
  rw [c6005]
  simp (disch := omega) only [s_firstFault c.p, h0, pk_0, e1, u6005_0, u6005_1, u6005_4, u6005_7, u6005_8, u6005_11, u6005_21, u6005_22, u6005_25, u6005_26, u6005_27, u6005_28, u6005_30, u6005_32, u6005_35, u6005_36, u6005_37, u6005_40, u6005_43, u6005_46, u6005_47, u6005_48, u6005_51, u6005_54, u6005_55, u6005_56, u6005_57, u6005_58, u6005_61, u6005_62, u6005_65, u6005_66, u6005_69, u6005_70, u6005_71, u6005_72, u6005_75, u6005_78, u6005_80, gt_0_0, ob_1, ob_0, ki_m1, ki_0, ki_1, ki_60, af_x hd_6005, decide_eq_true_eq, if_true, if_false, f2_ne, f2_eq, up_ne, up_eq, kc_int, kc_ref, kc_retAddr, kc_long, kc_double, af_n, af_v, z0, z1, n_of, nz6, nz4, bI_T, bI_F, bI_01, n_lt, n_le, n_eq, n_add, n_mul, n_sub, n_clamp, n_vp, m_lt, m_le, m_eq, m_eq2, m_ltm, m_add, true_and, and_true, eq_self, if_pos, if_neg, List.length_nil, List.length_cons, Nat.reduceAdd, Nat.reduceLeDiff, Nat.zero_le, not_true_eq_false, not_false_eq_true, true_or, or_true]
theorem k_runOrders_no (c : gF F A G) (h0 : ¬ ffN G.len G.pd G.len 0 0 = 0) (hl : ffN G.len G.pd G.len 0 0 ≤ 100) (hcl : 70 < cl) : am_Ca X (d + 8) 6005 [.ref 0] (am_Z cl sl F A L) P = P (.inr 1) (am_Z (cl + 1) (sl + 6) F A L) := by
  have hcl' : (70 ≤ cl) = True := eq_true (by omega)
  rw [c6005]
  simp (disch := omega) only [s_firstFault c.p, pk_p _ h0, hcl', u6005_0, u6005_1, u6005_4, u6005_7, u6005_8, u6005_11, u6005_21, u6005_22, u6005_25, u6005_26, u6005_27, u6005_28, u6005_30, u6005_32, u6005_35, u6005_36, u6005_37, u6005_40, u6005_43, u6005_46, u6005_47, u6005_48, u6005_51, u6005_54, u6005_55, u6005_56, u6005_57, u6005_58, u6005_61, u6005_62, u6005_65, u6005_66, u6005_69, u6005_70, u6005_71, u6005_72, u6005_75, u6005_78, u6005_80, gt_0_0, ob_1, ob_0, ki_m1, ki_0, ki_1, ki_60, af_x hd_6005, decide_eq_true_eq, if_true, if_false, f2_ne, f2_eq, up_ne, up_eq, kc_int, kc_ref, kc_retAddr, kc_long, kc_double, af_n, af_v, z0, z1, n_of, nz6, nz4, bI_T, bI_F, bI_01, n_lt, n_le, n_eq, n_add, n_mul, n_sub, n_clamp, n_vp, m_lt, m_le, m_eq, m_eq2, m_ltm, m_add, true_and, and_true, eq_self, if_pos, if_neg, List.length_nil, List.length_cons, Nat.reduceAdd, Nat.reduceLeDiff, Nat.zero_le, not_true_eq_false, not_false_eq_true, true_or, or_true]
end RO
