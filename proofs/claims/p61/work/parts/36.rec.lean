/-! RECORDS (object 23, ring 24): states that come back; the snapshot (61) -/
theorem ring_b {i : Nat} (hi : i < 4) : SH (25 + 9 * i) = (0, 5, (SH (25 + 9 * i)).2.2) ∧ 25 + 9 * i < 70 := by
  rcases i with _ | _ | _ | _ | i
  · exact ⟨rfl, by decide⟩
  · exact ⟨rfl, by decide⟩
  · exact ⟨rfl, by decide⟩
  · exact ⟨rfl, by decide⟩
  · omega
section RC
variable {d cl sl : Nat} {X : am_X} {F A : Nat → Nat → Int32} {L : Nat → Nat → Int64} {P : am_Q} {S : Ab} {n : Nat}
theorem ob_r {i : Nat} (hi : i < 4) : am_ob (am_Z cl sl F A L) (25 + 9 * i) 5 = True := ob_g (ring_b hi).2 (ring_b hi).1
theorem ql_24 {pc : Nat} {lc r : List Value} {K : am_K} {i : Nat} (hi : i < 4) : am_ql pc lc (.int (nI i) :: .ref 24 :: r) (am_Z cl sl F A L) K = K pc lc (.ref (25 + 9 * i) :: r) (am_Z cl sl F A L) := by
  unfold am_ql am_ar
  dsimp only
  rw [n_clamp (by omega)]
  rw [show SH 24 = (3, 4, [some (some 25), some (some 34), some (some 43), some (some 52)]) from rfl]
  have e := n_vp (a := i) (n := 4) hi (by decide)
  rcases i with _ | _ | _ | _ | i
  · simp [e]
  · simp [e]
  · simp [e]
  · simp [e]
  · omega
theorem s_stateAt {a o : Nat} (ho : F 23 1 = nI o) (ho4 : o < 4) (ha : a < 4) : am_Ca X (d + 1) 3004 [.ref 23, .int (nI a)] (am_Z cl sl F A L) P = P (.inl (some (.ref (25 + 9 * ((o + a) % 4))))) (am_Z cl sl F A L) := by
  rw [c3004]
  have hm : (o + a) % 4 < 4 := Nat.mod_lt _ (by decide)
  simp (disch := omega) only [ho, n_rem, ql_24 hm, u3004_0, u3004_1, u3004_4, u3004_5, u3004_6, u3004_9, u3004_10, u3004_13, u3004_14, u3004_17, u3004_18, u3004_19, u3004_20, u3004_21, u3004_22, u3004_26, gt_23_0, gt_23_1, ki_4, af_x hd_3004, decide_eq_true_eq, if_true, if_false, f2_ne, f2_eq, up_ne, up_eq, kc_int, kc_ref, kc_retAddr, kc_long, kc_double, af_n, af_v, z0, z1, n_of, nz6, nz4, bI_T, bI_F, bI_01, n_lt, n_le, n_eq, n_add, n_mul, n_sub, n_clamp, n_vp, m_lt, m_le, m_eq, m_eq2, m_ltm, m_add, true_and, and_true, eq_self, if_pos, if_neg, List.length_nil, List.length_cons, Nat.reduceAdd, Nat.reduceLeDiff, Nat.zero_le, not_true_eq_false, not_false_eq_true, true_or, or_true]
theorem s_copy_to {i : Nat} (hi : i < 4) (hn : F 4 0 = nI n) (h60 : n ≤ 60) (hcl : 70 < cl) : am_Ca X (d + 1) 5002 [.ref (25 + 9 * i), .ref 4] (am_Z cl sl F A L) P = P (.inl none) (am_Z cl sl (cfF F (25 + 9 * i) 4 n) (cfA A (25 + 9 * i) 4 n) L) := by
  rcases i with _ | _ | _ | _ | i
  · exact s_copy_25_4 hn h60 hcl
  · exact s_copy_34_4 hn h60 hcl
  · exact s_copy_43_4 hn h60 hcl
  · exact s_copy_52_4 hn h60 hcl
  · omega
theorem s_copy_of {i : Nat} (hi : i < 4) (hn : F (25 + 9 * i) 0 = nI n) (h60 : n ≤ 60) (hcl : 70 < cl) : am_Ca X (d + 1) 5002 [.ref 4, .ref (25 + 9 * i)] (am_Z cl sl F A L) P = P (.inl none) (am_Z cl sl (cfF F 4 (25 + 9 * i) n) (cfA A 4 (25 + 9 * i) n) L) := by
  rcases i with _ | _ | _ | _ | i
  · exact s_copy_4_25 hn h60 hcl
  · exact s_copy_4_34 hn h60 hcl
  · exact s_copy_4_43 hn h60 hcl
  · exact s_copy_4_52 hn h60 hcl
  · omega
/-- a copy is what it was made of -/
theorem cR_copy {o s : Nat} (R : cR F A s S) (h : wS S) (hos : o + 8 < s ∨ s + 8 < o) : cR (cfF F o s S.n) (cfA A o s S.n) o S := by
  have ne : o ≠ s := by omega
  have h6 := h.n60
  have h3 := h.ac3
  refine cR.mk ?_ ?_ ?_ ?_ ?_ ?_ ?_ ?_ ?_ ?_ ?_ ?_ ?_ ?_
  · simp [cfF, am_f2, va_up]
  · rw [← R.cu]; simp [cfF, am_f2, va_up]
  · rw [← R.op]; simp [cfF, am_f2, va_up]
  · rw [← R.mg]; simp [cfF, am_f2, va_up]
  · rw [← R.ac]; simp [cfF, am_f2, va_up]
  · rw [← R.cf]; simp [cfF, am_f2, va_up]
  · intro c hc
    rw [show cfA A o s S.n (o + 1) = va_cpy (A (s + 1)) (A (o + 1)) 0 0 S.n by simp [cfA, va_up], cpy_in (by omega) (by omega), show 0 + (c - 0) = c by omega]
    exact R.p c hc
  · intro c hc
    rw [show cfA A o s S.n (o + 2) = va_cpy (A (s + 2)) (A (o + 2)) 0 0 S.n by simp [cfA, va_up], cpy_in (by omega) (by omega), show 0 + (c - 0) = c by omega]
    exact R.q c hc
  · intro c hc i hi
    rw [show cfA A o s S.n (o + 3) = va_cpy (A (s + 3)) (A (o + 3)) 0 0 (S.n * 24) by simp [cfA, va_up], cpy_in (by omega) (by omega), show 0 + (c * 24 + i - 0) = c * 24 + i by omega]
    exact R.T c hc i hi
  · intro b hb
    rw [show cfA A o s S.n (o + 4) = va_cpy (A (s + 4)) (A (o + 4)) 0 0 6 by simp [cfA, va_up], cpy_in (by omega) (by omega), show 0 + (b - 0) = b by omega]
    exact R.br b hb
  · intro i hi
    rw [show cfA A o s S.n (o + 5) = va_cpy (A (s + 5)) (A (o + 5)) 0 0 24 by simp [cfA, va_up], cpy_in (by omega) (by omega), show 0 + (i - 0) = i by omega]
    exact R.W i hi
  · intro i hi
    rw [show cfA A o s S.n (o + 6) = va_cpy (A (s + 6)) (A (o + 6)) 0 0 24 by simp [cfA, va_up], cpy_in (by omega) (by omega), show 0 + (i - 0) = i by omega]
    exact R.O i hi
  · intro j hj
    rw [show cfA A o s S.n (o + 7) = va_cpy (A (s + 7)) (A (o + 7)) 0 0 3 by simp [cfA, va_up], cpy_in (by omega) (by omega), show 0 + (j - 0) = j by omega]
    exact R.ah j hj
  · intro j hj i hi
    rw [show cfA A o s S.n (o + 8) = va_cpy (A (s + 8)) (A (o + 8)) 0 0 72 by simp [cfA, va_up], cpy_in (by omega) (by omega), show 0 + (j * 24 + i - 0) = j * 24 + i by omega]
    exact R.aT j hj i hi
theorem cfF_ne {o s z : Nat} (hz : z ≠ o) : cfF F o s n z = F z := by
  unfold cfF
  rw [f2_ne hz, f2_ne hz, f2_ne hz, f2_ne hz, f2_ne hz, f2_ne hz]
theorem cfA_ne {o s z : Nat} (hz : z < o + 1 ∨ o + 8 < z) : cfA A o s n z = A z := by
  unfold cfA
  rw [up_ne (by omega), up_ne (by omega), up_ne (by omega), up_ne (by omega), up_ne (by omega), up_ne (by omega), up_ne (by omega), up_ne (by omega)]
theorem cR_apart {o s z : Nat} (R : cR F A z S) (hz : z + 8 < o ∨ o + 8 < z) : cR (cfF F o s n) (cfA A o s n) z S := cR_cg R (cfF_ne (by omega)) (fun k h1 h2 => cfA_ne (by omega))
/-- the ring holds the m states rs, the oldest first -/
def rR (F A : Nat → Nat → Int32) (m : Nat) (rs : Nat → Ab) : Prop := m ≤ 4 ∧ F 23 2 = nI m ∧ ∃ o, o < 4 ∧ F 23 1 = nI o ∧ ∀ a, a < m → cR F A (25 + 9 * ((o + a) % 4)) (rs a) ∧ wS (rs a)
theorem rR_fr {F2 A2 : Nat → Nat → Int32} {m : Nat} {rs : Nat → Ab} (h : rR F A m rs) (f : Fr F A F2 A2) : rR F2 A2 m rs := by
  obtain ⟨h1, h2, o, h3, h4, h5⟩ := h
  refine ⟨h1, by rw [f.f 23 (by decide) (by decide)]; exact h2, o, h3, by rw [f.f 23 (by decide) (by decide)]; exact h4, fun a ha => ⟨cR_fr (h5 a ha).1 f (by omega), (h5 a ha).2⟩⟩
def recM (m : Nat) : Nat := if m = 4 then 4 else m + 1
def recR (m : Nat) (rs : Nat → Ab) (S : Ab) : Nat → Ab := fun a => if m = 4 then (if a = 3 then S else rs (a + 1)) else (if a = m then S else rs a)
/-- what a record leaves alone -/
def Fq (F A F2 A2 : Nat → Nat → Int32) : Prop := (∀ o, (o < 23 ∨ 60 < o) → F2 o = F o) ∧ ∀ o, (o < 25 ∨ 60 < o) → A2 o = A o
theorem s_add {m : Nat} {rs : Nat → Ab} (R : cR F A 4 S) (h : wS S) (hr : rR F A m rs) (hcl : 70 < cl) : ∃ F2 A2, (∀ P, am_Ca X (d + 2) 3002 [.ref 23, .ref 4] (am_Z cl sl F A L) P = P (.inl none) (am_Z cl sl F2 A2 L)) ∧ rR F2 A2 (recM m) (recR m rs S) ∧ Fq F A F2 A2 := by
  obtain ⟨hm, hc, o, ho, hf, hs⟩ := hr
  have key : ∀ (F1 : Nat → Nat → Int32) (o1 m1 : Nat) (rs1 : Nat → Ab), o1 < 4 → m1 < 4 → F1 23 1 = nI o1 → F1 23 2 = nI m1 → (∀ z, z ≠ 23 → F1 z = F z) → (∀ a, a < m1 → cR F A (25 + 9 * ((o1 + a) % 4)) (rs1 a) ∧ wS (rs1 a)) → rR (am_f2 (cfF F1 (25 + 9 * ((o1 + m1) % 4)) 4 S.n) 23 2 (nI (m1 + 1))) (cfA A (25 + 9 * ((o1 + m1) % 4)) 4 S.n) (m1 + 1) (fun a => if a = m1 then S else rs1 a) ∧ Fq F A (am_f2 (cfF F1 (25 + 9 * ((o1 + m1) % 4)) 4 S.n) 23 2 (nI (m1 + 1))) (cfA A (25 + 9 * ((o1 + m1) % 4)) 4 S.n) := by
    intro F1 o1 m1 rs1 ho1 hm1 g1 g2 g3 g4
    have hi : (o1 + m1) % 4 < 4 := Nat.mod_lt _ (by decide)
    have f2c : ∀ z, z ≠ 23 → am_f2 (cfF F1 (25 + 9 * ((o1 + m1) % 4)) 4 S.n) 23 2 (nI (m1 + 1)) z = cfF F1 (25 + 9 * ((o1 + m1) % 4)) 4 S.n z := fun z hz => f2_ne hz
    refine ⟨⟨by omega, by simp [am_f2, va_up], o1, ho1, ?_, ?_⟩, ?_, ?_⟩
    · rw [f2_eq, up_ne (by decide), cfF_ne (by omega), g1]
    · intro a ha
      have R1 : cR F1 A 4 S := cR_cg R (g3 4 (by decide)) (fun _ _ _ => rfl)
      by_cases e : a = m1
      · subst e
        dsimp only
        rw [if_pos rfl]
        exact ⟨cR_cg (cR_copy R1 h (by omega)) (f2c _ (by omega)) (fun _ _ _ => rfl), h⟩
      · dsimp only
        rw [if_neg e]
        obtain ⟨q1, q2⟩ := g4 a (by omega)
        have q3 : cR F1 A (25 + 9 * ((o1 + a) % 4)) (rs1 a) := cR_cg q1 (g3 _ (by omega)) (fun _ _ _ => rfl)
        exact ⟨cR_cg (cR_apart q3 (by omega)) (f2c _ (by omega)) (fun _ _ _ => rfl), q2⟩
    · intro z hz
      rw [f2c z (by omega), cfF_ne (by omega), g3 z (by omega)]
    · intro z hz
      exact cfA_ne (by omega)
  by_cases e : m = 4
  · subst e
    have k1 := key (am_f2 (am_f2 F 23 1 (nI ((o + 1) % 4))) 23 2 (nI 3)) ((o + 1) % 4) 3 (fun a => rs (a + 1)) (Nat.mod_lt _ (by decide)) (by decide) (by simp [am_f2, va_up]) (by simp [am_f2, va_up]) (fun z hz => by rw [f2_ne hz, f2_ne hz]) (fun a ha => by
      have := hs (a + 1) (by omega)
      rw [show (o + (a + 1)) % 4 = ((o + 1) % 4 + a) % 4 by omega] at this
      exact this)
    refine ⟨_, _, fun P => ?_, ?_, k1.2⟩
    · rw [c3002]
      have hn1 : am_f2 (am_f2 F 23 1 (nI ((o + 1) % 4))) 23 2 (nI 3) 4 0 = nI S.n := by rw [f2_ne (by decide), f2_ne (by decide)]; exact R.n0
      have ho1 : am_f2 (am_f2 F 23 1 (nI ((o + 1) % 4))) 23 2 (nI 3) 23 1 = nI ((o + 1) % 4) := by simp [am_f2, va_up]
      have hm4 : (o + 1) % 4 < 4 := Nat.mod_lt _ (by decide)
      have hi4 : ((o + 1) % 4 + 3) % 4 < 4 := Nat.mod_lt _ (by decide)
      have hc2 : cfF (am_f2 (am_f2 F 23 1 (nI ((o + 1) % 4))) 23 2 (nI 3)) (25 + 9 * (((o + 1) % 4 + 3) % 4)) 4 S.n 23 2 = nI 3 := by rw [cfF_ne (by omega)]; simp [am_f2, va_up]
      simp (disch := omega) only [hf, hc, n_rem, s_stateAt ho1 hm4, ob_r hi4, s_copy_to hi4 hn1 h.n60 hcl, hc2, u3002_0, u3002_1, u3002_4, u3002_5, u3002_8, u3002_9, u3002_10, u3002_13, u3002_14, u3002_15, u3002_16, u3002_17, u3002_20, u3002_21i, u3002_21r, u3002_22, u3002_25, u3002_26, u3002_27, u3002_30, u3002_31, u3002_32, u3002_35, u3002_38, u3002_39, u3002_40, u3002_43, u3002_44, u3002_45, u3002_48, u3002_49i, u3002_49r, u3002_50, u3002_53, u3002_54, u3002_55, u3002_58, gt_23_2, gt_23_1, pt_23_1, pt_23_2, ob_23, ob_4, ki_1, ki_4, af_x hd_3002, decide_eq_true_eq, if_true, if_false, f2_ne, f2_eq, up_ne, up_eq, kc_int, kc_ref, kc_retAddr, kc_long, kc_double, af_n, af_v, z0, z1, n_of, nz6, nz4, bI_T, bI_F, bI_01, n_lt, n_le, n_eq, n_add, n_mul, n_sub, n_clamp, n_vp, m_lt, m_le, m_eq, m_eq2, m_ltm, m_add, true_and, and_true, eq_self, if_pos, if_neg, List.length_nil, List.length_cons, Nat.reduceAdd, Nat.reduceLeDiff, Nat.zero_le, not_true_eq_false, not_false_eq_true, true_or, or_true]
    · show rR _ _ 4 _
      have e2 : recR 4 rs S = fun a => if a = 3 then S else rs (a + 1) := by
        funext a
        exact if_pos rfl
      rw [e2]
      exact k1.1
  · have k1 := key F o m rs ho (by omega) hf hc (fun _ _ => rfl) hs
    refine ⟨_, _, fun P => ?_, ?_, k1.2⟩
    · rw [c3002]
      have hi4 : (o + m) % 4 < 4 := Nat.mod_lt _ (by decide)
      have hc2 : cfF F (25 + 9 * ((o + m) % 4)) 4 S.n 23 2 = nI m := by rw [cfF_ne (by omega)]; exact hc
      simp (disch := omega) only [hf, hc, e, s_stateAt hf ho, ob_r hi4, s_copy_to hi4 R.n0 h.n60 hcl, hc2, u3002_0, u3002_1, u3002_4, u3002_5, u3002_8, u3002_9, u3002_10, u3002_13, u3002_14, u3002_15, u3002_16, u3002_17, u3002_20, u3002_21i, u3002_21r, u3002_22, u3002_25, u3002_26, u3002_27, u3002_30, u3002_31, u3002_32, u3002_35, u3002_38, u3002_39, u3002_40, u3002_43, u3002_44, u3002_45, u3002_48, u3002_49i, u3002_49r, u3002_50, u3002_53, u3002_54, u3002_55, u3002_58, gt_23_2, gt_23_1, pt_23_1, pt_23_2, ob_23, ob_4, ki_1, ki_4, af_x hd_3002, decide_eq_true_eq, if_true, if_false, f2_ne, f2_eq, up_ne, up_eq, kc_int, kc_ref, kc_retAddr, kc_long, kc_double, af_n, af_v, z0, z1, n_of, nz6, nz4, bI_T, bI_F, bI_01, n_lt, n_le, n_eq, n_add, n_mul, n_sub, n_clamp, n_vp, m_lt, m_le, m_eq, m_eq2, m_ltm, m_add, true_and, and_true, eq_self, if_pos, if_neg, List.length_nil, List.length_cons, Nat.reduceAdd, Nat.reduceLeDiff, Nat.zero_le, not_true_eq_false, not_false_eq_true, true_or, or_true]
    · have e1 : recM m = m + 1 := if_neg e
      have e2 : recR m rs S = fun a => if a = m then S else rs a := by
        funext a
        exact if_neg e
      rw [e1, e2]
      exact k1.1
/-- what bringing a state back leaves alone -/
def Fb (F A F2 A2 : Nat → Nat → Int32) : Prop := (∀ o, o ≠ 4 → o ≠ 23 → F2 o = F o) ∧ ∀ o, (o < 5 ∨ 12 < o) → A2 o = A o
theorem s_bringBack {m : Nat} {rs : Nat → Ab} (hr : rR F A (m + 1) rs) (hcl : 70 < cl) : ∃ F2 A2, (∀ P, am_Ca X (d + 2) 3003 [.ref 23, .ref 4] (am_Z cl sl F A L) P = P (.inl none) (am_Z cl sl F2 A2 L)) ∧ cR F2 A2 4 (rs m) ∧ wS (rs m) ∧ rR F2 A2 m rs ∧ Fb F A F2 A2 := by
  obtain ⟨hm, hc, o, ho, hf, hs⟩ := hr
  obtain ⟨Rm, hw⟩ := hs m (by omega)
  have hi4 : (o + m) % 4 < 4 := Nat.mod_lt _ (by decide)
  have g : ∀ z, z ≠ 4 → z ≠ 23 → am_f2 (cfF F 4 (25 + 9 * ((o + m) % 4)) (rs m).n) 23 2 (nI m) z = F z := fun z h1 h2 => by rw [f2_ne h2, cfF_ne h1]
  refine ⟨am_f2 (cfF F 4 (25 + 9 * ((o + m) % 4)) (rs m).n) 23 2 (nI m), cfA A 4 (25 + 9 * ((o + m) % 4)) (rs m).n, fun P => ?_, ?_, hw, ⟨by omega, by simp [am_f2, va_up], o, ho, ?_, ?_⟩, ⟨g, fun z hz => cfA_ne (by omega)⟩⟩
  · rw [c3003]
    have hc2 : cfF F 4 (25 + 9 * ((o + m) % 4)) (rs m).n 23 2 = nI (m + 1) := by rw [cfF_ne (by omega)]; exact hc
    simp (disch := omega) only [hc, Nat.add_sub_cancel, s_stateAt hf ho, ob_r hi4, s_copy_of hi4 Rm.n0 hw.n60 hcl, hc2, u3003_0, u3003_1, u3003_2, u3003_5, u3003_6, u3003_7, u3003_10, u3003_11, u3003_12, u3003_15, u3003_16, u3003_17, u3003_20, u3003_21i, u3003_21r, u3003_22, u3003_25, u3003_26, u3003_27, u3003_30, gt_23_2, ob_23, ob_4, pt_23_2, ki_1, af_x hd_3003, decide_eq_true_eq, if_true, if_false, f2_ne, f2_eq, up_ne, up_eq, kc_int, kc_ref, kc_retAddr, kc_long, kc_double, af_n, af_v, z0, z1, n_of, nz6, nz4, bI_T, bI_F, bI_01, n_lt, n_le, n_eq, n_add, n_mul, n_sub, n_clamp, n_vp, m_lt, m_le, m_eq, m_eq2, m_ltm, m_add, true_and, and_true, eq_self, if_pos, if_neg, List.length_nil, List.length_cons, Nat.reduceAdd, Nat.reduceLeDiff, Nat.zero_le, not_true_eq_false, not_false_eq_true, true_or, or_true]
  · exact cR_cg (cR_copy Rm hw (by omega)) (f2_ne (by decide)) (fun _ _ _ => rfl)
  · rw [f2_eq, up_ne (by decide), cfF_ne (by omega), hf]
  · intro a ha
    obtain ⟨q1, q2⟩ := hs a (by omega)
    exact ⟨cR_cg q1 (g _ (by omega) (by omega)) (fun k h1 h2 => cfA_ne (by omega)), q2⟩
end RC
