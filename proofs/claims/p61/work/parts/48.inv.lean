/-! FOR THE PROPERTY: what else always holds of a state -/
def xI (S : Ab) : Prop := zO S ∧ (∀ c, c < S.n → c ≠ 0 → S.q c ≠ S.p c) ∧ (∀ i, i < 24 → S.O i ≠ 0 → S.O i ≠ S.W i + 1 ∧ S.W i = S.T (hd S) i) ∧ (S.op = 1 → S.mg ≠ 0 ∧ S.mg ≠ S.br S.cur)
section XI
variable {S : Ab} {o w t : Nat → Nat}
theorem xI_stand (x : xI S) {c : Nat} : xI (stand S c) := ⟨zO_stand, x.2.1, fun i _ h => absurd rfl h, fun e => absurd (show (0 : Nat) = 1 from e) (by decide)⟩
theorem xI_addC (h : wS S) (h2 : ∀ c, c < S.n → c ≠ 0 → S.q c ≠ S.p c) {v : Nat} (hv : v ≠ S.br S.cur) : xI (addC S v) := ⟨zO_addC, fun c hc h0 => by
  have hc' : c < S.n + 1 := hc
  show va_up S.q S.n v c ≠ va_up S.p S.n (S.br S.cur) c
  by_cases e : c = S.n
  · subst e; rw [up_eq, up_eq]; exact hv
  · rw [up_ne e, up_ne e]; exact h2 c (by omega) h0, fun i _ h => absurd rfl h, fun e => absurd (show (0 : Nat) = 1 from e) (by decide)⟩
theorem xI_commit (h : wS S) (x : xI S) : xI (cmS2 S) := xI_addC h x.2.1 (by
  by_cases e : S.op = 1
  · rw [if_pos e]; exact (x.2.2.2 e).2
  · rw [if_neg e]; exact fun z => h.curb z.symm)
theorem xI_setL (x : xI S) {i v : Nat} : xI (setL S i v) := ⟨zO_setL x.1, x.2.1, fun j hj h => by
  have h' : va_up S.O i 0 j ≠ 0 := h
  have e : j ≠ i := fun e => h' (by rw [e, up_eq])
  rw [up_ne e] at h'
  show va_up S.O i 0 j ≠ va_up S.W i v j + 1 ∧ va_up S.W i v j = S.T (hd S) j
  rw [up_ne e, up_ne e]
  exact x.2.2.1 j hj h', x.2.2.2⟩
theorem hd_setB {b z : Nat} (hb : b ≠ S.cur) : hd (setB S b z) = hd S := by
  show va_up S.br b z S.cur - 1 = S.br S.cur - 1
  rw [up_ne (fun e => hb e.symm)]
theorem xI_setB (x : xI S) {b z : Nat} (hb : b ≠ S.cur) : xI (setB S b z) := ⟨x.1, x.2.1, fun j hj h => by
  rw [hd_setB hb]
  exact x.2.2.1 j hj h, fun e => by
  have h := x.2.2.2 e
  refine ⟨h.1, ?_⟩
  show S.mg ≠ va_up S.br b z S.cur
  rw [up_ne (fun e => hb e.symm)]
  exact h.2⟩
theorem xI_cur (x : xI S) {b c : Nat} : xI (stand (curB S b) c) := ⟨zO_stand, x.2.1, fun i _ h => absurd rfl h, fun e => absurd (show (0 : Nat) = 1 from e) (by decide)⟩
theorem xI_set (h : wS S) (x : xI S) {k v : Nat} (hk : k ≠ 0) (hv : v ≠ S.br S.cur) (hk1 : k = 1 → v ≠ 0) (ht : ∀ i, i < 24 → t i = S.T (hd S) i) : xI (setS S o w t k v) := by
  unfold setS
  by_cases e : cnt (kC o w t) 24 = 0
  · rw [if_pos e]
    exact ⟨zO_addC, fun c hc h0 => by
      have hc' : c < S.n + 1 := hc
      show va_up S.q S.n v c ≠ va_up S.p S.n (S.br S.cur) c
      by_cases e : c = S.n
      · subst e; rw [up_eq, up_eq]; exact hv
      · rw [up_ne e, up_ne e]; exact x.2.1 c (by omega) h0, fun i _ h => absurd rfl h, fun e => absurd (show (0 : Nat) = 1 from e) (by decide)⟩
  · rw [if_neg e]
    refine ⟨fun z => absurd z hk, x.2.1, fun i hi h0 => ?_, fun z => ⟨hk1 z, hv⟩⟩
    have h0' : kO o w t i ≠ 0 := h0
    unfold kO at h0'
    by_cases ec : kC o w t i = true
    · rw [if_pos ec] at h0'
      have hc := ec
      unfold kC at hc
      simp only [decide_eq_true_eq] at hc
      obtain ⟨c1, c2, c3⟩ := hc
      have eb : ¬ kB o w t i = true := fun z => by
        unfold kB at z
        simp only [decide_eq_true_eq] at z
        exact c3 z.2.2
      have ek : kT o w t i = t i := if_neg eb
      have eo : kO o w t i = w i + 1 := if_pos ec
      refine ⟨?_, ?_⟩
      · show kO o w t i ≠ kT o w t i + 1
        rw [ek, eo]
        omega
      · show kT o w t i = S.T (hd S) i
        rw [ek]
        exact ht i hi
    · rw [if_neg ec] at h0'
      exact absurd rfl h0'
theorem unl_W (hu : unl S = 0) : ∀ i, i < 24 → S.W i = S.T (hd S) i := fun i hi => by
  have e := cnt_0.mp hu i hi
  simpa [chN] using e
theorem xI_mrg (h : wS S) (x : xI S) {b : Nat} (hb : b < 6) (hm : mayM S b) : xI (mrgS S b) := by
  have hc := br_n h hb hm.1.1
  unfold mrgS
  by_cases e : Re S.p S.q (S.br b - 1) (hd S)
  · rw [if_pos e]; exact xI_stand x
  · rw [if_neg e]
    have hne : S.br b ≠ S.br S.cur := fun z => hm.1.2.2.2 (by rw [z]; exact Re_refl)
    exact xI_set h x (by decide) hne (fun _ => hm.1.1) (fun i hi => rfl)
theorem xI_pick (h : wS S) (x : xI S) {c k : Nat} (hm : mayP S c k) : xI (pickS S c k) := xI_set h x (by decide) (fun z => h.curb z.symm) (fun e => absurd e (by decide)) (unl_W hm.2.2.1.2)
theorem xI_tb (x : xI S) (hm : mayT S) : xI (tbS S) := ⟨zO_tb hm, x.2.1, fun i hi h0 => absurd (zO_tb hm hm.2.1 i hi) h0, x.2.2.2⟩
theorem xI_aside (x : xI S) : xI (stand (push S) (hd S)) := ⟨zO_stand, x.2.1, fun i _ h => absurd rfl h, fun e => absurd (show (0 : Nat) = 1 from e) (by decide)⟩
/-! the replay -/
theorem Re_cg {p q p2 q2 : Nat → Nat} {n : Nat} (h : wfP p q n) (e : ∀ c, c < n → p2 c = p c ∧ q2 c = q c) : ∀ (c : Nat), c < n → ∀ x, Re p2 q2 c x ↔ Re p q c x := by
  have h2 : wfP p2 q2 n := fun c hc => by rw [(e c hc).1, (e c hc).2]; exact h c hc
  intro c
  induction c using Nat.strongRecOn with
  | ind c ih =>
    intro hc x
    obtain ⟨hp, hq⟩ := h c hc
    rw [Re_iff h2 hc, Re_iff h hc, (e c hc).1, (e c hc).2]
    refine or_congr Iff.rfl (or_congr ?_ ?_)
    · exact and_congr_right fun h0 => ih (p c - 1) (by omega) (by omega) x
    · exact and_congr_right fun h0 => ih (q c - 1) (by omega) (by omega) x
/-- what a replay leaves: more commits, a clean tree, nothing open, the head on top of the old one -/
def rpQ (S U : Ab) (m m2 : Nat) : Prop := wS U ∧ U.n = S.n + (m2 - m) ∧ m ≤ m2 ∧ U.cf = S.cf ∧ U.op = 0 ∧ unl U = 0 ∧ U.ac = S.ac ∧ U.cur = S.cur ∧ (∀ c, c < S.n → U.p c = S.p c ∧ U.q c = S.q c) ∧ Re U.p U.q (hd U) (hd S) ∧ (m2 = m → hd U = hd S)
theorem unl_addC {v : Nat} : unl (addC S v) = 0 := cnt_0.mpr fun i _ => by
  have e : hd (addC S v) = S.n := by
    show va_up S.br S.cur (S.n + 1) S.cur - 1 = S.n
    rw [up_eq]; rfl
  unfold chN
  rw [e]
  show decide (¬ va_up S.T S.n S.W S.n i = va_up S.T S.n S.W S.n i) = false
  simp
theorem unl_stand {c : Nat} : unl (stand S c) = 0 := cnt_0.mpr fun i _ => by
  have e : hd (stand S c) = c := by
    show va_up S.br S.cur (c + 1) S.cur - 1 = c
    rw [up_eq]; rfl
  unfold chN
  rw [e]
  show decide (¬ S.T c i = S.T c i) = false
  simp
theorem hd_addC {v : Nat} : hd (addC S v) = S.n := by
  show va_up S.br S.cur (S.n + 1) S.cur - 1 = S.n
  rw [up_eq]; rfl
theorem hd_stand {c : Nat} : hd (stand S c) = c := by
  show va_up S.br S.cur (c + 1) S.cur - 1 = c
  rw [up_eq]; rfl
theorem rpl_Q {S0 : Ab} (h0 : wS S0) {Z : Nat → Prop} (hZ : ∀ x, Z x → x < S0.n ∧ x ≠ 0) : ∀ (k i m : Nat) (S : Ab), wS S → S.op = 0 → unl S = 0 → agr S0 S → trOk S0 Z k i S.W S.n → rpQ S (rpl Z k i S m).1 m (rpl Z k i S m).2 := by
  intro k
  induction k with
  | zero => intro i m S h ho hu _ _; exact ⟨h, by simp [rpl], Nat.le_refl _, rfl, ho, hu, rfl, rfl, fun c hc => ⟨rfl, rfl⟩, Re_refl, fun _ => rfl⟩
  | succ k ih =>
    intro i m S h ho hu a tr
    unfold trOk at tr
    unfold rpl
    by_cases hz : Z i
    · obtain ⟨hin, hi0⟩ := hZ i hz
      have hn := a.1
      obtain ⟨ef, et⟩ := agr_from h0 a hin hi0
      rw [if_pos hz, ← ef, ← et] at tr
      rw [if_pos hz]
      by_cases ok : cnt (kC (fromT S i 0) (toT S i 0) S.W) 24 = 0
      · rw [if_pos ok] at tr
        by_cases hb : cnt (kB (fromT S i 0) (toT S i 0) S.W) 24 = 0
        · rw [if_pos hb] at tr ⊢
          exact ih (i + 1) m S h ho hu a tr
        · rw [if_neg hb] at tr ⊢
          by_cases hf : S.n + 1 ≤ 60
          · rw [if_pos hf] at tr
            have w1 : wS (takeS S (fromT S i 0) (toT S i 0) S.W) := wS_take h (toT_lt h (by omega) hi0) h.Wv
            have w3 := wS_addC w1 (show S.n < 60 by omega) (Nat.zero_le _)
            obtain ⟨qw, q1, q2, q3, q4, q5, q6, q7, q8, q9, q10⟩ := ih (i + 1) (m + 1) (addC (takeS S (fromT S i 0) (toT S i 0) S.W) 0) w3 rfl unl_addC (agr_add a) (by rw [addC_W]; exact tr)
            have hh := hd_n h
            refine ⟨qw, ?_, by omega, q3, q4, q5, q6, q7, fun c hc => ?_, ?_, fun e => by omega⟩
            · rw [q1]
              show S.n + 1 + _ = _
              omega
            · have hc2 : c < (addC (takeS S (fromT S i 0) (toT S i 0) S.W) 0).n := Nat.lt_succ_of_lt hc
              obtain ⟨e1, e2⟩ := q8 c hc2
              rw [e1, e2]
              exact ⟨up_ne (show c ≠ S.n by omega), up_ne (show c ≠ S.n by omega)⟩
            · rw [hd_addC] at q9
              have hnn : S.n < (addC (takeS S (fromT S i 0) (toT S i 0) S.W) 0).n := Nat.lt_succ_self _
              have g1 : Re (addC (takeS S (fromT S i 0) (toT S i 0) S.W) 0).p (addC (takeS S (fromT S i 0) (toT S i 0) S.W) 0).q S.n (hd S) := by
                refine (Re_iff w3.par hnn).mpr (Or.inr (Or.inl ?_))
                have ep : (addC (takeS S (fromT S i 0) (toT S i 0) S.W) 0).p S.n = S.br S.cur := up_eq
                rw [ep]
                exact ⟨h.curb, Re_refl⟩
              have g2 := (Re_cg w3.par q8 S.n hnn (hd S)).mpr g1
              exact Re_trans qw.par g2 (hd (rpl Z k (i + 1) (addC (takeS S (fromT S i 0) (toT S i 0) S.W) 0) (m + 1)).1) (hd_n qw) q9
          · rw [if_neg hf] at tr
            exact tr.elim
      · rw [if_neg ok] at tr
        exact tr.elim
    · rw [if_neg hz] at tr ⊢
      exact ih (i + 1) m S h ho hu a tr
theorem rep_Q (h : wS S) {b : Nat} (hb : b < 6) (hm : mayR S b) : rpQ (stand S (S.br b - 1)) (repS S b).1 0 (repS S b).2 := by
  have hc := br_n h hb hm.1.1
  exact rpl_Q h (rpZ_in h hc) 60 0 0 (stand S (S.br b - 1)) (wS_stand h hc) rfl unl_stand ⟨Nat.le_refl _, fun c hc => ⟨rfl, rfl⟩⟩ hm.2
theorem xI_rpl {S0 : Ab} (h0 : wS S0) {Z : Nat → Prop} (hZ : ∀ x, Z x → x < S0.n ∧ x ≠ 0) : ∀ (k i m : Nat) (S : Ab), wS S → xI S → agr S0 S → trOk S0 Z k i S.W S.n → xI (rpl Z k i S m).1 := by
  intro k
  induction k with
  | zero => intro i m S _ x _ _; exact x
  | succ k ih =>
    intro i m S h x a tr
    unfold trOk at tr
    unfold rpl
    by_cases hz : Z i
    · obtain ⟨hin, hi0⟩ := hZ i hz
      have hn := a.1
      obtain ⟨ef, et⟩ := agr_from h0 a hin hi0
      rw [if_pos hz, ← ef, ← et] at tr
      rw [if_pos hz]
      by_cases ok : cnt (kC (fromT S i 0) (toT S i 0) S.W) 24 = 0
      · rw [if_pos ok] at tr
        by_cases hb : cnt (kB (fromT S i 0) (toT S i 0) S.W) 24 = 0
        · rw [if_pos hb] at tr ⊢
          exact ih (i + 1) m S h x a tr
        · rw [if_neg hb] at tr ⊢
          by_cases hf : S.n + 1 ≤ 60
          · rw [if_pos hf] at tr
            have w1 : wS (takeS S (fromT S i 0) (toT S i 0) S.W) := wS_take h (toT_lt h (by omega) hi0) h.Wv
            have w3 := wS_addC w1 (show S.n < 60 by omega) (Nat.zero_le _)
            exact ih (i + 1) (m + 1) _ w3 (xI_addC w1 x.2.1 (fun z => h.curb z.symm)) (agr_add a) (by rw [addC_W]; exact tr)
          · rw [if_neg hf] at tr
            exact tr.elim
      · rw [if_neg ok] at tr
        exact tr.elim
    · rw [if_neg hz] at tr ⊢
      exact ih (i + 1) m S h x a tr
theorem xI_rep (h : wS S) (x : xI S) {b : Nat} (hb : b < 6) (hm : mayR S b) : xI (repS S b).1 := by
  have hc := br_n h hb hm.1.1
  exact xI_rpl h (rpZ_in h hc) 60 0 0 (stand S (S.br b - 1)) (wS_stand h hc) (xI_stand x) ⟨Nat.le_refl _, fun c hc => ⟨rfl, rfl⟩⟩ hm.2
/-- where the other commit reaches the head, nothing is replayed -/
theorem up_may (h : wS S) {b : Nat} (hg : mayG S b) (hu : Re S.p S.q (S.br b - 1) (hd S)) : mayR S b := by
  refine ⟨hg, ?_⟩
  have nz : ∀ x, ¬ rpZ S (S.br b - 1) x := by
    intro x hx
    unfold rpZ at hx
    exact hx.2.1 hu
  have key : ∀ (k i : Nat) (t : Nat → Nat) (n : Nat), trOk S (rpZ S (S.br b - 1)) k i t n := by
    intro k
    induction k with
    | zero => intro i t n; trivial
    | succ k ih =>
      intro i t n
      unfold trOk
      rw [if_neg (nz i)]
      exact ih (i + 1) t n
  exact key _ _ _ _
end XI
