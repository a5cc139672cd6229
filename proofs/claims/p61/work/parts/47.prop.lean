/-! FOR THE PROPERTY: what the histories agree on -/
section PU
variable {S : Ab}
theorem stp_nz {w z v x : Nat} {st : Nat → Nat} (hv : v ≠ 0) : stp w st z v x ≠ 0 ↔ (st x ≠ 0 ∨ z = x + 1) := by
  have key : ∀ (b : Prop) [Decidable b], (b → z ≠ 0) → (z ≠ 0 → ¬ b → st (z - 1) ≠ 0) → ((if b then va_up st (z - 1) v else st) x ≠ 0 ↔ (st x ≠ 0 ∨ z = x + 1)) := by
    intro b _ h1 h2
    by_cases hb : b
    · rw [if_pos hb]
      by_cases e : x = z - 1
      · subst e
        rw [up_eq]
        exact ⟨fun _ => Or.inr (by have := h1 hb; omega), fun _ => hv⟩
      · rw [up_ne e]
        exact ⟨Or.inl, fun h => h.elim id (fun h => by omega)⟩
    · rw [if_neg hb]
      refine ⟨Or.inl, fun h => h.elim id (fun h => ?_)⟩
      have := h2 (by omega) hb
      rw [h] at this
      exact this
  unfold stp
  split
  · unfold low
    exact key _ (fun h => h.1) (fun h0 h1 h2 => h1 ⟨h0, Or.inl h2⟩)
  · unfold hig
    exact key _ (fun h => h.1) (fun h0 h1 h2 => h1 ⟨h0, Or.inl h2⟩)
theorem fwG_re (h : wS S) {f w : Nat} (hf : f < S.n) : ∀ (c : Nat) (st : Nat → Nat), c ≤ f → (∀ x, st x ≠ 0 ↔ mF S.p S.q f (c + 1) x) → ∀ x, fwG w S.p S.q c st x ≠ 0 ↔ Re S.p S.q f x := by
  intro c
  induction c with
  | zero =>
    intro st hc hs x
    show st x ≠ 0 ↔ _
    rw [hs x]
    obtain ⟨p0, q0⟩ := h.par 0 (by omega)
    have e1 := mF_step (x := x) h.par (c := f) (i := 0) hf
    have e2 := mT_end (x := x) (S := fun _ => False) h.par hf
    constructor
    · intro g
      exact (e2.mp (e1.mpr (Or.inl g))).resolve_left (fun z => z)
    · intro g
      rcases e1.mp (e2.mpr (Or.inr g)) with z | ⟨-, z⟩
      · exact z
      · rcases z with z | z <;> omega
  | succ c ih =>
    intro st hc hs x
    have own := mF_own h.par (c := f) (i := c + 1) hf
    refine ih _ (by omega) (fun x => ?_) x
    have e1 := mF_step (x := x) h.par (c := f) (i := c + 1) hf
    rw [e1]
    by_cases e : st (c + 1) = 0
    · rw [if_pos e]
      have nr : ¬ Re S.p S.q f (c + 1) := fun z => (hs (c + 1)).mpr (own.mpr z) e
      rw [hs x]
      exact ⟨Or.inl, fun z => z.elim id (fun z => absurd z.1 nr)⟩
    · rw [if_neg e]
      have r : Re S.p S.q f (c + 1) := own.mp ((hs (c + 1)).mp e)
      rw [stp_nz (by omega), stp_nz (by omega), hs x]
      constructor
      · rintro ((z | z) | z)
        · exact Or.inl z
        · exact Or.inr ⟨r, Or.inl z⟩
        · exact Or.inr ⟨r, Or.inr z⟩
      · rintro (z | ⟨-, z | z⟩)
        · exact Or.inl (Or.inl z)
        · exact Or.inl (Or.inr z)
        · exact Or.inr z
theorem st0_mF {f x : Nat} : st0 f x ≠ 0 ↔ mF S.p S.q f (f + 1) x := by
  rw [mF_top (Nat.lt_succ_self f)]
  unfold st0
  by_cases e : x = f
  · subst e; rw [up_eq]; simp
  · rw [up_ne e]; simp [e]
/-- a distance is told just of what is reached -/
theorem dist_re (h : wS S) {f x : Nat} (hf : f < S.n) : fw S.p S.q 60 (st0 f) x ≠ 0 ↔ Re S.p S.q f x := by
  have h60 := h.n60
  have e1 : fw S.p S.q 60 (st0 f) = fwG 1 S.p S.q f (st0 f) := by
    rw [← fwG_fw h.par (by omega), show 60 = f + 1 + (59 - f) by omega]
    exact fw_cut (59 - f) fun x hx => by unfold st0; exact up_ne (by omega)
  rw [e1]
  exact fwG_re h hf f _ (Nat.le_refl f) (fun x => st0_mF) x
theorem fwG_ge {w : Nat} {p q : Nat → Nat} {n : Nat} (h : wfP p q n) : ∀ (c : Nat) (st : Nat → Nat) (x : Nat), c < n → c ≤ x → fwG w p q c st x = st x := by
  intro c
  induction c with
  | zero => intro st x _ _; rfl
  | succ c ih =>
    intro st x hc hx
    obtain ⟨hp, hq⟩ := h (c + 1) hc
    show fwG w p q c _ x = st x
    rw [ih _ x (by omega) (by omega)]
    split
    · rfl
    · rw [stp_ne (by omega), stp_ne (by omega)]
theorem dist_self (h : wS S) {f : Nat} (hf : f < S.n) : fw S.p S.q 60 (st0 f) f = 1 := by
  have h60 := h.n60
  have e1 : fw S.p S.q 60 (st0 f) = fwG 1 S.p S.q f (st0 f) := by
    rw [← fwG_fw h.par (by omega), show 60 = f + 1 + (59 - f) by omega]
    exact fw_cut (59 - f) fun x hx => by unfold st0; exact up_ne (by omega)
  rw [e1, fwG_ge h.par f _ f hf (Nat.le_refl f)]
  unfold st0
  rw [up_eq]
/-! the fewest steps down to the first commit -/
def dsF (p q : Nat → Nat) : Nat → Nat → Nat
  | 0, _ => 0
  | f + 1, c => if p c = 0 then 0 else if q c = 0 then dsF p q f (p c - 1) + 1 else min (dsF p q f (p c - 1)) (dsF p q f (q c - 1)) + 1
theorem dsF_st {p q : Nat → Nat} {n : Nat} (h : wfP p q n) : ∀ (f g c : Nat), c < n → c < f → c < g → dsF p q f c = dsF p q g c := by
  intro f
  induction f with
  | zero => intro g c _ h1; omega
  | succ f ih =>
    intro g c hc h1 h2
    obtain ⟨g, rfl⟩ : ∃ k, g = k + 1 := ⟨g - 1, by omega⟩
    obtain ⟨hp, hq⟩ := h c hc
    unfold dsF
    by_cases p0 : p c = 0
    · rw [if_pos p0, if_pos p0]
    · rw [if_neg p0, if_neg p0, ih g (p c - 1) (by omega) (by omega) (by omega)]
      by_cases q0 : q c = 0
      · rw [if_pos q0, if_pos q0]
      · rw [if_neg q0, if_neg q0, ih g (q c - 1) (by omega) (by omega) (by omega)]
def dsN (p q : Nat → Nat) (c : Nat) : Nat := dsF p q (c + 1) c
theorem ds_eq {p q : Nat → Nat} {n c : Nat} (h : wfP p q n) (hc : c < n) : dsN p q c = if p c = 0 then 0 else if q c = 0 then dsN p q (p c - 1) + 1 else min (dsN p q (p c - 1)) (dsN p q (q c - 1)) + 1 := by
  obtain ⟨hp, hq⟩ := h c hc
  show (if p c = 0 then 0 else if q c = 0 then dsF p q c (p c - 1) + 1 else min (dsF p q c (p c - 1)) (dsF p q c (q c - 1)) + 1) = _
  by_cases p0 : p c = 0
  · rw [if_pos p0, if_pos p0]
  · rw [if_neg p0, if_neg p0, dsF_st h c (p c - 1 + 1) (p c - 1) (by omega) (by omega) (by omega)]
    by_cases q0 : q c = 0
    · rw [if_pos q0, if_pos q0]; rfl
    · rw [if_neg q0, if_neg q0, dsF_st h c (q c - 1 + 1) (q c - 1) (by omega) (by omega) (by omega)]; rfl
def eQ (p q : Nat → Nat) (D c : Nat) (st : Nat → Nat) : Prop := (∀ x, x ≤ c → st x ≠ 0 → D ≤ st x - 1 + dsN p q x) ∧ ∃ x, x ≤ c ∧ st x ≠ 0 ∧ st x - 1 + dsN p q x = D
theorem eQ_low {p q : Nat → Nat} {D c z v : Nat} {st : Nat → Nat} (h : eQ p q D c st) (hv : v ≠ 0) (hz : z ≠ 0 → D ≤ v - 1 + dsN p q (z - 1)) : eQ p q D c (low st z v) := by
  unfold low
  split
  · obtain ⟨z0, hh⟩ := ‹z ≠ 0 ∧ _›
    obtain ⟨h1, x, h2, h3, h4⟩ := h
    refine ⟨fun y hy hy2 => ?_, x, h2, ?_⟩
    · by_cases e : y = z - 1
      · subst e; rw [up_eq]; exact hz z0
      · rw [up_ne e] at hy2 ⊢; exact h1 y hy hy2
    · by_cases e : x = z - 1
      · subst e
        rw [up_eq]
        have := hz z0
        refine ⟨hv, ?_⟩
        rcases hh with hh | hh
        · exact absurd hh h3
        · omega
      · rw [up_ne e]; exact ⟨h3, h4⟩
  · exact h
theorem low_le {st : Nat → Nat} {z v : Nat} (h0 : z ≠ 0) (hv : v ≠ 0) : low st z v (z - 1) ≤ v ∧ low st z v (z - 1) ≠ 0 := by
  unfold low
  by_cases e : st (z - 1) = 0 ∨ v < st (z - 1)
  · rw [if_pos ⟨h0, e⟩, up_eq]
    exact ⟨Nat.le_refl _, hv⟩
  · rw [if_neg (fun w => e w.2)]
    have e1 : ¬ st (z - 1) = 0 := fun w => e (Or.inl w)
    have e2 : ¬ v < st (z - 1) := fun w => e (Or.inr w)
    exact ⟨by omega, e1⟩
theorem low_mono {st : Nat → Nat} {z v x : Nat} (h0 : st x ≠ 0) (hv : v ≠ 0) : low st z v x ≤ st x ∧ low st z v x ≠ 0 := by
  unfold low
  split
  · obtain ⟨z0, hh⟩ := ‹z ≠ 0 ∧ _›
    by_cases e : x = z - 1
    · subst e
      rw [up_eq]
      rcases hh with hh | hh
      · exact absurd hh h0
      · exact ⟨by omega, hv⟩
    · rw [up_ne e]; exact ⟨Nat.le_refl _, h0⟩
  · exact ⟨Nat.le_refl _, h0⟩
theorem eQ_step {D c : Nat} {st : Nat → Nat} (h : wS S) (hc : c + 1 < S.n) (q0 : eQ S.p S.q D (c + 1) st) : eQ S.p S.q D c (if st (c + 1) = 0 then st else stp 1 (stp 1 st (S.p (c + 1)) (st (c + 1) + 1)) (S.q (c + 1)) (st (c + 1) + 1)) := by
  obtain ⟨hp, hq⟩ := h.par (c + 1) hc
  have hr := h.root (c + 1) hc (by omega)
  have de := ds_eq h.par hc
  rw [if_neg hr] at de
  by_cases e : st (c + 1) = 0
  · rw [if_pos e]
    obtain ⟨h1, x, h2, h3, h4⟩ := q0
    refine ⟨fun y hy => h1 y (by omega), x, ?_, h3, h4⟩
    by_cases ex : x = c + 1
    · subst ex; exact absurd e h3
    · omega
  · rw [if_neg e]
    unfold stp
    rw [if_pos rfl, if_pos rfl]
    have hb := q0.1 (c + 1) (Nat.le_refl _) e
    have b1 : S.p (c + 1) ≠ 0 → D ≤ st (c + 1) + 1 - 1 + dsN S.p S.q (S.p (c + 1) - 1) := fun z => by
      by_cases z2 : S.q (c + 1) = 0
      · rw [if_pos z2] at de; omega
      · rw [if_neg z2] at de; omega
    have b2 : S.q (c + 1) ≠ 0 → D ≤ st (c + 1) + 1 - 1 + dsN S.p S.q (S.q (c + 1) - 1) := fun z => by
      rw [if_neg z] at de; omega
    have q1 := eQ_low q0 (v := st (c + 1) + 1) (z := S.p (c + 1)) (by omega) b1
    have q2 := eQ_low q1 (v := st (c + 1) + 1) (z := S.q (c + 1)) (by omega) b2
    refine ⟨fun y hy => q2.1 y (by omega), ?_⟩
    obtain ⟨h1, x, h2, h3, h4⟩ := q0
    by_cases ex : x = c + 1
    · subst ex
      by_cases ep : dsN S.p S.q (c + 1) = dsN S.p S.q (S.p (c + 1) - 1) + 1
      · have g1 := low_le (st := st) (v := st (c + 1) + 1) hr (by omega)
        have g3 := low_mono (z := S.q (c + 1)) (v := st (c + 1) + 1) g1.2 (by omega)
        have g4 := q2.1 (S.p (c + 1) - 1) (by omega) g3.2
        exact ⟨S.p (c + 1) - 1, by omega, g3.2, by omega⟩
      · by_cases z : S.q (c + 1) = 0
        · rw [if_pos z] at de
          omega
        · rw [if_neg z] at de
          have g1 := low_le (st := low st (S.p (c + 1)) (st (c + 1) + 1)) (v := st (c + 1) + 1) z (by omega)
          have g4 := q2.1 (S.q (c + 1) - 1) (by omega) g1.2
          exact ⟨S.q (c + 1) - 1, by omega, g1.2, by omega⟩
    · have g1 := low_mono (z := S.p (c + 1)) (v := st (c + 1) + 1) h3 (by omega)
      have g2 := low_mono (z := S.q (c + 1)) (v := st (c + 1) + 1) g1.2 (by omega)
      have g3 := q2.1 x (by omega) g2.2
      exact ⟨x, by omega, g2.2, by omega⟩
theorem eQ_end (h : wS S) : ∀ (c : Nat) (st : Nat → Nat) (D : Nat), c < S.n → eQ S.p S.q D c st → fwG 1 S.p S.q c st 0 = D + 1 := by
  have h1 := h.n1
  intro c
  induction c with
  | zero =>
    intro st D hc q0
    obtain ⟨-, x, h2, h3, h4⟩ := q0
    obtain rfl : x = 0 := by omega
    obtain ⟨p0, q0⟩ := h.par 0 (by omega)
    have de := ds_eq h.par (show 0 < S.n by omega)
    rw [if_pos (by omega)] at de
    show st 0 = D + 1
    omega
  | succ c ih =>
    intro st D hc q0
    exact ih _ D (by omega) (eQ_step h hc q0)
theorem dist_0 (h : wS S) {f : Nat} (hf : f < S.n) : fw S.p S.q 60 (st0 f) 0 = dsN S.p S.q f + 1 := by
  have h60 := h.n60
  have e1 : fw S.p S.q 60 (st0 f) = fwG 1 S.p S.q f (st0 f) := by
    rw [← fwG_fw h.par (by omega), show 60 = f + 1 + (59 - f) by omega]
    exact fw_cut (59 - f) fun x hx => by unfold st0; exact up_ne (by omega)
  rw [e1]
  exact eQ_end h f (st0 f) (dsN S.p S.q f) hf ⟨fun x hx h0 => by
    unfold st0 at h0 ⊢
    by_cases e : x = f
    · subst e; rw [up_eq]; omega
    · rw [up_ne e] at h0; exact absurd rfl h0, f, Nat.le_refl _, by unfold st0; rw [up_eq]; decide, by unfold st0; rw [up_eq]; omega⟩
/-! who brought a line -/
theorem brg_p (h : wS S) {i : Nat} : ∀ (f c : Nat), c < f → c < S.n → Re S.p S.q c (brgN S i f c) ∧ S.T (brgN S i f c) i = S.T c i ∧ pwN S i (brgN S i f c) = 0 := by
  intro f
  induction f with
  | zero => intro c hf; omega
  | succ f ih =>
    intro c hf hc
    obtain ⟨hp, hq⟩ := h.par c hc
    unfold brgN
    by_cases e : pwN S i c = 0
    · rw [if_pos e]
      exact ⟨Re_refl, rfl, e⟩
    · rw [if_neg e]
      have hl := pwN_le h (pl := i) hc
      obtain ⟨a1, a2, a3⟩ := ih (pwN S i c - 1) (by omega) (by omega)
      have ep : (pwN S i c = S.p c ∧ S.p c ≠ 0 ∧ S.T (S.p c - 1) i = S.T c i) ∨ (pwN S i c = S.q c ∧ S.q c ≠ 0 ∧ S.T (S.q c - 1) i = S.T c i) := by
        unfold pwN at e ⊢
        by_cases g1 : S.p c ≠ 0 ∧ S.T (S.p c - 1) i = S.T c i
        · rw [if_pos g1]; exact Or.inl ⟨rfl, g1⟩
        · rw [if_neg g1] at e ⊢
          by_cases g2 : S.q c ≠ 0 ∧ S.T (S.q c - 1) i = S.T c i
          · rw [if_pos g2]; exact Or.inr ⟨rfl, g2⟩
          · rw [if_neg g2] at e; exact absurd rfl e
      refine ⟨?_, ?_, a3⟩
      · rcases ep with ⟨e1, e2, e3⟩ | ⟨e1, e2, e3⟩
        · exact (Re_iff h.par hc).mpr (Or.inr (Or.inl ⟨e2, by rw [← e1]; exact a1⟩))
        · exact (Re_iff h.par hc).mpr (Or.inr (Or.inr ⟨e2, by rw [← e1]; exact a1⟩))
      · rw [a2]
        rcases ep with ⟨e1, e2, e3⟩ | ⟨e1, e2, e3⟩
        · rw [e1, e3]
        · rw [e1, e3]
theorem pw_0 {i c : Nat} (e : pwN S i c = 0) : (S.p c = 0 ∨ S.T (S.p c - 1) i ≠ S.T c i) ∧ (S.q c = 0 ∨ S.T (S.q c - 1) i ≠ S.T c i) := by
  unfold pwN at e
  by_cases g1 : S.p c ≠ 0 ∧ S.T (S.p c - 1) i = S.T c i
  · rw [if_pos g1] at e; exact absurd e g1.1
  · rw [if_neg g1] at e
    by_cases g2 : S.q c ≠ 0 ∧ S.T (S.q c - 1) i = S.T c i
    · rw [if_pos g2] at e; exact absurd e g2.1
    · refine ⟨?_, ?_⟩
      · by_cases z : S.p c = 0
        · exact Or.inl z
        · exact Or.inr fun y => g1 ⟨z, y⟩
      · by_cases z : S.q c = 0
        · exact Or.inl z
        · exact Or.inr fun y => g2 ⟨z, y⟩
/-! the best common ones -/
theorem cnt_imp {f g : Nat → Bool} (h : ∀ i, f i = true → g i = true) : ∀ n, cnt f n ≤ cnt g n
  | 0 => Nat.le_refl 0
  | n + 1 => by
    have ih := cnt_imp h n
    cases hf : f n with
    | false =>
      rw [cnt_f hf]
      have : cnt g n ≤ cnt g (n + 1) := cnt_mono g (Nat.le_succ n)
      omega
    | true => rw [cnt_t hf, cnt_t (h n hf)]; omega
theorem cnt_pos {f : Nat → Bool} {i n : Nat} (hi : i < n) (h : f i = true) : 1 ≤ cnt f n := by
  have h1 : cnt f (i + 1) ≤ cnt f n := cnt_mono f hi
  rw [cnt_t h] at h1
  omega
theorem best_le {C : Nat → Prop} {p q : Nat → Nat} {n : Nat} : cnt (bP p q C) n ≤ cnt (dP C) n := cnt_imp (fun i h => by
  unfold bP at h
  by_cases e : C i
  · exact dP_t e
  · rw [dP_f (S := fun x => C x ∧ ¬ ∃ y, C y ∧ par p q y x) (fun z => e z.1)] at h
    exact absurd h (by decide)) n
theorem hi_top {C : Nat → Prop} {m : Nat} : ∀ k, (∃ x, x < k ∧ C x) → ∃ x, x < k ∧ C x ∧ ∀ y, y < k → C y → y ≤ x := by
  intro k
  induction k with
  | zero => rintro ⟨x, h, -⟩; omega
  | succ k ih =>
    rintro ⟨x, hx, hC⟩
    by_cases e : C k
    · exact ⟨k, by omega, e, fun y hy _ => by omega⟩
    · obtain ⟨z, z1, z2, z3⟩ := ih ⟨x, by
        by_cases ex : x = k
        · subst ex; exact absurd hC e
        · omega, hC⟩
      refine ⟨z, by omega, z2, fun y hy hy2 => ?_⟩
      by_cases ey : y = k
      · subst ey; exact absurd hy2 e
      · exact z3 y (by omega) hy2
theorem best_ge (h : wS S) {k o : Nat} (hk : k < S.n) (ho : o < S.n) : 1 ≤ cnt (bP S.p S.q (fun x => Re S.p S.q k x ∧ Re S.p S.q o x)) 60 := by
  have h60 := h.n60
  obtain ⟨x, x1, x2, x3⟩ := hi_top (C := fun x => Re S.p S.q k x ∧ Re S.p S.q o x) (m := 0) (k + 1) ⟨0, by omega, Re_root h k hk, Re_root h o ho⟩
  refine cnt_pos (i := x) (by omega) (dP_t ⟨x2, ?_⟩)
  rintro ⟨y, y1, y2⟩
  have hy := Re_le h.par k hk y y1.1
  have := x3 y (by omega) y1
  have := par_lt h.par (show y < S.n by omega) y2
  omega
end PU
