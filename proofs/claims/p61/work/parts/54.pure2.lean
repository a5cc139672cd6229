/-! FOR holds AND histories: what is counted -/
section P2
variable {S : Ab} {Z : Nat → Prop} {f : Nat → Bool}
theorem rat_get {pl : Nat} : ∀ (k a j : Nat), j < k → Z j → pl + cnt (dP Z) (j + 1) = a + cnt (dP Z) k → rat Z pl k a = nI j := by
  intro k
  induction k with
  | zero => intro a j h; omega
  | succ k ih =>
    intro a j h hz e
    show @ite _ (Z k) (Classical.propDecidable _) (if a = pl then nI k else rat Z pl k (a + 1)) (rat Z pl k a) = nI j
    by_cases ej : j = k
    · subst ej
      rw [if_pos hz, if_pos (by omega)]
    · have hm : cnt (dP Z) (j + 1) ≤ cnt (dP Z) k := cnt_mono _ (by omega)
      by_cases hk : Z k
      · rw [cnt_t (dP_t hk)] at e
        rw [if_pos hk, if_neg (by omega)]
        exact ih (a + 1) j (by omega) hz (by omega)
      · rw [cnt_f (dP_f hk)] at e
        rw [if_neg hk]
        exact ih a j (by omega) hz e
theorem rat_end {pl : Nat} : ∀ (k a : Nat), a + cnt (dP Z) k ≤ pl → rat Z pl k a = m1 := by
  intro k
  induction k with
  | zero => intro a _; rfl
  | succ k ih =>
    intro a e
    show @ite _ (Z k) (Classical.propDecidable _) (if a = pl then nI k else rat Z pl k (a + 1)) (rat Z pl k a) = m1
    by_cases hk : Z k
    · rw [cnt_t (dP_t hk)] at e
      rw [if_pos hk, if_neg (by omega)]
      exact ih (a + 1) (by omega)
    · rw [cnt_f (dP_f hk)] at e
      rw [if_neg hk]
      exact ih a e
/-- the row that goes on into place i, as the law has it -/
def r6 (f : Nat → Bool) (i : Nat) : Nat := if i % 6 = 0 then 0 else rowL f i
theorem rowL_s (i : Nat) : rowL f (i + 1) = if f i = true then r6 f i + 1 else 0 := rfl
theorem r6_le (i : Nat) : r6 f i ≤ i := by
  unfold r6
  split
  · exact Nat.zero_le _
  · exact rowL_le f i
theorem rgF_s {i : Nat} (h : f i = true) : rgF f i = decide (r6 f i = 0) := by
  unfold rgF r6
  refine decide_eq_decide.mpr ?_
  by_cases h6 : i % 6 = 0
  · rw [if_pos h6]
    exact ⟨fun _ => rfl, fun _ => ⟨h, fun z => z.1 h6⟩⟩
  · rw [if_neg h6]
    obtain ⟨j, rfl⟩ : ∃ j, i = j + 1 := ⟨i - 1, by omega⟩
    rw [rowL_s, Nat.add_sub_cancel]
    by_cases hj : f j = true
    · rw [if_pos hj]
      exact ⟨fun z => absurd ⟨h6, hj⟩ z.2, fun z => by omega⟩
    · rw [if_neg hj]
      exact ⟨fun _ => rfl, fun _ => ⟨h, fun z => hj z.2⟩⟩
theorem rgF_f {i : Nat} (h : f i = false) : rgF f i = false := by
  unfold rgF
  rw [h]
  simp
theorem Ub_s {p q br : Nat → Nat} {b x : Nat} : Ub p q br (b + 1) x ↔ (Ub p q br b x ∨ (br b ≠ 0 ∧ Re p q (br b - 1) x)) := by
  unfold Ub
  constructor
  · rintro ⟨y, h1, h2, h3⟩
    by_cases e : y = b
    · subst e; exact Or.inr ⟨h2, h3⟩
    · exact Or.inl ⟨y, by omega, h2, h3⟩
  · rintro (⟨y, h1, h2, h3⟩ | ⟨h2, h3⟩)
    · exact ⟨y, by omega, h2, h3⟩
    · exact ⟨b, by omega, h2, h3⟩
theorem Ub_0 {p q br : Nat → Nat} {x : Nat} : ¬ Ub p q br 0 x := fun ⟨_, h, _⟩ => absurd h (Nat.not_lt_zero _)
theorem Ub_n (h : wS S) {x : Nat} (hx : S.n ≤ x) : ¬ Ub S.p S.q S.br 6 x := by
  rintro ⟨y, h1, h2, h3⟩
  have h4 := h.brn y h1
  have := Re_le h.par (S.br y - 1) (by omega) x h3
  omega
theorem lost_eq (h : wS S) : cnt (dP (fun x => ¬ Ub S.p S.q S.br 6 x)) S.n + cnt (dP (Ub S.p S.q S.br 6)) 60 = S.n := by
  rw [cnt_60 h.n60 (fun i hi => dP_f (Ub_n h hi))]
  have e := cnt_not (dP (Ub S.p S.q S.br 6)) S.n
  rw [show cnt (fun x => !dP (Ub S.p S.q S.br 6) x) S.n = cnt (dP (fun x => ¬ Ub S.p S.q S.br 6 x)) S.n from cnt_congr fun i _ => by
    by_cases z : Ub S.p S.q S.br 6 i
    · rw [dP_t z, dP_f (S := fun x => ¬ Ub S.p S.q S.br 6 x) (fun w => w z)]; rfl
    · rw [dP_f z, dP_t (S := fun x => ¬ Ub S.p S.q S.br 6 x) z]; rfl] at e
  exact e
theorem fw_B (h : wS S) {f x : Nat} (hf : f < S.n) (hx : x < 60) : fw S.p S.q 60 (st0 f) x ≤ 60 := by
  have h60 := h.n60
  have key : ∀ (c : Nat) (st : Nat → Nat), c < S.n → (∀ x, x < 60 → st x + x ≤ 60) → ∀ x, x < 60 → fwG 1 S.p S.q c st x + x ≤ 60 := by
    intro c
    induction c with
    | zero => intro st _ hb; exact hb
    | succ c ih =>
      intro st hc hb
      obtain ⟨hp, hq⟩ := h.par (c + 1) hc
      refine ih _ (by omega) ?_
      have hk := hb (c + 1) (by omega)
      by_cases e : st (c + 1) = 0
      · rw [if_pos e]; exact hb
      · rw [if_neg e]
        exact stp_B (stp_B hb fun _ => by omega) fun _ => by omega
  have e1 : fw S.p S.q 60 (st0 f) = fwG 1 S.p S.q f (st0 f) := by
    rw [← fwG_fw h.par (by omega), show 60 = f + 1 + (59 - f) by omega]
    exact fw_cut (59 - f) fun x hx => by unfold st0; exact up_ne (by omega)
  rw [e1]
  have := key f (st0 f) hf (fun x hx => by
    unfold st0
    by_cases e : x = f
    · subst e; rw [up_eq]; omega
    · rw [up_ne e]; omega) x hx
  omega
theorem dsN_le (h : wS S) {c : Nat} (hc : c < S.n) : dsN S.p S.q c < 60 := by
  have := fw_B h hc (show 0 < 60 by decide)
  rw [dist_0 h hc] at this
  omega
theorem dpN_le (h : wS S) {c : Nat} (hc : c < S.n) : dpN S.p S.q c ≤ c := dr_B (c + 1) (fun x hx => h.par x (by omega)) c
/-- the first with the line, from j on -/
noncomputable def fstI (S : Ab) (c k v j : Nat) : Int32 := loN (lwN S (Re S.p S.q c) k (nI v)) (60 - j) j
theorem fst_t {c k v j : Nat} (hj : j < 60) (hr : Re S.p S.q c j) (hv : S.T j k = v) : fstI S c k v j = nI j := by
  unfold fstI
  rw [show 60 - j = (59 - j) + 1 by omega]
  show (if lwN S (Re S.p S.q c) k (nI v) j = true then nI j else loN _ _ _) = nI j
  rw [if_pos]
  unfold lwN
  simp [hr, hv]
theorem fst_f {c k v j : Nat} (hj : j < 60) (hn : ¬ (Re S.p S.q c j ∧ nI (S.T j k) = nI v)) : fstI S c k v j = fstI S c k v (j + 1) := by
  unfold fstI
  rw [show 60 - j = (59 - j) + 1 by omega, show 60 - (j + 1) = 59 - j by omega]
  show (if lwN S (Re S.p S.q c) k (nI v) j = true then nI j else loN _ (59 - j) (j + 1)) = _
  rw [if_neg]
  unfold lwN
  simp only [decide_eq_true_eq]
  exact hn
theorem fst_n (h : wS S) {c k v : Nat} (hc : c < S.n) : fstI S c k v S.n = m1 := loN_none _ _ fun x hx => by
  unfold lwN
  simp only [decide_eq_false_iff_not]
  intro z
  have := Re_le h.par c hc x z.1
  omega
noncomputable def plcN (S : Ab) (c j : Nat) : Nat := cnt (dP (Re S.p S.q c)) 60 - cnt (dP (Re S.p S.q c)) j
theorem plc_t {c j : Nat} (hj : j < 60) (hr : Re S.p S.q c j) : plcN S c j = plcN S c (j + 1) + 1 := by
  unfold plcN
  have h1 : cnt (dP (Re S.p S.q c)) (j + 1) ≤ cnt (dP (Re S.p S.q c)) 60 := cnt_mono _ (by omega)
  rw [cnt_t (dP_t hr)] at h1 ⊢
  omega
theorem plc_f {c j : Nat} (hr : ¬ Re S.p S.q c j) : plcN S c j = plcN S c (j + 1) := by
  unfold plcN
  rw [cnt_f (dP_f hr)]
theorem plc_n (h : wS S) {c : Nat} (hc : c < S.n) : plcN S c S.n = 0 := by
  unfold plcN
  rw [cnt_60 h.n60 (fun i hi => dP_f fun z => by
    have := Re_le h.par c hc i z
    omega)]
  exact Nat.sub_self _
theorem plc_le {c j : Nat} : plcN S c j ≤ 60 := by
  have := cnt_le (dP (Re S.p S.q c)) 60
  unfold plcN
  omega
theorem rat_plc {c j : Nat} (hj : j < 60) (hr : Re S.p S.q c j) : rat (Re S.p S.q c) (plcN S c (j + 1)) 60 0 = nI j := rat_get 60 0 j hj hr (by
  have h1 : cnt (dP (Re S.p S.q c)) (j + 1) ≤ cnt (dP (Re S.p S.q c)) 60 := cnt_mono _ (by omega)
  unfold plcN
  omega)
theorem rat_0 {c : Nat} : rat (Re S.p S.q c) (plcN S c 0) 60 0 = m1 := rat_end 60 0 (by
  unfold plcN
  show 0 + _ ≤ _ - 0
  omega)
theorem nco_0 (h : wS S) (x : xI S) (e1 : ¬ S.op = 1) (e2 : ¬ S.op = 2) : nco S = 0 := cnt_0.mpr fun i hi => by
  have h3 := h.op3
  have := x.1 (by omega) i hi
  unfold coN
  simp [this]
end P2
