/-! what a commit reaches: p c, q c: the parents of c plus one, 0 for none -/
def Rf (p q : Nat → Nat) : Nat → Nat → Nat → Prop
  | 0, _, _ => False
  | f + 1, c, x => x = c ∨ (p c ≠ 0 ∧ Rf p q f (p c - 1) x) ∨ (q c ≠ 0 ∧ Rf p q f (q c - 1) x)
def Re (p q : Nat → Nat) (c x : Nat) : Prop := Rf p q (c + 1) c x
def par (p q : Nat → Nat) (y x : Nat) : Prop := p y = x + 1 ∨ q y = x + 1
def wfP (p q : Nat → Nat) (n : Nat) : Prop := ∀ c, c < n → p c ≤ c ∧ q c ≤ c
section RE
variable {p q : Nat → Nat} {n : Nat}
theorem Rf_en (h : wfP p q n) : ∀ (c : Nat), c < n → ∀ (f : Nat), c + 1 ≤ f → ∀ x, Rf p q f c x ↔ Re p q c x := by
  intro c
  induction c using Nat.strongRecOn with
  | ind c ih =>
    intro hc f hf x
    obtain ⟨g, rfl⟩ : ∃ g, f = g + 1 := ⟨f - 1, by omega⟩
    obtain ⟨hp, hq⟩ := h c hc
    have e : ∀ z : Nat, z ≤ c → z ≠ 0 → (Rf p q g (z - 1) x ↔ Rf p q c (z - 1) x) := fun z h1 h2 => (ih (z - 1) (by omega) (by omega) g (by omega) x).trans (ih (z - 1) (by omega) (by omega) c (by omega) x).symm
    show (x = c ∨ (p c ≠ 0 ∧ Rf p q g (p c - 1) x) ∨ (q c ≠ 0 ∧ Rf p q g (q c - 1) x)) ↔ (x = c ∨ (p c ≠ 0 ∧ Rf p q c (p c - 1) x) ∨ (q c ≠ 0 ∧ Rf p q c (q c - 1) x))
    have e1 : (p c ≠ 0 ∧ Rf p q g (p c - 1) x) ↔ (p c ≠ 0 ∧ Rf p q c (p c - 1) x) := and_congr_right fun h0 => e _ hp h0
    have e2 : (q c ≠ 0 ∧ Rf p q g (q c - 1) x) ↔ (q c ≠ 0 ∧ Rf p q c (q c - 1) x) := and_congr_right fun h0 => e _ hq h0
    rw [e1, e2]
theorem Re_iff (h : wfP p q n) {c x : Nat} (hc : c < n) : Re p q c x ↔ (x = c ∨ (p c ≠ 0 ∧ Re p q (p c - 1) x) ∨ (q c ≠ 0 ∧ Re p q (q c - 1) x)) := by
  obtain ⟨hp, hq⟩ := h c hc
  show (x = c ∨ (p c ≠ 0 ∧ Rf p q c (p c - 1) x) ∨ (q c ≠ 0 ∧ Rf p q c (q c - 1) x)) ↔ _
  have e1 : (p c ≠ 0 ∧ Rf p q c (p c - 1) x) ↔ (p c ≠ 0 ∧ Re p q (p c - 1) x) := and_congr_right fun h0 => Rf_en h _ (by omega) _ (by omega) x
  have e2 : (q c ≠ 0 ∧ Rf p q c (q c - 1) x) ↔ (q c ≠ 0 ∧ Re p q (q c - 1) x) := and_congr_right fun h0 => Rf_en h _ (by omega) _ (by omega) x
  rw [e1, e2]
theorem Re_refl {c : Nat} : Re p q c c := Or.inl rfl
theorem Re_le (h : wfP p q n) : ∀ (c : Nat), c < n → ∀ x, Re p q c x → x ≤ c := by
  intro c
  induction c using Nat.strongRecOn with
  | ind c ih =>
    intro hc x hx
    obtain ⟨hp, hq⟩ := h c hc
    rcases (Re_iff h hc).mp hx with rfl | ⟨h0, h1⟩ | ⟨h0, h1⟩
    · exact Nat.le_refl _
    · have := ih (p c - 1) (by omega) (by omega) x h1
      omega
    · have := ih (q c - 1) (by omega) (by omega) x h1
      omega
theorem Re_trans (h : wfP p q n) {x y : Nat} (hyx : Re p q y x) : ∀ (c : Nat), c < n → Re p q c y → Re p q c x := by
  intro c
  induction c using Nat.strongRecOn with
  | ind c ih =>
    intro hc hy
    obtain ⟨hp, hq⟩ := h c hc
    rcases (Re_iff h hc).mp hy with rfl | ⟨h0, h1⟩ | ⟨h0, h1⟩
    · exact hyx
    · exact (Re_iff h hc).mpr (Or.inr (Or.inl ⟨h0, ih (p c - 1) (by omega) (by omega) h1⟩))
    · exact (Re_iff h hc).mpr (Or.inr (Or.inr ⟨h0, ih (q c - 1) (by omega) (by omega) h1⟩))
theorem Re_par (h : wfP p q n) {y x : Nat} (hy : y < n) (hp : par p q y x) : Re p q y x := by
  rcases hp with hp | hp
  · exact (Re_iff h hy).mpr (Or.inr (Or.inl ⟨by omega, by rw [hp]; exact Re_refl⟩))
  · exact (Re_iff h hy).mpr (Or.inr (Or.inr ⟨by omega, by rw [hp]; exact Re_refl⟩))
theorem par_lt (h : wfP p q n) {y x : Nat} (hy : y < n) (hp : par p q y x) : x < y := by
  obtain ⟨h1, h2⟩ := h y hy
  rcases hp with hp | hp <;> omega
theorem Re_step (h : wfP p q n) {c y x : Nat} (hc : c < n) (hy : Re p q c y) (hp : par p q y x) : Re p q c x :=
  Re_trans h (Re_par h (Nat.lt_of_le_of_lt (Re_le h c hc y hy) hc) hp) c hc hy
theorem Re_last (h : wfP p q n) {x : Nat} : ∀ (c : Nat), c < n → Re p q c x → x = c ∨ ∃ y, x < y ∧ y ≤ c ∧ Re p q c y ∧ par p q y x := by
  intro c
  induction c using Nat.strongRecOn with
  | ind c ih =>
    intro hc hx
    obtain ⟨hp, hq⟩ := h c hc
    have key : ∀ z : Nat, z ≤ c → z ≠ 0 → (p c = z ∨ q c = z) → Re p q (z - 1) x → ∃ y, x < y ∧ y ≤ c ∧ Re p q c y ∧ par p q y x := by
      intro z hz h0 hpz h1
      have hcz : par p q c (z - 1) := by
        rcases hpz with e | e
        · exact Or.inl (by omega)
        · exact Or.inr (by omega)
      rcases ih (z - 1) (by omega) (by omega) h1 with rfl | ⟨y, g1, g2, g3, g4⟩
      · exact ⟨c, by omega, Nat.le_refl _, Re_refl, hcz⟩
      · exact ⟨y, g1, by omega, Re_trans h g3 c hc (Re_par h hc hcz), g4⟩
    rcases (Re_iff h hc).mp hx with rfl | ⟨h0, h1⟩ | ⟨h0, h1⟩
    · exact Or.inl rfl
    · exact Or.inr (key _ hp h0 (Or.inl rfl) h1)
    · exact Or.inr (key _ hq h0 (Or.inr rfl) h1)
/-- what is marked when the commits from k on have been gone through, from c -/
def mT (p q : Nat → Nat) (S : Nat → Prop) (c k : Nat) : Nat → Prop := fun x => S x ∨ x = c ∨ ∃ y, k ≤ y ∧ y ≤ c ∧ Re p q c y ∧ par p q y x
theorem mT_top {S : Nat → Prop} {c x : Nat} : mT p q S c (c + 1) x ↔ (S x ∨ x = c) := by
  unfold mT
  constructor
  · rintro (h | h | ⟨y, h1, h2, -⟩)
    · exact Or.inl h
    · exact Or.inr h
    · omega
  · rintro (h | h)
    · exact Or.inl h
    · exact Or.inr (Or.inl h)
theorem mT_end (h : wfP p q n) {S : Nat → Prop} {c x : Nat} (hc : c < n) : mT p q S c 0 x ↔ (S x ∨ Re p q c x) := by
  unfold mT
  constructor
  · rintro (g | g | ⟨y, -, -, g3, g4⟩)
    · exact Or.inl g
    · exact Or.inr (g ▸ Re_refl)
    · exact Or.inr (Re_step h hc g3 g4)
  · rintro (g | g)
    · exact Or.inl g
    · rcases Re_last h c hc g with g | ⟨y, -, g2, g3, g4⟩
      · exact Or.inr (Or.inl g)
      · exact Or.inr (Or.inr ⟨y, Nat.zero_le y, g2, g3, g4⟩)
/-- in the set at its own turn: reached -/
theorem mT_own (h : wfP p q n) {S : Nat → Prop} {c i : Nat} (hc : c < n) (hi : i ≤ c) : mT p q S c (i + 1) i ↔ (S i ∨ Re p q c i) := by
  unfold mT
  constructor
  · rintro (g | g | ⟨y, -, -, g3, g4⟩)
    · exact Or.inl g
    · exact Or.inr (g ▸ Re_refl)
    · exact Or.inr (Re_step h hc g3 g4)
  · rintro (g | g)
    · exact Or.inl g
    · rcases Re_last h c hc g with g | ⟨y, g1, g2, g3, g4⟩
      · exact Or.inr (Or.inl g)
      · exact Or.inr (Or.inr ⟨y, g1, g2, g3, g4⟩)
theorem mT_in (h : wfP p q n) {S : Nat → Prop} {c i x : Nat} (hc : c < n) (hi : i ≤ c) (hS : ∀ y x, y < n → S y → par p q y x → S x) (hm : mT p q S c (i + 1) i) : mT p q S c i x ↔ (mT p q S c (i + 1) x ∨ par p q i x) := by
  rcases (mT_own h hc hi).mp hm with g | g
  · constructor
    · rintro (a | a | ⟨y, h1, h2, h3, h4⟩)
      · exact Or.inl (Or.inl a)
      · exact Or.inl (Or.inr (Or.inl a))
      · by_cases hy : y = i
        · subst hy; exact Or.inr h4
        · exact Or.inl (Or.inr (Or.inr ⟨y, by omega, h2, h3, h4⟩))
    · rintro ((a | a | ⟨y, h1, h2, h3, h4⟩) | a)
      · exact Or.inl a
      · exact Or.inr (Or.inl a)
      · exact Or.inr (Or.inr ⟨y, by omega, h2, h3, h4⟩)
      · exact Or.inl (hS i x (by omega) g a)
  · constructor
    · rintro (a | a | ⟨y, h1, h2, h3, h4⟩)
      · exact Or.inl (Or.inl a)
      · exact Or.inl (Or.inr (Or.inl a))
      · by_cases hy : y = i
        · subst hy; exact Or.inr h4
        · exact Or.inl (Or.inr (Or.inr ⟨y, by omega, h2, h3, h4⟩))
    · rintro ((a | a | ⟨y, h1, h2, h3, h4⟩) | a)
      · exact Or.inl a
      · exact Or.inr (Or.inl a)
      · exact Or.inr (Or.inr ⟨y, by omega, h2, h3, h4⟩)
      · exact Or.inr (Or.inr ⟨i, Nat.le_refl _, hi, g, a⟩)
theorem mT_out (h : wfP p q n) {S : Nat → Prop} {c i x : Nat} (hc : c < n) (hi : i ≤ c) (hm : ¬ mT p q S c (i + 1) i) : mT p q S c i x ↔ mT p q S c (i + 1) x := by
  have g : ¬ Re p q c i := fun z => hm ((mT_own h hc hi).mpr (Or.inr z))
  constructor
  · rintro (a | a | ⟨y, h1, h2, h3, h4⟩)
    · exact Or.inl a
    · exact Or.inr (Or.inl a)
    · by_cases hy : y = i
      · subst hy; exact absurd h3 g
      · exact Or.inr (Or.inr ⟨y, by omega, h2, h3, h4⟩)
  · rintro (a | a | ⟨y, h1, h2, h3, h4⟩)
    · exact Or.inl a
    · exact Or.inr (Or.inl a)
    · exact Or.inr (Or.inr ⟨y, by omega, h2, h3, h4⟩)
end RE
/-- a parent as the class has it -/
def pk (z : Nat) : Int32 := if z = 0 then m1 else nI (z - 1)
theorem pk_0 : pk 0 = m1 := rfl
theorem pk_s (z : Nat) : pk (z + 1) = nI z := by
  unfold pk
  rw [if_neg (by omega)]
  rfl
/-- a row of marks: 1 in the set, 0 out of it -/
noncomputable def ind (S : Nat → Prop) (g : Nat → Int32) : Nat → Int32 := fun x => if x < 60 then (@ite _ (S x) (Classical.propDecidable _) (nI 1) (nI 0)) else g x
theorem ind_t {S : Nat → Prop} {g : Nat → Int32} {x : Nat} (hx : x < 60) (h : S x) : ind S g x = nI 1 := by
  unfold ind
  rw [if_pos hx, if_pos h]
theorem ind_f {S : Nat → Prop} {g : Nat → Int32} {x : Nat} (hx : x < 60) (h : ¬ S x) : ind S g x = nI 0 := by
  unfold ind
  rw [if_pos hx, if_neg h]
theorem ind_cg {S S2 : Nat → Prop} {g : Nat → Int32} (h : ∀ x, x < 60 → (S x ↔ S2 x)) : ind S g = ind S2 g := by
  funext x
  unfold ind
  by_cases hx : x < 60
  · rw [if_pos hx, if_pos hx]
    by_cases h2 : S x
    · rw [if_pos h2, if_pos ((h x hx).mp h2)]
    · rw [if_neg h2, if_neg (fun z => h2 ((h x hx).mpr z))]
  · rw [if_neg hx, if_neg hx]
theorem ind_0 {g : Nat → Int32} : fil (nI 0) 60 g = ind (fun _ => False) g := by
  funext x
  unfold fil ind
  by_cases hx : x < 60
  · rw [if_pos hx, if_pos hx, if_neg (fun z => z)]
  · rw [if_neg hx, if_neg hx]
theorem ind_up {S : Nat → Prop} {g : Nat → Int32} {z : Nat} (hz : z < 60) : va_up (ind S g) z (ind S g z ||| nI 1) = ind (fun x => S x ∨ x = z) g := by
  funext x
  unfold va_up
  by_cases hx : x = z
  · subst hx
    rw [if_pos rfl, ind_t (S := fun y => S y ∨ y = x) hz (Or.inr rfl)]
    by_cases h : S x
    · rw [ind_t hz h]; decide
    · rw [ind_f hz h]; decide
  · rw [if_neg hx]
    unfold ind
    have e : (S x ∨ x = z) ↔ S x := ⟨fun h => h.resolve_right hx, Or.inl⟩
    by_cases h60 : x < 60
    · rw [if_pos h60, if_pos h60]
      by_cases h : S x
      · rw [if_pos h, if_pos (Or.inl h)]
      · rw [if_neg h, if_neg (fun w => h (e.mp w))]
    · rw [if_neg h60, if_neg h60]
