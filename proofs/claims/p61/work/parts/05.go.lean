/-! the small machine is monotone in what is to hold, and determined -/
theorem mo_am_ld {k : Nat} {t : Value → Bool} {pc : Nat} {lc sk : List Value} {st : am_S} {K K2 : am_K} (hK : ∀ pc lc sk st, K pc lc sk st → K2 pc lc sk st) : am_ld k t pc lc sk st K → am_ld k t pc lc sk st K2 := by
  unfold am_ld
  (repeat' split) <;> first | exact fun h => h.elim | exact fun h => hK _ _ _ _ h | exact fun h => ⟨h.1, hK _ _ _ _ h.2⟩ | (refine fun h => ⟨h.1, ?_⟩; have h2 := h.2; revert h2; (repeat' split) <;> first | exact fun h => h.elim | exact fun h => hK _ _ _ _ h | exact fun h => ⟨h.1, hK _ _ _ _ h.2⟩)
theorem de_am_ld {k : Nat} {t : Value → Bool} {pc : Nat} {lc sk : List Value} {st : am_S} {K K2 : am_K} : am_ld k t pc lc sk st K → am_ld k t pc lc sk st K2 → ∃ pc lc sk st, K pc lc sk st ∧ K2 pc lc sk st := by
  unfold am_ld
  (repeat' split) <;> first | exact fun h => h.elim | exact fun a b => ⟨_, _, _, _, a, b⟩ | exact fun a b => ⟨_, _, _, _, a.2, b.2⟩ | (refine fun a b => ?_; have h2 := a.2; have h3 := b.2; revert h2 h3; (repeat' split) <;> first | exact fun h => h.elim | exact fun a b => ⟨_, _, _, _, a, b⟩ | exact fun a b => ⟨_, _, _, _, a.2, b.2⟩)
theorem mo_am_so {k : Nat} {t : Value → Bool} {pc : Nat} {lc sk : List Value} {st : am_S} {K K2 : am_K} (hK : ∀ pc lc sk st, K pc lc sk st → K2 pc lc sk st) : am_so k t pc lc sk st K → am_so k t pc lc sk st K2 := by
  unfold am_so
  (repeat' split) <;> first | exact fun h => h.elim | exact fun h => hK _ _ _ _ h | exact fun h => ⟨h.1, hK _ _ _ _ h.2⟩ | (refine fun h => ⟨h.1, ?_⟩; have h2 := h.2; revert h2; (repeat' split) <;> first | exact fun h => h.elim | exact fun h => hK _ _ _ _ h | exact fun h => ⟨h.1, hK _ _ _ _ h.2⟩)
theorem de_am_so {k : Nat} {t : Value → Bool} {pc : Nat} {lc sk : List Value} {st : am_S} {K K2 : am_K} : am_so k t pc lc sk st K → am_so k t pc lc sk st K2 → ∃ pc lc sk st, K pc lc sk st ∧ K2 pc lc sk st := by
  unfold am_so
  (repeat' split) <;> first | exact fun h => h.elim | exact fun a b => ⟨_, _, _, _, a, b⟩ | exact fun a b => ⟨_, _, _, _, a.2, b.2⟩ | (refine fun a b => ?_; have h2 := a.2; have h3 := b.2; revert h2 h3; (repeat' split) <;> first | exact fun h => h.elim | exact fun a b => ⟨_, _, _, _, a, b⟩ | exact fun a b => ⟨_, _, _, _, a.2, b.2⟩)
theorem mo_am_so2 {k : Nat} {t : Value → Bool} {pc : Nat} {lc sk : List Value} {st : am_S} {K K2 : am_K} (hK : ∀ pc lc sk st, K pc lc sk st → K2 pc lc sk st) : am_so2 k t pc lc sk st K → am_so2 k t pc lc sk st K2 := by
  unfold am_so2
  (repeat' split) <;> first | exact fun h => h.elim | exact fun h => hK _ _ _ _ h | exact fun h => ⟨h.1, hK _ _ _ _ h.2⟩ | (refine fun h => ⟨h.1, ?_⟩; have h2 := h.2; revert h2; (repeat' split) <;> first | exact fun h => h.elim | exact fun h => hK _ _ _ _ h | exact fun h => ⟨h.1, hK _ _ _ _ h.2⟩)
theorem de_am_so2 {k : Nat} {t : Value → Bool} {pc : Nat} {lc sk : List Value} {st : am_S} {K K2 : am_K} : am_so2 k t pc lc sk st K → am_so2 k t pc lc sk st K2 → ∃ pc lc sk st, K pc lc sk st ∧ K2 pc lc sk st := by
  unfold am_so2
  (repeat' split) <;> first | exact fun h => h.elim | exact fun a b => ⟨_, _, _, _, a, b⟩ | exact fun a b => ⟨_, _, _, _, a.2, b.2⟩ | (refine fun a b => ?_; have h2 := a.2; have h3 := b.2; revert h2 h3; (repeat' split) <;> first | exact fun h => h.elim | exact fun a b => ⟨_, _, _, _, a, b⟩ | exact fun a b => ⟨_, _, _, _, a.2, b.2⟩)
theorem mo_am_b2 {f : Int32 → Int32 → Int32} {pc : Nat} {lc sk : List Value} {st : am_S} {K K2 : am_K} (hK : ∀ pc lc sk st, K pc lc sk st → K2 pc lc sk st) : am_b2 f pc lc sk st K → am_b2 f pc lc sk st K2 := by
  unfold am_b2
  (repeat' split) <;> first | exact fun h => h.elim | exact fun h => hK _ _ _ _ h | exact fun h => ⟨h.1, hK _ _ _ _ h.2⟩ | (refine fun h => ⟨h.1, ?_⟩; have h2 := h.2; revert h2; (repeat' split) <;> first | exact fun h => h.elim | exact fun h => hK _ _ _ _ h | exact fun h => ⟨h.1, hK _ _ _ _ h.2⟩)
theorem de_am_b2 {f : Int32 → Int32 → Int32} {pc : Nat} {lc sk : List Value} {st : am_S} {K K2 : am_K} : am_b2 f pc lc sk st K → am_b2 f pc lc sk st K2 → ∃ pc lc sk st, K pc lc sk st ∧ K2 pc lc sk st := by
  unfold am_b2
  (repeat' split) <;> first | exact fun h => h.elim | exact fun a b => ⟨_, _, _, _, a, b⟩ | exact fun a b => ⟨_, _, _, _, a.2, b.2⟩ | (refine fun a b => ?_; have h2 := a.2; have h3 := b.2; revert h2 h3; (repeat' split) <;> first | exact fun h => h.elim | exact fun a b => ⟨_, _, _, _, a, b⟩ | exact fun a b => ⟨_, _, _, _, a.2, b.2⟩)
theorem mo_am_l2 {f : Int64 → Int64 → Int64} {pc : Nat} {lc sk : List Value} {st : am_S} {K K2 : am_K} (hK : ∀ pc lc sk st, K pc lc sk st → K2 pc lc sk st) : am_l2 f pc lc sk st K → am_l2 f pc lc sk st K2 := by
  unfold am_l2
  (repeat' split) <;> first | exact fun h => h.elim | exact fun h => hK _ _ _ _ h | exact fun h => ⟨h.1, hK _ _ _ _ h.2⟩ | (refine fun h => ⟨h.1, ?_⟩; have h2 := h.2; revert h2; (repeat' split) <;> first | exact fun h => h.elim | exact fun h => hK _ _ _ _ h | exact fun h => ⟨h.1, hK _ _ _ _ h.2⟩)
theorem de_am_l2 {f : Int64 → Int64 → Int64} {pc : Nat} {lc sk : List Value} {st : am_S} {K K2 : am_K} : am_l2 f pc lc sk st K → am_l2 f pc lc sk st K2 → ∃ pc lc sk st, K pc lc sk st ∧ K2 pc lc sk st := by
  unfold am_l2
  (repeat' split) <;> first | exact fun h => h.elim | exact fun a b => ⟨_, _, _, _, a, b⟩ | exact fun a b => ⟨_, _, _, _, a.2, b.2⟩ | (refine fun a b => ?_; have h2 := a.2; have h3 := b.2; revert h2 h3; (repeat' split) <;> first | exact fun h => h.elim | exact fun a b => ⟨_, _, _, _, a, b⟩ | exact fun a b => ⟨_, _, _, _, a.2, b.2⟩)
theorem mo_am_ls {f : Int64 → Int64 → Int64} {pc : Nat} {lc sk : List Value} {st : am_S} {K K2 : am_K} (hK : ∀ pc lc sk st, K pc lc sk st → K2 pc lc sk st) : am_ls f pc lc sk st K → am_ls f pc lc sk st K2 := by
  unfold am_ls
  (repeat' split) <;> first | exact fun h => h.elim | exact fun h => hK _ _ _ _ h | exact fun h => ⟨h.1, hK _ _ _ _ h.2⟩ | (refine fun h => ⟨h.1, ?_⟩; have h2 := h.2; revert h2; (repeat' split) <;> first | exact fun h => h.elim | exact fun h => hK _ _ _ _ h | exact fun h => ⟨h.1, hK _ _ _ _ h.2⟩)
theorem de_am_ls {f : Int64 → Int64 → Int64} {pc : Nat} {lc sk : List Value} {st : am_S} {K K2 : am_K} : am_ls f pc lc sk st K → am_ls f pc lc sk st K2 → ∃ pc lc sk st, K pc lc sk st ∧ K2 pc lc sk st := by
  unfold am_ls
  (repeat' split) <;> first | exact fun h => h.elim | exact fun a b => ⟨_, _, _, _, a, b⟩ | exact fun a b => ⟨_, _, _, _, a.2, b.2⟩ | (refine fun a b => ?_; have h2 := a.2; have h3 := b.2; revert h2 h3; (repeat' split) <;> first | exact fun h => h.elim | exact fun a b => ⟨_, _, _, _, a, b⟩ | exact fun a b => ⟨_, _, _, _, a.2, b.2⟩)
theorem mo_am_gt {ck : Nat} {pc : Nat} {lc sk : List Value} {st : am_S} {K K2 : am_K} (hK : ∀ pc lc sk st, K pc lc sk st → K2 pc lc sk st) : am_gt ck pc lc sk st K → am_gt ck pc lc sk st K2 := by
  unfold am_gt
  (repeat' split) <;> first | exact fun h => h.elim | exact fun h => hK _ _ _ _ h | exact fun h => ⟨h.1, hK _ _ _ _ h.2⟩ | (refine fun h => ⟨h.1, ?_⟩; have h2 := h.2; revert h2; (repeat' split) <;> first | exact fun h => h.elim | exact fun h => hK _ _ _ _ h | exact fun h => ⟨h.1, hK _ _ _ _ h.2⟩)
theorem de_am_gt {ck : Nat} {pc : Nat} {lc sk : List Value} {st : am_S} {K K2 : am_K} : am_gt ck pc lc sk st K → am_gt ck pc lc sk st K2 → ∃ pc lc sk st, K pc lc sk st ∧ K2 pc lc sk st := by
  unfold am_gt
  (repeat' split) <;> first | exact fun h => h.elim | exact fun a b => ⟨_, _, _, _, a, b⟩ | exact fun a b => ⟨_, _, _, _, a.2, b.2⟩ | (refine fun a b => ?_; have h2 := a.2; have h3 := b.2; revert h2 h3; (repeat' split) <;> first | exact fun h => h.elim | exact fun a b => ⟨_, _, _, _, a, b⟩ | exact fun a b => ⟨_, _, _, _, a.2, b.2⟩)
theorem mo_am_pt {ck : Nat} {pc : Nat} {lc sk : List Value} {st : am_S} {K K2 : am_K} (hK : ∀ pc lc sk st, K pc lc sk st → K2 pc lc sk st) : am_pt ck pc lc sk st K → am_pt ck pc lc sk st K2 := by
  unfold am_pt
  (repeat' split) <;> first | exact fun h => h.elim | exact fun h => hK _ _ _ _ h | exact fun h => ⟨h.1, hK _ _ _ _ h.2⟩ | (refine fun h => ⟨h.1, ?_⟩; have h2 := h.2; revert h2; (repeat' split) <;> first | exact fun h => h.elim | exact fun h => hK _ _ _ _ h | exact fun h => ⟨h.1, hK _ _ _ _ h.2⟩)
theorem de_am_pt {ck : Nat} {pc : Nat} {lc sk : List Value} {st : am_S} {K K2 : am_K} : am_pt ck pc lc sk st K → am_pt ck pc lc sk st K2 → ∃ pc lc sk st, K pc lc sk st ∧ K2 pc lc sk st := by
  unfold am_pt
  (repeat' split) <;> first | exact fun h => h.elim | exact fun a b => ⟨_, _, _, _, a, b⟩ | exact fun a b => ⟨_, _, _, _, a.2, b.2⟩ | (refine fun a b => ?_; have h2 := a.2; have h3 := b.2; revert h2 h3; (repeat' split) <;> first | exact fun h => h.elim | exact fun a b => ⟨_, _, _, _, a, b⟩ | exact fun a b => ⟨_, _, _, _, a.2, b.2⟩)
theorem mo_am_al {X : am_X} {e : am_M} {pc : Nat} {lc sk : List Value} {st : am_S} {K K2 : am_K} (hK : ∀ pc lc sk st, K pc lc sk st → K2 pc lc sk st) : am_al X e pc lc sk st K → am_al X e pc lc sk st K2 := by
  unfold am_al
  (repeat' split) <;> first | exact fun h => h.elim | exact fun h => hK _ _ _ _ h | exact fun h => ⟨h.1, hK _ _ _ _ h.2⟩ | (refine fun h => ⟨h.1, ?_⟩; have h2 := h.2; revert h2; (repeat' split) <;> first | exact fun h => h.elim | exact fun h => hK _ _ _ _ h | exact fun h => ⟨h.1, hK _ _ _ _ h.2⟩)
theorem de_am_al {X : am_X} {e : am_M} {pc : Nat} {lc sk : List Value} {st : am_S} {K K2 : am_K} : am_al X e pc lc sk st K → am_al X e pc lc sk st K2 → ∃ pc lc sk st, K pc lc sk st ∧ K2 pc lc sk st := by
  unfold am_al
  (repeat' split) <;> first | exact fun h => h.elim | exact fun a b => ⟨_, _, _, _, a, b⟩ | exact fun a b => ⟨_, _, _, _, a.2, b.2⟩ | (refine fun a b => ?_; have h2 := a.2; have h3 := b.2; revert h2 h3; (repeat' split) <;> first | exact fun h => h.elim | exact fun a b => ⟨_, _, _, _, a, b⟩ | exact fun a b => ⟨_, _, _, _, a.2, b.2⟩)
theorem mo_am_xl {X : am_X} {e : am_M} {pc : Nat} {lc sk : List Value} {st : am_S} {K K2 : am_K} (hK : ∀ pc lc sk st, K pc lc sk st → K2 pc lc sk st) : am_xl X e pc lc sk st K → am_xl X e pc lc sk st K2 := by
  unfold am_xl
  (repeat' split) <;> first | exact fun h => h.elim | exact fun h => hK _ _ _ _ h | exact fun h => ⟨h.1, hK _ _ _ _ h.2⟩ | (refine fun h => ⟨h.1, ?_⟩; have h2 := h.2; revert h2; (repeat' split) <;> first | exact fun h => h.elim | exact fun h => hK _ _ _ _ h | exact fun h => ⟨h.1, hK _ _ _ _ h.2⟩)
theorem de_am_xl {X : am_X} {e : am_M} {pc : Nat} {lc sk : List Value} {st : am_S} {K K2 : am_K} : am_xl X e pc lc sk st K → am_xl X e pc lc sk st K2 → ∃ pc lc sk st, K pc lc sk st ∧ K2 pc lc sk st := by
  unfold am_xl
  (repeat' split) <;> first | exact fun h => h.elim | exact fun a b => ⟨_, _, _, _, a, b⟩ | exact fun a b => ⟨_, _, _, _, a.2, b.2⟩ | (refine fun a b => ?_; have h2 := a.2; have h3 := b.2; revert h2 h3; (repeat' split) <;> first | exact fun h => h.elim | exact fun a b => ⟨_, _, _, _, a, b⟩ | exact fun a b => ⟨_, _, _, _, a.2, b.2⟩)
theorem mo_am_xs  {pc : Nat} {lc sk : List Value} {st : am_S} {K K2 : am_K} (hK : ∀ pc lc sk st, K pc lc sk st → K2 pc lc sk st) : am_xs  pc lc sk st K → am_xs  pc lc sk st K2 := by
  unfold am_xs
  (repeat' split) <;> first | exact fun h => h.elim | exact fun h => hK _ _ _ _ h | exact fun h => ⟨h.1, hK _ _ _ _ h.2⟩ | (refine fun h => ⟨h.1, ?_⟩; have h2 := h.2; revert h2; (repeat' split) <;> first | exact fun h => h.elim | exact fun h => hK _ _ _ _ h | exact fun h => ⟨h.1, hK _ _ _ _ h.2⟩)
theorem de_am_xs  {pc : Nat} {lc sk : List Value} {st : am_S} {K K2 : am_K} : am_xs  pc lc sk st K → am_xs  pc lc sk st K2 → ∃ pc lc sk st, K pc lc sk st ∧ K2 pc lc sk st := by
  unfold am_xs
  (repeat' split) <;> first | exact fun h => h.elim | exact fun a b => ⟨_, _, _, _, a, b⟩ | exact fun a b => ⟨_, _, _, _, a.2, b.2⟩ | (refine fun a b => ?_; have h2 := a.2; have h3 := b.2; revert h2 h3; (repeat' split) <;> first | exact fun h => h.elim | exact fun a b => ⟨_, _, _, _, a, b⟩ | exact fun a b => ⟨_, _, _, _, a.2, b.2⟩)
theorem mo_am_jl  {pc : Nat} {lc sk : List Value} {st : am_S} {K K2 : am_K} (hK : ∀ pc lc sk st, K pc lc sk st → K2 pc lc sk st) : am_jl  pc lc sk st K → am_jl  pc lc sk st K2 := by
  unfold am_jl
  (repeat' split) <;> first | exact fun h => h.elim | exact fun h => hK _ _ _ _ h | exact fun h => ⟨h.1, hK _ _ _ _ h.2⟩ | (refine fun h => ⟨h.1, ?_⟩; have h2 := h.2; revert h2; (repeat' split) <;> first | exact fun h => h.elim | exact fun h => hK _ _ _ _ h | exact fun h => ⟨h.1, hK _ _ _ _ h.2⟩)
theorem de_am_jl  {pc : Nat} {lc sk : List Value} {st : am_S} {K K2 : am_K} : am_jl  pc lc sk st K → am_jl  pc lc sk st K2 → ∃ pc lc sk st, K pc lc sk st ∧ K2 pc lc sk st := by
  unfold am_jl
  (repeat' split) <;> first | exact fun h => h.elim | exact fun a b => ⟨_, _, _, _, a, b⟩ | exact fun a b => ⟨_, _, _, _, a.2, b.2⟩ | (refine fun a b => ?_; have h2 := a.2; have h3 := b.2; revert h2 h3; (repeat' split) <;> first | exact fun h => h.elim | exact fun a b => ⟨_, _, _, _, a, b⟩ | exact fun a b => ⟨_, _, _, _, a.2, b.2⟩)
theorem mo_am_js  {pc : Nat} {lc sk : List Value} {st : am_S} {K K2 : am_K} (hK : ∀ pc lc sk st, K pc lc sk st → K2 pc lc sk st) : am_js  pc lc sk st K → am_js  pc lc sk st K2 := by
  unfold am_js
  (repeat' split) <;> first | exact fun h => h.elim | exact fun h => hK _ _ _ _ h | exact fun h => ⟨h.1, hK _ _ _ _ h.2⟩ | (refine fun h => ⟨h.1, ?_⟩; have h2 := h.2; revert h2; (repeat' split) <;> first | exact fun h => h.elim | exact fun h => hK _ _ _ _ h | exact fun h => ⟨h.1, hK _ _ _ _ h.2⟩)
theorem de_am_js  {pc : Nat} {lc sk : List Value} {st : am_S} {K K2 : am_K} : am_js  pc lc sk st K → am_js  pc lc sk st K2 → ∃ pc lc sk st, K pc lc sk st ∧ K2 pc lc sk st := by
  unfold am_js
  (repeat' split) <;> first | exact fun h => h.elim | exact fun a b => ⟨_, _, _, _, a, b⟩ | exact fun a b => ⟨_, _, _, _, a.2, b.2⟩ | (refine fun a b => ?_; have h2 := a.2; have h3 := b.2; revert h2 h3; (repeat' split) <;> first | exact fun h => h.elim | exact fun a b => ⟨_, _, _, _, a, b⟩ | exact fun a b => ⟨_, _, _, _, a.2, b.2⟩)
theorem mo_am_ql  {pc : Nat} {lc sk : List Value} {st : am_S} {K K2 : am_K} (hK : ∀ pc lc sk st, K pc lc sk st → K2 pc lc sk st) : am_ql  pc lc sk st K → am_ql  pc lc sk st K2 := by
  unfold am_ql
  (repeat' split) <;> first | exact fun h => h.elim | exact fun h => hK _ _ _ _ h | exact fun h => ⟨h.1, hK _ _ _ _ h.2⟩ | (refine fun h => ⟨h.1, ?_⟩; have h2 := h.2; revert h2; (repeat' split) <;> first | exact fun h => h.elim | exact fun h => hK _ _ _ _ h | exact fun h => ⟨h.1, hK _ _ _ _ h.2⟩)
theorem de_am_ql  {pc : Nat} {lc sk : List Value} {st : am_S} {K K2 : am_K} : am_ql  pc lc sk st K → am_ql  pc lc sk st K2 → ∃ pc lc sk st, K pc lc sk st ∧ K2 pc lc sk st := by
  unfold am_ql
  (repeat' split) <;> first | exact fun h => h.elim | exact fun a b => ⟨_, _, _, _, a, b⟩ | exact fun a b => ⟨_, _, _, _, a.2, b.2⟩ | (refine fun a b => ?_; have h2 := a.2; have h3 := b.2; revert h2 h3; (repeat' split) <;> first | exact fun h => h.elim | exact fun a b => ⟨_, _, _, _, a, b⟩ | exact fun a b => ⟨_, _, _, _, a.2, b.2⟩)
theorem mo_am_qs  {pc : Nat} {lc sk : List Value} {st : am_S} {K K2 : am_K} (hK : ∀ pc lc sk st, K pc lc sk st → K2 pc lc sk st) : am_qs  pc lc sk st K → am_qs  pc lc sk st K2 := by
  unfold am_qs
  (repeat' split) <;> first | exact fun h => h.elim | exact fun h => hK _ _ _ _ h | exact fun h => ⟨h.1, hK _ _ _ _ h.2⟩ | (refine fun h => ⟨h.1, ?_⟩; have h2 := h.2; revert h2; (repeat' split) <;> first | exact fun h => h.elim | exact fun h => hK _ _ _ _ h | exact fun h => ⟨h.1, hK _ _ _ _ h.2⟩)
theorem de_am_qs  {pc : Nat} {lc sk : List Value} {st : am_S} {K K2 : am_K} : am_qs  pc lc sk st K → am_qs  pc lc sk st K2 → ∃ pc lc sk st, K pc lc sk st ∧ K2 pc lc sk st := by
  unfold am_qs
  (repeat' split) <;> first | exact fun h => h.elim | exact fun a b => ⟨_, _, _, _, a, b⟩ | exact fun a b => ⟨_, _, _, _, a.2, b.2⟩ | (refine fun a b => ?_; have h2 := a.2; have h3 := b.2; revert h2 h3; (repeat' split) <;> first | exact fun h => h.elim | exact fun a b => ⟨_, _, _, _, a, b⟩ | exact fun a b => ⟨_, _, _, _, a.2, b.2⟩)
theorem mo_am_nw {ci : Nat} {pc : Nat} {lc sk : List Value} {st : am_S} {K K2 : am_K} (hK : ∀ pc lc sk st, K pc lc sk st → K2 pc lc sk st) : am_nw ci pc lc sk st K → am_nw ci pc lc sk st K2 := by
  unfold am_nw
  (repeat' split) <;> first | exact fun h => h.elim | exact fun h => hK _ _ _ _ h | exact fun h => ⟨h.1, hK _ _ _ _ h.2⟩ | (refine fun h => ⟨h.1, ?_⟩; have h2 := h.2; revert h2; (repeat' split) <;> first | exact fun h => h.elim | exact fun h => hK _ _ _ _ h | exact fun h => ⟨h.1, hK _ _ _ _ h.2⟩)
theorem de_am_nw {ci : Nat} {pc : Nat} {lc sk : List Value} {st : am_S} {K K2 : am_K} : am_nw ci pc lc sk st K → am_nw ci pc lc sk st K2 → ∃ pc lc sk st, K pc lc sk st ∧ K2 pc lc sk st := by
  unfold am_nw
  (repeat' split) <;> first | exact fun h => h.elim | exact fun a b => ⟨_, _, _, _, a, b⟩ | exact fun a b => ⟨_, _, _, _, a.2, b.2⟩ | (refine fun a b => ?_; have h2 := a.2; have h3 := b.2; revert h2 h3; (repeat' split) <;> first | exact fun h => h.elim | exact fun a b => ⟨_, _, _, _, a, b⟩ | exact fun a b => ⟨_, _, _, _, a.2, b.2⟩)
theorem mo_am_na {kd : Nat} {x : Option (Option Nat)} {pc : Nat} {lc sk : List Value} {st : am_S} {K K2 : am_K} (hK : ∀ pc lc sk st, K pc lc sk st → K2 pc lc sk st) : am_na kd x pc lc sk st K → am_na kd x pc lc sk st K2 := by
  unfold am_na
  (repeat' split) <;> first | exact fun h => h.elim | exact fun h => hK _ _ _ _ h | exact fun h => ⟨h.1, hK _ _ _ _ h.2⟩ | (refine fun h => ⟨h.1, ?_⟩; have h2 := h.2; revert h2; (repeat' split) <;> first | exact fun h => h.elim | exact fun h => hK _ _ _ _ h | exact fun h => ⟨h.1, hK _ _ _ _ h.2⟩)
theorem de_am_na {kd : Nat} {x : Option (Option Nat)} {pc : Nat} {lc sk : List Value} {st : am_S} {K K2 : am_K} : am_na kd x pc lc sk st K → am_na kd x pc lc sk st K2 → ∃ pc lc sk st, K pc lc sk st ∧ K2 pc lc sk st := by
  unfold am_na
  (repeat' split) <;> first | exact fun h => h.elim | exact fun a b => ⟨_, _, _, _, a, b⟩ | exact fun a b => ⟨_, _, _, _, a.2, b.2⟩ | (refine fun a b => ?_; have h2 := a.2; have h3 := b.2; revert h2 h3; (repeat' split) <;> first | exact fun h => h.elim | exact fun a b => ⟨_, _, _, _, a, b⟩ | exact fun a b => ⟨_, _, _, _, a.2, b.2⟩)
theorem mo_am_cp  {pc : Nat} {lc sk : List Value} {st : am_S} {K K2 : am_K} (hK : ∀ pc lc sk st, K pc lc sk st → K2 pc lc sk st) : am_cp  pc lc sk st K → am_cp  pc lc sk st K2 := by
  unfold am_cp
  (repeat' split) <;> first | exact fun h => h.elim | exact fun h => hK _ _ _ _ h | exact fun h => ⟨h.1, hK _ _ _ _ h.2⟩ | (refine fun h => ⟨h.1, ?_⟩; have h2 := h.2; revert h2; (repeat' split) <;> first | exact fun h => h.elim | exact fun h => hK _ _ _ _ h | exact fun h => ⟨h.1, hK _ _ _ _ h.2⟩)
theorem de_am_cp  {pc : Nat} {lc sk : List Value} {st : am_S} {K K2 : am_K} : am_cp  pc lc sk st K → am_cp  pc lc sk st K2 → ∃ pc lc sk st, K pc lc sk st ∧ K2 pc lc sk st := by
  unfold am_cp
  (repeat' split) <;> first | exact fun h => h.elim | exact fun a b => ⟨_, _, _, _, a, b⟩ | exact fun a b => ⟨_, _, _, _, a.2, b.2⟩ | (refine fun a b => ?_; have h2 := a.2; have h3 := b.2; revert h2 h3; (repeat' split) <;> first | exact fun h => h.elim | exact fun a b => ⟨_, _, _, _, a, b⟩ | exact fun a b => ⟨_, _, _, _, a.2, b.2⟩)
theorem mo_am_mm {f : Int32 → Int32 → Int32} {pc : Nat} {lc sk : List Value} {st : am_S} {K K2 : am_K} (hK : ∀ pc lc sk st, K pc lc sk st → K2 pc lc sk st) : am_mm f pc lc sk st K → am_mm f pc lc sk st K2 := by
  unfold am_mm
  (repeat' split) <;> first | exact fun h => h.elim | exact fun h => hK _ _ _ _ h | exact fun h => ⟨h.1, hK _ _ _ _ h.2⟩ | (refine fun h => ⟨h.1, ?_⟩; have h2 := h.2; revert h2; (repeat' split) <;> first | exact fun h => h.elim | exact fun h => hK _ _ _ _ h | exact fun h => ⟨h.1, hK _ _ _ _ h.2⟩)
theorem de_am_mm {f : Int32 → Int32 → Int32} {pc : Nat} {lc sk : List Value} {st : am_S} {K K2 : am_K} : am_mm f pc lc sk st K → am_mm f pc lc sk st K2 → ∃ pc lc sk st, K pc lc sk st ∧ K2 pc lc sk st := by
  unfold am_mm
  (repeat' split) <;> first | exact fun h => h.elim | exact fun a b => ⟨_, _, _, _, a, b⟩ | exact fun a b => ⟨_, _, _, _, a.2, b.2⟩ | (refine fun a b => ?_; have h2 := a.2; have h3 := b.2; revert h2 h3; (repeat' split) <;> first | exact fun h => h.elim | exact fun a b => ⟨_, _, _, _, a, b⟩ | exact fun a b => ⟨_, _, _, _, a.2, b.2⟩)
theorem mo_am_in1 {k : Nat} {c : Int} {pc : Nat} {lc sk : List Value} {st : am_S} {K K2 : am_K} (hK : ∀ pc lc sk st, K pc lc sk st → K2 pc lc sk st) : am_in1 k c pc lc sk st K → am_in1 k c pc lc sk st K2 := by
  unfold am_in1
  (repeat' split) <;> first | exact fun h => h.elim | exact fun h => hK _ _ _ _ h | exact fun h => ⟨h.1, hK _ _ _ _ h.2⟩ | (refine fun h => ⟨h.1, ?_⟩; have h2 := h.2; revert h2; (repeat' split) <;> first | exact fun h => h.elim | exact fun h => hK _ _ _ _ h | exact fun h => ⟨h.1, hK _ _ _ _ h.2⟩)
theorem de_am_in1 {k : Nat} {c : Int} {pc : Nat} {lc sk : List Value} {st : am_S} {K K2 : am_K} : am_in1 k c pc lc sk st K → am_in1 k c pc lc sk st K2 → ∃ pc lc sk st, K pc lc sk st ∧ K2 pc lc sk st := by
  unfold am_in1
  (repeat' split) <;> first | exact fun h => h.elim | exact fun a b => ⟨_, _, _, _, a, b⟩ | exact fun a b => ⟨_, _, _, _, a.2, b.2⟩ | (refine fun a b => ?_; have h2 := a.2; have h3 := b.2; revert h2 h3; (repeat' split) <;> first | exact fun h => h.elim | exact fun a b => ⟨_, _, _, _, a, b⟩ | exact fun a b => ⟨_, _, _, _, a.2, b.2⟩)
theorem mo_am_d1  {pc : Nat} {lc sk : List Value} {st : am_S} {K K2 : am_K} (hK : ∀ pc lc sk st, K pc lc sk st → K2 pc lc sk st) : am_d1  pc lc sk st K → am_d1  pc lc sk st K2 := by
  unfold am_d1
  (repeat' split) <;> first | exact fun h => h.elim | exact fun h => hK _ _ _ _ h | exact fun h => ⟨h.1, hK _ _ _ _ h.2⟩ | (refine fun h => ⟨h.1, ?_⟩; have h2 := h.2; revert h2; (repeat' split) <;> first | exact fun h => h.elim | exact fun h => hK _ _ _ _ h | exact fun h => ⟨h.1, hK _ _ _ _ h.2⟩)
theorem de_am_d1  {pc : Nat} {lc sk : List Value} {st : am_S} {K K2 : am_K} : am_d1  pc lc sk st K → am_d1  pc lc sk st K2 → ∃ pc lc sk st, K pc lc sk st ∧ K2 pc lc sk st := by
  unfold am_d1
  (repeat' split) <;> first | exact fun h => h.elim | exact fun a b => ⟨_, _, _, _, a, b⟩ | exact fun a b => ⟨_, _, _, _, a.2, b.2⟩ | (refine fun a b => ?_; have h2 := a.2; have h3 := b.2; revert h2 h3; (repeat' split) <;> first | exact fun h => h.elim | exact fun a b => ⟨_, _, _, _, a, b⟩ | exact fun a b => ⟨_, _, _, _, a.2, b.2⟩)
theorem mo_am_oi  {pc : Nat} {lc sk : List Value} {st : am_S} {K K2 : am_K} (hK : ∀ pc lc sk st, K pc lc sk st → K2 pc lc sk st) : am_oi  pc lc sk st K → am_oi  pc lc sk st K2 := by
  unfold am_oi
  (repeat' split) <;> first | exact fun h => h.elim | exact fun h => hK _ _ _ _ h | exact fun h => ⟨h.1, hK _ _ _ _ h.2⟩ | (refine fun h => ⟨h.1, ?_⟩; have h2 := h.2; revert h2; (repeat' split) <;> first | exact fun h => h.elim | exact fun h => hK _ _ _ _ h | exact fun h => ⟨h.1, hK _ _ _ _ h.2⟩)
theorem de_am_oi  {pc : Nat} {lc sk : List Value} {st : am_S} {K K2 : am_K} : am_oi  pc lc sk st K → am_oi  pc lc sk st K2 → ∃ pc lc sk st, K pc lc sk st ∧ K2 pc lc sk st := by
  unfold am_oi
  (repeat' split) <;> first | exact fun h => h.elim | exact fun a b => ⟨_, _, _, _, a, b⟩ | exact fun a b => ⟨_, _, _, _, a.2, b.2⟩ | (refine fun a b => ?_; have h2 := a.2; have h3 := b.2; revert h2 h3; (repeat' split) <;> first | exact fun h => h.elim | exact fun a b => ⟨_, _, _, _, a, b⟩ | exact fun a b => ⟨_, _, _, _, a.2, b.2⟩)
theorem mo_am_tk  {pc : Nat} {lc sk : List Value} {st : am_S} {K K2 : am_K} (hK : ∀ pc lc sk st, K pc lc sk st → K2 pc lc sk st) : am_tk  pc lc sk st K → am_tk  pc lc sk st K2 := by
  unfold am_tk
  (repeat' split) <;> first | exact fun h => h.elim | exact fun h => hK _ _ _ _ h | exact fun h => ⟨h.1, hK _ _ _ _ h.2⟩ | (refine fun h => ⟨h.1, ?_⟩; have h2 := h.2; revert h2; (repeat' split) <;> first | exact fun h => h.elim | exact fun h => hK _ _ _ _ h | exact fun h => ⟨h.1, hK _ _ _ _ h.2⟩)
theorem de_am_tk  {pc : Nat} {lc sk : List Value} {st : am_S} {K K2 : am_K} : am_tk  pc lc sk st K → am_tk  pc lc sk st K2 → ∃ pc lc sk st, K pc lc sk st ∧ K2 pc lc sk st := by
  unfold am_tk
  (repeat' split) <;> first | exact fun h => h.elim | exact fun a b => ⟨_, _, _, _, a, b⟩ | exact fun a b => ⟨_, _, _, _, a.2, b.2⟩ | (refine fun a b => ?_; have h2 := a.2; have h3 := b.2; revert h2 h3; (repeat' split) <;> first | exact fun h => h.elim | exact fun a b => ⟨_, _, _, _, a, b⟩ | exact fun a b => ⟨_, _, _, _, a.2, b.2⟩)
theorem mo_am_d2  {pc : Nat} {lc sk : List Value} {st : am_S} {K K2 : am_K} (hK : ∀ pc lc sk st, K pc lc sk st → K2 pc lc sk st) : am_d2  pc lc sk st K → am_d2  pc lc sk st K2 := by
  unfold am_d2
  (repeat' split) <;> first | exact fun h => h.elim | exact fun h => hK _ _ _ _ h | exact fun h => ⟨h.1, hK _ _ _ _ h.2⟩ | (refine fun h => ⟨h.1, ?_⟩; have h2 := h.2; revert h2; (repeat' split) <;> first | exact fun h => h.elim | exact fun h => hK _ _ _ _ h | exact fun h => ⟨h.1, hK _ _ _ _ h.2⟩)
theorem de_am_d2  {pc : Nat} {lc sk : List Value} {st : am_S} {K K2 : am_K} : am_d2  pc lc sk st K → am_d2  pc lc sk st K2 → ∃ pc lc sk st, K pc lc sk st ∧ K2 pc lc sk st := by
  unfold am_d2
  (repeat' split) <;> first | exact fun h => h.elim | exact fun a b => ⟨_, _, _, _, a, b⟩ | exact fun a b => ⟨_, _, _, _, a.2, b.2⟩ | (refine fun a b => ?_; have h2 := a.2; have h3 := b.2; revert h2 h3; (repeat' split) <;> first | exact fun h => h.elim | exact fun a b => ⟨_, _, _, _, a, b⟩ | exact fun a b => ⟨_, _, _, _, a.2, b.2⟩)
theorem mo_am_p1  {pc : Nat} {lc sk : List Value} {st : am_S} {K K2 : am_K} (hK : ∀ pc lc sk st, K pc lc sk st → K2 pc lc sk st) : am_p1  pc lc sk st K → am_p1  pc lc sk st K2 := by
  unfold am_p1
  (repeat' split) <;> first | exact fun h => h.elim | exact fun h => hK _ _ _ _ h | exact fun h => ⟨h.1, hK _ _ _ _ h.2⟩ | (refine fun h => ⟨h.1, ?_⟩; have h2 := h.2; revert h2; (repeat' split) <;> first | exact fun h => h.elim | exact fun h => hK _ _ _ _ h | exact fun h => ⟨h.1, hK _ _ _ _ h.2⟩)
theorem de_am_p1  {pc : Nat} {lc sk : List Value} {st : am_S} {K K2 : am_K} : am_p1  pc lc sk st K → am_p1  pc lc sk st K2 → ∃ pc lc sk st, K pc lc sk st ∧ K2 pc lc sk st := by
  unfold am_p1
  (repeat' split) <;> first | exact fun h => h.elim | exact fun a b => ⟨_, _, _, _, a, b⟩ | exact fun a b => ⟨_, _, _, _, a.2, b.2⟩ | (refine fun a b => ?_; have h2 := a.2; have h3 := b.2; revert h2 h3; (repeat' split) <;> first | exact fun h => h.elim | exact fun a b => ⟨_, _, _, _, a, b⟩ | exact fun a b => ⟨_, _, _, _, a.2, b.2⟩)
theorem mo_am_rm  {pc : Nat} {lc sk : List Value} {st : am_S} {K K2 : am_K} (hK : ∀ pc lc sk st, K pc lc sk st → K2 pc lc sk st) : am_rm  pc lc sk st K → am_rm  pc lc sk st K2 := by
  unfold am_rm
  (repeat' split) <;> first | exact fun h => h.elim | exact fun h => hK _ _ _ _ h | exact fun h => ⟨h.1, hK _ _ _ _ h.2⟩ | (refine fun h => ⟨h.1, ?_⟩; have h2 := h.2; revert h2; (repeat' split) <;> first | exact fun h => h.elim | exact fun h => hK _ _ _ _ h | exact fun h => ⟨h.1, hK _ _ _ _ h.2⟩)
theorem de_am_rm  {pc : Nat} {lc sk : List Value} {st : am_S} {K K2 : am_K} : am_rm  pc lc sk st K → am_rm  pc lc sk st K2 → ∃ pc lc sk st, K pc lc sk st ∧ K2 pc lc sk st := by
  unfold am_rm
  (repeat' split) <;> first | exact fun h => h.elim | exact fun a b => ⟨_, _, _, _, a, b⟩ | exact fun a b => ⟨_, _, _, _, a.2, b.2⟩ | (refine fun a b => ?_; have h2 := a.2; have h3 := b.2; revert h2 h3; (repeat' split) <;> first | exact fun h => h.elim | exact fun a b => ⟨_, _, _, _, a, b⟩ | exact fun a b => ⟨_, _, _, _, a.2, b.2⟩)
theorem mo_am_cm  {pc : Nat} {lc sk : List Value} {st : am_S} {K K2 : am_K} (hK : ∀ pc lc sk st, K pc lc sk st → K2 pc lc sk st) : am_cm  pc lc sk st K → am_cm  pc lc sk st K2 := by
  unfold am_cm
  (repeat' split) <;> first | exact fun h => h.elim | exact fun h => hK _ _ _ _ h | exact fun h => ⟨h.1, hK _ _ _ _ h.2⟩ | (refine fun h => ⟨h.1, ?_⟩; have h2 := h.2; revert h2; (repeat' split) <;> first | exact fun h => h.elim | exact fun h => hK _ _ _ _ h | exact fun h => ⟨h.1, hK _ _ _ _ h.2⟩)
theorem de_am_cm  {pc : Nat} {lc sk : List Value} {st : am_S} {K K2 : am_K} : am_cm  pc lc sk st K → am_cm  pc lc sk st K2 → ∃ pc lc sk st, K pc lc sk st ∧ K2 pc lc sk st := by
  unfold am_cm
  (repeat' split) <;> first | exact fun h => h.elim | exact fun a b => ⟨_, _, _, _, a, b⟩ | exact fun a b => ⟨_, _, _, _, a.2, b.2⟩ | (refine fun a b => ?_; have h2 := a.2; have h3 := b.2; revert h2 h3; (repeat' split) <;> first | exact fun h => h.elim | exact fun a b => ⟨_, _, _, _, a, b⟩ | exact fun a b => ⟨_, _, _, _, a.2, b.2⟩)
theorem mo_am_cl1  {pc : Nat} {lc sk : List Value} {st : am_S} {K K2 : am_K} (hK : ∀ pc lc sk st, K pc lc sk st → K2 pc lc sk st) : am_cl1  pc lc sk st K → am_cl1  pc lc sk st K2 := by
  unfold am_cl1
  (repeat' split) <;> first | exact fun h => h.elim | exact fun h => hK _ _ _ _ h | exact fun h => ⟨h.1, hK _ _ _ _ h.2⟩ | (refine fun h => ⟨h.1, ?_⟩; have h2 := h.2; revert h2; (repeat' split) <;> first | exact fun h => h.elim | exact fun h => hK _ _ _ _ h | exact fun h => ⟨h.1, hK _ _ _ _ h.2⟩)
theorem de_am_cl1  {pc : Nat} {lc sk : List Value} {st : am_S} {K K2 : am_K} : am_cl1  pc lc sk st K → am_cl1  pc lc sk st K2 → ∃ pc lc sk st, K pc lc sk st ∧ K2 pc lc sk st := by
  unfold am_cl1
  (repeat' split) <;> first | exact fun h => h.elim | exact fun a b => ⟨_, _, _, _, a, b⟩ | exact fun a b => ⟨_, _, _, _, a.2, b.2⟩ | (refine fun a b => ?_; have h2 := a.2; have h3 := b.2; revert h2 h3; (repeat' split) <;> first | exact fun h => h.elim | exact fun a b => ⟨_, _, _, _, a, b⟩ | exact fun a b => ⟨_, _, _, _, a.2, b.2⟩)
theorem mo_am_cd1  {pc : Nat} {lc sk : List Value} {st : am_S} {K K2 : am_K} (hK : ∀ pc lc sk st, K pc lc sk st → K2 pc lc sk st) : am_cd1  pc lc sk st K → am_cd1  pc lc sk st K2 := by
  unfold am_cd1
  (repeat' split) <;> first | exact fun h => h.elim | exact fun h => hK _ _ _ _ h | exact fun h => ⟨h.1, hK _ _ _ _ h.2⟩ | (refine fun h => ⟨h.1, ?_⟩; have h2 := h.2; revert h2; (repeat' split) <;> first | exact fun h => h.elim | exact fun h => hK _ _ _ _ h | exact fun h => ⟨h.1, hK _ _ _ _ h.2⟩)
theorem de_am_cd1  {pc : Nat} {lc sk : List Value} {st : am_S} {K K2 : am_K} : am_cd1  pc lc sk st K → am_cd1  pc lc sk st K2 → ∃ pc lc sk st, K pc lc sk st ∧ K2 pc lc sk st := by
  unfold am_cd1
  (repeat' split) <;> first | exact fun h => h.elim | exact fun a b => ⟨_, _, _, _, a, b⟩ | exact fun a b => ⟨_, _, _, _, a.2, b.2⟩ | (refine fun a b => ?_; have h2 := a.2; have h3 := b.2; revert h2 h3; (repeat' split) <;> first | exact fun h => h.elim | exact fun a b => ⟨_, _, _, _, a, b⟩ | exact fun a b => ⟨_, _, _, _, a.2, b.2⟩)
theorem mo_am_dv  {pc : Nat} {lc sk : List Value} {st : am_S} {K K2 : am_K} (hK : ∀ pc lc sk st, K pc lc sk st → K2 pc lc sk st) : am_dv  pc lc sk st K → am_dv  pc lc sk st K2 := by
  unfold am_dv
  (repeat' split) <;> first | exact fun h => h.elim | exact fun h => hK _ _ _ _ h | exact fun h => ⟨h.1, hK _ _ _ _ h.2⟩ | (refine fun h => ⟨h.1, ?_⟩; have h2 := h.2; revert h2; (repeat' split) <;> first | exact fun h => h.elim | exact fun h => hK _ _ _ _ h | exact fun h => ⟨h.1, hK _ _ _ _ h.2⟩)
theorem de_am_dv  {pc : Nat} {lc sk : List Value} {st : am_S} {K K2 : am_K} : am_dv  pc lc sk st K → am_dv  pc lc sk st K2 → ∃ pc lc sk st, K pc lc sk st ∧ K2 pc lc sk st := by
  unfold am_dv
  (repeat' split) <;> first | exact fun h => h.elim | exact fun a b => ⟨_, _, _, _, a, b⟩ | exact fun a b => ⟨_, _, _, _, a.2, b.2⟩ | (refine fun a b => ?_; have h2 := a.2; have h3 := b.2; revert h2 h3; (repeat' split) <;> first | exact fun h => h.elim | exact fun a b => ⟨_, _, _, _, a, b⟩ | exact fun a b => ⟨_, _, _, _, a.2, b.2⟩)
theorem mo_am_di  {pc : Nat} {lc sk : List Value} {st : am_S} {K K2 : am_K} (hK : ∀ pc lc sk st, K pc lc sk st → K2 pc lc sk st) : am_di  pc lc sk st K → am_di  pc lc sk st K2 := by
  unfold am_di
  (repeat' split) <;> first | exact fun h => h.elim | exact fun h => hK _ _ _ _ h | exact fun h => ⟨h.1, hK _ _ _ _ h.2⟩ | (refine fun h => ⟨h.1, ?_⟩; have h2 := h.2; revert h2; (repeat' split) <;> first | exact fun h => h.elim | exact fun h => hK _ _ _ _ h | exact fun h => ⟨h.1, hK _ _ _ _ h.2⟩)
theorem de_am_di  {pc : Nat} {lc sk : List Value} {st : am_S} {K K2 : am_K} : am_di  pc lc sk st K → am_di  pc lc sk st K2 → ∃ pc lc sk st, K pc lc sk st ∧ K2 pc lc sk st := by
  unfold am_di
  (repeat' split) <;> first | exact fun h => h.elim | exact fun a b => ⟨_, _, _, _, a, b⟩ | exact fun a b => ⟨_, _, _, _, a.2, b.2⟩ | (refine fun a b => ?_; have h2 := a.2; have h3 := b.2; revert h2 h3; (repeat' split) <;> first | exact fun h => h.elim | exact fun a b => ⟨_, _, _, _, a, b⟩ | exact fun a b => ⟨_, _, _, _, a.2, b.2⟩)
theorem mo_am_cl2  {pc : Nat} {lc sk : List Value} {st : am_S} {K K2 : am_K} (hK : ∀ pc lc sk st, K pc lc sk st → K2 pc lc sk st) : am_cl2  pc lc sk st K → am_cl2  pc lc sk st K2 := by
  unfold am_cl2
  (repeat' split) <;> first | exact fun h => h.elim | exact fun h => hK _ _ _ _ h | exact fun h => ⟨h.1, hK _ _ _ _ h.2⟩ | (refine fun h => ⟨h.1, ?_⟩; have h2 := h.2; revert h2; (repeat' split) <;> first | exact fun h => h.elim | exact fun h => hK _ _ _ _ h | exact fun h => ⟨h.1, hK _ _ _ _ h.2⟩)
theorem de_am_cl2  {pc : Nat} {lc sk : List Value} {st : am_S} {K K2 : am_K} : am_cl2  pc lc sk st K → am_cl2  pc lc sk st K2 → ∃ pc lc sk st, K pc lc sk st ∧ K2 pc lc sk st := by
  unfold am_cl2
  (repeat' split) <;> first | exact fun h => h.elim | exact fun a b => ⟨_, _, _, _, a, b⟩ | exact fun a b => ⟨_, _, _, _, a.2, b.2⟩ | (refine fun a b => ?_; have h2 := a.2; have h3 := b.2; revert h2 h3; (repeat' split) <;> first | exact fun h => h.elim | exact fun a b => ⟨_, _, _, _, a, b⟩ | exact fun a b => ⟨_, _, _, _, a.2, b.2⟩)
theorem mo_am_dc {op : CmpOp} {pc : Nat} {lc sk : List Value} {st : am_S} {K K2 : am_K} (hK : ∀ pc lc sk st, K pc lc sk st → K2 pc lc sk st) : am_dc op pc lc sk st K → am_dc op pc lc sk st K2 := by
  unfold am_dc
  (repeat' split) <;> first | exact fun h => h.elim | exact fun h => hK _ _ _ _ h | exact fun h => ⟨h.1, hK _ _ _ _ h.2⟩ | (refine fun h => ⟨h.1, ?_⟩; have h2 := h.2; revert h2; (repeat' split) <;> first | exact fun h => h.elim | exact fun h => hK _ _ _ _ h | exact fun h => ⟨h.1, hK _ _ _ _ h.2⟩)
theorem de_am_dc {op : CmpOp} {pc : Nat} {lc sk : List Value} {st : am_S} {K K2 : am_K} : am_dc op pc lc sk st K → am_dc op pc lc sk st K2 → ∃ pc lc sk st, K pc lc sk st ∧ K2 pc lc sk st := by
  unfold am_dc
  (repeat' split) <;> first | exact fun h => h.elim | exact fun a b => ⟨_, _, _, _, a, b⟩ | exact fun a b => ⟨_, _, _, _, a.2, b.2⟩ | (refine fun a b => ?_; have h2 := a.2; have h3 := b.2; revert h2 h3; (repeat' split) <;> first | exact fun h => h.elim | exact fun a b => ⟨_, _, _, _, a, b⟩ | exact fun a b => ⟨_, _, _, _, a.2, b.2⟩)
theorem mo_am_i1 {c : Int32 → Bool} {t n : Nat} {lc sk : List Value} {st : am_S} {K K2 : am_K} (hK : ∀ pc lc sk st, K pc lc sk st → K2 pc lc sk st) : am_i1 c t n lc sk st K → am_i1 c t n lc sk st K2 := by
  unfold am_i1
  (repeat' split) <;> first | exact fun h => h.elim | exact fun h => hK _ _ _ _ h | exact fun h => ⟨h.1, hK _ _ _ _ h.2⟩ | (refine fun h => ⟨h.1, ?_⟩; have h2 := h.2; revert h2; (repeat' split) <;> first | exact fun h => h.elim | exact fun h => hK _ _ _ _ h | exact fun h => ⟨h.1, hK _ _ _ _ h.2⟩)
theorem de_am_i1 {c : Int32 → Bool} {t n : Nat} {lc sk : List Value} {st : am_S} {K K2 : am_K} : am_i1 c t n lc sk st K → am_i1 c t n lc sk st K2 → ∃ pc lc sk st, K pc lc sk st ∧ K2 pc lc sk st := by
  unfold am_i1
  (repeat' split) <;> first | exact fun h => h.elim | exact fun a b => ⟨_, _, _, _, a, b⟩ | exact fun a b => ⟨_, _, _, _, a.2, b.2⟩ | (refine fun a b => ?_; have h2 := a.2; have h3 := b.2; revert h2 h3; (repeat' split) <;> first | exact fun h => h.elim | exact fun a b => ⟨_, _, _, _, a, b⟩ | exact fun a b => ⟨_, _, _, _, a.2, b.2⟩)
theorem mo_am_i2 {c : Int32 → Int32 → Bool} {t n : Nat} {lc sk : List Value} {st : am_S} {K K2 : am_K} (hK : ∀ pc lc sk st, K pc lc sk st → K2 pc lc sk st) : am_i2 c t n lc sk st K → am_i2 c t n lc sk st K2 := by
  unfold am_i2
  (repeat' split) <;> first | exact fun h => h.elim | exact fun h => hK _ _ _ _ h | exact fun h => ⟨h.1, hK _ _ _ _ h.2⟩ | (refine fun h => ⟨h.1, ?_⟩; have h2 := h.2; revert h2; (repeat' split) <;> first | exact fun h => h.elim | exact fun h => hK _ _ _ _ h | exact fun h => ⟨h.1, hK _ _ _ _ h.2⟩)
theorem de_am_i2 {c : Int32 → Int32 → Bool} {t n : Nat} {lc sk : List Value} {st : am_S} {K K2 : am_K} : am_i2 c t n lc sk st K → am_i2 c t n lc sk st K2 → ∃ pc lc sk st, K pc lc sk st ∧ K2 pc lc sk st := by
  unfold am_i2
  (repeat' split) <;> first | exact fun h => h.elim | exact fun a b => ⟨_, _, _, _, a, b⟩ | exact fun a b => ⟨_, _, _, _, a.2, b.2⟩ | (refine fun a b => ?_; have h2 := a.2; have h3 := b.2; revert h2 h3; (repeat' split) <;> first | exact fun h => h.elim | exact fun a b => ⟨_, _, _, _, a, b⟩ | exact fun a b => ⟨_, _, _, _, a.2, b.2⟩)
theorem mo_am_nu {t n : Nat} {lc sk : List Value} {st : am_S} {K K2 : am_K} (hK : ∀ pc lc sk st, K pc lc sk st → K2 pc lc sk st) : am_nu t n lc sk st K → am_nu t n lc sk st K2 := by
  unfold am_nu
  (repeat' split) <;> first | exact fun h => h.elim | exact fun h => hK _ _ _ _ h | exact fun h => ⟨h.1, hK _ _ _ _ h.2⟩ | (refine fun h => ⟨h.1, ?_⟩; have h2 := h.2; revert h2; (repeat' split) <;> first | exact fun h => h.elim | exact fun h => hK _ _ _ _ h | exact fun h => ⟨h.1, hK _ _ _ _ h.2⟩)
theorem de_am_nu {t n : Nat} {lc sk : List Value} {st : am_S} {K K2 : am_K} : am_nu t n lc sk st K → am_nu t n lc sk st K2 → ∃ pc lc sk st, K pc lc sk st ∧ K2 pc lc sk st := by
  unfold am_nu
  (repeat' split) <;> first | exact fun h => h.elim | exact fun a b => ⟨_, _, _, _, a, b⟩ | exact fun a b => ⟨_, _, _, _, a.2, b.2⟩ | (refine fun a b => ?_; have h2 := a.2; have h3 := b.2; revert h2 h3; (repeat' split) <;> first | exact fun h => h.elim | exact fun a b => ⟨_, _, _, _, a, b⟩ | exact fun a b => ⟨_, _, _, _, a.2, b.2⟩)
theorem mo_am_ts {d lo hi : Int} {offs : Array Int} {lc sk : List Value} {st : am_S} {K K2 : am_K} (hK : ∀ pc lc sk st, K pc lc sk st → K2 pc lc sk st) : am_ts d lo hi offs lc sk st K → am_ts d lo hi offs lc sk st K2 := by
  unfold am_ts
  (repeat' split) <;> first | exact fun h => h.elim | exact fun h => hK _ _ _ _ h | exact fun h => ⟨h.1, hK _ _ _ _ h.2⟩ | (refine fun h => ⟨h.1, ?_⟩; have h2 := h.2; revert h2; (repeat' split) <;> first | exact fun h => h.elim | exact fun h => hK _ _ _ _ h | exact fun h => ⟨h.1, hK _ _ _ _ h.2⟩)
theorem de_am_ts {d lo hi : Int} {offs : Array Int} {lc sk : List Value} {st : am_S} {K K2 : am_K} : am_ts d lo hi offs lc sk st K → am_ts d lo hi offs lc sk st K2 → ∃ pc lc sk st, K pc lc sk st ∧ K2 pc lc sk st := by
  unfold am_ts
  (repeat' split) <;> first | exact fun h => h.elim | exact fun a b => ⟨_, _, _, _, a, b⟩ | exact fun a b => ⟨_, _, _, _, a.2, b.2⟩ | (refine fun a b => ?_; have h2 := a.2; have h3 := b.2; revert h2 h3; (repeat' split) <;> first | exact fun h => h.elim | exact fun a b => ⟨_, _, _, _, a, b⟩ | exact fun a b => ⟨_, _, _, _, a.2, b.2⟩)
def am_mC (C C2 : am_C) : Prop := ∀ m a s (P P2 : am_Q), (∀ r s, P r s → P2 r s) → C m a s P → C2 m a s P2
def am_dC (C C2 : am_C) : Prop := ∀ m a s (P P2 : am_Q), C m a s P → C2 m a s P2 → ∃ r s, P r s ∧ P2 r s
theorem mo_am_af {e : am_M} {pc : Nat} {lc r : List Value} {K K2 : am_K} {Q Q2 : am_Q} (hK : ∀ pc lc sk st, K pc lc sk st → K2 pc lc sk st) (hQ : ∀ r s, Q r s → Q2 r s) (o : am_R) (s : am_S) : am_af e pc lc r K Q o s → am_af e pc lc r K2 Q2 o s := by
  rcases o with (_ | v) | x
  · exact hK _ _ _ _
  · exact hK _ _ _ _
  · show am_ht e pc x lc s K Q → am_ht e pc x lc s K2 Q2
    unfold am_ht
    (repeat' split) <;> first | exact fun h => h.elim | exact hQ _ _ | exact fun h => ⟨h.1, hK _ _ _ _ h.2⟩
theorem de_am_af {e : am_M} {pc : Nat} {lc r : List Value} {K K2 : am_K} {Q Q2 : am_Q} (o : am_R) (s : am_S) : am_af e pc lc r K Q o s → am_af e pc lc r K2 Q2 o s → (∃ pc lc sk st, K pc lc sk st ∧ K2 pc lc sk st) ∨ ∃ r s, Q r s ∧ Q2 r s := by
  rcases o with (_ | v) | x
  · exact fun a b => Or.inl ⟨_, _, _, _, a, b⟩
  · exact fun a b => Or.inl ⟨_, _, _, _, a, b⟩
  · show am_ht e pc x lc s K Q → am_ht e pc x lc s K2 Q2 → _
    unfold am_ht
    (repeat' split) <;> first | exact fun h => h.elim | exact fun a b => Or.inr ⟨_, _, a, b⟩ | exact fun a b => Or.inl ⟨_, _, _, _, a.2, b.2⟩
theorem mo_am_cs {C C2 : am_C} {e : am_M} {m k pc : Nat} {lc sk : List Value} {st : am_S} {K K2 : am_K} {Q Q2 : am_Q} (hC : am_mC C C2) (hK : ∀ pc lc sk st, K pc lc sk st → K2 pc lc sk st) (hQ : ∀ r s, Q r s → Q2 r s) : am_cs C e m k pc lc sk st K Q → am_cs C2 e m k pc lc sk st K2 Q2 :=
  fun h => ⟨h.1, hC _ _ _ _ _ (mo_am_af hK hQ) h.2⟩
theorem mo_am_ci {C C2 : am_C} {e : am_M} {N m k pc : Nat} {lc sk : List Value} {st : am_S} {K K2 : am_K} {Q Q2 : am_Q} (hC : am_mC C C2) (hK : ∀ pc lc sk st, K pc lc sk st → K2 pc lc sk st) (hQ : ∀ r s, Q r s → Q2 r s) : am_ci C e N m k pc lc sk st K Q → am_ci C2 e N m k pc lc sk st K2 Q2 := by
  unfold am_ci
  split <;> first | exact fun h => h.elim | exact fun h => ⟨h.1, hC _ _ _ _ _ (mo_am_af hK hQ) h.2⟩
theorem de_am_cs {C C2 : am_C} {e : am_M} {m k pc : Nat} {lc sk : List Value} {st : am_S} {K K2 : am_K} {Q Q2 : am_Q} (hC : am_dC C C2) : am_cs C e m k pc lc sk st K Q → am_cs C2 e m k pc lc sk st K2 Q2 → (∃ pc lc sk st, K pc lc sk st ∧ K2 pc lc sk st) ∨ ∃ r s, Q r s ∧ Q2 r s := by
  intro a b
  obtain ⟨r, s, h1, h2⟩ := hC _ _ _ _ _ a.2 b.2
  exact de_am_af r s h1 h2
theorem de_am_ci {C C2 : am_C} {e : am_M} {N m k pc : Nat} {lc sk : List Value} {st : am_S} {K K2 : am_K} {Q Q2 : am_Q} (hC : am_dC C C2) : am_ci C e N m k pc lc sk st K Q → am_ci C2 e N m k pc lc sk st K2 Q2 → (∃ pc lc sk st, K pc lc sk st ∧ K2 pc lc sk st) ∨ ∃ r s, Q r s ∧ Q2 r s := by
  unfold am_ci
  split <;> first | exact fun h => h.elim | skip
  intro a b
  obtain ⟨r, s, h1, h2⟩ := hC _ _ _ _ _ a.2 b.2
  exact de_am_af r s h1 h2
theorem mo_o : am_mC (fun _ _ s q => q (.inl none) s) (fun _ _ s q => q (.inl none) s) := fun _ _ _ _ _ h a => h _ _ a
theorem de_o : am_dC (fun _ _ s q => q (.inl none) s) (fun _ _ s q => q (.inl none) s) := fun _ _ _ _ _ a b => ⟨_, _, a, b⟩
theorem mo_am_tw {X : am_X} {e : am_M} {pc x : Nat} {sk : List Value} {st : am_S} {Q Q2 : am_Q} (hQ : ∀ r s, Q r s → Q2 r s) : am_tw X e pc x sk st Q → am_tw X e pc x sk st Q2 := fun h => ⟨h.1, hQ _ _ h.2⟩
theorem mo_am_rv {sk : List Value} {st : am_S} {Q Q2 : am_Q} (hQ : ∀ r s, Q r s → Q2 r s) : am_rv sk st Q → am_rv sk st Q2 := by
  unfold am_rv
  split <;> first | exact fun h => h.elim | exact hQ _ _
theorem mo_am_r1 {t : Value → Bool} {sk : List Value} {st : am_S} {Q Q2 : am_Q} (hQ : ∀ r s, Q r s → Q2 r s) : am_r1 t sk st Q → am_r1 t sk st Q2 := by
  unfold am_r1
  (repeat' split) <;> first | exact fun h => h.elim | exact hQ _ _
theorem mo_am_rz {sk : List Value} {st : am_S} {Q Q2 : am_Q} (hQ : ∀ r s, Q r s → Q2 r s) : am_rz sk st Q → am_rz sk st Q2 := by
  unfold am_rz
  split <;> first | exact fun h => h.elim | exact fun h => ⟨h.1, hQ _ _ h.2⟩
theorem de_am_tw {X : am_X} {e : am_M} {pc x : Nat} {sk : List Value} {st : am_S} {Q Q2 : am_Q} : am_tw X e pc x sk st Q → am_tw X e pc x sk st Q2 → ∃ r s, Q r s ∧ Q2 r s := fun a b => ⟨_, _, a.2, b.2⟩
theorem de_am_rv {sk : List Value} {st : am_S} {Q Q2 : am_Q} : am_rv sk st Q → am_rv sk st Q2 → ∃ r s, Q r s ∧ Q2 r s := by
  unfold am_rv
  split <;> first | exact fun h => h.elim | exact fun a b => ⟨_, _, a, b⟩
theorem de_am_r1 {t : Value → Bool} {sk : List Value} {st : am_S} {Q Q2 : am_Q} : am_r1 t sk st Q → am_r1 t sk st Q2 → ∃ r s, Q r s ∧ Q2 r s := by
  unfold am_r1
  (repeat' split) <;> first | exact fun h => h.elim | exact fun a b => ⟨_, _, a, b⟩
theorem de_am_rz {sk : List Value} {st : am_S} {Q Q2 : am_Q} : am_rz sk st Q → am_rz sk st Q2 → ∃ r s, Q r s ∧ Q2 r s := by
  unfold am_rz
  split <;> first | exact fun h => h.elim | exact fun a b => ⟨_, _, a.2, b.2⟩
set_option maxHeartbeats 4000000 in
theorem mo_step {C C2 : am_C} {X : am_X} {e : am_M} {i : Instr} {n pc : Nat} {lc sk : List Value} {st : am_S} {K K2 : am_K} {Q Q2 : am_Q} (hC : am_mC C C2) (hK : ∀ pc lc sk st, K pc lc sk st → K2 pc lc sk st) (hQ : ∀ r s, Q r s → Q2 r s) : am_step C X e i n pc lc sk st K Q → am_step C2 X e i n pc lc sk st K2 Q2 := by
  unfold am_step
  split
  · exact mo_am_ld hK
  · exact mo_am_ld hK
  · exact mo_am_ld hK
  · exact mo_am_ld hK
  · exact mo_am_so hK
  · exact mo_am_so hK
  · exact mo_am_so2 hK
  · exact mo_am_so2 hK
  · exact hK _ _ _ _
  · exact mo_am_tk hK
  · exact hK _ _ _ _
  · exact hK _ _ _ _
  · exact mo_am_b2 hK
  · exact mo_am_b2 hK
  · exact mo_am_b2 hK
  · exact mo_am_rm hK
  · exact mo_am_b2 hK
  · exact mo_am_b2 hK
  · exact mo_am_l2 hK
  · exact mo_am_l2 hK
  · exact mo_am_ls hK
  · exact mo_am_ls hK
  · exact hK _ _ _ _
  · exact hK _ _ _ _
  · exact mo_am_di hK
  · exact mo_am_b2 hK
  · exact mo_am_l2 hK
  · exact mo_am_l2 hK
  · exact mo_am_cl2 hK
  · exact mo_am_cm hK
  · exact mo_am_cl1 hK
  · exact mo_am_cd1 hK
  · exact mo_am_dv hK
  · exact mo_am_dc hK
  · exact mo_am_d1 hK
  · exact mo_am_d2 hK
  · exact mo_am_p1 hK
  · exact mo_am_i1 hK
  · exact mo_am_i1 hK
  · exact mo_am_i1 hK
  · exact mo_am_i1 hK
  · exact mo_am_i1 hK
  · exact mo_am_i1 hK
  · exact mo_am_i2 hK
  · exact mo_am_i2 hK
  · exact mo_am_i2 hK
  · exact mo_am_i2 hK
  · exact mo_am_i2 hK
  · exact mo_am_i2 hK
  · exact hK _ _ _ _
  · exact mo_am_nu hK
  · exact mo_am_ts hK
  · exact mo_am_in1 hK
  · exact mo_am_al hK
  · exact mo_am_xl hK
  · exact mo_am_xs hK
  · exact mo_am_ql hK
  · exact mo_am_qs hK
  · exact mo_am_gt hK
  · exact mo_am_pt hK
  · exact mo_am_nw hK
  · exact mo_am_na hK
  · exact mo_am_na hK
  · exact mo_am_ci hC hK hQ
  · exact mo_am_cs hC hK hQ
  · exact mo_am_oi hK
  · exact mo_am_ci hC hK hQ
  · exact mo_am_cp hK
  · exact mo_am_mm hK
  · exact mo_am_mm hK
  · exact mo_am_tw hQ
  · exact mo_am_rv hQ
  · exact mo_am_r1 hQ
  · exact mo_am_rz hQ
  · exact mo_am_r1 hQ
  · exact mo_am_r1 hQ
  · exact mo_am_r1 hQ
  · exact fun h => h.elim
set_option maxHeartbeats 4000000 in
theorem de_step {C C2 : am_C} {X : am_X} {e : am_M} {i : Instr} {n pc : Nat} {lc sk : List Value} {st : am_S} {K K2 : am_K} {Q Q2 : am_Q} (hC : am_dC C C2) : am_step C X e i n pc lc sk st K Q → am_step C2 X e i n pc lc sk st K2 Q2 → (∃ pc lc sk st, K pc lc sk st ∧ K2 pc lc sk st) ∨ ∃ r s, Q r s ∧ Q2 r s := by
  unfold am_step
  split
  · exact fun a b => Or.inl (de_am_ld a b)
  · exact fun a b => Or.inl (de_am_ld a b)
  · exact fun a b => Or.inl (de_am_ld a b)
  · exact fun a b => Or.inl (de_am_ld a b)
  · exact fun a b => Or.inl (de_am_so a b)
  · exact fun a b => Or.inl (de_am_so a b)
  · exact fun a b => Or.inl (de_am_so2 a b)
  · exact fun a b => Or.inl (de_am_so2 a b)
  · exact fun a b => Or.inl ⟨_, _, _, _, a, b⟩
  · exact fun a b => Or.inl (de_am_tk a b)
  · exact fun a b => Or.inl ⟨_, _, _, _, a, b⟩
  · exact fun a b => Or.inl ⟨_, _, _, _, a, b⟩
  · exact fun a b => Or.inl (de_am_b2 a b)
  · exact fun a b => Or.inl (de_am_b2 a b)
  · exact fun a b => Or.inl (de_am_b2 a b)
  · exact fun a b => Or.inl (de_am_rm a b)
  · exact fun a b => Or.inl (de_am_b2 a b)
  · exact fun a b => Or.inl (de_am_b2 a b)
  · exact fun a b => Or.inl (de_am_l2 a b)
  · exact fun a b => Or.inl (de_am_l2 a b)
  · exact fun a b => Or.inl (de_am_ls a b)
  · exact fun a b => Or.inl (de_am_ls a b)
  · exact fun a b => Or.inl ⟨_, _, _, _, a, b⟩
  · exact fun a b => Or.inl ⟨_, _, _, _, a, b⟩
  · exact fun a b => Or.inl (de_am_di a b)
  · exact fun a b => Or.inl (de_am_b2 a b)
  · exact fun a b => Or.inl (de_am_l2 a b)
  · exact fun a b => Or.inl (de_am_l2 a b)
  · exact fun a b => Or.inl (de_am_cl2 a b)
  · exact fun a b => Or.inl (de_am_cm a b)
  · exact fun a b => Or.inl (de_am_cl1 a b)
  · exact fun a b => Or.inl (de_am_cd1 a b)
  · exact fun a b => Or.inl (de_am_dv a b)
  · exact fun a b => Or.inl (de_am_dc a b)
  · exact fun a b => Or.inl (de_am_d1 a b)
  · exact fun a b => Or.inl (de_am_d2 a b)
  · exact fun a b => Or.inl (de_am_p1 a b)
  · exact fun a b => Or.inl (de_am_i1 a b)
  · exact fun a b => Or.inl (de_am_i1 a b)
  · exact fun a b => Or.inl (de_am_i1 a b)
  · exact fun a b => Or.inl (de_am_i1 a b)
  · exact fun a b => Or.inl (de_am_i1 a b)
  · exact fun a b => Or.inl (de_am_i1 a b)
  · exact fun a b => Or.inl (de_am_i2 a b)
  · exact fun a b => Or.inl (de_am_i2 a b)
  · exact fun a b => Or.inl (de_am_i2 a b)
  · exact fun a b => Or.inl (de_am_i2 a b)
  · exact fun a b => Or.inl (de_am_i2 a b)
  · exact fun a b => Or.inl (de_am_i2 a b)
  · exact fun a b => Or.inl ⟨_, _, _, _, a, b⟩
  · exact fun a b => Or.inl (de_am_nu a b)
  · exact fun a b => Or.inl (de_am_ts a b)
  · exact fun a b => Or.inl (de_am_in1 a b)
  · exact fun a b => Or.inl (de_am_al a b)
  · exact fun a b => Or.inl (de_am_xl a b)
  · exact fun a b => Or.inl (de_am_xs a b)
  · exact fun a b => Or.inl (de_am_ql a b)
  · exact fun a b => Or.inl (de_am_qs a b)
  · exact fun a b => Or.inl (de_am_gt a b)
  · exact fun a b => Or.inl (de_am_pt a b)
  · exact fun a b => Or.inl (de_am_nw a b)
  · exact fun a b => Or.inl (de_am_na a b)
  · exact fun a b => Or.inl (de_am_na a b)
  · exact de_am_ci hC
  · exact de_am_cs hC
  · exact fun a b => Or.inl (de_am_oi a b)
  · exact de_am_ci hC
  · exact fun a b => Or.inl (de_am_cp a b)
  · exact fun a b => Or.inl (de_am_mm a b)
  · exact fun a b => Or.inl (de_am_mm a b)
  · exact fun a b => Or.inr (de_am_tw a b)
  · exact fun a b => Or.inr (de_am_rv a b)
  · exact fun a b => Or.inr (de_am_r1 a b)
  · exact fun a b => Or.inr (de_am_rz a b)
  · exact fun a b => Or.inr (de_am_r1 a b)
  · exact fun a b => Or.inr (de_am_r1 a b)
  · exact fun a b => Or.inr (de_am_r1 a b)
  · exact fun h => h.elim
theorem mo_one {C C2 : am_C} {X : am_X} {e : am_M} {pc : Nat} {lc sk : List Value} {st : am_S} {K K2 : am_K} {Q Q2 : am_Q} (hC : am_mC C C2) (hK : ∀ pc lc sk st, K pc lc sk st → K2 pc lc sk st) (hQ : ∀ r s, Q r s → Q2 r s) : am_one C X e K pc lc sk st Q → am_one C2 X e K2 pc lc sk st Q2 := by
  unfold am_one
  split
  · exact mo_step hC hK hQ
  · exact fun h => h
theorem de_one {C C2 : am_C} {X : am_X} {e : am_M} {pc : Nat} {lc sk : List Value} {st : am_S} {K K2 : am_K} {Q Q2 : am_Q} (hC : am_dC C C2) : am_one C X e K pc lc sk st Q → am_one C2 X e K2 pc lc sk st Q2 → (∃ pc lc sk st, K pc lc sk st ∧ K2 pc lc sk st) ∨ ∃ r s, Q r s ∧ Q2 r s := by
  unfold am_one
  split
  · exact de_step hC
  · exact fun h => h.elim
/-- a step, and on -/
theorem go_in {C : am_C} {X : am_X} {e : am_M} {pc : Nat} {lc sk : List Value} {st : am_S} {Q : am_Q} (hC : am_mC C C) (h : am_one C X e (fun pc lc sk st => am_Go C X e pc lc sk st Q) pc lc sk st Q) : am_Go C X e pc lc sk st Q :=
  fun K hK => hK _ _ _ _ (mo_one hC (fun _ _ _ _ g => g K hK) (fun _ _ q => q) h)
theorem go_iff {C : am_C} {X : am_X} {e : am_M} {pc : Nat} {lc sk : List Value} {st : am_S} {Q : am_Q} (hC : am_mC C C) : am_Go C X e pc lc sk st Q ↔ am_one C X e (fun pc lc sk st => am_Go C X e pc lc sk st Q) pc lc sk st Q :=
  ⟨fun h => h (fun pc lc sk st => am_one C X e (fun pc lc sk st => am_Go C X e pc lc sk st Q) pc lc sk st Q) (fun _ _ _ _ a => mo_one hC (fun _ _ _ _ g => go_in hC g) (fun _ _ q => q) a), go_in hC⟩
theorem mo_go {C C2 : am_C} {X : am_X} {e : am_M} {pc : Nat} {lc sk : List Value} {st : am_S} {Q Q2 : am_Q} (hm : am_mC C2 C2) (hC : am_mC C C2) (hQ : ∀ r s, Q r s → Q2 r s) (h : am_Go C X e pc lc sk st Q) : am_Go C2 X e pc lc sk st Q2 :=
  h (fun pc lc sk st => am_Go C2 X e pc lc sk st Q2) (fun _ _ _ _ a => go_in hm (mo_one hC (fun _ _ _ _ g => g) hQ a))
theorem de_go {C C2 : am_C} {X : am_X} {e : am_M} {pc : Nat} {lc sk : List Value} {st : am_S} {Q Q2 : am_Q} (hm : am_mC C2 C2) (hC : am_dC C C2) (h : am_Go C X e pc lc sk st Q) : am_Go C2 X e pc lc sk st Q2 → ∃ r s, Q r s ∧ Q2 r s :=
  h (fun pc lc sk st => am_Go C2 X e pc lc sk st Q2 → ∃ r s, Q r s ∧ Q2 r s) (fun pc lc sk st a b => by
    rcases de_one hC a ((go_iff hm).mp b) with ⟨_, _, _, _, c, d⟩ | h
    · exact c d
    · exact h)
theorem mo_ca (X : am_X) : ∀ d, am_mC (am_Ca X d) (am_Ca X d)
  | 0 => fun _ _ _ _ _ _ h => h
  | d + 1 => fun m a s P P2 hP => by
    unfold am_Ca
    split
    · exact fun h => ⟨h.1, mo_go (mo_ca X d) (mo_ca X d) hP h.2⟩
    · exact fun h => h
theorem de_ca (X : am_X) : ∀ d, am_dC (am_Ca X d) (am_Ca X d)
  | 0 => fun _ _ _ _ _ h => h.elim
  | d + 1 => fun m a s P P2 => by
    unfold am_Ca
    split
    · exact fun h g => de_go (mo_ca X d) (de_ca X d) h.2 g.2
    · exact fun h => h.elim
/-- what a call answers, said once for all: it rewrites -/
theorem ca_eq {X : am_X} {d m : Nat} {a : List Value} {s : am_S} {r : am_R} {s2 : am_S} (h : am_Ca X d m a s (fun r2 t => r2 = r ∧ t = s2)) (P : am_Q) : am_Ca X d m a s P = P r s2 :=
  propext ⟨fun g => by
    obtain ⟨_, _, ⟨rfl, rfl⟩, h2⟩ := de_ca X d _ _ _ _ _ h g
    exact h2, fun g => mo_ca X d _ _ _ _ _ (fun _ _ q => by rw [q.1, q.2]; exact g) h⟩
theorem ca_of {X : am_X} {d m : Nat} {a : List Value} {s : am_S} {r : am_R} {s2 : am_S} (h : ∀ P : am_Q, P r s2 → am_Ca X d m a s P) (P : am_Q) : am_Ca X d m a s P = P r s2 := ca_eq (h _ ⟨rfl, rfl⟩) P
/-- the run up to given points -/
def am_G (cuts : List Nat) (d : Nat) (X : am_X) (e : am_M) (pc : Nat) (lc sk : List Value) (st : am_S) (Q : am_Q) : Prop := am_Go (am_Ca X d) (X.1, X.2.1, d) e pc lc sk st Q
theorem G_go {cuts : List Nat} {d : Nat} {X : am_X} {e : am_M} {pc : Nat} {lc sk : List Value} {st : am_S} {Q : am_Q} (h : cuts.contains pc = false) : am_G cuts d X e pc lc sk st Q = am_one (am_Ca X d) (X.1, X.2.1, d) e (fun pc lc sk st => am_G cuts d X e pc lc sk st Q) pc lc sk st Q := propext (go_iff (mo_ca X d))
theorem G_cut {cuts : List Nat} {d : Nat} {X : am_X} {e : am_M} {pc : Nat} {lc sk : List Value} {st : am_S} {Q : am_Q} (h : cuts.contains pc = true) : am_G cuts d X e pc lc sk st Q = am_Go (am_Ca X d) (X.1, X.2.1, d) e pc lc sk st Q := rfl
theorem go_G (cuts : List Nat) {d : Nat} {X : am_X} {e : am_M} {pc : Nat} {lc sk : List Value} {st : am_S} {Q : am_Q} : am_Go (am_Ca X d) (X.1, X.2.1, d) e pc lc sk st Q = am_one (am_Ca X d) (X.1, X.2.1, d) e (fun pc lc sk st => am_G cuts d X e pc lc sk st Q) pc lc sk st Q := propext (go_iff (mo_ca X d))
theorem ca_go {X : am_X} {d m : Nat} {a : List Value} {s : am_S} {P : am_Q} {e : am_M} (h : am_of m = some e) (hl : (am_ag a).length ≤ am_nl e) (cuts : List Nat) : am_Ca X (d + 1) m a s P = am_one (am_Ca X d) (X.1, X.2.1, d) e (fun pc lc sk st => am_G cuts d X e pc lc sk st P) 0 (am_en e a) [] s P := by
  refine Eq.trans ?_ (go_G cuts)
  show (match am_of m with | some e => (am_ag a).length ≤ am_nl e ∧ am_Go (am_Ca X d) (X.1, X.2.1, d) e 0 (am_en e a) [] s P | none => False) = _
  rw [h]
  exact propext ⟨fun h => h.2, fun h => ⟨hl, h⟩⟩
