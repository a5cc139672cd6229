/-! FOR THE PROPERTY: the orders -/
section XO
variable {S : Ab} {len s : Nat} {pd : Nat → Nat}
theorem xI_oN (h : wS S) (x : xI S) (hs : s < len) (ok : (tO len pd s).1 = true) (hm : oM S (hr len pd s) (orX len pd s)) : xI (oN len pd s S) := by
  obtain ⟨-, w1, w2, w3, w4⟩ := tO_w hs ok
  unfold oN oS
  unfold oM at hm
  by_cases e1 : hr len pd s = 99
  · rw [if_pos e1] at hm ⊢
    exact xI_commit h x
  · rw [if_neg e1] at hm ⊢
    by_cases e2 : hr len pd s = 98
    · rw [if_pos e2] at hm ⊢
      have hl := lfN_at (br := S.br) 6 0 (lfN S.br 6 0 - 1) (by omega)
      exact xI_setB x (fun z => h.curb (by rw [← z]; exact hl.2.2))
    · rw [if_neg e2] at hm ⊢
      by_cases e3 : hr len pd s = 97
      · rw [if_pos e3] at hm ⊢
        exact xI_stand x
      · rw [if_neg e3] at hm ⊢
        by_cases e4 : hr len pd s = 115
        · rw [if_pos e4] at hm ⊢
          exact xI_cur x
        · rw [if_neg e4] at hm ⊢
          by_cases e5 : hr len pd s = 109
          · rw [if_pos e5] at hm ⊢
            have e6 : orX len pd s = hr len pd (s + 1) - 48 := by unfold orX; rw [if_neg (by omega), if_pos (Or.inr e5)]
            have hx := (w2 (Or.inr e5)).2
            rw [← e6] at hx
            exact xI_mrg h x hx hm
          · rw [if_neg e5] at hm ⊢
            by_cases e6 : hr len pd s = 112
            · rw [if_pos e6] at hm ⊢
              exact xI_pick h x hm
            · rw [if_neg e6] at hm ⊢
              by_cases e7 : hr len pd s = 114
              · rw [if_pos e7] at hm ⊢
                exact xI_pick h x hm
              · rw [if_neg e7] at hm ⊢
                exact xI_setL x
theorem rnO_I : ∀ (k s n : Nat) (S : Ab), wS S → xI S → s ≤ len → stA len pd 0 s = 0 → wS (rnO len pd k s S n).2 ∧ xI (rnO len pd k s S n).2 := by
  intro k
  induction k with
  | zero => intro s n S h x _ _; exact ⟨h, x⟩
  | succ k ih =>
    intro s n S h x hs hst
    by_cases hc : s < len ∧ oM S (hr len pd s) (orX len pd s)
    · rw [rnO_t hc]
      have tq := tO_q (pd := pd) hc.1
      have ok : (tO len pd s).1 = true := by
        cases e : (tO len pd s).1 with
        | true => rfl
        | false =>
          have := tq.2 e
          omega
      obtain ⟨q1, q2⟩ := tq.1 ok
      exact ih _ _ _ (wS_oN h hc.1 ok hc.2) (xI_oN h x hc.1 ok hc.2) q1 (by rw [← q2]; exact hst)
    · rw [rnO_f hc]; exact ⟨h, x⟩
/-- how many semicolons there are behind s -/
def scN (len : Nat) (pd : Nat → Nat) (s : Nat) : Nat := cnt (fun i => decide (s ≤ i ∧ hr len pd i = 59)) len
theorem tO_59 (ok : (tO len pd s).1 = true) : 1 ≤ (tO len pd s).2 ∧ hr len pd ((tO len pd s).2 - 1) = 59 := by
  have key : ∀ x : Bool × Nat, (tkc len pd 59 x).1 = true → 1 ≤ (tkc len pd 59 x).2 ∧ hr len pd ((tkc len pd 59 x).2 - 1) = 59 := by
    intro x h
    obtain ⟨-, a2, a3⟩ := tkc_t h
    rw [a3, Nat.add_sub_cancel]
    exact ⟨by omega, a2⟩
  unfold tO at ok ⊢
  by_cases c1 : 48 ≤ hr len pd s ∧ hr len pd s ≤ 51
  · rw [if_pos c1] at ok ⊢
    exact key _ ok
  · rw [if_neg c1] at ok ⊢
    by_cases c2 : hr len pd s = 115 ∨ hr len pd s = 109
    · rw [if_pos c2] at ok ⊢
      exact key _ ok
    · rw [if_neg c2] at ok ⊢
      by_cases c3 : hr len pd s = 112 ∨ hr len pd s = 114
      · rw [if_pos c3] at ok ⊢
        exact key _ ok
      · rw [if_neg c3] at ok ⊢
        by_cases c4 : hr len pd s = 99 ∨ hr len pd s = 98 ∨ hr len pd s = 97
        · rw [if_pos c4] at ok ⊢
          exact key _ ok
        · rw [if_neg c4] at ok
          exact absurd (show false = true from ok) (by decide)
theorem cnt_two {f g : Nat → Bool} {i n : Nat} (h : ∀ j, g j = true → f j = true) (hi : i < n) (hf : f i = true) (hg : g i = false) : cnt g n + 1 ≤ cnt f n := by
  induction n with
  | zero => omega
  | succ n ih =>
    by_cases e : i = n
    · subst e
      rw [cnt_t hf, cnt_f hg]
      have : cnt g i ≤ cnt f i := by
        have : ∀ m, cnt g m ≤ cnt f m := by
          intro m
          induction m with
          | zero => exact Nat.le_refl 0
          | succ m ih2 =>
            cases hg2 : g m with
            | false =>
              rw [cnt_f hg2]
              have : cnt f m ≤ cnt f (m + 1) := cnt_mono f (Nat.le_succ m)
              omega
            | true => rw [cnt_t hg2, cnt_t (h m hg2)]; omega
        exact this i
      omega
    · have := ih (by omega)
      cases hg2 : g n with
      | false =>
        rw [cnt_f hg2]
        have : cnt f n ≤ cnt f (n + 1) := cnt_mono f (Nat.le_succ n)
        omega
      | true => rw [cnt_t hg2, cnt_t (h n hg2)]; omega
theorem rnO_cnt : ∀ (k s n : Nat) (S : Ab), s ≤ len → stA len pd 0 s = 0 → (rnO len pd k s S n).1 ≤ n + scN len pd s := by
  intro k
  induction k with
  | zero => intro s n S _ _; exact Nat.le_add_right _ _
  | succ k ih =>
    intro s n S hs hst
    by_cases hc : s < len ∧ oM S (hr len pd s) (orX len pd s)
    · rw [rnO_t hc]
      have tq := tO_q (pd := pd) hc.1
      have ok : (tO len pd s).1 = true := by
        cases e : (tO len pd s).1 with
        | true => rfl
        | false =>
          have := tq.2 e
          omega
      obtain ⟨q1, q2⟩ := tq.1 ok
      have h9 := ih (tO len pd s).2 (n + 1) (oN len pd s S) q1 (by rw [← q2]; exact hst)
      obtain ⟨e1, e2⟩ := tO_59 ok
      have hg := tO_gt ok hc.1
      have h2 : scN len pd (tO len pd s).2 + 1 ≤ scN len pd s := cnt_two (i := (tO len pd s).2 - 1) (fun j hj => by
        simp only [decide_eq_true_eq] at hj ⊢
        exact ⟨by omega, hj.2⟩) (by omega) (by simp only [decide_eq_true_eq]; exact ⟨by omega, e2⟩) (by simp only [decide_eq_false_iff_not]; omega)
      omega
    · rw [rnO_f hc]; exact Nat.le_add_right _ _
end XO
