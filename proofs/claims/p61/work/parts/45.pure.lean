/-! WHAT IS PURE: sets as bits, orders, what else holds (out of the first claim's parts) -/
def lS (x : Int64) (S : Nat → Prop) : Prop := ∀ c, c < 64 → (x.toBitVec.getLsbD c = true ↔ S c)
theorem lS_or {x y : Int64} {S T : Nat → Prop} (h : lS x S) (g : lS y T) : lS (x ||| y) (fun c => S c ∨ T c) := by
  intro c hc
  rw [Int64.toBitVec_or, BitVec.getLsbD_or, Bool.or_eq_true, h c hc, g c hc]
theorem lS_and {x y : Int64} {S T : Nat → Prop} (h : lS x S) (g : lS y T) : lS (x &&& y) (fun c => S c ∧ T c) := by
  intro c hc
  rw [Int64.toBitVec_and, BitVec.getLsbD_and, Bool.and_eq_true, h c hc, g c hc]
theorem lS_0 : lS 0 (fun _ => False) := by
  intro c hc
  rw [show (0 : Int64).toBitVec = 0#64 from rfl]
  simp
theorem sh_n : ∀ c, c < 60 → ((nI c).toInt64 &&& 63).toBitVec.smod 64 = BitVec.ofNat 64 c := by decide
theorem lS_1 {k : Nat} (hk : k < 60) : lS (1 <<< ((nI k).toInt64 &&& 63)) (fun x => x = k) := by
  intro c hc
  rw [Int64.toBitVec_shiftLeft, sh_n k hk, show (1 : Int64).toBitVec = 1#64 from rfl]
  rw [BitVec.shiftLeft_eq', BitVec.getLsbD_shiftLeft, BitVec.toNat_ofNat, Nat.mod_eq_of_lt (by omega), BitVec.getLsbD_one]
  simp
  omega
theorem lS_bit {x : Int64} {S : Nat → Prop} (h : lS x S) {c : Nat} (hc : c < 60) : (lg_cmp (x >>> ((nI c).toInt64 &&& 63) &&& 1) 1 = nI 0) ↔ S c := by
  have e : (x >>> ((nI c).toInt64 &&& 63) &&& 1 = 1) ↔ S c := by
    rw [← h c (by omega), ← Int64.toBitVec_inj, Int64.toBitVec_and, Int64.toBitVec_shiftRight, sh_n c hc, show (1 : Int64).toBitVec = 1#64 from rfl]
    rw [BitVec.sshiftRight_eq', BitVec.toNat_ofNat, Nat.mod_eq_of_lt (by omega), BitVec.and_one_eq_setWidth_ofBool_getLsbD, BitVec.getLsbD_sshiftRight]
    rw [if_pos (by omega)]
    simp
    cases x.toBitVec.getLsbD c <;> decide
  rw [← e]
  unfold lg_cmp
  by_cases g : x >>> ((nI c).toInt64 &&& 63) &&& 1 = 1
  · rw [g]; decide
  · rw [if_neg g]
    refine ⟨fun z => ?_, fun z => absurd z g⟩
    exfalso
    by_cases g2 : x >>> ((nI c).toInt64 &&& 63) &&& 1 > 1
    · rw [if_pos g2] at z; revert z; decide
    · rw [if_neg g2] at z; revert z; decide
theorem lS_cg {x : Int64} {S T : Nat → Prop} (h : lS x S) (e : ∀ c, S c ↔ T c) : lS x T := fun c hc => (h c hc).trans (e c)
section MB
variable {S : Ab} {o w t : Nat → Nat}
def zO (S : Ab) : Prop := S.op = 0 → ∀ i, i < 24 → S.O i = 0
theorem zO_stand {c : Nat} : zO (stand S c) := fun _ _ _ => rfl
theorem zO_addC {v : Nat} : zO (addC S v) := zO_stand
theorem zO_setL (z : zO S) {i v : Nat} : zO (setL S i v) := fun e j hj => by
  show va_up S.O i 0 j = 0
  by_cases h : j = i
  · subst h; exact up_eq
  · rw [up_ne h]; exact z e j hj
theorem zO_setB (z : zO S) {b v : Nat} : zO (setB S b v) := z
theorem zO_set {k v : Nat} (hk : k ≠ 0) : zO (setS S o w t k v) := by
  unfold setS
  split
  · exact zO_addC
  · exact fun e => absurd e hk
theorem zO_tb (hm : mayT S) : zO (tbS S) := fun _ i hi => by
  have e := cnt_0.mp hm.2.2 i hi
  show kO _ _ _ i = 0
  unfold kO
  rw [e]
  rfl
end MB
theorem lfN_at {br : Nat → Nat} : ∀ k i w, lfN br k i = w + 1 → i ≤ w ∧ w < i + k ∧ br w = 0 := by
  intro k
  induction k with
  | zero => intro i w h; exact absurd h (by simp [lfN])
  | succ k ih =>
    intro i w h
    unfold lfN at h
    by_cases e : br i = 0
    · rw [if_pos e] at h
      obtain rfl : i = w := by omega
      exact ⟨Nat.le_refl _, by omega, e⟩
    · rw [if_neg e] at h
      have := ih (i + 1) w h
      exact ⟨by omega, by omega, this.2.2⟩
section ME
variable {S : Ab}
theorem kBC_same {w : Nat → Nat} : cnt (kB w w w) 24 = 0 ∧ cnt (kC w w w) 24 = 0 := ⟨cnt_0.mpr fun i _ => by simp [kB], cnt_0.mpr fun i _ => by simp [kC]⟩
theorem zO_rpl {Z : Nat → Prop} : ∀ (k i m : Nat) (S : Ab), zO S → zO (rpl Z k i S m).1 := by
  intro k
  induction k with
  | zero => intro i m S z; exact z
  | succ k ih =>
    intro i m S z
    unfold rpl
    split
    · split
      · exact ih _ _ _ z
      · exact ih _ _ _ zO_addC
    · exact ih _ _ _ z
end ME
def hr (len : Nat) (pd : Nat → Nat) (s : Nat) : Nat := if s < len then pd s else 0
def tk (c : Bool) (x : Bool × Nat) : Bool × Nat := (x.1 && c, if (x.1 && c) = true then x.2 + 1 else x.2)
def tkc (len : Nat) (pd : Nat → Nat) (ch : Nat) (x : Bool × Nat) : Bool × Nat := tk (decide (hr len pd x.2 = ch)) x
def td (len : Nat) (pd : Nat → Nat) (most : Nat) (x : Bool × Nat) : Bool × Nat := tk (decide (48 ≤ hr len pd x.2 ∧ hr len pd x.2 ≤ 48 + most)) x
def is2' (len : Nat) (pd : Nat → Nat) (most s : Nat) : Bool := decide (48 < hr len pd s ∧ (48 ≤ hr len pd (s + 1) ∧ hr len pd (s + 1) ≤ 57) ∧ 10 * (hr len pd s - 48) + (hr len pd (s + 1) - 48) ≤ most)
def tn (len : Nat) (pd : Nat → Nat) (most : Nat) (x : Bool × Nat) : Bool × Nat := ((td len pd 9 x).1, if (td len pd 9 x).1 = true ∧ is2' len pd most x.2 = true then (td len pd 9 x).2 + 1 else (td len pd 9 x).2)
def nm (len : Nat) (pd : Nat → Nat) (most s : Nat) : Nat := if is2' len pd most s = true then 10 * (hr len pd s - 48) + (hr len pd (s + 1) - 48) else hr len pd s - 48
def tO (len : Nat) (pd : Nat → Nat) (s : Nat) : Bool × Nat := if 48 ≤ hr len pd s ∧ hr len pd s ≤ 51 then tkc len pd 59 (tn len pd 99 (tkc len pd 61 (td len pd 5 (tkc len pd 46 (true, s + 1))))) else if hr len pd s = 115 ∨ hr len pd s = 109 then tkc len pd 59 (td len pd 5 (true, s + 1)) else if hr len pd s = 112 ∨ hr len pd s = 114 then tkc len pd 59 (tn len pd 59 (true, s + 1)) else if hr len pd s = 99 ∨ hr len pd s = 98 ∨ hr len pd s = 97 then tkc len pd 59 (true, s + 1) else (false, s)
section MP
variable {len : Nat} {pd : Nat → Nat} {x : Bool × Nat}
theorem tk_2 (c : Bool) (x : Bool × Nat) : (tk c x).2 ≤ x.2 + 1 := by
  unfold tk
  dsimp only
  split <;> omega
theorem tk_t {c : Bool} {x : Bool × Nat} (h : (tk c x).1 = true) : x.1 = true ∧ c = true ∧ (tk c x).2 = x.2 + 1 := by
  have h2 : (x.1 && c) = true := h
  refine ⟨by revert h2; cases x.1 <;> simp, by revert h2; cases c <;> simp, ?_⟩
  exact if_pos h2
theorem tn_t {most : Nat} (h : (tn len pd most x).1 = true) : x.1 = true ∧ (48 ≤ hr len pd x.2 ∧ hr len pd x.2 ≤ 57) := by
  have h2 : (td len pd 9 x).1 = true := h
  obtain ⟨a, b, -⟩ := tk_t h2
  exact ⟨a, by simpa using b⟩
theorem tn_2 (most : Nat) (x : Bool × Nat) : (tn len pd most x).2 ≤ x.2 + 2 := by
  have h : (td len pd 9 x).2 ≤ x.2 + 1 := tk_2 _ x
  unfold tn
  dsimp only
  split <;> omega
end MP
/-! the two ways to read an order: the automaton of the class, the taking of the model -/
theorem aw0 : ∀ a, awN a 0 = 9 := by
  intro a
  unfold awN
  split <;> rfl
def stA (len : Nat) (pd : Nat → Nat) (a i : Nat) : Nat := ffN len pd (len - i) i a
section OR
variable {len : Nat} {pd : Nat → Nat} {s : Nat}
theorem hr_lt {i : Nat} (h : hr len pd i ≠ 0) : i < len := by
  by_cases e : i < len
  · exact e
  · exact absurd (if_neg e) h
theorem hr_sg {i : Nat} (h : i < len) : sg len pd i = hr len pd i := by
  unfold sg hr
  rw [if_pos h, if_pos h]
theorem hr_sg2 {i : Nat} (h : hr len pd i ≠ 0) : sg len pd i = hr len pd i := hr_sg (hr_lt h)
theorem st_s {a i : Nat} (hi : i ≤ len) (ha : a ≠ 0 ∨ i < len) : stA len pd a i = if awN a (hr len pd i) = 9 then i + 1 else stA len pd (awN a (hr len pd i)) (i + 1) := by
  unfold stA
  by_cases e : i < len
  · obtain ⟨k, hk⟩ : ∃ k, len - i = k + 1 := ⟨len - i - 1, by omega⟩
    rw [hk, show len - (i + 1) = k by omega]
    show (if awN a (sg len pd i) = 9 then i + 1 else ffN len pd k (i + 1) (awN a (sg len pd i))) = _
    rw [hr_sg e]
  · obtain rfl : i = len := by omega
    have h0 : hr i pd i = 0 := if_neg e
    rw [h0, aw0, if_pos rfl, Nat.sub_self]
    exact if_neg (by omega)
theorem st_n {a i : Nat} (h : awN a (hr len pd i) ≠ 9) : i < len := hr_lt fun z => h (by rw [z, aw0])
/-- read up to x, the fault will be v (0 for none, one more than its place) -/
def rdQ (len : Nat) (pd : Nat → Nat) (a : Nat) (x : Bool × Nat) (v : Nat) : Prop := (x.1 = true → x.2 ≤ len ∧ v = stA len pd a x.2) ∧ (x.1 = false → v = x.2 + 1)
theorem rq_tk {a a2 v : Nat} {c : Bool} {x : Bool × Nat} (q : rdQ len pd a x v) (ha : a ≠ 0) (h1 : c = true → awN a (hr len pd x.2) = a2) (h2 : c = false → awN a (hr len pd x.2) = 9) (h9 : a2 ≠ 9) : rdQ len pd a2 (tk c x) v := by
  obtain ⟨b, s⟩ := x
  cases b with
  | false =>
    refine ⟨fun z => absurd z (by simp [tk]), fun _ => ?_⟩
    have := q.2 rfl
    simpa [tk] using this
  | true =>
    obtain ⟨q1, q2⟩ := q.1 rfl
    have q1' : s ≤ len := q1
    cases c with
    | true =>
      have h3 := h1 rfl
      have h3' : awN a (hr len pd s) = a2 := h3
      have hl := st_n (len := len) (pd := pd) (a := a) (i := s) (by rw [h3']; exact h9)
      refine ⟨fun _ => ⟨hl, ?_⟩, fun z => absurd z (by simp [tk])⟩
      rw [q2]
      show stA len pd a s = stA len pd a2 (s + 1)
      rw [st_s q1' (Or.inl ha), h3', if_neg h9]
    | false =>
      have h3' : awN a (hr len pd s) = 9 := h2 rfl
      refine ⟨fun z => absurd z (by simp [tk]), fun _ => ?_⟩
      rw [q2]
      show stA len pd a s = s + 1
      rw [st_s q1' (Or.inl ha), h3', if_pos rfl]
theorem rq_0 {a2 : Nat} (hs : s < len) (h : awN 0 (hr len pd s) = a2) (h9 : a2 ≠ 9) : rdQ len pd a2 (true, s + 1) (stA len pd 0 s) := ⟨fun _ => ⟨hs, by rw [st_s (Nat.le_of_lt hs) (Or.inr hs), h, if_neg h9]⟩, fun z => absurd z (by simp)⟩
theorem rq_78 {v t : Nat} (ht : t ≤ len) (hv : v = stA len pd 7 t) (hd : ¬ (48 ≤ hr len pd t ∧ hr len pd t ≤ 57)) : v = stA len pd 8 t := by
  rw [hv, st_s ht (Or.inl (by decide)), st_s ht (Or.inl (by decide))]
  have e : awN 7 (hr len pd t) = awN 8 (hr len pd t) := by
    show (if 48 ≤ hr len pd t ∧ hr len pd t ≤ 57 then 8 else if hr len pd t = 59 then 0 else 9) = (if hr len pd t = 59 then 0 else 9)
    rw [if_neg hd]
  rw [e]
theorem rq_tn {a h most v : Nat} {x : Bool × Nat} (q : rdQ len pd a x v) (ha : a ≠ 0) (hw : ∀ z, awN a z = awF z h) (hm : most = 10 * (h - 48) + 9) (h1 : 49 ≤ h) (h2 : h ≤ 57) : rdQ len pd 8 (tn len pd most x) v := by
  obtain ⟨b, s⟩ := x
  cases b with
  | false =>
    have e : tn len pd most (false, s) = (false, s) := by simp [tn, td, tk]
    rw [e]
    exact ⟨fun z => absurd z (by simp), q.2⟩
  | true =>
    obtain ⟨q1, q2⟩ := q.1 rfl
    have q1' : s ≤ len := q1
    have q2' : v = stA len pd a s := q2
    have w := hw (hr len pd s)
    rw [st_s q1' (Or.inl ha), w] at q2'
    by_cases c1 : 48 ≤ hr len pd s ∧ hr len pd s ≤ 57
    · have hl : s < len := hr_lt (pd := pd) (by omega)
      have et : td len pd 9 (true, s) = (true, s + 1) := by simp [td, tk]; omega
      by_cases c2 : 49 ≤ hr len pd s ∧ hr len pd s ≤ h
      · have ew : awF (hr len pd s) h = 7 := by unfold awF; rw [if_pos c1, if_pos c2]
        rw [ew, if_neg (by decide)] at q2'
        by_cases c3 : 48 ≤ hr len pd (s + 1) ∧ hr len pd (s + 1) ≤ 57
        · have hl2 : s + 1 < len := hr_lt (pd := pd) (by omega)
          have ei : is2' len pd most s = true := by simp [is2']; omega
          have e : tn len pd most (true, s) = (true, s + 2) := by unfold tn; rw [et, if_pos ⟨rfl, ei⟩]
          rw [e]
          refine ⟨fun _ => ⟨hl2, ?_⟩, fun z => absurd z (by simp)⟩
          rw [q2', st_s (by omega) (Or.inl (by decide))]
          have e7 : awN 7 (hr len pd (s + 1)) = 8 := if_pos c3
          rw [e7, if_neg (by decide)]
        · have ei : ¬ is2' len pd most s = true := by simp [is2']; omega
          have e : tn len pd most (true, s) = (true, s + 1) := by unfold tn; rw [et, if_neg (fun z => ei z.2)]
          rw [e]
          exact ⟨fun _ => ⟨hl, rq_78 hl q2' c3⟩, fun z => absurd z (by simp)⟩
      · have ew : awF (hr len pd s) h = 8 := by unfold awF; rw [if_pos c1, if_neg c2]
        rw [ew, if_neg (by decide)] at q2'
        have ei : ¬ is2' len pd most s = true := by simp [is2']; omega
        have e : tn len pd most (true, s) = (true, s + 1) := by unfold tn; rw [et, if_neg (fun z => ei z.2)]
        rw [e]
        exact ⟨fun _ => ⟨hl, q2'⟩, fun z => absurd z (by simp)⟩
    · have ew : awF (hr len pd s) h = 9 := by unfold awF; rw [if_neg c1]
      rw [ew, if_pos rfl] at q2'
      have et : td len pd 9 (true, s) = (false, s) := by
        have : decide (48 ≤ hr len pd s ∧ hr len pd s ≤ 48 + 9) = false := by simp; omega
        unfold td
        rw [this]
        rfl
      have e : tn len pd most (true, s) = (false, s) := by unfold tn; rw [et]; rfl
      rw [e]
      exact ⟨fun z => absurd z (by simp), fun _ => q2'⟩
theorem rq_ch {a a2 ch v : Nat} {x : Bool × Nat} (q : rdQ len pd a x v) (ha : a ≠ 0) (hw : ∀ z, awN a z = if z = ch then a2 else 9) (h9 : a2 ≠ 9) : rdQ len pd a2 (tkc len pd ch x) v := rq_tk q ha (fun h => by
    have : hr len pd x.2 = ch := by simpa using h
    rw [hw, if_pos this]) (fun h => by
    have : ¬ hr len pd x.2 = ch := by simpa using h
    rw [hw, if_neg this]) h9
theorem rq_td {a a2 v : Nat} {x : Bool × Nat} (q : rdQ len pd a x v) (ha : a ≠ 0) (hw : ∀ z, awN a z = if 48 ≤ z ∧ z ≤ 53 then a2 else 9) (h9 : a2 ≠ 9) : rdQ len pd a2 (td len pd 5 x) v := rq_tk q ha (fun h => by
    have : 48 ≤ hr len pd x.2 ∧ hr len pd x.2 ≤ 48 + 5 := by simpa using h
    rw [hw, if_pos (by omega)]) (fun h => by
    have : ¬ (48 ≤ hr len pd x.2 ∧ hr len pd x.2 ≤ 48 + 5) := by simpa using h
    rw [hw, if_neg (by omega)]) h9
theorem tO_q (hs : s < len) : rdQ len pd 0 (tO len pd s) (stA len pd 0 s) := by
  unfold tO
  by_cases c1 : 48 ≤ hr len pd s ∧ hr len pd s ≤ 51
  · rw [if_pos c1]
    have a0 : awN 0 (hr len pd s) = 1 := by
      show awS _ = 1
      unfold awS
      rw [if_neg (by omega), if_neg (by omega), if_neg (by omega), if_pos c1]
    exact rq_ch (a := 8) (rq_tn (a := 4) (h := 57) (rq_ch (a := 3) (rq_td (a := 2) (rq_ch (a := 1) (rq_0 hs a0 (by decide)) (by decide) (fun _ => rfl) (by decide)) (by decide) (fun _ => rfl) (by decide)) (by decide) (fun _ => rfl) (by decide)) (by decide) (fun _ => rfl) rfl (by decide) (by decide)) (by decide) (fun _ => rfl) (by decide)
  · rw [if_neg c1]
    by_cases c2 : hr len pd s = 115 ∨ hr len pd s = 109
    · rw [if_pos c2]
      have a0 : awN 0 (hr len pd s) = 5 := by
        show awS _ = 5
        unfold awS
        rw [if_neg (by omega), if_pos c2]
      exact rq_ch (a := 8) (rq_td (a := 5) (rq_0 hs a0 (by decide)) (by decide) (fun _ => rfl) (by decide)) (by decide) (fun _ => rfl) (by decide)
    · rw [if_neg c2]
      by_cases c3 : hr len pd s = 112 ∨ hr len pd s = 114
      · rw [if_pos c3]
        have a0 : awN 0 (hr len pd s) = 6 := by
          show awS _ = 6
          unfold awS
          rw [if_neg (by omega), if_neg c2, if_pos c3]
        exact rq_ch (a := 8) (rq_tn (a := 6) (h := 53) (rq_0 hs a0 (by decide)) (by decide) (fun _ => rfl) rfl (by decide) (by decide)) (by decide) (fun _ => rfl) (by decide)
      · rw [if_neg c3]
        by_cases c4 : hr len pd s = 99 ∨ hr len pd s = 98 ∨ hr len pd s = 97
        · rw [if_pos c4]
          have a0 : awN 0 (hr len pd s) = 8 := by
            show awS _ = 8
            unfold awS
            rw [if_pos (by omega)]
          exact rq_ch (a := 8) (rq_0 hs a0 (by decide)) (by decide) (fun _ => rfl) (by decide)
        · rw [if_neg c4]
          have a0 : awN 0 (hr len pd s) = 9 := by
            show awS _ = 9
            unfold awS
            rw [if_neg (by omega), if_neg c2, if_neg c3, if_neg c1]
          refine ⟨fun z => absurd z (by simp), fun _ => ?_⟩
          rw [st_s (Nat.le_of_lt hs) (Or.inr hs), a0, if_pos rfl]
theorem td_t {most : Nat} {x : Bool × Nat} (h : (td len pd most x).1 = true) : x.1 = true ∧ (48 ≤ hr len pd x.2 ∧ hr len pd x.2 ≤ 48 + most) ∧ (td len pd most x).2 = x.2 + 1 := by
  obtain ⟨a, b, c⟩ := tk_t h
  exact ⟨a, by simpa using b, c⟩
theorem tkc_t {ch : Nat} {x : Bool × Nat} (h : (tkc len pd ch x).1 = true) : x.1 = true ∧ hr len pd x.2 = ch ∧ (tkc len pd ch x).2 = x.2 + 1 := by
  obtain ⟨a, b, c⟩ := tk_t h
  exact ⟨a, by simpa using b, c⟩
theorem tn_t2 {most : Nat} {x : Bool × Nat} (h : (tn len pd most x).1 = true) : x.1 = true ∧ (48 ≤ hr len pd x.2 ∧ hr len pd x.2 ≤ 57) ∧ (tn len pd most x).2 = if is2' len pd most x.2 = true then x.2 + 2 else x.2 + 1 := by
  have h2 : (td len pd 9 x).1 = true := h
  obtain ⟨a, b, c⟩ := td_t h2
  refine ⟨a, by omega, ?_⟩
  show (if (td len pd 9 x).1 = true ∧ is2' len pd most x.2 = true then (td len pd 9 x).2 + 1 else (td len pd 9 x).2) = _
  by_cases e : is2' len pd most x.2 = true
  · rw [if_pos ⟨h2, e⟩, if_pos e, c]
  · rw [if_neg (fun z => e z.2), if_neg e, c]
theorem en_s {i : Nat} (hi : i < len) (h : hr len pd i ≠ 59) : endN len pd (len - i) i = endN len pd (len - (i + 1)) (i + 1) := by
  obtain ⟨k, hk⟩ : ∃ k, len - i = k + 1 := ⟨len - i - 1, by omega⟩
  rw [hk, show len - (i + 1) = k by omega]
  show (if sg len pd i = 59 then i else endN len pd k (i + 1)) = _
  rw [hr_sg hi, if_neg h]
theorem en_e {i : Nat} (h : hr len pd i = 59) : endN len pd (len - i) i = i := by
  have hi : i < len := hr_lt (pd := pd) (by omega)
  obtain ⟨k, hk⟩ : ∃ k, len - i = k + 1 := ⟨len - i - 1, by omega⟩
  rw [hk]
  show (if sg len pd i = 59 then i else endN len pd k (i + 1)) = _
  rw [hr_sg hi, if_pos h]
theorem nm_nd {i : Nat} (h : 48 ≤ hr len pd i ∧ hr len pd i ≤ 57) (h2 : hr len pd (i + 1) ≠ 0) (h3 : ¬ (48 ≤ hr len pd (i + 1) ∧ hr len pd (i + 1) ≤ 57)) : numN len pd i = hr len pd i - 48 := by
  unfold numN
  rw [hr_sg2 (by omega), hr_sg2 h2, if_pos h, if_neg h3]
theorem nm_dd {i : Nat} (h : 48 ≤ hr len pd i ∧ hr len pd i ≤ 57) (h3 : 48 ≤ hr len pd (i + 1) ∧ hr len pd (i + 1) ≤ 57) : numN len pd i = (hr len pd i - 48) * 10 + (hr len pd (i + 1) - 48) := by
  unfold numN
  rw [hr_sg2 (by omega), hr_sg2 (by omega), if_pos h, if_pos h3]
/-- a number that is followed by a semicolon -/
theorem nm_eq {i most : Nat} (h : 48 ≤ hr len pd i ∧ hr len pd i ≤ 57) (he : hr len pd (if is2' len pd most i = true then i + 2 else i + 1) = 59) : numN len pd i = nm len pd most i ∧ endN len pd (len - i) i = (if is2' len pd most i = true then i + 2 else i + 1) := by
  have hi : i < len := hr_lt (pd := pd) (by omega)
  unfold nm
  by_cases e : is2' len pd most i = true
  · have i3 : 48 < hr len pd i ∧ (48 ≤ hr len pd (i + 1) ∧ hr len pd (i + 1) ≤ 57) ∧ 10 * (hr len pd i - 48) + (hr len pd (i + 1) - 48) ≤ most := by simpa [is2'] using e
    rw [if_pos e] at he ⊢
    rw [if_pos e]
    have hi2 : i + 1 < len := hr_lt (pd := pd) (by omega)
    refine ⟨?_, ?_⟩
    · rw [nm_dd h i3.2.1]; omega
    · rw [en_s hi (by omega), en_s hi2 (by omega), en_e he]
  · rw [if_neg e] at he ⊢
    rw [if_neg e]
    refine ⟨nm_nd h (by omega) (by omega), ?_⟩
    rw [en_s hi (by omega), en_e he]
/-- the words of the class at an order that is well made -/
theorem tO_w (hs : s < len) (ok : (tO len pd s).1 = true) : endN len pd (len - s) s + 1 = (tO len pd s).2 ∧ ((48 ≤ hr len pd s ∧ hr len pd s ≤ 51) → numN len pd s = hr len pd s - 48 ∧ numN len pd (s + 2) = hr len pd (s + 2) - 48 ∧ hr len pd (s + 2) - 48 < 6 ∧ numN len pd (s + 4) = nm len pd 99 (s + 4) ∧ nm len pd 99 (s + 4) < 100) ∧ ((hr len pd s = 115 ∨ hr len pd s = 109) → numN len pd (s + 1) = hr len pd (s + 1) - 48 ∧ hr len pd (s + 1) - 48 < 6) ∧ ((hr len pd s = 112 ∨ hr len pd s = 114) → numN len pd (s + 1) = nm len pd 59 (s + 1) ∧ nm len pd 59 (s + 1) < 60) ∧ ((48 ≤ hr len pd s ∧ hr len pd s ≤ 51) ∨ (hr len pd s = 115 ∨ hr len pd s = 109) ∨ (hr len pd s = 112 ∨ hr len pd s = 114) ∨ (hr len pd s = 99 ∨ hr len pd s = 98 ∨ hr len pd s = 97)) := by
  have nml : ∀ {i most : Nat}, 9 ≤ most → hr len pd i ≤ 57 → nm len pd most i < most + 1 := by
    intro i most h9 hi
    unfold nm
    by_cases e : is2' len pd most i = true
    · have i3 : 48 < hr len pd i ∧ (48 ≤ hr len pd (i + 1) ∧ hr len pd (i + 1) ≤ 57) ∧ 10 * (hr len pd i - 48) + (hr len pd (i + 1) - 48) ≤ most := by simpa [is2'] using e
      rw [if_pos e]; omega
    · rw [if_neg e]; omega
  unfold tO at ok ⊢
  by_cases c1 : 48 ≤ hr len pd s ∧ hr len pd s ≤ 51
  · rw [if_pos c1] at ok ⊢
    obtain ⟨a1, a2, a3⟩ := tkc_t ok
    obtain ⟨b1, b2, b3⟩ := tn_t2 a1
    obtain ⟨d1, d2, d3⟩ := tkc_t b1
    obtain ⟨f1, f2, f3⟩ := td_t d1
    obtain ⟨-, g2, g3⟩ := tkc_t f1
    have g2' : hr len pd (s + 1) = 46 := g2
    have g3' : (tkc len pd 46 (true, s + 1)).2 = s + 2 := g3
    rw [g3'] at f2 f3
    rw [f3] at d2 d3
    rw [d3] at b2 b3
    rw [b3] at a2 a3
    have l1 : s + 1 < len := hr_lt (pd := pd) (by omega)
    have l2 : s + 2 < len := hr_lt (pd := pd) (by omega)
    have l3 : s + 2 + 1 < len := hr_lt (pd := pd) (by omega)
    obtain ⟨n1, n2⟩ := nm_eq (i := s + 2 + 1 + 1) (most := 99) b2 a2
    refine ⟨?_, fun _ => ⟨nm_nd (by omega) (by omega) (by omega), nm_nd (by omega) (by omega) (by omega), by omega, n1, nml (by omega) b2.2⟩, fun w => by omega, fun w => by omega, Or.inl c1⟩
    rw [a3, en_s hs (by omega), en_s l1 (by omega), en_s l2 (by omega), en_s l3 (by omega), n2]
  · rw [if_neg c1] at ok ⊢
    by_cases c2 : hr len pd s = 115 ∨ hr len pd s = 109
    · rw [if_pos c2] at ok ⊢
      obtain ⟨a1, a2, a3⟩ := tkc_t ok
      obtain ⟨-, b2, b3⟩ := td_t a1
      have b2' : 48 ≤ hr len pd (s + 1) ∧ hr len pd (s + 1) ≤ 48 + 5 := b2
      have b3' : (td len pd 5 (true, s + 1)).2 = s + 2 := b3
      rw [b3'] at a2 a3
      have l1 : s + 1 < len := hr_lt (pd := pd) (by omega)
      have a2' : hr len pd (s + 1 + 1) = 59 := a2
      refine ⟨?_, fun w => absurd w c1, fun _ => ⟨nm_nd (by omega) (by omega) (by omega), by omega⟩, fun w => by omega, Or.inr (Or.inl c2)⟩
      rw [a3, en_s hs (by omega), en_s l1 (by omega), en_e a2]
    · rw [if_neg c2] at ok ⊢
      by_cases c3 : hr len pd s = 112 ∨ hr len pd s = 114
      · rw [if_pos c3] at ok ⊢
        obtain ⟨a1, a2, a3⟩ := tkc_t ok
        obtain ⟨-, b2, b3⟩ := tn_t2 a1
        rw [b3] at a2 a3
        obtain ⟨n1, n2⟩ := nm_eq (i := s + 1) (most := 59) b2 a2
        refine ⟨?_, fun w => absurd w c1, fun w => absurd w c2, fun _ => ⟨n1, nml (by omega) b2.2⟩, Or.inr (Or.inr (Or.inl c3))⟩
        rw [a3, en_s hs (by omega), n2]
      · rw [if_neg c3] at ok ⊢
        by_cases c4 : hr len pd s = 99 ∨ hr len pd s = 98 ∨ hr len pd s = 97
        · rw [if_pos c4] at ok ⊢
          obtain ⟨a1, a2, a3⟩ := tkc_t ok
          have a2' : hr len pd (s + 1) = 59 := a2
          refine ⟨?_, fun w => absurd w c1, fun w => absurd w c2, fun w => absurd w c3, Or.inr (Or.inr (Or.inr c4))⟩
          rw [a3, en_s hs (by omega), en_e a2']
        · rw [if_neg c4] at ok
          exact absurd (show false = true from ok) (by decide)
theorem tk_ge (c : Bool) (x : Bool × Nat) : x.2 ≤ (tk c x).2 := by
  unfold tk
  dsimp only
  split <;> omega
theorem tO_gt (ok : (tO len pd s).1 = true) (hs : s < len) : s < (tO len pd s).2 := by
  have h := (tO_w hs ok).1
  have g : ∀ k i, i ≤ endN len pd k i := by
    intro k
    induction k with
    | zero => intro i; exact Nat.le_refl i
    | succ k ih =>
      intro i
      unfold endN
      split
      · exact Nat.le_refl i
      · have := ih (i + 1); omega
  have := g (len - s) s
  omega
end OR
theorem cnt_not (p : Nat → Bool) : ∀ n, cnt (fun x => !p x) n + cnt p n = n
  | 0 => rfl
  | n + 1 => by
    have ih := cnt_not p n
    cases hp : p n with
    | true => rw [cnt_t hp, cnt_f (p := fun x => !p x) (by simp [hp])]; omega
    | false => rw [cnt_f hp, cnt_t (p := fun x => !p x) (by simp [hp])]; omega
theorem cnt_cut {p : Nat → Bool} {n : Nat} : ∀ j, (∀ i, n ≤ i → p i = false) → cnt p (n + j) = cnt p n
  | 0, _ => rfl
  | j + 1, h => by
    show cnt p (n + j + 1) = cnt p n
    rw [cnt_f (h (n + j) (by omega)), cnt_cut j h]
theorem cnt_60 {p : Nat → Bool} {n : Nat} (hn : n ≤ 60) (h : ∀ i, n ≤ i → p i = false) : cnt p 60 = cnt p n := by
  have e := cnt_cut (60 - n) h
  rw [show n + (60 - n) = 60 by omega] at e
  exact e
theorem rat_cut {Z : Nat → Prop} {pl a m : Nat} : ∀ j, (∀ i, m ≤ i → ¬ Z i) → rat Z pl (m + j) a = rat Z pl m a
  | 0, _ => rfl
  | j + 1, h => (if_neg (h (m + j) (by omega))).trans (rat_cut j h)
theorem rat_60 {Z : Nat → Prop} {pl a m : Nat} (hm : m ≤ 60) (h : ∀ i, m ≤ i → ¬ Z i) : rat Z pl 60 a = rat Z pl m a := by
  have e := rat_cut (pl := pl) (a := a) (60 - m) h
  rw [show m + (60 - m) = 60 by omega] at e
  exact e
theorem loN_none {f : Nat → Bool} : ∀ (j i : Nat), (∀ x, i ≤ x → f x = false) → loN f j i = m1
  | 0, _, _ => rfl
  | j + 1, i, h => by
    show (if f i = true then nI i else loN f j (i + 1)) = m1
    rw [if_neg (by rw [h i (by omega)]; decide)]
    exact loN_none j (i + 1) fun x hx => h x (by omega)
theorem loN_cut {f : Nat → Bool} : ∀ (j m i : Nat), (∀ x, i + m ≤ x → f x = false) → loN f (m + j) i = loN f m i := by
  intro j m
  induction m with
  | zero =>
    intro i h
    rw [Nat.zero_add]
    exact loN_none j i fun x hx => h x (by omega)
  | succ m ih =>
    intro i h
    rw [show m + 1 + j = (m + j) + 1 by omega]
    show (if f i = true then nI i else loN f (m + j) (i + 1)) = (if f i = true then nI i else loN f m (i + 1))
    rw [ih (i + 1) fun x hx => h x (by omega)]
theorem loN_60 {f : Nat → Bool} {m : Nat} (hm : m ≤ 60) (h : ∀ x, m ≤ x → f x = false) : loN f 60 0 = loN f m 0 := by
  have e := loN_cut (60 - m) m 0 (fun x hx => h x (by omega))
  rw [show m + (60 - m) = 60 by omega] at e
  exact e
section M71
variable {S : Ab}
def hig (st : Nat → Nat) (z v : Nat) : Nat → Nat := if z ≠ 0 ∧ (st (z - 1) = 0 ∨ st (z - 1) < v) then va_up st (z - 1) v else st
def stp (w : Nat) (st : Nat → Nat) (z v : Nat) : Nat → Nat := if w = 1 then low st z v else hig st z v
def fwG (w : Nat) (p q : Nat → Nat) : Nat → (Nat → Nat) → Nat → Nat
  | 0, st => st
  | c + 1, st => fwG w p q c (if st (c + 1) = 0 then st else stp w (stp w st (p (c + 1)) (st (c + 1) + 1)) (q (c + 1)) (st (c + 1) + 1))
theorem stp_ne {w z v x : Nat} {st : Nat → Nat} (h : z ≤ x) : stp w st z v x = st x := by
  unfold stp
  split
  · exact low_ne h
  · unfold hig
    split
    · have h0 := (‹z ≠ 0 ∧ _›).1
      rw [up_ne (by omega)]
    · rfl
theorem stp_B {w z v : Nat} {st : Nat → Nat} (h : ∀ x, x < 60 → st x + x ≤ 60) (hv : z ≠ 0 → v + (z - 1) ≤ 60) : ∀ x, x < 60 → stp w st z v x + x ≤ 60 := by
  unfold stp
  split
  · exact low_B h hv
  · unfold hig
    split
    · have h0 := (‹z ≠ 0 ∧ _›).1
      intro x hx
      by_cases e : x = z - 1
      · subst e; rw [up_eq]; exact hv h0
      · rw [up_ne e]; exact h x hx
    · exact h
def pkn (st : Nat → Nat) (i : Nat) (g : Nat → Int32) : Nat → Int32 := fun x => if x < i then pk (st x) else g x
theorem pkn_s {st : Nat → Nat} {i : Nat} {g : Nat → Int32} : va_up (pkn st i g) i (pk (st i)) = pkn st (i + 1) g := by
  funext x
  by_cases e : x = i
  · subst e; rw [up_eq]; unfold pkn; rw [if_pos (by omega)]
  · rw [up_ne e]
    unfold pkn
    by_cases h : x < i
    · rw [if_pos h, if_pos (by omega)]
    · rw [if_neg h, if_neg (by omega)]
theorem pkn_0 {st : Nat → Nat} {g : Nat → Int32} : pkn st 0 g = g := by
  funext x
  exact if_neg (by omega)
theorem fwG_fw {p q : Nat → Nat} {n : Nat} (h : wfP p q n) (hn : 0 < n) : ∀ (c : Nat) (st : Nat → Nat), fw p q (c + 1) st = fwG 1 p q c st := by
  obtain ⟨p0, q0⟩ := h 0 hn
  intro c
  induction c with
  | zero =>
    intro st
    show (if st 0 = 0 then st else low (low st (p 0) (st 0 + 1)) (q 0) (st 0 + 1)) = st
    split
    · rfl
    · unfold low
      rw [if_neg (fun z => z.1 (by omega)), if_neg (fun z => z.1 (by omega))]
  | succ c ih =>
    intro st
    show fw p q (c + 1) _ = fwG 1 p q c _
    rw [ih]
    unfold stp
    rw [if_pos rfl, if_pos rfl]
theorem fw_cut {p q : Nat → Nat} {st : Nat → Nat} {m : Nat} : ∀ j, (∀ x, m ≤ x → st x = 0) → fw p q (m + j) st = fw p q m st
  | 0, _ => rfl
  | j + 1, h => by
    show fw p q (m + j) (if st (m + j) = 0 then st else low (low st (p (m + j)) (st (m + j) + 1)) (q (m + j)) (st (m + j) + 1)) = fw p q m st
    rw [if_pos (h (m + j) (by omega)), fw_cut j h]
def dpN (p q : Nat → Nat) (c : Nat) : Nat := dr p q (c + 1) c
theorem dr_st {p q : Nat → Nat} : ∀ (k x : Nat), x < k → dr p q k x = dpN p q x := by
  intro k
  induction k with
  | zero => intro x h; omega
  | succ k ih =>
    intro x h
    by_cases e : x = k
    · subst e; rfl
    · show va_up (dr p q k) k _ x = _
      rw [up_ne e]
      exact ih x (by omega)
theorem dp_eq {p q : Nat → Nat} {n c : Nat} (h : wfP p q n) (hc : c < n) : dpN p q c = max (if p c = 0 then 0 else dpN p q (p c - 1) + 1) (if q c = 0 then 0 else dpN p q (q c - 1) + 1) := by
  obtain ⟨hp, hq⟩ := h c hc
  show va_up (dr p q c) c (max (dz (dr p q c) (p c)) (dz (dr p q c) (q c))) c = _
  rw [up_eq]
  have e : ∀ z, z ≤ c → dz (dr p q c) z = if z = 0 then 0 else dpN p q (z - 1) + 1 := by
    intro z hz
    unfold dz
    by_cases z0 : z = 0
    · rw [if_pos z0, if_pos z0]
    · rw [if_neg z0, if_neg z0, dr_st c (z - 1) (by omega)]
  rw [e _ hp, e _ hq]
def dQ (p q : Nat → Nat) (D c : Nat) (st : Nat → Nat) : Prop := (∀ x, x ≤ c → st x ≠ 0 → st x - 1 + dpN p q x ≤ D) ∧ ∃ x, x ≤ c ∧ st x ≠ 0 ∧ st x - 1 + dpN p q x = D
theorem dQ_hig {p q : Nat → Nat} {D c z v : Nat} {st : Nat → Nat} (h : dQ p q D c st) (hv : v ≠ 0) (hz : z ≠ 0 → v - 1 + dpN p q (z - 1) ≤ D) : dQ p q D c (hig st z v) := by
  unfold hig
  split
  · obtain ⟨z0, hh⟩ := ‹z ≠ 0 ∧ _›
    obtain ⟨h1, x, h2, h3, h4⟩ := h
    refine ⟨fun y hy hy2 => ?_, x, h2, ?_⟩
    · by_cases e : y = z - 1
      · subst e; rw [up_eq]; exact hz z0
      · rw [up_ne e] at hy2 ⊢; exact h1 y hy hy2
    · by_cases e : x = z - 1
      · subst e
        rw [up_eq]
        have := hz z0
        refine ⟨hv, ?_⟩
        rcases hh with hh | hh
        · exact absurd hh h3
        · omega
      · rw [up_ne e]; exact ⟨h3, h4⟩
  · exact h
theorem hig_ge {st : Nat → Nat} {z v : Nat} (h0 : z ≠ 0) : v ≤ hig st z v (z - 1) ∧ (v ≠ 0 → hig st z v (z - 1) ≠ 0) := by
  unfold hig
  by_cases e : st (z - 1) = 0 ∨ st (z - 1) < v
  · rw [if_pos ⟨h0, e⟩, up_eq]
    exact ⟨Nat.le_refl _, fun h => h⟩
  · rw [if_neg (fun w => e w.2)]
    have e1 : ¬ st (z - 1) = 0 := fun w => e (Or.inl w)
    have e2 : ¬ st (z - 1) < v := fun w => e (Or.inr w)
    exact ⟨by omega, fun _ => e1⟩
theorem hig_mono {st : Nat → Nat} {z v x : Nat} (h0 : st x ≠ 0) : st x ≤ hig st z v x := by
  unfold hig
  split
  · obtain ⟨z0, hh⟩ := ‹z ≠ 0 ∧ _›
    by_cases e : x = z - 1
    · subst e
      rw [up_eq]
      rcases hh with hh | hh
      · exact absurd hh h0
      · omega
    · rw [up_ne e]; exact Nat.le_refl _
  · exact Nat.le_refl _
theorem dQ_step {D c : Nat} {st : Nat → Nat} (h : wS S) (hc : c + 1 < S.n) (q0 : dQ S.p S.q D (c + 1) st) : dQ S.p S.q D c (if st (c + 1) = 0 then st else stp 0 (stp 0 st (S.p (c + 1)) (st (c + 1) + 1)) (S.q (c + 1)) (st (c + 1) + 1)) := by
  obtain ⟨hp, hq⟩ := h.par (c + 1) hc
  have hr := h.root (c + 1) hc (by omega)
  have de := dp_eq h.par hc
  by_cases e : st (c + 1) = 0
  · rw [if_pos e]
    obtain ⟨h1, x, h2, h3, h4⟩ := q0
    refine ⟨fun y hy => h1 y (by omega), x, ?_, h3, h4⟩
    by_cases ex : x = c + 1
    · subst ex; exact absurd e h3
    · omega
  · rw [if_neg e]
    unfold stp
    rw [if_neg (by decide), if_neg (by decide)]
    have hb := q0.1 (c + 1) (Nat.le_refl _) e
    have b1 : S.p (c + 1) ≠ 0 → st (c + 1) + 1 - 1 + dpN S.p S.q (S.p (c + 1) - 1) ≤ D := fun z => by
      rw [if_neg z] at de
      have : dpN S.p S.q (S.p (c + 1) - 1) + 1 ≤ dpN S.p S.q (c + 1) := by omega
      omega
    have b2 : S.q (c + 1) ≠ 0 → st (c + 1) + 1 - 1 + dpN S.p S.q (S.q (c + 1) - 1) ≤ D := fun z => by
      rw [if_neg z] at de
      have : dpN S.p S.q (S.q (c + 1) - 1) + 1 ≤ dpN S.p S.q (c + 1) := by omega
      omega
    have q1 := dQ_hig q0 (v := st (c + 1) + 1) (z := S.p (c + 1)) (by omega) b1
    have q2 := dQ_hig q1 (v := st (c + 1) + 1) (z := S.q (c + 1)) (by omega) b2
    refine ⟨fun y hy => q2.1 y (by omega), ?_⟩
    obtain ⟨h1, x, h2, h3, h4⟩ := q0
    by_cases ex : x = c + 1
    · subst ex
      rw [if_neg hr] at de
      by_cases ep : dpN S.p S.q (c + 1) = dpN S.p S.q (S.p (c + 1) - 1) + 1
      · have g1 := hig_ge (st := st) (v := st (c + 1) + 1) hr
        have g2 := g1.2 (by omega)
        have g3 := hig_mono (z := S.q (c + 1)) (v := st (c + 1) + 1) g2
        have g4 := q2.1 (S.p (c + 1) - 1) (by omega) (by omega)
        exact ⟨S.p (c + 1) - 1, by omega, by omega, by omega⟩
      · by_cases z : S.q (c + 1) = 0
        · rw [if_pos z] at de
          omega
        · rw [if_neg z] at de
          have g1 := hig_ge (st := hig st (S.p (c + 1)) (st (c + 1) + 1)) (v := st (c + 1) + 1) z
          have g2 := g1.2 (by omega)
          have g4 := q2.1 (S.q (c + 1) - 1) (by omega) g2
          exact ⟨S.q (c + 1) - 1, by omega, g2, by omega⟩
    · have g1 := hig_mono (z := S.p (c + 1)) (v := st (c + 1) + 1) h3
      have g2 := hig_mono (z := S.q (c + 1)) (v := st (c + 1) + 1) (show hig st (S.p (c + 1)) (st (c + 1) + 1) x ≠ 0 by omega)
      have g3 := q2.1 x (by omega) (by omega)
      exact ⟨x, by omega, by omega, by omega⟩
theorem dQ_end (h : wS S) : ∀ (c : Nat) (st : Nat → Nat) (D : Nat), c < S.n → dQ S.p S.q D c st → fwG 0 S.p S.q c st 0 = D + 1 := by
  have h1 := h.n1
  intro c
  induction c with
  | zero =>
    intro st D hc q0
    obtain ⟨-, x, h2, h3, h4⟩ := q0
    obtain rfl : x = 0 := by omega
    obtain ⟨p0, q0⟩ := h.par 0 (by omega)
    have de := dp_eq h.par (show 0 < S.n by omega)
    rw [if_pos (by omega), if_pos (by omega)] at de
    show st 0 = D + 1
    omega
  | succ c ih =>
    intro st D hc q0
    exact ih _ D (by omega) (dQ_step h hc q0)
end M71
