/-! numbers: all ints of the run as nI n, but minus one (m1) -/
theorem z0 : (0 : Int32) = nI 0 := rfl
theorem z1 : (1 : Int32) = nI 1 := rfl
theorem nz6 : (6 = 0) = False := by decide
theorem nz4 : (4 = 0) = False := by decide
theorem n_of (n : Nat) : Int32.ofNat n = nI n := rfl
theorem n_lt {a b : Nat} (ha : a < 2147483648) (hb : b < 2147483648) : (nI a < nI b) = (a < b) := propext (nI_ltI ha hb)
theorem n_le {a b : Nat} (ha : a < 2147483648) (hb : b < 2147483648) : (nI a ≤ nI b) = (a ≤ b) := propext (nI_leI ha hb)
theorem n_eq {a b : Nat} (ha : a < 2147483648) (hb : b < 2147483648) : (nI a = nI b) = (a = b) := propext (nI_eq ha hb)
theorem n_add {a b : Nat} : nI a + nI b = nI (a + b) := nI_add a b
theorem n_mul {a b : Nat} : nI a * nI b = nI (a * b) := pk_mul a b
theorem n_sub {a b : Nat} (h : b ≤ a) : nI a - nI b = nI (a - b) := pk_sub h
theorem n_clamp {a : Nat} (h : a < 2147483648) : (nI a).toNatClampNeg = a := nI_clamp h
theorem n_vp {a n : Nat} (h : a < n) (hn : n < 2147483648) : vp_in (nI a) n = True := eq_true (vp_in_nI h hn)
theorem n_rem {a d : Nat} (ha : a < 2147483648) (h0 : 0 < d) (hd : d < 2147483648) : nI a - nI a / nI d * nI d = nI (a % d) := pk_rem ha h0 hd
theorem m1_int : m1.toInt = -1 := by decide
theorem m_lt {a : Nat} (ha : a < 2147483648) : (m1 < nI a) = True := eq_true (by rw [Int32.lt_iff_toInt_lt, m1_int, nI_toInt ha]; omega)
theorem m_ltm {a : Nat} (ha : a < 2147483648) : (nI a < m1) = False := eq_false (by rw [Int32.lt_iff_toInt_lt, m1_int, nI_toInt ha]; omega)
theorem m_le {a : Nat} (ha : a < 2147483648) : (nI a ≤ m1) = False := eq_false (by rw [Int32.le_iff_toInt_le, m1_int, nI_toInt ha]; omega)
theorem m_eq {a : Nat} (ha : a < 2147483648) : (nI a = m1) = False := eq_false (by rw [← Int32.toInt_inj, m1_int, nI_toInt ha]; omega)
theorem m_eq2 {a : Nat} (ha : a < 2147483648) : (m1 = nI a) = False := eq_false (by rw [← Int32.toInt_inj, m1_int, nI_toInt ha]; omega)
theorem m_add {a : Nat} (h : 1 ≤ a) : nI a + m1 = nI (a - 1) := by
  obtain ⟨b, rfl⟩ : ∃ b, a = b + 1 := ⟨a - 1, by omega⟩
  exact pk_m1 b
/-- a truth, as a number -/
noncomputable def bI (S : Prop) : Int32 := @ite _ S (Classical.propDecidable _) (nI 1) (nI 0)
theorem bI_t {S : Prop} (h : S) : bI S = nI 1 := if_pos h
theorem bI_f {S : Prop} (h : ¬ S) : bI S = nI 0 := if_neg h
theorem bI_T : bI True = nI 1 := bI_t trivial
theorem bI_F : bI False = nI 0 := bI_f (fun h => h)
theorem bI_01 {S : Prop} : (bI S = nI 0 ∨ bI S = nI 1) = True := by
  by_cases h : S
  · rw [bI_t h]; simp
  · rw [bI_f h]; simp
/-- how many i below n have p -/
def cnt (p : Nat → Bool) : Nat → Nat
  | 0 => 0
  | i + 1 => cnt p i + (if p i = true then 1 else 0)
theorem cnt_le (p : Nat → Bool) : ∀ n, cnt p n ≤ n
  | 0 => Nat.le_refl 0
  | n + 1 => by
    have := cnt_le p n
    unfold cnt
    split <;> omega
theorem cnt_t {p : Nat → Bool} {i : Nat} (h : p i = true) : cnt p (i + 1) = cnt p i + 1 := by
  show cnt p i + _ = _
  rw [if_pos h]
theorem cnt_f {p : Nat → Bool} {i : Nat} (h : p i = false) : cnt p (i + 1) = cnt p i := by
  show cnt p i + _ = _
  rw [if_neg (by rw [h]; decide)]
  rfl
theorem cnt_congr {p q : Nat → Bool} : ∀ {n : Nat}, (∀ i, i < n → p i = q i) → cnt p n = cnt q n
  | 0, _ => rfl
  | n + 1, h => by
    show cnt p n + _ = cnt q n + _
    rw [cnt_congr fun i hi => h i (by omega), h n (by omega)]
theorem cnt_0 {p : Nat → Bool} : ∀ {n : Nat}, cnt p n = 0 ↔ ∀ i, i < n → p i = false
  | 0 => ⟨fun _ i hi => by omega, fun _ => rfl⟩
  | n + 1 => by
    have ih := cnt_0 (p := p) (n := n)
    constructor
    · intro h i hi
      have h2 : cnt p n + (if p n = true then 1 else 0) = 0 := h
      by_cases hin : i = n
      · subst hin
        cases hp : p i with
        | false => rfl
        | true => rw [hp] at h2; simp at h2
      · exact ih.mp (by omega) i (by omega)
    · intro h
      show cnt p n + _ = 0
      rw [ih.mpr fun i hi => h i (by omega), h n (by omega)]
      rfl
theorem f2_ne {α : Type} {F : Nat → Nat → α} {o k x : Nat} {v : α} (h : x ≠ o) : am_f2 F o k v x = F x := am_f2_ne h
theorem f2_eq {α : Type} {F : Nat → Nat → α} {o k : Nat} {v : α} : am_f2 F o k v o = va_up (F o) k v := am_f2_eq
theorem up_ne {α : Type} {f : Nat → α} {k j : Nat} {v : α} (h : j ≠ k) : va_up f k v j = f j := va_up_ne f v h
theorem up_eq {α : Type} {f : Nat → α} {k : Nat} {v : α} : va_up f k v k = v := by simp [va_up]
theorem cp_g {cl sl pc a b na nb sp dp n : Nat} {F A : Nat → Nat → Int32} {L : Nat → Nat → Int64} {lc : List Value} {K : am_K} (ha : a < 70) (hb : b < 70) (h1 : SH a = (1, na, [])) (h2 : SH b = (1, nb, [])) (hna : na < 2147483648) (hnb : nb < 2147483648) (h3 : sp + n ≤ na) (h4 : dp + n ≤ nb) (hcl : 70 < cl) :
    am_cp pc lc [.int (nI n), .int (nI dp), .ref b, .int (nI sp), .ref a] (am_Z cl sl F A L) K = K pc lc [] (am_Z cl sl F (va_up A b (va_cpy (A a) (A b) sp dp n)) L) := by
  unfold am_cp
  dsimp only
  rw [h1, h2, n_clamp (by omega), n_clamp (by omega), n_clamp (by omega)]
  have e : ∀ x : Nat, x < 2147483648 → ¬ nI x < 0 := fun x hx => nI_pos (by omega)
  refine propext ⟨fun h => h.2, fun h => ⟨⟨⟨ha, rfl⟩, ⟨hb, rfl⟩, e _ (by omega), e _ (by omega), e _ (by omega), h3, h4, by omega, Nat.zero_le _⟩, h⟩⟩
/-- a copied row -/
theorem cpy_in {α : Type} {f g : Nat → α} {sp dp n j : Nat} (h : dp ≤ j) (h2 : j < dp + n) : va_cpy f g sp dp n j = f (sp + (j - dp)) := pk_cpy_in h h2
theorem cpy_out {α : Type} {f g : Nat → α} {sp dp n j : Nat} (h : j < dp ∨ dp + n ≤ j) : va_cpy f g sp dp n j = g j := pk_cpy_out h
/-- a filled row -/
def fil (v : Int32) (n : Nat) (g : Nat → Int32) : Nat → Int32 := fun k => if k < n then v else g k
theorem fil_in {v : Int32} {n k : Nat} {g : Nat → Int32} (h : k < n) : fil v n g k = v := by
  unfold fil
  rw [if_pos h]
section FI
variable {d cl sl a n : Nat} {X : am_X} {F A : Nat → Nat → Int32} {L : Nat → Nat → Int64} {P : am_Q}
theorem up_same {α : Type} {A : Nat → α} {a : Nat} : va_up A a (A a) = A := by
  funext j
  unfold va_up
  split
  · subst_vars; rfl
  · rfl
theorem up_up {α : Type} {A : Nat → α} {a : Nat} {f g : α} : va_up (va_up A a f) a g = va_up A a g := by
  funext j
  unfold va_up
  split <;> rfl
theorem f2_up {A : Nat → Nat → Int32} {a k : Nat} {f : Nat → Int32} {v : Int32} : am_f2 (va_up A a f) a k v = va_up A a (va_up f k v) := by
  unfold am_f2
  rw [up_up, up_eq]
theorem fil_s {v : Int32} {i : Nat} {g : Nat → Int32} : va_up (fil v i g) i v = fil v (i + 1) g := by
  funext j
  unfold va_up fil
  by_cases h : j = i
  · subst h; rw [if_pos rfl, if_pos (by omega)]
  · rw [if_neg h]
    by_cases h2 : j < i
    · rw [if_pos h2, if_pos (by omega)]
    · rw [if_neg h2, if_neg (by omega)]
theorem l_fill {v : Int32} (ha : a < 70) (h1 : SH a = (1, n, [])) (hn : n < 2147483648) : ∀ (k i : Nat), i + k = n → am_g d X am_m9000 5 [.ref a, .int v, .int (nI i), .int (nI n)] [] (am_Z cl sl F (va_up A a (fil v i (A a))) L) P = P (.inl none) (am_Z cl sl F (va_up A a (fil v n (A a))) L) := by
  intro k
  induction k with
  | zero =>
    intro i hi
    obtain rfl : i = n := by omega
    simp (disch := omega) only [u9000_0, u9000_1, u9000_2, u9000_3, u9000_4, u9000_5, u9000_6, u9000_7, u9000_10, u9000_11, u9000_12, u9000_13, u9000_14, u9000_17, u9000_20, ki_0, ki_1, af_x hd_9000, decide_eq_true_eq, if_true, if_false, f2_ne, f2_eq, up_ne, up_eq, kc_int, kc_ref, kc_retAddr, kc_long, kc_double, af_n, af_v, z0, z1, n_of, nz6, nz4, bI_T, bI_F, bI_01, n_lt, n_le, n_eq, n_add, n_mul, n_sub, n_clamp, n_vp, m_lt, m_le, m_eq, m_eq2, m_ltm, m_add, true_and, and_true, eq_self, if_pos, if_neg, List.length_nil, List.length_cons, Nat.reduceAdd, Nat.reduceLeDiff, Nat.zero_le, not_true_eq_false, not_false_eq_true, true_or, or_true]
  | succ k ih =>
    intro i hi
    rw [u9000_5]
    simp (disch := omega) only [xs_g ha h1, f2_up, fil_s, u9000_0, u9000_1, u9000_2, u9000_3, u9000_4, u9000_6, u9000_7, u9000_10, u9000_11, u9000_12, u9000_13, u9000_14, u9000_17, u9000_20, ki_0, ki_1, af_x hd_9000, decide_eq_true_eq, if_true, if_false, f2_ne, f2_eq, up_ne, up_eq, kc_int, kc_ref, kc_retAddr, kc_long, kc_double, af_n, af_v, z0, z1, n_of, nz6, nz4, bI_T, bI_F, bI_01, n_lt, n_le, n_eq, n_add, n_mul, n_sub, n_clamp, n_vp, m_lt, m_le, m_eq, m_eq2, m_ltm, m_add, true_and, and_true, eq_self, if_pos, if_neg, List.length_nil, List.length_cons, Nat.reduceAdd, Nat.reduceLeDiff, Nat.zero_le, not_true_eq_false, not_false_eq_true, true_or, or_true]
    exact ih (i + 1) (by omega)
theorem s_fill {v : Int32} (ha : a < 70) (h1 : SH a = (1, n, [])) (hn : n < 2147483648) : am_Ca X (d + 1) 9000 [.ref a, .int v] (am_Z cl sl F A L) P = P (.inl none) (am_Z cl sl F (va_up A a (fil v n (A a))) L) := by
  rw [c9000]
  simp (disch := omega) only [al_g ha h1, u9000_0, u9000_1, u9000_2, u9000_3, u9000_4, u9000_6, u9000_7, u9000_10, u9000_11, u9000_12, u9000_13, u9000_14, u9000_17, u9000_20, ki_0, ki_1, af_x hd_9000, decide_eq_true_eq, if_true, if_false, f2_ne, f2_eq, up_ne, up_eq, kc_int, kc_ref, kc_retAddr, kc_long, kc_double, af_n, af_v, z0, z1, n_of, nz6, nz4, bI_T, bI_F, bI_01, n_lt, n_le, n_eq, n_add, n_mul, n_sub, n_clamp, n_vp, m_lt, m_le, m_eq, m_eq2, m_ltm, m_add, true_and, and_true, eq_self, if_pos, if_neg, List.length_nil, List.length_cons, Nat.reduceAdd, Nat.reduceLeDiff, Nat.zero_le, not_true_eq_false, not_false_eq_true, true_or, or_true]
  have h := l_fill (d := d) (X := X) (F := F) (A := A) (L := L) (cl := cl) (sl := sl) (P := P) (v := v) ha h1 hn n 0 (by omega)
  have e : fil v 0 (A a) = A a := by
    funext j
    unfold fil
    rw [if_neg (by omega)]
  rw [e, up_same] at h
  exact h
end FI
