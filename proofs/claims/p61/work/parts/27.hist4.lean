/-! Histories: the base by going down, the best common ones -/
/-- a number made of three flags -/
noncomputable def fl (a b c : Prop) : Nat := @ite _ a (Classical.propDecidable _) 1 0 + @ite _ b (Classical.propDecidable _) 2 0 + @ite _ c (Classical.propDecidable _) 4 0
theorem fl_lt (a b c : Prop) : fl a b c < 8 := by
  unfold fl
  split <;> split <;> split <;> omega
theorem fl_3 {a b c : Prop} : fl a b c = 3 ↔ (a ∧ b ∧ ¬ c) := by
  unfold fl
  by_cases h1 : a <;> by_cases h2 : b <;> by_cases h3 : c <;> simp [h1, h2, h3]
theorem fl_cg {a b c a2 b2 c2 : Prop} (h1 : a ↔ a2) (h2 : b ↔ b2) (h3 : c ↔ c2) : fl a b c = fl a2 b2 c2 := by
  rw [propext h1, propext h2, propext h3]
theorem fl_or {a b c a2 b2 c2 : Prop} : nI (fl a b c) ||| nI (fl a2 b2 c2) = nI (fl (a ∨ a2) (b ∨ b2) (c ∨ c2)) := by
  unfold fl
  by_cases h1 : a <;> by_cases h2 : b <;> by_cases h3 : c <;> by_cases h4 : a2 <;> by_cases h5 : b2 <;> by_cases h6 : c2 <;> simp only [h1, h2, h3, h4, h5, h6, if_true, if_false, or_true, true_or, or_false, false_or] <;> decide
theorem fl_1 : fl True False False = 1 := by simp [fl]
theorem fl_2 : fl False True False = 2 := by simp [fl]
theorem fl_7 : fl True True True = 7 := by simp [fl]
theorem fl_0 : fl False False False = 0 := by simp [fl]
/-- a row of three flags -/
noncomputable def bs (a b c : Nat → Prop) (g : Nat → Int32) : Nat → Int32 := fun x => if x < 60 then nI (fl (a x) (b x) (c x)) else g x
section BS
variable {a b c a2 b2 c2 : Nat → Prop} {g : Nat → Int32}
theorem bs_at {x : Nat} (h : x < 60) : bs a b c g x = nI (fl (a x) (b x) (c x)) := if_pos h
theorem bs_cg (h1 : ∀ x, x < 60 → (a x ↔ a2 x)) (h2 : ∀ x, x < 60 → (b x ↔ b2 x)) (h3 : ∀ x, x < 60 → (c x ↔ c2 x)) : bs a b c g = bs a2 b2 c2 g := by
  funext x
  unfold bs
  by_cases h : x < 60
  · rw [if_pos h, if_pos h, fl_cg (h1 x h) (h2 x h) (h3 x h)]
  · rw [if_neg h, if_neg h]
theorem bs_0 : fil (nI 0) 60 g = bs (fun _ => False) (fun _ => False) (fun _ => False) g := by
  funext x
  unfold fil bs
  by_cases h : x < 60
  · rw [if_pos h, if_pos h, fl_0]
  · rw [if_neg h, if_neg h]
theorem bs_up {z : Nat} {u v w : Prop} (hz : z < 60) : va_up (bs a b c g) z (bs a b c g z ||| nI (fl u v w)) = bs (fun x => a x ∨ (x = z ∧ u)) (fun x => b x ∨ (x = z ∧ v)) (fun x => c x ∨ (x = z ∧ w)) g := by
  funext x
  unfold va_up
  by_cases hx : x = z
  · subst hx
    rw [if_pos rfl, bs_at hz, bs_at hz, fl_or]
    exact congrArg nI (fl_cg (or_congr_right (and_iff_right rfl).symm) (or_congr_right (and_iff_right rfl).symm) (or_congr_right (and_iff_right rfl).symm))
  · rw [if_neg hx]
    unfold bs
    have e : ∀ s u : Prop, s ↔ (s ∨ (x = z ∧ u)) := fun s u => ⟨Or.inl, fun h => h.resolve_right (fun h => hx h.1)⟩
    by_cases h60 : x < 60
    · rw [if_pos h60, if_pos h60, fl_cg (e _ _) (e _ _) (e _ _)]
    · rw [if_neg h60, if_neg h60]
theorem bs_set {z : Nat} (hz : z < 60) (ha : a z) (hb : b z) : va_up (bs a b c g) z (nI 7) = bs a b (fun x => c x ∨ x = z) g := by
  funext x
  unfold va_up
  by_cases hx : x = z
  · subst hx
    rw [if_pos rfl, bs_at hz]
    have e : fl (a x) (b x) (c x ∨ x = x) = fl True True True := fl_cg (iff_true_intro ha) (iff_true_intro hb) (iff_true_intro (Or.inr rfl))
    rw [e, fl_7]
  · rw [if_neg hx]
    unfold bs
    have e : c x ↔ (c x ∨ x = z) := ⟨Or.inl, fun h => h.resolve_right hx⟩
    by_cases h60 : x < 60
    · rw [if_pos h60, if_pos h60, fl_cg Iff.rfl Iff.rfl e]
    · rw [if_neg h60, if_neg h60]
end BS
section H4
variable {d cl sl : Nat} {X : am_X} {F A : Nat → Nat → Int32} {L : Nat → Nat → Int64} {P : am_Q} {n : Nat} {p q : Nat → Nat} {g : Nat → Int32}
theorem s_addBs {a b c : Nat → Prop} {u v w : Prop} {z : Nat} (hz : z ≤ 60) : am_Ca X (d + 1) 1016 [.ref 14, .int (pk z), .int (nI (fl u v w))] (am_Z cl sl F (va_up A 14 (bs a b c g)) L) P = P (.inl none) (am_Z cl sl F (va_up A 14 (bs (fun x => a x ∨ (z = x + 1 ∧ u)) (fun x => b x ∨ (z = x + 1 ∧ v)) (fun x => c x ∨ (z = x + 1 ∧ w)) g)) L) := by
  cases z with
  | zero =>
    rw [pk_0, s_addMark_m]
    have e : ∀ s : Nat → Prop, ∀ u : Prop, ∀ x, s x ↔ (s x ∨ (0 = x + 1 ∧ u)) := fun s u x => ⟨Or.inl, fun h => h.resolve_right (fun h => by omega)⟩
    rw [bs_cg (fun x _ => e a u x) (fun x _ => e b v x) (fun x _ => e c w x)]
  | succ z =>
    rw [pk_s, s_addMark (by decide) rfl (by omega), f2_up, up_eq, bs_up (by omega)]
    have e : ∀ s : Nat → Prop, ∀ u : Prop, ∀ x, (s x ∨ (x = z ∧ u)) ↔ (s x ∨ (z + 1 = x + 1 ∧ u)) := fun s u x => or_congr_right (and_congr_left fun _ => ⟨fun h => by omega, fun h => by omega⟩)
    rw [bs_cg (fun x _ => e a u x) (fun x _ => e b v x) (fun x _ => e c w x)]
/-- what is marked from c when all from k on have had their turn, k up to 60 -/
def mF (p q : Nat → Nat) (c k : Nat) : Nat → Prop := mT p q (fun _ => False) c k
theorem mF_top {c k : Nat} (h : c < k) {x : Nat} : mF p q c k x ↔ x = c := by
  unfold mF mT
  constructor
  · rintro (h | h | ⟨y, h1, h2, -⟩)
    · exact h.elim
    · exact h
    · omega
  · exact fun h => Or.inr (Or.inl h)
theorem mF_own (hw : wfP p q n) {c i : Nat} (hc : c < n) : mF p q c (i + 1) i ↔ Re p q c i := by
  by_cases hi : i ≤ c
  · exact (mT_own hw hc hi).trans (or_iff_right (fun h => h))
  · constructor
    · intro h
      have := (mF_top (p := p) (q := q) (show c < i + 1 by omega)).mp h
      omega
    · intro h
      have := Re_le hw c hc i h
      omega
theorem mF_step (hw : wfP p q n) {c i x : Nat} (hc : c < n) : mF p q c i x ↔ (mF p q c (i + 1) x ∨ (Re p q c i ∧ par p q i x)) := by
  by_cases hi : i ≤ c
  · by_cases hm : mT p q (fun _ => False) c (i + 1) i
    · have h := mT_in (x := x) hw hc hi (fun _ _ _ h _ => h) hm
      have h2 := (mF_own hw hc).mp hm
      exact h.trans (or_congr_right ⟨fun h => ⟨h2, h⟩, fun h => h.2⟩)
    · have h := mT_out (x := x) hw hc hi hm
      have h2 : ¬ Re p q c i := fun z => hm ((mF_own hw hc).mpr z)
      exact h.trans ⟨Or.inl, fun h => h.resolve_right (fun h => h2 h.1)⟩
  · rw [mF_top (by omega), mF_top (by omega)]
    refine ⟨Or.inl, fun h => h.resolve_right (fun h => ?_)⟩
    have := Re_le hw c hc i h.1
    omega
/-- where the way down ends: behind the highest common one -/
noncomputable def gd (C : Nat → Prop) : Nat → Nat
  | 0 => 0
  | k + 1 => @ite _ (C k) (Classical.propDecidable _) (k + 1) (gd C k)
theorem l_goingDown {c o : Nat} (hn : F 4 0 = nI n) (h60 : n ≤ 60) (hw : wfA A p q n) (hc : c < n) (ho : o < n) : ∀ (k : Nat), k ≤ 60 → am_g (d + 1) X am_m1011 30 [.ref 13, .ref 4, .int (nI c), .int (nI o), .int (pk k)] [] (am_Z cl sl F (va_up A 14 (bs (mF p q c k) (mF p q o k) (fun _ => False) g)) L) P = P (.inl (some (.int (hiC (fun x => Re p q c x ∧ Re p q o x) k)))) (am_Z cl sl F (va_up A 14 (bs (mF p q c (gd (fun x => Re p q c x ∧ Re p q o x) k)) (mF p q o (gd (fun x => Re p q c x ∧ Re p q o x) k)) (fun _ => False) g)) L) := by
  intro k
  induction k with
  | zero =>
    intro _
    rw [u1011_30]
    simp (disch := omega) only [pk_0, hiC, gd, u1011_0, u1011_1, u1011_4, u1011_5, u1011_8, u1011_9, u1011_12, u1011_13, u1011_14, u1011_17, u1011_18, u1011_21, u1011_22, u1011_23, u1011_26, u1011_28, u1011_32, u1011_35, u1011_36, u1011_39, u1011_41, u1011_42, u1011_43, u1011_46, u1011_48, u1011_49, u1011_50, u1011_53, u1011_54, u1011_56, u1011_59, u1011_60, u1011_63, u1011_65, u1011_66, u1011_69, u1011_70, u1011_73, u1011_74, u1011_76, u1011_79, u1011_80, u1011_83, u1011_85, u1011_86, u1011_89, u1011_92, u1011_95, u1011_96, gt_13_0, ob_4, xl_14, ki_m1, ki_0, ki_1, ki_2, ki_3, ki_59, af_x hd_1011, decide_eq_true_eq, if_true, if_false, f2_ne, f2_eq, up_ne, up_eq, kc_int, kc_ref, kc_retAddr, kc_long, kc_double, af_n, af_v, z0, z1, n_of, nz6, nz4, bI_T, bI_F, bI_01, n_lt, n_le, n_eq, n_add, n_mul, n_sub, n_clamp, n_vp, m_lt, m_le, m_eq, m_eq2, m_ltm, m_add, true_and, and_true, eq_self, if_pos, if_neg, List.length_nil, List.length_cons, Nat.reduceAdd, Nat.reduceLeDiff, Nat.zero_le, not_true_eq_false, not_false_eq_true, true_or, or_true]
  | succ k ih =>
    intro hk
    rw [pk_s, u1011_30]
    have hk6 : k < 60 := by omega
    have e0 : fl (mF p q c (k + 1) k) (mF p q o (k + 1) k) False = fl (Re p q c k) (Re p q o k) False := fl_cg (mF_own hw.1 hc) (mF_own hw.1 ho) Iff.rfl
    have hl := fl_lt (Re p q c k) (Re p q o k) False
    by_cases hC : Re p q c k ∧ Re p q o k
    · have e3 : fl (Re p q c k) (Re p q o k) False = 3 := fl_3.mpr ⟨hC.1, hC.2, fun h => h⟩
      have eh : hiC (fun x => Re p q c x ∧ Re p q o x) (k + 1) = nI k := if_pos hC
      have eg : gd (fun x => Re p q c x ∧ Re p q o x) (k + 1) = k + 1 := if_pos hC
      rw [eh, eg]
      simp (disch := omega) only [bs_at hk6, e0, e3, u1011_0, u1011_1, u1011_4, u1011_5, u1011_8, u1011_9, u1011_12, u1011_13, u1011_14, u1011_17, u1011_18, u1011_21, u1011_22, u1011_23, u1011_26, u1011_28, u1011_32, u1011_35, u1011_36, u1011_39, u1011_41, u1011_42, u1011_43, u1011_46, u1011_48, u1011_49, u1011_50, u1011_53, u1011_54, u1011_56, u1011_59, u1011_60, u1011_63, u1011_65, u1011_66, u1011_69, u1011_70, u1011_73, u1011_74, u1011_76, u1011_79, u1011_80, u1011_83, u1011_85, u1011_86, u1011_89, u1011_92, u1011_95, u1011_96, gt_13_0, ob_4, xl_14, ki_m1, ki_0, ki_1, ki_2, ki_3, ki_59, af_x hd_1011, decide_eq_true_eq, if_true, if_false, f2_ne, f2_eq, up_ne, up_eq, kc_int, kc_ref, kc_retAddr, kc_long, kc_double, af_n, af_v, z0, z1, n_of, nz6, nz4, bI_T, bI_F, bI_01, n_lt, n_le, n_eq, n_add, n_mul, n_sub, n_clamp, n_vp, m_lt, m_le, m_eq, m_eq2, m_ltm, m_add, true_and, and_true, eq_self, if_pos, if_neg, List.length_nil, List.length_cons, Nat.reduceAdd, Nat.reduceLeDiff, Nat.zero_le, not_true_eq_false, not_false_eq_true, true_or, or_true]
    · have e3 : ¬ fl (Re p q c k) (Re p q o k) False = 3 := fun h => hC ⟨(fl_3.mp h).1, (fl_3.mp h).2.1⟩
      have eh : hiC (fun x => Re p q c x ∧ Re p q o x) (k + 1) = hiC (fun x => Re p q c x ∧ Re p q o x) k := if_neg hC
      have eg : gd (fun x => Re p q c x ∧ Re p q o x) (k + 1) = gd (fun x => Re p q c x ∧ Re p q o x) k := if_neg hC
      rw [eh, eg]
      by_cases hkn : k < n
      · obtain ⟨hp, hq⟩ := hw.1 k hkn
        have e1 : ∀ f : Nat → Int32, p1 (va_up A 14 f) n k = pk (p k) := fun f => by rw [p1_up (by decide)]; unfold p1; rw [if_pos hkn]; exact hw.2.1 k hkn
        have e2 : ∀ f : Nat → Int32, p2 (va_up A 14 f) n k = pk (q k) := fun f => by rw [p2_up (by decide)]; unfold p2; rw [if_pos hkn]; exact hw.2.2 k hkn
        have ep : ¬ p k = k + 1 := by omega
        simp (disch := omega) only [bs_at hk6, e0, e3, s_parentOne hn h60, e1, s_addBs, s_parentTwo hn h60, e2, ep, false_and, or_false, pk_dn, u1011_0, u1011_1, u1011_4, u1011_5, u1011_8, u1011_9, u1011_12, u1011_13, u1011_14, u1011_17, u1011_18, u1011_21, u1011_22, u1011_23, u1011_26, u1011_28, u1011_32, u1011_35, u1011_36, u1011_39, u1011_41, u1011_42, u1011_43, u1011_46, u1011_48, u1011_49, u1011_50, u1011_53, u1011_54, u1011_56, u1011_59, u1011_60, u1011_63, u1011_65, u1011_66, u1011_69, u1011_70, u1011_73, u1011_74, u1011_76, u1011_79, u1011_80, u1011_83, u1011_85, u1011_86, u1011_89, u1011_92, u1011_95, u1011_96, gt_13_0, ob_4, xl_14, ki_m1, ki_0, ki_1, ki_2, ki_3, ki_59, af_x hd_1011, decide_eq_true_eq, if_true, if_false, f2_ne, f2_eq, up_ne, up_eq, kc_int, kc_ref, kc_retAddr, kc_long, kc_double, af_n, af_v, z0, z1, n_of, nz6, nz4, bI_T, bI_F, bI_01, n_lt, n_le, n_eq, n_add, n_mul, n_sub, n_clamp, n_vp, m_lt, m_le, m_eq, m_eq2, m_ltm, m_add, true_and, and_true, eq_self, if_pos, if_neg, List.length_nil, List.length_cons, Nat.reduceAdd, Nat.reduceLeDiff, Nat.zero_le, not_true_eq_false, not_false_eq_true, true_or, or_true]
        have es : ∀ (c x : Nat), c < n → ((((mF p q c (k + 1) x ∨ (p k = x + 1 ∧ Re p q c k)) ∨ (q k = x + 1 ∧ Re p q c k))) ↔ mF p q c k x) := by
          intro c x hc
          rw [mF_step hw.1 hc (i := k)]
          unfold par
          constructor
          · rintro ((h | h) | h)
            · exact Or.inl h
            · exact Or.inr ⟨h.2, Or.inl h.1⟩
            · exact Or.inr ⟨h.2, Or.inr h.1⟩
          · rintro (h | ⟨h1, h2 | h2⟩)
            · exact Or.inl (Or.inl h)
            · exact Or.inl (Or.inr ⟨h2, h1⟩)
            · exact Or.inr ⟨h2, h1⟩
        rw [bs_cg (g := g) (fun x _ => es c x hc) (fun x _ => es o x ho) (c := fun x => (False ∨ (p k = x + 1 ∧ False)) ∨ (q k = x + 1 ∧ False)) (c2 := fun _ => False) (fun x _ => by simp)]
        exact ih (by omega)
      · have hr : ∀ c, c < n → ¬ Re p q c k := fun c hc h => by
          have := Re_le hw.1 c hc k h
          omega
        have e1 : ∀ f : Nat → Int32, p1 (va_up A 14 f) n k = m1 := fun f => by unfold p1; rw [if_neg hkn]
        have e2 : ∀ f : Nat → Int32, p2 (va_up A 14 f) n k = m1 := fun f => by unfold p2; rw [if_neg hkn]
        simp (disch := omega) only [bs_at hk6, e0, e3, s_parentOne hn h60, e1, s_addMark_m, s_parentTwo hn h60, e2, pk_dn, u1011_0, u1011_1, u1011_4, u1011_5, u1011_8, u1011_9, u1011_12, u1011_13, u1011_14, u1011_17, u1011_18, u1011_21, u1011_22, u1011_23, u1011_26, u1011_28, u1011_32, u1011_35, u1011_36, u1011_39, u1011_41, u1011_42, u1011_43, u1011_46, u1011_48, u1011_49, u1011_50, u1011_53, u1011_54, u1011_56, u1011_59, u1011_60, u1011_63, u1011_65, u1011_66, u1011_69, u1011_70, u1011_73, u1011_74, u1011_76, u1011_79, u1011_80, u1011_83, u1011_85, u1011_86, u1011_89, u1011_92, u1011_95, u1011_96, gt_13_0, ob_4, xl_14, ki_m1, ki_0, ki_1, ki_2, ki_3, ki_59, af_x hd_1011, decide_eq_true_eq, if_true, if_false, f2_ne, f2_eq, up_ne, up_eq, kc_int, kc_ref, kc_retAddr, kc_long, kc_double, af_n, af_v, z0, z1, n_of, nz6, nz4, bI_T, bI_F, bI_01, n_lt, n_le, n_eq, n_add, n_mul, n_sub, n_clamp, n_vp, m_lt, m_le, m_eq, m_eq2, m_ltm, m_add, true_and, and_true, eq_self, if_pos, if_neg, List.length_nil, List.length_cons, Nat.reduceAdd, Nat.reduceLeDiff, Nat.zero_le, not_true_eq_false, not_false_eq_true, true_or, or_true]
        have es : ∀ (c x : Nat), c < n → (mF p q c (k + 1) x ↔ mF p q c k x) := by
          intro c x hc
          rw [mF_step hw.1 hc (i := k)]
          exact ⟨Or.inl, fun h => h.resolve_right (fun h => hr c hc h.1)⟩
        rw [bs_cg (g := g) (fun x _ => es c x hc) (fun x _ => es o x ho) (fun x _ => Iff.rfl)]
        exact ih (by omega)
noncomputable def gdA (A : Nat → Nat → Int32) (p q : Nat → Nat) (c o : Nat) : Nat → Nat → Int32 := va_up A 14 (bs (mF p q c (gd (fun x => Re p q c x ∧ Re p q o x) 60)) (mF p q o (gd (fun x => Re p q c x ∧ Re p q o x) 60)) (fun _ => False) (A 14))
theorem s_commonByGoingDown {c o : Nat} (hn : F 4 0 = nI n) (h60 : n ≤ 60) (hw : wfA A p q n) (hc : c < n) (ho : o < n) : am_Ca X (d + 2) 1011 [.ref 13, .ref 4, .int (nI c), .int (nI o)] (am_Z cl sl F A L) P = P (.inl (some (.int (hiC (fun x => Re p q c x ∧ Re p q o x) 60)))) (am_Z cl sl F (gdA A p q c o) L) := by
  rw [c1011]
  have hs : ∀ {Q : am_Q} {c z : Nat} {a b e : Nat → Prop} {u v w : Prop}, c < 60 → z = fl u v w → am_Ca X (d + 1) 1016 [.ref 14, .int (nI c), .int (nI z)] (am_Z cl sl F (va_up A 14 (bs a b e (A 14))) L) Q = Q (.inl none) (am_Z cl sl F (va_up A 14 (bs (fun x => a x ∨ (c + 1 = x + 1 ∧ u)) (fun x => b x ∨ (c + 1 = x + 1 ∧ v)) (fun x => e x ∨ (c + 1 = x + 1 ∧ w)) (A 14))) L) := by
    intro Q c z a b e u v w hc hz
    rw [hz, ← pk_s, s_addBs (by omega)]
  have h1 : ∀ {Q : am_Q}, am_Ca X (d + 1) 1016 [.ref 14, .int (nI c), .int (nI 1)] (am_Z cl sl F (va_up A 14 (bs (fun _ => False) (fun _ => False) (fun _ => False) (A 14))) L) Q = Q (.inl none) (am_Z cl sl F (va_up A 14 (bs (fun x => x = c) (fun _ => False) (fun _ => False) (A 14))) L) := by
    intro Q
    rw [hs (by omega) fl_1.symm, bs_cg (g := A 14) (a2 := fun x => x = c) (b2 := fun _ => False) (c2 := fun _ => False) (fun x _ => ⟨fun h => by rcases h with h | h; exact h.elim; omega, fun h => Or.inr ⟨by omega, trivial⟩⟩) (fun x _ => by simp) (fun x _ => by simp)]
  have h2 : ∀ {Q : am_Q}, am_Ca X (d + 1) 1016 [.ref 14, .int (nI o), .int (nI 2)] (am_Z cl sl F (va_up A 14 (bs (fun x => x = c) (fun _ => False) (fun _ => False) (A 14))) L) Q = Q (.inl none) (am_Z cl sl F (va_up A 14 (bs (mF p q c 60) (mF p q o 60) (fun _ => False) (A 14))) L) := by
    intro Q
    rw [hs (by omega) fl_2.symm, bs_cg (g := A 14) (a2 := mF p q c 60) (b2 := mF p q o 60) (c2 := fun _ => False) (fun x _ => by rw [mF_top (by omega)]; simp) (fun x _ => by rw [mF_top (by omega)]; exact ⟨fun h => by rcases h with h | h; exact h.elim; omega, fun h => Or.inr ⟨by omega, trivial⟩⟩) (fun x _ => by simp)]
  simp (disch := omega) only [s_fill (a := 14) (n := 60) (by decide) rfl (by decide), bs_0, h1, h2, u1011_0, u1011_1, u1011_4, u1011_5, u1011_8, u1011_9, u1011_12, u1011_13, u1011_14, u1011_17, u1011_18, u1011_21, u1011_22, u1011_23, u1011_26, u1011_28, u1011_32, u1011_35, u1011_36, u1011_39, u1011_41, u1011_42, u1011_43, u1011_46, u1011_48, u1011_49, u1011_50, u1011_53, u1011_54, u1011_56, u1011_59, u1011_60, u1011_63, u1011_65, u1011_66, u1011_69, u1011_70, u1011_73, u1011_74, u1011_76, u1011_79, u1011_80, u1011_83, u1011_85, u1011_86, u1011_89, u1011_92, u1011_95, u1011_96, gt_13_0, ob_4, xl_14, ki_m1, ki_0, ki_1, ki_2, ki_3, ki_59, af_x hd_1011, decide_eq_true_eq, if_true, if_false, f2_ne, f2_eq, up_ne, up_eq, kc_int, kc_ref, kc_retAddr, kc_long, kc_double, af_n, af_v, z0, z1, n_of, nz6, nz4, bI_T, bI_F, bI_01, n_lt, n_le, n_eq, n_add, n_mul, n_sub, n_clamp, n_vp, m_lt, m_le, m_eq, m_eq2, m_ltm, m_add, true_and, and_true, eq_self, if_pos, if_neg, List.length_nil, List.length_cons, Nat.reduceAdd, Nat.reduceLeDiff, Nat.zero_le, not_true_eq_false, not_false_eq_true, true_or, or_true]
  exact l_goingDown hn h60 hw hc ho 60 (Nat.le_refl _)
/-- what has the third flag when all from k on have had their turn -/
def cF (p q : Nat → Nat) (C : Nat → Prop) (k : Nat) : Nat → Prop := fun x => (k ≤ x ∧ C x) ∨ ∃ y, k ≤ y ∧ C y ∧ par p q y x
/-- common, and no child of it is -/
noncomputable def bP (p q : Nat → Nat) (C : Nat → Prop) : Nat → Bool := dP (fun x => C x ∧ ¬ ∃ y, C y ∧ par p q y x)
theorem cnt_mono (f : Nat → Bool) : ∀ {n m : Nat}, n ≤ m → cnt f n ≤ cnt f m := by
  intro n m h
  induction h with
  | refl => exact Nat.le_refl _
  | step _ ih =>
    refine Nat.le_trans ih ?_
    show cnt f _ ≤ cnt f _ + _
    omega
theorem l_countBest {c o : Nat} {C : Nat → Prop} (hCe : C = fun x => Re p q c x ∧ Re p q o x) (hn : F 4 0 = nI n) (h60 : n ≤ 60) (hw : wfA A p q n) (hc : c < n) (ho : o < n) : ∀ (k : Nat), k ≤ 60 → am_g (d + 1) X am_m1013 33 [.ref 13, .ref 4, .int (nI c), .int (nI o), .int (nI (cnt (bP p q C) 60 - cnt (bP p q C) k)), .int (pk k)] [] (am_Z cl sl F (va_up A 14 (bs (mF p q c k) (mF p q o k) (cF p q C k) g)) L) P = P (.inl (some (.int (nI (cnt (bP p q C) 60))))) (am_Z cl sl F (va_up A 14 (bs (mF p q c 0) (mF p q o 0) (cF p q C 0) g)) L) := by
  intro k
  have hC : ∀ x, C x ↔ (Re p q c x ∧ Re p q o x) := fun x => by rw [hCe]
  induction k with
  | zero =>
    intro _
    rw [u1013_33]
    simp (disch := omega) only [pk_0, cnt, Nat.sub_zero, u1013_0, u1013_1, u1013_4, u1013_5, u1013_8, u1013_9, u1013_12, u1013_13, u1013_14, u1013_17, u1013_18, u1013_21, u1013_22, u1013_23, u1013_26, u1013_27, u1013_29, u1013_31, u1013_35, u1013_38, u1013_39, u1013_42, u1013_44, u1013_45, u1013_46, u1013_49, u1013_52, u1013_53, u1013_56, u1013_58, u1013_60, u1013_61, u1013_62, u1013_65, u1013_66, u1013_68, u1013_71, u1013_72, u1013_75, u1013_77, u1013_78, u1013_81, u1013_82, u1013_85, u1013_86, u1013_88, u1013_91, u1013_92, u1013_95, u1013_97, u1013_98, u1013_101, u1013_104, u1013_107, u1013_109, gt_13_0, ob_4, xl_14, xs_14, ki_m1, ki_0, ki_1, ki_2, ki_3, ki_59, ki_7, af_x hd_1013, decide_eq_true_eq, if_true, if_false, f2_ne, f2_eq, up_ne, up_eq, kc_int, kc_ref, kc_retAddr, kc_long, kc_double, af_n, af_v, z0, z1, n_of, nz6, nz4, bI_T, bI_F, bI_01, n_lt, n_le, n_eq, n_add, n_mul, n_sub, n_clamp, n_vp, m_lt, m_le, m_eq, m_eq2, m_ltm, m_add, true_and, and_true, eq_self, if_pos, if_neg, List.length_nil, List.length_cons, Nat.reduceAdd, Nat.reduceLeDiff, Nat.zero_le, not_true_eq_false, not_false_eq_true, true_or, or_true]
  | succ k ih =>
    intro hk
    rw [pk_s, u1013_33]
    have hk6 : k < 60 := by omega
    have hlt : ∀ y, C y → y < n := fun y h => by
      have := Re_le hw.1 c hc y ((hC y).mp h).1
      omega
    have hown : cF p q C (k + 1) k ↔ ∃ y, C y ∧ par p q y k := by
      constructor
      · rintro (h | ⟨y, h1, h2, h3⟩)
        · omega
        · exact ⟨y, h2, h3⟩
      · rintro ⟨y, h2, h3⟩
        have := par_lt hw.1 (hlt y h2) h3
        exact Or.inr ⟨y, by omega, h2, h3⟩
    have hdn : ∀ y, C y → ∀ x, par p q y x → C x := fun y h x hp => (hC x).mpr ⟨Re_step hw.1 hc ((hC y).mp h).1 hp, Re_step hw.1 ho ((hC y).mp h).2 hp⟩
    have e0 : fl (mF p q c (k + 1) k) (mF p q o (k + 1) k) (cF p q C (k + 1) k) = fl (Re p q c k) (Re p q o k) (∃ y, C y ∧ par p q y k) := fl_cg (mF_own hw.1 hc) (mF_own hw.1 ho) hown
    have hl := fl_lt (Re p q c k) (Re p q o k) (∃ y, C y ∧ par p q y k)
    have hm1 := cnt_mono (bP p q C) (show k ≤ 60 by omega)
    have hm2 := cnt_mono (bP p q C) (show k + 1 ≤ 60 by omega)
    have hcl := cnt_le (bP p q C) 60
    -- the flags that k gives, and what becomes of the count
    have es : ∀ (c x : Nat), c < n → ((((mF p q c (k + 1) x ∨ (p k = x + 1 ∧ Re p q c k)) ∨ (q k = x + 1 ∧ Re p q c k))) ↔ mF p q c k x) := by
      intro c x hc
      rw [mF_step hw.1 hc (i := k)]
      unfold par
      constructor
      · rintro ((h | h) | h)
        · exact Or.inl h
        · exact Or.inr ⟨h.2, Or.inl h.1⟩
        · exact Or.inr ⟨h.2, Or.inr h.1⟩
      · rintro (h | ⟨h1, h2 | h2⟩)
        · exact Or.inl (Or.inl h)
        · exact Or.inl (Or.inr ⟨h2, h1⟩)
        · exact Or.inr ⟨h2, h1⟩
    have ec : ∀ x, cF p q C k x ↔ ((cF p q C (k + 1) x ∨ (x = k ∧ C k)) ∨ (C k ∧ par p q k x)) := by
      intro x
      constructor
      · rintro (⟨h1, h2⟩ | ⟨y, h1, h2, h3⟩)
        · by_cases hx : x = k
          · subst hx; exact Or.inl (Or.inr ⟨rfl, h2⟩)
          · exact Or.inl (Or.inl (Or.inl ⟨by omega, h2⟩))
        · by_cases hy : y = k
          · subst hy; exact Or.inr ⟨h2, h3⟩
          · exact Or.inl (Or.inl (Or.inr ⟨y, by omega, h2, h3⟩))
      · rintro (((⟨h1, h2⟩ | ⟨y, h1, h2, h3⟩) | ⟨h1, h2⟩) | ⟨h1, h2⟩)
        · exact Or.inl ⟨by omega, h2⟩
        · exact Or.inr ⟨y, by omega, h2, h3⟩
        · subst h1; exact Or.inl ⟨Nat.le_refl _, h2⟩
        · exact Or.inr ⟨k, Nat.le_refl _, h1, h2⟩
    by_cases hkn : k < n
    · obtain ⟨hp, hq⟩ := hw.1 k hkn
      have e1 : ∀ f : Nat → Int32, p1 (va_up A 14 f) n k = pk (p k) := fun f => by rw [p1_up (by decide)]; unfold p1; rw [if_pos hkn]; exact hw.2.1 k hkn
      have e2 : ∀ f : Nat → Int32, p2 (va_up A 14 f) n k = pk (q k) := fun f => by rw [p2_up (by decide)]; unfold p2; rw [if_pos hkn]; exact hw.2.2 k hkn
      have ep : ¬ p k = k + 1 := by omega
      by_cases hb : C k ∧ ¬ ∃ y, C y ∧ par p q y k
      · have h1 := (hC k).mp hb.1
        have e3 : fl (Re p q c k) (Re p q o k) (∃ y, C y ∧ par p q y k) = 3 := fl_3.mpr ⟨h1.1, h1.2, hb.2⟩
        have ek : cnt (bP p q C) (k + 1) = cnt (bP p q C) k + 1 := cnt_t (dP_t hb)
        have e4 : cnt (bP p q C) 60 - cnt (bP p q C) (k + 1) + 1 = cnt (bP p q C) 60 - cnt (bP p q C) k := by omega
        have e7 : fl (mF p q c (k + 1) k) (mF p q o (k + 1) k) (cF p q C (k + 1) k ∨ True) = fl (Re p q c k) (Re p q o k) True := fl_cg (mF_own hw.1 hc) (mF_own hw.1 ho) ⟨fun _ => trivial, fun _ => Or.inr trivial⟩
        simp (disch := omega) only [bs_at hk6, e0, e3, f2_up, bs_set hk6 ((mF_own hw.1 hc).mpr h1.1) ((mF_own hw.1 ho).mpr h1.2), e7, e4, s_parentOne hn h60, e1, s_addBs, s_parentTwo hn h60, e2, ep, false_and, or_false, pk_dn, u1013_0, u1013_1, u1013_4, u1013_5, u1013_8, u1013_9, u1013_12, u1013_13, u1013_14, u1013_17, u1013_18, u1013_21, u1013_22, u1013_23, u1013_26, u1013_27, u1013_29, u1013_31, u1013_35, u1013_38, u1013_39, u1013_42, u1013_44, u1013_45, u1013_46, u1013_49, u1013_52, u1013_53, u1013_56, u1013_58, u1013_60, u1013_61, u1013_62, u1013_65, u1013_66, u1013_68, u1013_71, u1013_72, u1013_75, u1013_77, u1013_78, u1013_81, u1013_82, u1013_85, u1013_86, u1013_88, u1013_91, u1013_92, u1013_95, u1013_97, u1013_98, u1013_101, u1013_104, u1013_107, u1013_109, gt_13_0, ob_4, xl_14, xs_14, ki_m1, ki_0, ki_1, ki_2, ki_3, ki_59, ki_7, af_x hd_1013, decide_eq_true_eq, if_true, if_false, f2_ne, f2_eq, up_ne, up_eq, kc_int, kc_ref, kc_retAddr, kc_long, kc_double, af_n, af_v, z0, z1, n_of, nz6, nz4, bI_T, bI_F, bI_01, n_lt, n_le, n_eq, n_add, n_mul, n_sub, n_clamp, n_vp, m_lt, m_le, m_eq, m_eq2, m_ltm, m_add, true_and, and_true, eq_self, if_pos, if_neg, List.length_nil, List.length_cons, Nat.reduceAdd, Nat.reduceLeDiff, Nat.zero_le, not_true_eq_false, not_false_eq_true, true_or, or_true]
        have es' : ∀ (c x : Nat), c < n → ((((mF p q c (k + 1) x ∨ (p k = x + 1 ∧ mF p q c (k + 1) k)) ∨ (q k = x + 1 ∧ mF p q c (k + 1) k))) ↔ mF p q c k x) := by
          intro c x hc
          rw [mF_own hw.1 hc]
          exact es c x hc
        rw [bs_cg (g := g) (fun x _ => es' c x hc) (fun x _ => es' o x ho) (c := fun x => ((cF p q C (k + 1) x ∨ x = k) ∨ p k = x + 1) ∨ q k = x + 1) (c2 := cF p q C k) (fun x _ => by
          rw [ec x]
          unfold par
          constructor
          · rintro (((h | h) | h) | h)
            · exact Or.inl (Or.inl h)
            · exact Or.inl (Or.inr ⟨h, hb.1⟩)
            · exact Or.inr ⟨hb.1, Or.inl h⟩
            · exact Or.inr ⟨hb.1, Or.inr h⟩
          · rintro ((h | h) | ⟨_, h | h⟩)
            · exact Or.inl (Or.inl (Or.inl h))
            · exact Or.inl (Or.inl (Or.inr h.1))
            · exact Or.inl (Or.inr h)
            · exact Or.inr h)]
        exact ih (by omega)
      · have e3 : ¬ fl (Re p q c k) (Re p q o k) (∃ y, C y ∧ par p q y k) = 3 := fun h => hb ⟨(hC k).mpr ⟨(fl_3.mp h).1, (fl_3.mp h).2.1⟩, (fl_3.mp h).2.2⟩
        have ek : cnt (bP p q C) (k + 1) = cnt (bP p q C) k := cnt_f (dP_f hb)
        rw [ek]
        simp (disch := omega) only [bs_at hk6, e0, e3, s_parentOne hn h60, e1, s_addBs, s_parentTwo hn h60, e2, ep, false_and, or_false, pk_dn, u1013_0, u1013_1, u1013_4, u1013_5, u1013_8, u1013_9, u1013_12, u1013_13, u1013_14, u1013_17, u1013_18, u1013_21, u1013_22, u1013_23, u1013_26, u1013_27, u1013_29, u1013_31, u1013_35, u1013_38, u1013_39, u1013_42, u1013_44, u1013_45, u1013_46, u1013_49, u1013_52, u1013_53, u1013_56, u1013_58, u1013_60, u1013_61, u1013_62, u1013_65, u1013_66, u1013_68, u1013_71, u1013_72, u1013_75, u1013_77, u1013_78, u1013_81, u1013_82, u1013_85, u1013_86, u1013_88, u1013_91, u1013_92, u1013_95, u1013_97, u1013_98, u1013_101, u1013_104, u1013_107, u1013_109, gt_13_0, ob_4, xl_14, xs_14, ki_m1, ki_0, ki_1, ki_2, ki_3, ki_59, ki_7, af_x hd_1013, decide_eq_true_eq, if_true, if_false, f2_ne, f2_eq, up_ne, up_eq, kc_int, kc_ref, kc_retAddr, kc_long, kc_double, af_n, af_v, z0, z1, n_of, nz6, nz4, bI_T, bI_F, bI_01, n_lt, n_le, n_eq, n_add, n_mul, n_sub, n_clamp, n_vp, m_lt, m_le, m_eq, m_eq2, m_ltm, m_add, true_and, and_true, eq_self, if_pos, if_neg, List.length_nil, List.length_cons, Nat.reduceAdd, Nat.reduceLeDiff, Nat.zero_le, not_true_eq_false, not_false_eq_true, true_or, or_true]
        have hz : (∃ y, C y ∧ par p q y k) ↔ C k := ⟨fun ⟨y, h1, h2⟩ => hdn y h1 k h2, fun h => Classical.byContradiction fun h2 => hb ⟨h, h2⟩⟩
        rw [bs_cg (g := g) (fun x _ => es c x hc) (fun x _ => es o x ho) (c := fun x => (cF p q C (k + 1) x ∨ (p k = x + 1 ∧ ∃ y, C y ∧ par p q y k)) ∨ (q k = x + 1 ∧ ∃ y, C y ∧ par p q y k)) (c2 := cF p q C k) (fun x _ => by
          rw [ec x, hz]
          unfold par
          constructor
          · rintro ((h | h) | h)
            · exact Or.inl (Or.inl h)
            · exact Or.inr ⟨h.2, Or.inl h.1⟩
            · exact Or.inr ⟨h.2, Or.inr h.1⟩
          · rintro ((h | h) | ⟨h1, h | h⟩)
            · exact Or.inl (Or.inl h)
            · rw [h.1]; exact Or.inl (Or.inl (hown.mpr (hz.mpr h.2)))
            · exact Or.inl (Or.inr ⟨h, h1⟩)
            · exact Or.inr ⟨h, h1⟩)]
        exact ih (by omega)
    · have hr : ∀ c, c < n → ¬ Re p q c k := fun c hc h => by
        have := Re_le hw.1 c hc k h
        omega
      have hCk : ¬ C k := fun h => hkn (hlt k h)
      have e3 : ¬ fl (Re p q c k) (Re p q o k) (∃ y, C y ∧ par p q y k) = 3 := fun h => hr c hc (fl_3.mp h).1
      have e1 : ∀ f : Nat → Int32, p1 (va_up A 14 f) n k = m1 := fun f => by unfold p1; rw [if_neg hkn]
      have e2 : ∀ f : Nat → Int32, p2 (va_up A 14 f) n k = m1 := fun f => by unfold p2; rw [if_neg hkn]
      have ek : cnt (bP p q C) (k + 1) = cnt (bP p q C) k := cnt_f (dP_f fun h => hCk h.1)
      rw [ek]
      simp (disch := omega) only [bs_at hk6, e0, e3, s_parentOne hn h60, e1, s_addMark_m, s_parentTwo hn h60, e2, pk_dn, u1013_0, u1013_1, u1013_4, u1013_5, u1013_8, u1013_9, u1013_12, u1013_13, u1013_14, u1013_17, u1013_18, u1013_21, u1013_22, u1013_23, u1013_26, u1013_27, u1013_29, u1013_31, u1013_35, u1013_38, u1013_39, u1013_42, u1013_44, u1013_45, u1013_46, u1013_49, u1013_52, u1013_53, u1013_56, u1013_58, u1013_60, u1013_61, u1013_62, u1013_65, u1013_66, u1013_68, u1013_71, u1013_72, u1013_75, u1013_77, u1013_78, u1013_81, u1013_82, u1013_85, u1013_86, u1013_88, u1013_91, u1013_92, u1013_95, u1013_97, u1013_98, u1013_101, u1013_104, u1013_107, u1013_109, gt_13_0, ob_4, xl_14, xs_14, ki_m1, ki_0, ki_1, ki_2, ki_3, ki_59, ki_7, af_x hd_1013, decide_eq_true_eq, if_true, if_false, f2_ne, f2_eq, up_ne, up_eq, kc_int, kc_ref, kc_retAddr, kc_long, kc_double, af_n, af_v, z0, z1, n_of, nz6, nz4, bI_T, bI_F, bI_01, n_lt, n_le, n_eq, n_add, n_mul, n_sub, n_clamp, n_vp, m_lt, m_le, m_eq, m_eq2, m_ltm, m_add, true_and, and_true, eq_self, if_pos, if_neg, List.length_nil, List.length_cons, Nat.reduceAdd, Nat.reduceLeDiff, Nat.zero_le, not_true_eq_false, not_false_eq_true, true_or, or_true]
      have es2 : ∀ (c x : Nat), c < n → (mF p q c (k + 1) x ↔ mF p q c k x) := by
        intro c x hc
        rw [mF_step hw.1 hc (i := k)]
        exact ⟨Or.inl, fun h => h.resolve_right (fun h => hr c hc h.1)⟩
      rw [bs_cg (g := g) (fun x _ => es2 c x hc) (fun x _ => es2 o x ho) (c2 := cF p q C k) (fun x _ => by
        rw [ec x]
        exact ⟨fun h => Or.inl (Or.inl h), fun h => by
          rcases h with (h | h) | h
          · exact h
          · exact absurd h.2 hCk
          · exact absurd h.1 hCk⟩)]
      exact ih (by omega)
noncomputable def bcA (A : Nat → Nat → Int32) (p q : Nat → Nat) (c o : Nat) : Nat → Nat → Int32 := va_up A 14 (bs (mF p q c 0) (mF p q o 0) (cF p q (fun x => Re p q c x ∧ Re p q o x) 0) (A 14))
theorem s_countBest {c o : Nat} (hn : F 4 0 = nI n) (h60 : n ≤ 60) (hw : wfA A p q n) (hc : c < n) (ho : o < n) : am_Ca X (d + 2) 1013 [.ref 13, .ref 4, .int (nI c), .int (nI o)] (am_Z cl sl F A L) P = P (.inl (some (.int (nI (cnt (bP p q (fun x => Re p q c x ∧ Re p q o x)) 60))))) (am_Z cl sl F (bcA A p q c o) L) := by
  rw [c1013]
  have hs : ∀ {Q : am_Q} {c z : Nat} {a b e : Nat → Prop} {u v w : Prop}, c < 60 → z = fl u v w → am_Ca X (d + 1) 1016 [.ref 14, .int (nI c), .int (nI z)] (am_Z cl sl F (va_up A 14 (bs a b e (A 14))) L) Q = Q (.inl none) (am_Z cl sl F (va_up A 14 (bs (fun x => a x ∨ (c + 1 = x + 1 ∧ u)) (fun x => b x ∨ (c + 1 = x + 1 ∧ v)) (fun x => e x ∨ (c + 1 = x + 1 ∧ w)) (A 14))) L) := by
    intro Q c z a b e u v w hc hz
    rw [hz, ← pk_s, s_addBs (by omega)]
  have h1 : ∀ {Q : am_Q}, am_Ca X (d + 1) 1016 [.ref 14, .int (nI c), .int (nI 1)] (am_Z cl sl F (va_up A 14 (bs (fun _ => False) (fun _ => False) (fun _ => False) (A 14))) L) Q = Q (.inl none) (am_Z cl sl F (va_up A 14 (bs (fun x => x = c) (fun _ => False) (fun _ => False) (A 14))) L) := by
    intro Q
    rw [hs (by omega) fl_1.symm, bs_cg (g := A 14) (a2 := fun x => x = c) (b2 := fun _ => False) (c2 := fun _ => False) (fun x _ => ⟨fun h => by rcases h with h | h; exact h.elim; omega, fun h => Or.inr ⟨by omega, trivial⟩⟩) (fun x _ => by simp) (fun x _ => by simp)]
  have h2 : ∀ {Q : am_Q}, am_Ca X (d + 1) 1016 [.ref 14, .int (nI o), .int (nI 2)] (am_Z cl sl F (va_up A 14 (bs (fun x => x = c) (fun _ => False) (fun _ => False) (A 14))) L) Q = Q (.inl none) (am_Z cl sl F (va_up A 14 (bs (mF p q c 60) (mF p q o 60) (cF p q (fun x => Re p q c x ∧ Re p q o x) 60) (A 14))) L) := by
    intro Q
    rw [hs (by omega) fl_2.symm, bs_cg (g := A 14) (a2 := mF p q c 60) (b2 := mF p q o 60) (c2 := cF p q (fun x => Re p q c x ∧ Re p q o x) 60) (fun x _ => by rw [mF_top (by omega)]; simp) (fun x _ => by rw [mF_top (by omega)]; exact ⟨fun h => by rcases h with h | h; exact h.elim; omega, fun h => Or.inr ⟨by omega, trivial⟩⟩) (fun x _ => by
      have hlt : ∀ y, Re p q c y → y < 60 := fun y h => by
        have := Re_le hw.1 c hc y h
        omega
      constructor
      · intro h
        rcases h with h | h
        · exact h.elim
        · exact h.2.elim
      · rintro (⟨h1, h2⟩ | ⟨y, h1, h2, -⟩)
        · have := hlt x h2.1; omega
        · have := hlt y h2.1; omega)]
  simp (disch := omega) only [s_fill (a := 14) (n := 60) (by decide) rfl (by decide), bs_0, h1, h2, u1013_0, u1013_1, u1013_4, u1013_5, u1013_8, u1013_9, u1013_12, u1013_13, u1013_14, u1013_17, u1013_18, u1013_21, u1013_22, u1013_23, u1013_26, u1013_27, u1013_29, u1013_31, u1013_35, u1013_38, u1013_39, u1013_42, u1013_44, u1013_45, u1013_46, u1013_49, u1013_52, u1013_53, u1013_56, u1013_58, u1013_60, u1013_61, u1013_62, u1013_65, u1013_66, u1013_68, u1013_71, u1013_72, u1013_75, u1013_77, u1013_78, u1013_81, u1013_82, u1013_85, u1013_86, u1013_88, u1013_91, u1013_92, u1013_95, u1013_97, u1013_98, u1013_101, u1013_104, u1013_107, u1013_109, gt_13_0, ob_4, xl_14, xs_14, ki_m1, ki_0, ki_1, ki_2, ki_3, ki_59, ki_7, af_x hd_1013, decide_eq_true_eq, if_true, if_false, f2_ne, f2_eq, up_ne, up_eq, kc_int, kc_ref, kc_retAddr, kc_long, kc_double, af_n, af_v, z0, z1, n_of, nz6, nz4, bI_T, bI_F, bI_01, n_lt, n_le, n_eq, n_add, n_mul, n_sub, n_clamp, n_vp, m_lt, m_le, m_eq, m_eq2, m_ltm, m_add, true_and, and_true, eq_self, if_pos, if_neg, List.length_nil, List.length_cons, Nat.reduceAdd, Nat.reduceLeDiff, Nat.zero_le, not_true_eq_false, not_false_eq_true, true_or, or_true]
  have h := l_countBest (d := d) (X := X) (cl := cl) (sl := sl) (F := F) (A := A) (L := L) (P := P) (g := A 14) (C := fun x => Re p q c x ∧ Re p q o x) rfl hn h60 hw hc ho 60 (Nat.le_refl _)
  rw [Nat.sub_self] at h
  exact h
end H4
