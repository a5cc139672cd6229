/-! THE FACE: what brought a line, the first with a line, how full the work is -/
def pwN (S : Ab) (pl c : Nat) : Nat := if S.p c ≠ 0 ∧ S.T (S.p c - 1) pl = S.T c pl then S.p c else if S.q c ≠ 0 ∧ S.T (S.q c - 1) pl = S.T c pl then S.q c else 0
def brgN (S : Ab) (pl : Nat) : Nat → Nat → Nat
  | 0, c => c
  | f + 1, c => if pwN S pl c = 0 then c else brgN S pl f (pwN S pl c - 1)
section FO
variable {d cl sl : Nat} {X : am_X} {F A : Nat → Nat → Int32} {L : Nat → Nat → Int64} {P : am_Q} {G : Fu}
theorem pw_eq {S : Ab} (R : cR F A 4 S) (w : wS S) {pl : Nat} (hp : pl < 24) {c : Nat} (hc : c < S.n) : pwl (tA A) S.p S.q pl c = pwN S pl c := by
  obtain ⟨h1, h2⟩ := w.par c hc
  have e : ∀ z : Nat, z < S.n → tA A z pl = nI (S.T z pl) := fun z hz => R.T z hz pl hp
  have v : ∀ z : Nat, z < S.n → S.T z pl < 100 := fun z hz => w.Tv z hz pl hp
  have key : ∀ z : Nat, z ≤ c → (z ≠ 0 ∧ tA A (z - 1) pl = tA A c pl ↔ z ≠ 0 ∧ S.T (z - 1) pl = S.T c pl) := by
    intro z hz
    refine and_congr_right fun h0 => ?_
    have a1 := v (z - 1) (by omega)
    have a2 := v c hc
    rw [e (z - 1) (by omega), e c hc, n_eq (by omega) (by omega)]
  unfold pwl pwN
  by_cases g1 : S.p c ≠ 0 ∧ S.T (S.p c - 1) pl = S.T c pl
  · rw [if_pos ((key _ h1).mpr g1), if_pos g1]
  · rw [if_neg (fun z => g1 ((key _ h1).mp z)), if_neg g1]
    by_cases g2 : S.q c ≠ 0 ∧ S.T (S.q c - 1) pl = S.T c pl
    · rw [if_pos ((key _ h2).mpr g2), if_pos g2]
    · rw [if_neg (fun z => g2 ((key _ h2).mp z)), if_neg g2]
theorem pwN_le {S : Ab} (w : wS S) {pl c : Nat} (hc : c < S.n) : pwN S pl c ≤ c := by
  obtain ⟨h1, h2⟩ := w.par c hc
  unfold pwN
  split
  · exact h1
  · split
    · exact h2
    · omega
theorem brg_eq {S : Ab} (R : cR F A 4 S) (w : wS S) {pl : Nat} (hp : pl < 24) : ∀ (f c : Nat), c < S.n → bro (tA A) S.p S.q pl f c = brgN S pl f c := by
  intro f
  induction f with
  | zero => intro c _; rfl
  | succ f ih =>
    intro c hc
    have h1 := pwN_le w (pl := pl) hc
    unfold bro brgN
    rw [pw_eq R w hp hc]
    by_cases e : pwN S pl c = 0
    · rw [if_pos e, if_pos e]
    · rw [if_neg e, if_neg e]; exact ih _ (by omega)
theorem k_broughtBy {k a b : Nat} (hk : k < G.S.n) (ha : a < 4) (hb : b < 6) (c : gF F A G) : am_Ca X (d + 8) 6032 [.ref 0, .int (nI k), .int (nI a), .int (nI b)] (am_Z cl sl F A L) P = P (.inl (some (.int (nI (brgN G.S (a * 6 + b) 60 k))))) (am_Z cl sl F A L) := by
  have hi : a * 6 + b < 24 := by omega
  rw [c6032]
  simp (disch := omega) only [f_commit c hk, f_place, f_placeOf, s_bringerOf c.R.n0 c.w.n60 (wf_of c.R c.w) hk hi, brg_eq c.R c.w hi 60 k hk, u6032_0, u6032_1, u6032_2, u6032_5, u6032_6, u6032_7, u6032_10, u6032_11, u6032_14, u6032_17, u6032_18, u6032_19, u6032_20, u6032_23, u6032_26, ob_0, gt_0_1, gt_3_0, ob_4, af_x hd_6032, decide_eq_true_eq, if_true, if_false, f2_ne, f2_eq, up_ne, up_eq, kc_int, kc_ref, kc_retAddr, kc_long, kc_double, af_n, af_v, z0, z1, n_of, nz6, nz4, bI_T, bI_F, bI_01, n_lt, n_le, n_eq, n_add, n_mul, n_sub, n_clamp, n_vp, m_lt, m_le, m_eq, m_eq2, m_ltm, m_add, true_and, and_true, eq_self, if_pos, if_neg, List.length_nil, List.length_cons, Nat.reduceAdd, Nat.reduceLeDiff, Nat.zero_le, not_true_eq_false, not_false_eq_true, true_or, or_true]
noncomputable def lwN (S : Ab) (Z : Nat → Prop) (pl : Nat) (v : Int32) : Nat → Bool := fun i => @decide (Z i ∧ nI (S.T i pl) = v) (Classical.propDecidable _)
theorem loN_cg {f g : Nat → Bool} : ∀ (k i : Nat), (∀ j, i ≤ j → j < i + k → f j = g j) → loN f k i = loN g k i := by
  intro k
  induction k with
  | zero => intro i _; rfl
  | succ k ih =>
    intro i h
    unfold loN
    rw [h i (Nat.le_refl _) (by omega), ih (i + 1) (fun j h1 h2 => h j (by omega) (by omega))]
theorem k_firstWith {k a b : Nat} {v : Int32} (hk : k < G.S.n) (ha : a < 4) (hb : b < 6) (c : gF F A G) : am_Ca X (d + 8) 6033 [.ref 0, .int (nI k), .int (nI a), .int (nI b), .int v] (am_Z cl sl F A L) P = P (.inl (some (.int (loN (lwN G.S (Re G.S.p G.S.q k) (a * 6 + b) v) 60 0)))) (am_Z cl sl F (rcA A (Re G.S.p G.S.q k)) L) := by
  have hi : a * 6 + b < 24 := by omega
  have e : loN (lwP A (Re G.S.p G.S.q k) (a * 6 + b) v) 60 0 = loN (lwN G.S (Re G.S.p G.S.q k) (a * 6 + b) v) 60 0 := by
    refine loN_cg 60 0 fun j _ _ => ?_
    unfold lwP lwN
    by_cases h : Re G.S.p G.S.q k j
    · have hj := Re_le c.w.par k hk j h
      rw [show A 7 (j * 24 + (a * 6 + b)) = nI (G.S.T j (a * 6 + b)) from c.R.T j (by omega) _ hi]
    · simp [h]
  rw [c6033]
  simp (disch := omega) only [f_commit c hk, f_place, f_placeOf, s_lowestWith c.R.n0 c.w.n60 (wf_of c.R c.w) hk hi, e, u6033_0, u6033_1, u6033_2, u6033_5, u6033_6, u6033_7, u6033_10, u6033_11, u6033_14, u6033_17, u6033_18, u6033_21, u6033_24, u6033_25, u6033_26, u6033_27, u6033_30, u6033_32, u6033_35, ob_0, gt_0_1, gt_3_1, gt_3_0, ob_13, af_x hd_6033, decide_eq_true_eq, if_true, if_false, f2_ne, f2_eq, up_ne, up_eq, kc_int, kc_ref, kc_retAddr, kc_long, kc_double, af_n, af_v, z0, z1, n_of, nz6, nz4, bI_T, bI_F, bI_01, n_lt, n_le, n_eq, n_add, n_mul, n_sub, n_clamp, n_vp, m_lt, m_le, m_eq, m_eq2, m_ltm, m_add, true_and, and_true, eq_self, if_pos, if_neg, List.length_nil, List.length_cons, Nat.reduceAdd, Nat.reduceLeDiff, Nat.zero_le, not_true_eq_false, not_false_eq_true, true_or, or_true]
def fulD (x : Nat) : UInt64 := FP.ddiv (FP.i2d (nI x)) (UInt64.ofNat 4627448617123184640)
theorem ful_n : ∀ x, x < 25 → vf_n64 (fulD x) := by
  unfold vf_n64
  decide +kernel
theorem k_fullness (c : gF F A G) : am_Ca X (d + 8) 6034 [.ref 0] (am_Z cl sl F A L) P = P (.inl (some (.double (fulD (cnt (fiN G.S) 24))))) (am_Z cl sl F A L) := by
  have hf : vf_n64 (FP.ddiv (FP.i2d (nI (cnt (fiN G.S) 24))) (UInt64.ofNat 4627448617123184640)) = True := eq_true (ful_n _ (by have := cnt_le (fiN G.S) 24; omega))
  rw [c6034]
  simp (disch := omega) only [s_countFilled, fi_eq c.R c.w, hf, u6034_0, u6034_1, u6034_4, u6034_7, u6034_10, u6034_11, u6034_14, u6034_15, gt_0_1, gt_3_0, ob_4, af_x hd_6034, decide_eq_true_eq, if_true, if_false, f2_ne, f2_eq, up_ne, up_eq, kc_int, kc_ref, kc_retAddr, kc_long, kc_double, af_n, af_v, z0, z1, n_of, nz6, nz4, bI_T, bI_F, bI_01, n_lt, n_le, n_eq, n_add, n_mul, n_sub, n_clamp, n_vp, m_lt, m_le, m_eq, m_eq2, m_ltm, m_add, true_and, and_true, eq_self, if_pos, if_neg, List.length_nil, List.length_cons, Nat.reduceAdd, Nat.reduceLeDiff, Nat.zero_le, not_true_eq_false, not_false_eq_true, true_or, or_true]
  rfl
end FO
