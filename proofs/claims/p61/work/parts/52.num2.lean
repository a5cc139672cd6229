/-! THE LAW'S NUMBERS: what is drawn, sets as bits -/
def lo31 (v : Int32) : Nat := (v.toBitVec &&& 2147483647#32).toNat
def lw (v : Int32) (n : Nat) : Nat := lo31 v % n
theorem lw_lt {v : Int32} {n : Nat} (h : 0 < n) : lw v n < n := Nat.mod_lt _ h
theorem and31 (v : Int32) : v &&& nI 2147483647 = nI (lo31 v) := by
  unfold lo31
  rw [← Int32.toBitVec_inj, Int32.toBitVec_and]
  show v.toBitVec &&& 2147483647#32 = BitVec.ofNat 32 _
  rw [BitVec.ofNat_toNat, BitVec.setWidth_eq]
theorem lo31_lt (v : Int32) : lo31 v < 2147483648 := by
  unfold lo31
  rw [BitVec.toNat_and]
  exact Nat.lt_succ_of_le Nat.and_le_right
theorem n_div {a b : Nat} (ha : a < 2147483648) (h0 : 0 < b) (hb : b < 2147483648) : nI a / nI b = nI (a / b) := pk_div ha h0 hb
theorem n_irem {a b : Nat} (ha : a < 2147483648) (h0 : 0 < b) (hb : b < 2147483648) : i_rem (nI a) (nI b) = nI (a % b) := n_rem ha h0 hb
theorem ng_f {n m : Nat} (h : n < 1000) (hm : 0 < m) (hm2 : m < 1000) : (nI n = -nI m) = False := eq_false fun e => by
  have e3 : nI n + nI m = nI 0 := by rw [e]; exact Int32.add_left_neg _
  rw [n_add, n_eq (by omega) (by omega)] at e3
  omega
theorem mg_2 : (m1 = -nI 102) = False := by decide
theorem mg_3 : (m1 = -nI 103) = False := by decide
theorem gg_1 : (-nI 102 = -nI 103) = False := by decide
theorem gg_2 : (-nI 103 = -nI 102) = False := by decide
theorem gz_2 : (-nI 102 < nI 0) = True := by decide
theorem gz_3 : (-nI 103 < nI 0) = True := by decide
theorem gm_3 : (-nI 103 = m1) = False := by decide
theorem gm_2 : (-nI 102 = m1) = False := by decide
theorem dm6 (k : Nat) : k / 6 * 6 + k % 6 = k := by omega
section LS
variable {d : Nat} {X : am_X} {s : am_S} {P : am_Q} {x : Int64} {Z : Nat → Prop}
theorem l_low {v : Int32} {k : Nat} (h0 : 0 < k) (hk : k < 2147483648) : am_Ca X (d + 1) 8002 [.int v, .int (nI k)] s P = P (.inl (some (.int (nI (lw v k))))) s := by
  have h1 := lo31_lt v
  rw [c8002]
  have hk0 : (k = 0) = False := eq_false (by omega)
  simp (disch := omega) only [and31, n_irem, hk0, u8002_0, u8002_1, u8002_3, u8002_4, u8002_5, u8002_6, af_x hd_8002, decide_eq_true_eq, if_true, if_false, f2_ne, f2_eq, up_ne, up_eq, kc_int, kc_ref, kc_retAddr, kc_long, kc_double, af_n, af_v, z0, z1, n_of, nz6, nz4, bI_T, bI_F, bI_01, n_lt, n_le, n_eq, n_add, n_mul, n_sub, n_clamp, n_vp, m_lt, m_le, m_eq, m_eq2, m_ltm, m_add, true_and, and_true, eq_self, if_pos, if_neg, List.length_nil, List.length_cons, Nat.reduceAdd, Nat.reduceLeDiff, Nat.zero_le, not_true_eq_false, not_false_eq_true, true_or, or_true]
  rfl
def ltv (X : am_X) (k : Nat) : Int32 := if k < X.1 then X.2.1 k else nI 2384334445 * nI (k + 5717) + nI 5507
theorem xl_s {pc : Nat} {i : Int32} {lc r : List Value} {st : am_S} {K : am_K} : am_xl (X.1, X.2.1, d) am_m8001 pc lc (.int i :: .retAddr 0 :: r) st K = (vp_in i X.1 ∧ K pc lc (.int (X.2.1 i.toNatClampNeg) :: r) st) := rfl
theorem al_s {pc : Nat} {lc r : List Value} {st : am_S} {K : am_K} : am_al (X.1, X.2.1, d) am_m8001 pc lc (.retAddr 0 :: r) st K = K pc lc (.int (Int32.ofNat X.1) :: r) st := rfl
theorem l_lot {k : Nat} (hN : X.1 ≤ 260) (hk : k < 1000) : am_Ca X (d + 1) 8001 [.retAddr 0, .int (nI k)] s P = P (.inl (some (.int (ltv X k)))) s := by
  rw [c8001]
  unfold ltv
  by_cases e : k < X.1
  · rw [if_pos e]
    simp (disch := omega) only [al_s, xl_s, u8001_0, u8001_1, u8001_2, u8001_3, u8001_6, u8001_7, u8001_8, u8001_9, u8001_12, u8001_14, u8001_15, u8001_18, u8001_19, u8001_20, u8001_23, u8001_24, ki_5507, ki_5717, af_x hd_8001, decide_eq_true_eq, if_true, if_false, f2_ne, f2_eq, up_ne, up_eq, kc_int, kc_ref, kc_retAddr, kc_long, kc_double, af_n, af_v, z0, z1, n_of, nz6, nz4, bI_T, bI_F, bI_01, n_lt, n_le, n_eq, n_add, n_mul, n_sub, n_clamp, n_vp, m_lt, m_le, m_eq, m_eq2, m_ltm, m_add, true_and, and_true, eq_self, if_pos, if_neg, List.length_nil, List.length_cons, Nat.reduceAdd, Nat.reduceLeDiff, Nat.zero_le, not_true_eq_false, not_false_eq_true, true_or, or_true]
  · rw [if_neg e]
    simp (disch := omega) only [al_s, xl_s, u8001_0, u8001_1, u8001_2, u8001_3, u8001_6, u8001_7, u8001_8, u8001_9, u8001_12, u8001_14, u8001_15, u8001_18, u8001_19, u8001_20, u8001_23, u8001_24, ki_5507, ki_5717, af_x hd_8001, decide_eq_true_eq, if_true, if_false, f2_ne, f2_eq, up_ne, up_eq, kc_int, kc_ref, kc_retAddr, kc_long, kc_double, af_n, af_v, z0, z1, n_of, nz6, nz4, bI_T, bI_F, bI_01, n_lt, n_le, n_eq, n_add, n_mul, n_sub, n_clamp, n_vp, m_lt, m_le, m_eq, m_eq2, m_ltm, m_add, true_and, and_true, eq_self, if_pos, if_neg, List.length_nil, List.length_cons, Nat.reduceAdd, Nat.reduceLeDiff, Nat.zero_le, not_true_eq_false, not_false_eq_true, true_or, or_true]
theorem i64_and1 (y : Int64) : y &&& 1 = 0 ∨ y &&& 1 = 1 := by
  rw [← Int64.toBitVec_inj, ← Int64.toBitVec_inj, Int64.toBitVec_and, show (1 : Int64).toBitVec = 1#64 from rfl, show (0 : Int64).toBitVec = 0#64 from rfl, BitVec.and_one_eq_setWidth_ofBool_getLsbD]
  cases y.toBitVec.getLsbD 0 <;> decide
theorem lS_b32 (h : lS x Z) {c : Nat} (hc : c < 60) : (x >>> ((nI c).toInt64 &&& 63) &&& 1).toInt32 = bI (Z c) := by
  have hb := lS_bit h hc
  rcases i64_and1 (x >>> ((nI c).toInt64 &&& 63)) with e | e
  · rw [e] at hb ⊢
    rw [bI_f (fun z => absurd (hb.mpr z) (by decide))]
    decide
  · rw [e] at hb ⊢
    rw [bI_t (hb.mp (by decide))]
    decide
theorem lS_bF (h : lS x Z) {c : Nat} (hc : c < 60) (hz : ¬ Z c) : (lg_cmp (x >>> ((nI c).toInt64 &&& 63) &&& 1) 1 = nI 0) = False := eq_false fun e => hz ((lS_bit h hc).mp e)
theorem lS_bT (h : lS x Z) {c : Nat} (hc : c < 60) (hz : Z c) : (lg_cmp (x >>> ((nI c).toInt64 &&& 63) &&& 1) 1 = nI 0) = True := eq_true ((lS_bit h hc).mpr hz)
theorem l_manyL (h : lS x Z) : ∀ (k i : Nat), i + k = 60 → am_g d X am_m8036 4 [.long x, am_u, .int (nI (cnt (dP Z) i)), .int (nI i)] [] s P = P (.inl (some (.int (nI (cnt (dP Z) 60))))) s := by
  intro k
  induction k with
  | zero =>
    intro i hi
    obtain rfl : i = 60 := by omega
    rw [u8036_4]
    simp (disch := omega) only [u8036_0, u8036_1, u8036_2, u8036_3, u8036_5, u8036_7, u8036_10, u8036_11, u8036_12, u8036_13, u8036_14, u8036_15, u8036_16, u8036_17, u8036_18, u8036_19, u8036_22, u8036_25, u8036_26, ki_0, ki_1, ki_60, af_x hd_8036, decide_eq_true_eq, if_true, if_false, f2_ne, f2_eq, up_ne, up_eq, kc_int, kc_ref, kc_retAddr, kc_long, kc_double, af_n, af_v, z0, z1, n_of, nz6, nz4, bI_T, bI_F, bI_01, n_lt, n_le, n_eq, n_add, n_mul, n_sub, n_clamp, n_vp, m_lt, m_le, m_eq, m_eq2, m_ltm, m_add, true_and, and_true, eq_self, if_pos, if_neg, List.length_nil, List.length_cons, Nat.reduceAdd, Nat.reduceLeDiff, Nat.zero_le, not_true_eq_false, not_false_eq_true, true_or, or_true]
  | succ k ih =>
    intro i hi
    have hb := lS_b32 h (c := i) (by omega)
    have h1 := cnt_le (dP Z) i
    rw [u8036_4]
    by_cases hv : Z i
    · rw [bI_t hv] at hb
      simp (disch := omega) only [hb, u8036_0, u8036_1, u8036_2, u8036_3, u8036_5, u8036_7, u8036_10, u8036_11, u8036_12, u8036_13, u8036_14, u8036_15, u8036_16, u8036_17, u8036_18, u8036_19, u8036_22, u8036_25, u8036_26, ki_0, ki_1, ki_60, af_x hd_8036, decide_eq_true_eq, if_true, if_false, f2_ne, f2_eq, up_ne, up_eq, kc_int, kc_ref, kc_retAddr, kc_long, kc_double, af_n, af_v, z0, z1, n_of, nz6, nz4, bI_T, bI_F, bI_01, n_lt, n_le, n_eq, n_add, n_mul, n_sub, n_clamp, n_vp, m_lt, m_le, m_eq, m_eq2, m_ltm, m_add, true_and, and_true, eq_self, if_pos, if_neg, List.length_nil, List.length_cons, Nat.reduceAdd, Nat.reduceLeDiff, Nat.zero_le, not_true_eq_false, not_false_eq_true, true_or, or_true]
      have h2 := ih (i + 1) (by omega)
      rw [cnt_t (dP_t hv)] at h2
      exact h2
    · rw [bI_f hv] at hb
      simp (disch := omega) only [hb, u8036_0, u8036_1, u8036_2, u8036_3, u8036_5, u8036_7, u8036_10, u8036_11, u8036_12, u8036_13, u8036_14, u8036_15, u8036_16, u8036_17, u8036_18, u8036_19, u8036_22, u8036_25, u8036_26, ki_0, ki_1, ki_60, af_x hd_8036, decide_eq_true_eq, if_true, if_false, f2_ne, f2_eq, up_ne, up_eq, kc_int, kc_ref, kc_retAddr, kc_long, kc_double, af_n, af_v, z0, z1, n_of, nz6, nz4, bI_T, bI_F, bI_01, n_lt, n_le, n_eq, n_add, n_mul, n_sub, n_clamp, n_vp, m_lt, m_le, m_eq, m_eq2, m_ltm, m_add, true_and, and_true, eq_self, if_pos, if_neg, List.length_nil, List.length_cons, Nat.reduceAdd, Nat.reduceLeDiff, Nat.zero_le, not_true_eq_false, not_false_eq_true, true_or, or_true]
      have h2 := ih (i + 1) (by omega)
      rw [cnt_f (dP_f hv)] at h2
      exact h2
theorem l_many (h : lS x Z) : am_Ca X (d + 1) 8036 [.long x] s P = P (.inl (some (.int (nI (cnt (dP Z) 60))))) s := by
  rw [c8036]
  simp (disch := omega) only [u8036_0, u8036_1, u8036_2, u8036_3, u8036_5, u8036_7, u8036_10, u8036_11, u8036_12, u8036_13, u8036_14, u8036_15, u8036_16, u8036_17, u8036_18, u8036_19, u8036_22, u8036_25, u8036_26, ki_0, ki_1, ki_60, af_x hd_8036, decide_eq_true_eq, if_true, if_false, f2_ne, f2_eq, up_ne, up_eq, kc_int, kc_ref, kc_retAddr, kc_long, kc_double, af_n, af_v, z0, z1, n_of, nz6, nz4, bI_T, bI_F, bI_01, n_lt, n_le, n_eq, n_add, n_mul, n_sub, n_clamp, n_vp, m_lt, m_le, m_eq, m_eq2, m_ltm, m_add, true_and, and_true, eq_self, if_pos, if_neg, List.length_nil, List.length_cons, Nat.reduceAdd, Nat.reduceLeDiff, Nat.zero_le, not_true_eq_false, not_false_eq_true, true_or, or_true]
  exact l_manyL h 60 0 rfl
theorem l_topL (h : lS x Z) : ∀ (k i : Nat), i + k = 60 → am_g d X am_m8037 4 [.long x, am_u, .int (hiC Z i), .int (nI i)] [] s P = P (.inl (some (.int (hiC Z 60)))) s := by
  intro k
  induction k with
  | zero =>
    intro i hi
    obtain rfl : i = 60 := by omega
    rw [u8037_4]
    simp (disch := omega) only [u8037_0, u8037_1, u8037_2, u8037_3, u8037_5, u8037_7, u8037_10, u8037_11, u8037_12, u8037_13, u8037_14, u8037_15, u8037_16, u8037_17, u8037_20, u8037_21, u8037_24, u8037_25, u8037_26, u8037_29, u8037_32, u8037_33, ki_m1, ki_0, ki_1, ki_60, af_x hd_8037, decide_eq_true_eq, if_true, if_false, f2_ne, f2_eq, up_ne, up_eq, kc_int, kc_ref, kc_retAddr, kc_long, kc_double, af_n, af_v, z0, z1, n_of, nz6, nz4, bI_T, bI_F, bI_01, n_lt, n_le, n_eq, n_add, n_mul, n_sub, n_clamp, n_vp, m_lt, m_le, m_eq, m_eq2, m_ltm, m_add, true_and, and_true, eq_self, if_pos, if_neg, List.length_nil, List.length_cons, Nat.reduceAdd, Nat.reduceLeDiff, Nat.zero_le, not_true_eq_false, not_false_eq_true, true_or, or_true]
  | succ k ih =>
    intro i hi
    rw [u8037_4]
    have h2 := ih (i + 1) (by omega)
    by_cases hv : Z i
    · have hb := lS_bT h (c := i) (by omega) hv
      simp (disch := omega) only [hb, u8037_0, u8037_1, u8037_2, u8037_3, u8037_5, u8037_7, u8037_10, u8037_11, u8037_12, u8037_13, u8037_14, u8037_15, u8037_16, u8037_17, u8037_20, u8037_21, u8037_24, u8037_25, u8037_26, u8037_29, u8037_32, u8037_33, ki_m1, ki_0, ki_1, ki_60, af_x hd_8037, decide_eq_true_eq, if_true, if_false, f2_ne, f2_eq, up_ne, up_eq, kc_int, kc_ref, kc_retAddr, kc_long, kc_double, af_n, af_v, z0, z1, n_of, nz6, nz4, bI_T, bI_F, bI_01, n_lt, n_le, n_eq, n_add, n_mul, n_sub, n_clamp, n_vp, m_lt, m_le, m_eq, m_eq2, m_ltm, m_add, true_and, and_true, eq_self, if_pos, if_neg, List.length_nil, List.length_cons, Nat.reduceAdd, Nat.reduceLeDiff, Nat.zero_le, not_true_eq_false, not_false_eq_true, true_or, or_true]
      rw [show hiC Z (i + 1) = nI i from if_pos hv] at h2
      exact h2
    · have hb := lS_bF h (c := i) (by omega) hv
      simp (disch := omega) only [hb, u8037_0, u8037_1, u8037_2, u8037_3, u8037_5, u8037_7, u8037_10, u8037_11, u8037_12, u8037_13, u8037_14, u8037_15, u8037_16, u8037_17, u8037_20, u8037_21, u8037_24, u8037_25, u8037_26, u8037_29, u8037_32, u8037_33, ki_m1, ki_0, ki_1, ki_60, af_x hd_8037, decide_eq_true_eq, if_true, if_false, f2_ne, f2_eq, up_ne, up_eq, kc_int, kc_ref, kc_retAddr, kc_long, kc_double, af_n, af_v, z0, z1, n_of, nz6, nz4, bI_T, bI_F, bI_01, n_lt, n_le, n_eq, n_add, n_mul, n_sub, n_clamp, n_vp, m_lt, m_le, m_eq, m_eq2, m_ltm, m_add, true_and, and_true, eq_self, if_pos, if_neg, List.length_nil, List.length_cons, Nat.reduceAdd, Nat.reduceLeDiff, Nat.zero_le, not_true_eq_false, not_false_eq_true, true_or, or_true]
      rw [show hiC Z (i + 1) = hiC Z i from if_neg hv] at h2
      exact h2
theorem l_top (h : lS x Z) : am_Ca X (d + 1) 8037 [.long x] s P = P (.inl (some (.int (hiC Z 60)))) s := by
  rw [c8037]
  simp (disch := omega) only [u8037_0, u8037_1, u8037_2, u8037_3, u8037_5, u8037_7, u8037_10, u8037_11, u8037_12, u8037_13, u8037_14, u8037_15, u8037_16, u8037_17, u8037_20, u8037_21, u8037_24, u8037_25, u8037_26, u8037_29, u8037_32, u8037_33, ki_m1, ki_0, ki_1, ki_60, af_x hd_8037, decide_eq_true_eq, if_true, if_false, f2_ne, f2_eq, up_ne, up_eq, kc_int, kc_ref, kc_retAddr, kc_long, kc_double, af_n, af_v, z0, z1, n_of, nz6, nz4, bI_T, bI_F, bI_01, n_lt, n_le, n_eq, n_add, n_mul, n_sub, n_clamp, n_vp, m_lt, m_le, m_eq, m_eq2, m_ltm, m_add, true_and, and_true, eq_self, if_pos, if_neg, List.length_nil, List.length_cons, Nat.reduceAdd, Nat.reduceLeDiff, Nat.zero_le, not_true_eq_false, not_false_eq_true, true_or, or_true]
  exact l_topL h 60 0 rfl
end LS
/-! what a commit reaches, as bits -/
section LA
variable {d n : Nat} {X : am_X} {G : Fu} {s : am_S} {P : am_Q}
theorem l_allL (hh : Hs n G s) {c : Nat} (hc : c < G.S.n) : ∀ (k : Nat) (x : Int64), k ≤ c → lS x (mF G.S.p G.S.q c (k + 1)) → ∃ y, lS y (Re G.S.p G.S.q c) ∧ ∀ P, am_g (d + 8) X am_m8035 7 [.ref 0, .int (nI c), .long x, am_u, .int (nI k)] [] s P = P (.inl (some (.long y))) s := by
  have h := h_w hh
  have h60 := h.n60
  have ob := h_ob hh
  intro k
  induction k with
  | zero =>
    intro x _ hx
    refine ⟨x, lS_cg hx fun z => ?_, fun P => ?_⟩
    · obtain ⟨p0, q0⟩ := h.par 0 (by omega)
      have e1 := mF_step (x := z) h.par (c := c) (i := 0) hc
      have e2 := mT_end (x := z) (S := fun _ => False) h.par hc
      constructor
      · intro g
        exact (e2.mp (e1.mpr (Or.inl g))).resolve_left (fun z => z)
      · intro g
        rcases e1.mp (e2.mpr (Or.inr g)) with z | ⟨-, z⟩
        · exact z
        · rcases z with z | z <;> omega
    · rw [u8035_7]
      simp (disch := omega) only [u8035_0, u8035_1, u8035_2, u8035_3, u8035_4, u8035_5, u8035_9, u8035_12, u8035_13, u8035_15, u8035_16, u8035_17, u8035_18, u8035_19, u8035_20, u8035_23, u8035_24, u8035_25, u8035_26, u8035_28, u8035_31, u8035_32, u8035_33, u8035_34, u8035_35, u8035_36, u8035_38, u8035_41, u8035_42, u8035_45, u8035_46, u8035_49, u8035_50, u8035_51, u8035_53, u8035_56, u8035_57, u8035_58, u8035_59, u8035_62, u8035_65, u8035_66, ob_0, ki_m1, af_x hd_8035, decide_eq_true_eq, if_true, if_false, f2_ne, f2_eq, up_ne, up_eq, kc_int, kc_ref, kc_retAddr, kc_long, kc_double, af_n, af_v, z0, z1, n_of, nz6, nz4, bI_T, bI_F, bI_01, n_lt, n_le, n_eq, n_add, n_mul, n_sub, n_clamp, n_vp, m_lt, m_le, m_eq, m_eq2, m_ltm, m_add, true_and, and_true, eq_self, if_pos, if_neg, List.length_nil, List.length_cons, Nat.reduceAdd, Nat.reduceLeDiff, Nat.zero_le, not_true_eq_false, not_false_eq_true, true_or, or_true]
  | succ k ih =>
    intro x hk hx
    have hkn : k + 1 < G.S.n := by omega
    obtain ⟨hp, hq⟩ := h.par (k + 1) hkn
    have hr := h.root (k + 1) hkn (by omega)
    have own := mF_own h.par (c := c) (i := k + 1) hc
    have e1 : ∀ {P : am_Q}, am_Ca X (d + 8) 6036 [.ref 0, .int (nI (k + 1))] s P = P (.inl (some (.int (nI (G.S.p (k + 1) - 1))))) s := fun {P} => by
      rw [← pk_p _ hr]
      exact h_firstParent (d := d + 1) (hk := hkn) (hh := hh)
    have e2 : ∀ {P : am_Q}, am_Ca X (d + 8) 6037 [.ref 0, .int (nI (k + 1))] s P = P (.inl (some (.int (pk (G.S.q (k + 1)))))) s := fun {P} => h_secondParent (d := d + 1) (hk := hkn) (hh := hh)
    by_cases hv : Re G.S.p G.S.q c (k + 1)
    · have hb := lS_bT hx (c := k + 1) (by omega) (own.mpr hv)
      have s1 := lS_or hx (lS_1 (k := G.S.p (k + 1) - 1) (by omega))
      by_cases q0 : G.S.q (k + 1) = 0
      · rw [q0, pk_0] at e2
        have s2 := lS_or s1 lS_0
        obtain ⟨y, y1, y2⟩ := ih _ (by omega) (lS_cg s2 fun z => by
          rw [mF_step (x := z) h.par (c := c) (i := k + 1) hc]
          unfold par
          constructor
          · rintro ((a | a) | a)
            · exact Or.inl a
            · exact Or.inr ⟨hv, Or.inl (by omega)⟩
            · exact a.elim
          · rintro (a | ⟨-, a | a⟩)
            · exact Or.inl (Or.inl a)
            · exact Or.inl (Or.inr (by omega))
            · omega)
        refine ⟨y, y1, fun P => ?_⟩
        rw [u8035_7]
        simp (disch := omega) only [hb, e1, e2, ob, u8035_0, u8035_1, u8035_2, u8035_3, u8035_4, u8035_5, u8035_9, u8035_12, u8035_13, u8035_15, u8035_16, u8035_17, u8035_18, u8035_19, u8035_20, u8035_23, u8035_24, u8035_25, u8035_26, u8035_28, u8035_31, u8035_32, u8035_33, u8035_34, u8035_35, u8035_36, u8035_38, u8035_41, u8035_42, u8035_45, u8035_46, u8035_49, u8035_50, u8035_51, u8035_53, u8035_56, u8035_57, u8035_58, u8035_59, u8035_62, u8035_65, u8035_66, ob_0, ki_m1, af_x hd_8035, decide_eq_true_eq, if_true, if_false, f2_ne, f2_eq, up_ne, up_eq, kc_int, kc_ref, kc_retAddr, kc_long, kc_double, af_n, af_v, z0, z1, n_of, nz6, nz4, bI_T, bI_F, bI_01, n_lt, n_le, n_eq, n_add, n_mul, n_sub, n_clamp, n_vp, m_lt, m_le, m_eq, m_eq2, m_ltm, m_add, true_and, and_true, eq_self, if_pos, if_neg, List.length_nil, List.length_cons, Nat.reduceAdd, Nat.reduceLeDiff, Nat.zero_le, not_true_eq_false, not_false_eq_true, true_or, or_true]
        exact y2 P
      · rw [pk_p _ q0] at e2
        have s2 := lS_or s1 (lS_1 (k := G.S.q (k + 1) - 1) (by omega))
        obtain ⟨y, y1, y2⟩ := ih _ (by omega) (lS_cg s2 fun z => by
          rw [mF_step (x := z) h.par (c := c) (i := k + 1) hc]
          unfold par
          constructor
          · rintro ((a | a) | a)
            · exact Or.inl a
            · exact Or.inr ⟨hv, Or.inl (by omega)⟩
            · exact Or.inr ⟨hv, Or.inr (by omega)⟩
          · rintro (a | ⟨-, a | a⟩)
            · exact Or.inl (Or.inl a)
            · exact Or.inl (Or.inr (by omega))
            · exact Or.inr (by omega))
        refine ⟨y, y1, fun P => ?_⟩
        rw [u8035_7]
        simp (disch := omega) only [hb, e1, e2, ob, u8035_0, u8035_1, u8035_2, u8035_3, u8035_4, u8035_5, u8035_9, u8035_12, u8035_13, u8035_15, u8035_16, u8035_17, u8035_18, u8035_19, u8035_20, u8035_23, u8035_24, u8035_25, u8035_26, u8035_28, u8035_31, u8035_32, u8035_33, u8035_34, u8035_35, u8035_36, u8035_38, u8035_41, u8035_42, u8035_45, u8035_46, u8035_49, u8035_50, u8035_51, u8035_53, u8035_56, u8035_57, u8035_58, u8035_59, u8035_62, u8035_65, u8035_66, ob_0, ki_m1, af_x hd_8035, decide_eq_true_eq, if_true, if_false, f2_ne, f2_eq, up_ne, up_eq, kc_int, kc_ref, kc_retAddr, kc_long, kc_double, af_n, af_v, z0, z1, n_of, nz6, nz4, bI_T, bI_F, bI_01, n_lt, n_le, n_eq, n_add, n_mul, n_sub, n_clamp, n_vp, m_lt, m_le, m_eq, m_eq2, m_ltm, m_add, true_and, and_true, eq_self, if_pos, if_neg, List.length_nil, List.length_cons, Nat.reduceAdd, Nat.reduceLeDiff, Nat.zero_le, not_true_eq_false, not_false_eq_true, true_or, or_true]
        exact y2 P
    · have hb := lS_bF hx (c := k + 1) (by omega) (fun z => hv (own.mp z))
      obtain ⟨y, y1, y2⟩ := ih x (by omega) (lS_cg hx fun z => by
        rw [mF_step (x := z) h.par (c := c) (i := k + 1) hc]
        exact ⟨Or.inl, fun a => a.resolve_right fun a => hv a.1⟩)
      refine ⟨y, y1, fun P => ?_⟩
      rw [u8035_7]
      simp (disch := omega) only [hb, u8035_0, u8035_1, u8035_2, u8035_3, u8035_4, u8035_5, u8035_9, u8035_12, u8035_13, u8035_15, u8035_16, u8035_17, u8035_18, u8035_19, u8035_20, u8035_23, u8035_24, u8035_25, u8035_26, u8035_28, u8035_31, u8035_32, u8035_33, u8035_34, u8035_35, u8035_36, u8035_38, u8035_41, u8035_42, u8035_45, u8035_46, u8035_49, u8035_50, u8035_51, u8035_53, u8035_56, u8035_57, u8035_58, u8035_59, u8035_62, u8035_65, u8035_66, ob_0, ki_m1, af_x hd_8035, decide_eq_true_eq, if_true, if_false, f2_ne, f2_eq, up_ne, up_eq, kc_int, kc_ref, kc_retAddr, kc_long, kc_double, af_n, af_v, z0, z1, n_of, nz6, nz4, bI_T, bI_F, bI_01, n_lt, n_le, n_eq, n_add, n_mul, n_sub, n_clamp, n_vp, m_lt, m_le, m_eq, m_eq2, m_ltm, m_add, true_and, and_true, eq_self, if_pos, if_neg, List.length_nil, List.length_cons, Nat.reduceAdd, Nat.reduceLeDiff, Nat.zero_le, not_true_eq_false, not_false_eq_true, true_or, or_true]
      exact y2 P
theorem l_all (hh : Hs n G s) {c : Nat} (hc : c < G.S.n) : ∃ y, lS y (Re G.S.p G.S.q c) ∧ ∀ P, am_Ca X (d + 9) 8035 [.ref 0, .int (nI c)] s P = P (.inl (some (.long y))) s := by
  have h60 := (h_w hh).n60
  obtain ⟨y, y1, y2⟩ := l_allL (d := d) (X := X) hh hc c _ (Nat.le_refl c) (lS_cg (lS_1 (k := c) (by omega)) fun z => (mF_top (Nat.lt_succ_self c)).symm)
  refine ⟨y, y1, fun P => ?_⟩
  rw [c8035]
  simp (disch := omega) only [u8035_0, u8035_1, u8035_2, u8035_3, u8035_4, u8035_5, u8035_9, u8035_12, u8035_13, u8035_15, u8035_16, u8035_17, u8035_18, u8035_19, u8035_20, u8035_23, u8035_24, u8035_25, u8035_26, u8035_28, u8035_31, u8035_32, u8035_33, u8035_34, u8035_35, u8035_36, u8035_38, u8035_41, u8035_42, u8035_45, u8035_46, u8035_49, u8035_50, u8035_51, u8035_53, u8035_56, u8035_57, u8035_58, u8035_59, u8035_62, u8035_65, u8035_66, ob_0, ki_m1, af_x hd_8035, decide_eq_true_eq, if_true, if_false, f2_ne, f2_eq, up_ne, up_eq, kc_int, kc_ref, kc_retAddr, kc_long, kc_double, af_n, af_v, z0, z1, n_of, nz6, nz4, bI_T, bI_F, bI_01, n_lt, n_le, n_eq, n_add, n_mul, n_sub, n_clamp, n_vp, m_lt, m_le, m_eq, m_eq2, m_ltm, m_add, true_and, and_true, eq_self, if_pos, if_neg, List.length_nil, List.length_cons, Nat.reduceAdd, Nat.reduceLeDiff, Nat.zero_le, not_true_eq_false, not_false_eq_true, true_or, or_true]
  exact y2 P
end LA
