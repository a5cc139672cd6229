/-! THE FIRST STATE; THE LAW GOES THROUGH -/
def shA : Nat → am_D := va_up (fun _ => (9, 0, [])) 0 (0, 6, [some none, some none, some none, some none, none])
def shB : Nat → am_D := is_6001 shA 0 1
def shC : Nat → am_D := va_up shB 70 (0, 7, [some none, some none, some none, none, some none, none, some none, none, none, some none, none, none, none, none, none, none, some none])
def shD : Nat → am_D := is_7001 shC 70 71
def shE : Nat → am_D := va_up shD 78 (2, 1, [])
def fA : Nat → Nat → Int32 := va_up (fun _ _ => nI 0) 0 (fun _ => nI 0)
def fB : Nat → Nat → Int32 := if_6001 fA 0 1
def fC : Nat → Nat → Int32 := va_up fB 70 (fun _ => nI 0)
def fD : Nat → Nat → Int32 := if_7001 fC 70 71
def aB : Nat → Nat → Int32 := ia_6001 (fun _ _ => nI 0) 1
def aD : Nat → Nat → Int32 := ia_7001 aB 71
def aE : Nat → Nat → Int32 := va_up aD 78 (fun _ => nI 0)
def lB : Nat → Nat → Int64 := il_6001 (fun _ _ => 0) 1
def lD : Nat → Nat → Int64 := il_7001 lB 71
def lE : Nat → Nat → Int64 := va_up lD 78 (fun _ => 0)
theorem shE_lo : ∀ k, k < 79 → shE k = SH k := by decide +kernel
theorem shE_SH : shE = SH := by
  funext k
  by_cases h : k < 79
  · exact shE_lo k h
  · have e1 : SH k = (9, 0, []) := by
      unfold SH
      rw [List.getD_eq_getElem?_getD, List.getElem?_eq_none (by show 79 ≤ k; omega)]
      rfl
    rw [e1]
    unfold shE shD
    rw [up_ne (by omega), is_7001_ne (by omega) (by omega)]
    unfold shC shB
    rw [up_ne (by omega), is_6001_ne (by omega) (by omega)]
    unfold shA
    rw [up_ne (by omega)]
def S0 : Ab := mkA 1 0 0 0 0 0 (fun _ => 0) (fun _ => 0) (va_up (fun _ => 0) 0 1) (fun _ => 0) (fun _ => 0) (fun _ => 0) (fun _ _ => 0) (fun _ _ => 0)
def G0 : Fu := mkG S0 0 (fun _ => S0) 0 S0 0 (fun _ => 0)
theorem wS_0 : wS S0 := by
  refine wS.mk (Nat.le_refl 1) (by decide) (fun c hc => ⟨Nat.zero_le _, Nat.zero_le _⟩) (fun c hc h => ?_) (fun b hb => ?_) (by decide) ?_ (by decide) (Nat.zero_le _) (Nat.zero_le _) (fun j hj => absurd hj (Nat.not_lt_zero j)) (fun _ _ _ _ => by show 0 < 100; decide) (fun _ _ => by show 0 < 100; decide) (fun _ _ => Nat.zero_le _) (fun j hj => absurd hj (Nat.not_lt_zero j))
  · have hc' : c < 1 := hc
    omega
  · show va_up (fun _ => 0) 0 1 b ≤ 1
    unfold va_up
    split
    · exact Nat.le_refl 1
    · exact Nat.zero_le _
  · show va_up (fun _ => 0) 0 1 0 ≠ 0
    rw [up_eq]; decide
theorem cR_0 : cR fD aE 4 S0 := by
  have h1 : ∀ c, c < 1 → aE 5 c = m1 := by decide +kernel
  have h2 : ∀ c, c < 1 → aE 6 c = m1 := by decide +kernel
  have h3 : ∀ c, c < 1 → ∀ i, i < 24 → aE 7 (c * 24 + i) = nI 0 := by decide +kernel
  have h4 : ∀ b, b < 6 → aE 8 b = pk (va_up (fun _ => 0) 0 1 b) := by decide +kernel
  have h5 : ∀ i, i < 24 → aE 9 i = nI 0 := by decide +kernel
  have h6 : ∀ i, i < 24 → aE 10 i = m1 := by decide +kernel
  exact cR.mk (by decide +kernel) (by decide +kernel) (by decide +kernel) (by decide +kernel) (by decide +kernel) (by decide +kernel) h1 h2 h3 h4 h5 h6 (fun j hj => absurd hj (Nat.not_lt_zero j)) (fun j hj => absurd hj (Nat.not_lt_zero j))
theorem mR_0 : mR (aE 71) S0 := by
  have h1 : ∀ c, c < 1 → aE 71 (1440 + c) = nI 0 := by decide +kernel
  have h2 : ∀ c, c < 1 → aE 71 (1500 + c) = nI 0 := by decide +kernel
  have h3 : ∀ c, c < 1 → ∀ i, i < 24 → aE 71 (24 * c + i) = nI 0 := by decide +kernel
  have h4 : ∀ b, b < 6 → aE 71 (1560 + b) = nI (va_up (fun _ => 0) 0 1 b) := by decide +kernel
  have h5 : ∀ i, i < 24 → aE 71 (1567 + i) = nI 0 := by decide +kernel
  have h6 : ∀ i, i < 24 → aE 71 (1591 + i) = nI 0 := by decide +kernel
  exact mR.mk (by decide +kernel) (by decide +kernel) (by decide +kernel) (fun e => absurd (show (0 : Nat) = 1 from e) (by decide)) (by decide +kernel) (by decide +kernel) h1 h2 h3 h4 h5 h6 (fun j hj => absurd hj (Nat.not_lt_zero j)) (fun j hj => absurd hj (Nat.not_lt_zero j))
theorem gF_0 : gF fD aE G0 := gF.mk cR_0 wS_0 ⟨Nat.zero_le _, by decide +kernel, 0, by decide, by decide +kernel, fun a ha => absurd ha (Nat.not_lt_zero a)⟩ ⟨by decide +kernel, Nat.zero_le _, fun i hi => absurd hi (Nat.not_lt_zero i)⟩ (by decide +kernel) (by decide) (fun e => absurd (show (0 : Nat) = 1 from e) (by decide))
theorem mG_0 : mG fD aE G0 := mG.mk mR_0 (fun _ _ _ => rfl) (by decide +kernel) (fun a ha => absurd ha (Nat.not_lt_zero a)) (by decide +kernel) (fun e => absurd (show (0 : Nat) = 1 from e) (by decide)) (by decide +kernel) (fun i hi => absurd hi (Nat.not_lt_zero i))
section LG
variable {X : am_X} {F A : Nat → Nat → Int32} {L : Nat → Nat → Int64} {G : Fu} {Q : am_Q}
theorem law_init : am_g 10 X am_m8900 0 am_l0 [] am_s0 Q = am_g 10 X am_m8900 23 (lwL 0 am_u am_u am_u am_u) [] (am_Z 80 23187 fD aE lE) Q := by
  have e1 : ∀ {P : am_Q}, am_Ca X 10 6001 [.ref 0] (1, shA, 1, 5, fA, (fun _ _ => nI 0), (fun _ _ => 0)) P = P (.inl none) (70, shB, 70, 10641, fB, aB, lB) := fun {P} => i_6001 (d := 6) (X := X) (n := 1) (o := 0) (sl := 5) (F := fA) (A := fun _ _ => nI 0) (L := fun _ _ => 0) (by omega) (show shA 0 = _ from up_eq) (P := P)
  have e2 : ∀ {P : am_Q}, am_Ca X 10 7001 [.ref 70] (71, shC, 71, 10658, fC, aB, lB) P = P (.inl none) (78, shD, 78, 23186, fD, aD, lD) := fun {P} => i_7001 (d := 9) (X := X) (n := 71) (o := 70) (sl := 10658) (F := fC) (A := aB) (L := lB) (by omega) (show shC 70 = _ from up_eq) (P := P)
  have s1 : va_up (fun _ => ((9, 0, []) : am_D)) 0 (0, 6, [some none, some none, some none, some none, none]) = shA := rfl
  have s2 : va_up (fun _ _ => nI 0) 0 (fun _ => nI 0) = fA := rfl
  have s3 : va_up shB 70 (0, 7, [some none, some none, some none, none, some none, none, some none, none, none, some none, none, none, none, none, none, none, some none]) = shC := rfl
  have s4 : va_up fB 70 (fun _ => nI 0) = fC := rfl
  have s5 : va_up shD 78 (2, 1, []) = shE := rfl
  have s6 : va_up aD 78 (fun _ => nI 0) = aE := rfl
  have s7 : va_up lD 78 (fun _ => 0) = lE := rfl
  have x1 : shA 0 = (0, 6, [some none, some none, some none, some none, none]) := up_eq
  have x2 : shC 70 = (0, 7, [some none, some none, some none, none, some none, none, some none, none, none, some none, none, none, none, none, none, none, some none]) := up_eq
  unfold am_l0 am_s0
  simp (disch := omega) only [nw_t, na_2, bk_6, bk_7, sn_6, sn_7, e1, e2, s1, s2, s3, s4, s5, s6, s7, x1, x2, ob_t, lt_T, u8900_0, u8900_3i, u8900_3r, u8900_4, u8900_7, u8900_8, u8900_11i, u8900_11r, u8900_12, u8900_15, u8900_16, u8900_17, u8900_19, u8900_20, u8900_21, ki_1, decide_eq_true_eq, if_true, if_false, f2_ne, f2_eq, up_ne, up_eq, kc_int, kc_ref, kc_retAddr, kc_long, kc_double, af_n, af_v, z0, z1, n_of, nz6, nz4, bI_T, bI_F, bI_01, n_lt, n_le, n_eq, n_add, n_mul, n_sub, n_clamp, n_vp, m_lt, m_le, m_eq, m_eq2, m_ltm, m_add, true_and, and_true, eq_self, if_pos, if_neg, List.length_nil, List.length_cons, Nat.reduceAdd, Nat.reduceLeDiff, Nat.zero_le, not_true_eq_false, not_false_eq_true, true_or, or_true]
  rw [shE_SH]
  rfl
theorem and63 (x : Int32) : ∃ n, n < 64 ∧ x &&& nI 63 = nI n := by
  refine ⟨(x.toBitVec &&& 63#32).toNat, ?_, ?_⟩
  · rw [BitVec.toNat_and]
    exact Nat.lt_succ_of_le Nat.and_le_right
  · rw [← Int32.toBitVec_inj, Int32.toBitVec_and]
    show x.toBitVec &&& 63#32 = BitVec.ofNat 32 _
    rw [BitVec.ofNat_toNat, BitVec.setWidth_eq]
theorem lc_no {cl sl i : Nat} (c : gF F A G) (m : mG F A G) (hcl : 79 < cl) (hi : i + 5 ≤ X.1) (hN : X.1 ≤ 2560) : lwG X cl sl F A L i 2998 := by
  intro w5 w6 w7 w8
  refine ⟨cl, sl, F, A, L, G, w5, w6, w7, w8, ⟨hcl, by omega, by omega⟩, c, m, fun Q => ?_⟩
  simp (disch := omega) only [lwL, ki_5, u8900_2998, u8900_3001, decide_eq_true_eq, if_true, if_false, f2_ne, f2_eq, up_ne, up_eq, kc_int, kc_ref, kc_retAddr, kc_long, kc_double, af_n, af_v, z0, z1, n_of, nz6, nz4, bI_T, bI_F, bI_01, n_lt, n_le, n_eq, n_add, n_mul, n_sub, n_clamp, n_vp, m_lt, m_le, m_eq, m_eq2, m_ltm, m_add, true_and, and_true, eq_self, if_pos, if_neg, List.length_nil, List.length_cons, Nat.reduceAdd, Nat.reduceLeDiff, Nat.zero_le, not_true_eq_false, not_false_eq_true, true_or, or_true]
theorem law_all {cl sl i n : Nat} (hn : n < 64) (c : gF F A G) (m : mG F A G) (hcl : 79 < cl) (hi : i + 5 ≤ X.1) (hN : X.1 ≤ 2560) : ∃ pc, lwG X cl sl F A L i pc ∧ ∀ {lc r : List Value} {st : am_S} {K : am_K}, am_ts 2998 0 57 #[284, 340, 353, 366, 410, 490, 534, 590, 634, 678, 722, 778, 834, 890, 946, 1002, 1058, 1154, 1198, 1273, 1341, 1354, 1367, 1380, 1393, 1406, 1474, 1549, 1562, 1642, 1710, 1790, 1882, 1923, 1936, 1992, 2048, 2061, 2124, 2180, 2193, 2206, 2219, 2232, 2307, 2363, 2431, 2499, 2555, 2623, 2691, 2759, 2815, 2871, 2884, 2897, 2910, 2954] lc (.int (nI n) :: r) st K = K pc lc r st :=
  match n, hn with
  | 0, _ => ⟨284, lc_0 c m hcl hi hN, ts_in (t := 284) (by decide) (by decide) (by decide) rfl⟩
  | 1, _ => ⟨340, lc_1 c m hcl hi hN, ts_in (t := 340) (by decide) (by decide) (by decide) rfl⟩
  | 2, _ => ⟨353, lc_2 c m hcl hi hN, ts_in (t := 353) (by decide) (by decide) (by decide) rfl⟩
  | 3, _ => ⟨366, lc_3 c m hcl hi hN, ts_in (t := 366) (by decide) (by decide) (by decide) rfl⟩
  | 4, _ => ⟨410, lc_4 c m hcl hi hN, ts_in (t := 410) (by decide) (by decide) (by decide) rfl⟩
  | 5, _ => ⟨490, lc_5 c m hcl hi hN, ts_in (t := 490) (by decide) (by decide) (by decide) rfl⟩
  | 6, _ => ⟨534, lc_6 c m hcl hi hN, ts_in (t := 534) (by decide) (by decide) (by decide) rfl⟩
  | 7, _ => ⟨590, lc_7 c m hcl hi hN, ts_in (t := 590) (by decide) (by decide) (by decide) rfl⟩
  | 8, _ => ⟨634, lc_8 c m hcl hi hN, ts_in (t := 634) (by decide) (by decide) (by decide) rfl⟩
  | 9, _ => ⟨678, lc_9 c m hcl hi hN, ts_in (t := 678) (by decide) (by decide) (by decide) rfl⟩
  | 10, _ => ⟨722, lc_10 c m hcl hi hN, ts_in (t := 722) (by decide) (by decide) (by decide) rfl⟩
  | 11, _ => ⟨778, lc_11 c m hcl hi hN, ts_in (t := 778) (by decide) (by decide) (by decide) rfl⟩
  | 12, _ => ⟨834, lc_12 c m hcl hi hN, ts_in (t := 834) (by decide) (by decide) (by decide) rfl⟩
  | 13, _ => ⟨890, lc_13 c m hcl hi hN, ts_in (t := 890) (by decide) (by decide) (by decide) rfl⟩
  | 14, _ => ⟨946, lc_14 c m hcl hi hN, ts_in (t := 946) (by decide) (by decide) (by decide) rfl⟩
  | 15, _ => ⟨1002, lc_15 c m hcl hi hN, ts_in (t := 1002) (by decide) (by decide) (by decide) rfl⟩
  | 16, _ => ⟨1058, lc_16 c m hcl hi hN, ts_in (t := 1058) (by decide) (by decide) (by decide) rfl⟩
  | 17, _ => ⟨1154, lc_17 c m hcl hi hN, ts_in (t := 1154) (by decide) (by decide) (by decide) rfl⟩
  | 18, _ => ⟨1198, lc_18 c m hcl hi hN, ts_in (t := 1198) (by decide) (by decide) (by decide) rfl⟩
  | 19, _ => ⟨1273, lc_19 c m hcl hi hN, ts_in (t := 1273) (by decide) (by decide) (by decide) rfl⟩
  | 20, _ => ⟨1341, lc_20 c m hcl hi hN, ts_in (t := 1341) (by decide) (by decide) (by decide) rfl⟩
  | 21, _ => ⟨1354, lc_21 c m hcl hi hN, ts_in (t := 1354) (by decide) (by decide) (by decide) rfl⟩
  | 22, _ => ⟨1367, lc_22 c m hcl hi hN, ts_in (t := 1367) (by decide) (by decide) (by decide) rfl⟩
  | 23, _ => ⟨1380, lc_23 c m hcl hi hN, ts_in (t := 1380) (by decide) (by decide) (by decide) rfl⟩
  | 24, _ => ⟨1393, lc_24 c m hcl hi hN, ts_in (t := 1393) (by decide) (by decide) (by decide) rfl⟩
  | 25, _ => ⟨1406, lc_25 c m hcl hi hN, ts_in (t := 1406) (by decide) (by decide) (by decide) rfl⟩
  | 26, _ => ⟨1474, lc_26 c m hcl hi hN, ts_in (t := 1474) (by decide) (by decide) (by decide) rfl⟩
  | 27, _ => ⟨1549, lc_27 c m hcl hi hN, ts_in (t := 1549) (by decide) (by decide) (by decide) rfl⟩
  | 28, _ => ⟨1562, lc_28 c m hcl hi hN, ts_in (t := 1562) (by decide) (by decide) (by decide) rfl⟩
  | 29, _ => ⟨1642, lc_29 c m hcl hi hN, ts_in (t := 1642) (by decide) (by decide) (by decide) rfl⟩
  | 30, _ => ⟨1710, lc_30 c m hcl hi hN, ts_in (t := 1710) (by decide) (by decide) (by decide) rfl⟩
  | 31, _ => ⟨1790, lc_31 c m hcl hi hN, ts_in (t := 1790) (by decide) (by decide) (by decide) rfl⟩
  | 32, _ => ⟨1882, lc_32 c m hcl hi hN, ts_in (t := 1882) (by decide) (by decide) (by decide) rfl⟩
  | 33, _ => ⟨1923, lc_33 c m hcl hi hN, ts_in (t := 1923) (by decide) (by decide) (by decide) rfl⟩
  | 34, _ => ⟨1936, lc_34 c m hcl hi hN, ts_in (t := 1936) (by decide) (by decide) (by decide) rfl⟩
  | 35, _ => ⟨1992, lc_35 c m hcl hi hN, ts_in (t := 1992) (by decide) (by decide) (by decide) rfl⟩
  | 36, _ => ⟨2048, lc_36 c m hcl hi hN, ts_in (t := 2048) (by decide) (by decide) (by decide) rfl⟩
  | 37, _ => ⟨2061, lc_37 c m hcl hi hN, ts_in (t := 2061) (by decide) (by decide) (by decide) rfl⟩
  | 38, _ => ⟨2124, lc_38 c m hcl hi hN, ts_in (t := 2124) (by decide) (by decide) (by decide) rfl⟩
  | 39, _ => ⟨2180, lc_39 c m hcl hi hN, ts_in (t := 2180) (by decide) (by decide) (by decide) rfl⟩
  | 40, _ => ⟨2193, lc_40 c m hcl hi hN, ts_in (t := 2193) (by decide) (by decide) (by decide) rfl⟩
  | 41, _ => ⟨2206, lc_41 c m hcl hi hN, ts_in (t := 2206) (by decide) (by decide) (by decide) rfl⟩
  | 42, _ => ⟨2219, lc_42 c m hcl hi hN, ts_in (t := 2219) (by decide) (by decide) (by decide) rfl⟩
  | 43, _ => ⟨2232, lc_43 c m hcl hi hN, ts_in (t := 2232) (by decide) (by decide) (by decide) rfl⟩
  | 44, _ => ⟨2307, lc_44 c m hcl hi hN, ts_in (t := 2307) (by decide) (by decide) (by decide) rfl⟩
  | 45, _ => ⟨2363, lc_45 c m hcl hi hN, ts_in (t := 2363) (by decide) (by decide) (by decide) rfl⟩
  | 46, _ => ⟨2431, lc_46 c m hcl hi hN, ts_in (t := 2431) (by decide) (by decide) (by decide) rfl⟩
  | 47, _ => ⟨2499, lc_47 c m hcl hi hN, ts_in (t := 2499) (by decide) (by decide) (by decide) rfl⟩
  | 48, _ => ⟨2555, lc_48 c m hcl hi hN, ts_in (t := 2555) (by decide) (by decide) (by decide) rfl⟩
  | 49, _ => ⟨2623, lc_49 c m hcl hi hN, ts_in (t := 2623) (by decide) (by decide) (by decide) rfl⟩
  | 50, _ => ⟨2691, lc_50 c m hcl hi hN, ts_in (t := 2691) (by decide) (by decide) (by decide) rfl⟩
  | 51, _ => ⟨2759, lc_51 c m hcl hi hN, ts_in (t := 2759) (by decide) (by decide) (by decide) rfl⟩
  | 52, _ => ⟨2815, lc_52 c m hcl hi hN, ts_in (t := 2815) (by decide) (by decide) (by decide) rfl⟩
  | 53, _ => ⟨2871, lc_53 c m hcl hi hN, ts_in (t := 2871) (by decide) (by decide) (by decide) rfl⟩
  | 54, _ => ⟨2884, lc_54 c m hcl hi hN, ts_in (t := 2884) (by decide) (by decide) (by decide) rfl⟩
  | 55, _ => ⟨2897, lc_55 c m hcl hi hN, ts_in (t := 2897) (by decide) (by decide) (by decide) rfl⟩
  | 56, _ => ⟨2910, lc_56 c m hcl hi hN, ts_in (t := 2910) (by decide) (by decide) (by decide) rfl⟩
  | 57, _ => ⟨2954, lc_57 c m hcl hi hN, ts_in (t := 2954) (by decide) (by decide) (by decide) rfl⟩
  | k + 58, h => ⟨2998, lc_no c m hcl hi hN, ts_out (by omega) (by omega)⟩
theorem law_head {cl sl i : Nat} {w5 w6 w7 w8 : Value} (hi : i + 5 ≤ X.1) (hN : X.1 ≤ 2560) : am_g 10 X am_m8900 23 (lwL i w5 w6 w7 w8) [] (am_Z cl sl F A L) Q = am_ts 2998 0 57 #[284, 340, 353, 366, 410, 490, 534, 590, 634, 678, 722, 778, 834, 890, 946, 1002, 1058, 1154, 1198, 1273, 1341, 1354, 1367, 1380, 1393, 1406, 1474, 1549, 1562, 1642, 1710, 1790, 1882, 1923, 1936, 1992, 2048, 2061, 2124, 2180, 2193, 2206, 2219, 2232, 2307, 2363, 2431, 2499, 2555, 2623, 2691, 2759, 2815, 2871, 2884, 2897, 2910, 2954] (lwL i w5 w6 w7 w8) [.int (X.2.1 i &&& nI 63)] (am_Z cl sl F A L) (fun pc lc sk st => am_g 10 X am_m8900 pc lc sk st Q) := by
  rw [show am_g 10 X am_m8900 23 (lwL i w5 w6 w7 w8) [] (am_Z cl sl F A L) Q = am_g 10 X am_m8900 23 [.retAddr 0, .ref 0, .ref 70, .ref 78, .int (nI i), w5, w6, w7, w8] [] (am_Z cl sl F A L) Q from rfl]
  simp (disch := omega) only [al_s, xl_s, u8900_23, u8900_25, u8900_26, u8900_27, u8900_28, u8900_29, u8900_32, u8900_33, u8900_35, u8900_36, u8900_38, ki_5, ki_63, decide_eq_true_eq, if_true, if_false, f2_ne, f2_eq, up_ne, up_eq, kc_int, kc_ref, kc_retAddr, kc_long, kc_double, af_n, af_v, z0, z1, n_of, nz6, nz4, bI_T, bI_F, bI_01, n_lt, n_le, n_eq, n_add, n_mul, n_sub, n_clamp, n_vp, m_lt, m_le, m_eq, m_eq2, m_ltm, m_add, true_and, and_true, eq_self, if_pos, if_neg, List.length_nil, List.length_cons, Nat.reduceAdd, Nat.reduceLeDiff, Nat.zero_le, not_true_eq_false, not_false_eq_true, true_or, or_true]
  exact u8900_39
theorem law_end {cl sl i : Nat} {w5 w6 w7 w8 : Value} (hi : X.1 < i + 5) (hN : X.1 ≤ 2560) (h5 : 5 ≤ X.1) (hi2 : i ≤ 2560) : am_g 10 X am_m8900 23 (lwL i w5 w6 w7 w8) [] (am_Z cl sl F A L) Q = Q (.inl (some (.int (nI 1)))) (am_Z cl sl F A L) := by
  rw [show am_g 10 X am_m8900 23 (lwL i w5 w6 w7 w8) [] (am_Z cl sl F A L) Q = am_g 10 X am_m8900 23 [.retAddr 0, .ref 0, .ref 70, .ref 78, .int (nI i), w5, w6, w7, w8] [] (am_Z cl sl F A L) Q from rfl]
  simp (disch := omega) only [al_s, xl_s, u8900_23, u8900_25, u8900_26, u8900_27, u8900_28, u8900_29, u8900_3004, u8900_3005, ki_5, ki_1, decide_eq_true_eq, if_true, if_false, f2_ne, f2_eq, up_ne, up_eq, kc_int, kc_ref, kc_retAddr, kc_long, kc_double, af_n, af_v, z0, z1, n_of, nz6, nz4, bI_T, bI_F, bI_01, n_lt, n_le, n_eq, n_add, n_mul, n_sub, n_clamp, n_vp, m_lt, m_le, m_eq, m_eq2, m_ltm, m_add, true_and, and_true, eq_self, if_pos, if_neg, List.length_nil, List.length_cons, Nat.reduceAdd, Nat.reduceLeDiff, Nat.zero_le, not_true_eq_false, not_false_eq_true, true_or, or_true]
theorem law_end0 {cl sl : Nat} {w5 w6 w7 w8 : Value} (hi : X.1 < 5) : am_g 10 X am_m8900 23 (lwL 0 w5 w6 w7 w8) [] (am_Z cl sl F A L) Q = Q (.inl (some (.int (nI 1)))) (am_Z cl sl F A L) := by
  have hx : ∀ k, k < 5 → nI k - nI 5 < nI 0 := by decide
  have hy := eq_true (hx X.1 hi)
  rw [show am_g 10 X am_m8900 23 (lwL 0 w5 w6 w7 w8) [] (am_Z cl sl F A L) Q = am_g 10 X am_m8900 23 [.retAddr 0, .ref 0, .ref 70, .ref 78, .int (nI 0), w5, w6, w7, w8] [] (am_Z cl sl F A L) Q from rfl]
  simp (disch := omega) only [al_s, xl_s, hy, u8900_23, u8900_25, u8900_26, u8900_27, u8900_28, u8900_29, u8900_3004, u8900_3005, ki_5, ki_1, decide_eq_true_eq, if_true, if_false, f2_ne, f2_eq, up_ne, up_eq, kc_int, kc_ref, kc_retAddr, kc_long, kc_double, af_n, af_v, z0, z1, n_of, nz6, nz4, bI_T, bI_F, bI_01, n_lt, n_le, n_eq, n_add, n_mul, n_sub, n_clamp, n_vp, m_lt, m_le, m_eq, m_eq2, m_ltm, m_add, true_and, and_true, eq_self, if_pos, if_neg, List.length_nil, List.length_cons, Nat.reduceAdd, Nat.reduceLeDiff, Nat.zero_le, not_true_eq_false, not_false_eq_true, true_or, or_true]
theorem law_loop (hN : X.1 ≤ 2560) (h5 : 5 ≤ X.1) : ∀ (k i cl sl : Nat) (F A : Nat → Nat → Int32) (L : Nat → Nat → Int64) (G : Fu) (w5 w6 w7 w8 : Value), X.1 < i + 5 * k + 5 → i ≤ 2560 → gF F A G → mG F A G → 79 < cl → cl ≤ 80 + i → sl ≤ 30000 + 6 * i → am_g 10 X am_m8900 23 (lwL i w5 w6 w7 w8) [] (am_Z cl sl F A L) am_Q0 := by
  intro k
  induction k with
  | zero =>
    intro i cl sl F A L G w5 w6 w7 w8 h1 h2 c m h3 h4 h6
    rw [law_end (by omega) hN h5 h2]
    exact ⟨rfl, by show cl ≤ 601024; omega, by show sl ≤ 7293034; omega⟩
  | succ k ih =>
    intro i cl sl F A L G w5 w6 w7 w8 h1 h2 c m h3 h4 h6
    by_cases hi : i + 5 ≤ X.1
    · obtain ⟨n, hn, e⟩ := and63 (X.2.1 i)
      obtain ⟨pc, g, hts⟩ := law_all (L := L) (cl := cl) (sl := sl) hn c m h3 hi hN
      obtain ⟨cl2, sl2, F2, A2, L2, G2, v5, v6, v7, v8, ⟨b1, b2, b3⟩, c2, m2, e2⟩ := g w5 w6 w7 w8
      rw [law_head hi hN, e, hts, e2]
      exact ih (i + 5) cl2 sl2 F2 A2 L2 G2 v5 v6 v7 v8 (by omega) (by omega) c2 m2 b1 (by omega) (by omega)
    · rw [law_end (by omega) hN h5 h2]
      exact ⟨rfl, by show cl ≤ 601024; omega, by show sl ≤ 7293034; omega⟩
end LG
theorem law_go {N : Nat} {xs : Nat → Int32} (hN : N ≤ 2560) : am_Go (am_Ca (N, xs, 10) 10) (N, xs, 10) am_m8900 0 am_l0 [] am_s0 am_Q0 := by
  show am_g 10 (N, xs, 10) am_m8900 0 am_l0 [] am_s0 am_Q0
  rw [law_init]
  by_cases h5 : 5 ≤ N
  · exact law_loop (X := (N, xs, 10)) hN h5 512 0 80 23187 fD aE lE G0 am_u am_u am_u am_u (by show N < _; omega) (by omega) gF_0 mG_0 (by omega) (by omega) (by omega)
  · rw [law_end0 (show (N, xs, 10).1 < 5 by show N < 5; omega)]
    exact ⟨rfl, by show 80 ≤ 601024; omega, by show 23187 ≤ 7293034; omega⟩
