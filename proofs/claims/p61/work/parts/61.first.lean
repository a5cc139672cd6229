/-! THE FIRST STATE -/
def shA : Nat → am_D := va_up (fun _ => (9, 0, [])) 0 (0, 6, [some none, some none, some none, some none, none])
def shB : Nat → am_D := is_6001 shA 0 1
def fA : Nat → Nat → Int32 := va_up (fun _ _ => nI 0) 0 (fun _ => nI 0)
def fB : Nat → Nat → Int32 := if_6001 fA 0 1
def aB : Nat → Nat → Int32 := ia_6001 (fun _ _ => nI 0) 1
def lB : Nat → Nat → Int64 := il_6001 (fun _ _ => 0) 1
theorem shB_lo : ∀ k, k < 70 → shB k = SH k := by decide +kernel
theorem shB_SH : shB = SH := by
  funext k
  by_cases h : k < 70
  · exact shB_lo k h
  · have e1 : SH k = (9, 0, []) := by
      unfold SH
      rw [List.getD_eq_getElem?_getD, List.getElem?_eq_none (by show 70 ≤ k; omega)]
      rfl
    rw [e1]
    unfold shB
    rw [is_6001_ne (by omega) (by omega)]
    unfold shA
    rw [up_ne (by omega)]
def S0 : Ab := mkA 1 0 0 0 0 0 (fun _ => 0) (fun _ => 0) (va_up (fun _ => 0) 0 1) (fun _ => 0) (fun _ => 0) (fun _ => 0) (fun _ _ => 0) (fun _ _ => 0)
def G0 : Fu := mkG S0 0 (fun _ => S0) 0 S0 0 (fun _ => 0)
theorem wS_0 : wS S0 := by
  refine wS.mk (Nat.le_refl 1) (by decide) (fun c hc => ⟨Nat.zero_le _, Nat.zero_le _⟩) (fun c hc h => ?_) (fun b hb => ?_) (by decide) ?_ (by decide) (Nat.zero_le _) (Nat.zero_le _) (fun j hj => absurd hj (Nat.not_lt_zero j)) (fun _ _ _ _ => by show 0 < 100; decide) (fun _ _ => by show 0 < 100; decide) (fun _ _ => Nat.zero_le _) (fun j hj => absurd hj (Nat.not_lt_zero j))
  · have hc' : c < 1 := hc
    omega
  · show va_up (fun _ => 0) 0 1 b ≤ 1
    unfold va_up
    split
    · exact Nat.le_refl 1
    · exact Nat.zero_le _
  · show va_up (fun _ => 0) 0 1 0 ≠ 0
    rw [up_eq]; decide
theorem cR_0 : cR fB aB 4 S0 := by
  have h1 : ∀ c, c < 1 → aB 5 c = m1 := by decide +kernel
  have h2 : ∀ c, c < 1 → aB 6 c = m1 := by decide +kernel
  have h3 : ∀ c, c < 1 → ∀ i, i < 24 → aB 7 (c * 24 + i) = nI 0 := by decide +kernel
  have h4 : ∀ b, b < 6 → aB 8 b = pk (va_up (fun _ => 0) 0 1 b) := by decide +kernel
  have h5 : ∀ i, i < 24 → aB 9 i = nI 0 := by decide +kernel
  have h6 : ∀ i, i < 24 → aB 10 i = m1 := by decide +kernel
  exact cR.mk (by decide +kernel) (by decide +kernel) (by decide +kernel) (by decide +kernel) (by decide +kernel) (by decide +kernel) h1 h2 h3 h4 h5 h6 (fun j hj => absurd hj (Nat.not_lt_zero j)) (fun j hj => absurd hj (Nat.not_lt_zero j))
theorem gF_0 : gF fB aB G0 := gF.mk cR_0 wS_0 ⟨Nat.zero_le _, by decide +kernel, 0, by decide, by decide +kernel, fun a ha => absurd ha (Nat.not_lt_zero a)⟩ ⟨by decide +kernel, Nat.zero_le _, fun i hi => absurd hi (Nat.not_lt_zero i)⟩ (by decide +kernel) (by decide) (fun e => absurd (show (0 : Nat) = 1 from e) (by decide))
theorem xI_0 : xI S0 := ⟨fun _ _ _ => rfl, fun c hc h => absurd (show c < 1 from hc) (by omega), fun i _ h => absurd rfl h, fun e => absurd (show (0 : Nat) = 1 from e) (by decide)⟩
theorem jG_0 : jG G0 := ⟨xI_0, fun a ha => absurd ha (Nat.not_lt_zero a), fun e => absurd (show (0 : Nat) = 1 from e) (by decide)⟩
section LF
variable {X : am_X} {Q : am_Q}
theorem law_init : ∃ s, Hs 71 G0 s ∧ ∀ Q, am_g 11 X am_m8900 0 am_l0 [] am_s0 Q = am_g 11 X am_m8900 12 [.retAddr 0, .ref 0, .long 0, am_u, am_u, am_u, am_u, am_u, am_u, am_u, am_u, am_u] [.int 0, .ref 0] s Q := by
  have e1 : ∀ {P : am_Q}, am_Ca X 11 6001 [.ref 0] (1, shA, 1, 5, fA, (fun _ _ => nI 0), (fun _ _ => 0)) P = P (.inl none) (70, shB, 70, 10641, fB, aB, lB) := fun {P} => i_6001 (d := 7) (X := X) (n := 1) (o := 0) (sl := 5) (F := fA) (A := fun _ _ => nI 0) (L := fun _ _ => 0) (by omega) (show shA 0 = _ from up_eq) (P := P)
  have s1 : va_up (fun _ => ((9, 0, []) : am_D)) 0 (0, 6, [some none, some none, some none, some none, none]) = shA := rfl
  have s2 : va_up (fun _ _ => nI 0) 0 (fun _ => nI 0) = fA := rfl
  have x1 : shA 0 = (0, 6, [some none, some none, some none, some none, none]) := up_eq
  refine ⟨am_Z 71 10641 fB aB lB, ⟨71, 10641, fB, aB, lB, rfl, gF_0, by omega, by omega, by omega⟩, fun Q => ?_⟩
  unfold am_l0 am_s0
  simp (disch := omega) only [nw_t, bk_6, sn_6, e1, s1, s2, x1, ob_t, lt_T, ↓reduceIte, u8900_0, u8900_3i, u8900_3r, u8900_4, u8900_7, u8900_8, u8900_9, u8900_10, u8900_11, u8900_15, u8900_18, u8900_19, u8900_22, u8900_24, u8900_27, u8900_28, u8900_31, u8900_33, u8900_36, u8900_37, u8900_40, u8900_41, u8900_43, u8900_44, u8900_46, u8900_48, u8900_50, u8900_53, u8900_55, u8900_58, u8900_59, u8900_60, u8900_62, u8900_63, u8900_66, u8900_68, u8900_69, u8900_70, u8900_72, u8900_73, u8900_74, u8900_75, u8900_78, u8900_80, u8900_81, u8900_84, u8900_86, u8900_88, u8900_90, u8900_93, u8900_95, u8900_98, u8900_99, u8900_102, u8900_103, u8900_105, u8900_106, u8900_108, u8900_110, u8900_113, u8900_116, u8900_118, u8900_119, u8900_120, u8900_123, u8900_124, u8900_126, u8900_127, u8900_128, u8900_131, u8900_134, u8900_135, u8900_138, u8900_139, u8900_141, u8900_143, u8900_146, u8900_148, u8900_151, u8900_152, u8900_155, u8900_157, u8900_158, u8900_161, u8900_163, u8900_165, u8900_166, u8900_167, u8900_170, u8900_173, u8900_174, u8900_177, u8900_180, u8900_181, u8900_184, u8900_186, u8900_187, u8900_190, u8900_191, u8900_194, u8900_195, u8900_197, u8900_199, u8900_202, u8900_204, u8900_206, u8900_207, u8900_209, u8900_212, u8900_213, u8900_216, u8900_217, u8900_220, u8900_223, u8900_224, u8900_227, u8900_228, u8900_230, u8900_231, u8900_234, u8900_235, u8900_237, u8900_240, u8900_242, u8900_244, u8900_245, u8900_247, u8900_250, u8900_251, u8900_254, u8900_255, u8900_258, u8900_261, u8900_262, u8900_265, u8900_266, u8900_267, u8900_270, u8900_271, u8900_274, u8900_275, u8900_277, u8900_279, u8900_282, u8900_284, u8900_286, u8900_287, u8900_289, u8900_292, u8900_293, u8900_296, u8900_298, u8900_300, u8900_302, u8900_305, u8900_307, u8900_310, u8900_312, u8900_313, u8900_316, u8900_317, u8900_320, u8900_321, u8900_323, u8900_326, u8900_329, u8900_331, u8900_334, u8900_335, u8900_337, u8900_340, u8900_343, u8900_344, u8900_347, u8900_348, ob_0, ki_m103, ki_0, ki_1, ki_10, ki_11, ki_17, ki_2, ki_20, ki_3, ki_37, ki_4, ki_40, ki_58, ki_7, ki_8, ki_9, af_x hd_8900, decide_eq_true_eq, if_true, if_false, f2_ne, f2_eq, up_ne, up_eq, kc_int, kc_ref, kc_retAddr, kc_long, kc_double, af_n, af_v, z0, z1, n_of, nz6, nz4, bI_T, bI_F, bI_01, n_lt, n_le, n_eq, n_add, n_mul, n_sub, n_clamp, n_vp, m_lt, m_le, m_eq, m_eq2, m_ltm, m_add, true_and, and_true, eq_self, if_pos, if_neg, List.length_nil, List.length_cons, Nat.reduceAdd, Nat.reduceLeDiff, Nat.zero_le, not_true_eq_false, not_false_eq_true, true_or, or_true]
  rw [shB_SH]
end LF
