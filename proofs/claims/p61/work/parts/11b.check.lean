theorem am_cutq {p : am_I → Bool} : ∀ (q : Nat) (l : List am_I), (∀ j, j < q → ((l.drop (25 * j)).take 25).all p = true) → l.drop (25 * q) = [] → l.all p = true := by
  intro q
  induction q with
  | zero =>
    intro l _ h
    rw [show l = [] from h]
    rfl
  | succ q ih =>
    intro l h he
    rw [← List.take_append_drop 25 l, List.all_append, Bool.and_eq_true]
    refine ⟨h 0 (Nat.zero_lt_succ q), ih _ (fun j hj => ?_) ?_⟩
    · rw [List.drop_drop]
      have := h (j + 1) (Nat.succ_lt_succ hj)
      rwa [show 25 * (j + 1) = 25 + 25 * j by omega] at this
    · rw [List.drop_drop, show 25 + 25 * q = 25 * (q + 1) by omega]
      exact he
theorem am_k8038_0 : (((am_tb am_m8038).drop 0).take 25).all (am_ckb am_m8038) = true := by decide +kernel
theorem am_k8038_1 : (((am_tb am_m8038).drop 25).take 25).all (am_ckb am_m8038) = true := by decide +kernel
theorem am_k8038_2 : (((am_tb am_m8038).drop 50).take 25).all (am_ckb am_m8038) = true := by decide +kernel
theorem am_k8038_3 : (((am_tb am_m8038).drop 75).take 25).all (am_ckb am_m8038) = true := by decide +kernel
theorem am_k8038_4 : (((am_tb am_m8038).drop 100).take 25).all (am_ckb am_m8038) = true := by decide +kernel
theorem am_k8038_5 : (((am_tb am_m8038).drop 125).take 25).all (am_ckb am_m8038) = true := by decide +kernel
theorem am_k8038_6 : (((am_tb am_m8038).drop 150).take 25).all (am_ckb am_m8038) = true := by decide +kernel
theorem am_k8038_7 : (((am_tb am_m8038).drop 175).take 25).all (am_ckb am_m8038) = true := by decide +kernel
theorem am_k8038_8 : (((am_tb am_m8038).drop 200).take 25).all (am_ckb am_m8038) = true := by decide +kernel
theorem am_k8038_9 : (((am_tb am_m8038).drop 225).take 25).all (am_ckb am_m8038) = true := by decide +kernel
theorem am_k8038_10 : (((am_tb am_m8038).drop 250).take 25).all (am_ckb am_m8038) = true := by decide +kernel
theorem am_k8038_11 : (((am_tb am_m8038).drop 275).take 25).all (am_ckb am_m8038) = true := by decide +kernel
theorem am_k8038_12 : (((am_tb am_m8038).drop 300).take 25).all (am_ckb am_m8038) = true := by decide +kernel
theorem am_k8038_13 : (((am_tb am_m8038).drop 325).take 25).all (am_ckb am_m8038) = true := by decide +kernel
theorem am_k8038_14 : (((am_tb am_m8038).drop 350).take 25).all (am_ckb am_m8038) = true := by decide +kernel
theorem am_k8038_15 : (((am_tb am_m8038).drop 375).take 25).all (am_ckb am_m8038) = true := by decide +kernel
theorem am_k8038_16 : (((am_tb am_m8038).drop 400).take 25).all (am_ckb am_m8038) = true := by decide +kernel
theorem am_k8038_e : (am_tb am_m8038).drop 425 = [] := by decide +kernel
theorem am_k8038 : (am_tb am_m8038).all (am_ckb am_m8038) = true ∧ am_hck am_m8038 = true := ⟨am_cutq 17 _ (fun j hj => by
    match j, hj with
    | 0, _ => exact am_k8038_0
    | 1, _ => exact am_k8038_1
    | 2, _ => exact am_k8038_2
    | 3, _ => exact am_k8038_3
    | 4, _ => exact am_k8038_4
    | 5, _ => exact am_k8038_5
    | 6, _ => exact am_k8038_6
    | 7, _ => exact am_k8038_7
    | 8, _ => exact am_k8038_8
    | 9, _ => exact am_k8038_9
    | 10, _ => exact am_k8038_10
    | 11, _ => exact am_k8038_11
    | 12, _ => exact am_k8038_12
    | 13, _ => exact am_k8038_13
    | 14, _ => exact am_k8038_14
    | 15, _ => exact am_k8038_15
    | 16, _ => exact am_k8038_16
    | j + 17, hj => exact absurd hj (by omega)) am_k8038_e, by decide +kernel⟩
