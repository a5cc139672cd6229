theorem am_k8039_0 : (((am_tb am_m8039).drop 0).take 25).all (am_ckb am_m8039) = true := by decide +kernel
theorem am_k8039_1 : (((am_tb am_m8039).drop 25).take 25).all (am_ckb am_m8039) = true := by decide +kernel
theorem am_k8039_2 : (((am_tb am_m8039).drop 50).take 25).all (am_ckb am_m8039) = true := by decide +kernel
theorem am_k8039_3 : (((am_tb am_m8039).drop 75).take 25).all (am_ckb am_m8039) = true := by decide +kernel
theorem am_k8039_4 : (((am_tb am_m8039).drop 100).take 25).all (am_ckb am_m8039) = true := by decide +kernel
theorem am_k8039_5 : (((am_tb am_m8039).drop 125).take 25).all (am_ckb am_m8039) = true := by decide +kernel
theorem am_k8039_6 : (((am_tb am_m8039).drop 150).take 25).all (am_ckb am_m8039) = true := by decide +kernel
theorem am_k8039_7 : (((am_tb am_m8039).drop 175).take 25).all (am_ckb am_m8039) = true := by decide +kernel
theorem am_k8039_8 : (((am_tb am_m8039).drop 200).take 25).all (am_ckb am_m8039) = true := by decide +kernel
theorem am_k8039_9 : (((am_tb am_m8039).drop 225).take 25).all (am_ckb am_m8039) = true := by decide +kernel
theorem am_k8039_10 : (((am_tb am_m8039).drop 250).take 25).all (am_ckb am_m8039) = true := by decide +kernel
theorem am_k8039_11 : (((am_tb am_m8039).drop 275).take 25).all (am_ckb am_m8039) = true := by decide +kernel
theorem am_k8039_12 : (((am_tb am_m8039).drop 300).take 25).all (am_ckb am_m8039) = true := by decide +kernel
theorem am_k8039_13 : (((am_tb am_m8039).drop 325).take 25).all (am_ckb am_m8039) = true := by decide +kernel
theorem am_k8039_14 : (((am_tb am_m8039).drop 350).take 25).all (am_ckb am_m8039) = true := by decide +kernel
theorem am_k8039_15 : (((am_tb am_m8039).drop 375).take 25).all (am_ckb am_m8039) = true := by decide +kernel
theorem am_k8039_e : (am_tb am_m8039).drop 400 = [] := by decide +kernel
theorem am_k8039 : (am_tb am_m8039).all (am_ckb am_m8039) = true ∧ am_hck am_m8039 = true := ⟨am_cutq 16 _ (fun j hj => by
    match j, hj with
    | 0, _ => exact am_k8039_0
    | 1, _ => exact am_k8039_1
    | 2, _ => exact am_k8039_2
    | 3, _ => exact am_k8039_3
    | 4, _ => exact am_k8039_4
    | 5, _ => exact am_k8039_5
    | 6, _ => exact am_k8039_6
    | 7, _ => exact am_k8039_7
    | 8, _ => exact am_k8039_8
    | 9, _ => exact am_k8039_9
    | 10, _ => exact am_k8039_10
    | 11, _ => exact am_k8039_11
    | 12, _ => exact am_k8039_12
    | 13, _ => exact am_k8039_13
    | 14, _ => exact am_k8039_14
    | 15, _ => exact am_k8039_15
    | j + 16, hj => exact absurd hj (by omega)) am_k8039_e, by decide +kernel⟩
