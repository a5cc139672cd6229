theorem am_k8042_0 : (((am_tb am_m8042).drop 0).take 25).all (am_ckb am_m8042) = true := by decide +kernel
theorem am_k8042_1 : (((am_tb am_m8042).drop 25).take 25).all (am_ckb am_m8042) = true := by decide +kernel
theorem am_k8042_2 : (((am_tb am_m8042).drop 50).take 25).all (am_ckb am_m8042) = true := by decide +kernel
theorem am_k8042_3 : (((am_tb am_m8042).drop 75).take 25).all (am_ckb am_m8042) = true := by decide +kernel
theorem am_k8042_4 : (((am_tb am_m8042).drop 100).take 25).all (am_ckb am_m8042) = true := by decide +kernel
theorem am_k8042_5 : (((am_tb am_m8042).drop 125).take 25).all (am_ckb am_m8042) = true := by decide +kernel
theorem am_k8042_6 : (((am_tb am_m8042).drop 150).take 25).all (am_ckb am_m8042) = true := by decide +kernel
theorem am_k8042_7 : (((am_tb am_m8042).drop 175).take 25).all (am_ckb am_m8042) = true := by decide +kernel
theorem am_k8042_8 : (((am_tb am_m8042).drop 200).take 25).all (am_ckb am_m8042) = true := by decide +kernel
theorem am_k8042_9 : (((am_tb am_m8042).drop 225).take 25).all (am_ckb am_m8042) = true := by decide +kernel
theorem am_k8042_10 : (((am_tb am_m8042).drop 250).take 25).all (am_ckb am_m8042) = true := by decide +kernel
theorem am_k8042_11 : (((am_tb am_m8042).drop 275).take 25).all (am_ckb am_m8042) = true := by decide +kernel
theorem am_k8042_12 : (((am_tb am_m8042).drop 300).take 25).all (am_ckb am_m8042) = true := by decide +kernel
theorem am_k8042_13 : (((am_tb am_m8042).drop 325).take 25).all (am_ckb am_m8042) = true := by decide +kernel
theorem am_k8042_14 : (((am_tb am_m8042).drop 350).take 25).all (am_ckb am_m8042) = true := by decide +kernel
theorem am_k8042_15 : (((am_tb am_m8042).drop 375).take 25).all (am_ckb am_m8042) = true := by decide +kernel
theorem am_k8042_16 : (((am_tb am_m8042).drop 400).take 25).all (am_ckb am_m8042) = true := by decide +kernel
theorem am_k8042_e : (am_tb am_m8042).drop 425 = [] := by decide +kernel
theorem am_k8042 : (am_tb am_m8042).all (am_ckb am_m8042) = true ∧ am_hck am_m8042 = true := ⟨am_cutq 17 _ (fun j hj => by
    match j, hj with
    | 0, _ => exact am_k8042_0
    | 1, _ => exact am_k8042_1
    | 2, _ => exact am_k8042_2
    | 3, _ => exact am_k8042_3
    | 4, _ => exact am_k8042_4
    | 5, _ => exact am_k8042_5
    | 6, _ => exact am_k8042_6
    | 7, _ => exact am_k8042_7
    | 8, _ => exact am_k8042_8
    | 9, _ => exact am_k8042_9
    | 10, _ => exact am_k8042_10
    | 11, _ => exact am_k8042_11
    | 12, _ => exact am_k8042_12
    | 13, _ => exact am_k8042_13
    | 14, _ => exact am_k8042_14
    | 15, _ => exact am_k8042_15
    | 16, _ => exact am_k8042_16
    | j + 17, hj => exact absurd hj (by omega)) am_k8042_e, by decide +kernel⟩
