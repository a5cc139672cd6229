theorem am_k8900_0 : (((am_tb am_m8900).drop 0).take 25).all (am_ckb am_m8900) = true := by decide +kernel
theorem am_k8900_1 : (((am_tb am_m8900).drop 25).take 25).all (am_ckb am_m8900) = true := by decide +kernel
theorem am_k8900_2 : (((am_tb am_m8900).drop 50).take 25).all (am_ckb am_m8900) = true := by decide +kernel
theorem am_k8900_3 : (((am_tb am_m8900).drop 75).take 25).all (am_ckb am_m8900) = true := by decide +kernel
theorem am_k8900_4 : (((am_tb am_m8900).drop 100).take 25).all (am_ckb am_m8900) = true := by decide +kernel
theorem am_k8900_5 : (((am_tb am_m8900).drop 125).take 25).all (am_ckb am_m8900) = true := by decide +kernel
theorem am_k8900_6 : (((am_tb am_m8900).drop 150).take 25).all (am_ckb am_m8900) = true := by decide +kernel
theorem am_k8900_e : (am_tb am_m8900).drop 175 = [] := by decide +kernel
theorem am_k8900 : (am_tb am_m8900).all (am_ckb am_m8900) = true ∧ am_hck am_m8900 = true := ⟨am_cutq 7 _ (fun j hj => by
    match j, hj with
    | 0, _ => exact am_k8900_0
    | 1, _ => exact am_k8900_1
    | 2, _ => exact am_k8900_2
    | 3, _ => exact am_k8900_3
    | 4, _ => exact am_k8900_4
    | 5, _ => exact am_k8900_5
    | 6, _ => exact am_k8900_6
    | j + 7, hj => exact absurd hj (by omega)) am_k8900_e, by decide +kernel⟩
