theorem am_k8041_0 : (((am_tb am_m8041).drop 0).take 25).all (am_ckb am_m8041) = true := by decide +kernel
theorem am_k8041_1 : (((am_tb am_m8041).drop 25).take 25).all (am_ckb am_m8041) = true := by decide +kernel
theorem am_k8041_2 : (((am_tb am_m8041).drop 50).take 25).all (am_ckb am_m8041) = true := by decide +kernel
theorem am_k8041_3 : (((am_tb am_m8041).drop 75).take 25).all (am_ckb am_m8041) = true := by decide +kernel
theorem am_k8041_4 : (((am_tb am_m8041).drop 100).take 25).all (am_ckb am_m8041) = true := by decide +kernel
theorem am_k8041_5 : (((am_tb am_m8041).drop 125).take 25).all (am_ckb am_m8041) = true := by decide +kernel
theorem am_k8041_6 : (((am_tb am_m8041).drop 150).take 25).all (am_ckb am_m8041) = true := by decide +kernel
theorem am_k8041_7 : (((am_tb am_m8041).drop 175).take 25).all (am_ckb am_m8041) = true := by decide +kernel
theorem am_k8041_8 : (((am_tb am_m8041).drop 200).take 25).all (am_ckb am_m8041) = true := by decide +kernel
theorem am_k8041_9 : (((am_tb am_m8041).drop 225).take 25).all (am_ckb am_m8041) = true := by decide +kernel
theorem am_k8041_10 : (((am_tb am_m8041).drop 250).take 25).all (am_ckb am_m8041) = true := by decide +kernel
theorem am_k8041_11 : (((am_tb am_m8041).drop 275).take 25).all (am_ckb am_m8041) = true := by decide +kernel
theorem am_k8041_e : (am_tb am_m8041).drop 300 = [] := by decide +kernel
theorem am_k8041 : (am_tb am_m8041).all (am_ckb am_m8041) = true ∧ am_hck am_m8041 = true := ⟨am_cutq 12 _ (fun j hj => by
    match j, hj with
    | 0, _ => exact am_k8041_0
    | 1, _ => exact am_k8041_1
    | 2, _ => exact am_k8041_2
    | 3, _ => exact am_k8041_3
    | 4, _ => exact am_k8041_4
    | 5, _ => exact am_k8041_5
    | 6, _ => exact am_k8041_6
    | 7, _ => exact am_k8041_7
    | 8, _ => exact am_k8041_8
    | 9, _ => exact am_k8041_9
    | 10, _ => exact am_k8041_10
    | 11, _ => exact am_k8041_11
    | j + 12, hj => exact absurd hj (by omega)) am_k8041_e, by decide +kernel⟩
