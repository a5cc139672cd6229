theorem am_k8043_0 : (((am_tb am_m8043).drop 0).take 25).all (am_ckb am_m8043) = true := by decide +kernel
theorem am_k8043_1 : (((am_tb am_m8043).drop 25).take 25).all (am_ckb am_m8043) = true := by decide +kernel
theorem am_k8043_2 : (((am_tb am_m8043).drop 50).take 25).all (am_ckb am_m8043) = true := by decide +kernel
theorem am_k8043_3 : (((am_tb am_m8043).drop 75).take 25).all (am_ckb am_m8043) = true := by decide +kernel
theorem am_k8043_4 : (((am_tb am_m8043).drop 100).take 25).all (am_ckb am_m8043) = true := by decide +kernel
theorem am_k8043_5 : (((am_tb am_m8043).drop 125).take 25).all (am_ckb am_m8043) = true := by decide +kernel
theorem am_k8043_6 : (((am_tb am_m8043).drop 150).take 25).all (am_ckb am_m8043) = true := by decide +kernel
theorem am_k8043_7 : (((am_tb am_m8043).drop 175).take 25).all (am_ckb am_m8043) = true := by decide +kernel
theorem am_k8043_8 : (((am_tb am_m8043).drop 200).take 25).all (am_ckb am_m8043) = true := by decide +kernel
theorem am_k8043_9 : (((am_tb am_m8043).drop 225).take 25).all (am_ckb am_m8043) = true := by decide +kernel
theorem am_k8043_10 : (((am_tb am_m8043).drop 250).take 25).all (am_ckb am_m8043) = true := by decide +kernel
theorem am_k8043_11 : (((am_tb am_m8043).drop 275).take 25).all (am_ckb am_m8043) = true := by decide +kernel
theorem am_k8043_12 : (((am_tb am_m8043).drop 300).take 25).all (am_ckb am_m8043) = true := by decide +kernel
theorem am_k8043_13 : (((am_tb am_m8043).drop 325).take 25).all (am_ckb am_m8043) = true := by decide +kernel
theorem am_k8043_14 : (((am_tb am_m8043).drop 350).take 25).all (am_ckb am_m8043) = true := by decide +kernel
theorem am_k8043_15 : (((am_tb am_m8043).drop 375).take 25).all (am_ckb am_m8043) = true := by decide +kernel
theorem am_k8043_16 : (((am_tb am_m8043).drop 400).take 25).all (am_ckb am_m8043) = true := by decide +kernel
theorem am_k8043_17 : (((am_tb am_m8043).drop 425).take 25).all (am_ckb am_m8043) = true := by decide +kernel
theorem am_k8043_18 : (((am_tb am_m8043).drop 450).take 25).all (am_ckb am_m8043) = true := by decide +kernel
theorem am_k8043_19 : (((am_tb am_m8043).drop 475).take 25).all (am_ckb am_m8043) = true := by decide +kernel
theorem am_k8043_20 : (((am_tb am_m8043).drop 500).take 25).all (am_ckb am_m8043) = true := by decide +kernel
theorem am_k8043_21 : (((am_tb am_m8043).drop 525).take 25).all (am_ckb am_m8043) = true := by decide +kernel
theorem am_k8043_22 : (((am_tb am_m8043).drop 550).take 25).all (am_ckb am_m8043) = true := by decide +kernel
theorem am_k8043_23 : (((am_tb am_m8043).drop 575).take 25).all (am_ckb am_m8043) = true := by decide +kernel
theorem am_k8043_24 : (((am_tb am_m8043).drop 600).take 25).all (am_ckb am_m8043) = true := by decide +kernel
theorem am_k8043_25 : (((am_tb am_m8043).drop 625).take 25).all (am_ckb am_m8043) = true := by decide +kernel
theorem am_k8043_26 : (((am_tb am_m8043).drop 650).take 25).all (am_ckb am_m8043) = true := by decide +kernel
theorem am_k8043_27 : (((am_tb am_m8043).drop 675).take 25).all (am_ckb am_m8043) = true := by decide +kernel
theorem am_k8043_28 : (((am_tb am_m8043).drop 700).take 25).all (am_ckb am_m8043) = true := by decide +kernel
theorem am_k8043_e : (am_tb am_m8043).drop 725 = [] := by decide +kernel
theorem am_k8043 : (am_tb am_m8043).all (am_ckb am_m8043) = true ∧ am_hck am_m8043 = true := ⟨am_cutq 29 _ (fun j hj => by
    match j, hj with
    | 0, _ => exact am_k8043_0
    | 1, _ => exact am_k8043_1
    | 2, _ => exact am_k8043_2
    | 3, _ => exact am_k8043_3
    | 4, _ => exact am_k8043_4
    | 5, _ => exact am_k8043_5
    | 6, _ => exact am_k8043_6
    | 7, _ => exact am_k8043_7
    | 8, _ => exact am_k8043_8
    | 9, _ => exact am_k8043_9
    | 10, _ => exact am_k8043_10
    | 11, _ => exact am_k8043_11
    | 12, _ => exact am_k8043_12
    | 13, _ => exact am_k8043_13
    | 14, _ => exact am_k8043_14
    | 15, _ => exact am_k8043_15
    | 16, _ => exact am_k8043_16
    | 17, _ => exact am_k8043_17
    | 18, _ => exact am_k8043_18
    | 19, _ => exact am_k8043_19
    | 20, _ => exact am_k8043_20
    | 21, _ => exact am_k8043_21
    | 22, _ => exact am_k8043_22
    | 23, _ => exact am_k8043_23
    | 24, _ => exact am_k8043_24
    | 25, _ => exact am_k8043_25
    | 26, _ => exact am_k8043_26
    | 27, _ => exact am_k8043_27
    | 28, _ => exact am_k8043_28
    | j + 29, hj => exact absurd hj (by omega)) am_k8043_e, by decide +kernel⟩
