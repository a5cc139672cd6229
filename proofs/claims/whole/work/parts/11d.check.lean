theorem am_kl0 : am_t8900_0.all (am_ckb am_m8900) = true := by decide +kernel
theorem am_kl1 : am_t8900_1.all (am_ckb am_m8900) = true := by decide +kernel
theorem am_kl2 : am_t8900_2.all (am_ckb am_m8900) = true := by decide +kernel
theorem am_kl3 : am_t8900_3.all (am_ckb am_m8900) = true := by decide +kernel
theorem am_kl4 : am_t8900_4.all (am_ckb am_m8900) = true := by decide +kernel
theorem am_kl5 : am_t8900_5.all (am_ckb am_m8900) = true := by decide +kernel
