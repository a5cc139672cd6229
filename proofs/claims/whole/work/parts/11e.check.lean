theorem am_kl6 : am_t8900_6.all (am_ckb am_m8900) = true := by decide +kernel
theorem am_kl7 : am_t8900_7.all (am_ckb am_m8900) = true := by decide +kernel
theorem am_kl8 : am_t8900_8.all (am_ckb am_m8900) = true := by decide +kernel
theorem am_kl9 : am_t8900_9.all (am_ckb am_m8900) = true := by decide +kernel
theorem am_kl10 : am_t8900_10.all (am_ckb am_m8900) = true := by decide +kernel
theorem am_kl11 : am_t8900_11.all (am_ckb am_m8900) = true := by decide +kernel
