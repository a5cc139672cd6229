theorem am_kl12 : am_t8900_12.all (am_ckb am_m8900) = true := by decide +kernel
theorem am_kl13 : am_t8900_13.all (am_ckb am_m8900) = true := by decide +kernel
