theorem am_kl17 : am_t8900_17.all (am_ckb am_m8900) = true := by decide +kernel
