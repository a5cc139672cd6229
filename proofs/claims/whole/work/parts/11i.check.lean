theorem am_kl16_0 : ((am_t8900_16.drop 0).take 25).all (am_ckb am_m8900) = true := by decide +kernel
theorem am_kl16_1 : ((am_t8900_16.drop 25).take 25).all (am_ckb am_m8900) = true := by decide +kernel
theorem am_kl16_2 : ((am_t8900_16.drop 50).take 25).all (am_ckb am_m8900) = true := by decide +kernel
theorem am_kl16_3 : (am_t8900_16.drop 75).all (am_ckb am_m8900) = true := by decide +kernel
theorem am_kl16 : am_t8900_16.all (am_ckb am_m8900) = true := by
  rw [← List.take_append_drop 25 am_t8900_16, ← List.take_append_drop 25 (am_t8900_16.drop 25), List.drop_drop, ← List.take_append_drop 25 (am_t8900_16.drop (25 + 25)), List.drop_drop]
  simp only [List.all_append, Bool.and_eq_true]
  exact ⟨am_kl16_0, am_kl16_1, am_kl16_2, am_kl16_3⟩
