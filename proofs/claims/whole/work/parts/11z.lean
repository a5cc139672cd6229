theorem am_ks : ∀ e ∈ am_ms, (am_tb e).all (am_ckb e) = true ∧ am_hck e = true := sorry
