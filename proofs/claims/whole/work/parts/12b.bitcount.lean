set_option maxRecDepth 100000 in
theorem k_bc_all : ∀ k, k < 4096 → k_bc (nI k) = nI (zc_cnt k.testBit 12) := by decide +kernel
