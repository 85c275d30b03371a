/-! Numbers of bits, tried one by one. -/
set_option maxRecDepth 100000 in
theorem pc_step : ∀ s, s < 2048 → s ≠ 0 → pc (s &&& (s - 1)) + 1 = pc s ∧ s &&& (s - 1) < s := by decide +kernel
set_option maxRecDepth 100000 in
theorem pc_le : ∀ s, s < 2048 → pc s ≤ 11 := by decide +kernel
