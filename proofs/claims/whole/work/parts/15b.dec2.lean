/-! facts by cases -/
theorem pop_mono : ∀ t, t < 256 → ∀ s, s < 256 → t &&& s = s → pop s ≤ pop t := by decide +kernel
theorem pop_or : ∀ t, t < 256 → ∀ s, s < 256 → t &&& s = 0 → pop (t ||| s) = pop t + pop s := by decide +kernel
