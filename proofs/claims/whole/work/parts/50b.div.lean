/-! numbers that hold an action and a source -/
theorem div4 : ∀ a, a < 4 → ∀ s, s < 2001 → nI (10000 * (10 + a) + s) / nI 10000 = nI (10 + a) ∧ nI (10000 * (10 + a) + s) - nI (10000 * (10 + a) + s) / nI 10000 * nI 10000 = nI s := by decide +kernel
theorem divA {a s : Nat} (h1 : 10 ≤ a) (h2 : a < 14) (hs : s ≤ 2000) : nI (10000 * a + s) / nI 10000 = nI a ∧ nI (10000 * a + s) - nI (10000 * a + s) / nI 10000 * nI 10000 = nI s := by
  have := div4 (a - 10) (by omega) s (by omega)
  rw [show 10 + (a - 10) = a by omega] at this
  exact this
