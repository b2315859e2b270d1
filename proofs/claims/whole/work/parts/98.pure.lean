/-- what is left: the word of the law is true on every script -/
theorem law_word {L : Nat} {xs : Nat → Int32} (hL : L ≤ 2048) : ∃ τ, f_X6_init ms00 = some τ ∧ f_law L xs (cs0, τ) = some 1 := by
  sorry
