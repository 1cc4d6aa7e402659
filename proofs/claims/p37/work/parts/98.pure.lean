/-- the pure side, owed -/
theorem law_pure : ∀ (xL : Nat) (xs : Nat → Int32), xL ≤ 260 → wpL_law xL xs () := by
  sorry
