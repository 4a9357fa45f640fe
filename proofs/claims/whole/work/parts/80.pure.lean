/-- what is left: the law's function answers 1 on every script -/
theorem law_pure (X : zXt) (hX : X.1 ≤ 3072) : ∃ S' : zS, fn_Law_law X zs0 = some (1, S') ∧ zN S' ≤ 600016 ∧ zC S' ≤ 7302249 := by
  sorry
