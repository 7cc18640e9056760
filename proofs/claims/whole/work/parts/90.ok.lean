/-- THE PURE PART: the law's function answers 1 on every script -/
theorem law_ok (L : Nat) (xs : Nat → Int32) (hL : L ≤ 2048) : ∃ M' : MM, f_L_law 93 L xs M0 = some (1, M') := by
  sorry
