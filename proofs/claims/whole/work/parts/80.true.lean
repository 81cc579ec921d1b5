/-! what is left: the law's functions answer 1 -/
theorem law_true (sc : mS) (hL : sc.1 ≤ 3072) : law_says sc := by
  sorry
