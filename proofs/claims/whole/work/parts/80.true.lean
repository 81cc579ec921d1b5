/-! the law answers 1 -/
theorem law_true (sc : mS) (hL : sc.1 ≤ 3072) : law_says sc := by
  obtain ⟨r, h1, h2⟩ := op_start (n := 3000000) (by omega)
  obtain ⟨z, e1, e2⟩ := law_rounds (sc := sc) (n := 3000000) (Nat.le_refl _) hL (sc.1 / 6) 0 513 (mS0 r) (by omega) (by omega) (by omega) h2
  exact ⟨3000000, r, h1, z, e1, e2⟩
