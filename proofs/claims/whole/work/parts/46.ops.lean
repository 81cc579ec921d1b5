/-! bar, clear, the start -/
theorem L22_ev : ∀ (m n p q : Nat) (S : mSt), q - p = m → p ≤ 201 → q ≤ 200 → m < n → ∃ S' : mSt, L22_8 n S (nI q) (nI p) = some (1, S', 0, 0) ∧ S'.1 = S.1 ∧ S'.2.2 = S.2.2 ∧ (∀ c, c ≠ 2 → S'.2.1 c = S.2.1 c) ∧ ∀ j, S'.2.1 2 j = if p ≤ j ∧ j < q then 1 else S.2.1 2 j := by
  intro m
  induction m with
  | zero =>
    intro n p q S h1 h0 h2 h3
    obtain ⟨n, rfl⟩ : ∃ k, n = k + 1 := ⟨n - 1, by omega⟩
    refine ⟨S, ?_, rfl, rfl, fun _ _ => rfl, ?_⟩
    · unfold L22_8 I22_8
      rw [if_pos (nI_le (by omega) (by omega))]; rfl
    · intro j
      rw [if_neg (by omega)]
  | succ m ih =>
    intro n p q S h1 h0 h2 h3
    obtain ⟨n, rfl⟩ : ∃ k, n = k + 1 := ⟨n - 1, by omega⟩
    have hx := nI_ix (n := p) (N := 201) (by omega) (by omega)
    have hc := nI_clamp (n := p) (by omega)
    rw [hc] at hx
    have e1 : ¬ nI q ≤ nI p := nI_ge (by omega) (by omega)
    have e2 : ¬ (201 : Int32) ≤ nI p := nI_ge (a := p) (b := 201) (by omega) (by omega)
    obtain ⟨S', f1, f2, f3, f4, f5⟩ := ih n (p + 1) q (S.1, va_up S.2.1 2 (upd (S.2.1 2) p 1), S.2.2) (by omega) (by omega) h2 (by omega)
    refine ⟨S', ?_, f2, f3, ?_, ?_⟩
    · rw [← nI_1] at f1
      have hn : vp_nar .boolean 1 = 1 := rfl
      simp [L22_8, I22_8, e1, e2, hx, hc, hn, f1]
    · intro c hc2
      rw [f4 c hc2]
      simp [va_up, hc2]
    · intro j
      rw [f5 j]
      by_cases hj : j = p
      · subst hj
        simp [va_up, upd]
        omega
      · have : (p + 1 ≤ j ∧ j < q) ↔ (p ≤ j ∧ j < q) := by omega
        simp [va_up, upd, hj, this]
theorem L21_ev : ∀ (m n p : Nat) (S : mSt), 201 - p = m → p ≤ 201 → m < n → ∃ S' : mSt, L21_49 n S (nI p) = some (1, S', 0) ∧ S'.1 = S.1 ∧ S'.2.2 = S.2.2 ∧ (∀ c, c ≠ 2 → S'.2.1 c = S.2.1 c) ∧ ∀ j, S'.2.1 2 j = if p ≤ j ∧ j < 201 then 0 else S.2.1 2 j := by
  intro m
  induction m with
  | zero =>
    intro n p S h1 h0 h3
    obtain ⟨n, rfl⟩ : ∃ k, n = k + 1 := ⟨n - 1, by omega⟩
    refine ⟨S, ?_, rfl, rfl, fun _ _ => rfl, ?_⟩
    · unfold L21_49 I21_49
      rw [if_pos (show Int32.ofNat 201 ≤ nI p from nI_le (a := 201) (by omega) (by omega))]; rfl
    · intro j
      rw [if_neg (by omega)]
  | succ m ih =>
    intro n p S h1 h0 h3
    obtain ⟨n, rfl⟩ : ∃ k, n = k + 1 := ⟨n - 1, by omega⟩
    have hx := nI_ix (n := p) (N := 201) (by omega) (by omega)
    have hc := nI_clamp (n := p) (by omega)
    rw [hc] at hx
    have e2 : ¬ (201 : Int32) ≤ nI p := nI_ge (a := p) (b := 201) (by omega) (by omega)
    obtain ⟨S', f1, f2, f3, f4, f5⟩ := ih n (p + 1) (S.1, va_up S.2.1 2 (upd (S.2.1 2) p 0), S.2.2) (by omega) (by omega) (by omega)
    refine ⟨S', ?_, f2, f3, ?_, ?_⟩
    · rw [← nI_1] at f1
      have hn : vp_nar .boolean 0 = 0 := rfl
      simp [L21_49, I21_49, e2, hx, hc, hn, f1]
    · intro c hc2
      rw [f4 c hc2]
      simp [va_up, hc2]
    · intro j
      rw [f5 j]
      by_cases hj : j = p
      · subst hj
        simp [va_up, upd]
        omega
      · have : (p + 1 ≤ j ∧ j < 201) ↔ (p ≤ j ∧ j < 201) := by omega
        simp [va_up, upd, hj, this]
/-- forget all -/
theorem F2_ev {n : Nat} (hn : 300 ≤ n) (S : mSt) : ∃ S' : mSt, F2 n S = some S' ∧ S'.2.2 = S.2.2 ∧ (∀ c, c ≠ 2 → S'.2.1 c = S.2.1 c) ∧ (∀ j, j < 201 → S'.2.1 2 j = 0) ∧ S'.1 = va_up (va_up (va_up (va_up (va_up (va_up (va_up (va_up (va_up (va_up (va_up (va_up (va_up S.1 2 1) 3 1) 4 0) 5 2) 6 20) 7 0) 8 0) 9 10) 10 0) 11 0) 0 0) 1 0) 15 0 := by
  obtain ⟨S', f1, f2, f3, f4, f5⟩ := L21_ev 201 n 0 (va_up (va_up (va_up (va_up (va_up (va_up (va_up (va_up (va_up S.1 2 1) 3 1) 4 0) 5 2) 6 20) 7 0) 8 0) 9 10) 10 0, S.2.1, S.2.2) (by omega) (by omega) (by omega)
  have z0 : nI 0 = 0 := rfl
  rw [z0] at f1
  refine ⟨(va_up (va_up (va_up (va_up S'.1 11 0) 0 0) 1 0) 15 0, S'.2.1, S'.2.2), by simp [F2, F21, f1, F3], f3, f4, ?_, by rw [f2]⟩
  intro j hj
  show S'.2.1 2 j = 0
  rw [f5 j, if_pos ⟨Nat.zero_le _, hj⟩]
theorem Inv_new {S : mSt} (h : S.1 2 = 1 ∧ S.1 3 = 1 ∧ S.1 4 = 0 ∧ S.1 5 = 2 ∧ S.1 6 = 20 ∧ S.1 7 = 0 ∧ S.1 8 = 0 ∧ S.1 9 = 10 ∧ S.1 10 = 0 ∧ S.1 11 = 0 ∧ S.1 0 = 0) (h2 : S.1 17 = 1 ∧ S.1 18 = 1 ∧ S.1 19 = 0 ∧ S.1 20 = 0 ∧ S.1 21 = 0 ∧ S.1 22 = 2 ∧ S.1 23 = 20 ∧ S.1 24 = 10 ∧ S.1 25 = 0 ∧ S.1 26 = 0 ∧ S.1 27 = 0) (h3 : ∀ j, j < 201 → S.2.1 2 j = 0) : Inv S := by
  refine ⟨by simp [iEq, h, h2], ?_, 0, 0, ⟨by omega, by rw [h2.2.2.2.2.2.2.2.2.1]; rfl, fun j hj => absurd hj (Nat.not_lt_zero _)⟩, ⟨by omega, by rw [h2.2.2.2.2.2.2.2.2.2.1]; rfl, fun j hj => absurd hj (Nat.not_lt_zero _), ?_⟩, ?_⟩
  · simp only [iRg, iO, h2]
    decide
  · intro p hp
    rw [h3 p hp]
    refine ⟨Or.inl rfl, ?_⟩
    constructor
    · intro z; exact absurd z (by decide)
    · rintro ⟨k, hk, _⟩
      exact absurd hk (Nat.not_lt_zero _)
  · intro z
    rw [h2.2.2.2.2.2.2.2.2.2.2] at z
    exact absurd z (by decide)
/-- clear -/
theorem op_clear {n : Nat} (hn : 300 ≤ n) (S : mSt) : ∃ S1 S2, F4 n S = some S1 ∧ F83 S1 = some S2 ∧ Inv S2 := by
  obtain ⟨S', f1, f2, f3, f4, f5⟩ := F2_ev hn S
  refine ⟨S', _, by simp [F4, f1], rfl, Inv_new ?_ ?_ f4⟩
  · simp [va_up, f5]
  · simp [va_up, f5]
/-- the start -/
theorem op_start {n : Nat} (hn : 300 ≤ n) : ∃ r, F2 n mZ = some r ∧ Inv (mS0 r) := by
  obtain ⟨S', f1, f2, f3, f4, f5⟩ := F2_ev hn mZ
  refine ⟨S', f1, Inv_new ?_ ?_ ?_⟩
  · simp [mS0, va_up, f5]
  · simp [mS0]
  · intro j hj
    simpa [mS0] using f4 j hj
