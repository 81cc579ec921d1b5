/-! turn, want, strip, rest -/
theorem nI_half {c : Nat} (h : c < 2 ^ 31) : nI c / 2 = nI (c / 2) := by
  apply Int32.toInt_inj.mp
  rw [Int32.toInt_div, nI_toInt h, nI_toInt (by omega)]
  have e2 : (2 : Int32).toInt = 2 := rfl
  rw [e2]
  have : (c : Int).tdiv 2 = ((c / 2 : Nat) : Int) := by
    rw [Int.tdiv_eq_ediv_of_nonneg (by omega)]; omega
  rw [this]
  apply Int.bmod_eq_of_le <;> omega
theorem nI_mul2 (c : Nat) : nI c * 2 = nI (c * 2) := (Int32.ofNat_mul c 2).symm
theorem nI_par {c : Nat} (h : c < 2 ^ 31) : nI c - nI c / 2 * 2 = nI (c % 2) := by
  rw [nI_half h, nI_mul2]
  have e : nI c = nI (c % 2) + nI (c / 2 * 2) := by rw [nI_add]; congr 1; omega
  rw [e, Int32.add_sub_cancel]
theorem i32_out {x : Int32} {n : Nat} (hn : n < 2 ^ 31) (h : ¬ x < 0) (h2 : ¬ nI n ≤ x) : ∃ j, j < n ∧ x = nI j := by
  obtain ⟨j, hj, e⟩ := nI_of h
  refine ⟨j, ?_, e⟩
  rw [e] at h2
  rw [nI_leI hn hj] at h2
  omega
/-- has a piece or not -/
theorem has_29 {S : mSt} {np : Nat} (h5 : np ≤ 5) (h : S.1 11 = nI np) (a : Int32) : (F29 S a = some 0 ∧ ¬ (∃ j, j < np ∧ a = nI j)) ∨ (F29 S a = some 1 ∧ ∃ j, j < np ∧ a = nI j) := by
  unfold F29
  by_cases h1 : a < 0
  · rw [if_pos h1]
    refine Or.inl ⟨rfl, ?_⟩
    rintro ⟨j, hj, e⟩
    rw [e] at h1
    exact nI_pos (by omega) h1
  · rw [if_neg h1, h]
    by_cases h2 : nI np ≤ a
    · rw [if_pos h2]
      refine Or.inl ⟨rfl, ?_⟩
      rintro ⟨j, hj, e⟩
      rw [e] at h2
      exact nI_ge hj (by omega) h2
    · rw [if_neg h2]
      obtain ⟨j, hj, e⟩ := i32_out (by omega) h1 h2
      have n5 : ¬ (5 : Int32) ≤ nI j := nI_ge (a := j) (b := 5) (by omega) (by omega)
      rw [e, if_neg n5]
      exact Or.inr ⟨rfl, j, hj, rfl⟩
theorem in_61 {S : mSt} {n : Nat} (hn : n < 2 ^ 31) (a : Int32) : (F61 S a 0 (nI n - 1) = some 0 ∧ ¬ (∃ j, j < n ∧ a = nI j)) ∨ (F61 S a 0 (nI n - 1) = some 1 ∧ ∃ j, j < n ∧ a = nI j) := by
  unfold F61
  by_cases h1 : a < 0
  · rw [if_pos h1]
    refine Or.inl ⟨rfl, ?_⟩
    rintro ⟨j, hj, e⟩
    rw [e] at h1
    exact nI_pos (by omega) h1
  · rw [if_neg h1]
    obtain ⟨j, hj, e⟩ := nI_of h1
    subst e
    cases n with
    | zero =>
      have : nI 0 - 1 < nI j := by
        rw [Int32.lt_iff_toInt_lt, nI_toInt hj]
        have : (nI 0 - 1).toInt = -1 := rfl
        omega
      rw [if_pos this]
      exact Or.inl ⟨rfl, fun ⟨i, hi, _⟩ => by omega⟩
    | succ n =>
      rw [nI_pred]
      by_cases h2 : nI n < nI j
      · rw [if_pos h2]
        refine Or.inl ⟨rfl, ?_⟩
        rintro ⟨i, hi, e⟩
        rw [nI_eq hj (by omega)] at e
        rw [nI_ltI (by omega) hj] at h2
        omega
      · rw [if_neg h2]
        refine Or.inr ⟨rfl, j, ?_, rfl⟩
        rw [nI_ltI (by omega) hj] at h2
        omega
theorem is_65 {S : mSt} {np : Nat} (h5 : np ≤ 5) (h : S.1 25 = nI np) (a : Int32) : (F65 S a = some 0 ∧ ¬ (∃ j, j < np ∧ a = nI j)) ∨ (F65 S a = some 1 ∧ ∃ j, j < np ∧ a = nI j) := by
  unfold F65
  rw [h]
  rcases in_61 (S := S) (n := np) (by omega) a with ⟨e, q⟩ | ⟨e, q⟩
  · exact Or.inl ⟨by rw [e]; rfl, q⟩
  · exact Or.inr ⟨by rw [e]; rfl, q⟩
/-- turn -/
theorem op_turn {S : mSt} (hI : Inv S) (a b : Int32) (hb01 : b = 0 ∨ b = 1) : ∃ k S1 S2, F86 S a b = some (k, S1) ∧ F64 S1 a b = some S2 ∧ S2.1 16 = k ∧ Inv S2 := by
  have hI2 := hI
  obtain ⟨he, hr, np, nb, hp, hb, ht⟩ := hI
  have e11 : S.1 11 = nI np := he.2.2.2.2.2.2.2.2.2.1.trans hp.2.1
  rcases has_29 (S := S) hp.1 e11 a with ⟨e, q⟩ | ⟨e, q⟩
  · rcases is_65 (S := S) hp.1 hp.2.1 a with ⟨f, w⟩ | ⟨f, w⟩
    · exact ⟨1, S, (va_up S.1 16 1, S.2.1, S.2.2), by simp [F86, F8, e], by simp [F64, f, F62_0], by simp [va_up], Inv_16 hI2⟩
    · exact absurd w q
  · obtain ⟨j, hj, rfl⟩ := q
    have hn : vp_nar .boolean b = b := by rcases hb01 with rfl | rfl <;> rfl
    have hx := nI_ix (n := j) (N := 5) (by have := hp.1; omega) (by omega)
    have hc := nI_clamp (n := j) (by have := hp.1; omega)
    rw [hc] at hx
    have f : ∀ S' : mSt, S'.1 25 = nI np → F65 S' (nI j) = some 1 := by
      intro S' e2
      rcases is_65 (S := S') hp.1 e2 (nI j) with ⟨f, w⟩ | ⟨f, w⟩
      · exact absurd ⟨j, hj, rfl⟩ w
      · exact f
    refine ⟨0, (S.1, va_up S.2.1 9 (upd (S.2.1 9) j b), S.2.2), (va_up S.1 16 0, va_up (va_up S.2.1 9 (upd (S.2.1 9) j b)) 40 (upd (S.2.1 40) j b), S.2.2), by simp [F86, F8, e, hx, hc, hn], ?_, by simp [va_up], ?_, ?_, np, nb, ?_, ?_, ?_⟩
    · have := f (S.1, va_up S.2.1 9 (upd (S.2.1 9) j b), S.2.2) hp.2.1
      simp [F64, this, F62_111, hx, hc, hn, va_up]
    · simpa [iEq, va_up] using he
    · simpa [iRg, va_up] using hr
    · refine ⟨hp.1, by simpa [va_up] using hp.2.1, ?_⟩
      intro i hi
      have q := hp.2.2 i hi
      by_cases hij : i = j
      · subst hij
        simp [va_up, upd, q, hb01]
      · simpa [va_up, upd, hij] using q
    · simpa [iBr, va_up] using hb
    · simpa [iPt, va_up] using ht
