/-! the calls without a loop -/
theorem nI_ix {n N : Nat} (h : n < N) (hN : N < 2 ^ 31) : 0 ≤ nI n ∧ (nI n).toNatClampNeg < N := ⟨nI_pos' (by omega), by rw [nI_clamp (by omega)]; exact h⟩
theorem Inv_of {S S' : mSt} (h1 : ∀ i, i ≠ 16 → S'.1 i = S.1 i) (h2 : S'.2.1 = S.2.1) (h : Inv S) : Inv S' := by
  obtain ⟨he, hr, np, nb, hp, hb, ht⟩ := h
  refine ⟨?_, ?_, np, nb, ?_, ?_, ?_⟩
  · simpa [iEq, h1] using he
  · simpa [iRg, h1] using hr
  · simpa [iPc, h1, h2] using hp
  · simpa [iBr, h1, h2] using hb
  · simpa [iPt, h1, h2] using ht
theorem Inv_16 {S : mSt} {k : Int32} {o : Nat → Int64} (h : Inv S) : Inv (va_up S.1 16 k, S.2.1, o) := Inv_of (S := S) (fun i hi => va_up_ne _ _ hi) rfl h
theorem Inv_o {S : mSt} {o : Nat → Int64} (h : Inv S) : Inv (S.1, S.2.1, o) := Inv_of (S := S) (fun i hi => rfl) rfl h
theorem F62_111 {S : mSt} : F62 S 1 1 1 = some (1, (va_up S.1 16 0, S.2.1, S.2.2)) := rfl
theorem F62_0 {S : mSt} {b c : Int32} : F62 S 0 b c = some (0, (va_up S.1 16 1, S.2.1, S.2.2)) := rfl
theorem F62_10 {S : mSt} {c : Int32} : F62 S 1 0 c = some (0, (va_up S.1 16 2, S.2.1, S.2.2)) := rfl
theorem F62_110 {S : mSt} : F62 S 1 1 0 = some (0, (va_up S.1 16 3, S.2.1, S.2.2)) := rfl
/-- rules -/
theorem op_rules {S : mSt} (hI : Inv S) (a b c d e : Int32) : ∃ k S1 S2, F87 S a b c d e = some (k, S1) ∧ F66 S1 a b c d e = some S2 ∧ S2.1 16 = k ∧ Inv S2 := by
  have bad : (¬ iO 1 a 2 ∨ ¬ iO 0 b 20 ∨ ¬ iO 0 c 200 ∨ ¬ iO 0 d 200 ∨ ¬ iO 0 e 200) → F87 S a b c d e = some (1, S) ∧ F66 S a b c d e = some (va_up S.1 16 1, S.2.1, S.2.2) := by
    intro h
    by_cases h1 : iO 1 a 2
    · by_cases h2 : iO 0 b 20
      · by_cases h3 : iO 0 c 200
        · by_cases h4 : iO 0 d 200
          · have h5 : ¬ iO 0 e 200 := by
              simpa [h1, h2, h3, h4] using h
            exact ⟨by simp [F87, F9, F6_in h1, F6_in h2, F6_in h3, F6_in h4, F6_out h5], by simp [F66, F61_in h1, F61_in h2, F61_in h3, F61_in h4, F61_out h5, F62_0]⟩
          · exact ⟨by simp [F87, F9, F6_in h1, F6_in h2, F6_in h3, F6_out h4], by simp [F66, F61_in h1, F61_in h2, F61_in h3, F61_out h4, F62_0]⟩
        · exact ⟨by simp [F87, F9, F6_in h1, F6_in h2, F6_out h3], by simp [F66, F61_in h1, F61_in h2, F61_out h3, F62_0]⟩
      · exact ⟨by simp [F87, F9, F6_in h1, F6_out h2], by simp [F66, F61_in h1, F61_out h2, F62_0]⟩
    · exact ⟨by simp [F87, F9, F6_out h1], by simp [F66, F61_out h1, F62_0]⟩
  by_cases hg : ¬ iO 1 a 2 ∨ ¬ iO 0 b 20 ∨ ¬ iO 0 c 200 ∨ ¬ iO 0 d 200 ∨ ¬ iO 0 e 200
  · exact ⟨1, S, _, (bad hg).1, (bad hg).2, by simp [va_up], Inv_16 hI⟩
  · have h1 : iO 1 a 2 := Classical.byContradiction fun z => hg (Or.inl z)
    have h2 : iO 0 b 20 := Classical.byContradiction fun z => hg (Or.inr (Or.inl z))
    have h3 : iO 0 c 200 := Classical.byContradiction fun z => hg (Or.inr (Or.inr (Or.inl z)))
    have h4 : iO 0 d 200 := Classical.byContradiction fun z => hg (Or.inr (Or.inr (Or.inr (Or.inl z))))
    have h5 : iO 0 e 200 := Classical.byContradiction fun z => hg (Or.inr (Or.inr (Or.inr (Or.inr z))))
    have h6 : a = 1 ∨ a = 2 := by
      obtain ⟨q1, q2⟩ := h1
      rw [Int32.le_iff_toInt_le] at q1 q2
      have e1 : (1 : Int32).toInt = 1 := rfl
      have e2 : (2 : Int32).toInt = 2 := rfl
      rw [e1] at q1
      rw [e2] at q2
      by_cases q : a.toInt = 1
      · exact Or.inl (Int32.toInt_inj.mp (q.trans e1.symm))
      · exact Or.inr (Int32.toInt_inj.mp ((show a.toInt = 2 by omega).trans e2.symm))
    obtain ⟨he, hr, np, nb, hp, hb, ht⟩ := hI
    refine ⟨0, (va_up (va_up (va_up (va_up (va_up S.1 5 a) 6 b) 7 c) 8 d) 9 e, S.2.1, S.2.2), (va_up (va_up (va_up (va_up (va_up (va_up (va_up (va_up (va_up (va_up (va_up S.1 5 a) 6 b) 7 c) 8 d) 9 e) 16 0) 22 a) 23 b) 20 c) 21 d) 24 e, S.2.1, S.2.2), by simp [F87, F9, F6_in h1, F6_in h2, F6_in h3, F6_in h4, F6_in h5], by simp [F66, F61_in h1, F61_in h2, F61_in h3, F61_in h4, F61_in h5, F62_111], by simp [va_up], ?_, ?_, np, nb, ?_, ?_, ?_⟩
    · simp only [iEq] at he; simp [iEq, va_up, he]
    · simp only [iRg] at hr; simp [iRg, va_up, hr, h2, h3, h4, h5, h6]
    · simpa [iPc, va_up] using hp
    · simpa [iBr, va_up] using hb
    · simpa [iPt, va_up] using ht
/-- proved -/
theorem op_proved {S : mSt} (hI : Inv S) : ∃ k S1 v S2, F90 S = some (k, S1) ∧ F77 S1 = some (v, S2) ∧ S2.1 16 = k ∧ (k = 0 → (v = 0 → S2.2.2 0 = 0) ∧ (¬ v = 0 → S2.2.2 0 = 1)) ∧ Inv S2 := by
  have hI2 := hI
  obtain ⟨he, hr, np, nb, hp, hb, ht⟩ := hI
  have h0 : S.1 0 = S.1 27 := he.2.2.2.2.2.2.2.2.2.2
  rcases hr.2.2.2.2.2.2.2.2 with hf | hf
  · rw [hf] at h0
    exact ⟨1, S, 0, (va_up S.1 16 1, S.2.1, S.2.2), by simp [F90, F12, F13, h0], by simp [F77, hf, F62_0], by simp [va_up], by simp, Inv_16 hI2⟩
  · rw [hf] at h0
    obtain ⟨⟨h1, h2⟩, _⟩ := ht hf
    rcases h2 with h2 | h2
    · rw [h2] at h1
      exact ⟨0, (S.1, S.2.1, vp_updL S.2.2 0 0), 0, (va_up S.1 16 0, S.2.1, vp_updL S.2.2 0 0), by simp [F90, F12, F13, h0, h1], by simp [F77, hf, F62_111, va_up, h2], by simp [va_up], by simp [vp_updL], Inv_16 hI2⟩
    · rw [h2] at h1
      exact ⟨0, (S.1, S.2.1, vp_updL S.2.2 0 1), 1, (va_up S.1 16 0, S.2.1, vp_updL S.2.2 0 1), by simp [F90, F12, F13, h0, h1], by simp [F77, hf, F62_111, va_up, h2], by simp [va_up], by simp [vp_updL], Inv_16 hI2⟩
/-- strips -/
theorem op_strips {S : mSt} (hI : Inv S) : ∃ k S1 v S2, F91 S = some (k, S1) ∧ F78 S1 = some (v, S2) ∧ S2.1 16 = k ∧ (k = 0 → S2.2.2 0 = v.toInt64) ∧ Inv S2 := by
  have hI2 := hI
  obtain ⟨he, hr, np, nb, hp, hb, ht⟩ := hI
  have h0 : S.1 0 = S.1 27 := he.2.2.2.2.2.2.2.2.2.2
  rcases hr.2.2.2.2.2.2.2.2 with hf | hf
  · rw [hf] at h0
    exact ⟨1, S, 0, (va_up S.1 16 1, S.2.1, S.2.2), by simp [F91, F14, F13, h0], by simp [F78, hf, F62_0], by simp [va_up], by simp, Inv_16 hI2⟩
  · rw [hf] at h0
    obtain ⟨_, ns, _, h1, h2, _⟩ := ht hf
    exact ⟨0, (S.1, S.2.1, vp_updL S.2.2 0 (S.1 15).toInt64), nI ns, (va_up S.1 16 0, S.2.1, vp_updL S.2.2 0 (S.1 15).toInt64), by simp [F91, F14, F13, h0], by simp [F78, hf, F62_111, va_up, h2], by simp [va_up], by simp [vp_updL, h1], Inv_16 hI2⟩
