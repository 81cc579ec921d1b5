/-! the class and the reference side by side: what holds between two calls -/
def iO (a x b : Int32) : Prop := a ≤ x ∧ x ≤ b
def iEq (S : mSt) : Prop := S.1 2 = S.1 17 ∧ S.1 3 = S.1 18 ∧ S.1 4 = S.1 19 ∧ S.1 5 = S.1 22 ∧ S.1 6 = S.1 23 ∧ S.1 7 = S.1 20 ∧ S.1 8 = S.1 21 ∧ S.1 9 = S.1 24 ∧ S.1 10 = S.1 26 ∧ S.1 11 = S.1 25 ∧ S.1 0 = S.1 27
def iRg (S : mSt) : Prop := iO 1 (S.1 17) 200 ∧ iO 1 (S.1 18) 200 ∧ iO 0 (S.1 19) 20 ∧ iO 0 (S.1 20) 200 ∧ iO 0 (S.1 21) 200 ∧ (S.1 22 = 1 ∨ S.1 22 = 2) ∧ iO 0 (S.1 23) 20 ∧ iO 0 (S.1 24) 200 ∧ (S.1 27 = 0 ∨ S.1 27 = 1)
def iPc (S : mSt) (np : Nat) : Prop := np ≤ 5 ∧ S.1 25 = nI np ∧ ∀ j, j < np → (S.2.1 4 j = S.2.1 35 j ∧ S.2.1 5 j = S.2.1 36 j ∧ S.2.1 6 j = S.2.1 37 j ∧ S.2.1 7 j = S.2.1 38 j ∧ S.2.1 8 j = S.2.1 39 j ∧ S.2.1 9 j = S.2.1 40 j) ∧
  (iO 1 (S.2.1 35 j) 200 ∧ iO (S.2.1 35 j) (S.2.1 36 j) 200 ∧ iO 1 (S.2.1 37 j) 200 ∧ iO 0 (S.2.1 38 j) 100000 ∧ iO 0 (S.2.1 39 j) 20 ∧ (S.2.1 40 j = 0 ∨ S.2.1 40 j = 1))
def iBr (S : mSt) (nb : Nat) : Prop := nb ≤ 4 ∧ S.1 26 = nI nb ∧ (∀ k, k < nb → 0 ≤ S.2.1 41 k ∧ S.2.1 41 k < S.2.1 42 k ∧ S.2.1 42 k ≤ 200) ∧
  ∀ p, p < 201 → (S.2.1 2 p = 0 ∨ S.2.1 2 p = 1) ∧ (S.2.1 2 p = 1 ↔ ∃ k, k < nb ∧ S.2.1 41 k < nI p ∧ nI p < S.2.1 42 k)
def iPt (S : mSt) (np : Nat) : Prop := S.1 27 = 1 → (S.1 1 = S.1 28 ∧ (S.1 28 = 0 ∨ S.1 28 = 1)) ∧ ∃ ns, ns ≤ 100 ∧ S.1 15 = nI ns ∧ S.1 29 = nI ns ∧ ∀ j, j < ns → ∃ c : Nat, c < 2 * np ∧ S.2.1 47 j = nI c ∧
  (S.2.1 29 j = nI (c / 2) ∧ S.2.1 30 j = nI (c % 2) ∧ S.2.1 31 j = S.2.1 48 j ∧ S.2.1 32 j = S.2.1 49 j ∧ S.2.1 33 j = S.2.1 50 j) ∧ iO 0 (S.2.1 50 j) 21
def Inv (S : mSt) : Prop := iEq S ∧ iRg S ∧ ∃ np nb, iPc S np ∧ iBr S nb ∧ iPt S np
theorem F6_in {S : mSt} {a l m : Int32} (h : iO l a m) : F6 S a l m = some 0 := by
  unfold F6
  rw [if_neg (fun z => Int32.lt_irrefl (Int32.lt_of_lt_of_le z h.1)), if_pos h.2]
theorem F6_out {S : mSt} {a l m : Int32} (h : ¬ iO l a m) : F6 S a l m = some 1 := by
  unfold F6
  by_cases h1 : a < l
  · rw [if_pos h1]
  · rw [if_neg h1, if_neg (fun z => h ⟨Int32.not_lt.mp h1, z⟩)]
theorem F61_in {S : mSt} {a l m : Int32} (h : iO l a m) : F61 S a l m = some 1 := by
  unfold F61
  rw [if_neg (fun z => Int32.lt_irrefl (Int32.lt_of_lt_of_le z h.1)), if_neg (fun z => Int32.lt_irrefl (Int32.lt_of_lt_of_le z h.2))]
theorem F61_out {S : mSt} {a l m : Int32} (h : ¬ iO l a m) : F61 S a l m = some 0 := by
  unfold F61
  by_cases h1 : a < l
  · rw [if_pos h1]
  · rw [if_neg h1, if_pos (Int32.not_le.mp (fun z => h ⟨Int32.not_lt.mp h1, z⟩))]
theorem F60_in {S : mSt} {a : Int32} (h : iO 1 a 200) : F60 S a = some 1 := by
  unfold F60
  rw [F61_in h]
  rfl
theorem F60_out {S : mSt} {a : Int32} (h : ¬ iO 1 a 200) : F60 S a = some 0 := by
  unfold F60
  rw [F61_out h]
  rfl
/-- plate -/
theorem op_plate {S : mSt} (hI : Inv S) (a b c : Int32) : ∃ k S1 S2, F84 S a b c = some (k, S1) ∧ F59 S1 a b c = some S2 ∧ S2.1 16 = k ∧ Inv S2 := by
  obtain ⟨he, hr, np, nb, hp, hb, ht⟩ := hI
  have bad : ∀ S : mSt, (¬ iO 1 a 200 ∨ ¬ iO 1 b 200 ∨ ¬ iO 0 c 20) → F84 S a b c = some (1, S) ∧ F59 S a b c = some (va_up S.1 16 1, S.2.1, S.2.2) := by
    intro S h
    by_cases h1 : iO 1 a 200
    · by_cases h2 : iO 1 b 200
      · have h3 : ¬ iO 0 c 20 := by
          rcases h with h | h | h
          · exact absurd h1 h
          · exact absurd h2 h
          · exact h
        exact ⟨by simp [F84, F5, F6_in h1, F6_in h2, F6_out h3], by simp [F59, F60_in h1, F60_in h2, F61_out h3, F62]⟩
      · exact ⟨by simp [F84, F5, F6_in h1, F6_out h2], by simp [F59, F60_in h1, F60_out h2, F62]⟩
    · exact ⟨by simp [F84, F5, F6_out h1], by simp [F59, F60_out h1, F62]⟩
  by_cases h1 : iO 1 a 200
  · by_cases h2 : iO 1 b 200
    · by_cases h3 : iO 0 c 20
      · refine ⟨0, (va_up (va_up (va_up (va_up (va_up (va_up S.1 2 a) 3 b) 4 c) 0 0) 1 0) 15 0, S.2.1, S.2.2), (va_up (va_up (va_up (va_up (va_up (va_up (va_up (va_up (va_up (va_up (va_up S.1 2 a) 3 b) 4 c) 0 0) 1 0) 15 0) 16 0) 17 a) 18 b) 19 c) 27 0, S.2.1, S.2.2), by simp [F84, F5, F6_in h1, F6_in h2, F6_in h3, F3], by simp [F59, F60_in h1, F60_in h2, F61_in h3, F62], by simp [va_up], ?_⟩
        simp only [iEq, iRg] at he hr
        refine ⟨?_, ?_, np, nb, ?_, ?_, ?_⟩
        · simp [iEq, va_up, he]
        · simp [iRg, va_up, hr, h1, h2, h3]
        · simpa [iPc, va_up] using hp
        · simpa [iBr, va_up] using hb
        · intro z; simp [va_up] at z
      · obtain ⟨e1, e2⟩ := bad S (Or.inr (Or.inr h3))
        refine ⟨1, S, _, e1, e2, by simp [va_up], ?_, ?_, np, nb, ?_, ?_, ?_⟩
        · simpa [iEq, va_up] using he
        · simpa [iRg, va_up] using hr
        · simpa [iPc, va_up] using hp
        · simpa [iBr, va_up] using hb
        · simpa [iPt, va_up] using ht
    · obtain ⟨e1, e2⟩ := bad S (Or.inr (Or.inl h2))
      refine ⟨1, S, _, e1, e2, by simp [va_up], ?_, ?_, np, nb, ?_, ?_, ?_⟩
      · simpa [iEq, va_up] using he
      · simpa [iRg, va_up] using hr
      · simpa [iPc, va_up] using hp
      · simpa [iBr, va_up] using hb
      · simpa [iPt, va_up] using ht
  · obtain ⟨e1, e2⟩ := bad S (Or.inl h1)
    refine ⟨1, S, _, e1, e2, by simp [va_up], ?_, ?_, np, nb, ?_, ?_, ?_⟩
    · simpa [iEq, va_up] using he
    · simpa [iRg, va_up] using hr
    · simpa [iPc, va_up] using hp
    · simpa [iBr, va_up] using hb
    · simpa [iPt, va_up] using ht
