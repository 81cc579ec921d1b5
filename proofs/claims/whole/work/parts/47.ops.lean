/-! bar -/
theorem bar_in {a b : Int32} (ha : iO 0 a 200) : iO (a + 1) b 200 ↔ (iO 0 b 200 ∧ a < b) := by
  obtain ⟨h1, h2⟩ := ha
  obtain ⟨j, hj, rfl⟩ := nI_of (Int32.not_lt.mpr h1)
  have : j ≤ 200 := (nI_leI (a := j) (b := 200) hj (by omega)).mp h2
  rw [nI_1]
  constructor
  · rintro ⟨q1, q2⟩
    have q3 : 0 ≤ b := Int32.le_trans (nI_pos' (n := j + 1) (by omega)) q1
    exact ⟨⟨q3, q2⟩, Int32.lt_of_lt_of_le (nI_lt (a := j) (b := j + 1) (by omega) (by omega)) q1⟩
  · rintro ⟨⟨q1, q2⟩, q3⟩
    refine ⟨?_, q2⟩
    obtain ⟨i, hi, rfl⟩ := nI_of (Int32.not_lt.mpr q1)
    rw [nI_ltI hj hi] at q3
    exact nI_le (by omega) hi
theorem bar_bad {n : Nat} {S : mSt} {a b : Int32} (h : ¬ (iO 0 a 200 ∧ iO 0 b 200 ∧ a < b)) : F88 n S a b = some (1, S) ∧ F67 S a b = some (0, (va_up S.1 16 1, S.2.1, S.2.2)) := by
  by_cases h1 : iO 0 a 200
  · have q : ¬ iO (a + 1) b 200 := fun z => h ⟨h1, (bar_in h1).mp z⟩
    have e : F67 S a b = some (0, (va_up S.1 16 1, S.2.1, S.2.2)) := by
      by_cases h0 : (4 : Int32) ≤ S.1 26
      · simp [F67, F61_in h1, F61_out q, F62_0, h0]
      · simp [F67, F61_in h1, F61_out q, F62_0, h0]
    refine ⟨?_, e⟩
    by_cases h2 : iO 0 b 200
    · have h3 : ¬ a < b := fun z => h ⟨h1, h2, z⟩
      simp [F88, F10, F6_in h1, F6_in h2, h3]
    · simp [F88, F10, F6_in h1, F6_out h2]
  · have e : F67 S a b = some (0, (va_up S.1 16 1, S.2.1, S.2.2)) := by
      by_cases h0 : (4 : Int32) ≤ S.1 26
      · simp [F67, F61_out h1, F62_0, h0]
      · simp [F67, F61_out h1, F62_0, h0]
    exact ⟨by simp [F88, F10, F6_out h1], e⟩
theorem op_bar {n : Nat} (hn : 300 ≤ n) {S : mSt} (hI : Inv S) (a b : Int32) : ∃ k S1 v S2, F88 n S a b = some (k, S1) ∧ F67 S1 a b = some (v, S2) ∧ S2.1 16 = k ∧ (k = 0 → S2.2.2 0 = v.toInt64) ∧ Inv S2 := by
  have hI2 := hI
  obtain ⟨he, hr, np, nb, hp, hb, ht⟩ := hI
  have e26 : S.1 26 = nI nb := hb.2.1
  have e10 : S.1 10 = nI nb := he.2.2.2.2.2.2.2.2.1.trans e26
  by_cases hg : iO 0 a 200 ∧ iO 0 b 200 ∧ a < b
  · obtain ⟨h1, h2, h3⟩ := hg
    have h4 : iO (a + 1) b 200 := (bar_in h1).mpr ⟨h2, h3⟩
    have hb4 := hb.1
    by_cases hf : nb = 4
    · subst hf
      have n4 : (4 : Int32) ≤ nI 4 := nI_le (Nat.le_refl _) (by omega)
      have m4 : ¬ nI 4 < (4 : Int32) := nI_nlt (a := 4) (b := 4) (by omega) (by omega)
      exact ⟨2, S, 0, (va_up S.1 16 2, S.2.1, S.2.2), by simp [F88, F10, F6_in h1, F6_in h2, h3, e10, m4], by simp [F67, F61_in h1, F61_in h4, F62_10, e26, n4], by simp [va_up], by simp, Inv_16 hI2⟩
    · have hl : nb < 4 := by omega
      have n4 : ¬ (4 : Int32) ≤ nI nb := nI_ge (a := nb) (b := 4) hl (by omega)
      have m4 : nI nb < (4 : Int32) := nI_lt (a := nb) (b := 4) hl (by omega)
      have hx := nI_ix (n := nb) (N := 4) hl (by omega)
      have hc := nI_clamp (n := nb) (by omega)
      rw [hc] at hx
      obtain ⟨p, hp31, rfl⟩ := nI_of (Int32.not_lt.mpr h1.1)
      obtain ⟨q, hq31, rfl⟩ := nI_of (Int32.not_lt.mpr h2.1)
      have p200 : p ≤ 200 := (nI_leI (a := p) (b := 200) hp31 (by omega)).mp h1.2
      have q200 : q ≤ 200 := (nI_leI (a := q) (b := 200) hq31 (by omega)).mp h2.2
      have hpq : p < q := (nI_ltI hp31 hq31).mp h3
      obtain ⟨S', f1, f2, f3, f4, f5⟩ := L22_ev (q - (p + 1)) n (p + 1) q S rfl (by omega) q200 (by omega)
      have z : (0 : Int32) < nI p + 1 := by rw [nI_1]; exact nI_lt (a := 0) (b := p + 1) (by omega) (by omega)
      rw [← nI_1] at f1
      have e22 : F22 n S (nI p) (nI q) = some (nI nb + 1, (va_up S.1 10 (nI nb + 1), S'.2.1, S.2.2)) := by
        simp [F22, z, f1, f2, f3, e10]
      refine ⟨0, (va_up S.1 10 (nI nb + 1), S'.2.1, vp_updL S.2.2 0 (nI nb + 1).toInt64), nI nb + 1, (va_up (va_up (va_up S.1 10 (nI nb + 1)) 16 0) 26 (nI nb + 1), va_up (va_up S'.2.1 41 (upd (S'.2.1 41) nb (nI p))) 42 (upd (S'.2.1 42) nb (nI q)), vp_updL S.2.2 0 (nI nb + 1).toInt64), by simp [F88, F10, F6_in h1, F6_in h2, h3, e10, m4, e22], ?_, by simp [va_up], by simp [vp_updL], ?_, ?_, np, nb + 1, ?_, ?_, ?_⟩
      · simp [F67, F61_in h1, F61_in h4, F62_111, va_up, e26, n4, hx, hc]
      · simp only [iEq] at he; simp [iEq, va_up, he]
      · simpa [iRg, va_up] using hr
      · simpa [iPc, va_up, f4] using hp
      · refine ⟨hl, by simp [va_up, nI_1], ?_, ?_⟩
        · intro k hk
          by_cases hkn : k = nb
          · subst hkn
            simpa [va_up, upd] using (⟨h1.1, h3, h2.2⟩ : 0 ≤ nI p ∧ nI p < nI q ∧ nI q ≤ 200)
          · simpa [va_up, upd, hkn, f4] using hb.2.2.1 k (by omega)
        · intro j hj
          obtain ⟨g1, g2⟩ := hb.2.2.2 j hj
          have e2 : (va_up (va_up S'.2.1 41 (upd (S'.2.1 41) nb (nI p))) 42 (upd (S'.2.1 42) nb (nI q))) 2 j = if p + 1 ≤ j ∧ j < q then 1 else S.2.1 2 j := by
            simpa [va_up] using f5 j
          simp only [e2]
          have ek : (∃ k, k < nb + 1 ∧ (va_up (va_up S'.2.1 41 (upd (S'.2.1 41) nb (nI p))) 42 (upd (S'.2.1 42) nb (nI q))) 41 k < nI j ∧ nI j < (va_up (va_up S'.2.1 41 (upd (S'.2.1 41) nb (nI p))) 42 (upd (S'.2.1 42) nb (nI q))) 42 k) ↔ ((p + 1 ≤ j ∧ j < q) ∨ ∃ k, k < nb ∧ S.2.1 41 k < nI j ∧ nI j < S.2.1 42 k) := by
            constructor
            · rintro ⟨k, hk, w1, w2⟩
              by_cases hkn : k = nb
              · subst hkn
                simp [va_up, upd] at w1 w2
                rw [nI_ltI hp31 (by omega)] at w1
                rw [nI_ltI (by omega) hq31] at w2
                exact Or.inl ⟨by omega, w2⟩
              · simp [va_up, upd, hkn, f4] at w1 w2
                exact Or.inr ⟨k, by omega, w1, w2⟩
            · rintro (⟨w1, w2⟩ | ⟨k, hk, w1, w2⟩)
              · refine ⟨nb, by omega, ?_, ?_⟩
                · simp [va_up, upd]; exact nI_lt (by omega) (by omega)
                · simp [va_up, upd]; exact nI_lt (by omega) (by omega)
              · have hkn : k ≠ nb := by omega
                refine ⟨k, by omega, ?_, ?_⟩
                · simpa [va_up, upd, hkn, f4] using w1
                · simpa [va_up, upd, hkn, f4] using w2
          by_cases hpj : p + 1 ≤ j ∧ j < q
          · rw [if_pos hpj]
            exact ⟨Or.inr rfl, fun _ => ek.mpr (Or.inl hpj), fun _ => rfl⟩
          · rw [if_neg hpj]
            refine ⟨g1, fun w => ek.mpr (Or.inr (g2.mp w)), fun w => ?_⟩
            rcases ek.mp w with w | w
            · exact absurd w hpj
            · exact g2.mpr w
      · simpa [iPt, va_up, f4] using ht
  · exact ⟨1, S, 0, _, (bar_bad (n := n) hg).1, (bar_bad (n := n) hg).2, by simp [va_up], by simp, Inv_16 hI2⟩
