/-! want -/
theorem want_bad {S : mSt} {a b c d e : Int32} (h : ¬ (iO 1 a 200 ∧ iO a b 200 ∧ iO 1 c 200 ∧ iO 0 d 100000 ∧ iO 0 e 20)) : F85 S a b c d e = some (1, S) ∧ F63 S a b c d e = some (0, (va_up S.1 16 1, S.2.1, S.2.2)) := by
  by_cases h0 : (5 : Int32) ≤ S.1 25
  · by_cases h1 : iO 1 a 200
    · by_cases h2 : iO a b 200
      · by_cases h3 : iO 1 c 200
        · by_cases h4 : iO 0 d 100000
          · have h5 : ¬ iO 0 e 20 := by simpa [h1, h2, h3, h4] using h
            exact ⟨by simp [F85, F7, F6_in h1, F6_in h2, F6_in h3, F6_in h4, F6_out h5], by simp [F63, F60_in h1, F61_in h2, F60_in h3, F61_in h4, F61_out h5, F62_0, h0]⟩
          · exact ⟨by simp [F85, F7, F6_in h1, F6_in h2, F6_in h3, F6_out h4], by simp [F63, F60_in h1, F61_in h2, F60_in h3, F61_out h4, F62_0, h0]⟩
        · exact ⟨by simp [F85, F7, F6_in h1, F6_in h2, F6_out h3], by simp [F63, F60_in h1, F61_in h2, F60_out h3, F62_0, h0]⟩
      · exact ⟨by simp [F85, F7, F6_in h1, F6_out h2], by simp [F63, F60_in h1, F61_out h2, F62_0, h0]⟩
    · exact ⟨by simp [F85, F7, F6_out h1], by simp [F63, F60_out h1, F62_0, h0]⟩
  · by_cases h1 : iO 1 a 200
    · by_cases h2 : iO a b 200
      · by_cases h3 : iO 1 c 200
        · by_cases h4 : iO 0 d 100000
          · have h5 : ¬ iO 0 e 20 := by simpa [h1, h2, h3, h4] using h
            exact ⟨by simp [F85, F7, F6_in h1, F6_in h2, F6_in h3, F6_in h4, F6_out h5], by simp [F63, F60_in h1, F61_in h2, F60_in h3, F61_in h4, F61_out h5, F62_0, h0]⟩
          · exact ⟨by simp [F85, F7, F6_in h1, F6_in h2, F6_in h3, F6_out h4], by simp [F63, F60_in h1, F61_in h2, F60_in h3, F61_out h4, F62_0, h0]⟩
        · exact ⟨by simp [F85, F7, F6_in h1, F6_in h2, F6_out h3], by simp [F63, F60_in h1, F61_in h2, F60_out h3, F62_0, h0]⟩
      · exact ⟨by simp [F85, F7, F6_in h1, F6_out h2], by simp [F63, F60_in h1, F61_out h2, F62_0, h0]⟩
    · exact ⟨by simp [F85, F7, F6_out h1], by simp [F63, F60_out h1, F62_0, h0]⟩
theorem op_want {S : mSt} (hI : Inv S) (a b c d e : Int32) : ∃ k S1 v S2, F85 S a b c d e = some (k, S1) ∧ F63 S1 a b c d e = some (v, S2) ∧ S2.1 16 = k ∧ (k = 0 → S2.2.2 0 = v.toInt64) ∧ Inv S2 := by
  have hI2 := hI
  obtain ⟨he, hr, np, nb, hp, hb, ht⟩ := hI
  have e11 : S.1 11 = nI np := he.2.2.2.2.2.2.2.2.2.1.trans hp.2.1
  have e25 : S.1 25 = nI np := hp.2.1
  by_cases hg : iO 1 a 200 ∧ iO a b 200 ∧ iO 1 c 200 ∧ iO 0 d 100000 ∧ iO 0 e 20
  · obtain ⟨h1, h2, h3, h4, h5⟩ := hg
    by_cases hf : np = 5
    · subst hf
      have n5 : (5 : Int32) ≤ nI 5 := nI_le (Nat.le_refl _) (by omega)
      have o5 : ¬ iO 0 (nI 5) 4 := fun z => nI_ge (a := 4) (b := 5) (by omega) (by omega) z.2
      exact ⟨2, S, 0, (va_up S.1 16 2, S.2.1, S.2.2), by simp [F85, F7, F6_in h1, F6_in h2, F6_in h3, F6_in h4, F6_in h5, F27, e11, F6_out o5], by simp [F63, F60_in h1, F61_in h2, F60_in h3, F61_in h4, F61_in h5, F62_10, e25, n5], by simp [va_up], by simp, Inv_16 hI2⟩
    · have h55 := hp.1
      have hl : np < 5 := by omega
      have n5 : ¬ (5 : Int32) ≤ nI np := nI_ge (a := np) (b := 5) hl (by omega)
      have o5 : iO 0 (nI np) 4 := ⟨nI_pos' (by omega), nI_le (a := np) (b := 4) (by omega) (by omega)⟩
      have hx := nI_ix (n := np) (N := 5) hl (by omega)
      have hc := nI_clamp (n := np) (by omega)
      rw [hc] at hx
      have hn : vp_nar .boolean 0 = 0 := rfl
      refine ⟨0, (va_up S.1 11 (nI np + 1), va_up (va_up (va_up (va_up (va_up (va_up S.2.1 4 (upd (S.2.1 4) np a)) 5 (upd (S.2.1 5) np b)) 6 (upd (S.2.1 6) np c)) 7 (upd (S.2.1 7) np d)) 8 (upd (S.2.1 8) np e)) 9 (upd (S.2.1 9) np 0), vp_updL S.2.2 0 (nI np).toInt64), nI np, (va_up (va_up (va_up S.1 11 (nI np + 1)) 16 0) 25 (nI np + 1), va_up (va_up (va_up (va_up (va_up (va_up (va_up (va_up (va_up (va_up (va_up (va_up S.2.1 4 (upd (S.2.1 4) np a)) 5 (upd (S.2.1 5) np b)) 6 (upd (S.2.1 6) np c)) 7 (upd (S.2.1 7) np d)) 8 (upd (S.2.1 8) np e)) 9 (upd (S.2.1 9) np 0)) 35 (upd (S.2.1 35) np a)) 36 (upd (S.2.1 36) np b)) 37 (upd (S.2.1 37) np c)) 38 (upd (S.2.1 38) np d)) 39 (upd (S.2.1 39) np e)) 40 (upd (S.2.1 40) np 0), vp_updL S.2.2 0 (nI np).toInt64), by simp [F85, F7, F6_in h1, F6_in h2, F6_in h3, F6_in h4, F6_in h5, F27, F28, e11, F6_in o5, hx, hc, hn], ?_, by simp [va_up], by simp [vp_updL], ?_, ?_, np + 1, nb, ?_, ?_, ?_⟩
      · have q : nI np + 1 - 1 = nI np := Int32.add_sub_cancel _ _
        simp [F63, F60_in h1, F61_in h2, F60_in h3, F61_in h4, F61_in h5, F62_111, e25, n5, va_up, hx, hc, hn, q]
      · simp only [iEq] at he; simp [iEq, va_up, he]
      · simpa [iRg, va_up] using hr
      · refine ⟨hl, by simp [va_up, nI_1], ?_⟩
        intro i hi
        by_cases hij : i = np
        · subst hij
          simp [va_up, upd, h1, h2, h3, h4, h5]
        · have q := hp.2.2 i (by omega)
          simpa [va_up, upd, hij] using q
      · simpa [iBr, va_up] using hb
      · intro z
        have z2 : S.1 27 = 1 := by simpa [va_up] using z
        obtain ⟨q1, ns, q2, q3, q4, q5⟩ := ht z2
        refine ⟨by simpa [va_up] using q1, ns, q2, by simpa [va_up] using q3, by simpa [va_up] using q4, ?_⟩
        intro j hj
        obtain ⟨c', w1, w2, w3⟩ := q5 j hj
        exact ⟨c', by omega, by simpa [va_up] using w2, by simpa [va_up] using w3⟩
  · exact ⟨1, S, 0, _, (want_bad hg).1, (want_bad hg).2, by simp [va_up], by simp, Inv_16 hI2⟩
