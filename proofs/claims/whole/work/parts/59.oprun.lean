/-! run, as the law calls it -/
theorem op_run {n : Nat} (hn : 3000000 ≤ n) {S : mSt} (hI : Inv S) (a : Int32) : ∃ k S1 v S2, F89 n S a = some (k, S1) ∧ F68 n S1 a = some (v, S2) ∧ S2.1 16 = k ∧ (k = 0 → S2.2.2 0 = v.toInt64) ∧ Inv S2 := by
  by_cases ha : iO 0 a 100000
  · obtain ⟨N, _, hN, rfl⟩ := io_nat (l := 0) (m := 100000) (by omega) (by omega) ha
    obtain ⟨cs, cr, np, nb, cp, cb, _⟩ := Inv_c hI
    obtain ⟨w, C', M', b, e1, _, ⟨f1, f2, f3, f4⟩, _⟩ := run_both hn hN cs cr cp cb
    have g1 : ∀ i, 16 ≤ i → (C'.1, C'.2.1, vp_updL C'.2.2 0 w.toInt64).1 i = S.1 i := f1
    have g2 : ∀ c, 34 ≤ c → (C'.1, C'.2.1, vp_updL C'.2.2 0 w.toInt64).2.1 c = S.2.1 c := fun c hc => f3 c (by omega)
    obtain ⟨S1, eS1⟩ : ∃ S1 : mSt, S1 = (C'.1, C'.2.1, vp_updL C'.2.2 0 w.toInt64) := ⟨_, rfl⟩
    rw [← eS1] at g1 g2
    obtain ⟨w2, C2, M2, b2, e2, e3, _, ⟨h1, h2, h3, h4⟩, ⟨k1, k2, k3, k4, k5⟩, ht⟩ := run_both (X := S1) hn hN (by simpa [cSc, g1] using cs) (by simpa [cRg, g1] using cr) (by simpa [cPc, g1, g2] using cp) (by simpa [cBr, g1, g2] using cb)
    have ew : w2 = w ∧ C2 = C' := by
      rw [e1] at e2
      injection e2 with e2
      injection e2 with _ e2
      injection e2 with e2 e4
      exact ⟨e2.symm, e4.symm⟩
    obtain ⟨rfl, rfl⟩ := ew
    have s16 : ∀ i, i < 16 → M2.1 i = C2.1 i := fun i hi => by rw [h1 i hi, eS1]
    have s2 : ∀ i, 2 ≤ i → i ≤ 11 → M2.1 i = S.1 i := fun i i1 i2 => by rw [s16 i (by omega), f2 i i1 i2]
    have s17 : ∀ i, 17 ≤ i → i ≤ 26 → M2.1 i = S.1 i := fun i i1 i2 => by rw [h2 i i1 i2, g1 i (by omega)]
    have r42 : ∀ c, c ≤ 42 → M2.2.1 c = C2.2.1 c := fun c hc => by rw [h3 c hc, eS1]
    have r10 : ∀ c, (c ≤ 10 ∨ (34 ≤ c ∧ c ≤ 42)) → M2.2.1 c = S.2.1 c := fun c hc => by rw [r42 c (by omega), f3 c (by omega)]
    have ss : M2.2.2 0 = w2.toInt64 := by rw [h4, eS1]; simp [vp_updL]
    refine ⟨0, S1, w2, M2, ?_, e3, k1, fun _ => ss, ?_⟩
    · rw [eS1]
      simp [F89, e1]
    · obtain ⟨he, hr, _⟩ := hI
      simp only [iEq] at he
      simp only [iRg] at hr
      have m0 : M2.1 0 = 1 := by rw [s16 0 (by omega)]; exact k3
      refine ⟨?_, ?_, np, nb, ⟨cp.1, ?_, ?_⟩, ⟨cb.1, ?_, ?_, ?_⟩, ?_⟩
      · simp [iEq, s2, s17, m0, k2, he]
      · simp [iRg, s17, k2, hr]
      · rw [s17 25 (by omega) (by omega)]; exact cp.2.2.1
      · simpa [r10] using cp.2.2.2
      · rw [s17 26 (by omega) (by omega)]; exact cb.2.1
      · simpa [r10] using cb.2.2.1
      · simpa [r10] using cb.2.2.2
      · intro _
        refine ⟨⟨?_, k5⟩, b2, ht.1, ?_, ht.2.2.1, ?_⟩
        · rw [s16 1 (by omega)]; exact k4
        · rw [s16 15 (by omega)]; exact ht.2.1
        · have := ht.2.2.2
          simpa [r42] using this
  · exact ⟨1, S, 0, (va_up S.1 16 1, S.2.1, S.2.2), by simp [F89, F11, F6_out ha], by simp [F68, F61_out ha, F62_0], by simp [va_up], by simp, Inv_16 hI⟩
