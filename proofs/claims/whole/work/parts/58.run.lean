/-! run -/
theorem L40_ev : ∀ (d n i : Nat) (C : mSt), 5 - i = d → i ≤ 5 → d < n → ∃ C' : mSt, L40_3 n C (nI i) = some (1, C', 0) ∧ C'.1 = C.1 ∧ C'.2.2 = C.2.2 ∧ (∀ c, c ≠ 24 → C'.2.1 c = C.2.1 c) ∧ (∀ j, i ≤ j → j < 5 → C'.2.1 24 j = C.2.1 16 j) ∧ (∀ j, j < i → C'.2.1 24 j = C.2.1 24 j) := by
  intro d
  induction d with
  | zero =>
    intro n i C h1 h2 h3
    obtain ⟨n, rfl⟩ : ∃ k, n = k + 1 := ⟨n - 1, by omega⟩
    have : i = 5 := by omega
    subst this
    have l : (5 : Int32) ≤ nI 5 := by decide
    exact ⟨C, by simp [L40_3, I40_3, l], rfl, rfl, fun _ _ => rfl, fun j q1 q2 => by omega, fun _ _ => rfl⟩
  | succ d ih =>
    intro n i C h1 h2 h3
    obtain ⟨n, rfl⟩ : ∃ k, n = k + 1 := ⟨n - 1, by omega⟩
    have hx := nI_ix (n := i) (N := 5) (by omega) (by omega)
    have hc := nI_clamp (n := i) (by omega)
    rw [hc] at hx
    have e1 : ¬ (5 : Int32) ≤ nI i := nI_ge (b := 5) (by omega) (by omega)
    obtain ⟨C', a1, a2, a3, a4, a5, a6⟩ := ih n (i + 1) (C.1, va_up C.2.1 24 (upd (C.2.1 24) i (C.2.1 16 i)), C.2.2) (by omega) (by omega) (by omega)
    refine ⟨C', ?_, a2, a3, ?_, ?_, ?_⟩
    · rw [← nI_1] at a1
      simp [L40_3, I40_3, e1, hx, hc, a1]
    · intro c hc2
      rw [a4 c hc2]; simp [va_up, hc2]
    · intro j q1 q2
      by_cases q : j = i
      · subst q
        rw [a6 j (by omega)]; simp [va_up, upd]
      · rw [a5 j (by omega) q2]; simp [va_up]
    · intro j q
      rw [a6 j (by omega)]; simp [va_up, upd, show j ≠ i by omega]
theorem L6820_ev {np : Nat} (h5 : np ≤ 5) (a : Int32) : ∀ (d n i : Nat) (M : mSt), np - i = d → i ≤ np → d < n → M.1 25 = nI np → ∃ M' : mSt, L68_20 n M a (nI i) = some (1, M', a, 0) ∧ M'.1 = M.1 ∧ M'.2.2 = M.2.2 ∧ (∀ c, c ≠ 46 → M'.2.1 c = M.2.1 c) ∧ (∀ j, i ≤ j → j < np → M'.2.1 46 j = M.2.1 39 j) ∧ (∀ j, j < i → M'.2.1 46 j = M.2.1 46 j) := by
  intro d
  induction d with
  | zero =>
    intro n i M h1 h2 h3 h4
    obtain ⟨n, rfl⟩ : ∃ k, n = k + 1 := ⟨n - 1, by omega⟩
    have : i = np := by omega
    subst this
    have l := nI_le (Nat.le_refl i) (show i < 2 ^ 31 by omega)
    exact ⟨M, by simp [L68_20, I68_20, h4, l], rfl, rfl, fun _ _ => rfl, fun j q1 q2 => by omega, fun _ _ => rfl⟩
  | succ d ih =>
    intro n i M h1 h2 h3 h4
    obtain ⟨n, rfl⟩ : ∃ k, n = k + 1 := ⟨n - 1, by omega⟩
    have hx := nI_ix (n := i) (N := 5) (by omega) (by omega)
    have hc := nI_clamp (n := i) (by omega)
    rw [hc] at hx
    have e1 : ¬ nI np ≤ nI i := nI_ge (by omega) (by omega)
    obtain ⟨M', a1, a2, a3, a4, a5, a6⟩ := ih n (i + 1) (M.1, va_up M.2.1 46 (upd (M.2.1 46) i (M.2.1 39 i)), M.2.2) (by omega) (by omega) (by omega) h4
    refine ⟨M', ?_, a2, a3, ?_, ?_, ?_⟩
    · rw [← nI_1] at a1
      simp [L68_20, I68_20, h4, e1, hx, hc, a1]
    · intro c hc2
      rw [a4 c hc2]; simp [va_up, hc2]
    · intro j q1 q2
      by_cases q : j = i
      · subst q
        rw [a6 j (by omega)]; simp [va_up, upd]
      · rw [a5 j (by omega) q2]; simp [va_up]
    · intro j q
      rw [a6 j (by omega)]; simp [va_up, upd, show j ≠ i by omega]
theorem sN_le {f : Nat → Nat} {n m : Nat} (h : ∀ i, i < n → f i ≤ m) : sN f n ≤ n * m := by
  induction n with
  | zero => simp [sN]
  | succ n ih =>
    have a := ih (fun i hi => h i (by omega))
    have b := h n (by omega)
    unfold sN
    rw [Nat.add_mul, Nat.one_mul]
    omega
theorem run_both {S X : mSt} {np nb N n : Nat} (hn : 3000000 ≤ n) (hN : N ≤ 100000) (cs : cSc S X) (cr : cRg X) (cp : cPc S X np) (cb : cBr S X nb) :
    ∃ w C' M' b, F11 n S (nI N) = some (0, w, C') ∧ F68 n X (nI N) = some (w, M') ∧
      ((∀ i, 16 ≤ i → C'.1 i = S.1 i) ∧ (∀ i, 2 ≤ i → i ≤ 11 → C'.1 i = S.1 i) ∧ (∀ c, (c ≤ 10 ∨ 34 ≤ c) → C'.2.1 c = S.2.1 c) ∧ C'.2.2 = S.2.2) ∧
      ((∀ i, i < 16 → M'.1 i = X.1 i) ∧ (∀ i, 17 ≤ i → i ≤ 26 → M'.1 i = X.1 i) ∧ (∀ c, c ≤ 42 → M'.2.1 c = X.2.1 c) ∧ M'.2.2 = X.2.2) ∧
      (M'.1 16 = 0 ∧ M'.1 27 = 1 ∧ C'.1 0 = 1 ∧ C'.1 1 = M'.1 28 ∧ (M'.1 28 = 0 ∨ M'.1 28 = 1)) ∧ cPt C' M' np b := by
  have z0 : nI 0 = 0 := rfl
  have c0 : (0 : Int32).toNatClampNeg = 0 := rfl
  have h5 := cp.1
  have oN : iO 0 (nI N) 100000 := ⟨nI_pos' (by omega), nI_le (b := 100000) hN (by omega)⟩
  -- the reference's start
  obtain ⟨M1, a1, a2, a3, a4, a5, _⟩ := L6820_ev h5 (nI N) np n 0 (va_up X.1 16 0, X.2.1, X.2.2) (by omega) (by omega) (by omega) (by simpa [va_up] using cp.2.2.1)
  rw [z0] at a1
  obtain ⟨Ms, eMs⟩ : ∃ Ms : mSt, Ms = (va_up (va_up (va_up M1.1 27 1) 28 1) 29 0, va_up (va_up M1.2.1 43 (upd (M1.2.1 43) 0 0)) 44 (upd (M1.2.1 44) 0 (M1.1 20)), M1.2.2) := ⟨_, rfl⟩
  have m1 : ∀ i, i ≠ 16 → i ≠ 27 → i ≠ 28 → i ≠ 29 → Ms.1 i = X.1 i := by
    intro i i1 i2 i3 i4
    rw [eMs, a2]; simp [va_up, i1, i2, i3, i4]
  have m2 : ∀ c, c ≤ 42 → Ms.2.1 c = X.2.1 c := by
    intro c hc
    rw [eMs]
    show va_up (va_up M1.2.1 43 _) 44 _ c = _
    rw [va_up_ne _ _ (by omega), va_up_ne _ _ (by omega), a4 c (by omega)]
  have m46 : ∀ p, p < np → Ms.2.1 46 p = X.2.1 39 p := by
    intro p hp
    rw [eMs]
    have := a5 p (by omega) hp
    simpa [va_up] using this
  have m43 : Ms.2.1 43 0 = nI 0 := by rw [eMs]; simp [va_up, upd]; rfl
  have m44 : Ms.2.1 44 0 = X.1 20 := by rw [eMs, a2]; simp [va_up, upd]
  have cs' : cSc S Ms := by simpa [cSc, m1] using cs
  have cr' : cRg Ms := by simpa [cRg, m1] using cr
  have cp' : cPc S Ms np := by simpa [cPc, m1, m2 35 (by omega), m2 36 (by omega), m2 37 (by omega), m2 38 (by omega), m2 39 (by omega), m2 40 (by omega)] using cp
  have cb' : cBr S Ms nb := by simpa [cBr, m1, m2 41 (by omega), m2 42 (by omega)] using cb
  -- the kinds
  obtain ⟨Ck, b1, b2, b3, b4⟩ := F35_ev (n := n) (by omega) cr' cs' cp'
  have hb : Bs Ck Ms np nb := by
    refine ⟨cSc_of (fun i i1 i2 => b2.1 i (by omega)) cs', cr', cPc_of (b2.1 11 (by omega)) (fun c c1 c2 => b2.2.1 c (by omega)) cp', ?_, b3⟩
    simpa [cBr, b2.2.1 2 (by omega)] using cb'
  -- the class's start
  obtain ⟨C1, d1, d2, d3, d4, d5, _⟩ := L40_ev 5 n 0 Ck (by omega) (by omega) (by omega)
  rw [z0] at d1
  obtain ⟨Cs, eCs⟩ : ∃ Cs : mSt, Cs = (va_up (va_up (va_up C1.1 14 0) 15 0) 13 0, va_up (va_up (va_up C1.2.1 25 (upd (C1.2.1 25) 0 0)) 26 (upd (C1.2.1 26) 0 (C1.1 7))) 27 (upd (C1.2.1 27) 0 0), C1.2.2) := ⟨_, rfl⟩
  have f40 : F40 n Ck = some Cs := by
    rw [eCs]
    simp [F40, d1]
  have dCs : dF Ck Cs := by
    refine ⟨?_, ?_, by rw [eCs]; exact d3⟩
    · intro i i1 i2 i3
      rw [eCs, d2]; simp [va_up, i1, i2, i3]
    · intro c hc
      rw [eCs]
      show va_up (va_up (va_up C1.2.1 25 _) 26 _) 27 _ c = _
      rw [va_up_ne _ _ (by omega), va_up_ne _ _ (by omega), va_up_ne _ _ (by omega), d4 c (by omega)]
  have lfE : ∀ p, p < np → ∃ l, l ≤ 20 ∧ X.2.1 39 p = nI l := by
    intro p hp
    obtain ⟨l, _, l2, l3⟩ := io_nat (l := 0) (m := 20) (by omega) (by omega) (cp.2.2.2 p hp).2.2.2.2.2.1
    exact ⟨l, l2, l3⟩
  have lfN : ∀ p, p < np → X.2.1 39 p = nI (X.2.1 39 p).toNatClampNeg ∧ (X.2.1 39 p).toNatClampNeg ≤ 20 := by
    intro p hp
    obtain ⟨l, l2, l3⟩ := lfE p hp
    rw [l3, nI_clamp (by omega)]
    exact ⟨rfl, l2⟩
  have hS : Sim Ck Ms Cs Ms np nb 0 0 0 (fun p => (X.2.1 39 p).toNatClampNeg) (fun _ => 0) 0 0 := by
    refine ⟨dCs, ⟨fun _ _ => rfl, fun _ _ => rfl, rfl⟩, ⟨?_, ?_, ?_, by omega, fun j hj => by omega⟩, ⟨?_, ?_, m43, by omega, ?_, ?_, ?_⟩, ?_, ?_, fun j hj => by omega⟩
    · rw [eCs]; simp [va_up]
    · rw [eCs]; simp [va_up]; rfl
    · rw [eMs]; simp [va_up]; rfl
    · rw [eCs]; simp [va_up]; rfl
    · rw [eCs]; simp [va_up, upd, rk]; rfl
    · rw [m44, eCs, d2]
      have e7 : Ck.1 7 = X.1 20 := by rw [b2.1 7 (by omega)]; exact cs.2.2.2.2.2.1
      simp [va_up, upd, e7]
    · rw [eCs]; simp [va_up, upd]
    · rw [m44]
      obtain ⟨P, _, p2, p3⟩ := io_nat (l := 0) (m := 200) (by omega) (by omega) cr.2.2.2.1
      exact ⟨P, by omega, p3⟩
    · intro p hp
      obtain ⟨l1, l2⟩ := lfN p hp
      refine ⟨?_, by rw [m46 p hp]; exact l1⟩
      rw [eCs]
      have e24 : C1.2.1 24 p = X.2.1 39 p := by rw [d5 p (by omega) (by omega), b4 p (by omega), if_pos hp, m2 39 (by omega)]
      simpa [va_up, e24] using l1
    · have := sN_le (f := fun p => (X.2.1 39 p).toNatClampNeg) (n := np) (m := 20) (fun p hp => (lfN p hp).2)
      have : np * 20 ≤ 5 * 20 := Nat.mul_le_mul_right _ h5
      show sN _ np + 0 ≤ 100
      omega
  obtain ⟨q, C2, M2, b, v2, hq, g1, g2, g3, g4, g5, g28⟩ := search hb hN (2 * N + 0) n n Cs Ms 0 0 0 _ _ 0 0 N 0 rfl (by omega) (by omega) (by omega) hS
  rw [z0] at g1 g2
  -- the end, with what was proved
  have fin : ∀ pv : Int32, (pv = 0 ∨ pv = 1) → F39 n Ck (nI N) = some (pv, C2) → (∀ M3 : mSt, F75 n (va_up M2.1 28 pv, M2.2.1, M2.2.2) = some M3 → F68 n X (nI N) = some (v2, M3)) →
      ∃ w C' M' b, F11 n S (nI N) = some (0, w, C') ∧ F68 n X (nI N) = some (w, M') ∧
      ((∀ i, 16 ≤ i → C'.1 i = S.1 i) ∧ (∀ i, 2 ≤ i → i ≤ 11 → C'.1 i = S.1 i) ∧ (∀ c, (c ≤ 10 ∨ 34 ≤ c) → C'.2.1 c = S.2.1 c) ∧ C'.2.2 = S.2.2) ∧
      ((∀ i, i < 16 → M'.1 i = X.1 i) ∧ (∀ i, 17 ≤ i → i ≤ 26 → M'.1 i = X.1 i) ∧ (∀ c, c ≤ 42 → M'.2.1 c = X.2.1 c) ∧ M'.2.2 = X.2.2) ∧
      (M'.1 16 = 0 ∧ M'.1 27 = 1 ∧ C'.1 0 = 1 ∧ C'.1 1 = M'.1 28 ∧ (M'.1 28 = 0 ∨ M'.1 28 = 1)) ∧ cPt C' M' np b := by
    intro pv hpv e39 e68
    have dC : dF Ck (va_up C2.1 1 pv, C2.2.1, C2.2.2) := ⟨fun i i1 i2 i3 => by rw [← g3.1 i i1 i2 i3]; simp [va_up, i3], g3.2.1, g3.2.2⟩
    have dM : mF Ms (va_up M2.1 28 pv, M2.2.1, M2.2.2) := ⟨fun i hi => by rw [← g4.1 i hi]; simp [va_up, hi], g4.2.1, g4.2.2⟩
    have dB : BestR Ms (va_up C2.1 1 pv, C2.2.1, C2.2.2) (va_up M2.1 28 pv, M2.2.1, M2.2.2) np nb b v2 := by
      simpa [BestR, bE, va_up] using g5
    obtain ⟨C3, M3, s1, s2, s3, s4, s5, s6, s7⟩ := stretch_ev (n := n) (n2 := n) (by omega) (by omega) hb dC dM dB
    have c13 : C3.1 13 = v2 := by rw [s5]; simpa [va_up] using g5.1
    refine ⟨v2, (va_up C3.1 0 1, C3.2.1, C3.2.2), M3, b, ?_, e68 M3 s2, ⟨?_, ?_, ?_, ?_⟩, ⟨?_, ?_, ?_, ?_⟩, ⟨?_, ?_, by simp [va_up], ?_, ?_⟩, ?_⟩
    · simp [F11, F6_in oN, b1, e39, hpv, s1, c13]
    · intro i hi
      show va_up C3.1 0 1 i = _
      rw [va_up_ne _ _ (by omega), s3.1 i (by omega) (by omega) (by omega), b2.1 i (by omega)]
    · intro i i1 i2
      show va_up C3.1 0 1 i = _
      rw [va_up_ne _ _ (by omega), s3.1 i (by omega) (by omega) (by omega), b2.1 i (by omega)]
    · intro c hc
      show C3.2.1 c = _
      rw [s3.2.1 c (by omega), b2.2.1 c (by omega)]
    · exact s3.2.2.trans b2.2.2
    · intro i hi
      rw [s4.1 i (by omega), m1 i (by omega) (by omega) (by omega) (by omega)]
    · intro i i1 i2
      rw [s4.1 i (by omega), m1 i (by omega) (by omega) (by omega) (by omega)]
    · intro c hc
      rw [s4.2.1 c hc, m2 c hc]
    · rw [s4.2.2, eMs]; exact a3
    · rw [s4.1 16 (by omega), eMs, a2]; simp [va_up]
    · rw [s4.1 27 (by omega), eMs]; simp [va_up]
    · rw [s6]
      show va_up C3.1 0 1 1 = _
      rw [va_up_ne _ _ (by omega), s5]
      simp [va_up]
    · rw [s6]; simpa [va_up] using hpv
    · simpa [cPt, va_up] using s7
  have e68 : F68 n X (nI N) = (if q = 1 then ((F75 n M2).bind fun r51 => (some (v2, r51))) else (if q = 2 then ((F75 n M2).bind fun r54 => (some (v2, r54))) else (if q = 3 then ((F75 n ((va_up M2.1 28 (0 : Int32)), M2.2.1, M2.2.2)).bind fun r57 => (some (v2, r57))) else none))) := by
    rw [eMs] at g2
    simp [F68, F61_in oN, F62_111, a1, g2]
  rcases hq with rfl | rfl
  · have p28 : M2.1 28 = 1 := by
      rw [g28, eMs]; simp [va_up]
    refine fin 1 (Or.inr rfl) (by simp [F39, f40, g1]) ?_
    intro M3 e
    have ee : (va_up M2.1 28 1, M2.2.1, M2.2.2) = M2 := by
      have : va_up M2.1 28 1 = M2.1 := by
        funext i
        by_cases hi : i = 28
        · subst hi; simp [va_up, p28]
        · simp [va_up, hi]
      rw [this]
    rw [ee] at e
    rw [e68, e]; rfl
  · refine fin 0 (Or.inl rfl) (by simp [F39, f40, g1]) ?_
    intro M3 e
    rw [e68, e]; rfl
