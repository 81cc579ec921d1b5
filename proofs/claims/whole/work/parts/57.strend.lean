/-! stretching strip after strip -/
theorem st_fin {M0 C M C' M' : mSt} {np nb b v E : Nat} {P Q ec : Nat → Nat} (h : StR M0 C M np nb b v E P Q ec) (hv : v < b) (g : Nat) (hg : g = 0 ∨ (P (b - 1) + Q (b - 1) + g ≤ E ∧ gG M0 nb b v P Q g)) (c15 : C'.1 = C.1) (m29 : M'.1 = M.1) (r29 : C'.2.1 29 = C.2.1 29) (r30 : C'.2.1 30 = C.2.1 30) (r33 : C'.2.1 33 = C.2.1 33) (r47 : M'.2.1 47 = M.2.1 47) (r50 : M'.2.1 50 = M.2.1 50)
    (p1 : ∀ j, j < b → C'.2.1 31 j = nI (if v < j then P j + g else P j)) (p2 : ∀ j, j < b → M'.2.1 48 j = nI (if v < j then P j + g else P j)) (q1 : ∀ j, j < b → C'.2.1 32 j = nI (if j = v then Q v + g else Q j)) (q2 : ∀ j, j < b → M'.2.1 49 j = nI (if j = v then Q v + g else Q j)) :
    StR M0 C' M' np nb b (v + 1) E (fun j => if v < j then P j + g else P j) (fun j => if j = v then Q v + g else Q j) ec := by
  obtain ⟨s15, s29, sb, sE, sE2, sj⟩ := h
  have mono := ends_mono (b := b) (P := P) (Q := Q) (fun j hj => (sj j (by omega)).2.2.1.2.2.2 hj)
  refine ⟨by rw [c15]; exact s15, by rw [m29]; exact s29, sb, sE, sE2, ?_⟩
  intro j hj
  obtain ⟨a1, _, ⟨a3, a4, a5, a6⟩, a7⟩ := sj j hj
  have em : P j + Q j ≤ P (b - 1) + Q (b - 1) := by
    have := mono (b - 1 - j) j (by omega)
    rwa [show j + (b - 1 - j) = b - 1 by omega] at this
  refine ⟨by rw [r29, r30, r33, r47, r50]; exact a1, ⟨p1 j hj, p2 j hj, q1 j hj, q2 j hj⟩, ⟨?_, ?_, ?_, ?_⟩, ?_⟩
  · show (if v < j then P j + g else P j) + (if j = v then Q v + g else Q j) ≤ E
    have : P (b - 1) + Q (b - 1) + g ≤ E ∨ g = 0 := by
      rcases hg with z | z
      · exact Or.inr z
      · exact Or.inl z.1
    by_cases w1 : j = v
    · subst w1
      rw [if_neg (by omega), if_pos rfl]; omega
    · rw [if_neg w1]
      split <;> omega
  · show bB M0 nb (nI (if v < j then P j + g else P j)) = 0
    split
    · rename_i w
      rcases hg with z | z
      · rw [z]; exact a4
      · exact (z.2.2 j w hj).1
    · exact a4
  · show bB M0 nb (nI ((if v < j then P j + g else P j) + (if j = v then Q v + g else Q j))) = 0
    by_cases w1 : j = v
    · subst w1
      rw [if_neg (by omega), if_pos rfl]
      rcases hg with z | z
      · rw [z]; exact a5
      · have := z.2.1
        rwa [Nat.add_assoc] at this
    · rw [if_neg w1]
      split
      · rename_i w
        rcases hg with z | z
        · rw [z]; exact a5
        · have := (z.2.2 j w hj).2
          rwa [show P j + g + Q j = P j + Q j + g by omega]
      · exact a5
  · intro z
    have := a6 z
    show (if v < j then P j + g else P j) + (if j = v then Q v + g else Q j) ≤ (if v < j + 1 then P (j + 1) + g else P (j + 1))
    by_cases w1 : j = v
    · subst w1
      rw [if_neg (by omega), if_pos rfl, if_pos (by omega)]; omega
    · rw [if_neg w1]
      split <;> split <;> omega
  · intro z
    show nI (if j = v then Q v + g else Q j) = _
    rw [if_neg (by omega)]
    exact a7 (by omega)
theorem st_step {C0 M0 C M : mSt} {np nb b v E n n2 : Nat} {P Q ec : Nat → Nat} (hn : 500 ≤ n) (hn2 : 500 ≤ n2) (hb : Bs C0 M0 np nb) (hd : dF C0 C) (hm : mF M0 M) (h : StR M0 C M np nb b v E P Q ec) (hv : v < b) :
    ∃ C' M' P' Q', I49_2 n C (nI v) = some (0, C', nI (v + 1)) ∧ I75_2 n2 M (nI v) = some (0, M', nI (v + 1)) ∧ dF C0 C' ∧ mF M0 M' ∧ C'.1 = C.1 ∧ M'.1 = M.1 ∧ StR M0 C' M' np nb b (v + 1) E P' Q' ec := by
  have hfull := h
  obtain ⟨s15, s29, sb, sE, sE2, sj⟩ := h
  have h5 := hb.2.2.1.1
  obtain ⟨⟨c1, c47, c29, c30, _, _⟩, ⟨g31, g48, g32, g49⟩, ⟨pE, _⟩, hQ⟩ := sj v hv
  have hQv := hQ (Nat.le_refl _)
  have cp : cPc C M0 np := cPc_of (hd.1 11 (by omega) (by omega) (by omega)) (fun c q1 q2 => hd.2.1 c (by omega)) hb.2.2.1
  have f33 := F33_c cp c1
  have hx := nI_ix (n := v) (N := 100) (by omega) (by omega)
  have hy := nI_ix (n := v) (N := 202) (by omega) (by omega)
  have hc := nI_clamp (n := v) (by omega)
  rw [hc] at hx hy
  have e1 : ¬ nI b ≤ nI v := nI_ge (by omega) (by omega)
  have e2 : ¬ (100 : Int32) ≤ nI v := nI_ge (b := 100) (by omega) (by omega)
  have pE1 : P (b - 1) + Q (b - 1) ≤ E := (sj (b - 1) (by omega)).2.2.1.1
  -- the wish
  obtain ⟨_, iL, iH, _⟩ := hb.2.2.1.2.2.2 (ec v / 2) (by omega)
  obtain ⟨Ln, _, hLn, eL⟩ := io_nat (l := 1) (m := 200) (by omega) (by omega) iL
  rw [eL] at iH
  obtain ⟨Hn, hH1, hH2, eH⟩ := io_nat (l := Ln) (m := 200) (by omega) (by omega) iH
  obtain ⟨w, hw, ew, ew0, ew1⟩ : ∃ w : Nat, w ≤ 200 ∧ (if ec v % 2 = 0 then M0.2.1 36 (ec v / 2) else M0.2.1 37 (ec v / 2)) - nI (Q v) = nI w ∧ (ec v % 2 = 0 → M0.2.1 36 (ec v / 2) - M0.2.1 35 (ec v / 2) = nI w) ∧ (¬ ec v % 2 = 0 → w = 0) := by
    by_cases q : ec v % 2 = 0
    · refine ⟨Hn - Ln, by omega, ?_, ?_, fun z => absurd q z⟩
      · rw [if_pos q, hQv, lnC, if_pos q, eH, eL, nI_sub hH1]
      · intro _
        rw [eH, eL, nI_sub hH1]
    · refine ⟨0, by omega, ?_, fun z => absurd z q, fun _ => rfl⟩
      rw [if_neg q, hQv, lnC, if_neg q, Int32.sub_self]; rfl
  -- the class's growth
  obtain ⟨y0, hy0⟩ : ∃ y0, y0 = if E - (P (b - 1) + Q (b - 1)) < w then E - (P (b - 1) + Q (b - 1)) else w := ⟨_, rfl⟩
  have y0w : y0 ≤ w := by rw [hy0]; split <;> omega
  have y0r : P (b - 1) + Q (b - 1) + y0 ≤ E := by rw [hy0]; split <;> omega
  obtain ⟨g, gy, g0, gn, gl⟩ := L50_ev hb hd hfull hv y0 n (by omega) (by omega)
  have f50 : F50 n C (nI v) (nI w) = some (nI g) := by
    have f25 : F25 C = some (nI E) := by
      have : F25 C = some (M0.1 17 - M0.1 21) := by simp [F25, hd.1, hb.1.1, hb.1.2.2.2.2.2.2]
      rw [this, sE]
    have fb : C.1 15 - 1 = nI (b - 1) := by
      rw [s15]
      obtain ⟨b', rfl⟩ : ∃ b', b = b' + 1 := ⟨b - 1, by omega⟩
      exact nI_pred b'
    have f51 := F51_s hfull (show b - 1 < b by omega)
    have mn : (if nI (E - (P (b - 1) + Q (b - 1))) < nI w then nI (E - (P (b - 1) + Q (b - 1))) else nI w) = nI y0 := by
      by_cases q : E - (P (b - 1) + Q (b - 1)) < w
      · rw [if_pos (nI_lt q (by omega)), hy0, if_pos q]
      · rw [if_neg (nI_nlt (by omega) (by omega)), hy0, if_neg q]
    rcases gl with ⟨z1, z2⟩ | z2
    · have : nI g = 0 := by rw [z1]; rfl
      rw [this]
      simp [F50, f25, fb, f51, nI_sub pE1, mn, z2]
    · simp [F50, f25, fb, f51, nI_sub pE1, mn, z2]
  have hg : g = 0 ∨ (P (b - 1) + Q (b - 1) + g ≤ E ∧ gG M0 nb b v P Q g) := by
    rcases g0 with z | z
    · exact Or.inl z
    · exact Or.inr ⟨by omega, z⟩
  obtain ⟨C', a1, a2, a3, a4, a5⟩ := L54_ev sb (nI g) (b - (v + 1)) n (v + 1) (C.1, va_up C.2.1 32 (upd (C.2.1 32) v (C.2.1 32 v + nI g)), C.2.2) rfl (by omega) (by omega) s15
  have i49 : I49_2 n C (nI v) = some (0, C', nI (v + 1)) := by
    rw [← nI_1] at a1
    rw [← nI_1]
    simp [I49_2, s15, e1, e2, hx, hc, c29, c30, f33, g32, ew, f50, F54]
    rw [g32] at a1
    simp [a1]
  have dC' : dF C0 C' := by
    refine ⟨?_, ?_, a3.trans hd.2.2⟩
    · intro i i1 i2 i3; rw [a2]; exact hd.1 i i1 i2 i3
    · intro c hc2
      rw [a4 c (by omega)]
      simpa [va_up, show c ≠ 32 by omega] using hd.2.1 c hc2
  have C31 : ∀ j, j < b → C'.2.1 31 j = nI (if v < j then P j + g else P j) := by
    intro j hj
    rw [a5 j]
    have := (sj j hj).2.1.1
    by_cases q : v < j
    · rw [if_pos ⟨q, hj⟩, if_pos q]
      simp [va_up, this, nI_add]
    · rw [if_neg (by omega), if_neg q]
      simpa [va_up] using this
  have C32 : ∀ j, j < b → C'.2.1 32 j = nI (if j = v then Q v + g else Q j) := by
    intro j hj
    rw [a4 32 (by omega)]
    have := (sj j hj).2.1.2.2.1
    by_cases q : j = v
    · subst q; simp [va_up, upd, this, nI_add]
    · simpa [va_up, upd, q] using this
  have hcx := nI_ix (n := ec v / 2) (N := 5) (by omega) (by omega)
  have hcc := nI_clamp (n := ec v / 2) (by omega)
  rw [hcc] at hcx
  have hh := nI_half (c := ec v) (by omega)
  have par := (c_par (c := ec v) (by omega)).2
  rw [hh] at par
  by_cases q : ec v % 2 = 0
  · -- the reference's growth
    obtain ⟨g', gy', g0', gn', gl'⟩ := L7553_ev hb hm hfull hv w n2 (by omega) (by omega)
    have eg : g' = g := by
      rcases Nat.lt_trichotomy g g' with z | z | z
      · exfalso
        rcases g0' with y | y
        · omega
        · refine gn g' z ?_ y.2
          rw [hy0]; split <;> omega
      · exact z.symm
      · exfalso
        rcases hg with y | y
        · omega
        · exact gn' g z (by omega) y
    subst eg
    obtain ⟨M', b1, b2, b3, b4, b5⟩ := L7590_ev sb (nI v) (nI g') (b - (v + 1)) n2 (v + 1) (M.1, va_up M.2.1 49 (upd (M.2.1 49) v (M.2.1 49 v + nI g')), M.2.2) rfl (by omega) (by omega) s29
    have e36 : M.2.1 36 = M0.2.1 36 := hm.2.1 36 (by omega)
    have e35 : M.2.1 35 = M0.2.1 35 := hm.2.1 35 (by omega)
    refine ⟨C', M', _, _, i49, ?_, dC', ⟨?_, ?_, b3.trans hm.2.2⟩, a2, b2, st_fin hfull hv g' hg a2 b2 ?_ ?_ ?_ ?_ ?_ C31 ?_ C32 ?_⟩
    · rw [← nI_1] at b1
      rw [← nI_1]
      simp [I75_2, s29, e1, hy, hc, c47, hh, par, q, hcx, hcc, e36, e35, ew0 q, gl', b1]
    · intro i hi; rw [b2]; exact hm.1 i hi
    · intro c hc2
      rw [b4 c (by omega)]
      simpa [va_up, show c ≠ 49 by omega] using hm.2.1 c hc2
    · rw [a4 29 (by omega)]; simp [va_up]
    · rw [a4 30 (by omega)]; simp [va_up]
    · rw [a4 33 (by omega)]; simp [va_up]
    · rw [b4 47 (by omega)]; simp [va_up]
    · rw [b4 50 (by omega)]; simp [va_up]
    · intro j hj
      rw [b5 j]
      have := (sj j hj).2.1.2.1
      by_cases z : v < j
      · rw [if_pos ⟨z, hj⟩, if_pos z]
        simp [va_up, this, nI_add]
      · rw [if_neg (by omega), if_neg z]
        simpa [va_up] using this
    · intro j hj
      rw [b4 49 (by omega)]
      have := (sj j hj).2.1.2.2.2
      by_cases z : j = v
      · subst z; simp [va_up, upd, this, nI_add]
      · simpa [va_up, upd, z] using this
  · have w0 := ew1 q
    have gz : g = 0 := by omega
    subst gz
    refine ⟨C', M, _, _, i49, ?_, dC', hm, a2, rfl, st_fin hfull hv 0 (Or.inl rfl) a2 rfl ?_ ?_ ?_ rfl rfl C31 ?_ C32 ?_⟩
    · simp [I75_2, s29, e1, hy, hc, c47, hh, par, q, nI_1]
    · rw [a4 29 (by omega)]; simp [va_up]
    · rw [a4 30 (by omega)]; simp [va_up]
    · rw [a4 33 (by omega)]; simp [va_up]
    · intro j hj
      have := (sj j hj).2.1.2.1
      simpa using this
    · intro j hj
      have := (sj j hj).2.1.2.2.2
      by_cases z : j = v
      · subst z; simpa using this
      · simpa [z] using this
theorem st_loop {C0 M0 : mSt} {np nb b E : Nat} {ec : Nat → Nat} (hb : Bs C0 M0 np nb) : ∀ (d n n2 v : Nat) (C M : mSt) (P Q : Nat → Nat), b - v = d → v ≤ b → 500 + d < n → 500 + d < n2 → dF C0 C → mF M0 M → StR M0 C M np nb b v E P Q ec →
    ∃ C' M' P' Q', L49_2 n C (nI v) = some (1, C', 0) ∧ L75_2 n2 M (nI v) = some (1, M', 0) ∧ dF C0 C' ∧ mF M0 M' ∧ C'.1 = C.1 ∧ M'.1 = M.1 ∧ StR M0 C' M' np nb b b E P' Q' ec := by
  intro d
  induction d with
  | zero =>
    intro n n2 v C M P Q h1 h2 h3 h4 hd hm h
    obtain ⟨n, rfl⟩ : ∃ k, n = k + 1 := ⟨n - 1, by omega⟩
    obtain ⟨n2, rfl⟩ : ∃ k, n2 = k + 1 := ⟨n2 - 1, by omega⟩
    have : v = b := by omega
    subst this
    have sb := h.2.2.1
    have l := nI_le (Nat.le_refl v) (show v < 2 ^ 31 by omega)
    exact ⟨C, M, P, Q, by simp [L49_2, I49_2, h.1, l], by simp [L75_2, I75_2, h.2.1, l], hd, hm, rfl, rfl, h⟩
  | succ d ih =>
    intro n n2 v C M P Q h1 h2 h3 h4 hd hm h
    obtain ⟨n, rfl⟩ : ∃ k, n = k + 1 := ⟨n - 1, by omega⟩
    obtain ⟨n2, rfl⟩ : ∃ k, n2 = k + 1 := ⟨n2 - 1, by omega⟩
    obtain ⟨C1, M1, P1, Q1, a1, a2, a3, a4, a5, a6, a7⟩ := st_step (n := n) (n2 := n2) (by omega) (by omega) hb hd hm h (by omega)
    obtain ⟨C2, M2, P2, Q2, b1, b2, b3, b4, b5, b6, b7⟩ := ih n n2 (v + 1) C1 M1 P1 Q1 (by omega) (by omega) (by omega) (by omega) a3 a4 a7
    exact ⟨C2, M2, P2, Q2, by simp [L49_2, a1, b1], by simp [L75_2, a2, b2], b3, b4, b5.trans a5, b6.trans a6, b7⟩
/-- from the best pattern found to the pattern that is kept -/
theorem stretch_ev {C0 M0 C M : mSt} {np nb b n n2 : Nat} {v2 : Int32} (hn : 700 ≤ n) (hn2 : 700 ≤ n2) (hb : Bs C0 M0 np nb) (hd : dF C0 C) (hm : mF M0 M) (hB : BestR M0 C M np nb b v2) :
    ∃ C' M', F49 n C = some C' ∧ F75 n2 M = some M' ∧ dF C0 C' ∧ mF M0 M' ∧ C'.1 = C.1 ∧ M'.1 = M.1 ∧ cPt C' M' np b := by
  obtain ⟨B13, B15, B29, Bb, BE⟩ := hB
  have z0 : nI 0 = 0 := rfl
  by_cases hb0 : b = 0
  · subst hb0
    obtain ⟨n, rfl⟩ : ∃ k, n = k + 1 := ⟨n - 1, by omega⟩
    obtain ⟨n2, rfl⟩ : ∃ k, n2 = k + 1 := ⟨n2 - 1, by omega⟩
    exact ⟨C, M, by simp [F49, L49_2, I49_2, B15, z0], by simp [F75, L75_2, I75_2, B29, z0], hd, hm, rfl, rfl, Bb, B15, B29, fun j hj => by omega⟩
  · have h5 := hb.2.2.1.1
    -- the numbers behind the cells
    have num : ∀ j, ∃ x : Nat × Nat × Nat, j < b → (x.1 < 2 * np ∧ M.2.1 47 j = nI x.1 ∧ C.2.1 29 j = nI (x.1 / 2) ∧ C.2.1 30 j = nI (x.1 % 2)) ∧ (M.2.1 48 j = nI x.2.1 ∧ M.2.1 49 j = nI x.2.2 ∧ nI x.2.2 = lnC M0 x.1 ∧ x.2.1 ≤ 220 ∧ x.2.2 ≤ 200) := by
      intro j
      by_cases hj : j < b
      · obtain ⟨e, ⟨q1, q2, q3⟩, ⟨r1, r2, r3, r4, r5⟩, t1, ⟨⟨P, hP, eP⟩, _⟩, _⟩ := BE j hj
        obtain ⟨X, eX, _, hX⟩ := lnC_n hb.2.2.1 q1
        exact ⟨(e, P, X), fun _ => ⟨⟨q1, q2, r1, r2⟩, eP, t1.trans eX, eX.symm, hP, hX⟩⟩
      · exact ⟨(0, 0, 0), fun z => absurd z hj⟩
    obtain ⟨x, hx⟩ := Classical.axiomOfChoice num
    have geo : ∀ j, j < b → gE M0 nb (nI (x j).2.1) (nI (x j).2.2) ∧ (j + 1 < b → nI (x (j + 1)).2.1 = nI (x j).2.1 + nI (x j).2.2 + M0.1 19) := by
      intro j hj
      obtain ⟨e, ⟨q1, q2, q3⟩, _, t1, g1, g2⟩ := BE j hj
      obtain ⟨⟨y1, y2, _⟩, y3, y4, y5, y6, y7⟩ := hx j hj
      have ee : e = (x j).1 := by
        rw [y2, nI_eq (by omega) (by omega)] at q2
        exact q2.symm
      rw [ee, ← y5, y3] at g1 g2
      refine ⟨g1, fun z => ?_⟩
      rw [← (hx (j + 1) z).2.1]
      exact g2 z
    obtain ⟨E, eE, _, hE⟩ : ∃ E : Nat, M0.1 17 - M0.1 21 = nI E ∧ 0 ≤ E ∧ E ≤ 200 := by
      have g := (geo 0 (by omega)).1.2.1
      have y := (hx 0 (by omega)).2
      rw [nI_add] at g
      obtain ⟨E, e1, e2, e3⟩ := end_n hb.2.1 (by omega) g
      exact ⟨E, e1, by omega, e3⟩
    obtain ⟨K, _, hK, eK⟩ := io_nat (l := 0) (m := 20) (by omega) (by omega) hb.2.1.2.2.1
    have hS : StR M0 C M np nb b 0 E (fun j => (x j).2.1) (fun j => (x j).2.2) (fun j => (x j).1) := by
      refine ⟨B15, B29, Bb, eE, hE, ?_⟩
      intro j hj
      obtain ⟨e, ⟨q1, q2, q3⟩, ⟨r1, r2, r3, r4, r5⟩, t1, _, _⟩ := BE j hj
      obtain ⟨⟨y1, y2, y21, y22⟩, y3, y4, y5, y6, y7⟩ := hx j hj
      obtain ⟨g1, g2⟩ := geo j hj
      refine ⟨⟨y1, y2, y21, y22, q3, r5⟩, ⟨r3.trans y3, y3, r4.trans y4, y4⟩, ⟨?_, g1.2.2.1, ?_, ?_⟩, fun _ => y5⟩
      · have := g1.2.1
        rw [nI_add, eE, nI_leI (by omega) (by omega)] at this
        exact this
      · have := g1.2.2.2
        rwa [nI_add] at this
      · intro z
        have := g2 z
        have y8 := (hx (j + 1) z).2.2.2.2.1
        rw [eK, nI_add, nI_add, nI_eq (by omega) (by omega)] at this
        show (x j).2.1 + (x j).2.2 ≤ (x (j + 1)).2.1
        omega
    obtain ⟨C', M', P', Q', b1, b2, b3, b4, b5, b6, b7⟩ := st_loop hb b n n2 0 C M _ _ (by omega) (by omega) (by omega) (by omega) hd hm hS
    rw [z0] at b1 b2
    refine ⟨C', M', by simp [F49, b1], by simp [F75, b2], b3, b4, b5, b6, b7.2.2.1, b7.1, b7.2.1, ?_⟩
    intro j hj
    obtain ⟨⟨q1, q2, q3, q4, q5, q6⟩, ⟨r1, r2, r3, r4⟩, _⟩ := b7.2.2.2.2.2 j hj
    exact ⟨(x j).1, q1, q2, ⟨q3, q4, r1.trans r2.symm, r3.trans r4.symm, q6⟩, q5⟩
