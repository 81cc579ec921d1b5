/-! the class's state C beside the reference's state M -/
def cSc (C M : mSt) : Prop := C.1 2 = M.1 17 ∧ C.1 3 = M.1 18 ∧ C.1 4 = M.1 19 ∧ C.1 5 = M.1 22 ∧ C.1 6 = M.1 23 ∧ C.1 7 = M.1 20 ∧ C.1 8 = M.1 21
def cRg (M : mSt) : Prop := iO 1 (M.1 17) 200 ∧ iO 1 (M.1 18) 200 ∧ iO 0 (M.1 19) 20 ∧ iO 0 (M.1 20) 200 ∧ iO 0 (M.1 21) 200 ∧ (M.1 22 = 1 ∨ M.1 22 = 2) ∧ iO 0 (M.1 23) 20
def cPc (C M : mSt) (np : Nat) : Prop := np ≤ 5 ∧ C.1 11 = nI np ∧ M.1 25 = nI np ∧ ∀ j, j < np → (C.2.1 4 j = M.2.1 35 j ∧ C.2.1 5 j = M.2.1 36 j ∧ C.2.1 6 j = M.2.1 37 j ∧ C.2.1 7 j = M.2.1 38 j ∧ C.2.1 8 j = M.2.1 39 j ∧ C.2.1 9 j = M.2.1 40 j) ∧
  (iO 1 (M.2.1 35 j) 200 ∧ iO (M.2.1 35 j) (M.2.1 36 j) 200 ∧ iO 1 (M.2.1 37 j) 200 ∧ iO 0 (M.2.1 38 j) 100000 ∧ iO 0 (M.2.1 39 j) 20 ∧ (M.2.1 40 j = 0 ∨ M.2.1 40 j = 1))
def cPt (C M : mSt) (np ns : Nat) : Prop := ns ≤ 100 ∧ C.1 15 = nI ns ∧ M.1 29 = nI ns ∧ ∀ j, j < ns → ∃ c : Nat, c < 2 * np ∧ M.2.1 47 j = nI c ∧ (C.2.1 29 j = nI (c / 2) ∧ C.2.1 30 j = nI (c % 2) ∧ C.2.1 31 j = M.2.1 48 j ∧ C.2.1 32 j = M.2.1 49 j ∧ C.2.1 33 j = M.2.1 50 j) ∧ iO 0 (M.2.1 50 j) 21
theorem Inv_c {S : mSt} (h : Inv S) : cSc S S ∧ cRg S ∧ ∃ np nb, cPc S S np ∧ cBr S S nb ∧ (S.1 27 = 1 → ∃ ns, cPt S S np ns) := by
  obtain ⟨he, hr, np, nb, hp, hb, ht⟩ := h
  simp only [iEq] at he
  simp only [iRg] at hr
  refine ⟨by simp [cSc, he], by simp [cRg, hr], np, nb, ⟨hp.1, he.2.2.2.2.2.2.2.2.2.1.trans hp.2.1, hp.2.1, hp.2.2⟩, hb, ?_⟩
  intro z
  obtain ⟨_, ns, q⟩ := ht z
  exact ⟨ns, q⟩
theorem F29_c {C M : mSt} {np p : Nat} (h : cPc C M np) (hp : p < np) : F29 C (nI p) = some 1 := by
  rcases has_29 (S := C) h.1 h.2.1 (nI p) with ⟨_, q⟩ | ⟨q, _⟩
  · exact absurd ⟨p, hp, rfl⟩ q
  · exact q
theorem F30_c {C M : mSt} {np p : Nat} (h : cPc C M np) (hp : p < np) : F30 C (nI p) = some (M.2.1 39 p) := by
  have h5 := h.1
  have hx := nI_ix (n := p) (N := 5) (by omega) (by omega)
  have hc := nI_clamp (n := p) (by omega)
  rw [hc] at hx
  simp [F30, F29_c h hp, hx, hc, (h.2.2.2 p hp).1]
theorem F31_c {C M : mSt} {np c : Nat} (h : cPc C M np) (hp : c < 2 * np) : F31 C (nI (c / 2)) (nI (c % 2)) = some (acC M c) := by
  have h5 := h.1
  have hp2 : c / 2 < np := by omega
  have hx := nI_ix (n := c / 2) (N := 5) (by omega) (by omega)
  have hc := nI_clamp (n := c / 2) (by omega)
  rw [hc] at hx
  have z0 : nI 0 = 0 := rfl
  have z1 : nI 1 = 1 := rfl
  rcases (show c % 2 = 0 ∨ c % 2 = 1 by omega) with z | z
  · simp [F31, F29_c h hp2, hx, hc, (h.2.2.2 _ hp2).1, acC, z, z0]
  · simp [F31, F29_c h hp2, hx, hc, (h.2.2.2 _ hp2).1, acC, z, z1]
theorem F32_c {C M : mSt} {np c : Nat} (h : cPc C M np) (hp : c < 2 * np) : F32 C (nI (c / 2)) (nI (c % 2)) = some (lnC M c) := by
  have h5 := h.1
  have hp2 : c / 2 < np := by omega
  have hx := nI_ix (n := c / 2) (N := 5) (by omega) (by omega)
  have hc := nI_clamp (n := c / 2) (by omega)
  rw [hc] at hx
  have z0 : nI 0 = 0 := rfl
  have z1 : nI 1 = 1 := rfl
  rcases (show c % 2 = 0 ∨ c % 2 = 1 by omega) with z | z
  · simp [F32, F29_c h hp2, hx, hc, (h.2.2.2 _ hp2).1, lnC, z, z0]
  · simp [F32, F29_c h hp2, hx, hc, (h.2.2.2 _ hp2).1, lnC, z, z1]
theorem F33_c {C M : mSt} {np c : Nat} (h : cPc C M np) (hp : c < 2 * np) : F33 C (nI (c / 2)) (nI (c % 2)) = some (if c % 2 = 0 then M.2.1 36 (c / 2) else M.2.1 37 (c / 2)) := by
  have h5 := h.1
  have hp2 : c / 2 < np := by omega
  have hx := nI_ix (n := c / 2) (N := 5) (by omega) (by omega)
  have hc := nI_clamp (n := c / 2) (by omega)
  rw [hc] at hx
  have z0 : nI 0 = 0 := rfl
  have z1 : nI 1 = 1 := rfl
  rcases (show c % 2 = 0 ∨ c % 2 = 1 by omega) with z | z
  · simp [F33, F29_c h hp2, hx, hc, (h.2.2.2 _ hp2).1, z, z0]
  · simp [F33, F29_c h hp2, hx, hc, (h.2.2.2 _ hp2).1, z, z1]
/-- width, kerf, stages, knives as numbers -/
theorem cRg_n {C M : mSt} (h : cRg M) (hs : cSc C M) : ∃ W K st kn : Nat, (M.1 18 = nI W ∧ M.1 19 = nI K ∧ M.1 22 = nI st ∧ M.1 23 = nI kn) ∧ (C.1 3 = nI W ∧ C.1 4 = nI K ∧ C.1 5 = nI st ∧ C.1 6 = nI kn) ∧ W ≤ 200 ∧ K ≤ 20 ∧ (st = 1 ∨ st = 2) ∧ kn ≤ 20 := by
  obtain ⟨h17, h18, h19, h20, h21, h22, h23⟩ := h
  obtain ⟨W, _, hW, eW⟩ := io_nat (l := 1) (m := 200) (by omega) (by omega) h18
  obtain ⟨K, _, hK, eK⟩ := io_nat (l := 0) (m := 20) (by omega) (by omega) h19
  obtain ⟨kn, _, hkn, ekn⟩ := io_nat (l := 0) (m := 20) (by omega) (by omega) h23
  obtain ⟨s1, s2, s3, s4, s5, _⟩ := hs
  rcases h22 with e | e
  · exact ⟨W, K, 1, kn, ⟨eW, eK, e, ekn⟩, ⟨s2.trans eW, s3.trans eK, s4.trans e, s5.trans ekn⟩, hW, hK, Or.inl rfl, hkn⟩
  · exact ⟨W, K, 2, kn, ⟨eW, eK, e, ekn⟩, ⟨s2.trans eW, s3.trans eK, s4.trans e, s5.trans ekn⟩, hW, hK, Or.inr rfl, hkn⟩
theorem acC_n {C M : mSt} {np c : Nat} (h : cPc C M np) (hc : c < 2 * np) : ∃ X, acC M c = nI X ∧ 1 ≤ X ∧ X ≤ 200 := by
  obtain ⟨_, g1, _, g2, _⟩ := h.2.2.2 (c / 2) (by omega)
  unfold acC
  split
  · obtain ⟨j, a, b, e⟩ := io_nat (l := 1) (m := 200) (by omega) (by omega) g2
    exact ⟨j, e, a, b⟩
  · obtain ⟨j, a, b, e⟩ := io_nat (l := 1) (m := 200) (by omega) (by omega) g1
    exact ⟨j, e, a, b⟩
/-- how many copies of a choice stand side by side at most: one number for both -/
theorem most_c {C M : mSt} {np c : Nat} (hr : cRg M) (hs : cSc C M) (h : cPc C M np) (hc : c < 2 * np) : ∃ m, m ≤ 21 ∧ F23 C (acC M c) = some (nI m) ∧ ∀ n f, 30 ≤ n → f < 2 ^ 31 → F72 n M (nI c) (nI f) = some (nI (if f < m then f else m)) := by
  obtain ⟨W, K, st, kn, ⟨m1, m2, m3, m4⟩, ⟨c1, c2, c3, c4⟩, hW, hK, hst, hkn⟩ := cRg_n hr hs
  obtain ⟨X, eX, hX1, hX2⟩ := acC_n h hc
  have h5 := h.1
  refine ⟨mostN W K X (alN st kn), ?_, ?_, ?_⟩
  · have : mostN W K X (alN st kn) ≤ alN st kn := by unfold mostN; split <;> omega
    have : alN st kn ≤ 21 := by unfold alN; split <;> omega
    omega
  · rw [eX]
    exact F23_ev c1 c2 c3 c4 hW hK ⟨hX1, hX2⟩ hst hkn
  · intro n f hn hf
    exact F72_ev hn (by omega) m1 m2 eX m3 m4 hW hK ⟨hX1, hX2⟩ hst hkn hf
