/-! the kinds that a search tries, beside the choices of the reference -/
def msC (M : mSt) (c : Nat) : Nat := mostN (M.1 18).toNatClampNeg (M.1 19).toNatClampNeg (acC M c).toNatClampNeg (alN (M.1 22).toNatClampNeg (M.1 23).toNatClampNeg)
theorem ms_c {C M : mSt} {np c : Nat} (hr : cRg M) (hs : cSc C M) (h : cPc C M np) (hc : c < 2 * np) : msC M c ≤ 21 ∧ F23 C (acC M c) = some (nI (msC M c)) ∧ ∀ n f, 30 ≤ n → f < 2 ^ 31 → F72 n M (nI c) (nI f) = some (nI (if f < msC M c then f else msC M c)) := by
  obtain ⟨W, K, st, kn, ⟨m1, m2, m3, m4⟩, ⟨c1, c2, c3, c4⟩, hW, hK, hst, hkn⟩ := cRg_n hr hs
  obtain ⟨X, eX, hX1, hX2⟩ := acC_n h hc
  have h5 := h.1
  have e : msC M c = mostN W K X (alN st kn) := by
    unfold msC
    rw [m1, m2, eX, m3, m4, nI_clamp (by omega), nI_clamp (by omega), nI_clamp (by omega), nI_clamp (by omega), nI_clamp (by omega)]
  rw [e]
  refine ⟨?_, ?_, ?_⟩
  · have : mostN W K X (alN st kn) ≤ alN st kn := by unfold mostN; split <;> omega
    have : alN st kn ≤ 21 := by unfold alN; split <;> omega
    omega
  · rw [eX]
    exact F23_ev c1 c2 c3 c4 hW hK ⟨hX1, hX2⟩ hst hkn
  · intro n f hn hf
    exact F72_ev hn (by omega) m1 m2 eX m3 m4 hW hK ⟨hX1, hX2⟩ hst hkn hf
def gd (M : mSt) (c : Nat) : Bool := decide ((c % 2 = 0 ∨ M.2.1 40 (c / 2) = 1) ∧ 1 ≤ msC M c)
def rk (M : mSt) : Nat → Nat
  | 0 => 0
  | c + 1 => if gd M c = true then rk M c + 1 else rk M c
theorem rk_le (M : mSt) (c : Nat) : rk M c ≤ c := by
  induction c with
  | zero => exact Nat.le_refl _
  | succ c ih => unfold rk; split <;> omega
theorem rk_mono (M : mSt) {a b : Nat} (h : a ≤ b) : rk M a ≤ rk M b := by
  induction b with
  | zero => have : a = 0 := by omega
            subst this; exact Nat.le_refl _
  | succ b ih =>
    by_cases q : a = b + 1
    · subst q; exact Nat.le_refl _
    · have := ih (by omega)
      show rk M a ≤ if gd M b = true then rk M b + 1 else rk M b
      split <;> omega
theorem rk_lt (M : mSt) {a b : Nat} (h : a < b) (g : gd M a = true) : rk M a < rk M b := by
  have : rk M (a + 1) ≤ rk M b := rk_mono M (by omega)
  have e : rk M (a + 1) = rk M a + 1 := by simp [rk, g]
  omega
theorem cPc_of {C C' M : mSt} {np : Nat} (h1 : C'.1 11 = C.1 11) (h2 : ∀ c, 4 ≤ c → c ≤ 9 → C'.2.1 c = C.2.1 c) (h : cPc C M np) : cPc C' M np := by
  simpa [cPc, h1, h2 4 (by omega) (by omega), h2 5 (by omega) (by omega), h2 6 (by omega) (by omega), h2 7 (by omega) (by omega), h2 8 (by omega) (by omega), h2 9 (by omega) (by omega)] using h
def kE (M C : mSt) (c : Nat) : Prop := C.2.1 11 (rk M c) = nI (c / 2) ∧ C.2.1 12 (rk M c) = nI (c % 2) ∧ C.2.1 13 (rk M c) = lnC M c ∧ C.2.1 14 (rk M c) = nI (msC M c) ∧ C.2.1 15 (rk M c) = M.2.1 38 (c / 2)
def KL (M C : mSt) (m : Nat) : Prop := C.1 12 = nI (rk M m) ∧ ∀ c, c < m → gd M c = true → kE M C c
def kF (C C' : mSt) : Prop := (∀ i, i ≠ 12 → C'.1 i = C.1 i) ∧ (∀ c, (c < 11 ∨ 16 < c) → C'.2.1 c = C.2.1 c) ∧ C'.2.2 = C.2.2
theorem kF_trans {A B C : mSt} (h1 : kF A B) (h2 : kF B C) : kF A C := ⟨fun i hi => (h2.1 i hi).trans (h1.1 i hi), fun c hc => (h2.2.1 c hc).trans (h1.2.1 c hc), h2.2.2.trans h1.2.2⟩
theorem F36_step {C M : mSt} {np m : Nat} (hr : cRg M) (hs : cSc C M) (h : cPc C M np) (hm : m < 2 * np) (ht : m % 2 = 0 ∨ M.2.1 40 (m / 2) = 1) (hk : KL M C m) : ∃ C', F36 C (nI (m / 2)) (nI (m % 2)) = some C' ∧ kF C C' ∧ C'.2.1 16 = C.2.1 16 ∧ KL M C' (m + 1) := by
  obtain ⟨m21, e23, _⟩ := ms_c hr hs h hm
  have h5 := h.1
  have e31 := F31_c h hm
  by_cases hg : 1 ≤ msC M m
  · have g : gd M m = true := by simp [gd, ht, hg]
    have r9 := rk_le M m
    have n1 : ¬ nI (msC M m) < 1 := nI_nlt (a := msC M m) (b := 1) hg (by omega)
    have o9 : iO 0 (nI (rk M m)) 9 := ⟨nI_pos' (by omega), nI_le (a := rk M m) (b := 9) (by omega) (by omega)⟩
    have hx := nI_ix (n := rk M m) (N := 10) (by omega) (by omega)
    have hc := nI_clamp (n := rk M m) (by omega)
    rw [hc] at hx
    have hcx := nI_ix (n := m / 2) (N := 5) (by omega) (by omega)
    have hcc := nI_clamp (n := m / 2) (by omega)
    rw [hcc] at hcx
    have hn : vp_nar .boolean (nI (m % 2)) = nI (m % 2) := by
      rcases (show m % 2 = 0 ∨ m % 2 = 1 by omega) with z | z <;> rw [z] <;> rfl
    have e32 := F32_c (C := (C.1, va_up (va_up C.2.1 11 (upd (C.2.1 11) (rk M m) (nI (m / 2)))) 12 (upd (C.2.1 12) (rk M m) (nI (m % 2))), C.2.2)) (cPc_of (C := C) rfl (fun c c1 c2 => by simp [va_up, show c ≠ 12 by omega, show c ≠ 11 by omega]) h) hm
    have e7 := (h.2.2.2 (m / 2) (by omega)).1.2.2.2.1
    refine ⟨(va_up C.1 12 (nI (rk M m) + 1), va_up (va_up (va_up (va_up (va_up C.2.1 11 (upd (C.2.1 11) (rk M m) (nI (m / 2)))) 12 (upd (C.2.1 12) (rk M m) (nI (m % 2)))) 13 (upd (C.2.1 13) (rk M m) (lnC M m))) 14 (upd (C.2.1 14) (rk M m) (nI (msC M m)))) 15 (upd (C.2.1 15) (rk M m) (M.2.1 38 (m / 2))), C.2.2), ?_, ⟨?_, ?_, rfl⟩, by simp [va_up], ?_, ?_⟩
    · simp [F36, e31, e23, n1, hk.1, F6_in o9, F29_c h (show m / 2 < np by omega), hx, hc, hn, e32, hcx, hcc, e7]
    · intro i hi
      simp [va_up, hi]
    · intro c hc2
      simp [va_up, show c ≠ 11 by omega, show c ≠ 12 by omega, show c ≠ 13 by omega, show c ≠ 14 by omega, show c ≠ 15 by omega]
    · simp [va_up, rk, g, nI_1]
    · intro c c1 c2
      by_cases q : c = m
      · subst q
        simp [kE, va_up, upd]
      · have := rk_lt M (show c < m by omega) c2
        have ne : rk M c ≠ rk M m := by omega
        have k := hk.2 c (by omega) c2
        simpa [kE, va_up, upd, ne] using k
  · have g : gd M m = false := by simp [gd, hg]
    have n1 : nI (msC M m) < 1 := nI_lt (a := msC M m) (b := 1) (by omega) (by omega)
    refine ⟨C, by simp [F36, e31, e23, n1], ⟨fun _ _ => rfl, fun _ _ => rfl, rfl⟩, rfl, ?_, ?_⟩
    · simpa [rk, g] using hk.1
    · intro c c1 c2
      by_cases q : c = m
      · subst q; rw [g] at c2; cases c2
      · exact hk.2 c (by omega) c2
theorem cSc_of {C C' M : mSt} (h1 : ∀ i, 2 ≤ i → i ≤ 8 → C'.1 i = C.1 i) (h : cSc C M) : cSc C' M := by
  simpa [cSc, h1 2 (by omega) (by omega), h1 3 (by omega) (by omega), h1 4 (by omega) (by omega), h1 5 (by omega) (by omega), h1 6 (by omega) (by omega), h1 7 (by omega) (by omega), h1 8 (by omega) (by omega)] using h
theorem L35_ev {M : mSt} {np : Nat} (hr : cRg M) : ∀ (d n p : Nat) (C : mSt), 5 - p = d → p ≤ 5 → d < n → cSc C M → cPc C M np → KL M C (2 * min p np) → (∀ i, i < p → C.2.1 16 i = if i < np then M.2.1 39 i else 0) →
    ∃ C', L35_7 n C (nI p) = some (1, C', 0) ∧ kF C C' ∧ KL M C' (2 * np) ∧ ∀ i, i < 5 → C'.2.1 16 i = if i < np then M.2.1 39 i else 0 := by
  intro d
  induction d with
  | zero =>
    intro n p C h1 h2 h3 hs h hk h16
    obtain ⟨n, rfl⟩ : ∃ k, n = k + 1 := ⟨n - 1, by omega⟩
    have : p = 5 := by omega
    subst this
    have e5 : (5 : Int32) ≤ nI 5 := by decide
    have h5 := h.1
    rw [show min 5 np = np by omega] at hk
    exact ⟨C, by simp [L35_7, I35_7, e5], ⟨fun _ _ => rfl, fun _ _ => rfl, rfl⟩, hk, h16⟩
  | succ d ih =>
    intro n p C h1 h2 h3 hs h hk h16
    obtain ⟨n, rfl⟩ : ∃ k, n = k + 1 := ⟨n - 1, by omega⟩
    have h5 := h.1
    have e5 : ¬ (5 : Int32) ≤ nI p := nI_ge (a := p) (b := 5) (by omega) (by omega)
    have hx := nI_ix (n := p) (N := 5) (by omega) (by omega)
    have hc := nI_clamp (n := p) (by omega)
    rw [hc] at hx
    by_cases hp : p < np
    · have hC1 : cPc (C.1, va_up C.2.1 16 (upd (C.2.1 16) p (M.2.1 39 p)), C.2.2) M np := cPc_of (C := C) rfl (fun c c1 c2 => by simp [va_up, show c ≠ 16 by omega]) h
      have hS1 : cSc (C.1, va_up C.2.1 16 (upd (C.2.1 16) p (M.2.1 39 p)), C.2.2) M := hs
      have hK1 : KL M (C.1, va_up C.2.1 16 (upd (C.2.1 16) p (M.2.1 39 p)), C.2.2) (2 * p) := by
        rw [show min p np = p by omega] at hk
        simpa [KL, kE, va_up] using hk
      have e1 : (2 * p) / 2 = p := by omega
      have e2 : (2 * p) % 2 = 0 := by omega
      have e3 : (2 * p + 1) / 2 = p := by omega
      have e4 : (2 * p + 1) % 2 = 1 := by omega
      have z0 : nI 0 = 0 := rfl
      have z1 : nI 1 = 1 := rfl
      obtain ⟨C2, a1, a2, a3, a4⟩ := F36_step hr hS1 hC1 (show 2 * p < 2 * np by omega) (Or.inl e2) hK1
      rw [e1, e2, z0] at a1
      have hf1 : kF C (C.1, va_up C.2.1 16 (upd (C.2.1 16) p (M.2.1 39 p)), C.2.2) := ⟨fun _ _ => rfl, fun c hc => by simp [va_up, show c ≠ 16 by omega], rfl⟩
      have hC2 : cPc C2 M np := cPc_of (a2.1 11 (by omega)) (fun c c1 c2 => a2.2.1 c (by omega)) hC1
      have hS2 : cSc C2 M := cSc_of (fun i i1 i2 => a2.1 i (by omega)) hS1
      have q9 : C2.2.1 9 p = M.2.1 40 p := (hC2.2.2.2 p hp).1.2.2.2.2.2
      have f29 : F29 (C.1, va_up C.2.1 16 (upd (C.2.1 16) p (M.2.1 39 p)), C.2.2) (nI p) = some 1 := F29_c hC1 hp
      have fin : ∀ C3 : mSt, kF (C.1, va_up C.2.1 16 (upd (C.2.1 16) p (M.2.1 39 p)), C.2.2) C3 → C3.2.1 16 = upd (C.2.1 16) p (M.2.1 39 p) → KL M C3 (2 * p + 2) → L35_7 (n + 1) C (nI p) = L35_7 n C3 (nI (p + 1)) → ∃ C', L35_7 (n + 1) C (nI p) = some (1, C', 0) ∧ kF C C' ∧ KL M C' (2 * np) ∧ ∀ i, i < 5 → C'.2.1 16 i = if i < np then M.2.1 39 i else 0 := by
        intro C3 k1 k2 k3 k4
        obtain ⟨C', b1, b2, b3, b4⟩ := ih n (p + 1) C3 (by omega) (by omega) (by omega) (cSc_of (fun i i1 i2 => k1.1 i (by omega)) hS1) (cPc_of (k1.1 11 (by omega)) (fun c c1 c2 => k1.2.1 c (by omega)) hC1) (by rw [show min (p + 1) np = p + 1 by omega]; exact k3) (by
          intro i hi
          rw [k2]
          by_cases q : i = p
          · subst q; simp [upd, hp]
          · simp [upd, q]; exact h16 i (by omega))
        exact ⟨C', k4.trans b1, kF_trans hf1 (kF_trans k1 b2), b3, b4⟩
      by_cases q40 : M.2.1 40 p = 1
      · have hK2 : KL M C2 (2 * p + 1) := a4
        obtain ⟨C3, c1, c2, c3, c4⟩ := F36_step hr hS2 hC2 (show 2 * p + 1 < 2 * np by omega) (Or.inr (by rw [e3]; exact q40)) hK2
        rw [e3, e4, z1] at c1
        refine fin C3 (kF_trans a2 c2) (by rw [c3, a3]; simp [va_up]) c4 ?_
        rw [← nI_1]
        simp [L35_7, I35_7, e5, F30_c h hp, hx, hc, f29, a1, q9, q40, c1]
      · have q0 : M.2.1 40 p = 0 := by
          rcases (h.2.2.2 p hp).2.2.2.2.2.2 with q | q
          · exact q
          · exact absurd q q40
        have g : gd M (2 * p + 1) = false := by simp [gd, e3, e4, q40]
        refine fin C2 a2 (by rw [a3]; simp [va_up]) ⟨?_, ?_⟩ ?_
        · have := a4.1
          rw [this]
          show _ = nI (if gd M (2 * p + 1) = true then _ else _)
          rw [g]; rfl
        · intro c c1 c2
          by_cases q : c = 2 * p + 1
          · subst q; rw [g] at c2; cases c2
          · exact a4.2 c (by omega) c2
        · rw [← nI_1]
          simp [L35_7, I35_7, e5, F30_c h hp, hx, hc, f29, a1, q9, q0]
    · have q29 : ∀ C1 : mSt, C1.1 11 = nI np → F29 C1 (nI p) = some 0 := by
        intro C1 e
        rcases has_29 (S := C1) h5 e (nI p) with ⟨q, _⟩ | ⟨_, j, hj, e⟩
        · exact q
        · rw [nI_eq (by omega) (by omega)] at e
          omega
      have f30 : F30 C (nI p) = some 0 := by simp [F30, q29 C h.2.1]
      have f29 := q29 (C.1, va_up C.2.1 16 (upd (C.2.1 16) p 0), C.2.2) h.2.1
      obtain ⟨C', b1, b2, b3, b4⟩ := ih n (p + 1) (C.1, va_up C.2.1 16 (upd (C.2.1 16) p 0), C.2.2) (by omega) (by omega) (by omega) hs (cPc_of (C := C) rfl (fun c c1 c2 => by simp [va_up, show c ≠ 16 by omega]) h) (by
          rw [show min (p + 1) np = min p np by omega]
          simpa [KL, kE, va_up] using hk) (by
          intro i hi
          by_cases q : i = p
          · subst q; simp [va_up, upd, hp]
          · simp [va_up, upd, q]; exact h16 i (by omega))
      refine ⟨C', ?_, kF_trans (B := (C.1, va_up C.2.1 16 (upd (C.2.1 16) p 0), C.2.2)) ⟨fun _ _ => rfl, fun c hc => by simp [va_up, show c ≠ 16 by omega], rfl⟩ b2, b3, b4⟩
      rw [← b1, ← nI_1]
      simp [L35_7, I35_7, e5, f30, hx, hc, f29]
theorem F35_ev {C M : mSt} {np n : Nat} (hn : 10 ≤ n) (hr : cRg M) (hs : cSc C M) (h : cPc C M np) : ∃ C', F35 n C = some C' ∧ kF C C' ∧ KL M C' (2 * np) ∧ ∀ i, i < 5 → C'.2.1 16 i = if i < np then M.2.1 39 i else 0 := by
  obtain ⟨C', b1, b2, b3, b4⟩ := L35_ev hr 5 n 0 (va_up C.1 12 0, C.2.1, C.2.2) (by omega) (by omega) (by omega) (cSc_of (C := C) (fun i i1 i2 => by simp [va_up, show i ≠ 12 by omega]) hs) (cPc_of (C := C) (by simp [va_up]) (fun c c1 c2 => rfl) h) ⟨by simp [va_up, rk]; rfl, fun c c1 c2 => by omega⟩ (fun i hi => by omega)
  have z0 : nI 0 = 0 := rfl
  rw [z0] at b1
  refine ⟨C', by simp [F35, b1], kF_trans (B := (va_up C.1 12 0, C.2.1, C.2.2)) ⟨fun i hi => by simp [va_up, hi], fun _ _ => rfl, rfl⟩ b2, b3, b4⟩
