/-! the search of the class beside the reference's rounds: what holds between, and keeping the better pattern -/
def sE (M0 C M : mSt) (np nb : Nat) (ff : Nat → Nat) (j : Nat) : Prop := ∃ e : Nat, (e < 2 * np ∧ gd M0 e = true ∧ M.2.1 43 j = nI e ∧ M.2.1 45 j = nI (ff j) ∧ 1 ≤ ff j ∧ ff j ≤ 21) ∧ (C.2.1 19 j = nI (e / 2) ∧ C.2.1 20 j = nI (e % 2) ∧ C.2.1 21 j = M.2.1 44 j ∧ C.2.1 22 j = lnC M0 e ∧ C.2.1 23 j = nI (ff j)) ∧ (C.2.1 25 j = nI (rk M0 (e + 1)) ∧ C.2.1 27 (j + 1) = C.2.1 27 j + nI (ff j) * M0.2.1 38 (e / 2)) ∧ gE M0 nb (M.2.1 44 j) (lnC M0 e) ∧ M.2.1 44 (j + 1) = M.2.1 44 j + lnC M0 e + M0.1 19
def bE (M0 C M : mSt) (np nb b j : Nat) : Prop := ∃ e : Nat, (e < 2 * np ∧ M.2.1 47 j = nI e ∧ iO 0 (M.2.1 50 j) 21) ∧ (C.2.1 29 j = nI (e / 2) ∧ C.2.1 30 j = nI (e % 2) ∧ C.2.1 31 j = M.2.1 48 j ∧ C.2.1 32 j = M.2.1 49 j ∧ C.2.1 33 j = M.2.1 50 j) ∧ M.2.1 49 j = lnC M0 e ∧ gE M0 nb (M.2.1 48 j) (lnC M0 e) ∧ (j + 1 < b → M.2.1 48 (j + 1) = M.2.1 48 j + lnC M0 e + M0.1 19)
def BestR (M0 C M : mSt) (np nb b : Nat) (v2 : Int32) : Prop := C.1 13 = v2 ∧ C.1 15 = nI b ∧ M.1 29 = nI b ∧ b ≤ 100 ∧ ∀ j, j < b → bE M0 C M np nb b j
def Sim (C0 M0 C M : mSt) (np nb k c b : Nat) (lf ff : Nat → Nat) (v2 v3 : Int32) : Prop :=
  dF C0 C ∧ mF M0 M ∧ BestR M0 C M np nb b v2 ∧
  (C.1 14 = nI k ∧ C.2.1 25 k = nI (rk M0 c) ∧ M.2.1 43 k = nI c ∧ c ≤ 2 * np ∧ C.2.1 26 k = M.2.1 44 k ∧ C.2.1 27 k = v3 ∧ ∃ P : Nat, P ≤ 220 ∧ M.2.1 44 k = nI P) ∧
  (∀ p, p < np → C.2.1 24 p = nI (lf p) ∧ M.2.1 46 p = nI (lf p)) ∧ sN lf np + sN ff k ≤ 100 ∧
  (∀ j, j < k → sE M0 C M np nb ff j ∧ C.2.1 26 j = M.2.1 44 j)
theorem Sim_k {C0 M0 C M : mSt} {np nb k c b : Nat} {lf ff : Nat → Nat} {v2 v3 : Int32} (h : Sim C0 M0 C M np nb k c b lf ff v2 v3) : k ≤ sN ff k ∧ k ≤ 100 := by
  obtain ⟨_, _, _, _, _, h1, h2⟩ := h
  have : k ≤ sN ff k := sN_len (fun i hi => by
    obtain ⟨⟨e, q, _⟩, _⟩ := h2 i hi
    exact q.2.2.2.2.1)
  omega
theorem L48_ev {k : Nat} (hk : k ≤ 100) : ∀ (d n i : Nat) (C : mSt), k - i = d → i ≤ k → d < n → C.1 15 = nI k → ∃ C' : mSt, L48_19 n C (nI i) = some (1, C', 0) ∧ C'.1 = C.1 ∧ C'.2.2 = C.2.2 ∧ (∀ c, (c < 29 ∨ 33 < c) → C'.2.1 c = C.2.1 c) ∧
    (∀ j, i ≤ j → j < k → C'.2.1 29 j = C.2.1 19 j ∧ C'.2.1 30 j = vp_nar .boolean (C.2.1 20 j) ∧ C'.2.1 31 j = C.2.1 21 j ∧ C'.2.1 32 j = C.2.1 22 j ∧ C'.2.1 33 j = C.2.1 23 j) ∧
    (∀ j, j < i → C'.2.1 29 j = C.2.1 29 j ∧ C'.2.1 30 j = C.2.1 30 j ∧ C'.2.1 31 j = C.2.1 31 j ∧ C'.2.1 32 j = C.2.1 32 j ∧ C'.2.1 33 j = C.2.1 33 j) := by
  intro d
  induction d with
  | zero =>
    intro n i C h1 h2 h3 h4
    obtain ⟨n, rfl⟩ : ∃ k, n = k + 1 := ⟨n - 1, by omega⟩
    have : i = k := by omega
    subst this
    refine ⟨C, ?_, rfl, rfl, fun _ _ => rfl, fun j q1 q2 => by omega, fun j q => ⟨rfl, rfl, rfl, rfl, rfl⟩⟩
    simp [L48_19, I48_19, h4, nI_le (Nat.le_refl i) (show i < 2 ^ 31 by omega)]
  | succ d ih =>
    intro n i C h1 h2 h3 h4
    obtain ⟨n, rfl⟩ : ∃ k, n = k + 1 := ⟨n - 1, by omega⟩
    have hx := nI_ix (n := i) (N := 100) (by omega) (by omega)
    have hc := nI_clamp (n := i) (by omega)
    rw [hc] at hx
    have e1 : ¬ nI k ≤ nI i := nI_ge (by omega) (by omega)
    obtain ⟨C', a1, a2, a3, a4, a5, a6⟩ := ih n (i + 1) (C.1, va_up (va_up (va_up (va_up (va_up C.2.1 29 (upd (C.2.1 29) i (C.2.1 19 i))) 30 (upd (C.2.1 30) i (vp_nar .boolean (C.2.1 20 i)))) 31 (upd (C.2.1 31) i (C.2.1 21 i))) 32 (upd (C.2.1 32) i (C.2.1 22 i))) 33 (upd (C.2.1 33) i (C.2.1 23 i)), C.2.2) (by omega) (by omega) (by omega) h4
    refine ⟨C', ?_, a2, a3, ?_, ?_, ?_⟩
    · rw [← nI_1] at a1
      simp [L48_19, I48_19, h4, e1, hx, hc, a1]
    · intro c hc2
      rw [a4 c hc2]
      simp [va_up, show c ≠ 29 by omega, show c ≠ 30 by omega, show c ≠ 31 by omega, show c ≠ 32 by omega, show c ≠ 33 by omega]
    · intro j q1 q2
      by_cases q : j = i
      · subst q
        simpa [va_up, upd] using a6 j (by omega)
      · simpa [va_up, upd, q] using a5 j (by omega) q2
    · intro j q
      simpa [va_up, upd, show j ≠ i by omega] using a6 j (by omega)
theorem F48_ev {C : mSt} {k n : Nat} (hk : k ≤ 100) (hn : 110 ≤ n) (h14 : C.1 14 = nI k) : ∃ C' : mSt, F48 n C = some C' ∧ C'.1 = va_up C.1 15 (nI k) ∧ C'.2.2 = C.2.2 ∧ (∀ c, (c < 29 ∨ 33 < c) → C'.2.1 c = C.2.1 c) ∧
    (∀ j, j < k → C'.2.1 29 j = C.2.1 19 j ∧ C'.2.1 30 j = vp_nar .boolean (C.2.1 20 j) ∧ C'.2.1 31 j = C.2.1 21 j ∧ C'.2.1 32 j = C.2.1 22 j ∧ C'.2.1 33 j = C.2.1 23 j) := by
  have q1 : ¬ (100 : Int32) < nI k := nI_nlt (a := 100) (b := k) hk (by omega)
  have q2 : (if (0 : Int32) < nI k then nI k else 0) = nI k := by
    by_cases z : 0 < k
    · rw [if_pos (show (0 : Int32) < nI k from nI_lt (a := 0) z (by omega))]
    · rw [show k = 0 by omega]; rfl
  obtain ⟨C', a1, a2, a3, a4, a5, _⟩ := L48_ev hk k n 0 (va_up C.1 15 (nI k), C.2.1, C.2.2) (by omega) (by omega) (by omega) (by simp [va_up])
  have z0 : nI 0 = 0 := rfl
  rw [z0] at a1
  exact ⟨C', by simp [F48, h14, q1, q2, a1], a2, a3, a4, fun j hj => a5 j (by omega) hj⟩
theorem L74_ev {M0 : mSt} {k np : Nat} (h5 : np ≤ 5) (hk : k ≤ 100) : ∀ (d n i : Nat) (M : mSt), k - i = d → i ≤ k → d < n → (M.2.1 35 = M0.2.1 35 ∧ M.2.1 37 = M0.2.1 37) → (∀ j, j < k → ∃ e, e < 2 * np ∧ M.2.1 43 j = nI e) → ∃ M' : mSt, L74_7 n M (nI k) (nI i) = some (1, M', 0, 0) ∧ M'.1 = M.1 ∧ M'.2.2 = M.2.2 ∧ (∀ c, (c < 47 ∨ 50 < c) → M'.2.1 c = M.2.1 c) ∧
    (∀ j, i ≤ j → j < k → ∀ e, e < 2 * np → M.2.1 43 j = nI e → M'.2.1 47 j = nI e ∧ M'.2.1 48 j = M.2.1 44 j ∧ M'.2.1 49 j = lnC M0 e ∧ M'.2.1 50 j = M.2.1 45 j) ∧
    (∀ j, j < i → M'.2.1 47 j = M.2.1 47 j ∧ M'.2.1 48 j = M.2.1 48 j ∧ M'.2.1 49 j = M.2.1 49 j ∧ M'.2.1 50 j = M.2.1 50 j) := by
  intro d
  induction d with
  | zero =>
    intro n i M h1 h2 h3 hr h4
    obtain ⟨n, rfl⟩ : ∃ k, n = k + 1 := ⟨n - 1, by omega⟩
    have : i = k := by omega
    subst this
    refine ⟨M, ?_, rfl, rfl, fun _ _ => rfl, fun j q1 q2 => by omega, fun j q => ⟨rfl, rfl, rfl, rfl⟩⟩
    simp [L74_7, I74_7, nI_le (Nat.le_refl i) (show i < 2 ^ 31 by omega)]
  | succ d ih =>
    intro n i M h1 h2 h3 hr h4
    obtain ⟨n, rfl⟩ : ∃ k, n = k + 1 := ⟨n - 1, by omega⟩
    have hx := nI_ix (n := i) (N := 202) (by omega) (by omega)
    have hc := nI_clamp (n := i) (by omega)
    rw [hc] at hx
    have e1 : ¬ nI k ≤ nI i := nI_ge (by omega) (by omega)
    obtain ⟨e, he, e43⟩ := h4 i (by omega)
    have e70 : F70 (M.1, va_up (va_up M.2.1 47 (upd (M.2.1 47) i (nI e))) 48 (upd (M.2.1 48) i (M.2.1 44 i)), M.2.2) (nI e) = some (lnC M0 e) := by
      rw [F70_ev (by omega)]
      simp [lnC, va_up, hr]
    obtain ⟨M', a1, a2, a3, a4, a5, a6⟩ := ih n (i + 1) (M.1, va_up (va_up (va_up (va_up M.2.1 47 (upd (M.2.1 47) i (nI e))) 48 (upd (M.2.1 48) i (M.2.1 44 i))) 49 (upd (M.2.1 49) i (lnC M0 e))) 50 (upd (M.2.1 50) i (M.2.1 45 i)), M.2.2) (by omega) (by omega) (by omega) (by simpa [va_up] using hr) (by simpa [va_up] using h4)
    refine ⟨M', ?_, a2, a3, ?_, ?_, ?_⟩
    · rw [← nI_1] at a1
      simp [L74_7, I74_7, e1, hx, hc, e43, e70, a1]
    · intro c hc2
      rw [a4 c hc2]
      simp [va_up, show c ≠ 47 by omega, show c ≠ 48 by omega, show c ≠ 49 by omega, show c ≠ 50 by omega]
    · intro j q1 q2 e' he' e43'
      by_cases q : j = i
      · subst q
        have : e' = e := by
          rw [e43] at e43'
          rw [nI_eq (by omega) (by omega)] at e43'
          exact e43'.symm
        subst this
        simpa [va_up, upd] using a6 j (by omega)
      · simpa [va_up, upd, q] using a5 j (by omega) q2 e' he' (by simpa [va_up] using e43')
    · intro j q
      simpa [va_up, upd, show j ≠ i by omega] using a6 j (by omega)
theorem F74_ev {M0 M : mSt} {k np n : Nat} (h5 : np ≤ 5) (hk : k ≤ 100) (hn : 110 ≤ n) (hm : mF M0 M) (h4 : ∀ j, j < k → ∃ e, e < 2 * np ∧ M.2.1 43 j = nI e) : ∃ M' : mSt, F74 n M (nI k) = some M' ∧ M'.1 = va_up M.1 29 (nI k) ∧ M'.2.2 = M.2.2 ∧ (∀ c, (c < 47 ∨ 50 < c) → M'.2.1 c = M.2.1 c) ∧
    (∀ j, j < k → ∀ e, e < 2 * np → M.2.1 43 j = nI e → M'.2.1 47 j = nI e ∧ M'.2.1 48 j = M.2.1 44 j ∧ M'.2.1 49 j = lnC M0 e ∧ M'.2.1 50 j = M.2.1 45 j) := by
  obtain ⟨M', a1, a2, a3, a4, a5, _⟩ := L74_ev (M0 := M0) h5 hk k n 0 (va_up M.1 29 (nI k), M.2.1, M.2.2) (by omega) (by omega) (by omega) ⟨hm.2.1 35 (by omega), hm.2.1 37 (by omega)⟩ h4
  have z0 : nI 0 = 0 := rfl
  rw [z0] at a1
  exact ⟨M', by simp [F74, a1], a2, a3, a4, fun j hj => a5 j (by omega) hj⟩
/-- keeping the better one -/
theorem sim_keep {C0 M0 C M : mSt} {np nb k c b n n2 : Nat} {lf ff : Nat → Nat} {v2 v3 v5 : Int32} (hn : 300 ≤ n) (hn2 : 300 ≤ n2) (hb : Bs C0 M0 np nb) (h : Sim C0 M0 C M np nb k c b lf ff v2 v3) :
    ∃ C2 M2 b' v2', F46 n C = some C2 ∧ K68_340 n2 M v2 v3 (nI k) v5 = some (0, M2, v2', v3, nI k, v5) ∧ Sim C0 M0 C2 M2 np nb k c b' lf ff v2' v3 ∧ M2.1 28 = M.1 28 := by
  obtain ⟨_, hk⟩ := Sim_k h
  obtain ⟨hd, hm, hB, h14, h24, hs, hj⟩ := h
  obtain ⟨k14, k25, k43, kc, k26, k27, kP⟩ := h14
  obtain ⟨B13, B15, B29, Bb, BE⟩ := hB
  have h5 := hb.2.2.1.1
  have o100 : iO 0 (nI k) 100 := ⟨nI_pos' (by omega), nI_le (b := 100) hk (by omega)⟩
  have hx := nI_ix (n := k) (N := 101) (by omega) (by omega)
  have hc := nI_clamp (n := k) (by omega)
  rw [hc] at hx
  have stay : Sim C0 M0 C M np nb k c b lf ff v2 v3 := ⟨hd, hm, ⟨B13, B15, B29, Bb, BE⟩, ⟨k14, k25, k43, kc, k26, k27, kP⟩, h24, hs, hj⟩
  obtain ⟨C2, a1, a2, a3, a4, a5⟩ := F48_ev (C := (va_up C.1 13 v3, C.2.1, C.2.2)) (n := n) hk (by omega) (by simpa [va_up] using k14)
  obtain ⟨M2, b1, b2, b3, b4, b5⟩ := F74_ev (M0 := M0) (M := M) (n := n2) (np := np) h5 hk (by omega) hm (fun j q => by
    obtain ⟨⟨e, q1, _⟩, _⟩ := hj j q
    exact ⟨e, q1.1, q1.2.2.1⟩)
  have kept : Sim C0 M0 C2 M2 np nb k c k lf ff v3 v3 := by
    refine ⟨⟨?_, ?_, a3.trans hd.2.2⟩, ⟨?_, ?_, b3.trans hm.2.2⟩, ⟨?_, ?_, ?_, hk, ?_⟩, ⟨?_, ?_, ?_, kc, ?_, ?_, ?_⟩, ?_, hs, ?_⟩
    · intro i i1 i2 i3
      rw [a2]
      simpa [va_up, i1, i3] using hd.1 i i1 i2 i3
    · intro i hi
      rw [a4 i (by omega)]
      exact hd.2.1 i hi
    · intro i hi
      rw [b2]
      simpa [va_up, hi] using hm.1 i hi
    · intro i hi
      rw [b4 i (by omega)]
      exact hm.2.1 i hi
    · rw [a2]; simp [va_up]
    · rw [a2]; simp [va_up]
    · rw [b2]; simp [va_up]
    · intro j q
      obtain ⟨⟨e, ⟨q1, q2, q3, q4, q5, q6⟩, ⟨r1, r2, r3, r4, r5⟩, _, g1, g2⟩, _⟩ := hj j q
      obtain ⟨w1, w2, w3, w4, w5⟩ := a5 j q
      obtain ⟨x1, x2, x3, x4⟩ := b5 j q e q1 q3
      have hn : vp_nar .boolean (nI (e % 2)) = nI (e % 2) := by
        rcases (show e % 2 = 0 ∨ e % 2 = 1 by omega) with z | z <;> rw [z] <;> rfl
      refine ⟨e, ⟨q1, x1, ?_⟩, ⟨w1.trans r1, ?_, ?_, ?_, ?_⟩, x3, ?_, ?_⟩
      · rw [x4, q4]
        exact ⟨nI_pos' (by omega), nI_le (b := 21) q6 (by omega)⟩
      · rw [w2]
        show vp_nar .boolean (C.2.1 20 j) = _
        rw [r2, hn]
      · rw [w3, x2]; exact r3
      · rw [w4, x3]; exact r4
      · rw [w5, x4, q4]; exact r5
      · rw [x2]; exact g1
      · intro z
        obtain ⟨⟨e2, ⟨y1, _, y3, _⟩, _⟩, _⟩ := hj (j + 1) z
        obtain ⟨_, x5, _⟩ := b5 (j + 1) z e2 y1 y3
        rw [x5, x2]
        exact g2
    · rw [a2]; simpa [va_up] using k14
    · rw [a4 25 (by omega)]; exact k25
    · rw [b4 43 (by omega)]; exact k43
    · rw [a4 26 (by omega), b4 44 (by omega)]; exact k26
    · rw [a4 27 (by omega)]; exact k27
    · rw [b4 44 (by omega)]; exact kP
    · intro p hp
      rw [a4 24 (by omega), b4 46 (by omega)]
      exact h24 p hp
    · intro j q
      have := hj j q
      simpa [sE, a4 19 (by omega), a4 20 (by omega), a4 21 (by omega), a4 22 (by omega), a4 23 (by omega), a4 25 (by omega), a4 26 (by omega), a4 27 (by omega), b4 43 (by omega), b4 44 (by omega), b4 45 (by omega)] using this
  have k28 : M2.1 28 = M.1 28 := by rw [b2]; simp [va_up]
  by_cases w1 : v2 < v3
  · exact ⟨C2, M2, k, v3, by simp [F46, k14, F6_in o100, hx, hc, B13, k27, w1, a1], by simp [K68_340, w1, b1], kept, k28⟩
  · by_cases w2 : v3 = v2
    · by_cases w3 : nI b ≤ nI k
      · exact ⟨C, M, b, v2, by simp [F46, k14, F6_in o100, hx, hc, B13, k27, w1, w2, B15, w3], by simp [K68_340, w1, w2, B29, w3], stay, rfl⟩
      · refine ⟨C2, M2, k, v3, ?_, ?_, kept, k28⟩
        · simp [F46, k14, F6_in o100, hx, hc, B13, k27, w1, w2, B15, w3]
          rw [w2] at a1
          exact a1
        · simp [K68_340, w1, w2, B29, w3, b1]
    · exact ⟨C, M, b, v2, by simp [F46, k14, F6_in o100, hx, hc, B13, k27, w1, w2], by simp [K68_340, w1, w2], stay, rfl⟩
