/-! stretching: both sides -/
def StR (M0 C M : mSt) (np nb b v E : Nat) (P Q ec : Nat → Nat) : Prop := C.1 15 = nI b ∧ M.1 29 = nI b ∧ b ≤ 100 ∧ M0.1 17 - M0.1 21 = nI E ∧ E ≤ 200 ∧
  ∀ j, j < b → (ec j < 2 * np ∧ M.2.1 47 j = nI (ec j) ∧ C.2.1 29 j = nI (ec j / 2) ∧ C.2.1 30 j = nI (ec j % 2) ∧ iO 0 (M.2.1 50 j) 21 ∧ C.2.1 33 j = M.2.1 50 j) ∧ (C.2.1 31 j = nI (P j) ∧ M.2.1 48 j = nI (P j) ∧ C.2.1 32 j = nI (Q j) ∧ M.2.1 49 j = nI (Q j)) ∧ (P j + Q j ≤ E ∧ bB M0 nb (nI (P j)) = 0 ∧ bB M0 nb (nI (P j + Q j)) = 0 ∧ (j + 1 < b → P j + Q j ≤ P (j + 1))) ∧ (v ≤ j → nI (Q j) = lnC M0 (ec j))
theorem ends_mono {b : Nat} {P Q : Nat → Nat} (h : ∀ j, j + 1 < b → P j + Q j ≤ P (j + 1)) : ∀ (d i : Nat), i + d < b → P i + Q i ≤ P (i + d) + Q (i + d) := by
  intro d
  induction d with
  | zero => intro i _; exact Nat.le_refl _
  | succ d ih =>
    intro i hi
    have a := ih i (by omega)
    have := h (i + d) (by omega)
    have e : i + (d + 1) = i + d + 1 := by omega
    rw [e]
    omega
def gG (M0 : mSt) (nb b v : Nat) (P Q : Nat → Nat) (y : Nat) : Prop := bB M0 nb (nI (P v + Q v + y)) = 0 ∧ ∀ i, v < i → i < b → bB M0 nb (nI (P i + y)) = 0 ∧ bB M0 nb (nI (P i + Q i + y)) = 0
theorem L53_ev {C0 M0 C M : mSt} {np nb b v w E y : Nat} {P Q ec : Nat → Nat} (hb : Bs C0 M0 np nb) (hd : dF C0 C) (h : StR M0 C M np nb b w E P Q ec) : ∀ (d n i : Nat), b - i = d → i ≤ b → d < n →
    ((∀ j, i ≤ j → j < b → bB M0 nb (nI (P j + y)) = 0 ∧ bB M0 nb (nI (P j + Q j + y)) = 0) ∧ L53_21 n C (nI y) (nI i) = some (1, 0, 0)) ∨ ((¬ ∀ j, i ≤ j → j < b → bB M0 nb (nI (P j + y)) = 0 ∧ bB M0 nb (nI (P j + Q j + y)) = 0) ∧ L53_21 n C (nI y) (nI i) = some (2, 0, 0)) := by
  obtain ⟨s15, s29, sb, sE, sE2, sj⟩ := h
  intro d
  induction d with
  | zero =>
    intro n i h1 h2 h3
    obtain ⟨n, rfl⟩ : ∃ k, n = k + 1 := ⟨n - 1, by omega⟩
    refine Or.inl ⟨fun j q1 q2 => by omega, ?_⟩
    have : i = b := by omega
    subst this
    simp [L53_21, I53_21, s15, nI_le (Nat.le_refl i) (show i < 2 ^ 31 by omega)]
  | succ d ih =>
    intro n i h1 h2 h3
    obtain ⟨n, rfl⟩ : ∃ k, n = k + 1 := ⟨n - 1, by omega⟩
    have hx := nI_ix (n := i) (N := 100) (by omega) (by omega)
    have hc := nI_clamp (n := i) (by omega)
    rw [hc] at hx
    have e1 : ¬ nI b ≤ nI i := nI_ge (by omega) (by omega)
    have e2 : ¬ (100 : Int32) ≤ nI i := nI_ge (b := 100) (by omega) (by omega)
    obtain ⟨_, ⟨g1, _, g3, _⟩, _⟩ := sj i (by omega)
    have f52 : F52 C (nI i) = some 1 := by
      rcases has_52 (S := C) sb s15 (nI i) with ⟨_, w⟩ | ⟨w, _⟩
      · exact absurd ⟨i, by omega, rfl⟩ w
      · exact w
    have f51 : F51 C (nI i) = some (nI (P i + Q i)) := by simp [F51, f52, hx, hc, g1, g3, nI_add]
    have b1 := barC hb hd (nI (P i + y))
    have b2 := barC hb hd (nI (P i + Q i + y))
    rcases bB_01 M0 nb (nI (P i + y)) with w1 | w1
    · rcases bB_01 M0 nb (nI (P i + Q i + y)) with w2 | w2
      · have go : L53_21 (n + 1) C (nI y) (nI i) = L53_21 n C (nI y) (nI (i + 1)) := by
          rw [← nI_1]
          simp [L53_21, I53_21, s15, e1, e2, hx, hc, g1, nI_add, b1, w1, f51, b2, w2]
        rw [go]
        rcases ih n (i + 1) (by omega) (by omega) (by omega) with ⟨a1, a2⟩ | ⟨a1, a2⟩
        · refine Or.inl ⟨fun j q1 q2 => ?_, a2⟩
          by_cases q : j = i
          · subst q; exact ⟨w1, w2⟩
          · exact a1 j (by omega) q2
        · exact Or.inr ⟨fun z => a1 (fun j q1 q2 => z j (by omega) q2), a2⟩
      · refine Or.inr ⟨fun z => ?_, ?_⟩
        · rw [(z i (Nat.le_refl _) (by omega)).2] at w2; exact absurd w2 (by decide)
        · simp [L53_21, I53_21, s15, e1, e2, hx, hc, g1, nI_add, b1, w1, f51, b2, w2]
    · refine Or.inr ⟨fun z => ?_, ?_⟩
      · rw [(z i (Nat.le_refl _) (by omega)).1] at w1; exact absurd w1 (by decide)
      · simp [L53_21, I53_21, s15, e1, e2, hx, hc, g1, nI_add, b1, w1]
theorem F51_s {M0 C M : mSt} {np nb b w E i : Nat} {P Q ec : Nat → Nat} (h : StR M0 C M np nb b w E P Q ec) (hi : i < b) : F51 C (nI i) = some (nI (P i + Q i)) := by
  obtain ⟨s15, s29, sb, sE, sE2, sj⟩ := h
  have hx := nI_ix (n := i) (N := 100) (by omega) (by omega)
  have hc := nI_clamp (n := i) (by omega)
  rw [hc] at hx
  obtain ⟨_, ⟨g1, _, g3, _⟩, _⟩ := sj i (by omega)
  have f52 : F52 C (nI i) = some 1 := by
    rcases has_52 (S := C) sb s15 (nI i) with ⟨_, w⟩ | ⟨w, _⟩
    · exact absurd ⟨i, by omega, rfl⟩ w
    · exact w
  simp [F51, f52, hx, hc, g1, g3, nI_add]
theorem F53_ev {C0 M0 C M : mSt} {np nb b v w E n : Nat} {P Q ec : Nat → Nat} (hn : 110 ≤ n) (hb : Bs C0 M0 np nb) (hd : dF C0 C) (h : StR M0 C M np nb b w E P Q ec) (hv : v < b) (y : Nat) :
    (gG M0 nb b v P Q y ∧ F53 n C (nI v) (nI y) = some 1) ∨ (¬ gG M0 nb b v P Q y ∧ F53 n C (nI v) (nI y) = some 0) := by
  have f51 := F51_s h hv
  have sb := h.2.2.1
  have b1 := barC hb hd (nI (P v + Q v + y))
  rcases bB_01 M0 nb (nI (P v + Q v + y)) with w1 | w1
  · rcases L53_ev (y := y) (v := v) hb hd h (b - (v + 1)) n (v + 1) rfl (by omega) (by omega) with ⟨a1, a2⟩ | ⟨a1, a2⟩
    · rw [← nI_1] at a2
      exact Or.inl ⟨⟨w1, fun i q1 q2 => a1 i (by omega) q2⟩, by simp [F53, f51, nI_add, b1, w1, a2]⟩
    · rw [← nI_1] at a2
      exact Or.inr ⟨fun z => a1 (fun i q1 q2 => z.2 i (by omega) q2), by simp [F53, f51, nI_add, b1, w1, a2]⟩
  · refine Or.inr ⟨fun z => ?_, by simp [F53, f51, nI_add, b1, w1]⟩
    rw [z.1] at w1; exact absurd w1 (by decide)
/-- what the reference asks of strip i -/
def cnd (M0 : mSt) (nb v E : Nat) (P Q : Nat → Nat) (y i : Nat) : Prop := (i = v → P v + Q v + y ≤ E ∧ bB M0 nb (nI (P v + Q v + y)) = 0) ∧ (v < i → P i + Q i + y ≤ E ∧ bB M0 nb (nI (P i + y)) = 0 ∧ bB M0 nb (nI (P i + Q i + y)) = 0)
theorem I76_ev {C0 M0 C M : mSt} {np nb b v w E n i : Nat} {P Q ec : Nat → Nat} (hn : 10 ≤ n) (hb : Bs C0 M0 np nb) (hm : mF M0 M) (h : StR M0 C M np nb b w E P Q ec) (hv : v < b) (hi : i < b) (y : Nat) (hy : y ≤ 200) :
    (cnd M0 nb v E P Q y i ∧ I76_2 n M (nI v) (nI y) (nI i) = some (0, nI v, nI y, nI (i + 1))) ∨ (¬ cnd M0 nb v E P Q y i ∧ I76_2 n M (nI v) (nI y) (nI i) = some (2, 0, 0, 0)) := by
  obtain ⟨s15, s29, sb, sE, sE2, sj⟩ := h
  have hx := nI_ix (n := i) (N := 202) (by omega) (by omega)
  have hc := nI_clamp (n := i) (by omega)
  rw [hc] at hx
  have e1 : ¬ nI b ≤ nI i := nI_ge (by omega) (by omega)
  obtain ⟨_, ⟨_, g2, _, g4⟩, ⟨p1, p2, p3, _⟩, _⟩ := sj i hi
  have e17 : M.1 17 - M.1 21 = nI E := by rw [hm.1 17 (by omega), hm.1 21 (by omega)]; exact sE
  have comm : P i + y + Q i = P i + Q i + y := by omega
  have B := fun p => barM (n := n) hn hb hm p
  rcases (show i < v ∨ i = v ∨ v < i by omega) with q | q | q
  · have l1 : nI i ≤ nI v := nI_le (by omega) (by omega)
    have l2 : ¬ nI i = nI v := by rw [nI_eq (by omega) (by omega)]; omega
    have l3 : ¬ nI E < nI (P i + Q i) := nI_nlt p1 (by omega)
    refine Or.inl ⟨⟨fun z => by omega, fun z => by omega⟩, ?_⟩
    simp [I76_2, s29, e1, l1, l2, hx, hc, g2, g4, nI_add, e17, l3, B, p2, p3, nI_1]
  · subst q
    have l1 : nI i ≤ nI i := nI_le (Nat.le_refl _) (by omega)
    by_cases w1 : P i + Q i + y ≤ E
    · have l3 : ¬ nI E < nI (P i + Q i + y) := nI_nlt w1 (by omega)
      rcases bB_01 M0 nb (nI (P i + Q i + y)) with w2 | w2
      · refine Or.inl ⟨⟨fun _ => ⟨w1, w2⟩, fun z => by omega⟩, ?_⟩
        simp [I76_2, s29, e1, l1, hx, hc, g2, g4, nI_add, e17, l3, B, p2, w2, nI_1]
      · refine Or.inr ⟨fun z => ?_, ?_⟩
        · rw [(z.1 rfl).2] at w2; exact absurd w2 (by decide)
        · simp [I76_2, s29, e1, l1, hx, hc, g2, g4, nI_add, e17, l3, B, p2, w2]
    · have l3 : nI E < nI (P i + Q i + y) := nI_lt (by omega) (by omega)
      refine Or.inr ⟨fun z => w1 (z.1 rfl).1, ?_⟩
      simp [I76_2, s29, e1, l1, hx, hc, g2, g4, nI_add, e17, l3]
  · have l1 : ¬ nI i ≤ nI v := nI_ge q (by omega)
    have l2 : ¬ nI i = nI v := by rw [nI_eq (by omega) (by omega)]; omega
    by_cases w1 : P i + Q i + y ≤ E
    · have l3 : ¬ nI E < nI (P i + Q i + y) := nI_nlt w1 (by omega)
      rcases bB_01 M0 nb (nI (P i + y)) with w2 | w2
      · rcases bB_01 M0 nb (nI (P i + Q i + y)) with w3 | w3
        · refine Or.inl ⟨⟨fun z => by omega, fun _ => ⟨w1, w2, w3⟩⟩, ?_⟩
          simp [I76_2, s29, e1, l1, l2, hx, hc, g2, g4, nI_add, comm, e17, l3, B, w2, w3, nI_1]
        · refine Or.inr ⟨fun z => ?_, ?_⟩
          · rw [(z.2 q).2.2] at w3; exact absurd w3 (by decide)
          · simp [I76_2, s29, e1, l1, l2, hx, hc, g2, g4, nI_add, comm, e17, l3, B, w2, w3]
      · refine Or.inr ⟨fun z => ?_, ?_⟩
        · rw [(z.2 q).2.1] at w2; exact absurd w2 (by decide)
        · simp [I76_2, s29, e1, l1, l2, hx, hc, g2, g4, nI_add, comm, e17, l3, B, w2]
    · have l3 : nI E < nI (P i + Q i + y) := nI_lt (by omega) (by omega)
      refine Or.inr ⟨fun z => w1 (z.2 q).1, ?_⟩
      simp [I76_2, s29, e1, l1, l2, hx, hc, g2, g4, nI_add, comm, e17, l3]
theorem L76_ev {C0 M0 C M : mSt} {np nb b v w E : Nat} {P Q ec : Nat → Nat} (hb : Bs C0 M0 np nb) (hm : mF M0 M) (h : StR M0 C M np nb b w E P Q ec) (hv : v < b) (y : Nat) (hy : y ≤ 200) : ∀ (d n i : Nat), b - i = d → i ≤ b → 10 + d < n →
    ((∀ j, i ≤ j → j < b → cnd M0 nb v E P Q y j) ∧ L76_2 n M (nI v) (nI y) (nI i) = some (1, 0, 0, 0)) ∨ ((¬ ∀ j, i ≤ j → j < b → cnd M0 nb v E P Q y j) ∧ L76_2 n M (nI v) (nI y) (nI i) = some (2, 0, 0, 0)) := by
  have s29 := h.2.1
  have sb := h.2.2.1
  intro d
  induction d with
  | zero =>
    intro n i h1 h2 h3
    obtain ⟨n, rfl⟩ : ∃ k, n = k + 1 := ⟨n - 1, by omega⟩
    refine Or.inl ⟨fun j q1 q2 => by omega, ?_⟩
    have : i = b := by omega
    subst this
    simp [L76_2, I76_2, s29, nI_le (Nat.le_refl i) (show i < 2 ^ 31 by omega)]
  | succ d ih =>
    intro n i h1 h2 h3
    obtain ⟨n, rfl⟩ : ∃ k, n = k + 1 := ⟨n - 1, by omega⟩
    rcases I76_ev (n := n) (i := i) (by omega) hb hm h hv (by omega) y hy with ⟨a1, a2⟩ | ⟨a1, a2⟩
    · have go : L76_2 (n + 1) M (nI v) (nI y) (nI i) = L76_2 n M (nI v) (nI y) (nI (i + 1)) := by simp [L76_2, a2]
      rw [go]
      rcases ih n (i + 1) (by omega) (by omega) (by omega) with ⟨c1, c2⟩ | ⟨c1, c2⟩
      · refine Or.inl ⟨fun j q1 q2 => ?_, c2⟩
        by_cases q : j = i
        · subst q; exact a1
        · exact c1 j (by omega) q2
      · exact Or.inr ⟨fun z => c1 (fun j q1 q2 => z j (by omega) q2), c2⟩
    · exact Or.inr ⟨fun z => a1 (z i (Nat.le_refl _) (by omega)), by simp [L76_2, a2]⟩
theorem F76_ev {C0 M0 C M : mSt} {np nb b v w E n : Nat} {P Q ec : Nat → Nat} (hn : 120 ≤ n) (hb : Bs C0 M0 np nb) (hm : mF M0 M) (h : StR M0 C M np nb b w E P Q ec) (hv : v < b) (y : Nat) (hy : y ≤ 200) :
    ((P (b - 1) + Q (b - 1) + y ≤ E ∧ gG M0 nb b v P Q y) ∧ F76 n M (nI v) (nI y) = some 1) ∨ (¬ (P (b - 1) + Q (b - 1) + y ≤ E ∧ gG M0 nb b v P Q y) ∧ F76 n M (nI v) (nI y) = some 0) := by
  have sb := h.2.2.1
  have mono := ends_mono (b := b) (P := P) (Q := Q) (fun j hj => (h.2.2.2.2.2 j (by omega)).2.2.1.2.2.2 hj)
  have iff : (∀ j, 0 ≤ j → j < b → cnd M0 nb v E P Q y j) ↔ (P (b - 1) + Q (b - 1) + y ≤ E ∧ gG M0 nb b v P Q y) := by
    constructor
    · intro z
      refine ⟨?_, ?_, ?_⟩
      · by_cases q : v = b - 1
        · have := (z v (by omega) hv).1 rfl
          rw [← q]; exact this.1
        · exact ((z (b - 1) (by omega) (by omega)).2 (by omega)).1
      · exact ((z v (by omega) hv).1 rfl).2
      · intro i q1 q2
        exact ((z i (by omega) q2).2 q1).2
    · rintro ⟨z1, z2, z3⟩ j _ hj
      have : P j + Q j ≤ P (b - 1) + Q (b - 1) := by
        have := mono (b - 1 - j) j (by omega)
        rwa [show j + (b - 1 - j) = b - 1 by omega] at this
      refine ⟨fun q => ?_, fun q => ?_⟩
      · subst q; exact ⟨by omega, z2⟩
      · exact ⟨by omega, z3 j q hj⟩
  have z0 : nI 0 = 0 := rfl
  rcases L76_ev hb hm h hv y hy b n 0 (by omega) (by omega) (by omega) with ⟨a1, a2⟩ | ⟨a1, a2⟩
  · rw [z0] at a2
    exact Or.inl ⟨iff.mp a1, by simp [F76, a2]⟩
  · rw [z0] at a2
    exact Or.inr ⟨fun z => a1 (iff.mpr z), by simp [F76, a2]⟩
theorem L50_ev {C0 M0 C M : mSt} {np nb b v w E : Nat} {P Q ec : Nat → Nat} (hb : Bs C0 M0 np nb) (hd : dF C0 C) (h : StR M0 C M np nb b w E P Q ec) (hv : v < b) : ∀ (y n : Nat), y ≤ 200 → 120 + y < n →
    ∃ g, g ≤ y ∧ (g = 0 ∨ gG M0 nb b v P Q g) ∧ (∀ y', g < y' → y' ≤ y → ¬ gG M0 nb b v P Q y') ∧ ((g = 0 ∧ L50_25 n C (nI v) (nI y) = some (1, 0, 0)) ∨ L50_25 n C (nI v) (nI y) = some (2, 0, nI g)) := by
  intro y
  induction y with
  | zero =>
    intro n _ h3
    obtain ⟨n, rfl⟩ : ∃ k, n = k + 1 := ⟨n - 1, by omega⟩
    have : nI 0 ≤ 0 := by decide
    exact ⟨0, Nat.le_refl _, Or.inl rfl, fun y' q1 q2 => by omega, Or.inl ⟨rfl, by simp [L50_25, I50_25, this]⟩⟩
  | succ y ih =>
    intro n hy h3
    obtain ⟨n, rfl⟩ : ∃ k, n = k + 1 := ⟨n - 1, by omega⟩
    have p0 : ¬ nI (y + 1) ≤ 0 := nI_nle (by omega) (by omega)
    rcases F53_ev (n := n) (by omega) hb hd h hv (y + 1) with ⟨a1, a2⟩ | ⟨a1, a2⟩
    · exact ⟨y + 1, Nat.le_refl _, Or.inr a1, fun y' q1 q2 => by omega, Or.inr (by simp [L50_25, I50_25, p0, a2])⟩
    · obtain ⟨g, g1, g2, g3, g4⟩ := ih n (by omega) (by omega)
      refine ⟨g, by omega, g2, fun y' q1 q2 => ?_, ?_⟩
      · by_cases q : y' = y + 1
        · subst q; exact a1
        · exact g3 y' q1 (by omega)
      · have go : L50_25 (n + 1) C (nI v) (nI (y + 1)) = L50_25 n C (nI v) (nI y) := by
          simp [L50_25, I50_25, p0, a2, nI_m1]
        rw [go]
        exact g4
theorem L7553_ev {C0 M0 C M : mSt} {np nb b v w E : Nat} {P Q ec : Nat → Nat} (hb : Bs C0 M0 np nb) (hm : mF M0 M) (h : StR M0 C M np nb b w E P Q ec) (hv : v < b) : ∀ (y n : Nat), y ≤ 200 → 130 + y < n →
    ∃ g, g ≤ y ∧ (g = 0 ∨ (P (b - 1) + Q (b - 1) + g ≤ E ∧ gG M0 nb b v P Q g)) ∧ (∀ y', g < y' → y' ≤ y → ¬ (P (b - 1) + Q (b - 1) + y' ≤ E ∧ gG M0 nb b v P Q y')) ∧ L75_53 n M (nI v) (nI y) = some (1, M, nI v, nI g) := by
  intro y
  induction y with
  | zero =>
    intro n _ h3
    obtain ⟨n, rfl⟩ : ∃ k, n = k + 1 := ⟨n - 1, by omega⟩
    have : nI 0 ≤ 0 := by decide
    exact ⟨0, Nat.le_refl _, Or.inl rfl, fun y' q1 q2 => by omega, by simp [L75_53, I75_53, this]⟩
  | succ y ih =>
    intro n hy h3
    obtain ⟨n, rfl⟩ : ∃ k, n = k + 1 := ⟨n - 1, by omega⟩
    have p0 : ¬ nI (y + 1) ≤ 0 := nI_nle (by omega) (by omega)
    rcases F76_ev (n := n) (by omega) hb hm h hv (y + 1) hy with ⟨a1, a2⟩ | ⟨a1, a2⟩
    · exact ⟨y + 1, Nat.le_refl _, Or.inr a1, fun y' q1 q2 => by omega, by simp [L75_53, I75_53, p0, a2]⟩
    · obtain ⟨g, g1, g2, g3, g4⟩ := ih n (by omega) (by omega)
      refine ⟨g, by omega, g2, fun y' q1 q2 => ?_, ?_⟩
      · by_cases q : y' = y + 1
        · subst q; exact a1
        · exact g3 y' q1 (by omega)
      · have go : L75_53 (n + 1) M (nI v) (nI (y + 1)) = L75_53 n M (nI v) (nI y) := by
          simp [L75_53, I75_53, p0, a2, nI_m1]
        rw [go]
        exact g4
theorem L54_ev {b : Nat} (hb : b ≤ 100) (x : Int32) : ∀ (d n i : Nat) (C : mSt), b - i = d → i ≤ b → d < n → C.1 15 = nI b → ∃ C' : mSt, L54_4 n C x (nI i) = some (1, C', 0, 0) ∧ C'.1 = C.1 ∧ C'.2.2 = C.2.2 ∧ (∀ c, c ≠ 31 → C'.2.1 c = C.2.1 c) ∧ ∀ j, C'.2.1 31 j = if i ≤ j ∧ j < b then C.2.1 31 j + x else C.2.1 31 j := by
  intro d
  induction d with
  | zero =>
    intro n i C h1 h2 h3 h4
    obtain ⟨n, rfl⟩ : ∃ k, n = k + 1 := ⟨n - 1, by omega⟩
    have : i = b := by omega
    subst this
    refine ⟨C, ?_, rfl, rfl, fun _ _ => rfl, fun j => by rw [if_neg (by omega)]⟩
    simp [L54_4, I54_4, h4, nI_le (Nat.le_refl i) (show i < 2 ^ 31 by omega)]
  | succ d ih =>
    intro n i C h1 h2 h3 h4
    obtain ⟨n, rfl⟩ : ∃ k, n = k + 1 := ⟨n - 1, by omega⟩
    have hx := nI_ix (n := i) (N := 100) (by omega) (by omega)
    have hc := nI_clamp (n := i) (by omega)
    rw [hc] at hx
    have e1 : ¬ nI b ≤ nI i := nI_ge (by omega) (by omega)
    have e2 : ¬ (100 : Int32) ≤ nI i := nI_ge (b := 100) (by omega) (by omega)
    obtain ⟨C', a1, a2, a3, a4, a5⟩ := ih n (i + 1) (C.1, va_up C.2.1 31 (upd (C.2.1 31) i (C.2.1 31 i + x)), C.2.2) (by omega) (by omega) (by omega) h4
    refine ⟨C', ?_, a2, a3, ?_, ?_⟩
    · rw [← nI_1] at a1
      simp [L54_4, I54_4, h4, e1, e2, hx, hc, a1]
    · intro c hc2
      rw [a4 c hc2]
      simp [va_up, hc2]
    · intro j
      rw [a5 j]
      by_cases q : j = i
      · subst q
        rw [if_neg (show ¬ (j + 1 ≤ j ∧ j < b) by omega), if_pos (show j ≤ j ∧ j < b by omega)]
        simp [va_up, upd]
      · have : (i + 1 ≤ j ∧ j < b) ↔ (i ≤ j ∧ j < b) := by omega
        simp [va_up, upd, q, this]
theorem L7590_ev {b : Nat} (hb : b ≤ 100) (v x : Int32) : ∀ (d n i : Nat) (M : mSt), b - i = d → i ≤ b → d < n → M.1 29 = nI b → ∃ M' : mSt, L75_90 n M v x (nI i) = some (1, M', v, 0, 0) ∧ M'.1 = M.1 ∧ M'.2.2 = M.2.2 ∧ (∀ c, c ≠ 48 → M'.2.1 c = M.2.1 c) ∧ ∀ j, M'.2.1 48 j = if i ≤ j ∧ j < b then M.2.1 48 j + x else M.2.1 48 j := by
  intro d
  induction d with
  | zero =>
    intro n i M h1 h2 h3 h4
    obtain ⟨n, rfl⟩ : ∃ k, n = k + 1 := ⟨n - 1, by omega⟩
    have : i = b := by omega
    subst this
    refine ⟨M, ?_, rfl, rfl, fun _ _ => rfl, fun j => by rw [if_neg (by omega)]⟩
    simp [L75_90, I75_90, h4, nI_le (Nat.le_refl i) (show i < 2 ^ 31 by omega)]
  | succ d ih =>
    intro n i M h1 h2 h3 h4
    obtain ⟨n, rfl⟩ : ∃ k, n = k + 1 := ⟨n - 1, by omega⟩
    have hx := nI_ix (n := i) (N := 202) (by omega) (by omega)
    have hc := nI_clamp (n := i) (by omega)
    rw [hc] at hx
    have e1 : ¬ nI b ≤ nI i := nI_ge (by omega) (by omega)
    obtain ⟨M', a1, a2, a3, a4, a5⟩ := ih n (i + 1) (M.1, va_up M.2.1 48 (upd (M.2.1 48) i (M.2.1 48 i + x)), M.2.2) (by omega) (by omega) (by omega) h4
    refine ⟨M', ?_, a2, a3, ?_, ?_⟩
    · rw [← nI_1] at a1
      simp [L75_90, I75_90, h4, e1, hx, hc, a1]
    · intro c hc2
      rw [a4 c hc2]
      simp [va_up, hc2]
    · intro j
      rw [a5 j]
      by_cases q : j = i
      · subst q
        rw [if_neg (show ¬ (j + 1 ≤ j ∧ j < b) by omega), if_pos (show j ≤ j ∧ j < b by omega)]
        simp [va_up, upd]
      · have : (i + 1 ≤ j ∧ j < b) ↔ (i ≤ j ∧ j < b) := by omega
        simp [va_up, upd, q, this]
