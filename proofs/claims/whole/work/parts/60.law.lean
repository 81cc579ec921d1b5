/-! the law, round after round -/
theorem and15 (x : Int32) : ∃ k : Nat, k < 16 ∧ x &&& 15 = nI k := by
  refine ⟨(x &&& 15).toBitVec.toNat, ?_, ?_⟩
  · rw [Int32.toBitVec_and, BitVec.toNat_and]
    have e : (15 : Int32).toBitVec.toNat = 2 ^ 4 - 1 := rfl
    rw [e, Nat.and_two_pow_sub_one_eq_mod]
    exact Nat.mod_lt _ (by omega)
  · apply Int32.toBitVec_inj.mp
    show _ = BitVec.ofNat 32 _
    simp
theorem lawEnd {L x : Nat} (hL : L ≤ 3072) (hx : x ≤ 4000) : (Int32.ofNat L - 6 < nI x) ↔ L < x + 6 := by
  have e : (Int32.ofNat L - 6).toInt = (L : Int) - 6 := by
    rw [Int32.toInt_sub, show Int32.ofNat L = nI L from rfl, nI_toInt (by omega)]
    have : (6 : Int32).toInt = 6 := rfl
    rw [this]
    apply Int.bmod_eq_of_le <;> omega
  rw [Int32.lt_iff_toInt_lt, e, nI_toInt (by omega)]
  omega
theorem F58_ev (S : mSt) : F58 S = some (S.1 16) := rfl
theorem lg_0 {x y : Int64} (h : x = y) : lg_cmp x y = 0 := (lg_cmp_eq x y).mpr h
theorem law_step {sc : mS} {n : Nat} (hn : 3000000 ≤ n) {S : mSt} (hI : Inv S) (t : Nat) (ht : 6 * t + 6 ≤ sc.1) (hL : sc.1 ≤ 3072) : ∃ S', I0 sc n S (nI (6 * t)) = some (0, S', nI (6 * (t + 1))) ∧ Inv S' := by
  have a0 : ¬ Int32.ofNat sc.1 - 6 < nI (6 * t) := fun z => by
    have := (lawEnd hL (by omega)).mp z
    omega
  have i0 := nI_ix (n := 6 * t) (N := sc.1) (by omega) (by omega)
  have c0 := nI_clamp (n := 6 * t) (by omega)
  have e1 : nI (6 * t) + 1 = nI (6 * t + 1) := nI_add _ 1
  have e2 : nI (6 * t) + 2 = nI (6 * t + 2) := nI_add _ 2
  have e3 : nI (6 * t) + 3 = nI (6 * t + 3) := nI_add _ 3
  have e4 : nI (6 * t) + 4 = nI (6 * t + 4) := nI_add _ 4
  have e5 : nI (6 * t) + 5 = nI (6 * t + 5) := nI_add _ 5
  have e6 : nI (6 * t) + 6 = nI (6 * (t + 1)) := nI_add _ 6
  have i1 := nI_ix (n := 6 * t + 1) (N := sc.1) (by omega) (by omega)
  have i2 := nI_ix (n := 6 * t + 2) (N := sc.1) (by omega) (by omega)
  have i3 := nI_ix (n := 6 * t + 3) (N := sc.1) (by omega) (by omega)
  have i4 := nI_ix (n := 6 * t + 4) (N := sc.1) (by omega) (by omega)
  have i5 := nI_ix (n := 6 * t + 5) (N := sc.1) (by omega) (by omega)
  rw [← e1] at i1
  rw [← e2] at i2
  rw [← e3] at i3
  rw [← e4] at i4
  rw [← e5] at i5
  have c00 : (0 : Int32).toNatClampNeg = 0 := rfl
  obtain ⟨op, hop, eop⟩ := and15 (sc.2 (nI (6 * t)).toNatClampNeg)
  have go : ∀ (r : Option (Nat × mSt × Int32)), I0 sc n S (nI (6 * t)) = r → (∃ S', r = some (0, S', nI (6 * t) + 6) ∧ Inv S') → ∃ S', I0 sc n S (nI (6 * t)) = some (0, S', nI (6 * (t + 1))) ∧ Inv S' := by
    intro r h1 h2
    obtain ⟨S', h3, h4⟩ := h2
    exact ⟨S', by rw [h1, h3, e6], h4⟩
  have sel : ∀ (x y : Nat), x < 16 → y < 16 → (nI x = nI y ↔ x = y) := fun x y hx hy => nI_eq (by omega) (by omega)
  rcases (show op = 0 ∨ op = 1 ∨ op = 2 ∨ op = 3 ∨ op = 4 ∨ op = 5 ∨ op = 6 ∨ op = 7 ∨ op = 8 ∨ op = 9 ∨ op = 10 ∨ op = 11 ∨ op = 12 ∨ op = 13 ∨ op = 14 ∨ op = 15 by omega) with q | q | q | q | q | q | q | q | q | q | q | q | q | q | q | q <;> subst q
  · refine go (I0_c0 sc S (nI (6 * t))) ?_ ?_
    · unfold I0; rw [if_neg a0, if_pos i0, eop, if_pos (show nI 0 = (0 : Int32) by decide)]
    · obtain ⟨k, S1, S2, h1, h2, h3, h4⟩ := op_plate hI (sc.2 (nI (6 * t) + 1).toNatClampNeg) (sc.2 (nI (6 * t) + 2).toNatClampNeg) (sc.2 (nI (6 * t) + 3).toNatClampNeg)
      exact ⟨S2, by unfold I0_c0; rw [if_pos i1, if_pos i2, if_pos i3, h1]; simp only [Option.bind_some]; rw [h2]; simp only [Option.bind_some, F58_ev]; rw [if_pos h3], h4⟩
  · refine go (I0_c1 sc S (nI (6 * t))) ?_ ?_
    · unfold I0; rw [if_neg a0, if_pos i0, eop, if_neg (show ¬ nI 1 = (0 : Int32) by decide), if_pos (show nI 1 = (1 : Int32) by decide)]
    · obtain ⟨k, S1, v, S2, h1, h2, h3, h4, h5⟩ := op_want hI (sc.2 (nI (6 * t) + 1).toNatClampNeg) (sc.2 (nI (6 * t) + 2).toNatClampNeg) (sc.2 (nI (6 * t) + 3).toNatClampNeg) (sc.2 (nI (6 * t) + 4).toNatClampNeg) (sc.2 (nI (6 * t) + 5).toNatClampNeg)
      refine ⟨S2, ?_, h5⟩
      unfold I0_c1; rw [if_pos i1, if_pos i2, if_pos i3, if_pos i4, if_pos i5, h1]; simp only [Option.bind_some]; rw [h2]; simp only [Option.bind_some, F58_ev]; rw [if_pos h3]
      by_cases hk : k = 0
      · rw [if_pos hk, if_pos (by decide), c00]
        rw [if_pos (lg_0 (h4 hk))]
      · rw [if_neg hk]
  · refine go (I0_c2 sc S (nI (6 * t))) ?_ ?_
    · unfold I0; rw [if_neg a0, if_pos i0, eop, if_neg (show ¬ nI 2 = (0 : Int32) by decide), if_neg (show ¬ nI 2 = (1 : Int32) by decide), if_pos (show nI 2 = (2 : Int32) by decide)]
    · unfold I0_c2
      rw [if_pos i1, if_pos i2]
      by_cases hz : sc.2 (nI (6 * t) + 2).toNatClampNeg = 0
      · obtain ⟨k, S1, S2, h1, h2, h3, h4⟩ := op_turn hI (sc.2 (nI (6 * t) + 1).toNatClampNeg) 0 (Or.inl rfl)
        exact ⟨S2, by rw [if_pos hz, h1]; simp only [Option.bind_some]; rw [h2]; simp only [Option.bind_some, F58_ev]; rw [if_pos h3], h4⟩
      · obtain ⟨k, S1, S2, h1, h2, h3, h4⟩ := op_turn hI (sc.2 (nI (6 * t) + 1).toNatClampNeg) 1 (Or.inr rfl)
        exact ⟨S2, by rw [if_neg hz, h1]; simp only [Option.bind_some]; rw [h2]; simp only [Option.bind_some, F58_ev]; rw [if_pos h3], h4⟩
  · refine go (I0_c3 sc S (nI (6 * t))) ?_ ?_
    · unfold I0; rw [if_neg a0, if_pos i0, eop, if_neg (show ¬ nI 3 = (0 : Int32) by decide), if_neg (show ¬ nI 3 = (1 : Int32) by decide), if_neg (show ¬ nI 3 = (2 : Int32) by decide), if_pos (show nI 3 = (3 : Int32) by decide)]
    · obtain ⟨k, S1, S2, h1, h2, h3, h4⟩ := op_rules hI (sc.2 (nI (6 * t) + 1).toNatClampNeg) (sc.2 (nI (6 * t) + 2).toNatClampNeg) (sc.2 (nI (6 * t) + 3).toNatClampNeg) (sc.2 (nI (6 * t) + 4).toNatClampNeg) (sc.2 (nI (6 * t) + 5).toNatClampNeg)
      exact ⟨S2, by unfold I0_c3; rw [if_pos i1, if_pos i2, if_pos i3, if_pos i4, if_pos i5, h1]; simp only [Option.bind_some]; rw [h2]; simp only [Option.bind_some, F58_ev]; rw [if_pos h3], h4⟩
  · refine go (I0_c4 sc n S (nI (6 * t))) ?_ ?_
    · unfold I0; rw [if_neg a0, if_pos i0, eop, if_neg (show ¬ nI 4 = (0 : Int32) by decide), if_neg (show ¬ nI 4 = (1 : Int32) by decide), if_neg (show ¬ nI 4 = (2 : Int32) by decide), if_neg (show ¬ nI 4 = (3 : Int32) by decide), if_pos (show nI 4 = (4 : Int32) by decide)]
    · obtain ⟨k, S1, v, S2, h1, h2, h3, h4, h5⟩ := op_bar (n := n) (by omega) hI (sc.2 (nI (6 * t) + 1).toNatClampNeg) (sc.2 (nI (6 * t) + 2).toNatClampNeg)
      refine ⟨S2, ?_, h5⟩
      unfold I0_c4; rw [if_pos i1, if_pos i2, h1]; simp only [Option.bind_some]; rw [h2]; simp only [Option.bind_some, F58_ev]; rw [if_pos h3]
      by_cases hk : k = 0
      · rw [if_pos hk, if_pos (by decide), c00]
        rw [if_pos (lg_0 (h4 hk))]
      · rw [if_neg hk]
  · refine go (I0_c5 sc n S (nI (6 * t))) ?_ ?_
    · unfold I0; rw [if_neg a0, if_pos i0, eop, if_neg (show ¬ nI 5 = (0 : Int32) by decide), if_neg (show ¬ nI 5 = (1 : Int32) by decide), if_neg (show ¬ nI 5 = (2 : Int32) by decide), if_neg (show ¬ nI 5 = (3 : Int32) by decide), if_neg (show ¬ nI 5 = (4 : Int32) by decide), if_pos (show nI 5 = (5 : Int32) by decide)]
    · obtain ⟨k, S1, v, S2, h1, h2, h3, h4, h5⟩ := op_run hn hI (sc.2 (nI (6 * t) + 1).toNatClampNeg)
      refine ⟨S2, ?_, h5⟩
      unfold I0_c5; rw [if_pos i1, h1]; simp only [Option.bind_some]; rw [h2]; simp only [Option.bind_some, F58_ev]; rw [if_pos h3]
      by_cases hk : k = 0
      · rw [if_pos hk, if_pos (by decide), c00]
        rw [if_pos (lg_0 (h4 hk))]
      · rw [if_neg hk]
  · refine go (I0_c6 sc S (nI (6 * t))) ?_ ?_
    · unfold I0; rw [if_neg a0, if_pos i0, eop, if_neg (show ¬ nI 6 = (0 : Int32) by decide), if_neg (show ¬ nI 6 = (1 : Int32) by decide), if_neg (show ¬ nI 6 = (2 : Int32) by decide), if_neg (show ¬ nI 6 = (3 : Int32) by decide), if_neg (show ¬ nI 6 = (4 : Int32) by decide), if_neg (show ¬ nI 6 = (5 : Int32) by decide), if_pos (show nI 6 = (6 : Int32) by decide)]
    · obtain ⟨k, S1, v, S2, h1, h2, h3, h4, h5⟩ := op_proved hI
      refine ⟨S2, ?_, h5⟩
      unfold I0_c6; rw [h1]; simp only [Option.bind_some]; rw [h2]; simp only [Option.bind_some, F58_ev]; rw [if_pos h3]
      by_cases hk : k = 0
      · rw [if_pos hk, if_pos (by decide), c00]
        by_cases hv : v = 0
        · rw [if_pos hv, if_pos (lg_0 ((h4 hk).1 hv))]
        · rw [if_neg hv, if_pos (lg_0 ((h4 hk).2 hv))]
      · rw [if_neg hk]
  · refine go (I0_c7 sc S (nI (6 * t))) ?_ ?_
    · unfold I0; rw [if_neg a0, if_pos i0, eop, if_neg (show ¬ nI 7 = (0 : Int32) by decide), if_neg (show ¬ nI 7 = (1 : Int32) by decide), if_neg (show ¬ nI 7 = (2 : Int32) by decide), if_neg (show ¬ nI 7 = (3 : Int32) by decide), if_neg (show ¬ nI 7 = (4 : Int32) by decide), if_neg (show ¬ nI 7 = (5 : Int32) by decide), if_neg (show ¬ nI 7 = (6 : Int32) by decide), if_pos (show nI 7 = (7 : Int32) by decide)]
    · obtain ⟨k, S1, v, S2, h1, h2, h3, h4, h5⟩ := op_strips hI
      refine ⟨S2, ?_, h5⟩
      unfold I0_c7; rw [h1]; simp only [Option.bind_some]; rw [h2]; simp only [Option.bind_some, F58_ev]; rw [if_pos h3]
      by_cases hk : k = 0
      · rw [if_pos hk, if_pos (by decide), c00]
        rw [if_pos (lg_0 (h4 hk))]
      · rw [if_neg hk]
  · refine go (I0_c8 sc S (nI (6 * t))) ?_ ?_
    · unfold I0; rw [if_neg a0, if_pos i0, eop, if_neg (show ¬ nI 8 = (0 : Int32) by decide), if_neg (show ¬ nI 8 = (1 : Int32) by decide), if_neg (show ¬ nI 8 = (2 : Int32) by decide), if_neg (show ¬ nI 8 = (3 : Int32) by decide), if_neg (show ¬ nI 8 = (4 : Int32) by decide), if_neg (show ¬ nI 8 = (5 : Int32) by decide), if_neg (show ¬ nI 8 = (6 : Int32) by decide), if_neg (show ¬ nI 8 = (7 : Int32) by decide), if_pos (show nI 8 = (8 : Int32) by decide)]
    · obtain ⟨k, S1, v, S2, h1, h2, h3, h4, h5⟩ := op_strip hI (sc.2 (nI (6 * t) + 1).toNatClampNeg) (sc.2 (nI (6 * t) + 2).toNatClampNeg)
      refine ⟨S2, ?_, h5⟩
      unfold I0_c8; rw [if_pos i1, if_pos i2, h1]; simp only [Option.bind_some]; rw [h2]; simp only [Option.bind_some, F58_ev]; rw [if_pos h3]
      by_cases hk : k = 0
      · rw [if_pos hk, if_pos (by decide), c00]
        rw [if_pos (lg_0 (h4 hk))]
      · rw [if_neg hk]
  · refine go (I0_c9 sc n S (nI (6 * t))) ?_ ?_
    · unfold I0; rw [if_neg a0, if_pos i0, eop, if_neg (show ¬ nI 9 = (0 : Int32) by decide), if_neg (show ¬ nI 9 = (1 : Int32) by decide), if_neg (show ¬ nI 9 = (2 : Int32) by decide), if_neg (show ¬ nI 9 = (3 : Int32) by decide), if_neg (show ¬ nI 9 = (4 : Int32) by decide), if_neg (show ¬ nI 9 = (5 : Int32) by decide), if_neg (show ¬ nI 9 = (6 : Int32) by decide), if_neg (show ¬ nI 9 = (7 : Int32) by decide), if_neg (show ¬ nI 9 = (8 : Int32) by decide), if_pos (show nI 9 = (9 : Int32) by decide)]
    · obtain ⟨k, S1, v, S2, h1, h2, h3, h4, h5⟩ := op_copies (n := n) (by omega) hI (sc.2 (nI (6 * t) + 1).toNatClampNeg)
      refine ⟨S2, ?_, h5⟩
      unfold I0_c9; rw [if_pos i1, h1]; simp only [Option.bind_some]; rw [h2]; simp only [Option.bind_some, F58_ev]; rw [if_pos h3]
      by_cases hk : k = 0
      · rw [if_pos hk, if_pos (by decide), c00]
        rw [if_pos (lg_0 (h4 hk))]
      · rw [if_neg hk]
  · refine go (I0_c10 sc S (nI (6 * t))) ?_ ?_
    · unfold I0; rw [if_neg a0, if_pos i0, eop, if_neg (show ¬ nI 10 = (0 : Int32) by decide), if_neg (show ¬ nI 10 = (1 : Int32) by decide), if_neg (show ¬ nI 10 = (2 : Int32) by decide), if_neg (show ¬ nI 10 = (3 : Int32) by decide), if_neg (show ¬ nI 10 = (4 : Int32) by decide), if_neg (show ¬ nI 10 = (5 : Int32) by decide), if_neg (show ¬ nI 10 = (6 : Int32) by decide), if_neg (show ¬ nI 10 = (7 : Int32) by decide), if_neg (show ¬ nI 10 = (8 : Int32) by decide), if_neg (show ¬ nI 10 = (9 : Int32) by decide), if_pos (show nI 10 = (10 : Int32) by decide)]
    · obtain ⟨k, S1, v, S2, h1, h2, h3, h4, h5⟩ := op_rest hI (sc.2 (nI (6 * t) + 1).toNatClampNeg)
      refine ⟨S2, ?_, h5⟩
      unfold I0_c10; rw [if_pos i1, h1]; simp only [Option.bind_some]; rw [h2]; simp only [Option.bind_some, F58_ev]; rw [if_pos h3]
      by_cases hk : k = 0
      · rw [if_pos hk, if_pos (by decide), c00]
        rw [if_pos (lg_0 (h4 hk))]
      · rw [if_neg hk]
  · refine go (I0_c11 sc n S (nI (6 * t))) ?_ ?_
    · unfold I0; rw [if_neg a0, if_pos i0, eop, if_neg (show ¬ nI 11 = (0 : Int32) by decide), if_neg (show ¬ nI 11 = (1 : Int32) by decide), if_neg (show ¬ nI 11 = (2 : Int32) by decide), if_neg (show ¬ nI 11 = (3 : Int32) by decide), if_neg (show ¬ nI 11 = (4 : Int32) by decide), if_neg (show ¬ nI 11 = (5 : Int32) by decide), if_neg (show ¬ nI 11 = (6 : Int32) by decide), if_neg (show ¬ nI 11 = (7 : Int32) by decide), if_neg (show ¬ nI 11 = (8 : Int32) by decide), if_neg (show ¬ nI 11 = (9 : Int32) by decide), if_neg (show ¬ nI 11 = (10 : Int32) by decide), if_pos (show nI 11 = (11 : Int32) by decide)]
    · obtain ⟨k, S1, v, S2, h1, h2, h3, h4, h5⟩ := op_check (n := n) (by omega) hI
      refine ⟨S2, ?_, h5⟩
      unfold I0_c11; rw [h1]; simp only [Option.bind_some]; rw [h2]; simp only [Option.bind_some, F58_ev]; rw [if_pos h3]
      by_cases hk : k = 0
      · rw [if_pos hk, if_pos (by decide), c00]
        rw [if_pos (lg_0 (h4 hk))]
      · rw [if_neg hk]
  · refine go (I0_c12 sc n S (nI (6 * t))) ?_ ?_
    · unfold I0; rw [if_neg a0, if_pos i0, eop, if_neg (show ¬ nI 12 = (0 : Int32) by decide), if_neg (show ¬ nI 12 = (1 : Int32) by decide), if_neg (show ¬ nI 12 = (2 : Int32) by decide), if_neg (show ¬ nI 12 = (3 : Int32) by decide), if_neg (show ¬ nI 12 = (4 : Int32) by decide), if_neg (show ¬ nI 12 = (5 : Int32) by decide), if_neg (show ¬ nI 12 = (6 : Int32) by decide), if_neg (show ¬ nI 12 = (7 : Int32) by decide), if_neg (show ¬ nI 12 = (8 : Int32) by decide), if_neg (show ¬ nI 12 = (9 : Int32) by decide), if_neg (show ¬ nI 12 = (10 : Int32) by decide), if_neg (show ¬ nI 12 = (11 : Int32) by decide), if_pos (show nI 12 = (12 : Int32) by decide)]
    · obtain ⟨S1, S2, h1, h2, h3⟩ := op_clear (n := n) (by omega) S
      exact ⟨S2, by unfold I0_c12; rw [h1]; simp only [Option.bind_some]; rw [h2]; rfl, h3⟩
  · exact go (I0_c13 sc S (nI (6 * t))) (by unfold I0; rw [if_neg a0, if_pos i0, eop, if_neg (show ¬ nI 13 = (0 : Int32) by decide), if_neg (show ¬ nI 13 = (1 : Int32) by decide), if_neg (show ¬ nI 13 = (2 : Int32) by decide), if_neg (show ¬ nI 13 = (3 : Int32) by decide), if_neg (show ¬ nI 13 = (4 : Int32) by decide), if_neg (show ¬ nI 13 = (5 : Int32) by decide), if_neg (show ¬ nI 13 = (6 : Int32) by decide), if_neg (show ¬ nI 13 = (7 : Int32) by decide), if_neg (show ¬ nI 13 = (8 : Int32) by decide), if_neg (show ¬ nI 13 = (9 : Int32) by decide), if_neg (show ¬ nI 13 = (10 : Int32) by decide), if_neg (show ¬ nI 13 = (11 : Int32) by decide), if_neg (show ¬ nI 13 = (12 : Int32) by decide), if_pos (show nI 13 = (13 : Int32) by decide)]) ⟨S, rfl, hI⟩
  · exact go (I0_c14 sc S (nI (6 * t))) (by unfold I0; rw [if_neg a0, if_pos i0, eop, if_neg (show ¬ nI 14 = (0 : Int32) by decide), if_neg (show ¬ nI 14 = (1 : Int32) by decide), if_neg (show ¬ nI 14 = (2 : Int32) by decide), if_neg (show ¬ nI 14 = (3 : Int32) by decide), if_neg (show ¬ nI 14 = (4 : Int32) by decide), if_neg (show ¬ nI 14 = (5 : Int32) by decide), if_neg (show ¬ nI 14 = (6 : Int32) by decide), if_neg (show ¬ nI 14 = (7 : Int32) by decide), if_neg (show ¬ nI 14 = (8 : Int32) by decide), if_neg (show ¬ nI 14 = (9 : Int32) by decide), if_neg (show ¬ nI 14 = (10 : Int32) by decide), if_neg (show ¬ nI 14 = (11 : Int32) by decide), if_neg (show ¬ nI 14 = (12 : Int32) by decide), if_neg (show ¬ nI 14 = (13 : Int32) by decide), if_pos (show nI 14 = (14 : Int32) by decide)]) ⟨S, rfl, hI⟩
  · exact go (I0_c15 sc S (nI (6 * t))) (by unfold I0; rw [if_neg a0, if_pos i0, eop, if_neg (show ¬ nI 15 = (0 : Int32) by decide), if_neg (show ¬ nI 15 = (1 : Int32) by decide), if_neg (show ¬ nI 15 = (2 : Int32) by decide), if_neg (show ¬ nI 15 = (3 : Int32) by decide), if_neg (show ¬ nI 15 = (4 : Int32) by decide), if_neg (show ¬ nI 15 = (5 : Int32) by decide), if_neg (show ¬ nI 15 = (6 : Int32) by decide), if_neg (show ¬ nI 15 = (7 : Int32) by decide), if_neg (show ¬ nI 15 = (8 : Int32) by decide), if_neg (show ¬ nI 15 = (9 : Int32) by decide), if_neg (show ¬ nI 15 = (10 : Int32) by decide), if_neg (show ¬ nI 15 = (11 : Int32) by decide), if_neg (show ¬ nI 15 = (12 : Int32) by decide), if_neg (show ¬ nI 15 = (13 : Int32) by decide), if_neg (show ¬ nI 15 = (14 : Int32) by decide), if_pos (show nI 15 = (15 : Int32) by decide)]) ⟨S, rfl, hI⟩
theorem law_rounds {sc : mS} {n : Nat} (hn : 3000000 ≤ n) (hL : sc.1 ≤ 3072) : ∀ (d t m : Nat) (S : mSt), sc.1 / 6 - t = d → t ≤ sc.1 / 6 → d < m → Inv S → ∃ z, L0 sc n m S (nI (6 * t)) = some z ∧ z.1 = 1 := by
  intro d
  induction d with
  | zero =>
    intro t m S h1 h2 h3 hI
    obtain ⟨m, rfl⟩ : ∃ k, m = k + 1 := ⟨m - 1, by omega⟩
    have a0 : Int32.ofNat sc.1 - 6 < nI (6 * t) := (lawEnd hL (by omega)).mpr (by omega)
    refine ⟨(1, S, 0), ?_, rfl⟩
    unfold L0 I0
    rw [if_pos a0]; rfl
  | succ d ih =>
    intro t m S h1 h2 h3 hI
    obtain ⟨m, rfl⟩ : ∃ k, m = k + 1 := ⟨m - 1, by omega⟩
    obtain ⟨S', e, hI'⟩ := law_step hn hI t (by omega) hL
    obtain ⟨z, e2, e3⟩ := ih (t + 1) m S' (by omega) (by omega) (by omega) hI'
    refine ⟨z, ?_, e3⟩
    unfold L0
    rw [e]
    exact e2
