/-! the whole search -/
theorem F41_ev {C0 M0 C M : mSt} {np nb k c b n : Nat} {lf ff : Nat → Nat} {v2 v3 : Int32} (hn : 30 ≤ n) (hb : Bs C0 M0 np nb) (h : Sim C0 M0 C M np nb k c b lf ff v2 v3) :
    ((∀ e', c ≤ e' → e' < 2 * np → ¬ (ftN M0 nb (M.2.1 44 k) lf e' ∧ bB M0 nb (M.2.1 44 k) = 0)) ∧ F41 n C = some (-1)) ∨ ∃ e, (c ≤ e ∧ e < 2 * np ∧ (ftN M0 nb (M.2.1 44 k) lf e ∧ bB M0 nb (M.2.1 44 k) = 0) ∧ ∀ e', c ≤ e' → e' < e → ¬ (ftN M0 nb (M.2.1 44 k) lf e' ∧ bB M0 nb (M.2.1 44 k) = 0)) ∧ F41 n C = some (nI (rk M0 e)) := by
  obtain ⟨hk1, hk⟩ := Sim_k h
  obtain ⟨hd, hm, hB, h14, h24, hs, hj⟩ := h
  obtain ⟨k14, k25, k43, kc, k26, k27, kP⟩ := h14
  have h5 := hb.2.2.1.1
  by_cases q : k = 100
  · subst q
    have o99 : ¬ iO 0 (nI 100) 99 := fun z => nI_ge (a := 99) (b := 100) (by omega) (by omega) z.2
    refine Or.inl ⟨fun e' w1 w2 w3 => ?_, by simp [F41, k14, F6_out o99]⟩
    have := w3.1.2.2.2
    have := sN_ge (f := lf) (n := np) (p := e' / 2) (by omega)
    omega
  · have o99 : iO 0 (nI k) 99 := ⟨nI_pos' (by omega), nI_le (b := 99) (by omega) (by omega)⟩
    have hx := nI_ix (n := k) (N := 101) (by omega) (by omega)
    have hc := nI_clamp (n := k) (by omega)
    rw [hc] at hx
    have b1 := barC hb hd (M.2.1 44 k)
    rcases bB_01 M0 nb (M.2.1 44 k) with w | w
    · have mx : (if (0 : Int32) < nI (rk M0 c) then nI (rk M0 c) else (0 : Int32)) = nI (rk M0 c) := by
        have r1 := rk_le M0 c
        have r2 : (0 : Int32) ≤ nI (rk M0 c) := nI_pos' (by omega)
        by_cases r3 : (0 : Int32) < nI (rk M0 c)
        · rw [if_pos r3]
        · rw [if_neg r3]; exact Int32.le_antisymm r2 (Int32.not_lt.mp r3)
      rcases cls_scan (lf := lf) hb hd hk k26 (fun p hp => ⟨(h24 p hp).1, by have := sN_ge (f := lf) hp; omega⟩) (2 * np - c) n c rfl kc (by omega) with ⟨w1, w2⟩ | ⟨e, ⟨w1, w2, w3, w4⟩, w5⟩
      · exact Or.inl ⟨fun e' q1 q2 q3 => w1 e' q1 q2 q3.1, by simp [F41, k14, F6_in o99, hx, hc, k26, b1, w, k25, mx, w2]⟩
      · exact Or.inr ⟨e, ⟨w1, w2, ⟨w3, w⟩, fun e' q1 q2 q3 => w4 e' q1 q2 q3.1⟩, by simp [F41, k14, F6_in o99, hx, hc, k26, b1, w, k25, mx, w5]⟩
    · refine Or.inl ⟨fun e' w1 w2 w3 => ?_, by simp [F41, k14, F6_in o99, hx, hc, k26, b1, w]⟩
      rw [w3.2] at w
      exact absurd w (by decide)
theorem BestR_up {M0 C M M' : mSt} {np nb b k e : Nat} {v2 : Int32} (hu : Up M M' k e) (h : BestR M0 C M np nb b v2) : BestR M0 C M' np nb b v2 := by
  simpa [BestR, bE, hu.1, hu.2.2.1] using h
theorem search {C0 M0 : mSt} {np nb N : Nat} (hb : Bs C0 M0 np nb) (hN : N ≤ 100000) : ∀ (d n m : Nat) (C M : mSt) (k c b : Nat) (lf ff : Nat → Nat) (v2 v3 : Int32) (r t : Nat), 2 * r + k = d → t + k + 2 * r = 2 * N → 400 + d < n → 400 + 12 * (d + 1) < m → Sim C0 M0 C M np nb k c b lf ff v2 v3 →
    ∃ q C' M' b' v2', (q = 2 ∨ q = 3) ∧ L39_14 n C (nI N) (nI r) (nI t) = some (q, C', 0, 0, 0) ∧ L68_88 m M v2 v3 (nI k) (nI r) = some (q, M', v2', 0, 0, 0) ∧ dF C0 C' ∧ mF M0 M' ∧ BestR M0 C' M' np nb b' v2' ∧ M'.1 28 = M.1 28 := by
  intro d
  induction d using Nat.strongRecOn with
  | _ d ih =>
  intro n m C M k c b lf ff v2 v3 r t h1 h2 h3 h4 hS
  obtain ⟨n, rfl⟩ : ∃ k, n = k + 1 := ⟨n - 1, by omega⟩
  have h5 := hb.2.2.1.1
  obtain ⟨hk1, hk⟩ := Sim_k hS
  have hkc : c ≤ 2 * np := hS.2.2.2.1.2.2.2.1
  have hlf : ∀ p, p < np → lf p < 2 ^ 31 := fun p hp => by
    have := sN_ge (f := lf) hp
    have := hS.2.2.2.2.2.1
    omega
  have t0 : ¬ nI (2 * N) + 1 < nI t := by rw [nI_1]; exact nI_nlt (by omega) (by omega)
  have k14 : C.1 14 = nI k := hS.2.2.2.1.1
  rcases F41_ev (n := n) (by omega) hb hS with ⟨w1, w2⟩ | ⟨e, ⟨w1, w2, w3, w4⟩, w5⟩
  · obtain ⟨M', hu, hM⟩ := mod_adv hb hk hlf v2 v3 (nI r) (2 * np - c) c (2 * np) M rfl hkc (Nat.le_refl _) hS.2.1 hS.2.2.2.1.2.2.1 (fun p hp => (hS.2.2.2.2.1 p hp).2) w1
    obtain ⟨m', rfl⟩ : ∃ m', m = (m' + 1) + (2 * np - c) := ⟨m - (2 * np - c) - 1, by omega⟩
    rw [hM (m' + 1) (by omega)]
    cases k with
    | zero =>
      have z0 : nI 0 = 0 := rfl
      have hm' := Up_mF hu hS.2.1
      have e25 : M'.1 25 = nI np := (hm'.1 25 (by omega)).trans hb.2.2.1.2.2.1
      refine ⟨2, C, M', b, v2, Or.inl rfl, ?_, ?_, hS.1, hm', BestR_up hu hS.2.2.1, congrFun hu.1 28⟩
      · simp [L39_14, I39_14, nI_2mul, t0, w2, k14, z0]
      · have n1 : ¬ (0 : Int32) ≤ -1 := by decide
        have c0 : (0 : Int32).toNatClampNeg = 0 := rfl
        have u := hu.2.2.2.2
        simp [L68_88, I68_88, z0, u, e25, nI_2mul, n1, c0]
    | succ k =>
      obtain ⟨C1, M1, c', lf', v3', a1, a2, a3, a28⟩ := sim_lift (v5 := nI r) hb hS hu
      obtain ⟨q, C', M2, b', v2', f1, f2, f3, f4, f5, f6, f28⟩ := ih (2 * r + k) (by omega) n m' C1 M1 k c' b lf' ff v2 v3' r (t + 1) rfl (by omega) (by omega) (by omega) a3
      refine ⟨q, C', M2, b', v2', f1, ?_, ?_, f4, f5, f6, f28.trans a28⟩
      · have p0 : (0 : Int32) < nI (k + 1) := nI_lt (a := 0) (by omega) (by omega)
        rw [← f2, ← nI_1 t]
        simp [L39_14, I39_14, nI_2mul, t0, w2, k14, p0, a1]
      · rw [a2 m']; exact f3
  · obtain ⟨M', hu, hM⟩ := mod_adv hb hk hlf v2 v3 (nI r) (e - c) c e M rfl w1 (by omega) hS.2.1 hS.2.2.2.1.2.2.1 (fun p hp => (hS.2.2.2.2.1 p hp).2) w4
    obtain ⟨m', rfl⟩ : ∃ m', m = (m' + 1) + (e - c) := ⟨m - (e - c) - 1, by omega⟩
    rw [hM (m' + 1) (by omega)]
    have r10 := rk_le M0 e
    have ne1 : ¬ nI (rk M0 e) = -1 := by
      intro z
      have : ¬ nI (rk M0 e) < 0 := nI_pos (by omega)
      rw [z] at this
      exact this (by decide)
    have hm' := Up_mF hu hS.2.1
    cases r with
    | zero =>
      have z0 : nI 0 = 0 := rfl
      have e25 : M'.1 25 = nI np := (hm'.1 25 (by omega)).trans hb.2.2.1.2.2.1
      have hy := nI_ix (n := k) (N := 202) (by omega) (by omega)
      have hc := nI_clamp (n := k) (by omega)
      rw [hc] at hy
      have k0 : ¬ nI k < 0 := nI_pos (by omega)
      have ne : ¬ nI e = nI (2 * np) := by rw [nI_eq (by omega) (by omega)]; omega
      have e44 : M'.2.1 44 = M.2.1 44 := hu.2.2.1 44 (by omega)
      have e69 : F69 m' M' (nI e) (M.2.1 44 k) = some 1 := by
        rcases F69_ev (n := m') (pl := M.2.1 44 k) (lf := lf) (by omega) hb hm' w2 (by rw [hu.2.2.1 46 (by omega)]; exact (hS.2.2.2.2.1 _ (by omega)).2) (hlf _ (by omega)) with ⟨_, w⟩ | ⟨w, _⟩
        · exact w
        · exact absurd w3 w
      refine ⟨3, C, M', b, v2, Or.inr rfl, ?_, ?_, hS.1, hm', BestR_up hu hS.2.2.1, congrFun hu.1 28⟩
      · simp [L39_14, I39_14, nI_2mul, t0, w5, ne1, z0]
      · simp [L68_88, I68_88, k0, hy, hc, hu.2.2.2.2, e25, nI_2mul, ne, K68_189, e44, e69, K68_219, z0]
    | succ r =>
      obtain ⟨C1, M1, lf', ff', v3', a1, a2, a3, a28⟩ := sim_lay (n2 := m') (by omega) hb hS w2 w3.1 w3.2 hu r (by omega)
      obtain ⟨C2, M2, b', v2', g1, g2, g3, g28⟩ := sim_keep (n := n) (n2 := m') (v5 := nI r) (by omega) (by omega) hb a3
      obtain ⟨q, C', M3, b'', v2'', f1, f2, f3, f4, f5, f6, f28⟩ := ih (2 * r + (k + 1)) (by omega) n m' C2 M2 (k + 1) 0 b' lf' ff' v2' v3' r (t + 1) rfl (by omega) (by omega) (by omega) g3
      refine ⟨q, C', M3, b'', v2'', f1, ?_, ?_, f4, f5, f6, f28.trans (g28.trans a28)⟩
      · have p0 : (0 : Int32) < nI (r + 1) := nI_lt (a := 0) (by omega) (by omega)
        have s1 : nI (r + 1) + -1 = nI r := nI_m1 r
        rw [← f2, ← nI_1 t]
        simp [L39_14, I39_14, nI_2mul, t0, w5, ne1, p0, a1, g1, s1]
      · rw [← f3]
        simp [L68_88, a2, g2]
