/-! laying a strip and lifting it: both sides -/
theorem nI_m1 (k : Nat) : nI (k + 1) + (-1) = nI k := by
  rw [← Int32.sub_eq_add_neg]; exact nI_pred k
theorem nI_sub {a b : Nat} (h : b ≤ a) : nI a - nI b = nI (a - b) := by
  have : nI a = nI (a - b) + nI b := by rw [nI_add]; congr 1; omega
  rw [this, Int32.add_sub_cancel]
theorem lnC_n {C M : mSt} {np c : Nat} (h : cPc C M np) (hc : c < 2 * np) : ∃ X, lnC M c = nI X ∧ 1 ≤ X ∧ X ≤ 200 := by
  obtain ⟨_, g1, _, g2, _⟩ := h.2.2.2 (c / 2) (by omega)
  unfold lnC
  split
  · obtain ⟨j, a, b, e⟩ := io_nat (l := 1) (m := 200) (by omega) (by omega) g1
    exact ⟨j, e, a, b⟩
  · obtain ⟨j, a, b, e⟩ := io_nat (l := 1) (m := 200) (by omega) (by omega) g2
    exact ⟨j, e, a, b⟩
/-- the last end, where something ends before it -/
theorem end_n {M : mSt} (h : cRg M) {x : Nat} (hx : x < 2 ^ 31) (hl : nI x ≤ M.1 17 - M.1 21) : ∃ E : Nat, M.1 17 - M.1 21 = nI E ∧ x ≤ E ∧ E ≤ 200 := by
  obtain ⟨h17, _, _, _, h21, _⟩ := h
  obtain ⟨L, _, hL, eL⟩ := io_nat (l := 1) (m := 200) (by omega) (by omega) h17
  obtain ⟨B, _, hB, eB⟩ := io_nat (l := 0) (m := 200) (by omega) (by omega) h21
  rw [eL, eB] at hl ⊢
  by_cases q : B ≤ L
  · rw [nI_sub q] at hl ⊢
    rw [nI_leI hx (by omega)] at hl
    exact ⟨L - B, rfl, hl, by omega⟩
  · exfalso
    rw [Int32.le_iff_toInt_le, Int32.toInt_sub, nI_toInt hx, nI_toInt (by omega), nI_toInt (by omega)] at hl
    have : Int.bmod ((L : Int) - B) (2 ^ 32) = (L : Int) - B := by
      apply Int.bmod_eq_of_le <;> omega
    rw [this] at hl
    omega
theorem F44_ev {C : mSt} {p : Nat} {x : Int32} (hp : p < 5) : F44 C (nI p) x = some (C.1, va_up C.2.1 24 (upd (C.2.1 24) p (C.2.1 24 p - x)), C.2.2) := by
  have o4 : iO 0 (nI p) 4 := ⟨nI_pos' (by omega), nI_le (b := 4) (by omega) (by omega)⟩
  have hcx := nI_ix (n := p) (N := 5) hp (by omega)
  have hcc := nI_clamp (n := p) (by omega)
  rw [hcc] at hcx
  simp [F44, F6_in o4, hcx, hcc]
/-- lifting -/
theorem sim_lift {C0 M0 C M M' : mSt} {np nb k c b : Nat} {lf ff : Nat → Nat} {v2 v3 v5 : Int32} (hb : Bs C0 M0 np nb) (h : Sim C0 M0 C M np nb (k + 1) c b lf ff v2 v3) (hu : Up M M' (k + 1) (2 * np)) :
    ∃ C1 M1 c' lf' v3', F43 C = some C1 ∧ (∀ m, L68_88 (m + 1) M' v2 v3 (nI (k + 1)) v5 = L68_88 m M1 v2 v3' (nI k) v5) ∧ Sim C0 M0 C1 M1 np nb k c' b lf' ff v2 v3' ∧ M1.1 28 = M.1 28 := by
  obtain ⟨_, hk⟩ := Sim_k h
  obtain ⟨hd, hm, hB, h14, h24, hs, hj⟩ := h
  obtain ⟨k14, k25, k43, kc, k26, k27, kP⟩ := h14
  have hm' := Up_mF hu hm
  have h5 := hb.2.2.1.1
  obtain ⟨⟨e, ⟨q1, q2, q3, q4, q5, q6⟩, ⟨r1, r2, r3, r4, r5⟩, ⟨t1, t2⟩, g1, g2⟩, t3⟩ := hj k (by omega)
  have hp : e / 2 < np := by omega
  have k43' : M'.2.1 43 k = nI e := by rw [hu.2.2.2.1 k (by omega)]; exact q3
  have lf100 : lf (e / 2) ≤ sN lf np := sN_ge hp
  -- the class
  have o99 : iO 0 (nI k) 99 := ⟨nI_pos' (by omega), nI_le (b := 99) (by omega) (by omega)⟩
  have hx := nI_ix (n := k) (N := 100) (by omega) (by omega)
  have hy := nI_ix (n := k) (N := 202) (by omega) (by omega)
  have hc := nI_clamp (n := k) (by omega)
  rw [hc] at hx hy
  have ea : nI (lf (e / 2)) - -nI (ff k) = nI (lf (e / 2) + ff k) := by
    rw [Int32.sub_eq_add_neg, Int32.neg_neg, nI_add]
  have ec : F43 C = some (va_up C.1 14 (nI k), va_up C.2.1 24 (upd (C.2.1 24) (e / 2) (nI (lf (e / 2) + ff k))), C.2.2) := by
    simp [F43, k14, nI_pred, F6_in o99, hx, hc, r1, r5, F44_ev (show e / 2 < 5 by omega), (h24 _ hp).1, ea]
  -- the reference
  have hy1 := nI_ix (n := k + 1) (N := 202) (by omega) (by omega)
  have hc1 := nI_clamp (n := k + 1) (by omega)
  rw [hc1] at hy1
  have e25 : M'.1 25 = nI np := (hm'.1 25 (by omega)).trans hb.2.2.1.2.2.1
  have k0 : ¬ nI (k + 1) < 0 := nI_pos (by omega)
  have k1 : 0 ≤ nI k := nI_pos' (by omega)
  have hcx := nI_ix (n := e / 2) (N := 5) (by omega) (by omega)
  have hcc := nI_clamp (n := e / 2) (by omega)
  rw [hcc] at hcx
  have hh := nI_half (c := e) (by omega)
  have e45 : M'.2.1 45 k = nI (ff k) := by rw [hu.2.2.1 45 (by omega)]; exact q4
  have e46 : M'.2.1 46 (e / 2) = nI (lf (e / 2)) := by rw [hu.2.2.1 46 (by omega)]; exact (h24 _ hp).2
  have e38 : M'.2.1 38 = M0.2.1 38 := hm'.2.1 38 (by omega)
  have ev : v3 - nI (ff k) * M0.2.1 38 (e / 2) = C.2.1 27 k := by
    rw [← k27, t2, Int32.add_sub_cancel]
  refine ⟨_, (M'.1, va_up (va_up M'.2.1 46 (upd (M'.2.1 46) (e / 2) (nI (lf (e / 2) + ff k)))) 43 (upd (M'.2.1 43) k (nI (e + 1))), M'.2.2), e + 1, fun i => if i = e / 2 then lf (e / 2) + ff k else lf i, C.2.1 27 k, ec, ?_, ?_, congrFun hu.1 28⟩
  · intro m
    have s1 : nI (k + 1) + -1 = nI k := nI_m1 k
    simp [L68_88, I68_88, k0, hy1, hc1, hu.2.2.2.2, e25, nI_2mul, s1, k1, K68_124, hy, hc, k43', hh, hcx, hcc, K68_157, e45, e46, va_up_ne, va_up_self, e38, ev, K68_175, nI_1, nI_add]
  · refine ⟨⟨?_, ?_, hd.2.2⟩, ⟨hm'.1, ?_, hm'.2.2⟩, ?_, ⟨by simp [va_up], ?_, by simp [va_up, upd], by omega, ?_, by simp [va_up], ?_⟩, ?_, ?_, ?_⟩
    · intro i i1 i2 i3
      simpa [va_up, i2] using hd.1 i i1 i2 i3
    · intro i hi
      simpa [va_up, show i ≠ 24 by omega] using hd.2.1 i hi
    · intro i hi
      simpa [va_up, show i ≠ 43 by omega, show i ≠ 46 by omega] using hm'.2.1 i hi
    · have := hB
      simpa [BestR, bE, va_up, hu.1, hu.2.2.1] using this
    · simpa [va_up] using t1
    · simpa [va_up, hu.2.2.1] using t3
    · obtain ⟨⟨P, w1, w2⟩, _⟩ := g1
      exact ⟨P, w1, by simpa [va_up, hu.2.2.1] using w2⟩
    · intro p hp2
      by_cases q : p = e / 2
      · subst q; simp [va_up, upd]
      · have := h24 p hp2
        simpa [va_up, upd, q, hu.2.2.1] using this
    · have w := sN_up (f := lf) (n := np) (p := e / 2) (x := lf (e / 2) + ff k) hp
      have w2 : sN ff (k + 1) = sN ff k + ff k := rfl
      omega
    · intro j q
      have := hj j (by omega)
      have jk : j ≠ k := by omega
      have jk1 : j ≠ k + 1 := by omega
      simpa [sE, va_up, upd, jk, hu.2.2.1, hu.2.2.2.1 j jk1] using this
/-- laying -/
theorem F45_ev {C : mSt} {k r p t f l s : Nat} {ln w : Int32} (hk : k < 100) (hr : r < 10) (hp : p < 5) (ht : t < 2) (hl : l < 2 ^ 31) (hs : s < 2 ^ 31) (h14 : C.1 14 = nI k) (h37 : F37 C (nI r) = some 1) (k11 : C.2.1 11 r = nI p) (k12 : C.2.1 12 r = nI t) (k13 : C.2.1 13 r = ln) (k14 : C.2.1 14 r = nI s) (k15 : C.2.1 15 r = w) (h24 : C.2.1 24 p = nI l) (hf : f = if l < s then l else s) :
    F45 C (nI r) = some (va_up C.1 14 (nI (k + 1)), va_up (va_up (va_up (va_up (va_up (va_up (va_up (va_up (va_up C.2.1 19 (upd (C.2.1 19) k (nI p))) 20 (upd (C.2.1 20) k (nI t))) 21 (upd (C.2.1 21) k (C.2.1 26 k))) 22 (upd (C.2.1 22) k ln)) 23 (upd (C.2.1 23) k (nI f))) 24 (upd (C.2.1 24) p (nI (l - f)))) 25 (upd (upd (C.2.1 25) k (nI (r + 1))) (k + 1) 0)) 26 (upd (C.2.1 26) (k + 1) (C.2.1 26 k + ln + C.1 4))) 27 (upd (C.2.1 27) (k + 1) (C.2.1 27 k + nI f * w)), C.2.2) := by
  have o99 : iO 0 (nI k) 99 := ⟨nI_pos' (by omega), nI_le (b := 99) (by omega) (by omega)⟩
  have hx := nI_ix (n := k) (N := 100) (by omega) (by omega)
  have hy := nI_ix (n := k) (N := 101) (by omega) (by omega)
  have hc := nI_clamp (n := k) (by omega)
  rw [hc] at hx hy
  have hy1 := nI_ix (n := k + 1) (N := 101) (by omega) (by omega)
  have hc1 := nI_clamp (n := k + 1) (by omega)
  rw [hc1] at hy1
  have hrx := nI_ix (n := r) (N := 10) (by omega) (by omega)
  have hrc := nI_clamp (n := r) (by omega)
  rw [hrc] at hrx
  have o4 : iO 0 (nI p) 4 := ⟨nI_pos' (by omega), nI_le (b := 4) (by omega) (by omega)⟩
  have hcx := nI_ix (n := p) (N := 5) hp (by omega)
  have hcc := nI_clamp (n := p) (by omega)
  rw [hcc] at hcx
  have f42 : F42 C (nI p) = some (nI l) := by simp [F42, F6_in o4, hcx, hcc, h24]
  have hn : vp_nar .boolean (nI t) = nI t := by
    rcases (show t = 0 ∨ t = 1 by omega) with z | z <;> rw [z] <;> rfl
  have hmin : (if nI l < nI s then nI l else nI s) = nI f := by
    by_cases q : l < s
    · rw [if_pos (nI_lt q hs), hf, if_pos q]
    · rw [if_neg (nI_nlt (by omega) hl), hf, if_neg q]
  have fl : f ≤ l := by rw [hf]; split <;> omega
  simp [F45, h14, F6_in o99, h37, hrx, hrc, k11, f42, hx, hy, hc, k12, k13, k14, hn, hmin, F44_ev hp, va_up_ne, va_up_self, h24, nI_sub fl, nI_1, hy1, hc1, k15]
theorem sim_lay {C0 M0 C M M' : mSt} {np nb k c b e n2 : Nat} {lf ff : Nat → Nat} {v2 v3 : Int32} (hn2 : 300 ≤ n2) (hb : Bs C0 M0 np nb) (h : Sim C0 M0 C M np nb k c b lf ff v2 v3) (he : e < 2 * np) (hft : ftN M0 nb (M.2.1 44 k) lf e) (hbar : bB M0 nb (M.2.1 44 k) = 0) (hu : Up M M' k e) (r : Nat) (hr : r < 2 ^ 31 - 1) :
    ∃ C1 M1 lf' ff' v3', F45 C (nI (rk M0 e)) = some C1 ∧ I68_88 n2 M' v2 v3 (nI k) (nI (r + 1)) = K68_340 n2 M1 v2 v3' (nI (k + 1)) (nI r) ∧ Sim C0 M0 C1 M1 np nb (k + 1) 0 b lf' ff' v2 v3' ∧ M1.1 28 = M.1 28 := by
  obtain ⟨hk1, hk⟩ := Sim_k h
  obtain ⟨hd, hm, hB, h14, h24, hs, hj⟩ := h
  obtain ⟨k14, k25, k43, kc, k26, k27, P, hP, kP⟩ := h14
  have hm' := Up_mF hu hm
  have h5 := hb.2.2.1.1
  have hp : e / 2 < np := by omega
  have lf100 : lf (e / 2) ≤ sN lf np := sN_ge hp
  have hlf1 := hft.2.2.2
  have hk100 : k < 100 := by omega
  obtain ⟨ms21, _, _⟩ := ms_c hb.2.1 hb.1 hb.2.2.1 he
  have hms1 : 1 ≤ msC M0 e := by
    have := hft.1
    simp [gd] at this
    exact this.2
  obtain ⟨f, hf⟩ : ∃ f, f = if lf (e / 2) < msC M0 e then lf (e / 2) else msC M0 e := ⟨_, rfl⟩
  have f1 : 1 ≤ f := by rw [hf]; split <;> omega
  have f21 : f ≤ 21 := by rw [hf]; split <;> omega
  have fl : f ≤ lf (e / 2) := by rw [hf]; split <;> omega
  have r10 := rk_le M0 (2 * np)
  have rlt := rk_lt M0 he hft.1
  have e12 : C.1 12 = nI (rk M0 (2 * np)) := (hd.1 12 (by omega) (by omega) (by omega)).trans hb.2.2.2.2.1
  have f37 : F37 C (nI (rk M0 e)) = some 1 := by
    have q0 : ¬ nI (rk M0 e) < 0 := nI_pos (by omega)
    have q1 : ¬ nI (rk M0 (2 * np)) ≤ nI (rk M0 e) := nI_ge rlt (by omega)
    have q2 : ¬ (10 : Int32) ≤ nI (rk M0 e) := nI_ge (b := 10) (by omega) (by omega)
    simp [F37, q0, e12, q1, q2]
  obtain ⟨kk1, kk2, kk3, kk4, kk5⟩ := hb.2.2.2.2.2 e he hft.1
  rw [← hd.2.1 11 (by omega)] at kk1
  rw [← hd.2.1 12 (by omega)] at kk2
  rw [← hd.2.1 13 (by omega)] at kk3
  rw [← hd.2.1 14 (by omega)] at kk4
  rw [← hd.2.1 15 (by omega)] at kk5
  have ec := F45_ev hk100 (show rk M0 e < 10 by omega) (show e / 2 < 5 by omega) (show e % 2 < 2 by omega) (show lf (e / 2) < 2 ^ 31 by omega) (show msC M0 e < 2 ^ 31 by omega) k14 f37 kk1 kk2 kk3 kk4 kk5 (h24 _ hp).1 hf
  have C4 : C.1 4 = M0.1 19 := (hd.1 4 (by omega) (by omega) (by omega)).trans hb.1.2.2.1
  have rs : rk M0 (e + 1) = rk M0 e + 1 := by simp [rk, hft.1]
  obtain ⟨Q, eQ, hQ1, hQ2⟩ := lnC_n hb.2.2.1 he
  obtain ⟨K, _, hK, eK⟩ := io_nat (l := 0) (m := 20) (by omega) (by omega) hb.2.1.2.2.1
  have hPQ : P + Q ≤ 200 := by
    have := hft.2.1
    rw [kP, eQ, nI_add] at this
    obtain ⟨E, _, w1, w2⟩ := end_n hb.2.1 (by omega) this
    omega
  -- the reference
  have hy := nI_ix (n := k) (N := 202) (by omega) (by omega)
  have hc := nI_clamp (n := k) (by omega)
  rw [hc] at hy
  have hy1 := nI_ix (n := k + 1) (N := 202) (by omega) (by omega)
  have hc1 := nI_clamp (n := k + 1) (by omega)
  rw [hc1] at hy1
  have e25 : M'.1 25 = nI np := (hm'.1 25 (by omega)).trans hb.2.2.1.2.2.1
  have k0 : ¬ nI k < 0 := nI_pos (by omega)
  have ne : ¬ nI e = nI (2 * np) := by rw [nI_eq (by omega) (by omega)]; omega
  have hcx := nI_ix (n := e / 2) (N := 5) (by omega) (by omega)
  have hcc := nI_clamp (n := e / 2) (by omega)
  rw [hcc] at hcx
  have hh := nI_half (c := e) (by omega)
  have e44 : M'.2.1 44 = M.2.1 44 := hu.2.2.1 44 (by omega)
  have e45 : M'.2.1 45 = M.2.1 45 := hu.2.2.1 45 (by omega)
  have e46 : M'.2.1 46 = M.2.1 46 := hu.2.2.1 46 (by omega)
  have e46' : M.2.1 46 (e / 2) = nI (lf (e / 2)) := (h24 _ hp).2
  have e38 : M'.2.1 38 = M0.2.1 38 := hm'.2.1 38 (by omega)
  have e19 : M'.1 19 = M0.1 19 := hm'.1 19 (by omega)
  have e69 : F69 n2 M' (nI e) (M.2.1 44 k) = some 1 := by
    rcases F69_ev (n := n2) (pl := M.2.1 44 k) (lf := lf) (by omega) hb hm' he (by rw [e46]; exact e46') (by omega) with ⟨_, w⟩ | ⟨w, _⟩
    · exact w
    · exact absurd ⟨hft, hbar⟩ w
  have e72 : F72 n2 M' (nI e) (nI (lf (e / 2))) = some (nI f) := by
    rw [hf]; exact holdM (by omega) hb hm' he (by omega)
  have hr0 : ¬ nI (r + 1) = 0 := nI_ne0 (by omega) (by omega)
  have e70 : ∀ X : mSt, X.2.1 35 = M0.2.1 35 → X.2.1 37 = M0.2.1 37 → F70 X (nI e) = some (lnC M0 e) := by
    intro X x1 x2
    rw [F70_ev (by omega)]
    simp [lnC, x1, x2]
  have e35 : M'.2.1 35 = M0.2.1 35 := hm'.2.1 35 (by omega)
  have e37 : M'.2.1 37 = M0.2.1 37 := hm'.2.1 37 (by omega)
  refine ⟨_, (M'.1, va_up (va_up (va_up (va_up M'.2.1 45 (upd (M.2.1 45) k (nI f))) 46 (upd (M.2.1 46) (e / 2) (nI (lf (e / 2) - f)))) 44 (upd (M.2.1 44) (k + 1) (M.2.1 44 k + lnC M0 e + M0.1 19))) 43 (upd (M'.2.1 43) (k + 1) 0), M'.2.2), fun i => if i = e / 2 then lf (e / 2) - f else lf i, fun j => if j = k then f else ff j, v3 + nI f * M0.2.1 38 (e / 2), ec, ?_, ?_, congrFun hu.1 28⟩
  · have s1 : nI (r + 1) + -1 = nI r := nI_m1 r
    have s2 : nI k + 1 - 1 = nI k := Int32.add_sub_cancel _ _
    have u1 : ∀ (g : Nat → Int32) (x : Int32), upd g k x k = x := fun g x => by simp [upd]
    simp [I68_88, k0, hy, hc, hu.2.2.2.2, e25, nI_2mul, ne, K68_189, e44, e69, K68_219, hr0, K68_232, hh, hcx, hcc, e46, e46', e72, s1, K68_261, va_up_ne, va_up_self, u1, K68_283, e38, K68_304, s2, e70, e35, e37, nI_1, hy1, hc1, K68_332, nI_pred, nI_sub fl, e45, e19]
  · refine ⟨⟨?_, ?_, hd.2.2⟩, ⟨hm'.1, ?_, hm'.2.2⟩, ?_, ⟨by simp [va_up], by simp [va_up, upd, rk]; rfl, by simp [va_up, upd]; rfl, by omega, ?_, ?_, P + Q + K, by omega, ?_⟩, ?_, ?_, ?_⟩
    · intro i i1 i2 i3
      simpa [va_up, i2] using hd.1 i i1 i2 i3
    · intro i hi
      have := hd.2.1 i hi
      simpa [va_up, show i ≠ 19 by omega, show i ≠ 20 by omega, show i ≠ 21 by omega, show i ≠ 22 by omega, show i ≠ 23 by omega, show i ≠ 24 by omega, show i ≠ 25 by omega, show i ≠ 26 by omega, show i ≠ 27 by omega] using this
    · intro i hi
      simpa [va_up, show i ≠ 43 by omega, show i ≠ 44 by omega, show i ≠ 45 by omega, show i ≠ 46 by omega] using hm'.2.1 i hi
    · have := hB
      simpa [BestR, bE, va_up, hu.1, hu.2.2.1] using this
    · simp [va_up, upd, k26, C4]
    · simp [va_up, upd, k27]
    · simp [va_up, upd, kP, eQ, eK, nI_add]
    · intro p hp2
      by_cases q : p = e / 2
      · subst q; simp [va_up, upd]
      · have := h24 p hp2
        simpa [va_up, upd, q] using this
    · have w := sN_up (f := lf) (n := np) (p := e / 2) (x := lf (e / 2) - f) hp
      have w2 : sN (fun j => if j = k then f else ff j) (k + 1) = sN (fun j => if j = k then f else ff j) k + f := by simp [sN]
      have w3 : sN (fun j => if j = k then f else ff j) k = sN ff k := sN_ext (fun i hi => by simp [show i ≠ k by omega])
      omega
    · intro j q
      by_cases jk : j = k
      · subst jk
        refine ⟨⟨e, ⟨he, hft.1, ?_, ?_, ?_, ?_⟩, ⟨?_, ?_, ?_, ?_, ?_⟩, ⟨?_, ?_⟩, ?_, ?_⟩, ?_⟩
        · simp [va_up, upd, hu.2.2.2.2]
        · simp [va_up, upd]
        · simpa using f1
        · simpa using f21
        · simp [va_up, upd]
        · simp [va_up, upd]
        · simp [va_up, upd, k26]
        · simp [va_up, upd]
        · simp [va_up, upd]
        · simp [va_up, upd, rs]
        · simp [va_up, upd]
        · have : gE M0 nb (M.2.1 44 j) (lnC M0 e) := ⟨⟨P, hP, kP⟩, hft.2.1, hbar, hft.2.2.1⟩
          simpa [va_up, upd] using this
        · simp [va_up, upd]
        · simp [va_up, upd, k26]
      · have := hj j (by omega)
        have j1 : j ≠ k + 1 := by omega
        simpa [sE, va_up, upd, jk, j1, hu.2.2.2.1 j jk] using this
