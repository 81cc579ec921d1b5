/-! the next choice that fits: the class's search for a kind and the reference's rounds -/
def sN (f : Nat → Nat) : Nat → Nat
  | 0 => 0
  | n + 1 => sN f n + f n
theorem sN_ext {f g : Nat → Nat} {n : Nat} (h : ∀ i, i < n → f i = g i) : sN f n = sN g n := by
  induction n with
  | zero => rfl
  | succ n ih => unfold sN; rw [ih (fun i hi => h i (by omega)), h n (by omega)]
theorem sN_ge {f : Nat → Nat} {n p : Nat} (h : p < n) : f p ≤ sN f n := by
  induction n with
  | zero => omega
  | succ n ih =>
    unfold sN
    by_cases q : p = n
    · subst q; omega
    · have := ih (by omega); omega
theorem sN_len {f : Nat → Nat} {n : Nat} (h : ∀ i, i < n → 1 ≤ f i) : n ≤ sN f n := by
  induction n with
  | zero => omega
  | succ n ih =>
    unfold sN
    have := ih (fun i hi => h i (by omega))
    have := h n (by omega)
    omega
theorem sN_up {f : Nat → Nat} {n p x : Nat} (h : p < n) : sN (fun i => if i = p then x else f i) n + f p = sN f n + x := by
  induction n with
  | zero => omega
  | succ n ih =>
    unfold sN
    by_cases q : p = n
    · subst q
      rw [if_pos rfl, sN_ext (f := fun i => if i = p then x else f i) (g := f) (fun i hi => by simp [show i ≠ p by omega])]
      omega
    · have := ih (by omega)
      rw [if_neg (fun z => q z.symm)]
      omega
def gE (M0 : mSt) (nb : Nat) (p l : Int32) : Prop := (∃ P : Nat, P ≤ 220 ∧ p = nI P) ∧ p + l ≤ M0.1 17 - M0.1 21 ∧ bB M0 nb p = 0 ∧ bB M0 nb (p + l) = 0
def dF (C0 C : mSt) : Prop := (∀ i, i ≠ 13 → i ≠ 14 → (i ≠ 15 ∧ i ≠ 1) → C.1 i = C0.1 i) ∧ (∀ c, (c ≤ 16 ∨ 34 ≤ c) → C.2.1 c = C0.2.1 c) ∧ C.2.2 = C0.2.2
def mF (M0 M : mSt) : Prop := (∀ i, (i ≠ 29 ∧ i ≠ 28) → M.1 i = M0.1 i) ∧ (∀ c, c ≤ 42 → M.2.1 c = M0.2.1 c) ∧ M.2.2 = M0.2.2
def Bs (C0 M0 : mSt) (np nb : Nat) : Prop := cSc C0 M0 ∧ cRg M0 ∧ cPc C0 M0 np ∧ cBr C0 M0 nb ∧ KL M0 C0 (2 * np)
theorem barC {C0 M0 C : mSt} {np nb : Nat} (hb : Bs C0 M0 np nb) (hd : dF C0 C) (p : Int32) : F24 C p = some (bB M0 nb p) := by
  have h := hb.2.2.2.1
  apply F24_ev
  simpa [cBr, hd.2.1 2 (by omega)] using h
theorem barM {C0 M0 M : mSt} {np nb n : Nat} (hn : 10 ≤ n) (hb : Bs C0 M0 np nb) (hm : mF M0 M) (p : Int32) : F71 n M p = some (bB M0 nb p) := by
  have h := hb.2.2.2.1
  rw [F71_ev hn ((hm.1 26 (by omega)).trans h.2.1) h.1, bB_of (hm.2.1 41 (by omega)) (hm.2.1 42 (by omega))]
theorem lnM {M0 M : mSt} (hm : mF M0 M) (c : Nat) : lnC M c = lnC M0 c := by
  unfold lnC; rw [hm.2.1 35 (by omega), hm.2.1 37 (by omega)]
theorem acM {M0 M : mSt} (hm : mF M0 M) (c : Nat) : acC M c = acC M0 c := by
  unfold acC; rw [hm.2.1 35 (by omega), hm.2.1 37 (by omega)]
theorem msM {M0 M : mSt} (hm : mF M0 M) (c : Nat) : msC M c = msC M0 c := by
  unfold msC; rw [hm.1 18 (by omega), hm.1 19 (by omega), hm.1 22 (by omega), hm.1 23 (by omega), acM hm]
theorem BsM {C0 M0 M : mSt} {np nb : Nat} (hb : Bs C0 M0 np nb) (hm : mF M0 M) : cSc C0 M ∧ cRg M ∧ cPc C0 M np := by
  obtain ⟨h1, h2, h3, _⟩ := hb
  refine ⟨?_, ?_, ?_⟩
  · simpa [cSc, hm.1] using h1
  · simpa [cRg, hm.1] using h2
  · simpa [cPc, hm.1, hm.2.1 35 (by omega), hm.2.1 36 (by omega), hm.2.1 37 (by omega), hm.2.1 38 (by omega), hm.2.1 39 (by omega), hm.2.1 40 (by omega)] using h3
theorem holdM {C0 M0 M : mSt} {np nb n c f : Nat} (hn : 30 ≤ n) (hb : Bs C0 M0 np nb) (hm : mF M0 M) (hc : c < 2 * np) (hf : f < 2 ^ 31) : F72 n M (nI c) (nI f) = some (nI (if f < msC M0 c then f else msC M0 c)) := by
  obtain ⟨h1, h2, h3⟩ := BsM hb hm
  rw [← msM hm]
  exact (ms_c h2 h1 h3 hc).2.2 n f hn hf
def ftN (M0 : mSt) (nb : Nat) (pl : Int32) (lf : Nat → Nat) (e : Nat) : Prop := gd M0 e = true ∧ pl + lnC M0 e ≤ M0.1 17 - M0.1 21 ∧ bB M0 nb (pl + lnC M0 e) = 0 ∧ 1 ≤ lf (e / 2)
theorem F69_ev {C0 M0 M : mSt} {np nb n e : Nat} {pl : Int32} {lf : Nat → Nat} (hn : 30 ≤ n) (hb : Bs C0 M0 np nb) (hm : mF M0 M) (he : e < 2 * np) (hl : M.2.1 46 (e / 2) = nI (lf (e / 2))) (hlf : lf (e / 2) < 2 ^ 31) :
    ((ftN M0 nb pl lf e ∧ bB M0 nb pl = 0) ∧ F69 n M (nI e) pl = some 1) ∨ (¬ (ftN M0 nb pl lf e ∧ bB M0 nb pl = 0) ∧ F69 n M (nI e) pl = some 0) := by
  have h5 := hb.2.2.1.1
  have hp2 : e / 2 < np := by omega
  have hh := nI_half (c := e) (by omega)
  have hx := nI_ix (n := e / 2) (N := 5) (by omega) (by omega)
  have hc := nI_clamp (n := e / 2) (by omega)
  rw [hc] at hx
  have e70 : F70 M (nI e) = some (lnC M0 e) := by rw [F70_ev (by omega), lnM hm]
  have e17 : M.1 17 - M.1 21 = M0.1 17 - M0.1 21 := by rw [hm.1 17 (by omega), hm.1 21 (by omega)]
  have b1 := barM (n := n) (by omega) hb hm pl
  have b2 := barM (n := n) (by omega) hb hm (pl + lnC M0 e)
  have e72 := holdM (n := n) hn hb hm he hlf
  have e40 : M.2.1 40 = M0.2.1 40 := hm.2.1 40 (by omega)
  have par := (c_par (c := e) (by omega)).2
  have par2 := par
  rw [hh] at par2
  have ms21 := (ms_c hb.2.1 hb.1 hb.2.2.1 he).1
  have hold0 : (nI (if lf (e / 2) < msC M0 e then lf (e / 2) else msC M0 e) ≤ 0) ↔ ¬ (1 ≤ lf (e / 2) ∧ 1 ≤ msC M0 e) := by
    have : (if lf (e / 2) < msC M0 e then lf (e / 2) else msC M0 e) < 2 ^ 31 := by split <;> omega
    rw [show (0 : Int32) = nI 0 from rfl, nI_leI this (by omega)]
    split <;> omega
  -- the tests behind the first one
  have rest : gd M0 e = true ∨ ((e % 2 = 0 ∨ M0.2.1 40 (e / 2) = 1) ∧ ¬ 1 ≤ msC M0 e) → ((ftN M0 nb pl lf e ∧ bB M0 nb pl = 0) ∧ F69 n M (nI e) pl = some 1) ∨ (¬ (ftN M0 nb pl lf e ∧ bB M0 nb pl = 0) ∧ F69 n M (nI e) pl = some 0) := by
    intro hg
    have hmay : e % 2 = 0 ∨ M0.2.1 40 (e / 2) = 1 := by
      rcases hg with g | g
      · simp [gd] at g; exact g.1
      · exact g.1
    have hgm : 1 ≤ msC M0 e → gd M0 e = true := by
      intro w
      simp [gd, hmay, w]
    have hgm2 : gd M0 e = true → 1 ≤ msC M0 e := by
      intro w
      simp [gd] at w; exact w.2
    have may0 : ¬ e % 2 = 0 → ¬ M0.2.1 40 (e / 2) = 0 := by
      intro w z
      rcases hmay with q | q
      · exact w q
      · rw [z] at q; exact absurd q (by decide)
    by_cases w2 : M0.1 17 - M0.1 21 < pl + lnC M0 e
    · refine Or.inr ⟨fun z => Int32.lt_irrefl (Int32.lt_of_lt_of_le w2 z.1.2.1), ?_⟩
      by_cases w1 : e % 2 = 0
      · simp [F69, par, par2, w1, e70, e17, w2]
      · simp [F69, par, par2, w1, hh, hx, hc, e40, may0 w1, e70, e17, w2]
    · rcases bB_01 M0 nb pl with w3 | w3
      · rcases bB_01 M0 nb (pl + lnC M0 e) with w4 | w4
        · by_cases w5 : 1 ≤ lf (e / 2) ∧ 1 ≤ msC M0 e
          · have w6 : ¬ (nI (if lf (e / 2) < msC M0 e then lf (e / 2) else msC M0 e) ≤ 0) := fun z => hold0.mp z w5
            refine Or.inl ⟨⟨⟨hgm w5.2, Int32.not_lt.mp w2, w4, w5.1⟩, w3⟩, ?_⟩
            by_cases w1 : e % 2 = 0
            · simp [F69, par, par2, w1, e70, e17, w2, b1, b2, w3, w4, hh, hx, hc, hl, e72, w6]
            · simp [F69, par, par2, w1, hh, hx, hc, e40, may0 w1, e70, e17, w2, b1, b2, w3, w4, hl, e72, w6]
          · have w6 : nI (if lf (e / 2) < msC M0 e then lf (e / 2) else msC M0 e) ≤ 0 := hold0.mpr w5
            refine Or.inr ⟨fun z => w5 ⟨z.1.2.2.2, hgm2 z.1.1⟩, ?_⟩
            by_cases w1 : e % 2 = 0
            · simp [F69, par, par2, w1, e70, e17, w2, b1, b2, w3, w4, hh, hx, hc, hl, e72, w6]
            · simp [F69, par, par2, w1, hh, hx, hc, e40, may0 w1, e70, e17, w2, b1, b2, w3, w4, hl, e72, w6]
        · refine Or.inr ⟨fun z => by rw [z.1.2.2.1] at w4; exact absurd w4 (by decide), ?_⟩
          by_cases w1 : e % 2 = 0
          · simp [F69, par, par2, w1, e70, e17, w2, b1, b2, w3, w4]
          · simp [F69, par, par2, w1, hh, hx, hc, e40, may0 w1, e70, e17, w2, b1, b2, w3, w4]
      · refine Or.inr ⟨fun z => by rw [z.2] at w3; exact absurd w3 (by decide), ?_⟩
        by_cases w1 : e % 2 = 0
        · simp [F69, par, par2, w1, e70, e17, w2, b1, w3]
        · simp [F69, par, par2, w1, hh, hx, hc, e40, may0 w1, e70, e17, w2, b1, w3]
  by_cases hmay : e % 2 = 0 ∨ M0.2.1 40 (e / 2) = 1
  · by_cases w : 1 ≤ msC M0 e
    · exact rest (Or.inl (by simp [gd, hmay, w]))
    · exact rest (Or.inr ⟨hmay, w⟩)
  · have w1 : ¬ e % 2 = 0 := fun z => hmay (Or.inl z)
    have w0 : M0.2.1 40 (e / 2) = 0 := by
      rcases (hb.2.2.1.2.2.2 (e / 2) hp2).2.2.2.2.2.2 with q | q
      · exact q
      · exact absurd (Or.inr q) hmay
    refine Or.inr ⟨fun z => ?_, ?_⟩
    · have := z.1.1
      simp [gd] at this
      exact hmay this.1
    · simp [F69, par, par2, w1, hh, hx, hc, e40, w0]
theorem nI_2mul (n : Nat) : (2 : Int32) * nI n = nI (2 * n) := (Int32.ofNat_mul 2 n).symm
/-- only the choice at k has changed -/
def Up (M M' : mSt) (k e : Nat) : Prop := M'.1 = M.1 ∧ M'.2.2 = M.2.2 ∧ (∀ c, c ≠ 43 → M'.2.1 c = M.2.1 c) ∧ (∀ j, j ≠ k → M'.2.1 43 j = M.2.1 43 j) ∧ M'.2.1 43 k = nI e
theorem Up_mF {M0 M M' : mSt} {k e : Nat} (h : Up M M' k e) (hm : mF M0 M) : mF M0 M' := ⟨fun i hi => by rw [h.1]; exact hm.1 i hi, fun c hc => by rw [h.2.2.1 c (by omega)]; exact hm.2.1 c hc, by rw [h.2.1]; exact hm.2.2⟩
theorem mod_adv {C0 M0 : mSt} {np nb k : Nat} {lf : Nat → Nat} (hb : Bs C0 M0 np nb) (hk : k ≤ 100) (hlf : ∀ p, p < np → lf p < 2 ^ 31) (v2 v3 v5 : Int32) : ∀ (d c e : Nat) (M : mSt), e - c = d → c ≤ e → e ≤ 2 * np → mF M0 M → M.2.1 43 k = nI c → (∀ p, p < np → M.2.1 46 p = nI (lf p)) → (∀ e', c ≤ e' → e' < e → ¬ (ftN M0 nb (M.2.1 44 k) lf e' ∧ bB M0 nb (M.2.1 44 k) = 0)) →
    ∃ M', Up M M' k e ∧ ∀ m, 30 ≤ m → L68_88 (m + d) M v2 v3 (nI k) v5 = L68_88 m M' v2 v3 (nI k) v5 := by
  intro d
  have h5 := hb.2.2.1.1
  induction d with
  | zero =>
    intro c e M h1 h2 h3 hm h43 h46 hn
    have : c = e := by omega
    subst this
    exact ⟨M, ⟨rfl, rfl, fun _ _ => rfl, fun _ _ => rfl, h43⟩, fun m _ => rfl⟩
  | succ d ih =>
    intro c e M h1 h2 h3 hm h43 h46 hn
    have hy := nI_ix (n := k) (N := 202) (by omega) (by omega)
    have hc := nI_clamp (n := k) (by omega)
    rw [hc] at hy
    have e25 : M.1 25 = nI np := (hm.1 25 (by omega)).trans hb.2.2.1.2.2.1
    have ne : ¬ nI c = nI (2 * np) := by rw [nI_eq (by omega) (by omega)]; omega
    have k0 : ¬ nI k < 0 := nI_pos (by omega)
    obtain ⟨M', u, g⟩ := ih (c + 1) e (M.1, va_up M.2.1 43 (upd (M.2.1 43) k (nI (c + 1))), M.2.2) (by omega) (by omega) h3 ⟨hm.1, fun i hi => by simpa [va_up, show i ≠ 43 by omega] using hm.2.1 i hi, hm.2.2⟩ (by simp [va_up, upd]) (by intro p hp; simpa [va_up] using h46 p hp) (by
      intro e' w1 w2
      simpa [va_up] using hn e' (by omega) w2)
    refine ⟨M', ⟨u.1, u.2.1, ?_, ?_, u.2.2.2.2⟩, ?_⟩
    · intro i hi
      rw [u.2.2.1 i hi]
      simp [va_up, hi]
    · intro j hj
      rw [u.2.2.2.1 j hj]
      simp [va_up, upd, hj]
    · intro m hm30
      rw [← g m hm30]
      rcases F69_ev (n := m + d) (pl := M.2.1 44 k) (by omega) hb hm (show c < 2 * np by omega) (h46 _ (by omega)) (hlf _ (by omega)) with ⟨w, _⟩ | ⟨_, w⟩
      · exact absurd w (hn c (Nat.le_refl _) (by omega))
      · rw [show m + (d + 1) = (m + d) + 1 by omega]
        rw [← nI_1]
        simp [L68_88, I68_88, k0, hy, hc, h43, e25, nI_2mul, ne, K68_189, w]
/-- the class's search from a choice on -/
theorem cls_scan {C0 M0 C : mSt} {np nb k : Nat} {lf : Nat → Nat} {pl : Int32} (hb : Bs C0 M0 np nb) (hd : dF C0 C) (hk : k ≤ 100) (hpl : C.2.1 26 k = pl) (hlf : ∀ p, p < np → C.2.1 24 p = nI (lf p) ∧ lf p < 2 ^ 31) : ∀ (d n c : Nat), 2 * np - c = d → c ≤ 2 * np → d < n →
    ((∀ e', c ≤ e' → e' < 2 * np → ¬ ftN M0 nb pl lf e') ∧ L41_49 n C (nI k) (nI (rk M0 c)) = some (1, 0, 0)) ∨ ∃ e, (c ≤ e ∧ e < 2 * np ∧ ftN M0 nb pl lf e ∧ ∀ e', c ≤ e' → e' < e → ¬ ftN M0 nb pl lf e') ∧ L41_49 n C (nI k) (nI (rk M0 c)) = some (2, 0, nI (rk M0 e)) := by
  have h5 := hb.2.2.1.1
  have e12 : C.1 12 = nI (rk M0 (2 * np)) := (hd.1 12 (by omega) (by omega) (by omega)).trans hb.2.2.2.2.1
  have r10 := rk_le M0 (2 * np)
  intro d
  induction d with
  | zero =>
    intro n c h1 h2 h3
    obtain ⟨n, rfl⟩ : ∃ k, n = k + 1 := ⟨n - 1, by omega⟩
    have : c = 2 * np := by omega
    subst this
    refine Or.inl ⟨fun e' w1 w2 => by omega, ?_⟩
    have := nI_le (Nat.le_refl (rk M0 (2 * np))) (by omega)
    simp [L41_49, I41_49, e12, this]
  | succ d ih =>
    intro n c h1 h2 h3
    have hc2 : c < 2 * np := by omega
    have wrap : ¬ ftN M0 nb pl lf c → ∀ n', d < n' → L41_49 n C (nI k) (nI (rk M0 c)) = L41_49 n' C (nI k) (nI (rk M0 (c + 1))) → (((∀ e', c ≤ e' → e' < 2 * np → ¬ ftN M0 nb pl lf e') ∧ L41_49 n C (nI k) (nI (rk M0 c)) = some (1, 0, 0)) ∨ ∃ e, (c ≤ e ∧ e < 2 * np ∧ ftN M0 nb pl lf e ∧ ∀ e', c ≤ e' → e' < e → ¬ ftN M0 nb pl lf e') ∧ L41_49 n C (nI k) (nI (rk M0 c)) = some (2, 0, nI (rk M0 e))) := by
      intro nf n' hn' e
      rw [e]
      rcases ih n' (c + 1) (by omega) (by omega) hn' with ⟨w1, w2⟩ | ⟨e, ⟨w1, w2, w3, w4⟩, w5⟩
      · refine Or.inl ⟨fun e' q1 q2 => ?_, w2⟩
        by_cases q : e' = c
        · subst q; exact nf
        · exact w1 e' (by omega) q2
      · refine Or.inr ⟨e, ⟨by omega, w2, w3, fun e' q1 q2 => ?_⟩, w5⟩
        by_cases q : e' = c
        · subst q; exact nf
        · exact w4 e' (by omega) q2
    by_cases g : gd M0 c = true
    · obtain ⟨n, rfl⟩ : ∃ k, n = k + 1 := ⟨n - 1, by omega⟩
      have kk := hb.2.2.2.2.2 c hc2 g
      have rlt := rk_lt M0 hc2 g
      have e1 : ¬ nI (rk M0 (2 * np)) ≤ nI (rk M0 c) := nI_ge rlt (by omega)
      have e2 : ¬ (10 : Int32) ≤ nI (rk M0 c) := nI_ge (b := 10) (by omega) (by omega)
      have hx := nI_ix (n := k) (N := 101) (by omega) (by omega)
      have hc := nI_clamp (n := k) (by omega)
      rw [hc] at hx
      have hrx := nI_ix (n := rk M0 c) (N := 10) (by omega) (by omega)
      have hrc := nI_clamp (n := rk M0 c) (by omega)
      rw [hrc] at hrx
      have k11 : C.2.1 11 (rk M0 c) = nI (c / 2) := by rw [hd.2.1 11 (by omega)]; exact kk.1
      have k13 : C.2.1 13 (rk M0 c) = lnC M0 c := by rw [hd.2.1 13 (by omega)]; exact kk.2.2.1
      have f25 : F25 C = some (M0.1 17 - M0.1 21) := by
        simp [F25, hd.1, hb.1.1, hb.1.2.2.2.2.2.2]
      have hp2 : c / 2 < np := by omega
      have o4 : iO 0 (nI (c / 2)) 4 := ⟨nI_pos' (by omega), nI_le (b := 4) (by omega) (by omega)⟩
      have hcx := nI_ix (n := c / 2) (N := 5) (by omega) (by omega)
      have hcc := nI_clamp (n := c / 2) (by omega)
      rw [hcc] at hcx
      have f42 : F42 C (nI (c / 2)) = some (nI (lf (c / 2))) := by
        simp [F42, F6_in o4, hcx, hcc, (hlf _ hp2).1]
      have b2 := barC hb hd (pl + lnC M0 c)
      have rs : rk M0 (c + 1) = rk M0 c + 1 := by simp [rk, g]
      by_cases w1 : M0.1 17 - M0.1 21 < pl + lnC M0 c
      · refine wrap (fun z => Int32.lt_irrefl (Int32.lt_of_lt_of_le w1 z.2.1)) n (by omega) ?_
        rw [rs, ← nI_1]
        simp [L41_49, I41_49, e12, e1, e2, hx, hc, hrx, hrc, f25, hpl, k13, w1]
      · rcases bB_01 M0 nb (pl + lnC M0 c) with w2 | w2
        · by_cases w3 : 1 ≤ lf (c / 2)
          · refine Or.inr ⟨c, ⟨Nat.le_refl _, hc2, ⟨g, Int32.not_lt.mp w1, w2, w3⟩, fun e' q1 q2 => by omega⟩, ?_⟩
            have w4 : ¬ nI (lf (c / 2)) ≤ 0 := nI_nle w3 (hlf _ hp2).2
            simp [L41_49, I41_49, e12, e1, e2, hx, hc, hrx, hrc, f25, hpl, k13, w1, b2, w2, k11, f42, w4]
          · refine wrap (fun z => w3 z.2.2.2) n (by omega) ?_
            have w4 : nI (lf (c / 2)) ≤ 0 := by rw [show lf (c / 2) = 0 by omega]; decide
            rw [rs, ← nI_1]
            simp [L41_49, I41_49, e12, e1, e2, hx, hc, hrx, hrc, f25, hpl, k13, w1, b2, w2, k11, f42, w4]
        · refine wrap (fun z => by rw [z.2.2.1] at w2; exact absurd w2 (by decide)) n (by omega) ?_
          rw [rs, ← nI_1]
          simp [L41_49, I41_49, e12, e1, e2, hx, hc, hrx, hrc, f25, hpl, k13, w1, b2, w2]
    · refine wrap (fun z => g z.1) n (by omega) ?_
      have rs : rk M0 (c + 1) = rk M0 c := by simp [rk, g]
      rw [rs]
