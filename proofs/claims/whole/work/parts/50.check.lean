/-! copies, check -/
def smM (S : mSt) (x : Int32) : Nat → Int32
  | 0 => 0
  | m + 1 => if S.2.1 47 m / 2 = x then smM S x m + S.2.1 50 m else smM S x m
theorem L55_ev {C M : mSt} {np ns : Nat} (h5 : np ≤ 5) (h : cPt C M np ns) (x : Int32) : ∀ (d n i m : Nat), m - i = d → i ≤ m → m ≤ ns → d < n → L55_5 n C x (nI m) (smM M x i) (nI i) = some (1, 0, 0, smM M x m, 0) := by
  intro d
  induction d with
  | zero =>
    intro n i m h1 h2 h3 h4
    obtain ⟨n, rfl⟩ : ∃ k, n = k + 1 := ⟨n - 1, by omega⟩
    have h100 := h.1
    have : i = m := by omega
    subst this
    simp [L55_5, I55_5, nI_le (Nat.le_refl i) (show i < 2 ^ 31 by omega)]
  | succ d ih =>
    intro n i m h1 h2 h3 h4
    obtain ⟨n, rfl⟩ : ∃ k, n = k + 1 := ⟨n - 1, by omega⟩
    have h100 := h.1
    have hx := nI_ix (n := i) (N := 100) (by omega) (by omega)
    have hc := nI_clamp (n := i) (by omega)
    rw [hc] at hx
    have e1 : ¬ nI m ≤ nI i := nI_ge (by omega) (by omega)
    have e2 : ¬ (100 : Int32) ≤ nI i := nI_ge (a := i) (b := 100) (by omega) (by omega)
    obtain ⟨c, q1, q2, ⟨q3, _, _, _, q4⟩, _⟩ := h.2.2.2 i (by omega)
    have q5 : M.2.1 47 i / 2 = nI (c / 2) := by rw [q2, nI_half (by omega)]
    have := ih n (i + 1) m (by omega) (by omega) h3 (by omega)
    rw [← this, ← nI_1]
    by_cases w : nI (c / 2) = x
    · simp [L55_5, I55_5, e1, e2, hx, hc, q3, q4, q5, w, smM]
    · simp [L55_5, I55_5, e1, e2, hx, hc, q3, q4, q5, w, smM]
theorem L80_ev {M : mSt} {ns : Nat} (h100 : ns ≤ 100) (h29 : M.1 29 = nI ns) (x : Int32) : ∀ (d n i : Nat), ns - i = d → i ≤ ns → d < n → L80_23 n M x (smM M x i) (nI i) = some (1, M, 0, smM M x ns, 0) := by
  intro d
  induction d with
  | zero =>
    intro n i h1 h2 h4
    obtain ⟨n, rfl⟩ : ∃ k, n = k + 1 := ⟨n - 1, by omega⟩
    have : i = ns := by omega
    subst this
    simp [L80_23, I80_23, h29, nI_le (Nat.le_refl i) (show i < 2 ^ 31 by omega)]
  | succ d ih =>
    intro n i h1 h2 h4
    obtain ⟨n, rfl⟩ : ∃ k, n = k + 1 := ⟨n - 1, by omega⟩
    have hx := nI_ix (n := i) (N := 202) (by omega) (by omega)
    have hc := nI_clamp (n := i) (by omega)
    rw [hc] at hx
    have e1 : ¬ nI ns ≤ nI i := nI_ge (by omega) (by omega)
    have := ih n (i + 1) (by omega) (by omega) (by omega)
    rw [← this, ← nI_1]
    by_cases w : M.2.1 47 i / 2 = x
    · simp [L80_23, I80_23, h29, e1, hx, hc, w, smM]
    · simp [L80_23, I80_23, h29, e1, hx, hc, w, smM]
theorem smM_of {S S' : mSt} (h : S'.2.1 = S.2.1) (x : Int32) (m : Nat) : smM S' x m = smM S x m := by
  induction m with
  | zero => rfl
  | succ m ih => unfold smM; rw [h, ih]
theorem op_copies {n : Nat} (hn : 300 ≤ n) {S : mSt} (hI : Inv S) (a : Int32) : ∃ k S1 v S2, F93 n S a = some (k, S1) ∧ F80 n S1 a = some (v, S2) ∧ S2.1 16 = k ∧ (k = 0 → S2.2.2 0 = v.toInt64) ∧ Inv S2 := by
  obtain ⟨cs, cr, np, nb, cp, cb, ct⟩ := Inv_c hI
  have h0 : S.1 0 = S.1 27 := hI.1.2.2.2.2.2.2.2.2.2.2
  rcases has_29 (S := S) cp.1 cp.2.1 a with ⟨e, q⟩ | ⟨e, q⟩
  · rcases is_65 (S := S) cp.1 cp.2.2.1 a with ⟨f, w⟩ | ⟨f, w⟩
    · exact ⟨1, S, 0, (va_up S.1 16 1, S.2.1, S.2.2), by simp [F93, F16, e], by simp [F80, f, F62_0], by simp [va_up], by simp, Inv_16 hI⟩
    · exact absurd w q
  · have f : ∀ S' : mSt, S'.1 25 = nI np → F65 S' a = some 1 := by
      intro S' e2
      rcases is_65 (S := S') cp.1 e2 a with ⟨f, w⟩ | ⟨f, w⟩
      · exact absurd q w
      · exact f
    rcases hI.2.1.2.2.2.2.2.2.2.2 with hf | hf
    · rw [hf] at h0
      exact ⟨2, S, 0, (va_up S.1 16 2, S.2.1, S.2.2), by simp [F93, F16, e, F13, h0], by simp [F80, f S cp.2.2.1, hf, F62_10], by simp [va_up], by simp, Inv_16 hI⟩
    · rw [hf] at h0
      obtain ⟨ns, ht⟩ := ct hf
      have h100 := ht.1
      have z0 : nI 0 = 0 := rfl
      have l1 := L55_ev cp.1 ht a ns n 0 ns (by omega) (by omega) (by omega) (by omega)
      rw [z0] at l1
      have l2 := L80_ev (M := (va_up S.1 16 0, S.2.1, vp_updL S.2.2 0 (smM S a ns).toInt64)) h100 (by simpa [va_up] using ht.2.2.1) a ns n 0 (by omega) (by omega) (by omega)
      have s2 : smM (va_up S.1 16 0, S.2.1, vp_updL S.2.2 0 (smM S a ns).toInt64) a 0 = 0 := rfl
      have s1 : smM (va_up S.1 16 0, S.2.1, vp_updL S.2.2 0 (smM S a ns).toInt64) a ns = smM S a ns := smM_of (S := S) (S' := (va_up S.1 16 0, S.2.1, vp_updL S.2.2 0 (smM S a ns).toInt64)) rfl a ns
      rw [z0, s1, s2] at l2
      have s0 : smM S a 0 = 0 := rfl
      rw [s0] at l1
      refine ⟨0, (S.1, S.2.1, vp_updL S.2.2 0 (smM S a ns).toInt64), smM S a ns, (va_up S.1 16 0, S.2.1, vp_updL S.2.2 0 (smM S a ns).toInt64), by simp [F93, F16, e, F13, h0, F55, ht.2.1, l1], ?_, by simp [va_up], by simp [vp_updL], Inv_16 hI⟩
      have := f (S.1, S.2.1, vp_updL S.2.2 0 (smM S a ns).toInt64) cp.2.2.1
      simp [F80, this, hf, F62_111, l2]
theorem L82_ev {M : mSt} {k : Nat} (h100 : k < 100) (c q : Int32) : ∀ (d n i : Nat), k + 1 - i = d → i ≤ k + 1 → d < n → L82_52 n M (nI k) c q (smM M (c / 2) i) (nI i) = some (1, M, nI k, c, q, smM M (c / 2) (k + 1), 0) := by
  intro d
  induction d with
  | zero =>
    intro n i h1 h2 h4
    obtain ⟨n, rfl⟩ : ∃ k, n = k + 1 := ⟨n - 1, by omega⟩
    have : i = k + 1 := by omega
    subst this
    simp [L82_52, I82_52, nI_lt (show k < k + 1 by omega) (show k + 1 < 2 ^ 31 by omega)]
  | succ d ih =>
    intro n i h1 h2 h4
    obtain ⟨n, rfl⟩ : ∃ k, n = k + 1 := ⟨n - 1, by omega⟩
    have hx := nI_ix (n := i) (N := 202) (by omega) (by omega)
    have hc := nI_clamp (n := i) (by omega)
    rw [hc] at hx
    have e1 : ¬ nI k < nI i := nI_nlt (by omega) (by omega)
    have := ih n (i + 1) (by omega) (by omega) (by omega)
    rw [← this, ← nI_1]
    by_cases w : M.2.1 47 i / 2 = c / 2
    · simp [L82_52, I82_52, e1, hx, hc, w, smM]
    · simp [L82_52, I82_52, e1, hx, hc, w, smM]
/-- one strip counted again: both say the same -/
theorem chk_step {C M : mSt} {np nb ns k n n2 : Nat} (hn : 300 ≤ n) (hn2 : 300 ≤ n2) (cs : cSc C M) (cr : cRg M) (cp : cPc C M np) (cb : cBr C M nb) (ct : cPt C M np ns) (hk : k < ns) :
    (F56 n C (nI k) = some 1 ∧ I82_17 n2 M (nI k) = some (0, M, nI (k + 1))) ∨ (F56 n C (nI k) = some 0 ∧ I82_17 n2 M (nI k) = some (2, M, nI k)) := by
  obtain ⟨c, c1, c2, ⟨g1, g2, g3, g4, g5⟩, g6⟩ := ct.2.2.2 k hk
  have h5 := cp.1
  have h100 := ct.1
  obtain ⟨f, _, hf20, ef⟩ := io_nat (l := 0) (m := 21) (by omega) (by omega) g6
  obtain ⟨m, hm21, em1, em2⟩ := most_c cr cs cp c1
  have hx := nI_ix (n := k) (N := 100) (by omega) (by omega)
  have hy := nI_ix (n := k) (N := 202) (by omega) (by omega)
  have hc := nI_clamp (n := k) (by omega)
  rw [hc] at hx hy
  have hcx := nI_ix (n := c / 2) (N := 5) (by omega) (by omega)
  have hcc := nI_clamp (n := c / 2) (by omega)
  rw [hcc] at hcx
  have f52 : F52 C (nI k) = some 1 := by
    rcases has_52 (S := C) ct.1 ct.2.1 (nI k) with ⟨_, w⟩ | ⟨w, _⟩
    · exact absurd ⟨k, hk, rfl⟩ w
    · exact w
  have f51 : F51 C (nI k) = some (M.2.1 48 k + M.2.1 49 k) := by simp [F51, f52, hx, hc, g3, g4]
  have f25 : F25 C = some (M.1 17 - M.1 21) := by simp [F25, cs.1, cs.2.2.2.2.2.2]
  have hh := nI_half (c := c) (by omega)
  have z0 : nI 0 = 0 := rfl
  have l1 := L55_ev cp.1 ct (nI (c / 2)) (k + 1) n 0 (k + 1) (by omega) (by omega) (by omega) (by omega)
  have l2 := L82_ev (M := M) (k := k) (by omega) (nI c) (M.2.1 48 k + M.2.1 49 k) (k + 1) n2 0 (by omega) (by omega) (by omega)
  rw [hh] at l2
  have s0 : smM M (nI (c / 2)) 0 = 0 := rfl
  rw [s0, z0] at l1 l2
  rw [← nI_1] at l1
  have b1 := F24_ev cb (M.2.1 48 k)
  have b2 := F24_ev cb (M.2.1 48 k + M.2.1 49 k)
  have d1 := F71_ev (n := n2) (by omega) cb.2.1 cb.1 (M.2.1 48 k)
  have d2 := F71_ev (n := n2) (by omega) cb.2.1 cb.1 (M.2.1 48 k + M.2.1 49 k)
  have e30 := F30_c cp (p := c / 2) (by omega)
  have e31 := F31_c cp c1
  have e72 := em2 n2 f (by omega) (by omega)
  have s7 : C.1 7 = M.1 20 := cs.2.2.2.2.2.1
  by_cases w1 : M.2.1 48 k < M.1 20
  · refine Or.inr ⟨?_, ?_⟩
    · rcases bB_01 M nb (M.2.1 48 k) with w2 | w2 <;> rcases bB_01 M nb (M.2.1 48 k + M.2.1 49 k) with w3 | w3 <;> simp [F56, f52, hx, hc, g3, s7, w1, b1, b2, f51, w2, w3]
    · simp [I82_17, ct.2.2.1, nI_ge hk (show ns < 2 ^ 31 by omega), hy, hc, c2, l2, w1]
  · by_cases w4 : M.1 17 - M.1 21 < M.2.1 48 k + M.2.1 49 k
    · have w4' : ¬ M.2.1 48 k + M.2.1 49 k ≤ M.1 17 - M.1 21 := fun z => Int32.lt_irrefl (Int32.lt_of_lt_of_le w4 z)
      refine Or.inr ⟨?_, ?_⟩
      · rcases bB_01 M nb (M.2.1 48 k) with w2 | w2 <;> rcases bB_01 M nb (M.2.1 48 k + M.2.1 49 k) with w3 | w3 <;> simp [F56, f52, hx, hc, g3, s7, w1, b1, b2, f51, f25, w2, w3, w4]
      · simp [I82_17, ct.2.2.1, nI_ge hk (show ns < 2 ^ 31 by omega), hy, hc, c2, l2, w1, w4']
    · have w4' : M.2.1 48 k + M.2.1 49 k ≤ M.1 17 - M.1 21 := Int32.not_lt.mp w4
      rcases bB_01 M nb (M.2.1 48 k) with w2 | w2
      · rcases bB_01 M nb (M.2.1 48 k + M.2.1 49 k) with w3 | w3
        · by_cases w5 : M.2.1 39 (c / 2) < smM M (nI (c / 2)) (k + 1)
          · refine Or.inr ⟨?_, ?_⟩
            · simp [F56, f52, hx, hc, g3, s7, w1, b1, b2, f51, f25, w2, w3, w4, g1, F55, l1, e30, w5]
            · simp [I82_17, ct.2.2.1, nI_ge hk (show ns < 2 ^ 31 by omega), hy, hc, c2, l2, w1, w4', d1, d2, w2, w3, hh, hcx, hcc, w5]
          · by_cases w6 : m < f
            · have w7 : nI m < nI f := nI_lt w6 (by omega)
              have w8 : ¬ nI f ≤ nI m := nI_ge w6 (by omega)
              rw [if_neg (by omega)] at e72
              refine Or.inr ⟨?_, ?_⟩
              · simp [F56, f52, hx, hc, g3, s7, w1, b1, b2, f51, f25, w2, w3, w4, g1, F55, l1, e30, w5, g2, e31, em1, g5, ef, w7]
              · simp [I82_17, ct.2.2.1, nI_ge hk (show ns < 2 ^ 31 by omega), hy, hc, c2, l2, w1, w4', d1, d2, w2, w3, hh, hcx, hcc, w5, ef, e72, w8]
            · have w7 : ¬ nI m < nI f := nI_nlt (by omega) (by omega)
              have w8 : nI f ≤ nI f := nI_le (Nat.le_refl _) (by omega)
              have e73 : (if f < m then f else m) = f := by split <;> omega
              rw [e73] at e72
              refine Or.inl ⟨?_, ?_⟩
              · simp [F56, f52, hx, hc, g3, s7, w1, b1, b2, f51, f25, w2, w3, w4, g1, F55, l1, e30, w5, g2, e31, em1, g5, ef, w7]
              · simp [I82_17, ct.2.2.1, nI_ge hk (show ns < 2 ^ 31 by omega), hy, hc, c2, l2, w1, w4', d1, d2, w2, w3, hh, hcx, hcc, w5, ef, e72, w8, nI_1]
        · refine Or.inr ⟨?_, ?_⟩
          · simp [F56, f52, hx, hc, g3, s7, w1, b1, b2, f51, f25, w2, w3, w4]
          · simp [I82_17, ct.2.2.1, nI_ge hk (show ns < 2 ^ 31 by omega), hy, hc, c2, l2, w1, w4', d1, d2, w2, w3]
      · refine Or.inr ⟨?_, ?_⟩
        · simp [F56, f52, hx, hc, g3, s7, w1, b1, b2, f51, f25, w2, w4]
        · simp [I82_17, ct.2.2.1, nI_ge hk (show ns < 2 ^ 31 by omega), hy, hc, c2, l2, w1, w4', d1, d2, w2]
theorem chk_loop {C M : mSt} {np nb ns : Nat} (cs : cSc C M) (cr : cRg M) (cp : cPc C M np) (cb : cBr C M nb) (ct : cPt C M np ns) : ∀ (d n n2 i : Nat), ns - i = d → i ≤ ns → 300 + d < n → 300 + d < n2 →
    (L19_6 n C (nI i) = some (1, 0) ∧ L82_17 n2 M (nI i) = some (1, M, 0)) ∨ ∃ k, k < ns ∧ L19_6 n C (nI i) = some (2, nI k) ∧ L82_17 n2 M (nI i) = some (2, M, nI k) := by
  intro d
  have h100 := ct.1
  induction d with
  | zero =>
    intro n n2 i h1 h2 h3 h4
    obtain ⟨n, rfl⟩ : ∃ k, n = k + 1 := ⟨n - 1, by omega⟩
    obtain ⟨n2, rfl⟩ : ∃ k, n2 = k + 1 := ⟨n2 - 1, by omega⟩
    have : i = ns := by omega
    subst this
    refine Or.inl ⟨?_, ?_⟩
    · simp [L19_6, I19_6, ct.2.1, nI_le (Nat.le_refl i) (show i < 2 ^ 31 by omega)]
    · simp [L82_17, I82_17, ct.2.2.1, nI_le (Nat.le_refl i) (show i < 2 ^ 31 by omega)]
  | succ d ih =>
    intro n n2 i h1 h2 h3 h4
    obtain ⟨n, rfl⟩ : ∃ k, n = k + 1 := ⟨n - 1, by omega⟩
    obtain ⟨n2, rfl⟩ : ∃ k, n2 = k + 1 := ⟨n2 - 1, by omega⟩
    have e1 : ¬ nI ns ≤ nI i := nI_ge (by omega) (by omega)
    rcases chk_step (n := n) (n2 := n2) (by omega) (by omega) cs cr cp cb ct (show i < ns by omega) with ⟨q1, q2⟩ | ⟨q1, q2⟩
    · have r := ih n n2 (i + 1) (by omega) (by omega) (by omega) (by omega)
      have a1 : L19_6 (n + 1) C (nI i) = L19_6 n C (nI (i + 1)) := by
        rw [← nI_1]; simp [L19_6, I19_6, ct.2.1, e1, q1]
      have a2 : L82_17 (n2 + 1) M (nI i) = L82_17 n2 M (nI (i + 1)) := by
        simp [L82_17, q2]
      rw [a1, a2]
      exact r
    · refine Or.inr ⟨i, by omega, ?_, ?_⟩
      · simp [L19_6, I19_6, ct.2.1, e1, q1]
      · simp [L82_17, q2]
theorem op_check {n : Nat} (hn : 500 ≤ n) {S : mSt} (hI : Inv S) : ∃ k S1 v S2, F95 n S = some (k, S1) ∧ F82 n S1 = some (v, S2) ∧ S2.1 16 = k ∧ (k = 0 → S2.2.2 0 = v.toInt64) ∧ Inv S2 := by
  have h0 : S.1 0 = S.1 27 := hI.1.2.2.2.2.2.2.2.2.2.2
  rcases hI.2.1.2.2.2.2.2.2.2.2 with hf | hf
  · rw [hf] at h0
    exact ⟨1, S, 0, (va_up S.1 16 1, S.2.1, S.2.2), by simp [F95, F19, F13, h0], by simp [F82, hf, F62_0], by simp [va_up], by simp, Inv_16 hI⟩
  · rw [hf] at h0
    have key : ∀ o : Nat → Int64, ∃ x : Int32, F19 n S = some (0, x) ∧ F82 n (S.1, S.2.1, o) = some (x, (va_up S.1 16 0, S.2.1, o)) := by
      intro o
      obtain ⟨cs, cr, np, nb, cp, cb, ct⟩ := Inv_c hI
      obtain ⟨ns, ht⟩ := ct hf
      have h100 := ht.1
      have z0 : nI 0 = 0 := rfl
      have r := chk_loop (C := S) (M := (va_up S.1 16 0, S.2.1, o)) (np := np) (nb := nb) (ns := ns) (by simpa [cSc, va_up] using cs) (by simpa [cRg, va_up] using cr) (by simpa [cPc, va_up] using cp) (by simpa [cBr, va_up] using cb) (by simpa [cPt, va_up] using ht) ns n n 0 (by omega) (by omega) (by omega) (by omega)
      rw [z0] at r
      rcases r with ⟨a1, a2⟩ | ⟨k, hk, a1, a2⟩
      · exact ⟨0, by simp [F19, F13, h0, a1], by simp [F82, hf, F62_111, a2]⟩
      · exact ⟨nI k + 1, by simp [F19, F13, h0, a1, Int32.add_comm], by simp [F82, hf, F62_111, a2]⟩
    obtain ⟨x, q1, _⟩ := key S.2.2
    obtain ⟨y, q3, q4⟩ := key (vp_updL S.2.2 0 x.toInt64)
    have : y = x := by rw [q1] at q3; injection q3 with q3; injection q3 with _ q3; exact q3.symm
    subst this
    exact ⟨0, (S.1, S.2.1, vp_updL S.2.2 0 y.toInt64), y, (va_up S.1 16 0, S.2.1, vp_updL S.2.2 0 y.toInt64), by simp [F95, q1], q4, by simp [va_up], by simp [vp_updL], Inv_16 hI⟩
