/-! barred places, copies across, lengths: the class's answers and the reference's -/
theorem io_nat {l m : Nat} {x : Int32} (hl : l < 2 ^ 31) (hm : m < 2 ^ 31) (h : iO (nI l) x (nI m)) : ∃ j, l ≤ j ∧ j ≤ m ∧ x = nI j := by
  obtain ⟨h1, h2⟩ := h
  obtain ⟨j, hj, rfl⟩ := nI_of (Int32.not_lt.mpr (Int32.le_trans (nI_pos' hl) h1))
  exact ⟨j, (nI_leI hl hj).mp h1, (nI_leI hj hm).mp h2, rfl⟩
def bB (S : mSt) : Nat → Int32 → Int32
  | 0, _ => 0
  | k + 1, p => if S.2.1 41 k < p ∧ p < S.2.1 42 k then 1 else bB S k p
theorem bB_1 {S : mSt} {nb : Nat} {p : Int32} (h : ∃ k, k < nb ∧ S.2.1 41 k < p ∧ p < S.2.1 42 k) : bB S nb p = 1 := by
  induction nb with
  | zero => obtain ⟨k, hk, _⟩ := h; exact absurd hk (Nat.not_lt_zero _)
  | succ n ih =>
    unfold bB
    by_cases q : S.2.1 41 n < p ∧ p < S.2.1 42 n
    · rw [if_pos q]
    · rw [if_neg q]
      obtain ⟨k, hk, w⟩ := h
      by_cases hkn : k = n
      · subst hkn; exact absurd w q
      · exact ih ⟨k, by omega, w⟩
theorem bB_0 {S : mSt} {nb : Nat} {p : Int32} (h : ¬ ∃ k, k < nb ∧ S.2.1 41 k < p ∧ p < S.2.1 42 k) : bB S nb p = 0 := by
  induction nb with
  | zero => rfl
  | succ n ih =>
    unfold bB
    rw [if_neg (fun q => h ⟨n, by omega, q⟩)]
    exact ih (fun ⟨k, hk, w⟩ => h ⟨k, by omega, w⟩)
theorem bB_01 (S : mSt) (nb : Nat) (p : Int32) : bB S nb p = 0 ∨ bB S nb p = 1 := by
  by_cases h : ∃ k, k < nb ∧ S.2.1 41 k < p ∧ p < S.2.1 42 k
  · exact Or.inr (bB_1 h)
  · exact Or.inl (bB_0 h)
theorem bB_of {S S' : mSt} (h1 : S'.2.1 41 = S.2.1 41) (h2 : S'.2.1 42 = S.2.1 42) (nb : Nat) (p : Int32) : bB S' nb p = bB S nb p := by
  induction nb with
  | zero => rfl
  | succ n ih => unfold bB; rw [h1, h2, ih]
theorem L71_ev : ∀ (m n v nb : Nat) (S : mSt) (p : Int32), nb - v = m → v ≤ nb → nb ≤ 4 → S.1 26 = nI nb → m < n → ((∃ k, k < nb ∧ v ≤ k ∧ S.2.1 41 k < p ∧ p < S.2.1 42 k) ∧ L71_2 n S p (nI v) = some (2, 0, 0)) ∨ ((¬ ∃ k, k < nb ∧ v ≤ k ∧ S.2.1 41 k < p ∧ p < S.2.1 42 k) ∧ L71_2 n S p (nI v) = some (1, 0, 0)) := by
  intro m
  induction m with
  | zero =>
    intro n v nb S p h1 h2 h3 h4 h5
    obtain ⟨n, rfl⟩ : ∃ k, n = k + 1 := ⟨n - 1, by omega⟩
    refine Or.inr ⟨fun ⟨k, q1, q2, _⟩ => by omega, ?_⟩
    unfold L71_2 I71_2
    rw [h4, if_pos (nI_le (by omega) (by omega))]; rfl
  | succ m ih =>
    intro n v nb S p h1 h2 h3 h4 h5
    obtain ⟨n, rfl⟩ : ∃ k, n = k + 1 := ⟨n - 1, by omega⟩
    have hx := nI_ix (n := v) (N := 4) (by omega) (by omega)
    have hc := nI_clamp (n := v) (by omega)
    rw [hc] at hx
    have e1 : ¬ nI nb ≤ nI v := nI_ge (by omega) (by omega)
    have go : (p ≤ S.2.1 41 v ∨ S.2.1 42 v ≤ p) → L71_2 (n + 1) S p (nI v) = L71_2 n S p (nI (v + 1)) := by
      intro q
      rw [← nI_1]
      by_cases q1 : p ≤ S.2.1 41 v
      · simp [L71_2, I71_2, h4, e1, hx, hc, q1]
      · have q2 : S.2.1 42 v ≤ p := by
          rcases q with q | q
          · exact absurd q q1
          · exact q
        simp [L71_2, I71_2, h4, e1, hx, hc, q1, q2]
    by_cases q : S.2.1 41 v < p ∧ p < S.2.1 42 v
    · refine Or.inl ⟨⟨v, by omega, Nat.le_refl _, q⟩, ?_⟩
      have q1 : ¬ p ≤ S.2.1 41 v := fun z => Int32.lt_irrefl (Int32.lt_of_lt_of_le q.1 z)
      have q2 : ¬ S.2.1 42 v ≤ p := fun z => Int32.lt_irrefl (Int32.lt_of_lt_of_le q.2 z)
      simp [L71_2, I71_2, h4, e1, hx, hc, q1, q2]
    · have q' : p ≤ S.2.1 41 v ∨ S.2.1 42 v ≤ p := by
        by_cases w : p ≤ S.2.1 41 v
        · exact Or.inl w
        · exact Or.inr (Int32.not_lt.mp fun z => q ⟨Int32.not_le.mp w, z⟩)
      rw [go q']
      have r := ih n (v + 1) nb S p (by omega) (by omega) h3 h4 (by omega)
      have iff : (∃ k, k < nb ∧ v ≤ k ∧ S.2.1 41 k < p ∧ p < S.2.1 42 k) ↔ (∃ k, k < nb ∧ v + 1 ≤ k ∧ S.2.1 41 k < p ∧ p < S.2.1 42 k) := by
        constructor
        · rintro ⟨k, w1, w2, w3⟩
          by_cases hk : k = v
          · subst hk; exact absurd w3 q
          · exact ⟨k, w1, by omega, w3⟩
        · rintro ⟨k, w1, w2, w3⟩
          exact ⟨k, w1, by omega, w3⟩
      rw [iff]
      exact r
theorem F71_ev {n nb : Nat} {S : mSt} (hn : 10 ≤ n) (h26 : S.1 26 = nI nb) (h4 : nb ≤ 4) (p : Int32) : F71 n S p = some (bB S nb p) := by
  have z0 : nI 0 = 0 := rfl
  rcases L71_ev nb n 0 nb S p (by omega) (by omega) h4 h26 (by omega) with ⟨⟨k, q1, _, q2⟩, e⟩ | ⟨q, e⟩
  · rw [z0] at e
    rw [bB_1 ⟨k, q1, q2⟩]
    simp [F71, e]
  · rw [z0] at e
    rw [bB_0 (fun ⟨k, w1, w2⟩ => q ⟨k, w1, Nat.zero_le _, w2⟩)]
    simp [F71, e]
/-- the bars of the reference and the class's table of them -/
def cBr (C M : mSt) (nb : Nat) : Prop := nb ≤ 4 ∧ M.1 26 = nI nb ∧ (∀ k, k < nb → 0 ≤ M.2.1 41 k ∧ M.2.1 41 k < M.2.1 42 k ∧ M.2.1 42 k ≤ 200) ∧
  ∀ p, p < 201 → (C.2.1 2 p = 0 ∨ C.2.1 2 p = 1) ∧ (C.2.1 2 p = 1 ↔ ∃ k, k < nb ∧ M.2.1 41 k < nI p ∧ nI p < M.2.1 42 k)
theorem F24_ev {nb : Nat} {C M : mSt} (h : cBr C M nb) (p : Int32) : F24 C p = some (bB M nb p) := by
  obtain ⟨h4, _, hr, ht⟩ := h
  unfold F24
  by_cases h1 : p < 0
  · rw [if_pos h1, bB_0]
    rintro ⟨k, q1, q2, _⟩
    exact Int32.lt_irrefl (Int32.lt_trans (Int32.lt_of_lt_of_le h1 (hr k q1).1) q2)
  · rw [if_neg h1]
    by_cases h2 : Int32.ofNat 201 ≤ p
    · rw [if_pos h2, bB_0]
      rintro ⟨k, q1, _, q2⟩
      have : (200 : Int32) < Int32.ofNat 201 := by decide
      exact Int32.lt_irrefl (Int32.lt_of_lt_of_le (Int32.lt_of_lt_of_le this h2) (Int32.le_trans (Int32.le_of_lt q2) (hr k q1).2.2))
    · rw [if_neg h2]
      obtain ⟨j, hj, rfl⟩ := i32_out (n := 201) (by omega) h1 h2
      rw [if_pos (nI_ix hj (by omega)), nI_clamp (by omega)]
      obtain ⟨g1, g2⟩ := ht j hj
      rcases g1 with g | g
      · rw [if_pos g, bB_0]
        intro w
        have := g2.mpr w
        rw [g] at this
        exact absurd this (by decide)
      · rw [if_neg (by rw [g]; decide), bB_1 (g2.mp g)]
theorem iBr_c {S : mSt} {nb : Nat} (h : iBr S nb) : cBr S S nb := h
/-- lengths and breadths of a choice -/
def lnC (S : mSt) (c : Nat) : Int32 := if c % 2 = 0 then S.2.1 35 (c / 2) else S.2.1 37 (c / 2)
def acC (S : mSt) (c : Nat) : Int32 := if c % 2 = 0 then S.2.1 37 (c / 2) else S.2.1 35 (c / 2)
theorem c_par {c : Nat} (h : c < 10) : (nI c - nI c / 2 * 2 = 0 ↔ c % 2 = 0) ∧ (nI c - nI c / 2 * 2 = 1 ↔ ¬ c % 2 = 0) := by
  rw [nI_par (by omega)]
  rcases (show c % 2 = 0 ∨ c % 2 = 1 by omega) with z | z
  · rw [z]; exact ⟨⟨fun _ => rfl, fun _ => rfl⟩, ⟨fun q => absurd q (by decide), fun q => absurd rfl q⟩⟩
  · rw [z]; exact ⟨⟨fun q => absurd q (by decide), fun q => absurd q (by decide)⟩, ⟨fun _ => by decide, fun _ => rfl⟩⟩
theorem F70_ev {S : mSt} {c : Nat} (h : c < 10) : F70 S (nI c) = some (lnC S c) := by
  have hx := nI_ix (n := c / 2) (N := 5) (by omega) (by omega)
  have hc := nI_clamp (n := c / 2) (by omega)
  rw [hc] at hx
  unfold F70 lnC
  rw [if_pos (by decide)]
  by_cases q : c % 2 = 0
  · rw [if_pos ((c_par h).1.mpr q), if_pos q, nI_half (by omega), hc, if_pos hx]
  · rw [if_neg (fun z => q ((c_par h).1.mp z)), if_neg q, nI_half (by omega), hc, if_pos hx]
theorem F73_ev {S : mSt} {c : Nat} (h : c < 10) : F73 S (nI c) = some (acC S c) := by
  have hx := nI_ix (n := c / 2) (N := 5) (by omega) (by omega)
  have hc := nI_clamp (n := c / 2) (by omega)
  rw [hc] at hx
  unfold F73 acC
  rw [if_pos (by decide)]
  by_cases q : c % 2 = 0
  · rw [if_pos ((c_par h).1.mpr q), if_pos q, nI_half (by omega), hc, if_pos hx]
  · rw [if_neg (fun z => q ((c_par h).1.mp z)), if_neg q, nI_half (by omega), hc, if_pos hx]
/-- how many stand side by side at most: width W, kerf K, breadth X, at most A -/
def mostN (W K X A : Nat) : Nat := if A < (W + K) / (X + K) then A else (W + K) / (X + K)
theorem nI_mul (a b : Nat) : nI a * nI b = nI (a * b) := (Int32.ofNat_mul a b).symm
theorem nI_div {a b : Nat} (ha : a < 2 ^ 31) (hb : b < 2 ^ 31) : nI a / nI b = nI (a / b) := by
  apply Int32.toInt_inj.mp
  have hd : a / b ≤ a := Nat.div_le_self _ _
  rw [Int32.toInt_div, nI_toInt ha, nI_toInt hb, nI_toInt (by omega)]
  have : (a : Int).tdiv b = ((a / b : Nat) : Int) := by
    rw [Int.tdiv_eq_ediv_of_nonneg (by omega)]; rfl
  rw [this]
  clear this
  generalize a / b = d at *
  apply Int.bmod_eq_of_le <;> omega
/-- stages, knives: how many at most -/
def alN (st kn : Nat) : Nat := if st = 1 then 1 else kn + 1
theorem F23_ev {C : mSt} {W K X st kn : Nat} (h3 : C.1 3 = nI W) (h4 : C.1 4 = nI K) (h5 : C.1 5 = nI st) (h6 : C.1 6 = nI kn) (hW : W ≤ 200) (hK : K ≤ 20) (hX : 1 ≤ X ∧ X ≤ 200) (hst : st = 1 ∨ st = 2) (hkn : kn ≤ 20) : F23 C (nI X) = some (nI (mostN W K X (alN st kn))) := by
  have hd : (W + K) / (X + K) ≤ W + K := Nat.div_le_self _ _
  unfold F23
  rw [h3, h4, h5, h6, nI_add, nI_add, nI_div (by omega) (by omega), if_pos (show (0 : Int32) < nI (X + K) from nI_lt (a := 0) (b := X + K) (by omega) (by omega)), if_pos (nI_ne0 (by omega) (by omega))]
  unfold mostN alN
  rcases hst with rfl | rfl
  · rw [if_pos (show nI 1 = 1 from rfl), if_pos rfl]
    by_cases q : 1 < (W + K) / (X + K)
    · rw [if_pos q, if_pos (show (1 : Int32) < nI ((W + K) / (X + K)) from nI_lt (a := 1) q (by omega))]; rfl
    · rw [if_neg q, if_neg (show ¬ (1 : Int32) < nI ((W + K) / (X + K)) from nI_nlt (a := 1) (b := (W + K) / (X + K)) (by omega) (by omega))]
  · rw [if_neg (show ¬ nI 2 = 1 by decide), if_neg (show ¬ (2 : Nat) = 1 by omega), nI_1]
    by_cases q : kn + 1 < (W + K) / (X + K)
    · rw [if_pos q, if_pos (nI_lt q (by omega))]
    · rw [if_neg q, if_neg (nI_nlt (by omega) (by omega))]
theorem mN_lt {W K X A v : Nat} (hX : 1 ≤ X) : v < mostN W K X A ↔ (v < A ∧ (v + 1) * X + v * K ≤ W) := by
  have e : v < (W + K) / (X + K) ↔ (v + 1) * X + v * K ≤ W := by
    rw [show v < (W + K) / (X + K) ↔ v + 1 ≤ (W + K) / (X + K) from Iff.rfl, Nat.le_div_iff_mul_le (by omega)]
    rw [Nat.mul_add, Nat.add_mul v 1 K]
    omega
  unfold mostN
  by_cases q : A < (W + K) / (X + K)
  · rw [if_pos q, ← e]; omega
  · rw [if_neg q, ← e]; omega
theorem L72_ev {S : mSt} {c W K X : Nat} (hc : c < 10) (h18 : S.1 18 = nI W) (h19 : S.1 19 = nI K) (hx : acC S c = nI X) (hW : W ≤ 200) (hK : K ≤ 20) (hX : 1 ≤ X ∧ X ≤ 200) : ∀ (m n v f A : Nat), A - v = m → v ≤ A → A ≤ 21 → v ≤ f → f < 2 ^ 31 → v ≤ mostN W K X A → m < n → L72_22 n S (nI c) (nI f) (nI A) (nI v) = some (1, 0, 0, 0, nI (if f < mostN W K X A then f else mostN W K X A)) := by
  intro m
  induction m with
  | zero =>
    intro n v f A h1 h2 h3 h4 h5 h6 h7
    obtain ⟨n, rfl⟩ : ∃ k, n = k + 1 := ⟨n - 1, by omega⟩
    have : mostN W K X A ≤ A := by unfold mostN; split <;> omega
    have e : v = (if f < mostN W K X A then f else mostN W K X A) := by split <;> omega
    rw [← e]
    by_cases q : f ≤ v
    · simp [L72_22, I72_22, nI_le (a := f) (b := v) q (by omega)]
    · have q1 : ¬ nI f ≤ nI v := nI_ge (by omega) h5
      simp [L72_22, I72_22, q1, nI_le (a := A) (b := v) (by omega) (by omega)]
  | succ m ih =>
    intro n v f A h1 h2 h3 h4 h5 h6 h7
    obtain ⟨n, rfl⟩ : ∃ k, n = k + 1 := ⟨n - 1, by omega⟩
    by_cases q : f ≤ v
    · have e : v = (if f < mostN W K X A then f else mostN W K X A) := by split <;> omega
      rw [← e]
      simp [L72_22, I72_22, nI_le (a := f) (b := v) q (by omega)]
    · have q1 : ¬ nI f ≤ nI v := nI_ge (by omega) h5
      have q2 : ¬ nI A ≤ nI v := nI_ge (by omega) (by omega)
      have b1 : (v + 1) * X ≤ 21 * 200 := Nat.mul_le_mul (by omega) (by omega)
      have b2 : v * K ≤ 21 * 20 := Nat.mul_le_mul (by omega) (by omega)
      have ea : (nI v + 1) * acC S c + nI v * S.1 19 = nI ((v + 1) * X + v * K) := by
        rw [hx, h19, nI_1, nI_mul, nI_mul, nI_add]
      by_cases q3 : v < mostN W K X A
      · have q4 := ((mN_lt hX.1).mp q3).2
        have q5 : ¬ nI W < nI ((v + 1) * X + v * K) := nI_nlt q4 (by omega)
        have := ih n (v + 1) f A (by omega) (by omega) h3 (by omega) h5 (by omega) (by omega)
        rw [← this, ← nI_1]
        simp [L72_22, I72_22, q1, q2, F73_ev hc, ea, h18, q5]
      · have e : v = (if f < mostN W K X A then f else mostN W K X A) := by split <;> omega
        have q4 : ¬ (v + 1) * X + v * K ≤ W := fun z => q3 ((mN_lt hX.1).mpr ⟨by omega, z⟩)
        have q5 : nI W < nI ((v + 1) * X + v * K) := nI_lt (by omega) (by omega)
        rw [← e]
        simp [L72_22, I72_22, q1, q2, F73_ev hc, ea, h18, q5]
theorem F72_ev {S : mSt} {c W K X st kn f n : Nat} (hn : 30 ≤ n) (hc : c < 10) (h18 : S.1 18 = nI W) (h19 : S.1 19 = nI K) (hx : acC S c = nI X) (h22 : S.1 22 = nI st) (h23 : S.1 23 = nI kn) (hW : W ≤ 200) (hK : K ≤ 20) (hX : 1 ≤ X ∧ X ≤ 200) (hst : st = 1 ∨ st = 2) (hkn : kn ≤ 20) (hf : f < 2 ^ 31) : F72 n S (nI c) (nI f) = some (nI (if f < mostN W K X (alN st kn) then f else mostN W K X (alN st kn))) := by
  have ha : alN st kn ≤ 21 := by unfold alN; split <;> omega
  have := L72_ev hc h18 h19 hx hW hK hX (alN st kn) n 0 f (alN st kn) (by omega) (by omega) ha (by omega) hf (by omega) (by omega)
  have z0 : nI 0 = 0 := rfl
  rw [z0] at this
  unfold F72
  rw [h22, h23]
  rcases hst with rfl | rfl
  · rw [if_pos (show nI 1 = 1 from rfl)]
    have e : nI (alN 1 kn) = 1 := rfl
    rw [e] at this
    rw [this]; rfl
  · rw [if_neg (show ¬ nI 2 = 1 by decide), nI_1]
    have e : nI (alN 2 kn) = nI (kn + 1) := rfl
    rw [e] at this
    rw [this]; rfl
