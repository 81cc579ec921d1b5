/-! the law's loop, and what is left to show of the functions -/
def L0 (sc : mS) (n : Nat) : Nat → mSt → Int32 → Option (Nat × mSt × Int32)
  | 0, _, _ => none
  | m + 1, S, v4 => (I0 sc n S v4).bind fun r => if r.1 = 0 then L0 sc n m r.2.1 r.2.2 else some r
/-- the law answers 1, told of the functions alone -/
def law_says (sc : mS) : Prop := ∃ (n : Nat) (r : mSt), F2 n mZ = some r ∧ ∃ z, L0 sc n 513 (mS0 r) 0 = some z ∧ z.1 = 1
set_option maxRecDepth 100000 in
set_option maxHeartbeats 4000000 in
theorem L0_ok {sc : mS} (d : Nat) {n : Nat} : ∀ (m kc ks : Nat) {S : mSt} {v4 : Int32} {r : Nat × mSt × Int32} (o5 o6 : Option Value), kc + 2 * m ≤ 1089 → ks + 12 * m ≤ 11401 → L0 sc n m S v4 = some r → r.1 = 1 →
    mm_ev sc mmK mmP (d + 8) 0 (23, [some (.float 0), some (.ref 0), some (.ref 34), some (.ref 51), some (.int v4), o5, o6], [], mH S, kc, ks) (fun r _ => r = .inl (some (.int 1))) := by
  intro m
  induction m with
  | zero => intro kc ks S v4 r o5 o6 _ _ h; cases h
  | succ m ih =>
    intro kc ks S v4 r o5 o6 hkc hks h hr
    unfold L0 at h
    obtain ⟨r1, h1, h⟩ := mb_b h
    by_cases h0 : r1.1 = 0
    · rw [if_pos h0] at h
      refine I0_ok d kc ks (by omega) (by omega) h1 o5 o6 (fun kc2 ks2 e1 e2 _ u5 u6 => ih kc2 ks2 u5 u6 (by omega) (by omega) h hr) (fun z => absurd z (by omega))
    · rw [if_neg h0] at h
      cases h
      refine I0_ok d kc ks (by omega) (by omega) h1 o5 o6 (fun _ _ _ _ z => absurd z h0) ?_
      intro _ u0 u1 u2 u3 u4 u5 u6
      refine mm_ev.go [true] (ps := []) (c1 := (881, [u0, u1, u2, u3, u4, u5, u6], [.int (1 : Int32)], mH r.2.1, kc, ks)) rfl trivial ?_
      exact mm_ev.ret (q := mq0) (b := (881, .ireturn, 1, 3, 0, 0, 0, 0, [])) rfl rfl rfl ⟨(show kc ≤ 1089 by omega), (show ks ≤ 11401 by omega)⟩ ⟨Or.inr rfl, trivial⟩ rfl
theorem law_ev {sc : mS} (h : law_says sc) : mm_ev sc mmK mmP 10 0 (0, mm_en 7 [.float 0], [], [], 0, 0) (fun r _ => r = .inl (some (.int 1))) := by
  obtain ⟨n, r, h1, z, h2, h3⟩ := h
  exact law_start 2 h1 (L0_ok 2 513 52 3131 none none (by omega) (by omega) h2 h3)
