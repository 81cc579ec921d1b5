/-! methods as functions of the state (1) -/
/-- SlabPatterns$Kinds.add -/
def F36 (S : mSt) (a2 a3 : Int32) : Option (mSt) := (F31 S a2 a3).bind fun r1 => ((F23 S r1).bind fun r3 => (if r3 < (1 : Int32) then (some S) else ((F6 S (S.1 12) (0 : Int32) (9 : Int32)).bind fun r6 => (if r6 = (0 : Int32) then ((F29 S a2).bind fun r9 => (if r9 = (0 : Int32) then (some S) else (if 0 ≤ (S.1 12) ∧ (S.1 12).toNatClampNeg < 10 then (F32 (S.1, (va_up (va_up S.2.1 11 (upd (S.2.1 11) (S.1 12).toNatClampNeg a2)) 12 (upd (S.2.1 12) (S.1 12).toNatClampNeg (vp_nar .boolean a3))), S.2.2) a2 a3).bind fun r13 => (if 0 ≤ a2 ∧ a2.toNatClampNeg < 5 then some (((va_up S.1 12 ((S.1 12) + (1 : Int32))), (va_up (va_up (va_up (va_up (va_up S.2.1 11 (upd (S.2.1 11) (S.1 12).toNatClampNeg a2)) 12 (upd (S.2.1 12) (S.1 12).toNatClampNeg (vp_nar .boolean a3))) 13 (upd (S.2.1 13) (S.1 12).toNatClampNeg r13)) 14 (upd (S.2.1 14) (S.1 12).toNatClampNeg r3)) 15 (upd (S.2.1 15) (S.1 12).toNatClampNeg (S.2.1 7 a2.toNatClampNeg))), S.2.2)) else none) else none))) else (some S)))))
set_option maxRecDepth 100000 in
set_option maxHeartbeats 4000000 in
theorem F36_ok {sc : mS} (d : Nat) {S : mSt} {a2 a3 : Int32} {r : mSt} (h : F36 S a2 a3 = some r) : mm_ev sc mmK mmP (d + 2) 36 (0, mm_en 6 [.ref 10, .ref 1, .ref 3, .int a2, .int a3], [], mH S, 0, 0) (mm_is (.inl none) (mH r)) := by
  unfold F36 at h
  refine mm_ev.to (c := (0, [some (.ref 10), some (.ref 1), some (.ref 3), some (.int a2), some (.int a3), none], [], mH S, 0, 0)) rfl ?_
  refine mm_ev.go [true, true, true, true] (ps := []) (c1 := (5, [some (.ref 10), some (.ref 1), some (.ref 3), some (.int a2), some (.int a3), none], [.int a3, .int a2, .ref 3, .ref 1], mH S, 0, 0)) rfl trivial ?_
  obtain ⟨r1, h2, h⟩ := mb_b h
  refine mm_ev.call (q := mq36) (q2 := mq31) (b := (5, .invokevirtual 52, 3, 2, 3, 31, 3, 2, [485, 482, 484, 50, 11])) (as := [.ref 3, .int a2, .int a3]) (r := [.ref 1]) (v := (some (.int r1))) (h1 := mH S) rfl rfl rfl rfl ⟨Nat.le_of_ble_eq_true rfl, Nat.le_of_ble_eq_true rfl, Nat.le_of_ble_eq_true rfl⟩ (F31_ok d h2) ?_
  refine mm_ev.to (c := (8, [some (.ref 10), some (.ref 1), some (.ref 3), some (.int a2), some (.int a3), none], [.int r1, .ref 1], mH S, 0, 0)) rfl ?_
  obtain ⟨r3, h4, h⟩ := mb_b h
  refine mm_ev.call (q := mq36) (q2 := mq23) (b := (8, .invokevirtual 56, 3, 2, 3, 23, 2, 1, [489, 486, 488, 49, 12])) (as := [.ref 1, .int r1]) (r := []) (v := (some (.int r3))) (h1 := mH S) rfl rfl rfl rfl ⟨Nat.le_of_ble_eq_true rfl, Nat.le_of_ble_eq_true rfl, Nat.le_of_ble_eq_true rfl⟩ (F23_ok (d + 1) h4) ?_
  refine mm_ev.to (c := (11, [some (.ref 10), some (.ref 1), some (.ref 3), some (.int a2), some (.int a3), none], [.int r3], mH S, 0, 0)) rfl ?_
  by_cases h5 : r3 < (1 : Int32)
  · rw [if_pos h5] at h
    refine mm_ev.go [true, true, true, true] (ps := [mm_cmp .lt r3 (1 : Int32)]) (c1 := (40, [some (.ref 10), some (.ref 1), some (.ref 3), some (.int a2), some (.int a3), some (.int r3)], [], mH S, 0, 0)) rfl ⟨h5, trivial⟩ ?_
    cases h
    exact mm_ev.ret (q := mq36) (b := (40, .return_, 1, 3, 0, 0, 0, 0, [])) rfl rfl rfl ⟨Nat.le_of_ble_eq_true rfl, Nat.le_of_ble_eq_true rfl⟩ trivial ⟨rfl, rfl⟩
  · rw [if_neg h5] at h
    refine mm_ev.go [true, true, true, false] (ps := [¬ mm_cmp .lt r3 (1 : Int32)]) (c1 := (19, [some (.ref 10), some (.ref 1), some (.ref 3), some (.int a2), some (.int a3), some (.int r3)], [], mH S, 0, 0)) rfl ⟨h5, trivial⟩ ?_
    refine mm_ev.go [true, true, true, true] (ps := []) (c1 := (26, [some (.ref 10), some (.ref 1), some (.ref 3), some (.int a2), some (.int a3), some (.int r3)], [.int (9 : Int32), .int (0 : Int32), .int (S.1 12)], mH S, 0, 0)) rfl trivial ?_
    obtain ⟨r6, h7, h⟩ := mb_b h
    refine mm_ev.call (q := mq36) (q2 := mq6) (b := (26, .invokestatic 61, 3, 2, 5, 6, 3, 0, [302, 493, 301, 48])) (as := [.int (S.1 12), .int (0 : Int32), .int (9 : Int32)]) (r := []) (v := (some (.int r6))) (h1 := mH S) rfl rfl rfl rfl ⟨Nat.le_of_ble_eq_true rfl, Nat.le_of_ble_eq_true rfl, Nat.le_of_ble_eq_true rfl⟩ (F6_ok (d + 1) h7) ?_
    refine mm_ev.to (c := (29, [some (.ref 10), some (.ref 1), some (.ref 3), some (.int a2), some (.int a3), some (.int r3)], [.int r6], mH S, 0, 0)) rfl ?_
    by_cases h8 : r6 = (0 : Int32)
    · rw [if_pos h8] at h
      refine mm_ev.go [false] (ps := [¬ mm_cmp .ne r6 (0 : Int32)]) (c1 := (32, [some (.ref 10), some (.ref 1), some (.ref 3), some (.int a2), some (.int a3), some (.int r3)], [], mH S, 0, 0)) rfl ⟨(fun z => z h8), trivial⟩ ?_
      refine mm_ev.go [true, true] (ps := []) (c1 := (34, [some (.ref 10), some (.ref 1), some (.ref 3), some (.int a2), some (.int a3), some (.int r3)], [.int a2, .ref 3], mH S, 0, 0)) rfl trivial ?_
      obtain ⟨r9, h10, h⟩ := mb_b h
      refine mm_ev.call (q := mq36) (q2 := mq29) (b := (34, .invokevirtual 41, 3, 2, 3, 29, 2, 2, [419, 477, 418, 50, 6])) (as := [.ref 3, .int a2]) (r := []) (v := (some (.int r9))) (h1 := mH S) rfl rfl rfl rfl ⟨Nat.le_of_ble_eq_true rfl, Nat.le_of_ble_eq_true rfl, Nat.le_of_ble_eq_true rfl⟩ (F29_ok (d + 1) h10) ?_
      refine mm_ev.to (c := (37, [some (.ref 10), some (.ref 1), some (.ref 3), some (.int a2), some (.int a3), some (.int r3)], [.int r9], mH S, 0, 0)) rfl ?_
      by_cases h11 : r9 = (0 : Int32)
      · rw [if_pos h11] at h
        refine mm_ev.go [false] (ps := [¬ mm_cmp .ne r9 (0 : Int32)]) (c1 := (40, [some (.ref 10), some (.ref 1), some (.ref 3), some (.int a2), some (.int a3), some (.int r3)], [], mH S, 0, 0)) rfl ⟨(fun z => z h11), trivial⟩ ?_
        cases h
        exact mm_ev.ret (q := mq36) (b := (40, .return_, 1, 3, 0, 0, 0, 0, [])) rfl rfl rfl ⟨Nat.le_of_ble_eq_true rfl, Nat.le_of_ble_eq_true rfl⟩ trivial ⟨rfl, rfl⟩
      · rw [if_neg h11] at h
        refine mm_ev.go [true] (ps := [mm_cmp .ne r9 (0 : Int32)]) (c1 := (41, [some (.ref 10), some (.ref 1), some (.ref 3), some (.int a2), some (.int a3), some (.int r3)], [], mH S, 0, 0)) rfl ⟨h11, trivial⟩ ?_
        obtain ⟨h12, h⟩ := mb_i h
        refine mm_ev.go [true, true, true, true, true, true, true, true, true, true, true, true, true, true, true, true, true, true, true] (ps := [mm_in (S.1 12) 10, mm_in (S.1 12) 10]) (c1 := (74, [some (.ref 10), some (.ref 1), some (.ref 3), some (.int a2), some (.int a3), some (.int r3)], [.int a3, .int a2, .ref 3, .int (S.1 12), .ref 13], mH (S.1, (va_up (va_up S.2.1 11 (upd (S.2.1 11) (S.1 12).toNatClampNeg a2)) 12 (upd (S.2.1 12) (S.1 12).toNatClampNeg (vp_nar .boolean a3))), S.2.2), 0, 0)) rfl ⟨h12, h12, trivial⟩ ?_
        obtain ⟨r13, h14, h⟩ := mb_b h
        refine mm_ev.call (q := mq36) (q2 := mq32) (b := (74, .invokevirtual 65, 3, 2, 3, 32, 3, 2, [497, 494, 496, 50, 13])) (as := [.ref 3, .int a2, .int a3]) (r := [.int (S.1 12), .ref 13]) (v := (some (.int r13))) (h1 := mH (S.1, (va_up (va_up S.2.1 11 (upd (S.2.1 11) (S.1 12).toNatClampNeg a2)) 12 (upd (S.2.1 12) (S.1 12).toNatClampNeg (vp_nar .boolean a3))), S.2.2)) rfl rfl rfl rfl ⟨Nat.le_of_ble_eq_true rfl, Nat.le_of_ble_eq_true rfl, Nat.le_of_ble_eq_true rfl⟩ (F32_ok d h14) ?_
        refine mm_ev.to (c := (77, [some (.ref 10), some (.ref 1), some (.ref 3), some (.int a2), some (.int a3), some (.int r3)], [.int r13, .int (S.1 12), .ref 13], mH (S.1, (va_up (va_up S.2.1 11 (upd (S.2.1 11) (S.1 12).toNatClampNeg a2)) 12 (upd (S.2.1 12) (S.1 12).toNatClampNeg (vp_nar .boolean a3))), S.2.2), 0, 0)) rfl ?_
        obtain ⟨h15, h⟩ := mb_i h
        refine mm_ev.go [true, true, true, true, true, true, true, true, true, true, true, true, true, true, true, true, true, true, true, true, true, true] (ps := [mm_in (S.1 12) 10, mm_in (S.1 12) 10, mm_in a2 5, mm_in (S.1 12) 10, _, _]) (c1 := (114, [some (.ref 10), some (.ref 1), some (.ref 3), some (.int a2), some (.int a3), some (.int r3)], [], mH ((va_up S.1 12 ((S.1 12) + (1 : Int32))), (va_up (va_up (va_up (va_up (va_up S.2.1 11 (upd (S.2.1 11) (S.1 12).toNatClampNeg a2)) 12 (upd (S.2.1 12) (S.1 12).toNatClampNeg (vp_nar .boolean a3))) 13 (upd (S.2.1 13) (S.1 12).toNatClampNeg r13)) 14 (upd (S.2.1 14) (S.1 12).toNatClampNeg r3)) 15 (upd (S.2.1 15) (S.1 12).toNatClampNeg (S.2.1 7 a2.toNatClampNeg))), S.2.2), 0, 0)) rfl ⟨h12, h12, h15, h12, trivial, (Nat.le_of_ble_eq_true rfl), trivial⟩ ?_
        cases h
        exact mm_ev.ret (q := mq36) (b := (114, .return_, 1, 3, 0, 0, 0, 0, [])) rfl rfl rfl ⟨Nat.le_of_ble_eq_true rfl, Nat.le_of_ble_eq_true rfl⟩ trivial ⟨rfl, rfl⟩
    · rw [if_neg h8] at h
      refine mm_ev.go [true] (ps := [mm_cmp .ne r6 (0 : Int32)]) (c1 := (40, [some (.ref 10), some (.ref 1), some (.ref 3), some (.int a2), some (.int a3), some (.int r3)], [], mH S, 0, 0)) rfl ⟨h8, trivial⟩ ?_
      cases h
      exact mm_ev.ret (q := mq36) (b := (40, .return_, 1, 3, 0, 0, 0, 0, [])) rfl rfl rfl ⟨Nat.le_of_ble_eq_true rfl, Nat.le_of_ble_eq_true rfl⟩ trivial ⟨rfl, rfl⟩
/-- SlabPatterns$Kinds.has -/
def F37 (S : mSt) (a0 : Int32) : Option (Int32) := if a0 < (0 : Int32) then (some ((0 : Int32))) else (if (S.1 12) ≤ a0 then (some ((0 : Int32))) else (if (10 : Int32) ≤ a0 then (some ((0 : Int32))) else (some ((1 : Int32)))))
set_option maxRecDepth 100000 in
set_option maxHeartbeats 4000000 in
theorem F37_ok {sc : mS} (d : Nat) {S : mSt} {a0 : Int32} {r : Int32} (h : F37 S a0 = some r) : mm_ev sc mmK mmP (d + 0) 37 (0, mm_en 2 [.ref 10, .int a0], [], mH S, 0, 0) (mm_is (.inl (some (.int r))) (mH S)) := by
  unfold F37 at h
  refine mm_ev.to (c := (0, [some (.ref 10), some (.int a0)], [], mH S, 0, 0)) rfl ?_
  by_cases h1 : a0 < (0 : Int32)
  · rw [if_pos h1] at h
    refine mm_ev.go [true, true] (ps := [mm_cmp .lt a0 (0 : Int32)]) (c1 := (22, [some (.ref 10), some (.int a0)], [], mH S, 0, 0)) rfl ⟨h1, trivial⟩ ?_
    refine mm_ev.go [true] (ps := []) (c1 := (23, [some (.ref 10), some (.int a0)], [.int (0 : Int32)], mH S, 0, 0)) rfl trivial ?_
    cases h
    exact mm_ev.ret (q := mq37) (b := (23, .ireturn, 1, 3, 0, 0, 0, 0, [])) rfl rfl rfl ⟨Nat.le_of_ble_eq_true rfl, Nat.le_of_ble_eq_true rfl⟩ ⟨by first | exact Or.inl rfl | exact Or.inr rfl, trivial⟩ ⟨rfl, rfl⟩
  · rw [if_neg h1] at h
    refine mm_ev.go [true, false] (ps := [¬ mm_cmp .lt a0 (0 : Int32)]) (c1 := (4, [some (.ref 10), some (.int a0)], [], mH S, 0, 0)) rfl ⟨h1, trivial⟩ ?_
    by_cases h2 : (S.1 12) ≤ a0
    · rw [if_pos h2] at h
      refine mm_ev.go [true, true, true, true] (ps := [mm_cmp .ge a0 (S.1 12)]) (c1 := (22, [some (.ref 10), some (.int a0)], [], mH S, 0, 0)) rfl ⟨h2, trivial⟩ ?_
      refine mm_ev.go [true] (ps := []) (c1 := (23, [some (.ref 10), some (.int a0)], [.int (0 : Int32)], mH S, 0, 0)) rfl trivial ?_
      cases h
      exact mm_ev.ret (q := mq37) (b := (23, .ireturn, 1, 3, 0, 0, 0, 0, [])) rfl rfl rfl ⟨Nat.le_of_ble_eq_true rfl, Nat.le_of_ble_eq_true rfl⟩ ⟨by first | exact Or.inl rfl | exact Or.inr rfl, trivial⟩ ⟨rfl, rfl⟩
    · rw [if_neg h2] at h
      refine mm_ev.go [true, true, true, false] (ps := [¬ mm_cmp .ge a0 (S.1 12)]) (c1 := (12, [some (.ref 10), some (.int a0)], [], mH S, 0, 0)) rfl ⟨h2, trivial⟩ ?_
      by_cases h3 : (10 : Int32) ≤ a0
      · rw [if_pos h3] at h
        refine mm_ev.go [true, true, true] (ps := [mm_cmp .ge a0 (10 : Int32)]) (c1 := (22, [some (.ref 10), some (.int a0)], [], mH S, 0, 0)) rfl ⟨h3, trivial⟩ ?_
        refine mm_ev.go [true] (ps := []) (c1 := (23, [some (.ref 10), some (.int a0)], [.int (0 : Int32)], mH S, 0, 0)) rfl trivial ?_
        cases h
        exact mm_ev.ret (q := mq37) (b := (23, .ireturn, 1, 3, 0, 0, 0, 0, [])) rfl rfl rfl ⟨Nat.le_of_ble_eq_true rfl, Nat.le_of_ble_eq_true rfl⟩ ⟨by first | exact Or.inl rfl | exact Or.inr rfl, trivial⟩ ⟨rfl, rfl⟩
      · rw [if_neg h3] at h
        refine mm_ev.go [true, true, false] (ps := [¬ mm_cmp .ge a0 (10 : Int32)]) (c1 := (18, [some (.ref 10), some (.int a0)], [], mH S, 0, 0)) rfl ⟨h3, trivial⟩ ?_
        refine mm_ev.go [true, true] (ps := []) (c1 := (23, [some (.ref 10), some (.int a0)], [.int (1 : Int32)], mH S, 0, 0)) rfl trivial ?_
        cases h
        exact mm_ev.ret (q := mq37) (b := (23, .ireturn, 1, 3, 0, 0, 0, 0, [])) rfl rfl rfl ⟨Nat.le_of_ble_eq_true rfl, Nat.le_of_ble_eq_true rfl⟩ ⟨by first | exact Or.inl rfl | exact Or.inr rfl, trivial⟩ ⟨rfl, rfl⟩
def I40_3 (S : mSt) (v4 : Int32) : Option (Nat × mSt × Int32) := if (5 : Int32) ≤ v4 then (some (1, S, 0)) else (if 0 ≤ v4 ∧ v4.toNatClampNeg < 5 then some (0, (S.1, (va_up S.2.1 24 (upd (S.2.1 24) v4.toNatClampNeg (S.2.1 16 v4.toNatClampNeg))), S.2.2), v4 + (1 : Int32)) else none)
set_option maxRecDepth 100000 in
set_option maxHeartbeats 4000000 in
theorem I40_3_ok {sc : mS} (d : Nat) {S : mSt} {v4 : Int32} {r : Nat × mSt × Int32} (h : I40_3 S v4 = some r) {Q : mR → List mE → Prop} (hc0 : r.1 = 0 → mm_ev sc mmK mmP (d + 0) 40 (3, [some (.ref 17), some (.ref 1), some (.ref 10), some (.ref 28), some (.int r.2.2)], [], mH r.2.1, 0, 0) Q) (hc1 : r.1 = 1 → ∀ u2 : Option Value, ∀ u4 : Option Value, mm_ev sc mmK mmP (d + 0) 40 (29, [some (.ref 17), some (.ref 1), u2, some (.ref 28), u4], [], mH r.2.1, 0, 0) Q) : mm_ev sc mmK mmP (d + 0) 40 (3, [some (.ref 17), some (.ref 1), some (.ref 10), some (.ref 28), some (.int v4)], [], mH S, 0, 0) Q := by
  unfold I40_3 at h
  by_cases h1 : (5 : Int32) ≤ v4
  · rw [if_pos h1] at h
    refine mm_ev.go [true, true, true] (ps := [mm_cmp .ge v4 (5 : Int32)]) (c1 := (29, [some (.ref 17), some (.ref 1), some (.ref 10), some (.ref 28), some (.int v4)], [], mH S, 0, 0)) rfl ⟨h1, trivial⟩ ?_
    cases h
    exact hc1 rfl (some (.ref 10)) (some (.int v4))
  · rw [if_neg h1] at h
    refine mm_ev.go [true, true, false] (ps := [¬ mm_cmp .ge v4 (5 : Int32)]) (c1 := (9, [some (.ref 17), some (.ref 1), some (.ref 10), some (.ref 28), some (.int v4)], [], mH S, 0, 0)) rfl ⟨h1, trivial⟩ ?_
    obtain ⟨h2, h⟩ := mb_i h
    refine mm_ev.go [true, true, true, true, true, true, true, true, true, true] (ps := [mm_in v4 5, mm_in v4 5]) (c1 := (3, [some (.ref 17), some (.ref 1), some (.ref 10), some (.ref 28), some (.int (v4 + (1 : Int32)))], [], mH (S.1, (va_up S.2.1 24 (upd (S.2.1 24) v4.toNatClampNeg (S.2.1 16 v4.toNatClampNeg))), S.2.2), 0, 0)) rfl ⟨h2, h2, trivial⟩ ?_
    cases h
    exact hc0 rfl
def L40_3 : Nat → mSt → Int32 → Option (Nat × mSt × Int32)
  | 0, _, _ => none
  | n + 1, S, v4 => (I40_3 S v4).bind fun r => if r.1 = 0 then L40_3 n r.2.1 r.2.2 else some r
set_option maxRecDepth 100000 in
set_option maxHeartbeats 4000000 in
theorem L40_3_ok {sc : mS} (d : Nat) {n : Nat} {S : mSt} {v4 : Int32} {r : Nat × mSt × Int32} (h : L40_3 n S v4 = some r) {Q : mR → List mE → Prop} (hc1 : r.1 = 1 → ∀ u2 : Option Value, ∀ u4 : Option Value, mm_ev sc mmK mmP (d + 0) 40 (29, [some (.ref 17), some (.ref 1), u2, some (.ref 28), u4], [], mH r.2.1, 0, 0) Q) : mm_ev sc mmK mmP (d + 0) 40 (3, [some (.ref 17), some (.ref 1), some (.ref 10), some (.ref 28), some (.int v4)], [], mH S, 0, 0) Q := by
  induction n generalizing S v4 with
  | zero => cases h
  | succ n ih =>
    unfold L40_3 at h
    obtain ⟨r1, h1, h⟩ := mb_b h
    by_cases h0 : r1.1 = 0
    · rw [if_pos h0] at h
      refine I40_3_ok d h1 (fun _ => ih h) (fun z => absurd z (by omega))
    · rw [if_neg h0] at h
      cases h
      exact I40_3_ok d h1 (fun z => absurd z h0) hc1
/-- SlabPatterns$Search.start -/
def F40 (n : Nat) (S : mSt) : Option (mSt) := (L40_3 n S (0 : Int32)).bind fun r3 => (if 0 ≤ (0 : Int32) ∧ (0 : Int32).toNatClampNeg < 101 then some (((va_up (va_up (va_up r3.2.1.1 14 (0 : Int32)) 15 (0 : Int32)) 13 (0 : Int32)), (va_up (va_up (va_up r3.2.1.2.1 25 (upd (r3.2.1.2.1 25) (0 : Int32).toNatClampNeg (0 : Int32))) 26 (upd (r3.2.1.2.1 26) (0 : Int32).toNatClampNeg (r3.2.1.1 7))) 27 (upd (r3.2.1.2.1 27) (0 : Int32).toNatClampNeg (0 : Int32))), r3.2.1.2.2)) else none)
set_option maxRecDepth 100000 in
set_option maxHeartbeats 4000000 in
theorem F40_ok {sc : mS} (d : Nat) {n : Nat} {S : mSt} {r : mSt} (h : F40 n S = some r) : mm_ev sc mmK mmP (d + 0) 40 (0, mm_en 5 [.ref 17, .ref 1, .ref 10, .ref 28], [], mH S, 0, 0) (mm_is (.inl none) (mH r)) := by
  unfold F40 at h
  refine mm_ev.to (c := (0, [some (.ref 17), some (.ref 1), some (.ref 10), some (.ref 28), none], [], mH S, 0, 0)) rfl ?_
  refine mm_ev.go [true, true] (ps := []) (c1 := (3, [some (.ref 17), some (.ref 1), some (.ref 10), some (.ref 28), some (.int (0 : Int32))], [], mH S, 0, 0)) rfl trivial ?_
  obtain ⟨r3, h4, h⟩ := mb_b h
  refine L40_3_ok d h4 ?_
  · intro h5 o1_2 o1_4
    obtain ⟨h6, h⟩ := mb_i h
    refine mm_ev.go [true, true, true, true, true, true, true, true, true, true, true, true, true, true, true, true, true, true, true, true, true, true, true, true, true, true] (ps := [_, _, mm_in (0 : Int32) 101, mm_in (0 : Int32) 101, mm_in (0 : Int32) 101, _, _, _, _]) (c1 := (71, [some (.ref 17), some (.ref 1), o1_2, some (.ref 28), o1_4], [], mH ((va_up (va_up (va_up r3.2.1.1 14 (0 : Int32)) 15 (0 : Int32)) 13 (0 : Int32)), (va_up (va_up (va_up r3.2.1.2.1 25 (upd (r3.2.1.2.1 25) (0 : Int32).toNatClampNeg (0 : Int32))) 26 (upd (r3.2.1.2.1 26) (0 : Int32).toNatClampNeg (r3.2.1.1 7))) 27 (upd (r3.2.1.2.1 27) (0 : Int32).toNatClampNeg (0 : Int32))), r3.2.1.2.2), 0, 0)) rfl ⟨trivial, (Nat.le_of_ble_eq_true rfl), h6, h6, h6, trivial, (Nat.le_of_ble_eq_true rfl), trivial, (Nat.le_of_ble_eq_true rfl), trivial⟩ ?_
    cases h
    exact mm_ev.ret (q := mq40) (b := (71, .return_, 1, 3, 0, 0, 0, 0, [])) rfl rfl rfl ⟨Nat.le_of_ble_eq_true rfl, Nat.le_of_ble_eq_true rfl⟩ trivial ⟨rfl, rfl⟩
/-- SlabPatterns$Search.leftOf -/
def F42 (S : mSt) (a0 : Int32) : Option (Int32) := (F6 S a0 (0 : Int32) (4 : Int32)).bind fun r1 => (if r1 = (0 : Int32) then (if 0 ≤ a0 ∧ a0.toNatClampNeg < 5 then some (S.2.1 24 a0.toNatClampNeg) else none) else (some ((0 : Int32))))
set_option maxRecDepth 100000 in
set_option maxHeartbeats 4000000 in
theorem F42_ok {sc : mS} (d : Nat) {S : mSt} {a0 : Int32} {r : Int32} (h : F42 S a0 = some r) : mm_ev sc mmK mmP (d + 1) 42 (0, mm_en 2 [.ref 17, .int a0], [], mH S, 0, 0) (mm_is (.inl (some (.int r))) (mH S)) := by
  unfold F42 at h
  refine mm_ev.to (c := (0, [some (.ref 17), some (.int a0)], [], mH S, 0, 0)) rfl ?_
  refine mm_ev.go [true, true, true] (ps := []) (c1 := (3, [some (.ref 17), some (.int a0)], [.int (4 : Int32), .int (0 : Int32), .int a0], mH S, 0, 0)) rfl trivial ?_
  obtain ⟨r1, h2, h⟩ := mb_b h
  refine mm_ev.call (q := mq42) (q2 := mq6) (b := (3, .invokestatic 67, 3, 2, 5, 6, 3, 0, [302, 510, 301, 48])) (as := [.int a0, .int (0 : Int32), .int (4 : Int32)]) (r := []) (v := (some (.int r1))) (h1 := mH S) rfl rfl rfl rfl ⟨Nat.le_of_ble_eq_true rfl, Nat.le_of_ble_eq_true rfl, Nat.le_of_ble_eq_true rfl⟩ (F6_ok d h2) ?_
  refine mm_ev.to (c := (6, [some (.ref 17), some (.int a0)], [.int r1], mH S, 0, 0)) rfl ?_
  by_cases h3 : r1 = (0 : Int32)
  · rw [if_pos h3] at h
    refine mm_ev.go [true] (ps := [mm_cmp .eq r1 (0 : Int32)]) (c1 := (13, [some (.ref 17), some (.int a0)], [], mH S, 0, 0)) rfl ⟨h3, trivial⟩ ?_
    obtain ⟨h4, h⟩ := mb_i h
    refine mm_ev.go [true, true, true, true] (ps := [mm_in a0 5]) (c1 := (19, [some (.ref 17), some (.int a0)], [.int (S.2.1 24 a0.toNatClampNeg)], mH S, 0, 0)) rfl ⟨h4, trivial⟩ ?_
    cases h
    exact mm_ev.ret (q := mq42) (b := (19, .ireturn, 1, 3, 0, 0, 0, 0, [])) rfl rfl rfl ⟨Nat.le_of_ble_eq_true rfl, Nat.le_of_ble_eq_true rfl⟩ trivial ⟨rfl, rfl⟩
  · rw [if_neg h3] at h
    refine mm_ev.go [false] (ps := [¬ mm_cmp .eq r1 (0 : Int32)]) (c1 := (9, [some (.ref 17), some (.int a0)], [], mH S, 0, 0)) rfl ⟨h3, trivial⟩ ?_
    refine mm_ev.go [true, true] (ps := []) (c1 := (19, [some (.ref 17), some (.int a0)], [.int (0 : Int32)], mH S, 0, 0)) rfl trivial ?_
    cases h
    exact mm_ev.ret (q := mq42) (b := (19, .ireturn, 1, 3, 0, 0, 0, 0, [])) rfl rfl rfl ⟨Nat.le_of_ble_eq_true rfl, Nat.le_of_ble_eq_true rfl⟩ trivial ⟨rfl, rfl⟩
/-- SlabPatterns$Search.use -/
def F44 (S : mSt) (a0 a1 : Int32) : Option (mSt) := (F6 S a0 (0 : Int32) (4 : Int32)).bind fun r1 => (if r1 = (0 : Int32) then (if 0 ≤ a0 ∧ a0.toNatClampNeg < 5 then some ((S.1, (va_up S.2.1 24 (upd (S.2.1 24) a0.toNatClampNeg ((S.2.1 24 a0.toNatClampNeg) - a1))), S.2.2)) else none) else (some S))
set_option maxRecDepth 100000 in
set_option maxHeartbeats 4000000 in
theorem F44_ok {sc : mS} (d : Nat) {S : mSt} {a0 a1 : Int32} {r : mSt} (h : F44 S a0 a1 = some r) : mm_ev sc mmK mmP (d + 1) 44 (0, mm_en 3 [.ref 17, .int a0, .int a1], [], mH S, 0, 0) (mm_is (.inl none) (mH r)) := by
  unfold F44 at h
  refine mm_ev.to (c := (0, [some (.ref 17), some (.int a0), some (.int a1)], [], mH S, 0, 0)) rfl ?_
  refine mm_ev.go [true, true, true] (ps := []) (c1 := (3, [some (.ref 17), some (.int a0), some (.int a1)], [.int (4 : Int32), .int (0 : Int32), .int a0], mH S, 0, 0)) rfl trivial ?_
  obtain ⟨r1, h2, h⟩ := mb_b h
  refine mm_ev.call (q := mq44) (q2 := mq6) (b := (3, .invokestatic 67, 3, 2, 5, 6, 3, 0, [302, 510, 301, 48])) (as := [.int a0, .int (0 : Int32), .int (4 : Int32)]) (r := []) (v := (some (.int r1))) (h1 := mH S) rfl rfl rfl rfl ⟨Nat.le_of_ble_eq_true rfl, Nat.le_of_ble_eq_true rfl, Nat.le_of_ble_eq_true rfl⟩ (F6_ok d h2) ?_
  refine mm_ev.to (c := (6, [some (.ref 17), some (.int a0), some (.int a1)], [.int r1], mH S, 0, 0)) rfl ?_
  by_cases h3 : r1 = (0 : Int32)
  · rw [if_pos h3] at h
    refine mm_ev.go [false] (ps := [¬ mm_cmp .ne r1 (0 : Int32)]) (c1 := (9, [some (.ref 17), some (.int a0), some (.int a1)], [], mH S, 0, 0)) rfl ⟨(fun z => z h3), trivial⟩ ?_
    obtain ⟨h4, h⟩ := mb_i h
    refine mm_ev.go [true, true, true, true, true, true, true, true] (ps := [mm_in a0 5, mm_in a0 5]) (c1 := (19, [some (.ref 17), some (.int a0), some (.int a1)], [], mH (S.1, (va_up S.2.1 24 (upd (S.2.1 24) a0.toNatClampNeg ((S.2.1 24 a0.toNatClampNeg) - a1))), S.2.2), 0, 0)) rfl ⟨h4, h4, trivial⟩ ?_
    cases h
    exact mm_ev.ret (q := mq44) (b := (19, .return_, 1, 3, 0, 0, 0, 0, [])) rfl rfl rfl ⟨Nat.le_of_ble_eq_true rfl, Nat.le_of_ble_eq_true rfl⟩ trivial ⟨rfl, rfl⟩
  · rw [if_neg h3] at h
    refine mm_ev.go [true] (ps := [mm_cmp .ne r1 (0 : Int32)]) (c1 := (19, [some (.ref 17), some (.int a0), some (.int a1)], [], mH S, 0, 0)) rfl ⟨h3, trivial⟩ ?_
    cases h
    exact mm_ev.ret (q := mq44) (b := (19, .return_, 1, 3, 0, 0, 0, 0, [])) rfl rfl rfl ⟨Nat.le_of_ble_eq_true rfl, Nat.le_of_ble_eq_true rfl⟩ trivial ⟨rfl, rfl⟩
/-- SlabPatterns$Search.lay -/
def F45 (S : mSt) (a0 : Int32) : Option (mSt) := (F6 S (S.1 14) (0 : Int32) (99 : Int32)).bind fun r1 => (if r1 = (0 : Int32) then ((F37 S a0).bind fun r4 => (if r4 = (0 : Int32) then (some S) else (if 0 ≤ a0 ∧ a0.toNatClampNeg < 10 then (F42 S (S.2.1 11 a0.toNatClampNeg)).bind fun r8 => (if 0 ≤ (S.1 14) ∧ (S.1 14).toNatClampNeg < 100 then if 0 ≤ (S.1 14) ∧ (S.1 14).toNatClampNeg < 101 then (F44 ((va_up S.1 14 ((S.1 14) + (1 : Int32))), (va_up (va_up (va_up (va_up (va_up S.2.1 19 (upd (S.2.1 19) (S.1 14).toNatClampNeg (S.2.1 11 a0.toNatClampNeg))) 20 (upd (S.2.1 20) (S.1 14).toNatClampNeg (vp_nar .boolean (S.2.1 12 a0.toNatClampNeg)))) 21 (upd (S.2.1 21) (S.1 14).toNatClampNeg (S.2.1 26 (S.1 14).toNatClampNeg))) 22 (upd (S.2.1 22) (S.1 14).toNatClampNeg (S.2.1 13 a0.toNatClampNeg))) 23 (upd (S.2.1 23) (S.1 14).toNatClampNeg (if r8 < S.2.1 14 a0.toNatClampNeg then r8 else S.2.1 14 a0.toNatClampNeg))), S.2.2) (S.2.1 11 a0.toNatClampNeg) (if r8 < S.2.1 14 a0.toNatClampNeg then r8 else S.2.1 14 a0.toNatClampNeg)).bind fun r12 => (if 0 ≤ ((S.1 14) + (1 : Int32)) ∧ ((S.1 14) + (1 : Int32)).toNatClampNeg < 101 then some ((r12.1, (va_up (va_up (va_up r12.2.1 25 (upd (upd (r12.2.1 25) (S.1 14).toNatClampNeg (a0 + (1 : Int32))) ((S.1 14) + (1 : Int32)).toNatClampNeg (0 : Int32))) 26 (upd (r12.2.1 26) ((S.1 14) + (1 : Int32)).toNatClampNeg (((r12.2.1 26 (S.1 14).toNatClampNeg) + (r12.2.1 13 a0.toNatClampNeg)) + (r12.1 4)))) 27 (upd (r12.2.1 27) ((S.1 14) + (1 : Int32)).toNatClampNeg ((r12.2.1 27 (S.1 14).toNatClampNeg) + ((if r8 < S.2.1 14 a0.toNatClampNeg then r8 else S.2.1 14 a0.toNatClampNeg) * (r12.2.1 15 a0.toNatClampNeg))))), r12.2.2)) else none) else none else none) else none))) else (some S))
set_option maxRecDepth 100000 in
set_option maxHeartbeats 4000000 in
theorem F45_ok {sc : mS} (d : Nat) {S : mSt} {a0 : Int32} {r : mSt} (h : F45 S a0 = some r) : mm_ev sc mmK mmP (d + 2) 45 (0, mm_en 7 [.ref 17, .int a0, .ref 1, .ref 10], [], mH S, 0, 0) (mm_is (.inl none) (mH r)) := by
  unfold F45 at h
  refine mm_ev.to (c := (0, [some (.ref 17), some (.int a0), some (.ref 1), some (.ref 10), none, none, none], [], mH S, 0, 0)) rfl ?_
  refine mm_ev.go [true, true, true, true, true, true, true] (ps := []) (c1 := (14, [some (.ref 17), some (.int a0), some (.ref 1), some (.ref 10), some (.int (S.1 14)), none, none], [.int (99 : Int32), .int (0 : Int32), .int (S.1 14)], mH S, 0, 0)) rfl trivial ?_
  obtain ⟨r1, h2, h⟩ := mb_b h
  refine mm_ev.call (q := mq45) (q2 := mq6) (b := (14, .invokestatic 67, 3, 2, 5, 6, 3, 0, [302, 510, 301, 48])) (as := [.int (S.1 14), .int (0 : Int32), .int (99 : Int32)]) (r := []) (v := (some (.int r1))) (h1 := mH S) rfl rfl rfl rfl ⟨Nat.le_of_ble_eq_true rfl, Nat.le_of_ble_eq_true rfl, Nat.le_of_ble_eq_true rfl⟩ (F6_ok (d + 1) h2) ?_
  refine mm_ev.to (c := (17, [some (.ref 17), some (.int a0), some (.ref 1), some (.ref 10), some (.int (S.1 14)), none, none], [.int r1], mH S, 0, 0)) rfl ?_
  by_cases h3 : r1 = (0 : Int32)
  · rw [if_pos h3] at h
    refine mm_ev.go [false] (ps := [¬ mm_cmp .ne r1 (0 : Int32)]) (c1 := (20, [some (.ref 17), some (.int a0), some (.ref 1), some (.ref 10), some (.int (S.1 14)), none, none], [], mH S, 0, 0)) rfl ⟨(fun z => z h3), trivial⟩ ?_
    refine mm_ev.go [true, true] (ps := []) (c1 := (22, [some (.ref 17), some (.int a0), some (.ref 1), some (.ref 10), some (.int (S.1 14)), none, none], [.int a0, .ref 10], mH S, 0, 0)) rfl trivial ?_
    obtain ⟨r4, h5, h⟩ := mb_b h
    refine mm_ev.call (q := mq45) (q2 := mq37) (b := (22, .invokevirtual 96, 3, 2, 3, 37, 2, 3, [539, 536, 538, 51, 23])) (as := [.ref 10, .int a0]) (r := []) (v := (some (.int r4))) (h1 := mH S) rfl rfl rfl rfl ⟨Nat.le_of_ble_eq_true rfl, Nat.le_of_ble_eq_true rfl, Nat.le_of_ble_eq_true rfl⟩ (F37_ok (d + 1) h5) ?_
    refine mm_ev.to (c := (25, [some (.ref 17), some (.int a0), some (.ref 1), some (.ref 10), some (.int (S.1 14)), none, none], [.int r4], mH S, 0, 0)) rfl ?_
    by_cases h6 : r4 = (0 : Int32)
    · rw [if_pos h6] at h
      refine mm_ev.go [false] (ps := [¬ mm_cmp .ne r4 (0 : Int32)]) (c1 := (28, [some (.ref 17), some (.int a0), some (.ref 1), some (.ref 10), some (.int (S.1 14)), none, none], [], mH S, 0, 0)) rfl ⟨(fun z => z h6), trivial⟩ ?_
      cases h
      exact mm_ev.ret (q := mq45) (b := (28, .return_, 1, 3, 0, 0, 0, 0, [])) rfl rfl rfl ⟨Nat.le_of_ble_eq_true rfl, Nat.le_of_ble_eq_true rfl⟩ trivial ⟨rfl, rfl⟩
    · rw [if_neg h6] at h
      refine mm_ev.go [true] (ps := [mm_cmp .ne r4 (0 : Int32)]) (c1 := (29, [some (.ref 17), some (.int a0), some (.ref 1), some (.ref 10), some (.int (S.1 14)), none, none], [], mH S, 0, 0)) rfl ⟨h6, trivial⟩ ?_
      obtain ⟨h7, h⟩ := mb_i h
      refine mm_ev.go [true, true, true, true, true, true, true, true, true, true, true] (ps := [mm_in a0 10, mm_in a0 10]) (c1 := (46, [some (.ref 17), some (.int a0), some (.ref 1), some (.ref 10), some (.int (S.1 14)), some (.int (S.2.1 11 a0.toNatClampNeg)), none], [.int (S.2.1 11 a0.toNatClampNeg), .ref 17, .int (S.2.1 14 a0.toNatClampNeg)], mH S, 0, 0)) rfl ⟨h7, h7, trivial⟩ ?_
      obtain ⟨r8, h9, h⟩ := mb_b h
      refine mm_ev.call (q := mq45) (q2 := mq42) (b := (46, .invokevirtual 92, 3, 2, 2, 42, 2, 4, [523, 520, 522, 52, 19])) (as := [.ref 17, .int (S.2.1 11 a0.toNatClampNeg)]) (r := [.int (S.2.1 14 a0.toNatClampNeg)]) (v := (some (.int r8))) (h1 := mH S) rfl rfl rfl rfl ⟨Nat.le_of_ble_eq_true rfl, Nat.le_of_ble_eq_true rfl, Nat.le_of_ble_eq_true rfl⟩ (F42_ok d h9) ?_
      refine mm_ev.to (c := (49, [some (.ref 17), some (.int a0), some (.ref 1), some (.ref 10), some (.int (S.1 14)), some (.int (S.2.1 11 a0.toNatClampNeg)), none], [.int r8, .int (S.2.1 14 a0.toNatClampNeg)], mH S, 0, 0)) rfl ?_
      obtain ⟨h10, h⟩ := mb_i h
      obtain ⟨h11, h⟩ := mb_i h
      refine mm_ev.go [true, true, true, true, true, true, true, true, true, true, true, true, true, true, true, true, true, true, true, true, true, true, true, true, true, true, true, true, true, true, true, true, true, true, true, true, true, true, true, true, true, true, true, true, true, true, true, true, true, true] (ps := [_, _, mm_in (S.1 14) 100, mm_in a0 10, mm_in (S.1 14) 100, mm_in (S.1 14) 101, mm_in (S.1 14) 100, mm_in a0 10, mm_in (S.1 14) 100, mm_in (S.1 14) 100, _, _]) (c1 := (143, [some (.ref 17), some (.int a0), some (.ref 1), some (.ref 10), some (.int (S.1 14)), some (.int (S.2.1 11 a0.toNatClampNeg)), some (.int (if r8 < S.2.1 14 a0.toNatClampNeg then r8 else S.2.1 14 a0.toNatClampNeg))], [.int (if r8 < S.2.1 14 a0.toNatClampNeg then r8 else S.2.1 14 a0.toNatClampNeg), .int (S.2.1 11 a0.toNatClampNeg), .ref 17], mH ((va_up S.1 14 ((S.1 14) + (1 : Int32))), (va_up (va_up (va_up (va_up (va_up S.2.1 19 (upd (S.2.1 19) (S.1 14).toNatClampNeg (S.2.1 11 a0.toNatClampNeg))) 20 (upd (S.2.1 20) (S.1 14).toNatClampNeg (vp_nar .boolean (S.2.1 12 a0.toNatClampNeg)))) 21 (upd (S.2.1 21) (S.1 14).toNatClampNeg (S.2.1 26 (S.1 14).toNatClampNeg))) 22 (upd (S.2.1 22) (S.1 14).toNatClampNeg (S.2.1 13 a0.toNatClampNeg))) 23 (upd (S.2.1 23) (S.1 14).toNatClampNeg (if r8 < S.2.1 14 a0.toNatClampNeg then r8 else S.2.1 14 a0.toNatClampNeg))), S.2.2), 0, 0)) rfl ⟨(Nat.le_of_ble_eq_true rfl), (Nat.le_of_ble_eq_true rfl), h10, h7, h10, h11, h10, h7, h10, h10, trivial, (Nat.le_of_ble_eq_true rfl), trivial⟩ ?_
      obtain ⟨r12, h13, h⟩ := mb_b h
      refine mm_ev.call (q := mq45) (q2 := mq44) (b := (143, .invokevirtual 118, 3, 2, 2, 44, 3, 4, [531, 528, 530, 52, 21])) (as := [.ref 17, .int (S.2.1 11 a0.toNatClampNeg), .int (if r8 < S.2.1 14 a0.toNatClampNeg then r8 else S.2.1 14 a0.toNatClampNeg)]) (r := []) (v := none) (h1 := mH r12) rfl rfl rfl rfl ⟨Nat.le_of_ble_eq_true rfl, Nat.le_of_ble_eq_true rfl, Nat.le_of_ble_eq_true rfl⟩ (F44_ok d h13) ?_
      refine mm_ev.to (c := (146, [some (.ref 17), some (.int a0), some (.ref 1), some (.ref 10), some (.int (S.1 14)), some (.int (S.2.1 11 a0.toNatClampNeg)), some (.int (if r8 < S.2.1 14 a0.toNatClampNeg then r8 else S.2.1 14 a0.toNatClampNeg))], [], mH r12, 0, 0)) rfl ?_
      obtain ⟨h14, h⟩ := mb_i h
      refine mm_ev.go [true, true, true, true, true, true, true, true, true, true, true, true, true, true, true, true, true, true, true, true, true, true, true, true, true, true, true, true, true, true, true, true, true, true, true, true, true, true, true, true, true, true, true, true, true, true, true, true, true] (ps := [mm_in (S.1 14) 101, mm_in ((S.1 14) + (1 : Int32)) 101, mm_in (S.1 14) 101, mm_in a0 10, mm_in ((S.1 14) + (1 : Int32)) 101, mm_in (S.1 14) 101, mm_in a0 10, mm_in ((S.1 14) + (1 : Int32)) 101]) (c1 := (220, [some (.ref 17), some (.int a0), some (.ref 1), some (.ref 10), some (.int (S.1 14)), some (.int (S.2.1 11 a0.toNatClampNeg)), some (.int (if r8 < S.2.1 14 a0.toNatClampNeg then r8 else S.2.1 14 a0.toNatClampNeg))], [], mH (r12.1, (va_up (va_up (va_up r12.2.1 25 (upd (upd (r12.2.1 25) (S.1 14).toNatClampNeg (a0 + (1 : Int32))) ((S.1 14) + (1 : Int32)).toNatClampNeg (0 : Int32))) 26 (upd (r12.2.1 26) ((S.1 14) + (1 : Int32)).toNatClampNeg (((r12.2.1 26 (S.1 14).toNatClampNeg) + (r12.2.1 13 a0.toNatClampNeg)) + (r12.1 4)))) 27 (upd (r12.2.1 27) ((S.1 14) + (1 : Int32)).toNatClampNeg ((r12.2.1 27 (S.1 14).toNatClampNeg) + ((if r8 < S.2.1 14 a0.toNatClampNeg then r8 else S.2.1 14 a0.toNatClampNeg) * (r12.2.1 15 a0.toNatClampNeg))))), r12.2.2), 0, 0)) rfl ⟨h11, h14, h11, h7, h14, h11, h7, h14, trivial⟩ ?_
      cases h
      exact mm_ev.ret (q := mq45) (b := (220, .return_, 1, 3, 0, 0, 0, 0, [])) rfl rfl rfl ⟨Nat.le_of_ble_eq_true rfl, Nat.le_of_ble_eq_true rfl⟩ trivial ⟨rfl, rfl⟩
  · rw [if_neg h3] at h
    refine mm_ev.go [true] (ps := [mm_cmp .ne r1 (0 : Int32)]) (c1 := (28, [some (.ref 17), some (.int a0), some (.ref 1), some (.ref 10), some (.int (S.1 14)), none, none], [], mH S, 0, 0)) rfl ⟨h3, trivial⟩ ?_
    cases h
    exact mm_ev.ret (q := mq45) (b := (28, .return_, 1, 3, 0, 0, 0, 0, [])) rfl rfl rfl ⟨Nat.le_of_ble_eq_true rfl, Nat.le_of_ble_eq_true rfl⟩ trivial ⟨rfl, rfl⟩
def I48_19 (S : mSt) (v2 : Int32) : Option (Nat × mSt × Int32) := if (S.1 15) ≤ v2 then (some (1, S, 0)) else (if 0 ≤ v2 ∧ v2.toNatClampNeg < 100 then some (0, (S.1, (va_up (va_up (va_up (va_up (va_up S.2.1 29 (upd (S.2.1 29) v2.toNatClampNeg (S.2.1 19 v2.toNatClampNeg))) 30 (upd (S.2.1 30) v2.toNatClampNeg (vp_nar .boolean (S.2.1 20 v2.toNatClampNeg)))) 31 (upd (S.2.1 31) v2.toNatClampNeg (S.2.1 21 v2.toNatClampNeg))) 32 (upd (S.2.1 32) v2.toNatClampNeg (S.2.1 22 v2.toNatClampNeg))) 33 (upd (S.2.1 33) v2.toNatClampNeg (S.2.1 23 v2.toNatClampNeg))), S.2.2), v2 + (1 : Int32)) else none)
set_option maxRecDepth 100000 in
set_option maxHeartbeats 4000000 in
theorem I48_19_ok {sc : mS} (d : Nat) {S : mSt} {v2 : Int32} {r : Nat × mSt × Int32} (h : I48_19 S v2 = some r) {Q : mR → List mE → Prop} (hc0 : r.1 = 0 → mm_ev sc mmK mmP (d + 0) 48 (19, [some (.ref 28), some (.ref 18), some (.int r.2.2)], [], mH r.2.1, 0, 0) Q) (hc1 : r.1 = 1 → ∀ u0 : Option Value, ∀ u1 : Option Value, ∀ u2 : Option Value, mm_ev sc mmK mmP (d + 0) 48 (93, [u0, u1, u2], [], mH r.2.1, 0, 0) Q) : mm_ev sc mmK mmP (d + 0) 48 (19, [some (.ref 28), some (.ref 18), some (.int v2)], [], mH S, 0, 0) Q := by
  unfold I48_19 at h
  by_cases h1 : (S.1 15) ≤ v2
  · rw [if_pos h1] at h
    refine mm_ev.go [true, true, true, true] (ps := [mm_cmp .ge v2 (S.1 15)]) (c1 := (93, [some (.ref 28), some (.ref 18), some (.int v2)], [], mH S, 0, 0)) rfl ⟨h1, trivial⟩ ?_
    cases h
    exact hc1 rfl (some (.ref 28)) (some (.ref 18)) (some (.int v2))
  · rw [if_neg h1] at h
    refine mm_ev.go [true, true, true, false] (ps := [¬ mm_cmp .ge v2 (S.1 15)]) (c1 := (27, [some (.ref 28), some (.ref 18), some (.int v2)], [], mH S, 0, 0)) rfl ⟨h1, trivial⟩ ?_
    obtain ⟨h2, h⟩ := mb_i h
    refine mm_ev.go [true, true, true, true, true, true, true, true, true, true, true, true, true, true, true, true, true, true, true, true, true, true, true, true, true, true, true, true, true, true, true, true, true, true, true, true, true, true, true, true, true, true] (ps := [mm_in v2 100, mm_in v2 100, mm_in v2 100, mm_in v2 100, mm_in v2 100, mm_in v2 100, mm_in v2 100, mm_in v2 100, mm_in v2 100, mm_in v2 100]) (c1 := (19, [some (.ref 28), some (.ref 18), some (.int (v2 + (1 : Int32)))], [], mH (S.1, (va_up (va_up (va_up (va_up (va_up S.2.1 29 (upd (S.2.1 29) v2.toNatClampNeg (S.2.1 19 v2.toNatClampNeg))) 30 (upd (S.2.1 30) v2.toNatClampNeg (vp_nar .boolean (S.2.1 20 v2.toNatClampNeg)))) 31 (upd (S.2.1 31) v2.toNatClampNeg (S.2.1 21 v2.toNatClampNeg))) 32 (upd (S.2.1 32) v2.toNatClampNeg (S.2.1 22 v2.toNatClampNeg))) 33 (upd (S.2.1 33) v2.toNatClampNeg (S.2.1 23 v2.toNatClampNeg))), S.2.2), 0, 0)) rfl ⟨h2, h2, h2, h2, h2, h2, h2, h2, h2, h2, trivial⟩ ?_
    cases h
    exact hc0 rfl
def L48_19 : Nat → mSt → Int32 → Option (Nat × mSt × Int32)
  | 0, _, _ => none
  | n + 1, S, v2 => (I48_19 S v2).bind fun r => if r.1 = 0 then L48_19 n r.2.1 r.2.2 else some r
set_option maxRecDepth 100000 in
set_option maxHeartbeats 4000000 in
theorem L48_19_ok {sc : mS} (d : Nat) {n : Nat} {S : mSt} {v2 : Int32} {r : Nat × mSt × Int32} (h : L48_19 n S v2 = some r) {Q : mR → List mE → Prop} (hc1 : r.1 = 1 → ∀ u0 : Option Value, ∀ u1 : Option Value, ∀ u2 : Option Value, mm_ev sc mmK mmP (d + 0) 48 (93, [u0, u1, u2], [], mH r.2.1, 0, 0) Q) : mm_ev sc mmK mmP (d + 0) 48 (19, [some (.ref 28), some (.ref 18), some (.int v2)], [], mH S, 0, 0) Q := by
  induction n generalizing S v2 with
  | zero => cases h
  | succ n ih =>
    unfold L48_19 at h
    obtain ⟨r1, h1, h⟩ := mb_b h
    by_cases h0 : r1.1 = 0
    · rw [if_pos h0] at h
      refine I48_19_ok d h1 (fun _ => ih h) (fun z => absurd z (by omega))
    · rw [if_neg h0] at h
      cases h
      exact I48_19_ok d h1 (fun z => absurd z h0) hc1
/-- SlabPatterns$Strips.copyFrom -/
def F48 (n : Nat) (S : mSt) : Option (mSt) := (L48_19 n ((va_up S.1 15 (if (0 : Int32) < if (100 : Int32) < S.1 14 then (100 : Int32) else S.1 14 then if (100 : Int32) < S.1 14 then (100 : Int32) else S.1 14 else (0 : Int32))), S.2.1, S.2.2) (0 : Int32)).bind fun r3 => (some r3.2.1)
set_option maxRecDepth 100000 in
set_option maxHeartbeats 4000000 in
theorem F48_ok {sc : mS} (d : Nat) {n : Nat} {S : mSt} {r : mSt} (h : F48 n S = some r) : mm_ev sc mmK mmP (d + 0) 48 (0, mm_en 3 [.ref 28, .ref 18], [], mH S, 0, 0) (mm_is (.inl none) (mH r)) := by
  unfold F48 at h
  refine mm_ev.to (c := (0, [some (.ref 28), some (.ref 18), none], [], mH S, 0, 0)) rfl ?_
  refine mm_ev.go [true, true, true, true, true, true, true, true, true, true] (ps := [_, _, _, _, _, _]) (c1 := (19, [some (.ref 28), some (.ref 18), some (.int (0 : Int32))], [], mH ((va_up S.1 15 (if (0 : Int32) < if (100 : Int32) < S.1 14 then (100 : Int32) else S.1 14 then if (100 : Int32) < S.1 14 then (100 : Int32) else S.1 14 else (0 : Int32))), S.2.1, S.2.2), 0, 0)) rfl ⟨(Nat.le_of_ble_eq_true rfl), (Nat.le_of_ble_eq_true rfl), (Nat.le_of_ble_eq_true rfl), (Nat.le_of_ble_eq_true rfl), trivial, (Nat.le_of_ble_eq_true rfl), trivial⟩ ?_
  obtain ⟨r3, h4, h⟩ := mb_b h
  refine L48_19_ok d h4 ?_
  · intro h5 o1_0 o1_1 o1_2
    cases h
    exact mm_ev.ret (q := mq48) (b := (93, .return_, 1, 3, 0, 0, 0, 0, [])) rfl rfl rfl ⟨Nat.le_of_ble_eq_true rfl, Nat.le_of_ble_eq_true rfl⟩ trivial ⟨rfl, rfl⟩
/-- SlabPatterns$Strips.has -/
def F52 (S : mSt) (a0 : Int32) : Option (Int32) := if a0 < (0 : Int32) then (some ((0 : Int32))) else (if (S.1 15) ≤ a0 then (some ((0 : Int32))) else (if (100 : Int32) ≤ a0 then (some ((0 : Int32))) else (some ((1 : Int32)))))
set_option maxRecDepth 100000 in
set_option maxHeartbeats 4000000 in
theorem F52_ok {sc : mS} (d : Nat) {S : mSt} {a0 : Int32} {r : Int32} (h : F52 S a0 = some r) : mm_ev sc mmK mmP (d + 0) 52 (0, mm_en 2 [.ref 28, .int a0], [], mH S, 0, 0) (mm_is (.inl (some (.int r))) (mH S)) := by
  unfold F52 at h
  refine mm_ev.to (c := (0, [some (.ref 28), some (.int a0)], [], mH S, 0, 0)) rfl ?_
  by_cases h1 : a0 < (0 : Int32)
  · rw [if_pos h1] at h
    refine mm_ev.go [true, true] (ps := [mm_cmp .lt a0 (0 : Int32)]) (c1 := (22, [some (.ref 28), some (.int a0)], [], mH S, 0, 0)) rfl ⟨h1, trivial⟩ ?_
    refine mm_ev.go [true] (ps := []) (c1 := (23, [some (.ref 28), some (.int a0)], [.int (0 : Int32)], mH S, 0, 0)) rfl trivial ?_
    cases h
    exact mm_ev.ret (q := mq52) (b := (23, .ireturn, 1, 3, 0, 0, 0, 0, [])) rfl rfl rfl ⟨Nat.le_of_ble_eq_true rfl, Nat.le_of_ble_eq_true rfl⟩ ⟨by first | exact Or.inl rfl | exact Or.inr rfl, trivial⟩ ⟨rfl, rfl⟩
  · rw [if_neg h1] at h
    refine mm_ev.go [true, false] (ps := [¬ mm_cmp .lt a0 (0 : Int32)]) (c1 := (4, [some (.ref 28), some (.int a0)], [], mH S, 0, 0)) rfl ⟨h1, trivial⟩ ?_
    by_cases h2 : (S.1 15) ≤ a0
    · rw [if_pos h2] at h
      refine mm_ev.go [true, true, true, true] (ps := [mm_cmp .ge a0 (S.1 15)]) (c1 := (22, [some (.ref 28), some (.int a0)], [], mH S, 0, 0)) rfl ⟨h2, trivial⟩ ?_
      refine mm_ev.go [true] (ps := []) (c1 := (23, [some (.ref 28), some (.int a0)], [.int (0 : Int32)], mH S, 0, 0)) rfl trivial ?_
      cases h
      exact mm_ev.ret (q := mq52) (b := (23, .ireturn, 1, 3, 0, 0, 0, 0, [])) rfl rfl rfl ⟨Nat.le_of_ble_eq_true rfl, Nat.le_of_ble_eq_true rfl⟩ ⟨by first | exact Or.inl rfl | exact Or.inr rfl, trivial⟩ ⟨rfl, rfl⟩
    · rw [if_neg h2] at h
      refine mm_ev.go [true, true, true, false] (ps := [¬ mm_cmp .ge a0 (S.1 15)]) (c1 := (12, [some (.ref 28), some (.int a0)], [], mH S, 0, 0)) rfl ⟨h2, trivial⟩ ?_
      by_cases h3 : (100 : Int32) ≤ a0
      · rw [if_pos h3] at h
        refine mm_ev.go [true, true, true] (ps := [mm_cmp .ge a0 (100 : Int32)]) (c1 := (22, [some (.ref 28), some (.int a0)], [], mH S, 0, 0)) rfl ⟨h3, trivial⟩ ?_
        refine mm_ev.go [true] (ps := []) (c1 := (23, [some (.ref 28), some (.int a0)], [.int (0 : Int32)], mH S, 0, 0)) rfl trivial ?_
        cases h
        exact mm_ev.ret (q := mq52) (b := (23, .ireturn, 1, 3, 0, 0, 0, 0, [])) rfl rfl rfl ⟨Nat.le_of_ble_eq_true rfl, Nat.le_of_ble_eq_true rfl⟩ ⟨by first | exact Or.inl rfl | exact Or.inr rfl, trivial⟩ ⟨rfl, rfl⟩
      · rw [if_neg h3] at h
        refine mm_ev.go [true, true, false] (ps := [¬ mm_cmp .ge a0 (100 : Int32)]) (c1 := (18, [some (.ref 28), some (.int a0)], [], mH S, 0, 0)) rfl ⟨h3, trivial⟩ ?_
        refine mm_ev.go [true, true] (ps := []) (c1 := (23, [some (.ref 28), some (.int a0)], [.int (1 : Int32)], mH S, 0, 0)) rfl trivial ?_
        cases h
        exact mm_ev.ret (q := mq52) (b := (23, .ireturn, 1, 3, 0, 0, 0, 0, [])) rfl rfl rfl ⟨Nat.le_of_ble_eq_true rfl, Nat.le_of_ble_eq_true rfl⟩ ⟨by first | exact Or.inl rfl | exact Or.inr rfl, trivial⟩ ⟨rfl, rfl⟩
def I54_4 (S : mSt) (v2 v3 : Int32) : Option (Nat × mSt × Int32 × Int32) := if (S.1 15) ≤ v3 then (some (1, S, 0, 0)) else (if (100 : Int32) ≤ v3 then (some (1, S, 0, 0)) else (if 0 ≤ v3 ∧ v3.toNatClampNeg < 100 then some (0, (S.1, (va_up S.2.1 31 (upd (S.2.1 31) v3.toNatClampNeg ((S.2.1 31 v3.toNatClampNeg) + v2))), S.2.2), v2, v3 + (1 : Int32)) else none))
set_option maxRecDepth 100000 in
set_option maxHeartbeats 4000000 in
theorem I54_4_ok {sc : mS} (d : Nat) {S : mSt} {v2 v3 : Int32} {r : Nat × mSt × Int32 × Int32} (h : I54_4 S v2 v3 = some r) (o1 : Option Value) {Q : mR → List mE → Prop} (hc0 : r.1 = 0 → ∀ u1 : Option Value, mm_ev sc mmK mmP (d + 0) 54 (4, [some (.ref 28), u1, some (.int r.2.2.1), some (.int r.2.2.2)], [], mH r.2.1, 0, 0) Q) (hc1 : r.1 = 1 → ∀ u0 : Option Value, ∀ u1 : Option Value, ∀ u2 : Option Value, ∀ u3 : Option Value, mm_ev sc mmK mmP (d + 0) 54 (34, [u0, u1, u2, u3], [], mH r.2.1, 0, 0) Q) : mm_ev sc mmK mmP (d + 0) 54 (4, [some (.ref 28), o1, some (.int v2), some (.int v3)], [], mH S, 0, 0) Q := by
  unfold I54_4 at h
  by_cases h1 : (S.1 15) ≤ v3
  · rw [if_pos h1] at h
    refine mm_ev.go [true, true, true, true] (ps := [mm_cmp .ge v3 (S.1 15)]) (c1 := (34, [some (.ref 28), o1, some (.int v2), some (.int v3)], [], mH S, 0, 0)) rfl ⟨h1, trivial⟩ ?_
    cases h
    exact hc1 rfl (some (.ref 28)) o1 (some (.int v2)) (some (.int v3))
  · rw [if_neg h1] at h
    refine mm_ev.go [true, true, true, false] (ps := [¬ mm_cmp .ge v3 (S.1 15)]) (c1 := (12, [some (.ref 28), o1, some (.int v2), some (.int v3)], [], mH S, 0, 0)) rfl ⟨h1, trivial⟩ ?_
    by_cases h2 : (100 : Int32) ≤ v3
    · rw [if_pos h2] at h
      refine mm_ev.go [true, true, true] (ps := [mm_cmp .ge v3 (100 : Int32)]) (c1 := (34, [some (.ref 28), o1, some (.int v2), some (.int v3)], [], mH S, 0, 0)) rfl ⟨h2, trivial⟩ ?_
      cases h
      exact hc1 rfl (some (.ref 28)) o1 (some (.int v2)) (some (.int v3))
    · rw [if_neg h2] at h
      refine mm_ev.go [true, true, false] (ps := [¬ mm_cmp .ge v3 (100 : Int32)]) (c1 := (18, [some (.ref 28), o1, some (.int v2), some (.int v3)], [], mH S, 0, 0)) rfl ⟨h2, trivial⟩ ?_
      obtain ⟨h3, h⟩ := mb_i h
      refine mm_ev.go [true, true, true, true, true, true, true, true, true, true] (ps := [mm_in v3 100, mm_in v3 100]) (c1 := (4, [some (.ref 28), o1, some (.int v2), some (.int (v3 + (1 : Int32)))], [], mH (S.1, (va_up S.2.1 31 (upd (S.2.1 31) v3.toNatClampNeg ((S.2.1 31 v3.toNatClampNeg) + v2))), S.2.2), 0, 0)) rfl ⟨h3, h3, trivial⟩ ?_
      cases h
      exact hc0 rfl o1
def L54_4 : Nat → mSt → Int32 → Int32 → Option (Nat × mSt × Int32 × Int32)
  | 0, _, _, _ => none
  | n + 1, S, v2, v3 => (I54_4 S v2 v3).bind fun r => if r.1 = 0 then L54_4 n r.2.1 r.2.2.1 r.2.2.2 else some r
set_option maxRecDepth 100000 in
set_option maxHeartbeats 4000000 in
theorem L54_4_ok {sc : mS} (d : Nat) {n : Nat} {S : mSt} {v2 v3 : Int32} {r : Nat × mSt × Int32 × Int32} (h : L54_4 n S v2 v3 = some r) (o1 : Option Value) {Q : mR → List mE → Prop} (hc1 : r.1 = 1 → ∀ u0 : Option Value, ∀ u1 : Option Value, ∀ u2 : Option Value, ∀ u3 : Option Value, mm_ev sc mmK mmP (d + 0) 54 (34, [u0, u1, u2, u3], [], mH r.2.1, 0, 0) Q) : mm_ev sc mmK mmP (d + 0) 54 (4, [some (.ref 28), o1, some (.int v2), some (.int v3)], [], mH S, 0, 0) Q := by
  induction n generalizing S v2 v3 o1 with
  | zero => cases h
  | succ n ih =>
    unfold L54_4 at h
    obtain ⟨r1, h1, h⟩ := mb_b h
    by_cases h0 : r1.1 = 0
    · rw [if_pos h0] at h
      refine I54_4_ok d h1 o1 (fun _ z0 => ih h z0) (fun z => absurd z (by omega))
    · rw [if_neg h0] at h
      cases h
      exact I54_4_ok d h1 o1 (fun z => absurd z h0) hc1
/-- SlabPatterns$Strips.moveBehind -/
def F54 (n : Nat) (S : mSt) (a0 a1 : Int32) : Option (mSt) := (L54_4 n S a1 (a0 + (1 : Int32))).bind fun r4 => (some r4.2.1)
set_option maxRecDepth 100000 in
set_option maxHeartbeats 4000000 in
theorem F54_ok {sc : mS} (d : Nat) {n : Nat} {S : mSt} {a0 a1 : Int32} {r : mSt} (h : F54 n S a0 a1 = some r) : mm_ev sc mmK mmP (d + 0) 54 (0, mm_en 4 [.ref 28, .int a0, .int a1], [], mH S, 0, 0) (mm_is (.inl none) (mH r)) := by
  unfold F54 at h
  refine mm_ev.to (c := (0, [some (.ref 28), some (.int a0), some (.int a1), none], [], mH S, 0, 0)) rfl ?_
  refine mm_ev.go [true, true, true, true] (ps := []) (c1 := (4, [some (.ref 28), some (.int a0), some (.int a1), some (.int (a0 + (1 : Int32)))], [], mH S, 0, 0)) rfl trivial ?_
  obtain ⟨r4, h5, h⟩ := mb_b h
  refine L54_4_ok d h5 (some (.int a0)) ?_
  · intro h6 o1_0 o1_1 o1_2 o1_3
    cases h
    exact mm_ev.ret (q := mq54) (b := (34, .return_, 1, 3, 0, 0, 0, 0, [])) rfl rfl rfl ⟨Nat.le_of_ble_eq_true rfl, Nat.le_of_ble_eq_true rfl⟩ trivial ⟨rfl, rfl⟩
def I55_5 (S : mSt) (v1 v2 v3 v4 : Int32) : Option (Nat × Int32 × Int32 × Int32 × Int32) := if v2 ≤ v4 then (some (1, 0, 0, v3, 0)) else (if (100 : Int32) ≤ v4 then (some (1, 0, 0, v3, 0)) else (if 0 ≤ v4 ∧ v4.toNatClampNeg < 100 then if (S.2.1 29 v4.toNatClampNeg) = v1 then (some (0, v1, v2, v3 + (S.2.1 33 v4.toNatClampNeg), v4 + (1 : Int32))) else (some (0, v1, v2, v3, v4 + (1 : Int32))) else none))
set_option maxRecDepth 100000 in
set_option maxHeartbeats 4000000 in
theorem I55_5_ok {sc : mS} (d : Nat) {S : mSt} {v1 v2 v3 v4 : Int32} {r : Nat × Int32 × Int32 × Int32 × Int32} (h : I55_5 S v1 v2 v3 v4 = some r) {Q : mR → List mE → Prop} (hc0 : r.1 = 0 → mm_ev sc mmK mmP (d + 0) 55 (5, [some (.ref 28), some (.int r.2.1), some (.int r.2.2.1), some (.int r.2.2.2.1), some (.int r.2.2.2.2)], [], mH S, 0, 0) Q) (hc1 : r.1 = 1 → ∀ u0 : Option Value, ∀ u1 : Option Value, ∀ u2 : Option Value, ∀ u4 : Option Value, mm_ev sc mmK mmP (d + 0) 55 (45, [u0, u1, u2, some (.int r.2.2.2.1), u4], [], mH S, 0, 0) Q) : mm_ev sc mmK mmP (d + 0) 55 (5, [some (.ref 28), some (.int v1), some (.int v2), some (.int v3), some (.int v4)], [], mH S, 0, 0) Q := by
  unfold I55_5 at h
  by_cases h1 : v2 ≤ v4
  · rw [if_pos h1] at h
    refine mm_ev.go [true, true, true] (ps := [mm_cmp .ge v4 v2]) (c1 := (45, [some (.ref 28), some (.int v1), some (.int v2), some (.int v3), some (.int v4)], [], mH S, 0, 0)) rfl ⟨h1, trivial⟩ ?_
    cases h
    exact hc1 rfl (some (.ref 28)) (some (.int v1)) (some (.int v2)) (some (.int v4))
  · rw [if_neg h1] at h
    refine mm_ev.go [true, true, false] (ps := [¬ mm_cmp .ge v4 v2]) (c1 := (11, [some (.ref 28), some (.int v1), some (.int v2), some (.int v3), some (.int v4)], [], mH S, 0, 0)) rfl ⟨h1, trivial⟩ ?_
    by_cases h2 : (100 : Int32) ≤ v4
    · rw [if_pos h2] at h
      refine mm_ev.go [true, true, true] (ps := [mm_cmp .ge v4 (100 : Int32)]) (c1 := (45, [some (.ref 28), some (.int v1), some (.int v2), some (.int v3), some (.int v4)], [], mH S, 0, 0)) rfl ⟨h2, trivial⟩ ?_
      cases h
      exact hc1 rfl (some (.ref 28)) (some (.int v1)) (some (.int v2)) (some (.int v4))
    · rw [if_neg h2] at h
      refine mm_ev.go [true, true, false] (ps := [¬ mm_cmp .ge v4 (100 : Int32)]) (c1 := (18, [some (.ref 28), some (.int v1), some (.int v2), some (.int v3), some (.int v4)], [], mH S, 0, 0)) rfl ⟨h2, trivial⟩ ?_
      obtain ⟨h3, h⟩ := mb_i h
      by_cases h4 : (S.2.1 29 v4.toNatClampNeg) = v1
      · rw [if_pos h4] at h
        refine mm_ev.go [true, true, true, true, true, false] (ps := [mm_in v4 100, ¬ mm_cmp .ne (S.2.1 29 v4.toNatClampNeg) v1]) (c1 := (29, [some (.ref 28), some (.int v1), some (.int v2), some (.int v3), some (.int v4)], [], mH S, 0, 0)) rfl ⟨h3, (fun z => z h4), trivial⟩ ?_
        refine mm_ev.go [true, true, true, true, true, true, true, true, true] (ps := [mm_in v4 100]) (c1 := (5, [some (.ref 28), some (.int v1), some (.int v2), some (.int (v3 + (S.2.1 33 v4.toNatClampNeg))), some (.int (v4 + (1 : Int32)))], [], mH S, 0, 0)) rfl ⟨h3, trivial⟩ ?_
        cases h
        exact hc0 rfl
      · rw [if_neg h4] at h
        refine mm_ev.go [true, true, true, true, true, true] (ps := [mm_in v4 100, mm_cmp .ne (S.2.1 29 v4.toNatClampNeg) v1]) (c1 := (39, [some (.ref 28), some (.int v1), some (.int v2), some (.int v3), some (.int v4)], [], mH S, 0, 0)) rfl ⟨h3, h4, trivial⟩ ?_
        refine mm_ev.go [true, true] (ps := []) (c1 := (5, [some (.ref 28), some (.int v1), some (.int v2), some (.int v3), some (.int (v4 + (1 : Int32)))], [], mH S, 0, 0)) rfl trivial ?_
        cases h
        exact hc0 rfl
def L55_5 : Nat → mSt → Int32 → Int32 → Int32 → Int32 → Option (Nat × Int32 × Int32 × Int32 × Int32)
  | 0, _, _, _, _, _ => none
  | n + 1, S, v1, v2, v3, v4 => (I55_5 S v1 v2 v3 v4).bind fun r => if r.1 = 0 then L55_5 n S r.2.1 r.2.2.1 r.2.2.2.1 r.2.2.2.2 else some r
set_option maxRecDepth 100000 in
set_option maxHeartbeats 4000000 in
theorem L55_5_ok {sc : mS} (d : Nat) {n : Nat} {S : mSt} {v1 v2 v3 v4 : Int32} {r : Nat × Int32 × Int32 × Int32 × Int32} (h : L55_5 n S v1 v2 v3 v4 = some r) {Q : mR → List mE → Prop} (hc1 : r.1 = 1 → ∀ u0 : Option Value, ∀ u1 : Option Value, ∀ u2 : Option Value, ∀ u4 : Option Value, mm_ev sc mmK mmP (d + 0) 55 (45, [u0, u1, u2, some (.int r.2.2.2.1), u4], [], mH S, 0, 0) Q) : mm_ev sc mmK mmP (d + 0) 55 (5, [some (.ref 28), some (.int v1), some (.int v2), some (.int v3), some (.int v4)], [], mH S, 0, 0) Q := by
  induction n generalizing v1 v2 v3 v4 with
  | zero => cases h
  | succ n ih =>
    unfold L55_5 at h
    obtain ⟨r1, h1, h⟩ := mb_b h
    by_cases h0 : r1.1 = 0
    · rw [if_pos h0] at h
      refine I55_5_ok d h1 (fun _ => ih h) (fun z => absurd z (by omega))
    · rw [if_neg h0] at h
      cases h
      exact I55_5_ok d h1 (fun z => absurd z h0) hc1
/-- SlabPatterns$Strips.copiesOf -/
def F55 (n : Nat) (S : mSt) (a0 a1 : Int32) : Option (Int32) := (L55_5 n S a0 a1 (0 : Int32) (0 : Int32)).bind fun r5 => (some r5.2.2.2.1)
set_option maxRecDepth 100000 in
set_option maxHeartbeats 4000000 in
theorem F55_ok {sc : mS} (d : Nat) {n : Nat} {S : mSt} {a0 a1 : Int32} {r : Int32} (h : F55 n S a0 a1 = some r) : mm_ev sc mmK mmP (d + 0) 55 (0, mm_en 5 [.ref 28, .int a0, .int a1], [], mH S, 0, 0) (mm_is (.inl (some (.int r))) (mH S)) := by
  unfold F55 at h
  refine mm_ev.to (c := (0, [some (.ref 28), some (.int a0), some (.int a1), none, none], [], mH S, 0, 0)) rfl ?_
  refine mm_ev.go [true, true, true, true] (ps := []) (c1 := (5, [some (.ref 28), some (.int a0), some (.int a1), some (.int (0 : Int32)), some (.int (0 : Int32))], [], mH S, 0, 0)) rfl trivial ?_
  obtain ⟨r5, h6, h⟩ := mb_b h
  refine L55_5_ok d h6 ?_
  · intro h7 o1_0 o1_1 o1_2 o1_4
    refine mm_ev.go [true] (ps := []) (c1 := (46, [o1_0, o1_1, o1_2, some (.int r5.2.2.2.1), o1_4], [.int r5.2.2.2.1], mH S, 0, 0)) rfl trivial ?_
    cases h
    exact mm_ev.ret (q := mq55) (b := (46, .ireturn, 1, 3, 0, 0, 0, 0, [])) rfl rfl rfl ⟨Nat.le_of_ble_eq_true rfl, Nat.le_of_ble_eq_true rfl⟩ trivial ⟨rfl, rfl⟩
/-- SlabPatternsModel.thrown -/
def F58 (S : mSt) : Option (Int32) := some (S.1 16)
set_option maxRecDepth 100000 in
set_option maxHeartbeats 4000000 in
theorem F58_ok {sc : mS} (d : Nat) {S : mSt} {r : Int32} (h : F58 S = some r) : mm_ev sc mmK mmP (d + 0) 58 (0, mm_en 1 [.ref 34], [], mH S, 0, 0) (mm_is (.inl (some (.int r))) (mH S)) := by
  unfold F58 at h
  refine mm_ev.to (c := (0, [some (.ref 34)], [], mH S, 0, 0)) rfl ?_
  refine mm_ev.go [true, true] (ps := []) (c1 := (4, [some (.ref 34)], [.int (S.1 16)], mH S, 0, 0)) rfl trivial ?_
  cases h
  exact mm_ev.ret (q := mq58) (b := (4, .ireturn, 1, 3, 0, 0, 0, 0, [])) rfl rfl rfl ⟨Nat.le_of_ble_eq_true rfl, Nat.le_of_ble_eq_true rfl⟩ trivial ⟨rfl, rfl⟩
/-- SlabPatternsModel.in -/
def F61 (S : mSt) (a0 a1 a2 : Int32) : Option (Int32) := if a0 < a1 then (some ((0 : Int32))) else (if a2 < a0 then (some ((0 : Int32))) else (some ((1 : Int32))))
set_option maxRecDepth 100000 in
set_option maxHeartbeats 4000000 in
theorem F61_ok {sc : mS} (d : Nat) {S : mSt} {a0 a1 a2 : Int32} {r : Int32} (h : F61 S a0 a1 a2 = some r) : mm_ev sc mmK mmP (d + 0) 61 (0, mm_en 3 [.int a0, .int a1, .int a2], [], mH S, 0, 0) (mm_is (.inl (some (.int r))) (mH S)) := by
  unfold F61 at h
  refine mm_ev.to (c := (0, [some (.int a0), some (.int a1), some (.int a2)], [], mH S, 0, 0)) rfl ?_
  by_cases h1 : a0 < a1
  · rw [if_pos h1] at h
    refine mm_ev.go [true, true, true] (ps := [mm_cmp .lt a0 a1]) (c1 := (14, [some (.int a0), some (.int a1), some (.int a2)], [], mH S, 0, 0)) rfl ⟨h1, trivial⟩ ?_
    refine mm_ev.go [true] (ps := []) (c1 := (15, [some (.int a0), some (.int a1), some (.int a2)], [.int (0 : Int32)], mH S, 0, 0)) rfl trivial ?_
    cases h
    exact mm_ev.ret (q := mq61) (b := (15, .ireturn, 1, 3, 0, 0, 0, 0, [])) rfl rfl rfl ⟨Nat.le_of_ble_eq_true rfl, Nat.le_of_ble_eq_true rfl⟩ ⟨by first | exact Or.inl rfl | exact Or.inr rfl, trivial⟩ ⟨rfl, rfl⟩
  · rw [if_neg h1] at h
    refine mm_ev.go [true, true, false] (ps := [¬ mm_cmp .lt a0 a1]) (c1 := (5, [some (.int a0), some (.int a1), some (.int a2)], [], mH S, 0, 0)) rfl ⟨h1, trivial⟩ ?_
    by_cases h2 : a2 < a0
    · rw [if_pos h2] at h
      refine mm_ev.go [true, true, true] (ps := [mm_cmp .gt a0 a2]) (c1 := (14, [some (.int a0), some (.int a1), some (.int a2)], [], mH S, 0, 0)) rfl ⟨h2, trivial⟩ ?_
      refine mm_ev.go [true] (ps := []) (c1 := (15, [some (.int a0), some (.int a1), some (.int a2)], [.int (0 : Int32)], mH S, 0, 0)) rfl trivial ?_
      cases h
      exact mm_ev.ret (q := mq61) (b := (15, .ireturn, 1, 3, 0, 0, 0, 0, [])) rfl rfl rfl ⟨Nat.le_of_ble_eq_true rfl, Nat.le_of_ble_eq_true rfl⟩ ⟨by first | exact Or.inl rfl | exact Or.inr rfl, trivial⟩ ⟨rfl, rfl⟩
    · rw [if_neg h2] at h
      refine mm_ev.go [true, true, false] (ps := [¬ mm_cmp .gt a0 a2]) (c1 := (10, [some (.int a0), some (.int a1), some (.int a2)], [], mH S, 0, 0)) rfl ⟨h2, trivial⟩ ?_
      refine mm_ev.go [true, true] (ps := []) (c1 := (15, [some (.int a0), some (.int a1), some (.int a2)], [.int (1 : Int32)], mH S, 0, 0)) rfl trivial ?_
      cases h
      exact mm_ev.ret (q := mq61) (b := (15, .ireturn, 1, 3, 0, 0, 0, 0, [])) rfl rfl rfl ⟨Nat.le_of_ble_eq_true rfl, Nat.le_of_ble_eq_true rfl⟩ ⟨by first | exact Or.inl rfl | exact Or.inr rfl, trivial⟩ ⟨rfl, rfl⟩
/-- SlabPatternsModel.goes -/
def F62 (S : mSt) (a0 a1 a2 : Int32) : Option (Int32 × mSt) := if a0 = (0 : Int32) then (some (((0 : Int32), ((va_up S.1 16 (1 : Int32)), S.2.1, S.2.2)))) else (if a1 = (0 : Int32) then (some (((0 : Int32), ((va_up S.1 16 (2 : Int32)), S.2.1, S.2.2)))) else (if a2 = (0 : Int32) then (some (((0 : Int32), ((va_up S.1 16 (3 : Int32)), S.2.1, S.2.2)))) else (some (((1 : Int32), ((va_up S.1 16 (0 : Int32)), S.2.1, S.2.2))))))
set_option maxRecDepth 100000 in
set_option maxHeartbeats 4000000 in
theorem F62_ok {sc : mS} (d : Nat) {S : mSt} {a0 a1 a2 : Int32} {r : Int32 × mSt} (h : F62 S a0 a1 a2 = some r) : mm_ev sc mmK mmP (d + 0) 62 (0, mm_en 4 [.ref 34, .int a0, .int a1, .int a2], [], mH S, 0, 0) (mm_is (.inl (some (.int r.1))) (mH r.2)) := by
  unfold F62 at h
  refine mm_ev.to (c := (0, [some (.ref 34), some (.int a0), some (.int a1), some (.int a2)], [], mH S, 0, 0)) rfl ?_
  by_cases h1 : a0 = (0 : Int32)
  · rw [if_pos h1] at h
    refine mm_ev.go [true, true, false] (ps := [¬ mm_cmp .ne a0 (0 : Int32)]) (c1 := (5, [some (.ref 34), some (.int a0), some (.int a1), some (.int a2)], [.ref 34], mH S, 0, 0)) rfl ⟨(fun z => z h1), trivial⟩ ?_
    refine mm_ev.go [true, true, true, true, true, true, true] (ps := [_, _, mm_cmp .ne (1 : Int32) (0 : Int32)]) (c1 := (41, [some (.ref 34), some (.int a0), some (.int a1), some (.int a2)], [.int (0 : Int32)], mH ((va_up S.1 16 (1 : Int32)), S.2.1, S.2.2), 0, 0)) rfl ⟨trivial, (Nat.le_of_ble_eq_true rfl), (show ¬ (1 : Int32) = (0 : Int32) from by decide), trivial⟩ ?_
    cases h
    exact mm_ev.ret (q := mq62) (b := (41, .ireturn, 1, 3, 0, 0, 0, 0, [])) rfl rfl rfl ⟨Nat.le_of_ble_eq_true rfl, Nat.le_of_ble_eq_true rfl⟩ ⟨by first | exact Or.inl rfl | exact Or.inr rfl, trivial⟩ ⟨rfl, rfl⟩
  · rw [if_neg h1] at h
    refine mm_ev.go [true, true, true] (ps := [mm_cmp .ne a0 (0 : Int32)]) (c1 := (9, [some (.ref 34), some (.int a0), some (.int a1), some (.int a2)], [.ref 34], mH S, 0, 0)) rfl ⟨h1, trivial⟩ ?_
    by_cases h2 : a1 = (0 : Int32)
    · rw [if_pos h2] at h
      refine mm_ev.go [true, false] (ps := [¬ mm_cmp .ne a1 (0 : Int32)]) (c1 := (13, [some (.ref 34), some (.int a0), some (.int a1), some (.int a2)], [.ref 34], mH S, 0, 0)) rfl ⟨(fun z => z h2), trivial⟩ ?_
      refine mm_ev.go [true, true, true, true, true, true, true] (ps := [_, _, mm_cmp .ne (2 : Int32) (0 : Int32)]) (c1 := (41, [some (.ref 34), some (.int a0), some (.int a1), some (.int a2)], [.int (0 : Int32)], mH ((va_up S.1 16 (2 : Int32)), S.2.1, S.2.2), 0, 0)) rfl ⟨trivial, (Nat.le_of_ble_eq_true rfl), (show ¬ (2 : Int32) = (0 : Int32) from by decide), trivial⟩ ?_
      cases h
      exact mm_ev.ret (q := mq62) (b := (41, .ireturn, 1, 3, 0, 0, 0, 0, [])) rfl rfl rfl ⟨Nat.le_of_ble_eq_true rfl, Nat.le_of_ble_eq_true rfl⟩ ⟨by first | exact Or.inl rfl | exact Or.inr rfl, trivial⟩ ⟨rfl, rfl⟩
    · rw [if_neg h2] at h
      refine mm_ev.go [true, true] (ps := [mm_cmp .ne a1 (0 : Int32)]) (c1 := (17, [some (.ref 34), some (.int a0), some (.int a1), some (.int a2)], [.ref 34], mH S, 0, 0)) rfl ⟨h2, trivial⟩ ?_
      by_cases h3 : a2 = (0 : Int32)
      · rw [if_pos h3] at h
        refine mm_ev.go [true, false] (ps := [¬ mm_cmp .ne a2 (0 : Int32)]) (c1 := (21, [some (.ref 34), some (.int a0), some (.int a1), some (.int a2)], [.ref 34], mH S, 0, 0)) rfl ⟨(fun z => z h3), trivial⟩ ?_
        refine mm_ev.go [true, true, true, true, true, true, true] (ps := [_, _, mm_cmp .ne (3 : Int32) (0 : Int32)]) (c1 := (41, [some (.ref 34), some (.int a0), some (.int a1), some (.int a2)], [.int (0 : Int32)], mH ((va_up S.1 16 (3 : Int32)), S.2.1, S.2.2), 0, 0)) rfl ⟨trivial, (Nat.le_of_ble_eq_true rfl), (show ¬ (3 : Int32) = (0 : Int32) from by decide), trivial⟩ ?_
        cases h
        exact mm_ev.ret (q := mq62) (b := (41, .ireturn, 1, 3, 0, 0, 0, 0, [])) rfl rfl rfl ⟨Nat.le_of_ble_eq_true rfl, Nat.le_of_ble_eq_true rfl⟩ ⟨by first | exact Or.inl rfl | exact Or.inr rfl, trivial⟩ ⟨rfl, rfl⟩
      · rw [if_neg h3] at h
        refine mm_ev.go [true, true] (ps := [mm_cmp .ne a2 (0 : Int32)]) (c1 := (25, [some (.ref 34), some (.int a0), some (.int a1), some (.int a2)], [.ref 34], mH S, 0, 0)) rfl ⟨h3, trivial⟩ ?_
        refine mm_ev.go [true, true, true, true, false, true, true] (ps := [_, _, ¬ mm_cmp .ne (0 : Int32) (0 : Int32)]) (c1 := (41, [some (.ref 34), some (.int a0), some (.int a1), some (.int a2)], [.int (1 : Int32)], mH ((va_up S.1 16 (0 : Int32)), S.2.1, S.2.2), 0, 0)) rfl ⟨trivial, (Nat.le_of_ble_eq_true rfl), (show ¬ (¬ (0 : Int32) = (0 : Int32)) from by decide), trivial⟩ ?_
        cases h
        exact mm_ev.ret (q := mq62) (b := (41, .ireturn, 1, 3, 0, 0, 0, 0, [])) rfl rfl rfl ⟨Nat.le_of_ble_eq_true rfl, Nat.le_of_ble_eq_true rfl⟩ ⟨by first | exact Or.inl rfl | exact Or.inr rfl, trivial⟩ ⟨rfl, rfl⟩
