/-! methods as functions of the state (0) -/
/-- SlabPatterns.forgetPattern -/
def F3 (S : mSt) : Option (mSt) := some (((va_up (va_up (va_up S.1 0 (0 : Int32)) 1 (0 : Int32)) 15 (0 : Int32)), S.2.1, S.2.2))
set_option maxRecDepth 100000 in
set_option maxHeartbeats 4000000 in
theorem F3_ok {sc : mS} (d : Nat) {S : mSt} {r : mSt} (h : F3 S = some r) : mm_ev sc mmK mmP (d + 0) 3 (0, mm_en 1 [.ref 0], [], mH S, 0, 0) (mm_is (.inl none) (mH r)) := by
  unfold F3 at h
  refine mm_ev.to (c := (0, [some (.ref 0)], [], mH S, 0, 0)) rfl ?_
  refine mm_ev.go [true, true, true, true, true, true, true, true, true, true] (ps := [_, _, _, _, _, _]) (c1 := (18, [some (.ref 0)], [], mH ((va_up (va_up (va_up S.1 0 (0 : Int32)) 1 (0 : Int32)) 15 (0 : Int32)), S.2.1, S.2.2), 0, 0)) rfl ⟨(by first | exact Or.inl rfl | exact Or.inr rfl), (Nat.le_of_ble_eq_true rfl), (by first | exact Or.inl rfl | exact Or.inr rfl), (Nat.le_of_ble_eq_true rfl), trivial, (Nat.le_of_ble_eq_true rfl), trivial⟩ ?_
  cases h
  exact mm_ev.ret (q := mq3) (b := (18, .return_, 1, 3, 0, 0, 0, 0, [])) rfl rfl rfl ⟨Nat.le_of_ble_eq_true rfl, Nat.le_of_ble_eq_true rfl⟩ trivial ⟨rfl, rfl⟩
/-- SlabPatterns.isOutside -/
def F6 (S : mSt) (a0 a1 a2 : Int32) : Option (Int32) := if a0 < a1 then (some ((1 : Int32))) else (if a0 ≤ a2 then (some ((0 : Int32))) else (some ((1 : Int32))))
set_option maxRecDepth 100000 in
set_option maxHeartbeats 4000000 in
theorem F6_ok {sc : mS} (d : Nat) {S : mSt} {a0 a1 a2 : Int32} {r : Int32} (h : F6 S a0 a1 a2 = some r) : mm_ev sc mmK mmP (d + 0) 6 (0, mm_en 3 [.int a0, .int a1, .int a2], [], mH S, 0, 0) (mm_is (.inl (some (.int r))) (mH S)) := by
  unfold F6 at h
  refine mm_ev.to (c := (0, [some (.int a0), some (.int a1), some (.int a2)], [], mH S, 0, 0)) rfl ?_
  by_cases h1 : a0 < a1
  · rw [if_pos h1] at h
    refine mm_ev.go [true, true, true] (ps := [mm_cmp .lt a0 a1]) (c1 := (10, [some (.int a0), some (.int a1), some (.int a2)], [], mH S, 0, 0)) rfl ⟨h1, trivial⟩ ?_
    refine mm_ev.go [true, true] (ps := []) (c1 := (15, [some (.int a0), some (.int a1), some (.int a2)], [.int (1 : Int32)], mH S, 0, 0)) rfl trivial ?_
    cases h
    exact mm_ev.ret (q := mq6) (b := (15, .ireturn, 1, 3, 0, 0, 0, 0, [])) rfl rfl rfl ⟨Nat.le_of_ble_eq_true rfl, Nat.le_of_ble_eq_true rfl⟩ ⟨by first | exact Or.inl rfl | exact Or.inr rfl, trivial⟩ ⟨rfl, rfl⟩
  · rw [if_neg h1] at h
    refine mm_ev.go [true, true, false] (ps := [¬ mm_cmp .lt a0 a1]) (c1 := (5, [some (.int a0), some (.int a1), some (.int a2)], [], mH S, 0, 0)) rfl ⟨h1, trivial⟩ ?_
    by_cases h2 : a0 ≤ a2
    · rw [if_pos h2] at h
      refine mm_ev.go [true, true, true] (ps := [mm_cmp .le a0 a2]) (c1 := (14, [some (.int a0), some (.int a1), some (.int a2)], [], mH S, 0, 0)) rfl ⟨h2, trivial⟩ ?_
      refine mm_ev.go [true] (ps := []) (c1 := (15, [some (.int a0), some (.int a1), some (.int a2)], [.int (0 : Int32)], mH S, 0, 0)) rfl trivial ?_
      cases h
      exact mm_ev.ret (q := mq6) (b := (15, .ireturn, 1, 3, 0, 0, 0, 0, [])) rfl rfl rfl ⟨Nat.le_of_ble_eq_true rfl, Nat.le_of_ble_eq_true rfl⟩ ⟨by first | exact Or.inl rfl | exact Or.inr rfl, trivial⟩ ⟨rfl, rfl⟩
    · rw [if_neg h2] at h
      refine mm_ev.go [true, true, false] (ps := [¬ mm_cmp .le a0 a2]) (c1 := (10, [some (.int a0), some (.int a1), some (.int a2)], [], mH S, 0, 0)) rfl ⟨h2, trivial⟩ ?_
      refine mm_ev.go [true, true] (ps := []) (c1 := (15, [some (.int a0), some (.int a1), some (.int a2)], [.int (1 : Int32)], mH S, 0, 0)) rfl trivial ?_
      cases h
      exact mm_ev.ret (q := mq6) (b := (15, .ireturn, 1, 3, 0, 0, 0, 0, [])) rfl rfl rfl ⟨Nat.le_of_ble_eq_true rfl, Nat.le_of_ble_eq_true rfl⟩ ⟨by first | exact Or.inl rfl | exact Or.inr rfl, trivial⟩ ⟨rfl, rfl⟩
/-- SlabPatterns.rules -/
def F9 (S : mSt) (a0 a1 a2 a3 a4 : Int32) : Option (Nat × mSt) := (F6 S a0 (1 : Int32) (2 : Int32)).bind fun r1 => (if r1 = (0 : Int32) then ((F6 S a1 (0 : Int32) (20 : Int32)).bind fun r4 => (if r4 = (0 : Int32) then ((F6 S a2 (0 : Int32) (200 : Int32)).bind fun r7 => (if r7 = (0 : Int32) then ((F6 S a3 (0 : Int32) (200 : Int32)).bind fun r10 => (if r10 = (0 : Int32) then ((F6 S a4 (0 : Int32) (200 : Int32)).bind fun r13 => (if r13 = (0 : Int32) then (some ((0, ((va_up (va_up (va_up (va_up (va_up S.1 5 a0) 6 a1) 7 a2) 8 a3) 9 a4), S.2.1, S.2.2)))) else (some ((1, S))))) else (some ((1, S))))) else (some ((1, S))))) else (some ((1, S))))) else (some ((1, S))))
set_option maxRecDepth 100000 in
set_option maxHeartbeats 4000000 in
theorem F9_ok {sc : mS} (d : Nat) {S : mSt} {a0 a1 a2 a3 a4 : Int32} {r : Nat × mSt} (h : F9 S a0 a1 a2 a3 a4 = some r) : mm_ev sc mmK mmP (d + 5) 9 (0, mm_en 6 [.ref 0, .int a0, .int a1, .int a2, .int a3, .int a4], [], mH S, 0, 0) (mm_is (if r.1 = 0 then .inl none else .inr (r.1 - 1)) (mH r.2)) := by
  unfold F9 at h
  refine mm_ev.to (c := (0, [some (.ref 0), some (.int a0), some (.int a1), some (.int a2), some (.int a3), some (.int a4)], [], mH S, 0, 0)) rfl ?_
  refine mm_ev.go [true, true, true] (ps := []) (c1 := (3, [some (.ref 0), some (.int a0), some (.int a1), some (.int a2), some (.int a3), some (.int a4)], [.int (2 : Int32), .int (1 : Int32), .int a0], mH S, 0, 0)) rfl trivial ?_
  obtain ⟨r1, h2, h⟩ := mb_b h
  refine mm_ev.call (q := mq9) (q2 := mq6) (b := (3, .invokestatic 47, 3, 2, 4, 6, 3, 0, [302, 300, 301, 48])) (as := [.int a0, .int (1 : Int32), .int (2 : Int32)]) (r := []) (v := (some (.int r1))) (h1 := mH S) rfl rfl rfl rfl ⟨Nat.le_of_ble_eq_true rfl, Nat.le_of_ble_eq_true rfl, Nat.le_of_ble_eq_true rfl⟩ (F6_ok (d + 4) h2) ?_
  refine mm_ev.to (c := (6, [some (.ref 0), some (.int a0), some (.int a1), some (.int a2), some (.int a3), some (.int a4)], [.int r1], mH S, 0, 0)) rfl ?_
  by_cases h3 : r1 = (0 : Int32)
  · rw [if_pos h3] at h
    refine mm_ev.go [false] (ps := [¬ mm_cmp .ne r1 (0 : Int32)]) (c1 := (9, [some (.ref 0), some (.int a0), some (.int a1), some (.int a2), some (.int a3), some (.int a4)], [], mH S, 0, 0)) rfl ⟨(fun z => z h3), trivial⟩ ?_
    refine mm_ev.go [true, true, true] (ps := []) (c1 := (13, [some (.ref 0), some (.int a0), some (.int a1), some (.int a2), some (.int a3), some (.int a4)], [.int (20 : Int32), .int (0 : Int32), .int a1], mH S, 0, 0)) rfl trivial ?_
    obtain ⟨r4, h5, h⟩ := mb_b h
    refine mm_ev.call (q := mq9) (q2 := mq6) (b := (13, .invokestatic 47, 3, 2, 4, 6, 3, 0, [302, 300, 301, 48])) (as := [.int a1, .int (0 : Int32), .int (20 : Int32)]) (r := []) (v := (some (.int r4))) (h1 := mH S) rfl rfl rfl rfl ⟨Nat.le_of_ble_eq_true rfl, Nat.le_of_ble_eq_true rfl, Nat.le_of_ble_eq_true rfl⟩ (F6_ok (d + 4) h5) ?_
    refine mm_ev.to (c := (16, [some (.ref 0), some (.int a0), some (.int a1), some (.int a2), some (.int a3), some (.int a4)], [.int r4], mH S, 0, 0)) rfl ?_
    by_cases h6 : r4 = (0 : Int32)
    · rw [if_pos h6] at h
      refine mm_ev.go [false] (ps := [¬ mm_cmp .ne r4 (0 : Int32)]) (c1 := (19, [some (.ref 0), some (.int a0), some (.int a1), some (.int a2), some (.int a3), some (.int a4)], [], mH S, 0, 0)) rfl ⟨(fun z => z h6), trivial⟩ ?_
      refine mm_ev.go [true, true, true] (ps := []) (c1 := (24, [some (.ref 0), some (.int a0), some (.int a1), some (.int a2), some (.int a3), some (.int a4)], [.int (200 : Int32), .int (0 : Int32), .int a2], mH S, 0, 0)) rfl trivial ?_
      obtain ⟨r7, h8, h⟩ := mb_b h
      refine mm_ev.call (q := mq9) (q2 := mq6) (b := (24, .invokestatic 47, 3, 2, 4, 6, 3, 0, [302, 300, 301, 48])) (as := [.int a2, .int (0 : Int32), .int (200 : Int32)]) (r := []) (v := (some (.int r7))) (h1 := mH S) rfl rfl rfl rfl ⟨Nat.le_of_ble_eq_true rfl, Nat.le_of_ble_eq_true rfl, Nat.le_of_ble_eq_true rfl⟩ (F6_ok (d + 4) h8) ?_
      refine mm_ev.to (c := (27, [some (.ref 0), some (.int a0), some (.int a1), some (.int a2), some (.int a3), some (.int a4)], [.int r7], mH S, 0, 0)) rfl ?_
      by_cases h9 : r7 = (0 : Int32)
      · rw [if_pos h9] at h
        refine mm_ev.go [false] (ps := [¬ mm_cmp .ne r7 (0 : Int32)]) (c1 := (30, [some (.ref 0), some (.int a0), some (.int a1), some (.int a2), some (.int a3), some (.int a4)], [], mH S, 0, 0)) rfl ⟨(fun z => z h9), trivial⟩ ?_
        refine mm_ev.go [true, true, true] (ps := []) (c1 := (36, [some (.ref 0), some (.int a0), some (.int a1), some (.int a2), some (.int a3), some (.int a4)], [.int (200 : Int32), .int (0 : Int32), .int a3], mH S, 0, 0)) rfl trivial ?_
        obtain ⟨r10, h11, h⟩ := mb_b h
        refine mm_ev.call (q := mq9) (q2 := mq6) (b := (36, .invokestatic 47, 3, 2, 4, 6, 3, 0, [302, 300, 301, 48])) (as := [.int a3, .int (0 : Int32), .int (200 : Int32)]) (r := []) (v := (some (.int r10))) (h1 := mH S) rfl rfl rfl rfl ⟨Nat.le_of_ble_eq_true rfl, Nat.le_of_ble_eq_true rfl, Nat.le_of_ble_eq_true rfl⟩ (F6_ok (d + 4) h11) ?_
        refine mm_ev.to (c := (39, [some (.ref 0), some (.int a0), some (.int a1), some (.int a2), some (.int a3), some (.int a4)], [.int r10], mH S, 0, 0)) rfl ?_
        by_cases h12 : r10 = (0 : Int32)
        · rw [if_pos h12] at h
          refine mm_ev.go [false] (ps := [¬ mm_cmp .ne r10 (0 : Int32)]) (c1 := (42, [some (.ref 0), some (.int a0), some (.int a1), some (.int a2), some (.int a3), some (.int a4)], [], mH S, 0, 0)) rfl ⟨(fun z => z h12), trivial⟩ ?_
          refine mm_ev.go [true, true, true] (ps := []) (c1 := (48, [some (.ref 0), some (.int a0), some (.int a1), some (.int a2), some (.int a3), some (.int a4)], [.int (200 : Int32), .int (0 : Int32), .int a4], mH S, 0, 0)) rfl trivial ?_
          obtain ⟨r13, h14, h⟩ := mb_b h
          refine mm_ev.call (q := mq9) (q2 := mq6) (b := (48, .invokestatic 47, 3, 2, 4, 6, 3, 0, [302, 300, 301, 48])) (as := [.int a4, .int (0 : Int32), .int (200 : Int32)]) (r := []) (v := (some (.int r13))) (h1 := mH S) rfl rfl rfl rfl ⟨Nat.le_of_ble_eq_true rfl, Nat.le_of_ble_eq_true rfl, Nat.le_of_ble_eq_true rfl⟩ (F6_ok (d + 4) h14) ?_
          refine mm_ev.to (c := (51, [some (.ref 0), some (.int a0), some (.int a1), some (.int a2), some (.int a3), some (.int a4)], [.int r13], mH S, 0, 0)) rfl ?_
          by_cases h15 : r13 = (0 : Int32)
          · rw [if_pos h15] at h
            refine mm_ev.go [true] (ps := [mm_cmp .eq r13 (0 : Int32)]) (c1 := (64, [some (.ref 0), some (.int a0), some (.int a1), some (.int a2), some (.int a3), some (.int a4)], [], mH S, 0, 0)) rfl ⟨h15, trivial⟩ ?_
            refine mm_ev.go [true, true, true, true, true, true, true, true, true, true, true, true, true, true, true, true, true, true, true, true] (ps := [_, _, _, _, _, _, _, _, _, _]) (c1 := (106, [some (.ref 0), some (.int a0), some (.int a1), some (.int a2), some (.int a3), some (.int a4)], [], mH ((va_up (va_up (va_up (va_up (va_up S.1 5 a0) 6 a1) 7 a2) 8 a3) 9 a4), S.2.1, S.2.2), 0, 0)) rfl ⟨trivial, (Nat.le_of_ble_eq_true rfl), trivial, (Nat.le_of_ble_eq_true rfl), trivial, (Nat.le_of_ble_eq_true rfl), trivial, (Nat.le_of_ble_eq_true rfl), trivial, (Nat.le_of_ble_eq_true rfl), trivial⟩ ?_
            cases h
            exact mm_ev.ret (q := mq9) (b := (106, .return_, 1, 3, 0, 0, 0, 0, [])) rfl rfl rfl ⟨Nat.le_of_ble_eq_true rfl, Nat.le_of_ble_eq_true rfl⟩ trivial ⟨rfl, rfl⟩
          · rw [if_neg h15] at h
            refine mm_ev.go [false] (ps := [¬ mm_cmp .eq r13 (0 : Int32)]) (c1 := (54, [some (.ref 0), some (.int a0), some (.int a1), some (.int a2), some (.int a3), some (.int a4)], [], mH S, 0, 0)) rfl ⟨h15, trivial⟩ ?_
            cases h
            exact mm_ev.thr (q := mq9) (b := (54, .new 51, 3, 4, 0, 0, 100, 55, [303, 58, 4])) rfl rfl ⟨by omega, Nat.le_of_ble_eq_true rfl, Nat.le_of_ble_eq_true rfl, rfl, Nat.le_of_ble_eq_true rfl⟩ ⟨rfl, rfl⟩
        · rw [if_neg h12] at h
          refine mm_ev.go [true] (ps := [mm_cmp .ne r10 (0 : Int32)]) (c1 := (54, [some (.ref 0), some (.int a0), some (.int a1), some (.int a2), some (.int a3), some (.int a4)], [], mH S, 0, 0)) rfl ⟨h12, trivial⟩ ?_
          cases h
          exact mm_ev.thr (q := mq9) (b := (54, .new 51, 3, 4, 0, 0, 100, 55, [303, 58, 4])) rfl rfl ⟨by omega, Nat.le_of_ble_eq_true rfl, Nat.le_of_ble_eq_true rfl, rfl, Nat.le_of_ble_eq_true rfl⟩ ⟨rfl, rfl⟩
      · rw [if_neg h9] at h
        refine mm_ev.go [true] (ps := [mm_cmp .ne r7 (0 : Int32)]) (c1 := (54, [some (.ref 0), some (.int a0), some (.int a1), some (.int a2), some (.int a3), some (.int a4)], [], mH S, 0, 0)) rfl ⟨h9, trivial⟩ ?_
        cases h
        exact mm_ev.thr (q := mq9) (b := (54, .new 51, 3, 4, 0, 0, 100, 55, [303, 58, 4])) rfl rfl ⟨by omega, Nat.le_of_ble_eq_true rfl, Nat.le_of_ble_eq_true rfl, rfl, Nat.le_of_ble_eq_true rfl⟩ ⟨rfl, rfl⟩
    · rw [if_neg h6] at h
      refine mm_ev.go [true] (ps := [mm_cmp .ne r4 (0 : Int32)]) (c1 := (54, [some (.ref 0), some (.int a0), some (.int a1), some (.int a2), some (.int a3), some (.int a4)], [], mH S, 0, 0)) rfl ⟨h6, trivial⟩ ?_
      cases h
      exact mm_ev.thr (q := mq9) (b := (54, .new 51, 3, 4, 0, 0, 100, 55, [303, 58, 4])) rfl rfl ⟨by omega, Nat.le_of_ble_eq_true rfl, Nat.le_of_ble_eq_true rfl, rfl, Nat.le_of_ble_eq_true rfl⟩ ⟨rfl, rfl⟩
  · rw [if_neg h3] at h
    refine mm_ev.go [true] (ps := [mm_cmp .ne r1 (0 : Int32)]) (c1 := (54, [some (.ref 0), some (.int a0), some (.int a1), some (.int a2), some (.int a3), some (.int a4)], [], mH S, 0, 0)) rfl ⟨h3, trivial⟩ ?_
    cases h
    exact mm_ev.thr (q := mq9) (b := (54, .new 51, 3, 4, 0, 0, 100, 55, [303, 58, 4])) rfl rfl ⟨by omega, Nat.le_of_ble_eq_true rfl, Nat.le_of_ble_eq_true rfl, rfl, Nat.le_of_ble_eq_true rfl⟩ ⟨rfl, rfl⟩
/-- SlabPatterns.requirePattern -/
def F13 (S : mSt) : Option (Nat) := if (S.1 0) = (0 : Int32) then (some 2) else (some 0)
set_option maxRecDepth 100000 in
set_option maxHeartbeats 4000000 in
theorem F13_ok {sc : mS} (d : Nat) {S : mSt} {r : Nat} (h : F13 S = some r) : mm_ev sc mmK mmP (d + 5) 13 (0, mm_en 1 [.ref 0], [], mH S, 0, 0) (mm_is (if r = 0 then .inl none else .inr (r - 1)) (mH S)) := by
  unfold F13 at h
  refine mm_ev.to (c := (0, [some (.ref 0)], [], mH S, 0, 0)) rfl ?_
  by_cases h1 : (S.1 0) = (0 : Int32)
  · rw [if_pos h1] at h
    refine mm_ev.go [true, true, false] (ps := [¬ mm_cmp .ne (S.1 0) (0 : Int32)]) (c1 := (7, [some (.ref 0)], [], mH S, 0, 0)) rfl ⟨(fun z => z h1), trivial⟩ ?_
    cases h
    exact mm_ev.thr (q := mq13) (b := (7, .new 188, 3, 4, 0, 1, 190, 192, [593, 62, 8])) rfl rfl ⟨by omega, Nat.le_of_ble_eq_true rfl, Nat.le_of_ble_eq_true rfl, rfl, Nat.le_of_ble_eq_true rfl⟩ ⟨rfl, rfl⟩
  · rw [if_neg h1] at h
    refine mm_ev.go [true, true, true] (ps := [mm_cmp .ne (S.1 0) (0 : Int32)]) (c1 := (17, [some (.ref 0)], [], mH S, 0, 0)) rfl ⟨h1, trivial⟩ ?_
    cases h
    exact mm_ev.ret (q := mq13) (b := (17, .return_, 1, 3, 0, 0, 0, 0, [])) rfl rfl rfl ⟨Nat.le_of_ble_eq_true rfl, Nat.le_of_ble_eq_true rfl⟩ trivial ⟨rfl, rfl⟩
/-- SlabPatterns.strips -/
def F14 (S : mSt) : Option (Nat × Int32) := (F13 S).bind fun r1 => if r1 = 0 then (some ((0, S.1 15))) else (some ((r1, 0)))
set_option maxRecDepth 100000 in
set_option maxHeartbeats 4000000 in
theorem F14_ok {sc : mS} (d : Nat) {S : mSt} {r : Nat × Int32} (h : F14 S = some r) : mm_ev sc mmK mmP (d + 6) 14 (0, mm_en 1 [.ref 0], [], mH S, 0, 0) (mm_is (if r.1 = 0 then .inl (some (.int r.2)) else .inr (r.1 - 1)) (mH S)) := by
  unfold F14 at h
  refine mm_ev.to (c := (0, [some (.ref 0)], [], mH S, 0, 0)) rfl ?_
  refine mm_ev.go [true] (ps := []) (c1 := (1, [some (.ref 0)], [.ref 0], mH S, 0, 0)) rfl trivial ?_
  obtain ⟨r1, h2, h⟩ := mb_b h
  have h4 := F13_ok (sc := sc) d h2
  by_cases h3 : r1 = 0
  · rw [if_pos h3] at h
    rw [if_pos h3] at h4
    refine mm_ev.call (q := mq14) (q2 := mq13) (b := (1, .invokevirtual 151, 3, 2, 6, 13, 1, 0, [592, 589, 591, 48, 33])) (as := [.ref 0]) (r := []) (v := none) (h1 := mH S) rfl rfl rfl rfl ⟨Nat.le_of_ble_eq_true rfl, Nat.le_of_ble_eq_true rfl, Nat.le_of_ble_eq_true rfl⟩ h4 ?_
    refine mm_ev.to (c := (4, [some (.ref 0)], [], mH S, 1, 6)) rfl ?_
    refine mm_ev.go [true, true, true] (ps := []) (c1 := (11, [some (.ref 0)], [.int (S.1 15)], mH S, 1, 6)) rfl trivial ?_
    cases h
    exact mm_ev.ret (q := mq14) (b := (11, .ireturn, 1, 3, 0, 0, 0, 0, [])) rfl rfl rfl ⟨Nat.le_of_ble_eq_true rfl, Nat.le_of_ble_eq_true rfl⟩ trivial ⟨rfl, rfl⟩
  · rw [if_neg h3] at h
    rw [if_neg h3] at h4
    cases h
    obtain ⟨z9, hz9⟩ : ∃ z, r1 = z + 1 := ⟨r1 - 1, by omega⟩
    exact mm_ev.callO (q := mq14) (q2 := mq13) (b := (1, .invokevirtual 151, 3, 2, 6, 13, 1, 0, [592, 589, 591, 48, 33])) (as := [.ref 0]) (r := []) rfl rfl rfl rfl rfl ⟨Nat.le_of_ble_eq_true rfl, Nat.le_of_ble_eq_true rfl, Nat.le_of_ble_eq_true rfl⟩ h4 rfl rfl ⟨by rw [if_neg h3], rfl⟩
def I21_49 (S : mSt) (v1 : Int32) : Option (Nat × mSt × Int32) := if (Int32.ofNat 201) ≤ v1 then (some (1, S, 0)) else (if 0 ≤ v1 ∧ v1.toNatClampNeg < 201 then some (0, (S.1, (va_up S.2.1 2 (upd (S.2.1 2) v1.toNatClampNeg (vp_nar .boolean (0 : Int32)))), S.2.2), v1 + (1 : Int32)) else none)
set_option maxRecDepth 100000 in
set_option maxHeartbeats 4000000 in
theorem I21_49_ok {sc : mS} (d : Nat) {S : mSt} {v1 : Int32} {r : Nat × mSt × Int32} (h : I21_49 S v1 = some r) {Q : mR → List mE → Prop} (hc0 : r.1 = 0 → mm_ev sc mmK mmP (d + 0) 21 (49, [some (.ref 1), some (.int r.2.2)], [], mH r.2.1, 0, 0) Q) (hc1 : r.1 = 1 → ∀ u0 : Option Value, ∀ u1 : Option Value, mm_ev sc mmK mmP (d + 0) 21 (71, [u0, u1], [], mH r.2.1, 0, 0) Q) : mm_ev sc mmK mmP (d + 0) 21 (49, [some (.ref 1), some (.int v1)], [], mH S, 0, 0) Q := by
  unfold I21_49 at h
  by_cases h1 : (Int32.ofNat 201) ≤ v1
  · rw [if_pos h1] at h
    refine mm_ev.go [true, true, true, true, true] (ps := [mm_cmp .ge v1 (Int32.ofNat 201)]) (c1 := (71, [some (.ref 1), some (.int v1)], [], mH S, 0, 0)) rfl ⟨h1, trivial⟩ ?_
    cases h
    exact hc1 rfl (some (.ref 1)) (some (.int v1))
  · rw [if_neg h1] at h
    refine mm_ev.go [true, true, true, true, false] (ps := [¬ mm_cmp .ge v1 (Int32.ofNat 201)]) (c1 := (58, [some (.ref 1), some (.int v1)], [], mH S, 0, 0)) rfl ⟨h1, trivial⟩ ?_
    obtain ⟨h2, h⟩ := mb_i h
    refine mm_ev.go [true, true, true, true, true, true, true] (ps := [mm_in v1 201]) (c1 := (49, [some (.ref 1), some (.int (v1 + (1 : Int32)))], [], mH (S.1, (va_up S.2.1 2 (upd (S.2.1 2) v1.toNatClampNeg (vp_nar .boolean (0 : Int32)))), S.2.2), 0, 0)) rfl ⟨h2, trivial⟩ ?_
    cases h
    exact hc0 rfl
def L21_49 : Nat → mSt → Int32 → Option (Nat × mSt × Int32)
  | 0, _, _ => none
  | n + 1, S, v1 => (I21_49 S v1).bind fun r => if r.1 = 0 then L21_49 n r.2.1 r.2.2 else some r
set_option maxRecDepth 100000 in
set_option maxHeartbeats 4000000 in
theorem L21_49_ok {sc : mS} (d : Nat) {n : Nat} {S : mSt} {v1 : Int32} {r : Nat × mSt × Int32} (h : L21_49 n S v1 = some r) {Q : mR → List mE → Prop} (hc1 : r.1 = 1 → ∀ u0 : Option Value, ∀ u1 : Option Value, mm_ev sc mmK mmP (d + 0) 21 (71, [u0, u1], [], mH r.2.1, 0, 0) Q) : mm_ev sc mmK mmP (d + 0) 21 (49, [some (.ref 1), some (.int v1)], [], mH S, 0, 0) Q := by
  induction n generalizing S v1 with
  | zero => cases h
  | succ n ih =>
    unfold L21_49 at h
    obtain ⟨r1, h1, h⟩ := mb_b h
    by_cases h0 : r1.1 = 0
    · rw [if_pos h0] at h
      refine I21_49_ok d h1 (fun _ => ih h) (fun z => absurd z (by omega))
    · rw [if_neg h0] at h
      cases h
      exact I21_49_ok d h1 (fun z => absurd z h0) hc1
/-- SlabPatterns$Slab.reset -/
def F21 (n : Nat) (S : mSt) : Option (mSt) := (L21_49 n ((va_up (va_up (va_up (va_up (va_up (va_up (va_up (va_up (va_up S.1 2 (1 : Int32)) 3 (1 : Int32)) 4 (0 : Int32)) 5 (2 : Int32)) 6 (20 : Int32)) 7 (0 : Int32)) 8 (0 : Int32)) 9 (10 : Int32)) 10 (0 : Int32)), S.2.1, S.2.2) (0 : Int32)).bind fun r3 => (some r3.2.1)
set_option maxRecDepth 100000 in
set_option maxHeartbeats 4000000 in
theorem F21_ok {sc : mS} (d : Nat) {n : Nat} {S : mSt} {r : mSt} (h : F21 n S = some r) : mm_ev sc mmK mmP (d + 0) 21 (0, mm_en 2 [.ref 1], [], mH S, 0, 0) (mm_is (.inl none) (mH r)) := by
  unfold F21 at h
  refine mm_ev.to (c := (0, [some (.ref 1), none], [], mH S, 0, 0)) rfl ?_
  refine mm_ev.go [true, true, true, true, true, true, true, true, true, true, true, true, true, true, true, true, true, true, true, true, true, true, true, true, true, true, true, true, true] (ps := [_, _, _, _, _, _, _, _, _, _, _, _, _, _, _, _, _, _]) (c1 := (49, [some (.ref 1), some (.int (0 : Int32))], [], mH ((va_up (va_up (va_up (va_up (va_up (va_up (va_up (va_up (va_up S.1 2 (1 : Int32)) 3 (1 : Int32)) 4 (0 : Int32)) 5 (2 : Int32)) 6 (20 : Int32)) 7 (0 : Int32)) 8 (0 : Int32)) 9 (10 : Int32)) 10 (0 : Int32)), S.2.1, S.2.2), 0, 0)) rfl ⟨trivial, (Nat.le_of_ble_eq_true rfl), trivial, (Nat.le_of_ble_eq_true rfl), trivial, (Nat.le_of_ble_eq_true rfl), trivial, (Nat.le_of_ble_eq_true rfl), trivial, (Nat.le_of_ble_eq_true rfl), trivial, (Nat.le_of_ble_eq_true rfl), trivial, (Nat.le_of_ble_eq_true rfl), trivial, (Nat.le_of_ble_eq_true rfl), trivial, (Nat.le_of_ble_eq_true rfl), trivial⟩ ?_
  obtain ⟨r3, h4, h⟩ := mb_b h
  refine L21_49_ok d h4 ?_
  · intro h5 o1_0 o1_1
    cases h
    exact mm_ev.ret (q := mq21) (b := (71, .return_, 1, 3, 0, 0, 0, 0, [])) rfl rfl rfl ⟨Nat.le_of_ble_eq_true rfl, Nat.le_of_ble_eq_true rfl⟩ trivial ⟨rfl, rfl⟩
def I22_8 (S : mSt) (v2 v3 : Int32) : Option (Nat × mSt × Int32 × Int32) := if v2 ≤ v3 then (some (1, S, 0, 0)) else (if (Int32.ofNat 201) ≤ v3 then (some (1, S, 0, 0)) else (if 0 ≤ v3 ∧ v3.toNatClampNeg < 201 then some (0, (S.1, (va_up S.2.1 2 (upd (S.2.1 2) v3.toNatClampNeg (vp_nar .boolean (1 : Int32)))), S.2.2), v2, v3 + (1 : Int32)) else none))
set_option maxRecDepth 100000 in
set_option maxHeartbeats 4000000 in
theorem I22_8_ok {sc : mS} (d : Nat) {S : mSt} {v2 v3 : Int32} {r : Nat × mSt × Int32 × Int32} (h : I22_8 S v2 v3 = some r) (o1 : Option Value) {Q : mR → List mE → Prop} (hc0 : r.1 = 0 → ∀ u1 : Option Value, mm_ev sc mmK mmP (d + 0) 22 (8, [some (.ref 1), u1, some (.int r.2.2.1), some (.int r.2.2.2)], [], mH r.2.1, 0, 0) Q) (hc1 : r.1 = 1 → ∀ u1 : Option Value, ∀ u2 : Option Value, ∀ u3 : Option Value, mm_ev sc mmK mmP (d + 0) 22 (35, [some (.ref 1), u1, u2, u3], [], mH r.2.1, 0, 0) Q) : mm_ev sc mmK mmP (d + 0) 22 (8, [some (.ref 1), o1, some (.int v2), some (.int v3)], [], mH S, 0, 0) Q := by
  unfold I22_8 at h
  by_cases h1 : v2 ≤ v3
  · rw [if_pos h1] at h
    refine mm_ev.go [true, true, true] (ps := [mm_cmp .ge v3 v2]) (c1 := (35, [some (.ref 1), o1, some (.int v2), some (.int v3)], [], mH S, 0, 0)) rfl ⟨h1, trivial⟩ ?_
    cases h
    exact hc1 rfl o1 (some (.int v2)) (some (.int v3))
  · rw [if_neg h1] at h
    refine mm_ev.go [true, true, false] (ps := [¬ mm_cmp .ge v3 v2]) (c1 := (13, [some (.ref 1), o1, some (.int v2), some (.int v3)], [], mH S, 0, 0)) rfl ⟨h1, trivial⟩ ?_
    by_cases h2 : (Int32.ofNat 201) ≤ v3
    · rw [if_pos h2] at h
      refine mm_ev.go [true, true, true, true, true] (ps := [mm_cmp .ge v3 (Int32.ofNat 201)]) (c1 := (35, [some (.ref 1), o1, some (.int v2), some (.int v3)], [], mH S, 0, 0)) rfl ⟨h2, trivial⟩ ?_
      cases h
      exact hc1 rfl o1 (some (.int v2)) (some (.int v3))
    · rw [if_neg h2] at h
      refine mm_ev.go [true, true, true, true, false] (ps := [¬ mm_cmp .ge v3 (Int32.ofNat 201)]) (c1 := (22, [some (.ref 1), o1, some (.int v2), some (.int v3)], [], mH S, 0, 0)) rfl ⟨h2, trivial⟩ ?_
      obtain ⟨h3, h⟩ := mb_i h
      refine mm_ev.go [true, true, true, true, true, true, true] (ps := [mm_in v3 201]) (c1 := (8, [some (.ref 1), o1, some (.int v2), some (.int (v3 + (1 : Int32)))], [], mH (S.1, (va_up S.2.1 2 (upd (S.2.1 2) v3.toNatClampNeg (vp_nar .boolean (1 : Int32)))), S.2.2), 0, 0)) rfl ⟨h3, trivial⟩ ?_
      cases h
      exact hc0 rfl o1
def L22_8 : Nat → mSt → Int32 → Int32 → Option (Nat × mSt × Int32 × Int32)
  | 0, _, _, _ => none
  | n + 1, S, v2, v3 => (I22_8 S v2 v3).bind fun r => if r.1 = 0 then L22_8 n r.2.1 r.2.2.1 r.2.2.2 else some r
set_option maxRecDepth 100000 in
set_option maxHeartbeats 4000000 in
theorem L22_8_ok {sc : mS} (d : Nat) {n : Nat} {S : mSt} {v2 v3 : Int32} {r : Nat × mSt × Int32 × Int32} (h : L22_8 n S v2 v3 = some r) (o1 : Option Value) {Q : mR → List mE → Prop} (hc1 : r.1 = 1 → ∀ u1 : Option Value, ∀ u2 : Option Value, ∀ u3 : Option Value, mm_ev sc mmK mmP (d + 0) 22 (35, [some (.ref 1), u1, u2, u3], [], mH r.2.1, 0, 0) Q) : mm_ev sc mmK mmP (d + 0) 22 (8, [some (.ref 1), o1, some (.int v2), some (.int v3)], [], mH S, 0, 0) Q := by
  induction n generalizing S v2 v3 o1 with
  | zero => cases h
  | succ n ih =>
    unfold L22_8 at h
    obtain ⟨r1, h1, h⟩ := mb_b h
    by_cases h0 : r1.1 = 0
    · rw [if_pos h0] at h
      refine I22_8_ok d h1 o1 (fun _ z0 => ih h z0) (fun z => absurd z (by omega))
    · rw [if_neg h0] at h
      cases h
      exact I22_8_ok d h1 o1 (fun z => absurd z h0) hc1
/-- SlabPatterns$Slab.addBar -/
def F22 (n : Nat) (S : mSt) (a0 a1 : Int32) : Option (Int32 × mSt) := (L22_8 n S a1 (if (0 : Int32) < a0 + (1 : Int32) then a0 + (1 : Int32) else (0 : Int32))).bind fun r4 => (some (((r4.2.1.1 10) + (1 : Int32), ((va_up r4.2.1.1 10 ((r4.2.1.1 10) + (1 : Int32))), r4.2.1.2.1, r4.2.1.2.2))))
set_option maxRecDepth 100000 in
set_option maxHeartbeats 4000000 in
theorem F22_ok {sc : mS} (d : Nat) {n : Nat} {S : mSt} {a0 a1 : Int32} {r : Int32 × mSt} (h : F22 n S a0 a1 = some r) : mm_ev sc mmK mmP (d + 0) 22 (0, mm_en 4 [.ref 1, .int a0, .int a1], [], mH S, 0, 0) (mm_is (.inl (some (.int r.1))) (mH r.2)) := by
  unfold F22 at h
  refine mm_ev.to (c := (0, [some (.ref 1), some (.int a0), some (.int a1), none], [], mH S, 0, 0)) rfl ?_
  refine mm_ev.go [true, true, true, true, true, true] (ps := [_, _]) (c1 := (8, [some (.ref 1), some (.int a0), some (.int a1), some (.int (if (0 : Int32) < a0 + (1 : Int32) then a0 + (1 : Int32) else (0 : Int32)))], [], mH S, 0, 0)) rfl ⟨(Nat.le_of_ble_eq_true rfl), (Nat.le_of_ble_eq_true rfl), trivial⟩ ?_
  obtain ⟨r4, h5, h⟩ := mb_b h
  refine L22_8_ok d h5 (some (.int a0)) ?_
  · intro h6 o1_1 o1_2 o1_3
    refine mm_ev.go [true, true, true, true, true, true, true, true] (ps := [_, _]) (c1 := (49, [some (.ref 1), o1_1, o1_2, o1_3], [.int ((r4.2.1.1 10) + (1 : Int32))], mH ((va_up r4.2.1.1 10 ((r4.2.1.1 10) + (1 : Int32))), r4.2.1.2.1, r4.2.1.2.2), 0, 0)) rfl ⟨trivial, (Nat.le_of_ble_eq_true rfl), trivial⟩ ?_
    cases h
    exact mm_ev.ret (q := mq22) (b := (49, .ireturn, 1, 3, 0, 0, 0, 0, [])) rfl rfl rfl ⟨Nat.le_of_ble_eq_true rfl, Nat.le_of_ble_eq_true rfl⟩ trivial ⟨rfl, rfl⟩
/-- SlabPatterns$Slab.mostAcross -/
def F23 (S : mSt) (a0 : Int32) : Option (Int32) := if (0 : Int32) < (a0 + (S.1 4)) then (if ¬ (a0 + (S.1 4)) = 0 then if (S.1 5) = (1 : Int32) then (some (if (1 : Int32) < ((S.1 3) + (S.1 4)) / (a0 + (S.1 4)) then (1 : Int32) else ((S.1 3) + (S.1 4)) / (a0 + (S.1 4)))) else (some (if (S.1 6) + (1 : Int32) < ((S.1 3) + (S.1 4)) / (a0 + (S.1 4)) then (S.1 6) + (1 : Int32) else ((S.1 3) + (S.1 4)) / (a0 + (S.1 4)))) else none) else (some ((0 : Int32)))
set_option maxRecDepth 100000 in
set_option maxHeartbeats 4000000 in
theorem F23_ok {sc : mS} (d : Nat) {S : mSt} {a0 : Int32} {r : Int32} (h : F23 S a0 = some r) : mm_ev sc mmK mmP (d + 0) 23 (0, mm_en 5 [.ref 1, .int a0], [], mH S, 0, 0) (mm_is (.inl (some (.int r))) (mH S)) := by
  unfold F23 at h
  refine mm_ev.to (c := (0, [some (.ref 1), some (.int a0), none, none, none], [], mH S, 0, 0)) rfl ?_
  by_cases h1 : (0 : Int32) < (a0 + (S.1 4))
  · rw [if_pos h1] at h
    refine mm_ev.go [true, true, true, true, true, true, true] (ps := [mm_cmp .gt (a0 + (S.1 4)) (0 : Int32)]) (c1 := (13, [some (.ref 1), some (.int a0), some (.int (a0 + (S.1 4))), none, none], [], mH S, 0, 0)) rfl ⟨h1, trivial⟩ ?_
    obtain ⟨h2, h⟩ := mb_i h
    by_cases h3 : (S.1 5) = (1 : Int32)
    · rw [if_pos h3] at h
      refine mm_ev.go [true, true, true, true, true, true, true, true, true, true, true, false] (ps := [¬ (a0 + (S.1 4)) = 0, ¬ mm_cmp .ne (S.1 5) (1 : Int32)]) (c1 := (33, [some (.ref 1), some (.int a0), some (.int (a0 + (S.1 4))), some (.int (((S.1 3) + (S.1 4)) / (a0 + (S.1 4)))), none], [], mH S, 0, 0)) rfl ⟨h2, (fun z => z h3), trivial⟩ ?_
      refine mm_ev.go [true, true, true, true, true, true] (ps := [_, _]) (c1 := (51, [some (.ref 1), some (.int a0), some (.int (a0 + (S.1 4))), some (.int (((S.1 3) + (S.1 4)) / (a0 + (S.1 4)))), some (.int (1 : Int32))], [.int (if (1 : Int32) < ((S.1 3) + (S.1 4)) / (a0 + (S.1 4)) then (1 : Int32) else ((S.1 3) + (S.1 4)) / (a0 + (S.1 4)))], mH S, 0, 0)) rfl ⟨(Nat.le_of_ble_eq_true rfl), (Nat.le_of_ble_eq_true rfl), trivial⟩ ?_
      cases h
      exact mm_ev.ret (q := mq23) (b := (51, .ireturn, 1, 3, 0, 0, 0, 0, [])) rfl rfl rfl ⟨Nat.le_of_ble_eq_true rfl, Nat.le_of_ble_eq_true rfl⟩ trivial ⟨rfl, rfl⟩
    · rw [if_neg h3] at h
      refine mm_ev.go [true, true, true, true, true, true, true, true, true, true, true, true] (ps := [¬ (a0 + (S.1 4)) = 0, mm_cmp .ne (S.1 5) (1 : Int32)]) (c1 := (37, [some (.ref 1), some (.int a0), some (.int (a0 + (S.1 4))), some (.int (((S.1 3) + (S.1 4)) / (a0 + (S.1 4)))), none], [], mH S, 0, 0)) rfl ⟨h2, h3, trivial⟩ ?_
      refine mm_ev.go [true, true, true, true, true, true, true, true] (ps := [_, _]) (c1 := (51, [some (.ref 1), some (.int a0), some (.int (a0 + (S.1 4))), some (.int (((S.1 3) + (S.1 4)) / (a0 + (S.1 4)))), some (.int ((S.1 6) + (1 : Int32)))], [.int (if (S.1 6) + (1 : Int32) < ((S.1 3) + (S.1 4)) / (a0 + (S.1 4)) then (S.1 6) + (1 : Int32) else ((S.1 3) + (S.1 4)) / (a0 + (S.1 4)))], mH S, 0, 0)) rfl ⟨(Nat.le_of_ble_eq_true rfl), (Nat.le_of_ble_eq_true rfl), trivial⟩ ?_
      cases h
      exact mm_ev.ret (q := mq23) (b := (51, .ireturn, 1, 3, 0, 0, 0, 0, [])) rfl rfl rfl ⟨Nat.le_of_ble_eq_true rfl, Nat.le_of_ble_eq_true rfl⟩ trivial ⟨rfl, rfl⟩
  · rw [if_neg h1] at h
    refine mm_ev.go [true, true, true, true, true, true, false] (ps := [¬ mm_cmp .gt (a0 + (S.1 4)) (0 : Int32)]) (c1 := (11, [some (.ref 1), some (.int a0), some (.int (a0 + (S.1 4))), none, none], [], mH S, 0, 0)) rfl ⟨h1, trivial⟩ ?_
    refine mm_ev.go [true] (ps := []) (c1 := (12, [some (.ref 1), some (.int a0), some (.int (a0 + (S.1 4))), none, none], [.int (0 : Int32)], mH S, 0, 0)) rfl trivial ?_
    cases h
    exact mm_ev.ret (q := mq23) (b := (12, .ireturn, 1, 3, 0, 0, 0, 0, [])) rfl rfl rfl ⟨Nat.le_of_ble_eq_true rfl, Nat.le_of_ble_eq_true rfl⟩ trivial ⟨rfl, rfl⟩
/-- SlabPatterns$Slab.isBarred -/
def F24 (S : mSt) (a0 : Int32) : Option (Int32) := if a0 < (0 : Int32) then (some ((0 : Int32))) else (if (Int32.ofNat 201) ≤ a0 then (some ((0 : Int32))) else (if 0 ≤ a0 ∧ a0.toNatClampNeg < 201 then if (S.2.1 2 a0.toNatClampNeg) = (0 : Int32) then (some ((0 : Int32))) else (some ((1 : Int32))) else none))
set_option maxRecDepth 100000 in
set_option maxHeartbeats 4000000 in
theorem F24_ok {sc : mS} (d : Nat) {S : mSt} {a0 : Int32} {r : Int32} (h : F24 S a0 = some r) : mm_ev sc mmK mmP (d + 0) 24 (0, mm_en 2 [.ref 1, .int a0], [], mH S, 0, 0) (mm_is (.inl (some (.int r))) (mH S)) := by
  unfold F24 at h
  refine mm_ev.to (c := (0, [some (.ref 1), some (.int a0)], [], mH S, 0, 0)) rfl ?_
  by_cases h1 : a0 < (0 : Int32)
  · rw [if_pos h1] at h
    refine mm_ev.go [true, true] (ps := [mm_cmp .lt a0 (0 : Int32)]) (c1 := (26, [some (.ref 1), some (.int a0)], [], mH S, 0, 0)) rfl ⟨h1, trivial⟩ ?_
    refine mm_ev.go [true] (ps := []) (c1 := (27, [some (.ref 1), some (.int a0)], [.int (0 : Int32)], mH S, 0, 0)) rfl trivial ?_
    cases h
    exact mm_ev.ret (q := mq24) (b := (27, .ireturn, 1, 3, 0, 0, 0, 0, [])) rfl rfl rfl ⟨Nat.le_of_ble_eq_true rfl, Nat.le_of_ble_eq_true rfl⟩ ⟨by first | exact Or.inl rfl | exact Or.inr rfl, trivial⟩ ⟨rfl, rfl⟩
  · rw [if_neg h1] at h
    refine mm_ev.go [true, false] (ps := [¬ mm_cmp .lt a0 (0 : Int32)]) (c1 := (4, [some (.ref 1), some (.int a0)], [], mH S, 0, 0)) rfl ⟨h1, trivial⟩ ?_
    by_cases h2 : (Int32.ofNat 201) ≤ a0
    · rw [if_pos h2] at h
      refine mm_ev.go [true, true, true, true, true] (ps := [mm_cmp .ge a0 (Int32.ofNat 201)]) (c1 := (26, [some (.ref 1), some (.int a0)], [], mH S, 0, 0)) rfl ⟨h2, trivial⟩ ?_
      refine mm_ev.go [true] (ps := []) (c1 := (27, [some (.ref 1), some (.int a0)], [.int (0 : Int32)], mH S, 0, 0)) rfl trivial ?_
      cases h
      exact mm_ev.ret (q := mq24) (b := (27, .ireturn, 1, 3, 0, 0, 0, 0, [])) rfl rfl rfl ⟨Nat.le_of_ble_eq_true rfl, Nat.le_of_ble_eq_true rfl⟩ ⟨by first | exact Or.inl rfl | exact Or.inr rfl, trivial⟩ ⟨rfl, rfl⟩
    · rw [if_neg h2] at h
      refine mm_ev.go [true, true, true, true, false] (ps := [¬ mm_cmp .ge a0 (Int32.ofNat 201)]) (c1 := (13, [some (.ref 1), some (.int a0)], [], mH S, 0, 0)) rfl ⟨h2, trivial⟩ ?_
      obtain ⟨h3, h⟩ := mb_i h
      by_cases h4 : (S.2.1 2 a0.toNatClampNeg) = (0 : Int32)
      · rw [if_pos h4] at h
        refine mm_ev.go [true, true, true, true, true] (ps := [mm_in a0 201, mm_cmp .eq (S.2.1 2 a0.toNatClampNeg) (0 : Int32)]) (c1 := (26, [some (.ref 1), some (.int a0)], [], mH S, 0, 0)) rfl ⟨h3, h4, trivial⟩ ?_
        refine mm_ev.go [true] (ps := []) (c1 := (27, [some (.ref 1), some (.int a0)], [.int (0 : Int32)], mH S, 0, 0)) rfl trivial ?_
        cases h
        exact mm_ev.ret (q := mq24) (b := (27, .ireturn, 1, 3, 0, 0, 0, 0, [])) rfl rfl rfl ⟨Nat.le_of_ble_eq_true rfl, Nat.le_of_ble_eq_true rfl⟩ ⟨by first | exact Or.inl rfl | exact Or.inr rfl, trivial⟩ ⟨rfl, rfl⟩
      · rw [if_neg h4] at h
        refine mm_ev.go [true, true, true, true, false] (ps := [mm_in a0 201, ¬ mm_cmp .eq (S.2.1 2 a0.toNatClampNeg) (0 : Int32)]) (c1 := (22, [some (.ref 1), some (.int a0)], [], mH S, 0, 0)) rfl ⟨h3, h4, trivial⟩ ?_
        refine mm_ev.go [true, true] (ps := []) (c1 := (27, [some (.ref 1), some (.int a0)], [.int (1 : Int32)], mH S, 0, 0)) rfl trivial ?_
        cases h
        exact mm_ev.ret (q := mq24) (b := (27, .ireturn, 1, 3, 0, 0, 0, 0, [])) rfl rfl rfl ⟨Nat.le_of_ble_eq_true rfl, Nat.le_of_ble_eq_true rfl⟩ ⟨by first | exact Or.inl rfl | exact Or.inr rfl, trivial⟩ ⟨rfl, rfl⟩
/-- SlabPatterns$Slab.lastEnd -/
def F25 (S : mSt) : Option (Int32) := some ((S.1 2) - (S.1 8))
set_option maxRecDepth 100000 in
set_option maxHeartbeats 4000000 in
theorem F25_ok {sc : mS} (d : Nat) {S : mSt} {r : Int32} (h : F25 S = some r) : mm_ev sc mmK mmP (d + 0) 25 (0, mm_en 1 [.ref 1], [], mH S, 0, 0) (mm_is (.inl (some (.int r))) (mH S)) := by
  unfold F25 at h
  refine mm_ev.to (c := (0, [some (.ref 1)], [], mH S, 0, 0)) rfl ?_
  refine mm_ev.go [true, true, true, true, true] (ps := []) (c1 := (9, [some (.ref 1)], [.int ((S.1 2) - (S.1 8))], mH S, 0, 0)) rfl trivial ?_
  cases h
  exact mm_ev.ret (q := mq25) (b := (9, .ireturn, 1, 3, 0, 0, 0, 0, [])) rfl rfl rfl ⟨Nat.le_of_ble_eq_true rfl, Nat.le_of_ble_eq_true rfl⟩ trivial ⟨rfl, rfl⟩
/-- SlabPatterns$Wanted.isFull -/
def F27 (S : mSt) : Option (Int32) := (F6 S (S.1 11) (0 : Int32) (4 : Int32)).bind fun r1 => (if r1 = 0 ∨ r1 = 1 then some r1 else none)
set_option maxRecDepth 100000 in
set_option maxHeartbeats 4000000 in
theorem F27_ok {sc : mS} (d : Nat) {S : mSt} {r : Int32} (h : F27 S = some r) : mm_ev sc mmK mmP (d + 1) 27 (0, mm_en 1 [.ref 3], [], mH S, 0, 0) (mm_is (.inl (some (.int r))) (mH S)) := by
  unfold F27 at h
  refine mm_ev.to (c := (0, [some (.ref 3)], [], mH S, 0, 0)) rfl ?_
  refine mm_ev.go [true, true, true, true] (ps := []) (c1 := (6, [some (.ref 3)], [.int (4 : Int32), .int (0 : Int32), .int (S.1 11)], mH S, 0, 0)) rfl trivial ?_
  obtain ⟨r1, h2, h⟩ := mb_b h
  refine mm_ev.call (q := mq27) (q2 := mq6) (b := (6, .invokestatic 35, 3, 2, 5, 6, 3, 0, [302, 386, 301, 48])) (as := [.int (S.1 11), .int (0 : Int32), .int (4 : Int32)]) (r := []) (v := (some (.int r1))) (h1 := mH S) rfl rfl rfl rfl ⟨Nat.le_of_ble_eq_true rfl, Nat.le_of_ble_eq_true rfl, Nat.le_of_ble_eq_true rfl⟩ (F6_ok d h2) ?_
  refine mm_ev.to (c := (9, [some (.ref 3)], [.int r1], mH S, 0, 0)) rfl ?_
  obtain ⟨h3, h⟩ := mb_i h
  cases h
  exact mm_ev.ret (q := mq27) (b := (9, .ireturn, 1, 3, 0, 0, 0, 0, [])) rfl rfl rfl ⟨Nat.le_of_ble_eq_true rfl, Nat.le_of_ble_eq_true rfl⟩ ⟨h3, trivial⟩ ⟨rfl, rfl⟩
/-- SlabPatterns$Wanted.add -/
def F28 (S : mSt) (a0 a1 a2 a3 a4 : Int32) : Option (Int32 × mSt) := (F27 S).bind fun r1 => (if r1 = (0 : Int32) then (if 0 ≤ (S.1 11) ∧ (S.1 11).toNatClampNeg < 5 then some ((S.1 11, ((va_up S.1 11 ((S.1 11) + (1 : Int32))), (va_up (va_up (va_up (va_up (va_up (va_up S.2.1 4 (upd (S.2.1 4) (S.1 11).toNatClampNeg a0)) 5 (upd (S.2.1 5) (S.1 11).toNatClampNeg a1)) 6 (upd (S.2.1 6) (S.1 11).toNatClampNeg a2)) 7 (upd (S.2.1 7) (S.1 11).toNatClampNeg a3)) 8 (upd (S.2.1 8) (S.1 11).toNatClampNeg a4)) 9 (upd (S.2.1 9) (S.1 11).toNatClampNeg (vp_nar .boolean (0 : Int32)))), S.2.2))) else none) else (some (((-1 : Int32), S))))
set_option maxRecDepth 100000 in
set_option maxHeartbeats 4000000 in
theorem F28_ok {sc : mS} (d : Nat) {S : mSt} {a0 a1 a2 a3 a4 : Int32} {r : Int32 × mSt} (h : F28 S a0 a1 a2 a3 a4 = some r) : mm_ev sc mmK mmP (d + 2) 28 (0, mm_en 7 [.ref 3, .int a0, .int a1, .int a2, .int a3, .int a4], [], mH S, 0, 0) (mm_is (.inl (some (.int r.1))) (mH r.2)) := by
  unfold F28 at h
  refine mm_ev.to (c := (0, [some (.ref 3), some (.int a0), some (.int a1), some (.int a2), some (.int a3), some (.int a4), none], [], mH S, 0, 0)) rfl ?_
  refine mm_ev.go [true] (ps := []) (c1 := (1, [some (.ref 3), some (.int a0), some (.int a1), some (.int a2), some (.int a3), some (.int a4), none], [.ref 3], mH S, 0, 0)) rfl trivial ?_
  obtain ⟨r1, h2, h⟩ := mb_b h
  refine mm_ev.call (q := mq28) (q2 := mq27) (b := (1, .invokevirtual 39, 3, 2, 2, 27, 1, 2, [385, 407, 384, 50, 4])) (as := [.ref 3]) (r := []) (v := (some (.int r1))) (h1 := mH S) rfl rfl rfl rfl ⟨Nat.le_of_ble_eq_true rfl, Nat.le_of_ble_eq_true rfl, Nat.le_of_ble_eq_true rfl⟩ (F27_ok d h2) ?_
  refine mm_ev.to (c := (4, [some (.ref 3), some (.int a0), some (.int a1), some (.int a2), some (.int a3), some (.int a4), none], [.int r1], mH S, 0, 0)) rfl ?_
  by_cases h3 : r1 = (0 : Int32)
  · rw [if_pos h3] at h
    refine mm_ev.go [true] (ps := [mm_cmp .eq r1 (0 : Int32)]) (c1 := (9, [some (.ref 3), some (.int a0), some (.int a1), some (.int a2), some (.int a3), some (.int a4), none], [], mH S, 0, 0)) rfl ⟨h3, trivial⟩ ?_
    obtain ⟨h4, h⟩ := mb_i h
    refine mm_ev.go [true, true, true, true, true, true, true, true, true, true, true, true, true, true, true, true, true, true, true, true, true, true, true, true, true, true, true, true, true, true, true, true, true, true, true, true, true, true, true, true] (ps := [mm_in (S.1 11) 5, mm_in (S.1 11) 5, mm_in (S.1 11) 5, mm_in (S.1 11) 5, mm_in (S.1 11) 5, mm_in (S.1 11) 5, _, _]) (c1 := (77, [some (.ref 3), some (.int a0), some (.int a1), some (.int a2), some (.int a3), some (.int a4), some (.int (S.1 11))], [.int (S.1 11)], mH ((va_up S.1 11 ((S.1 11) + (1 : Int32))), (va_up (va_up (va_up (va_up (va_up (va_up S.2.1 4 (upd (S.2.1 4) (S.1 11).toNatClampNeg a0)) 5 (upd (S.2.1 5) (S.1 11).toNatClampNeg a1)) 6 (upd (S.2.1 6) (S.1 11).toNatClampNeg a2)) 7 (upd (S.2.1 7) (S.1 11).toNatClampNeg a3)) 8 (upd (S.2.1 8) (S.1 11).toNatClampNeg a4)) 9 (upd (S.2.1 9) (S.1 11).toNatClampNeg (vp_nar .boolean (0 : Int32)))), S.2.2), 0, 0)) rfl ⟨h4, h4, h4, h4, h4, h4, trivial, (Nat.le_of_ble_eq_true rfl), trivial⟩ ?_
    cases h
    exact mm_ev.ret (q := mq28) (b := (77, .ireturn, 1, 3, 0, 0, 0, 0, [])) rfl rfl rfl ⟨Nat.le_of_ble_eq_true rfl, Nat.le_of_ble_eq_true rfl⟩ trivial ⟨rfl, rfl⟩
  · rw [if_neg h3] at h
    refine mm_ev.go [false] (ps := [¬ mm_cmp .eq r1 (0 : Int32)]) (c1 := (7, [some (.ref 3), some (.int a0), some (.int a1), some (.int a2), some (.int a3), some (.int a4), none], [], mH S, 0, 0)) rfl ⟨h3, trivial⟩ ?_
    refine mm_ev.go [true] (ps := []) (c1 := (8, [some (.ref 3), some (.int a0), some (.int a1), some (.int a2), some (.int a3), some (.int a4), none], [.int (-1 : Int32)], mH S, 0, 0)) rfl trivial ?_
    cases h
    exact mm_ev.ret (q := mq28) (b := (8, .ireturn, 1, 3, 0, 0, 0, 0, [])) rfl rfl rfl ⟨Nat.le_of_ble_eq_true rfl, Nat.le_of_ble_eq_true rfl⟩ trivial ⟨rfl, rfl⟩
/-- SlabPatterns$Wanted.has -/
def F29 (S : mSt) (a0 : Int32) : Option (Int32) := if a0 < (0 : Int32) then (some ((0 : Int32))) else (if (S.1 11) ≤ a0 then (some ((0 : Int32))) else (if (5 : Int32) ≤ a0 then (some ((0 : Int32))) else (some ((1 : Int32)))))
set_option maxRecDepth 100000 in
set_option maxHeartbeats 4000000 in
theorem F29_ok {sc : mS} (d : Nat) {S : mSt} {a0 : Int32} {r : Int32} (h : F29 S a0 = some r) : mm_ev sc mmK mmP (d + 0) 29 (0, mm_en 2 [.ref 3, .int a0], [], mH S, 0, 0) (mm_is (.inl (some (.int r))) (mH S)) := by
  unfold F29 at h
  refine mm_ev.to (c := (0, [some (.ref 3), some (.int a0)], [], mH S, 0, 0)) rfl ?_
  by_cases h1 : a0 < (0 : Int32)
  · rw [if_pos h1] at h
    refine mm_ev.go [true, true] (ps := [mm_cmp .lt a0 (0 : Int32)]) (c1 := (21, [some (.ref 3), some (.int a0)], [], mH S, 0, 0)) rfl ⟨h1, trivial⟩ ?_
    refine mm_ev.go [true] (ps := []) (c1 := (22, [some (.ref 3), some (.int a0)], [.int (0 : Int32)], mH S, 0, 0)) rfl trivial ?_
    cases h
    exact mm_ev.ret (q := mq29) (b := (22, .ireturn, 1, 3, 0, 0, 0, 0, [])) rfl rfl rfl ⟨Nat.le_of_ble_eq_true rfl, Nat.le_of_ble_eq_true rfl⟩ ⟨by first | exact Or.inl rfl | exact Or.inr rfl, trivial⟩ ⟨rfl, rfl⟩
  · rw [if_neg h1] at h
    refine mm_ev.go [true, false] (ps := [¬ mm_cmp .lt a0 (0 : Int32)]) (c1 := (4, [some (.ref 3), some (.int a0)], [], mH S, 0, 0)) rfl ⟨h1, trivial⟩ ?_
    by_cases h2 : (S.1 11) ≤ a0
    · rw [if_pos h2] at h
      refine mm_ev.go [true, true, true, true] (ps := [mm_cmp .ge a0 (S.1 11)]) (c1 := (21, [some (.ref 3), some (.int a0)], [], mH S, 0, 0)) rfl ⟨h2, trivial⟩ ?_
      refine mm_ev.go [true] (ps := []) (c1 := (22, [some (.ref 3), some (.int a0)], [.int (0 : Int32)], mH S, 0, 0)) rfl trivial ?_
      cases h
      exact mm_ev.ret (q := mq29) (b := (22, .ireturn, 1, 3, 0, 0, 0, 0, [])) rfl rfl rfl ⟨Nat.le_of_ble_eq_true rfl, Nat.le_of_ble_eq_true rfl⟩ ⟨by first | exact Or.inl rfl | exact Or.inr rfl, trivial⟩ ⟨rfl, rfl⟩
    · rw [if_neg h2] at h
      refine mm_ev.go [true, true, true, false] (ps := [¬ mm_cmp .ge a0 (S.1 11)]) (c1 := (12, [some (.ref 3), some (.int a0)], [], mH S, 0, 0)) rfl ⟨h2, trivial⟩ ?_
      by_cases h3 : (5 : Int32) ≤ a0
      · rw [if_pos h3] at h
        refine mm_ev.go [true, true, true] (ps := [mm_cmp .ge a0 (5 : Int32)]) (c1 := (21, [some (.ref 3), some (.int a0)], [], mH S, 0, 0)) rfl ⟨h3, trivial⟩ ?_
        refine mm_ev.go [true] (ps := []) (c1 := (22, [some (.ref 3), some (.int a0)], [.int (0 : Int32)], mH S, 0, 0)) rfl trivial ?_
        cases h
        exact mm_ev.ret (q := mq29) (b := (22, .ireturn, 1, 3, 0, 0, 0, 0, [])) rfl rfl rfl ⟨Nat.le_of_ble_eq_true rfl, Nat.le_of_ble_eq_true rfl⟩ ⟨by first | exact Or.inl rfl | exact Or.inr rfl, trivial⟩ ⟨rfl, rfl⟩
      · rw [if_neg h3] at h
        refine mm_ev.go [true, true, false] (ps := [¬ mm_cmp .ge a0 (5 : Int32)]) (c1 := (17, [some (.ref 3), some (.int a0)], [], mH S, 0, 0)) rfl ⟨h3, trivial⟩ ?_
        refine mm_ev.go [true, true] (ps := []) (c1 := (22, [some (.ref 3), some (.int a0)], [.int (1 : Int32)], mH S, 0, 0)) rfl trivial ?_
        cases h
        exact mm_ev.ret (q := mq29) (b := (22, .ireturn, 1, 3, 0, 0, 0, 0, [])) rfl rfl rfl ⟨Nat.le_of_ble_eq_true rfl, Nat.le_of_ble_eq_true rfl⟩ ⟨by first | exact Or.inl rfl | exact Or.inr rfl, trivial⟩ ⟨rfl, rfl⟩
/-- SlabPatterns$Wanted.manyOf -/
def F30 (S : mSt) (a0 : Int32) : Option (Int32) := (F29 S a0).bind fun r1 => (if r1 = (0 : Int32) then (some ((0 : Int32))) else (if 0 ≤ a0 ∧ a0.toNatClampNeg < 5 then some (S.2.1 8 a0.toNatClampNeg) else none))
set_option maxRecDepth 100000 in
set_option maxHeartbeats 4000000 in
theorem F30_ok {sc : mS} (d : Nat) {S : mSt} {a0 : Int32} {r : Int32} (h : F30 S a0 = some r) : mm_ev sc mmK mmP (d + 1) 30 (0, mm_en 2 [.ref 3, .int a0], [], mH S, 0, 0) (mm_is (.inl (some (.int r))) (mH S)) := by
  unfold F30 at h
  refine mm_ev.to (c := (0, [some (.ref 3), some (.int a0)], [], mH S, 0, 0)) rfl ?_
  refine mm_ev.go [true, true] (ps := []) (c1 := (2, [some (.ref 3), some (.int a0)], [.int a0, .ref 3], mH S, 0, 0)) rfl trivial ?_
  obtain ⟨r1, h2, h⟩ := mb_b h
  refine mm_ev.call (q := mq30) (q2 := mq29) (b := (2, .invokevirtual 43, 3, 2, 2, 29, 2, 2, [419, 476, 418, 50, 6])) (as := [.ref 3, .int a0]) (r := []) (v := (some (.int r1))) (h1 := mH S) rfl rfl rfl rfl ⟨Nat.le_of_ble_eq_true rfl, Nat.le_of_ble_eq_true rfl, Nat.le_of_ble_eq_true rfl⟩ (F29_ok d h2) ?_
  refine mm_ev.to (c := (5, [some (.ref 3), some (.int a0)], [.int r1], mH S, 0, 0)) rfl ?_
  by_cases h3 : r1 = (0 : Int32)
  · rw [if_pos h3] at h
    refine mm_ev.go [true] (ps := [mm_cmp .eq r1 (0 : Int32)]) (c1 := (17, [some (.ref 3), some (.int a0)], [], mH S, 0, 0)) rfl ⟨h3, trivial⟩ ?_
    refine mm_ev.go [true] (ps := []) (c1 := (18, [some (.ref 3), some (.int a0)], [.int (0 : Int32)], mH S, 0, 0)) rfl trivial ?_
    cases h
    exact mm_ev.ret (q := mq30) (b := (18, .ireturn, 1, 3, 0, 0, 0, 0, [])) rfl rfl rfl ⟨Nat.le_of_ble_eq_true rfl, Nat.le_of_ble_eq_true rfl⟩ trivial ⟨rfl, rfl⟩
  · rw [if_neg h3] at h
    refine mm_ev.go [false] (ps := [¬ mm_cmp .eq r1 (0 : Int32)]) (c1 := (8, [some (.ref 3), some (.int a0)], [], mH S, 0, 0)) rfl ⟨h3, trivial⟩ ?_
    obtain ⟨h4, h⟩ := mb_i h
    refine mm_ev.go [true, true, true, true, true] (ps := [mm_in a0 5]) (c1 := (18, [some (.ref 3), some (.int a0)], [.int (S.2.1 8 a0.toNatClampNeg)], mH S, 0, 0)) rfl ⟨h4, trivial⟩ ?_
    cases h
    exact mm_ev.ret (q := mq30) (b := (18, .ireturn, 1, 3, 0, 0, 0, 0, [])) rfl rfl rfl ⟨Nat.le_of_ble_eq_true rfl, Nat.le_of_ble_eq_true rfl⟩ trivial ⟨rfl, rfl⟩
/-- SlabPatterns$Wanted.acrossOf -/
def F31 (S : mSt) (a0 a1 : Int32) : Option (Int32) := (F29 S a0).bind fun r1 => (if r1 = (0 : Int32) then (some ((0 : Int32))) else (if a1 = (0 : Int32) then (if 0 ≤ a0 ∧ a0.toNatClampNeg < 5 then some (S.2.1 6 a0.toNatClampNeg) else none) else (if 0 ≤ a0 ∧ a0.toNatClampNeg < 5 then some (S.2.1 4 a0.toNatClampNeg) else none)))
set_option maxRecDepth 100000 in
set_option maxHeartbeats 4000000 in
theorem F31_ok {sc : mS} (d : Nat) {S : mSt} {a0 a1 : Int32} {r : Int32} (h : F31 S a0 a1 = some r) : mm_ev sc mmK mmP (d + 1) 31 (0, mm_en 3 [.ref 3, .int a0, .int a1], [], mH S, 0, 0) (mm_is (.inl (some (.int r))) (mH S)) := by
  unfold F31 at h
  refine mm_ev.to (c := (0, [some (.ref 3), some (.int a0), some (.int a1)], [], mH S, 0, 0)) rfl ?_
  refine mm_ev.go [true, true] (ps := []) (c1 := (2, [some (.ref 3), some (.int a0), some (.int a1)], [.int a0, .ref 3], mH S, 0, 0)) rfl trivial ?_
  obtain ⟨r1, h2, h⟩ := mb_b h
  refine mm_ev.call (q := mq31) (q2 := mq29) (b := (2, .invokevirtual 43, 3, 2, 2, 29, 2, 2, [419, 476, 418, 50, 6])) (as := [.ref 3, .int a0]) (r := []) (v := (some (.int r1))) (h1 := mH S) rfl rfl rfl rfl ⟨Nat.le_of_ble_eq_true rfl, Nat.le_of_ble_eq_true rfl, Nat.le_of_ble_eq_true rfl⟩ (F29_ok d h2) ?_
  refine mm_ev.to (c := (5, [some (.ref 3), some (.int a0), some (.int a1)], [.int r1], mH S, 0, 0)) rfl ?_
  by_cases h3 : r1 = (0 : Int32)
  · rw [if_pos h3] at h
    refine mm_ev.go [false] (ps := [¬ mm_cmp .ne r1 (0 : Int32)]) (c1 := (8, [some (.ref 3), some (.int a0), some (.int a1)], [], mH S, 0, 0)) rfl ⟨(fun z => z h3), trivial⟩ ?_
    refine mm_ev.go [true] (ps := []) (c1 := (9, [some (.ref 3), some (.int a0), some (.int a1)], [.int (0 : Int32)], mH S, 0, 0)) rfl trivial ?_
    cases h
    exact mm_ev.ret (q := mq31) (b := (9, .ireturn, 1, 3, 0, 0, 0, 0, [])) rfl rfl rfl ⟨Nat.le_of_ble_eq_true rfl, Nat.le_of_ble_eq_true rfl⟩ trivial ⟨rfl, rfl⟩
  · rw [if_neg h3] at h
    refine mm_ev.go [true] (ps := [mm_cmp .ne r1 (0 : Int32)]) (c1 := (10, [some (.ref 3), some (.int a0), some (.int a1)], [], mH S, 0, 0)) rfl ⟨h3, trivial⟩ ?_
    by_cases h4 : a1 = (0 : Int32)
    · rw [if_pos h4] at h
      refine mm_ev.go [true, true] (ps := [mm_cmp .eq a1 (0 : Int32)]) (c1 := (23, [some (.ref 3), some (.int a0), some (.int a1)], [], mH S, 0, 0)) rfl ⟨h4, trivial⟩ ?_
      obtain ⟨h5, h⟩ := mb_i h
      refine mm_ev.go [true, true, true, true] (ps := [mm_in a0 5]) (c1 := (29, [some (.ref 3), some (.int a0), some (.int a1)], [.int (S.2.1 6 a0.toNatClampNeg)], mH S, 0, 0)) rfl ⟨h5, trivial⟩ ?_
      cases h
      exact mm_ev.ret (q := mq31) (b := (29, .ireturn, 1, 3, 0, 0, 0, 0, [])) rfl rfl rfl ⟨Nat.le_of_ble_eq_true rfl, Nat.le_of_ble_eq_true rfl⟩ trivial ⟨rfl, rfl⟩
    · rw [if_neg h4] at h
      refine mm_ev.go [true, false] (ps := [¬ mm_cmp .eq a1 (0 : Int32)]) (c1 := (14, [some (.ref 3), some (.int a0), some (.int a1)], [], mH S, 0, 0)) rfl ⟨h4, trivial⟩ ?_
      obtain ⟨h6, h⟩ := mb_i h
      refine mm_ev.go [true, true, true, true, true] (ps := [mm_in a0 5]) (c1 := (29, [some (.ref 3), some (.int a0), some (.int a1)], [.int (S.2.1 4 a0.toNatClampNeg)], mH S, 0, 0)) rfl ⟨h6, trivial⟩ ?_
      cases h
      exact mm_ev.ret (q := mq31) (b := (29, .ireturn, 1, 3, 0, 0, 0, 0, [])) rfl rfl rfl ⟨Nat.le_of_ble_eq_true rfl, Nat.le_of_ble_eq_true rfl⟩ trivial ⟨rfl, rfl⟩
/-- SlabPatterns$Wanted.lengthOf -/
def F32 (S : mSt) (a0 a1 : Int32) : Option (Int32) := (F29 S a0).bind fun r1 => (if r1 = (0 : Int32) then (some ((0 : Int32))) else (if a1 = (0 : Int32) then (if 0 ≤ a0 ∧ a0.toNatClampNeg < 5 then some (S.2.1 4 a0.toNatClampNeg) else none) else (if 0 ≤ a0 ∧ a0.toNatClampNeg < 5 then some (S.2.1 6 a0.toNatClampNeg) else none)))
set_option maxRecDepth 100000 in
set_option maxHeartbeats 4000000 in
theorem F32_ok {sc : mS} (d : Nat) {S : mSt} {a0 a1 : Int32} {r : Int32} (h : F32 S a0 a1 = some r) : mm_ev sc mmK mmP (d + 1) 32 (0, mm_en 3 [.ref 3, .int a0, .int a1], [], mH S, 0, 0) (mm_is (.inl (some (.int r))) (mH S)) := by
  unfold F32 at h
  refine mm_ev.to (c := (0, [some (.ref 3), some (.int a0), some (.int a1)], [], mH S, 0, 0)) rfl ?_
  refine mm_ev.go [true, true] (ps := []) (c1 := (2, [some (.ref 3), some (.int a0), some (.int a1)], [.int a0, .ref 3], mH S, 0, 0)) rfl trivial ?_
  obtain ⟨r1, h2, h⟩ := mb_b h
  refine mm_ev.call (q := mq32) (q2 := mq29) (b := (2, .invokevirtual 43, 3, 2, 2, 29, 2, 2, [419, 476, 418, 50, 6])) (as := [.ref 3, .int a0]) (r := []) (v := (some (.int r1))) (h1 := mH S) rfl rfl rfl rfl ⟨Nat.le_of_ble_eq_true rfl, Nat.le_of_ble_eq_true rfl, Nat.le_of_ble_eq_true rfl⟩ (F29_ok d h2) ?_
  refine mm_ev.to (c := (5, [some (.ref 3), some (.int a0), some (.int a1)], [.int r1], mH S, 0, 0)) rfl ?_
  by_cases h3 : r1 = (0 : Int32)
  · rw [if_pos h3] at h
    refine mm_ev.go [false] (ps := [¬ mm_cmp .ne r1 (0 : Int32)]) (c1 := (8, [some (.ref 3), some (.int a0), some (.int a1)], [], mH S, 0, 0)) rfl ⟨(fun z => z h3), trivial⟩ ?_
    refine mm_ev.go [true] (ps := []) (c1 := (9, [some (.ref 3), some (.int a0), some (.int a1)], [.int (0 : Int32)], mH S, 0, 0)) rfl trivial ?_
    cases h
    exact mm_ev.ret (q := mq32) (b := (9, .ireturn, 1, 3, 0, 0, 0, 0, [])) rfl rfl rfl ⟨Nat.le_of_ble_eq_true rfl, Nat.le_of_ble_eq_true rfl⟩ trivial ⟨rfl, rfl⟩
  · rw [if_neg h3] at h
    refine mm_ev.go [true] (ps := [mm_cmp .ne r1 (0 : Int32)]) (c1 := (10, [some (.ref 3), some (.int a0), some (.int a1)], [], mH S, 0, 0)) rfl ⟨h3, trivial⟩ ?_
    by_cases h4 : a1 = (0 : Int32)
    · rw [if_pos h4] at h
      refine mm_ev.go [true, true] (ps := [mm_cmp .eq a1 (0 : Int32)]) (c1 := (23, [some (.ref 3), some (.int a0), some (.int a1)], [], mH S, 0, 0)) rfl ⟨h4, trivial⟩ ?_
      obtain ⟨h5, h⟩ := mb_i h
      refine mm_ev.go [true, true, true, true] (ps := [mm_in a0 5]) (c1 := (29, [some (.ref 3), some (.int a0), some (.int a1)], [.int (S.2.1 4 a0.toNatClampNeg)], mH S, 0, 0)) rfl ⟨h5, trivial⟩ ?_
      cases h
      exact mm_ev.ret (q := mq32) (b := (29, .ireturn, 1, 3, 0, 0, 0, 0, [])) rfl rfl rfl ⟨Nat.le_of_ble_eq_true rfl, Nat.le_of_ble_eq_true rfl⟩ trivial ⟨rfl, rfl⟩
    · rw [if_neg h4] at h
      refine mm_ev.go [true, false] (ps := [¬ mm_cmp .eq a1 (0 : Int32)]) (c1 := (14, [some (.ref 3), some (.int a0), some (.int a1)], [], mH S, 0, 0)) rfl ⟨h4, trivial⟩ ?_
      obtain ⟨h6, h⟩ := mb_i h
      refine mm_ev.go [true, true, true, true, true] (ps := [mm_in a0 5]) (c1 := (29, [some (.ref 3), some (.int a0), some (.int a1)], [.int (S.2.1 6 a0.toNatClampNeg)], mH S, 0, 0)) rfl ⟨h6, trivial⟩ ?_
      cases h
      exact mm_ev.ret (q := mq32) (b := (29, .ireturn, 1, 3, 0, 0, 0, 0, [])) rfl rfl rfl ⟨Nat.le_of_ble_eq_true rfl, Nat.le_of_ble_eq_true rfl⟩ trivial ⟨rfl, rfl⟩
/-- SlabPatterns$Wanted.longestOf -/
def F33 (S : mSt) (a0 a1 : Int32) : Option (Int32) := (F29 S a0).bind fun r1 => (if r1 = (0 : Int32) then (some ((0 : Int32))) else (if a1 = (0 : Int32) then (if 0 ≤ a0 ∧ a0.toNatClampNeg < 5 then some (S.2.1 5 a0.toNatClampNeg) else none) else (if 0 ≤ a0 ∧ a0.toNatClampNeg < 5 then some (S.2.1 6 a0.toNatClampNeg) else none)))
set_option maxRecDepth 100000 in
set_option maxHeartbeats 4000000 in
theorem F33_ok {sc : mS} (d : Nat) {S : mSt} {a0 a1 : Int32} {r : Int32} (h : F33 S a0 a1 = some r) : mm_ev sc mmK mmP (d + 1) 33 (0, mm_en 3 [.ref 3, .int a0, .int a1], [], mH S, 0, 0) (mm_is (.inl (some (.int r))) (mH S)) := by
  unfold F33 at h
  refine mm_ev.to (c := (0, [some (.ref 3), some (.int a0), some (.int a1)], [], mH S, 0, 0)) rfl ?_
  refine mm_ev.go [true, true] (ps := []) (c1 := (2, [some (.ref 3), some (.int a0), some (.int a1)], [.int a0, .ref 3], mH S, 0, 0)) rfl trivial ?_
  obtain ⟨r1, h2, h⟩ := mb_b h
  refine mm_ev.call (q := mq33) (q2 := mq29) (b := (2, .invokevirtual 43, 3, 2, 2, 29, 2, 2, [419, 476, 418, 50, 6])) (as := [.ref 3, .int a0]) (r := []) (v := (some (.int r1))) (h1 := mH S) rfl rfl rfl rfl ⟨Nat.le_of_ble_eq_true rfl, Nat.le_of_ble_eq_true rfl, Nat.le_of_ble_eq_true rfl⟩ (F29_ok d h2) ?_
  refine mm_ev.to (c := (5, [some (.ref 3), some (.int a0), some (.int a1)], [.int r1], mH S, 0, 0)) rfl ?_
  by_cases h3 : r1 = (0 : Int32)
  · rw [if_pos h3] at h
    refine mm_ev.go [false] (ps := [¬ mm_cmp .ne r1 (0 : Int32)]) (c1 := (8, [some (.ref 3), some (.int a0), some (.int a1)], [], mH S, 0, 0)) rfl ⟨(fun z => z h3), trivial⟩ ?_
    refine mm_ev.go [true] (ps := []) (c1 := (9, [some (.ref 3), some (.int a0), some (.int a1)], [.int (0 : Int32)], mH S, 0, 0)) rfl trivial ?_
    cases h
    exact mm_ev.ret (q := mq33) (b := (9, .ireturn, 1, 3, 0, 0, 0, 0, [])) rfl rfl rfl ⟨Nat.le_of_ble_eq_true rfl, Nat.le_of_ble_eq_true rfl⟩ trivial ⟨rfl, rfl⟩
  · rw [if_neg h3] at h
    refine mm_ev.go [true] (ps := [mm_cmp .ne r1 (0 : Int32)]) (c1 := (10, [some (.ref 3), some (.int a0), some (.int a1)], [], mH S, 0, 0)) rfl ⟨h3, trivial⟩ ?_
    by_cases h4 : a1 = (0 : Int32)
    · rw [if_pos h4] at h
      refine mm_ev.go [true, true] (ps := [mm_cmp .eq a1 (0 : Int32)]) (c1 := (23, [some (.ref 3), some (.int a0), some (.int a1)], [], mH S, 0, 0)) rfl ⟨h4, trivial⟩ ?_
      obtain ⟨h5, h⟩ := mb_i h
      refine mm_ev.go [true, true, true, true] (ps := [mm_in a0 5]) (c1 := (29, [some (.ref 3), some (.int a0), some (.int a1)], [.int (S.2.1 5 a0.toNatClampNeg)], mH S, 0, 0)) rfl ⟨h5, trivial⟩ ?_
      cases h
      exact mm_ev.ret (q := mq33) (b := (29, .ireturn, 1, 3, 0, 0, 0, 0, [])) rfl rfl rfl ⟨Nat.le_of_ble_eq_true rfl, Nat.le_of_ble_eq_true rfl⟩ trivial ⟨rfl, rfl⟩
    · rw [if_neg h4] at h
      refine mm_ev.go [true, false] (ps := [¬ mm_cmp .eq a1 (0 : Int32)]) (c1 := (14, [some (.ref 3), some (.int a0), some (.int a1)], [], mH S, 0, 0)) rfl ⟨h4, trivial⟩ ?_
      obtain ⟨h6, h⟩ := mb_i h
      refine mm_ev.go [true, true, true, true, true] (ps := [mm_in a0 5]) (c1 := (29, [some (.ref 3), some (.int a0), some (.int a1)], [.int (S.2.1 6 a0.toNatClampNeg)], mH S, 0, 0)) rfl ⟨h6, trivial⟩ ?_
      cases h
      exact mm_ev.ret (q := mq33) (b := (29, .ireturn, 1, 3, 0, 0, 0, 0, [])) rfl rfl rfl ⟨Nat.le_of_ble_eq_true rfl, Nat.le_of_ble_eq_true rfl⟩ trivial ⟨rfl, rfl⟩
