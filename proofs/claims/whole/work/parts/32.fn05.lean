/-! methods as functions of the state (5) -/
/-- SlabPatterns.bar -/
def F10 (n : Nat) (S : mSt) (a0 a1 : Int32) : Option (Nat × Int32 × mSt) := (F6 S a0 (0 : Int32) (200 : Int32)).bind fun r1 => (if r1 = (0 : Int32) then ((F6 S a1 (0 : Int32) (200 : Int32)).bind fun r4 => (if r4 = (0 : Int32) then (if a0 < a1 then (if (S.1 10) < (4 : Int32) then ((F22 n S a0 a1).bind fun r9 => (some ((0, r9.1, r9.2)))) else (some ((4, 0, S)))) else (some ((1, 0, S)))) else (some ((1, 0, S))))) else (some ((1, 0, S))))
set_option maxRecDepth 100000 in
set_option maxHeartbeats 4000000 in
theorem F10_ok {sc : mS} (d : Nat) {n : Nat} {S : mSt} {a0 a1 : Int32} {r : Nat × Int32 × mSt} (h : F10 n S a0 a1 = some r) : mm_ev sc mmK mmP (d + 5) 10 (0, mm_en 3 [.ref 0, .int a0, .int a1], [], mH S, 0, 0) (mm_is (if r.1 = 0 then .inl (some (.int r.2.1)) else .inr (r.1 - 1)) (mH r.2.2)) := by
  unfold F10 at h
  refine mm_ev.to (c := (0, [some (.ref 0), some (.int a0), some (.int a1)], [], mH S, 0, 0)) rfl ?_
  refine mm_ev.go [true, true, true] (ps := []) (c1 := (5, [some (.ref 0), some (.int a0), some (.int a1)], [.int (200 : Int32), .int (0 : Int32), .int a0], mH S, 0, 0)) rfl trivial ?_
  obtain ⟨r1, h2, h⟩ := mb_b h
  refine mm_ev.call (q := mq10) (q2 := mq6) (b := (5, .invokestatic 47, 3, 2, 4, 6, 3, 0, [302, 300, 301, 48])) (as := [.int a0, .int (0 : Int32), .int (200 : Int32)]) (r := []) (v := (some (.int r1))) (h1 := mH S) rfl rfl rfl rfl ⟨Nat.le_of_ble_eq_true rfl, Nat.le_of_ble_eq_true rfl, Nat.le_of_ble_eq_true rfl⟩ (F6_ok (d + 4) h2) ?_
  refine mm_ev.to (c := (8, [some (.ref 0), some (.int a0), some (.int a1)], [.int r1], mH S, 0, 0)) rfl ?_
  by_cases h3 : r1 = (0 : Int32)
  · rw [if_pos h3] at h
    refine mm_ev.go [false] (ps := [¬ mm_cmp .ne r1 (0 : Int32)]) (c1 := (11, [some (.ref 0), some (.int a0), some (.int a1)], [], mH S, 0, 0)) rfl ⟨(fun z => z h3), trivial⟩ ?_
    refine mm_ev.go [true, true, true] (ps := []) (c1 := (16, [some (.ref 0), some (.int a0), some (.int a1)], [.int (200 : Int32), .int (0 : Int32), .int a1], mH S, 0, 0)) rfl trivial ?_
    obtain ⟨r4, h5, h⟩ := mb_b h
    refine mm_ev.call (q := mq10) (q2 := mq6) (b := (16, .invokestatic 47, 3, 2, 4, 6, 3, 0, [302, 300, 301, 48])) (as := [.int a1, .int (0 : Int32), .int (200 : Int32)]) (r := []) (v := (some (.int r4))) (h1 := mH S) rfl rfl rfl rfl ⟨Nat.le_of_ble_eq_true rfl, Nat.le_of_ble_eq_true rfl, Nat.le_of_ble_eq_true rfl⟩ (F6_ok (d + 4) h5) ?_
    refine mm_ev.to (c := (19, [some (.ref 0), some (.int a0), some (.int a1)], [.int r4], mH S, 0, 0)) rfl ?_
    by_cases h6 : r4 = (0 : Int32)
    · rw [if_pos h6] at h
      refine mm_ev.go [false] (ps := [¬ mm_cmp .ne r4 (0 : Int32)]) (c1 := (22, [some (.ref 0), some (.int a0), some (.int a1)], [], mH S, 0, 0)) rfl ⟨(fun z => z h6), trivial⟩ ?_
      by_cases h7 : a0 < a1
      · rw [if_pos h7] at h
        refine mm_ev.go [true, true, true] (ps := [mm_cmp .gt a1 a0]) (c1 := (37, [some (.ref 0), some (.int a0), some (.int a1)], [], mH S, 0, 0)) rfl ⟨h7, trivial⟩ ?_
        by_cases h8 : (S.1 10) < (4 : Int32)
        · rw [if_pos h8] at h
          refine mm_ev.go [true, true, true, true, true] (ps := [mm_cmp .lt (S.1 10) (4 : Int32)]) (c1 := (58, [some (.ref 0), some (.int a0), some (.int a1)], [], mH S, 0, 0)) rfl ⟨h8, trivial⟩ ?_
          refine mm_ev.go [true, true, true, true] (ps := []) (c1 := (64, [some (.ref 0), some (.int a0), some (.int a1)], [.int a1, .int a0, .ref 1], mH S, 0, 0)) rfl trivial ?_
          obtain ⟨r9, h10, h⟩ := mb_b h
          refine mm_ev.call (q := mq10) (q2 := mq22) (b := (64, .invokevirtual 124, 3, 2, 3, 22, 3, 1, [456, 453, 455, 49, 7])) (as := [.ref 1, .int a0, .int a1]) (r := []) (v := (some (.int r9.1))) (h1 := mH r9.2) rfl rfl rfl rfl ⟨Nat.le_of_ble_eq_true rfl, Nat.le_of_ble_eq_true rfl, Nat.le_of_ble_eq_true rfl⟩ (F22_ok (d + 4) h10) ?_
          refine mm_ev.to (c := (67, [some (.ref 0), some (.int a0), some (.int a1)], [.int r9.1], mH r9.2, 0, 0)) rfl ?_
          cases h
          exact mm_ev.ret (q := mq10) (b := (67, .ireturn, 1, 3, 0, 0, 0, 0, [])) rfl rfl rfl ⟨Nat.le_of_ble_eq_true rfl, Nat.le_of_ble_eq_true rfl⟩ trivial ⟨rfl, rfl⟩
        · rw [if_neg h8] at h
          refine mm_ev.go [true, true, true, true, false] (ps := [¬ mm_cmp .lt (S.1 10) (4 : Int32)]) (c1 := (48, [some (.ref 0), some (.int a0), some (.int a1)], [], mH S, 0, 0)) rfl ⟨h8, trivial⟩ ?_
          cases h
          exact mm_ev.thr (q := mq10) (b := (48, .new 78, 3, 4, 0, 3, 122, 82, [387, 59, 6])) rfl rfl ⟨by omega, Nat.le_of_ble_eq_true rfl, Nat.le_of_ble_eq_true rfl, rfl, Nat.le_of_ble_eq_true rfl⟩ ⟨rfl, rfl⟩
      · rw [if_neg h7] at h
        refine mm_ev.go [true, true, false] (ps := [¬ mm_cmp .gt a1 a0]) (c1 := (27, [some (.ref 0), some (.int a0), some (.int a1)], [], mH S, 0, 0)) rfl ⟨h7, trivial⟩ ?_
        cases h
        exact mm_ev.thr (q := mq10) (b := (27, .new 51, 3, 4, 0, 0, 117, 55, [303, 58, 5])) rfl rfl ⟨by omega, Nat.le_of_ble_eq_true rfl, Nat.le_of_ble_eq_true rfl, rfl, Nat.le_of_ble_eq_true rfl⟩ ⟨rfl, rfl⟩
    · rw [if_neg h6] at h
      refine mm_ev.go [true] (ps := [mm_cmp .ne r4 (0 : Int32)]) (c1 := (27, [some (.ref 0), some (.int a0), some (.int a1)], [], mH S, 0, 0)) rfl ⟨h6, trivial⟩ ?_
      cases h
      exact mm_ev.thr (q := mq10) (b := (27, .new 51, 3, 4, 0, 0, 117, 55, [303, 58, 5])) rfl rfl ⟨by omega, Nat.le_of_ble_eq_true rfl, Nat.le_of_ble_eq_true rfl, rfl, Nat.le_of_ble_eq_true rfl⟩ ⟨rfl, rfl⟩
  · rw [if_neg h3] at h
    refine mm_ev.go [true] (ps := [mm_cmp .ne r1 (0 : Int32)]) (c1 := (27, [some (.ref 0), some (.int a0), some (.int a1)], [], mH S, 0, 0)) rfl ⟨h3, trivial⟩ ?_
    cases h
    exact mm_ev.thr (q := mq10) (b := (27, .new 51, 3, 4, 0, 0, 117, 55, [303, 58, 5])) rfl rfl ⟨by omega, Nat.le_of_ble_eq_true rfl, Nat.le_of_ble_eq_true rfl, rfl, Nat.le_of_ble_eq_true rfl⟩ ⟨rfl, rfl⟩
/-- SlabPatterns.proved -/
def F12 (S : mSt) : Option (Nat × Int32) := (F13 S).bind fun r1 => if r1 = 0 then (if (S.1 1) = 0 ∨ (S.1 1) = 1 then some ((0, S.1 1)) else none) else (some ((r1, 0)))
set_option maxRecDepth 100000 in
set_option maxHeartbeats 4000000 in
theorem F12_ok {sc : mS} (d : Nat) {S : mSt} {r : Nat × Int32} (h : F12 S = some r) : mm_ev sc mmK mmP (d + 6) 12 (0, mm_en 1 [.ref 0], [], mH S, 0, 0) (mm_is (if r.1 = 0 then .inl (some (.int r.2)) else .inr (r.1 - 1)) (mH S)) := by
  unfold F12 at h
  refine mm_ev.to (c := (0, [some (.ref 0)], [], mH S, 0, 0)) rfl ?_
  refine mm_ev.go [true] (ps := []) (c1 := (1, [some (.ref 0)], [.ref 0], mH S, 0, 0)) rfl trivial ?_
  obtain ⟨r1, h2, h⟩ := mb_b h
  have h4 := F13_ok (sc := sc) d h2
  by_cases h3 : r1 = 0
  · rw [if_pos h3] at h
    rw [if_pos h3] at h4
    refine mm_ev.call (q := mq12) (q2 := mq13) (b := (1, .invokevirtual 151, 3, 2, 6, 13, 1, 0, [592, 589, 591, 48, 33])) (as := [.ref 0]) (r := []) (v := none) (h1 := mH S) rfl rfl rfl rfl ⟨Nat.le_of_ble_eq_true rfl, Nat.le_of_ble_eq_true rfl, Nat.le_of_ble_eq_true rfl⟩ h4 ?_
    refine mm_ev.to (c := (4, [some (.ref 0)], [], mH S, 1, 6)) rfl ?_
    obtain ⟨h5, h⟩ := mb_i h
    refine mm_ev.go [true, true] (ps := []) (c1 := (8, [some (.ref 0)], [.int (S.1 1)], mH S, 1, 6)) rfl trivial ?_
    cases h
    exact mm_ev.ret (q := mq12) (b := (8, .ireturn, 1, 3, 0, 0, 0, 0, [])) rfl rfl rfl ⟨Nat.le_of_ble_eq_true rfl, Nat.le_of_ble_eq_true rfl⟩ ⟨h5, trivial⟩ ⟨rfl, rfl⟩
  · rw [if_neg h3] at h
    rw [if_neg h3] at h4
    cases h
    obtain ⟨z9, hz9⟩ : ∃ z, r1 = z + 1 := ⟨r1 - 1, by omega⟩
    exact mm_ev.callO (q := mq12) (q2 := mq13) (b := (1, .invokevirtual 151, 3, 2, 6, 13, 1, 0, [592, 589, 591, 48, 33])) (as := [.ref 0]) (r := []) rfl rfl rfl rfl rfl ⟨Nat.le_of_ble_eq_true rfl, Nat.le_of_ble_eq_true rfl, Nat.le_of_ble_eq_true rfl⟩ h4 rfl rfl ⟨by rw [if_neg h3], rfl⟩
/-- SlabPatterns.strip -/
def F15 (S : mSt) (a0 a1 : Int32) : Option (Nat × Int32) := (F6 S a1 (0 : Int32) (4 : Int32)).bind fun r1 => (if r1 = (0 : Int32) then ((F13 S).bind fun r4 => if r4 = 0 then ((F52 S a0).bind fun r8 => (if r8 = (0 : Int32) then (some ((1, 0))) else (if a1 = (0 : Int32) then (if 0 ≤ a0 ∧ a0.toNatClampNeg < 100 then some ((0, S.2.1 29 a0.toNatClampNeg)) else none) else (if a1 = (1 : Int32) then (if 0 ≤ a0 ∧ a0.toNatClampNeg < 100 then if (S.2.1 30 a0.toNatClampNeg) = (0 : Int32) then (some ((0, (0 : Int32)))) else (some ((0, (1 : Int32)))) else none) else (if a1 = (2 : Int32) then (if 0 ≤ a0 ∧ a0.toNatClampNeg < 100 then some ((0, S.2.1 31 a0.toNatClampNeg)) else none) else (if a1 = (3 : Int32) then (if 0 ≤ a0 ∧ a0.toNatClampNeg < 100 then some ((0, S.2.1 32 a0.toNatClampNeg)) else none) else (if a1 = (4 : Int32) then (if 0 ≤ a0 ∧ a0.toNatClampNeg < 100 then some ((0, S.2.1 33 a0.toNatClampNeg)) else none) else none))))))) else (some ((r4, 0)))) else (some ((3, 0))))
set_option maxRecDepth 100000 in
set_option maxHeartbeats 4000000 in
theorem F15_ok {sc : mS} (d : Nat) {S : mSt} {a0 a1 : Int32} {r : Nat × Int32} (h : F15 S a0 a1 = some r) : mm_ev sc mmK mmP (d + 6) 15 (0, mm_en 3 [.ref 0, .int a0, .int a1], [], mH S, 0, 0) (mm_is (if r.1 = 0 then .inl (some (.int r.2)) else .inr (r.1 - 1)) (mH S)) := by
  unfold F15 at h
  refine mm_ev.to (c := (0, [some (.ref 0), some (.int a0), some (.int a1)], [], mH S, 0, 0)) rfl ?_
  refine mm_ev.go [true, true, true] (ps := []) (c1 := (3, [some (.ref 0), some (.int a0), some (.int a1)], [.int (4 : Int32), .int (0 : Int32), .int a1], mH S, 0, 0)) rfl trivial ?_
  obtain ⟨r1, h2, h⟩ := mb_b h
  refine mm_ev.call (q := mq15) (q2 := mq6) (b := (3, .invokestatic 47, 3, 2, 4, 6, 3, 0, [302, 300, 301, 48])) (as := [.int a1, .int (0 : Int32), .int (4 : Int32)]) (r := []) (v := (some (.int r1))) (h1 := mH S) rfl rfl rfl rfl ⟨Nat.le_of_ble_eq_true rfl, Nat.le_of_ble_eq_true rfl, Nat.le_of_ble_eq_true rfl⟩ (F6_ok (d + 5) h2) ?_
  refine mm_ev.to (c := (6, [some (.ref 0), some (.int a0), some (.int a1)], [.int r1], mH S, 0, 0)) rfl ?_
  by_cases h3 : r1 = (0 : Int32)
  · rw [if_pos h3] at h
    refine mm_ev.go [true] (ps := [mm_cmp .eq r1 (0 : Int32)]) (c1 := (19, [some (.ref 0), some (.int a0), some (.int a1)], [], mH S, 0, 0)) rfl ⟨h3, trivial⟩ ?_
    refine mm_ev.go [true] (ps := []) (c1 := (20, [some (.ref 0), some (.int a0), some (.int a1)], [.ref 0], mH S, 0, 0)) rfl trivial ?_
    obtain ⟨r4, h5, h⟩ := mb_b h
    have h7 := F13_ok (sc := sc) d h5
    by_cases h6 : r4 = 0
    · rw [if_pos h6] at h
      rw [if_pos h6] at h7
      refine mm_ev.call (q := mq15) (q2 := mq13) (b := (20, .invokevirtual 151, 3, 2, 6, 13, 1, 0, [592, 589, 591, 48, 33])) (as := [.ref 0]) (r := []) (v := none) (h1 := mH S) rfl rfl rfl rfl ⟨Nat.le_of_ble_eq_true rfl, Nat.le_of_ble_eq_true rfl, Nat.le_of_ble_eq_true rfl⟩ h7 ?_
      refine mm_ev.to (c := (23, [some (.ref 0), some (.int a0), some (.int a1)], [], mH S, 1, 6)) rfl ?_
      refine mm_ev.go [true, true, true] (ps := []) (c1 := (28, [some (.ref 0), some (.int a0), some (.int a1)], [.int a0, .ref 28], mH S, 1, 6)) rfl trivial ?_
      obtain ⟨r8, h9, h⟩ := mb_b h
      refine mm_ev.call (q := mq15) (q2 := mq52) (b := (28, .invokevirtual 159, 3, 2, 3, 52, 2, 5, [571, 624, 570, 53, 30])) (as := [.ref 28, .int a0]) (r := []) (v := (some (.int r8))) (h1 := mH S) rfl rfl rfl rfl ⟨Nat.le_of_ble_eq_true rfl, Nat.le_of_ble_eq_true rfl, Nat.le_of_ble_eq_true rfl⟩ (F52_ok (d + 5) h9) ?_
      refine mm_ev.to (c := (31, [some (.ref 0), some (.int a0), some (.int a1)], [.int r8], mH S, 1, 6)) rfl ?_
      by_cases h10 : r8 = (0 : Int32)
      · rw [if_pos h10] at h
        refine mm_ev.go [false] (ps := [¬ mm_cmp .ne r8 (0 : Int32)]) (c1 := (34, [some (.ref 0), some (.int a0), some (.int a1)], [], mH S, 1, 6)) rfl ⟨(fun z => z h10), trivial⟩ ?_
        cases h
        exact mm_ev.thr (q := mq15) (b := (34, .new 51, 3, 4, 0, 0, 160, 55, [303, 58, 10])) rfl rfl ⟨by omega, Nat.le_of_ble_eq_true rfl, Nat.le_of_ble_eq_true rfl, rfl, Nat.le_of_ble_eq_true rfl⟩ ⟨rfl, rfl⟩
      · rw [if_neg h10] at h
        refine mm_ev.go [true] (ps := [mm_cmp .ne r8 (0 : Int32)]) (c1 := (44, [some (.ref 0), some (.int a0), some (.int a1)], [], mH S, 1, 6)) rfl ⟨h10, trivial⟩ ?_
        refine mm_ev.go [true] (ps := []) (c1 := (45, [some (.ref 0), some (.int a0), some (.int a1)], [.int a1], mH S, 1, 6)) rfl trivial ?_
        by_cases h11 : a1 = (0 : Int32)
        · rw [if_pos h11] at h
          rw [h11]
          obtain ⟨h12, h⟩ := mb_i h
          refine mm_ev.go [true, true, true, true, true, true] (ps := [_, mm_in a0 100]) (c1 := (85, [some (.ref 0), some (.int a0), some (.int (0 : Int32))], [.int (S.2.1 29 a0.toNatClampNeg)], mH S, 1, 6)) rfl ⟨(by decide), h12, trivial⟩ ?_
          cases h
          exact mm_ev.ret (q := mq15) (b := (85, .ireturn, 1, 3, 0, 0, 0, 0, [])) rfl rfl rfl ⟨Nat.le_of_ble_eq_true rfl, Nat.le_of_ble_eq_true rfl⟩ trivial ⟨rfl, rfl⟩
        rw [if_neg h11] at h
        by_cases h13 : a1 = (1 : Int32)
        · rw [if_pos h13] at h
          rw [h13]
          obtain ⟨h14, h⟩ := mb_i h
          by_cases h15 : (S.2.1 30 a0.toNatClampNeg) = (0 : Int32)
          · rw [if_pos h15] at h
            refine mm_ev.go [true, true, true, true, true, true, true] (ps := [_, mm_in a0 100, mm_cmp .eq (S.2.1 30 a0.toNatClampNeg) (0 : Int32)]) (c1 := (102, [some (.ref 0), some (.int a0), some (.int (1 : Int32))], [], mH S, 1, 6)) rfl ⟨(by decide), h14, h15, trivial⟩ ?_
            refine mm_ev.go [true] (ps := []) (c1 := (103, [some (.ref 0), some (.int a0), some (.int (1 : Int32))], [.int (0 : Int32)], mH S, 1, 6)) rfl trivial ?_
            cases h
            exact mm_ev.ret (q := mq15) (b := (103, .ireturn, 1, 3, 0, 0, 0, 0, [])) rfl rfl rfl ⟨Nat.le_of_ble_eq_true rfl, Nat.le_of_ble_eq_true rfl⟩ trivial ⟨rfl, rfl⟩
          · rw [if_neg h15] at h
            refine mm_ev.go [true, true, true, true, true, true, false] (ps := [_, mm_in a0 100, ¬ mm_cmp .eq (S.2.1 30 a0.toNatClampNeg) (0 : Int32)]) (c1 := (98, [some (.ref 0), some (.int a0), some (.int (1 : Int32))], [], mH S, 1, 6)) rfl ⟨(by decide), h14, h15, trivial⟩ ?_
            refine mm_ev.go [true, true] (ps := []) (c1 := (103, [some (.ref 0), some (.int a0), some (.int (1 : Int32))], [.int (1 : Int32)], mH S, 1, 6)) rfl trivial ?_
            cases h
            exact mm_ev.ret (q := mq15) (b := (103, .ireturn, 1, 3, 0, 0, 0, 0, [])) rfl rfl rfl ⟨Nat.le_of_ble_eq_true rfl, Nat.le_of_ble_eq_true rfl⟩ trivial ⟨rfl, rfl⟩
        rw [if_neg h13] at h
        by_cases h16 : a1 = (2 : Int32)
        · rw [if_pos h16] at h
          rw [h16]
          obtain ⟨h17, h⟩ := mb_i h
          refine mm_ev.go [true, true, true, true, true, true] (ps := [_, mm_in a0 100]) (c1 := (113, [some (.ref 0), some (.int a0), some (.int (2 : Int32))], [.int (S.2.1 31 a0.toNatClampNeg)], mH S, 1, 6)) rfl ⟨(by decide), h17, trivial⟩ ?_
          cases h
          exact mm_ev.ret (q := mq15) (b := (113, .ireturn, 1, 3, 0, 0, 0, 0, [])) rfl rfl rfl ⟨Nat.le_of_ble_eq_true rfl, Nat.le_of_ble_eq_true rfl⟩ trivial ⟨rfl, rfl⟩
        rw [if_neg h16] at h
        by_cases h18 : a1 = (3 : Int32)
        · rw [if_pos h18] at h
          rw [h18]
          obtain ⟨h19, h⟩ := mb_i h
          refine mm_ev.go [true, true, true, true, true, true] (ps := [_, mm_in a0 100]) (c1 := (123, [some (.ref 0), some (.int a0), some (.int (3 : Int32))], [.int (S.2.1 32 a0.toNatClampNeg)], mH S, 1, 6)) rfl ⟨(by decide), h19, trivial⟩ ?_
          cases h
          exact mm_ev.ret (q := mq15) (b := (123, .ireturn, 1, 3, 0, 0, 0, 0, [])) rfl rfl rfl ⟨Nat.le_of_ble_eq_true rfl, Nat.le_of_ble_eq_true rfl⟩ trivial ⟨rfl, rfl⟩
        rw [if_neg h18] at h
        by_cases h20 : a1 = (4 : Int32)
        · rw [if_pos h20] at h
          rw [h20]
          obtain ⟨h21, h⟩ := mb_i h
          refine mm_ev.go [true, true, true, true, true, true] (ps := [_, mm_in a0 100]) (c1 := (133, [some (.ref 0), some (.int a0), some (.int (4 : Int32))], [.int (S.2.1 33 a0.toNatClampNeg)], mH S, 1, 6)) rfl ⟨(by decide), h21, trivial⟩ ?_
          cases h
          exact mm_ev.ret (q := mq15) (b := (133, .ireturn, 1, 3, 0, 0, 0, 0, [])) rfl rfl rfl ⟨Nat.le_of_ble_eq_true rfl, Nat.le_of_ble_eq_true rfl⟩ trivial ⟨rfl, rfl⟩
        rw [if_neg h20] at h
        cases h
    · rw [if_neg h6] at h
      rw [if_neg h6] at h7
      cases h
      obtain ⟨z9, hz9⟩ : ∃ z, r4 = z + 1 := ⟨r4 - 1, by omega⟩
      exact mm_ev.callO (q := mq15) (q2 := mq13) (b := (20, .invokevirtual 151, 3, 2, 6, 13, 1, 0, [592, 589, 591, 48, 33])) (as := [.ref 0]) (r := []) rfl rfl rfl rfl rfl ⟨Nat.le_of_ble_eq_true rfl, Nat.le_of_ble_eq_true rfl, Nat.le_of_ble_eq_true rfl⟩ h7 rfl rfl ⟨by rw [if_neg h6], rfl⟩
  · rw [if_neg h3] at h
    refine mm_ev.go [false] (ps := [¬ mm_cmp .eq r1 (0 : Int32)]) (c1 := (9, [some (.ref 0), some (.int a0), some (.int a1)], [], mH S, 0, 0)) rfl ⟨h3, trivial⟩ ?_
    cases h
    exact mm_ev.thr (q := mq15) (b := (9, .new 91, 3, 4, 0, 2, 157, 95, [420, 60, 9])) rfl rfl ⟨by omega, Nat.le_of_ble_eq_true rfl, Nat.le_of_ble_eq_true rfl, rfl, Nat.le_of_ble_eq_true rfl⟩ ⟨rfl, rfl⟩
/-- SlabPatterns.copies -/
def F16 (n : Nat) (S : mSt) (a0 : Int32) : Option (Nat × Int32) := (F29 S a0).bind fun r1 => (if r1 = (0 : Int32) then (some ((3, 0))) else ((F13 S).bind fun r4 => if r4 = 0 then ((F55 n S a0 (S.1 15)).bind fun r8 => (some ((0, r8)))) else (some ((r4, 0)))))
set_option maxRecDepth 100000 in
set_option maxHeartbeats 4000000 in
theorem F16_ok {sc : mS} (d : Nat) {n : Nat} {S : mSt} {a0 : Int32} {r : Nat × Int32} (h : F16 n S a0 = some r) : mm_ev sc mmK mmP (d + 6) 16 (0, mm_en 2 [.ref 0, .int a0], [], mH S, 0, 0) (mm_is (if r.1 = 0 then .inl (some (.int r.2)) else .inr (r.1 - 1)) (mH S)) := by
  unfold F16 at h
  refine mm_ev.to (c := (0, [some (.ref 0), some (.int a0)], [], mH S, 0, 0)) rfl ?_
  refine mm_ev.go [true, true, true] (ps := []) (c1 := (5, [some (.ref 0), some (.int a0)], [.int a0, .ref 3], mH S, 0, 0)) rfl trivial ?_
  obtain ⟨r1, h2, h⟩ := mb_b h
  refine mm_ev.call (q := mq16) (q2 := mq29) (b := (5, .invokevirtual 87, 3, 2, 3, 29, 2, 2, [419, 416, 418, 50, 6])) (as := [.ref 3, .int a0]) (r := []) (v := (some (.int r1))) (h1 := mH S) rfl rfl rfl rfl ⟨Nat.le_of_ble_eq_true rfl, Nat.le_of_ble_eq_true rfl, Nat.le_of_ble_eq_true rfl⟩ (F29_ok (d + 5) h2) ?_
  refine mm_ev.to (c := (8, [some (.ref 0), some (.int a0)], [.int r1], mH S, 0, 0)) rfl ?_
  by_cases h3 : r1 = (0 : Int32)
  · rw [if_pos h3] at h
    refine mm_ev.go [false] (ps := [¬ mm_cmp .ne r1 (0 : Int32)]) (c1 := (11, [some (.ref 0), some (.int a0)], [], mH S, 0, 0)) rfl ⟨(fun z => z h3), trivial⟩ ?_
    cases h
    exact mm_ev.thr (q := mq16) (b := (11, .new 91, 3, 4, 0, 2, 93, 95, [420, 60, 3])) rfl rfl ⟨by omega, Nat.le_of_ble_eq_true rfl, Nat.le_of_ble_eq_true rfl, rfl, Nat.le_of_ble_eq_true rfl⟩ ⟨rfl, rfl⟩
  · rw [if_neg h3] at h
    refine mm_ev.go [true] (ps := [mm_cmp .ne r1 (0 : Int32)]) (c1 := (21, [some (.ref 0), some (.int a0)], [], mH S, 0, 0)) rfl ⟨h3, trivial⟩ ?_
    refine mm_ev.go [true] (ps := []) (c1 := (22, [some (.ref 0), some (.int a0)], [.ref 0], mH S, 0, 0)) rfl trivial ?_
    obtain ⟨r4, h5, h⟩ := mb_b h
    have h7 := F13_ok (sc := sc) d h5
    by_cases h6 : r4 = 0
    · rw [if_pos h6] at h
      rw [if_pos h6] at h7
      refine mm_ev.call (q := mq16) (q2 := mq13) (b := (22, .invokevirtual 151, 3, 2, 6, 13, 1, 0, [592, 589, 591, 48, 33])) (as := [.ref 0]) (r := []) (v := none) (h1 := mH S) rfl rfl rfl rfl ⟨Nat.le_of_ble_eq_true rfl, Nat.le_of_ble_eq_true rfl, Nat.le_of_ble_eq_true rfl⟩ h7 ?_
      refine mm_ev.to (c := (25, [some (.ref 0), some (.int a0)], [], mH S, 1, 6)) rfl ?_
      refine mm_ev.go [true, true, true, true, true, true] (ps := []) (c1 := (37, [some (.ref 0), some (.int a0)], [.int (S.1 15), .int a0, .ref 28], mH S, 1, 6)) rfl trivial ?_
      obtain ⟨r8, h9, h⟩ := mb_b h
      refine mm_ev.call (q := mq16) (q2 := mq55) (b := (37, .invokevirtual 177, 3, 2, 3, 55, 3, 5, [636, 633, 635, 53, 34])) (as := [.ref 28, .int a0, .int (S.1 15)]) (r := []) (v := (some (.int r8))) (h1 := mH S) rfl rfl rfl rfl ⟨Nat.le_of_ble_eq_true rfl, Nat.le_of_ble_eq_true rfl, Nat.le_of_ble_eq_true rfl⟩ (F55_ok (d + 5) h9) ?_
      refine mm_ev.to (c := (40, [some (.ref 0), some (.int a0)], [.int r8], mH S, 1, 6)) rfl ?_
      cases h
      exact mm_ev.ret (q := mq16) (b := (40, .ireturn, 1, 3, 0, 0, 0, 0, [])) rfl rfl rfl ⟨Nat.le_of_ble_eq_true rfl, Nat.le_of_ble_eq_true rfl⟩ trivial ⟨rfl, rfl⟩
    · rw [if_neg h6] at h
      rw [if_neg h6] at h7
      cases h
      obtain ⟨z9, hz9⟩ : ∃ z, r4 = z + 1 := ⟨r4 - 1, by omega⟩
      exact mm_ev.callO (q := mq16) (q2 := mq13) (b := (22, .invokevirtual 151, 3, 2, 6, 13, 1, 0, [592, 589, 591, 48, 33])) (as := [.ref 0]) (r := []) rfl rfl rfl rfl rfl ⟨Nat.le_of_ble_eq_true rfl, Nat.le_of_ble_eq_true rfl, Nat.le_of_ble_eq_true rfl⟩ h7 rfl rfl ⟨by rw [if_neg h6], rfl⟩
def I35_7 (S : mSt) (v3 : Int32) : Option (Nat × mSt × Int32) := if (5 : Int32) ≤ v3 then (some (1, S, 0)) else ((F30 S v3).bind fun r2 => (if 0 ≤ v3 ∧ v3.toNatClampNeg < 5 then (F29 (S.1, (va_up S.2.1 16 (upd (S.2.1 16) v3.toNatClampNeg r2)), S.2.2) v3).bind fun r5 => (if r5 = (0 : Int32) then (some (0, (S.1, (va_up S.2.1 16 (upd (S.2.1 16) v3.toNatClampNeg r2)), S.2.2), v3 + (1 : Int32))) else ((F36 (S.1, (va_up S.2.1 16 (upd (S.2.1 16) v3.toNatClampNeg r2)), S.2.2) v3 (0 : Int32)).bind fun r8 => (if (r8.2.1 9 v3.toNatClampNeg) = (0 : Int32) then (some (0, r8, v3 + (1 : Int32))) else ((F36 r8 v3 (1 : Int32)).bind fun r11 => (some (0, r11, v3 + (1 : Int32))))))) else none))
set_option maxRecDepth 100000 in
set_option maxHeartbeats 4000000 in
theorem I35_7_ok {sc : mS} (d : Nat) {S : mSt} {v3 : Int32} {r : Nat × mSt × Int32} (h : I35_7 S v3 = some r) {Q : mR → List mE → Prop} (hc0 : r.1 = 0 → mm_ev sc mmK mmP (d + 3) 35 (7, [some (.ref 10), some (.ref 1), some (.ref 3), some (.int r.2.2)], [], mH r.2.1, 0, 0) Q) (hc1 : r.1 = 1 → ∀ u0 : Option Value, ∀ u1 : Option Value, ∀ u2 : Option Value, ∀ u3 : Option Value, mm_ev sc mmK mmP (d + 3) 35 (62, [u0, u1, u2, u3], [], mH r.2.1, 0, 0) Q) : mm_ev sc mmK mmP (d + 3) 35 (7, [some (.ref 10), some (.ref 1), some (.ref 3), some (.int v3)], [], mH S, 0, 0) Q := by
  unfold I35_7 at h
  by_cases h1 : (5 : Int32) ≤ v3
  · rw [if_pos h1] at h
    refine mm_ev.go [true, true, true] (ps := [mm_cmp .ge v3 (5 : Int32)]) (c1 := (62, [some (.ref 10), some (.ref 1), some (.ref 3), some (.int v3)], [], mH S, 0, 0)) rfl ⟨h1, trivial⟩ ?_
    cases h
    exact hc1 rfl (some (.ref 10)) (some (.ref 1)) (some (.ref 3)) (some (.int v3))
  · rw [if_neg h1] at h
    refine mm_ev.go [true, true, false] (ps := [¬ mm_cmp .ge v3 (5 : Int32)]) (c1 := (12, [some (.ref 10), some (.ref 1), some (.ref 3), some (.int v3)], [], mH S, 0, 0)) rfl ⟨h1, trivial⟩ ?_
    refine mm_ev.go [true, true, true, true, true] (ps := []) (c1 := (19, [some (.ref 10), some (.ref 1), some (.ref 3), some (.int v3)], [.int v3, .ref 3, .int v3, .ref 16], mH S, 0, 0)) rfl trivial ?_
    obtain ⟨r2, h3, h⟩ := mb_b h
    refine mm_ev.call (q := mq35) (q2 := mq30) (b := (19, .invokevirtual 35, 3, 2, 3, 30, 2, 2, [475, 472, 474, 50, 9])) (as := [.ref 3, .int v3]) (r := [.int v3, .ref 16]) (v := (some (.int r2))) (h1 := mH S) rfl rfl rfl rfl ⟨Nat.le_of_ble_eq_true rfl, Nat.le_of_ble_eq_true rfl, Nat.le_of_ble_eq_true rfl⟩ (F30_ok (d + 1) h3) ?_
    refine mm_ev.to (c := (22, [some (.ref 10), some (.ref 1), some (.ref 3), some (.int v3)], [.int r2, .int v3, .ref 16], mH S, 0, 0)) rfl ?_
    obtain ⟨h4, h⟩ := mb_i h
    refine mm_ev.go [true, true, true] (ps := [mm_in v3 5]) (c1 := (25, [some (.ref 10), some (.ref 1), some (.ref 3), some (.int v3)], [.int v3, .ref 3], mH (S.1, (va_up S.2.1 16 (upd (S.2.1 16) v3.toNatClampNeg r2)), S.2.2), 0, 0)) rfl ⟨h4, trivial⟩ ?_
    obtain ⟨r5, h6, h⟩ := mb_b h
    refine mm_ev.call (q := mq35) (q2 := mq29) (b := (25, .invokevirtual 41, 3, 2, 3, 29, 2, 2, [419, 477, 418, 50, 6])) (as := [.ref 3, .int v3]) (r := []) (v := (some (.int r5))) (h1 := mH (S.1, (va_up S.2.1 16 (upd (S.2.1 16) v3.toNatClampNeg r2)), S.2.2)) rfl rfl rfl rfl ⟨Nat.le_of_ble_eq_true rfl, Nat.le_of_ble_eq_true rfl, Nat.le_of_ble_eq_true rfl⟩ (F29_ok (d + 2) h6) ?_
    refine mm_ev.to (c := (28, [some (.ref 10), some (.ref 1), some (.ref 3), some (.int v3)], [.int r5], mH (S.1, (va_up S.2.1 16 (upd (S.2.1 16) v3.toNatClampNeg r2)), S.2.2), 0, 0)) rfl ?_
    by_cases h7 : r5 = (0 : Int32)
    · rw [if_pos h7] at h
      refine mm_ev.go [true] (ps := [mm_cmp .eq r5 (0 : Int32)]) (c1 := (56, [some (.ref 10), some (.ref 1), some (.ref 3), some (.int v3)], [], mH (S.1, (va_up S.2.1 16 (upd (S.2.1 16) v3.toNatClampNeg r2)), S.2.2), 0, 0)) rfl ⟨h7, trivial⟩ ?_
      refine mm_ev.go [true, true] (ps := []) (c1 := (7, [some (.ref 10), some (.ref 1), some (.ref 3), some (.int (v3 + (1 : Int32)))], [], mH (S.1, (va_up S.2.1 16 (upd (S.2.1 16) v3.toNatClampNeg r2)), S.2.2), 0, 0)) rfl trivial ?_
      cases h
      exact hc0 rfl
    · rw [if_neg h7] at h
      refine mm_ev.go [false] (ps := [¬ mm_cmp .eq r5 (0 : Int32)]) (c1 := (31, [some (.ref 10), some (.ref 1), some (.ref 3), some (.int v3)], [], mH (S.1, (va_up S.2.1 16 (upd (S.2.1 16) v3.toNatClampNeg r2)), S.2.2), 0, 0)) rfl ⟨h7, trivial⟩ ?_
      refine mm_ev.go [true, true, true, true, true] (ps := []) (c1 := (36, [some (.ref 10), some (.ref 1), some (.ref 3), some (.int v3)], [.int (0 : Int32), .int v3, .ref 3, .ref 1, .ref 10], mH (S.1, (va_up S.2.1 16 (upd (S.2.1 16) v3.toNatClampNeg r2)), S.2.2), 0, 0)) rfl trivial ?_
      obtain ⟨r8, h9, h⟩ := mb_b h
      refine mm_ev.call (q := mq35) (q2 := mq36) (b := (36, .invokevirtual 45, 3, 2, 2, 36, 5, 3, [481, 478, 480, 51, 10])) (as := [.ref 10, .ref 1, .ref 3, .int v3, .int (0 : Int32)]) (r := []) (v := none) (h1 := mH r8) rfl rfl rfl rfl ⟨Nat.le_of_ble_eq_true rfl, Nat.le_of_ble_eq_true rfl, Nat.le_of_ble_eq_true rfl⟩ (F36_ok d h9) ?_
      refine mm_ev.to (c := (39, [some (.ref 10), some (.ref 1), some (.ref 3), some (.int v3)], [], mH r8, 0, 0)) rfl ?_
      by_cases h10 : (r8.2.1 9 v3.toNatClampNeg) = (0 : Int32)
      · rw [if_pos h10] at h
        refine mm_ev.go [true, true, true, true, true] (ps := [mm_in v3 5, mm_cmp .eq (r8.2.1 9 v3.toNatClampNeg) (0 : Int32)]) (c1 := (56, [some (.ref 10), some (.ref 1), some (.ref 3), some (.int v3)], [], mH r8, 0, 0)) rfl ⟨h4, h10, trivial⟩ ?_
        refine mm_ev.go [true, true] (ps := []) (c1 := (7, [some (.ref 10), some (.ref 1), some (.ref 3), some (.int (v3 + (1 : Int32)))], [], mH r8, 0, 0)) rfl trivial ?_
        cases h
        exact hc0 rfl
      · rw [if_neg h10] at h
        refine mm_ev.go [true, true, true, true, false] (ps := [mm_in v3 5, ¬ mm_cmp .eq (r8.2.1 9 v3.toNatClampNeg) (0 : Int32)]) (c1 := (48, [some (.ref 10), some (.ref 1), some (.ref 3), some (.int v3)], [], mH r8, 0, 0)) rfl ⟨h4, h10, trivial⟩ ?_
        refine mm_ev.go [true, true, true, true, true] (ps := []) (c1 := (53, [some (.ref 10), some (.ref 1), some (.ref 3), some (.int v3)], [.int (1 : Int32), .int v3, .ref 3, .ref 1, .ref 10], mH r8, 0, 0)) rfl trivial ?_
        obtain ⟨r11, h12, h⟩ := mb_b h
        refine mm_ev.call (q := mq35) (q2 := mq36) (b := (53, .invokevirtual 45, 3, 2, 2, 36, 5, 3, [481, 478, 480, 51, 10])) (as := [.ref 10, .ref 1, .ref 3, .int v3, .int (1 : Int32)]) (r := []) (v := none) (h1 := mH r11) rfl rfl rfl rfl ⟨Nat.le_of_ble_eq_true rfl, Nat.le_of_ble_eq_true rfl, Nat.le_of_ble_eq_true rfl⟩ (F36_ok d h12) ?_
        refine mm_ev.to (c := (56, [some (.ref 10), some (.ref 1), some (.ref 3), some (.int v3)], [], mH r11, 0, 0)) rfl ?_
        refine mm_ev.go [true, true] (ps := []) (c1 := (7, [some (.ref 10), some (.ref 1), some (.ref 3), some (.int (v3 + (1 : Int32)))], [], mH r11, 0, 0)) rfl trivial ?_
        cases h
        exact hc0 rfl
def L35_7 : Nat → mSt → Int32 → Option (Nat × mSt × Int32)
  | 0, _, _ => none
  | n + 1, S, v3 => (I35_7 S v3).bind fun r => if r.1 = 0 then L35_7 n r.2.1 r.2.2 else some r
set_option maxRecDepth 100000 in
set_option maxHeartbeats 4000000 in
theorem L35_7_ok {sc : mS} (d : Nat) {n : Nat} {S : mSt} {v3 : Int32} {r : Nat × mSt × Int32} (h : L35_7 n S v3 = some r) {Q : mR → List mE → Prop} (hc1 : r.1 = 1 → ∀ u0 : Option Value, ∀ u1 : Option Value, ∀ u2 : Option Value, ∀ u3 : Option Value, mm_ev sc mmK mmP (d + 3) 35 (62, [u0, u1, u2, u3], [], mH r.2.1, 0, 0) Q) : mm_ev sc mmK mmP (d + 3) 35 (7, [some (.ref 10), some (.ref 1), some (.ref 3), some (.int v3)], [], mH S, 0, 0) Q := by
  induction n generalizing S v3 with
  | zero => cases h
  | succ n ih =>
    unfold L35_7 at h
    obtain ⟨r1, h1, h⟩ := mb_b h
    by_cases h0 : r1.1 = 0
    · rw [if_pos h0] at h
      refine I35_7_ok d h1 (fun _ => ih h) (fun z => absurd z (by omega))
    · rw [if_neg h0] at h
      cases h
      exact I35_7_ok d h1 (fun z => absurd z h0) hc1
/-- SlabPatterns$Kinds.list -/
def F35 (n : Nat) (S : mSt) : Option (mSt) := (L35_7 n ((va_up S.1 12 (0 : Int32)), S.2.1, S.2.2) (0 : Int32)).bind fun r13 => (some r13.2.1)
set_option maxRecDepth 100000 in
set_option maxHeartbeats 4000000 in
theorem F35_ok {sc : mS} (d : Nat) {n : Nat} {S : mSt} {r : mSt} (h : F35 n S = some r) : mm_ev sc mmK mmP (d + 3) 35 (0, mm_en 4 [.ref 10, .ref 1, .ref 3], [], mH S, 0, 0) (mm_is (.inl none) (mH r)) := by
  unfold F35 at h
  refine mm_ev.to (c := (0, [some (.ref 10), some (.ref 1), some (.ref 3), none], [], mH S, 0, 0)) rfl ?_
  refine mm_ev.go [true, true, true, true, true] (ps := [_, _]) (c1 := (7, [some (.ref 10), some (.ref 1), some (.ref 3), some (.int (0 : Int32))], [], mH ((va_up S.1 12 (0 : Int32)), S.2.1, S.2.2), 0, 0)) rfl ⟨trivial, (Nat.le_of_ble_eq_true rfl), trivial⟩ ?_
  obtain ⟨r13, h14, h⟩ := mb_b h
  refine L35_7_ok d h14 ?_
  · intro h15 o1_0 o1_1 o1_2 o1_3
    cases h
    exact mm_ev.ret (q := mq35) (b := (62, .return_, 1, 3, 0, 0, 0, 0, [])) rfl rfl rfl ⟨Nat.le_of_ble_eq_true rfl, Nat.le_of_ble_eq_true rfl⟩ trivial ⟨rfl, rfl⟩
def I41_49 (S : mSt) (v3 v5 : Int32) : Option (Nat × Int32 × Int32) := if (S.1 12) ≤ v5 then (some (1, 0, 0)) else (if (10 : Int32) ≤ v5 then (some (1, 0, 0)) else (if 0 ≤ v3 ∧ v3.toNatClampNeg < 101 then if 0 ≤ v5 ∧ v5.toNatClampNeg < 10 then (F25 S).bind fun r12 => (if r12 < ((S.2.1 26 v3.toNatClampNeg) + (S.2.1 13 v5.toNatClampNeg)) then (some (0, v3, v5 + (1 : Int32))) else ((F24 S ((S.2.1 26 v3.toNatClampNeg) + (S.2.1 13 v5.toNatClampNeg))).bind fun r15 => (if r15 = (0 : Int32) then ((F42 S (S.2.1 11 v5.toNatClampNeg)).bind fun r18 => (if r18 ≤ (0 : Int32) then (some (0, v3, v5 + (1 : Int32))) else (some (2, 0, v5)))) else (some (0, v3, v5 + (1 : Int32)))))) else none else none))
set_option maxRecDepth 100000 in
set_option maxHeartbeats 4000000 in
theorem I41_49_ok {sc : mS} (d : Nat) {S : mSt} {v3 v5 : Int32} {r : Nat × Int32 × Int32} (h : I41_49 S v3 v5 = some r) (o4 : Option Value) (o6 : Option Value) {Q : mR → List mE → Prop} (hc0 : r.1 = 0 → ∀ u4 : Option Value, ∀ u6 : Option Value, mm_ev sc mmK mmP (d + 2) 41 (49, [some (.ref 17), some (.ref 1), some (.ref 10), some (.int r.2.1), u4, some (.int r.2.2), u6], [], mH S, 0, 0) Q) (hc1 : r.1 = 1 → ∀ u0 : Option Value, ∀ u1 : Option Value, ∀ u2 : Option Value, ∀ u3 : Option Value, ∀ u4 : Option Value, ∀ u5 : Option Value, ∀ u6 : Option Value, mm_ev sc mmK mmP (d + 2) 41 (122, [u0, u1, u2, u3, u4, u5, u6], [], mH S, 0, 0) Q) (hc2 : r.1 = 2 → ∀ u0 : Option Value, ∀ u1 : Option Value, ∀ u2 : Option Value, ∀ u3 : Option Value, ∀ u4 : Option Value, ∀ u6 : Option Value, mm_ev sc mmK mmP (d + 2) 41 (113, [u0, u1, u2, u3, u4, some (.int r.2.2), u6], [], mH S, 0, 0) Q) : mm_ev sc mmK mmP (d + 2) 41 (49, [some (.ref 17), some (.ref 1), some (.ref 10), some (.int v3), o4, some (.int v5), o6], [], mH S, 0, 0) Q := by
  unfold I41_49 at h
  by_cases h8 : (S.1 12) ≤ v5
  · rw [if_pos h8] at h
    refine mm_ev.go [true, true, true, true] (ps := [mm_cmp .ge v5 (S.1 12)]) (c1 := (122, [some (.ref 17), some (.ref 1), some (.ref 10), some (.int v3), o4, some (.int v5), o6], [], mH S, 0, 0)) rfl ⟨h8, trivial⟩ ?_
    cases h
    exact hc1 rfl (some (.ref 17)) (some (.ref 1)) (some (.ref 10)) (some (.int v3)) o4 (some (.int v5)) o6
  · rw [if_neg h8] at h
    refine mm_ev.go [true, true, true, false] (ps := [¬ mm_cmp .ge v5 (S.1 12)]) (c1 := (58, [some (.ref 17), some (.ref 1), some (.ref 10), some (.int v3), o4, some (.int v5), o6], [], mH S, 0, 0)) rfl ⟨h8, trivial⟩ ?_
    by_cases h9 : (10 : Int32) ≤ v5
    · rw [if_pos h9] at h
      refine mm_ev.go [true, true, true] (ps := [mm_cmp .ge v5 (10 : Int32)]) (c1 := (122, [some (.ref 17), some (.ref 1), some (.ref 10), some (.int v3), o4, some (.int v5), o6], [], mH S, 0, 0)) rfl ⟨h9, trivial⟩ ?_
      cases h
      exact hc1 rfl (some (.ref 17)) (some (.ref 1)) (some (.ref 10)) (some (.int v3)) o4 (some (.int v5)) o6
    · rw [if_neg h9] at h
      refine mm_ev.go [true, true, false] (ps := [¬ mm_cmp .ge v5 (10 : Int32)]) (c1 := (65, [some (.ref 17), some (.ref 1), some (.ref 10), some (.int v3), o4, some (.int v5), o6], [], mH S, 0, 0)) rfl ⟨h9, trivial⟩ ?_
      obtain ⟨h10, h⟩ := mb_i h
      obtain ⟨h11, h⟩ := mb_i h
      refine mm_ev.go [true, true, true, true, true, true, true, true, true, true, true, true] (ps := [mm_in v3 101, mm_in v5 10]) (c1 := (84, [some (.ref 17), some (.ref 1), some (.ref 10), some (.int v3), o4, some (.int v5), some (.int ((S.2.1 26 v3.toNatClampNeg) + (S.2.1 13 v5.toNatClampNeg)))], [.ref 1, .int ((S.2.1 26 v3.toNatClampNeg) + (S.2.1 13 v5.toNatClampNeg))], mH S, 0, 0)) rfl ⟨h10, h11, trivial⟩ ?_
      obtain ⟨r12, h13, h⟩ := mb_b h
      refine mm_ev.call (q := mq41) (q2 := mq25) (b := (84, .invokevirtual 85, 3, 2, 3, 25, 1, 1, [519, 516, 518, 49, 18])) (as := [.ref 1]) (r := [.int ((S.2.1 26 v3.toNatClampNeg) + (S.2.1 13 v5.toNatClampNeg))]) (v := (some (.int r12))) (h1 := mH S) rfl rfl rfl rfl ⟨Nat.le_of_ble_eq_true rfl, Nat.le_of_ble_eq_true rfl, Nat.le_of_ble_eq_true rfl⟩ (F25_ok (d + 1) h13) ?_
      refine mm_ev.to (c := (87, [some (.ref 17), some (.ref 1), some (.ref 10), some (.int v3), o4, some (.int v5), some (.int ((S.2.1 26 v3.toNatClampNeg) + (S.2.1 13 v5.toNatClampNeg)))], [.int r12, .int ((S.2.1 26 v3.toNatClampNeg) + (S.2.1 13 v5.toNatClampNeg))], mH S, 0, 0)) rfl ?_
      by_cases h14 : r12 < ((S.2.1 26 v3.toNatClampNeg) + (S.2.1 13 v5.toNatClampNeg))
      · rw [if_pos h14] at h
        refine mm_ev.go [true] (ps := [mm_cmp .gt ((S.2.1 26 v3.toNatClampNeg) + (S.2.1 13 v5.toNatClampNeg)) r12]) (c1 := (116, [some (.ref 17), some (.ref 1), some (.ref 10), some (.int v3), o4, some (.int v5), some (.int ((S.2.1 26 v3.toNatClampNeg) + (S.2.1 13 v5.toNatClampNeg)))], [], mH S, 0, 0)) rfl ⟨h14, trivial⟩ ?_
        refine mm_ev.go [true, true] (ps := []) (c1 := (49, [some (.ref 17), some (.ref 1), some (.ref 10), some (.int v3), o4, some (.int (v5 + (1 : Int32))), some (.int ((S.2.1 26 v3.toNatClampNeg) + (S.2.1 13 v5.toNatClampNeg)))], [], mH S, 0, 0)) rfl trivial ?_
        cases h
        exact hc0 rfl o4 (some (.int ((S.2.1 26 v3.toNatClampNeg) + (S.2.1 13 v5.toNatClampNeg))))
      · rw [if_neg h14] at h
        refine mm_ev.go [false] (ps := [¬ mm_cmp .gt ((S.2.1 26 v3.toNatClampNeg) + (S.2.1 13 v5.toNatClampNeg)) r12]) (c1 := (90, [some (.ref 17), some (.ref 1), some (.ref 10), some (.int v3), o4, some (.int v5), some (.int ((S.2.1 26 v3.toNatClampNeg) + (S.2.1 13 v5.toNatClampNeg)))], [], mH S, 0, 0)) rfl ⟨h14, trivial⟩ ?_
        refine mm_ev.go [true, true] (ps := []) (c1 := (93, [some (.ref 17), some (.ref 1), some (.ref 10), some (.int v3), o4, some (.int v5), some (.int ((S.2.1 26 v3.toNatClampNeg) + (S.2.1 13 v5.toNatClampNeg)))], [.int ((S.2.1 26 v3.toNatClampNeg) + (S.2.1 13 v5.toNatClampNeg)), .ref 1], mH S, 0, 0)) rfl trivial ?_
        obtain ⟨r15, h16, h⟩ := mb_b h
        refine mm_ev.call (q := mq41) (q2 := mq24) (b := (93, .invokevirtual 71, 3, 2, 3, 24, 2, 1, [514, 511, 513, 49, 17])) (as := [.ref 1, .int ((S.2.1 26 v3.toNatClampNeg) + (S.2.1 13 v5.toNatClampNeg))]) (r := []) (v := (some (.int r15))) (h1 := mH S) rfl rfl rfl rfl ⟨Nat.le_of_ble_eq_true rfl, Nat.le_of_ble_eq_true rfl, Nat.le_of_ble_eq_true rfl⟩ (F24_ok (d + 1) h16) ?_
        refine mm_ev.to (c := (96, [some (.ref 17), some (.ref 1), some (.ref 10), some (.int v3), o4, some (.int v5), some (.int ((S.2.1 26 v3.toNatClampNeg) + (S.2.1 13 v5.toNatClampNeg)))], [.int r15], mH S, 0, 0)) rfl ?_
        by_cases h17 : r15 = (0 : Int32)
        · rw [if_pos h17] at h
          refine mm_ev.go [false] (ps := [¬ mm_cmp .ne r15 (0 : Int32)]) (c1 := (99, [some (.ref 17), some (.ref 1), some (.ref 10), some (.int v3), o4, some (.int v5), some (.int ((S.2.1 26 v3.toNatClampNeg) + (S.2.1 13 v5.toNatClampNeg)))], [], mH S, 0, 0)) rfl ⟨(fun z => z h17), trivial⟩ ?_
          refine mm_ev.go [true, true, true, true, true] (ps := [mm_in v5 10]) (c1 := (107, [some (.ref 17), some (.ref 1), some (.ref 10), some (.int v3), o4, some (.int v5), some (.int ((S.2.1 26 v3.toNatClampNeg) + (S.2.1 13 v5.toNatClampNeg)))], [.int (S.2.1 11 v5.toNatClampNeg), .ref 17], mH S, 0, 0)) rfl ⟨h11, trivial⟩ ?_
          obtain ⟨r18, h19, h⟩ := mb_b h
          refine mm_ev.call (q := mq41) (q2 := mq42) (b := (107, .invokevirtual 92, 3, 2, 2, 42, 2, 4, [523, 520, 522, 52, 19])) (as := [.ref 17, .int (S.2.1 11 v5.toNatClampNeg)]) (r := []) (v := (some (.int r18))) (h1 := mH S) rfl rfl rfl rfl ⟨Nat.le_of_ble_eq_true rfl, Nat.le_of_ble_eq_true rfl, Nat.le_of_ble_eq_true rfl⟩ (F42_ok d h19) ?_
          refine mm_ev.to (c := (110, [some (.ref 17), some (.ref 1), some (.ref 10), some (.int v3), o4, some (.int v5), some (.int ((S.2.1 26 v3.toNatClampNeg) + (S.2.1 13 v5.toNatClampNeg)))], [.int r18], mH S, 0, 0)) rfl ?_
          by_cases h20 : r18 ≤ (0 : Int32)
          · rw [if_pos h20] at h
            refine mm_ev.go [true] (ps := [mm_cmp .le r18 (0 : Int32)]) (c1 := (116, [some (.ref 17), some (.ref 1), some (.ref 10), some (.int v3), o4, some (.int v5), some (.int ((S.2.1 26 v3.toNatClampNeg) + (S.2.1 13 v5.toNatClampNeg)))], [], mH S, 0, 0)) rfl ⟨h20, trivial⟩ ?_
            refine mm_ev.go [true, true] (ps := []) (c1 := (49, [some (.ref 17), some (.ref 1), some (.ref 10), some (.int v3), o4, some (.int (v5 + (1 : Int32))), some (.int ((S.2.1 26 v3.toNatClampNeg) + (S.2.1 13 v5.toNatClampNeg)))], [], mH S, 0, 0)) rfl trivial ?_
            cases h
            exact hc0 rfl o4 (some (.int ((S.2.1 26 v3.toNatClampNeg) + (S.2.1 13 v5.toNatClampNeg))))
          · rw [if_neg h20] at h
            refine mm_ev.go [false] (ps := [¬ mm_cmp .le r18 (0 : Int32)]) (c1 := (113, [some (.ref 17), some (.ref 1), some (.ref 10), some (.int v3), o4, some (.int v5), some (.int ((S.2.1 26 v3.toNatClampNeg) + (S.2.1 13 v5.toNatClampNeg)))], [], mH S, 0, 0)) rfl ⟨h20, trivial⟩ ?_
            cases h
            exact hc2 rfl (some (.ref 17)) (some (.ref 1)) (some (.ref 10)) (some (.int v3)) o4 (some (.int ((S.2.1 26 v3.toNatClampNeg) + (S.2.1 13 v5.toNatClampNeg))))
        · rw [if_neg h17] at h
          refine mm_ev.go [true] (ps := [mm_cmp .ne r15 (0 : Int32)]) (c1 := (116, [some (.ref 17), some (.ref 1), some (.ref 10), some (.int v3), o4, some (.int v5), some (.int ((S.2.1 26 v3.toNatClampNeg) + (S.2.1 13 v5.toNatClampNeg)))], [], mH S, 0, 0)) rfl ⟨h17, trivial⟩ ?_
          refine mm_ev.go [true, true] (ps := []) (c1 := (49, [some (.ref 17), some (.ref 1), some (.ref 10), some (.int v3), o4, some (.int (v5 + (1 : Int32))), some (.int ((S.2.1 26 v3.toNatClampNeg) + (S.2.1 13 v5.toNatClampNeg)))], [], mH S, 0, 0)) rfl trivial ?_
          cases h
          exact hc0 rfl o4 (some (.int ((S.2.1 26 v3.toNatClampNeg) + (S.2.1 13 v5.toNatClampNeg))))
def L41_49 : Nat → mSt → Int32 → Int32 → Option (Nat × Int32 × Int32)
  | 0, _, _, _ => none
  | n + 1, S, v3, v5 => (I41_49 S v3 v5).bind fun r => if r.1 = 0 then L41_49 n S r.2.1 r.2.2 else some r
set_option maxRecDepth 100000 in
set_option maxHeartbeats 4000000 in
theorem L41_49_ok {sc : mS} (d : Nat) {n : Nat} {S : mSt} {v3 v5 : Int32} {r : Nat × Int32 × Int32} (h : L41_49 n S v3 v5 = some r) (o4 : Option Value) (o6 : Option Value) {Q : mR → List mE → Prop} (hc1 : r.1 = 1 → ∀ u0 : Option Value, ∀ u1 : Option Value, ∀ u2 : Option Value, ∀ u3 : Option Value, ∀ u4 : Option Value, ∀ u5 : Option Value, ∀ u6 : Option Value, mm_ev sc mmK mmP (d + 2) 41 (122, [u0, u1, u2, u3, u4, u5, u6], [], mH S, 0, 0) Q) (hc2 : r.1 = 2 → ∀ u0 : Option Value, ∀ u1 : Option Value, ∀ u2 : Option Value, ∀ u3 : Option Value, ∀ u4 : Option Value, ∀ u6 : Option Value, mm_ev sc mmK mmP (d + 2) 41 (113, [u0, u1, u2, u3, u4, some (.int r.2.2), u6], [], mH S, 0, 0) Q) : mm_ev sc mmK mmP (d + 2) 41 (49, [some (.ref 17), some (.ref 1), some (.ref 10), some (.int v3), o4, some (.int v5), o6], [], mH S, 0, 0) Q := by
  induction n generalizing v3 v5 o4 o6 with
  | zero => cases h
  | succ n ih =>
    unfold L41_49 at h
    obtain ⟨r1, h1, h⟩ := mb_b h
    by_cases h0 : r1.1 = 0
    · rw [if_pos h0] at h
      refine I41_49_ok d h1 o4 o6 (fun _ z0 z1 => ih h z0 z1) (fun z => absurd z (by omega)) (fun z => absurd z (by omega))
    · rw [if_neg h0] at h
      cases h
      exact I41_49_ok d h1 o4 o6 (fun z => absurd z h0) hc1 hc2
/-- SlabPatterns$Search.findKind -/
def F41 (n : Nat) (S : mSt) : Option (Int32) := (F6 S (S.1 14) (0 : Int32) (99 : Int32)).bind fun r1 => (if r1 = (0 : Int32) then (if 0 ≤ (S.1 14) ∧ (S.1 14).toNatClampNeg < 101 then (F24 S (S.2.1 26 (S.1 14).toNatClampNeg)).bind fun r5 => (if r5 = (0 : Int32) then ((L41_49 n S (S.1 14) (if (0 : Int32) < S.2.1 25 (S.1 14).toNatClampNeg then S.2.1 25 (S.1 14).toNatClampNeg else (0 : Int32))).bind fun r21 => (if r21.1 = 1 then (some ((-1 : Int32))) else (if r21.1 = 2 then (some r21.2.2) else none))) else (some ((-1 : Int32)))) else none) else (some ((-1 : Int32))))
set_option maxRecDepth 100000 in
set_option maxHeartbeats 4000000 in
theorem F41_ok {sc : mS} (d : Nat) {n : Nat} {S : mSt} {r : Int32} (h : F41 n S = some r) : mm_ev sc mmK mmP (d + 2) 41 (0, mm_en 7 [.ref 17, .ref 1, .ref 10], [], mH S, 0, 0) (mm_is (.inl (some (.int r))) (mH S)) := by
  unfold F41 at h
  refine mm_ev.to (c := (0, [some (.ref 17), some (.ref 1), some (.ref 10), none, none, none, none], [], mH S, 0, 0)) rfl ?_
  refine mm_ev.go [true, true, true, true, true, true, true] (ps := []) (c1 := (12, [some (.ref 17), some (.ref 1), some (.ref 10), some (.int (S.1 14)), none, none, none], [.int (99 : Int32), .int (0 : Int32), .int (S.1 14)], mH S, 0, 0)) rfl trivial ?_
  obtain ⟨r1, h2, h⟩ := mb_b h
  refine mm_ev.call (q := mq41) (q2 := mq6) (b := (12, .invokestatic 67, 3, 2, 5, 6, 3, 0, [302, 510, 301, 48])) (as := [.int (S.1 14), .int (0 : Int32), .int (99 : Int32)]) (r := []) (v := (some (.int r1))) (h1 := mH S) rfl rfl rfl rfl ⟨Nat.le_of_ble_eq_true rfl, Nat.le_of_ble_eq_true rfl, Nat.le_of_ble_eq_true rfl⟩ (F6_ok (d + 1) h2) ?_
  refine mm_ev.to (c := (15, [some (.ref 17), some (.ref 1), some (.ref 10), some (.int (S.1 14)), none, none, none], [.int r1], mH S, 0, 0)) rfl ?_
  by_cases h3 : r1 = (0 : Int32)
  · rw [if_pos h3] at h
    refine mm_ev.go [false] (ps := [¬ mm_cmp .ne r1 (0 : Int32)]) (c1 := (18, [some (.ref 17), some (.ref 1), some (.ref 10), some (.int (S.1 14)), none, none, none], [], mH S, 0, 0)) rfl ⟨(fun z => z h3), trivial⟩ ?_
    obtain ⟨h4, h⟩ := mb_i h
    refine mm_ev.go [true, true, true, true, true] (ps := [mm_in (S.1 14) 101]) (c1 := (25, [some (.ref 17), some (.ref 1), some (.ref 10), some (.int (S.1 14)), none, none, none], [.int (S.2.1 26 (S.1 14).toNatClampNeg), .ref 1], mH S, 0, 0)) rfl ⟨h4, trivial⟩ ?_
    obtain ⟨r5, h6, h⟩ := mb_b h
    refine mm_ev.call (q := mq41) (q2 := mq24) (b := (25, .invokevirtual 71, 3, 2, 3, 24, 2, 1, [514, 511, 513, 49, 17])) (as := [.ref 1, .int (S.2.1 26 (S.1 14).toNatClampNeg)]) (r := []) (v := (some (.int r5))) (h1 := mH S) rfl rfl rfl rfl ⟨Nat.le_of_ble_eq_true rfl, Nat.le_of_ble_eq_true rfl, Nat.le_of_ble_eq_true rfl⟩ (F24_ok (d + 1) h6) ?_
    refine mm_ev.to (c := (28, [some (.ref 17), some (.ref 1), some (.ref 10), some (.int (S.1 14)), none, none, none], [.int r5], mH S, 0, 0)) rfl ?_
    by_cases h7 : r5 = (0 : Int32)
    · rw [if_pos h7] at h
      refine mm_ev.go [true] (ps := [mm_cmp .eq r5 (0 : Int32)]) (c1 := (33, [some (.ref 17), some (.ref 1), some (.ref 10), some (.int (S.1 14)), none, none, none], [], mH S, 0, 0)) rfl ⟨h7, trivial⟩ ?_
      refine mm_ev.go [true, true, true, true, true, true, true, true, true] (ps := [mm_in (S.1 14) 101, _, _]) (c1 := (49, [some (.ref 17), some (.ref 1), some (.ref 10), some (.int (S.1 14)), some (.int (if (0 : Int32) < S.2.1 25 (S.1 14).toNatClampNeg then S.2.1 25 (S.1 14).toNatClampNeg else (0 : Int32))), some (.int (if (0 : Int32) < S.2.1 25 (S.1 14).toNatClampNeg then S.2.1 25 (S.1 14).toNatClampNeg else (0 : Int32))), none], [], mH S, 0, 0)) rfl ⟨h4, (Nat.le_of_ble_eq_true rfl), (Nat.le_of_ble_eq_true rfl), trivial⟩ ?_
      obtain ⟨r21, h22, h⟩ := mb_b h
      refine L41_49_ok d h22 (some (.int (if (0 : Int32) < S.2.1 25 (S.1 14).toNatClampNeg then S.2.1 25 (S.1 14).toNatClampNeg else (0 : Int32)))) none ?_ ?_
      · intro h23 o1_0 o1_1 o1_2 o1_3 o1_4 o1_5 o1_6
        rw [if_pos h23] at h
        refine mm_ev.go [true] (ps := []) (c1 := (123, [o1_0, o1_1, o1_2, o1_3, o1_4, o1_5, o1_6], [.int (-1 : Int32)], mH S, 0, 0)) rfl trivial ?_
        cases h
        exact mm_ev.ret (q := mq41) (b := (123, .ireturn, 1, 3, 0, 0, 0, 0, [])) rfl rfl rfl ⟨Nat.le_of_ble_eq_true rfl, Nat.le_of_ble_eq_true rfl⟩ trivial ⟨rfl, rfl⟩
      · intro h24 o2_0 o2_1 o2_2 o2_3 o2_4 o2_6
        rw [if_neg (by rw [h24]; decide)] at h
        rw [if_pos h24] at h
        refine mm_ev.go [true] (ps := []) (c1 := (115, [o2_0, o2_1, o2_2, o2_3, o2_4, some (.int r21.2.2), o2_6], [.int r21.2.2], mH S, 0, 0)) rfl trivial ?_
        cases h
        exact mm_ev.ret (q := mq41) (b := (115, .ireturn, 1, 3, 0, 0, 0, 0, [])) rfl rfl rfl ⟨Nat.le_of_ble_eq_true rfl, Nat.le_of_ble_eq_true rfl⟩ trivial ⟨rfl, rfl⟩
    · rw [if_neg h7] at h
      refine mm_ev.go [false] (ps := [¬ mm_cmp .eq r5 (0 : Int32)]) (c1 := (31, [some (.ref 17), some (.ref 1), some (.ref 10), some (.int (S.1 14)), none, none, none], [], mH S, 0, 0)) rfl ⟨h7, trivial⟩ ?_
      refine mm_ev.go [true] (ps := []) (c1 := (32, [some (.ref 17), some (.ref 1), some (.ref 10), some (.int (S.1 14)), none, none, none], [.int (-1 : Int32)], mH S, 0, 0)) rfl trivial ?_
      cases h
      exact mm_ev.ret (q := mq41) (b := (32, .ireturn, 1, 3, 0, 0, 0, 0, [])) rfl rfl rfl ⟨Nat.le_of_ble_eq_true rfl, Nat.le_of_ble_eq_true rfl⟩ trivial ⟨rfl, rfl⟩
  · rw [if_neg h3] at h
    refine mm_ev.go [true] (ps := [mm_cmp .ne r1 (0 : Int32)]) (c1 := (31, [some (.ref 17), some (.ref 1), some (.ref 10), some (.int (S.1 14)), none, none, none], [], mH S, 0, 0)) rfl ⟨h3, trivial⟩ ?_
    refine mm_ev.go [true] (ps := []) (c1 := (32, [some (.ref 17), some (.ref 1), some (.ref 10), some (.int (S.1 14)), none, none, none], [.int (-1 : Int32)], mH S, 0, 0)) rfl trivial ?_
    cases h
    exact mm_ev.ret (q := mq41) (b := (32, .ireturn, 1, 3, 0, 0, 0, 0, [])) rfl rfl rfl ⟨Nat.le_of_ble_eq_true rfl, Nat.le_of_ble_eq_true rfl⟩ trivial ⟨rfl, rfl⟩
/-- SlabPatterns$Search.lift -/
def F43 (S : mSt) : Option (mSt) := (F6 S ((S.1 14) - (1 : Int32)) (0 : Int32) (99 : Int32)).bind fun r1 => (if r1 = (0 : Int32) then (if 0 ≤ ((S.1 14) - (1 : Int32)) ∧ ((S.1 14) - (1 : Int32)).toNatClampNeg < 100 then (F44 ((va_up S.1 14 ((S.1 14) - (1 : Int32))), S.2.1, S.2.2) (S.2.1 19 ((S.1 14) - (1 : Int32)).toNatClampNeg) (-(S.2.1 23 ((S.1 14) - (1 : Int32)).toNatClampNeg))).bind fun r5 => (some r5) else none) else (some S))
set_option maxRecDepth 100000 in
set_option maxHeartbeats 4000000 in
theorem F43_ok {sc : mS} (d : Nat) {S : mSt} {r : mSt} (h : F43 S = some r) : mm_ev sc mmK mmP (d + 2) 43 (0, mm_en 2 [.ref 17], [], mH S, 0, 0) (mm_is (.inl none) (mH r)) := by
  unfold F43 at h
  refine mm_ev.to (c := (0, [some (.ref 17), none], [], mH S, 0, 0)) rfl ?_
  refine mm_ev.go [true, true, true, true, true, true, true, true, true] (ps := []) (c1 := (14, [some (.ref 17), some (.int ((S.1 14) - (1 : Int32)))], [.int (99 : Int32), .int (0 : Int32), .int ((S.1 14) - (1 : Int32))], mH S, 0, 0)) rfl trivial ?_
  obtain ⟨r1, h2, h⟩ := mb_b h
  refine mm_ev.call (q := mq43) (q2 := mq6) (b := (14, .invokestatic 67, 3, 2, 5, 6, 3, 0, [302, 510, 301, 48])) (as := [.int ((S.1 14) - (1 : Int32)), .int (0 : Int32), .int (99 : Int32)]) (r := []) (v := (some (.int r1))) (h1 := mH S) rfl rfl rfl rfl ⟨Nat.le_of_ble_eq_true rfl, Nat.le_of_ble_eq_true rfl, Nat.le_of_ble_eq_true rfl⟩ (F6_ok (d + 1) h2) ?_
  refine mm_ev.to (c := (17, [some (.ref 17), some (.int ((S.1 14) - (1 : Int32)))], [.int r1], mH S, 0, 0)) rfl ?_
  by_cases h3 : r1 = (0 : Int32)
  · rw [if_pos h3] at h
    refine mm_ev.go [true] (ps := [mm_cmp .eq r1 (0 : Int32)]) (c1 := (21, [some (.ref 17), some (.int ((S.1 14) - (1 : Int32)))], [], mH S, 0, 0)) rfl ⟨h3, trivial⟩ ?_
    obtain ⟨h4, h⟩ := mb_i h
    refine mm_ev.go [true, true, true, true, true, true, true, true, true, true, true, true, true, true, true, true] (ps := [_, _, mm_in ((S.1 14) - (1 : Int32)) 100, mm_in ((S.1 14) - (1 : Int32)) 100]) (c1 := (49, [some (.ref 17), some (.int ((S.1 14) - (1 : Int32)))], [.int (-(S.2.1 23 ((S.1 14) - (1 : Int32)).toNatClampNeg)), .int (S.2.1 19 ((S.1 14) - (1 : Int32)).toNatClampNeg), .ref 17], mH ((va_up S.1 14 ((S.1 14) - (1 : Int32))), S.2.1, S.2.2), 0, 0)) rfl ⟨trivial, (Nat.le_of_ble_eq_true rfl), h4, h4, trivial⟩ ?_
    obtain ⟨r5, h6, h⟩ := mb_b h
    refine mm_ev.call (q := mq43) (q2 := mq44) (b := (49, .invokevirtual 118, 3, 2, 2, 44, 3, 4, [531, 528, 530, 52, 21])) (as := [.ref 17, .int (S.2.1 19 ((S.1 14) - (1 : Int32)).toNatClampNeg), .int (-(S.2.1 23 ((S.1 14) - (1 : Int32)).toNatClampNeg))]) (r := []) (v := none) (h1 := mH r5) rfl rfl rfl rfl ⟨Nat.le_of_ble_eq_true rfl, Nat.le_of_ble_eq_true rfl, Nat.le_of_ble_eq_true rfl⟩ (F44_ok d h6) ?_
    refine mm_ev.to (c := (52, [some (.ref 17), some (.int ((S.1 14) - (1 : Int32)))], [], mH r5, 0, 0)) rfl ?_
    cases h
    exact mm_ev.ret (q := mq43) (b := (52, .return_, 1, 3, 0, 0, 0, 0, [])) rfl rfl rfl ⟨Nat.le_of_ble_eq_true rfl, Nat.le_of_ble_eq_true rfl⟩ trivial ⟨rfl, rfl⟩
  · rw [if_neg h3] at h
    refine mm_ev.go [false] (ps := [¬ mm_cmp .eq r1 (0 : Int32)]) (c1 := (20, [some (.ref 17), some (.int ((S.1 14) - (1 : Int32)))], [], mH S, 0, 0)) rfl ⟨h3, trivial⟩ ?_
    cases h
    exact mm_ev.ret (q := mq43) (b := (20, .return_, 1, 3, 0, 0, 0, 0, [])) rfl rfl rfl ⟨Nat.le_of_ble_eq_true rfl, Nat.le_of_ble_eq_true rfl⟩ trivial ⟨rfl, rfl⟩
/-- SlabPatterns$Search.keepIfBetter -/
def F46 (n : Nat) (S : mSt) : Option (mSt) := (F6 S (S.1 14) (0 : Int32) (100 : Int32)).bind fun r1 => (if r1 = (0 : Int32) then (if 0 ≤ (S.1 14) ∧ (S.1 14).toNatClampNeg < 101 then if (S.1 13) < (S.2.1 27 (S.1 14).toNatClampNeg) then ((F48 n ((va_up S.1 13 (S.2.1 27 (S.1 14).toNatClampNeg)), S.2.1, S.2.2)).bind fun r6 => (some r6)) else (if (S.2.1 27 (S.1 14).toNatClampNeg) = (S.1 13) then (if (S.1 15) ≤ (S.1 14) then (some S) else ((F48 n ((va_up S.1 13 (S.2.1 27 (S.1 14).toNatClampNeg)), S.2.1, S.2.2)).bind fun r10 => (some r10))) else (some S)) else none) else (some S))
set_option maxRecDepth 100000 in
set_option maxHeartbeats 4000000 in
theorem F46_ok {sc : mS} (d : Nat) {n : Nat} {S : mSt} {r : mSt} (h : F46 n S = some r) : mm_ev sc mmK mmP (d + 1) 46 (0, mm_en 4 [.ref 17, .ref 28], [], mH S, 0, 0) (mm_is (.inl none) (mH r)) := by
  unfold F46 at h
  refine mm_ev.to (c := (0, [some (.ref 17), some (.ref 28), none, none], [], mH S, 0, 0)) rfl ?_
  refine mm_ev.go [true, true, true, true, true, true, true] (ps := []) (c1 := (12, [some (.ref 17), some (.ref 28), some (.int (S.1 14)), none], [.int (100 : Int32), .int (0 : Int32), .int (S.1 14)], mH S, 0, 0)) rfl trivial ?_
  obtain ⟨r1, h2, h⟩ := mb_b h
  refine mm_ev.call (q := mq46) (q2 := mq6) (b := (12, .invokestatic 67, 3, 2, 5, 6, 3, 0, [302, 510, 301, 48])) (as := [.int (S.1 14), .int (0 : Int32), .int (100 : Int32)]) (r := []) (v := (some (.int r1))) (h1 := mH S) rfl rfl rfl rfl ⟨Nat.le_of_ble_eq_true rfl, Nat.le_of_ble_eq_true rfl, Nat.le_of_ble_eq_true rfl⟩ (F6_ok d h2) ?_
  refine mm_ev.to (c := (15, [some (.ref 17), some (.ref 28), some (.int (S.1 14)), none], [.int r1], mH S, 0, 0)) rfl ?_
  by_cases h3 : r1 = (0 : Int32)
  · rw [if_pos h3] at h
    refine mm_ev.go [true] (ps := [mm_cmp .eq r1 (0 : Int32)]) (c1 := (19, [some (.ref 17), some (.ref 28), some (.int (S.1 14)), none], [], mH S, 0, 0)) rfl ⟨h3, trivial⟩ ?_
    obtain ⟨h4, h⟩ := mb_i h
    by_cases h5 : (S.1 13) < (S.2.1 27 (S.1 14).toNatClampNeg)
    · rw [if_pos h5] at h
      refine mm_ev.go [true, true, true, true, true, true, true, true, true] (ps := [mm_in (S.1 14) 101, mm_cmp .gt (S.2.1 27 (S.1 14).toNatClampNeg) (S.1 13)]) (c1 := (50, [some (.ref 17), some (.ref 28), some (.int (S.1 14)), some (.int (S.2.1 27 (S.1 14).toNatClampNeg))], [], mH S, 0, 0)) rfl ⟨h4, h5, trivial⟩ ?_
      refine mm_ev.go [true, true, true, true, true, true] (ps := [_, _]) (c1 := (60, [some (.ref 17), some (.ref 28), some (.int (S.1 14)), some (.int (S.2.1 27 (S.1 14).toNatClampNeg))], [.ref 18, .ref 28], mH ((va_up S.1 13 (S.2.1 27 (S.1 14).toNatClampNeg)), S.2.1, S.2.2), 0, 0)) rfl ⟨trivial, (Nat.le_of_ble_eq_true rfl), trivial⟩ ?_
      obtain ⟨r6, h7, h⟩ := mb_b h
      refine mm_ev.call (q := mq46) (q2 := mq48) (b := (60, .invokevirtual 128, 3, 2, 3, 48, 2, 5, [548, 545, 547, 53, 25])) (as := [.ref 28, .ref 18]) (r := []) (v := none) (h1 := mH r6) rfl rfl rfl rfl ⟨Nat.le_of_ble_eq_true rfl, Nat.le_of_ble_eq_true rfl, Nat.le_of_ble_eq_true rfl⟩ (F48_ok d h7) ?_
      refine mm_ev.to (c := (63, [some (.ref 17), some (.ref 28), some (.int (S.1 14)), some (.int (S.2.1 27 (S.1 14).toNatClampNeg))], [], mH r6, 0, 0)) rfl ?_
      cases h
      exact mm_ev.ret (q := mq46) (b := (63, .return_, 1, 3, 0, 0, 0, 0, [])) rfl rfl rfl ⟨Nat.le_of_ble_eq_true rfl, Nat.le_of_ble_eq_true rfl⟩ trivial ⟨rfl, rfl⟩
    · rw [if_neg h5] at h
      refine mm_ev.go [true, true, true, true, true, true, true, true, false] (ps := [mm_in (S.1 14) 101, ¬ mm_cmp .gt (S.2.1 27 (S.1 14).toNatClampNeg) (S.1 13)]) (c1 := (34, [some (.ref 17), some (.ref 28), some (.int (S.1 14)), some (.int (S.2.1 27 (S.1 14).toNatClampNeg))], [], mH S, 0, 0)) rfl ⟨h4, h5, trivial⟩ ?_
      by_cases h8 : (S.2.1 27 (S.1 14).toNatClampNeg) = (S.1 13)
      · rw [if_pos h8] at h
        refine mm_ev.go [true, true, true, false] (ps := [¬ mm_cmp .ne (S.2.1 27 (S.1 14).toNatClampNeg) (S.1 13)]) (c1 := (42, [some (.ref 17), some (.ref 28), some (.int (S.1 14)), some (.int (S.2.1 27 (S.1 14).toNatClampNeg))], [], mH S, 0, 0)) rfl ⟨(fun z => z h8), trivial⟩ ?_
        by_cases h9 : (S.1 15) ≤ (S.1 14)
        · rw [if_pos h9] at h
          refine mm_ev.go [true, true, true, true] (ps := [mm_cmp .ge (S.1 14) (S.1 15)]) (c1 := (63, [some (.ref 17), some (.ref 28), some (.int (S.1 14)), some (.int (S.2.1 27 (S.1 14).toNatClampNeg))], [], mH S, 0, 0)) rfl ⟨h9, trivial⟩ ?_
          cases h
          exact mm_ev.ret (q := mq46) (b := (63, .return_, 1, 3, 0, 0, 0, 0, [])) rfl rfl rfl ⟨Nat.le_of_ble_eq_true rfl, Nat.le_of_ble_eq_true rfl⟩ trivial ⟨rfl, rfl⟩
        · rw [if_neg h9] at h
          refine mm_ev.go [true, true, true, false] (ps := [¬ mm_cmp .ge (S.1 14) (S.1 15)]) (c1 := (50, [some (.ref 17), some (.ref 28), some (.int (S.1 14)), some (.int (S.2.1 27 (S.1 14).toNatClampNeg))], [], mH S, 0, 0)) rfl ⟨h9, trivial⟩ ?_
          refine mm_ev.go [true, true, true, true, true, true] (ps := [_, _]) (c1 := (60, [some (.ref 17), some (.ref 28), some (.int (S.1 14)), some (.int (S.2.1 27 (S.1 14).toNatClampNeg))], [.ref 18, .ref 28], mH ((va_up S.1 13 (S.2.1 27 (S.1 14).toNatClampNeg)), S.2.1, S.2.2), 0, 0)) rfl ⟨trivial, (Nat.le_of_ble_eq_true rfl), trivial⟩ ?_
          obtain ⟨r10, h11, h⟩ := mb_b h
          refine mm_ev.call (q := mq46) (q2 := mq48) (b := (60, .invokevirtual 128, 3, 2, 3, 48, 2, 5, [548, 545, 547, 53, 25])) (as := [.ref 28, .ref 18]) (r := []) (v := none) (h1 := mH r10) rfl rfl rfl rfl ⟨Nat.le_of_ble_eq_true rfl, Nat.le_of_ble_eq_true rfl, Nat.le_of_ble_eq_true rfl⟩ (F48_ok d h11) ?_
          refine mm_ev.to (c := (63, [some (.ref 17), some (.ref 28), some (.int (S.1 14)), some (.int (S.2.1 27 (S.1 14).toNatClampNeg))], [], mH r10, 0, 0)) rfl ?_
          cases h
          exact mm_ev.ret (q := mq46) (b := (63, .return_, 1, 3, 0, 0, 0, 0, [])) rfl rfl rfl ⟨Nat.le_of_ble_eq_true rfl, Nat.le_of_ble_eq_true rfl⟩ trivial ⟨rfl, rfl⟩
      · rw [if_neg h8] at h
        refine mm_ev.go [true, true, true, true] (ps := [mm_cmp .ne (S.2.1 27 (S.1 14).toNatClampNeg) (S.1 13)]) (c1 := (63, [some (.ref 17), some (.ref 28), some (.int (S.1 14)), some (.int (S.2.1 27 (S.1 14).toNatClampNeg))], [], mH S, 0, 0)) rfl ⟨h8, trivial⟩ ?_
        cases h
        exact mm_ev.ret (q := mq46) (b := (63, .return_, 1, 3, 0, 0, 0, 0, [])) rfl rfl rfl ⟨Nat.le_of_ble_eq_true rfl, Nat.le_of_ble_eq_true rfl⟩ trivial ⟨rfl, rfl⟩
  · rw [if_neg h3] at h
    refine mm_ev.go [false] (ps := [¬ mm_cmp .eq r1 (0 : Int32)]) (c1 := (18, [some (.ref 17), some (.ref 28), some (.int (S.1 14)), none], [], mH S, 0, 0)) rfl ⟨h3, trivial⟩ ?_
    cases h
    exact mm_ev.ret (q := mq46) (b := (18, .return_, 1, 3, 0, 0, 0, 0, [])) rfl rfl rfl ⟨Nat.le_of_ble_eq_true rfl, Nat.le_of_ble_eq_true rfl⟩ trivial ⟨rfl, rfl⟩
/-- SlabPatterns$Strips.endOf -/
def F51 (S : mSt) (a0 : Int32) : Option (Int32) := (F52 S a0).bind fun r1 => (if r1 = (0 : Int32) then (some ((0 : Int32))) else (if 0 ≤ a0 ∧ a0.toNatClampNeg < 100 then some ((S.2.1 31 a0.toNatClampNeg) + (S.2.1 32 a0.toNatClampNeg)) else none))
set_option maxRecDepth 100000 in
set_option maxHeartbeats 4000000 in
theorem F51_ok {sc : mS} (d : Nat) {S : mSt} {a0 : Int32} {r : Int32} (h : F51 S a0 = some r) : mm_ev sc mmK mmP (d + 1) 51 (0, mm_en 2 [.ref 28, .int a0], [], mH S, 0, 0) (mm_is (.inl (some (.int r))) (mH S)) := by
  unfold F51 at h
  refine mm_ev.to (c := (0, [some (.ref 28), some (.int a0)], [], mH S, 0, 0)) rfl ?_
  refine mm_ev.go [true, true] (ps := []) (c1 := (2, [some (.ref 28), some (.int a0)], [.int a0, .ref 28], mH S, 0, 0)) rfl trivial ?_
  obtain ⟨r1, h2, h⟩ := mb_b h
  refine mm_ev.call (q := mq51) (q2 := mq52) (b := (2, .invokevirtual 32, 3, 2, 2, 52, 2, 5, [571, 568, 570, 53, 30])) (as := [.ref 28, .int a0]) (r := []) (v := (some (.int r1))) (h1 := mH S) rfl rfl rfl rfl ⟨Nat.le_of_ble_eq_true rfl, Nat.le_of_ble_eq_true rfl, Nat.le_of_ble_eq_true rfl⟩ (F52_ok d h2) ?_
  refine mm_ev.to (c := (5, [some (.ref 28), some (.int a0)], [.int r1], mH S, 0, 0)) rfl ?_
  by_cases h3 : r1 = (0 : Int32)
  · rw [if_pos h3] at h
    refine mm_ev.go [true] (ps := [mm_cmp .eq r1 (0 : Int32)]) (c1 := (24, [some (.ref 28), some (.int a0)], [], mH S, 0, 0)) rfl ⟨h3, trivial⟩ ?_
    refine mm_ev.go [true] (ps := []) (c1 := (25, [some (.ref 28), some (.int a0)], [.int (0 : Int32)], mH S, 0, 0)) rfl trivial ?_
    cases h
    exact mm_ev.ret (q := mq51) (b := (25, .ireturn, 1, 3, 0, 0, 0, 0, [])) rfl rfl rfl ⟨Nat.le_of_ble_eq_true rfl, Nat.le_of_ble_eq_true rfl⟩ trivial ⟨rfl, rfl⟩
  · rw [if_neg h3] at h
    refine mm_ev.go [false] (ps := [¬ mm_cmp .eq r1 (0 : Int32)]) (c1 := (8, [some (.ref 28), some (.int a0)], [], mH S, 0, 0)) rfl ⟨h3, trivial⟩ ?_
    obtain ⟨h4, h⟩ := mb_i h
    refine mm_ev.go [true, true, true, true, true, true, true, true, true, true] (ps := [mm_in a0 100, mm_in a0 100]) (c1 := (25, [some (.ref 28), some (.int a0)], [.int ((S.2.1 31 a0.toNatClampNeg) + (S.2.1 32 a0.toNatClampNeg))], mH S, 0, 0)) rfl ⟨h4, h4, trivial⟩ ?_
    cases h
    exact mm_ev.ret (q := mq51) (b := (25, .ireturn, 1, 3, 0, 0, 0, 0, [])) rfl rfl rfl ⟨Nat.le_of_ble_eq_true rfl, Nat.le_of_ble_eq_true rfl⟩ trivial ⟨rfl, rfl⟩
