/-! methods as functions of the state (2) -/
/-- SlabPatternsModel.isPiece -/
def F65 (S : mSt) (a0 : Int32) : Option (Int32) := (F61 S a0 (0 : Int32) ((S.1 25) - (1 : Int32))).bind fun r1 => (if r1 = 0 ∨ r1 = 1 then some r1 else none)
set_option maxRecDepth 100000 in
set_option maxHeartbeats 4000000 in
theorem F65_ok {sc : mS} (d : Nat) {S : mSt} {a0 : Int32} {r : Int32} (h : F65 S a0 = some r) : mm_ev sc mmK mmP (d + 1) 65 (0, mm_en 2 [.ref 34, .int a0], [], mH S, 0, 0) (mm_is (.inl (some (.int r))) (mH S)) := by
  unfold F65 at h
  refine mm_ev.to (c := (0, [some (.ref 34), some (.int a0)], [], mH S, 0, 0)) rfl ?_
  refine mm_ev.go [true, true, true, true, true, true] (ps := []) (c1 := (8, [some (.ref 34), some (.int a0)], [.int ((S.1 25) - (1 : Int32)), .int (0 : Int32), .int a0], mH S, 0, 0)) rfl trivial ?_
  obtain ⟨r1, h2, h⟩ := mb_b h
  refine mm_ev.call (q := mq65) (q2 := mq61) (b := (8, .invokestatic 78, 3, 2, 4, 61, 3, 0, [776, 774, 775, 54])) (as := [.int a0, .int (0 : Int32), .int ((S.1 25) - (1 : Int32))]) (r := []) (v := (some (.int r1))) (h1 := mH S) rfl rfl rfl rfl ⟨Nat.le_of_ble_eq_true rfl, Nat.le_of_ble_eq_true rfl, Nat.le_of_ble_eq_true rfl⟩ (F61_ok d h2) ?_
  refine mm_ev.to (c := (11, [some (.ref 34), some (.int a0)], [.int r1], mH S, 0, 0)) rfl ?_
  obtain ⟨h3, h⟩ := mb_i h
  cases h
  exact mm_ev.ret (q := mq65) (b := (11, .ireturn, 1, 3, 0, 0, 0, 0, [])) rfl rfl rfl ⟨Nat.le_of_ble_eq_true rfl, Nat.le_of_ble_eq_true rfl⟩ ⟨h3, trivial⟩ ⟨rfl, rfl⟩
/-- SlabPatternsModel.rules -/
def F66 (S : mSt) (a0 a1 a2 a3 a4 : Int32) : Option (mSt) := (F61 S a0 (1 : Int32) (2 : Int32)).bind fun r1 => (if r1 = (0 : Int32) then ((F62 S (0 : Int32) (1 : Int32) (1 : Int32)).bind fun r4 => (if r4.1 = (0 : Int32) then (some r4.2) else (some (((va_up (va_up (va_up (va_up (va_up r4.2.1 22 a0) 23 a1) 20 a2) 21 a3) 24 a4), r4.2.2.1, r4.2.2.2))))) else ((F61 S a1 (0 : Int32) (20 : Int32)).bind fun r7 => (if r7 = (0 : Int32) then ((F62 S (0 : Int32) (1 : Int32) (1 : Int32)).bind fun r10 => (if r10.1 = (0 : Int32) then (some r10.2) else (some (((va_up (va_up (va_up (va_up (va_up r10.2.1 22 a0) 23 a1) 20 a2) 21 a3) 24 a4), r10.2.2.1, r10.2.2.2))))) else ((F61 S a2 (0 : Int32) (200 : Int32)).bind fun r13 => (if r13 = (0 : Int32) then ((F62 S (0 : Int32) (1 : Int32) (1 : Int32)).bind fun r16 => (if r16.1 = (0 : Int32) then (some r16.2) else (some (((va_up (va_up (va_up (va_up (va_up r16.2.1 22 a0) 23 a1) 20 a2) 21 a3) 24 a4), r16.2.2.1, r16.2.2.2))))) else ((F61 S a3 (0 : Int32) (200 : Int32)).bind fun r19 => (if r19 = (0 : Int32) then ((F62 S (0 : Int32) (1 : Int32) (1 : Int32)).bind fun r22 => (if r22.1 = (0 : Int32) then (some r22.2) else (some (((va_up (va_up (va_up (va_up (va_up r22.2.1 22 a0) 23 a1) 20 a2) 21 a3) 24 a4), r22.2.2.1, r22.2.2.2))))) else ((F61 S a4 (0 : Int32) (200 : Int32)).bind fun r25 => (if r25 = (0 : Int32) then ((F62 S (0 : Int32) (1 : Int32) (1 : Int32)).bind fun r28 => (if r28.1 = (0 : Int32) then (some r28.2) else (some (((va_up (va_up (va_up (va_up (va_up r28.2.1 22 a0) 23 a1) 20 a2) 21 a3) 24 a4), r28.2.2.1, r28.2.2.2))))) else ((F62 S (1 : Int32) (1 : Int32) (1 : Int32)).bind fun r31 => (if r31.1 = (0 : Int32) then (some r31.2) else (some (((va_up (va_up (va_up (va_up (va_up r31.2.1 22 a0) 23 a1) 20 a2) 21 a3) 24 a4), r31.2.2.1, r31.2.2.2))))))))))))))
set_option maxRecDepth 100000 in
set_option maxHeartbeats 4000000 in
theorem F66_ok {sc : mS} (d : Nat) {S : mSt} {a0 a1 a2 a3 a4 : Int32} {r : mSt} (h : F66 S a0 a1 a2 a3 a4 = some r) : mm_ev sc mmK mmP (d + 1) 66 (0, mm_en 6 [.ref 34, .int a0, .int a1, .int a2, .int a3, .int a4], [], mH S, 0, 0) (mm_is (.inl none) (mH r)) := by
  unfold F66 at h
  refine mm_ev.to (c := (0, [some (.ref 34), some (.int a0), some (.int a1), some (.int a2), some (.int a3), some (.int a4)], [], mH S, 0, 0)) rfl ?_
  refine mm_ev.go [true, true, true, true] (ps := []) (c1 := (4, [some (.ref 34), some (.int a0), some (.int a1), some (.int a2), some (.int a3), some (.int a4)], [.int (2 : Int32), .int (1 : Int32), .int a0, .ref 34], mH S, 0, 0)) rfl trivial ?_
  obtain ⟨r1, h2, h⟩ := mb_b h
  refine mm_ev.call (q := mq66) (q2 := mq61) (b := (4, .invokestatic 78, 3, 2, 4, 61, 3, 0, [776, 774, 775, 54])) (as := [.int a0, .int (1 : Int32), .int (2 : Int32)]) (r := [.ref 34]) (v := (some (.int r1))) (h1 := mH S) rfl rfl rfl rfl ⟨Nat.le_of_ble_eq_true rfl, Nat.le_of_ble_eq_true rfl, Nat.le_of_ble_eq_true rfl⟩ (F61_ok d h2) ?_
  refine mm_ev.to (c := (7, [some (.ref 34), some (.int a0), some (.int a1), some (.int a2), some (.int a3), some (.int a4)], [.int r1, .ref 34], mH S, 0, 0)) rfl ?_
  by_cases h3 : r1 = (0 : Int32)
  · rw [if_pos h3] at h
    refine mm_ev.go [true] (ps := [mm_cmp .eq r1 (0 : Int32)]) (c1 := (59, [some (.ref 34), some (.int a0), some (.int a1), some (.int a2), some (.int a3), some (.int a4)], [.ref 34], mH S, 0, 0)) rfl ⟨h3, trivial⟩ ?_
    refine mm_ev.go [true, true, true] (ps := []) (c1 := (62, [some (.ref 34), some (.int a0), some (.int a1), some (.int a2), some (.int a3), some (.int a4)], [.int (1 : Int32), .int (1 : Int32), .int (0 : Int32), .ref 34], mH S, 0, 0)) rfl trivial ?_
    obtain ⟨r4, h5, h⟩ := mb_b h
    refine mm_ev.call (q := mq66) (q2 := mq62) (b := (62, .invokevirtual 86, 3, 2, 2, 62, 4, 6, [780, 777, 779, 54, 37])) (as := [.ref 34, .int (0 : Int32), .int (1 : Int32), .int (1 : Int32)]) (r := []) (v := (some (.int r4.1))) (h1 := mH r4.2) rfl rfl rfl rfl ⟨Nat.le_of_ble_eq_true rfl, Nat.le_of_ble_eq_true rfl, Nat.le_of_ble_eq_true rfl⟩ (F62_ok d h5) ?_
    refine mm_ev.to (c := (65, [some (.ref 34), some (.int a0), some (.int a1), some (.int a2), some (.int a3), some (.int a4)], [.int r4.1], mH r4.2, 0, 0)) rfl ?_
    by_cases h6 : r4.1 = (0 : Int32)
    · rw [if_pos h6] at h
      refine mm_ev.go [false] (ps := [¬ mm_cmp .ne r4.1 (0 : Int32)]) (c1 := (68, [some (.ref 34), some (.int a0), some (.int a1), some (.int a2), some (.int a3), some (.int a4)], [], mH r4.2, 0, 0)) rfl ⟨(fun z => z h6), trivial⟩ ?_
      cases h
      exact mm_ev.ret (q := mq66) (b := (68, .return_, 1, 3, 0, 0, 0, 0, [])) rfl rfl rfl ⟨Nat.le_of_ble_eq_true rfl, Nat.le_of_ble_eq_true rfl⟩ trivial ⟨rfl, rfl⟩
    · rw [if_neg h6] at h
      refine mm_ev.go [true] (ps := [mm_cmp .ne r4.1 (0 : Int32)]) (c1 := (69, [some (.ref 34), some (.int a0), some (.int a1), some (.int a2), some (.int a3), some (.int a4)], [], mH r4.2, 0, 0)) rfl ⟨h6, trivial⟩ ?_
      refine mm_ev.go [true, true, true, true, true, true, true, true, true, true, true, true, true, true, true] (ps := [_, _, _, _, _, _, _, _, _, _]) (c1 := (96, [some (.ref 34), some (.int a0), some (.int a1), some (.int a2), some (.int a3), some (.int a4)], [], mH ((va_up (va_up (va_up (va_up (va_up r4.2.1 22 a0) 23 a1) 20 a2) 21 a3) 24 a4), r4.2.2.1, r4.2.2.2), 0, 0)) rfl ⟨trivial, (Nat.le_of_ble_eq_true rfl), trivial, (Nat.le_of_ble_eq_true rfl), trivial, (Nat.le_of_ble_eq_true rfl), trivial, (Nat.le_of_ble_eq_true rfl), trivial, (Nat.le_of_ble_eq_true rfl), trivial⟩ ?_
      cases h
      exact mm_ev.ret (q := mq66) (b := (96, .return_, 1, 3, 0, 0, 0, 0, [])) rfl rfl rfl ⟨Nat.le_of_ble_eq_true rfl, Nat.le_of_ble_eq_true rfl⟩ trivial ⟨rfl, rfl⟩
  · rw [if_neg h3] at h
    refine mm_ev.go [false] (ps := [¬ mm_cmp .eq r1 (0 : Int32)]) (c1 := (10, [some (.ref 34), some (.int a0), some (.int a1), some (.int a2), some (.int a3), some (.int a4)], [.ref 34], mH S, 0, 0)) rfl ⟨h3, trivial⟩ ?_
    refine mm_ev.go [true, true, true] (ps := []) (c1 := (14, [some (.ref 34), some (.int a0), some (.int a1), some (.int a2), some (.int a3), some (.int a4)], [.int (20 : Int32), .int (0 : Int32), .int a1, .ref 34], mH S, 0, 0)) rfl trivial ?_
    obtain ⟨r7, h8, h⟩ := mb_b h
    refine mm_ev.call (q := mq66) (q2 := mq61) (b := (14, .invokestatic 78, 3, 2, 4, 61, 3, 0, [776, 774, 775, 54])) (as := [.int a1, .int (0 : Int32), .int (20 : Int32)]) (r := [.ref 34]) (v := (some (.int r7))) (h1 := mH S) rfl rfl rfl rfl ⟨Nat.le_of_ble_eq_true rfl, Nat.le_of_ble_eq_true rfl, Nat.le_of_ble_eq_true rfl⟩ (F61_ok d h8) ?_
    refine mm_ev.to (c := (17, [some (.ref 34), some (.int a0), some (.int a1), some (.int a2), some (.int a3), some (.int a4)], [.int r7, .ref 34], mH S, 0, 0)) rfl ?_
    by_cases h9 : r7 = (0 : Int32)
    · rw [if_pos h9] at h
      refine mm_ev.go [true] (ps := [mm_cmp .eq r7 (0 : Int32)]) (c1 := (59, [some (.ref 34), some (.int a0), some (.int a1), some (.int a2), some (.int a3), some (.int a4)], [.ref 34], mH S, 0, 0)) rfl ⟨h9, trivial⟩ ?_
      refine mm_ev.go [true, true, true] (ps := []) (c1 := (62, [some (.ref 34), some (.int a0), some (.int a1), some (.int a2), some (.int a3), some (.int a4)], [.int (1 : Int32), .int (1 : Int32), .int (0 : Int32), .ref 34], mH S, 0, 0)) rfl trivial ?_
      obtain ⟨r10, h11, h⟩ := mb_b h
      refine mm_ev.call (q := mq66) (q2 := mq62) (b := (62, .invokevirtual 86, 3, 2, 2, 62, 4, 6, [780, 777, 779, 54, 37])) (as := [.ref 34, .int (0 : Int32), .int (1 : Int32), .int (1 : Int32)]) (r := []) (v := (some (.int r10.1))) (h1 := mH r10.2) rfl rfl rfl rfl ⟨Nat.le_of_ble_eq_true rfl, Nat.le_of_ble_eq_true rfl, Nat.le_of_ble_eq_true rfl⟩ (F62_ok d h11) ?_
      refine mm_ev.to (c := (65, [some (.ref 34), some (.int a0), some (.int a1), some (.int a2), some (.int a3), some (.int a4)], [.int r10.1], mH r10.2, 0, 0)) rfl ?_
      by_cases h12 : r10.1 = (0 : Int32)
      · rw [if_pos h12] at h
        refine mm_ev.go [false] (ps := [¬ mm_cmp .ne r10.1 (0 : Int32)]) (c1 := (68, [some (.ref 34), some (.int a0), some (.int a1), some (.int a2), some (.int a3), some (.int a4)], [], mH r10.2, 0, 0)) rfl ⟨(fun z => z h12), trivial⟩ ?_
        cases h
        exact mm_ev.ret (q := mq66) (b := (68, .return_, 1, 3, 0, 0, 0, 0, [])) rfl rfl rfl ⟨Nat.le_of_ble_eq_true rfl, Nat.le_of_ble_eq_true rfl⟩ trivial ⟨rfl, rfl⟩
      · rw [if_neg h12] at h
        refine mm_ev.go [true] (ps := [mm_cmp .ne r10.1 (0 : Int32)]) (c1 := (69, [some (.ref 34), some (.int a0), some (.int a1), some (.int a2), some (.int a3), some (.int a4)], [], mH r10.2, 0, 0)) rfl ⟨h12, trivial⟩ ?_
        refine mm_ev.go [true, true, true, true, true, true, true, true, true, true, true, true, true, true, true] (ps := [_, _, _, _, _, _, _, _, _, _]) (c1 := (96, [some (.ref 34), some (.int a0), some (.int a1), some (.int a2), some (.int a3), some (.int a4)], [], mH ((va_up (va_up (va_up (va_up (va_up r10.2.1 22 a0) 23 a1) 20 a2) 21 a3) 24 a4), r10.2.2.1, r10.2.2.2), 0, 0)) rfl ⟨trivial, (Nat.le_of_ble_eq_true rfl), trivial, (Nat.le_of_ble_eq_true rfl), trivial, (Nat.le_of_ble_eq_true rfl), trivial, (Nat.le_of_ble_eq_true rfl), trivial, (Nat.le_of_ble_eq_true rfl), trivial⟩ ?_
        cases h
        exact mm_ev.ret (q := mq66) (b := (96, .return_, 1, 3, 0, 0, 0, 0, [])) rfl rfl rfl ⟨Nat.le_of_ble_eq_true rfl, Nat.le_of_ble_eq_true rfl⟩ trivial ⟨rfl, rfl⟩
    · rw [if_neg h9] at h
      refine mm_ev.go [false] (ps := [¬ mm_cmp .eq r7 (0 : Int32)]) (c1 := (20, [some (.ref 34), some (.int a0), some (.int a1), some (.int a2), some (.int a3), some (.int a4)], [.ref 34], mH S, 0, 0)) rfl ⟨h9, trivial⟩ ?_
      refine mm_ev.go [true, true, true] (ps := []) (c1 := (25, [some (.ref 34), some (.int a0), some (.int a1), some (.int a2), some (.int a3), some (.int a4)], [.int (200 : Int32), .int (0 : Int32), .int a2, .ref 34], mH S, 0, 0)) rfl trivial ?_
      obtain ⟨r13, h14, h⟩ := mb_b h
      refine mm_ev.call (q := mq66) (q2 := mq61) (b := (25, .invokestatic 78, 3, 2, 4, 61, 3, 0, [776, 774, 775, 54])) (as := [.int a2, .int (0 : Int32), .int (200 : Int32)]) (r := [.ref 34]) (v := (some (.int r13))) (h1 := mH S) rfl rfl rfl rfl ⟨Nat.le_of_ble_eq_true rfl, Nat.le_of_ble_eq_true rfl, Nat.le_of_ble_eq_true rfl⟩ (F61_ok d h14) ?_
      refine mm_ev.to (c := (28, [some (.ref 34), some (.int a0), some (.int a1), some (.int a2), some (.int a3), some (.int a4)], [.int r13, .ref 34], mH S, 0, 0)) rfl ?_
      by_cases h15 : r13 = (0 : Int32)
      · rw [if_pos h15] at h
        refine mm_ev.go [true] (ps := [mm_cmp .eq r13 (0 : Int32)]) (c1 := (59, [some (.ref 34), some (.int a0), some (.int a1), some (.int a2), some (.int a3), some (.int a4)], [.ref 34], mH S, 0, 0)) rfl ⟨h15, trivial⟩ ?_
        refine mm_ev.go [true, true, true] (ps := []) (c1 := (62, [some (.ref 34), some (.int a0), some (.int a1), some (.int a2), some (.int a3), some (.int a4)], [.int (1 : Int32), .int (1 : Int32), .int (0 : Int32), .ref 34], mH S, 0, 0)) rfl trivial ?_
        obtain ⟨r16, h17, h⟩ := mb_b h
        refine mm_ev.call (q := mq66) (q2 := mq62) (b := (62, .invokevirtual 86, 3, 2, 2, 62, 4, 6, [780, 777, 779, 54, 37])) (as := [.ref 34, .int (0 : Int32), .int (1 : Int32), .int (1 : Int32)]) (r := []) (v := (some (.int r16.1))) (h1 := mH r16.2) rfl rfl rfl rfl ⟨Nat.le_of_ble_eq_true rfl, Nat.le_of_ble_eq_true rfl, Nat.le_of_ble_eq_true rfl⟩ (F62_ok d h17) ?_
        refine mm_ev.to (c := (65, [some (.ref 34), some (.int a0), some (.int a1), some (.int a2), some (.int a3), some (.int a4)], [.int r16.1], mH r16.2, 0, 0)) rfl ?_
        by_cases h18 : r16.1 = (0 : Int32)
        · rw [if_pos h18] at h
          refine mm_ev.go [false] (ps := [¬ mm_cmp .ne r16.1 (0 : Int32)]) (c1 := (68, [some (.ref 34), some (.int a0), some (.int a1), some (.int a2), some (.int a3), some (.int a4)], [], mH r16.2, 0, 0)) rfl ⟨(fun z => z h18), trivial⟩ ?_
          cases h
          exact mm_ev.ret (q := mq66) (b := (68, .return_, 1, 3, 0, 0, 0, 0, [])) rfl rfl rfl ⟨Nat.le_of_ble_eq_true rfl, Nat.le_of_ble_eq_true rfl⟩ trivial ⟨rfl, rfl⟩
        · rw [if_neg h18] at h
          refine mm_ev.go [true] (ps := [mm_cmp .ne r16.1 (0 : Int32)]) (c1 := (69, [some (.ref 34), some (.int a0), some (.int a1), some (.int a2), some (.int a3), some (.int a4)], [], mH r16.2, 0, 0)) rfl ⟨h18, trivial⟩ ?_
          refine mm_ev.go [true, true, true, true, true, true, true, true, true, true, true, true, true, true, true] (ps := [_, _, _, _, _, _, _, _, _, _]) (c1 := (96, [some (.ref 34), some (.int a0), some (.int a1), some (.int a2), some (.int a3), some (.int a4)], [], mH ((va_up (va_up (va_up (va_up (va_up r16.2.1 22 a0) 23 a1) 20 a2) 21 a3) 24 a4), r16.2.2.1, r16.2.2.2), 0, 0)) rfl ⟨trivial, (Nat.le_of_ble_eq_true rfl), trivial, (Nat.le_of_ble_eq_true rfl), trivial, (Nat.le_of_ble_eq_true rfl), trivial, (Nat.le_of_ble_eq_true rfl), trivial, (Nat.le_of_ble_eq_true rfl), trivial⟩ ?_
          cases h
          exact mm_ev.ret (q := mq66) (b := (96, .return_, 1, 3, 0, 0, 0, 0, [])) rfl rfl rfl ⟨Nat.le_of_ble_eq_true rfl, Nat.le_of_ble_eq_true rfl⟩ trivial ⟨rfl, rfl⟩
      · rw [if_neg h15] at h
        refine mm_ev.go [false] (ps := [¬ mm_cmp .eq r13 (0 : Int32)]) (c1 := (31, [some (.ref 34), some (.int a0), some (.int a1), some (.int a2), some (.int a3), some (.int a4)], [.ref 34], mH S, 0, 0)) rfl ⟨h15, trivial⟩ ?_
        refine mm_ev.go [true, true, true] (ps := []) (c1 := (37, [some (.ref 34), some (.int a0), some (.int a1), some (.int a2), some (.int a3), some (.int a4)], [.int (200 : Int32), .int (0 : Int32), .int a3, .ref 34], mH S, 0, 0)) rfl trivial ?_
        obtain ⟨r19, h20, h⟩ := mb_b h
        refine mm_ev.call (q := mq66) (q2 := mq61) (b := (37, .invokestatic 78, 3, 2, 4, 61, 3, 0, [776, 774, 775, 54])) (as := [.int a3, .int (0 : Int32), .int (200 : Int32)]) (r := [.ref 34]) (v := (some (.int r19))) (h1 := mH S) rfl rfl rfl rfl ⟨Nat.le_of_ble_eq_true rfl, Nat.le_of_ble_eq_true rfl, Nat.le_of_ble_eq_true rfl⟩ (F61_ok d h20) ?_
        refine mm_ev.to (c := (40, [some (.ref 34), some (.int a0), some (.int a1), some (.int a2), some (.int a3), some (.int a4)], [.int r19, .ref 34], mH S, 0, 0)) rfl ?_
        by_cases h21 : r19 = (0 : Int32)
        · rw [if_pos h21] at h
          refine mm_ev.go [true] (ps := [mm_cmp .eq r19 (0 : Int32)]) (c1 := (59, [some (.ref 34), some (.int a0), some (.int a1), some (.int a2), some (.int a3), some (.int a4)], [.ref 34], mH S, 0, 0)) rfl ⟨h21, trivial⟩ ?_
          refine mm_ev.go [true, true, true] (ps := []) (c1 := (62, [some (.ref 34), some (.int a0), some (.int a1), some (.int a2), some (.int a3), some (.int a4)], [.int (1 : Int32), .int (1 : Int32), .int (0 : Int32), .ref 34], mH S, 0, 0)) rfl trivial ?_
          obtain ⟨r22, h23, h⟩ := mb_b h
          refine mm_ev.call (q := mq66) (q2 := mq62) (b := (62, .invokevirtual 86, 3, 2, 2, 62, 4, 6, [780, 777, 779, 54, 37])) (as := [.ref 34, .int (0 : Int32), .int (1 : Int32), .int (1 : Int32)]) (r := []) (v := (some (.int r22.1))) (h1 := mH r22.2) rfl rfl rfl rfl ⟨Nat.le_of_ble_eq_true rfl, Nat.le_of_ble_eq_true rfl, Nat.le_of_ble_eq_true rfl⟩ (F62_ok d h23) ?_
          refine mm_ev.to (c := (65, [some (.ref 34), some (.int a0), some (.int a1), some (.int a2), some (.int a3), some (.int a4)], [.int r22.1], mH r22.2, 0, 0)) rfl ?_
          by_cases h24 : r22.1 = (0 : Int32)
          · rw [if_pos h24] at h
            refine mm_ev.go [false] (ps := [¬ mm_cmp .ne r22.1 (0 : Int32)]) (c1 := (68, [some (.ref 34), some (.int a0), some (.int a1), some (.int a2), some (.int a3), some (.int a4)], [], mH r22.2, 0, 0)) rfl ⟨(fun z => z h24), trivial⟩ ?_
            cases h
            exact mm_ev.ret (q := mq66) (b := (68, .return_, 1, 3, 0, 0, 0, 0, [])) rfl rfl rfl ⟨Nat.le_of_ble_eq_true rfl, Nat.le_of_ble_eq_true rfl⟩ trivial ⟨rfl, rfl⟩
          · rw [if_neg h24] at h
            refine mm_ev.go [true] (ps := [mm_cmp .ne r22.1 (0 : Int32)]) (c1 := (69, [some (.ref 34), some (.int a0), some (.int a1), some (.int a2), some (.int a3), some (.int a4)], [], mH r22.2, 0, 0)) rfl ⟨h24, trivial⟩ ?_
            refine mm_ev.go [true, true, true, true, true, true, true, true, true, true, true, true, true, true, true] (ps := [_, _, _, _, _, _, _, _, _, _]) (c1 := (96, [some (.ref 34), some (.int a0), some (.int a1), some (.int a2), some (.int a3), some (.int a4)], [], mH ((va_up (va_up (va_up (va_up (va_up r22.2.1 22 a0) 23 a1) 20 a2) 21 a3) 24 a4), r22.2.2.1, r22.2.2.2), 0, 0)) rfl ⟨trivial, (Nat.le_of_ble_eq_true rfl), trivial, (Nat.le_of_ble_eq_true rfl), trivial, (Nat.le_of_ble_eq_true rfl), trivial, (Nat.le_of_ble_eq_true rfl), trivial, (Nat.le_of_ble_eq_true rfl), trivial⟩ ?_
            cases h
            exact mm_ev.ret (q := mq66) (b := (96, .return_, 1, 3, 0, 0, 0, 0, [])) rfl rfl rfl ⟨Nat.le_of_ble_eq_true rfl, Nat.le_of_ble_eq_true rfl⟩ trivial ⟨rfl, rfl⟩
        · rw [if_neg h21] at h
          refine mm_ev.go [false] (ps := [¬ mm_cmp .eq r19 (0 : Int32)]) (c1 := (43, [some (.ref 34), some (.int a0), some (.int a1), some (.int a2), some (.int a3), some (.int a4)], [.ref 34], mH S, 0, 0)) rfl ⟨h21, trivial⟩ ?_
          refine mm_ev.go [true, true, true] (ps := []) (c1 := (49, [some (.ref 34), some (.int a0), some (.int a1), some (.int a2), some (.int a3), some (.int a4)], [.int (200 : Int32), .int (0 : Int32), .int a4, .ref 34], mH S, 0, 0)) rfl trivial ?_
          obtain ⟨r25, h26, h⟩ := mb_b h
          refine mm_ev.call (q := mq66) (q2 := mq61) (b := (49, .invokestatic 78, 3, 2, 4, 61, 3, 0, [776, 774, 775, 54])) (as := [.int a4, .int (0 : Int32), .int (200 : Int32)]) (r := [.ref 34]) (v := (some (.int r25))) (h1 := mH S) rfl rfl rfl rfl ⟨Nat.le_of_ble_eq_true rfl, Nat.le_of_ble_eq_true rfl, Nat.le_of_ble_eq_true rfl⟩ (F61_ok d h26) ?_
          refine mm_ev.to (c := (52, [some (.ref 34), some (.int a0), some (.int a1), some (.int a2), some (.int a3), some (.int a4)], [.int r25, .ref 34], mH S, 0, 0)) rfl ?_
          by_cases h27 : r25 = (0 : Int32)
          · rw [if_pos h27] at h
            refine mm_ev.go [true] (ps := [mm_cmp .eq r25 (0 : Int32)]) (c1 := (59, [some (.ref 34), some (.int a0), some (.int a1), some (.int a2), some (.int a3), some (.int a4)], [.ref 34], mH S, 0, 0)) rfl ⟨h27, trivial⟩ ?_
            refine mm_ev.go [true, true, true] (ps := []) (c1 := (62, [some (.ref 34), some (.int a0), some (.int a1), some (.int a2), some (.int a3), some (.int a4)], [.int (1 : Int32), .int (1 : Int32), .int (0 : Int32), .ref 34], mH S, 0, 0)) rfl trivial ?_
            obtain ⟨r28, h29, h⟩ := mb_b h
            refine mm_ev.call (q := mq66) (q2 := mq62) (b := (62, .invokevirtual 86, 3, 2, 2, 62, 4, 6, [780, 777, 779, 54, 37])) (as := [.ref 34, .int (0 : Int32), .int (1 : Int32), .int (1 : Int32)]) (r := []) (v := (some (.int r28.1))) (h1 := mH r28.2) rfl rfl rfl rfl ⟨Nat.le_of_ble_eq_true rfl, Nat.le_of_ble_eq_true rfl, Nat.le_of_ble_eq_true rfl⟩ (F62_ok d h29) ?_
            refine mm_ev.to (c := (65, [some (.ref 34), some (.int a0), some (.int a1), some (.int a2), some (.int a3), some (.int a4)], [.int r28.1], mH r28.2, 0, 0)) rfl ?_
            by_cases h30 : r28.1 = (0 : Int32)
            · rw [if_pos h30] at h
              refine mm_ev.go [false] (ps := [¬ mm_cmp .ne r28.1 (0 : Int32)]) (c1 := (68, [some (.ref 34), some (.int a0), some (.int a1), some (.int a2), some (.int a3), some (.int a4)], [], mH r28.2, 0, 0)) rfl ⟨(fun z => z h30), trivial⟩ ?_
              cases h
              exact mm_ev.ret (q := mq66) (b := (68, .return_, 1, 3, 0, 0, 0, 0, [])) rfl rfl rfl ⟨Nat.le_of_ble_eq_true rfl, Nat.le_of_ble_eq_true rfl⟩ trivial ⟨rfl, rfl⟩
            · rw [if_neg h30] at h
              refine mm_ev.go [true] (ps := [mm_cmp .ne r28.1 (0 : Int32)]) (c1 := (69, [some (.ref 34), some (.int a0), some (.int a1), some (.int a2), some (.int a3), some (.int a4)], [], mH r28.2, 0, 0)) rfl ⟨h30, trivial⟩ ?_
              refine mm_ev.go [true, true, true, true, true, true, true, true, true, true, true, true, true, true, true] (ps := [_, _, _, _, _, _, _, _, _, _]) (c1 := (96, [some (.ref 34), some (.int a0), some (.int a1), some (.int a2), some (.int a3), some (.int a4)], [], mH ((va_up (va_up (va_up (va_up (va_up r28.2.1 22 a0) 23 a1) 20 a2) 21 a3) 24 a4), r28.2.2.1, r28.2.2.2), 0, 0)) rfl ⟨trivial, (Nat.le_of_ble_eq_true rfl), trivial, (Nat.le_of_ble_eq_true rfl), trivial, (Nat.le_of_ble_eq_true rfl), trivial, (Nat.le_of_ble_eq_true rfl), trivial, (Nat.le_of_ble_eq_true rfl), trivial⟩ ?_
              cases h
              exact mm_ev.ret (q := mq66) (b := (96, .return_, 1, 3, 0, 0, 0, 0, [])) rfl rfl rfl ⟨Nat.le_of_ble_eq_true rfl, Nat.le_of_ble_eq_true rfl⟩ trivial ⟨rfl, rfl⟩
          · rw [if_neg h27] at h
            refine mm_ev.go [false] (ps := [¬ mm_cmp .eq r25 (0 : Int32)]) (c1 := (55, [some (.ref 34), some (.int a0), some (.int a1), some (.int a2), some (.int a3), some (.int a4)], [.ref 34], mH S, 0, 0)) rfl ⟨h27, trivial⟩ ?_
            refine mm_ev.go [true, true, true, true] (ps := []) (c1 := (62, [some (.ref 34), some (.int a0), some (.int a1), some (.int a2), some (.int a3), some (.int a4)], [.int (1 : Int32), .int (1 : Int32), .int (1 : Int32), .ref 34], mH S, 0, 0)) rfl trivial ?_
            obtain ⟨r31, h32, h⟩ := mb_b h
            refine mm_ev.call (q := mq66) (q2 := mq62) (b := (62, .invokevirtual 86, 3, 2, 2, 62, 4, 6, [780, 777, 779, 54, 37])) (as := [.ref 34, .int (1 : Int32), .int (1 : Int32), .int (1 : Int32)]) (r := []) (v := (some (.int r31.1))) (h1 := mH r31.2) rfl rfl rfl rfl ⟨Nat.le_of_ble_eq_true rfl, Nat.le_of_ble_eq_true rfl, Nat.le_of_ble_eq_true rfl⟩ (F62_ok d h32) ?_
            refine mm_ev.to (c := (65, [some (.ref 34), some (.int a0), some (.int a1), some (.int a2), some (.int a3), some (.int a4)], [.int r31.1], mH r31.2, 0, 0)) rfl ?_
            by_cases h33 : r31.1 = (0 : Int32)
            · rw [if_pos h33] at h
              refine mm_ev.go [false] (ps := [¬ mm_cmp .ne r31.1 (0 : Int32)]) (c1 := (68, [some (.ref 34), some (.int a0), some (.int a1), some (.int a2), some (.int a3), some (.int a4)], [], mH r31.2, 0, 0)) rfl ⟨(fun z => z h33), trivial⟩ ?_
              cases h
              exact mm_ev.ret (q := mq66) (b := (68, .return_, 1, 3, 0, 0, 0, 0, [])) rfl rfl rfl ⟨Nat.le_of_ble_eq_true rfl, Nat.le_of_ble_eq_true rfl⟩ trivial ⟨rfl, rfl⟩
            · rw [if_neg h33] at h
              refine mm_ev.go [true] (ps := [mm_cmp .ne r31.1 (0 : Int32)]) (c1 := (69, [some (.ref 34), some (.int a0), some (.int a1), some (.int a2), some (.int a3), some (.int a4)], [], mH r31.2, 0, 0)) rfl ⟨h33, trivial⟩ ?_
              refine mm_ev.go [true, true, true, true, true, true, true, true, true, true, true, true, true, true, true] (ps := [_, _, _, _, _, _, _, _, _, _]) (c1 := (96, [some (.ref 34), some (.int a0), some (.int a1), some (.int a2), some (.int a3), some (.int a4)], [], mH ((va_up (va_up (va_up (va_up (va_up r31.2.1 22 a0) 23 a1) 20 a2) 21 a3) 24 a4), r31.2.2.1, r31.2.2.2), 0, 0)) rfl ⟨trivial, (Nat.le_of_ble_eq_true rfl), trivial, (Nat.le_of_ble_eq_true rfl), trivial, (Nat.le_of_ble_eq_true rfl), trivial, (Nat.le_of_ble_eq_true rfl), trivial, (Nat.le_of_ble_eq_true rfl), trivial⟩ ?_
              cases h
              exact mm_ev.ret (q := mq66) (b := (96, .return_, 1, 3, 0, 0, 0, 0, [])) rfl rfl rfl ⟨Nat.le_of_ble_eq_true rfl, Nat.le_of_ble_eq_true rfl⟩ trivial ⟨rfl, rfl⟩
/-- SlabPatternsModel.bar -/
def F67 (S : mSt) (a0 a1 : Int32) : Option (Int32 × mSt) := (F61 S a0 (0 : Int32) (200 : Int32)).bind fun r1 => (if r1 = (0 : Int32) then (if (4 : Int32) ≤ (S.1 26) then ((F62 S (0 : Int32) (0 : Int32) (1 : Int32)).bind fun r5 => (if r5.1 = (0 : Int32) then (some (((0 : Int32), r5.2))) else (if 0 ≤ (r5.2.1 26) ∧ (r5.2.1 26).toNatClampNeg < 4 then some (((r5.2.1 26) + (1 : Int32), ((va_up r5.2.1 26 ((r5.2.1 26) + (1 : Int32))), (va_up (va_up r5.2.2.1 41 (upd (r5.2.2.1 41) (r5.2.1 26).toNatClampNeg a0)) 42 (upd (r5.2.2.1 42) (r5.2.1 26).toNatClampNeg a1)), r5.2.2.2))) else none))) else ((F62 S (0 : Int32) (1 : Int32) (1 : Int32)).bind fun r9 => (if r9.1 = (0 : Int32) then (some (((0 : Int32), r9.2))) else (if 0 ≤ (r9.2.1 26) ∧ (r9.2.1 26).toNatClampNeg < 4 then some (((r9.2.1 26) + (1 : Int32), ((va_up r9.2.1 26 ((r9.2.1 26) + (1 : Int32))), (va_up (va_up r9.2.2.1 41 (upd (r9.2.2.1 41) (r9.2.1 26).toNatClampNeg a0)) 42 (upd (r9.2.2.1 42) (r9.2.1 26).toNatClampNeg a1)), r9.2.2.2))) else none)))) else ((F61 S a1 (a0 + (1 : Int32)) (200 : Int32)).bind fun r13 => (if r13 = (0 : Int32) then (if (4 : Int32) ≤ (S.1 26) then ((F62 S (0 : Int32) (0 : Int32) (1 : Int32)).bind fun r17 => (if r17.1 = (0 : Int32) then (some (((0 : Int32), r17.2))) else (if 0 ≤ (r17.2.1 26) ∧ (r17.2.1 26).toNatClampNeg < 4 then some (((r17.2.1 26) + (1 : Int32), ((va_up r17.2.1 26 ((r17.2.1 26) + (1 : Int32))), (va_up (va_up r17.2.2.1 41 (upd (r17.2.2.1 41) (r17.2.1 26).toNatClampNeg a0)) 42 (upd (r17.2.2.1 42) (r17.2.1 26).toNatClampNeg a1)), r17.2.2.2))) else none))) else ((F62 S (0 : Int32) (1 : Int32) (1 : Int32)).bind fun r21 => (if r21.1 = (0 : Int32) then (some (((0 : Int32), r21.2))) else (if 0 ≤ (r21.2.1 26) ∧ (r21.2.1 26).toNatClampNeg < 4 then some (((r21.2.1 26) + (1 : Int32), ((va_up r21.2.1 26 ((r21.2.1 26) + (1 : Int32))), (va_up (va_up r21.2.2.1 41 (upd (r21.2.2.1 41) (r21.2.1 26).toNatClampNeg a0)) 42 (upd (r21.2.2.1 42) (r21.2.1 26).toNatClampNeg a1)), r21.2.2.2))) else none)))) else (if (4 : Int32) ≤ (S.1 26) then ((F62 S (1 : Int32) (0 : Int32) (1 : Int32)).bind fun r26 => (if r26.1 = (0 : Int32) then (some (((0 : Int32), r26.2))) else (if 0 ≤ (r26.2.1 26) ∧ (r26.2.1 26).toNatClampNeg < 4 then some (((r26.2.1 26) + (1 : Int32), ((va_up r26.2.1 26 ((r26.2.1 26) + (1 : Int32))), (va_up (va_up r26.2.2.1 41 (upd (r26.2.2.1 41) (r26.2.1 26).toNatClampNeg a0)) 42 (upd (r26.2.2.1 42) (r26.2.1 26).toNatClampNeg a1)), r26.2.2.2))) else none))) else ((F62 S (1 : Int32) (1 : Int32) (1 : Int32)).bind fun r30 => (if r30.1 = (0 : Int32) then (some (((0 : Int32), r30.2))) else (if 0 ≤ (r30.2.1 26) ∧ (r30.2.1 26).toNatClampNeg < 4 then some (((r30.2.1 26) + (1 : Int32), ((va_up r30.2.1 26 ((r30.2.1 26) + (1 : Int32))), (va_up (va_up r30.2.2.1 41 (upd (r30.2.2.1 41) (r30.2.1 26).toNatClampNeg a0)) 42 (upd (r30.2.2.1 42) (r30.2.1 26).toNatClampNeg a1)), r30.2.2.2))) else none)))))))
set_option maxRecDepth 100000 in
set_option maxHeartbeats 4000000 in
theorem F67_ok {sc : mS} (d : Nat) {S : mSt} {a0 a1 : Int32} {r : Int32 × mSt} (h : F67 S a0 a1 = some r) : mm_ev sc mmK mmP (d + 1) 67 (0, mm_en 3 [.ref 34, .int a0, .int a1], [], mH S, 0, 0) (mm_is (.inl (some (.int r.1))) (mH r.2)) := by
  unfold F67 at h
  refine mm_ev.to (c := (0, [some (.ref 34), some (.int a0), some (.int a1)], [], mH S, 0, 0)) rfl ?_
  refine mm_ev.go [true, true, true, true] (ps := []) (c1 := (6, [some (.ref 34), some (.int a0), some (.int a1)], [.int (200 : Int32), .int (0 : Int32), .int a0, .ref 34], mH S, 0, 0)) rfl trivial ?_
  obtain ⟨r1, h2, h⟩ := mb_b h
  refine mm_ev.call (q := mq67) (q2 := mq61) (b := (6, .invokestatic 78, 3, 2, 4, 61, 3, 0, [776, 774, 775, 54])) (as := [.int a0, .int (0 : Int32), .int (200 : Int32)]) (r := [.ref 34]) (v := (some (.int r1))) (h1 := mH S) rfl rfl rfl rfl ⟨Nat.le_of_ble_eq_true rfl, Nat.le_of_ble_eq_true rfl, Nat.le_of_ble_eq_true rfl⟩ (F61_ok d h2) ?_
  refine mm_ev.to (c := (9, [some (.ref 34), some (.int a0), some (.int a1)], [.int r1, .ref 34], mH S, 0, 0)) rfl ?_
  by_cases h3 : r1 = (0 : Int32)
  · rw [if_pos h3] at h
    refine mm_ev.go [true] (ps := [mm_cmp .eq r1 (0 : Int32)]) (c1 := (29, [some (.ref 34), some (.int a0), some (.int a1)], [.ref 34], mH S, 0, 0)) rfl ⟨h3, trivial⟩ ?_
    by_cases h4 : (4 : Int32) ≤ (S.1 26)
    · rw [if_pos h4] at h
      refine mm_ev.go [true, true, true, true, true] (ps := [mm_cmp .ge (S.1 26) (4 : Int32)]) (c1 := (42, [some (.ref 34), some (.int a0), some (.int a1)], [.int (0 : Int32), .ref 34], mH S, 0, 0)) rfl ⟨h4, trivial⟩ ?_
      refine mm_ev.go [true, true] (ps := []) (c1 := (44, [some (.ref 34), some (.int a0), some (.int a1)], [.int (1 : Int32), .int (0 : Int32), .int (0 : Int32), .ref 34], mH S, 0, 0)) rfl trivial ?_
      obtain ⟨r5, h6, h⟩ := mb_b h
      refine mm_ev.call (q := mq67) (q2 := mq62) (b := (44, .invokevirtual 86, 3, 2, 2, 62, 4, 6, [780, 777, 779, 54, 37])) (as := [.ref 34, .int (0 : Int32), .int (0 : Int32), .int (1 : Int32)]) (r := []) (v := (some (.int r5.1))) (h1 := mH r5.2) rfl rfl rfl rfl ⟨Nat.le_of_ble_eq_true rfl, Nat.le_of_ble_eq_true rfl, Nat.le_of_ble_eq_true rfl⟩ (F62_ok d h6) ?_
      refine mm_ev.to (c := (47, [some (.ref 34), some (.int a0), some (.int a1)], [.int r5.1], mH r5.2, 0, 0)) rfl ?_
      by_cases h7 : r5.1 = (0 : Int32)
      · rw [if_pos h7] at h
        refine mm_ev.go [false] (ps := [¬ mm_cmp .ne r5.1 (0 : Int32)]) (c1 := (50, [some (.ref 34), some (.int a0), some (.int a1)], [], mH r5.2, 0, 0)) rfl ⟨(fun z => z h7), trivial⟩ ?_
        refine mm_ev.go [true] (ps := []) (c1 := (51, [some (.ref 34), some (.int a0), some (.int a1)], [.int (0 : Int32)], mH r5.2, 0, 0)) rfl trivial ?_
        cases h
        exact mm_ev.ret (q := mq67) (b := (51, .ireturn, 1, 3, 0, 0, 0, 0, [])) rfl rfl rfl ⟨Nat.le_of_ble_eq_true rfl, Nat.le_of_ble_eq_true rfl⟩ trivial ⟨rfl, rfl⟩
      · rw [if_neg h7] at h
        refine mm_ev.go [true] (ps := [mm_cmp .ne r5.1 (0 : Int32)]) (c1 := (52, [some (.ref 34), some (.int a0), some (.int a1)], [], mH r5.2, 0, 0)) rfl ⟨h7, trivial⟩ ?_
        obtain ⟨h8, h⟩ := mb_i h
        refine mm_ev.go [true, true, true, true, true, true, true, true, true, true, true, true, true, true, true, true, true, true, true, true] (ps := [mm_in (r5.2.1 26) 4, mm_in (r5.2.1 26) 4, _, _]) (c1 := (86, [some (.ref 34), some (.int a0), some (.int a1)], [.int ((r5.2.1 26) + (1 : Int32))], mH ((va_up r5.2.1 26 ((r5.2.1 26) + (1 : Int32))), (va_up (va_up r5.2.2.1 41 (upd (r5.2.2.1 41) (r5.2.1 26).toNatClampNeg a0)) 42 (upd (r5.2.2.1 42) (r5.2.1 26).toNatClampNeg a1)), r5.2.2.2), 0, 0)) rfl ⟨h8, h8, trivial, (Nat.le_of_ble_eq_true rfl), trivial⟩ ?_
        cases h
        exact mm_ev.ret (q := mq67) (b := (86, .ireturn, 1, 3, 0, 0, 0, 0, [])) rfl rfl rfl ⟨Nat.le_of_ble_eq_true rfl, Nat.le_of_ble_eq_true rfl⟩ trivial ⟨rfl, rfl⟩
    · rw [if_neg h4] at h
      refine mm_ev.go [true, true, true, true, false] (ps := [¬ mm_cmp .ge (S.1 26) (4 : Int32)]) (c1 := (38, [some (.ref 34), some (.int a0), some (.int a1)], [.int (0 : Int32), .ref 34], mH S, 0, 0)) rfl ⟨h4, trivial⟩ ?_
      refine mm_ev.go [true, true, true] (ps := []) (c1 := (44, [some (.ref 34), some (.int a0), some (.int a1)], [.int (1 : Int32), .int (1 : Int32), .int (0 : Int32), .ref 34], mH S, 0, 0)) rfl trivial ?_
      obtain ⟨r9, h10, h⟩ := mb_b h
      refine mm_ev.call (q := mq67) (q2 := mq62) (b := (44, .invokevirtual 86, 3, 2, 2, 62, 4, 6, [780, 777, 779, 54, 37])) (as := [.ref 34, .int (0 : Int32), .int (1 : Int32), .int (1 : Int32)]) (r := []) (v := (some (.int r9.1))) (h1 := mH r9.2) rfl rfl rfl rfl ⟨Nat.le_of_ble_eq_true rfl, Nat.le_of_ble_eq_true rfl, Nat.le_of_ble_eq_true rfl⟩ (F62_ok d h10) ?_
      refine mm_ev.to (c := (47, [some (.ref 34), some (.int a0), some (.int a1)], [.int r9.1], mH r9.2, 0, 0)) rfl ?_
      by_cases h11 : r9.1 = (0 : Int32)
      · rw [if_pos h11] at h
        refine mm_ev.go [false] (ps := [¬ mm_cmp .ne r9.1 (0 : Int32)]) (c1 := (50, [some (.ref 34), some (.int a0), some (.int a1)], [], mH r9.2, 0, 0)) rfl ⟨(fun z => z h11), trivial⟩ ?_
        refine mm_ev.go [true] (ps := []) (c1 := (51, [some (.ref 34), some (.int a0), some (.int a1)], [.int (0 : Int32)], mH r9.2, 0, 0)) rfl trivial ?_
        cases h
        exact mm_ev.ret (q := mq67) (b := (51, .ireturn, 1, 3, 0, 0, 0, 0, [])) rfl rfl rfl ⟨Nat.le_of_ble_eq_true rfl, Nat.le_of_ble_eq_true rfl⟩ trivial ⟨rfl, rfl⟩
      · rw [if_neg h11] at h
        refine mm_ev.go [true] (ps := [mm_cmp .ne r9.1 (0 : Int32)]) (c1 := (52, [some (.ref 34), some (.int a0), some (.int a1)], [], mH r9.2, 0, 0)) rfl ⟨h11, trivial⟩ ?_
        obtain ⟨h12, h⟩ := mb_i h
        refine mm_ev.go [true, true, true, true, true, true, true, true, true, true, true, true, true, true, true, true, true, true, true, true] (ps := [mm_in (r9.2.1 26) 4, mm_in (r9.2.1 26) 4, _, _]) (c1 := (86, [some (.ref 34), some (.int a0), some (.int a1)], [.int ((r9.2.1 26) + (1 : Int32))], mH ((va_up r9.2.1 26 ((r9.2.1 26) + (1 : Int32))), (va_up (va_up r9.2.2.1 41 (upd (r9.2.2.1 41) (r9.2.1 26).toNatClampNeg a0)) 42 (upd (r9.2.2.1 42) (r9.2.1 26).toNatClampNeg a1)), r9.2.2.2), 0, 0)) rfl ⟨h12, h12, trivial, (Nat.le_of_ble_eq_true rfl), trivial⟩ ?_
        cases h
        exact mm_ev.ret (q := mq67) (b := (86, .ireturn, 1, 3, 0, 0, 0, 0, [])) rfl rfl rfl ⟨Nat.le_of_ble_eq_true rfl, Nat.le_of_ble_eq_true rfl⟩ trivial ⟨rfl, rfl⟩
  · rw [if_neg h3] at h
    refine mm_ev.go [false] (ps := [¬ mm_cmp .eq r1 (0 : Int32)]) (c1 := (12, [some (.ref 34), some (.int a0), some (.int a1)], [.ref 34], mH S, 0, 0)) rfl ⟨h3, trivial⟩ ?_
    refine mm_ev.go [true, true, true, true, true] (ps := []) (c1 := (19, [some (.ref 34), some (.int a0), some (.int a1)], [.int (200 : Int32), .int (a0 + (1 : Int32)), .int a1, .ref 34], mH S, 0, 0)) rfl trivial ?_
    obtain ⟨r13, h14, h⟩ := mb_b h
    refine mm_ev.call (q := mq67) (q2 := mq61) (b := (19, .invokestatic 78, 3, 2, 4, 61, 3, 0, [776, 774, 775, 54])) (as := [.int a1, .int (a0 + (1 : Int32)), .int (200 : Int32)]) (r := [.ref 34]) (v := (some (.int r13))) (h1 := mH S) rfl rfl rfl rfl ⟨Nat.le_of_ble_eq_true rfl, Nat.le_of_ble_eq_true rfl, Nat.le_of_ble_eq_true rfl⟩ (F61_ok d h14) ?_
    refine mm_ev.to (c := (22, [some (.ref 34), some (.int a0), some (.int a1)], [.int r13, .ref 34], mH S, 0, 0)) rfl ?_
    by_cases h15 : r13 = (0 : Int32)
    · rw [if_pos h15] at h
      refine mm_ev.go [true] (ps := [mm_cmp .eq r13 (0 : Int32)]) (c1 := (29, [some (.ref 34), some (.int a0), some (.int a1)], [.ref 34], mH S, 0, 0)) rfl ⟨h15, trivial⟩ ?_
      by_cases h16 : (4 : Int32) ≤ (S.1 26)
      · rw [if_pos h16] at h
        refine mm_ev.go [true, true, true, true, true] (ps := [mm_cmp .ge (S.1 26) (4 : Int32)]) (c1 := (42, [some (.ref 34), some (.int a0), some (.int a1)], [.int (0 : Int32), .ref 34], mH S, 0, 0)) rfl ⟨h16, trivial⟩ ?_
        refine mm_ev.go [true, true] (ps := []) (c1 := (44, [some (.ref 34), some (.int a0), some (.int a1)], [.int (1 : Int32), .int (0 : Int32), .int (0 : Int32), .ref 34], mH S, 0, 0)) rfl trivial ?_
        obtain ⟨r17, h18, h⟩ := mb_b h
        refine mm_ev.call (q := mq67) (q2 := mq62) (b := (44, .invokevirtual 86, 3, 2, 2, 62, 4, 6, [780, 777, 779, 54, 37])) (as := [.ref 34, .int (0 : Int32), .int (0 : Int32), .int (1 : Int32)]) (r := []) (v := (some (.int r17.1))) (h1 := mH r17.2) rfl rfl rfl rfl ⟨Nat.le_of_ble_eq_true rfl, Nat.le_of_ble_eq_true rfl, Nat.le_of_ble_eq_true rfl⟩ (F62_ok d h18) ?_
        refine mm_ev.to (c := (47, [some (.ref 34), some (.int a0), some (.int a1)], [.int r17.1], mH r17.2, 0, 0)) rfl ?_
        by_cases h19 : r17.1 = (0 : Int32)
        · rw [if_pos h19] at h
          refine mm_ev.go [false] (ps := [¬ mm_cmp .ne r17.1 (0 : Int32)]) (c1 := (50, [some (.ref 34), some (.int a0), some (.int a1)], [], mH r17.2, 0, 0)) rfl ⟨(fun z => z h19), trivial⟩ ?_
          refine mm_ev.go [true] (ps := []) (c1 := (51, [some (.ref 34), some (.int a0), some (.int a1)], [.int (0 : Int32)], mH r17.2, 0, 0)) rfl trivial ?_
          cases h
          exact mm_ev.ret (q := mq67) (b := (51, .ireturn, 1, 3, 0, 0, 0, 0, [])) rfl rfl rfl ⟨Nat.le_of_ble_eq_true rfl, Nat.le_of_ble_eq_true rfl⟩ trivial ⟨rfl, rfl⟩
        · rw [if_neg h19] at h
          refine mm_ev.go [true] (ps := [mm_cmp .ne r17.1 (0 : Int32)]) (c1 := (52, [some (.ref 34), some (.int a0), some (.int a1)], [], mH r17.2, 0, 0)) rfl ⟨h19, trivial⟩ ?_
          obtain ⟨h20, h⟩ := mb_i h
          refine mm_ev.go [true, true, true, true, true, true, true, true, true, true, true, true, true, true, true, true, true, true, true, true] (ps := [mm_in (r17.2.1 26) 4, mm_in (r17.2.1 26) 4, _, _]) (c1 := (86, [some (.ref 34), some (.int a0), some (.int a1)], [.int ((r17.2.1 26) + (1 : Int32))], mH ((va_up r17.2.1 26 ((r17.2.1 26) + (1 : Int32))), (va_up (va_up r17.2.2.1 41 (upd (r17.2.2.1 41) (r17.2.1 26).toNatClampNeg a0)) 42 (upd (r17.2.2.1 42) (r17.2.1 26).toNatClampNeg a1)), r17.2.2.2), 0, 0)) rfl ⟨h20, h20, trivial, (Nat.le_of_ble_eq_true rfl), trivial⟩ ?_
          cases h
          exact mm_ev.ret (q := mq67) (b := (86, .ireturn, 1, 3, 0, 0, 0, 0, [])) rfl rfl rfl ⟨Nat.le_of_ble_eq_true rfl, Nat.le_of_ble_eq_true rfl⟩ trivial ⟨rfl, rfl⟩
      · rw [if_neg h16] at h
        refine mm_ev.go [true, true, true, true, false] (ps := [¬ mm_cmp .ge (S.1 26) (4 : Int32)]) (c1 := (38, [some (.ref 34), some (.int a0), some (.int a1)], [.int (0 : Int32), .ref 34], mH S, 0, 0)) rfl ⟨h16, trivial⟩ ?_
        refine mm_ev.go [true, true, true] (ps := []) (c1 := (44, [some (.ref 34), some (.int a0), some (.int a1)], [.int (1 : Int32), .int (1 : Int32), .int (0 : Int32), .ref 34], mH S, 0, 0)) rfl trivial ?_
        obtain ⟨r21, h22, h⟩ := mb_b h
        refine mm_ev.call (q := mq67) (q2 := mq62) (b := (44, .invokevirtual 86, 3, 2, 2, 62, 4, 6, [780, 777, 779, 54, 37])) (as := [.ref 34, .int (0 : Int32), .int (1 : Int32), .int (1 : Int32)]) (r := []) (v := (some (.int r21.1))) (h1 := mH r21.2) rfl rfl rfl rfl ⟨Nat.le_of_ble_eq_true rfl, Nat.le_of_ble_eq_true rfl, Nat.le_of_ble_eq_true rfl⟩ (F62_ok d h22) ?_
        refine mm_ev.to (c := (47, [some (.ref 34), some (.int a0), some (.int a1)], [.int r21.1], mH r21.2, 0, 0)) rfl ?_
        by_cases h23 : r21.1 = (0 : Int32)
        · rw [if_pos h23] at h
          refine mm_ev.go [false] (ps := [¬ mm_cmp .ne r21.1 (0 : Int32)]) (c1 := (50, [some (.ref 34), some (.int a0), some (.int a1)], [], mH r21.2, 0, 0)) rfl ⟨(fun z => z h23), trivial⟩ ?_
          refine mm_ev.go [true] (ps := []) (c1 := (51, [some (.ref 34), some (.int a0), some (.int a1)], [.int (0 : Int32)], mH r21.2, 0, 0)) rfl trivial ?_
          cases h
          exact mm_ev.ret (q := mq67) (b := (51, .ireturn, 1, 3, 0, 0, 0, 0, [])) rfl rfl rfl ⟨Nat.le_of_ble_eq_true rfl, Nat.le_of_ble_eq_true rfl⟩ trivial ⟨rfl, rfl⟩
        · rw [if_neg h23] at h
          refine mm_ev.go [true] (ps := [mm_cmp .ne r21.1 (0 : Int32)]) (c1 := (52, [some (.ref 34), some (.int a0), some (.int a1)], [], mH r21.2, 0, 0)) rfl ⟨h23, trivial⟩ ?_
          obtain ⟨h24, h⟩ := mb_i h
          refine mm_ev.go [true, true, true, true, true, true, true, true, true, true, true, true, true, true, true, true, true, true, true, true] (ps := [mm_in (r21.2.1 26) 4, mm_in (r21.2.1 26) 4, _, _]) (c1 := (86, [some (.ref 34), some (.int a0), some (.int a1)], [.int ((r21.2.1 26) + (1 : Int32))], mH ((va_up r21.2.1 26 ((r21.2.1 26) + (1 : Int32))), (va_up (va_up r21.2.2.1 41 (upd (r21.2.2.1 41) (r21.2.1 26).toNatClampNeg a0)) 42 (upd (r21.2.2.1 42) (r21.2.1 26).toNatClampNeg a1)), r21.2.2.2), 0, 0)) rfl ⟨h24, h24, trivial, (Nat.le_of_ble_eq_true rfl), trivial⟩ ?_
          cases h
          exact mm_ev.ret (q := mq67) (b := (86, .ireturn, 1, 3, 0, 0, 0, 0, [])) rfl rfl rfl ⟨Nat.le_of_ble_eq_true rfl, Nat.le_of_ble_eq_true rfl⟩ trivial ⟨rfl, rfl⟩
    · rw [if_neg h15] at h
      refine mm_ev.go [false] (ps := [¬ mm_cmp .eq r13 (0 : Int32)]) (c1 := (25, [some (.ref 34), some (.int a0), some (.int a1)], [.ref 34], mH S, 0, 0)) rfl ⟨h15, trivial⟩ ?_
      by_cases h25 : (4 : Int32) ≤ (S.1 26)
      · rw [if_pos h25] at h
        refine mm_ev.go [true, true, true, true, true, true] (ps := [mm_cmp .ge (S.1 26) (4 : Int32)]) (c1 := (42, [some (.ref 34), some (.int a0), some (.int a1)], [.int (1 : Int32), .ref 34], mH S, 0, 0)) rfl ⟨h25, trivial⟩ ?_
        refine mm_ev.go [true, true] (ps := []) (c1 := (44, [some (.ref 34), some (.int a0), some (.int a1)], [.int (1 : Int32), .int (0 : Int32), .int (1 : Int32), .ref 34], mH S, 0, 0)) rfl trivial ?_
        obtain ⟨r26, h27, h⟩ := mb_b h
        refine mm_ev.call (q := mq67) (q2 := mq62) (b := (44, .invokevirtual 86, 3, 2, 2, 62, 4, 6, [780, 777, 779, 54, 37])) (as := [.ref 34, .int (1 : Int32), .int (0 : Int32), .int (1 : Int32)]) (r := []) (v := (some (.int r26.1))) (h1 := mH r26.2) rfl rfl rfl rfl ⟨Nat.le_of_ble_eq_true rfl, Nat.le_of_ble_eq_true rfl, Nat.le_of_ble_eq_true rfl⟩ (F62_ok d h27) ?_
        refine mm_ev.to (c := (47, [some (.ref 34), some (.int a0), some (.int a1)], [.int r26.1], mH r26.2, 0, 0)) rfl ?_
        by_cases h28 : r26.1 = (0 : Int32)
        · rw [if_pos h28] at h
          refine mm_ev.go [false] (ps := [¬ mm_cmp .ne r26.1 (0 : Int32)]) (c1 := (50, [some (.ref 34), some (.int a0), some (.int a1)], [], mH r26.2, 0, 0)) rfl ⟨(fun z => z h28), trivial⟩ ?_
          refine mm_ev.go [true] (ps := []) (c1 := (51, [some (.ref 34), some (.int a0), some (.int a1)], [.int (0 : Int32)], mH r26.2, 0, 0)) rfl trivial ?_
          cases h
          exact mm_ev.ret (q := mq67) (b := (51, .ireturn, 1, 3, 0, 0, 0, 0, [])) rfl rfl rfl ⟨Nat.le_of_ble_eq_true rfl, Nat.le_of_ble_eq_true rfl⟩ trivial ⟨rfl, rfl⟩
        · rw [if_neg h28] at h
          refine mm_ev.go [true] (ps := [mm_cmp .ne r26.1 (0 : Int32)]) (c1 := (52, [some (.ref 34), some (.int a0), some (.int a1)], [], mH r26.2, 0, 0)) rfl ⟨h28, trivial⟩ ?_
          obtain ⟨h29, h⟩ := mb_i h
          refine mm_ev.go [true, true, true, true, true, true, true, true, true, true, true, true, true, true, true, true, true, true, true, true] (ps := [mm_in (r26.2.1 26) 4, mm_in (r26.2.1 26) 4, _, _]) (c1 := (86, [some (.ref 34), some (.int a0), some (.int a1)], [.int ((r26.2.1 26) + (1 : Int32))], mH ((va_up r26.2.1 26 ((r26.2.1 26) + (1 : Int32))), (va_up (va_up r26.2.2.1 41 (upd (r26.2.2.1 41) (r26.2.1 26).toNatClampNeg a0)) 42 (upd (r26.2.2.1 42) (r26.2.1 26).toNatClampNeg a1)), r26.2.2.2), 0, 0)) rfl ⟨h29, h29, trivial, (Nat.le_of_ble_eq_true rfl), trivial⟩ ?_
          cases h
          exact mm_ev.ret (q := mq67) (b := (86, .ireturn, 1, 3, 0, 0, 0, 0, [])) rfl rfl rfl ⟨Nat.le_of_ble_eq_true rfl, Nat.le_of_ble_eq_true rfl⟩ trivial ⟨rfl, rfl⟩
      · rw [if_neg h25] at h
        refine mm_ev.go [true, true, true, true, true, false] (ps := [¬ mm_cmp .ge (S.1 26) (4 : Int32)]) (c1 := (38, [some (.ref 34), some (.int a0), some (.int a1)], [.int (1 : Int32), .ref 34], mH S, 0, 0)) rfl ⟨h25, trivial⟩ ?_
        refine mm_ev.go [true, true, true] (ps := []) (c1 := (44, [some (.ref 34), some (.int a0), some (.int a1)], [.int (1 : Int32), .int (1 : Int32), .int (1 : Int32), .ref 34], mH S, 0, 0)) rfl trivial ?_
        obtain ⟨r30, h31, h⟩ := mb_b h
        refine mm_ev.call (q := mq67) (q2 := mq62) (b := (44, .invokevirtual 86, 3, 2, 2, 62, 4, 6, [780, 777, 779, 54, 37])) (as := [.ref 34, .int (1 : Int32), .int (1 : Int32), .int (1 : Int32)]) (r := []) (v := (some (.int r30.1))) (h1 := mH r30.2) rfl rfl rfl rfl ⟨Nat.le_of_ble_eq_true rfl, Nat.le_of_ble_eq_true rfl, Nat.le_of_ble_eq_true rfl⟩ (F62_ok d h31) ?_
        refine mm_ev.to (c := (47, [some (.ref 34), some (.int a0), some (.int a1)], [.int r30.1], mH r30.2, 0, 0)) rfl ?_
        by_cases h32 : r30.1 = (0 : Int32)
        · rw [if_pos h32] at h
          refine mm_ev.go [false] (ps := [¬ mm_cmp .ne r30.1 (0 : Int32)]) (c1 := (50, [some (.ref 34), some (.int a0), some (.int a1)], [], mH r30.2, 0, 0)) rfl ⟨(fun z => z h32), trivial⟩ ?_
          refine mm_ev.go [true] (ps := []) (c1 := (51, [some (.ref 34), some (.int a0), some (.int a1)], [.int (0 : Int32)], mH r30.2, 0, 0)) rfl trivial ?_
          cases h
          exact mm_ev.ret (q := mq67) (b := (51, .ireturn, 1, 3, 0, 0, 0, 0, [])) rfl rfl rfl ⟨Nat.le_of_ble_eq_true rfl, Nat.le_of_ble_eq_true rfl⟩ trivial ⟨rfl, rfl⟩
        · rw [if_neg h32] at h
          refine mm_ev.go [true] (ps := [mm_cmp .ne r30.1 (0 : Int32)]) (c1 := (52, [some (.ref 34), some (.int a0), some (.int a1)], [], mH r30.2, 0, 0)) rfl ⟨h32, trivial⟩ ?_
          obtain ⟨h33, h⟩ := mb_i h
          refine mm_ev.go [true, true, true, true, true, true, true, true, true, true, true, true, true, true, true, true, true, true, true, true] (ps := [mm_in (r30.2.1 26) 4, mm_in (r30.2.1 26) 4, _, _]) (c1 := (86, [some (.ref 34), some (.int a0), some (.int a1)], [.int ((r30.2.1 26) + (1 : Int32))], mH ((va_up r30.2.1 26 ((r30.2.1 26) + (1 : Int32))), (va_up (va_up r30.2.2.1 41 (upd (r30.2.2.1 41) (r30.2.1 26).toNatClampNeg a0)) 42 (upd (r30.2.2.1 42) (r30.2.1 26).toNatClampNeg a1)), r30.2.2.2), 0, 0)) rfl ⟨h33, h33, trivial, (Nat.le_of_ble_eq_true rfl), trivial⟩ ?_
          cases h
          exact mm_ev.ret (q := mq67) (b := (86, .ireturn, 1, 3, 0, 0, 0, 0, [])) rfl rfl rfl ⟨Nat.le_of_ble_eq_true rfl, Nat.le_of_ble_eq_true rfl⟩ trivial ⟨rfl, rfl⟩
/-- SlabPatternsModel.lengthOf -/
def F70 (S : mSt) (a0 : Int32) : Option (Int32) := if ¬ (2 : Int32) = 0 then if (a0 - a0 / (2 : Int32) * (2 : Int32)) = (0 : Int32) then (if 0 ≤ (a0 / (2 : Int32)) ∧ (a0 / (2 : Int32)).toNatClampNeg < 5 then some (S.2.1 35 (a0 / (2 : Int32)).toNatClampNeg) else none) else (if 0 ≤ (a0 / (2 : Int32)) ∧ (a0 / (2 : Int32)).toNatClampNeg < 5 then some (S.2.1 37 (a0 / (2 : Int32)).toNatClampNeg) else none) else none
set_option maxRecDepth 100000 in
set_option maxHeartbeats 4000000 in
theorem F70_ok {sc : mS} (d : Nat) {S : mSt} {a0 : Int32} {r : Int32} (h : F70 S a0 = some r) : mm_ev sc mmK mmP (d + 0) 70 (0, mm_en 2 [.ref 34, .int a0], [], mH S, 0, 0) (mm_is (.inl (some (.int r))) (mH S)) := by
  unfold F70 at h
  refine mm_ev.to (c := (0, [some (.ref 34), some (.int a0)], [], mH S, 0, 0)) rfl ?_
  obtain ⟨h1, h⟩ := mb_i h
  by_cases h2 : (a0 - a0 / (2 : Int32) * (2 : Int32)) = (0 : Int32)
  · rw [if_pos h2] at h
    refine mm_ev.go [true, true, true, false] (ps := [¬ (2 : Int32) = 0, ¬ mm_cmp .ne (a0 - a0 / (2 : Int32) * (2 : Int32)) (0 : Int32)]) (c1 := (6, [some (.ref 34), some (.int a0)], [], mH S, 0, 0)) rfl ⟨h1, (fun z => z h2), trivial⟩ ?_
    obtain ⟨h3, h⟩ := mb_i h
    refine mm_ev.go [true, true, true, true, true, true, true] (ps := [¬ (2 : Int32) = 0, mm_in (a0 / (2 : Int32)) 5]) (c1 := (25, [some (.ref 34), some (.int a0)], [.int (S.2.1 35 (a0 / (2 : Int32)).toNatClampNeg)], mH S, 0, 0)) rfl ⟨h1, h3, trivial⟩ ?_
    cases h
    exact mm_ev.ret (q := mq70) (b := (25, .ireturn, 1, 3, 0, 0, 0, 0, [])) rfl rfl rfl ⟨Nat.le_of_ble_eq_true rfl, Nat.le_of_ble_eq_true rfl⟩ trivial ⟨rfl, rfl⟩
  · rw [if_neg h2] at h
    refine mm_ev.go [true, true, true, true] (ps := [¬ (2 : Int32) = 0, mm_cmp .ne (a0 - a0 / (2 : Int32) * (2 : Int32)) (0 : Int32)]) (c1 := (17, [some (.ref 34), some (.int a0)], [], mH S, 0, 0)) rfl ⟨h1, h2, trivial⟩ ?_
    obtain ⟨h4, h⟩ := mb_i h
    refine mm_ev.go [true, true, true, true, true, true] (ps := [¬ (2 : Int32) = 0, mm_in (a0 / (2 : Int32)) 5]) (c1 := (25, [some (.ref 34), some (.int a0)], [.int (S.2.1 37 (a0 / (2 : Int32)).toNatClampNeg)], mH S, 0, 0)) rfl ⟨h1, h4, trivial⟩ ?_
    cases h
    exact mm_ev.ret (q := mq70) (b := (25, .ireturn, 1, 3, 0, 0, 0, 0, [])) rfl rfl rfl ⟨Nat.le_of_ble_eq_true rfl, Nat.le_of_ble_eq_true rfl⟩ trivial ⟨rfl, rfl⟩
def I71_2 (S : mSt) (v1 v2 : Int32) : Option (Nat × Int32 × Int32) := if (S.1 26) ≤ v2 then (some (1, 0, 0)) else (if 0 ≤ v2 ∧ v2.toNatClampNeg < 4 then if v1 ≤ (S.2.1 41 v2.toNatClampNeg) then (some (0, v1, v2 + (1 : Int32))) else (if (S.2.1 42 v2.toNatClampNeg) ≤ v1 then (some (0, v1, v2 + (1 : Int32))) else (some (2, 0, 0))) else none)
set_option maxRecDepth 100000 in
set_option maxHeartbeats 4000000 in
theorem I71_2_ok {sc : mS} (d : Nat) {S : mSt} {v1 v2 : Int32} {r : Nat × Int32 × Int32} (h : I71_2 S v1 v2 = some r) {Q : mR → List mE → Prop} (hc0 : r.1 = 0 → mm_ev sc mmK mmP (d + 0) 71 (2, [some (.ref 34), some (.int r.2.1), some (.int r.2.2)], [], mH S, 0, 0) Q) (hc1 : r.1 = 1 → ∀ u0 : Option Value, ∀ u1 : Option Value, ∀ u2 : Option Value, mm_ev sc mmK mmP (d + 0) 71 (38, [u0, u1, u2], [], mH S, 0, 0) Q) (hc2 : r.1 = 2 → ∀ u0 : Option Value, ∀ u1 : Option Value, ∀ u2 : Option Value, mm_ev sc mmK mmP (d + 0) 71 (30, [u0, u1, u2], [], mH S, 0, 0) Q) : mm_ev sc mmK mmP (d + 0) 71 (2, [some (.ref 34), some (.int v1), some (.int v2)], [], mH S, 0, 0) Q := by
  unfold I71_2 at h
  by_cases h1 : (S.1 26) ≤ v2
  · rw [if_pos h1] at h
    refine mm_ev.go [true, true, true, true] (ps := [mm_cmp .ge v2 (S.1 26)]) (c1 := (38, [some (.ref 34), some (.int v1), some (.int v2)], [], mH S, 0, 0)) rfl ⟨h1, trivial⟩ ?_
    cases h
    exact hc1 rfl (some (.ref 34)) (some (.int v1)) (some (.int v2))
  · rw [if_neg h1] at h
    refine mm_ev.go [true, true, true, false] (ps := [¬ mm_cmp .ge v2 (S.1 26)]) (c1 := (10, [some (.ref 34), some (.int v1), some (.int v2)], [], mH S, 0, 0)) rfl ⟨h1, trivial⟩ ?_
    obtain ⟨h2, h⟩ := mb_i h
    by_cases h3 : v1 ≤ (S.2.1 41 v2.toNatClampNeg)
    · rw [if_pos h3] at h
      refine mm_ev.go [true, true, true, true, true, true] (ps := [mm_in v2 4, mm_cmp .le v1 (S.2.1 41 v2.toNatClampNeg)]) (c1 := (32, [some (.ref 34), some (.int v1), some (.int v2)], [], mH S, 0, 0)) rfl ⟨h2, h3, trivial⟩ ?_
      refine mm_ev.go [true, true] (ps := []) (c1 := (2, [some (.ref 34), some (.int v1), some (.int (v2 + (1 : Int32)))], [], mH S, 0, 0)) rfl trivial ?_
      cases h
      exact hc0 rfl
    · rw [if_neg h3] at h
      refine mm_ev.go [true, true, true, true, true, false] (ps := [mm_in v2 4, ¬ mm_cmp .le v1 (S.2.1 41 v2.toNatClampNeg)]) (c1 := (20, [some (.ref 34), some (.int v1), some (.int v2)], [], mH S, 0, 0)) rfl ⟨h2, h3, trivial⟩ ?_
      by_cases h4 : (S.2.1 42 v2.toNatClampNeg) ≤ v1
      · rw [if_pos h4] at h
        refine mm_ev.go [true, true, true, true, true, true] (ps := [mm_in v2 4, mm_cmp .ge v1 (S.2.1 42 v2.toNatClampNeg)]) (c1 := (32, [some (.ref 34), some (.int v1), some (.int v2)], [], mH S, 0, 0)) rfl ⟨h2, h4, trivial⟩ ?_
        refine mm_ev.go [true, true] (ps := []) (c1 := (2, [some (.ref 34), some (.int v1), some (.int (v2 + (1 : Int32)))], [], mH S, 0, 0)) rfl trivial ?_
        cases h
        exact hc0 rfl
      · rw [if_neg h4] at h
        refine mm_ev.go [true, true, true, true, true, false] (ps := [mm_in v2 4, ¬ mm_cmp .ge v1 (S.2.1 42 v2.toNatClampNeg)]) (c1 := (30, [some (.ref 34), some (.int v1), some (.int v2)], [], mH S, 0, 0)) rfl ⟨h2, h4, trivial⟩ ?_
        cases h
        exact hc2 rfl (some (.ref 34)) (some (.int v1)) (some (.int v2))
def L71_2 : Nat → mSt → Int32 → Int32 → Option (Nat × Int32 × Int32)
  | 0, _, _, _ => none
  | n + 1, S, v1, v2 => (I71_2 S v1 v2).bind fun r => if r.1 = 0 then L71_2 n S r.2.1 r.2.2 else some r
set_option maxRecDepth 100000 in
set_option maxHeartbeats 4000000 in
theorem L71_2_ok {sc : mS} (d : Nat) {n : Nat} {S : mSt} {v1 v2 : Int32} {r : Nat × Int32 × Int32} (h : L71_2 n S v1 v2 = some r) {Q : mR → List mE → Prop} (hc1 : r.1 = 1 → ∀ u0 : Option Value, ∀ u1 : Option Value, ∀ u2 : Option Value, mm_ev sc mmK mmP (d + 0) 71 (38, [u0, u1, u2], [], mH S, 0, 0) Q) (hc2 : r.1 = 2 → ∀ u0 : Option Value, ∀ u1 : Option Value, ∀ u2 : Option Value, mm_ev sc mmK mmP (d + 0) 71 (30, [u0, u1, u2], [], mH S, 0, 0) Q) : mm_ev sc mmK mmP (d + 0) 71 (2, [some (.ref 34), some (.int v1), some (.int v2)], [], mH S, 0, 0) Q := by
  induction n generalizing v1 v2 with
  | zero => cases h
  | succ n ih =>
    unfold L71_2 at h
    obtain ⟨r1, h1, h⟩ := mb_b h
    by_cases h0 : r1.1 = 0
    · rw [if_pos h0] at h
      refine I71_2_ok d h1 (fun _ => ih h) (fun z => absurd z (by omega)) (fun z => absurd z (by omega))
    · rw [if_neg h0] at h
      cases h
      exact I71_2_ok d h1 (fun z => absurd z h0) hc1 hc2
/-- SlabPatternsModel.isBarred -/
def F71 (n : Nat) (S : mSt) (a0 : Int32) : Option (Int32) := (L71_2 n S a0 (0 : Int32)).bind fun r5 => (if r5.1 = 1 then (some ((0 : Int32))) else (if r5.1 = 2 then (some ((1 : Int32))) else none))
set_option maxRecDepth 100000 in
set_option maxHeartbeats 4000000 in
theorem F71_ok {sc : mS} (d : Nat) {n : Nat} {S : mSt} {a0 : Int32} {r : Int32} (h : F71 n S a0 = some r) : mm_ev sc mmK mmP (d + 0) 71 (0, mm_en 3 [.ref 34, .int a0], [], mH S, 0, 0) (mm_is (.inl (some (.int r))) (mH S)) := by
  unfold F71 at h
  refine mm_ev.to (c := (0, [some (.ref 34), some (.int a0), none], [], mH S, 0, 0)) rfl ?_
  refine mm_ev.go [true, true] (ps := []) (c1 := (2, [some (.ref 34), some (.int a0), some (.int (0 : Int32))], [], mH S, 0, 0)) rfl trivial ?_
  obtain ⟨r5, h6, h⟩ := mb_b h
  refine L71_2_ok d h6 ?_ ?_
  · intro h7 o1_0 o1_1 o1_2
    rw [if_pos h7] at h
    refine mm_ev.go [true] (ps := []) (c1 := (39, [o1_0, o1_1, o1_2], [.int (0 : Int32)], mH S, 0, 0)) rfl trivial ?_
    cases h
    exact mm_ev.ret (q := mq71) (b := (39, .ireturn, 1, 3, 0, 0, 0, 0, [])) rfl rfl rfl ⟨Nat.le_of_ble_eq_true rfl, Nat.le_of_ble_eq_true rfl⟩ ⟨by first | exact Or.inl rfl | exact Or.inr rfl, trivial⟩ ⟨rfl, rfl⟩
  · intro h8 o2_0 o2_1 o2_2
    rw [if_neg (by rw [h8]; decide)] at h
    rw [if_pos h8] at h
    refine mm_ev.go [true] (ps := []) (c1 := (31, [o2_0, o2_1, o2_2], [.int (1 : Int32)], mH S, 0, 0)) rfl trivial ?_
    cases h
    exact mm_ev.ret (q := mq71) (b := (31, .ireturn, 1, 3, 0, 0, 0, 0, [])) rfl rfl rfl ⟨Nat.le_of_ble_eq_true rfl, Nat.le_of_ble_eq_true rfl⟩ ⟨by first | exact Or.inl rfl | exact Or.inr rfl, trivial⟩ ⟨rfl, rfl⟩
/-- SlabPatternsModel.acrossOf -/
def F73 (S : mSt) (a0 : Int32) : Option (Int32) := if ¬ (2 : Int32) = 0 then if (a0 - a0 / (2 : Int32) * (2 : Int32)) = (0 : Int32) then (if 0 ≤ (a0 / (2 : Int32)) ∧ (a0 / (2 : Int32)).toNatClampNeg < 5 then some (S.2.1 37 (a0 / (2 : Int32)).toNatClampNeg) else none) else (if 0 ≤ (a0 / (2 : Int32)) ∧ (a0 / (2 : Int32)).toNatClampNeg < 5 then some (S.2.1 35 (a0 / (2 : Int32)).toNatClampNeg) else none) else none
set_option maxRecDepth 100000 in
set_option maxHeartbeats 4000000 in
theorem F73_ok {sc : mS} (d : Nat) {S : mSt} {a0 : Int32} {r : Int32} (h : F73 S a0 = some r) : mm_ev sc mmK mmP (d + 0) 73 (0, mm_en 2 [.ref 34, .int a0], [], mH S, 0, 0) (mm_is (.inl (some (.int r))) (mH S)) := by
  unfold F73 at h
  refine mm_ev.to (c := (0, [some (.ref 34), some (.int a0)], [], mH S, 0, 0)) rfl ?_
  obtain ⟨h1, h⟩ := mb_i h
  by_cases h2 : (a0 - a0 / (2 : Int32) * (2 : Int32)) = (0 : Int32)
  · rw [if_pos h2] at h
    refine mm_ev.go [true, true, true, false] (ps := [¬ (2 : Int32) = 0, ¬ mm_cmp .ne (a0 - a0 / (2 : Int32) * (2 : Int32)) (0 : Int32)]) (c1 := (6, [some (.ref 34), some (.int a0)], [], mH S, 0, 0)) rfl ⟨h1, (fun z => z h2), trivial⟩ ?_
    obtain ⟨h3, h⟩ := mb_i h
    refine mm_ev.go [true, true, true, true, true, true, true] (ps := [¬ (2 : Int32) = 0, mm_in (a0 / (2 : Int32)) 5]) (c1 := (25, [some (.ref 34), some (.int a0)], [.int (S.2.1 37 (a0 / (2 : Int32)).toNatClampNeg)], mH S, 0, 0)) rfl ⟨h1, h3, trivial⟩ ?_
    cases h
    exact mm_ev.ret (q := mq73) (b := (25, .ireturn, 1, 3, 0, 0, 0, 0, [])) rfl rfl rfl ⟨Nat.le_of_ble_eq_true rfl, Nat.le_of_ble_eq_true rfl⟩ trivial ⟨rfl, rfl⟩
  · rw [if_neg h2] at h
    refine mm_ev.go [true, true, true, true] (ps := [¬ (2 : Int32) = 0, mm_cmp .ne (a0 - a0 / (2 : Int32) * (2 : Int32)) (0 : Int32)]) (c1 := (17, [some (.ref 34), some (.int a0)], [], mH S, 0, 0)) rfl ⟨h1, h2, trivial⟩ ?_
    obtain ⟨h4, h⟩ := mb_i h
    refine mm_ev.go [true, true, true, true, true, true] (ps := [¬ (2 : Int32) = 0, mm_in (a0 / (2 : Int32)) 5]) (c1 := (25, [some (.ref 34), some (.int a0)], [.int (S.2.1 35 (a0 / (2 : Int32)).toNatClampNeg)], mH S, 0, 0)) rfl ⟨h1, h4, trivial⟩ ?_
    cases h
    exact mm_ev.ret (q := mq73) (b := (25, .ireturn, 1, 3, 0, 0, 0, 0, [])) rfl rfl rfl ⟨Nat.le_of_ble_eq_true rfl, Nat.le_of_ble_eq_true rfl⟩ trivial ⟨rfl, rfl⟩
