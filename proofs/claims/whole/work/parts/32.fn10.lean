/-! methods as functions of the state (10) -/
/-- SlabPatternsModel.plate -/
def F59 (S : mSt) (a0 a1 a2 : Int32) : Option (mSt) := (F60 S a0).bind fun r1 => (if r1 = (0 : Int32) then ((F62 S (0 : Int32) (1 : Int32) (1 : Int32)).bind fun r4 => (if r4.1 = (0 : Int32) then (some r4.2) else (some (((va_up (va_up (va_up (va_up r4.2.1 17 a0) 18 a1) 19 a2) 27 (0 : Int32)), r4.2.2.1, r4.2.2.2))))) else ((F60 S a1).bind fun r7 => (if r7 = (0 : Int32) then ((F62 S (0 : Int32) (1 : Int32) (1 : Int32)).bind fun r10 => (if r10.1 = (0 : Int32) then (some r10.2) else (some (((va_up (va_up (va_up (va_up r10.2.1 17 a0) 18 a1) 19 a2) 27 (0 : Int32)), r10.2.2.1, r10.2.2.2))))) else ((F61 S a2 (0 : Int32) (20 : Int32)).bind fun r13 => (if r13 = (0 : Int32) then ((F62 S (0 : Int32) (1 : Int32) (1 : Int32)).bind fun r16 => (if r16.1 = (0 : Int32) then (some r16.2) else (some (((va_up (va_up (va_up (va_up r16.2.1 17 a0) 18 a1) 19 a2) 27 (0 : Int32)), r16.2.2.1, r16.2.2.2))))) else ((F62 S (1 : Int32) (1 : Int32) (1 : Int32)).bind fun r19 => (if r19.1 = (0 : Int32) then (some r19.2) else (some (((va_up (va_up (va_up (va_up r19.2.1 17 a0) 18 a1) 19 a2) 27 (0 : Int32)), r19.2.2.1, r19.2.2.2))))))))))
set_option maxRecDepth 100000 in
set_option maxHeartbeats 4000000 in
theorem F59_ok {sc : mS} (d : Nat) {S : mSt} {a0 a1 a2 : Int32} {r : mSt} (h : F59 S a0 a1 a2 = some r) : mm_ev sc mmK mmP (d + 2) 59 (0, mm_en 4 [.ref 34, .int a0, .int a1, .int a2], [], mH S, 0, 0) (mm_is (.inl none) (mH r)) := by
  unfold F59 at h
  refine mm_ev.to (c := (0, [some (.ref 34), some (.int a0), some (.int a1), some (.int a2)], [], mH S, 0, 0)) rfl ?_
  refine mm_ev.go [true, true] (ps := []) (c1 := (2, [some (.ref 34), some (.int a0), some (.int a1), some (.int a2)], [.int a0, .ref 34], mH S, 0, 0)) rfl trivial ?_
  obtain ⟨r1, h2, h⟩ := mb_b h
  refine mm_ev.call (q := mq59) (q2 := mq60) (b := (2, .invokestatic 82, 3, 2, 4, 60, 1, 0, [773, 771, 772, 54])) (as := [.int a0]) (r := [.ref 34]) (v := (some (.int r1))) (h1 := mH S) rfl rfl rfl rfl ⟨Nat.le_of_ble_eq_true rfl, Nat.le_of_ble_eq_true rfl, Nat.le_of_ble_eq_true rfl⟩ (F60_ok d h2) ?_
  refine mm_ev.to (c := (5, [some (.ref 34), some (.int a0), some (.int a1), some (.int a2)], [.int r1, .ref 34], mH S, 0, 0)) rfl ?_
  by_cases h3 : r1 = (0 : Int32)
  · rw [if_pos h3] at h
    refine mm_ev.go [true] (ps := [mm_cmp .eq r1 (0 : Int32)]) (c1 := (29, [some (.ref 34), some (.int a0), some (.int a1), some (.int a2)], [.ref 34], mH S, 0, 0)) rfl ⟨h3, trivial⟩ ?_
    refine mm_ev.go [true, true, true] (ps := []) (c1 := (32, [some (.ref 34), some (.int a0), some (.int a1), some (.int a2)], [.int (1 : Int32), .int (1 : Int32), .int (0 : Int32), .ref 34], mH S, 0, 0)) rfl trivial ?_
    obtain ⟨r4, h5, h⟩ := mb_b h
    refine mm_ev.call (q := mq59) (q2 := mq62) (b := (32, .invokevirtual 86, 3, 2, 2, 62, 4, 6, [780, 777, 779, 54, 37])) (as := [.ref 34, .int (0 : Int32), .int (1 : Int32), .int (1 : Int32)]) (r := []) (v := (some (.int r4.1))) (h1 := mH r4.2) rfl rfl rfl rfl ⟨Nat.le_of_ble_eq_true rfl, Nat.le_of_ble_eq_true rfl, Nat.le_of_ble_eq_true rfl⟩ (F62_ok (d + 1) h5) ?_
    refine mm_ev.to (c := (35, [some (.ref 34), some (.int a0), some (.int a1), some (.int a2)], [.int r4.1], mH r4.2, 0, 0)) rfl ?_
    by_cases h6 : r4.1 = (0 : Int32)
    · rw [if_pos h6] at h
      refine mm_ev.go [false] (ps := [¬ mm_cmp .ne r4.1 (0 : Int32)]) (c1 := (38, [some (.ref 34), some (.int a0), some (.int a1), some (.int a2)], [], mH r4.2, 0, 0)) rfl ⟨(fun z => z h6), trivial⟩ ?_
      cases h
      exact mm_ev.ret (q := mq59) (b := (38, .return_, 1, 3, 0, 0, 0, 0, [])) rfl rfl rfl ⟨Nat.le_of_ble_eq_true rfl, Nat.le_of_ble_eq_true rfl⟩ trivial ⟨rfl, rfl⟩
    · rw [if_neg h6] at h
      refine mm_ev.go [true] (ps := [mm_cmp .ne r4.1 (0 : Int32)]) (c1 := (39, [some (.ref 34), some (.int a0), some (.int a1), some (.int a2)], [], mH r4.2, 0, 0)) rfl ⟨h6, trivial⟩ ?_
      refine mm_ev.go [true, true, true, true, true, true, true, true, true, true, true, true] (ps := [_, _, _, _, _, _, _, _]) (c1 := (59, [some (.ref 34), some (.int a0), some (.int a1), some (.int a2)], [], mH ((va_up (va_up (va_up (va_up r4.2.1 17 a0) 18 a1) 19 a2) 27 (0 : Int32)), r4.2.2.1, r4.2.2.2), 0, 0)) rfl ⟨trivial, (Nat.le_of_ble_eq_true rfl), trivial, (Nat.le_of_ble_eq_true rfl), trivial, (Nat.le_of_ble_eq_true rfl), (by first | exact Or.inl rfl | exact Or.inr rfl), (Nat.le_of_ble_eq_true rfl), trivial⟩ ?_
      cases h
      exact mm_ev.ret (q := mq59) (b := (59, .return_, 1, 3, 0, 0, 0, 0, [])) rfl rfl rfl ⟨Nat.le_of_ble_eq_true rfl, Nat.le_of_ble_eq_true rfl⟩ trivial ⟨rfl, rfl⟩
  · rw [if_neg h3] at h
    refine mm_ev.go [false] (ps := [¬ mm_cmp .eq r1 (0 : Int32)]) (c1 := (8, [some (.ref 34), some (.int a0), some (.int a1), some (.int a2)], [.ref 34], mH S, 0, 0)) rfl ⟨h3, trivial⟩ ?_
    refine mm_ev.go [true] (ps := []) (c1 := (9, [some (.ref 34), some (.int a0), some (.int a1), some (.int a2)], [.int a1, .ref 34], mH S, 0, 0)) rfl trivial ?_
    obtain ⟨r7, h8, h⟩ := mb_b h
    refine mm_ev.call (q := mq59) (q2 := mq60) (b := (9, .invokestatic 82, 3, 2, 4, 60, 1, 0, [773, 771, 772, 54])) (as := [.int a1]) (r := [.ref 34]) (v := (some (.int r7))) (h1 := mH S) rfl rfl rfl rfl ⟨Nat.le_of_ble_eq_true rfl, Nat.le_of_ble_eq_true rfl, Nat.le_of_ble_eq_true rfl⟩ (F60_ok d h8) ?_
    refine mm_ev.to (c := (12, [some (.ref 34), some (.int a0), some (.int a1), some (.int a2)], [.int r7, .ref 34], mH S, 0, 0)) rfl ?_
    by_cases h9 : r7 = (0 : Int32)
    · rw [if_pos h9] at h
      refine mm_ev.go [true] (ps := [mm_cmp .eq r7 (0 : Int32)]) (c1 := (29, [some (.ref 34), some (.int a0), some (.int a1), some (.int a2)], [.ref 34], mH S, 0, 0)) rfl ⟨h9, trivial⟩ ?_
      refine mm_ev.go [true, true, true] (ps := []) (c1 := (32, [some (.ref 34), some (.int a0), some (.int a1), some (.int a2)], [.int (1 : Int32), .int (1 : Int32), .int (0 : Int32), .ref 34], mH S, 0, 0)) rfl trivial ?_
      obtain ⟨r10, h11, h⟩ := mb_b h
      refine mm_ev.call (q := mq59) (q2 := mq62) (b := (32, .invokevirtual 86, 3, 2, 2, 62, 4, 6, [780, 777, 779, 54, 37])) (as := [.ref 34, .int (0 : Int32), .int (1 : Int32), .int (1 : Int32)]) (r := []) (v := (some (.int r10.1))) (h1 := mH r10.2) rfl rfl rfl rfl ⟨Nat.le_of_ble_eq_true rfl, Nat.le_of_ble_eq_true rfl, Nat.le_of_ble_eq_true rfl⟩ (F62_ok (d + 1) h11) ?_
      refine mm_ev.to (c := (35, [some (.ref 34), some (.int a0), some (.int a1), some (.int a2)], [.int r10.1], mH r10.2, 0, 0)) rfl ?_
      by_cases h12 : r10.1 = (0 : Int32)
      · rw [if_pos h12] at h
        refine mm_ev.go [false] (ps := [¬ mm_cmp .ne r10.1 (0 : Int32)]) (c1 := (38, [some (.ref 34), some (.int a0), some (.int a1), some (.int a2)], [], mH r10.2, 0, 0)) rfl ⟨(fun z => z h12), trivial⟩ ?_
        cases h
        exact mm_ev.ret (q := mq59) (b := (38, .return_, 1, 3, 0, 0, 0, 0, [])) rfl rfl rfl ⟨Nat.le_of_ble_eq_true rfl, Nat.le_of_ble_eq_true rfl⟩ trivial ⟨rfl, rfl⟩
      · rw [if_neg h12] at h
        refine mm_ev.go [true] (ps := [mm_cmp .ne r10.1 (0 : Int32)]) (c1 := (39, [some (.ref 34), some (.int a0), some (.int a1), some (.int a2)], [], mH r10.2, 0, 0)) rfl ⟨h12, trivial⟩ ?_
        refine mm_ev.go [true, true, true, true, true, true, true, true, true, true, true, true] (ps := [_, _, _, _, _, _, _, _]) (c1 := (59, [some (.ref 34), some (.int a0), some (.int a1), some (.int a2)], [], mH ((va_up (va_up (va_up (va_up r10.2.1 17 a0) 18 a1) 19 a2) 27 (0 : Int32)), r10.2.2.1, r10.2.2.2), 0, 0)) rfl ⟨trivial, (Nat.le_of_ble_eq_true rfl), trivial, (Nat.le_of_ble_eq_true rfl), trivial, (Nat.le_of_ble_eq_true rfl), (by first | exact Or.inl rfl | exact Or.inr rfl), (Nat.le_of_ble_eq_true rfl), trivial⟩ ?_
        cases h
        exact mm_ev.ret (q := mq59) (b := (59, .return_, 1, 3, 0, 0, 0, 0, [])) rfl rfl rfl ⟨Nat.le_of_ble_eq_true rfl, Nat.le_of_ble_eq_true rfl⟩ trivial ⟨rfl, rfl⟩
    · rw [if_neg h9] at h
      refine mm_ev.go [false] (ps := [¬ mm_cmp .eq r7 (0 : Int32)]) (c1 := (15, [some (.ref 34), some (.int a0), some (.int a1), some (.int a2)], [.ref 34], mH S, 0, 0)) rfl ⟨h9, trivial⟩ ?_
      refine mm_ev.go [true, true, true] (ps := []) (c1 := (19, [some (.ref 34), some (.int a0), some (.int a1), some (.int a2)], [.int (20 : Int32), .int (0 : Int32), .int a2, .ref 34], mH S, 0, 0)) rfl trivial ?_
      obtain ⟨r13, h14, h⟩ := mb_b h
      refine mm_ev.call (q := mq59) (q2 := mq61) (b := (19, .invokestatic 78, 3, 2, 4, 61, 3, 0, [776, 774, 775, 54])) (as := [.int a2, .int (0 : Int32), .int (20 : Int32)]) (r := [.ref 34]) (v := (some (.int r13))) (h1 := mH S) rfl rfl rfl rfl ⟨Nat.le_of_ble_eq_true rfl, Nat.le_of_ble_eq_true rfl, Nat.le_of_ble_eq_true rfl⟩ (F61_ok (d + 1) h14) ?_
      refine mm_ev.to (c := (22, [some (.ref 34), some (.int a0), some (.int a1), some (.int a2)], [.int r13, .ref 34], mH S, 0, 0)) rfl ?_
      by_cases h15 : r13 = (0 : Int32)
      · rw [if_pos h15] at h
        refine mm_ev.go [true] (ps := [mm_cmp .eq r13 (0 : Int32)]) (c1 := (29, [some (.ref 34), some (.int a0), some (.int a1), some (.int a2)], [.ref 34], mH S, 0, 0)) rfl ⟨h15, trivial⟩ ?_
        refine mm_ev.go [true, true, true] (ps := []) (c1 := (32, [some (.ref 34), some (.int a0), some (.int a1), some (.int a2)], [.int (1 : Int32), .int (1 : Int32), .int (0 : Int32), .ref 34], mH S, 0, 0)) rfl trivial ?_
        obtain ⟨r16, h17, h⟩ := mb_b h
        refine mm_ev.call (q := mq59) (q2 := mq62) (b := (32, .invokevirtual 86, 3, 2, 2, 62, 4, 6, [780, 777, 779, 54, 37])) (as := [.ref 34, .int (0 : Int32), .int (1 : Int32), .int (1 : Int32)]) (r := []) (v := (some (.int r16.1))) (h1 := mH r16.2) rfl rfl rfl rfl ⟨Nat.le_of_ble_eq_true rfl, Nat.le_of_ble_eq_true rfl, Nat.le_of_ble_eq_true rfl⟩ (F62_ok (d + 1) h17) ?_
        refine mm_ev.to (c := (35, [some (.ref 34), some (.int a0), some (.int a1), some (.int a2)], [.int r16.1], mH r16.2, 0, 0)) rfl ?_
        by_cases h18 : r16.1 = (0 : Int32)
        · rw [if_pos h18] at h
          refine mm_ev.go [false] (ps := [¬ mm_cmp .ne r16.1 (0 : Int32)]) (c1 := (38, [some (.ref 34), some (.int a0), some (.int a1), some (.int a2)], [], mH r16.2, 0, 0)) rfl ⟨(fun z => z h18), trivial⟩ ?_
          cases h
          exact mm_ev.ret (q := mq59) (b := (38, .return_, 1, 3, 0, 0, 0, 0, [])) rfl rfl rfl ⟨Nat.le_of_ble_eq_true rfl, Nat.le_of_ble_eq_true rfl⟩ trivial ⟨rfl, rfl⟩
        · rw [if_neg h18] at h
          refine mm_ev.go [true] (ps := [mm_cmp .ne r16.1 (0 : Int32)]) (c1 := (39, [some (.ref 34), some (.int a0), some (.int a1), some (.int a2)], [], mH r16.2, 0, 0)) rfl ⟨h18, trivial⟩ ?_
          refine mm_ev.go [true, true, true, true, true, true, true, true, true, true, true, true] (ps := [_, _, _, _, _, _, _, _]) (c1 := (59, [some (.ref 34), some (.int a0), some (.int a1), some (.int a2)], [], mH ((va_up (va_up (va_up (va_up r16.2.1 17 a0) 18 a1) 19 a2) 27 (0 : Int32)), r16.2.2.1, r16.2.2.2), 0, 0)) rfl ⟨trivial, (Nat.le_of_ble_eq_true rfl), trivial, (Nat.le_of_ble_eq_true rfl), trivial, (Nat.le_of_ble_eq_true rfl), (by first | exact Or.inl rfl | exact Or.inr rfl), (Nat.le_of_ble_eq_true rfl), trivial⟩ ?_
          cases h
          exact mm_ev.ret (q := mq59) (b := (59, .return_, 1, 3, 0, 0, 0, 0, [])) rfl rfl rfl ⟨Nat.le_of_ble_eq_true rfl, Nat.le_of_ble_eq_true rfl⟩ trivial ⟨rfl, rfl⟩
      · rw [if_neg h15] at h
        refine mm_ev.go [false] (ps := [¬ mm_cmp .eq r13 (0 : Int32)]) (c1 := (25, [some (.ref 34), some (.int a0), some (.int a1), some (.int a2)], [.ref 34], mH S, 0, 0)) rfl ⟨h15, trivial⟩ ?_
        refine mm_ev.go [true, true, true, true] (ps := []) (c1 := (32, [some (.ref 34), some (.int a0), some (.int a1), some (.int a2)], [.int (1 : Int32), .int (1 : Int32), .int (1 : Int32), .ref 34], mH S, 0, 0)) rfl trivial ?_
        obtain ⟨r19, h20, h⟩ := mb_b h
        refine mm_ev.call (q := mq59) (q2 := mq62) (b := (32, .invokevirtual 86, 3, 2, 2, 62, 4, 6, [780, 777, 779, 54, 37])) (as := [.ref 34, .int (1 : Int32), .int (1 : Int32), .int (1 : Int32)]) (r := []) (v := (some (.int r19.1))) (h1 := mH r19.2) rfl rfl rfl rfl ⟨Nat.le_of_ble_eq_true rfl, Nat.le_of_ble_eq_true rfl, Nat.le_of_ble_eq_true rfl⟩ (F62_ok (d + 1) h20) ?_
        refine mm_ev.to (c := (35, [some (.ref 34), some (.int a0), some (.int a1), some (.int a2)], [.int r19.1], mH r19.2, 0, 0)) rfl ?_
        by_cases h21 : r19.1 = (0 : Int32)
        · rw [if_pos h21] at h
          refine mm_ev.go [false] (ps := [¬ mm_cmp .ne r19.1 (0 : Int32)]) (c1 := (38, [some (.ref 34), some (.int a0), some (.int a1), some (.int a2)], [], mH r19.2, 0, 0)) rfl ⟨(fun z => z h21), trivial⟩ ?_
          cases h
          exact mm_ev.ret (q := mq59) (b := (38, .return_, 1, 3, 0, 0, 0, 0, [])) rfl rfl rfl ⟨Nat.le_of_ble_eq_true rfl, Nat.le_of_ble_eq_true rfl⟩ trivial ⟨rfl, rfl⟩
        · rw [if_neg h21] at h
          refine mm_ev.go [true] (ps := [mm_cmp .ne r19.1 (0 : Int32)]) (c1 := (39, [some (.ref 34), some (.int a0), some (.int a1), some (.int a2)], [], mH r19.2, 0, 0)) rfl ⟨h21, trivial⟩ ?_
          refine mm_ev.go [true, true, true, true, true, true, true, true, true, true, true, true] (ps := [_, _, _, _, _, _, _, _]) (c1 := (59, [some (.ref 34), some (.int a0), some (.int a1), some (.int a2)], [], mH ((va_up (va_up (va_up (va_up r19.2.1 17 a0) 18 a1) 19 a2) 27 (0 : Int32)), r19.2.2.1, r19.2.2.2), 0, 0)) rfl ⟨trivial, (Nat.le_of_ble_eq_true rfl), trivial, (Nat.le_of_ble_eq_true rfl), trivial, (Nat.le_of_ble_eq_true rfl), (by first | exact Or.inl rfl | exact Or.inr rfl), (Nat.le_of_ble_eq_true rfl), trivial⟩ ?_
          cases h
          exact mm_ev.ret (q := mq59) (b := (59, .return_, 1, 3, 0, 0, 0, 0, [])) rfl rfl rfl ⟨Nat.le_of_ble_eq_true rfl, Nat.le_of_ble_eq_true rfl⟩ trivial ⟨rfl, rfl⟩
/-- SlabPatternsModel.fits -/
def F69 (n : Nat) (S : mSt) (a0 a1 : Int32) : Option (Int32) := if ¬ (2 : Int32) = 0 then if (a0 - a0 / (2 : Int32) * (2 : Int32)) = (1 : Int32) then (if 0 ≤ (a0 / (2 : Int32)) ∧ (a0 / (2 : Int32)).toNatClampNeg < 5 then if (S.2.1 40 (a0 / (2 : Int32)).toNatClampNeg) = (0 : Int32) then (some ((0 : Int32))) else ((F70 S a0).bind fun r5 => (if ((S.1 17) - (S.1 21)) < (a1 + r5) then (some ((0 : Int32))) else ((F71 n S a1).bind fun r8 => (if r8 = (0 : Int32) then ((F71 n S (a1 + r5)).bind fun r11 => (if r11 = (0 : Int32) then ((F72 n S a0 (S.2.1 46 (a0 / (2 : Int32)).toNatClampNeg)).bind fun r14 => (if r14 ≤ (0 : Int32) then (some ((0 : Int32))) else (some ((1 : Int32))))) else (some ((0 : Int32))))) else (some ((0 : Int32))))))) else none) else ((F70 S a0).bind fun r17 => (if ((S.1 17) - (S.1 21)) < (a1 + r17) then (some ((0 : Int32))) else ((F71 n S a1).bind fun r20 => (if r20 = (0 : Int32) then ((F71 n S (a1 + r17)).bind fun r23 => (if r23 = (0 : Int32) then (if 0 ≤ (a0 / (2 : Int32)) ∧ (a0 / (2 : Int32)).toNatClampNeg < 5 then (F72 n S a0 (S.2.1 46 (a0 / (2 : Int32)).toNatClampNeg)).bind fun r27 => (if r27 ≤ (0 : Int32) then (some ((0 : Int32))) else (some ((1 : Int32)))) else none) else (some ((0 : Int32))))) else (some ((0 : Int32))))))) else none
set_option maxRecDepth 100000 in
set_option maxHeartbeats 4000000 in
theorem F69_ok {sc : mS} (d : Nat) {n : Nat} {S : mSt} {a0 a1 : Int32} {r : Int32} (h : F69 n S a0 a1 = some r) : mm_ev sc mmK mmP (d + 2) 69 (0, mm_en 4 [.ref 34, .int a0, .int a1], [], mH S, 0, 0) (mm_is (.inl (some (.int r))) (mH S)) := by
  unfold F69 at h
  refine mm_ev.to (c := (0, [some (.ref 34), some (.int a0), some (.int a1), none], [], mH S, 0, 0)) rfl ?_
  obtain ⟨h1, h⟩ := mb_i h
  by_cases h2 : (a0 - a0 / (2 : Int32) * (2 : Int32)) = (1 : Int32)
  · rw [if_pos h2] at h
    refine mm_ev.go [true, true, true, true, false] (ps := [¬ (2 : Int32) = 0, ¬ mm_cmp .ne (a0 - a0 / (2 : Int32) * (2 : Int32)) (1 : Int32)]) (c1 := (7, [some (.ref 34), some (.int a0), some (.int a1), none], [], mH S, 0, 0)) rfl ⟨h1, (fun z => z h2), trivial⟩ ?_
    obtain ⟨h3, h⟩ := mb_i h
    by_cases h4 : (S.2.1 40 (a0 / (2 : Int32)).toNatClampNeg) = (0 : Int32)
    · rw [if_pos h4] at h
      refine mm_ev.go [true, true, true, true, true, true, false] (ps := [¬ (2 : Int32) = 0, mm_in (a0 / (2 : Int32)) 5, ¬ mm_cmp .ne (S.2.1 40 (a0 / (2 : Int32)).toNatClampNeg) (0 : Int32)]) (c1 := (18, [some (.ref 34), some (.int a0), some (.int a1), none], [], mH S, 0, 0)) rfl ⟨h1, h3, (fun z => z h4), trivial⟩ ?_
      refine mm_ev.go [true] (ps := []) (c1 := (19, [some (.ref 34), some (.int a0), some (.int a1), none], [.int (0 : Int32)], mH S, 0, 0)) rfl trivial ?_
      cases h
      exact mm_ev.ret (q := mq69) (b := (19, .ireturn, 1, 3, 0, 0, 0, 0, [])) rfl rfl rfl ⟨Nat.le_of_ble_eq_true rfl, Nat.le_of_ble_eq_true rfl⟩ ⟨by first | exact Or.inl rfl | exact Or.inr rfl, trivial⟩ ⟨rfl, rfl⟩
    · rw [if_neg h4] at h
      refine mm_ev.go [true, true, true, true, true, true, true] (ps := [¬ (2 : Int32) = 0, mm_in (a0 / (2 : Int32)) 5, mm_cmp .ne (S.2.1 40 (a0 / (2 : Int32)).toNatClampNeg) (0 : Int32)]) (c1 := (20, [some (.ref 34), some (.int a0), some (.int a1), none], [], mH S, 0, 0)) rfl ⟨h1, h3, h4, trivial⟩ ?_
      refine mm_ev.go [true, true, true] (ps := []) (c1 := (23, [some (.ref 34), some (.int a0), some (.int a1), none], [.int a0, .ref 34, .int a1], mH S, 0, 0)) rfl trivial ?_
      obtain ⟨r5, h6, h⟩ := mb_b h
      refine mm_ev.call (q := mq69) (q2 := mq70) (b := (23, .invokevirtual 117, 3, 2, 2, 70, 2, 6, [813, 810, 812, 54, 40])) (as := [.ref 34, .int a0]) (r := [.int a1]) (v := (some (.int r5))) (h1 := mH S) rfl rfl rfl rfl ⟨Nat.le_of_ble_eq_true rfl, Nat.le_of_ble_eq_true rfl, Nat.le_of_ble_eq_true rfl⟩ (F70_ok (d + 1) h6) ?_
      refine mm_ev.to (c := (26, [some (.ref 34), some (.int a0), some (.int a1), none], [.int r5, .int a1], mH S, 0, 0)) rfl ?_
      by_cases h7 : ((S.1 17) - (S.1 21)) < (a1 + r5)
      · rw [if_pos h7] at h
        refine mm_ev.go [true, true, true, true, true, true, true, true, true] (ps := [mm_cmp .gt (a1 + r5) ((S.1 17) - (S.1 21))]) (c1 := (77, [some (.ref 34), some (.int a0), some (.int a1), some (.int (a1 + r5))], [], mH S, 0, 0)) rfl ⟨h7, trivial⟩ ?_
        refine mm_ev.go [true] (ps := []) (c1 := (78, [some (.ref 34), some (.int a0), some (.int a1), some (.int (a1 + r5))], [.int (0 : Int32)], mH S, 0, 0)) rfl trivial ?_
        cases h
        exact mm_ev.ret (q := mq69) (b := (78, .ireturn, 1, 3, 0, 0, 0, 0, [])) rfl rfl rfl ⟨Nat.le_of_ble_eq_true rfl, Nat.le_of_ble_eq_true rfl⟩ ⟨by first | exact Or.inl rfl | exact Or.inr rfl, trivial⟩ ⟨rfl, rfl⟩
      · rw [if_neg h7] at h
        refine mm_ev.go [true, true, true, true, true, true, true, true, false] (ps := [¬ mm_cmp .gt (a1 + r5) ((S.1 17) - (S.1 21))]) (c1 := (41, [some (.ref 34), some (.int a0), some (.int a1), some (.int (a1 + r5))], [], mH S, 0, 0)) rfl ⟨h7, trivial⟩ ?_
        refine mm_ev.go [true, true] (ps := []) (c1 := (43, [some (.ref 34), some (.int a0), some (.int a1), some (.int (a1 + r5))], [.int a1, .ref 34], mH S, 0, 0)) rfl trivial ?_
        obtain ⟨r8, h9, h⟩ := mb_b h
        refine mm_ev.call (q := mq69) (q2 := mq71) (b := (43, .invokevirtual 120, 3, 2, 2, 71, 2, 6, [817, 814, 816, 54, 41])) (as := [.ref 34, .int a1]) (r := []) (v := (some (.int r8))) (h1 := mH S) rfl rfl rfl rfl ⟨Nat.le_of_ble_eq_true rfl, Nat.le_of_ble_eq_true rfl, Nat.le_of_ble_eq_true rfl⟩ (F71_ok (d + 1) h9) ?_
        refine mm_ev.to (c := (46, [some (.ref 34), some (.int a0), some (.int a1), some (.int (a1 + r5))], [.int r8], mH S, 0, 0)) rfl ?_
        by_cases h10 : r8 = (0 : Int32)
        · rw [if_pos h10] at h
          refine mm_ev.go [false] (ps := [¬ mm_cmp .ne r8 (0 : Int32)]) (c1 := (49, [some (.ref 34), some (.int a0), some (.int a1), some (.int (a1 + r5))], [], mH S, 0, 0)) rfl ⟨(fun z => z h10), trivial⟩ ?_
          refine mm_ev.go [true, true] (ps := []) (c1 := (51, [some (.ref 34), some (.int a0), some (.int a1), some (.int (a1 + r5))], [.int (a1 + r5), .ref 34], mH S, 0, 0)) rfl trivial ?_
          obtain ⟨r11, h12, h⟩ := mb_b h
          refine mm_ev.call (q := mq69) (q2 := mq71) (b := (51, .invokevirtual 120, 3, 2, 2, 71, 2, 6, [817, 814, 816, 54, 41])) (as := [.ref 34, .int (a1 + r5)]) (r := []) (v := (some (.int r11))) (h1 := mH S) rfl rfl rfl rfl ⟨Nat.le_of_ble_eq_true rfl, Nat.le_of_ble_eq_true rfl, Nat.le_of_ble_eq_true rfl⟩ (F71_ok (d + 1) h12) ?_
          refine mm_ev.to (c := (54, [some (.ref 34), some (.int a0), some (.int a1), some (.int (a1 + r5))], [.int r11], mH S, 0, 0)) rfl ?_
          by_cases h13 : r11 = (0 : Int32)
          · rw [if_pos h13] at h
            refine mm_ev.go [false] (ps := [¬ mm_cmp .ne r11 (0 : Int32)]) (c1 := (57, [some (.ref 34), some (.int a0), some (.int a1), some (.int (a1 + r5))], [], mH S, 0, 0)) rfl ⟨(fun z => z h13), trivial⟩ ?_
            refine mm_ev.go [true, true, true, true, true, true, true, true] (ps := [¬ (2 : Int32) = 0, mm_in (a0 / (2 : Int32)) 5]) (c1 := (67, [some (.ref 34), some (.int a0), some (.int a1), some (.int (a1 + r5))], [.int (S.2.1 46 (a0 / (2 : Int32)).toNatClampNeg), .int a0, .ref 34], mH S, 0, 0)) rfl ⟨h1, h3, trivial⟩ ?_
            obtain ⟨r14, h15, h⟩ := mb_b h
            refine mm_ev.call (q := mq69) (q2 := mq72) (b := (67, .invokevirtual 123, 3, 2, 2, 72, 3, 6, [821, 818, 820, 54, 42])) (as := [.ref 34, .int a0, .int (S.2.1 46 (a0 / (2 : Int32)).toNatClampNeg)]) (r := []) (v := (some (.int r14))) (h1 := mH S) rfl rfl rfl rfl ⟨Nat.le_of_ble_eq_true rfl, Nat.le_of_ble_eq_true rfl, Nat.le_of_ble_eq_true rfl⟩ (F72_ok d h15) ?_
            refine mm_ev.to (c := (70, [some (.ref 34), some (.int a0), some (.int a1), some (.int (a1 + r5))], [.int r14], mH S, 0, 0)) rfl ?_
            by_cases h16 : r14 ≤ (0 : Int32)
            · rw [if_pos h16] at h
              refine mm_ev.go [true] (ps := [mm_cmp .le r14 (0 : Int32)]) (c1 := (77, [some (.ref 34), some (.int a0), some (.int a1), some (.int (a1 + r5))], [], mH S, 0, 0)) rfl ⟨h16, trivial⟩ ?_
              refine mm_ev.go [true] (ps := []) (c1 := (78, [some (.ref 34), some (.int a0), some (.int a1), some (.int (a1 + r5))], [.int (0 : Int32)], mH S, 0, 0)) rfl trivial ?_
              cases h
              exact mm_ev.ret (q := mq69) (b := (78, .ireturn, 1, 3, 0, 0, 0, 0, [])) rfl rfl rfl ⟨Nat.le_of_ble_eq_true rfl, Nat.le_of_ble_eq_true rfl⟩ ⟨by first | exact Or.inl rfl | exact Or.inr rfl, trivial⟩ ⟨rfl, rfl⟩
            · rw [if_neg h16] at h
              refine mm_ev.go [false] (ps := [¬ mm_cmp .le r14 (0 : Int32)]) (c1 := (73, [some (.ref 34), some (.int a0), some (.int a1), some (.int (a1 + r5))], [], mH S, 0, 0)) rfl ⟨h16, trivial⟩ ?_
              refine mm_ev.go [true, true] (ps := []) (c1 := (78, [some (.ref 34), some (.int a0), some (.int a1), some (.int (a1 + r5))], [.int (1 : Int32)], mH S, 0, 0)) rfl trivial ?_
              cases h
              exact mm_ev.ret (q := mq69) (b := (78, .ireturn, 1, 3, 0, 0, 0, 0, [])) rfl rfl rfl ⟨Nat.le_of_ble_eq_true rfl, Nat.le_of_ble_eq_true rfl⟩ ⟨by first | exact Or.inl rfl | exact Or.inr rfl, trivial⟩ ⟨rfl, rfl⟩
          · rw [if_neg h13] at h
            refine mm_ev.go [true] (ps := [mm_cmp .ne r11 (0 : Int32)]) (c1 := (77, [some (.ref 34), some (.int a0), some (.int a1), some (.int (a1 + r5))], [], mH S, 0, 0)) rfl ⟨h13, trivial⟩ ?_
            refine mm_ev.go [true] (ps := []) (c1 := (78, [some (.ref 34), some (.int a0), some (.int a1), some (.int (a1 + r5))], [.int (0 : Int32)], mH S, 0, 0)) rfl trivial ?_
            cases h
            exact mm_ev.ret (q := mq69) (b := (78, .ireturn, 1, 3, 0, 0, 0, 0, [])) rfl rfl rfl ⟨Nat.le_of_ble_eq_true rfl, Nat.le_of_ble_eq_true rfl⟩ ⟨by first | exact Or.inl rfl | exact Or.inr rfl, trivial⟩ ⟨rfl, rfl⟩
        · rw [if_neg h10] at h
          refine mm_ev.go [true] (ps := [mm_cmp .ne r8 (0 : Int32)]) (c1 := (77, [some (.ref 34), some (.int a0), some (.int a1), some (.int (a1 + r5))], [], mH S, 0, 0)) rfl ⟨h10, trivial⟩ ?_
          refine mm_ev.go [true] (ps := []) (c1 := (78, [some (.ref 34), some (.int a0), some (.int a1), some (.int (a1 + r5))], [.int (0 : Int32)], mH S, 0, 0)) rfl trivial ?_
          cases h
          exact mm_ev.ret (q := mq69) (b := (78, .ireturn, 1, 3, 0, 0, 0, 0, [])) rfl rfl rfl ⟨Nat.le_of_ble_eq_true rfl, Nat.le_of_ble_eq_true rfl⟩ ⟨by first | exact Or.inl rfl | exact Or.inr rfl, trivial⟩ ⟨rfl, rfl⟩
  · rw [if_neg h2] at h
    refine mm_ev.go [true, true, true, true, true] (ps := [¬ (2 : Int32) = 0, mm_cmp .ne (a0 - a0 / (2 : Int32) * (2 : Int32)) (1 : Int32)]) (c1 := (20, [some (.ref 34), some (.int a0), some (.int a1), none], [], mH S, 0, 0)) rfl ⟨h1, h2, trivial⟩ ?_
    refine mm_ev.go [true, true, true] (ps := []) (c1 := (23, [some (.ref 34), some (.int a0), some (.int a1), none], [.int a0, .ref 34, .int a1], mH S, 0, 0)) rfl trivial ?_
    obtain ⟨r17, h18, h⟩ := mb_b h
    refine mm_ev.call (q := mq69) (q2 := mq70) (b := (23, .invokevirtual 117, 3, 2, 2, 70, 2, 6, [813, 810, 812, 54, 40])) (as := [.ref 34, .int a0]) (r := [.int a1]) (v := (some (.int r17))) (h1 := mH S) rfl rfl rfl rfl ⟨Nat.le_of_ble_eq_true rfl, Nat.le_of_ble_eq_true rfl, Nat.le_of_ble_eq_true rfl⟩ (F70_ok (d + 1) h18) ?_
    refine mm_ev.to (c := (26, [some (.ref 34), some (.int a0), some (.int a1), none], [.int r17, .int a1], mH S, 0, 0)) rfl ?_
    by_cases h19 : ((S.1 17) - (S.1 21)) < (a1 + r17)
    · rw [if_pos h19] at h
      refine mm_ev.go [true, true, true, true, true, true, true, true, true] (ps := [mm_cmp .gt (a1 + r17) ((S.1 17) - (S.1 21))]) (c1 := (77, [some (.ref 34), some (.int a0), some (.int a1), some (.int (a1 + r17))], [], mH S, 0, 0)) rfl ⟨h19, trivial⟩ ?_
      refine mm_ev.go [true] (ps := []) (c1 := (78, [some (.ref 34), some (.int a0), some (.int a1), some (.int (a1 + r17))], [.int (0 : Int32)], mH S, 0, 0)) rfl trivial ?_
      cases h
      exact mm_ev.ret (q := mq69) (b := (78, .ireturn, 1, 3, 0, 0, 0, 0, [])) rfl rfl rfl ⟨Nat.le_of_ble_eq_true rfl, Nat.le_of_ble_eq_true rfl⟩ ⟨by first | exact Or.inl rfl | exact Or.inr rfl, trivial⟩ ⟨rfl, rfl⟩
    · rw [if_neg h19] at h
      refine mm_ev.go [true, true, true, true, true, true, true, true, false] (ps := [¬ mm_cmp .gt (a1 + r17) ((S.1 17) - (S.1 21))]) (c1 := (41, [some (.ref 34), some (.int a0), some (.int a1), some (.int (a1 + r17))], [], mH S, 0, 0)) rfl ⟨h19, trivial⟩ ?_
      refine mm_ev.go [true, true] (ps := []) (c1 := (43, [some (.ref 34), some (.int a0), some (.int a1), some (.int (a1 + r17))], [.int a1, .ref 34], mH S, 0, 0)) rfl trivial ?_
      obtain ⟨r20, h21, h⟩ := mb_b h
      refine mm_ev.call (q := mq69) (q2 := mq71) (b := (43, .invokevirtual 120, 3, 2, 2, 71, 2, 6, [817, 814, 816, 54, 41])) (as := [.ref 34, .int a1]) (r := []) (v := (some (.int r20))) (h1 := mH S) rfl rfl rfl rfl ⟨Nat.le_of_ble_eq_true rfl, Nat.le_of_ble_eq_true rfl, Nat.le_of_ble_eq_true rfl⟩ (F71_ok (d + 1) h21) ?_
      refine mm_ev.to (c := (46, [some (.ref 34), some (.int a0), some (.int a1), some (.int (a1 + r17))], [.int r20], mH S, 0, 0)) rfl ?_
      by_cases h22 : r20 = (0 : Int32)
      · rw [if_pos h22] at h
        refine mm_ev.go [false] (ps := [¬ mm_cmp .ne r20 (0 : Int32)]) (c1 := (49, [some (.ref 34), some (.int a0), some (.int a1), some (.int (a1 + r17))], [], mH S, 0, 0)) rfl ⟨(fun z => z h22), trivial⟩ ?_
        refine mm_ev.go [true, true] (ps := []) (c1 := (51, [some (.ref 34), some (.int a0), some (.int a1), some (.int (a1 + r17))], [.int (a1 + r17), .ref 34], mH S, 0, 0)) rfl trivial ?_
        obtain ⟨r23, h24, h⟩ := mb_b h
        refine mm_ev.call (q := mq69) (q2 := mq71) (b := (51, .invokevirtual 120, 3, 2, 2, 71, 2, 6, [817, 814, 816, 54, 41])) (as := [.ref 34, .int (a1 + r17)]) (r := []) (v := (some (.int r23))) (h1 := mH S) rfl rfl rfl rfl ⟨Nat.le_of_ble_eq_true rfl, Nat.le_of_ble_eq_true rfl, Nat.le_of_ble_eq_true rfl⟩ (F71_ok (d + 1) h24) ?_
        refine mm_ev.to (c := (54, [some (.ref 34), some (.int a0), some (.int a1), some (.int (a1 + r17))], [.int r23], mH S, 0, 0)) rfl ?_
        by_cases h25 : r23 = (0 : Int32)
        · rw [if_pos h25] at h
          refine mm_ev.go [false] (ps := [¬ mm_cmp .ne r23 (0 : Int32)]) (c1 := (57, [some (.ref 34), some (.int a0), some (.int a1), some (.int (a1 + r17))], [], mH S, 0, 0)) rfl ⟨(fun z => z h25), trivial⟩ ?_
          obtain ⟨h26, h⟩ := mb_i h
          refine mm_ev.go [true, true, true, true, true, true, true, true] (ps := [¬ (2 : Int32) = 0, mm_in (a0 / (2 : Int32)) 5]) (c1 := (67, [some (.ref 34), some (.int a0), some (.int a1), some (.int (a1 + r17))], [.int (S.2.1 46 (a0 / (2 : Int32)).toNatClampNeg), .int a0, .ref 34], mH S, 0, 0)) rfl ⟨h1, h26, trivial⟩ ?_
          obtain ⟨r27, h28, h⟩ := mb_b h
          refine mm_ev.call (q := mq69) (q2 := mq72) (b := (67, .invokevirtual 123, 3, 2, 2, 72, 3, 6, [821, 818, 820, 54, 42])) (as := [.ref 34, .int a0, .int (S.2.1 46 (a0 / (2 : Int32)).toNatClampNeg)]) (r := []) (v := (some (.int r27))) (h1 := mH S) rfl rfl rfl rfl ⟨Nat.le_of_ble_eq_true rfl, Nat.le_of_ble_eq_true rfl, Nat.le_of_ble_eq_true rfl⟩ (F72_ok d h28) ?_
          refine mm_ev.to (c := (70, [some (.ref 34), some (.int a0), some (.int a1), some (.int (a1 + r17))], [.int r27], mH S, 0, 0)) rfl ?_
          by_cases h29 : r27 ≤ (0 : Int32)
          · rw [if_pos h29] at h
            refine mm_ev.go [true] (ps := [mm_cmp .le r27 (0 : Int32)]) (c1 := (77, [some (.ref 34), some (.int a0), some (.int a1), some (.int (a1 + r17))], [], mH S, 0, 0)) rfl ⟨h29, trivial⟩ ?_
            refine mm_ev.go [true] (ps := []) (c1 := (78, [some (.ref 34), some (.int a0), some (.int a1), some (.int (a1 + r17))], [.int (0 : Int32)], mH S, 0, 0)) rfl trivial ?_
            cases h
            exact mm_ev.ret (q := mq69) (b := (78, .ireturn, 1, 3, 0, 0, 0, 0, [])) rfl rfl rfl ⟨Nat.le_of_ble_eq_true rfl, Nat.le_of_ble_eq_true rfl⟩ ⟨by first | exact Or.inl rfl | exact Or.inr rfl, trivial⟩ ⟨rfl, rfl⟩
          · rw [if_neg h29] at h
            refine mm_ev.go [false] (ps := [¬ mm_cmp .le r27 (0 : Int32)]) (c1 := (73, [some (.ref 34), some (.int a0), some (.int a1), some (.int (a1 + r17))], [], mH S, 0, 0)) rfl ⟨h29, trivial⟩ ?_
            refine mm_ev.go [true, true] (ps := []) (c1 := (78, [some (.ref 34), some (.int a0), some (.int a1), some (.int (a1 + r17))], [.int (1 : Int32)], mH S, 0, 0)) rfl trivial ?_
            cases h
            exact mm_ev.ret (q := mq69) (b := (78, .ireturn, 1, 3, 0, 0, 0, 0, [])) rfl rfl rfl ⟨Nat.le_of_ble_eq_true rfl, Nat.le_of_ble_eq_true rfl⟩ ⟨by first | exact Or.inl rfl | exact Or.inr rfl, trivial⟩ ⟨rfl, rfl⟩
        · rw [if_neg h25] at h
          refine mm_ev.go [true] (ps := [mm_cmp .ne r23 (0 : Int32)]) (c1 := (77, [some (.ref 34), some (.int a0), some (.int a1), some (.int (a1 + r17))], [], mH S, 0, 0)) rfl ⟨h25, trivial⟩ ?_
          refine mm_ev.go [true] (ps := []) (c1 := (78, [some (.ref 34), some (.int a0), some (.int a1), some (.int (a1 + r17))], [.int (0 : Int32)], mH S, 0, 0)) rfl trivial ?_
          cases h
          exact mm_ev.ret (q := mq69) (b := (78, .ireturn, 1, 3, 0, 0, 0, 0, [])) rfl rfl rfl ⟨Nat.le_of_ble_eq_true rfl, Nat.le_of_ble_eq_true rfl⟩ ⟨by first | exact Or.inl rfl | exact Or.inr rfl, trivial⟩ ⟨rfl, rfl⟩
      · rw [if_neg h22] at h
        refine mm_ev.go [true] (ps := [mm_cmp .ne r20 (0 : Int32)]) (c1 := (77, [some (.ref 34), some (.int a0), some (.int a1), some (.int (a1 + r17))], [], mH S, 0, 0)) rfl ⟨h22, trivial⟩ ?_
        refine mm_ev.go [true] (ps := []) (c1 := (78, [some (.ref 34), some (.int a0), some (.int a1), some (.int (a1 + r17))], [.int (0 : Int32)], mH S, 0, 0)) rfl trivial ?_
        cases h
        exact mm_ev.ret (q := mq69) (b := (78, .ireturn, 1, 3, 0, 0, 0, 0, [])) rfl rfl rfl ⟨Nat.le_of_ble_eq_true rfl, Nat.le_of_ble_eq_true rfl⟩ ⟨by first | exact Or.inl rfl | exact Or.inr rfl, trivial⟩ ⟨rfl, rfl⟩
/-- SlabPatternsLaw.check -/
def F95 (n : Nat) (S : mSt) : Option (Int32 × mSt) := (F19 n S).bind fun r1 => if r1.1 = 0 then (if 0 ≤ (0 : Int32) ∧ (0 : Int32).toNatClampNeg < 1 then some (((0 : Int32), (S.1, S.2.1, (vp_updL S.2.2 (0 : Int32).toNatClampNeg r1.2.toInt64)))) else none) else (if r1.1 = 2 then (some (((1 : Int32), S))) else none)
set_option maxRecDepth 100000 in
set_option maxHeartbeats 4000000 in
theorem F95_ok {sc : mS} (d : Nat) {n : Nat} {S : mSt} {r : Int32 × mSt} (h : F95 n S = some r) : mm_ev sc mmK mmP (d + 7) 95 (0, mm_en 3 [.ref 0, .ref 51], [], mH S, 0, 0) (mm_is (.inl (some (.int r.1))) (mH r.2)) := by
  unfold F95 at h
  refine mm_ev.to (c := (0, [some (.ref 0), some (.ref 51), none], [], mH S, 0, 0)) rfl ?_
  refine mm_ev.go [true, true, true] (ps := []) (c1 := (3, [some (.ref 0), some (.ref 51), none], [.ref 0, .int (0 : Int32), .ref 51], mH S, 0, 0)) rfl trivial ?_
  obtain ⟨r1, h2, h⟩ := mb_b h
  have h4 := F19_ok (sc := sc) d h2
  by_cases h3 : r1.1 = 0
  · rw [if_pos h3] at h
    rw [if_pos h3] at h4
    refine mm_ev.call (q := mq95) (q2 := mq19) (b := (3, .invokevirtual 58, 3, 2, 6, 19, 1, 0, [657, 654, 655, 48, 656])) (as := [.ref 0]) (r := [.int (0 : Int32), .ref 51]) (v := (some (.int r1.2))) (h1 := mH S) rfl rfl rfl rfl ⟨Nat.le_of_ble_eq_true rfl, Nat.le_of_ble_eq_true rfl, Nat.le_of_ble_eq_true rfl⟩ h4 ?_
    refine mm_ev.to (c := (6, [some (.ref 0), some (.ref 51), none], [.int r1.2, .int (0 : Int32), .ref 51], mH S, 1, 6)) rfl ?_
    obtain ⟨h5, h⟩ := mb_i h
    refine mm_ev.go [true, true, true, true] (ps := [mm_in (0 : Int32) 1]) (c1 := (15, [some (.ref 0), some (.ref 51), none], [.int (0 : Int32)], mH (S.1, S.2.1, (vp_updL S.2.2 (0 : Int32).toNatClampNeg r1.2.toInt64)), 1, 6)) rfl ⟨h5, trivial⟩ ?_
    cases h
    exact mm_ev.ret (q := mq95) (b := (15, .ireturn, 1, 3, 0, 0, 0, 0, [])) rfl rfl rfl ⟨Nat.le_of_ble_eq_true rfl, Nat.le_of_ble_eq_true rfl⟩ trivial ⟨rfl, rfl⟩
  · rw [if_neg h3] at h
    rw [if_neg h3] at h4
    by_cases h6 : r1.1 = 2
    · rw [if_pos h6] at h
      rw [h6] at h4
      refine mm_ev.callX (q := mq95) (q2 := mq19) (b := (3, .invokevirtual 58, 3, 2, 6, 19, 1, 0, [657, 654, 655, 48, 656])) (as := [.ref 0]) (r := [.int (0 : Int32), .ref 51]) (E := 1) (hp := 11) (i := 2) (pc2 := 12) (z := (mq95, (11, .astore_n 2, 1, 0, 2, 0, 0, 0, []))) (h1 := mH S) rfl rfl rfl rfl rfl ⟨Nat.le_of_ble_eq_true rfl, Nat.le_of_ble_eq_true rfl, Nat.le_of_ble_eq_true rfl⟩ h4 rfl rfl rfl ?_
      refine mm_ev.to (c := (12, [some (.ref 0), some (.ref 51), none], [], mH S, 1, 6)) rfl ?_
      refine mm_ev.go [true] (ps := []) (c1 := (13, [some (.ref 0), some (.ref 51), none], [.int (1 : Int32)], mH S, 1, 6)) rfl trivial ?_
      cases h
      exact mm_ev.ret (q := mq95) (b := (13, .ireturn, 1, 3, 0, 0, 0, 0, [])) rfl rfl rfl ⟨Nat.le_of_ble_eq_true rfl, Nat.le_of_ble_eq_true rfl⟩ trivial ⟨rfl, rfl⟩
    rw [if_neg h6] at h
    cases h
/-- SlabPatterns.rest -/
def F17 (S : mSt) (a0 : Int32) : Option (Nat × Int32) := (F6 S a0 (0 : Int32) (1 : Int32)).bind fun r1 => (if r1 = (0 : Int32) then ((F13 S).bind fun r4 => if r4 = 0 then ((F18 S).bind fun r8 => (if a0 = (0 : Int32) then (some ((0, r8))) else (if r8 < (S.1 9) then (some ((0, (0 : Int32)))) else (some ((0, (1 : Int32))))))) else (some ((r4, 0)))) else (some ((3, 0))))
set_option maxRecDepth 100000 in
set_option maxHeartbeats 4000000 in
theorem F17_ok {sc : mS} (d : Nat) {S : mSt} {a0 : Int32} {r : Nat × Int32} (h : F17 S a0 = some r) : mm_ev sc mmK mmP (d + 6) 17 (0, mm_en 3 [.ref 0, .int a0], [], mH S, 0, 0) (mm_is (if r.1 = 0 then .inl (some (.int r.2)) else .inr (r.1 - 1)) (mH S)) := by
  unfold F17 at h
  refine mm_ev.to (c := (0, [some (.ref 0), some (.int a0), none], [], mH S, 0, 0)) rfl ?_
  refine mm_ev.go [true, true, true] (ps := []) (c1 := (3, [some (.ref 0), some (.int a0), none], [.int (1 : Int32), .int (0 : Int32), .int a0], mH S, 0, 0)) rfl trivial ?_
  obtain ⟨r1, h2, h⟩ := mb_b h
  refine mm_ev.call (q := mq17) (q2 := mq6) (b := (3, .invokestatic 47, 3, 2, 4, 6, 3, 0, [302, 300, 301, 48])) (as := [.int a0, .int (0 : Int32), .int (1 : Int32)]) (r := []) (v := (some (.int r1))) (h1 := mH S) rfl rfl rfl rfl ⟨Nat.le_of_ble_eq_true rfl, Nat.le_of_ble_eq_true rfl, Nat.le_of_ble_eq_true rfl⟩ (F6_ok (d + 5) h2) ?_
  refine mm_ev.to (c := (6, [some (.ref 0), some (.int a0), none], [.int r1], mH S, 0, 0)) rfl ?_
  by_cases h3 : r1 = (0 : Int32)
  · rw [if_pos h3] at h
    refine mm_ev.go [true] (ps := [mm_cmp .eq r1 (0 : Int32)]) (c1 := (19, [some (.ref 0), some (.int a0), none], [], mH S, 0, 0)) rfl ⟨h3, trivial⟩ ?_
    refine mm_ev.go [true] (ps := []) (c1 := (20, [some (.ref 0), some (.int a0), none], [.ref 0], mH S, 0, 0)) rfl trivial ?_
    obtain ⟨r4, h5, h⟩ := mb_b h
    have h7 := F13_ok (sc := sc) d h5
    by_cases h6 : r4 = 0
    · rw [if_pos h6] at h
      rw [if_pos h6] at h7
      refine mm_ev.call (q := mq17) (q2 := mq13) (b := (20, .invokevirtual 151, 3, 2, 6, 13, 1, 0, [592, 589, 591, 48, 33])) (as := [.ref 0]) (r := []) (v := none) (h1 := mH S) rfl rfl rfl rfl ⟨Nat.le_of_ble_eq_true rfl, Nat.le_of_ble_eq_true rfl, Nat.le_of_ble_eq_true rfl⟩ h7 ?_
      refine mm_ev.to (c := (23, [some (.ref 0), some (.int a0), none], [], mH S, 1, 6)) rfl ?_
      refine mm_ev.go [true] (ps := []) (c1 := (24, [some (.ref 0), some (.int a0), none], [.ref 0], mH S, 1, 6)) rfl trivial ?_
      obtain ⟨r8, h9, h⟩ := mb_b h
      refine mm_ev.call (q := mq17) (q2 := mq18) (b := (24, .invokevirtual 180, 3, 2, 2, 18, 1, 0, [647, 644, 646, 48, 35])) (as := [.ref 0]) (r := []) (v := (some (.int r8))) (h1 := mH S) rfl rfl rfl rfl ⟨Nat.le_of_ble_eq_true rfl, Nat.le_of_ble_eq_true rfl, Nat.le_of_ble_eq_true rfl⟩ (F18_ok (d + 3) h9) ?_
      refine mm_ev.to (c := (27, [some (.ref 0), some (.int a0), none], [.int r8], mH S, 1, 6)) rfl ?_
      by_cases h10 : a0 = (0 : Int32)
      · rw [if_pos h10] at h
        refine mm_ev.go [true, true, false] (ps := [¬ mm_cmp .ne a0 (0 : Int32)]) (c1 := (32, [some (.ref 0), some (.int a0), some (.int r8)], [], mH S, 1, 6)) rfl ⟨(fun z => z h10), trivial⟩ ?_
        refine mm_ev.go [true] (ps := []) (c1 := (33, [some (.ref 0), some (.int a0), some (.int r8)], [.int r8], mH S, 1, 6)) rfl trivial ?_
        cases h
        exact mm_ev.ret (q := mq17) (b := (33, .ireturn, 1, 3, 0, 0, 0, 0, [])) rfl rfl rfl ⟨Nat.le_of_ble_eq_true rfl, Nat.le_of_ble_eq_true rfl⟩ trivial ⟨rfl, rfl⟩
      · rw [if_neg h10] at h
        refine mm_ev.go [true, true, true] (ps := [mm_cmp .ne a0 (0 : Int32)]) (c1 := (34, [some (.ref 0), some (.int a0), some (.int r8)], [], mH S, 1, 6)) rfl ⟨h10, trivial⟩ ?_
        by_cases h11 : r8 < (S.1 9)
        · rw [if_pos h11] at h
          refine mm_ev.go [true, true, true, true, true] (ps := [mm_cmp .lt r8 (S.1 9)]) (c1 := (49, [some (.ref 0), some (.int a0), some (.int r8)], [], mH S, 1, 6)) rfl ⟨h11, trivial⟩ ?_
          refine mm_ev.go [true] (ps := []) (c1 := (50, [some (.ref 0), some (.int a0), some (.int r8)], [.int (0 : Int32)], mH S, 1, 6)) rfl trivial ?_
          cases h
          exact mm_ev.ret (q := mq17) (b := (50, .ireturn, 1, 3, 0, 0, 0, 0, [])) rfl rfl rfl ⟨Nat.le_of_ble_eq_true rfl, Nat.le_of_ble_eq_true rfl⟩ trivial ⟨rfl, rfl⟩
        · rw [if_neg h11] at h
          refine mm_ev.go [true, true, true, true, false] (ps := [¬ mm_cmp .lt r8 (S.1 9)]) (c1 := (45, [some (.ref 0), some (.int a0), some (.int r8)], [], mH S, 1, 6)) rfl ⟨h11, trivial⟩ ?_
          refine mm_ev.go [true, true] (ps := []) (c1 := (50, [some (.ref 0), some (.int a0), some (.int r8)], [.int (1 : Int32)], mH S, 1, 6)) rfl trivial ?_
          cases h
          exact mm_ev.ret (q := mq17) (b := (50, .ireturn, 1, 3, 0, 0, 0, 0, [])) rfl rfl rfl ⟨Nat.le_of_ble_eq_true rfl, Nat.le_of_ble_eq_true rfl⟩ trivial ⟨rfl, rfl⟩
    · rw [if_neg h6] at h
      rw [if_neg h6] at h7
      cases h
      obtain ⟨z9, hz9⟩ : ∃ z, r4 = z + 1 := ⟨r4 - 1, by omega⟩
      exact mm_ev.callO (q := mq17) (q2 := mq13) (b := (20, .invokevirtual 151, 3, 2, 6, 13, 1, 0, [592, 589, 591, 48, 33])) (as := [.ref 0]) (r := []) rfl rfl rfl rfl rfl ⟨Nat.le_of_ble_eq_true rfl, Nat.le_of_ble_eq_true rfl, Nat.le_of_ble_eq_true rfl⟩ h7 rfl rfl ⟨by rw [if_neg h6], rfl⟩
  · rw [if_neg h3] at h
    refine mm_ev.go [false] (ps := [¬ mm_cmp .eq r1 (0 : Int32)]) (c1 := (9, [some (.ref 0), some (.int a0), none], [], mH S, 0, 0)) rfl ⟨h3, trivial⟩ ?_
    cases h
    exact mm_ev.thr (q := mq17) (b := (9, .new 91, 3, 4, 0, 2, 157, 95, [420, 60, 9])) rfl rfl ⟨by omega, Nat.le_of_ble_eq_true rfl, Nat.le_of_ble_eq_true rfl, rfl, Nat.le_of_ble_eq_true rfl⟩ ⟨rfl, rfl⟩
def I49_2 (n : Nat) (S : mSt) (v3 : Int32) : Option (Nat × mSt × Int32) := if (S.1 15) ≤ v3 then (some (1, S, 0)) else (if (100 : Int32) ≤ v3 then (some (1, S, 0)) else (if 0 ≤ v3 ∧ v3.toNatClampNeg < 100 then (F33 S (S.2.1 29 v3.toNatClampNeg) (S.2.1 30 v3.toNatClampNeg)).bind fun r4 => ((F50 n S v3 (r4 - (S.2.1 32 v3.toNatClampNeg))).bind fun r6 => ((F54 n (S.1, (va_up S.2.1 32 (upd (S.2.1 32) v3.toNatClampNeg ((S.2.1 32 v3.toNatClampNeg) + r6))), S.2.2) v3 r6).bind fun r8 => (some (0, r8, v3 + (1 : Int32))))) else none))
set_option maxRecDepth 100000 in
set_option maxHeartbeats 4000000 in
theorem I49_2_ok {sc : mS} (d : Nat) {n : Nat} {S : mSt} {v3 : Int32} {r : Nat × mSt × Int32} (h : I49_2 n S v3 = some r) (o4 : Option Value) (o5 : Option Value) {Q : mR → List mE → Prop} (hc0 : r.1 = 0 → ∀ u4 : Option Value, ∀ u5 : Option Value, mm_ev sc mmK mmP (d + 4) 49 (2, [some (.ref 28), some (.ref 1), some (.ref 3), some (.int r.2.2), u4, u5], [], mH r.2.1, 0, 0) Q) (hc1 : r.1 = 1 → ∀ u0 : Option Value, ∀ u1 : Option Value, ∀ u2 : Option Value, ∀ u3 : Option Value, ∀ u4 : Option Value, ∀ u5 : Option Value, mm_ev sc mmK mmP (d + 4) 49 (75, [u0, u1, u2, u3, u4, u5], [], mH r.2.1, 0, 0) Q) : mm_ev sc mmK mmP (d + 4) 49 (2, [some (.ref 28), some (.ref 1), some (.ref 3), some (.int v3), o4, o5], [], mH S, 0, 0) Q := by
  unfold I49_2 at h
  by_cases h1 : (S.1 15) ≤ v3
  · rw [if_pos h1] at h
    refine mm_ev.go [true, true, true, true] (ps := [mm_cmp .ge v3 (S.1 15)]) (c1 := (75, [some (.ref 28), some (.ref 1), some (.ref 3), some (.int v3), o4, o5], [], mH S, 0, 0)) rfl ⟨h1, trivial⟩ ?_
    cases h
    exact hc1 rfl (some (.ref 28)) (some (.ref 1)) (some (.ref 3)) (some (.int v3)) o4 o5
  · rw [if_neg h1] at h
    refine mm_ev.go [true, true, true, false] (ps := [¬ mm_cmp .ge v3 (S.1 15)]) (c1 := (10, [some (.ref 28), some (.ref 1), some (.ref 3), some (.int v3), o4, o5], [], mH S, 0, 0)) rfl ⟨h1, trivial⟩ ?_
    by_cases h2 : (100 : Int32) ≤ v3
    · rw [if_pos h2] at h
      refine mm_ev.go [true, true, true] (ps := [mm_cmp .ge v3 (100 : Int32)]) (c1 := (75, [some (.ref 28), some (.ref 1), some (.ref 3), some (.int v3), o4, o5], [], mH S, 0, 0)) rfl ⟨h2, trivial⟩ ?_
      cases h
      exact hc1 rfl (some (.ref 28)) (some (.ref 1)) (some (.ref 3)) (some (.int v3)) o4 o5
    · rw [if_neg h2] at h
      refine mm_ev.go [true, true, false] (ps := [¬ mm_cmp .ge v3 (100 : Int32)]) (c1 := (16, [some (.ref 28), some (.ref 1), some (.ref 3), some (.int v3), o4, o5], [], mH S, 0, 0)) rfl ⟨h2, trivial⟩ ?_
      obtain ⟨h3, h⟩ := mb_i h
      refine mm_ev.go [true, true, true, true, true, true, true, true, true] (ps := [mm_in v3 100, mm_in v3 100]) (c1 := (29, [some (.ref 28), some (.ref 1), some (.ref 3), some (.int v3), o4, o5], [.int (S.2.1 30 v3.toNatClampNeg), .int (S.2.1 29 v3.toNatClampNeg), .ref 3], mH S, 0, 0)) rfl ⟨h3, h3, trivial⟩ ?_
      obtain ⟨r4, h5, h⟩ := mb_b h
      refine mm_ev.call (q := mq49) (q2 := mq33) (b := (29, .invokevirtual 76, 3, 2, 3, 33, 3, 2, [558, 555, 557, 50, 27])) (as := [.ref 3, .int (S.2.1 29 v3.toNatClampNeg), .int (S.2.1 30 v3.toNatClampNeg)]) (r := []) (v := (some (.int r4))) (h1 := mH S) rfl rfl rfl rfl ⟨Nat.le_of_ble_eq_true rfl, Nat.le_of_ble_eq_true rfl, Nat.le_of_ble_eq_true rfl⟩ (F33_ok (d + 2) h5) ?_
      refine mm_ev.to (c := (32, [some (.ref 28), some (.ref 1), some (.ref 3), some (.int v3), o4, o5], [.int r4], mH S, 0, 0)) rfl ?_
      refine mm_ev.go [true, true, true, true, true, true, true, true, true, true] (ps := [mm_in v3 100]) (c1 := (46, [some (.ref 28), some (.ref 1), some (.ref 3), some (.int v3), some (.int r4), o5], [.ref 1, .int (r4 - (S.2.1 32 v3.toNatClampNeg)), .int v3, .ref 28], mH S, 0, 0)) rfl ⟨h3, trivial⟩ ?_
      obtain ⟨r6, h7, h⟩ := mb_b h
      refine mm_ev.call (q := mq49) (q2 := mq50) (b := (46, .invokevirtual 79, 3, 2, 2, 50, 4, 5, [562, 559, 561, 53, 28])) (as := [.ref 28, .int v3, .int (r4 - (S.2.1 32 v3.toNatClampNeg)), .ref 1]) (r := []) (v := (some (.int r6))) (h1 := mH S) rfl rfl rfl rfl ⟨Nat.le_of_ble_eq_true rfl, Nat.le_of_ble_eq_true rfl, Nat.le_of_ble_eq_true rfl⟩ (F50_ok d h7) ?_
      refine mm_ev.to (c := (49, [some (.ref 28), some (.ref 1), some (.ref 3), some (.int v3), some (.int r4), o5], [.int r6], mH S, 0, 0)) rfl ?_
      refine mm_ev.go [true, true, true, true, true, true, true, true, true, true, true, true] (ps := [mm_in v3 100, mm_in v3 100]) (c1 := (66, [some (.ref 28), some (.ref 1), some (.ref 3), some (.int v3), some (.int r4), some (.int r6)], [.int r6, .int v3, .ref 28], mH (S.1, (va_up S.2.1 32 (upd (S.2.1 32) v3.toNatClampNeg ((S.2.1 32 v3.toNatClampNeg) + r6))), S.2.2), 0, 0)) rfl ⟨h3, h3, trivial⟩ ?_
      obtain ⟨r8, h9, h⟩ := mb_b h
      refine mm_ev.call (q := mq49) (q2 := mq54) (b := (66, .invokevirtual 83, 3, 2, 2, 54, 3, 5, [580, 577, 579, 53, 32])) (as := [.ref 28, .int v3, .int r6]) (r := []) (v := none) (h1 := mH r8) rfl rfl rfl rfl ⟨Nat.le_of_ble_eq_true rfl, Nat.le_of_ble_eq_true rfl, Nat.le_of_ble_eq_true rfl⟩ (F54_ok (d + 3) h9) ?_
      refine mm_ev.to (c := (69, [some (.ref 28), some (.ref 1), some (.ref 3), some (.int v3), some (.int r4), some (.int r6)], [], mH r8, 0, 0)) rfl ?_
      refine mm_ev.go [true, true] (ps := []) (c1 := (2, [some (.ref 28), some (.ref 1), some (.ref 3), some (.int (v3 + (1 : Int32))), some (.int r4), some (.int r6)], [], mH r8, 0, 0)) rfl trivial ?_
      cases h
      exact hc0 rfl (some (.int r4)) (some (.int r6))
def L49_2 : Nat → mSt → Int32 → Option (Nat × mSt × Int32)
  | 0, _, _ => none
  | n + 1, S, v3 => (I49_2 n S v3).bind fun r => if r.1 = 0 then L49_2 n r.2.1 r.2.2 else some r
set_option maxRecDepth 100000 in
set_option maxHeartbeats 4000000 in
theorem L49_2_ok {sc : mS} (d : Nat) {n : Nat} {S : mSt} {v3 : Int32} {r : Nat × mSt × Int32} (h : L49_2 n S v3 = some r) (o4 : Option Value) (o5 : Option Value) {Q : mR → List mE → Prop} (hc1 : r.1 = 1 → ∀ u0 : Option Value, ∀ u1 : Option Value, ∀ u2 : Option Value, ∀ u3 : Option Value, ∀ u4 : Option Value, ∀ u5 : Option Value, mm_ev sc mmK mmP (d + 4) 49 (75, [u0, u1, u2, u3, u4, u5], [], mH r.2.1, 0, 0) Q) : mm_ev sc mmK mmP (d + 4) 49 (2, [some (.ref 28), some (.ref 1), some (.ref 3), some (.int v3), o4, o5], [], mH S, 0, 0) Q := by
  induction n generalizing S v3 o4 o5 with
  | zero => cases h
  | succ n ih =>
    unfold L49_2 at h
    obtain ⟨r1, h1, h⟩ := mb_b h
    by_cases h0 : r1.1 = 0
    · rw [if_pos h0] at h
      refine I49_2_ok d h1 o4 o5 (fun _ z0 z1 => ih h z0 z1) (fun z => absurd z (by omega))
    · rw [if_neg h0] at h
      cases h
      exact I49_2_ok d h1 o4 o5 (fun z => absurd z h0) hc1
/-- SlabPatterns$Strips.stretch -/
def F49 (n : Nat) (S : mSt) : Option (mSt) := (L49_2 n S (0 : Int32)).bind fun r10 => (some r10.2.1)
set_option maxRecDepth 100000 in
set_option maxHeartbeats 4000000 in
theorem F49_ok {sc : mS} (d : Nat) {n : Nat} {S : mSt} {r : mSt} (h : F49 n S = some r) : mm_ev sc mmK mmP (d + 4) 49 (0, mm_en 6 [.ref 28, .ref 1, .ref 3], [], mH S, 0, 0) (mm_is (.inl none) (mH r)) := by
  unfold F49 at h
  refine mm_ev.to (c := (0, [some (.ref 28), some (.ref 1), some (.ref 3), none, none, none], [], mH S, 0, 0)) rfl ?_
  refine mm_ev.go [true, true] (ps := []) (c1 := (2, [some (.ref 28), some (.ref 1), some (.ref 3), some (.int (0 : Int32)), none, none], [], mH S, 0, 0)) rfl trivial ?_
  obtain ⟨r10, h11, h⟩ := mb_b h
  refine L49_2_ok d h11 none none ?_
  · intro h12 o1_0 o1_1 o1_2 o1_3 o1_4 o1_5
    cases h
    exact mm_ev.ret (q := mq49) (b := (75, .return_, 1, 3, 0, 0, 0, 0, [])) rfl rfl rfl ⟨Nat.le_of_ble_eq_true rfl, Nat.le_of_ble_eq_true rfl⟩ trivial ⟨rfl, rfl⟩
