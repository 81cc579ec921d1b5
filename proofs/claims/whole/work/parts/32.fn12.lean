/-! methods as functions of the state (12) -/
/-- SlabPatternsLaw.rest -/
def F94 (S : mSt) (a1 : Int32) : Option (Int32 × mSt) := (F17 S a1).bind fun r1 => if r1.1 = 0 then (if 0 ≤ (0 : Int32) ∧ (0 : Int32).toNatClampNeg < 1 then some (((0 : Int32), (S.1, S.2.1, (vp_updL S.2.2 (0 : Int32).toNatClampNeg r1.2.toInt64)))) else none) else (if r1.1 = 3 then (some (((1 : Int32), S))) else (if r1.1 = 2 then (some (((2 : Int32), S))) else none))
set_option maxRecDepth 100000 in
set_option maxHeartbeats 4000000 in
theorem F94_ok {sc : mS} (d : Nat) {S : mSt} {a1 : Int32} {r : Int32 × mSt} (h : F94 S a1 = some r) : mm_ev sc mmK mmP (d + 7) 94 (0, mm_en 4 [.ref 0, .int a1, .ref 51], [], mH S, 0, 0) (mm_is (.inl (some (.int r.1))) (mH r.2)) := by
  unfold F94 at h
  refine mm_ev.to (c := (0, [some (.ref 0), some (.int a1), some (.ref 51), none], [], mH S, 0, 0)) rfl ?_
  refine mm_ev.go [true, true, true, true] (ps := []) (c1 := (4, [some (.ref 0), some (.int a1), some (.ref 51), none], [.int a1, .ref 0, .int (0 : Int32), .ref 51], mH S, 0, 0)) rfl trivial ?_
  obtain ⟨r1, h2, h⟩ := mb_b h
  have h4 := F17_ok (sc := sc) d h2
  by_cases h3 : r1.1 = 0
  · rw [if_pos h3] at h
    rw [if_pos h3] at h4
    refine mm_ev.call (q := mq94) (q2 := mq17) (b := (4, .invokevirtual 55, 3, 2, 6, 17, 2, 0, [643, 640, 641, 48, 642])) (as := [.ref 0, .int a1]) (r := [.int (0 : Int32), .ref 51]) (v := (some (.int r1.2))) (h1 := mH S) rfl rfl rfl rfl ⟨Nat.le_of_ble_eq_true rfl, Nat.le_of_ble_eq_true rfl, Nat.le_of_ble_eq_true rfl⟩ h4 ?_
    refine mm_ev.to (c := (7, [some (.ref 0), some (.int a1), some (.ref 51), none], [.int r1.2, .int (0 : Int32), .ref 51], mH S, 1, 6)) rfl ?_
    obtain ⟨h5, h⟩ := mb_i h
    refine mm_ev.go [true, true, true, true] (ps := [mm_in (0 : Int32) 1]) (c1 := (19, [some (.ref 0), some (.int a1), some (.ref 51), none], [.int (0 : Int32)], mH (S.1, S.2.1, (vp_updL S.2.2 (0 : Int32).toNatClampNeg r1.2.toInt64)), 1, 6)) rfl ⟨h5, trivial⟩ ?_
    cases h
    exact mm_ev.ret (q := mq94) (b := (19, .ireturn, 1, 3, 0, 0, 0, 0, [])) rfl rfl rfl ⟨Nat.le_of_ble_eq_true rfl, Nat.le_of_ble_eq_true rfl⟩ trivial ⟨rfl, rfl⟩
  · rw [if_neg h3] at h
    rw [if_neg h3] at h4
    by_cases h6 : r1.1 = 3
    · rw [if_pos h6] at h
      rw [h6] at h4
      refine mm_ev.callX (q := mq94) (q2 := mq17) (b := (4, .invokevirtual 55, 3, 2, 6, 17, 2, 0, [643, 640, 641, 48, 642])) (as := [.ref 0, .int a1]) (r := [.int (0 : Int32), .ref 51]) (E := 2) (hp := 12) (i := 3) (pc2 := 13) (z := (mq94, (12, .astore_n 3, 1, 0, 2, 0, 0, 0, []))) (h1 := mH S) rfl rfl rfl rfl rfl ⟨Nat.le_of_ble_eq_true rfl, Nat.le_of_ble_eq_true rfl, Nat.le_of_ble_eq_true rfl⟩ h4 rfl rfl rfl ?_
      refine mm_ev.to (c := (13, [some (.ref 0), some (.int a1), some (.ref 51), none], [], mH S, 1, 6)) rfl ?_
      refine mm_ev.go [true] (ps := []) (c1 := (14, [some (.ref 0), some (.int a1), some (.ref 51), none], [.int (1 : Int32)], mH S, 1, 6)) rfl trivial ?_
      cases h
      exact mm_ev.ret (q := mq94) (b := (14, .ireturn, 1, 3, 0, 0, 0, 0, [])) rfl rfl rfl ⟨Nat.le_of_ble_eq_true rfl, Nat.le_of_ble_eq_true rfl⟩ trivial ⟨rfl, rfl⟩
    rw [if_neg h6] at h
    by_cases h7 : r1.1 = 2
    · rw [if_pos h7] at h
      rw [h7] at h4
      refine mm_ev.callX (q := mq94) (q2 := mq17) (b := (4, .invokevirtual 55, 3, 2, 6, 17, 2, 0, [643, 640, 641, 48, 642])) (as := [.ref 0, .int a1]) (r := [.int (0 : Int32), .ref 51]) (E := 1) (hp := 15) (i := 3) (pc2 := 16) (z := (mq94, (15, .astore_n 3, 1, 0, 2, 0, 0, 0, []))) (h1 := mH S) rfl rfl rfl rfl rfl ⟨Nat.le_of_ble_eq_true rfl, Nat.le_of_ble_eq_true rfl, Nat.le_of_ble_eq_true rfl⟩ h4 rfl rfl rfl ?_
      refine mm_ev.to (c := (16, [some (.ref 0), some (.int a1), some (.ref 51), none], [], mH S, 1, 6)) rfl ?_
      refine mm_ev.go [true] (ps := []) (c1 := (17, [some (.ref 0), some (.int a1), some (.ref 51), none], [.int (2 : Int32)], mH S, 1, 6)) rfl trivial ?_
      cases h
      exact mm_ev.ret (q := mq94) (b := (17, .ireturn, 1, 3, 0, 0, 0, 0, [])) rfl rfl rfl ⟨Nat.le_of_ble_eq_true rfl, Nat.le_of_ble_eq_true rfl⟩ trivial ⟨rfl, rfl⟩
    rw [if_neg h7] at h
    cases h
/-- SlabPatterns.run -/
def F11 (n : Nat) (S : mSt) (a0 : Int32) : Option (Nat × Int32 × mSt) := (F6 S a0 (0 : Int32) (100000 : Int32)).bind fun r1 => (if r1 = (0 : Int32) then ((F35 n S).bind fun r4 => ((F39 n r4 a0).bind fun r6 => (if r6.1 = 0 ∨ r6.1 = 1 then (F49 n ((va_up r6.2.1 1 r6.1), r6.2.2.1, r6.2.2.2)).bind fun r9 => (some ((0, r9.1 13, ((va_up r9.1 0 (1 : Int32)), r9.2.1, r9.2.2)))) else none))) else (some ((1, 0, S))))
set_option maxRecDepth 100000 in
set_option maxHeartbeats 4000000 in
theorem F11_ok {sc : mS} (d : Nat) {n : Nat} {S : mSt} {a0 : Int32} {r : Nat × Int32 × mSt} (h : F11 n S a0 = some r) : mm_ev sc mmK mmP (d + 5) 11 (0, mm_en 2 [.ref 0, .int a0], [], mH S, 0, 0) (mm_is (if r.1 = 0 then .inl (some (.int r.2.1)) else .inr (r.1 - 1)) (mH r.2.2)) := by
  unfold F11 at h
  refine mm_ev.to (c := (0, [some (.ref 0), some (.int a0)], [], mH S, 0, 0)) rfl ?_
  refine mm_ev.go [true, true, true] (ps := []) (c1 := (4, [some (.ref 0), some (.int a0)], [.int (100000 : Int32), .int (0 : Int32), .int a0], mH S, 0, 0)) rfl trivial ?_
  obtain ⟨r1, h2, h⟩ := mb_b h
  refine mm_ev.call (q := mq11) (q2 := mq6) (b := (4, .invokestatic 47, 3, 2, 4, 6, 3, 0, [302, 300, 301, 48])) (as := [.int a0, .int (0 : Int32), .int (100000 : Int32)]) (r := []) (v := (some (.int r1))) (h1 := mH S) rfl rfl rfl rfl ⟨Nat.le_of_ble_eq_true rfl, Nat.le_of_ble_eq_true rfl, Nat.le_of_ble_eq_true rfl⟩ (F6_ok (d + 4) h2) ?_
  refine mm_ev.to (c := (7, [some (.ref 0), some (.int a0)], [.int r1], mH S, 0, 0)) rfl ?_
  by_cases h3 : r1 = (0 : Int32)
  · rw [if_pos h3] at h
    refine mm_ev.go [true] (ps := [mm_cmp .eq r1 (0 : Int32)]) (c1 := (20, [some (.ref 0), some (.int a0)], [], mH S, 0, 0)) rfl ⟨h3, trivial⟩ ?_
    refine mm_ev.go [true, true, true, true, true, true] (ps := []) (c1 := (32, [some (.ref 0), some (.int a0)], [.ref 3, .ref 1, .ref 10], mH S, 0, 0)) rfl trivial ?_
    obtain ⟨r4, h5, h⟩ := mb_b h
    refine mm_ev.call (q := mq11) (q2 := mq35) (b := (32, .invokevirtual 130, 3, 2, 3, 35, 3, 3, [471, 468, 470, 51, 8])) (as := [.ref 10, .ref 1, .ref 3]) (r := []) (v := none) (h1 := mH r4) rfl rfl rfl rfl ⟨Nat.le_of_ble_eq_true rfl, Nat.le_of_ble_eq_true rfl, Nat.le_of_ble_eq_true rfl⟩ (F35_ok (d + 1) h5) ?_
    refine mm_ev.to (c := (35, [some (.ref 0), some (.int a0)], [], mH r4, 0, 0)) rfl ?_
    refine mm_ev.go [true, true, true, true, true, true, true, true, true, true] (ps := []) (c1 := (53, [some (.ref 0), some (.int a0)], [.int a0, .ref 28, .ref 10, .ref 1, .ref 17, .ref 0], mH r4, 0, 0)) rfl trivial ?_
    obtain ⟨r6, h7, h⟩ := mb_b h
    refine mm_ev.call (q := mq11) (q2 := mq39) (b := (53, .invokevirtual 134, 3, 2, 3, 39, 5, 4, [501, 498, 500, 52, 14])) (as := [.ref 17, .ref 1, .ref 10, .ref 28, .int a0]) (r := [.ref 0]) (v := (some (.int r6.1))) (h1 := mH r6.2) rfl rfl rfl rfl ⟨Nat.le_of_ble_eq_true rfl, Nat.le_of_ble_eq_true rfl, Nat.le_of_ble_eq_true rfl⟩ (F39_ok (d + 1) h7) ?_
    refine mm_ev.to (c := (56, [some (.ref 0), some (.int a0)], [.int r6.1, .ref 0], mH r6.2, 0, 0)) rfl ?_
    obtain ⟨h8, h⟩ := mb_i h
    refine mm_ev.go [true, true, true, true, true, true, true] (ps := [r6.1 = 0 ∨ r6.1 = 1, _]) (c1 := (71, [some (.ref 0), some (.int a0)], [.ref 3, .ref 1, .ref 28], mH ((va_up r6.2.1 1 r6.1), r6.2.2.1, r6.2.2.2), 0, 0)) rfl ⟨h8, (Nat.le_of_ble_eq_true rfl), trivial⟩ ?_
    obtain ⟨r9, h10, h⟩ := mb_b h
    refine mm_ev.call (q := mq11) (q2 := mq49) (b := (71, .invokevirtual 142, 3, 2, 3, 49, 3, 5, [554, 551, 553, 53, 26])) (as := [.ref 28, .ref 1, .ref 3]) (r := []) (v := none) (h1 := mH r9) rfl rfl rfl rfl ⟨Nat.le_of_ble_eq_true rfl, Nat.le_of_ble_eq_true rfl, Nat.le_of_ble_eq_true rfl⟩ (F49_ok d h10) ?_
    refine mm_ev.to (c := (74, [some (.ref 0), some (.int a0)], [], mH r9, 0, 0)) rfl ?_
    refine mm_ev.go [true, true, true, true, true, true] (ps := [_, _]) (c1 := (86, [some (.ref 0), some (.int a0)], [.int (r9.1 13)], mH ((va_up r9.1 0 (1 : Int32)), r9.2.1, r9.2.2), 0, 0)) rfl ⟨(by first | exact Or.inl rfl | exact Or.inr rfl), (Nat.le_of_ble_eq_true rfl), trivial⟩ ?_
    cases h
    exact mm_ev.ret (q := mq11) (b := (86, .ireturn, 1, 3, 0, 0, 0, 0, [])) rfl rfl rfl ⟨Nat.le_of_ble_eq_true rfl, Nat.le_of_ble_eq_true rfl⟩ trivial ⟨rfl, rfl⟩
  · rw [if_neg h3] at h
    refine mm_ev.go [false] (ps := [¬ mm_cmp .eq r1 (0 : Int32)]) (c1 := (10, [some (.ref 0), some (.int a0)], [], mH S, 0, 0)) rfl ⟨h3, trivial⟩ ?_
    cases h
    exact mm_ev.thr (q := mq11) (b := (10, .new 51, 3, 4, 0, 0, 128, 55, [303, 58, 7])) rfl rfl ⟨by omega, Nat.le_of_ble_eq_true rfl, Nat.le_of_ble_eq_true rfl, rfl, Nat.le_of_ble_eq_true rfl⟩ ⟨rfl, rfl⟩
/-- SlabPatternsLaw.run -/
def F89 (n : Nat) (S : mSt) (a1 : Int32) : Option (Int32 × mSt) := (F11 n S a1).bind fun r1 => if r1.1 = 0 then (if 0 ≤ (0 : Int32) ∧ (0 : Int32).toNatClampNeg < 1 then some (((0 : Int32), (r1.2.2.1, r1.2.2.2.1, (vp_updL r1.2.2.2.2 (0 : Int32).toNatClampNeg r1.2.1.toInt64)))) else none) else (if r1.1 = 1 then (some (((1 : Int32), r1.2.2))) else none)
set_option maxRecDepth 100000 in
set_option maxHeartbeats 4000000 in
theorem F89_ok {sc : mS} (d : Nat) {n : Nat} {S : mSt} {a1 : Int32} {r : Int32 × mSt} (h : F89 n S a1 = some r) : mm_ev sc mmK mmP (d + 6) 89 (0, mm_en 4 [.ref 0, .int a1, .ref 51], [], mH S, 0, 0) (mm_is (.inl (some (.int r.1))) (mH r.2)) := by
  unfold F89 at h
  refine mm_ev.to (c := (0, [some (.ref 0), some (.int a1), some (.ref 51), none], [], mH S, 0, 0)) rfl ?_
  refine mm_ev.go [true, true, true, true] (ps := []) (c1 := (4, [some (.ref 0), some (.int a1), some (.ref 51), none], [.int a1, .ref 0, .int (0 : Int32), .ref 51], mH S, 0, 0)) rfl trivial ?_
  obtain ⟨r1, h2, h⟩ := mb_b h
  have h4 := F11_ok (sc := sc) d h2
  by_cases h3 : r1.1 = 0
  · rw [if_pos h3] at h
    rw [if_pos h3] at h4
    refine mm_ev.call (q := mq89) (q2 := mq11) (b := (4, .invokevirtual 35, 3, 2, 6, 11, 2, 0, [466, 463, 464, 48, 465])) (as := [.ref 0, .int a1]) (r := [.int (0 : Int32), .ref 51]) (v := (some (.int r1.2.1))) (h1 := mH r1.2.2) rfl rfl rfl rfl ⟨Nat.le_of_ble_eq_true rfl, Nat.le_of_ble_eq_true rfl, Nat.le_of_ble_eq_true rfl⟩ h4 ?_
    refine mm_ev.to (c := (7, [some (.ref 0), some (.int a1), some (.ref 51), none], [.int r1.2.1, .int (0 : Int32), .ref 51], mH r1.2.2, 1, 6)) rfl ?_
    obtain ⟨h5, h⟩ := mb_i h
    refine mm_ev.go [true, true, true, true] (ps := [mm_in (0 : Int32) 1]) (c1 := (16, [some (.ref 0), some (.int a1), some (.ref 51), none], [.int (0 : Int32)], mH (r1.2.2.1, r1.2.2.2.1, (vp_updL r1.2.2.2.2 (0 : Int32).toNatClampNeg r1.2.1.toInt64)), 1, 6)) rfl ⟨h5, trivial⟩ ?_
    cases h
    exact mm_ev.ret (q := mq89) (b := (16, .ireturn, 1, 3, 0, 0, 0, 0, [])) rfl rfl rfl ⟨Nat.le_of_ble_eq_true rfl, Nat.le_of_ble_eq_true rfl⟩ trivial ⟨rfl, rfl⟩
  · rw [if_neg h3] at h
    rw [if_neg h3] at h4
    by_cases h6 : r1.1 = 1
    · rw [if_pos h6] at h
      rw [h6] at h4
      refine mm_ev.callX (q := mq89) (q2 := mq11) (b := (4, .invokevirtual 35, 3, 2, 6, 11, 2, 0, [466, 463, 464, 48, 465])) (as := [.ref 0, .int a1]) (r := [.int (0 : Int32), .ref 51]) (E := 0) (hp := 12) (i := 3) (pc2 := 13) (z := (mq89, (12, .astore_n 3, 1, 0, 2, 0, 0, 0, []))) (h1 := mH r1.2.2) rfl rfl rfl rfl rfl ⟨Nat.le_of_ble_eq_true rfl, Nat.le_of_ble_eq_true rfl, Nat.le_of_ble_eq_true rfl⟩ h4 rfl rfl rfl ?_
      refine mm_ev.to (c := (13, [some (.ref 0), some (.int a1), some (.ref 51), none], [], mH r1.2.2, 1, 6)) rfl ?_
      refine mm_ev.go [true] (ps := []) (c1 := (14, [some (.ref 0), some (.int a1), some (.ref 51), none], [.int (1 : Int32)], mH r1.2.2, 1, 6)) rfl trivial ?_
      cases h
      exact mm_ev.ret (q := mq89) (b := (14, .ireturn, 1, 3, 0, 0, 0, 0, [])) rfl rfl rfl ⟨Nat.le_of_ble_eq_true rfl, Nat.le_of_ble_eq_true rfl⟩ trivial ⟨rfl, rfl⟩
    rw [if_neg h6] at h
    cases h
