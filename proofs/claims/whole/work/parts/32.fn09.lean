/-! methods as functions of the state (9) -/
/-- SlabPatternsLaw.bar -/
def F88 (n : Nat) (S : mSt) (a1 a2 : Int32) : Option (Int32 × mSt) := (F10 n S a1 a2).bind fun r1 => if r1.1 = 0 then (if 0 ≤ (0 : Int32) ∧ (0 : Int32).toNatClampNeg < 1 then some (((0 : Int32), (r1.2.2.1, r1.2.2.2.1, (vp_updL r1.2.2.2.2 (0 : Int32).toNatClampNeg r1.2.1.toInt64)))) else none) else (if r1.1 = 1 then (some (((1 : Int32), r1.2.2))) else (if r1.1 = 4 then (some (((2 : Int32), r1.2.2))) else none))
set_option maxRecDepth 100000 in
set_option maxHeartbeats 4000000 in
theorem F88_ok {sc : mS} (d : Nat) {n : Nat} {S : mSt} {a1 a2 : Int32} {r : Int32 × mSt} (h : F88 n S a1 a2 = some r) : mm_ev sc mmK mmP (d + 6) 88 (0, mm_en 5 [.ref 0, .int a1, .int a2, .ref 51], [], mH S, 0, 0) (mm_is (.inl (some (.int r.1))) (mH r.2)) := by
  unfold F88 at h
  refine mm_ev.to (c := (0, [some (.ref 0), some (.int a1), some (.int a2), some (.ref 51), none], [], mH S, 0, 0)) rfl ?_
  refine mm_ev.go [true, true, true, true, true] (ps := []) (c1 := (5, [some (.ref 0), some (.int a1), some (.int a2), some (.ref 51), none], [.int a2, .int a1, .ref 0, .int (0 : Int32), .ref 51], mH S, 0, 0)) rfl trivial ?_
  obtain ⟨r1, h2, h⟩ := mb_b h
  have h4 := F10_ok (sc := sc) d h2
  by_cases h3 : r1.1 = 0
  · rw [if_pos h3] at h
    rw [if_pos h3] at h4
    refine mm_ev.call (q := mq88) (q2 := mq10) (b := (5, .invokevirtual 31, 3, 2, 6, 10, 3, 0, [450, 447, 448, 48, 449])) (as := [.ref 0, .int a1, .int a2]) (r := [.int (0 : Int32), .ref 51]) (v := (some (.int r1.2.1))) (h1 := mH r1.2.2) rfl rfl rfl rfl ⟨Nat.le_of_ble_eq_true rfl, Nat.le_of_ble_eq_true rfl, Nat.le_of_ble_eq_true rfl⟩ h4 ?_
    refine mm_ev.to (c := (8, [some (.ref 0), some (.int a1), some (.int a2), some (.ref 51), none], [.int r1.2.1, .int (0 : Int32), .ref 51], mH r1.2.2, 1, 6)) rfl ?_
    obtain ⟨h5, h⟩ := mb_i h
    refine mm_ev.go [true, true, true, true] (ps := [mm_in (0 : Int32) 1]) (c1 := (22, [some (.ref 0), some (.int a1), some (.int a2), some (.ref 51), none], [.int (0 : Int32)], mH (r1.2.2.1, r1.2.2.2.1, (vp_updL r1.2.2.2.2 (0 : Int32).toNatClampNeg r1.2.1.toInt64)), 1, 6)) rfl ⟨h5, trivial⟩ ?_
    cases h
    exact mm_ev.ret (q := mq88) (b := (22, .ireturn, 1, 3, 0, 0, 0, 0, [])) rfl rfl rfl ⟨Nat.le_of_ble_eq_true rfl, Nat.le_of_ble_eq_true rfl⟩ trivial ⟨rfl, rfl⟩
  · rw [if_neg h3] at h
    rw [if_neg h3] at h4
    by_cases h6 : r1.1 = 1
    · rw [if_pos h6] at h
      rw [h6] at h4
      refine mm_ev.callX (q := mq88) (q2 := mq10) (b := (5, .invokevirtual 31, 3, 2, 6, 10, 3, 0, [450, 447, 448, 48, 449])) (as := [.ref 0, .int a1, .int a2]) (r := [.int (0 : Int32), .ref 51]) (E := 0) (hp := 13) (i := 4) (pc2 := 15) (z := (mq88, (13, .astore 4, 2, 0, 2, 0, 0, 0, []))) (h1 := mH r1.2.2) rfl rfl rfl rfl rfl ⟨Nat.le_of_ble_eq_true rfl, Nat.le_of_ble_eq_true rfl, Nat.le_of_ble_eq_true rfl⟩ h4 rfl rfl rfl ?_
      refine mm_ev.to (c := (15, [some (.ref 0), some (.int a1), some (.int a2), some (.ref 51), none], [], mH r1.2.2, 1, 6)) rfl ?_
      refine mm_ev.go [true] (ps := []) (c1 := (16, [some (.ref 0), some (.int a1), some (.int a2), some (.ref 51), none], [.int (1 : Int32)], mH r1.2.2, 1, 6)) rfl trivial ?_
      cases h
      exact mm_ev.ret (q := mq88) (b := (16, .ireturn, 1, 3, 0, 0, 0, 0, [])) rfl rfl rfl ⟨Nat.le_of_ble_eq_true rfl, Nat.le_of_ble_eq_true rfl⟩ trivial ⟨rfl, rfl⟩
    rw [if_neg h6] at h
    by_cases h7 : r1.1 = 4
    · rw [if_pos h7] at h
      rw [h7] at h4
      refine mm_ev.callX (q := mq88) (q2 := mq10) (b := (5, .invokevirtual 31, 3, 2, 6, 10, 3, 0, [450, 447, 448, 48, 449])) (as := [.ref 0, .int a1, .int a2]) (r := [.int (0 : Int32), .ref 51]) (E := 3) (hp := 17) (i := 4) (pc2 := 19) (z := (mq88, (17, .astore 4, 2, 0, 2, 0, 0, 0, []))) (h1 := mH r1.2.2) rfl rfl rfl rfl rfl ⟨Nat.le_of_ble_eq_true rfl, Nat.le_of_ble_eq_true rfl, Nat.le_of_ble_eq_true rfl⟩ h4 rfl rfl rfl ?_
      refine mm_ev.to (c := (19, [some (.ref 0), some (.int a1), some (.int a2), some (.ref 51), none], [], mH r1.2.2, 1, 6)) rfl ?_
      refine mm_ev.go [true] (ps := []) (c1 := (20, [some (.ref 0), some (.int a1), some (.int a2), some (.ref 51), none], [.int (2 : Int32)], mH r1.2.2, 1, 6)) rfl trivial ?_
      cases h
      exact mm_ev.ret (q := mq88) (b := (20, .ireturn, 1, 3, 0, 0, 0, 0, [])) rfl rfl rfl ⟨Nat.le_of_ble_eq_true rfl, Nat.le_of_ble_eq_true rfl⟩ trivial ⟨rfl, rfl⟩
    rw [if_neg h7] at h
    cases h
/-- SlabPatternsLaw.proved -/
def F90 (S : mSt) : Option (Int32 × mSt) := (F12 S).bind fun r1 => if r1.1 = 0 then (if r1.2 = (0 : Int32) then (if 0 ≤ (0 : Int32) ∧ (0 : Int32).toNatClampNeg < 1 then some (((0 : Int32), (S.1, S.2.1, (vp_updL S.2.2 (0 : Int32).toNatClampNeg (0 : Int64))))) else none) else (if 0 ≤ (0 : Int32) ∧ (0 : Int32).toNatClampNeg < 1 then some (((0 : Int32), (S.1, S.2.1, (vp_updL S.2.2 (0 : Int32).toNatClampNeg (1 : Int64))))) else none)) else (if r1.1 = 2 then (some (((1 : Int32), S))) else none)
set_option maxRecDepth 100000 in
set_option maxHeartbeats 4000000 in
theorem F90_ok {sc : mS} (d : Nat) {S : mSt} {r : Int32 × mSt} (h : F90 S = some r) : mm_ev sc mmK mmP (d + 7) 90 (0, mm_en 3 [.ref 0, .ref 51], [], mH S, 0, 0) (mm_is (.inl (some (.int r.1))) (mH r.2)) := by
  unfold F90 at h
  refine mm_ev.to (c := (0, [some (.ref 0), some (.ref 51), none], [], mH S, 0, 0)) rfl ?_
  refine mm_ev.go [true, true, true] (ps := []) (c1 := (3, [some (.ref 0), some (.ref 51), none], [.ref 0, .int (0 : Int32), .ref 51], mH S, 0, 0)) rfl trivial ?_
  obtain ⟨r1, h2, h⟩ := mb_b h
  have h4 := F12_ok (sc := sc) d h2
  by_cases h3 : r1.1 = 0
  · rw [if_pos h3] at h
    rw [if_pos h3] at h4
    refine mm_ev.call (q := mq90) (q2 := mq12) (b := (3, .invokevirtual 39, 3, 2, 6, 12, 1, 0, [588, 585, 586, 48, 587])) (as := [.ref 0]) (r := [.int (0 : Int32), .ref 51]) (v := (some (.int r1.2))) (h1 := mH S) rfl rfl rfl rfl ⟨Nat.le_of_ble_eq_true rfl, Nat.le_of_ble_eq_true rfl, Nat.le_of_ble_eq_true rfl⟩ h4 ?_
    refine mm_ev.to (c := (6, [some (.ref 0), some (.ref 51), none], [.int r1.2, .int (0 : Int32), .ref 51], mH S, 1, 6)) rfl ?_
    by_cases h5 : r1.2 = (0 : Int32)
    · rw [if_pos h5] at h
      refine mm_ev.go [true] (ps := [mm_cmp .eq r1.2 (0 : Int32)]) (c1 := (13, [some (.ref 0), some (.ref 51), none], [.int (0 : Int32), .ref 51], mH S, 1, 6)) rfl ⟨h5, trivial⟩ ?_
      obtain ⟨h6, h⟩ := mb_i h
      refine mm_ev.go [true, true, true, true] (ps := [mm_in (0 : Int32) 1]) (c1 := (22, [some (.ref 0), some (.ref 51), none], [.int (0 : Int32)], mH (S.1, S.2.1, (vp_updL S.2.2 (0 : Int32).toNatClampNeg (0 : Int64))), 1, 6)) rfl ⟨h6, trivial⟩ ?_
      cases h
      exact mm_ev.ret (q := mq90) (b := (22, .ireturn, 1, 3, 0, 0, 0, 0, [])) rfl rfl rfl ⟨Nat.le_of_ble_eq_true rfl, Nat.le_of_ble_eq_true rfl⟩ trivial ⟨rfl, rfl⟩
    · rw [if_neg h5] at h
      refine mm_ev.go [false] (ps := [¬ mm_cmp .eq r1.2 (0 : Int32)]) (c1 := (9, [some (.ref 0), some (.ref 51), none], [.int (0 : Int32), .ref 51], mH S, 1, 6)) rfl ⟨h5, trivial⟩ ?_
      obtain ⟨h7, h⟩ := mb_i h
      refine mm_ev.go [true, true, true, true, true] (ps := [mm_in (0 : Int32) 1]) (c1 := (22, [some (.ref 0), some (.ref 51), none], [.int (0 : Int32)], mH (S.1, S.2.1, (vp_updL S.2.2 (0 : Int32).toNatClampNeg (1 : Int64))), 1, 6)) rfl ⟨h7, trivial⟩ ?_
      cases h
      exact mm_ev.ret (q := mq90) (b := (22, .ireturn, 1, 3, 0, 0, 0, 0, [])) rfl rfl rfl ⟨Nat.le_of_ble_eq_true rfl, Nat.le_of_ble_eq_true rfl⟩ trivial ⟨rfl, rfl⟩
  · rw [if_neg h3] at h
    rw [if_neg h3] at h4
    by_cases h8 : r1.1 = 2
    · rw [if_pos h8] at h
      rw [h8] at h4
      refine mm_ev.callX (q := mq90) (q2 := mq12) (b := (3, .invokevirtual 39, 3, 2, 6, 12, 1, 0, [588, 585, 586, 48, 587])) (as := [.ref 0]) (r := [.int (0 : Int32), .ref 51]) (E := 1) (hp := 18) (i := 2) (pc2 := 19) (z := (mq90, (18, .astore_n 2, 1, 0, 2, 0, 0, 0, []))) (h1 := mH S) rfl rfl rfl rfl rfl ⟨Nat.le_of_ble_eq_true rfl, Nat.le_of_ble_eq_true rfl, Nat.le_of_ble_eq_true rfl⟩ h4 rfl rfl rfl ?_
      refine mm_ev.to (c := (19, [some (.ref 0), some (.ref 51), none], [], mH S, 1, 6)) rfl ?_
      refine mm_ev.go [true] (ps := []) (c1 := (20, [some (.ref 0), some (.ref 51), none], [.int (1 : Int32)], mH S, 1, 6)) rfl trivial ?_
      cases h
      exact mm_ev.ret (q := mq90) (b := (20, .ireturn, 1, 3, 0, 0, 0, 0, [])) rfl rfl rfl ⟨Nat.le_of_ble_eq_true rfl, Nat.le_of_ble_eq_true rfl⟩ trivial ⟨rfl, rfl⟩
    rw [if_neg h8] at h
    cases h
/-- SlabPatternsLaw.strip -/
def F92 (S : mSt) (a1 a2 : Int32) : Option (Int32 × mSt) := (F15 S a1 a2).bind fun r1 => if r1.1 = 0 then (if 0 ≤ (0 : Int32) ∧ (0 : Int32).toNatClampNeg < 1 then some (((0 : Int32), (S.1, S.2.1, (vp_updL S.2.2 (0 : Int32).toNatClampNeg r1.2.toInt64)))) else none) else (if r1.1 = 3 then (some (((1 : Int32), S))) else (if r1.1 = 2 then (some (((2 : Int32), S))) else (if r1.1 = 1 then (some (((3 : Int32), S))) else none)))
set_option maxRecDepth 100000 in
set_option maxHeartbeats 4000000 in
theorem F92_ok {sc : mS} (d : Nat) {S : mSt} {a1 a2 : Int32} {r : Int32 × mSt} (h : F92 S a1 a2 = some r) : mm_ev sc mmK mmP (d + 7) 92 (0, mm_en 5 [.ref 0, .int a1, .int a2, .ref 51], [], mH S, 0, 0) (mm_is (.inl (some (.int r.1))) (mH r.2)) := by
  unfold F92 at h
  refine mm_ev.to (c := (0, [some (.ref 0), some (.int a1), some (.int a2), some (.ref 51), none], [], mH S, 0, 0)) rfl ?_
  refine mm_ev.go [true, true, true, true, true] (ps := []) (c1 := (5, [some (.ref 0), some (.int a1), some (.int a2), some (.ref 51), none], [.int a2, .int a1, .ref 0, .int (0 : Int32), .ref 51], mH S, 0, 0)) rfl trivial ?_
  obtain ⟨r1, h2, h⟩ := mb_b h
  have h4 := F15_ok (sc := sc) d h2
  by_cases h3 : r1.1 = 0
  · rw [if_pos h3] at h
    rw [if_pos h3] at h4
    refine mm_ev.call (q := mq92) (q2 := mq15) (b := (5, .invokevirtual 49, 3, 2, 6, 15, 3, 0, [622, 619, 620, 48, 621])) (as := [.ref 0, .int a1, .int a2]) (r := [.int (0 : Int32), .ref 51]) (v := (some (.int r1.2))) (h1 := mH S) rfl rfl rfl rfl ⟨Nat.le_of_ble_eq_true rfl, Nat.le_of_ble_eq_true rfl, Nat.le_of_ble_eq_true rfl⟩ h4 ?_
    refine mm_ev.to (c := (8, [some (.ref 0), some (.int a1), some (.int a2), some (.ref 51), none], [.int r1.2, .int (0 : Int32), .ref 51], mH S, 2, 12)) rfl ?_
    obtain ⟨h5, h⟩ := mb_i h
    refine mm_ev.go [true, true, true, true] (ps := [mm_in (0 : Int32) 1]) (c1 := (26, [some (.ref 0), some (.int a1), some (.int a2), some (.ref 51), none], [.int (0 : Int32)], mH (S.1, S.2.1, (vp_updL S.2.2 (0 : Int32).toNatClampNeg r1.2.toInt64)), 2, 12)) rfl ⟨h5, trivial⟩ ?_
    cases h
    exact mm_ev.ret (q := mq92) (b := (26, .ireturn, 1, 3, 0, 0, 0, 0, [])) rfl rfl rfl ⟨Nat.le_of_ble_eq_true rfl, Nat.le_of_ble_eq_true rfl⟩ trivial ⟨rfl, rfl⟩
  · rw [if_neg h3] at h
    rw [if_neg h3] at h4
    by_cases h6 : r1.1 = 3
    · rw [if_pos h6] at h
      rw [h6] at h4
      refine mm_ev.callX (q := mq92) (q2 := mq15) (b := (5, .invokevirtual 49, 3, 2, 6, 15, 3, 0, [622, 619, 620, 48, 621])) (as := [.ref 0, .int a1, .int a2]) (r := [.int (0 : Int32), .ref 51]) (E := 2) (hp := 13) (i := 4) (pc2 := 15) (z := (mq92, (13, .astore 4, 2, 0, 2, 0, 0, 0, []))) (h1 := mH S) rfl rfl rfl rfl rfl ⟨Nat.le_of_ble_eq_true rfl, Nat.le_of_ble_eq_true rfl, Nat.le_of_ble_eq_true rfl⟩ h4 rfl rfl rfl ?_
      refine mm_ev.to (c := (15, [some (.ref 0), some (.int a1), some (.int a2), some (.ref 51), none], [], mH S, 2, 12)) rfl ?_
      refine mm_ev.go [true] (ps := []) (c1 := (16, [some (.ref 0), some (.int a1), some (.int a2), some (.ref 51), none], [.int (1 : Int32)], mH S, 2, 12)) rfl trivial ?_
      cases h
      exact mm_ev.ret (q := mq92) (b := (16, .ireturn, 1, 3, 0, 0, 0, 0, [])) rfl rfl rfl ⟨Nat.le_of_ble_eq_true rfl, Nat.le_of_ble_eq_true rfl⟩ trivial ⟨rfl, rfl⟩
    rw [if_neg h6] at h
    by_cases h7 : r1.1 = 2
    · rw [if_pos h7] at h
      rw [h7] at h4
      refine mm_ev.callX (q := mq92) (q2 := mq15) (b := (5, .invokevirtual 49, 3, 2, 6, 15, 3, 0, [622, 619, 620, 48, 621])) (as := [.ref 0, .int a1, .int a2]) (r := [.int (0 : Int32), .ref 51]) (E := 1) (hp := 17) (i := 4) (pc2 := 19) (z := (mq92, (17, .astore 4, 2, 0, 2, 0, 0, 0, []))) (h1 := mH S) rfl rfl rfl rfl rfl ⟨Nat.le_of_ble_eq_true rfl, Nat.le_of_ble_eq_true rfl, Nat.le_of_ble_eq_true rfl⟩ h4 rfl rfl rfl ?_
      refine mm_ev.to (c := (19, [some (.ref 0), some (.int a1), some (.int a2), some (.ref 51), none], [], mH S, 2, 12)) rfl ?_
      refine mm_ev.go [true] (ps := []) (c1 := (20, [some (.ref 0), some (.int a1), some (.int a2), some (.ref 51), none], [.int (2 : Int32)], mH S, 2, 12)) rfl trivial ?_
      cases h
      exact mm_ev.ret (q := mq92) (b := (20, .ireturn, 1, 3, 0, 0, 0, 0, [])) rfl rfl rfl ⟨Nat.le_of_ble_eq_true rfl, Nat.le_of_ble_eq_true rfl⟩ trivial ⟨rfl, rfl⟩
    rw [if_neg h7] at h
    by_cases h8 : r1.1 = 1
    · rw [if_pos h8] at h
      rw [h8] at h4
      refine mm_ev.callX (q := mq92) (q2 := mq15) (b := (5, .invokevirtual 49, 3, 2, 6, 15, 3, 0, [622, 619, 620, 48, 621])) (as := [.ref 0, .int a1, .int a2]) (r := [.int (0 : Int32), .ref 51]) (E := 0) (hp := 21) (i := 4) (pc2 := 23) (z := (mq92, (21, .astore 4, 2, 0, 2, 0, 0, 0, []))) (h1 := mH S) rfl rfl rfl rfl rfl ⟨Nat.le_of_ble_eq_true rfl, Nat.le_of_ble_eq_true rfl, Nat.le_of_ble_eq_true rfl⟩ h4 rfl rfl rfl ?_
      refine mm_ev.to (c := (23, [some (.ref 0), some (.int a1), some (.int a2), some (.ref 51), none], [], mH S, 2, 12)) rfl ?_
      refine mm_ev.go [true] (ps := []) (c1 := (24, [some (.ref 0), some (.int a1), some (.int a2), some (.ref 51), none], [.int (3 : Int32)], mH S, 2, 12)) rfl trivial ?_
      cases h
      exact mm_ev.ret (q := mq92) (b := (24, .ireturn, 1, 3, 0, 0, 0, 0, [])) rfl rfl rfl ⟨Nat.le_of_ble_eq_true rfl, Nat.le_of_ble_eq_true rfl⟩ trivial ⟨rfl, rfl⟩
    rw [if_neg h8] at h
    cases h
/-- SlabPatternsLaw.copies -/
def F93 (n : Nat) (S : mSt) (a1 : Int32) : Option (Int32 × mSt) := (F16 n S a1).bind fun r1 => if r1.1 = 0 then (if 0 ≤ (0 : Int32) ∧ (0 : Int32).toNatClampNeg < 1 then some (((0 : Int32), (S.1, S.2.1, (vp_updL S.2.2 (0 : Int32).toNatClampNeg r1.2.toInt64)))) else none) else (if r1.1 = 3 then (some (((1 : Int32), S))) else (if r1.1 = 2 then (some (((2 : Int32), S))) else none))
set_option maxRecDepth 100000 in
set_option maxHeartbeats 4000000 in
theorem F93_ok {sc : mS} (d : Nat) {n : Nat} {S : mSt} {a1 : Int32} {r : Int32 × mSt} (h : F93 n S a1 = some r) : mm_ev sc mmK mmP (d + 7) 93 (0, mm_en 4 [.ref 0, .int a1, .ref 51], [], mH S, 0, 0) (mm_is (.inl (some (.int r.1))) (mH r.2)) := by
  unfold F93 at h
  refine mm_ev.to (c := (0, [some (.ref 0), some (.int a1), some (.ref 51), none], [], mH S, 0, 0)) rfl ?_
  refine mm_ev.go [true, true, true, true] (ps := []) (c1 := (4, [some (.ref 0), some (.int a1), some (.ref 51), none], [.int a1, .ref 0, .int (0 : Int32), .ref 51], mH S, 0, 0)) rfl trivial ?_
  obtain ⟨r1, h2, h⟩ := mb_b h
  have h4 := F16_ok (sc := sc) d h2
  by_cases h3 : r1.1 = 0
  · rw [if_pos h3] at h
    rw [if_pos h3] at h4
    refine mm_ev.call (q := mq93) (q2 := mq16) (b := (4, .invokevirtual 52, 3, 2, 6, 16, 2, 0, [632, 629, 630, 48, 631])) (as := [.ref 0, .int a1]) (r := [.int (0 : Int32), .ref 51]) (v := (some (.int r1.2))) (h1 := mH S) rfl rfl rfl rfl ⟨Nat.le_of_ble_eq_true rfl, Nat.le_of_ble_eq_true rfl, Nat.le_of_ble_eq_true rfl⟩ h4 ?_
    refine mm_ev.to (c := (7, [some (.ref 0), some (.int a1), some (.ref 51), none], [.int r1.2, .int (0 : Int32), .ref 51], mH S, 1, 6)) rfl ?_
    obtain ⟨h5, h⟩ := mb_i h
    refine mm_ev.go [true, true, true, true] (ps := [mm_in (0 : Int32) 1]) (c1 := (19, [some (.ref 0), some (.int a1), some (.ref 51), none], [.int (0 : Int32)], mH (S.1, S.2.1, (vp_updL S.2.2 (0 : Int32).toNatClampNeg r1.2.toInt64)), 1, 6)) rfl ⟨h5, trivial⟩ ?_
    cases h
    exact mm_ev.ret (q := mq93) (b := (19, .ireturn, 1, 3, 0, 0, 0, 0, [])) rfl rfl rfl ⟨Nat.le_of_ble_eq_true rfl, Nat.le_of_ble_eq_true rfl⟩ trivial ⟨rfl, rfl⟩
  · rw [if_neg h3] at h
    rw [if_neg h3] at h4
    by_cases h6 : r1.1 = 3
    · rw [if_pos h6] at h
      rw [h6] at h4
      refine mm_ev.callX (q := mq93) (q2 := mq16) (b := (4, .invokevirtual 52, 3, 2, 6, 16, 2, 0, [632, 629, 630, 48, 631])) (as := [.ref 0, .int a1]) (r := [.int (0 : Int32), .ref 51]) (E := 2) (hp := 12) (i := 3) (pc2 := 13) (z := (mq93, (12, .astore_n 3, 1, 0, 2, 0, 0, 0, []))) (h1 := mH S) rfl rfl rfl rfl rfl ⟨Nat.le_of_ble_eq_true rfl, Nat.le_of_ble_eq_true rfl, Nat.le_of_ble_eq_true rfl⟩ h4 rfl rfl rfl ?_
      refine mm_ev.to (c := (13, [some (.ref 0), some (.int a1), some (.ref 51), none], [], mH S, 1, 6)) rfl ?_
      refine mm_ev.go [true] (ps := []) (c1 := (14, [some (.ref 0), some (.int a1), some (.ref 51), none], [.int (1 : Int32)], mH S, 1, 6)) rfl trivial ?_
      cases h
      exact mm_ev.ret (q := mq93) (b := (14, .ireturn, 1, 3, 0, 0, 0, 0, [])) rfl rfl rfl ⟨Nat.le_of_ble_eq_true rfl, Nat.le_of_ble_eq_true rfl⟩ trivial ⟨rfl, rfl⟩
    rw [if_neg h6] at h
    by_cases h7 : r1.1 = 2
    · rw [if_pos h7] at h
      rw [h7] at h4
      refine mm_ev.callX (q := mq93) (q2 := mq16) (b := (4, .invokevirtual 52, 3, 2, 6, 16, 2, 0, [632, 629, 630, 48, 631])) (as := [.ref 0, .int a1]) (r := [.int (0 : Int32), .ref 51]) (E := 1) (hp := 15) (i := 3) (pc2 := 16) (z := (mq93, (15, .astore_n 3, 1, 0, 2, 0, 0, 0, []))) (h1 := mH S) rfl rfl rfl rfl rfl ⟨Nat.le_of_ble_eq_true rfl, Nat.le_of_ble_eq_true rfl, Nat.le_of_ble_eq_true rfl⟩ h4 rfl rfl rfl ?_
      refine mm_ev.to (c := (16, [some (.ref 0), some (.int a1), some (.ref 51), none], [], mH S, 1, 6)) rfl ?_
      refine mm_ev.go [true] (ps := []) (c1 := (17, [some (.ref 0), some (.int a1), some (.ref 51), none], [.int (2 : Int32)], mH S, 1, 6)) rfl trivial ?_
      cases h
      exact mm_ev.ret (q := mq93) (b := (17, .ireturn, 1, 3, 0, 0, 0, 0, [])) rfl rfl rfl ⟨Nat.le_of_ble_eq_true rfl, Nat.le_of_ble_eq_true rfl⟩ trivial ⟨rfl, rfl⟩
    rw [if_neg h7] at h
    cases h
/-- SlabPatterns.restLength -/
def F18 (S : mSt) : Option (Int32) := if (S.1 15) ≤ (0 : Int32) then ((F25 S).bind fun r2 => (some (if (0 : Int32) < r2 - (S.1 7) then r2 - (S.1 7) else (0 : Int32)))) else ((F51 S ((S.1 15) - (1 : Int32))).bind fun r4 => ((F25 S).bind fun r6 => (some (if (0 : Int32) < r6 - (r4 + (S.1 4)) then r6 - (r4 + (S.1 4)) else (0 : Int32)))))
set_option maxRecDepth 100000 in
set_option maxHeartbeats 4000000 in
theorem F18_ok {sc : mS} (d : Nat) {S : mSt} {r : Int32} (h : F18 S = some r) : mm_ev sc mmK mmP (d + 2) 18 (0, mm_en 2 [.ref 0], [], mH S, 0, 0) (mm_is (.inl (some (.int r))) (mH S)) := by
  unfold F18 at h
  refine mm_ev.to (c := (0, [some (.ref 0), none], [], mH S, 0, 0)) rfl ?_
  by_cases h1 : (S.1 15) ≤ (0 : Int32)
  · rw [if_pos h1] at h
    refine mm_ev.go [true, true, true, true, true, true, true, true] (ps := [mm_cmp .le (S.1 15) (0 : Int32)]) (c1 := (43, [some (.ref 0), some (.int (S.1 7))], [], mH S, 0, 0)) rfl ⟨h1, trivial⟩ ?_
    refine mm_ev.go [true, true, true] (ps := []) (c1 := (48, [some (.ref 0), some (.int (S.1 7))], [.ref 1, .int (0 : Int32)], mH S, 0, 0)) rfl trivial ?_
    obtain ⟨r2, h3, h⟩ := mb_b h
    refine mm_ev.call (q := mq18) (q2 := mq25) (b := (48, .invokevirtual 197, 3, 2, 3, 25, 1, 1, [519, 649, 518, 49, 18])) (as := [.ref 1]) (r := [.int (0 : Int32)]) (v := (some (.int r2))) (h1 := mH S) rfl rfl rfl rfl ⟨Nat.le_of_ble_eq_true rfl, Nat.le_of_ble_eq_true rfl, Nat.le_of_ble_eq_true rfl⟩ (F25_ok (d + 1) h3) ?_
    refine mm_ev.to (c := (51, [some (.ref 0), some (.int (S.1 7))], [.int r2, .int (0 : Int32)], mH S, 0, 0)) rfl ?_
    refine mm_ev.go [true, true, true] (ps := [_, _]) (c1 := (56, [some (.ref 0), some (.int (S.1 7))], [.int (if (0 : Int32) < r2 - (S.1 7) then r2 - (S.1 7) else (0 : Int32))], mH S, 0, 0)) rfl ⟨(Nat.le_of_ble_eq_true rfl), (Nat.le_of_ble_eq_true rfl), trivial⟩ ?_
    cases h
    exact mm_ev.ret (q := mq18) (b := (56, .ireturn, 1, 3, 0, 0, 0, 0, [])) rfl rfl rfl ⟨Nat.le_of_ble_eq_true rfl, Nat.le_of_ble_eq_true rfl⟩ trivial ⟨rfl, rfl⟩
  · rw [if_neg h1] at h
    refine mm_ev.go [true, true, true, true, true, true, true, false] (ps := [¬ mm_cmp .le (S.1 15) (0 : Int32)]) (c1 := (18, [some (.ref 0), some (.int (S.1 7))], [], mH S, 0, 0)) rfl ⟨h1, trivial⟩ ?_
    refine mm_ev.go [true, true, true, true, true, true, true] (ps := []) (c1 := (31, [some (.ref 0), some (.int (S.1 7))], [.int ((S.1 15) - (1 : Int32)), .ref 28], mH S, 0, 0)) rfl trivial ?_
    obtain ⟨r4, h5, h⟩ := mb_b h
    refine mm_ev.call (q := mq18) (q2 := mq51) (b := (31, .invokevirtual 193, 3, 2, 3, 51, 2, 5, [567, 648, 566, 53, 29])) (as := [.ref 28, .int ((S.1 15) - (1 : Int32))]) (r := []) (v := (some (.int r4))) (h1 := mH S) rfl rfl rfl rfl ⟨Nat.le_of_ble_eq_true rfl, Nat.le_of_ble_eq_true rfl, Nat.le_of_ble_eq_true rfl⟩ (F51_ok d h5) ?_
    refine mm_ev.to (c := (34, [some (.ref 0), some (.int (S.1 7))], [.int r4], mH S, 0, 0)) rfl ?_
    refine mm_ev.go [true, true, true, true, true, true, true, true] (ps := []) (c1 := (48, [some (.ref 0), some (.int (r4 + (S.1 4)))], [.ref 1, .int (0 : Int32)], mH S, 0, 0)) rfl trivial ?_
    obtain ⟨r6, h7, h⟩ := mb_b h
    refine mm_ev.call (q := mq18) (q2 := mq25) (b := (48, .invokevirtual 197, 3, 2, 3, 25, 1, 1, [519, 649, 518, 49, 18])) (as := [.ref 1]) (r := [.int (0 : Int32)]) (v := (some (.int r6))) (h1 := mH S) rfl rfl rfl rfl ⟨Nat.le_of_ble_eq_true rfl, Nat.le_of_ble_eq_true rfl, Nat.le_of_ble_eq_true rfl⟩ (F25_ok (d + 1) h7) ?_
    refine mm_ev.to (c := (51, [some (.ref 0), some (.int (r4 + (S.1 4)))], [.int r6, .int (0 : Int32)], mH S, 0, 0)) rfl ?_
    refine mm_ev.go [true, true, true] (ps := [_, _]) (c1 := (56, [some (.ref 0), some (.int (r4 + (S.1 4)))], [.int (if (0 : Int32) < r6 - (r4 + (S.1 4)) then r6 - (r4 + (S.1 4)) else (0 : Int32))], mH S, 0, 0)) rfl ⟨(Nat.le_of_ble_eq_true rfl), (Nat.le_of_ble_eq_true rfl), trivial⟩ ?_
    cases h
    exact mm_ev.ret (q := mq18) (b := (56, .ireturn, 1, 3, 0, 0, 0, 0, [])) rfl rfl rfl ⟨Nat.le_of_ble_eq_true rfl, Nat.le_of_ble_eq_true rfl⟩ trivial ⟨rfl, rfl⟩
def I19_6 (n : Nat) (S : mSt) (v1 : Int32) : Option (Nat × Int32) := if (S.1 15) ≤ v1 then (some (1, 0)) else ((F56 n S v1).bind fun r6 => (if r6 = (0 : Int32) then (some (2, v1)) else (some (0, v1 + (1 : Int32)))))
set_option maxRecDepth 100000 in
set_option maxHeartbeats 4000000 in
theorem I19_6_ok {sc : mS} (d : Nat) {n : Nat} {S : mSt} {v1 : Int32} {r : Nat × Int32} (h : I19_6 n S v1 = some r) {Q : mR → List mE → Prop} (hc0 : r.1 = 0 → mm_ev sc mmK mmP (d + 6) 19 (6, [some (.ref 0), some (.int r.2)], [], mH S, 1, 6) Q) (hc1 : r.1 = 1 → ∀ u0 : Option Value, ∀ u1 : Option Value, mm_ev sc mmK mmP (d + 6) 19 (46, [u0, u1], [], mH S, 1, 6) Q) (hc2 : r.1 = 2 → ∀ u0 : Option Value, mm_ev sc mmK mmP (d + 6) 19 (36, [u0, some (.int r.2)], [], mH S, 1, 6) Q) : mm_ev sc mmK mmP (d + 6) 19 (6, [some (.ref 0), some (.int v1)], [], mH S, 1, 6) Q := by
  unfold I19_6 at h
  by_cases h5 : (S.1 15) ≤ v1
  · rw [if_pos h5] at h
    refine mm_ev.go [true, true, true, true, true] (ps := [mm_cmp .ge v1 (S.1 15)]) (c1 := (46, [some (.ref 0), some (.int v1)], [], mH S, 1, 6)) rfl ⟨h5, trivial⟩ ?_
    cases h
    exact hc1 rfl (some (.ref 0)) (some (.int v1))
  · rw [if_neg h5] at h
    refine mm_ev.go [true, true, true, true, false] (ps := [¬ mm_cmp .ge v1 (S.1 15)]) (c1 := (17, [some (.ref 0), some (.int v1)], [], mH S, 1, 6)) rfl ⟨h5, trivial⟩ ?_
    refine mm_ev.go [true, true, true, true, true, true, true] (ps := []) (c1 := (30, [some (.ref 0), some (.int v1)], [.ref 3, .ref 1, .int v1, .ref 28], mH S, 1, 6)) rfl trivial ?_
    obtain ⟨r6, h7, h⟩ := mb_b h
    refine mm_ev.call (q := mq19) (q2 := mq56) (b := (30, .invokevirtual 184, 3, 2, 3, 56, 4, 5, [661, 658, 660, 53, 36])) (as := [.ref 28, .int v1, .ref 1, .ref 3]) (r := []) (v := (some (.int r6))) (h1 := mH S) rfl rfl rfl rfl ⟨Nat.le_of_ble_eq_true rfl, Nat.le_of_ble_eq_true rfl, Nat.le_of_ble_eq_true rfl⟩ (F56_ok (d + 3) h7) ?_
    refine mm_ev.to (c := (33, [some (.ref 0), some (.int v1)], [.int r6], mH S, 1, 6)) rfl ?_
    by_cases h8 : r6 = (0 : Int32)
    · rw [if_pos h8] at h
      refine mm_ev.go [false] (ps := [¬ mm_cmp .ne r6 (0 : Int32)]) (c1 := (36, [some (.ref 0), some (.int v1)], [], mH S, 1, 6)) rfl ⟨(fun z => z h8), trivial⟩ ?_
      cases h
      exact hc2 rfl (some (.ref 0))
    · rw [if_neg h8] at h
      refine mm_ev.go [true] (ps := [mm_cmp .ne r6 (0 : Int32)]) (c1 := (40, [some (.ref 0), some (.int v1)], [], mH S, 1, 6)) rfl ⟨h8, trivial⟩ ?_
      refine mm_ev.go [true, true] (ps := []) (c1 := (6, [some (.ref 0), some (.int (v1 + (1 : Int32)))], [], mH S, 1, 6)) rfl trivial ?_
      cases h
      exact hc0 rfl
def L19_6 : Nat → mSt → Int32 → Option (Nat × Int32)
  | 0, _, _ => none
  | n + 1, S, v1 => (I19_6 n S v1).bind fun r => if r.1 = 0 then L19_6 n S r.2 else some r
set_option maxRecDepth 100000 in
set_option maxHeartbeats 4000000 in
theorem L19_6_ok {sc : mS} (d : Nat) {n : Nat} {S : mSt} {v1 : Int32} {r : Nat × Int32} (h : L19_6 n S v1 = some r) {Q : mR → List mE → Prop} (hc1 : r.1 = 1 → ∀ u0 : Option Value, ∀ u1 : Option Value, mm_ev sc mmK mmP (d + 6) 19 (46, [u0, u1], [], mH S, 1, 6) Q) (hc2 : r.1 = 2 → ∀ u0 : Option Value, mm_ev sc mmK mmP (d + 6) 19 (36, [u0, some (.int r.2)], [], mH S, 1, 6) Q) : mm_ev sc mmK mmP (d + 6) 19 (6, [some (.ref 0), some (.int v1)], [], mH S, 1, 6) Q := by
  induction n generalizing v1 with
  | zero => cases h
  | succ n ih =>
    unfold L19_6 at h
    obtain ⟨r1, h1, h⟩ := mb_b h
    by_cases h0 : r1.1 = 0
    · rw [if_pos h0] at h
      refine I19_6_ok d h1 (fun _ => ih h) (fun z => absurd z (by omega)) (fun z => absurd z (by omega))
    · rw [if_neg h0] at h
      cases h
      exact I19_6_ok d h1 (fun z => absurd z h0) hc1 hc2
/-- SlabPatterns.check -/
def F19 (n : Nat) (S : mSt) : Option (Nat × Int32) := (F13 S).bind fun r1 => if r1 = 0 then ((L19_6 n S (0 : Int32)).bind fun r9 => (if r9.1 = 1 then (some ((0, (0 : Int32)))) else (if r9.1 = 2 then (some ((0, (1 : Int32) + r9.2))) else none))) else (some ((r1, 0)))
set_option maxRecDepth 100000 in
set_option maxHeartbeats 4000000 in
theorem F19_ok {sc : mS} (d : Nat) {n : Nat} {S : mSt} {r : Nat × Int32} (h : F19 n S = some r) : mm_ev sc mmK mmP (d + 6) 19 (0, mm_en 2 [.ref 0], [], mH S, 0, 0) (mm_is (if r.1 = 0 then .inl (some (.int r.2)) else .inr (r.1 - 1)) (mH S)) := by
  unfold F19 at h
  refine mm_ev.to (c := (0, [some (.ref 0), none], [], mH S, 0, 0)) rfl ?_
  refine mm_ev.go [true] (ps := []) (c1 := (1, [some (.ref 0), none], [.ref 0], mH S, 0, 0)) rfl trivial ?_
  obtain ⟨r1, h2, h⟩ := mb_b h
  have h4 := F13_ok (sc := sc) d h2
  by_cases h3 : r1 = 0
  · rw [if_pos h3] at h
    rw [if_pos h3] at h4
    refine mm_ev.call (q := mq19) (q2 := mq13) (b := (1, .invokevirtual 151, 3, 2, 6, 13, 1, 0, [592, 589, 591, 48, 33])) (as := [.ref 0]) (r := []) (v := none) (h1 := mH S) rfl rfl rfl rfl ⟨Nat.le_of_ble_eq_true rfl, Nat.le_of_ble_eq_true rfl, Nat.le_of_ble_eq_true rfl⟩ h4 ?_
    refine mm_ev.to (c := (4, [some (.ref 0), none], [], mH S, 1, 6)) rfl ?_
    refine mm_ev.go [true, true] (ps := []) (c1 := (6, [some (.ref 0), some (.int (0 : Int32))], [], mH S, 1, 6)) rfl trivial ?_
    obtain ⟨r9, h10, h⟩ := mb_b h
    refine L19_6_ok d h10 ?_ ?_
    · intro h11 o1_0 o1_1
      rw [if_pos h11] at h
      refine mm_ev.go [true] (ps := []) (c1 := (47, [o1_0, o1_1], [.int (0 : Int32)], mH S, 1, 6)) rfl trivial ?_
      cases h
      exact mm_ev.ret (q := mq19) (b := (47, .ireturn, 1, 3, 0, 0, 0, 0, [])) rfl rfl rfl ⟨Nat.le_of_ble_eq_true rfl, Nat.le_of_ble_eq_true rfl⟩ trivial ⟨rfl, rfl⟩
    · intro h12 o2_0
      rw [if_neg (by rw [h12]; decide)] at h
      rw [if_pos h12] at h
      refine mm_ev.go [true, true, true] (ps := []) (c1 := (39, [o2_0, some (.int r9.2)], [.int ((1 : Int32) + r9.2)], mH S, 1, 6)) rfl trivial ?_
      cases h
      exact mm_ev.ret (q := mq19) (b := (39, .ireturn, 1, 3, 0, 0, 0, 0, [])) rfl rfl rfl ⟨Nat.le_of_ble_eq_true rfl, Nat.le_of_ble_eq_true rfl⟩ trivial ⟨rfl, rfl⟩
  · rw [if_neg h3] at h
    rw [if_neg h3] at h4
    cases h
    obtain ⟨z9, hz9⟩ : ∃ z, r1 = z + 1 := ⟨r1 - 1, by omega⟩
    exact mm_ev.callO (q := mq19) (q2 := mq13) (b := (1, .invokevirtual 151, 3, 2, 6, 13, 1, 0, [592, 589, 591, 48, 33])) (as := [.ref 0]) (r := []) rfl rfl rfl rfl rfl ⟨Nat.le_of_ble_eq_true rfl, Nat.le_of_ble_eq_true rfl, Nat.le_of_ble_eq_true rfl⟩ h4 rfl rfl ⟨by rw [if_neg h3], rfl⟩
def I39_14 (n : Nat) (S : mSt) (v4 v5 v6 : Int32) : Option (Nat × mSt × Int32 × Int32 × Int32) := if (((2 : Int32) * v4) + (1 : Int32)) < v6 then (some (1, S, 0, 0, 0)) else ((F41 n S).bind fun r4 => (if r4 = (-1 : Int32) then (if (0 : Int32) < (S.1 14) then ((F43 S).bind fun r8 => (some (0, r8, v4, v5, v6 + (1 : Int32)))) else (some (2, S, 0, 0, 0))) else (if (0 : Int32) < v5 then ((F45 S r4).bind fun r11 => ((F46 n r11).bind fun r13 => (some (0, r13, v4, v5 + (-1 : Int32), v6 + (1 : Int32))))) else (some (3, S, 0, 0, 0)))))
set_option maxRecDepth 100000 in
set_option maxHeartbeats 4000000 in
theorem I39_14_ok {sc : mS} (d : Nat) {n : Nat} {S : mSt} {v4 v5 v6 : Int32} {r : Nat × mSt × Int32 × Int32 × Int32} (h : I39_14 n S v4 v5 v6 = some r) (o7 : Option Value) {Q : mR → List mE → Prop} (hc0 : r.1 = 0 → ∀ u7 : Option Value, mm_ev sc mmK mmP (d + 3) 39 (14, [some (.ref 17), some (.ref 1), some (.ref 10), some (.ref 28), some (.int r.2.2.1), some (.int r.2.2.2.1), some (.int r.2.2.2.2), u7], [], mH r.2.1, 0, 0) Q) (hc1 : r.1 = 1 → ∀ u0 : Option Value, ∀ u1 : Option Value, ∀ u2 : Option Value, ∀ u3 : Option Value, ∀ u4 : Option Value, ∀ u5 : Option Value, ∀ u6 : Option Value, ∀ u7 : Option Value, mm_ev sc mmK mmP (d + 3) 39 (87, [u0, u1, u2, u3, u4, u5, u6, u7], [], mH r.2.1, 0, 0) Q) (hc2 : r.1 = 2 → ∀ u0 : Option Value, ∀ u1 : Option Value, ∀ u2 : Option Value, ∀ u3 : Option Value, ∀ u4 : Option Value, ∀ u5 : Option Value, ∀ u6 : Option Value, ∀ u7 : Option Value, mm_ev sc mmK mmP (d + 3) 39 (49, [u0, u1, u2, u3, u4, u5, u6, u7], [], mH r.2.1, 0, 0) Q) (hc3 : r.1 = 3 → ∀ u0 : Option Value, ∀ u1 : Option Value, ∀ u2 : Option Value, ∀ u3 : Option Value, ∀ u4 : Option Value, ∀ u5 : Option Value, ∀ u6 : Option Value, ∀ u7 : Option Value, mm_ev sc mmK mmP (d + 3) 39 (63, [u0, u1, u2, u3, u4, u5, u6, u7], [], mH r.2.1, 0, 0) Q) : mm_ev sc mmK mmP (d + 3) 39 (14, [some (.ref 17), some (.ref 1), some (.ref 10), some (.ref 28), some (.int v4), some (.int v5), some (.int v6), o7], [], mH S, 0, 0) Q := by
  unfold I39_14 at h
  by_cases h3 : (((2 : Int32) * v4) + (1 : Int32)) < v6
  · rw [if_pos h3] at h
    refine mm_ev.go [true, true, true, true, true, true, true] (ps := [mm_cmp .gt v6 (((2 : Int32) * v4) + (1 : Int32))]) (c1 := (87, [some (.ref 17), some (.ref 1), some (.ref 10), some (.ref 28), some (.int v4), some (.int v5), some (.int v6), o7], [], mH S, 0, 0)) rfl ⟨h3, trivial⟩ ?_
    cases h
    exact hc1 rfl (some (.ref 17)) (some (.ref 1)) (some (.ref 10)) (some (.ref 28)) (some (.int v4)) (some (.int v5)) (some (.int v6)) o7
  · rw [if_neg h3] at h
    refine mm_ev.go [true, true, true, true, true, true, false] (ps := [¬ mm_cmp .gt v6 (((2 : Int32) * v4) + (1 : Int32))]) (c1 := (25, [some (.ref 17), some (.ref 1), some (.ref 10), some (.ref 28), some (.int v4), some (.int v5), some (.int v6), o7], [], mH S, 0, 0)) rfl ⟨h3, trivial⟩ ?_
    refine mm_ev.go [true, true, true] (ps := []) (c1 := (28, [some (.ref 17), some (.ref 1), some (.ref 10), some (.ref 28), some (.int v4), some (.int v5), some (.int v6), o7], [.ref 10, .ref 1, .ref 17], mH S, 0, 0)) rfl trivial ?_
    obtain ⟨r4, h5, h⟩ := mb_b h
    refine mm_ev.call (q := mq39) (q2 := mq41) (b := (28, .invokevirtual 35, 3, 2, 2, 41, 3, 4, [509, 506, 508, 52, 16])) (as := [.ref 17, .ref 1, .ref 10]) (r := []) (v := (some (.int r4))) (h1 := mH S) rfl rfl rfl rfl ⟨Nat.le_of_ble_eq_true rfl, Nat.le_of_ble_eq_true rfl, Nat.le_of_ble_eq_true rfl⟩ (F41_ok d h5) ?_
    refine mm_ev.to (c := (31, [some (.ref 17), some (.ref 1), some (.ref 10), some (.ref 28), some (.int v4), some (.int v5), some (.int v6), o7], [.int r4], mH S, 0, 0)) rfl ?_
    by_cases h6 : r4 = (-1 : Int32)
    · rw [if_pos h6] at h
      refine mm_ev.go [true, true, true, false] (ps := [¬ mm_cmp .ne r4 (-1 : Int32)]) (c1 := (39, [some (.ref 17), some (.ref 1), some (.ref 10), some (.ref 28), some (.int v4), some (.int v5), some (.int v6), some (.int r4)], [], mH S, 0, 0)) rfl ⟨(fun z => z h6), trivial⟩ ?_
      by_cases h7 : (0 : Int32) < (S.1 14)
      · rw [if_pos h7] at h
        refine mm_ev.go [true, true, true, true] (ps := [mm_cmp .gt (S.1 14) (0 : Int32)]) (c1 := (51, [some (.ref 17), some (.ref 1), some (.ref 10), some (.ref 28), some (.int v4), some (.int v5), some (.int v6), some (.int r4)], [], mH S, 0, 0)) rfl ⟨h7, trivial⟩ ?_
        refine mm_ev.go [true] (ps := []) (c1 := (52, [some (.ref 17), some (.ref 1), some (.ref 10), some (.ref 28), some (.int v4), some (.int v5), some (.int v6), some (.int r4)], [.ref 17], mH S, 0, 0)) rfl trivial ?_
        obtain ⟨r8, h9, h⟩ := mb_b h
        refine mm_ev.call (q := mq39) (q2 := mq43) (b := (52, .invokevirtual 43, 3, 2, 2, 43, 1, 4, [527, 524, 526, 52, 20])) (as := [.ref 17]) (r := []) (v := none) (h1 := mH r8) rfl rfl rfl rfl ⟨Nat.le_of_ble_eq_true rfl, Nat.le_of_ble_eq_true rfl, Nat.le_of_ble_eq_true rfl⟩ (F43_ok d h9) ?_
        refine mm_ev.to (c := (55, [some (.ref 17), some (.ref 1), some (.ref 10), some (.ref 28), some (.int v4), some (.int v5), some (.int v6), some (.int r4)], [], mH r8, 0, 0)) rfl ?_
        refine mm_ev.go [true, true, true] (ps := []) (c1 := (14, [some (.ref 17), some (.ref 1), some (.ref 10), some (.ref 28), some (.int v4), some (.int v5), some (.int (v6 + (1 : Int32))), some (.int r4)], [], mH r8, 0, 0)) rfl trivial ?_
        cases h
        exact hc0 rfl (some (.int r4))
      · rw [if_neg h7] at h
        refine mm_ev.go [true, true, true, false] (ps := [¬ mm_cmp .gt (S.1 14) (0 : Int32)]) (c1 := (49, [some (.ref 17), some (.ref 1), some (.ref 10), some (.ref 28), some (.int v4), some (.int v5), some (.int v6), some (.int r4)], [], mH S, 0, 0)) rfl ⟨h7, trivial⟩ ?_
        cases h
        exact hc2 rfl (some (.ref 17)) (some (.ref 1)) (some (.ref 10)) (some (.ref 28)) (some (.int v4)) (some (.int v5)) (some (.int v6)) (some (.int r4))
    · rw [if_neg h6] at h
      refine mm_ev.go [true, true, true, true] (ps := [mm_cmp .ne r4 (-1 : Int32)]) (c1 := (58, [some (.ref 17), some (.ref 1), some (.ref 10), some (.ref 28), some (.int v4), some (.int v5), some (.int v6), some (.int r4)], [], mH S, 0, 0)) rfl ⟨h6, trivial⟩ ?_
      by_cases h10 : (0 : Int32) < v5
      · rw [if_pos h10] at h
        refine mm_ev.go [true, true] (ps := [mm_cmp .gt v5 (0 : Int32)]) (c1 := (65, [some (.ref 17), some (.ref 1), some (.ref 10), some (.ref 28), some (.int v4), some (.int v5), some (.int v6), some (.int r4)], [], mH S, 0, 0)) rfl ⟨h10, trivial⟩ ?_
        refine mm_ev.go [true, true, true, true, true] (ps := []) (c1 := (73, [some (.ref 17), some (.ref 1), some (.ref 10), some (.ref 28), some (.int v4), some (.int (v5 + (-1 : Int32))), some (.int v6), some (.int r4)], [.ref 10, .ref 1, .int r4, .ref 17], mH S, 0, 0)) rfl trivial ?_
        obtain ⟨r11, h12, h⟩ := mb_b h
        refine mm_ev.call (q := mq39) (q2 := mq45) (b := (73, .invokevirtual 46, 3, 2, 2, 45, 4, 4, [535, 532, 534, 52, 22])) (as := [.ref 17, .int r4, .ref 1, .ref 10]) (r := []) (v := none) (h1 := mH r11) rfl rfl rfl rfl ⟨Nat.le_of_ble_eq_true rfl, Nat.le_of_ble_eq_true rfl, Nat.le_of_ble_eq_true rfl⟩ (F45_ok d h12) ?_
        refine mm_ev.to (c := (76, [some (.ref 17), some (.ref 1), some (.ref 10), some (.ref 28), some (.int v4), some (.int (v5 + (-1 : Int32))), some (.int v6), some (.int r4)], [], mH r11, 0, 0)) rfl ?_
        refine mm_ev.go [true, true] (ps := []) (c1 := (78, [some (.ref 17), some (.ref 1), some (.ref 10), some (.ref 28), some (.int v4), some (.int (v5 + (-1 : Int32))), some (.int v6), some (.int r4)], [.ref 28, .ref 17], mH r11, 0, 0)) rfl trivial ?_
        obtain ⟨r13, h14, h⟩ := mb_b h
        refine mm_ev.call (q := mq39) (q2 := mq46) (b := (78, .invokevirtual 50, 3, 2, 2, 46, 2, 4, [544, 541, 543, 52, 24])) (as := [.ref 17, .ref 28]) (r := []) (v := none) (h1 := mH r13) rfl rfl rfl rfl ⟨Nat.le_of_ble_eq_true rfl, Nat.le_of_ble_eq_true rfl, Nat.le_of_ble_eq_true rfl⟩ (F46_ok (d + 1) h14) ?_
        refine mm_ev.to (c := (81, [some (.ref 17), some (.ref 1), some (.ref 10), some (.ref 28), some (.int v4), some (.int (v5 + (-1 : Int32))), some (.int v6), some (.int r4)], [], mH r13, 0, 0)) rfl ?_
        refine mm_ev.go [true, true] (ps := []) (c1 := (14, [some (.ref 17), some (.ref 1), some (.ref 10), some (.ref 28), some (.int v4), some (.int (v5 + (-1 : Int32))), some (.int (v6 + (1 : Int32))), some (.int r4)], [], mH r13, 0, 0)) rfl trivial ?_
        cases h
        exact hc0 rfl (some (.int r4))
      · rw [if_neg h10] at h
        refine mm_ev.go [true, false] (ps := [¬ mm_cmp .gt v5 (0 : Int32)]) (c1 := (63, [some (.ref 17), some (.ref 1), some (.ref 10), some (.ref 28), some (.int v4), some (.int v5), some (.int v6), some (.int r4)], [], mH S, 0, 0)) rfl ⟨h10, trivial⟩ ?_
        cases h
        exact hc3 rfl (some (.ref 17)) (some (.ref 1)) (some (.ref 10)) (some (.ref 28)) (some (.int v4)) (some (.int v5)) (some (.int v6)) (some (.int r4))
def L39_14 : Nat → mSt → Int32 → Int32 → Int32 → Option (Nat × mSt × Int32 × Int32 × Int32)
  | 0, _, _, _, _ => none
  | n + 1, S, v4, v5, v6 => (I39_14 n S v4 v5 v6).bind fun r => if r.1 = 0 then L39_14 n r.2.1 r.2.2.1 r.2.2.2.1 r.2.2.2.2 else some r
set_option maxRecDepth 100000 in
set_option maxHeartbeats 4000000 in
theorem L39_14_ok {sc : mS} (d : Nat) {n : Nat} {S : mSt} {v4 v5 v6 : Int32} {r : Nat × mSt × Int32 × Int32 × Int32} (h : L39_14 n S v4 v5 v6 = some r) (o7 : Option Value) {Q : mR → List mE → Prop} (hc1 : r.1 = 1 → ∀ u0 : Option Value, ∀ u1 : Option Value, ∀ u2 : Option Value, ∀ u3 : Option Value, ∀ u4 : Option Value, ∀ u5 : Option Value, ∀ u6 : Option Value, ∀ u7 : Option Value, mm_ev sc mmK mmP (d + 3) 39 (87, [u0, u1, u2, u3, u4, u5, u6, u7], [], mH r.2.1, 0, 0) Q) (hc2 : r.1 = 2 → ∀ u0 : Option Value, ∀ u1 : Option Value, ∀ u2 : Option Value, ∀ u3 : Option Value, ∀ u4 : Option Value, ∀ u5 : Option Value, ∀ u6 : Option Value, ∀ u7 : Option Value, mm_ev sc mmK mmP (d + 3) 39 (49, [u0, u1, u2, u3, u4, u5, u6, u7], [], mH r.2.1, 0, 0) Q) (hc3 : r.1 = 3 → ∀ u0 : Option Value, ∀ u1 : Option Value, ∀ u2 : Option Value, ∀ u3 : Option Value, ∀ u4 : Option Value, ∀ u5 : Option Value, ∀ u6 : Option Value, ∀ u7 : Option Value, mm_ev sc mmK mmP (d + 3) 39 (63, [u0, u1, u2, u3, u4, u5, u6, u7], [], mH r.2.1, 0, 0) Q) : mm_ev sc mmK mmP (d + 3) 39 (14, [some (.ref 17), some (.ref 1), some (.ref 10), some (.ref 28), some (.int v4), some (.int v5), some (.int v6), o7], [], mH S, 0, 0) Q := by
  induction n generalizing S v4 v5 v6 o7 with
  | zero => cases h
  | succ n ih =>
    unfold L39_14 at h
    obtain ⟨r1, h1, h⟩ := mb_b h
    by_cases h0 : r1.1 = 0
    · rw [if_pos h0] at h
      refine I39_14_ok d h1 o7 (fun _ z0 => ih h z0) (fun z => absurd z (by omega)) (fun z => absurd z (by omega)) (fun z => absurd z (by omega))
    · rw [if_neg h0] at h
      cases h
      exact I39_14_ok d h1 o7 (fun z => absurd z h0) hc1 hc2 hc3
/-- SlabPatterns$Search.explore -/
def F39 (n : Nat) (S : mSt) (a3 : Int32) : Option (Int32 × mSt) := (F40 n S).bind fun r1 => ((L39_14 n r1 a3 a3 (0 : Int32)).bind fun r15 => (if r15.1 = 1 then (some (((0 : Int32), r15.2.1))) else (if r15.1 = 2 then (some (((1 : Int32), r15.2.1))) else (if r15.1 = 3 then (some (((0 : Int32), r15.2.1))) else none))))
set_option maxRecDepth 100000 in
set_option maxHeartbeats 4000000 in
theorem F39_ok {sc : mS} (d : Nat) {n : Nat} {S : mSt} {a3 : Int32} {r : Int32 × mSt} (h : F39 n S a3 = some r) : mm_ev sc mmK mmP (d + 3) 39 (0, mm_en 8 [.ref 17, .ref 1, .ref 10, .ref 28, .int a3], [], mH S, 0, 0) (mm_is (.inl (some (.int r.1))) (mH r.2)) := by
  unfold F39 at h
  refine mm_ev.to (c := (0, [some (.ref 17), some (.ref 1), some (.ref 10), some (.ref 28), some (.int a3), none, none, none], [], mH S, 0, 0)) rfl ?_
  refine mm_ev.go [true, true, true, true] (ps := []) (c1 := (4, [some (.ref 17), some (.ref 1), some (.ref 10), some (.ref 28), some (.int a3), none, none, none], [.ref 28, .ref 10, .ref 1, .ref 17], mH S, 0, 0)) rfl trivial ?_
  obtain ⟨r1, h2, h⟩ := mb_b h
  refine mm_ev.call (q := mq39) (q2 := mq40) (b := (4, .invokevirtual 31, 3, 2, 2, 40, 4, 4, [505, 502, 504, 52, 15])) (as := [.ref 17, .ref 1, .ref 10, .ref 28]) (r := []) (v := none) (h1 := mH r1) rfl rfl rfl rfl ⟨Nat.le_of_ble_eq_true rfl, Nat.le_of_ble_eq_true rfl, Nat.le_of_ble_eq_true rfl⟩ (F40_ok (d + 2) h2) ?_
  refine mm_ev.to (c := (7, [some (.ref 17), some (.ref 1), some (.ref 10), some (.ref 28), some (.int a3), none, none, none], [], mH r1, 0, 0)) rfl ?_
  refine mm_ev.go [true, true, true, true] (ps := []) (c1 := (14, [some (.ref 17), some (.ref 1), some (.ref 10), some (.ref 28), some (.int a3), some (.int a3), some (.int (0 : Int32)), none], [], mH r1, 0, 0)) rfl trivial ?_
  obtain ⟨r15, h16, h⟩ := mb_b h
  refine L39_14_ok d h16 none ?_ ?_ ?_
  · intro h17 o1_0 o1_1 o1_2 o1_3 o1_4 o1_5 o1_6 o1_7
    rw [if_pos h17] at h
    refine mm_ev.go [true] (ps := []) (c1 := (88, [o1_0, o1_1, o1_2, o1_3, o1_4, o1_5, o1_6, o1_7], [.int (0 : Int32)], mH r15.2.1, 0, 0)) rfl trivial ?_
    cases h
    exact mm_ev.ret (q := mq39) (b := (88, .ireturn, 1, 3, 0, 0, 0, 0, [])) rfl rfl rfl ⟨Nat.le_of_ble_eq_true rfl, Nat.le_of_ble_eq_true rfl⟩ ⟨by first | exact Or.inl rfl | exact Or.inr rfl, trivial⟩ ⟨rfl, rfl⟩
  · intro h18 o2_0 o2_1 o2_2 o2_3 o2_4 o2_5 o2_6 o2_7
    rw [if_neg (by rw [h18]; decide)] at h
    rw [if_pos h18] at h
    refine mm_ev.go [true] (ps := []) (c1 := (50, [o2_0, o2_1, o2_2, o2_3, o2_4, o2_5, o2_6, o2_7], [.int (1 : Int32)], mH r15.2.1, 0, 0)) rfl trivial ?_
    cases h
    exact mm_ev.ret (q := mq39) (b := (50, .ireturn, 1, 3, 0, 0, 0, 0, [])) rfl rfl rfl ⟨Nat.le_of_ble_eq_true rfl, Nat.le_of_ble_eq_true rfl⟩ ⟨by first | exact Or.inl rfl | exact Or.inr rfl, trivial⟩ ⟨rfl, rfl⟩
  · intro h19 o3_0 o3_1 o3_2 o3_3 o3_4 o3_5 o3_6 o3_7
    rw [if_neg (by rw [h19]; decide)] at h
    rw [if_neg (by rw [h19]; decide)] at h
    rw [if_pos h19] at h
    refine mm_ev.go [true] (ps := []) (c1 := (64, [o3_0, o3_1, o3_2, o3_3, o3_4, o3_5, o3_6, o3_7], [.int (0 : Int32)], mH r15.2.1, 0, 0)) rfl trivial ?_
    cases h
    exact mm_ev.ret (q := mq39) (b := (64, .ireturn, 1, 3, 0, 0, 0, 0, [])) rfl rfl rfl ⟨Nat.le_of_ble_eq_true rfl, Nat.le_of_ble_eq_true rfl⟩ ⟨by first | exact Or.inl rfl | exact Or.inr rfl, trivial⟩ ⟨rfl, rfl⟩
def I50_25 (n : Nat) (S : mSt) (v1 v5 : Int32) : Option (Nat × Int32 × Int32) := if v5 ≤ (0 : Int32) then (some (1, 0, 0)) else ((F53 n S v1 v5).bind fun r6 => (if r6 = (0 : Int32) then (some (0, v1, v5 + (-1 : Int32))) else (some (2, 0, v5))))
set_option maxRecDepth 100000 in
set_option maxHeartbeats 4000000 in
theorem I50_25_ok {sc : mS} (d : Nat) {n : Nat} {S : mSt} {v1 v5 : Int32} {r : Nat × Int32 × Int32} (h : I50_25 n S v1 v5 = some r) (o2 : Option Value) (o4 : Option Value) {Q : mR → List mE → Prop} (hc0 : r.1 = 0 → ∀ u2 : Option Value, ∀ u4 : Option Value, mm_ev sc mmK mmP (d + 3) 50 (25, [some (.ref 28), some (.int r.2.1), u2, some (.ref 1), u4, some (.int r.2.2)], [], mH S, 0, 0) Q) (hc1 : r.1 = 1 → ∀ u0 : Option Value, ∀ u1 : Option Value, ∀ u2 : Option Value, ∀ u3 : Option Value, ∀ u4 : Option Value, ∀ u5 : Option Value, mm_ev sc mmK mmP (d + 3) 50 (50, [u0, u1, u2, u3, u4, u5], [], mH S, 0, 0) Q) (hc2 : r.1 = 2 → ∀ u0 : Option Value, ∀ u1 : Option Value, ∀ u2 : Option Value, ∀ u3 : Option Value, ∀ u4 : Option Value, mm_ev sc mmK mmP (d + 3) 50 (41, [u0, u1, u2, u3, u4, some (.int r.2.2)], [], mH S, 0, 0) Q) : mm_ev sc mmK mmP (d + 3) 50 (25, [some (.ref 28), some (.int v1), o2, some (.ref 1), o4, some (.int v5)], [], mH S, 0, 0) Q := by
  unfold I50_25 at h
  by_cases h5 : v5 ≤ (0 : Int32)
  · rw [if_pos h5] at h
    refine mm_ev.go [true, true] (ps := [mm_cmp .le v5 (0 : Int32)]) (c1 := (50, [some (.ref 28), some (.int v1), o2, some (.ref 1), o4, some (.int v5)], [], mH S, 0, 0)) rfl ⟨h5, trivial⟩ ?_
    cases h
    exact hc1 rfl (some (.ref 28)) (some (.int v1)) o2 (some (.ref 1)) o4 (some (.int v5))
  · rw [if_neg h5] at h
    refine mm_ev.go [true, false] (ps := [¬ mm_cmp .le v5 (0 : Int32)]) (c1 := (30, [some (.ref 28), some (.int v1), o2, some (.ref 1), o4, some (.int v5)], [], mH S, 0, 0)) rfl ⟨h5, trivial⟩ ?_
    refine mm_ev.go [true, true, true, true] (ps := []) (c1 := (35, [some (.ref 28), some (.int v1), o2, some (.ref 1), o4, some (.int v5)], [.ref 1, .int v5, .int v1, .ref 28], mH S, 0, 0)) rfl trivial ?_
    obtain ⟨r6, h7, h⟩ := mb_b h
    refine mm_ev.call (q := mq50) (q2 := mq53) (b := (35, .invokevirtual 87, 3, 2, 2, 53, 4, 5, [575, 572, 574, 53, 31])) (as := [.ref 28, .int v1, .int v5, .ref 1]) (r := []) (v := (some (.int r6))) (h1 := mH S) rfl rfl rfl rfl ⟨Nat.le_of_ble_eq_true rfl, Nat.le_of_ble_eq_true rfl, Nat.le_of_ble_eq_true rfl⟩ (F53_ok d h7) ?_
    refine mm_ev.to (c := (38, [some (.ref 28), some (.int v1), o2, some (.ref 1), o4, some (.int v5)], [.int r6], mH S, 0, 0)) rfl ?_
    by_cases h8 : r6 = (0 : Int32)
    · rw [if_pos h8] at h
      refine mm_ev.go [true] (ps := [mm_cmp .eq r6 (0 : Int32)]) (c1 := (44, [some (.ref 28), some (.int v1), o2, some (.ref 1), o4, some (.int v5)], [], mH S, 0, 0)) rfl ⟨h8, trivial⟩ ?_
      refine mm_ev.go [true, true] (ps := []) (c1 := (25, [some (.ref 28), some (.int v1), o2, some (.ref 1), o4, some (.int (v5 + (-1 : Int32)))], [], mH S, 0, 0)) rfl trivial ?_
      cases h
      exact hc0 rfl o2 o4
    · rw [if_neg h8] at h
      refine mm_ev.go [false] (ps := [¬ mm_cmp .eq r6 (0 : Int32)]) (c1 := (41, [some (.ref 28), some (.int v1), o2, some (.ref 1), o4, some (.int v5)], [], mH S, 0, 0)) rfl ⟨h8, trivial⟩ ?_
      cases h
      exact hc2 rfl (some (.ref 28)) (some (.int v1)) o2 (some (.ref 1)) o4
def L50_25 : Nat → mSt → Int32 → Int32 → Option (Nat × Int32 × Int32)
  | 0, _, _, _ => none
  | n + 1, S, v1, v5 => (I50_25 n S v1 v5).bind fun r => if r.1 = 0 then L50_25 n S r.2.1 r.2.2 else some r
set_option maxRecDepth 100000 in
set_option maxHeartbeats 4000000 in
theorem L50_25_ok {sc : mS} (d : Nat) {n : Nat} {S : mSt} {v1 v5 : Int32} {r : Nat × Int32 × Int32} (h : L50_25 n S v1 v5 = some r) (o2 : Option Value) (o4 : Option Value) {Q : mR → List mE → Prop} (hc1 : r.1 = 1 → ∀ u0 : Option Value, ∀ u1 : Option Value, ∀ u2 : Option Value, ∀ u3 : Option Value, ∀ u4 : Option Value, ∀ u5 : Option Value, mm_ev sc mmK mmP (d + 3) 50 (50, [u0, u1, u2, u3, u4, u5], [], mH S, 0, 0) Q) (hc2 : r.1 = 2 → ∀ u0 : Option Value, ∀ u1 : Option Value, ∀ u2 : Option Value, ∀ u3 : Option Value, ∀ u4 : Option Value, mm_ev sc mmK mmP (d + 3) 50 (41, [u0, u1, u2, u3, u4, some (.int r.2.2)], [], mH S, 0, 0) Q) : mm_ev sc mmK mmP (d + 3) 50 (25, [some (.ref 28), some (.int v1), o2, some (.ref 1), o4, some (.int v5)], [], mH S, 0, 0) Q := by
  induction n generalizing v1 v5 o2 o4 with
  | zero => cases h
  | succ n ih =>
    unfold L50_25 at h
    obtain ⟨r1, h1, h⟩ := mb_b h
    by_cases h0 : r1.1 = 0
    · rw [if_pos h0] at h
      refine I50_25_ok d h1 o2 o4 (fun _ z0 z1 => ih h z0 z1) (fun z => absurd z (by omega)) (fun z => absurd z (by omega))
    · rw [if_neg h0] at h
      cases h
      exact I50_25_ok d h1 o2 o4 (fun z => absurd z h0) hc1 hc2
/-- SlabPatterns$Strips.growthOf -/
def F50 (n : Nat) (S : mSt) (a0 a1 : Int32) : Option (Int32) := (F25 S).bind fun r1 => ((F51 S ((S.1 15) - (1 : Int32))).bind fun r3 => ((L50_25 n S a0 (if r1 - r3 < a1 then r1 - r3 else a1)).bind fun r9 => (if r9.1 = 1 then (some ((0 : Int32))) else (if r9.1 = 2 then (some r9.2.2) else none))))
set_option maxRecDepth 100000 in
set_option maxHeartbeats 4000000 in
theorem F50_ok {sc : mS} (d : Nat) {n : Nat} {S : mSt} {a0 a1 : Int32} {r : Int32} (h : F50 n S a0 a1 = some r) : mm_ev sc mmK mmP (d + 3) 50 (0, mm_en 6 [.ref 28, .int a0, .int a1, .ref 1], [], mH S, 0, 0) (mm_is (.inl (some (.int r))) (mH S)) := by
  unfold F50 at h
  refine mm_ev.to (c := (0, [some (.ref 28), some (.int a0), some (.int a1), some (.ref 1), none, none], [], mH S, 0, 0)) rfl ?_
  refine mm_ev.go [true] (ps := []) (c1 := (1, [some (.ref 28), some (.int a0), some (.int a1), some (.ref 1), none, none], [.ref 1], mH S, 0, 0)) rfl trivial ?_
  obtain ⟨r1, h2, h⟩ := mb_b h
  refine mm_ev.call (q := mq50) (q2 := mq25) (b := (1, .invokevirtual 54, 3, 2, 3, 25, 1, 1, [519, 563, 518, 49, 18])) (as := [.ref 1]) (r := []) (v := (some (.int r1))) (h1 := mH S) rfl rfl rfl rfl ⟨Nat.le_of_ble_eq_true rfl, Nat.le_of_ble_eq_true rfl, Nat.le_of_ble_eq_true rfl⟩ (F25_ok (d + 2) h2) ?_
  refine mm_ev.to (c := (4, [some (.ref 28), some (.int a0), some (.int a1), some (.ref 1), none, none], [.int r1], mH S, 0, 0)) rfl ?_
  refine mm_ev.go [true, true, true, true, true] (ps := []) (c1 := (11, [some (.ref 28), some (.int a0), some (.int a1), some (.ref 1), none, none], [.int ((S.1 15) - (1 : Int32)), .ref 28, .int r1], mH S, 0, 0)) rfl trivial ?_
  obtain ⟨r3, h4, h⟩ := mb_b h
  refine mm_ev.call (q := mq50) (q2 := mq51) (b := (11, .invokevirtual 50, 3, 2, 2, 51, 2, 5, [567, 564, 566, 53, 29])) (as := [.ref 28, .int ((S.1 15) - (1 : Int32))]) (r := [.int r1]) (v := (some (.int r3))) (h1 := mH S) rfl rfl rfl rfl ⟨Nat.le_of_ble_eq_true rfl, Nat.le_of_ble_eq_true rfl, Nat.le_of_ble_eq_true rfl⟩ (F51_ok (d + 1) h4) ?_
  refine mm_ev.to (c := (14, [some (.ref 28), some (.int a0), some (.int a1), some (.ref 1), none, none], [.int r3, .int r1], mH S, 0, 0)) rfl ?_
  refine mm_ev.go [true, true, true, true, true, true] (ps := [_, _]) (c1 := (25, [some (.ref 28), some (.int a0), some (.int a1), some (.ref 1), some (.int (r1 - r3)), some (.int (if r1 - r3 < a1 then r1 - r3 else a1))], [], mH S, 0, 0)) rfl ⟨(Nat.le_of_ble_eq_true rfl), (Nat.le_of_ble_eq_true rfl), trivial⟩ ?_
  obtain ⟨r9, h10, h⟩ := mb_b h
  refine L50_25_ok d h10 (some (.int a1)) (some (.int (r1 - r3))) ?_ ?_
  · intro h11 o1_0 o1_1 o1_2 o1_3 o1_4 o1_5
    rw [if_pos h11] at h
    refine mm_ev.go [true] (ps := []) (c1 := (51, [o1_0, o1_1, o1_2, o1_3, o1_4, o1_5], [.int (0 : Int32)], mH S, 0, 0)) rfl trivial ?_
    cases h
    exact mm_ev.ret (q := mq50) (b := (51, .ireturn, 1, 3, 0, 0, 0, 0, [])) rfl rfl rfl ⟨Nat.le_of_ble_eq_true rfl, Nat.le_of_ble_eq_true rfl⟩ trivial ⟨rfl, rfl⟩
  · intro h12 o2_0 o2_1 o2_2 o2_3 o2_4
    rw [if_neg (by rw [h12]; decide)] at h
    rw [if_pos h12] at h
    refine mm_ev.go [true] (ps := []) (c1 := (43, [o2_0, o2_1, o2_2, o2_3, o2_4, some (.int r9.2.2)], [.int r9.2.2], mH S, 0, 0)) rfl trivial ?_
    cases h
    exact mm_ev.ret (q := mq50) (b := (43, .ireturn, 1, 3, 0, 0, 0, 0, [])) rfl rfl rfl ⟨Nat.le_of_ble_eq_true rfl, Nat.le_of_ble_eq_true rfl⟩ trivial ⟨rfl, rfl⟩
