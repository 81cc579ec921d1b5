/-! methods as functions of the state (12) -/
/-- SlabPatternsLaw.run -/
def F89 (n : Nat) (S : mSt) (a1 : Int32) : Option (Int32 × mSt) := (F11 n S a1).bind fun r1 => if r1.1 = 0 then (if 0 ≤ (0 : Int32) ∧ (0 : Int32).toNatClampNeg < 1 then some (((0 : Int32), (r1.2.2.1, r1.2.2.2.1, (vp_updL r1.2.2.2.2 (0 : Int32).toNatClampNeg r1.2.1.toInt64)))) else none) else (if r1.1 = 1 then (some (((1 : Int32), r1.2.2))) else none)
set_option maxRecDepth 100000 in
set_option maxHeartbeats 4000000 in
theorem F89_ok {sc : mS} (d : Nat) {n : Nat} {S : mSt} {a1 : Int32} {r : Int32 × mSt} (h : F89 n S a1 = some r) : mm_ev sc mmK mmP (d + 6) 89 (0, mm_en 4 [.ref 0, .int a1, .ref 51], [], mH S, 0, 0) (mm_is (.inl (some (.int r.1))) (mH r.2)) := by
  unfold F89 at h
  refine mm_ev.to (c := (0, [some (.ref 0), some (.int a1), some (.ref 51), none], [], mH S, 0, 0)) rfl ?_
  refine mm_ev.go [true, true, true, true] (ps := []) (c1 := (4, [some (.ref 0), some (.int a1), some (.ref 51), none], [.int a1, .ref 0, .int (0 : Int32), .ref 51], mH S, 0, 0)) rfl trivial ?_
  obtain ⟨r1, h2, h⟩ := mb_b h
  have h4 := F11_ok (sc := sc) d h2
  by_cases h3 : r1.1 = 0
  · rw [if_pos h3] at h
    rw [if_pos h3] at h4
    refine mm_ev.call (q := mq89) (q2 := mq11) (b := (4, .invokevirtual 35, 3, 2, 6, 11, 2, 0, [466, 463, 464, 48, 465])) (as := [.ref 0, .int a1]) (r := [.int (0 : Int32), .ref 51]) (v := (some (.int r1.2.1))) (h1 := mH r1.2.2) rfl rfl rfl rfl ⟨Nat.le_of_ble_eq_true rfl, Nat.le_of_ble_eq_true rfl, Nat.le_of_ble_eq_true rfl⟩ h4 ?_
    refine mm_ev.to (c := (7, [some (.ref 0), some (.int a1), some (.ref 51), none], [.int r1.2.1, .int (0 : Int32), .ref 51], mH r1.2.2, 1, 6)) rfl ?_
    obtain ⟨h5, h⟩ := mb_i h
    refine mm_ev.go [true, true, true, true] (ps := [mm_in (0 : Int32) 1]) (c1 := (16, [some (.ref 0), some (.int a1), some (.ref 51), none], [.int (0 : Int32)], mH (r1.2.2.1, r1.2.2.2.1, (vp_updL r1.2.2.2.2 (0 : Int32).toNatClampNeg r1.2.1.toInt64)), 1, 6)) rfl ⟨h5, trivial⟩ ?_
    cases h
    exact mm_ev.ret (q := mq89) (b := (16, .ireturn, 1, 3, 0, 0, 0, 0, [])) rfl rfl rfl ⟨Nat.le_of_ble_eq_true rfl, Nat.le_of_ble_eq_true rfl⟩ trivial ⟨rfl, rfl⟩
  · rw [if_neg h3] at h
    rw [if_neg h3] at h4
    by_cases h6 : r1.1 = 1
    · rw [if_pos h6] at h
      rw [h6] at h4
      refine mm_ev.callX (q := mq89) (q2 := mq11) (b := (4, .invokevirtual 35, 3, 2, 6, 11, 2, 0, [466, 463, 464, 48, 465])) (as := [.ref 0, .int a1]) (r := [.int (0 : Int32), .ref 51]) (E := 0) (hp := 12) (i := 3) (pc2 := 13) (z := (mq89, (12, .astore_n 3, 1, 0, 2, 0, 0, 0, []))) (h1 := mH r1.2.2) rfl rfl rfl rfl rfl ⟨Nat.le_of_ble_eq_true rfl, Nat.le_of_ble_eq_true rfl, Nat.le_of_ble_eq_true rfl⟩ h4 rfl rfl rfl ?_
      refine mm_ev.to (c := (13, [some (.ref 0), some (.int a1), some (.ref 51), none], [], mH r1.2.2, 1, 6)) rfl ?_
      refine mm_ev.go [true] (ps := []) (c1 := (14, [some (.ref 0), some (.int a1), some (.ref 51), none], [.int (1 : Int32)], mH r1.2.2, 1, 6)) rfl trivial ?_
      cases h
      exact mm_ev.ret (q := mq89) (b := (14, .ireturn, 1, 3, 0, 0, 0, 0, [])) rfl rfl rfl ⟨Nat.le_of_ble_eq_true rfl, Nat.le_of_ble_eq_true rfl⟩ trivial ⟨rfl, rfl⟩
    rw [if_neg h6] at h
    cases h
