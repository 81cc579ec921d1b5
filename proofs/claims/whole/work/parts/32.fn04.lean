/-! methods as functions of the state (4) -/
def I80_23 (S : mSt) (v1 v2 v3 : Int32) : Option (Nat × mSt × Int32 × Int32 × Int32) := if (S.1 29) ≤ v3 then (some (1, S, 0, v2, 0)) else (if 0 ≤ v3 ∧ v3.toNatClampNeg < 202 then if ¬ (2 : Int32) = 0 then if ((S.2.1 47 v3.toNatClampNeg) / (2 : Int32)) = v1 then (some (0, S, v1, v2 + (S.2.1 50 v3.toNatClampNeg), v3 + (1 : Int32))) else (some (0, S, v1, v2, v3 + (1 : Int32))) else none else none)
set_option maxRecDepth 100000 in
set_option maxHeartbeats 4000000 in
theorem I80_23_ok {sc : mS} (d : Nat) {S : mSt} {v1 v2 v3 : Int32} {r : Nat × mSt × Int32 × Int32 × Int32} (h : I80_23 S v1 v2 v3 = some r) {Q : mR → List mE → Prop} (hc0 : r.1 = 0 → mm_ev sc mmK mmP (d + 2) 80 (23, [some (.ref 34), some (.int r.2.2.1), some (.int r.2.2.2.1), some (.int r.2.2.2.2)], [], mH r.2.1, 0, 0) Q) (hc1 : r.1 = 1 → ∀ u0 : Option Value, ∀ u1 : Option Value, ∀ u3 : Option Value, mm_ev sc mmK mmP (d + 2) 80 (58, [u0, u1, some (.int r.2.2.2.1), u3], [], mH r.2.1, 0, 0) Q) : mm_ev sc mmK mmP (d + 2) 80 (23, [some (.ref 34), some (.int v1), some (.int v2), some (.int v3)], [], mH S, 0, 0) Q := by
  unfold I80_23 at h
  by_cases h6 : (S.1 29) ≤ v3
  · rw [if_pos h6] at h
    refine mm_ev.go [true, true, true, true] (ps := [mm_cmp .ge v3 (S.1 29)]) (c1 := (58, [some (.ref 34), some (.int v1), some (.int v2), some (.int v3)], [], mH S, 0, 0)) rfl ⟨h6, trivial⟩ ?_
    cases h
    exact hc1 rfl (some (.ref 34)) (some (.int v1)) (some (.int v3))
  · rw [if_neg h6] at h
    refine mm_ev.go [true, true, true, false] (ps := [¬ mm_cmp .ge v3 (S.1 29)]) (c1 := (31, [some (.ref 34), some (.int v1), some (.int v2), some (.int v3)], [], mH S, 0, 0)) rfl ⟨h6, trivial⟩ ?_
    obtain ⟨h7, h⟩ := mb_i h
    obtain ⟨h8, h⟩ := mb_i h
    by_cases h9 : ((S.2.1 47 v3.toNatClampNeg) / (2 : Int32)) = v1
    · rw [if_pos h9] at h
      refine mm_ev.go [true, true, true, true, true, true, true, false] (ps := [mm_in v3 202, ¬ (2 : Int32) = 0, ¬ mm_cmp .ne ((S.2.1 47 v3.toNatClampNeg) / (2 : Int32)) v1]) (c1 := (43, [some (.ref 34), some (.int v1), some (.int v2), some (.int v3)], [], mH S, 0, 0)) rfl ⟨h7, h8, (fun z => z h9), trivial⟩ ?_
      refine mm_ev.go [true, true, true, true, true, true, true, true, true] (ps := [mm_in v3 202]) (c1 := (23, [some (.ref 34), some (.int v1), some (.int (v2 + (S.2.1 50 v3.toNatClampNeg))), some (.int (v3 + (1 : Int32)))], [], mH S, 0, 0)) rfl ⟨h7, trivial⟩ ?_
      cases h
      exact hc0 rfl
    · rw [if_neg h9] at h
      refine mm_ev.go [true, true, true, true, true, true, true, true] (ps := [mm_in v3 202, ¬ (2 : Int32) = 0, mm_cmp .ne ((S.2.1 47 v3.toNatClampNeg) / (2 : Int32)) v1]) (c1 := (52, [some (.ref 34), some (.int v1), some (.int v2), some (.int v3)], [], mH S, 0, 0)) rfl ⟨h7, h8, h9, trivial⟩ ?_
      refine mm_ev.go [true, true] (ps := []) (c1 := (23, [some (.ref 34), some (.int v1), some (.int v2), some (.int (v3 + (1 : Int32)))], [], mH S, 0, 0)) rfl trivial ?_
      cases h
      exact hc0 rfl
def L80_23 : Nat → mSt → Int32 → Int32 → Int32 → Option (Nat × mSt × Int32 × Int32 × Int32)
  | 0, _, _, _, _ => none
  | n + 1, S, v1, v2, v3 => (I80_23 S v1 v2 v3).bind fun r => if r.1 = 0 then L80_23 n r.2.1 r.2.2.1 r.2.2.2.1 r.2.2.2.2 else some r
set_option maxRecDepth 100000 in
set_option maxHeartbeats 4000000 in
theorem L80_23_ok {sc : mS} (d : Nat) {n : Nat} {S : mSt} {v1 v2 v3 : Int32} {r : Nat × mSt × Int32 × Int32 × Int32} (h : L80_23 n S v1 v2 v3 = some r) {Q : mR → List mE → Prop} (hc1 : r.1 = 1 → ∀ u0 : Option Value, ∀ u1 : Option Value, ∀ u3 : Option Value, mm_ev sc mmK mmP (d + 2) 80 (58, [u0, u1, some (.int r.2.2.2.1), u3], [], mH r.2.1, 0, 0) Q) : mm_ev sc mmK mmP (d + 2) 80 (23, [some (.ref 34), some (.int v1), some (.int v2), some (.int v3)], [], mH S, 0, 0) Q := by
  induction n generalizing S v1 v2 v3 with
  | zero => cases h
  | succ n ih =>
    unfold L80_23 at h
    obtain ⟨r1, h1, h⟩ := mb_b h
    by_cases h0 : r1.1 = 0
    · rw [if_pos h0] at h
      refine I80_23_ok d h1 (fun _ => ih h) (fun z => absurd z (by omega))
    · rw [if_neg h0] at h
      cases h
      exact I80_23_ok d h1 (fun z => absurd z h0) hc1
/-- SlabPatternsModel.copies -/
def F80 (n : Nat) (S : mSt) (a0 : Int32) : Option (Int32 × mSt) := (F65 S a0).bind fun r1 => ((F62 S r1 (S.1 27) (1 : Int32)).bind fun r3 => (if r3.1 = (0 : Int32) then (some (((0 : Int32), r3.2))) else ((L80_23 n r3.2 a0 (0 : Int32) (0 : Int32)).bind fun r10 => (some ((r10.2.2.2.1, r10.2.1))))))
set_option maxRecDepth 100000 in
set_option maxHeartbeats 4000000 in
theorem F80_ok {sc : mS} (d : Nat) {n : Nat} {S : mSt} {a0 : Int32} {r : Int32 × mSt} (h : F80 n S a0 = some r) : mm_ev sc mmK mmP (d + 2) 80 (0, mm_en 4 [.ref 34, .int a0], [], mH S, 0, 0) (mm_is (.inl (some (.int r.1))) (mH r.2)) := by
  unfold F80 at h
  refine mm_ev.to (c := (0, [some (.ref 34), some (.int a0), none, none], [], mH S, 0, 0)) rfl ?_
  refine mm_ev.go [true, true, true] (ps := []) (c1 := (3, [some (.ref 34), some (.int a0), none, none], [.int a0, .ref 34, .ref 34], mH S, 0, 0)) rfl trivial ?_
  obtain ⟨r1, h2, h⟩ := mb_b h
  refine mm_ev.call (q := mq80) (q2 := mq65) (b := (3, .invokevirtual 101, 3, 2, 2, 65, 2, 6, [793, 790, 792, 54, 38])) (as := [.ref 34, .int a0]) (r := [.ref 34]) (v := (some (.int r1))) (h1 := mH S) rfl rfl rfl rfl ⟨Nat.le_of_ble_eq_true rfl, Nat.le_of_ble_eq_true rfl, Nat.le_of_ble_eq_true rfl⟩ (F65_ok d h2) ?_
  refine mm_ev.to (c := (6, [some (.ref 34), some (.int a0), none, none], [.int r1, .ref 34], mH S, 0, 0)) rfl ?_
  refine mm_ev.go [true, true, true] (ps := []) (c1 := (11, [some (.ref 34), some (.int a0), none, none], [.int (1 : Int32), .int (S.1 27), .int r1, .ref 34], mH S, 0, 0)) rfl trivial ?_
  obtain ⟨r3, h4, h⟩ := mb_b h
  refine mm_ev.call (q := mq80) (q2 := mq62) (b := (11, .invokevirtual 86, 3, 2, 2, 62, 4, 6, [780, 777, 779, 54, 37])) (as := [.ref 34, .int r1, .int (S.1 27), .int (1 : Int32)]) (r := []) (v := (some (.int r3.1))) (h1 := mH r3.2) rfl rfl rfl rfl ⟨Nat.le_of_ble_eq_true rfl, Nat.le_of_ble_eq_true rfl, Nat.le_of_ble_eq_true rfl⟩ (F62_ok (d + 1) h4) ?_
  refine mm_ev.to (c := (14, [some (.ref 34), some (.int a0), none, none], [.int r3.1], mH r3.2, 0, 0)) rfl ?_
  by_cases h5 : r3.1 = (0 : Int32)
  · rw [if_pos h5] at h
    refine mm_ev.go [false] (ps := [¬ mm_cmp .ne r3.1 (0 : Int32)]) (c1 := (17, [some (.ref 34), some (.int a0), none, none], [], mH r3.2, 0, 0)) rfl ⟨(fun z => z h5), trivial⟩ ?_
    refine mm_ev.go [true] (ps := []) (c1 := (18, [some (.ref 34), some (.int a0), none, none], [.int (0 : Int32)], mH r3.2, 0, 0)) rfl trivial ?_
    cases h
    exact mm_ev.ret (q := mq80) (b := (18, .ireturn, 1, 3, 0, 0, 0, 0, [])) rfl rfl rfl ⟨Nat.le_of_ble_eq_true rfl, Nat.le_of_ble_eq_true rfl⟩ trivial ⟨rfl, rfl⟩
  · rw [if_neg h5] at h
    refine mm_ev.go [true] (ps := [mm_cmp .ne r3.1 (0 : Int32)]) (c1 := (19, [some (.ref 34), some (.int a0), none, none], [], mH r3.2, 0, 0)) rfl ⟨h5, trivial⟩ ?_
    refine mm_ev.go [true, true, true, true] (ps := []) (c1 := (23, [some (.ref 34), some (.int a0), some (.int (0 : Int32)), some (.int (0 : Int32))], [], mH r3.2, 0, 0)) rfl trivial ?_
    obtain ⟨r10, h11, h⟩ := mb_b h
    refine L80_23_ok d h11 ?_
    · intro h12 o1_0 o1_1 o1_3
      refine mm_ev.go [true] (ps := []) (c1 := (59, [o1_0, o1_1, some (.int r10.2.2.2.1), o1_3], [.int r10.2.2.2.1], mH r10.2.1, 0, 0)) rfl trivial ?_
      cases h
      exact mm_ev.ret (q := mq80) (b := (59, .ireturn, 1, 3, 0, 0, 0, 0, [])) rfl rfl rfl ⟨Nat.le_of_ble_eq_true rfl, Nat.le_of_ble_eq_true rfl⟩ trivial ⟨rfl, rfl⟩
/-- SlabPatternsModel.rest -/
def F81 (S : mSt) (a0 : Int32) : Option (Int32 × mSt) := (F61 S a0 (0 : Int32) (1 : Int32)).bind fun r1 => ((F62 S r1 (S.1 27) (1 : Int32)).bind fun r3 => (if r3.1 = (0 : Int32) then (some (((0 : Int32), r3.2))) else (if (r3.2.1 29) = (0 : Int32) then (if (0 : Int32) ≤ (((r3.2.1 17) - (r3.2.1 21)) - (r3.2.1 20)) then (if a0 = (0 : Int32) then (some ((((r3.2.1 17) - (r3.2.1 21)) - (r3.2.1 20), r3.2))) else (if (((r3.2.1 17) - (r3.2.1 21)) - (r3.2.1 20)) < (r3.2.1 24) then (some (((0 : Int32), r3.2))) else (some (((1 : Int32), r3.2))))) else (if a0 = (0 : Int32) then (some (((0 : Int32), r3.2))) else (if (0 : Int32) < (r3.2.1 24) then (some (((0 : Int32), r3.2))) else (some (((1 : Int32), r3.2)))))) else (if 0 ≤ ((r3.2.1 29) - (1 : Int32)) ∧ ((r3.2.1 29) - (1 : Int32)).toNatClampNeg < 202 then if (0 : Int32) ≤ (((r3.2.1 17) - (r3.2.1 21)) - (((r3.2.2.1 48 ((r3.2.1 29) - (1 : Int32)).toNatClampNeg) + (r3.2.2.1 49 ((r3.2.1 29) - (1 : Int32)).toNatClampNeg)) + (r3.2.1 19))) then (if a0 = (0 : Int32) then (some ((((r3.2.1 17) - (r3.2.1 21)) - (((r3.2.2.1 48 ((r3.2.1 29) - (1 : Int32)).toNatClampNeg) + (r3.2.2.1 49 ((r3.2.1 29) - (1 : Int32)).toNatClampNeg)) + (r3.2.1 19)), r3.2))) else (if (((r3.2.1 17) - (r3.2.1 21)) - (((r3.2.2.1 48 ((r3.2.1 29) - (1 : Int32)).toNatClampNeg) + (r3.2.2.1 49 ((r3.2.1 29) - (1 : Int32)).toNatClampNeg)) + (r3.2.1 19))) < (r3.2.1 24) then (some (((0 : Int32), r3.2))) else (some (((1 : Int32), r3.2))))) else (if a0 = (0 : Int32) then (some (((0 : Int32), r3.2))) else (if (0 : Int32) < (r3.2.1 24) then (some (((0 : Int32), r3.2))) else (some (((1 : Int32), r3.2))))) else none))))
set_option maxRecDepth 100000 in
set_option maxHeartbeats 4000000 in
theorem F81_ok {sc : mS} (d : Nat) {S : mSt} {a0 : Int32} {r : Int32 × mSt} (h : F81 S a0 = some r) : mm_ev sc mmK mmP (d + 1) 81 (0, mm_en 4 [.ref 34, .int a0], [], mH S, 0, 0) (mm_is (.inl (some (.int r.1))) (mH r.2)) := by
  unfold F81 at h
  refine mm_ev.to (c := (0, [some (.ref 34), some (.int a0), none, none], [], mH S, 0, 0)) rfl ?_
  refine mm_ev.go [true, true, true, true] (ps := []) (c1 := (4, [some (.ref 34), some (.int a0), none, none], [.int (1 : Int32), .int (0 : Int32), .int a0, .ref 34], mH S, 0, 0)) rfl trivial ?_
  obtain ⟨r1, h2, h⟩ := mb_b h
  refine mm_ev.call (q := mq81) (q2 := mq61) (b := (4, .invokestatic 78, 3, 2, 4, 61, 3, 0, [776, 774, 775, 54])) (as := [.int a0, .int (0 : Int32), .int (1 : Int32)]) (r := [.ref 34]) (v := (some (.int r1))) (h1 := mH S) rfl rfl rfl rfl ⟨Nat.le_of_ble_eq_true rfl, Nat.le_of_ble_eq_true rfl, Nat.le_of_ble_eq_true rfl⟩ (F61_ok d h2) ?_
  refine mm_ev.to (c := (7, [some (.ref 34), some (.int a0), none, none], [.int r1, .ref 34], mH S, 0, 0)) rfl ?_
  refine mm_ev.go [true, true, true] (ps := []) (c1 := (12, [some (.ref 34), some (.int a0), none, none], [.int (1 : Int32), .int (S.1 27), .int r1, .ref 34], mH S, 0, 0)) rfl trivial ?_
  obtain ⟨r3, h4, h⟩ := mb_b h
  refine mm_ev.call (q := mq81) (q2 := mq62) (b := (12, .invokevirtual 86, 3, 2, 2, 62, 4, 6, [780, 777, 779, 54, 37])) (as := [.ref 34, .int r1, .int (S.1 27), .int (1 : Int32)]) (r := []) (v := (some (.int r3.1))) (h1 := mH r3.2) rfl rfl rfl rfl ⟨Nat.le_of_ble_eq_true rfl, Nat.le_of_ble_eq_true rfl, Nat.le_of_ble_eq_true rfl⟩ (F62_ok d h4) ?_
  refine mm_ev.to (c := (15, [some (.ref 34), some (.int a0), none, none], [.int r3.1], mH r3.2, 0, 0)) rfl ?_
  by_cases h5 : r3.1 = (0 : Int32)
  · rw [if_pos h5] at h
    refine mm_ev.go [false] (ps := [¬ mm_cmp .ne r3.1 (0 : Int32)]) (c1 := (18, [some (.ref 34), some (.int a0), none, none], [], mH r3.2, 0, 0)) rfl ⟨(fun z => z h5), trivial⟩ ?_
    refine mm_ev.go [true] (ps := []) (c1 := (19, [some (.ref 34), some (.int a0), none, none], [.int (0 : Int32)], mH r3.2, 0, 0)) rfl trivial ?_
    cases h
    exact mm_ev.ret (q := mq81) (b := (19, .ireturn, 1, 3, 0, 0, 0, 0, [])) rfl rfl rfl ⟨Nat.le_of_ble_eq_true rfl, Nat.le_of_ble_eq_true rfl⟩ trivial ⟨rfl, rfl⟩
  · rw [if_neg h5] at h
    refine mm_ev.go [true] (ps := [mm_cmp .ne r3.1 (0 : Int32)]) (c1 := (20, [some (.ref 34), some (.int a0), none, none], [], mH r3.2, 0, 0)) rfl ⟨h5, trivial⟩ ?_
    by_cases h6 : (r3.2.1 29) = (0 : Int32)
    · rw [if_pos h6] at h
      refine mm_ev.go [true, true, false] (ps := [¬ mm_cmp .ne (r3.2.1 29) (0 : Int32)]) (c1 := (27, [some (.ref 34), some (.int a0), none, none], [], mH r3.2, 0, 0)) rfl ⟨(fun z => z h6), trivial⟩ ?_
      by_cases h7 : (0 : Int32) ≤ (((r3.2.1 17) - (r3.2.1 21)) - (r3.2.1 20))
      · rw [if_pos h7] at h
        refine mm_ev.go [true, true, true, true, true, true, true, true, true, true, true, true, true, true] (ps := [mm_cmp .ge (((r3.2.1 17) - (r3.2.1 21)) - (r3.2.1 20)) (0 : Int32)]) (c1 := (81, [some (.ref 34), some (.int a0), some (.int (r3.2.1 20)), some (.int (((r3.2.1 17) - (r3.2.1 21)) - (r3.2.1 20)))], [], mH r3.2, 0, 0)) rfl ⟨h7, trivial⟩ ?_
        by_cases h8 : a0 = (0 : Int32)
        · rw [if_pos h8] at h
          refine mm_ev.go [true, false] (ps := [¬ mm_cmp .ne a0 (0 : Int32)]) (c1 := (85, [some (.ref 34), some (.int a0), some (.int (r3.2.1 20)), some (.int (((r3.2.1 17) - (r3.2.1 21)) - (r3.2.1 20)))], [], mH r3.2, 0, 0)) rfl ⟨(fun z => z h8), trivial⟩ ?_
          refine mm_ev.go [true, true] (ps := []) (c1 := (102, [some (.ref 34), some (.int a0), some (.int (r3.2.1 20)), some (.int (((r3.2.1 17) - (r3.2.1 21)) - (r3.2.1 20)))], [.int (((r3.2.1 17) - (r3.2.1 21)) - (r3.2.1 20))], mH r3.2, 0, 0)) rfl trivial ?_
          cases h
          exact mm_ev.ret (q := mq81) (b := (102, .ireturn, 1, 3, 0, 0, 0, 0, [])) rfl rfl rfl ⟨Nat.le_of_ble_eq_true rfl, Nat.le_of_ble_eq_true rfl⟩ trivial ⟨rfl, rfl⟩
        · rw [if_neg h8] at h
          refine mm_ev.go [true, true] (ps := [mm_cmp .ne a0 (0 : Int32)]) (c1 := (89, [some (.ref 34), some (.int a0), some (.int (r3.2.1 20)), some (.int (((r3.2.1 17) - (r3.2.1 21)) - (r3.2.1 20)))], [], mH r3.2, 0, 0)) rfl ⟨h8, trivial⟩ ?_
          by_cases h9 : (((r3.2.1 17) - (r3.2.1 21)) - (r3.2.1 20)) < (r3.2.1 24)
          · rw [if_pos h9] at h
            refine mm_ev.go [true, true, true, true] (ps := [mm_cmp .lt (((r3.2.1 17) - (r3.2.1 21)) - (r3.2.1 20)) (r3.2.1 24)]) (c1 := (101, [some (.ref 34), some (.int a0), some (.int (r3.2.1 20)), some (.int (((r3.2.1 17) - (r3.2.1 21)) - (r3.2.1 20)))], [], mH r3.2, 0, 0)) rfl ⟨h9, trivial⟩ ?_
            refine mm_ev.go [true] (ps := []) (c1 := (102, [some (.ref 34), some (.int a0), some (.int (r3.2.1 20)), some (.int (((r3.2.1 17) - (r3.2.1 21)) - (r3.2.1 20)))], [.int (0 : Int32)], mH r3.2, 0, 0)) rfl trivial ?_
            cases h
            exact mm_ev.ret (q := mq81) (b := (102, .ireturn, 1, 3, 0, 0, 0, 0, [])) rfl rfl rfl ⟨Nat.le_of_ble_eq_true rfl, Nat.le_of_ble_eq_true rfl⟩ trivial ⟨rfl, rfl⟩
          · rw [if_neg h9] at h
            refine mm_ev.go [true, true, true, false] (ps := [¬ mm_cmp .lt (((r3.2.1 17) - (r3.2.1 21)) - (r3.2.1 20)) (r3.2.1 24)]) (c1 := (97, [some (.ref 34), some (.int a0), some (.int (r3.2.1 20)), some (.int (((r3.2.1 17) - (r3.2.1 21)) - (r3.2.1 20)))], [], mH r3.2, 0, 0)) rfl ⟨h9, trivial⟩ ?_
            refine mm_ev.go [true, true] (ps := []) (c1 := (102, [some (.ref 34), some (.int a0), some (.int (r3.2.1 20)), some (.int (((r3.2.1 17) - (r3.2.1 21)) - (r3.2.1 20)))], [.int (1 : Int32)], mH r3.2, 0, 0)) rfl trivial ?_
            cases h
            exact mm_ev.ret (q := mq81) (b := (102, .ireturn, 1, 3, 0, 0, 0, 0, [])) rfl rfl rfl ⟨Nat.le_of_ble_eq_true rfl, Nat.le_of_ble_eq_true rfl⟩ trivial ⟨rfl, rfl⟩
      · rw [if_neg h7] at h
        refine mm_ev.go [true, true, true, true, true, true, true, true, true, true, true, true, true, false] (ps := [¬ mm_cmp .ge (((r3.2.1 17) - (r3.2.1 21)) - (r3.2.1 20)) (0 : Int32)]) (c1 := (79, [some (.ref 34), some (.int a0), some (.int (r3.2.1 20)), some (.int (((r3.2.1 17) - (r3.2.1 21)) - (r3.2.1 20)))], [], mH r3.2, 0, 0)) rfl ⟨h7, trivial⟩ ?_
        by_cases h10 : a0 = (0 : Int32)
        · rw [if_pos h10] at h
          refine mm_ev.go [true, true, true, false] (ps := [¬ mm_cmp .ne a0 (0 : Int32)]) (c1 := (85, [some (.ref 34), some (.int a0), some (.int (r3.2.1 20)), some (.int (0 : Int32))], [], mH r3.2, 0, 0)) rfl ⟨(fun z => z h10), trivial⟩ ?_
          refine mm_ev.go [true, true] (ps := []) (c1 := (102, [some (.ref 34), some (.int a0), some (.int (r3.2.1 20)), some (.int (0 : Int32))], [.int (0 : Int32)], mH r3.2, 0, 0)) rfl trivial ?_
          cases h
          exact mm_ev.ret (q := mq81) (b := (102, .ireturn, 1, 3, 0, 0, 0, 0, [])) rfl rfl rfl ⟨Nat.le_of_ble_eq_true rfl, Nat.le_of_ble_eq_true rfl⟩ trivial ⟨rfl, rfl⟩
        · rw [if_neg h10] at h
          refine mm_ev.go [true, true, true, true] (ps := [mm_cmp .ne a0 (0 : Int32)]) (c1 := (89, [some (.ref 34), some (.int a0), some (.int (r3.2.1 20)), some (.int (0 : Int32))], [], mH r3.2, 0, 0)) rfl ⟨h10, trivial⟩ ?_
          by_cases h11 : (0 : Int32) < (r3.2.1 24)
          · rw [if_pos h11] at h
            refine mm_ev.go [true, true, true, true] (ps := [mm_cmp .lt (0 : Int32) (r3.2.1 24)]) (c1 := (101, [some (.ref 34), some (.int a0), some (.int (r3.2.1 20)), some (.int (0 : Int32))], [], mH r3.2, 0, 0)) rfl ⟨h11, trivial⟩ ?_
            refine mm_ev.go [true] (ps := []) (c1 := (102, [some (.ref 34), some (.int a0), some (.int (r3.2.1 20)), some (.int (0 : Int32))], [.int (0 : Int32)], mH r3.2, 0, 0)) rfl trivial ?_
            cases h
            exact mm_ev.ret (q := mq81) (b := (102, .ireturn, 1, 3, 0, 0, 0, 0, [])) rfl rfl rfl ⟨Nat.le_of_ble_eq_true rfl, Nat.le_of_ble_eq_true rfl⟩ trivial ⟨rfl, rfl⟩
          · rw [if_neg h11] at h
            refine mm_ev.go [true, true, true, false] (ps := [¬ mm_cmp .lt (0 : Int32) (r3.2.1 24)]) (c1 := (97, [some (.ref 34), some (.int a0), some (.int (r3.2.1 20)), some (.int (0 : Int32))], [], mH r3.2, 0, 0)) rfl ⟨h11, trivial⟩ ?_
            refine mm_ev.go [true, true] (ps := []) (c1 := (102, [some (.ref 34), some (.int a0), some (.int (r3.2.1 20)), some (.int (0 : Int32))], [.int (1 : Int32)], mH r3.2, 0, 0)) rfl trivial ?_
            cases h
            exact mm_ev.ret (q := mq81) (b := (102, .ireturn, 1, 3, 0, 0, 0, 0, [])) rfl rfl rfl ⟨Nat.le_of_ble_eq_true rfl, Nat.le_of_ble_eq_true rfl⟩ trivial ⟨rfl, rfl⟩
    · rw [if_neg h6] at h
      refine mm_ev.go [true, true, true] (ps := [mm_cmp .ne (r3.2.1 29) (0 : Int32)]) (c1 := (34, [some (.ref 34), some (.int a0), none, none], [], mH r3.2, 0, 0)) rfl ⟨h6, trivial⟩ ?_
      obtain ⟨h12, h⟩ := mb_i h
      by_cases h13 : (0 : Int32) ≤ (((r3.2.1 17) - (r3.2.1 21)) - (((r3.2.2.1 48 ((r3.2.1 29) - (1 : Int32)).toNatClampNeg) + (r3.2.2.1 49 ((r3.2.1 29) - (1 : Int32)).toNatClampNeg)) + (r3.2.1 19)))
      · rw [if_pos h13] at h
        refine mm_ev.go [true, true, true, true, true, true, true, true, true, true, true, true, true, true, true, true, true, true, true, true, true, true, true, true, true, true, true, true, true] (ps := [mm_in ((r3.2.1 29) - (1 : Int32)) 202, mm_in ((r3.2.1 29) - (1 : Int32)) 202, mm_cmp .ge (((r3.2.1 17) - (r3.2.1 21)) - (((r3.2.2.1 48 ((r3.2.1 29) - (1 : Int32)).toNatClampNeg) + (r3.2.2.1 49 ((r3.2.1 29) - (1 : Int32)).toNatClampNeg)) + (r3.2.1 19))) (0 : Int32)]) (c1 := (81, [some (.ref 34), some (.int a0), some (.int (((r3.2.2.1 48 ((r3.2.1 29) - (1 : Int32)).toNatClampNeg) + (r3.2.2.1 49 ((r3.2.1 29) - (1 : Int32)).toNatClampNeg)) + (r3.2.1 19))), some (.int (((r3.2.1 17) - (r3.2.1 21)) - (((r3.2.2.1 48 ((r3.2.1 29) - (1 : Int32)).toNatClampNeg) + (r3.2.2.1 49 ((r3.2.1 29) - (1 : Int32)).toNatClampNeg)) + (r3.2.1 19))))], [], mH r3.2, 0, 0)) rfl ⟨h12, h12, h13, trivial⟩ ?_
        by_cases h14 : a0 = (0 : Int32)
        · rw [if_pos h14] at h
          refine mm_ev.go [true, false] (ps := [¬ mm_cmp .ne a0 (0 : Int32)]) (c1 := (85, [some (.ref 34), some (.int a0), some (.int (((r3.2.2.1 48 ((r3.2.1 29) - (1 : Int32)).toNatClampNeg) + (r3.2.2.1 49 ((r3.2.1 29) - (1 : Int32)).toNatClampNeg)) + (r3.2.1 19))), some (.int (((r3.2.1 17) - (r3.2.1 21)) - (((r3.2.2.1 48 ((r3.2.1 29) - (1 : Int32)).toNatClampNeg) + (r3.2.2.1 49 ((r3.2.1 29) - (1 : Int32)).toNatClampNeg)) + (r3.2.1 19))))], [], mH r3.2, 0, 0)) rfl ⟨(fun z => z h14), trivial⟩ ?_
          refine mm_ev.go [true, true] (ps := []) (c1 := (102, [some (.ref 34), some (.int a0), some (.int (((r3.2.2.1 48 ((r3.2.1 29) - (1 : Int32)).toNatClampNeg) + (r3.2.2.1 49 ((r3.2.1 29) - (1 : Int32)).toNatClampNeg)) + (r3.2.1 19))), some (.int (((r3.2.1 17) - (r3.2.1 21)) - (((r3.2.2.1 48 ((r3.2.1 29) - (1 : Int32)).toNatClampNeg) + (r3.2.2.1 49 ((r3.2.1 29) - (1 : Int32)).toNatClampNeg)) + (r3.2.1 19))))], [.int (((r3.2.1 17) - (r3.2.1 21)) - (((r3.2.2.1 48 ((r3.2.1 29) - (1 : Int32)).toNatClampNeg) + (r3.2.2.1 49 ((r3.2.1 29) - (1 : Int32)).toNatClampNeg)) + (r3.2.1 19)))], mH r3.2, 0, 0)) rfl trivial ?_
          cases h
          exact mm_ev.ret (q := mq81) (b := (102, .ireturn, 1, 3, 0, 0, 0, 0, [])) rfl rfl rfl ⟨Nat.le_of_ble_eq_true rfl, Nat.le_of_ble_eq_true rfl⟩ trivial ⟨rfl, rfl⟩
        · rw [if_neg h14] at h
          refine mm_ev.go [true, true] (ps := [mm_cmp .ne a0 (0 : Int32)]) (c1 := (89, [some (.ref 34), some (.int a0), some (.int (((r3.2.2.1 48 ((r3.2.1 29) - (1 : Int32)).toNatClampNeg) + (r3.2.2.1 49 ((r3.2.1 29) - (1 : Int32)).toNatClampNeg)) + (r3.2.1 19))), some (.int (((r3.2.1 17) - (r3.2.1 21)) - (((r3.2.2.1 48 ((r3.2.1 29) - (1 : Int32)).toNatClampNeg) + (r3.2.2.1 49 ((r3.2.1 29) - (1 : Int32)).toNatClampNeg)) + (r3.2.1 19))))], [], mH r3.2, 0, 0)) rfl ⟨h14, trivial⟩ ?_
          by_cases h15 : (((r3.2.1 17) - (r3.2.1 21)) - (((r3.2.2.1 48 ((r3.2.1 29) - (1 : Int32)).toNatClampNeg) + (r3.2.2.1 49 ((r3.2.1 29) - (1 : Int32)).toNatClampNeg)) + (r3.2.1 19))) < (r3.2.1 24)
          · rw [if_pos h15] at h
            refine mm_ev.go [true, true, true, true] (ps := [mm_cmp .lt (((r3.2.1 17) - (r3.2.1 21)) - (((r3.2.2.1 48 ((r3.2.1 29) - (1 : Int32)).toNatClampNeg) + (r3.2.2.1 49 ((r3.2.1 29) - (1 : Int32)).toNatClampNeg)) + (r3.2.1 19))) (r3.2.1 24)]) (c1 := (101, [some (.ref 34), some (.int a0), some (.int (((r3.2.2.1 48 ((r3.2.1 29) - (1 : Int32)).toNatClampNeg) + (r3.2.2.1 49 ((r3.2.1 29) - (1 : Int32)).toNatClampNeg)) + (r3.2.1 19))), some (.int (((r3.2.1 17) - (r3.2.1 21)) - (((r3.2.2.1 48 ((r3.2.1 29) - (1 : Int32)).toNatClampNeg) + (r3.2.2.1 49 ((r3.2.1 29) - (1 : Int32)).toNatClampNeg)) + (r3.2.1 19))))], [], mH r3.2, 0, 0)) rfl ⟨h15, trivial⟩ ?_
            refine mm_ev.go [true] (ps := []) (c1 := (102, [some (.ref 34), some (.int a0), some (.int (((r3.2.2.1 48 ((r3.2.1 29) - (1 : Int32)).toNatClampNeg) + (r3.2.2.1 49 ((r3.2.1 29) - (1 : Int32)).toNatClampNeg)) + (r3.2.1 19))), some (.int (((r3.2.1 17) - (r3.2.1 21)) - (((r3.2.2.1 48 ((r3.2.1 29) - (1 : Int32)).toNatClampNeg) + (r3.2.2.1 49 ((r3.2.1 29) - (1 : Int32)).toNatClampNeg)) + (r3.2.1 19))))], [.int (0 : Int32)], mH r3.2, 0, 0)) rfl trivial ?_
            cases h
            exact mm_ev.ret (q := mq81) (b := (102, .ireturn, 1, 3, 0, 0, 0, 0, [])) rfl rfl rfl ⟨Nat.le_of_ble_eq_true rfl, Nat.le_of_ble_eq_true rfl⟩ trivial ⟨rfl, rfl⟩
          · rw [if_neg h15] at h
            refine mm_ev.go [true, true, true, false] (ps := [¬ mm_cmp .lt (((r3.2.1 17) - (r3.2.1 21)) - (((r3.2.2.1 48 ((r3.2.1 29) - (1 : Int32)).toNatClampNeg) + (r3.2.2.1 49 ((r3.2.1 29) - (1 : Int32)).toNatClampNeg)) + (r3.2.1 19))) (r3.2.1 24)]) (c1 := (97, [some (.ref 34), some (.int a0), some (.int (((r3.2.2.1 48 ((r3.2.1 29) - (1 : Int32)).toNatClampNeg) + (r3.2.2.1 49 ((r3.2.1 29) - (1 : Int32)).toNatClampNeg)) + (r3.2.1 19))), some (.int (((r3.2.1 17) - (r3.2.1 21)) - (((r3.2.2.1 48 ((r3.2.1 29) - (1 : Int32)).toNatClampNeg) + (r3.2.2.1 49 ((r3.2.1 29) - (1 : Int32)).toNatClampNeg)) + (r3.2.1 19))))], [], mH r3.2, 0, 0)) rfl ⟨h15, trivial⟩ ?_
            refine mm_ev.go [true, true] (ps := []) (c1 := (102, [some (.ref 34), some (.int a0), some (.int (((r3.2.2.1 48 ((r3.2.1 29) - (1 : Int32)).toNatClampNeg) + (r3.2.2.1 49 ((r3.2.1 29) - (1 : Int32)).toNatClampNeg)) + (r3.2.1 19))), some (.int (((r3.2.1 17) - (r3.2.1 21)) - (((r3.2.2.1 48 ((r3.2.1 29) - (1 : Int32)).toNatClampNeg) + (r3.2.2.1 49 ((r3.2.1 29) - (1 : Int32)).toNatClampNeg)) + (r3.2.1 19))))], [.int (1 : Int32)], mH r3.2, 0, 0)) rfl trivial ?_
            cases h
            exact mm_ev.ret (q := mq81) (b := (102, .ireturn, 1, 3, 0, 0, 0, 0, [])) rfl rfl rfl ⟨Nat.le_of_ble_eq_true rfl, Nat.le_of_ble_eq_true rfl⟩ trivial ⟨rfl, rfl⟩
      · rw [if_neg h13] at h
        refine mm_ev.go [true, true, true, true, true, true, true, true, true, true, true, true, true, true, true, true, true, true, true, true, true, true, true, true, true, true, true, true, false] (ps := [mm_in ((r3.2.1 29) - (1 : Int32)) 202, mm_in ((r3.2.1 29) - (1 : Int32)) 202, ¬ mm_cmp .ge (((r3.2.1 17) - (r3.2.1 21)) - (((r3.2.2.1 48 ((r3.2.1 29) - (1 : Int32)).toNatClampNeg) + (r3.2.2.1 49 ((r3.2.1 29) - (1 : Int32)).toNatClampNeg)) + (r3.2.1 19))) (0 : Int32)]) (c1 := (79, [some (.ref 34), some (.int a0), some (.int (((r3.2.2.1 48 ((r3.2.1 29) - (1 : Int32)).toNatClampNeg) + (r3.2.2.1 49 ((r3.2.1 29) - (1 : Int32)).toNatClampNeg)) + (r3.2.1 19))), some (.int (((r3.2.1 17) - (r3.2.1 21)) - (((r3.2.2.1 48 ((r3.2.1 29) - (1 : Int32)).toNatClampNeg) + (r3.2.2.1 49 ((r3.2.1 29) - (1 : Int32)).toNatClampNeg)) + (r3.2.1 19))))], [], mH r3.2, 0, 0)) rfl ⟨h12, h12, h13, trivial⟩ ?_
        by_cases h16 : a0 = (0 : Int32)
        · rw [if_pos h16] at h
          refine mm_ev.go [true, true, true, false] (ps := [¬ mm_cmp .ne a0 (0 : Int32)]) (c1 := (85, [some (.ref 34), some (.int a0), some (.int (((r3.2.2.1 48 ((r3.2.1 29) - (1 : Int32)).toNatClampNeg) + (r3.2.2.1 49 ((r3.2.1 29) - (1 : Int32)).toNatClampNeg)) + (r3.2.1 19))), some (.int (0 : Int32))], [], mH r3.2, 0, 0)) rfl ⟨(fun z => z h16), trivial⟩ ?_
          refine mm_ev.go [true, true] (ps := []) (c1 := (102, [some (.ref 34), some (.int a0), some (.int (((r3.2.2.1 48 ((r3.2.1 29) - (1 : Int32)).toNatClampNeg) + (r3.2.2.1 49 ((r3.2.1 29) - (1 : Int32)).toNatClampNeg)) + (r3.2.1 19))), some (.int (0 : Int32))], [.int (0 : Int32)], mH r3.2, 0, 0)) rfl trivial ?_
          cases h
          exact mm_ev.ret (q := mq81) (b := (102, .ireturn, 1, 3, 0, 0, 0, 0, [])) rfl rfl rfl ⟨Nat.le_of_ble_eq_true rfl, Nat.le_of_ble_eq_true rfl⟩ trivial ⟨rfl, rfl⟩
        · rw [if_neg h16] at h
          refine mm_ev.go [true, true, true, true] (ps := [mm_cmp .ne a0 (0 : Int32)]) (c1 := (89, [some (.ref 34), some (.int a0), some (.int (((r3.2.2.1 48 ((r3.2.1 29) - (1 : Int32)).toNatClampNeg) + (r3.2.2.1 49 ((r3.2.1 29) - (1 : Int32)).toNatClampNeg)) + (r3.2.1 19))), some (.int (0 : Int32))], [], mH r3.2, 0, 0)) rfl ⟨h16, trivial⟩ ?_
          by_cases h17 : (0 : Int32) < (r3.2.1 24)
          · rw [if_pos h17] at h
            refine mm_ev.go [true, true, true, true] (ps := [mm_cmp .lt (0 : Int32) (r3.2.1 24)]) (c1 := (101, [some (.ref 34), some (.int a0), some (.int (((r3.2.2.1 48 ((r3.2.1 29) - (1 : Int32)).toNatClampNeg) + (r3.2.2.1 49 ((r3.2.1 29) - (1 : Int32)).toNatClampNeg)) + (r3.2.1 19))), some (.int (0 : Int32))], [], mH r3.2, 0, 0)) rfl ⟨h17, trivial⟩ ?_
            refine mm_ev.go [true] (ps := []) (c1 := (102, [some (.ref 34), some (.int a0), some (.int (((r3.2.2.1 48 ((r3.2.1 29) - (1 : Int32)).toNatClampNeg) + (r3.2.2.1 49 ((r3.2.1 29) - (1 : Int32)).toNatClampNeg)) + (r3.2.1 19))), some (.int (0 : Int32))], [.int (0 : Int32)], mH r3.2, 0, 0)) rfl trivial ?_
            cases h
            exact mm_ev.ret (q := mq81) (b := (102, .ireturn, 1, 3, 0, 0, 0, 0, [])) rfl rfl rfl ⟨Nat.le_of_ble_eq_true rfl, Nat.le_of_ble_eq_true rfl⟩ trivial ⟨rfl, rfl⟩
          · rw [if_neg h17] at h
            refine mm_ev.go [true, true, true, false] (ps := [¬ mm_cmp .lt (0 : Int32) (r3.2.1 24)]) (c1 := (97, [some (.ref 34), some (.int a0), some (.int (((r3.2.2.1 48 ((r3.2.1 29) - (1 : Int32)).toNatClampNeg) + (r3.2.2.1 49 ((r3.2.1 29) - (1 : Int32)).toNatClampNeg)) + (r3.2.1 19))), some (.int (0 : Int32))], [], mH r3.2, 0, 0)) rfl ⟨h17, trivial⟩ ?_
            refine mm_ev.go [true, true] (ps := []) (c1 := (102, [some (.ref 34), some (.int a0), some (.int (((r3.2.2.1 48 ((r3.2.1 29) - (1 : Int32)).toNatClampNeg) + (r3.2.2.1 49 ((r3.2.1 29) - (1 : Int32)).toNatClampNeg)) + (r3.2.1 19))), some (.int (0 : Int32))], [.int (1 : Int32)], mH r3.2, 0, 0)) rfl trivial ?_
            cases h
            exact mm_ev.ret (q := mq81) (b := (102, .ireturn, 1, 3, 0, 0, 0, 0, [])) rfl rfl rfl ⟨Nat.le_of_ble_eq_true rfl, Nat.le_of_ble_eq_true rfl⟩ trivial ⟨rfl, rfl⟩
/-- SlabPatternsModel.clear -/
def F83 (S : mSt) : Option (mSt) := some (((va_up (va_up (va_up (va_up (va_up (va_up (va_up (va_up (va_up (va_up (va_up (va_up S.1 16 (0 : Int32)) 17 (1 : Int32)) 18 (1 : Int32)) 19 (0 : Int32)) 20 (0 : Int32)) 21 (0 : Int32)) 22 (2 : Int32)) 23 (20 : Int32)) 24 (10 : Int32)) 25 (0 : Int32)) 26 (0 : Int32)) 27 (0 : Int32)), S.2.1, S.2.2))
set_option maxRecDepth 100000 in
set_option maxHeartbeats 4000000 in
theorem F83_ok {sc : mS} (d : Nat) {S : mSt} {r : mSt} (h : F83 S = some r) : mm_ev sc mmK mmP (d + 0) 83 (0, mm_en 1 [.ref 34], [], mH S, 0, 0) (mm_is (.inl none) (mH r)) := by
  unfold F83 at h
  refine mm_ev.to (c := (0, [some (.ref 34)], [], mH S, 0, 0)) rfl ?_
  refine mm_ev.go [true, true, true, true, true, true, true, true, true, true, true, true, true, true, true, true, true, true, true, true, true, true, true, true, true, true, true, true, true, true, true, true, true, true, true, true] (ps := [_, _, _, _, _, _, _, _, _, _, _, _, _, _, _, _, _, _, _, _, _, _, _, _]) (c1 := (62, [some (.ref 34)], [], mH ((va_up (va_up (va_up (va_up (va_up (va_up (va_up (va_up (va_up (va_up (va_up (va_up S.1 16 (0 : Int32)) 17 (1 : Int32)) 18 (1 : Int32)) 19 (0 : Int32)) 20 (0 : Int32)) 21 (0 : Int32)) 22 (2 : Int32)) 23 (20 : Int32)) 24 (10 : Int32)) 25 (0 : Int32)) 26 (0 : Int32)) 27 (0 : Int32)), S.2.1, S.2.2), 0, 0)) rfl ⟨trivial, (Nat.le_of_ble_eq_true rfl), trivial, (Nat.le_of_ble_eq_true rfl), trivial, (Nat.le_of_ble_eq_true rfl), trivial, (Nat.le_of_ble_eq_true rfl), trivial, (Nat.le_of_ble_eq_true rfl), trivial, (Nat.le_of_ble_eq_true rfl), trivial, (Nat.le_of_ble_eq_true rfl), trivial, (Nat.le_of_ble_eq_true rfl), trivial, (Nat.le_of_ble_eq_true rfl), trivial, (Nat.le_of_ble_eq_true rfl), trivial, (Nat.le_of_ble_eq_true rfl), (by first | exact Or.inl rfl | exact Or.inr rfl), (Nat.le_of_ble_eq_true rfl), trivial⟩ ?_
  cases h
  exact mm_ev.ret (q := mq83) (b := (62, .return_, 1, 3, 0, 0, 0, 0, [])) rfl rfl rfl ⟨Nat.le_of_ble_eq_true rfl, Nat.le_of_ble_eq_true rfl⟩ trivial ⟨rfl, rfl⟩
/-- SlabPatternsLaw.rules -/
def F87 (S : mSt) (a1 a2 a3 a4 a5 : Int32) : Option (Int32 × mSt) := (F9 S a1 a2 a3 a4 a5).bind fun r1 => if r1.1 = 0 then (some (((0 : Int32), r1.2))) else (if r1.1 = 1 then (some (((1 : Int32), r1.2))) else none)
set_option maxRecDepth 100000 in
set_option maxHeartbeats 4000000 in
theorem F87_ok {sc : mS} (d : Nat) {S : mSt} {a1 a2 a3 a4 a5 : Int32} {r : Int32 × mSt} (h : F87 S a1 a2 a3 a4 a5 = some r) : mm_ev sc mmK mmP (d + 6) 87 (0, mm_en 7 [.ref 0, .int a1, .int a2, .int a3, .int a4, .int a5], [], mH S, 0, 0) (mm_is (.inl (some (.int r.1))) (mH r.2)) := by
  unfold F87 at h
  refine mm_ev.to (c := (0, [some (.ref 0), some (.int a1), some (.int a2), some (.int a3), some (.int a4), some (.int a5), none], [], mH S, 0, 0)) rfl ?_
  refine mm_ev.go [true, true, true, true, true, true] (ps := []) (c1 := (8, [some (.ref 0), some (.int a1), some (.int a2), some (.int a3), some (.int a4), some (.int a5), none], [.int a5, .int a4, .int a3, .int a2, .int a1, .ref 0], mH S, 0, 0)) rfl trivial ?_
  obtain ⟨r1, h2, h⟩ := mb_b h
  have h4 := F9_ok (sc := sc) d h2
  by_cases h3 : r1.1 = 0
  · rw [if_pos h3] at h
    rw [if_pos h3] at h4
    refine mm_ev.call (q := mq87) (q2 := mq9) (b := (8, .invokevirtual 27, 3, 2, 6, 9, 6, 0, [442, 439, 440, 48, 441])) (as := [.ref 0, .int a1, .int a2, .int a3, .int a4, .int a5]) (r := []) (v := none) (h1 := mH r1.2) rfl rfl rfl rfl ⟨Nat.le_of_ble_eq_true rfl, Nat.le_of_ble_eq_true rfl, Nat.le_of_ble_eq_true rfl⟩ h4 ?_
    refine mm_ev.to (c := (11, [some (.ref 0), some (.int a1), some (.int a2), some (.int a3), some (.int a4), some (.int a5), none], [], mH r1.2, 1, 6)) rfl ?_
    refine mm_ev.go [true, true] (ps := []) (c1 := (19, [some (.ref 0), some (.int a1), some (.int a2), some (.int a3), some (.int a4), some (.int a5), none], [.int (0 : Int32)], mH r1.2, 1, 6)) rfl trivial ?_
    cases h
    exact mm_ev.ret (q := mq87) (b := (19, .ireturn, 1, 3, 0, 0, 0, 0, [])) rfl rfl rfl ⟨Nat.le_of_ble_eq_true rfl, Nat.le_of_ble_eq_true rfl⟩ trivial ⟨rfl, rfl⟩
  · rw [if_neg h3] at h
    rw [if_neg h3] at h4
    by_cases h5 : r1.1 = 1
    · rw [if_pos h5] at h
      rw [h5] at h4
      refine mm_ev.callX (q := mq87) (q2 := mq9) (b := (8, .invokevirtual 27, 3, 2, 6, 9, 6, 0, [442, 439, 440, 48, 441])) (as := [.ref 0, .int a1, .int a2, .int a3, .int a4, .int a5]) (r := []) (E := 0) (hp := 14) (i := 6) (pc2 := 16) (z := (mq87, (14, .astore 6, 2, 0, 2, 0, 0, 0, []))) (h1 := mH r1.2) rfl rfl rfl rfl rfl ⟨Nat.le_of_ble_eq_true rfl, Nat.le_of_ble_eq_true rfl, Nat.le_of_ble_eq_true rfl⟩ h4 rfl rfl rfl ?_
      refine mm_ev.to (c := (16, [some (.ref 0), some (.int a1), some (.int a2), some (.int a3), some (.int a4), some (.int a5), none], [], mH r1.2, 1, 6)) rfl ?_
      refine mm_ev.go [true] (ps := []) (c1 := (17, [some (.ref 0), some (.int a1), some (.int a2), some (.int a3), some (.int a4), some (.int a5), none], [.int (1 : Int32)], mH r1.2, 1, 6)) rfl trivial ?_
      cases h
      exact mm_ev.ret (q := mq87) (b := (17, .ireturn, 1, 3, 0, 0, 0, 0, [])) rfl rfl rfl ⟨Nat.le_of_ble_eq_true rfl, Nat.le_of_ble_eq_true rfl⟩ trivial ⟨rfl, rfl⟩
    rw [if_neg h5] at h
    cases h
/-- SlabPatternsLaw.strips -/
def F91 (S : mSt) : Option (Int32 × mSt) := (F14 S).bind fun r1 => if r1.1 = 0 then (if 0 ≤ (0 : Int32) ∧ (0 : Int32).toNatClampNeg < 1 then some (((0 : Int32), (S.1, S.2.1, (vp_updL S.2.2 (0 : Int32).toNatClampNeg r1.2.toInt64)))) else none) else (if r1.1 = 2 then (some (((1 : Int32), S))) else none)
set_option maxRecDepth 100000 in
set_option maxHeartbeats 4000000 in
theorem F91_ok {sc : mS} (d : Nat) {S : mSt} {r : Int32 × mSt} (h : F91 S = some r) : mm_ev sc mmK mmP (d + 7) 91 (0, mm_en 3 [.ref 0, .ref 51], [], mH S, 0, 0) (mm_is (.inl (some (.int r.1))) (mH r.2)) := by
  unfold F91 at h
  refine mm_ev.to (c := (0, [some (.ref 0), some (.ref 51), none], [], mH S, 0, 0)) rfl ?_
  refine mm_ev.go [true, true, true] (ps := []) (c1 := (3, [some (.ref 0), some (.ref 51), none], [.ref 0, .int (0 : Int32), .ref 51], mH S, 0, 0)) rfl trivial ?_
  obtain ⟨r1, h2, h⟩ := mb_b h
  have h4 := F14_ok (sc := sc) d h2
  by_cases h3 : r1.1 = 0
  · rw [if_pos h3] at h
    rw [if_pos h3] at h4
    refine mm_ev.call (q := mq91) (q2 := mq14) (b := (3, .invokevirtual 45, 3, 2, 6, 14, 1, 0, [615, 612, 613, 48, 614])) (as := [.ref 0]) (r := [.int (0 : Int32), .ref 51]) (v := (some (.int r1.2))) (h1 := mH S) rfl rfl rfl rfl ⟨Nat.le_of_ble_eq_true rfl, Nat.le_of_ble_eq_true rfl, Nat.le_of_ble_eq_true rfl⟩ h4 ?_
    refine mm_ev.to (c := (6, [some (.ref 0), some (.ref 51), none], [.int r1.2, .int (0 : Int32), .ref 51], mH S, 1, 6)) rfl ?_
    obtain ⟨h5, h⟩ := mb_i h
    refine mm_ev.go [true, true, true, true] (ps := [mm_in (0 : Int32) 1]) (c1 := (15, [some (.ref 0), some (.ref 51), none], [.int (0 : Int32)], mH (S.1, S.2.1, (vp_updL S.2.2 (0 : Int32).toNatClampNeg r1.2.toInt64)), 1, 6)) rfl ⟨h5, trivial⟩ ?_
    cases h
    exact mm_ev.ret (q := mq91) (b := (15, .ireturn, 1, 3, 0, 0, 0, 0, [])) rfl rfl rfl ⟨Nat.le_of_ble_eq_true rfl, Nat.le_of_ble_eq_true rfl⟩ trivial ⟨rfl, rfl⟩
  · rw [if_neg h3] at h
    rw [if_neg h3] at h4
    by_cases h6 : r1.1 = 2
    · rw [if_pos h6] at h
      rw [h6] at h4
      refine mm_ev.callX (q := mq91) (q2 := mq14) (b := (3, .invokevirtual 45, 3, 2, 6, 14, 1, 0, [615, 612, 613, 48, 614])) (as := [.ref 0]) (r := [.int (0 : Int32), .ref 51]) (E := 1) (hp := 11) (i := 2) (pc2 := 12) (z := (mq91, (11, .astore_n 2, 1, 0, 2, 0, 0, 0, []))) (h1 := mH S) rfl rfl rfl rfl rfl ⟨Nat.le_of_ble_eq_true rfl, Nat.le_of_ble_eq_true rfl, Nat.le_of_ble_eq_true rfl⟩ h4 rfl rfl rfl ?_
      refine mm_ev.to (c := (12, [some (.ref 0), some (.ref 51), none], [], mH S, 1, 6)) rfl ?_
      refine mm_ev.go [true] (ps := []) (c1 := (13, [some (.ref 0), some (.ref 51), none], [.int (1 : Int32)], mH S, 1, 6)) rfl trivial ?_
      cases h
      exact mm_ev.ret (q := mq91) (b := (13, .ireturn, 1, 3, 0, 0, 0, 0, [])) rfl rfl rfl ⟨Nat.le_of_ble_eq_true rfl, Nat.le_of_ble_eq_true rfl⟩ trivial ⟨rfl, rfl⟩
    rw [if_neg h6] at h
    cases h
/-- SlabPatterns.forgetAll -/
def F2 (n : Nat) (S : mSt) : Option (mSt) := (F21 n S).bind fun r1 => ((F3 ((va_up r1.1 11 (0 : Int32)), r1.2.1, r1.2.2)).bind fun r3 => (some r3))
set_option maxRecDepth 100000 in
set_option maxHeartbeats 4000000 in
theorem F2_ok {sc : mS} (d : Nat) {n : Nat} {S : mSt} {r : mSt} (h : F2 n S = some r) : mm_ev sc mmK mmP (d + 1) 2 (0, mm_en 1 [.ref 0], [], mH S, 0, 0) (mm_is (.inl none) (mH r)) := by
  unfold F2 at h
  refine mm_ev.to (c := (0, [some (.ref 0)], [], mH S, 0, 0)) rfl ?_
  refine mm_ev.go [true, true] (ps := []) (c1 := (4, [some (.ref 0)], [.ref 1], mH S, 0, 0)) rfl trivial ?_
  obtain ⟨r1, h2, h⟩ := mb_b h
  refine mm_ev.call (q := mq2) (q2 := mq21) (b := (4, .invokevirtual 205, 3, 2, 3, 21, 1, 1, [261, 258, 260, 49, 1])) (as := [.ref 1]) (r := []) (v := none) (h1 := mH r1) rfl rfl rfl rfl ⟨Nat.le_of_ble_eq_true rfl, Nat.le_of_ble_eq_true rfl, Nat.le_of_ble_eq_true rfl⟩ (F21_ok d h2) ?_
  refine mm_ev.to (c := (7, [some (.ref 0)], [], mH r1, 0, 0)) rfl ?_
  refine mm_ev.go [true, true, true, true, true] (ps := [_, _]) (c1 := (16, [some (.ref 0)], [.ref 0], mH ((va_up r1.1 11 (0 : Int32)), r1.2.1, r1.2.2), 0, 0)) rfl ⟨trivial, (Nat.le_of_ble_eq_true rfl), trivial⟩ ?_
  obtain ⟨r3, h4, h⟩ := mb_b h
  refine mm_ev.call (q := mq2) (q2 := mq3) (b := (16, .invokevirtual 68, 3, 2, 2, 3, 1, 0, [265, 262, 264, 48, 2])) (as := [.ref 0]) (r := []) (v := none) (h1 := mH r3) rfl rfl rfl rfl ⟨Nat.le_of_ble_eq_true rfl, Nat.le_of_ble_eq_true rfl, Nat.le_of_ble_eq_true rfl⟩ (F3_ok d h4) ?_
  refine mm_ev.to (c := (19, [some (.ref 0)], [], mH r3, 0, 0)) rfl ?_
  cases h
  exact mm_ev.ret (q := mq2) (b := (19, .return_, 1, 3, 0, 0, 0, 0, [])) rfl rfl rfl ⟨Nat.le_of_ble_eq_true rfl, Nat.le_of_ble_eq_true rfl⟩ trivial ⟨rfl, rfl⟩
/-- SlabPatterns.clear -/
def F4 (n : Nat) (S : mSt) : Option (mSt) := (F2 n S).bind fun r1 => (some r1)
set_option maxRecDepth 100000 in
set_option maxHeartbeats 4000000 in
theorem F4_ok {sc : mS} (d : Nat) {n : Nat} {S : mSt} {r : mSt} (h : F4 n S = some r) : mm_ev sc mmK mmP (d + 2) 4 (0, mm_en 1 [.ref 0], [], mH S, 0, 0) (mm_is (.inl none) (mH r)) := by
  unfold F4 at h
  refine mm_ev.to (c := (0, [some (.ref 0)], [], mH S, 0, 0)) rfl ?_
  refine mm_ev.go [true] (ps := []) (c1 := (1, [some (.ref 0)], [.ref 0], mH S, 0, 0)) rfl trivial ?_
  obtain ⟨r1, h2, h⟩ := mb_b h
  refine mm_ev.call (q := mq4) (q2 := mq2) (b := (1, .invokevirtual 44, 3, 2, 2, 2, 1, 0, [257, 254, 256, 48, 0])) (as := [.ref 0]) (r := []) (v := none) (h1 := mH r1) rfl rfl rfl rfl ⟨Nat.le_of_ble_eq_true rfl, Nat.le_of_ble_eq_true rfl, Nat.le_of_ble_eq_true rfl⟩ (F2_ok d h2) ?_
  refine mm_ev.to (c := (4, [some (.ref 0)], [], mH r1, 0, 0)) rfl ?_
  cases h
  exact mm_ev.ret (q := mq4) (b := (4, .return_, 1, 3, 0, 0, 0, 0, [])) rfl rfl rfl ⟨Nat.le_of_ble_eq_true rfl, Nat.le_of_ble_eq_true rfl⟩ trivial ⟨rfl, rfl⟩
/-- SlabPatterns.plate -/
def F5 (S : mSt) (a0 a1 a2 : Int32) : Option (Nat × mSt) := (F6 S a0 (1 : Int32) (200 : Int32)).bind fun r1 => (if r1 = (0 : Int32) then ((F6 S a1 (1 : Int32) (200 : Int32)).bind fun r4 => (if r4 = (0 : Int32) then ((F6 S a2 (0 : Int32) (20 : Int32)).bind fun r7 => (if r7 = (0 : Int32) then ((F3 ((va_up (va_up (va_up S.1 2 a0) 3 a1) 4 a2), S.2.1, S.2.2)).bind fun r10 => (some ((0, r10)))) else (some ((1, S))))) else (some ((1, S))))) else (some ((1, S))))
set_option maxRecDepth 100000 in
set_option maxHeartbeats 4000000 in
theorem F5_ok {sc : mS} (d : Nat) {S : mSt} {a0 a1 a2 : Int32} {r : Nat × mSt} (h : F5 S a0 a1 a2 = some r) : mm_ev sc mmK mmP (d + 5) 5 (0, mm_en 4 [.ref 0, .int a0, .int a1, .int a2], [], mH S, 0, 0) (mm_is (if r.1 = 0 then .inl none else .inr (r.1 - 1)) (mH r.2)) := by
  unfold F5 at h
  refine mm_ev.to (c := (0, [some (.ref 0), some (.int a0), some (.int a1), some (.int a2)], [], mH S, 0, 0)) rfl ?_
  refine mm_ev.go [true, true, true] (ps := []) (c1 := (5, [some (.ref 0), some (.int a0), some (.int a1), some (.int a2)], [.int (200 : Int32), .int (1 : Int32), .int a0], mH S, 0, 0)) rfl trivial ?_
  obtain ⟨r1, h2, h⟩ := mb_b h
  refine mm_ev.call (q := mq5) (q2 := mq6) (b := (5, .invokestatic 47, 3, 2, 4, 6, 3, 0, [302, 300, 301, 48])) (as := [.int a0, .int (1 : Int32), .int (200 : Int32)]) (r := []) (v := (some (.int r1))) (h1 := mH S) rfl rfl rfl rfl ⟨Nat.le_of_ble_eq_true rfl, Nat.le_of_ble_eq_true rfl, Nat.le_of_ble_eq_true rfl⟩ (F6_ok (d + 4) h2) ?_
  refine mm_ev.to (c := (8, [some (.ref 0), some (.int a0), some (.int a1), some (.int a2)], [.int r1], mH S, 0, 0)) rfl ?_
  by_cases h3 : r1 = (0 : Int32)
  · rw [if_pos h3] at h
    refine mm_ev.go [false] (ps := [¬ mm_cmp .ne r1 (0 : Int32)]) (c1 := (11, [some (.ref 0), some (.int a0), some (.int a1), some (.int a2)], [], mH S, 0, 0)) rfl ⟨(fun z => z h3), trivial⟩ ?_
    refine mm_ev.go [true, true, true] (ps := []) (c1 := (16, [some (.ref 0), some (.int a0), some (.int a1), some (.int a2)], [.int (200 : Int32), .int (1 : Int32), .int a1], mH S, 0, 0)) rfl trivial ?_
    obtain ⟨r4, h5, h⟩ := mb_b h
    refine mm_ev.call (q := mq5) (q2 := mq6) (b := (16, .invokestatic 47, 3, 2, 4, 6, 3, 0, [302, 300, 301, 48])) (as := [.int a1, .int (1 : Int32), .int (200 : Int32)]) (r := []) (v := (some (.int r4))) (h1 := mH S) rfl rfl rfl rfl ⟨Nat.le_of_ble_eq_true rfl, Nat.le_of_ble_eq_true rfl, Nat.le_of_ble_eq_true rfl⟩ (F6_ok (d + 4) h5) ?_
    refine mm_ev.to (c := (19, [some (.ref 0), some (.int a0), some (.int a1), some (.int a2)], [.int r4], mH S, 0, 0)) rfl ?_
    by_cases h6 : r4 = (0 : Int32)
    · rw [if_pos h6] at h
      refine mm_ev.go [false] (ps := [¬ mm_cmp .ne r4 (0 : Int32)]) (c1 := (22, [some (.ref 0), some (.int a0), some (.int a1), some (.int a2)], [], mH S, 0, 0)) rfl ⟨(fun z => z h6), trivial⟩ ?_
      refine mm_ev.go [true, true, true] (ps := []) (c1 := (26, [some (.ref 0), some (.int a0), some (.int a1), some (.int a2)], [.int (20 : Int32), .int (0 : Int32), .int a2], mH S, 0, 0)) rfl trivial ?_
      obtain ⟨r7, h8, h⟩ := mb_b h
      refine mm_ev.call (q := mq5) (q2 := mq6) (b := (26, .invokestatic 47, 3, 2, 4, 6, 3, 0, [302, 300, 301, 48])) (as := [.int a2, .int (0 : Int32), .int (20 : Int32)]) (r := []) (v := (some (.int r7))) (h1 := mH S) rfl rfl rfl rfl ⟨Nat.le_of_ble_eq_true rfl, Nat.le_of_ble_eq_true rfl, Nat.le_of_ble_eq_true rfl⟩ (F6_ok (d + 4) h8) ?_
      refine mm_ev.to (c := (29, [some (.ref 0), some (.int a0), some (.int a1), some (.int a2)], [.int r7], mH S, 0, 0)) rfl ?_
      by_cases h9 : r7 = (0 : Int32)
      · rw [if_pos h9] at h
        refine mm_ev.go [true] (ps := [mm_cmp .eq r7 (0 : Int32)]) (c1 := (42, [some (.ref 0), some (.int a0), some (.int a1), some (.int a2)], [], mH S, 0, 0)) rfl ⟨h9, trivial⟩ ?_
        refine mm_ev.go [true, true, true, true, true, true, true, true, true, true, true, true, true] (ps := [_, _, _, _, _, _]) (c1 := (67, [some (.ref 0), some (.int a0), some (.int a1), some (.int a2)], [.ref 0], mH ((va_up (va_up (va_up S.1 2 a0) 3 a1) 4 a2), S.2.1, S.2.2), 0, 0)) rfl ⟨trivial, (Nat.le_of_ble_eq_true rfl), trivial, (Nat.le_of_ble_eq_true rfl), trivial, (Nat.le_of_ble_eq_true rfl), trivial⟩ ?_
        obtain ⟨r10, h11, h⟩ := mb_b h
        refine mm_ev.call (q := mq5) (q2 := mq3) (b := (67, .invokevirtual 68, 3, 2, 2, 3, 1, 0, [265, 262, 264, 48, 2])) (as := [.ref 0]) (r := []) (v := none) (h1 := mH r10) rfl rfl rfl rfl ⟨Nat.le_of_ble_eq_true rfl, Nat.le_of_ble_eq_true rfl, Nat.le_of_ble_eq_true rfl⟩ (F3_ok (d + 4) h11) ?_
        refine mm_ev.to (c := (70, [some (.ref 0), some (.int a0), some (.int a1), some (.int a2)], [], mH r10, 0, 0)) rfl ?_
        cases h
        exact mm_ev.ret (q := mq5) (b := (70, .return_, 1, 3, 0, 0, 0, 0, [])) rfl rfl rfl ⟨Nat.le_of_ble_eq_true rfl, Nat.le_of_ble_eq_true rfl⟩ trivial ⟨rfl, rfl⟩
      · rw [if_neg h9] at h
        refine mm_ev.go [false] (ps := [¬ mm_cmp .eq r7 (0 : Int32)]) (c1 := (32, [some (.ref 0), some (.int a0), some (.int a1), some (.int a2)], [], mH S, 0, 0)) rfl ⟨h9, trivial⟩ ?_
        cases h
        exact mm_ev.thr (q := mq5) (b := (32, .new 51, 3, 4, 0, 0, 53, 55, [303, 58, 0])) rfl rfl ⟨by omega, Nat.le_of_ble_eq_true rfl, Nat.le_of_ble_eq_true rfl, rfl, Nat.le_of_ble_eq_true rfl⟩ ⟨rfl, rfl⟩
    · rw [if_neg h6] at h
      refine mm_ev.go [true] (ps := [mm_cmp .ne r4 (0 : Int32)]) (c1 := (32, [some (.ref 0), some (.int a0), some (.int a1), some (.int a2)], [], mH S, 0, 0)) rfl ⟨h6, trivial⟩ ?_
      cases h
      exact mm_ev.thr (q := mq5) (b := (32, .new 51, 3, 4, 0, 0, 53, 55, [303, 58, 0])) rfl rfl ⟨by omega, Nat.le_of_ble_eq_true rfl, Nat.le_of_ble_eq_true rfl, rfl, Nat.le_of_ble_eq_true rfl⟩ ⟨rfl, rfl⟩
  · rw [if_neg h3] at h
    refine mm_ev.go [true] (ps := [mm_cmp .ne r1 (0 : Int32)]) (c1 := (32, [some (.ref 0), some (.int a0), some (.int a1), some (.int a2)], [], mH S, 0, 0)) rfl ⟨h3, trivial⟩ ?_
    cases h
    exact mm_ev.thr (q := mq5) (b := (32, .new 51, 3, 4, 0, 0, 53, 55, [303, 58, 0])) rfl rfl ⟨by omega, Nat.le_of_ble_eq_true rfl, Nat.le_of_ble_eq_true rfl, rfl, Nat.le_of_ble_eq_true rfl⟩ ⟨rfl, rfl⟩
/-- SlabPatterns.want -/
def F7 (S : mSt) (a0 a1 a2 a3 a4 : Int32) : Option (Nat × Int32 × mSt) := (F6 S a0 (1 : Int32) (200 : Int32)).bind fun r1 => (if r1 = (0 : Int32) then ((F6 S a1 a0 (200 : Int32)).bind fun r4 => (if r4 = (0 : Int32) then ((F6 S a2 (1 : Int32) (200 : Int32)).bind fun r7 => (if r7 = (0 : Int32) then ((F6 S a3 (0 : Int32) (100000 : Int32)).bind fun r10 => (if r10 = (0 : Int32) then ((F6 S a4 (0 : Int32) (20 : Int32)).bind fun r13 => (if r13 = (0 : Int32) then ((F27 S).bind fun r16 => (if r16 = (0 : Int32) then ((F28 S a0 a1 a2 a3 a4).bind fun r19 => (some ((0, r19.1, r19.2)))) else (some ((4, 0, S))))) else (some ((1, 0, S))))) else (some ((1, 0, S))))) else (some ((1, 0, S))))) else (some ((1, 0, S))))) else (some ((1, 0, S))))
set_option maxRecDepth 100000 in
set_option maxHeartbeats 4000000 in
theorem F7_ok {sc : mS} (d : Nat) {S : mSt} {a0 a1 a2 a3 a4 : Int32} {r : Nat × Int32 × mSt} (h : F7 S a0 a1 a2 a3 a4 = some r) : mm_ev sc mmK mmP (d + 5) 7 (0, mm_en 6 [.ref 0, .int a0, .int a1, .int a2, .int a3, .int a4], [], mH S, 0, 0) (mm_is (if r.1 = 0 then .inl (some (.int r.2.1)) else .inr (r.1 - 1)) (mH r.2.2)) := by
  unfold F7 at h
  refine mm_ev.to (c := (0, [some (.ref 0), some (.int a0), some (.int a1), some (.int a2), some (.int a3), some (.int a4)], [], mH S, 0, 0)) rfl ?_
  refine mm_ev.go [true, true, true] (ps := []) (c1 := (5, [some (.ref 0), some (.int a0), some (.int a1), some (.int a2), some (.int a3), some (.int a4)], [.int (200 : Int32), .int (1 : Int32), .int a0], mH S, 0, 0)) rfl trivial ?_
  obtain ⟨r1, h2, h⟩ := mb_b h
  refine mm_ev.call (q := mq7) (q2 := mq6) (b := (5, .invokestatic 47, 3, 2, 4, 6, 3, 0, [302, 300, 301, 48])) (as := [.int a0, .int (1 : Int32), .int (200 : Int32)]) (r := []) (v := (some (.int r1))) (h1 := mH S) rfl rfl rfl rfl ⟨Nat.le_of_ble_eq_true rfl, Nat.le_of_ble_eq_true rfl, Nat.le_of_ble_eq_true rfl⟩ (F6_ok (d + 4) h2) ?_
  refine mm_ev.to (c := (8, [some (.ref 0), some (.int a0), some (.int a1), some (.int a2), some (.int a3), some (.int a4)], [.int r1], mH S, 0, 0)) rfl ?_
  by_cases h3 : r1 = (0 : Int32)
  · rw [if_pos h3] at h
    refine mm_ev.go [false] (ps := [¬ mm_cmp .ne r1 (0 : Int32)]) (c1 := (11, [some (.ref 0), some (.int a0), some (.int a1), some (.int a2), some (.int a3), some (.int a4)], [], mH S, 0, 0)) rfl ⟨(fun z => z h3), trivial⟩ ?_
    refine mm_ev.go [true, true, true] (ps := []) (c1 := (16, [some (.ref 0), some (.int a0), some (.int a1), some (.int a2), some (.int a3), some (.int a4)], [.int (200 : Int32), .int a0, .int a1], mH S, 0, 0)) rfl trivial ?_
    obtain ⟨r4, h5, h⟩ := mb_b h
    refine mm_ev.call (q := mq7) (q2 := mq6) (b := (16, .invokestatic 47, 3, 2, 4, 6, 3, 0, [302, 300, 301, 48])) (as := [.int a1, .int a0, .int (200 : Int32)]) (r := []) (v := (some (.int r4))) (h1 := mH S) rfl rfl rfl rfl ⟨Nat.le_of_ble_eq_true rfl, Nat.le_of_ble_eq_true rfl, Nat.le_of_ble_eq_true rfl⟩ (F6_ok (d + 4) h5) ?_
    refine mm_ev.to (c := (19, [some (.ref 0), some (.int a0), some (.int a1), some (.int a2), some (.int a3), some (.int a4)], [.int r4], mH S, 0, 0)) rfl ?_
    by_cases h6 : r4 = (0 : Int32)
    · rw [if_pos h6] at h
      refine mm_ev.go [false] (ps := [¬ mm_cmp .ne r4 (0 : Int32)]) (c1 := (22, [some (.ref 0), some (.int a0), some (.int a1), some (.int a2), some (.int a3), some (.int a4)], [], mH S, 0, 0)) rfl ⟨(fun z => z h6), trivial⟩ ?_
      refine mm_ev.go [true, true, true] (ps := []) (c1 := (27, [some (.ref 0), some (.int a0), some (.int a1), some (.int a2), some (.int a3), some (.int a4)], [.int (200 : Int32), .int (1 : Int32), .int a2], mH S, 0, 0)) rfl trivial ?_
      obtain ⟨r7, h8, h⟩ := mb_b h
      refine mm_ev.call (q := mq7) (q2 := mq6) (b := (27, .invokestatic 47, 3, 2, 4, 6, 3, 0, [302, 300, 301, 48])) (as := [.int a2, .int (1 : Int32), .int (200 : Int32)]) (r := []) (v := (some (.int r7))) (h1 := mH S) rfl rfl rfl rfl ⟨Nat.le_of_ble_eq_true rfl, Nat.le_of_ble_eq_true rfl, Nat.le_of_ble_eq_true rfl⟩ (F6_ok (d + 4) h8) ?_
      refine mm_ev.to (c := (30, [some (.ref 0), some (.int a0), some (.int a1), some (.int a2), some (.int a3), some (.int a4)], [.int r7], mH S, 0, 0)) rfl ?_
      by_cases h9 : r7 = (0 : Int32)
      · rw [if_pos h9] at h
        refine mm_ev.go [false] (ps := [¬ mm_cmp .ne r7 (0 : Int32)]) (c1 := (33, [some (.ref 0), some (.int a0), some (.int a1), some (.int a2), some (.int a3), some (.int a4)], [], mH S, 0, 0)) rfl ⟨(fun z => z h9), trivial⟩ ?_
        refine mm_ev.go [true, true, true] (ps := []) (c1 := (38, [some (.ref 0), some (.int a0), some (.int a1), some (.int a2), some (.int a3), some (.int a4)], [.int (100000 : Int32), .int (0 : Int32), .int a3], mH S, 0, 0)) rfl trivial ?_
        obtain ⟨r10, h11, h⟩ := mb_b h
        refine mm_ev.call (q := mq7) (q2 := mq6) (b := (38, .invokestatic 47, 3, 2, 4, 6, 3, 0, [302, 300, 301, 48])) (as := [.int a3, .int (0 : Int32), .int (100000 : Int32)]) (r := []) (v := (some (.int r10))) (h1 := mH S) rfl rfl rfl rfl ⟨Nat.le_of_ble_eq_true rfl, Nat.le_of_ble_eq_true rfl, Nat.le_of_ble_eq_true rfl⟩ (F6_ok (d + 4) h11) ?_
        refine mm_ev.to (c := (41, [some (.ref 0), some (.int a0), some (.int a1), some (.int a2), some (.int a3), some (.int a4)], [.int r10], mH S, 0, 0)) rfl ?_
        by_cases h12 : r10 = (0 : Int32)
        · rw [if_pos h12] at h
          refine mm_ev.go [false] (ps := [¬ mm_cmp .ne r10 (0 : Int32)]) (c1 := (44, [some (.ref 0), some (.int a0), some (.int a1), some (.int a2), some (.int a3), some (.int a4)], [], mH S, 0, 0)) rfl ⟨(fun z => z h12), trivial⟩ ?_
          refine mm_ev.go [true, true, true] (ps := []) (c1 := (49, [some (.ref 0), some (.int a0), some (.int a1), some (.int a2), some (.int a3), some (.int a4)], [.int (20 : Int32), .int (0 : Int32), .int a4], mH S, 0, 0)) rfl trivial ?_
          obtain ⟨r13, h14, h⟩ := mb_b h
          refine mm_ev.call (q := mq7) (q2 := mq6) (b := (49, .invokestatic 47, 3, 2, 4, 6, 3, 0, [302, 300, 301, 48])) (as := [.int a4, .int (0 : Int32), .int (20 : Int32)]) (r := []) (v := (some (.int r13))) (h1 := mH S) rfl rfl rfl rfl ⟨Nat.le_of_ble_eq_true rfl, Nat.le_of_ble_eq_true rfl, Nat.le_of_ble_eq_true rfl⟩ (F6_ok (d + 4) h14) ?_
          refine mm_ev.to (c := (52, [some (.ref 0), some (.int a0), some (.int a1), some (.int a2), some (.int a3), some (.int a4)], [.int r13], mH S, 0, 0)) rfl ?_
          by_cases h15 : r13 = (0 : Int32)
          · rw [if_pos h15] at h
            refine mm_ev.go [true] (ps := [mm_cmp .eq r13 (0 : Int32)]) (c1 := (65, [some (.ref 0), some (.int a0), some (.int a1), some (.int a2), some (.int a3), some (.int a4)], [], mH S, 0, 0)) rfl ⟨h15, trivial⟩ ?_
            refine mm_ev.go [true, true] (ps := []) (c1 := (69, [some (.ref 0), some (.int a0), some (.int a1), some (.int a2), some (.int a3), some (.int a4)], [.ref 3], mH S, 0, 0)) rfl trivial ?_
            obtain ⟨r16, h17, h⟩ := mb_b h
            refine mm_ev.call (q := mq7) (q2 := mq27) (b := (69, .invokevirtual 74, 3, 2, 3, 27, 1, 2, [385, 382, 384, 50, 4])) (as := [.ref 3]) (r := []) (v := (some (.int r16))) (h1 := mH S) rfl rfl rfl rfl ⟨Nat.le_of_ble_eq_true rfl, Nat.le_of_ble_eq_true rfl, Nat.le_of_ble_eq_true rfl⟩ (F27_ok (d + 3) h17) ?_
            refine mm_ev.to (c := (72, [some (.ref 0), some (.int a0), some (.int a1), some (.int a2), some (.int a3), some (.int a4)], [.int r16], mH S, 0, 0)) rfl ?_
            by_cases h18 : r16 = (0 : Int32)
            · rw [if_pos h18] at h
              refine mm_ev.go [true] (ps := [mm_cmp .eq r16 (0 : Int32)]) (c1 := (85, [some (.ref 0), some (.int a0), some (.int a1), some (.int a2), some (.int a3), some (.int a4)], [], mH S, 0, 0)) rfl ⟨h18, trivial⟩ ?_
              refine mm_ev.go [true, true, true, true, true, true, true] (ps := []) (c1 := (96, [some (.ref 0), some (.int a0), some (.int a1), some (.int a2), some (.int a3), some (.int a4)], [.int a4, .int a3, .int a2, .int a1, .int a0, .ref 3], mH S, 0, 0)) rfl trivial ?_
              obtain ⟨r19, h20, h⟩ := mb_b h
              refine mm_ev.call (q := mq7) (q2 := mq28) (b := (96, .invokevirtual 83, 3, 2, 3, 28, 6, 2, [406, 403, 405, 50, 5])) (as := [.ref 3, .int a0, .int a1, .int a2, .int a3, .int a4]) (r := []) (v := (some (.int r19.1))) (h1 := mH r19.2) rfl rfl rfl rfl ⟨Nat.le_of_ble_eq_true rfl, Nat.le_of_ble_eq_true rfl, Nat.le_of_ble_eq_true rfl⟩ (F28_ok (d + 2) h20) ?_
              refine mm_ev.to (c := (99, [some (.ref 0), some (.int a0), some (.int a1), some (.int a2), some (.int a3), some (.int a4)], [.int r19.1], mH r19.2, 0, 0)) rfl ?_
              cases h
              exact mm_ev.ret (q := mq7) (b := (99, .ireturn, 1, 3, 0, 0, 0, 0, [])) rfl rfl rfl ⟨Nat.le_of_ble_eq_true rfl, Nat.le_of_ble_eq_true rfl⟩ trivial ⟨rfl, rfl⟩
            · rw [if_neg h18] at h
              refine mm_ev.go [false] (ps := [¬ mm_cmp .eq r16 (0 : Int32)]) (c1 := (75, [some (.ref 0), some (.int a0), some (.int a1), some (.int a2), some (.int a3), some (.int a4)], [], mH S, 0, 0)) rfl ⟨h18, trivial⟩ ?_
              cases h
              exact mm_ev.thr (q := mq7) (b := (75, .new 78, 3, 4, 0, 3, 80, 82, [387, 59, 2])) rfl rfl ⟨by omega, Nat.le_of_ble_eq_true rfl, Nat.le_of_ble_eq_true rfl, rfl, Nat.le_of_ble_eq_true rfl⟩ ⟨rfl, rfl⟩
          · rw [if_neg h15] at h
            refine mm_ev.go [false] (ps := [¬ mm_cmp .eq r13 (0 : Int32)]) (c1 := (55, [some (.ref 0), some (.int a0), some (.int a1), some (.int a2), some (.int a3), some (.int a4)], [], mH S, 0, 0)) rfl ⟨h15, trivial⟩ ?_
            cases h
            exact mm_ev.thr (q := mq7) (b := (55, .new 51, 3, 4, 0, 0, 72, 55, [303, 58, 1])) rfl rfl ⟨by omega, Nat.le_of_ble_eq_true rfl, Nat.le_of_ble_eq_true rfl, rfl, Nat.le_of_ble_eq_true rfl⟩ ⟨rfl, rfl⟩
        · rw [if_neg h12] at h
          refine mm_ev.go [true] (ps := [mm_cmp .ne r10 (0 : Int32)]) (c1 := (55, [some (.ref 0), some (.int a0), some (.int a1), some (.int a2), some (.int a3), some (.int a4)], [], mH S, 0, 0)) rfl ⟨h12, trivial⟩ ?_
          cases h
          exact mm_ev.thr (q := mq7) (b := (55, .new 51, 3, 4, 0, 0, 72, 55, [303, 58, 1])) rfl rfl ⟨by omega, Nat.le_of_ble_eq_true rfl, Nat.le_of_ble_eq_true rfl, rfl, Nat.le_of_ble_eq_true rfl⟩ ⟨rfl, rfl⟩
      · rw [if_neg h9] at h
        refine mm_ev.go [true] (ps := [mm_cmp .ne r7 (0 : Int32)]) (c1 := (55, [some (.ref 0), some (.int a0), some (.int a1), some (.int a2), some (.int a3), some (.int a4)], [], mH S, 0, 0)) rfl ⟨h9, trivial⟩ ?_
        cases h
        exact mm_ev.thr (q := mq7) (b := (55, .new 51, 3, 4, 0, 0, 72, 55, [303, 58, 1])) rfl rfl ⟨by omega, Nat.le_of_ble_eq_true rfl, Nat.le_of_ble_eq_true rfl, rfl, Nat.le_of_ble_eq_true rfl⟩ ⟨rfl, rfl⟩
    · rw [if_neg h6] at h
      refine mm_ev.go [true] (ps := [mm_cmp .ne r4 (0 : Int32)]) (c1 := (55, [some (.ref 0), some (.int a0), some (.int a1), some (.int a2), some (.int a3), some (.int a4)], [], mH S, 0, 0)) rfl ⟨h6, trivial⟩ ?_
      cases h
      exact mm_ev.thr (q := mq7) (b := (55, .new 51, 3, 4, 0, 0, 72, 55, [303, 58, 1])) rfl rfl ⟨by omega, Nat.le_of_ble_eq_true rfl, Nat.le_of_ble_eq_true rfl, rfl, Nat.le_of_ble_eq_true rfl⟩ ⟨rfl, rfl⟩
  · rw [if_neg h3] at h
    refine mm_ev.go [true] (ps := [mm_cmp .ne r1 (0 : Int32)]) (c1 := (55, [some (.ref 0), some (.int a0), some (.int a1), some (.int a2), some (.int a3), some (.int a4)], [], mH S, 0, 0)) rfl ⟨h3, trivial⟩ ?_
    cases h
    exact mm_ev.thr (q := mq7) (b := (55, .new 51, 3, 4, 0, 0, 72, 55, [303, 58, 1])) rfl rfl ⟨by omega, Nat.le_of_ble_eq_true rfl, Nat.le_of_ble_eq_true rfl, rfl, Nat.le_of_ble_eq_true rfl⟩ ⟨rfl, rfl⟩
/-- SlabPatterns.turn -/
def F8 (S : mSt) (a0 a1 : Int32) : Option (Nat × mSt) := (F29 S a0).bind fun r1 => (if r1 = (0 : Int32) then (some ((3, S))) else (if 0 ≤ a0 ∧ a0.toNatClampNeg < 5 then some ((0, (S.1, (va_up S.2.1 9 (upd (S.2.1 9) a0.toNatClampNeg (vp_nar .boolean a1))), S.2.2))) else none))
set_option maxRecDepth 100000 in
set_option maxHeartbeats 4000000 in
theorem F8_ok {sc : mS} (d : Nat) {S : mSt} {a0 a1 : Int32} {r : Nat × mSt} (h : F8 S a0 a1 = some r) : mm_ev sc mmK mmP (d + 5) 8 (0, mm_en 3 [.ref 0, .int a0, .int a1], [], mH S, 0, 0) (mm_is (if r.1 = 0 then .inl none else .inr (r.1 - 1)) (mH r.2)) := by
  unfold F8 at h
  refine mm_ev.to (c := (0, [some (.ref 0), some (.int a0), some (.int a1)], [], mH S, 0, 0)) rfl ?_
  refine mm_ev.go [true, true, true] (ps := []) (c1 := (5, [some (.ref 0), some (.int a0), some (.int a1)], [.int a0, .ref 3], mH S, 0, 0)) rfl trivial ?_
  obtain ⟨r1, h2, h⟩ := mb_b h
  refine mm_ev.call (q := mq8) (q2 := mq29) (b := (5, .invokevirtual 87, 3, 2, 3, 29, 2, 2, [419, 416, 418, 50, 6])) (as := [.ref 3, .int a0]) (r := []) (v := (some (.int r1))) (h1 := mH S) rfl rfl rfl rfl ⟨Nat.le_of_ble_eq_true rfl, Nat.le_of_ble_eq_true rfl, Nat.le_of_ble_eq_true rfl⟩ (F29_ok (d + 4) h2) ?_
  refine mm_ev.to (c := (8, [some (.ref 0), some (.int a0), some (.int a1)], [.int r1], mH S, 0, 0)) rfl ?_
  by_cases h3 : r1 = (0 : Int32)
  · rw [if_pos h3] at h
    refine mm_ev.go [false] (ps := [¬ mm_cmp .ne r1 (0 : Int32)]) (c1 := (11, [some (.ref 0), some (.int a0), some (.int a1)], [], mH S, 0, 0)) rfl ⟨(fun z => z h3), trivial⟩ ?_
    cases h
    exact mm_ev.thr (q := mq8) (b := (11, .new 91, 3, 4, 0, 2, 93, 95, [420, 60, 3])) rfl rfl ⟨by omega, Nat.le_of_ble_eq_true rfl, Nat.le_of_ble_eq_true rfl, rfl, Nat.le_of_ble_eq_true rfl⟩ ⟨rfl, rfl⟩
  · rw [if_neg h3] at h
    refine mm_ev.go [true] (ps := [mm_cmp .ne r1 (0 : Int32)]) (c1 := (21, [some (.ref 0), some (.int a0), some (.int a1)], [], mH S, 0, 0)) rfl ⟨h3, trivial⟩ ?_
    obtain ⟨h4, h⟩ := mb_i h
    refine mm_ev.go [true, true, true, true, true, true] (ps := [mm_in a0 5]) (c1 := (31, [some (.ref 0), some (.int a0), some (.int a1)], [], mH (S.1, (va_up S.2.1 9 (upd (S.2.1 9) a0.toNatClampNeg (vp_nar .boolean a1))), S.2.2), 0, 0)) rfl ⟨h4, trivial⟩ ?_
    cases h
    exact mm_ev.ret (q := mq8) (b := (31, .return_, 1, 3, 0, 0, 0, 0, [])) rfl rfl rfl ⟨Nat.le_of_ble_eq_true rfl, Nat.le_of_ble_eq_true rfl⟩ trivial ⟨rfl, rfl⟩
