/-! methods as functions of the state (8) -/
/-- SlabPatternsModel.turn -/
def F64 (S : mSt) (a0 a1 : Int32) : Option (mSt) := (F65 S a0).bind fun r1 => ((F62 S r1 (1 : Int32) (1 : Int32)).bind fun r3 => (if r3.1 = (0 : Int32) then (some r3.2) else (if 0 ≤ a0 ∧ a0.toNatClampNeg < 5 then some ((r3.2.1, (va_up r3.2.2.1 40 (upd (r3.2.2.1 40) a0.toNatClampNeg (vp_nar .boolean a1))), r3.2.2.2)) else none)))
set_option maxRecDepth 100000 in
set_option maxHeartbeats 4000000 in
theorem F64_ok {sc : mS} (d : Nat) {S : mSt} {a0 a1 : Int32} {r : mSt} (h : F64 S a0 a1 = some r) : mm_ev sc mmK mmP (d + 2) 64 (0, mm_en 3 [.ref 34, .int a0, .int a1], [], mH S, 0, 0) (mm_is (.inl none) (mH r)) := by
  unfold F64 at h
  refine mm_ev.to (c := (0, [some (.ref 34), some (.int a0), some (.int a1)], [], mH S, 0, 0)) rfl ?_
  refine mm_ev.go [true, true, true] (ps := []) (c1 := (3, [some (.ref 34), some (.int a0), some (.int a1)], [.int a0, .ref 34, .ref 34], mH S, 0, 0)) rfl trivial ?_
  obtain ⟨r1, h2, h⟩ := mb_b h
  refine mm_ev.call (q := mq64) (q2 := mq65) (b := (3, .invokevirtual 101, 3, 2, 2, 65, 2, 6, [793, 790, 792, 54, 38])) (as := [.ref 34, .int a0]) (r := [.ref 34]) (v := (some (.int r1))) (h1 := mH S) rfl rfl rfl rfl ⟨Nat.le_of_ble_eq_true rfl, Nat.le_of_ble_eq_true rfl, Nat.le_of_ble_eq_true rfl⟩ (F65_ok d h2) ?_
  refine mm_ev.to (c := (6, [some (.ref 34), some (.int a0), some (.int a1)], [.int r1, .ref 34], mH S, 0, 0)) rfl ?_
  refine mm_ev.go [true, true] (ps := []) (c1 := (8, [some (.ref 34), some (.int a0), some (.int a1)], [.int (1 : Int32), .int (1 : Int32), .int r1, .ref 34], mH S, 0, 0)) rfl trivial ?_
  obtain ⟨r3, h4, h⟩ := mb_b h
  refine mm_ev.call (q := mq64) (q2 := mq62) (b := (8, .invokevirtual 86, 3, 2, 2, 62, 4, 6, [780, 777, 779, 54, 37])) (as := [.ref 34, .int r1, .int (1 : Int32), .int (1 : Int32)]) (r := []) (v := (some (.int r3.1))) (h1 := mH r3.2) rfl rfl rfl rfl ⟨Nat.le_of_ble_eq_true rfl, Nat.le_of_ble_eq_true rfl, Nat.le_of_ble_eq_true rfl⟩ (F62_ok (d + 1) h4) ?_
  refine mm_ev.to (c := (11, [some (.ref 34), some (.int a0), some (.int a1)], [.int r3.1], mH r3.2, 0, 0)) rfl ?_
  by_cases h5 : r3.1 = (0 : Int32)
  · rw [if_pos h5] at h
    refine mm_ev.go [true] (ps := [mm_cmp .eq r3.1 (0 : Int32)]) (c1 := (21, [some (.ref 34), some (.int a0), some (.int a1)], [], mH r3.2, 0, 0)) rfl ⟨h5, trivial⟩ ?_
    cases h
    exact mm_ev.ret (q := mq64) (b := (21, .return_, 1, 3, 0, 0, 0, 0, [])) rfl rfl rfl ⟨Nat.le_of_ble_eq_true rfl, Nat.le_of_ble_eq_true rfl⟩ trivial ⟨rfl, rfl⟩
  · rw [if_neg h5] at h
    refine mm_ev.go [false] (ps := [¬ mm_cmp .eq r3.1 (0 : Int32)]) (c1 := (14, [some (.ref 34), some (.int a0), some (.int a1)], [], mH r3.2, 0, 0)) rfl ⟨h5, trivial⟩ ?_
    obtain ⟨h6, h⟩ := mb_i h
    refine mm_ev.go [true, true, true, true, true] (ps := [mm_in a0 5]) (c1 := (21, [some (.ref 34), some (.int a0), some (.int a1)], [], mH (r3.2.1, (va_up r3.2.2.1 40 (upd (r3.2.2.1 40) a0.toNatClampNeg (vp_nar .boolean a1))), r3.2.2.2), 0, 0)) rfl ⟨h6, trivial⟩ ?_
    cases h
    exact mm_ev.ret (q := mq64) (b := (21, .return_, 1, 3, 0, 0, 0, 0, [])) rfl rfl rfl ⟨Nat.le_of_ble_eq_true rfl, Nat.le_of_ble_eq_true rfl⟩ trivial ⟨rfl, rfl⟩
def I72_22 (S : mSt) (v1 v2 v3 v4 : Int32) : Option (Nat × Int32 × Int32 × Int32 × Int32) := if v2 ≤ v4 then (some (1, 0, 0, 0, v4)) else (if v3 ≤ v4 then (some (1, 0, 0, 0, v4)) else ((F73 S v1).bind fun r4 => (if (S.1 18) < (((v4 + (1 : Int32)) * r4) + (v4 * (S.1 19))) then (some (1, 0, 0, 0, v4)) else (some (0, v1, v2, v3, v4 + (1 : Int32))))))
set_option maxRecDepth 100000 in
set_option maxHeartbeats 4000000 in
theorem I72_22_ok {sc : mS} (d : Nat) {S : mSt} {v1 v2 v3 v4 : Int32} {r : Nat × Int32 × Int32 × Int32 × Int32} (h : I72_22 S v1 v2 v3 v4 = some r) {Q : mR → List mE → Prop} (hc0 : r.1 = 0 → mm_ev sc mmK mmP (d + 1) 72 (22, [some (.ref 34), some (.int r.2.1), some (.int r.2.2.1), some (.int r.2.2.2.1), some (.int r.2.2.2.2)], [], mH S, 0, 0) Q) (hc1 : r.1 = 1 → ∀ u0 : Option Value, ∀ u1 : Option Value, ∀ u2 : Option Value, ∀ u3 : Option Value, mm_ev sc mmK mmP (d + 1) 72 (65, [u0, u1, u2, u3, some (.int r.2.2.2.2)], [], mH S, 0, 0) Q) : mm_ev sc mmK mmP (d + 1) 72 (22, [some (.ref 34), some (.int v1), some (.int v2), some (.int v3), some (.int v4)], [], mH S, 0, 0) Q := by
  unfold I72_22 at h
  by_cases h2 : v2 ≤ v4
  · rw [if_pos h2] at h
    refine mm_ev.go [true, true, true] (ps := [mm_cmp .ge v4 v2]) (c1 := (65, [some (.ref 34), some (.int v1), some (.int v2), some (.int v3), some (.int v4)], [], mH S, 0, 0)) rfl ⟨h2, trivial⟩ ?_
    cases h
    exact hc1 rfl (some (.ref 34)) (some (.int v1)) (some (.int v2)) (some (.int v3))
  · rw [if_neg h2] at h
    refine mm_ev.go [true, true, false] (ps := [¬ mm_cmp .ge v4 v2]) (c1 := (28, [some (.ref 34), some (.int v1), some (.int v2), some (.int v3), some (.int v4)], [], mH S, 0, 0)) rfl ⟨h2, trivial⟩ ?_
    by_cases h3 : v3 ≤ v4
    · rw [if_pos h3] at h
      refine mm_ev.go [true, true, true] (ps := [mm_cmp .ge v4 v3]) (c1 := (65, [some (.ref 34), some (.int v1), some (.int v2), some (.int v3), some (.int v4)], [], mH S, 0, 0)) rfl ⟨h3, trivial⟩ ?_
      cases h
      exact hc1 rfl (some (.ref 34)) (some (.int v1)) (some (.int v2)) (some (.int v3))
    · rw [if_neg h3] at h
      refine mm_ev.go [true, true, false] (ps := [¬ mm_cmp .ge v4 v3]) (c1 := (34, [some (.ref 34), some (.int v1), some (.int v2), some (.int v3), some (.int v4)], [], mH S, 0, 0)) rfl ⟨h3, trivial⟩ ?_
      refine mm_ev.go [true, true, true, true, true] (ps := []) (c1 := (40, [some (.ref 34), some (.int v1), some (.int v2), some (.int v3), some (.int v4)], [.int v1, .ref 34, .int (v4 + (1 : Int32))], mH S, 0, 0)) rfl trivial ?_
      obtain ⟨r4, h5, h⟩ := mb_b h
      refine mm_ev.call (q := mq72) (q2 := mq73) (b := (40, .invokevirtual 113, 3, 2, 2, 73, 2, 6, [825, 822, 824, 54, 43])) (as := [.ref 34, .int v1]) (r := [.int (v4 + (1 : Int32))]) (v := (some (.int r4))) (h1 := mH S) rfl rfl rfl rfl ⟨Nat.le_of_ble_eq_true rfl, Nat.le_of_ble_eq_true rfl, Nat.le_of_ble_eq_true rfl⟩ (F73_ok d h5) ?_
      refine mm_ev.to (c := (43, [some (.ref 34), some (.int v1), some (.int v2), some (.int v3), some (.int v4)], [.int r4, .int (v4 + (1 : Int32))], mH S, 0, 0)) rfl ?_
      by_cases h6 : (S.1 18) < (((v4 + (1 : Int32)) * r4) + (v4 * (S.1 19)))
      · rw [if_pos h6] at h
        refine mm_ev.go [true, true, true, true, true, true, true, true, true] (ps := [mm_cmp .gt (((v4 + (1 : Int32)) * r4) + (v4 * (S.1 19))) (S.1 18)]) (c1 := (65, [some (.ref 34), some (.int v1), some (.int v2), some (.int v3), some (.int v4)], [], mH S, 0, 0)) rfl ⟨h6, trivial⟩ ?_
        cases h
        exact hc1 rfl (some (.ref 34)) (some (.int v1)) (some (.int v2)) (some (.int v3))
      · rw [if_neg h6] at h
        refine mm_ev.go [true, true, true, true, true, true, true, true, false] (ps := [¬ mm_cmp .gt (((v4 + (1 : Int32)) * r4) + (v4 * (S.1 19))) (S.1 18)]) (c1 := (59, [some (.ref 34), some (.int v1), some (.int v2), some (.int v3), some (.int v4)], [], mH S, 0, 0)) rfl ⟨h6, trivial⟩ ?_
        refine mm_ev.go [true, true] (ps := []) (c1 := (22, [some (.ref 34), some (.int v1), some (.int v2), some (.int v3), some (.int (v4 + (1 : Int32)))], [], mH S, 0, 0)) rfl trivial ?_
        cases h
        exact hc0 rfl
def L72_22 : Nat → mSt → Int32 → Int32 → Int32 → Int32 → Option (Nat × Int32 × Int32 × Int32 × Int32)
  | 0, _, _, _, _, _ => none
  | n + 1, S, v1, v2, v3, v4 => (I72_22 S v1 v2 v3 v4).bind fun r => if r.1 = 0 then L72_22 n S r.2.1 r.2.2.1 r.2.2.2.1 r.2.2.2.2 else some r
set_option maxRecDepth 100000 in
set_option maxHeartbeats 4000000 in
theorem L72_22_ok {sc : mS} (d : Nat) {n : Nat} {S : mSt} {v1 v2 v3 v4 : Int32} {r : Nat × Int32 × Int32 × Int32 × Int32} (h : L72_22 n S v1 v2 v3 v4 = some r) {Q : mR → List mE → Prop} (hc1 : r.1 = 1 → ∀ u0 : Option Value, ∀ u1 : Option Value, ∀ u2 : Option Value, ∀ u3 : Option Value, mm_ev sc mmK mmP (d + 1) 72 (65, [u0, u1, u2, u3, some (.int r.2.2.2.2)], [], mH S, 0, 0) Q) : mm_ev sc mmK mmP (d + 1) 72 (22, [some (.ref 34), some (.int v1), some (.int v2), some (.int v3), some (.int v4)], [], mH S, 0, 0) Q := by
  induction n generalizing v1 v2 v3 v4 with
  | zero => cases h
  | succ n ih =>
    unfold L72_22 at h
    obtain ⟨r1, h1, h⟩ := mb_b h
    by_cases h0 : r1.1 = 0
    · rw [if_pos h0] at h
      refine I72_22_ok d h1 (fun _ => ih h) (fun z => absurd z (by omega))
    · rw [if_neg h0] at h
      cases h
      exact I72_22_ok d h1 (fun z => absurd z h0) hc1
/-- SlabPatternsModel.hold -/
def F72 (n : Nat) (S : mSt) (a0 a1 : Int32) : Option (Int32) := if (S.1 22) = (1 : Int32) then ((L72_22 n S a0 a1 (1 : Int32) (0 : Int32)).bind fun r7 => (some r7.2.2.2.2)) else ((L72_22 n S a0 a1 ((S.1 23) + (1 : Int32)) (0 : Int32)).bind fun r10 => (some r10.2.2.2.2))
set_option maxRecDepth 100000 in
set_option maxHeartbeats 4000000 in
theorem F72_ok {sc : mS} (d : Nat) {n : Nat} {S : mSt} {a0 a1 : Int32} {r : Int32} (h : F72 n S a0 a1 = some r) : mm_ev sc mmK mmP (d + 1) 72 (0, mm_en 5 [.ref 34, .int a0, .int a1], [], mH S, 0, 0) (mm_is (.inl (some (.int r))) (mH S)) := by
  unfold F72 at h
  refine mm_ev.to (c := (0, [some (.ref 34), some (.int a0), some (.int a1), none, none], [], mH S, 0, 0)) rfl ?_
  by_cases h1 : (S.1 22) = (1 : Int32)
  · rw [if_pos h1] at h
    refine mm_ev.go [true, true, true, false] (ps := [¬ mm_cmp .ne (S.1 22) (1 : Int32)]) (c1 := (8, [some (.ref 34), some (.int a0), some (.int a1), none, none], [], mH S, 0, 0)) rfl ⟨(fun z => z h1), trivial⟩ ?_
    refine mm_ev.go [true, true, true, true, true] (ps := []) (c1 := (22, [some (.ref 34), some (.int a0), some (.int a1), some (.int (1 : Int32)), some (.int (0 : Int32))], [], mH S, 0, 0)) rfl trivial ?_
    obtain ⟨r7, h8, h⟩ := mb_b h
    refine L72_22_ok d h8 ?_
    · intro h9 o1_0 o1_1 o1_2 o1_3
      refine mm_ev.go [true] (ps := []) (c1 := (67, [o1_0, o1_1, o1_2, o1_3, some (.int r7.2.2.2.2)], [.int r7.2.2.2.2], mH S, 0, 0)) rfl trivial ?_
      cases h
      exact mm_ev.ret (q := mq72) (b := (67, .ireturn, 1, 3, 0, 0, 0, 0, [])) rfl rfl rfl ⟨Nat.le_of_ble_eq_true rfl, Nat.le_of_ble_eq_true rfl⟩ trivial ⟨rfl, rfl⟩
  · rw [if_neg h1] at h
    refine mm_ev.go [true, true, true, true] (ps := [mm_cmp .ne (S.1 22) (1 : Int32)]) (c1 := (12, [some (.ref 34), some (.int a0), some (.int a1), none, none], [], mH S, 0, 0)) rfl ⟨h1, trivial⟩ ?_
    refine mm_ev.go [true, true, true, true, true, true, true] (ps := []) (c1 := (22, [some (.ref 34), some (.int a0), some (.int a1), some (.int ((S.1 23) + (1 : Int32))), some (.int (0 : Int32))], [], mH S, 0, 0)) rfl trivial ?_
    obtain ⟨r10, h11, h⟩ := mb_b h
    refine L72_22_ok d h11 ?_
    · intro h12 o2_0 o2_1 o2_2 o2_3
      refine mm_ev.go [true] (ps := []) (c1 := (67, [o2_0, o2_1, o2_2, o2_3, some (.int r10.2.2.2.2)], [.int r10.2.2.2.2], mH S, 0, 0)) rfl trivial ?_
      cases h
      exact mm_ev.ret (q := mq72) (b := (67, .ireturn, 1, 3, 0, 0, 0, 0, [])) rfl rfl rfl ⟨Nat.le_of_ble_eq_true rfl, Nat.le_of_ble_eq_true rfl⟩ trivial ⟨rfl, rfl⟩
def I75_53 (n : Nat) (S : mSt) (v1 v2 : Int32) : Option (Nat × mSt × Int32 × Int32) := if v2 ≤ (0 : Int32) then (some (1, S, v1, v2)) else ((F76 n S v1 v2).bind fun r7 => (if r7 = (0 : Int32) then (some (0, S, v1, v2 + (-1 : Int32))) else (some (1, S, v1, v2))))
set_option maxRecDepth 100000 in
set_option maxHeartbeats 4000000 in
theorem I75_53_ok {sc : mS} (d : Nat) {n : Nat} {S : mSt} {v1 v2 : Int32} {r : Nat × mSt × Int32 × Int32} (h : I75_53 n S v1 v2 = some r) (o3 : Option Value) {Q : mR → List mE → Prop} (hc0 : r.1 = 0 → ∀ u3 : Option Value, mm_ev sc mmK mmP (d + 2) 75 (53, [some (.ref 34), some (.int r.2.2.1), some (.int r.2.2.2), u3], [], mH r.2.1, 0, 0) Q) (hc1 : r.1 = 1 → ∀ u3 : Option Value, mm_ev sc mmK mmP (d + 2) 75 (72, [some (.ref 34), some (.int r.2.2.1), some (.int r.2.2.2), u3], [], mH r.2.1, 0, 0) Q) : mm_ev sc mmK mmP (d + 2) 75 (53, [some (.ref 34), some (.int v1), some (.int v2), o3], [], mH S, 0, 0) Q := by
  unfold I75_53 at h
  by_cases h6 : v2 ≤ (0 : Int32)
  · rw [if_pos h6] at h
    refine mm_ev.go [true, true] (ps := [mm_cmp .le v2 (0 : Int32)]) (c1 := (72, [some (.ref 34), some (.int v1), some (.int v2), o3], [], mH S, 0, 0)) rfl ⟨h6, trivial⟩ ?_
    cases h
    exact hc1 rfl o3
  · rw [if_neg h6] at h
    refine mm_ev.go [true, false] (ps := [¬ mm_cmp .le v2 (0 : Int32)]) (c1 := (57, [some (.ref 34), some (.int v1), some (.int v2), o3], [], mH S, 0, 0)) rfl ⟨h6, trivial⟩ ?_
    refine mm_ev.go [true, true, true] (ps := []) (c1 := (60, [some (.ref 34), some (.int v1), some (.int v2), o3], [.int v2, .int v1, .ref 34], mH S, 0, 0)) rfl trivial ?_
    obtain ⟨r7, h8, h⟩ := mb_b h
    refine mm_ev.call (q := mq75) (q2 := mq76) (b := (60, .invokevirtual 144, 3, 2, 2, 76, 3, 6, [837, 834, 836, 54, 46])) (as := [.ref 34, .int v1, .int v2]) (r := []) (v := (some (.int r7))) (h1 := mH S) rfl rfl rfl rfl ⟨Nat.le_of_ble_eq_true rfl, Nat.le_of_ble_eq_true rfl, Nat.le_of_ble_eq_true rfl⟩ (F76_ok d h8) ?_
    refine mm_ev.to (c := (63, [some (.ref 34), some (.int v1), some (.int v2), o3], [.int r7], mH S, 0, 0)) rfl ?_
    by_cases h9 : r7 = (0 : Int32)
    · rw [if_pos h9] at h
      refine mm_ev.go [false] (ps := [¬ mm_cmp .ne r7 (0 : Int32)]) (c1 := (66, [some (.ref 34), some (.int v1), some (.int v2), o3], [], mH S, 0, 0)) rfl ⟨(fun z => z h9), trivial⟩ ?_
      refine mm_ev.go [true, true] (ps := []) (c1 := (53, [some (.ref 34), some (.int v1), some (.int (v2 + (-1 : Int32))), o3], [], mH S, 0, 0)) rfl trivial ?_
      cases h
      exact hc0 rfl o3
    · rw [if_neg h9] at h
      refine mm_ev.go [true] (ps := [mm_cmp .ne r7 (0 : Int32)]) (c1 := (72, [some (.ref 34), some (.int v1), some (.int v2), o3], [], mH S, 0, 0)) rfl ⟨h9, trivial⟩ ?_
      cases h
      exact hc1 rfl o3
def L75_53 : Nat → mSt → Int32 → Int32 → Option (Nat × mSt × Int32 × Int32)
  | 0, _, _, _ => none
  | n + 1, S, v1, v2 => (I75_53 n S v1 v2).bind fun r => if r.1 = 0 then L75_53 n r.2.1 r.2.2.1 r.2.2.2 else some r
set_option maxRecDepth 100000 in
set_option maxHeartbeats 4000000 in
theorem L75_53_ok {sc : mS} (d : Nat) {n : Nat} {S : mSt} {v1 v2 : Int32} {r : Nat × mSt × Int32 × Int32} (h : L75_53 n S v1 v2 = some r) (o3 : Option Value) {Q : mR → List mE → Prop} (hc1 : r.1 = 1 → ∀ u3 : Option Value, mm_ev sc mmK mmP (d + 2) 75 (72, [some (.ref 34), some (.int r.2.2.1), some (.int r.2.2.2), u3], [], mH r.2.1, 0, 0) Q) : mm_ev sc mmK mmP (d + 2) 75 (53, [some (.ref 34), some (.int v1), some (.int v2), o3], [], mH S, 0, 0) Q := by
  induction n generalizing S v1 v2 o3 with
  | zero => cases h
  | succ n ih =>
    unfold L75_53 at h
    obtain ⟨r1, h1, h⟩ := mb_b h
    by_cases h0 : r1.1 = 0
    · rw [if_pos h0] at h
      refine I75_53_ok d h1 o3 (fun _ z0 => ih h z0) (fun z => absurd z (by omega))
    · rw [if_neg h0] at h
      cases h
      exact I75_53_ok d h1 o3 (fun z => absurd z h0) hc1
def I75_90 (S : mSt) (v1 v2 v3 : Int32) : Option (Nat × mSt × Int32 × Int32 × Int32) := if (S.1 29) ≤ v3 then (some (1, S, v1, 0, 0)) else (if 0 ≤ v3 ∧ v3.toNatClampNeg < 202 then some (0, (S.1, (va_up S.2.1 48 (upd (S.2.1 48) v3.toNatClampNeg ((S.2.1 48 v3.toNatClampNeg) + v2))), S.2.2), v1, v2, v3 + (1 : Int32)) else none)
set_option maxRecDepth 100000 in
set_option maxHeartbeats 4000000 in
theorem I75_90_ok {sc : mS} (d : Nat) {S : mSt} {v1 v2 v3 : Int32} {r : Nat × mSt × Int32 × Int32 × Int32} (h : I75_90 S v1 v2 v3 = some r) {Q : mR → List mE → Prop} (hc0 : r.1 = 0 → mm_ev sc mmK mmP (d + 2) 75 (90, [some (.ref 34), some (.int r.2.2.1), some (.int r.2.2.2.1), some (.int r.2.2.2.2)], [], mH r.2.1, 0, 0) Q) (hc1 : r.1 = 1 → ∀ u2 : Option Value, ∀ u3 : Option Value, mm_ev sc mmK mmP (d + 2) 75 (118, [some (.ref 34), some (.int r.2.2.1), u2, u3], [], mH r.2.1, 0, 0) Q) : mm_ev sc mmK mmP (d + 2) 75 (90, [some (.ref 34), some (.int v1), some (.int v2), some (.int v3)], [], mH S, 0, 0) Q := by
  unfold I75_90 at h
  by_cases h14 : (S.1 29) ≤ v3
  · rw [if_pos h14] at h
    refine mm_ev.go [true, true, true, true] (ps := [mm_cmp .ge v3 (S.1 29)]) (c1 := (118, [some (.ref 34), some (.int v1), some (.int v2), some (.int v3)], [], mH S, 0, 0)) rfl ⟨h14, trivial⟩ ?_
    cases h
    exact hc1 rfl (some (.int v2)) (some (.int v3))
  · rw [if_neg h14] at h
    refine mm_ev.go [true, true, true, false] (ps := [¬ mm_cmp .ge v3 (S.1 29)]) (c1 := (98, [some (.ref 34), some (.int v1), some (.int v2), some (.int v3)], [], mH S, 0, 0)) rfl ⟨h14, trivial⟩ ?_
    obtain ⟨h15, h⟩ := mb_i h
    refine mm_ev.go [true, true, true, true, true, true, true, true, true, true, true, true] (ps := [mm_in v3 202, mm_in v3 202]) (c1 := (90, [some (.ref 34), some (.int v1), some (.int v2), some (.int (v3 + (1 : Int32)))], [], mH (S.1, (va_up S.2.1 48 (upd (S.2.1 48) v3.toNatClampNeg ((S.2.1 48 v3.toNatClampNeg) + v2))), S.2.2), 0, 0)) rfl ⟨h15, h15, trivial⟩ ?_
    cases h
    exact hc0 rfl
def L75_90 : Nat → mSt → Int32 → Int32 → Int32 → Option (Nat × mSt × Int32 × Int32 × Int32)
  | 0, _, _, _, _ => none
  | n + 1, S, v1, v2, v3 => (I75_90 S v1 v2 v3).bind fun r => if r.1 = 0 then L75_90 n r.2.1 r.2.2.1 r.2.2.2.1 r.2.2.2.2 else some r
set_option maxRecDepth 100000 in
set_option maxHeartbeats 4000000 in
theorem L75_90_ok {sc : mS} (d : Nat) {n : Nat} {S : mSt} {v1 v2 v3 : Int32} {r : Nat × mSt × Int32 × Int32 × Int32} (h : L75_90 n S v1 v2 v3 = some r) {Q : mR → List mE → Prop} (hc1 : r.1 = 1 → ∀ u2 : Option Value, ∀ u3 : Option Value, mm_ev sc mmK mmP (d + 2) 75 (118, [some (.ref 34), some (.int r.2.2.1), u2, u3], [], mH r.2.1, 0, 0) Q) : mm_ev sc mmK mmP (d + 2) 75 (90, [some (.ref 34), some (.int v1), some (.int v2), some (.int v3)], [], mH S, 0, 0) Q := by
  induction n generalizing S v1 v2 v3 with
  | zero => cases h
  | succ n ih =>
    unfold L75_90 at h
    obtain ⟨r1, h1, h⟩ := mb_b h
    by_cases h0 : r1.1 = 0
    · rw [if_pos h0] at h
      refine I75_90_ok d h1 (fun _ => ih h) (fun z => absurd z (by omega))
    · rw [if_neg h0] at h
      cases h
      exact I75_90_ok d h1 (fun z => absurd z h0) hc1
def I75_2 (n : Nat) (S : mSt) (v1 : Int32) : Option (Nat × mSt × Int32) := if (S.1 29) ≤ v1 then (some (1, S, 0)) else (if 0 ≤ v1 ∧ v1.toNatClampNeg < 202 then if ¬ (2 : Int32) = 0 then if ((S.2.1 47 v1.toNatClampNeg) - (S.2.1 47 v1.toNatClampNeg) / (2 : Int32) * (2 : Int32)) = (1 : Int32) then (some (0, S, v1 + (1 : Int32))) else (if 0 ≤ ((S.2.1 47 v1.toNatClampNeg) / (2 : Int32)) ∧ ((S.2.1 47 v1.toNatClampNeg) / (2 : Int32)).toNatClampNeg < 5 then (L75_53 n S v1 ((S.2.1 36 ((S.2.1 47 v1.toNatClampNeg) / (2 : Int32)).toNatClampNeg) - (S.2.1 35 ((S.2.1 47 v1.toNatClampNeg) / (2 : Int32)).toNatClampNeg))).bind fun r10 => (if 0 ≤ r10.2.2.1 ∧ r10.2.2.1.toNatClampNeg < 202 then (L75_90 n (r10.2.1.1, (va_up r10.2.1.2.1 49 (upd (r10.2.1.2.1 49) r10.2.2.1.toNatClampNeg ((r10.2.1.2.1 49 r10.2.2.1.toNatClampNeg) + r10.2.2.2))), r10.2.1.2.2) r10.2.2.1 r10.2.2.2 (r10.2.2.1 + (1 : Int32))).bind fun r16 => (some (0, r16.2.1, r16.2.2.1 + (1 : Int32))) else none) else none) else none else none)
set_option maxRecDepth 100000 in
set_option maxHeartbeats 4000000 in
theorem I75_2_ok {sc : mS} (d : Nat) {n : Nat} {S : mSt} {v1 : Int32} {r : Nat × mSt × Int32} (h : I75_2 n S v1 = some r) (o2 : Option Value) (o3 : Option Value) {Q : mR → List mE → Prop} (hc0 : r.1 = 0 → ∀ u2 : Option Value, ∀ u3 : Option Value, mm_ev sc mmK mmP (d + 2) 75 (2, [some (.ref 34), some (.int r.2.2), u2, u3], [], mH r.2.1, 0, 0) Q) (hc1 : r.1 = 1 → ∀ u0 : Option Value, ∀ u1 : Option Value, ∀ u2 : Option Value, ∀ u3 : Option Value, mm_ev sc mmK mmP (d + 2) 75 (124, [u0, u1, u2, u3], [], mH r.2.1, 0, 0) Q) : mm_ev sc mmK mmP (d + 2) 75 (2, [some (.ref 34), some (.int v1), o2, o3], [], mH S, 0, 0) Q := by
  unfold I75_2 at h
  by_cases h1 : (S.1 29) ≤ v1
  · rw [if_pos h1] at h
    refine mm_ev.go [true, true, true, true] (ps := [mm_cmp .ge v1 (S.1 29)]) (c1 := (124, [some (.ref 34), some (.int v1), o2, o3], [], mH S, 0, 0)) rfl ⟨h1, trivial⟩ ?_
    cases h
    exact hc1 rfl (some (.ref 34)) (some (.int v1)) o2 o3
  · rw [if_neg h1] at h
    refine mm_ev.go [true, true, true, false] (ps := [¬ mm_cmp .ge v1 (S.1 29)]) (c1 := (10, [some (.ref 34), some (.int v1), o2, o3], [], mH S, 0, 0)) rfl ⟨h1, trivial⟩ ?_
    obtain ⟨h2, h⟩ := mb_i h
    obtain ⟨h3, h⟩ := mb_i h
    by_cases h4 : ((S.2.1 47 v1.toNatClampNeg) - (S.2.1 47 v1.toNatClampNeg) / (2 : Int32) * (2 : Int32)) = (1 : Int32)
    · rw [if_pos h4] at h
      refine mm_ev.go [true, true, true, true, true, true, true, false] (ps := [mm_in v1 202, ¬ (2 : Int32) = 0, ¬ mm_cmp .ne ((S.2.1 47 v1.toNatClampNeg) - (S.2.1 47 v1.toNatClampNeg) / (2 : Int32) * (2 : Int32)) (1 : Int32)]) (c1 := (22, [some (.ref 34), some (.int v1), o2, o3], [], mH S, 0, 0)) rfl ⟨h2, h3, (fun z => z h4), trivial⟩ ?_
      refine mm_ev.go [true, true, true] (ps := []) (c1 := (2, [some (.ref 34), some (.int (v1 + (1 : Int32))), o2, o3], [], mH S, 0, 0)) rfl trivial ?_
      cases h
      exact hc0 rfl o2 o3
    · rw [if_neg h4] at h
      refine mm_ev.go [true, true, true, true, true, true, true, true] (ps := [mm_in v1 202, ¬ (2 : Int32) = 0, mm_cmp .ne ((S.2.1 47 v1.toNatClampNeg) - (S.2.1 47 v1.toNatClampNeg) / (2 : Int32) * (2 : Int32)) (1 : Int32)]) (c1 := (25, [some (.ref 34), some (.int v1), o2, o3], [], mH S, 0, 0)) rfl ⟨h2, h3, h4, trivial⟩ ?_
      obtain ⟨h5, h⟩ := mb_i h
      refine mm_ev.go [true, true, true, true, true, true, true, true, true, true, true, true, true, true, true, true, true, true, true, true] (ps := [mm_in v1 202, ¬ (2 : Int32) = 0, mm_in ((S.2.1 47 v1.toNatClampNeg) / (2 : Int32)) 5, mm_in v1 202, ¬ (2 : Int32) = 0, mm_in ((S.2.1 47 v1.toNatClampNeg) / (2 : Int32)) 5]) (c1 := (53, [some (.ref 34), some (.int v1), some (.int ((S.2.1 36 ((S.2.1 47 v1.toNatClampNeg) / (2 : Int32)).toNatClampNeg) - (S.2.1 35 ((S.2.1 47 v1.toNatClampNeg) / (2 : Int32)).toNatClampNeg))), o3], [], mH S, 0, 0)) rfl ⟨h2, h3, h5, h2, h3, h5, trivial⟩ ?_
      obtain ⟨r10, h11, h⟩ := mb_b h
      refine L75_53_ok d h11 o3 ?_
      · intro h12 o1_3
        obtain ⟨h13, h⟩ := mb_i h
        refine mm_ev.go [true, true, true, true, true, true, true, true, true, true, true, true, true, true] (ps := [mm_in r10.2.2.1 202, mm_in r10.2.2.1 202]) (c1 := (90, [some (.ref 34), some (.int r10.2.2.1), some (.int r10.2.2.2), some (.int (r10.2.2.1 + (1 : Int32)))], [], mH (r10.2.1.1, (va_up r10.2.1.2.1 49 (upd (r10.2.1.2.1 49) r10.2.2.1.toNatClampNeg ((r10.2.1.2.1 49 r10.2.2.1.toNatClampNeg) + r10.2.2.2))), r10.2.1.2.2), 0, 0)) rfl ⟨h13, h13, trivial⟩ ?_
        obtain ⟨r16, h17, h⟩ := mb_b h
        refine L75_90_ok d h17 ?_
        · intro h18 o2_2 o2_3
          refine mm_ev.go [true, true] (ps := []) (c1 := (2, [some (.ref 34), some (.int (r16.2.2.1 + (1 : Int32))), o2_2, o2_3], [], mH r16.2.1, 0, 0)) rfl trivial ?_
          cases h
          exact hc0 rfl o2_2 o2_3
def L75_2 : Nat → mSt → Int32 → Option (Nat × mSt × Int32)
  | 0, _, _ => none
  | n + 1, S, v1 => (I75_2 n S v1).bind fun r => if r.1 = 0 then L75_2 n r.2.1 r.2.2 else some r
set_option maxRecDepth 100000 in
set_option maxHeartbeats 4000000 in
theorem L75_2_ok {sc : mS} (d : Nat) {n : Nat} {S : mSt} {v1 : Int32} {r : Nat × mSt × Int32} (h : L75_2 n S v1 = some r) (o2 : Option Value) (o3 : Option Value) {Q : mR → List mE → Prop} (hc1 : r.1 = 1 → ∀ u0 : Option Value, ∀ u1 : Option Value, ∀ u2 : Option Value, ∀ u3 : Option Value, mm_ev sc mmK mmP (d + 2) 75 (124, [u0, u1, u2, u3], [], mH r.2.1, 0, 0) Q) : mm_ev sc mmK mmP (d + 2) 75 (2, [some (.ref 34), some (.int v1), o2, o3], [], mH S, 0, 0) Q := by
  induction n generalizing S v1 o2 o3 with
  | zero => cases h
  | succ n ih =>
    unfold L75_2 at h
    obtain ⟨r1, h1, h⟩ := mb_b h
    by_cases h0 : r1.1 = 0
    · rw [if_pos h0] at h
      refine I75_2_ok d h1 o2 o3 (fun _ z0 z1 => ih h z0 z1) (fun z => absurd z (by omega))
    · rw [if_neg h0] at h
      cases h
      exact I75_2_ok d h1 o2 o3 (fun z => absurd z h0) hc1
/-- SlabPatternsModel.stretch -/
def F75 (n : Nat) (S : mSt) : Option (mSt) := (L75_2 n S (0 : Int32)).bind fun r19 => (some r19.2.1)
set_option maxRecDepth 100000 in
set_option maxHeartbeats 4000000 in
theorem F75_ok {sc : mS} (d : Nat) {n : Nat} {S : mSt} {r : mSt} (h : F75 n S = some r) : mm_ev sc mmK mmP (d + 2) 75 (0, mm_en 4 [.ref 34], [], mH S, 0, 0) (mm_is (.inl none) (mH r)) := by
  unfold F75 at h
  refine mm_ev.to (c := (0, [some (.ref 34), none, none, none], [], mH S, 0, 0)) rfl ?_
  refine mm_ev.go [true, true] (ps := []) (c1 := (2, [some (.ref 34), some (.int (0 : Int32)), none, none], [], mH S, 0, 0)) rfl trivial ?_
  obtain ⟨r19, h20, h⟩ := mb_b h
  refine L75_2_ok d h20 none none ?_
  · intro h21 o3_0 o3_1 o3_2 o3_3
    cases h
    exact mm_ev.ret (q := mq75) (b := (124, .return_, 1, 3, 0, 0, 0, 0, [])) rfl rfl rfl ⟨Nat.le_of_ble_eq_true rfl, Nat.le_of_ble_eq_true rfl⟩ trivial ⟨rfl, rfl⟩
def I82_52 (S : mSt) (v1 v2 v3 v4 v5 : Int32) : Option (Nat × mSt × Int32 × Int32 × Int32 × Int32 × Int32) := if v1 < v5 then (some (1, S, v1, v2, v3, v4, 0)) else (if 0 ≤ v5 ∧ v5.toNatClampNeg < 202 then if ¬ (2 : Int32) = 0 then if ((S.2.1 47 v5.toNatClampNeg) / (2 : Int32)) = (v2 / (2 : Int32)) then (some (0, S, v1, v2, v3, v4 + (S.2.1 50 v5.toNatClampNeg), v5 + (1 : Int32))) else (some (0, S, v1, v2, v3, v4, v5 + (1 : Int32))) else none else none)
set_option maxRecDepth 100000 in
set_option maxHeartbeats 4000000 in
theorem I82_52_ok {sc : mS} (d : Nat) {S : mSt} {v1 v2 v3 v4 v5 : Int32} {r : Nat × mSt × Int32 × Int32 × Int32 × Int32 × Int32} (h : I82_52 S v1 v2 v3 v4 v5 = some r) {Q : mR → List mE → Prop} (hc0 : r.1 = 0 → mm_ev sc mmK mmP (d + 2) 82 (52, [some (.ref 34), some (.int r.2.2.1), some (.int r.2.2.2.1), some (.int r.2.2.2.2.1), some (.int r.2.2.2.2.2.1), some (.int r.2.2.2.2.2.2)], [], mH r.2.1, 0, 0) Q) (hc1 : r.1 = 1 → ∀ u5 : Option Value, mm_ev sc mmK mmP (d + 2) 82 (91, [some (.ref 34), some (.int r.2.2.1), some (.int r.2.2.2.1), some (.int r.2.2.2.2.1), some (.int r.2.2.2.2.2.1), u5], [], mH r.2.1, 0, 0) Q) : mm_ev sc mmK mmP (d + 2) 82 (52, [some (.ref 34), some (.int v1), some (.int v2), some (.int v3), some (.int v4), some (.int v5)], [], mH S, 0, 0) Q := by
  unfold I82_52 at h
  by_cases h6 : v1 < v5
  · rw [if_pos h6] at h
    refine mm_ev.go [true, true, true] (ps := [mm_cmp .gt v5 v1]) (c1 := (91, [some (.ref 34), some (.int v1), some (.int v2), some (.int v3), some (.int v4), some (.int v5)], [], mH S, 0, 0)) rfl ⟨h6, trivial⟩ ?_
    cases h
    exact hc1 rfl (some (.int v5))
  · rw [if_neg h6] at h
    refine mm_ev.go [true, true, false] (ps := [¬ mm_cmp .gt v5 v1]) (c1 := (58, [some (.ref 34), some (.int v1), some (.int v2), some (.int v3), some (.int v4), some (.int v5)], [], mH S, 0, 0)) rfl ⟨h6, trivial⟩ ?_
    obtain ⟨h7, h⟩ := mb_i h
    obtain ⟨h8, h⟩ := mb_i h
    by_cases h9 : ((S.2.1 47 v5.toNatClampNeg) / (2 : Int32)) = (v2 / (2 : Int32))
    · rw [if_pos h9] at h
      refine mm_ev.go [true, true, true, true, true, true, true, true, true, false] (ps := [mm_in v5 202, ¬ (2 : Int32) = 0, ¬ (2 : Int32) = 0, ¬ mm_cmp .ne ((S.2.1 47 v5.toNatClampNeg) / (2 : Int32)) (v2 / (2 : Int32))]) (c1 := (73, [some (.ref 34), some (.int v1), some (.int v2), some (.int v3), some (.int v4), some (.int v5)], [], mH S, 0, 0)) rfl ⟨h7, h8, h8, (fun z => z h9), trivial⟩ ?_
      refine mm_ev.go [true, true, true, true, true, true, true, true, true] (ps := [mm_in v5 202]) (c1 := (52, [some (.ref 34), some (.int v1), some (.int v2), some (.int v3), some (.int (v4 + (S.2.1 50 v5.toNatClampNeg))), some (.int (v5 + (1 : Int32)))], [], mH S, 0, 0)) rfl ⟨h7, trivial⟩ ?_
      cases h
      exact hc0 rfl
    · rw [if_neg h9] at h
      refine mm_ev.go [true, true, true, true, true, true, true, true, true, true] (ps := [mm_in v5 202, ¬ (2 : Int32) = 0, ¬ (2 : Int32) = 0, mm_cmp .ne ((S.2.1 47 v5.toNatClampNeg) / (2 : Int32)) (v2 / (2 : Int32))]) (c1 := (85, [some (.ref 34), some (.int v1), some (.int v2), some (.int v3), some (.int v4), some (.int v5)], [], mH S, 0, 0)) rfl ⟨h7, h8, h8, h9, trivial⟩ ?_
      refine mm_ev.go [true, true] (ps := []) (c1 := (52, [some (.ref 34), some (.int v1), some (.int v2), some (.int v3), some (.int v4), some (.int (v5 + (1 : Int32)))], [], mH S, 0, 0)) rfl trivial ?_
      cases h
      exact hc0 rfl
def L82_52 : Nat → mSt → Int32 → Int32 → Int32 → Int32 → Int32 → Option (Nat × mSt × Int32 × Int32 × Int32 × Int32 × Int32)
  | 0, _, _, _, _, _, _ => none
  | n + 1, S, v1, v2, v3, v4, v5 => (I82_52 S v1 v2 v3 v4 v5).bind fun r => if r.1 = 0 then L82_52 n r.2.1 r.2.2.1 r.2.2.2.1 r.2.2.2.2.1 r.2.2.2.2.2.1 r.2.2.2.2.2.2 else some r
set_option maxRecDepth 100000 in
set_option maxHeartbeats 4000000 in
theorem L82_52_ok {sc : mS} (d : Nat) {n : Nat} {S : mSt} {v1 v2 v3 v4 v5 : Int32} {r : Nat × mSt × Int32 × Int32 × Int32 × Int32 × Int32} (h : L82_52 n S v1 v2 v3 v4 v5 = some r) {Q : mR → List mE → Prop} (hc1 : r.1 = 1 → ∀ u5 : Option Value, mm_ev sc mmK mmP (d + 2) 82 (91, [some (.ref 34), some (.int r.2.2.1), some (.int r.2.2.2.1), some (.int r.2.2.2.2.1), some (.int r.2.2.2.2.2.1), u5], [], mH r.2.1, 0, 0) Q) : mm_ev sc mmK mmP (d + 2) 82 (52, [some (.ref 34), some (.int v1), some (.int v2), some (.int v3), some (.int v4), some (.int v5)], [], mH S, 0, 0) Q := by
  induction n generalizing S v1 v2 v3 v4 v5 with
  | zero => cases h
  | succ n ih =>
    unfold L82_52 at h
    obtain ⟨r1, h1, h⟩ := mb_b h
    by_cases h0 : r1.1 = 0
    · rw [if_pos h0] at h
      refine I82_52_ok d h1 (fun _ => ih h) (fun z => absurd z (by omega))
    · rw [if_neg h0] at h
      cases h
      exact I82_52_ok d h1 (fun z => absurd z h0) hc1
def I82_17 (n : Nat) (S : mSt) (v1 : Int32) : Option (Nat × mSt × Int32) := if (S.1 29) ≤ v1 then (some (1, S, 0)) else (if 0 ≤ v1 ∧ v1.toNatClampNeg < 202 then (L82_52 n S v1 (S.2.1 47 v1.toNatClampNeg) ((S.2.1 48 v1.toNatClampNeg) + (S.2.1 49 v1.toNatClampNeg)) (0 : Int32) (0 : Int32)).bind fun r10 => (if 0 ≤ r10.2.2.1 ∧ r10.2.2.1.toNatClampNeg < 202 then if (r10.2.1.2.1 48 r10.2.2.1.toNatClampNeg) < (r10.2.1.1 20) then (some (2, r10.2.1, r10.2.2.1)) else (if r10.2.2.2.2.1 ≤ ((r10.2.1.1 17) - (r10.2.1.1 21)) then ((F71 n r10.2.1 (r10.2.1.2.1 48 r10.2.2.1.toNatClampNeg)).bind fun r16 => (if r16 = (0 : Int32) then ((F71 n r10.2.1 r10.2.2.2.2.1).bind fun r19 => (if r19 = (0 : Int32) then (if ¬ (2 : Int32) = 0 then if 0 ≤ (r10.2.2.2.1 / (2 : Int32)) ∧ (r10.2.2.2.1 / (2 : Int32)).toNatClampNeg < 5 then if (r10.2.1.2.1 39 (r10.2.2.2.1 / (2 : Int32)).toNatClampNeg) < r10.2.2.2.2.2.1 then (some (2, r10.2.1, r10.2.2.1)) else ((F72 n r10.2.1 r10.2.2.2.1 (r10.2.1.2.1 50 r10.2.2.1.toNatClampNeg)).bind fun r25 => (if (r10.2.1.2.1 50 r10.2.2.1.toNatClampNeg) ≤ r25 then (some (0, r10.2.1, r10.2.2.1 + (1 : Int32))) else (some (2, r10.2.1, r10.2.2.1)))) else none else none) else (some (2, r10.2.1, r10.2.2.1)))) else (some (2, r10.2.1, r10.2.2.1)))) else (some (2, r10.2.1, r10.2.2.1))) else none) else none)
set_option maxRecDepth 100000 in
set_option maxHeartbeats 4000000 in
theorem I82_17_ok {sc : mS} (d : Nat) {n : Nat} {S : mSt} {v1 : Int32} {r : Nat × mSt × Int32} (h : I82_17 n S v1 = some r) (o2 : Option Value) (o3 : Option Value) (o4 : Option Value) (o5 : Option Value) {Q : mR → List mE → Prop} (hc0 : r.1 = 0 → ∀ u2 : Option Value, ∀ u3 : Option Value, ∀ u4 : Option Value, ∀ u5 : Option Value, mm_ev sc mmK mmP (d + 2) 82 (17, [some (.ref 34), some (.int r.2.2), u2, u3, u4, u5], [], mH r.2.1, 0, 0) Q) (hc1 : r.1 = 1 → ∀ u0 : Option Value, ∀ u1 : Option Value, ∀ u2 : Option Value, ∀ u3 : Option Value, ∀ u4 : Option Value, ∀ u5 : Option Value, mm_ev sc mmK mmP (d + 2) 82 (193, [u0, u1, u2, u3, u4, u5], [], mH r.2.1, 0, 0) Q) (hc2 : r.1 = 2 → ∀ u0 : Option Value, ∀ u2 : Option Value, ∀ u3 : Option Value, ∀ u4 : Option Value, ∀ u5 : Option Value, mm_ev sc mmK mmP (d + 2) 82 (183, [u0, some (.int r.2.2), u2, u3, u4, u5], [], mH r.2.1, 0, 0) Q) : mm_ev sc mmK mmP (d + 2) 82 (17, [some (.ref 34), some (.int v1), o2, o3, o4, o5], [], mH S, 0, 0) Q := by
  unfold I82_17 at h
  by_cases h4 : (S.1 29) ≤ v1
  · rw [if_pos h4] at h
    refine mm_ev.go [true, true, true, true] (ps := [mm_cmp .ge v1 (S.1 29)]) (c1 := (193, [some (.ref 34), some (.int v1), o2, o3, o4, o5], [], mH S, 0, 0)) rfl ⟨h4, trivial⟩ ?_
    cases h
    exact hc1 rfl (some (.ref 34)) (some (.int v1)) o2 o3 o4 o5
  · rw [if_neg h4] at h
    refine mm_ev.go [true, true, true, false] (ps := [¬ mm_cmp .ge v1 (S.1 29)]) (c1 := (25, [some (.ref 34), some (.int v1), o2, o3, o4, o5], [], mH S, 0, 0)) rfl ⟨h4, trivial⟩ ?_
    obtain ⟨h5, h⟩ := mb_i h
    refine mm_ev.go [true, true, true, true, true, true, true, true, true, true, true, true, true, true, true, true, true, true, true] (ps := [mm_in v1 202, mm_in v1 202, mm_in v1 202]) (c1 := (52, [some (.ref 34), some (.int v1), some (.int (S.2.1 47 v1.toNatClampNeg)), some (.int ((S.2.1 48 v1.toNatClampNeg) + (S.2.1 49 v1.toNatClampNeg))), some (.int (0 : Int32)), some (.int (0 : Int32))], [], mH S, 0, 0)) rfl ⟨h5, h5, h5, trivial⟩ ?_
    obtain ⟨r10, h11, h⟩ := mb_b h
    refine L82_52_ok d h11 ?_
    · intro h12 o1_5
      obtain ⟨h13, h⟩ := mb_i h
      by_cases h14 : (r10.2.1.2.1 48 r10.2.2.1.toNatClampNeg) < (r10.2.1.1 20)
      · rw [if_pos h14] at h
        refine mm_ev.go [true, true, true, true, true, true, true] (ps := [mm_in r10.2.2.1 202, mm_cmp .lt (r10.2.1.2.1 48 r10.2.2.1.toNatClampNeg) (r10.2.1.1 20)]) (c1 := (117, [some (.ref 34), some (.int r10.2.2.1), some (.int r10.2.2.2.1), some (.int r10.2.2.2.2.1), some (.int r10.2.2.2.2.2.1), o1_5], [], mH r10.2.1, 0, 0)) rfl ⟨h13, h14, trivial⟩ ?_
        refine mm_ev.go [true, true, true, true, true] (ps := [mm_cmp .ne (1 : Int32) (0 : Int32)]) (c1 := (183, [some (.ref 34), some (.int r10.2.2.1), some (.int r10.2.2.2.1), some (.int r10.2.2.2.2.1), some (.int r10.2.2.2.2.2.1), some (.int (1 : Int32))], [], mH r10.2.1, 0, 0)) rfl ⟨(show ¬ (1 : Int32) = (0 : Int32) from by decide), trivial⟩ ?_
        cases h
        exact hc2 rfl (some (.ref 34)) (some (.int r10.2.2.2.1)) (some (.int r10.2.2.2.2.1)) (some (.int r10.2.2.2.2.2.1)) (some (.int (1 : Int32)))
      · rw [if_neg h14] at h
        refine mm_ev.go [true, true, true, true, true, true, false] (ps := [mm_in r10.2.2.1 202, ¬ mm_cmp .lt (r10.2.1.2.1 48 r10.2.2.1.toNatClampNeg) (r10.2.1.1 20)]) (c1 := (104, [some (.ref 34), some (.int r10.2.2.1), some (.int r10.2.2.2.1), some (.int r10.2.2.2.2.1), some (.int r10.2.2.2.2.2.1), o1_5], [], mH r10.2.1, 0, 0)) rfl ⟨h13, h14, trivial⟩ ?_
        by_cases h15 : r10.2.2.2.2.1 ≤ ((r10.2.1.1 17) - (r10.2.1.1 21))
        · rw [if_pos h15] at h
          refine mm_ev.go [true, true, true, true, true, true, true] (ps := [mm_cmp .le r10.2.2.2.2.1 ((r10.2.1.1 17) - (r10.2.1.1 21))]) (c1 := (121, [some (.ref 34), some (.int r10.2.2.1), some (.int r10.2.2.2.1), some (.int r10.2.2.2.2.1), some (.int r10.2.2.2.2.2.1), o1_5], [], mH r10.2.1, 0, 0)) rfl ⟨h15, trivial⟩ ?_
          refine mm_ev.go [true, true, true, false, true, true, true, true, true] (ps := [¬ mm_cmp .ne (0 : Int32) (0 : Int32), mm_in r10.2.2.1 202]) (c1 := (136, [some (.ref 34), some (.int r10.2.2.1), some (.int r10.2.2.2.1), some (.int r10.2.2.2.2.1), some (.int r10.2.2.2.2.2.1), some (.int (0 : Int32))], [.int (r10.2.1.2.1 48 r10.2.2.1.toNatClampNeg), .ref 34], mH r10.2.1, 0, 0)) rfl ⟨(show ¬ (¬ (0 : Int32) = (0 : Int32)) from by decide), h13, trivial⟩ ?_
          obtain ⟨r16, h17, h⟩ := mb_b h
          refine mm_ev.call (q := mq82) (q2 := mq71) (b := (136, .invokevirtual 120, 3, 2, 2, 71, 2, 6, [817, 814, 816, 54, 41])) (as := [.ref 34, .int (r10.2.1.2.1 48 r10.2.2.1.toNatClampNeg)]) (r := []) (v := (some (.int r16))) (h1 := mH r10.2.1) rfl rfl rfl rfl ⟨Nat.le_of_ble_eq_true rfl, Nat.le_of_ble_eq_true rfl, Nat.le_of_ble_eq_true rfl⟩ (F71_ok (d + 1) h17) ?_
          refine mm_ev.to (c := (139, [some (.ref 34), some (.int r10.2.2.1), some (.int r10.2.2.2.1), some (.int r10.2.2.2.2.1), some (.int r10.2.2.2.2.2.1), some (.int (0 : Int32))], [.int r16], mH r10.2.1, 0, 0)) rfl ?_
          by_cases h18 : r16 = (0 : Int32)
          · rw [if_pos h18] at h
            refine mm_ev.go [false] (ps := [¬ mm_cmp .ne r16 (0 : Int32)]) (c1 := (142, [some (.ref 34), some (.int r10.2.2.1), some (.int r10.2.2.2.1), some (.int r10.2.2.2.2.1), some (.int r10.2.2.2.2.2.1), some (.int (0 : Int32))], [], mH r10.2.1, 0, 0)) rfl ⟨(fun z => z h18), trivial⟩ ?_
            refine mm_ev.go [true, true] (ps := []) (c1 := (144, [some (.ref 34), some (.int r10.2.2.1), some (.int r10.2.2.2.1), some (.int r10.2.2.2.2.1), some (.int r10.2.2.2.2.2.1), some (.int (0 : Int32))], [.int r10.2.2.2.2.1, .ref 34], mH r10.2.1, 0, 0)) rfl trivial ?_
            obtain ⟨r19, h20, h⟩ := mb_b h
            refine mm_ev.call (q := mq82) (q2 := mq71) (b := (144, .invokevirtual 120, 3, 2, 2, 71, 2, 6, [817, 814, 816, 54, 41])) (as := [.ref 34, .int r10.2.2.2.2.1]) (r := []) (v := (some (.int r19))) (h1 := mH r10.2.1) rfl rfl rfl rfl ⟨Nat.le_of_ble_eq_true rfl, Nat.le_of_ble_eq_true rfl, Nat.le_of_ble_eq_true rfl⟩ (F71_ok (d + 1) h20) ?_
            refine mm_ev.to (c := (147, [some (.ref 34), some (.int r10.2.2.1), some (.int r10.2.2.2.1), some (.int r10.2.2.2.2.1), some (.int r10.2.2.2.2.2.1), some (.int (0 : Int32))], [.int r19], mH r10.2.1, 0, 0)) rfl ?_
            by_cases h21 : r19 = (0 : Int32)
            · rw [if_pos h21] at h
              refine mm_ev.go [false] (ps := [¬ mm_cmp .ne r19 (0 : Int32)]) (c1 := (150, [some (.ref 34), some (.int r10.2.2.1), some (.int r10.2.2.2.1), some (.int r10.2.2.2.2.1), some (.int r10.2.2.2.2.2.1), some (.int (0 : Int32))], [], mH r10.2.1, 0, 0)) rfl ⟨(fun z => z h21), trivial⟩ ?_
              obtain ⟨h22, h⟩ := mb_i h
              obtain ⟨h23, h⟩ := mb_i h
              by_cases h24 : (r10.2.1.2.1 39 (r10.2.2.2.1 / (2 : Int32)).toNatClampNeg) < r10.2.2.2.2.2.1
              · rw [if_pos h24] at h
                refine mm_ev.go [true, true, true, true, true, true, true, true] (ps := [¬ (2 : Int32) = 0, mm_in (r10.2.2.2.1 / (2 : Int32)) 5, mm_cmp .gt r10.2.2.2.2.2.1 (r10.2.1.2.1 39 (r10.2.2.2.1 / (2 : Int32)).toNatClampNeg)]) (c1 := (183, [some (.ref 34), some (.int r10.2.2.1), some (.int r10.2.2.2.1), some (.int r10.2.2.2.2.1), some (.int r10.2.2.2.2.2.1), some (.int (0 : Int32))], [], mH r10.2.1, 0, 0)) rfl ⟨h22, h23, h24, trivial⟩ ?_
                cases h
                exact hc2 rfl (some (.ref 34)) (some (.int r10.2.2.2.1)) (some (.int r10.2.2.2.2.1)) (some (.int r10.2.2.2.2.2.1)) (some (.int (0 : Int32)))
              · rw [if_neg h24] at h
                refine mm_ev.go [true, true, true, true, true, true, true, false] (ps := [¬ (2 : Int32) = 0, mm_in (r10.2.2.2.1 / (2 : Int32)) 5, ¬ mm_cmp .gt r10.2.2.2.2.2.1 (r10.2.1.2.1 39 (r10.2.2.2.1 / (2 : Int32)).toNatClampNeg)]) (c1 := (163, [some (.ref 34), some (.int r10.2.2.1), some (.int r10.2.2.2.1), some (.int r10.2.2.2.2.1), some (.int r10.2.2.2.2.2.1), some (.int (0 : Int32))], [], mH r10.2.1, 0, 0)) rfl ⟨h22, h23, h24, trivial⟩ ?_
                refine mm_ev.go [true, true, true, true, true, true] (ps := [mm_in r10.2.2.1 202]) (c1 := (171, [some (.ref 34), some (.int r10.2.2.1), some (.int r10.2.2.2.1), some (.int r10.2.2.2.2.1), some (.int r10.2.2.2.2.2.1), some (.int (0 : Int32))], [.int (r10.2.1.2.1 50 r10.2.2.1.toNatClampNeg), .int r10.2.2.2.1, .ref 34], mH r10.2.1, 0, 0)) rfl ⟨h13, trivial⟩ ?_
                obtain ⟨r25, h26, h⟩ := mb_b h
                refine mm_ev.call (q := mq82) (q2 := mq72) (b := (171, .invokevirtual 123, 3, 2, 2, 72, 3, 6, [821, 818, 820, 54, 42])) (as := [.ref 34, .int r10.2.2.2.1, .int (r10.2.1.2.1 50 r10.2.2.1.toNatClampNeg)]) (r := []) (v := (some (.int r25))) (h1 := mH r10.2.1) rfl rfl rfl rfl ⟨Nat.le_of_ble_eq_true rfl, Nat.le_of_ble_eq_true rfl, Nat.le_of_ble_eq_true rfl⟩ (F72_ok d h26) ?_
                refine mm_ev.to (c := (174, [some (.ref 34), some (.int r10.2.2.1), some (.int r10.2.2.2.1), some (.int r10.2.2.2.2.1), some (.int r10.2.2.2.2.2.1), some (.int (0 : Int32))], [.int r25], mH r10.2.1, 0, 0)) rfl ?_
                by_cases h27 : (r10.2.1.2.1 50 r10.2.2.1.toNatClampNeg) ≤ r25
                · rw [if_pos h27] at h
                  refine mm_ev.go [true, true, true, true, true] (ps := [mm_in r10.2.2.1 202, mm_cmp .ge r25 (r10.2.1.2.1 50 r10.2.2.1.toNatClampNeg)]) (c1 := (187, [some (.ref 34), some (.int r10.2.2.1), some (.int r10.2.2.2.1), some (.int r10.2.2.2.2.1), some (.int r10.2.2.2.2.2.1), some (.int (0 : Int32))], [], mH r10.2.1, 0, 0)) rfl ⟨h13, h27, trivial⟩ ?_
                  refine mm_ev.go [true, true] (ps := []) (c1 := (17, [some (.ref 34), some (.int (r10.2.2.1 + (1 : Int32))), some (.int r10.2.2.2.1), some (.int r10.2.2.2.2.1), some (.int r10.2.2.2.2.2.1), some (.int (0 : Int32))], [], mH r10.2.1, 0, 0)) rfl trivial ?_
                  cases h
                  exact hc0 rfl (some (.int r10.2.2.2.1)) (some (.int r10.2.2.2.2.1)) (some (.int r10.2.2.2.2.2.1)) (some (.int (0 : Int32)))
                · rw [if_neg h27] at h
                  refine mm_ev.go [true, true, true, true, false] (ps := [mm_in r10.2.2.1 202, ¬ mm_cmp .ge r25 (r10.2.1.2.1 50 r10.2.2.1.toNatClampNeg)]) (c1 := (183, [some (.ref 34), some (.int r10.2.2.1), some (.int r10.2.2.2.1), some (.int r10.2.2.2.2.1), some (.int r10.2.2.2.2.2.1), some (.int (0 : Int32))], [], mH r10.2.1, 0, 0)) rfl ⟨h13, h27, trivial⟩ ?_
                  cases h
                  exact hc2 rfl (some (.ref 34)) (some (.int r10.2.2.2.1)) (some (.int r10.2.2.2.2.1)) (some (.int r10.2.2.2.2.2.1)) (some (.int (0 : Int32)))
            · rw [if_neg h21] at h
              refine mm_ev.go [true] (ps := [mm_cmp .ne r19 (0 : Int32)]) (c1 := (183, [some (.ref 34), some (.int r10.2.2.1), some (.int r10.2.2.2.1), some (.int r10.2.2.2.2.1), some (.int r10.2.2.2.2.2.1), some (.int (0 : Int32))], [], mH r10.2.1, 0, 0)) rfl ⟨h21, trivial⟩ ?_
              cases h
              exact hc2 rfl (some (.ref 34)) (some (.int r10.2.2.2.1)) (some (.int r10.2.2.2.2.1)) (some (.int r10.2.2.2.2.2.1)) (some (.int (0 : Int32)))
          · rw [if_neg h18] at h
            refine mm_ev.go [true] (ps := [mm_cmp .ne r16 (0 : Int32)]) (c1 := (183, [some (.ref 34), some (.int r10.2.2.1), some (.int r10.2.2.2.1), some (.int r10.2.2.2.2.1), some (.int r10.2.2.2.2.2.1), some (.int (0 : Int32))], [], mH r10.2.1, 0, 0)) rfl ⟨h18, trivial⟩ ?_
            cases h
            exact hc2 rfl (some (.ref 34)) (some (.int r10.2.2.2.1)) (some (.int r10.2.2.2.2.1)) (some (.int r10.2.2.2.2.2.1)) (some (.int (0 : Int32)))
        · rw [if_neg h15] at h
          refine mm_ev.go [true, true, true, true, true, true, false] (ps := [¬ mm_cmp .le r10.2.2.2.2.1 ((r10.2.1.1 17) - (r10.2.1.1 21))]) (c1 := (117, [some (.ref 34), some (.int r10.2.2.1), some (.int r10.2.2.2.1), some (.int r10.2.2.2.2.1), some (.int r10.2.2.2.2.2.1), o1_5], [], mH r10.2.1, 0, 0)) rfl ⟨h15, trivial⟩ ?_
          refine mm_ev.go [true, true, true, true, true] (ps := [mm_cmp .ne (1 : Int32) (0 : Int32)]) (c1 := (183, [some (.ref 34), some (.int r10.2.2.1), some (.int r10.2.2.2.1), some (.int r10.2.2.2.2.1), some (.int r10.2.2.2.2.2.1), some (.int (1 : Int32))], [], mH r10.2.1, 0, 0)) rfl ⟨(show ¬ (1 : Int32) = (0 : Int32) from by decide), trivial⟩ ?_
          cases h
          exact hc2 rfl (some (.ref 34)) (some (.int r10.2.2.2.1)) (some (.int r10.2.2.2.2.1)) (some (.int r10.2.2.2.2.2.1)) (some (.int (1 : Int32)))
def L82_17 : Nat → mSt → Int32 → Option (Nat × mSt × Int32)
  | 0, _, _ => none
  | n + 1, S, v1 => (I82_17 n S v1).bind fun r => if r.1 = 0 then L82_17 n r.2.1 r.2.2 else some r
set_option maxRecDepth 100000 in
set_option maxHeartbeats 4000000 in
theorem L82_17_ok {sc : mS} (d : Nat) {n : Nat} {S : mSt} {v1 : Int32} {r : Nat × mSt × Int32} (h : L82_17 n S v1 = some r) (o2 : Option Value) (o3 : Option Value) (o4 : Option Value) (o5 : Option Value) {Q : mR → List mE → Prop} (hc1 : r.1 = 1 → ∀ u0 : Option Value, ∀ u1 : Option Value, ∀ u2 : Option Value, ∀ u3 : Option Value, ∀ u4 : Option Value, ∀ u5 : Option Value, mm_ev sc mmK mmP (d + 2) 82 (193, [u0, u1, u2, u3, u4, u5], [], mH r.2.1, 0, 0) Q) (hc2 : r.1 = 2 → ∀ u0 : Option Value, ∀ u2 : Option Value, ∀ u3 : Option Value, ∀ u4 : Option Value, ∀ u5 : Option Value, mm_ev sc mmK mmP (d + 2) 82 (183, [u0, some (.int r.2.2), u2, u3, u4, u5], [], mH r.2.1, 0, 0) Q) : mm_ev sc mmK mmP (d + 2) 82 (17, [some (.ref 34), some (.int v1), o2, o3, o4, o5], [], mH S, 0, 0) Q := by
  induction n generalizing S v1 o2 o3 o4 o5 with
  | zero => cases h
  | succ n ih =>
    unfold L82_17 at h
    obtain ⟨r1, h1, h⟩ := mb_b h
    by_cases h0 : r1.1 = 0
    · rw [if_pos h0] at h
      refine I82_17_ok d h1 o2 o3 o4 o5 (fun _ z0 z1 z2 z3 => ih h z0 z1 z2 z3) (fun z => absurd z (by omega)) (fun z => absurd z (by omega))
    · rw [if_neg h0] at h
      cases h
      exact I82_17_ok d h1 o2 o3 o4 o5 (fun z => absurd z h0) hc1 hc2
/-- SlabPatternsModel.check -/
def F82 (n : Nat) (S : mSt) : Option (Int32 × mSt) := (F62 S (S.1 27) (1 : Int32) (1 : Int32)).bind fun r1 => (if r1.1 = (0 : Int32) then (some (((0 : Int32), r1.2))) else ((L82_17 n r1.2 (0 : Int32)).bind fun r28 => (if r28.1 = 1 then (some (((0 : Int32), r28.2.1))) else (if r28.1 = 2 then (some ((r28.2.2 + (1 : Int32), r28.2.1))) else none))))
set_option maxRecDepth 100000 in
set_option maxHeartbeats 4000000 in
theorem F82_ok {sc : mS} (d : Nat) {n : Nat} {S : mSt} {r : Int32 × mSt} (h : F82 n S = some r) : mm_ev sc mmK mmP (d + 2) 82 (0, mm_en 6 [.ref 34], [], mH S, 0, 0) (mm_is (.inl (some (.int r.1))) (mH r.2)) := by
  unfold F82 at h
  refine mm_ev.to (c := (0, [some (.ref 34), none, none, none, none, none], [], mH S, 0, 0)) rfl ?_
  refine mm_ev.go [true, true, true, true, true] (ps := []) (c1 := (7, [some (.ref 34), none, none, none, none, none], [.int (1 : Int32), .int (1 : Int32), .int (S.1 27), .ref 34], mH S, 0, 0)) rfl trivial ?_
  obtain ⟨r1, h2, h⟩ := mb_b h
  refine mm_ev.call (q := mq82) (q2 := mq62) (b := (7, .invokevirtual 86, 3, 2, 2, 62, 4, 6, [780, 777, 779, 54, 37])) (as := [.ref 34, .int (S.1 27), .int (1 : Int32), .int (1 : Int32)]) (r := []) (v := (some (.int r1.1))) (h1 := mH r1.2) rfl rfl rfl rfl ⟨Nat.le_of_ble_eq_true rfl, Nat.le_of_ble_eq_true rfl, Nat.le_of_ble_eq_true rfl⟩ (F62_ok (d + 1) h2) ?_
  refine mm_ev.to (c := (10, [some (.ref 34), none, none, none, none, none], [.int r1.1], mH r1.2, 0, 0)) rfl ?_
  by_cases h3 : r1.1 = (0 : Int32)
  · rw [if_pos h3] at h
    refine mm_ev.go [false] (ps := [¬ mm_cmp .ne r1.1 (0 : Int32)]) (c1 := (13, [some (.ref 34), none, none, none, none, none], [], mH r1.2, 0, 0)) rfl ⟨(fun z => z h3), trivial⟩ ?_
    refine mm_ev.go [true] (ps := []) (c1 := (14, [some (.ref 34), none, none, none, none, none], [.int (0 : Int32)], mH r1.2, 0, 0)) rfl trivial ?_
    cases h
    exact mm_ev.ret (q := mq82) (b := (14, .ireturn, 1, 3, 0, 0, 0, 0, [])) rfl rfl rfl ⟨Nat.le_of_ble_eq_true rfl, Nat.le_of_ble_eq_true rfl⟩ trivial ⟨rfl, rfl⟩
  · rw [if_neg h3] at h
    refine mm_ev.go [true] (ps := [mm_cmp .ne r1.1 (0 : Int32)]) (c1 := (15, [some (.ref 34), none, none, none, none, none], [], mH r1.2, 0, 0)) rfl ⟨h3, trivial⟩ ?_
    refine mm_ev.go [true, true] (ps := []) (c1 := (17, [some (.ref 34), some (.int (0 : Int32)), none, none, none, none], [], mH r1.2, 0, 0)) rfl trivial ?_
    obtain ⟨r28, h29, h⟩ := mb_b h
    refine L82_17_ok d h29 none none none none ?_ ?_
    · intro h30 o2_0 o2_1 o2_2 o2_3 o2_4 o2_5
      rw [if_pos h30] at h
      refine mm_ev.go [true] (ps := []) (c1 := (194, [o2_0, o2_1, o2_2, o2_3, o2_4, o2_5], [.int (0 : Int32)], mH r28.2.1, 0, 0)) rfl trivial ?_
      cases h
      exact mm_ev.ret (q := mq82) (b := (194, .ireturn, 1, 3, 0, 0, 0, 0, [])) rfl rfl rfl ⟨Nat.le_of_ble_eq_true rfl, Nat.le_of_ble_eq_true rfl⟩ trivial ⟨rfl, rfl⟩
    · intro h31 o3_0 o3_2 o3_3 o3_4 o3_5
      rw [if_neg (by rw [h31]; decide)] at h
      rw [if_pos h31] at h
      refine mm_ev.go [true, true, true] (ps := []) (c1 := (186, [o3_0, some (.int r28.2.2), o3_2, o3_3, o3_4, o3_5], [.int (r28.2.2 + (1 : Int32))], mH r28.2.1, 0, 0)) rfl trivial ?_
      cases h
      exact mm_ev.ret (q := mq82) (b := (186, .ireturn, 1, 3, 0, 0, 0, 0, [])) rfl rfl rfl ⟨Nat.le_of_ble_eq_true rfl, Nat.le_of_ble_eq_true rfl⟩ trivial ⟨rfl, rfl⟩
/-- SlabPatternsLaw.plate -/
def F84 (S : mSt) (a1 a2 a3 : Int32) : Option (Int32 × mSt) := (F5 S a1 a2 a3).bind fun r1 => if r1.1 = 0 then (some (((0 : Int32), r1.2))) else (if r1.1 = 1 then (some (((1 : Int32), r1.2))) else none)
set_option maxRecDepth 100000 in
set_option maxHeartbeats 4000000 in
theorem F84_ok {sc : mS} (d : Nat) {S : mSt} {a1 a2 a3 : Int32} {r : Int32 × mSt} (h : F84 S a1 a2 a3 = some r) : mm_ev sc mmK mmP (d + 6) 84 (0, mm_en 5 [.ref 0, .int a1, .int a2, .int a3], [], mH S, 0, 0) (mm_is (.inl (some (.int r.1))) (mH r.2)) := by
  unfold F84 at h
  refine mm_ev.to (c := (0, [some (.ref 0), some (.int a1), some (.int a2), some (.int a3), none], [], mH S, 0, 0)) rfl ?_
  refine mm_ev.go [true, true, true, true] (ps := []) (c1 := (4, [some (.ref 0), some (.int a1), some (.int a2), some (.int a3), none], [.int a3, .int a2, .int a1, .ref 0], mH S, 0, 0)) rfl trivial ?_
  obtain ⟨r1, h2, h⟩ := mb_b h
  have h4 := F5_ok (sc := sc) d h2
  by_cases h3 : r1.1 = 0
  · rw [if_pos h3] at h
    rw [if_pos h3] at h4
    refine mm_ev.call (q := mq84) (q2 := mq5) (b := (4, .invokevirtual 7, 3, 2, 6, 5, 4, 0, [299, 296, 297, 48, 298])) (as := [.ref 0, .int a1, .int a2, .int a3]) (r := []) (v := none) (h1 := mH r1.2) rfl rfl rfl rfl ⟨Nat.le_of_ble_eq_true rfl, Nat.le_of_ble_eq_true rfl, Nat.le_of_ble_eq_true rfl⟩ h4 ?_
    refine mm_ev.to (c := (7, [some (.ref 0), some (.int a1), some (.int a2), some (.int a3), none], [], mH r1.2, 1, 6)) rfl ?_
    refine mm_ev.go [true, true] (ps := []) (c1 := (15, [some (.ref 0), some (.int a1), some (.int a2), some (.int a3), none], [.int (0 : Int32)], mH r1.2, 1, 6)) rfl trivial ?_
    cases h
    exact mm_ev.ret (q := mq84) (b := (15, .ireturn, 1, 3, 0, 0, 0, 0, [])) rfl rfl rfl ⟨Nat.le_of_ble_eq_true rfl, Nat.le_of_ble_eq_true rfl⟩ trivial ⟨rfl, rfl⟩
  · rw [if_neg h3] at h
    rw [if_neg h3] at h4
    by_cases h5 : r1.1 = 1
    · rw [if_pos h5] at h
      rw [h5] at h4
      refine mm_ev.callX (q := mq84) (q2 := mq5) (b := (4, .invokevirtual 7, 3, 2, 6, 5, 4, 0, [299, 296, 297, 48, 298])) (as := [.ref 0, .int a1, .int a2, .int a3]) (r := []) (E := 0) (hp := 10) (i := 4) (pc2 := 12) (z := (mq84, (10, .astore 4, 2, 0, 2, 0, 0, 0, []))) (h1 := mH r1.2) rfl rfl rfl rfl rfl ⟨Nat.le_of_ble_eq_true rfl, Nat.le_of_ble_eq_true rfl, Nat.le_of_ble_eq_true rfl⟩ h4 rfl rfl rfl ?_
      refine mm_ev.to (c := (12, [some (.ref 0), some (.int a1), some (.int a2), some (.int a3), none], [], mH r1.2, 1, 6)) rfl ?_
      refine mm_ev.go [true] (ps := []) (c1 := (13, [some (.ref 0), some (.int a1), some (.int a2), some (.int a3), none], [.int (1 : Int32)], mH r1.2, 1, 6)) rfl trivial ?_
      cases h
      exact mm_ev.ret (q := mq84) (b := (13, .ireturn, 1, 3, 0, 0, 0, 0, [])) rfl rfl rfl ⟨Nat.le_of_ble_eq_true rfl, Nat.le_of_ble_eq_true rfl⟩ trivial ⟨rfl, rfl⟩
    rw [if_neg h5] at h
    cases h
/-- SlabPatternsLaw.want -/
def F85 (S : mSt) (a1 a2 a3 a4 a5 : Int32) : Option (Int32 × mSt) := (F7 S a1 a2 a3 a4 a5).bind fun r1 => if r1.1 = 0 then (if 0 ≤ (0 : Int32) ∧ (0 : Int32).toNatClampNeg < 1 then some (((0 : Int32), (r1.2.2.1, r1.2.2.2.1, (vp_updL r1.2.2.2.2 (0 : Int32).toNatClampNeg r1.2.1.toInt64)))) else none) else (if r1.1 = 1 then (some (((1 : Int32), r1.2.2))) else (if r1.1 = 4 then (some (((2 : Int32), r1.2.2))) else none))
set_option maxRecDepth 100000 in
set_option maxHeartbeats 4000000 in
theorem F85_ok {sc : mS} (d : Nat) {S : mSt} {a1 a2 a3 a4 a5 : Int32} {r : Int32 × mSt} (h : F85 S a1 a2 a3 a4 a5 = some r) : mm_ev sc mmK mmP (d + 6) 85 (0, mm_en 8 [.ref 0, .int a1, .int a2, .int a3, .int a4, .int a5, .ref 51], [], mH S, 0, 0) (mm_is (.inl (some (.int r.1))) (mH r.2)) := by
  unfold F85 at h
  refine mm_ev.to (c := (0, [some (.ref 0), some (.int a1), some (.int a2), some (.int a3), some (.int a4), some (.int a5), some (.ref 51), none], [], mH S, 0, 0)) rfl ?_
  refine mm_ev.go [true, true, true, true, true, true, true, true] (ps := []) (c1 := (11, [some (.ref 0), some (.int a1), some (.int a2), some (.int a3), some (.int a4), some (.int a5), some (.ref 51), none], [.int a5, .int a4, .int a3, .int a2, .int a1, .ref 0, .int (0 : Int32), .ref 51], mH S, 0, 0)) rfl trivial ?_
  obtain ⟨r1, h2, h⟩ := mb_b h
  have h4 := F7_ok (sc := sc) d h2
  by_cases h3 : r1.1 = 0
  · rw [if_pos h3] at h
    rw [if_pos h3] at h4
    refine mm_ev.call (q := mq85) (q2 := mq7) (b := (11, .invokevirtual 15, 3, 2, 6, 7, 6, 0, [379, 376, 377, 48, 378])) (as := [.ref 0, .int a1, .int a2, .int a3, .int a4, .int a5]) (r := [.int (0 : Int32), .ref 51]) (v := (some (.int r1.2.1))) (h1 := mH r1.2.2) rfl rfl rfl rfl ⟨Nat.le_of_ble_eq_true rfl, Nat.le_of_ble_eq_true rfl, Nat.le_of_ble_eq_true rfl⟩ h4 ?_
    refine mm_ev.to (c := (14, [some (.ref 0), some (.int a1), some (.int a2), some (.int a3), some (.int a4), some (.int a5), some (.ref 51), none], [.int r1.2.1, .int (0 : Int32), .ref 51], mH r1.2.2, 1, 6)) rfl ?_
    obtain ⟨h5, h⟩ := mb_i h
    refine mm_ev.go [true, true, true, true] (ps := [mm_in (0 : Int32) 1]) (c1 := (28, [some (.ref 0), some (.int a1), some (.int a2), some (.int a3), some (.int a4), some (.int a5), some (.ref 51), none], [.int (0 : Int32)], mH (r1.2.2.1, r1.2.2.2.1, (vp_updL r1.2.2.2.2 (0 : Int32).toNatClampNeg r1.2.1.toInt64)), 1, 6)) rfl ⟨h5, trivial⟩ ?_
    cases h
    exact mm_ev.ret (q := mq85) (b := (28, .ireturn, 1, 3, 0, 0, 0, 0, [])) rfl rfl rfl ⟨Nat.le_of_ble_eq_true rfl, Nat.le_of_ble_eq_true rfl⟩ trivial ⟨rfl, rfl⟩
  · rw [if_neg h3] at h
    rw [if_neg h3] at h4
    by_cases h6 : r1.1 = 1
    · rw [if_pos h6] at h
      rw [h6] at h4
      refine mm_ev.callX (q := mq85) (q2 := mq7) (b := (11, .invokevirtual 15, 3, 2, 6, 7, 6, 0, [379, 376, 377, 48, 378])) (as := [.ref 0, .int a1, .int a2, .int a3, .int a4, .int a5]) (r := [.int (0 : Int32), .ref 51]) (E := 0) (hp := 19) (i := 7) (pc2 := 21) (z := (mq85, (19, .astore 7, 2, 0, 2, 0, 0, 0, []))) (h1 := mH r1.2.2) rfl rfl rfl rfl rfl ⟨Nat.le_of_ble_eq_true rfl, Nat.le_of_ble_eq_true rfl, Nat.le_of_ble_eq_true rfl⟩ h4 rfl rfl rfl ?_
      refine mm_ev.to (c := (21, [some (.ref 0), some (.int a1), some (.int a2), some (.int a3), some (.int a4), some (.int a5), some (.ref 51), none], [], mH r1.2.2, 1, 6)) rfl ?_
      refine mm_ev.go [true] (ps := []) (c1 := (22, [some (.ref 0), some (.int a1), some (.int a2), some (.int a3), some (.int a4), some (.int a5), some (.ref 51), none], [.int (1 : Int32)], mH r1.2.2, 1, 6)) rfl trivial ?_
      cases h
      exact mm_ev.ret (q := mq85) (b := (22, .ireturn, 1, 3, 0, 0, 0, 0, [])) rfl rfl rfl ⟨Nat.le_of_ble_eq_true rfl, Nat.le_of_ble_eq_true rfl⟩ trivial ⟨rfl, rfl⟩
    rw [if_neg h6] at h
    by_cases h7 : r1.1 = 4
    · rw [if_pos h7] at h
      rw [h7] at h4
      refine mm_ev.callX (q := mq85) (q2 := mq7) (b := (11, .invokevirtual 15, 3, 2, 6, 7, 6, 0, [379, 376, 377, 48, 378])) (as := [.ref 0, .int a1, .int a2, .int a3, .int a4, .int a5]) (r := [.int (0 : Int32), .ref 51]) (E := 3) (hp := 23) (i := 7) (pc2 := 25) (z := (mq85, (23, .astore 7, 2, 0, 2, 0, 0, 0, []))) (h1 := mH r1.2.2) rfl rfl rfl rfl rfl ⟨Nat.le_of_ble_eq_true rfl, Nat.le_of_ble_eq_true rfl, Nat.le_of_ble_eq_true rfl⟩ h4 rfl rfl rfl ?_
      refine mm_ev.to (c := (25, [some (.ref 0), some (.int a1), some (.int a2), some (.int a3), some (.int a4), some (.int a5), some (.ref 51), none], [], mH r1.2.2, 1, 6)) rfl ?_
      refine mm_ev.go [true] (ps := []) (c1 := (26, [some (.ref 0), some (.int a1), some (.int a2), some (.int a3), some (.int a4), some (.int a5), some (.ref 51), none], [.int (2 : Int32)], mH r1.2.2, 1, 6)) rfl trivial ?_
      cases h
      exact mm_ev.ret (q := mq85) (b := (26, .ireturn, 1, 3, 0, 0, 0, 0, [])) rfl rfl rfl ⟨Nat.le_of_ble_eq_true rfl, Nat.le_of_ble_eq_true rfl⟩ trivial ⟨rfl, rfl⟩
    rw [if_neg h7] at h
    cases h
/-- SlabPatternsLaw.turn -/
def F86 (S : mSt) (a1 a2 : Int32) : Option (Int32 × mSt) := (F8 S a1 a2).bind fun r1 => if r1.1 = 0 then (some (((0 : Int32), r1.2))) else (if r1.1 = 3 then (some (((1 : Int32), r1.2))) else none)
set_option maxRecDepth 100000 in
set_option maxHeartbeats 4000000 in
theorem F86_ok {sc : mS} (d : Nat) {S : mSt} {a1 a2 : Int32} {r : Int32 × mSt} (h : F86 S a1 a2 = some r) : mm_ev sc mmK mmP (d + 6) 86 (0, mm_en 4 [.ref 0, .int a1, .int a2], [], mH S, 0, 0) (mm_is (.inl (some (.int r.1))) (mH r.2)) := by
  unfold F86 at h
  refine mm_ev.to (c := (0, [some (.ref 0), some (.int a1), some (.int a2), none], [], mH S, 0, 0)) rfl ?_
  refine mm_ev.go [true, true, true] (ps := []) (c1 := (3, [some (.ref 0), some (.int a1), some (.int a2), none], [.int a2, .int a1, .ref 0], mH S, 0, 0)) rfl trivial ?_
  obtain ⟨r1, h2, h⟩ := mb_b h
  have h4 := F8_ok (sc := sc) d h2
  by_cases h3 : r1.1 = 0
  · rw [if_pos h3] at h
    rw [if_pos h3] at h4
    refine mm_ev.call (q := mq86) (q2 := mq8) (b := (3, .invokevirtual 21, 3, 2, 6, 8, 3, 0, [415, 412, 413, 48, 414])) (as := [.ref 0, .int a1, .int a2]) (r := []) (v := none) (h1 := mH r1.2) rfl rfl rfl rfl ⟨Nat.le_of_ble_eq_true rfl, Nat.le_of_ble_eq_true rfl, Nat.le_of_ble_eq_true rfl⟩ h4 ?_
    refine mm_ev.to (c := (6, [some (.ref 0), some (.int a1), some (.int a2), none], [], mH r1.2, 1, 6)) rfl ?_
    refine mm_ev.go [true, true] (ps := []) (c1 := (13, [some (.ref 0), some (.int a1), some (.int a2), none], [.int (0 : Int32)], mH r1.2, 1, 6)) rfl trivial ?_
    cases h
    exact mm_ev.ret (q := mq86) (b := (13, .ireturn, 1, 3, 0, 0, 0, 0, [])) rfl rfl rfl ⟨Nat.le_of_ble_eq_true rfl, Nat.le_of_ble_eq_true rfl⟩ trivial ⟨rfl, rfl⟩
  · rw [if_neg h3] at h
    rw [if_neg h3] at h4
    by_cases h5 : r1.1 = 3
    · rw [if_pos h5] at h
      rw [h5] at h4
      refine mm_ev.callX (q := mq86) (q2 := mq8) (b := (3, .invokevirtual 21, 3, 2, 6, 8, 3, 0, [415, 412, 413, 48, 414])) (as := [.ref 0, .int a1, .int a2]) (r := []) (E := 2) (hp := 9) (i := 3) (pc2 := 10) (z := (mq86, (9, .astore_n 3, 1, 0, 2, 0, 0, 0, []))) (h1 := mH r1.2) rfl rfl rfl rfl rfl ⟨Nat.le_of_ble_eq_true rfl, Nat.le_of_ble_eq_true rfl, Nat.le_of_ble_eq_true rfl⟩ h4 rfl rfl rfl ?_
      refine mm_ev.to (c := (10, [some (.ref 0), some (.int a1), some (.int a2), none], [], mH r1.2, 1, 6)) rfl ?_
      refine mm_ev.go [true] (ps := []) (c1 := (11, [some (.ref 0), some (.int a1), some (.int a2), none], [.int (1 : Int32)], mH r1.2, 1, 6)) rfl trivial ?_
      cases h
      exact mm_ev.ret (q := mq86) (b := (11, .ireturn, 1, 3, 0, 0, 0, 0, [])) rfl rfl rfl ⟨Nat.le_of_ble_eq_true rfl, Nat.le_of_ble_eq_true rfl⟩ trivial ⟨rfl, rfl⟩
    rw [if_neg h5] at h
    cases h
