/-! the law, once round (0) -/
/-- the law, an op of kind 0 -/
def I0_c0 (sc : mS) (S : mSt) (v4 : Int32) : Option (Nat × mSt × Int32) := if 0 ≤ (v4 + (1 : Int32)) ∧ (v4 + (1 : Int32)).toNatClampNeg < sc.1 then if 0 ≤ (v4 + (2 : Int32)) ∧ (v4 + (2 : Int32)).toNatClampNeg < sc.1 then if 0 ≤ (v4 + (3 : Int32)) ∧ (v4 + (3 : Int32)).toNatClampNeg < sc.1 then (F84 S (sc.2 (v4 + (1 : Int32)).toNatClampNeg) (sc.2 (v4 + (2 : Int32)).toNatClampNeg) (sc.2 (v4 + (3 : Int32)).toNatClampNeg)).bind fun r7 => ((F59 r7.2 (sc.2 (v4 + (1 : Int32)).toNatClampNeg) (sc.2 (v4 + (2 : Int32)).toNatClampNeg) (sc.2 (v4 + (3 : Int32)).toNatClampNeg)).bind fun r9 => ((F58 r9).bind fun r11 => (if r11 = r7.1 then (some (0, r9, v4 + (6 : Int32))) else none))) else none else none else none
set_option maxRecDepth 100000 in
set_option maxHeartbeats 4000000 in
theorem I0_c0_ok {sc : mS} (d kc ks : Nat) (hkc : kc + 2 ≤ 1089) (hks : ks + 12 ≤ 11401) {S : mSt} {v4 : Int32} {r : Nat × mSt × Int32} (h : I0_c0 sc S v4 = some r) (o5 : Option Value) (o6 : Option Value) {Q : mR → List mE → Prop} (hc0 : ∀ kc2 ks2 : Nat, kc2 ≤ kc + 2 → ks2 ≤ ks + 12 → r.1 = 0 → ∀ u5 : Option Value, ∀ u6 : Option Value, mm_ev sc mmK mmP (d + 8) 0 (23, [some (.float 0), some (.ref 0), some (.ref 34), some (.ref 51), some (.int r.2.2), u5, u6], [], mH r.2.1, kc2, ks2) Q) (hc1 : r.1 = 1 → ∀ u0 : Option Value, ∀ u1 : Option Value, ∀ u2 : Option Value, ∀ u3 : Option Value, ∀ u4 : Option Value, ∀ u5 : Option Value, ∀ u6 : Option Value, mm_ev sc mmK mmP (d + 8) 0 (880, [u0, u1, u2, u3, u4, u5, u6], [], mH r.2.1, kc, ks) Q) : mm_ev sc mmK mmP (d + 8) 0 (40, [some (.float 0), some (.ref 0), some (.ref 34), some (.ref 51), some (.int v4), o5, o6], [.int (0 : Int32)], mH S, kc, ks) Q := by
  unfold I0_c0 at h
  obtain ⟨h4, h⟩ := mb_i h
  obtain ⟨h5, h⟩ := mb_i h
  obtain ⟨h6, h⟩ := mb_i h
  refine mm_ev.go [true, true, true, true, true, true, true, true] (ps := [_, mm_in (v4 + (1 : Int32)) sc.1]) (c1 := (116, [some (.float 0), some (.ref 0), some (.ref 34), some (.ref 51), some (.int v4), o5, o6], [.float 0, .int (sc.2 (v4 + (1 : Int32)).toNatClampNeg), .ref 0], mH S, kc, ks)) rfl ⟨(by decide), h4, trivial⟩ ?_
  refine mm_ev.go [true, true, true, true, true, true, true, true] (ps := [mm_in (v4 + (2 : Int32)) sc.1]) (c1 := (126, [some (.float 0), some (.ref 0), some (.ref 34), some (.ref 51), some (.int v4), o5, o6], [.int (v4 + (3 : Int32)), .float 0, .int (sc.2 (v4 + (2 : Int32)).toNatClampNeg), .int (sc.2 (v4 + (1 : Int32)).toNatClampNeg), .ref 0], mH S, kc, ks)) rfl ⟨h5, trivial⟩ ?_
  refine mm_ev.go [true] (ps := [mm_in (v4 + (3 : Int32)) sc.1]) (c1 := (127, [some (.float 0), some (.ref 0), some (.ref 34), some (.ref 51), some (.int v4), o5, o6], [.int (sc.2 (v4 + (3 : Int32)).toNatClampNeg), .int (sc.2 (v4 + (2 : Int32)).toNatClampNeg), .int (sc.2 (v4 + (1 : Int32)).toNatClampNeg), .ref 0], mH S, kc, ks)) rfl ⟨h6, trivial⟩ ?_
  obtain ⟨r7, h8, h⟩ := mb_b h
  refine mm_ev.call (q := mq0) (q2 := mq84) (b := (127, .invokestatic 65, 3, 2, 7, 84, 4, 0, [294, 292, 293, 47])) (as := [.ref 0, .int (sc.2 (v4 + (1 : Int32)).toNatClampNeg), .int (sc.2 (v4 + (2 : Int32)).toNatClampNeg), .int (sc.2 (v4 + (3 : Int32)).toNatClampNeg)]) (r := []) (v := (some (.int r7.1))) (h1 := mH r7.2) rfl rfl rfl rfl ⟨(show kc + 0 + 1 ≤ 1089 by omega), (show ks + 0 + 6 ≤ 11401 by omega), Nat.le_of_ble_eq_true rfl⟩ (F84_ok (d + 1) h8) ?_
  refine mm_ev.to (c := (130, [some (.float 0), some (.ref 0), some (.ref 34), some (.ref 51), some (.int v4), o5, o6], [.int r7.1], mH r7.2, kc + 1, ks + 6)) rfl ?_
  refine mm_ev.go [true, true, true, true, true, true, true, true] (ps := [mm_in (v4 + (1 : Int32)) sc.1]) (c1 := (140, [some (.float 0), some (.ref 0), some (.ref 34), some (.ref 51), some (.int v4), some (.int r7.1), o6], [.float 0, .int (sc.2 (v4 + (1 : Int32)).toNatClampNeg), .ref 34], mH r7.2, kc + 1, ks + 6)) rfl ⟨h4, trivial⟩ ?_
  refine mm_ev.go [true, true, true, true, true, true, true, true] (ps := [mm_in (v4 + (2 : Int32)) sc.1]) (c1 := (150, [some (.float 0), some (.ref 0), some (.ref 34), some (.ref 51), some (.int v4), some (.int r7.1), o6], [.int (v4 + (3 : Int32)), .float 0, .int (sc.2 (v4 + (2 : Int32)).toNatClampNeg), .int (sc.2 (v4 + (1 : Int32)).toNatClampNeg), .ref 34], mH r7.2, kc + 1, ks + 6)) rfl ⟨h5, trivial⟩ ?_
  refine mm_ev.go [true] (ps := [mm_in (v4 + (3 : Int32)) sc.1]) (c1 := (151, [some (.float 0), some (.ref 0), some (.ref 34), some (.ref 51), some (.int v4), some (.int r7.1), o6], [.int (sc.2 (v4 + (3 : Int32)).toNatClampNeg), .int (sc.2 (v4 + (2 : Int32)).toNatClampNeg), .int (sc.2 (v4 + (1 : Int32)).toNatClampNeg), .ref 34], mH r7.2, kc + 1, ks + 6)) rfl ⟨h6, trivial⟩ ?_
  obtain ⟨r9, h10, h⟩ := mb_b h
  refine mm_ev.call (q := mq0) (q2 := mq59) (b := (151, .invokevirtual 70, 3, 2, 2, 59, 4, 6, [770, 767, 768, 54, 769])) (as := [.ref 34, .int (sc.2 (v4 + (1 : Int32)).toNatClampNeg), .int (sc.2 (v4 + (2 : Int32)).toNatClampNeg), .int (sc.2 (v4 + (3 : Int32)).toNatClampNeg)]) (r := []) (v := none) (h1 := mH r9) rfl rfl rfl rfl ⟨(show kc + 1 + 0 ≤ 1089 by omega), (show ks + 6 + 0 ≤ 11401 by omega), Nat.le_of_ble_eq_true rfl⟩ (F59_ok (d + 5) h10) ?_
  refine mm_ev.to (c := (154, [some (.float 0), some (.ref 0), some (.ref 34), some (.ref 51), some (.int v4), some (.int r7.1), o6], [], mH r9, kc + 1, ks + 6)) rfl ?_
  refine mm_ev.go [true] (ps := []) (c1 := (155, [some (.float 0), some (.ref 0), some (.ref 34), some (.ref 51), some (.int v4), some (.int r7.1), o6], [.ref 34], mH r9, kc + 1, ks + 6)) rfl trivial ?_
  obtain ⟨r11, h12, h⟩ := mb_b h
  refine mm_ev.call (q := mq0) (q2 := mq58) (b := (155, .invokevirtual 71, 3, 2, 2, 58, 1, 6, [766, 763, 764, 54, 765])) (as := [.ref 34]) (r := []) (v := (some (.int r11))) (h1 := mH r9) rfl rfl rfl rfl ⟨(show kc + 1 + 0 ≤ 1089 by omega), (show ks + 6 + 0 ≤ 11401 by omega), Nat.le_of_ble_eq_true rfl⟩ (F58_ok (d + 7) h12) ?_
  refine mm_ev.to (c := (158, [some (.float 0), some (.ref 0), some (.ref 34), some (.ref 51), some (.int v4), some (.int r7.1), o6], [.int r11], mH r9, kc + 1, ks + 6)) rfl ?_
  by_cases h13 : r11 = r7.1
  · rw [if_pos h13] at h
    refine mm_ev.go [true, true] (ps := [mm_cmp .eq r11 r7.1]) (c1 := (165, [some (.float 0), some (.ref 0), some (.ref 34), some (.ref 51), some (.int v4), some (.int r7.1), o6], [], mH r9, kc + 1, ks + 6)) rfl ⟨h13, trivial⟩ ?_
    refine mm_ev.go [true, true, true] (ps := []) (c1 := (23, [some (.float 0), some (.ref 0), some (.ref 34), some (.ref 51), some (.int (v4 + (6 : Int32))), some (.int r7.1), o6], [], mH r9, kc + 1, ks + 6)) rfl trivial ?_
    cases h
    exact hc0 _ _ (by omega) (by omega) rfl (some (.int r7.1)) o6
  · rw [if_neg h13] at h
    refine mm_ev.go [true, false] (ps := [¬ mm_cmp .eq r11 r7.1]) (c1 := (163, [some (.float 0), some (.ref 0), some (.ref 34), some (.ref 51), some (.int v4), some (.int r7.1), o6], [], mH r9, kc + 1, ks + 6)) rfl ⟨h13, trivial⟩ ?_
    cases h
/-- the law, an op of kind 1 -/
def I0_c1 (sc : mS) (S : mSt) (v4 : Int32) : Option (Nat × mSt × Int32) := if 0 ≤ (v4 + (1 : Int32)) ∧ (v4 + (1 : Int32)).toNatClampNeg < sc.1 then if 0 ≤ (v4 + (2 : Int32)) ∧ (v4 + (2 : Int32)).toNatClampNeg < sc.1 then if 0 ≤ (v4 + (3 : Int32)) ∧ (v4 + (3 : Int32)).toNatClampNeg < sc.1 then if 0 ≤ (v4 + (4 : Int32)) ∧ (v4 + (4 : Int32)).toNatClampNeg < sc.1 then if 0 ≤ (v4 + (5 : Int32)) ∧ (v4 + (5 : Int32)).toNatClampNeg < sc.1 then (F85 S (sc.2 (v4 + (1 : Int32)).toNatClampNeg) (sc.2 (v4 + (2 : Int32)).toNatClampNeg) (sc.2 (v4 + (3 : Int32)).toNatClampNeg) (sc.2 (v4 + (4 : Int32)).toNatClampNeg) (sc.2 (v4 + (5 : Int32)).toNatClampNeg)).bind fun r20 => ((F63 r20.2 (sc.2 (v4 + (1 : Int32)).toNatClampNeg) (sc.2 (v4 + (2 : Int32)).toNatClampNeg) (sc.2 (v4 + (3 : Int32)).toNatClampNeg) (sc.2 (v4 + (4 : Int32)).toNatClampNeg) (sc.2 (v4 + (5 : Int32)).toNatClampNeg)).bind fun r22 => ((F58 r22.2).bind fun r24 => (if r24 = r20.1 then (if r20.1 = (0 : Int32) then (if 0 ≤ (0 : Int32) ∧ (0 : Int32).toNatClampNeg < 1 then if (lg_cmp (r22.2.2.2 (0 : Int32).toNatClampNeg) r22.1.toInt64) = (0 : Int32) then (some (0, r22.2, v4 + (6 : Int32))) else none else none) else (some (0, r22.2, v4 + (6 : Int32)))) else none))) else none else none else none else none else none
set_option maxRecDepth 100000 in
set_option maxHeartbeats 4000000 in
theorem I0_c1_ok {sc : mS} (d kc ks : Nat) (hkc : kc + 2 ≤ 1089) (hks : ks + 12 ≤ 11401) {S : mSt} {v4 : Int32} {r : Nat × mSt × Int32} (h : I0_c1 sc S v4 = some r) (o5 : Option Value) (o6 : Option Value) {Q : mR → List mE → Prop} (hc0 : ∀ kc2 ks2 : Nat, kc2 ≤ kc + 2 → ks2 ≤ ks + 12 → r.1 = 0 → ∀ u5 : Option Value, ∀ u6 : Option Value, mm_ev sc mmK mmP (d + 8) 0 (23, [some (.float 0), some (.ref 0), some (.ref 34), some (.ref 51), some (.int r.2.2), u5, u6], [], mH r.2.1, kc2, ks2) Q) (hc1 : r.1 = 1 → ∀ u0 : Option Value, ∀ u1 : Option Value, ∀ u2 : Option Value, ∀ u3 : Option Value, ∀ u4 : Option Value, ∀ u5 : Option Value, ∀ u6 : Option Value, mm_ev sc mmK mmP (d + 8) 0 (880, [u0, u1, u2, u3, u4, u5, u6], [], mH r.2.1, kc, ks) Q) : mm_ev sc mmK mmP (d + 8) 0 (40, [some (.float 0), some (.ref 0), some (.ref 34), some (.ref 51), some (.int v4), o5, o6], [.int (1 : Int32)], mH S, kc, ks) Q := by
  unfold I0_c1 at h
  obtain ⟨h15, h⟩ := mb_i h
  obtain ⟨h16, h⟩ := mb_i h
  obtain ⟨h17, h⟩ := mb_i h
  obtain ⟨h18, h⟩ := mb_i h
  obtain ⟨h19, h⟩ := mb_i h
  refine mm_ev.go [true, true, true, true, true, true, true, true] (ps := [_, mm_in (v4 + (1 : Int32)) sc.1]) (c1 := (176, [some (.float 0), some (.ref 0), some (.ref 34), some (.ref 51), some (.int v4), o5, o6], [.float 0, .int (sc.2 (v4 + (1 : Int32)).toNatClampNeg), .ref 0], mH S, kc, ks)) rfl ⟨(by decide), h15, trivial⟩ ?_
  refine mm_ev.go [true, true, true, true, true, true, true, true] (ps := [mm_in (v4 + (2 : Int32)) sc.1]) (c1 := (186, [some (.float 0), some (.ref 0), some (.ref 34), some (.ref 51), some (.int v4), o5, o6], [.int (v4 + (3 : Int32)), .float 0, .int (sc.2 (v4 + (2 : Int32)).toNatClampNeg), .int (sc.2 (v4 + (1 : Int32)).toNatClampNeg), .ref 0], mH S, kc, ks)) rfl ⟨h16, trivial⟩ ?_
  refine mm_ev.go [true, true, true, true, true, true, true, true] (ps := [mm_in (v4 + (3 : Int32)) sc.1, mm_in (v4 + (4 : Int32)) sc.1]) (c1 := (196, [some (.float 0), some (.ref 0), some (.ref 34), some (.ref 51), some (.int v4), o5, o6], [.int v4, .float 0, .int (sc.2 (v4 + (4 : Int32)).toNatClampNeg), .int (sc.2 (v4 + (3 : Int32)).toNatClampNeg), .int (sc.2 (v4 + (2 : Int32)).toNatClampNeg), .int (sc.2 (v4 + (1 : Int32)).toNatClampNeg), .ref 0], mH S, kc, ks)) rfl ⟨h17, h18, trivial⟩ ?_
  refine mm_ev.go [true, true, true, true] (ps := [mm_in (v4 + (5 : Int32)) sc.1]) (c1 := (200, [some (.float 0), some (.ref 0), some (.ref 34), some (.ref 51), some (.int v4), o5, o6], [.ref 51, .int (sc.2 (v4 + (5 : Int32)).toNatClampNeg), .int (sc.2 (v4 + (4 : Int32)).toNatClampNeg), .int (sc.2 (v4 + (3 : Int32)).toNatClampNeg), .int (sc.2 (v4 + (2 : Int32)).toNatClampNeg), .int (sc.2 (v4 + (1 : Int32)).toNatClampNeg), .ref 0], mH S, kc, ks)) rfl ⟨h19, trivial⟩ ?_
  obtain ⟨r20, h21, h⟩ := mb_b h
  refine mm_ev.call (q := mq0) (q2 := mq85) (b := (200, .invokestatic 74, 3, 2, 7, 85, 7, 0, [374, 372, 373, 47])) (as := [.ref 0, .int (sc.2 (v4 + (1 : Int32)).toNatClampNeg), .int (sc.2 (v4 + (2 : Int32)).toNatClampNeg), .int (sc.2 (v4 + (3 : Int32)).toNatClampNeg), .int (sc.2 (v4 + (4 : Int32)).toNatClampNeg), .int (sc.2 (v4 + (5 : Int32)).toNatClampNeg), .ref 51]) (r := []) (v := (some (.int r20.1))) (h1 := mH r20.2) rfl rfl rfl rfl ⟨(show kc + 0 + 1 ≤ 1089 by omega), (show ks + 0 + 6 ≤ 11401 by omega), Nat.le_of_ble_eq_true rfl⟩ (F85_ok (d + 1) h21) ?_
  refine mm_ev.to (c := (203, [some (.float 0), some (.ref 0), some (.ref 34), some (.ref 51), some (.int v4), o5, o6], [.int r20.1], mH r20.2, kc + 1, ks + 6)) rfl ?_
  refine mm_ev.go [true, true, true, true, true, true, true, true] (ps := [mm_in (v4 + (1 : Int32)) sc.1]) (c1 := (213, [some (.float 0), some (.ref 0), some (.ref 34), some (.ref 51), some (.int v4), some (.int r20.1), o6], [.float 0, .int (sc.2 (v4 + (1 : Int32)).toNatClampNeg), .ref 34], mH r20.2, kc + 1, ks + 6)) rfl ⟨h15, trivial⟩ ?_
  refine mm_ev.go [true, true, true, true, true, true, true, true] (ps := [mm_in (v4 + (2 : Int32)) sc.1]) (c1 := (223, [some (.float 0), some (.ref 0), some (.ref 34), some (.ref 51), some (.int v4), some (.int r20.1), o6], [.int (v4 + (3 : Int32)), .float 0, .int (sc.2 (v4 + (2 : Int32)).toNatClampNeg), .int (sc.2 (v4 + (1 : Int32)).toNatClampNeg), .ref 34], mH r20.2, kc + 1, ks + 6)) rfl ⟨h16, trivial⟩ ?_
  refine mm_ev.go [true, true, true, true, true, true, true, true] (ps := [mm_in (v4 + (3 : Int32)) sc.1, mm_in (v4 + (4 : Int32)) sc.1]) (c1 := (233, [some (.float 0), some (.ref 0), some (.ref 34), some (.ref 51), some (.int v4), some (.int r20.1), o6], [.int v4, .float 0, .int (sc.2 (v4 + (4 : Int32)).toNatClampNeg), .int (sc.2 (v4 + (3 : Int32)).toNatClampNeg), .int (sc.2 (v4 + (2 : Int32)).toNatClampNeg), .int (sc.2 (v4 + (1 : Int32)).toNatClampNeg), .ref 34], mH r20.2, kc + 1, ks + 6)) rfl ⟨h17, h18, trivial⟩ ?_
  refine mm_ev.go [true, true, true] (ps := [mm_in (v4 + (5 : Int32)) sc.1]) (c1 := (236, [some (.float 0), some (.ref 0), some (.ref 34), some (.ref 51), some (.int v4), some (.int r20.1), o6], [.int (sc.2 (v4 + (5 : Int32)).toNatClampNeg), .int (sc.2 (v4 + (4 : Int32)).toNatClampNeg), .int (sc.2 (v4 + (3 : Int32)).toNatClampNeg), .int (sc.2 (v4 + (2 : Int32)).toNatClampNeg), .int (sc.2 (v4 + (1 : Int32)).toNatClampNeg), .ref 34], mH r20.2, kc + 1, ks + 6)) rfl ⟨h19, trivial⟩ ?_
  obtain ⟨r22, h23, h⟩ := mb_b h
  refine mm_ev.call (q := mq0) (q2 := mq63) (b := (236, .invokevirtual 77, 3, 2, 2, 63, 6, 6, [784, 781, 782, 54, 783])) (as := [.ref 34, .int (sc.2 (v4 + (1 : Int32)).toNatClampNeg), .int (sc.2 (v4 + (2 : Int32)).toNatClampNeg), .int (sc.2 (v4 + (3 : Int32)).toNatClampNeg), .int (sc.2 (v4 + (4 : Int32)).toNatClampNeg), .int (sc.2 (v4 + (5 : Int32)).toNatClampNeg)]) (r := []) (v := (some (.int r22.1))) (h1 := mH r22.2) rfl rfl rfl rfl ⟨(show kc + 1 + 0 ≤ 1089 by omega), (show ks + 6 + 0 ≤ 11401 by omega), Nat.le_of_ble_eq_true rfl⟩ (F63_ok (d + 5) h23) ?_
  refine mm_ev.to (c := (239, [some (.float 0), some (.ref 0), some (.ref 34), some (.ref 51), some (.int v4), some (.int r20.1), o6], [.int r22.1], mH r22.2, kc + 1, ks + 6)) rfl ?_
  refine mm_ev.go [true, true] (ps := []) (c1 := (242, [some (.float 0), some (.ref 0), some (.ref 34), some (.ref 51), some (.int v4), some (.int r20.1), some (.int r22.1)], [.ref 34], mH r22.2, kc + 1, ks + 6)) rfl trivial ?_
  obtain ⟨r24, h25, h⟩ := mb_b h
  refine mm_ev.call (q := mq0) (q2 := mq58) (b := (242, .invokevirtual 71, 3, 2, 2, 58, 1, 6, [766, 763, 764, 54, 765])) (as := [.ref 34]) (r := []) (v := (some (.int r24))) (h1 := mH r22.2) rfl rfl rfl rfl ⟨(show kc + 1 + 0 ≤ 1089 by omega), (show ks + 6 + 0 ≤ 11401 by omega), Nat.le_of_ble_eq_true rfl⟩ (F58_ok (d + 7) h25) ?_
  refine mm_ev.to (c := (245, [some (.float 0), some (.ref 0), some (.ref 34), some (.ref 51), some (.int v4), some (.int r20.1), some (.int r22.1)], [.int r24], mH r22.2, kc + 1, ks + 6)) rfl ?_
  by_cases h26 : r24 = r20.1
  · rw [if_pos h26] at h
    refine mm_ev.go [true, true] (ps := [mm_cmp .eq r24 r20.1]) (c1 := (252, [some (.float 0), some (.ref 0), some (.ref 34), some (.ref 51), some (.int v4), some (.int r20.1), some (.int r22.1)], [], mH r22.2, kc + 1, ks + 6)) rfl ⟨h26, trivial⟩ ?_
    by_cases h27 : r20.1 = (0 : Int32)
    · rw [if_pos h27] at h
      refine mm_ev.go [true, false] (ps := [¬ mm_cmp .ne r20.1 (0 : Int32)]) (c1 := (257, [some (.float 0), some (.ref 0), some (.ref 34), some (.ref 51), some (.int v4), some (.int r20.1), some (.int r22.1)], [], mH r22.2, kc + 1, ks + 6)) rfl ⟨(fun z => z h27), trivial⟩ ?_
      obtain ⟨h28, h⟩ := mb_i h
      by_cases h29 : (lg_cmp (r22.2.2.2 (0 : Int32).toNatClampNeg) r22.1.toInt64) = (0 : Int32)
      · rw [if_pos h29] at h
        refine mm_ev.go [true, true, true, true, true, true, true] (ps := [mm_in (0 : Int32) 1, mm_cmp .eq (lg_cmp (r22.2.2.2 (0 : Int32).toNatClampNeg) r22.1.toInt64) (0 : Int32)]) (c1 := (269, [some (.float 0), some (.ref 0), some (.ref 34), some (.ref 51), some (.int v4), some (.int r20.1), some (.int r22.1)], [], mH r22.2, kc + 1, ks + 6)) rfl ⟨h28, h29, trivial⟩ ?_
        refine mm_ev.go [true, true, true] (ps := []) (c1 := (23, [some (.float 0), some (.ref 0), some (.ref 34), some (.ref 51), some (.int (v4 + (6 : Int32))), some (.int r20.1), some (.int r22.1)], [], mH r22.2, kc + 1, ks + 6)) rfl trivial ?_
        cases h
        exact hc0 _ _ (by omega) (by omega) rfl (some (.int r20.1)) (some (.int r22.1))
      · rw [if_neg h29] at h
        refine mm_ev.go [true, true, true, true, true, true, false] (ps := [mm_in (0 : Int32) 1, ¬ mm_cmp .eq (lg_cmp (r22.2.2.2 (0 : Int32).toNatClampNeg) r22.1.toInt64) (0 : Int32)]) (c1 := (267, [some (.float 0), some (.ref 0), some (.ref 34), some (.ref 51), some (.int v4), some (.int r20.1), some (.int r22.1)], [], mH r22.2, kc + 1, ks + 6)) rfl ⟨h28, h29, trivial⟩ ?_
        cases h
    · rw [if_neg h27] at h
      refine mm_ev.go [true, true] (ps := [mm_cmp .ne r20.1 (0 : Int32)]) (c1 := (269, [some (.float 0), some (.ref 0), some (.ref 34), some (.ref 51), some (.int v4), some (.int r20.1), some (.int r22.1)], [], mH r22.2, kc + 1, ks + 6)) rfl ⟨h27, trivial⟩ ?_
      refine mm_ev.go [true, true, true] (ps := []) (c1 := (23, [some (.float 0), some (.ref 0), some (.ref 34), some (.ref 51), some (.int (v4 + (6 : Int32))), some (.int r20.1), some (.int r22.1)], [], mH r22.2, kc + 1, ks + 6)) rfl trivial ?_
      cases h
      exact hc0 _ _ (by omega) (by omega) rfl (some (.int r20.1)) (some (.int r22.1))
  · rw [if_neg h26] at h
    refine mm_ev.go [true, false] (ps := [¬ mm_cmp .eq r24 r20.1]) (c1 := (250, [some (.float 0), some (.ref 0), some (.ref 34), some (.ref 51), some (.int v4), some (.int r20.1), some (.int r22.1)], [], mH r22.2, kc + 1, ks + 6)) rfl ⟨h26, trivial⟩ ?_
    cases h
/-- the law, an op of kind 2 -/
def I0_c2 (sc : mS) (S : mSt) (v4 : Int32) : Option (Nat × mSt × Int32) := if 0 ≤ (v4 + (1 : Int32)) ∧ (v4 + (1 : Int32)).toNatClampNeg < sc.1 then if 0 ≤ (v4 + (2 : Int32)) ∧ (v4 + (2 : Int32)).toNatClampNeg < sc.1 then if (sc.2 (v4 + (2 : Int32)).toNatClampNeg) = (0 : Int32) then ((F86 S (sc.2 (v4 + (1 : Int32)).toNatClampNeg) (0 : Int32)).bind fun r34 => ((F64 r34.2 (sc.2 (v4 + (1 : Int32)).toNatClampNeg) (0 : Int32)).bind fun r36 => ((F58 r36).bind fun r38 => (if r38 = r34.1 then (some (0, r36, v4 + (6 : Int32))) else none)))) else ((F86 S (sc.2 (v4 + (1 : Int32)).toNatClampNeg) (1 : Int32)).bind fun r41 => ((F64 r41.2 (sc.2 (v4 + (1 : Int32)).toNatClampNeg) (1 : Int32)).bind fun r43 => ((F58 r43).bind fun r45 => (if r45 = r41.1 then (some (0, r43, v4 + (6 : Int32))) else none)))) else none else none
set_option maxRecDepth 100000 in
set_option maxHeartbeats 4000000 in
theorem I0_c2_ok {sc : mS} (d kc ks : Nat) (hkc : kc + 2 ≤ 1089) (hks : ks + 12 ≤ 11401) {S : mSt} {v4 : Int32} {r : Nat × mSt × Int32} (h : I0_c2 sc S v4 = some r) (o5 : Option Value) (o6 : Option Value) {Q : mR → List mE → Prop} (hc0 : ∀ kc2 ks2 : Nat, kc2 ≤ kc + 2 → ks2 ≤ ks + 12 → r.1 = 0 → ∀ u5 : Option Value, ∀ u6 : Option Value, mm_ev sc mmK mmP (d + 8) 0 (23, [some (.float 0), some (.ref 0), some (.ref 34), some (.ref 51), some (.int r.2.2), u5, u6], [], mH r.2.1, kc2, ks2) Q) (hc1 : r.1 = 1 → ∀ u0 : Option Value, ∀ u1 : Option Value, ∀ u2 : Option Value, ∀ u3 : Option Value, ∀ u4 : Option Value, ∀ u5 : Option Value, ∀ u6 : Option Value, mm_ev sc mmK mmP (d + 8) 0 (880, [u0, u1, u2, u3, u4, u5, u6], [], mH r.2.1, kc, ks) Q) : mm_ev sc mmK mmP (d + 8) 0 (40, [some (.float 0), some (.ref 0), some (.ref 34), some (.ref 51), some (.int v4), o5, o6], [.int (2 : Int32)], mH S, kc, ks) Q := by
  unfold I0_c2 at h
  obtain ⟨h31, h⟩ := mb_i h
  obtain ⟨h32, h⟩ := mb_i h
  by_cases h33 : (sc.2 (v4 + (2 : Int32)).toNatClampNeg) = (0 : Int32)
  · rw [if_pos h33] at h
    refine mm_ev.go [true, true, true, true, true, true, true, true] (ps := [_, mm_in (v4 + (1 : Int32)) sc.1]) (c1 := (280, [some (.float 0), some (.ref 0), some (.ref 34), some (.ref 51), some (.int v4), o5, o6], [.float 0, .int (sc.2 (v4 + (1 : Int32)).toNatClampNeg), .ref 0], mH S, kc, ks)) rfl ⟨(by decide), h31, trivial⟩ ?_
    refine mm_ev.go [true, true, true, true, true] (ps := [mm_in (v4 + (2 : Int32)) sc.1, mm_cmp .eq (sc.2 (v4 + (2 : Int32)).toNatClampNeg) (0 : Int32)]) (c1 := (292, [some (.float 0), some (.ref 0), some (.ref 34), some (.ref 51), some (.int v4), o5, o6], [.int (sc.2 (v4 + (1 : Int32)).toNatClampNeg), .ref 0], mH S, kc, ks)) rfl ⟨h32, h33, trivial⟩ ?_
    refine mm_ev.go [true] (ps := []) (c1 := (293, [some (.float 0), some (.ref 0), some (.ref 34), some (.ref 51), some (.int v4), o5, o6], [.int (0 : Int32), .int (sc.2 (v4 + (1 : Int32)).toNatClampNeg), .ref 0], mH S, kc, ks)) rfl trivial ?_
    obtain ⟨r34, h35, h⟩ := mb_b h
    refine mm_ev.call (q := mq0) (q2 := mq86) (b := (293, .invokestatic 78, 3, 2, 7, 86, 3, 0, [410, 408, 409, 47])) (as := [.ref 0, .int (sc.2 (v4 + (1 : Int32)).toNatClampNeg), .int (0 : Int32)]) (r := []) (v := (some (.int r34.1))) (h1 := mH r34.2) rfl rfl rfl rfl ⟨(show kc + 0 + 1 ≤ 1089 by omega), (show ks + 0 + 6 ≤ 11401 by omega), Nat.le_of_ble_eq_true rfl⟩ (F86_ok (d + 1) h35) ?_
    refine mm_ev.to (c := (296, [some (.float 0), some (.ref 0), some (.ref 34), some (.ref 51), some (.int v4), o5, o6], [.int r34.1], mH r34.2, kc + 1, ks + 6)) rfl ?_
    refine mm_ev.go [true, true, true, true, true, true, true, true] (ps := [mm_in (v4 + (1 : Int32)) sc.1]) (c1 := (306, [some (.float 0), some (.ref 0), some (.ref 34), some (.ref 51), some (.int v4), some (.int r34.1), o6], [.float 0, .int (sc.2 (v4 + (1 : Int32)).toNatClampNeg), .ref 34], mH r34.2, kc + 1, ks + 6)) rfl ⟨h31, trivial⟩ ?_
    refine mm_ev.go [true, true, true, true, true, true] (ps := [mm_in (v4 + (2 : Int32)) sc.1, mm_cmp .eq (sc.2 (v4 + (2 : Int32)).toNatClampNeg) (0 : Int32)]) (c1 := (319, [some (.float 0), some (.ref 0), some (.ref 34), some (.ref 51), some (.int v4), some (.int r34.1), o6], [.int (0 : Int32), .int (sc.2 (v4 + (1 : Int32)).toNatClampNeg), .ref 34], mH r34.2, kc + 1, ks + 6)) rfl ⟨h32, h33, trivial⟩ ?_
    obtain ⟨r36, h37, h⟩ := mb_b h
    refine mm_ev.call (q := mq0) (q2 := mq64) (b := (319, .invokevirtual 81, 3, 2, 2, 64, 3, 6, [789, 786, 787, 54, 788])) (as := [.ref 34, .int (sc.2 (v4 + (1 : Int32)).toNatClampNeg), .int (0 : Int32)]) (r := []) (v := none) (h1 := mH r36) rfl rfl rfl rfl ⟨(show kc + 1 + 0 ≤ 1089 by omega), (show ks + 6 + 0 ≤ 11401 by omega), Nat.le_of_ble_eq_true rfl⟩ (F64_ok (d + 5) h37) ?_
    refine mm_ev.to (c := (322, [some (.float 0), some (.ref 0), some (.ref 34), some (.ref 51), some (.int v4), some (.int r34.1), o6], [], mH r36, kc + 1, ks + 6)) rfl ?_
    refine mm_ev.go [true] (ps := []) (c1 := (323, [some (.float 0), some (.ref 0), some (.ref 34), some (.ref 51), some (.int v4), some (.int r34.1), o6], [.ref 34], mH r36, kc + 1, ks + 6)) rfl trivial ?_
    obtain ⟨r38, h39, h⟩ := mb_b h
    refine mm_ev.call (q := mq0) (q2 := mq58) (b := (323, .invokevirtual 71, 3, 2, 2, 58, 1, 6, [766, 763, 764, 54, 765])) (as := [.ref 34]) (r := []) (v := (some (.int r38))) (h1 := mH r36) rfl rfl rfl rfl ⟨(show kc + 1 + 0 ≤ 1089 by omega), (show ks + 6 + 0 ≤ 11401 by omega), Nat.le_of_ble_eq_true rfl⟩ (F58_ok (d + 7) h39) ?_
    refine mm_ev.to (c := (326, [some (.float 0), some (.ref 0), some (.ref 34), some (.ref 51), some (.int v4), some (.int r34.1), o6], [.int r38], mH r36, kc + 1, ks + 6)) rfl ?_
    by_cases h40 : r38 = r34.1
    · rw [if_pos h40] at h
      refine mm_ev.go [true, true] (ps := [mm_cmp .eq r38 r34.1]) (c1 := (333, [some (.float 0), some (.ref 0), some (.ref 34), some (.ref 51), some (.int v4), some (.int r34.1), o6], [], mH r36, kc + 1, ks + 6)) rfl ⟨h40, trivial⟩ ?_
      refine mm_ev.go [true, true, true] (ps := []) (c1 := (23, [some (.float 0), some (.ref 0), some (.ref 34), some (.ref 51), some (.int (v4 + (6 : Int32))), some (.int r34.1), o6], [], mH r36, kc + 1, ks + 6)) rfl trivial ?_
      cases h
      exact hc0 _ _ (by omega) (by omega) rfl (some (.int r34.1)) o6
    · rw [if_neg h40] at h
      refine mm_ev.go [true, false] (ps := [¬ mm_cmp .eq r38 r34.1]) (c1 := (331, [some (.float 0), some (.ref 0), some (.ref 34), some (.ref 51), some (.int v4), some (.int r34.1), o6], [], mH r36, kc + 1, ks + 6)) rfl ⟨h40, trivial⟩ ?_
      cases h
  · rw [if_neg h33] at h
    refine mm_ev.go [true, true, true, true, true, true, true, true] (ps := [_, mm_in (v4 + (1 : Int32)) sc.1]) (c1 := (280, [some (.float 0), some (.ref 0), some (.ref 34), some (.ref 51), some (.int v4), o5, o6], [.float 0, .int (sc.2 (v4 + (1 : Int32)).toNatClampNeg), .ref 0], mH S, kc, ks)) rfl ⟨(by decide), h31, trivial⟩ ?_
    refine mm_ev.go [true, true, true, true, false] (ps := [mm_in (v4 + (2 : Int32)) sc.1, ¬ mm_cmp .eq (sc.2 (v4 + (2 : Int32)).toNatClampNeg) (0 : Int32)]) (c1 := (288, [some (.float 0), some (.ref 0), some (.ref 34), some (.ref 51), some (.int v4), o5, o6], [.int (sc.2 (v4 + (1 : Int32)).toNatClampNeg), .ref 0], mH S, kc, ks)) rfl ⟨h32, h33, trivial⟩ ?_
    refine mm_ev.go [true, true] (ps := []) (c1 := (293, [some (.float 0), some (.ref 0), some (.ref 34), some (.ref 51), some (.int v4), o5, o6], [.int (1 : Int32), .int (sc.2 (v4 + (1 : Int32)).toNatClampNeg), .ref 0], mH S, kc, ks)) rfl trivial ?_
    obtain ⟨r41, h42, h⟩ := mb_b h
    refine mm_ev.call (q := mq0) (q2 := mq86) (b := (293, .invokestatic 78, 3, 2, 7, 86, 3, 0, [410, 408, 409, 47])) (as := [.ref 0, .int (sc.2 (v4 + (1 : Int32)).toNatClampNeg), .int (1 : Int32)]) (r := []) (v := (some (.int r41.1))) (h1 := mH r41.2) rfl rfl rfl rfl ⟨(show kc + 0 + 1 ≤ 1089 by omega), (show ks + 0 + 6 ≤ 11401 by omega), Nat.le_of_ble_eq_true rfl⟩ (F86_ok (d + 1) h42) ?_
    refine mm_ev.to (c := (296, [some (.float 0), some (.ref 0), some (.ref 34), some (.ref 51), some (.int v4), o5, o6], [.int r41.1], mH r41.2, kc + 1, ks + 6)) rfl ?_
    refine mm_ev.go [true, true, true, true, true, true, true, true] (ps := [mm_in (v4 + (1 : Int32)) sc.1]) (c1 := (306, [some (.float 0), some (.ref 0), some (.ref 34), some (.ref 51), some (.int v4), some (.int r41.1), o6], [.float 0, .int (sc.2 (v4 + (1 : Int32)).toNatClampNeg), .ref 34], mH r41.2, kc + 1, ks + 6)) rfl ⟨h31, trivial⟩ ?_
    refine mm_ev.go [true, true, true, true, false, true, true] (ps := [mm_in (v4 + (2 : Int32)) sc.1, ¬ mm_cmp .eq (sc.2 (v4 + (2 : Int32)).toNatClampNeg) (0 : Int32)]) (c1 := (319, [some (.float 0), some (.ref 0), some (.ref 34), some (.ref 51), some (.int v4), some (.int r41.1), o6], [.int (1 : Int32), .int (sc.2 (v4 + (1 : Int32)).toNatClampNeg), .ref 34], mH r41.2, kc + 1, ks + 6)) rfl ⟨h32, h33, trivial⟩ ?_
    obtain ⟨r43, h44, h⟩ := mb_b h
    refine mm_ev.call (q := mq0) (q2 := mq64) (b := (319, .invokevirtual 81, 3, 2, 2, 64, 3, 6, [789, 786, 787, 54, 788])) (as := [.ref 34, .int (sc.2 (v4 + (1 : Int32)).toNatClampNeg), .int (1 : Int32)]) (r := []) (v := none) (h1 := mH r43) rfl rfl rfl rfl ⟨(show kc + 1 + 0 ≤ 1089 by omega), (show ks + 6 + 0 ≤ 11401 by omega), Nat.le_of_ble_eq_true rfl⟩ (F64_ok (d + 5) h44) ?_
    refine mm_ev.to (c := (322, [some (.float 0), some (.ref 0), some (.ref 34), some (.ref 51), some (.int v4), some (.int r41.1), o6], [], mH r43, kc + 1, ks + 6)) rfl ?_
    refine mm_ev.go [true] (ps := []) (c1 := (323, [some (.float 0), some (.ref 0), some (.ref 34), some (.ref 51), some (.int v4), some (.int r41.1), o6], [.ref 34], mH r43, kc + 1, ks + 6)) rfl trivial ?_
    obtain ⟨r45, h46, h⟩ := mb_b h
    refine mm_ev.call (q := mq0) (q2 := mq58) (b := (323, .invokevirtual 71, 3, 2, 2, 58, 1, 6, [766, 763, 764, 54, 765])) (as := [.ref 34]) (r := []) (v := (some (.int r45))) (h1 := mH r43) rfl rfl rfl rfl ⟨(show kc + 1 + 0 ≤ 1089 by omega), (show ks + 6 + 0 ≤ 11401 by omega), Nat.le_of_ble_eq_true rfl⟩ (F58_ok (d + 7) h46) ?_
    refine mm_ev.to (c := (326, [some (.float 0), some (.ref 0), some (.ref 34), some (.ref 51), some (.int v4), some (.int r41.1), o6], [.int r45], mH r43, kc + 1, ks + 6)) rfl ?_
    by_cases h47 : r45 = r41.1
    · rw [if_pos h47] at h
      refine mm_ev.go [true, true] (ps := [mm_cmp .eq r45 r41.1]) (c1 := (333, [some (.float 0), some (.ref 0), some (.ref 34), some (.ref 51), some (.int v4), some (.int r41.1), o6], [], mH r43, kc + 1, ks + 6)) rfl ⟨h47, trivial⟩ ?_
      refine mm_ev.go [true, true, true] (ps := []) (c1 := (23, [some (.float 0), some (.ref 0), some (.ref 34), some (.ref 51), some (.int (v4 + (6 : Int32))), some (.int r41.1), o6], [], mH r43, kc + 1, ks + 6)) rfl trivial ?_
      cases h
      exact hc0 _ _ (by omega) (by omega) rfl (some (.int r41.1)) o6
    · rw [if_neg h47] at h
      refine mm_ev.go [true, false] (ps := [¬ mm_cmp .eq r45 r41.1]) (c1 := (331, [some (.float 0), some (.ref 0), some (.ref 34), some (.ref 51), some (.int v4), some (.int r41.1), o6], [], mH r43, kc + 1, ks + 6)) rfl ⟨h47, trivial⟩ ?_
      cases h
/-- the law, an op of kind 3 -/
def I0_c3 (sc : mS) (S : mSt) (v4 : Int32) : Option (Nat × mSt × Int32) := if 0 ≤ (v4 + (1 : Int32)) ∧ (v4 + (1 : Int32)).toNatClampNeg < sc.1 then if 0 ≤ (v4 + (2 : Int32)) ∧ (v4 + (2 : Int32)).toNatClampNeg < sc.1 then if 0 ≤ (v4 + (3 : Int32)) ∧ (v4 + (3 : Int32)).toNatClampNeg < sc.1 then if 0 ≤ (v4 + (4 : Int32)) ∧ (v4 + (4 : Int32)).toNatClampNeg < sc.1 then if 0 ≤ (v4 + (5 : Int32)) ∧ (v4 + (5 : Int32)).toNatClampNeg < sc.1 then (F87 S (sc.2 (v4 + (1 : Int32)).toNatClampNeg) (sc.2 (v4 + (2 : Int32)).toNatClampNeg) (sc.2 (v4 + (3 : Int32)).toNatClampNeg) (sc.2 (v4 + (4 : Int32)).toNatClampNeg) (sc.2 (v4 + (5 : Int32)).toNatClampNeg)).bind fun r54 => ((F66 r54.2 (sc.2 (v4 + (1 : Int32)).toNatClampNeg) (sc.2 (v4 + (2 : Int32)).toNatClampNeg) (sc.2 (v4 + (3 : Int32)).toNatClampNeg) (sc.2 (v4 + (4 : Int32)).toNatClampNeg) (sc.2 (v4 + (5 : Int32)).toNatClampNeg)).bind fun r56 => ((F58 r56).bind fun r58 => (if r58 = r54.1 then (some (0, r56, v4 + (6 : Int32))) else none))) else none else none else none else none else none
set_option maxRecDepth 100000 in
set_option maxHeartbeats 4000000 in
theorem I0_c3_ok {sc : mS} (d kc ks : Nat) (hkc : kc + 2 ≤ 1089) (hks : ks + 12 ≤ 11401) {S : mSt} {v4 : Int32} {r : Nat × mSt × Int32} (h : I0_c3 sc S v4 = some r) (o5 : Option Value) (o6 : Option Value) {Q : mR → List mE → Prop} (hc0 : ∀ kc2 ks2 : Nat, kc2 ≤ kc + 2 → ks2 ≤ ks + 12 → r.1 = 0 → ∀ u5 : Option Value, ∀ u6 : Option Value, mm_ev sc mmK mmP (d + 8) 0 (23, [some (.float 0), some (.ref 0), some (.ref 34), some (.ref 51), some (.int r.2.2), u5, u6], [], mH r.2.1, kc2, ks2) Q) (hc1 : r.1 = 1 → ∀ u0 : Option Value, ∀ u1 : Option Value, ∀ u2 : Option Value, ∀ u3 : Option Value, ∀ u4 : Option Value, ∀ u5 : Option Value, ∀ u6 : Option Value, mm_ev sc mmK mmP (d + 8) 0 (880, [u0, u1, u2, u3, u4, u5, u6], [], mH r.2.1, kc, ks) Q) : mm_ev sc mmK mmP (d + 8) 0 (40, [some (.float 0), some (.ref 0), some (.ref 34), some (.ref 51), some (.int v4), o5, o6], [.int (3 : Int32)], mH S, kc, ks) Q := by
  unfold I0_c3 at h
  obtain ⟨h49, h⟩ := mb_i h
  obtain ⟨h50, h⟩ := mb_i h
  obtain ⟨h51, h⟩ := mb_i h
  obtain ⟨h52, h⟩ := mb_i h
  obtain ⟨h53, h⟩ := mb_i h
  refine mm_ev.go [true, true, true, true, true, true, true, true] (ps := [_, mm_in (v4 + (1 : Int32)) sc.1]) (c1 := (344, [some (.float 0), some (.ref 0), some (.ref 34), some (.ref 51), some (.int v4), o5, o6], [.float 0, .int (sc.2 (v4 + (1 : Int32)).toNatClampNeg), .ref 0], mH S, kc, ks)) rfl ⟨(by decide), h49, trivial⟩ ?_
  refine mm_ev.go [true, true, true, true, true, true, true, true] (ps := [mm_in (v4 + (2 : Int32)) sc.1]) (c1 := (354, [some (.float 0), some (.ref 0), some (.ref 34), some (.ref 51), some (.int v4), o5, o6], [.int (v4 + (3 : Int32)), .float 0, .int (sc.2 (v4 + (2 : Int32)).toNatClampNeg), .int (sc.2 (v4 + (1 : Int32)).toNatClampNeg), .ref 0], mH S, kc, ks)) rfl ⟨h50, trivial⟩ ?_
  refine mm_ev.go [true, true, true, true, true, true, true, true] (ps := [mm_in (v4 + (3 : Int32)) sc.1, mm_in (v4 + (4 : Int32)) sc.1]) (c1 := (364, [some (.float 0), some (.ref 0), some (.ref 34), some (.ref 51), some (.int v4), o5, o6], [.int v4, .float 0, .int (sc.2 (v4 + (4 : Int32)).toNatClampNeg), .int (sc.2 (v4 + (3 : Int32)).toNatClampNeg), .int (sc.2 (v4 + (2 : Int32)).toNatClampNeg), .int (sc.2 (v4 + (1 : Int32)).toNatClampNeg), .ref 0], mH S, kc, ks)) rfl ⟨h51, h52, trivial⟩ ?_
  refine mm_ev.go [true, true, true] (ps := [mm_in (v4 + (5 : Int32)) sc.1]) (c1 := (367, [some (.float 0), some (.ref 0), some (.ref 34), some (.ref 51), some (.int v4), o5, o6], [.int (sc.2 (v4 + (5 : Int32)).toNatClampNeg), .int (sc.2 (v4 + (4 : Int32)).toNatClampNeg), .int (sc.2 (v4 + (3 : Int32)).toNatClampNeg), .int (sc.2 (v4 + (2 : Int32)).toNatClampNeg), .int (sc.2 (v4 + (1 : Int32)).toNatClampNeg), .ref 0], mH S, kc, ks)) rfl ⟨h53, trivial⟩ ?_
  obtain ⟨r54, h55, h⟩ := mb_b h
  refine mm_ev.call (q := mq0) (q2 := mq87) (b := (367, .invokestatic 82, 3, 2, 7, 87, 6, 0, [438, 436, 437, 47])) (as := [.ref 0, .int (sc.2 (v4 + (1 : Int32)).toNatClampNeg), .int (sc.2 (v4 + (2 : Int32)).toNatClampNeg), .int (sc.2 (v4 + (3 : Int32)).toNatClampNeg), .int (sc.2 (v4 + (4 : Int32)).toNatClampNeg), .int (sc.2 (v4 + (5 : Int32)).toNatClampNeg)]) (r := []) (v := (some (.int r54.1))) (h1 := mH r54.2) rfl rfl rfl rfl ⟨(show kc + 0 + 1 ≤ 1089 by omega), (show ks + 0 + 6 ≤ 11401 by omega), Nat.le_of_ble_eq_true rfl⟩ (F87_ok (d + 1) h55) ?_
  refine mm_ev.to (c := (370, [some (.float 0), some (.ref 0), some (.ref 34), some (.ref 51), some (.int v4), o5, o6], [.int r54.1], mH r54.2, kc + 1, ks + 6)) rfl ?_
  refine mm_ev.go [true, true, true, true, true, true, true, true] (ps := [mm_in (v4 + (1 : Int32)) sc.1]) (c1 := (380, [some (.float 0), some (.ref 0), some (.ref 34), some (.ref 51), some (.int v4), some (.int r54.1), o6], [.float 0, .int (sc.2 (v4 + (1 : Int32)).toNatClampNeg), .ref 34], mH r54.2, kc + 1, ks + 6)) rfl ⟨h49, trivial⟩ ?_
  refine mm_ev.go [true, true, true, true, true, true, true, true] (ps := [mm_in (v4 + (2 : Int32)) sc.1]) (c1 := (390, [some (.float 0), some (.ref 0), some (.ref 34), some (.ref 51), some (.int v4), some (.int r54.1), o6], [.int (v4 + (3 : Int32)), .float 0, .int (sc.2 (v4 + (2 : Int32)).toNatClampNeg), .int (sc.2 (v4 + (1 : Int32)).toNatClampNeg), .ref 34], mH r54.2, kc + 1, ks + 6)) rfl ⟨h50, trivial⟩ ?_
  refine mm_ev.go [true, true, true, true, true, true, true, true] (ps := [mm_in (v4 + (3 : Int32)) sc.1, mm_in (v4 + (4 : Int32)) sc.1]) (c1 := (400, [some (.float 0), some (.ref 0), some (.ref 34), some (.ref 51), some (.int v4), some (.int r54.1), o6], [.int v4, .float 0, .int (sc.2 (v4 + (4 : Int32)).toNatClampNeg), .int (sc.2 (v4 + (3 : Int32)).toNatClampNeg), .int (sc.2 (v4 + (2 : Int32)).toNatClampNeg), .int (sc.2 (v4 + (1 : Int32)).toNatClampNeg), .ref 34], mH r54.2, kc + 1, ks + 6)) rfl ⟨h51, h52, trivial⟩ ?_
  refine mm_ev.go [true, true, true] (ps := [mm_in (v4 + (5 : Int32)) sc.1]) (c1 := (403, [some (.float 0), some (.ref 0), some (.ref 34), some (.ref 51), some (.int v4), some (.int r54.1), o6], [.int (sc.2 (v4 + (5 : Int32)).toNatClampNeg), .int (sc.2 (v4 + (4 : Int32)).toNatClampNeg), .int (sc.2 (v4 + (3 : Int32)).toNatClampNeg), .int (sc.2 (v4 + (2 : Int32)).toNatClampNeg), .int (sc.2 (v4 + (1 : Int32)).toNatClampNeg), .ref 34], mH r54.2, kc + 1, ks + 6)) rfl ⟨h53, trivial⟩ ?_
  obtain ⟨r56, h57, h⟩ := mb_b h
  refine mm_ev.call (q := mq0) (q2 := mq66) (b := (403, .invokevirtual 85, 3, 2, 2, 66, 6, 6, [797, 794, 795, 54, 796])) (as := [.ref 34, .int (sc.2 (v4 + (1 : Int32)).toNatClampNeg), .int (sc.2 (v4 + (2 : Int32)).toNatClampNeg), .int (sc.2 (v4 + (3 : Int32)).toNatClampNeg), .int (sc.2 (v4 + (4 : Int32)).toNatClampNeg), .int (sc.2 (v4 + (5 : Int32)).toNatClampNeg)]) (r := []) (v := none) (h1 := mH r56) rfl rfl rfl rfl ⟨(show kc + 1 + 0 ≤ 1089 by omega), (show ks + 6 + 0 ≤ 11401 by omega), Nat.le_of_ble_eq_true rfl⟩ (F66_ok (d + 6) h57) ?_
  refine mm_ev.to (c := (406, [some (.float 0), some (.ref 0), some (.ref 34), some (.ref 51), some (.int v4), some (.int r54.1), o6], [], mH r56, kc + 1, ks + 6)) rfl ?_
  refine mm_ev.go [true] (ps := []) (c1 := (407, [some (.float 0), some (.ref 0), some (.ref 34), some (.ref 51), some (.int v4), some (.int r54.1), o6], [.ref 34], mH r56, kc + 1, ks + 6)) rfl trivial ?_
  obtain ⟨r58, h59, h⟩ := mb_b h
  refine mm_ev.call (q := mq0) (q2 := mq58) (b := (407, .invokevirtual 71, 3, 2, 2, 58, 1, 6, [766, 763, 764, 54, 765])) (as := [.ref 34]) (r := []) (v := (some (.int r58))) (h1 := mH r56) rfl rfl rfl rfl ⟨(show kc + 1 + 0 ≤ 1089 by omega), (show ks + 6 + 0 ≤ 11401 by omega), Nat.le_of_ble_eq_true rfl⟩ (F58_ok (d + 7) h59) ?_
  refine mm_ev.to (c := (410, [some (.float 0), some (.ref 0), some (.ref 34), some (.ref 51), some (.int v4), some (.int r54.1), o6], [.int r58], mH r56, kc + 1, ks + 6)) rfl ?_
  by_cases h60 : r58 = r54.1
  · rw [if_pos h60] at h
    refine mm_ev.go [true, true] (ps := [mm_cmp .eq r58 r54.1]) (c1 := (417, [some (.float 0), some (.ref 0), some (.ref 34), some (.ref 51), some (.int v4), some (.int r54.1), o6], [], mH r56, kc + 1, ks + 6)) rfl ⟨h60, trivial⟩ ?_
    refine mm_ev.go [true, true, true] (ps := []) (c1 := (23, [some (.float 0), some (.ref 0), some (.ref 34), some (.ref 51), some (.int (v4 + (6 : Int32))), some (.int r54.1), o6], [], mH r56, kc + 1, ks + 6)) rfl trivial ?_
    cases h
    exact hc0 _ _ (by omega) (by omega) rfl (some (.int r54.1)) o6
  · rw [if_neg h60] at h
    refine mm_ev.go [true, false] (ps := [¬ mm_cmp .eq r58 r54.1]) (c1 := (415, [some (.float 0), some (.ref 0), some (.ref 34), some (.ref 51), some (.int v4), some (.int r54.1), o6], [], mH r56, kc + 1, ks + 6)) rfl ⟨h60, trivial⟩ ?_
    cases h
/-- the law, an op of kind 4 -/
def I0_c4 (sc : mS) (n : Nat) (S : mSt) (v4 : Int32) : Option (Nat × mSt × Int32) := if 0 ≤ (v4 + (1 : Int32)) ∧ (v4 + (1 : Int32)).toNatClampNeg < sc.1 then if 0 ≤ (v4 + (2 : Int32)) ∧ (v4 + (2 : Int32)).toNatClampNeg < sc.1 then (F88 n S (sc.2 (v4 + (1 : Int32)).toNatClampNeg) (sc.2 (v4 + (2 : Int32)).toNatClampNeg)).bind fun r64 => ((F67 r64.2 (sc.2 (v4 + (1 : Int32)).toNatClampNeg) (sc.2 (v4 + (2 : Int32)).toNatClampNeg)).bind fun r66 => ((F58 r66.2).bind fun r68 => (if r68 = r64.1 then (if r64.1 = (0 : Int32) then (if 0 ≤ (0 : Int32) ∧ (0 : Int32).toNatClampNeg < 1 then if (lg_cmp (r66.2.2.2 (0 : Int32).toNatClampNeg) r66.1.toInt64) = (0 : Int32) then (some (0, r66.2, v4 + (6 : Int32))) else none else none) else (some (0, r66.2, v4 + (6 : Int32)))) else none))) else none else none
set_option maxRecDepth 100000 in
set_option maxHeartbeats 4000000 in
theorem I0_c4_ok {sc : mS} (d kc ks : Nat) (hkc : kc + 2 ≤ 1089) (hks : ks + 12 ≤ 11401) {n : Nat} {S : mSt} {v4 : Int32} {r : Nat × mSt × Int32} (h : I0_c4 sc n S v4 = some r) (o5 : Option Value) (o6 : Option Value) {Q : mR → List mE → Prop} (hc0 : ∀ kc2 ks2 : Nat, kc2 ≤ kc + 2 → ks2 ≤ ks + 12 → r.1 = 0 → ∀ u5 : Option Value, ∀ u6 : Option Value, mm_ev sc mmK mmP (d + 8) 0 (23, [some (.float 0), some (.ref 0), some (.ref 34), some (.ref 51), some (.int r.2.2), u5, u6], [], mH r.2.1, kc2, ks2) Q) (hc1 : r.1 = 1 → ∀ u0 : Option Value, ∀ u1 : Option Value, ∀ u2 : Option Value, ∀ u3 : Option Value, ∀ u4 : Option Value, ∀ u5 : Option Value, ∀ u6 : Option Value, mm_ev sc mmK mmP (d + 8) 0 (880, [u0, u1, u2, u3, u4, u5, u6], [], mH r.2.1, kc, ks) Q) : mm_ev sc mmK mmP (d + 8) 0 (40, [some (.float 0), some (.ref 0), some (.ref 34), some (.ref 51), some (.int v4), o5, o6], [.int (4 : Int32)], mH S, kc, ks) Q := by
  unfold I0_c4 at h
  obtain ⟨h62, h⟩ := mb_i h
  obtain ⟨h63, h⟩ := mb_i h
  refine mm_ev.go [true, true, true, true, true, true, true, true] (ps := [_, mm_in (v4 + (1 : Int32)) sc.1]) (c1 := (428, [some (.float 0), some (.ref 0), some (.ref 34), some (.ref 51), some (.int v4), o5, o6], [.float 0, .int (sc.2 (v4 + (1 : Int32)).toNatClampNeg), .ref 0], mH S, kc, ks)) rfl ⟨(by decide), h62, trivial⟩ ?_
  refine mm_ev.go [true, true, true, true, true] (ps := [mm_in (v4 + (2 : Int32)) sc.1]) (c1 := (434, [some (.float 0), some (.ref 0), some (.ref 34), some (.ref 51), some (.int v4), o5, o6], [.ref 51, .int (sc.2 (v4 + (2 : Int32)).toNatClampNeg), .int (sc.2 (v4 + (1 : Int32)).toNatClampNeg), .ref 0], mH S, kc, ks)) rfl ⟨h63, trivial⟩ ?_
  obtain ⟨r64, h65, h⟩ := mb_b h
  refine mm_ev.call (q := mq0) (q2 := mq88) (b := (434, .invokestatic 86, 3, 2, 7, 88, 4, 0, [446, 444, 445, 47])) (as := [.ref 0, .int (sc.2 (v4 + (1 : Int32)).toNatClampNeg), .int (sc.2 (v4 + (2 : Int32)).toNatClampNeg), .ref 51]) (r := []) (v := (some (.int r64.1))) (h1 := mH r64.2) rfl rfl rfl rfl ⟨(show kc + 0 + 1 ≤ 1089 by omega), (show ks + 0 + 6 ≤ 11401 by omega), Nat.le_of_ble_eq_true rfl⟩ (F88_ok (d + 1) h65) ?_
  refine mm_ev.to (c := (437, [some (.float 0), some (.ref 0), some (.ref 34), some (.ref 51), some (.int v4), o5, o6], [.int r64.1], mH r64.2, kc + 1, ks + 6)) rfl ?_
  refine mm_ev.go [true, true, true, true, true, true, true, true] (ps := [mm_in (v4 + (1 : Int32)) sc.1]) (c1 := (447, [some (.float 0), some (.ref 0), some (.ref 34), some (.ref 51), some (.int v4), some (.int r64.1), o6], [.float 0, .int (sc.2 (v4 + (1 : Int32)).toNatClampNeg), .ref 34], mH r64.2, kc + 1, ks + 6)) rfl ⟨h62, trivial⟩ ?_
  refine mm_ev.go [true, true, true, true] (ps := [mm_in (v4 + (2 : Int32)) sc.1]) (c1 := (452, [some (.float 0), some (.ref 0), some (.ref 34), some (.ref 51), some (.int v4), some (.int r64.1), o6], [.int (sc.2 (v4 + (2 : Int32)).toNatClampNeg), .int (sc.2 (v4 + (1 : Int32)).toNatClampNeg), .ref 34], mH r64.2, kc + 1, ks + 6)) rfl ⟨h63, trivial⟩ ?_
  obtain ⟨r66, h67, h⟩ := mb_b h
  refine mm_ev.call (q := mq0) (q2 := mq67) (b := (452, .invokevirtual 89, 3, 2, 2, 67, 3, 6, [801, 798, 799, 54, 800])) (as := [.ref 34, .int (sc.2 (v4 + (1 : Int32)).toNatClampNeg), .int (sc.2 (v4 + (2 : Int32)).toNatClampNeg)]) (r := []) (v := (some (.int r66.1))) (h1 := mH r66.2) rfl rfl rfl rfl ⟨(show kc + 1 + 0 ≤ 1089 by omega), (show ks + 6 + 0 ≤ 11401 by omega), Nat.le_of_ble_eq_true rfl⟩ (F67_ok (d + 6) h67) ?_
  refine mm_ev.to (c := (455, [some (.float 0), some (.ref 0), some (.ref 34), some (.ref 51), some (.int v4), some (.int r64.1), o6], [.int r66.1], mH r66.2, kc + 1, ks + 6)) rfl ?_
  refine mm_ev.go [true, true] (ps := []) (c1 := (458, [some (.float 0), some (.ref 0), some (.ref 34), some (.ref 51), some (.int v4), some (.int r64.1), some (.int r66.1)], [.ref 34], mH r66.2, kc + 1, ks + 6)) rfl trivial ?_
  obtain ⟨r68, h69, h⟩ := mb_b h
  refine mm_ev.call (q := mq0) (q2 := mq58) (b := (458, .invokevirtual 71, 3, 2, 2, 58, 1, 6, [766, 763, 764, 54, 765])) (as := [.ref 34]) (r := []) (v := (some (.int r68))) (h1 := mH r66.2) rfl rfl rfl rfl ⟨(show kc + 1 + 0 ≤ 1089 by omega), (show ks + 6 + 0 ≤ 11401 by omega), Nat.le_of_ble_eq_true rfl⟩ (F58_ok (d + 7) h69) ?_
  refine mm_ev.to (c := (461, [some (.float 0), some (.ref 0), some (.ref 34), some (.ref 51), some (.int v4), some (.int r64.1), some (.int r66.1)], [.int r68], mH r66.2, kc + 1, ks + 6)) rfl ?_
  by_cases h70 : r68 = r64.1
  · rw [if_pos h70] at h
    refine mm_ev.go [true, true] (ps := [mm_cmp .eq r68 r64.1]) (c1 := (468, [some (.float 0), some (.ref 0), some (.ref 34), some (.ref 51), some (.int v4), some (.int r64.1), some (.int r66.1)], [], mH r66.2, kc + 1, ks + 6)) rfl ⟨h70, trivial⟩ ?_
    by_cases h71 : r64.1 = (0 : Int32)
    · rw [if_pos h71] at h
      refine mm_ev.go [true, false] (ps := [¬ mm_cmp .ne r64.1 (0 : Int32)]) (c1 := (473, [some (.float 0), some (.ref 0), some (.ref 34), some (.ref 51), some (.int v4), some (.int r64.1), some (.int r66.1)], [], mH r66.2, kc + 1, ks + 6)) rfl ⟨(fun z => z h71), trivial⟩ ?_
      obtain ⟨h72, h⟩ := mb_i h
      by_cases h73 : (lg_cmp (r66.2.2.2 (0 : Int32).toNatClampNeg) r66.1.toInt64) = (0 : Int32)
      · rw [if_pos h73] at h
        refine mm_ev.go [true, true, true, true, true, true, true] (ps := [mm_in (0 : Int32) 1, mm_cmp .eq (lg_cmp (r66.2.2.2 (0 : Int32).toNatClampNeg) r66.1.toInt64) (0 : Int32)]) (c1 := (485, [some (.float 0), some (.ref 0), some (.ref 34), some (.ref 51), some (.int v4), some (.int r64.1), some (.int r66.1)], [], mH r66.2, kc + 1, ks + 6)) rfl ⟨h72, h73, trivial⟩ ?_
        refine mm_ev.go [true, true, true] (ps := []) (c1 := (23, [some (.float 0), some (.ref 0), some (.ref 34), some (.ref 51), some (.int (v4 + (6 : Int32))), some (.int r64.1), some (.int r66.1)], [], mH r66.2, kc + 1, ks + 6)) rfl trivial ?_
        cases h
        exact hc0 _ _ (by omega) (by omega) rfl (some (.int r64.1)) (some (.int r66.1))
      · rw [if_neg h73] at h
        refine mm_ev.go [true, true, true, true, true, true, false] (ps := [mm_in (0 : Int32) 1, ¬ mm_cmp .eq (lg_cmp (r66.2.2.2 (0 : Int32).toNatClampNeg) r66.1.toInt64) (0 : Int32)]) (c1 := (483, [some (.float 0), some (.ref 0), some (.ref 34), some (.ref 51), some (.int v4), some (.int r64.1), some (.int r66.1)], [], mH r66.2, kc + 1, ks + 6)) rfl ⟨h72, h73, trivial⟩ ?_
        cases h
    · rw [if_neg h71] at h
      refine mm_ev.go [true, true] (ps := [mm_cmp .ne r64.1 (0 : Int32)]) (c1 := (485, [some (.float 0), some (.ref 0), some (.ref 34), some (.ref 51), some (.int v4), some (.int r64.1), some (.int r66.1)], [], mH r66.2, kc + 1, ks + 6)) rfl ⟨h71, trivial⟩ ?_
      refine mm_ev.go [true, true, true] (ps := []) (c1 := (23, [some (.float 0), some (.ref 0), some (.ref 34), some (.ref 51), some (.int (v4 + (6 : Int32))), some (.int r64.1), some (.int r66.1)], [], mH r66.2, kc + 1, ks + 6)) rfl trivial ?_
      cases h
      exact hc0 _ _ (by omega) (by omega) rfl (some (.int r64.1)) (some (.int r66.1))
  · rw [if_neg h70] at h
    refine mm_ev.go [true, false] (ps := [¬ mm_cmp .eq r68 r64.1]) (c1 := (466, [some (.float 0), some (.ref 0), some (.ref 34), some (.ref 51), some (.int v4), some (.int r64.1), some (.int r66.1)], [], mH r66.2, kc + 1, ks + 6)) rfl ⟨h70, trivial⟩ ?_
    cases h
