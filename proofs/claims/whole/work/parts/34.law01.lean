/-! the law, once round (1) -/
/-- the law, an op of kind 5 -/
def I0_c5 (sc : mS) (n : Nat) (S : mSt) (v4 : Int32) : Option (Nat × mSt × Int32) := if 0 ≤ (v4 + (1 : Int32)) ∧ (v4 + (1 : Int32)).toNatClampNeg < sc.1 then (F89 n S (sc.2 (v4 + (1 : Int32)).toNatClampNeg)).bind fun r76 => ((F68 n r76.2 (sc.2 (v4 + (1 : Int32)).toNatClampNeg)).bind fun r78 => ((F58 r78.2).bind fun r80 => (if r80 = r76.1 then (if r76.1 = (0 : Int32) then (if 0 ≤ (0 : Int32) ∧ (0 : Int32).toNatClampNeg < 1 then if (lg_cmp (r78.2.2.2 (0 : Int32).toNatClampNeg) r78.1.toInt64) = (0 : Int32) then (some (0, r78.2, v4 + (6 : Int32))) else none else none) else (some (0, r78.2, v4 + (6 : Int32)))) else none))) else none
set_option maxRecDepth 100000 in
set_option maxHeartbeats 4000000 in
theorem I0_c5_ok {sc : mS} (d kc ks : Nat) (hkc : kc + 2 ≤ 1089) (hks : ks + 12 ≤ 11401) {n : Nat} {S : mSt} {v4 : Int32} {r : Nat × mSt × Int32} (h : I0_c5 sc n S v4 = some r) (o5 : Option Value) (o6 : Option Value) {Q : mR → List mE → Prop} (hc0 : ∀ kc2 ks2 : Nat, kc2 ≤ kc + 2 → ks2 ≤ ks + 12 → r.1 = 0 → ∀ u5 : Option Value, ∀ u6 : Option Value, mm_ev sc mmK mmP (d + 8) 0 (23, [some (.float 0), some (.ref 0), some (.ref 34), some (.ref 51), some (.int r.2.2), u5, u6], [], mH r.2.1, kc2, ks2) Q) (hc1 : r.1 = 1 → ∀ u0 : Option Value, ∀ u1 : Option Value, ∀ u2 : Option Value, ∀ u3 : Option Value, ∀ u4 : Option Value, ∀ u5 : Option Value, ∀ u6 : Option Value, mm_ev sc mmK mmP (d + 8) 0 (880, [u0, u1, u2, u3, u4, u5, u6], [], mH r.2.1, kc, ks) Q) : mm_ev sc mmK mmP (d + 8) 0 (40, [some (.float 0), some (.ref 0), some (.ref 34), some (.ref 51), some (.int v4), o5, o6], [.int (5 : Int32)], mH S, kc, ks) Q := by
  unfold I0_c5 at h
  obtain ⟨h75, h⟩ := mb_i h
  refine mm_ev.go [true, true, true, true, true, true, true, true] (ps := [_, mm_in (v4 + (1 : Int32)) sc.1]) (c1 := (496, [some (.float 0), some (.ref 0), some (.ref 34), some (.ref 51), some (.int v4), o5, o6], [.ref 51, .int (sc.2 (v4 + (1 : Int32)).toNatClampNeg), .ref 0], mH S, kc, ks)) rfl ⟨(by decide), h75, trivial⟩ ?_
  obtain ⟨r76, h77, h⟩ := mb_b h
  refine mm_ev.call (q := mq0) (q2 := mq89) (b := (496, .invokestatic 90, 3, 2, 7, 89, 3, 0, [462, 460, 461, 47])) (as := [.ref 0, .int (sc.2 (v4 + (1 : Int32)).toNatClampNeg), .ref 51]) (r := []) (v := (some (.int r76.1))) (h1 := mH r76.2) rfl rfl rfl rfl ⟨(show kc + 0 + 1 ≤ 1089 by omega), (show ks + 0 + 6 ≤ 11401 by omega), Nat.le_of_ble_eq_true rfl⟩ (F89_ok (d + 1) h77) ?_
  refine mm_ev.to (c := (499, [some (.float 0), some (.ref 0), some (.ref 34), some (.ref 51), some (.int v4), o5, o6], [.int r76.1], mH r76.2, kc + 1, ks + 6)) rfl ?_
  refine mm_ev.go [true, true, true, true, true, true, true] (ps := [mm_in (v4 + (1 : Int32)) sc.1]) (c1 := (508, [some (.float 0), some (.ref 0), some (.ref 34), some (.ref 51), some (.int v4), some (.int r76.1), o6], [.int (sc.2 (v4 + (1 : Int32)).toNatClampNeg), .ref 34], mH r76.2, kc + 1, ks + 6)) rfl ⟨h75, trivial⟩ ?_
  obtain ⟨r78, h79, h⟩ := mb_b h
  refine mm_ev.call (q := mq0) (q2 := mq68) (b := (508, .invokevirtual 93, 3, 2, 2, 68, 2, 6, [805, 802, 803, 54, 804])) (as := [.ref 34, .int (sc.2 (v4 + (1 : Int32)).toNatClampNeg)]) (r := []) (v := (some (.int r78.1))) (h1 := mH r78.2) rfl rfl rfl rfl ⟨(show kc + 1 + 0 ≤ 1089 by omega), (show ks + 6 + 0 ≤ 11401 by omega), Nat.le_of_ble_eq_true rfl⟩ (F68_ok (d + 4) h79) ?_
  refine mm_ev.to (c := (511, [some (.float 0), some (.ref 0), some (.ref 34), some (.ref 51), some (.int v4), some (.int r76.1), o6], [.int r78.1], mH r78.2, kc + 1, ks + 6)) rfl ?_
  refine mm_ev.go [true, true] (ps := []) (c1 := (514, [some (.float 0), some (.ref 0), some (.ref 34), some (.ref 51), some (.int v4), some (.int r76.1), some (.int r78.1)], [.ref 34], mH r78.2, kc + 1, ks + 6)) rfl trivial ?_
  obtain ⟨r80, h81, h⟩ := mb_b h
  refine mm_ev.call (q := mq0) (q2 := mq58) (b := (514, .invokevirtual 71, 3, 2, 2, 58, 1, 6, [766, 763, 764, 54, 765])) (as := [.ref 34]) (r := []) (v := (some (.int r80))) (h1 := mH r78.2) rfl rfl rfl rfl ⟨(show kc + 1 + 0 ≤ 1089 by omega), (show ks + 6 + 0 ≤ 11401 by omega), Nat.le_of_ble_eq_true rfl⟩ (F58_ok (d + 7) h81) ?_
  refine mm_ev.to (c := (517, [some (.float 0), some (.ref 0), some (.ref 34), some (.ref 51), some (.int v4), some (.int r76.1), some (.int r78.1)], [.int r80], mH r78.2, kc + 1, ks + 6)) rfl ?_
  by_cases h82 : r80 = r76.1
  · rw [if_pos h82] at h
    refine mm_ev.go [true, true] (ps := [mm_cmp .eq r80 r76.1]) (c1 := (524, [some (.float 0), some (.ref 0), some (.ref 34), some (.ref 51), some (.int v4), some (.int r76.1), some (.int r78.1)], [], mH r78.2, kc + 1, ks + 6)) rfl ⟨h82, trivial⟩ ?_
    by_cases h83 : r76.1 = (0 : Int32)
    · rw [if_pos h83] at h
      refine mm_ev.go [true, false] (ps := [¬ mm_cmp .ne r76.1 (0 : Int32)]) (c1 := (529, [some (.float 0), some (.ref 0), some (.ref 34), some (.ref 51), some (.int v4), some (.int r76.1), some (.int r78.1)], [], mH r78.2, kc + 1, ks + 6)) rfl ⟨(fun z => z h83), trivial⟩ ?_
      obtain ⟨h84, h⟩ := mb_i h
      by_cases h85 : (lg_cmp (r78.2.2.2 (0 : Int32).toNatClampNeg) r78.1.toInt64) = (0 : Int32)
      · rw [if_pos h85] at h
        refine mm_ev.go [true, true, true, true, true, true, true] (ps := [mm_in (0 : Int32) 1, mm_cmp .eq (lg_cmp (r78.2.2.2 (0 : Int32).toNatClampNeg) r78.1.toInt64) (0 : Int32)]) (c1 := (541, [some (.float 0), some (.ref 0), some (.ref 34), some (.ref 51), some (.int v4), some (.int r76.1), some (.int r78.1)], [], mH r78.2, kc + 1, ks + 6)) rfl ⟨h84, h85, trivial⟩ ?_
        refine mm_ev.go [true, true, true] (ps := []) (c1 := (23, [some (.float 0), some (.ref 0), some (.ref 34), some (.ref 51), some (.int (v4 + (6 : Int32))), some (.int r76.1), some (.int r78.1)], [], mH r78.2, kc + 1, ks + 6)) rfl trivial ?_
        cases h
        exact hc0 _ _ (by omega) (by omega) rfl (some (.int r76.1)) (some (.int r78.1))
      · rw [if_neg h85] at h
        refine mm_ev.go [true, true, true, true, true, true, false] (ps := [mm_in (0 : Int32) 1, ¬ mm_cmp .eq (lg_cmp (r78.2.2.2 (0 : Int32).toNatClampNeg) r78.1.toInt64) (0 : Int32)]) (c1 := (539, [some (.float 0), some (.ref 0), some (.ref 34), some (.ref 51), some (.int v4), some (.int r76.1), some (.int r78.1)], [], mH r78.2, kc + 1, ks + 6)) rfl ⟨h84, h85, trivial⟩ ?_
        cases h
    · rw [if_neg h83] at h
      refine mm_ev.go [true, true] (ps := [mm_cmp .ne r76.1 (0 : Int32)]) (c1 := (541, [some (.float 0), some (.ref 0), some (.ref 34), some (.ref 51), some (.int v4), some (.int r76.1), some (.int r78.1)], [], mH r78.2, kc + 1, ks + 6)) rfl ⟨h83, trivial⟩ ?_
      refine mm_ev.go [true, true, true] (ps := []) (c1 := (23, [some (.float 0), some (.ref 0), some (.ref 34), some (.ref 51), some (.int (v4 + (6 : Int32))), some (.int r76.1), some (.int r78.1)], [], mH r78.2, kc + 1, ks + 6)) rfl trivial ?_
      cases h
      exact hc0 _ _ (by omega) (by omega) rfl (some (.int r76.1)) (some (.int r78.1))
  · rw [if_neg h82] at h
    refine mm_ev.go [true, false] (ps := [¬ mm_cmp .eq r80 r76.1]) (c1 := (522, [some (.float 0), some (.ref 0), some (.ref 34), some (.ref 51), some (.int v4), some (.int r76.1), some (.int r78.1)], [], mH r78.2, kc + 1, ks + 6)) rfl ⟨h82, trivial⟩ ?_
    cases h
/-- the law, an op of kind 6 -/
def I0_c6 (sc : mS) (S : mSt) (v4 : Int32) : Option (Nat × mSt × Int32) := (F90 S).bind fun r87 => ((F77 r87.2).bind fun r89 => ((F58 r89.2).bind fun r91 => (if r91 = r87.1 then (if r87.1 = (0 : Int32) then (if 0 ≤ (0 : Int32) ∧ (0 : Int32).toNatClampNeg < 1 then if r89.1 = (0 : Int32) then (if (lg_cmp (r89.2.2.2 (0 : Int32).toNatClampNeg) (0 : Int64)) = (0 : Int32) then (some (0, r89.2, v4 + (6 : Int32))) else none) else (if (lg_cmp (r89.2.2.2 (0 : Int32).toNatClampNeg) (1 : Int64)) = (0 : Int32) then (some (0, r89.2, v4 + (6 : Int32))) else none) else none) else (some (0, r89.2, v4 + (6 : Int32)))) else none)))
set_option maxRecDepth 100000 in
set_option maxHeartbeats 4000000 in
theorem I0_c6_ok {sc : mS} (d kc ks : Nat) (hkc : kc + 2 ≤ 1089) (hks : ks + 12 ≤ 11401) {S : mSt} {v4 : Int32} {r : Nat × mSt × Int32} (h : I0_c6 sc S v4 = some r) (o5 : Option Value) (o6 : Option Value) {Q : mR → List mE → Prop} (hc0 : ∀ kc2 ks2 : Nat, kc2 ≤ kc + 2 → ks2 ≤ ks + 12 → r.1 = 0 → ∀ u5 : Option Value, ∀ u6 : Option Value, mm_ev sc mmK mmP (d + 8) 0 (23, [some (.float 0), some (.ref 0), some (.ref 34), some (.ref 51), some (.int r.2.2), u5, u6], [], mH r.2.1, kc2, ks2) Q) (hc1 : r.1 = 1 → ∀ u0 : Option Value, ∀ u1 : Option Value, ∀ u2 : Option Value, ∀ u3 : Option Value, ∀ u4 : Option Value, ∀ u5 : Option Value, ∀ u6 : Option Value, mm_ev sc mmK mmP (d + 8) 0 (880, [u0, u1, u2, u3, u4, u5, u6], [], mH r.2.1, kc, ks) Q) : mm_ev sc mmK mmP (d + 8) 0 (40, [some (.float 0), some (.ref 0), some (.ref 34), some (.ref 51), some (.int v4), o5, o6], [.int (6 : Int32)], mH S, kc, ks) Q := by
  unfold I0_c6 at h
  refine mm_ev.go [true, true, true] (ps := [_]) (c1 := (546, [some (.float 0), some (.ref 0), some (.ref 34), some (.ref 51), some (.int v4), o5, o6], [.ref 51, .ref 0], mH S, kc, ks)) rfl ⟨(by decide), trivial⟩ ?_
  obtain ⟨r87, h88, h⟩ := mb_b h
  refine mm_ev.call (q := mq0) (q2 := mq90) (b := (546, .invokestatic 94, 3, 2, 7, 90, 2, 0, [583, 581, 582, 47])) (as := [.ref 0, .ref 51]) (r := []) (v := (some (.int r87.1))) (h1 := mH r87.2) rfl rfl rfl rfl ⟨(show kc + 0 + 1 ≤ 1089 by omega), (show ks + 0 + 6 ≤ 11401 by omega), Nat.le_of_ble_eq_true rfl⟩ (F90_ok d h88) ?_
  refine mm_ev.to (c := (549, [some (.float 0), some (.ref 0), some (.ref 34), some (.ref 51), some (.int v4), o5, o6], [.int r87.1], mH r87.2, kc + 1, ks + 6)) rfl ?_
  refine mm_ev.go [true, true] (ps := []) (c1 := (552, [some (.float 0), some (.ref 0), some (.ref 34), some (.ref 51), some (.int v4), some (.int r87.1), o6], [.ref 34], mH r87.2, kc + 1, ks + 6)) rfl trivial ?_
  obtain ⟨r89, h90, h⟩ := mb_b h
  refine mm_ev.call (q := mq0) (q2 := mq77) (b := (552, .invokevirtual 97, 3, 2, 2, 77, 1, 6, [841, 838, 839, 54, 840])) (as := [.ref 34]) (r := []) (v := (some (.int r89.1))) (h1 := mH r89.2) rfl rfl rfl rfl ⟨(show kc + 1 + 0 ≤ 1089 by omega), (show ks + 6 + 0 ≤ 11401 by omega), Nat.le_of_ble_eq_true rfl⟩ (F77_ok (d + 6) h90) ?_
  refine mm_ev.to (c := (555, [some (.float 0), some (.ref 0), some (.ref 34), some (.ref 51), some (.int v4), some (.int r87.1), o6], [.int r89.1], mH r89.2, kc + 1, ks + 6)) rfl ?_
  refine mm_ev.go [true, true] (ps := []) (c1 := (558, [some (.float 0), some (.ref 0), some (.ref 34), some (.ref 51), some (.int v4), some (.int r87.1), some (.int r89.1)], [.ref 34], mH r89.2, kc + 1, ks + 6)) rfl trivial ?_
  obtain ⟨r91, h92, h⟩ := mb_b h
  refine mm_ev.call (q := mq0) (q2 := mq58) (b := (558, .invokevirtual 71, 3, 2, 2, 58, 1, 6, [766, 763, 764, 54, 765])) (as := [.ref 34]) (r := []) (v := (some (.int r91))) (h1 := mH r89.2) rfl rfl rfl rfl ⟨(show kc + 1 + 0 ≤ 1089 by omega), (show ks + 6 + 0 ≤ 11401 by omega), Nat.le_of_ble_eq_true rfl⟩ (F58_ok (d + 7) h92) ?_
  refine mm_ev.to (c := (561, [some (.float 0), some (.ref 0), some (.ref 34), some (.ref 51), some (.int v4), some (.int r87.1), some (.int r89.1)], [.int r91], mH r89.2, kc + 1, ks + 6)) rfl ?_
  by_cases h93 : r91 = r87.1
  · rw [if_pos h93] at h
    refine mm_ev.go [true, true] (ps := [mm_cmp .eq r91 r87.1]) (c1 := (568, [some (.float 0), some (.ref 0), some (.ref 34), some (.ref 51), some (.int v4), some (.int r87.1), some (.int r89.1)], [], mH r89.2, kc + 1, ks + 6)) rfl ⟨h93, trivial⟩ ?_
    by_cases h94 : r87.1 = (0 : Int32)
    · rw [if_pos h94] at h
      refine mm_ev.go [true, false] (ps := [¬ mm_cmp .ne r87.1 (0 : Int32)]) (c1 := (573, [some (.float 0), some (.ref 0), some (.ref 34), some (.ref 51), some (.int v4), some (.int r87.1), some (.int r89.1)], [], mH r89.2, kc + 1, ks + 6)) rfl ⟨(fun z => z h94), trivial⟩ ?_
      obtain ⟨h95, h⟩ := mb_i h
      by_cases h96 : r89.1 = (0 : Int32)
      · rw [if_pos h96] at h
        refine mm_ev.go [true, true, true, true, true] (ps := [mm_in (0 : Int32) 1, mm_cmp .eq r89.1 (0 : Int32)]) (c1 := (585, [some (.float 0), some (.ref 0), some (.ref 34), some (.ref 51), some (.int v4), some (.int r87.1), some (.int r89.1)], [.long (r89.2.2.2 (0 : Int32).toNatClampNeg)], mH r89.2, kc + 1, ks + 6)) rfl ⟨h95, h96, trivial⟩ ?_
        by_cases h97 : (lg_cmp (r89.2.2.2 (0 : Int32).toNatClampNeg) (0 : Int64)) = (0 : Int32)
        · rw [if_pos h97] at h
          refine mm_ev.go [true, true, true] (ps := [mm_cmp .eq (lg_cmp (r89.2.2.2 (0 : Int32).toNatClampNeg) (0 : Int64)) (0 : Int32)]) (c1 := (592, [some (.float 0), some (.ref 0), some (.ref 34), some (.ref 51), some (.int v4), some (.int r87.1), some (.int r89.1)], [], mH r89.2, kc + 1, ks + 6)) rfl ⟨h97, trivial⟩ ?_
          refine mm_ev.go [true, true, true] (ps := []) (c1 := (23, [some (.float 0), some (.ref 0), some (.ref 34), some (.ref 51), some (.int (v4 + (6 : Int32))), some (.int r87.1), some (.int r89.1)], [], mH r89.2, kc + 1, ks + 6)) rfl trivial ?_
          cases h
          exact hc0 _ _ (by omega) (by omega) rfl (some (.int r87.1)) (some (.int r89.1))
        · rw [if_neg h97] at h
          refine mm_ev.go [true, true, false] (ps := [¬ mm_cmp .eq (lg_cmp (r89.2.2.2 (0 : Int32).toNatClampNeg) (0 : Int64)) (0 : Int32)]) (c1 := (590, [some (.float 0), some (.ref 0), some (.ref 34), some (.ref 51), some (.int v4), some (.int r87.1), some (.int r89.1)], [], mH r89.2, kc + 1, ks + 6)) rfl ⟨h97, trivial⟩ ?_
          cases h
      · rw [if_neg h96] at h
        refine mm_ev.go [true, true, true, true, false] (ps := [mm_in (0 : Int32) 1, ¬ mm_cmp .eq r89.1 (0 : Int32)]) (c1 := (581, [some (.float 0), some (.ref 0), some (.ref 34), some (.ref 51), some (.int v4), some (.int r87.1), some (.int r89.1)], [.long (r89.2.2.2 (0 : Int32).toNatClampNeg)], mH r89.2, kc + 1, ks + 6)) rfl ⟨h95, h96, trivial⟩ ?_
        by_cases h98 : (lg_cmp (r89.2.2.2 (0 : Int32).toNatClampNeg) (1 : Int64)) = (0 : Int32)
        · rw [if_pos h98] at h
          refine mm_ev.go [true, true, true, true] (ps := [mm_cmp .eq (lg_cmp (r89.2.2.2 (0 : Int32).toNatClampNeg) (1 : Int64)) (0 : Int32)]) (c1 := (592, [some (.float 0), some (.ref 0), some (.ref 34), some (.ref 51), some (.int v4), some (.int r87.1), some (.int r89.1)], [], mH r89.2, kc + 1, ks + 6)) rfl ⟨h98, trivial⟩ ?_
          refine mm_ev.go [true, true, true] (ps := []) (c1 := (23, [some (.float 0), some (.ref 0), some (.ref 34), some (.ref 51), some (.int (v4 + (6 : Int32))), some (.int r87.1), some (.int r89.1)], [], mH r89.2, kc + 1, ks + 6)) rfl trivial ?_
          cases h
          exact hc0 _ _ (by omega) (by omega) rfl (some (.int r87.1)) (some (.int r89.1))
        · rw [if_neg h98] at h
          refine mm_ev.go [true, true, true, false] (ps := [¬ mm_cmp .eq (lg_cmp (r89.2.2.2 (0 : Int32).toNatClampNeg) (1 : Int64)) (0 : Int32)]) (c1 := (590, [some (.float 0), some (.ref 0), some (.ref 34), some (.ref 51), some (.int v4), some (.int r87.1), some (.int r89.1)], [], mH r89.2, kc + 1, ks + 6)) rfl ⟨h98, trivial⟩ ?_
          cases h
    · rw [if_neg h94] at h
      refine mm_ev.go [true, true] (ps := [mm_cmp .ne r87.1 (0 : Int32)]) (c1 := (592, [some (.float 0), some (.ref 0), some (.ref 34), some (.ref 51), some (.int v4), some (.int r87.1), some (.int r89.1)], [], mH r89.2, kc + 1, ks + 6)) rfl ⟨h94, trivial⟩ ?_
      refine mm_ev.go [true, true, true] (ps := []) (c1 := (23, [some (.float 0), some (.ref 0), some (.ref 34), some (.ref 51), some (.int (v4 + (6 : Int32))), some (.int r87.1), some (.int r89.1)], [], mH r89.2, kc + 1, ks + 6)) rfl trivial ?_
      cases h
      exact hc0 _ _ (by omega) (by omega) rfl (some (.int r87.1)) (some (.int r89.1))
  · rw [if_neg h93] at h
    refine mm_ev.go [true, false] (ps := [¬ mm_cmp .eq r91 r87.1]) (c1 := (566, [some (.float 0), some (.ref 0), some (.ref 34), some (.ref 51), some (.int v4), some (.int r87.1), some (.int r89.1)], [], mH r89.2, kc + 1, ks + 6)) rfl ⟨h93, trivial⟩ ?_
    cases h
/-- the law, an op of kind 7 -/
def I0_c7 (sc : mS) (S : mSt) (v4 : Int32) : Option (Nat × mSt × Int32) := (F91 S).bind fun r100 => ((F78 r100.2).bind fun r102 => ((F58 r102.2).bind fun r104 => (if r104 = r100.1 then (if r100.1 = (0 : Int32) then (if 0 ≤ (0 : Int32) ∧ (0 : Int32).toNatClampNeg < 1 then if (lg_cmp (r102.2.2.2 (0 : Int32).toNatClampNeg) r102.1.toInt64) = (0 : Int32) then (some (0, r102.2, v4 + (6 : Int32))) else none else none) else (some (0, r102.2, v4 + (6 : Int32)))) else none)))
set_option maxRecDepth 100000 in
set_option maxHeartbeats 4000000 in
theorem I0_c7_ok {sc : mS} (d kc ks : Nat) (hkc : kc + 2 ≤ 1089) (hks : ks + 12 ≤ 11401) {S : mSt} {v4 : Int32} {r : Nat × mSt × Int32} (h : I0_c7 sc S v4 = some r) (o5 : Option Value) (o6 : Option Value) {Q : mR → List mE → Prop} (hc0 : ∀ kc2 ks2 : Nat, kc2 ≤ kc + 2 → ks2 ≤ ks + 12 → r.1 = 0 → ∀ u5 : Option Value, ∀ u6 : Option Value, mm_ev sc mmK mmP (d + 8) 0 (23, [some (.float 0), some (.ref 0), some (.ref 34), some (.ref 51), some (.int r.2.2), u5, u6], [], mH r.2.1, kc2, ks2) Q) (hc1 : r.1 = 1 → ∀ u0 : Option Value, ∀ u1 : Option Value, ∀ u2 : Option Value, ∀ u3 : Option Value, ∀ u4 : Option Value, ∀ u5 : Option Value, ∀ u6 : Option Value, mm_ev sc mmK mmP (d + 8) 0 (880, [u0, u1, u2, u3, u4, u5, u6], [], mH r.2.1, kc, ks) Q) : mm_ev sc mmK mmP (d + 8) 0 (40, [some (.float 0), some (.ref 0), some (.ref 34), some (.ref 51), some (.int v4), o5, o6], [.int (7 : Int32)], mH S, kc, ks) Q := by
  unfold I0_c7 at h
  refine mm_ev.go [true, true, true] (ps := [_]) (c1 := (597, [some (.float 0), some (.ref 0), some (.ref 34), some (.ref 51), some (.int v4), o5, o6], [.ref 51, .ref 0], mH S, kc, ks)) rfl ⟨(by decide), trivial⟩ ?_
  obtain ⟨r100, h101, h⟩ := mb_b h
  refine mm_ev.call (q := mq0) (q2 := mq91) (b := (597, .invokestatic 98, 3, 2, 7, 91, 2, 0, [611, 609, 610, 47])) (as := [.ref 0, .ref 51]) (r := []) (v := (some (.int r100.1))) (h1 := mH r100.2) rfl rfl rfl rfl ⟨(show kc + 0 + 1 ≤ 1089 by omega), (show ks + 0 + 6 ≤ 11401 by omega), Nat.le_of_ble_eq_true rfl⟩ (F91_ok d h101) ?_
  refine mm_ev.to (c := (600, [some (.float 0), some (.ref 0), some (.ref 34), some (.ref 51), some (.int v4), o5, o6], [.int r100.1], mH r100.2, kc + 1, ks + 6)) rfl ?_
  refine mm_ev.go [true, true] (ps := []) (c1 := (603, [some (.float 0), some (.ref 0), some (.ref 34), some (.ref 51), some (.int v4), some (.int r100.1), o6], [.ref 34], mH r100.2, kc + 1, ks + 6)) rfl trivial ?_
  obtain ⟨r102, h103, h⟩ := mb_b h
  refine mm_ev.call (q := mq0) (q2 := mq78) (b := (603, .invokevirtual 100, 3, 2, 2, 78, 1, 6, [845, 842, 843, 54, 844])) (as := [.ref 34]) (r := []) (v := (some (.int r102.1))) (h1 := mH r102.2) rfl rfl rfl rfl ⟨(show kc + 1 + 0 ≤ 1089 by omega), (show ks + 6 + 0 ≤ 11401 by omega), Nat.le_of_ble_eq_true rfl⟩ (F78_ok (d + 6) h103) ?_
  refine mm_ev.to (c := (606, [some (.float 0), some (.ref 0), some (.ref 34), some (.ref 51), some (.int v4), some (.int r100.1), o6], [.int r102.1], mH r102.2, kc + 1, ks + 6)) rfl ?_
  refine mm_ev.go [true, true] (ps := []) (c1 := (609, [some (.float 0), some (.ref 0), some (.ref 34), some (.ref 51), some (.int v4), some (.int r100.1), some (.int r102.1)], [.ref 34], mH r102.2, kc + 1, ks + 6)) rfl trivial ?_
  obtain ⟨r104, h105, h⟩ := mb_b h
  refine mm_ev.call (q := mq0) (q2 := mq58) (b := (609, .invokevirtual 71, 3, 2, 2, 58, 1, 6, [766, 763, 764, 54, 765])) (as := [.ref 34]) (r := []) (v := (some (.int r104))) (h1 := mH r102.2) rfl rfl rfl rfl ⟨(show kc + 1 + 0 ≤ 1089 by omega), (show ks + 6 + 0 ≤ 11401 by omega), Nat.le_of_ble_eq_true rfl⟩ (F58_ok (d + 7) h105) ?_
  refine mm_ev.to (c := (612, [some (.float 0), some (.ref 0), some (.ref 34), some (.ref 51), some (.int v4), some (.int r100.1), some (.int r102.1)], [.int r104], mH r102.2, kc + 1, ks + 6)) rfl ?_
  by_cases h106 : r104 = r100.1
  · rw [if_pos h106] at h
    refine mm_ev.go [true, true] (ps := [mm_cmp .eq r104 r100.1]) (c1 := (619, [some (.float 0), some (.ref 0), some (.ref 34), some (.ref 51), some (.int v4), some (.int r100.1), some (.int r102.1)], [], mH r102.2, kc + 1, ks + 6)) rfl ⟨h106, trivial⟩ ?_
    by_cases h107 : r100.1 = (0 : Int32)
    · rw [if_pos h107] at h
      refine mm_ev.go [true, false] (ps := [¬ mm_cmp .ne r100.1 (0 : Int32)]) (c1 := (624, [some (.float 0), some (.ref 0), some (.ref 34), some (.ref 51), some (.int v4), some (.int r100.1), some (.int r102.1)], [], mH r102.2, kc + 1, ks + 6)) rfl ⟨(fun z => z h107), trivial⟩ ?_
      obtain ⟨h108, h⟩ := mb_i h
      by_cases h109 : (lg_cmp (r102.2.2.2 (0 : Int32).toNatClampNeg) r102.1.toInt64) = (0 : Int32)
      · rw [if_pos h109] at h
        refine mm_ev.go [true, true, true, true, true, true, true] (ps := [mm_in (0 : Int32) 1, mm_cmp .eq (lg_cmp (r102.2.2.2 (0 : Int32).toNatClampNeg) r102.1.toInt64) (0 : Int32)]) (c1 := (636, [some (.float 0), some (.ref 0), some (.ref 34), some (.ref 51), some (.int v4), some (.int r100.1), some (.int r102.1)], [], mH r102.2, kc + 1, ks + 6)) rfl ⟨h108, h109, trivial⟩ ?_
        refine mm_ev.go [true, true, true] (ps := []) (c1 := (23, [some (.float 0), some (.ref 0), some (.ref 34), some (.ref 51), some (.int (v4 + (6 : Int32))), some (.int r100.1), some (.int r102.1)], [], mH r102.2, kc + 1, ks + 6)) rfl trivial ?_
        cases h
        exact hc0 _ _ (by omega) (by omega) rfl (some (.int r100.1)) (some (.int r102.1))
      · rw [if_neg h109] at h
        refine mm_ev.go [true, true, true, true, true, true, false] (ps := [mm_in (0 : Int32) 1, ¬ mm_cmp .eq (lg_cmp (r102.2.2.2 (0 : Int32).toNatClampNeg) r102.1.toInt64) (0 : Int32)]) (c1 := (634, [some (.float 0), some (.ref 0), some (.ref 34), some (.ref 51), some (.int v4), some (.int r100.1), some (.int r102.1)], [], mH r102.2, kc + 1, ks + 6)) rfl ⟨h108, h109, trivial⟩ ?_
        cases h
    · rw [if_neg h107] at h
      refine mm_ev.go [true, true] (ps := [mm_cmp .ne r100.1 (0 : Int32)]) (c1 := (636, [some (.float 0), some (.ref 0), some (.ref 34), some (.ref 51), some (.int v4), some (.int r100.1), some (.int r102.1)], [], mH r102.2, kc + 1, ks + 6)) rfl ⟨h107, trivial⟩ ?_
      refine mm_ev.go [true, true, true] (ps := []) (c1 := (23, [some (.float 0), some (.ref 0), some (.ref 34), some (.ref 51), some (.int (v4 + (6 : Int32))), some (.int r100.1), some (.int r102.1)], [], mH r102.2, kc + 1, ks + 6)) rfl trivial ?_
      cases h
      exact hc0 _ _ (by omega) (by omega) rfl (some (.int r100.1)) (some (.int r102.1))
  · rw [if_neg h106] at h
    refine mm_ev.go [true, false] (ps := [¬ mm_cmp .eq r104 r100.1]) (c1 := (617, [some (.float 0), some (.ref 0), some (.ref 34), some (.ref 51), some (.int v4), some (.int r100.1), some (.int r102.1)], [], mH r102.2, kc + 1, ks + 6)) rfl ⟨h106, trivial⟩ ?_
    cases h
/-- the law, an op of kind 8 -/
def I0_c8 (sc : mS) (S : mSt) (v4 : Int32) : Option (Nat × mSt × Int32) := if 0 ≤ (v4 + (1 : Int32)) ∧ (v4 + (1 : Int32)).toNatClampNeg < sc.1 then if 0 ≤ (v4 + (2 : Int32)) ∧ (v4 + (2 : Int32)).toNatClampNeg < sc.1 then (F92 S (sc.2 (v4 + (1 : Int32)).toNatClampNeg) (sc.2 (v4 + (2 : Int32)).toNatClampNeg)).bind fun r113 => ((F79 r113.2 (sc.2 (v4 + (1 : Int32)).toNatClampNeg) (sc.2 (v4 + (2 : Int32)).toNatClampNeg)).bind fun r115 => ((F58 r115.2).bind fun r117 => (if r117 = r113.1 then (if r113.1 = (0 : Int32) then (if 0 ≤ (0 : Int32) ∧ (0 : Int32).toNatClampNeg < 1 then if (lg_cmp (r115.2.2.2 (0 : Int32).toNatClampNeg) r115.1.toInt64) = (0 : Int32) then (some (0, r115.2, v4 + (6 : Int32))) else none else none) else (some (0, r115.2, v4 + (6 : Int32)))) else none))) else none else none
set_option maxRecDepth 100000 in
set_option maxHeartbeats 4000000 in
theorem I0_c8_ok {sc : mS} (d kc ks : Nat) (hkc : kc + 2 ≤ 1089) (hks : ks + 12 ≤ 11401) {S : mSt} {v4 : Int32} {r : Nat × mSt × Int32} (h : I0_c8 sc S v4 = some r) (o5 : Option Value) (o6 : Option Value) {Q : mR → List mE → Prop} (hc0 : ∀ kc2 ks2 : Nat, kc2 ≤ kc + 2 → ks2 ≤ ks + 12 → r.1 = 0 → ∀ u5 : Option Value, ∀ u6 : Option Value, mm_ev sc mmK mmP (d + 8) 0 (23, [some (.float 0), some (.ref 0), some (.ref 34), some (.ref 51), some (.int r.2.2), u5, u6], [], mH r.2.1, kc2, ks2) Q) (hc1 : r.1 = 1 → ∀ u0 : Option Value, ∀ u1 : Option Value, ∀ u2 : Option Value, ∀ u3 : Option Value, ∀ u4 : Option Value, ∀ u5 : Option Value, ∀ u6 : Option Value, mm_ev sc mmK mmP (d + 8) 0 (880, [u0, u1, u2, u3, u4, u5, u6], [], mH r.2.1, kc, ks) Q) : mm_ev sc mmK mmP (d + 8) 0 (40, [some (.float 0), some (.ref 0), some (.ref 34), some (.ref 51), some (.int v4), o5, o6], [.int (8 : Int32)], mH S, kc, ks) Q := by
  unfold I0_c8 at h
  obtain ⟨h111, h⟩ := mb_i h
  obtain ⟨h112, h⟩ := mb_i h
  refine mm_ev.go [true, true, true, true, true, true, true, true] (ps := [_, mm_in (v4 + (1 : Int32)) sc.1]) (c1 := (647, [some (.float 0), some (.ref 0), some (.ref 34), some (.ref 51), some (.int v4), o5, o6], [.float 0, .int (sc.2 (v4 + (1 : Int32)).toNatClampNeg), .ref 0], mH S, kc, ks)) rfl ⟨(by decide), h111, trivial⟩ ?_
  refine mm_ev.go [true, true, true, true, true] (ps := [mm_in (v4 + (2 : Int32)) sc.1]) (c1 := (653, [some (.float 0), some (.ref 0), some (.ref 34), some (.ref 51), some (.int v4), o5, o6], [.ref 51, .int (sc.2 (v4 + (2 : Int32)).toNatClampNeg), .int (sc.2 (v4 + (1 : Int32)).toNatClampNeg), .ref 0], mH S, kc, ks)) rfl ⟨h112, trivial⟩ ?_
  obtain ⟨r113, h114, h⟩ := mb_b h
  refine mm_ev.call (q := mq0) (q2 := mq92) (b := (653, .invokestatic 101, 3, 2, 7, 92, 4, 0, [618, 616, 617, 47])) (as := [.ref 0, .int (sc.2 (v4 + (1 : Int32)).toNatClampNeg), .int (sc.2 (v4 + (2 : Int32)).toNatClampNeg), .ref 51]) (r := []) (v := (some (.int r113.1))) (h1 := mH r113.2) rfl rfl rfl rfl ⟨(show kc + 0 + 2 ≤ 1089 by omega), (show ks + 0 + 12 ≤ 11401 by omega), Nat.le_of_ble_eq_true rfl⟩ (F92_ok d h114) ?_
  refine mm_ev.to (c := (656, [some (.float 0), some (.ref 0), some (.ref 34), some (.ref 51), some (.int v4), o5, o6], [.int r113.1], mH r113.2, kc + 2, ks + 12)) rfl ?_
  refine mm_ev.go [true, true, true, true, true, true, true, true] (ps := [mm_in (v4 + (1 : Int32)) sc.1]) (c1 := (666, [some (.float 0), some (.ref 0), some (.ref 34), some (.ref 51), some (.int v4), some (.int r113.1), o6], [.float 0, .int (sc.2 (v4 + (1 : Int32)).toNatClampNeg), .ref 34], mH r113.2, kc + 2, ks + 12)) rfl ⟨h111, trivial⟩ ?_
  refine mm_ev.go [true, true, true, true] (ps := [mm_in (v4 + (2 : Int32)) sc.1]) (c1 := (671, [some (.float 0), some (.ref 0), some (.ref 34), some (.ref 51), some (.int v4), some (.int r113.1), o6], [.int (sc.2 (v4 + (2 : Int32)).toNatClampNeg), .int (sc.2 (v4 + (1 : Int32)).toNatClampNeg), .ref 34], mH r113.2, kc + 2, ks + 12)) rfl ⟨h112, trivial⟩ ?_
  obtain ⟨r115, h116, h⟩ := mb_b h
  refine mm_ev.call (q := mq0) (q2 := mq79) (b := (671, .invokevirtual 103, 3, 2, 2, 79, 3, 6, [849, 846, 847, 54, 848])) (as := [.ref 34, .int (sc.2 (v4 + (1 : Int32)).toNatClampNeg), .int (sc.2 (v4 + (2 : Int32)).toNatClampNeg)]) (r := []) (v := (some (.int r115.1))) (h1 := mH r115.2) rfl rfl rfl rfl ⟨(show kc + 2 + 0 ≤ 1089 by omega), (show ks + 12 + 0 ≤ 11401 by omega), Nat.le_of_ble_eq_true rfl⟩ (F79_ok (d + 6) h116) ?_
  refine mm_ev.to (c := (674, [some (.float 0), some (.ref 0), some (.ref 34), some (.ref 51), some (.int v4), some (.int r113.1), o6], [.int r115.1], mH r115.2, kc + 2, ks + 12)) rfl ?_
  refine mm_ev.go [true, true] (ps := []) (c1 := (677, [some (.float 0), some (.ref 0), some (.ref 34), some (.ref 51), some (.int v4), some (.int r113.1), some (.int r115.1)], [.ref 34], mH r115.2, kc + 2, ks + 12)) rfl trivial ?_
  obtain ⟨r117, h118, h⟩ := mb_b h
  refine mm_ev.call (q := mq0) (q2 := mq58) (b := (677, .invokevirtual 71, 3, 2, 2, 58, 1, 6, [766, 763, 764, 54, 765])) (as := [.ref 34]) (r := []) (v := (some (.int r117))) (h1 := mH r115.2) rfl rfl rfl rfl ⟨(show kc + 2 + 0 ≤ 1089 by omega), (show ks + 12 + 0 ≤ 11401 by omega), Nat.le_of_ble_eq_true rfl⟩ (F58_ok (d + 7) h118) ?_
  refine mm_ev.to (c := (680, [some (.float 0), some (.ref 0), some (.ref 34), some (.ref 51), some (.int v4), some (.int r113.1), some (.int r115.1)], [.int r117], mH r115.2, kc + 2, ks + 12)) rfl ?_
  by_cases h119 : r117 = r113.1
  · rw [if_pos h119] at h
    refine mm_ev.go [true, true] (ps := [mm_cmp .eq r117 r113.1]) (c1 := (687, [some (.float 0), some (.ref 0), some (.ref 34), some (.ref 51), some (.int v4), some (.int r113.1), some (.int r115.1)], [], mH r115.2, kc + 2, ks + 12)) rfl ⟨h119, trivial⟩ ?_
    by_cases h120 : r113.1 = (0 : Int32)
    · rw [if_pos h120] at h
      refine mm_ev.go [true, false] (ps := [¬ mm_cmp .ne r113.1 (0 : Int32)]) (c1 := (692, [some (.float 0), some (.ref 0), some (.ref 34), some (.ref 51), some (.int v4), some (.int r113.1), some (.int r115.1)], [], mH r115.2, kc + 2, ks + 12)) rfl ⟨(fun z => z h120), trivial⟩ ?_
      obtain ⟨h121, h⟩ := mb_i h
      by_cases h122 : (lg_cmp (r115.2.2.2 (0 : Int32).toNatClampNeg) r115.1.toInt64) = (0 : Int32)
      · rw [if_pos h122] at h
        refine mm_ev.go [true, true, true, true, true, true, true] (ps := [mm_in (0 : Int32) 1, mm_cmp .eq (lg_cmp (r115.2.2.2 (0 : Int32).toNatClampNeg) r115.1.toInt64) (0 : Int32)]) (c1 := (704, [some (.float 0), some (.ref 0), some (.ref 34), some (.ref 51), some (.int v4), some (.int r113.1), some (.int r115.1)], [], mH r115.2, kc + 2, ks + 12)) rfl ⟨h121, h122, trivial⟩ ?_
        refine mm_ev.go [true, true, true] (ps := []) (c1 := (23, [some (.float 0), some (.ref 0), some (.ref 34), some (.ref 51), some (.int (v4 + (6 : Int32))), some (.int r113.1), some (.int r115.1)], [], mH r115.2, kc + 2, ks + 12)) rfl trivial ?_
        cases h
        exact hc0 _ _ (by omega) (by omega) rfl (some (.int r113.1)) (some (.int r115.1))
      · rw [if_neg h122] at h
        refine mm_ev.go [true, true, true, true, true, true, false] (ps := [mm_in (0 : Int32) 1, ¬ mm_cmp .eq (lg_cmp (r115.2.2.2 (0 : Int32).toNatClampNeg) r115.1.toInt64) (0 : Int32)]) (c1 := (702, [some (.float 0), some (.ref 0), some (.ref 34), some (.ref 51), some (.int v4), some (.int r113.1), some (.int r115.1)], [], mH r115.2, kc + 2, ks + 12)) rfl ⟨h121, h122, trivial⟩ ?_
        cases h
    · rw [if_neg h120] at h
      refine mm_ev.go [true, true] (ps := [mm_cmp .ne r113.1 (0 : Int32)]) (c1 := (704, [some (.float 0), some (.ref 0), some (.ref 34), some (.ref 51), some (.int v4), some (.int r113.1), some (.int r115.1)], [], mH r115.2, kc + 2, ks + 12)) rfl ⟨h120, trivial⟩ ?_
      refine mm_ev.go [true, true, true] (ps := []) (c1 := (23, [some (.float 0), some (.ref 0), some (.ref 34), some (.ref 51), some (.int (v4 + (6 : Int32))), some (.int r113.1), some (.int r115.1)], [], mH r115.2, kc + 2, ks + 12)) rfl trivial ?_
      cases h
      exact hc0 _ _ (by omega) (by omega) rfl (some (.int r113.1)) (some (.int r115.1))
  · rw [if_neg h119] at h
    refine mm_ev.go [true, false] (ps := [¬ mm_cmp .eq r117 r113.1]) (c1 := (685, [some (.float 0), some (.ref 0), some (.ref 34), some (.ref 51), some (.int v4), some (.int r113.1), some (.int r115.1)], [], mH r115.2, kc + 2, ks + 12)) rfl ⟨h119, trivial⟩ ?_
    cases h
/-- the law, an op of kind 9 -/
def I0_c9 (sc : mS) (n : Nat) (S : mSt) (v4 : Int32) : Option (Nat × mSt × Int32) := if 0 ≤ (v4 + (1 : Int32)) ∧ (v4 + (1 : Int32)).toNatClampNeg < sc.1 then (F93 n S (sc.2 (v4 + (1 : Int32)).toNatClampNeg)).bind fun r125 => ((F80 n r125.2 (sc.2 (v4 + (1 : Int32)).toNatClampNeg)).bind fun r127 => ((F58 r127.2).bind fun r129 => (if r129 = r125.1 then (if r125.1 = (0 : Int32) then (if 0 ≤ (0 : Int32) ∧ (0 : Int32).toNatClampNeg < 1 then if (lg_cmp (r127.2.2.2 (0 : Int32).toNatClampNeg) r127.1.toInt64) = (0 : Int32) then (some (0, r127.2, v4 + (6 : Int32))) else none else none) else (some (0, r127.2, v4 + (6 : Int32)))) else none))) else none
set_option maxRecDepth 100000 in
set_option maxHeartbeats 4000000 in
theorem I0_c9_ok {sc : mS} (d kc ks : Nat) (hkc : kc + 2 ≤ 1089) (hks : ks + 12 ≤ 11401) {n : Nat} {S : mSt} {v4 : Int32} {r : Nat × mSt × Int32} (h : I0_c9 sc n S v4 = some r) (o5 : Option Value) (o6 : Option Value) {Q : mR → List mE → Prop} (hc0 : ∀ kc2 ks2 : Nat, kc2 ≤ kc + 2 → ks2 ≤ ks + 12 → r.1 = 0 → ∀ u5 : Option Value, ∀ u6 : Option Value, mm_ev sc mmK mmP (d + 8) 0 (23, [some (.float 0), some (.ref 0), some (.ref 34), some (.ref 51), some (.int r.2.2), u5, u6], [], mH r.2.1, kc2, ks2) Q) (hc1 : r.1 = 1 → ∀ u0 : Option Value, ∀ u1 : Option Value, ∀ u2 : Option Value, ∀ u3 : Option Value, ∀ u4 : Option Value, ∀ u5 : Option Value, ∀ u6 : Option Value, mm_ev sc mmK mmP (d + 8) 0 (880, [u0, u1, u2, u3, u4, u5, u6], [], mH r.2.1, kc, ks) Q) : mm_ev sc mmK mmP (d + 8) 0 (40, [some (.float 0), some (.ref 0), some (.ref 34), some (.ref 51), some (.int v4), o5, o6], [.int (9 : Int32)], mH S, kc, ks) Q := by
  unfold I0_c9 at h
  obtain ⟨h124, h⟩ := mb_i h
  refine mm_ev.go [true, true, true, true, true, true, true, true] (ps := [_, mm_in (v4 + (1 : Int32)) sc.1]) (c1 := (715, [some (.float 0), some (.ref 0), some (.ref 34), some (.ref 51), some (.int v4), o5, o6], [.ref 51, .int (sc.2 (v4 + (1 : Int32)).toNatClampNeg), .ref 0], mH S, kc, ks)) rfl ⟨(by decide), h124, trivial⟩ ?_
  obtain ⟨r125, h126, h⟩ := mb_b h
  refine mm_ev.call (q := mq0) (q2 := mq93) (b := (715, .invokestatic 104, 3, 2, 7, 93, 3, 0, [628, 626, 627, 47])) (as := [.ref 0, .int (sc.2 (v4 + (1 : Int32)).toNatClampNeg), .ref 51]) (r := []) (v := (some (.int r125.1))) (h1 := mH r125.2) rfl rfl rfl rfl ⟨(show kc + 0 + 1 ≤ 1089 by omega), (show ks + 0 + 6 ≤ 11401 by omega), Nat.le_of_ble_eq_true rfl⟩ (F93_ok d h126) ?_
  refine mm_ev.to (c := (718, [some (.float 0), some (.ref 0), some (.ref 34), some (.ref 51), some (.int v4), o5, o6], [.int r125.1], mH r125.2, kc + 1, ks + 6)) rfl ?_
  refine mm_ev.go [true, true, true, true, true, true, true] (ps := [mm_in (v4 + (1 : Int32)) sc.1]) (c1 := (727, [some (.float 0), some (.ref 0), some (.ref 34), some (.ref 51), some (.int v4), some (.int r125.1), o6], [.int (sc.2 (v4 + (1 : Int32)).toNatClampNeg), .ref 34], mH r125.2, kc + 1, ks + 6)) rfl ⟨h124, trivial⟩ ?_
  obtain ⟨r127, h128, h⟩ := mb_b h
  refine mm_ev.call (q := mq0) (q2 := mq80) (b := (727, .invokevirtual 106, 3, 2, 2, 80, 2, 6, [853, 850, 851, 54, 852])) (as := [.ref 34, .int (sc.2 (v4 + (1 : Int32)).toNatClampNeg)]) (r := []) (v := (some (.int r127.1))) (h1 := mH r127.2) rfl rfl rfl rfl ⟨(show kc + 1 + 0 ≤ 1089 by omega), (show ks + 6 + 0 ≤ 11401 by omega), Nat.le_of_ble_eq_true rfl⟩ (F80_ok (d + 5) h128) ?_
  refine mm_ev.to (c := (730, [some (.float 0), some (.ref 0), some (.ref 34), some (.ref 51), some (.int v4), some (.int r125.1), o6], [.int r127.1], mH r127.2, kc + 1, ks + 6)) rfl ?_
  refine mm_ev.go [true, true] (ps := []) (c1 := (733, [some (.float 0), some (.ref 0), some (.ref 34), some (.ref 51), some (.int v4), some (.int r125.1), some (.int r127.1)], [.ref 34], mH r127.2, kc + 1, ks + 6)) rfl trivial ?_
  obtain ⟨r129, h130, h⟩ := mb_b h
  refine mm_ev.call (q := mq0) (q2 := mq58) (b := (733, .invokevirtual 71, 3, 2, 2, 58, 1, 6, [766, 763, 764, 54, 765])) (as := [.ref 34]) (r := []) (v := (some (.int r129))) (h1 := mH r127.2) rfl rfl rfl rfl ⟨(show kc + 1 + 0 ≤ 1089 by omega), (show ks + 6 + 0 ≤ 11401 by omega), Nat.le_of_ble_eq_true rfl⟩ (F58_ok (d + 7) h130) ?_
  refine mm_ev.to (c := (736, [some (.float 0), some (.ref 0), some (.ref 34), some (.ref 51), some (.int v4), some (.int r125.1), some (.int r127.1)], [.int r129], mH r127.2, kc + 1, ks + 6)) rfl ?_
  by_cases h131 : r129 = r125.1
  · rw [if_pos h131] at h
    refine mm_ev.go [true, true] (ps := [mm_cmp .eq r129 r125.1]) (c1 := (743, [some (.float 0), some (.ref 0), some (.ref 34), some (.ref 51), some (.int v4), some (.int r125.1), some (.int r127.1)], [], mH r127.2, kc + 1, ks + 6)) rfl ⟨h131, trivial⟩ ?_
    by_cases h132 : r125.1 = (0 : Int32)
    · rw [if_pos h132] at h
      refine mm_ev.go [true, false] (ps := [¬ mm_cmp .ne r125.1 (0 : Int32)]) (c1 := (748, [some (.float 0), some (.ref 0), some (.ref 34), some (.ref 51), some (.int v4), some (.int r125.1), some (.int r127.1)], [], mH r127.2, kc + 1, ks + 6)) rfl ⟨(fun z => z h132), trivial⟩ ?_
      obtain ⟨h133, h⟩ := mb_i h
      by_cases h134 : (lg_cmp (r127.2.2.2 (0 : Int32).toNatClampNeg) r127.1.toInt64) = (0 : Int32)
      · rw [if_pos h134] at h
        refine mm_ev.go [true, true, true, true, true, true, true] (ps := [mm_in (0 : Int32) 1, mm_cmp .eq (lg_cmp (r127.2.2.2 (0 : Int32).toNatClampNeg) r127.1.toInt64) (0 : Int32)]) (c1 := (760, [some (.float 0), some (.ref 0), some (.ref 34), some (.ref 51), some (.int v4), some (.int r125.1), some (.int r127.1)], [], mH r127.2, kc + 1, ks + 6)) rfl ⟨h133, h134, trivial⟩ ?_
        refine mm_ev.go [true, true, true] (ps := []) (c1 := (23, [some (.float 0), some (.ref 0), some (.ref 34), some (.ref 51), some (.int (v4 + (6 : Int32))), some (.int r125.1), some (.int r127.1)], [], mH r127.2, kc + 1, ks + 6)) rfl trivial ?_
        cases h
        exact hc0 _ _ (by omega) (by omega) rfl (some (.int r125.1)) (some (.int r127.1))
      · rw [if_neg h134] at h
        refine mm_ev.go [true, true, true, true, true, true, false] (ps := [mm_in (0 : Int32) 1, ¬ mm_cmp .eq (lg_cmp (r127.2.2.2 (0 : Int32).toNatClampNeg) r127.1.toInt64) (0 : Int32)]) (c1 := (758, [some (.float 0), some (.ref 0), some (.ref 34), some (.ref 51), some (.int v4), some (.int r125.1), some (.int r127.1)], [], mH r127.2, kc + 1, ks + 6)) rfl ⟨h133, h134, trivial⟩ ?_
        cases h
    · rw [if_neg h132] at h
      refine mm_ev.go [true, true] (ps := [mm_cmp .ne r125.1 (0 : Int32)]) (c1 := (760, [some (.float 0), some (.ref 0), some (.ref 34), some (.ref 51), some (.int v4), some (.int r125.1), some (.int r127.1)], [], mH r127.2, kc + 1, ks + 6)) rfl ⟨h132, trivial⟩ ?_
      refine mm_ev.go [true, true, true] (ps := []) (c1 := (23, [some (.float 0), some (.ref 0), some (.ref 34), some (.ref 51), some (.int (v4 + (6 : Int32))), some (.int r125.1), some (.int r127.1)], [], mH r127.2, kc + 1, ks + 6)) rfl trivial ?_
      cases h
      exact hc0 _ _ (by omega) (by omega) rfl (some (.int r125.1)) (some (.int r127.1))
  · rw [if_neg h131] at h
    refine mm_ev.go [true, false] (ps := [¬ mm_cmp .eq r129 r125.1]) (c1 := (741, [some (.float 0), some (.ref 0), some (.ref 34), some (.ref 51), some (.int v4), some (.int r125.1), some (.int r127.1)], [], mH r127.2, kc + 1, ks + 6)) rfl ⟨h131, trivial⟩ ?_
    cases h
/-- the law, an op of kind 10 -/
def I0_c10 (sc : mS) (S : mSt) (v4 : Int32) : Option (Nat × mSt × Int32) := if 0 ≤ (v4 + (1 : Int32)) ∧ (v4 + (1 : Int32)).toNatClampNeg < sc.1 then (F94 S (sc.2 (v4 + (1 : Int32)).toNatClampNeg)).bind fun r137 => ((F81 r137.2 (sc.2 (v4 + (1 : Int32)).toNatClampNeg)).bind fun r139 => ((F58 r139.2).bind fun r141 => (if r141 = r137.1 then (if r137.1 = (0 : Int32) then (if 0 ≤ (0 : Int32) ∧ (0 : Int32).toNatClampNeg < 1 then if (lg_cmp (r139.2.2.2 (0 : Int32).toNatClampNeg) r139.1.toInt64) = (0 : Int32) then (some (0, r139.2, v4 + (6 : Int32))) else none else none) else (some (0, r139.2, v4 + (6 : Int32)))) else none))) else none
set_option maxRecDepth 100000 in
set_option maxHeartbeats 4000000 in
theorem I0_c10_ok {sc : mS} (d kc ks : Nat) (hkc : kc + 2 ≤ 1089) (hks : ks + 12 ≤ 11401) {S : mSt} {v4 : Int32} {r : Nat × mSt × Int32} (h : I0_c10 sc S v4 = some r) (o5 : Option Value) (o6 : Option Value) {Q : mR → List mE → Prop} (hc0 : ∀ kc2 ks2 : Nat, kc2 ≤ kc + 2 → ks2 ≤ ks + 12 → r.1 = 0 → ∀ u5 : Option Value, ∀ u6 : Option Value, mm_ev sc mmK mmP (d + 8) 0 (23, [some (.float 0), some (.ref 0), some (.ref 34), some (.ref 51), some (.int r.2.2), u5, u6], [], mH r.2.1, kc2, ks2) Q) (hc1 : r.1 = 1 → ∀ u0 : Option Value, ∀ u1 : Option Value, ∀ u2 : Option Value, ∀ u3 : Option Value, ∀ u4 : Option Value, ∀ u5 : Option Value, ∀ u6 : Option Value, mm_ev sc mmK mmP (d + 8) 0 (880, [u0, u1, u2, u3, u4, u5, u6], [], mH r.2.1, kc, ks) Q) : mm_ev sc mmK mmP (d + 8) 0 (40, [some (.float 0), some (.ref 0), some (.ref 34), some (.ref 51), some (.int v4), o5, o6], [.int (10 : Int32)], mH S, kc, ks) Q := by
  unfold I0_c10 at h
  obtain ⟨h136, h⟩ := mb_i h
  refine mm_ev.go [true, true, true, true, true, true, true, true] (ps := [_, mm_in (v4 + (1 : Int32)) sc.1]) (c1 := (771, [some (.float 0), some (.ref 0), some (.ref 34), some (.ref 51), some (.int v4), o5, o6], [.ref 51, .int (sc.2 (v4 + (1 : Int32)).toNatClampNeg), .ref 0], mH S, kc, ks)) rfl ⟨(by decide), h136, trivial⟩ ?_
  obtain ⟨r137, h138, h⟩ := mb_b h
  refine mm_ev.call (q := mq0) (q2 := mq94) (b := (771, .invokestatic 107, 3, 2, 7, 94, 3, 0, [639, 637, 638, 47])) (as := [.ref 0, .int (sc.2 (v4 + (1 : Int32)).toNatClampNeg), .ref 51]) (r := []) (v := (some (.int r137.1))) (h1 := mH r137.2) rfl rfl rfl rfl ⟨(show kc + 0 + 1 ≤ 1089 by omega), (show ks + 0 + 6 ≤ 11401 by omega), Nat.le_of_ble_eq_true rfl⟩ (F94_ok d h138) ?_
  refine mm_ev.to (c := (774, [some (.float 0), some (.ref 0), some (.ref 34), some (.ref 51), some (.int v4), o5, o6], [.int r137.1], mH r137.2, kc + 1, ks + 6)) rfl ?_
  refine mm_ev.go [true, true, true, true, true, true, true] (ps := [mm_in (v4 + (1 : Int32)) sc.1]) (c1 := (783, [some (.float 0), some (.ref 0), some (.ref 34), some (.ref 51), some (.int v4), some (.int r137.1), o6], [.int (sc.2 (v4 + (1 : Int32)).toNatClampNeg), .ref 34], mH r137.2, kc + 1, ks + 6)) rfl ⟨h136, trivial⟩ ?_
  obtain ⟨r139, h140, h⟩ := mb_b h
  refine mm_ev.call (q := mq0) (q2 := mq81) (b := (783, .invokevirtual 109, 3, 2, 2, 81, 2, 6, [857, 854, 855, 54, 856])) (as := [.ref 34, .int (sc.2 (v4 + (1 : Int32)).toNatClampNeg)]) (r := []) (v := (some (.int r139.1))) (h1 := mH r139.2) rfl rfl rfl rfl ⟨(show kc + 1 + 0 ≤ 1089 by omega), (show ks + 6 + 0 ≤ 11401 by omega), Nat.le_of_ble_eq_true rfl⟩ (F81_ok (d + 6) h140) ?_
  refine mm_ev.to (c := (786, [some (.float 0), some (.ref 0), some (.ref 34), some (.ref 51), some (.int v4), some (.int r137.1), o6], [.int r139.1], mH r139.2, kc + 1, ks + 6)) rfl ?_
  refine mm_ev.go [true, true] (ps := []) (c1 := (789, [some (.float 0), some (.ref 0), some (.ref 34), some (.ref 51), some (.int v4), some (.int r137.1), some (.int r139.1)], [.ref 34], mH r139.2, kc + 1, ks + 6)) rfl trivial ?_
  obtain ⟨r141, h142, h⟩ := mb_b h
  refine mm_ev.call (q := mq0) (q2 := mq58) (b := (789, .invokevirtual 71, 3, 2, 2, 58, 1, 6, [766, 763, 764, 54, 765])) (as := [.ref 34]) (r := []) (v := (some (.int r141))) (h1 := mH r139.2) rfl rfl rfl rfl ⟨(show kc + 1 + 0 ≤ 1089 by omega), (show ks + 6 + 0 ≤ 11401 by omega), Nat.le_of_ble_eq_true rfl⟩ (F58_ok (d + 7) h142) ?_
  refine mm_ev.to (c := (792, [some (.float 0), some (.ref 0), some (.ref 34), some (.ref 51), some (.int v4), some (.int r137.1), some (.int r139.1)], [.int r141], mH r139.2, kc + 1, ks + 6)) rfl ?_
  by_cases h143 : r141 = r137.1
  · rw [if_pos h143] at h
    refine mm_ev.go [true, true] (ps := [mm_cmp .eq r141 r137.1]) (c1 := (799, [some (.float 0), some (.ref 0), some (.ref 34), some (.ref 51), some (.int v4), some (.int r137.1), some (.int r139.1)], [], mH r139.2, kc + 1, ks + 6)) rfl ⟨h143, trivial⟩ ?_
    by_cases h144 : r137.1 = (0 : Int32)
    · rw [if_pos h144] at h
      refine mm_ev.go [true, false] (ps := [¬ mm_cmp .ne r137.1 (0 : Int32)]) (c1 := (804, [some (.float 0), some (.ref 0), some (.ref 34), some (.ref 51), some (.int v4), some (.int r137.1), some (.int r139.1)], [], mH r139.2, kc + 1, ks + 6)) rfl ⟨(fun z => z h144), trivial⟩ ?_
      obtain ⟨h145, h⟩ := mb_i h
      by_cases h146 : (lg_cmp (r139.2.2.2 (0 : Int32).toNatClampNeg) r139.1.toInt64) = (0 : Int32)
      · rw [if_pos h146] at h
        refine mm_ev.go [true, true, true, true, true, true, true] (ps := [mm_in (0 : Int32) 1, mm_cmp .eq (lg_cmp (r139.2.2.2 (0 : Int32).toNatClampNeg) r139.1.toInt64) (0 : Int32)]) (c1 := (816, [some (.float 0), some (.ref 0), some (.ref 34), some (.ref 51), some (.int v4), some (.int r137.1), some (.int r139.1)], [], mH r139.2, kc + 1, ks + 6)) rfl ⟨h145, h146, trivial⟩ ?_
        refine mm_ev.go [true, true, true] (ps := []) (c1 := (23, [some (.float 0), some (.ref 0), some (.ref 34), some (.ref 51), some (.int (v4 + (6 : Int32))), some (.int r137.1), some (.int r139.1)], [], mH r139.2, kc + 1, ks + 6)) rfl trivial ?_
        cases h
        exact hc0 _ _ (by omega) (by omega) rfl (some (.int r137.1)) (some (.int r139.1))
      · rw [if_neg h146] at h
        refine mm_ev.go [true, true, true, true, true, true, false] (ps := [mm_in (0 : Int32) 1, ¬ mm_cmp .eq (lg_cmp (r139.2.2.2 (0 : Int32).toNatClampNeg) r139.1.toInt64) (0 : Int32)]) (c1 := (814, [some (.float 0), some (.ref 0), some (.ref 34), some (.ref 51), some (.int v4), some (.int r137.1), some (.int r139.1)], [], mH r139.2, kc + 1, ks + 6)) rfl ⟨h145, h146, trivial⟩ ?_
        cases h
    · rw [if_neg h144] at h
      refine mm_ev.go [true, true] (ps := [mm_cmp .ne r137.1 (0 : Int32)]) (c1 := (816, [some (.float 0), some (.ref 0), some (.ref 34), some (.ref 51), some (.int v4), some (.int r137.1), some (.int r139.1)], [], mH r139.2, kc + 1, ks + 6)) rfl ⟨h144, trivial⟩ ?_
      refine mm_ev.go [true, true, true] (ps := []) (c1 := (23, [some (.float 0), some (.ref 0), some (.ref 34), some (.ref 51), some (.int (v4 + (6 : Int32))), some (.int r137.1), some (.int r139.1)], [], mH r139.2, kc + 1, ks + 6)) rfl trivial ?_
      cases h
      exact hc0 _ _ (by omega) (by omega) rfl (some (.int r137.1)) (some (.int r139.1))
  · rw [if_neg h143] at h
    refine mm_ev.go [true, false] (ps := [¬ mm_cmp .eq r141 r137.1]) (c1 := (797, [some (.float 0), some (.ref 0), some (.ref 34), some (.ref 51), some (.int v4), some (.int r137.1), some (.int r139.1)], [], mH r139.2, kc + 1, ks + 6)) rfl ⟨h143, trivial⟩ ?_
    cases h
