/-! the law, once round (2) -/
/-- the law, an op of kind 11 -/
def I0_c11 (sc : mS) (n : Nat) (S : mSt) (v4 : Int32) : Option (Nat × mSt × Int32) := (F95 n S).bind fun r148 => ((F82 n r148.2).bind fun r150 => ((F58 r150.2).bind fun r152 => (if r152 = r148.1 then (if r148.1 = (0 : Int32) then (if 0 ≤ (0 : Int32) ∧ (0 : Int32).toNatClampNeg < 1 then if (lg_cmp (r150.2.2.2 (0 : Int32).toNatClampNeg) r150.1.toInt64) = (0 : Int32) then (some (0, r150.2, v4 + (6 : Int32))) else none else none) else (some (0, r150.2, v4 + (6 : Int32)))) else none)))
set_option maxRecDepth 100000 in
set_option maxHeartbeats 4000000 in
theorem I0_c11_ok {sc : mS} (d kc ks : Nat) (hkc : kc + 2 ≤ 1089) (hks : ks + 12 ≤ 11401) {n : Nat} {S : mSt} {v4 : Int32} {r : Nat × mSt × Int32} (h : I0_c11 sc n S v4 = some r) (o5 : Option Value) (o6 : Option Value) {Q : mR → List mE → Prop} (hc0 : ∀ kc2 ks2 : Nat, kc2 ≤ kc + 2 → ks2 ≤ ks + 12 → r.1 = 0 → ∀ u5 : Option Value, ∀ u6 : Option Value, mm_ev sc mmK mmP (d + 8) 0 (23, [some (.float 0), some (.ref 0), some (.ref 34), some (.ref 51), some (.int r.2.2), u5, u6], [], mH r.2.1, kc2, ks2) Q) (hc1 : r.1 = 1 → ∀ u0 : Option Value, ∀ u1 : Option Value, ∀ u2 : Option Value, ∀ u3 : Option Value, ∀ u4 : Option Value, ∀ u5 : Option Value, ∀ u6 : Option Value, mm_ev sc mmK mmP (d + 8) 0 (880, [u0, u1, u2, u3, u4, u5, u6], [], mH r.2.1, kc, ks) Q) : mm_ev sc mmK mmP (d + 8) 0 (40, [some (.float 0), some (.ref 0), some (.ref 34), some (.ref 51), some (.int v4), o5, o6], [.int (11 : Int32)], mH S, kc, ks) Q := by
  unfold I0_c11 at h
  refine mm_ev.go [true, true, true] (ps := [_]) (c1 := (821, [some (.float 0), some (.ref 0), some (.ref 34), some (.ref 51), some (.int v4), o5, o6], [.ref 51, .ref 0], mH S, kc, ks)) rfl ⟨(by decide), trivial⟩ ?_
  obtain ⟨r148, h149, h⟩ := mb_b h
  refine mm_ev.call (q := mq0) (q2 := mq95) (b := (821, .invokestatic 110, 3, 2, 7, 95, 2, 0, [653, 651, 652, 47])) (as := [.ref 0, .ref 51]) (r := []) (v := (some (.int r148.1))) (h1 := mH r148.2) rfl rfl rfl rfl ⟨(show kc + 0 + 1 ≤ 1089 by omega), (show ks + 0 + 6 ≤ 11401 by omega), Nat.le_of_ble_eq_true rfl⟩ (F95_ok d h149) ?_
  refine mm_ev.to (c := (824, [some (.float 0), some (.ref 0), some (.ref 34), some (.ref 51), some (.int v4), o5, o6], [.int r148.1], mH r148.2, kc + 1, ks + 6)) rfl ?_
  refine mm_ev.go [true, true] (ps := []) (c1 := (827, [some (.float 0), some (.ref 0), some (.ref 34), some (.ref 51), some (.int v4), some (.int r148.1), o6], [.ref 34], mH r148.2, kc + 1, ks + 6)) rfl trivial ?_
  obtain ⟨r150, h151, h⟩ := mb_b h
  refine mm_ev.call (q := mq0) (q2 := mq82) (b := (827, .invokevirtual 112, 3, 2, 2, 82, 1, 6, [861, 858, 859, 54, 860])) (as := [.ref 34]) (r := []) (v := (some (.int r150.1))) (h1 := mH r150.2) rfl rfl rfl rfl ⟨(show kc + 1 + 0 ≤ 1089 by omega), (show ks + 6 + 0 ≤ 11401 by omega), Nat.le_of_ble_eq_true rfl⟩ (F82_ok (d + 5) h151) ?_
  refine mm_ev.to (c := (830, [some (.float 0), some (.ref 0), some (.ref 34), some (.ref 51), some (.int v4), some (.int r148.1), o6], [.int r150.1], mH r150.2, kc + 1, ks + 6)) rfl ?_
  refine mm_ev.go [true, true] (ps := []) (c1 := (833, [some (.float 0), some (.ref 0), some (.ref 34), some (.ref 51), some (.int v4), some (.int r148.1), some (.int r150.1)], [.ref 34], mH r150.2, kc + 1, ks + 6)) rfl trivial ?_
  obtain ⟨r152, h153, h⟩ := mb_b h
  refine mm_ev.call (q := mq0) (q2 := mq58) (b := (833, .invokevirtual 71, 3, 2, 2, 58, 1, 6, [766, 763, 764, 54, 765])) (as := [.ref 34]) (r := []) (v := (some (.int r152))) (h1 := mH r150.2) rfl rfl rfl rfl ⟨(show kc + 1 + 0 ≤ 1089 by omega), (show ks + 6 + 0 ≤ 11401 by omega), Nat.le_of_ble_eq_true rfl⟩ (F58_ok (d + 7) h153) ?_
  refine mm_ev.to (c := (836, [some (.float 0), some (.ref 0), some (.ref 34), some (.ref 51), some (.int v4), some (.int r148.1), some (.int r150.1)], [.int r152], mH r150.2, kc + 1, ks + 6)) rfl ?_
  by_cases h154 : r152 = r148.1
  · rw [if_pos h154] at h
    refine mm_ev.go [true, true] (ps := [mm_cmp .eq r152 r148.1]) (c1 := (843, [some (.float 0), some (.ref 0), some (.ref 34), some (.ref 51), some (.int v4), some (.int r148.1), some (.int r150.1)], [], mH r150.2, kc + 1, ks + 6)) rfl ⟨h154, trivial⟩ ?_
    by_cases h155 : r148.1 = (0 : Int32)
    · rw [if_pos h155] at h
      refine mm_ev.go [true, false] (ps := [¬ mm_cmp .ne r148.1 (0 : Int32)]) (c1 := (848, [some (.float 0), some (.ref 0), some (.ref 34), some (.ref 51), some (.int v4), some (.int r148.1), some (.int r150.1)], [], mH r150.2, kc + 1, ks + 6)) rfl ⟨(fun z => z h155), trivial⟩ ?_
      obtain ⟨h156, h⟩ := mb_i h
      by_cases h157 : (lg_cmp (r150.2.2.2 (0 : Int32).toNatClampNeg) r150.1.toInt64) = (0 : Int32)
      · rw [if_pos h157] at h
        refine mm_ev.go [true, true, true, true, true, true, true] (ps := [mm_in (0 : Int32) 1, mm_cmp .eq (lg_cmp (r150.2.2.2 (0 : Int32).toNatClampNeg) r150.1.toInt64) (0 : Int32)]) (c1 := (860, [some (.float 0), some (.ref 0), some (.ref 34), some (.ref 51), some (.int v4), some (.int r148.1), some (.int r150.1)], [], mH r150.2, kc + 1, ks + 6)) rfl ⟨h156, h157, trivial⟩ ?_
        refine mm_ev.go [true, true, true] (ps := []) (c1 := (23, [some (.float 0), some (.ref 0), some (.ref 34), some (.ref 51), some (.int (v4 + (6 : Int32))), some (.int r148.1), some (.int r150.1)], [], mH r150.2, kc + 1, ks + 6)) rfl trivial ?_
        cases h
        exact hc0 _ _ (by omega) (by omega) rfl (some (.int r148.1)) (some (.int r150.1))
      · rw [if_neg h157] at h
        refine mm_ev.go [true, true, true, true, true, true, false] (ps := [mm_in (0 : Int32) 1, ¬ mm_cmp .eq (lg_cmp (r150.2.2.2 (0 : Int32).toNatClampNeg) r150.1.toInt64) (0 : Int32)]) (c1 := (858, [some (.float 0), some (.ref 0), some (.ref 34), some (.ref 51), some (.int v4), some (.int r148.1), some (.int r150.1)], [], mH r150.2, kc + 1, ks + 6)) rfl ⟨h156, h157, trivial⟩ ?_
        cases h
    · rw [if_neg h155] at h
      refine mm_ev.go [true, true] (ps := [mm_cmp .ne r148.1 (0 : Int32)]) (c1 := (860, [some (.float 0), some (.ref 0), some (.ref 34), some (.ref 51), some (.int v4), some (.int r148.1), some (.int r150.1)], [], mH r150.2, kc + 1, ks + 6)) rfl ⟨h155, trivial⟩ ?_
      refine mm_ev.go [true, true, true] (ps := []) (c1 := (23, [some (.float 0), some (.ref 0), some (.ref 34), some (.ref 51), some (.int (v4 + (6 : Int32))), some (.int r148.1), some (.int r150.1)], [], mH r150.2, kc + 1, ks + 6)) rfl trivial ?_
      cases h
      exact hc0 _ _ (by omega) (by omega) rfl (some (.int r148.1)) (some (.int r150.1))
  · rw [if_neg h154] at h
    refine mm_ev.go [true, false] (ps := [¬ mm_cmp .eq r152 r148.1]) (c1 := (841, [some (.float 0), some (.ref 0), some (.ref 34), some (.ref 51), some (.int v4), some (.int r148.1), some (.int r150.1)], [], mH r150.2, kc + 1, ks + 6)) rfl ⟨h154, trivial⟩ ?_
    cases h
/-- the law, an op of kind 12 -/
def I0_c12 (sc : mS) (n : Nat) (S : mSt) (v4 : Int32) : Option (Nat × mSt × Int32) := (F4 n S).bind fun r159 => ((F83 r159).bind fun r161 => (some (0, r161, v4 + (6 : Int32))))
set_option maxRecDepth 100000 in
set_option maxHeartbeats 4000000 in
theorem I0_c12_ok {sc : mS} (d kc ks : Nat) (hkc : kc + 2 ≤ 1089) (hks : ks + 12 ≤ 11401) {n : Nat} {S : mSt} {v4 : Int32} {r : Nat × mSt × Int32} (h : I0_c12 sc n S v4 = some r) (o5 : Option Value) (o6 : Option Value) {Q : mR → List mE → Prop} (hc0 : ∀ kc2 ks2 : Nat, kc2 ≤ kc + 2 → ks2 ≤ ks + 12 → r.1 = 0 → ∀ u5 : Option Value, ∀ u6 : Option Value, mm_ev sc mmK mmP (d + 8) 0 (23, [some (.float 0), some (.ref 0), some (.ref 34), some (.ref 51), some (.int r.2.2), u5, u6], [], mH r.2.1, kc2, ks2) Q) (hc1 : r.1 = 1 → ∀ u0 : Option Value, ∀ u1 : Option Value, ∀ u2 : Option Value, ∀ u3 : Option Value, ∀ u4 : Option Value, ∀ u5 : Option Value, ∀ u6 : Option Value, mm_ev sc mmK mmP (d + 8) 0 (880, [u0, u1, u2, u3, u4, u5, u6], [], mH r.2.1, kc, ks) Q) : mm_ev sc mmK mmP (d + 8) 0 (40, [some (.float 0), some (.ref 0), some (.ref 34), some (.ref 51), some (.int v4), o5, o6], [.int (12 : Int32)], mH S, kc, ks) Q := by
  unfold I0_c12 at h
  refine mm_ev.go [true, true] (ps := [_]) (c1 := (864, [some (.float 0), some (.ref 0), some (.ref 34), some (.ref 51), some (.int v4), o5, o6], [.ref 0], mH S, kc, ks)) rfl ⟨(by decide), trivial⟩ ?_
  obtain ⟨r159, h160, h⟩ := mb_b h
  refine mm_ev.call (q := mq0) (q2 := mq4) (b := (864, .invokevirtual 113, 3, 2, 2, 4, 1, 0, [291, 288, 289, 48, 290])) (as := [.ref 0]) (r := []) (v := none) (h1 := mH r159) rfl rfl rfl rfl ⟨(show kc + 0 + 0 ≤ 1089 by omega), (show ks + 0 + 0 ≤ 11401 by omega), Nat.le_of_ble_eq_true rfl⟩ (F4_ok (d + 5) h160) ?_
  refine mm_ev.to (c := (867, [some (.float 0), some (.ref 0), some (.ref 34), some (.ref 51), some (.int v4), o5, o6], [], mH r159, kc, ks)) rfl ?_
  refine mm_ev.go [true] (ps := []) (c1 := (868, [some (.float 0), some (.ref 0), some (.ref 34), some (.ref 51), some (.int v4), o5, o6], [.ref 34], mH r159, kc, ks)) rfl trivial ?_
  obtain ⟨r161, h162, h⟩ := mb_b h
  refine mm_ev.call (q := mq0) (q2 := mq83) (b := (868, .invokevirtual 116, 3, 2, 2, 83, 1, 6, [865, 862, 863, 54, 864])) (as := [.ref 34]) (r := []) (v := none) (h1 := mH r161) rfl rfl rfl rfl ⟨(show kc + 0 + 0 ≤ 1089 by omega), (show ks + 0 + 0 ≤ 11401 by omega), Nat.le_of_ble_eq_true rfl⟩ (F83_ok (d + 7) h162) ?_
  refine mm_ev.to (c := (871, [some (.float 0), some (.ref 0), some (.ref 34), some (.ref 51), some (.int v4), o5, o6], [], mH r161, kc, ks)) rfl ?_
  refine mm_ev.go [true, true, true] (ps := []) (c1 := (23, [some (.float 0), some (.ref 0), some (.ref 34), some (.ref 51), some (.int (v4 + (6 : Int32))), o5, o6], [], mH r161, kc, ks)) rfl trivial ?_
  cases h
  exact hc0 _ _ (by omega) (by omega) rfl o5 o6
/-- the law, an op of kind 13 -/
def I0_c13 (sc : mS) (S : mSt) (v4 : Int32) : Option (Nat × mSt × Int32) := some (0, S, v4 + (6 : Int32))
set_option maxRecDepth 100000 in
set_option maxHeartbeats 4000000 in
theorem I0_c13_ok {sc : mS} (d kc ks : Nat) (hkc : kc + 2 ≤ 1089) (hks : ks + 12 ≤ 11401) {S : mSt} {v4 : Int32} {r : Nat × mSt × Int32} (h : I0_c13 sc S v4 = some r) (o5 : Option Value) (o6 : Option Value) {Q : mR → List mE → Prop} (hc0 : ∀ kc2 ks2 : Nat, kc2 ≤ kc + 2 → ks2 ≤ ks + 12 → r.1 = 0 → ∀ u5 : Option Value, ∀ u6 : Option Value, mm_ev sc mmK mmP (d + 8) 0 (23, [some (.float 0), some (.ref 0), some (.ref 34), some (.ref 51), some (.int r.2.2), u5, u6], [], mH r.2.1, kc2, ks2) Q) (hc1 : r.1 = 1 → ∀ u0 : Option Value, ∀ u1 : Option Value, ∀ u2 : Option Value, ∀ u3 : Option Value, ∀ u4 : Option Value, ∀ u5 : Option Value, ∀ u6 : Option Value, mm_ev sc mmK mmP (d + 8) 0 (880, [u0, u1, u2, u3, u4, u5, u6], [], mH r.2.1, kc, ks) Q) : mm_ev sc mmK mmP (d + 8) 0 (40, [some (.float 0), some (.ref 0), some (.ref 34), some (.ref 51), some (.int v4), o5, o6], [.int (13 : Int32)], mH S, kc, ks) Q := by
  unfold I0_c13 at h
  refine mm_ev.go [true, true, true] (ps := [_]) (c1 := (23, [some (.float 0), some (.ref 0), some (.ref 34), some (.ref 51), some (.int (v4 + (6 : Int32))), o5, o6], [], mH S, kc, ks)) rfl ⟨(by decide), trivial⟩ ?_
  cases h
  exact hc0 _ _ (by omega) (by omega) rfl o5 o6
/-- the law, an op of kind 14 -/
def I0_c14 (sc : mS) (S : mSt) (v4 : Int32) : Option (Nat × mSt × Int32) := some (0, S, v4 + (6 : Int32))
set_option maxRecDepth 100000 in
set_option maxHeartbeats 4000000 in
theorem I0_c14_ok {sc : mS} (d kc ks : Nat) (hkc : kc + 2 ≤ 1089) (hks : ks + 12 ≤ 11401) {S : mSt} {v4 : Int32} {r : Nat × mSt × Int32} (h : I0_c14 sc S v4 = some r) (o5 : Option Value) (o6 : Option Value) {Q : mR → List mE → Prop} (hc0 : ∀ kc2 ks2 : Nat, kc2 ≤ kc + 2 → ks2 ≤ ks + 12 → r.1 = 0 → ∀ u5 : Option Value, ∀ u6 : Option Value, mm_ev sc mmK mmP (d + 8) 0 (23, [some (.float 0), some (.ref 0), some (.ref 34), some (.ref 51), some (.int r.2.2), u5, u6], [], mH r.2.1, kc2, ks2) Q) (hc1 : r.1 = 1 → ∀ u0 : Option Value, ∀ u1 : Option Value, ∀ u2 : Option Value, ∀ u3 : Option Value, ∀ u4 : Option Value, ∀ u5 : Option Value, ∀ u6 : Option Value, mm_ev sc mmK mmP (d + 8) 0 (880, [u0, u1, u2, u3, u4, u5, u6], [], mH r.2.1, kc, ks) Q) : mm_ev sc mmK mmP (d + 8) 0 (40, [some (.float 0), some (.ref 0), some (.ref 34), some (.ref 51), some (.int v4), o5, o6], [.int (14 : Int32)], mH S, kc, ks) Q := by
  unfold I0_c14 at h
  refine mm_ev.go [true, true, true] (ps := [_]) (c1 := (23, [some (.float 0), some (.ref 0), some (.ref 34), some (.ref 51), some (.int (v4 + (6 : Int32))), o5, o6], [], mH S, kc, ks)) rfl ⟨(by decide), trivial⟩ ?_
  cases h
  exact hc0 _ _ (by omega) (by omega) rfl o5 o6
/-- the law, an op of kind 15 -/
def I0_c15 (sc : mS) (S : mSt) (v4 : Int32) : Option (Nat × mSt × Int32) := some (0, S, v4 + (6 : Int32))
set_option maxRecDepth 100000 in
set_option maxHeartbeats 4000000 in
theorem I0_c15_ok {sc : mS} (d kc ks : Nat) (hkc : kc + 2 ≤ 1089) (hks : ks + 12 ≤ 11401) {S : mSt} {v4 : Int32} {r : Nat × mSt × Int32} (h : I0_c15 sc S v4 = some r) (o5 : Option Value) (o6 : Option Value) {Q : mR → List mE → Prop} (hc0 : ∀ kc2 ks2 : Nat, kc2 ≤ kc + 2 → ks2 ≤ ks + 12 → r.1 = 0 → ∀ u5 : Option Value, ∀ u6 : Option Value, mm_ev sc mmK mmP (d + 8) 0 (23, [some (.float 0), some (.ref 0), some (.ref 34), some (.ref 51), some (.int r.2.2), u5, u6], [], mH r.2.1, kc2, ks2) Q) (hc1 : r.1 = 1 → ∀ u0 : Option Value, ∀ u1 : Option Value, ∀ u2 : Option Value, ∀ u3 : Option Value, ∀ u4 : Option Value, ∀ u5 : Option Value, ∀ u6 : Option Value, mm_ev sc mmK mmP (d + 8) 0 (880, [u0, u1, u2, u3, u4, u5, u6], [], mH r.2.1, kc, ks) Q) : mm_ev sc mmK mmP (d + 8) 0 (40, [some (.float 0), some (.ref 0), some (.ref 34), some (.ref 51), some (.int v4), o5, o6], [.int (15 : Int32)], mH S, kc, ks) Q := by
  unfold I0_c15 at h
  refine mm_ev.go [true, true, true] (ps := [_]) (c1 := (23, [some (.float 0), some (.ref 0), some (.ref 34), some (.ref 51), some (.int (v4 + (6 : Int32))), o5, o6], [], mH S, kc, ks)) rfl ⟨(by decide), trivial⟩ ?_
  cases h
  exact hc0 _ _ (by omega) (by omega) rfl o5 o6
/-- the law, once round -/
def I0 (sc : mS) (n : Nat) (S : mSt) (v4 : Int32) : Option (Nat × mSt × Int32) := if ((Int32.ofNat sc.1) - (6 : Int32)) < v4 then (some (1, S, 0)) else (if 0 ≤ v4 ∧ v4.toNatClampNeg < sc.1 then if (sc.2 v4.toNatClampNeg) &&& (15 : Int32) = (0 : Int32) then I0_c0 sc S v4 else (if (sc.2 v4.toNatClampNeg) &&& (15 : Int32) = (1 : Int32) then I0_c1 sc S v4 else (if (sc.2 v4.toNatClampNeg) &&& (15 : Int32) = (2 : Int32) then I0_c2 sc S v4 else (if (sc.2 v4.toNatClampNeg) &&& (15 : Int32) = (3 : Int32) then I0_c3 sc S v4 else (if (sc.2 v4.toNatClampNeg) &&& (15 : Int32) = (4 : Int32) then I0_c4 sc n S v4 else (if (sc.2 v4.toNatClampNeg) &&& (15 : Int32) = (5 : Int32) then I0_c5 sc n S v4 else (if (sc.2 v4.toNatClampNeg) &&& (15 : Int32) = (6 : Int32) then I0_c6 sc S v4 else (if (sc.2 v4.toNatClampNeg) &&& (15 : Int32) = (7 : Int32) then I0_c7 sc S v4 else (if (sc.2 v4.toNatClampNeg) &&& (15 : Int32) = (8 : Int32) then I0_c8 sc S v4 else (if (sc.2 v4.toNatClampNeg) &&& (15 : Int32) = (9 : Int32) then I0_c9 sc n S v4 else (if (sc.2 v4.toNatClampNeg) &&& (15 : Int32) = (10 : Int32) then I0_c10 sc S v4 else (if (sc.2 v4.toNatClampNeg) &&& (15 : Int32) = (11 : Int32) then I0_c11 sc n S v4 else (if (sc.2 v4.toNatClampNeg) &&& (15 : Int32) = (12 : Int32) then I0_c12 sc n S v4 else (if (sc.2 v4.toNatClampNeg) &&& (15 : Int32) = (13 : Int32) then I0_c13 sc S v4 else (if (sc.2 v4.toNatClampNeg) &&& (15 : Int32) = (14 : Int32) then I0_c14 sc S v4 else (if (sc.2 v4.toNatClampNeg) &&& (15 : Int32) = (15 : Int32) then I0_c15 sc S v4 else none))))))))))))))) else none)
set_option maxRecDepth 100000 in
set_option maxHeartbeats 4000000 in
theorem I0_ok {sc : mS} (d kc ks : Nat) (hkc : kc + 2 ≤ 1089) (hks : ks + 12 ≤ 11401) {n : Nat} {S : mSt} {v4 : Int32} {r : Nat × mSt × Int32} (h : I0 sc n S v4 = some r) (o5 : Option Value) (o6 : Option Value) {Q : mR → List mE → Prop} (hc0 : ∀ kc2 ks2 : Nat, kc2 ≤ kc + 2 → ks2 ≤ ks + 12 → r.1 = 0 → ∀ u5 : Option Value, ∀ u6 : Option Value, mm_ev sc mmK mmP (d + 8) 0 (23, [some (.float 0), some (.ref 0), some (.ref 34), some (.ref 51), some (.int r.2.2), u5, u6], [], mH r.2.1, kc2, ks2) Q) (hc1 : r.1 = 1 → ∀ u0 : Option Value, ∀ u1 : Option Value, ∀ u2 : Option Value, ∀ u3 : Option Value, ∀ u4 : Option Value, ∀ u5 : Option Value, ∀ u6 : Option Value, mm_ev sc mmK mmP (d + 8) 0 (880, [u0, u1, u2, u3, u4, u5, u6], [], mH r.2.1, kc, ks) Q) : mm_ev sc mmK mmP (d + 8) 0 (23, [some (.float 0), some (.ref 0), some (.ref 34), some (.ref 51), some (.int v4), o5, o6], [], mH S, kc, ks) Q := by
  unfold I0 at h
  by_cases h1 : ((Int32.ofNat sc.1) - (6 : Int32)) < v4
  · rw [if_pos h1] at h
    refine mm_ev.go [true, true, true, true, true, true] (ps := [mm_cmp .gt v4 ((Int32.ofNat sc.1) - (6 : Int32))]) (c1 := (880, [some (.float 0), some (.ref 0), some (.ref 34), some (.ref 51), some (.int v4), o5, o6], [], mH S, kc, ks)) rfl ⟨h1, trivial⟩ ?_
    cases h
    exact hc1 rfl (some (.float 0)) (some (.ref 0)) (some (.ref 34)) (some (.ref 51)) (some (.int v4)) o5 o6
  · rw [if_neg h1] at h
    refine mm_ev.go [true, true, true, true, true, false] (ps := [¬ mm_cmp .gt v4 ((Int32.ofNat sc.1) - (6 : Int32))]) (c1 := (33, [some (.float 0), some (.ref 0), some (.ref 34), some (.ref 51), some (.int v4), o5, o6], [], mH S, kc, ks)) rfl ⟨h1, trivial⟩ ?_
    obtain ⟨h2, h⟩ := mb_i h
    refine mm_ev.go [true, true, true, true, true] (ps := [mm_in v4 sc.1]) (c1 := (40, [some (.float 0), some (.ref 0), some (.ref 34), some (.ref 51), some (.int v4), o5, o6], [.int ((sc.2 v4.toNatClampNeg) &&& (15 : Int32))], mH S, kc, ks)) rfl ⟨h2, trivial⟩ ?_
    by_cases h3 : (sc.2 v4.toNatClampNeg) &&& (15 : Int32) = (0 : Int32)
    · rw [if_pos h3] at h
      rw [h3]
      exact I0_c0_ok d kc ks hkc hks h o5 o6 hc0 hc1
    rw [if_neg h3] at h
    by_cases h14 : (sc.2 v4.toNatClampNeg) &&& (15 : Int32) = (1 : Int32)
    · rw [if_pos h14] at h
      rw [h14]
      exact I0_c1_ok d kc ks hkc hks h o5 o6 hc0 hc1
    rw [if_neg h14] at h
    by_cases h30 : (sc.2 v4.toNatClampNeg) &&& (15 : Int32) = (2 : Int32)
    · rw [if_pos h30] at h
      rw [h30]
      exact I0_c2_ok d kc ks hkc hks h o5 o6 hc0 hc1
    rw [if_neg h30] at h
    by_cases h48 : (sc.2 v4.toNatClampNeg) &&& (15 : Int32) = (3 : Int32)
    · rw [if_pos h48] at h
      rw [h48]
      exact I0_c3_ok d kc ks hkc hks h o5 o6 hc0 hc1
    rw [if_neg h48] at h
    by_cases h61 : (sc.2 v4.toNatClampNeg) &&& (15 : Int32) = (4 : Int32)
    · rw [if_pos h61] at h
      rw [h61]
      exact I0_c4_ok d kc ks hkc hks h o5 o6 hc0 hc1
    rw [if_neg h61] at h
    by_cases h74 : (sc.2 v4.toNatClampNeg) &&& (15 : Int32) = (5 : Int32)
    · rw [if_pos h74] at h
      rw [h74]
      exact I0_c5_ok d kc ks hkc hks h o5 o6 hc0 hc1
    rw [if_neg h74] at h
    by_cases h86 : (sc.2 v4.toNatClampNeg) &&& (15 : Int32) = (6 : Int32)
    · rw [if_pos h86] at h
      rw [h86]
      exact I0_c6_ok d kc ks hkc hks h o5 o6 hc0 hc1
    rw [if_neg h86] at h
    by_cases h99 : (sc.2 v4.toNatClampNeg) &&& (15 : Int32) = (7 : Int32)
    · rw [if_pos h99] at h
      rw [h99]
      exact I0_c7_ok d kc ks hkc hks h o5 o6 hc0 hc1
    rw [if_neg h99] at h
    by_cases h110 : (sc.2 v4.toNatClampNeg) &&& (15 : Int32) = (8 : Int32)
    · rw [if_pos h110] at h
      rw [h110]
      exact I0_c8_ok d kc ks hkc hks h o5 o6 hc0 hc1
    rw [if_neg h110] at h
    by_cases h123 : (sc.2 v4.toNatClampNeg) &&& (15 : Int32) = (9 : Int32)
    · rw [if_pos h123] at h
      rw [h123]
      exact I0_c9_ok d kc ks hkc hks h o5 o6 hc0 hc1
    rw [if_neg h123] at h
    by_cases h135 : (sc.2 v4.toNatClampNeg) &&& (15 : Int32) = (10 : Int32)
    · rw [if_pos h135] at h
      rw [h135]
      exact I0_c10_ok d kc ks hkc hks h o5 o6 hc0 hc1
    rw [if_neg h135] at h
    by_cases h147 : (sc.2 v4.toNatClampNeg) &&& (15 : Int32) = (11 : Int32)
    · rw [if_pos h147] at h
      rw [h147]
      exact I0_c11_ok d kc ks hkc hks h o5 o6 hc0 hc1
    rw [if_neg h147] at h
    by_cases h158 : (sc.2 v4.toNatClampNeg) &&& (15 : Int32) = (12 : Int32)
    · rw [if_pos h158] at h
      rw [h158]
      exact I0_c12_ok d kc ks hkc hks h o5 o6 hc0 hc1
    rw [if_neg h158] at h
    by_cases h163 : (sc.2 v4.toNatClampNeg) &&& (15 : Int32) = (13 : Int32)
    · rw [if_pos h163] at h
      rw [h163]
      exact I0_c13_ok d kc ks hkc hks h o5 o6 hc0 hc1
    rw [if_neg h163] at h
    by_cases h164 : (sc.2 v4.toNatClampNeg) &&& (15 : Int32) = (14 : Int32)
    · rw [if_pos h164] at h
      rw [h164]
      exact I0_c14_ok d kc ks hkc hks h o5 o6 hc0 hc1
    rw [if_neg h164] at h
    by_cases h165 : (sc.2 v4.toNatClampNeg) &&& (15 : Int32) = (15 : Int32)
    · rw [if_pos h165] at h
      rw [h165]
      exact I0_c15_ok d kc ks hkc hks h o5 o6 hc0 hc1
    rw [if_neg h165] at h
    cases h
