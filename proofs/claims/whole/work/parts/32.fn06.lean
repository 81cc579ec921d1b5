/-! methods as functions of the state (6) -/
def I53_21 (S : mSt) (v2 v4 : Int32) : Option (Nat × Int32 × Int32) := if (S.1 15) ≤ v4 then (some (1, 0, 0)) else (if (100 : Int32) ≤ v4 then (some (1, 0, 0)) else (if 0 ≤ v4 ∧ v4.toNatClampNeg < 100 then (F24 S ((S.2.1 31 v4.toNatClampNeg) + v2)).bind fun r9 => (if r9 = (0 : Int32) then ((F51 S v4).bind fun r12 => ((F24 S (r12 + v2)).bind fun r14 => (if r14 = (0 : Int32) then (some (0, v2, v4 + (1 : Int32))) else (some (2, 0, 0))))) else (some (2, 0, 0))) else none))
set_option maxRecDepth 100000 in
set_option maxHeartbeats 4000000 in
theorem I53_21_ok {sc : mS} (d : Nat) {S : mSt} {v2 v4 : Int32} {r : Nat × Int32 × Int32} (h : I53_21 S v2 v4 = some r) (o1 : Option Value) {Q : mR → List mE → Prop} (hc0 : r.1 = 0 → ∀ u1 : Option Value, mm_ev sc mmK mmP (d + 2) 53 (21, [some (.ref 28), u1, some (.int r.2.1), some (.ref 1), some (.int r.2.2)], [], mH S, 0, 0) Q) (hc1 : r.1 = 1 → ∀ u0 : Option Value, ∀ u1 : Option Value, ∀ u2 : Option Value, ∀ u3 : Option Value, ∀ u4 : Option Value, mm_ev sc mmK mmP (d + 2) 53 (76, [u0, u1, u2, u3, u4], [], mH S, 0, 0) Q) (hc2 : r.1 = 2 → ∀ u0 : Option Value, ∀ u1 : Option Value, ∀ u2 : Option Value, ∀ u3 : Option Value, ∀ u4 : Option Value, mm_ev sc mmK mmP (d + 2) 53 (68, [u0, u1, u2, u3, u4], [], mH S, 0, 0) Q) : mm_ev sc mmK mmP (d + 2) 53 (21, [some (.ref 28), o1, some (.int v2), some (.ref 1), some (.int v4)], [], mH S, 0, 0) Q := by
  unfold I53_21 at h
  by_cases h6 : (S.1 15) ≤ v4
  · rw [if_pos h6] at h
    refine mm_ev.go [true, true, true, true] (ps := [mm_cmp .ge v4 (S.1 15)]) (c1 := (76, [some (.ref 28), o1, some (.int v2), some (.ref 1), some (.int v4)], [], mH S, 0, 0)) rfl ⟨h6, trivial⟩ ?_
    cases h
    exact hc1 rfl (some (.ref 28)) o1 (some (.int v2)) (some (.ref 1)) (some (.int v4))
  · rw [if_neg h6] at h
    refine mm_ev.go [true, true, true, false] (ps := [¬ mm_cmp .ge v4 (S.1 15)]) (c1 := (30, [some (.ref 28), o1, some (.int v2), some (.ref 1), some (.int v4)], [], mH S, 0, 0)) rfl ⟨h6, trivial⟩ ?_
    by_cases h7 : (100 : Int32) ≤ v4
    · rw [if_pos h7] at h
      refine mm_ev.go [true, true, true] (ps := [mm_cmp .ge v4 (100 : Int32)]) (c1 := (76, [some (.ref 28), o1, some (.int v2), some (.ref 1), some (.int v4)], [], mH S, 0, 0)) rfl ⟨h7, trivial⟩ ?_
      cases h
      exact hc1 rfl (some (.ref 28)) o1 (some (.int v2)) (some (.ref 1)) (some (.int v4))
    · rw [if_neg h7] at h
      refine mm_ev.go [true, true, false] (ps := [¬ mm_cmp .ge v4 (100 : Int32)]) (c1 := (37, [some (.ref 28), o1, some (.int v2), some (.ref 1), some (.int v4)], [], mH S, 0, 0)) rfl ⟨h7, trivial⟩ ?_
      obtain ⟨h8, h⟩ := mb_i h
      refine mm_ev.go [true, true, true, true, true, true, true] (ps := [mm_in v4 100]) (c1 := (47, [some (.ref 28), o1, some (.int v2), some (.ref 1), some (.int v4)], [.int ((S.2.1 31 v4.toNatClampNeg) + v2), .ref 1], mH S, 0, 0)) rfl ⟨h8, trivial⟩ ?_
      obtain ⟨r9, h10, h⟩ := mb_b h
      refine mm_ev.call (q := mq53) (q2 := mq24) (b := (47, .invokevirtual 58, 3, 2, 3, 24, 2, 1, [514, 576, 513, 49, 17])) (as := [.ref 1, .int ((S.2.1 31 v4.toNatClampNeg) + v2)]) (r := []) (v := (some (.int r9))) (h1 := mH S) rfl rfl rfl rfl ⟨Nat.le_of_ble_eq_true rfl, Nat.le_of_ble_eq_true rfl, Nat.le_of_ble_eq_true rfl⟩ (F24_ok (d + 1) h10) ?_
      refine mm_ev.to (c := (50, [some (.ref 28), o1, some (.int v2), some (.ref 1), some (.int v4)], [.int r9], mH S, 0, 0)) rfl ?_
      by_cases h11 : r9 = (0 : Int32)
      · rw [if_pos h11] at h
        refine mm_ev.go [false] (ps := [¬ mm_cmp .ne r9 (0 : Int32)]) (c1 := (53, [some (.ref 28), o1, some (.int v2), some (.ref 1), some (.int v4)], [], mH S, 0, 0)) rfl ⟨(fun z => z h11), trivial⟩ ?_
        refine mm_ev.go [true, true, true] (ps := []) (c1 := (57, [some (.ref 28), o1, some (.int v2), some (.ref 1), some (.int v4)], [.int v4, .ref 28, .ref 1], mH S, 0, 0)) rfl trivial ?_
        obtain ⟨r12, h13, h⟩ := mb_b h
        refine mm_ev.call (q := mq53) (q2 := mq51) (b := (57, .invokevirtual 50, 3, 2, 2, 51, 2, 5, [567, 564, 566, 53, 29])) (as := [.ref 28, .int v4]) (r := [.ref 1]) (v := (some (.int r12))) (h1 := mH S) rfl rfl rfl rfl ⟨Nat.le_of_ble_eq_true rfl, Nat.le_of_ble_eq_true rfl, Nat.le_of_ble_eq_true rfl⟩ (F51_ok d h13) ?_
        refine mm_ev.to (c := (60, [some (.ref 28), o1, some (.int v2), some (.ref 1), some (.int v4)], [.int r12, .ref 1], mH S, 0, 0)) rfl ?_
        refine mm_ev.go [true, true] (ps := []) (c1 := (62, [some (.ref 28), o1, some (.int v2), some (.ref 1), some (.int v4)], [.int (r12 + v2), .ref 1], mH S, 0, 0)) rfl trivial ?_
        obtain ⟨r14, h15, h⟩ := mb_b h
        refine mm_ev.call (q := mq53) (q2 := mq24) (b := (62, .invokevirtual 58, 3, 2, 3, 24, 2, 1, [514, 576, 513, 49, 17])) (as := [.ref 1, .int (r12 + v2)]) (r := []) (v := (some (.int r14))) (h1 := mH S) rfl rfl rfl rfl ⟨Nat.le_of_ble_eq_true rfl, Nat.le_of_ble_eq_true rfl, Nat.le_of_ble_eq_true rfl⟩ (F24_ok (d + 1) h15) ?_
        refine mm_ev.to (c := (65, [some (.ref 28), o1, some (.int v2), some (.ref 1), some (.int v4)], [.int r14], mH S, 0, 0)) rfl ?_
        by_cases h16 : r14 = (0 : Int32)
        · rw [if_pos h16] at h
          refine mm_ev.go [true] (ps := [mm_cmp .eq r14 (0 : Int32)]) (c1 := (70, [some (.ref 28), o1, some (.int v2), some (.ref 1), some (.int v4)], [], mH S, 0, 0)) rfl ⟨h16, trivial⟩ ?_
          refine mm_ev.go [true, true] (ps := []) (c1 := (21, [some (.ref 28), o1, some (.int v2), some (.ref 1), some (.int (v4 + (1 : Int32)))], [], mH S, 0, 0)) rfl trivial ?_
          cases h
          exact hc0 rfl o1
        · rw [if_neg h16] at h
          refine mm_ev.go [false] (ps := [¬ mm_cmp .eq r14 (0 : Int32)]) (c1 := (68, [some (.ref 28), o1, some (.int v2), some (.ref 1), some (.int v4)], [], mH S, 0, 0)) rfl ⟨h16, trivial⟩ ?_
          cases h
          exact hc2 rfl (some (.ref 28)) o1 (some (.int v2)) (some (.ref 1)) (some (.int v4))
      · rw [if_neg h11] at h
        refine mm_ev.go [true] (ps := [mm_cmp .ne r9 (0 : Int32)]) (c1 := (68, [some (.ref 28), o1, some (.int v2), some (.ref 1), some (.int v4)], [], mH S, 0, 0)) rfl ⟨h11, trivial⟩ ?_
        cases h
        exact hc2 rfl (some (.ref 28)) o1 (some (.int v2)) (some (.ref 1)) (some (.int v4))
def L53_21 : Nat → mSt → Int32 → Int32 → Option (Nat × Int32 × Int32)
  | 0, _, _, _ => none
  | n + 1, S, v2, v4 => (I53_21 S v2 v4).bind fun r => if r.1 = 0 then L53_21 n S r.2.1 r.2.2 else some r
set_option maxRecDepth 100000 in
set_option maxHeartbeats 4000000 in
theorem L53_21_ok {sc : mS} (d : Nat) {n : Nat} {S : mSt} {v2 v4 : Int32} {r : Nat × Int32 × Int32} (h : L53_21 n S v2 v4 = some r) (o1 : Option Value) {Q : mR → List mE → Prop} (hc1 : r.1 = 1 → ∀ u0 : Option Value, ∀ u1 : Option Value, ∀ u2 : Option Value, ∀ u3 : Option Value, ∀ u4 : Option Value, mm_ev sc mmK mmP (d + 2) 53 (76, [u0, u1, u2, u3, u4], [], mH S, 0, 0) Q) (hc2 : r.1 = 2 → ∀ u0 : Option Value, ∀ u1 : Option Value, ∀ u2 : Option Value, ∀ u3 : Option Value, ∀ u4 : Option Value, mm_ev sc mmK mmP (d + 2) 53 (68, [u0, u1, u2, u3, u4], [], mH S, 0, 0) Q) : mm_ev sc mmK mmP (d + 2) 53 (21, [some (.ref 28), o1, some (.int v2), some (.ref 1), some (.int v4)], [], mH S, 0, 0) Q := by
  induction n generalizing v2 v4 o1 with
  | zero => cases h
  | succ n ih =>
    unfold L53_21 at h
    obtain ⟨r1, h1, h⟩ := mb_b h
    by_cases h0 : r1.1 = 0
    · rw [if_pos h0] at h
      refine I53_21_ok d h1 o1 (fun _ z0 => ih h z0) (fun z => absurd z (by omega)) (fun z => absurd z (by omega))
    · rw [if_neg h0] at h
      cases h
      exact I53_21_ok d h1 o1 (fun z => absurd z h0) hc1 hc2
/-- SlabPatterns$Strips.mayGrow -/
def F53 (n : Nat) (S : mSt) (a0 a1 : Int32) : Option (Int32) := (F51 S a0).bind fun r1 => ((F24 S (r1 + a1)).bind fun r3 => (if r3 = (0 : Int32) then ((L53_21 n S a1 (a0 + (1 : Int32))).bind fun r17 => (if r17.1 = 1 then (some ((1 : Int32))) else (if r17.1 = 2 then (some ((0 : Int32))) else none))) else (some ((0 : Int32)))))
set_option maxRecDepth 100000 in
set_option maxHeartbeats 4000000 in
theorem F53_ok {sc : mS} (d : Nat) {n : Nat} {S : mSt} {a0 a1 : Int32} {r : Int32} (h : F53 n S a0 a1 = some r) : mm_ev sc mmK mmP (d + 2) 53 (0, mm_en 5 [.ref 28, .int a0, .int a1, .ref 1], [], mH S, 0, 0) (mm_is (.inl (some (.int r))) (mH S)) := by
  unfold F53 at h
  refine mm_ev.to (c := (0, [some (.ref 28), some (.int a0), some (.int a1), some (.ref 1), none], [], mH S, 0, 0)) rfl ?_
  refine mm_ev.go [true, true, true] (ps := []) (c1 := (3, [some (.ref 28), some (.int a0), some (.int a1), some (.ref 1), none], [.int a0, .ref 28, .ref 1], mH S, 0, 0)) rfl trivial ?_
  obtain ⟨r1, h2, h⟩ := mb_b h
  refine mm_ev.call (q := mq53) (q2 := mq51) (b := (3, .invokevirtual 50, 3, 2, 2, 51, 2, 5, [567, 564, 566, 53, 29])) (as := [.ref 28, .int a0]) (r := [.ref 1]) (v := (some (.int r1))) (h1 := mH S) rfl rfl rfl rfl ⟨Nat.le_of_ble_eq_true rfl, Nat.le_of_ble_eq_true rfl, Nat.le_of_ble_eq_true rfl⟩ (F51_ok d h2) ?_
  refine mm_ev.to (c := (6, [some (.ref 28), some (.int a0), some (.int a1), some (.ref 1), none], [.int r1, .ref 1], mH S, 0, 0)) rfl ?_
  refine mm_ev.go [true, true] (ps := []) (c1 := (8, [some (.ref 28), some (.int a0), some (.int a1), some (.ref 1), none], [.int (r1 + a1), .ref 1], mH S, 0, 0)) rfl trivial ?_
  obtain ⟨r3, h4, h⟩ := mb_b h
  refine mm_ev.call (q := mq53) (q2 := mq24) (b := (8, .invokevirtual 58, 3, 2, 3, 24, 2, 1, [514, 576, 513, 49, 17])) (as := [.ref 1, .int (r1 + a1)]) (r := []) (v := (some (.int r3))) (h1 := mH S) rfl rfl rfl rfl ⟨Nat.le_of_ble_eq_true rfl, Nat.le_of_ble_eq_true rfl, Nat.le_of_ble_eq_true rfl⟩ (F24_ok (d + 1) h4) ?_
  refine mm_ev.to (c := (11, [some (.ref 28), some (.int a0), some (.int a1), some (.ref 1), none], [.int r3], mH S, 0, 0)) rfl ?_
  by_cases h5 : r3 = (0 : Int32)
  · rw [if_pos h5] at h
    refine mm_ev.go [true] (ps := [mm_cmp .eq r3 (0 : Int32)]) (c1 := (16, [some (.ref 28), some (.int a0), some (.int a1), some (.ref 1), none], [], mH S, 0, 0)) rfl ⟨h5, trivial⟩ ?_
    refine mm_ev.go [true, true, true, true] (ps := []) (c1 := (21, [some (.ref 28), some (.int a0), some (.int a1), some (.ref 1), some (.int (a0 + (1 : Int32)))], [], mH S, 0, 0)) rfl trivial ?_
    obtain ⟨r17, h18, h⟩ := mb_b h
    refine L53_21_ok d h18 (some (.int a0)) ?_ ?_
    · intro h19 o1_0 o1_1 o1_2 o1_3 o1_4
      rw [if_pos h19] at h
      refine mm_ev.go [true] (ps := []) (c1 := (77, [o1_0, o1_1, o1_2, o1_3, o1_4], [.int (1 : Int32)], mH S, 0, 0)) rfl trivial ?_
      cases h
      exact mm_ev.ret (q := mq53) (b := (77, .ireturn, 1, 3, 0, 0, 0, 0, [])) rfl rfl rfl ⟨Nat.le_of_ble_eq_true rfl, Nat.le_of_ble_eq_true rfl⟩ ⟨by first | exact Or.inl rfl | exact Or.inr rfl, trivial⟩ ⟨rfl, rfl⟩
    · intro h20 o2_0 o2_1 o2_2 o2_3 o2_4
      rw [if_neg (by rw [h20]; decide)] at h
      rw [if_pos h20] at h
      refine mm_ev.go [true] (ps := []) (c1 := (69, [o2_0, o2_1, o2_2, o2_3, o2_4], [.int (0 : Int32)], mH S, 0, 0)) rfl trivial ?_
      cases h
      exact mm_ev.ret (q := mq53) (b := (69, .ireturn, 1, 3, 0, 0, 0, 0, [])) rfl rfl rfl ⟨Nat.le_of_ble_eq_true rfl, Nat.le_of_ble_eq_true rfl⟩ ⟨by first | exact Or.inl rfl | exact Or.inr rfl, trivial⟩ ⟨rfl, rfl⟩
  · rw [if_neg h5] at h
    refine mm_ev.go [false] (ps := [¬ mm_cmp .eq r3 (0 : Int32)]) (c1 := (14, [some (.ref 28), some (.int a0), some (.int a1), some (.ref 1), none], [], mH S, 0, 0)) rfl ⟨h5, trivial⟩ ?_
    refine mm_ev.go [true] (ps := []) (c1 := (15, [some (.ref 28), some (.int a0), some (.int a1), some (.ref 1), none], [.int (0 : Int32)], mH S, 0, 0)) rfl trivial ?_
    cases h
    exact mm_ev.ret (q := mq53) (b := (15, .ireturn, 1, 3, 0, 0, 0, 0, [])) rfl rfl rfl ⟨Nat.le_of_ble_eq_true rfl, Nat.le_of_ble_eq_true rfl⟩ ⟨by first | exact Or.inl rfl | exact Or.inr rfl, trivial⟩ ⟨rfl, rfl⟩
/-- SlabPatterns$Strips.isRight -/
def F56 (n : Nat) (S : mSt) (a0 : Int32) : Option (Int32) := (F52 S a0).bind fun r1 => (if r1 = (0 : Int32) then (some ((0 : Int32))) else (if 0 ≤ a0 ∧ a0.toNatClampNeg < 100 then if (S.2.1 31 a0.toNatClampNeg) < (S.1 7) then ((F24 S (S.2.1 31 a0.toNatClampNeg)).bind fun r6 => (if r6 = (0 : Int32) then ((F51 S a0).bind fun r9 => ((F24 S r9).bind fun r11 => (if r11 = (0 : Int32) then (some ((0 : Int32))) else (some ((0 : Int32)))))) else (some ((0 : Int32))))) else ((F51 S a0).bind fun r14 => ((F25 S).bind fun r16 => (if r16 < r14 then ((F24 S (S.2.1 31 a0.toNatClampNeg)).bind fun r19 => (if r19 = (0 : Int32) then ((F51 S a0).bind fun r22 => ((F24 S r22).bind fun r24 => (if r24 = (0 : Int32) then (some ((0 : Int32))) else (some ((0 : Int32)))))) else (some ((0 : Int32))))) else ((F24 S (S.2.1 31 a0.toNatClampNeg)).bind fun r27 => (if r27 = (0 : Int32) then ((F51 S a0).bind fun r30 => ((F24 S r30).bind fun r32 => (if r32 = (0 : Int32) then ((F55 n S (S.2.1 29 a0.toNatClampNeg) (a0 + (1 : Int32))).bind fun r35 => ((F30 S (S.2.1 29 a0.toNatClampNeg)).bind fun r37 => (if r37 < r35 then (some ((0 : Int32))) else ((F31 S (S.2.1 29 a0.toNatClampNeg) (S.2.1 30 a0.toNatClampNeg)).bind fun r40 => ((F23 S r40).bind fun r42 => (if r42 < (S.2.1 33 a0.toNatClampNeg) then (some ((0 : Int32))) else (some ((1 : Int32))))))))) else (some ((0 : Int32)))))) else (some ((0 : Int32)))))))) else none))
set_option maxRecDepth 100000 in
set_option maxHeartbeats 4000000 in
theorem F56_ok {sc : mS} (d : Nat) {n : Nat} {S : mSt} {a0 : Int32} {r : Int32} (h : F56 n S a0 = some r) : mm_ev sc mmK mmP (d + 2) 56 (0, mm_en 6 [.ref 28, .int a0, .ref 1, .ref 3], [], mH S, 0, 0) (mm_is (.inl (some (.int r))) (mH S)) := by
  unfold F56 at h
  refine mm_ev.to (c := (0, [some (.ref 28), some (.int a0), some (.ref 1), some (.ref 3), none, none], [], mH S, 0, 0)) rfl ?_
  refine mm_ev.go [true, true] (ps := []) (c1 := (2, [some (.ref 28), some (.int a0), some (.ref 1), some (.ref 3), none, none], [.int a0, .ref 28], mH S, 0, 0)) rfl trivial ?_
  obtain ⟨r1, h2, h⟩ := mb_b h
  refine mm_ev.call (q := mq56) (q2 := mq52) (b := (2, .invokevirtual 32, 3, 2, 2, 52, 2, 5, [571, 568, 570, 53, 30])) (as := [.ref 28, .int a0]) (r := []) (v := (some (.int r1))) (h1 := mH S) rfl rfl rfl rfl ⟨Nat.le_of_ble_eq_true rfl, Nat.le_of_ble_eq_true rfl, Nat.le_of_ble_eq_true rfl⟩ (F52_ok (d + 1) h2) ?_
  refine mm_ev.to (c := (5, [some (.ref 28), some (.int a0), some (.ref 1), some (.ref 3), none, none], [.int r1], mH S, 0, 0)) rfl ?_
  by_cases h3 : r1 = (0 : Int32)
  · rw [if_pos h3] at h
    refine mm_ev.go [false] (ps := [¬ mm_cmp .ne r1 (0 : Int32)]) (c1 := (8, [some (.ref 28), some (.int a0), some (.ref 1), some (.ref 3), none, none], [], mH S, 0, 0)) rfl ⟨(fun z => z h3), trivial⟩ ?_
    refine mm_ev.go [true] (ps := []) (c1 := (9, [some (.ref 28), some (.int a0), some (.ref 1), some (.ref 3), none, none], [.int (0 : Int32)], mH S, 0, 0)) rfl trivial ?_
    cases h
    exact mm_ev.ret (q := mq56) (b := (9, .ireturn, 1, 3, 0, 0, 0, 0, [])) rfl rfl rfl ⟨Nat.le_of_ble_eq_true rfl, Nat.le_of_ble_eq_true rfl⟩ ⟨by first | exact Or.inl rfl | exact Or.inr rfl, trivial⟩ ⟨rfl, rfl⟩
  · rw [if_neg h3] at h
    refine mm_ev.go [true] (ps := [mm_cmp .ne r1 (0 : Int32)]) (c1 := (10, [some (.ref 28), some (.int a0), some (.ref 1), some (.ref 3), none, none], [], mH S, 0, 0)) rfl ⟨h3, trivial⟩ ?_
    obtain ⟨h4, h⟩ := mb_i h
    by_cases h5 : (S.2.1 31 a0.toNatClampNeg) < (S.1 7)
    · rw [if_pos h5] at h
      refine mm_ev.go [true, true, true, true, true, true, true] (ps := [mm_in a0 100, mm_cmp .lt (S.2.1 31 a0.toNatClampNeg) (S.1 7)]) (c1 := (39, [some (.ref 28), some (.int a0), some (.ref 1), some (.ref 3), none, none], [], mH S, 0, 0)) rfl ⟨h4, h5, trivial⟩ ?_
      refine mm_ev.go [true, true, true, true, true, true, true] (ps := [mm_in a0 100]) (c1 := (49, [some (.ref 28), some (.int a0), some (.ref 1), some (.ref 3), some (.int (0 : Int32)), none], [.int (S.2.1 31 a0.toNatClampNeg), .ref 1], mH S, 0, 0)) rfl ⟨h4, trivial⟩ ?_
      obtain ⟨r6, h7, h⟩ := mb_b h
      refine mm_ev.call (q := mq56) (q2 := mq24) (b := (49, .invokevirtual 58, 3, 2, 3, 24, 2, 1, [514, 576, 513, 49, 17])) (as := [.ref 1, .int (S.2.1 31 a0.toNatClampNeg)]) (r := []) (v := (some (.int r6))) (h1 := mH S) rfl rfl rfl rfl ⟨Nat.le_of_ble_eq_true rfl, Nat.le_of_ble_eq_true rfl, Nat.le_of_ble_eq_true rfl⟩ (F24_ok (d + 1) h7) ?_
      refine mm_ev.to (c := (52, [some (.ref 28), some (.int a0), some (.ref 1), some (.ref 3), some (.int (0 : Int32)), none], [.int r6], mH S, 0, 0)) rfl ?_
      by_cases h8 : r6 = (0 : Int32)
      · rw [if_pos h8] at h
        refine mm_ev.go [false] (ps := [¬ mm_cmp .ne r6 (0 : Int32)]) (c1 := (55, [some (.ref 28), some (.int a0), some (.ref 1), some (.ref 3), some (.int (0 : Int32)), none], [], mH S, 0, 0)) rfl ⟨(fun z => z h8), trivial⟩ ?_
        refine mm_ev.go [true, true, true] (ps := []) (c1 := (58, [some (.ref 28), some (.int a0), some (.ref 1), some (.ref 3), some (.int (0 : Int32)), none], [.int a0, .ref 28, .ref 1], mH S, 0, 0)) rfl trivial ?_
        obtain ⟨r9, h10, h⟩ := mb_b h
        refine mm_ev.call (q := mq56) (q2 := mq51) (b := (58, .invokevirtual 50, 3, 2, 2, 51, 2, 5, [567, 564, 566, 53, 29])) (as := [.ref 28, .int a0]) (r := [.ref 1]) (v := (some (.int r9))) (h1 := mH S) rfl rfl rfl rfl ⟨Nat.le_of_ble_eq_true rfl, Nat.le_of_ble_eq_true rfl, Nat.le_of_ble_eq_true rfl⟩ (F51_ok d h10) ?_
        refine mm_ev.to (c := (61, [some (.ref 28), some (.int a0), some (.ref 1), some (.ref 3), some (.int (0 : Int32)), none], [.int r9, .ref 1], mH S, 0, 0)) rfl ?_
        obtain ⟨r11, h12, h⟩ := mb_b h
        refine mm_ev.call (q := mq56) (q2 := mq24) (b := (61, .invokevirtual 58, 3, 2, 3, 24, 2, 1, [514, 576, 513, 49, 17])) (as := [.ref 1, .int r9]) (r := []) (v := (some (.int r11))) (h1 := mH S) rfl rfl rfl rfl ⟨Nat.le_of_ble_eq_true rfl, Nat.le_of_ble_eq_true rfl, Nat.le_of_ble_eq_true rfl⟩ (F24_ok (d + 1) h12) ?_
        refine mm_ev.to (c := (64, [some (.ref 28), some (.int a0), some (.ref 1), some (.ref 3), some (.int (0 : Int32)), none], [.int r11], mH S, 0, 0)) rfl ?_
        by_cases h13 : r11 = (0 : Int32)
        · rw [if_pos h13] at h
          refine mm_ev.go [false] (ps := [¬ mm_cmp .ne r11 (0 : Int32)]) (c1 := (67, [some (.ref 28), some (.int a0), some (.ref 1), some (.ref 3), some (.int (0 : Int32)), none], [], mH S, 0, 0)) rfl ⟨(fun z => z h13), trivial⟩ ?_
          refine mm_ev.go [true, true, true, true, true, true] (ps := [mm_cmp .eq (0 : Int32) (0 : Int32)]) (c1 := (144, [some (.ref 28), some (.int a0), some (.ref 1), some (.ref 3), some (.int (0 : Int32)), some (.int (1 : Int32))], [.int (0 : Int32)], mH S, 0, 0)) rfl ⟨(show (0 : Int32) = (0 : Int32) from by decide), trivial⟩ ?_
          cases h
          exact mm_ev.ret (q := mq56) (b := (144, .ireturn, 1, 3, 0, 0, 0, 0, [])) rfl rfl rfl ⟨Nat.le_of_ble_eq_true rfl, Nat.le_of_ble_eq_true rfl⟩ ⟨by first | exact Or.inl rfl | exact Or.inr rfl, trivial⟩ ⟨rfl, rfl⟩
        · rw [if_neg h13] at h
          refine mm_ev.go [true] (ps := [mm_cmp .ne r11 (0 : Int32)]) (c1 := (71, [some (.ref 28), some (.int a0), some (.ref 1), some (.ref 3), some (.int (0 : Int32)), none], [], mH S, 0, 0)) rfl ⟨h13, trivial⟩ ?_
          refine mm_ev.go [true, true, true, true, true] (ps := [mm_cmp .eq (0 : Int32) (0 : Int32)]) (c1 := (144, [some (.ref 28), some (.int a0), some (.ref 1), some (.ref 3), some (.int (0 : Int32)), some (.int (0 : Int32))], [.int (0 : Int32)], mH S, 0, 0)) rfl ⟨(show (0 : Int32) = (0 : Int32) from by decide), trivial⟩ ?_
          cases h
          exact mm_ev.ret (q := mq56) (b := (144, .ireturn, 1, 3, 0, 0, 0, 0, [])) rfl rfl rfl ⟨Nat.le_of_ble_eq_true rfl, Nat.le_of_ble_eq_true rfl⟩ ⟨by first | exact Or.inl rfl | exact Or.inr rfl, trivial⟩ ⟨rfl, rfl⟩
      · rw [if_neg h8] at h
        refine mm_ev.go [true] (ps := [mm_cmp .ne r6 (0 : Int32)]) (c1 := (71, [some (.ref 28), some (.int a0), some (.ref 1), some (.ref 3), some (.int (0 : Int32)), none], [], mH S, 0, 0)) rfl ⟨h8, trivial⟩ ?_
        refine mm_ev.go [true, true, true, true, true] (ps := [mm_cmp .eq (0 : Int32) (0 : Int32)]) (c1 := (144, [some (.ref 28), some (.int a0), some (.ref 1), some (.ref 3), some (.int (0 : Int32)), some (.int (0 : Int32))], [.int (0 : Int32)], mH S, 0, 0)) rfl ⟨(show (0 : Int32) = (0 : Int32) from by decide), trivial⟩ ?_
        cases h
        exact mm_ev.ret (q := mq56) (b := (144, .ireturn, 1, 3, 0, 0, 0, 0, [])) rfl rfl rfl ⟨Nat.le_of_ble_eq_true rfl, Nat.le_of_ble_eq_true rfl⟩ ⟨by first | exact Or.inl rfl | exact Or.inr rfl, trivial⟩ ⟨rfl, rfl⟩
    · rw [if_neg h5] at h
      refine mm_ev.go [true, true, true, true, true, true, false] (ps := [mm_in a0 100, ¬ mm_cmp .lt (S.2.1 31 a0.toNatClampNeg) (S.1 7)]) (c1 := (23, [some (.ref 28), some (.int a0), some (.ref 1), some (.ref 3), none, none], [], mH S, 0, 0)) rfl ⟨h4, h5, trivial⟩ ?_
      refine mm_ev.go [true, true] (ps := []) (c1 := (25, [some (.ref 28), some (.int a0), some (.ref 1), some (.ref 3), none, none], [.int a0, .ref 28], mH S, 0, 0)) rfl trivial ?_
      obtain ⟨r14, h15, h⟩ := mb_b h
      refine mm_ev.call (q := mq56) (q2 := mq51) (b := (25, .invokevirtual 50, 3, 2, 2, 51, 2, 5, [567, 564, 566, 53, 29])) (as := [.ref 28, .int a0]) (r := []) (v := (some (.int r14))) (h1 := mH S) rfl rfl rfl rfl ⟨Nat.le_of_ble_eq_true rfl, Nat.le_of_ble_eq_true rfl, Nat.le_of_ble_eq_true rfl⟩ (F51_ok d h15) ?_
      refine mm_ev.to (c := (28, [some (.ref 28), some (.int a0), some (.ref 1), some (.ref 3), none, none], [.int r14], mH S, 0, 0)) rfl ?_
      refine mm_ev.go [true] (ps := []) (c1 := (29, [some (.ref 28), some (.int a0), some (.ref 1), some (.ref 3), none, none], [.ref 1, .int r14], mH S, 0, 0)) rfl trivial ?_
      obtain ⟨r16, h17, h⟩ := mb_b h
      refine mm_ev.call (q := mq56) (q2 := mq25) (b := (29, .invokevirtual 54, 3, 2, 3, 25, 1, 1, [519, 563, 518, 49, 18])) (as := [.ref 1]) (r := [.int r14]) (v := (some (.int r16))) (h1 := mH S) rfl rfl rfl rfl ⟨Nat.le_of_ble_eq_true rfl, Nat.le_of_ble_eq_true rfl, Nat.le_of_ble_eq_true rfl⟩ (F25_ok (d + 1) h17) ?_
      refine mm_ev.to (c := (32, [some (.ref 28), some (.int a0), some (.ref 1), some (.ref 3), none, none], [.int r16, .int r14], mH S, 0, 0)) rfl ?_
      by_cases h18 : r16 < r14
      · rw [if_pos h18] at h
        refine mm_ev.go [true] (ps := [mm_cmp .gt r14 r16]) (c1 := (39, [some (.ref 28), some (.int a0), some (.ref 1), some (.ref 3), none, none], [], mH S, 0, 0)) rfl ⟨h18, trivial⟩ ?_
        refine mm_ev.go [true, true, true, true, true, true, true] (ps := [mm_in a0 100]) (c1 := (49, [some (.ref 28), some (.int a0), some (.ref 1), some (.ref 3), some (.int (0 : Int32)), none], [.int (S.2.1 31 a0.toNatClampNeg), .ref 1], mH S, 0, 0)) rfl ⟨h4, trivial⟩ ?_
        obtain ⟨r19, h20, h⟩ := mb_b h
        refine mm_ev.call (q := mq56) (q2 := mq24) (b := (49, .invokevirtual 58, 3, 2, 3, 24, 2, 1, [514, 576, 513, 49, 17])) (as := [.ref 1, .int (S.2.1 31 a0.toNatClampNeg)]) (r := []) (v := (some (.int r19))) (h1 := mH S) rfl rfl rfl rfl ⟨Nat.le_of_ble_eq_true rfl, Nat.le_of_ble_eq_true rfl, Nat.le_of_ble_eq_true rfl⟩ (F24_ok (d + 1) h20) ?_
        refine mm_ev.to (c := (52, [some (.ref 28), some (.int a0), some (.ref 1), some (.ref 3), some (.int (0 : Int32)), none], [.int r19], mH S, 0, 0)) rfl ?_
        by_cases h21 : r19 = (0 : Int32)
        · rw [if_pos h21] at h
          refine mm_ev.go [false] (ps := [¬ mm_cmp .ne r19 (0 : Int32)]) (c1 := (55, [some (.ref 28), some (.int a0), some (.ref 1), some (.ref 3), some (.int (0 : Int32)), none], [], mH S, 0, 0)) rfl ⟨(fun z => z h21), trivial⟩ ?_
          refine mm_ev.go [true, true, true] (ps := []) (c1 := (58, [some (.ref 28), some (.int a0), some (.ref 1), some (.ref 3), some (.int (0 : Int32)), none], [.int a0, .ref 28, .ref 1], mH S, 0, 0)) rfl trivial ?_
          obtain ⟨r22, h23, h⟩ := mb_b h
          refine mm_ev.call (q := mq56) (q2 := mq51) (b := (58, .invokevirtual 50, 3, 2, 2, 51, 2, 5, [567, 564, 566, 53, 29])) (as := [.ref 28, .int a0]) (r := [.ref 1]) (v := (some (.int r22))) (h1 := mH S) rfl rfl rfl rfl ⟨Nat.le_of_ble_eq_true rfl, Nat.le_of_ble_eq_true rfl, Nat.le_of_ble_eq_true rfl⟩ (F51_ok d h23) ?_
          refine mm_ev.to (c := (61, [some (.ref 28), some (.int a0), some (.ref 1), some (.ref 3), some (.int (0 : Int32)), none], [.int r22, .ref 1], mH S, 0, 0)) rfl ?_
          obtain ⟨r24, h25, h⟩ := mb_b h
          refine mm_ev.call (q := mq56) (q2 := mq24) (b := (61, .invokevirtual 58, 3, 2, 3, 24, 2, 1, [514, 576, 513, 49, 17])) (as := [.ref 1, .int r22]) (r := []) (v := (some (.int r24))) (h1 := mH S) rfl rfl rfl rfl ⟨Nat.le_of_ble_eq_true rfl, Nat.le_of_ble_eq_true rfl, Nat.le_of_ble_eq_true rfl⟩ (F24_ok (d + 1) h25) ?_
          refine mm_ev.to (c := (64, [some (.ref 28), some (.int a0), some (.ref 1), some (.ref 3), some (.int (0 : Int32)), none], [.int r24], mH S, 0, 0)) rfl ?_
          by_cases h26 : r24 = (0 : Int32)
          · rw [if_pos h26] at h
            refine mm_ev.go [false] (ps := [¬ mm_cmp .ne r24 (0 : Int32)]) (c1 := (67, [some (.ref 28), some (.int a0), some (.ref 1), some (.ref 3), some (.int (0 : Int32)), none], [], mH S, 0, 0)) rfl ⟨(fun z => z h26), trivial⟩ ?_
            refine mm_ev.go [true, true, true, true, true, true] (ps := [mm_cmp .eq (0 : Int32) (0 : Int32)]) (c1 := (144, [some (.ref 28), some (.int a0), some (.ref 1), some (.ref 3), some (.int (0 : Int32)), some (.int (1 : Int32))], [.int (0 : Int32)], mH S, 0, 0)) rfl ⟨(show (0 : Int32) = (0 : Int32) from by decide), trivial⟩ ?_
            cases h
            exact mm_ev.ret (q := mq56) (b := (144, .ireturn, 1, 3, 0, 0, 0, 0, [])) rfl rfl rfl ⟨Nat.le_of_ble_eq_true rfl, Nat.le_of_ble_eq_true rfl⟩ ⟨by first | exact Or.inl rfl | exact Or.inr rfl, trivial⟩ ⟨rfl, rfl⟩
          · rw [if_neg h26] at h
            refine mm_ev.go [true] (ps := [mm_cmp .ne r24 (0 : Int32)]) (c1 := (71, [some (.ref 28), some (.int a0), some (.ref 1), some (.ref 3), some (.int (0 : Int32)), none], [], mH S, 0, 0)) rfl ⟨h26, trivial⟩ ?_
            refine mm_ev.go [true, true, true, true, true] (ps := [mm_cmp .eq (0 : Int32) (0 : Int32)]) (c1 := (144, [some (.ref 28), some (.int a0), some (.ref 1), some (.ref 3), some (.int (0 : Int32)), some (.int (0 : Int32))], [.int (0 : Int32)], mH S, 0, 0)) rfl ⟨(show (0 : Int32) = (0 : Int32) from by decide), trivial⟩ ?_
            cases h
            exact mm_ev.ret (q := mq56) (b := (144, .ireturn, 1, 3, 0, 0, 0, 0, [])) rfl rfl rfl ⟨Nat.le_of_ble_eq_true rfl, Nat.le_of_ble_eq_true rfl⟩ ⟨by first | exact Or.inl rfl | exact Or.inr rfl, trivial⟩ ⟨rfl, rfl⟩
        · rw [if_neg h21] at h
          refine mm_ev.go [true] (ps := [mm_cmp .ne r19 (0 : Int32)]) (c1 := (71, [some (.ref 28), some (.int a0), some (.ref 1), some (.ref 3), some (.int (0 : Int32)), none], [], mH S, 0, 0)) rfl ⟨h21, trivial⟩ ?_
          refine mm_ev.go [true, true, true, true, true] (ps := [mm_cmp .eq (0 : Int32) (0 : Int32)]) (c1 := (144, [some (.ref 28), some (.int a0), some (.ref 1), some (.ref 3), some (.int (0 : Int32)), some (.int (0 : Int32))], [.int (0 : Int32)], mH S, 0, 0)) rfl ⟨(show (0 : Int32) = (0 : Int32) from by decide), trivial⟩ ?_
          cases h
          exact mm_ev.ret (q := mq56) (b := (144, .ireturn, 1, 3, 0, 0, 0, 0, [])) rfl rfl rfl ⟨Nat.le_of_ble_eq_true rfl, Nat.le_of_ble_eq_true rfl⟩ ⟨by first | exact Or.inl rfl | exact Or.inr rfl, trivial⟩ ⟨rfl, rfl⟩
      · rw [if_neg h18] at h
        refine mm_ev.go [false] (ps := [¬ mm_cmp .gt r14 r16]) (c1 := (35, [some (.ref 28), some (.int a0), some (.ref 1), some (.ref 3), none, none], [], mH S, 0, 0)) rfl ⟨h18, trivial⟩ ?_
        refine mm_ev.go [true, true, true, true, true, true, true, true] (ps := [mm_in a0 100]) (c1 := (49, [some (.ref 28), some (.int a0), some (.ref 1), some (.ref 3), some (.int (1 : Int32)), none], [.int (S.2.1 31 a0.toNatClampNeg), .ref 1], mH S, 0, 0)) rfl ⟨h4, trivial⟩ ?_
        obtain ⟨r27, h28, h⟩ := mb_b h
        refine mm_ev.call (q := mq56) (q2 := mq24) (b := (49, .invokevirtual 58, 3, 2, 3, 24, 2, 1, [514, 576, 513, 49, 17])) (as := [.ref 1, .int (S.2.1 31 a0.toNatClampNeg)]) (r := []) (v := (some (.int r27))) (h1 := mH S) rfl rfl rfl rfl ⟨Nat.le_of_ble_eq_true rfl, Nat.le_of_ble_eq_true rfl, Nat.le_of_ble_eq_true rfl⟩ (F24_ok (d + 1) h28) ?_
        refine mm_ev.to (c := (52, [some (.ref 28), some (.int a0), some (.ref 1), some (.ref 3), some (.int (1 : Int32)), none], [.int r27], mH S, 0, 0)) rfl ?_
        by_cases h29 : r27 = (0 : Int32)
        · rw [if_pos h29] at h
          refine mm_ev.go [false] (ps := [¬ mm_cmp .ne r27 (0 : Int32)]) (c1 := (55, [some (.ref 28), some (.int a0), some (.ref 1), some (.ref 3), some (.int (1 : Int32)), none], [], mH S, 0, 0)) rfl ⟨(fun z => z h29), trivial⟩ ?_
          refine mm_ev.go [true, true, true] (ps := []) (c1 := (58, [some (.ref 28), some (.int a0), some (.ref 1), some (.ref 3), some (.int (1 : Int32)), none], [.int a0, .ref 28, .ref 1], mH S, 0, 0)) rfl trivial ?_
          obtain ⟨r30, h31, h⟩ := mb_b h
          refine mm_ev.call (q := mq56) (q2 := mq51) (b := (58, .invokevirtual 50, 3, 2, 2, 51, 2, 5, [567, 564, 566, 53, 29])) (as := [.ref 28, .int a0]) (r := [.ref 1]) (v := (some (.int r30))) (h1 := mH S) rfl rfl rfl rfl ⟨Nat.le_of_ble_eq_true rfl, Nat.le_of_ble_eq_true rfl, Nat.le_of_ble_eq_true rfl⟩ (F51_ok d h31) ?_
          refine mm_ev.to (c := (61, [some (.ref 28), some (.int a0), some (.ref 1), some (.ref 3), some (.int (1 : Int32)), none], [.int r30, .ref 1], mH S, 0, 0)) rfl ?_
          obtain ⟨r32, h33, h⟩ := mb_b h
          refine mm_ev.call (q := mq56) (q2 := mq24) (b := (61, .invokevirtual 58, 3, 2, 3, 24, 2, 1, [514, 576, 513, 49, 17])) (as := [.ref 1, .int r30]) (r := []) (v := (some (.int r32))) (h1 := mH S) rfl rfl rfl rfl ⟨Nat.le_of_ble_eq_true rfl, Nat.le_of_ble_eq_true rfl, Nat.le_of_ble_eq_true rfl⟩ (F24_ok (d + 1) h33) ?_
          refine mm_ev.to (c := (64, [some (.ref 28), some (.int a0), some (.ref 1), some (.ref 3), some (.int (1 : Int32)), none], [.int r32], mH S, 0, 0)) rfl ?_
          by_cases h34 : r32 = (0 : Int32)
          · rw [if_pos h34] at h
            refine mm_ev.go [false] (ps := [¬ mm_cmp .ne r32 (0 : Int32)]) (c1 := (67, [some (.ref 28), some (.int a0), some (.ref 1), some (.ref 3), some (.int (1 : Int32)), none], [], mH S, 0, 0)) rfl ⟨(fun z => z h34), trivial⟩ ?_
            refine mm_ev.go [true, true, true, true, false, true, false, true, true, true, true, true, true, true, true] (ps := [¬ mm_cmp .eq (1 : Int32) (0 : Int32), ¬ mm_cmp .eq (1 : Int32) (0 : Int32), mm_in a0 100]) (c1 := (94, [some (.ref 28), some (.int a0), some (.ref 1), some (.ref 3), some (.int (1 : Int32)), some (.int (1 : Int32))], [.int (a0 + (1 : Int32)), .int (S.2.1 29 a0.toNatClampNeg), .ref 28], mH S, 0, 0)) rfl ⟨(show ¬ ((1 : Int32) = (0 : Int32)) from by decide), (show ¬ ((1 : Int32) = (0 : Int32)) from by decide), h4, trivial⟩ ?_
            obtain ⟨r35, h36, h⟩ := mb_b h
            refine mm_ev.call (q := mq56) (q2 := mq55) (b := (94, .invokevirtual 61, 3, 2, 2, 55, 3, 5, [636, 662, 635, 53, 34])) (as := [.ref 28, .int (S.2.1 29 a0.toNatClampNeg), .int (a0 + (1 : Int32))]) (r := []) (v := (some (.int r35))) (h1 := mH S) rfl rfl rfl rfl ⟨Nat.le_of_ble_eq_true rfl, Nat.le_of_ble_eq_true rfl, Nat.le_of_ble_eq_true rfl⟩ (F55_ok (d + 1) h36) ?_
            refine mm_ev.to (c := (97, [some (.ref 28), some (.int a0), some (.ref 1), some (.ref 3), some (.int (1 : Int32)), some (.int (1 : Int32))], [.int r35], mH S, 0, 0)) rfl ?_
            refine mm_ev.go [true, true, true, true, true] (ps := [mm_in a0 100]) (c1 := (104, [some (.ref 28), some (.int a0), some (.ref 1), some (.ref 3), some (.int (1 : Int32)), some (.int (1 : Int32))], [.int (S.2.1 29 a0.toNatClampNeg), .ref 3, .int r35], mH S, 0, 0)) rfl ⟨h4, trivial⟩ ?_
            obtain ⟨r37, h38, h⟩ := mb_b h
            refine mm_ev.call (q := mq56) (q2 := mq30) (b := (104, .invokevirtual 64, 3, 2, 3, 30, 2, 2, [475, 663, 474, 50, 9])) (as := [.ref 3, .int (S.2.1 29 a0.toNatClampNeg)]) (r := [.int r35]) (v := (some (.int r37))) (h1 := mH S) rfl rfl rfl rfl ⟨Nat.le_of_ble_eq_true rfl, Nat.le_of_ble_eq_true rfl, Nat.le_of_ble_eq_true rfl⟩ (F30_ok d h38) ?_
            refine mm_ev.to (c := (107, [some (.ref 28), some (.int a0), some (.ref 1), some (.ref 3), some (.int (1 : Int32)), some (.int (1 : Int32))], [.int r37, .int r35], mH S, 0, 0)) rfl ?_
            by_cases h39 : r37 < r35
            · rw [if_pos h39] at h
              refine mm_ev.go [true] (ps := [mm_cmp .gt r35 r37]) (c1 := (143, [some (.ref 28), some (.int a0), some (.ref 1), some (.ref 3), some (.int (1 : Int32)), some (.int (1 : Int32))], [], mH S, 0, 0)) rfl ⟨h39, trivial⟩ ?_
              refine mm_ev.go [true] (ps := []) (c1 := (144, [some (.ref 28), some (.int a0), some (.ref 1), some (.ref 3), some (.int (1 : Int32)), some (.int (1 : Int32))], [.int (0 : Int32)], mH S, 0, 0)) rfl trivial ?_
              cases h
              exact mm_ev.ret (q := mq56) (b := (144, .ireturn, 1, 3, 0, 0, 0, 0, [])) rfl rfl rfl ⟨Nat.le_of_ble_eq_true rfl, Nat.le_of_ble_eq_true rfl⟩ ⟨by first | exact Or.inl rfl | exact Or.inr rfl, trivial⟩ ⟨rfl, rfl⟩
            · rw [if_neg h39] at h
              refine mm_ev.go [false] (ps := [¬ mm_cmp .gt r35 r37]) (c1 := (110, [some (.ref 28), some (.int a0), some (.ref 1), some (.ref 3), some (.int (1 : Int32)), some (.int (1 : Int32))], [], mH S, 0, 0)) rfl ⟨h39, trivial⟩ ?_
              refine mm_ev.go [true, true, true, true, true, true, true, true, true, true, true, true, true, true] (ps := [mm_in a0 100, mm_in a0 100, mm_in a0 100]) (c1 := (130, [some (.ref 28), some (.int a0), some (.ref 1), some (.ref 3), some (.int (1 : Int32)), some (.int (1 : Int32))], [.int (S.2.1 30 a0.toNatClampNeg), .int (S.2.1 29 a0.toNatClampNeg), .ref 3, .ref 1, .int (S.2.1 33 a0.toNatClampNeg)], mH S, 0, 0)) rfl ⟨h4, h4, h4, trivial⟩ ?_
              obtain ⟨r40, h41, h⟩ := mb_b h
              refine mm_ev.call (q := mq56) (q2 := mq31) (b := (130, .invokevirtual 69, 3, 2, 3, 31, 3, 2, [485, 664, 484, 50, 11])) (as := [.ref 3, .int (S.2.1 29 a0.toNatClampNeg), .int (S.2.1 30 a0.toNatClampNeg)]) (r := [.ref 1, .int (S.2.1 33 a0.toNatClampNeg)]) (v := (some (.int r40))) (h1 := mH S) rfl rfl rfl rfl ⟨Nat.le_of_ble_eq_true rfl, Nat.le_of_ble_eq_true rfl, Nat.le_of_ble_eq_true rfl⟩ (F31_ok d h41) ?_
              refine mm_ev.to (c := (133, [some (.ref 28), some (.int a0), some (.ref 1), some (.ref 3), some (.int (1 : Int32)), some (.int (1 : Int32))], [.int r40, .ref 1, .int (S.2.1 33 a0.toNatClampNeg)], mH S, 0, 0)) rfl ?_
              obtain ⟨r42, h43, h⟩ := mb_b h
              refine mm_ev.call (q := mq56) (q2 := mq23) (b := (133, .invokevirtual 73, 3, 2, 3, 23, 2, 1, [489, 665, 488, 49, 12])) (as := [.ref 1, .int r40]) (r := [.int (S.2.1 33 a0.toNatClampNeg)]) (v := (some (.int r42))) (h1 := mH S) rfl rfl rfl rfl ⟨Nat.le_of_ble_eq_true rfl, Nat.le_of_ble_eq_true rfl, Nat.le_of_ble_eq_true rfl⟩ (F23_ok (d + 1) h43) ?_
              refine mm_ev.to (c := (136, [some (.ref 28), some (.int a0), some (.ref 1), some (.ref 3), some (.int (1 : Int32)), some (.int (1 : Int32))], [.int r42, .int (S.2.1 33 a0.toNatClampNeg)], mH S, 0, 0)) rfl ?_
              by_cases h44 : r42 < (S.2.1 33 a0.toNatClampNeg)
              · rw [if_pos h44] at h
                refine mm_ev.go [true] (ps := [mm_cmp .gt (S.2.1 33 a0.toNatClampNeg) r42]) (c1 := (143, [some (.ref 28), some (.int a0), some (.ref 1), some (.ref 3), some (.int (1 : Int32)), some (.int (1 : Int32))], [], mH S, 0, 0)) rfl ⟨h44, trivial⟩ ?_
                refine mm_ev.go [true] (ps := []) (c1 := (144, [some (.ref 28), some (.int a0), some (.ref 1), some (.ref 3), some (.int (1 : Int32)), some (.int (1 : Int32))], [.int (0 : Int32)], mH S, 0, 0)) rfl trivial ?_
                cases h
                exact mm_ev.ret (q := mq56) (b := (144, .ireturn, 1, 3, 0, 0, 0, 0, [])) rfl rfl rfl ⟨Nat.le_of_ble_eq_true rfl, Nat.le_of_ble_eq_true rfl⟩ ⟨by first | exact Or.inl rfl | exact Or.inr rfl, trivial⟩ ⟨rfl, rfl⟩
              · rw [if_neg h44] at h
                refine mm_ev.go [false] (ps := [¬ mm_cmp .gt (S.2.1 33 a0.toNatClampNeg) r42]) (c1 := (139, [some (.ref 28), some (.int a0), some (.ref 1), some (.ref 3), some (.int (1 : Int32)), some (.int (1 : Int32))], [], mH S, 0, 0)) rfl ⟨h44, trivial⟩ ?_
                refine mm_ev.go [true, true] (ps := []) (c1 := (144, [some (.ref 28), some (.int a0), some (.ref 1), some (.ref 3), some (.int (1 : Int32)), some (.int (1 : Int32))], [.int (1 : Int32)], mH S, 0, 0)) rfl trivial ?_
                cases h
                exact mm_ev.ret (q := mq56) (b := (144, .ireturn, 1, 3, 0, 0, 0, 0, [])) rfl rfl rfl ⟨Nat.le_of_ble_eq_true rfl, Nat.le_of_ble_eq_true rfl⟩ ⟨by first | exact Or.inl rfl | exact Or.inr rfl, trivial⟩ ⟨rfl, rfl⟩
          · rw [if_neg h34] at h
            refine mm_ev.go [true] (ps := [mm_cmp .ne r32 (0 : Int32)]) (c1 := (71, [some (.ref 28), some (.int a0), some (.ref 1), some (.ref 3), some (.int (1 : Int32)), none], [], mH S, 0, 0)) rfl ⟨h34, trivial⟩ ?_
            refine mm_ev.go [true, true, true, false, true, true, true] (ps := [¬ mm_cmp .eq (1 : Int32) (0 : Int32), mm_cmp .eq (0 : Int32) (0 : Int32)]) (c1 := (144, [some (.ref 28), some (.int a0), some (.ref 1), some (.ref 3), some (.int (1 : Int32)), some (.int (0 : Int32))], [.int (0 : Int32)], mH S, 0, 0)) rfl ⟨(show ¬ ((1 : Int32) = (0 : Int32)) from by decide), (show (0 : Int32) = (0 : Int32) from by decide), trivial⟩ ?_
            cases h
            exact mm_ev.ret (q := mq56) (b := (144, .ireturn, 1, 3, 0, 0, 0, 0, [])) rfl rfl rfl ⟨Nat.le_of_ble_eq_true rfl, Nat.le_of_ble_eq_true rfl⟩ ⟨by first | exact Or.inl rfl | exact Or.inr rfl, trivial⟩ ⟨rfl, rfl⟩
        · rw [if_neg h29] at h
          refine mm_ev.go [true] (ps := [mm_cmp .ne r27 (0 : Int32)]) (c1 := (71, [some (.ref 28), some (.int a0), some (.ref 1), some (.ref 3), some (.int (1 : Int32)), none], [], mH S, 0, 0)) rfl ⟨h29, trivial⟩ ?_
          refine mm_ev.go [true, true, true, false, true, true, true] (ps := [¬ mm_cmp .eq (1 : Int32) (0 : Int32), mm_cmp .eq (0 : Int32) (0 : Int32)]) (c1 := (144, [some (.ref 28), some (.int a0), some (.ref 1), some (.ref 3), some (.int (1 : Int32)), some (.int (0 : Int32))], [.int (0 : Int32)], mH S, 0, 0)) rfl ⟨(show ¬ ((1 : Int32) = (0 : Int32)) from by decide), (show (0 : Int32) = (0 : Int32) from by decide), trivial⟩ ?_
          cases h
          exact mm_ev.ret (q := mq56) (b := (144, .ireturn, 1, 3, 0, 0, 0, 0, [])) rfl rfl rfl ⟨Nat.le_of_ble_eq_true rfl, Nat.le_of_ble_eq_true rfl⟩ ⟨by first | exact Or.inl rfl | exact Or.inr rfl, trivial⟩ ⟨rfl, rfl⟩
/-- SlabPatternsModel.isSize -/
def F60 (S : mSt) (a0 : Int32) : Option (Int32) := (F61 S a0 (1 : Int32) (200 : Int32)).bind fun r1 => (if r1 = 0 ∨ r1 = 1 then some r1 else none)
set_option maxRecDepth 100000 in
set_option maxHeartbeats 4000000 in
theorem F60_ok {sc : mS} (d : Nat) {S : mSt} {a0 : Int32} {r : Int32} (h : F60 S a0 = some r) : mm_ev sc mmK mmP (d + 1) 60 (0, mm_en 1 [.int a0], [], mH S, 0, 0) (mm_is (.inl (some (.int r))) (mH S)) := by
  unfold F60 at h
  refine mm_ev.to (c := (0, [some (.int a0)], [], mH S, 0, 0)) rfl ?_
  refine mm_ev.go [true, true, true] (ps := []) (c1 := (5, [some (.int a0)], [.int (200 : Int32), .int (1 : Int32), .int a0], mH S, 0, 0)) rfl trivial ?_
  obtain ⟨r1, h2, h⟩ := mb_b h
  refine mm_ev.call (q := mq60) (q2 := mq61) (b := (5, .invokestatic 78, 3, 2, 4, 61, 3, 0, [776, 774, 775, 54])) (as := [.int a0, .int (1 : Int32), .int (200 : Int32)]) (r := []) (v := (some (.int r1))) (h1 := mH S) rfl rfl rfl rfl ⟨Nat.le_of_ble_eq_true rfl, Nat.le_of_ble_eq_true rfl, Nat.le_of_ble_eq_true rfl⟩ (F61_ok d h2) ?_
  refine mm_ev.to (c := (8, [some (.int a0)], [.int r1], mH S, 0, 0)) rfl ?_
  obtain ⟨h3, h⟩ := mb_i h
  cases h
  exact mm_ev.ret (q := mq60) (b := (8, .ireturn, 1, 3, 0, 0, 0, 0, [])) rfl rfl rfl ⟨Nat.le_of_ble_eq_true rfl, Nat.le_of_ble_eq_true rfl⟩ ⟨h3, trivial⟩ ⟨rfl, rfl⟩
