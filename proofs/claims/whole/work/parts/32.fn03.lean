/-! methods as functions of the state (3) -/
def I74_7 (S : mSt) (v1 v2 : Int32) : Option (Nat × mSt × Int32 × Int32) := if v1 ≤ v2 then (some (1, S, 0, 0)) else (if 0 ≤ v2 ∧ v2.toNatClampNeg < 202 then (F70 (S.1, (va_up (va_up S.2.1 47 (upd (S.2.1 47) v2.toNatClampNeg (S.2.1 43 v2.toNatClampNeg))) 48 (upd (S.2.1 48) v2.toNatClampNeg (S.2.1 44 v2.toNatClampNeg))), S.2.2) (S.2.1 43 v2.toNatClampNeg)).bind fun r3 => (some (0, (S.1, (va_up (va_up (va_up (va_up S.2.1 47 (upd (S.2.1 47) v2.toNatClampNeg (S.2.1 43 v2.toNatClampNeg))) 48 (upd (S.2.1 48) v2.toNatClampNeg (S.2.1 44 v2.toNatClampNeg))) 49 (upd (S.2.1 49) v2.toNatClampNeg r3)) 50 (upd (S.2.1 50) v2.toNatClampNeg (S.2.1 45 v2.toNatClampNeg))), S.2.2), v1, v2 + (1 : Int32))) else none)
set_option maxRecDepth 100000 in
set_option maxHeartbeats 4000000 in
theorem I74_7_ok {sc : mS} (d : Nat) {S : mSt} {v1 v2 : Int32} {r : Nat × mSt × Int32 × Int32} (h : I74_7 S v1 v2 = some r) {Q : mR → List mE → Prop} (hc0 : r.1 = 0 → mm_ev sc mmK mmP (d + 1) 74 (7, [some (.ref 34), some (.int r.2.2.1), some (.int r.2.2.2)], [], mH r.2.1, 0, 0) Q) (hc1 : r.1 = 1 → ∀ u0 : Option Value, ∀ u1 : Option Value, ∀ u2 : Option Value, mm_ev sc mmK mmP (d + 1) 74 (70, [u0, u1, u2], [], mH r.2.1, 0, 0) Q) : mm_ev sc mmK mmP (d + 1) 74 (7, [some (.ref 34), some (.int v1), some (.int v2)], [], mH S, 0, 0) Q := by
  unfold I74_7 at h
  by_cases h1 : v1 ≤ v2
  · rw [if_pos h1] at h
    refine mm_ev.go [true, true, true] (ps := [mm_cmp .ge v2 v1]) (c1 := (70, [some (.ref 34), some (.int v1), some (.int v2)], [], mH S, 0, 0)) rfl ⟨h1, trivial⟩ ?_
    cases h
    exact hc1 rfl (some (.ref 34)) (some (.int v1)) (some (.int v2))
  · rw [if_neg h1] at h
    refine mm_ev.go [true, true, false] (ps := [¬ mm_cmp .ge v2 v1]) (c1 := (12, [some (.ref 34), some (.int v1), some (.int v2)], [], mH S, 0, 0)) rfl ⟨h1, trivial⟩ ?_
    obtain ⟨h2, h⟩ := mb_i h
    refine mm_ev.go [true, true, true, true, true, true, true, true, true, true, true, true, true, true, true, true, true, true, true, true, true, true, true, true] (ps := [mm_in v2 202, mm_in v2 202, mm_in v2 202, mm_in v2 202, mm_in v2 202]) (c1 := (48, [some (.ref 34), some (.int v1), some (.int v2)], [.int (S.2.1 43 v2.toNatClampNeg), .ref 34, .int v2, .ref 49], mH (S.1, (va_up (va_up S.2.1 47 (upd (S.2.1 47) v2.toNatClampNeg (S.2.1 43 v2.toNatClampNeg))) 48 (upd (S.2.1 48) v2.toNatClampNeg (S.2.1 44 v2.toNatClampNeg))), S.2.2), 0, 0)) rfl ⟨h2, h2, h2, h2, h2, trivial⟩ ?_
    obtain ⟨r3, h4, h⟩ := mb_b h
    refine mm_ev.call (q := mq74) (q2 := mq70) (b := (48, .invokevirtual 117, 3, 2, 2, 70, 2, 6, [813, 810, 812, 54, 40])) (as := [.ref 34, .int (S.2.1 43 v2.toNatClampNeg)]) (r := [.int v2, .ref 49]) (v := (some (.int r3))) (h1 := mH (S.1, (va_up (va_up S.2.1 47 (upd (S.2.1 47) v2.toNatClampNeg (S.2.1 43 v2.toNatClampNeg))) 48 (upd (S.2.1 48) v2.toNatClampNeg (S.2.1 44 v2.toNatClampNeg))), S.2.2)) rfl rfl rfl rfl ⟨Nat.le_of_ble_eq_true rfl, Nat.le_of_ble_eq_true rfl, Nat.le_of_ble_eq_true rfl⟩ (F70_ok d h4) ?_
    refine mm_ev.to (c := (51, [some (.ref 34), some (.int v1), some (.int v2)], [.int r3, .int v2, .ref 49], mH (S.1, (va_up (va_up S.2.1 47 (upd (S.2.1 47) v2.toNatClampNeg (S.2.1 43 v2.toNatClampNeg))) 48 (upd (S.2.1 48) v2.toNatClampNeg (S.2.1 44 v2.toNatClampNeg))), S.2.2), 0, 0)) rfl ?_
    refine mm_ev.go [true, true, true, true, true, true, true, true, true, true, true] (ps := [mm_in v2 202, mm_in v2 202, mm_in v2 202]) (c1 := (7, [some (.ref 34), some (.int v1), some (.int (v2 + (1 : Int32)))], [], mH (S.1, (va_up (va_up (va_up (va_up S.2.1 47 (upd (S.2.1 47) v2.toNatClampNeg (S.2.1 43 v2.toNatClampNeg))) 48 (upd (S.2.1 48) v2.toNatClampNeg (S.2.1 44 v2.toNatClampNeg))) 49 (upd (S.2.1 49) v2.toNatClampNeg r3)) 50 (upd (S.2.1 50) v2.toNatClampNeg (S.2.1 45 v2.toNatClampNeg))), S.2.2), 0, 0)) rfl ⟨h2, h2, h2, trivial⟩ ?_
    cases h
    exact hc0 rfl
def L74_7 : Nat → mSt → Int32 → Int32 → Option (Nat × mSt × Int32 × Int32)
  | 0, _, _, _ => none
  | n + 1, S, v1, v2 => (I74_7 S v1 v2).bind fun r => if r.1 = 0 then L74_7 n r.2.1 r.2.2.1 r.2.2.2 else some r
set_option maxRecDepth 100000 in
set_option maxHeartbeats 4000000 in
theorem L74_7_ok {sc : mS} (d : Nat) {n : Nat} {S : mSt} {v1 v2 : Int32} {r : Nat × mSt × Int32 × Int32} (h : L74_7 n S v1 v2 = some r) {Q : mR → List mE → Prop} (hc1 : r.1 = 1 → ∀ u0 : Option Value, ∀ u1 : Option Value, ∀ u2 : Option Value, mm_ev sc mmK mmP (d + 1) 74 (70, [u0, u1, u2], [], mH r.2.1, 0, 0) Q) : mm_ev sc mmK mmP (d + 1) 74 (7, [some (.ref 34), some (.int v1), some (.int v2)], [], mH S, 0, 0) Q := by
  induction n generalizing S v1 v2 with
  | zero => cases h
  | succ n ih =>
    unfold L74_7 at h
    obtain ⟨r1, h1, h⟩ := mb_b h
    by_cases h0 : r1.1 = 0
    · rw [if_pos h0] at h
      refine I74_7_ok d h1 (fun _ => ih h) (fun z => absurd z (by omega))
    · rw [if_neg h0] at h
      cases h
      exact I74_7_ok d h1 (fun z => absurd z h0) hc1
/-- SlabPatternsModel.keeps -/
def F74 (n : Nat) (S : mSt) (a0 : Int32) : Option (mSt) := (L74_7 n ((va_up S.1 29 a0), S.2.1, S.2.2) a0 (0 : Int32)).bind fun r5 => (some r5.2.1)
set_option maxRecDepth 100000 in
set_option maxHeartbeats 4000000 in
theorem F74_ok {sc : mS} (d : Nat) {n : Nat} {S : mSt} {a0 : Int32} {r : mSt} (h : F74 n S a0 = some r) : mm_ev sc mmK mmP (d + 1) 74 (0, mm_en 3 [.ref 34, .int a0], [], mH S, 0, 0) (mm_is (.inl none) (mH r)) := by
  unfold F74 at h
  refine mm_ev.to (c := (0, [some (.ref 34), some (.int a0), none], [], mH S, 0, 0)) rfl ?_
  refine mm_ev.go [true, true, true, true, true] (ps := [_, _]) (c1 := (7, [some (.ref 34), some (.int a0), some (.int (0 : Int32))], [], mH ((va_up S.1 29 a0), S.2.1, S.2.2), 0, 0)) rfl ⟨trivial, (Nat.le_of_ble_eq_true rfl), trivial⟩ ?_
  obtain ⟨r5, h6, h⟩ := mb_b h
  refine L74_7_ok d h6 ?_
  · intro h7 o1_0 o1_1 o1_2
    cases h
    exact mm_ev.ret (q := mq74) (b := (70, .return_, 1, 3, 0, 0, 0, 0, [])) rfl rfl rfl ⟨Nat.le_of_ble_eq_true rfl, Nat.le_of_ble_eq_true rfl⟩ trivial ⟨rfl, rfl⟩
def I76_2 (n : Nat) (S : mSt) (v1 v2 v3 : Int32) : Option (Nat × Int32 × Int32 × Int32) := if (S.1 29) ≤ v3 then (some (1, 0, 0, 0)) else (if v3 ≤ v1 then (if 0 ≤ v3 ∧ v3.toNatClampNeg < 202 then if v3 = v1 then (if ((S.1 17) - (S.1 21)) < (((S.2.1 48 v3.toNatClampNeg) + (S.2.1 49 v3.toNatClampNeg)) + v2) then (some (2, 0, 0, 0)) else ((F71 n S (S.2.1 48 v3.toNatClampNeg)).bind fun r6 => (if r6 = (0 : Int32) then ((F71 n S (((S.2.1 48 v3.toNatClampNeg) + (S.2.1 49 v3.toNatClampNeg)) + v2)).bind fun r9 => (if r9 = (0 : Int32) then (some (0, v1, v2, v3 + (1 : Int32))) else (some (2, 0, 0, 0)))) else (some (2, 0, 0, 0))))) else (if ((S.1 17) - (S.1 21)) < (((S.2.1 48 v3.toNatClampNeg) + (S.2.1 49 v3.toNatClampNeg)) + (0 : Int32)) then (some (2, 0, 0, 0)) else ((F71 n S (S.2.1 48 v3.toNatClampNeg)).bind fun r13 => (if r13 = (0 : Int32) then ((F71 n S (((S.2.1 48 v3.toNatClampNeg) + (S.2.1 49 v3.toNatClampNeg)) + (0 : Int32))).bind fun r16 => (if r16 = (0 : Int32) then (some (0, v1, v2, v3 + (1 : Int32))) else (some (2, 0, 0, 0)))) else (some (2, 0, 0, 0))))) else none) else (if 0 ≤ v3 ∧ v3.toNatClampNeg < 202 then if v3 = v1 then (if ((S.1 17) - (S.1 21)) < ((((S.2.1 48 v3.toNatClampNeg) + v2) + (S.2.1 49 v3.toNatClampNeg)) + v2) then (some (2, 0, 0, 0)) else ((F71 n S ((S.2.1 48 v3.toNatClampNeg) + v2)).bind fun r22 => (if r22 = (0 : Int32) then ((F71 n S ((((S.2.1 48 v3.toNatClampNeg) + v2) + (S.2.1 49 v3.toNatClampNeg)) + v2)).bind fun r25 => (if r25 = (0 : Int32) then (some (0, v1, v2, v3 + (1 : Int32))) else (some (2, 0, 0, 0)))) else (some (2, 0, 0, 0))))) else (if ((S.1 17) - (S.1 21)) < ((((S.2.1 48 v3.toNatClampNeg) + v2) + (S.2.1 49 v3.toNatClampNeg)) + (0 : Int32)) then (some (2, 0, 0, 0)) else ((F71 n S ((S.2.1 48 v3.toNatClampNeg) + v2)).bind fun r29 => (if r29 = (0 : Int32) then ((F71 n S ((((S.2.1 48 v3.toNatClampNeg) + v2) + (S.2.1 49 v3.toNatClampNeg)) + (0 : Int32))).bind fun r32 => (if r32 = (0 : Int32) then (some (0, v1, v2, v3 + (1 : Int32))) else (some (2, 0, 0, 0)))) else (some (2, 0, 0, 0))))) else none))
set_option maxRecDepth 100000 in
set_option maxHeartbeats 4000000 in
theorem I76_2_ok {sc : mS} (d : Nat) {n : Nat} {S : mSt} {v1 v2 v3 : Int32} {r : Nat × Int32 × Int32 × Int32} (h : I76_2 n S v1 v2 v3 = some r) (o4 : Option Value) (o5 : Option Value) {Q : mR → List mE → Prop} (hc0 : r.1 = 0 → ∀ u4 : Option Value, ∀ u5 : Option Value, mm_ev sc mmK mmP (d + 1) 76 (2, [some (.ref 34), some (.int r.2.1), some (.int r.2.2.1), some (.int r.2.2.2), u4, u5], [], mH S, 0, 0) Q) (hc1 : r.1 = 1 → ∀ u0 : Option Value, ∀ u1 : Option Value, ∀ u2 : Option Value, ∀ u3 : Option Value, ∀ u4 : Option Value, ∀ u5 : Option Value, mm_ev sc mmK mmP (d + 1) 76 (96, [u0, u1, u2, u3, u4, u5], [], mH S, 0, 0) Q) (hc2 : r.1 = 2 → ∀ u0 : Option Value, ∀ u1 : Option Value, ∀ u2 : Option Value, ∀ u3 : Option Value, ∀ u4 : Option Value, ∀ u5 : Option Value, mm_ev sc mmK mmP (d + 1) 76 (88, [u0, u1, u2, u3, u4, u5], [], mH S, 0, 0) Q) : mm_ev sc mmK mmP (d + 1) 76 (2, [some (.ref 34), some (.int v1), some (.int v2), some (.int v3), o4, o5], [], mH S, 0, 0) Q := by
  unfold I76_2 at h
  by_cases h1 : (S.1 29) ≤ v3
  · rw [if_pos h1] at h
    refine mm_ev.go [true, true, true, true] (ps := [mm_cmp .ge v3 (S.1 29)]) (c1 := (96, [some (.ref 34), some (.int v1), some (.int v2), some (.int v3), o4, o5], [], mH S, 0, 0)) rfl ⟨h1, trivial⟩ ?_
    cases h
    exact hc1 rfl (some (.ref 34)) (some (.int v1)) (some (.int v2)) (some (.int v3)) o4 o5
  · rw [if_neg h1] at h
    refine mm_ev.go [true, true, true, false] (ps := [¬ mm_cmp .ge v3 (S.1 29)]) (c1 := (10, [some (.ref 34), some (.int v1), some (.int v2), some (.int v3), o4, o5], [], mH S, 0, 0)) rfl ⟨h1, trivial⟩ ?_
    by_cases h2 : v3 ≤ v1
    · rw [if_pos h2] at h
      refine mm_ev.go [true, true, true] (ps := [mm_cmp .le v3 v1]) (c1 := (26, [some (.ref 34), some (.int v1), some (.int v2), some (.int v3), o4, o5], [], mH S, 0, 0)) rfl ⟨h2, trivial⟩ ?_
      obtain ⟨h3, h⟩ := mb_i h
      by_cases h4 : v3 = v1
      · rw [if_pos h4] at h
        refine mm_ev.go [true, true, true, true, true, true, true, true, true, true, true, true, true, false] (ps := [mm_in v3 202, mm_in v3 202, ¬ mm_cmp .ne v3 v1]) (c1 := (48, [some (.ref 34), some (.int v1), some (.int v2), some (.int v3), some (.int (S.2.1 48 v3.toNatClampNeg)), o5], [.int ((S.2.1 48 v3.toNatClampNeg) + (S.2.1 49 v3.toNatClampNeg))], mH S, 0, 0)) rfl ⟨h3, h3, (fun z => z h4), trivial⟩ ?_
        by_cases h5 : ((S.1 17) - (S.1 21)) < (((S.2.1 48 v3.toNatClampNeg) + (S.2.1 49 v3.toNatClampNeg)) + v2)
        · rw [if_pos h5] at h
          refine mm_ev.go [true, true, true, true, true, true, true, true, true, true, true] (ps := [mm_cmp .gt (((S.2.1 48 v3.toNatClampNeg) + (S.2.1 49 v3.toNatClampNeg)) + v2) ((S.1 17) - (S.1 21))]) (c1 := (88, [some (.ref 34), some (.int v1), some (.int v2), some (.int v3), some (.int (S.2.1 48 v3.toNatClampNeg)), some (.int (((S.2.1 48 v3.toNatClampNeg) + (S.2.1 49 v3.toNatClampNeg)) + v2))], [], mH S, 0, 0)) rfl ⟨h5, trivial⟩ ?_
          cases h
          exact hc2 rfl (some (.ref 34)) (some (.int v1)) (some (.int v2)) (some (.int v3)) (some (.int (S.2.1 48 v3.toNatClampNeg))) (some (.int (((S.2.1 48 v3.toNatClampNeg) + (S.2.1 49 v3.toNatClampNeg)) + v2)))
        · rw [if_neg h5] at h
          refine mm_ev.go [true, true, true, true, true, true, true, true, true, true, false] (ps := [¬ mm_cmp .gt (((S.2.1 48 v3.toNatClampNeg) + (S.2.1 49 v3.toNatClampNeg)) + v2) ((S.1 17) - (S.1 21))]) (c1 := (70, [some (.ref 34), some (.int v1), some (.int v2), some (.int v3), some (.int (S.2.1 48 v3.toNatClampNeg)), some (.int (((S.2.1 48 v3.toNatClampNeg) + (S.2.1 49 v3.toNatClampNeg)) + v2))], [], mH S, 0, 0)) rfl ⟨h5, trivial⟩ ?_
          refine mm_ev.go [true, true] (ps := []) (c1 := (73, [some (.ref 34), some (.int v1), some (.int v2), some (.int v3), some (.int (S.2.1 48 v3.toNatClampNeg)), some (.int (((S.2.1 48 v3.toNatClampNeg) + (S.2.1 49 v3.toNatClampNeg)) + v2))], [.int (S.2.1 48 v3.toNatClampNeg), .ref 34], mH S, 0, 0)) rfl trivial ?_
          obtain ⟨r6, h7, h⟩ := mb_b h
          refine mm_ev.call (q := mq76) (q2 := mq71) (b := (73, .invokevirtual 120, 3, 2, 2, 71, 2, 6, [817, 814, 816, 54, 41])) (as := [.ref 34, .int (S.2.1 48 v3.toNatClampNeg)]) (r := []) (v := (some (.int r6))) (h1 := mH S) rfl rfl rfl rfl ⟨Nat.le_of_ble_eq_true rfl, Nat.le_of_ble_eq_true rfl, Nat.le_of_ble_eq_true rfl⟩ (F71_ok d h7) ?_
          refine mm_ev.to (c := (76, [some (.ref 34), some (.int v1), some (.int v2), some (.int v3), some (.int (S.2.1 48 v3.toNatClampNeg)), some (.int (((S.2.1 48 v3.toNatClampNeg) + (S.2.1 49 v3.toNatClampNeg)) + v2))], [.int r6], mH S, 0, 0)) rfl ?_
          by_cases h8 : r6 = (0 : Int32)
          · rw [if_pos h8] at h
            refine mm_ev.go [false] (ps := [¬ mm_cmp .ne r6 (0 : Int32)]) (c1 := (79, [some (.ref 34), some (.int v1), some (.int v2), some (.int v3), some (.int (S.2.1 48 v3.toNatClampNeg)), some (.int (((S.2.1 48 v3.toNatClampNeg) + (S.2.1 49 v3.toNatClampNeg)) + v2))], [], mH S, 0, 0)) rfl ⟨(fun z => z h8), trivial⟩ ?_
            refine mm_ev.go [true, true] (ps := []) (c1 := (82, [some (.ref 34), some (.int v1), some (.int v2), some (.int v3), some (.int (S.2.1 48 v3.toNatClampNeg)), some (.int (((S.2.1 48 v3.toNatClampNeg) + (S.2.1 49 v3.toNatClampNeg)) + v2))], [.int (((S.2.1 48 v3.toNatClampNeg) + (S.2.1 49 v3.toNatClampNeg)) + v2), .ref 34], mH S, 0, 0)) rfl trivial ?_
            obtain ⟨r9, h10, h⟩ := mb_b h
            refine mm_ev.call (q := mq76) (q2 := mq71) (b := (82, .invokevirtual 120, 3, 2, 2, 71, 2, 6, [817, 814, 816, 54, 41])) (as := [.ref 34, .int (((S.2.1 48 v3.toNatClampNeg) + (S.2.1 49 v3.toNatClampNeg)) + v2)]) (r := []) (v := (some (.int r9))) (h1 := mH S) rfl rfl rfl rfl ⟨Nat.le_of_ble_eq_true rfl, Nat.le_of_ble_eq_true rfl, Nat.le_of_ble_eq_true rfl⟩ (F71_ok d h10) ?_
            refine mm_ev.to (c := (85, [some (.ref 34), some (.int v1), some (.int v2), some (.int v3), some (.int (S.2.1 48 v3.toNatClampNeg)), some (.int (((S.2.1 48 v3.toNatClampNeg) + (S.2.1 49 v3.toNatClampNeg)) + v2))], [.int r9], mH S, 0, 0)) rfl ?_
            by_cases h11 : r9 = (0 : Int32)
            · rw [if_pos h11] at h
              refine mm_ev.go [true] (ps := [mm_cmp .eq r9 (0 : Int32)]) (c1 := (90, [some (.ref 34), some (.int v1), some (.int v2), some (.int v3), some (.int (S.2.1 48 v3.toNatClampNeg)), some (.int (((S.2.1 48 v3.toNatClampNeg) + (S.2.1 49 v3.toNatClampNeg)) + v2))], [], mH S, 0, 0)) rfl ⟨h11, trivial⟩ ?_
              refine mm_ev.go [true, true] (ps := []) (c1 := (2, [some (.ref 34), some (.int v1), some (.int v2), some (.int (v3 + (1 : Int32))), some (.int (S.2.1 48 v3.toNatClampNeg)), some (.int (((S.2.1 48 v3.toNatClampNeg) + (S.2.1 49 v3.toNatClampNeg)) + v2))], [], mH S, 0, 0)) rfl trivial ?_
              cases h
              exact hc0 rfl (some (.int (S.2.1 48 v3.toNatClampNeg))) (some (.int (((S.2.1 48 v3.toNatClampNeg) + (S.2.1 49 v3.toNatClampNeg)) + v2)))
            · rw [if_neg h11] at h
              refine mm_ev.go [false] (ps := [¬ mm_cmp .eq r9 (0 : Int32)]) (c1 := (88, [some (.ref 34), some (.int v1), some (.int v2), some (.int v3), some (.int (S.2.1 48 v3.toNatClampNeg)), some (.int (((S.2.1 48 v3.toNatClampNeg) + (S.2.1 49 v3.toNatClampNeg)) + v2))], [], mH S, 0, 0)) rfl ⟨h11, trivial⟩ ?_
              cases h
              exact hc2 rfl (some (.ref 34)) (some (.int v1)) (some (.int v2)) (some (.int v3)) (some (.int (S.2.1 48 v3.toNatClampNeg))) (some (.int (((S.2.1 48 v3.toNatClampNeg) + (S.2.1 49 v3.toNatClampNeg)) + v2)))
          · rw [if_neg h8] at h
            refine mm_ev.go [true] (ps := [mm_cmp .ne r6 (0 : Int32)]) (c1 := (88, [some (.ref 34), some (.int v1), some (.int v2), some (.int v3), some (.int (S.2.1 48 v3.toNatClampNeg)), some (.int (((S.2.1 48 v3.toNatClampNeg) + (S.2.1 49 v3.toNatClampNeg)) + v2))], [], mH S, 0, 0)) rfl ⟨h8, trivial⟩ ?_
            cases h
            exact hc2 rfl (some (.ref 34)) (some (.int v1)) (some (.int v2)) (some (.int v3)) (some (.int (S.2.1 48 v3.toNatClampNeg))) (some (.int (((S.2.1 48 v3.toNatClampNeg) + (S.2.1 49 v3.toNatClampNeg)) + v2)))
      · rw [if_neg h4] at h
        refine mm_ev.go [true, true, true, true, true, true, true, true, true, true, true, true, true, true] (ps := [mm_in v3 202, mm_in v3 202, mm_cmp .ne v3 v1]) (c1 := (52, [some (.ref 34), some (.int v1), some (.int v2), some (.int v3), some (.int (S.2.1 48 v3.toNatClampNeg)), o5], [.int ((S.2.1 48 v3.toNatClampNeg) + (S.2.1 49 v3.toNatClampNeg))], mH S, 0, 0)) rfl ⟨h3, h3, h4, trivial⟩ ?_
        by_cases h12 : ((S.1 17) - (S.1 21)) < (((S.2.1 48 v3.toNatClampNeg) + (S.2.1 49 v3.toNatClampNeg)) + (0 : Int32))
        · rw [if_pos h12] at h
          refine mm_ev.go [true, true, true, true, true, true, true, true, true, true] (ps := [mm_cmp .gt (((S.2.1 48 v3.toNatClampNeg) + (S.2.1 49 v3.toNatClampNeg)) + (0 : Int32)) ((S.1 17) - (S.1 21))]) (c1 := (88, [some (.ref 34), some (.int v1), some (.int v2), some (.int v3), some (.int (S.2.1 48 v3.toNatClampNeg)), some (.int (((S.2.1 48 v3.toNatClampNeg) + (S.2.1 49 v3.toNatClampNeg)) + (0 : Int32)))], [], mH S, 0, 0)) rfl ⟨h12, trivial⟩ ?_
          cases h
          exact hc2 rfl (some (.ref 34)) (some (.int v1)) (some (.int v2)) (some (.int v3)) (some (.int (S.2.1 48 v3.toNatClampNeg))) (some (.int (((S.2.1 48 v3.toNatClampNeg) + (S.2.1 49 v3.toNatClampNeg)) + (0 : Int32))))
        · rw [if_neg h12] at h
          refine mm_ev.go [true, true, true, true, true, true, true, true, true, false] (ps := [¬ mm_cmp .gt (((S.2.1 48 v3.toNatClampNeg) + (S.2.1 49 v3.toNatClampNeg)) + (0 : Int32)) ((S.1 17) - (S.1 21))]) (c1 := (70, [some (.ref 34), some (.int v1), some (.int v2), some (.int v3), some (.int (S.2.1 48 v3.toNatClampNeg)), some (.int (((S.2.1 48 v3.toNatClampNeg) + (S.2.1 49 v3.toNatClampNeg)) + (0 : Int32)))], [], mH S, 0, 0)) rfl ⟨h12, trivial⟩ ?_
          refine mm_ev.go [true, true] (ps := []) (c1 := (73, [some (.ref 34), some (.int v1), some (.int v2), some (.int v3), some (.int (S.2.1 48 v3.toNatClampNeg)), some (.int (((S.2.1 48 v3.toNatClampNeg) + (S.2.1 49 v3.toNatClampNeg)) + (0 : Int32)))], [.int (S.2.1 48 v3.toNatClampNeg), .ref 34], mH S, 0, 0)) rfl trivial ?_
          obtain ⟨r13, h14, h⟩ := mb_b h
          refine mm_ev.call (q := mq76) (q2 := mq71) (b := (73, .invokevirtual 120, 3, 2, 2, 71, 2, 6, [817, 814, 816, 54, 41])) (as := [.ref 34, .int (S.2.1 48 v3.toNatClampNeg)]) (r := []) (v := (some (.int r13))) (h1 := mH S) rfl rfl rfl rfl ⟨Nat.le_of_ble_eq_true rfl, Nat.le_of_ble_eq_true rfl, Nat.le_of_ble_eq_true rfl⟩ (F71_ok d h14) ?_
          refine mm_ev.to (c := (76, [some (.ref 34), some (.int v1), some (.int v2), some (.int v3), some (.int (S.2.1 48 v3.toNatClampNeg)), some (.int (((S.2.1 48 v3.toNatClampNeg) + (S.2.1 49 v3.toNatClampNeg)) + (0 : Int32)))], [.int r13], mH S, 0, 0)) rfl ?_
          by_cases h15 : r13 = (0 : Int32)
          · rw [if_pos h15] at h
            refine mm_ev.go [false] (ps := [¬ mm_cmp .ne r13 (0 : Int32)]) (c1 := (79, [some (.ref 34), some (.int v1), some (.int v2), some (.int v3), some (.int (S.2.1 48 v3.toNatClampNeg)), some (.int (((S.2.1 48 v3.toNatClampNeg) + (S.2.1 49 v3.toNatClampNeg)) + (0 : Int32)))], [], mH S, 0, 0)) rfl ⟨(fun z => z h15), trivial⟩ ?_
            refine mm_ev.go [true, true] (ps := []) (c1 := (82, [some (.ref 34), some (.int v1), some (.int v2), some (.int v3), some (.int (S.2.1 48 v3.toNatClampNeg)), some (.int (((S.2.1 48 v3.toNatClampNeg) + (S.2.1 49 v3.toNatClampNeg)) + (0 : Int32)))], [.int (((S.2.1 48 v3.toNatClampNeg) + (S.2.1 49 v3.toNatClampNeg)) + (0 : Int32)), .ref 34], mH S, 0, 0)) rfl trivial ?_
            obtain ⟨r16, h17, h⟩ := mb_b h
            refine mm_ev.call (q := mq76) (q2 := mq71) (b := (82, .invokevirtual 120, 3, 2, 2, 71, 2, 6, [817, 814, 816, 54, 41])) (as := [.ref 34, .int (((S.2.1 48 v3.toNatClampNeg) + (S.2.1 49 v3.toNatClampNeg)) + (0 : Int32))]) (r := []) (v := (some (.int r16))) (h1 := mH S) rfl rfl rfl rfl ⟨Nat.le_of_ble_eq_true rfl, Nat.le_of_ble_eq_true rfl, Nat.le_of_ble_eq_true rfl⟩ (F71_ok d h17) ?_
            refine mm_ev.to (c := (85, [some (.ref 34), some (.int v1), some (.int v2), some (.int v3), some (.int (S.2.1 48 v3.toNatClampNeg)), some (.int (((S.2.1 48 v3.toNatClampNeg) + (S.2.1 49 v3.toNatClampNeg)) + (0 : Int32)))], [.int r16], mH S, 0, 0)) rfl ?_
            by_cases h18 : r16 = (0 : Int32)
            · rw [if_pos h18] at h
              refine mm_ev.go [true] (ps := [mm_cmp .eq r16 (0 : Int32)]) (c1 := (90, [some (.ref 34), some (.int v1), some (.int v2), some (.int v3), some (.int (S.2.1 48 v3.toNatClampNeg)), some (.int (((S.2.1 48 v3.toNatClampNeg) + (S.2.1 49 v3.toNatClampNeg)) + (0 : Int32)))], [], mH S, 0, 0)) rfl ⟨h18, trivial⟩ ?_
              refine mm_ev.go [true, true] (ps := []) (c1 := (2, [some (.ref 34), some (.int v1), some (.int v2), some (.int (v3 + (1 : Int32))), some (.int (S.2.1 48 v3.toNatClampNeg)), some (.int (((S.2.1 48 v3.toNatClampNeg) + (S.2.1 49 v3.toNatClampNeg)) + (0 : Int32)))], [], mH S, 0, 0)) rfl trivial ?_
              cases h
              exact hc0 rfl (some (.int (S.2.1 48 v3.toNatClampNeg))) (some (.int (((S.2.1 48 v3.toNatClampNeg) + (S.2.1 49 v3.toNatClampNeg)) + (0 : Int32))))
            · rw [if_neg h18] at h
              refine mm_ev.go [false] (ps := [¬ mm_cmp .eq r16 (0 : Int32)]) (c1 := (88, [some (.ref 34), some (.int v1), some (.int v2), some (.int v3), some (.int (S.2.1 48 v3.toNatClampNeg)), some (.int (((S.2.1 48 v3.toNatClampNeg) + (S.2.1 49 v3.toNatClampNeg)) + (0 : Int32)))], [], mH S, 0, 0)) rfl ⟨h18, trivial⟩ ?_
              cases h
              exact hc2 rfl (some (.ref 34)) (some (.int v1)) (some (.int v2)) (some (.int v3)) (some (.int (S.2.1 48 v3.toNatClampNeg))) (some (.int (((S.2.1 48 v3.toNatClampNeg) + (S.2.1 49 v3.toNatClampNeg)) + (0 : Int32))))
          · rw [if_neg h15] at h
            refine mm_ev.go [true] (ps := [mm_cmp .ne r13 (0 : Int32)]) (c1 := (88, [some (.ref 34), some (.int v1), some (.int v2), some (.int v3), some (.int (S.2.1 48 v3.toNatClampNeg)), some (.int (((S.2.1 48 v3.toNatClampNeg) + (S.2.1 49 v3.toNatClampNeg)) + (0 : Int32)))], [], mH S, 0, 0)) rfl ⟨h15, trivial⟩ ?_
            cases h
            exact hc2 rfl (some (.ref 34)) (some (.int v1)) (some (.int v2)) (some (.int v3)) (some (.int (S.2.1 48 v3.toNatClampNeg))) (some (.int (((S.2.1 48 v3.toNatClampNeg) + (S.2.1 49 v3.toNatClampNeg)) + (0 : Int32))))
    · rw [if_neg h2] at h
      refine mm_ev.go [true, true, false] (ps := [¬ mm_cmp .le v3 v1]) (c1 := (15, [some (.ref 34), some (.int v1), some (.int v2), some (.int v3), o4, o5], [], mH S, 0, 0)) rfl ⟨h2, trivial⟩ ?_
      obtain ⟨h19, h⟩ := mb_i h
      by_cases h20 : v3 = v1
      · rw [if_pos h20] at h
        refine mm_ev.go [true, true, true, true, true, true, true, true, true, true, true, true, true, true, true, true, false] (ps := [mm_in v3 202, mm_in v3 202, ¬ mm_cmp .ne v3 v1]) (c1 := (48, [some (.ref 34), some (.int v1), some (.int v2), some (.int v3), some (.int ((S.2.1 48 v3.toNatClampNeg) + v2)), o5], [.int (((S.2.1 48 v3.toNatClampNeg) + v2) + (S.2.1 49 v3.toNatClampNeg))], mH S, 0, 0)) rfl ⟨h19, h19, (fun z => z h20), trivial⟩ ?_
        by_cases h21 : ((S.1 17) - (S.1 21)) < ((((S.2.1 48 v3.toNatClampNeg) + v2) + (S.2.1 49 v3.toNatClampNeg)) + v2)
        · rw [if_pos h21] at h
          refine mm_ev.go [true, true, true, true, true, true, true, true, true, true, true] (ps := [mm_cmp .gt ((((S.2.1 48 v3.toNatClampNeg) + v2) + (S.2.1 49 v3.toNatClampNeg)) + v2) ((S.1 17) - (S.1 21))]) (c1 := (88, [some (.ref 34), some (.int v1), some (.int v2), some (.int v3), some (.int ((S.2.1 48 v3.toNatClampNeg) + v2)), some (.int ((((S.2.1 48 v3.toNatClampNeg) + v2) + (S.2.1 49 v3.toNatClampNeg)) + v2))], [], mH S, 0, 0)) rfl ⟨h21, trivial⟩ ?_
          cases h
          exact hc2 rfl (some (.ref 34)) (some (.int v1)) (some (.int v2)) (some (.int v3)) (some (.int ((S.2.1 48 v3.toNatClampNeg) + v2))) (some (.int ((((S.2.1 48 v3.toNatClampNeg) + v2) + (S.2.1 49 v3.toNatClampNeg)) + v2)))
        · rw [if_neg h21] at h
          refine mm_ev.go [true, true, true, true, true, true, true, true, true, true, false] (ps := [¬ mm_cmp .gt ((((S.2.1 48 v3.toNatClampNeg) + v2) + (S.2.1 49 v3.toNatClampNeg)) + v2) ((S.1 17) - (S.1 21))]) (c1 := (70, [some (.ref 34), some (.int v1), some (.int v2), some (.int v3), some (.int ((S.2.1 48 v3.toNatClampNeg) + v2)), some (.int ((((S.2.1 48 v3.toNatClampNeg) + v2) + (S.2.1 49 v3.toNatClampNeg)) + v2))], [], mH S, 0, 0)) rfl ⟨h21, trivial⟩ ?_
          refine mm_ev.go [true, true] (ps := []) (c1 := (73, [some (.ref 34), some (.int v1), some (.int v2), some (.int v3), some (.int ((S.2.1 48 v3.toNatClampNeg) + v2)), some (.int ((((S.2.1 48 v3.toNatClampNeg) + v2) + (S.2.1 49 v3.toNatClampNeg)) + v2))], [.int ((S.2.1 48 v3.toNatClampNeg) + v2), .ref 34], mH S, 0, 0)) rfl trivial ?_
          obtain ⟨r22, h23, h⟩ := mb_b h
          refine mm_ev.call (q := mq76) (q2 := mq71) (b := (73, .invokevirtual 120, 3, 2, 2, 71, 2, 6, [817, 814, 816, 54, 41])) (as := [.ref 34, .int ((S.2.1 48 v3.toNatClampNeg) + v2)]) (r := []) (v := (some (.int r22))) (h1 := mH S) rfl rfl rfl rfl ⟨Nat.le_of_ble_eq_true rfl, Nat.le_of_ble_eq_true rfl, Nat.le_of_ble_eq_true rfl⟩ (F71_ok d h23) ?_
          refine mm_ev.to (c := (76, [some (.ref 34), some (.int v1), some (.int v2), some (.int v3), some (.int ((S.2.1 48 v3.toNatClampNeg) + v2)), some (.int ((((S.2.1 48 v3.toNatClampNeg) + v2) + (S.2.1 49 v3.toNatClampNeg)) + v2))], [.int r22], mH S, 0, 0)) rfl ?_
          by_cases h24 : r22 = (0 : Int32)
          · rw [if_pos h24] at h
            refine mm_ev.go [false] (ps := [¬ mm_cmp .ne r22 (0 : Int32)]) (c1 := (79, [some (.ref 34), some (.int v1), some (.int v2), some (.int v3), some (.int ((S.2.1 48 v3.toNatClampNeg) + v2)), some (.int ((((S.2.1 48 v3.toNatClampNeg) + v2) + (S.2.1 49 v3.toNatClampNeg)) + v2))], [], mH S, 0, 0)) rfl ⟨(fun z => z h24), trivial⟩ ?_
            refine mm_ev.go [true, true] (ps := []) (c1 := (82, [some (.ref 34), some (.int v1), some (.int v2), some (.int v3), some (.int ((S.2.1 48 v3.toNatClampNeg) + v2)), some (.int ((((S.2.1 48 v3.toNatClampNeg) + v2) + (S.2.1 49 v3.toNatClampNeg)) + v2))], [.int ((((S.2.1 48 v3.toNatClampNeg) + v2) + (S.2.1 49 v3.toNatClampNeg)) + v2), .ref 34], mH S, 0, 0)) rfl trivial ?_
            obtain ⟨r25, h26, h⟩ := mb_b h
            refine mm_ev.call (q := mq76) (q2 := mq71) (b := (82, .invokevirtual 120, 3, 2, 2, 71, 2, 6, [817, 814, 816, 54, 41])) (as := [.ref 34, .int ((((S.2.1 48 v3.toNatClampNeg) + v2) + (S.2.1 49 v3.toNatClampNeg)) + v2)]) (r := []) (v := (some (.int r25))) (h1 := mH S) rfl rfl rfl rfl ⟨Nat.le_of_ble_eq_true rfl, Nat.le_of_ble_eq_true rfl, Nat.le_of_ble_eq_true rfl⟩ (F71_ok d h26) ?_
            refine mm_ev.to (c := (85, [some (.ref 34), some (.int v1), some (.int v2), some (.int v3), some (.int ((S.2.1 48 v3.toNatClampNeg) + v2)), some (.int ((((S.2.1 48 v3.toNatClampNeg) + v2) + (S.2.1 49 v3.toNatClampNeg)) + v2))], [.int r25], mH S, 0, 0)) rfl ?_
            by_cases h27 : r25 = (0 : Int32)
            · rw [if_pos h27] at h
              refine mm_ev.go [true] (ps := [mm_cmp .eq r25 (0 : Int32)]) (c1 := (90, [some (.ref 34), some (.int v1), some (.int v2), some (.int v3), some (.int ((S.2.1 48 v3.toNatClampNeg) + v2)), some (.int ((((S.2.1 48 v3.toNatClampNeg) + v2) + (S.2.1 49 v3.toNatClampNeg)) + v2))], [], mH S, 0, 0)) rfl ⟨h27, trivial⟩ ?_
              refine mm_ev.go [true, true] (ps := []) (c1 := (2, [some (.ref 34), some (.int v1), some (.int v2), some (.int (v3 + (1 : Int32))), some (.int ((S.2.1 48 v3.toNatClampNeg) + v2)), some (.int ((((S.2.1 48 v3.toNatClampNeg) + v2) + (S.2.1 49 v3.toNatClampNeg)) + v2))], [], mH S, 0, 0)) rfl trivial ?_
              cases h
              exact hc0 rfl (some (.int ((S.2.1 48 v3.toNatClampNeg) + v2))) (some (.int ((((S.2.1 48 v3.toNatClampNeg) + v2) + (S.2.1 49 v3.toNatClampNeg)) + v2)))
            · rw [if_neg h27] at h
              refine mm_ev.go [false] (ps := [¬ mm_cmp .eq r25 (0 : Int32)]) (c1 := (88, [some (.ref 34), some (.int v1), some (.int v2), some (.int v3), some (.int ((S.2.1 48 v3.toNatClampNeg) + v2)), some (.int ((((S.2.1 48 v3.toNatClampNeg) + v2) + (S.2.1 49 v3.toNatClampNeg)) + v2))], [], mH S, 0, 0)) rfl ⟨h27, trivial⟩ ?_
              cases h
              exact hc2 rfl (some (.ref 34)) (some (.int v1)) (some (.int v2)) (some (.int v3)) (some (.int ((S.2.1 48 v3.toNatClampNeg) + v2))) (some (.int ((((S.2.1 48 v3.toNatClampNeg) + v2) + (S.2.1 49 v3.toNatClampNeg)) + v2)))
          · rw [if_neg h24] at h
            refine mm_ev.go [true] (ps := [mm_cmp .ne r22 (0 : Int32)]) (c1 := (88, [some (.ref 34), some (.int v1), some (.int v2), some (.int v3), some (.int ((S.2.1 48 v3.toNatClampNeg) + v2)), some (.int ((((S.2.1 48 v3.toNatClampNeg) + v2) + (S.2.1 49 v3.toNatClampNeg)) + v2))], [], mH S, 0, 0)) rfl ⟨h24, trivial⟩ ?_
            cases h
            exact hc2 rfl (some (.ref 34)) (some (.int v1)) (some (.int v2)) (some (.int v3)) (some (.int ((S.2.1 48 v3.toNatClampNeg) + v2))) (some (.int ((((S.2.1 48 v3.toNatClampNeg) + v2) + (S.2.1 49 v3.toNatClampNeg)) + v2)))
      · rw [if_neg h20] at h
        refine mm_ev.go [true, true, true, true, true, true, true, true, true, true, true, true, true, true, true, true, true] (ps := [mm_in v3 202, mm_in v3 202, mm_cmp .ne v3 v1]) (c1 := (52, [some (.ref 34), some (.int v1), some (.int v2), some (.int v3), some (.int ((S.2.1 48 v3.toNatClampNeg) + v2)), o5], [.int (((S.2.1 48 v3.toNatClampNeg) + v2) + (S.2.1 49 v3.toNatClampNeg))], mH S, 0, 0)) rfl ⟨h19, h19, h20, trivial⟩ ?_
        by_cases h28 : ((S.1 17) - (S.1 21)) < ((((S.2.1 48 v3.toNatClampNeg) + v2) + (S.2.1 49 v3.toNatClampNeg)) + (0 : Int32))
        · rw [if_pos h28] at h
          refine mm_ev.go [true, true, true, true, true, true, true, true, true, true] (ps := [mm_cmp .gt ((((S.2.1 48 v3.toNatClampNeg) + v2) + (S.2.1 49 v3.toNatClampNeg)) + (0 : Int32)) ((S.1 17) - (S.1 21))]) (c1 := (88, [some (.ref 34), some (.int v1), some (.int v2), some (.int v3), some (.int ((S.2.1 48 v3.toNatClampNeg) + v2)), some (.int ((((S.2.1 48 v3.toNatClampNeg) + v2) + (S.2.1 49 v3.toNatClampNeg)) + (0 : Int32)))], [], mH S, 0, 0)) rfl ⟨h28, trivial⟩ ?_
          cases h
          exact hc2 rfl (some (.ref 34)) (some (.int v1)) (some (.int v2)) (some (.int v3)) (some (.int ((S.2.1 48 v3.toNatClampNeg) + v2))) (some (.int ((((S.2.1 48 v3.toNatClampNeg) + v2) + (S.2.1 49 v3.toNatClampNeg)) + (0 : Int32))))
        · rw [if_neg h28] at h
          refine mm_ev.go [true, true, true, true, true, true, true, true, true, false] (ps := [¬ mm_cmp .gt ((((S.2.1 48 v3.toNatClampNeg) + v2) + (S.2.1 49 v3.toNatClampNeg)) + (0 : Int32)) ((S.1 17) - (S.1 21))]) (c1 := (70, [some (.ref 34), some (.int v1), some (.int v2), some (.int v3), some (.int ((S.2.1 48 v3.toNatClampNeg) + v2)), some (.int ((((S.2.1 48 v3.toNatClampNeg) + v2) + (S.2.1 49 v3.toNatClampNeg)) + (0 : Int32)))], [], mH S, 0, 0)) rfl ⟨h28, trivial⟩ ?_
          refine mm_ev.go [true, true] (ps := []) (c1 := (73, [some (.ref 34), some (.int v1), some (.int v2), some (.int v3), some (.int ((S.2.1 48 v3.toNatClampNeg) + v2)), some (.int ((((S.2.1 48 v3.toNatClampNeg) + v2) + (S.2.1 49 v3.toNatClampNeg)) + (0 : Int32)))], [.int ((S.2.1 48 v3.toNatClampNeg) + v2), .ref 34], mH S, 0, 0)) rfl trivial ?_
          obtain ⟨r29, h30, h⟩ := mb_b h
          refine mm_ev.call (q := mq76) (q2 := mq71) (b := (73, .invokevirtual 120, 3, 2, 2, 71, 2, 6, [817, 814, 816, 54, 41])) (as := [.ref 34, .int ((S.2.1 48 v3.toNatClampNeg) + v2)]) (r := []) (v := (some (.int r29))) (h1 := mH S) rfl rfl rfl rfl ⟨Nat.le_of_ble_eq_true rfl, Nat.le_of_ble_eq_true rfl, Nat.le_of_ble_eq_true rfl⟩ (F71_ok d h30) ?_
          refine mm_ev.to (c := (76, [some (.ref 34), some (.int v1), some (.int v2), some (.int v3), some (.int ((S.2.1 48 v3.toNatClampNeg) + v2)), some (.int ((((S.2.1 48 v3.toNatClampNeg) + v2) + (S.2.1 49 v3.toNatClampNeg)) + (0 : Int32)))], [.int r29], mH S, 0, 0)) rfl ?_
          by_cases h31 : r29 = (0 : Int32)
          · rw [if_pos h31] at h
            refine mm_ev.go [false] (ps := [¬ mm_cmp .ne r29 (0 : Int32)]) (c1 := (79, [some (.ref 34), some (.int v1), some (.int v2), some (.int v3), some (.int ((S.2.1 48 v3.toNatClampNeg) + v2)), some (.int ((((S.2.1 48 v3.toNatClampNeg) + v2) + (S.2.1 49 v3.toNatClampNeg)) + (0 : Int32)))], [], mH S, 0, 0)) rfl ⟨(fun z => z h31), trivial⟩ ?_
            refine mm_ev.go [true, true] (ps := []) (c1 := (82, [some (.ref 34), some (.int v1), some (.int v2), some (.int v3), some (.int ((S.2.1 48 v3.toNatClampNeg) + v2)), some (.int ((((S.2.1 48 v3.toNatClampNeg) + v2) + (S.2.1 49 v3.toNatClampNeg)) + (0 : Int32)))], [.int ((((S.2.1 48 v3.toNatClampNeg) + v2) + (S.2.1 49 v3.toNatClampNeg)) + (0 : Int32)), .ref 34], mH S, 0, 0)) rfl trivial ?_
            obtain ⟨r32, h33, h⟩ := mb_b h
            refine mm_ev.call (q := mq76) (q2 := mq71) (b := (82, .invokevirtual 120, 3, 2, 2, 71, 2, 6, [817, 814, 816, 54, 41])) (as := [.ref 34, .int ((((S.2.1 48 v3.toNatClampNeg) + v2) + (S.2.1 49 v3.toNatClampNeg)) + (0 : Int32))]) (r := []) (v := (some (.int r32))) (h1 := mH S) rfl rfl rfl rfl ⟨Nat.le_of_ble_eq_true rfl, Nat.le_of_ble_eq_true rfl, Nat.le_of_ble_eq_true rfl⟩ (F71_ok d h33) ?_
            refine mm_ev.to (c := (85, [some (.ref 34), some (.int v1), some (.int v2), some (.int v3), some (.int ((S.2.1 48 v3.toNatClampNeg) + v2)), some (.int ((((S.2.1 48 v3.toNatClampNeg) + v2) + (S.2.1 49 v3.toNatClampNeg)) + (0 : Int32)))], [.int r32], mH S, 0, 0)) rfl ?_
            by_cases h34 : r32 = (0 : Int32)
            · rw [if_pos h34] at h
              refine mm_ev.go [true] (ps := [mm_cmp .eq r32 (0 : Int32)]) (c1 := (90, [some (.ref 34), some (.int v1), some (.int v2), some (.int v3), some (.int ((S.2.1 48 v3.toNatClampNeg) + v2)), some (.int ((((S.2.1 48 v3.toNatClampNeg) + v2) + (S.2.1 49 v3.toNatClampNeg)) + (0 : Int32)))], [], mH S, 0, 0)) rfl ⟨h34, trivial⟩ ?_
              refine mm_ev.go [true, true] (ps := []) (c1 := (2, [some (.ref 34), some (.int v1), some (.int v2), some (.int (v3 + (1 : Int32))), some (.int ((S.2.1 48 v3.toNatClampNeg) + v2)), some (.int ((((S.2.1 48 v3.toNatClampNeg) + v2) + (S.2.1 49 v3.toNatClampNeg)) + (0 : Int32)))], [], mH S, 0, 0)) rfl trivial ?_
              cases h
              exact hc0 rfl (some (.int ((S.2.1 48 v3.toNatClampNeg) + v2))) (some (.int ((((S.2.1 48 v3.toNatClampNeg) + v2) + (S.2.1 49 v3.toNatClampNeg)) + (0 : Int32))))
            · rw [if_neg h34] at h
              refine mm_ev.go [false] (ps := [¬ mm_cmp .eq r32 (0 : Int32)]) (c1 := (88, [some (.ref 34), some (.int v1), some (.int v2), some (.int v3), some (.int ((S.2.1 48 v3.toNatClampNeg) + v2)), some (.int ((((S.2.1 48 v3.toNatClampNeg) + v2) + (S.2.1 49 v3.toNatClampNeg)) + (0 : Int32)))], [], mH S, 0, 0)) rfl ⟨h34, trivial⟩ ?_
              cases h
              exact hc2 rfl (some (.ref 34)) (some (.int v1)) (some (.int v2)) (some (.int v3)) (some (.int ((S.2.1 48 v3.toNatClampNeg) + v2))) (some (.int ((((S.2.1 48 v3.toNatClampNeg) + v2) + (S.2.1 49 v3.toNatClampNeg)) + (0 : Int32))))
          · rw [if_neg h31] at h
            refine mm_ev.go [true] (ps := [mm_cmp .ne r29 (0 : Int32)]) (c1 := (88, [some (.ref 34), some (.int v1), some (.int v2), some (.int v3), some (.int ((S.2.1 48 v3.toNatClampNeg) + v2)), some (.int ((((S.2.1 48 v3.toNatClampNeg) + v2) + (S.2.1 49 v3.toNatClampNeg)) + (0 : Int32)))], [], mH S, 0, 0)) rfl ⟨h31, trivial⟩ ?_
            cases h
            exact hc2 rfl (some (.ref 34)) (some (.int v1)) (some (.int v2)) (some (.int v3)) (some (.int ((S.2.1 48 v3.toNatClampNeg) + v2))) (some (.int ((((S.2.1 48 v3.toNatClampNeg) + v2) + (S.2.1 49 v3.toNatClampNeg)) + (0 : Int32))))
def L76_2 : Nat → mSt → Int32 → Int32 → Int32 → Option (Nat × Int32 × Int32 × Int32)
  | 0, _, _, _, _ => none
  | n + 1, S, v1, v2, v3 => (I76_2 n S v1 v2 v3).bind fun r => if r.1 = 0 then L76_2 n S r.2.1 r.2.2.1 r.2.2.2 else some r
set_option maxRecDepth 100000 in
set_option maxHeartbeats 4000000 in
theorem L76_2_ok {sc : mS} (d : Nat) {n : Nat} {S : mSt} {v1 v2 v3 : Int32} {r : Nat × Int32 × Int32 × Int32} (h : L76_2 n S v1 v2 v3 = some r) (o4 : Option Value) (o5 : Option Value) {Q : mR → List mE → Prop} (hc1 : r.1 = 1 → ∀ u0 : Option Value, ∀ u1 : Option Value, ∀ u2 : Option Value, ∀ u3 : Option Value, ∀ u4 : Option Value, ∀ u5 : Option Value, mm_ev sc mmK mmP (d + 1) 76 (96, [u0, u1, u2, u3, u4, u5], [], mH S, 0, 0) Q) (hc2 : r.1 = 2 → ∀ u0 : Option Value, ∀ u1 : Option Value, ∀ u2 : Option Value, ∀ u3 : Option Value, ∀ u4 : Option Value, ∀ u5 : Option Value, mm_ev sc mmK mmP (d + 1) 76 (88, [u0, u1, u2, u3, u4, u5], [], mH S, 0, 0) Q) : mm_ev sc mmK mmP (d + 1) 76 (2, [some (.ref 34), some (.int v1), some (.int v2), some (.int v3), o4, o5], [], mH S, 0, 0) Q := by
  induction n generalizing v1 v2 v3 o4 o5 with
  | zero => cases h
  | succ n ih =>
    unfold L76_2 at h
    obtain ⟨r1, h1, h⟩ := mb_b h
    by_cases h0 : r1.1 = 0
    · rw [if_pos h0] at h
      refine I76_2_ok d h1 o4 o5 (fun _ z0 z1 => ih h z0 z1) (fun z => absurd z (by omega)) (fun z => absurd z (by omega))
    · rw [if_neg h0] at h
      cases h
      exact I76_2_ok d h1 o4 o5 (fun z => absurd z h0) hc1 hc2
/-- SlabPatternsModel.stands -/
def F76 (n : Nat) (S : mSt) (a0 a1 : Int32) : Option (Int32) := (L76_2 n S a0 a1 (0 : Int32)).bind fun r35 => (if r35.1 = 1 then (some ((1 : Int32))) else (if r35.1 = 2 then (some ((0 : Int32))) else none))
set_option maxRecDepth 100000 in
set_option maxHeartbeats 4000000 in
theorem F76_ok {sc : mS} (d : Nat) {n : Nat} {S : mSt} {a0 a1 : Int32} {r : Int32} (h : F76 n S a0 a1 = some r) : mm_ev sc mmK mmP (d + 1) 76 (0, mm_en 6 [.ref 34, .int a0, .int a1], [], mH S, 0, 0) (mm_is (.inl (some (.int r))) (mH S)) := by
  unfold F76 at h
  refine mm_ev.to (c := (0, [some (.ref 34), some (.int a0), some (.int a1), none, none, none], [], mH S, 0, 0)) rfl ?_
  refine mm_ev.go [true, true] (ps := []) (c1 := (2, [some (.ref 34), some (.int a0), some (.int a1), some (.int (0 : Int32)), none, none], [], mH S, 0, 0)) rfl trivial ?_
  obtain ⟨r35, h36, h⟩ := mb_b h
  refine L76_2_ok d h36 none none ?_ ?_
  · intro h37 o1_0 o1_1 o1_2 o1_3 o1_4 o1_5
    rw [if_pos h37] at h
    refine mm_ev.go [true] (ps := []) (c1 := (97, [o1_0, o1_1, o1_2, o1_3, o1_4, o1_5], [.int (1 : Int32)], mH S, 0, 0)) rfl trivial ?_
    cases h
    exact mm_ev.ret (q := mq76) (b := (97, .ireturn, 1, 3, 0, 0, 0, 0, [])) rfl rfl rfl ⟨Nat.le_of_ble_eq_true rfl, Nat.le_of_ble_eq_true rfl⟩ ⟨by first | exact Or.inl rfl | exact Or.inr rfl, trivial⟩ ⟨rfl, rfl⟩
  · intro h38 o2_0 o2_1 o2_2 o2_3 o2_4 o2_5
    rw [if_neg (by rw [h38]; decide)] at h
    rw [if_pos h38] at h
    refine mm_ev.go [true] (ps := []) (c1 := (89, [o2_0, o2_1, o2_2, o2_3, o2_4, o2_5], [.int (0 : Int32)], mH S, 0, 0)) rfl trivial ?_
    cases h
    exact mm_ev.ret (q := mq76) (b := (89, .ireturn, 1, 3, 0, 0, 0, 0, [])) rfl rfl rfl ⟨Nat.le_of_ble_eq_true rfl, Nat.le_of_ble_eq_true rfl⟩ ⟨by first | exact Or.inl rfl | exact Or.inr rfl, trivial⟩ ⟨rfl, rfl⟩
/-- SlabPatternsModel.proved -/
def F77 (S : mSt) : Option (Int32 × mSt) := (F62 S (S.1 27) (1 : Int32) (1 : Int32)).bind fun r1 => (if r1.1 = (0 : Int32) then (some (((0 : Int32), r1.2))) else (if (r1.2.1 28) = (0 : Int32) then (some (((0 : Int32), r1.2))) else (some (((1 : Int32), r1.2)))))
set_option maxRecDepth 100000 in
set_option maxHeartbeats 4000000 in
theorem F77_ok {sc : mS} (d : Nat) {S : mSt} {r : Int32 × mSt} (h : F77 S = some r) : mm_ev sc mmK mmP (d + 1) 77 (0, mm_en 1 [.ref 34], [], mH S, 0, 0) (mm_is (.inl (some (.int r.1))) (mH r.2)) := by
  unfold F77 at h
  refine mm_ev.to (c := (0, [some (.ref 34)], [], mH S, 0, 0)) rfl ?_
  refine mm_ev.go [true, true, true, true, true] (ps := []) (c1 := (7, [some (.ref 34)], [.int (1 : Int32), .int (1 : Int32), .int (S.1 27), .ref 34], mH S, 0, 0)) rfl trivial ?_
  obtain ⟨r1, h2, h⟩ := mb_b h
  refine mm_ev.call (q := mq77) (q2 := mq62) (b := (7, .invokevirtual 86, 3, 2, 2, 62, 4, 6, [780, 777, 779, 54, 37])) (as := [.ref 34, .int (S.1 27), .int (1 : Int32), .int (1 : Int32)]) (r := []) (v := (some (.int r1.1))) (h1 := mH r1.2) rfl rfl rfl rfl ⟨Nat.le_of_ble_eq_true rfl, Nat.le_of_ble_eq_true rfl, Nat.le_of_ble_eq_true rfl⟩ (F62_ok d h2) ?_
  refine mm_ev.to (c := (10, [some (.ref 34)], [.int r1.1], mH r1.2, 0, 0)) rfl ?_
  by_cases h3 : r1.1 = (0 : Int32)
  · rw [if_pos h3] at h
    refine mm_ev.go [true] (ps := [mm_cmp .eq r1.1 (0 : Int32)]) (c1 := (24, [some (.ref 34)], [], mH r1.2, 0, 0)) rfl ⟨h3, trivial⟩ ?_
    refine mm_ev.go [true] (ps := []) (c1 := (25, [some (.ref 34)], [.int (0 : Int32)], mH r1.2, 0, 0)) rfl trivial ?_
    cases h
    exact mm_ev.ret (q := mq77) (b := (25, .ireturn, 1, 3, 0, 0, 0, 0, [])) rfl rfl rfl ⟨Nat.le_of_ble_eq_true rfl, Nat.le_of_ble_eq_true rfl⟩ ⟨by first | exact Or.inl rfl | exact Or.inr rfl, trivial⟩ ⟨rfl, rfl⟩
  · rw [if_neg h3] at h
    refine mm_ev.go [false] (ps := [¬ mm_cmp .eq r1.1 (0 : Int32)]) (c1 := (13, [some (.ref 34)], [], mH r1.2, 0, 0)) rfl ⟨h3, trivial⟩ ?_
    by_cases h4 : (r1.2.1 28) = (0 : Int32)
    · rw [if_pos h4] at h
      refine mm_ev.go [true, true, true] (ps := [mm_cmp .eq (r1.2.1 28) (0 : Int32)]) (c1 := (24, [some (.ref 34)], [], mH r1.2, 0, 0)) rfl ⟨h4, trivial⟩ ?_
      refine mm_ev.go [true] (ps := []) (c1 := (25, [some (.ref 34)], [.int (0 : Int32)], mH r1.2, 0, 0)) rfl trivial ?_
      cases h
      exact mm_ev.ret (q := mq77) (b := (25, .ireturn, 1, 3, 0, 0, 0, 0, [])) rfl rfl rfl ⟨Nat.le_of_ble_eq_true rfl, Nat.le_of_ble_eq_true rfl⟩ ⟨by first | exact Or.inl rfl | exact Or.inr rfl, trivial⟩ ⟨rfl, rfl⟩
    · rw [if_neg h4] at h
      refine mm_ev.go [true, true, false] (ps := [¬ mm_cmp .eq (r1.2.1 28) (0 : Int32)]) (c1 := (20, [some (.ref 34)], [], mH r1.2, 0, 0)) rfl ⟨h4, trivial⟩ ?_
      refine mm_ev.go [true, true] (ps := []) (c1 := (25, [some (.ref 34)], [.int (1 : Int32)], mH r1.2, 0, 0)) rfl trivial ?_
      cases h
      exact mm_ev.ret (q := mq77) (b := (25, .ireturn, 1, 3, 0, 0, 0, 0, [])) rfl rfl rfl ⟨Nat.le_of_ble_eq_true rfl, Nat.le_of_ble_eq_true rfl⟩ ⟨by first | exact Or.inl rfl | exact Or.inr rfl, trivial⟩ ⟨rfl, rfl⟩
/-- SlabPatternsModel.strips -/
def F78 (S : mSt) : Option (Int32 × mSt) := (F62 S (S.1 27) (1 : Int32) (1 : Int32)).bind fun r1 => (if r1.1 = (0 : Int32) then (some (((0 : Int32), r1.2))) else (some ((r1.2.1 29, r1.2))))
set_option maxRecDepth 100000 in
set_option maxHeartbeats 4000000 in
theorem F78_ok {sc : mS} (d : Nat) {S : mSt} {r : Int32 × mSt} (h : F78 S = some r) : mm_ev sc mmK mmP (d + 1) 78 (0, mm_en 1 [.ref 34], [], mH S, 0, 0) (mm_is (.inl (some (.int r.1))) (mH r.2)) := by
  unfold F78 at h
  refine mm_ev.to (c := (0, [some (.ref 34)], [], mH S, 0, 0)) rfl ?_
  refine mm_ev.go [true, true, true, true, true] (ps := []) (c1 := (7, [some (.ref 34)], [.int (1 : Int32), .int (1 : Int32), .int (S.1 27), .ref 34], mH S, 0, 0)) rfl trivial ?_
  obtain ⟨r1, h2, h⟩ := mb_b h
  refine mm_ev.call (q := mq78) (q2 := mq62) (b := (7, .invokevirtual 86, 3, 2, 2, 62, 4, 6, [780, 777, 779, 54, 37])) (as := [.ref 34, .int (S.1 27), .int (1 : Int32), .int (1 : Int32)]) (r := []) (v := (some (.int r1.1))) (h1 := mH r1.2) rfl rfl rfl rfl ⟨Nat.le_of_ble_eq_true rfl, Nat.le_of_ble_eq_true rfl, Nat.le_of_ble_eq_true rfl⟩ (F62_ok d h2) ?_
  refine mm_ev.to (c := (10, [some (.ref 34)], [.int r1.1], mH r1.2, 0, 0)) rfl ?_
  by_cases h3 : r1.1 = (0 : Int32)
  · rw [if_pos h3] at h
    refine mm_ev.go [false] (ps := [¬ mm_cmp .ne r1.1 (0 : Int32)]) (c1 := (13, [some (.ref 34)], [], mH r1.2, 0, 0)) rfl ⟨(fun z => z h3), trivial⟩ ?_
    refine mm_ev.go [true] (ps := []) (c1 := (14, [some (.ref 34)], [.int (0 : Int32)], mH r1.2, 0, 0)) rfl trivial ?_
    cases h
    exact mm_ev.ret (q := mq78) (b := (14, .ireturn, 1, 3, 0, 0, 0, 0, [])) rfl rfl rfl ⟨Nat.le_of_ble_eq_true rfl, Nat.le_of_ble_eq_true rfl⟩ trivial ⟨rfl, rfl⟩
  · rw [if_neg h3] at h
    refine mm_ev.go [true] (ps := [mm_cmp .ne r1.1 (0 : Int32)]) (c1 := (15, [some (.ref 34)], [], mH r1.2, 0, 0)) rfl ⟨h3, trivial⟩ ?_
    refine mm_ev.go [true, true] (ps := []) (c1 := (19, [some (.ref 34)], [.int (r1.2.1 29)], mH r1.2, 0, 0)) rfl trivial ?_
    cases h
    exact mm_ev.ret (q := mq78) (b := (19, .ireturn, 1, 3, 0, 0, 0, 0, [])) rfl rfl rfl ⟨Nat.le_of_ble_eq_true rfl, Nat.le_of_ble_eq_true rfl⟩ trivial ⟨rfl, rfl⟩
/-- SlabPatternsModel.strip -/
def F79 (S : mSt) (a0 a1 : Int32) : Option (Int32 × mSt) := (F61 S a1 (0 : Int32) (4 : Int32)).bind fun r1 => ((F61 S a0 (0 : Int32) ((S.1 29) - (1 : Int32))).bind fun r3 => ((F62 S r1 (S.1 27) r3).bind fun r5 => (if r5.1 = (0 : Int32) then (some (((0 : Int32), r5.2))) else (if a1 = (0 : Int32) then (if 0 ≤ a0 ∧ a0.toNatClampNeg < 202 then if ¬ (2 : Int32) = 0 then some (((r5.2.2.1 47 a0.toNatClampNeg) / (2 : Int32), r5.2)) else none else none) else (if a1 = (1 : Int32) then (if 0 ≤ a0 ∧ a0.toNatClampNeg < 202 then if ¬ (2 : Int32) = 0 then some (((r5.2.2.1 47 a0.toNatClampNeg) - (r5.2.2.1 47 a0.toNatClampNeg) / (2 : Int32) * (2 : Int32), r5.2)) else none else none) else (if a1 = (2 : Int32) then (if 0 ≤ a0 ∧ a0.toNatClampNeg < 202 then some ((r5.2.2.1 48 a0.toNatClampNeg, r5.2)) else none) else (if a1 = (3 : Int32) then (if 0 ≤ a0 ∧ a0.toNatClampNeg < 202 then some ((r5.2.2.1 49 a0.toNatClampNeg, r5.2)) else none) else (if 0 ≤ a0 ∧ a0.toNatClampNeg < 202 then some ((r5.2.2.1 50 a0.toNatClampNeg, r5.2)) else none))))))))
set_option maxRecDepth 100000 in
set_option maxHeartbeats 4000000 in
theorem F79_ok {sc : mS} (d : Nat) {S : mSt} {a0 a1 : Int32} {r : Int32 × mSt} (h : F79 S a0 a1 = some r) : mm_ev sc mmK mmP (d + 1) 79 (0, mm_en 3 [.ref 34, .int a0, .int a1], [], mH S, 0, 0) (mm_is (.inl (some (.int r.1))) (mH r.2)) := by
  unfold F79 at h
  refine mm_ev.to (c := (0, [some (.ref 34), some (.int a0), some (.int a1)], [], mH S, 0, 0)) rfl ?_
  refine mm_ev.go [true, true, true, true] (ps := []) (c1 := (4, [some (.ref 34), some (.int a0), some (.int a1)], [.int (4 : Int32), .int (0 : Int32), .int a1, .ref 34], mH S, 0, 0)) rfl trivial ?_
  obtain ⟨r1, h2, h⟩ := mb_b h
  refine mm_ev.call (q := mq79) (q2 := mq61) (b := (4, .invokestatic 78, 3, 2, 4, 61, 3, 0, [776, 774, 775, 54])) (as := [.int a1, .int (0 : Int32), .int (4 : Int32)]) (r := [.ref 34]) (v := (some (.int r1))) (h1 := mH S) rfl rfl rfl rfl ⟨Nat.le_of_ble_eq_true rfl, Nat.le_of_ble_eq_true rfl, Nat.le_of_ble_eq_true rfl⟩ (F61_ok d h2) ?_
  refine mm_ev.to (c := (7, [some (.ref 34), some (.int a0), some (.int a1)], [.int r1, .ref 34], mH S, 0, 0)) rfl ?_
  refine mm_ev.go [true, true, true, true, true, true, true, true] (ps := []) (c1 := (19, [some (.ref 34), some (.int a0), some (.int a1)], [.int ((S.1 29) - (1 : Int32)), .int (0 : Int32), .int a0, .int (S.1 27), .int r1, .ref 34], mH S, 0, 0)) rfl trivial ?_
  obtain ⟨r3, h4, h⟩ := mb_b h
  refine mm_ev.call (q := mq79) (q2 := mq61) (b := (19, .invokestatic 78, 3, 2, 4, 61, 3, 0, [776, 774, 775, 54])) (as := [.int a0, .int (0 : Int32), .int ((S.1 29) - (1 : Int32))]) (r := [.int (S.1 27), .int r1, .ref 34]) (v := (some (.int r3))) (h1 := mH S) rfl rfl rfl rfl ⟨Nat.le_of_ble_eq_true rfl, Nat.le_of_ble_eq_true rfl, Nat.le_of_ble_eq_true rfl⟩ (F61_ok d h4) ?_
  refine mm_ev.to (c := (22, [some (.ref 34), some (.int a0), some (.int a1)], [.int r3, .int (S.1 27), .int r1, .ref 34], mH S, 0, 0)) rfl ?_
  obtain ⟨r5, h6, h⟩ := mb_b h
  refine mm_ev.call (q := mq79) (q2 := mq62) (b := (22, .invokevirtual 86, 3, 2, 2, 62, 4, 6, [780, 777, 779, 54, 37])) (as := [.ref 34, .int r1, .int (S.1 27), .int r3]) (r := []) (v := (some (.int r5.1))) (h1 := mH r5.2) rfl rfl rfl rfl ⟨Nat.le_of_ble_eq_true rfl, Nat.le_of_ble_eq_true rfl, Nat.le_of_ble_eq_true rfl⟩ (F62_ok d h6) ?_
  refine mm_ev.to (c := (25, [some (.ref 34), some (.int a0), some (.int a1)], [.int r5.1], mH r5.2, 0, 0)) rfl ?_
  by_cases h7 : r5.1 = (0 : Int32)
  · rw [if_pos h7] at h
    refine mm_ev.go [false] (ps := [¬ mm_cmp .ne r5.1 (0 : Int32)]) (c1 := (28, [some (.ref 34), some (.int a0), some (.int a1)], [], mH r5.2, 0, 0)) rfl ⟨(fun z => z h7), trivial⟩ ?_
    refine mm_ev.go [true] (ps := []) (c1 := (29, [some (.ref 34), some (.int a0), some (.int a1)], [.int (0 : Int32)], mH r5.2, 0, 0)) rfl trivial ?_
    cases h
    exact mm_ev.ret (q := mq79) (b := (29, .ireturn, 1, 3, 0, 0, 0, 0, [])) rfl rfl rfl ⟨Nat.le_of_ble_eq_true rfl, Nat.le_of_ble_eq_true rfl⟩ trivial ⟨rfl, rfl⟩
  · rw [if_neg h7] at h
    refine mm_ev.go [true] (ps := [mm_cmp .ne r5.1 (0 : Int32)]) (c1 := (30, [some (.ref 34), some (.int a0), some (.int a1)], [], mH r5.2, 0, 0)) rfl ⟨h7, trivial⟩ ?_
    by_cases h8 : a1 = (0 : Int32)
    · rw [if_pos h8] at h
      refine mm_ev.go [true, false] (ps := [¬ mm_cmp .ne a1 (0 : Int32)]) (c1 := (34, [some (.ref 34), some (.int a0), some (.int a1)], [], mH r5.2, 0, 0)) rfl ⟨(fun z => z h8), trivial⟩ ?_
      obtain ⟨h9, h⟩ := mb_i h
      obtain ⟨h10, h⟩ := mb_i h
      refine mm_ev.go [true, true, true, true, true, true, true] (ps := [mm_in a0 202, ¬ (2 : Int32) = 0]) (c1 := (95, [some (.ref 34), some (.int a0), some (.int a1)], [.int ((r5.2.2.1 47 a0.toNatClampNeg) / (2 : Int32))], mH r5.2, 0, 0)) rfl ⟨h9, h10, trivial⟩ ?_
      cases h
      exact mm_ev.ret (q := mq79) (b := (95, .ireturn, 1, 3, 0, 0, 0, 0, [])) rfl rfl rfl ⟨Nat.le_of_ble_eq_true rfl, Nat.le_of_ble_eq_true rfl⟩ trivial ⟨rfl, rfl⟩
    · rw [if_neg h8] at h
      refine mm_ev.go [true, true] (ps := [mm_cmp .ne a1 (0 : Int32)]) (c1 := (45, [some (.ref 34), some (.int a0), some (.int a1)], [], mH r5.2, 0, 0)) rfl ⟨h8, trivial⟩ ?_
      by_cases h11 : a1 = (1 : Int32)
      · rw [if_pos h11] at h
        refine mm_ev.go [true, true, false] (ps := [¬ mm_cmp .ne a1 (1 : Int32)]) (c1 := (50, [some (.ref 34), some (.int a0), some (.int a1)], [], mH r5.2, 0, 0)) rfl ⟨(fun z => z h11), trivial⟩ ?_
        obtain ⟨h12, h⟩ := mb_i h
        obtain ⟨h13, h⟩ := mb_i h
        refine mm_ev.go [true, true, true, true, true, true, true] (ps := [mm_in a0 202, ¬ (2 : Int32) = 0]) (c1 := (95, [some (.ref 34), some (.int a0), some (.int a1)], [.int ((r5.2.2.1 47 a0.toNatClampNeg) - (r5.2.2.1 47 a0.toNatClampNeg) / (2 : Int32) * (2 : Int32))], mH r5.2, 0, 0)) rfl ⟨h12, h13, trivial⟩ ?_
        cases h
        exact mm_ev.ret (q := mq79) (b := (95, .ireturn, 1, 3, 0, 0, 0, 0, [])) rfl rfl rfl ⟨Nat.le_of_ble_eq_true rfl, Nat.le_of_ble_eq_true rfl⟩ trivial ⟨rfl, rfl⟩
      · rw [if_neg h11] at h
        refine mm_ev.go [true, true, true] (ps := [mm_cmp .ne a1 (1 : Int32)]) (c1 := (61, [some (.ref 34), some (.int a0), some (.int a1)], [], mH r5.2, 0, 0)) rfl ⟨h11, trivial⟩ ?_
        by_cases h14 : a1 = (2 : Int32)
        · rw [if_pos h14] at h
          refine mm_ev.go [true, true, false] (ps := [¬ mm_cmp .ne a1 (2 : Int32)]) (c1 := (66, [some (.ref 34), some (.int a0), some (.int a1)], [], mH r5.2, 0, 0)) rfl ⟨(fun z => z h14), trivial⟩ ?_
          obtain ⟨h15, h⟩ := mb_i h
          refine mm_ev.go [true, true, true, true, true] (ps := [mm_in a0 202]) (c1 := (95, [some (.ref 34), some (.int a0), some (.int a1)], [.int (r5.2.2.1 48 a0.toNatClampNeg)], mH r5.2, 0, 0)) rfl ⟨h15, trivial⟩ ?_
          cases h
          exact mm_ev.ret (q := mq79) (b := (95, .ireturn, 1, 3, 0, 0, 0, 0, [])) rfl rfl rfl ⟨Nat.le_of_ble_eq_true rfl, Nat.le_of_ble_eq_true rfl⟩ trivial ⟨rfl, rfl⟩
        · rw [if_neg h14] at h
          refine mm_ev.go [true, true, true] (ps := [mm_cmp .ne a1 (2 : Int32)]) (c1 := (75, [some (.ref 34), some (.int a0), some (.int a1)], [], mH r5.2, 0, 0)) rfl ⟨h14, trivial⟩ ?_
          by_cases h16 : a1 = (3 : Int32)
          · rw [if_pos h16] at h
            refine mm_ev.go [true, true, false] (ps := [¬ mm_cmp .ne a1 (3 : Int32)]) (c1 := (80, [some (.ref 34), some (.int a0), some (.int a1)], [], mH r5.2, 0, 0)) rfl ⟨(fun z => z h16), trivial⟩ ?_
            obtain ⟨h17, h⟩ := mb_i h
            refine mm_ev.go [true, true, true, true, true] (ps := [mm_in a0 202]) (c1 := (95, [some (.ref 34), some (.int a0), some (.int a1)], [.int (r5.2.2.1 49 a0.toNatClampNeg)], mH r5.2, 0, 0)) rfl ⟨h17, trivial⟩ ?_
            cases h
            exact mm_ev.ret (q := mq79) (b := (95, .ireturn, 1, 3, 0, 0, 0, 0, [])) rfl rfl rfl ⟨Nat.le_of_ble_eq_true rfl, Nat.le_of_ble_eq_true rfl⟩ trivial ⟨rfl, rfl⟩
          · rw [if_neg h16] at h
            refine mm_ev.go [true, true, true] (ps := [mm_cmp .ne a1 (3 : Int32)]) (c1 := (89, [some (.ref 34), some (.int a0), some (.int a1)], [], mH r5.2, 0, 0)) rfl ⟨h16, trivial⟩ ?_
            obtain ⟨h18, h⟩ := mb_i h
            refine mm_ev.go [true, true, true, true] (ps := [mm_in a0 202]) (c1 := (95, [some (.ref 34), some (.int a0), some (.int a1)], [.int (r5.2.2.1 50 a0.toNatClampNeg)], mH r5.2, 0, 0)) rfl ⟨h18, trivial⟩ ?_
            cases h
            exact mm_ev.ret (q := mq79) (b := (95, .ireturn, 1, 3, 0, 0, 0, 0, [])) rfl rfl rfl ⟨Nat.le_of_ble_eq_true rfl, Nat.le_of_ble_eq_true rfl⟩ trivial ⟨rfl, rfl⟩
