/-! methods as functions of the state (11) -/
def I68_20 (S : mSt) (v1 v2 : Int32) : Option (Nat × mSt × Int32 × Int32) := if (S.1 25) ≤ v2 then (some (1, S, v1, 0)) else (if 0 ≤ v2 ∧ v2.toNatClampNeg < 5 then some (0, (S.1, (va_up S.2.1 46 (upd (S.2.1 46) v2.toNatClampNeg (S.2.1 39 v2.toNatClampNeg))), S.2.2), v1, v2 + (1 : Int32)) else none)
set_option maxRecDepth 100000 in
set_option maxHeartbeats 4000000 in
theorem I68_20_ok {sc : mS} (d : Nat) {S : mSt} {v1 v2 : Int32} {r : Nat × mSt × Int32 × Int32} (h : I68_20 S v1 v2 = some r) (o3 : Option Value) (o4 : Option Value) (o5 : Option Value) (o6 : Option Value) (o7 : Option Value) {Q : mR → List mE → Prop} (hc0 : r.1 = 0 → ∀ u3 : Option Value, ∀ u4 : Option Value, ∀ u5 : Option Value, ∀ u6 : Option Value, ∀ u7 : Option Value, mm_ev sc mmK mmP (d + 3) 68 (20, [some (.ref 34), some (.int r.2.2.1), some (.int r.2.2.2), u3, u4, u5, u6, u7], [], mH r.2.1, 0, 0) Q) (hc1 : r.1 = 1 → ∀ u2 : Option Value, ∀ u3 : Option Value, ∀ u4 : Option Value, ∀ u5 : Option Value, ∀ u6 : Option Value, ∀ u7 : Option Value, mm_ev sc mmK mmP (d + 3) 68 (46, [some (.ref 34), some (.int r.2.2.1), u2, u3, u4, u5, u6, u7], [], mH r.2.1, 0, 0) Q) : mm_ev sc mmK mmP (d + 3) 68 (20, [some (.ref 34), some (.int v1), some (.int v2), o3, o4, o5, o6, o7], [], mH S, 0, 0) Q := by
  unfold I68_20 at h
  by_cases h6 : (S.1 25) ≤ v2
  · rw [if_pos h6] at h
    refine mm_ev.go [true, true, true, true] (ps := [mm_cmp .ge v2 (S.1 25)]) (c1 := (46, [some (.ref 34), some (.int v1), some (.int v2), o3, o4, o5, o6, o7], [], mH S, 0, 0)) rfl ⟨h6, trivial⟩ ?_
    cases h
    exact hc1 rfl (some (.int v2)) o3 o4 o5 o6 o7
  · rw [if_neg h6] at h
    refine mm_ev.go [true, true, true, false] (ps := [¬ mm_cmp .ge v2 (S.1 25)]) (c1 := (28, [some (.ref 34), some (.int v1), some (.int v2), o3, o4, o5, o6, o7], [], mH S, 0, 0)) rfl ⟨h6, trivial⟩ ?_
    obtain ⟨h7, h⟩ := mb_i h
    refine mm_ev.go [true, true, true, true, true, true, true, true] (ps := [mm_in v2 5, mm_in v2 5]) (c1 := (40, [some (.ref 34), some (.int v1), some (.int v2), o3, o4, o5, o6, o7], [], mH (S.1, (va_up S.2.1 46 (upd (S.2.1 46) v2.toNatClampNeg (S.2.1 39 v2.toNatClampNeg))), S.2.2), 0, 0)) rfl ⟨h7, h7, trivial⟩ ?_
    refine mm_ev.go [true, true] (ps := []) (c1 := (20, [some (.ref 34), some (.int v1), some (.int (v2 + (1 : Int32))), o3, o4, o5, o6, o7], [], mH (S.1, (va_up S.2.1 46 (upd (S.2.1 46) v2.toNatClampNeg (S.2.1 39 v2.toNatClampNeg))), S.2.2), 0, 0)) rfl trivial ?_
    cases h
    exact hc0 rfl o3 o4 o5 o6 o7
def L68_20 : Nat → mSt → Int32 → Int32 → Option (Nat × mSt × Int32 × Int32)
  | 0, _, _, _ => none
  | n + 1, S, v1, v2 => (I68_20 S v1 v2).bind fun r => if r.1 = 0 then L68_20 n r.2.1 r.2.2.1 r.2.2.2 else some r
set_option maxRecDepth 100000 in
set_option maxHeartbeats 4000000 in
theorem L68_20_ok {sc : mS} (d : Nat) {n : Nat} {S : mSt} {v1 v2 : Int32} {r : Nat × mSt × Int32 × Int32} (h : L68_20 n S v1 v2 = some r) (o3 : Option Value) (o4 : Option Value) (o5 : Option Value) (o6 : Option Value) (o7 : Option Value) {Q : mR → List mE → Prop} (hc1 : r.1 = 1 → ∀ u2 : Option Value, ∀ u3 : Option Value, ∀ u4 : Option Value, ∀ u5 : Option Value, ∀ u6 : Option Value, ∀ u7 : Option Value, mm_ev sc mmK mmP (d + 3) 68 (46, [some (.ref 34), some (.int r.2.2.1), u2, u3, u4, u5, u6, u7], [], mH r.2.1, 0, 0) Q) : mm_ev sc mmK mmP (d + 3) 68 (20, [some (.ref 34), some (.int v1), some (.int v2), o3, o4, o5, o6, o7], [], mH S, 0, 0) Q := by
  induction n generalizing S v1 v2 o3 o4 o5 o6 o7 with
  | zero => cases h
  | succ n ih =>
    unfold L68_20 at h
    obtain ⟨r1, h1, h⟩ := mb_b h
    by_cases h0 : r1.1 = 0
    · rw [if_pos h0] at h
      refine I68_20_ok d h1 o3 o4 o5 o6 o7 (fun _ z0 z1 z2 z3 z4 => ih h z0 z1 z2 z3 z4) (fun z => absurd z (by omega))
    · rw [if_neg h0] at h
      cases h
      exact I68_20_ok d h1 o3 o4 o5 o6 o7 (fun z => absurd z h0) hc1
def K68_175 (S : mSt) (v2 v3 v4 v5 : Int32) : Option (Nat × mSt × Int32 × Int32 × Int32 × Int32) := if 0 ≤ v4 ∧ v4.toNatClampNeg < 202 then some (0, (S.1, (va_up S.2.1 43 (upd (S.2.1 43) v4.toNatClampNeg ((S.2.1 43 v4.toNatClampNeg) + (1 : Int32)))), S.2.2), v2, v3, v4, v5) else none
set_option maxRecDepth 100000 in
set_option maxHeartbeats 4000000 in
theorem K68_175_ok {sc : mS} (d : Nat) {S : mSt} {v2 v3 v4 v5 : Int32} {r : Nat × mSt × Int32 × Int32 × Int32 × Int32} (h : K68_175 S v2 v3 v4 v5 = some r) (o1 : Option Value) (o6 : Option Value) (o7 : Option Value) {Q : mR → List mE → Prop} (hc0 : r.1 = 0 → ∀ u1 : Option Value, ∀ u6 : Option Value, ∀ u7 : Option Value, mm_ev sc mmK mmP (d + 3) 68 (88, [some (.ref 34), u1, some (.int r.2.2.1), some (.int r.2.2.2.1), some (.int r.2.2.2.2.1), some (.int r.2.2.2.2.2), u6, u7], [], mH r.2.1, 0, 0) Q) (hc1 : r.1 = 1 → ∀ u1 : Option Value, ∀ u3 : Option Value, ∀ u4 : Option Value, ∀ u5 : Option Value, ∀ u6 : Option Value, ∀ u7 : Option Value, mm_ev sc mmK mmP (d + 3) 68 (370, [some (.ref 34), u1, some (.int r.2.2.1), u3, u4, u5, u6, u7], [], mH r.2.1, 0, 0) Q) (hc2 : r.1 = 2 → ∀ u1 : Option Value, ∀ u3 : Option Value, ∀ u4 : Option Value, ∀ u5 : Option Value, ∀ u6 : Option Value, ∀ u7 : Option Value, mm_ev sc mmK mmP (d + 3) 68 (121, [some (.ref 34), u1, some (.int r.2.2.1), u3, u4, u5, u6, u7], [], mH r.2.1, 0, 0) Q) (hc3 : r.1 = 3 → ∀ u1 : Option Value, ∀ u3 : Option Value, ∀ u4 : Option Value, ∀ u5 : Option Value, ∀ u6 : Option Value, ∀ u7 : Option Value, mm_ev sc mmK mmP (d + 3) 68 (224, [some (.ref 34), u1, some (.int r.2.2.1), u3, u4, u5, u6, u7], [], mH r.2.1, 0, 0) Q) : mm_ev sc mmK mmP (d + 3) 68 (175, [some (.ref 34), o1, some (.int v2), some (.int v3), some (.int v4), some (.int v5), o6, o7], [], mH S, 0, 0) Q := by
  unfold K68_175 at h
  obtain ⟨h21, h⟩ := mb_i h
  refine mm_ev.go [true, true, true, true, true, true, true, true] (ps := [mm_in v4 202, mm_in v4 202]) (c1 := (186, [some (.ref 34), o1, some (.int v2), some (.int v3), some (.int v4), some (.int v5), o6, o7], [], mH (S.1, (va_up S.2.1 43 (upd (S.2.1 43) v4.toNatClampNeg ((S.2.1 43 v4.toNatClampNeg) + (1 : Int32)))), S.2.2), 0, 0)) rfl ⟨h21, h21, trivial⟩ ?_
  refine mm_ev.go [true] (ps := []) (c1 := (88, [some (.ref 34), o1, some (.int v2), some (.int v3), some (.int v4), some (.int v5), o6, o7], [], mH (S.1, (va_up S.2.1 43 (upd (S.2.1 43) v4.toNatClampNeg ((S.2.1 43 v4.toNatClampNeg) + (1 : Int32)))), S.2.2), 0, 0)) rfl trivial ?_
  cases h
  exact hc0 rfl o1 o6 o7
def K68_157 (S : mSt) (v2 v3 v4 v5 v7 : Int32) : Option (Nat × mSt × Int32 × Int32 × Int32 × Int32) := if 0 ≤ v4 ∧ v4.toNatClampNeg < 202 then if 0 ≤ v7 ∧ v7.toNatClampNeg < 5 then K68_175 S v2 (v3 - ((S.2.1 45 v4.toNatClampNeg) * (S.2.1 38 v7.toNatClampNeg))) v4 v5 else none else none
set_option maxRecDepth 100000 in
set_option maxHeartbeats 4000000 in
theorem K68_157_ok {sc : mS} (d : Nat) {S : mSt} {v2 v3 v4 v5 v7 : Int32} {r : Nat × mSt × Int32 × Int32 × Int32 × Int32} (h : K68_157 S v2 v3 v4 v5 v7 = some r) (o1 : Option Value) (o6 : Option Value) {Q : mR → List mE → Prop} (hc0 : r.1 = 0 → ∀ u1 : Option Value, ∀ u6 : Option Value, ∀ u7 : Option Value, mm_ev sc mmK mmP (d + 3) 68 (88, [some (.ref 34), u1, some (.int r.2.2.1), some (.int r.2.2.2.1), some (.int r.2.2.2.2.1), some (.int r.2.2.2.2.2), u6, u7], [], mH r.2.1, 0, 0) Q) (hc1 : r.1 = 1 → ∀ u1 : Option Value, ∀ u3 : Option Value, ∀ u4 : Option Value, ∀ u5 : Option Value, ∀ u6 : Option Value, ∀ u7 : Option Value, mm_ev sc mmK mmP (d + 3) 68 (370, [some (.ref 34), u1, some (.int r.2.2.1), u3, u4, u5, u6, u7], [], mH r.2.1, 0, 0) Q) (hc2 : r.1 = 2 → ∀ u1 : Option Value, ∀ u3 : Option Value, ∀ u4 : Option Value, ∀ u5 : Option Value, ∀ u6 : Option Value, ∀ u7 : Option Value, mm_ev sc mmK mmP (d + 3) 68 (121, [some (.ref 34), u1, some (.int r.2.2.1), u3, u4, u5, u6, u7], [], mH r.2.1, 0, 0) Q) (hc3 : r.1 = 3 → ∀ u1 : Option Value, ∀ u3 : Option Value, ∀ u4 : Option Value, ∀ u5 : Option Value, ∀ u6 : Option Value, ∀ u7 : Option Value, mm_ev sc mmK mmP (d + 3) 68 (224, [some (.ref 34), u1, some (.int r.2.2.1), u3, u4, u5, u6, u7], [], mH r.2.1, 0, 0) Q) : mm_ev sc mmK mmP (d + 3) 68 (157, [some (.ref 34), o1, some (.int v2), some (.int v3), some (.int v4), some (.int v5), o6, some (.int v7)], [], mH S, 0, 0) Q := by
  unfold K68_157 at h
  obtain ⟨h19, h⟩ := mb_i h
  obtain ⟨h20, h⟩ := mb_i h
  refine mm_ev.go [true, true, true, true, true, true, true, true] (ps := [mm_in v4 202]) (c1 := (171, [some (.ref 34), o1, some (.int v2), some (.int v3), some (.int v4), some (.int v5), o6, some (.int v7)], [.int v7, .ref 38, .int (S.2.1 45 v4.toNatClampNeg), .int v3], mH S, 0, 0)) rfl ⟨h19, trivial⟩ ?_
  refine mm_ev.go [true, true, true, true] (ps := [mm_in v7 5]) (c1 := (175, [some (.ref 34), o1, some (.int v2), some (.int (v3 - ((S.2.1 45 v4.toNatClampNeg) * (S.2.1 38 v7.toNatClampNeg)))), some (.int v4), some (.int v5), o6, some (.int v7)], [], mH S, 0, 0)) rfl ⟨h20, trivial⟩ ?_
  exact K68_175_ok d h o1 o6 (some (.int v7)) hc0 hc1 hc2 hc3
def K68_124 (S : mSt) (v2 v3 v4 v5 : Int32) : Option (Nat × mSt × Int32 × Int32 × Int32 × Int32) := if 0 ≤ v4 ∧ v4.toNatClampNeg < 202 then if ¬ (2 : Int32) = 0 then if 0 ≤ ((S.2.1 43 v4.toNatClampNeg) / (2 : Int32)) ∧ ((S.2.1 43 v4.toNatClampNeg) / (2 : Int32)).toNatClampNeg < 5 then K68_157 (S.1, (va_up S.2.1 46 (upd (S.2.1 46) ((S.2.1 43 v4.toNatClampNeg) / (2 : Int32)).toNatClampNeg ((S.2.1 46 ((S.2.1 43 v4.toNatClampNeg) / (2 : Int32)).toNatClampNeg) + (S.2.1 45 v4.toNatClampNeg)))), S.2.2) v2 v3 v4 v5 ((S.2.1 43 v4.toNatClampNeg) / (2 : Int32)) else none else none else none
set_option maxRecDepth 100000 in
set_option maxHeartbeats 4000000 in
theorem K68_124_ok {sc : mS} (d : Nat) {S : mSt} {v2 v3 v4 v5 : Int32} {r : Nat × mSt × Int32 × Int32 × Int32 × Int32} (h : K68_124 S v2 v3 v4 v5 = some r) (o1 : Option Value) (o6 : Option Value) (o7 : Option Value) {Q : mR → List mE → Prop} (hc0 : r.1 = 0 → ∀ u1 : Option Value, ∀ u6 : Option Value, ∀ u7 : Option Value, mm_ev sc mmK mmP (d + 3) 68 (88, [some (.ref 34), u1, some (.int r.2.2.1), some (.int r.2.2.2.1), some (.int r.2.2.2.2.1), some (.int r.2.2.2.2.2), u6, u7], [], mH r.2.1, 0, 0) Q) (hc1 : r.1 = 1 → ∀ u1 : Option Value, ∀ u3 : Option Value, ∀ u4 : Option Value, ∀ u5 : Option Value, ∀ u6 : Option Value, ∀ u7 : Option Value, mm_ev sc mmK mmP (d + 3) 68 (370, [some (.ref 34), u1, some (.int r.2.2.1), u3, u4, u5, u6, u7], [], mH r.2.1, 0, 0) Q) (hc2 : r.1 = 2 → ∀ u1 : Option Value, ∀ u3 : Option Value, ∀ u4 : Option Value, ∀ u5 : Option Value, ∀ u6 : Option Value, ∀ u7 : Option Value, mm_ev sc mmK mmP (d + 3) 68 (121, [some (.ref 34), u1, some (.int r.2.2.1), u3, u4, u5, u6, u7], [], mH r.2.1, 0, 0) Q) (hc3 : r.1 = 3 → ∀ u1 : Option Value, ∀ u3 : Option Value, ∀ u4 : Option Value, ∀ u5 : Option Value, ∀ u6 : Option Value, ∀ u7 : Option Value, mm_ev sc mmK mmP (d + 3) 68 (224, [some (.ref 34), u1, some (.int r.2.2.1), u3, u4, u5, u6, u7], [], mH r.2.1, 0, 0) Q) : mm_ev sc mmK mmP (d + 3) 68 (124, [some (.ref 34), o1, some (.int v2), some (.int v3), some (.int v4), some (.int v5), o6, o7], [], mH S, 0, 0) Q := by
  unfold K68_124 at h
  obtain ⟨h16, h⟩ := mb_i h
  obtain ⟨h17, h⟩ := mb_i h
  obtain ⟨h18, h⟩ := mb_i h
  refine mm_ev.go [true, true, true, true, true, true, true, true] (ps := [mm_in v4 202, ¬ (2 : Int32) = 0]) (c1 := (136, [some (.ref 34), o1, some (.int v2), some (.int v3), some (.int v4), some (.int v5), o6, some (.int ((S.2.1 43 v4.toNatClampNeg) / (2 : Int32)))], [.ref 34], mH S, 0, 0)) rfl ⟨h16, h17, trivial⟩ ?_
  refine mm_ev.go [true, true, true, true, true, true, true, true] (ps := [mm_in ((S.2.1 43 v4.toNatClampNeg) / (2 : Int32)) 5]) (c1 := (152, [some (.ref 34), o1, some (.int v2), some (.int v3), some (.int v4), some (.int v5), o6, some (.int ((S.2.1 43 v4.toNatClampNeg) / (2 : Int32)))], [.ref 45, .int (S.2.1 46 ((S.2.1 43 v4.toNatClampNeg) / (2 : Int32)).toNatClampNeg), .int ((S.2.1 43 v4.toNatClampNeg) / (2 : Int32)), .ref 46], mH S, 0, 0)) rfl ⟨h18, trivial⟩ ?_
  refine mm_ev.go [true, true, true, true] (ps := [mm_in v4 202, mm_in ((S.2.1 43 v4.toNatClampNeg) / (2 : Int32)) 5]) (c1 := (157, [some (.ref 34), o1, some (.int v2), some (.int v3), some (.int v4), some (.int v5), o6, some (.int ((S.2.1 43 v4.toNatClampNeg) / (2 : Int32)))], [], mH (S.1, (va_up S.2.1 46 (upd (S.2.1 46) ((S.2.1 43 v4.toNatClampNeg) / (2 : Int32)).toNatClampNeg ((S.2.1 46 ((S.2.1 43 v4.toNatClampNeg) / (2 : Int32)).toNatClampNeg) + (S.2.1 45 v4.toNatClampNeg)))), S.2.2), 0, 0)) rfl ⟨h16, h18, trivial⟩ ?_
  exact K68_157_ok d h o1 o6 hc0 hc1 hc2 hc3
def K68_340 (n : Nat) (S : mSt) (v2 v3 v4 v5 : Int32) : Option (Nat × mSt × Int32 × Int32 × Int32 × Int32) := if v2 < v3 then ((F74 n S v4).bind fun r42 => (some (0, r42, v3, v3, v4, v5))) else (if v3 = v2 then (if (S.1 29) ≤ v4 then (some (0, S, v2, v3, v4, v5)) else ((F74 n S v4).bind fun r46 => (some (0, r46, v3, v3, v4, v5)))) else (some (0, S, v2, v3, v4, v5)))
set_option maxRecDepth 100000 in
set_option maxHeartbeats 4000000 in
theorem K68_340_ok {sc : mS} (d : Nat) {n : Nat} {S : mSt} {v2 v3 v4 v5 : Int32} {r : Nat × mSt × Int32 × Int32 × Int32 × Int32} (h : K68_340 n S v2 v3 v4 v5 = some r) (o1 : Option Value) (o6 : Option Value) (o7 : Option Value) {Q : mR → List mE → Prop} (hc0 : r.1 = 0 → ∀ u1 : Option Value, ∀ u6 : Option Value, ∀ u7 : Option Value, mm_ev sc mmK mmP (d + 3) 68 (88, [some (.ref 34), u1, some (.int r.2.2.1), some (.int r.2.2.2.1), some (.int r.2.2.2.2.1), some (.int r.2.2.2.2.2), u6, u7], [], mH r.2.1, 0, 0) Q) (hc1 : r.1 = 1 → ∀ u1 : Option Value, ∀ u3 : Option Value, ∀ u4 : Option Value, ∀ u5 : Option Value, ∀ u6 : Option Value, ∀ u7 : Option Value, mm_ev sc mmK mmP (d + 3) 68 (370, [some (.ref 34), u1, some (.int r.2.2.1), u3, u4, u5, u6, u7], [], mH r.2.1, 0, 0) Q) (hc2 : r.1 = 2 → ∀ u1 : Option Value, ∀ u3 : Option Value, ∀ u4 : Option Value, ∀ u5 : Option Value, ∀ u6 : Option Value, ∀ u7 : Option Value, mm_ev sc mmK mmP (d + 3) 68 (121, [some (.ref 34), u1, some (.int r.2.2.1), u3, u4, u5, u6, u7], [], mH r.2.1, 0, 0) Q) (hc3 : r.1 = 3 → ∀ u1 : Option Value, ∀ u3 : Option Value, ∀ u4 : Option Value, ∀ u5 : Option Value, ∀ u6 : Option Value, ∀ u7 : Option Value, mm_ev sc mmK mmP (d + 3) 68 (224, [some (.ref 34), u1, some (.int r.2.2.1), u3, u4, u5, u6, u7], [], mH r.2.1, 0, 0) Q) : mm_ev sc mmK mmP (d + 3) 68 (340, [some (.ref 34), o1, some (.int v2), some (.int v3), some (.int v4), some (.int v5), o6, o7], [], mH S, 0, 0) Q := by
  unfold K68_340 at h
  by_cases h41 : v2 < v3
  · rw [if_pos h41] at h
    refine mm_ev.go [true, true, true] (ps := [mm_cmp .gt v3 v2]) (c1 := (359, [some (.ref 34), o1, some (.int v2), some (.int v3), some (.int v4), some (.int v5), o6, o7], [], mH S, 0, 0)) rfl ⟨h41, trivial⟩ ?_
    refine mm_ev.go [true, true, true, true] (ps := []) (c1 := (364, [some (.ref 34), o1, some (.int v3), some (.int v3), some (.int v4), some (.int v5), o6, o7], [.int v4, .ref 34], mH S, 0, 0)) rfl trivial ?_
    obtain ⟨r42, h43, h⟩ := mb_b h
    refine mm_ev.call (q := mq68) (q2 := mq74) (b := (364, .invokevirtual 137, 3, 2, 2, 74, 2, 6, [829, 826, 828, 54, 44])) (as := [.ref 34, .int v4]) (r := []) (v := none) (h1 := mH r42) rfl rfl rfl rfl ⟨Nat.le_of_ble_eq_true rfl, Nat.le_of_ble_eq_true rfl, Nat.le_of_ble_eq_true rfl⟩ (F74_ok (d + 1) h43) ?_
    refine mm_ev.to (c := (367, [some (.ref 34), o1, some (.int v3), some (.int v3), some (.int v4), some (.int v5), o6, o7], [], mH r42, 0, 0)) rfl ?_
    refine mm_ev.go [true] (ps := []) (c1 := (88, [some (.ref 34), o1, some (.int v3), some (.int v3), some (.int v4), some (.int v5), o6, o7], [], mH r42, 0, 0)) rfl trivial ?_
    cases h
    exact hc0 rfl o1 o6 o7
  · rw [if_neg h41] at h
    refine mm_ev.go [true, true, false] (ps := [¬ mm_cmp .gt v3 v2]) (c1 := (345, [some (.ref 34), o1, some (.int v2), some (.int v3), some (.int v4), some (.int v5), o6, o7], [], mH S, 0, 0)) rfl ⟨h41, trivial⟩ ?_
    by_cases h44 : v3 = v2
    · rw [if_pos h44] at h
      refine mm_ev.go [true, true, false] (ps := [¬ mm_cmp .ne v3 v2]) (c1 := (350, [some (.ref 34), o1, some (.int v2), some (.int v3), some (.int v4), some (.int v5), o6, o7], [], mH S, 0, 0)) rfl ⟨(fun z => z h44), trivial⟩ ?_
      by_cases h45 : (S.1 29) ≤ v4
      · rw [if_pos h45] at h
        refine mm_ev.go [true, true, true, true] (ps := [mm_cmp .ge v4 (S.1 29)]) (c1 := (367, [some (.ref 34), o1, some (.int v2), some (.int v3), some (.int v4), some (.int v5), o6, o7], [], mH S, 0, 0)) rfl ⟨h45, trivial⟩ ?_
        refine mm_ev.go [true] (ps := []) (c1 := (88, [some (.ref 34), o1, some (.int v2), some (.int v3), some (.int v4), some (.int v5), o6, o7], [], mH S, 0, 0)) rfl trivial ?_
        cases h
        exact hc0 rfl o1 o6 o7
      · rw [if_neg h45] at h
        refine mm_ev.go [true, true, true, false] (ps := [¬ mm_cmp .ge v4 (S.1 29)]) (c1 := (359, [some (.ref 34), o1, some (.int v2), some (.int v3), some (.int v4), some (.int v5), o6, o7], [], mH S, 0, 0)) rfl ⟨h45, trivial⟩ ?_
        refine mm_ev.go [true, true, true, true] (ps := []) (c1 := (364, [some (.ref 34), o1, some (.int v3), some (.int v3), some (.int v4), some (.int v5), o6, o7], [.int v4, .ref 34], mH S, 0, 0)) rfl trivial ?_
        obtain ⟨r46, h47, h⟩ := mb_b h
        refine mm_ev.call (q := mq68) (q2 := mq74) (b := (364, .invokevirtual 137, 3, 2, 2, 74, 2, 6, [829, 826, 828, 54, 44])) (as := [.ref 34, .int v4]) (r := []) (v := none) (h1 := mH r46) rfl rfl rfl rfl ⟨Nat.le_of_ble_eq_true rfl, Nat.le_of_ble_eq_true rfl, Nat.le_of_ble_eq_true rfl⟩ (F74_ok (d + 1) h47) ?_
        refine mm_ev.to (c := (367, [some (.ref 34), o1, some (.int v3), some (.int v3), some (.int v4), some (.int v5), o6, o7], [], mH r46, 0, 0)) rfl ?_
        refine mm_ev.go [true] (ps := []) (c1 := (88, [some (.ref 34), o1, some (.int v3), some (.int v3), some (.int v4), some (.int v5), o6, o7], [], mH r46, 0, 0)) rfl trivial ?_
        cases h
        exact hc0 rfl o1 o6 o7
    · rw [if_neg h44] at h
      refine mm_ev.go [true, true, true] (ps := [mm_cmp .ne v3 v2]) (c1 := (367, [some (.ref 34), o1, some (.int v2), some (.int v3), some (.int v4), some (.int v5), o6, o7], [], mH S, 0, 0)) rfl ⟨h44, trivial⟩ ?_
      refine mm_ev.go [true] (ps := []) (c1 := (88, [some (.ref 34), o1, some (.int v2), some (.int v3), some (.int v4), some (.int v5), o6, o7], [], mH S, 0, 0)) rfl trivial ?_
      cases h
      exact hc0 rfl o1 o6 o7
def K68_332 (n : Nat) (S : mSt) (v2 v3 v4 v5 : Int32) : Option (Nat × mSt × Int32 × Int32 × Int32 × Int32) := if 0 ≤ v4 ∧ v4.toNatClampNeg < 202 then K68_340 n (S.1, (va_up S.2.1 43 (upd (S.2.1 43) v4.toNatClampNeg (0 : Int32))), S.2.2) v2 v3 v4 v5 else none
set_option maxRecDepth 100000 in
set_option maxHeartbeats 4000000 in
theorem K68_332_ok {sc : mS} (d : Nat) {n : Nat} {S : mSt} {v2 v3 v4 v5 : Int32} {r : Nat × mSt × Int32 × Int32 × Int32 × Int32} (h : K68_332 n S v2 v3 v4 v5 = some r) (o1 : Option Value) (o6 : Option Value) (o7 : Option Value) {Q : mR → List mE → Prop} (hc0 : r.1 = 0 → ∀ u1 : Option Value, ∀ u6 : Option Value, ∀ u7 : Option Value, mm_ev sc mmK mmP (d + 3) 68 (88, [some (.ref 34), u1, some (.int r.2.2.1), some (.int r.2.2.2.1), some (.int r.2.2.2.2.1), some (.int r.2.2.2.2.2), u6, u7], [], mH r.2.1, 0, 0) Q) (hc1 : r.1 = 1 → ∀ u1 : Option Value, ∀ u3 : Option Value, ∀ u4 : Option Value, ∀ u5 : Option Value, ∀ u6 : Option Value, ∀ u7 : Option Value, mm_ev sc mmK mmP (d + 3) 68 (370, [some (.ref 34), u1, some (.int r.2.2.1), u3, u4, u5, u6, u7], [], mH r.2.1, 0, 0) Q) (hc2 : r.1 = 2 → ∀ u1 : Option Value, ∀ u3 : Option Value, ∀ u4 : Option Value, ∀ u5 : Option Value, ∀ u6 : Option Value, ∀ u7 : Option Value, mm_ev sc mmK mmP (d + 3) 68 (121, [some (.ref 34), u1, some (.int r.2.2.1), u3, u4, u5, u6, u7], [], mH r.2.1, 0, 0) Q) (hc3 : r.1 = 3 → ∀ u1 : Option Value, ∀ u3 : Option Value, ∀ u4 : Option Value, ∀ u5 : Option Value, ∀ u6 : Option Value, ∀ u7 : Option Value, mm_ev sc mmK mmP (d + 3) 68 (224, [some (.ref 34), u1, some (.int r.2.2.1), u3, u4, u5, u6, u7], [], mH r.2.1, 0, 0) Q) : mm_ev sc mmK mmP (d + 3) 68 (332, [some (.ref 34), o1, some (.int v2), some (.int v3), some (.int v4), some (.int v5), o6, o7], [], mH S, 0, 0) Q := by
  unfold K68_332 at h
  obtain ⟨h40, h⟩ := mb_i h
  refine mm_ev.go [true, true, true, true, true] (ps := [mm_in v4 202]) (c1 := (340, [some (.ref 34), o1, some (.int v2), some (.int v3), some (.int v4), some (.int v5), o6, o7], [], mH (S.1, (va_up S.2.1 43 (upd (S.2.1 43) v4.toNatClampNeg (0 : Int32))), S.2.2), 0, 0)) rfl ⟨h40, trivial⟩ ?_
  exact K68_340_ok d h o1 o6 o7 hc0 hc1 hc2 hc3
def K68_304 (n : Nat) (S : mSt) (v2 v3 v4 v5 v6 : Int32) : Option (Nat × mSt × Int32 × Int32 × Int32 × Int32) := if 0 ≤ (v4 - (1 : Int32)) ∧ (v4 - (1 : Int32)).toNatClampNeg < 202 then (F70 S v6).bind fun r37 => (if 0 ≤ v4 ∧ v4.toNatClampNeg < 202 then K68_332 n (S.1, (va_up S.2.1 44 (upd (S.2.1 44) v4.toNatClampNeg (((S.2.1 44 (v4 - (1 : Int32)).toNatClampNeg) + r37) + (S.1 19)))), S.2.2) v2 v3 v4 v5 else none) else none
set_option maxRecDepth 100000 in
set_option maxHeartbeats 4000000 in
theorem K68_304_ok {sc : mS} (d : Nat) {n : Nat} {S : mSt} {v2 v3 v4 v5 v6 : Int32} {r : Nat × mSt × Int32 × Int32 × Int32 × Int32} (h : K68_304 n S v2 v3 v4 v5 v6 = some r) (o1 : Option Value) (o7 : Option Value) {Q : mR → List mE → Prop} (hc0 : r.1 = 0 → ∀ u1 : Option Value, ∀ u6 : Option Value, ∀ u7 : Option Value, mm_ev sc mmK mmP (d + 3) 68 (88, [some (.ref 34), u1, some (.int r.2.2.1), some (.int r.2.2.2.1), some (.int r.2.2.2.2.1), some (.int r.2.2.2.2.2), u6, u7], [], mH r.2.1, 0, 0) Q) (hc1 : r.1 = 1 → ∀ u1 : Option Value, ∀ u3 : Option Value, ∀ u4 : Option Value, ∀ u5 : Option Value, ∀ u6 : Option Value, ∀ u7 : Option Value, mm_ev sc mmK mmP (d + 3) 68 (370, [some (.ref 34), u1, some (.int r.2.2.1), u3, u4, u5, u6, u7], [], mH r.2.1, 0, 0) Q) (hc2 : r.1 = 2 → ∀ u1 : Option Value, ∀ u3 : Option Value, ∀ u4 : Option Value, ∀ u5 : Option Value, ∀ u6 : Option Value, ∀ u7 : Option Value, mm_ev sc mmK mmP (d + 3) 68 (121, [some (.ref 34), u1, some (.int r.2.2.1), u3, u4, u5, u6, u7], [], mH r.2.1, 0, 0) Q) (hc3 : r.1 = 3 → ∀ u1 : Option Value, ∀ u3 : Option Value, ∀ u4 : Option Value, ∀ u5 : Option Value, ∀ u6 : Option Value, ∀ u7 : Option Value, mm_ev sc mmK mmP (d + 3) 68 (224, [some (.ref 34), u1, some (.int r.2.2.1), u3, u4, u5, u6, u7], [], mH r.2.1, 0, 0) Q) : mm_ev sc mmK mmP (d + 3) 68 (304, [some (.ref 34), o1, some (.int v2), some (.int v3), some (.int v4), some (.int v5), some (.int v6), o7], [], mH S, 0, 0) Q := by
  unfold K68_304 at h
  obtain ⟨h36, h⟩ := mb_i h
  refine mm_ev.go [true, true, true, true, true, true, true, true] (ps := []) (c1 := (318, [some (.ref 34), o1, some (.int v2), some (.int v3), some (.int v4), some (.int v5), some (.int v6), o7], [.int (v4 - (1 : Int32)), .ref 44, .int v4, .ref 44], mH S, 0, 0)) rfl trivial ?_
  refine mm_ev.go [true, true, true] (ps := [mm_in (v4 - (1 : Int32)) 202]) (c1 := (322, [some (.ref 34), o1, some (.int v2), some (.int v3), some (.int v4), some (.int v5), some (.int v6), o7], [.int v6, .ref 34, .int (S.2.1 44 (v4 - (1 : Int32)).toNatClampNeg), .int v4, .ref 44], mH S, 0, 0)) rfl ⟨h36, trivial⟩ ?_
  obtain ⟨r37, h38, h⟩ := mb_b h
  refine mm_ev.call (q := mq68) (q2 := mq70) (b := (322, .invokevirtual 117, 3, 2, 2, 70, 2, 6, [813, 810, 812, 54, 40])) (as := [.ref 34, .int v6]) (r := [.int (S.2.1 44 (v4 - (1 : Int32)).toNatClampNeg), .int v4, .ref 44]) (v := (some (.int r37))) (h1 := mH S) rfl rfl rfl rfl ⟨Nat.le_of_ble_eq_true rfl, Nat.le_of_ble_eq_true rfl, Nat.le_of_ble_eq_true rfl⟩ (F70_ok (d + 2) h38) ?_
  refine mm_ev.to (c := (325, [some (.ref 34), o1, some (.int v2), some (.int v3), some (.int v4), some (.int v5), some (.int v6), o7], [.int r37, .int (S.2.1 44 (v4 - (1 : Int32)).toNatClampNeg), .int v4, .ref 44], mH S, 0, 0)) rfl ?_
  obtain ⟨h39, h⟩ := mb_i h
  refine mm_ev.go [true, true, true, true, true] (ps := [mm_in v4 202]) (c1 := (332, [some (.ref 34), o1, some (.int v2), some (.int v3), some (.int v4), some (.int v5), some (.int v6), o7], [], mH (S.1, (va_up S.2.1 44 (upd (S.2.1 44) v4.toNatClampNeg (((S.2.1 44 (v4 - (1 : Int32)).toNatClampNeg) + r37) + (S.1 19)))), S.2.2), 0, 0)) rfl ⟨h39, trivial⟩ ?_
  exact K68_332_ok d h o1 (some (.int v6)) o7 hc0 hc1 hc2 hc3
def K68_283 (n : Nat) (S : mSt) (v2 v3 v4 v5 v6 v7 : Int32) : Option (Nat × mSt × Int32 × Int32 × Int32 × Int32) := if 0 ≤ v4 ∧ v4.toNatClampNeg < 202 then if 0 ≤ v7 ∧ v7.toNatClampNeg < 5 then K68_304 n S v2 (v3 + ((S.2.1 45 v4.toNatClampNeg) * (S.2.1 38 v7.toNatClampNeg))) (v4 + (1 : Int32)) v5 v6 else none else none
set_option maxRecDepth 100000 in
set_option maxHeartbeats 4000000 in
theorem K68_283_ok {sc : mS} (d : Nat) {n : Nat} {S : mSt} {v2 v3 v4 v5 v6 v7 : Int32} {r : Nat × mSt × Int32 × Int32 × Int32 × Int32} (h : K68_283 n S v2 v3 v4 v5 v6 v7 = some r) (o1 : Option Value) {Q : mR → List mE → Prop} (hc0 : r.1 = 0 → ∀ u1 : Option Value, ∀ u6 : Option Value, ∀ u7 : Option Value, mm_ev sc mmK mmP (d + 3) 68 (88, [some (.ref 34), u1, some (.int r.2.2.1), some (.int r.2.2.2.1), some (.int r.2.2.2.2.1), some (.int r.2.2.2.2.2), u6, u7], [], mH r.2.1, 0, 0) Q) (hc1 : r.1 = 1 → ∀ u1 : Option Value, ∀ u3 : Option Value, ∀ u4 : Option Value, ∀ u5 : Option Value, ∀ u6 : Option Value, ∀ u7 : Option Value, mm_ev sc mmK mmP (d + 3) 68 (370, [some (.ref 34), u1, some (.int r.2.2.1), u3, u4, u5, u6, u7], [], mH r.2.1, 0, 0) Q) (hc2 : r.1 = 2 → ∀ u1 : Option Value, ∀ u3 : Option Value, ∀ u4 : Option Value, ∀ u5 : Option Value, ∀ u6 : Option Value, ∀ u7 : Option Value, mm_ev sc mmK mmP (d + 3) 68 (121, [some (.ref 34), u1, some (.int r.2.2.1), u3, u4, u5, u6, u7], [], mH r.2.1, 0, 0) Q) (hc3 : r.1 = 3 → ∀ u1 : Option Value, ∀ u3 : Option Value, ∀ u4 : Option Value, ∀ u5 : Option Value, ∀ u6 : Option Value, ∀ u7 : Option Value, mm_ev sc mmK mmP (d + 3) 68 (224, [some (.ref 34), u1, some (.int r.2.2.1), u3, u4, u5, u6, u7], [], mH r.2.1, 0, 0) Q) : mm_ev sc mmK mmP (d + 3) 68 (283, [some (.ref 34), o1, some (.int v2), some (.int v3), some (.int v4), some (.int v5), some (.int v6), some (.int v7)], [], mH S, 0, 0) Q := by
  unfold K68_283 at h
  obtain ⟨h34, h⟩ := mb_i h
  obtain ⟨h35, h⟩ := mb_i h
  refine mm_ev.go [true, true, true, true, true, true, true, true] (ps := [mm_in v4 202]) (c1 := (297, [some (.ref 34), o1, some (.int v2), some (.int v3), some (.int v4), some (.int v5), some (.int v6), some (.int v7)], [.int v7, .ref 38, .int (S.2.1 45 v4.toNatClampNeg), .int v3], mH S, 0, 0)) rfl ⟨h34, trivial⟩ ?_
  refine mm_ev.go [true, true, true, true, true] (ps := [mm_in v7 5]) (c1 := (304, [some (.ref 34), o1, some (.int v2), some (.int (v3 + ((S.2.1 45 v4.toNatClampNeg) * (S.2.1 38 v7.toNatClampNeg)))), some (.int (v4 + (1 : Int32))), some (.int v5), some (.int v6), some (.int v7)], [], mH S, 0, 0)) rfl ⟨h35, trivial⟩ ?_
  exact K68_304_ok d h o1 (some (.int v7)) hc0 hc1 hc2 hc3
def K68_261 (n : Nat) (S : mSt) (v2 v3 v4 v5 v6 v7 : Int32) : Option (Nat × mSt × Int32 × Int32 × Int32 × Int32) := if 0 ≤ v7 ∧ v7.toNatClampNeg < 5 then if 0 ≤ v4 ∧ v4.toNatClampNeg < 202 then K68_283 n (S.1, (va_up S.2.1 46 (upd (S.2.1 46) v7.toNatClampNeg ((S.2.1 46 v7.toNatClampNeg) - (S.2.1 45 v4.toNatClampNeg)))), S.2.2) v2 v3 v4 v5 v6 v7 else none else none
set_option maxRecDepth 100000 in
set_option maxHeartbeats 4000000 in
theorem K68_261_ok {sc : mS} (d : Nat) {n : Nat} {S : mSt} {v2 v3 v4 v5 v6 v7 : Int32} {r : Nat × mSt × Int32 × Int32 × Int32 × Int32} (h : K68_261 n S v2 v3 v4 v5 v6 v7 = some r) (o1 : Option Value) {Q : mR → List mE → Prop} (hc0 : r.1 = 0 → ∀ u1 : Option Value, ∀ u6 : Option Value, ∀ u7 : Option Value, mm_ev sc mmK mmP (d + 3) 68 (88, [some (.ref 34), u1, some (.int r.2.2.1), some (.int r.2.2.2.1), some (.int r.2.2.2.2.1), some (.int r.2.2.2.2.2), u6, u7], [], mH r.2.1, 0, 0) Q) (hc1 : r.1 = 1 → ∀ u1 : Option Value, ∀ u3 : Option Value, ∀ u4 : Option Value, ∀ u5 : Option Value, ∀ u6 : Option Value, ∀ u7 : Option Value, mm_ev sc mmK mmP (d + 3) 68 (370, [some (.ref 34), u1, some (.int r.2.2.1), u3, u4, u5, u6, u7], [], mH r.2.1, 0, 0) Q) (hc2 : r.1 = 2 → ∀ u1 : Option Value, ∀ u3 : Option Value, ∀ u4 : Option Value, ∀ u5 : Option Value, ∀ u6 : Option Value, ∀ u7 : Option Value, mm_ev sc mmK mmP (d + 3) 68 (121, [some (.ref 34), u1, some (.int r.2.2.1), u3, u4, u5, u6, u7], [], mH r.2.1, 0, 0) Q) (hc3 : r.1 = 3 → ∀ u1 : Option Value, ∀ u3 : Option Value, ∀ u4 : Option Value, ∀ u5 : Option Value, ∀ u6 : Option Value, ∀ u7 : Option Value, mm_ev sc mmK mmP (d + 3) 68 (224, [some (.ref 34), u1, some (.int r.2.2.1), u3, u4, u5, u6, u7], [], mH r.2.1, 0, 0) Q) : mm_ev sc mmK mmP (d + 3) 68 (261, [some (.ref 34), o1, some (.int v2), some (.int v3), some (.int v4), some (.int v5), some (.int v6), some (.int v7)], [], mH S, 0, 0) Q := by
  unfold K68_261 at h
  obtain ⟨h32, h⟩ := mb_i h
  obtain ⟨h33, h⟩ := mb_i h
  refine mm_ev.go [true, true, true, true, true, true, true, true] (ps := [mm_in v7 5]) (c1 := (275, [some (.ref 34), o1, some (.int v2), some (.int v3), some (.int v4), some (.int v5), some (.int v6), some (.int v7)], [.ref 34, .int (S.2.1 46 v7.toNatClampNeg), .int v7, .ref 46], mH S, 0, 0)) rfl ⟨h32, trivial⟩ ?_
  refine mm_ev.go [true, true, true, true, true] (ps := [mm_in v4 202, mm_in v7 5]) (c1 := (283, [some (.ref 34), o1, some (.int v2), some (.int v3), some (.int v4), some (.int v5), some (.int v6), some (.int v7)], [], mH (S.1, (va_up S.2.1 46 (upd (S.2.1 46) v7.toNatClampNeg ((S.2.1 46 v7.toNatClampNeg) - (S.2.1 45 v4.toNatClampNeg)))), S.2.2), 0, 0)) rfl ⟨h33, h32, trivial⟩ ?_
  exact K68_283_ok d h o1 hc0 hc1 hc2 hc3
def K68_232 (n : Nat) (S : mSt) (v2 v3 v4 v5 v6 : Int32) : Option (Nat × mSt × Int32 × Int32 × Int32 × Int32) := if ¬ (2 : Int32) = 0 then if 0 ≤ (v6 / (2 : Int32)) ∧ (v6 / (2 : Int32)).toNatClampNeg < 5 then (F72 n S v6 (S.2.1 46 (v6 / (2 : Int32)).toNatClampNeg)).bind fun r29 => (if 0 ≤ v4 ∧ v4.toNatClampNeg < 202 then K68_261 n (S.1, (va_up S.2.1 45 (upd (S.2.1 45) v4.toNatClampNeg r29)), S.2.2) v2 v3 v4 (v5 + (-1 : Int32)) v6 (v6 / (2 : Int32)) else none) else none else none
set_option maxRecDepth 100000 in
set_option maxHeartbeats 4000000 in
theorem K68_232_ok {sc : mS} (d : Nat) {n : Nat} {S : mSt} {v2 v3 v4 v5 v6 : Int32} {r : Nat × mSt × Int32 × Int32 × Int32 × Int32} (h : K68_232 n S v2 v3 v4 v5 v6 = some r) (o1 : Option Value) (o7 : Option Value) {Q : mR → List mE → Prop} (hc0 : r.1 = 0 → ∀ u1 : Option Value, ∀ u6 : Option Value, ∀ u7 : Option Value, mm_ev sc mmK mmP (d + 3) 68 (88, [some (.ref 34), u1, some (.int r.2.2.1), some (.int r.2.2.2.1), some (.int r.2.2.2.2.1), some (.int r.2.2.2.2.2), u6, u7], [], mH r.2.1, 0, 0) Q) (hc1 : r.1 = 1 → ∀ u1 : Option Value, ∀ u3 : Option Value, ∀ u4 : Option Value, ∀ u5 : Option Value, ∀ u6 : Option Value, ∀ u7 : Option Value, mm_ev sc mmK mmP (d + 3) 68 (370, [some (.ref 34), u1, some (.int r.2.2.1), u3, u4, u5, u6, u7], [], mH r.2.1, 0, 0) Q) (hc2 : r.1 = 2 → ∀ u1 : Option Value, ∀ u3 : Option Value, ∀ u4 : Option Value, ∀ u5 : Option Value, ∀ u6 : Option Value, ∀ u7 : Option Value, mm_ev sc mmK mmP (d + 3) 68 (121, [some (.ref 34), u1, some (.int r.2.2.1), u3, u4, u5, u6, u7], [], mH r.2.1, 0, 0) Q) (hc3 : r.1 = 3 → ∀ u1 : Option Value, ∀ u3 : Option Value, ∀ u4 : Option Value, ∀ u5 : Option Value, ∀ u6 : Option Value, ∀ u7 : Option Value, mm_ev sc mmK mmP (d + 3) 68 (224, [some (.ref 34), u1, some (.int r.2.2.1), u3, u4, u5, u6, u7], [], mH r.2.1, 0, 0) Q) : mm_ev sc mmK mmP (d + 3) 68 (232, [some (.ref 34), o1, some (.int v2), some (.int v3), some (.int v4), some (.int v5), some (.int v6), o7], [], mH S, 0, 0) Q := by
  unfold K68_232 at h
  obtain ⟨h27, h⟩ := mb_i h
  obtain ⟨h28, h⟩ := mb_i h
  refine mm_ev.go [true, true, true, true, true, true, true, true] (ps := [¬ (2 : Int32) = 0]) (c1 := (247, [some (.ref 34), o1, some (.int v2), some (.int v3), some (.int v4), some (.int (v5 + (-1 : Int32))), some (.int v6), some (.int (v6 / (2 : Int32)))], [.int v4, .ref 45], mH S, 0, 0)) rfl ⟨h27, trivial⟩ ?_
  refine mm_ev.go [true, true, true, true, true, true] (ps := [mm_in (v6 / (2 : Int32)) 5]) (c1 := (257, [some (.ref 34), o1, some (.int v2), some (.int v3), some (.int v4), some (.int (v5 + (-1 : Int32))), some (.int v6), some (.int (v6 / (2 : Int32)))], [.int (S.2.1 46 (v6 / (2 : Int32)).toNatClampNeg), .int v6, .ref 34, .int v4, .ref 45], mH S, 0, 0)) rfl ⟨h28, trivial⟩ ?_
  obtain ⟨r29, h30, h⟩ := mb_b h
  refine mm_ev.call (q := mq68) (q2 := mq72) (b := (257, .invokevirtual 123, 3, 2, 2, 72, 3, 6, [821, 818, 820, 54, 42])) (as := [.ref 34, .int v6, .int (S.2.1 46 (v6 / (2 : Int32)).toNatClampNeg)]) (r := [.int v4, .ref 45]) (v := (some (.int r29))) (h1 := mH S) rfl rfl rfl rfl ⟨Nat.le_of_ble_eq_true rfl, Nat.le_of_ble_eq_true rfl, Nat.le_of_ble_eq_true rfl⟩ (F72_ok (d + 1) h30) ?_
  refine mm_ev.to (c := (260, [some (.ref 34), o1, some (.int v2), some (.int v3), some (.int v4), some (.int (v5 + (-1 : Int32))), some (.int v6), some (.int (v6 / (2 : Int32)))], [.int r29, .int v4, .ref 45], mH S, 0, 0)) rfl ?_
  obtain ⟨h31, h⟩ := mb_i h
  refine mm_ev.go [true] (ps := [mm_in v4 202]) (c1 := (261, [some (.ref 34), o1, some (.int v2), some (.int v3), some (.int v4), some (.int (v5 + (-1 : Int32))), some (.int v6), some (.int (v6 / (2 : Int32)))], [], mH (S.1, (va_up S.2.1 45 (upd (S.2.1 45) v4.toNatClampNeg r29)), S.2.2), 0, 0)) rfl ⟨h31, trivial⟩ ?_
  exact K68_261_ok d h o1 hc0 hc1 hc2 hc3
def K68_219 (n : Nat) (S : mSt) (v2 v3 v4 v5 v6 : Int32) : Option (Nat × mSt × Int32 × Int32 × Int32 × Int32) := if v5 = (0 : Int32) then (some (3, S, v2, 0, 0, 0)) else (K68_232 n S v2 v3 v4 v5 v6)
set_option maxRecDepth 100000 in
set_option maxHeartbeats 4000000 in
theorem K68_219_ok {sc : mS} (d : Nat) {n : Nat} {S : mSt} {v2 v3 v4 v5 v6 : Int32} {r : Nat × mSt × Int32 × Int32 × Int32 × Int32} (h : K68_219 n S v2 v3 v4 v5 v6 = some r) (o1 : Option Value) (o7 : Option Value) {Q : mR → List mE → Prop} (hc0 : r.1 = 0 → ∀ u1 : Option Value, ∀ u6 : Option Value, ∀ u7 : Option Value, mm_ev sc mmK mmP (d + 3) 68 (88, [some (.ref 34), u1, some (.int r.2.2.1), some (.int r.2.2.2.1), some (.int r.2.2.2.2.1), some (.int r.2.2.2.2.2), u6, u7], [], mH r.2.1, 0, 0) Q) (hc1 : r.1 = 1 → ∀ u1 : Option Value, ∀ u3 : Option Value, ∀ u4 : Option Value, ∀ u5 : Option Value, ∀ u6 : Option Value, ∀ u7 : Option Value, mm_ev sc mmK mmP (d + 3) 68 (370, [some (.ref 34), u1, some (.int r.2.2.1), u3, u4, u5, u6, u7], [], mH r.2.1, 0, 0) Q) (hc2 : r.1 = 2 → ∀ u1 : Option Value, ∀ u3 : Option Value, ∀ u4 : Option Value, ∀ u5 : Option Value, ∀ u6 : Option Value, ∀ u7 : Option Value, mm_ev sc mmK mmP (d + 3) 68 (121, [some (.ref 34), u1, some (.int r.2.2.1), u3, u4, u5, u6, u7], [], mH r.2.1, 0, 0) Q) (hc3 : r.1 = 3 → ∀ u1 : Option Value, ∀ u3 : Option Value, ∀ u4 : Option Value, ∀ u5 : Option Value, ∀ u6 : Option Value, ∀ u7 : Option Value, mm_ev sc mmK mmP (d + 3) 68 (224, [some (.ref 34), u1, some (.int r.2.2.1), u3, u4, u5, u6, u7], [], mH r.2.1, 0, 0) Q) : mm_ev sc mmK mmP (d + 3) 68 (219, [some (.ref 34), o1, some (.int v2), some (.int v3), some (.int v4), some (.int v5), some (.int v6), o7], [], mH S, 0, 0) Q := by
  unfold K68_219 at h
  by_cases h26 : v5 = (0 : Int32)
  · rw [if_pos h26] at h
    refine mm_ev.go [true, false] (ps := [¬ mm_cmp .ne v5 (0 : Int32)]) (c1 := (224, [some (.ref 34), o1, some (.int v2), some (.int v3), some (.int v4), some (.int v5), some (.int v6), o7], [], mH S, 0, 0)) rfl ⟨(fun z => z h26), trivial⟩ ?_
    cases h
    exact hc3 rfl o1 (some (.int v3)) (some (.int v4)) (some (.int v5)) (some (.int v6)) o7
  · rw [if_neg h26] at h
    refine mm_ev.go [true, true] (ps := [mm_cmp .ne v5 (0 : Int32)]) (c1 := (232, [some (.ref 34), o1, some (.int v2), some (.int v3), some (.int v4), some (.int v5), some (.int v6), o7], [], mH S, 0, 0)) rfl ⟨h26, trivial⟩ ?_
    exact K68_232_ok d h o1 o7 hc0 hc1 hc2 hc3
def K68_189 (n : Nat) (S : mSt) (v2 v3 v4 v5 v6 : Int32) : Option (Nat × mSt × Int32 × Int32 × Int32 × Int32) := if 0 ≤ v4 ∧ v4.toNatClampNeg < 202 then (F69 n S v6 (S.2.1 44 v4.toNatClampNeg)).bind fun r23 => (if r23 = (0 : Int32) then (some (0, (S.1, (va_up S.2.1 43 (upd (S.2.1 43) v4.toNatClampNeg ((S.2.1 43 v4.toNatClampNeg) + (1 : Int32)))), S.2.2), v2, v3, v4, v5)) else (K68_219 n S v2 v3 v4 v5 v6)) else none
set_option maxRecDepth 100000 in
set_option maxHeartbeats 4000000 in
theorem K68_189_ok {sc : mS} (d : Nat) {n : Nat} {S : mSt} {v2 v3 v4 v5 v6 : Int32} {r : Nat × mSt × Int32 × Int32 × Int32 × Int32} (h : K68_189 n S v2 v3 v4 v5 v6 = some r) (o1 : Option Value) (o7 : Option Value) {Q : mR → List mE → Prop} (hc0 : r.1 = 0 → ∀ u1 : Option Value, ∀ u6 : Option Value, ∀ u7 : Option Value, mm_ev sc mmK mmP (d + 3) 68 (88, [some (.ref 34), u1, some (.int r.2.2.1), some (.int r.2.2.2.1), some (.int r.2.2.2.2.1), some (.int r.2.2.2.2.2), u6, u7], [], mH r.2.1, 0, 0) Q) (hc1 : r.1 = 1 → ∀ u1 : Option Value, ∀ u3 : Option Value, ∀ u4 : Option Value, ∀ u5 : Option Value, ∀ u6 : Option Value, ∀ u7 : Option Value, mm_ev sc mmK mmP (d + 3) 68 (370, [some (.ref 34), u1, some (.int r.2.2.1), u3, u4, u5, u6, u7], [], mH r.2.1, 0, 0) Q) (hc2 : r.1 = 2 → ∀ u1 : Option Value, ∀ u3 : Option Value, ∀ u4 : Option Value, ∀ u5 : Option Value, ∀ u6 : Option Value, ∀ u7 : Option Value, mm_ev sc mmK mmP (d + 3) 68 (121, [some (.ref 34), u1, some (.int r.2.2.1), u3, u4, u5, u6, u7], [], mH r.2.1, 0, 0) Q) (hc3 : r.1 = 3 → ∀ u1 : Option Value, ∀ u3 : Option Value, ∀ u4 : Option Value, ∀ u5 : Option Value, ∀ u6 : Option Value, ∀ u7 : Option Value, mm_ev sc mmK mmP (d + 3) 68 (224, [some (.ref 34), u1, some (.int r.2.2.1), u3, u4, u5, u6, u7], [], mH r.2.1, 0, 0) Q) : mm_ev sc mmK mmP (d + 3) 68 (189, [some (.ref 34), o1, some (.int v2), some (.int v3), some (.int v4), some (.int v5), some (.int v6), o7], [], mH S, 0, 0) Q := by
  unfold K68_189 at h
  obtain ⟨h22, h⟩ := mb_i h
  refine mm_ev.go [true, true, true, true, true, true] (ps := [mm_in v4 202]) (c1 := (199, [some (.ref 34), o1, some (.int v2), some (.int v3), some (.int v4), some (.int v5), some (.int v6), o7], [.int (S.2.1 44 v4.toNatClampNeg), .int v6, .ref 34], mH S, 0, 0)) rfl ⟨h22, trivial⟩ ?_
  obtain ⟨r23, h24, h⟩ := mb_b h
  refine mm_ev.call (q := mq68) (q2 := mq69) (b := (199, .invokevirtual 133, 3, 2, 2, 69, 3, 6, [809, 806, 808, 54, 39])) (as := [.ref 34, .int v6, .int (S.2.1 44 v4.toNatClampNeg)]) (r := []) (v := (some (.int r23))) (h1 := mH S) rfl rfl rfl rfl ⟨Nat.le_of_ble_eq_true rfl, Nat.le_of_ble_eq_true rfl, Nat.le_of_ble_eq_true rfl⟩ (F69_ok d h24) ?_
  refine mm_ev.to (c := (202, [some (.ref 34), o1, some (.int v2), some (.int v3), some (.int v4), some (.int v5), some (.int v6), o7], [.int r23], mH S, 0, 0)) rfl ?_
  by_cases h25 : r23 = (0 : Int32)
  · rw [if_pos h25] at h
    refine mm_ev.go [false] (ps := [¬ mm_cmp .ne r23 (0 : Int32)]) (c1 := (205, [some (.ref 34), o1, some (.int v2), some (.int v3), some (.int v4), some (.int v5), some (.int v6), o7], [], mH S, 0, 0)) rfl ⟨(fun z => z h25), trivial⟩ ?_
    refine mm_ev.go [true, true, true, true, true, true, true, true] (ps := [mm_in v4 202, mm_in v4 202]) (c1 := (216, [some (.ref 34), o1, some (.int v2), some (.int v3), some (.int v4), some (.int v5), some (.int v6), o7], [], mH (S.1, (va_up S.2.1 43 (upd (S.2.1 43) v4.toNatClampNeg ((S.2.1 43 v4.toNatClampNeg) + (1 : Int32)))), S.2.2), 0, 0)) rfl ⟨h22, h22, trivial⟩ ?_
    refine mm_ev.go [true] (ps := []) (c1 := (88, [some (.ref 34), o1, some (.int v2), some (.int v3), some (.int v4), some (.int v5), some (.int v6), o7], [], mH (S.1, (va_up S.2.1 43 (upd (S.2.1 43) v4.toNatClampNeg ((S.2.1 43 v4.toNatClampNeg) + (1 : Int32)))), S.2.2), 0, 0)) rfl trivial ?_
    cases h
    exact hc0 rfl o1 (some (.int v6)) o7
  · rw [if_neg h25] at h
    refine mm_ev.go [true] (ps := [mm_cmp .ne r23 (0 : Int32)]) (c1 := (219, [some (.ref 34), o1, some (.int v2), some (.int v3), some (.int v4), some (.int v5), some (.int v6), o7], [], mH S, 0, 0)) rfl ⟨h25, trivial⟩ ?_
    exact K68_219_ok d h o1 o7 hc0 hc1 hc2 hc3
def I68_88 (n : Nat) (S : mSt) (v2 v3 v4 v5 : Int32) : Option (Nat × mSt × Int32 × Int32 × Int32 × Int32) := if v4 < (0 : Int32) then (some (1, S, v2, 0, 0, 0)) else (if 0 ≤ v4 ∧ v4.toNatClampNeg < 202 then if (S.2.1 43 v4.toNatClampNeg) = ((2 : Int32) * (S.1 25)) then (if (0 : Int32) ≤ (v4 + (-1 : Int32)) then (K68_124 S v2 v3 (v4 + (-1 : Int32)) v5) else (some (2, S, v2, 0, 0, 0))) else (K68_189 n S v2 v3 v4 v5 (S.2.1 43 v4.toNatClampNeg)) else none)
set_option maxRecDepth 100000 in
set_option maxHeartbeats 4000000 in
theorem I68_88_ok {sc : mS} (d : Nat) {n : Nat} {S : mSt} {v2 v3 v4 v5 : Int32} {r : Nat × mSt × Int32 × Int32 × Int32 × Int32} (h : I68_88 n S v2 v3 v4 v5 = some r) (o1 : Option Value) (o6 : Option Value) (o7 : Option Value) {Q : mR → List mE → Prop} (hc0 : r.1 = 0 → ∀ u1 : Option Value, ∀ u6 : Option Value, ∀ u7 : Option Value, mm_ev sc mmK mmP (d + 3) 68 (88, [some (.ref 34), u1, some (.int r.2.2.1), some (.int r.2.2.2.1), some (.int r.2.2.2.2.1), some (.int r.2.2.2.2.2), u6, u7], [], mH r.2.1, 0, 0) Q) (hc1 : r.1 = 1 → ∀ u1 : Option Value, ∀ u3 : Option Value, ∀ u4 : Option Value, ∀ u5 : Option Value, ∀ u6 : Option Value, ∀ u7 : Option Value, mm_ev sc mmK mmP (d + 3) 68 (370, [some (.ref 34), u1, some (.int r.2.2.1), u3, u4, u5, u6, u7], [], mH r.2.1, 0, 0) Q) (hc2 : r.1 = 2 → ∀ u1 : Option Value, ∀ u3 : Option Value, ∀ u4 : Option Value, ∀ u5 : Option Value, ∀ u6 : Option Value, ∀ u7 : Option Value, mm_ev sc mmK mmP (d + 3) 68 (121, [some (.ref 34), u1, some (.int r.2.2.1), u3, u4, u5, u6, u7], [], mH r.2.1, 0, 0) Q) (hc3 : r.1 = 3 → ∀ u1 : Option Value, ∀ u3 : Option Value, ∀ u4 : Option Value, ∀ u5 : Option Value, ∀ u6 : Option Value, ∀ u7 : Option Value, mm_ev sc mmK mmP (d + 3) 68 (224, [some (.ref 34), u1, some (.int r.2.2.1), u3, u4, u5, u6, u7], [], mH r.2.1, 0, 0) Q) : mm_ev sc mmK mmP (d + 3) 68 (88, [some (.ref 34), o1, some (.int v2), some (.int v3), some (.int v4), some (.int v5), o6, o7], [], mH S, 0, 0) Q := by
  unfold I68_88 at h
  by_cases h12 : v4 < (0 : Int32)
  · rw [if_pos h12] at h
    refine mm_ev.go [true, true] (ps := [mm_cmp .lt v4 (0 : Int32)]) (c1 := (370, [some (.ref 34), o1, some (.int v2), some (.int v3), some (.int v4), some (.int v5), o6, o7], [], mH S, 0, 0)) rfl ⟨h12, trivial⟩ ?_
    cases h
    exact hc1 rfl o1 (some (.int v3)) (some (.int v4)) (some (.int v5)) o6 o7
  · rw [if_neg h12] at h
    refine mm_ev.go [true, false] (ps := [¬ mm_cmp .lt v4 (0 : Int32)]) (c1 := (93, [some (.ref 34), o1, some (.int v2), some (.int v3), some (.int v4), some (.int v5), o6, o7], [], mH S, 0, 0)) rfl ⟨h12, trivial⟩ ?_
    obtain ⟨h13, h⟩ := mb_i h
    by_cases h14 : (S.2.1 43 v4.toNatClampNeg) = ((2 : Int32) * (S.1 25))
    · rw [if_pos h14] at h
      refine mm_ev.go [true, true, true, true, true, true, true, true] (ps := [mm_in v4 202]) (c1 := (106, [some (.ref 34), o1, some (.int v2), some (.int v3), some (.int v4), some (.int v5), some (.int (S.2.1 43 v4.toNatClampNeg)), o7], [.ref 34, .int (2 : Int32), .int (S.2.1 43 v4.toNatClampNeg)], mH S, 0, 0)) rfl ⟨h13, trivial⟩ ?_
      refine mm_ev.go [true, true, false] (ps := [¬ mm_cmp .ne (S.2.1 43 v4.toNatClampNeg) ((2 : Int32) * (S.1 25))]) (c1 := (113, [some (.ref 34), o1, some (.int v2), some (.int v3), some (.int v4), some (.int v5), some (.int (S.2.1 43 v4.toNatClampNeg)), o7], [], mH S, 0, 0)) rfl ⟨(fun z => z h14), trivial⟩ ?_
      by_cases h15 : (0 : Int32) ≤ (v4 + (-1 : Int32))
      · rw [if_pos h15] at h
        refine mm_ev.go [true, true, true] (ps := [mm_cmp .ge (v4 + (-1 : Int32)) (0 : Int32)]) (c1 := (124, [some (.ref 34), o1, some (.int v2), some (.int v3), some (.int (v4 + (-1 : Int32))), some (.int v5), some (.int (S.2.1 43 v4.toNatClampNeg)), o7], [], mH S, 0, 0)) rfl ⟨h15, trivial⟩ ?_
        exact K68_124_ok d h o1 (some (.int (S.2.1 43 v4.toNatClampNeg))) o7 hc0 hc1 hc2 hc3
      · rw [if_neg h15] at h
        refine mm_ev.go [true, true, false] (ps := [¬ mm_cmp .ge (v4 + (-1 : Int32)) (0 : Int32)]) (c1 := (121, [some (.ref 34), o1, some (.int v2), some (.int v3), some (.int (v4 + (-1 : Int32))), some (.int v5), some (.int (S.2.1 43 v4.toNatClampNeg)), o7], [], mH S, 0, 0)) rfl ⟨h15, trivial⟩ ?_
        cases h
        exact hc2 rfl o1 (some (.int v3)) (some (.int (v4 + (-1 : Int32)))) (some (.int v5)) (some (.int (S.2.1 43 v4.toNatClampNeg))) o7
    · rw [if_neg h14] at h
      refine mm_ev.go [true, true, true, true, true, true, true, true] (ps := [mm_in v4 202]) (c1 := (106, [some (.ref 34), o1, some (.int v2), some (.int v3), some (.int v4), some (.int v5), some (.int (S.2.1 43 v4.toNatClampNeg)), o7], [.ref 34, .int (2 : Int32), .int (S.2.1 43 v4.toNatClampNeg)], mH S, 0, 0)) rfl ⟨h13, trivial⟩ ?_
      refine mm_ev.go [true, true, true] (ps := [mm_cmp .ne (S.2.1 43 v4.toNatClampNeg) ((2 : Int32) * (S.1 25))]) (c1 := (189, [some (.ref 34), o1, some (.int v2), some (.int v3), some (.int v4), some (.int v5), some (.int (S.2.1 43 v4.toNatClampNeg)), o7], [], mH S, 0, 0)) rfl ⟨h14, trivial⟩ ?_
      exact K68_189_ok d h o1 o7 hc0 hc1 hc2 hc3
def L68_88 : Nat → mSt → Int32 → Int32 → Int32 → Int32 → Option (Nat × mSt × Int32 × Int32 × Int32 × Int32)
  | 0, _, _, _, _, _ => none
  | n + 1, S, v2, v3, v4, v5 => (I68_88 n S v2 v3 v4 v5).bind fun r => if r.1 = 0 then L68_88 n r.2.1 r.2.2.1 r.2.2.2.1 r.2.2.2.2.1 r.2.2.2.2.2 else some r
set_option maxRecDepth 100000 in
set_option maxHeartbeats 4000000 in
theorem L68_88_ok {sc : mS} (d : Nat) {n : Nat} {S : mSt} {v2 v3 v4 v5 : Int32} {r : Nat × mSt × Int32 × Int32 × Int32 × Int32} (h : L68_88 n S v2 v3 v4 v5 = some r) (o1 : Option Value) (o6 : Option Value) (o7 : Option Value) {Q : mR → List mE → Prop} (hc1 : r.1 = 1 → ∀ u1 : Option Value, ∀ u3 : Option Value, ∀ u4 : Option Value, ∀ u5 : Option Value, ∀ u6 : Option Value, ∀ u7 : Option Value, mm_ev sc mmK mmP (d + 3) 68 (370, [some (.ref 34), u1, some (.int r.2.2.1), u3, u4, u5, u6, u7], [], mH r.2.1, 0, 0) Q) (hc2 : r.1 = 2 → ∀ u1 : Option Value, ∀ u3 : Option Value, ∀ u4 : Option Value, ∀ u5 : Option Value, ∀ u6 : Option Value, ∀ u7 : Option Value, mm_ev sc mmK mmP (d + 3) 68 (121, [some (.ref 34), u1, some (.int r.2.2.1), u3, u4, u5, u6, u7], [], mH r.2.1, 0, 0) Q) (hc3 : r.1 = 3 → ∀ u1 : Option Value, ∀ u3 : Option Value, ∀ u4 : Option Value, ∀ u5 : Option Value, ∀ u6 : Option Value, ∀ u7 : Option Value, mm_ev sc mmK mmP (d + 3) 68 (224, [some (.ref 34), u1, some (.int r.2.2.1), u3, u4, u5, u6, u7], [], mH r.2.1, 0, 0) Q) : mm_ev sc mmK mmP (d + 3) 68 (88, [some (.ref 34), o1, some (.int v2), some (.int v3), some (.int v4), some (.int v5), o6, o7], [], mH S, 0, 0) Q := by
  induction n generalizing S v2 v3 v4 v5 o1 o6 o7 with
  | zero => cases h
  | succ n ih =>
    unfold L68_88 at h
    obtain ⟨r1, h1, h⟩ := mb_b h
    by_cases h0 : r1.1 = 0
    · rw [if_pos h0] at h
      refine I68_88_ok d h1 o1 o6 o7 (fun _ z0 z1 z2 => ih h z0 z1 z2) (fun z => absurd z (by omega)) (fun z => absurd z (by omega)) (fun z => absurd z (by omega))
    · rw [if_neg h0] at h
      cases h
      exact I68_88_ok d h1 o1 o6 o7 (fun z => absurd z h0) hc1 hc2 hc3
/-- SlabPatternsModel.run -/
def F68 (n : Nat) (S : mSt) (a0 : Int32) : Option (Int32 × mSt) := (F61 S a0 (0 : Int32) (100000 : Int32)).bind fun r1 => ((F62 S r1 (1 : Int32) (1 : Int32)).bind fun r3 => (if r3.1 = (0 : Int32) then (some (((0 : Int32), r3.2))) else ((L68_20 n r3.2 a0 (0 : Int32)).bind fun r8 => (if 0 ≤ (0 : Int32) ∧ (0 : Int32).toNatClampNeg < 202 then (L68_88 n ((va_up (va_up (va_up r8.2.1.1 27 (1 : Int32)) 28 (1 : Int32)) 29 (0 : Int32)), (va_up (va_up r8.2.1.2.1 43 (upd (r8.2.1.2.1 43) (0 : Int32).toNatClampNeg (0 : Int32))) 44 (upd (r8.2.1.2.1 44) (0 : Int32).toNatClampNeg (r8.2.1.1 20))), r8.2.1.2.2) (0 : Int32) (0 : Int32) (0 : Int32) r8.2.2.1).bind fun r48 => (if r48.1 = 1 then ((F75 n r48.2.1).bind fun r51 => (some ((r48.2.2.1, r51)))) else (if r48.1 = 2 then ((F75 n r48.2.1).bind fun r54 => (some ((r48.2.2.1, r54)))) else (if r48.1 = 3 then ((F75 n ((va_up r48.2.1.1 28 (0 : Int32)), r48.2.1.2.1, r48.2.1.2.2)).bind fun r57 => (some ((r48.2.2.1, r57)))) else none))) else none))))
set_option maxRecDepth 100000 in
set_option maxHeartbeats 4000000 in
theorem F68_ok {sc : mS} (d : Nat) {n : Nat} {S : mSt} {a0 : Int32} {r : Int32 × mSt} (h : F68 n S a0 = some r) : mm_ev sc mmK mmP (d + 3) 68 (0, mm_en 8 [.ref 34, .int a0], [], mH S, 0, 0) (mm_is (.inl (some (.int r.1))) (mH r.2)) := by
  unfold F68 at h
  refine mm_ev.to (c := (0, [some (.ref 34), some (.int a0), none, none, none, none, none, none], [], mH S, 0, 0)) rfl ?_
  refine mm_ev.go [true, true, true, true] (ps := []) (c1 := (5, [some (.ref 34), some (.int a0), none, none, none, none, none, none], [.int (100000 : Int32), .int (0 : Int32), .int a0, .ref 34], mH S, 0, 0)) rfl trivial ?_
  obtain ⟨r1, h2, h⟩ := mb_b h
  refine mm_ev.call (q := mq68) (q2 := mq61) (b := (5, .invokestatic 78, 3, 2, 4, 61, 3, 0, [776, 774, 775, 54])) (as := [.int a0, .int (0 : Int32), .int (100000 : Int32)]) (r := [.ref 34]) (v := (some (.int r1))) (h1 := mH S) rfl rfl rfl rfl ⟨Nat.le_of_ble_eq_true rfl, Nat.le_of_ble_eq_true rfl, Nat.le_of_ble_eq_true rfl⟩ (F61_ok (d + 2) h2) ?_
  refine mm_ev.to (c := (8, [some (.ref 34), some (.int a0), none, none, none, none, none, none], [.int r1, .ref 34], mH S, 0, 0)) rfl ?_
  refine mm_ev.go [true, true] (ps := []) (c1 := (10, [some (.ref 34), some (.int a0), none, none, none, none, none, none], [.int (1 : Int32), .int (1 : Int32), .int r1, .ref 34], mH S, 0, 0)) rfl trivial ?_
  obtain ⟨r3, h4, h⟩ := mb_b h
  refine mm_ev.call (q := mq68) (q2 := mq62) (b := (10, .invokevirtual 86, 3, 2, 2, 62, 4, 6, [780, 777, 779, 54, 37])) (as := [.ref 34, .int r1, .int (1 : Int32), .int (1 : Int32)]) (r := []) (v := (some (.int r3.1))) (h1 := mH r3.2) rfl rfl rfl rfl ⟨Nat.le_of_ble_eq_true rfl, Nat.le_of_ble_eq_true rfl, Nat.le_of_ble_eq_true rfl⟩ (F62_ok (d + 2) h4) ?_
  refine mm_ev.to (c := (13, [some (.ref 34), some (.int a0), none, none, none, none, none, none], [.int r3.1], mH r3.2, 0, 0)) rfl ?_
  by_cases h5 : r3.1 = (0 : Int32)
  · rw [if_pos h5] at h
    refine mm_ev.go [false] (ps := [¬ mm_cmp .ne r3.1 (0 : Int32)]) (c1 := (16, [some (.ref 34), some (.int a0), none, none, none, none, none, none], [], mH r3.2, 0, 0)) rfl ⟨(fun z => z h5), trivial⟩ ?_
    refine mm_ev.go [true] (ps := []) (c1 := (17, [some (.ref 34), some (.int a0), none, none, none, none, none, none], [.int (0 : Int32)], mH r3.2, 0, 0)) rfl trivial ?_
    cases h
    exact mm_ev.ret (q := mq68) (b := (17, .ireturn, 1, 3, 0, 0, 0, 0, [])) rfl rfl rfl ⟨Nat.le_of_ble_eq_true rfl, Nat.le_of_ble_eq_true rfl⟩ trivial ⟨rfl, rfl⟩
  · rw [if_neg h5] at h
    refine mm_ev.go [true] (ps := [mm_cmp .ne r3.1 (0 : Int32)]) (c1 := (18, [some (.ref 34), some (.int a0), none, none, none, none, none, none], [], mH r3.2, 0, 0)) rfl ⟨h5, trivial⟩ ?_
    refine mm_ev.go [true, true] (ps := []) (c1 := (20, [some (.ref 34), some (.int a0), some (.int (0 : Int32)), none, none, none, none, none], [], mH r3.2, 0, 0)) rfl trivial ?_
    obtain ⟨r8, h9, h⟩ := mb_b h
    refine L68_20_ok d h9 none none none none none ?_
    · intro h10 o1_2 o1_3 o1_4 o1_5 o1_6 o1_7
      obtain ⟨h11, h⟩ := mb_i h
      refine mm_ev.go [true, true, true, true, true, true, true, true] (ps := [_, _, _, _]) (c1 := (58, [some (.ref 34), some (.int r8.2.2.1), o1_2, o1_3, o1_4, o1_5, o1_6, o1_7], [.int (0 : Int32), .ref 34], mH ((va_up (va_up r8.2.1.1 27 (1 : Int32)) 28 (1 : Int32)), r8.2.1.2.1, r8.2.1.2.2), 0, 0)) rfl ⟨(by first | exact Or.inl rfl | exact Or.inr rfl), (Nat.le_of_ble_eq_true rfl), (by first | exact Or.inl rfl | exact Or.inr rfl), (Nat.le_of_ble_eq_true rfl), trivial⟩ ?_
      refine mm_ev.go [true, true, true, true, true, true, true, true] (ps := [_, _]) (c1 := (69, [some (.ref 34), some (.int r8.2.2.1), some (.int (0 : Int32)), some (.int (0 : Int32)), some (.int (0 : Int32)), o1_5, o1_6, o1_7], [.int r8.2.2.1], mH ((va_up (va_up (va_up r8.2.1.1 27 (1 : Int32)) 28 (1 : Int32)) 29 (0 : Int32)), r8.2.1.2.1, r8.2.1.2.2), 0, 0)) rfl ⟨trivial, (Nat.le_of_ble_eq_true rfl), trivial⟩ ?_
      refine mm_ev.go [true, true, true, true, true, true, true, true] (ps := [mm_in (0 : Int32) 202]) (c1 := (82, [some (.ref 34), some (.int r8.2.2.1), some (.int (0 : Int32)), some (.int (0 : Int32)), some (.int (0 : Int32)), some (.int r8.2.2.1), o1_6, o1_7], [.ref 44], mH ((va_up (va_up (va_up r8.2.1.1 27 (1 : Int32)) 28 (1 : Int32)) 29 (0 : Int32)), (va_up r8.2.1.2.1 43 (upd (r8.2.1.2.1 43) (0 : Int32).toNatClampNeg (0 : Int32))), r8.2.1.2.2), 0, 0)) rfl ⟨h11, trivial⟩ ?_
      refine mm_ev.go [true, true, true, true] (ps := [mm_in (0 : Int32) 202]) (c1 := (88, [some (.ref 34), some (.int r8.2.2.1), some (.int (0 : Int32)), some (.int (0 : Int32)), some (.int (0 : Int32)), some (.int r8.2.2.1), o1_6, o1_7], [], mH ((va_up (va_up (va_up r8.2.1.1 27 (1 : Int32)) 28 (1 : Int32)) 29 (0 : Int32)), (va_up (va_up r8.2.1.2.1 43 (upd (r8.2.1.2.1 43) (0 : Int32).toNatClampNeg (0 : Int32))) 44 (upd (r8.2.1.2.1 44) (0 : Int32).toNatClampNeg (r8.2.1.1 20))), r8.2.1.2.2), 0, 0)) rfl ⟨h11, trivial⟩ ?_
      obtain ⟨r48, h49, h⟩ := mb_b h
      refine L68_88_ok d h49 (some (.int r8.2.2.1)) o1_6 o1_7 ?_ ?_ ?_
      · intro h50 o2_1 o2_3 o2_4 o2_5 o2_6 o2_7
        rw [if_pos h50] at h
        refine mm_ev.go [true] (ps := []) (c1 := (371, [some (.ref 34), o2_1, some (.int r48.2.2.1), o2_3, o2_4, o2_5, o2_6, o2_7], [.ref 34], mH r48.2.1, 0, 0)) rfl trivial ?_
        obtain ⟨r51, h52, h⟩ := mb_b h
        refine mm_ev.call (q := mq68) (q2 := mq75) (b := (371, .invokevirtual 141, 3, 2, 2, 75, 1, 6, [833, 830, 832, 54, 45])) (as := [.ref 34]) (r := []) (v := none) (h1 := mH r51) rfl rfl rfl rfl ⟨Nat.le_of_ble_eq_true rfl, Nat.le_of_ble_eq_true rfl, Nat.le_of_ble_eq_true rfl⟩ (F75_ok d h52) ?_
        refine mm_ev.to (c := (374, [some (.ref 34), o2_1, some (.int r48.2.2.1), o2_3, o2_4, o2_5, o2_6, o2_7], [], mH r51, 0, 0)) rfl ?_
        refine mm_ev.go [true] (ps := []) (c1 := (375, [some (.ref 34), o2_1, some (.int r48.2.2.1), o2_3, o2_4, o2_5, o2_6, o2_7], [.int r48.2.2.1], mH r51, 0, 0)) rfl trivial ?_
        cases h
        exact mm_ev.ret (q := mq68) (b := (375, .ireturn, 1, 3, 0, 0, 0, 0, [])) rfl rfl rfl ⟨Nat.le_of_ble_eq_true rfl, Nat.le_of_ble_eq_true rfl⟩ trivial ⟨rfl, rfl⟩
      · intro h53 o3_1 o3_3 o3_4 o3_5 o3_6 o3_7
        rw [if_neg (by rw [h53]; decide)] at h
        rw [if_pos h53] at h
        refine mm_ev.go [true, true] (ps := []) (c1 := (371, [some (.ref 34), o3_1, some (.int r48.2.2.1), o3_3, o3_4, o3_5, o3_6, o3_7], [.ref 34], mH r48.2.1, 0, 0)) rfl trivial ?_
        obtain ⟨r54, h55, h⟩ := mb_b h
        refine mm_ev.call (q := mq68) (q2 := mq75) (b := (371, .invokevirtual 141, 3, 2, 2, 75, 1, 6, [833, 830, 832, 54, 45])) (as := [.ref 34]) (r := []) (v := none) (h1 := mH r54) rfl rfl rfl rfl ⟨Nat.le_of_ble_eq_true rfl, Nat.le_of_ble_eq_true rfl, Nat.le_of_ble_eq_true rfl⟩ (F75_ok d h55) ?_
        refine mm_ev.to (c := (374, [some (.ref 34), o3_1, some (.int r48.2.2.1), o3_3, o3_4, o3_5, o3_6, o3_7], [], mH r54, 0, 0)) rfl ?_
        refine mm_ev.go [true] (ps := []) (c1 := (375, [some (.ref 34), o3_1, some (.int r48.2.2.1), o3_3, o3_4, o3_5, o3_6, o3_7], [.int r48.2.2.1], mH r54, 0, 0)) rfl trivial ?_
        cases h
        exact mm_ev.ret (q := mq68) (b := (375, .ireturn, 1, 3, 0, 0, 0, 0, [])) rfl rfl rfl ⟨Nat.le_of_ble_eq_true rfl, Nat.le_of_ble_eq_true rfl⟩ trivial ⟨rfl, rfl⟩
      · intro h56 o4_1 o4_3 o4_4 o4_5 o4_6 o4_7
        rw [if_neg (by rw [h56]; decide)] at h
        rw [if_neg (by rw [h56]; decide)] at h
        rw [if_pos h56] at h
        refine mm_ev.go [true, true, true, true, true] (ps := [_, _]) (c1 := (371, [some (.ref 34), o4_1, some (.int r48.2.2.1), o4_3, o4_4, o4_5, o4_6, o4_7], [.ref 34], mH ((va_up r48.2.1.1 28 (0 : Int32)), r48.2.1.2.1, r48.2.1.2.2), 0, 0)) rfl ⟨(by first | exact Or.inl rfl | exact Or.inr rfl), (Nat.le_of_ble_eq_true rfl), trivial⟩ ?_
        obtain ⟨r57, h58, h⟩ := mb_b h
        refine mm_ev.call (q := mq68) (q2 := mq75) (b := (371, .invokevirtual 141, 3, 2, 2, 75, 1, 6, [833, 830, 832, 54, 45])) (as := [.ref 34]) (r := []) (v := none) (h1 := mH r57) rfl rfl rfl rfl ⟨Nat.le_of_ble_eq_true rfl, Nat.le_of_ble_eq_true rfl, Nat.le_of_ble_eq_true rfl⟩ (F75_ok d h58) ?_
        refine mm_ev.to (c := (374, [some (.ref 34), o4_1, some (.int r48.2.2.1), o4_3, o4_4, o4_5, o4_6, o4_7], [], mH r57, 0, 0)) rfl ?_
        refine mm_ev.go [true] (ps := []) (c1 := (375, [some (.ref 34), o4_1, some (.int r48.2.2.1), o4_3, o4_4, o4_5, o4_6, o4_7], [.int r48.2.2.1], mH r57, 0, 0)) rfl trivial ?_
        cases h
        exact mm_ev.ret (q := mq68) (b := (375, .ireturn, 1, 3, 0, 0, 0, 0, [])) rfl rfl rfl ⟨Nat.le_of_ble_eq_true rfl, Nat.le_of_ble_eq_true rfl⟩ trivial ⟨rfl, rfl⟩
