/-! throws: a throw in a method's own text, its way out, its catching (launches without stack traces) -/
def mx_L (base : Nat) (n d : String) (U : State) : Prop := ∃ (c : ClassId) (k : Class) (i : Nat) (f : Field) (a : Nat) (cell : Cell), U.vm.findClass Bundle.tN = some c ∧ U.fieldFound? Bundle.tN n d = some (c, k, i, f) ∧ f.isStatic = true ∧ k.statics = some a ∧ U.heap[a]? = some cell ∧ cell.vm.isStatics = true ∧ cell.cls = c ∧ f.slot < cell.slots.size ∧ k.staticTypes[f.slot]? = some f.type ∧ a < base ∧ ∃ v, cell.slots[f.slot]? = some v ∧ v.isRef = true
theorem mx_L.moved {base : Nat} {n d : String} {u U : State} (hvm : u.vm.Alike U.vm) (hh : ∀ q, q < base → U.heap[q]? = u.heap[q]?) (h : mx_L base n d u) : mx_L base n d U := by
  obtain ⟨c, k, i, f, a, cell, h1, h2, h3, h4, h5, h6, h7, h8, h9, h10, h11⟩ := h
  obtain ⟨k2, hi, he⟩ := State.fieldFound?_setVm hvm h2
  exact ⟨c, k2, i, f, a, cell, by rw [hvm.findClass]; exact h1, hi, h3, by rw [he]; exact h4, by rw [hh a h10]; exact h5, h6, h7, h8, by rw [he]; exact h9, h10, h11⟩
theorem mx_L.lays {base : Nat} {n d : String} {U : State} {args : Array Value} (h : mx_L base n d U) : (Cond.laysStatic Bundle.tN n d).before args U = true := by
  obtain ⟨c, k, i, f, a, cell, h1, h2, h3, h4, h5, h6, h7, h8, h9, -⟩ := h
  show (Cond.laysStatic Bundle.tN n d).holds args U none U [] = true
  exact Cond.laysStatic_of h1 h2 h3 h4 h5 h6 h7 h8 h9
theorem mx_L.ref {base : Nat} {n d : String} {U : State} {args : Array Value} (h : mx_L base n d U) : (Cond.isRef (.static Bundle.tN n d)).before args U = true := by
  obtain ⟨c, k, i, f, a, cell, h1, h2, h3, h4, h5, h6, h7, h8, h9, h10, v, hv, hr⟩ := h
  have he : (Term.static Bundle.tN n d).eval args U none [] U = some v := by
    simp [Term.eval, State.fieldNamed?, h2, h3, h4, h5, h6, hv]
  simp only [Cond.before, Cond.holds, Cond.value, he]
  cases v <;> simp_all [Value.isRef]
theorem mx_L.of {base : Nat} {n d : String} {U : State} {args : Array Value} (hl : (Cond.laysStatic Bundle.tN n d).before args U = true) (hini : (Cond.initialized Bundle.tN).before args U = true) (h : (Cond.isRef (.static Bundle.tN n d)).before args U = true) (hb : U.heap.size ≤ base) : mx_L base n d U := by
  obtain ⟨c, k, i, f, a, cell, h1, h2, h3, h4, h5, h6, h7, h8, h9⟩ := Cond.laysStatic_spec hl
  refine ⟨c, k, i, f, a, cell, h1, h2, h3, h4, h5, h6, h7, h8, h9, Nat.lt_of_lt_of_le (Array.getElem?_eq_some_iff.mp h5).1 hb, ?_⟩
  have hz := va_Zqof (A := fun _ => False) hl hini h (fun _ _ z => z)
  rcases hz with ⟨cf, kf, fi, f2, a2, cell2, g1, g2, g3, g4, g5, g6, g7, -⟩ | ⟨t, cf, kf, fi, f2, a2, cell2, g1, g2, g3, g4, g5, g6, g7, -⟩
  · cases h2.symm.trans g1
    cases h4.symm.trans g4
    cases h5.symm.trans g5
    exact ⟨_, g7, rfl⟩
  · cases h2.symm.trans g1
    cases h4.symm.trans g4
    cases h5.symm.trans g5
    exact ⟨_, g7, rfl⟩
/-- words that the tables alone decide, and no reader of steady words carries -/
def mx_isC (w : Cond) : Bool := match w with
  | .castable _ _ => true
  | .declares _ => true
  | _ => false
theorem mx_isC_on {w : Cond} (h : mx_isC w = true) : w.onTables = true := by
  cases w <;> first | rfl | (cases h; done)
theorem mx_isC_moved {w : Cond} {u U : State} (hn : mx_isC w = true) (hvm : u.vm.Alike U.vm) (h : va_Nw w u) : va_Nw w U := by
  have tr : w.before #[] (u.setVm U.vm) = true → w.before #[] U = true := by
    intro h
    have e := Cond.onTables_vm (A := #[]) (A' := #[]) (U := u) (U' := U) U.vm w (mx_isC_on hn)
    have hU : U.setVm U.vm = U := rfl
    rw [hU] at e
    rw [← e]
    exact h
  cases w <;> first | (cases hn; done) | (refine tr ?_; rw [Cond.castable_setVm hvm]; exact h) | (refine tr ?_; rw [Cond.declares_setVm hvm]; exact h)
/-- what a run has beside the rest, for its throws: the exceptions' names are apart, the texts lie, the two statics -/
def mx_Z (base : Nat) (Cx : List Cond) (Ex : List String) (Sx : List (String × Nat × String)) (U : State) : Prop :=
  (∀ i j : Nat, i < Ex.length → j < Ex.length → i ≠ j → va_Nc (Ex.getD i "") (Ex.getD j "") U) ∧ (∀ t ∈ Sx, ∃ sa, vk_R t.1 t.2.1 t.2.2 sa U) ∧ mx_L base "UNASSIGNED_STACK" Bundle.steD U ∧ mx_L base "SUPPRESSED_SENTINEL" Bundle.listD U ∧ ∀ w ∈ Cx, va_Nw w U
theorem mx_Zc {base : Nat} {Cx : List Cond} (hCx : Cx.all mx_isC = true) {Ex : List String} {Sx : List (String × Nat × String)} : mm_Zc base (mx_Z base Cx Ex Sx) := by
  intro u U hW hh h
  obtain ⟨h1, h2, h3, h4, h5⟩ := h
  refine ⟨fun i j hi hj hij => va_Nc.moved hW.alike (h1 i j hi hj hij), fun t ht => ?_, h3.moved hW.alike hh, h4.moved hW.alike hh, fun w hw => mx_isC_moved (List.all_eq_true.mp hCx w hw) hW.alike (h5 w hw)⟩
  obtain ⟨sa, hs⟩ := h2 t ht
  exact ⟨sa, vk_R.warm hW hs⟩
/-- the four words of a throw that speak of the heap -/
def mx_four (w : Cond) : Bool := decide (w = .isRef (.static Bundle.tN "UNASSIGNED_STACK" Bundle.steD)) || (decide (w = .isRef (.static Bundle.tN "SUPPRESSED_SENTINEL" Bundle.listD)) || (decide (w = .laysStatic Bundle.tN "UNASSIGNED_STACK" Bundle.steD) || decide (w = .laysStatic Bundle.tN "SUPPRESSED_SENTINEL" Bundle.listD)))
theorem mx_atoms {base : Nat} {L Ts Cx : List Cond} {args : Array Value} {U : State} (h : L.all (fun w => mx_four w || (decide (w ∈ Ts) || decide (w ∈ Cx))) = true) (hC : ∀ w ∈ Cx, w.before args U = true) (ht : ∀ w ∈ Ts, w.before args U = true) (h3 : mx_L base "UNASSIGNED_STACK" Bundle.steD U) (h4 : mx_L base "SUPPRESSED_SENTINEL" Bundle.listD U) : ∀ w ∈ L, w.before args U = true := by
  intro w hw
  have h1 := List.all_eq_true.mp h w hw
  simp only [mx_four, Bool.or_eq_true, decide_eq_true_eq] at h1
  rcases h1 with (rfl | rfl | rfl | rfl) | h1 | h1
  · exact h3.ref
  · exact h4.ref
  · exact h3.lays
  · exact h4.lays
  · exact ht w h1
  · exact hC w h1
section MXB
variable {p : Program} {l : Launch} {e : Env} {R : Room} {s : State} {m : MethodId} {args : Array Value} {below : List Frame} {meth : Method} {c : Code} {T : State} {locs : List Loc} {cells slots : Nat}
/-- the method as if it were begun anew at this state -/
theorem mx_anew (X : Stand p l e R s m args below meth c T locs cells slots) {R2 : Room} (hf : R2.frames ≤ R.frames) (hl : R2.locals ≤ R.locals) (hc : cells + R2.cells ≤ R.cells) (hs : slots + R2.slots ≤ R.slots) :
    Stand p l e R2 ((T.setVm s.vm).setFrames (.invoking m args :: below)) m args below meth c T [] 0 0 := by
  have htop : (T.setVm s.vm).topJava?.isSome := X.here.top
  have hF : ((T.setVm s.vm).setFrames (.invoking m args :: below)).frames = .invoking m args :: below := State.frames_setFrames _ (State.cur_lt_of_top htop)
  obtain ⟨g₀, hg0⟩ := Option.isSome_iff_exists.mp htop
  obtain ⟨r, hr⟩ := State.topJava?_eq_some.mp hg0
  have hl9 : e.platform.stackLimits (T.setVm s.vm).me = e.platform.stackLimits s.me := X.limits
  have hb9 : (T.setVm s.vm).me.stackBytes = s.me.stackBytes := X.bytes
  have hroom : ((T.setVm s.vm).setFrames (.invoking m args :: below)).hasRoom e.platform R2 = true := by
    have h := X.room
    have hU : ((T.setVm s.vm).setFrames (.invoking m args :: below)).localsInUse = s.localsInUse := by
      rw [State.localsInUse_invoking hF (meth := meth) (c := c) X.method X.code, State.localsInUse_invoking X.frames X.method X.code]
    simp only [State.hasRoom, Bool.and_eq_true, decide_eq_true_eq] at h ⊢
    obtain ⟨⟨⟨⟨h1, h2, h3, h4, h5, h6⟩, h7⟩, h8⟩, h9⟩ := h
    rw [X.frames, List.length_cons] at h2 h3
    have q1 := X.heapSize
    have q2 := X.used
    simp only [hF, hU, List.length_cons, State.stackLimits_setFrames, State.stackBytes_setFrames, hl9, hb9]
    refine ⟨⟨⟨⟨by omega, by omega, by omega, by omega, by omega, h6⟩, ?_⟩, ?_⟩, X.book⟩
    · show T.heap.size + R2.cells ≤ e.platform.maxCells
      omega
    · show T.slotsUsed + R2.slots ≤ e.platform.maxSlots
      omega
  have hsame : ((T.setVm s.vm).setFrames (.invoking m args :: below)).sameButNew (T.setVm s.vm) [] 0 0 := by
    refine ⟨?_, Nat.le_refl _, Nat.le_refl _, ?_, ?_, fun a c9 h9 => ⟨c9, h9, rfl, rfl, fun _ _ => rfl⟩⟩
    · obtain ⟨t, ht, -⟩ := State.frames_cons hr
      show T.setVm s.vm = { ((T.setVm s.vm).setFrames (.invoking m args :: below)).setFrames (T.setVm s.vm).frames with heap := T.heap, slotsUsed := T.slotsUsed }
      rw [State.setFrames_setFrames, State.setFrames_self ht]
      rfl
    · show T.slotsUsed = T.slotsUsed + ((T.heap.toList.drop T.heap.size).map (·.slots.size)).sum
      rw [List.drop_eq_nil_of_le (Nat.le_of_eq Array.length_toList)]
      rfl
    · show ((T.heap.toList.drop T.heap.size).map (·.slots.size)).sum ≤ 0
      rw [List.drop_eq_nil_of_le (Nat.le_of_eq Array.length_toList)]
      exact Nat.le_refl _
  exact ⟨X.admits, X.cas, X.clock, hF, hroom, X.hears, X.method, X.code, X.here, X.tail, X.warmed, by rw [State.stackLimits_setFrames]; rfl, by rw [State.stackBytes_setFrames]; rfl, hsame⟩
/-- what was there and was not written is as it was -/
theorem mx_old {U : State} {L : List Loc} {k n : Nat} (h : s.sameButNew ({ U with vm := s.vm } : State) L k n) : s.heap.size ≤ U.heap.size ∧ ∀ q : Nat, q < s.heap.size → (∀ z ∈ L, z.base ≠ q) → U.heap[q]? = s.heap[q]? := by
  obtain ⟨-, h2, -, -, -, h6⟩ := h
  refine ⟨h2, fun q hq hz => ?_⟩
  obtain ⟨c9, e1, e2, e3, e4⟩ := h6 q _ (Array.getElem?_eq_getElem hq)
  have hs : c9.slots = (s.heap[q]).slots := Array.ext_getElem? fun i => e4 i fun hm => hz _ hm rfl
  have h9 : c9 = s.heap[q] := by
    rw [hs] at e2
    exact e2
  have e5 : U.heap[q]? = some c9 := e1
  rw [e5, h9, Array.getElem?_eq_getElem hq]
end MXB
