/-! contracts of methods that may throw; a call of one; its catching; calls of methods that catch -/
section MXH
variable {Qh : Handler → Pre} {Eh : CtlPost} {e : Env} {dd : Bool} {acts : List Action} {s : State} {f : JFrame} {a : Addr}
/-- a row of a method's table that covers the place, her class linked: she takes it, or she is passed -/
theorem mx_row {x : ExceptionTableEntry} {t : List ExceptionTableEntry} {k : ClassId} {cell : Cell} (hx : covers x f.pc = true) (h0 : x.catchType ≠ 0) (hl : s.vm.ClassLinks e.platform f.method.cls x.catchType k) (hcell : s.heap[a]? = some cell) (hobj : ∀ z, cell.vm ≠ .statics z)
    (hk : ∃ z, s.vm.classes[cell.cls]? = some z) (hc : ∃ z, s.vm.classes[k]? = some z) :
    wp (findHandler.go f a (x :: t)) Qh Eh e dd acts s ↔ if s.vm.assignable cell.cls k = true then Qh (.found x.handlerPc) dd acts (s.setVm (s.vm.noted f.method.cls x.catchType (.cls k))) else wp (findHandler.go f a t) Qh Eh e dd acts (s.setVm (s.vm.noted f.method.cls x.catchType (.cls k))) := by
  simp only [covers] at hx
  obtain ⟨ha, ht⟩ := (resolveClass_links e.toSetting hl).op (op := VmOp.resolveClass f.method.cls x.catchType) rfl
  have hal : s.vm.Alike (s.vm.noted f.method.cls x.catchType (.cls k)) := (Vm.Alike.refl s.vm).noted _ _ _
  obtain ⟨k1, hk1⟩ := hk
  obtain ⟨k2, hk2⟩ := hc
  obtain ⟨k3, hk3, -⟩ := hal.2.2 _ _ hk1
  obtain ⟨k4, hk4, -⟩ := hal.2.2 _ _ hk2
  have hfit : (s.vm.noted f.method.cls x.catchType (.cls k)).assignable cell.cls k = s.vm.assignable cell.cls k := hal.assignable _ _
  cases hz : s.vm.assignable cell.cls k <;> rw [hz] at hfit <;>
    simp [findHandler.go, hx, h0, ha, ht, hcell, hobj, hk3, hk4, hfit, VmOp.dirties, VmOp.acts]
/-- the table, row by row, leads to hp -/
def mx_Fi (e : Env) (s : State) (f : JFrame) (cls : ClassId) (hp : Nat) : List ExceptionTableEntry → Prop
  | [] => False
  | x :: t => (covers x f.pc = false ∧ mx_Fi e s f cls hp t) ∨ (covers x f.pc = true ∧ x.catchType ≠ 0 ∧ ∃ k, s.vm.ClassLinks e.platform f.method.cls x.catchType k ∧ ((s.vm.assignable cls k = true ∧ x.handlerPc = hp) ∨ (s.vm.assignable cls k = false ∧ mx_Fi e s f cls hp t)))
theorem mx_seek {s0 : State} {cell : Cell} {hp : Nat} (hobj : ∀ z, cell.vm ≠ .statics z) (hk0 : ∃ k, s0.vm.classes[cell.cls]? = some k) :
    ∀ (t : List ExceptionTableEntry) (S : State), s0.WarmedH S.vm → S.heap[a]? = some cell → mx_Fi e s0 f cell.cls hp t → ∃ vm2, s0.WarmedH vm2 ∧ ∀ (Q : Handler → Pre) (E : CtlPost) (d : Bool) (acts : List Action), wp (findHandler.go f a t) Q E e d acts S ↔ Q (.found hp) d acts (S.setVm vm2) := by
  obtain ⟨k0, hk0⟩ := hk0
  intro t
  induction t with
  | nil => intro S _ _ h; exact h.elim
  | cons x t ih =>
    intro S hW hcell h
    rcases h with ⟨hcov, h⟩ | ⟨hcov, h0, k, hl, h⟩
    · obtain ⟨vm2, hW2, hq⟩ := ih S hW hcell h
      exact ⟨vm2, hW2, fun Q E d acts => by rw [W.findHandler_go_skip hcov]; exact hq Q E d acts⟩
    · obtain ⟨k1, hk1, -⟩ := hW.alike.2.2 _ _ hk0
      obtain ⟨dk, _, _, kt, hd, _, _, _, _, hkt, _, hopen⟩ := hl.here
      obtain ⟨k2, hk2, -⟩ := hW.alike.2.2 _ _ hkt
      have hW3 : s0.WarmedH (S.vm.noted f.method.cls x.catchType (.cls k)) := hW.noted hd hopen (State.rightAt_cls hl)
      rcases h with ⟨hfit, rfl⟩ | ⟨hfit, h⟩
      · refine ⟨_, hW3, fun Q E d acts => ?_⟩
        rw [mx_row hcov h0 (hW.classLinks hl) hcell hobj ⟨k1, hk1⟩ ⟨k2, hk2⟩, if_pos (by rw [hW.alike.assignable]; exact hfit)]
      · obtain ⟨vm2, hW2, hq⟩ := ih (S.setVm (S.vm.noted f.method.cls x.catchType (.cls k))) hW3 hcell h
        refine ⟨vm2, hW2, fun Q E d acts => ?_⟩
        rw [mx_row hcov h0 (hW.classLinks hl) hcell hobj ⟨k1, hk1⟩ ⟨k2, hk2⟩, if_neg (by rw [hW.alike.assignable, hfit]; decide)]
        exact hq Q E d acts
theorem mx_fvf (u : State) (vm2 : Vm) (F G : List Frame) : ((u.setFrames F).setVm vm2).setFrames G = (u.setVm vm2).setFrames G := by
  have h1 : (u.setFrames F).setVm vm2 = (u.setVm vm2).setFrames F := rfl
  rw [h1, State.setFrames_setFrames]
end MXH
section MXC
variable {p : Program} {l : Launch} {e : Env} {R : Room} {s : State} {m : MethodId} {args : Array Value} {below : List Frame} {meth : Method} {c : Code} {T : State} {locs : List Loc} {cells slots : Nat}
/-- a thrown object is caught in the method itself -/
theorem mx_caught (X : Stand p l e R s m args below meth c T locs cells slots) {a : Addr} {g : JFrame} (hg : g.method = m) {cell : Cell} (hcell : T.heap[a]? = some cell) (hv : cell.vm = .none) (hk0 : ∃ k, s.vm.classes[cell.cls]? = some k) {hp : Nat} (h : mx_Fi e s g cell.cls hp c.exceptionTable.toList) :
    ∃ vm2, Stand p l e R s m args below meth c (T.setVm vm2) locs cells slots ∧ ∀ target, Steps p.tables e below ((T.setVm vm2).setTop { g with pc := hp, stack := [.ref a] }) target → Steps p.tables e below ((T.setTop g).pushFrame (.throwing a)) target := by
  subst hg
  obtain ⟨vm2, hW2, hq⟩ := mx_seek (e := e) (f := g) (a := a) (s0 := s) (cell := cell) (hp := hp) (fun z hz => by rw [hv] at hz; cases hz) hk0 c.exceptionTable.toList ((T.setTop g).pushFrame (.throwing a)) X.warmed hcell h
  refine ⟨vm2, X.noted hW2, fun target hrest => ?_⟩
  have hfind : ∀ (Q : Handler → Pre) (E : CtlPost) (d : Bool) (acts : List Action), wp (findHandler g a) Q E e d acts ((T.setTop g).pushFrame (.throwing a)) ↔ Q (.found hp) d acts (((T.setTop g).pushFrame (.throwing a)).setVm vm2) := fun Q E d acts => by
    rw [W.findHandler_eq (show ((T.setTop g).pushFrame (.throwing a)).vm.method? g.method = some meth from X.method') X.code]
    exact hq Q E d acts
  have hstep : ∀ r, (stepThrowing e ((T.setTop g).pushFrame (.throwing a)) a (.java g :: r)).Is ((((T.setTop g).pushFrame (.throwing a)).setVm vm2).setFrames (.java { g with pc := hp, stack := [.ref a] } :: r)) [] := by
    intro r
    simp only [stepThrowing, searchFrame, vmDo]
    generalize hr : Sem.go _ e false [] ((T.setTop g).pushFrame (.throwing a)) = res
    obtain ⟨as, rfl, ha⟩ := Sem.eq_ok_of hr (a := Handler.found hp) (s' := ((T.setTop g).pushFrame (.throwing a)).setVm vm2) (acts' := []) (by simp [hfind _ _ _ _])
    exact ⟨rfl, ha⟩
  obtain ⟨hgo, hw⟩ := X.here.throwing a
  refine Steps.head hgo hw ?_
  rw [stepThread_throwing (frames_entered X.here.top _), (hstep _).1]
  obtain ⟨g₀, hg⟩ := Option.isSome_iff_exists.mp X.here.top
  obtain ⟨r, hr⟩ := State.topJava?_eq_some.mp hg
  have hr2 : (T.setVm vm2).frames = .java g₀ :: r := hr
  rw [State.setTop_of_frames _ hr2] at hrest
  rw [hr, List.tail_cons, State.pushFrame, mx_fvf, State.setTop_of_frames _ hr, mx_fvf]
  exact hrest
end MXC
