/-! what the table of the code owes, decided by program; the plain instructions out of it -/
def mm_hw (Tb : List Cond) (hs : List Nat) (j : Nat) (w : Cond) : Bool := match hs[j]? with
  | some i => decide (Tb[i]? = some w) && goodWord w
  | none => false
theorem mm_hw_ok {Tb : List Cond} {hs : List Nat} {j : Nat} {w : Cond} (h : mm_hw Tb hs j w = true) : w ∈ Tb.filter goodWord := by
  unfold mm_hw at h
  split at h
  · rw [Bool.and_eq_true] at h
    exact List.mem_filter.mpr ⟨List.mem_of_getElem? (of_decide_eq_true h.1), h.2⟩
  · cases h
/-- a word of nest mates -/
def mm_isN (w : Cond) : Bool := match w with
  | .fieldLinkNest _ _ _ _ _ _ => true
  | .methodLinkNest _ _ _ _ => true
  | _ => false
theorem mm_isN_on {w : Cond} (h : mm_isN w = true) : w.onTables = true := by
  cases w <;> first | rfl | (cases h; done)
def mm_hn (Tb : List Cond) (hs : List Nat) (j : Nat) (w : Cond) : Bool := match hs[j]? with
  | some i => decide (Tb[i]? = some w) && mm_isN w
  | none => false
theorem mm_hn_ok {Tb : List Cond} {hs : List Nat} {j : Nat} {w : Cond} (h : mm_hn Tb hs j w = true) : w ∈ Tb.filter mm_isN := by
  unfold mm_hn at h
  split at h
  · rw [Bool.and_eq_true] at h
    exact List.mem_filter.mpr ⟨List.mem_of_getElem? (of_decide_eq_true h.1), h.2⟩
  · cases h
def mm_ckF (Ts : List Cond) (K : mK) (y : MethodName) (host : String) (ins : Instr) (x k z : Nat) (hs : List Nat) : Bool := match ins, K[x]? with
  | .getfield i, some (_, T, N, _) => decide (k < N) && (match z with
    | 0 => mm_hw Ts hs 0 (.fieldLink y.cls i (T k).1 (T k).2.1 (T k).2.2.1)
    | _ => mm_hn Ts hs 0 (.fieldLinkNest y.cls i (T k).1 (T k).2.1 (T k).2.2.1 host))
  | .putfield i, some (_, T, N, _) => decide (k < N) && (match z with
    | 0 => mm_hw Ts hs 0 (.fieldLink y.cls i (T k).1 (T k).2.1 (T k).2.2.1) && (T k).2.2.2 == false
    | 1 => mm_hn Ts hs 0 (.fieldLinkNest y.cls i (T k).1 (T k).2.1 (T k).2.2.1 host) && (T k).2.2.2 == false
    | _ => mm_hw Ts hs 0 (.fieldLink y.cls i (T k).1 (T k).2.1 (T k).2.2.1) && ((T k).2.2.2 == true && (y.name == "<init>" && (T k).1 == y.cls)))
  | _, _ => false
def mm_ckP (Ts : List Cond) (K : mK) (y : MethodName) (host : String) (pc : Nat) (ins : Instr) (kd x k z : Nat) (hs : List Nat) : Bool := match kd with
  | 0 => (match ins with
    | .ldc i => mm_hw Ts hs 0 (.constant y.cls i (Int32.ofNat x))
    | _ => true)
  | 6 => mm_ckF Ts K y host ins x k z hs && (match ins with
    | .getfield _ => true
    | _ => false)
  | 7 => mm_ckF Ts K y host ins x k z hs && (match ins with
    | .putfield _ => true
    | _ => false)
  | 10 => decide (ins = .arraylength)
  | 11 => (match ins, K[x]? with
    | .new i, some (C, _, N, _) => mm_hw Ts hs 0 (.classLink y.cls i C) && (mm_hw Ts hs 1 (.instantiable C N) && mm_hw Ts hs 2 (.initialized C))
    | _, _ => false)
  | 13 => (match ins, x with
    | .invokestatic i, 0 => mm_hw Ts hs 0 (.methodLink y.cls i Lib.Math.max.name) && (mm_hw Ts hs 1 (.static Lib.Math.max.name) && (mm_hw Ts hs 2 (.initialized "java/lang/Math") && mm_hw Ts hs 3 (.code Lib.Math.max.name Lib.Math.max.code 2 (some .int))))
    | .invokestatic i, 1 => mm_hw Ts hs 0 (.methodLink y.cls i Lib.Math.min.name) && (mm_hw Ts hs 1 (.static Lib.Math.min.name) && (mm_hw Ts hs 2 (.initialized "java/lang/Math") && mm_hw Ts hs 3 (.code Lib.Math.min.name Lib.Math.min.code 2 (some .int))))
    | _, _ => false)
  | 14 => decide (ins = .lcmp)
  | 15 => (match ins with
    | .invokespecial i => mm_hw Ts hs 0 (.methodLink y.cls i Lib.objectInit) && (mm_hw Ts hs 1 (.instanceMethod Lib.objectInit) && mm_hw Ts hs 2 (.code Lib.objectInit ⟨#[0xb1]⟩ 1 none))
    | _ => false)
  | 16 => (match ins with
    | .goto off => decide ((pc : Int) + off = (x : Int))
    | _ => false)
  | _ => true
/-- what the table of the classes owes -/
def mm_ckK (Ts : List Cond) (r : String × u_T × Nat × List FieldType) : Bool :=
  (u_ws r.1 r.2.1 r.2.2.1).all (fun w => decide (w ∈ Ts)) && ((List.range r.2.2.1).all (fun k => decide (parseFieldDescriptor (r.2.1 k).2.2.1 = some (r.2.2.2.getD k .int))) &&
    ((r.2.2.2.length == r.2.2.1) && ((List.range r.2.2.1).all (fun a => (List.range r.2.2.1).all (fun b => decide (a = b ∨ (r.2.1 a).2.1 ≠ (r.2.1 b).2.1))) && r.2.2.2.all (fun ty => decide (ty ≠ .float)))))
def mm_cls (K : mK) : List vw_C := K.map (fun r => (r.1, r.2.1, r.2.2.1))
theorem mm_ckK_ok {Ts : List Cond} {K : mK} {ci N : Nat} {C : String} {T : u_T} {tl : List FieldType} (h : K.all (mm_ckK Ts) = true) (hc : K[ci]? = some (C, T, N, tl)) :
    (mm_cls K)[ci]? = some (C, T, N) ∧ (∀ w ∈ u_ws C T N, w ∈ Ts) ∧ (∀ k, k < N → parseFieldDescriptor (T k).2.2.1 = some (tl.getD k .int)) ∧ tl.length = N ∧ (∀ a, a < N → ∀ b, b < N → a ≠ b → (T a).2.1 ≠ (T b).2.1) ∧ ∀ ty ∈ tl, ty ≠ .float := by
  have h1 := List.all_eq_true.mp h _ (List.mem_of_getElem? hc)
  simp only [mm_ckK, Bool.and_eq_true, List.all_eq_true, decide_eq_true_eq, beq_iff_eq, List.mem_range] at h1
  obtain ⟨a1, a2, a3, a4, a5⟩ := h1
  refine ⟨by simp [mm_cls, hc], a1, a2, a3, fun a ha b hb hab => ?_, a5⟩
  rcases a4 a ha b hb with h | h
  · exact absurd h hab
  · exact h
section MMX
variable (D : va_G) (K : mK) (tys : List (ClassId × FieldType)) (b base : Nat) (sc : mS) (Ts Ns : List Cond) (Z : State → Prop)
/-- what every state of a run has: the classes, the script, the words of nest mates -/
def mm_En (U : State) : Prop := va_K D (mm_cls K) tys U ∧ va_X b sc.1 sc.2 U U.heap ∧ (∀ w ∈ Ns, va_Nw w U) ∧ base ≤ U.heap.size ∧ b < base ∧ (∀ ty ∈ ([.int, .boolean, .long] : List FieldType), ∃ cA, (cA, ty) ∈ tys) ∧ Z U
/-- a method of the table, begun at s -/
def mm_X (p : Program) (s : State) (m : MethodId) (args : Array Value) (meth : Method) (c : Code) (q : mM) : Prop :=
  p.tables.exec = Jvm.exec ∧ c.code = q.2.2.2.2.1 ∧ c.maxLocals = q.2.2.2.2.2.1 ∧ s.vm.findClass q.2.2.2.1.cls = some m.cls ∧ meth.locks = false ∧ meth.sig.returnType = q.2.2.2.2.2.2.1 ∧ meth.name = q.2.2.2.1.name ∧
  c.exceptionTable.toList.map (fun h => (h.startPc, h.endPc, h.handlerPc, h.catchType)) = q.2.2.2.2.2.2.2.1 ∧ (∀ w ∈ Ts, w.before args s = true) ∧ mm_En D K tys b base sc Ns Z s
end MMX
section MMP
variable {p : Program} {l : Launch} {e : Env} {R : Room} {s : State} {m : MethodId} {args : Array Value} {below : List Frame} {meth : Method} {c : Code} {D : va_G} {K : mK} {tys : List (ClassId × FieldType)} {b base : Nat} {w0 : va_W} {Q : State → Prop} {sc : mS} {Tb : List Cond} {q : mM}
set_option maxHeartbeats 4000000 in
theorem mm_op_ok {Z : State → Prop} (X : mm_X D K tys b base sc (Tb.filter goodWord) (Tb.filter mm_isN) Z p s m args meth c q) (hKK : K.all (mm_ckK (Tb.filter goodWord)) = true) (harr : ∀ ty ∈ ([.int, .boolean, .long] : List FieldType), Cond.arrayClass ty ∈ Tb.filter goodWord) (hR : q.1 ≤ R.cells ∧ q.2.1 ≤ R.slots ∧ 1 ≤ R.frames ∧ 64 ≤ R.locals)
    {pc len grp kd x k z : Nat} {ins : Instr} {hs : List Nat} {ls : mL} {st : List Value} {h : List mE} {kc ks : Nat} {ps : List Prop} {y : mC}
    (hd : decode q.2.2.2.2.1 pc = .ok (ins, len)) (hlen : kd = 17 ∨ len = mm_len ins) (hck : mm_ckP Tb K q.2.2.2.1 q.2.2.2.2.2.2.2.2.2 pc ins kd x k z hs = true)
    (ho : mm_op sc K q.1 q.2.1 (pc, ins, len, grp, kd, x, k, z, hs) (pc, ls, st, h, kc, ks) = some (ps, y)) (hp : mm_all ps)
    (g : mm_G p l e R s m args below meth c D (mm_cls K) tys (fun a => base ≤ a) w0 b Q y) : mm_G p l e R s m args below meth c D (mm_cls K) tys (fun a => base ≤ a) w0 b Q (pc, ls, st, h, kc, ks) := by
  obtain ⟨hx, hb, hml, hown, hlocks, hret, hname, hext, hts, hK, hX, hN, hbase, hbb, htys, hZ⟩ := X
  have hA : ∀ a, s.heap.size ≤ a → base ≤ a := fun a ha => Nat.le_trans hbase ha
  have hbA : ¬ base ≤ b := Nat.not_le.mpr hbb
  have hbl : b < s.heap.size := Nat.lt_of_lt_of_le hbb hbase
  have hNw : ∀ w ∈ Tb.filter mm_isN, w.before args s = true := fun w hw => va_Nw.use (mm_isN_on (List.mem_filter.mp hw).2) (hN w hw)
  by_cases h17 : kd = 17
  · subst h17
    exact mm_sw_ok hx hb hd ho hp g
  have hd : decode q.2.2.2.2.1 pc = .ok (ins, mm_len ins) := by
    rcases hlen with hlen | hlen
    · exact absurd hlen h17
    · rw [← hlen]; exact hd
  unfold mm_op at ho
  dsimp only at ho
  split at ho
  · refine mm_const_ok hx hb hd hown (a := x) (fun i hi => ?_) ho g
    subst hi
    exact hts _ (mm_hw_ok hck)
  · exact mm_load_ok hx hb hd ho g
  · exact mm_store_ok hx hb hd ho g
  · exact mm_arith_ok hx hb hd ho hp g
  · exact mm_un_ok hx hb hd ho g
  · exact mm_stk_ok hx hb hd ho g
  · simp only [mm_ckP, Bool.and_eq_true] at hck
    obtain ⟨hck, hck2⟩ := hck
    unfold mm_ckF at hck
    split at hck
    · have hKc := ‹K[x]? = some _›
      rw [Bool.and_eq_true, decide_eq_true_eq] at hck
      obtain ⟨c1, c2, c3, c4, c5, c6⟩ := mm_ckK_ok hKK hKc
      refine mm_getf_ok hx hb hd hts c2 hown hK c1 hck.1 ?_ rfl ho g
      have hck3 := hck.2
      split at hck3
      · exact Or.inl (hts _ (mm_hw_ok hck3))
      · exact Or.inr ⟨_, hNw _ (mm_hn_ok hck3)⟩
    · cases hck2
    · cases hck
  · simp only [mm_ckP, Bool.and_eq_true] at hck
    obtain ⟨hck, hck2⟩ := hck
    unfold mm_ckF at hck
    split at hck
    · cases hck2
    · have hKc := ‹K[x]? = some _›
      rw [Bool.and_eq_true, decide_eq_true_eq] at hck
      obtain ⟨c1, c2, c3, c4, c5, c6⟩ := mm_ckK_ok hKK hKc
      have hck3 := hck.2
      split at hck3
      · rw [Bool.and_eq_true] at hck3
        exact mm_putf_ok hx hb hd hts c2 hown hK c1 hck.1 (Or.inl (hts _ (mm_hw_ok hck3.1))) hKc c3 c5 (Or.inl (eq_of_beq hck3.2)) rfl ho hp g
      · rw [Bool.and_eq_true] at hck3
        exact mm_putf_ok hx hb hd hts c2 hown hK c1 hck.1 (Or.inr ⟨_, hNw _ (mm_hn_ok hck3.1)⟩) hKc c3 c5 (Or.inl (eq_of_beq hck3.2)) rfl ho hp g
      · simp only [Bool.and_eq_true] at hck3
        obtain ⟨e1, e2, e3, e4⟩ := hck3
        exact mm_putf_ok hx hb hd hts c2 hown hK c1 hck.1 (Or.inl (hts _ (mm_hw_ok e1))) hKc c3 c5 (Or.inr ⟨eq_of_beq e2, hname.trans (eq_of_beq e3), eq_of_beq e4, hts _ (mm_hw_ok e1)⟩) rfl ho hp g
    · cases hck
  · exact mm_ald_ok hx hb hd hK hX hbl hbA ho hp g
  · exact mm_ast_ok hx hb hd hK ho hp g
  · exact mm_alen_ok hx hb hd (of_decide_eq_true hck) hK hX hbl hbA ho g
  · simp only [mm_ckP] at hck
    split at hck
    · have hKc := ‹K[x]? = some _›
      simp only [Bool.and_eq_true] at hck
      obtain ⟨e1, e2, e3⟩ := hck
      obtain ⟨c1, c2, c3, c4, c5, c6⟩ := mm_ckK_ok hKK hKc
      exact mm_new_ok hx hb hd hts c2 hown hK c1 hA hKc c3 c4 c6 (hts _ (mm_hw_ok e1)) (hts _ (mm_hw_ok e2)) (hts _ (mm_hw_ok e3)) ⟨hR.1, hR.2.1⟩ rfl ho hp g
    · cases hck
  · exact mm_newa_ok hx hb hd hK hA htys (fun ty hy => hts _ (harr ty hy)) ⟨hR.1, hR.2.1⟩ ho hp g
  · simp only [mm_ckP] at hck
    split at ho
    · rename_i hsum
      have hsum := Nat.le_of_ble_eq_true hsum
      split at hck
      · simp only [Bool.and_eq_true] at hck
        obtain ⟨e1, e2, e3, e4⟩ := hck
        exact mm_math_ok hx hb hd hown rfl (fun _ => ⟨hts _ (mm_hw_ok e1), hts _ (mm_hw_ok e2), hts _ (mm_hw_ok e3), hts _ (mm_hw_ok e4)⟩) (fun hz => absurd hz (by decide)) ⟨hR.2.2.1, hR.2.2.2⟩ hsum ⟨hR.1, hR.2.1⟩ ho hp g
      · simp only [Bool.and_eq_true] at hck
        obtain ⟨e1, e2, e3, e4⟩ := hck
        exact mm_math_ok hx hb hd hown rfl (fun hz => absurd hz (by decide)) (fun _ => ⟨hts _ (mm_hw_ok e1), hts _ (mm_hw_ok e2), hts _ (mm_hw_ok e3), hts _ (mm_hw_ok e4)⟩) ⟨hR.2.2.1, hR.2.2.2⟩ hsum ⟨hR.1, hR.2.1⟩ ho hp g
      · cases hck
    · cases ho
  · exact mm_lcmp_ok hx hb hd (of_decide_eq_true hck) ho g
  · simp only [mm_ckP] at hck
    split at ho
    · rename_i hsum
      have hsum := Nat.le_of_ble_eq_true hsum
      split at hck
      · simp only [Bool.and_eq_true] at hck
        obtain ⟨e1, e2, e3⟩ := hck
        exact mm_obj_ok hx hb hd hown rfl (hts _ (mm_hw_ok e1)) (hts _ (mm_hw_ok e2)) (hts _ (mm_hw_ok e3)) ⟨hR.2.2.1, hR.2.2.2⟩ hsum ho g
      · cases hck
    · cases ho
  · simp only [mm_ckP] at hck
    split at hck
    · cases ho
      exact mm_goto_ok hx hb hd rfl (of_decide_eq_true hck) g
    · cases hck
  · exact absurd rfl h17
  · cases ho
end MMP
