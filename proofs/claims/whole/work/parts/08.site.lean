/-! a throw in a method's own text: new, dup, ldc, invokespecial, athrow -/
def mx_names : List String := ["java/lang/RuntimeException", "java/lang/Exception"]
def mx_ckT (Tb : List Cond) (Ex : List String) (Sx : List (String × Nat × String)) (bytes : ByteArray) (own : String) (pc : Nat) (ins : Instr) (x y z : Nat) (hs : List Nat) : Bool := match ins, Ex[x]?, Sx[hs.getD 2 0]? with
  | .new ik, some X, some (o, i, _) => mm_hw Tb hs 0 (.classLink own ik X) && (mm_hw Tb hs 1 (.initialized X) && ((o == own && i == y) && ((decide (decode bytes pc = .ok (.new ik, 3)) && (decide (decode bytes (pc + 3) = .ok (.dup, 1)) && (decide (decode bytes (pc + 4) = .ok (.ldc y, 2)) && (decide (decode bytes (pc + 6) = .ok (.invokespecial z, 3)) && decide (decode bytes (pc + 9) = .ok (.athrow, 1))))))
      && ((Bundle.fit X && mx_names.all Bundle.fit) && (Bundle.ownAtoms own z X mx_names).all (fun w => mx_four w || (decide (w ∈ Tb.filter goodWord) || decide (w ∈ Tb.filter mx_isC)))))))
  | _, _, _ => false
section MXS
variable {p : Program} {l : Launch} {e : Env} {R : Room} {s : State} {m : MethodId} {args : Array Value} {below : List Frame} {meth : Method} {c : Code} {D : va_G} {K : mK} {tys : List (ClassId × FieldType)} {b base : Nat} {w0 : va_W} {Qs : State → Prop} {sc : mS} {Tb : List Cond} {q : mM} {Ex : List String} {Sx : List (String × Nat × String)}
theorem mx_site_ok (X : mm_X D K tys b base sc (Tb.filter goodWord) (Tb.filter mm_isN) (mx_Z base (Tb.filter mx_isC) Ex Sx) p s m args meth c q) (hl : l.stackTraces = false) (hR : q.1 ≤ R.cells ∧ q.2.1 ≤ R.slots ∧ 6 ≤ R.frames ∧ 96 ≤ R.locals)
    {pc x y z : Nat} {ins : Instr} {hs : List Nat} {ls : mL} {st : List Value} {h : List mE} {kc ks : Nat} (hck : mx_ckT Tb Ex Sx q.2.2.2.2.1 q.2.2.2.1.cls pc ins x y z hs = true) (hno : q.2.2.2.2.2.2.2.1 = []) (hk : kc + 1 ≤ q.1 ∧ ks + 6 ≤ q.2.1) (hst : (st.map Value.category).sum ≤ 8)
    (hend : ∀ (H : Heap) (locs : List Loc) (ws : va_W) (U : State) (a : Addr) (ce : Cell), mm_h w0 b tys h ws → va_P D (mm_cls K) ws H → va_D (fun a => base ≤ a) ws → va_S (fun a => base ≤ a) s.heap H locs → U.status = .running → Ended U below (.threw a) → s.WarmedH U.vm → s.sameButNew ({ U with vm := s.vm } : State) locs (kc + 1) (ks + 6) →
      H.size ≤ U.heap.size → (∀ q : Nat, q < H.size → U.heap[q]? = H[q]?) → U.heap[a]? = some ce → ce.vm = .none → s.vm.findClass (Ex.getD x "") = some ce.cls → Qs U) :
    mm_G p l e R s m args below meth c D (mm_cls K) tys (fun a => base ≤ a) w0 b Qs (pc, ls, st, h, kc, ks) := by
  intro H locs ws la sv h1 h2 h3 h4 h5 h6
  obtain ⟨hx, hb, hml, hown, hlocks, hret, hname, hext, hts, hK, hXs, hN, hbase, hbb, htys, hZ⟩ := X
  unfold mx_ckT at hck
  split at hck
  rotate_left
  · cases hck
  rename_i ik E0 o9 i9 tx hE hSx
  simp only [Bool.and_eq_true, decide_eq_true_eq] at hck
  obtain ⟨c1, c2, ⟨c3, c4⟩, ⟨d0, d3, d4, d6, d9⟩, ⟨c5, c6⟩, c7⟩ := hck
  have hEx : Ex.getD x "" = E0 := by rw [List.getD_eq_getElem?_getD, hE]; rfl
  have c3 := eq_of_beq c3
  have c4 := eq_of_beq c4
  subst c3
  subst c4
  have hout : ∀ x ∈ c.exceptionTable.toList, covers x (pc + 9) = false := by
    rw [hno] at hext
    have h9 : c.exceptionTable.toList = [] := List.map_eq_nil_iff.mp hext
    rw [h9]
    exact fun x hx => nomatch hx
  have hsv : (sv.map fun v => v.category).sum ≤ 8 := by
    rw [show (sv.map fun v => v.category).sum = (sv.map Value.category).sum from rfl, mm_sum h6]
    exact hst
  intro T hT X0
  have htr : e.platform.stackTraces = false := (show e.platform.stackTraces = l.stackTraces by rw [X0.admits.platform]).trans hl
  have hRc : kc + 1 ≤ R.cells := Nat.le_trans hk.1 hR.1
  have hRs : ks + 6 ≤ R.slots := Nat.le_trans hk.2 hR.2.1
  have Y := mx_anew X0 (R2 := { frames := R.frames, locals := R.locals, cells := 1, slots := 6 }) (Nat.le_refl _) (Nat.le_refl _) hRc hRs
  obtain ⟨s2, hA⟩ : ∃ z, z = (T.setVm s.vm).setFrames (.invoking m args :: below) := ⟨_, rfl⟩
  rw [← hA] at Y
  have hvm : s2.vm = s.vm := by rw [hA]; rfl
  have hhp : s2.heap = H := by rw [hA]; exact hT
  have hW0 : s.WarmedH s2.vm := by rw [hvm]; exact State.WarmedH.refl s
  have hts2 : ∀ w ∈ Tb.filter goodWord, w.before args s2 = true := fun w hw => word_at hW0 (good_of_word (List.mem_filter.mp hw).2) (hts w hw)
  have hCx : (Tb.filter mx_isC).all mx_isC = true := List.all_eq_true.mpr (fun w hw => (List.mem_filter.mp hw).2)
  have hZ2 := mx_Zc hCx s s2 hW0 (fun q hq => by rw [hhp]; exact h4.2.1 q (Nat.lt_of_lt_of_le hq hbase) (Nat.not_le.mpr hq)) hZ
  have hat := mx_atoms c7 (fun w hw => va_Nw.use (mx_isC_on (List.mem_filter.mp hw).2) (hZ2.2.2.2.2 w hw)) hts2 hZ2.2.2.1 hZ2.2.2.2.1
  obtain ⟨sa, hstr⟩ := hZ2.2.1 _ (List.mem_of_getElem? hSx)
  have hown2 : s2.vm.findClass q.2.2.2.1.cls = some m.cls := by rw [hvm]; exact hown
  have hins : (Cond.instantiable E0 6).before args s2 = true := hat _ (by simp [Bundle.ownAtoms])
  obtain ⟨vm₁, cX, kX, hfX, hkX, -, -, X₁, st1⟩ := Y.newCold hx (own := q.2.2.2.1.cls) (C := E0) (index := ik) (n := 6) hown2 (hts2 _ (mm_hw_ok c1)) hins (hts2 _ (mm_hw_ok c2))
    (g := F0 m pc la sv) rfl (by rw [hb]; exact d0) (Nat.le_refl _) (Nat.le_refl _)
  generalize hT1 : (T.setVm vm₁).pushCell { cls := cX, slots := kX.instanceTypes.map defaultValue, vm := .none } = T1 at X₁ st1
  have hcat : (Value.ref T.heap.size).category = 1 := rfl
  have hcellA : T1.heap[T.heap.size]? = some (freshCell cX kX) := by rw [← hT1]; exact State.heap_pushCell_size _ _
  have d3' : decode c.code (pc + 3) = .ok (.dup, 1) := by rw [hb]; exact d3
  have d4' : decode c.code (pc + 4) = .ok (.ldc i9, 2) := by rw [hb]; exact d4
  obtain ⟨U, hsteps, hrun, hended, hW, hsame, ce, hce, hO⟩ := X₁.ctorThrowS hx htr (own := q.2.2.2.1.cls) (cls := E0) (names := mx_names) (ic := z) hown2 c5 (List.all_eq_true.mp c6) hat (fun x hx => nomatch hx) hfX hkX hcellA (by rw [hhp, hT]; exact Nat.le_refl _) (msg := .ref sa) rfl
    (g := { method := m, pc := pc + 6, locals := la, stack := .ref sa :: .ref T.heap.size :: .ref T.heap.size :: sv, locked := none }) rfl (mm_size h5) rfl rfl (rest := sv) rfl
    (by rw [hb]; exact d6) (by rw [hb]; exact d9) hout (by show 2 + 3 < R.frames; omega) (by
      have h0 : ({ method := m, pc := pc + 6, locals := la, stack := .ref sa :: .ref T.heap.size :: .ref T.heap.size :: sv, locked := none } : JFrame).monitorRoom = 0 := rfl
      simp only [List.map_cons, List.sum_cons, hcat, h0]
      show _ + (13 * (2 + 1) + 42) ≤ R.locals
      omega) hlocks
  obtain ⟨f1, f2⟩ := mx_old hsame
  rw [hhp] at f1 f2
  have hWs : s.WarmedH U.vm := State.WarmedH.trans hW0 hW
  have hcl : s.vm.findClass (Ex.getD x "") = some ce.cls := by
    have h9 := hO.cls
    rw [hvm] at h9
    rw [hEx]
    exact h9
  have hall : s.sameButNew ({ U with vm := s.vm } : State) locs (kc + 1) (ks + 6) := by
    subst hA
    obtain ⟨e1, e2⟩ := hsame
    rw [State.setFrames_setFrames] at e1
    have h2 : (T.setVm s.vm).sameButNew ({ U with vm := s.vm } : State) [] (0 + 1) (0 + 6) := ⟨e1, e2⟩
    have h3 := X0.same.trans h2
    rw [List.append_nil] at h3
    exact h3
  refine ⟨U, ?_, hend H locs ws U T.heap.size ce h1 h2 h3 h4 hrun hended hWs hall f1 (fun q hq => f2 q hq (fun z hz => nomatch hz)) hce hO.vm hcl⟩
  refine st1 _ ?_
  show Steps p.tables e below (T1.setTop { method := m, pc := pc + 3, locals := la, stack := .ref T.heap.size :: sv, locked := none }) _
  jvm_step X₁.here [X₁.here.top, hx, d3', Value.category]
  exact X₁.ldcString hx (own := q.2.2.2.1.cls) (text := tx) (a := sa) hown2 hstr.1 hstr.2
    (g := { method := m, pc := pc + 4, locals := la, stack := .ref T.heap.size :: .ref T.heap.size :: sv, locked := none }) rfl d4' _ hsteps
end MXS
