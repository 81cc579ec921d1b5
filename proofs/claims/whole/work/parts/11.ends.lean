/-! how a method ends; caught throws; a call of a method that catches; a method's contract out of its walk -/
theorem mm_cw_spec {q : mM} {m : MethodId} {args : Array Value} {s : State} (hn : s.methodNamed? q.2.2.2.1 = some m) (h : (mm_cw q).before args s = true) :
    ∃ meth c, s.vm.method? m = some meth ∧ meth.code = some c ∧ c.code = q.2.2.2.2.1 ∧ c.maxLocals = q.2.2.2.2.2.1 ∧ meth.sig.returnType = q.2.2.2.2.2.2.1 ∧ meth.locks = false ∧
      c.exceptionTable.toList.map (fun h => (h.startPc, h.endPc, h.handlerPc, h.catchType)) = q.2.2.2.2.2.2.2.1 ∧ parseMethodDescriptor q.2.2.2.1.desc = some meth.sig := by
  unfold mm_cw at h
  split at h
  · rename_i hh
    obtain ⟨meth, c, h1, h2, h3, h4, h5, h6, h7, h8⟩ := Cond.code_spec hn h
    refine ⟨meth, c, h1, h2, h3, h4, h5, h6, ?_, h8⟩
    rw [hh]
    have h9 : c.exceptionTable = #[] := Array.isEmpty_iff.mp h7
    rw [h9]
    rfl
  · obtain ⟨m9, meth, c, hn9, h1, h2, h3, h4, h5, h6, h7, h8⟩ := Cond.codeWith_spec h
    cases hn.symm.trans hn9
    exact ⟨meth, c, h1, h2, h3, h4, h6, h7, h5, h8⟩
/-- what the handlers of a method owe -/
def mx_ckH (Tb : List Cond) (Ex : List String) (q : mM) : Bool :=
  ((q.2.2.2.2.2.2.2.1.map (fun h => h.2.2.2)).zip q.2.2.2.2.2.2.2.2.1).all (fun z => decide (z.1 ≠ 0) && (decide (z.2 < Ex.length) && decide (Cond.classLink q.2.2.2.1.cls z.1 (Ex.getD z.2 "") ∈ Tb.filter goodWord)))
section MXE
variable {p : Program} {l : Launch} {e : Env} {R : Room} {s : State} {m : MethodId} {args : Array Value} {below : List Frame} {meth : Method} {c : Code} {D : va_G} {K : mK} {tys : List (ClassId × FieldType)} {b base : Nat} {w0 : va_W} {Qs : State → Prop} {sc : mS} {Tb : List Cond} {q q2 : mM} {Ex : List String} {Sx : List (String × Nat × String)}
theorem mx_fi {g : JFrame} {cls : ClassId} {hp E pc : Nat} (hpc : g.pc = pc) (hg : g.method = m) : ∀ (t : List ExceptionTableEntry) (ks : List Nat), mm_hd pc E (t.map (fun h => (h.startPc, h.endPc, h.handlerPc, h.catchType))) ks = some hp →
    (∀ z ∈ (t.map (fun h => h.catchType)).zip ks, z.1 ≠ 0 ∧ ∃ k, s.vm.ClassLinks e.platform m.cls z.1 k ∧ s.vm.assignable cls k = decide (z.2 = E)) → mx_Fi e s g cls hp t := by
  intro t
  induction t with
  | nil => intro ks h; cases ks <;> cases h
  | cons x t ih =>
    intro ks h hf
    cases ks with
    | nil => cases h
    | cons k ks =>
      obtain ⟨h0, kk, hl, ha⟩ := hf (x.catchType, k) (by simp)
      have ih2 := fun h => ih ks h (fun z hz => hf z (by
        rw [List.map_cons, List.zip_cons_cons]
        exact List.mem_cons_of_mem _ hz))
      rw [List.map_cons] at h
      unfold mm_hd at h
      by_cases hcov : covers x g.pc = true
      · refine Or.inr ⟨hcov, h0, kk, by rw [hg]; exact hl, ?_⟩
        simp only [covers, Bool.and_eq_true, decide_eq_true_eq, hpc] at hcov
        split at h
        · rename_i hc
          simp only [Bool.and_eq_true] at hc
          have hk : k = E := eq_of_beq hc.2.2
          cases h
          exact Or.inl ⟨by rw [ha]; exact decide_eq_true hk, rfl⟩
        · rename_i hc
          refine Or.inr ⟨?_, ih2 h⟩
          rw [ha]
          refine decide_eq_false (fun hk => hc ?_)
          have hk : k = E := hk
          subst hk
          simp only [Bool.and_eq_true, decide_eq_true_eq, beq_self_eq_true, and_true]
          exact ⟨hcov.1, by rw [Nat.blt_eq]; exact hcov.2⟩
      · refine Or.inl ⟨by simpa using hcov, ih2 ?_⟩
        split at h
        · rename_i hc
          exfalso
          apply hcov
          simp only [Bool.and_eq_true, decide_eq_true_eq] at hc
          simp only [covers, Bool.and_eq_true, decide_eq_true_eq, hpc]
          exact ⟨hc.1, by rw [← Nat.blt_eq]; exact hc.2.1⟩
        · exact h
/-- caught in the method itself -/
theorem mx_catch_ok (X : mm_X D K tys b base sc (Tb.filter goodWord) (Tb.filter mm_isN) (mx_Z base (Tb.filter mx_isC) Ex Sx) p s m args meth c q) (hH : mx_ckH Tb Ex q = true) (hcast : ∀ i, i < Ex.length → Cond.castable (Ex.getD i "") (Ex.getD i "") ∈ Tb.filter mx_isC)
    {pc E hp pc2 i : Nat} {ins : Instr} {ls : mL} {r : List Value} {h : List mE} {kc ks : Nat} (hE : E < Ex.length) (hhd : mm_hd pc E q.2.2.2.2.2.2.2.1 q.2.2.2.2.2.2.2.2.1 = some hp) (hd : decode q.2.2.2.2.1 hp = .ok (ins, mm_len ins)) (hi : i < q.2.2.2.2.2.1)
    (hins : (∃ k : Fin 4, ins = .astore_n k ∧ i = k.val ∧ pc2 = hp + 1) ∨ (ins = .astore i ∧ pc2 = hp + 2))
    (g : mm_G p l e R s m args below meth c D (mm_cls K) tys (fun a => base ≤ a) w0 b Qs (pc2, ls.set i none, [], h, kc, ks)) : mx_G D K tys b base Ex p l e R s m args below meth c w0 Qs E (pc, ls, r, h, kc, ks) := by
  intro H locs ws la sv a ce h1 h2 h3 h4 h5 hce hcv hcl T hT X0
  obtain ⟨hx, hb, hml, hown, hlocks, hret, hname, hext, hts, hK, hXs, hN, hbase, hbb, htys, hZ⟩ := X
  have hpl : e.platform.magicAccessors = ({} : Platform).magicAccessors := by rw [X0.admits.platform]
  have hfi : mx_Fi e s (F0 m pc la sv) ce.cls hp c.exceptionTable.toList := by
    refine mx_fi (E := E) (pc := pc) rfl rfl c.exceptionTable.toList q.2.2.2.2.2.2.2.2.1 (by rw [hext]; exact hhd) (fun z hz => ?_)
    have hz2 : z ∈ (q.2.2.2.2.2.2.2.1.map (fun h => h.2.2.2)).zip q.2.2.2.2.2.2.2.2.1 := by
      rw [← hext, List.map_map]
      exact hz
    have h9 := List.all_eq_true.mp hH z hz2
    simp only [Bool.and_eq_true, decide_eq_true_eq] at h9
    obtain ⟨h0, hlt, hw⟩ := h9
    obtain ⟨k, hk, hlk⟩ := Cond.classLink_spec hown (hts _ hw) e.platform hpl
    refine ⟨h0, k, hlk, ?_⟩
    by_cases hzE : z.2 = E
    · obtain ⟨c3, c4, hc3, hc4, hasg⟩ := Cond.castable_spec (va_Nw.use (A := args) rfl (hZ.2.2.2.2 _ (hcast E hE)))
      rw [decide_eq_true hzE]
      rw [hzE] at hk
      cases hc3.symm.trans hcl
      cases hc4.symm.trans hk
      exact hasg
    · obtain ⟨c3, c4, hc3, hc4, hasg⟩ := hZ.1 E z.2 hE hlt (fun z => hzE z.symm)
      rw [decide_eq_false hzE]
      cases hc3.symm.trans hcl
      cases hc4.symm.trans hk
      exact hasg
  obtain ⟨vm2, X2, st⟩ := mx_caught X0 (g := F0 m pc la sv) rfl (by rw [hT]; exact hce) hcv (by obtain ⟨k9, h9, -⟩ := Vm.findClass_spec hcl; exact ⟨k9, h9⟩) hfi
  have hW : W p l e R s m args below meth c H locs kc ks Qs (F0 m hp la [.ref a]) := by
    obtain ⟨h50, lv, h51, h52⟩ := h5
    rcases hins with ⟨k, rfl, rfl, rfl⟩ | ⟨rfl, rfl⟩
    · exact lv_astore_n hx hb hd rfl h51 (by omega) rfl (fun la2 hl2 => g H locs ws la2 [] h1 h2 h3 h4 (mm_l.drop h50 h52 hl2) rfl)
    · exact lv_astore hx hb hd h51 (by omega) rfl (fun la2 hl2 => g H locs ws la2 [] h1 h2 h3 h4 (mm_l.drop h50 h52 hl2) rfl)
  obtain ⟨t, a1, b1⟩ := hW (T.setVm vm2) hT X2
  exact ⟨t, st t a1, b1⟩
/-- not caught: it leaves the method -/
theorem mx_out_ok (X : mm_X D K tys b base sc (Tb.filter goodWord) (Tb.filter mm_isN) (mx_Z base (Tb.filter mx_isC) Ex Sx) p s m args meth c q) {pc E : Nat} {ls : mL} {r : List Value} {h : List mE} {kc ks : Nat} (hno : q.2.2.2.2.2.2.2.1 = [])
    (hend : ∀ (H : Heap) (locs : List Loc) (ws : va_W) (U : State) (a : Addr) (ce : Cell), mm_h w0 b tys h ws → va_P D (mm_cls K) ws H → va_D (fun a => base ≤ a) ws → va_S (fun a => base ≤ a) s.heap H locs → U.status = .running → Ended U below (.threw a) → s.WarmedH U.vm → s.sameButNew ({ U with vm := s.vm } : State) locs kc ks →
      H.size ≤ U.heap.size → (∀ q : Nat, q < H.size → U.heap[q]? = H[q]?) → U.heap[a]? = some ce → ce.vm = .none → s.vm.findClass (Ex.getD E "") = some ce.cls → Qs U) :
    mx_G D K tys b base Ex p l e R s m args below meth c w0 Qs E (pc, ls, r, h, kc, ks) := by
  intro H locs ws la sv a ce h1 h2 h3 h4 h5 hce hcv hcl T hT X0
  obtain ⟨hx, hb, hml, hown, hlocks, hret, hname, hext, hts, E2⟩ := X
  have hout : ∀ x ∈ c.exceptionTable.toList, covers x pc = false := by
    rw [hno] at hext
    have h9 : c.exceptionTable.toList = [] := List.map_eq_nil_iff.mp hext
    rw [h9]
    exact fun x hx => nomatch hx
  obtain ⟨st1, hrun, hended, hW, hsm⟩ := X0.leaveThrown a (g := F0 m pc la sv) rfl rfl rfl hout hlocks
  refine ⟨_, st1, hend H locs ws _ a ce h1 h2 h3 h4 hrun hended hW hsm (by show H.size ≤ T.heap.size; rw [hT]; exact Nat.le_refl _) (fun q _ => by show T.heap[q]? = H[q]?; rw [hT]) (by show T.heap[a]? = some ce; rw [hT]; exact hce) hcv hcl⟩
/-- a call of a method that catches -/
theorem mm_callW_ok {Z : State → Prop} (hZ : mm_Zc base Z) (X : mm_X D K tys b base sc (Tb.filter goodWord) (Tb.filter mm_isN) Z p s m args meth c q) {d : Nat} (hR : R.cells = q.1 ∧ R.slots = q.2.1 ∧ d + 2 ≤ R.frames ∧ 31 * d + 103 ≤ R.locals)
    {pc len grp x k z : Nat} {ins : Instr} {hs : List Nat} {ls : mL} {st as r : List Value} {h : List mE} {kc ks : Nat} {Q : mR → List mE → Prop}
    (hd : decode q.2.2.2.2.1 pc = .ok (ins, 3)) (hck : mm_ckC Tb K q.2.2.2.1.cls q.2.2.2.2.2.2.2.2.2 q2 ins 7 k z hs = true)
    (hcl : mm_cl (pc, ins, len, grp, 7, x, k, z, hs) (pc, ls, st, h, kc, ks) = some (as, r)) (hk : kc + q2.1 ≤ q.1 ∧ ks + q2.2.1 ≤ q.2.1)
    (hM : ∀ (ws : va_W) (av : List Value), mm_h ws b tys h ws → mm_vs b ws as av → Met l q2.2.2.2.1 (mm_ws (Tb.filter goodWord) q2) (mm_rm d q2) (mm_Pc D K tys b base sc (Tb.filter mm_isN) Z ws av) (mm_Qc D K tys b base ws Q) q2.1 q2.2.1 (fun a => base ≤ a))
    (g : ∀ v h1, Q (.inl v) h1 → mm_G p l e R s m args below meth c D (mm_cls K) tys (fun a => base ≤ a) w0 b Qs (pc + 3, ls, v.toList ++ r, h1, kc + q2.1, ks + q2.2.1)) :
    mm_G p l e R s m args below meth c D (mm_cls K) tys (fun a => base ≤ a) w0 b Qs (pc, ls, st, h, kc, ks) := by
  intro H locs ws la sv h1 h2 h3 h4 h5 h6
  obtain ⟨hx, hb, hml, hown, hlocks, hret, hname, hext, hts, E⟩ := X
  obtain ⟨ea, er, hlen, hc1, hrc, hsum⟩ := mm_cl_ok hcl
  dsimp only at ea er hlen hrc
  obtain ⟨h7, h8⟩ := mm_vs_take k h6
  have h9 := mm_vs_rev h7
  rw [← ea] at h9
  have h8r : mm_vs b ws r (sv.drop k) := by rw [er]; exact h8
  have hsv : sv = ((sv.take k).reverse).reverse ++ sv.drop k := by rw [List.reverse_reverse, List.take_append_drop]
  generalize hav : (sv.take k).reverse = av at h9 hsv
  generalize hre : sv.drop k = rest at h8r hsv
  have hrw : 2 * (F0 m pc la rest).monitorRoom + ((F0 m pc la rest).stack.map fun v => v.category).sum ≤ 8 := lv_room (by rw [show (rest.map fun v => v.category).sum = (rest.map Value.category).sum from rfl, mm_sum h8r]; exact hsum)
  have hmet := hM ws av (h1.re mm_ext.rf) h9
  have hNs : (Tb.filter mm_isN).all mm_isN = true := List.all_eq_true.mpr (fun w hw => (List.mem_filter.mp hw).2)
  have hgd : (Tb.filter goodWord).all goodWord = true := List.all_eq_true.mpr (fun w hw => (List.mem_filter.mp hw).2)
  have hbl : FrameBlind (mm_Pc D K tys b base sc (Tb.filter mm_isN) Z ws av) := mm_blind hZ hNs
  have hpre := mm_pre (av := av) hZ hNs E h2 h3 h4
  have hlav : av.length = as.length := mm_vs_len h9
  have hlas : as.length = k := by rw [ea, List.length_reverse, List.length_take]; omega
  unfold mm_ckC at hck
  simp only [Bool.and_eq_true] at hck
  obtain ⟨⟨hcw, hml2⟩, hck⟩ := hck
  have hml2 := Nat.le_of_ble_eq_true hml2
  have hcw := mm_hw_ok hcw
  have hgood : GoodIn (Tb.filter goodWord) (mm_ws (Tb.filter goodWord) q2) := mm_good hgd hcw
  split at hck
  all_goals first | (exact absurd ‹(7 : Nat) = 0› (by decide)) | (exact absurd ‹(7 : Nat) = 1› (by decide)) | (exact absurd ‹(7 : Nat) = 2› (by decide)) | (exact absurd ‹(7 : Nat) = 3› (by decide)) | (exact absurd ‹(7 : Nat) = 4› (by decide)) | (exact absurd ‹(7 : Nat) = 5› (by decide)) | (exact absurd ‹(7 : Nat) = 6› (by decide)) | (cases hck; done) | skip
  · rename_i i0 _
    simp only [Bool.and_eq_true] at hck
    obtain ⟨e1, e2, e3, e4⟩ := hck
    obtain ⟨-, hpl⟩ := mm_plain_ok e1
    have hini := hts _ (mm_hw_ok e4)
    have hstat := hts _ (mm_hw_ok e3)
    have hws : ∀ w ∈ mm_ws (Tb.filter goodWord) q2, ∀ (a' : Array Value) (U : State), s.WarmedH U.vm → w.before a' U = true := fun w hw a' U hW => word_at hW (hgood w hw).2 (hts w (hgood w hw).1)
    have hiniW : ∀ (a' : Array Value) (U : State), s.WarmedH U.vm → (Cond.initialized q2.2.2.2.1.cls).before a' U = true := fun a' U hW => word_at hW (good_of_word (List.mem_filter.mp (mm_hw_ok e4)).2) hini
    have hK : Back l R p e below s args q2.2.2.2.1 3 8 (PreOf R q2.1 q2.2.1 (mm_Pc D K tys b base sc (Tb.filter mm_isN) Z ws av)) (PostOf (mm_Qc D K tys b base ws Q) q2.1 q2.2.1 (fun a => base ≤ a)) := by
      cases hhh : q2.2.2.2.2.2.2.2.1 with
      | nil => exact back_of (bytes := q2.2.2.2.2.1) (maxL := q2.2.2.2.2.2.1) (ret := q2.2.2.2.2.2.2.1) hmet hbl rfl rfl hR.2.2.1 (by show 8 + (q2.2.2.2.2.2.1 + 11) + (31 * d + 72) ≤ R.locals; omega) hws (by unfold mm_ws mm_cw; rw [hhh]; exact List.mem_cons_self) hiniW
      | cons hh0 hh1 => exact va_backW (hh := hh0 :: hh1) (bytes := q2.2.2.2.2.1) (maxL := q2.2.2.2.2.2.1) (ret := q2.2.2.2.2.2.2.1) hmet hbl rfl rfl hR.2.2.1 (by show 8 + (q2.2.2.2.2.2.1 + 11) + (31 * d + 72) ≤ R.locals; omega) hws (by unfold mm_ws mm_cw; rw [hhh]; exact List.mem_cons_self) hiniW
    refine mm_back (mc := q2.1) (ms := q2.2.1) (rest := rest) (a := av.toArray) ?_ h4 h5 h8r h1.2.1 g
    intro T hT X0
    obtain ⟨mk, hnamed⟩ : ∃ mk, s.methodNamed? q2.2.2.2.1 = some mk := by
      have hc9 := hts _ hcw
      unfold mm_cw at hc9
      split at hc9
      · exact Cond.code_named hc9
      · obtain ⟨m9, -, -, hn9, -⟩ := Cond.codeWith_spec hc9
        exact ⟨m9, hn9⟩
    obtain ⟨methM, cM, hmethM, -, -, -, -, -, -, hsigM⟩ := mm_cw_spec hnamed (hts _ hcw)
    have hstatic : methM.isStatic = true := Cond.static_spec hnamed hmethM hstat
    obtain ⟨kP, hkP, -⟩ := className_of_methodNamed hnamed
    have hinitP : kP.init = .initialized := Cond.initialized_spec (findClass_of_methodNamed hnamed) hkP hini
    have hlen9 : av.length = methM.sig.parameters.length := by
      have h9 := hpl.2.2
      rw [hsigM] at h9
      have h8 : methM.sig.parameters.length = k := Option.some.inj h9
      omega
    obtain ⟨vm₁, X₁, hstep₁⟩ := X0.invokestatic hx hown (hts _ (mm_hw_ok e2)) hnamed hmethM hstatic hkP hinitP ⟨hpl.1, hpl.2.1⟩ (g := F0 m pc la sv) rfl (argsL := av) (rest := rest) hlen9 hsv (by rw [hb]; exact hd)
    obtain ⟨v, B, X', ⟨g', mk', t, L, e1, e2, hq, e3, hL, e4, e5⟩, hsteps⟩ := hK m meth c ⟨T.setVm vm₁, locs, kc, ks⟩ (F0 m pc la rest) (.invokestatic i0) mk av.toArray X₁ rfl (mm_size h5) (by rw [hb]; exact hd) hrw (X₁.named hnamed) ⟨by rw [hR.1]; exact hk.1, by rw [hR.2.1]; exact hk.2, hpre (T.setVm vm₁) hT X₁.warmed⟩
    obtain ⟨U2, l2, c2, s2⟩ := B
    dsimp only [Pt.U, Pt.locs, Pt.cells, Pt.slots] at X' e1 e2 hq e3 e4 e5 hsteps
    subst e3
    subst e4
    subst e5
    exact ⟨v, (T.setVm vm₁).calling g' mk' av.toArray, t, U2, L, hT, X', hL, e1, e2, hq, fun target ht => hstep₁ _ fun acts => by rw [doInvoke_state]; exact hsteps.trans ht⟩
end MXE
