/-! a call that may throw, and what becomes of it; a call of a method that catches -/
section MXQ
variable (D : va_G) (K : mK) (tys : List (ClassId × FieldType)) (b base : Nat) (Ex : List String)
def mx_Qc (ws : va_W) (Q : mR → List mE → Prop) (mc ms : Nat) : Array Value → State → Outcome → State → Prop := fun a st o t =>
  (∃ L, st.WarmedH t.vm ∧ st.sameButNew ({ t with vm := st.vm } : State) L mc ms ∧ ∀ z ∈ L, base ≤ z.base) ∧
  (mm_Qc D K tys b base ws Q a st o t ∨ ∃ (x : Addr) (E : Nat) (h1 : List mE) (ws1 : va_W) (ce : Cell), o = .threw x ∧ E < Ex.length ∧ Q (.inr E) h1 ∧ mm_h ws b tys h1 ws1 ∧ mm_ext ws ws1 ∧ va_P D (mm_cls K) ws1 t.heap ∧ va_D (fun a => base ≤ a) ws1 ∧ va_F (fun a => base ≤ a) st t ∧ t.heap[x]? = some ce ∧ ce.vm = .none ∧ st.vm.findClass (Ex.getD E "") = some ce.cls)
variable (p : Program) (l : Launch) (e : Env) (R : Room) (s : State) (m : MethodId) (args : Array Value) (below : List Frame) (meth : Method) (c : Code) (w0 : va_W) (Qs : State → Prop)
/-- the machine, with an object of the class E thrown over the method's frame, comes to Qs -/
def mx_G (E : Nat) (x : mC) : Prop := ∀ (H : Heap) (locs : List Loc) (ws : va_W) (la : Array Slot) (sv : List Value) (a : Addr) (ce : Cell), mm_h w0 b tys x.2.2.2.1 ws → va_P D (mm_cls K) ws H → va_D (fun a => base ≤ a) ws → va_S (fun a => base ≤ a) s.heap H locs → mm_l b ws c.maxLocals x.2.1 la →
  H[a]? = some ce → ce.vm = .none → s.vm.findClass (Ex.getD E "") = some ce.cls → ∀ T : State, T.heap = H → Stand p l e R s m args below meth c T locs x.2.2.2.2.1 x.2.2.2.2.2 → ∃ t, Steps p.tables e below ((T.setTop (F0 m x.1 la sv)).pushFrame (.throwing a)) t ∧ Qs t
end MXQ
section MXD
variable {p : Program} {l : Launch} {e : Env} {R : Room} {s : State} {m : MethodId} {args : Array Value} {below : List Frame} {meth : Method} {c : Code} {D : va_G} {K : mK} {tys : List (ClassId × FieldType)} {b base : Nat} {w0 : va_W} {Qs : State → Prop} {sc : mS} {Tb : List Cond} {q q2 : mM} {Ex : List String}
/-- a call that returns or throws -/
theorem mx_call_ok {Z : State → Prop} (hZ : mm_Zc base Z) (X : mm_X D K tys b base sc (Tb.filter goodWord) (Tb.filter mm_isN) Z p s m args meth c q) {d : Nat} (hR : R.cells = q.1 ∧ R.slots = q.2.1 ∧ d + 2 ≤ R.frames ∧ 31 * d + 103 ≤ R.locals)
    {pc len grp x k z : Nat} {ins : Instr} {hs : List Nat} {ls : mL} {st as r : List Value} {h : List mE} {kc ks : Nat} {Q : mR → List mE → Prop}
    (hd : decode q.2.2.2.2.1 pc = .ok (ins, 3)) (hck : mm_ckC Tb K q.2.2.2.1.cls q.2.2.2.2.2.2.2.2.2 q2 ins 6 k z hs = true)
    (hcl : mm_cl (pc, ins, len, grp, 6, x, k, z, hs) (pc, ls, st, h, kc, ks) = some (as, r)) (hk : kc + q2.1 ≤ q.1 ∧ ks + q2.2.1 ≤ q.2.1)
    (hM : ∀ (ws : va_W) (av : List Value), mm_h ws b tys h ws → mm_vs b ws as av → MetFree l q2.2.2.2.1 (headSpec (mm_ws (Tb.filter goodWord) q2) (mm_rm d q2)) (mm_Pc D K tys b base sc (Tb.filter mm_isN) Z ws av) (fun _ _ _ _ _ => True) (mx_Qc D K tys b base Ex ws Q q2.1 q2.2.1))
    (g : ∀ v h1, Q (.inl v) h1 → mm_G p l e R s m args below meth c D (mm_cls K) tys (fun a => base ≤ a) w0 b Qs (pc + 3, ls, v.toList ++ r, h1, kc + q2.1, ks + q2.2.1))
    (gx : ∀ E h1, E < Ex.length → Q (.inr E) h1 → mx_G D K tys b base Ex p l e R s m args below meth c w0 Qs E (pc, ls, r, h1, kc + q2.1, ks + q2.2.1)) :
    mm_G p l e R s m args below meth c D (mm_cls K) tys (fun a => base ≤ a) w0 b Qs (pc, ls, st, h, kc, ks) := by
  intro H locs ws la sv h1 h2 h3 h4 h5 h6
  obtain ⟨hx, hb, hml, hown, hlocks, hret, hname, hext, hts, E⟩ := X
  have hKs := E.1
  obtain ⟨ea, er, hlen, hc1, hrc, hsum⟩ := mm_cl_ok hcl
  dsimp only at ea er hlen hrc
  obtain ⟨h7, h8⟩ := mm_vs_take k h6
  have h9 := mm_vs_rev h7
  rw [← ea] at h9
  have h8r : mm_vs b ws r (sv.drop k) := by rw [er]; exact h8
  have hsv : sv = ((sv.take k).reverse).reverse ++ sv.drop k := by rw [List.reverse_reverse, List.take_append_drop]
  generalize hav : (sv.take k).reverse = av at h9 hsv
  generalize hre : sv.drop k = rest at h8r hsv
  have hrw : 2 * (F0 m pc la rest).monitorRoom + ((F0 m pc la rest).stack.map fun v => v.category).sum ≤ 8 := lv_room (by rw [show (rest.map fun v => v.category).sum = (rest.map Value.category).sum from rfl, mm_sum h8r]; exact hsum)
  have hmet := hM ws av (h1.re mm_ext.rf) h9
  have hNs : (Tb.filter mm_isN).all mm_isN = true := List.all_eq_true.mpr (fun w hw => (List.mem_filter.mp hw).2)
  have hgd : (Tb.filter goodWord).all goodWord = true := List.all_eq_true.mpr (fun w hw => (List.mem_filter.mp hw).2)
  have hbl : FrameBlind (mm_Pc D K tys b base sc (Tb.filter mm_isN) Z ws av) := mm_blind hZ hNs
  have hpre := mm_pre (av := av) hZ hNs E h2 h3 h4
  have hlav : av.length = as.length := mm_vs_len h9
  have hlas : as.length = k := by rw [ea, List.length_reverse, List.length_take]; omega
  unfold mm_ckC at hck
  simp only [Bool.and_eq_true] at hck
  obtain ⟨⟨hcw, hml2⟩, hck⟩ := hck
  have hml2 := Nat.le_of_ble_eq_true hml2
  have hcw := mm_hw_ok hcw
  have hgood : GoodIn (Tb.filter goodWord) (mm_ws (Tb.filter goodWord) q2) := mm_good hgd hcw
  obtain ⟨i, fs, as1, rfl, hi⟩ : ∃ (i : Nat) (fs : List Value) (as1 : List Value), as = .ref i :: as1 ∧ h[i]? = some (.inr (z, fs)) := by
    unfold mm_recv at hrc
    split at hrc
    · exact absurd ‹(6 : Nat) = 4› (by decide)
    · exact absurd ‹(6 : Nat) = 5› (by decide)
    · exact absurd ‹(6 : Nat) = 7› (by decide)
    · split at hrc
      · split at hrc
        · rename_i hi
          have e9 := eq_of_beq hrc
          subst e9
          exact ⟨_, _, _, rfl, hi⟩
        · cases hrc
      · cases hrc
  split at hck
  all_goals first | (exact absurd ‹(6 : Nat) = 0› (by decide)) | (exact absurd ‹(6 : Nat) = 1› (by decide)) | (exact absurd ‹(6 : Nat) = 2› (by decide)) | (exact absurd ‹(6 : Nat) = 3› (by decide)) | (exact absurd ‹(6 : Nat) = 4› (by decide)) | (exact absurd ‹(6 : Nat) = 5› (by decide)) | (exact absurd ‹(6 : Nat) = 7› (by decide)) | (cases hck; done) | skip
  · rename_i i0 _
    simp only [Bool.and_eq_true] at hck
    obtain ⟨e1, e2, e3, e4, e5, e6, e7, e8⟩ := hck
    obtain ⟨-, hpl⟩ := mm_plain_ok e1
    obtain ⟨w0, av1, rfl, hw, h9⟩ := h9
    obtain ⟨a0, e0, ha0, rfl⟩ := hw
    obtain ⟨gs, rfl, hgs⟩ := mm_cell h1 hi ha0
    have hcwe : mm_cw q2 = Cond.code q2.2.2.2.1 q2.2.2.2.2.1 q2.2.2.2.2.2.1 q2.2.2.2.2.2.2.1 := by
      unfold mm_cw
      rw [eq_of_beq e7]
    rw [hcwe] at hcw
    obtain ⟨r0, hr0, hr1⟩ : ∃ r0 : vw_C, (mm_cls K)[z]? = some r0 ∧ r0.1 = q2.2.2.2.1.cls := by
      have e9 := eq_of_beq e6
      cases hz : K[z]? with
      | none => rw [hz] at e9; cases e9
      | some r0 =>
        rw [hz] at e9
        exact ⟨(r0.1, r0.2.1, r0.2.2.1), by simp [mm_cls, hz], Option.some.inj e9⟩
    obtain ⟨cellB, hcB, hoB, hclB⟩ := va_recv hKs h2 hr0 ha0
    rw [hr1] at hclB
    intro T hT X0
    have hcode := hts _ hcw
    have hinst := hts _ (mm_hw_ok e3)
    obtain ⟨mk, methM, hnamed, hmethM, hstM, habM⟩ := Cond.instanceMethod_spec hinst
    obtain ⟨methM2, cM, hmethM2, hcM, -, hlM, -, -, -, hsigM⟩ := Cond.code_spec hnamed hcode
    cases hmethM.symm.trans hmethM2
    obtain ⟨c2, r2, m2, q1, q2x, q3, q4, kP, hkP, hkPi⟩ := Cond.selects_spec (hts _ (mm_hw_ok e5))
    cases hclB.symm.trans q1
    cases (State.methodFound?_of_named hnamed ⟨hpl.1, hpl.2.1⟩).symm.trans q2x
    cases hnamed.symm.trans q3
    have hselP : selectMethod e.platform s.vm cellB.cls mk = .method mk := by rw [Launch.admits_selectMethod X0.admits]; exact q4
    have hlen9 : av1.length = methM.sig.parameters.length := by
      have h9 := hpl.2.2
      rw [hsigM] at h9
      have h8 : methM.sig.parameters.length = k - 1 := Option.some.inj h9
      simp at hlav hlas
      omega
    obtain ⟨vm₁, X₁, hstep₁⟩ := X0.invokevirtual hx hown (hts _ (mm_hw_ok e2)) hnamed hmethM hstM hkP hkPi ⟨hpl.1, hpl.2.1⟩ (a := a0) (cell := cellB) (by rw [hT]; exact hcB)
      (fun z h => by rw [h] at hoB; cases hoB) hselP hmethM habM hkP hkPi (g := F0 m pc la sv) rfl (argsL := av1) (rest := rest) hlen9 (by rw [List.reverse_cons, List.append_assoc] at hsv; exact hsv) (by rw [hb]; exact hd)
    have hd2 : decode c.code (F0 m pc la rest).pc = .ok (.invokevirtual i0, 3) := by rw [hb]; exact hd
    have hpre1 : ∀ w ∈ mm_ws (Tb.filter goodWord) q2, w.before (Value.ref a0 :: av1).toArray (T.setVm vm₁) = true := fun w hw => word_at X₁.warmed (hgood w hw).2 (hts w (hgood w hw).1)
    have hk9 : (T.setVm vm₁).methodNamed? q2.2.2.2.1 = some mk := X₁.named hnamed
    obtain ⟨methY, cY, hmY, hcY, -, hlY, -, -, -, -⟩ := Cond.code_spec hk9 (hpre1 _ (by unfold mm_ws; rw [hcwe]; exact List.mem_cons_self))
    obtain ⟨kY, hkY, -⟩ := className_of_methodNamed hk9
    have hiniY : kY.init = .initialized := Cond.initialized_spec (findClass_of_methodNamed hk9) hkY (word_at (a' := (Value.ref a0 :: av1).toArray) X₁.warmed (good_of_word (List.mem_filter.mp (mm_hw_ok e4)).2) (hts _ (mm_hw_ok e4)))
    have happ : (headSpec (mm_ws (Tb.filter goodWord) q2) (mm_rm d q2)).appliesLoose q2.2.2.2.1 e.platform ((T.setVm vm₁).calling (F0 m pc la rest) mk (Value.ref a0 :: av1).toArray) = true :=
      Spec.appliesLoose_calling (g := F0 m pc la rest) X₁.here hd2 hk9 hkY hiniY
        (X₁.room_calling (g := F0 m pc la rest) (R' := (headSpec (mm_ws (Tb.filter goodWord) q2) (mm_rm d q2)).room) (mm_size h5) hmY hcY hR.2.2.1 (by rw [hlY]; show _ + (q2.2.2.2.2.2.1 + 11) + (31 * d + 72) ≤ R.locals; omega) (by rw [hR.1]; exact hk.1) (by rw [hR.2.1]; exact hk.2)) (atoms_intro hpre1)
    obtain ⟨mid, hmid⟩ := X₁.here.above
    have hfr : ((T.setVm vm₁).setTop (F0 m pc la rest)).frames = (.java (F0 m pc la rest) :: mid) ++ below := by rw [State.frames_setTop' _ X₁.here.top, hmid]; rfl
    obtain ⟨o, s₂, hsteps, -, hend, hq⟩ := Steps.callFree hmet p X₁.admits X₁.cas X₁.clock (acts := []) hfr happ (hbl _ _ (F0 m pc la rest) mk (hpre (T.setVm vm₁) hT X₁.warmed)) trivial
    rw [State.frames_setTop' _ X₁.here.top, X₁.tail] at hend
    obtain ⟨⟨L, hWq, hsm, hL⟩, hq⟩ := hq
    have hst₀ : ((T.setVm vm₁).calling (F0 m pc la rest) mk (Value.ref a0 :: av1).toArray).heap = H := hT
    rcases hq with ⟨v, w, h10, ws1, rfl, hq, hv, hh, hex, hP, hD, hF⟩ | ⟨xa, Ee, h10, ws1, ce, rfl, hEl, hq, hh, hex, hP, hD, hF, hce, hcv, hcl9⟩
    · obtain ⟨T2, X2, hW2, hsm2, ht⟩ := X₁.outOf (g := F0 m pc la rest) rfl hd2 hend hWq hsm
      obtain ⟨f1, f2⟩ := hF
      rw [show (State.pushFrame ((T.setVm vm₁).setTop (F0 m pc la rest)) (.invoking mk (Value.ref a0 :: av1).toArray)).heap = H from hT] at f1 f2
      have hhe : T2.heap = s₂.heap := by rw [ht]; rfl
      have hS2 : va_S (fun a => base ≤ a) s.heap s₂.heap (locs ++ L) := ⟨Nat.le_trans h4.1 f1, fun q h1 h2 => by rw [f2 q (Nat.lt_of_lt_of_le h1 h4.1) h2]; exact h4.2.1 q h1 h2, fun q hq => by
        rcases List.mem_append.mp hq with h | h
        · exact h4.2.2 q h
        · exact hL q h⟩
      obtain ⟨t2, a1, b1⟩ := g v h10 hq s₂.heap (locs ++ L) ws1 la (w.toList ++ rest) (hh.re (h1.2.1.tr hex)) hP hD hS2 (h5.ext hex) (mm_vs_app hv (h8r.ext hex)) T2 hhe X2
      refine ⟨t2, hstep₁ _ fun acts => ?_, b1⟩
      rw [doInvoke_state]
      refine Steps.trans hsteps ?_
      rw [ht]
      exact a1
    · obtain ⟨T2, X2, hW2, hsm2, ht⟩ := X₁.outOfThrown (g := F0 m pc la rest) rfl hend hWq hsm
      obtain ⟨f1, f2⟩ := hF
      rw [show (State.pushFrame ((T.setVm vm₁).setTop (F0 m pc la rest)) (.invoking mk (Value.ref a0 :: av1).toArray)).heap = H from hT] at f1 f2
      have hhe : T2.heap = s₂.heap := by rw [ht]; rfl
      have hS2 : va_S (fun a => base ≤ a) s.heap s₂.heap (locs ++ L) := ⟨Nat.le_trans h4.1 f1, fun q h1 h2 => by rw [f2 q (Nat.lt_of_lt_of_le h1 h4.1) h2]; exact h4.2.1 q h1 h2, fun q hq => by
        rcases List.mem_append.mp hq with h | h
        · exact h4.2.2 q h
        · exact hL q h⟩
      have hcl8 : s.vm.findClass (Ex.getD Ee "") = some ce.cls := by
        have h1 : vm₁.findClass (Ex.getD Ee "") = some ce.cls := hcl9
        have h2 := X₁.warmed.alike.findClass (Ex.getD Ee "")
        rw [← h2]
        exact h1
      obtain ⟨t2, a1, b1⟩ := gx Ee h10 hEl hq s₂.heap (locs ++ L) ws1 la rest xa ce (hh.re (h1.2.1.tr hex)) hP hD hS2 (h5.ext hex) hce hcv hcl8 T2 hhe X2
      refine ⟨t2, hstep₁ _ fun acts => ?_, b1⟩
      rw [doInvoke_state]
      refine Steps.trans hsteps ?_
      rw [ht]
      exact a1
end MXD
