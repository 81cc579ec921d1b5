/-! contracts of the small machine's methods; calls that return -/
section MMQ
variable (D : va_G) (K : mK) (tys : List (ClassId × FieldType)) (b base : Nat) (sc : mS) (Ns : List Cond) (Z : State → Prop)
def mm_Pc (ws : va_W) (av : List Value) : Array Value → State → Prop := va_Pc av (fun U => va_P D (mm_cls K) ws U.heap ∧ va_D (fun a => base ≤ a) ws ∧ mm_En D K tys b base sc Ns Z U)
def mm_Qc (ws : va_W) (Q : mR → List mE → Prop) : Array Value → State → Outcome → State → Prop := fun _ st o t =>
  ∃ (v w : Option Value) (h1 : List mE) (ws1 : va_W), o = .returned w ∧ Q (.inl v) h1 ∧ mm_vs b ws1 v.toList w.toList ∧ mm_h ws b tys h1 ws1 ∧ mm_ext ws ws1 ∧ va_P D (mm_cls K) ws1 t.heap ∧ va_D (fun a => base ≤ a) ws1 ∧ va_F (fun a => base ≤ a) st t
end MMQ
theorem mm_vs_app {b : Nat} {ws : va_W} : ∀ {a c d e : List Value}, mm_vs b ws a c → mm_vs b ws d e → mm_vs b ws (a ++ d) (c ++ e)
  | [], _, _, _, h, h2 => by cases h; exact h2
  | _ :: _, _, _, _, h, h2 => by
    obtain ⟨w0, w1, rfl, h3, h4⟩ := h
    exact ⟨w0, _, rfl, h3, mm_vs_app h4 h2⟩
theorem mm_vs_take {b : Nat} {ws : va_W} : ∀ (n : Nat) {a c : List Value}, mm_vs b ws a c → mm_vs b ws (a.take n) (c.take n) ∧ mm_vs b ws (a.drop n) (c.drop n)
  | 0, _, _, h => ⟨rfl, h⟩
  | _ + 1, [], _, h => by cases h; exact ⟨rfl, rfl⟩
  | n + 1, _ :: _, _, h => by
    obtain ⟨w0, w1, rfl, h3, h4⟩ := h
    obtain ⟨h5, h6⟩ := mm_vs_take n h4
    exact ⟨⟨w0, _, rfl, h3, h5⟩, h6⟩
theorem mm_vs_rev {b : Nat} {ws : va_W} : ∀ {a c : List Value}, mm_vs b ws a c → mm_vs b ws a.reverse c.reverse
  | [], _, h => by cases h; rfl
  | _ :: _, _, h => by
    obtain ⟨w0, w1, rfl, h3, h4⟩ := h
    rw [List.reverse_cons, List.reverse_cons]
    exact mm_vs_app (mm_vs_rev h4) ⟨w0, [], rfl, h3, rfl⟩
theorem mm_args1 : ∀ {vs : List Value} {i j : Nat} {w : Value}, (∀ v ∈ vs, v.category = 1) → vs[j]? = some w → (i + j, w) ∈ lv_args i vs
  | [], _, _, _, _, h => by simp at h
  | v :: vs, i, 0, w, _, h => by
    have : v = w := by simpa using h
    subst this
    exact List.mem_cons_self
  | v :: vs, i, j + 1, w, hc, h => by
    have h1 : v.category = 1 := hc v List.mem_cons_self
    have h2 : vs[j]? = some w := by simpa using h
    have h3 := mm_args1 (i := i + 1) (fun x hx => hc x (List.mem_cons_of_mem _ hx)) h2
    have h4 : i + (j + 1) = i + 1 + j := by omega
    rw [h4]
    unfold lv_args
    rw [h1]
    exact List.mem_cons_of_mem _ h3
theorem mm_sl1 : ∀ {vs : List Value}, (∀ v ∈ vs, v.category = 1) → (lg_sl vs).length = vs.length
  | [], _ => rfl
  | v :: vs, hc => by
    have h1 : v.category = 1 := hc v List.mem_cons_self
    have h2 := mm_sl1 (fun x hx => hc x (List.mem_cons_of_mem _ hx))
    unfold lg_sl at h2 ⊢
    rw [List.flatMap_cons, List.length_append, h2, h1]
    simp
    omega
theorem mm_vs_cat {b : Nat} {ws : va_W} : ∀ {a c : List Value}, mm_vs b ws a c → a.all mm_c1 = true → ∀ v ∈ c, v.category = 1
  | [], _, h, _ => by cases h; exact fun v hv => absurd hv List.not_mem_nil
  | _ :: _, _, h, hc => by
    obtain ⟨w0, w1, rfl, h3, h4⟩ := h
    rw [List.all_cons, Bool.and_eq_true] at hc
    intro v hv
    rcases List.mem_cons.mp hv with rfl | hv
    · exact mm_cat h3 hc.1
    · exact mm_vs_cat h4 hc.2 v hv
/-- the locals at a method's entry -/
theorem mm_entry {b : Nat} {ws : va_W} {as av : List Value} {n : Nat} (h : mm_vs b ws as av) (hc : as.all mm_c1 = true) (hn : as.length ≤ n) : mm_l b ws n (mm_en n as) ((lg_sl av ++ List.replicate (n - (lg_sl av).length) Slot.unset).toArray) := by
  have h1 := mm_vs_cat h hc
  have h2 := mm_sl1 h1
  have h3 := mm_vs_len h
  refine ⟨?_, _, lv_entry av (by omega), fun i v hv => ?_⟩
  · unfold mm_en
    simp
    omega
  · unfold mm_en at hv
    have hi : i < as.length := by
      rcases Nat.lt_or_ge i as.length with z | z
      · exact z
      · rw [List.getElem?_append_right (by simpa using z)] at hv
        have := List.mem_of_getElem? hv
        rw [List.mem_replicate] at this
        cases this.2
    rw [List.getElem?_append_left (by simpa using hi), List.getElem?_map] at hv
    have hv2 : as[i]? = some v := by
      cases hz : as[i]? with
      | none => rw [hz] at hv; cases hv
      | some v2 => rw [hz] at hv; cases hv; rfl
    obtain ⟨w, hw1, hw2⟩ := mm_vs_get h hv2
    have h4 := mm_args1 (i := 0) h1 hw1
    rw [Nat.zero_add] at h4
    exact ⟨List.all_eq_true.mp hc v (List.mem_of_getElem? hv2), w, hw2, h4⟩
section MMC
variable {p : Program} {l : Launch} {e : Env} {R : Room} {s : State} {m : MethodId} {args : Array Value} {below : List Frame} {meth : Method} {c : Code} {D : va_G} {K : mK} {tys : List (ClassId × FieldType)} {b base : Nat} {w0 : va_W} {Qs : State → Prop} {sc : mS} {Ts Ns : List Cond} {q : mM}
/-- what stays when nothing that was there before the run has changed -/
def mm_Zc (base : Nat) (Z : State → Prop) : Prop := ∀ u U : State, u.WarmedH U.vm → (∀ q, q < base → U.heap[q]? = u.heap[q]?) → Z u → Z U
theorem mm_blind {ws : va_W} {av : List Value} {Z : State → Prop} (hZ : mm_Zc base Z) (hN : Ns.all mm_isN = true) : FrameBlind (mm_Pc D K tys b base sc Ns Z ws av) := by
  intro a U g mk h
  obtain ⟨rfl, h1, h2, h3, h4, h5, h6, h7, h8, h9⟩ := h
  exact ⟨rfl, h1, h2, va_K.moved (u := U) (U := U.calling g mk av.toArray) (Vm.Alike.refl U.vm) h3, va_X.moved (u := U) (U := U.calling g mk av.toArray) (Vm.Alike.refl U.vm) h4, fun w hw => va_Nw.same (u := U) (mm_isN_on (List.all_eq_true.mp hN w hw)) rfl (h5 w hw), h6, h7, h8, hZ U _ (State.WarmedH.refl U) (fun _ _ => rfl) h9⟩
/-- the words of nest mates stay as the tables grow warm -/
theorem mm_Nwarm {U : State} {w : Cond} (hn : mm_isN w = true) (hW : s.WarmedH U.vm) (h : va_Nw w s) : va_Nw w U := by
  cases w <;> first | (cases hn; done) | exact va_Nw.warmF hW h | exact va_Nw.warmM hW h
/-- what holds at a call, whatever the tables have learned since the method began -/
theorem mm_pre {ws : va_W} {av : List Value} {H : Heap} {locs : List Loc} {Z : State → Prop} (hZ : mm_Zc base Z) (hN : Ns.all mm_isN = true) (E : mm_En D K tys b base sc Ns Z s) (h2 : va_P D (mm_cls K) ws H) (h3 : va_D (fun a => base ≤ a) ws) (h4 : va_S (fun a => base ≤ a) s.heap H locs) :
    ∀ U : State, U.heap = H → s.WarmedH U.vm → mm_Pc D K tys b base sc Ns Z ws av av.toArray U := by
  intro U hU hW
  obtain ⟨e1, e2, e3, e4, e5, e6, e7⟩ := E
  refine ⟨rfl, by rw [hU]; exact h2, h3, va_K.moved hW.alike e1, ?_, fun w hw => mm_Nwarm (List.all_eq_true.mp hN w hw) hW (e3 w hw), ?_, e5, e6, hZ s U hW (fun q hq => ?_) e7⟩
  · refine va_X.moved hW.alike (va_X.kept e2 ?_)
    rw [hU]
    exact h4.2.1 b (Nat.lt_of_lt_of_le e5 e4) (Nat.not_le.mpr e5)
  · rw [hU]
    exact Nat.le_trans e4 h4.1
  · rw [hU]
    exact h4.2.1 q (Nat.lt_of_lt_of_le hq e4) (Nat.not_le.mpr hq)
/-- behind a call that returned -/
theorem mm_back {H : Heap} {locs : List Loc} {ws : va_W} {la : Array Slot} {sv rest r : List Value} {pc kc ks mc ms : Nat} {ls : mL} {a : Array Value} {Q : mR → List mE → Prop}
    (hr : va_Run p l e R s m args below meth c H locs kc ks mc ms (F0 m pc la sv) rest (mm_Qc D K tys b base ws Q a) (fun a => base ≤ a)) (hS : va_S (fun a => base ≤ a) s.heap H locs) (h5 : mm_l b ws c.maxLocals ls la) (h6 : mm_vs b ws r rest) (hw0 : mm_ext w0 ws)
    (g : ∀ v h1, Q (.inl v) h1 → mm_G p l e R s m args below meth c D (mm_cls K) tys (fun a => base ≤ a) w0 b Qs (pc + 3, ls, v.toList ++ r, h1, kc + mc, ks + ms)) : W p l e R s m args below meth c H locs kc ks Qs (F0 m pc la sv) := by
  intro T hT X
  obtain ⟨w, st₀, t, T', L, h0, X', hL, e1, e2, ⟨v, w2, h1, ws1, hw, hq, hv, hh, hex, hP, hD, hF⟩, st⟩ := hr T hT X
  cases hw
  obtain ⟨f1, f2⟩ := hF
  rw [h0] at f1 f2
  have hS2 : va_S (fun a => base ≤ a) s.heap t.heap (locs ++ L) := ⟨Nat.le_trans hS.1 f1, fun q h1 h2 => by rw [f2 q (Nat.lt_of_lt_of_le h1 hS.1) h2]; exact hS.2.1 q h1 h2, fun q hq => by
    rcases List.mem_append.mp hq with h | h
    · exact hS.2.2 q h
    · exact hL q h⟩
  obtain ⟨t2, a1, b1⟩ := g v h1 hq t.heap (locs ++ L) ws1 la (w.toList ++ rest) (hh.re (hw0.tr hex)) hP hD hS2 (h5.ext hex) (mm_vs_app hv (h6.ext hex)) T' e1 X'
  exact ⟨t2, st t2 a1, b1⟩
end MMC
def mm_plain (y : MethodName) (n : Nat) : Bool := plainName y.cls && (y.cls != "java/lang/invoke/MethodHandle" && (y.cls != "java/lang/invoke/VarHandle" && decide ((parseMethodDescriptor y.desc).map (fun d => d.parameters.length) = some n)))
def mm_cw (q : mM) : Cond := match q.2.2.2.2.2.2.2.1 with
  | [] => .code q.2.2.2.1 q.2.2.2.2.1 q.2.2.2.2.2.1 q.2.2.2.2.2.2.1
  | hh => .codeWith q.2.2.2.1 q.2.2.2.2.1 q.2.2.2.2.2.1 q.2.2.2.2.2.2.1 hh
/-- a method's own words: its code, then all -/
def mm_ws (Ts : List Cond) (q : mM) : List Cond := mm_cw q :: Ts
def mm_rm (d : Nat) (q : mM) : Room := { frames := d + 1, cells := q.1, slots := q.2.1, locals := 31 * d + 72 }
def mm_ckC (Ts : List Cond) (K : mK) (own host : String) (q2 : mM) (ins : Instr) (kd y z : Nat) (hs : List Nat) : Bool :=
  (mm_hw Ts hs 0 (mm_cw q2) && Nat.ble q2.2.2.2.2.2.1 12) && (match kd, ins with
  | 0, .invokespecial i => mm_plain q2.2.2.2.1 (y - 1) && (mm_hw Ts hs 1 (.methodLink own i q2.2.2.2.1) && (mm_hw Ts hs 2 (.instanceMethod q2.2.2.2.1) && (mm_hw Ts hs 3 (.initialized q2.2.2.2.1.cls) && (q2.2.2.2.1.name == "<init>" && (q2.2.2.2.2.2.2.1 == none && (q2.2.2.2.2.2.2.2.1 == [] && Nat.ble 1 y))))))
  | 1, .invokespecial i => mm_plain q2.2.2.2.1 (y - 1) && (mm_hn Ts hs 1 (.methodLinkNest own i q2.2.2.2.1 host) && (mm_hw Ts hs 2 (.instanceMethod q2.2.2.2.1) && (mm_hw Ts hs 3 (.initialized q2.2.2.2.1.cls) && (q2.2.2.2.1.name == "<init>" && (q2.2.2.2.2.2.2.1 == none && (q2.2.2.2.2.2.2.2.1 == [] && Nat.ble 1 y))))))
  | 2, .invokevirtual i => mm_plain q2.2.2.2.1 (y - 1) && (mm_hw Ts hs 1 (.methodLink own i q2.2.2.2.1) && (mm_hw Ts hs 2 (.instanceMethod q2.2.2.2.1) && (mm_hw Ts hs 3 (.initialized q2.2.2.2.1.cls) && (mm_hw Ts hs 4 (.selects q2.2.2.2.1.cls q2.2.2.2.1 q2.2.2.2.1) && (((K[z]?).map (fun r => r.1)) == some q2.2.2.2.1.cls && (q2.2.2.2.2.2.2.2.1 == [] && Nat.ble 1 y))))))
  | 6, .invokevirtual i => mm_plain q2.2.2.2.1 (y - 1) && (mm_hw Ts hs 1 (.methodLink own i q2.2.2.2.1) && (mm_hw Ts hs 2 (.instanceMethod q2.2.2.2.1) && (mm_hw Ts hs 3 (.initialized q2.2.2.2.1.cls) && (mm_hw Ts hs 4 (.selects q2.2.2.2.1.cls q2.2.2.2.1 q2.2.2.2.1) && (((K[z]?).map (fun r => r.1)) == some q2.2.2.2.1.cls && (q2.2.2.2.2.2.2.2.1 == [] && Nat.ble 1 y))))))
  | 3, .invokevirtual i => mm_plain q2.2.2.2.1 (y - 1) && (mm_hn Ts hs 1 (.methodLinkNest own i q2.2.2.2.1 host) && (mm_hw Ts hs 2 (.instanceMethod q2.2.2.2.1) && (mm_hw Ts hs 3 (.initialized q2.2.2.2.1.cls) && (mm_hw Ts hs 4 (.selects q2.2.2.2.1.cls q2.2.2.2.1 q2.2.2.2.1) && (((K[z]?).map (fun r => r.1)) == some q2.2.2.2.1.cls && (q2.2.2.2.2.2.2.2.1 == [] && Nat.ble 1 y))))))
  | 4, .invokestatic i => mm_plain q2.2.2.2.1 y && (mm_hw Ts hs 1 (.methodLink own i q2.2.2.2.1) && (mm_hw Ts hs 2 (.static q2.2.2.2.1) && (mm_hw Ts hs 3 (.initialized q2.2.2.2.1.cls) && q2.2.2.2.2.2.2.2.1 == [])))
  | 7, .invokestatic i => mm_plain q2.2.2.2.1 y && (mm_hw Ts hs 1 (.methodLink own i q2.2.2.2.1) && (mm_hw Ts hs 2 (.static q2.2.2.2.1) && mm_hw Ts hs 3 (.initialized q2.2.2.2.1.cls)))
  | 5, .invokestatic i => mm_plain q2.2.2.2.1 y && (mm_hn Ts hs 1 (.methodLinkNest own i q2.2.2.2.1 host) && (mm_hw Ts hs 2 (.static q2.2.2.2.1) && (mm_hw Ts hs 3 (.initialized q2.2.2.2.1.cls) && q2.2.2.2.2.2.2.2.1 == [])))
  | _, _ => false)
theorem mm_plain_ok {y : MethodName} {n : Nat} (h : mm_plain y n = true) : plainName y.cls = true ∧ (y.cls ≠ "java/lang/invoke/MethodHandle" ∧ y.cls ≠ "java/lang/invoke/VarHandle" ∧ (parseMethodDescriptor y.desc).map (fun d => d.parameters.length) = some n) := by
  simp only [mm_plain, Bool.and_eq_true, bne_iff_ne, decide_eq_true_eq] at h
  exact h
theorem mm_good {Ts : List Cond} {q : mM} (hg : Ts.all goodWord = true) (h : mm_cw q ∈ Ts) : GoodIn Ts (mm_ws Ts q) := by
  have hg2 := List.all_eq_true.mp hg
  intro w hw
  rcases List.mem_cons.mp hw with rfl | hw
  · exact ⟨h, good_of_word (hg2 _ h)⟩
  · exact ⟨hw, good_of_word (hg2 _ hw)⟩
section MMC2
variable {p : Program} {l : Launch} {e : Env} {R : Room} {s : State} {m : MethodId} {args : Array Value} {below : List Frame} {meth : Method} {c : Code} {D : va_G} {K : mK} {tys : List (ClassId × FieldType)} {b base : Nat} {w0 : va_W} {Qs : State → Prop} {sc : mS} {Tb : List Cond} {q q2 : mM}
theorem mm_cl_ok {b0 : mB} {x : mC} {as r : List Value} (h : mm_cl b0 x = some (as, r)) : as = (x.2.2.1.take b0.2.2.2.2.2.2.1).reverse ∧ r = x.2.2.1.drop b0.2.2.2.2.2.2.1 ∧ b0.2.2.2.2.2.2.1 ≤ x.2.2.1.length ∧ as.all mm_c1 = true ∧ mm_recv b0.2.2.2.2.1 b0.2.2.2.2.2.2.2.1 as x.2.2.2.1 = true ∧ (r.map Value.category).sum ≤ 8 := by
  obtain ⟨pc, ins, len, grp, kd, x0, y0, z0, hs⟩ := b0
  obtain ⟨pc2, ls, st, h0, kc, ks⟩ := x
  unfold mm_cl at h
  dsimp only at h ⊢
  split at h
  · rename_i hc
    simp only [Bool.and_eq_true, decide_eq_true_eq] at hc
    obtain ⟨h1, h2, h3, h4⟩ := hc
    cases h
    refine ⟨rfl, rfl, h1, ?_, h3, Nat.le_of_ble_eq_true h4⟩
    rw [List.all_reverse]
    exact h2
  · cases h
/-- a call that returns -/
theorem mm_call_ok {Z : State → Prop} (hZ : mm_Zc base Z) (X : mm_X D K tys b base sc (Tb.filter goodWord) (Tb.filter mm_isN) Z p s m args meth c q) {d : Nat} (hR : R.cells = q.1 ∧ R.slots = q.2.1 ∧ d + 2 ≤ R.frames ∧ 31 * d + 103 ≤ R.locals)
    {pc len grp kd x k z : Nat} {ins : Instr} {hs : List Nat} {ls : mL} {st as r : List Value} {h : List mE} {kc ks : Nat} {Q : mR → List mE → Prop}
    (hd : decode q.2.2.2.2.1 pc = .ok (ins, 3)) (hck : mm_ckC Tb K q.2.2.2.1.cls q.2.2.2.2.2.2.2.2.2 q2 ins kd k z hs = true) (hkd : kd ≠ 6 ∧ kd ≠ 7)
    (hcl : mm_cl (pc, ins, len, grp, kd, x, k, z, hs) (pc, ls, st, h, kc, ks) = some (as, r)) (hk : kc + q2.1 ≤ q.1 ∧ ks + q2.2.1 ≤ q.2.1)
    (hM : ∀ (ws : va_W) (av : List Value), mm_h ws b tys h ws → mm_vs b ws as av → Met l q2.2.2.2.1 (mm_ws (Tb.filter goodWord) q2) (mm_rm d q2) (mm_Pc D K tys b base sc (Tb.filter mm_isN) Z ws av) (mm_Qc D K tys b base ws Q) q2.1 q2.2.1 (fun a => base ≤ a))
    (g : ∀ v h1, Q (.inl v) h1 → mm_G p l e R s m args below meth c D (mm_cls K) tys (fun a => base ≤ a) w0 b Qs (pc + 3, ls, v.toList ++ r, h1, kc + q2.1, ks + q2.2.1)) :
    mm_G p l e R s m args below meth c D (mm_cls K) tys (fun a => base ≤ a) w0 b Qs (pc, ls, st, h, kc, ks) := by
  intro H locs ws la sv h1 h2 h3 h4 h5 h6
  obtain ⟨hx, hb, hml, hown, hlocks, hret, hname, hext, hts, E⟩ := X
  have hN := E.2.2.1
  have hKs := E.1
  obtain ⟨ea, er, hlen, hc1, hrc, hsum⟩ := mm_cl_ok hcl
  dsimp only at ea er hlen hrc
  obtain ⟨h7, h8⟩ := mm_vs_take k h6
  have h9 := mm_vs_rev h7
  rw [← ea] at h9
  have h8r : mm_vs b ws r (sv.drop k) := by rw [er]; exact h8
  have hsv : sv = ((sv.take k).reverse).reverse ++ sv.drop k := by rw [List.reverse_reverse, List.take_append_drop]
  generalize hav : (sv.take k).reverse = av at h9 hsv
  generalize hre : sv.drop k = rest at h8r hsv
  have hsz : (F0 m pc la sv).locals.size = q.2.2.2.2.2.1 := (mm_size h5).trans hml
  have hrw : 2 * (F0 m pc la sv).monitorRoom + (rest.map fun v => v.category).sum ≤ 8 := lv_room (by rw [show (rest.map fun v => v.category).sum = (rest.map Value.category).sum from rfl, mm_sum h8r]; exact hsum)
  have hmet := hM ws av (h1.re mm_ext.rf) h9
  have hNs : (Tb.filter mm_isN).all mm_isN = true := List.all_eq_true.mpr (fun w hw => (List.mem_filter.mp hw).2)
  have hgd : (Tb.filter goodWord).all goodWord = true := List.all_eq_true.mpr (fun w hw => (List.mem_filter.mp hw).2)
  have hbl : FrameBlind (mm_Pc D K tys b base sc (Tb.filter mm_isN) Z ws av) := mm_blind hZ hNs
  have hpre := mm_pre (av := av) hZ hNs E h2 h3 h4
  have hlav : av.length = as.length := mm_vs_len h9
  have hlas : as.length = k := by rw [ea, List.length_reverse, List.length_take]; omega
  have hcf : CallFix p m c q.2.2.2.2.1 q.2.2.2.2.2.1 s args (Tb.filter goodWord) q.2.2.2.1.cls := ⟨hx, hb, hml, hown, hts⟩
  have hff : kc + q2.1 ≤ R.cells ∧ ks + q2.2.1 ≤ R.slots := ⟨by rw [hR.1]; exact hk.1, by rw [hR.2.1]; exact hk.2⟩
  unfold mm_ckC at hck
  rw [Bool.and_eq_true, Bool.and_eq_true] at hck
  obtain ⟨⟨hcw, hml2⟩, hck⟩ := hck
  have hml2 := Nat.le_of_ble_eq_true hml2
  have hcw := mm_hw_ok hcw
  have hgood : GoodIn (Tb.filter goodWord) (mm_ws (Tb.filter goodWord) q2) := mm_good hgd hcw
  have hroom : (mm_rm d q2).frames + 1 ≤ R.frames ∧ 8 + (q2.2.2.2.2.2.1 + 11) + (mm_rm d q2).locals ≤ R.locals := ⟨hR.2.2.1, by show 8 + (q2.2.2.2.2.2.1 + 11) + (31 * d + 72) ≤ R.locals; omega⟩
  have hrecv : kd ≠ 4 → kd ≠ 5 → kd ≠ 7 → ∃ (i : Nat) (fs : List Value) (as1 : List Value), as = .ref i :: as1 ∧ h[i]? = some (.inr (z, fs)) := by
    intro k4 k5 k7
    unfold mm_recv at hrc
    split at hrc
    · exact absurd rfl k4
    · exact absurd rfl k5
    · exact absurd rfl k7
    · split at hrc
      · split at hrc
        · rename_i hi
          have e9 := eq_of_beq hrc
          subst e9
          exact ⟨_, _, _, rfl, hi⟩
        · cases hrc
      · cases hrc
  split at hck
  · simp only [Bool.and_eq_true] at hck
    obtain ⟨e1, e2, e3, e4, e5, e6, e7, e8⟩ := hck
    obtain ⟨-, hpl⟩ := mm_plain_ok e1
    obtain ⟨i, fs, as1, rfl, hi⟩ := hrecv (by decide) (by decide) (by decide)
    obtain ⟨w0, av1, rfl, hw, h9⟩ := h9
    obtain ⟨a0, e0, ha0, rfl⟩ := hw
    have hcw2 : mm_ws (Tb.filter goodWord) q2 = Cond.code q2.2.2.2.1 q2.2.2.2.2.1 q2.2.2.2.2.2.1 none :: Tb.filter goodWord := by
      unfold mm_ws mm_cw
      rw [eq_of_beq e7, eq_of_beq e6]
    exact mm_back (va_runI (As := av1) (rest := rest) hcf hmet (cwI (k - 1) hts hgood hcw2 rfl rfl (hts _ (mm_hw_ok e4)) (hts _ (mm_hw_ok e2)) (hts _ (mm_hw_ok e3)) (eq_of_beq e5) hpl hroom) ⟨hbl, hpre⟩ rfl (by simp at hlav hlas; omega) hsz (by rw [List.reverse_cons, List.append_assoc] at hsv; exact hsv) hrw hd hff) h4 h5 h8r h1.2.1 g
  · simp only [Bool.and_eq_true] at hck
    obtain ⟨e1, e2, e3, e4, e5, e6, e7, e8⟩ := hck
    obtain ⟨-, hpl⟩ := mm_plain_ok e1
    obtain ⟨i, fs, as1, rfl, hi⟩ := hrecv (by decide) (by decide) (by decide)
    obtain ⟨w0, av1, rfl, hw, h9⟩ := h9
    obtain ⟨a0, e0, ha0, rfl⟩ := hw
    have hcw2 : mm_ws (Tb.filter goodWord) q2 = Cond.code q2.2.2.2.1 q2.2.2.2.2.1 q2.2.2.2.2.2.1 none :: Tb.filter goodWord := by
      unfold mm_ws mm_cw
      rw [eq_of_beq e7, eq_of_beq e6]
    exact mm_back (va_runIN (As := av1) (rest := rest) hcf hmet ⟨va_cnB (k - 1) hts hgood hcw2 rfl rfl (hN _ (mm_hn_ok e2)) (hts _ (mm_hw_ok e4)) hpl hroom, eq_of_beq e5, hts _ (mm_hw_ok e3)⟩ ⟨hbl, hpre⟩ rfl (by simp at hlav hlas; omega) hsz (by rw [List.reverse_cons, List.append_assoc] at hsv; exact hsv) hrw hd hff) h4 h5 h8r h1.2.1 g
  · simp only [Bool.and_eq_true] at hck
    obtain ⟨e1, e2, e3, e4, e5, e6, e7, e8⟩ := hck
    obtain ⟨-, hpl⟩ := mm_plain_ok e1
    obtain ⟨i, fs, as1, rfl, hi⟩ := hrecv (by decide) (by decide) (by decide)
    obtain ⟨w0, av1, rfl, hw, h9⟩ := h9
    obtain ⟨a0, e0, ha0, rfl⟩ := hw
    obtain ⟨gs, rfl, hgs⟩ := mm_cell h1 hi ha0
    have hcw2 : mm_ws (Tb.filter goodWord) q2 = Cond.code q2.2.2.2.1 q2.2.2.2.2.1 q2.2.2.2.2.2.1 q2.2.2.2.2.2.2.1 :: Tb.filter goodWord := by
      unfold mm_ws mm_cw
      rw [eq_of_beq e7]
    obtain ⟨r0, hr0, hr1⟩ : ∃ r0 : vw_C, (mm_cls K)[z]? = some r0 ∧ r0.1 = q2.2.2.2.1.cls := by
      have e9 := eq_of_beq e6
      cases hz : K[z]? with
      | none => rw [hz] at e9; cases e9
      | some r0 =>
        rw [hz] at e9
        exact ⟨(r0.1, r0.2.1, r0.2.2.1), by simp [mm_cls, hz], Option.some.inj e9⟩
    have hre := va_recv hKs h2 hr0 ha0
    rw [hr1] at hre
    exact mm_back (va_runV (As := av1) (rest := rest) (C := q2.2.2.2.1.cls) hcf hmet ⟨callB_of (k - 1) hts hgood hcw2 rfl rfl (hts _ (mm_hw_ok e4)) (hts _ (mm_hw_ok e2)) hpl hroom, hts _ (mm_hw_ok e3), hts _ (mm_hw_ok e5)⟩ ⟨hbl, hre, hpre⟩ rfl (by simp at hlav hlas; omega) hsz (by rw [List.reverse_cons, List.append_assoc] at hsv; exact hsv) hrw hd hff) h4 h5 h8r h1.2.1 g
  · exact absurd rfl hkd.1
  · simp only [Bool.and_eq_true] at hck
    obtain ⟨e1, e2, e3, e4, e5, e6, e7, e8⟩ := hck
    obtain ⟨-, hpl⟩ := mm_plain_ok e1
    obtain ⟨i, fs, as1, rfl, hi⟩ := hrecv (by decide) (by decide) (by decide)
    obtain ⟨w0, av1, rfl, hw, h9⟩ := h9
    obtain ⟨a0, e0, ha0, rfl⟩ := hw
    obtain ⟨gs, rfl, hgs⟩ := mm_cell h1 hi ha0
    have hcw2 : mm_ws (Tb.filter goodWord) q2 = Cond.code q2.2.2.2.1 q2.2.2.2.2.1 q2.2.2.2.2.2.1 q2.2.2.2.2.2.2.1 :: Tb.filter goodWord := by
      unfold mm_ws mm_cw
      rw [eq_of_beq e7]
    obtain ⟨r0, hr0, hr1⟩ : ∃ r0 : vw_C, (mm_cls K)[z]? = some r0 ∧ r0.1 = q2.2.2.2.1.cls := by
      have e9 := eq_of_beq e6
      cases hz : K[z]? with
      | none => rw [hz] at e9; cases e9
      | some r0 =>
        rw [hz] at e9
        exact ⟨(r0.1, r0.2.1, r0.2.2.1), by simp [mm_cls, hz], Option.some.inj e9⟩
    have hre := va_recv hKs h2 hr0 ha0
    rw [hr1] at hre
    exact mm_back (va_runVN (As := av1) (rest := rest) (C := q2.2.2.2.1.cls) hcf hmet ⟨va_cnB (k - 1) hts hgood hcw2 rfl rfl (hN _ (mm_hn_ok e2)) (hts _ (mm_hw_ok e4)) hpl hroom, hts _ (mm_hw_ok e3), hts _ (mm_hw_ok e5)⟩ ⟨hbl, hre, hpre⟩ rfl (by simp at hlav hlas; omega) hsz (by rw [List.reverse_cons, List.append_assoc] at hsv; exact hsv) hrw hd hff) h4 h5 h8r h1.2.1 g
  · simp only [Bool.and_eq_true] at hck
    obtain ⟨e1, e2, e3, e4, e7⟩ := hck
    obtain ⟨-, hpl⟩ := mm_plain_ok e1
    have hcw2 : mm_ws (Tb.filter goodWord) q2 = Cond.code q2.2.2.2.1 q2.2.2.2.2.1 q2.2.2.2.2.2.1 q2.2.2.2.2.2.2.1 :: Tb.filter goodWord := by
      unfold mm_ws mm_cw
      rw [eq_of_beq e7]
    exact mm_back (va_runS (As := av) (rest := rest) hcf hmet ⟨callB_of k hts hgood hcw2 rfl rfl (hts _ (mm_hw_ok e4)) (hts _ (mm_hw_ok e2)) hpl hroom, hts _ (mm_hw_ok e3)⟩ ⟨hbl, hpre⟩ rfl (by omega) hsz hsv hrw hd hff) h4 h5 h8r h1.2.1 g
  · exact absurd rfl hkd.2
  · simp only [Bool.and_eq_true] at hck
    obtain ⟨e1, e2, e3, e4, e7⟩ := hck
    obtain ⟨-, hpl⟩ := mm_plain_ok e1
    have hcw2 : mm_ws (Tb.filter goodWord) q2 = Cond.code q2.2.2.2.1 q2.2.2.2.2.1 q2.2.2.2.2.2.1 q2.2.2.2.2.2.2.1 :: Tb.filter goodWord := by
      unfold mm_ws mm_cw
      rw [eq_of_beq e7]
    exact mm_back (va_runSN (As := av) (rest := rest) hcf hmet ⟨va_cnB k hts hgood hcw2 rfl rfl (hN _ (mm_hn_ok e2)) (hts _ (mm_hw_ok e4)) hpl hroom, hts _ (mm_hw_ok e3), trivial⟩ ⟨hbl, hpre⟩ rfl (by omega) hsz hsv hrw hd hff) h4 h5 h8r h1.2.1 g
  · cases hck
end MMC2
