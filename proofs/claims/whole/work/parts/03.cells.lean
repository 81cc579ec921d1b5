/-! the small machine's cells: fields, arrays, what is made -/
theorem mm_c_arr {b : Nat} {tys : List (ClassId × FieldType)} {ws : va_W} {ty : FieldType} {cA : ClassId} {a : vp_A} (h : (cA, ty) ∈ tys) : mm_c b tys ws (.inl (ty, a)) (.inl (cA, a)) := ⟨rfl, h⟩
theorem mm_c_obj {b : Nat} {tys : List (ClassId × FieldType)} {ws : va_W} {ci : Nat} {fs gs : List Value} (h : mm_vs b ws fs gs) : mm_c b tys ws (.inr (ci, fs)) (.inr (ci, gs)) := ⟨rfl, h⟩
theorem mm_v_new {w0 : va_W} {b : Nat} {tys : List (ClassId × FieldType)} {h : List mE} {ws : va_W} {q : Nat} {e1 : va_E} (hh : mm_h w0 b tys h ws) : mm_v b (ws ++ [(q, e1)]) (.ref h.length) (.ref q) := ⟨q, e1, by rw [← hh.1]; simp, rfl⟩
theorem mm_cell {w0 : va_W} {b : Nat} {tys : List (ClassId × FieldType)} {h : List mE} {ws : va_W} {i q ci : Nat} {e : va_E} {fs : List Value} (hh : mm_h w0 b tys h ws) (hi : h[i]? = some (.inr (ci, fs))) (hq : ws[i]? = some (q, e)) : ∃ gs, e = .inr (ci, gs) ∧ mm_vs b ws fs gs := by
  obtain ⟨q3, e3, hq3, hc3⟩ := hh.2.2 i _ hi
  cases hq.symm.trans hq3
  rcases e with e | ⟨cj, gs⟩
  · exact hc3.elim
  · obtain ⟨rfl, hgs⟩ := hc3
    exact ⟨gs, rfl, hgs⟩
theorem mm_arr {w0 : va_W} {b : Nat} {tys : List (ClassId × FieldType)} {h : List mE} {ws : va_W} {i q : Nat} {e : va_E} {ty : FieldType} {a : vp_A} (hh : mm_h w0 b tys h ws) (hi : h[i]? = some (.inl (ty, a))) (hq : ws[i]? = some (q, e)) : ∃ (cA : ClassId) (t0 : Nat), e = .inl (cA, a) ∧ tys[t0]? = some (cA, ty) := by
  obtain ⟨q3, e3, hq3, hc3⟩ := hh.2.2 i _ hi
  cases hq.symm.trans hq3
  rcases e with ⟨cA, a2⟩ | e
  · obtain ⟨rfl, hm⟩ := hc3
    obtain ⟨t0, ht0⟩ := List.getElem?_of_mem hm
    exact ⟨cA, t0, rfl, ht0⟩
  · exact hc3.elim
theorem mm_defs {b : Nat} {ws : va_W} : ∀ {tl : List FieldType}, (∀ ty ∈ tl, ty ≠ .float) → mm_vs b ws (tl.map defaultValue) (tl.map defaultValue)
  | [], _ => rfl
  | t :: tl, h => by
    refine ⟨_, _, rfl, ?_, mm_defs (fun ty hy => h ty (List.mem_cons_of_mem _ hy))⟩
    have h1 := h t List.mem_cons_self
    cases t <;> first | rfl | exact absurd rfl h1
theorem mm_defV {tl : List FieldType} {j : Nat} (h : j < tl.length) : defaultValue (tl.getD j .int) = vp_V (tl.map defaultValue) j := by
  unfold vp_V
  rw [List.getD_eq_getElem?_getD, List.getD_eq_getElem?_getD, List.getElem?_map, List.getElem?_eq_getElem h]
  rfl
section MMH
variable {p : Program} {l : Launch} {e : Env} {R : Room} {s : State} {m : MethodId} {args : Array Value} {below : List Frame} {meth : Method} {c : Code} {D : va_G} {cl : List vw_C} {tys : List (ClassId × FieldType)} {A : Nat → Prop} {w0 : va_W} {b : Nat} {Q : State → Prop}
variable {cc : ByteArray} {pc len : Nat} {ins : Instr} {ls : mL} {st : List Value} {h : List mE} {kc ks : Nat} {ps : List Prop} {y : mC}
variable {own C : String} {T : u_T} {N ci k idx : Nat} {Ts : List Cond} {K : mK} {tl : List FieldType} {sc : mS}
theorem mm_getf_ok (hx : p.tables.exec = Jvm.exec) (hb : c.code = cc) (hd : decode cc pc = .ok (ins, mm_len ins)) (hts : ∀ w ∈ Ts, w.before args s = true) (hin : ∀ w ∈ u_ws C T N, w ∈ Ts) (hown : s.vm.findClass own = some m.cls) (hK : va_K D cl tys s) (hc : cl[ci]? = some (C, T, N)) (hk : k < N) (hlink : (Cond.fieldLink own idx (T k).1 (T k).2.1 (T k).2.2.1).before args s = true ∨ ∃ host, (Cond.fieldLinkNest own idx (T k).1 (T k).2.1 (T k).2.2.1 host).before args s = true) (hi : ins = .getfield idx) (ho : mm_getf pc ci k ls st h kc ks = some (ps, y)) (g : mm_G p l e R s m args below meth c D cl tys A w0 b Q y) : mm_G p l e R s m args below meth c D cl tys A w0 b Q (pc, ls, st, h, kc, ks) := by
  intro H locs ws la sv h1 h2 h3 h4 h5 h6
  subst hi
  unfold mm_getf at ho
  split at ho
  · split at ho
    · rename_i hh
      split at ho
      · rename_i hcj hf
        cases ho
        have hcj2 := eq_of_beq hcj
        subst hcj2
        obtain ⟨w0, w1, rfl, hw, h6⟩ := h6
        obtain ⟨q, e2, hq, rfl⟩ := hw
        obtain ⟨gs, rfl, hgs⟩ := mm_cell h1 hh hq
        obtain ⟨w, hw1, hw2⟩ := mm_vs_get hgs hf
        rcases hlink with hlink | ⟨host, hlink⟩
        · exact va_get hx hb hts hin hown hK h2 _ hq hc k hk hlink (fun _ z => z) hw1 hd (g H locs ws la _ h1 h2 h3 h4 h5 ⟨_, _, rfl, hw2, h6⟩)
        · exact va_getN hx hb hts hin hown hK h2 _ hq hc k hk hlink (fun _ z => z) hw1 hd (g H locs ws la _ h1 h2 h3 h4 h5 ⟨_, _, rfl, hw2, h6⟩)
      · cases ho
    · cases ho
  · cases ho
theorem mm_putf_ok (hx : p.tables.exec = Jvm.exec) (hb : c.code = cc) (hd : decode cc pc = .ok (ins, mm_len ins)) (hts : ∀ w ∈ Ts, w.before args s = true) (hin : ∀ w ∈ u_ws C T N, w ∈ Ts) (hown : s.vm.findClass own = some m.cls) (hK : va_K D cl tys s) (hc : cl[ci]? = some (C, T, N)) (hk : k < N) (hlink : (Cond.fieldLink own idx (T k).1 (T k).2.1 (T k).2.2.1).before args s = true ∨ ∃ host, (Cond.fieldLinkNest own idx (T k).1 (T k).2.1 (T k).2.2.1 host).before args s = true) (hKc : K[ci]? = some (C, T, N, tl)) (hty : ∀ k, k < N → parseFieldDescriptor (T k).2.2.1 = some (tl.getD k .int)) (hnm : ∀ a, a < N → ∀ b, b < N → a ≠ b → (T a).2.1 ≠ (T b).2.1)
    (hfin : (T k).2.2.2 = false ∨ ((T k).2.2.2 = true ∧ meth.name = "<init>" ∧ (T k).1 = own ∧ (Cond.fieldLink own idx (T k).1 (T k).2.1 (T k).2.2.1).before args s = true)) (hi : ins = .putfield idx) (ho : mm_putf K pc ci k ls st h kc ks = some (ps, y)) (hp : mm_all ps) (g : mm_G p l e R s m args below meth c D cl tys A w0 b Q y) : mm_G p l e R s m args below meth c D cl tys A w0 b Q (pc, ls, st, h, kc, ks) := by
  intro H locs ws la sv h1 h2 h3 h4 h5 h6
  subst hi
  unfold mm_putf at ho
  split at ho
  · split at ho
    · rename_i hh
      split at ho
      · rename_i hcj hKq
        split at ho
        · rename_i ty hf
          cases ho
          have hcj2 := eq_of_beq hcj
          subst hcj2
          cases hKc.symm.trans hKq
          obtain ⟨wv, w8, rfl, hwv, w0, w1, rfl, hw, h6⟩ := h6
          obtain ⟨q, e2, hq, rfl⟩ := hw
          obtain ⟨gs, rfl, hgs⟩ := mm_cell h1 hh hq
          obtain ⟨hp1, hp2, -⟩ := hp
          obtain ⟨hn, hfit⟩ := mm_fit_ok hwv hp1
          have hd9 : parseFieldDescriptor (T k).2.2.1 = some ty := by
            rw [hty k hk, List.getD_eq_getElem?_getD]
            have hf2 : tl[k]? = some ty := hf
            rw [hf2]
            rfl
          have hl9 : k < gs.length := by rw [mm_vs_len hgs]; exact hp2
          rcases hfin with hfin | ⟨hfin, hini, hdecl, hlink⟩
          · rcases hlink with hlink | ⟨host, hlink⟩
            · exact va_put hx hb hts hin (fun j => tl.getD j .int) hty hnm hown hK h2 h3 h4 _ hq hc k hk hlink (fun _ z => z) hfin hd9 hn hfit hl9 hd (fun H1 locs1 hP1 hD1 hS1 => g H1 locs1 _ la _ (mm_h.set h1 hq (mm_c_obj (mm_vs_set hwv hgs))) hP1 hD1 hS1 (h5.ext (mm_ext.set hq)) (h6.ext (mm_ext.set hq)))
            · exact va_putN hx hb hts hin (fun j => tl.getD j .int) hty hnm hown hK h2 h3 h4 _ hq hc k hk hlink (fun _ z => z) hfin hd9 hn hfit hl9 hd (fun H1 locs1 hP1 hD1 hS1 => g H1 locs1 _ la _ (mm_h.set h1 hq (mm_c_obj (mm_vs_set hwv hgs))) hP1 hD1 hS1 (h5.ext (mm_ext.set hq)) (h6.ext (mm_ext.set hq)))
          · exact va_putF hx hb hts hin (fun j => tl.getD j .int) hty hnm hown hK h2 h3 h4 _ hq hc k hk hlink (fun _ z => z) hfin hini hdecl hd9 hn hfit hl9 hd (fun H1 locs1 hP1 hD1 hS1 => g H1 locs1 _ la _ (mm_h.set h1 hq (mm_c_obj (mm_vs_set hwv hgs))) hP1 hD1 hS1 (h5.ext (mm_ext.set hq)) (h6.ext (mm_ext.set hq)))
        · cases ho
      · cases ho
    · cases ho
  · cases ho
theorem mm_ald_ok (hx : p.tables.exec = Jvm.exec) (hb : c.code = cc) (hd : decode cc pc = .ok (ins, mm_len ins)) (hK : va_K D cl tys s) (hX : va_X b sc.1 sc.2 s s.heap) (hbl : b < s.heap.size) (hbA : ¬ A b) (ho : mm_ald sc pc ins ls st h kc ks = some (ps, y)) (hp : mm_all ps) (g : mm_G p l e R s m args below meth c D cl tys A w0 b Q y) : mm_G p l e R s m args below meth c D cl tys A w0 b Q (pc, ls, st, h, kc, ks) := by
  intro H locs ws la sv h1 h2 h3 h4 h5 h6
  unfold mm_ald at ho
  split at ho
  · split at ho
    · rename_i hh
      cases ho
      obtain ⟨w0, w1, rfl, hw, w2, w3, rfl, hw2, h6⟩ := h6
      cases hw
      obtain ⟨q, e2, hq, rfl⟩ := hw2
      obtain ⟨cA, t0, rfl, ht0⟩ := mm_arr h1 hh hq
      exact va_iald hx hb hK h2 _ t0 hq ht0 (mm_in_ok hp.1) hd (g H locs ws la _ h1 h2 h3 h4 h5 ⟨_, _, rfl, rfl, h6⟩)
    · rename_i hh
      cases ho
      obtain ⟨w0, w1, rfl, hw, w2, w3, rfl, hw2, h6⟩ := h6
      cases hw
      obtain ⟨q, e2, hq, rfl⟩ := hw2
      obtain ⟨cA, t0, rfl, ht0⟩ := mm_arr h1 hh hq
      exact va_zald hx hb hK h2 _ t0 hq ht0 (mm_in_ok hp.1) hd (g H locs ws la _ h1 h2 h3 h4 h5 ⟨_, _, rfl, rfl, h6⟩)
    · rename_i hh
      cases ho
      obtain ⟨w0, w1, rfl, hw, w2, w3, rfl, hw2, h6⟩ := h6
      cases hw
      obtain ⟨q, e2, hq, rfl⟩ := hw2
      obtain ⟨cA, t0, rfl, ht0⟩ := mm_arr h1 hh hq
      exact va_lald hx hb hK h2 _ t0 hq ht0 (mm_in_ok hp.1) hd (g H locs ws la _ h1 h2 h3 h4 h5 ⟨_, _, rfl, rfl, h6⟩)
    · cases ho
  · split at ho
    · cases ho
      obtain ⟨w0, w1, rfl, hw, w2, w3, rfl, hw2, h6⟩ := h6
      cases hw
      cases hw2
      exact va_sld hx hb hX hbl hbA h4 (mm_in_ok hp.1) hd (g H locs ws la _ h1 h2 h3 h4 h5 ⟨_, _, rfl, rfl, h6⟩)
    · cases ho
  · cases ho
theorem mm_ast_ok (hx : p.tables.exec = Jvm.exec) (hb : c.code = cc) (hd : decode cc pc = .ok (ins, mm_len ins)) (hK : va_K D cl tys s) (ho : mm_ast pc ins ls st h kc ks = some (ps, y)) (hp : mm_all ps) (g : mm_G p l e R s m args below meth c D cl tys A w0 b Q y) : mm_G p l e R s m args below meth c D cl tys A w0 b Q (pc, ls, st, h, kc, ks) := by
  intro H locs ws la sv h1 h2 h3 h4 h5 h6
  unfold mm_ast at ho
  split at ho
  · split at ho
    · rename_i hh
      cases ho
      obtain ⟨w0, w1, rfl, hw, w2, w3, rfl, hw2, w4, w5, rfl, hw3, h6⟩ := h6
      cases hw
      cases hw2
      obtain ⟨q, e2, hq, rfl⟩ := hw3
      obtain ⟨cA, t0, rfl, ht0⟩ := mm_arr h1 hh hq
      exact va_iast hx hb hK h2 h3 h4 _ t0 hq ht0 (mm_in_ok hp.1) hd (fun H1 locs1 hP1 hD1 hS1 => g H1 locs1 _ la _ (mm_h.set h1 hq (mm_c_arr (List.mem_of_getElem? ht0))) hP1 hD1 hS1 (h5.ext (mm_ext.set hq)) (h6.ext (mm_ext.set hq)))
    · rename_i hh
      cases ho
      obtain ⟨w0, w1, rfl, hw, w2, w3, rfl, hw2, w4, w5, rfl, hw3, h6⟩ := h6
      cases hw
      cases hw2
      obtain ⟨q, e2, hq, rfl⟩ := hw3
      obtain ⟨cA, t0, rfl, ht0⟩ := mm_arr h1 hh hq
      exact va_zast hx hb hK h2 h3 h4 _ t0 hq ht0 (mm_in_ok hp.1) hd (fun H1 locs1 hP1 hD1 hS1 => g H1 locs1 _ la _ (mm_h.set h1 hq (mm_c_arr (List.mem_of_getElem? ht0))) hP1 hD1 hS1 (h5.ext (mm_ext.set hq)) (h6.ext (mm_ext.set hq)))
    · cases ho
  · split at ho
    · rename_i hh
      cases ho
      obtain ⟨w0, w1, rfl, hw, w2, w3, rfl, hw2, w4, w5, rfl, hw3, h6⟩ := h6
      cases hw
      cases hw2
      obtain ⟨q, e2, hq, rfl⟩ := hw3
      obtain ⟨cA, t0, rfl, ht0⟩ := mm_arr h1 hh hq
      exact va_last hx hb hK h2 h3 h4 _ t0 hq ht0 (mm_in_ok hp.1) hd (fun H1 locs1 hP1 hD1 hS1 => g H1 locs1 _ la _ (mm_h.set h1 hq (mm_c_arr (List.mem_of_getElem? ht0))) hP1 hD1 hS1 (h5.ext (mm_ext.set hq)) (h6.ext (mm_ext.set hq)))
    · cases ho
  · cases ho
theorem mm_alen_ok (hx : p.tables.exec = Jvm.exec) (hb : c.code = cc) (hd : decode cc pc = .ok (ins, mm_len ins)) (hi : ins = .arraylength) (hK : va_K D cl tys s) (hX : va_X b sc.1 sc.2 s s.heap) (hbl : b < s.heap.size) (hbA : ¬ A b) (ho : mm_alen sc pc ls st h kc ks = some (ps, y)) (g : mm_G p l e R s m args below meth c D cl tys A w0 b Q y) : mm_G p l e R s m args below meth c D cl tys A w0 b Q (pc, ls, st, h, kc, ks) := by
  intro H locs ws la sv h1 h2 h3 h4 h5 h6
  subst hi
  unfold mm_alen at ho
  split at ho
  · split at ho
    · rename_i hh
      cases ho
      obtain ⟨w0, w1, rfl, hw, h6⟩ := h6
      obtain ⟨q, e2, hq, rfl⟩ := hw
      obtain ⟨cA, t0, rfl, ht0⟩ := mm_arr h1 hh hq
      exact va_alen hx hb hK h2 _ t0 hq ht0 rfl hd (g H locs ws la _ h1 h2 h3 h4 h5 ⟨_, _, rfl, rfl, h6⟩)
    · cases ho
  · cases ho
    obtain ⟨w0, w1, rfl, hw, h6⟩ := h6
    cases hw
    exact va_slen hx hb hX hbl hbA h4 hd (g H locs ws la _ h1 h2 h3 h4 h5 ⟨_, _, rfl, rfl, h6⟩)
  · cases ho
theorem mm_new_ok (hx : p.tables.exec = Jvm.exec) (hb : c.code = cc) (hd : decode cc pc = .ok (ins, mm_len ins)) {mc ms : Nat} (hts : ∀ w ∈ Ts, w.before args s = true) (hin : ∀ w ∈ u_ws C T N, w ∈ Ts) (hown : s.vm.findClass own = some m.cls) (hK : va_K D cl tys s) (hc : cl[ci]? = some (C, T, N)) (hA : ∀ q, s.heap.size ≤ q → A q)
    (hKc : K[ci]? = some (C, T, N, tl)) (hty : ∀ k, k < N → parseFieldDescriptor (T k).2.2.1 = some (tl.getD k .int)) (htl : tl.length = N) (hfl : ∀ ty ∈ tl, ty ≠ .float)
    (hcl : (Cond.classLink own idx C).before args s = true) (hinst : (Cond.instantiable C N).before args s = true) (hini : (Cond.initialized C).before args s = true) (hR : mc ≤ R.cells ∧ ms ≤ R.slots) (hi : ins = .new idx) (ho : mm_new K mc ms pc ci ls st h kc ks = some (ps, y)) (hp : mm_all ps) (g : mm_G p l e R s m args below meth c D cl tys A w0 b Q y) : mm_G p l e R s m args below meth c D cl tys A w0 b Q (pc, ls, st, h, kc, ks) := by
  intro H locs ws la sv h1 h2 h3 h4 h5 h6
  subst hi
  unfold mm_new at ho
  split at ho
  · rename_i hKq
    cases hKc.symm.trans hKq
    cases ho
    obtain ⟨hp1, hp2, -⟩ := hp
    have hp2 : ks + N ≤ ms := hp2
    refine va_new hx hb hts hin (fun j => tl.getD j .int) hty hown hcl hinst hini hK h2 h3 h4 hA hc (fs := tl.map defaultValue) (fun j hj => mm_defV (by omega)) (Nat.le_trans hp1 hR.1) (Nat.le_trans hp2 hR.2) hd (fun q H1 hP1 hD1 hS1 => ?_)
    exact g H1 locs _ la _ (mm_h.app h1 (mm_c_obj (mm_defs hfl))) hP1 hD1 hS1 (h5.ext mm_ext.app) ⟨_, _, rfl, mm_v_new h1, h6.ext mm_ext.app⟩
  · cases ho
theorem mm_nneg {n : Int32} (h : 0 ≤ n) : ¬ n < 0 := fun h2 => Int32.lt_irrefl (Int32.lt_of_lt_of_le h2 h)
theorem mm_newa_ok (hx : p.tables.exec = Jvm.exec) (hb : c.code = cc) (hd : decode cc pc = .ok (ins, mm_len ins)) {mc ms : Nat} (hK : va_K D cl tys s) (hA : ∀ q, s.heap.size ≤ q → A q) (hty : ∀ ty ∈ ([.int, .boolean, .long] : List FieldType), ∃ cA, (cA, ty) ∈ tys) (harr : ∀ ty ∈ ([.int, .boolean, .long] : List FieldType), (Cond.arrayClass ty).before args s = true) (hR : mc ≤ R.cells ∧ ms ≤ R.slots) (ho : mm_newa mc ms pc ins ls st h kc ks = some (ps, y)) (hp : mm_all ps) (g : mm_G p l e R s m args below meth c D cl tys A w0 b Q y) : mm_G p l e R s m args below meth c D cl tys A w0 b Q (pc, ls, st, h, kc, ks) := by
  intro H locs ws la sv h1 h2 h3 h4 h5 h6
  unfold mm_newa at ho
  split at ho
  · split at ho
    · cases ho
      obtain ⟨w0, w1, rfl, hw, h6⟩ := h6
      cases hw
      obtain ⟨hp1, hp2, hp3, hp4, -⟩ := hp
      obtain ⟨cA0, hm0⟩ := hty .int (by simp)
      obtain ⟨t0, ht0⟩ := List.getElem?_of_mem hm0
      refine va_newa hx hb (atype := .int) (harr .int (by simp)) (ty := .int) rfl hK h2 h3 h4 hA (a0 := (_, .inl (fun _ => 0))) (fun _ => rfl) (mm_nneg hp1) rfl (Nat.le_trans (Nat.mul_le_mul_right (componentBytes .int) hp2) (by decide)) (Nat.le_trans hp3 hR.1) (Nat.le_trans hp4 hR.2) hd (fun q cA H1 hK1 hP1 hD1 hS1 => ?_)
      have e1 := (hK.2 t0 _ ht0).2
      have e2 := (hK1.2 tys.length (cA, .int) (by simp)).2
      have e3 : cA0 = cA := Option.some.inj (Eq.trans (Eq.symm e1) e2)
      subst e3
      exact g H1 locs _ la _ (mm_h.app h1 (mm_c_arr hm0)) hP1 hD1 hS1 (h5.ext mm_ext.app) ⟨_, _, rfl, mm_v_new h1, h6.ext mm_ext.app⟩
    · cases ho
      obtain ⟨w0, w1, rfl, hw, h6⟩ := h6
      cases hw
      obtain ⟨hp1, hp2, hp3, hp4, -⟩ := hp
      obtain ⟨cA0, hm0⟩ := hty .boolean (by simp)
      obtain ⟨t0, ht0⟩ := List.getElem?_of_mem hm0
      refine va_newa hx hb (atype := .boolean) (harr .boolean (by simp)) (ty := .boolean) rfl hK h2 h3 h4 hA (a0 := (_, .inl (fun _ => 0))) (fun _ => rfl) (mm_nneg hp1) rfl (Nat.le_trans (Nat.mul_le_mul_right (componentBytes .boolean) hp2) (by decide)) (Nat.le_trans hp3 hR.1) (Nat.le_trans hp4 hR.2) hd (fun q cA H1 hK1 hP1 hD1 hS1 => ?_)
      have e1 := (hK.2 t0 _ ht0).2
      have e2 := (hK1.2 tys.length (cA, .boolean) (by simp)).2
      have e3 : cA0 = cA := Option.some.inj (Eq.trans (Eq.symm e1) e2)
      subst e3
      exact g H1 locs _ la _ (mm_h.app h1 (mm_c_arr hm0)) hP1 hD1 hS1 (h5.ext mm_ext.app) ⟨_, _, rfl, mm_v_new h1, h6.ext mm_ext.app⟩
    · cases ho
      obtain ⟨w0, w1, rfl, hw, h6⟩ := h6
      cases hw
      obtain ⟨hp1, hp2, hp3, hp4, -⟩ := hp
      obtain ⟨cA0, hm0⟩ := hty .long (by simp)
      obtain ⟨t0, ht0⟩ := List.getElem?_of_mem hm0
      refine va_newa hx hb (atype := .long) (harr .long (by simp)) (ty := .long) rfl hK h2 h3 h4 hA (a0 := (_, .inr (.inl (fun _ => 0)))) (fun _ => rfl) (mm_nneg hp1) rfl (Nat.le_trans (Nat.mul_le_mul_right (componentBytes .long) hp2) (by decide)) (Nat.le_trans hp3 hR.1) (Nat.le_trans hp4 hR.2) hd (fun q cA H1 hK1 hP1 hD1 hS1 => ?_)
      have e1 := (hK.2 t0 _ ht0).2
      have e2 := (hK1.2 tys.length (cA, .long) (by simp)).2
      have e3 : cA0 = cA := Option.some.inj (Eq.trans (Eq.symm e1) e2)
      subst e3
      exact g H1 locs _ la _ (mm_h.app h1 (mm_c_arr hm0)) hP1 hD1 hS1 (h5.ext mm_ext.app) ⟨_, _, rfl, mm_v_new h1, h6.ext mm_ext.app⟩
    · cases ho
  · cases ho
end MMH
