/-! how a state of the small machine is told of a state of the machine; the plain instructions -/
def mm_v (b : Nat) (ws : va_W) (v w : Value) : Prop := match v with
  | .ref i => ∃ (q : Nat) (e : va_E), ws[i]? = some (q, e) ∧ w = .ref q
  | .float _ => w = .ref b
  | v => w = v
def mm_vs (b : Nat) (ws : va_W) : List Value → List Value → Prop
  | [], w => w = []
  | v :: r, w => ∃ (w0 : Value) (w1 : List Value), w = w0 :: w1 ∧ mm_v b ws v w0 ∧ mm_vs b ws r w1
def mm_l (b : Nat) (ws : va_W) (nL : Nat) (ls : mL) (la : Array Slot) : Prop :=
  ls.length = nL ∧ ∃ lv : List (Nat × Value), lv_has la nL lv ∧ ∀ (i : Nat) (v : Value), ls[i]? = some (some v) → mm_c1 v = true ∧ ∃ w, mm_v b ws v w ∧ (i, w) ∈ lv
def mm_c (b : Nat) (tys : List (ClassId × FieldType)) (ws : va_W) (x : mE) (e : va_E) : Prop := match x, e with
  | .inl (ty, a), .inl (cA, a2) => a2 = a ∧ (cA, ty) ∈ tys
  | .inr (ci, fs), .inr (cj, gs) => cj = ci ∧ mm_vs b ws fs gs
  | _, _ => False
/-- the same cells at the same places, perhaps more -/
def mm_ext (ws ws1 : va_W) : Prop := ∀ (i q : Nat) (e : va_E), ws[i]? = some (q, e) → ∃ e1, ws1[i]? = some (q, e1)
def mm_h (w0 : va_W) (b : Nat) (tys : List (ClassId × FieldType)) (h : List mE) (ws : va_W) : Prop :=
  ws.length = h.length ∧ mm_ext w0 ws ∧ ∀ (i : Nat) (x : mE), h[i]? = some x → ∃ (q : Nat) (e : va_E), ws[i]? = some (q, e) ∧ mm_c b tys ws x e
theorem mm_ext.rf {ws : va_W} : mm_ext ws ws := fun _ _ e h => ⟨e, h⟩
theorem mm_ext.tr {ws ws1 ws2 : va_W} (h : mm_ext ws ws1) (h1 : mm_ext ws1 ws2) : mm_ext ws ws2 := fun i q e he => by
  obtain ⟨e1, h2⟩ := h i q e he
  exact h1 i q e1 h2
theorem mm_ext.set {ws : va_W} {i q : Nat} {e e1 : va_E} (h : ws[i]? = some (q, e)) : mm_ext ws (ws.set i (q, e1)) := by
  intro j q2 e2 hj
  have hl := (List.getElem?_eq_some_iff.mp h).1
  by_cases hij : i = j
  · subst hij
    cases h.symm.trans hj
    exact ⟨e1, by rw [List.getElem?_set_self hl]⟩
  · exact ⟨e2, by rw [List.getElem?_set_ne hij]; exact hj⟩
theorem mm_ext.app {ws : va_W} {x : Nat × va_E} : mm_ext ws (ws ++ [x]) := by
  intro j q2 e2 hj
  have hl := (List.getElem?_eq_some_iff.mp hj).1
  exact ⟨e2, by rw [List.getElem?_append_left hl]; exact hj⟩
theorem mm_v.ext {b : Nat} {ws ws1 : va_W} {v w : Value} (x : mm_ext ws ws1) (h : mm_v b ws v w) : mm_v b ws1 v w := by
  cases v <;> first | exact h | (obtain ⟨q, e, h1, h2⟩ := h; obtain ⟨e1, h3⟩ := x _ q e h1; exact ⟨q, e1, h3, h2⟩)
theorem mm_vs.ext {b : Nat} {ws ws1 : va_W} (x : mm_ext ws ws1) : ∀ {v w : List Value}, mm_vs b ws v w → mm_vs b ws1 v w
  | [], _, h => h
  | _ :: _, _, h => by
    obtain ⟨w0, w1, rfl, h1, h2⟩ := h
    exact ⟨w0, w1, rfl, h1.ext x, mm_vs.ext x h2⟩
theorem mm_l.ext {b : Nat} {ws ws1 : va_W} {nL : Nat} {ls : mL} {la : Array Slot} (x : mm_ext ws ws1) (h : mm_l b ws nL ls la) : mm_l b ws1 nL ls la := by
  obtain ⟨h0, lv, h1, h2⟩ := h
  refine ⟨h0, lv, h1, fun i v hv => ?_⟩
  obtain ⟨h3, w, h4, h5⟩ := h2 i v hv
  exact ⟨h3, w, h4.ext x, h5⟩
theorem mm_c.ext {b : Nat} {tys : List (ClassId × FieldType)} {ws ws1 : va_W} {x : mE} {e : va_E} (hx : mm_ext ws ws1) (h : mm_c b tys ws x e) : mm_c b tys ws1 x e := by
  rcases x with ⟨ty, a⟩ | ⟨ci, fs⟩ <;> rcases e with ⟨cA, a2⟩ | ⟨cj, gs⟩ <;> first | exact h | exact ⟨h.1, h.2.ext hx⟩
theorem mm_h.re {w0 w1 : va_W} {b : Nat} {tys : List (ClassId × FieldType)} {h : List mE} {ws : va_W} (hh : mm_h w1 b tys h ws) (hx : mm_ext w0 ws) : mm_h w0 b tys h ws := ⟨hh.1, hx, hh.2.2⟩
theorem mm_h.set {w0 : va_W} {b : Nat} {tys : List (ClassId × FieldType)} {h : List mE} {ws : va_W} {i q : Nat} {e e1 : va_E} {x : mE} (hh : mm_h w0 b tys h ws) (he : ws[i]? = some (q, e)) (hc : mm_c b tys ws x e1) : mm_h w0 b tys (h.set i x) (ws.set i (q, e1)) := by
  obtain ⟨h0, hx0, h1⟩ := hh
  have hX : mm_ext ws (ws.set i (q, e1)) := mm_ext.set he
  have hl := (List.getElem?_eq_some_iff.mp he).1
  refine ⟨by simp [h0], hx0.tr hX, fun j y hj => ?_⟩
  by_cases hij : i = j
  · subst hij
    rw [List.getElem?_set_self (by omega)] at hj
    cases hj
    exact ⟨q, e1, by rw [List.getElem?_set_self hl], hc.ext hX⟩
  · rw [List.getElem?_set_ne hij] at hj
    obtain ⟨q2, e2, h2, h3⟩ := h1 j y hj
    exact ⟨q2, e2, by rw [List.getElem?_set_ne hij]; exact h2, h3.ext hX⟩
theorem mm_h.app {w0 : va_W} {b : Nat} {tys : List (ClassId × FieldType)} {h : List mE} {ws : va_W} {q : Nat} {e1 : va_E} {x : mE} (hh : mm_h w0 b tys h ws) (hc : mm_c b tys ws x e1) : mm_h w0 b tys (h ++ [x]) (ws ++ [(q, e1)]) := by
  obtain ⟨h0, hx0, h1⟩ := hh
  have hX : mm_ext ws (ws ++ [(q, e1)]) := mm_ext.app
  refine ⟨by simp [h0], hx0.tr hX, fun j y hj => ?_⟩
  by_cases hij : j < h.length
  · rw [List.getElem?_append_left hij] at hj
    obtain ⟨q2, e2, h2, h3⟩ := h1 j y hj
    exact ⟨q2, e2, by rw [List.getElem?_append_left (by omega)]; exact h2, h3.ext hX⟩
  · have hl := (List.getElem?_eq_some_iff.mp hj).1
    have hj2 : j = h.length := by simp at hl; omega
    subst hj2
    have hy : x = y := by simpa using hj
    subst hy
    exact ⟨q, e1, by rw [← h0]; simp, hc.ext hX⟩
theorem mm_ld_some {ls : mL} {i : Nat} {v : Value} (hv : mm_ld ls i = some v) : ls[i]? = some (some v) := by
  unfold mm_ld at hv
  split at hv
  · cases hv; assumption
  · cases hv
theorem mm_ld_ok {b : Nat} {ws : va_W} {nL : Nat} {ls : mL} {la : Array Slot} {i : Nat} {v : Value} (h : mm_l b ws nL ls la) (hv : mm_ld ls i = some v) : ∃ w, mm_v b ws v w ∧ la[i]? = some (.val w) := by
  obtain ⟨h0, lv, h1, h2⟩ := h
  have hv2 : ls[i]? = some (some v) := by
    unfold mm_ld at hv
    split at hv
    · cases hv; assumption
    · cases hv
  obtain ⟨h3, w, h4, h5⟩ := h2 i v hv2
  exact ⟨w, h4, h1.2.2 (i, w) h5⟩
theorem mm_cat {b : Nat} {ws : va_W} {v w : Value} (h : mm_v b ws v w) (hc : mm_c1 v = true) : w.category = 1 := by
  cases v <;> first | (cases hc; done) | (obtain ⟨q, e, h1, rfl⟩ := h; rfl) | (cases h; rfl)
/-- a value stored: what the other places hold stays -/
theorem mm_l.put {b : Nat} {ws : va_W} {nL : Nat} {ls : mL} {la2 : Array Slot} {i : Nat} {v w : Value} {lv : List (Nat × Value)} (h0 : ls.length = nL) (h2 : ∀ (i : Nat) (v : Value), ls[i]? = some (some v) → mm_c1 v = true ∧ ∃ w, mm_v b ws v w ∧ (i, w) ∈ lv)
    (hs : lv_has la2 nL ((i, w) :: lv.filter (fun q => !(q.1 == i) && !(q.1 + 1 == i && q.2.category == 2)))) (hw : mm_v b ws v w) (hc : mm_c1 v = true) : mm_l b ws nL (ls.set i (some v)) la2 := by
  refine ⟨by simp [h0], _, hs, fun j v2 hj => ?_⟩
  by_cases hij : i = j
  · subst hij
    have hl := (List.getElem?_eq_some_iff.mp hj).1
    rw [List.length_set] at hl
    rw [List.getElem?_set_self hl] at hj
    cases hj
    exact ⟨hc, w, hw, List.mem_cons_self⟩
  · rw [List.getElem?_set_ne hij] at hj
    obtain ⟨h3, w2, h4, h5⟩ := h2 j v2 hj
    refine ⟨h3, w2, h4, List.mem_cons_of_mem _ (List.mem_filter.mpr ⟨h5, ?_⟩)⟩
    have hk : w2.category = 1 := mm_cat h4 h3
    simp [hk, Ne.symm hij]
theorem mm_l.drop {b : Nat} {ws : va_W} {nL : Nat} {ls : mL} {la2 : Array Slot} {i : Nat} {w : Value} {lv : List (Nat × Value)} (h0 : ls.length = nL) (h2 : ∀ (i : Nat) (v : Value), ls[i]? = some (some v) → mm_c1 v = true ∧ ∃ w, mm_v b ws v w ∧ (i, w) ∈ lv)
    (hs : lv_has la2 nL ((i, w) :: lv.filter (fun q => !(q.1 == i) && !(q.1 + 1 == i && q.2.category == 2)))) : mm_l b ws nL (ls.set i none) la2 := by
  refine ⟨by simp [h0], _, hs, fun j v2 hj => ?_⟩
  by_cases hij : i = j
  · subst hij
    have hl := (List.getElem?_eq_some_iff.mp hj).1
    rw [List.length_set] at hl
    rw [List.getElem?_set_self hl] at hj
    cases hj
  · rw [List.getElem?_set_ne hij] at hj
    obtain ⟨h3, w2, h4, h5⟩ := h2 j v2 hj
    refine ⟨h3, w2, h4, List.mem_cons_of_mem _ (List.mem_filter.mpr ⟨h5, ?_⟩)⟩
    have hk : w2.category = 1 := mm_cat h4 h3
    simp [hk, Ne.symm hij]
theorem mm_vs_get {b : Nat} {ws : va_W} : ∀ {fs gs : List Value} {k : Nat} {v : Value}, mm_vs b ws fs gs → fs[k]? = some v → ∃ w, gs[k]? = some w ∧ mm_v b ws v w
  | [], _, k, v, _, h => by simp at h
  | f :: fs, gs, 0, v, hg, h => by
    obtain ⟨w0, w1, rfl, h1, h2⟩ := hg
    have : f = v := by simpa using h
    subst this
    exact ⟨w0, rfl, h1⟩
  | f :: fs, gs, k + 1, v, hg, h => by
    obtain ⟨w0, w1, rfl, h1, h2⟩ := hg
    have h3 : fs[k]? = some v := by simpa using h
    obtain ⟨w, h4, h5⟩ := mm_vs_get h2 h3
    exact ⟨w, by simpa using h4, h5⟩
theorem mm_vs_len {b : Nat} {ws : va_W} : ∀ {fs gs : List Value}, mm_vs b ws fs gs → gs.length = fs.length
  | [], _, h => by cases h; rfl
  | _ :: _, _, h => by
    obtain ⟨w0, w1, rfl, h1, h2⟩ := h
    simp [mm_vs_len h2]
theorem mm_vs_set {b : Nat} {ws : va_W} {v w : Value} (hv : mm_v b ws v w) : ∀ {fs gs : List Value} {k : Nat}, mm_vs b ws fs gs → mm_vs b ws (fs.set k v) (gs.set k w)
  | [], _, _, h => by cases h; rfl
  | _ :: _, _, 0, h => by
    obtain ⟨w0, w1, rfl, h1, h2⟩ := h
    exact ⟨w, w1, rfl, hv, h2⟩
  | _ :: _, _, k + 1, h => by
    obtain ⟨w0, w1, rfl, h1, h2⟩ := h
    exact ⟨w0, w1.set k w, rfl, h1, mm_vs_set hv h2⟩
theorem mm_fit_ok {b : Nat} {ws : va_W} {ty : FieldType} {v w : Value} (hv : mm_v b ws v w) (h : mm_fit ty v) : narrow ty w = w ∧ fits ty w = true := by
  cases ty <;> cases v <;> first
    | exact h.elim
    | (cases hv; exact ⟨rfl, rfl⟩)
    | (cases hv; rcases h with rfl | rfl <;> exact ⟨by decide, by decide⟩)
    | (obtain ⟨q, e, h1, rfl⟩ := hv; exact ⟨rfl, rfl⟩)
theorem mm_in_ok {i : Int32} {n : Nat} (h : mm_in i n) : vp_in i n := by
  intro h2
  rcases h2 with h2 | h2
  · exact Int32.lt_irrefl (Int32.lt_of_lt_of_le h2 h.1)
  · exact absurd h.2 (Nat.not_lt.mpr h2)
theorem mm_sum {b : Nat} {ws : va_W} : ∀ {v w : List Value}, mm_vs b ws v w → (w.map Value.category).sum = (v.map Value.category).sum
  | [], _, h => by cases h; rfl
  | v :: r, _, h => by
    obtain ⟨w0, w1, rfl, h1, h2⟩ := h
    have h3 := mm_sum h2
    have h4 : w0.category = v.category := by
      cases v <;> first | (obtain ⟨q, e, h5, rfl⟩ := h1; rfl) | (cases h1; rfl)
    simp only [List.map_cons, List.sum_cons, h3, h4]
theorem mm_size {b : Nat} {ws : va_W} {nL : Nat} {ls : mL} {la : Array Slot} (h : mm_l b ws nL ls la) : la.size = nL := by
  obtain ⟨-, lv, h1, -⟩ := h
  exact h1.1
section MMG
variable (p : Program) (l : Launch) (e : Env) (R : Room) (s : State) (m : MethodId) (args : Array Value) (below : List Frame) (meth : Method) (c : Code) (D : va_G) (cl : List vw_C) (tys : List (ClassId × FieldType)) (A : Nat → Prop) (w0 : va_W) (b : Nat) (Q : State → Prop)
/-- the machine, at any state that x tells of, comes to Q -/
def mm_G (x : mC) : Prop := ∀ (H : Heap) (locs : List Loc) (ws : va_W) (la : Array Slot) (sv : List Value), mm_h w0 b tys x.2.2.2.1 ws → va_P D cl ws H → va_D A ws → va_S A s.heap H locs → mm_l b ws c.maxLocals x.2.1 la → mm_vs b ws x.2.2.1 sv →
  W p l e R s m args below meth c H locs x.2.2.2.2.1 x.2.2.2.2.2 Q (F0 m x.1 la sv)
end MMG
section MMR
variable {p : Program} {l : Launch} {e : Env} {R : Room} {s : State} {m : MethodId} {args : Array Value} {below : List Frame} {meth : Method} {c : Code} {D : va_G} {cl : List vw_C} {tys : List (ClassId × FieldType)} {A : Nat → Prop} {w0 : va_W} {b : Nat} {Q : State → Prop}
variable {cc : ByteArray} {pc len : Nat} {ins : Instr} {ls : mL} {st : List Value} {h : List mE} {kc ks : Nat} {ps : List Prop} {y : mC}
theorem mm_const_ok (hx : p.tables.exec = Jvm.exec) (hb : c.code = cc) (hd : decode cc pc = .ok (ins, mm_len ins)) {own : String} {a : Nat} (hown : s.vm.findClass own = some m.cls) (hk : ∀ i, ins = .ldc i → (Cond.constant own i (Int32.ofNat a)).before args s = true) (ho : mm_const pc ins a ls st h kc ks = some (ps, y)) (g : mm_G p l e R s m args below meth c D cl tys A w0 b Q y) : mm_G p l e R s m args below meth c D cl tys A w0 b Q (pc, ls, st, h, kc, ks) := by
  intro H locs ws la sv h1 h2 h3 h4 h5 h6
  unfold mm_const at ho
  split at ho
  · cases ho; exact lv_iconst hx hb hd rfl (g H locs ws la _ h1 h2 h3 h4 h5 ⟨_, _, rfl, rfl, h6⟩)
  · cases ho; exact lv_bipush hx hb hd rfl (g H locs ws la _ h1 h2 h3 h4 h5 ⟨_, _, rfl, rfl, h6⟩)
  · cases ho; exact lv_sipush hx hb hd rfl (g H locs ws la _ h1 h2 h3 h4 h5 ⟨_, _, rfl, rfl, h6⟩)
  · cases ho; exact lv_ldc hx hb hown (hk _ rfl) hd (g H locs ws la _ h1 h2 h3 h4 h5 ⟨_, _, rfl, rfl, h6⟩)
  · cases ho; exact lv_lconst hx hb hd rfl (g H locs ws la _ h1 h2 h3 h4 h5 ⟨_, _, rfl, rfl, h6⟩)
  · cases ho
theorem mm_load_ok (hx : p.tables.exec = Jvm.exec) (hb : c.code = cc) (hd : decode cc pc = .ok (ins, mm_len ins)) (ho : mm_load pc ins ls st h kc ks = some (ps, y)) (g : mm_G p l e R s m args below meth c D cl tys A w0 b Q y) : mm_G p l e R s m args below meth c D cl tys A w0 b Q (pc, ls, st, h, kc, ks) := by
  intro H locs ws la sv h1 h2 h3 h4 h5 h6
  unfold mm_load at ho
  split at ho
  · unfold mm_iload at ho
    split at ho
    · rename_i x hl
      cases ho
      obtain ⟨w, hw, hl2⟩ := mm_ld_ok h5 hl
      cases hw
      exact lv_iload_n hx hb hd rfl hl2 (g H locs ws la _ h1 h2 h3 h4 h5 ⟨_, _, rfl, rfl, h6⟩)
    · cases ho
  · unfold mm_iload at ho
    split at ho
    · rename_i x hl
      cases ho
      obtain ⟨w, hw, hl2⟩ := mm_ld_ok h5 hl
      cases hw
      exact lv_iload hx hb hd hl2 (g H locs ws la _ h1 h2 h3 h4 h5 ⟨_, _, rfl, rfl, h6⟩)
    · cases ho
  · unfold mm_aload at ho
    split at ho
    · rename_i x hl
      cases ho
      obtain ⟨w, hw, hl2⟩ := mm_ld_ok h5 hl
      obtain ⟨q, e2, hq, rfl⟩ := id hw
      exact lv_aload_n hx hb hd rfl hl2 (g H locs ws la _ h1 h2 h3 h4 h5 ⟨_, _, rfl, hw, h6⟩)
    · rename_i x hl
      cases ho
      obtain ⟨w, hw, hl2⟩ := mm_ld_ok h5 hl
      cases hw
      exact lv_aload_n hx hb hd rfl hl2 (g H locs ws la _ h1 h2 h3 h4 h5 ⟨_, _, rfl, rfl, h6⟩)
    · cases ho
  · unfold mm_aload at ho
    split at ho
    · rename_i x hl
      cases ho
      obtain ⟨w, hw, hl2⟩ := mm_ld_ok h5 hl
      obtain ⟨q, e2, hq, rfl⟩ := id hw
      exact lv_aload hx hb hd hl2 (g H locs ws la _ h1 h2 h3 h4 h5 ⟨_, _, rfl, hw, h6⟩)
    · rename_i x hl
      cases ho
      obtain ⟨w, hw, hl2⟩ := mm_ld_ok h5 hl
      cases hw
      exact lv_aload hx hb hd hl2 (g H locs ws la _ h1 h2 h3 h4 h5 ⟨_, _, rfl, rfl, h6⟩)
    · cases ho
  · cases ho
theorem mm_store_ok (hx : p.tables.exec = Jvm.exec) (hb : c.code = cc) (hd : decode cc pc = .ok (ins, mm_len ins)) (ho : mm_store pc ins ls st h kc ks = some (ps, y)) (g : mm_G p l e R s m args below meth c D cl tys A w0 b Q y) : mm_G p l e R s m args below meth c D cl tys A w0 b Q (pc, ls, st, h, kc, ks) := by
  intro H locs ws la sv h1 h2 h3 h4 h5 h6
  unfold mm_store at ho
  split at ho
  · unfold mm_istore at ho
    split at ho
    · unfold mm_st at ho
      split at ho
      · rename_i hi
        cases ho
        obtain ⟨w0, w1, rfl, hw, h6⟩ := h6
        cases hw
        obtain ⟨h50, lv, h51, h52⟩ := h5
        have h50 : ls.length = c.maxLocals := h50
        exact lv_istore_n hx hb hd rfl h51 (by omega) rfl (fun la2 hl2 => g H locs ws la2 _ h1 h2 h3 h4 (mm_l.put h50 h52 hl2 rfl rfl) h6)
      · cases ho
    · cases ho
  · unfold mm_istore at ho
    split at ho
    · unfold mm_st at ho
      split at ho
      · rename_i hi
        cases ho
        obtain ⟨w0, w1, rfl, hw, h6⟩ := h6
        cases hw
        obtain ⟨h50, lv, h51, h52⟩ := h5
        have h50 : ls.length = c.maxLocals := h50
        exact lv_istore hx hb hd h51 (by omega) rfl (fun la2 hl2 => g H locs ws la2 _ h1 h2 h3 h4 (mm_l.put h50 h52 hl2 rfl rfl) h6)
      · cases ho
    · cases ho
  · unfold mm_astore at ho
    split at ho
    · unfold mm_st at ho
      split at ho
      · rename_i hi
        cases ho
        obtain ⟨w0, w1, rfl, hw, h6⟩ := h6
        obtain ⟨q, e2, hq, rfl⟩ := id hw
        obtain ⟨h50, lv, h51, h52⟩ := h5
        have h50 : ls.length = c.maxLocals := h50
        exact lv_astore_n hx hb hd rfl h51 (by omega) rfl (fun la2 hl2 => g H locs ws la2 _ h1 h2 h3 h4 (mm_l.put h50 h52 hl2 hw rfl) h6)
      · cases ho
    · cases ho
  · unfold mm_astore at ho
    split at ho
    · unfold mm_st at ho
      split at ho
      · rename_i hi
        cases ho
        obtain ⟨w0, w1, rfl, hw, h6⟩ := h6
        obtain ⟨q, e2, hq, rfl⟩ := id hw
        obtain ⟨h50, lv, h51, h52⟩ := h5
        have h50 : ls.length = c.maxLocals := h50
        exact lv_astore hx hb hd h51 (by omega) rfl (fun la2 hl2 => g H locs ws la2 _ h1 h2 h3 h4 (mm_l.put h50 h52 hl2 hw rfl) h6)
      · cases ho
    · cases ho
  · unfold mm_iinc at ho
    split at ho
    · rename_i x hl
      unfold mm_st at ho
      split at ho
      · rename_i hi
        cases ho
        obtain ⟨h50, lv, h51, h52⟩ := h5
        have h50 : ls.length = c.maxLocals := h50
        have hl3 := mm_ld_some hl
        obtain ⟨-, w, hw, hm⟩ := h52 _ _ hl3
        cases hw
        obtain ⟨k9, hk9⟩ := List.getElem?_of_mem hm
        exact lv_iinc hx hb hd h51 hk9 rfl (by omega) rfl (fun la2 hl2 => g H locs ws la2 _ h1 h2 h3 h4 (mm_l.put h50 h52 hl2 rfl rfl) h6)
      · cases ho
    · cases ho
  · cases ho
theorem mm_arith_ok (hx : p.tables.exec = Jvm.exec) (hb : c.code = cc) (hd : decode cc pc = .ok (ins, mm_len ins)) (ho : mm_arith pc ins ls st h kc ks = some (ps, y)) (hp : mm_all ps) (g : mm_G p l e R s m args below meth c D cl tys A w0 b Q y) : mm_G p l e R s m args below meth c D cl tys A w0 b Q (pc, ls, st, h, kc, ks) := by
  intro H locs ws la sv h1 h2 h3 h4 h5 h6
  unfold mm_arith at ho
  split at ho
  · obtain ⟨w0, w1, rfl, hw, w2, w3, rfl, hw2, h6⟩ := h6
    cases hw
    cases hw2
    unfold mm_bin at ho
    split at ho
    · cases ho; exact lv_iadd hx hb hd (g H locs ws la _ h1 h2 h3 h4 h5 ⟨_, _, rfl, rfl, h6⟩)
    · cases ho; exact lv_isub hx hb hd (g H locs ws la _ h1 h2 h3 h4 h5 ⟨_, _, rfl, rfl, h6⟩)
    · cases ho; exact lv_imul hx hb hd (g H locs ws la _ h1 h2 h3 h4 h5 ⟨_, _, rfl, rfl, h6⟩)
    · cases ho; exact lv_iand hx hb hd (g H locs ws la _ h1 h2 h3 h4 h5 ⟨_, _, rfl, rfl, h6⟩)
    · cases ho; exact lv_idiv hx hb hd hp.1 (g H locs ws la _ h1 h2 h3 h4 h5 ⟨_, _, rfl, rfl, h6⟩)
    · cases ho; exact lv_irem hx hb hd hp.1 (g H locs ws la _ h1 h2 h3 h4 h5 ⟨_, _, rfl, rfl, h6⟩)
    · cases ho
  · cases ho
theorem mm_un_ok (hx : p.tables.exec = Jvm.exec) (hb : c.code = cc) (hd : decode cc pc = .ok (ins, mm_len ins)) (ho : mm_un pc ins ls st h kc ks = some (ps, y)) (g : mm_G p l e R s m args below meth c D cl tys A w0 b Q y) : mm_G p l e R s m args below meth c D cl tys A w0 b Q (pc, ls, st, h, kc, ks) := by
  intro H locs ws la sv h1 h2 h3 h4 h5 h6
  unfold mm_un at ho
  split at ho
  · obtain ⟨w0, w1, rfl, hw, h6⟩ := h6
    cases hw
    split at ho
    · cases ho; exact lv_ineg hx hb hd (g H locs ws la _ h1 h2 h3 h4 h5 ⟨_, _, rfl, rfl, h6⟩)
    · cases ho; exact lv_i2l hx hb hd rfl (g H locs ws la _ h1 h2 h3 h4 h5 ⟨_, _, rfl, rfl, h6⟩)
    · cases ho
  · cases ho
theorem mm_stk_ok (hx : p.tables.exec = Jvm.exec) (hb : c.code = cc) (hd : decode cc pc = .ok (ins, mm_len ins)) (ho : mm_stk pc ins ls st h kc ks = some (ps, y)) (g : mm_G p l e R s m args below meth c D cl tys A w0 b Q y) : mm_G p l e R s m args below meth c D cl tys A w0 b Q (pc, ls, st, h, kc, ks) := by
  intro H locs ws la sv h1 h2 h3 h4 h5 h6
  unfold mm_stk at ho
  split at ho
  · split at ho
    · rename_i h9
      cases ho
      obtain ⟨w0, w1, rfl, hw, h6⟩ := h6
      exact lv_dup hx hb hd (mm_cat hw h9) (g H locs ws la _ h1 h2 h3 h4 h5 ⟨_, _, rfl, hw, _, _, rfl, hw, h6⟩)
    · cases ho
  · split at ho
    · rename_i h9
      cases ho
      obtain ⟨w0, w1, rfl, hw, h6⟩ := h6
      exact lv_pop hx hb hd (mm_cat hw h9) (g H locs ws la _ h1 h2 h3 h4 h5 h6)
    · cases ho
  · split at ho
    · rename_i h9
      cases ho
      rw [Bool.and_eq_true] at h9
      obtain ⟨w0, w1, rfl, hw, w2, w3, rfl, hw2, h6⟩ := h6
      exact lv_dup2_11 hx hb hd (mm_cat hw h9.1) (mm_cat hw2 h9.2) (g H locs ws la _ h1 h2 h3 h4 h5 ⟨_, _, rfl, hw, _, _, rfl, hw2, _, _, rfl, hw, _, _, rfl, hw2, h6⟩)
    · cases ho
  · split at ho
    · rename_i h9
      cases ho
      rw [Bool.and_eq_true] at h9
      obtain ⟨w0, w1, rfl, hw, w2, w3, rfl, hw2, h6⟩ := h6
      exact lv_dup_x1 hx hb hd (mm_cat hw h9.1) (mm_cat hw2 h9.2) (g H locs ws la _ h1 h2 h3 h4 h5 ⟨_, _, rfl, hw, _, _, rfl, hw2, _, _, rfl, hw, h6⟩)
    · cases ho
  · cases ho
theorem mm_goto_ok (hx : p.tables.exec = Jvm.exec) (hb : c.code = cc) (hd : decode cc pc = .ok (ins, mm_len ins)) {off : Int} {x : Nat} (hi : ins = .goto off) (ht : (pc : Int) + off = (x : Int)) (g : mm_G p l e R s m args below meth c D cl tys A w0 b Q (x, ls, st, h, kc, ks)) : mm_G p l e R s m args below meth c D cl tys A w0 b Q (pc, ls, st, h, kc, ks) := by
  intro H locs ws la sv h1 h2 h3 h4 h5 h6
  subst hi
  exact lv_goto hx hb hd ht (g H locs ws la _ h1 h2 h3 h4 h5 h6)
theorem mm_lcmp_ok (hx : p.tables.exec = Jvm.exec) (hb : c.code = cc) (hd : decode cc pc = .ok (ins, mm_len ins)) (hi : ins = .lcmp) (ho : mm_lcmp pc ls st h kc ks = some (ps, y)) (g : mm_G p l e R s m args below meth c D cl tys A w0 b Q y) : mm_G p l e R s m args below meth c D cl tys A w0 b Q (pc, ls, st, h, kc, ks) := by
  intro H locs ws la sv h1 h2 h3 h4 h5 h6
  subst hi
  unfold mm_lcmp at ho
  split at ho
  · cases ho
    obtain ⟨w0, w1, rfl, hw, w2, w3, rfl, hw2, h6⟩ := h6
    cases hw
    cases hw2
    exact W.lcmp hx hb hd (g H locs ws la _ h1 h2 h3 h4 h5 ⟨_, _, rfl, rfl, h6⟩)
  · cases ho
theorem mm_obj_ok (hx : p.tables.exec = Jvm.exec) (hb : c.code = cc) (hd : decode cc pc = .ok (ins, mm_len ins)) {own : String} {i : Nat} (hown : s.vm.findClass own = some m.cls) (hi : ins = .invokespecial i) (hk1 : (Cond.methodLink own i Lib.objectInit).before args s = true) (hk2 : (Cond.instanceMethod Lib.objectInit).before args s = true) (hk3 : (Cond.code Lib.objectInit ⟨#[0xb1]⟩ 1 none).before args s = true) (hR : 1 ≤ R.frames ∧ 64 ≤ R.locals) (hst : (st.map Value.category).sum ≤ 8)
    (ho : mm_obj pc ls st h kc ks = some (ps, y)) (g : mm_G p l e R s m args below meth c D cl tys A w0 b Q y) : mm_G p l e R s m args below meth c D cl tys A w0 b Q (pc, ls, st, h, kc, ks) := by
  intro H locs ws la sv h1 h2 h3 h4 h5 h6
  subst hi
  unfold mm_obj at ho
  split at ho
  · cases ho
    have hz := mm_sum h6
    obtain ⟨w0, w1, rfl, hw, h6⟩ := h6
    obtain ⟨q, e2, hq, rfl⟩ := id hw
    refine W.objInit hx hb hown hk1 hk2 hk3 (g := F0 m pc la (.ref q :: w1)) rfl (mm_size h5) rfl hd hR.1 ?_ (g H locs ws la _ h1 h2 h3 h4 h5 h6)
    have h9 : (F0 m pc la (.ref q :: w1)).monitorRoom = 0 := rfl
    simp only [List.map_cons, List.sum_cons] at hz hst
    have hz2 : (w1.map fun v => v.category).sum = (w1.map Value.category).sum := rfl
    have hz3 : (Value.ref q).category = 1 := rfl
    omega
  · cases ho
theorem mm_math_ok (hx : p.tables.exec = Jvm.exec) (hb : c.code = cc) (hd : decode cc pc = .ok (ins, mm_len ins)) {own : String} {i k : Nat} (hown : s.vm.findClass own = some m.cls) (hi : ins = .invokestatic i)
    (hk0 : k = 0 → (Cond.methodLink own i Lib.Math.max.name).before args s = true ∧ (Cond.static Lib.Math.max.name).before args s = true ∧ (Cond.initialized "java/lang/Math").before args s = true ∧ (Cond.code Lib.Math.max.name Lib.Math.max.code 2 (some .int)).before args s = true)
    (hk1 : k = 1 → (Cond.methodLink own i Lib.Math.min.name).before args s = true ∧ (Cond.static Lib.Math.min.name).before args s = true ∧ (Cond.initialized "java/lang/Math").before args s = true ∧ (Cond.code Lib.Math.min.name Lib.Math.min.code 2 (some .int)).before args s = true)
    (hR : 1 ≤ R.frames ∧ 64 ≤ R.locals) (hst : (st.map Value.category).sum ≤ 12) {mc ms : Nat} (hcc : mc ≤ R.cells ∧ ms ≤ R.slots)
    (ho : mm_math mc ms k pc ls st h kc ks = some (ps, y)) (hp : mm_all ps) (g : mm_G p l e R s m args below meth c D cl tys A w0 b Q y) : mm_G p l e R s m args below meth c D cl tys A w0 b Q (pc, ls, st, h, kc, ks) := by
  intro H locs ws la sv h1 h2 h3 h4 h5 h6
  subst hi
  unfold mm_math at ho
  split at ho
  · have hz := mm_sum h6
    obtain ⟨w0, w1, rfl, hw, w2, w3, rfl, hw2, h6⟩ := h6
    cases hw
    cases hw2
    simp only [List.map_cons, List.sum_cons] at hz hst
    have hz2 : (w3.map fun v => v.category).sum = (w3.map Value.category).sum := rfl
    split at ho
    · cases ho
      obtain ⟨q1, q2, q3, q4⟩ := hk0 rfl
      exact va_mmax hx hb (mm_size h5).symm hown q1 q2 q3 q4 hR.1 (by omega) (Nat.le_trans hp.1 hcc.1) (Nat.le_trans hp.2.1 hcc.2) hd (g H locs ws la _ h1 h2 h3 h4 h5 ⟨_, _, rfl, rfl, h6⟩)
    · cases ho
      obtain ⟨q1, q2, q3, q4⟩ := hk1 rfl
      exact va_mmin hx hb (mm_size h5).symm hown q1 q2 q3 q4 hR.1 (by omega) (Nat.le_trans hp.1 hcc.1) (Nat.le_trans hp.2.1 hcc.2) hd (g H locs ws la _ h1 h2 h3 h4 h5 ⟨_, _, rfl, rfl, h6⟩)
    · cases ho
  · cases ho
theorem mm_sw_ok (hx : p.tables.exec = Jvm.exec) (hb : c.code = cc) (hd : decode cc pc = .ok (ins, len)) (ho : mm_sw pc ins ls st h kc ks = some (ps, y)) (hp : mm_all ps) (g : mm_G p l e R s m args below meth c D cl tys A w0 b Q y) : mm_G p l e R s m args below meth c D cl tys A w0 b Q (pc, ls, st, h, kc, ks) := by
  intro H locs ws la sv h1 h2 h3 h4 h5 h6
  unfold mm_sw at ho
  split at ho
  · obtain ⟨w0, w1, rfl, hw, h6⟩ := h6
    cases hw
    split at ho
    · rename_i h9
      cases ho
      exact lv_tableOut hx hb hd h9 hp.1 (g H locs ws la _ h1 h2 h3 h4 h5 h6)
    · rename_i h9
      split at ho
      · rename_i o ho2
        cases ho
        exact lv_tableIn hx hb hd (fun z => h9 (Or.inl z)) (fun z => h9 (Or.inr z)) ho2 hp.1 (g H locs ws la _ h1 h2 h3 h4 h5 h6)
      · cases ho
  · cases ho
theorem mm_if_ok (hx : p.tables.exec = Jvm.exec) (hb : c.code = cc) (hd : decode cc pc = .ok (ins, mm_len ins)) {q : ClassFile.Cond} {off : Int} {x : Int32} {r : List Value} {tgt : Nat} (hi : ins = .ifCond q off) (hs : st = .int x :: r) (ht : (pc : Int) + off = (tgt : Int)) (g1 : mm_cmp q x 0 → mm_G p l e R s m args below meth c D cl tys A w0 b Q (tgt, ls, r, h, kc, ks)) (g2 : ¬ mm_cmp q x 0 → mm_G p l e R s m args below meth c D cl tys A w0 b Q (pc + 3, ls, r, h, kc, ks)) : mm_G p l e R s m args below meth c D cl tys A w0 b Q (pc, ls, st, h, kc, ks) := by
  intro H locs ws la sv h1 h2 h3 h4 h5 h6
  subst hi
  subst hs
  obtain ⟨w0, w1, rfl, hw, h6⟩ := h6
  cases hw
  cases q
  · exact lv_if_eq hx hb hd ht (fun z => g1 z H locs ws la _ h1 h2 h3 h4 h5 h6) (fun z => g2 z H locs ws la _ h1 h2 h3 h4 h5 h6)
  · exact lv_if_ne hx hb hd ht (fun z => g1 z H locs ws la _ h1 h2 h3 h4 h5 h6) (fun z => g2 (fun z2 => z2 z) H locs ws la _ h1 h2 h3 h4 h5 h6)
  · exact lv_if_lt hx hb hd ht (fun z => g1 z H locs ws la _ h1 h2 h3 h4 h5 h6) (fun z => g2 z H locs ws la _ h1 h2 h3 h4 h5 h6)
  · exact lv_if_ge hx hb hd ht (fun z => g1 z H locs ws la _ h1 h2 h3 h4 h5 h6) (fun z => g2 z H locs ws la _ h1 h2 h3 h4 h5 h6)
  · exact lv_if_gt hx hb hd ht (fun z => g1 z H locs ws la _ h1 h2 h3 h4 h5 h6) (fun z => g2 z H locs ws la _ h1 h2 h3 h4 h5 h6)
  · exact lv_if_le hx hb hd ht (fun z => g1 z H locs ws la _ h1 h2 h3 h4 h5 h6) (fun z => g2 z H locs ws la _ h1 h2 h3 h4 h5 h6)
theorem mm_icmp_ok (hx : p.tables.exec = Jvm.exec) (hb : c.code = cc) (hd : decode cc pc = .ok (ins, mm_len ins)) {q : ClassFile.Cond} {off : Int} {x x2 : Int32} {r : List Value} {tgt : Nat} (hi : ins = .if_icmp q off) (hs : st = .int x2 :: .int x :: r) (ht : (pc : Int) + off = (tgt : Int)) (g1 : mm_cmp q x x2 → mm_G p l e R s m args below meth c D cl tys A w0 b Q (tgt, ls, r, h, kc, ks)) (g2 : ¬ mm_cmp q x x2 → mm_G p l e R s m args below meth c D cl tys A w0 b Q (pc + 3, ls, r, h, kc, ks)) : mm_G p l e R s m args below meth c D cl tys A w0 b Q (pc, ls, st, h, kc, ks) := by
  intro H locs ws la sv h1 h2 h3 h4 h5 h6
  subst hi
  subst hs
  obtain ⟨w0, w1, rfl, hw, w2, w3, rfl, hw2, h6⟩ := h6
  cases hw
  cases hw2
  cases q
  · exact lv_icmp_eq hx hb hd ht (fun z => g1 z H locs ws la _ h1 h2 h3 h4 h5 h6) (fun z => g2 z H locs ws la _ h1 h2 h3 h4 h5 h6)
  · exact lv_icmp_ne hx hb hd ht (fun z => g1 z H locs ws la _ h1 h2 h3 h4 h5 h6) (fun z => g2 (fun z2 => z2 z) H locs ws la _ h1 h2 h3 h4 h5 h6)
  · exact lv_icmp_lt hx hb hd ht (fun z => g1 z H locs ws la _ h1 h2 h3 h4 h5 h6) (fun z => g2 z H locs ws la _ h1 h2 h3 h4 h5 h6)
  · exact lv_icmp_ge hx hb hd ht (fun z => g1 z H locs ws la _ h1 h2 h3 h4 h5 h6) (fun z => g2 z H locs ws la _ h1 h2 h3 h4 h5 h6)
  · exact lv_icmp_gt hx hb hd ht (fun z => g1 z H locs ws la _ h1 h2 h3 h4 h5 h6) (fun z => g2 z H locs ws la _ h1 h2 h3 h4 h5 h6)
  · exact lv_icmp_le hx hb hd ht (fun z => g1 z H locs ws la _ h1 h2 h3 h4 h5 h6) (fun z => g2 z H locs ws la _ h1 h2 h3 h4 h5 h6)
end MMR
