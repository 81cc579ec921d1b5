/-! the claim out of the small machine; begun from the kit's skeleton -/
/-! THE CLAIM OUT OF ONE WALK OF THE LAW'S BODY. Your part is whole_start (and what it stands on); all else here is the same for every law, but numbers. -/
def R_law : String := "SlabPatternsLaw"
def lw_P (b : Addr) (xs : List Int32) (args : Array Value) (s : State) : Prop := args = #[.ref b] ∧ s.IntsAt b xs ∧ xs.length ≤ 3072 ∧ (Jvm.Cond.and given_1 narrow_1).before args s = true
def lw_Q (_ : Array Value) (s : State) (o : Outcome) (t : State) : Prop := o = .returned (some (.int 1)) ∧ Framed s o t [] 1089 11401
def lw_Z (below : List Frame) (a : Array Value) (s : State) : State → Prop := fun t => ∃ o, t.status = .running ∧ Ended t below o ∧ lw_Q a s o t
/-- the law's own end, with 1 on the stack, nothing written that was there before, its room as the claim has it -/
theorem lw_ret {p : Program} {l : Launch} {e : Env} {s : State} {m : MethodId} {below : List Frame} {meth : Method} {c : Code} {b : Nat} (hx : p.tables.exec = Jvm.exec) (hb : c.code = code) (hr : meth.sig.returnType = ret) (hlocks : meth.locks = false) {pc : Nat} {H : Heap} {ls : Array Slot} (hdg : decode code pc = .ok (.ireturn, 1)) : W p l e room_1 s m #[Value.ref b] below meth c H [] 1089 11401 (lw_Z below #[Value.ref b] s) (F0 m pc ls [.int 1]) := by
  intro T hT X
  obtain ⟨fs, hret, hrun, hended, hW, hframe⟩ := X.leave (v := some (.int 1)) (hlocks := hlocks) (fun h => by rw [hr] at h; cases h)
  have hmeth' : T.vm.method? m = some meth := X.method'
  refine ⟨T.setFrames fs, ?_, .returned (some (.int 1)), hrun, hended, rfl, ⟨_, rfl⟩, hW, hframe⟩
  jvm_step X.here [X.here.top, hx, hb, hdg, hmeth', hr, ret, narrow_b1]
  (try refine ⟨rfl, ?_⟩); (try refine ⟨rfl, ?_⟩)
  first | (intro acts; rw [hret _ acts rfl rfl rfl]) | rw [hret _ _ rfl rfl rfl]
  exact Steps.refl _
/-- what holds at the law's entry: the machine, the code, the tables' words (any of lw_tbl by 'hts w (by decide +kernel)'), the script of L ints xs at the cell b, what the Statement gives of the start (any of its parts by flat_of_before) -/
def lw_At (p : Program) (s : State) (m : MethodId) (meth : Method) (c : Code) (b L : Nat) (xs : Nat → Int32) : Prop :=
  p.tables.exec = Jvm.exec ∧ c.code = code ∧ meth.sig.returnType = ret ∧ c.maxLocals = 7 ∧ s.vm.findClass R_law = some m.cls ∧ (∀ w ∈ lw_tbl, w.before #[Value.ref b] s = true) ∧ va_X b L xs s s.heap ∧ b < s.heap.size ∧ meth.locks = false ∧ meth.name = x.name ∧ c.exceptionTable.toList = [] ∧ (Jvm.Cond.and given_1 narrow_1).before #[Value.ref b] s = true

/-- what the Statement gives of the start, in the small machine's words -/
theorem start_arr {args : Array Value} {s : State} {ty : FieldType} (hp : ty = .int ∨ ty = .boolean ∨ ty = .long) (h : (Cond.arrayClass ty).before args s = true) : ∃ cA, ArrOfT s cA ty ∧ va_RA s cA ty := by
  obtain ⟨cA, kA, comp, h1, h2, h3⟩ := Cond.arrayClass_spec h
  refine ⟨cA, fun n z => ⟨fun k h => (by cases h), kA, h2, comp, h3⟩, ?_⟩
  rcases hp with rfl | rfl | rfl <;> exact h1
set_option maxRecDepth 100000 in
theorem start_nc : ∀ i, i < mmEx.length → ∀ j, j < mmEx.length → i ≠ j → Cond.not (.castable (mmEx.getD i "") (mmEx.getD j "")) ∈ flatC (Jvm.Cond.and given_1 narrow_1) := by decide +kernel
set_option maxRecDepth 100000 in
theorem start_sx : ∀ t ∈ mmSx, Cond.stringRef t.1 t.2.1 t.2.2 ∈ lw_tbl := by decide +kernel
set_option maxRecDepth 100000 in
theorem start_r1 : Cond.isRef (.static Bundle.tN "UNASSIGNED_STACK" Bundle.steD) ∈ flatC (Jvm.Cond.and given_1 narrow_1) := by decide +kernel
set_option maxRecDepth 100000 in
theorem start_r2 : Cond.isRef (.static Bundle.tN "SUPPRESSED_SENTINEL" Bundle.listD) ∈ flatC (Jvm.Cond.and given_1 narrow_1) := by decide +kernel
set_option maxRecDepth 100000 in
theorem start_s1 : Cond.laysStatic Bundle.tN "UNASSIGNED_STACK" Bundle.steD ∈ lw_tbl := by decide +kernel
set_option maxRecDepth 100000 in
theorem start_s2 : Cond.laysStatic Bundle.tN "SUPPRESSED_SENTINEL" Bundle.listD ∈ lw_tbl := by decide +kernel
set_option maxRecDepth 100000 in
theorem start_in : Cond.initialized Bundle.tN ∈ lw_tbl := by decide +kernel
set_option maxRecDepth 100000 in
theorem start_k : ∀ r ∈ mmK, Cond.instantiable r.1 r.2.2.1 ∈ lw_tbl := by decide +kernel
set_option maxRecDepth 100000 in
theorem start_ini : ∀ t ∈ mmSx, Cond.initialized t.1 ∈ lw_tbl := by decide +kernel
theorem start_known {args : Array Value} {s : State} (hts : ∀ w ∈ lw_tbl, w.before args s = true) : ∀ (K0 : mK), (∀ r ∈ K0, mm_ckK (lw_tbl.filter goodWord) r = true ∧ Cond.instantiable r.1 r.2.2.1 ∈ lw_tbl) → ∃ (dC : Nat → ClassId) (dI : Nat → Nat → Nat), ∀ (k : Nat) (q : vw_C), (mm_cls K0)[k]? = some q → u_Kn s q.1 q.2.1 q.2.2 (dC k) (dI k) := by
  intro K0
  induction K0 with
  | nil => intro _; exact ⟨fun _ => 0, fun _ _ => 0, fun k q h => by simp [mm_cls] at h⟩
  | cons r K0 ih =>
    intro h
    obtain ⟨dC, dI, hd⟩ := ih (fun r hr => h r (List.mem_cons_of_mem _ hr))
    obtain ⟨hk, hi⟩ := h r List.mem_cons_self
    simp only [mm_ckK, Bool.and_eq_true, List.all_eq_true, decide_eq_true_eq] at hk
    obtain ⟨c0, iS0, hKn⟩ := u_known (C := r.1) (T := r.2.1) (N := r.2.2.1) (n := r.2.2.1) hts (fun w hw => (List.mem_filter.mp (hk.1 w hw)).1) (hts _ hi)
    refine ⟨fun k => match k with | 0 => c0 | k + 1 => dC k, fun k => match k with | 0 => iS0 | k + 1 => dI k, fun k q hq => ?_⟩
    cases k with
    | zero => cases hq; exact hKn
    | succ k => exact hd k q hq
set_option maxHeartbeats 4000000 in
set_option maxRecDepth 100000 in
/-- from the entry, for every script of at most 3072 ints, the law comes to its end with true -/
theorem whole_start {p : Program} {e : Env} {s : State} {m : MethodId} {below : List Frame} {meth : Method} {c : Code} (l : Launch) (hl : l.stackTraces = false) {b L : Nat} {xs : Nat → Int32} (hL : L ≤ 3072) (C0 : lw_At p s m meth c b L xs) : W p l e room_1 s m #[Value.ref b] below meth c s.heap [] 0 0 (lw_Z below #[Value.ref b] s) (entryFrame m ([Value.ref b] : List Value).toArray 7) := by
  obtain ⟨hx, hb, hr, hml, hown, hts, hX, hbl, hlocks, hname, hext, hgv⟩ := id C0
  have hflat := flat_of_before _ hgv
  obtain ⟨dC, dI, hKn⟩ := start_known hts mmK (fun r hr => ⟨List.all_eq_true.mp mk_K r hr, start_k r hr⟩)
  obtain ⟨cI, hI1, hI2⟩ := start_arr (Or.inl rfl) (hts _ (List.mem_filter.mp (mk_arr .int (by simp))).1)
  obtain ⟨cZ, hZ1, hZ2⟩ := start_arr (Or.inr (Or.inl rfl)) (hts _ (List.mem_filter.mp (mk_arr .boolean (by simp))).1)
  obtain ⟨cJ, hJ1, hJ2⟩ := start_arr (Or.inr (Or.inr rfl)) (hts _ (List.mem_filter.mp (mk_arr .long (by simp))).1)
  have hK : va_K (dC, dI) (mm_cls mmK) [(cI, .int), (cZ, .boolean), (cJ, .long)] s := by
    refine ⟨hKn, fun k q hk => ?_⟩
    match k, hk with
    | 0, hk => cases hk; exact ⟨hI1, hI2⟩
    | 1, hk => cases hk; exact ⟨hZ1, hZ2⟩
    | 2, hk => cases hk; exact ⟨hJ1, hJ2⟩
    | k + 3, hk => simp at hk
  have hZ : mx_Z s.heap.size (lw_tbl.filter mx_isC) mmEx mmSx s := by
    refine ⟨fun i j hi hj hij => va_Nc.of (hflat _ (start_nc i hi j hj hij)), fun t ht => ?_, mx_L.of (hts _ start_s1) (hts _ start_in) (hflat _ start_r1) (Nat.le_refl _), mx_L.of (hts _ start_s2) (hts _ start_in) (hflat _ start_r2) (Nat.le_refl _), fun w hw => va_Nw.of (mx_isC_on (List.mem_filter.mp hw).2) (hts w (List.mem_filter.mp hw).1)⟩
    have hs := hts _ (start_sx t ht)
    obtain ⟨cur, hcur⟩ : ∃ cur, s.vm.findClass t.1 = some cur := by
      have h1 := hts _ (start_ini t ht)
      simp only [Cond.before, Cond.holds, Cond.value] at h1
      cases hf : s.vm.findClass t.1 with
      | none => simp [hf] at h1
      | some cur => exact ⟨cur, rfl⟩
    obtain ⟨k, cf, i, a, -, -, -, -, -, hev⟩ := Cond.stringRef_spec (args := #[Value.ref b]) (first := s) (o := none) (idx := []) hcur hs
    have hs0 : (Cond.stringRef t.1 t.2.1 t.2.2).before #[] s = true := by
      simpa [Cond.before, Cond.holds, Cond.value] using hs
    have hev0 : (Term.string t.1 t.2.1).eval #[] s none [] s = some (.ref a) := by
      simpa [Term.eval] using hev
    exact ⟨a, vk_R.of hs0 hev0⟩
  have hEn : mm_En (dC, dI) mmK [(cI, .int), (cZ, .boolean), (cJ, .long)] b s.heap.size (L, xs) (lw_tbl.filter mm_isN) (mx_Z s.heap.size (lw_tbl.filter mx_isC) mmEx mmSx) s := ⟨hK, hX, fun w hw => va_Nw.of (mm_isN_on (List.mem_filter.mp hw).2) (hts w (List.mem_filter.mp hw).1), Nat.le_refl _, hbl, fun ty hy => by
    simp only [List.mem_cons, List.not_mem_nil, or_false] at hy
    rcases hy with rfl | rfl | rfl
    · exact ⟨cI, by simp⟩
    · exact ⟨cZ, by simp⟩
    · exact ⟨cJ, by simp⟩, hZ⟩
  have hXm : mm_X (dC, dI) mmK [(cI, .int), (cZ, .boolean), (cJ, .long)] b s.heap.size (L, xs) (lw_tbl.filter goodWord) (lw_tbl.filter mm_isN) (mx_Z s.heap.size (lw_tbl.filter mx_isC) mmEx mmSx) p s m #[Value.ref b] meth c mq0 := ⟨hx, hb, hml, hown, hlocks, hr, hname, by rw [hext]; rfl, fun w hw => hts w (List.mem_filter.mp hw).1, hEn⟩
  obtain ⟨n, hwp⟩ := law_ev (law_true (L, xs) hL)
  have hS := mm_sound (l := l) (D := (dC, dI)) (tys := [(cI, .int), (cZ, .boolean), (cJ, .long)]) (b := b) (base := s.heap.size) (sc := (L, xs)) (Sx := mmSx) mk_K mk_arr mk_P mk_cast hl n
  have hG := hS 10 0 _ _ mq0 rfl hwp p e room_1 s m #[Value.ref b] below meth c [] (lw_Z below #[Value.ref b] s) hXm ⟨rfl, rfl, by decide, by decide⟩ ?_ ?_
    s.heap [] [] _ [] ⟨rfl, fun i q e h => by simp at h, fun i x h => by simp at h⟩ (fun k q h => by simp at h) ⟨fun i j p q h => by simp at h, fun k q h => by simp at h⟩ va_S.rf (by rw [hml]; exact mm_entry (as := [.float 0]) (av := [.ref b]) ⟨_, _, rfl, rfl, rfl⟩ rfl (by decide)) rfl
  · rw [lg_entry_eq]
    exact hG
  · intro pc ins ls st h kc ks ps v hd hret hps hQ hkc hks H locs ws la sv k1 k2 k3 k4 k5 k6
    have hv : v = some (.int 1) := Sum.inl.inj hQ
    subst hv
    have hst : ins = .ireturn ∧ st = [.int 1] := by
      unfold mm_ret at hret
      split at hret
      · cases hret; exact ⟨rfl, rfl⟩
      · cases hret; exact ⟨rfl, rfl⟩
      · cases hret
      · cases hret
    obtain ⟨rfl, rfl⟩ := hst
    obtain ⟨w0, w1, rfl, hw, k6⟩ := k6
    cases hw
    cases k6
    refine va_forget (fun q hq => k4.2.2 q hq) ?_
    refine W.widen (k := 1089) (n := 11401) hkc hks ?_
    exact lw_ret hx hb hr hlocks hd
  · intro E h kc ks _ hQ
    exact absurd hQ (fun z => by cases z)

set_option maxHeartbeats 4000000 in
theorem lw_walk (l : Launch) (hl : l.stackTraces = false) (b : Addr) (xs : List Int32) : MetFree l x (headSpec (Jvm.Cond.code x code maxLocals ret :: tables_1) room_1) (lw_P b xs) (fun _ _ _ _ _ => True) lw_Q := by
  refine MetFree.of_bodyS (code := code) (maxLocals := maxLocals) (ret := ret) (by decide) ?_ ?_
  · intro args s m h hn
    obtain ⟨meth, c, h1, h2, h3, h4, h5, h6, -, -⟩ := Cond.code_spec hn (atoms_spec (ws := Jvm.Cond.code x code maxLocals ret :: tables_1) h _ List.mem_cons_self)
    exact ⟨meth, c, h1, h2, h3, h4, h5, h6⟩
  · intro p e s m args below meth c s₁ B hml0 hP _
    obtain ⟨rfl, hx, hbd, hgv⟩ := hP
    obtain ⟨scr, harrAt, hlist, hof, hsmall⟩ := hx
    obtain ⟨hcb, hkn, -, -⟩ := State.arrayAt?_spec harrAt
    have hown : s.vm.findClass R_law = some m.cls := findClass_of_methodNamed B.named
    have hts0 : ∀ c ∈ (Jvm.Cond.code x code maxLocals ret :: tables_1), c.before #[Value.ref b] s = true := atoms_spec (ws := Jvm.Cond.code x code maxLocals ret :: tables_1) B.pre
    have hts : ∀ w ∈ lw_tbl, w.before #[Value.ref b] s = true := k2_hts_sels lw_privs (fun w hw => hts0 w (List.mem_cons_of_mem _ hw)) lw_privs_ok
    have hml : c.maxLocals = 7 := B.maxLocals_eq (hts0 _ List.mem_cons_self)
    obtain ⟨meth2, c2, g1, g2, -, -, -, -, g7, -⟩ := Cond.code_spec B.named (hts0 _ List.mem_cons_self)
    cases B.method.symm.trans g1
    cases (Stand.of_body B).code.symm.trans g2
    have hext : c.exceptionTable.toList = [] := by
      rw [Array.isEmpty_iff.mp g7]
    have X₀ : Stand p l e room_1 s m #[Value.ref b] below meth c s₁ [] 0 0 := Stand.of_body B
    have hh0 : s₁.heap = s.heap := by rw [B.state]; rfl
    have hsz : scr.slots.size = xs.length := by rw [← Array.length_toList, hlist, List.length_map]
    have hval : ∀ j : Nat, j < xs.length → scr.slots[j]? = some (.int (xs.getD j 0)) := fun j hj => by
      rw [← Array.getElem?_toList, hlist]
      simp [hj]
    have hbl : b < s.heap.size := (Array.getElem?_eq_some_iff.mp hcb).1
    have hX : va_X b xs.length (fun j => xs.getD j 0) s s.heap := ⟨scr, hcb, hof, hkn, hsz, hval⟩
    have K : W p l e room_1 s m #[Value.ref b] below meth c s₁.heap [] 0 0 (lw_Z below #[Value.ref b] s) (entryFrame m ([Value.ref b] : List Value).toArray 7) := by
      rw [hh0]
      exact whole_start l hl hbd ⟨B.exec, B.bytes, B.returns, hml, hown, hts, hX, hbl, B.notSynchronized, (name_of_methodNamed B.named B.method).1, hext, hgv⟩
    obtain ⟨t, a1, o, b1, b2, b3⟩ := K s₁ rfl X₀
    exact ⟨t, o, a1, b1, b2, b3⟩
theorem lw_pre_spec {args : Array Value} {s : State} (h : (Jvm.Cond.and given_1 narrow_1).before args s = true) (hr : rest_1_c.before args s = true) : ∃ (b : Addr) (xs : List Int32), lw_P b xs args s := by
  have hs := flat_of_before _ h
  have hq := flat_of_before _ hr
  have hc : (Cond.count 1).before args s = true := hs _ (by decide +kernel)
  have harr : (Cond.arrayOf (.arg 0) .int).before args s = true := hs _ (by decide +kernel)
  have hle : (Cond.le (.length (.arg 0)) (.int 3072)).before args s = true := hs _ (by decide +kernel)
  have hlen : (Cond.isInt (.length (.arg 0))).before args s = true := hq _ (by decide +kernel)
  have hall : (Cond.all (.arg 0) (.isInt (.elem (.arg 0) (.index 0)))).before args s = true := hq _ (by decide +kernel)
  obtain ⟨b, xs, hb, hx⟩ := State.ints_of_pre rfl harr hlen hall
  have hsm : xs.length < 2 ^ 31 := hx.choose_spec.2.2.2
  have hev : (Term.length (.arg 0)).eval args s none [] s = some (.int xs.length.toInt32) := hx.length_eval hb
  have hv := Cond.le_ints hev (show (Term.int 3072).eval args s none [] s = some (.int 3072) from rfl)
  have hd : xs.length.toInt32 ≤ 3072 := by
    simpa [Cond.before, Cond.holds, hv] using hle
  have hN : xs.length ≤ 3072 := (Int32.ofNat_le_ofNat hsm (by decide)).mp (show Int32.ofNat xs.length ≤ Int32.ofNat 3072 from hd)
  exact ⟨b, xs, Cond.one_arg hc (show args[0]? = some (.ref b) from hb), hx, hN, h⟩
theorem lw_comes (l : Launch) (hl : l.stackTraces = false) : Comes l x (Jvm.Cond.code x code maxLocals ret :: tables_1) room_1 (fun tb e args s => Calls_1 tb e args s ∧ rest_1 tb e args s ∧ Pre_1 tb e args s)
    (fun _ _ args s o t => lw_Q args s o t) := by
  intro p e ha hc hk s m args below hf hfit hheap happ hpre
  obtain ⟨b, xs, hP⟩ := lw_pre_spec hpre.2.2 hpre.2.1
  obtain ⟨k, o, h1, h2, h3, hQ⟩ := lw_walk l hl b xs p e ha hc hk s m args below hf ((Spec.applies_iff_loose hf).mp happ).1 hP trivial
  exact ⟨k, o, h1, h2, h3, hQ⟩
theorem lw_frame {s t : State} {o : Outcome} {args : Array Value} (h : Framed s o t [] 1089 11401) :
    Framed s o t (fieldLocs frame_1_writes args s ++ arrayLocs frame_1_arrays args s ++ staticLocs frame_1_statics s) 1089 11401 := h
theorem lw_limb (L : Cond) (hL : ∀ (args : Array Value) (s t : State), L.after args s (.returned (some (.int 1))) t = true) :
    ArmFor flags0 classFile x code maxLocals ret World_1 tables_1 room_1 Calls_1 rest_1 Pre_1
      (fun tb e a s o t => postC L tb e a s o t ∧ Framed s o t (fieldLocs frame_1_writes a s ++ arrayLocs frame_1_arrays a s ++ staticLocs frame_1_statics s) 1089 11401) := by
  intro l hfl _ _ p e ha hc hk s m args below hf hfit hheap happ hpre
  have hl : l.stackTraces = false := by
    unfold Launch.stackTraces
    rw [hfl]
    decide +kernel
  obtain ⟨k, o, h1, h2, h3, rfl, hF⟩ := lw_comes l hl p e ha hc hk s m args below hf hfit hheap happ hpre
  exact ⟨k, _, h1, h2, h3, hL args s _, lw_frame hF⟩
theorem i_vc : Claimed_1_1 ∧ Claimed_1_2 := ⟨lw_limb limb_1_1 (fun args s t => by simp [limb_1_1, Cond.after, Cond.holds, Cond.value]), lw_limb limb_1_2 (fun args s t => Cond.after_iff.mpr (by
  first | (rw [show limb_1_2 = Cond.eq .result (.int 1) from rfl, Cond.eq_ints (x := 1) (y := 1) rfl rfl]; simp; done) | (simp [limb_1_2, Cond.value, Term.eval]; done)))⟩
