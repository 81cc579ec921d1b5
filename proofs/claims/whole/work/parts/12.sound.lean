/-! the small machine told whole: what it proves of a method, the machine does -/
def mm_ckB (Tb : List Cond) (Ex : List String) (Sx : List (String × Nat × String)) (K : mK) (P : List mM) (q : mM) (b : mB) : Bool := match b with
  | (pc, ins, len, grp, kd, x, y, z, hs) => decide (decode q.2.2.2.2.1 pc = .ok (ins, len)) && (match grp with
    | 0 => (kd == 17 || len == mm_len ins) && mm_ckP Tb K q.2.2.2.1 q.2.2.2.2.2.2.2.2.2 pc ins kd x y z hs
    | 1 => (match ins with
      | .ifCond _ off => len == 3 && decide ((pc : Int) + off = (x : Int))
      | .if_icmp _ off => len == 3 && decide ((pc : Int) + off = (x : Int))
      | _ => false)
    | 2 => len == 3 && (match P[x]? with
      | some q2 => mm_ckC Tb K q.2.2.2.1.cls q.2.2.2.2.2.2.2.2.2 q2 ins kd y z hs
      | none => false)
    | 3 => len == 1
    | 4 => mx_ckT Tb Ex Sx q.2.2.2.2.1 q.2.2.2.1.cls pc ins x y z hs && decide (x < Ex.length)
    | _ => false)
def mm_ckM (Tb : List Cond) (Ex : List String) (Sx : List (String × Nat × String)) (K : mK) (P : List mM) (q : mM) : Bool :=
  q.2.2.1.all (mm_ckB Tb Ex Sx K P q) && (mx_ckH Tb Ex q && (plainName q.2.2.2.1.cls && q.2.2.2.2.2.2.2.1.all (fun h => match q.2.2.1.find? (fun b => b.1 == h.2.2.1) with
    | some b => b.2.2.2.1 == 0 && (b.2.2.2.2.1 == 2 && (match mm_hs b with
      | some (_, i) => decide (i < q.2.2.2.2.2.1)
      | none => false))
    | none => false)))
theorem mm_hd_mem {pc E hp : Nat} : ∀ {hs : List (Nat × Nat × Nat × Nat)} {ks : List Nat}, mm_hd pc E hs ks = some hp → ∃ h ∈ hs, h.2.2.1 = hp
  | [], _, h => by cases h
  | _ :: _, [], h => by cases h
  | x :: hs, k :: ks, h => by
    obtain ⟨s0, s1, h0, ct⟩ := x
    unfold mm_hd at h
    split at h
    · cases h
      exact ⟨_, List.mem_cons_self, rfl⟩
    · obtain ⟨z, hz, he⟩ := mm_hd_mem h
      exact ⟨z, List.mem_cons_of_mem _ hz, he⟩
theorem mm_W_mono {p : Program} {l : Launch} {e : Env} {R : Room} {s : State} {m : MethodId} {args : Array Value} {below : List Frame} {meth : Method} {c : Code} {H : Heap} {locs : List Loc} {cells slots : Nat} {Q Q2 : State → Prop} {g : JFrame} (h : ∀ t, Q t → Q2 t) (k : W p l e R s m args below meth c H locs cells slots Q g) : W p l e R s m args below meth c H locs cells slots Q2 g := by
  intro T hT X
  obtain ⟨t, a1, b1⟩ := k T hT X
  exact ⟨t, a1, h t b1⟩
section MMZ
variable (l : Launch) (D : va_G) (K : mK) (tys : List (ClassId × FieldType)) (b base : Nat) (sc : mS) (Tb : List Cond) (P : List mM) (Ex : List String) (Sx : List (String × Nat × String))
/-- n steps of the small machine are the machine's -/
def mm_Sd (n : Nat) : Prop := ∀ (d M : Nat) (c0 : mC) (Q : mR → List mE → Prop) (q : mM), P[M]? = some q → mm_wp sc K P n d M c0 Q →
  ∀ (p : Program) (e : Env) (R : Room) (s : State) (m : MethodId) (args : Array Value) (below : List Frame) (meth : Method) (c : Code) (w0 : va_W) (Qs : State → Prop),
  mm_X D K tys b base sc (Tb.filter goodWord) (Tb.filter mm_isN) (mx_Z base (Tb.filter mx_isC) Ex Sx) p s m args meth c q → (R.cells = q.1 ∧ R.slots = q.2.1 ∧ d + 1 ≤ R.frames ∧ 31 * d + 72 ≤ R.locals) →
  (∀ (pc : Nat) (ins : Instr) (ls : mL) (st : List Value) (h : List mE) (kc ks : Nat) (ps : List Prop) (v : Option Value), decode q.2.2.2.2.1 pc = .ok (ins, 1) → mm_ret ins q.2.2.2.2.2.2.1 st = some (ps, v) → mm_all ps → Q (.inl v) h → kc ≤ q.1 → ks ≤ q.2.1 →
    mm_G p l e R s m args below meth c D (mm_cls K) tys (fun a => base ≤ a) w0 b Qs (pc, ls, st, h, kc, ks)) →
  (∀ (E : Nat) (h : List mE) (kc ks : Nat), E < Ex.length → Q (.inr E) h → kc ≤ q.1 → ks ≤ q.2.1 → ∀ (H : Heap) (locs : List Loc) (ws : va_W) (U : State) (a : Addr) (ce : Cell), mm_h w0 b tys h ws → va_P D (mm_cls K) ws H → va_D (fun a => base ≤ a) ws → va_S (fun a => base ≤ a) s.heap H locs → U.status = .running → Ended U below (.threw a) → s.WarmedH U.vm → s.sameButNew ({ U with vm := s.vm } : State) locs kc ks →
      H.size ≤ U.heap.size → (∀ q : Nat, q < H.size → U.heap[q]? = H[q]?) → U.heap[a]? = some ce → ce.vm = .none → s.vm.findClass (Ex.getD E "") = some ce.cls → Qs U) →
  mm_G p l e R s m args below meth c D (mm_cls K) tys (fun a => base ≤ a) w0 b Qs c0
end MMZ
section MMY
variable {l : Launch} {D : va_G} {K : mK} {tys : List (ClassId × FieldType)} {b base : Nat} {sc : mS} {Tb : List Cond} {P : List mM} {Ex : List String} {Sx : List (String × Nat × String)}
/-- a method's contract -/
theorem mx_met {n d M : Nat} {q : mM} {as : List Value} {h : List mE} {Q : mR → List mE → Prop} (hS : mm_Sd l D K tys b base sc Tb P Ex Sx n) (hq : P[M]? = some q) (hck : mm_ckM Tb Ex Sx K P q = true) (hwp : mm_wp sc K P n d M (0, mm_en q.2.2.2.2.2.1 as, [], h, 0, 0) Q) (hc1 : as.all mm_c1 = true) (hlen : as.length ≤ q.2.2.2.2.2.1)
    (ws : va_W) (av : List Value) (h1 : mm_h ws b tys h ws) (h9 : mm_vs b ws as av) :
    MetFree l q.2.2.2.1 (headSpec (mm_ws (Tb.filter goodWord) q) (mm_rm d q)) (mm_Pc D K tys b base sc (Tb.filter mm_isN) (mx_Z base (Tb.filter mx_isC) Ex Sx) ws av) (fun _ _ _ _ _ => True) (mx_Qc D K tys b base Ex ws Q q.1 q.2.1) := by
  unfold mm_ckM at hck
  simp only [Bool.and_eq_true] at hck
  obtain ⟨-, -, hpn, -⟩ := hck
  refine MetFree.of_bodyS (code := q.2.2.2.2.1) (maxLocals := q.2.2.2.2.2.1) (ret := q.2.2.2.2.2.2.1) hpn ?_ ?_
  · intro args s m h hn
    obtain ⟨meth, c, g1, g2, g3, g4, g5, g6, -, -⟩ := mm_cw_spec hn (atoms_spec (ws := mm_ws (Tb.filter goodWord) q) h _ List.mem_cons_self)
    exact ⟨meth, c, g1, g2, g3, g4, g5, g6⟩
  · intro p e s m args below meth c s₁ B hml hP _
    obtain ⟨rfl, hPw, hDw, hEn⟩ := hP
    have hts0 : ∀ w ∈ mm_ws (Tb.filter goodWord) q, w.before av.toArray s = true := atoms_spec (ws := mm_ws (Tb.filter goodWord) q) B.pre
    have hts : ∀ w ∈ Tb.filter goodWord, w.before av.toArray s = true := fun w hw => hts0 w (List.mem_cons_of_mem _ hw)
    have hh0 : s₁.heap = s.heap := by rw [B.state]; rfl
    have hSt := Stand.of_body B
    obtain ⟨meth2, c2, g1, g2, g3, g4, g5, g6, g7, g8⟩ := mm_cw_spec B.named (hts0 _ List.mem_cons_self)
    cases B.method.symm.trans g1
    cases hSt.code.symm.trans g2
    have hX : mm_X D K tys b base sc (Tb.filter goodWord) (Tb.filter mm_isN) (mx_Z base (Tb.filter mx_isC) Ex Sx) p s m av.toArray meth c q := ⟨B.exec, B.bytes, hml, findClass_of_methodNamed B.named, B.notSynchronized, B.returns, (name_of_methodNamed B.named B.method).1, g7, hts, hEn⟩
    have hS0 : va_S (fun a => base ≤ a) s.heap s.heap [] := va_S.rf
    have hW := hS d M _ Q q hq hwp p e (headSpec (mm_ws (Tb.filter goodWord) q) (mm_rm d q)).room s m av.toArray below meth c ws (fun t => ∃ o, t.status = .running ∧ Ended t below o ∧ mx_Qc D K tys b base Ex ws Q q.1 q.2.1 av.toArray s o t) hX ⟨rfl, rfl, Nat.le_refl _, Nat.le_refl _⟩ ?_ ?_
      s.heap [] ws _ [] h1 hPw hDw hS0 (by rw [hml]; exact mm_entry h9 hc1 hlen) rfl
    · rw [lg_entry_eq]
      obtain ⟨t, a1, o, b1, b2, b3⟩ := hW s₁ hh0 hSt
      exact ⟨t, o, a1, b1, b2, b3⟩
    · intro pc ins ls st h0 kc ks ps v hd hret hps hQ hkc hks H locs ws1 la sv k1 k2 k3 k4 k5 k6
      have fin : ∀ (w : Option Value), mm_vs b ws1 v.toList w.toList → ∀ t : State, t.heap = H → s.WarmedH t.vm → mm_Qc D K tys b base ws Q av.toArray s (.returned w) t := fun w hw t ht hWm => ⟨v, w, h0, ws1, rfl, hQ, hw, k1, k1.2.1, by rw [ht]; exact k2, k3, ⟨by rw [ht]; exact k4.1, fun z hz1 hz2 => by rw [ht]; exact k4.2.1 z hz1 hz2⟩⟩
      have conv : ∀ t, MQ below (mm_Qc D K tys b base ws Q) av.toArray s q.1 q.2.1 (fun a => base ≤ a) t → ∃ o, t.status = .running ∧ Ended t below o ∧ mx_Qc D K tys b base Ex ws Q q.1 q.2.1 av.toArray s o t := by
        intro t ht
        obtain ⟨o, c1, c2, c3, L, ⟨-, c4, c5⟩, c6⟩ := ht
        exact ⟨o, c1, c2, ⟨L, c4, c5, c6⟩, Or.inl c3⟩
      refine W.widen hkc hks (mm_W_mono conv ?_)
      have hr := hX.2.2.2.2.2.1
      have hlk := hX.2.2.2.2.1
      unfold mm_ret at hret
      split at hret
      · rename_i hrt
        cases hret
        rw [hrt] at hr
        obtain ⟨w0, w1, rfl, hw, k6⟩ := k6
        cases hw
        cases k6
        exact W.iret B.exec B.bytes hr (fin _ ⟨_, _, rfl, rfl, rfl⟩) k4.2.2 hd hlk
      · rename_i hrt
        cases hret
        rw [hrt] at hr
        obtain ⟨w0, w1, rfl, hw, k6⟩ := k6
        cases hw
        cases k6
        refine W.zret B.exec B.bytes hr ?_ (fin _ ⟨_, _, rfl, rfl, rfl⟩) k4.2.2 hd hlk
        rcases hps.1 with rfl | rfl <;> decide
      · rename_i hrt
        cases hret
        rw [hrt] at hr
        cases k6
        exact W.vret B.exec B.bytes hr (fin none rfl) k4.2.2 hd hlk
      · cases hret
    · intro E h0 kc ks hEl hQ hkc hks H locs ws1 U a ce k1 k2 k3 k4 u1 u2 u3 u4 u5 u6 u7 u8 u9
      refine ⟨.threw a, u1, u2, ⟨locs, u3, u4.mono hkc hks, k4.2.2⟩, Or.inr ⟨a, E, h0, ws1, ce, rfl, hEl, hQ, k1, k1.2.1, ?_, k3, ?_, u7, u8, u9⟩⟩
      · exact va_P.kept k2 (fun i z hz => u6 z.1 (va_at.lt (k2 i z hz)))
      · exact ⟨Nat.le_trans k4.1 u5, fun z hz1 hz2 => by rw [u6 z (Nat.lt_of_lt_of_le hz1 k4.1)]; exact k4.2.1 z hz1 hz2⟩
end MMY
