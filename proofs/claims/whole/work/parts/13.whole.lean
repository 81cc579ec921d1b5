/-! every step of the small machine is the machine's -/
theorem mm_at_ok {P : List mM} {M pc : Nat} {q : mM} {b : mB} (h : mm_at P M pc = some (q, b)) : P[M]? = some q ∧ b ∈ q.2.2.1 ∧ b.1 = pc ∧ q.2.2.1.find? (fun b => b.1 == pc) = some b := by
  unfold mm_at at h
  split at h
  · rename_i q1 hq
    split at h
    · rename_i b1 hb
      cases h
      exact ⟨hq, List.mem_of_find?_eq_some hb, eq_of_beq (List.find?_some (p := fun b : mB => b.1 == pc) hb), hb⟩
    · cases h
  · cases h
section MMV
variable {l : Launch} {D : va_G} {K : mK} {tys : List (ClassId × FieldType)} {b base : Nat} {sc : mS} {Tb : List Cond} {P : List mM} {Ex : List String} {Sx : List (String × Nat × String)}
theorem mm_met {y : MethodName} {S : Spec} {Pc : Array Value → State → Prop} {ws : va_W} {Q : mR → List mE → Prop} {mc ms : Nat} (h : MetFree l y S Pc (fun _ _ _ _ _ => True) (mx_Qc D K tys b base Ex ws Q mc ms)) (hno : ∀ E h, ¬ Q (.inr E) h) :
    MetFree l y S Pc (fun _ _ _ _ _ => True) (fun a st o t => mm_Qc D K tys b base ws Q a st o t ∧ ∃ L, FrameEnd st o t L mc ms ∧ ∀ q ∈ L, base ≤ q.base) := by
  intro p e ha hc hk s m args below hf happ hP hK
  obtain ⟨n, o, h1, h2, h3, ⟨L, h4, h5, h6⟩, h7⟩ := h p e ha hc hk s m args below hf happ hP hK
  rcases h7 with h7 | ⟨x, E, h1, ws1, ce, -, -, hQ, -⟩
  · obtain ⟨v, w, h8, ws1, h9, h10⟩ := id h7
    exact ⟨n, o, h1, h2, h3, h7, L, ⟨⟨w, h9⟩, h4, h5⟩, h6⟩
  · exact absurd hQ (hno E _)
set_option maxHeartbeats 4000000 in
theorem mm_sound (hKK : K.all (mm_ckK (Tb.filter goodWord)) = true) (harr : ∀ ty ∈ ([.int, .boolean, .long] : List FieldType), Cond.arrayClass ty ∈ Tb.filter goodWord) (hP : ∀ q ∈ P, mm_ckM Tb Ex Sx K P q = true) (hcast : ∀ i, i < Ex.length → Cond.castable (Ex.getD i "") (Ex.getD i "") ∈ Tb.filter mx_isC) (hl : l.stackTraces = false) :
    ∀ n, mm_Sd l D K tys b base sc Tb P Ex Sx n := by
  intro n
  induction n with
  | zero => intro d M c0 Q q hq hwp; exact hwp.elim
  | succ n ih =>
    intro d M c0 Q q hq hwp p e R s m args below meth c w0 Qs X hR hret hthr
    have hCx : (Tb.filter mx_isC).all mx_isC = true := List.all_eq_true.mpr (fun w hw => (List.mem_filter.mp hw).2)
    unfold mm_wp at hwp
    split at hwp
    · exact hwp.elim
    · rename_i q1 b1 hat
      obtain ⟨hq1, hb1, hpc, -⟩ := mm_at_ok hat
      cases hq.symm.trans hq1
      have hckM := hP q (List.mem_of_getElem? hq)
      unfold mm_ckM at hckM
      simp only [Bool.and_eq_true] at hckM
      obtain ⟨hrows, hH, hpn, hHr⟩ := hckM
      have hck := List.all_eq_true.mp hrows b1 hb1
      obtain ⟨pc, ins, len, grp, kd, x, y, z, hs⟩ := b1
      obtain ⟨pc2, ls, st, h, kc, ks⟩ := c0
      dsimp only at hpc hwp
      subst hpc
      unfold mm_ckB at hck
      dsimp only at hck
      rw [Bool.and_eq_true, decide_eq_true_eq] at hck
      obtain ⟨hd, hck⟩ := hck
      have hR1 : q.1 ≤ R.cells ∧ q.2.1 ≤ R.slots ∧ 1 ≤ R.frames ∧ 64 ≤ R.locals := ⟨by omega, by omega, by omega, by omega⟩
      split at hwp
      · split at hwp
        · rename_i ps c1 hop
          simp only [Bool.and_eq_true, Bool.or_eq_true] at hck
          have hln : kd = 17 ∨ len = mm_len ins := by
            rcases hck.1 with h9 | h9
            · exact Or.inl (eq_of_beq h9)
            · exact Or.inr (eq_of_beq h9)
          exact mm_op_ok X hKK harr hR1 hd hln hck.2 hop hwp.1 (ih d M c1 Q q hq hwp.2 p e R s m args below meth c w0 Qs X hR hret hthr)
        · exact hwp.elim
      · split at hwp
        · rename_i pp c1 c2 hbr
          unfold mm_br at hbr
          dsimp only at hbr
          split at hbr
          · cases hbr
            simp only [Bool.and_eq_true, decide_eq_true_eq] at hck
            have hl3 := eq_of_beq hck.1
            subst hl3
            exact mm_if_ok X.1 X.2.1 hd rfl rfl hck.2 (fun z => ih d M _ Q q hq (hwp.1 z) p e R s m args below meth c w0 Qs X hR hret hthr) (fun z => ih d M _ Q q hq (hwp.2 z) p e R s m args below meth c w0 Qs X hR hret hthr)
          · cases hbr
            simp only [Bool.and_eq_true, decide_eq_true_eq] at hck
            have hl3 := eq_of_beq hck.1
            subst hl3
            exact mm_icmp_ok X.1 X.2.1 hd rfl rfl hck.2 (fun z => ih d M _ Q q hq (hwp.1 z) p e R s m args below meth c w0 Qs X hR hret hthr) (fun z => ih d M _ Q q hq (hwp.2 z) p e R s m args below meth c w0 Qs X hR hret hthr)
          · cases hbr
        · exact hwp.elim
      · split at hwp
        · rename_i d2 as r q2 hcl hq2
          simp only [Bool.and_eq_true] at hck
          have hl3 := eq_of_beq hck.1
          subst hl3
          have hck := hck.2
          rw [hq2] at hck
          dsimp only at hck
          obtain ⟨⟨hk1, hk2, hk3⟩, hwp⟩ := hwp
          obtain ⟨-, -, -, hc1, -, -⟩ := mm_cl_ok hcl
          have hmet := fun ws av h1 h9 => mx_met (M := x) (l := l) (D := D) (tys := tys) (b := b) (base := base) (Tb := Tb) (Ex := Ex) (Sx := Sx) ih hq2 (hP q2 (List.mem_of_getElem? hq2)) hwp hc1 hk3 ws av h1 h9
          have hR2 : R.cells = q.1 ∧ R.slots = q.2.1 ∧ d2 + 2 ≤ R.frames ∧ 31 * d2 + 103 ≤ R.locals := ⟨hR.1, hR.2.1, by omega, by omega⟩
          have hgo : ∀ (v : Option Value) (h1 : List mE), mm_wp sc K P n (d2 + 1) M (pc + 3, ls, v.toList ++ r, h1, kc + q2.1, ks + q2.2.1) Q → mm_G p l e R s m args below meth c D (mm_cls K) tys (fun a => base ≤ a) w0 b Qs (pc + 3, ls, v.toList ++ r, h1, kc + q2.1, ks + q2.2.1) := fun v h1 hw => ih (d2 + 1) M _ Q q hq hw p e R s m args below meth c w0 Qs X hR hret hthr
          by_cases h6 : kd = 6
          · subst h6
            refine mx_call_ok (mx_Zc hCx) X hR2 hd hck hcl ⟨hk1, hk2⟩ hmet (fun v h1 hw => hgo v h1 hw) (fun E h1 hE hw => ?_)
            obtain ⟨-, hw⟩ := hw
            split at hw
            · rename_i hp hhd
              split at hw
              · rename_i pc3 i hbd
                cases hz : mm_at P M hp with
                | none => rw [hz] at hbd; cases hbd
                | some zz =>
                  rw [hz] at hbd
                  obtain ⟨q3, b3⟩ := zz
                  obtain ⟨hq3, hb3, hpc3, hfd⟩ := mm_at_ok hz
                  cases hq.symm.trans hq3
                  have hhs : mm_hs b3 = some (pc3, i) := hbd
                  obtain ⟨hh, hhm, hhe⟩ := mm_hd_mem hhd
                  have h7 := List.all_eq_true.mp hHr hh hhm
                  rw [hhe, hfd] at h7
                  simp only [hhs] at h7
                  simp only [Bool.and_eq_true, decide_eq_true_eq] at h7
                  obtain ⟨g0, g2, hi⟩ := h7
                  have hck3 := List.all_eq_true.mp hrows b3 hb3
                  obtain ⟨pc4, ins4, len4, grp4, kd4, x4, y4, z4, hs4⟩ := b3
                  dsimp only at hpc3 g0 g2
                  have g0 := eq_of_beq g0
                  have g2 := eq_of_beq g2
                  subst hpc3
                  subst g0
                  subst g2
                  unfold mm_ckB at hck3
                  dsimp only at hck3
                  simp only [Bool.and_eq_true, decide_eq_true_eq, Bool.or_eq_true] at hck3
                  obtain ⟨hd4, hl4, -⟩ := hck3
                  have hl4 : len4 = mm_len ins4 := by
                    rcases hl4 with h9 | h9
                    · exact absurd (eq_of_beq h9) (by decide)
                    · exact eq_of_beq h9
                  rw [hl4] at hd4
                  refine mx_catch_ok X hH hcast hE hhd hd4 hi ?_ (ih (d2 + 1) M _ Q q hq hw p e R s m args below meth c w0 Qs X hR hret hthr)
                  unfold mm_hs at hhs
                  split at hhs
                  · rename_i pc5 k5 _ he
                    cases he
                    cases hhs
                    exact Or.inl ⟨_, rfl, rfl, rfl⟩
                  · rename_i pc5 i5 _ he
                    cases he
                    cases hhs
                    exact Or.inr ⟨rfl, rfl⟩
                  · cases hhs
              · exact hw.elim
            · exact mx_out_ok X hw.1 (hthr E h1 _ _ hE hw.2 hk1 hk2)
          · have hno : ∀ E h, ¬ (fun (res : mR) (h' : List mE) => match res with
              | .inl v => mm_wp sc K P n (d2 + 1) M (pc + 3, ls, v.toList ++ r, h', kc + q2.1, ks + q2.2.1) Q
              | .inr E => kd = 6 ∧ (match mm_hd pc E q.2.2.2.2.2.2.2.1 q.2.2.2.2.2.2.2.2.1 with
                | some hp => (match (mm_at P M hp).bind (fun z => mm_hs z.2) with
                  | some (pc', i) => mm_wp sc K P n (d2 + 1) M (pc', ls.set i none, [], h', kc + q2.1, ks + q2.2.1) Q
                  | none => False)
                | none => q.2.2.2.2.2.2.2.1 = [] ∧ Q (.inr E) h')) (.inr E) h := fun E h hz => h6 hz.1
            have hmet2 := fun ws av h1 h9 => mm_met (hmet ws av h1 h9) hno
            by_cases h7 : kd = 7
            · subst h7
              exact mm_callW_ok (mx_Zc hCx) X hR2 hd hck hcl ⟨hk1, hk2⟩ hmet2 (fun v h1 hw => hgo v h1 hw)
            · exact mm_call_ok (mx_Zc hCx) X hR2 hd hck ⟨h6, h7⟩ hcl ⟨hk1, hk2⟩ hmet2 (fun v h1 hw => hgo v h1 hw)
        · exact hwp.elim
      · split at hwp
        · rename_i ps v hr
          have hl1 := eq_of_beq hck
          subst hl1
          exact hret pc ins ls st h kc ks ps v hd hr hwp.2.1 hwp.2.2 hwp.1.1 hwp.1.2
        · exact hwp.elim
      · simp only [Bool.and_eq_true, decide_eq_true_eq] at hck
        obtain ⟨⟨hd5, hk1, hk2, hno, hst⟩, hQ⟩ := hwp
        exact mx_site_ok X hl ⟨by omega, by omega, by omega, by omega⟩ hck.1 hno ⟨hk1, hk2⟩ hst (hthr x h _ _ hck.2 hQ hk1 hk2)
      · exact hwp.elim
end MMV
