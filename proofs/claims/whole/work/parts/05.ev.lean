/-! walking the small machine: stretches at once, calls, ends -/
def mm_s1 (sc : mS) (K : mK) (P : List mM) (M : Nat) (t : Bool) (c : mC) : mO := match mm_at P M c.1 with
  | some (q, b) => (match b.2.2.2.1 with
    | 0 => mm_op sc K q.1 q.2.1 b c
    | 1 => (match mm_br b c with
      | some (p, c1, c2) => (match t with
        | true => some ([p], c1)
        | false => some ([¬ p], c2))
      | none => none)
    | _ => none)
  | none => none
def mm_sn (sc : mS) (K : mK) (P : List mM) (M : Nat) : List Bool → mC → mO
  | [], c => some ([], c)
  | t :: ts, c => match mm_s1 sc K P M t c with
    | some (ps, c1) => (match mm_sn sc K P M ts c1 with
      | some (qs, c2) => some (ps ++ qs, c2)
      | none => none)
    | none => none
theorem mm_all_app {ps qs : List Prop} (h : mm_all (ps ++ qs)) : mm_all ps ∧ mm_all qs := by
  induction ps with
  | nil => exact ⟨trivial, h⟩
  | cons p ps ih => exact ⟨⟨h.1, (ih h.2).1⟩, (ih h.2).2⟩
section MMW
variable {sc : mS} {K : mK} {P : List mM}
theorem mm_wp_mono : ∀ {n n2 d M : Nat} {c : mC} {Q Q2 : mR → List mE → Prop}, n ≤ n2 → (∀ r h, Q r h → Q2 r h) → mm_wp sc K P n d M c Q → mm_wp sc K P n2 d M c Q2 := by
  intro n
  induction n with
  | zero => intro n2 d M c Q Q2 _ _ h; exact h.elim
  | succ n ih =>
    intro n2 d M c Q Q2 hn hQ h
    cases n2 with
    | zero => omega
    | succ n2 =>
      have hn : n ≤ n2 := by omega
      unfold mm_wp at h ⊢
      split at h
      · exact h.elim
      · rename_i q b hat
        try rw [hat]
        try dsimp only
        split at h
        · rename_i hg
          try rw [hg]
          try dsimp only
          split at h
          · rename_i hop
            try rw [hop]
            exact ⟨h.1, ih hn hQ h.2⟩
          · exact h.elim
        · rename_i hg
          try rw [hg]
          try dsimp only
          split at h
          · rename_i hop
            try rw [hop]
            exact ⟨fun z => ih hn hQ (h.1 z), fun z => ih hn hQ (h.2 z)⟩
          · exact h.elim
        · rename_i hg
          try rw [hg]
          try dsimp only
          split at h
          · rename_i d2 as r q2 hcl hq2
            try rw [hcl, hq2]
            refine ⟨h.1, ih hn (fun res h2 hr => ?_) h.2⟩
            cases res with
            | inl v => exact ih hn hQ hr
            | inr E =>
              refine ⟨hr.1, ?_⟩
              have hr := hr.2
              try dsimp only at hr ⊢
              split at hr
              · rename_i hhd
                try rw [hhd]
                try dsimp only
                split at hr
                · rename_i hat2
                  try rw [hat2]
                  exact ih hn hQ hr
                · exact hr.elim
              · rename_i hhd
                try rw [hhd]
                exact ⟨hr.1, hQ _ _ hr.2⟩
          · exact h.elim
        · rename_i hg
          try rw [hg]
          try dsimp only
          split at h
          · rename_i hop
            try rw [hop]
            exact ⟨h.1, h.2.1, hQ _ _ h.2.2⟩
          · exact h.elim
        · rename_i hg
          try rw [hg]
          exact ⟨h.1, hQ _ _ h.2⟩
        · exact h.elim
theorem mm_go1 {n d M : Nat} {t : Bool} {c c1 : mC} {ps : List Prop} {Q : mR → List mE → Prop} (h : mm_s1 sc K P M t c = some (ps, c1)) (hp : mm_all ps) (k : mm_wp sc K P n d M c1 Q) : mm_wp sc K P (n + 1) d M c Q := by
  unfold mm_s1 at h
  unfold mm_wp
  split at h
  · rename_i q b hat
    try rw [hat]
    try dsimp only
    split at h
    · rename_i hg
      try rw [hg]
      try dsimp only
      try rw [h]
      exact ⟨hp, k⟩
    · rename_i hg
      try rw [hg]
      try dsimp only
      split at h
      · rename_i hbr
        try rw [hbr]
        split at h
        · cases h
          exact ⟨fun _ => k, fun z => absurd hp.1 z⟩
        · cases h
          exact ⟨fun z => absurd z hp.1, fun _ => k⟩
      · cases h
    · cases h
  · cases h
/-- it ends, and Q holds there -/
def mm_ev (sc : mS) (K : mK) (P : List mM) (d M : Nat) (c : mC) (Q : mR → List mE → Prop) : Prop := ∃ n, mm_wp sc K P n d M c Q
theorem mm_ev.go {d M : Nat} {Q : mR → List mE → Prop} : ∀ (ts : List Bool) {c c1 : mC} {ps : List Prop}, mm_sn sc K P M ts c = some (ps, c1) → mm_all ps → mm_ev sc K P d M c1 Q → mm_ev sc K P d M c Q
  | [], c, c1, ps, h, _, k => by
    cases h
    exact k
  | t :: ts, c, c1, ps, h, hp, k => by
    unfold mm_sn at h
    split at h
    · rename_i ps1 c2 h1
      split at h
      · rename_i qs c3 h2
        cases h
        obtain ⟨hp1, hp2⟩ := mm_all_app hp
        obtain ⟨n, hn⟩ := mm_ev.go ts h2 hp2 k
        exact ⟨n + 1, mm_go1 h1 hp1 hn⟩
      · cases h
    · cases h
theorem mm_ev.mono {d M : Nat} {c : mC} {Q Q2 : mR → List mE → Prop} (h : mm_ev sc K P d M c Q) (hQ : ∀ r x, Q r x → Q2 r x) : mm_ev sc K P d M c Q2 := by
  obtain ⟨n, hn⟩ := h
  exact ⟨n, mm_wp_mono (Nat.le_refl n) hQ hn⟩
/-- a method's end, told whole -/
abbrev mm_is (r : mR) (h : List mE) : mR → List mE → Prop := fun r1 h1 => r1 = r ∧ h1 = h
theorem mm_ev.ret {d M : Nat} {c : mC} {q : mM} {b : mB} {ps : List Prop} {v : Option Value} {Q : mR → List mE → Prop} (hat : mm_at P M c.1 = some (q, b)) (hg : b.2.2.2.1 = 3) (hr : mm_ret b.2.1 q.2.2.2.2.2.2.1 c.2.2.1 = some (ps, v)) (hk : c.2.2.2.2.1 ≤ q.1 ∧ c.2.2.2.2.2 ≤ q.2.1) (hp : mm_all ps) (hQ : Q (.inl v) c.2.2.2.1) : mm_ev sc K P d M c Q := by
  refine ⟨1, ?_⟩
  unfold mm_wp
  try rw [hat]
  try dsimp only
  try rw [hg]
  try dsimp only
  try rw [hr]
  exact ⟨hk, hp, hQ⟩
theorem mm_ev.thr {d M : Nat} {c : mC} {q : mM} {b : mB} {Q : mR → List mE → Prop} (hat : mm_at P M c.1 = some (q, b)) (hg : b.2.2.2.1 = 4) (hk : 5 ≤ d ∧ c.2.2.2.2.1 + 1 ≤ q.1 ∧ c.2.2.2.2.2 + 6 ≤ q.2.1 ∧ q.2.2.2.2.2.2.2.1 = [] ∧ (c.2.2.1.map Value.category).sum ≤ 8) (hQ : Q (.inr b.2.2.2.2.2.1) c.2.2.2.1) : mm_ev sc K P d M c Q := by
  refine ⟨1, ?_⟩
  unfold mm_wp
  try rw [hat]
  try dsimp only
  try rw [hg]
  exact ⟨hk, hQ⟩
theorem mm_ev.call {d M : Nat} {c : mC} {q q2 : mM} {b : mB} {as r : List Value} {v : Option Value} {h1 : List mE} {Q : mR → List mE → Prop} (hat : mm_at P M c.1 = some (q, b)) (hg : b.2.2.2.1 = 2) (hcl : mm_cl b c = some (as, r)) (hq : P[b.2.2.2.2.2.1]? = some q2)
    (hk : c.2.2.2.2.1 + q2.1 ≤ q.1 ∧ c.2.2.2.2.2 + q2.2.1 ≤ q.2.1 ∧ as.length ≤ q2.2.2.2.2.2.1) (he : mm_ev sc K P d b.2.2.2.2.2.1 (0, mm_en q2.2.2.2.2.2.1 as, [], c.2.2.2.1, 0, 0) (mm_is (.inl v) h1))
    (k : mm_ev sc K P (d + 1) M (c.1 + 3, c.2.1, v.toList ++ r, h1, c.2.2.2.2.1 + q2.1, c.2.2.2.2.2 + q2.2.1) Q) : mm_ev sc K P (d + 1) M c Q := by
  obtain ⟨n1, he⟩ := he
  obtain ⟨n2, k⟩ := k
  refine ⟨n1 + n2 + 1, ?_⟩
  unfold mm_wp
  try rw [hat]
  try dsimp only
  try rw [hg]
  try dsimp only
  try rw [hcl, hq]
  refine ⟨hk, mm_wp_mono (Nat.le_add_right _ _) (fun res h2 hr => ?_) he⟩
  obtain ⟨rfl, rfl⟩ := hr
  exact mm_wp_mono (Nat.le_add_left _ _) (fun _ _ z => z) k
theorem mm_ev.callX {d M : Nat} {c : mC} {q q2 : mM} {b : mB} {as r : List Value} {E hp i pc2 : Nat} {z : mM × mB} {h1 : List mE} {Q : mR → List mE → Prop} (hat : mm_at P M c.1 = some (q, b)) (hg : b.2.2.2.1 = 2) (hkd : b.2.2.2.2.1 = 6) (hcl : mm_cl b c = some (as, r)) (hq : P[b.2.2.2.2.2.1]? = some q2)
    (hk : c.2.2.2.2.1 + q2.1 ≤ q.1 ∧ c.2.2.2.2.2 + q2.2.1 ≤ q.2.1 ∧ as.length ≤ q2.2.2.2.2.2.1) (he : mm_ev sc K P d b.2.2.2.2.2.1 (0, mm_en q2.2.2.2.2.2.1 as, [], c.2.2.2.1, 0, 0) (mm_is (.inr E) h1))
    (hh : mm_hd c.1 E q.2.2.2.2.2.2.2.1 q.2.2.2.2.2.2.2.2.1 = some hp) (hz : mm_at P M hp = some z) (hs : mm_hs z.2 = some (pc2, i))
    (k : mm_ev sc K P (d + 1) M (pc2, c.2.1.set i none, [], h1, c.2.2.2.2.1 + q2.1, c.2.2.2.2.2 + q2.2.1) Q) : mm_ev sc K P (d + 1) M c Q := by
  obtain ⟨n1, he⟩ := he
  obtain ⟨n2, k⟩ := k
  refine ⟨n1 + n2 + 1, ?_⟩
  unfold mm_wp
  try rw [hat]
  try dsimp only
  try rw [hg]
  try dsimp only
  try rw [hcl, hq]
  refine ⟨hk, mm_wp_mono (Nat.le_add_right _ _) (fun res h2 hr => ?_) he⟩
  obtain ⟨rfl, rfl⟩ := hr
  refine ⟨hkd, ?_⟩
  try dsimp only
  try rw [hh]
  try dsimp only
  try rw [hz]
  try dsimp only [Option.bind]
  try rw [hs]
  exact mm_wp_mono (Nat.le_add_left _ _) (fun _ _ z => z) k
theorem mm_ev.callO {d M : Nat} {c : mC} {q q2 : mM} {b : mB} {as r : List Value} {E : Nat} {h1 : List mE} {Q : mR → List mE → Prop} (hat : mm_at P M c.1 = some (q, b)) (hg : b.2.2.2.1 = 2) (hkd : b.2.2.2.2.1 = 6) (hcl : mm_cl b c = some (as, r)) (hq : P[b.2.2.2.2.2.1]? = some q2)
    (hk : c.2.2.2.2.1 + q2.1 ≤ q.1 ∧ c.2.2.2.2.2 + q2.2.1 ≤ q.2.1 ∧ as.length ≤ q2.2.2.2.2.2.1) (he : mm_ev sc K P d b.2.2.2.2.2.1 (0, mm_en q2.2.2.2.2.2.1 as, [], c.2.2.2.1, 0, 0) (mm_is (.inr E) h1))
    (hh : mm_hd c.1 E q.2.2.2.2.2.2.2.1 q.2.2.2.2.2.2.2.2.1 = none) (hnh : q.2.2.2.2.2.2.2.1 = []) (k : Q (.inr E) h1) : mm_ev sc K P (d + 1) M c Q := by
  obtain ⟨n1, he⟩ := he
  refine ⟨n1 + 1, ?_⟩
  unfold mm_wp
  try rw [hat]
  try dsimp only
  try rw [hg]
  try dsimp only
  try rw [hcl, hq]
  refine ⟨hk, mm_wp_mono (Nat.le_refl _) (fun res h2 hr => ?_) he⟩
  obtain ⟨rfl, rfl⟩ := hr
  refine ⟨hkd, ?_⟩
  try dsimp only
  try rw [hh]
  exact ⟨hnh, k⟩
end MMW
