/-! the whole state: numbers, rows, the law's own long; the cells as they lie behind the law's start -/
abbrev mSt : Type := (Nat → Int32) × (Nat → Nat → Int32) × (Nat → Int64)
def mH (S : mSt) : List mE := [.inr (0, [.ref 1, .ref 3, .ref 10, .ref 17, .ref 28, .int (S.1 0), .int (S.1 1)]),
  .inr (1, [.int (S.1 2), .int (S.1 3), .int (S.1 4), .int (S.1 5), .int (S.1 6), .int (S.1 7), .int (S.1 8), .int (S.1 9), .int (S.1 10), .ref 2]),
  .inl (.boolean, 201, .inl (S.2.1 2)),
  .inr (2, [.int (S.1 11), .ref 4, .ref 5, .ref 6, .ref 7, .ref 8, .ref 9]),
  .inl (.int, 5, .inl (S.2.1 4)),
  .inl (.int, 5, .inl (S.2.1 5)),
  .inl (.int, 5, .inl (S.2.1 6)),
  .inl (.int, 5, .inl (S.2.1 7)),
  .inl (.int, 5, .inl (S.2.1 8)),
  .inl (.boolean, 5, .inl (S.2.1 9)),
  .inr (3, [.int (S.1 12), .ref 11, .ref 12, .ref 13, .ref 14, .ref 15, .ref 16]),
  .inl (.int, 10, .inl (S.2.1 11)),
  .inl (.boolean, 10, .inl (S.2.1 12)),
  .inl (.int, 10, .inl (S.2.1 13)),
  .inl (.int, 10, .inl (S.2.1 14)),
  .inl (.int, 10, .inl (S.2.1 15)),
  .inl (.int, 5, .inl (S.2.1 16)),
  .inr (4, [.int (S.1 13), .ref 18, .ref 24, .ref 25, .ref 26, .ref 27]),
  .inr (5, [.int (S.1 14), .ref 19, .ref 20, .ref 21, .ref 22, .ref 23]),
  .inl (.int, 100, .inl (S.2.1 19)),
  .inl (.boolean, 100, .inl (S.2.1 20)),
  .inl (.int, 100, .inl (S.2.1 21)),
  .inl (.int, 100, .inl (S.2.1 22)),
  .inl (.int, 100, .inl (S.2.1 23)),
  .inl (.int, 5, .inl (S.2.1 24)),
  .inl (.int, 101, .inl (S.2.1 25)),
  .inl (.int, 101, .inl (S.2.1 26)),
  .inl (.int, 101, .inl (S.2.1 27)),
  .inr (5, [.int (S.1 15), .ref 29, .ref 30, .ref 31, .ref 32, .ref 33]),
  .inl (.int, 100, .inl (S.2.1 29)),
  .inl (.boolean, 100, .inl (S.2.1 30)),
  .inl (.int, 100, .inl (S.2.1 31)),
  .inl (.int, 100, .inl (S.2.1 32)),
  .inl (.int, 100, .inl (S.2.1 33)),
  .inr (6, [.int (S.1 16), .int (S.1 17), .int (S.1 18), .int (S.1 19), .int (S.1 20), .int (S.1 21), .int (S.1 22), .int (S.1 23), .int (S.1 24), .int (S.1 25), .ref 35, .ref 36, .ref 37, .ref 38, .ref 39, .ref 40, .int (S.1 26), .ref 41, .ref 42, .ref 43, .ref 44, .ref 45, .ref 46, .int (S.1 27), .int (S.1 28), .int (S.1 29), .ref 47, .ref 48, .ref 49, .ref 50]),
  .inl (.int, 5, .inl (S.2.1 35)),
  .inl (.int, 5, .inl (S.2.1 36)),
  .inl (.int, 5, .inl (S.2.1 37)),
  .inl (.int, 5, .inl (S.2.1 38)),
  .inl (.int, 5, .inl (S.2.1 39)),
  .inl (.boolean, 5, .inl (S.2.1 40)),
  .inl (.int, 4, .inl (S.2.1 41)),
  .inl (.int, 4, .inl (S.2.1 42)),
  .inl (.int, 202, .inl (S.2.1 43)),
  .inl (.int, 202, .inl (S.2.1 44)),
  .inl (.int, 202, .inl (S.2.1 45)),
  .inl (.int, 5, .inl (S.2.1 46)),
  .inl (.int, 202, .inl (S.2.1 47)),
  .inl (.int, 202, .inl (S.2.1 48)),
  .inl (.int, 202, .inl (S.2.1 49)),
  .inl (.int, 202, .inl (S.2.1 50)),
  .inl (.long, 1, .inr (.inl S.2.2))]
theorem mm_ev.to {sc : mS} {K : mK} {P : List mM} {d M : Nat} {c c2 : mC} {Q : mR → List mE → Prop} (h : c2 = c) (k : mm_ev sc K P d M c Q) : mm_ev sc K P d M c2 Q := h ▸ k
theorem mb_i {α : Type} {p : Prop} [Decidable p] {t : Option α} {r : α} (h : (if p then t else none) = some r) : p ∧ t = some r := by
  by_cases hp : p
  · rw [if_pos hp] at h; exact ⟨hp, h⟩
  · rw [if_neg hp] at h; cases h
theorem mb_b {α β : Type} {x : Option α} {f : α → Option β} {r : β} (h : x.bind f = some r) : ∃ a, x = some a ∧ f a = some r := by
  cases x with
  | none => cases h
  | some a => exact ⟨a, rfl, h⟩
theorem mb_n {α β : Type} {f : α → Option β} {r : β} (h : (none : Option α).bind f = some r) : False := by cases h
theorem mb_s {α β : Type} {f : α → Option β} {a : α} {r : Option β} (h : (some a).bind f = r) : f a = r := h
