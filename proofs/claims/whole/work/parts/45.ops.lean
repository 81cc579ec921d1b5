/-! rest -/
theorem i32_01 {x : Int32} (h : iO 0 x 1) : x = 0 ∨ x = 1 := by
  rcases i32_04 (⟨h.1, Int32.le_trans h.2 (by decide)⟩ : iO 0 x 4) with rfl | rfl | rfl | rfl | rfl
  · exact Or.inl rfl
  · exact Or.inr rfl
  · exact absurd h.2 (by decide)
  · exact absurd h.2 (by decide)
  · exact absurd h.2 (by decide)
/-- the rest's length -/
def rLen (S : mSt) (ns : Nat) : Int32 := if ns = 0 then S.1 17 - S.1 21 - S.1 20 else S.1 17 - S.1 21 - (S.2.1 48 (ns - 1) + S.2.1 49 (ns - 1) + S.1 19)
theorem op_rest {S : mSt} (hI : Inv S) (a : Int32) : ∃ k S1 v S2, F94 S a = some (k, S1) ∧ F81 S1 a = some (v, S2) ∧ S2.1 16 = k ∧ (k = 0 → S2.2.2 0 = v.toInt64) ∧ Inv S2 := by
  have hI2 := hI
  obtain ⟨he, hr, np, nb, hp, hb, ht⟩ := hI
  obtain ⟨j2, j3, j4, j5, j6, j7, j8, j9, j10, j11, h0⟩ := he
  by_cases hw : iO 0 a 1
  · rcases hr.2.2.2.2.2.2.2.2 with hf | hf
    · rw [hf] at h0
      exact ⟨2, S, 0, (va_up S.1 16 2, S.2.1, S.2.2), by simp [F94, F17, F6_in hw, F13, h0], by simp [F81, F61_in hw, hf, F62_10], by simp [va_up], by simp, Inv_16 hI2⟩
    · rw [hf] at h0
      obtain ⟨hpr, ns, hns, h15, h29, hst⟩ := ht hf
      have e18 : F18 S = some (if 0 < rLen S ns then rLen S ns else 0) := by
        unfold F18 F25
        rw [h15]
        by_cases hz : ns = 0
        · subst hz
          rw [if_pos (show nI 0 ≤ 0 by decide)]
          simp [rLen, j2, j8, j7]
        · obtain ⟨m, rfl⟩ : ∃ m, ns = m + 1 := ⟨ns - 1, by omega⟩
          rw [if_neg (nI_nle (n := m + 1) (by omega) (by omega)), nI_pred]
          obtain ⟨c, hc2, hc47, ⟨g1, g2, g3, g4, g5⟩, g6⟩ := hst m (by omega)
          have hx := nI_ix (n := m) (N := 100) (by omega) (by omega)
          have hc := nI_clamp (n := m) (by omega)
          rw [hc] at hx
          rcases has_52 (S := S) hns h15 (nI m) with ⟨q, w⟩ | ⟨q, w⟩
          · exact absurd ⟨m, by omega, rfl⟩ w
          · simp [F51, q, hx, hc, rLen, g3, g4, j2, j8, j4]
      have ev : ∀ x : Int32, F94 S a = some (0, (S.1, S.2.1, vp_updL S.2.2 0 x.toInt64)) → F81 (S.1, S.2.1, vp_updL S.2.2 0 x.toInt64) a = some (x, (va_up S.1 16 0, S.2.1, vp_updL S.2.2 0 x.toInt64)) → ∃ k S1 v S2, F94 S a = some (k, S1) ∧ F81 S1 a = some (v, S2) ∧ S2.1 16 = k ∧ (k = 0 → S2.2.2 0 = v.toInt64) ∧ Inv S2 := by
        intro x e1 e2
        exact ⟨0, _, x, _, e1, e2, by simp [va_up], by simp [vp_updL], Inv_16 hI2⟩
      have e81 : ∀ o : Nat → Int64, F81 (S.1, S.2.1, o) a = (if 0 ≤ rLen S ns then (if a = 0 then some (rLen S ns, (va_up S.1 16 0, S.2.1, o)) else (if rLen S ns < S.1 24 then some (0, (va_up S.1 16 0, S.2.1, o)) else some (1, (va_up S.1 16 0, S.2.1, o)))) else (if a = 0 then some (0, (va_up S.1 16 0, S.2.1, o)) else (if 0 < S.1 24 then some (0, (va_up S.1 16 0, S.2.1, o)) else some (1, (va_up S.1 16 0, S.2.1, o))))) := by
        intro o
        by_cases hz : ns = 0
        · subst hz
          have z0 : nI 0 = 0 := rfl
          simp [F81, F61_in hw, hf, F62_111, va_up, h29, z0, rLen]
        · obtain ⟨m, rfl⟩ : ∃ m, ns = m + 1 := ⟨ns - 1, by omega⟩
          have hx := nI_ix (n := m) (N := 202) (by omega) (by omega)
          have hc := nI_clamp (n := m) (by omega)
          rw [hc] at hx
          have z0 : ¬ nI (m + 1) = 0 := nI_ne0 (by omega) (by omega)
          simp [F81, F61_in hw, hf, F62_111, va_up, h29, z0, rLen, nI_pred, hx, hc]
      generalize rLen S ns = x at e18 e81
      rcases i32_01 hw with rfl | rfl
      · by_cases hx : 0 < x
        · exact ev x (by simp [F94, F17, F6_in hw, F13, h0, e18, hx]) (by rw [e81]; simp [Int32.le_of_lt hx])
        · refine ev 0 (by simp [F94, F17, F6_in hw, F13, h0, e18, hx]) ?_
          rw [e81]
          by_cases hy : 0 ≤ x
          · have : x = 0 := Int32.le_antisymm (Int32.not_lt.mp hx) hy
            subst this
            simp
          · simp [hy]
      · have hxx : ∀ y : Int32, (if 0 < x then x else 0) = y → F94 S 1 = some (0, (S.1, S.2.1, vp_updL S.2.2 0 (if y < S.1 9 then (0 : Int32) else 1).toInt64)) := by
          intro y hy
          rw [hy] at e18
          by_cases q : y < S.1 9
          · simp [F94, F17, F6_in hw, F13, h0, e18, q]
          · simp [F94, F17, F6_in hw, F13, h0, e18, q]
        rw [j9] at hxx
        by_cases hx : 0 < x
        · refine ev _ (hxx x (by simp [hx])) ?_
          rw [e81]
          by_cases q : x < S.1 24
          · simp [Int32.le_of_lt hx, q]
          · simp [Int32.le_of_lt hx, q]
        · refine ev _ (hxx 0 (by simp [hx])) ?_
          rw [e81]
          by_cases hy : 0 ≤ x
          · have : x = 0 := Int32.le_antisymm (Int32.not_lt.mp hx) hy
            subst this
            by_cases q : 0 < S.1 24
            · simp [q]
            · simp [q]
          · by_cases q : 0 < S.1 24
            · simp [hy, q]
            · simp [hy, q]
  · exact ⟨1, S, 0, (va_up S.1 16 1, S.2.1, S.2.2), by simp [F94, F17, F6_out hw], by simp [F81, F61_out hw, F62_0], by simp [va_up], by simp, Inv_16 hI2⟩
