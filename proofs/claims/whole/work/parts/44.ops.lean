/-! strip, rest -/
theorem i32_04 {x : Int32} (h : iO 0 x 4) : x = 0 ∨ x = 1 ∨ x = 2 ∨ x = 3 ∨ x = 4 := by
  obtain ⟨q1, q2⟩ := h
  obtain ⟨j, hj, rfl⟩ := nI_of (Int32.not_lt.mpr q1)
  have : j ≤ 4 := (nI_leI (a := j) (b := 4) hj (by omega)).mp q2
  rcases (show j = 0 ∨ j = 1 ∨ j = 2 ∨ j = 3 ∨ j = 4 by omega) with rfl | rfl | rfl | rfl | rfl
  · exact Or.inl rfl
  · exact Or.inr (Or.inl rfl)
  · exact Or.inr (Or.inr (Or.inl rfl))
  · exact Or.inr (Or.inr (Or.inr (Or.inl rfl)))
  · exact Or.inr (Or.inr (Or.inr (Or.inr rfl)))
theorem has_52 {S : mSt} {ns : Nat} (h5 : ns ≤ 100) (h : S.1 15 = nI ns) (a : Int32) : (F52 S a = some 0 ∧ ¬ (∃ j, j < ns ∧ a = nI j)) ∨ (F52 S a = some 1 ∧ ∃ j, j < ns ∧ a = nI j) := by
  unfold F52
  by_cases h1 : a < 0
  · rw [if_pos h1]
    refine Or.inl ⟨rfl, ?_⟩
    rintro ⟨j, hj, e⟩
    rw [e] at h1
    exact nI_pos (by omega) h1
  · rw [if_neg h1, h]
    by_cases h2 : nI ns ≤ a
    · rw [if_pos h2]
      refine Or.inl ⟨rfl, ?_⟩
      rintro ⟨j, hj, e⟩
      rw [e] at h2
      exact nI_ge hj (by omega) h2
    · rw [if_neg h2]
      obtain ⟨j, hj, e⟩ := i32_out (by omega) h1 h2
      have n5 : ¬ (100 : Int32) ≤ nI j := nI_ge (a := j) (b := 100) (by omega) (by omega)
      rw [e, if_neg n5]
      exact Or.inr ⟨rfl, j, hj, rfl⟩
/-- strip -/
theorem op_strip {S : mSt} (hI : Inv S) (a b : Int32) : ∃ k S1 v S2, F92 S a b = some (k, S1) ∧ F79 S1 a b = some (v, S2) ∧ S2.1 16 = k ∧ (k = 0 → S2.2.2 0 = v.toInt64) ∧ Inv S2 := by
  have hI2 := hI
  obtain ⟨he, hr, np, nb, hp, hb, ht⟩ := hI
  have h0 : S.1 0 = S.1 27 := he.2.2.2.2.2.2.2.2.2.2
  have f61 : ∀ (S' : mSt) (x y : Int32), F61 S' a x y = some 0 ∨ F61 S' a x y = some 1 := by
    intro S' x y
    unfold F61
    by_cases q : a < x
    · rw [if_pos q]; exact Or.inl rfl
    · rw [if_neg q]
      by_cases q2 : y < a
      · rw [if_pos q2]; exact Or.inl rfl
      · rw [if_neg q2]; exact Or.inr rfl
  by_cases hw : iO 0 b 4
  · rcases hr.2.2.2.2.2.2.2.2 with hf | hf
    · rw [hf] at h0
      refine ⟨2, S, 0, (va_up S.1 16 2, S.2.1, S.2.2), by simp [F92, F15, F6_in hw, F13, h0], ?_, by simp [va_up], by simp, Inv_16 hI2⟩
      rcases f61 S 0 (S.1 29 - 1) with q | q
      · simp [F79, F61_in hw, q, hf, F62_10]
      · simp [F79, F61_in hw, q, hf, F62_10]
    · rw [hf] at h0
      obtain ⟨hpr, ns, hns, h15, h29, hst⟩ := ht hf
      rcases has_52 (S := S) hns h15 a with ⟨q, w⟩ | ⟨q, w⟩
      · rcases in_61 (S := S) (n := ns) (by omega) a with ⟨q2, w2⟩ | ⟨q2, w2⟩
        · exact ⟨3, S, 0, (va_up S.1 16 3, S.2.1, S.2.2), by simp [F92, F15, F6_in hw, F13, h0, q], by simp [F79, F61_in hw, h29, q2, hf, F62_110], by simp [va_up], by simp, Inv_16 hI2⟩
        · exact absurd w2 w
      · obtain ⟨j, hj, rfl⟩ := w
        obtain ⟨c, hc2, hc47, ⟨g1, g2, g3, g4, g5⟩, g6⟩ := hst j hj
        have hx := nI_ix (n := j) (N := 100) (by omega) (by omega)
        have hy := nI_ix (n := j) (N := 202) (by omega) (by omega)
        have hc := nI_clamp (n := j) (by omega)
        rw [hc] at hx hy
        have np5 := hp.1
        have q2 : ∀ S' : mSt, F61 S' (nI j) 0 (nI ns - 1) = some 1 := by
          intro S'
          rcases in_61 (S := S') (n := ns) (by omega) (nI j) with ⟨q2, w2⟩ | ⟨q2, w2⟩
          · exact absurd ⟨j, hj, rfl⟩ w2
          · exact q2
        have ev : ∀ x : Int32, F92 S (nI j) b = some (0, (S.1, S.2.1, vp_updL S.2.2 0 x.toInt64)) → F79 (S.1, S.2.1, vp_updL S.2.2 0 x.toInt64) (nI j) b = some (x, (va_up S.1 16 0, S.2.1, vp_updL S.2.2 0 x.toInt64)) → ∃ k S1 v S2, F92 S (nI j) b = some (k, S1) ∧ F79 S1 (nI j) b = some (v, S2) ∧ S2.1 16 = k ∧ (k = 0 → S2.2.2 0 = v.toInt64) ∧ Inv S2 := by
          intro x e1 e2
          exact ⟨0, _, x, _, e1, e2, by simp [va_up], by simp [vp_updL], Inv_16 hI2⟩
        have hh := nI_half (c := c) (by omega)
        have hm := nI_par (c := c) (by omega)
        rw [hh] at hm
        rcases i32_04 hw with rfl | rfl | rfl | rfl | rfl
        · exact ev (nI (c / 2)) (by simp [F92, F15, F6_in hw, F13, h0, q, hx, hc, g1]) (by simp [F79, F61_in hw, h29, q2, hf, F62_111, hy, hc, hc47, hh])
        · rcases (show c % 2 = 0 ∨ c % 2 = 1 by omega) with z | z
          · rw [z] at g2 hm
            have z0 : nI 0 = 0 := rfl
            exact ev 0 (by simp [F92, F15, F6_in hw, F13, h0, q, hx, hc, g2, z0]) (by simp [F79, F61_in hw, h29, q2, hf, F62_111, hy, hc, hc47, hh, hm, z0])
          · rw [z] at g2 hm
            have z0 : nI 1 = 1 := rfl
            exact ev 1 (by simp [F92, F15, F6_in hw, F13, h0, q, hx, hc, g2, z0]) (by simp [F79, F61_in hw, h29, q2, hf, F62_111, hy, hc, hc47, hh, hm, z0])
        · exact ev (S.2.1 48 j) (by simp [F92, F15, F6_in hw, F13, h0, q, hx, hc, g3]) (by simp [F79, F61_in hw, h29, q2, hf, F62_111, hy, hc])
        · exact ev (S.2.1 49 j) (by simp [F92, F15, F6_in hw, F13, h0, q, hx, hc, g4]) (by simp [F79, F61_in hw, h29, q2, hf, F62_111, hy, hc])
        · exact ev (S.2.1 50 j) (by simp [F92, F15, F6_in hw, F13, h0, q, hx, hc, g5]) (by simp [F79, F61_in hw, h29, q2, hf, F62_111, hy, hc])
  · refine ⟨1, S, 0, (va_up S.1 16 1, S.2.1, S.2.2), by simp [F92, F15, F6_out hw], ?_, by simp [va_up], by simp, Inv_16 hI2⟩
    rcases f61 S 0 (S.1 29 - 1) with q | q
    · simp [F79, F61_out hw, q, F62_0]
    · simp [F79, F61_out hw, q, F62_0]
