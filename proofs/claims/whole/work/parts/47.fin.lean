/-! finding a message -/
section FND
variable {A : Ad} {n T q : Nat} {hb : Nat → Nat} {vw : Vw} {p u : Nat → Nat} {a r : Nat} {σ : Hp} {μ : Mu}
theorem air_find (hR : RR A n T q hb vw p u a 0 σ μ) (id : Int32) : ∃ x, f_X1_placeOf σ (A 1 0 0) id = some x ∧ f_X12_find μ id = some x ∧ (x = -1 ∨ ∃ k, k < a ∧ x = nI k) := by
  have hs := hR.1
  obtain ⟨h1, h2, h3, h4, h5, h6, h7, h8, h9, h10, h11, h12, h13, h14⟩ := hR.2.2.2.2.1
  have k1 := hs.k1
  have loop : ∀ d (F F' k : Nat), d < F → d < F' → a = k + d → ∃ x, f_X1_placeOf_2 F σ (A 1 0 0) id (nI k) = some x ∧ f_X12_find_2 F' μ id (nI k) = some x ∧ (x = -1 ∨ ∃ k, k < a ∧ x = nI k) := by
    intro d
    induction d with
    | zero =>
      intro F F' k hF hF' hk
      obtain ⟨F, rfl⟩ : ∃ f, F = f + 1 := ⟨F - 1, by omega⟩
      obtain ⟨F', rfl⟩ : ∃ f, F' = f + 1 := ⟨F' - 1, by omega⟩
      have e1 : nI a ≤ nI k := (nI_leI (by omega) (by omega)).mpr (by omega)
      refine ⟨-1, ?_, ?_, Or.inl rfl⟩
      · show b_X1_placeOf_2 (f_X1_placeOf_2 F) _ _ _ _ = _
        rw [b_X1_placeOf_2, x_gI k1, Option.bind_some, h2, if_pos e1]
      · show b_X12_find_2 (f_X12_find_2 F') _ _ _ = _
        rw [b_X12_find_2, h3, if_pos e1]
    | succ d ih =>
      intro F F' k hF hF' hk
      obtain ⟨F, rfl⟩ : ∃ f, F = f + 1 := ⟨F - 1, by omega⟩
      obtain ⟨F', rfl⟩ : ∃ f, F' = f + 1 := ⟨F' - 1, by omega⟩
      have e1 : ¬ nI a ≤ nI k := fun e => by rw [nI_leI (by omega) (by omega)] at e; omega
      have hka : k < a := by omega
      have hp := h8 k (by omega)
      have hm := h14 k (by omega)
      have hu := h12 k (by omega)
      have c1 : f_X1_placeOf_2 (F + 1) σ (A 1 0 0) id (nI k) = if μ.2 17 (u k) = id then some (nI k) else f_X1_placeOf_2 F σ (A 1 0 0) id (nI (k + 1)) := by
        show b_X1_placeOf_2 (f_X1_placeOf_2 F) _ _ _ _ = _
        rw [b_X1_placeOf_2, x_gI k1, Option.bind_some, h2, if_neg e1, x_gR k1, hs.r1_0, Option.bind_some, e_aR hs.k22 hs.z22 (by omega : k < 200) (by decide) (h6 k (by omega)), Option.bind_some, x_gI (hs.k5 (by omega)), Option.bind_some, hm.1.1, nI_1]
      have c2 : f_X12_find_2 (F' + 1) μ id (nI k) = if μ.2 17 (u k) = id then some (nI k) else f_X12_find_2 F' μ id (nI (k + 1)) := by
        show b_X12_find_2 (f_X12_find_2 F') _ _ _ = _
        rw [b_X12_find_2, h3, if_neg e1, mA_n 15 k (by simp only [mZ]; omega), Option.bind_some, h10 k hka, mA_n 17 _ (by simp only [mZ]; omega), Option.bind_some, nI_1]
      rw [c1, c2]
      by_cases hid : μ.2 17 (u k) = id
      · rw [if_pos hid, if_pos hid]
        exact ⟨nI k, rfl, rfl, Or.inr ⟨k, hka, rfl⟩⟩
      · rw [if_neg hid, if_neg hid]
        exact ih F F' (k + 1) (by omega) (by omega) (by omega)
  exact loop a lf lf 0 (by unfold lf; omega) (by unfold lf; omega) (by omega)
end FND
