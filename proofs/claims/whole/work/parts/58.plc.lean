/-! a client's places -/
def ix (t nx p : Nat) : Nat := (nx + 64 - t + p) % 64
def pix (t nx i : Nat) : Nat := (i + t + 64 - nx) % 64
theorem ix_lt (t nx p : Nat) : ix t nx p < 64 := Nat.mod_lt _ (by decide)
theorem ix_t {t nx p : Nat} (ht : t ≤ 64) (hnx : nx < 64) (hn : t < 64 → nx = t) (hp : p < t) : ix t nx p < t := by
  unfold ix
  rcases Nat.lt_or_ge t 64 with h | h
  · have := hn h; omega
  · omega
theorem pix_t {t nx i : Nat} (ht : t ≤ 64) (hnx : nx < 64) (hn : t < 64 → nx = t) (hi : i < t) : pix t nx i < t := by
  unfold pix
  rcases Nat.lt_or_ge t 64 with h | h
  · have := hn h; omega
  · omega
theorem ix_pix {t nx i : Nat} (ht : t ≤ 64) (hnx : nx < 64) (hn : t < 64 → nx = t) (hi : i < t) : ix t nx (pix t nx i) = i := by
  unfold ix pix
  rcases Nat.lt_or_ge t 64 with h | h
  · have := hn h; omega
  · omega
theorem ix_inj {t nx p p' : Nat} (ht : t ≤ 64) (hnx : nx < 64) (hn : t < 64 → nx = t) (hp : p < t) (hp' : p' < t) (h : ix t nx p = ix t nx p') : p = p' := by
  unfold ix at h
  rcases Nat.lt_or_ge t 64 with h2 | h2
  · have := hn h2; omega
  · omega
section PLC
variable {A : Ad} {n T q : Nat} {hb : Nat → Nat} {vw : Vw} {p u : Nat → Nat} {a c t : Nat} {σ σ' : Hp} {μ μ' : Mu}
theorem pl_c (hs : Rs A n σ) (hc : c < 4) (hv : Vok vw σ) (ht : t ≤ 64) (h11 : oI σ (A 2 c 0) 11 = nI t) (gL gS : Nat → Int32) (hvw : ∀ i, i < t → VwR vw (oR σ (A 41 c 0) i) (gL i) (gS i)) {w : Nat} {L S : Int32} (hw : IsV σ w L S) (slot : Int32) : ∀ d F i, d < F → t = i + d → (∃ j, j < t ∧ oI σ (A 41 c 1) j = slot ∧ gL j = L ∧ gS j = S ∧ f_X2_placeOf_2 F σ (A 2 c 0) w slot (nI i) = some (nI j, σ)) ∨ ((∀ j, i ≤ j → j < t → ¬ (oI σ (A 41 c 1) j = slot ∧ gL j = L ∧ gS j = S)) ∧ f_X2_placeOf_2 F σ (A 2 c 0) w slot (nI i) = f_X2_placeOf_41 σ (A 2 c 0) w slot) := by
  have k2 := hs.k2 hc
  intro d
  induction d with
  | zero =>
    intro F i hF hi
    obtain ⟨F, rfl⟩ : ∃ f, F = f + 1 := ⟨F - 1, by omega⟩
    refine Or.inr ⟨fun j h1 h2 => by omega, ?_⟩
    show b_X2_placeOf_2 (f_X2_placeOf_2 F) _ _ _ _ _ = _
    rw [b_X2_placeOf_2, x_gI k2, Option.bind_some, h11, if_pos ((nI_leI (by omega) (by omega)).mpr (by omega))]
  | succ d ih =>
    intro F i hF hi
    obtain ⟨F, rfl⟩ : ∃ f, F = f + 1 := ⟨F - 1, by omega⟩
    have hit : i < t := by omega
    obtain ⟨v, e1, e2⟩ := hvw i hit
    have hvv : IsV σ v _ _ := hv v _ _ e2
    have k410 : oK σ (A 41 c 0) = 19 := hs.k41 hc (by decide)
    have k411 : oK σ (A 41 c 1) = 13 := hs.k41 hc (by decide)
    have c0 : f_X2_placeOf_2 (F + 1) σ (A 2 c 0) w slot (nI i) = if oI σ (A 41 c 1) i = slot then (if b1 (gL i = L ∧ gS i = S) = 0 then f_X2_placeOf_2 F σ (A 2 c 0) w slot (nI (i + 1)) else some (nI i, σ)) else f_X2_placeOf_2 F σ (A 2 c 0) w slot (nI (i + 1)) := by
      show b_X2_placeOf_2 (f_X2_placeOf_2 F) _ _ _ _ _ = _
      rw [b_X2_placeOf_2, x_gI k2, Option.bind_some, h11, if_neg (fun e => by rw [nI_leI (by omega) (by omega)] at e; omega), x_gR k2, hs.r2_8 hc, Option.bind_some, e_aI k411 (hs.z41 hc (by decide)) (by omega : i < 64) (by decide), Option.bind_some, x_gR k2, hs.r2_7 hc, Option.bind_some, e_aR k410 (hs.z41 hc (by decide)) (by omega : i < 64) (by decide) e1, Option.bind_some, x_gO hvv.1, Option.bind_some, c_same hvv hw, Option.bind_some]
      simp only [f_X2_placeOf_35, nI_1]
    rw [c0]
    have hrec : ¬ (oI σ (A 41 c 1) i = slot ∧ gL i = L ∧ gS i = S) → (∃ j, j < t ∧ oI σ (A 41 c 1) j = slot ∧ gL j = L ∧ gS j = S ∧ f_X2_placeOf_2 F σ (A 2 c 0) w slot (nI (i + 1)) = some (nI j, σ)) ∨ ((∀ j, i ≤ j → j < t → ¬ (oI σ (A 41 c 1) j = slot ∧ gL j = L ∧ gS j = S)) ∧ f_X2_placeOf_2 F σ (A 2 c 0) w slot (nI (i + 1)) = f_X2_placeOf_41 σ (A 2 c 0) w slot) := fun hno => by
      rcases ih F (i + 1) (by omega) (by omega) with h | ⟨h1, h2⟩
      · exact Or.inl h
      · refine Or.inr ⟨fun j a1 a2 => ?_, h2⟩
        rcases (show j = i ∨ i + 1 ≤ j by omega) with e | e
        · rw [e]; exact hno
        · exact h1 j e a2
    by_cases d1 : oI σ (A 41 c 1) i = slot
    · rw [if_pos d1]
      by_cases d2 : gL i = L ∧ gS i = S
      · rw [if_neg (by rw [b1_0]; exact fun x => x d2)]
        exact Or.inl ⟨i, hit, d1, d2.1, d2.2, rfl⟩
      · rw [if_pos (by rw [b1_0]; exact d2)]
        exact hrec (fun x => d2 x.2)
    · rw [if_neg d1]
      exact hrec (fun x => d1 x.1)
theorem pl_m (hc : c < 4) (ht : t ≤ 64) (x2 L S slot x6 x7 x8 : Int32) : ∀ d F i, d < F → t = i + d → (∃ j, j < t ∧ (μ.2 65 (64 * c + j) = L ∧ μ.2 66 (64 * c + j) = S ∧ μ.2 67 (64 * c + j) = slot) ∧ f_X12_replied_41 F μ (nI c) x2 L S slot x6 x7 x8 (nI (64 * c + i)) (nI (64 * c + t)) = f_X12_replied_158 μ (nI c) x2 L S slot x6 x7 x8 (nI (64 * c + j))) ∨ ((∀ j, i ≤ j → j < t → ¬ (μ.2 65 (64 * c + j) = L ∧ μ.2 66 (64 * c + j) = S ∧ μ.2 67 (64 * c + j) = slot)) ∧ f_X12_replied_41 F μ (nI c) x2 L S slot x6 x7 x8 (nI (64 * c + i)) (nI (64 * c + t)) = f_X12_replied_89 μ (nI c) x2 L S slot x6 x7 x8 (nI (64 * c + t)) (nI (64 * c + t))) := by
  intro d
  induction d with
  | zero =>
    intro F i hF hi
    obtain ⟨F, rfl⟩ : ∃ f, F = f + 1 := ⟨F - 1, by omega⟩
    refine Or.inr ⟨fun j h1 h2 => by omega, ?_⟩
    show b_X12_replied_41 (f_X12_replied_41 F) _ _ _ _ _ _ _ _ _ _ _ = _
    have e : i = t := by omega
    rw [b_X12_replied_41, if_pos ((nI_leI (by omega) (by omega)).mpr (by omega)), e]
  | succ d ih =>
    intro F i hF hi
    obtain ⟨F, rfl⟩ : ∃ f, F = f + 1 := ⟨F - 1, by omega⟩
    have hit : i < t := by omega
    have hz : 64 * c + i < 256 := by omega
    have c0 : f_X12_replied_41 (F + 1) μ (nI c) x2 L S slot x6 x7 x8 (nI (64 * c + i)) (nI (64 * c + t)) = if μ.2 65 (64 * c + i) = L then (if μ.2 66 (64 * c + i) = S then (if μ.2 67 (64 * c + i) = slot then f_X12_replied_89 μ (nI c) x2 L S slot x6 x7 x8 (nI (64 * c + i)) (nI (64 * c + t)) else f_X12_replied_41 F μ (nI c) x2 L S slot x6 x7 x8 (nI (64 * c + (i + 1))) (nI (64 * c + t))) else f_X12_replied_41 F μ (nI c) x2 L S slot x6 x7 x8 (nI (64 * c + (i + 1))) (nI (64 * c + t))) else f_X12_replied_41 F μ (nI c) x2 L S slot x6 x7 x8 (nI (64 * c + (i + 1))) (nI (64 * c + t)) := by
      show b_X12_replied_41 (f_X12_replied_41 F) _ _ _ _ _ _ _ _ _ _ _ = _
      rw [b_X12_replied_41, if_neg (fun e => by rw [nI_leI (by omega) (by omega)] at e; omega), mA_n 65 _ hz, Option.bind_some, mA_n 66 _ hz, Option.bind_some, mA_n 67 _ hz, Option.bind_some]
      simp only [f_X12_replied_83, nI_1]
      rfl
    rw [c0]
    have hrec : ¬ (μ.2 65 (64 * c + i) = L ∧ μ.2 66 (64 * c + i) = S ∧ μ.2 67 (64 * c + i) = slot) → (∃ j, j < t ∧ (μ.2 65 (64 * c + j) = L ∧ μ.2 66 (64 * c + j) = S ∧ μ.2 67 (64 * c + j) = slot) ∧ f_X12_replied_41 F μ (nI c) x2 L S slot x6 x7 x8 (nI (64 * c + (i + 1))) (nI (64 * c + t)) = f_X12_replied_158 μ (nI c) x2 L S slot x6 x7 x8 (nI (64 * c + j))) ∨ ((∀ j, i ≤ j → j < t → ¬ (μ.2 65 (64 * c + j) = L ∧ μ.2 66 (64 * c + j) = S ∧ μ.2 67 (64 * c + j) = slot)) ∧ f_X12_replied_41 F μ (nI c) x2 L S slot x6 x7 x8 (nI (64 * c + (i + 1))) (nI (64 * c + t)) = f_X12_replied_89 μ (nI c) x2 L S slot x6 x7 x8 (nI (64 * c + t)) (nI (64 * c + t))) := fun hno => by
      rcases ih F (i + 1) (by omega) (by omega) with h | ⟨h1, h2⟩
      · exact Or.inl h
      · refine Or.inr ⟨fun j a1 a2 => ?_, h2⟩
        rcases (show j = i ∨ i + 1 ≤ j by omega) with e | e
        · rw [e]; exact hno
        · exact h1 j e a2
    by_cases d1 : μ.2 65 (64 * c + i) = L
    · rw [if_pos d1]
      by_cases d2 : μ.2 66 (64 * c + i) = S
      · rw [if_pos d2]
        by_cases d3 : μ.2 67 (64 * c + i) = slot
        · rw [if_pos d3]
          refine Or.inl ⟨i, hit, ⟨d1, d2, d3⟩, ?_⟩
          rw [f_X12_replied_89, if_neg (fun e => by rw [nI_eq (by omega) (by omega)] at e; omega)]
        · rw [if_neg d3]
          exact hrec (fun x => d3 x.2.2)
      · rw [if_neg d2]
        exact hrec (fun x => d2 x.2.1)
    · rw [if_neg d1]
      exact hrec (fun x => d1 x.1)
theorem pl_f (hc : c < 4) : ∀ d F i (μ : Mu), d < F → 63 = i + d → ∃ μ', f_X12_forgetFirst_5 F μ (nI c) (nI (64 * c + i)) = some (nI (64 * c + 63), mT μ' 64 c 63) ∧ μ'.1 = μ.1 ∧ ∀ j k, μ'.2 j k = if 65 ≤ j ∧ j ≤ 69 ∧ 64 * c + i ≤ k ∧ k < 64 * c + 63 then μ.2 j (k + 1) else μ.2 j k := by
  have e63 : (((64 : Int32) * nI c) + (64 : Int32)) - (1 : Int32) = nI (64 * c + 63) := by
    rw [l64, pk_mul, nI_add, l1, pk_sub (by omega)]
    congr 1
  intro d
  induction d with
  | zero =>
    intro F i μ hF hi
    obtain ⟨F, rfl⟩ : ∃ f, F = f + 1 := ⟨F - 1, by omega⟩
    refine ⟨μ, ?_, rfl, fun j k => by rw [if_neg (by omega)]⟩
    show b_X12_forgetFirst_5 (f_X12_forgetFirst_5 F) _ _ _ = _
    rw [b_X12_forgetFirst_5, e63, if_pos ((nI_leI (by omega) (by omega)).mpr (by omega)), f_X12_forgetFirst_94, mQ_n 64 c _ hc, Option.bind_some, e63]
  | succ d ih =>
    intro F i μ hF hi
    obtain ⟨F, rfl⟩ : ∃ f, F = f + 1 := ⟨F - 1, by omega⟩
    have hz : 64 * c + i < 256 := by omega
    have hz2 : 64 * c + i + 1 < 256 := by omega
    obtain ⟨μ', w1, w2, w3⟩ := ih F (i + 1) (mT (mT (mT (mT (mT μ 65 (64 * c + i) (μ.2 65 (64 * c + i + 1))) 66 (64 * c + i) (μ.2 66 (64 * c + i + 1))) 67 (64 * c + i) (μ.2 67 (64 * c + i + 1))) 68 (64 * c + i) (μ.2 68 (64 * c + i + 1))) 69 (64 * c + i) (μ.2 69 (64 * c + i + 1))) (by omega) (by omega)
    refine ⟨μ', ?_, w2, fun j k => ?_⟩
    · show b_X12_forgetFirst_5 (f_X12_forgetFirst_5 F) _ _ _ = _
      rw [b_X12_forgetFirst_5, e63, if_neg (fun e => by rw [nI_leI (by omega) (by omega)] at e; omega), nI_1]
      simp only [mA_n, mQ_n, m_P, mT_2, mT_1, mS_1, mS_2, mZ, Option.bind_some, if_true, if_false, true_and, and_true, false_and, and_false, Nat.reduceEqDiff, Nat.reduceLT, hz, hz2]
      exact w1
    · rw [w3 j k]
      simp only [mT_2]
      by_cases c1 : 65 ≤ j ∧ j ≤ 69 ∧ 64 * c + i ≤ k ∧ k < 64 * c + 63
      · rw [if_pos c1]
        by_cases c2 : k = 64 * c + i
        · rw [if_neg (by omega)]
          subst c2
          rcases (show j = 65 ∨ j = 66 ∨ j = 67 ∨ j = 68 ∨ j = 69 by omega) with e | e | e | e | e <;> subst e <;> simp only [Nat.reduceEqDiff, false_and, true_and, and_self, if_true, if_false]
        · rw [if_pos (by omega)]
          repeat rw [if_neg (by omega)]
      · rw [if_neg c1, if_neg (by omega)]
        repeat rw [if_neg (by omega)]
end PLC
