/-! what is held -/
theorem i_can {a b c : Int32} (h : a + b = a + c) : b = c := by
  have h2 := congrArg (fun x => x - a) h
  simp only [Int32.add_comm a b, Int32.add_comm a c, Int32.add_sub_cancel] at h2
  exact h2
theorem i_sub (a b : Int32) : a + (b - a) = b := by rw [Int32.add_comm, Int32.sub_add_cancel]
theorem row44 {μ : Mu} {r j i : Nat} {c w1 w2 : Int32} (hi : i < 12) : rwM 12 (mT (mT (mT μ 43 r c) 44 (12 * r + j) w1) 45 (12 * r + j) w2) 44 r i = if i = j then w1 else rwM 12 μ 44 r i := by
  have e1 : (12 * r + i = 12 * r + j) ↔ i = j := by omega
  rw [rwM_at hi, rwM_at hi]
  simp only [m_P, mT_2, mT_1, mS_1, mS_2, Option.bind_some, Nat.reduceEqDiff, if_true, if_false, true_and, and_true, false_and, and_false, e1]
theorem row45 {μ : Mu} {r j i : Nat} {c w1 w2 : Int32} (hi : i < 12) : rwM 12 (mT (mT (mT μ 43 r c) 44 (12 * r + j) w1) 45 (12 * r + j) w2) 45 r i = if i = j then w2 else rwM 12 μ 45 r i := by
  have e1 : (12 * r + i = 12 * r + j) ↔ i = j := by omega
  rw [rwM_at hi, rwM_at hi]
  simp only [m_P, mT_2, mT_1, mS_1, mS_2, Option.bind_some, Nat.reduceEqDiff, if_true, if_false, true_and, and_true, false_and, and_false, e1]
section HEL
variable {A : Ad} {n T q : Nat} {hb : Nat → Nat} {vw : Vw} {p u : Nat → Nat} {a r : Nat} {σ : Hp} {μ : Mu}
theorem hld (hR : RR A n T q hb vw p u a 0 σ μ) (hr : r < n) (h9 : hb r ≤ 9) {slot k : Int32} (e : slot = μ.2 39 r + k) : ∃ x h, h ≤ hb r ∧ μ.2 43 r = nI h ∧ f_X3_indexOf σ (A 3 r 0) slot = some x ∧ f_X12_held μ (nI r) k = some x ∧ ((∃ j, j < h ∧ x = nI j ∧ rwM 12 μ 44 r j = k) ∨ (x = -1 ∧ ∀ j, j < h → rwM 12 μ 44 r j ≠ k)) := by
  have hs := hR.1
  have h7 := hs.np
  have hr7 : r < 7 := by omega
  obtain ⟨-, -, -, -, -, -, ⟨h, g1, g2, g3, g4, g5⟩, -⟩ := hR.2.2.2.2.2.1 r hr
  have k3 := hs.k3 hr
  have k34 := hs.k34 hr
  have z34 := hs.z34 hr
  have loop : ∀ d (F F' i : Nat), d < F → d < F' → h = i + d → (∀ j, j < i → rwM 12 μ 44 r j ≠ k) → ∃ x, f_X3_indexOf_2 F σ (A 3 r 0) slot (nI i) = some x ∧ f_X12_held_2 F' μ (nI r) k (nI i) = some x ∧ ((∃ j, j < h ∧ x = nI j ∧ rwM 12 μ 44 r j = k) ∨ (x = -1 ∧ ∀ j, j < h → rwM 12 μ 44 r j ≠ k)) := by
    intro d
    induction d with
    | zero =>
      intro F F' i hF hF' hi hj
      obtain ⟨F, rfl⟩ : ∃ f, F = f + 1 := ⟨F - 1, by omega⟩
      obtain ⟨F', rfl⟩ : ∃ f, F' = f + 1 := ⟨F' - 1, by omega⟩
      have e1 : nI h ≤ nI i := (nI_leI (by omega) (by omega)).mpr (by omega)
      refine ⟨-1, ?_, ?_, Or.inr ⟨rfl, fun j hj' => hj j (by omega)⟩⟩
      · show b_X3_indexOf_2 (f_X3_indexOf_2 F) _ _ _ _ = _
        rw [b_X3_indexOf_2, x_gI k3, Option.bind_some, g3, if_pos e1]
      · show b_X12_held_2 (f_X12_held_2 F') _ _ _ _ = _
        rw [b_X12_held_2, mA_n 43 r hr7, Option.bind_some, g2, if_pos e1]
    | succ d ih =>
      intro F F' i hF hF' hi hj
      obtain ⟨F, rfl⟩ : ∃ f, F = f + 1 := ⟨F - 1, by omega⟩
      obtain ⟨F', rfl⟩ : ∃ f, F' = f + 1 := ⟨F' - 1, by omega⟩
      have e1 : ¬ nI h ≤ nI i := fun e => by rw [nI_leI (by omega) (by omega)] at e; omega
      have hih : i < h := by omega
      obtain ⟨g6, -, -⟩ := g4 i hih
      have hz : i < mZ 44 := by simp only [mZ]; omega
      have hz2 : 12 * r + i < mZ 44 := by simp only [mZ]; omega
      have c1 : f_X3_indexOf_2 (F + 1) σ (A 3 r 0) slot (nI i) = if rwM 12 μ 44 r i = k then some (nI i) else f_X3_indexOf_2 F σ (A 3 r 0) slot (nI (i + 1)) := by
        show b_X3_indexOf_2 (f_X3_indexOf_2 F) _ _ _ _ = _
        rw [b_X3_indexOf_2, x_gI k3, Option.bind_some, g3, if_neg e1, x_gR k3, hs.r3_0 hr, Option.bind_some, x_aI k34 (by omega) (by omega), Option.bind_some, g6, e, nI_1]
        by_cases hk : rwM 12 μ 44 r i = k
        · rw [if_pos hk, if_pos (by rw [hk])]
        · rw [if_neg hk, if_neg (fun h => hk (i_can h))]
      have c2 : f_X12_held_2 (F' + 1) μ (nI r) k (nI i) = if rwM 12 μ 44 r i = k then some (nI i) else f_X12_held_2 F' μ (nI r) k (nI (i + 1)) := by
        show b_X12_held_2 (f_X12_held_2 F') _ _ _ _ = _
        rw [b_X12_held_2, mA_n 43 r hr7, Option.bind_some, g2, if_neg e1, l12, pk_mul, nI_add, mA_n 44 _ hz2, Option.bind_some, nI_1, rwM_at (by omega)]
      rw [c1, c2]
      by_cases hk : rwM 12 μ 44 r i = k
      · rw [if_pos hk, if_pos hk]
        exact ⟨nI i, rfl, rfl, Or.inl ⟨i, hih, rfl, hk⟩⟩
      · rw [if_neg hk, if_neg hk]
        exact ih F F' (i + 1) (by omega) (by omega) (by omega) (fun j hj' => by
          by_cases hji : j = i
          · rw [hji]; exact hk
          · exact hj j (by omega))
  obtain ⟨x, h1, h2, h3⟩ := loop h lf lf 0 (by unfold lf; omega) (by unfold lf; omega) (by omega) (fun j hj => by omega)
  exact ⟨x, h, g1, g2, h1, h2, h3⟩
/-- what is held is taken: both sides -/
theorem hrm (hR : RR A n T q hb vw p u a 0 σ μ) (hr : r < n) (h9 : hb r ≤ 9) {slot k : Int32} (e : slot = μ.2 39 r + k) : (f_X3_remove σ (A 3 r 0) slot = some (0, σ) ∧ f_X12_unhold μ (nI r) k = some μ ∧ f_X12_held μ (nI r) k = some (-1) ∧ f_X3_indexOf σ (A 3 r 0) slot = some (-1)) ∨
    ∃ j id h σ' μ', h ≤ hb r ∧ j < h ∧ μ.2 43 r = nI h ∧ Rid q id ∧ f_X3_indexOf σ (A 3 r 0) slot = some (nI j) ∧ f_X12_held μ (nI r) k = some (nI j) ∧ m_A μ 45 (nI (12 * r + j)) = some id ∧ f_X3_remove σ (A 3 r 0) slot = some (id, σ') ∧ f_X12_unhold μ (nI r) k = some μ' ∧
      RR A n T q (fun i => if i = r then hb r - 1 else hb i) vw p u a 0 σ' μ' ∧ Ag A σ σ' (fun s i => ¬ (i = r ∧ (s = 3 ∨ s = 34 ∨ s = 35))) ∧ AgM μ μ' (fun j i => ¬ (j = 43 ∧ i = r) ∧ ¬ ((j = 44 ∨ j = 45) ∧ 12 * r ≤ i ∧ i < 12 * r + 12)) ∧ μ'.1 = μ.1 ∧ rwM 12 μ 44 r j = k ∧ rwM 12 μ 45 r j = id ∧ μ'.2 43 r = nI (h - 1) ∧ ∀ i, i < 12 → rwM 12 μ' 44 r i = (if i = j then rwM 12 μ 44 r (h - 1) else rwM 12 μ 44 r i) ∧ rwM 12 μ' 45 r i = (if i = j then rwM 12 μ 45 r (h - 1) else rwM 12 μ 45 r i) := by
  have hs := hR.1
  have h7 := hs.np
  have hi := hs.inj
  have hI := hs.1
  have hr7 : r < 7 := by omega
  obtain ⟨x, h, q1, q2, q3, q4, q5⟩ := hld hR hr h9 e
  have k3 := hs.k3 hr
  rcases q5 with ⟨j, hj, hx, hk⟩ | ⟨hx, hk⟩
  · right
    obtain ⟨-, -, -, -, -, -, ⟨h', g1, g2, g3, g4, g5⟩, -⟩ := hR.2.2.2.2.2.1 r hr
    obtain rfl : h' = h := (nI_eq (by omega) (by omega)).mp (g2.symm.trans q2)
    subst hx
    obtain ⟨t1, t2, t3⟩ := g4 j hj
    have k34 := hs.k34 hr
    have k35 := hs.k35 hr
    have z34 := hs.z34 hr
    have z35 := hs.z35 hr
    have r30 := hs.r3_0 hr
    have r31 := hs.r3_1 hr
    have n3 : oK σ (A 3 r 0) ≠ 9 := by rw [k3]; decide
    have n34 : oK σ (A 34 r 0) ≠ 9 := by rw [k34]; decide
    have n35 : oK σ (A 35 r 0) ≠ 9 := by rw [k35]; decide
    have hj9 : j < 9 := by omega
    have hh9 : h' - 1 < 9 := by omega
    have ed : nI h' - (1 : Int32) = nI (h' - 1) := by rw [l1, pk_sub (by omega)]
    have hne : ¬ nI j = -1 := nI_m1 (by omega)
    obtain ⟨u1, u2, u3⟩ := g4 (h' - 1) (by omega)
    refine ⟨j, rwM 12 μ 45 r j, h', sI (sI (sI σ (A 3 r 0) 2 (nI (h' - 1))) (A 34 r 0) j (oI σ (A 34 r 0) (h' - 1))) (A 35 r 0) j (oI σ (A 35 r 0) (h' - 1)), mT (mT (mT μ 43 r (nI (h' - 1))) 44 (12 * r + j) (rwM 12 μ 44 r (h' - 1))) 45 (12 * r + j) (rwM 12 μ 45 r (h' - 1)), q1, hj, q2, t3, q3, q4, ?_, ?_, ?_, ?_, ?_, ?_, rfl, hk, rfl, ?_, fun i hi' => ⟨row44 hi', row45 hi'⟩⟩
    · rw [mA_n 45 _ (by simp only [mZ]; omega), rwM_at (by omega)]
    · rw [f_X3_remove, x_gO k3, Option.bind_some, q3, Option.bind_some, if_neg hne]
      simp only [x_gI, x_gR, x_gO, x_pI, x_pR, x_aI, x_aR, x_qI, x_qR, x_aL, oK_sI, oK_sR, oK_sC, oZ_sI, oZ_sR, oZ_sC, xI_sI, oI_sR, xI_sC, oR_sI, xR_sR, oR_sC, Option.bind_some, if_true, if_false, Nat.reduceEqDiff, true_and, and_true, false_and, and_false, k3, k34, k35, z34, z35, r30, r31, hi, hj9, hh9, g3, ed, Nat.reduceLT]
      rw [t2]
    · rw [f_X12_unhold, q4, Option.bind_some, if_neg hne]
      have hz1 : 12 * r + j < 84 := by omega
      have hz2 : 12 * r + (h' - 1) < 84 := by omega
      rw [rwM_at (by omega), rwM_at (by omega)]
      simp only [l12, pk_mul, nI_add, mA_n, mQ_n, m_P, mT_2, mT_1, mS_1, mS_2, mZ, Option.bind_some, if_true, if_false, true_and, and_true, false_and, and_false, Nat.reduceEqDiff, Nat.reduceLT, hr7, q2, ed, hz1, hz2]
    · have hc : Ag A σ (sI (sI (sI σ (A 3 r 0) 2 (nI (h' - 1))) (A 34 r 0) j (oI σ (A 34 r 0) (h' - 1))) (A 35 r 0) j (oI σ (A 35 r 0) (h' - 1))) (fun s i => ¬ (i = r ∧ (s = 3 ∨ s = 34 ∨ s = 35))) := (((Ag.sI hI).tr (Ag.sI hI)).tr (Ag.sI hI)).wk (fun s i h => by omega)
      refine hR.hld hr (((hs.sI rfl).sI rfl).sI rfl) (((hR.2.1.sI n3).sI n34).sI n35) hc (((AgM.mT.tr AgM.mT).tr AgM.mT).wk (fun s i h => by omega)) rfl (fun r' h => if_neg h) ?_
      refine ⟨h' - 1, by rw [if_pos rfl]; omega, ?_, ?_, fun i hi' => ?_, fun i i' hi1 hi2 hii => ?_⟩
      · simp only [m_P, mT_2, mT_1, mS_1, mS_2, Option.bind_some, Nat.reduceEqDiff, if_true, if_false, true_and, and_true, false_and, and_false]
      · simp only [oK_sI, oK_sR, oK_sC, oZ_sI, oZ_sR, oZ_sC, xI_sI, oI_sR, xI_sC, oR_sI, xR_sR, oR_sC, Option.bind_some, if_true, if_false, Nat.reduceEqDiff, true_and, and_true, false_and, and_false, hi]
      · rw [row44 (by omega), row45 (by omega)]
        simp only [oK_sI, oK_sR, oK_sC, oZ_sI, oZ_sR, oZ_sC, xI_sI, oI_sR, xI_sC, oR_sI, xR_sR, oR_sC, Option.bind_some, if_true, if_false, Nat.reduceEqDiff, true_and, and_true, false_and, and_false, m_P, mT_2, mT_1, mS_1, mS_2, Option.bind_some, Nat.reduceEqDiff, if_true, if_false, true_and, and_true, false_and, and_false, hi]
        by_cases hij : i = j
        · simp only [if_pos hij]
          exact ⟨u1, u2, u3⟩
        · simp only [if_neg hij]
          exact g4 i (by omega)
      · rw [row44 (by omega), row44 (by omega)] at hii
        by_cases h1 : i = j
        · by_cases h2 : i' = j
          · omega
          · rw [if_pos h1, if_neg h2] at hii
            have := g5 _ _ (by omega) (by omega) hii
            omega
        · by_cases h2 : i' = j
          · rw [if_neg h1, if_pos h2] at hii
            have := g5 _ _ (by omega) (by omega) hii
            omega
          · rw [if_neg h1, if_neg h2] at hii
            exact g5 _ _ (by omega) (by omega) hii
    · exact (((Ag.sI hI).tr (Ag.sI hI)).tr (Ag.sI hI)).wk (fun s i h => by omega)
    · exact ((AgM.mT.tr AgM.mT).tr AgM.mT).wk (fun s i h => by omega)
    · simp only [m_P, mT_2, mT_1, mS_1, mS_2, Option.bind_some, Nat.reduceEqDiff, if_true, if_false, true_and, and_true, false_and, and_false]
  · left
    subst hx
    exact ⟨by rw [f_X3_remove, x_gO k3, Option.bind_some, q3, Option.bind_some, if_pos rfl], by rw [f_X12_unhold, q4, Option.bind_some, if_pos rfl], q4, q3⟩
end HEL
