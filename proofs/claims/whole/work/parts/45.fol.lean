/-! following a later view -/
section FOL
variable {A : Ad} {n T q : Nat} {vw : Vw} {p u : Nat → Nat} {a r : Nat} {σ : Hp} {μ : Mu}
theorem rcv_follow (hR : RR A n T q h8 vw p u a 0 σ μ) (hr : r < n) {i : Nat} (hi202 : i < 202) {w : Nat} {L S : Int32} (hw : oR σ (A 5 i 0) 4 = some w) (hvw : vw w = some (L, S)) (hL : Sm T L) : ∃ σ' μ' a' vw', (∀ K : Hp → Option Hp, ((h_gR σ 5 (A 5 i 0) 4).bind fun v16 => (h_gR σ 6 (A 6 r 0) 4).bind fun v20 => (h_gO σ 9 v16).bind fun _ => (f_X9_isSame σ v16 v20).bind fun v23 => if v23 = 0 then ((h_gR σ 5 (A 5 i 0) 4).bind fun v30 => (h_gR σ 6 (A 6 r 0) 4).bind fun v34 => (h_gO σ 9 v30).bind fun _ => (f_X9_isBehind σ v30 v34).bind fun v37 => if v37 = 0 then ((h_gR σ 6 (A 6 r 0) 4).bind fun v45 => (h_gR σ 5 (A 5 i 0) 4).bind fun v49 => (h_gO σ 9 v45).bind fun _ => (f_X9_joinedWith σ v45 v49).bind fun v52 => (h_gO v52.2 6 (A 6 r 0)).bind fun _ => (f_X6_turnTo v52.2 (A 6 r 0) v52.1).bind fun v55 => K v55) else K σ) else K σ) = K σ') ∧ f_X12_follow μ (nI r) L S = some μ' ∧ Vle vw vw' ∧ RR A n T q h8 vw' p u a' 0 σ' μ' ∧ Kp A n p σ σ' μ μ' := by
  have hs := hR.1
  have h7 := hs.np
  have hr7 : r < 7 := by omega
  have k6 := hs.k6 hr
  have k5 := hs.k5 hi202
  obtain ⟨l, v, g1, g2, g3, g4, -⟩ := hR.ld hr
  obtain ⟨⟨-, -, ⟨a5, a5'⟩, -⟩, -⟩ := (hR.2.2.2.2.2.1 r hr).sp
  have hwv : IsV σ w L S := hR.2.1 w L S hvw
  obtain ⟨x, e1, e2⟩ := behind hwv g4
  have e3 := c_same hwv g4
  have hm : f_X12_follow μ (nI r) L S = if b1 (L = nI l ∧ S = μ.2 34 r) = 0 then f_X12_follow_20 μ (nI r) L S else some μ := by
    rw [f_X12_follow, mA_n 33 r hr7, Option.bind_some, g2]
    simp only [b1_0]
    by_cases c1 : L = nI l
    · rw [if_pos c1, mA_n 34 r hr7, Option.bind_some]
      by_cases c2 : S = μ.2 34 r
      · rw [if_pos c2, if_neg (fun h => h ⟨c1, c2⟩)]
      · rw [if_neg c2, if_pos (fun h => c2 h.2)]
    · rw [if_neg c1, if_pos (fun h => c1 h.1)]
  rw [hm]
  simp only [x_gR k5, hw, x_gR k6, g3, x_gO hwv.1, Option.bind_some, e3, e1, x_gO g4.1]
  by_cases c0 : b1 (L = nI l ∧ S = μ.2 34 r) = 0
  · simp only [if_pos c0]
    rw [f_X12_follow_20, mA_n 33 r hr7, Option.bind_some, mA_n 34 r hr7, Option.bind_some, g2, e2, Option.bind_some]
    by_cases c1 : x = 0
    · simp only [if_pos c1]
      obtain ⟨vw', w1, w2, w3, w4⟩ := hR.ofV (if nI l < L then L else nI l) (if μ.2 34 r < S then S else μ.2 34 r)
      have hXL : Sm T (if nI l < L then L else nI l) := by
        split
        · exact hL
        · rw [← g2]; exact a5'
      have hk6 := w3.1.k6 hr
      have hnv : ∀ b, oK σ b = 9 → b ≠ oN σ := fun b hb e => by
        have h1 := hs.2.2.2.2.1 (oN σ) (Nat.le_refl _)
        rw [← e, hb] at h1
        exact absurd h1 (by decide)
      have e0 : ∀ b, b ≠ oN σ → oK (nw σ 9 0) b = oK σ b ∧ oI (nw σ 9 0) b = oI σ b ∧ oR (nw σ 9 0) b = oR σ b := fun b hb => ⟨va_up_ne _ _ hb, va_up_ne _ _ hb, va_up_ne _ _ hb⟩
      have e9 : oK (nw σ 9 0) (oN σ) = 9 := va_up_self _ _ _
      have hv1 := e0 v (hnv v g4.1)
      have hw1 := e0 w (hnv w hwv.1)
      have hini : f_X9_init (nw σ 9 0) (oN σ) (if nI l < L then L else nI l) (if μ.2 34 r < S then S else μ.2 34 r) = some (mkV σ (if nI l < L then L else nI l) (if μ.2 34 r < S then S else μ.2 34 r)) := by
        simp only [f_X9_init, x_gI, x_gR, x_gO, x_pI, x_pR, x_aI, x_aR, x_qI, x_qR, x_aL, oK_sI, oK_sR, oK_sC, oZ_sI, oZ_sR, oZ_sC, xI_sI, oI_sR, xI_sC, oR_sI, xR_sR, oR_sC, Option.bind_some, if_true, if_false, Nat.reduceEqDiff, true_and, and_true, false_and, and_false, e9]
        rfl
      have hmax : ∀ x y : Int32, f_J9_max_7cf53 x y = some (if x < y then y else x) := fun x y => by
        unfold f_J9_max_7cf53
        split <;> rfl
      have hj : f_X9_joinedWith σ v w = some (oN σ, mkV σ (if nI l < L then L else nI l) (if μ.2 34 r < S then S else μ.2 34 r)) := by
        rw [f_X9_joinedWith, Option.bind_some, x_gI (hv1.1.trans g4.1), Option.bind_some, x_gI (hw1.1.trans hwv.1), Option.bind_some, hv1.2.1, hw1.2.1, g4.2.1, hwv.2.1, hmax, Option.bind_some, x_gI (hv1.1.trans g4.1), Option.bind_some, x_gI (hw1.1.trans hwv.1), Option.bind_some, hv1.2.1, hw1.2.1, g4.2.2, hwv.2.2, hmax, Option.bind_some, hini, Option.bind_some]
      obtain ⟨σ', μ', a', vw2, t1, t2, t3, t4, t5⟩ := (rep_turn w3 hr w2 hXL).trv w1 w4
      have hmx : ∀ x y : Int32, (if y ≤ x then x else y) = (if x < y then y else x) := fun x y => by
        by_cases h : x < y
        · rw [if_pos h, if_neg (fun e => by rw [Int32.lt_iff_toInt_lt] at h; rw [Int32.le_iff_toInt_le] at e; omega)]
        · rw [if_neg h, if_pos (by rw [Int32.lt_iff_toInt_lt] at h; rw [Int32.le_iff_toInt_le]; omega)]
      have h63 : ∀ y2 : Int32, f_X12_follow_63 μ (nI r) S (nI r) y2 = f_X12_turn μ (nI r) y2 (if μ.2 34 r < S then S else μ.2 34 r) := fun y2 => by
        rw [f_X12_follow_63, mA_n 34 r hr7, Option.bind_some, Option.bind_fun_some, Option.bind_some, Option.bind_fun_some, ← hmx]
        by_cases h : S ≤ μ.2 34 r
        · rw [if_pos h, if_pos h]
        · rw [if_neg h, if_neg h]
      refine ⟨σ', μ', a', vw2, fun K => ?_, ?_, t3, t4, t5⟩
      · simp only [hj, Option.bind_some, x_gO hk6, t1]
      · rw [← t2, ← hmx (nI l) L]
        simp only [Option.bind_some, h63]
        by_cases h : L ≤ nI l
        · rw [if_pos h, if_pos h]
        · rw [if_neg h, if_neg h]
    · simp only [if_neg c1]
      exact ⟨σ, μ, a, vw, fun _ => rfl, rfl, Vle.rf, hR, Kp.rf⟩
  · simp only [if_neg c0]
    exact ⟨σ, μ, a, vw, fun _ => rfl, rfl, Vle.rf, hR, Kp.rf⟩
end FOL
