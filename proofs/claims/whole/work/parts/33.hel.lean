/-! what is put by, and the log's next entry -/
theorem row44a {μ : Mu} {r j i : Nat} {c w1 w2 : Int32} (hi : i < 12) : rwM 12 (mT (mT (mT μ 43 r c) 44 (12 * r + j) w1) 45 (12 * r + j) w2) 44 r i = if i = j then w1 else rwM 12 μ 44 r i := row44 hi
section HEM
variable {A : Ad} {n T q : Nat} {hb : Nat → Nat} {vw : Vw} {p u : Nat → Nat} {a r : Nat} {σ : Hp} {μ : Mu}
/-- a number that is not held is put by -/
theorem hap (hR : RR A n T q hb vw p u a 0 σ μ) (hr : r < n) {hx : Nat} (h8 : hx ≤ 8) {h : Nat} (hh : μ.2 43 r = nI h) (hhx : h ≤ hx) {slot k id : Int32} (hid : Rid q id) (e : slot = μ.2 39 r + k) (hb8 : hb r ≤ 9) (hno : f_X12_held μ (nI r) k = some (-1)) (hno2 : f_X3_indexOf σ (A 3 r 0) slot = some (-1)) : ∃ σ' μ', f_X3_put σ (A 3 r 0) slot id = some σ' ∧ f_X12_hold μ (nI r) k id = some μ' ∧ RR A n T q (fun i => if i = r then h + 1 else hb i) vw p u a 0 σ' μ' ∧ Ag A σ σ' (fun s i => ¬ (i = r ∧ (s = 3 ∨ s = 34 ∨ s = 35))) ∧ AgM μ μ' (fun j i => ¬ (j = 43 ∧ i = r) ∧ ¬ ((j = 44 ∨ j = 45) ∧ 12 * r ≤ i ∧ i < 12 * r + 12)) ∧ μ'.1 = μ.1 ∧ (∀ i, i < 12 → rwM 12 μ' 44 r i = (if i = h then k else rwM 12 μ 44 r i) ∧ rwM 12 μ' 45 r i = (if i = h then id else rwM 12 μ 45 r i)) ∧ μ'.2 43 r = nI (h + 1) ∧ ∀ j, j < h → rwM 12 μ 44 r j ≠ k := by
  have hs := hR.1
  have h7 := hs.np
  have hi := hs.inj
  have hI := hs.1
  have hr7 : r < 7 := by omega
  obtain ⟨x, h'', q1, q2, q3, q4, q5⟩ := hld hR hr hb8 e
  obtain ⟨-, -, -, -, -, -, ⟨h', g1, g2, g3, g4, g5⟩, -⟩ := hR.2.2.2.2.2.1 r hr
  obtain rfl : h' = h := (nI_eq (by omega) (by omega)).mp (g2.symm.trans hh)
  obtain rfl : h'' = h' := (nI_eq (by omega) (by omega)).mp (q2.symm.trans hh)
  have hx1 : x = -1 := Option.some.inj (q4.symm.trans hno)
  have hnot : ∀ j, j < h'' → rwM 12 μ 44 r j ≠ k := by
    rcases q5 with ⟨j, hj, hx, -⟩ | ⟨-, h⟩
    · exact absurd (hx.symm.trans hx1) (nI_m1 (by omega))
    · exact h
  have k3 := hs.k3 hr
  have k34 := hs.k34 hr
  have k35 := hs.k35 hr
  have z34 := hs.z34 hr
  have z35 := hs.z35 hr
  have r30 := hs.r3_0 hr
  have r31 := hs.r3_1 hr
  have n3 : oK σ (A 3 r 0) ≠ 9 := by rw [k3]; decide
  have n34 : oK σ (A 34 r 0) ≠ 9 := by rw [k34]; decide
  have n35 : oK σ (A 35 r 0) ≠ 9 := by rw [k35]; decide
  have hh9 : h'' < 9 := by omega
  have e8 : ¬ (8 : Int32) < nI h'' := by rw [show (8 : Int32) = nI 8 from rfl, nI_ltI (by omega) (by omega)]; omega
  have hc : Ag A σ (sI (sI (sI σ (A 34 r 0) h'' slot) (A 35 r 0) h'' id) (A 3 r 0) 2 (nI (h'' + 1))) (fun s i => ¬ (i = r ∧ (s = 3 ∨ s = 34 ∨ s = 35))) := (((Ag.sI hI).tr (Ag.sI hI)).tr (Ag.sI hI)).wk (fun s i h => by omega)
  have hm : AgM μ (mT (mT (mT μ 43 r (nI (h'' + 1))) 44 (12 * r + h'') k) 45 (12 * r + h'') id) (fun j i => ¬ (j = 43 ∧ i = r) ∧ ¬ ((j = 44 ∨ j = 45) ∧ 12 * r ≤ i ∧ i < 12 * r + 12)) := ((AgM.mT.tr AgM.mT).tr AgM.mT).wk (fun s i h => by omega)
  refine ⟨_, _, ?_, ?_, hR.hld hr (((hs.sI rfl).sI rfl).sI rfl) (((hR.2.1.sI n34).sI n35).sI n3) hc hm rfl (fun r' h => if_neg h) ?_, hc, hm, rfl, fun i hi' => ⟨row44 hi', row45 hi'⟩, ?_, hnot⟩
  · rw [f_X3_put, x_gO k3, Option.bind_some, f_X3_remove, x_gO k3, Option.bind_some, hno2, Option.bind_some, if_pos rfl, Option.bind_some]
    simp only [x_gI, x_gR, x_gO, x_pI, x_pR, x_aI, x_aR, x_qI, x_qR, x_aL, oK_sI, oK_sR, oK_sC, oZ_sI, oZ_sR, oZ_sC, xI_sI, oI_sR, xI_sC, oR_sI, xR_sR, oR_sC, Option.bind_some, if_true, if_false, Nat.reduceEqDiff, true_and, and_true, false_and, and_false, k3, k34, k35, z34, z35, r30, r31, hi, hh9, g3, e8, nI_1, Nat.reduceLT]
  · rw [f_X12_hold, hno, Option.bind_some, if_pos rfl]
    have hz1 : 12 * r + h'' < 84 := by omega
    simp only [f_X12_hold_32, l12, pk_mul, nI_add, mA_n, mQ_n, m_P, mT_2, mT_1, mS_1, mS_2, mZ, Option.bind_some, if_true, if_false, true_and, and_true, false_and, and_false, Nat.reduceEqDiff, Nat.reduceLT, hr7, g2, nI_1, hz1]
  · refine ⟨h'' + 1, by rw [if_pos rfl]; exact Nat.le_refl _, ?_, ?_, fun i hi' => ?_, fun i i' hi1 hi2 hii => ?_⟩
    · simp only [m_P, mT_2, mT_1, mS_1, mS_2, Option.bind_some, Nat.reduceEqDiff, if_true, if_false, true_and, and_true, false_and, and_false]
    · simp only [oK_sI, oK_sR, oK_sC, oZ_sI, oZ_sR, oZ_sC, xI_sI, oI_sR, xI_sC, oR_sI, xR_sR, oR_sC, Option.bind_some, if_true, if_false, Nat.reduceEqDiff, true_and, and_true, false_and, and_false, hi]
    · rw [row44 (by omega), row45 (by omega)]
      simp only [oK_sI, oK_sR, oK_sC, oZ_sI, oZ_sR, oZ_sC, xI_sI, oI_sR, xI_sC, oR_sI, xR_sR, oR_sC, Option.bind_some, if_true, if_false, Nat.reduceEqDiff, true_and, and_true, false_and, and_false, m_P, mT_2, mT_1, mS_1, mS_2, Option.bind_some, Nat.reduceEqDiff, if_true, if_false, true_and, and_true, false_and, and_false, hi]
      by_cases hij : i = h''
      · simp only [if_pos hij]
        exact ⟨e, trivial, hid⟩
      · simp only [if_neg hij]
        exact g4 i (by omega)
    · rw [row44 (by omega), row44 (by omega)] at hii
      by_cases h1 : i = h''
      · by_cases h2 : i' = h''
        · omega
        · rw [if_pos h1, if_neg h2] at hii
          exact absurd hii.symm (hnot i' (by omega))
      · by_cases h2 : i' = h''
        · rw [if_neg h1, if_pos h2] at hii
          exact absurd hii (hnot i (by omega))
        · rw [if_neg h1, if_neg h2] at hii
          exact g5 _ _ (by omega) (by omega) hii
  · simp only [m_P, mT_2, mT_1, mS_1, mS_2, Option.bind_some, Nat.reduceEqDiff, if_true, if_false, true_and, and_true, false_and, and_false]
theorem rwM_mT {w j o k i : Nat} {μ : Mu} {x : Int32} (hk : k < w) (hi : i < w) : rwM w (mT μ j (w * o + k) x) j o i = if i = k then x else rwM w μ j o i := by
  rw [rwM_set hk]
  rfl
/-- an entry at the log's end -/
theorem lap (hR : RR A n T q hb vw p u a 0 σ μ) (hr : r < n) {l : Nat} (hl : l < 100) (h38 : μ.2 38 r = nI l) {x : Int32} (hx : Sm q x) : ∃ σ' μ', f_X4_put σ (A 32 r 0) (nI (l + 1)) x = some σ' ∧ f_X12_append μ (nI r) x = some μ' ∧ RR A n T q hb vw p u a 0 σ' μ' ∧ μ'.2 38 r = nI (l + 1) ∧ Ag A σ σ' (fun s i => ¬ (i = r ∧ (s = 32 ∨ s = 33))) ∧ AgM μ μ' (fun j i => ¬ (j = 38 ∧ i = r) ∧ ¬ (j = 42 ∧ 100 * r ≤ i ∧ i < 100 * r + 100)) ∧ μ'.1 = μ.1 := by
  have hs := hR.1
  have h7 := hs.np
  have hi := hs.inj
  have hI := hs.1
  have hr7 : r < 7 := by omega
  obtain ⟨-, -, -, -, -, ⟨l', q1, q2, q3, q4⟩, -⟩ := hR.2.2.2.2.2.1 r hr
  obtain rfl : l' = l := (nI_eq (by omega) (by omega)).mp (q2.symm.trans h38)
  have k32 := hs.k32 hr
  have k33 := hs.k33 hr
  have z33 := hs.z33 hr
  have r32 := hs.r32_0 hr
  have n32 : oK σ (A 32 r 0) ≠ 9 := by rw [k32]; decide
  have n33 : oK σ (A 33 r 0) ≠ 9 := by rw [k33]; decide
  have e1 : ¬ nI (l' + 1) < (1 : Int32) := by rw [l1, nI_ltI (by omega) (by omega)]; omega
  have e2 : ¬ (100 : Int32) < nI (l' + 1) := by rw [l100, nI_ltI (by omega) (by omega)]; omega
  have e3 : nI (l' + 1) ≤ nI l' + 1 := by rw [nI_1]; exact Int32.le_refl _
  have e4 : nI (l' + 1) - (1 : Int32) = nI l' := nI_pred l'
  have e5 : nI l' < nI (l' + 1) := nI_lt (by omega) (by omega)
  have hc : Ag A σ (sI (sI σ (A 33 r 0) l' x) (A 32 r 0) 1 (nI (l' + 1))) (fun s i => ¬ (i = r ∧ (s = 32 ∨ s = 33))) := ((Ag.sI hI).tr (Ag.sI hI)).wk (fun s i h => by omega)
  have hm : AgM μ (mT (mT μ 42 (100 * r + l') x) 38 r (nI (l' + 1))) (fun j i => ¬ (j = 38 ∧ i = r) ∧ ¬ (j = 42 ∧ 100 * r ≤ i ∧ i < 100 * r + 100)) := (AgM.mT.tr AgM.mT).wk (fun s i h => by omega)
  refine ⟨_, _, ?_, ?_, hR.log hr ((hs.sI rfl).sI rfl) ((hR.2.1.sI n33).sI n32) hc hm rfl ?_, ?_, hc, hm, rfl⟩
  · rw [f_X4_put, if_neg e1, if_neg e2]
    simp only [x_gI, x_gR, x_gO, x_pI, x_pR, x_aI, x_aR, x_qI, x_qR, x_aL, oK_sI, oK_sR, oK_sC, oZ_sI, oZ_sR, oZ_sC, xI_sI, oI_sR, xI_sC, oR_sI, xR_sR, oR_sC, Option.bind_some, if_true, if_false, Nat.reduceEqDiff, true_and, and_true, false_and, and_false, k32, k33, z33, r32, hi, q3, e3, e4, hl, f_J9_max_7cf53, e5, Nat.reduceLT]
  · have hz : 100 * r + l' < 700 := by omega
    simp only [f_X12_append, l100, pk_mul, nI_add, mA_n, mQ_n, m_P, mT_2, mT_1, mS_1, mS_2, mZ, Option.bind_some, if_true, if_false, true_and, and_true, false_and, and_false, Nat.reduceEqDiff, Nat.reduceLT, hr7, h38, nI_1, hz]
  · refine ⟨l' + 1, by omega, ?_, ?_, fun k hk => ?_⟩
    · simp only [m_P, mT_2, mT_1, mS_1, mS_2, Option.bind_some, Nat.reduceEqDiff, if_true, if_false, true_and, and_true, false_and, and_false]
    · simp only [oK_sI, oK_sR, oK_sC, oZ_sI, oZ_sR, oZ_sC, xI_sI, oI_sR, xI_sC, oR_sI, xR_sR, oR_sC, Option.bind_some, if_true, if_false, Nat.reduceEqDiff, true_and, and_true, false_and, and_false, hi]
    · have e6 : rwM 100 (mT (mT μ 42 (100 * r + l') x) 38 r (nI (l' + 1))) 42 r k = if k = l' then x else rwM 100 μ 42 r k := by
        rw [← rwM_mT (μ := μ) (j := 42) (o := r) (x := x) hl (by omega : k < 100)]
        exact congrFun (rwM_ag (fun k hk => by simp only [m_P, mT_2, mT_1, mS_1, mS_2, Option.bind_some, Nat.reduceEqDiff, if_true, if_false, true_and, and_true, false_and, and_false])) k
      rw [e6]
      simp only [oK_sI, oK_sR, oK_sC, oZ_sI, oZ_sR, oZ_sC, xI_sI, oI_sR, xI_sC, oR_sI, xR_sR, oR_sC, Option.bind_some, if_true, if_false, Nat.reduceEqDiff, true_and, and_true, false_and, and_false, hi]
      by_cases hk2 : k = l'
      · rw [if_pos hk2, if_pos hk2]
        exact ⟨rfl, hx⟩
      · rw [if_neg hk2, if_neg hk2]
        exact q4 k (by omega)
  · simp only [m_P, mT_2, mT_1, mS_1, mS_2, Option.bind_some, Nat.reduceEqDiff, if_true, if_false, true_and, and_true, false_and, and_false]
end HEM
