/-! a request -/
section REQ
variable {A : Ad} {n T q t tb : Nat} {hb : Nat → Nat} {vw : Vw} {p u : Nat → Nat} {a : Nat} {σ σ' : Hp} {μ μ' : Mu}
theorem ask_c (hs : Rs A n σ) {c k m : Nat} (hc : c < 4) (hq : q < 64) (x2 x4 : Int32) (h5 : oI σ (A 7 0 0) 5 = nI q) (h0 : oI σ (A 2 c 0) 0 = nI m) : (h_gI σ 2 (A 2 c 0) 0).bind (fun v84 => (h_gO σ 7 (A 7 0 0)).bind fun _ => f_X7_add σ (A 7 0 0) (nI c) (v84 + (1 : Int32)) x2 (nI k) x4) = some (nI (q + 1), (sI (sI (sI (sI (sI (sI σ (A 7 0 0) 5 (nI (q + 1))) (A 20 0 0) (q + 1) (nI c)) (A 20 1 0) (q + 1) (nI (m + 1))) (A 20 2 0) (q + 1) x2) (A 20 3 0) (q + 1) (nI k)) (A 20 4 0) (q + 1) x4)) ∧ f_X2_ask (sI (sI (sI (sI (sI (sI σ (A 7 0 0) 5 (nI (q + 1))) (A 20 0 0) (q + 1) (nI c)) (A 20 1 0) (q + 1) (nI (m + 1))) (A 20 2 0) (q + 1) x2) (A 20 3 0) (q + 1) (nI k)) (A 20 4 0) (q + 1) x4) (A 2 c 0) (nI (q + 1)) = some (sI (sI (sI (sI (sI (sI (sI (sI (sI (sI (sI σ (A 7 0 0) 5 (nI (q + 1))) (A 20 0 0) (q + 1) (nI c)) (A 20 1 0) (q + 1) (nI (m + 1))) (A 20 2 0) (q + 1) x2) (A 20 3 0) (q + 1) (nI k)) (A 20 4 0) (q + 1) x4) (A 2 c 0) 0 (nI (m + 1))) (A 2 c 0) 1 (nI (q + 1))) (A 2 c 0) 2 1) (A 2 c 0) 11 0) (A 2 c 0) 12 0) := by
  have hi := hs.inj
  have k2 := hs.k2 hc
  have k7 := hs.k7
  have k200 : oK σ (A 20 0 0) = 13 := hs.k20 (by decide)
  have k201 : oK σ (A 20 1 0) = 13 := hs.k20 (by decide)
  have k202 : oK σ (A 20 2 0) = 13 := hs.k20 (by decide)
  have k203 : oK σ (A 20 3 0) = 13 := hs.k20 (by decide)
  have k204 : oK σ (A 20 4 0) = 13 := hs.k20 (by decide)
  have z200 : oZ σ (A 20 0 0) = 513 := hs.z20 (by decide)
  have z201 : oZ σ (A 20 1 0) = 513 := hs.z20 (by decide)
  have z202 : oZ σ (A 20 2 0) = 513 := hs.z20 (by decide)
  have z203 : oZ σ (A 20 3 0) = 513 := hs.z20 (by decide)
  have z204 : oZ σ (A 20 4 0) = 513 := hs.z20 (by decide)
  have hq513 : q + 1 < 513 := by omega
  have e512 : nI q < (512 : Int32) := (show (512 : Int32) = nI 512 from rfl) ▸ (nI_ltI (by omega) (by omega)).mpr (by omega)
  constructor
  · simp only [f_X7_add, x_gI, x_gR, x_gO, x_pI, x_pR, x_aI, x_aR, x_qI, x_qR, x_aL, oK_sI, oK_sR, oK_sC, oZ_sI, oZ_sR, oZ_sC, xI_sI, oI_sR, xI_sC, oR_sI, xR_sR, oR_sC, Option.bind_some, if_true, if_false, Nat.reduceEqDiff, true_and, and_true, false_and, and_false, k2, k7, k200, k201, k202, k203, k204, z200, z201, z202, z203, z204, hi, h0, h5, e512, nI_1, hq513, hs.r7_0, hs.r7_1, hs.r7_2, hs.r7_3, hs.r7_4, Nat.reduceLT]
  · simp only [f_X2_ask, x_gI, x_gR, x_gO, x_pI, x_pR, x_aI, x_aR, x_qI, x_qR, x_aL, oK_sI, oK_sR, oK_sC, oZ_sI, oZ_sR, oZ_sC, xI_sI, oI_sR, xI_sC, oR_sI, xR_sR, oR_sC, Option.bind_some, if_true, if_false, Nat.reduceEqDiff, true_and, and_true, false_and, and_false, k2, hi, h0, nI_1]
theorem ask_R (hR : RR A n T q h8 vw p u a 0 σ μ) {c k m : Nat} (hc : c < 4) (hk : k < 8) (hq : q < 64) (x2 x4 : Int32) (hmq : m ≤ q) (h57 : μ.2 57 c = nI m) (h59 : ¬ μ.2 59 c = 1) : RR A n T (q + 1) h8 vw p u a 0 (sI (sI (sI (sI (sI (sI (sI (sI (sI (sI (sI σ (A 7 0 0) 5 (nI (q + 1))) (A 20 0 0) (q + 1) (nI c)) (A 20 1 0) (q + 1) (nI (m + 1))) (A 20 2 0) (q + 1) x2) (A 20 3 0) (q + 1) (nI k)) (A 20 4 0) (q + 1) x4) (A 2 c 0) 0 (nI (m + 1))) (A 2 c 0) 1 (nI (q + 1))) (A 2 c 0) 2 1) (A 2 c 0) 11 0) (A 2 c 0) 12 0) (mT (mT (mT (mT (mT (mT (mT (mT (mT (mS (mS μ 0 0) 3 (nI (q + 1))) 57 c (nI (m + 1))) 4 (q + 1) (nI c)) 5 (q + 1) (nI (m + 1))) 6 (q + 1) x2) 7 (q + 1) (nI k)) 8 (q + 1) x4) 58 c (nI (q + 1))) 59 c 1) 64 c 0) := by
  have hs := hR.1
  have hv := hR.2.1
  have hi := hs.inj
  have k2 := hs.k2 hc
  have k7 := hs.k7
  have n2 : oK σ (A 2 c 0) ≠ 9 := by rw [k2]; decide
  have n7 : oK σ (A 7 0 0) ≠ 9 := by rw [k7]; decide
  have n20 : ∀ j, j < 5 → oK σ (A 20 j 0) ≠ 9 := fun j hj => by rw [hs.k20 hj]; decide
  have n200 := n20 0 (by decide)
  have n201 := n20 1 (by decide)
  have n202 := n20 2 (by decide)
  have n203 := n20 3 (by decide)
  have n204 := n20 4 (by decide)
  have a1' : Rs A n (sI (sI (sI (sI (sI (sI σ (A 7 0 0) 5 (nI (q + 1))) (A 20 0 0) (q + 1) (nI c)) (A 20 1 0) (q + 1) (nI (m + 1))) (A 20 2 0) (q + 1) x2) (A 20 3 0) (q + 1) (nI k)) (A 20 4 0) (q + 1) x4) := (((((hs.sI rfl).sI rfl).sI rfl).sI rfl).sI rfl).sI rfl
  have a2' : Vok vw (sI (sI (sI (sI (sI (sI σ (A 7 0 0) 5 (nI (q + 1))) (A 20 0 0) (q + 1) (nI c)) (A 20 1 0) (q + 1) (nI (m + 1))) (A 20 2 0) (q + 1) x2) (A 20 3 0) (q + 1) (nI k)) (A 20 4 0) (q + 1) x4) := (((((hv.sI n7).sI n200).sI n201).sI n202).sI n203).sI n204
  have a3' : Ag A σ (sI (sI (sI (sI (sI (sI σ (A 7 0 0) 5 (nI (q + 1))) (A 20 0 0) (q + 1) (nI c)) (A 20 1 0) (q + 1) (nI (m + 1))) (A 20 2 0) (q + 1) x2) (A 20 3 0) (q + 1) (nI k)) (A 20 4 0) (q + 1) x4) (fun s i => s ≠ 7 ∧ s ≠ 20 ∧ ¬ (s = 2 ∧ i = c)) := ((((((Ag.sI hs.1).tr (Ag.sI hs.1)).tr (Ag.sI hs.1)).tr (Ag.sI hs.1)).tr (Ag.sI hs.1)).tr (Ag.sI hs.1)).wk fun s i h => by omega
  have d1' : Rs A n (sI (sI (sI (sI (sI (sI (sI (sI (sI (sI (sI σ (A 7 0 0) 5 (nI (q + 1))) (A 20 0 0) (q + 1) (nI c)) (A 20 1 0) (q + 1) (nI (m + 1))) (A 20 2 0) (q + 1) x2) (A 20 3 0) (q + 1) (nI k)) (A 20 4 0) (q + 1) x4) (A 2 c 0) 0 (nI (m + 1))) (A 2 c 0) 1 (nI (q + 1))) (A 2 c 0) 2 1) (A 2 c 0) 11 0) (A 2 c 0) 12 0) := ((((a1'.sI rfl).sI rfl).sI rfl).sI rfl).sI rfl
  have d2' : Vok vw (sI (sI (sI (sI (sI (sI (sI (sI (sI (sI (sI σ (A 7 0 0) 5 (nI (q + 1))) (A 20 0 0) (q + 1) (nI c)) (A 20 1 0) (q + 1) (nI (m + 1))) (A 20 2 0) (q + 1) x2) (A 20 3 0) (q + 1) (nI k)) (A 20 4 0) (q + 1) x4) (A 2 c 0) 0 (nI (m + 1))) (A 2 c 0) 1 (nI (q + 1))) (A 2 c 0) 2 1) (A 2 c 0) 11 0) (A 2 c 0) 12 0) := ((((a2'.sI n2).sI n2).sI n2).sI n2).sI n2
  have d3' : Ag A (sI (sI (sI (sI (sI (sI σ (A 7 0 0) 5 (nI (q + 1))) (A 20 0 0) (q + 1) (nI c)) (A 20 1 0) (q + 1) (nI (m + 1))) (A 20 2 0) (q + 1) x2) (A 20 3 0) (q + 1) (nI k)) (A 20 4 0) (q + 1) x4) (sI (sI (sI (sI (sI (sI (sI (sI (sI (sI (sI σ (A 7 0 0) 5 (nI (q + 1))) (A 20 0 0) (q + 1) (nI c)) (A 20 1 0) (q + 1) (nI (m + 1))) (A 20 2 0) (q + 1) x2) (A 20 3 0) (q + 1) (nI k)) (A 20 4 0) (q + 1) x4) (A 2 c 0) 0 (nI (m + 1))) (A 2 c 0) 1 (nI (q + 1))) (A 2 c 0) 2 1) (A 2 c 0) 11 0) (A 2 c 0) 12 0) (fun s i => s ≠ 7 ∧ s ≠ 20 ∧ ¬ (s = 2 ∧ i = c)) := (((((Ag.sI hs.1).tr (Ag.sI hs.1)).tr (Ag.sI hs.1)).tr (Ag.sI hs.1)).tr (Ag.sI hs.1)).wk fun s i h => by omega
  have hag : Ag A σ (sI (sI (sI (sI (sI (sI (sI (sI (sI (sI (sI σ (A 7 0 0) 5 (nI (q + 1))) (A 20 0 0) (q + 1) (nI c)) (A 20 1 0) (q + 1) (nI (m + 1))) (A 20 2 0) (q + 1) x2) (A 20 3 0) (q + 1) (nI k)) (A 20 4 0) (q + 1) x4) (A 2 c 0) 0 (nI (m + 1))) (A 2 c 0) 1 (nI (q + 1))) (A 2 c 0) 2 1) (A 2 c 0) 11 0) (A 2 c 0) 12 0) (fun s i => s ≠ 7 ∧ s ≠ 20 ∧ ¬ (s = 2 ∧ i = c)) := (a3'.tr d3').wk fun s i h => ⟨h, h⟩
  have hm : AgM μ (mT (mT (mT (mT (mT (mT (mT (mT (mT (mS (mS μ 0 0) 3 (nI (q + 1))) 57 c (nI (m + 1))) 4 (q + 1) (nI c)) 5 (q + 1) (nI (m + 1))) 6 (q + 1) x2) 7 (q + 1) (nI k)) 8 (q + 1) x4) 58 c (nI (q + 1))) 59 c 1) 64 c 0) (fun j i => ¬ (4 ≤ j ∧ j ≤ 8 ∧ i = q + 1) ∧ ¬ ((j = 57 ∨ j = 58 ∨ j = 59 ∨ j = 64) ∧ i = c)) := fun j i h => by
    simp only [mT_2, mS_2]
    repeat rw [if_neg (by omega)]
  have hm1 : ∀ k', k' ≠ 0 → k' ≠ 3 → (mT (mT (mT (mT (mT (mT (mT (mT (mT (mS (mS μ 0 0) 3 (nI (q + 1))) 57 c (nI (m + 1))) 4 (q + 1) (nI c)) 5 (q + 1) (nI (m + 1))) 6 (q + 1) x2) 7 (q + 1) (nI k)) 8 (q + 1) x4) 58 c (nI (q + 1))) 59 c 1) 64 c 0).1 k' = μ.1 k' := fun k' e1 e2 => by simp only [mT_1, mS_1, e1, e2, if_false]
  have hE : Ex A n σ σ := fun _ _ _ _ => ⟨rfl, rfl⟩
  obtain ⟨r1, r2, r3, r4, r5, r6, r7, r8, r9, r10⟩ := hR
  obtain ⟨g1, g2, g3, g4, g5⟩ := r4
  obtain ⟨⟨c1, c2, c3, c4, c5, c6⟩, -⟩ := (r7 c hc).sp
  have hqq : q ≤ q + 1 := Nat.le_succ q
  refine ⟨d1', d2', r3.cg (hag.wk fun s i h => by omega) (fun k h => hm1 k (by omega) (by omega)), ⟨?_, ?_, ?_, fun id h1 h2 => ?_, fun id id' h1 h2 h3 h4 e1 e2 => ?_⟩, (r5.xt hE (Nat.le_refl T) hqq Vle.rf).cg (hag.wk fun s i h => by omega) (hm.wk fun j i h => by omega) ⟨hm1 12 (by decide) (by decide), hm1 13 (by decide) (by decide), hm1 14 (by decide) (by decide)⟩, fun r hr => ((r6 r hr).xt hr hE (Nat.le_refl T) hqq Vle.rf).cg hs.np.2 (hag.wk fun s i h => by unfold fpR at h; omega) (hm.wk fun j i h => by unfold fmR at h; omega), fun c' hc' => ?_, ?_, by omega, r10⟩
  · simp only [oK_sI, oK_sR, oK_sC, oZ_sI, oZ_sR, oZ_sC, xI_sI, oI_sR, xI_sC, oR_sI, xR_sR, oR_sC, Option.bind_some, if_true, if_false, Nat.reduceEqDiff, true_and, and_true, false_and, and_false, hi]
  · simp only [m_P, mT_2, mT_1, mS_1, mS_2, Option.bind_some, Nat.reduceEqDiff, if_true, if_false, true_and, and_true, false_and, and_false]
  · have : ¬ 0 = q + 1 := by omega
    simp only [oK_sI, oK_sR, oK_sC, oZ_sI, oZ_sR, oZ_sC, xI_sI, oI_sR, xI_sC, oR_sI, xR_sR, oR_sC, Option.bind_some, if_true, if_false, Nat.reduceEqDiff, true_and, and_true, false_and, and_false, hi, this]
    exact g3
  · by_cases e : id = q + 1
    · subst e
      refine ⟨fun j hj => ?_, c, m + 1, k, hc, ?_, hk, ?_, by omega, by omega, ?_, m + 1, Nat.le_refl _, by omega, ?_⟩
      · rcases (show j = 0 ∨ j = 1 ∨ j = 2 ∨ j = 3 ∨ j = 4 by omega) with rfl | rfl | rfl | rfl | rfl <;> simp only [oK_sI, oK_sR, oK_sC, oZ_sI, oZ_sR, oZ_sC, xI_sI, oI_sR, xI_sC, oR_sI, xR_sR, oR_sC, Option.bind_some, if_true, if_false, Nat.reduceEqDiff, true_and, and_true, false_and, and_false, m_P, mT_2, mT_1, mS_1, mS_2, Option.bind_some, Nat.reduceEqDiff, if_true, if_false, true_and, and_true, false_and, and_false, hi, Nat.reduceAdd]
      · simp only [m_P, mT_2, mT_1, mS_1, mS_2, Option.bind_some, Nat.reduceEqDiff, if_true, if_false, true_and, and_true, false_and, and_false]
      · simp only [m_P, mT_2, mT_1, mS_1, mS_2, Option.bind_some, Nat.reduceEqDiff, if_true, if_false, true_and, and_true, false_and, and_false]
      · simp only [m_P, mT_2, mT_1, mS_1, mS_2, Option.bind_some, Nat.reduceEqDiff, if_true, if_false, true_and, and_true, false_and, and_false]
      · simp only [m_P, mT_2, mT_1, mS_1, mS_2, Option.bind_some, Nat.reduceEqDiff, if_true, if_false, true_and, and_true, false_and, and_false]
    · obtain ⟨b1', cc, mc, kk, b2, b3, b4, b5, b6, b7, b8, md, b9, b10, b11⟩ := g4 id h1 (by omega)
      refine ⟨fun j hj => ?_, cc, mc, kk, b2, ?_, b4, ?_, b6, by omega, ?_, ?_⟩
      · rw [hm (4 + j) id (by omega)]
        have := b1' j hj
        rcases (show j = 0 ∨ j = 1 ∨ j = 2 ∨ j = 3 ∨ j = 4 by omega) with rfl | rfl | rfl | rfl | rfl <;> (simp only [oK_sI, oK_sR, oK_sC, oZ_sI, oZ_sR, oZ_sC, xI_sI, oI_sR, xI_sC, oR_sI, xR_sR, oR_sC, Option.bind_some, if_true, if_false, Nat.reduceEqDiff, true_and, and_true, false_and, and_false, hi, e]; exact this)
      · rw [hm 4 id (by omega)]; exact b3
      · rw [hm 7 id (by omega)]; exact b5
      · rw [hm 5 id (by omega)]; exact b8
      · by_cases ec : cc = c
        · subst ec
          have emd : md = m := (nI_eq (by omega) (by omega)).mp (b11.symm.trans h57)
          refine ⟨m + 1, by omega, by omega, ?_⟩
          simp only [m_P, mT_2, mT_1, mS_1, mS_2, Option.bind_some, Nat.reduceEqDiff, if_true, if_false, true_and, and_true, false_and, and_false]
        · exact ⟨md, b9, by omega, by rw [hm 57 cc (by omega)]; exact b11⟩
  · have old : ∀ id, 1 ≤ id → id ≤ q → (mT (mT (mT (mT (mT (mT (mT (mT (mT (mS (mS μ 0 0) 3 (nI (q + 1))) 57 c (nI (m + 1))) 4 (q + 1) (nI c)) 5 (q + 1) (nI (m + 1))) 6 (q + 1) x2) 7 (q + 1) (nI k)) 8 (q + 1) x4) 58 c (nI (q + 1))) 59 c 1) 64 c 0).2 4 id = nI c → (mT (mT (mT (mT (mT (mT (mT (mT (mT (mS (mS μ 0 0) 3 (nI (q + 1))) 57 c (nI (m + 1))) 4 (q + 1) (nI c)) 5 (q + 1) (nI (m + 1))) 6 (q + 1) x2) 7 (q + 1) (nI k)) 8 (q + 1) x4) 58 c (nI (q + 1))) 59 c 1) 64 c 0).2 5 id = nI (m + 1) → False := fun id h1 h2 z1 z2 => by
      obtain ⟨b1', cc, mc, kk, b2, b3, b4, b5, b6, b7, b8, md, b9, b10, b11⟩ := g4 id h1 h2
      rw [hm 4 id (by omega), b3] at z1
      rw [hm 5 id (by omega), b8] at z2
      have ec : cc = c := (nI_eq (by omega) (by omega)).mp z1
      subst ec
      have emd : md = m := (nI_eq (by omega) (by omega)).mp (b11.symm.trans h57)
      have := (nI_eq (by omega) (by omega)).mp z2
      omega
    have w4 : (mT (mT (mT (mT (mT (mT (mT (mT (mT (mS (mS μ 0 0) 3 (nI (q + 1))) 57 c (nI (m + 1))) 4 (q + 1) (nI c)) 5 (q + 1) (nI (m + 1))) 6 (q + 1) x2) 7 (q + 1) (nI k)) 8 (q + 1) x4) 58 c (nI (q + 1))) 59 c 1) 64 c 0).2 4 (q + 1) = nI c := by simp only [m_P, mT_2, mT_1, mS_1, mS_2, Option.bind_some, Nat.reduceEqDiff, if_true, if_false, true_and, and_true, false_and, and_false]
    have w5 : (mT (mT (mT (mT (mT (mT (mT (mT (mT (mS (mS μ 0 0) 3 (nI (q + 1))) 57 c (nI (m + 1))) 4 (q + 1) (nI c)) 5 (q + 1) (nI (m + 1))) 6 (q + 1) x2) 7 (q + 1) (nI k)) 8 (q + 1) x4) 58 c (nI (q + 1))) 59 c 1) 64 c 0).2 5 (q + 1) = nI (m + 1) := by simp only [m_P, mT_2, mT_1, mS_1, mS_2, Option.bind_some, Nat.reduceEqDiff, if_true, if_false, true_and, and_true, false_and, and_false]
    by_cases c1 : id = q + 1
    · by_cases c2 : id' = q + 1
      · omega
      · rw [c1] at e1 e2
        exact (old id' h3 (by omega) (e1.symm.trans w4) (e2.symm.trans w5)).elim
    · by_cases c2 : id' = q + 1
      · rw [c2] at e1 e2
        exact (old id h1 (by omega) (e1.trans w4) (e2.trans w5)).elim
      · rw [hm 4 id (by omega), hm 4 id' (by omega)] at e1
        rw [hm 5 id (by omega), hm 5 id' (by omega)] at e2
        exact g5 id id' h1 (by omega) h3 (by omega) e1 e2
  · by_cases ec : c' = c
    · subst ec
      refine Rc.mk (t := 0) (nx := 0) ?_ ?_
      · unfold RcS
        simp only [oK_sI, oK_sR, oK_sC, oZ_sI, oZ_sR, oZ_sC, xI_sI, oI_sR, xI_sC, oR_sI, xR_sR, oR_sC, Option.bind_some, if_true, if_false, Nat.reduceEqDiff, true_and, and_true, false_and, and_false, m_P, mT_2, mT_1, mS_1, mS_2, Option.bind_some, Nat.reduceEqDiff, if_true, if_false, true_and, and_true, false_and, and_false, hi]
        exact ⟨⟨m + 1, by omega, rfl⟩, ⟨q + 1, Nat.le_refl _, rfl⟩, Sm.o (by decide), fun _ => ⟨q + 1, by omega, Nat.le_refl _, rfl⟩, fun h => absurd h (by decide), c6⟩
      · refine ⟨Nat.zero_le _, by decide, ?_, ?_, ?_, fun _ => rfl, fun p hp => by omega, fun p p' hp => by omega⟩
        · simp only [m_P, mT_2, mT_1, mS_1, mS_2, Option.bind_some, Nat.reduceEqDiff, if_true, if_false, true_and, and_true, false_and, and_false]
          rfl
        · simp only [oK_sI, oK_sR, oK_sC, oZ_sI, oZ_sR, oZ_sC, xI_sI, oI_sR, xI_sC, oR_sI, xR_sR, oR_sC, Option.bind_some, if_true, if_false, Nat.reduceEqDiff, true_and, and_true, false_and, and_false, hi]
          rfl
        · simp only [oK_sI, oK_sR, oK_sC, oZ_sI, oZ_sR, oZ_sC, xI_sI, oI_sR, xI_sC, oR_sI, xR_sR, oR_sC, Option.bind_some, if_true, if_false, Nat.reduceEqDiff, true_and, and_true, false_and, and_false, hi]
          rfl
    · exact ((r7 c' hc').xt hc' hE (Nat.le_refl T) hqq Vle.rf).cg (hag.wk fun s i h => by unfold fpC at h; omega) (hm.wk fun j i h => by unfold fmC at h; omega)
  · obtain ⟨f, f1, f2, f3, f4, f5, f6⟩ := r8
    have ho : ∀ c', opn (mT (mT (mT (mT (mT (mT (mT (mT (mT (mS (mS μ 0 0) 3 (nI (q + 1))) 57 c (nI (m + 1))) 4 (q + 1) (nI c)) 5 (q + 1) (nI (m + 1))) 6 (q + 1) x2) 7 (q + 1) (nI k)) 8 (q + 1) x4) 58 c (nI (q + 1))) 59 c 1) 64 c 0) c' = if c' = c then 1 else opn μ c' := fun c' => by
      unfold opn
      simp only [m_P, mT_2, mT_1, mS_1, mS_2, Option.bind_some, Nat.reduceEqDiff, if_true, if_false, true_and, and_true, false_and, and_false]
      by_cases e : c' = c
      · rw [if_pos e, if_pos e]
        exact if_pos rfl
      · rw [if_neg e, if_neg e]
    have hop : opn μ c = 0 := by unfold opn; rw [if_neg h59]
    refine ⟨f, (hm1 70 (by decide) (by decide)).trans f1, ?_, ?_, ?_, ?_, fun k hk => ?_⟩
    · rw [(hag 0 0 0 (by omega)).1]; exact f2
    · rw [(hag 0 0 0 (by omega)).1]; exact f3
    · rw [(hag 0 0 0 (by omega)).1]; exact f4
    · rw [ho, ho, ho, ho]
      rcases (show c = 0 ∨ c = 1 ∨ c = 2 ∨ c = 3 by omega) with e | e | e | e <;> subst e <;> simp <;> omega
    · obtain ⟨y1, y2, y3, y4, y5, y6⟩ := f6 k hk
      rw [(hag 23 0 0 (by omega)).1, (hag 23 1 0 (by omega)).2, (hag 23 2 0 (by omega)).1, (hag 23 3 0 (by omega)).1, hm 71 k (by omega), hm 72 k (by omega), hm 73 k (by omega), hm 74 k (by omega), hm 75 k (by omega)]
      exact ⟨y1, y2.mo hqq, y3, y4, y5, y6⟩
theorem pb_request (hI : Inv n t tb σ μ) (ht : t < 64) (x1 x2 x3 x4 : Int32) : ∃ cd v σ' b μ', f_X11_request σ tb x1 x2 x3 x4 = some (cd, v, σ') ∧ f_X12_request μ x1 x2 x3 x4 = some (b, μ') ∧ Inv n (t + 1) tb σ' μ' ∧ ((cd = 0 ∧ μ'.1 0 = 0 ∧ v = b) ∨ (cd = 1 ∧ μ'.1 0 = 1) ∨ (cd = 2 ∧ μ'.1 0 = 2) ∨ (cd = 3 ∧ μ'.1 0 = 3)) := by
  obtain ⟨hd, A, q, vw, p, u, a, rfl, hq, hR⟩ := hI
  have hs := hR.1
  have k11 := hs.k11
  have one : f_X12_request_18 μ x1 x2 x3 x4 = some (0, mS μ 0 1) := by
    rw [f_X12_request_18, f_X12_request_49, m_P, Option.bind_some, mS0, if_neg le10]
  have hI1 : Inv n (t + 1) (A 11 0 0) σ (mS μ 0 1) := ((hR.th 1).inv hq (hd.th 1)).up ht
  rcases c_cli (A 11 0 0) x1 with ⟨c, hc, rfl, e1, e2⟩ | ⟨e1, e2⟩
  · rcases c_key (A 11 0 0) x3 with ⟨k, hk, rfl, e3, e4⟩ | ⟨e3, e4⟩
    · have hkind : (∃ j, j < 3 ∧ x2 = nI j ∧ f_X12_in x2 3 = some 1) ∨ (f_X12_in x2 3 = some 0 ∧ ¬ x2 = 0 ∧ ¬ x2 = 1 ∧ ¬ x2 = 2) := by
        rcases m_in x2 (k := 3) (by decide) with ⟨j, h1, h2, h3, -⟩ | ⟨h1, h2⟩
        · exact Or.inl ⟨j, h1, h2, h3⟩
        · refine Or.inr ⟨h1, ?_⟩
          have z0 : (0 : Int32).toInt = 0 := by decide
          have z1 : (1 : Int32).toInt = 1 := by decide
          have z2 : (2 : Int32).toInt = 2 := by decide
          have z3 : (nI 3).toInt = 3 := by decide
          simp only [Int32.lt_iff_toInt_lt, Int32.le_iff_toInt_le, ← Int32.toInt_inj, z0, z1, z2, z3] at *
          omega
      obtain ⟨w1, w2⟩ := c_crw hs hc
      have k2 := hs.k2 hc
      obtain ⟨⟨q1, q2, q3, q4, -⟩, -⟩ := (hR.2.2.2.2.2.2.1 c hc).sp
      rcases hkind with ⟨j, hj, rfl, e5⟩ | ⟨e5, e6, e7, e8⟩
      · have hcl : f_X11_request σ (A 11 0 0) (nI c) (nI j) (nI k) x4 = f_X11_request_50 σ (A 11 0 0) (nI c) (nI j) (nI k) x4 := by
          rw [f_X11_request, x_gO k11, Option.bind_some, e2, Option.bind_some, if_neg n10, Option.bind_some, e4, Option.bind_some, if_neg n10]
          rcases (show j = 0 ∨ j = 1 ∨ j = 2 by omega) with rfl | rfl | rfl
          · rw [if_pos (show nI 0 = (0 : Int32) from rfl)]
          · rw [if_neg (by decide), if_pos (show nI 1 = (1 : Int32) from rfl)]
          · rw [if_neg (by decide), if_neg (by decide), if_pos (show nI 2 = (2 : Int32) from rfl)]
        by_cases c1 : μ.2 59 c = 1
        · refine ⟨3, 0, σ, 0, _, ?_, ?_, ((hR.th 3).inv hq (hd.th 3)).up ht, Or.inr (Or.inr (Or.inr ⟨rfl, mS0 μ 3⟩))⟩
          · rw [hcl, f_X11_request_50, w1, Option.bind_some, w2, Option.bind_some, x_gI k2, Option.bind_some, q3.1, if_pos c1]
          · rw [f_X12_request, e1, Option.bind_some, if_neg n10, e3, Option.bind_some, if_neg n10, e5, Option.bind_some, if_neg n10, mA_n 59 c hc, Option.bind_some, if_pos c1, f_X12_request_49, m_P, Option.bind_some, mS0, if_neg le30]
        · obtain ⟨m, hmq, hm57⟩ := q1.2
          have h5 : oI σ (A 7 0 0) 5 = nI q := hR.2.2.2.1.1
          have h3 : μ.1 3 = nI q := hR.2.2.2.1.2.1
          obtain ⟨f1, f2⟩ := ask_c (k := k) hs hc (by omega) (nI j) x4 h5 (q1.1.trans hm57)
          have hR1 := ask_R hR hc hk (by omega) (nI j) x4 hmq hm57 c1
          have k2' := hR1.1.k2 hc
          have k11' := hR1.1.k11
          obtain ⟨σ3, μ3, a3, y1, y2, y3, y4, y5, y6⟩ := tab_stamp hR1 (x := nI (q + 1)) ⟨q + 1, by omega, Nat.le_refl _, rfl⟩
          have hi := hs.inj
          have o20 : oI σ3 (A 2 c 0) 0 = nI (m + 1) := by
            rw [(y4 2 c 0 (by omega)).1]
            simp only [oK_sI, oK_sR, oK_sC, oZ_sI, oZ_sR, oZ_sC, xI_sI, oI_sR, xI_sC, oR_sI, xR_sR, oR_sC, Option.bind_some, if_true, if_false, Nat.reduceEqDiff, true_and, and_true, false_and, and_false, hi]
          have o57 : μ3.2 57 c = nI (m + 1) := by
            rw [y5 57 c (by omega)]
            simp only [m_P, mT_2, mT_1, mS_1, mS_2, Option.bind_some, Nat.reduceEqDiff, if_true, if_false, true_and, and_true, false_and, and_false]
          refine ⟨0, nI (m + 1), σ3, nI (m + 1), μ3, ?_, ?_, ⟨hd.rw fun jj i h1 h2 => ?_, A, q + 1, vw, p, u, a3, rfl, by omega, y3.tt (Nat.le_succ t) (by omega)⟩, Or.inl ⟨rfl, ?_, rfl⟩⟩
          · rw [hcl, f_X11_request_50, w1, Option.bind_some, w2, Option.bind_some, x_gI k2, Option.bind_some, q3.1, if_neg c1, x_gR k11, hs.r11_1, Option.bind_some]
            obtain ⟨v84, z1, z2⟩ := Option.bind_eq_some_iff.mp f1
            obtain ⟨v85, z3, z4⟩ := Option.bind_eq_some_iff.mp z2
            rw [z1, Option.bind_some, z3, Option.bind_some, z4, Option.bind_some]
            dsimp only
            rw [if_neg (nI_ne0 (by omega) (by omega)), x_gO (show oK (sI (sI (sI (sI (sI (sI σ (A 7 0 0) 5 (nI (q + 1))) (A 20 0 0) (q + 1) (nI c)) (A 20 1 0) (q + 1) (nI (m + 1))) (A 20 2 0) (q + 1) (nI j)) (A 20 3 0) (q + 1) (nI k)) (A 20 4 0) (q + 1) x4) (A 2 c 0) = 2 from k2), Option.bind_some, f2, Option.bind_some, x_gO k11', Option.bind_some, y1, Option.bind_some, x_gI (y3.1.k2 hc), Option.bind_some, o20]
          · have hz : q + 1 < 4097 := by omega
            rw [f_X12_request, e1, Option.bind_some, if_neg n10, e3, Option.bind_some, if_neg n10, e5, Option.bind_some, if_neg n10, mA_n 59 c hc, Option.bind_some, if_neg c1, f_X12_request_49, m_P, Option.bind_some, mS0, if_pos le00]
            have hb : (f_X12_stamp (mT (mT (mT (mT (mT (mT (mT (mT (mT (mS (mS μ 0 0) 3 (nI (q + 1))) 57 c (nI (m + 1))) 4 (q + 1) (nI c)) 5 (q + 1) (nI (m + 1))) 6 (q + 1) (nI j)) 7 (q + 1) (nI k)) 8 (q + 1) x4) 58 c (nI (q + 1))) 59 c 1) 64 c 0) (nI (q + 1))).bind (fun v166 => (m_A v166 57 (nI c)).bind fun v174 => some (v174, v166)) = some (nI (m + 1), μ3) := by
              rw [y2, Option.bind_some, mA_n 57 c hc, Option.bind_some, o57]
            rw [← hb]
            simp only [mA_n, mQ_n, m_P, mT_2, mT_1, mS_1, mS_2, mZ, Option.bind_some, if_true, if_false, true_and, and_true, false_and, and_false, Nat.reduceEqDiff, Nat.reduceLT, hc, hz, h3, hm57, nI_1]
          · rw [y5 jj i (by omega)]
            simp only [mT_2, mS_2]
            repeat rw [if_neg (by omega)]
          · rw [y6 0 (by decide) (by decide) (by decide) (by decide)]
            simp only [m_P, mT_2, mT_1, mS_1, mS_2, Option.bind_some, Nat.reduceEqDiff, if_true, if_false, true_and, and_true, false_and, and_false]
      · refine ⟨2, 0, σ, 0, _, ?_, ?_, ((hR.th 2).inv hq (hd.th 2)).up ht, Or.inr (Or.inr (Or.inl ⟨rfl, mS0 μ 2⟩))⟩
        · rw [f_X11_request, x_gO k11, Option.bind_some, e2, Option.bind_some, if_neg n10, Option.bind_some, e4, Option.bind_some, if_neg n10, if_neg e6, if_neg e7, if_neg e8]
        · rw [f_X12_request, e1, Option.bind_some, if_neg n10, e3, Option.bind_some, if_neg n10, e5, Option.bind_some, if_pos rfl, f_X12_request_49, m_P, Option.bind_some, mS0, if_neg le20]
    · refine ⟨1, 0, σ, 0, _, ?_, ?_, hI1, Or.inr (Or.inl ⟨rfl, mS0 μ 1⟩)⟩
      · rw [f_X11_request, x_gO k11, Option.bind_some, e2, Option.bind_some, if_neg n10, Option.bind_some, e4, Option.bind_some, if_pos rfl]
      · rw [f_X12_request, e1, Option.bind_some, if_neg n10, e3, Option.bind_some, if_pos rfl, one]
  · refine ⟨1, 0, σ, 0, _, ?_, ?_, hI1, Or.inr (Or.inl ⟨rfl, mS0 μ 1⟩)⟩
    · rw [f_X11_request, x_gO k11, Option.bind_some, e2, Option.bind_some, if_pos rfl]
    · rw [f_X12_request, e1, Option.bind_some, if_pos rfl, one]
end REQ
