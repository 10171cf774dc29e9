/-! gap commits -/
section GAP
variable {A : Ad} {n T q : Nat} {hb : Nat → Nat} {vw : Vw} {p u : Nat → Nat} {a r : Nat} {σ σ' : Hp} {μ μ' : Mu}
theorem m_app {l : Nat} (hr : r < 7) (hl : l < 100) (h38 : μ.2 38 r = nI l) (x : Int32) : f_X12_append μ (nI r) x = some (mT (mT μ 42 (100 * r + l) x) 38 r (nI (l + 1))) := by
  have hz : 100 * r + l < 700 := by omega
  simp only [f_X12_append, l100, pk_mul, nI_add, mA_n, mQ_n, m_P, mT_2, mT_1, mS_1, mS_2, mZ, Option.bind_some, if_true, if_false, true_and, and_true, false_and, and_false, Nat.reduceEqDiff, Nat.reduceLT, hr, h38, nI_1, hz]
/-- an entry becomes none -/
theorem lput (hR : RR A n T q hb vw p u a 0 σ μ) (hr : r < n) {l k : Nat} (hk : k < l) (hl100 : l ≤ 100) (h38 : μ.2 38 r = nI l) {x : Int32} (hx : Sm q x) : ∃ σ', f_X4_put σ (A 32 r 0) (nI (k + 1)) x = some σ' ∧ RR A n T q hb vw p u a 0 σ' (mT μ 42 (100 * r + k) x) ∧ Ag A σ σ' (fun s i => ¬ (i = r ∧ (s = 32 ∨ s = 33))) := by
  have hs := hR.1
  have h7 := hs.np
  have hi := hs.inj
  have hI := hs.1
  have hr7 : r < 7 := by omega
  obtain ⟨-, -, -, -, -, ⟨l', q1, q2, q3, q4⟩, -⟩ := hR.2.2.2.2.2.1 r hr
  have hl' : l' = l := (nI_eq (by omega) (by omega)).mp (q2.symm.trans h38)
  subst hl'
  have k32 := hs.k32 hr
  have k33 := hs.k33 hr
  have z33 := hs.z33 hr
  have r32 := hs.r32_0 hr
  have n32 : oK σ (A 32 r 0) ≠ 9 := by rw [k32]; decide
  have n33 : oK σ (A 33 r 0) ≠ 9 := by rw [k33]; decide
  have e1 : ¬ nI (k + 1) < (1 : Int32) := by rw [l1, nI_ltI (by omega) (by omega)]; omega
  have e2 : ¬ (100 : Int32) < nI (k + 1) := by rw [l100, nI_ltI (by omega) (by omega)]; omega
  have e3 : nI (k + 1) ≤ nI (l' + 1) := (nI_leI (by omega) (by omega)).mpr (by omega)
  have e4 : nI (k + 1) - (1 : Int32) = nI k := nI_pred k
  have e5 : ¬ nI l' < nI (k + 1) := by rw [nI_ltI (by omega) (by omega)]; omega
  have hk100 : k < 100 := by omega
  have hc : Ag A σ (sI (sI σ (A 33 r 0) k x) (A 32 r 0) 1 (nI l')) (fun s i => ¬ (i = r ∧ (s = 32 ∨ s = 33))) := ((Ag.sI hI).tr (Ag.sI hI)).wk (fun s i h => by omega)
  refine ⟨_, ?_, hR.log hr ((hs.sI rfl).sI rfl) ((hR.2.1.sI n33).sI n32) hc (AgM.mT.wk fun j i h => by omega) rfl ?_, hc⟩
  · rw [f_X4_put, if_neg e1, if_neg e2]
    simp only [x_gI, x_gR, x_gO, x_pI, x_pR, x_aI, x_aR, x_qI, x_qR, x_aL, oK_sI, oK_sR, oK_sC, oZ_sI, oZ_sR, oZ_sC, xI_sI, oI_sR, xI_sC, oR_sI, xR_sR, oR_sC, Option.bind_some, if_true, if_false, Nat.reduceEqDiff, true_and, and_true, false_and, and_false, k32, k33, z33, r32, hi, q3, nI_1, e3, e4, hk100, f_J9_max_7cf53, e5, Nat.reduceLT]
  · refine ⟨l', q1, ?_, ?_, fun j hj => ?_⟩
    · simp only [m_P, mT_2, mT_1, mS_1, mS_2, Option.bind_some, Nat.reduceEqDiff, if_true, if_false, true_and, and_true, false_and, and_false, q2]
    · simp only [oK_sI, oK_sR, oK_sC, oZ_sI, oZ_sR, oZ_sC, xI_sI, oI_sR, xI_sC, oR_sI, xR_sR, oR_sC, Option.bind_some, if_true, if_false, Nat.reduceEqDiff, true_and, and_true, false_and, and_false, hi]
    · rw [rwM_mT hk100 (by omega)]
      simp only [oK_sI, oK_sR, oK_sC, oZ_sI, oZ_sR, oZ_sC, xI_sI, oI_sR, xI_sC, oR_sI, xR_sR, oR_sC, Option.bind_some, if_true, if_false, Nat.reduceEqDiff, true_and, and_true, false_and, and_false, hi]
      by_cases hk2 : j = k
      · rw [if_pos hk2, if_pos hk2]
        exact ⟨rfl, hx⟩
      · rw [if_neg hk2, if_neg hk2]
        exact q4 j hj
theorem gc72 (hs : Rs A n σ) (hr : r < n) {σp : Hp} {μp : Mu} {t : Int32} (hput : f_X4_put σ (A 32 r 0) t 0 = some σp) (hR : RR A n T q h8 vw p u a 0 σp μp) (y : Int32) : St A n T q vw p u σp μp (f_X6_receiveGapCommit_72 σ (A 6 r 0) t y) (f_X12_gapCommit_113 μp (nI r) t y) := by
  have h7 := hs.np
  have hr7 : r < 7 := by omega
  have k6p := hR.1.k6 hr
  obtain ⟨L, v, g1, g2, g3, g4, g5, g6, g7, g8, g9⟩ := hR.ld hr
  obtain ⟨v', w, a', f1, f2, f3, f4⟩ := sd1 (t := t) (tc := t) (ab := 0) hR hr (x := 4) (kk := 4) rfl (by omega) g9 (fun _ => rfl) (by omega)
  have k6' := f3.1.k6 hr
  rw [f_X6_receiveGapCommit_72, x_gR (hs.k6 hr), hs.r6_0 hr, f_X12_gapCommit_113, g8, mA_n 33 r hr7, mA_n 34 r hr7]
  simp only [Option.bind_some]
  rw [x_gO (hs.k32 hr), Option.bind_some, hput, Option.bind_some, x_gR k6p, g3, Option.bind_some, x_gI k6p, Option.bind_some, hR.1.i6_10 hr, x_gO g4.1, Option.bind_some, g7, Option.bind_some, x_gO k6p, Option.bind_some, f1, f2]
  simp only [Option.bind_some]
  by_cases hy : y = 0
  · rw [if_pos hy, if_pos hy]
    exact ⟨_, _, a', vw, rfl, rfl, Vle.rf, f3, f4.kp⟩
  · rw [if_neg hy, if_neg hy, x_gO k6', Option.bind_some]
    exact (tk f3 hr).ret.tr f4.kp
theorem rcv_gapCommit (hR : RR A n T q h8 vw p u a 0 σ μ) (hr : r < n) {t x2 : Int32} (ht : Rid 100 t) : St A n T q vw p u σ μ (f_X6_receiveGapCommit σ (A 6 r 0) t) (f_X12_gapCommit μ (nI r) x2 t) := by
  have hs := hR.1
  have h7 := hs.np
  have hi := hs.inj
  have hr7 : r < 7 := by omega
  have k6 := hs.k6 hr
  have k3 := hs.k3 hr
  have k32 := hs.k32 hr
  have r60 := hs.r6_0 hr
  obtain ⟨L, v, g1, g2, g3, g4, g5, g6, -⟩ := hR.ld hr
  obtain ⟨⟨⟨a1, a2⟩, ⟨a3, a4⟩, -⟩, -⟩ := (hR.2.2.2.2.2.1 r hr).sp
  obtain ⟨l, q1, q2, q3, hcase⟩ := lhas hR hr t
  obtain ⟨j, j1, j2, rfl⟩ := ht
  have hfull : f_X4_isFull σ (A 32 r 0) = some (if l < 100 then 0 else 1) := by
    simp only [f_X4_isFull, x_gI, x_gR, x_gO, x_pI, x_pR, x_aI, x_aR, x_qI, x_qR, x_aL, oK_sI, oK_sR, oK_sC, oZ_sI, oZ_sR, oZ_sC, xI_sI, oI_sR, xI_sC, oR_sI, xR_sR, oR_sC, Option.bind_some, if_true, if_false, Nat.reduceEqDiff, true_and, and_true, false_and, and_false, k32, q3]
    by_cases hl : l < 100
    · rw [if_pos hl, if_pos (by rw [l100, nI_ltI (by omega) (by omega)]; exact hl)]
    · rw [if_neg hl, if_neg (by rw [l100, nI_ltI (by omega) (by omega)]; exact hl)]
  -- which of the three it is
  have hy : f_X6_receiveGapCommit σ (A 6 r 0) (nI j) = f_X6_receiveGapCommit_28 σ (A 6 r 0) (nI j) (if j = l + 1 then 1 else 0) := by
    rw [f_X6_receiveGapCommit, x_gR k6, r60, Option.bind_some, x_gI k32, Option.bind_some, q3, nI_1]
    by_cases c : j = l + 1
    · rw [if_pos (by rw [c]), Option.bind_some, x_gO k32, Option.bind_some, hfull, Option.bind_some, if_pos (by omega : l < 100), if_pos rfl, if_pos c]
    · rw [if_neg (fun e => c ((nI_eq (by omega) (by omega)).mp e)), f_X6_receiveGapCommit_27, if_neg c]
  rw [hy, f_X6_receiveGapCommit_28, x_gO k6, f_X12_gapCommit, g5, g6]
  simp only [Option.bind_some]
  by_cases c0 : b1 (L % n = r) = 0
  · rw [if_pos c0, if_pos c0, x_gI k6, Option.bind_some, a3, mA_n 35 r hr7, Option.bind_some]
    by_cases c1 : μ.2 35 r = 0
    · rw [if_pos c1, if_pos c1, mA_n 38 r hr7, Option.bind_some, q2, nI_1]
      by_cases c2 : j = l + 1
      · -- the next number
        have hl : l < 100 := by omega
        subst c2
        have e1 : ¬ nI (l + 1) < nI (l + 1) := fun h => Int32.lt_irrefl h
        have e100 : ¬ nI l = (100 : Int32) := fun e => by rw [l100, nI_eq (by omega) (by omega)] at e; omega
        rw [if_pos rfl, if_neg (by decide), if_neg e1]
        simp only [Option.bind_some, nI_1]
        rw [if_true, if_neg e100, f_X12_gapCommit_53, mA_n 38 r hr7, Option.bind_some, q2, nI_1, if_pos rfl, f_X12_gapCommit_70, if_neg (by decide), m_app hr7 hl q2, Option.bind_some, f_X6_receiveGapCommit_59, if_neg (by decide), x_gR k6, hs.r6_1 hr, Option.bind_some, x_gO k3, Option.bind_some]
        have hsl : nI (l + 1) = μ.2 39 r + (nI (l + 1) - μ.2 39 r) := (i_sub _ _).symm
        obtain ⟨σa, μa, c1', c2', c3', c4', c5', c6', c7'⟩ := lap hR hr hl q2 (Sm.z q)
        obtain rfl : μa = mT (mT μ 42 (100 * r + l) 0) 38 r (nI (l + 1)) := Option.some.inj (c2'.symm.trans (m_app hr7 hl q2 0))
        have e39 : (mT (mT μ 42 (100 * r + l) 0) 38 r (nI (l + 1))).2 39 r = μ.2 39 r := by simp only [m_P, mT_2, mT_1, mS_1, mS_2, Option.bind_some, Nat.reduceEqDiff, if_true, if_false, true_and, and_true, false_and, and_false]
        have hsla : nI (l + 1) = (mT (mT μ 42 (100 * r + l) 0) 38 r (nI (l + 1))).2 39 r + (nI (l + 1) - μ.2 39 r) := by rw [e39]; exact hsl
        rw [mA_n 39 r hr7, Option.bind_some, e39]
        obtain ⟨-, -, ⟨h, b1', b2, b3, b4, b5⟩, -⟩ := (hR.2.2.2.2.2.1 r hr).sp
        have b1'' : h ≤ 8 := b1'
        have ra44 : ∀ i, i < 12 → rwM 12 (mT (mT μ 42 (100 * r + l) 0) 38 r (nI (l + 1))) 44 r i = rwM 12 μ 44 r i := fun i hi' => by
          rw [rwM_at hi', rwM_at hi']
          simp only [m_P, mT_2, mT_1, mS_1, mS_2, Option.bind_some, Nat.reduceEqDiff, if_true, if_false, true_and, and_true, false_and, and_false]
        have ra45 : ∀ i, i < 12 → rwM 12 (mT (mT μ 42 (100 * r + l) 0) 38 r (nI (l + 1))) 45 r i = rwM 12 μ 45 r i := fun i hi' => by
          rw [rwM_at hi', rwM_at hi']
          simp only [m_P, mT_2, mT_1, mS_1, mS_2, Option.bind_some, Nat.reduceEqDiff, if_true, if_false, true_and, and_true, false_and, and_false]
        have ra43 : (mT (mT μ 42 (100 * r + l) 0) 38 r (nI (l + 1))).2 43 r = μ.2 43 r := by simp only [m_P, mT_2, mT_1, mS_1, mS_2, Option.bind_some, Nat.reduceEqDiff, if_true, if_false, true_and, and_true, false_and, and_false]
        obtain ⟨y, h2, w1, w2, w3, w4, w5⟩ := hld hR hr (by decide : (8 : Nat) ≤ 9) hsl
        have w1' : h2 ≤ 8 := w1
        obtain rfl : h2 = h := (nI_eq (by omega) (by omega)).mp (w2.symm.trans b2)
        rcases hrm hR hr (by decide : (8 : Nat) ≤ 9) hsl with ⟨d1, d2, d3, d4⟩ | ⟨jj, id, h', σ1, μ1, d1, d2, d3, d4, d5, d6, d7, d8, d9, d10, d11, d12, d13, d14, d15, d16, d17⟩
        · -- not held
          have hno : ∀ i, i < h2 → rwM 12 μ 44 r i ≠ nI (l + 1) - μ.2 39 r := by
            rcases w5 with ⟨i, hi1, hi2, -⟩ | ⟨-, hno⟩
            · rw [hi2, d3] at w4
              exact absurd (Option.some.inj w4).symm (nI_m1 (by omega))
            · exact hno
          rcases hrm c3' hr (by decide : (8 : Nat) ≤ 9) hsla with ⟨t1, t2, t3, t4⟩ | ⟨ja, ida, ha, σb, μb, t1, t2, t3, t4, t5, t6, t7, t8, t9, t10, t11, t12, t13, t14, -⟩
          · rw [t2, Option.bind_some, d1, Option.bind_some]
            exact (gc72 hs hr c1' c3' 1).tr (Kp.mk2 (c5'.wk fun s i h => by omega) (c6'.wk fun j i h => by omega) (fun k _ _ _ => by rw [c7']) (Gx.of38 (r := r) (l := l) (fun i => c6' 35 i (by omega)) (fun i h => c6' 38 i (by omega)) (by simp only [m_P, mT_2, mT_1, mS_1, mS_2, Option.bind_some, Nat.reduceEqDiff, if_true, if_false, true_and, and_true, false_and, and_false]) (by omega)))
          · exfalso
            have t1' : ha ≤ 8 := t1
            obtain rfl : ha = h2 := (nI_eq (by omega) (by omega)).mp (t3.symm.trans (ra43.trans b2))
            rw [ra44 ja (by omega)] at t14
            exact hno ja t2 t14
        · have d1' : h' ≤ 8 := d1
          obtain rfl : h' = h2 := (nI_eq (by omega) (by omega)).mp (d3.symm.trans b2)
          have hR1 : RR A n T q h8 vw p u a 0 σ1 μ1 := d10.hbm (fun i => by
            show (if i = r then h8 r - 1 else h8 i) ≤ 8
            split
            · exact Nat.sub_le _ _
            · exact Nat.le_refl _)
          have h381 : μ1.2 38 r = nI l := (d12 38 r (by omega)).trans q2
          obtain ⟨σ2, μ2, f1, f2, f3, f4, f5, f6, f7⟩ := lap hR1 hr hl h381 (Sm.z q)
          obtain rfl : μ2 = mT (mT μ1 42 (100 * r + l) 0) 38 r (nI (l + 1)) := Option.some.inj (f2.symm.trans (m_app hr7 hl h381 0))
          rcases hrm c3' hr (by decide : (8 : Nat) ≤ 9) hsla with ⟨t1, t2, t3, t4⟩ | ⟨ja, ida, ha, σb, μb, t1, t2, t3, t4, t5, t6, t7, t8, t9, t10, t11, t12, t13, t14, t15, t16, t17⟩
          · exfalso
            obtain ⟨ya, h3, v1, v2, v3, v4, v5⟩ := hld c3' hr (by decide : (8 : Nat) ≤ 9) hsla
            have v1' : h3 ≤ 8 := v1
            obtain rfl : h3 = h' := (nI_eq (by omega) (by omega)).mp (v2.symm.trans (ra43.trans b2))
            rcases v5 with ⟨i, hi1, hi2, -⟩ | ⟨-, hno⟩
            · rw [hi2, t3] at v4
              exact nI_m1 (by omega) (Option.some.inj v4).symm
            · exact hno jj d2 (by rw [ra44 jj (by omega)]; exact d14)
          · have t1' : ha ≤ 8 := t1
            obtain rfl : ha = h' := (nI_eq (by omega) (by omega)).mp (t3.symm.trans (ra43.trans b2))
            obtain rfl : ja = jj := by
              rw [ra44 ja (by omega), ← d14] at t14
              exact b5 _ _ t2 d2 t14
            have hRb : RR A n T q h8 vw p u a 0 σ2 μb := by
              refine f3.hld hr f3.1 f3.2.1 Ag.rf (fun j i hji => ?_) (t13.trans (by
                show μ.1 = μ1.1
                rw [d13])) (fun _ _ => rfl) ?_
              · rw [t12 j i hji]
                simp only [mT_2]
                rw [d12 j i hji]
              · obtain ⟨-, -, ⟨h4, v1, v2, v3, v4, v5⟩, -⟩ := (f3.2.2.2.2.2.1 r hr).sp
                have v1' : h4 ≤ 8 := v1
                have e43 : (mT (mT μ1 42 (100 * r + l) 0) 38 r (nI (l + 1))).2 43 r = nI (ha - 1) := by
                  simp only [m_P, mT_2, mT_1, mS_1, mS_2, Option.bind_some, Nat.reduceEqDiff, if_true, if_false, true_and, and_true, false_and, and_false]
                  exact d16
                obtain rfl : h4 = ha - 1 := (nI_eq (by omega) (by omega)).mp (v2.symm.trans e43)
                have rr : ∀ i, i < 12 → rwM 12 μb 44 r i = rwM 12 (mT (mT μ1 42 (100 * r + l) 0) 38 r (nI (l + 1))) 44 r i ∧ rwM 12 μb 45 r i = rwM 12 (mT (mT μ1 42 (100 * r + l) 0) 38 r (nI (l + 1))) 45 r i := fun i hi' => by
                  have x44 : rwM 12 (mT (mT μ1 42 (100 * r + l) 0) 38 r (nI (l + 1))) 44 r i = rwM 12 μ1 44 r i := by
                    rw [rwM_at hi', rwM_at hi']
                    simp only [m_P, mT_2, mT_1, mS_1, mS_2, Option.bind_some, Nat.reduceEqDiff, if_true, if_false, true_and, and_true, false_and, and_false]
                  have x45 : rwM 12 (mT (mT μ1 42 (100 * r + l) 0) 38 r (nI (l + 1))) 45 r i = rwM 12 μ1 45 r i := by
                    rw [rwM_at hi', rwM_at hi']
                    simp only [m_P, mT_2, mT_1, mS_1, mS_2, Option.bind_some, Nat.reduceEqDiff, if_true, if_false, true_and, and_true, false_and, and_false]
                  rw [x44, x45, (t17 i hi').1, (t17 i hi').2, (d17 i hi').1, (d17 i hi').2, ra44 _ (by omega), ra44 _ hi', ra45 _ (by omega), ra45 _ hi']
                  exact ⟨rfl, rfl⟩
                refine ⟨ha - 1, show ha - 1 ≤ 8 by omega, t16, v3, fun i hi' => ?_, fun i i' h1 h2 h3' => ?_⟩
                · rw [(rr i (by omega)).1, (rr i (by omega)).2, t12 39 r (by omega), e39]
                  have := v4 i hi'
                  rw [show (mT (mT μ1 42 (100 * r + l) 0) 38 r (nI (l + 1))).2 39 r = μ1.2 39 r by simp only [m_P, mT_2, mT_1, mS_1, mS_2, Option.bind_some, Nat.reduceEqDiff, if_true, if_false, true_and, and_true, false_and, and_false], d12 39 r (by omega)] at this
                  exact this
                · rw [(rr i (by omega)).1, (rr i' (by omega)).1] at h3'
                  exact v5 i i' h1 h2 h3'
            rw [t9, Option.bind_some, d8, Option.bind_some]
            refine (gc72 hR1.1 hr f1 hRb 1).tr (Kp.mk2 ((d11.tr f5).wk fun s i h => by omega) ((c6'.tr t12).wk fun j i h => by omega) (fun k _ _ _ => ?_) (Gx.of38 (r := r) (l := l) (fun i => (t12 35 i (by omega)).trans (c6' 35 i (by omega))) (fun i h => (t12 38 i (by omega)).trans (c6' 38 i (by omega))) ((t12 38 r (by omega)).trans (by simp only [m_P, mT_2, mT_1, mS_1, mS_2, Option.bind_some, Nat.reduceEqDiff, if_true, if_false, true_and, and_true, false_and, and_false])) (by omega)))
            rw [t13]
            rfl
      · rw [if_neg c2, if_pos rfl, x_gR k6, r60, Option.bind_some, x_gO k32, Option.bind_some]
        have c2' : ¬ nI j = nI (l + 1) := fun e => c2 ((nI_eq (by omega) (by omega)).mp e)
        rcases hcase with ⟨k, hk, e1, e2, e3, e4, e5, e6, e7⟩ | ⟨e1, e2, e3⟩
        · obtain rfl : j = k + 1 := (nI_eq (by omega) (by omega)).mp e1
          have e8 : ¬ nI (l + 1) < nI (k + 1) := by rw [nI_ltI (by omega) (by omega)]; omega
          have e9 : ¬ nI (k + 1) = nI l + 1 := by rw [nI_1]; exact c2'
          obtain ⟨σp, f1, f2, f3⟩ := lput hR hr hk q1 q2 (Sm.z q)
          have hix : ((100 : Int32) * nI r + nI (k + 1)) - 1 = nI (100 * r + k) := by
            rw [l100, pk_mul, nI_add, show 100 * r + (k + 1) = (100 * r + k) + 1 by omega, nI_pred]
          rw [e2, Option.bind_some, if_neg (by decide), if_neg e8, Option.bind_some, if_neg e9, f_X12_gapCommit_53, mA_n 38 r hr7, Option.bind_some, q2, if_neg e9, f_X12_gapCommit_70, if_pos rfl, hix, mQ_n 42 _ _ (by simp only [mZ]; omega), Option.bind_some, f_X6_receiveGapCommit_59, if_pos rfl]
          exact (gc72 hs hr f1 f2 0).tr (Kp.mk' (f3.wk fun s i h => by omega) (AgM.mT.wk fun j i h => by omega) (fun _ _ _ _ => rfl))
        · have e8 : nI (l + 1) < nI j := by
            rcases e3 with e3 | ⟨-, e3⟩
            · rw [l1, nI_ltI (by omega) (by omega)] at e3; omega
            · rw [nI_leI (by omega) (by omega)] at e3
              rw [nI_ltI (by omega) (by omega)]
              omega
          rw [e1, Option.bind_some, if_pos rfl, if_pos e8]
          exact St.rf hR
    · rw [if_neg c1, if_neg c1]
      exact St.rf hR
  · rw [if_neg c0, if_neg c0]
    exact St.rf hR
end GAP
