/-! one scalar written on both sides -/
section SET
variable {A : Ad} {n T q : Nat} {hb : Nat → Nat} {vw : Vw} {p u : Nat → Nat} {a d r : Nat} {σ : Hp} {μ : Mu}
theorem Kp.one (hI : Inj A) {s i j k j' : Nat} {x y : Int32} (h1 : (32 ≤ s ∧ s ≠ 41) ∨ s = 3 ∨ s = 6 ∨ s = 8) (h2 : 33 ≤ j' ∧ j' ≤ 54 ∧ j' ≠ 35 ∧ j' ≠ 38) : Kp A n p σ (sI σ (A s i j) k x) μ (mT μ j' r y) := Kp.mk' ((Ag.sI hI).wk fun s i h => by omega) (AgM.mT.wk fun j i h => by omega) (fun _ _ _ _ => rfl)
theorem Kp.s35 (hI : Inj A) {i : Nat} {x y : Int32} (h : y = 1 → ¬ μ.2 38 r = 0) : Kp A n p σ (sI σ (A 6 i 0) 3 x) μ (mT μ 35 r y) := Kp.mk2 ((Ag.sI hI).wk fun s i h => by omega) (AgM.mT.wk fun j i h => by omega) (fun _ _ _ _ => rfl) (fun r' _ a1 a2 => by
  rw [mT_2] at a2 ⊢
  rw [if_neg (by omega)]
  by_cases e : r' = r
  · rw [if_pos ⟨rfl, e⟩] at a2
    rw [e]
    exact h a2
  · rw [if_neg (fun h => e h.2)] at a2
    exact a1 a2)
theorem set6 (hR : RR A n T q hb vw p u a d σ μ) (hr : r < n) {k j : Nat} {x : Int32} (h : (k = 2 ∧ j = 32 ∧ (x = 0 ∨ x = 1)) ∨ (k = 3 ∧ j = 35 ∧ Sm 2 x) ∨ (k = 7 ∧ j = 40) ∨ (k = 8 ∧ j = 41)) : RR A n T q hb vw p u a d (sI σ (A 6 r 0) k x) (mT μ j r x) := by
  have hs := hR.1
  have hi := hs.inj
  have n6 : oK σ (A 6 r 0) ≠ 9 := by rw [hs.k6 hr]; decide
  have hsi : siF n 6 r k = none := by rcases h with ⟨h, -⟩ | ⟨h, -⟩ | ⟨h, -⟩ | ⟨h, -⟩ <;> subst h <;> rfl
  refine hR.scl hr (hs.sI hsi) (hR.2.1.sI n6) ((Ag.sI hs.1).wk fun s i h => by omega) (AgM.mT.wk fun j i h => by omega) rfl ?_
  obtain ⟨⟨a1, a2⟩, ⟨a3, a4⟩, a5, a6, a7, a8, a9⟩ := (hR.2.2.2.2.2.1 r hr).sp.1
  unfold RrS
  rcases h with ⟨h1, h2, h3⟩ | ⟨h1, h2, h3⟩ | ⟨h1, h2⟩ | ⟨h1, h2⟩
  all_goals subst h1 h2; simp only [oK_sI, oK_sR, oK_sC, oZ_sI, oZ_sR, oZ_sC, xI_sI, oI_sR, xI_sC, oR_sI, xR_sR, oR_sC, Option.bind_some, if_true, if_false, Nat.reduceEqDiff, true_and, and_true, false_and, and_false, m_P, mT_2, mT_1, mS_1, mS_2, Option.bind_some, Nat.reduceEqDiff, if_true, if_false, true_and, and_true, false_and, and_false, hi, a1, a3, a7, a8, a9]
  · exact ⟨h3, a4, a5, a6⟩
  · exact ⟨a2, h3, a5, a6⟩
  · exact ⟨a2, a4, a5, a6⟩
  · exact ⟨a2, a4, a5, a6⟩
theorem set8 (hR : RR A n T q hb vw p u a d σ μ) (hr : r < n) {k j : Nat} {x : Int32} (h : (k = 0 ∧ j = 46 ∧ B7 x) ∨ (k = 1 ∧ j = 47 ∧ B7 x) ∨ (k = 2 ∧ j = 48)) : RR A n T q hb vw p u a d (sI σ (A 8 r 0) k x) (mT μ j r x) := by
  have hs := hR.1
  have hi := hs.inj
  have n8 : oK σ (A 8 r 0) ≠ 9 := by rw [hs.k8 hr]; decide
  refine hR.tal hr (hs.sI rfl) (hR.2.1.sI n8) ((Ag.sI hs.1).wk fun s i h => by omega) (AgM.mT.wk fun j i h => by omega) rfl ?_
  obtain ⟨t1, t2, t3, t4, t5, t6, b, t7, t8, t9, t10⟩ := (hR.2.2.2.2.2.1 r hr).sp.2.2.2
  have hrw : ∀ j' w o, 50 ≤ j' → rwM w (mT μ j r x) j' o = rwM w μ j' o := fun j' w o hj => rwM_ag fun k hk => by
    rw [mT_2, if_neg (by omega)]
  unfold RrT tallyR
  simp only [hrw _ _ _ (show 50 ≤ 50 by decide), hrw _ _ _ (show 50 ≤ 51 by decide), hrw _ _ _ (show 50 ≤ 52 by decide), hrw _ _ _ (show 50 ≤ 53 by decide), hrw _ _ _ (show 50 ≤ 54 by decide)]
  have t10' : ∀ o, o < n → b.testBit o = true → VwR vw (oR (sI σ (A 8 r 0) k x) (A 36 r 0) o) (rwM 7 μ 50 r o) (rwM 7 μ 51 r o) ∧ Sm T (rwM 7 μ 50 r o) ∧ oI (sI σ (A 8 r 0) k x) (A 37 r 0) o = rwM 7 μ 52 r o ∧ logR q (oI (sI σ (A 8 r 0) k x) (A 39 r o)) (oI (sI σ (A 8 r 0) k x) (A 40 r o)) (rwM 7 μ 53 r o) (rwM 100 μ 54 (7 * r + o)) := fun o ho hbo => by
    have e39 : oI (sI σ (A 8 r 0) k x) (A 39 r o) = oI σ (A 39 r o) := by funext z; simp only [oK_sI, oK_sR, oK_sC, oZ_sI, oZ_sR, oZ_sC, xI_sI, oI_sR, xI_sC, oR_sI, xR_sR, oR_sC, Option.bind_some, if_true, if_false, Nat.reduceEqDiff, true_and, and_true, false_and, and_false, hi]
    have e40 : oI (sI σ (A 8 r 0) k x) (A 40 r o) = oI σ (A 40 r o) := by funext z; simp only [oK_sI, oK_sR, oK_sC, oZ_sI, oZ_sR, oZ_sC, xI_sI, oI_sR, xI_sC, oR_sI, xR_sR, oR_sC, Option.bind_some, if_true, if_false, Nat.reduceEqDiff, true_and, and_true, false_and, and_false, hi]
    rw [e39, e40]
    simp only [oK_sI, oK_sR, oK_sC, oZ_sI, oZ_sR, oZ_sC, xI_sI, oI_sR, xI_sC, oR_sI, xR_sR, oR_sC, Option.bind_some, if_true, if_false, Nat.reduceEqDiff, true_and, and_true, false_and, and_false, hi]
    exact t10 o ho hbo
  rcases h with ⟨h1, h2, h3⟩ | ⟨h1, h2, h3⟩ | ⟨h1, h2⟩
  all_goals subst h1 h2; refine ⟨?_, ?_, ?_, ?_, ?_, ?_, b, t7, ?_, t9, t10'⟩
  all_goals simp only [oK_sI, oK_sR, oK_sC, oZ_sI, oZ_sR, oZ_sC, xI_sI, oI_sR, xI_sC, oR_sI, xR_sR, oR_sC, Option.bind_some, if_true, if_false, Nat.reduceEqDiff, true_and, and_true, false_and, and_false, m_P, mT_2, mT_1, mS_1, mS_2, Option.bind_some, Nat.reduceEqDiff, if_true, if_false, true_and, and_true, false_and, and_false, hi]
  all_goals assumption
end SET
/-! what is held is taken -/
section TAK
variable {A : Ad} {n T q : Nat} {hb : Nat → Nat} {vw : Vw} {p u : Nat → Nat} {a d r : Nat} {σ : Hp} {μ : Mu}
theorem Sm.z (b : Nat) : Sm b 0 := ⟨0, Nat.zero_le _, rfl⟩
theorem Sm.o {b : Nat} (h : 1 ≤ b) : Sm b 1 := ⟨1, h, rfl⟩
theorem Rid.sm {q : Nat} {x : Int32} (h : Rid q x) : Sm q x := by
  obtain ⟨k, h1, h2, h3⟩ := h
  exact ⟨k, h2, h3⟩
/-- the end of a taking -/
theorem tk57 (hR : RR A n T q h8 vw p u a 0 σ μ) (hr : r < n) : St A n T q vw p u σ μ (f_X6_takeHeld_57 σ (A 6 r 0)) (f_X12_take_89 μ (nI r)) := by
  have hs := hR.1
  have h7 := hs.np
  have hi := hs.inj
  have hI := hs.1
  have hr7 : r < 7 := by omega
  have k6 := hs.k6 hr
  have k3 := hs.k3 hr
  have k32 := hs.k32 hr
  have r60 := hs.r6_0 hr
  obtain ⟨-, ⟨l, q1, q2, q3, q4⟩, ⟨h, g1, g2, g3, -⟩, -⟩ := (hR.2.2.2.2.2.1 r hr).sp
  obtain ⟨L, v, b1', b2, b3, b4, b5, b6, b7, b8, b9⟩ := hR.ld hr
  have hfull : f_X4_isFull σ (A 32 r 0) = some (if l < 100 then 0 else 1) := by
    simp only [f_X4_isFull, x_gI, x_gR, x_gO, x_pI, x_pR, x_aI, x_aR, x_qI, x_qR, x_aL, oK_sI, oK_sR, oK_sC, oZ_sI, oZ_sR, oZ_sC, xI_sI, oI_sR, xI_sC, oR_sI, xR_sR, oR_sC, Option.bind_some, if_true, if_false, Nat.reduceEqDiff, true_and, and_true, false_and, and_false, k32, q3]
    by_cases hl : l < 100
    · rw [if_pos hl, if_pos (by rw [l100, nI_ltI (by omega) (by omega)]; exact hl)]
    · rw [if_neg hl, if_neg (by rw [l100, nI_ltI (by omega) (by omega)]; exact hl)]
  rw [f_X6_takeHeld_57, x_gR k6, hs.r6_1 hr, Option.bind_some, x_gI k3, Option.bind_some, g3, f_X12_take_89, mA_n 43 r hr7, Option.bind_some, g2]
  by_cases h0 : nI h = 0
  · rw [if_pos h0, if_pos h0]
    exact St.rf hR
  · rw [if_neg h0, if_neg h0, x_gR k6, r60, Option.bind_some, x_gO k32, Option.bind_some, hfull, mA_n 38 r hr7, q2]
    simp only [Option.bind_some]
    by_cases hl : l < 100
    · rw [if_pos hl, if_pos rfl, if_neg (fun e => by rw [l100, nI_eq (by omega) (by omega)] at e; omega), x_gO k6, Option.bind_some, b5, Option.bind_some, b6, Option.bind_some]
      by_cases hlr : L % n = r
      · rw [if_neg (by rw [b1_0]; exact fun h => h hlr), if_neg (by rw [b1_0]; exact fun h => h hlr)]
        obtain ⟨σ1, μ1, c1, c2, c3, c4, c5, c6, c7⟩ := lap hR hr hl q2 (Sm.z q)
        have d1 := set6 c3 hr (k := 3) (j := 35) (x := 1) (Or.inr (Or.inl ⟨rfl, rfl, Sm.o (by decide)⟩))
        have d2 := set8 d1 hr (k := 0) (j := 46) (x := 0) (Or.inl ⟨rfl, rfl, 0, by decide, rfl⟩)
        have k6' := c3.1.k6 hr
        have k8' := c3.1.k8 hr
        have k32' := c3.1.k32 hr
        have e38 : (mT (mT μ1 35 r 1) 46 r 0).2 38 r = nI (l + 1) := by simp only [m_P, mT_2, mT_1, mS_1, mS_2, Option.bind_some, Nat.reduceEqDiff, if_true, if_false, true_and, and_true, false_and, and_false, c4]
        obtain ⟨-, ⟨l2, w1, w2, w3, w4⟩, -, -⟩ := (d2.2.2.2.2.2.1 r hr).sp
        obtain ⟨σ2, μ2, a2, f1, f2, f3, f4⟩ := sd_all d2 hr (x := 3) (kk := 3) rfl (by omega) (t := nI (l + 1)) (fun _ => ⟨l + 1, by omega, by omega, rfl⟩)
        have e1 : nI l + 1 = nI (l + 1) := nI_1 l
        have e32 : oI σ1 (A 32 r 0) 1 = nI (l + 1) := by
          have := w3.trans (w2.symm.trans e38)
          simp only [oK_sI, oK_sR, oK_sC, oZ_sI, oZ_sR, oZ_sC, xI_sI, oI_sR, xI_sC, oR_sI, xR_sR, oR_sC, Option.bind_some, if_true, if_false, Nat.reduceEqDiff, true_and, and_true, false_and, and_false, hi] at this
          exact this
        simp only [x_gI, x_gR, x_gO, x_pI, x_pR, x_aI, x_aR, x_qI, x_qR, x_aL, oK_sI, oK_sR, oK_sC, oZ_sI, oZ_sR, oZ_sC, xI_sI, oI_sR, xI_sC, oR_sI, xR_sR, oR_sC, Option.bind_some, if_true, if_false, Nat.reduceEqDiff, true_and, and_true, false_and, and_false, mA_n, mQ_n, m_P, mT_2, mT_1, mS_1, mS_2, mZ, Option.bind_some, if_true, if_false, true_and, and_true, false_and, and_false, Nat.reduceEqDiff, Nat.reduceLT, k6, r60, k32, q3, e1, c1, c2, k6', k8', k32', c3.1.r6_14 hr, c3.1.r6_0 hr, hr7, hi, e32, c4]
        rw [f1, f2]
        exact ⟨σ2, μ2, a2, vw, rfl, rfl, Vle.rf, f3, (Kp.tr (Kp.mk2 (c5.wk fun s i h => by omega) (c6.wk fun j i h => by omega) (fun k _ _ _ => by rw [c7]) (Gx.of38 (r := r) (fun i => c6 35 i (by omega)) (fun i h => c6 38 i (by omega)) c4 hl)) ((Kp.s35 hI (fun _ => by rw [c4]; exact nI_ne0 (by omega) (by omega))).tr (Kp.one hI (by omega) (by omega)))).tr f4.kp⟩
      · rw [if_pos (by rw [b1_0]; exact hlr), if_pos (by rw [b1_0]; exact hlr)]
        obtain ⟨v', w, a', f1, f2, f3, f4⟩ := sd1 (t := nI l + 1) (tc := nI l + 1) (ab := 0) hR hr (x := 1) (kk := 1) rfl (by omega) b9 (fun _ => rfl) (by omega)
        simp only [x_gI, x_gR, x_gO, x_pI, x_pR, x_aI, x_aR, x_qI, x_qR, x_aL, oK_sI, oK_sR, oK_sC, oZ_sI, oZ_sR, oZ_sC, xI_sI, oI_sR, xI_sC, oR_sI, xR_sR, oR_sC, Option.bind_some, if_true, if_false, Nat.reduceEqDiff, true_and, and_true, false_and, and_false, k6, r60, k32, q3, b3, b4.1, hs.i6_10 hr, b7, b8, f1, f2, mA_n 33 r hr7, mA_n 34 r hr7]
        exact ⟨_, _, a', vw, rfl, rfl, Vle.rf, f3, f4.kp⟩
    · rw [if_neg hl, if_neg (show ¬ (1 : Int32) = 0 by decide), if_pos (by rw [l100, nI_eq (by omega) (by omega)]; omega)]
      exact St.rf hR
end TAK
