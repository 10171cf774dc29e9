/-! nudge, sync, fail, install -/
section PUD
variable {A : Ad} {n T q t tb : Nat} {hb : Nat → Nat} {vw : Vw} {p u : Nat → Nat} {a r : Nat} {σ σ' : Hp} {μ μ' : Mu}
theorem RR.snt (hR : RR A n T q hb vw p u a 0 σ μ) : h_gR σ 11 (A 11 0 0) 3 = some (A 1 0 0) ∧ h_gI σ 1 (A 1 0 0) 2 = some (μ.1 13) := by
  have hs := hR.1
  exact ⟨by rw [x_gR hs.k11, hs.r11_3], by rw [x_gI hs.k1, hR.2.2.2.2.1.2.2.2.1]⟩
/-- what it waits for is asked for again -/
theorem ask_again (hR : RR A n T q h8 vw p u a 0 σ μ) (hr : r < n) (hd : Ok n μ) : ∃ σ' μ', f_X6_askAgain σ (A 6 r 0) = some σ' ∧ (if μ.2 35 r = 1 then ((m_A μ 38 (nI r)).bind fun v33 => (f_X12_all μ (3 : Int32) (nI r) v33).bind fun v34 => some (((v34.1 13) - (μ.1 13)), v34)) else ((m_A μ 35 (nI r)).bind fun v45 => if v45 = (2 : Int32) then ((f_X12_all μ (8 : Int32) (nI r) (0 : Int32)).bind fun v55 => (f_X12_leads v55 (nI r)).bind fun v60 => if v60 = 0 then ((f_X12_tellTurned v55 (nI r)).bind fun v68 => some (((v68.1 13) - (μ.1 13)), v68)) else some (((v55.1 13) - (μ.1 13)), v55)) else ((f_X12_leads μ (nI r)).bind fun v76 => if v76 = 0 then ((m_A μ 43 (nI r)).bind fun v87 => if v87 ≤ 0 then some (((μ.1 13) - (μ.1 13)), μ) else ((f_X12_leader μ (nI r)).bind fun v96 => (m_A μ 33 (nI r)).bind fun v104 => (m_A μ 34 (nI r)).bind fun v110 => (m_A μ 38 (nI r)).bind fun v116 => (f_X12_send μ (1 : Int32) (nI r) v96 v104 v110 (v116 + (1 : Int32)) (0 : Int32)).bind fun v120 => some (((v120.2.1 13) - (μ.1 13)), v120.2))) else some (((μ.1 13) - (μ.1 13)), μ)))) = some (μ'.1 13 - μ.1 13, μ') ∧ ∃ a', RR A n T q h8 vw p u a' 0 σ' μ' ∧ Kq A p σ σ' μ μ' := by
  have hs := hR.1
  have h7 := hs.np
  have hi := hs.inj
  have hr7 : r < 7 := by omega
  have k6 := hs.k6 hr
  have k3 := hs.k3 hr
  have k32 := hs.k32 hr
  obtain ⟨L, v, g1, g2, g3, g4, g5, g6, g7, g8, g9⟩ := hR.ld hr
  obtain ⟨⟨⟨a1, a2⟩, ⟨a3, a4⟩, -⟩, ⟨l, q1, q2, q3, q4⟩, ⟨h, y1, y2, y3, -⟩, -⟩ := (hR.2.2.2.2.2.1 r hr).sp
  have y1' : h ≤ 8 := y1
  by_cases c1 : μ.2 35 r = 1
  · have hl0 : 1 ≤ l := by
      have := hd.2 r hr c1
      rw [q2] at this
      rcases Nat.eq_zero_or_pos l with e | e
      · exact absurd (by rw [e]; rfl) this
      · exact e
    obtain ⟨σ', μ', a', f1, f2, f3, f4⟩ := sd_all hR hr (x := 3) (kk := 3) rfl (by omega) (t := nI l) (fun _ => ⟨l, hl0, q1, rfl⟩)
    refine ⟨σ', μ', ?_, ?_, a', f3, f4⟩
    · rw [f_X6_askAgain, x_gI k6, Option.bind_some, a3, if_pos c1, x_gR k6, hs.r6_0 hr, Option.bind_some, x_gI k32, Option.bind_some, q3, x_gO k6, Option.bind_some, f1, Option.bind_some]
    · rw [if_pos c1, mA_n 38 r hr7, Option.bind_some, q2, f2, Option.bind_some]
  · by_cases c2 : μ.2 35 r = 2
    · obtain ⟨σ', μ', a', f1, f2, f3, f4⟩ := sd_turns hR hr
      refine ⟨σ', μ', ?_, ?_, a', f3, f4⟩
      · rw [f_X6_askAgain, x_gI k6, Option.bind_some, a3, if_neg c1, Option.bind_some, if_pos c2, x_gO k6, Option.bind_some, f1, Option.bind_some]
      · rw [if_neg c1, mA_n 35 r hr7, Option.bind_some, if_pos c2]
        obtain ⟨v38, z1, z2⟩ := Option.bind_eq_some_iff.mp f2
        rw [z1, Option.bind_some]
        obtain ⟨v43, z3, z4⟩ := Option.bind_eq_some_iff.mp z2
        rw [z3, Option.bind_some]
        by_cases c3 : v43 = 0
        · rw [if_pos c3] at z4 ⊢
          obtain ⟨v51, z5, z6⟩ := Option.bind_eq_some_iff.mp z4
          cases Option.some.inj z6
          rw [z5, Option.bind_some]
        · rw [if_neg c3] at z4 ⊢
          cases Option.some.inj z4
          rfl
    · have hc0 : f_X6_askAgain σ (A 6 r 0) = if b1 (L % n = r) = 0 then (if nI h ≤ 0 then some σ else (f_X6_send σ (A 6 r 0) 1 (nI (L % n)) (nI l + 1)).bind fun v => some v.2) else some σ := by
        rw [f_X6_askAgain, x_gI k6, Option.bind_some, a3, if_neg c1, Option.bind_some, if_neg c2, x_gO k6, Option.bind_some, g5, Option.bind_some, x_gR k6, hs.r6_1 hr, Option.bind_some, x_gI k3, Option.bind_some, y3, x_gR k6, g3, Option.bind_some, x_gI k6, Option.bind_some, hs.i6_10 hr, x_gO g4.1, Option.bind_some, g7, Option.bind_some, x_gR k6, hs.r6_0 hr, Option.bind_some, x_gI k32, Option.bind_some, q3]
        simp only [Option.bind_some, x_gO k6]
      have hm0 : (if μ.2 35 r = 1 then ((m_A μ 38 (nI r)).bind fun v33 => (f_X12_all μ (3 : Int32) (nI r) v33).bind fun v34 => some (((v34.1 13) - (μ.1 13)), v34)) else ((m_A μ 35 (nI r)).bind fun v45 => if v45 = (2 : Int32) then ((f_X12_all μ (8 : Int32) (nI r) (0 : Int32)).bind fun v55 => (f_X12_leads v55 (nI r)).bind fun v60 => if v60 = 0 then ((f_X12_tellTurned v55 (nI r)).bind fun v68 => some (((v68.1 13) - (μ.1 13)), v68)) else some (((v55.1 13) - (μ.1 13)), v55)) else ((f_X12_leads μ (nI r)).bind fun v76 => if v76 = 0 then ((m_A μ 43 (nI r)).bind fun v87 => if v87 ≤ 0 then some (((μ.1 13) - (μ.1 13)), μ) else ((f_X12_leader μ (nI r)).bind fun v96 => (m_A μ 33 (nI r)).bind fun v104 => (m_A μ 34 (nI r)).bind fun v110 => (m_A μ 38 (nI r)).bind fun v116 => (f_X12_send μ (1 : Int32) (nI r) v96 v104 v110 (v116 + (1 : Int32)) (0 : Int32)).bind fun v120 => some (((v120.2.1 13) - (μ.1 13)), v120.2))) else some (((μ.1 13) - (μ.1 13)), μ)))) = if b1 (L % n = r) = 0 then (if nI h ≤ 0 then some (μ.1 13 - μ.1 13, μ) else (f_X12_send μ 1 (nI r) (nI (L % n)) (μ.2 33 r) (μ.2 34 r) (nI l + 1) 0).bind fun v120 => some (v120.2.1 13 - μ.1 13, v120.2)) else some (μ.1 13 - μ.1 13, μ) := by
        rw [if_neg c1, mA_n 35 r hr7, Option.bind_some, if_neg c2, g6, Option.bind_some, mA_n 43 r hr7, Option.bind_some, y2, g8, Option.bind_some, mA_n 33 r hr7, Option.bind_some, mA_n 34 r hr7, Option.bind_some, mA_n 38 r hr7, Option.bind_some, q2]
      rw [hc0, hm0]
      by_cases c3 : b1 (L % n = r) = 0
      · rw [if_pos c3, if_pos c3]
        by_cases c4 : nI h ≤ 0
        · rw [if_pos c4, if_pos c4]
          exact ⟨σ, μ, rfl, rfl, a, hR, Kq.rf⟩
        · rw [if_neg c4, if_neg c4]
          obtain ⟨v', w, a', f1, f2, f3, f4⟩ := sd1 (t := nI l + 1) (tc := nI l + 1) (ab := 0) hR hr (x := 1) (kk := 1) rfl (by omega) g9 (fun _ => rfl) (by omega)
          rw [f1, f2, Option.bind_some, Option.bind_some]
          exact ⟨v'.2, w.2, rfl, rfl, a', f3, f4⟩
      · rw [if_neg c3, if_neg c3]
        exact ⟨σ, μ, rfl, rfl, a, hR, Kq.rf⟩
theorem Kq.ok (hk : Kq A p σ σ' μ μ') (hd : Ok n μ) : Ok n μ' := hd.rw fun j i h1 _ => hk.2.1 j i (Or.inr h1)
theorem pb_nudge (hI : Inv n t tb σ μ) (x : Int32) : ∃ cd v σ' b μ', f_X11_nudge σ tb x = some (cd, v, σ') ∧ f_X12_nudge μ x = some (b, μ') ∧ Inv n t tb σ' μ' ∧ ((cd = 0 ∧ μ'.1 0 = 0 ∧ v = b) ∨ (cd = 1 ∧ μ'.1 0 = 1) ∨ (cd = 3 ∧ μ'.1 0 = 2)) := by
  obtain ⟨hd, A, q, vw, p, u, a, rfl, hq, hR⟩ := hI
  have hs := hR.1
  have h7 := hs.np
  have k11 := hs.k11
  rcases c_rpl hR x with ⟨r, hr, rfl, e1, e2⟩ | ⟨e1, e2⟩
  · have hr7 : r < 7 := by omega
    obtain ⟨w1, w2⟩ := c_row hs hr
    have k6 := hs.k6 hr
    have hr32 : oI σ (A 6 r 0) 2 = μ.2 32 r := (hR.2.2.2.2.2.1 r hr).sp.1.1.1
    by_cases c1 : μ.2 32 r = 0
    · have hR0 := hR.th 0
      obtain ⟨σ', μ', f1, f2, a', f3, f4⟩ := ask_again hR0 hr (hd.th 0)
      obtain ⟨s1, s2⟩ := hR0.snt
      obtain ⟨s3, s4⟩ := f3.snt
      refine ⟨0, μ'.1 13 - (mS μ 0 0).1 13, σ', μ'.1 13 - (mS μ 0 0).1 13, μ', ?_, ?_, f3.inv hq (f4.ok (hd.th 0)), Or.inl ⟨rfl, ?_, rfl⟩⟩
      · rw [f_X11_nudge, x_gO k11, Option.bind_some, e2, Option.bind_some, if_neg n10, w1, Option.bind_some, w2, Option.bind_some, x_gI k6, Option.bind_some, hr32, if_pos c1, s1, Option.bind_some, s2, Option.bind_some, Option.bind_some, w2, Option.bind_some, x_gO k6, Option.bind_some, f1, Option.bind_some, s3, Option.bind_some, s4, Option.bind_some]
      · rw [f_X12_nudge, m_may hr7 e1, if_pos c1, Option.bind_some]
        dsimp only
        rw [if_neg n10, mA_n 35 r hr7, Option.bind_some]
        rw [mA_n 35 r hr7] at f2
        exact f2
      · rw [f4.2.2 0 (by decide) (by decide) (by decide), mS0]
    · refine ⟨3, 0, σ, 0, _, ?_, ?_, (hR.th 2).inv hq (hd.th 2), Or.inr (Or.inr ⟨rfl, mS0 μ 2⟩)⟩
      · rw [f_X11_nudge, x_gO k11, Option.bind_some, e2, Option.bind_some, if_neg n10, w1, Option.bind_some, w2, Option.bind_some, x_gI k6, Option.bind_some, hr32, if_neg c1]
      · rw [f_X12_nudge, m_may hr7 e1, if_neg c1, Option.bind_some]
        exact if_pos rfl
  · refine ⟨1, 0, σ, 0, _, ?_, ?_, (hR.th 1).inv hq (hd.th 1), Or.inr (Or.inl ⟨rfl, mS0 μ 1⟩)⟩
    · rw [f_X11_nudge, x_gO k11, Option.bind_some, e2, Option.bind_some, if_pos rfl]
    · rw [f_X12_nudge, m_may0 e1, Option.bind_some]
      exact if_pos rfl
theorem pb_sync (hI : Inv n t tb σ μ) (x : Int32) : ∃ cd v σ' μ', f_X11_sync σ tb x = some (cd, v, σ') ∧ f_X12_sync_ μ x = some μ' ∧ Inv n t tb σ' μ' ∧ ((cd = 0 ∧ μ'.1 0 = 0) ∨ (cd = 1 ∧ μ'.1 0 = 1) ∨ (cd = 3 ∧ μ'.1 0 = 2)) := by
  obtain ⟨hd, A, q, vw, p, u, a, rfl, hq, hR⟩ := hI
  have hs := hR.1
  have h7 := hs.np
  have k11 := hs.k11
  rcases c_rpl hR x with ⟨r, hr, rfl, e1, e2⟩ | ⟨e1, e2⟩
  · have hr7 : r < 7 := by omega
    obtain ⟨w1, w2⟩ := c_row hs hr
    have k6 := hs.k6 hr
    obtain ⟨L, v, g1, g2, g3, g4, g5, g6, -⟩ := hR.ld hr
    obtain ⟨⟨⟨a1, a2⟩, ⟨a3, a4⟩, -⟩, -⟩ := (hR.2.2.2.2.2.1 r hr).sp
    have hI2 : Inv n t (A 11 0 0) σ (mS μ 0 2) := (hR.th 2).inv hq (hd.th 2)
    by_cases c1 : μ.2 32 r = 0
    · by_cases c2 : b1 (L % n = r) = 0
      · refine ⟨3, 0, σ, _, ?_, ?_, hI2, Or.inr (Or.inr ⟨rfl, mS0 μ 2⟩)⟩
        · rw [f_X11_sync, x_gO k11, Option.bind_some, e2, Option.bind_some, if_neg n10, w1, Option.bind_some, w2, Option.bind_some, x_gI k6, Option.bind_some, a1, if_pos c1, x_gO k6, Option.bind_some, g5, Option.bind_some, if_pos c2]
        · rw [f_X12_sync_, e1, Option.bind_some, if_neg n10, mA_n 32 r hr7, Option.bind_some, if_pos c1, g6, Option.bind_some, if_pos c2, f_X12_sync__44, f_X12_sync__49, m_P, Option.bind_some, mS0, if_neg le20]
      · by_cases c3 : μ.2 35 r = 0
        · have hR0 := hR.th 0
          have hlf : n < lf := by unfold lf; omega
          obtain ⟨σ', μ', a', f1, f2, f3, f4⟩ := sd_syncs hr n lf lf 0 _ _ a hlf hlf (by omega) hR0
          refine ⟨0, 0, σ', μ', ?_, ?_, f3.inv hq (f4.ok (hd.th 0)), Or.inl ⟨rfl, ?_⟩⟩
          · rw [f_X11_sync, x_gO k11, Option.bind_some, e2, Option.bind_some, if_neg n10, w1, Option.bind_some, w2, Option.bind_some, x_gI k6, Option.bind_some, a1, if_pos c1, x_gO k6, Option.bind_some, g5, Option.bind_some, if_neg c2, x_gI k6, Option.bind_some, a3, if_pos c3, Option.bind_some, f_X6_sendLogToOthers]
            exact congrArg (fun x => x.bind fun v58 => some ((0, 0, v58) : Xr)) f1
          · rw [f_X12_sync_, e1, Option.bind_some, if_neg n10, mA_n 32 r hr7, Option.bind_some, if_pos c1, g6, Option.bind_some, if_neg c2, mA_n 35 r hr7, Option.bind_some, if_pos c3, f_X12_sync__49, m_P, Option.bind_some, mS0, if_pos le00]
            exact f2
          · rw [f4.2.2 0 (by decide) (by decide) (by decide), mS0]
        · refine ⟨3, 0, σ, _, ?_, ?_, hI2, Or.inr (Or.inr ⟨rfl, mS0 μ 2⟩)⟩
          · rw [f_X11_sync, x_gO k11, Option.bind_some, e2, Option.bind_some, if_neg n10, w1, Option.bind_some, w2, Option.bind_some, x_gI k6, Option.bind_some, a1, if_pos c1, x_gO k6, Option.bind_some, g5, Option.bind_some, if_neg c2, x_gI k6, Option.bind_some, a3, if_neg c3]
          · rw [f_X12_sync_, e1, Option.bind_some, if_neg n10, mA_n 32 r hr7, Option.bind_some, if_pos c1, g6, Option.bind_some, if_neg c2, mA_n 35 r hr7, Option.bind_some, if_neg c3, f_X12_sync__44, f_X12_sync__49, m_P, Option.bind_some, mS0, if_neg le20]
    · refine ⟨3, 0, σ, _, ?_, ?_, hI2, Or.inr (Or.inr ⟨rfl, mS0 μ 2⟩)⟩
      · rw [f_X11_sync, x_gO k11, Option.bind_some, e2, Option.bind_some, if_neg n10, w1, Option.bind_some, w2, Option.bind_some, x_gI k6, Option.bind_some, a1, if_neg c1]
      · rw [f_X12_sync_, e1, Option.bind_some, if_neg n10, mA_n 32 r hr7, Option.bind_some, if_neg c1, f_X12_sync__44, f_X12_sync__49, m_P, Option.bind_some, mS0, if_neg le20]
  · refine ⟨1, 0, σ, _, ?_, ?_, (hR.th 1).inv hq (hd.th 1), Or.inr (Or.inl ⟨rfl, mS0 μ 1⟩)⟩
    · rw [f_X11_sync, x_gO k11, Option.bind_some, e2, Option.bind_some, if_pos rfl]
    · rw [f_X12_sync_, e1, Option.bind_some, if_pos rfl, f_X12_sync__49, m_P, Option.bind_some, mS0, if_neg le10]
theorem pb_fail (hI : Inv n t tb σ μ) : ∃ b σ' μ', f_X11_fail σ tb = some (b, σ') ∧ f_X12_fail μ = some (b, μ') ∧ Inv n t tb σ' μ' := by
  obtain ⟨hd, A, q, vw, p, u, a, rfl, hq, hR⟩ := hI
  have hs := hR.1
  have hi := hs.inj
  have k11 := hs.k11
  have n11 : oK σ (A 11 0 0) ≠ 9 := by rw [k11]; decide
  obtain ⟨t1, t2, t3, t4, t5, t6⟩ := hR.2.2.1
  have hz : h_gZ (μ.1 9) = some () := by
    unfold h_gZ
    rcases t2 with h | h <;> rw [h] <;> rfl
  have e9 : (mS μ 0 0).1 9 = μ.1 9 := by simp only [mS_1, show ¬ (9 : Nat) = 0 by decide, if_false]
  refine ⟨μ.1 9, _, _, ?_, ?_, (hR.tab (σ' := sI σ (A 11 0 0) 7 0) (μ' := mS (mS μ 0 0) 9 0) (hs.sI rfl) (hR.2.1.sI n11) ((Ag.sI hs.1).wk fun s i h => by omega) rfl (fun k h1 h2 _ _ => by simp only [mS_1, h1, h2, if_false]) ?_).inv hq (hd.rw fun _ _ _ _ => rfl)⟩
  · rw [f_X11_fail, x_gI k11, Option.bind_some, t1, x_pI k11, Option.bind_some, hz, Option.bind_some]
  · rw [f_X12_fail, m_P, Option.bind_some, m_P, Option.bind_some, e9, hz, Option.bind_some]
  · unfold Rt
    simp only [oK_sI, oK_sR, oK_sC, oZ_sI, oZ_sR, oZ_sC, xI_sI, oI_sR, xI_sC, oR_sI, xR_sR, oR_sC, Option.bind_some, if_true, if_false, Nat.reduceEqDiff, true_and, and_true, false_and, and_false, m_P, mT_2, mT_1, mS_1, mS_2, Option.bind_some, Nat.reduceEqDiff, if_true, if_false, true_and, and_true, false_and, and_false, hi, t3, t4]
    exact ⟨Or.inl True.intro, t5, t6⟩
theorem pb_install (hI : Inv n t tb σ μ) : ∃ b σ' μ', f_X11_install σ tb = some (b, σ') ∧ f_X12_install μ = some (b, μ') ∧ Inv n t tb σ' μ' := by
  obtain ⟨hd, A, q, vw, p, u, a, rfl, hq, hR⟩ := hI
  have hs := hR.1
  have hi := hs.inj
  have k11 := hs.k11
  have n11 : oK σ (A 11 0 0) ≠ 9 := by rw [k11]; decide
  obtain ⟨t1, t2, t3, t4, t5, t6⟩ := hR.2.2.1
  refine ⟨μ.1 10 + 1, _, _, ?_, ?_, (hR.tab (σ' := sI (sI (sI σ (A 11 0 0) 7 1) (A 11 0 0) 8 (μ.1 10 + 1)) (A 11 0 0) 9 0) (μ' := mS (mS (mS (mS μ 0 0) 9 1) 10 (μ.1 10 + 1)) 11 0) (((hs.sI rfl).sI rfl).sI rfl) (((hR.2.1.sI n11).sI n11).sI n11) ((((Ag.sI hs.1).tr (Ag.sI hs.1)).tr (Ag.sI hs.1)).wk fun s i h => by omega) rfl (fun k h1 h2 h3 h4 => by simp only [mS_1, h1, h2, h3, h4, if_false]) ?_).inv hq (hd.rw fun _ _ _ _ => rfl)⟩
  · simp only [f_X11_install, x_gI, x_gR, x_gO, x_pI, x_pR, x_aI, x_aR, x_qI, x_qR, x_aL, oK_sI, oK_sR, oK_sC, oZ_sI, oZ_sR, oZ_sC, xI_sI, oI_sR, xI_sC, oR_sI, xR_sR, oR_sC, Option.bind_some, if_true, if_false, Nat.reduceEqDiff, true_and, and_true, false_and, and_false, k11, hi, t3]
  · simp only [f_X12_install, mA_n, mQ_n, m_P, mT_2, mT_1, mS_1, mS_2, mZ, Option.bind_some, if_true, if_false, true_and, and_true, false_and, and_false, Nat.reduceEqDiff, Nat.reduceLT]
  · unfold Rt
    simp only [oK_sI, oK_sR, oK_sC, oZ_sI, oZ_sR, oZ_sC, xI_sI, oI_sR, xI_sC, oR_sI, xR_sR, oR_sC, Option.bind_some, if_true, if_false, Nat.reduceEqDiff, true_and, and_true, false_and, and_false, m_P, mT_2, mT_1, mS_1, mS_2, Option.bind_some, Nat.reduceEqDiff, if_true, if_false, true_and, and_true, false_and, and_false, hi]
    exact ⟨Or.inr True.intro, t5, t6⟩
end PUD
