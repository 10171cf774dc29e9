/-! a reply -/
section RPL
variable {A : Ad} {n T q : Nat} {hb : Nat → Nat} {vw : Vw} {p u : Nat → Nat} {a r : Nat} {σ : Hp} {μ : Mu}
theorem rpl48 (hR : RR A n T q hb vw p u a 0 σ μ) (hr : r < n) {id c l : Nat} {t x3 : Int32} (h1 : 1 ≤ id) (h2 : id ≤ q) (hc : μ.2 4 id = nI c) (hc4 : c < 4) (ht : μ.2 38 r = t) (ht1 : Rid 100 t) (hl : μ.2 33 r = nI l) (h64 : l ≤ 64) (hx : l % n = r → x3 = μ.2 78 c) : Sd A n T q hb vw p u σ μ (f_X6_reply_48 σ (A 6 r 0) t (nI id) x3) (f_X12_answer_42 μ (nI r) (nI id) (nI c)) := by
  have hs := hR.1
  have h7 := hs.np
  have hi := hs.inj
  have hI := hs.1
  have hr7 : r < 7 := by omega
  have hq := hR.2.2.2.2.2.2.2.2.1
  obtain ⟨-, -, ⟨v1, lT, w1, w2⟩, -⟩ := hR.2.2.2.2.2.1 r hr
  have hT := hR.2.2.2.2.2.2.2.2.2
  obtain rfl : lT = l := (nI_eq (by omega) (by omega)).mp (w2.symm.trans hl)
  obtain ⟨m0, σ1, mm, μ1, f1, f2, f3, f4, f5⟩ := rep_send hR hr (nI 11) (nI c) t t (nI id)
  obtain ⟨s1, s2⟩ := f3.st
  have k6 := hs.k6 hr
  have k7 := hs.k7
  have k20 := hs.k20 (i := 0) (by decide)
  have z20 := hs.z20 (i := 0) (by decide)
  have k5' := s1.k5 f3.1.1
  have n5 : oK σ1 (A 5 m0 0) ≠ 9 := by rw [k5']; decide
  have hid5 : id < 513 := by omega
  have e0 : oI σ (A 20 0 0) id = nI c := ((hR.2.2.2.1.2.2.2.1 id h1 h2).1 0 (by decide)).trans hc
  have hcl : f_X6_reply_48 σ (A 6 r 0) t (nI id) x3 = some (sI (sI σ1 (A 5 m0 0) 7 (nI id)) (A 5 m0 0) 8 x3) := by
    rw [show (nI 11) = (11 : Int32) from rfl] at f1
    simp only [f_X6_reply_48, x_gI, x_gR, x_gO, x_pI, x_pR, x_aI, x_aR, x_qI, x_qR, x_aL, oK_sI, oK_sR, oK_sC, oZ_sI, oZ_sR, oZ_sC, xI_sI, oI_sR, xI_sC, oR_sI, xR_sR, oR_sC, Option.bind_some, if_true, if_false, Nat.reduceEqDiff, true_and, and_true, false_and, and_false, k6, hs.r6_11 hr, k7, hs.r7_0, k20, z20, hid5, e0, f1, k5', Nat.reduceLT]
  have t1 := f3.wI (x := nI id) (k := 7) (by decide) s1 s2
  have t2 := t1.wI (x := x3) (k := 8) (by decide) (s1.sI rfl) (s2.sI n5)
  obtain ⟨u1, u2⟩ := t2.st
  have o32 : ∀ j i, 32 ≤ j → μ1.2 j i = μ.2 j i := fun j i h => f3.2.2.1 j i (Or.inr h)
  have hn1 : μ1.1 1 = nI n := (f3.2.2.2.1 1 (by decide) (by decide) (by decide)).trans hR.2.2.1.2.2.2.2.1
  have hld := m_leads (μ := μ1) hn1 hr7 (by rw [o32 33 r (by decide)]; exact hl) h64 h7.1 h7.2
  have hml : f_X12_answer_42 μ (nI r) (nI id) (nI c) = if mm = -1 then some μ1 else if b1 (lT % n = r) = 0 then some μ1 else ((m_Q μ1 30 mm 1).bind fun s93 => (m_A s93 78 (nI c)).bind fun v105 => (m_Q s93 25 mm v105).bind fun s106 => some s106) := by
    rw [show (nI 11) = (11 : Int32) from rfl] at f2
    rw [f_X12_answer_42, mA_n 33 r hr7, Option.bind_some, mA_n 34 r hr7, Option.bind_some, mA_n 38 r hr7, Option.bind_some, ht, f2, Option.bind_some]
    by_cases hmm : mm = -1
    · rw [if_pos hmm, if_pos hmm]
    · rw [if_neg hmm, if_neg hmm, hld, Option.bind_some]
  have rm : ∀ (μ2 : Mu), (∀ j i, ¬ (j = 25 ∨ j = 30) → μ2.2 j i = μ1.2 j i) → ∀ m, m < 200 → mm = nI m → (lT % n = r → μ2.2 30 m = 1 ∧ x3 = μ2.2 25 m) → (lT % n ≠ r → μ2.2 30 m = 0) → Rm A n T q vw (sI (sI σ1 (A 5 m0 0) 7 (nI id)) (A 5 m0 0) 8 x3) μ2 m0 m := fun μ2 ho m hm e c1 c2 => by
    obtain ⟨-, ⟨b1, b2, b3, b4⟩, c18, c19, c20, c21, c22, c23, c24, c30, c29⟩ := f3.at hm e
    unfold Rm
    rw [ho 17 m (by decide), ho 18 m (by decide), ho 19 m (by decide), ho 20 m (by decide), ho 21 m (by decide), ho 22 m (by decide), ho 23 m (by decide), ho 24 m (by decide), ho 29 m (by decide)]
    refine ⟨⟨?_, ?_, ?_, ?_⟩, 11, c, by omega, c18, c20, fun _ => hc4, fun h => absurd rfl h, by omega, fun _ => ⟨?_, lT, r, w1, c21.trans hl, hr, c19, by omega, fun _ => ⟨fun h => ⟨(c1 h).1, ?_⟩, c2⟩⟩, fun _ => ?_, fun _ => ⟨?_, ?_⟩, fun _ => by rw [c23]; exact ht1, by omega, by omega, fun _ _ _ => c29, by omega, by omega⟩
    · simp only [oK_sI, oK_sR, oK_sC, oZ_sI, oZ_sR, oZ_sC, xI_sI, oI_sR, xI_sC, oR_sI, xR_sR, oR_sC, Option.bind_some, if_true, if_false, Nat.reduceEqDiff, true_and, and_true, false_and, and_false, hi, b1]
    · simp only [oK_sI, oK_sR, oK_sC, oZ_sI, oZ_sR, oZ_sC, xI_sI, oI_sR, xI_sC, oR_sI, xR_sR, oR_sC, Option.bind_some, if_true, if_false, Nat.reduceEqDiff, true_and, and_true, false_and, and_false, hi, b2, c18]
    · simp only [oK_sI, oK_sR, oK_sC, oZ_sI, oZ_sR, oZ_sC, xI_sI, oI_sR, xI_sC, oR_sI, xR_sR, oR_sC, Option.bind_some, if_true, if_false, Nat.reduceEqDiff, true_and, and_true, false_and, and_false, hi, b3, c19]
    · simp only [oK_sI, oK_sR, oK_sC, oZ_sI, oZ_sR, oZ_sC, xI_sI, oI_sR, xI_sC, oR_sI, xR_sR, oR_sC, Option.bind_some, if_true, if_false, Nat.reduceEqDiff, true_and, and_true, false_and, and_false, hi, b4, c20]
    · rw [c21, c22]
      simp only [oK_sI, oK_sR, oK_sC, oZ_sI, oZ_sR, oZ_sC, xI_sI, oI_sR, xI_sC, oR_sI, xR_sR, oR_sC, Option.bind_some, if_true, if_false, Nat.reduceEqDiff, true_and, and_true, false_and, and_false, hi, f4]
      exact v1
    · simp only [oK_sI, oK_sR, oK_sC, oZ_sI, oZ_sR, oZ_sC, xI_sI, oI_sR, xI_sC, oR_sI, xR_sR, oR_sC, Option.bind_some, if_true, if_false, Nat.reduceEqDiff, true_and, and_true, false_and, and_false, hi]
      exact (c1 h).2
    · simp only [oK_sI, oK_sR, oK_sC, oZ_sI, oZ_sR, oZ_sC, xI_sI, oI_sR, xI_sC, oR_sI, xR_sR, oR_sC, Option.bind_some, if_true, if_false, Nat.reduceEqDiff, true_and, and_true, false_and, and_false, hi, f5, c23]
    · simp only [oK_sI, oK_sR, oK_sC, oZ_sI, oZ_sR, oZ_sC, xI_sI, oI_sR, xI_sC, oR_sI, xR_sR, oR_sC, Option.bind_some, if_true, if_false, Nat.reduceEqDiff, true_and, and_true, false_and, and_false, hi, c24]
    · rw [c24]
      exact ⟨id, h1, h2, rfl⟩
  rw [hcl, hml]
  by_cases hmm : mm = -1
  · rw [if_pos hmm]
    obtain ⟨a', d1, d2⟩ := t2.fin (μ2 := μ1) u1 u2 Ag.rf (fun _ => rfl) (fun m hm e => absurd (e.symm.trans hmm) (nI_m1 (by omega)))
    exact ⟨_, _, a', rfl, rfl, d1, d2⟩
  · rw [if_neg hmm]
    by_cases hlr : lT % n = r
    · rw [if_neg (by rw [b1_0]; exact fun h => h hlr)]
      obtain ⟨m, hm, e⟩ : ∃ m, m < 200 ∧ mm = nI m := by
        rcases f3.2.2.2.2 with ⟨-, -, e3, -⟩ | ⟨-, -, e3, e4, -⟩
        · exact absurd e3 hmm
        · exact ⟨_, e4, e3⟩
      have e3 : ((m_Q μ1 30 mm 1).bind fun s93 => (m_A s93 78 (nI c)).bind fun v105 => (m_Q s93 25 mm v105).bind fun s106 => some s106) = some (mT (mT μ1 30 m 1) 25 m (μ1.2 78 c)) := by
        have hc' : c < mZ 78 := hc4
        simp only [e, mA_n, mQ_n, m_P, mT_2, mT_1, mS_1, mS_2, mZ, Option.bind_some, if_true, if_false, true_and, and_true, false_and, and_false, Nat.reduceEqDiff, Nat.reduceLT, hm, mA_n 78 c hc']
      rw [e3]
      obtain ⟨a', d1, d2⟩ := t2.fin (μ2 := mT (mT μ1 30 m 1) 25 m (μ1.2 78 c)) u1 u2 Ag.rf (fun h => absurd h hmm) (fun m' hm' e' => by
        obtain rfl : m' = m := (nI_eq (by omega) (by omega)).mp (e'.symm.trans e)
        refine ⟨⟨(AgM.mT.tr AgM.mT).wk (fun j i h => by unfold fmM at h; omega), rfl⟩, rm _ (fun j i h => ?_) m' hm e (fun h => ⟨?_, ?_⟩) (fun h => absurd hlr h)⟩
        · simp only [mT_2]
          rw [if_neg (by omega), if_neg (by omega)]
        · simp only [m_P, mT_2, mT_1, mS_1, mS_2, Option.bind_some, Nat.reduceEqDiff, if_true, if_false, true_and, and_true, false_and, and_false]
        · simp only [m_P, mT_2, mT_1, mS_1, mS_2, Option.bind_some, Nat.reduceEqDiff, if_true, if_false, true_and, and_true, false_and, and_false]
          rw [hx h, o32 78 c (by decide)])
      exact ⟨_, _, a', rfl, rfl, d1, d2⟩
    · rw [if_pos (by rw [b1_0]; exact hlr)]
      obtain ⟨a', d1, d2⟩ := t2.fin (μ2 := μ1) u1 u2 Ag.rf (fun _ => rfl) (fun m hm e => ⟨⟨AgM.rf, rfl⟩, rm μ1 (fun _ _ _ => rfl) m hm e (fun h => absurd h hlr) (fun _ => (f3.at hm e).2.2.2.2.2.2.2.2.2.1)⟩)
      exact ⟨_, _, a', rfl, rfl, d1, d2⟩
/-- what an execution keeps -/
theorem Iw.kp {σ' : Hp} {i : Nat} (h : Iw A n q vw σ σ' μ r i) (hR : RR A n T q hb vw p u a 0 σ μ) : RR A n T q hb vw p u a 0 σ' (exM μ r i) ∧ Kp A n p σ σ' μ (exM μ r i) := by
  obtain ⟨h1, h2, h3, -⟩ := h
  obtain ⟨h4, h5⟩ := exM_ag μ r i
  exact ⟨hR.fr h1 h2 h3 (h4.wk fun j i h => by omega) (fun k _ => by rw [h5]), Kp.mk' (h3.wk fun s i h => by omega) (h4.wk fun j i h => by omega) (fun k _ _ _ => by rw [h5])⟩
theorem rep_reply (hR : RR A n T q h8 vw p u a 0 σ μ) (hr : r < n) {l : Nat} (h38 : μ.2 38 r = nI l) (hl1 : 1 ≤ l) (hl2 : l ≤ 100) {x : Int32} (hx : Rid q x) : ∃ σ' μ' a', f_X6_reply σ (A 6 r 0) (nI l) x = some σ' ∧ f_X12_answer μ (nI r) x = some μ' ∧ RR A n T q h8 vw p u a' 0 σ' μ' ∧ Kp A n p σ σ' μ μ' ∧ AgM μ μ' (fun j _ => 32 ≤ j ∧ j ≤ 75) := by
  obtain ⟨id, h1, h2, rfl⟩ := hx
  have hs := hR.1
  have h7 := hs.np
  have hr7 : r < 7 := by omega
  have hq := hR.2.2.2.2.2.2.2.2.1
  obtain ⟨L, v, g1, g2, g3, g4, g5, g6, g7, g8, g9⟩ := hR.ld hr
  obtain ⟨-, c, m, k, b1', b2, b3, b4, b5, b6, b7, -⟩ := hR.2.2.2.1.2.2.2.1 id h1 h2
  have k6 := hs.k6 hr
  have hid : id < mZ 4 := by simp only [mZ]; omega
  have hid5 : id < mZ 5 := by simp only [mZ]; omega
  have hrid : Rid 100 (nI l) := ⟨l, hl1, hl2, rfl⟩
  rw [f_X6_reply, x_gO k6, Option.bind_some, g5, Option.bind_some, f_X12_answer, mA_n 4 id hid, Option.bind_some, b2, g6, Option.bind_some]
  by_cases hlr : L % n = r
  · rw [if_neg (by rw [b1_0]; exact fun h => h hlr), if_neg (by rw [b1_0]; exact fun h => h hlr)]
    obtain ⟨-, -, -, -, -, ⟨len, q1, q2, q3, q4⟩, -⟩ := hR.2.2.2.2.2.1 r hr
    obtain rfl : len = l := (nI_eq (by omega) (by omega)).mp (q2.symm.trans h38)
    obtain ⟨σ1, e1, e2, e3⟩ := c_exe hR hr (Nat.le_refl len) hl2 q3 q4
    obtain ⟨e4, e5⟩ := e3.kp hR
    have k6' := e4.1.k6 hr
    have k10' := e4.1.k10
    have k7' := e4.1.k7
    have kk0 := e4.1.k20 (i := 0) (by decide)
    have zz0 := e4.1.z20 (i := 0) (by decide)
    have w1 := e4.1.k21 (i := 1) (by decide)
    have y1 : oZ σ1 (A 21 1 0) = 4 := e4.1.z21 (i := 1) (by decide)
    have w3 := e4.1.k21 (i := 3) (by decide)
    have y3 : oZ σ1 (A 21 3 0) = 513 := e4.1.z21 (i := 3) (by decide)
    have hid513 : id < 513 := by omega
    have hA := (exM_ag μ r len).1
    have x0 : oI σ1 (A 20 0 0) id = nI c := by
      rw [(e3.2.2.1 20 0 0 (show (20 : Nat) ≠ 21 by decide)).1]
      exact ((hR.2.2.2.1.2.2.2.1 id h1 h2).1 0 (by decide)).trans b2
    obtain ⟨idc, d1, d2, d3, d4⟩ := e3.2.2.2.2.2.2.1 c b1'
    have hidc : nI idc = nI id ↔ (exM μ r len).2 77 c = μ.2 5 id := by
      rw [nI_eq (by omega) (by omega)]
      constructor
      · intro e
        subst e
        exact (d4 h1).2.1
      · intro e
        by_cases hz : idc = 0
        · rw [d3 hz, b7] at e
          exact absurd e.symm (nI_ne0 (by omega) (by omega))
        · obtain ⟨f1, f2, -⟩ := d4 (by omega)
          exact hR.2.2.2.1.2.2.2.2 idc id (by omega) d1 h1 h2 (f1.trans b2.symm) (f2.symm.trans e)
    have hlat : f_X10_isLatest σ1 (A 10 0 0) (nI id) = some (b1 (nI idc = nI id)) := by
      simp only [f_X10_isLatest, x_gI, x_gR, x_gO, x_pI, x_pR, x_aI, x_aR, x_qI, x_qR, x_aL, oK_sI, oK_sR, oK_sC, oZ_sI, oZ_sR, oZ_sC, xI_sI, oI_sR, xI_sC, oR_sI, xR_sR, oR_sC, Option.bind_some, if_true, if_false, Nat.reduceEqDiff, true_and, and_true, false_and, and_false, k10', e4.1.r10_2, e4.1.r10_1, k7', e4.1.r7_0, kk0, zz0, hid513, x0, w1, y1, b1', d2, Nat.reduceLT]
      unfold b1
      by_cases h : nI idc = nI id
      · rw [if_pos h, if_pos h]
      · rw [if_neg h, if_neg h]
    simp only [x_gI, x_gR, x_gO, x_pI, x_pR, x_aI, x_aR, x_qI, x_qR, x_aL, oK_sI, oK_sR, oK_sC, oZ_sI, oZ_sR, oZ_sC, xI_sI, oI_sR, xI_sC, oR_sI, xR_sR, oR_sC, Option.bind_some, if_true, if_false, Nat.reduceEqDiff, true_and, and_true, false_and, and_false, k6, hs.r6_12 hr, hs.r6_0 hr, hs.k32 hr, q3, hs.k10, e1, k6', e4.1.r6_12 hr, k10', hlat]
    rw [mA_n 38 r hr7, Option.bind_some, q2, e2, Option.bind_some, mA_n 77 c b1', Option.bind_some, mA_n 5 id hid5, Option.bind_some, hA 5 id (by omega)]
    by_cases hla : nI idc = nI id
    · rw [if_neg (by rw [b1_0]; exact fun h => h hla), if_pos (hidc.mp hla)]
      obtain rfl : idc = id := (nI_eq (by omega) (by omega)).mp hla
      have hans : f_X10_answerTo σ1 (A 10 0 0) (nI idc) = some (oI σ1 (A 21 3 0) idc) := by
        simp only [f_X10_answerTo, x_gI, x_gR, x_gO, x_pI, x_pR, x_aI, x_aR, x_qI, x_qR, x_aL, oK_sI, oK_sR, oK_sC, oZ_sI, oZ_sR, oZ_sC, xI_sI, oI_sR, xI_sC, oR_sI, xR_sR, oR_sC, Option.bind_some, if_true, if_false, Nat.reduceEqDiff, true_and, and_true, false_and, and_false, k10', e4.1.r10_4, w3, y3, hid513, Nat.reduceLT]
      rw [hans, Option.bind_some]
      obtain ⟨σ2, μ2, a2, y1, y2, y3, y4⟩ := (rpl48 (l := L) e4 hr h1 h2 (by rw [hA 4 _ (by omega)]; exact b2) b1' (by rw [hA 38 _ (by omega)]; exact q2) hrid (by rw [hA 33 _ (by omega)]; exact g2) g1 (fun _ => (d4 h1).2.2))
      exact ⟨σ2, μ2, a2, y1, y2, y3, e5.tr y4.kp, (hA.tr y4.2.1).wk fun j i h => by omega⟩
    · rw [if_pos (by rw [b1_0]; exact hla), if_neg (fun h => hla (hidc.mpr h))]
      exact ⟨_, _, _, rfl, rfl, e4, e5, hA.wk fun j i h => by omega⟩
  · rw [if_pos (by rw [b1_0]; exact hlr), if_pos (by rw [b1_0]; exact hlr)]
    obtain ⟨σ2, μ2, a2, y1, y2, y3, y4⟩ := rpl48 hR hr h1 h2 b2 b1' h38 hrid g2 g1 (fun h => absurd h hlr)
    exact ⟨σ2, μ2, a2, y1, y2, y3, y4.kp, y4.2.1.wk fun j i h => by omega⟩
end RPL
