/-! lookup, found, gaps -/
section LKP
variable {A : Ad} {n T q : Nat} {hb : Nat → Nat} {vw : Vw} {p u : Nat → Nat} {a r : Nat} {σ σ' : Hp} {μ μ' : Mu}
/-- a message that brings an entry -/
theorem sd2 (hR : RR A n T q hb vw p u a 0 σ μ) (hr : r < n) {to : Nat} (hto : to < n) {t x : Int32} (ht : Rid 100 t) (hx : Rid q x) : ∃ m0 σ1 w a', f_X6_send σ (A 6 r 0) 2 (nI to) t = some (A 5 m0 0, σ1) ∧ f_X12_send μ 2 (nI r) (nI to) (μ.2 33 r) (μ.2 34 r) t x = some w ∧ m0 < 202 ∧ Rs A n σ1 ∧ Ag A σ σ1 (fun s i => s ≠ 1 ∧ ¬ (s = 5 ∧ i = m0)) ∧ RR A n T q hb vw p u a' 0 (sI σ1 (A 5 m0 0) 7 x) w.2 ∧ Kq A p σ (sI σ1 (A 5 m0 0) 7 x) μ w.2 := by
  obtain ⟨m0, σ1, mm, μ1, h1, h2, h3, h4, h5⟩ := rep_send hR hr (nI 2) (nI to) t t x
  obtain ⟨s1, s2⟩ := h3.st
  have hi := hR.1.inj
  have hn := hR.1.np
  have k5' := s1.k5 h3.1.1
  have n5 : oK σ1 (A 5 m0 0) ≠ 9 := by rw [k5']; decide
  obtain ⟨⟨g1, l, g2, g3⟩, -⟩ := (hR.2.2.2.2.2.1 r hr).2.2
  obtain ⟨a', f1, f2⟩ := (h3.wI (x := x) (k := 7) (by decide) s1 s2).fin (μ2 := μ1) (s1.sI rfl) (s2.sI n5) Ag.rf (fun _ => rfl) (fun m hm e => by
    obtain ⟨-, ⟨b1, b2, b3, b4⟩, c18, c19, c20, c21, c22, c23, c24, c30, c29⟩ := h3.at hm e
    refine ⟨⟨AgM.rf, rfl⟩, ⟨?_, ?_, ?_, ?_⟩, 2, to, by omega, c18, c20, by omega, fun _ => hto, by omega, fun _ => ⟨?_, l, r, g2, c21.trans g3, hr, c19, by omega, by omega⟩, fun h => ?_, fun h => ⟨?_, ?_⟩, fun h => ?_, by omega, by omega, fun _ _ _ => c29, by omega, by omega⟩
    · simp only [oK_sI, oK_sR, oK_sC, oZ_sI, oZ_sR, oZ_sC, xI_sI, oI_sR, xI_sC, oR_sI, xR_sR, oR_sC, Option.bind_some, if_true, if_false, Nat.reduceEqDiff, true_and, and_true, false_and, and_false, hi, b1]
    · simp only [oK_sI, oK_sR, oK_sC, oZ_sI, oZ_sR, oZ_sC, xI_sI, oI_sR, xI_sC, oR_sI, xR_sR, oR_sC, Option.bind_some, if_true, if_false, Nat.reduceEqDiff, true_and, and_true, false_and, and_false, hi, b2, c18]
    · simp only [oK_sI, oK_sR, oK_sC, oZ_sI, oZ_sR, oZ_sC, xI_sI, oI_sR, xI_sC, oR_sI, xR_sR, oR_sC, Option.bind_some, if_true, if_false, Nat.reduceEqDiff, true_and, and_true, false_and, and_false, hi, b3, c19]
    · simp only [oK_sI, oK_sR, oK_sC, oZ_sI, oZ_sR, oZ_sC, xI_sI, oI_sR, xI_sC, oR_sI, xR_sR, oR_sC, Option.bind_some, if_true, if_false, Nat.reduceEqDiff, true_and, and_true, false_and, and_false, hi, b4, c20]
    · rw [c21, c22]
      simp only [oK_sI, oK_sR, oK_sC, oZ_sI, oZ_sR, oZ_sC, xI_sI, oI_sR, xI_sC, oR_sI, xR_sR, oR_sC, Option.bind_some, if_true, if_false, Nat.reduceEqDiff, true_and, and_true, false_and, and_false, h4]
      exact g1
    · simp only [oK_sI, oK_sR, oK_sC, oZ_sI, oZ_sR, oZ_sC, xI_sI, oI_sR, xI_sC, oR_sI, xR_sR, oR_sC, Option.bind_some, if_true, if_false, Nat.reduceEqDiff, true_and, and_true, false_and, and_false, hi, h5, c23]
    · simp only [oK_sI, oK_sR, oK_sC, oZ_sI, oZ_sR, oZ_sC, xI_sI, oI_sR, xI_sC, oR_sI, xR_sR, oR_sC, Option.bind_some, if_true, if_false, Nat.reduceEqDiff, true_and, and_true, false_and, and_false, hi, c24]
    · rw [c24]; exact hx
    · rw [c23]; exact ht)
  exact ⟨m0, σ1, (mm, μ1), a', h1, h2, h3.1.1, s1, h3.2.1, f1, f2⟩
theorem Sm.rid {q : Nat} {x : Int32} (h : Sm q x) (h0 : ¬ x = 0) : Rid q x := by
  obtain ⟨k, h1, rfl⟩ := h
  exact ⟨k, by
    have : k ≠ 0 := fun e => h0 (by rw [e]; rfl)
    omega, h1, rfl⟩
theorem rcv_lookup (hR : RR A n T q h8 vw p u a 0 σ μ) (hr : r < n) {fr : Nat} (hfr : fr < n) (t : Int32) : St A n T q vw p u σ μ (f_X6_receiveLookup σ (A 6 r 0) (nI fr) t) (f_X12_lookup μ (nI r) (nI fr) t) := by
  have hs := hR.1
  have h7 := hs.np
  have hr7 : r < 7 := by omega
  have k6 := hs.k6 hr
  have k32 := hs.k32 hr
  have r60 := hs.r6_0 hr
  obtain ⟨L, v, g1, g2, g3, g4, g5, g6, -⟩ := hR.ld hr
  obtain ⟨⟨⟨a1, a2⟩, ⟨a3, a4⟩, -, -, a7, a8, a9⟩, -⟩ := (hR.2.2.2.2.2.1 r hr).sp
  obtain ⟨l, q1, q2, q3, hcase⟩ := lhas hR hr t
  rw [f_X6_receiveLookup, x_gO k6, g5, f_X12_lookup, g6]
  simp only [Option.bind_some]
  by_cases c0 : b1 (L % n = r) = 0
  · rw [if_pos c0, if_pos c0]
    exact St.rf hR
  · rw [if_neg c0, if_neg c0, x_gI k6, Option.bind_some, a3, mA_n 35 r hr7, Option.bind_some]
    by_cases c1 : μ.2 35 r = 2
    · rw [if_pos c1, if_pos c1]
      exact St.rf hR
    · rw [if_neg c1, if_neg c1, x_gR k6, r60, Option.bind_some, x_gO k32, Option.bind_some]
      rcases hcase with ⟨k, hk, e1, e2, e3, e4, e5, e6, e7⟩ | ⟨e1, e2, e3⟩
      · have ht : Rid 100 t := ⟨k + 1, by omega, by omega, e1⟩
        rw [e2, Option.bind_some, if_neg (by decide), if_neg e5, mA_n 38 r hr7, q2]
        simp only [Option.bind_some]
        rw [x_gO k32, Option.bind_some, e3, Option.bind_some, if_pos e6, e7, Option.bind_some]
        by_cases c2 : μ.2 42 (100 * r + k) = 0
        · obtain ⟨v', w, a', f1, f2, f3, f4⟩ := sd1 (t := t) (tc := t) (ab := μ.2 42 (100 * r + k)) hR hr (x := 3) (kk := 3) rfl (by omega) hfr (fun _ => rfl) (fun _ => ht)
          rw [if_pos c2, if_pos c2, f1, Option.bind_some, f_X12_lookup_60, mA_n 33 r hr7, Option.bind_some, mA_n 34 r hr7, Option.bind_some, f2, Option.bind_some]
          exact ⟨_, _, a', vw, rfl, rfl, Vle.rf, f3, f4.kp⟩
        · obtain ⟨m0, σ1, w, a', f1, f2, f3, f4, f5, f6, f7⟩ := sd2 hR hr hfr ht (e4.rid c2)
          have k6' := f4.k6 hr
          have k32' := f4.k32 hr
          have k5' := f4.k5 f3
          have hat : f_X4_at σ1 (A 32 r 0) t = some (μ.2 42 (100 * r + k)) := by
            have w1 : oI σ (A 33 r 0) k = μ.2 42 (100 * r + k) := by
              have := c_lat k32 (hs.r32_0 hr) (hs.k33 hr) (hs.z33 hr) q3 hk q1
              rw [← e1, e3] at this
              exact (Option.some.inj this).symm
            rw [e1, c_lat k32' (f4.r32_0 hr) (f4.k33 hr) (f4.z33 hr) (by rw [(f5 32 r 0 (by omega)).1]; exact q3) hk q1, (f5 33 r 0 (by omega)).1, w1]
          rw [if_neg c2, if_neg c2, f1, Option.bind_some, f_X12_lookup_60, mA_n 33 r hr7, Option.bind_some, mA_n 34 r hr7, Option.bind_some, f2, Option.bind_some, x_gR k6', f4.r6_0 hr, Option.bind_some, x_gO k32', Option.bind_some, hat, Option.bind_some, x_pI k5', Option.bind_some]
          exact ⟨_, _, a', vw, rfl, rfl, Vle.rf, f6, f7.kp⟩
      · rw [e1, Option.bind_some, if_pos rfl]
        rcases e3 with e3 | ⟨e3, e4⟩
        · rw [if_pos e3]
          exact St.rf hR
        · rw [if_neg e3, mA_n 38 r hr7, Option.bind_some, q2, if_neg e4]
          exact St.rf hR
theorem rcv_found (hR : RR A n T q h8 vw p u a 0 σ μ) (hr : r < n) {t x x3 : Int32} (ht : Rid 100 t) (hx : Rid q x) : St A n T q vw p u σ μ (f_X6_receiveFound σ (A 6 r 0) t x) (f_X12_inView μ 2 (nI r) x3 t x) := by
  have hs := hR.1
  have h7 := hs.np
  have hr7 : r < 7 := by omega
  have k6 := hs.k6 hr
  have k3 := hs.k3 hr
  have k32 := hs.k32 hr
  obtain ⟨⟨⟨a1, a2⟩, ⟨a3, a4⟩, -, -, a7, a8, a9⟩, ⟨l, q1, q2, q3, q4⟩, -⟩ := (hR.2.2.2.2.2.1 r hr).sp
  rw [f_X12_inView, if_neg (by decide), if_pos rfl, mA_n 35 r hr7, Option.bind_some, f_X6_receiveFound, x_gI k6, Option.bind_some, a3]
  by_cases c0 : μ.2 35 r = 0
  · rw [if_pos c0, if_pos c0, x_gR k6, hs.r6_0 hr, Option.bind_some, x_gI k32, Option.bind_some, q3, mA_n 38 r hr7, Option.bind_some, q2, nI_1]
    by_cases c1 : t = nI (l + 1)
    · rw [if_pos c1, if_pos c1, x_gR k6, hs.r6_1 hr, Option.bind_some, x_gO k3, Option.bind_some, mA_n 39 r hr7, Option.bind_some, c1]
      have hl : l < 100 := by
        obtain ⟨j, j1, j2, j3⟩ := ht
        have := (nI_eq (by omega) (by omega)).mp (c1.symm.trans j3)
        omega
      exact fnd hR hr hl q2 hx
    · rw [if_neg c1, if_neg c1]
      exact St.rf hR
  · rw [if_neg c0, if_neg c0]
    exact St.rf hR
theorem b7or {x : Int32} {fr : Nat} (h : B7 x) (hf : fr < 7) : ∃ b, b < 128 ∧ x ||| ((1 : Int32) <<< (nI fr &&& 31)) = nI b ∧ B7 (nI b) := by
  obtain ⟨b, h1, rfl⟩ := h
  obtain ⟨h2, h3⟩ := bit_or b h1 fr hf
  exact ⟨b ||| 2 ^ fr, h3, h2, b ||| 2 ^ fr, h3, rfl⟩
theorem rcv_gapReply (hR : RR A n T q h8 vw p u a 0 σ μ) (hr : r < n) {fr : Nat} (hfr : fr < n) (t : Int32) : St A n T q vw p u σ μ (f_X6_receiveGapReply σ (A 6 r 0) (nI fr) t) (f_X12_gapReply μ (nI r) (nI fr) t) := by
  have hs := hR.1
  have h7 := hs.np
  have hi := hs.inj
  have hr7 : r < 7 := by omega
  have k6 := hs.k6 hr
  have k8 := hs.k8 hr
  have k32 := hs.k32 hr
  obtain ⟨L, v, g1, g2, g3, g4, g5, g6, -⟩ := hR.ld hr
  obtain ⟨⟨⟨a1, a2⟩, ⟨a3, a4⟩, -, -, a7, a8, a9⟩, ⟨l, q1, q2, q3, q4⟩, -, ⟨t1, t2, -⟩⟩ := (hR.2.2.2.2.2.1 r hr).sp
  rw [f_X6_receiveGapReply, x_gO k6, Option.bind_some, g5, Option.bind_some, f_X12_gapReply, g6, Option.bind_some]
  by_cases c0 : b1 (L % n = r) = 0
  · rw [if_pos c0, if_pos c0]
    exact St.rf hR
  · rw [if_neg c0, if_neg c0, x_gI k6, Option.bind_some, a3, mA_n 35 r hr7, Option.bind_some]
    by_cases c1 : μ.2 35 r = 1
    · rw [if_pos c1, if_pos c1, x_gR k6, hs.r6_0 hr, Option.bind_some, x_gI k32, Option.bind_some, q3, mA_n 38 r hr7, Option.bind_some, q2]
      by_cases c2 : t = nI l
      · obtain ⟨b, w1, w2, w3⟩ := b7or t2 (by omega : fr < 7)
        have hR1 := set8 hR hr (k := 0) (j := 46) (x := nI b) (Or.inl ⟨rfl, rfl, w3⟩)
        have hk1 : Kp A n p σ (sI σ (A 8 r 0) 0 (nI b)) μ (mT μ 46 r (nI b)) := Kp.one hs.1 (by omega) (by omega)
        have he := enough hR1.1 hr w1
        have k6' := hR1.1.k6 hr
        have k8' := hR1.1.k8 hr
        have h2 : μ.1 2 = nI (n / 2) := hR.2.2.1.2.2.2.2.2
        have cl := cnt_le b
        have e46 : (mT μ 46 r (nI b)).2 46 r = nI b := by simp only [m_P, mT_2, mT_1, mS_1, mS_2, Option.bind_some, Nat.reduceEqDiff, if_true, if_false, true_and, and_true, false_and, and_false]
        have e8 : oI (sI σ (A 8 r 0) 0 (nI b)) (A 8 r 0) 0 = nI b := by simp only [oK_sI, oK_sR, oK_sC, oZ_sI, oZ_sR, oZ_sC, xI_sI, oI_sR, xI_sC, oR_sI, xR_sR, oR_sC, Option.bind_some, if_true, if_false, Nat.reduceEqDiff, true_and, and_true, false_and, and_false]
        rw [if_pos c2, if_pos c2, x_gR k6, hs.r6_14 hr, Option.bind_some, x_gI k8, Option.bind_some, t1, w2, x_pI k8, Option.bind_some, x_gR k6', hR1.1.r6_14 hr, Option.bind_some, x_gI k8', Option.bind_some, x_gO k6', Option.bind_some, e8, he, Option.bind_some, mA_n 46 r hr7, Option.bind_some, w2, mQ_n 46 r _ hr7, Option.bind_some, mA_n 46 r hr7, Option.bind_some, e46, bit_m b w1, Option.bind_some, show (mT μ 46 r (nI b)).1 2 = nI (n / 2) from h2]
        by_cases c3 : n / 2 ≤ cnt b
        · have d1 := set6 hR1 hr (k := 3) (j := 35) (x := 0) (Or.inr (Or.inl ⟨rfl, rfl, Sm.z 2⟩))
          rw [if_neg (by rw [b1_0]; exact fun h => h c3), if_pos ((nI_leI (by omega) (by omega)).mpr c3), x_pI k6', Option.bind_some, mQ_n 35 r _ hr7, Option.bind_some, x_gO (d1.1.k6 hr), Option.bind_some]
          exact ((tk d1 hr).ret.tr (Kp.s35 hs.1 (fun h => absurd h (by decide)))).tr hk1
        · rw [if_pos (by rw [b1_0]; exact c3), if_neg (fun h => c3 ((nI_leI (by omega) (by omega)).mp h))]
          exact (St.rf hR1).tr hk1
      · rw [if_neg c2, if_neg c2]
        exact St.rf hR
    · rw [if_neg c1, if_neg c1]
      exact St.rf hR
end LKP
