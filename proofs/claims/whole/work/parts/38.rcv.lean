/-! comparing views -/
section RCV
variable {A : Ad} {n T q : Nat} {hb : Nat → Nat} {vw : Vw} {p u : Nat → Nat} {a r : Nat} {σ σ' : Hp} {μ μ' : Mu}
theorem behind {v w : Nat} {L S L' S' : Int32} (hv : IsV σ v L S) (hw : IsV σ w L' S') : ∃ x, f_X9_isBehind σ v w = some x ∧ f_X12_isBehind L S L' S' = some x := by
  refine ⟨if L < L' then (if L' < L then 0 else if S' < S then 0 else 1) else if S' ≤ S then 0 else (if L' < L then 0 else if S' < S then 0 else 1), ?_, ?_⟩
  · have hsm := c_same hv hw
    unfold f_X9_isBehind
    rw [x_gI hv.1, Option.bind_some, x_gI hw.1, Option.bind_some, hv.2.1, hw.2.1, x_gI hv.1, Option.bind_some, x_gI hw.1, Option.bind_some, hv.2.2, hw.2.2, x_gO hv.1, Option.bind_some, hsm, Option.bind_some]
    simp only [b1_0]
    have e1 : (L = L') ↔ L.toInt = L'.toInt := Int32.toInt_inj.symm
    have e2 : (S = S') ↔ S.toInt = S'.toInt := Int32.toInt_inj.symm
    simp only [Int32.lt_iff_toInt_lt, Int32.le_iff_toInt_le, e1, e2]
    by_cases h1 : L'.toInt < L.toInt
    · rw [if_pos h1, if_neg (by omega)]
      by_cases h2 : S'.toInt ≤ S.toInt
      · rw [if_pos h2]
      · rw [if_neg h2, if_pos h1]
    · rw [if_neg h1]
      by_cases h2 : S'.toInt < S.toInt
      · rw [if_pos h2, if_neg h1, if_pos h2]
        by_cases h3 : L.toInt < L'.toInt
        · rw [if_pos h3]
        · rw [if_neg h3, if_pos (by omega)]
      · rw [if_neg h2, if_neg h1, if_neg h2]
        by_cases h3 : L.toInt < L'.toInt
        · rw [if_pos h3, if_pos (by omega)]
        · rw [if_neg h3]
          by_cases h4 : S'.toInt ≤ S.toInt
          · rw [if_pos h4, if_neg (by omega)]
          · rw [if_neg h4, if_pos (by omega)]
  · unfold f_X12_isBehind f_X12_isBehind_10
    by_cases h1 : L < L'
    · rw [if_pos h1, if_pos h1]
      by_cases h2 : L' < L
      · rw [if_pos h2, if_pos h2]
      · rw [if_neg h2, if_neg h2]
        by_cases h3 : S' < S
        · rw [if_pos h3, if_pos h3]
        · rw [if_neg h3, if_neg h3]
    · rw [if_neg h1, if_neg h1]
      by_cases h0 : S' ≤ S
      · rw [if_pos h0, if_pos h0]
      · rw [if_neg h0, if_neg h0]
        by_cases h2 : L' < L
        · rw [if_pos h2, if_pos h2]
        · rw [if_neg h2, if_neg h2]
          by_cases h3 : S' < S
          · rw [if_pos h3, if_pos h3]
          · rw [if_neg h3, if_neg h3]
/-- stamped requests -/
theorem rcv_stamped (hR : RR A n T q h8 vw p u a 0 σ μ) (hr : r < n) {m : Nat} {s t x : Int32} (hm5 : oK σ m = 5) (hmo : m ≠ oN σ) (h5 : oI σ m 5 = s) (h6 : oI σ m 6 = t) (h7' : oI σ m 7 = x) (hx : Rid q x) : St A n T q vw p u σ μ (f_X6_receiveStamped σ (A 6 r 0) m) (f_X12_stamped μ (nI r) s t x) := by
  have hs := hR.1
  have h7 := hs.np
  have hi := hs.inj
  have hI := hs.1
  have hr7 : r < 7 := by omega
  have k6 := hs.k6 hr
  have k3 := hs.k3 hr
  have k32 := hs.k32 hr
  obtain ⟨L, v, g1, g2, g3, g4, -⟩ := hR.ld hr
  obtain ⟨⟨⟨a1, a2⟩, ⟨a3, a4⟩, a5, a6, a7, a8, a9⟩, ⟨l, q1, q2, q3, q4⟩, ⟨h, b1', b2, b3, b4, b5⟩, gT⟩ := (hR.2.2.2.2.2.1 r hr).sp
  have b1'' : h ≤ 8 := b1'
  rw [f_X12_stamped, mA_n 34 r hr7, Option.bind_some]
  simp only [f_X6_receiveStamped, x_gI, x_gR, x_gO, x_pI, x_pR, x_aI, x_aR, x_qI, x_qR, x_aL, oK_sI, oK_sR, oK_sC, oZ_sI, oZ_sR, oZ_sC, xI_sI, oI_sR, xI_sC, oR_sI, xR_sR, oR_sC, Option.bind_some, if_true, if_false, Nat.reduceEqDiff, true_and, and_true, false_and, and_false, k6, hm5, h5, h6, g3, g4.1, g4.2.2, a7]
  by_cases c1 : s ≤ μ.2 34 r
  · simp only [if_pos c1]
    by_cases c2 : s < μ.2 34 r
    · have c3 : ¬ s = μ.2 34 r := fun e => by rw [e, Int32.lt_iff_toInt_lt] at c2; omega
      simp only [if_pos c2, if_neg c3]
      exact St.rf hR
    · have c3 : s = μ.2 34 r := by
        rw [Int32.lt_iff_toInt_lt] at c2
        rw [Int32.le_iff_toInt_le] at c1
        exact Int32.toInt_inj.mp (by omega)
      simp only [if_neg c2, if_pos c3, mA_n 35 r hr7, Option.bind_some, a3]
      by_cases c4 : μ.2 35 r = 2
      · simp only [if_pos c4]
        exact St.rf hR
      · simp only [if_neg c4, hs.r6_0 hr, k32, x_gI, Option.bind_some, q3, mA_n 39 r hr7, mA_n 38 r hr7, q2]
        by_cases c5 : μ.2 39 r + t ≤ nI l
        · simp only [if_pos c5]
          exact St.rf hR
        · have hsl : μ.2 39 r + t = μ.2 39 r + t := rfl
          obtain ⟨y, h2, d1, d2, d3, d4, d5⟩ := hld hR hr (by decide : (8 : Nat) ≤ 9) hsl
          have d1' : h2 ≤ 8 := d1
          obtain rfl : h2 = h := (nI_eq (by omega) (by omega)).mp (d2.symm.trans b2)
          have eh : f_X3_has σ (A 3 r 0) (μ.2 39 r + t) = some (if y = -1 then 0 else 1) := by
            rw [f_X3_has, x_gO k3, Option.bind_some, d3, Option.bind_some]
            by_cases hy : y = -1
            · rw [if_pos hy, if_pos hy]
            · rw [if_neg hy, if_neg hy]
          rw [if_neg c5, if_neg c5, hs.r6_1 hr, Option.bind_some, x_gO k3, Option.bind_some, eh, d4, Option.bind_some, Option.bind_some]
          by_cases hy : y = -1
          · rw [if_pos hy, if_pos rfl]
            simp only [Option.bind_some]
            rw [if_pos hy, mA_n 43 r hr7, Option.bind_some, b2, x_gI k3, Option.bind_some, b3]
            by_cases c6 : nI h2 < (8 : Int32)
            · have c6' : h2 < 8 := by
                rw [show (8 : Int32) = nI 8 from rfl, nI_ltI (by omega) (by omega)] at c6
                exact c6
              rw [hy] at d3 d4
              obtain ⟨σ1, μ1, t1, t2, t3, t4, t5, t6, -⟩ := hap hR hr (by decide : (7 : Nat) ≤ 8) b2 (by omega) hx hsl (by decide : (8 : Nat) ≤ 9) d4 d3
              have t3' : RR A n T q h8 vw p u a 0 σ1 μ1 := t3.hbm (fun i => by
                show (if i = r then h2 + 1 else h8 i) ≤ 8
                by_cases hir : i = r
                · rw [if_pos hir]; omega
                · rw [if_neg hir]; exact Nat.le_refl _)
              have hk : Kp A n p σ σ1 μ μ1 := Kp.mk' (t4.wk fun s i h => by omega) (t5.wk fun j i h => by omega) (fun k _ _ _ => by rw [t6])
              have k6' := t3'.1.k6 hr
              have e3 : oI σ1 (A 6 r 0) 3 = μ.2 35 r := by rw [(t4 6 r 0 (by omega)).1]; exact a3
              have e35 : μ1.2 35 r = μ.2 35 r := t5 35 r (by omega)
              rw [if_pos c6, if_pos c6]
              simp only [h7', k3, x_gO, Option.bind_some, t1, t2, x_gI k6', e3, mA_n 35 r hr7, e35]
              by_cases c7 : μ.2 35 r = 0
              · rw [if_pos c7, if_pos c7, x_gO k6', Option.bind_some]
                exact (tk t3' hr).ret.tr hk
              · rw [if_neg c7, if_neg c7]
                exact (St.rf t3').tr hk
            · rw [if_neg c6, if_neg c6]
              exact St.rf hR
          · rw [if_neg hy, if_neg (by decide)]
            simp only [Option.bind_some]
            rw [if_neg hy]
            exact St.rf hR
  · simp only [if_neg c1]
    have hnm : A 6 r 0 ≠ oN σ := fun e => by
      have h1 := hs.2.2.2.2.1 (oN σ) (Nat.le_refl _)
      rw [← e, k6] at h1
      exact absurd h1 (by decide)
    have hnv : v ≠ oN σ := fun e => by
      have h1 := hs.2.2.2.2.1 (oN σ) (Nat.le_refl _)
      rw [← e, g4.1] at h1
      exact absurd h1 (by decide)
    have e0 : ∀ b, b ≠ oN σ → oK (nw σ 9 0) b = oK σ b ∧ oI (nw σ 9 0) b = oI σ b ∧ oR (nw σ 9 0) b = oR σ b := fun b hb => ⟨va_up_ne _ _ hb, va_up_ne _ _ hb, va_up_ne _ _ hb⟩
    have e9 : oK (nw σ 9 0) (oN σ) = 9 := va_up_self _ _ _
    obtain ⟨vw', w1, w2, w3, w4⟩ := hR.ofV (nI L) s
    have hk6 := w3.1.k6 hr
    have ha5 : Sm T (nI L) := by rw [← g2]; exact a5.2
    have hcl : f_X9_init (nw σ 9 0) (oN σ) (nI L) s = some (mkV σ (nI L) s) := by
      simp only [f_X9_init, x_gI, x_gR, x_gO, x_pI, x_pR, x_aI, x_aR, x_qI, x_qR, x_aL, oK_sI, oK_sR, oK_sC, oZ_sI, oZ_sR, oZ_sC, xI_sI, oI_sR, xI_sC, oR_sI, xR_sR, oR_sC, Option.bind_some, if_true, if_false, Nat.reduceEqDiff, true_and, and_true, false_and, and_false, e9]
      rfl
    simp only [x_gR ((e0 _ hnm).1.trans k6), (e0 _ hnm).2.2, g3, Option.bind_some, x_gI ((e0 _ hnv).1.trans g4.1), (e0 _ hnv).2.1, g4.2.1, x_gI ((e0 _ hmo).1.trans hm5), (e0 _ hmo).2.1, h5, hcl, x_gO hk6, mA_n 33 r hr7, g2]
    exact ((rep_turn w3 hr w2 ha5).ret).trv w1 w4
end RCV
