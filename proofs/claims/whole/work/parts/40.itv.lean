/-! messages of its view -/
section ITV
variable {A : Ad} {n T q : Nat} {hb : Nat → Nat} {vw : Vw} {p u : Nat → Nat} {a r : Nat} {σ σ' : Hp} {μ μ' : Mu}
theorem rcv_start (hR : RR A n T q h8 vw p u a 0 σ μ) (hr : r < n) {i : Nat} (hi202 : i < 202) {w : Nat} {L S B len : Int32} (hw : oR σ (A 5 i 0) 4 = some w) (hvw : vw w = some (L, S)) (hL : Sm T L) (hB : oI σ (A 5 i 0) 10 = B) (hl : TkL A q σ μ i len) (hp : i = p 200) : St A n T q vw p u σ μ (f_X6_receiveStart σ (A 6 r 0) (A 5 i 0)) (f_X12_start μ (nI r) L S B len) := by
  have hs := hR.1
  have h7 := hs.np
  have hr7 : r < 7 := by omega
  have k6 := hs.k6 hr
  have k5 := hs.k5 hi202
  obtain ⟨l, v, g1, g2, g3, g4, -⟩ := hR.ld hr
  obtain ⟨⟨⟨a1, a2⟩, ⟨a3, a4⟩, -⟩, -⟩ := (hR.2.2.2.2.2.1 r hr).sp
  have hwv : IsV σ w L S := hR.2.1 w L S hvw
  obtain ⟨x, e1, e2⟩ := behind g4 hwv
  have e3 := c_same hwv g4
  have hst := start36 hR hr hi202 hw hvw hL hB hl hp
  have hm : f_X12_start μ (nI r) L S B len = f_X12_start_25 μ (nI r) L S B len (b1 (L = nI l ∧ S = μ.2 34 r)) := by
    rw [f_X12_start, mA_n 33 r hr7, Option.bind_some, g2]
    by_cases c1 : L = nI l
    · rw [if_pos c1, mA_n 34 r hr7, Option.bind_some]
      by_cases c2 : S = μ.2 34 r
      · rw [if_pos c2]
        unfold b1
        rw [if_pos ⟨c1, c2⟩]
      · rw [if_neg c2, f_X12_start_24]
        unfold b1
        rw [if_neg (fun h => c2 h.2)]
    · rw [if_neg c1, f_X12_start_24]
      unfold b1
      rw [if_neg (fun h => c1 h.1)]
  rw [hm, f_X12_start_25, mA_n 33 r hr7, Option.bind_some, mA_n 34 r hr7, Option.bind_some, g2, e2, Option.bind_some]
  rw [f_X6_receiveStart]
  simp only [x_gR k6, g3, Option.bind_some, x_gR k5, hw, x_gO g4.1, x_gO hwv.1, e1, e3]
  by_cases c0 : x = 0
  · rw [if_pos c0, if_pos c0]
    by_cases c1 : b1 (L = nI l ∧ S = μ.2 34 r) = 0
    · rw [if_pos c1, if_pos c1]
      exact St.rf hR
    · rw [if_neg c1, if_neg c1, x_gI k6, Option.bind_some, a3, mA_n 35 r hr7, Option.bind_some]
      by_cases c2 : μ.2 35 r = 2
      · rw [if_pos c2, if_pos c2]
        exact hst
      · rw [if_neg c2, if_neg c2]
        exact St.rf hR
  · rw [if_neg c0, if_neg c0]
    exact hst
theorem rcv_point (hR : RR A n T q h8 vw p u a 0 σ μ) (hr : r < n) (t : Int32) {y : Int32} (x3 : Int32) (hk : ¬ y = 1 ∧ ¬ y = 2 ∧ ¬ y = 3 ∧ ¬ y = 4 ∧ ¬ y = 5 ∧ ¬ y = 6) (x5 : Int32) : St A n T q vw p u σ μ (f_X6_receivePoint σ (A 6 r 0) t) (f_X12_inView μ y (nI r) x3 t x5) := by
  have hs := hR.1
  have h7 := hs.np
  have hr7 : r < 7 := by omega
  have k6 := hs.k6 hr
  obtain ⟨l, v, g1, g2, g3, g4, g5, g6, -⟩ := hR.ld hr
  obtain ⟨⟨⟨a1, a2⟩, ⟨a3, a4⟩, -, -, a7, a8, a9⟩, -⟩ := (hR.2.2.2.2.2.1 r hr).sp
  obtain ⟨y1, y2, y3, y4, y5, y6⟩ := hk
  rw [f_X12_inView, if_neg y1, if_neg y2, if_neg y3, if_neg y4, if_neg y5, if_neg y6, g6, Option.bind_some, f_X6_receivePoint, x_gO k6, Option.bind_some, g5, Option.bind_some]
  by_cases c0 : b1 (l % n = r) = 0
  · rw [if_pos c0, if_pos c0, x_gI k6, Option.bind_some, a3, mA_n 35 r hr7, Option.bind_some]
    by_cases c1 : μ.2 35 r = 2
    · rw [if_pos c1, if_pos c1]
      exact St.rf hR
    · rw [if_neg c1, if_neg c1, x_gI k6, Option.bind_some, a8, mA_n 40 r hr7, Option.bind_some]
      by_cases c2 : t ≤ μ.2 40 r
      · rw [if_pos c2, if_pos c2]
        exact St.rf hR
      · rw [if_neg c2, if_neg c2, x_gI k6, Option.bind_some, a9, mA_n 41 r hr7, Option.bind_some]
        by_cases c3 : μ.2 41 r < t
        · rw [if_pos c3, if_pos c3]
          exact St.rf hR
        · rw [if_neg c3, if_neg c3, x_pI k6, Option.bind_some, mQ_n 40 r _ hr7, Option.bind_some]
          exact ⟨_, _, a, vw, rfl, rfl, Vle.rf, set6 hR hr (k := 7) (j := 40) (Or.inr (Or.inr (Or.inl ⟨rfl, rfl⟩))), Kp.one hs.1 (by omega) (by omega)⟩
  · rw [if_neg c0, if_neg c0]
    exact St.rf hR
/-- the log at a number -/
theorem lhas (hR : RR A n T q hb vw p u a 0 σ μ) (hr : r < n) (t : Int32) : ∃ l, l ≤ 100 ∧ μ.2 38 r = nI l ∧ oI σ (A 32 r 0) 1 = nI l ∧ ((∃ k, k < l ∧ t = nI (k + 1) ∧ f_X4_has σ (A 32 r 0) t = some 1 ∧ f_X4_at σ (A 32 r 0) t = some (μ.2 42 (100 * r + k)) ∧ Sm q (μ.2 42 (100 * r + k)) ∧ ¬ t < 1 ∧ t ≤ nI l ∧ m_A μ 42 (((100 : Int32) * nI r + t) - 1) = some (μ.2 42 (100 * r + k))) ∨ (f_X4_has σ (A 32 r 0) t = some 0 ∧ f_X4_at σ (A 32 r 0) t = some 0 ∧ (t < 1 ∨ (¬ t < 1 ∧ ¬ t ≤ nI l)))) := by
  have hs := hR.1
  have h7 := hs.np
  obtain ⟨-, ⟨l, q1, q2, q3, q4⟩, -, -⟩ := (hR.2.2.2.2.2.1 r hr).sp
  have k32 := hs.k32 hr
  refine ⟨l, q1, q2, q3, ?_⟩
  by_cases c1 : t < 1
  · right
    exact ⟨by rw [f_X4_has, if_pos c1], by rw [f_X4_at, if_pos c1], Or.inl c1⟩
  · by_cases c2 : nI l < t
    · right
      refine ⟨by rw [f_X4_has, if_neg c1, x_gI k32, Option.bind_some, q3, if_pos c2], by rw [f_X4_at, if_neg c1, x_gI k32, Option.bind_some, q3, if_pos c2], Or.inr ⟨c1, fun h => ?_⟩⟩
      rw [Int32.lt_iff_toInt_lt] at c2
      rw [Int32.le_iff_toInt_le] at h
      omega
    · left
      obtain ⟨j, hj, rfl⟩ := nI_of (x := t) (fun h => c1 (by
        rw [Int32.lt_iff_toInt_lt] at h ⊢
        have e0 : (0 : Int32).toInt = 0 := by decide
        have e1 : (1 : Int32).toInt = 1 := by decide
        omega))
      rw [l1, nI_ltI hj (by omega)] at c1
      rw [nI_ltI (by omega) hj] at c2
      obtain ⟨k, rfl⟩ : ∃ k, j = k + 1 := ⟨j - 1, by omega⟩
      have hkl : k < l := by omega
      have c1' : ¬ nI (k + 1) < (1 : Int32) := by rw [l1, nI_ltI hj (by omega)]; omega
      have c2' : ¬ nI l < nI (k + 1) := by rw [nI_ltI (by omega) hj]; omega
      obtain ⟨w1, w2⟩ := q4 k hkl
      rw [rwM_at (by omega)] at w1 w2
      refine ⟨k, hkl, rfl, by rw [f_X4_has, if_neg c1', x_gI k32, Option.bind_some, q3, if_neg c2'], ?_, w2, c1', by rw [nI_leI hj (by omega)]; omega, ?_⟩
      · rw [c_lat k32 (hs.r32_0 hr) (hs.k33 hr) (hs.z33 hr) q3 hkl q1, w1]
      · rw [l100, pk_mul, nI_add, show 100 * r + (k + 1) = (100 * r + k) + 1 by omega, nI_pred, mA_n 42 _ (by simp only [mZ]; omega)]
end ITV
