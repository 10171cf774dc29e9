/-! messages of any view -/
section ANY
variable {A : Ad} {n T q : Nat} {hb : Nat → Nat} {vw vw' : Vw} {p u : Nat → Nat} {a r b : Nat} {σ σ' : Hp} {μ μ' : Mu}
/-- the message taken out stays -/
theorem Kp.msg (hk : Kp A n p σ σ' μ μ') {i : Nat} (hi202 : i < 202) (hp : i = p 200) : oI σ' (A 5 i 0) = oI σ (A 5 i 0) ∧ oR σ' (A 5 i 0) = oR σ (A 5 i 0) := hk.1 5 i 0 (Rs.d5 hi202) (Or.inl ⟨hp, Or.inl rfl⟩)
theorem Kp.tkl (hk : Kp A n p σ σ' μ μ') {i : Nat} (hi202 : i < 202) (hp : i = p 200) {len : Int32} (h : TkL A q σ μ i len) : TkL A q σ' μ' i len := by
  have e1 := (hk.1 30 i 0 (Rs.d30 hi202) (Or.inl ⟨hp, Or.inr (Or.inl rfl)⟩)).1
  have e2 := (hk.1 31 i 0 (Rs.d31 hi202) (Or.inl ⟨hp, Or.inr (Or.inr rfl)⟩)).1
  have e3 : ∀ k, μ'.2 56 k = μ.2 56 k := fun k => hk.2.1 56 k (Or.inl rfl)
  unfold TkL at h ⊢
  rw [e1, e2]
  simp only [e3]
  exact h
theorem rcv_any10 (hR : RR A n T q h8 vw p u a 0 σ μ) (hr : r < n) {i : Nat} (hi202 : i < 202) (hp : i = p 200) (h1 : oI σ (A 5 i 0) 1 = nI 10) {w : Nat} {L S B len : Int32} (hw : oR σ (A 5 i 0) 4 = some w) (hvw : vw w = some (L, S)) (hL : Sm T L) (hB : oI σ (A 5 i 0) 10 = B) (hl : TkL A q σ μ i len) : St A n T q vw p u σ μ (f_X6_receiveOfAnyView σ (A 6 r 0) (A 5 i 0)) (f_X12_start μ (nI r) L S B len) := by
  have hs := hR.1
  have h7 := hs.np
  have hr7 : r < 7 := by omega
  have k6 := hs.k6 hr
  have k5 := hs.k5 hi202
  obtain ⟨l, v, g1, g2, g3, g4, -⟩ := hR.ld hr
  obtain ⟨⟨-, ⟨a3, -⟩, -⟩, -⟩ := (hR.2.2.2.2.2.1 r hr).sp
  have hwv : IsV σ w L S := hR.2.1 w L S hvw
  obtain ⟨x, e1, e2⟩ := behind g4 hwv
  have e3 := c_same hwv g4
  have h36 := start36 hR hr hi202 hw hvw hL hB hl hp
  have hm : f_X12_start μ (nI r) L S B len = f_X12_start_25 μ (nI r) L S B len (b1 (L = nI l ∧ S = μ.2 34 r)) := by
    rw [f_X12_start, mA_n 33 r hr7, Option.bind_some, g2]
    unfold b1
    by_cases c1 : L = nI l
    · rw [if_pos c1, mA_n 34 r hr7, Option.bind_some]
      by_cases c2 : S = μ.2 34 r
      · rw [if_pos c2, if_pos ⟨c1, c2⟩]
      · rw [if_neg c2, if_neg (fun h => c2 h.2)]
        rfl
    · rw [if_neg c1, if_neg (fun h => c1 h.1)]
      rfl
  rw [hm, f_X12_start_25, mA_n 33 r hr7, Option.bind_some, mA_n 34 r hr7, Option.bind_some, g2, e2, Option.bind_some, f_X6_receiveOfAnyView, x_gI k5, Option.bind_some, h1, if_pos (by decide), x_gO k6, Option.bind_some, f_X6_receiveStart, x_gR k6, g3, Option.bind_some, x_gR k5, hw, Option.bind_some, x_gO g4.1, Option.bind_some, e1, Option.bind_some]
  by_cases c0 : x = 0
  · rw [if_pos c0, if_pos c0]
    simp only [Option.bind_some, x_gO hwv.1, e3, x_gI k6, a3, mA_n 35 r hr7]
    by_cases c1 : b1 (L = nI l ∧ S = μ.2 34 r) = 0
    · simp only [if_pos c1, Option.bind_some]
      exact St.rf hR
    · simp only [if_neg c1]
      by_cases c2 : μ.2 35 r = 2
      · simp only [if_pos c2]
        obtain ⟨σ', μ', a', vw', w1, w2, w3⟩ := h36
        exact ⟨σ', μ', a', vw', by rw [w1]; rfl, w2, w3⟩
      · simp only [if_neg c2, Option.bind_some]
        exact St.rf hR
  · rw [if_neg c0, if_neg c0]
    obtain ⟨σ', μ', a', vw', w1, w2, w3⟩ := h36
    exact ⟨σ', μ', a', vw', by rw [w1]; rfl, w2, w3⟩
theorem rcv_any8 (hR : RR A n T q h8 vw p u a 0 σ μ) (hr : r < n) {i : Nat} (hi202 : i < 202) (hp : i = p 200) (h1 : oI σ (A 5 i 0) 1 = nI 8) {w : Nat} {L S : Int32} (hw : oR σ (A 5 i 0) 4 = some w) (hvw : vw w = some (L, S)) (hL : Sm T L) : St A n T q vw p u σ μ (f_X6_receiveOfAnyView σ (A 6 r 0) (A 5 i 0)) (f_X12_follow μ (nI r) L S) := by
  have k5 := hR.1.k5 hi202
  obtain ⟨σ', μ', a', vw', g1, g2, g3, g4, g5⟩ := rcv_follow hR hr hi202 hw hvw hL
  refine ⟨σ', μ', a', vw', ?_, g2, g3, g4, g5⟩
  rw [f_X6_receiveOfAnyView, x_gI k5, Option.bind_some, h1, if_neg (by decide)]
  refine (g1 fun τ => f_X6_receiveOfAnyView_58 τ (A 6 r 0) (A 5 i 0)).trans ?_
  show f_X6_receiveOfAnyView_58 σ' (A 6 r 0) (A 5 i 0) = some σ'
  rw [f_X6_receiveOfAnyView_58, x_gI (g4.1.k5 hi202), Option.bind_some, (g5.msg hi202 hp).1, h1, if_neg (by decide)]
theorem rcv_any9 (hR : RR A n T q h8 vw p u a 0 σ μ) (hr : r < n) {i : Nat} (hi202 : i < 202) (hp : i = p 200) (h1 : oI σ (A 5 i 0) 1 = nI 9) {w : Nat} {L S : Int32} (hw : oR σ (A 5 i 0) 4 = some w) (hvw : vw w = some (L, S)) (hL : Sm T L) {fr : Nat} (hfr : fr < n) (hne : fr ≠ r) {w' : Nat} {L' S' B len : Int32} (h2 : oI σ (A 5 i 0) 2 = nI fr) (h9 : oR σ (A 5 i 0) 9 = some w') (hvw' : vw w' = some (L', S')) (hL' : Sm T L') (hB : oI σ (A 5 i 0) 10 = B) (hl : TkL A q σ μ i len) : St A n T q vw p u σ μ (f_X6_receiveOfAnyView σ (A 6 r 0) (A 5 i 0)) (f_X12_turned μ (nI r) (nI fr) L S L' S' B len) := by
  have hs := hR.1
  have h7 := hs.np
  have hr7 : r < 7 := by omega
  have k5 := hR.1.k5 hi202
  obtain ⟨σ1, μ1, a1, vw1, g1, g2, g3, g4, g5⟩ := rcv_follow hR hr hi202 hw hvw hL
  have hs1 := g4.1
  have k51 := hs1.k5 hi202
  have k61 := hs1.k6 hr
  obtain ⟨m1, m2⟩ := g5.msg hi202 hp
  obtain ⟨l, v, d1, d2, d3, d4, d5, d6, -⟩ := g4.ld hr
  have hwv : IsV σ1 w L S := g4.2.1 w L S (g3 _ _ hvw)
  have e3 := c_same hwv d4
  have hT := rcv_turned1 g4 hr hi202 hp hfr hne (by rw [m1]; exact h2) (by rw [m2]; exact h9) (g3 _ _ hvw') hL' ((congrFun m1 10).trans hB) (g5.tkl hi202 hp hl)
  refine St.trv g3 g5 ?_
  rw [f_X6_receiveOfAnyView, x_gI k5, Option.bind_some, h1, if_neg (by decide)]
  have hcl := g1 fun τ => f_X6_receiveOfAnyView_58 τ (A 6 r 0) (A 5 i 0)
  have h58 : f_X6_receiveOfAnyView_58 σ1 (A 6 r 0) (A 5 i 0) = if b1 (L = nI l ∧ S = μ1.2 34 r) = 0 then some σ1 else if b1 (l % n = r) = 0 then some σ1 else (f_X6_receiveTurned σ1 (A 6 r 0) (A 5 i 0)).bind fun v => some v := by
    rw [f_X6_receiveOfAnyView_58, x_gI k51, Option.bind_some, m1, h1, if_pos (by decide), x_gR k51, m2, hw, Option.bind_some, x_gR k61, d3, Option.bind_some, x_gO hwv.1, Option.bind_some, e3, Option.bind_some, x_gO k61, Option.bind_some, d5, Option.bind_some]
    rfl
  have hm : f_X12_turned μ (nI r) (nI fr) L S L' S' B len = if b1 (L = nI l ∧ S = μ1.2 34 r) = 0 then some μ1 else if b1 (l % n = r) = 0 then some μ1 else ((m_A μ1 35 (nI r)).bind fun v43 => if v43 = 2 then ((m_A μ1 49 (nI r)).bind fun v87 => (m_Q μ1 49 (nI r) (v87 ||| ((1 : Int32) <<< (nI fr &&& 31)))).bind fun s92 => (m_Q s92 50 (((7 : Int32) * nI r) + nI fr) L').bind fun s101 => (m_Q s101 51 (((7 : Int32) * nI r) + nI fr) S').bind fun s110 => (m_Q s110 52 (((7 : Int32) * nI r) + nI fr) B).bind fun s119 => (m_Q s119 53 (((7 : Int32) * nI r) + nI fr) len).bind fun s128 => f_X12_turned_132 lf s128 (nI r) len (((7 : Int32) * nI r) + nI fr) 0) else ((f_X12_send μ1 10 (nI r) (nI fr) L S 0 0).bind fun v59 => (m_A v59.2 38 (nI r)).bind fun v68 => (f_X12_load v59.2 v59.1 (nI r) v68).bind fun v69 => some v69)) := by
    rw [f_X12_turned, g2, Option.bind_some, mA_n 33 r hr7, Option.bind_some, d2]
    by_cases c1 : L = nI l
    · rw [if_pos c1, mA_n 34 r hr7, Option.bind_some]
      by_cases c2 : S = μ1.2 34 r
      · rw [if_pos c2, if_neg (by rw [b1_0]; exact fun x => x ⟨c1, c2⟩), d6, Option.bind_some]
      · rw [if_neg c2, if_pos (by rw [b1_0]; exact fun x => c2 x.2)]
    · rw [if_neg c1, if_pos (by rw [b1_0]; exact fun x => c1 x.1)]
  rw [hm]
  have hcl2 := hcl.trans h58
  by_cases c1 : b1 (L = nI l ∧ S = μ1.2 34 r) = 0
  · rw [if_pos c1] at hcl2
    rw [if_pos c1]
    exact ⟨σ1, μ1, a1, vw1, hcl2, rfl, Vle.rf, g4, Kp.rf⟩
  · rw [if_neg c1] at hcl2
    rw [if_neg c1]
    have c1' : L = nI l ∧ S = μ1.2 34 r := by
      rw [b1_0] at c1
      exact Classical.not_not.mp c1
    by_cases c2 : b1 (l % n = r) = 0
    · rw [if_pos c2] at hcl2
      rw [if_pos c2]
      exact ⟨σ1, μ1, a1, vw1, hcl2, rfl, Vle.rf, g4, Kp.rf⟩
    · rw [if_neg c2] at hcl2
      rw [if_neg c2]
      rw [d2, ← c1'.1, ← c1'.2] at hT
      obtain ⟨σ2, μ2, a2, vw2, w1, w2, w3⟩ := hT
      exact ⟨σ2, μ2, a2, vw2, hcl2.trans (by rw [w1]; rfl), w2, w3⟩
end ANY
