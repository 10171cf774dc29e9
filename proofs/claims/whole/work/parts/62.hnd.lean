/-! a message is handed over -/
def Sx (A : Ad) (n T q : Nat) (vw : Vw) (p u : Nat → Nat) (μ : Mu) (c : Option Hp) (m : Option Mu) : Prop := ∃ σ' μ' a' vw', c = some σ' ∧ m = some μ' ∧ Vle vw vw' ∧ RR A n T q h8 vw' p u a' 0 σ' μ' ∧ μ'.1 0 = μ.1 0 ∧ (∀ i, μ'.2 32 i = μ.2 32 i) ∧ Gx n μ μ'
section HND
variable {A : Ad} {n T q : Nat} {vw : Vw} {p u : Nat → Nat} {a r : Nat} {σ : Hp} {μ : Mu} {c : Option Hp} {m : Option Mu}
theorem St.sx (h : St A n T q vw p u σ μ c m) : Sx A n T q vw p u μ (c.bind fun v => some v) (m.bind fun v => some v) := by
  obtain ⟨σ', μ', a', vw', h1, h2, h3, h4, h5⟩ := h
  exact ⟨σ', μ', a', vw', by rw [h1]; rfl, by rw [h2]; rfl, h3, h4, h5.2.2.1 0 (by decide) (by decide) (by decide), fun i => h5.2.1 32 i (Or.inr (Or.inr (Or.inr rfl))), h5.2.2.2⟩
theorem m_arr56 {x2 : Nat} (h2 : x2 < 200) (x3 x4 x5 x6 x7 : Int32) : ∀ d (F : Nat) (μ : Mu) (k l : Nat), d < F → l = k + d → l ≤ 100 → f_X12_arrive_56 F μ (nI x2) x3 x4 x5 x6 x7 (nI l) (nI k) = f_X12_arrive_88 (cpM μ 31 (100 * x2 + k) 56 k d) (nI x2) x3 x4 x5 x6 x7 (nI l) := by
  intro d
  induction d with
  | zero =>
    intro F μ k l hF hl h100
    obtain ⟨F, rfl⟩ : ∃ f, F = f + 1 := ⟨F - 1, by omega⟩
    show b_X12_arrive_56 (f_X12_arrive_56 F) μ _ _ _ _ _ _ _ _ = _
    have e1 : nI l ≤ nI k := (nI_leI (by omega) (by omega)).mpr (by omega)
    rw [b_X12_arrive_56, if_pos e1, cpM_0]
  | succ d ih =>
    intro F μ k l hF hl h100
    obtain ⟨F, rfl⟩ : ∃ f, F = f + 1 := ⟨F - 1, by omega⟩
    show b_X12_arrive_56 (f_X12_arrive_56 F) μ _ _ _ _ _ _ _ _ = _
    have e1 : ¬ nI l ≤ nI k := fun e => by rw [nI_leI (by omega) (by omega)] at e; omega
    rw [b_X12_arrive_56, if_neg e1, l100, pk_mul, nI_add, mA_n 31 _ (by simp only [mZ]; omega), Option.bind_some, mQ_n 56 _ _ (by simp only [mZ]; omega), Option.bind_some, l1, nI_add]
    rw [ih F _ (k + 1) l (by omega) (by omega) h100, ← cpM_s μ d (by decide)]
    rfl
theorem arr88 (hR : RR A n T q h8 vw p u a 0 σ μ) {i m l : Nat} (hp : i = p 200) (hi202 : i < 202) (hm200 : m < 200) (hm : Rm A n T q vw σ μ i m) (hl : μ.2 29 m = nI l) (hl100 : l ≤ 100) (h56 : ∀ k, k < l → μ.2 56 k = μ.2 31 (100 * m + k)) : Sx A n T q vw p u μ (f_X11_handOver σ (A 11 0 0) (A 5 i 0)) (f_X12_arrive_88 μ (nI m) (μ.2 18 m) (μ.2 20 m) (μ.2 19 m) (μ.2 21 m) (μ.2 22 m) (μ.2 29 m)) := by
  have hs := hR.1
  have hv := hR.2.1
  have h7 := hs.np
  have hi := hs.inj
  have k5 := hs.k5 hi202
  have k11 := hs.k11
  have k1 := hs.k1
  obtain ⟨⟨m0, m1, m2, m3⟩, kk, to, x1, x2, x3, x4, x5, x6, x7, x8, x9, x10, x11, x12, x13, x14, x15⟩ := hm
  have e1 : oI σ (A 5 i 0) 1 = nI kk := m1.trans x2
  have e3 : oI σ (A 5 i 0) 3 = nI to := m3.trans x3
  have hTk : kk = 5 ∨ kk = 9 ∨ kk = 10 → TkL A q σ μ i (μ.2 29 m) := fun h => by
    obtain ⟨l', g1, g2, g3, g4⟩ := x12 h
    have : l' = l := (nI_eq (by omega) (by omega)).mp (g2.symm.trans hl)
    subst this
    refine ⟨l', g1, g2, g3, fun k hk => ?_⟩
    have := g4 k hk
    rw [rwM_at (by omega)] at this
    show oI σ (A 31 i 0) k = μ.2 56 k ∧ Sm q (μ.2 56 k)
    rw [h56 k hk]
    exact this
  have hc0 : kk ≠ 11 → ∀ K : Option Hp, (oI σ (A 6 to 0) 2 = 0 → ((h_gI σ 5 (A 5 i 0) 1).bind fun v85 => if v85 = 0 then ((h_gO σ 6 (A 6 to 0)).bind fun _ => (f_X6_receiveStamped σ (A 6 to 0) (A 5 i 0)).bind fun v93 => some v93) else ((h_gI σ 5 (A 5 i 0) 1).bind fun v100 => if v100 = (8 : Int32) then ((h_gO σ 6 (A 6 to 0)).bind fun _ => (f_X6_receiveOfAnyView σ (A 6 to 0) (A 5 i 0)).bind fun v128 => some v128) else ((h_gI σ 5 (A 5 i 0) 1).bind fun v109 => if v109 = (9 : Int32) then ((h_gO σ 6 (A 6 to 0)).bind fun _ => (f_X6_receiveOfAnyView σ (A 6 to 0) (A 5 i 0)).bind fun v128 => some v128) else ((h_gI σ 5 (A 5 i 0) 1).bind fun v118 => if v118 = (10 : Int32) then ((h_gO σ 6 (A 6 to 0)).bind fun _ => (f_X6_receiveOfAnyView σ (A 6 to 0) (A 5 i 0)).bind fun v128 => some v128) else ((h_gR σ 5 (A 5 i 0) 4).bind fun v135 => (h_gR σ 6 (A 6 to 0) 4).bind fun v139 => (h_gO σ 9 v135).bind fun _ => (f_X9_isSame σ v135 v139).bind fun v142 => if v142 = 0 then some σ else ((h_gO σ 6 (A 6 to 0)).bind fun _ => (f_X6_receiveOfItsView σ (A 6 to 0) (A 5 i 0)).bind fun v150 => some v150)))))) = K) → f_X11_handOver σ (A 11 0 0) (A 5 i 0) = if oI σ (A 6 to 0) 2 = 0 then K else some (sI σ (A 1 0 0) 3 (oI σ (A 1 0 0) 3 + 1)) := fun h K hK => by
    have hto := x5 h
    have k6 := hs.k6 hto
    rw [f_X11_handOver, x_gI k5, Option.bind_some, e1, if_neg (fun e => h ((nI_eq (by omega) (by omega)).mp (e.trans (show (11 : Int32) = nI 11 from rfl)))), x_gR k11, hs.r11_4, Option.bind_some, x_gI k5, Option.bind_some, e3, e_aR hs.k24 hs.z24 hto (by omega) (hs.r24 hto), Option.bind_some, x_gI k6, Option.bind_some]
    by_cases c : oI σ (A 6 to 0) 2 = 0
    · rw [if_pos c, if_pos c, ← hK c, x_gI k5, e1]
    · rw [if_neg c, if_neg c, x_gR k11, hs.r11_3, Option.bind_some, x_gI k1, Option.bind_some, x_pI k1, Option.bind_some]
  have hdown : kk ≠ 11 → ∀ c m, (oI σ (A 6 to 0) 2 = 0 → Sx A n T q vw p u μ c m) → Sx A n T q vw p u μ (if oI σ (A 6 to 0) 2 = 0 then c else some (sI σ (A 1 0 0) 3 (oI σ (A 1 0 0) 3 + 1))) (if oI σ (A 6 to 0) 2 = 0 then m else some (mS μ 14 (μ.1 14 + 1))) := fun h c m hcm => by
    by_cases c1 : oI σ (A 6 to 0) 2 = 0
    · rw [if_pos c1, if_pos c1]
      exact hcm c1
    · rw [if_neg c1, if_neg c1]
      refine ⟨_, _, a, vw, rfl, rfl, Vle.rf, ?_, by simp only [mS_1, show ¬ (0 : Nat) = 14 by decide, if_false], fun _ => rfl, fun _ _ h => h⟩
      obtain ⟨h1, h2, h3, h4, h5, h6, h7, h8, h9, h10, h11, h12, h13, h14⟩ := hR.2.2.2.2.1
      have hag : Ag A σ (sI σ (A 1 0 0) 3 (oI σ (A 1 0 0) 3 + 1)) (fun s _ => s ≠ 1) := (Ag.sI hs.1).wk fun s i h => by omega
      refine hR.mov (hs.sI rfl) (hv.sI (by rw [k1]; decide)) (hag.wk fun s i h => h.1) AgM.mS (fun k _ _ e => by simp only [mS_1, e, if_false]) ⟨h1, ?_, ?_, ?_, ?_, h6, ?_, h8, h9, h10, h11, h12, h13, fun k hk => (h14 k hk).cg (hag.wk fun s i h => by unfold fpM at h; omega) AgM.mS⟩
      · simp only [oK_sI, oK_sR, oK_sC, oZ_sI, oZ_sR, oZ_sC, xI_sI, oI_sR, xI_sC, oR_sI, xR_sR, oR_sC, Option.bind_some, if_true, if_false, Nat.reduceEqDiff, true_and, and_true, false_and, and_false, hi]; exact h2
      · simp only [m_P, mT_2, mT_1, mS_1, mS_2, Option.bind_some, Nat.reduceEqDiff, if_true, if_false, true_and, and_true, false_and, and_false]; exact h3
      · simp only [oK_sI, oK_sR, oK_sC, oZ_sI, oZ_sR, oZ_sC, xI_sI, oI_sR, xI_sC, oR_sI, xR_sR, oR_sC, Option.bind_some, if_true, if_false, Nat.reduceEqDiff, true_and, and_true, false_and, and_false, m_P, mT_2, mT_1, mS_1, mS_2, Option.bind_some, Nat.reduceEqDiff, if_true, if_false, true_and, and_true, false_and, and_false, hi]; exact h4
      · simp only [oK_sI, oK_sR, oK_sC, oZ_sI, oZ_sR, oZ_sC, xI_sI, oI_sR, xI_sC, oR_sI, xR_sR, oR_sC, Option.bind_some, if_true, if_false, Nat.reduceEqDiff, true_and, and_true, false_and, and_false, m_P, mT_2, mT_1, mS_1, mS_2, Option.bind_some, Nat.reduceEqDiff, if_true, if_false, true_and, and_true, false_and, and_false, hi, h5]
      · exact h7
  have hr32 : kk ≠ 11 → oI σ (A 6 to 0) 2 = μ.2 32 to := fun h => (hR.2.2.2.2.2.1 to (x5 h)).sp.1.1.1
  have hm0 : kk ≠ 11 → ∀ K : Option Mu, (∀ M : Option Mu, M = (if nI kk = 0 then ((m_A μ 23 (nI m)).bind fun v166 => (m_A μ 24 (nI m)).bind fun v172 => (f_X12_stamped μ (nI to) (μ.2 22 m) v166 v172).bind fun v173 => some v173) else (if nI kk = (8 : Int32) then ((f_X12_follow μ (nI to) (μ.2 21 m) (μ.2 22 m)).bind fun v192 => some v192) else (if nI kk = (9 : Int32) then ((m_A μ 26 (nI m)).bind fun v218 => (m_A μ 27 (nI m)).bind fun v224 => (m_A μ 28 (nI m)).bind fun v230 => (f_X12_turned μ (nI to) (μ.2 19 m) (μ.2 21 m) (μ.2 22 m) v218 v224 v230 (μ.2 29 m)).bind fun v233 => some v233) else (if nI kk = (10 : Int32) then ((m_A μ 28 (nI m)).bind fun v257 => (f_X12_start μ (nI to) (μ.2 21 m) (μ.2 22 m) v257 (μ.2 29 m)).bind fun v260 => some v260) else ((m_A μ 33 (nI to)).bind fun v274 => if μ.2 21 m = v274 then ((m_A μ 34 (nI to)).bind fun v286 => if μ.2 22 m = v286 then ((m_A μ 23 (nI m)).bind fun v301 => (m_A μ 24 (nI m)).bind fun v307 => (f_X12_inView μ (nI kk) (nI to) (μ.2 19 m) v301 v307).bind fun v308 => some v308) else some μ) else some μ))))) → M = K) → f_X12_arrive_88 μ (nI m) (μ.2 18 m) (μ.2 20 m) (μ.2 19 m) (μ.2 21 m) (μ.2 22 m) (μ.2 29 m) = if oI σ (A 6 to 0) 2 = 0 then K else some (mS μ 14 (μ.1 14 + 1)) := fun h K hK => by
    have hto := x5 h
    have ht7 : to < 7 := by omega
    rw [f_X12_arrive_88, x2, x3, if_neg (fun e => h ((nI_eq (by omega) (by omega)).mp (e.trans (show (11 : Int32) = nI 11 from rfl)))), mA_n 32 to ht7, Option.bind_some, hr32 h]
    by_cases c : μ.2 32 to = 0
    · rw [if_pos c, if_pos c]
      exact hK _ rfl
    · rw [if_neg c, if_neg c, m_P, Option.bind_some]
  have a23 : m_A μ 23 (nI m) = some (μ.2 23 m) := mA_n 23 m hm200
  have a24 : m_A μ 24 (nI m) = some (μ.2 24 m) := mA_n 24 m hm200
  by_cases hk11 : kk = 11
  · subst hk11
    have hc4 := x4 rfl
    obtain ⟨⟨w, w1, w2⟩, l2, fr, y1, y2, y3, y4, -, y5⟩ := x7 (by decide)
    obtain ⟨y6, y7⟩ := y5 rfl
    obtain ⟨z1, z2⟩ := x9 (Or.inr (Or.inr rfl))
    obtain ⟨σ', μ', g1, g2, g3, g4⟩ := cl_hear hR hc4 (has := μ.2 30 m) (ans := μ.2 25 m) (slot := μ.2 23 m) (req := μ.2 24 m) hi202 (m2.trans y4) y3 w1 w2 y2 y1 (x8 (Or.inr rfl)) (x10 (Or.inr (Or.inr rfl))) z1 y6 y7
    refine ⟨σ', μ', a, vw, ?_, ?_, Vle.rf, g3, g4.1, fun i => g4.2 32 i (by decide) (by decide), fun r _ h1 h2 => by
      rw [g4.2 35 r (by decide) (by decide)] at h2
      rw [g4.2 38 r (by decide) (by decide)]
      exact h1 h2⟩
    · rw [f_X11_handOver, x_gI k5, Option.bind_some, e1, if_pos (show nI 11 = (11 : Int32) from rfl), x_gR k11, hs.r11_5, Option.bind_some, x_gI k5, Option.bind_some, e3, e_aR hs.k25 hs.z25 hc4 (by decide) (hs.r25 hc4), Option.bind_some, x_gO (hs.k2 hc4), Option.bind_some]
      exact g1
    · rw [f_X12_arrive_88, x2, x3, if_pos (show nI 11 = (11 : Int32) from rfl), a23, Option.bind_some, a24, Option.bind_some, mA_n 30 m hm200, Option.bind_some, mA_n 25 m hm200, Option.bind_some, y4, g2, Option.bind_some]
  · have hto := x5 hk11
    have ht7 : to < 7 := by omega
    have k6 := hs.k6 hto
    rw [hc0 hk11 _ (fun _ => rfl), hm0 hk11 _ (fun M h => h)]
    refine hdown hk11 _ _ fun hup => ?_
    rw [x_gI k5, e1]
    simp only [Option.bind_some, x_gO k6]
    rcases (show kk = 0 ∨ kk = 8 ∨ kk = 9 ∨ kk = 10 ∨ (1 ≤ kk ∧ kk ≤ 7) by omega) with rfl | rfl | rfl | rfl | hk17
    · rw [if_pos (show nI 0 = (0 : Int32) from rfl), if_pos (show nI 0 = (0 : Int32) from rfl), a23, a24]
      simp only [Option.bind_some]
      obtain ⟨z1, z2⟩ := x9 (Or.inl rfl)
      exact (rcv_stamped hR hto k5 (fun e => by
        have h1 := hs.2.2.2.2.1 (oN σ) (Nat.le_refl _)
        rw [← e, k5] at h1
        exact absurd h1 (by decide)) (x6 rfl) (x8 (Or.inl (by decide))) z1 z2).sx
    · obtain ⟨⟨w, w1, w2⟩, l2, fr, y1, y2, y3, y4, -⟩ := x7 (by decide)
      rw [if_neg (by decide), if_pos (show nI 8 = (8 : Int32) from rfl), if_neg (by decide), if_pos (show nI 8 = (8 : Int32) from rfl)]
      exact (rcv_any8 hR hto hi202 hp e1 w1 w2 ⟨l2, y1, y2⟩).sx
    · obtain ⟨⟨w, w1, w2⟩, l2, fr, y1, y2, y3, y4, y5, -⟩ := x7 (by decide)
      obtain ⟨⟨w', w1', w2'⟩, z3⟩ := x15 rfl
      rw [if_neg (by decide), if_neg (by decide), if_pos (show nI 9 = (9 : Int32) from rfl), if_neg (by decide), if_neg (by decide), if_pos (show nI 9 = (9 : Int32) from rfl), mA_n 26 m hm200, mA_n 27 m hm200, mA_n 28 m hm200, y4]
      simp only [Option.bind_some]
      exact (rcv_any9 hR hto hi202 hp e1 w1 w2 ⟨l2, y1, y2⟩ y3 (y5 rfl) (m2.trans y4) w1' w2' z3 (x14 (Or.inl rfl)) (hTk (by decide))).sx
    · obtain ⟨⟨w, w1, w2⟩, l2, fr, y1, y2, y3, y4, -⟩ := x7 (by decide)
      rw [if_neg (by decide), if_neg (by decide), if_neg (by decide), if_pos (show nI 10 = (10 : Int32) from rfl), if_neg (by decide), if_neg (by decide), if_neg (by decide), if_pos (show nI 10 = (10 : Int32) from rfl), mA_n 28 m hm200]
      simp only [Option.bind_some]
      exact (rcv_any10 hR hto hi202 hp e1 w1 w2 ⟨l2, y1, y2⟩ (x14 (Or.inr rfl)) (hTk (by decide))).sx
    · obtain ⟨⟨w, w1, w2⟩, l2, fr, y1, y2, y3, y4, -⟩ := x7 (by omega)
      have hne : ∀ j, j ≤ 100 → j ≠ kk → ¬ nI kk = nI j := fun j hj h e => h ((nI_eq (by omega) (by omega)).mp e).symm
      obtain ⟨L, v, d1, d2, d3, d4, -⟩ := hR.ld hto
      have hwv : IsV σ w _ _ := hv w _ _ w2
      have hn0 : ¬ nI kk = (0 : Int32) := hne 0 (by omega) (by omega)
      have hn8 : ¬ nI kk = (8 : Int32) := hne 8 (by omega) (by omega)
      have hn9 : ¬ nI kk = (9 : Int32) := hne 9 (by omega) (by omega)
      have hn10 : ¬ nI kk = (10 : Int32) := hne 10 (by omega) (by omega)
      rw [if_neg hn0, if_neg hn8, if_neg hn9, if_neg hn10, if_neg hn0, if_neg hn8, if_neg hn9, if_neg hn10, x_gR k5, w1, x_gR k6, d3, mA_n 33 to ht7, mA_n 34 to ht7, d2, a23, a24]
      simp only [Option.bind_some, x_gO hwv.1, c_same hwv d4]
      by_cases c1 : μ.2 21 m = nI L ∧ μ.2 22 m = μ.2 34 to
      · rw [if_neg (by rw [b1_0]; exact fun x => x c1), if_pos c1.1, if_pos c1.2, y4]
        exact (rcv_its hR hto hi202 hp hk17 e1 (m2.trans y4) y3 (x8 (Or.inl hk17.2)) (fun h => x9 (Or.inr (Or.inl h))) (fun h => x10 (by omega)) (fun h => by rw [x11 h]; exact hTk (Or.inl h))).sx
      · rw [if_pos (by rw [b1_0]; exact c1)]
        refine ⟨σ, μ, a, vw, rfl, ?_, Vle.rf, hR, rfl, fun _ => rfl, fun _ _ h => h⟩
        by_cases c2 : μ.2 21 m = nI L
        · rw [if_pos c2, if_neg (fun h => c1 ⟨c2, h⟩)]
        · rw [if_neg c2]
/-- a message arrives: both sides -/
theorem hand (hR : RR A n T q h8 vw p u a 0 σ μ) {k : Nat} (hk : k < a) : ∃ m0 σ1 p' u', f_X1_takeOut σ (A 1 0 0) (nI k) = some (A 5 m0 0, σ1) ∧ oK σ1 (A 11 0 0) = 11 ∧ Sx A n T q vw p' u' μ (f_X11_handOver σ1 (A 11 0 0) (A 5 m0 0)) (f_X12_arrive μ (nI k)) := by
  obtain ⟨σ1, μ1, p', u', g1, g2, g3, g4, g5, g6, g7, -, g9, g8⟩ := air_take hR hk
  refine ⟨p k, σ1, p', u', g1, g3.1.k11, ?_⟩
  obtain ⟨l, hl, hl100⟩ : ∃ l, μ1.2 29 (u k) = nI l ∧ l ≤ 100 := by
    obtain ⟨-, kk, to, x1, x2, x3, x4, x5, x6, x7, x8, x9, x10, x11, x12, x13, -⟩ := g7
    by_cases c : kk = 5 ∨ kk = 9 ∨ kk = 10
    · obtain ⟨l', h1, h2, -⟩ := x12 c
      exact ⟨l', h2, h1⟩
    · exact ⟨0, x13 (by omega) (by omega) (by omega), by decide⟩
  have hcp := cpM_ag μ1 31 (100 * u k + 0) 56 0 l
  have hm : f_X12_arrive μ (nI k) = f_X12_arrive_88 (cpM μ1 31 (100 * u k + 0) 56 0 l) (nI (u k)) (μ1.2 18 (u k)) (μ1.2 20 (u k)) (μ1.2 19 (u k)) (μ1.2 21 (u k)) (μ1.2 22 (u k)) (μ1.2 29 (u k)) := by
    rw [f_X12_arrive, g2, Option.bind_some]
    dsimp only
    rw [mA_n 18 _ g6, Option.bind_some, mA_n 20 _ g6, Option.bind_some, mA_n 19 _ g6, Option.bind_some, mA_n 21 _ g6, Option.bind_some, mA_n 22 _ g6, Option.bind_some, mA_n 29 _ g6, Option.bind_some, hl]
    exact m_arr56 g6 _ _ _ _ _ l lf μ1 0 l (by unfold lf; omega) (by omega) hl100
  have hR2 : RR A n T q h8 vw p' u' (a - 1) 0 σ1 (cpM μ1 31 (100 * u k + 0) 56 0 l) := g3.fr g3.1 g3.2.1 Ag.rf (hcp.wk fun j i h => by omega) (fun _ _ => rfl)
  have e : ∀ j, j ≠ 56 → ∀ i, (cpM μ1 31 (100 * u k + 0) 56 0 l).2 j i = μ1.2 j i := fun j h i => hcp j i (by omega)
  have h88 := arr88 (i := p k) (m := u k) (l := l) hR2 g4.symm (by omega) g6 (g7.cg Ag.rf (hcp.wk fun j i h => by unfold fmM at h; omega)) (by rw [e 29 (by decide)]; exact hl) hl100 (fun j hj => by
    have := cpM_in (μ := μ1) (js := 31) (os := 100 * u k + 0) (jd := 56) (od := 0) hj
    rw [e 31 (by decide), Nat.zero_add] at *
    rw [this, Nat.add_zero])
  rw [e 18 (by decide), e 20 (by decide), e 19 (by decide), e 21 (by decide), e 22 (by decide), e 29 (by decide)] at h88
  rw [hm]
  obtain ⟨σ', μ', a', vw', z1, z2, z3, z4, z5, z6, z7⟩ := h88
  exact ⟨σ', μ', a', vw', z1, z2, z3, z4, z5.trans (g8 0 (by decide)), fun i => (z6 i).trans ((e 32 (by decide) i).trans (g9 32 i (show (32 : Nat) ≠ 15 ∧ (32 : Nat) ≠ 16 by decide))), fun r hr h => z7 r hr (by
    rw [e 35 (by decide) r, e 38 (by decide) r, g9 35 r (show (35 : Nat) ≠ 15 ∧ (35 : Nat) ≠ 16 by decide), g9 38 r (show (38 : Nat) ≠ 15 ∧ (38 : Nat) ≠ 16 by decide)]
    exact h)⟩
end HND
