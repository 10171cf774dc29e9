/-! the public methods -/
/-- how many of the first replicas are down -/
def dwn (μ : Mu) : Nat → Nat := Nat.rec 0 (fun k c => c + (if μ.2 32 k = 0 then 0 else 1))
theorem dwn_s (μ : Mu) (k : Nat) : dwn μ (k + 1) = dwn μ k + (if μ.2 32 k = 0 then 0 else 1) := rfl
theorem dwn_cg {μ μ' : Mu} (h : ∀ i, μ'.2 32 i = μ.2 32 i) (k : Nat) : dwn μ' k = dwn μ k := by
  induction k with
  | zero => rfl
  | succ k ih => rw [dwn_s, dwn_s, ih, h]
/-- not too many are down; who is in a gap has an entry -/
def Ok (n : Nat) (μ : Mu) : Prop := dwn μ n ≤ n / 2 ∧ ∀ r, r < n → μ.2 35 r = 1 → ¬ μ.2 38 r = 0
theorem Ok.cg {n : Nat} {μ μ' : Mu} (h : Ok n μ) (h1 : ∀ i, μ'.2 32 i = μ.2 32 i) (h2 : Gx n μ μ') : Ok n μ' := ⟨by rw [dwn_cg h1]; exact h.1, fun r hr => h2 r hr (h.2 r hr)⟩
theorem Ok.rw {n : Nat} {μ μ' : Mu} (h : Ok n μ) (h1 : ∀ j i, 32 ≤ j → j ≤ 38 → μ'.2 j i = μ.2 j i) : Ok n μ' := h.cg (fun i => h1 32 i (by decide) (by decide)) (fun r _ a1 a2 => by
  rw [h1 35 r (by decide) (by decide)] at a2
  rw [h1 38 r (by decide) (by decide)]
  exact a1 a2)
theorem Ok.th {n : Nat} {μ : Mu} (h : Ok n μ) (y : Int32) : Ok n (mS μ 0 y) := h.rw (fun _ _ _ _ => rfl)
def Inv (n t tb : Nat) (σ : Hp) (μ : Mu) : Prop := Ok n μ ∧ ∃ (A : Ad) (q : Nat) (vw : Vw) (p u : Nat → Nat) (a : Nat), A 11 0 0 = tb ∧ q ≤ t ∧ RR A n t q h8 vw p u a 0 σ μ
section PUB
variable {A : Ad} {n T q t tb : Nat} {hb : Nat → Nat} {vw : Vw} {p u : Nat → Nat} {a : Nat} {σ σ' : Hp} {μ μ' : Mu}
theorem RR.th (hR : RR A n T q hb vw p u a 0 σ μ) (y : Int32) : RR A n T q hb vw p u a 0 σ (mS μ 0 y) := hR.fr hR.1 hR.2.1 Ag.rf AgM.mS (fun k h => by simp only [mS_1, h, if_false])
theorem RR.tt {T' : Nat} (hR : RR A n T q hb vw p u a 0 σ μ) (h : T ≤ T') (h' : T' ≤ 64) : RR A n T' q hb vw p u a 0 σ μ := hR.xt (fun _ _ _ _ => ⟨rfl, rfl⟩) hR.1 hR.2.1 h h' Vle.rf
theorem RR.inv (hR : RR A n t q h8 vw p u a 0 σ μ) (hq : q ≤ t) (hd : Ok n μ) : Inv n t (A 11 0 0) σ μ := ⟨hd, A, q, vw, p, u, a, rfl, hq, hR⟩
theorem Inv.th (h : Inv n t tb σ μ) (y : Int32) : Inv n t tb σ (mS μ 0 y) := by
  obtain ⟨h0, A, q, vw, p, u, a, h1, h2, h3⟩ := h
  exact ⟨h0.th y, A, q, vw, p, u, a, h1, h2, h3.th y⟩
theorem Inv.up (h : Inv n t tb σ μ) (ht : t < 64) : Inv n (t + 1) tb σ μ := by
  obtain ⟨h0, A, q, vw, p, u, a, h1, h2, h3⟩ := h
  exact ⟨h0, A, q, vw, p, u, a, h1, by omega, h3.tt (Nat.le_succ t) (by omega)⟩
theorem Sx.inv {c : Option Hp} {m : Option Mu} (hq : q ≤ t) (hd : Ok n μ) (h : Sx A n t q vw p u μ c m) : ∃ σ' μ', c = some σ' ∧ m = some μ' ∧ Inv n t (A 11 0 0) σ' μ' ∧ μ'.1 0 = μ.1 0 := by
  obtain ⟨σ', μ', a', vw', h1, h2, h3, h4, h5, h6, h7⟩ := h
  exact ⟨σ', μ', h1, h2, h4.inv hq (hd.cg h6 h7), h5⟩
theorem m_in (x : Int32) {k : Nat} (hk : k ≤ 200) : (∃ c, c < k ∧ x = nI c ∧ f_X12_in x (nI k) = some 1 ∧ ¬ x < 0 ∧ ¬ nI k ≤ x) ∨ (f_X12_in x (nI k) = some 0 ∧ (x < 0 ∨ (¬ x < 0 ∧ nI k ≤ x))) := by
  by_cases h1 : x < 0
  · exact Or.inr ⟨by rw [f_X12_in, if_pos h1], Or.inl h1⟩
  · by_cases h2 : nI k ≤ x
    · exact Or.inr ⟨by rw [f_X12_in, if_neg h1, if_pos h2], Or.inr ⟨h1, h2⟩⟩
    · obtain ⟨j, hj, e⟩ := nI_of h1
      refine Or.inl ⟨j, ?_, e, by rw [f_X12_in, if_neg h1, if_neg h2], h1, h2⟩
      rw [e, nI_leI (by omega) hj] at h2
      omega
theorem c_cli (tb : Nat) (x : Int32) : (∃ c, c < 4 ∧ x = nI c ∧ f_X12_in x 4 = some 1 ∧ f_X11_isClient tb x = some 1) ∨ (f_X12_in x 4 = some 0 ∧ f_X11_isClient tb x = some 0) := by
  rcases m_in x (k := 4) (by decide) with ⟨c, h1, h2, h3, h4, h5⟩ | ⟨h1, h2⟩
  · exact Or.inl ⟨c, h1, h2, h3, by rw [f_X11_isClient, if_neg h4, if_neg (show ¬ (4 : Int32) ≤ x from h5)]⟩
  · refine Or.inr ⟨h1, ?_⟩
    rcases h2 with h2 | ⟨h2, h3⟩
    · rw [f_X11_isClient, if_pos h2]
    · rw [f_X11_isClient, if_neg h2, if_pos (show (4 : Int32) ≤ x from h3)]
theorem c_key (tb : Nat) (x : Int32) : (∃ c, c < 8 ∧ x = nI c ∧ f_X12_in x 8 = some 1 ∧ f_X11_isKey tb x = some 1) ∨ (f_X12_in x 8 = some 0 ∧ f_X11_isKey tb x = some 0) := by
  rcases m_in x (k := 8) (by decide) with ⟨c, h1, h2, h3, h4, h5⟩ | ⟨h1, h2⟩
  · exact Or.inl ⟨c, h1, h2, h3, by rw [f_X11_isKey, if_neg h4, if_neg (show ¬ (8 : Int32) ≤ x from h5)]⟩
  · refine Or.inr ⟨h1, ?_⟩
    rcases h2 with h2 | ⟨h2, h3⟩
    · rw [f_X11_isKey, if_pos h2]
    · rw [f_X11_isKey, if_neg h2, if_pos (show (8 : Int32) ≤ x from h3)]
theorem c_rpl (hR : RR A n T q hb vw p u a 0 σ μ) (x : Int32) : (∃ r, r < n ∧ x = nI r ∧ f_X12_in x (μ.1 1) = some 1 ∧ f_X11_isReplica σ (A 11 0 0) x = some 1) ∨ (f_X12_in x (μ.1 1) = some 0 ∧ f_X11_isReplica σ (A 11 0 0) x = some 0) := by
  have hs := hR.1
  have h7 := hs.np
  have e1 : μ.1 1 = nI n := hR.2.2.1.2.2.2.2.1
  have k11 := hs.k11
  rw [e1]
  rcases m_in x (k := n) (by omega) with ⟨c, h1, h2, h3, h4, h5⟩ | ⟨h1, h2⟩
  · exact Or.inl ⟨c, h1, h2, h3, by rw [f_X11_isReplica, if_neg h4, x_gI k11, Option.bind_some, hs.i11_0, if_neg h5]⟩
  · refine Or.inr ⟨h1, ?_⟩
    rcases h2 with h2 | ⟨h2, h3⟩
    · rw [f_X11_isReplica, if_pos h2]
    · rw [f_X11_isReplica, if_neg h2, x_gI k11, Option.bind_some, hs.i11_0, if_pos h3]
/-- the replica of a number -/
theorem c_row (hs : Rs A n σ) {r : Nat} (hr : r < n) : h_gR σ 11 (A 11 0 0) 4 = some (A 24 0 0) ∧ h_aR σ 18 (A 24 0 0) (nI r) = some (A 6 r 0) := by
  have h7 := hs.np
  exact ⟨by rw [x_gR hs.k11, hs.r11_4], e_aR hs.k24 hs.z24 hr (by omega) (hs.r24 hr)⟩
theorem c_crw (hs : Rs A n σ) {c : Nat} (hc : c < 4) : h_gR σ 11 (A 11 0 0) 5 = some (A 25 0 0) ∧ h_aR σ 15 (A 25 0 0) (nI c) = some (A 2 c 0) := ⟨by rw [x_gR hs.k11, hs.r11_5], e_aR hs.k25 hs.z25 hc (by decide) (hs.r25 hc)⟩
theorem mS0 (μ : Mu) (y : Int32) : (mS μ 0 y).1 0 = y := by simp only [mS_1, if_true]
theorem n10 : ¬ (1 : Int32) = 0 := by decide
theorem n20 : ¬ (2 : Int32) = 0 := by decide
theorem n30 : ¬ (3 : Int32) = 0 := by decide
theorem le10 : ¬ (1 : Int32) ≤ 0 := by decide
theorem le20 : ¬ (2 : Int32) ≤ 0 := by decide
theorem le30 : ¬ (3 : Int32) ≤ 0 := by decide
theorem le00 : (0 : Int32) ≤ 0 := by decide
theorem pb_again (hI : Inv n t tb σ μ) (x : Int32) : ∃ cd v σ' μ', f_X11_again σ tb x = some (cd, v, σ') ∧ f_X12_again μ x = some μ' ∧ Inv n t tb σ' μ' ∧ ((cd = 0 ∧ μ'.1 0 = 0) ∨ (cd = 1 ∧ μ'.1 0 = 1) ∨ (cd = 3 ∧ μ'.1 0 = 2)) := by
  obtain ⟨hd, A, q, vw, p, u, a, rfl, hq, hR⟩ := hI
  have hs := hR.1
  have k11 := hs.k11
  rcases c_cli (A 11 0 0) x with ⟨c, hc, rfl, e1, e2⟩ | ⟨e1, e2⟩
  · obtain ⟨w1, w2⟩ := c_crw hs hc
    have k2 := hs.k2 hc
    obtain ⟨⟨q1, q2, q3, q4, -⟩, -⟩ := (hR.2.2.2.2.2.2.1 c hc).sp
    by_cases c1 : μ.2 59 c = 1
    · obtain ⟨σ', μ', a', g1, g2, g3, -, g5, g4⟩ := tab_stamp (hR.th 0) (q4 (by rw [c1]; decide))
      refine ⟨0, 0, σ', μ', ?_, ?_, g3.inv hq (hd.rw fun j i h1 _ => g5 j i (Or.inr h1)), Or.inl ⟨rfl, ?_⟩⟩
      · simp only [f_X11_again, x_gO k11, Option.bind_some, e2, if_neg n10, w1, w2, x_gI k2, q3.1, c1, if_true, q2.1, g1]
      · simp only [f_X12_again, e1, Option.bind_some, if_neg n10, mA_n 59 c hc, c1, if_true, f_X12_again_28, m_P, mS0, mA_n 58 c hc, mS_2, g2]
      · rw [g4 0 (by decide) (by decide) (by decide) (by decide), mS0]
    · refine ⟨3, 0, σ, mS μ 0 2, ?_, ?_, (hR.th 2).inv hq (hd.th 2), Or.inr (Or.inr ⟨rfl, mS0 _ _⟩)⟩
      · simp only [f_X11_again, x_gO k11, Option.bind_some, e2, if_neg n10, w1, w2, x_gI k2, q3.1, if_neg c1]
      · simp only [f_X12_again, e1, Option.bind_some, if_neg n10, mA_n 59 c hc, if_neg c1, f_X12_again_28, m_P, mS0, if_neg n20]
  · refine ⟨1, 0, σ, mS μ 0 1, ?_, ?_, (hR.th 1).inv hq (hd.th 1), Or.inr (Or.inl ⟨rfl, mS0 _ _⟩)⟩
    · simp only [f_X11_again, x_gO k11, Option.bind_some, e2, if_true]
    · simp only [f_X12_again, e1, Option.bind_some, if_true, f_X12_again_28, m_P, mS0, if_neg n10]
theorem pb_deliver (hI : Inv n t tb σ μ) (x : Int32) : ∃ cd v σ' μ', f_X11_deliver σ tb x = some (cd, v, σ') ∧ f_X12_deliver μ x = some μ' ∧ Inv n t tb σ' μ' ∧ ((cd = 0 ∧ μ'.1 0 = 0) ∨ (cd = 2 ∧ μ'.1 0 = 1)) := by
  obtain ⟨hd, A, q, vw, p, u, a, rfl, hq, hR⟩ := hI
  have hs := hR.1
  have k11 := hs.k11
  have k1 := hs.k1
  have ha : a ≤ 200 := hR.2.2.2.2.1.1
  obtain ⟨y, g1, g2, g3⟩ := air_find hR x
  rcases g3 with g3 | ⟨k, hk, rfl⟩
  · refine ⟨2, 0, σ, mS μ 0 1, ?_, ?_, (hR.th 1).inv hq (hd.th 1), Or.inr ⟨rfl, mS0 _ _⟩⟩
    · rw [f_X11_deliver, x_gR k11, hs.r11_3, Option.bind_some, x_gO k1, Option.bind_some, g1, Option.bind_some, if_pos g3]
    · rw [f_X12_deliver, g2, Option.bind_some, if_pos g3, f_X12_deliver_17, m_P, Option.bind_some, mS0, if_neg n10]
  · have hne : ¬ nI k = (-1 : Int32) := nI_m1 (by omega)
    obtain ⟨m0, σ1, p', u', f1, f2, f3⟩ := hand (hR.th 0) hk
    obtain ⟨σ2, μ2, w1, w2, w3, w4⟩ := f3.inv hq (hd.th 0)
    refine ⟨0, 0, σ2, μ2, ?_, ?_, w3, Or.inl ⟨rfl, w4.trans (mS0 _ _)⟩⟩
    · rw [f_X11_deliver, x_gR k11, hs.r11_3, Option.bind_some, x_gO k1, Option.bind_some, g1, Option.bind_some, if_neg hne, Option.bind_some, x_gO k1, Option.bind_some, f1, Option.bind_some]
      dsimp only
      rw [x_gO f2, Option.bind_some, w1, Option.bind_some]
    · rw [f_X12_deliver, g2, Option.bind_some, if_neg hne, f_X12_deliver_17, m_P, Option.bind_some, mS0, if_pos rfl, w2, Option.bind_some]
theorem pb_lose (hI : Inv n t tb σ μ) (x : Int32) : ∃ cd v σ' μ', f_X11_lose σ tb x = some (cd, v, σ') ∧ f_X12_lose μ x = some μ' ∧ Inv n t tb σ' μ' ∧ ((cd = 0 ∧ μ'.1 0 = 0) ∨ (cd = 2 ∧ μ'.1 0 = 1)) := by
  obtain ⟨hd, A, q, vw, p, u, a, rfl, hq, hR⟩ := hI
  have hs := hR.1
  have k11 := hs.k11
  have k1 := hs.k1
  have ha : a ≤ 200 := hR.2.2.2.2.1.1
  obtain ⟨y, g1, g2, g3⟩ := air_find hR x
  rcases g3 with g3 | ⟨k, hk, rfl⟩
  · refine ⟨2, 0, σ, mS μ 0 1, ?_, ?_, (hR.th 1).inv hq (hd.th 1), Or.inr ⟨rfl, mS0 _ _⟩⟩
    · rw [f_X11_lose, x_gR k11, hs.r11_3, Option.bind_some, x_gO k1, Option.bind_some, g1, Option.bind_some, if_pos g3]
    · rw [f_X12_lose, g2, Option.bind_some, if_pos g3, f_X12_lose_17, m_P, Option.bind_some, mS0, if_neg le10]
  · have hne : ¬ nI k = (-1 : Int32) := nI_m1 (by omega)
    obtain ⟨σ1, μ1, p', u', f1, f2, f3, f4, f5, f6, f7, -, f9, f8⟩ := air_take (hR.th 0) hk
    have hs1 := f3.1
    have hi := hs1.inj
    have k1' := hs1.k1
    have k11' := hs1.k11
    obtain ⟨h1, h2, h3, h4, h5, h6, h7, hh8, h9, h10, h11, h12, h13, h14⟩ := f3.2.2.2.2.1
    have hag : Ag A σ1 (sI σ1 (A 1 0 0) 3 (oI σ1 (A 1 0 0) 3 + 1)) (fun s _ => s ≠ 1) := (Ag.sI hs1.1).wk fun s i h => by omega
    have hR2 : RR A n t q h8 vw p' u' (a - 1) 0 (sI σ1 (A 1 0 0) 3 (oI σ1 (A 1 0 0) 3 + 1)) (mS μ1 14 (μ1.1 14 + 1)) := by
      refine f3.mov (hs1.sI rfl) (f3.2.1.sI (by rw [k1']; decide)) (hag.wk fun s i h => h.1) AgM.mS (fun k _ _ e => by simp only [mS_1, e, if_false]) ⟨h1, ?_, ?_, ?_, ?_, h6, ?_, hh8, h9, h10, h11, h12, h13, fun k hk => (h14 k hk).cg (hag.wk fun s i h => by unfold fpM at h; omega) AgM.mS⟩
      · simp only [oK_sI, oK_sR, oK_sC, oZ_sI, oZ_sR, oZ_sC, xI_sI, oI_sR, xI_sC, oR_sI, xR_sR, oR_sC, Option.bind_some, if_true, if_false, Nat.reduceEqDiff, true_and, and_true, false_and, and_false, hi]; exact h2
      · simp only [m_P, mT_2, mT_1, mS_1, mS_2, Option.bind_some, Nat.reduceEqDiff, if_true, if_false, true_and, and_true, false_and, and_false]; exact h3
      · simp only [oK_sI, oK_sR, oK_sC, oZ_sI, oZ_sR, oZ_sC, xI_sI, oI_sR, xI_sC, oR_sI, xR_sR, oR_sC, Option.bind_some, if_true, if_false, Nat.reduceEqDiff, true_and, and_true, false_and, and_false, m_P, mT_2, mT_1, mS_1, mS_2, Option.bind_some, Nat.reduceEqDiff, if_true, if_false, true_and, and_true, false_and, and_false, hi]; exact h4
      · simp only [oK_sI, oK_sR, oK_sC, oZ_sI, oZ_sR, oZ_sC, xI_sI, oI_sR, xI_sC, oR_sI, xR_sR, oR_sC, Option.bind_some, if_true, if_false, Nat.reduceEqDiff, true_and, and_true, false_and, and_false, m_P, mT_2, mT_1, mS_1, mS_2, Option.bind_some, Nat.reduceEqDiff, if_true, if_false, true_and, and_true, false_and, and_false, hi, h5]
      · exact h7
    refine ⟨0, 0, _, _, ?_, ?_, hR2.inv hq (hd.rw (μ' := mS μ1 14 (μ1.1 14 + 1)) fun j i h1 _ => f9 j i (by constructor <;> omega)), Or.inl ⟨rfl, ?_⟩⟩
    · rw [f_X11_lose, x_gR k11, hs.r11_3, Option.bind_some, x_gO k1, Option.bind_some, g1, Option.bind_some, if_neg hne, Option.bind_some, x_gO k1, Option.bind_some, f1, Option.bind_some]
      dsimp only
      rw [x_gR k11', hs1.r11_3, Option.bind_some, x_gI k1', Option.bind_some, x_pI k1', Option.bind_some]
    · rw [f_X12_lose, g2, Option.bind_some, if_neg hne, f_X12_lose_17, m_P, Option.bind_some, mS0, if_pos le00, f2, Option.bind_some, m_P, Option.bind_some]
    · simp only [mS_1, show ¬ (0 : Nat) = 14 by decide, if_false, f8 0 (by decide), if_true]
theorem flow_loop (hq : q ≤ t) {k : Nat} (hk : k ≤ 40) : ∀ (d F F' j : Nat) (A : Ad) (vw : Vw) (p u : Nat → Nat) (a : Nat) (σ : Hp) (μ : Mu), d < F → d < F' → k = j + d → RR A n t q h8 vw p u a 0 σ μ → Ok n μ → μ.1 0 = 0 → ∃ v σ' μ', f_X11_flow_22 F σ (A 11 0 0) (nI k) (nI j) = some (0, v, σ') ∧ f_X12_flow_20 F' μ (nI k) (nI j) = some (v, μ') ∧ Inv n t (A 11 0 0) σ' μ' ∧ μ'.1 0 = 0 := by
  intro d
  induction d with
  | zero =>
    intro F F' j A vw p u a σ μ hF hF' hj hR hd h0
    obtain ⟨F, rfl⟩ : ∃ f, F = f + 1 := ⟨F - 1, by omega⟩
    obtain ⟨F', rfl⟩ : ∃ f, F' = f + 1 := ⟨F' - 1, by omega⟩
    have e1 : nI k ≤ nI j := (nI_leI (by omega) (by omega)).mpr (by omega)
    refine ⟨nI j, σ, μ, ?_, ?_, hR.inv hq hd, h0⟩
    · show b_X11_flow_22 (f_X11_flow_22 F) _ _ _ _ = _
      rw [b_X11_flow_22, if_pos e1]
    · show b_X12_flow_20 (f_X12_flow_20 F') _ _ _ = _
      rw [b_X12_flow_20, if_pos h0, if_pos e1]
  | succ d ih =>
    intro F F' j A vw p u a σ μ hF hF' hj hR hd h0
    obtain ⟨F, rfl⟩ : ∃ f, F = f + 1 := ⟨F - 1, by omega⟩
    obtain ⟨F', rfl⟩ : ∃ f, F' = f + 1 := ⟨F' - 1, by omega⟩
    have e1 : ¬ nI k ≤ nI j := fun e => by rw [nI_leI (by omega) (by omega)] at e; omega
    have hs := hR.1
    have k11 := hs.k11
    have k1 := hs.k1
    obtain ⟨h1, h2, h3, -⟩ := hR.2.2.2.2.1
    have c0 : f_X11_flow_22 (F + 1) σ (A 11 0 0) (nI k) (nI j) = if nI a ≤ 0 then some (0, nI j, σ) else ((f_X1_takeOut σ (A 1 0 0) (0 : Int32)).bind fun v43 => (h_gO v43.2 11 (A 11 0 0)).bind fun _ => (f_X11_handOver v43.2 (A 11 0 0) v43.1).bind fun v46 => f_X11_flow_22 F v46 (A 11 0 0) (nI k) (nI (j + 1))) := by
      show b_X11_flow_22 (f_X11_flow_22 F) _ _ _ _ = _
      rw [b_X11_flow_22, if_neg e1, x_gR k11, hs.r11_3, Option.bind_some, x_gI k1, Option.bind_some, h2, Option.bind_some, x_gO k1, Option.bind_some, nI_1]
    have m0 : f_X12_flow_20 (F' + 1) μ (nI k) (nI j) = if nI a ≤ 0 then some (nI j, μ) else ((f_X12_arrive μ (0 : Int32)).bind fun v41 => f_X12_flow_20 F' v41 (nI k) (nI (j + 1))) := by
      show b_X12_flow_20 (f_X12_flow_20 F') _ _ _ = _
      rw [b_X12_flow_20, if_pos h0, if_neg e1, h3, nI_1]
    rw [c0, m0]
    by_cases c1 : nI a ≤ 0
    · rw [if_pos c1, if_pos c1]
      exact ⟨nI j, σ, μ, rfl, rfl, hR.inv hq hd, h0⟩
    · rw [if_neg c1, if_neg c1]
      have ha : 0 < a := by
        rw [l0, nI_leI (by omega) (by omega)] at c1
        omega
      obtain ⟨m0, σ1, p', u', f1, f2, f3⟩ := hand hR ha
      obtain ⟨σ2, μ2, a2, vw2, w1, w2, w3, w4, w5, w6, w7⟩ := f3
      obtain ⟨v, σ', μ', y1, y2, y3, y4⟩ := ih F F' (j + 1) A vw2 p' u' a2 σ2 μ2 (by omega) (by omega) (by omega) w4 (hd.cg w6 w7) (w5.trans h0)
      refine ⟨v, σ', μ', ?_, ?_, y3, y4⟩
      · rw [show (0 : Int32) = nI 0 from rfl, f1, Option.bind_some]
        dsimp only
        rw [x_gO f2, Option.bind_some, w1, Option.bind_some]
        exact y1
      · rw [show (0 : Int32) = nI 0 from rfl, w2, Option.bind_some]
        exact y2
theorem pb_flow (hI : Inv n t tb σ μ) (x : Int32) : ∃ cd v σ' b μ', f_X11_flow σ tb x = some (cd, v, σ') ∧ f_X12_flow μ x = some (b, μ') ∧ Inv n t tb σ' μ' ∧ ((cd = 0 ∧ μ'.1 0 = 0 ∧ v = b) ∨ (cd = 2 ∧ μ'.1 0 = 1)) := by
  obtain ⟨hd, A, q, vw, p, u, a, rfl, hq, hR⟩ := hI
  have hF : ∀ F, f_X12_flow_20 (F + 1) (mS μ 0 1) x 0 = some (0, mS μ 0 1) := fun F => by
    show b_X12_flow_20 (f_X12_flow_20 F) _ _ _ = _
    rw [b_X12_flow_20, mS0, if_neg n10]
  have hlf : lf = 4999 + 1 := rfl
  rcases m_in x (k := 41) (by decide) with ⟨k, h1, rfl, h3, h4, h5⟩ | ⟨h1, h2⟩
  · obtain ⟨v, σ', μ', y1, y2, y3, y4⟩ := flow_loop hq (k := k) (by omega) k 41 lf 0 A vw p u a σ (mS μ 0 0) h1 (by unfold lf; omega) (by omega) (hR.th 0) hd (mS0 _ _)
    refine ⟨0, v, σ', v, μ', ?_, ?_, y3, Or.inl ⟨rfl, y4, rfl⟩⟩
    · rw [f_X11_flow, if_neg h4, if_pos (show nI k ≤ (40 : Int32) from (show (40 : Int32) = nI 40 from rfl) ▸ (nI_leI (by omega) (by omega)).mpr (by omega))]
      exact y1
    · rw [f_X12_flow, show (41 : Int32) = nI 41 from rfl, h3, Option.bind_some, if_neg n10, f_X12_flow_15, m_P, Option.bind_some]
      exact y2
  · refine ⟨2, 0, σ, 0, mS μ 0 1, ?_, ?_, (hR.th 1).inv hq (hd.th 1), Or.inr ⟨rfl, mS0 _ _⟩⟩
    · rcases h2 with h2 | ⟨h2, h3⟩
      · rw [f_X11_flow, if_pos h2]
      · rw [f_X11_flow, if_neg h2, if_neg (fun e => by
          have e1 : (40 : Int32).toInt = 40 := by decide
          have e2 : (nI 41).toInt = 41 := by decide
          rw [Int32.le_iff_toInt_le] at e h3
          omega)]
    · rw [f_X12_flow, show (41 : Int32) = nI 41 from rfl, h1, Option.bind_some, if_pos rfl, f_X12_flow_15, m_P, Option.bind_some, hlf]
      exact hF 4999
end PUB
