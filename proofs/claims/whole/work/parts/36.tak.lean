section TAL
variable {A : Ad} {n T q : Nat} {hb hb' : Nat → Nat} {vw : Vw} {p u : Nat → Nat} {a d r : Nat} {σ : Hp} {μ : Mu}
theorem RR.hbm (hR : RR A n T q hb vw p u a d σ μ) (h : ∀ i, hb i ≤ hb' i) : RR A n T q hb' vw p u a d σ μ := by
  obtain ⟨r1, r2, r3, r4, r5, r6, r7⟩ := hR
  refine ⟨r1, r2, r3, r4, r5, fun r hr => ?_, r7⟩
  obtain ⟨g1, g2, ⟨h1, h2, h3⟩, g4⟩ := (r6 r hr).sp
  exact Rr.mk g1 g2 ⟨h1, Nat.le_trans h2 (h r), h3⟩ g4
/-- an entry is appended and answered -/
theorem tk_one (hR : RR A n T q h8 vw p u a 0 σ μ) (hr : r < n) {l : Nat} (hl : l < 100) (h38 : μ.2 38 r = nI l) {x : Int32} (hx : Rid q x) : ∃ σ1 μ1 σ2 μ2 a', f_X4_put σ (A 32 r 0) (nI (l + 1)) x = some σ1 ∧ f_X12_append μ (nI r) x = some μ1 ∧ oK σ1 (A 6 r 0) = 6 ∧ f_X6_reply σ1 (A 6 r 0) (nI (l + 1)) x = some σ2 ∧ f_X12_answer μ1 (nI r) x = some μ2 ∧ RR A n T q h8 vw p u a' 0 σ2 μ2 ∧ Kp A p σ σ2 μ μ2 ∧ μ2.2 38 r = nI (l + 1) := by
  obtain ⟨σ1, μ1, c1, c2, c3, c4, c5, c6, c7⟩ := lap hR hr hl h38 hx.sm
  obtain ⟨σ2, μ2, a2, f1, f2, f3, f4, f5⟩ := rep_reply c3 hr c4 (by omega) (by omega) hx
  exact ⟨σ1, μ1, σ2, μ2, a2, c1, c2, c3.1.k6 hr, f1, f2, f3, Kp.tr ⟨c5.wk fun s i h => by omega, c6.wk fun j i h => by omega, fun k _ _ _ => by rw [c7]⟩ f4, (f5 38 r (by omega)).trans c4⟩
theorem tk_loop (hr : r < n) : ∀ d (F F' l : Nat) (σ : Hp) (μ : Mu) (a : Nat), d < F → d < F' → l + d = 100 → RR A n T q h8 vw p u a 0 σ μ → μ.2 38 r = nI l → St A n T q vw p u σ μ (f_X6_takeHeld_10 F σ (A 6 r 0) (nI (l + 1))) (f_X12_take_0 F' μ (nI r)) := by
  intro d
  induction d with
  | zero =>
    intro F F' l σ μ a hF hF' hl hR h38
    obtain ⟨F, rfl⟩ : ∃ f, F = f + 1 := ⟨F - 1, by omega⟩
    obtain ⟨F', rfl⟩ : ∃ f, F' = f + 1 := ⟨F' - 1, by omega⟩
    show St _ _ _ _ _ _ _ _ _ (b_X6_takeHeld_10 (f_X6_takeHeld_10 F) σ _ _) (b_X12_take_0 (f_X12_take_0 F') μ _)
    have h7 := hR.1.np
    rw [b_X6_takeHeld_10, b_X12_take_0, if_pos (by rw [l100, nI_ltI (by omega) (by omega)]; omega), mA_n 38 r (by simp only [mZ]; omega), Option.bind_some, h38, if_pos (by rw [l100, nI_leI (by omega) (by omega)]; omega)]
    exact tk57 hR hr
  | succ d ih =>
    intro F F' l σ μ a hF hF' hl hR h38
    obtain ⟨F, rfl⟩ : ∃ f, F = f + 1 := ⟨F - 1, by omega⟩
    obtain ⟨F', rfl⟩ : ∃ f, F' = f + 1 := ⟨F' - 1, by omega⟩
    show St _ _ _ _ _ _ _ _ _ (b_X6_takeHeld_10 (f_X6_takeHeld_10 F) σ _ _) (b_X12_take_0 (f_X12_take_0 F') μ _)
    have hs := hR.1
    have h7 := hs.np
    have hr7 : r < 7 := by omega
    have k6 := hs.k6 hr
    have k3 := hs.k3 hr
    have hsl : nI (l + 1) = μ.2 39 r + (nI (l + 1) - μ.2 39 r) := (i_sub _ _).symm
    have el : nI l + 1 = nI (l + 1) := nI_1 l
    rw [b_X6_takeHeld_10, b_X12_take_0, if_neg (by rw [l100, nI_ltI (by omega) (by omega)]; omega), mA_n 38 r hr7, Option.bind_some, h38, if_neg (by rw [l100, nI_leI (by omega) (by omega)]; omega), mA_n 39 r hr7]
    rcases hrm hR hr (by decide : (8 : Nat) ≤ 9) hsl with ⟨c1, c2, c3, c4⟩ | ⟨j, id, h, σ1, μ1, c1, c2, c3, c4, c5, c6, c7, c8, c9, c10, c11, c12, c13⟩
    · have e1 : f_X3_has σ (A 3 r 0) (nI (l + 1)) = some 0 := by
        rw [f_X3_has, x_gO k3, Option.bind_some, c4, Option.bind_some, if_pos rfl]
      rw [x_gR k6, hs.r6_1 hr, Option.bind_some, x_gO k3, Option.bind_some, e1, Option.bind_some, if_pos rfl, Option.bind_some, el, Option.bind_some, c3, Option.bind_some, if_pos rfl]
      exact tk57 hR hr
    · have hj : ¬ nI j = -1 := nI_m1 (by
        have : h ≤ 8 := c1
        omega)
      have e1 : f_X3_has σ (A 3 r 0) (nI (l + 1)) = some 1 := by
        simp only [f_X3_has, x_gI, x_gR, x_gO, x_pI, x_pR, x_aI, x_aR, x_qI, x_qR, x_aL, oK_sI, oK_sR, oK_sC, oZ_sI, oZ_sR, oZ_sC, xI_sI, oI_sR, xI_sC, oR_sI, xR_sR, oR_sC, Option.bind_some, if_true, if_false, Nat.reduceEqDiff, true_and, and_true, false_and, and_false, k3, c5, hj]
      have d1 : RR A n T q h8 vw p u a 0 σ1 μ1 := c10.hbm (fun i => by
        show (if i = r then h8 r - 1 else h8 i) ≤ 8
        split
        · exact Nat.sub_le _ _
        · exact Nat.le_refl _)
      have h38' : μ1.2 38 r = nI l := (c12 38 r (by omega)).trans h38
      obtain ⟨σ2, μ2, σ3, μ3, a3, f1, f2, f2', f3, f4, f5, f6, f7⟩ := tk_one d1 hr (by omega : l < 100) h38' c4
      have k6' := d1.1.k6 hr
      have k32' := d1.1.k32 hr
      have r60' := d1.1.r6_0 hr
      have e2 : (12 : Int32) * nI r + nI j = nI (12 * r + j) := by rw [l12, pk_mul, nI_add]
      simp only [x_gI, x_gR, x_gO, x_pI, x_pR, x_aI, x_aR, x_qI, x_qR, x_aL, oK_sI, oK_sR, oK_sC, oZ_sI, oZ_sR, oZ_sC, xI_sI, oI_sR, xI_sC, oR_sI, xR_sR, oR_sC, Option.bind_some, if_true, if_false, Nat.reduceEqDiff, true_and, and_true, false_and, and_false, k6, k3, hs.r6_1 hr, e1, el, c6, c8, c9, hj, e2, c7, k6', k32', r60', f1, f2, f2', f3, f4, show ¬ (1 : Int32) = 0 by decide, nI_1]
      exact (ih F F' (l + 1) σ3 μ3 a3 (by omega) (by omega) (by omega) f5 f7).tr (Kp.tr ⟨c11.wk fun s i h => by omega, c12.wk fun j i h => by omega, fun k _ _ _ => by rw [c13]⟩ f6)
theorem tk (hR : RR A n T q h8 vw p u a 0 σ μ) (hr : r < n) : St A n T q vw p u σ μ (f_X6_takeHeld σ (A 6 r 0)) (f_X12_take μ (nI r)) := by
  have hs := hR.1
  obtain ⟨-, ⟨l, q1, q2, q3, q4⟩, -, -⟩ := (hR.2.2.2.2.2.1 r hr).sp
  rw [f_X6_takeHeld, x_gR (hs.k6 hr), hs.r6_0 hr, Option.bind_some, x_gI (hs.k32 hr), Option.bind_some, q3, nI_1, f_X12_take]
  exact tk_loop hr (100 - l) lf lf l σ μ a (by unfold lf; omega) (by unfold lf; omega) (by omega) hR q2
/-- FOUND: put by and taken at once -/
theorem fnd (hR : RR A n T q h8 vw p u a 0 σ μ) (hr : r < n) {l : Nat} (hl : l < 100) (h38 : μ.2 38 r = nI l) {x : Int32} (hx : Rid q x) : St A n T q vw p u σ μ ((f_X3_put σ (A 3 r 0) (nI (l + 1)) x).bind fun v26 => (h_gO v26 6 (A 6 r 0)).bind fun _ => (f_X6_takeHeld v26 (A 6 r 0)).bind fun v30 => some v30) ((f_X12_hold μ (nI r) (nI (l + 1) - μ.2 39 r) x).bind fun v89 => (f_X12_take v89 (nI r)).bind fun v94 => some v94) := by
  have hs := hR.1
  have h7 := hs.np
  have hi := hs.inj
  have hI := hs.1
  have hr7 : r < 7 := by omega
  have k6 := hs.k6 hr
  have k3 := hs.k3 hr
  have hsl : nI (l + 1) = μ.2 39 r + (nI (l + 1) - μ.2 39 r) := (i_sub _ _).symm
  have el : nI l + 1 = nI (l + 1) := nI_1 l
  -- what follows the putting by
  have rest : ∀ (σp σ1 : Hp) (μp μ1 : Mu) (j : Nat), j < 12 → Rs A n σp → Ag A σ σp (fun s i => ¬ (i = r ∧ (s = 3 ∨ s = 34 ∨ s = 35))) → AgM μ μp (fun j i => ¬ (j = 43 ∧ i = r) ∧ ¬ ((j = 44 ∨ j = 45) ∧ 12 * r ≤ i ∧ i < 12 * r + 12)) → f_X3_indexOf σp (A 3 r 0) (nI (l + 1)) ≠ some (-1) → (∃ y, f_X3_indexOf σp (A 3 r 0) (nI (l + 1)) = some y) → f_X3_remove σp (A 3 r 0) (nI (l + 1)) = some (x, σ1) → f_X12_held μp (nI r) (nI (l + 1) - μ.2 39 r) = some (nI j) → m_A μp 45 (nI (12 * r + j)) = some x → f_X12_unhold μp (nI r) (nI (l + 1) - μ.2 39 r) = some μ1 → RR A n T q h8 vw p u a 0 σ1 μ1 → Ag A σ σ1 (fun s i => ¬ (i = r ∧ (s = 3 ∨ s = 34 ∨ s = 35))) → AgM μ μ1 (fun j i => ¬ (j = 43 ∧ i = r) ∧ ¬ ((j = 44 ∨ j = 45) ∧ 12 * r ≤ i ∧ i < 12 * r + 12)) → μ1.1 = μ.1 → St A n T q vw p u σ μ ((f_X6_takeHeld σp (A 6 r 0)).bind fun v30 => some v30) ((f_X12_take μp (nI r)).bind fun v94 => some v94) := by
    intro σp σ1 μp μ1 j hj12 hsp hcp hmp hix hix2 hrm1 hhe hm45 hun d1 c11 c12 c13
    obtain ⟨y, hy⟩ := hix2
    have hyne : ¬ y = -1 := fun e => hix (by rw [hy, e])
    have k6p := hsp.k6 hr
    have k3p := hsp.k3 hr
    have k32p := hsp.k32 hr
    have e32 : oI σp (A 32 r 0) 1 = nI l := by
      obtain ⟨-, ⟨l', q1, q2, q3, q4⟩, -, -⟩ := (hR.2.2.2.2.2.1 r hr).sp
      rw [(hcp 32 r 0 (by omega)).1, q3, ← q2, h38]
    have e38 : μp.2 38 r = nI l := (hmp 38 r (by omega)).trans h38
    have e39 : μp.2 39 r = μ.2 39 r := hmp 39 r (by omega)
    have e1 : f_X3_has σp (A 3 r 0) (nI (l + 1)) = some 1 := by
      simp only [f_X3_has, x_gI, x_gR, x_gO, x_pI, x_pR, x_aI, x_aR, x_qI, x_qR, x_aL, oK_sI, oK_sR, oK_sC, oZ_sI, oZ_sR, oZ_sC, xI_sI, oI_sR, xI_sC, oR_sI, xR_sR, oR_sC, Option.bind_some, if_true, if_false, Nat.reduceEqDiff, true_and, and_true, false_and, and_false, k3p, hy, hyne]
    have h38' : μ1.2 38 r = nI l := (c12 38 r (by omega)).trans h38
    obtain ⟨σ2, μ2, σ3, μ3, a3, f1, f2, f2', f3, f4, f5, f6, f7⟩ := tk_one d1 hr hl h38' hx
    have k6' := d1.1.k6 hr
    have k32' := d1.1.k32 hr
    have r60' := d1.1.r6_0 hr
    have e2 : (12 : Int32) * nI r + nI j = nI (12 * r + j) := by rw [l12, pk_mul, nI_add]
    have hjn : ¬ nI j = -1 := nI_m1 (by omega)
    have c100 : ¬ (100 : Int32) < nI (l + 1) := by rw [l100, nI_ltI (by omega) (by omega)]; omega
    have c100' : ¬ (100 : Int32) ≤ nI l := by rw [l100, nI_leI (by omega) (by omega)]; omega
    rw [f_X6_takeHeld, x_gR k6p, hsp.r6_0 hr, Option.bind_some, x_gI k32p, Option.bind_some, e32, nI_1, f_X12_take]
    show St _ _ _ _ _ _ _ _ _ ((b_X6_takeHeld_10 (f_X6_takeHeld_10 4999) σp _ _).bind _) ((b_X12_take_0 (f_X12_take_0 4999) μp _).bind _)
    rw [b_X6_takeHeld_10, b_X12_take_0]
    simp only [x_gI, x_gR, x_gO, x_pI, x_pR, x_aI, x_aR, x_qI, x_qR, x_aL, oK_sI, oK_sR, oK_sC, oZ_sI, oZ_sR, oZ_sC, xI_sI, oI_sR, xI_sC, oR_sI, xR_sR, oR_sC, Option.bind_some, if_true, if_false, Nat.reduceEqDiff, true_and, and_true, false_and, and_false, k6p, k3p, hsp.r6_1 hr, e1, c100, c100', mA_n 38 r hr7, mA_n 39 r hr7, e38, e39, el, hhe, hun, hrm1, hjn, e2, hm45, k6', k32', r60', f1, f2, f2', f3, f4, show ¬ (1 : Int32) = 0 by decide, nI_1]
    exact ((tk_loop hr (100 - (l + 1)) 4999 4999 (l + 1) σ3 μ3 a3 (by omega) (by omega) (by omega) f5 f7).tr (Kp.tr ⟨c11.wk fun s i h => by omega, c12.wk fun j i h => by omega, fun k _ _ _ => by rw [c13]⟩ f6)).ret
  obtain ⟨-, -, ⟨h, g1, g2, g3, g4, g5⟩, -⟩ := (hR.2.2.2.2.2.1 r hr).sp
  have g1 : h ≤ 8 := g1
  have rdg : ∀ (σp : Hp) (f : Hp → Option Hp), oK σp (A 6 r 0) = 6 → ((some σp).bind fun v26 => (h_gO v26 6 (A 6 r 0)).bind fun _ => f v26) = f σp := fun σp f h => by
    rw [Option.bind_some, x_gO h, Option.bind_some]
  rcases hrm hR hr (by decide : (8 : Nat) ≤ 9) hsl with ⟨c1, c2, c3, c4⟩ | ⟨j, id, h', σ1, μ1, c1, c2, c3, c4, c5, c6, c7, c8, c9, c10, c11, c12, c13⟩
  · -- not held before
    obtain ⟨σp, μp, d1, d2, d3, d4, d5, d6⟩ := hap hR hr (Nat.le_refl 8) g2 g1 hx hsl (by decide : (8 : Nat) ≤ 9) c3 c4
    have e39 : μp.2 39 r = μ.2 39 r := d5 39 r (by omega)
    have hsl' : nI (l + 1) = μp.2 39 r + (nI (l + 1) - μ.2 39 r) := by rw [e39]; exact hsl
    have hb9 : (fun i => if i = r then h + 1 else h8 i) r ≤ 9 := by
      show (if r = r then h + 1 else h8 r) ≤ 9
      rw [if_pos rfl]
      omega
    rw [d1, d2, rdg σp _ (d3.1.k6 hr), Option.bind_some]
    rcases hrm d3 hr hb9 hsl' with ⟨t1, t2, t3, t4⟩ | ⟨j, id, h', σ1, μ1, t1, t2, t3, t4, t5, t6, t7, t8, t9, t10, t11, t12, t13⟩
    · -- it is held now
      exfalso
      obtain ⟨y, h2, b1', b2, b3, b4, b5⟩ := hld d3 hr hb9 hsl'
      rcases b5 with ⟨j, hj, hy, -⟩ | ⟨hy, hno⟩
      · rw [hy, t3] at b4
        exact nI_m1 (show j < 2 ^ 31 by
          have : h2 ≤ 9 := Nat.le_trans b1' hb9
          omega) (Option.some.inj b4).symm
      · sorry
    · sorry
  · sorry
end TAL
