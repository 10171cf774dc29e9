section TAL
variable {A : Ad} {n T q : Nat} {hb hb' : Nat → Nat} {vw : Vw} {p u : Nat → Nat} {a d r : Nat} {σ : Hp} {μ : Mu}
theorem RR.hbm (hR : RR A n T q hb vw p u a d σ μ) (h : ∀ i, hb i ≤ hb' i) : RR A n T q hb' vw p u a d σ μ := by
  obtain ⟨r1, r2, r3, r4, r5, r6, r7⟩ := hR
  refine ⟨r1, r2, r3, r4, r5, fun r hr => ?_, r7⟩
  obtain ⟨g1, g2, ⟨h1, h2, h3⟩, g4⟩ := (r6 r hr).sp
  exact Rr.mk g1 g2 ⟨h1, Nat.le_trans h2 (h r), h3⟩ g4
/-- an entry is appended and answered -/
theorem tk_one (hR : RR A n T q h8 vw p u a 0 σ μ) (hr : r < n) {l : Nat} (hl : l < 100) (h38 : μ.2 38 r = nI l) {x : Int32} (hx : Rid q x) : ∃ σ1 μ1 σ2 μ2 a', f_X4_put σ (A 32 r 0) (nI (l + 1)) x = some σ1 ∧ f_X12_append μ (nI r) x = some μ1 ∧ oK σ1 (A 6 r 0) = 6 ∧ f_X6_reply σ1 (A 6 r 0) (nI (l + 1)) x = some σ2 ∧ f_X12_answer μ1 (nI r) x = some μ2 ∧ RR A n T q h8 vw p u a' 0 σ2 μ2 ∧ Kp A n p σ σ2 μ μ2 ∧ μ2.2 38 r = nI (l + 1) := by
  obtain ⟨σ1, μ1, c1, c2, c3, c4, c5, c6, c7⟩ := lap hR hr hl h38 hx.sm
  obtain ⟨σ2, μ2, a2, f1, f2, f3, f4, f5⟩ := rep_reply c3 hr c4 (by omega) (by omega) hx
  exact ⟨σ1, μ1, σ2, μ2, a2, c1, c2, c3.1.k6 hr, f1, f2, f3, Kp.tr (Kp.mk2 (c5.wk fun s i h => by omega) (c6.wk fun j i h => by omega) (fun k _ _ _ => by rw [c7]) (Gx.of38 (r := r) (fun i => c6 35 i (by omega)) (fun i h => c6 38 i (by omega)) c4 hl)) f4, (f5 38 r (by omega)).trans c4⟩
theorem tk_loop (hr : r < n) : ∀ d (F F' l : Nat) (σ : Hp) (μ : Mu) (a : Nat), d < F → d < F' → l + d = 100 → RR A n T q h8 vw p u a 0 σ μ → μ.2 38 r = nI l → St A n T q vw p u σ μ (f_X6_takeHeld_10 F σ (A 6 r 0) (nI (l + 1))) (f_X12_take_0 F' μ (nI r)) := by
  intro d
  induction d with
  | zero =>
    intro F F' l σ μ a hF hF' hl hR h38
    obtain ⟨F, rfl⟩ : ∃ f, F = f + 1 := ⟨F - 1, by omega⟩
    obtain ⟨F', rfl⟩ : ∃ f, F' = f + 1 := ⟨F' - 1, by omega⟩
    show St _ _ _ _ _ _ _ _ _ (b_X6_takeHeld_10 (f_X6_takeHeld_10 F) σ _ _) (b_X12_take_0 (f_X12_take_0 F') μ _)
    have h7 := hR.1.np
    rw [b_X6_takeHeld_10, b_X12_take_0, if_pos (by rw [l100, nI_ltI (by omega) (by omega)]; omega), mA_n 38 r (by simp only [mZ]; omega), Option.bind_some, h38, if_pos (by rw [l100, nI_leI (by omega) (by omega)]; omega)]
    exact tk57 hR hr
  | succ d ih =>
    intro F F' l σ μ a hF hF' hl hR h38
    obtain ⟨F, rfl⟩ : ∃ f, F = f + 1 := ⟨F - 1, by omega⟩
    obtain ⟨F', rfl⟩ : ∃ f, F' = f + 1 := ⟨F' - 1, by omega⟩
    show St _ _ _ _ _ _ _ _ _ (b_X6_takeHeld_10 (f_X6_takeHeld_10 F) σ _ _) (b_X12_take_0 (f_X12_take_0 F') μ _)
    have hs := hR.1
    have h7 := hs.np
    have hr7 : r < 7 := by omega
    have k6 := hs.k6 hr
    have k3 := hs.k3 hr
    have hsl : nI (l + 1) = μ.2 39 r + (nI (l + 1) - μ.2 39 r) := (i_sub _ _).symm
    have el : nI l + 1 = nI (l + 1) := nI_1 l
    rw [b_X6_takeHeld_10, b_X12_take_0, if_neg (by rw [l100, nI_ltI (by omega) (by omega)]; omega), mA_n 38 r hr7, Option.bind_some, h38, if_neg (by rw [l100, nI_leI (by omega) (by omega)]; omega), mA_n 39 r hr7]
    rcases hrm hR hr (by decide : (8 : Nat) ≤ 9) hsl with ⟨c1, c2, c3, c4⟩ | ⟨j, id, h, σ1, μ1, c1, c2, c3, c4, c5, c6, c7, c8, c9, c10, c11, c12, c13⟩
    · have e1 : f_X3_has σ (A 3 r 0) (nI (l + 1)) = some 0 := by
        rw [f_X3_has, x_gO k3, Option.bind_some, c4, Option.bind_some, if_pos rfl]
      rw [x_gR k6, hs.r6_1 hr, Option.bind_some, x_gO k3, Option.bind_some, e1, Option.bind_some, if_pos rfl, Option.bind_some, el, Option.bind_some, c3, Option.bind_some, if_pos rfl]
      exact tk57 hR hr
    · have hj : ¬ nI j = -1 := nI_m1 (by
        have : h ≤ 8 := c1
        omega)
      have e1 : f_X3_has σ (A 3 r 0) (nI (l + 1)) = some 1 := by
        simp only [f_X3_has, x_gI, x_gR, x_gO, x_pI, x_pR, x_aI, x_aR, x_qI, x_qR, x_aL, oK_sI, oK_sR, oK_sC, oZ_sI, oZ_sR, oZ_sC, xI_sI, oI_sR, xI_sC, oR_sI, xR_sR, oR_sC, Option.bind_some, if_true, if_false, Nat.reduceEqDiff, true_and, and_true, false_and, and_false, k3, c5, hj]
      have d1 : RR A n T q h8 vw p u a 0 σ1 μ1 := c10.hbm (fun i => by
        show (if i = r then h8 r - 1 else h8 i) ≤ 8
        split
        · exact Nat.sub_le _ _
        · exact Nat.le_refl _)
      have h38' : μ1.2 38 r = nI l := (c12 38 r (by omega)).trans h38
      obtain ⟨σ2, μ2, σ3, μ3, a3, f1, f2, f2', f3, f4, f5, f6, f7⟩ := tk_one d1 hr (by omega : l < 100) h38' c4
      have k6' := d1.1.k6 hr
      have k32' := d1.1.k32 hr
      have r60' := d1.1.r6_0 hr
      have e2 : (12 : Int32) * nI r + nI j = nI (12 * r + j) := by rw [l12, pk_mul, nI_add]
      simp only [x_gI, x_gR, x_gO, x_pI, x_pR, x_aI, x_aR, x_qI, x_qR, x_aL, oK_sI, oK_sR, oK_sC, oZ_sI, oZ_sR, oZ_sC, xI_sI, oI_sR, xI_sC, oR_sI, xR_sR, oR_sC, Option.bind_some, if_true, if_false, Nat.reduceEqDiff, true_and, and_true, false_and, and_false, k6, k3, hs.r6_1 hr, e1, el, c6, c8, c9, hj, e2, c7, k6', k32', r60', f1, f2, f2', f3, f4, show ¬ (1 : Int32) = 0 by decide, nI_1]
      exact (ih F F' (l + 1) σ3 μ3 a3 (by omega) (by omega) (by omega) f5 f7).tr (Kp.tr (Kp.mk' (c11.wk fun s i h => by omega) (c12.wk fun j i h => by omega) (fun k _ _ _ => by rw [c13.1])) f6)
theorem tk (hR : RR A n T q h8 vw p u a 0 σ μ) (hr : r < n) : St A n T q vw p u σ μ (f_X6_takeHeld σ (A 6 r 0)) (f_X12_take μ (nI r)) := by
  have hs := hR.1
  obtain ⟨-, ⟨l, q1, q2, q3, q4⟩, -, -⟩ := (hR.2.2.2.2.2.1 r hr).sp
  rw [f_X6_takeHeld, x_gR (hs.k6 hr), hs.r6_0 hr, Option.bind_some, x_gI (hs.k32 hr), Option.bind_some, q3, nI_1, f_X12_take]
  exact tk_loop hr (100 - l) lf lf l σ μ a (by unfold lf; omega) (by unfold lf; omega) (by omega) hR q2
/-- FOUND: put by and taken at once -/
theorem fnd (hR : RR A n T q h8 vw p u a 0 σ μ) (hr : r < n) {l : Nat} (hl : l < 100) (h38 : μ.2 38 r = nI l) {x : Int32} (hx : Rid q x) : St A n T q vw p u σ μ ((f_X3_put σ (A 3 r 0) (nI (l + 1)) x).bind fun v26 => (h_gO v26 6 (A 6 r 0)).bind fun _ => (f_X6_takeHeld v26 (A 6 r 0)).bind fun v30 => some v30) ((f_X12_hold μ (nI r) (nI (l + 1) - μ.2 39 r) x).bind fun v89 => (f_X12_take v89 (nI r)).bind fun v94 => some v94) := by
  have hs := hR.1
  have h7 := hs.np
  have hi := hs.inj
  have hI := hs.1
  have hr7 : r < 7 := by omega
  have k6 := hs.k6 hr
  have k3 := hs.k3 hr
  have hsl : nI (l + 1) = μ.2 39 r + (nI (l + 1) - μ.2 39 r) := (i_sub _ _).symm
  have el : nI l + 1 = nI (l + 1) := nI_1 l
  -- what follows the putting by
  have rest : ∀ (σp σ1 : Hp) (μp μ1 : Mu) (j : Nat), j < 12 → Rs A n σp → Ag A σ σp (fun s i => ¬ (i = r ∧ (s = 3 ∨ s = 34 ∨ s = 35))) → AgM μ μp (fun j i => ¬ (j = 43 ∧ i = r) ∧ ¬ ((j = 44 ∨ j = 45) ∧ 12 * r ≤ i ∧ i < 12 * r + 12)) → f_X3_indexOf σp (A 3 r 0) (nI (l + 1)) ≠ some (-1) → (∃ y, f_X3_indexOf σp (A 3 r 0) (nI (l + 1)) = some y) → f_X3_remove σp (A 3 r 0) (nI (l + 1)) = some (x, σ1) → f_X12_held μp (nI r) (nI (l + 1) - μ.2 39 r) = some (nI j) → m_A μp 45 (nI (12 * r + j)) = some x → f_X12_unhold μp (nI r) (nI (l + 1) - μ.2 39 r) = some μ1 → RR A n T q h8 vw p u a 0 σ1 μ1 → Ag A σ σ1 (fun s i => ¬ (i = r ∧ (s = 3 ∨ s = 34 ∨ s = 35))) → AgM μ μ1 (fun j i => ¬ (j = 43 ∧ i = r) ∧ ¬ ((j = 44 ∨ j = 45) ∧ 12 * r ≤ i ∧ i < 12 * r + 12)) → μ1.1 = μ.1 → St A n T q vw p u σ μ ((f_X6_takeHeld σp (A 6 r 0)).bind fun v30 => some v30) ((f_X12_take μp (nI r)).bind fun v94 => some v94) := by
    intro σp σ1 μp μ1 j hj12 hsp hcp hmp hix hix2 hrm1 hhe hm45 hun d1 c11 c12 c13
    obtain ⟨y, hy⟩ := hix2
    have hyne : ¬ y = -1 := fun e => hix (by rw [hy, e])
    have k6p := hsp.k6 hr
    have k3p := hsp.k3 hr
    have k32p := hsp.k32 hr
    have e32 : oI σp (A 32 r 0) 1 = nI l := by
      obtain ⟨-, ⟨l', q1, q2, q3, q4⟩, -, -⟩ := (hR.2.2.2.2.2.1 r hr).sp
      rw [(hcp 32 r 0 (by omega)).1, q3, ← q2, h38]
    have e38 : μp.2 38 r = nI l := (hmp 38 r (by omega)).trans h38
    have e39 : μp.2 39 r = μ.2 39 r := hmp 39 r (by omega)
    have e1 : f_X3_has σp (A 3 r 0) (nI (l + 1)) = some 1 := by
      simp only [f_X3_has, x_gI, x_gR, x_gO, x_pI, x_pR, x_aI, x_aR, x_qI, x_qR, x_aL, oK_sI, oK_sR, oK_sC, oZ_sI, oZ_sR, oZ_sC, xI_sI, oI_sR, xI_sC, oR_sI, xR_sR, oR_sC, Option.bind_some, if_true, if_false, Nat.reduceEqDiff, true_and, and_true, false_and, and_false, k3p, hy, hyne]
    have h38' : μ1.2 38 r = nI l := (c12 38 r (by omega)).trans h38
    obtain ⟨σ2, μ2, σ3, μ3, a3, f1, f2, f2', f3, f4, f5, f6, f7⟩ := tk_one d1 hr hl h38' hx
    have k6' := d1.1.k6 hr
    have k32' := d1.1.k32 hr
    have r60' := d1.1.r6_0 hr
    have e2 : (12 : Int32) * nI r + nI j = nI (12 * r + j) := by rw [l12, pk_mul, nI_add]
    have hjn : ¬ nI j = -1 := nI_m1 (by omega)
    have c100 : ¬ (100 : Int32) < nI (l + 1) := by rw [l100, nI_ltI (by omega) (by omega)]; omega
    have c100' : ¬ (100 : Int32) ≤ nI l := by rw [l100, nI_leI (by omega) (by omega)]; omega
    rw [f_X6_takeHeld, x_gR k6p, hsp.r6_0 hr, Option.bind_some, x_gI k32p, Option.bind_some, e32, nI_1, f_X12_take]
    show St _ _ _ _ _ _ _ _ _ ((b_X6_takeHeld_10 (f_X6_takeHeld_10 4999) σp _ _).bind _) ((b_X12_take_0 (f_X12_take_0 4999) μp _).bind _)
    rw [b_X6_takeHeld_10, b_X12_take_0]
    simp only [x_gI, x_gR, x_gO, x_pI, x_pR, x_aI, x_aR, x_qI, x_qR, x_aL, oK_sI, oK_sR, oK_sC, oZ_sI, oZ_sR, oZ_sC, xI_sI, oI_sR, xI_sC, oR_sI, xR_sR, oR_sC, Option.bind_some, if_true, if_false, Nat.reduceEqDiff, true_and, and_true, false_and, and_false, k6p, k3p, hsp.r6_1 hr, e1, c100, c100', mA_n 38 r hr7, mA_n 39 r hr7, e38, e39, el, hhe, hun, hrm1, hjn, e2, hm45, k6', k32', r60', f1, f2, f2', f3, f4, show ¬ (1 : Int32) = 0 by decide, nI_1]
    exact ((tk_loop hr (100 - (l + 1)) 4999 4999 (l + 1) σ3 μ3 a3 (by omega) (by omega) (by omega) f5 f7).tr (Kp.tr (Kp.mk' (c11.wk fun s i h => by omega) (c12.wk fun j i h => by omega) (fun k _ _ _ => by rw [c13])) f6)).ret
  obtain ⟨-, -, ⟨h, g1, g2, g3, g4, g5⟩, -⟩ := (hR.2.2.2.2.2.1 r hr).sp
  have g1 : h ≤ 8 := g1
  have rdg : ∀ (σp : Hp) (f : Hp → Option Hp), oK σp (A 6 r 0) = 6 → ((some σp).bind fun v26 => (h_gO v26 6 (A 6 r 0)).bind fun _ => f v26) = f σp := fun σp f h => by
    rw [Option.bind_some, x_gO h, Option.bind_some]
  rcases hrm hR hr (by decide : (8 : Nat) ≤ 9) hsl with ⟨c1, c2, c3, c4⟩ | ⟨j, id, h', σ1, μ1, c1, c2, c3, c4, c5, c6, c7, c8, c9, c10, c11, c12, c13⟩
  · -- not held before
    obtain ⟨σp, μp, d1, d2, d3, d4, d5, d6, d7, d8, d9⟩ := hap hR hr (Nat.le_refl 8) g2 g1 hx hsl (by decide : (8 : Nat) ≤ 9) c3 c4
    have e39 : μp.2 39 r = μ.2 39 r := d5 39 r (by omega)
    have hsl' : nI (l + 1) = μp.2 39 r + (nI (l + 1) - μ.2 39 r) := by rw [e39]; exact hsl
    have hb9 : (fun i => if i = r then h + 1 else h8 i) r ≤ 9 := by
      show (if r = r then h + 1 else h8 r) ≤ 9
      rw [if_pos rfl]
      omega
    rw [d1, d2, rdg σp _ (d3.1.k6 hr), Option.bind_some]
    rcases hrm d3 hr hb9 hsl' with ⟨t1, t2, t3, t4⟩ | ⟨j, id, h', σ1, μ1, t1, t2, t3, t4, t5, t6, t7, t8, t9, t10, t11, t12, t13, t14, t15, -⟩
    · exfalso
      obtain ⟨y, h2, b1', b2, b3, b4, b5⟩ := hld d3 hr hb9 hsl'
      rcases b5 with ⟨j, hj, hy, -⟩ | ⟨hy, hno⟩
      · rw [hy, t3] at b4
        exact nI_m1 (show j < 2 ^ 31 by
          have : h2 ≤ 9 := Nat.le_trans b1' hb9
          omega) (Option.some.inj b4).symm
      · have : h2 = h + 1 := (nI_eq (by
          have : h2 ≤ 9 := Nat.le_trans b1' hb9
          omega) (by omega)).mp (b2.symm.trans d8)
        exact hno h (by omega) (by rw [(d7 h (by omega)).1, if_pos rfl])
    · have h9' : h' ≤ 9 := Nat.le_trans t1 hb9
      have hh' : h' = h + 1 := (nI_eq (by omega) (by omega)).mp (t3.symm.trans d8)
      have hjh : j = h := by
        by_cases hjh : j = h
        · exact hjh
        · have := (d7 j (by omega)).1
          rw [if_neg hjh] at this
          exact absurd (this.symm.trans t14) (d9 j (by omega))
      have hid : id = x := by rw [← t15, (d7 j (by omega)).2, if_pos hjh]
      subst hid
      refine rest σp σ1 μp μ1 j (by omega) d3.1 d4 d5 ?_ ⟨_, t5⟩ t8 t6 t7 t9 (t10.hbm fun i => ?_) ((d4.tr t11).wk fun s i h => ⟨h, h⟩) ((d5.tr t12).wk fun j i h => ⟨h, h⟩) (t13.trans d6)
      · rw [t5]
        exact fun e => nI_m1 (by omega) (Option.some.inj e)
      · show (if i = r then (if r = r then h + 1 else h8 r) - 1 else if i = r then h + 1 else h8 i) ≤ 8
        rw [if_pos rfl]
        by_cases hir : i = r
        · rw [if_pos hir]; omega
        · rw [if_neg hir, if_neg hir]; exact Nat.le_refl _
  · -- held before: the older one is forgotten
    obtain ⟨c13, c14, c15, c16, c17⟩ := c13
    have c1' : h' ≤ 8 := c1
    obtain rfl : h' = h := (nI_eq (by omega) (by omega)).mp (c3.symm.trans g2)
    have hj1 : ¬ nI j = -1 := nI_m1 (by omega)
    have hb9 : (fun i => if i = r then h8 r - 1 else h8 i) r ≤ 9 := by
      show (if r = r then h8 r - 1 else h8 r) ≤ 9
      rw [if_pos rfl]
      exact (by decide : 8 - 1 ≤ 9)
    have e39 : μ1.2 39 r = μ.2 39 r := c12 39 r (by omega)
    have hsl1 : nI (l + 1) = μ1.2 39 r + (nI (l + 1) - μ.2 39 r) := by rw [e39]; exact hsl
    have hk1 : ∀ i, i < h' - 1 → rwM 12 μ1 44 r i ≠ nI (l + 1) - μ.2 39 r := fun i hi' e => by
      rw [(c17 i (by omega)).1] at e
      by_cases hij : i = j
      · rw [if_pos hij, ← c14] at e
        have := g5 _ _ (by omega) (by omega) e
        omega
      · rw [if_neg hij, ← c14] at e
        exact hij (g5 _ _ (by omega) (by omega) e)
    obtain ⟨y, h2, b1', b2, b3, b4, b5⟩ := hld c10 hr hb9 hsl1
    have b1'' : h2 ≤ 9 := Nat.le_trans b1' hb9
    obtain rfl : h2 = h' - 1 := (nI_eq (by omega) (by omega)).mp (b2.symm.trans c16)
    have hy : y = -1 := by
      rcases b5 with ⟨i, hi1, hi2, hi3⟩ | ⟨hy, -⟩
      · exact absurd hi3 (hk1 i hi1)
      · exact hy
    rw [hy] at b3 b4
    obtain ⟨σp, μp, d1, d2, d3, d4, d5, d6, d7, d8, d9⟩ := hap c10 hr (Nat.le_refl 8) c16 (by omega) hx hsl1 hb9 b4 b3
    have k3' := c10.1.k3 hr
    have hrem1 : f_X3_remove σ1 (A 3 r 0) (nI (l + 1)) = some (0, σ1) := by
      rw [f_X3_remove, x_gO k3', Option.bind_some, b3, Option.bind_some, if_pos rfl]
    have hput : f_X3_put σ (A 3 r 0) (nI (l + 1)) x = some σp := by
      rw [← d1, f_X3_put, f_X3_put, x_gO k3, Option.bind_some, c8, x_gO k3', hrem1]
      rfl
    have e39p : μp.2 39 r = μ.2 39 r := (d5 39 r (by omega)).trans e39
    have hslp : nI (l + 1) = μp.2 39 r + (nI (l + 1) - μ.2 39 r) := by rw [e39p]; exact hsl
    have hb9p : (fun i => if i = r then h' - 1 + 1 else (fun i => if i = r then h8 r - 1 else h8 i) i) r ≤ 9 := by
      show (if r = r then h' - 1 + 1 else _) ≤ 9
      rw [if_pos rfl]
      omega
    have hix : ∃ jj, jj < 12 ∧ f_X3_indexOf σp (A 3 r 0) (nI (l + 1)) = some (nI jj) ∧ ∃ σ2 μ2, f_X3_remove σp (A 3 r 0) (nI (l + 1)) = some (x, σ2) ∧ RR A n T q (fun i => if i = r then (fun i => if i = r then h' - 1 + 1 else (fun i => if i = r then h8 r - 1 else h8 i) i) r - 1 else (fun i => if i = r then h' - 1 + 1 else (fun i => if i = r then h8 r - 1 else h8 i) i) i) vw p u a 0 σ2 μ2 ∧ Ag A σp σ2 (fun s i => ¬ (i = r ∧ (s = 3 ∨ s = 34 ∨ s = 35))) ∧ AgM μp μ2 (fun j i => ¬ (j = 43 ∧ i = r) ∧ ¬ ((j = 44 ∨ j = 45) ∧ 12 * r ≤ i ∧ i < 12 * r + 12)) ∧ μ2.1 = μp.1 ∧ μ2.2 43 r = nI (h' - 1) ∧ ∀ i, i < h' - 1 → rwM 12 μ2 44 r i = rwM 12 μ1 44 r i ∧ rwM 12 μ2 45 r i = rwM 12 μ1 45 r i := by
      rcases hrm d3 hr hb9p hslp with ⟨t1, t2, t3, t4⟩ | ⟨jj, id2, h3, σ2, μ2, t1, t2, t3, t4, t5, t6, t7, t8, t9, t10, t11, t12, t13, t14, t15, t16, t17⟩
      · exfalso
        obtain ⟨y, h2, b1', b2, b3, b4, b5⟩ := hld d3 hr hb9p hslp
        have b1'' : h2 ≤ 9 := Nat.le_trans b1' hb9p
        rcases b5 with ⟨j, hj, hy, -⟩ | ⟨hy, hno⟩
        · rw [hy, t3] at b4
          exact nI_m1 (by omega) (Option.some.inj b4).symm
        · have : h2 = h' - 1 + 1 := (nI_eq (by omega) (by omega)).mp (b2.symm.trans d8)
          exact hno (h' - 1) (by omega) (by rw [(d7 (h' - 1) (by omega)).1, if_pos rfl])
      · have t1' : h3 ≤ 9 := Nat.le_trans t1 hb9p
        obtain rfl : h3 = h' - 1 + 1 := (nI_eq (by omega) (by omega)).mp (t3.symm.trans d8)
        have hjh : jj = h' - 1 := by
          by_cases hjh : jj = h' - 1
          · exact hjh
          · have := (d7 jj (by omega)).1
            rw [if_neg hjh] at this
            exact absurd (this.symm.trans t14) (d9 jj (by omega))
        have hid : id2 = x := by rw [← t15, (d7 jj (by omega)).2, if_pos hjh]
        subst hid
        refine ⟨jj, by omega, t5, σ2, μ2, t8, t10, t11, t12, t13, t16, fun i hi' => ?_⟩
        obtain ⟨w1, w2⟩ := t17 i (by omega)
        obtain ⟨w3, w4⟩ := d7 i (by omega)
        rw [if_neg (by omega)] at w1 w2 w3 w4
        exact ⟨w1.trans w3, w2.trans w4⟩
    obtain ⟨jj, hjj, u1, σ2, μ2, u2, u3, u4, u5, u6, u7, u8⟩ := hix
    -- the reference: in its place
    have k35 := hs.k35 hr
    have n35 : oK σ (A 35 r 0) ≠ 9 := by rw [k35]; decide
    have r44 : ∀ i, i < 12 → rwM 12 (mT (mT μ 44 (12 * r + j) (nI (l + 1) - μ.2 39 r)) 45 (12 * r + j) x) 44 r i = rwM 12 μ 44 r i := fun i hi' => by
      rw [rwM_at hi', rwM_at hi']
      simp only [m_P, mT_2, mT_1, mS_1, mS_2, Option.bind_some, Nat.reduceEqDiff, if_true, if_false, true_and, and_true, false_and, and_false]
      by_cases hij : 12 * r + i = 12 * r + j
      · rw [if_pos hij, ← c14, rwM_at (by omega), hij]
      · rw [if_neg hij]
    have r45 : ∀ i, i < 12 → rwM 12 (mT (mT μ 44 (12 * r + j) (nI (l + 1) - μ.2 39 r)) 45 (12 * r + j) x) 45 r i = if i = j then x else rwM 12 μ 45 r i := fun i hi' => by
      rw [rwM_at hi', rwM_at hi']
      have e1 : (12 * r + i = 12 * r + j) ↔ i = j := by omega
      simp only [m_P, mT_2, mT_1, mS_1, mS_2, Option.bind_some, Nat.reduceEqDiff, if_true, if_false, true_and, and_true, false_and, and_false, e1]
    have hmh : AgM μ (mT (mT μ 44 (12 * r + j) (nI (l + 1) - μ.2 39 r)) 45 (12 * r + j) x) (fun j i => ¬ (j = 43 ∧ i = r) ∧ ¬ ((j = 44 ∨ j = 45) ∧ 12 * r ≤ i ∧ i < 12 * r + 12)) := (AgM.mT.tr AgM.mT).wk (fun s i h => by omega)
    have hRs : RR A n T q h8 vw p u a 0 (sI σ (A 35 r 0) j x) (mT (mT μ 44 (12 * r + j) (nI (l + 1) - μ.2 39 r)) 45 (12 * r + j) x) := by
      refine hR.hld hr (hs.sI rfl) (hR.2.1.sI n35) ((Ag.sI hI).wk fun s i h => by omega) hmh rfl (fun _ _ => rfl) ⟨h', c1, ?_, ?_, fun i hi' => ?_, fun i i' h1 h2 h3 => ?_⟩
      · simp only [m_P, mT_2, mT_1, mS_1, mS_2, Option.bind_some, Nat.reduceEqDiff, if_true, if_false, true_and, and_true, false_and, and_false, g2]
      · simp only [oK_sI, oK_sR, oK_sC, oZ_sI, oZ_sR, oZ_sC, xI_sI, oI_sR, xI_sC, oR_sI, xR_sR, oR_sC, Option.bind_some, if_true, if_false, Nat.reduceEqDiff, true_and, and_true, false_and, and_false, hi, g3]
      · rw [r44 i (by omega), r45 i (by omega)]
        simp only [oK_sI, oK_sR, oK_sC, oZ_sI, oZ_sR, oZ_sC, xI_sI, oI_sR, xI_sC, oR_sI, xR_sR, oR_sC, Option.bind_some, if_true, if_false, Nat.reduceEqDiff, true_and, and_true, false_and, and_false, m_P, mT_2, mT_1, mS_1, mS_2, Option.bind_some, Nat.reduceEqDiff, if_true, if_false, true_and, and_true, false_and, and_false, hi]
        obtain ⟨w1, w2, w3⟩ := g4 i hi'
        by_cases hij : i = j
        · rw [if_pos hij, if_pos hij]
          exact ⟨w1, rfl, hx⟩
        · rw [if_neg hij, if_neg hij]
          exact ⟨w1, w2, w3⟩
      · rw [r44 i (by omega), r44 i' (by omega)] at h3
        exact g5 i i' h1 h2 h3
    have hhold : f_X12_hold μ (nI r) (nI (l + 1) - μ.2 39 r) x = some (mT (mT μ 44 (12 * r + j) (nI (l + 1) - μ.2 39 r)) 45 (12 * r + j) x) := by
      have hz1 : 12 * r + j < 84 := by omega
      rw [f_X12_hold, c6, Option.bind_some, if_neg hj1]
      simp only [f_X12_hold_32, l12, pk_mul, nI_add, mA_n, mQ_n, m_P, mT_2, mT_1, mS_1, mS_2, mZ, Option.bind_some, if_true, if_false, true_and, and_true, false_and, and_false, Nat.reduceEqDiff, Nat.reduceLT, hz1]
    have hsls : nI (l + 1) = (mT (mT μ 44 (12 * r + j) (nI (l + 1) - μ.2 39 r)) 45 (12 * r + j) x).2 39 r + (nI (l + 1) - μ.2 39 r) := by
      rw [hmh 39 r (by omega)]
      exact hsl
    rw [hput, hhold, rdg σp _ (d3.1.k6 hr), Option.bind_some]
    rcases hrm hRs hr (by decide : (8 : Nat) ≤ 9) hsls with ⟨t1, t2, t3, t4⟩ | ⟨js, id2, h3, σ3, μ3, t1, t2, t3, t4, t5, t6, t7, t8, t9, t10, t11, t12, t13, t14, t15, t16, t17⟩
    · exfalso
      obtain ⟨y, h2, b1', b2, b3, b4, b5⟩ := hld hRs hr (by decide : (8 : Nat) ≤ 9) hsls
      have b1'' : h2 ≤ 8 := b1'
      rcases b5 with ⟨j, hj, hy, -⟩ | ⟨hy, hno⟩
      · rw [hy, t3] at b4
        exact nI_m1 (by omega) (Option.some.inj b4).symm
      · rw [show (mT (mT μ 44 (12 * r + j) (nI (l + 1) - μ.2 39 r)) 45 (12 * r + j) x).2 43 r = μ.2 43 r by simp only [m_P, mT_2, mT_1, mS_1, mS_2, Option.bind_some, Nat.reduceEqDiff, if_true, if_false, true_and, and_true, false_and, and_false], g2] at b2
        have : h2 = h' := ((nI_eq (by omega) (by omega)).mp b2).symm
        exact hno j (by omega) (by rw [r44 j (by omega)]; exact c14)
    · have t1' : h3 ≤ 8 := t1
      rw [show (mT (mT μ 44 (12 * r + j) (nI (l + 1) - μ.2 39 r)) 45 (12 * r + j) x).2 43 r = μ.2 43 r by simp only [m_P, mT_2, mT_1, mS_1, mS_2, Option.bind_some, Nat.reduceEqDiff, if_true, if_false, true_and, and_true, false_and, and_false], g2] at t3
      obtain rfl : h3 = h' := ((nI_eq (by omega) (by omega)).mp t3).symm
      obtain rfl : js = j := by
        rw [r44 js (by omega), ← c14] at t14
        exact g5 _ _ t2 c2 t14
      have hid : id2 = x := by rw [← t15, r45 js (by omega), if_pos rfl]
      subst hid
      have hRR : RR A n T q h8 vw p u a 0 σ2 μ3 := by
        refine u3.hld hr u3.1 u3.2.1 Ag.rf (fun j i hji => ?_) (t13.trans (by rw [u6, d6, c13]; rfl)) (fun i hir => ?_) ?_
        · rw [t12 j i hji, hmh j i hji, u5 j i hji, d5 j i hji, c12 j i hji]
        · show 8 = if i = r then _ else if i = r then _ else if i = r then _ else h8 i
          rw [if_neg hir, if_neg hir, if_neg hir]
          rfl
        · obtain ⟨-, -, ⟨h4, v1, v2, v3, v4, v5⟩, -⟩ := (u3.2.2.2.2.2.1 r hr).sp
          have rr : ∀ i, i < h3 - 1 → rwM 12 μ3 44 r i = rwM 12 μ2 44 r i ∧ rwM 12 μ3 45 r i = rwM 12 μ2 45 r i := fun i hi' => by
            obtain ⟨w1, w2⟩ := t17 i (by omega)
            obtain ⟨w3, w4⟩ := u8 i hi'
            obtain ⟨w5, w6⟩ := c17 i (by omega)
            rw [w1, w2, w3, w4, w5, w6, r44 _ (by omega), r44 _ (by omega), r45 _ (by omega), r45 _ (by omega)]
            by_cases hij : i = js
            · simp only [if_pos hij]
              rw [if_neg (by omega)]
              exact ⟨trivial, rfl⟩
            · simp only [if_neg hij, and_self]
          have v1' : h4 ≤ 9 := Nat.le_trans v1 (by
            show (if r = r then (if r = r then h3 - 1 + 1 else _) - 1 else _) ≤ 9
            rw [if_pos rfl, if_pos rfl]
            omega)
          obtain rfl : h4 = h3 - 1 := (nI_eq (by omega) (by omega)).mp (v2.symm.trans u7)
          refine ⟨h3 - 1, show h3 - 1 ≤ 8 by omega, t16, v3, fun i hi' => ?_, fun i i' h1 h2 h3' => ?_⟩
          · rw [(rr i hi').1, (rr i hi').2, t12 39 r (by omega), hmh 39 r (by omega)]
            have := v4 i hi'
            rw [u5 39 r (by omega), e39p] at this
            exact this
          · rw [(rr i h1).1, (rr i' h2).1] at h3'
            exact v5 i i' h1 h2 h3'
      refine rest σp σ2 _ μ3 js (by omega) d3.1 ((c11.tr d4).wk fun s i h => ⟨h, h⟩) hmh ?_ ⟨_, u1⟩ u2 t6 t7 t9 hRR (((c11.tr d4).tr u4).wk fun s i h => ⟨⟨h, h⟩, h⟩) ((hmh.tr t12).wk fun j i h => ⟨h, h⟩) t13
      rw [u1]
      exact fun e => nI_m1 (by omega) (Option.some.inj e)
end TAL
