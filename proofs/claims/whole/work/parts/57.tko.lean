/-! a message is taken out -/
def rho (k a1 i : Nat) : Nat := if i < k then i else if i < a1 then i + 1 else if i = a1 then 200 else if i = 200 then k else i
def tau (k a1 i : Nat) : Nat := if i < k then i else if i < a1 then i + 1 else if i = a1 then k else i
theorem rho_le {k a1 : Nat} (hk : k ≤ a1) (ha : a1 < 200) (i : Nat) (hi : i ≤ 200) : rho k a1 i ≤ 200 := by
  unfold rho
  repeat' split
  all_goals omega
theorem rho_inj {k a1 : Nat} (hk : k ≤ a1) (ha : a1 < 200) (i j : Nat) (hi : i ≤ 200) (hj : j ≤ 200) (h : rho k a1 i = rho k a1 j) : i = j := by
  unfold rho at h
  repeat' split at h
  all_goals omega
theorem tau_lt {k a1 : Nat} (hk : k ≤ a1) (ha : a1 < 200) (i : Nat) (hi : i < 200) : tau k a1 i < 200 := by
  unfold tau
  repeat' split
  all_goals omega
theorem tau_inj {k a1 : Nat} (hk : k ≤ a1) (ha : a1 < 200) (i j : Nat) (hi : i < 200) (hj : j < 200) (h : tau k a1 i = tau k a1 j) : i = j := by
  unfold tau at h
  repeat' split at h
  all_goals omega
section TKO
variable {A : Ad} {n T q : Nat} {hb : Nat → Nat} {vw : Vw} {p p' u u' : Nat → Nat} {a a' r : Nat} {σ σ' : Hp} {μ μ' : Mu}
theorem RR.mov (hR : RR A n T q hb vw p u a 0 σ μ) (hs : Rs A n σ') (hv : Vok vw σ') (hc : Ag A σ σ' (fun s _ => s ≠ 1 ∧ s ≠ 22)) (hm : AgM μ μ' (fun j _ => j ≠ 15 ∧ j ≠ 16)) (h1 : ∀ k, k ≠ 12 → k ≠ 13 → k ≠ 14 → μ'.1 k = μ.1 k) (ha : Ra A n T q vw σ' μ' p' u' a' 0) : RR A n T q hb vw p' u' a' 0 σ' μ' := by
  obtain ⟨r1, r2, r3, r4, r5, r6, r7, r8, r9, r10⟩ := hR
  refine ⟨hs, hv, r3.cg (hc.wk ?_) (fun k h => by rcases h with h | h | h | h | h <;> (subst h; exact h1 _ (by decide) (by decide) (by decide))), r4.cg (hc.wk ?_) (hm.wk ?_) (h1 _ (by decide) (by decide) (by decide)), ha, fun r hr => (r6 r hr).cg hs.np.2 (hc.wk ?_) (hm.wk ?_), fun c hc' => (r7 c hc').cg (hc.wk ?_) (hm.wk ?_), r8.cg (hc.wk ?_) (hm.wk ?_) (h1 _ (by decide) (by decide) (by decide)), r9, r10⟩
  · intro s i h; omega
  · intro s i h; omega
  · intro s i h; omega
  · intro s i h; unfold fpR at h; omega
  · intro s i h; unfold fmR at h; omega
  · intro s i h; unfold fpC at h; omega
  · intro s i h; unfold fmC at h; omega
  · intro s i h; omega
  · intro s i h; omega
theorem tk_c19 (x2 : Nat) {a1 : Nat} (ha : a1 < 200) : ∀ d (F i : Nat) (σ : Hp) (g : Nat → Nat), d < F → a1 = i + d → Rs A n σ → Vok vw σ → oI σ (A 1 0 0) 1 = nI a1 → (∀ j, j < 200 → g j ≤ 200 ∧ oR σ (A 22 0 0) j = some (A 5 (g j) 0)) → ∃ σ', f_X1_takeOut_19 F σ (A 1 0 0) x2 (nI i) = f_X1_takeOut_47 σ' (A 1 0 0) x2 ∧ Rs A n σ' ∧ Vok vw σ' ∧ Ag A σ σ' (fun s _ => s ≠ 22) ∧ ∀ j, j < 200 → oR σ' (A 22 0 0) j = some (A 5 (if i ≤ j ∧ j < a1 then g (j + 1) else g j) 0) := by
  intro d
  induction d with
  | zero =>
    intro F i σ g hF hi hs hv h1 hg
    obtain ⟨F, rfl⟩ : ∃ f, F = f + 1 := ⟨F - 1, by omega⟩
    refine ⟨σ, ?_, hs, hv, Ag.rf, fun j hj => by rw [if_neg (by omega)]; exact (hg j hj).2⟩
    show b_X1_takeOut_19 (f_X1_takeOut_19 F) _ _ _ _ = _
    rw [b_X1_takeOut_19, x_gI hs.k1, Option.bind_some, h1, if_pos ((nI_leI (by omega) (by omega)).mpr (by omega))]
  | succ d ih =>
    intro F i σ g hF hi hs hv h1 hg
    obtain ⟨F, rfl⟩ : ∃ f, F = f + 1 := ⟨F - 1, by omega⟩
    have hii := hs.inj
    have h5 : oK σ (A 5 (g (i + 1)) 0) = 5 := hs.k5 (by have := (hg (i + 1) (by omega)).1; omega)
    have hag : Ag A σ (sR σ (A 22 0 0) i (A 5 (g (i + 1)) 0)) (fun s _ => s ≠ 22) := (Ag.sR hs.1).wk fun s i h => by omega
    obtain ⟨σ', w1, w2, w3, w4, w5⟩ := ih F (i + 1) (sR σ (A 22 0 0) i (A 5 (g (i + 1)) 0)) (fun j => if j = i then g (i + 1) else g j) (by omega) (by omega) (hs.sR rfl) hv.sR h1 (fun j hj => by
      simp only [oK_sI, oK_sR, oK_sC, oZ_sI, oZ_sR, oZ_sC, xI_sI, oI_sR, xI_sC, oR_sI, xR_sR, oR_sC, Option.bind_some, if_true, if_false, Nat.reduceEqDiff, true_and, and_true, false_and, and_false, hii]
      by_cases c : j = i
      · rw [if_pos c, if_pos c]
        exact ⟨(hg (i + 1) (by omega)).1, rfl⟩
      · rw [if_neg c, if_neg c]
        exact hg j hj)
    refine ⟨σ', ?_, w2, w3, (hag.tr w4).wk fun s i h => ⟨h, h⟩, fun j hj => ?_⟩
    · show b_X1_takeOut_19 (f_X1_takeOut_19 F) _ _ _ _ = _
      rw [b_X1_takeOut_19, x_gI hs.k1, Option.bind_some, h1, if_neg (fun e => by rw [nI_leI (by omega) (by omega)] at e; omega), x_gR hs.k1, hs.r1_0, Option.bind_some, Option.bind_some, nI_1, e_aR hs.k22 hs.z22 (by omega : i + 1 < 200) (by decide) (hg (i + 1) (by omega)).2, Option.bind_some, e_qR hs.k22 h5 hs.z22 (by omega : i < 200) (by decide), Option.bind_some]
      exact w1
    · rw [w5 j hj]
      by_cases c : j = i
      · have c1 : ¬ (i + 1 ≤ j ∧ j < a1) := by omega
        have c2 : i ≤ j ∧ j < a1 := by omega
        simp only [if_neg c1, if_pos c2, if_pos c]
        rw [c]
      · by_cases c1 : i + 1 ≤ j ∧ j < a1
        · have c2 : i ≤ j ∧ j < a1 := by omega
          have c3 : ¬ j + 1 = i := by omega
          simp only [if_pos c1, if_pos c2, if_neg c3]
        · have c2 : ¬ (i ≤ j ∧ j < a1) := by omega
          simp only [if_neg c1, if_neg c2, if_neg c]
theorem tk_m19 (x2 : Int32) {a1 : Nat} (ha : a1 < 200) : ∀ d (F i : Nat) (μ : Mu), d < F → a1 = i + d → μ.1 12 = nI a1 → ∃ μ', f_X12_taken_19 F μ x2 (nI i) = f_X12_taken_47 μ' x2 ∧ AgM μ μ' (fun j _ => j ≠ 15) ∧ μ'.1 = μ.1 ∧ ∀ j, μ'.2 15 j = if i ≤ j ∧ j < a1 then μ.2 15 (j + 1) else μ.2 15 j := by
  intro d
  induction d with
  | zero =>
    intro F i μ hF hi h1
    obtain ⟨F, rfl⟩ : ∃ f, F = f + 1 := ⟨F - 1, by omega⟩
    refine ⟨μ, ?_, AgM.rf, rfl, fun j => by rw [if_neg (by omega)]⟩
    show b_X12_taken_19 (f_X12_taken_19 F) _ _ _ = _
    rw [b_X12_taken_19, h1, if_pos ((nI_leI (by omega) (by omega)).mpr (by omega))]
  | succ d ih =>
    intro F i μ hF hi h1
    obtain ⟨F, rfl⟩ : ∃ f, F = f + 1 := ⟨F - 1, by omega⟩
    obtain ⟨μ', w1, w2, w3, w4⟩ := ih F (i + 1) (mT μ 15 i (μ.2 15 (i + 1))) (by omega) (by omega) h1
    refine ⟨μ', ?_, ((AgM.mT.wk fun j i h => by omega).tr w2).wk fun j i h => ⟨h, h⟩, w3, fun j => ?_⟩
    · show b_X12_taken_19 (f_X12_taken_19 F) _ _ _ = _
      rw [b_X12_taken_19, h1, if_neg (fun e => by rw [nI_leI (by omega) (by omega)] at e; omega), nI_1, mA_n 15 _ (by simp only [mZ]; omega), Option.bind_some, mQ_n 15 _ _ (by simp only [mZ]; omega), Option.bind_some]
      exact w1
    · rw [w4 j]
      simp only [m_P, mT_2, mT_1, mS_1, mS_2, Option.bind_some, Nat.reduceEqDiff, if_true, if_false, true_and, and_true, false_and, and_false]
      by_cases c : j = i
      · have c1 : ¬ (i + 1 ≤ j ∧ j < a1) := by omega
        have c2 : i ≤ j ∧ j < a1 := by omega
        simp only [if_neg c1, if_pos c2, if_pos c]
        rw [c]
      · by_cases c1 : i + 1 ≤ j ∧ j < a1
        · have c2 : i ≤ j ∧ j < a1 := by omega
          have c3 : ¬ j + 1 = i := by omega
          simp only [if_pos c1, if_pos c2, if_neg c3]
        · have c2 : ¬ (i ≤ j ∧ j < a1) := by omega
          simp only [if_neg c1, if_neg c2, if_neg c]
/-- taking out: both sides -/
theorem air_take (hR : RR A n T q hb vw p u a 0 σ μ) {k : Nat} (hk : k < a) : ∃ σ' μ' p' u', f_X1_takeOut σ (A 1 0 0) (nI k) = some (A 5 (p k) 0, σ') ∧ f_X12_taken μ (nI k) = some (nI (u k), μ') ∧ RR A n T q hb vw p' u' (a - 1) 0 σ' μ' ∧ p' 200 = p k ∧ p k ≤ 200 ∧ u k < 200 ∧ Rm A n T q vw σ' μ' (p k) (u k) ∧ Ag A σ σ' (fun s _ => s ≠ 1 ∧ s ≠ 22) ∧ AgM μ μ' (fun j _ => j ≠ 15 ∧ j ≠ 16) ∧ ∀ k, k ≠ 12 → μ'.1 k = μ.1 k := by
  have hs := hR.1
  have hv := hR.2.1
  have hi := hs.inj
  obtain ⟨h1, h2, h3, h4, h5, h6, h7, h8, h9, h10, h11, h12, h13, h14⟩ := hR.2.2.2.2.1
  have k1 := hs.k1
  have k22 := hs.k22
  have z22 := hs.z22
  have n1 : oK σ (A 1 0 0) ≠ 9 := by rw [k1]; decide
  have ed : nI a - (1 : Int32) = nI (a - 1) := by rw [l1, pk_sub (by omega)]
  have ha1 : a - 1 < 200 := by omega
  have hs1 : Rs A n (sI σ (A 1 0 0) 1 (nI (a - 1))) := hs.sI rfl
  obtain ⟨σl, c1, c2, c3, c4, c5⟩ := tk_c19 (vw := vw) (A 5 (p k) 0) ha1 (a - 1 - k) lf k (sI σ (A 1 0 0) 1 (nI (a - 1))) p (by unfold lf; omega) (by omega) hs1 (hv.sI n1) (by simp only [oK_sI, oK_sR, oK_sC, oZ_sI, oZ_sR, oZ_sC, xI_sI, oI_sR, xI_sC, oR_sI, xR_sR, oR_sC, Option.bind_some, if_true, if_false, Nat.reduceEqDiff, true_and, and_true, false_and, and_false]) (fun j hj => ⟨h8 j (by omega), h6 j hj⟩)
  obtain ⟨μl, m1, m2, m3, m4⟩ := tk_m19 (nI (u k)) ha1 (a - 1 - k) lf k (mS μ 12 (nI (a - 1))) (by unfold lf; omega) (by omega) (by simp only [m_P, mT_2, mT_1, mS_1, mS_2, Option.bind_some, Nat.reduceEqDiff, if_true, if_false, true_and, and_true, false_and, and_false])
  have hc0 : Ag A σ σl (fun s _ => s ≠ 1 ∧ s ≠ 22) := ((Ag.sI hs.1).tr c4).wk fun s i h => by constructor <;> omega
  have kl1 := c2.k1
  have kl5 := c2.k5 (i := p 200) (by have := h8 200 (Nat.le_refl _); omega)
  have o1 : oI σl (A 1 0 0) = oI (sI σ (A 1 0 0) 1 (nI (a - 1))) (A 1 0 0) := (c4 1 0 0 (show (1 : Nat) ≠ 22 by decide)).1
  have o2 : oR σl (A 1 0 0) = oR σ (A 1 0 0) := (c4 1 0 0 (show (1 : Nat) ≠ 22 by decide)).2
  have hcl : f_X1_takeOut σ (A 1 0 0) (nI k) = some (A 5 (p k) 0, sR (sR σl (A 22 0 0) (a - 1) (A 5 (p 200) 0)) (A 1 0 0) 4 (A 5 (p k) 0)) := by
    have e1 : oI σl (A 1 0 0) 1 = nI (a - 1) := by rw [o1]; simp only [oK_sI, oK_sR, oK_sC, oZ_sI, oZ_sR, oZ_sC, xI_sI, oI_sR, xI_sC, oR_sI, xR_sR, oR_sC, Option.bind_some, if_true, if_false, Nat.reduceEqDiff, true_and, and_true, false_and, and_false]
    have e4 : oR σl (A 1 0 0) 4 = some (A 5 (p 200) 0) := by rw [o2]; exact h7
    rw [f_X1_takeOut, x_gR k1, hs.r1_0, Option.bind_some, e_aR k22 z22 (by omega : k < 200) (by decide) (h6 k (by omega)), Option.bind_some, x_gI k1, Option.bind_some, h2, ed, x_pI k1, Option.bind_some, c1, f_X1_takeOut_47, x_gR kl1, c2.r1_0, Option.bind_some, x_gI kl1, Option.bind_some, e1, x_gR kl1, e4, Option.bind_some, e_qR c2.k22 kl5 c2.z22 ha1 (by decide), Option.bind_some, x_pR (show oK (sR σl (A 22 0 0) (a - 1) (A 5 (p 200) 0)) (A 1 0 0) = 1 from kl1), Option.bind_some]
  have hml : f_X12_taken μ (nI k) = some (nI (u k), mT μl 16 (199 - (a - 1)) (nI (u k))) := by
    have e12 : (mS μ 12 (nI (a - 1))).1 12 = nI (a - 1) := by simp only [m_P, mT_2, mT_1, mS_1, mS_2, Option.bind_some, Nat.reduceEqDiff, if_true, if_false, true_and, and_true, false_and, and_false]
    rw [f_X12_taken, mA_n 15 k (by simp only [mZ]; omega), Option.bind_some, h10 k hk, m_P, Option.bind_some, h3, ed, m1, f_X12_taken_47, m3, e12, l199, pk_sub (by omega), mQ_n 16 _ _ (by simp only [mZ]; omega), Option.bind_some]
  have hc : Ag A σ (sR (sR σl (A 22 0 0) (a - 1) (A 5 (p 200) 0)) (A 1 0 0) 4 (A 5 (p k) 0)) (fun s _ => s ≠ 1 ∧ s ≠ 22) := ((hc0.tr (Ag.sR c2.1)).tr (Ag.sR c2.1)).wk fun s i h => by refine ⟨⟨h, ?_⟩, ?_⟩ <;> omega
  have hm : AgM μ (mT μl 16 (199 - (a - 1)) (nI (u k))) (fun j _ => j ≠ 15 ∧ j ≠ 16) := ((show AgM μ (mS μ 12 (nI (a - 1))) (fun j _ => j ≠ 15 ∧ j ≠ 16) from AgM.mS).tr (m2.tr AgM.mT)).wk fun j i h => by refine ⟨h, h.1, ?_⟩; omega
  have hm1 : ∀ k', k' ≠ 12 → (mT μl 16 (199 - (a - 1)) (nI (u k))).1 k' = μ.1 k' := fun k' e => by
    show μl.1 k' = _
    rw [m3]
    simp only [mS_1, e, if_false]
  have hka : k ≤ a - 1 := by omega
  refine ⟨_, _, fun i => p (rho k (a - 1) i), fun i => u (tau k (a - 1) i), hcl, hml, hR.mov ((c2.sR rfl).sR rfl) c3.sR.sR hc hm (fun k' e _ _ => hm1 k' e) ?_, ?_, h8 k (by omega), h12 k (by omega), (h14 k (by omega)).cg (hc.wk fun s i h => by unfold fpM at h; constructor <;> omega) (hm.wk fun j i h => by unfold fmM at h; constructor <;> omega), hc, hm, hm1⟩
  · refine ⟨by omega, ?_, ?_, ?_, ?_, fun j hj => ?_, ?_, fun j hj => h8 _ (rho_le hka ha1 j hj), fun j j' hj hj' e => rho_inj hka ha1 j j' hj hj' (h9 _ _ (rho_le hka ha1 j hj) (rho_le hka ha1 j' hj') e), fun j hj => ?_, fun j hj hj' => ?_, fun j hj => h12 _ (tau_lt hka ha1 j hj), fun j j' hj hj' e => tau_inj hka ha1 j j' hj hj' (h13 _ _ (tau_lt hka ha1 j hj) (tau_lt hka ha1 j' hj') e), fun j hj => ?_⟩
    · simp only [oK_sI, oK_sR, oK_sC, oZ_sI, oZ_sR, oZ_sC, xI_sI, oI_sR, xI_sC, oR_sI, xR_sR, oR_sC, Option.bind_some, if_true, if_false, Nat.reduceEqDiff, true_and, and_true, false_and, and_false, o1]
    · show μl.1 12 = _
      rw [m3]
      simp only [m_P, mT_2, mT_1, mS_1, mS_2, Option.bind_some, Nat.reduceEqDiff, if_true, if_false, true_and, and_true, false_and, and_false]
    · rw [hm1 13 (by decide)]
      simp only [oK_sI, oK_sR, oK_sC, oZ_sI, oZ_sR, oZ_sC, xI_sI, oI_sR, xI_sC, oR_sI, xR_sR, oR_sC, Option.bind_some, if_true, if_false, Nat.reduceEqDiff, true_and, and_true, false_and, and_false, o1]
      exact h4
    · rw [hm1 14 (by decide)]
      simp only [oK_sI, oK_sR, oK_sC, oZ_sI, oZ_sR, oZ_sC, xI_sI, oI_sR, xI_sC, oR_sI, xR_sR, oR_sC, Option.bind_some, if_true, if_false, Nat.reduceEqDiff, true_and, and_true, false_and, and_false, o1]
      exact h5
    · have e := c5 j hj
      simp only [oK_sI, oK_sR, oK_sC, oZ_sI, oZ_sR, oZ_sC, xI_sI, oI_sR, xI_sC, oR_sI, xR_sR, oR_sC, Option.bind_some, if_true, if_false, Nat.reduceEqDiff, true_and, and_true, false_and, and_false, hi, e]
      unfold rho
      by_cases d0 : j = a - 1
      · have d1 : ¬ j < k := by omega
        have d2 : ¬ j < a - 1 := by omega
        simp only [if_pos d0, if_neg d1, if_neg d2]
      · by_cases d1 : j < k
        · have d2 : ¬ (k ≤ j ∧ j < a - 1) := by omega
          simp only [if_pos d1, if_neg d2, if_neg d0]
        · by_cases d3 : j < a - 1
          · have d2 : k ≤ j ∧ j < a - 1 := by omega
            simp only [if_neg d1, if_pos d2, if_pos d3, if_neg d0]
          · have d2 : ¬ (k ≤ j ∧ j < a - 1) := by omega
            have d4 : ¬ j = 200 := by omega
            simp only [if_neg d1, if_neg d2, if_neg d3, if_neg d0, if_neg d4]
    · have e : rho k (a - 1) 200 = k := by
        unfold rho
        rw [if_neg (by omega), if_neg (by omega), if_neg (by omega), if_pos rfl]
      simp only [oK_sI, oK_sR, oK_sC, oZ_sI, oZ_sR, oZ_sC, xI_sI, oI_sR, xI_sC, oR_sI, xR_sR, oR_sC, Option.bind_some, if_true, if_false, Nat.reduceEqDiff, true_and, and_true, false_and, and_false, e]
    · have e : (mT μl 16 (199 - (a - 1)) (nI (u k))).2 15 j = μl.2 15 j := by simp only [m_P, mT_2, mT_1, mS_1, mS_2, Option.bind_some, Nat.reduceEqDiff, if_true, if_false, true_and, and_true, false_and, and_false]
      rw [e, m4 j]
      show (if k ≤ j ∧ j < a - 1 then μ.2 15 (j + 1) else μ.2 15 j) = _
      unfold tau
      dsimp only
      by_cases d1 : j < k
      · rw [if_neg (by omega), if_pos d1]
        exact h10 j (by omega)
      · rw [if_pos (by omega), if_neg d1, if_pos hj]
        exact h10 (j + 1) (by omega)
    · unfold tau
      dsimp only
      have d1 : ¬ j < k := by omega
      have d2 : ¬ j < a - 1 := by omega
      rw [if_neg d1, if_neg d2, mT_2]
      by_cases d0 : j = a - 1
      · rw [if_pos ⟨rfl, by rw [d0]⟩, if_pos d0]
      · rw [if_neg (by omega), if_neg d0, m2 16 _ (show (16 : Nat) ≠ 15 by decide)]
        exact h11 j (by omega) hj'
    · have e1 : rho k (a - 1) j = if j < k then j else j + 1 := by
        unfold rho
        by_cases d1 : j < k
        · rw [if_pos d1, if_pos d1]
        · rw [if_neg d1, if_neg d1, if_pos (by omega)]
      have e2 : tau k (a - 1) j = if j < k then j else j + 1 := by
        unfold tau
        by_cases d1 : j < k
        · rw [if_pos d1, if_pos d1]
        · rw [if_neg d1, if_neg d1, if_pos (by omega)]
      dsimp only
      rw [e1, e2]
      exact (h14 (if j < k then j else j + 1) (by split <;> omega)).cg (hc.wk fun s i h => by unfold fpM at h; constructor <;> omega) (hm.wk fun j i h => by unfold fmM at h; constructor <;> omega)
  · have e : rho k (a - 1) 200 = k := by
      unfold rho
      rw [if_neg (by omega), if_neg (by omega), if_neg (by omega), if_pos rfl]
    dsimp only
    rw [e]
end TKO
