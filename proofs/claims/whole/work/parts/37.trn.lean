/-! turning and settling -/
section TRN
variable {A : Ad} {n T q : Nat} {hb : Nat → Nat} {vw : Vw} {p u : Nat → Nat} {a r : Nat} {σ σ' : Hp} {μ μ' : Mu}
/-- a replica that has forgotten -/
theorem RR.rst (hR : RR A n T q h8 vw p u a 0 σ μ) (hr : r < n) (hs : Rs A n σ') (hv : Vok vw σ') (hc : Ag A σ σ' (fun s i => ¬ fpR r s i)) (hm : AgM μ μ' (fun j i => ¬ fmR r j i)) (h1 : μ'.1 = μ.1) (hS : RrS A T vw σ' μ' r) (hL : RrL A q σ' μ' r) (hH : oI σ' (A 3 r 0) 2 = 0 ∧ μ'.2 43 r = 0) (hT : (oI σ' (A 8 r 0) 0 = 0 ∧ oI σ' (A 8 r 0) 1 = 0 ∧ oI σ' (A 8 r 0) 2 = μ'.2 48 r ∧ oI σ' (A 8 r 0) 3 = 0) ∧ μ'.2 46 r = 0 ∧ μ'.2 47 r = 0 ∧ μ'.2 49 r = 0) : RR A n T q h8 vw p u a 0 σ' μ' := by
  obtain ⟨⟨t1, t2, t3, t4⟩, t5, t6, t7⟩ := hT
  refine hR.rep r hs hv hc hm h1 (fun _ _ => rfl) (Rr.mk hS hL ⟨0, Nat.zero_le _, hH.2, hH.1, fun k hk => by omega, fun k k' hk => by omega⟩ ?_)
  unfold RrT
  rw [t5, t6, t7]
  exact ⟨t1, ⟨0, by decide, rfl⟩, t2, ⟨0, by decide, rfl⟩, t3, t4, 0, by decide, rfl, Nat.zero_testBit r, fun o ho h => by rw [Nat.zero_testBit] at h; exact absurd h (by decide)⟩
theorem rep_turn (hR : RR A n T q h8 vw p u a 0 σ μ) (hr : r < n) {v : Nat} {L S : Int32} (hv : vw v = some (L, S)) (hL : Sm T L) : St A n T q vw p u σ μ (f_X6_turnTo σ (A 6 r 0) v) (f_X12_turn μ (nI r) L S) := by
  have hs := hR.1
  have h7 := hs.np
  have hi := hs.inj
  have hI := hs.1
  have hr7 : r < 7 := by omega
  have k6 := hs.k6 hr
  have k3 := hs.k3 hr
  have k8 := hs.k8 hr
  have n6 : oK σ (A 6 r 0) ≠ 9 := by rw [k6]; decide
  have n3 : oK σ (A 3 r 0) ≠ 9 := by rw [k3]; decide
  have n8 : oK σ (A 8 r 0) ≠ 9 := by rw [k8]; decide
  obtain ⟨⟨⟨a1, a2⟩, ⟨a3, a4⟩, a5, a6, a7, a8, a9⟩, gL, gH, gT⟩ := (hR.2.2.2.2.2.1 r hr).sp
  have hc : Ag A σ (sI (sI (sI (sI (sI (sI (sR σ (A 6 r 0) 4 v) (A 6 r 0) 3 2) (A 3 r 0) 2 0) (A 8 r 0) 0 0) (A 8 r 0) 1 0) (A 8 r 0) 3 0) (A 6 r 0) 8 0) (fun s i => ¬ (i = r ∧ (s = 6 ∨ s = 3 ∨ s = 8))) := (((((((Ag.sR hI).tr (Ag.sI hI)).tr (Ag.sI hI)).tr (Ag.sI hI)).tr (Ag.sI hI)).tr (Ag.sI hI)).tr (Ag.sI hI)).wk (fun s i h => by omega)
  have hm : AgM μ (mT (mT (mT (mT (mT (mT (mT (mT μ 33 r L) 34 r S) 35 r 2) 43 r 0) 46 r 0) 47 r 0) 49 r 0) 41 r 0) (fun j i => ¬ (i = r ∧ (j = 33 ∨ j = 34 ∨ j = 35 ∨ j = 43 ∨ j = 46 ∨ j = 47 ∨ j = 49 ∨ j = 41))) := ((((((((AgM.mT).tr AgM.mT).tr AgM.mT).tr AgM.mT).tr AgM.mT).tr AgM.mT).tr AgM.mT).tr AgM.mT).wk (fun s i h => by omega)
  have hR1 : RR A n T q h8 vw p u a 0 (sI (sI (sI (sI (sI (sI (sR σ (A 6 r 0) 4 v) (A 6 r 0) 3 2) (A 3 r 0) 2 0) (A 8 r 0) 0 0) (A 8 r 0) 1 0) (A 8 r 0) 3 0) (A 6 r 0) 8 0) (mT (mT (mT (mT (mT (mT (mT (mT μ 33 r L) 34 r S) 35 r 2) 43 r 0) 46 r 0) 47 r 0) 49 r 0) 41 r 0) := by
    refine hR.rst hr ((((((((hs.sR rfl).sI rfl).sI rfl).sI rfl).sI rfl).sI rfl).sI rfl)) ((((((((hR.2.1.sR).sI n6).sI n3).sI n8).sI n8).sI n8).sI n6)) (hc.wk fun s i h => by unfold fpR at h; omega) (hm.wk fun j i h => by unfold fmR at h; omega) rfl ?_ (gL.cg (hc 32 r 0 (by omega)).1 (hc 33 r 0 (by omega)).1 (hm _ _ (by omega)) (fun k hk => hm _ _ (by omega))) ?_ ?_
    · unfold RrS
      simp only [oK_sI, oK_sR, oK_sC, oZ_sI, oZ_sR, oZ_sC, xI_sI, oI_sR, xI_sC, oR_sI, xR_sR, oR_sC, Option.bind_some, if_true, if_false, Nat.reduceEqDiff, true_and, and_true, false_and, and_false, m_P, mT_2, mT_1, mS_1, mS_2, Option.bind_some, Nat.reduceEqDiff, if_true, if_false, true_and, and_true, false_and, and_false, hi, a1, a7, a8]
      exact ⟨a2, ⟨2, by decide, rfl⟩, ⟨⟨v, rfl, hv⟩, hL⟩, a6⟩
    · simp only [oK_sI, oK_sR, oK_sC, oZ_sI, oZ_sR, oZ_sC, xI_sI, oI_sR, xI_sC, oR_sI, xR_sR, oR_sC, Option.bind_some, if_true, if_false, Nat.reduceEqDiff, true_and, and_true, false_and, and_false, m_P, mT_2, mT_1, mS_1, mS_2, Option.bind_some, Nat.reduceEqDiff, if_true, if_false, true_and, and_true, false_and, and_false, hi, and_self]
    · simp only [oK_sI, oK_sR, oK_sC, oZ_sI, oZ_sR, oZ_sC, xI_sI, oI_sR, xI_sC, oR_sI, xR_sR, oR_sC, Option.bind_some, if_true, if_false, Nat.reduceEqDiff, true_and, and_true, false_and, and_false, m_P, mT_2, mT_1, mS_1, mS_2, Option.bind_some, Nat.reduceEqDiff, if_true, if_false, true_and, and_true, false_and, and_false, hi, and_self]
      exact gT.2.2.2.2.1
  have hcl : f_X6_turnTo σ (A 6 r 0) v = f_X6_sendTurns (sI (sI (sI (sI (sI (sI (sR σ (A 6 r 0) 4 v) (A 6 r 0) 3 2) (A 3 r 0) 2 0) (A 8 r 0) 0 0) (A 8 r 0) 1 0) (A 8 r 0) 3 0) (A 6 r 0) 8 0) (A 6 r 0) := by
    simp only [f_X6_turnTo, f_X6_forget, f_X8_clear, x_gI, x_gR, x_gO, x_pI, x_pR, x_aI, x_aR, x_qI, x_qR, x_aL, oK_sI, oK_sR, oK_sC, oZ_sI, oZ_sR, oZ_sC, xI_sI, oI_sR, xI_sC, oR_sI, xR_sR, oR_sC, Option.bind_some, if_true, if_false, Nat.reduceEqDiff, true_and, and_true, false_and, and_false, k6, k3, k8, hi, hs.r6_1 hr, hs.r6_14 hr]
    rw [Option.bind_fun_some]
  have hml : f_X12_turn μ (nI r) L S = ((f_X12_all (mT (mT (mT (mT (mT (mT (mT (mT μ 33 r L) 34 r S) 35 r 2) 43 r 0) 46 r 0) 47 r 0) 49 r 0) 41 r 0) 8 (nI r) 0).bind fun v38 => (f_X12_leads v38 (nI r)).bind fun v43 => if v43 = 0 then ((f_X12_tellTurned v38 (nI r)).bind fun v51 => some v51) else some v38) := by
    simp only [f_X12_turn, f_X12_forget, mA_n, mQ_n, m_P, mT_2, mT_1, mS_1, mS_2, mZ, Option.bind_some, if_true, if_false, true_and, and_true, false_and, and_false, Nat.reduceEqDiff, Nat.reduceLT, hr7]
  rw [hcl, hml]
  exact (sd_turns hR1 hr).st.tr (Kp.mk' (hc.wk fun s i h => by omega) (hm.wk fun j i h => by omega) (fun _ _ _ _ => rfl))
/-- a new view -/
theorem RR.ofV (hR : RR A n T q hb vw p u a 0 σ μ) (L S : Int32) : ∃ vw', Vle vw vw' ∧ vw' (oN σ) = some (L, S) ∧ RR A n T q hb vw' p u a 0 (mkV σ L S) μ ∧ Kp A n p σ (mkV σ L S) μ μ := by
  have hs := hR.1
  have he := Ext.ofV hs L S
  have hnew : vw (oN σ) = none := by
    cases h : vw (oN σ) with
    | none => rfl
    | some x =>
      have h1 := (hR.2.1 _ x.1 x.2 h).1
      have h2 := hs.2.2.2.2.1 (oN σ) (Nat.le_refl _)
      rw [h2] at h1
      exact absurd h1 (by decide)
  have hA : ∀ s i j, dm n s i j → oI (mkV σ L S) (A s i j) = oI σ (A s i j) ∧ oR (mkV σ L S) (A s i j) = oR σ (A s i j) := fun s i j hd => by
    obtain ⟨-, -, h3, h4⟩ := he.1 (A s i j) (by rw [hs.kd hd]; exact kdF_ne s i j)
    exact ⟨h3, h4⟩
  sorry
end TRN
