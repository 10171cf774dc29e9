section STN
variable {A : Ad} {n T q : Nat} {hb : Nat → Nat} {vw : Vw} {p u : Nat → Nat} {a : Nat} {σ : Hp} {μ : Mu}
/-- the orderer stamps a request: both sides -/
theorem tab_stamp (hR : RR A n T q hb vw p u a 0 σ μ) {x : Int32} (hx : Rid q x) : ∃ σ' μ' a', f_X11_stamp σ (A 11 0 0) x = some σ' ∧ f_X12_stamp μ x = some μ' ∧ RR A n T q hb vw p u a' 0 σ' μ' ∧ Ag A σ σ' (fun s i => s ≠ 11 ∧ s ≠ 1 ∧ (s = 5 ∨ s = 30 ∨ s = 31 → i = p 200)) ∧ AgM μ μ' (fun j _ => j < 15 ∨ 32 ≤ j) ∧ ∀ k, k ≠ 11 → k ≠ 12 → k ≠ 13 → k ≠ 14 → μ'.1 k = μ.1 k := by
  have hs := hR.1
  have hi := hs.inj
  have k11 := hs.k11
  have n11 : oK σ (A 11 0 0) ≠ 9 := by rw [k11]; decide
  obtain ⟨t1, t2, t3, t4, t5, t6⟩ := hR.2.2.1
  rw [f_X11_stamp, x_gI k11, Option.bind_some, t1, f_X12_stamp]
  by_cases c : μ.1 9 = 0
  · rw [if_pos c, if_pos c]
    exact ⟨σ, μ, a, rfl, rfl, hR, Ag.rf, AgM.rf, fun _ _ _ _ _ => rfl⟩
  · have hR1 : RR A n T q hb vw p u a 0 (sI σ (A 11 0 0) 9 (μ.1 11 + 1)) (mS μ 11 (μ.1 11 + 1)) := by
      refine hR.tab (hs.sI rfl) (hR.2.1.sI n11) ((Ag.sI hs.1).wk fun s i h => by omega) rfl (fun k _ _ _ h => by simp only [mS_1, h, if_false]) ?_
      unfold Rt
      simp only [oK_sI, oK_sR, oK_sC, oZ_sI, oZ_sR, oZ_sC, xI_sI, oI_sR, xI_sC, oR_sI, xR_sR, oR_sC, Option.bind_some, if_true, if_false, Nat.reduceEqDiff, true_and, and_true, false_and, and_false, m_P, mT_2, mT_1, mS_1, mS_2, Option.bind_some, Nat.reduceEqDiff, if_true, if_false, true_and, and_true, false_and, and_false, hi, t1, t3]
      exact ⟨t2, t5, t6⟩
    obtain ⟨σ', μ', a', f1, f2, f3, f4⟩ := stm_loop hx n lf lf 0 _ _ a (by unfold lf; have := hs.np; omega) (by unfold lf; have := hs.np; omega) (by omega) hR1
    rw [if_neg c, if_neg c, x_gI k11, Option.bind_some, t4, x_pI k11, Option.bind_some, m_P, Option.bind_some]
    exact ⟨σ', μ', a', f1, f2, f3, ((Ag.sI hs.1).tr f4.1).wk fun s i h => by constructor <;> omega, (AgM.mS.tr f4.2.1).wk fun j i h => ⟨h, h⟩, fun k e1 e2 e3 e4 => (f4.2.2 k e2 e3 e4).trans (by simp only [mS_1, e1, if_false])⟩
end STN
