/-! the orderer's stamps -/
section STM
variable {A : Ad} {n T q : Nat} {hb : Nat → Nat} {vw : Vw} {p u : Nat → Nat} {a r : Nat} {σ σ' : Hp} {μ μ' : Mu}
theorem RR.tab {d : Nat} (hR : RR A n T q hb vw p u a d σ μ) (hs : Rs A n σ') (hv : Vok vw σ') (hc : Ag A σ σ' (fun s _ => s ≠ 11)) (hm : μ'.2 = μ.2) (h1 : ∀ k, k ≠ 0 → k ≠ 9 → k ≠ 10 → k ≠ 11 → μ'.1 k = μ.1 k) (ht : Rt A n σ' μ') : RR A n T q hb vw p u a d σ' μ' := by
  obtain ⟨r1, r2, r3, r4, r5, r6, r7, r8, r9, r10⟩ := hR
  have hM : ∀ S, AgM μ μ' S := fun S j i _ => by rw [hm]
  refine ⟨hs, hv, ht, r4.cg (hc.wk ?_) (hM _) (h1 3 (by decide) (by decide) (by decide) (by decide)), r5.cg (hc.wk ?_) (hM _) ⟨h1 _ (by decide) (by decide) (by decide) (by decide), h1 _ (by decide) (by decide) (by decide) (by decide), h1 _ (by decide) (by decide) (by decide) (by decide)⟩, fun r hr => (r6 r hr).cg hs.np.2 (hc.wk ?_) (hM _), fun c hc' => (r7 c hc').cg (hc.wk ?_) (hM _), r8.cg (hc.wk ?_) (hM _) (h1 _ (by decide) (by decide) (by decide) (by decide)), r9, r10⟩
  · intro s i h; omega
  · intro s i h; omega
  · intro s i h; unfold fpR at h; omega
  · intro s i h; unfold fpC at h; omega
  · intro s i h; omega
theorem stm_loop {x : Int32} (hx : Rid q x) : ∀ d (F F' k : Nat) (σ : Hp) (μ : Mu) (a : Nat), d < F → d < F' → n = k + d → RR A n T q hb vw p u a 0 σ μ → Sd A n T q hb vw p u σ μ (f_X11_stamp_20 F σ (A 11 0 0) x (nI k)) (f_X12_stamp_20 F' μ x (nI k)) := by
  intro d
  induction d with
  | zero =>
    intro F F' k σ μ a hF hF' hn hR
    obtain ⟨F, rfl⟩ : ∃ f, F = f + 1 := ⟨F - 1, by omega⟩
    obtain ⟨F', rfl⟩ : ∃ f, F' = f + 1 := ⟨F' - 1, by omega⟩
    show Sd _ _ _ _ _ _ _ _ _ _ (b_X11_stamp_20 (f_X11_stamp_20 F) σ _ _ _) (b_X12_stamp_20 (f_X12_stamp_20 F') μ _ _)
    have hs := hR.1
    have h7 := hs.np
    have e1 : nI n ≤ nI k := (nI_leI (by omega) (by omega)).mpr (by omega)
    rw [b_X11_stamp_20, b_X12_stamp_20, x_gI hs.k11, Option.bind_some, hs.i11_0, hR.2.2.1.2.2.2.2.1, if_pos e1, if_pos e1]
    exact Sd.rf hR
  | succ d ih =>
    intro F F' k σ μ a hF hF' hn hR
    obtain ⟨F, rfl⟩ : ∃ f, F = f + 1 := ⟨F - 1, by omega⟩
    obtain ⟨F', rfl⟩ : ∃ f, F' = f + 1 := ⟨F' - 1, by omega⟩
    show Sd _ _ _ _ _ _ _ _ _ _ (b_X11_stamp_20 (f_X11_stamp_20 F) σ _ _ _) (b_X12_stamp_20 (f_X12_stamp_20 F') μ _ _)
    have hs := hR.1
    have hi := hs.inj
    have h7 := hs.np
    have k11 := hs.k11
    have e1 : ¬ nI n ≤ nI k := fun e => by rw [nI_leI (by omega) (by omega)] at e; omega
    obtain ⟨m0, σ1, mm, μ1, f1, f2, f3⟩ := air_send hR (nI 0) (-1) (nI k) 0 (μ.1 10) (μ.1 11) x
    obtain ⟨s1, s2⟩ := f3.st
    have k11' := s1.k11
    have k5' := s1.k5 f3.1.1
    have n5 : oK σ1 (A 5 m0 0) ≠ 9 := by rw [k5']; decide
    obtain ⟨-, -, t8, t9, -⟩ := hR.2.2.1
    have m8 : oI σ1 (A 11 0 0) 8 = μ.1 10 := by rw [(f3.2.1 11 0 0 (by omega)).1]; exact t8
    have m9 : oI σ1 (A 11 0 0) 9 = μ.1 11 := by rw [(f3.2.1 11 0 0 (by omega)).1]; exact t9
    have w1 := f3.wI (x := μ.1 10) (k := 5) (by decide) s1 s2
    have w2 := w1.wI (x := μ.1 11) (k := 6) (by decide) (s1.sI rfl) (s2.sI n5)
    have w3 := w2.wI (x := x) (k := 7) (by decide) ((s1.sI rfl).sI rfl) ((s2.sI n5).sI n5)
    obtain ⟨u1, u2⟩ := w3.st
    obtain ⟨a', g1, g2⟩ := w3.fin (μ2 := μ1) u1 u2 Ag.rf (fun _ => rfl) (fun m hm e => by
      obtain ⟨-, ⟨b1, b2, b3, b4⟩, c18, c19, c20, c21, c22, c23, c24, c30, c29⟩ := f3.at hm e
      refine ⟨⟨AgM.rf, rfl⟩, ⟨?_, ?_, ?_, ?_⟩, 0, k, by omega, c18, c20, by omega, fun _ => by omega, fun _ => ?_, by omega, fun _ => ?_, fun _ => ⟨?_, ?_⟩, by omega, by omega, by omega, fun _ _ _ => c29, by omega, by omega⟩
      · simp only [oK_sI, oK_sR, oK_sC, oZ_sI, oZ_sR, oZ_sC, xI_sI, oI_sR, xI_sC, oR_sI, xR_sR, oR_sC, Option.bind_some, if_true, if_false, Nat.reduceEqDiff, true_and, and_true, false_and, and_false, hi, b1]
      · simp only [oK_sI, oK_sR, oK_sC, oZ_sI, oZ_sR, oZ_sC, xI_sI, oI_sR, xI_sC, oR_sI, xR_sR, oR_sC, Option.bind_some, if_true, if_false, Nat.reduceEqDiff, true_and, and_true, false_and, and_false, hi, b2, c18]
      · simp only [oK_sI, oK_sR, oK_sC, oZ_sI, oZ_sR, oZ_sC, xI_sI, oI_sR, xI_sC, oR_sI, xR_sR, oR_sC, Option.bind_some, if_true, if_false, Nat.reduceEqDiff, true_and, and_true, false_and, and_false, hi, b3, c19]
      · simp only [oK_sI, oK_sR, oK_sC, oZ_sI, oZ_sR, oZ_sC, xI_sI, oI_sR, xI_sC, oR_sI, xR_sR, oR_sC, Option.bind_some, if_true, if_false, Nat.reduceEqDiff, true_and, and_true, false_and, and_false, hi, b4, c20]
      · simp only [oK_sI, oK_sR, oK_sC, oZ_sI, oZ_sR, oZ_sC, xI_sI, oI_sR, xI_sC, oR_sI, xR_sR, oR_sC, Option.bind_some, if_true, if_false, Nat.reduceEqDiff, true_and, and_true, false_and, and_false, hi, c22]
      · simp only [oK_sI, oK_sR, oK_sC, oZ_sI, oZ_sR, oZ_sC, xI_sI, oI_sR, xI_sC, oR_sI, xR_sR, oR_sC, Option.bind_some, if_true, if_false, Nat.reduceEqDiff, true_and, and_true, false_and, and_false, hi, c23]
      · simp only [oK_sI, oK_sR, oK_sC, oZ_sI, oZ_sR, oZ_sC, xI_sI, oI_sR, xI_sC, oR_sI, xR_sR, oR_sC, Option.bind_some, if_true, if_false, Nat.reduceEqDiff, true_and, and_true, false_and, and_false, hi, c24]
      · rw [c24]; exact hx)
    rw [show nI 0 = (0 : Int32) from rfl] at f1 f2
    rw [b_X11_stamp_20, b_X12_stamp_20, x_gI k11, Option.bind_some, hs.i11_0, hR.2.2.1.2.2.2.2.1, if_neg e1, if_neg e1, f2]
    simp only [x_gI, x_gR, x_gO, x_pI, x_pR, x_aI, x_aR, x_qI, x_qR, x_aL, oK_sI, oK_sR, oK_sC, oZ_sI, oZ_sR, oZ_sC, xI_sI, oI_sR, xI_sC, oR_sI, xR_sR, oR_sC, Option.bind_some, if_true, if_false, Nat.reduceEqDiff, true_and, and_true, false_and, and_false, k11, hs.r11_3, hs.k1, f1, k11', k5', m8, m9, hi, nI_1]
    exact (ih F F' (k + 1) _ _ a' (by omega) (by omega) (by omega) g1).tr g2
end STM
