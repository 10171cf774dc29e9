/-! turning and settling -/
/-! more views, more calls -/
section XTN
variable {A : Ad} {n T T' q q' : Nat} {hb : Nat → Nat} {vw vw' : Vw} {p u : Nat → Nat} {a d r : Nat} {σ σ' : Hp} {μ : Mu}
def Ex (A : Ad) (n : Nat) (σ σ' : Hp) : Prop := ∀ s i j, dm n s i j → oI σ' (A s i j) = oI σ (A s i j) ∧ oR σ' (A s i j) = oR σ (A s i j)
theorem VwR.mo {o : Option Nat} {L S : Int32} (h : Vle vw vw') (hv : VwR vw o L S) : VwR vw' o L S := by
  obtain ⟨v, h1, h2⟩ := hv
  exact ⟨v, h1, h _ _ h2⟩
theorem Sm.mo {b b' : Nat} {x : Int32} (h : b ≤ b') (hx : Sm b x) : Sm b' x := by
  obtain ⟨k, h1, h2⟩ := hx
  exact ⟨k, by omega, h2⟩
theorem Rid.mo {b b' : Nat} {x : Int32} (h : b ≤ b') (hx : Rid b x) : Rid b' x := by
  obtain ⟨k, h1, h2, h3⟩ := hx
  exact ⟨k, h1, by omega, h3⟩
theorem logR.mo {aL aE : Nat → Int32} {len : Int32} {f : Nat → Int32} (h : q ≤ q') (hl : logR q aL aE len f) : logR q' aL aE len f := by
  obtain ⟨l, h1, h2, h3, h4⟩ := hl
  exact ⟨l, h1, h2, h3, fun k hk => ⟨(h4 k hk).1, (h4 k hk).2.mo h⟩⟩
theorem Rr.xt {hb : Nat} (hr : r < n) (he : Ex A n σ σ') (hT : T ≤ T') (hq : q ≤ q') (hv : Vle vw vw') (h : Rr A n T q hb vw σ μ r) : Rr A n T' q' hb vw' σ' μ r := by
  obtain ⟨a1, a2, ⟨a3, a3'⟩, ⟨a4, a4'⟩, a5, a6, ⟨h', b1, b2, b3, b4, b5⟩, c1, c2, c3, c4, c5, c6, b, c7, c8, c9, c10⟩ := h
  have e6 := he 6 r 0 (Rs.d6 hr)
  have e32 := he 32 r 0 (Rs.d32 hr)
  have e33 := he 33 r 0 (Rs.d33 hr)
  have e3 := he 3 r 0 (Rs.d3 hr)
  have e34 := he 34 r 0 (Rs.d34 hr)
  have e35 := he 35 r 0 (Rs.d35 hr)
  have e8 := he 8 r 0 (Rs.d8 hr)
  have e36 := he 36 r 0 (Rs.d36 hr)
  have e37 := he 37 r 0 (Rs.d37 hr)
  unfold Rr
  rw [e6.1, e6.2, e32.1, e33.1, e3.1, e34.1, e35.1, e8.1, e36.2, e37.1]
  refine ⟨a1, a2, ⟨a3.mo hv, a3'.mo hT⟩, ⟨a4.mo hv, a4'.mo hT⟩, a5, a6.mo hq, ⟨h', b1, b2, b3, fun k hk => ⟨(b4 k hk).1, (b4 k hk).2.1, (b4 k hk).2.2.mo hq⟩, b5⟩, c1, c2, c3, c4, c5, c6, b, c7, c8, c9, fun o ho hbo => ?_⟩
  obtain ⟨d1, d2, d3, d4⟩ := c10 o ho hbo
  refine ⟨d1.mo hv, d2.mo hT, d3, ?_⟩
  show logR q' (oI σ' (A 39 r o)) (oI σ' (A 40 r o)) _ _
  rw [(he 39 r o (Rs.d39 hr ho)).1, (he 40 r o (Rs.d40 hr ho)).1]
  exact d4.mo hq
theorem Rc.xt {c : Nat} (hc : c < 4) (he : Ex A n σ σ') (hT : T ≤ T') (hq : q ≤ q') (hv : Vle vw vw') (h : Rc A n T q vw σ μ c) : Rc A n T' q' vw' σ' μ c := by
  obtain ⟨⟨a1, a1'⟩, ⟨a2, a2'⟩, a3, a4, a5, a6, t, nx, b1, b2, b3, b4, b5, b6, b7, b8⟩ := h
  have e2 := he 2 c 0 (Rs.d2 hc)
  have e0 := he 41 c 0 (Rs.d41 hc (by decide))
  have e1 := he 41 c 1 (Rs.d41 hc (by decide))
  have e3 := he 41 c 2 (Rs.d41 hc (by decide))
  have e4 := he 41 c 3 (Rs.d41 hc (by decide))
  unfold Rc
  rw [e2.1, e2.2, e0.2, e1.1, e3.1, e4.1]
  refine ⟨⟨a1, a1'.mo hq⟩, ⟨a2, a2'.mo hq⟩, a3, fun h => (a4 h).mo hq, fun h => (a5 h).mo hv, a6, t, nx, b1, b2, b3, b4, b5, b6, fun p hp => ?_, b8⟩
  obtain ⟨d1, d2, d3, l, b, d4, d5⟩ := b7 p hp
  exact ⟨d1.mo hv, d2, d3, l, b, by omega, d5⟩
theorem Rm.xt {i m : Nat} (hi : i < 202) (he : Ex A n σ σ') (hT : T ≤ T') (hq : q ≤ q') (hv : Vle vw vw') (h : Rm A n T q vw σ μ i m) : Rm A n T' q' vw' σ' μ i m := by
  have e5 := he 5 i 0 (Rs.d5 hi)
  have e30 := he 30 i 0 (Rs.d30 hi)
  have e31 := he 31 i 0 (Rs.d31 hi)
  unfold Rm at h ⊢
  rw [e5.1, e5.2, e30.1, e31.1]
  obtain ⟨h0, kk, to, h1, h2, h3, h4, h5, h6, h7, h8, h9, h10, h11, h12, h13, h14, h15⟩ := h
  refine ⟨h0, kk, to, h1, h2, h3, h4, h5, h6, fun h => ?_, h8, fun h => ⟨(h9 h).1, (h9 h).2.mo hq⟩, h10, h11, fun h => (h12 h).mo hq, h13, h14, fun h => ⟨(h15 h).1.mo hv, (h15 h).2.mo hT⟩⟩
  obtain ⟨d1, l, fr, d2, d3⟩ := h7 h
  exact ⟨d1.mo hv, l, fr, by omega, d3⟩
theorem Ra.xt (he : Ex A n σ σ') (hT : T ≤ T') (hq : q ≤ q') (hv : Vle vw vw') (h : Ra A n T q vw σ μ p u a d) : Ra A n T' q' vw' σ' μ p u a d := by
  have e1 := he 1 0 0 Rs.d1
  have e22 := he 22 0 0 Rs.d22
  unfold Ra at h ⊢
  rw [e1.1, e1.2, e22.2]
  obtain ⟨h1, h2, h3, h4, h5, h6, h7, h8, h9, h10, h11, h12, h13, h14⟩ := h
  exact ⟨h1, h2, h3, h4, h5, h6, h7, h8, h9, h10, h11, h12, h13, fun k hk => (h14 k hk).xt (by have := h8 k (by omega); omega) he hT hq hv⟩
theorem RR.xt (hR : RR A n T q hb vw p u a d σ μ) (he : Ex A n σ σ') (hs : Rs A n σ') (hvk : Vok vw' σ') (hT : T ≤ T') (hT' : T' ≤ 64) (hv : Vle vw vw') : RR A n T' q hb vw' p u a d σ' μ := by
  obtain ⟨r1, r2, r3, r4, r5, r6, r7, r8, r9, r10⟩ := hR
  refine ⟨hs, hvk, ?_, ?_, r5.xt he hT (Nat.le_refl _) hv, fun r hr => (r6 r hr).xt hr he hT (Nat.le_refl _) hv, fun c hc => (r7 c hc).xt hc he hT (Nat.le_refl _) hv, ?_, r9, hT'⟩
  · unfold Rt at r3 ⊢
    rw [(he 11 0 0 Rs.d11).1]
    exact r3
  · obtain ⟨h1, h2, h3, h4, h5⟩ := r4
    refine ⟨by rw [(he 7 0 0 Rs.d7).1]; exact h1, h2, by rw [(he 20 1 0 (Rs.d20 (by decide))).1]; exact h3, fun id h6 h7 => ⟨fun j hj => ?_, (h4 id h6 h7).2⟩, h5⟩
    rw [(he 20 j 0 (Rs.d20 hj)).1]
    exact (h4 id h6 h7).1 j hj
  · obtain ⟨f, h1, h2, h3, h4, h5, h6⟩ := r8
    have e0 := he 0 0 0 Rs.d0
    have g0 := he 23 0 0 (Rs.d23 (by decide))
    have g1 := he 23 1 0 (Rs.d23 (by decide))
    have g2 := he 23 2 0 (Rs.d23 (by decide))
    have g3 := he 23 3 0 (Rs.d23 (by decide))
    refine ⟨f, h1, by rw [e0.1]; exact h2, by rw [e0.1]; exact h3, by rw [e0.1]; exact h4, h5, fun k hk => ?_⟩
    rw [g0.1, g1.2, g2.1, g3.1]
    obtain ⟨d1, d2, d3, d4⟩ := h6 k hk
    exact ⟨d1, d2, d3.mo hv, d4⟩
end XTN
section TRN
variable {A : Ad} {n T q : Nat} {hb : Nat → Nat} {vw : Vw} {p u : Nat → Nat} {a r : Nat} {σ σ' : Hp} {μ μ' : Mu}
/-- a replica that has forgotten -/
theorem RR.rst (hR : RR A n T q h8 vw p u a 0 σ μ) (hr : r < n) (hs : Rs A n σ') (hv : Vok vw σ') (hc : Ag A σ σ' (fun s i => ¬ fpR r s i)) (hm : AgM μ μ' (fun j i => ¬ fmR r j i)) (h1 : μ'.1 = μ.1) (hS : RrS A T vw σ' μ' r) (hL : RrL A q σ' μ' r) (hH : oI σ' (A 3 r 0) 2 = 0 ∧ μ'.2 43 r = 0) (hT : (oI σ' (A 8 r 0) 0 = 0 ∧ oI σ' (A 8 r 0) 1 = 0 ∧ oI σ' (A 8 r 0) 2 = μ'.2 48 r ∧ oI σ' (A 8 r 0) 3 = 0) ∧ μ'.2 46 r = 0 ∧ μ'.2 47 r = 0 ∧ μ'.2 49 r = 0) : RR A n T q h8 vw p u a 0 σ' μ' := by
  obtain ⟨⟨t1, t2, t3, t4⟩, t5, t6, t7⟩ := hT
  refine hR.rep r hs hv hc hm h1 (fun _ _ => rfl) (Rr.mk hS hL ⟨0, Nat.zero_le _, hH.2, hH.1, fun k hk => by omega, fun k k' hk => by omega⟩ ?_)
  unfold RrT
  rw [t5, t6, t7]
  exact ⟨t1, ⟨0, by decide, rfl⟩, t2, ⟨0, by decide, rfl⟩, t3, t4, 0, by decide, rfl, Nat.zero_testBit r, fun o ho h => by rw [Nat.zero_testBit] at h; exact absurd h (by decide)⟩
theorem rep_turn (hR : RR A n T q h8 vw p u a 0 σ μ) (hr : r < n) {v : Nat} {L S : Int32} (hv : vw v = some (L, S)) (hL : Sm T L) : St A n T q vw p u σ μ (f_X6_turnTo σ (A 6 r 0) v) (f_X12_turn μ (nI r) L S) := by
  have hs := hR.1
  have h7 := hs.np
  have hi := hs.inj
  have hI := hs.1
  have hr7 : r < 7 := by omega
  have k6 := hs.k6 hr
  have k3 := hs.k3 hr
  have k8 := hs.k8 hr
  have n6 : oK σ (A 6 r 0) ≠ 9 := by rw [k6]; decide
  have n3 : oK σ (A 3 r 0) ≠ 9 := by rw [k3]; decide
  have n8 : oK σ (A 8 r 0) ≠ 9 := by rw [k8]; decide
  obtain ⟨⟨⟨a1, a2⟩, ⟨a3, a4⟩, a5, a6, a7, a8, a9⟩, gL, gH, gT⟩ := (hR.2.2.2.2.2.1 r hr).sp
  have hc : Ag A σ (sI (sI (sI (sI (sI (sI (sR σ (A 6 r 0) 4 v) (A 6 r 0) 3 2) (A 3 r 0) 2 0) (A 8 r 0) 0 0) (A 8 r 0) 1 0) (A 8 r 0) 3 0) (A 6 r 0) 8 0) (fun s i => ¬ (i = r ∧ (s = 6 ∨ s = 3 ∨ s = 8))) := (((((((Ag.sR hI).tr (Ag.sI hI)).tr (Ag.sI hI)).tr (Ag.sI hI)).tr (Ag.sI hI)).tr (Ag.sI hI)).tr (Ag.sI hI)).wk (fun s i h => by omega)
  have hm : AgM μ (mT (mT (mT (mT (mT (mT (mT (mT μ 33 r L) 34 r S) 35 r 2) 43 r 0) 46 r 0) 47 r 0) 49 r 0) 41 r 0) (fun j i => ¬ (i = r ∧ (j = 33 ∨ j = 34 ∨ j = 35 ∨ j = 43 ∨ j = 46 ∨ j = 47 ∨ j = 49 ∨ j = 41))) := ((((((((AgM.mT).tr AgM.mT).tr AgM.mT).tr AgM.mT).tr AgM.mT).tr AgM.mT).tr AgM.mT).tr AgM.mT).wk (fun s i h => by omega)
  have hR1 : RR A n T q h8 vw p u a 0 (sI (sI (sI (sI (sI (sI (sR σ (A 6 r 0) 4 v) (A 6 r 0) 3 2) (A 3 r 0) 2 0) (A 8 r 0) 0 0) (A 8 r 0) 1 0) (A 8 r 0) 3 0) (A 6 r 0) 8 0) (mT (mT (mT (mT (mT (mT (mT (mT μ 33 r L) 34 r S) 35 r 2) 43 r 0) 46 r 0) 47 r 0) 49 r 0) 41 r 0) := by
    refine hR.rst hr ((((((((hs.sR rfl).sI rfl).sI rfl).sI rfl).sI rfl).sI rfl).sI rfl)) ((((((((hR.2.1.sR).sI n6).sI n3).sI n8).sI n8).sI n8).sI n6)) (hc.wk fun s i h => by unfold fpR at h; omega) (hm.wk fun j i h => by unfold fmR at h; omega) rfl ?_ (gL.cg (hc 32 r 0 (by omega)).1 (hc 33 r 0 (by omega)).1 (hm _ _ (by omega)) (fun k hk => hm _ _ (by omega))) ?_ ?_
    · unfold RrS
      simp only [oK_sI, oK_sR, oK_sC, oZ_sI, oZ_sR, oZ_sC, xI_sI, oI_sR, xI_sC, oR_sI, xR_sR, oR_sC, Option.bind_some, if_true, if_false, Nat.reduceEqDiff, true_and, and_true, false_and, and_false, m_P, mT_2, mT_1, mS_1, mS_2, Option.bind_some, Nat.reduceEqDiff, if_true, if_false, true_and, and_true, false_and, and_false, hi, a1, a7, a8]
      exact ⟨a2, ⟨2, by decide, rfl⟩, ⟨⟨v, rfl, hv⟩, hL⟩, a6⟩
    · simp only [oK_sI, oK_sR, oK_sC, oZ_sI, oZ_sR, oZ_sC, xI_sI, oI_sR, xI_sC, oR_sI, xR_sR, oR_sC, Option.bind_some, if_true, if_false, Nat.reduceEqDiff, true_and, and_true, false_and, and_false, m_P, mT_2, mT_1, mS_1, mS_2, Option.bind_some, Nat.reduceEqDiff, if_true, if_false, true_and, and_true, false_and, and_false, hi, and_self]
    · simp only [oK_sI, oK_sR, oK_sC, oZ_sI, oZ_sR, oZ_sC, xI_sI, oI_sR, xI_sC, oR_sI, xR_sR, oR_sC, Option.bind_some, if_true, if_false, Nat.reduceEqDiff, true_and, and_true, false_and, and_false, m_P, mT_2, mT_1, mS_1, mS_2, Option.bind_some, Nat.reduceEqDiff, if_true, if_false, true_and, and_true, false_and, and_false, hi, and_self]
      exact gT.2.2.2.2.1
  have hcl : f_X6_turnTo σ (A 6 r 0) v = f_X6_sendTurns (sI (sI (sI (sI (sI (sI (sR σ (A 6 r 0) 4 v) (A 6 r 0) 3 2) (A 3 r 0) 2 0) (A 8 r 0) 0 0) (A 8 r 0) 1 0) (A 8 r 0) 3 0) (A 6 r 0) 8 0) (A 6 r 0) := by
    simp only [f_X6_turnTo, f_X6_forget, f_X8_clear, x_gI, x_gR, x_gO, x_pI, x_pR, x_aI, x_aR, x_qI, x_qR, x_aL, oK_sI, oK_sR, oK_sC, oZ_sI, oZ_sR, oZ_sC, xI_sI, oI_sR, xI_sC, oR_sI, xR_sR, oR_sC, Option.bind_some, if_true, if_false, Nat.reduceEqDiff, true_and, and_true, false_and, and_false, k6, k3, k8, hi, hs.r6_1 hr, hs.r6_14 hr]
    rw [Option.bind_fun_some]
  have hml : f_X12_turn μ (nI r) L S = ((f_X12_all (mT (mT (mT (mT (mT (mT (mT (mT μ 33 r L) 34 r S) 35 r 2) 43 r 0) 46 r 0) 47 r 0) 49 r 0) 41 r 0) 8 (nI r) 0).bind fun v38 => (f_X12_leads v38 (nI r)).bind fun v43 => if v43 = 0 then ((f_X12_tellTurned v38 (nI r)).bind fun v51 => some v51) else some v38) := by
    simp only [f_X12_turn, f_X12_forget, mA_n, mQ_n, m_P, mT_2, mT_1, mS_1, mS_2, mZ, Option.bind_some, if_true, if_false, true_and, and_true, false_and, and_false, Nat.reduceEqDiff, Nat.reduceLT, hr7]
  rw [hcl, hml]
  exact (sd_turns hR1 hr).st.tr (Kp.mk2 (hc.wk fun s i h => by omega) (hm.wk fun j i h => by omega) (fun _ _ _ _ => rfl) (Gx.of35 (r := r) (fun i h => hm 35 i (by omega)) (fun i h => hm 38 i (by omega)) (by simp only [m_P, mT_2, mT_1, mS_1, mS_2, Option.bind_some, Nat.reduceEqDiff, if_true, if_false, true_and, and_true, false_and, and_false]; decide)))
/-- a new view -/
theorem RR.ofV (hR : RR A n T q hb vw p u a 0 σ μ) (L S : Int32) : ∃ vw', Vle vw vw' ∧ vw' (oN σ) = some (L, S) ∧ RR A n T q hb vw' p u a 0 (mkV σ L S) μ ∧ Kp A n p σ (mkV σ L S) μ μ := by
  have hs := hR.1
  have he := Ext.ofV hs L S
  have hnew : vw (oN σ) = none := by
    cases h : vw (oN σ) with
    | none => rfl
    | some x =>
      have h1 := (hR.2.1 _ x.1 x.2 h).1
      have h2 := hs.2.2.2.2.1 (oN σ) (Nat.le_refl _)
      rw [h2] at h1
      exact absurd h1 (by decide)
  have hA : Ex A n σ (mkV σ L S) := fun s i j hd => by
    obtain ⟨-, -, h3, h4⟩ := he.1 (A s i j) (by rw [hs.kd hd]; exact kdF_ne s i j)
    exact ⟨h3, h4⟩
  have hle : Vle vw (fun v => if v = oN σ then some (L, S) else vw v) := fun v x h => by
    have hne : v ≠ oN σ := fun e => by rw [e, hnew] at h; cases h
    show (if v = oN σ then _ else _) = _
    rw [if_neg hne]
    exact h
  refine ⟨fun v => if v = oN σ then some (L, S) else vw v, hle, if_pos rfl, hR.xt hA (hs.ext he) (fun v L' S' h => ?_) (Nat.le_refl _) hR.2.2.2.2.2.2.2.2.2 hle, ⟨fun s i j hd _ => hA s i j hd, AgM.rf, fun _ _ _ _ => rfl, fun _ _ h => h⟩⟩
  by_cases hv : v = oN σ
  · have h : (if v = oN σ then some (L, S) else vw v) = some (L', S') := h
    rw [if_pos hv] at h
    cases h
    rw [hv]
    exact isV_mkV L S
  · have h : (if v = oN σ then some (L, S) else vw v) = some (L', S') := h
    rw [if_neg hv] at h
    exact (hR.2.1 v L' S' h).ext he
end TRN
