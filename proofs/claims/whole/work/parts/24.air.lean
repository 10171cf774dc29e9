/-! evaluating by conditions -/
theorem x_gI {σ : Hp} {ci a k : Nat} (hK : oK σ a = ci) : h_gI σ ci a k = some (oI σ a k) := by unfold h_gI; rw [if_pos hK]
theorem x_gR {σ : Hp} {ci a k : Nat} (hK : oK σ a = ci) : h_gR σ ci a k = oR σ a k := by unfold h_gR; rw [if_pos hK]
theorem x_gO {σ : Hp} {ci a : Nat} (hK : oK σ a = ci) : h_gO σ ci a = some () := by unfold h_gO; rw [if_pos hK]
theorem x_pI {σ : Hp} {ci a k : Nat} {x : Int32} (hK : oK σ a = ci) : h_pI σ ci a k x = some (sI σ a k x) := by unfold h_pI; rw [if_pos hK]
theorem x_pR {σ : Hp} {ci a k x : Nat} (hK : oK σ a = ci) : h_pR σ ci a k x = some (sR σ a k x) := by unfold h_pR; rw [if_pos hK]
theorem x_aI {σ : Hp} {a k : Nat} (hK : oK σ a = 13) (hk : k < oZ σ a) (hN : oZ σ a < 2147483648) : h_aI σ a (nI k) = some (oI σ a k) := e_aI hK rfl hk hN
theorem x_aR {σ : Hp} {kd a k : Nat} (hK : oK σ a = kd) (hk : k < oZ σ a) (hN : oZ σ a < 2147483648) : h_aR σ kd a (nI k) = oR σ a k := by
  unfold h_aR
  rw [if_pos ⟨hK, ib hk hN⟩, nI_clamp (Nat.lt_trans hk hN)]
theorem x_qI {σ : Hp} {a k : Nat} {x : Int32} (hK : oK σ a = 13) (hk : k < oZ σ a) (hN : oZ σ a < 2147483648) : h_qI σ a (nI k) x = some (sI σ a k x) := e_qI hK rfl hk hN
theorem x_qR {σ : Hp} {kd ci a k v : Nat} (hK : oK σ a = kd) (hv : oK σ v = ci) (hk : k < oZ σ a) (hN : oZ σ a < 2147483648) : h_qR σ kd ci a (nI k) v = some (sR σ a k v) := e_qR hK hv rfl hk hN
theorem x_aL {σ : Hp} {kd a : Nat} (hK : oK σ a = kd) : h_aL σ kd a = some (nI (oZ σ a)) := e_aL hK rfl
theorem xI_sI (σ : Hp) (a k : Nat) (x : Int32) (b j : Nat) : oI (sI σ a k x) b j = if b = a ∧ j = k then x else oI σ b j := rfl
theorem xR_sR (σ : Hp) (a k x : Nat) (b j : Nat) : oR (sR σ a k x) b j = if b = a ∧ j = k then some x else oR σ b j := rfl
theorem xI_sC (σ : Hp) (a0 a l : Nat) (b j : Nat) : oI (sC σ a0 a 0 0 l) b j = if b = a then (if j < l then oI σ a0 j else oI σ a j) else oI σ b j := by
  rw [oI_sC]
  by_cases h : b = a
  · subst h
    rw [va_up_self, if_pos rfl]
    by_cases h2 : j < l
    · rw [pk_cpy_in (by omega) (by omega), if_pos h2, Nat.zero_add, Nat.sub_zero]
    · rw [pk_cpy_out (by omega), if_neg h2]
  · rw [va_up_ne _ _ h, if_neg h]
/-! the air: sending -/
section AIR
variable {A : Ad} {n T q : Nat} {hb : Nat → Nat} {vw : Vw} {p u : Nat → Nat} {a : Nat} {σ : Hp} {μ : Mu}
theorem snd_c (hR : RR A n T q hb vw p u a 0 σ μ) (ha : a < 200) (kk fr to : Int32) : f_X1_send σ (A 1 0 0) kk fr to = some (A 5 (p a) 0, sI (sI (sI (sI (sI (sI σ (A 1 0 0) 1 (nI (a + 1))) (A 5 (p a) 0) 0 (μ.1 13)) (A 1 0 0) 2 (μ.1 13 + 1)) (A 5 (p a) 0) 1 kk) (A 5 (p a) 0) 2 fr) (A 5 (p a) 0) 3 to) := by
  obtain ⟨hs, -, -, -, ⟨h1, h2, h3, h4, h5, h6, h7, h8, h9, h10, h11, h12, h13, h14⟩, -⟩ := hR
  have hi := hs.inj
  have hp : p a < 202 := Nat.lt_of_le_of_lt (h8 a h1) (by decide)
  have e1 : ¬ ((200 : Int32) ≤ nI a) := by rw [l200, nI_leI (by decide) (by omega)]; omega
  have k1 := hs.k1
  have k5 := hs.k5 hp
  have k22 := hs.k22
  have z22 := hs.z22
  have r0 := hs.r1_0
  have r5 := hs.r1_5
  have e2 : nI a + 1 = nI (a + 1) := by rw [l1, nI_add]
  simp only [f_X1_send, f_X1_send_50, x_gI, x_gR, x_gO, x_pI, x_pR, x_aI, x_aR, x_qI, x_qR, x_aL, oK_sI, oK_sR, oK_sC, oZ_sI, oZ_sR, oZ_sC, xI_sI, oI_sR, xI_sC, oR_sI, xR_sR, oR_sC, Option.bind_some, if_true, if_false, Nat.reduceEqDiff, true_and, and_true, false_and, and_false, k1, k5, k22, z22, r0, r5, hi, h2, h4, h6 a ha, e1, e2, ha, Nat.reduceLT]
theorem snd_cf (hR : RR A n T q hb vw p u a 0 σ μ) (ha : ¬ a < 200) (kk fr to : Int32) : f_X1_send σ (A 1 0 0) kk fr to = some (A 5 201 0, sI (sI (sI (sI (sI (sI σ (A 1 0 0) 3 (μ.1 14 + 1)) (A 5 201 0) 0 (μ.1 13)) (A 1 0 0) 2 (μ.1 13 + 1)) (A 5 201 0) 1 kk) (A 5 201 0) 2 fr) (A 5 201 0) 3 to) := by
  obtain ⟨hs, -, -, -, ⟨h1, h2, h3, h4, h5, h6, h7, h8, h9, h10, h11, h12, h13, h14⟩, -⟩ := hR
  have hi := hs.inj
  have e1 : ((200 : Int32) ≤ nI a) := by rw [l200, nI_leI (by decide) (by omega)]; omega
  have k1 := hs.k1
  have k5 := hs.k5 (i := 201) (by decide)
  have r5 := hs.r1_5
  simp only [f_X1_send, f_X1_send_50, x_gI, x_gR, x_gO, x_pI, x_pR, x_aI, x_aR, x_qI, x_qR, x_aL, oK_sI, oK_sR, oK_sC, oZ_sI, oZ_sR, oZ_sC, xI_sI, oI_sR, xI_sC, oR_sI, xR_sR, oR_sC, Option.bind_some, if_true, if_false, Nat.reduceEqDiff, true_and, and_true, false_and, and_false, k1, k5, r5, hi, h2, h4, h5, e1]
theorem snd_m (hR : RR A n T q hb vw p u a 0 σ μ) (ha : a < 200) (kk fr to l s t ab : Int32) : f_X12_send μ kk fr to l s t ab = some (nI (u a), mT (mT (mT (mT (mT (mT (mT (mT (mT (mT (mS (mT (mS μ 13 (μ.1 13 + 1)) 15 a (nI (u a))) 12 (nI (a + 1))) 17 (u a) (μ.1 13)) 18 (u a) kk) 19 (u a) fr) 20 (u a) to) 21 (u a) l) 22 (u a) s) 23 (u a) t) 24 (u a) ab) 30 (u a) 0) 29 (u a) 0) := by
  obtain ⟨hs, -, -, -, ⟨h1, h2, h3, h4, h5, h6, h7, h8, h9, h10, h11, h12, h13, h14⟩, -⟩ := hR
  have e1 : ¬ (nI a = (200 : Int32)) := by rw [l200, nI_eq (by omega) (by decide)]; omega
  have e2 : nI a + 1 = nI (a + 1) := by rw [l1, nI_add]
  have e3 : (199 : Int32) - nI a = nI (199 - a) := by rw [l199, pk_sub (by omega)]
  have e4 : 199 - a < 200 := by omega
  have e5 : u a < 200 := h12 a ha
  have e6 : μ.1 13 + 1 - 1 = μ.1 13 := by rw [Int32.add_sub_cancel]
  have e7 := h11 a (Nat.le_refl a) ha
  simp only [f_X12_send, mA_n, mQ_n, m_P, mT_2, mT_1, mS_1, mS_2, mZ, Option.bind_some, if_true, if_false, true_and, and_true, false_and, and_false, Nat.reduceEqDiff, Nat.reduceLT, h3, e1, e2, e3, e4, ha, e5, e6, e7, Nat.reduceEqDiff]
theorem snd_mf (hR : RR A n T q hb vw p u a 0 σ μ) (ha : ¬ a < 200) (kk fr to l s t ab : Int32) : f_X12_send μ kk fr to l s t ab = some (-1, mS (mS μ 13 (μ.1 13 + 1)) 14 (μ.1 14 + 1)) := by
  obtain ⟨hs, -, -, -, ⟨h1, h2, h3, h4, h5, h6, h7, h8, h9, h10, h11, h12, h13, h14⟩, -⟩ := hR
  have e1 : (nI a = (200 : Int32)) := by rw [l200, nI_eq (by omega) (by decide)]; omega
  simp only [f_X12_send, mA_n, mQ_n, m_P, mT_2, mT_1, mS_1, mS_2, mZ, Option.bind_some, if_true, if_false, true_and, and_true, false_and, and_false, Nat.reduceEqDiff, Nat.reduceLT, h3, e1]
/-- the two sides of a sending: nothing but the air has changed -/
def Sn (A : Ad) (n T q : Nat) (hb : Nat → Nat) (vw : Vw) (p u : Nat → Nat) (a : Nat) (σ : Hp) (μ : Mu) (m0 : Nat) (σ' : Hp) (mm : Int32) (μ' : Mu) (kk fr to l s t ab : Int32) : Prop :=
  (m0 < 202 ∧ m0 ≠ p 200) ∧ Ag A σ σ' (fun s i => s ≠ 1 ∧ ¬ (s = 5 ∧ i = m0)) ∧ AgM μ μ' (fun j _ => j < 15 ∨ 32 ≤ j) ∧ (∀ k, k ≠ 12 → k ≠ 13 → k ≠ 14 → μ'.1 k = μ.1 k) ∧
  ((a = 200 ∧ m0 = 201 ∧ mm = -1 ∧ RR A n T q hb vw p u a 0 σ' μ') ∨
   (a < 200 ∧ m0 = p a ∧ mm = nI (u a) ∧ u a < 200 ∧ RR A n T q hb vw p u (a + 1) 1 σ' μ' ∧ (oI σ' (A 5 m0 0) 0 = μ'.2 17 (u a) ∧ oI σ' (A 5 m0 0) 1 = kk ∧ oI σ' (A 5 m0 0) 2 = fr ∧ oI σ' (A 5 m0 0) 3 = to) ∧
     μ'.2 18 (u a) = kk ∧ μ'.2 19 (u a) = fr ∧ μ'.2 20 (u a) = to ∧ μ'.2 21 (u a) = l ∧ μ'.2 22 (u a) = s ∧ μ'.2 23 (u a) = t ∧ μ'.2 24 (u a) = ab ∧ μ'.2 30 (u a) = 0 ∧ μ'.2 29 (u a) = 0))
theorem RR.air {σ' : Hp} {μ' : Mu} {m0 a' d' : Nat} (hR : RR A n T q hb vw p u a 0 σ μ) (hs : Rs A n σ') (hv : Vok vw σ') (hc : Ag A σ σ' (fun s i => s ≠ 1 ∧ ¬ (s = 5 ∧ i = m0))) (hm : AgM μ μ' (fun j _ => j < 15 ∨ 32 ≤ j)) (h1 : ∀ k, k ≠ 12 → k ≠ 13 → k ≠ 14 → μ'.1 k = μ.1 k) (ha : Ra A n T q vw σ' μ' p u a' d') : RR A n T q hb vw p u a' d' σ' μ' := by
  obtain ⟨r1, r2, r3, r4, r5, r6, r7, r8, r9, r10⟩ := hR
  refine ⟨hs, hv, r3.cg (hc.wk ?_) (fun k h => by rcases h with h | h | h | h | h <;> (subst h; exact h1 _ (by decide) (by decide) (by decide))), r4.cg (hc.wk ?_) (hm.wk ?_) (h1 _ (by decide) (by decide) (by decide)), ha, fun r hr => (r6 r hr).cg hs.np.2 (hc.wk ?_) (hm.wk ?_), fun c hc' => (r7 c hc').cg (hc.wk ?_) (hm.wk ?_), r8.cg (hc.wk ?_) (hm.wk ?_) (h1 _ (by decide) (by decide) (by decide)), r9, r10⟩
  · intro s i h; omega
  · intro s i h; omega
  · intro s i h; omega
  · intro s i h; unfold fpR at h; omega
  · intro s i h; unfold fmR at h; omega
  · intro s i h; unfold fpC at h; omega
  · intro s i h; unfold fmC at h; omega
  · intro s i h; omega
  · intro s i h; omega
theorem air_send (hR : RR A n T q hb vw p u a 0 σ μ) (kk fr to l s t ab : Int32) : ∃ m0 σ' mm μ', f_X1_send σ (A 1 0 0) kk fr to = some (A 5 m0 0, σ') ∧ f_X12_send μ kk fr to l s t ab = some (mm, μ') ∧ Sn A n T q hb vw p u a σ μ m0 σ' mm μ' kk fr to l s t ab := by
  have hR' := hR
  obtain ⟨hs, hv, -, -, ⟨h1, h2, h3, h4, h5, h6, h7, h8, h9, h10, h11, h12, h13, h14⟩, -⟩ := hR'
  have hI := hs.1
  have hi := hs.inj
  by_cases ha : a < 200
  · have hpa : p a ≤ 200 := h8 a h1
    have hp : p a < 202 := by omega
    have hua := h12 a ha
    have k1 := hs.k1
    have k5 := hs.k5 hp
    have n1 : oK σ (A 1 0 0) ≠ 9 := by rw [k1]; decide
    have n5 : oK σ (A 5 (p a) 0) ≠ 9 := by rw [k5]; decide
    have hne : p a ≠ p 200 := fun e => by have := h9 _ _ h1 (Nat.le_refl _) e; omega
    have hc : Ag A σ (sI (sI (sI (sI (sI (sI σ (A 1 0 0) 1 (nI (a + 1))) (A 5 (p a) 0) 0 (μ.1 13)) (A 1 0 0) 2 (μ.1 13 + 1)) (A 5 (p a) 0) 1 kk) (A 5 (p a) 0) 2 fr) (A 5 (p a) 0) 3 to) (fun s i => s ≠ 1 ∧ ¬ (s = 5 ∧ i = p a)) := ((((((Ag.sI hI).tr (Ag.sI hI)).tr (Ag.sI hI)).tr (Ag.sI hI)).tr (Ag.sI hI)).tr (Ag.sI hI)).wk (fun s i h => by omega)
    have hm : AgM μ (mT (mT (mT (mT (mT (mT (mT (mT (mT (mT (mS (mT (mS μ 13 (μ.1 13 + 1)) 15 a (nI (u a))) 12 (nI (a + 1))) 17 (u a) (μ.1 13)) 18 (u a) kk) 19 (u a) fr) 20 (u a) to) 21 (u a) l) 22 (u a) s) 23 (u a) t) 24 (u a) ab) 30 (u a) 0) 29 (u a) 0) (fun j i => (j < 15 ∨ 32 ≤ j) ∨ (j = 15 ∧ i < a) ∨ (j = 16) ∨ (j = 31) ∨ (17 ≤ j ∧ i ≠ u a)) := fun j i h => by
      simp only [mT_2, mS_2]
      repeat rw [if_neg (by omega)]
    refine ⟨p a, _, _, _, snd_c hR ha kk fr to, snd_m hR ha kk fr to l s t ab, ⟨hp, hne⟩, hc, hm.wk (fun j i h => Or.inl h), fun k e1 e2 e3 => by simp only [mT_1, mS_1, e1, e2, if_false], Or.inr ⟨ha, rfl, rfl, hua, ?_, ?_, ?_⟩⟩
    · refine hR.air (((((((hs.sI rfl).sI rfl).sI rfl).sI rfl).sI rfl).sI rfl)) ((((((hv.sI n1).sI n5).sI n1).sI n5).sI n5).sI n5) hc (hm.wk (fun j i h => Or.inl h)) (fun k e1 e2 e3 => by simp only [mT_1, mS_1, e1, e2, if_false]) ?_
      refine ⟨by omega, ?_, ?_, ?_, ?_, fun k hk => h6 k hk, h7, h8, h9, fun k hk => ?_, fun k hk hk' => ?_, h12, h13, fun k hk => ?_⟩
      · simp only [oK_sI, oK_sR, oK_sC, oZ_sI, oZ_sR, oZ_sC, xI_sI, oI_sR, xI_sC, oR_sI, xR_sR, oR_sC, Option.bind_some, if_true, if_false, Nat.reduceEqDiff, true_and, and_true, false_and, and_false, hi]
      · simp only [m_P, mT_2, mT_1, mS_1, mS_2, Option.bind_some, Nat.reduceEqDiff, if_true, if_false, true_and, and_true, false_and, and_false]
      · simp only [oK_sI, oK_sR, oK_sC, oZ_sI, oZ_sR, oZ_sC, xI_sI, oI_sR, xI_sC, oR_sI, xR_sR, oR_sC, Option.bind_some, if_true, if_false, Nat.reduceEqDiff, true_and, and_true, false_and, and_false, m_P, mT_2, mT_1, mS_1, mS_2, Option.bind_some, Nat.reduceEqDiff, if_true, if_false, true_and, and_true, false_and, and_false, hi] <;> rfl
      · simp only [oK_sI, oK_sR, oK_sC, oZ_sI, oZ_sR, oZ_sC, xI_sI, oI_sR, xI_sC, oR_sI, xR_sR, oR_sC, Option.bind_some, if_true, if_false, Nat.reduceEqDiff, true_and, and_true, false_and, and_false, m_P, mT_2, mT_1, mS_1, mS_2, Option.bind_some, Nat.reduceEqDiff, if_true, if_false, true_and, and_true, false_and, and_false, hi, h5] <;> rfl
      · by_cases e : k = a
        · subst e
          simp only [m_P, mT_2, mT_1, mS_1, mS_2, Option.bind_some, Nat.reduceEqDiff, if_true, if_false, true_and, and_true, false_and, and_false] <;> rfl
        · rw [hm 15 k (by omega)]
          exact h10 k (by omega)
      · rw [hm 16 _ (by omega)]
        exact h11 k (by omega) hk'
      · have g1 : p k ≠ p a := fun e => by have := h9 _ _ (by omega) h1 e; omega
        have g2 : u k ≠ u a := fun e => by have := h13 _ _ (by omega) (by omega) e; omega
        exact (h14 k (by omega)).cg (hc.wk fun s i h => by unfold fpM at h; omega) (hm.wk fun j i h => by unfold fmM at h; omega)
    · simp only [oK_sI, oK_sR, oK_sC, oZ_sI, oZ_sR, oZ_sC, xI_sI, oI_sR, xI_sC, oR_sI, xR_sR, oR_sC, Option.bind_some, if_true, if_false, Nat.reduceEqDiff, true_and, and_true, false_and, and_false, m_P, mT_2, mT_1, mS_1, mS_2, Option.bind_some, Nat.reduceEqDiff, if_true, if_false, true_and, and_true, false_and, and_false, hi] <;> rfl
    · simp only [m_P, mT_2, mT_1, mS_1, mS_2, Option.bind_some, Nat.reduceEqDiff, if_true, if_false, true_and, and_true, false_and, and_false] <;> rfl
  · have e200 : a = 200 := by omega
    have k1 := hs.k1
    have k5 := hs.k5 (i := 201) (by decide)
    have n1 : oK σ (A 1 0 0) ≠ 9 := by rw [k1]; decide
    have n5 : oK σ (A 5 201 0) ≠ 9 := by rw [k5]; decide
    have hne : 201 ≠ p 200 := fun e => by have := h8 200 (Nat.le_refl _); omega
    have hc : Ag A σ (sI (sI (sI (sI (sI (sI σ (A 1 0 0) 3 (μ.1 14 + 1)) (A 5 201 0) 0 (μ.1 13)) (A 1 0 0) 2 (μ.1 13 + 1)) (A 5 201 0) 1 kk) (A 5 201 0) 2 fr) (A 5 201 0) 3 to) (fun s i => s ≠ 1 ∧ ¬ (s = 5 ∧ i = 201)) := ((((((Ag.sI hI).tr (Ag.sI hI)).tr (Ag.sI hI)).tr (Ag.sI hI)).tr (Ag.sI hI)).tr (Ag.sI hI)).wk (fun s i h => by omega)
    refine ⟨201, _, _, _, snd_cf hR ha kk fr to, snd_mf hR ha kk fr to l s t ab, ⟨by decide, hne⟩, hc, fun j i _ => rfl, fun k e1 e2 e3 => by simp only [mS_1, e2, e3, if_false], Or.inl ⟨e200, rfl, rfl, ?_⟩⟩
    refine hR.air (((((((hs.sI rfl).sI rfl).sI rfl).sI rfl).sI rfl).sI rfl)) ((((((hv.sI n1).sI n5).sI n1).sI n5).sI n5).sI n5) hc (fun j i _ => rfl) (fun k e1 e2 e3 => by simp only [mS_1, e2, e3, if_false]) ?_
    refine ⟨h1, ?_, ?_, ?_, ?_, fun k hk => h6 k hk, h7, h8, h9, h10, h11, h12, h13, fun k hk => ?_⟩
    · simp only [oK_sI, oK_sR, oK_sC, oZ_sI, oZ_sR, oZ_sC, xI_sI, oI_sR, xI_sC, oR_sI, xR_sR, oR_sC, Option.bind_some, if_true, if_false, Nat.reduceEqDiff, true_and, and_true, false_and, and_false, hi, h2] <;> rfl
    · simp only [m_P, mT_2, mT_1, mS_1, mS_2, Option.bind_some, Nat.reduceEqDiff, if_true, if_false, true_and, and_true, false_and, and_false, h3] <;> rfl
    · simp only [oK_sI, oK_sR, oK_sC, oZ_sI, oZ_sR, oZ_sC, xI_sI, oI_sR, xI_sC, oR_sI, xR_sR, oR_sC, Option.bind_some, if_true, if_false, Nat.reduceEqDiff, true_and, and_true, false_and, and_false, m_P, mT_2, mT_1, mS_1, mS_2, Option.bind_some, Nat.reduceEqDiff, if_true, if_false, true_and, and_true, false_and, and_false, hi] <;> rfl
    · simp only [oK_sI, oK_sR, oK_sC, oZ_sI, oZ_sR, oZ_sC, xI_sI, oI_sR, xI_sC, oR_sI, xR_sR, oR_sC, Option.bind_some, if_true, if_false, Nat.reduceEqDiff, true_and, and_true, false_and, and_false, m_P, mT_2, mT_1, mS_1, mS_2, Option.bind_some, Nat.reduceEqDiff, if_true, if_false, true_and, and_true, false_and, and_false, hi] <;> rfl
    · have g1 : p k ≠ 201 := fun e => by have := h8 k (by omega); omega
      exact (h14 k hk).cg (hc.wk fun s i h => by unfold fpM at h; omega) (fun _ _ _ => rfl)
end AIR
