/-! a client hears -/
section HER
variable {A : Ad} {n T q : Nat} {hb : Nat → Nat} {vw : Vw} {p u : Nat → Nat} {a c t nx : Nat} {σ σ' : Hp} {μ μ' : Mu}
theorem RR.acc (hR : RR A n T q hb vw p u a 0 σ μ) (c0 : Nat) (hs : Rs A n σ') (hv : Vok vw σ') (hc : Ag A σ σ' (fun s i => ¬ fpC c0 s i ∧ s ≠ 0 ∧ s ≠ 23)) (hm : AgM μ μ' (fun j i => ¬ fmC c0 j i ∧ ¬ (71 ≤ j ∧ j ≤ 75))) (h1 : ∀ k, k ≠ 70 → μ'.1 k = μ.1 k) (h57 : ∀ i, μ'.2 57 i = μ.2 57 i) (hr0 : Rc A n T q vw σ' μ' c0) (hf : Rf A q vw σ' μ') : RR A n T q hb vw p u a 0 σ' μ' := by
  obtain ⟨r1, r2, r3, r4, r5, r6, r7, r8, r9, r10⟩ := hR
  refine ⟨hs, hv, r3.cg (hc.wk ?_) (fun k h => by rcases h with h | h | h | h | h <;> (subst h; exact h1 _ (by decide))), r4.cg (hc.wk ?_) (fun j i hj => ?_) (h1 _ (by decide)), r5.cg (hc.wk ?_) (hm.wk ?_) ⟨h1 _ (by decide), h1 _ (by decide), h1 _ (by decide)⟩, fun r hr => (r6 r hr).cg hs.np.2 (hc.wk ?_) (hm.wk ?_), fun c hc' => ?_, hf, r9, r10⟩
  · intro s i h; unfold fpC; omega
  · intro s i h; unfold fpC; omega
  · by_cases h : j = 57
    · subst h; exact h57 i
    · exact hm j i (by unfold fmC; omega)
  · intro s i h; unfold fpC; omega
  · intro s i h; unfold fmC; omega
  · intro s i h; unfold fpR at h; unfold fpC; omega
  · intro s i h; unfold fmR at h; unfold fmC; omega
  · by_cases he : c = c0
    · subst he; exact hr0
    · exact (r7 c hc').cg (hc.wk fun s i h => by unfold fpC at h ⊢; omega) (hm.wk fun s i h => by unfold fmC at h ⊢; omega)
/-- the bit of an answer's sender, and the leader's answer -/
theorem pl_bit (hs : Rs A n σ) (hP : PlB A n T vw σ μ c t nx) {pr : Nat} (hpr : pr < t) {l fr b : Nat} (hl64 : l ≤ 64) (hT : T ≤ 64) (hl : μ.2 65 (64 * c + pr) = nI l) (hf7 : fr < 7) (hn7 : l % n < 7) (hb : b < 128) (h68 : μ.2 68 (64 * c + pr) = nI b) {σ2 : Hp} {μ2 : Mu} {ans : Int32} (hc2 : (fr = l % n ∧ σ2 = sI (sI σ (A 41 c 2) (ix t nx pr) (nI (b ||| 2 ^ fr))) (A 41 c 3) (ix t nx pr) ans ∧ μ2 = mT (mT μ 68 (64 * c + pr) (nI (b ||| 2 ^ fr))) 69 (64 * c + pr) ans) ∨ (fr ≠ l % n ∧ σ2 = sI σ (A 41 c 2) (ix t nx pr) (nI (b ||| 2 ^ fr)) ∧ μ2 = mT μ 68 (64 * c + pr) (nI (b ||| 2 ^ fr)))) : PlB A n T vw σ2 μ2 c t nx := by
  have hi := hs.inj
  obtain ⟨b1', b2, b3, b4, b5, b6, b7, b8⟩ := hP
  have hx : ∀ p, p ≠ pr → ¬ 64 * c + p = 64 * c + pr := fun p h => by omega
  have hy : ∀ p, p < t → p ≠ pr → ¬ ix t nx p = ix t nx pr := fun p hp h e => h (ix_inj b1' b2 b6 hp hpr e)
  have ho := (bit_or b hb fr hf7).2
  have htb := bit_tb b hb fr hf7 (l % n) hn7
  obtain ⟨g1, g2, g3, l', bb, g4, g5, g6, g7, g8⟩ := b7 pr hpr
  have e1 : l' = l := (nI_eq (by omega) (by omega)).mp (g5.symm.trans hl)
  have e2 : bb = b := (nI_eq (by omega) (by omega)).mp (g7.symm.trans h68)
  subst e1 e2
  rcases hc2 with ⟨hfr, rfl, rfl⟩ | ⟨hfr, rfl, rfl⟩
  · refine ⟨b1', b2, ?_, ?_, ?_, b6, fun p hp => ?_, fun p p' hp hp' => ?_⟩
    · simp only [m_P, mT_2, mT_1, mS_1, mS_2, Option.bind_some, Nat.reduceEqDiff, if_true, if_false, true_and, and_true, false_and, and_false]; exact b3
    · simp only [oK_sI, oK_sR, oK_sC, oZ_sI, oZ_sR, oZ_sC, xI_sI, oI_sR, xI_sC, oR_sI, xR_sR, oR_sC, Option.bind_some, if_true, if_false, Nat.reduceEqDiff, true_and, and_true, false_and, and_false, hi]; exact b4
    · simp only [oK_sI, oK_sR, oK_sC, oZ_sI, oZ_sR, oZ_sC, xI_sI, oI_sR, xI_sC, oR_sI, xR_sR, oR_sC, Option.bind_some, if_true, if_false, Nat.reduceEqDiff, true_and, and_true, false_and, and_false, hi]; exact b5
    · by_cases hq : p = pr
      · subst hq
        simp only [oK_sI, oK_sR, oK_sC, oZ_sI, oZ_sR, oZ_sC, xI_sI, oI_sR, xI_sC, oR_sI, xR_sR, oR_sC, Option.bind_some, if_true, if_false, Nat.reduceEqDiff, true_and, and_true, false_and, and_false, m_P, mT_2, mT_1, mS_1, mS_2, Option.bind_some, Nat.reduceEqDiff, if_true, if_false, true_and, and_true, false_and, and_false, hi]
        exact ⟨g1, g2, l', bb ||| 2 ^ fr, g4, hl, ho, rfl, fun _ => True.intro⟩
      · simp only [oK_sI, oK_sR, oK_sC, oZ_sI, oZ_sR, oZ_sC, xI_sI, oI_sR, xI_sC, oR_sI, xR_sR, oR_sC, Option.bind_some, if_true, if_false, Nat.reduceEqDiff, true_and, and_true, false_and, and_false, m_P, mT_2, mT_1, mS_1, mS_2, Option.bind_some, Nat.reduceEqDiff, if_true, if_false, true_and, and_true, false_and, and_false, hi, hx p hq, hy p hp hq]
        exact b7 p hp
    · simp only [m_P, mT_2, mT_1, mS_1, mS_2, Option.bind_some, Nat.reduceEqDiff, if_true, if_false, true_and, and_true, false_and, and_false]
      exact b8 p p' hp hp'
  · refine ⟨b1', b2, ?_, ?_, ?_, b6, fun p hp => ?_, fun p p' hp hp' => ?_⟩
    · simp only [m_P, mT_2, mT_1, mS_1, mS_2, Option.bind_some, Nat.reduceEqDiff, if_true, if_false, true_and, and_true, false_and, and_false]; exact b3
    · simp only [oK_sI, oK_sR, oK_sC, oZ_sI, oZ_sR, oZ_sC, xI_sI, oI_sR, xI_sC, oR_sI, xR_sR, oR_sC, Option.bind_some, if_true, if_false, Nat.reduceEqDiff, true_and, and_true, false_and, and_false, hi]; exact b4
    · simp only [oK_sI, oK_sR, oK_sC, oZ_sI, oZ_sR, oZ_sC, xI_sI, oI_sR, xI_sC, oR_sI, xR_sR, oR_sC, Option.bind_some, if_true, if_false, Nat.reduceEqDiff, true_and, and_true, false_and, and_false, hi]; exact b5
    · by_cases hq : p = pr
      · subst hq
        simp only [oK_sI, oK_sR, oK_sC, oZ_sI, oZ_sR, oZ_sC, xI_sI, oI_sR, xI_sC, oR_sI, xR_sR, oR_sC, Option.bind_some, if_true, if_false, Nat.reduceEqDiff, true_and, and_true, false_and, and_false, m_P, mT_2, mT_1, mS_1, mS_2, Option.bind_some, Nat.reduceEqDiff, if_true, if_false, true_and, and_true, false_and, and_false, hi]
        refine ⟨g1, g2, l', bb ||| 2 ^ fr, g4, hl, ho, rfl, fun h => g8 ?_⟩
        rw [htb] at h
        simpa [show ¬ l' % n = fr from fun e => hfr e.symm] using h
      · simp only [oK_sI, oK_sR, oK_sC, oZ_sI, oZ_sR, oZ_sC, xI_sI, oI_sR, xI_sC, oR_sI, xR_sR, oR_sC, Option.bind_some, if_true, if_false, Nat.reduceEqDiff, true_and, and_true, false_and, and_false, m_P, mT_2, mT_1, mS_1, mS_2, Option.bind_some, Nat.reduceEqDiff, if_true, if_false, true_and, and_true, false_and, and_false, hi, hx p hq, hy p hp hq]
        exact b7 p hp
    · simp only [m_P, mT_2, mT_1, mS_1, mS_2, Option.bind_some, Nat.reduceEqDiff, if_true, if_false, true_and, and_true, false_and, and_false]
      exact b8 p p' hp hp'
theorem acc_c (hs : Rs A n σ) (hc : c < 4) {f w : Nat} {slot req y : Int32} (hf : f < 199) (hw : oK σ w = 9) (f2 : oI σ (A 0 0 0) 0 = nI f) (f3 : oI σ (A 0 0 0) 6 = nI f) (f4 : oI σ (A 0 0 0) 7 = nI f) (hid : oI σ (A 2 c 0) 1 = req) : ((h_gR (sI (sI (sR (sI σ (A 2 c 0) 2 2) (A 2 c 0) 3 w) (A 2 c 0) 4 slot) (A 2 c 0) 5 y) 11 (A 11 0 0) 6).bind fun v28 => (h_gI (sI (sI (sR (sI σ (A 2 c 0) 2 2) (A 2 c 0) 3 w) (A 2 c 0) 4 slot) (A 2 c 0) 5 y) 2 (A 2 c 0) 1).bind fun v32 => (h_gR (sI (sI (sR (sI σ (A 2 c 0) 2 2) (A 2 c 0) 3 w) (A 2 c 0) 4 slot) (A 2 c 0) 5 y) 2 (A 2 c 0) 3).bind fun v36 => (h_gI (sI (sI (sR (sI σ (A 2 c 0) 2 2) (A 2 c 0) 3 w) (A 2 c 0) 4 slot) (A 2 c 0) 5 y) 2 (A 2 c 0) 4).bind fun v40 => (h_gI (sI (sI (sR (sI σ (A 2 c 0) 2 2) (A 2 c 0) 3 w) (A 2 c 0) 4 slot) (A 2 c 0) 5 y) 2 (A 2 c 0) 5).bind fun v44 => (h_gO (sI (sI (sR (sI σ (A 2 c 0) 2 2) (A 2 c 0) 3 w) (A 2 c 0) 4 slot) (A 2 c 0) 5 y) 0 v28).bind fun _ => (f_X0_add (sI (sI (sR (sI σ (A 2 c 0) 2 2) (A 2 c 0) 3 w) (A 2 c 0) 4 slot) (A 2 c 0) 5 y) v28 v32 v36 v40 v44).bind fun v47 => some v47) = some (sI (sI (sI (sI (sI (sR (sI (sI (sI (sR (sI σ (A 2 c 0) 2 2) (A 2 c 0) 3 w) (A 2 c 0) 4 slot) (A 2 c 0) 5 y) (A 23 0 0) f req) (A 23 1 0) f w) (A 23 2 0) f slot) (A 23 3 0) f y) (A 0 0 0) 7 (nI (f + 1))) (A 0 0 0) 6 (nI (f + 1))) (A 0 0 0) 0 (nI (f + 1))) := by
  have hi := hs.inj
  have k2 := hs.k2 hc
  have k0 := hs.k0
  have k11 := hs.k11
  have k230 : oK σ (A 23 0 0) = 13 := hs.k23 (by decide)
  have k231 : oK σ (A 23 1 0) = 19 := hs.k23 (by decide)
  have k232 : oK σ (A 23 2 0) = 13 := hs.k23 (by decide)
  have k233 : oK σ (A 23 3 0) = 13 := hs.k23 (by decide)
  have z230 : oZ σ (A 23 0 0) = 200 := hs.z23 (by decide)
  have z231 : oZ σ (A 23 1 0) = 200 := hs.z23 (by decide)
  have z232 : oZ σ (A 23 2 0) = 200 := hs.z23 (by decide)
  have z233 : oZ σ (A 23 3 0) = 200 := hs.z23 (by decide)
  have hf200 : f < 200 := by omega
  have e200 : nI (f + 1) - nI (f + 1) / (200 : Int32) * (200 : Int32) = nI (f + 1) := by
    rw [l200, pk_rem (by omega) (by omega) (by omega), Nat.mod_eq_of_lt (by omega)]
  have emin : f_J9_min_7cf53 (nI (f + 1)) (200 : Int32) = some (nI (f + 1)) := by
    rw [l200]
    unfold f_J9_min_7cf53
    rw [if_neg (fun e => by rw [nI_ltI (by omega) (by omega)] at e; omega)]
  simp only [f_X0_add, x_gI, x_gR, x_gO, x_pI, x_pR, x_aI, x_aR, x_qI, x_qR, x_aL, oK_sI, oK_sR, oK_sC, oZ_sI, oZ_sR, oZ_sC, xI_sI, oI_sR, xI_sC, oR_sI, xR_sR, oR_sC, Option.bind_some, if_true, if_false, Nat.reduceEqDiff, true_and, and_true, false_and, and_false, k2, k0, k11, hw, k230, k231, k232, k233, z230, z231, z232, z233, hi, hs.r11_6, hs.r0_1, hs.r0_2, hs.r0_3, hs.r0_4, f2, f3, f4, hid, hf200, e200, emin, nI_1, Nat.reduceLT]
theorem acc_m (hc : c < 4) {f pr : Nat} {L S slot req y : Int32} (hf : f < 199) (hz : 64 * c + pr < 256) (f1 : μ.1 70 = nI f) (h69 : μ.2 69 (64 * c + pr) = y) : ((m_Q μ 59 (nI c) (2 : Int32)).bind fun s228 => (m_Q s228 60 (nI c) slot).bind fun s236 => (m_Q s236 61 (nI c) L).bind fun s243 => (m_Q s243 62 (nI c) S).bind fun s251 => (m_A s251 69 (nI (64 * c + pr))).bind fun v263 => (m_Q s251 63 (nI c) v263).bind fun s264 => (m_Q s264 71 ((s264.1 70) - (s264.1 70) / (200 : Int32) * (200 : Int32)) req).bind fun s283 => (m_Q s283 72 ((s264.1 70) - (s264.1 70) / (200 : Int32) * (200 : Int32)) L).bind fun s291 => (m_Q s291 73 ((s264.1 70) - (s264.1 70) / (200 : Int32) * (200 : Int32)) S).bind fun s300 => (m_Q s300 74 ((s264.1 70) - (s264.1 70) / (200 : Int32) * (200 : Int32)) slot).bind fun s309 => (m_A s309 63 (nI c)).bind fun v321 => (m_Q s309 75 ((s264.1 70) - (s264.1 70) / (200 : Int32) * (200 : Int32)) v321).bind fun s322 => (m_P s322 70 ((s322.1 70) + (1 : Int32))).bind fun s330 => some s330) = some (mS (mT (mT (mT (mT (mT (mT (mT (mT (mT (mT μ 59 c 2) 60 c slot) 61 c L) 62 c S) 63 c y) 71 f req) 72 f L) 73 f S) 74 f slot) 75 f y) 70 (nI (f + 1))) := by
  have hf200 : f < 200 := by omega
  have e200' : nI f - nI f / (200 : Int32) * (200 : Int32) = nI f := by
    rw [l200, pk_rem (by omega) (by omega) (by omega), Nat.mod_eq_of_lt (by omega)]
  simp only [mA_n, mQ_n, m_P, mT_2, mT_1, mS_1, mS_2, mZ, Option.bind_some, if_true, if_false, true_and, and_true, false_and, and_false, Nat.reduceEqDiff, Nat.reduceLT, hc, hz, f1, e200', hf200, nI_1, h69]
theorem acc_R (hR : RR A n T q hb vw p u a 0 σ μ) (hc : c < 4) (hP : PlB A n T vw σ μ c t nx) {f w : Nat} {L S slot req y : Int32} (hf : f < 199) (f1 : μ.1 70 = nI f) (hvw : vw w = some (L, S)) (hsl : Rid 100 slot) (h59 : μ.2 59 c = 1) (h58 : μ.2 58 c = req) : RR A n T q hb vw p u a 0 (sI (sI (sI (sI (sI (sR (sI (sI (sI (sR (sI σ (A 2 c 0) 2 2) (A 2 c 0) 3 w) (A 2 c 0) 4 slot) (A 2 c 0) 5 y) (A 23 0 0) f req) (A 23 1 0) f w) (A 23 2 0) f slot) (A 23 3 0) f y) (A 0 0 0) 7 (nI (f + 1))) (A 0 0 0) 6 (nI (f + 1))) (A 0 0 0) 0 (nI (f + 1))) (mS (mT (mT (mT (mT (mT (mT (mT (mT (mT (mT μ 59 c 2) 60 c slot) 61 c L) 62 c S) 63 c y) 71 f req) 72 f L) 73 f S) 74 f slot) 75 f y) 70 (nI (f + 1))) := by
  have hs := hR.1
  have hv := hR.2.1
  have hi := hs.inj
  have hq : q ≤ 64 := hR.2.2.2.2.2.2.2.2.1
  obtain ⟨b1', b2, b3, b4, b5, b6, b7, b8⟩ := hP
  obtain ⟨f', g1, g2, g3, g4, f5, f6⟩ := hR.2.2.2.2.2.2.2.1
  have hop : opn μ c = 1 := by unfold opn; rw [if_pos h59]
  have hfq : f' + 1 ≤ q := by
    rcases (show c = 0 ∨ c = 1 ∨ c = 2 ∨ c = 3 by omega) with e | e | e | e <;> subst e <;> omega
  have e : f' = f := (nI_eq (by omega) (by omega)).mp (g1.symm.trans f1)
  subst e
  obtain ⟨⟨q1, q2, q3, q4, q5, q6⟩, -⟩ := (hR.2.2.2.2.2.2.1 c hc).sp
  have k2 := hs.k2 hc
  have k0 := hs.k0
  have k230 : oK σ (A 23 0 0) = 13 := hs.k23 (by decide)
  have k232 : oK σ (A 23 2 0) = 13 := hs.k23 (by decide)
  have k233 : oK σ (A 23 3 0) = 13 := hs.k23 (by decide)
  have n2 : oK σ (A 2 c 0) ≠ 9 := by rw [k2]; decide
  have n0 : oK σ (A 0 0 0) ≠ 9 := by rw [k0]; decide
  have n230 : oK σ (A 23 0 0) ≠ 9 := by rw [k230]; decide
  have n232 : oK σ (A 23 2 0) ≠ 9 := by rw [k232]; decide
  have n233 : oK σ (A 23 3 0) ≠ 9 := by rw [k233]; decide
  have a1' : Rs A n (sI (sI (sR (sI σ (A 2 c 0) 2 2) (A 2 c 0) 3 w) (A 2 c 0) 4 slot) (A 2 c 0) 5 y) := (((hs.sI rfl).sR rfl).sI rfl).sI rfl
  have a2' : Vok vw (sI (sI (sR (sI σ (A 2 c 0) 2 2) (A 2 c 0) 3 w) (A 2 c 0) 4 slot) (A 2 c 0) 5 y) := (((hv.sI n2).sR).sI n2).sI n2
  have a3' : Ag A σ (sI (sI (sR (sI σ (A 2 c 0) 2 2) (A 2 c 0) 3 w) (A 2 c 0) 4 slot) (A 2 c 0) 5 y) (fun s i => ¬ fpC c s i ∧ s ≠ 0 ∧ s ≠ 23) := ((((Ag.sI hs.1).tr (Ag.sR hs.1)).tr (Ag.sI hs.1)).tr (Ag.sI hs.1)).wk fun s i h => by unfold fpC at h; omega
  have d1' : Rs A n (sI (sI (sR (sI (sI (sI (sR (sI σ (A 2 c 0) 2 2) (A 2 c 0) 3 w) (A 2 c 0) 4 slot) (A 2 c 0) 5 y) (A 23 0 0) f' req) (A 23 1 0) f' w) (A 23 2 0) f' slot) (A 23 3 0) f' y) := (((a1'.sI rfl).sR rfl).sI rfl).sI rfl
  have d2' : Vok vw (sI (sI (sR (sI (sI (sI (sR (sI σ (A 2 c 0) 2 2) (A 2 c 0) 3 w) (A 2 c 0) 4 slot) (A 2 c 0) 5 y) (A 23 0 0) f' req) (A 23 1 0) f' w) (A 23 2 0) f' slot) (A 23 3 0) f' y) := (((a2'.sI n230).sR).sI n232).sI n233
  have d3' : Ag A (sI (sI (sR (sI σ (A 2 c 0) 2 2) (A 2 c 0) 3 w) (A 2 c 0) 4 slot) (A 2 c 0) 5 y) (sI (sI (sR (sI (sI (sI (sR (sI σ (A 2 c 0) 2 2) (A 2 c 0) 3 w) (A 2 c 0) 4 slot) (A 2 c 0) 5 y) (A 23 0 0) f' req) (A 23 1 0) f' w) (A 23 2 0) f' slot) (A 23 3 0) f' y) (fun s i => ¬ fpC c s i ∧ s ≠ 0 ∧ s ≠ 23) := ((((Ag.sI hs.1).tr (Ag.sR hs.1)).tr (Ag.sI hs.1)).tr (Ag.sI hs.1)).wk fun s i h => by unfold fpC at h; omega
  have f1' : Rs A n (sI (sI (sI (sI (sI (sR (sI (sI (sI (sR (sI σ (A 2 c 0) 2 2) (A 2 c 0) 3 w) (A 2 c 0) 4 slot) (A 2 c 0) 5 y) (A 23 0 0) f' req) (A 23 1 0) f' w) (A 23 2 0) f' slot) (A 23 3 0) f' y) (A 0 0 0) 7 (nI (f' + 1))) (A 0 0 0) 6 (nI (f' + 1))) (A 0 0 0) 0 (nI (f' + 1))) := ((d1'.sI rfl).sI rfl).sI rfl
  have f2' : Vok vw (sI (sI (sI (sI (sI (sR (sI (sI (sI (sR (sI σ (A 2 c 0) 2 2) (A 2 c 0) 3 w) (A 2 c 0) 4 slot) (A 2 c 0) 5 y) (A 23 0 0) f' req) (A 23 1 0) f' w) (A 23 2 0) f' slot) (A 23 3 0) f' y) (A 0 0 0) 7 (nI (f' + 1))) (A 0 0 0) 6 (nI (f' + 1))) (A 0 0 0) 0 (nI (f' + 1))) := ((d2'.sI n0).sI n0).sI n0
  have f3' : Ag A (sI (sI (sR (sI (sI (sI (sR (sI σ (A 2 c 0) 2 2) (A 2 c 0) 3 w) (A 2 c 0) 4 slot) (A 2 c 0) 5 y) (A 23 0 0) f' req) (A 23 1 0) f' w) (A 23 2 0) f' slot) (A 23 3 0) f' y) (sI (sI (sI (sI (sI (sR (sI (sI (sI (sR (sI σ (A 2 c 0) 2 2) (A 2 c 0) 3 w) (A 2 c 0) 4 slot) (A 2 c 0) 5 y) (A 23 0 0) f' req) (A 23 1 0) f' w) (A 23 2 0) f' slot) (A 23 3 0) f' y) (A 0 0 0) 7 (nI (f' + 1))) (A 0 0 0) 6 (nI (f' + 1))) (A 0 0 0) 0 (nI (f' + 1))) (fun s i => ¬ fpC c s i ∧ s ≠ 0 ∧ s ≠ 23) := (((Ag.sI hs.1).tr (Ag.sI hs.1)).tr (Ag.sI hs.1)).wk fun s i h => by unfold fpC at h; omega
  have g3' : Ag A σ (sI (sI (sI (sI (sI (sR (sI (sI (sI (sR (sI σ (A 2 c 0) 2 2) (A 2 c 0) 3 w) (A 2 c 0) 4 slot) (A 2 c 0) 5 y) (A 23 0 0) f' req) (A 23 1 0) f' w) (A 23 2 0) f' slot) (A 23 3 0) f' y) (A 0 0 0) 7 (nI (f' + 1))) (A 0 0 0) 6 (nI (f' + 1))) (A 0 0 0) 0 (nI (f' + 1))) (fun s i => ¬ fpC c s i ∧ s ≠ 0 ∧ s ≠ 23) := ((a3'.tr d3').tr f3').wk fun s i h => ⟨⟨h, h⟩, h⟩
  have hid : oI σ (A 2 c 0) 1 = req := q2.1.trans h58
  refine hR.acc c f1' f2' g3' (fun j i h => ?_) (fun k hk => by simp only [mT_1, mS_1, hk, if_false]) (fun i => by simp only [m_P, mT_2, mT_1, mS_1, mS_2, Option.bind_some, Nat.reduceEqDiff, if_true, if_false, true_and, and_true, false_and, and_false]) (Rc.mk ?_ (t := t) (nx := nx) ?_) ?_
  · unfold fmC at h
    simp only [mS_2, mT_2]
    repeat rw [if_neg (by omega)]
  · unfold RcS
    simp only [oK_sI, oK_sR, oK_sC, oZ_sI, oZ_sR, oZ_sC, xI_sI, oI_sR, xI_sC, oR_sI, xR_sR, oR_sC, Option.bind_some, if_true, if_false, Nat.reduceEqDiff, true_and, and_true, false_and, and_false, m_P, mT_2, mT_1, mS_1, mS_2, Option.bind_some, Nat.reduceEqDiff, if_true, if_false, true_and, and_true, false_and, and_false, hi, hid, h58]
    refine ⟨q1, by rw [← h58]; exact q2.2, ⟨2, by decide, rfl⟩, fun _ => ?_, fun _ => ⟨w, rfl, hvw⟩⟩
    rw [← h58]
    exact q4 (by rw [h59]; decide)
  · unfold PlB
    simp only [oK_sI, oK_sR, oK_sC, oZ_sI, oZ_sR, oZ_sC, xI_sI, oI_sR, xI_sC, oR_sI, xR_sR, oR_sC, Option.bind_some, if_true, if_false, Nat.reduceEqDiff, true_and, and_true, false_and, and_false, m_P, mT_2, mT_1, mS_1, mS_2, Option.bind_some, Nat.reduceEqDiff, if_true, if_false, true_and, and_true, false_and, and_false, hi]
    exact ⟨b1', b2, b3, b4, b5, b6, b7, b8⟩
  · refine ⟨f' + 1, ?_, ?_, ?_, ?_, ?_, fun k hk => ?_⟩
    · simp only [m_P, mT_2, mT_1, mS_1, mS_2, Option.bind_some, Nat.reduceEqDiff, if_true, if_false, true_and, and_true, false_and, and_false]
    · simp only [oK_sI, oK_sR, oK_sC, oZ_sI, oZ_sR, oZ_sC, xI_sI, oI_sR, xI_sC, oR_sI, xR_sR, oR_sC, Option.bind_some, if_true, if_false, Nat.reduceEqDiff, true_and, and_true, false_and, and_false, hi]
    · simp only [oK_sI, oK_sR, oK_sC, oZ_sI, oZ_sR, oZ_sC, xI_sI, oI_sR, xI_sC, oR_sI, xR_sR, oR_sC, Option.bind_some, if_true, if_false, Nat.reduceEqDiff, true_and, and_true, false_and, and_false, hi]
    · simp only [oK_sI, oK_sR, oK_sC, oZ_sI, oZ_sR, oZ_sC, xI_sI, oI_sR, xI_sC, oR_sI, xR_sR, oR_sC, Option.bind_some, if_true, if_false, Nat.reduceEqDiff, true_and, and_true, false_and, and_false, hi]
    · have ho : ∀ c', opn (mS (mT (mT (mT (mT (mT (mT (mT (mT (mT (mT μ 59 c 2) 60 c slot) 61 c L) 62 c S) 63 c y) 71 f' req) 72 f' L) 73 f' S) 74 f' slot) 75 f' y) 70 (nI (f' + 1))) c' = if c' = c then 0 else opn μ c' := fun c' => by
        unfold opn
        simp only [m_P, mT_2, mT_1, mS_1, mS_2, Option.bind_some, Nat.reduceEqDiff, if_true, if_false, true_and, and_true, false_and, and_false]
        by_cases e : c' = c
        · rw [if_pos e, if_pos e]
          exact if_neg (by decide)
        · rw [if_neg e, if_neg e]
      rw [ho, ho, ho, ho]
      rcases (show c = 0 ∨ c = 1 ∨ c = 2 ∨ c = 3 by omega) with e | e | e | e <;> subst e <;> simp <;> omega
    · by_cases e : k = f'
      · subst e
        simp only [oK_sI, oK_sR, oK_sC, oZ_sI, oZ_sR, oZ_sC, xI_sI, oI_sR, xI_sC, oR_sI, xR_sR, oR_sC, Option.bind_some, if_true, if_false, Nat.reduceEqDiff, true_and, and_true, false_and, and_false, m_P, mT_2, mT_1, mS_1, mS_2, Option.bind_some, Nat.reduceEqDiff, if_true, if_false, true_and, and_true, false_and, and_false, hi]
        refine ⟨?_, ⟨w, rfl, hvw⟩, hsl⟩
        rw [← h58]
        exact q4 (by rw [h59]; decide)
      · simp only [oK_sI, oK_sR, oK_sC, oZ_sI, oZ_sR, oZ_sC, xI_sI, oI_sR, xI_sC, oR_sI, xR_sR, oR_sC, Option.bind_some, if_true, if_false, Nat.reduceEqDiff, true_and, and_true, false_and, and_false, m_P, mT_2, mT_1, mS_1, mS_2, Option.bind_some, Nat.reduceEqDiff, if_true, if_false, true_and, and_true, false_and, and_false, hi, e]
        exact f6 k (by omega)
end HER
