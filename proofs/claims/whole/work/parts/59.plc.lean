/-! a client's place: found or made -/
def PlB (A : Ad) (n T : Nat) (vw : Vw) (σ : Hp) (μ : Mu) (c t nx : Nat) : Prop := t ≤ 64 ∧ nx < 64 ∧ μ.2 64 c = nI t ∧ oI σ (A 2 c 0) 11 = nI t ∧ oI σ (A 2 c 0) 12 = nI nx ∧ (t < 64 → nx = t) ∧ (∀ p, p < t → VwR vw (oR σ (A 41 c 0) (ix t nx p)) (μ.2 65 (64 * c + p)) (μ.2 66 (64 * c + p)) ∧ oI σ (A 41 c 1) (ix t nx p) = μ.2 67 (64 * c + p) ∧ oI σ (A 41 c 2) (ix t nx p) = μ.2 68 (64 * c + p) ∧ ∃ l b, l ≤ T ∧ μ.2 65 (64 * c + p) = nI l ∧ b < 128 ∧ μ.2 68 (64 * c + p) = nI b ∧ (b.testBit (l % n) = true → oI σ (A 41 c 3) (ix t nx p) = μ.2 69 (64 * c + p))) ∧ ∀ p p', p < t → p' < t → μ.2 65 (64 * c + p) = μ.2 65 (64 * c + p') → μ.2 66 (64 * c + p) = μ.2 66 (64 * c + p') → μ.2 67 (64 * c + p) = μ.2 67 (64 * c + p') → p = p'
/-- all of a client but its places -/
def RcS (A : Ad) (q : Nat) (vw : Vw) (σ : Hp) (μ : Mu) (c : Nat) : Prop := (oI σ (A 2 c 0) 0 = μ.2 57 c ∧ Sm q (μ.2 57 c)) ∧ (oI σ (A 2 c 0) 1 = μ.2 58 c ∧ Sm q (μ.2 58 c)) ∧ (oI σ (A 2 c 0) 2 = μ.2 59 c ∧ Sm 2 (μ.2 59 c)) ∧ (¬ μ.2 59 c = 0 → Rid q (μ.2 58 c)) ∧
  (μ.2 59 c = 2 → VwR vw (oR σ (A 2 c 0) 3) (μ.2 61 c) (μ.2 62 c)) ∧ (oI σ (A 2 c 0) 4 = μ.2 60 c ∧ oI σ (A 2 c 0) 5 = μ.2 63 c)
section PLD
variable {A : Ad} {n T q : Nat} {hb : Nat → Nat} {vw : Vw} {p u : Nat → Nat} {a c t nx : Nat} {σ σ' : Hp} {μ μ' : Mu}
theorem Rc.sp (h : Rc A n T q vw σ μ c) : RcS A q vw σ μ c ∧ ∃ t nx, PlB A n T vw σ μ c t nx := by
  obtain ⟨a1, a2, a3, a4, a5, a6, t, nx, b1', b2, b3, b4, b5, b6, b7, b8⟩ := h
  refine ⟨⟨a1, a2, a3, a4, a5, a6⟩, t, nx, b1', b2, b3, b4, b5, b6, fun p hp => ?_, fun p p' hp hp' e1 e2 e3 => ?_⟩
  · have h := b7 p hp
    simp only [rwM_at (show p < 64 by omega)] at h
    exact h
  · have h := b8 p p' hp hp'
    simp only [rwM_at (show p < 64 by omega), rwM_at (show p' < 64 by omega)] at h
    exact h e1 e2 e3
theorem Rc.mk (h1 : RcS A q vw σ μ c) (h2 : PlB A n T vw σ μ c t nx) : Rc A n T q vw σ μ c := by
  obtain ⟨a1, a2, a3, a4, a5, a6⟩ := h1
  obtain ⟨b1', b2, b3, b4, b5, b6, b7, b8⟩ := h2
  refine ⟨a1, a2, a3, a4, a5, a6, t, nx, b1', b2, b3, b4, b5, b6, fun p hp => ?_, fun p p' hp hp' => ?_⟩
  · have h := b7 p hp
    simp only [rwM_at (show p < 64 by omega)]
    exact h
  · have h := b8 p p' hp hp'
    simp only [rwM_at (show p < 64 by omega), rwM_at (show p' < 64 by omega)]
    exact h
theorem RcS.cg (h : RcS A q vw σ μ c) (h1 : ∀ k, k < 11 → oI σ' (A 2 c 0) k = oI σ (A 2 c 0) k) (h2 : oR σ' (A 2 c 0) = oR σ (A 2 c 0)) (h3 : ∀ j, 57 ≤ j → j ≤ 63 → μ'.2 j c = μ.2 j c) : RcS A q vw σ' μ' c := by
  unfold RcS at h ⊢
  rw [h1 0 (by decide), h1 1 (by decide), h1 2 (by decide), h1 4 (by decide), h1 5 (by decide), h2, h3 57 (by decide) (by decide), h3 58 (by decide) (by decide), h3 59 (by decide) (by decide), h3 60 (by decide) (by decide), h3 61 (by decide) (by decide), h3 62 (by decide) (by decide), h3 63 (by decide) (by decide)]
  exact h
/-- a new place, behind t0 of the elder ones -/
theorem pl_new (hs : Rs A n σ) (hv : Vok vw σ) (hc : c < 4) (hP : PlB A n T vw σ μ c t nx) {w : Nat} {L S : Int32} (hvw : vw w = some (L, S)) {l : Nat} (hl : L = nI l) (hlT : l ≤ T) {slot : Int32} (hno : ∀ p, p < t → ¬ (μ.2 65 (64 * c + p) = L ∧ μ.2 66 (64 * c + p) = S ∧ μ.2 67 (64 * c + p) = slot)) {t0 : Nat} (ht0 : t0 < 64) {μb : Mu} (sh : Nat → Nat) (hsh : ∀ p, p < t0 → sh p < t ∧ ix (t0 + 1) ((nx + 1) % 64) p = ix t nx (sh p) ∧ ix t nx (sh p) ≠ nx ∧ ∀ j, 65 ≤ j → j ≤ 69 → μb.2 j (64 * c + p) = μ.2 j (64 * c + sh p)) (hsi : ∀ p p', p < t0 → p' < t0 → sh p = sh p' → p = p') (h0 : ix (t0 + 1) ((nx + 1) % 64) t0 = nx) (h1 : t0 + 1 < 64 → (nx + 1) % 64 = t0 + 1) : PlB A n T vw (sI (sI (sI (sR (sI (sI σ (A 2 c 0) 12 (nI ((nx + 1) % 64))) (A 2 c 0) 11 (nI (t0 + 1))) (A 41 c 0) nx w) (A 41 c 1) nx slot) (A 41 c 2) nx 0) (A 41 c 3) nx 0) (mT (mT (mT (mT (mT μb 64 c (nI (t0 + 1))) 65 (64 * c + t0) L) 66 (64 * c + t0) S) 67 (64 * c + t0) slot) 68 (64 * c + t0) 0) c (t0 + 1) ((nx + 1) % 64) := by
  have hi := hs.inj
  obtain ⟨b1', b2, b3, b4, b5, b6, b7, b8⟩ := hP
  refine ⟨by omega, Nat.mod_lt _ (by decide), ?_, ?_, ?_, h1, fun p hp => ?_, fun p p' hp hp' e1 e2 e3 => ?_⟩
  · simp only [m_P, mT_2, mT_1, mS_1, mS_2, Option.bind_some, Nat.reduceEqDiff, if_true, if_false, true_and, and_true, false_and, and_false]
  · simp only [oK_sI, oK_sR, oK_sC, oZ_sI, oZ_sR, oZ_sC, xI_sI, oI_sR, xI_sC, oR_sI, xR_sR, oR_sC, Option.bind_some, if_true, if_false, Nat.reduceEqDiff, true_and, and_true, false_and, and_false, hi]
  · simp only [oK_sI, oK_sR, oK_sC, oZ_sI, oZ_sR, oZ_sC, xI_sI, oI_sR, xI_sC, oR_sI, xR_sR, oR_sC, Option.bind_some, if_true, if_false, Nat.reduceEqDiff, true_and, and_true, false_and, and_false, hi]
  · by_cases c1 : p = t0
    · subst c1
      rw [h0]
      simp only [oK_sI, oK_sR, oK_sC, oZ_sI, oZ_sR, oZ_sC, xI_sI, oI_sR, xI_sC, oR_sI, xR_sR, oR_sC, Option.bind_some, if_true, if_false, Nat.reduceEqDiff, true_and, and_true, false_and, and_false, m_P, mT_2, mT_1, mS_1, mS_2, Option.bind_some, Nat.reduceEqDiff, if_true, if_false, true_and, and_true, false_and, and_false, hi]
      exact ⟨⟨w, rfl, hvw⟩, l, 0, hlT, hl, by decide, rfl, fun h => by rw [Nat.zero_testBit] at h; exact absurd h (by decide)⟩
    · obtain ⟨g1, g2, g3, g4⟩ := hsh p (by omega)
      have c2 : ¬ 64 * c + p = 64 * c + t0 := by omega
      rw [g2]
      simp only [oK_sI, oK_sR, oK_sC, oZ_sI, oZ_sR, oZ_sC, xI_sI, oI_sR, xI_sC, oR_sI, xR_sR, oR_sC, Option.bind_some, if_true, if_false, Nat.reduceEqDiff, true_and, and_true, false_and, and_false, m_P, mT_2, mT_1, mS_1, mS_2, Option.bind_some, Nat.reduceEqDiff, if_true, if_false, true_and, and_true, false_and, and_false, hi, g3, c2, g4 65 (by decide) (by decide), g4 66 (by decide) (by decide), g4 67 (by decide) (by decide), g4 68 (by decide) (by decide), g4 69 (by decide) (by decide)]
      exact b7 _ g1
  · have hx : ∀ p, ¬ p = t0 → ¬ 64 * c + p = 64 * c + t0 := fun p h => by omega
    by_cases c1 : p = t0
    · by_cases c2 : p' = t0
      · omega
      · exfalso
        obtain ⟨g1, g2, g3, g4⟩ := hsh p' (by omega)
        simp only [m_P, mT_2, mT_1, mS_1, mS_2, Option.bind_some, Nat.reduceEqDiff, if_true, if_false, true_and, and_true, false_and, and_false, c1, hx p' c2, g4 65 (by decide) (by decide), g4 66 (by decide) (by decide), g4 67 (by decide) (by decide)] at e1 e2 e3
        exact hno _ g1 ⟨e1.symm, e2.symm, e3.symm⟩
    · obtain ⟨f1, f2, f3, f4⟩ := hsh p (by omega)
      by_cases c2 : p' = t0
      · exfalso
        simp only [m_P, mT_2, mT_1, mS_1, mS_2, Option.bind_some, Nat.reduceEqDiff, if_true, if_false, true_and, and_true, false_and, and_false, c2, hx p c1, f4 65 (by decide) (by decide), f4 66 (by decide) (by decide), f4 67 (by decide) (by decide)] at e1 e2 e3
        exact hno _ f1 ⟨e1, e2, e3⟩
      · obtain ⟨g1, g2, g3, g4⟩ := hsh p' (by omega)
        simp only [m_P, mT_2, mT_1, mS_1, mS_2, Option.bind_some, Nat.reduceEqDiff, if_true, if_false, true_and, and_true, false_and, and_false, hx p c1, hx p' c2, f4 65 (by decide) (by decide), f4 66 (by decide) (by decide), f4 67 (by decide) (by decide), g4 65 (by decide) (by decide), g4 66 (by decide) (by decide), g4 67 (by decide) (by decide)] at e1 e2 e3
        exact hsi p p' (by omega) (by omega) (b8 _ _ f1 g1 e1 e2 e3)
/-- the place of an answer: both sides -/
theorem cl_place (hR : RR A n T q hb vw p u a 0 σ μ) (hc : c < 4) {w : Nat} {L S : Int32} (hvw : vw w = some (L, S)) {l : Nat} (hl : L = nI l) (hlT : l ≤ T) (slot x2 x6 x7 x8 : Int32) : ∃ σ' μ' t' nx' pr, f_X2_placeOf σ (A 2 c 0) w slot = some (nI (ix t' nx' pr), σ') ∧ f_X12_replied_41 lf μ (nI c) x2 L S slot x6 x7 x8 ((64 : Int32) * nI c) (((64 : Int32) * nI c) + μ.2 64 c) = f_X12_replied_158 μ' (nI c) x2 L S slot x6 x7 x8 (nI (64 * c + pr)) ∧ pr < t' ∧ PlB A n T vw σ' μ' c t' nx' ∧ μ'.2 65 (64 * c + pr) = L ∧ RR A n T q hb vw p u a 0 σ' μ' ∧ Ag A σ σ' (fun s i => ¬ fpC c s i) ∧ AgM μ μ' (fun j i => ¬ (j = 64 ∧ i = c) ∧ ¬ (65 ≤ j ∧ j ≤ 69 ∧ 64 * c ≤ i ∧ i < 64 * c + 64)) ∧ μ'.1 = μ.1 ∧ (∀ k, k < 11 → oI σ' (A 2 c 0) k = oI σ (A 2 c 0) k) ∧ oR σ' (A 2 c 0) = oR σ (A 2 c 0) := by
  have hs := hR.1
  have hv := hR.2.1
  have hi := hs.inj
  obtain ⟨rS, t, nx, hP⟩ := (hR.2.2.2.2.2.2.1 c hc).sp
  have hP' := hP
  obtain ⟨b1', b2, b3, b4, b5, b6, b7, b8⟩ := hP'
  have hwv : IsV σ w L S := hv w L S hvw
  have hix : ∀ i, i < t → ix t nx (pix t nx i) = i := fun i h => ix_pix b1' b2 b6 h
  have hpt : ∀ i, i < t → pix t nx i < t := fun i h => pix_t b1' b2 b6 h
  have hC := pl_c hs hc hv b1' b4 (fun i => μ.2 65 (64 * c + pix t nx i)) (fun i => μ.2 66 (64 * c + pix t nx i)) (fun i h => by have := (b7 _ (hpt i h)).1; rw [hix i h] at this; exact this) hwv slot t lf 0 (by unfold lf; omega) (by omega)
  have hM := pl_m (μ := μ) hc b1' x2 L S slot x6 x7 x8 t lf 0 (by unfold lf; omega) (by omega)
  have hm0 : f_X12_replied_41 lf μ (nI c) x2 L S slot x6 x7 x8 ((64 : Int32) * nI c) (((64 : Int32) * nI c) + μ.2 64 c) = f_X12_replied_41 lf μ (nI c) x2 L S slot x6 x7 x8 (nI (64 * c + 0)) (nI (64 * c + t)) := by
    rw [b3, l64, pk_mul, nI_add, Nat.add_zero]
  rw [hm0]
  rcases hC with ⟨j, d1, d2, d3, d4, d5⟩ | ⟨d1, d2⟩
  · rcases hM with ⟨j', e1, ⟨e2, e3, e4⟩, e5⟩ | ⟨e1, -⟩
    · have hj : pix t nx j = j' := b8 _ _ (hpt j d1) e1 (d3.trans e2.symm) (d4.trans e3.symm) (by rw [← (b7 _ (hpt j d1)).2.1, hix j d1, d2, e4])
      refine ⟨σ, μ, t, nx, j', ?_, e5, e1, hP, e2, hR, Ag.rf, AgM.rf, rfl, fun _ _ => rfl, rfl⟩
      rw [← hj, hix j d1]
      exact d5
    · exact absurd ⟨d3, d4, by rw [← (b7 _ (hpt j d1)).2.1, hix j d1, d2]⟩ (e1 _ (Nat.zero_le _) (hpt j d1))
  · rcases hM with ⟨j', e1, ⟨e2, e3, e4⟩, e5⟩ | ⟨e1, e5⟩
    · refine absurd ⟨?_, ?_, ?_⟩ (d1 (ix t nx j') (Nat.zero_le _) (ix_t b1' b2 b6 e1))
      · rw [(b7 _ e1).2.1, e4]
      · have : pix t nx (ix t nx j') = j' := ix_inj b1' b2 b6 (hpt _ (ix_t b1' b2 b6 e1)) e1 (hix _ (ix_t b1' b2 b6 e1))
        rw [this, e2]
      · have : pix t nx (ix t nx j') = j' := ix_inj b1' b2 b6 (hpt _ (ix_t b1' b2 b6 e1)) e1 (hix _ (ix_t b1' b2 b6 e1))
        rw [this, e3]
    · have hno : ∀ p, p < t → ¬ (μ.2 65 (64 * c + p) = L ∧ μ.2 66 (64 * c + p) = S ∧ μ.2 67 (64 * c + p) = slot) := fun p h => e1 p (Nat.zero_le _) h
      -- what the reference forgets
      obtain ⟨t0, μb, sh, ht0, htt, hsh, hsi, h0, h1, hb1, hb2, hb3⟩ : ∃ (t0 : Nat) (μb : Mu) (sh : Nat → Nat), t0 < 64 ∧ (if 64 < t + 1 then 64 else t + 1) = t0 + 1 ∧ (∀ p, p < t0 → sh p < t ∧ ix (t0 + 1) ((nx + 1) % 64) p = ix t nx (sh p) ∧ ix t nx (sh p) ≠ nx ∧ ∀ j, 65 ≤ j → j ≤ 69 → μb.2 j (64 * c + p) = μ.2 j (64 * c + sh p)) ∧ (∀ p p', p < t0 → p' < t0 → sh p = sh p' → p = p') ∧ ix (t0 + 1) ((nx + 1) % 64) t0 = nx ∧ (t0 + 1 < 64 → (nx + 1) % 64 = t0 + 1) ∧ AgM μ μb (fun j i => ¬ (j = 64 ∧ i = c) ∧ ¬ (65 ≤ j ∧ j ≤ 69 ∧ 64 * c ≤ i ∧ i < 64 * c + 64)) ∧ μb.1 = μ.1 ∧ f_X12_replied_89 μ (nI c) x2 L S slot x6 x7 x8 (nI (64 * c + t)) (nI (64 * c + t)) = f_X12_replied_158 (mT (mT (mT (mT (mT μb 64 c (nI (t0 + 1))) 65 (64 * c + t0) L) 66 (64 * c + t0) S) 67 (64 * c + t0) slot) 68 (64 * c + t0) 0) (nI c) x2 L S slot x6 x7 x8 (nI (64 * c + t0)) := by
        have h114 : ∀ (μb : Mu) (t0 : Nat), t0 < 64 → μb.2 64 c = nI t0 → f_X12_replied_114 μb (nI c) x2 L S slot x6 x7 x8 (nI (64 * c + t0)) = f_X12_replied_158 (mT (mT (mT (mT (mT μb 64 c (nI (t0 + 1))) 65 (64 * c + t0) L) 66 (64 * c + t0) S) 67 (64 * c + t0) slot) 68 (64 * c + t0) 0) (nI c) x2 L S slot x6 x7 x8 (nI (64 * c + t0)) := fun μb t0 h1 h2 => by
          have hz : 64 * c + t0 < 256 := by omega
          rw [f_X12_replied_114, mA_n 64 c hc, Option.bind_some, h2, nI_1]
          simp only [mA_n, mQ_n, m_P, mT_2, mT_1, mS_1, mS_2, mZ, Option.bind_some, if_true, if_false, true_and, and_true, false_and, and_false, Nat.reduceEqDiff, Nat.reduceLT, hz, hc]
        by_cases c1 : t = 64
        · obtain ⟨μf, w1, w2, w3⟩ := pl_f hc 63 lf 0 μ (by unfold lf; omega) (by omega)
          have e6 : (64 : Int32) * nI c = nI (64 * c + 0) := by rw [l64, pk_mul]; rfl
          refine ⟨63, mT μf 64 c 63, fun p => p + 1, by decide, by rw [if_pos (by omega)], fun p hp => ⟨show p + 1 < t by omega, ?_, ?_, fun j h1 h2 => ?_⟩, fun p p' _ _ (h : p + 1 = p' + 1) => by omega, ?_, fun h => by omega, fun j i h => ?_, w2, ?_⟩
          · unfold ix; dsimp only; omega
          · unfold ix; dsimp only; omega
          · have : ¬ (j = 64 ∧ 64 * c + p = c) := by omega
            simp only [mT_2, this, if_false]
            rw [w3 j _, if_pos (by omega)]
            rfl
          · unfold ix; omega
          · simp only [mT_2]
            rw [if_neg (fun x => h.1 x), w3 j i, if_neg (by omega)]
          · rw [f_X12_replied_89, if_pos rfl, mA_n 64 c hc, Option.bind_some, b3, c1, if_pos (by decide), f_X12_forgetFirst, e6, w1, Option.bind_some]
            exact h114 _ 63 (by decide) (by simp only [m_P, mT_2, mT_1, mS_1, mS_2, Option.bind_some, Nat.reduceEqDiff, if_true, if_false, true_and, and_true, false_and, and_false]; rfl)
        · refine ⟨t, μ, fun p => p, by omega, by rw [if_neg (by omega)], fun p hp => ⟨hp, ?_, ?_, fun j _ _ => rfl⟩, fun p p' _ _ h => h, ?_, fun h => ?_, AgM.rf, rfl, ?_⟩
          · have := b6 (by omega)
            unfold ix; dsimp only; omega
          · have := b6 (by omega)
            unfold ix; dsimp only; omega
          · have := b6 (by omega)
            unfold ix; omega
          · have := b6 (by omega)
            omega
          · rw [f_X12_replied_89, if_pos rfl, mA_n 64 c hc, Option.bind_some, b3, if_neg (by rw [l64, nI_eq (by omega) (by omega)]; exact c1)]
            exact h114 _ t (by omega) b3
      have hPn := pl_new hs hv hc hP hvw hl hlT hno ht0 sh hsh hsi h0 h1
      have k2 := hs.k2 hc
      have k410 : oK σ (A 41 c 0) = 19 := hs.k41 hc (by decide)
      have k411 : oK σ (A 41 c 1) = 13 := hs.k41 hc (by decide)
      have k412 : oK σ (A 41 c 2) = 13 := hs.k41 hc (by decide)
      have k413 : oK σ (A 41 c 3) = 13 := hs.k41 hc (by decide)
      have z410 : oZ σ (A 41 c 0) = 64 := hs.z41 hc (by decide)
      have z411 : oZ σ (A 41 c 1) = 64 := hs.z41 hc (by decide)
      have z412 : oZ σ (A 41 c 2) = 64 := hs.z41 hc (by decide)
      have z413 : oZ σ (A 41 c 3) = 64 := hs.z41 hc (by decide)
      have n2 : oK σ (A 2 c 0) ≠ 9 := by rw [k2]; decide
      have n411 : oK σ (A 41 c 1) ≠ 9 := by rw [k411]; decide
      have n412 : oK σ (A 41 c 2) ≠ 9 := by rw [k412]; decide
      have n413 : oK σ (A 41 c 3) ≠ 9 := by rw [k413]; decide
      have er : (nI nx + (1 : Int32)) - (nI nx + (1 : Int32)) / (64 : Int32) * (64 : Int32) = nI ((nx + 1) % 64) := by
        rw [nI_1, l64, pk_rem (by omega) (by omega) (by omega)]
      have em : f_J9_min_7cf53 (nI t + (1 : Int32)) (64 : Int32) = some (nI (t0 + 1)) := by
        rw [nI_1, l64]
        unfold f_J9_min_7cf53
        by_cases c1 : 64 < t + 1
        · rw [if_pos ((nI_ltI (by omega) (by omega)).mpr c1), ← htt, if_pos c1]
        · rw [if_neg (fun e => c1 ((nI_ltI (by omega) (by omega)).mp e)), ← htt, if_neg c1]
      have h41 : f_X2_placeOf_41 σ (A 2 c 0) w slot = some (nI nx, sI (sI (sI (sR (sI (sI σ (A 2 c 0) 12 (nI ((nx + 1) % 64))) (A 2 c 0) 11 (nI (t0 + 1))) (A 41 c 0) nx w) (A 41 c 1) nx slot) (A 41 c 2) nx 0) (A 41 c 3) nx 0) := by
        simp only [f_X2_placeOf_41, x_gI, x_gR, x_gO, x_pI, x_pR, x_aI, x_aR, x_qI, x_qR, x_aL, oK_sI, oK_sR, oK_sC, oZ_sI, oZ_sR, oZ_sC, xI_sI, oI_sR, xI_sC, oR_sI, xR_sR, oR_sC, Option.bind_some, if_true, if_false, Nat.reduceEqDiff, true_and, and_true, false_and, and_false, k2, hwv.1, k410, k411, k412, k413, z410, z411, z412, z413, hi, b4, b5, er, em, hs.r2_7 hc, hs.r2_8 hc, hs.r2_9 hc, hs.r2_10 hc, b2, Nat.reduceLT]
      have hag : Ag A σ (sI (sI (sI (sR (sI (sI σ (A 2 c 0) 12 (nI ((nx + 1) % 64))) (A 2 c 0) 11 (nI (t0 + 1))) (A 41 c 0) nx w) (A 41 c 1) nx slot) (A 41 c 2) nx 0) (A 41 c 3) nx 0) (fun s i => ¬ fpC c s i) := ((((((Ag.sI hs.1).tr (Ag.sI hs.1)).tr (Ag.sR hs.1)).tr (Ag.sI hs.1)).tr (Ag.sI hs.1)).tr (Ag.sI hs.1)).wk fun s i h => by unfold fpC at h; omega
      have hmm : AgM μ (mT (mT (mT (mT (mT μb 64 c (nI (t0 + 1))) 65 (64 * c + t0) L) 66 (64 * c + t0) S) 67 (64 * c + t0) slot) 68 (64 * c + t0) 0) (fun j i => ¬ (j = 64 ∧ i = c) ∧ ¬ (65 ≤ j ∧ j ≤ 69 ∧ 64 * c ≤ i ∧ i < 64 * c + 64)) := (hb1.tr (((((AgM.mT).tr AgM.mT).tr AgM.mT).tr AgM.mT).tr AgM.mT)).wk fun j i h => by refine ⟨h, ?_⟩; omega
      have hk11 : ∀ k, k < 11 → oI (sI (sI (sI (sR (sI (sI σ (A 2 c 0) 12 (nI ((nx + 1) % 64))) (A 2 c 0) 11 (nI (t0 + 1))) (A 41 c 0) nx w) (A 41 c 1) nx slot) (A 41 c 2) nx 0) (A 41 c 3) nx 0) (A 2 c 0) k = oI σ (A 2 c 0) k := fun k hk => by
        have h1 : ¬ k = 11 := by omega
        have h2 : ¬ k = 12 := by omega
        simp only [oK_sI, oK_sR, oK_sC, oZ_sI, oZ_sR, oZ_sC, xI_sI, oI_sR, xI_sC, oR_sI, xR_sR, oR_sC, Option.bind_some, if_true, if_false, Nat.reduceEqDiff, true_and, and_true, false_and, and_false, hi, h1, h2]
      have hr2 : oR (sI (sI (sI (sR (sI (sI σ (A 2 c 0) 12 (nI ((nx + 1) % 64))) (A 2 c 0) 11 (nI (t0 + 1))) (A 41 c 0) nx w) (A 41 c 1) nx slot) (A 41 c 2) nx 0) (A 41 c 3) nx 0) (A 2 c 0) = oR σ (A 2 c 0) := by
        funext k
        simp only [oK_sI, oK_sR, oK_sC, oZ_sI, oZ_sR, oZ_sC, xI_sI, oI_sR, xI_sC, oR_sI, xR_sR, oR_sC, Option.bind_some, if_true, if_false, Nat.reduceEqDiff, true_and, and_true, false_and, and_false, hi]
      refine ⟨_, _, t0 + 1, (nx + 1) % 64, t0, ?_, ?_, Nat.lt_succ_self _, hPn, ?_, ?_, hag, hmm, hb2, hk11, hr2⟩
      · rw [h0]
        exact (show f_X2_placeOf σ (A 2 c 0) w slot = f_X2_placeOf_41 σ (A 2 c 0) w slot from d2).trans h41
      · rw [e5]
        exact hb3
      · simp only [m_P, mT_2, mT_1, mS_1, mS_2, Option.bind_some, Nat.reduceEqDiff, if_true, if_false, true_and, and_true, false_and, and_false]
      · refine hR.cli c ((((((hs.sI rfl).sI rfl).sR rfl).sI rfl).sI rfl).sI rfl) ((((((hv.sI n2).sI n2).sR).sI n411).sI n412).sI n413) hag (hmm.wk fun j i h => by unfold fmC at h; constructor <;> omega) hb2 (fun i => hmm 57 i (by constructor <;> omega)) (fun i => hmm 59 i (by constructor <;> omega)) (Rc.mk (rS.cg hk11 hr2 fun j h1 h2 => hmm j c (by constructor <;> omega)) hPn)
end PLD
