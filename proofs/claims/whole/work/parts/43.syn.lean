/-! sync -/
section SYN
variable {A : Ad} {n T q : Nat} {hb : Nat → Nat} {vw : Vw} {p u : Nat → Nat} {a r : Nat} {σ σ' : Hp} {μ μ' : Mu}
theorem m_sync30 (x1 : Nat) (h2 : x1 < 7) : ∀ d (F : Nat) (μ : Mu) (k l : Nat), d < F → l = k + d → l ≤ 100 → f_X12_sync_30 F μ (nI x1) (nI l) (nI k) = f_X12_sync_58 (cpM μ 56 k 42 (100 * x1 + k) d) (nI x1) (nI l) := by
  intro d
  induction d with
  | zero =>
    intro F μ k l hF hl h100
    obtain ⟨F, rfl⟩ : ∃ f, F = f + 1 := ⟨F - 1, by omega⟩
    show b_X12_sync_30 (f_X12_sync_30 F) μ _ _ _ = _
    have e1 : nI l ≤ nI k := (nI_leI (by omega) (by omega)).mpr (by omega)
    rw [b_X12_sync_30, if_pos e1, cpM_0]
  | succ d ih =>
    intro F μ k l hF hl h100
    obtain ⟨F, rfl⟩ : ∃ f, F = f + 1 := ⟨F - 1, by omega⟩
    show b_X12_sync_30 (f_X12_sync_30 F) μ _ _ _ = _
    have e1 : ¬ nI l ≤ nI k := fun e => by rw [nI_leI (by omega) (by omega)] at e; omega
    rw [b_X12_sync_30, if_neg e1, mA_n 56 _ (by simp only [mZ]; omega), Option.bind_some, l100, pk_mul, nI_add, mQ_n 42 _ _ (by simp only [mZ]; omega), Option.bind_some, l1, nI_add]
    rw [ih F _ (k + 1) l (by omega) (by omega) h100, ← cpM_s μ d (by decide)]
    rfl
theorem rcv_sync (hR : RR A n T q h8 vw p u a 0 σ μ) (hr : r < n) {i : Nat} (hi202 : i < 202) {t : Int32} (h6 : oI σ (A 5 i 0) 6 = t) (hl : TkL A q σ μ i t) (hp : i = p 200) : St A n T q vw p u σ μ (f_X6_receiveSync σ (A 6 r 0) (A 5 i 0)) (f_X12_sync μ (nI r) t) := by
  have hs := hR.1
  have h7 := hs.np
  have hi := hs.inj
  have hI := hs.1
  have hr7 : r < 7 := by omega
  have k6 := hs.k6 hr
  have k5 := hs.k5 hi202
  have k32 := hs.k32 hr
  have k33 := hs.k33 hr
  have k30 := hs.k30 hi202
  have k31 := hs.k31 hi202
  have r60 := hs.r6_0 hr
  obtain ⟨L, v, g1, g2, g3, g4, g5, g6, -⟩ := hR.ld hr
  obtain ⟨⟨⟨a1, a2⟩, ⟨a3, a4⟩, -, -, a7, a8, a9⟩, ⟨l, q1, q2, q3, q4⟩, -⟩ := (hR.2.2.2.2.2.1 r hr).sp
  obtain ⟨lt, w1, w2, w3, w4⟩ := hl
  subst w2
  rw [f_X6_receiveSync, x_gO k6, f_X12_sync, g5, g6]
  simp only [Option.bind_some]
  by_cases c0 : b1 (L % n = r) = 0
  · rw [if_pos c0, if_pos c0, x_gI k6, Option.bind_some, a3, mA_n 35 r hr7, Option.bind_some]
    by_cases c1 : μ.2 35 r = 0
    · rw [if_pos c1, if_pos c1, x_gI k5, Option.bind_some, h6, x_gR k6, r60, Option.bind_some, x_gI k32, Option.bind_some, q3, mA_n 38 r hr7, q2]
      simp only [Option.bind_some]
      by_cases c2 : nI lt ≤ nI l
      · have hll : lt ≤ l := (nI_leI (by omega) (by omega)).mp c2
        have n33 : oK σ (A 33 r 0) ≠ 9 := by rw [k33]; decide
        have hcf : f_X4_copyFirst σ (A 32 r 0) (A 30 i 0) (nI lt) = some (sC σ (A 31 i 0) (A 33 r 0) 0 0 lt) := by
          rw [f_X4_copyFirst, x_gR k30, hs.r30_0 hi202, Option.bind_some, x_gR k32, hs.r32_0 hr, Option.bind_some, x_gI k30, Option.bind_some, w3, f_J9_min_7cf53, if_neg (fun h => Int32.lt_irrefl h), Option.bind_some, e_cp k31 k33 (hs.z31 hi202) (hs.z33 hr) w1 (by decide), Option.bind_some]
        have hR1 : RR A n T q h8 vw p u a 0 (sC σ (A 31 i 0) (A 33 r 0) 0 0 lt) (cpM μ 56 0 42 (100 * r + 0) lt) := by
          refine hR.log hr (hs.sC (fun _ => rfl)) (hR.2.1.sC n33) ((Ag.sC hI).wk fun s i h => by omega) ((cpM_ag _ _ _ _ _ _).wk fun j i h => by omega) rfl ⟨l, q1, ?_, ?_, fun k hk => ?_⟩
          · rw [cpM_ag _ _ _ _ _ _ 38 r (by omega)]
            exact q2
          · simp only [oK_sI, oK_sR, oK_sC, oZ_sI, oZ_sR, oZ_sC, xI_sI, oI_sR, xI_sC, oR_sI, xR_sR, oR_sC, Option.bind_some, if_true, if_false, Nat.reduceEqDiff, true_and, and_true, false_and, and_false, hi]
            exact q3
          · by_cases hkl : k < lt
            · have e1 : rwM 100 (cpM μ 56 0 42 (100 * r + 0) lt) 42 r k = μ.2 56 k := by
                rw [rwM_at (by omega), ← Nat.add_zero (100 * r), cpM_in hkl, Nat.zero_add]
              rw [e1]
              simp only [oK_sI, oK_sR, oK_sC, oZ_sI, oZ_sR, oZ_sC, xI_sI, oI_sR, xI_sC, oR_sI, xR_sR, oR_sC, Option.bind_some, if_true, if_false, Nat.reduceEqDiff, true_and, and_true, false_and, and_false, if_pos hkl]
              exact w4 k hkl
            · have e1 : rwM 100 (cpM μ 56 0 42 (100 * r + 0) lt) 42 r k = rwM 100 μ 42 r k := by
                rw [rwM_at (by omega), rwM_at (by omega), cpM_ag _ _ _ _ _ _ 42 _ (by omega)]
              rw [e1]
              simp only [oK_sI, oK_sR, oK_sC, oZ_sI, oZ_sR, oZ_sC, xI_sI, oI_sR, xI_sC, oR_sI, xR_sR, oR_sC, Option.bind_some, if_true, if_false, Nat.reduceEqDiff, true_and, and_true, false_and, and_false, if_neg hkl]
              exact q4 k hk
        have hk1 : Kp A n p σ (sC σ (A 31 i 0) (A 33 r 0) 0 0 lt) μ (cpM μ 56 0 42 (100 * r + 0) lt) := Kp.mk' ((Ag.sC hI).wk fun s i h => by omega) ((cpM_ag _ _ _ _ _ _).wk fun j i h => by omega) (fun _ _ _ _ => rfl)
        have e41 : (cpM μ 56 0 42 (100 * r + 0) lt).2 41 r = μ.2 41 r := cpM_ag _ _ _ _ _ _ 41 r (by omega)
        have hR2 := set6 hR1 hr (k := 8) (j := 41) (x := if μ.2 41 r < nI lt then nI lt else μ.2 41 r) (Or.inr (Or.inr (Or.inr ⟨rfl, rfl⟩)))
        have hk2 : Kp A n p (sC σ (A 31 i 0) (A 33 r 0) 0 0 lt) _ (cpM μ 56 0 42 (100 * r + 0) lt) _ := Kp.one (s := 6) (i := r) (j := 0) (k := 8) (j' := 41) (r := r) (x := if μ.2 41 r < nI lt then nI lt else μ.2 41 r) (y := if μ.2 41 r < nI lt then nI lt else μ.2 41 r) hI (by omega) (by omega)
        obtain ⟨L2, v2, y1, y2, y3, y4, y5, y6, y7, y8, y9⟩ := hR2.ld hr
        obtain ⟨v', w, a', f1, f2, f3, f4⟩ := sd1 (t := nI lt) (tc := nI lt) (ab := 0) hR2 hr (x := 6) (kk := 6) rfl (by omega) y9 (fun _ => rfl) (by omega)
        have k6' := hR2.1.k6 hr
        have k5' := hR2.1.k5 hi202
        have hM : f_X12_sync_30 lf μ (nI r) (nI lt) 0 = f_X12_sync_83 (cpM μ 56 0 42 (100 * r + 0) lt) (nI r) (nI lt) (nI r) (if μ.2 41 r < nI lt then nI lt else μ.2 41 r) := by
          rw [show (0 : Int32) = nI 0 from rfl, m_sync30 r hr7 lt lf μ 0 lt (by unfold lf; omega) (by omega) w1, f_X12_sync_58, mA_n 41 r hr7, Option.bind_some, e41]
          by_cases c3 : nI lt ≤ μ.2 41 r
          · rw [if_pos c3, Option.bind_some, if_neg (fun h => by
              rw [Int32.lt_iff_toInt_lt] at h
              rw [Int32.le_iff_toInt_le] at c3
              omega)]
          · rw [if_neg c3, if_pos (by
              rw [Int32.le_iff_toInt_le] at c3
              rw [Int32.lt_iff_toInt_lt]
              omega)]
        have emax : f_J9_max_7cf53 (μ.2 41 r) (nI lt) = some (if μ.2 41 r < nI lt then nI lt else μ.2 41 r) := by
          unfold f_J9_max_7cf53
          split <;> rfl
        have e8 : oI (sC σ (A 31 i 0) (A 33 r 0) 0 0 lt) (A 6 r 0) 8 = μ.2 41 r := by
          simp only [oK_sI, oK_sR, oK_sC, oZ_sI, oZ_sR, oZ_sC, xI_sI, oI_sR, xI_sC, oR_sI, xR_sR, oR_sC, Option.bind_some, if_true, if_false, Nat.reduceEqDiff, true_and, and_true, false_and, and_false, hi]
          exact a9
        have e6 : oI (sC σ (A 31 i 0) (A 33 r 0) 0 0 lt) (A 5 i 0) 6 = nI lt := by
          simp only [oK_sI, oK_sR, oK_sC, oZ_sI, oZ_sR, oZ_sC, xI_sI, oI_sR, xI_sC, oR_sI, xR_sR, oR_sC, Option.bind_some, if_true, if_false, Nat.reduceEqDiff, true_and, and_true, false_and, and_false, hi]
          exact h6
        have e6' : oI (sI (sC σ (A 31 i 0) (A 33 r 0) 0 0 lt) (A 6 r 0) 8 (if μ.2 41 r < nI lt then nI lt else μ.2 41 r)) (A 5 i 0) 6 = nI lt := by
          simp only [oK_sI, oK_sR, oK_sC, oZ_sI, oZ_sR, oZ_sC, xI_sI, oI_sR, xI_sC, oR_sI, xR_sR, oR_sC, Option.bind_some, if_true, if_false, Nat.reduceEqDiff, true_and, and_true, false_and, and_false, hi]
          exact h6
        rw [if_pos c2, if_pos c2, hM, f_X12_sync_83, mQ_n 41 r _ hr7, Option.bind_some, y8, Option.bind_some, mA_n 33 r hr7, Option.bind_some, mA_n 34 r hr7, Option.bind_some, f2, Option.bind_some]
        simp only [x_gR k5, hs.r5_11 hi202, x_gI k5, h6, x_gO k32, hcf, Option.bind_some, x_gI (hR1.1.k6 hr), x_gI (hR1.1.k5 hi202), e8, e6, emax, x_pI (hR1.1.k6 hr), x_gR k6', y3, x_gI k6', x_gO y4.1, hR2.1.i6_10 hr, y7, x_gI k5', e6', x_gO k6', f1]
        exact ⟨_, _, a', vw, rfl, rfl, Vle.rf, f3, (hk1.tr hk2).tr f4.kp⟩
      · rw [if_neg c2, if_neg c2]
        exact St.rf hR
    · rw [if_neg c1, if_neg c1]
      exact St.rf hR
  · rw [if_neg c0, if_neg c0]
    exact St.rf hR
end SYN
