/-! merging and counting what has turned -/
section MRT
variable {A : Ad} {n T q : Nat} {hb : Nat → Nat} {vw : Vw} {p u : Nat → Nat} {a r b : Nat} {σ σ' : Hp} {μ μ' : Mu}
theorem rcv_merge (hR : RR A n T q h8 vw p u a 0 σ μ) (hr : r < n) (hT : Tb A n T q vw σ μ r b) : St A n T q vw p u σ μ ((f_X6_isEnough σ (A 6 r 0) (nI b)).bind fun v35 => if v35 = 0 then some σ else ((h_gO σ 6 (A 6 r 0)).bind fun _ => (f_X6_mergeLogs σ (A 6 r 0)).bind fun v42 => (h_gO v42 6 (A 6 r 0)).bind fun _ => (f_X6_becomeNormal v42 (A 6 r 0)).bind fun v46 => (h_gO v46 6 (A 6 r 0)).bind fun _ => (f_X6_sendLogToOthers v46 (A 6 r 0) 10).bind fun v52 => some v52)) (f_X12_merge μ (nI r)) := by
  have hs := hR.1
  have h7 := hs.np
  have hi := hs.inj
  have hI := hs.1
  have hr7 : r < 7 := by omega
  have cl := cnt_le b
  have h2 : μ.1 2 = nI (n / 2) := hR.2.2.1.2.2.2.2.2
  obtain ⟨⟨⟨a1, a2⟩, ⟨a3, a4⟩, ⟨⟨v4, a5, a5'⟩, a5s⟩, a6, a7, a8, a9⟩, -, -, gT⟩ := (hR.2.2.2.2.2.1 r hr).sp
  rw [enough hs hr hT.2.2.1, Option.bind_some, f_X12_merge, mA_n 49 r hr7, Option.bind_some, hT.2.1, bit_m b hT.2.2.1, Option.bind_some, h2]
  by_cases c : n / 2 ≤ cnt b
  · rw [if_neg (by rw [b1_0]; exact fun x => x c), if_pos ((nI_leI (by omega) (by omega)).mpr c), mA_n 36 r hr7, Option.bind_some, mA_n 37 r hr7, Option.bind_some]
    obtain ⟨σ1, μ1, m, f1, f2, f3, s1, v1, g1, g2, g3, g4, g5, g6, g7⟩ := mg_all hR hr hT
    have k6 := s1.k6 hr
    have k3 := s1.k3 hr
    have k8 := s1.k8 hr
    have n6 : oK σ1 (A 6 r 0) ≠ 9 := by rw [k6]; decide
    have n3 : oK σ1 (A 3 r 0) ≠ 9 := by rw [k3]; decide
    have n8 : oK σ1 (A 8 r 0) ≠ 9 := by rw [k8]; decide
    have h4 : oR σ1 (A 6 r 0) 4 = some v4 := by rw [g2]; exact a5
    obtain ⟨c1, c2⟩ := settle_c (μ := μ1) s1 hr h4
    have hI1 := s1.1
    have hc : Ag A σ1 (sI (sI (sI (sI (sI (sR (sI σ1 (A 6 r 0) 3 0) (A 6 r 0) 5 v4) (A 3 r 0) 2 0) (A 8 r 0) 0 0) (A 8 r 0) 1 0) (A 8 r 0) 3 0) (A 6 r 0) 8 0) (fun s i => ¬ (i = r ∧ (s = 6 ∨ s = 3 ∨ s = 8))) := (((((((Ag.sI hI1).tr (Ag.sR hI1)).tr (Ag.sI hI1)).tr (Ag.sI hI1)).tr (Ag.sI hI1)).tr (Ag.sI hI1)).tr (Ag.sI hI1)).wk (fun s i h => by omega)
    have hm : AgM μ1 (mT (mT (mT (mT (mT (mT (mT (mT μ1 35 r 0) 36 r (μ1.2 33 r)) 37 r (μ1.2 34 r)) 43 r 0) 46 r 0) 47 r 0) 49 r 0) 41 r 0) (fun j i => ¬ (i = r ∧ 34 < j ∧ j < 50 ∧ j ≠ 38 ∧ j ≠ 39 ∧ j ≠ 40 ∧ j ≠ 42 ∧ j ≠ 44 ∧ j ≠ 45)) := ((((((((AgM.mT).tr AgM.mT).tr AgM.mT).tr AgM.mT).tr AgM.mT).tr AgM.mT).tr AgM.mT).tr AgM.mT).wk (fun s i h => by omega)
    have hRa : RR A n T q h8 vw p u a 0 σ ((μ.1, fun j i => if j = 55 then μ1.2 55 i else μ.2 j i) : Mu) := hR.fr hs hR.2.1 Ag.rf (fun j i h => if_neg h.1) (fun _ _ => rfl)
    have e32 : μ1.2 32 r = μ.2 32 r := g5 32 r (by refine ⟨?_, ?_, ?_⟩ <;> omega)
    have e33 : μ1.2 33 r = μ.2 33 r := g5 33 r (by refine ⟨?_, ?_, ?_⟩ <;> omega)
    have e34 : μ1.2 34 r = μ.2 34 r := g5 34 r (by refine ⟨?_, ?_, ?_⟩ <;> omega)
    have e40 : μ1.2 40 r = μ.2 40 r := g5 40 r (by refine ⟨?_, ?_, ?_⟩ <;> omega)
    have e48 : μ1.2 48 r = μ.2 48 r := g5 48 r (by refine ⟨?_, ?_, ?_⟩ <;> omega)
    have hR3 : RR A n T q h8 vw p u a 0 (sI (sI (sI (sI (sI (sR (sI σ1 (A 6 r 0) 3 0) (A 6 r 0) 5 v4) (A 3 r 0) 2 0) (A 8 r 0) 0 0) (A 8 r 0) 1 0) (A 8 r 0) 3 0) (A 6 r 0) 8 0) (mT (mT (mT (mT (mT (mT (mT (mT μ1 35 r 0) 36 r (μ1.2 33 r)) 37 r (μ1.2 34 r)) 43 r 0) 46 r 0) 47 r 0) 49 r 0) 41 r 0) := by
      refine hRa.rst hr (((((((s1.sI rfl).sR rfl).sI rfl).sI rfl).sI rfl).sI rfl).sI rfl) (((((((v1.sI n6).sR).sI n3).sI n8).sI n8).sI n8).sI n6) ((g1.tr hc).wk fun s i h => by unfold fpR at h; constructor <;> omega) (fun j i h => ?_) g6 ?_ ?_ ?_ ?_
      · unfold fmR at h
        rw [hm j i (by omega)]
        show μ1.2 j i = if j = 55 then μ1.2 55 i else μ.2 j i
        by_cases cj : j = 55
        · rw [if_pos cj, cj]
        · rw [if_neg cj]
          exact g5 j i (by refine ⟨?_, ?_, cj⟩ <;> omega)
      · unfold RrS
        simp only [oK_sI, oK_sR, oK_sC, oZ_sI, oZ_sR, oZ_sC, xI_sI, oI_sR, xI_sC, oR_sI, xR_sR, oR_sC, Option.bind_some, if_true, if_false, Nat.reduceEqDiff, true_and, and_true, false_and, and_false, m_P, mT_2, mT_1, mS_1, mS_2, Option.bind_some, Nat.reduceEqDiff, if_true, if_false, true_and, and_true, false_and, and_false, hi, g3 2 (by decide), g3 7 (by decide), g4, h4, a1, a8, e32, e33, e34, e40]
        exact ⟨a2, Sm.z 2, ⟨⟨v4, rfl, a5'⟩, a5s⟩, ⟨v4, rfl, a5'⟩, a5s⟩
      · refine RrL.cg g7 ?_ ?_ (hm 38 r (by omega)) (fun k hk => hm 42 _ (by omega))
        · exact (hc 32 r 0 (by omega)).1
        · exact (hc 33 r 0 (by omega)).1
      · simp only [oK_sI, oK_sR, oK_sC, oZ_sI, oZ_sR, oZ_sC, xI_sI, oI_sR, xI_sC, oR_sI, xR_sR, oR_sC, Option.bind_some, if_true, if_false, Nat.reduceEqDiff, true_and, and_true, false_and, and_false, m_P, mT_2, mT_1, mS_1, mS_2, Option.bind_some, Nat.reduceEqDiff, if_true, if_false, true_and, and_true, false_and, and_false, hi, and_self]
      · simp only [oK_sI, oK_sR, oK_sC, oZ_sI, oZ_sR, oZ_sC, xI_sI, oI_sR, xI_sC, oR_sI, xR_sR, oR_sC, Option.bind_some, if_true, if_false, Nat.reduceEqDiff, true_and, and_true, false_and, and_false, m_P, mT_2, mT_1, mS_1, mS_2, Option.bind_some, Nat.reduceEqDiff, if_true, if_false, true_and, and_true, false_and, and_false, hi, and_self, e48, (g1 8 r 0 (by omega)).1]
        exact gT.2.2.2.2.1
    have hk : Kp A n p σ (sI (sI (sI (sI (sI (sR (sI σ1 (A 6 r 0) 3 0) (A 6 r 0) 5 v4) (A 3 r 0) 2 0) (A 8 r 0) 0 0) (A 8 r 0) 1 0) (A 8 r 0) 3 0) (A 6 r 0) 8 0) μ (mT (mT (mT (mT (mT (mT (mT (mT μ1 35 r 0) 36 r (μ1.2 33 r)) 37 r (μ1.2 34 r)) 43 r 0) 46 r 0) 47 r 0) 49 r 0) 41 r 0) := Kp.mk2 ((g1.tr hc).wk fun s i h => by constructor <;> omega) ((g5.tr hm).wk fun j i h => by refine ⟨⟨?_, ?_, ?_⟩, ?_⟩ <;> omega) (fun k _ _ _ => by show μ1.1 k = _; rw [g6]) (Gx.of35 (r := r) (fun i h => (hm 35 i (by omega)).trans (g5 35 i (by refine ⟨?_, ?_, ?_⟩ <;> omega))) (fun i h => (hm 38 i (by omega)).trans (g5 38 i (by refine ⟨?_, ?_, ?_⟩ <;> omega))) (by simp only [m_P, mT_2, mT_1, mS_1, mS_2, Option.bind_some, Nat.reduceEqDiff, if_true, if_false, true_and, and_true, false_and, and_false]; decide))
    have e38 : (mT (mT (mT (mT (mT (mT (mT (mT μ1 35 r 0) 36 r (μ1.2 33 r)) 37 r (μ1.2 34 r)) 43 r 0) 46 r 0) 47 r 0) 49 r 0) 41 r 0).2 38 r = nI m := (hm 38 r (by omega)).trans f3
    have hlf : n < lf := by unfold lf; omega
    have hsd := (sd_others hr n lf lf 0 _ _ a (nI m) hlf hlf (by omega) hR3 e38.symm).st
    rw [f2, c2, Option.bind_some, x_gO (hs.k6 hr), Option.bind_some, f1, Option.bind_some, x_gO k6, Option.bind_some, c1, Option.bind_some, x_gO (hR3.1.k6 hr), Option.bind_some]
    obtain ⟨σ2, μ2, a', vw', w1, w2, w3, w4, w5⟩ := hsd.tr hk
    exact ⟨σ2, μ2, a', vw', by rw [f_X6_sendLogToOthers]; exact congrArg (fun x => x.bind fun v => some v) w1, w2, w3, w4, w5⟩
  · rw [if_pos (by rw [b1_0]; exact c), if_neg (fun h => c ((nI_leI (by omega) (by omega)).mp h))]
    exact St.rf hR
theorem m_turned132 (x1 : Nat) {x9 : Nat} (h9 : x9 < 49) : ∀ d (F : Nat) (μ : Mu) (k l : Nat), d < F → l = k + d → l ≤ 100 → f_X12_turned_132 F μ (nI x1) (nI l) (nI x9) (nI k) = f_X12_merge (cpM μ 56 k 54 (100 * x9 + k) d) (nI x1) := by
  intro d
  induction d with
  | zero =>
    intro F μ k l hF hl h100
    obtain ⟨F, rfl⟩ : ∃ f, F = f + 1 := ⟨F - 1, by omega⟩
    show b_X12_turned_132 (f_X12_turned_132 F) μ _ _ _ _ = _
    have e1 : nI l ≤ nI k := (nI_leI (by omega) (by omega)).mpr (by omega)
    rw [b_X12_turned_132, if_pos e1, cpM_0, Option.bind_fun_some]
  | succ d ih =>
    intro F μ k l hF hl h100
    obtain ⟨F, rfl⟩ : ∃ f, F = f + 1 := ⟨F - 1, by omega⟩
    show b_X12_turned_132 (f_X12_turned_132 F) μ _ _ _ _ = _
    have e1 : ¬ nI l ≤ nI k := fun e => by rw [nI_leI (by omega) (by omega)] at e; omega
    rw [b_X12_turned_132, if_neg e1, mA_n 56 _ (by simp only [mZ]; omega), Option.bind_some, l100, pk_mul, nI_add, mQ_n 54 _ _ (by simp only [mZ]; omega), Option.bind_some, l1, nI_add]
    rw [ih F _ (k + 1) l (by omega) (by omega) h100, ← cpM_s μ d (by decide)]
    rfl
theorem rcv_turned1 (hR : RR A n T q h8 vw p u a 0 σ μ) (hr : r < n) {i : Nat} (hi202 : i < 202) (hp : i = p 200) {fr : Nat} (hfr : fr < n) (hne : fr ≠ r) {w : Nat} {L S B len : Int32} (h2 : oI σ (A 5 i 0) 2 = nI fr) (h9 : oR σ (A 5 i 0) 9 = some w) (hvw : vw w = some (L, S)) (hL : Sm T L) (hB : oI σ (A 5 i 0) 10 = B) (hl : TkL A q σ μ i len) : St A n T q vw p u σ μ (f_X6_receiveTurned σ (A 6 r 0) (A 5 i 0)) ((m_A μ 35 (nI r)).bind fun v43 => if v43 = 2 then ((m_A μ 49 (nI r)).bind fun v87 => (m_Q μ 49 (nI r) (v87 ||| ((1 : Int32) <<< (nI fr &&& 31)))).bind fun s92 => (m_Q s92 50 (((7 : Int32) * nI r) + nI fr) L).bind fun s101 => (m_Q s101 51 (((7 : Int32) * nI r) + nI fr) S).bind fun s110 => (m_Q s110 52 (((7 : Int32) * nI r) + nI fr) B).bind fun s119 => (m_Q s119 53 (((7 : Int32) * nI r) + nI fr) len).bind fun s128 => f_X12_turned_132 lf s128 (nI r) len (((7 : Int32) * nI r) + nI fr) 0) else ((f_X12_send μ 10 (nI r) (nI fr) (μ.2 33 r) (μ.2 34 r) 0 0).bind fun v59 => (m_A v59.2 38 (nI r)).bind fun v68 => (f_X12_load v59.2 v59.1 (nI r) v68).bind fun v69 => some v69)) := by
  have hs := hR.1
  have hv := hR.2.1
  have h7 := hs.np
  have hi := hs.inj
  have hI := hs.1
  have hr7 : r < 7 := by omega
  have hf7 : fr < 7 := by omega
  have k6 := hs.k6 hr
  have k8 := hs.k8 hr
  have k5 := hs.k5 hi202
  obtain ⟨⟨-, ⟨a3, -⟩, -⟩, -, -, gT⟩ := (hR.2.2.2.2.2.1 r hr).sp
  rw [f_X6_receiveTurned, x_gI k6, Option.bind_some, a3, mA_n 35 r hr7, Option.bind_some]
  by_cases c0 : μ.2 35 r = 2
  · rw [if_pos c0, if_pos c0]
    have gT' := gT
    obtain ⟨t1, t2, t3, t4, t5, t6, b, t7, t8, t9, t10⟩ := gT'
    obtain ⟨lt, w1, w2, w3, w4⟩ := hl
    subst w2
    obtain ⟨o1, o2⟩ := bit_or b t7 fr hf7
    have k36 := hs.k36 hr
    have z36 := hs.z36 hr
    have k37 := hs.k37 hr
    have z37 := hs.z37 hr
    have k38 := hs.k38 hr
    have z38 := hs.z38 hr
    have k39 := hs.k39 hr hfr
    have k40 := hs.k40 hr hfr
    have z40 := hs.z40 hr hfr
    have k30 := hs.k30 hi202
    have k31 := hs.k31 hi202
    have z31 := hs.z31 hi202
    have n8 : oK σ (A 8 r 0) ≠ 9 := by rw [k8]; decide
    have n37 : oK σ (A 37 r 0) ≠ 9 := by rw [k37]; decide
    have n39 : oK σ (A 39 r fr) ≠ 9 := by rw [k39]; decide
    have n40 : oK σ (A 40 r fr) ≠ 9 := by rw [k40]; decide
    have kw : oK σ w = 9 := (hv w L S hvw).1
    have hn31 : n < 2147483648 := by omega
    have hadd : f_X8_addTurned σ (A 8 r 0) (A 5 i 0) = some (sI (sC (sI (sR (sI σ (A 8 r 0) 3 (nI (b ||| 2 ^ fr))) (A 36 r 0) fr w) (A 37 r 0) fr B) (A 31 i 0) (A 40 r fr) 0 0 lt) (A 39 r fr) 1 (nI lt)) := by
      have hcp := c_copy (σ := sI (sR (sI σ (A 8 r 0) 3 (nI (b ||| 2 ^ fr))) (A 36 r 0) fr w) (A 37 r 0) fr B) (d := A 39 r fr) (s := A 30 i 0) (e := A 40 r fr) (f := A 31 i 0) (l := lt) k39 k30 (by simp only [oK_sI, oK_sR, oK_sC, oZ_sI, oZ_sR, oZ_sC, xI_sI, oI_sR, xI_sC, oR_sI, xR_sR, oR_sC, Option.bind_some, if_true, if_false, Nat.reduceEqDiff, true_and, and_true, false_and, and_false, hi]; exact hs.r39_0 hr hfr) (by simp only [oK_sI, oK_sR, oK_sC, oZ_sI, oZ_sR, oZ_sC, xI_sI, oI_sR, xI_sC, oR_sI, xR_sR, oR_sC, Option.bind_some, if_true, if_false, Nat.reduceEqDiff, true_and, and_true, false_and, and_false, hi]; exact hs.r30_0 hi202) k40 k31 z40 z31 (by simp only [oK_sI, oK_sR, oK_sC, oZ_sI, oZ_sR, oZ_sC, xI_sI, oI_sR, xI_sC, oR_sI, xR_sR, oR_sC, Option.bind_some, if_true, if_false, Nat.reduceEqDiff, true_and, and_true, false_and, and_false, hi]; exact w3) w1
      have k8a : oK (sI σ (A 8 r 0) 3 (nI (b ||| 2 ^ fr))) (A 8 r 0) = 8 := k8
      have k5a : oK (sI σ (A 8 r 0) 3 (nI (b ||| 2 ^ fr))) (A 5 i 0) = 5 := k5
      have k8b : oK (sR (sI σ (A 8 r 0) 3 (nI (b ||| 2 ^ fr))) (A 36 r 0) fr w) (A 8 r 0) = 8 := k8
      have k5b : oK (sR (sI σ (A 8 r 0) 3 (nI (b ||| 2 ^ fr))) (A 36 r 0) fr w) (A 5 i 0) = 5 := k5
      have k8c : oK (sI (sR (sI σ (A 8 r 0) 3 (nI (b ||| 2 ^ fr))) (A 36 r 0) fr w) (A 37 r 0) fr B) (A 8 r 0) = 8 := k8
      have k5c : oK (sI (sR (sI σ (A 8 r 0) 3 (nI (b ||| 2 ^ fr))) (A 36 r 0) fr w) (A 37 r 0) fr B) (A 5 i 0) = 5 := k5
      have e1 : oI (sI σ (A 8 r 0) 3 (nI (b ||| 2 ^ fr))) (A 5 i 0) 2 = nI fr := by simp only [oK_sI, oK_sR, oK_sC, oZ_sI, oZ_sR, oZ_sC, xI_sI, oI_sR, xI_sC, oR_sI, xR_sR, oR_sC, Option.bind_some, if_true, if_false, Nat.reduceEqDiff, true_and, and_true, false_and, and_false, hi]; exact h2
      have e2 : oI (sR (sI σ (A 8 r 0) 3 (nI (b ||| 2 ^ fr))) (A 36 r 0) fr w) (A 5 i 0) 2 = nI fr := by simp only [oK_sI, oK_sR, oK_sC, oZ_sI, oZ_sR, oZ_sC, xI_sI, oI_sR, xI_sC, oR_sI, xR_sR, oR_sC, Option.bind_some, if_true, if_false, Nat.reduceEqDiff, true_and, and_true, false_and, and_false, hi]; exact h2
      have e3 : oI (sI (sR (sI σ (A 8 r 0) 3 (nI (b ||| 2 ^ fr))) (A 36 r 0) fr w) (A 37 r 0) fr B) (A 5 i 0) 2 = nI fr := by simp only [oK_sI, oK_sR, oK_sC, oZ_sI, oZ_sR, oZ_sC, xI_sI, oI_sR, xI_sC, oR_sI, xR_sR, oR_sC, Option.bind_some, if_true, if_false, Nat.reduceEqDiff, true_and, and_true, false_and, and_false, hi]; exact h2
      have e4 : oI (sR (sI σ (A 8 r 0) 3 (nI (b ||| 2 ^ fr))) (A 36 r 0) fr w) (A 5 i 0) 10 = B := by simp only [oK_sI, oK_sR, oK_sC, oZ_sI, oZ_sR, oZ_sC, xI_sI, oI_sR, xI_sC, oR_sI, xR_sR, oR_sC, Option.bind_some, if_true, if_false, Nat.reduceEqDiff, true_and, and_true, false_and, and_false, hi]; exact hB
      have e5 : oR (sI σ (A 8 r 0) 3 (nI (b ||| 2 ^ fr))) (A 8 r 0) 4 = some (A 36 r 0) := hs.r8_4 hr
      have e6 : oR (sI σ (A 8 r 0) 3 (nI (b ||| 2 ^ fr))) (A 5 i 0) 9 = some w := h9
      have e7 : oR (sR (sI σ (A 8 r 0) 3 (nI (b ||| 2 ^ fr))) (A 36 r 0) fr w) (A 8 r 0) 5 = some (A 37 r 0) := by simp only [oK_sI, oK_sR, oK_sC, oZ_sI, oZ_sR, oZ_sC, xI_sI, oI_sR, xI_sC, oR_sI, xR_sR, oR_sC, Option.bind_some, if_true, if_false, Nat.reduceEqDiff, true_and, and_true, false_and, and_false, hi]; exact hs.r8_5 hr
      have e8 : oR (sI (sR (sI σ (A 8 r 0) 3 (nI (b ||| 2 ^ fr))) (A 36 r 0) fr w) (A 37 r 0) fr B) (A 8 r 0) 6 = some (A 38 r 0) := by simp only [oK_sI, oK_sR, oK_sC, oZ_sI, oZ_sR, oZ_sC, xI_sI, oI_sR, xI_sC, oR_sI, xR_sR, oR_sC, Option.bind_some, if_true, if_false, Nat.reduceEqDiff, true_and, and_true, false_and, and_false, hi]; exact hs.r8_6 hr
      have e9 : oR (sI (sR (sI σ (A 8 r 0) 3 (nI (b ||| 2 ^ fr))) (A 36 r 0) fr w) (A 37 r 0) fr B) (A 5 i 0) 11 = some (A 30 i 0) := by simp only [oK_sI, oK_sR, oK_sC, oZ_sI, oZ_sR, oZ_sC, xI_sI, oI_sR, xI_sC, oR_sI, xR_sR, oR_sC, Option.bind_some, if_true, if_false, Nat.reduceEqDiff, true_and, and_true, false_and, and_false, hi]; exact hs.r5_11 hi202
      have e10 : oR (sI (sR (sI σ (A 8 r 0) 3 (nI (b ||| 2 ^ fr))) (A 36 r 0) fr w) (A 37 r 0) fr B) (A 38 r 0) fr = some (A 39 r fr) := by simp only [oK_sI, oK_sR, oK_sC, oZ_sI, oZ_sR, oZ_sC, xI_sI, oI_sR, xI_sC, oR_sI, xR_sR, oR_sC, Option.bind_some, if_true, if_false, Nat.reduceEqDiff, true_and, and_true, false_and, and_false, hi]; exact hs.r38 hr hfr
      rw [f_X8_addTurned, x_gI k8, Option.bind_some, x_gI k5, Option.bind_some, h2, t6, t8, o1, x_pI k8, Option.bind_some, x_gR k8a, e5, Option.bind_some, x_gI k5a, Option.bind_some, e1, x_gR k5a, e6, Option.bind_some]
      rw [e_qR (show oK (sI σ (A 8 r 0) 3 (nI (b ||| 2 ^ fr))) (A 36 r 0) = 19 from k36) (show oK (sI σ (A 8 r 0) 3 (nI (b ||| 2 ^ fr))) w = 9 from kw) (show oZ (sI σ (A 8 r 0) 3 (nI (b ||| 2 ^ fr))) (A 36 r 0) = n from z36) hfr hn31, Option.bind_some, x_gR k8b, e7, Option.bind_some, x_gI k5b, Option.bind_some, e2, x_gI k5b, Option.bind_some, e4]
      rw [e_qI (show oK (sR (sI σ (A 8 r 0) 3 (nI (b ||| 2 ^ fr))) (A 36 r 0) fr w) (A 37 r 0) = 13 from k37) (show oZ (sR (sI σ (A 8 r 0) 3 (nI (b ||| 2 ^ fr))) (A 36 r 0) fr w) (A 37 r 0) = n from z37) hfr hn31, Option.bind_some, x_gR k8c, e8, Option.bind_some, x_gI k5c, Option.bind_some, e3]
      rw [e_aR (show oK (sI (sR (sI σ (A 8 r 0) 3 (nI (b ||| 2 ^ fr))) (A 36 r 0) fr w) (A 37 r 0) fr B) (A 38 r 0) = 16 from k38) (show oZ (sI (sR (sI σ (A 8 r 0) 3 (nI (b ||| 2 ^ fr))) (A 36 r 0) fr w) (A 37 r 0) fr B) (A 38 r 0) = n from z38) hfr hn31 e10, Option.bind_some, x_gR k5c, e9, Option.bind_some, x_gO (show oK (sI (sR (sI σ (A 8 r 0) 3 (nI (b ||| 2 ^ fr))) (A 36 r 0) fr w) (A 37 r 0) fr B) (A 39 r fr) = 4 from k39), Option.bind_some, hcp, Option.bind_some]
    have hag : Ag A σ (sI (sC (sI (sR (sI σ (A 8 r 0) 3 (nI (b ||| 2 ^ fr))) (A 36 r 0) fr w) (A 37 r 0) fr B) (A 31 i 0) (A 40 r fr) 0 0 lt) (A 39 r fr) 1 (nI lt)) (fun s i => ¬ (i = r ∧ (s = 8 ∨ s = 36 ∨ s = 37 ∨ s = 39 ∨ s = 40))) := (((((Ag.sI hI).tr (Ag.sR hI)).tr (Ag.sI hI)).tr (Ag.sC hI)).tr (Ag.sI hI)).wk (fun s i h => by omega)
    have hm0 : AgM μ (mT (mT (mT (mT (mT μ 49 r (nI (b ||| 2 ^ fr))) 50 (7 * r + fr) L) 51 (7 * r + fr) S) 52 (7 * r + fr) B) 53 (7 * r + fr) (nI lt)) (fun j i => ¬ (j = 49 ∧ i = r) ∧ ¬ (50 ≤ j ∧ j ≤ 53 ∧ i = 7 * r + fr)) := (((((AgM.mT).tr AgM.mT).tr AgM.mT).tr AgM.mT).tr AgM.mT).wk (fun s i h => by omega)
    have f49 : (mT (mT (mT (mT (mT μ 49 r (nI (b ||| 2 ^ fr))) 50 (7 * r + fr) L) 51 (7 * r + fr) S) 52 (7 * r + fr) B) 53 (7 * r + fr) (nI lt)).2 49 r = nI (b ||| 2 ^ fr) := by simp only [m_P, mT_2, mT_1, mS_1, mS_2, Option.bind_some, Nat.reduceEqDiff, if_true, if_false, true_and, and_true, false_and, and_false]
    have f50 : (mT (mT (mT (mT (mT μ 49 r (nI (b ||| 2 ^ fr))) 50 (7 * r + fr) L) 51 (7 * r + fr) S) 52 (7 * r + fr) B) 53 (7 * r + fr) (nI lt)).2 50 (7 * r + fr) = L := by simp only [m_P, mT_2, mT_1, mS_1, mS_2, Option.bind_some, Nat.reduceEqDiff, if_true, if_false, true_and, and_true, false_and, and_false]
    have f51 : (mT (mT (mT (mT (mT μ 49 r (nI (b ||| 2 ^ fr))) 50 (7 * r + fr) L) 51 (7 * r + fr) S) 52 (7 * r + fr) B) 53 (7 * r + fr) (nI lt)).2 51 (7 * r + fr) = S := by simp only [m_P, mT_2, mT_1, mS_1, mS_2, Option.bind_some, Nat.reduceEqDiff, if_true, if_false, true_and, and_true, false_and, and_false]
    have f52 : (mT (mT (mT (mT (mT μ 49 r (nI (b ||| 2 ^ fr))) 50 (7 * r + fr) L) 51 (7 * r + fr) S) 52 (7 * r + fr) B) 53 (7 * r + fr) (nI lt)).2 52 (7 * r + fr) = B := by simp only [m_P, mT_2, mT_1, mS_1, mS_2, Option.bind_some, Nat.reduceEqDiff, if_true, if_false, true_and, and_true, false_and, and_false]
    have f53 : (mT (mT (mT (mT (mT μ 49 r (nI (b ||| 2 ^ fr))) 50 (7 * r + fr) L) 51 (7 * r + fr) S) 52 (7 * r + fr) B) 53 (7 * r + fr) (nI lt)).2 53 (7 * r + fr) = nI lt := by simp only [m_P, mT_2, mT_1, mS_1, mS_2, Option.bind_some, Nat.reduceEqDiff, if_true, if_false, true_and, and_true, false_and, and_false]
    have f56 : ∀ k, (mT (mT (mT (mT (mT μ 49 r (nI (b ||| 2 ^ fr))) 50 (7 * r + fr) L) 51 (7 * r + fr) S) 52 (7 * r + fr) B) 53 (7 * r + fr) (nI lt)).2 56 k = μ.2 56 k := fun k => by simp only [m_P, mT_2, mT_1, mS_1, mS_2, Option.bind_some, Nat.reduceEqDiff, if_true, if_false, true_and, and_true, false_and, and_false]
    have hml : ∀ s1 : Mu, s1 = mT (mT (mT (mT (mT μ 49 r (nI (b ||| 2 ^ fr))) 50 (7 * r + fr) L) 51 (7 * r + fr) S) 52 (7 * r + fr) B) 53 (7 * r + fr) (nI lt) → f_X12_turned_132 lf s1 (nI r) (nI lt) (nI (7 * r + fr)) 0 = f_X12_merge (cpM s1 56 0 54 (100 * (7 * r + fr) + 0) lt) (nI r) := fun s1 _ => m_turned132 r (by omega) lt lf s1 0 lt (by unfold lf; omega) (by omega) w1
    have hz1 : 7 * r + fr < 49 := by omega
    have hmA : ((m_A μ 49 (nI r)).bind fun v87 => (m_Q μ 49 (nI r) (v87 ||| ((1 : Int32) <<< (nI fr &&& 31)))).bind fun s92 => (m_Q s92 50 (((7 : Int32) * nI r) + nI fr) L).bind fun s101 => (m_Q s101 51 (((7 : Int32) * nI r) + nI fr) S).bind fun s110 => (m_Q s110 52 (((7 : Int32) * nI r) + nI fr) B).bind fun s119 => (m_Q s119 53 (((7 : Int32) * nI r) + nI fr) (nI lt)).bind fun s128 => f_X12_turned_132 lf s128 (nI r) (nI lt) (((7 : Int32) * nI r) + nI fr) 0) = f_X12_merge (cpM (mT (mT (mT (mT (mT μ 49 r (nI (b ||| 2 ^ fr))) 50 (7 * r + fr) L) 51 (7 * r + fr) S) 52 (7 * r + fr) B) 53 (7 * r + fr) (nI lt)) 56 0 54 (100 * (7 * r + fr) + 0) lt) (nI r) := by
      rw [← hml _ rfl, l7, pk_mul, nI_add, mA_n 49 r hr7, Option.bind_some, t8, o1, mQ_n 49 r _ hr7, Option.bind_some, mQ_n 50 _ _ hz1, Option.bind_some, mQ_n 51 _ _ hz1, Option.bind_some, mQ_n 52 _ _ hz1, Option.bind_some, mQ_n 53 _ _ hz1, Option.bind_some]
    rw [hmA]
    generalize hg0 : mT (mT (mT (mT (mT μ 49 r (nI (b ||| 2 ^ fr))) 50 (7 * r + fr) L) 51 (7 * r + fr) S) 52 (7 * r + fr) B) 53 (7 * r + fr) (nI lt) = μ0 at hm0 f49 f50 f51 f52 f53 f56
    have hg1 : μ0.1 = μ.1 := by rw [← hg0]; rfl
    have hcp := cpM_ag μ0 56 0 54 (100 * (7 * r + fr) + 0) lt
    have hm : AgM μ (cpM μ0 56 0 54 (100 * (7 * r + fr) + 0) lt) (fun j i => ¬ (j = 49 ∧ i = r) ∧ ¬ (50 ≤ j ∧ j ≤ 53 ∧ i = 7 * r + fr) ∧ ¬ (j = 54 ∧ 100 * (7 * r + fr) ≤ i ∧ i < 100 * (7 * r + fr) + 100)) := (hm0.tr hcp).wk fun j i h => by refine ⟨⟨?_, ?_⟩, ?_⟩ <;> omega
    have h54 : ∀ k, k < lt → (cpM μ0 56 0 54 (100 * (7 * r + fr) + 0) lt).2 54 (100 * (7 * r + fr) + k) = μ.2 56 k := fun k hk => by
      have := cpM_in (μ := μ0) (js := 56) (os := 0) (jd := 54) (od := 100 * (7 * r + fr) + 0) hk
      rw [Nat.add_zero] at this ⊢
      rw [this, Nat.zero_add, f56]
    have hR1 : RR A n T q h8 vw p u a 0 (sI (sC (sI (sR (sI σ (A 8 r 0) 3 (nI (b ||| 2 ^ fr))) (A 36 r 0) fr w) (A 37 r 0) fr B) (A 31 i 0) (A 40 r fr) 0 0 lt) (A 39 r fr) 1 (nI lt)) (cpM μ0 56 0 54 (100 * (7 * r + fr) + 0) lt) := by
      refine hR.tal hr (((((hs.sI rfl).sR rfl).sI rfl).sC (fun _ => rfl)).sI rfl) (((((hv.sI n8).sR).sI n37).sC n40).sI n39) hag (hm.wk fun j i h => by refine ⟨?_, ?_, ?_⟩ <;> omega) hg1 ?_
      have q46 : (cpM μ0 56 0 54 (100 * (7 * r + fr) + 0) lt).2 46 r = μ.2 46 r := hm 46 r (by refine ⟨?_, ?_, ?_⟩ <;> omega)
      have q47 : (cpM μ0 56 0 54 (100 * (7 * r + fr) + 0) lt).2 47 r = μ.2 47 r := hm 47 r (by refine ⟨?_, ?_, ?_⟩ <;> omega)
      have q48 : (cpM μ0 56 0 54 (100 * (7 * r + fr) + 0) lt).2 48 r = μ.2 48 r := hm 48 r (by refine ⟨?_, ?_, ?_⟩ <;> omega)
      have q49 : (cpM μ0 56 0 54 (100 * (7 * r + fr) + 0) lt).2 49 r = nI (b ||| 2 ^ fr) := by rw [hcp 49 r (by omega)]; exact f49
      unfold RrT
      rw [q46, q47, q48, q49]
      refine ⟨?_, t2, ?_, t4, ?_, ?_, b ||| 2 ^ fr, o2, rfl, ?_, fun o ho hbo => ?_⟩
      · simp only [oK_sI, oK_sR, oK_sC, oZ_sI, oZ_sR, oZ_sC, xI_sI, oI_sR, xI_sC, oR_sI, xR_sR, oR_sC, Option.bind_some, if_true, if_false, Nat.reduceEqDiff, true_and, and_true, false_and, and_false, hi]; exact t1
      · simp only [oK_sI, oK_sR, oK_sC, oZ_sI, oZ_sR, oZ_sC, xI_sI, oI_sR, xI_sC, oR_sI, xR_sR, oR_sC, Option.bind_some, if_true, if_false, Nat.reduceEqDiff, true_and, and_true, false_and, and_false, hi]; exact t3
      · simp only [oK_sI, oK_sR, oK_sC, oZ_sI, oZ_sR, oZ_sC, xI_sI, oI_sR, xI_sC, oR_sI, xR_sR, oR_sC, Option.bind_some, if_true, if_false, Nat.reduceEqDiff, true_and, and_true, false_and, and_false, hi]; exact t5
      · simp only [oK_sI, oK_sR, oK_sC, oZ_sI, oZ_sR, oZ_sC, xI_sI, oI_sR, xI_sC, oR_sI, xR_sR, oR_sC, Option.bind_some, if_true, if_false, Nat.reduceEqDiff, true_and, and_true, false_and, and_false, hi]
      · rw [bit_tb b t7 fr hf7 r hr7, t9]
        simp [show ¬ r = fr from fun e => hne e.symm]
      · have ho7 : o < 7 := by omega
        simp only [rwM_at ho7]
        by_cases c : o = fr
        · subst c
          rw [hcp 50 _ (by omega), hcp 51 _ (by omega), hcp 52 _ (by omega), hcp 53 _ (by omega), f50, f51, f52, f53]
          refine ⟨⟨w, ?_, hvw⟩, hL, ?_, lt, w1, rfl, ?_, fun k hk => ?_⟩
          · simp only [oK_sI, oK_sR, oK_sC, oZ_sI, oZ_sR, oZ_sC, xI_sI, oI_sR, xI_sC, oR_sI, xR_sR, oR_sC, Option.bind_some, if_true, if_false, Nat.reduceEqDiff, true_and, and_true, false_and, and_false, hi]
          · simp only [oK_sI, oK_sR, oK_sC, oZ_sI, oZ_sR, oZ_sC, xI_sI, oI_sR, xI_sC, oR_sI, xR_sR, oR_sC, Option.bind_some, if_true, if_false, Nat.reduceEqDiff, true_and, and_true, false_and, and_false, hi]
          · simp only [oK_sI, oK_sR, oK_sC, oZ_sI, oZ_sR, oZ_sC, xI_sI, oI_sR, xI_sC, oR_sI, xR_sR, oR_sC, Option.bind_some, if_true, if_false, Nat.reduceEqDiff, true_and, and_true, false_and, and_false, hi]
          · rw [rwM_at (by omega), h54 k hk]
            simp only [oK_sI, oK_sR, oK_sC, oZ_sI, oZ_sR, oZ_sC, xI_sI, oI_sR, xI_sC, oR_sI, xR_sR, oR_sC, Option.bind_some, if_true, if_false, Nat.reduceEqDiff, true_and, and_true, false_and, and_false, hi, hk]
            exact w4 k hk
        · have hbo' : b.testBit o = true := by
            rw [bit_tb b t7 fr hf7 o ho7] at hbo
            simpa [c] using hbo
          have hh := t10 o ho hbo'
          simp only [rwM_at ho7] at hh
          have hx : ¬ 7 * r + o = 7 * r + fr := by omega
          rw [hm 50 _ (by refine ⟨?_, ?_, ?_⟩ <;> omega), hm 51 _ (by refine ⟨?_, ?_, ?_⟩ <;> omega), hm 52 _ (by refine ⟨?_, ?_, ?_⟩ <;> omega), hm 53 _ (by refine ⟨?_, ?_, ?_⟩ <;> omega), rwM_ag (fun k hk => hm 54 _ (by refine ⟨?_, ?_, ?_⟩ <;> omega))]
          simp only [logR, oK_sI, oK_sR, oK_sC, oZ_sI, oZ_sR, oZ_sC, xI_sI, oI_sR, xI_sC, oR_sI, xR_sR, oR_sC, Option.bind_some, if_true, if_false, Nat.reduceEqDiff, true_and, and_true, false_and, and_false, hi, c]
          exact hh
    have hk1 : Kp A n p σ (sI (sC (sI (sR (sI σ (A 8 r 0) 3 (nI (b ||| 2 ^ fr))) (A 36 r 0) fr w) (A 37 r 0) fr B) (A 31 i 0) (A 40 r fr) 0 0 lt) (A 39 r fr) 1 (nI lt)) μ (cpM μ0 56 0 54 (100 * (7 * r + fr) + 0) lt) := Kp.mk' (hag.wk fun s i h => by omega) (hm.wk fun j i h => by refine ⟨?_, ?_, ?_⟩ <;> omega) (fun k _ _ _ => by show μ0.1 k = _; rw [hg1])
    obtain ⟨b2, hT2⟩ := ((hR1.2.2.2.2.2.1 r hr).sp.2.2.2).tb h7.2
    rw [x_gR k6, hs.r6_14 hr, Option.bind_some, x_gO k8, Option.bind_some, hadd, Option.bind_some, x_gR (hR1.1.k6 hr), hR1.1.r6_14 hr, Option.bind_some, x_gI (hR1.1.k8 hr), Option.bind_some, x_gO (hR1.1.k6 hr), Option.bind_some, hT2.1]
    have hh := rcv_merge hR1 hr hT2
    rw [x_gO (hR1.1.k6 hr)] at hh
    exact hh.tr hk1
  · rw [if_neg c0, if_neg c0, x_gI k5, Option.bind_some, h2, x_gO k6, Option.bind_some]
    obtain ⟨σ', w', μ', a', g1, g2, g3, g4, g5, g6⟩ := sd_log (t := 0) (ab := 0) hR hr (x := 10) (kk := 10) rfl (by omega) hfr (by omega) (by omega)
    rw [g1, Option.bind_some, g2, Option.bind_some, mA_n 38 r hr7, Option.bind_some, g3, g4, Option.bind_some]
    exact ⟨σ', μ', a', vw, rfl, rfl, Vle.rf, g5, g6.kp⟩
end MRT
