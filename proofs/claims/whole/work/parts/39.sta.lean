/-! a start view -/
section STA
variable {A : Ad} {n T q : Nat} {hb : Nat → Nat} {vw : Vw} {p u : Nat → Nat} {a r : Nat} {σ σ' : Hp} {μ μ' : Mu}
theorem m_start96 (x1 : Nat) (h2 : x1 < 7) : ∀ d (F : Nat) (μ : Mu) (k l : Nat), d < F → l = k + d → l ≤ 100 → f_X12_start_96 F μ (nI x1) (nI l) (nI k) = f_X12_settle (cpM μ 56 k 42 (100 * x1 + k) d) (nI x1) := by
  intro d
  induction d with
  | zero =>
    intro F μ k l hF hl h100
    obtain ⟨F, rfl⟩ : ∃ f, F = f + 1 := ⟨F - 1, by omega⟩
    show b_X12_start_96 (f_X12_start_96 F) μ _ _ _ = _
    have e1 : nI l ≤ nI k := (nI_leI (by omega) (by omega)).mpr (by omega)
    rw [b_X12_start_96, if_pos e1, cpM_0, Option.bind_fun_some]
  | succ d ih =>
    intro F μ k l hF hl h100
    obtain ⟨F, rfl⟩ : ∃ f, F = f + 1 := ⟨F - 1, by omega⟩
    show b_X12_start_96 (f_X12_start_96 F) μ _ _ _ = _
    have e1 : ¬ nI l ≤ nI k := fun e => by rw [nI_leI (by omega) (by omega)] at e; omega
    rw [b_X12_start_96, if_neg e1, mA_n 56 _ (by simp only [mZ]; omega), Option.bind_some, l100, pk_mul, nI_add, mQ_n 42 _ _ (by simp only [mZ]; omega), Option.bind_some, l1, nI_add]
    rw [ih F _ (k + 1) l (by omega) (by omega) h100, ← cpM_s μ d (by decide)]
    rfl
/-- a taken message's log -/
def TkL (A : Ad) (q : Nat) (σ : Hp) (μ : Mu) (i : Nat) (len : Int32) : Prop := logR q (oI σ (A 30 i 0)) (oI σ (A 31 i 0)) len (fun k => μ.2 56 k)
theorem settle_c {σ : Hp} {μ : Mu} (hs : Rs A n σ) (hr : r < n) {v : Nat} (h4 : oR σ (A 6 r 0) 4 = some v) : f_X6_becomeNormal σ (A 6 r 0) = some (sI (sI (sI (sI (sI (sR (sI σ (A 6 r 0) 3 0) (A 6 r 0) 5 v) (A 3 r 0) 2 0) (A 8 r 0) 0 0) (A 8 r 0) 1 0) (A 8 r 0) 3 0) (A 6 r 0) 8 0) ∧ f_X12_settle μ (nI r) = some (mT (mT (mT (mT (mT (mT (mT (mT μ 35 r 0) 36 r (μ.2 33 r)) 37 r (μ.2 34 r)) 43 r 0) 46 r 0) 47 r 0) 49 r 0) 41 r 0) := by
  have h7 := hs.np
  have hi := hs.inj
  have hr7 : r < 7 := by omega
  have k6 := hs.k6 hr
  have k3 := hs.k3 hr
  have k8 := hs.k8 hr
  constructor
  · simp only [f_X6_becomeNormal, f_X6_forget, f_X8_clear, x_gI, x_gR, x_gO, x_pI, x_pR, x_aI, x_aR, x_qI, x_qR, x_aL, oK_sI, oK_sR, oK_sC, oZ_sI, oZ_sR, oZ_sC, xI_sI, oI_sR, xI_sC, oR_sI, xR_sR, oR_sC, Option.bind_some, if_true, if_false, Nat.reduceEqDiff, true_and, and_true, false_and, and_false, k6, k3, k8, hi, hs.r6_1 hr, hs.r6_14 hr, h4]
  · simp only [f_X12_settle, f_X12_forget, mA_n, mQ_n, m_P, mT_2, mT_1, mS_1, mS_2, mZ, Option.bind_some, if_true, if_false, true_and, and_true, false_and, and_false, Nat.reduceEqDiff, Nat.reduceLT, hr7]
theorem start36 (hR : RR A n T q h8 vw p u a 0 σ μ) (hr : r < n) {i : Nat} (hi202 : i < 202) {w : Nat} {L S B len : Int32} (hw : oR σ (A 5 i 0) 4 = some w) (hvw : vw w = some (L, S)) (hL : Sm T L) (hB : oI σ (A 5 i 0) 10 = B) (hl : TkL A q σ μ i len) (hp : i = p 200) : St A n T q vw p u σ μ (f_X6_receiveStart_36 σ (A 6 r 0) (A 5 i 0)) (f_X12_start_63 μ (nI r) L S B len) := by
  have hs := hR.1
  have h7 := hs.np
  have hi := hs.inj
  have hI := hs.1
  have hr7 : r < 7 := by omega
  have k6 := hs.k6 hr
  have k3 := hs.k3 hr
  have k8 := hs.k8 hr
  have k5 := hs.k5 hi202
  have k30 := hs.k30 hi202
  have k31 := hs.k31 hi202
  have k32 := hs.k32 hr
  have k33 := hs.k33 hr
  have n6 : oK σ (A 6 r 0) ≠ 9 := by rw [k6]; decide
  have n3 : oK σ (A 3 r 0) ≠ 9 := by rw [k3]; decide
  have n8 : oK σ (A 8 r 0) ≠ 9 := by rw [k8]; decide
  have n32 : oK σ (A 32 r 0) ≠ 9 := by rw [k32]; decide
  have n33 : oK σ (A 33 r 0) ≠ 9 := by rw [k33]; decide
  obtain ⟨l, q1, q2, q3, q4⟩ := hl
  obtain ⟨⟨⟨a1, a2⟩, ⟨a3, a4⟩, a5, a6, a7, a8, a9⟩, gL, gH, gT⟩ := (hR.2.2.2.2.2.1 r hr).sp
  have hcp := c_copy (σ := sI (sR σ (A 6 r 0) 4 w) (A 6 r 0) 6 B) (d := A 32 r 0) (s := A 30 i 0) (e := A 33 r 0) (f := A 31 i 0) (l := l) k32 k30 (by simp only [oK_sI, oK_sR, oK_sC, oZ_sI, oZ_sR, oZ_sC, xI_sI, oI_sR, xI_sC, oR_sI, xR_sR, oR_sC, Option.bind_some, if_true, if_false, Nat.reduceEqDiff, true_and, and_true, false_and, and_false, hi]; exact hs.r32_0 hr) (by simp only [oK_sI, oK_sR, oK_sC, oZ_sI, oZ_sR, oZ_sC, xI_sI, oI_sR, xI_sC, oR_sI, xR_sR, oR_sC, Option.bind_some, if_true, if_false, Nat.reduceEqDiff, true_and, and_true, false_and, and_false, hi]; exact hs.r30_0 hi202) k33 k31 (hs.z33 hr) (hs.z31 hi202) (by simp only [oK_sI, oK_sR, oK_sC, oZ_sI, oZ_sR, oZ_sC, xI_sI, oI_sR, xI_sC, oR_sI, xR_sR, oR_sC, Option.bind_some, if_true, if_false, Nat.reduceEqDiff, true_and, and_true, false_and, and_false, hi]; exact q3) q1
  have s1 : Rs A n (sI (sC (sI (sR σ (A 6 r 0) 4 w) (A 6 r 0) 6 B) (A 31 i 0) (A 33 r 0) 0 0 l) (A 32 r 0) 1 (nI l)) := (((hs.sR rfl).sI rfl).sC (fun _ => rfl)).sI rfl
  obtain ⟨b1', b2⟩ := settle_c (μ := cpM (mT (mT (mT (mT μ 33 r L) 34 r S) 39 r B) 38 r len) 56 0 42 (100 * r + 0) l) s1 hr (v := w) (by simp only [oK_sI, oK_sR, oK_sC, oZ_sI, oZ_sR, oZ_sC, xI_sI, oI_sR, xI_sC, oR_sI, xR_sR, oR_sC, Option.bind_some, if_true, if_false, Nat.reduceEqDiff, true_and, and_true, false_and, and_false, hi])
  have hcl : f_X6_receiveStart_36 σ (A 6 r 0) (A 5 i 0) = some (sI (sI (sI (sI (sI (sR (sI (sI (sC (sI (sR σ (A 6 r 0) 4 w) (A 6 r 0) 6 B) (A 31 i 0) (A 33 r 0) 0 0 l) (A 32 r 0) 1 (nI l)) (A 6 r 0) 3 0) (A 6 r 0) 5 w) (A 3 r 0) 2 0) (A 8 r 0) 0 0) (A 8 r 0) 1 0) (A 8 r 0) 3 0) (A 6 r 0) 8 0) := by
    have k32' := s1.k32 hr
    have k6' := s1.k6 hr
    unfold f_X6_receiveStart_36
    rw [x_gR k5, hw, Option.bind_some, x_pR k6, Option.bind_some, x_gI (show oK (sR σ (A 6 r 0) 4 w) (A 5 i 0) = 5 from k5), Option.bind_some, show oI (sR σ (A 6 r 0) 4 w) (A 5 i 0) 10 = B from hB, x_pI (show oK (sR σ (A 6 r 0) 4 w) (A 6 r 0) = 6 from k6), Option.bind_some]
    rw [x_gR (show oK (sI (sR σ (A 6 r 0) 4 w) (A 6 r 0) 6 B) (A 6 r 0) = 6 from k6), show oR (sI (sR σ (A 6 r 0) 4 w) (A 6 r 0) 6 B) (A 6 r 0) 0 = some (A 32 r 0) from ((hs.sR (s := 6) (k := 4) (v := w) (i := r) (j := 0) rfl).sI (s := 6) (k := 6) (x := B) (i := r) (j := 0) rfl).r6_0 hr, Option.bind_some]
    rw [x_gR (show oK (sI (sR σ (A 6 r 0) 4 w) (A 6 r 0) 6 B) (A 5 i 0) = 5 from k5), show oR (sI (sR σ (A 6 r 0) 4 w) (A 6 r 0) 6 B) (A 5 i 0) 11 = some (A 30 i 0) from ((hs.sR (s := 6) (k := 4) (v := w) (i := r) (j := 0) rfl).sI (s := 6) (k := 6) (x := B) (i := r) (j := 0) rfl).r5_11 hi202, Option.bind_some, x_gO (show oK (sI (sR σ (A 6 r 0) 4 w) (A 6 r 0) 6 B) (A 32 r 0) = 4 from k32), Option.bind_some, hcp, Option.bind_some, x_gO k6', Option.bind_some, b1', Option.bind_some]
  have hml : f_X12_start_63 μ (nI r) L S B len = f_X12_settle (cpM (mT (mT (mT (mT μ 33 r L) 34 r S) 39 r B) 38 r len) 56 0 42 (100 * r + 0) l) (nI r) := by
    rw [← m_start96 r hr7 l lf _ 0 l (by unfold lf; omega) (by omega) q1]
    simp only [f_X12_start_63, mA_n, mQ_n, m_P, mT_2, mT_1, mS_1, mS_2, mZ, Option.bind_some, if_true, if_false, true_and, and_true, false_and, and_false, Nat.reduceEqDiff, Nat.reduceLT, hr7, q2]
    rfl
  rw [hcl, hml, b2]
  have hc : Ag A σ (sI (sI (sI (sI (sI (sR (sI (sI (sC (sI (sR σ (A 6 r 0) 4 w) (A 6 r 0) 6 B) (A 31 i 0) (A 33 r 0) 0 0 l) (A 32 r 0) 1 (nI l)) (A 6 r 0) 3 0) (A 6 r 0) 5 w) (A 3 r 0) 2 0) (A 8 r 0) 0 0) (A 8 r 0) 1 0) (A 8 r 0) 3 0) (A 6 r 0) 8 0) (fun s i => ¬ (i = r ∧ (s = 6 ∨ s = 3 ∨ s = 8 ∨ s = 32 ∨ s = 33))) := (((((((((((Ag.sR hI).tr (Ag.sI hI)).tr (Ag.sC hI)).tr (Ag.sI hI)).tr (Ag.sI hI)).tr (Ag.sR hI)).tr (Ag.sI hI)).tr (Ag.sI hI)).tr (Ag.sI hI)).tr (Ag.sI hI)).tr (Ag.sI hI)).wk (fun s i h => by omega)
  have hm0 : AgM μ (cpM (mT (mT (mT (mT μ 33 r L) 34 r S) 39 r B) 38 r len) 56 0 42 (100 * r + 0) l) (fun j i => ¬ (i = r ∧ (j = 33 ∨ j = 34 ∨ j = 39 ∨ j = 38)) ∧ ¬ (j = 42 ∧ 100 * r ≤ i ∧ i < 100 * r + 100)) := (((((AgM.mT).tr AgM.mT).tr AgM.mT).tr AgM.mT).tr (cpM_ag _ _ _ _ _ _)).wk (fun s i h => by omega)
  have f33 : (cpM (mT (mT (mT (mT μ 33 r L) 34 r S) 39 r B) 38 r len) 56 0 42 (100 * r + 0) l).2 33 r = L := by rw [cpM_ag _ _ _ _ _ _ 33 r (by omega)]; simp only [m_P, mT_2, mT_1, mS_1, mS_2, Option.bind_some, Nat.reduceEqDiff, if_true, if_false, true_and, and_true, false_and, and_false]
  have f34 : (cpM (mT (mT (mT (mT μ 33 r L) 34 r S) 39 r B) 38 r len) 56 0 42 (100 * r + 0) l).2 34 r = S := by rw [cpM_ag _ _ _ _ _ _ 34 r (by omega)]; simp only [m_P, mT_2, mT_1, mS_1, mS_2, Option.bind_some, Nat.reduceEqDiff, if_true, if_false, true_and, and_true, false_and, and_false]
  have f39 : (cpM (mT (mT (mT (mT μ 33 r L) 34 r S) 39 r B) 38 r len) 56 0 42 (100 * r + 0) l).2 39 r = B := by rw [cpM_ag _ _ _ _ _ _ 39 r (by omega)]; simp only [m_P, mT_2, mT_1, mS_1, mS_2, Option.bind_some, Nat.reduceEqDiff, if_true, if_false, true_and, and_true, false_and, and_false]
  have f38 : (cpM (mT (mT (mT (mT μ 33 r L) 34 r S) 39 r B) 38 r len) 56 0 42 (100 * r + 0) l).2 38 r = len := by rw [cpM_ag _ _ _ _ _ _ 38 r (by omega)]; simp only [m_P, mT_2, mT_1, mS_1, mS_2, Option.bind_some, Nat.reduceEqDiff, if_true, if_false, true_and, and_true, false_and, and_false]
  have f42 : ∀ k, k < l → (cpM (mT (mT (mT (mT μ 33 r L) 34 r S) 39 r B) 38 r len) 56 0 42 (100 * r + 0) l).2 42 (100 * r + k) = μ.2 56 k := fun k hk => by
    have := cpM_in (μ := mT (mT (mT (mT μ 33 r L) 34 r S) 39 r B) 38 r len) (js := 56) (os := 0) (jd := 42) (od := 100 * r + 0) hk
    rw [Nat.add_zero] at this ⊢
    rw [this]
    simp only [m_P, mT_2, mT_1, mS_1, mS_2, Option.bind_some, Nat.reduceEqDiff, if_true, if_false, true_and, and_true, false_and, and_false, Nat.zero_add]
  generalize hg : cpM (mT (mT (mT (mT μ 33 r L) 34 r S) 39 r B) 38 r len) 56 0 42 (100 * r + 0) l = μ0 at hm0 f33 f34 f38 f39 f42
  have hg1 : μ0.1 = μ.1 := by rw [← hg]; rfl
  have hm : AgM μ (mT (mT (mT (mT (mT (mT (mT (mT μ0 35 r 0) 36 r (μ0.2 33 r)) 37 r (μ0.2 34 r)) 43 r 0) 46 r 0) 47 r 0) 49 r 0) 41 r 0) (fun j i => ¬ (i = r ∧ 32 < j ∧ j < 50 ∧ j ≠ 42 ∧ j ≠ 44 ∧ j ≠ 45) ∧ ¬ (j = 42 ∧ 100 * r ≤ i ∧ i < 100 * r + 100)) := (((((((((hm0).tr AgM.mT).tr AgM.mT).tr AgM.mT).tr AgM.mT).tr AgM.mT).tr AgM.mT).tr AgM.mT).tr AgM.mT).wk (fun s i h => by omega)
  refine ⟨_, _, a, vw, rfl, rfl, Vle.rf, hR.rst hr (((((((s1.sI rfl).sR rfl).sI rfl).sI rfl).sI rfl).sI rfl).sI rfl) ((((((((((((hR.2.1.sR).sI n6).sC n33).sI n32).sI n6).sR).sI n3).sI n8).sI n8).sI n8).sI n6)) (hc.wk fun s i h => by unfold fpR at h; omega) (hm.wk fun j i h => by unfold fmR at h; omega) hg1 ?_ ?_ ?_ ?_, Kp.mk2 (hc.wk fun s i h => by omega) (hm.wk fun j i h => by omega) (fun k _ _ _ => by show μ0.1 k = _; rw [hg1]) (Gx.of35 (r := r) (fun i h => hm 35 i (by omega)) (fun i h => hm 38 i (by omega)) (by simp only [m_P, mT_2, mT_1, mS_1, mS_2, Option.bind_some, Nat.reduceEqDiff, if_true, if_false, true_and, and_true, false_and, and_false]; decide))⟩
  · unfold RrS
    simp only [oK_sI, oK_sR, oK_sC, oZ_sI, oZ_sR, oZ_sC, xI_sI, oI_sR, xI_sC, oR_sI, xR_sR, oR_sC, Option.bind_some, if_true, if_false, Nat.reduceEqDiff, true_and, and_true, false_and, and_false, m_P, mT_2, mT_1, mS_1, mS_2, Option.bind_some, Nat.reduceEqDiff, if_true, if_false, true_and, and_true, false_and, and_false, hi, a1, a8, f33, f34, f39, hm0 32 r (by omega), hm0 40 r (by omega)]
    exact ⟨a2, Sm.z 2, ⟨⟨w, rfl, hvw⟩, hL⟩, ⟨w, rfl, hvw⟩, hL⟩
  · refine ⟨l, q1, ?_, ?_, fun k hk => ?_⟩
    · simp only [m_P, mT_2, mT_1, mS_1, mS_2, Option.bind_some, Nat.reduceEqDiff, if_true, if_false, true_and, and_true, false_and, and_false, f38, q2]
    · simp only [oK_sI, oK_sR, oK_sC, oZ_sI, oZ_sR, oZ_sC, xI_sI, oI_sR, xI_sC, oR_sI, xR_sR, oR_sC, Option.bind_some, if_true, if_false, Nat.reduceEqDiff, true_and, and_true, false_and, and_false, hi]
    · rw [rwM_at (by omega)]
      simp only [oK_sI, oK_sR, oK_sC, oZ_sI, oZ_sR, oZ_sC, xI_sI, oI_sR, xI_sC, oR_sI, xR_sR, oR_sC, Option.bind_some, if_true, if_false, Nat.reduceEqDiff, true_and, and_true, false_and, and_false, m_P, mT_2, mT_1, mS_1, mS_2, Option.bind_some, Nat.reduceEqDiff, if_true, if_false, true_and, and_true, false_and, and_false, hi, hk, f42 k hk]
      exact q4 k hk
  · simp only [oK_sI, oK_sR, oK_sC, oZ_sI, oZ_sR, oZ_sC, xI_sI, oI_sR, xI_sC, oR_sI, xR_sR, oR_sC, Option.bind_some, if_true, if_false, Nat.reduceEqDiff, true_and, and_true, false_and, and_false, m_P, mT_2, mT_1, mS_1, mS_2, Option.bind_some, Nat.reduceEqDiff, if_true, if_false, true_and, and_true, false_and, and_false, hi, and_self]
  · simp only [oK_sI, oK_sR, oK_sC, oZ_sI, oZ_sR, oZ_sC, xI_sI, oI_sR, xI_sC, oR_sI, xR_sR, oR_sC, Option.bind_some, if_true, if_false, Nat.reduceEqDiff, true_and, and_true, false_and, and_false, m_P, mT_2, mT_1, mS_1, mS_2, Option.bind_some, Nat.reduceEqDiff, if_true, if_false, true_and, and_true, false_and, and_false, hi, and_self, hm0 48 r (by omega)]
    exact gT.2.2.2.2.1
end STA
