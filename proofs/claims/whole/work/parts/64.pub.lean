/-! the public methods of the replicas -/
section PUC
variable {A : Ad} {n T q t tb : Nat} {hb : Nat → Nat} {vw : Vw} {p u : Nat → Nat} {a r : Nat} {σ σ' : Hp} {μ μ' : Mu}
theorem Kp.d32 (hk : Kp A n p σ σ' μ μ') (k : Nat) : dwn μ' k = dwn μ k := dwn_cg (fun i => hk.2.1 32 i (Or.inr (Or.inr (Or.inr rfl)))) k
theorem dwn_th (y : Int32) (k : Nat) : dwn (mS μ 0 y) k = dwn μ k := dwn_cg (fun _ => rfl) k
theorem Kp.t0 (hk : Kp A n p σ σ' μ μ') : μ'.1 0 = μ.1 0 := hk.2.2.1 0 (by decide) (by decide) (by decide)
theorem St.inv {c : Option Hp} {m : Option Mu} (hq : q ≤ t) (hd : Ok n μ) (h : St A n t q vw p u σ μ c m) : ∃ σ' μ', c = some σ' ∧ m = some μ' ∧ Inv n t (A 11 0 0) σ' μ' ∧ μ'.1 0 = μ.1 0 := by
  obtain ⟨σ', μ', a', vw', h1, h2, h3, h4, h5⟩ := h
  exact ⟨σ', μ', h1, h2, h4.inv hq (hd.cg (fun i => h5.2.1 32 i (Or.inr (Or.inr (Or.inr rfl)))) h5.2.2.2), h5.t0⟩
theorem dn_loop (hR : RR A n t q h8 vw p u a 0 σ μ) (x : Int32) : ∀ (d F F' k : Nat), d < F → d < F' → n = k + d → f_X11_downNow_13 F σ (nI (dwn μ k)) (A 24 0 0) (nI n) (nI k) = some (nI (dwn μ n)) ∧ f_X12_down_4 F' μ x (nI (dwn μ k)) (nI k) = f_X12_down_35 μ x (nI (dwn μ n)) := by
  have hs := hR.1
  have h7 := hs.np
  have h1 : μ.1 1 = nI n := hR.2.2.1.2.2.2.2.1
  intro d
  induction d with
  | zero =>
    intro F F' k hF hF' hn
    obtain ⟨F, rfl⟩ : ∃ f, F = f + 1 := ⟨F - 1, by omega⟩
    obtain ⟨F', rfl⟩ : ∃ f, F' = f + 1 := ⟨F' - 1, by omega⟩
    have e1 : nI n ≤ nI k := (nI_leI (by omega) (by omega)).mpr (by omega)
    have e2 : k = n := by omega
    constructor
    · show b_X11_downNow_13 (f_X11_downNow_13 F) _ _ _ _ _ = _
      rw [b_X11_downNow_13, if_pos e1, e2]
    · show b_X12_down_4 (f_X12_down_4 F') _ _ _ _ = _
      rw [b_X12_down_4, h1, if_pos e1, e2]
  | succ d ih =>
    intro F F' k hF hF' hn
    obtain ⟨F, rfl⟩ : ∃ f, F = f + 1 := ⟨F - 1, by omega⟩
    obtain ⟨F', rfl⟩ : ∃ f, F' = f + 1 := ⟨F' - 1, by omega⟩
    have e1 : ¬ nI n ≤ nI k := fun e => by rw [nI_leI (by omega) (by omega)] at e; omega
    have hk : k < n := by omega
    have hk7 : k < 7 := by omega
    obtain ⟨g1, g2⟩ := ih F F' (k + 1) (by omega) (by omega) (by omega)
    have hr32 : oI σ (A 6 k 0) 2 = μ.2 32 k := (hR.2.2.2.2.2.1 k hk).sp.1.1.1
    obtain ⟨w1, w2⟩ := c_row hs hk
    constructor
    · show b_X11_downNow_13 (f_X11_downNow_13 F) _ _ _ _ _ = _
      rw [b_X11_downNow_13, if_neg e1, w2, Option.bind_some, x_gI (hs.k6 hk), Option.bind_some, hr32]
      simp only [f_X11_downNow_36, nI_1]
      rw [dwn_s] at g1
      by_cases c : μ.2 32 k = 0
      · rw [if_pos c] at g1 ⊢
        exact g1
      · rw [if_neg c] at g1 ⊢
        exact g1
    · show b_X12_down_4 (f_X12_down_4 F') _ _ _ _ = _
      rw [b_X12_down_4, h1, if_neg e1, mA_n 32 k hk7, Option.bind_some]
      simp only [f_X12_down_27, nI_1]
      rw [dwn_s] at g2
      by_cases c : μ.2 32 k = 0
      · rw [if_pos c] at g2 ⊢
        rw [l0, nI_add]
        exact g2
      · rw [if_neg c] at g2 ⊢
        exact g2
theorem dwn_le (μ : Mu) (k : Nat) : dwn μ k ≤ k := by
  induction k with
  | zero => exact Nat.le_refl _
  | succ k ih =>
    rw [dwn_s]
    split <;> omega
theorem dwn_set {x : Int32} (hr : ¬ μ.2 32 r = x ∨ True) (k : Nat) : dwn (mT μ 32 r x) k + (if r < k then (if μ.2 32 r = 0 then 0 else 1) else 0) = dwn μ k + (if r < k then (if x = 0 then 0 else 1) else 0) := by
  induction k with
  | zero => rfl
  | succ k ih =>
    rw [dwn_s, dwn_s]
    have e : (mT μ 32 r x).2 32 k = if k = r then x else μ.2 32 k := by simp only [m_P, mT_2, mT_1, mS_1, mS_2, Option.bind_some, Nat.reduceEqDiff, if_true, if_false, true_and, and_true, false_and, and_false]
    rw [e]
    by_cases c : k = r
    · subst c
      rw [if_pos rfl]
      rw [if_neg (show ¬ k < k by omega), if_neg (show ¬ k < k by omega)] at ih
      rw [if_pos (show k < k + 1 by omega), if_pos (show k < k + 1 by omega)]
      omega
    · rw [if_neg c]
      by_cases c2 : r < k
      · rw [if_pos c2, if_pos c2] at ih
        rw [if_pos (show r < k + 1 by omega), if_pos (show r < k + 1 by omega)]
        omega
      · rw [if_neg c2, if_neg c2] at ih
        rw [if_neg (show ¬ r < k + 1 by omega), if_neg (show ¬ r < k + 1 by omega)]
        omega
theorem fgt_c (hR : RR A n t q h8 vw p u a 0 σ μ) (hr : r < n) : ∃ σ' μ', f_X6_forget σ (A 6 r 0) = some σ' ∧ f_X12_forget μ (nI r) = some μ' ∧ RR A n t q h8 vw p u a 0 σ' μ' ∧ (∀ j i, 32 ≤ j → j ≤ 38 → μ'.2 j i = μ.2 j i) ∧ μ'.1 = μ.1 := by
  have hs := hR.1
  have h7 := hs.np
  have hi := hs.inj
  have hI := hs.1
  have hr7 : r < 7 := by omega
  have k6 := hs.k6 hr
  have k3 := hs.k3 hr
  have k8 := hs.k8 hr
  have n3 : oK σ (A 3 r 0) ≠ 9 := by rw [k3]; decide
  have n8 : oK σ (A 8 r 0) ≠ 9 := by rw [k8]; decide
  obtain ⟨gS, gL, -, gT⟩ := (hR.2.2.2.2.2.1 r hr).sp
  have hc : Ag A σ (sI (sI (sI (sI σ (A 3 r 0) 2 0) (A 8 r 0) 0 0) (A 8 r 0) 1 0) (A 8 r 0) 3 0) (fun s i => ¬ (i = r ∧ (s = 3 ∨ s = 8))) := ((((Ag.sI hI).tr (Ag.sI hI)).tr (Ag.sI hI)).tr (Ag.sI hI)).wk (fun s i h => by omega)
  have hm : AgM μ (mT (mT (mT (mT μ 43 r 0) 46 r 0) 47 r 0) 49 r 0) (fun j i => ¬ (i = r ∧ (j = 43 ∨ j = 46 ∨ j = 47 ∨ j = 49))) := ((((AgM.mT).tr AgM.mT).tr AgM.mT).tr AgM.mT).wk (fun s i h => by omega)
  refine ⟨_, _, ?_, ?_, hR.rst hr ((((hs.sI rfl).sI rfl).sI rfl).sI rfl) ((((hR.2.1.sI n3).sI n8).sI n8).sI n8) (hc.wk fun s i h => by unfold fpR at h; omega) (hm.wk fun j i h => by unfold fmR at h; omega) rfl (gS.cg ?_ ?_ fun j h1 h2 h3 => hm _ _ (by omega)) (gL.cg ?_ ?_ (hm _ _ (by omega)) fun k hk => hm _ _ (by omega)) ?_ ?_, fun j i _ _ => hm j i (by omega), rfl⟩
  · simp only [f_X6_forget, f_X8_clear, x_gI, x_gR, x_gO, x_pI, x_pR, x_aI, x_aR, x_qI, x_qR, x_aL, oK_sI, oK_sR, oK_sC, oZ_sI, oZ_sR, oZ_sC, xI_sI, oI_sR, xI_sC, oR_sI, xR_sR, oR_sC, Option.bind_some, if_true, if_false, Nat.reduceEqDiff, true_and, and_true, false_and, and_false, k6, k3, k8, hi, hs.r6_1 hr, hs.r6_14 hr]
  · simp only [f_X12_forget, mA_n, mQ_n, m_P, mT_2, mT_1, mS_1, mS_2, mZ, Option.bind_some, if_true, if_false, true_and, and_true, false_and, and_false, Nat.reduceEqDiff, Nat.reduceLT, hr7]
  · exact (hc 6 r 0 (by omega)).1
  · exact (hc 6 r 0 (by omega)).2
  · exact (hc 32 r 0 (by omega)).1
  · exact (hc 33 r 0 (by omega)).1
  · simp only [oK_sI, oK_sR, oK_sC, oZ_sI, oZ_sR, oZ_sC, xI_sI, oI_sR, xI_sC, oR_sI, xR_sR, oR_sC, Option.bind_some, if_true, if_false, Nat.reduceEqDiff, true_and, and_true, false_and, and_false, m_P, mT_2, mT_1, mS_1, mS_2, Option.bind_some, Nat.reduceEqDiff, if_true, if_false, true_and, and_true, false_and, and_false, hi, and_self]
  · simp only [oK_sI, oK_sR, oK_sC, oZ_sI, oZ_sR, oZ_sC, xI_sI, oI_sR, xI_sC, oR_sI, xR_sR, oR_sC, Option.bind_some, if_true, if_false, Nat.reduceEqDiff, true_and, and_true, false_and, and_false, m_P, mT_2, mT_1, mS_1, mS_2, Option.bind_some, Nat.reduceEqDiff, if_true, if_false, true_and, and_true, false_and, and_false, hi, and_self]
    exact gT.2.2.2.2.1
theorem pb_down (hI : Inv n t tb σ μ) (x : Int32) : ∃ cd v σ' μ', f_X11_down σ tb x = some (cd, v, σ') ∧ f_X12_down μ x = some μ' ∧ Inv n t tb σ' μ' ∧ ((cd = 0 ∧ μ'.1 0 = 0) ∨ (cd = 1 ∧ μ'.1 0 = 1) ∨ (cd = 3 ∧ μ'.1 0 = 2)) := by
  obtain ⟨hd, A, q, vw, p, u, a, rfl, hq, hR⟩ := hI
  have hs := hR.1
  have h7 := hs.np
  have k11 := hs.k11
  have h1 : μ.1 1 = nI n := hR.2.2.1.2.2.2.2.1
  have h2 : μ.1 2 = nI (n / 2) := hR.2.2.1.2.2.2.2.2
  have hlf : n < lf := by unfold lf; omega
  obtain ⟨g1, g2⟩ := dn_loop hR x n lf lf 0 hlf hlf (by omega)
  have hm : f_X12_down μ x = f_X12_down_35 μ x (nI (dwn μ n)) := g2
  have hc : f_X11_downNow σ (A 11 0 0) = some (nI (dwn μ n)) := by
    rw [f_X11_downNow, (c_row hs (by omega : 0 < n)).1, Option.bind_some, x_aL hs.k24, hs.z24, Option.bind_some]
    exact g1
  have hle := dwn_le μ n
  rcases c_rpl hR x with ⟨r, hr, rfl, e1, e2⟩ | ⟨e1, e2⟩
  · have hr7 : r < 7 := by omega
    obtain ⟨w1, w2⟩ := c_row hs hr
    have k6 := hs.k6 hr
    have hr32 : oI σ (A 6 r 0) 2 = μ.2 32 r := (hR.2.2.2.2.2.1 r hr).sp.1.1.1
    have ed : nI n / (2 : Int32) = nI (n / 2) := by rw [l2, pk_div (by omega) (by omega) (by omega)]
    have hI2 : Inv n t (A 11 0 0) σ (mS μ 0 2) := (hR.th 2).inv hq (hd.th 2)
    by_cases c1 : μ.2 32 r = 0
    · by_cases c2 : dwn μ n < n / 2
      · have d1 := set6 (hR.th 0) hr (k := 2) (j := 32) (x := 1) (Or.inl ⟨rfl, rfl, Or.inr rfl⟩)
        obtain ⟨w3, w4⟩ := c_row d1.1 hr
        obtain ⟨σ', μ', f1, f2, f3, f4, f5⟩ := fgt_c d1 hr
        have hds := dwn_set (μ := mS μ 0 0) (r := r) (x := 1) (Or.inr True.intro) n
        rw [if_pos hr, if_pos hr, if_pos (show (mS μ 0 0).2 32 r = 0 from c1), if_neg n10, dwn_th] at hds
        refine ⟨0, 0, σ', μ', ?_, ?_, f3.inv hq (Ok.rw (μ := mT (mS μ 0 0) 32 r 1) ⟨by omega, fun r' hr' a1 => hd.2 r' hr' a1⟩ f4), Or.inl ⟨rfl, by rw [f5]; exact mS0 μ 0⟩⟩
        · rw [f_X11_down, x_gO k11, Option.bind_some, e2, Option.bind_some, if_neg n10, w1, Option.bind_some, w2, Option.bind_some, x_gI k6, Option.bind_some, hr32, if_pos c1, Option.bind_some, hc, Option.bind_some, x_gI k11, Option.bind_some, hs.i11_0, ed, if_pos ((nI_ltI (by omega) (by omega)).mpr c2), Option.bind_some, w2, Option.bind_some, x_pI k6, Option.bind_some, w3, Option.bind_some, w4, Option.bind_some, x_gO (d1.1.k6 hr), Option.bind_some, f1, Option.bind_some]
        · rw [hm, f_X12_down_35, e1, Option.bind_some, if_neg n10, mA_n 32 r hr7, Option.bind_some, if_pos c1, h2, if_neg (fun e => by rw [nI_eq (by omega) (by omega)] at e; omega), f_X12_down_73, m_P, Option.bind_some, mS0, if_pos le00, mQ_n 32 r _ hr7, Option.bind_some, f2, Option.bind_some]
      · refine ⟨3, 0, σ, _, ?_, ?_, hI2, Or.inr (Or.inr ⟨rfl, mS0 _ _⟩)⟩
        · rw [f_X11_down, x_gO k11, Option.bind_some, e2, Option.bind_some, if_neg n10, w1, Option.bind_some, w2, Option.bind_some, x_gI k6, Option.bind_some, hr32, if_pos c1, Option.bind_some, hc, Option.bind_some, x_gI k11, Option.bind_some, hs.i11_0, ed, if_neg (fun e => c2 ((nI_ltI (by omega) (by omega)).mp e))]
        · rw [hm, f_X12_down_35, e1, Option.bind_some, if_neg n10, mA_n 32 r hr7, Option.bind_some, if_pos c1, h2, if_pos ((nI_eq (by omega) (by omega)).mpr (by have := hd.1; omega)), f_X12_down_68, f_X12_down_73, m_P, Option.bind_some, mS0, if_neg le20]
    · refine ⟨3, 0, σ, _, ?_, ?_, hI2, Or.inr (Or.inr ⟨rfl, mS0 _ _⟩)⟩
      · rw [f_X11_down, x_gO k11, Option.bind_some, e2, Option.bind_some, if_neg n10, w1, Option.bind_some, w2, Option.bind_some, x_gI k6, Option.bind_some, hr32, if_neg c1]
      · rw [hm, f_X12_down_35, e1, Option.bind_some, if_neg n10, mA_n 32 r hr7, Option.bind_some, if_neg c1, f_X12_down_68, f_X12_down_73, m_P, Option.bind_some, mS0, if_neg le20]
  · refine ⟨1, 0, σ, _, ?_, ?_, (hR.th 1).inv hq (hd.th 1), Or.inr (Or.inl ⟨rfl, mS0 _ _⟩)⟩
    · rw [f_X11_down, x_gO k11, Option.bind_some, e2, Option.bind_some, if_pos rfl]
    · rw [hm, f_X12_down_35, e1, Option.bind_some, if_pos rfl, f_X12_down_73, m_P, Option.bind_some, mS0, if_neg le10]
theorem pb_up (hI : Inv n t tb σ μ) (x : Int32) : ∃ cd v σ' μ', f_X11_up σ tb x = some (cd, v, σ') ∧ f_X12_up μ x = some μ' ∧ Inv n t tb σ' μ' ∧ ((cd = 0 ∧ μ'.1 0 = 0) ∨ (cd = 1 ∧ μ'.1 0 = 1) ∨ (cd = 3 ∧ μ'.1 0 = 2)) := by
  obtain ⟨hd, A, q, vw, p, u, a, rfl, hq, hR⟩ := hI
  have hs := hR.1
  have h7 := hs.np
  have k11 := hs.k11
  rcases c_rpl hR x with ⟨r, hr, rfl, e1, e2⟩ | ⟨e1, e2⟩
  · have hr7 : r < 7 := by omega
    obtain ⟨w1, w2⟩ := c_row hs hr
    have k6 := hs.k6 hr
    have hr32 : oI σ (A 6 r 0) 2 = μ.2 32 r := (hR.2.2.2.2.2.1 r hr).sp.1.1.1
    by_cases c1 : μ.2 32 r = 0
    · refine ⟨3, 0, σ, _, ?_, ?_, (hR.th 2).inv hq (hd.th 2), Or.inr (Or.inr ⟨rfl, mS0 _ _⟩)⟩
      · rw [f_X11_up, x_gO k11, Option.bind_some, e2, Option.bind_some, if_neg n10, w1, Option.bind_some, w2, Option.bind_some, x_gI k6, Option.bind_some, hr32, if_pos c1]
      · rw [f_X12_up, e1, Option.bind_some, if_neg n10, mA_n 32 r hr7, Option.bind_some, if_pos c1, f_X12_up_30, m_P, Option.bind_some, mS0, if_neg n20]
    · have d1 := set6 (hR.th 0) hr (k := 2) (j := 32) (x := 0) (Or.inl ⟨rfl, rfl, Or.inl rfl⟩)
      have hds := dwn_set (μ := mS μ 0 0) (r := r) (x := 0) (Or.inr True.intro) n
      rw [if_pos hr, if_pos hr, if_neg (show ¬ (mS μ 0 0).2 32 r = 0 from c1), if_pos rfl, dwn_th] at hds
      refine ⟨0, 0, _, _, ?_, ?_, d1.inv hq ⟨by have := hd.1; omega, fun r' hr' a1 => hd.2 r' hr' a1⟩, Or.inl ⟨rfl, mS0 μ 0⟩⟩
      · rw [f_X11_up, x_gO k11, Option.bind_some, e2, Option.bind_some, if_neg n10, w1, Option.bind_some, w2, Option.bind_some, x_gI k6, Option.bind_some, hr32, if_neg c1, Option.bind_some, w2, Option.bind_some, x_pI k6, Option.bind_some]
      · rw [f_X12_up, e1, Option.bind_some, if_neg n10, mA_n 32 r hr7, Option.bind_some, if_neg c1, f_X12_up_30, m_P, Option.bind_some, mS0, if_pos rfl, mQ_n 32 r _ hr7, Option.bind_some]
  · refine ⟨1, 0, σ, _, ?_, ?_, (hR.th 1).inv hq (hd.th 1), Or.inr (Or.inl ⟨rfl, mS0 _ _⟩)⟩
    · rw [f_X11_up, x_gO k11, Option.bind_some, e2, Option.bind_some, if_pos rfl]
    · rw [f_X12_up, e1, Option.bind_some, if_pos rfl, f_X12_up_30, m_P, Option.bind_some, mS0, if_neg n10]
/-- whether it may: the reference's -/
theorem m_may (hr7 : r < 7) (e1 : f_X12_in (nI r) (μ.1 1) = some 1) : f_X12_may μ (nI r) = if μ.2 32 r = 0 then some (1, mS μ 0 0) else some (0, mS μ 0 2) := by
  rw [f_X12_may, e1, Option.bind_some, if_neg n10, mA_n 32 r hr7, Option.bind_some]
  by_cases c : μ.2 32 r = 0
  · rw [if_pos c, if_pos c, f_X12_may_30, m_P, Option.bind_some, mS0, if_pos rfl]
  · rw [if_neg c, if_neg c, f_X12_may_30, m_P, Option.bind_some, mS0, if_neg n20]
theorem m_may0 {x : Int32} (e1 : f_X12_in x (μ.1 1) = some 0) : f_X12_may μ x = some (0, mS μ 0 1) := by
  rw [f_X12_may, e1, Option.bind_some, if_pos rfl, f_X12_may_30, m_P, Option.bind_some, mS0, if_neg n10]
theorem pb_suspect (hI : Inv n t tb σ μ) (ht : t < 64) (x : Int32) : ∃ cd v σ' μ', f_X11_suspect σ tb x = some (cd, v, σ') ∧ f_X12_suspect μ x = some μ' ∧ Inv n (t + 1) tb σ' μ' ∧ ((cd = 0 ∧ μ'.1 0 = 0) ∨ (cd = 1 ∧ μ'.1 0 = 1) ∨ (cd = 3 ∧ μ'.1 0 = 2)) := by
  obtain ⟨hd, A, q, vw, p, u, a, rfl, hq, hR⟩ := hI
  have hs := hR.1
  have h7 := hs.np
  have k11 := hs.k11
  rcases c_rpl hR x with ⟨r, hr, rfl, e1, e2⟩ | ⟨e1, e2⟩
  · have hr7 : r < 7 := by omega
    obtain ⟨w1, w2⟩ := c_row hs hr
    have k6 := hs.k6 hr
    obtain ⟨⟨⟨hr32, -⟩, -, ⟨⟨v, g1, g2⟩, g3⟩, -⟩, -⟩ := (hR.2.2.2.2.2.1 r hr).sp
    by_cases c1 : μ.2 32 r = 0
    · have hR1 := (hR.th 0).tt (Nat.le_succ t) (by omega)
      have hvv := hR.2.1 v _ _ g2
      obtain ⟨vw', f1, f2, f3, f4⟩ := hR1.ofV (μ.2 33 r + 1) (μ.2 34 r)
      have hL : Sm (t + 1) (μ.2 33 r + 1) := by
        obtain ⟨k, h1, h2⟩ := g3
        exact ⟨k + 1, by omega, by rw [h2, nI_1]⟩
      obtain ⟨σ', μ', y1, y2, y3, y4⟩ := ((rep_turn f3 hr f2 hL).trv f1 f4).inv (by omega) (hd.th 0)
      have hv0 : v ≠ oN σ := fun e => by
        have h1 := hs.2.2.2.2.1 (oN σ) (Nat.le_refl _)
        rw [← e, hvv.1] at h1
        exact absurd h1 (by decide)
      have h60 : A 6 r 0 ≠ oN σ := fun e => by
        have h1 := hs.2.2.2.2.1 (oN σ) (Nat.le_refl _)
        rw [← e, k6] at h1
        exact absurd h1 (by decide)
      have b6 : oK (nw σ 9 0) (A 6 r 0) = 6 := (va_up_ne _ _ h60).trans k6
      have b64 : oR (nw σ 9 0) (A 6 r 0) 4 = some v := (congrFun (va_up_ne _ _ h60) 4).trans g1
      have bv : oK (nw σ 9 0) v = 9 := (va_up_ne _ _ hv0).trans hvv.1
      have bv0 : oI (nw σ 9 0) v 0 = μ.2 33 r := (congrFun (va_up_ne _ _ hv0) 0).trans hvv.2.1
      have bv1 : oI (nw σ 9 0) v 1 = μ.2 34 r := (congrFun (va_up_ne _ _ hv0) 1).trans hvv.2.2
      have b9 : oK (nw σ 9 0) (oN σ) = 9 := va_up_self _ _ _
      have hini : f_X9_init (nw σ 9 0) (oN σ) (μ.2 33 r + 1) (μ.2 34 r) = some (mkV σ (μ.2 33 r + 1) (μ.2 34 r)) := by
        simp only [f_X9_init, x_gI, x_gR, x_gO, x_pI, x_pR, x_aI, x_aR, x_qI, x_qR, x_aL, oK_sI, oK_sR, oK_sC, oZ_sI, oZ_sR, oZ_sC, xI_sI, oI_sR, xI_sC, oR_sI, xR_sR, oR_sC, Option.bind_some, if_true, if_false, Nat.reduceEqDiff, true_and, and_true, false_and, and_false, b9]
        rfl
      refine ⟨0, 0, σ', μ', ?_, ?_, y3, Or.inl ⟨rfl, y4.trans (mS0 _ _)⟩⟩
      · rw [f_X11_suspect, x_gO k11, Option.bind_some, e2, Option.bind_some, if_neg n10, w1, Option.bind_some, w2, Option.bind_some, x_gI k6, Option.bind_some, hr32, if_pos c1, Option.bind_some, x_gR b6, b64, Option.bind_some, x_gI bv, Option.bind_some, bv0, Option.bind_some, x_gI bv, Option.bind_some, bv1, hini, Option.bind_some, x_gO (f3.1.k6 hr), Option.bind_some, y1, Option.bind_some]
      · rw [f_X12_suspect, m_may hr7 e1, if_pos c1, Option.bind_some]
        dsimp only
        rw [if_neg n10, mA_n 33 r hr7, Option.bind_some, mA_n 34 r hr7, Option.bind_some]
        exact (congrArg (fun x => x.bind fun v24 => some v24) y2).trans rfl
    · refine ⟨3, 0, σ, _, ?_, ?_, ((hR.th 2).inv hq (hd.th 2)).up ht, Or.inr (Or.inr ⟨rfl, mS0 _ _⟩)⟩
      · rw [f_X11_suspect, x_gO k11, Option.bind_some, e2, Option.bind_some, if_neg n10, w1, Option.bind_some, w2, Option.bind_some, x_gI k6, Option.bind_some, hr32, if_neg c1]
      · rw [f_X12_suspect, m_may hr7 e1, if_neg c1, Option.bind_some]
        exact if_pos rfl
  · refine ⟨1, 0, σ, _, ?_, ?_, ((hR.th 1).inv hq (hd.th 1)).up ht, Or.inr (Or.inl ⟨rfl, mS0 _ _⟩)⟩
    · rw [f_X11_suspect, x_gO k11, Option.bind_some, e2, Option.bind_some, if_pos rfl]
    · rw [f_X12_suspect, m_may0 e1, Option.bind_some]
      exact if_pos rfl
end PUC
