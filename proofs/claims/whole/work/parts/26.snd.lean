/-! row copies of the reference -/
def cpM (μ : Mu) (js os jd od len : Nat) : Mu := (μ.1, fun j i => if j = jd ∧ od ≤ i ∧ i < od + len then μ.2 js (os + (i - od)) else μ.2 j i)
theorem cpM_0 (μ : Mu) (js os jd od : Nat) : cpM μ js os jd od 0 = μ := by
  refine Prod.ext rfl ?_
  funext j i
  show (if j = jd ∧ od ≤ i ∧ i < od + 0 then _ else _) = _
  rw [if_neg (by omega)]
theorem cpM_s (μ : Mu) {js os jd od : Nat} (len : Nat) (h : js ≠ jd) : cpM (mT μ jd od (μ.2 js os)) js (os + 1) jd (od + 1) len = cpM μ js os jd od (len + 1) := by
  refine Prod.ext rfl ?_
  funext j i
  show (if j = jd ∧ od + 1 ≤ i ∧ i < od + 1 + len then (mT μ jd od (μ.2 js os)).2 js (os + 1 + (i - (od + 1))) else (mT μ jd od (μ.2 js os)).2 j i) = (if j = jd ∧ od ≤ i ∧ i < od + (len + 1) then μ.2 js (os + (i - od)) else μ.2 j i)
  simp only [mT_2]
  by_cases h1 : j = jd ∧ od + 1 ≤ i ∧ i < od + 1 + len
  · rw [if_pos h1, if_neg (fun e => h e.1), if_pos (by omega)]
    rw [show os + 1 + (i - (od + 1)) = os + (i - od) by omega]
  · rw [if_neg h1]
    by_cases h2 : j = jd ∧ i = od
    · rw [if_pos h2, if_pos (by omega), h2.2, Nat.sub_self, Nat.add_zero]
    · rw [if_neg h2, if_neg (by omega)]
theorem cpM_in {μ : Mu} {js os jd od len k : Nat} (h : k < len) : (cpM μ js os jd od len).2 jd (od + k) = μ.2 js (os + k) := by
  show (if jd = jd ∧ od ≤ od + k ∧ od + k < od + len then μ.2 js (os + (od + k - od)) else _) = _
  rw [if_pos (by omega), show od + k - od = k by omega]
theorem cpM_ag (μ : Mu) (js os jd od len : Nat) : AgM μ (cpM μ js os jd od len) (fun j i => ¬ (j = jd ∧ od ≤ i ∧ i < od + len)) := fun j i h => if_neg h
theorem m_load52 (x1 x2 : Nat) (h1 : x1 < 200) (h2 : x2 < 7) : ∀ d (F : Nat) (μ : Mu) (k l : Nat), d < F → l = k + d → l ≤ 100 → f_X12_load_52 F μ (nI x1) (nI x2) (nI l) (nI k) = some (cpM μ 42 (100 * x2 + k) 31 (100 * x1 + k) d) := by
  intro d
  induction d with
  | zero =>
    intro F μ k l hF hl h100
    obtain ⟨F, rfl⟩ : ∃ f, F = f + 1 := ⟨F - 1, by omega⟩
    show b_X12_load_52 (f_X12_load_52 F) μ _ _ _ _ = _
    have e1 : nI l ≤ nI k := (nI_leI (by omega) (by omega)).mpr (by omega)
    rw [b_X12_load_52, if_pos e1, cpM_0]
  | succ d ih =>
    intro F μ k l hF hl h100
    obtain ⟨F, rfl⟩ : ∃ f, F = f + 1 := ⟨F - 1, by omega⟩
    show b_X12_load_52 (f_X12_load_52 F) μ _ _ _ _ = _
    have e1 : ¬ nI l ≤ nI k := fun e => by rw [nI_leI (by omega) (by omega)] at e; omega
    rw [b_X12_load_52, if_neg e1, l100, pk_mul, pk_mul, nI_add, nI_add, mA_n 42 _ (by simp only [mZ]; omega), Option.bind_some, mQ_n 31 _ _ (by simp only [mZ]; omega), Option.bind_some, l1, nI_add]
    rw [ih F _ (k + 1) l (by omega) (by omega) h100, ← cpM_s μ d (by decide)]
    rfl
/-- the class's copying of a log -/
theorem c_copy {σ : Hp} {d e s f l : Nat} (kd : oK σ d = 4) (ks : oK σ s = 4) (rd : oR σ d 0 = some e) (rs : oR σ s 0 = some f) (ke : oK σ e = 13) (kf : oK σ f = 13) (ze : oZ σ e = 100) (zf : oZ σ f = 100) (hl : oI σ s 1 = nI l) (h100 : l ≤ 100) : f_X4_copy σ d s = some (sI (sC σ f e 0 0 l) d 1 (nI l)) := by
  have hne : s ≠ e := fun h => by rw [h, ke] at ks; exact absurd ks (by decide)
  unfold f_X4_copy
  rw [x_gR ks, rs, Option.bind_some, x_gR kd, rd, Option.bind_some, x_gI ks, Option.bind_some, hl, e_cp kf ke zf ze h100 (by decide), Option.bind_some, x_gI (by exact ks), Option.bind_some, x_pI (by exact kd), Option.bind_some, xI_sC, if_neg hne, hl]
theorem nI_m1 {m : Nat} (h : m < 2 ^ 31) : nI m ≠ -1 := fun e => nI_pos h (by rw [e]; decide)
section SND
variable {A : Ad} {n T q : Nat} {hb : Nat → Nat} {vw : Vw} {p u : Nat → Nat} {a r m0 : Nat} {σ σ1 : Hp} {μ μ1 : Mu} {mm kk fr to l s t ab : Int32}
theorem Sn.at (hS : Sn A n T q hb vw p u a σ μ m0 σ1 mm μ1 kk fr to l s t ab) {m : Nat} (hm : m < 200) (e : mm = nI m) : RR A n T q hb vw p u (a + 1) 1 σ1 μ1 ∧ (oI σ1 (A 5 m0 0) 0 = μ1.2 17 m ∧ oI σ1 (A 5 m0 0) 1 = kk ∧ oI σ1 (A 5 m0 0) 2 = fr ∧ oI σ1 (A 5 m0 0) 3 = to) ∧
     μ1.2 18 m = kk ∧ μ1.2 19 m = fr ∧ μ1.2 20 m = to ∧ μ1.2 21 m = l ∧ μ1.2 22 m = s ∧ μ1.2 23 m = t ∧ μ1.2 24 m = ab ∧ μ1.2 30 m = 0 ∧ μ1.2 29 m = 0 := by
  obtain ⟨-, -, -, -, h5⟩ := hS
  rcases h5 with ⟨-, -, e3, -⟩ | ⟨-, -, e3, e4, e5, e6⟩
  · exact absurd (e.symm.trans e3) (nI_m1 (by omega))
  · have : m = u a := (nI_eq (by omega) (by omega)).mp (e.symm.trans e3)
    rw [this]
    exact ⟨e5, e6⟩
theorem sd1 (hR : RR A n T q hb vw p u a 0 σ μ) (hr : r < n) {x : Int32} {kk to : Nat} (hx : x = nI kk) (hk : kk = 1 ∨ kk = 3 ∨ kk = 4 ∨ kk = 6 ∨ kk = 7 ∨ kk = 8) (hto : to < n) {tc t ab : Int32} (htc : kk ≤ 7 → tc = t) (ht : kk = 3 → Rid 100 t) : ∃ v w a', f_X6_send σ (A 6 r 0) x (nI to) tc = some v ∧ f_X12_send μ x (nI r) (nI to) (μ.2 33 r) (μ.2 34 r) t ab = some w ∧ RR A n T q hb vw p u a' 0 v.2 w.2 ∧ Kq A p σ v.2 μ w.2 := by
  subst hx
  obtain ⟨m0, σ1, mm, μ1, h1, h2, h3, h4, h5⟩ := rep_send hR hr (nI kk) (nI to) tc t ab
  obtain ⟨s1, s2⟩ := h3.st
  have hn := hR.1.np
  obtain ⟨⟨g1, l, g2, g3⟩, -⟩ := (hR.2.2.2.2.2.1 r hr).2.2
  obtain ⟨a', f1, f2⟩ := h3.fin (μ2 := μ1) s1 s2 Ag.rf (fun _ => rfl) (fun m hm e => by
    obtain ⟨-, ⟨b1, b2, b3, b4⟩, c18, c19, c20, c21, c22, c23, c24, c30, c29⟩ := h3.at hm e
    refine ⟨⟨AgM.rf, rfl⟩, ⟨b1, b2.trans c18.symm, b3.trans c19.symm, b4.trans c20.symm⟩, kk, to, by omega, c18, c20, by omega, fun _ => hto, by omega, fun _ => ⟨?_, l, r, g2, c21.trans g3, hr, c19, by omega, by omega⟩, fun h => ?_, by omega, fun h => ?_, by omega, by omega, fun _ _ _ => c29, by omega, by omega⟩
    · rw [c21, c22, h4]; exact g1
    · rw [h5, c23]; exact htc (by omega)
    · rw [c23]; exact ht (by omega))
  exact ⟨_, _, a', h1, h2, f1, f2⟩
theorem sd_log (hR : RR A n T q hb vw p u a 0 σ μ) (hr : r < n) {x : Int32} {kk to : Nat} (hx : x = nI kk) (hk : kk = 5 ∨ kk = 9 ∨ kk = 10) (hto : to < n) (hne : kk = 9 → r ≠ to) {t ab : Int32} (ht : kk = 5 → t = μ.2 38 r) : ∃ σ' w μ' a', f_X6_sendLog σ (A 6 r 0) x (nI to) = some σ' ∧ f_X12_send μ x (nI r) (nI to) (μ.2 33 r) (μ.2 34 r) t ab = some w ∧ w.2.2 38 r = μ.2 38 r ∧ f_X12_load w.2 w.1 (nI r) (μ.2 38 r) = some μ' ∧ RR A n T q hb vw p u a' 0 σ' μ' ∧ Kq A p σ σ' μ μ' := by
  subst hx
  have hn := hR.1.np
  have hs := hR.1
  have hi := hs.inj
  have hI := hs.1
  obtain ⟨m0, σ1, mm, μ1, h1, h2, h3, h4, h5⟩ := rep_send hR hr (nI kk) (nI to) (μ.2 38 r) t ab
  obtain ⟨s1, s2⟩ := h3.st
  obtain ⟨-, -, ⟨g1, l, g2, g3⟩, ⟨⟨v5, b5, c5⟩, d5⟩, ⟨g6, g7, g8⟩, ⟨len, q1, q2, q3, q4⟩, -⟩ := hR.2.2.2.2.2.1 r hr
  have k6 := hs.k6 hr
  have k6' := s1.k6 hr
  have k5' := s1.k5 h3.1.1
  have k32 := hs.k32 hr
  have k32' := s1.k32 hr
  have k30 := s1.k30 h3.1.1
  have k31 := s1.k31 h3.1.1
  have k33 := s1.k33 hr
  have z31 := s1.z31 h3.1.1
  have z33 := s1.z33 hr
  have m5 : ∀ k, oI σ1 (A 6 r 0) k = oI σ (A 6 r 0) k := fun k => by rw [(h3.2.1 6 r 0 (by omega)).1]
  have m6 : ∀ k, oR σ1 (A 6 r 0) k = oR σ (A 6 r 0) k := fun k => by rw [(h3.2.1 6 r 0 (by omega)).2]
  have m32 : ∀ k, oI σ1 (A 32 r 0) k = oI σ (A 32 r 0) k := fun k => by rw [(h3.2.1 32 r 0 (by omega)).1]
  have m33 : ∀ k, oI σ1 (A 33 r 0) k = oI σ (A 33 r 0) k := fun k => by rw [(h3.2.1 33 r 0 (by omega)).1]
  have o38 : ∀ j i, 32 ≤ j → μ1.2 j i = μ.2 j i := fun j i h => h3.2.2.1 j i (Or.inr h)
  have hcp := c_copy (σ := sI (sR σ1 (A 5 m0 0) 9 v5) (A 5 m0 0) 10 (oI σ (A 6 r 0) 6)) (d := A 30 m0 0) (s := A 32 r 0) (e := A 31 m0 0) (f := A 33 r 0) (l := len) k30 k32' (by simp only [oK_sI, oK_sR, oK_sC, oZ_sI, oZ_sR, oZ_sC, xI_sI, oI_sR, xI_sC, oR_sI, xR_sR, oR_sC, Option.bind_some, if_true, if_false, Nat.reduceEqDiff, true_and, and_true, false_and, and_false, hi]; exact s1.r30_0 h3.1.1) (by simp only [oK_sI, oK_sR, oK_sC, oZ_sI, oZ_sR, oZ_sC, xI_sI, oI_sR, xI_sC, oR_sI, xR_sR, oR_sC, Option.bind_some, if_true, if_false, Nat.reduceEqDiff, true_and, and_true, false_and, and_false, hi]; exact s1.r32_0 hr) k31 k33 z31 z33 (by simp only [oK_sI, oK_sR, oK_sC, oZ_sI, oZ_sR, oZ_sC, xI_sI, oI_sR, xI_sC, oR_sI, xR_sR, oR_sC, Option.bind_some, if_true, if_false, Nat.reduceEqDiff, true_and, and_true, false_and, and_false, hi, m32]; exact q3) q1
  have hcl : f_X6_sendLog σ (A 6 r 0) (nI kk) (nI to) = some (sI (sC (sI (sR σ1 (A 5 m0 0) 9 v5) (A 5 m0 0) 10 (oI σ (A 6 r 0) 6)) (A 33 r 0) (A 31 m0 0) 0 0 len) (A 30 m0 0) 1 (nI len)) := by
    have e1 : oI σ (A 32 r 0) 1 = μ.2 38 r := q3.trans q2.symm
    unfold f_X6_sendLog
    simp only [x_gI, x_gR, x_gO, x_pI, x_pR, x_aI, x_aR, x_qI, x_qR, x_aL, oK_sI, oK_sR, oK_sC, oZ_sI, oZ_sR, oZ_sC, xI_sI, oI_sR, xI_sC, oR_sI, xR_sR, oR_sC, Option.bind_some, if_true, if_false, Nat.reduceEqDiff, true_and, and_true, false_and, and_false, k6, hs.r6_0 hr, k32, e1, h1, k6', m6, b5, k5', m5, hi, s1.r5_11 h3.1.1, s1.r6_0 hr, k30, m5, hcp, (s1.r5_11 h3.1.1), (s1.r6_0 hr)]
  have n5 : oK σ1 (A 5 m0 0) ≠ 9 := by rw [k5']; decide
  have n30 : oK σ1 (A 30 m0 0) ≠ 9 := by rw [k30]; decide
  have n31 : oK σ1 (A 31 m0 0) ≠ 9 := by rw [k31]; decide
  have t1 : Rs A n (sI (sC (sI (sR σ1 (A 5 m0 0) 9 v5) (A 5 m0 0) 10 (oI σ (A 6 r 0) 6)) (A 33 r 0) (A 31 m0 0) 0 0 len) (A 30 m0 0) 1 (nI len)) := (((s1.sR rfl).sI rfl).sC (fun _ => rfl)).sI rfl
  have t2 : Vok vw (sI (sC (sI (sR σ1 (A 5 m0 0) 9 v5) (A 5 m0 0) 10 (oI σ (A 6 r 0) 6)) (A 33 r 0) (A 31 m0 0) 0 0 len) (A 30 m0 0) 1 (nI len)) := (((s2.sR).sI n5).sC n31).sI n30
  have t3 : Ag A σ1 (sI (sC (sI (sR σ1 (A 5 m0 0) 9 v5) (A 5 m0 0) 10 (oI σ (A 6 r 0) 6)) (A 33 r 0) (A 31 m0 0) 0 0 len) (A 30 m0 0) 1 (nI len)) (fun s i => ¬ fpM m0 s i) := ((((Ag.sR hI).tr (Ag.sI hI)).tr (Ag.sC hI)).tr (Ag.sI hI)).wk (fun s i h => by unfold fpM at h; omega)
  by_cases hmm : mm = -1
  · have hl : f_X12_load μ1 mm (nI r) (μ.2 38 r) = some μ1 := by rw [f_X12_load, if_pos hmm]
    obtain ⟨a', f1, f2⟩ := h3.fin (μ2 := μ1) t1 t2 t3 (fun _ => rfl) (fun m hm e => absurd (e.symm.trans hmm) (nI_m1 (by omega)))
    exact ⟨_, _, μ1, a', hcl, h2, o38 _ _ (by decide), hl, f1, f2⟩
  · obtain ⟨m, hm, e⟩ : ∃ m, m < 200 ∧ mm = nI m := by
      rcases h3.2.2.2.2 with ⟨-, -, e3, -⟩ | ⟨-, -, e3, e4, -⟩
      · exact absurd e3 hmm
      · exact ⟨_, e4, e3⟩
    have hl : f_X12_load μ1 mm (nI r) (μ.2 38 r) = some (cpM (mT (mT (mT (mT μ1 28 m (μ.2 39 r)) 26 m (μ.2 36 r)) 27 m (μ.2 37 r)) 29 m (μ.2 38 r)) 42 (100 * r + 0) 31 (100 * m + 0) len) := by
      rw [f_X12_load, if_neg hmm]
      have hr7 : r < 7 := by omega
      simp only [mA_n, mQ_n, m_P, mT_2, mT_1, mS_1, mS_2, mZ, Option.bind_some, if_true, if_false, true_and, and_true, false_and, and_false, Nat.reduceEqDiff, Nat.reduceLT, e, hm, hr7, o38, Nat.reduceLeDiff]
      rw [q2, show (0 : Int32) = nI 0 from rfl]
      exact m_load52 m r hm hr7 len lf _ 0 len (by unfold lf; omega) (by omega) q1
    have hmg : AgM μ1 (cpM (mT (mT (mT (mT μ1 28 m (μ.2 39 r)) 26 m (μ.2 36 r)) 27 m (μ.2 37 r)) 29 m (μ.2 38 r)) 42 (100 * r + 0) 31 (100 * m + 0) len) (fun j i => ¬ (j = 28 ∧ i = m) ∧ ¬ (j = 26 ∧ i = m) ∧ ¬ (j = 27 ∧ i = m) ∧ ¬ (j = 29 ∧ i = m) ∧ ¬ (j = 31 ∧ 100 * m ≤ i ∧ i < 100 * m + len)) := ((((AgM.mT.tr AgM.mT).tr AgM.mT).tr AgM.mT).tr (cpM_ag _ _ _ _ _ _)).wk (fun j i h => by omega)
    obtain ⟨a', f1, f2⟩ := h3.fin t1 t2 t3 (fun e2 => absurd e2 hmm) (fun m' hm' e' => by
      obtain rfl : m' = m := (nI_eq (by omega) (by omega)).mp (e'.symm.trans e)
      obtain ⟨-, ⟨b1, b2, b3, b4⟩, c18, c19, c20, c21, c22, c23, c24, c30, c29⟩ := h3.at hm e
      refine ⟨⟨hmg.wk (fun j i h => by unfold fmM at h; omega), rfl⟩, ?_⟩
      unfold Rm
      rw [hmg 17 m' (by omega), hmg 18 m' (by omega), hmg 19 m' (by omega), hmg 20 m' (by omega), hmg 21 m' (by omega), hmg 22 m' (by omega), hmg 23 m' (by omega), hmg 24 m' (by omega), hmg 30 m' (by omega), hmg 25 m' (by omega)]
      have e29 : (cpM (mT (mT (mT (mT μ1 28 m' (μ.2 39 r)) 26 m' (μ.2 36 r)) 27 m' (μ.2 37 r)) 29 m' (μ.2 38 r)) 42 (100 * r + 0) 31 (100 * m' + 0) len).2 29 m' = nI len := by
        rw [cpM_ag _ _ _ _ _ _ 29 m' (by omega)]
        simp only [m_P, mT_2, mT_1, mS_1, mS_2, Option.bind_some, Nat.reduceEqDiff, if_true, if_false, true_and, and_true, false_and, and_false, q2]
      have e28 : (cpM (mT (mT (mT (mT μ1 28 m' (μ.2 39 r)) 26 m' (μ.2 36 r)) 27 m' (μ.2 37 r)) 29 m' (μ.2 38 r)) 42 (100 * r + 0) 31 (100 * m' + 0) len).2 28 m' = μ.2 39 r := by
        rw [cpM_ag _ _ _ _ _ _ 28 m' (by omega)]
        simp only [m_P, mT_2, mT_1, mS_1, mS_2, Option.bind_some, Nat.reduceEqDiff, if_true, if_false, true_and, and_true, false_and, and_false]
      have e26 : (cpM (mT (mT (mT (mT μ1 28 m' (μ.2 39 r)) 26 m' (μ.2 36 r)) 27 m' (μ.2 37 r)) 29 m' (μ.2 38 r)) 42 (100 * r + 0) 31 (100 * m' + 0) len).2 26 m' = μ.2 36 r := by
        rw [cpM_ag _ _ _ _ _ _ 26 m' (by omega)]
        simp only [m_P, mT_2, mT_1, mS_1, mS_2, Option.bind_some, Nat.reduceEqDiff, if_true, if_false, true_and, and_true, false_and, and_false]
      have e27 : (cpM (mT (mT (mT (mT μ1 28 m' (μ.2 39 r)) 26 m' (μ.2 36 r)) 27 m' (μ.2 37 r)) 29 m' (μ.2 38 r)) 42 (100 * r + 0) 31 (100 * m' + 0) len).2 27 m' = μ.2 37 r := by
        rw [cpM_ag _ _ _ _ _ _ 27 m' (by omega)]
        simp only [m_P, mT_2, mT_1, mS_1, mS_2, Option.bind_some, Nat.reduceEqDiff, if_true, if_false, true_and, and_true, false_and, and_false]
      rw [e26, e27, e28, e29]
      have hrow : ∀ k, k < len → rwM 100 (cpM (mT (mT (mT (mT μ1 28 m' (μ.2 39 r)) 26 m' (μ.2 36 r)) 27 m' (μ.2 37 r)) 29 m' (μ.2 38 r)) 42 (100 * r + 0) 31 (100 * m' + 0) len) 31 m' k = rwM 100 μ 42 r k := fun k hk => by
        rw [rwM_at (by omega), rwM_at (by omega), ← Nat.add_zero (100 * m'), cpM_in hk]
        simp only [m_P, mT_2, mT_1, mS_1, mS_2, Option.bind_some, Nat.reduceEqDiff, if_true, if_false, true_and, and_true, false_and, and_false, Nat.add_zero, o38, Nat.reduceLeDiff]
      refine ⟨⟨?_, ?_, ?_, ?_⟩, kk, to, by omega, c18, c20, by omega, fun _ => hto, by omega, fun _ => ⟨?_, l, r, g2, c21.trans g3, hr, c19, fun h => hne h, by omega⟩, fun h => ?_, by omega, by omega, fun h => ?_, fun h => ?_, by omega, fun h => ?_, fun h => ?_⟩
      · simp only [oK_sI, oK_sR, oK_sC, oZ_sI, oZ_sR, oZ_sC, xI_sI, oI_sR, xI_sC, oR_sI, xR_sR, oR_sC, Option.bind_some, if_true, if_false, Nat.reduceEqDiff, true_and, and_true, false_and, and_false, hi, b1]
      · simp only [oK_sI, oK_sR, oK_sC, oZ_sI, oZ_sR, oZ_sC, xI_sI, oI_sR, xI_sC, oR_sI, xR_sR, oR_sC, Option.bind_some, if_true, if_false, Nat.reduceEqDiff, true_and, and_true, false_and, and_false, hi, b2, c18]
      · simp only [oK_sI, oK_sR, oK_sC, oZ_sI, oZ_sR, oZ_sC, xI_sI, oI_sR, xI_sC, oR_sI, xR_sR, oR_sC, Option.bind_some, if_true, if_false, Nat.reduceEqDiff, true_and, and_true, false_and, and_false, hi, b3, c19]
      · simp only [oK_sI, oK_sR, oK_sC, oZ_sI, oZ_sR, oZ_sC, xI_sI, oI_sR, xI_sC, oR_sI, xR_sR, oR_sC, Option.bind_some, if_true, if_false, Nat.reduceEqDiff, true_and, and_true, false_and, and_false, hi, b4, c20]
      · rw [c21, c22]
        simp only [oK_sI, oK_sR, oK_sC, oZ_sI, oZ_sR, oZ_sC, xI_sI, oI_sR, xI_sC, oR_sI, xR_sR, oR_sC, Option.bind_some, if_true, if_false, Nat.reduceEqDiff, true_and, and_true, false_and, and_false, hi, h4]
        exact g1
      · simp only [oK_sI, oK_sR, oK_sC, oZ_sI, oZ_sR, oZ_sC, xI_sI, oI_sR, xI_sC, oR_sI, xR_sR, oR_sC, Option.bind_some, if_true, if_false, Nat.reduceEqDiff, true_and, and_true, false_and, and_false, hi, h5, c23]
        exact (ht (by omega)).symm
      · rw [c23, ← q2]
        exact ht (by omega)
      · refine ⟨len, q1, rfl, ?_, fun k hk => ⟨?_, ?_⟩⟩
        · simp only [oK_sI, oK_sR, oK_sC, oZ_sI, oZ_sR, oZ_sC, xI_sI, oI_sR, xI_sC, oR_sI, xR_sR, oR_sC, Option.bind_some, if_true, if_false, Nat.reduceEqDiff, true_and, and_true, false_and, and_false, hi]
        · rw [hrow k hk]
          simp only [oK_sI, oK_sR, oK_sC, oZ_sI, oZ_sR, oZ_sC, xI_sI, oI_sR, xI_sC, oR_sI, xR_sR, oR_sC, Option.bind_some, if_true, if_false, Nat.reduceEqDiff, true_and, and_true, false_and, and_false, hi, hk, m33]
          exact (q4 k hk).1
        · rw [hrow k hk]
          exact (q4 k hk).2
      · simp only [oK_sI, oK_sR, oK_sC, oZ_sI, oZ_sR, oZ_sC, xI_sI, oI_sR, xI_sC, oR_sI, xR_sR, oR_sC, Option.bind_some, if_true, if_false, Nat.reduceEqDiff, true_and, and_true, false_and, and_false, hi, g6]
      · refine ⟨?_, d5⟩
        simp only [oK_sI, oK_sR, oK_sC, oZ_sI, oZ_sR, oZ_sC, xI_sI, oI_sR, xI_sC, oR_sI, xR_sR, oR_sC, Option.bind_some, if_true, if_false, Nat.reduceEqDiff, true_and, and_true, false_and, and_false, hi]
        exact ⟨v5, rfl, c5⟩)
    exact ⟨_, _, _, a', hcl, h2, o38 _ _ (by decide), hl, f1, f2⟩
end SND
