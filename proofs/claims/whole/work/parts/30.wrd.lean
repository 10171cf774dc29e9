/-! the class's executing -/
theorem c_fill {a N : Nat} {x : Int32} : ∀ d (F : Nat) (σ : Hp) (k : Nat), d < F → N = k + d → oK σ a = 13 → oZ σ a = N → N < 2 ^ 31 → ∃ σ', f_J7_fill_53178_5 F σ a x (nI k) (nI N) = some σ' ∧ oK σ' = oK σ ∧ oZ σ' = oZ σ ∧ oR σ' = oR σ ∧ oN σ' = oN σ ∧ ∀ b i, oI σ' b i = if b = a ∧ k ≤ i ∧ i < N then x else oI σ b i := by
  intro d
  induction d with
  | zero =>
    intro F σ k hF hk hK hZ hN
    obtain ⟨F, rfl⟩ : ∃ f, F = f + 1 := ⟨F - 1, by omega⟩
    refine ⟨σ, ?_, rfl, rfl, rfl, rfl, fun b i => by rw [if_neg (by omega)]⟩
    show b_J7_fill_53178_5 (f_J7_fill_53178_5 F) σ _ _ _ _ = _
    rw [b_J7_fill_53178_5, if_pos ((nI_leI hN (by omega)).mpr (by omega))]
  | succ d ih =>
    intro F σ k hF hk hK hZ hN
    obtain ⟨F, rfl⟩ : ∃ f, F = f + 1 := ⟨F - 1, by omega⟩
    obtain ⟨σ', h1, h2, h3, h4, h5, h6⟩ := ih F (sI σ a k x) (k + 1) (by omega) (by omega) hK hZ hN
    refine ⟨σ', ?_, h2, h3, h4, h5, fun b i => ?_⟩
    · show b_J7_fill_53178_5 (f_J7_fill_53178_5 F) σ _ _ _ _ = _
      rw [b_J7_fill_53178_5, if_neg (fun e => by rw [nI_leI hN (by omega)] at e; omega), x_qI hK (by omega) (by omega), Option.bind_some, nI_1]
      exact h1
    · rw [h6]
      by_cases g : b = a ∧ k + 1 ≤ i ∧ i < N
      · rw [if_pos g, if_pos (by omega)]
      · rw [if_neg g, xI_sI]
        by_cases g2 : b = a ∧ i = k
        · rw [if_pos g2, if_pos (by omega)]
        · rw [if_neg g2, if_neg (by omega)]
theorem c_fillA {σ : Hp} {a N : Nat} {x : Int32} (hK : oK σ a = 13) (hZ : oZ σ a = N) (hN : N < 5000) : ∃ σ', f_J7_fill_53178 σ a x = some σ' ∧ oK σ' = oK σ ∧ oZ σ' = oZ σ ∧ oR σ' = oR σ ∧ oN σ' = oN σ ∧ ∀ b i, oI σ' b i = if b = a ∧ i < N then x else oI σ b i := by
  obtain ⟨σ', h1, h2, h3, h4, h5, h6⟩ := c_fill (x := x) N lf σ 0 (by unfold lf; omega) (by omega) hK hZ (by omega)
  refine ⟨σ', ?_, h2, h3, h4, h5, fun b i => by rw [h6]; simp⟩
  rw [f_J7_fill_53178, x_aL hK, Option.bind_some, hZ]
  exact h1
section WRD
variable {A : Ad} {n q r : Nat} {vw : Vw} {σ σ' : Hp} {μ : Mu}
theorem Rs.of (h : Rs A n σ) (h1 : oK σ' = oK σ) (h2 : oZ σ' = oZ σ) (h3 : oR σ' = oR σ) (h4 : oN σ' = oN σ) (h5 : ∀ s i j k, siF n s i k ≠ none → oI σ' (A s i j) k = oI σ (A s i j) k) : Rs A n σ' := by
  obtain ⟨a1, a2, a3, a4, a5, a6⟩ := h
  refine ⟨a1, by rw [h1, h2]; exact a2, by rw [h3]; exact a3, fun s i j k x hd hx => ?_, by rw [h4, h1]; exact a5, a6⟩
  rw [h5 s i j k (by rw [hx]; exact fun e => by cases e)]
  exact a4 s i j k x hd hx
/-- the class has executed i entries -/
def Iw (A : Ad) (n q : Nat) (vw : Vw) (σ0 σ : Hp) (μ : Mu) (r i : Nat) : Prop :=
  Rs A n σ ∧ Vok vw σ ∧ Ag A σ0 σ (fun s _ => s ≠ 21) ∧ oN σ = oN σ0 ∧ oK σ = oK σ0 ∧
  (∀ k, k < 8 → oI σ (A 21 0 0) k = (exM μ r i).2 76 k) ∧
  (∀ c, c < 4 → ∃ id, id ≤ q ∧ oI σ (A 21 1 0) c = nI id ∧ (id = 0 → (exM μ r i).2 77 c = 0) ∧ (1 ≤ id → μ.2 4 id = nI c ∧ (exM μ r i).2 77 c = μ.2 5 id ∧ oI σ (A 21 3 0) id = (exM μ r i).2 78 c)) ∧
  ∀ id c, 1 ≤ id → id ≤ q → c < 4 → μ.2 4 id = nI c →
    (oI σ (A 21 2 0) id = 1 ∧ μ.2 5 id ≤ (exM μ r i).2 77 c ∧ ∃ j, j < i ∧ (exM μ r (j + 1)).2 77 c = μ.2 5 id ∧ (exM μ r (j + 1)).2 78 c = oI σ (A 21 3 0) id ∧ ∀ j', j' < j → (exM μ r (j' + 1)).2 77 c ≠ μ.2 5 id) ∨
    (oI σ (A 21 2 0) id = 0 ∧ (exM μ r i).2 77 c ≠ μ.2 5 id ∧ ∀ j, j < i → (exM μ r (j + 1)).2 77 c ≠ μ.2 5 id)
theorem RR.rows {T : Nat} {hb : Nat → Nat} {p u : Nat → Nat} {a d : Nat} (hR : RR A n T q hb vw p u a d σ μ) : Rows q μ := by
  refine ⟨fun id h1 h2 => ?_, hR.2.2.2.2.2.2.2.2.1⟩
  obtain ⟨-, c, m, k, g1, g2, g3, g4, g5, g6, g7, -⟩ := hR.2.2.2.1.2.2.2.1 id h1 h2
  exact ⟨c, m, k, g1, g2, g3, g4, g5, g6, g7⟩
theorem c_lat {L E l k : Nat} {σ : Hp} (kL : oK σ L = 4) (rL : oR σ L 0 = some E) (kE : oK σ E = 13) (zE : oZ σ E = 100) (hl : oI σ L 1 = nI l) (hk : k < l) (h100 : l ≤ 100) : f_X4_at σ L (nI (k + 1)) = some (oI σ E k) := by
  have e1 : ¬ nI (k + 1) < (1 : Int32) := by rw [l1, nI_ltI (by omega) (by omega)]; omega
  have e2 : ¬ nI l < nI (k + 1) := by rw [nI_ltI (by omega) (by omega)]; omega
  have e3 : nI (k + 1) - (1 : Int32) = nI k := nI_pred k
  rw [f_X4_at, if_neg e1, x_gI kL, Option.bind_some, hl, if_neg e2, x_gR kL, rL, Option.bind_some, e3, x_aI kE (by omega) (by omega), Option.bind_some]
theorem c_step {σ0 : Hp} (hq : Rq A q σ0 μ) (hr : r < n) (hw : Rows q μ) {i l len : Nat} (hI : Iw A n q vw σ0 σ μ r i) (hi : i < l) (hll : l ≤ len) (h100 : len ≤ 100) (hlen : oI σ0 (A 32 r 0) 1 = nI len) (he : oI σ0 (A 33 r 0) i = μ.2 42 (100 * r + i)) (hs42 : Sm q (μ.2 42 (100 * r + i))) (rec26 : Hp → Nat → Nat → Int32 → Int32 → Option Hp) : ∃ σ', b_X10_execute_26 rec26 σ (A 10 0 0) (A 32 r 0) (nI l) (nI (i + 1)) = rec26 σ' (A 10 0 0) (A 32 r 0) (nI l) (nI (i + 1 + 1)) ∧ Iw A n q vw σ0 σ' μ r (i + 1) := by
  obtain ⟨hs, hv, hag, hN, hKK, i1, i2, i3⟩ := hI
  have h7 := hs.np
  have hii := hs.inj
  have e32 : oI σ (A 32 r 0) 1 = nI len := by rw [(hag 32 r 0 (show (32 : Nat) ≠ 21 by decide)).1]; exact hlen
  have e33 : oI σ (A 33 r 0) i = μ.2 42 (100 * r + i) := by rw [(hag 33 r 0 (show (33 : Nat) ≠ 21 by decide)).1]; exact he
  have hat := c_lat (hs.k32 hr) (hs.r32_0 hr) (hs.k33 hr) (hs.z33 hr) e32 (by omega : i < len) h100
  have e1 : ¬ nI l < nI (i + 1) := by rw [nI_ltI (by omega) (by omega)]; omega
  have e2 : nI (i + 1) + 1 = nI (i + 1 + 1) := nI_1 _
  have hE : exM μ r (i + 1) = exB (exM μ r i) (μ.2 42 (100 * r + i)) := rfl
  have hA := (exM_ag μ r i).1
  rw [b_X10_execute_26, if_neg e1, x_gO (hs.k32 hr), Option.bind_some, hat, Option.bind_some, e33]
  have same : exM μ r (i + 1) = exM μ r i → Iw A n q vw σ0 σ μ r (i + 1) := fun e => by
    refine ⟨hs, hv, hag, hN, hKK, by rw [e]; exact i1, by rw [e]; exact i2, fun id c a1 a2 a3 a4 => ?_⟩
    rcases i3 id c a1 a2 a3 a4 with ⟨b1, b2, j, b3, b4⟩ | ⟨b1, b2, b3⟩
    · exact Or.inl ⟨b1, by rw [e]; exact b2, j, by omega, b4⟩
    · refine Or.inr ⟨b1, by rw [e]; exact b2, fun j hj => ?_⟩
      by_cases hji : j = i
      · rw [hji, e]; exact b2
      · exact b3 j (by omega)
  obtain ⟨id, hid, e⟩ := hs42
  rw [e] at hE ⊢
  by_cases h0 : id = 0
  · subst h0
    rw [if_pos (show nI 0 = 0 from rfl), f_X10_execute_58, e2]
    exact ⟨σ, rfl, same (by rw [hE, exB, if_pos (show nI 0 = 0 from rfl)])⟩
  · have hq64 := hw.2
    have hne : ¬ nI id = 0 := nI_ne0 (by omega) (by omega)
    obtain ⟨g0, c, m, k, g1, g2, g3, g4, g5, g6, g7, -⟩ := hq.2.2.2.1 id (by omega) hid
    have n1 : (nI id).toNatClampNeg = id := nI_clamp (by omega)
    have n2 : (nI c).toNatClampNeg = c := nI_clamp (by omega)
    have n3 : (nI k).toNatClampNeg = k := nI_clamp (by omega)
    have o20 : ∀ j, oI σ (A 20 j 0) = oI σ0 (A 20 j 0) := fun j => (hag 20 j 0 (show (20 : Nat) ≠ 21 by decide)).1
    have x0 : oI σ (A 20 0 0) id = nI c := by rw [o20]; exact (g0 0 (by decide)).trans g2
    have x1 : oI σ (A 20 1 0) id = μ.2 5 id := by rw [o20]; exact (g0 1 (by decide))
    have x2 : oI σ (A 20 2 0) id = μ.2 6 id := by rw [o20]; exact (g0 2 (by decide))
    have x3 : oI σ (A 20 3 0) id = nI k := by rw [o20]; exact (g0 3 (by decide)).trans g4
    have x4 : oI σ (A 20 4 0) id = μ.2 8 id := by rw [o20]; exact (g0 4 (by decide))
    obtain ⟨idc, d1, d2, d3, d4⟩ := i2 c g1
    have x5 : oI σ (A 20 1 0) idc = (exM μ r i).2 77 c := by
      by_cases hz : idc = 0
      · rw [d3 hz, hz, o20]; exact hq.2.2.1
      · obtain ⟨-, f2, -⟩ := d4 (by omega)
        rw [f2, o20]
        exact (hq.2.2.2.1 idc (by omega) d1).1 1 (by decide)
    have k10 := hs.k10
    have k7 := hs.k7
    have k20 := fun (j : Nat) (hj : j < 5) => hs.k20 hj
    have kk0 := hs.k20 (i := 0) (by decide)
    have kk1 := hs.k20 (i := 1) (by decide)
    have kk2 := hs.k20 (i := 2) (by decide)
    have kk3 := hs.k20 (i := 3) (by decide)
    have kk4 := hs.k20 (i := 4) (by decide)
    have zz0 := hs.z20 (i := 0) (by decide)
    have zz1 := hs.z20 (i := 1) (by decide)
    have zz2 := hs.z20 (i := 2) (by decide)
    have zz3 := hs.z20 (i := 3) (by decide)
    have zz4 := hs.z20 (i := 4) (by decide)
    have w0 := hs.k21 (i := 0) (by decide)
    have w1 := hs.k21 (i := 1) (by decide)
    have w2 := hs.k21 (i := 2) (by decide)
    have w3 := hs.k21 (i := 3) (by decide)
    have y0 : oZ σ (A 21 0 0) = 8 := hs.z21 (i := 0) (by decide)
    have y1 : oZ σ (A 21 1 0) = 4 := hs.z21 (i := 1) (by decide)
    have y2 : oZ σ (A 21 2 0) = 513 := hs.z21 (i := 2) (by decide)
    have y3 : oZ σ (A 21 3 0) = 513 := hs.z21 (i := 3) (by decide)
    have hid5 : id < 513 := by omega
    have hidc5 : idc < 513 := by omega
    have hnew : f_X10_isNew σ (A 10 0 0) (nI id) = some (b1 ((exM μ r i).2 77 c < μ.2 5 id)) := by
      simp only [f_X10_isNew, x_gI, x_gR, x_gO, x_pI, x_pR, x_aI, x_aR, x_qI, x_qR, x_aL, oK_sI, oK_sR, oK_sC, oZ_sI, oZ_sR, oZ_sC, xI_sI, oI_sR, xI_sC, oR_sI, xR_sR, oR_sC, Option.bind_some, if_true, if_false, Nat.reduceEqDiff, true_and, and_true, false_and, and_false, k10, hs.r10_1, k7, hs.r7_1, kk1, zz1, hid5, x1, hs.r10_2, hs.r7_0, kk0, zz0, x0, w1, y1, g1, d2, hidc5, x5, Nat.reduceLT]
      unfold b1
      by_cases hlt : (exM μ r i).2 77 c < μ.2 5 id
      · rw [if_pos hlt, if_neg (fun e => by rw [Int32.lt_iff_toInt_lt] at hlt; rw [Int32.le_iff_toInt_le] at e; omega)]
      · rw [if_neg hlt, if_pos (by rw [Int32.lt_iff_toInt_lt] at hlt; rw [Int32.le_iff_toInt_le]; omega)]
    rw [if_neg hne, x_gO k10, Option.bind_some, hnew, Option.bind_some]
    have hB : exB (exM μ r i) (nI id) = (if (exM μ r i).2 77 c < μ.2 5 id then
    (if μ.2 6 id = 1 then mT (mT (mT (exM μ r i) 77 c (μ.2 5 id)) 78 c ((exM μ r i).2 76 k)) 76 k (μ.2 8 id)
     else if μ.2 6 id = 2 then mT (mT (mT (exM μ r i) 77 c (μ.2 5 id)) 78 c ((exM μ r i).2 76 k)) 76 k ((exM μ r i).2 76 k + μ.2 8 id)
     else mT (mT (exM μ r i) 77 c (μ.2 5 id)) 78 c ((exM μ r i).2 76 k)) else exM μ r i) := by
      rw [exB, if_neg hne]
      have hA' : ∀ j, j < 9 → (exM μ r i).2 j id = μ.2 j id := fun j hj => hA j id (by constructor <;> omega)
      simp only [n1, hA' 4 (by decide), hA' 5 (by decide), hA' 6 (by decide), hA' 7 (by decide), hA' 8 (by decide), g2, g4, n2, n3]
    by_cases hlt : (exM μ r i).2 77 c < μ.2 5 id
    · rw [if_neg (by rw [b1_0]; exact fun h => h hlt)]
      rw [hB, if_pos hlt] at hE
      have hk8 : k < 8 := g3
      have hE76 : (exM μ r (i + 1)).2 76 = fun k' => if k' = k then (if μ.2 6 id = 1 then μ.2 8 id else if μ.2 6 id = 2 then (exM μ r i).2 76 k + μ.2 8 id else (exM μ r i).2 76 k) else (exM μ r i).2 76 k' := by
        funext k'
        rw [hE]
        by_cases o1 : μ.2 6 id = 1
        · simp only [if_pos o1, m_P, mT_2, mT_1, mS_1, mS_2, Option.bind_some, Nat.reduceEqDiff, if_true, if_false, true_and, and_true, false_and, and_false]
        · by_cases o2 : μ.2 6 id = 2
          · simp only [if_neg o1, if_pos o2, m_P, mT_2, mT_1, mS_1, mS_2, Option.bind_some, Nat.reduceEqDiff, if_true, if_false, true_and, and_true, false_and, and_false]
          · simp only [if_neg o1, if_neg o2, m_P, mT_2, mT_1, mS_1, mS_2, Option.bind_some, Nat.reduceEqDiff, if_true, if_false, true_and, and_true, false_and, and_false]
            by_cases hk : k' = k
            · rw [if_pos hk, hk]
            · rw [if_neg hk]
      have hE77 : (exM μ r (i + 1)).2 77 = fun c' => if c' = c then μ.2 5 id else (exM μ r i).2 77 c' := by
        funext c'
        rw [hE]
        by_cases o1 : μ.2 6 id = 1
        · simp only [if_pos o1, m_P, mT_2, mT_1, mS_1, mS_2, Option.bind_some, Nat.reduceEqDiff, if_true, if_false, true_and, and_true, false_and, and_false]
        · by_cases o2 : μ.2 6 id = 2
          · simp only [if_neg o1, if_pos o2, m_P, mT_2, mT_1, mS_1, mS_2, Option.bind_some, Nat.reduceEqDiff, if_true, if_false, true_and, and_true, false_and, and_false]
          · simp only [if_neg o1, if_neg o2, m_P, mT_2, mT_1, mS_1, mS_2, Option.bind_some, Nat.reduceEqDiff, if_true, if_false, true_and, and_true, false_and, and_false]
      have hE78 : (exM μ r (i + 1)).2 78 = fun c' => if c' = c then (exM μ r i).2 76 k else (exM μ r i).2 78 c' := by
        funext c'
        rw [hE]
        by_cases o1 : μ.2 6 id = 1
        · simp only [if_pos o1, m_P, mT_2, mT_1, mS_1, mS_2, Option.bind_some, Nat.reduceEqDiff, if_true, if_false, true_and, and_true, false_and, and_false]
        · by_cases o2 : μ.2 6 id = 2
          · simp only [if_neg o1, if_pos o2, m_P, mT_2, mT_1, mS_1, mS_2, Option.bind_some, Nat.reduceEqDiff, if_true, if_false, true_and, and_true, false_and, and_false]
          · simp only [if_neg o1, if_neg o2, m_P, mT_2, mT_1, mS_1, mS_2, Option.bind_some, Nat.reduceEqDiff, if_true, if_false, true_and, and_true, false_and, and_false]
      obtain ⟨σ', hex, s1, s2, s3, s4, s5, s6, s7, s8⟩ : ∃ σ', f_X10_executeRequest σ (A 10 0 0) (nI id) = some σ' ∧ Rs A n σ' ∧ Vok vw σ' ∧ Ag A σ σ' (fun s _ => s ≠ 21) ∧ (oN σ' = oN σ ∧ oK σ' = oK σ) ∧ (∀ k', oI σ' (A 21 0 0) k' = if k' = k then (if μ.2 6 id = 1 then μ.2 8 id else if μ.2 6 id = 2 then oI σ (A 21 0 0) k + μ.2 8 id else oI σ (A 21 0 0) k) else oI σ (A 21 0 0) k') ∧ (∀ c', oI σ' (A 21 1 0) c' = if c' = c then nI id else oI σ (A 21 1 0) c') ∧ (∀ x, oI σ' (A 21 2 0) x = if x = id then 1 else oI σ (A 21 2 0) x) ∧ (∀ x, oI σ' (A 21 3 0) x = if x = id then oI σ (A 21 0 0) k else oI σ (A 21 3 0) x) := by
        have n0 : oK σ (A 21 0 0) ≠ 9 := by rw [w0]; decide
        have n1 : oK σ (A 21 1 0) ≠ 9 := by rw [w1]; decide
        have n2 : oK σ (A 21 2 0) ≠ 9 := by rw [w2]; decide
        have n3 : oK σ (A 21 3 0) ≠ 9 := by rw [w3]; decide
        have hI := hs.1
        by_cases o1 : μ.2 6 id = 1
        · refine ⟨_, by simp only [f_X10_executeRequest, x_gI, x_gR, x_gO, x_pI, x_pR, x_aI, x_aR, x_qI, x_qR, x_aL, oK_sI, oK_sR, oK_sC, oZ_sI, oZ_sR, oZ_sC, xI_sI, oI_sR, xI_sC, oR_sI, xR_sR, oR_sC, Option.bind_some, if_true, if_false, Nat.reduceEqDiff, true_and, and_true, false_and, and_false, k10, hs.r10_0, hs.r10_1, hs.r10_2, hs.r10_3, hs.r10_4, k7, hs.r7_0, hs.r7_2, hs.r7_3, hs.r7_4, kk0, kk2, kk3, kk4, zz0, zz2, zz3, zz4, x0, x2, x3, x4, hid5, w0, w1, w2, w3, y0, y1, y2, y3, g1, hk8, hii, o1, Nat.reduceLT]; rfl, (((hs.sI rfl).sI rfl).sI rfl).sI rfl, (((hv.sI n1).sI n2).sI n3).sI n0, ((((Ag.sI hI).tr (Ag.sI hI)).tr (Ag.sI hI)).tr (Ag.sI hI)).wk (fun s i h => by omega), ⟨rfl, rfl⟩, fun k' => ?_, fun c' => ?_, fun x => ?_, fun x => ?_⟩
          · simp only [oK_sI, oK_sR, oK_sC, oZ_sI, oZ_sR, oZ_sC, xI_sI, oI_sR, xI_sC, oR_sI, xR_sR, oR_sC, Option.bind_some, if_true, if_false, Nat.reduceEqDiff, true_and, and_true, false_and, and_false, hii, o1]
          · simp only [oK_sI, oK_sR, oK_sC, oZ_sI, oZ_sR, oZ_sC, xI_sI, oI_sR, xI_sC, oR_sI, xR_sR, oR_sC, Option.bind_some, if_true, if_false, Nat.reduceEqDiff, true_and, and_true, false_and, and_false, hii]
          · simp only [oK_sI, oK_sR, oK_sC, oZ_sI, oZ_sR, oZ_sC, xI_sI, oI_sR, xI_sC, oR_sI, xR_sR, oR_sC, Option.bind_some, if_true, if_false, Nat.reduceEqDiff, true_and, and_true, false_and, and_false, hii]
          · simp only [oK_sI, oK_sR, oK_sC, oZ_sI, oZ_sR, oZ_sC, xI_sI, oI_sR, xI_sC, oR_sI, xR_sR, oR_sC, Option.bind_some, if_true, if_false, Nat.reduceEqDiff, true_and, and_true, false_and, and_false, hii]
        · by_cases o2 : μ.2 6 id = 2
          · refine ⟨_, by simp only [f_X10_executeRequest, x_gI, x_gR, x_gO, x_pI, x_pR, x_aI, x_aR, x_qI, x_qR, x_aL, oK_sI, oK_sR, oK_sC, oZ_sI, oZ_sR, oZ_sC, xI_sI, oI_sR, xI_sC, oR_sI, xR_sR, oR_sC, Option.bind_some, if_true, if_false, Nat.reduceEqDiff, true_and, and_true, false_and, and_false, k10, hs.r10_0, hs.r10_1, hs.r10_2, hs.r10_3, hs.r10_4, k7, hs.r7_0, hs.r7_2, hs.r7_3, hs.r7_4, kk0, kk2, kk3, kk4, zz0, zz2, zz3, zz4, x0, x2, x3, x4, hid5, w0, w1, w2, w3, y0, y1, y2, y3, g1, hk8, hii, o2, Nat.reduceLT, show ¬ (2 : Int32) = 1 by decide]; rfl, (((hs.sI rfl).sI rfl).sI rfl).sI rfl, (((hv.sI n1).sI n2).sI n3).sI n0, ((((Ag.sI hI).tr (Ag.sI hI)).tr (Ag.sI hI)).tr (Ag.sI hI)).wk (fun s i h => by omega), ⟨rfl, rfl⟩, fun k' => ?_, fun c' => ?_, fun x => ?_, fun x => ?_⟩
            · simp only [oK_sI, oK_sR, oK_sC, oZ_sI, oZ_sR, oZ_sC, xI_sI, oI_sR, xI_sC, oR_sI, xR_sR, oR_sC, Option.bind_some, if_true, if_false, Nat.reduceEqDiff, true_and, and_true, false_and, and_false, hii, o2, show ¬ (2 : Int32) = 1 by decide]
            · simp only [oK_sI, oK_sR, oK_sC, oZ_sI, oZ_sR, oZ_sC, xI_sI, oI_sR, xI_sC, oR_sI, xR_sR, oR_sC, Option.bind_some, if_true, if_false, Nat.reduceEqDiff, true_and, and_true, false_and, and_false, hii]
            · simp only [oK_sI, oK_sR, oK_sC, oZ_sI, oZ_sR, oZ_sC, xI_sI, oI_sR, xI_sC, oR_sI, xR_sR, oR_sC, Option.bind_some, if_true, if_false, Nat.reduceEqDiff, true_and, and_true, false_and, and_false, hii]
            · simp only [oK_sI, oK_sR, oK_sC, oZ_sI, oZ_sR, oZ_sC, xI_sI, oI_sR, xI_sC, oR_sI, xR_sR, oR_sC, Option.bind_some, if_true, if_false, Nat.reduceEqDiff, true_and, and_true, false_and, and_false, hii]
          · refine ⟨_, by simp only [f_X10_executeRequest, x_gI, x_gR, x_gO, x_pI, x_pR, x_aI, x_aR, x_qI, x_qR, x_aL, oK_sI, oK_sR, oK_sC, oZ_sI, oZ_sR, oZ_sC, xI_sI, oI_sR, xI_sC, oR_sI, xR_sR, oR_sC, Option.bind_some, if_true, if_false, Nat.reduceEqDiff, true_and, and_true, false_and, and_false, k10, hs.r10_0, hs.r10_1, hs.r10_2, hs.r10_3, hs.r10_4, k7, hs.r7_0, hs.r7_2, hs.r7_3, hs.r7_4, kk0, kk2, kk3, kk4, zz0, zz2, zz3, zz4, x0, x2, x3, x4, hid5, w0, w1, w2, w3, y0, y1, y2, y3, g1, hk8, hii, o1, o2, Nat.reduceLT]; rfl, (((hs.sI rfl).sI rfl).sI rfl), (((hv.sI n1).sI n2).sI n3), ((((Ag.sI hI).tr (Ag.sI hI)).tr (Ag.sI hI))).wk (fun s i h => by omega), ⟨rfl, rfl⟩, fun k' => ?_, fun c' => ?_, fun x => ?_, fun x => ?_⟩
            · simp only [oK_sI, oK_sR, oK_sC, oZ_sI, oZ_sR, oZ_sC, xI_sI, oI_sR, xI_sC, oR_sI, xR_sR, oR_sC, Option.bind_some, if_true, if_false, Nat.reduceEqDiff, true_and, and_true, false_and, and_false, hii, o1, o2]
              by_cases hk : k' = k
              · rw [if_pos hk, hk]
              · rw [if_neg hk]
            · simp only [oK_sI, oK_sR, oK_sC, oZ_sI, oZ_sR, oZ_sC, xI_sI, oI_sR, xI_sC, oR_sI, xR_sR, oR_sC, Option.bind_some, if_true, if_false, Nat.reduceEqDiff, true_and, and_true, false_and, and_false, hii]
            · simp only [oK_sI, oK_sR, oK_sC, oZ_sI, oZ_sR, oZ_sC, xI_sI, oI_sR, xI_sC, oR_sI, xR_sR, oR_sC, Option.bind_some, if_true, if_false, Nat.reduceEqDiff, true_and, and_true, false_and, and_false, hii]
            · simp only [oK_sI, oK_sR, oK_sC, oZ_sI, oZ_sR, oZ_sC, xI_sI, oI_sR, xI_sC, oR_sI, xR_sR, oR_sC, Option.bind_some, if_true, if_false, Nat.reduceEqDiff, true_and, and_true, false_and, and_false, hii]
      rw [Option.bind_some, hex, Option.bind_some, f_X10_execute_58, e2]
      refine ⟨σ', rfl, s1, s2, (hag.tr s3).wk (fun s i h => ⟨h, h⟩), s4.1.trans hN, s4.2.trans hKK, fun k' hk' => ?_, fun c' hc' => ?_, fun jd c' a1 a2 a3 a4 => ?_⟩
      · rw [hE76, s5]
        simp only [i1 k hk8, i1 k' hk']
      · rw [hE77, hE78, s6]
        by_cases hcc : c' = c
        · subst hcc
          refine ⟨id, hid, if_pos rfl, fun e => absurd e h0, fun _ => ⟨g2, if_pos rfl, ?_⟩⟩
          rw [s8, if_pos rfl]
          dsimp only
          rw [if_pos rfl, i1 k hk8]
        · obtain ⟨jd, t1, t2, t3, t4⟩ := i2 c' hc'
          dsimp only
          rw [if_neg hcc, if_neg hcc, if_neg hcc]
          refine ⟨jd, t1, t2, t3, fun h1 => ?_⟩
          obtain ⟨t5, t6, t7⟩ := t4 h1
          have hji : jd ≠ id := fun e => by
            rw [e, g2, nI_eq (by omega) (by omega)] at t5
            omega
          exact ⟨t5, t6, by rw [s8, if_neg hji]; exact t7⟩
      · rw [hE77, s7, s8]
        dsimp only
        by_cases hji : jd = id
        · subst hji
          have hcc : c' = c := by
            rw [g2, nI_eq (by omega) (by omega)] at a4
            omega
          subst hcc
          rw [if_pos rfl, if_pos rfl, if_pos rfl]
          refine Or.inl ⟨rfl, Int32.le_refl _, i, by omega, ?_, ?_, fun j' hj' => ?_⟩
          · rw [hE77]; exact if_pos rfl
          · rw [hE78]
            exact (if_pos rfl).trans (i1 k hk8).symm
          · rcases i3 jd c' a1 a2 a3 a4 with ⟨b1, b2, -⟩ | ⟨-, -, b3⟩
            · rw [Int32.lt_iff_toInt_lt] at hlt
              rw [Int32.le_iff_toInt_le] at b2
              omega
            · exact b3 j' hj'
        · rw [if_neg hji, if_neg hji]
          rcases i3 jd c' a1 a2 a3 a4 with ⟨b1, b2, j, b3, b4⟩ | ⟨b1, b2, b3⟩
          · refine Or.inl ⟨b1, ?_, j, by omega, b4⟩
            by_cases hcc : c' = c
            · subst hcc
              rw [if_pos rfl]
              rw [Int32.lt_iff_toInt_lt] at hlt
              rw [Int32.le_iff_toInt_le] at b2 ⊢
              omega
            · rw [if_neg hcc]; exact b2
          · have hne2 : (if c' = c then μ.2 5 id else (exM μ r i).2 77 c') ≠ μ.2 5 jd := by
              by_cases hcc : c' = c
              · subst hcc
                rw [if_pos rfl]
                exact fun e => hji (hq.2.2.2.2 jd id a1 a2 (by omega) hid (a4.trans g2.symm) e.symm)
              · rw [if_neg hcc]; exact b2
            refine Or.inr ⟨b1, hne2, fun j hj => ?_⟩
            by_cases hj2 : j = i
            · subst hj2
              rw [hE77]
              exact hne2
            · exact b3 j (by omega)
    · rw [if_pos (by rw [b1_0]; exact hlt), f_X10_execute_58, e2]
      rw [hB, if_neg hlt] at hE
      exact ⟨σ, rfl, same hE⟩
theorem c_exe {T : Nat} {hb : Nat → Nat} {p u : Nat → Nat} {a d : Nat} (hR : RR A n T q hb vw p u a d σ μ) (hr : r < n) {l len : Nat} (hl : l ≤ len) (h100 : len ≤ 100) (hlen : oI σ (A 32 r 0) 1 = nI len) (he : ∀ k, k < len → oI σ (A 33 r 0) k = rwM 100 μ 42 r k ∧ Sm q (rwM 100 μ 42 r k)) : ∃ σ', f_X10_execute σ (A 10 0 0) (A 32 r 0) (nI l) = some σ' ∧ f_X12_execute μ (nI r) (nI l) = some (exM μ r l) ∧ Iw A n q vw σ σ' μ r l := by
  have hs := hR.1
  have h7 := hs.np
  have hi := hs.inj
  have hw := hR.rows
  have y0 : oZ σ (A 21 0 0) = 8 := hs.z21 (i := 0) (by decide)
  have y1 : oZ σ (A 21 1 0) = 4 := hs.z21 (i := 1) (by decide)
  have y2 : oZ σ (A 21 2 0) = 513 := hs.z21 (i := 2) (by decide)
  have w0 : oK σ (A 21 0 0) = 13 := hs.k21 (i := 0) (by decide)
  have w1 : oK σ (A 21 1 0) = 13 := hs.k21 (i := 1) (by decide)
  have w2 : oK σ (A 21 2 0) = 13 := hs.k21 (i := 2) (by decide)
  have k10 := hs.k10
  obtain ⟨σ1, f1, a1, b1, c1, d1, e1⟩ := c_fillA (x := 0) w0 y0 (by decide)
  obtain ⟨σ2, f2, a2, b2, c2, d2, e2⟩ := c_fillA (σ := σ1) (N := 4) (x := 0) (by rw [a1]; exact w1) (by rw [b1]; exact y1) (by decide)
  obtain ⟨σ3, f3, a3, b3, c3, d3, e3⟩ := c_fillA (σ := σ2) (N := 513) (x := 0) (by rw [a2, a1]; exact w2) (by rw [b2, b1]; exact y2) (by decide)
  have hall : ∀ b i, oI σ3 b i = if (b = A 21 2 0 ∧ i < 513) ∨ (b = A 21 1 0 ∧ i < 4) ∨ (b = A 21 0 0 ∧ i < 8) then 0 else oI σ b i := by
    intro b i
    rw [e3, e2, e1]
    by_cases g1 : b = A 21 2 0 ∧ i < 513
    · rw [if_pos g1, if_pos (Or.inl g1)]
    · rw [if_neg g1]
      by_cases g2 : b = A 21 1 0 ∧ i < 4
      · rw [if_pos g2, if_pos (Or.inr (Or.inl g2))]
      · rw [if_neg g2]
        by_cases g3 : b = A 21 0 0 ∧ i < 8
        · rw [if_pos g3, if_pos (Or.inr (Or.inr g3))]
        · rw [if_neg g3, if_neg (fun h => h.elim g1 (fun h => h.elim g2 g3))]
  have hs3 : Rs A n σ3 := hs.of (a3.trans (a2.trans a1)) (b3.trans (b2.trans b1)) (c3.trans (c2.trans c1)) (d3.trans (d2.trans d1)) (fun s i j k hk => by
    rw [hall, if_neg]
    simp only [hi]
    intro h
    have h21 : s = 21 := by rcases h with h | h | h <;> exact h.1.1
    subst h21
    exact hk rfl)
  have hK3 : oK σ3 = oK σ := a3.trans (a2.trans a1)
  have hv3 : Vok vw σ3 := fun v L S hv => by
    obtain ⟨g1, g2, g3⟩ := hR.2.1 v L S hv
    have hne : ∀ j, j < 3 → v ≠ A 21 j 0 := fun j hj e => by
      rw [e, hs.k21 (by omega)] at g1
      exact absurd g1 (by decide)
    have hx : ∀ k, oI σ3 v k = oI σ v k := fun k => by
      rw [hall, if_neg]
      rintro (h | h | h)
      · exact hne 2 (by decide) h.1
      · exact hne 1 (by decide) h.1
      · exact hne 0 (by decide) h.1
    exact ⟨by rw [hK3]; exact g1, by rw [hx]; exact g2, by rw [hx]; exact g3⟩
  have hag3 : Ag A σ σ3 (fun s _ => s ≠ 21) := fun s i j hsn => by
    refine ⟨?_, by rw [c3, c2, c1]⟩
    funext k
    rw [hall, if_neg]
    simp only [hi]
    rintro (h | h | h)
    · exact hsn h.1.1
    · exact hsn h.1.1
    · exact hsn h.1.1
  have hI0 : Iw A n q vw σ σ3 μ r 0 := by
    refine ⟨hs3, hv3, hag3, d3.trans (d2.trans d1), hK3, fun k hk => ?_, fun c hc => ⟨0, Nat.zero_le _, ?_, fun _ => ?_, fun h => by omega⟩, fun id c h1 h2 h3 h4 => Or.inr ⟨?_, ?_, fun j hj => by omega⟩⟩
    · rw [hall]
      simp only [hi, true_and, Nat.reduceEqDiff, and_false, false_and, false_or, hk, or_true, if_true]
      show _ = if _ then _ else _
      rw [if_pos (Or.inl ⟨rfl, hk⟩)]
    · rw [hall]
      simp only [hi, true_and, Nat.reduceEqDiff, and_false, false_and, false_or, hc, true_or, if_true, and_true]
      rfl
    · show (if _ then _ else _) = _
      rw [if_pos (Or.inr ⟨Or.inl rfl, hc⟩)]
    · have : id < 513 := by have := hw.2; omega
      rw [hall]
      simp only [hi, true_and, this, true_or, if_true, and_true]
    · show (if _ then _ else _) ≠ _
      rw [if_pos (Or.inr ⟨Or.inl rfl, h3⟩)]
      obtain ⟨c', m, k, g1, g2, g3, g4, g5, g6, g7⟩ := hw.1 id h1 h2
      rw [g7]
      have := hw.2
      exact fun e => nI_ne0 (by omega) (by omega) e.symm
  have loop : ∀ d (F i : Nat) (σi : Hp), d < F → l = i + d → Iw A n q vw σ σi μ r i → ∃ σ', f_X10_execute_26 F σi (A 10 0 0) (A 32 r 0) (nI l) (nI (i + 1)) = some σ' ∧ Iw A n q vw σ σ' μ r l := by
    intro d
    induction d with
    | zero =>
      intro F i σi hF hk hI
      obtain ⟨F, rfl⟩ : ∃ f, F = f + 1 := ⟨F - 1, by omega⟩
      refine ⟨σi, ?_, by rw [show l = i by omega]; exact hI⟩
      show b_X10_execute_26 (f_X10_execute_26 F) _ _ _ _ _ = _
      rw [b_X10_execute_26, if_pos ((nI_ltI (by omega) (by omega)).mpr (by omega))]
    | succ d ih =>
      intro F i σi hF hk hI
      obtain ⟨F, rfl⟩ : ∃ f, F = f + 1 := ⟨F - 1, by omega⟩
      have hik : i < len := by omega
      obtain ⟨g1, g2⟩ := he i hik
      rw [rwM_at (by omega)] at g1 g2
      obtain ⟨σ', h1, h2⟩ := c_step hR.2.2.2.1 hr hw hI (by omega : i < l) hl h100 hlen g1 g2 (f_X10_execute_26 F)
      obtain ⟨σ'', h3, h4⟩ := ih F (i + 1) σ' (by omega) (by omega) h2
      exact ⟨σ'', by
        show b_X10_execute_26 (f_X10_execute_26 F) _ _ _ _ _ = _
        rw [h1]; exact h3, h4⟩
  obtain ⟨σ', h1, h2⟩ := loop l lf 0 σ3 (by unfold lf; omega) (by omega) hI0
  refine ⟨σ', ?_, m_exe hw (by omega) (by omega) (fun k hk => ?_), h2⟩
  · unfold f_X10_execute
    rw [x_gR k10, hs.r10_0, Option.bind_some, f1, Option.bind_some, x_gR (by rw [a1]; exact k10), c1, hs.r10_2, Option.bind_some, f2, Option.bind_some, x_gR (by rw [a2, a1]; exact k10), c2, c1, hs.r10_3, Option.bind_some, f3, Option.bind_some]
    exact h1
  · have := (he k (by omega)).2
    rw [rwM_at (by omega)] at this
    exact this
/-- what no group speaks of -/
theorem RR.fr {T : Nat} {hb : Nat → Nat} {p u : Nat → Nat} {a d : Nat} {μ' : Mu} (hR : RR A n T q hb vw p u a d σ μ) (hs : Rs A n σ') (hv : Vok vw σ') (hc : Ag A σ σ' (fun s _ => s ≠ 21)) (hm : AgM μ μ' (fun j _ => j ≠ 55 ∧ j ≠ 56 ∧ j ≠ 76 ∧ j ≠ 77 ∧ j ≠ 78)) (h1 : ∀ k, k ≠ 0 → μ'.1 k = μ.1 k) : RR A n T q hb vw p u a d σ' μ' := by
  obtain ⟨r1, r2, r3, r4, r5, r6, r7, r8, r9, r10⟩ := hR
  refine ⟨hs, hv, r3.cg (hc.wk ?_) (fun k h => h1 k (by omega)), r4.cg (hc.wk ?_) (hm.wk ?_) (h1 3 (by decide)), r5.cg (hc.wk ?_) (hm.wk ?_) ⟨h1 _ (by decide), h1 _ (by decide), h1 _ (by decide)⟩, fun r hr => (r6 r hr).cg hs.np.2 (hc.wk ?_) (hm.wk ?_), fun c hc' => (r7 c hc').cg (hc.wk ?_) (hm.wk ?_), r8.cg (hc.wk ?_) (hm.wk ?_) (h1 _ (by decide)), r9, r10⟩
  · intro s i h; omega
  · intro s i h; omega
  · intro s i h; omega
  · intro s i h; omega
  · intro s i h; omega
  · intro s i h; unfold fpR at h; omega
  · intro s i h; unfold fmR at h; omega
  · intro s i h; unfold fpC at h; omega
  · intro s i h; unfold fmC at h; omega
  · intro s i h; omega
  · intro s i h; omega
end WRD
