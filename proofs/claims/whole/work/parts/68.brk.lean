/-! what is not held to: the reference's -/
def AgS (μ μ' : Mu) : Prop := AgM μ μ' (fun j _ => j ≠ 76 ∧ j ≠ 77 ∧ j ≠ 78) ∧ μ'.1 = μ.1
def EqS (μ μ' : Mu) : Prop := AgS μ μ' ∧ (∀ k, k < 8 → μ'.2 76 k = μ.2 76 k) ∧ ∀ c, c < 4 → μ'.2 77 c = μ.2 77 c ∧ μ'.2 78 c = μ.2 78 c
theorem AgS.rf {μ : Mu} : AgS μ μ := ⟨AgM.rf, rfl⟩
theorem AgS.tr {μ μ' μ'' : Mu} (h : AgS μ μ') (h' : AgS μ' μ'') : AgS μ μ'' := ⟨(h.1.tr h'.1).wk fun _ _ h => ⟨h, h⟩, h'.2.trans h.2⟩
theorem exB_cg {q : Nat} {μ μ' : Mu} (hq : Rows q μ) (h : EqS μ μ') {e : Int32} (he : Sm q e) : EqS (exB μ e) (exB μ' e) := by
  obtain ⟨id, hid, rfl⟩ := he
  by_cases h0 : nI id = 0
  · unfold exB
    rw [if_pos h0, if_pos h0]
    exact h
  · have hi1 : 1 ≤ id := by
      rcases Nat.eq_zero_or_pos id with e | e
      · exact absurd (by rw [e]; rfl) h0
      · exact e
    have hq64 := hq.2
    obtain ⟨c, m, k, c1, c2, c3, c4, c5, c6, c7⟩ := hq.1 id hi1 hid
    obtain ⟨⟨h1, h2⟩, h3, h4⟩ := h
    have e : ∀ j i, j < 76 → μ'.2 j i = μ.2 j i := fun j i hj => h1 j i (by omega)
    have ec : (nI id).toNatClampNeg = id := nI_clamp (by omega)
    have cc : (nI c).toNatClampNeg = c := nI_clamp (by omega)
    have kk : (nI k).toNatClampNeg = k := nI_clamp (by omega)
    have hx : ∀ μ1 : Mu, μ1.2 4 id = nI c → μ1.2 7 id = nI k → exB μ1 (nI id) = if μ1.2 77 c < μ1.2 5 id then (if μ1.2 6 id = 1 then mT (mT (mT μ1 77 c (μ1.2 5 id)) 78 c (μ1.2 76 k)) 76 k (μ1.2 8 id) else if μ1.2 6 id = 2 then mT (mT (mT μ1 77 c (μ1.2 5 id)) 78 c (μ1.2 76 k)) 76 k (μ1.2 76 k + μ1.2 8 id) else mT (mT μ1 77 c (μ1.2 5 id)) 78 c (μ1.2 76 k)) else μ1 := fun μ1 e4 e7 => by
      unfold exB
      rw [if_neg h0]
      simp only [ec, e4, e7, cc, kk]
    rw [hx μ c2 c4, hx μ' ((e 4 id (by decide)).trans c2) ((e 7 id (by decide)).trans c4), (h4 c c1).1, e 5 id (by decide), e 6 id (by decide), e 8 id (by decide), h3 k c3]
    have base : ∀ (z1 z2 z3 : Int32), EqS (mT (mT (mT μ 77 c z1) 78 c z2) 76 k z3) (mT (mT (mT μ' 77 c z1) 78 c z2) 76 k z3) := fun z1 z2 z3 => by
      refine ⟨⟨fun j i hj => ?_, h2⟩, fun k' hk' => ?_, fun c' hc' => ⟨?_, ?_⟩⟩
      · simp only [mT_2, hj.1, hj.2.1, hj.2.2, false_and, if_false]
        exact h1 j i hj
      · simp only [m_P, mT_2, mT_1, mS_1, mS_2, Option.bind_some, Nat.reduceEqDiff, if_true, if_false, true_and, and_true, false_and, and_false]
        rw [h3 k' hk']
      · simp only [m_P, mT_2, mT_1, mS_1, mS_2, Option.bind_some, Nat.reduceEqDiff, if_true, if_false, true_and, and_true, false_and, and_false]
        rw [(h4 c' hc').1]
      · simp only [m_P, mT_2, mT_1, mS_1, mS_2, Option.bind_some, Nat.reduceEqDiff, if_true, if_false, true_and, and_true, false_and, and_false]
        rw [(h4 c' hc').2]
    have base2 : ∀ (z1 z2 : Int32), EqS (mT (mT μ 77 c z1) 78 c z2) (mT (mT μ' 77 c z1) 78 c z2) := fun z1 z2 => by
      refine ⟨⟨fun j i hj => ?_, h2⟩, fun k' hk' => ?_, fun c' hc' => ⟨?_, ?_⟩⟩
      · simp only [mT_2, hj.1, hj.2.1, hj.2.2, false_and, if_false]
        exact h1 j i hj
      · simp only [m_P, mT_2, mT_1, mS_1, mS_2, Option.bind_some, Nat.reduceEqDiff, if_true, if_false, true_and, and_true, false_and, and_false]
        rw [h3 k' hk']
      · simp only [m_P, mT_2, mT_1, mS_1, mS_2, Option.bind_some, Nat.reduceEqDiff, if_true, if_false, true_and, and_true, false_and, and_false]
        rw [(h4 c' hc').1]
      · simp only [m_P, mT_2, mT_1, mS_1, mS_2, Option.bind_some, Nat.reduceEqDiff, if_true, if_false, true_and, and_true, false_and, and_false]
        rw [(h4 c' hc').2]
    by_cases d1 : μ.2 77 c < μ.2 5 id
    · rw [if_pos d1, if_pos d1]
      by_cases d2 : μ.2 6 id = 1
      · rw [if_pos d2, if_pos d2]
        exact base _ _ _
      · rw [if_neg d2, if_neg d2]
        by_cases d3 : μ.2 6 id = 2
        · rw [if_pos d3, if_pos d3]
          exact base _ _ _
        · rw [if_neg d3, if_neg d3]
          exact base2 _ _
    · rw [if_neg d1, if_neg d1]
      exact ⟨⟨h1, h2⟩, h3, h4⟩
theorem exM_cg {q r l : Nat} {μ μ' : Mu} (hq : Rows q μ) (h : AgS μ μ') (he : ∀ k, k < l → Sm q (μ.2 42 (100 * r + k))) : ∀ m, m ≤ l → EqS (exM μ r m) (exM μ' r m) := by
  intro m
  induction m with
  | zero =>
    intro _
    refine ⟨⟨fun j i hj => ?_, h.2⟩, fun k hk => ?_, fun c hc => ⟨?_, ?_⟩⟩
    · show (if _ then _ else μ'.2 j i) = if _ then _ else μ.2 j i
      rw [if_neg (by omega), if_neg (by omega)]
      exact h.1 j i hj
    · show (if _ then _ else _) = if _ then _ else _
      rw [if_pos (by omega), if_pos (by omega)]
    · show (if _ then _ else _) = if _ then _ else _
      rw [if_pos (by omega), if_pos (by omega)]
    · show (if _ then _ else _) = if _ then _ else _
      rw [if_pos (by omega), if_pos (by omega)]
  | succ m ih =>
    intro hm
    show EqS (exB (exM μ r m) (μ.2 42 (100 * r + m))) (exB (exM μ' r m) (μ'.2 42 (100 * r + m)))
    rw [h.1 42 _ (show (42 : Nat) ≠ 76 ∧ (42 : Nat) ≠ 77 ∧ (42 : Nat) ≠ 78 by decide)]
    exact exB_cg (hq.cg ((exM_ag μ r m).1.wk fun j i h => by omega)) (ih (by omega)) (he m (by omega))
def relP (μ : Mu) (r k : Nat) : Prop := (μ.2 72 k = μ.2 33 r ∧ μ.2 73 k = μ.2 34 r) ∨ ∃ x, f_X12_isBehind (μ.2 72 k) (μ.2 73 k) (μ.2 33 r) (μ.2 34 r) = some x ∧ ¬ x = 0
def frs (μ : Mu) (r c : Nat) (num : Int32) (j : Nat) : Prop := (exM μ r (j + 1)).2 77 c = num ∧ ∀ j', j' < j → ¬ (exM μ r (j' + 1)).2 77 c = num
def gdQ (μ : Mu) (r k id s c l : Nat) : Prop := s < l ∧ μ.2 42 (100 * r + s) = nI id ∧ ∀ j, j < l → frs μ r c (μ.2 5 id) j → (exM μ r (j + 1)).2 78 c = μ.2 75 k
theorem frs_u {μ : Mu} {r c j j' : Nat} {num : Int32} (h : frs μ r c num j) (h' : frs μ r c num j') : j = j' := by
  rcases Nat.lt_trichotomy j j' with e | e | e
  · exact absurd h.1 (h'.2 j e)
  · exact e
  · exact absurd h'.1 (h.2 j' e)
theorem m_has {q r k id s c l : Nat} {μ0 μ : Mu} (hq : Rows q μ0) (hr7 : r < 7) (hk : k < 200) (i1 : 1 ≤ id) (i2 : id ≤ q) (h71 : μ0.2 71 k = nI id) (h74 : μ0.2 74 k = nI (s + 1)) (hs100 : s < 100) (h4 : μ0.2 4 id = nI c) (hc : c < 4) (h38 : μ0.2 38 r = nI l) (hl : l ≤ 100) (h42 : ∀ k, k < l → Sm q (μ0.2 42 (100 * r + k))) (hA : AgS μ0 μ) : ∃ x μ', f_X12_has μ (nI r) (nI k) = some (x, μ') ∧ AgS μ0 μ' ∧ ((x = 1 ∧ gdQ μ0 r k id s c l) ∨ (x = 0 ∧ ¬ gdQ μ0 r k id s c l)) := by
  have hq64 := hq.2
  have e : ∀ {μ : Mu}, AgS μ0 μ → ∀ j i, j < 76 → μ.2 j i = μ0.2 j i := fun h j i hj => h.1 j i (by omega)
  have hz : id < 4097 := by omega
  have loop : ∀ (d F j : Nat) (μ : Mu), d < F → l = j + d → AgS μ0 μ → (∀ j', j' < j → ¬ (exM μ0 r (j' + 1)).2 77 c = μ0.2 5 id) → ∃ x μ', f_X12_has_49 F μ (nI r) (nI k) (nI id) (nI j) = some (x, μ') ∧ AgS μ0 μ' ∧ ((x = 1 ∧ ∀ j, j < l → frs μ0 r c (μ0.2 5 id) j → (exM μ0 r (j + 1)).2 78 c = μ0.2 75 k) ∨ (x = 0 ∧ ¬ ∀ j, j < l → frs μ0 r c (μ0.2 5 id) j → (exM μ0 r (j + 1)).2 78 c = μ0.2 75 k)) := by
    intro d
    induction d with
    | zero =>
      intro F j μ hF hj hA hno
      obtain ⟨F, rfl⟩ : ∃ f, F = f + 1 := ⟨F - 1, by omega⟩
      refine ⟨1, μ, ?_, hA, Or.inl ⟨rfl, fun j' hj' hf => absurd hf.1 (hno j' (by omega))⟩⟩
      show b_X12_has_49 (f_X12_has_49 F) _ _ _ _ _ = _
      rw [b_X12_has_49, mA_n 38 r hr7, Option.bind_some, e hA 38 r (by decide), h38, if_pos ((nI_leI (by omega) (by omega)).mpr (by omega))]
    | succ d ih =>
      intro F j μ hF hj hA hno
      obtain ⟨F, rfl⟩ : ∃ f, F = f + 1 := ⟨F - 1, by omega⟩
      have hqm : Rows q μ := hq.cg (hA.1.wk fun j i h => by omega)
      have hx := m_exe hqm hr7 (l := j + 1) (by omega) (fun k hk => by rw [e hA 42 _ (by decide)]; exact h42 k (by omega))
      have hcg := exM_cg hq hA h42 (j + 1) (by omega)
      have hA2 : AgS μ0 (exM μ r (j + 1)) := hA.tr (exM_ag μ r (j + 1))
      have c0 : f_X12_has_49 (F + 1) μ (nI r) (nI k) (nI id) (nI j) = if (exM μ0 r (j + 1)).2 77 c = μ0.2 5 id then f_X12_has_89 (exM μ r (j + 1)) (nI k) (nI id) else f_X12_has_49 F (exM μ r (j + 1)) (nI r) (nI k) (nI id) (nI (j + 1)) := by
        show b_X12_has_49 (f_X12_has_49 F) _ _ _ _ _ = _
        rw [b_X12_has_49, mA_n 38 r hr7, Option.bind_some, e hA 38 r (by decide), h38, if_neg (fun h => by rw [nI_leI (by omega) (by omega)] at h; omega), nI_1, hx, Option.bind_some, mA_n 4 id hz, Option.bind_some, e hA2 4 id (by decide), h4, mA_n 77 c hc, Option.bind_some, mA_n 5 id hz, Option.bind_some, e hA2 5 id (by decide), (hcg.2.2 c hc).1]
      rw [c0]
      by_cases d1 : (exM μ0 r (j + 1)).2 77 c = μ0.2 5 id
      · have hf : frs μ0 r c (μ0.2 5 id) j := ⟨d1, hno⟩
        rw [if_pos d1, f_X12_has_89, mA_n 4 id hz, Option.bind_some, e hA2 4 id (by decide), h4, mA_n 78 c hc, Option.bind_some, mA_n 75 k hk, Option.bind_some, e hA2 75 k (by decide), (hcg.2.2 c hc).2]
        by_cases d2 : (exM μ0 r (j + 1)).2 78 c = μ0.2 75 k
        · rw [if_pos d2]
          exact ⟨1, _, rfl, hA2, Or.inl ⟨rfl, fun j' _ hf' => by rw [frs_u hf' hf]; exact d2⟩⟩
        · rw [if_neg d2]
          exact ⟨0, _, rfl, hA2, Or.inr ⟨rfl, fun h => d2 (h j (by omega) hf)⟩⟩
      · rw [if_neg d1]
        exact ih F (j + 1) _ (by omega) (by omega) hA2 (fun j' hj' => by
          rcases (show j' = j ∨ j' < j by omega) with e' | e'
          · rw [e']; exact d1
          · exact hno j' e')
  have e1 : nI l < nI (s + 1) ↔ ¬ s < l := by rw [nI_ltI (by omega) (by omega)]; omega
  rw [f_X12_has, mA_n 71 k hk, Option.bind_some, e hA 71 k (by decide), h71, mA_n 74 k hk, Option.bind_some, e hA 74 k (by decide), h74, mA_n 38 r hr7, Option.bind_some, e hA 38 r (by decide), h38]
  by_cases d1 : s < l
  · rw [if_neg (fun h => (e1.mp h) d1), l100, pk_mul, nI_add, show 100 * r + (s + 1) = (100 * r + s) + 1 by omega, nI_pred, mA_n 42 _ (by simp only [mZ]; omega), Option.bind_some, e hA 42 _ (by decide)]
    by_cases d2 : μ0.2 42 (100 * r + s) = nI id
    · rw [if_pos d2]
      obtain ⟨x, μ', w1, w2, w3⟩ := loop l lf 0 μ (by unfold lf; omega) (by omega) hA (fun j hj => by omega)
      refine ⟨x, μ', w1, w2, ?_⟩
      rcases w3 with ⟨w3, w4⟩ | ⟨w3, w4⟩
      · exact Or.inl ⟨w3, d1, d2, w4⟩
      · exact Or.inr ⟨w3, fun h => w4 h.2.2⟩
    · rw [if_neg d2]
      exact ⟨0, μ, rfl, hA, Or.inr ⟨rfl, fun h => d2 h.2.1⟩⟩
  · rw [if_pos (e1.mpr d1)]
    exact ⟨0, μ, rfl, hA, Or.inr ⟨rfl, fun h => d1 h.1⟩⟩
