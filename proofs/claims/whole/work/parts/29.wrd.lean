/-! executing -/
/-- the request rows of the reference -/
def Rows (q : Nat) (μ : Mu) : Prop := (∀ id, 1 ≤ id → id ≤ q → ∃ c m k, c < 4 ∧ μ.2 4 id = nI c ∧ k < 8 ∧ μ.2 7 id = nI k ∧ 1 ≤ m ∧ m ≤ q ∧ μ.2 5 id = nI m) ∧ q ≤ 64
def zE (μ : Mu) : Mu := (μ.1, fun j i => if (j = 76 ∧ i < 8) ∨ ((j = 77 ∨ j = 78) ∧ i < 4) then 0 else μ.2 j i)
def exB (μ : Mu) (e : Int32) : Mu :=
  if e = 0 then μ else
  let id := e.toNatClampNeg
  let c := (μ.2 4 id).toNatClampNeg
  let k := (μ.2 7 id).toNatClampNeg
  if μ.2 77 c < μ.2 5 id then
    (if μ.2 6 id = 1 then mT (mT (mT μ 77 c (μ.2 5 id)) 78 c (μ.2 76 k)) 76 k (μ.2 8 id)
     else if μ.2 6 id = 2 then mT (mT (mT μ 77 c (μ.2 5 id)) 78 c (μ.2 76 k)) 76 k (μ.2 76 k + μ.2 8 id)
     else mT (mT μ 77 c (μ.2 5 id)) 78 c (μ.2 76 k))
  else μ
def exM (μ : Mu) (r : Nat) : Nat → Mu
  | 0 => zE μ
  | m + 1 => exB (exM μ r m) (μ.2 42 (100 * r + m))
theorem exB_ag (μ : Mu) (e : Int32) : AgM μ (exB μ e) (fun j _ => j ≠ 76 ∧ j ≠ 77 ∧ j ≠ 78) ∧ (exB μ e).1 = μ.1 := by
  unfold exB
  by_cases h0 : e = 0
  · rw [if_pos h0]; exact ⟨AgM.rf, rfl⟩
  rw [if_neg h0]
  refine ⟨fun j i h => ?_, ?_⟩
  · obtain ⟨h1, h2, h3⟩ := h
    dsimp only
    split
    · split
      · simp only [mT_2, h1, h2, h3, false_and, if_false]
      · split
        · simp only [mT_2, h1, h2, h3, false_and, if_false]
        · simp only [mT_2, h1, h2, h3, false_and, if_false]
    · rfl
  · dsimp only
    split
    · split
      · rfl
      · split <;> rfl
    · rfl
theorem exM_ag (μ : Mu) (r : Nat) : ∀ m, AgM μ (exM μ r m) (fun j _ => j ≠ 76 ∧ j ≠ 77 ∧ j ≠ 78) ∧ (exM μ r m).1 = μ.1
  | 0 => ⟨fun j i h => if_neg (by omega), rfl⟩
  | m + 1 => by
    have h := exM_ag μ r m
    have h2 := exB_ag (exM μ r m) (μ.2 42 (100 * r + m))
    exact ⟨(h.1.tr h2.1).wk fun _ _ h => ⟨h, h⟩, h2.2.trans h.2⟩
/-! the reference's loops -/
def zM (μ : Mu) (j len : Nat) (k : Nat) : Mu := (μ.1, fun j' i => if j' = j ∧ k ≤ i ∧ i < len then 0 else μ.2 j' i)
theorem m_z76 {x1 x2 : Int32} : ∀ d (F : Nat) (μ : Mu) (k : Nat), d < F → 8 = k + d → f_X12_execute_2 F μ x1 x2 (nI k) = f_X12_execute_21 (zM μ 76 8 k) x1 x2 := by
  intro d
  induction d with
  | zero =>
    intro F μ k hF hk
    obtain ⟨F, rfl⟩ : ∃ f, F = f + 1 := ⟨F - 1, by omega⟩
    show b_X12_execute_2 (f_X12_execute_2 F) μ _ _ _ = _
    have e1 : (8 : Int32) ≤ nI k := by rw [show (8 : Int32) = nI 8 from rfl, nI_leI (by omega) (by omega)]; omega
    rw [b_X12_execute_2, if_pos e1]
    congr 1
    refine Prod.ext rfl ?_
    funext j i
    show _ = if _ then _ else _
    rw [if_neg (by omega)]
  | succ d ih =>
    intro F μ k hF hk
    obtain ⟨F, rfl⟩ : ∃ f, F = f + 1 := ⟨F - 1, by omega⟩
    show b_X12_execute_2 (f_X12_execute_2 F) μ _ _ _ = _
    have e1 : ¬ (8 : Int32) ≤ nI k := by rw [show (8 : Int32) = nI 8 from rfl, nI_leI (by omega) (by omega)]; omega
    rw [b_X12_execute_2, if_neg e1, mQ_n 76 k _ (by simp only [mZ]; omega), Option.bind_some, l1, nI_add, ih F _ (k + 1) (by omega) (by omega)]
    congr 1
    refine Prod.ext rfl ?_
    funext j i
    show (if j = 76 ∧ k + 1 ≤ i ∧ i < 8 then (0 : Int32) else (mT μ 76 k 0).2 j i) = if j = 76 ∧ k ≤ i ∧ i < 8 then 0 else μ.2 j i
    rw [mT_2]
    by_cases h : j = 76 ∧ k + 1 ≤ i ∧ i < 8
    · rw [if_pos h, if_pos (by omega)]
    · rw [if_neg h]
      by_cases h2 : j = 76 ∧ i = k
      · rw [if_pos h2, if_pos (by omega)]
      · rw [if_neg h2, if_neg (by omega)]
theorem m_z77 {x1 x2 : Int32} : ∀ d (F : Nat) (μ : Mu) (k : Nat), d < F → 4 = k + d → f_X12_execute_23 F μ x1 x2 (nI k) = f_X12_execute_48 (zM (zM μ 77 4 k) 78 4 k) x1 x2 := by
  intro d
  induction d with
  | zero =>
    intro F μ k hF hk
    obtain ⟨F, rfl⟩ : ∃ f, F = f + 1 := ⟨F - 1, by omega⟩
    show b_X12_execute_23 (f_X12_execute_23 F) μ _ _ _ = _
    have e1 : (4 : Int32) ≤ nI k := by rw [show (4 : Int32) = nI 4 from rfl, nI_leI (by omega) (by omega)]; omega
    rw [b_X12_execute_23, if_pos e1]
    congr 1
    refine Prod.ext rfl ?_
    funext j i
    show _ = if _ then _ else if _ then _ else _
    rw [if_neg (by omega), if_neg (by omega)]
  | succ d ih =>
    intro F μ k hF hk
    obtain ⟨F, rfl⟩ : ∃ f, F = f + 1 := ⟨F - 1, by omega⟩
    show b_X12_execute_23 (f_X12_execute_23 F) μ _ _ _ = _
    have e1 : ¬ (4 : Int32) ≤ nI k := by rw [show (4 : Int32) = nI 4 from rfl, nI_leI (by omega) (by omega)]; omega
    rw [b_X12_execute_23, if_neg e1, mQ_n 77 k _ (by simp only [mZ]; omega), Option.bind_some, mQ_n 78 k _ (by simp only [mZ]; omega), Option.bind_some, l1, nI_add, ih F _ (k + 1) (by omega) (by omega)]
    congr 1
    refine Prod.ext rfl ?_
    funext j i
    show (if j = 78 ∧ k + 1 ≤ i ∧ i < 4 then (0 : Int32) else if j = 77 ∧ k + 1 ≤ i ∧ i < 4 then 0 else (mT (mT μ 77 k 0) 78 k 0).2 j i) = if j = 78 ∧ k ≤ i ∧ i < 4 then 0 else if j = 77 ∧ k ≤ i ∧ i < 4 then 0 else μ.2 j i
    simp only [mT_2]
    by_cases h : j = 78 ∧ k ≤ i ∧ i < 4
    · rw [if_pos h]
      by_cases h2 : i = k
      · rw [if_neg (by omega), if_neg (by omega), if_pos (by omega)]
      · rw [if_pos (by omega)]
    · rw [if_neg h, if_neg (by omega)]
      by_cases h2 : j = 77 ∧ k ≤ i ∧ i < 4
      · rw [if_pos h2]
        by_cases h3 : i = k
        · rw [if_neg (by omega), if_neg (by omega), if_pos (by omega)]
        · rw [if_pos (by omega)]
      · rw [if_neg h2, if_neg (by omega), if_neg (by omega), if_neg (by omega)]
/-- what an entry of a log may be -/
def Ent (q : Nat) (x : Int32) : Prop := ∃ id, id ≤ q ∧ x = nI id
theorem m_step {q : Nat} {μ : Mu} (hq : Rows q μ) {x1 : Nat} {x2 : Int32} {k : Nat} (h1 : x1 < 7) (hk : k < 100) (he : Sm q (μ.2 42 (100 * x1 + k))) (rec50 : Mu → Int32 → Int32 → Int32 → Option Mu) (hx : ¬ x2 ≤ nI k) : b_X12_execute_50 rec50 μ (nI x1) x2 (nI k) = rec50 (exB μ (μ.2 42 (100 * x1 + k))) (nI x1) x2 (nI (k + 1)) := by
  obtain ⟨id, hid, e⟩ := he
  obtain ⟨hr, hq64⟩ := hq
  have e2 : nI k + 1 = nI (k + 1) := nI_1 k
  rw [b_X12_execute_50, if_neg hx, l100, pk_mul, nI_add, mA_n 42 _ (by simp only [mZ]; omega), Option.bind_some, e]
  by_cases h0 : id = 0
  · subst h0
    rw [if_pos (show nI 0 = 0 from rfl), f_X12_execute_198, e2, exB, if_pos (show nI 0 = 0 from rfl)]
  · have hne : ¬ nI id = 0 := nI_ne0 (by omega) (by omega)
    obtain ⟨c, m, kk, g1, g2, g3, g4, g5, g6, g7⟩ := hr id (by omega) hid
    have hid2 : id < 4097 := by omega
    have n1 : (nI id).toNatClampNeg = id := nI_clamp (by omega)
    have n2 : (nI c).toNatClampNeg = c := nI_clamp (by omega)
    have n3 : (nI kk).toNatClampNeg = kk := nI_clamp (by omega)
    rw [if_neg hne, exB, if_neg hne]
    simp only [n1, g2, g4, n2, n3, mA_n 5 id hid2, mA_n 4 id hid2, Option.bind_some, mA_n 77 c g1]
    by_cases hlt : μ.2 77 c < μ.2 5 id
    · simp only [if_pos hlt]
      have hk8 : kk < mZ 76 := g3
      have hc4 : c < mZ 77 := g1
      have hc8 : c < mZ 78 := g1
      have h6 : id < mZ 6 := hid2
      have h7 : id < mZ 7 := hid2
      have h8 : id < mZ 8 := hid2
      have h4 : id < mZ 4 := hid2
      simp only [mA_n 7 id h7, g4, Option.bind_some, mQ_n 77 c _ hc4, mA_n 4 id h4, mT_2, g2, Nat.reduceEqDiff, false_and, if_false, mA_n 76 kk hk8, mQ_n 78 c _ hc8, mA_n 6 id h6]
      by_cases o1 : μ.2 6 id = 1
      · have o2 : ¬ μ.2 6 id = 2 := fun e => by rw [e] at o1; exact absurd o1 (by decide)
        simp only [if_pos o1, mA_n 8 id h8, Option.bind_some, mQ_n 76 kk _ hk8, f_X12_execute_170, mA_n 6 id h6, mT_2, Nat.reduceEqDiff, false_and, if_false, if_neg o2, f_X12_execute_198, e2]
      · simp only [if_neg o1, f_X12_execute_170, mA_n 6 id h6, mT_2, Nat.reduceEqDiff, false_and, if_false, Option.bind_some]
        by_cases o2 : μ.2 6 id = 2
        · simp only [if_pos o2, mA_n 76 kk hk8, mA_n 8 id h8, mT_2, Nat.reduceEqDiff, false_and, if_false, Option.bind_some, mQ_n 76 kk _ hk8, f_X12_execute_198, e2]
        · simp only [if_neg o2, f_X12_execute_198, e2]
    · simp only [if_neg hlt, f_X12_execute_198, e2]
theorem Rows.cg {q : Nat} {μ μ' : Mu} (h : Rows q μ) (hm : AgM μ μ' (fun j _ => 4 ≤ j ∧ j ≤ 7)) : Rows q μ' := by
  refine ⟨fun id h1 h2 => ?_, h.2⟩
  obtain ⟨c, m, k, a1, a2, a3, a4, a5, a6, a7⟩ := h.1 id h1 h2
  exact ⟨c, m, k, a1, by rw [hm 4 _ (by omega)]; exact a2, a3, by rw [hm 7 _ (by omega)]; exact a4, a5, a6, by rw [hm 5 _ (by omega)]; exact a7⟩
theorem m_exe {q : Nat} {μ : Mu} (hq : Rows q μ) {x1 : Nat} (h1 : x1 < 7) {l : Nat} (hl : l ≤ 100) (he : ∀ k, k < l → Sm q (μ.2 42 (100 * x1 + k))) : f_X12_execute μ (nI x1) (nI l) = some (exM μ x1 l) := by
  have loop : ∀ d (F k : Nat), d < F → l = k + d → f_X12_execute_50 F (exM μ x1 k) (nI x1) (nI l) (nI k) = some (exM μ x1 l) := by
    intro d
    induction d with
    | zero =>
      intro F k hF hk
      obtain ⟨F, rfl⟩ : ∃ f, F = f + 1 := ⟨F - 1, by omega⟩
      show b_X12_execute_50 (f_X12_execute_50 F) _ _ _ _ = _
      rw [b_X12_execute_50, if_pos ((nI_leI (by omega) (by omega)).mpr (by omega)), show l = k by omega]
    | succ d ih =>
      intro F k hF hk
      obtain ⟨F, rfl⟩ : ∃ f, F = f + 1 := ⟨F - 1, by omega⟩
      show b_X12_execute_50 (f_X12_execute_50 F) _ _ _ _ = _
      have ha := (exM_ag μ x1 k).1
      have e42 : (exM μ x1 k).2 42 (100 * x1 + k) = μ.2 42 (100 * x1 + k) := ha 42 _ (by omega)
      rw [m_step (hq.cg (ha.wk fun j i h => by omega)) h1 (by omega) (by rw [e42]; exact he k (by omega)) _ (fun e => by rw [nI_leI (by omega) (by omega)] at e; omega), e42]
      exact ih F (k + 1) (by omega) (by omega)
  have e0 : zM (zM (zM μ 76 8 0) 77 4 0) 78 4 0 = exM μ x1 0 := by
    refine Prod.ext rfl ?_
    funext j i
    show (if j = 78 ∧ 0 ≤ i ∧ i < 4 then (0 : Int32) else if j = 77 ∧ 0 ≤ i ∧ i < 4 then 0 else if j = 76 ∧ 0 ≤ i ∧ i < 8 then 0 else μ.2 j i) = if (j = 76 ∧ i < 8) ∨ ((j = 77 ∨ j = 78) ∧ i < 4) then 0 else μ.2 j i
    by_cases h : (j = 76 ∧ i < 8) ∨ ((j = 77 ∨ j = 78) ∧ i < 4)
    · rw [if_pos h]
      by_cases a1 : j = 78 ∧ 0 ≤ i ∧ i < 4
      · rw [if_pos a1]
      · rw [if_neg a1]
        by_cases a2 : j = 77 ∧ 0 ≤ i ∧ i < 4
        · rw [if_pos a2]
        · rw [if_neg a2, if_pos (by omega)]
    · rw [if_neg h, if_neg (by omega), if_neg (by omega), if_neg (by omega)]
  unfold f_X12_execute
  rw [show (0 : Int32) = nI 0 from rfl, m_z76 8 lf μ 0 (by unfold lf; omega) rfl, f_X12_execute_21, show (0 : Int32) = nI 0 from rfl, m_z77 4 lf _ 0 (by unfold lf; omega) rfl, f_X12_execute_48, show (0 : Int32) = nI 0 from rfl, e0]
  exact loop l lf 0 (by unfold lf; omega) (by omega)
