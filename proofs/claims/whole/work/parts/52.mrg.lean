/-! merging: one slot's entry -/
section MRE
variable {A : Ad} {n T q : Nat} {hb : Nat → Nat} {vw : Vw} {p u : Nat → Nat} {a r b s v0 : Nat} {L S : Int32} {σ σ' : Hp} {μ μ' : Mu}
theorem t_has (hs : Rs A n σ) (hr : r < n) (hT : Tb A n T q vw σ μ r b) {o : Nat} (ho : o < n) (hbo : b.testBit o = true) (hs100 : s < 100) : ∃ l, l ≤ 100 ∧ μ.2 53 (7 * r + o) = nI l ∧ f_X4_has σ (A 39 r o) (nI (s + 1)) = some (b1 (s < l)) ∧ (s < l → f_X4_at σ (A 39 r o) (nI (s + 1)) = some (μ.2 54 (100 * (7 * r + o) + s)) ∧ Sm q (μ.2 54 (100 * (7 * r + o) + s))) := by
  obtain ⟨-, -, -, l, q1, q2, q3, q4⟩ := hT.2.2.2.2 o ho hbo
  have k39 := hs.k39 hr ho
  refine ⟨l, q1, q2, ?_, fun hsl => ?_⟩
  · rw [f_X4_has, if_neg (by rw [l1, nI_ltI (by omega) (by omega)]; omega), x_gI k39, Option.bind_some, q3]
    unfold b1
    by_cases h : s < l
    · rw [if_neg (by rw [nI_ltI (by omega) (by omega)]; omega), if_pos h]
    · rw [if_pos (by rw [nI_ltI (by omega) (by omega)]; omega), if_neg h]
  · have h := q4 s hsl
    rw [rwM_at hs100] at h
    rw [c_lat k39 (hs.r39_0 hr ho) (hs.k40 hr ho) (hs.z40 hr ho) q3 hsl q1, h.1]
    exact ⟨rfl, h.2⟩
/-- one step of the class's -/
theorem me_cs (hs : Rs A n σ) (hv : Vok vw σ) (hr : r < n) (hT : Tb A n T q vw σ μ r b) (hv0 : IsV σ v0 L S) (hs100 : s < 100) {k : Nat} (hk : k < n) (F : Nat) (x3 x4 : Int32) : (¬ mgd μ r b L S k → f_X6_mergedEntry_22 (F + 1) σ (A 6 r 0) (nI (s + 1)) v0 x3 x4 (nI k) = f_X6_mergedEntry_22 F σ (A 6 r 0) (nI (s + 1)) v0 x3 x4 (nI (k + 1))) ∧ (mgd μ r b L S k → ∃ l, l ≤ 100 ∧ μ.2 53 (7 * r + k) = nI l ∧ (¬ s < l → f_X6_mergedEntry_22 (F + 1) σ (A 6 r 0) (nI (s + 1)) v0 x3 x4 (nI k) = f_X6_mergedEntry_22 F σ (A 6 r 0) (nI (s + 1)) v0 x3 x4 (nI (k + 1))) ∧ (s < l → Sm q (μ.2 54 (100 * (7 * r + k) + s)) ∧ f_X6_mergedEntry_22 (F + 1) σ (A 6 r 0) (nI (s + 1)) v0 x3 x4 (nI k) = f_X6_mergedEntry_22 F σ (A 6 r 0) (nI (s + 1)) v0 1 (if x3 = 0 ∨ μ.2 54 (100 * (7 * r + k) + s) = 0 then μ.2 54 (100 * (7 * r + k) + s) else x4) (nI (k + 1)))) := by
  have h7 := hs.np
  have k6 := hs.k6 hr
  have k8 := hs.k8 hr
  have e1 : ¬ nI n ≤ nI k := fun e => by rw [nI_leI (by omega) (by omega)] at e; omega
  have c0 : f_X6_mergedEntry_22 (F + 1) σ (A 6 r 0) (nI (s + 1)) v0 x3 x4 (nI k) = if b1 (mgd μ r b L S k) = 0 then f_X6_mergedEntry_22 F σ (A 6 r 0) (nI (s + 1)) v0 x3 x4 (nI (k + 1)) else ((f_X4_has σ (A 39 r k) (nI (s + 1))).bind fun v52 => if v52 = 0 then f_X6_mergedEntry_22 F σ (A 6 r 0) (nI (s + 1)) v0 x3 x4 (nI (k + 1)) else ((f_X4_at σ (A 39 r k) (nI (s + 1))).bind fun v72 => if x3 = 0 then f_X6_mergedEntry_22 F σ (A 6 r 0) (nI (s + 1)) v0 1 v72 (nI (k + 1)) else (if v72 = 0 then f_X6_mergedEntry_22 F σ (A 6 r 0) (nI (s + 1)) v0 1 v72 (nI (k + 1)) else f_X6_mergedEntry_22 F σ (A 6 r 0) (nI (s + 1)) v0 1 x4 (nI (k + 1))))) := by
    show b_X6_mergedEntry_22 (f_X6_mergedEntry_22 F) _ _ _ _ _ _ _ = _
    rw [b_X6_mergedEntry_22, x_gI k6, Option.bind_some, hs.i6_10 hr, if_neg e1, x_gO k6, Option.bind_some, c_isMerged hs hv hr hT hv0 hk, Option.bind_some]
    simp only [f_X6_mergedEntry_92, f_X6_mergedEntry_90, f_X6_mergedEntry_86, x_gR k6, hs.r6_14 hr, x_gR k8, hs.r8_6 hr, Option.bind_some, e_aR (hs.k38 hr) (hs.z38 hr) hk (by omega) (hs.r38 hr hk), x_gO (hs.k39 hr hk), nI_1]
  refine ⟨fun hD => by rw [c0, if_pos (by rw [b1_0]; exact hD)], fun hD => ?_⟩
  obtain ⟨l, q1, q2, q3, q4⟩ := t_has hs hr hT hk hD.1 hs100
  rw [if_neg (by rw [b1_0]; exact fun x => x hD), q3, Option.bind_some] at c0
  refine ⟨l, q1, q2, fun hsl => by rw [c0, if_pos (by rw [b1_0]; exact hsl)], fun hsl => ?_⟩
  obtain ⟨g1, g2⟩ := q4 hsl
  rw [if_neg (by rw [b1_0]; exact fun x => x hsl), g1, Option.bind_some] at c0
  refine ⟨g2, ?_⟩
  rw [c0]
  by_cases c1 : x3 = 0
  · rw [if_pos c1, if_pos (Or.inl c1)]
  · rw [if_neg c1]
    by_cases c2 : μ.2 54 (100 * (7 * r + k) + s) = 0
    · rw [if_pos c2, if_pos (Or.inr c2)]
    · rw [if_neg c2, if_neg (fun x => x.elim c1 c2)]
/-- one step of the reference's -/
theorem me_ms (hr : r < n) (hn7 : n ≤ 7) (hT : Tb A n T q vw σ μ r b) (h1 : μ.1 1 = nI n) (hs100 : s < 100) {k : Nat} (hk : k < n) (F : Nat) (x5 : Int32) : (¬ mgP μ r b L S k → f_X12_mergedAt_51 (F + 1) μ (nI r) (nI s) L S x5 (nI k) = f_X12_mergedAt_51 F μ (nI r) (nI s) L S x5 (nI (k + 1))) ∧ (mgP μ r b L S k → ∀ l, l ≤ 100 → nrm μ r k 38 53 = nI l → (¬ s < l → f_X12_mergedAt_51 (F + 1) μ (nI r) (nI s) L S x5 (nI k) = f_X12_mergedAt_51 F μ (nI r) (nI s) L S x5 (nI (k + 1))) ∧ (s < l → f_X12_mergedAt_51 (F + 1) μ (nI r) (nI s) L S x5 (nI k) = if (if k = r then μ.2 42 (100 * r + s) else μ.2 54 (100 * (7 * r + k) + s)) = 0 then some 0 else f_X12_mergedAt_51 F μ (nI r) (nI s) L S (if x5 = -1 then (if k = r then μ.2 42 (100 * r + s) else μ.2 54 (100 * (7 * r + k) + s)) else x5) (nI (k + 1)))) := by
  have hr7 : r < 7 := by omega
  have hk7 : k < 7 := by omega
  have e1 : ¬ nI n ≤ nI k := fun e => by rw [nI_leI (by omega) (by omega)] at e; omega
  have m0 : f_X12_mergedAt_51 (F + 1) μ (nI r) (nI s) L S x5 (nI k) = if b1 (k = r ∨ b.testBit k = true) = 0 then f_X12_mergedAt_51 F μ (nI r) (nI s) L S x5 (nI (k + 1)) else if nrm μ r k 36 50 = L then (if nrm μ r k 37 51 = S then (if nI s < nrm μ r k 38 53 then ((f_X12_entryOf μ (nI r) (nI k) (nI s)).bind fun v114 => if v114 = 0 then (if v114 = 0 then some 0 else f_X12_mergedAt_51 F μ (nI r) (nI s) L S v114 (nI (k + 1))) else (if x5 = (-1 : Int32) then (if v114 = 0 then some 0 else f_X12_mergedAt_51 F μ (nI r) (nI s) L S v114 (nI (k + 1))) else (if v114 = 0 then some 0 else f_X12_mergedAt_51 F μ (nI r) (nI s) L S x5 (nI (k + 1))))) else f_X12_mergedAt_51 F μ (nI r) (nI s) L S x5 (nI (k + 1))) else f_X12_mergedAt_51 F μ (nI r) (nI s) L S x5 (nI (k + 1))) else f_X12_mergedAt_51 F μ (nI r) (nI s) L S x5 (nI (k + 1)) := by
    show b_X12_mergedAt_51 (f_X12_mergedAt_51 F) _ _ _ _ _ _ _ = _
    rw [b_X12_mergedAt_51, h1, if_neg e1, m_isIn hr7 hT hk7, Option.bind_some, m_nL hr7 hk7, m_nS hr7 hk7, m_lnO hr7 hk7]
    simp only [f_X12_mergedAt_146, f_X12_mergedAt_137, f_X12_mergedAt_130, Option.bind_some, nI_1]
  constructor
  · intro hD
    rw [m0]
    by_cases c1 : k = r ∨ b.testBit k = true
    · rw [if_neg (by rw [b1_0]; exact fun x => x c1)]
      by_cases c2 : nrm μ r k 36 50 = L
      · rw [if_pos c2, if_neg (fun x => hD ⟨c1, c2, x⟩)]
      · rw [if_neg c2]
    · rw [if_pos (by rw [b1_0]; exact c1)]
  · intro hD l hl100 hl
    rw [if_neg (by rw [b1_0]; exact fun x => x hD.1), if_pos hD.2.1, if_pos hD.2.2, hl, m_enO hr7 hk7 hs100, Option.bind_some] at m0
    constructor
    · intro hsl
      rw [m0, if_neg (by rw [nI_ltI (by omega) (by omega)]; exact hsl)]
    · intro hsl
      rw [m0, if_pos (by rw [nI_ltI (by omega) (by omega)]; exact hsl)]
      by_cases c1 : (if k = r then μ.2 42 (100 * r + s) else μ.2 54 (100 * (7 * r + k) + s)) = 0
      · simp only [if_pos c1]
      · simp only [if_neg c1]
        by_cases c2 : x5 = -1
        · simp only [if_pos c2]
        · simp only [if_neg c2]
theorem me_c0 (hs : Rs A n σ) (hv : Vok vw σ) (hr : r < n) (hT : Tb A n T q vw σ μ r b) (hv0 : IsV σ v0 L S) (hs100 : s < 100) : ∀ (d F k : Nat), d < F → n = k + d → f_X6_mergedEntry_22 F σ (A 6 r 0) (nI (s + 1)) v0 1 0 (nI k) = some 0 := by
  have h7 := hs.np
  intro d
  induction d with
  | zero =>
    intro F k hF hn
    obtain ⟨F, rfl⟩ : ∃ f, F = f + 1 := ⟨F - 1, by omega⟩
    have e1 : nI n ≤ nI k := (nI_leI (by omega) (by omega)).mpr (by omega)
    show b_X6_mergedEntry_22 (f_X6_mergedEntry_22 F) _ _ _ _ _ _ _ = _
    rw [b_X6_mergedEntry_22, x_gI (hs.k6 hr), Option.bind_some, hs.i6_10 hr, if_pos e1]
  | succ d ih =>
    intro F k hF hn
    obtain ⟨F, rfl⟩ : ∃ f, F = f + 1 := ⟨F - 1, by omega⟩
    obtain ⟨g1, g2⟩ := me_cs hs hv hr hT hv0 hs100 (by omega : k < n) F 1 0
    by_cases hD : mgd μ r b L S k
    · obtain ⟨l, -, -, g3, g4⟩ := g2 hD
      by_cases hsl : s < l
      · rw [(g4 hsl).2]
        have e2 : (if (1 : Int32) = 0 ∨ μ.2 54 (100 * (7 * r + k) + s) = 0 then μ.2 54 (100 * (7 * r + k) + s) else 0) = 0 := by
          by_cases c : μ.2 54 (100 * (7 * r + k) + s) = 0
          · rw [if_pos (Or.inr c), c]
          · rw [if_neg (fun x => x.elim (by decide) c)]
        rw [e2]
        exact ih F (k + 1) (by omega) (by omega)
      · rw [g3 hsl]
        exact ih F (k + 1) (by omega) (by omega)
    · rw [g1 hD]
      exact ih F (k + 1) (by omega) (by omega)
theorem tb_len (hT : Tb A n T q vw σ μ r b) {l0 : Nat} (h0 : μ.2 38 r = nI l0) (hl0 : l0 ≤ 100) {k : Nat} (hk : k < n) (hD : k = r ∨ b.testBit k = true) : ∃ l, l ≤ 100 ∧ nrm μ r k 38 53 = nI l := by
  by_cases e : k = r
  · exact ⟨l0, hl0, (if_pos e).trans h0⟩
  · obtain ⟨-, -, -, l, q1, q2, -⟩ := hT.2.2.2.2 k hk (hD.resolve_left e)
    exact ⟨l, q1, (if_neg e).trans q2⟩
theorem me_m0 (hr : r < n) (hn7 : n ≤ 7) (hT : Tb A n T q vw σ μ r b) (h1 : μ.1 1 = nI n) {l0 : Nat} (h0 : μ.2 38 r = nI l0) (hl0 : l0 ≤ 100) (hs100 : s < 100) : ∀ (d F k : Nat), d < F → n = k + d → f_X12_mergedAt_51 F μ (nI r) (nI s) L S 0 (nI k) = some 0 := by
  intro d
  induction d with
  | zero =>
    intro F k hF hn
    obtain ⟨F, rfl⟩ : ∃ f, F = f + 1 := ⟨F - 1, by omega⟩
    have e1 : nI n ≤ nI k := (nI_leI (by omega) (by omega)).mpr (by omega)
    show b_X12_mergedAt_51 (f_X12_mergedAt_51 F) _ _ _ _ _ _ _ = _
    rw [b_X12_mergedAt_51, h1, if_pos e1]
  | succ d ih =>
    intro F k hF hn
    obtain ⟨F, rfl⟩ : ∃ f, F = f + 1 := ⟨F - 1, by omega⟩
    obtain ⟨g1, g2⟩ := me_ms (L := L) (S := S) hr hn7 hT h1 hs100 (by omega : k < n) F 0
    by_cases hD : mgP μ r b L S k
    · obtain ⟨l, hl1, hl2⟩ := tb_len hT h0 hl0 (by omega : k < n) hD.1
      obtain ⟨g3, g4⟩ := g2 hD l hl1 hl2
      by_cases hsl : s < l
      · rw [g4 hsl, if_neg (show ¬ (0 : Int32) = -1 by decide)]
        by_cases c : (if k = r then μ.2 42 (100 * r + s) else μ.2 54 (100 * (7 * r + k) + s)) = 0
        · rw [if_pos c]
        · rw [if_neg c]
          exact ih F (k + 1) (by omega) (by omega)
      · rw [g3 hsl]
        exact ih F (k + 1) (by omega) (by omega)
    · rw [g1 hD]
      exact ih F (k + 1) (by omega) (by omega)
theorem Rid.m1 {x : Int32} (hq : q < 2 ^ 31) (h : Rid q x) : ¬ x = -1 := by
  obtain ⟨k, -, h1, h2⟩ := h
  rw [h2]
  exact nI_m1 (by omega)
theorem Rid.n0 {x : Int32} (hq : q < 2 ^ 31) (h : Rid q x) : ¬ x = 0 := by
  obtain ⟨k, h0, h1, h2⟩ := h
  rw [h2]
  exact nI_ne0 h0 (by omega)
/-- both loops, one behind another -/
theorem me_lk (hs : Rs A n σ) (hv : Vok vw σ) (hr : r < n) (hT : Tb A n T q vw σ μ r b) (hv0 : IsV σ v0 L S) (h1 : μ.1 1 = nI n) {l0 : Nat} (h0 : μ.2 38 r = nI l0) (hl0 : l0 ≤ 100) (hs100 : s < 100) (hq : q < 2 ^ 31) (hex : ∃ o l, o < n ∧ mgP μ r b L S o ∧ nrm μ r o 38 53 = nI l ∧ l ≤ 100 ∧ s < l) : ∀ (d F F' k : Nat) (x3 x4 x5 : Int32), d < F → d < F' → n = k + d → (mgP μ r b L S r → s < l0 → x3 = 1 ∧ ¬ μ.2 42 (100 * r + s) = 0) → ((x3 = 0 ∧ x5 = -1 ∧ ∀ o l, o < k → mgP μ r b L S o → nrm μ r o 38 53 = nI l → l ≤ 100 → ¬ s < l) ∨ (x3 = 1 ∧ x4 = x5 ∧ Rid q x4)) → ∃ x, Sm q x ∧ f_X6_mergedEntry_22 F σ (A 6 r 0) (nI (s + 1)) v0 x3 x4 (nI k) = some x ∧ f_X12_mergedAt_51 F' μ (nI r) (nI s) L S x5 (nI k) = some x := by
  have h7 := hs.np
  intro d
  induction d with
  | zero =>
    intro F F' k x3 x4 x5 hF hF' hn hown hst
    obtain ⟨F, rfl⟩ : ∃ f, F = f + 1 := ⟨F - 1, by omega⟩
    obtain ⟨F', rfl⟩ : ∃ f, F' = f + 1 := ⟨F' - 1, by omega⟩
    have e1 : nI n ≤ nI k := (nI_leI (by omega) (by omega)).mpr (by omega)
    have hc : f_X6_mergedEntry_22 (F + 1) σ (A 6 r 0) (nI (s + 1)) v0 x3 x4 (nI k) = some x4 := by
      show b_X6_mergedEntry_22 (f_X6_mergedEntry_22 F) _ _ _ _ _ _ _ = _
      rw [b_X6_mergedEntry_22, x_gI (hs.k6 hr), Option.bind_some, hs.i6_10 hr, if_pos e1]
    have hm : f_X12_mergedAt_51 (F' + 1) μ (nI r) (nI s) L S x5 (nI k) = some x5 := by
      show b_X12_mergedAt_51 (f_X12_mergedAt_51 F') _ _ _ _ _ _ _ = _
      rw [b_X12_mergedAt_51, h1, if_pos e1]
    rcases hst with ⟨-, -, a3⟩ | ⟨-, a2, a3⟩
    · obtain ⟨o, l, b1, b2, b3, b4, b5⟩ := hex
      exact absurd b5 (a3 o l (by omega) b2 b3 b4)
    · exact ⟨x4, a3.sm, hc, by rw [hm, a2]⟩
  | succ d ih =>
    intro F F' k x3 x4 x5 hF hF' hn hown hst
    obtain ⟨F, rfl⟩ : ∃ f, F = f + 1 := ⟨F - 1, by omega⟩
    obtain ⟨F', rfl⟩ : ∃ f, F' = f + 1 := ⟨F' - 1, by omega⟩
    have hk : k < n := by omega
    obtain ⟨c1, c2⟩ := me_cs hs hv hr hT hv0 hs100 hk F x3 x4
    obtain ⟨m1, m2⟩ := me_ms (L := L) (S := S) hr h7.2 hT h1 hs100 hk F' x5
    have next : (∀ l, mgP μ r b L S k → nrm μ r k 38 53 = nI l → l ≤ 100 → ¬ s < l) → ((x3 = 0 ∧ x5 = -1 ∧ ∀ o l, o < k + 1 → mgP μ r b L S o → nrm μ r o 38 53 = nI l → l ≤ 100 → ¬ s < l) ∨ (x3 = 1 ∧ x4 = x5 ∧ Rid q x4)) := fun h => by
      rcases hst with ⟨a1, a2, a3⟩ | h2
      · refine Or.inl ⟨a1, a2, fun o l ho => ?_⟩
        rcases (show o = k ∨ o < k by omega) with e | e
        · rw [e]; exact h l
        · exact a3 o l e
      · exact Or.inr h2
    by_cases hkr : k = r
    · have hnd : ¬ mgd μ r b L S k := fun h => by
        have := h.1
        rw [hkr, hT.2.2.2.1] at this
        exact absurd this (by decide)
      by_cases hP : mgP μ r b L S k
      · have hnl : nrm μ r k 38 53 = nI l0 := (if_pos hkr).trans h0
        obtain ⟨m3, m4⟩ := m2 hP l0 hl0 hnl
        by_cases hsl : s < l0
        · obtain ⟨g1, g2⟩ := hown (by rw [hkr] at hP; exact hP) hsl
          rcases hst with ⟨a1, -⟩ | ⟨a1, a2, a3⟩
          · rw [a1] at g1; exact absurd g1 (by decide)
          · rw [c1 hnd, m4 hsl, if_pos hkr, if_neg g2, if_neg (by rw [← a2]; exact a3.m1 hq)]
            exact ih F F' (k + 1) x3 x4 x5 (by omega) (by omega) (by omega) hown (Or.inr ⟨a1, a2, a3⟩)
        · rw [c1 hnd, m3 hsl]
          refine ih F F' (k + 1) x3 x4 x5 (by omega) (by omega) (by omega) hown (next fun l _ hl hl100 => ?_)
          have : l = l0 := (nI_eq (by omega) (by omega)).mp (hl.symm.trans hnl)
          rw [this]; exact hsl
      · rw [c1 hnd, m1 hP]
        exact ih F F' (k + 1) x3 x4 x5 (by omega) (by omega) (by omega) hown (next fun l h _ _ => absurd h hP)
    · by_cases hD : mgd μ r b L S k
      · have hP := (mgP_r hkr).mpr hD
        obtain ⟨l, q1, q2, c3, c4⟩ := c2 hD
        have hnl : nrm μ r k 38 53 = nI l := (if_neg hkr).trans q2
        obtain ⟨m3, m4⟩ := m2 hP l q1 hnl
        by_cases hsl : s < l
        · obtain ⟨g1, g2⟩ := c4 hsl
          have g3 := m4 hsl
          rw [if_neg hkr] at g3
          by_cases h00 : μ.2 54 (100 * (7 * r + k) + s) = 0
          · rw [if_pos (Or.inr h00), h00, me_c0 hs hv hr hT hv0 hs100 d F (k + 1) (by omega) (by omega)] at g2
            rw [if_pos h00] at g3
            exact ⟨0, Sm.z q, g2, g3⟩
          · rw [if_neg h00] at g3
            rw [g2, g3]
            rcases hst with ⟨a1, a2, a3⟩ | ⟨a1, a2, a3⟩
            · rw [if_pos (Or.inl a1), if_pos a2]
              refine ih F F' (k + 1) 1 _ _ (by omega) (by omega) (by omega) (fun hh1 hh2 => ⟨rfl, (hown hh1 hh2).2⟩) (Or.inr ⟨rfl, rfl, g1.rid h00⟩)
            · rw [if_neg (fun x => x.elim (fun y => by rw [a1] at y; exact absurd y (by decide)) h00), if_neg (by rw [← a2]; exact a3.m1 hq)]
              exact ih F F' (k + 1) 1 _ _ (by omega) (by omega) (by omega) (fun hh1 hh2 => ⟨rfl, (hown hh1 hh2).2⟩) (Or.inr ⟨rfl, a2, a3⟩)
        · rw [c3 hsl, m3 hsl]
          refine ih F F' (k + 1) x3 x4 x5 (by omega) (by omega) (by omega) hown (next fun l' _ hl hl100 => ?_)
          have : l' = l := (nI_eq (by omega) (by omega)).mp (hl.symm.trans hnl)
          rw [this]; exact hsl
      · have hP : ¬ mgP μ r b L S k := fun h => hD ((mgP_r hkr).mp h)
        rw [c1 hD, m1 hP]
        exact ih F F' (k + 1) x3 x4 x5 (by omega) (by omega) (by omega) hown (next fun l h _ _ => absurd h hP)
/-- one slot's entry: both sides -/
theorem me_val (hs : Rs A n σ) (hv : Vok vw σ) (hr : r < n) (hT : Tb A n T q vw σ μ r b) (hv0 : IsV σ v0 L S) (h1 : μ.1 1 = nI n) {l0 : Nat} (h0 : μ.2 38 r = nI l0) (hl0 : l0 ≤ 100) (h42 : s < l0 → Sm q (μ.2 42 (100 * r + s))) (hs100 : s < 100) (hq : q < 2 ^ 31) (hex : ∃ o l, o < n ∧ mgP μ r b L S o ∧ nrm μ r o 38 53 = nI l ∧ l ≤ 100 ∧ s < l) (hh : f_X4_has σ (A 32 r 0) (nI (s + 1)) = some (b1 (mgP μ r b L S r ∧ s < l0))) (ha : f_X4_at σ (A 32 r 0) (nI (s + 1)) = some (if mgP μ r b L S r ∧ s < l0 then μ.2 42 (100 * r + s) else 0)) : ∃ x, Sm q x ∧ f_X6_mergedEntry σ (A 6 r 0) (nI (s + 1)) v0 = some x ∧ f_X12_mergedAt μ (nI r) (nI s) L S = some x := by
  have h7 := hs.np
  have hr7 : r < 7 := by omega
  have k6 := hs.k6 hr
  have k32 := hs.k32 hr
  have hc : f_X6_mergedEntry σ (A 6 r 0) (nI (s + 1)) v0 = f_X6_mergedEntry_22 lf σ (A 6 r 0) (nI (s + 1)) v0 (b1 (mgP μ r b L S r ∧ s < l0)) (if mgP μ r b L S r ∧ s < l0 then μ.2 42 (100 * r + s) else 0) (nI 0) := by
    rw [f_X6_mergedEntry, x_gR k6, hs.r6_0 hr, Option.bind_some, x_gO k32, Option.bind_some, hh, Option.bind_some, Option.bind_some, x_gO k32, Option.bind_some, ha, Option.bind_some]
    rfl
  have hm : f_X12_mergedAt μ (nI r) (nI s) L S = f_X12_mergedAt_51 lf μ (nI r) (nI s) L S (if mgP μ r b L S r ∧ s < l0 then μ.2 42 (100 * r + s) else -1) (nI 0) := by
    rw [f_X12_mergedAt, mA_n 36 r hr7, Option.bind_some]
    by_cases c1 : μ.2 36 r = L
    · rw [if_pos c1, mA_n 37 r hr7, Option.bind_some]
      by_cases c2 : μ.2 37 r = S
      · have hP : mgP μ r b L S r := ⟨Or.inl rfl, (if_pos rfl).trans c1, (if_pos rfl).trans c2⟩
        rw [if_pos c2, mA_n 38 r hr7, Option.bind_some, h0]
        by_cases c3 : s < l0
        · rw [if_neg (fun e => by rw [nI_leI (by omega) (by omega)] at e; omega), l100, pk_mul, nI_add, mA_n 42 _ (by simp only [mZ]; omega), Option.bind_some, if_pos ⟨hP, c3⟩]
          rfl
        · rw [if_pos ((nI_leI (by omega) (by omega)).mpr (by omega)), if_neg (fun e => c3 e.2)]
          rfl
      · have hP : ¬ mgP μ r b L S r := fun h => c2 ((if_pos rfl).symm.trans h.2.2)
        rw [if_neg c2, if_neg (fun e => hP e.1)]
        rfl
    · have hP : ¬ mgP μ r b L S r := fun h => c1 ((if_pos rfl).symm.trans h.2.1)
      rw [if_neg c1, if_neg (fun e => hP e.1)]
      rfl
  rw [hc, hm]
  have hlf : n < lf := by unfold lf; omega
  by_cases c : mgP μ r b L S r ∧ s < l0
  · rw [if_pos c, if_pos c, show b1 (mgP μ r b L S r ∧ s < l0) = 1 from if_pos c]
    by_cases h00 : μ.2 42 (100 * r + s) = 0
    · rw [h00, me_c0 hs hv hr hT hv0 hs100 n lf 0 hlf (by omega), me_m0 hr h7.2 hT h1 h0 hl0 hs100 n lf 0 hlf (by omega)]
      exact ⟨0, Sm.z q, rfl, rfl⟩
    · exact me_lk hs hv hr hT hv0 h1 h0 hl0 hs100 hq hex n lf lf 0 _ _ _ hlf hlf (by omega) (fun _ _ => ⟨rfl, h00⟩) (Or.inr ⟨rfl, rfl, (h42 c.2).rid h00⟩)
  · rw [if_neg c, if_neg c, show b1 (mgP μ r b L S r ∧ s < l0) = 0 from if_neg c]
    exact me_lk hs hv hr hT hv0 h1 h0 hl0 hs100 hq hex n lf lf 0 _ _ _ hlf hlf (by omega) (fun h1 h2 => absurd ⟨h1, h2⟩ c) (Or.inl ⟨rfl, rfl, fun o l ho => by omega⟩)
end MRE
