/-! merging: the longest and the first -/
def mxI (D : Nat → Prop) (len : Nat → Int32) (lo hi own m : Nat) (x : Int32) : Prop := own ≤ m ∧ m ≤ 100 ∧ (m = own ∨ ∃ o, lo ≤ o ∧ o < hi ∧ D o ∧ len o = nI m) ∧ (∀ o, lo ≤ o → o < hi → D o → ∃ l, len o = nI l ∧ l ≤ m) ∧ ((x = -1 ∧ ∀ o, lo ≤ o → o < hi → ¬ D o) ∨ ∃ o, lo ≤ o ∧ o < hi ∧ x = nI o ∧ D o ∧ ∀ o', lo ≤ o' → o' < o → ¬ D o')
section MX
variable {D : Nat → Prop} {len : Nat → Int32} {lo hi own m k l : Nat} {x : Int32}
theorem mxI.dn0 (h : mxI D len (k + 1) hi own m x) (hD : ¬ D k) : mxI D len k hi own m x := by
  obtain ⟨h1, h2, h3, h4, h5⟩ := h
  have split : ∀ o, k ≤ o → o = k ∨ k + 1 ≤ o := fun o h => by omega
  refine ⟨h1, h2, ?_, fun o ha hb hd => ?_, ?_⟩
  · rcases h3 with h3 | ⟨o, a1, a2, a3, a4⟩
    · exact Or.inl h3
    · exact Or.inr ⟨o, by omega, a2, a3, a4⟩
  · rcases split o ha with e | hh
    · rw [e] at hd; exact absurd hd hD
    · exact h4 o hh hb hd
  · rcases h5 with ⟨a1, a2⟩ | ⟨o, a1, a2, a3, a4, a5⟩
    · refine Or.inl ⟨a1, fun o ha hb hd => ?_⟩
      rcases split o ha with e | hh
      · rw [e] at hd; exact hD hd
      · exact a2 o hh hb hd
    · refine Or.inr ⟨o, by omega, a2, a3, a4, fun o' ha hb hd => ?_⟩
      rcases split o' ha with e | hh
      · rw [e] at hd; exact hD hd
      · exact a5 o' hh hb hd
theorem mxI.dn1 (h : mxI D len (k + 1) hi own m x) (hk : k < hi) (hD : D k) (hl : len k = nI l) (hl100 : l ≤ 100) : mxI D len k hi own (if m < l then l else m) (nI k) := by
  obtain ⟨h1, h2, h3, h4, h5⟩ := h
  have split : ∀ o, k ≤ o → o = k ∨ k + 1 ≤ o := fun o h => by omega
  refine ⟨by split <;> omega, by split <;> omega, ?_, fun o ha hb hd => ?_, Or.inr ⟨k, Nat.le_refl k, hk, rfl, hD, fun o' ha hb => by omega⟩⟩
  · by_cases e : m < l
    · rw [if_pos e]; exact Or.inr ⟨k, Nat.le_refl _, hk, hD, hl⟩
    · rw [if_neg e]
      rcases h3 with h3 | ⟨o, a1, a2, a3, a4⟩
      · exact Or.inl h3
      · exact Or.inr ⟨o, by omega, a2, a3, a4⟩
  · rcases split o ha with e | hh
    · rw [e]; exact ⟨l, hl, by split <;> omega⟩
    · obtain ⟨l', b1, b2⟩ := h4 o hh hb hd
      exact ⟨l', b1, by split <;> omega⟩
theorem mxI.up0 (h : mxI D len 0 k own m x) (hD : ¬ D k) : mxI D len 0 (k + 1) own m x := by
  obtain ⟨h1, h2, h3, h4, h5⟩ := h
  have split : ∀ o, o < k + 1 → o = k ∨ o < k := fun o h => by omega
  refine ⟨h1, h2, ?_, fun o ha hb hd => ?_, ?_⟩
  · rcases h3 with h3 | ⟨o, a1, a2, a3, a4⟩
    · exact Or.inl h3
    · exact Or.inr ⟨o, a1, by omega, a3, a4⟩
  · rcases split o hb with e | hh
    · rw [e] at hd; exact absurd hd hD
    · exact h4 o ha hh hd
  · rcases h5 with ⟨a1, a2⟩ | ⟨o, a1, a2, a3, a4, a5⟩
    · refine Or.inl ⟨a1, fun o ha hb hd => ?_⟩
      rcases split o hb with e | hh
      · rw [e] at hd; exact hD hd
      · exact a2 o ha hh hd
    · exact Or.inr ⟨o, a1, by omega, a3, a4, a5⟩
theorem mxI.up1 (hk7 : k ≤ 7) (h : mxI D len 0 k own m x) (hD : D k) (hl : len k = nI l) (hl100 : l ≤ 100) : mxI D len 0 (k + 1) own (if m < l then l else m) (if x = -1 then nI k else x) := by
  obtain ⟨h1, h2, h3, h4, h5⟩ := h
  have split : ∀ o, o < k + 1 → o = k ∨ o < k := fun o h => by omega
  refine ⟨by split <;> omega, by split <;> omega, ?_, fun o ha hb hd => ?_, ?_⟩
  · by_cases e : m < l
    · rw [if_pos e]; exact Or.inr ⟨k, Nat.zero_le _, Nat.lt_succ_self _, hD, hl⟩
    · rw [if_neg e]
      rcases h3 with h3 | ⟨o, a1, a2, a3, a4⟩
      · exact Or.inl h3
      · exact Or.inr ⟨o, a1, by omega, a3, a4⟩
  · rcases split o hb with e | hh
    · rw [e]; exact ⟨l, hl, by split <;> omega⟩
    · obtain ⟨l', b1, b2⟩ := h4 o ha hh hd
      exact ⟨l', b1, by split <;> omega⟩
  · rcases h5 with ⟨a1, a2⟩ | ⟨o, a1, a2, a3, a4, a5⟩
    · refine Or.inr ⟨k, Nat.zero_le _, Nat.lt_succ_self _, if_pos a1, hD, fun o' ha hb => a2 o' ha hb⟩
    · refine Or.inr ⟨o, a1, by omega, ?_, a4, a5⟩
      by_cases e : x = -1
      · rw [if_pos e]
        exact absurd (a3.symm.trans e) (nI_m1 (by omega))
      · rw [if_neg e]; exact a3
end MX
section MRH
variable {A : Ad} {n T q : Nat} {hb : Nat → Nat} {vw : Vw} {p u : Nat → Nat} {a r b : Nat} {σ σ' : Hp} {μ μ' : Mu}
theorem mx_eq {own m m' l0 : Nat} {x x' L S : Int32} (hn : n ≤ 7) (hc : mxI (mgd μ r b L S) (fun o => μ.2 53 (7 * r + o)) 0 n own m x) (hm : mxI (mgP μ r b L S) (fun o => nrm μ r o 38 53) 0 n 0 m' x') (hr : r < n) (hbr : b.testBit r = false) (h0 : μ.2 38 r = nI l0) (hl0 : l0 ≤ 100) (ho1 : mgP μ r b L S r → own = l0) (ho0 : ¬ mgP μ r b L S r → own = 0) : m = m' ∧ (¬ mgP μ r b L S r → x = x' ∧ ((x = -1 ∧ ∀ o, o < n → ¬ mgP μ r b L S o) ∨ ∃ o, o < n ∧ x = nI o ∧ mgd μ r b L S o)) := by
  obtain ⟨c1, c2, c3, c4, c5⟩ := hc
  obtain ⟨m1, m2, m3, m4, m5⟩ := hm
  have hne : ∀ o, mgd μ r b L S o → o ≠ r := fun o h e => by
    have := h.1
    rw [e, hbr] at this
    exact absurd this (by decide)
  have hnr : ∀ o, o ≠ r → nrm μ r o 38 53 = μ.2 53 (7 * r + o) := fun o h => if_neg h
  have hnr' : nrm μ r r 38 53 = nI l0 := (if_pos rfl).trans h0
  have hA : m ≤ m' := by
    rcases c3 with c3 | ⟨o, a1, a2, a3, a4⟩
    · by_cases hP : mgP μ r b L S r
      · obtain ⟨l, b1, b2⟩ := m4 r (Nat.zero_le _) hr hP
        have : l = l0 := (nI_eq (by omega) (by omega)).mp (b1.symm.trans hnr')
        have := ho1 hP
        omega
      · have := ho0 hP
        omega
    · have h1 := hne o a3
      obtain ⟨l, b1, b2⟩ := m4 o a1 a2 ((mgP_r h1).mpr a3)
      have : l = m := (nI_eq (by omega) (by omega)).mp ((b1.symm.trans (hnr o h1)).trans a4)
      omega
  have hB : m' ≤ m := by
    rcases m3 with m3 | ⟨o, a1, a2, a3, a4⟩
    · omega
    · by_cases h1 : o = r
      · subst h1
        have : l0 = m' := (nI_eq (by omega) (by omega)).mp (hnr'.symm.trans a4)
        have := ho1 a3
        omega
      · obtain ⟨l, b1, b2⟩ := c4 o a1 a2 ((mgP_r h1).mp a3)
        have : l = m' := (nI_eq (by omega) (by omega)).mp ((b1.symm.trans (hnr o h1).symm).trans a4)
        omega
  refine ⟨by omega, fun hP => ?_⟩
  have hor : ∀ o, mgP μ r b L S o → o ≠ r := fun o h e => by rw [e] at h; exact hP h
  rcases c5 with ⟨a1, a2⟩ | ⟨o, a1, a2, a3, a4, a5⟩
  · rcases m5 with ⟨b1, b2⟩ | ⟨o, b1, b2, b3, b4, b5⟩
    · exact ⟨a1.trans b1.symm, Or.inl ⟨a1, fun o ho => b2 o (Nat.zero_le _) ho⟩⟩
    · exact absurd ((mgP_r (hor o b4)).mp b4) (a2 o b1 b2)
  · rcases m5 with ⟨b1, b2⟩ | ⟨o', b1, b2, b3, b4, b5⟩
    · exact absurd ((mgP_r (hne o a4)).mpr a4) (b2 o a1 a2)
    · have e : o = o' := by
        rcases Nat.lt_trichotomy o o' with h | h | h
        · exact absurd ((mgP_r (hne o a4)).mpr a4) (b5 o a1 h)
        · exact h
        · exact absurd ((mgP_r (hor o' b4)).mp b4) (a5 o' b1 h)
      exact ⟨by rw [a3, b3, e], Or.inr ⟨o, a2, a3, a4⟩⟩
theorem mg_c98 (hs : Rs A n σ) (hv : Vok vw σ) (hr : r < n) (hT : Tb A n T q vw σ μ r b) {v0 : Nat} {L S : Int32} (hv0 : IsV σ v0 L S) (x2 : Int32) {own : Nat} : ∀ (k F m : Nat) (x3 : Int32), k < F → k ≤ n → mxI (mgd μ r b L S) (fun o => μ.2 53 (7 * r + o)) k n own m x3 → ∃ x3' m', mxI (mgd μ r b L S) (fun o => μ.2 53 (7 * r + o)) 0 n own m' x3' ∧ f_X6_mergeLogs_98 F σ (A 6 r 0) v0 x2 x3 (nI m) (nI k - 1) = f_X6_mergeLogs_142 σ (A 6 r 0) v0 x2 x3' (nI m') := by
  have h7 := hs.np
  have k6 := hs.k6 hr
  have k8 := hs.k8 hr
  intro k
  induction k with
  | zero =>
    intro F m x3 hF hk hI
    obtain ⟨F, rfl⟩ : ∃ f, F = f + 1 := ⟨F - 1, by omega⟩
    refine ⟨x3, m, hI, ?_⟩
    show b_X6_mergeLogs_98 (f_X6_mergeLogs_98 F) _ _ _ _ _ _ _ = _
    rw [b_X6_mergeLogs_98, if_pos (by decide)]
  | succ k ih =>
    intro F m x3 hF hk hI
    obtain ⟨F, rfl⟩ : ∃ f, F = f + 1 := ⟨F - 1, by omega⟩
    have e0 : nI (k + 1) - (1 : Int32) = nI k := nI_pred k
    have e1 : ¬ nI k < (0 : Int32) := nI_pos (by omega)
    have c0 : f_X6_mergeLogs_98 (F + 1) σ (A 6 r 0) v0 x2 x3 (nI m) (nI (k + 1) - 1) = if b1 (mgd μ r b L S k) = 0 then f_X6_mergeLogs_98 F σ (A 6 r 0) v0 x2 x3 (nI m) (nI k - 1) else ((h_aR σ 16 (A 38 r 0) (nI k)).bind fun v127 => (h_gI σ 4 v127 1).bind fun v128 => (f_J9_max_7cf53 (nI m) v128).bind fun v131 => f_X6_mergeLogs_98 F σ (A 6 r 0) v0 x2 (nI k) v131 (nI k - 1)) := by
      show b_X6_mergeLogs_98 (f_X6_mergeLogs_98 F) _ _ _ _ _ _ _ = _
      rw [e0, b_X6_mergeLogs_98, if_neg e1, x_gO k6, Option.bind_some, c_isMerged hs hv hr hT hv0 (by omega), Option.bind_some]
      simp only [f_X6_mergeLogs_136, x_gR k6, hs.r6_14 hr, x_gR k8, hs.r8_6 hr, Option.bind_some]
    by_cases hD : mgd μ r b L S k
    · obtain ⟨-, -, -, l, q1, q2, q3, q4⟩ := hT.2.2.2.2 k (by omega) hD.1
      rw [if_neg (by rw [b1_0]; exact fun x => x hD), e_aR (hs.k38 hr) (hs.z38 hr) (by omega : k < n) (by omega) (hs.r38 hr (by omega)), Option.bind_some, x_gI (hs.k39 hr (by omega)), Option.bind_some, q3] at c0
      have em : f_J9_max_7cf53 (nI m) (nI l) = some (nI (if m < l then l else m)) := by
        have h2 := hI.2.1
        unfold f_J9_max_7cf53
        by_cases h : m < l
        · rw [if_pos h, if_pos ((nI_ltI (by omega) (by omega)).mpr h)]
        · rw [if_neg h, if_neg (fun e => h ((nI_ltI (by omega) (by omega)).mp e))]
      rw [em, Option.bind_some] at c0
      obtain ⟨x3', m', w1, w2⟩ := ih F _ (nI k) (by omega) (by omega) (hI.dn1 (by omega) hD q2 q1)
      exact ⟨x3', m', w1, c0.trans w2⟩
    · rw [if_pos (by rw [b1_0]; exact hD)] at c0
      obtain ⟨x3', m', w1, w2⟩ := ih F m x3 (by omega) (by omega) (hI.dn0 hD)
      exact ⟨x3', m', w1, c0.trans w2⟩
theorem mg_m118 (hr : r < n) (hn7 : n ≤ 7) (hT : Tb A n T q vw σ μ r b) (h1 : μ.1 1 = nI n) {l0 : Nat} (h0 : μ.2 38 r = nI l0) (hl0 : l0 ≤ 100) {L S : Int32} : ∀ (d F k m : Nat) (x5 : Int32), d < F → n = k + d → mxI (mgP μ r b L S) (fun o => nrm μ r o 38 53) 0 k 0 m x5 → ∃ x5' m', mxI (mgP μ r b L S) (fun o => nrm μ r o 38 53) 0 n 0 m' x5' ∧ f_X12_merge_118 F μ (nI r) L S (nI m) x5 (nI k) = f_X12_merge_206 μ (nI r) L S (nI m') x5' := by
  have hr7 : r < 7 := by omega
  intro d
  induction d with
  | zero =>
    intro F k m x5 hF hn hI
    obtain ⟨F, rfl⟩ : ∃ f, F = f + 1 := ⟨F - 1, by omega⟩
    have e1 : nI n ≤ nI k := (nI_leI (by omega) (by omega)).mpr (by omega)
    have e2 : k = n := by omega
    refine ⟨x5, m, by rw [e2] at hI; exact hI, ?_⟩
    show b_X12_merge_118 (f_X12_merge_118 F) _ _ _ _ _ _ _ = _
    rw [b_X12_merge_118, h1, if_pos e1]
  | succ d ih =>
    intro F k m x5 hF hn hI
    obtain ⟨F, rfl⟩ : ∃ f, F = f + 1 := ⟨F - 1, by omega⟩
    have e1 : ¬ nI n ≤ nI k := fun e => by rw [nI_leI (by omega) (by omega)] at e; omega
    have hk : k < n := by omega
    have hk7 : k < 7 := by omega
    have m0 : f_X12_merge_118 (F + 1) μ (nI r) L S (nI m) x5 (nI k) = if b1 (k = r ∨ b.testBit k = true) = 0 then f_X12_merge_118 F μ (nI r) L S (nI m) x5 (nI (k + 1)) else if nrm μ r k 36 50 = L then (if nrm μ r k 37 51 = S then (if nrm μ r k 38 53 ≤ nI m then (if x5 = (-1 : Int32) then f_X12_merge_118 F μ (nI r) L S (nI m) (nI k) (nI (k + 1)) else f_X12_merge_118 F μ (nI r) L S (nI m) x5 (nI (k + 1))) else (if x5 = (-1 : Int32) then f_X12_merge_118 F μ (nI r) L S (nrm μ r k 38 53) (nI k) (nI (k + 1)) else f_X12_merge_118 F μ (nI r) L S (nrm μ r k 38 53) x5 (nI (k + 1)))) else f_X12_merge_118 F μ (nI r) L S (nI m) x5 (nI (k + 1))) else f_X12_merge_118 F μ (nI r) L S (nI m) x5 (nI (k + 1)) := by
      show b_X12_merge_118 (f_X12_merge_118 F) _ _ _ _ _ _ _ = _
      rw [b_X12_merge_118, h1, if_neg e1, m_isIn hr7 hT hk7, Option.bind_some, m_nL hr7 hk7, m_nS hr7 hk7, m_lnO hr7 hk7]
      simp only [f_X12_merge_200, f_X12_merge_188, Option.bind_some, nI_1]
    by_cases hD : mgP μ r b L S k
    · obtain ⟨l, hl, hl100⟩ : ∃ l, nrm μ r k 38 53 = nI l ∧ l ≤ 100 := by
        by_cases e : k = r
        · exact ⟨l0, (if_pos e).trans h0, hl0⟩
        · obtain ⟨-, -, -, l, q1, q2, -⟩ := hT.2.2.2.2 k hk (hD.1.resolve_left e)
          exact ⟨l, (if_neg e).trans q2, q1⟩
      rw [if_neg (by rw [b1_0]; exact fun x => x hD.1), if_pos hD.2.1, if_pos hD.2.2, hl] at m0
      have h2 := hI.2.1
      obtain ⟨x5', m', w1, w2⟩ := ih F (k + 1) _ _ (by omega) (by omega) (mxI.up1 (by omega) hI hD hl hl100)
      refine ⟨x5', m', w1, ?_⟩
      rw [m0, ← w2]
      by_cases h : m < l
      · rw [if_neg (fun e => by rw [nI_leI (by omega) (by omega)] at e; omega), if_pos h]
        by_cases hx : x5 = -1
        · rw [if_pos hx, if_pos hx]
        · rw [if_neg hx, if_neg hx]
      · rw [if_pos ((nI_leI (by omega) (by omega)).mpr (by omega)), if_neg h]
        by_cases hx : x5 = -1
        · rw [if_pos hx, if_pos hx]
        · rw [if_neg hx, if_neg hx]
    · obtain ⟨x5', m', w1, w2⟩ := ih F (k + 1) m x5 (by omega) (by omega) (hI.up0 hD)
      refine ⟨x5', m', w1, ?_⟩
      rw [m0, ← w2]
      by_cases c1 : k = r ∨ b.testBit k = true
      · rw [if_neg (by rw [b1_0]; exact fun x => x c1)]
        by_cases c2 : nrm μ r k 36 50 = L
        · rw [if_pos c2, if_neg (fun x => hD ⟨c1, c2, x⟩)]
        · rw [if_neg c2]
      · rw [if_pos (by rw [b1_0]; exact c1)]
end MRH
