/-! what is not held to: the reference's loops -/
def gdE (μ : Mu) (r k : Nat) : Prop := ∃ id s c l, (μ.2 71 k = nI id ∧ id ≤ 64) ∧ (μ.2 74 k = nI (s + 1) ∧ s < 100) ∧ (μ.2 4 id = nI c ∧ c < 4) ∧ (μ.2 38 r = nI l ∧ l ≤ 100) ∧ gdQ μ r k id s c l
def bd (n : Nat) (μ : Mu) (r k : Nat) : Prop := (∃ l, l ≤ 64 ∧ μ.2 33 r = nI l ∧ l % n = r) ∧ ¬ μ.2 35 r = 2 ∧ relP μ r k ∧ ¬ gdE μ r k
theorem gdE_iff {μ : Mu} {r k id s c l : Nat} (h1 : μ.2 71 k = nI id) (i1 : id ≤ 64) (h2 : μ.2 74 k = nI (s + 1)) (i2 : s < 100) (h3 : μ.2 4 id = nI c) (i3 : c < 4) (h4 : μ.2 38 r = nI l) (i4 : l ≤ 100) : gdE μ r k ↔ gdQ μ r k id s c l := by
  constructor
  · rintro ⟨id', s', c', l', ⟨a1, a2⟩, ⟨b1', b2⟩, ⟨c1, c2⟩, ⟨d1, d2⟩, h⟩
    have e1 : id' = id := (nI_eq (by omega) (by omega)).mp (a1.symm.trans h1)
    subst e1
    have e2 : s' + 1 = s + 1 := (nI_eq (by omega) (by omega)).mp (b1'.symm.trans h2)
    have e2' : s' = s := by omega
    subst e2'
    have e3 : c' = c := (nI_eq (by omega) (by omega)).mp (c1.symm.trans h3)
    subst e3
    have e4 : l' = l := (nI_eq (by omega) (by omega)).mp (d1.symm.trans h4)
    subst e4
    exact h
  · exact fun h => ⟨id, s, c, l, ⟨h1, i1⟩, ⟨h2, i2⟩, ⟨h3, i3⟩, ⟨h4, i4⟩, h⟩
theorem bh_some (a b c d : Int32) : ∃ x, f_X12_isBehind a b c d = some x := by
  unfold f_X12_isBehind f_X12_isBehind_10
  repeat' split
  all_goals exact ⟨_, rfl⟩
section BRM
variable {A : Ad} {n T q t tb : Nat} {hb : Nat → Nat} {vw : Vw} {p u : Nat → Nat} {a f : Nat} {σ σ' : Hp} {μ μ0 : Mu}
/-- a fact's own -/
theorem RR.fact (hR : RR A n T q hb vw p u a 0 σ μ0) (hf : μ0.1 70 = nI f) (hf64 : f ≤ 64) {k : Nat} (hk : k < f) : ∃ id s c, 1 ≤ id ∧ id ≤ q ∧ q ≤ 64 ∧ μ0.2 71 k = nI id ∧ oI σ (A 23 0 0) k = nI id ∧ s < 100 ∧ μ0.2 74 k = nI (s + 1) ∧ oI σ (A 23 2 0) k = nI (s + 1) ∧ c < 4 ∧ μ0.2 4 id = nI c ∧ VwR vw (oR σ (A 23 1 0) k) (μ0.2 72 k) (μ0.2 73 k) ∧ oI σ (A 23 3 0) k = μ0.2 75 k := by
  have hq : q ≤ 64 := hR.2.2.2.2.2.2.2.2.1
  obtain ⟨f', f1, f2, f3, f4, f5, f6⟩ := hR.2.2.2.2.2.2.2.1
  have e : f' = f := (nI_eq (by omega) (by omega)).mp (f1.symm.trans hf)
  subst e
  obtain ⟨y1, ⟨id, y2, y3, y4⟩, y5, y6, ⟨s, y7, y8, y9⟩, y10⟩ := f6 k hk
  obtain ⟨c, -, -, c1, c2, -⟩ := hR.rows.1 id y2 y3
  obtain ⟨s, rfl⟩ : ∃ s', s = s' + 1 := ⟨s - 1, by omega⟩
  exact ⟨id, s, c, y2, y3, hq, y4, y1.trans y4, by omega, y9, y6.trans y9, c1, c2, y5, y10⟩
theorem m_inner (hR : RR A n T q hb vw p u a 0 σ μ0) (hf : μ0.1 70 = nI f) (hf64 : f ≤ 64) {k : Nat} (hk : k < f) (rec9 : Mu → Int32 → Int32 → Option (Int32 × Mu)) (x1 : Int32) : ∀ (d F r : Nat) (μ : Mu) (x3 : Int32), d < F → n = r + d → AgS μ0 μ → ((x3 = 1 ∧ ∀ r', r' < r → ¬ bd n μ0 r' k) ∨ (x3 = 0 ∧ ∃ r', r' < r ∧ bd n μ0 r' k)) → ∃ μ' x, AgS μ0 μ' ∧ ((x = 1 ∧ ∀ r', r' < n → ¬ bd n μ0 r' k) ∨ (x = 0 ∧ ∃ r', r' < n ∧ bd n μ0 r' k)) ∧ f_X12_broken_29 rec9 F μ x1 (nI k) x3 (nI r) = f_X12_broken_160 rec9 μ' x1 (nI k) x := by
  have hs := hR.1
  have h7 := hs.np
  have h1 : μ0.1 1 = nI n := hR.2.2.1.2.2.2.2.1
  obtain ⟨id, s, c, i1, i2, i3, i4, -, i5, i6, -, i7, i8, -, -⟩ := hR.fact hf hf64 hk
  intro d
  induction d with
  | zero =>
    intro F r μ x3 hF hn hA hx
    obtain ⟨F, rfl⟩ : ∃ f, F = f + 1 := ⟨F - 1, by omega⟩
    have e2 : r = n := by omega
    refine ⟨μ, x3, hA, by rw [e2] at hx; exact hx, ?_⟩
    show b_X12_broken_29 rec9 (f_X12_broken_29 rec9 F) _ _ _ _ _ = _
    rw [b_X12_broken_29, hA.2, h1, if_pos ((nI_leI (by omega) (by omega)).mpr (by omega))]
  | succ d ih =>
    intro F r μ x3 hF hn hA hx
    obtain ⟨F, rfl⟩ : ∃ f, F = f + 1 := ⟨F - 1, by omega⟩
    have hr : r < n := by omega
    have hr7 : r < 7 := by omega
    have hk2 : k < 200 := by omega
    have e : ∀ {μ : Mu}, AgS μ0 μ → ∀ j i, j < 76 → μ.2 j i = μ0.2 j i := fun h j i hj => h.1 j i (by omega)
    obtain ⟨L, v, g1, g2, g3, g4, g5, g6, -⟩ := hR.ld hr
    obtain ⟨-, ⟨l, q1, q2, q3, q4⟩, -, -⟩ := (hR.2.2.2.2.2.1 r hr).sp
    have hld : f_X12_leads μ (nI r) = some (b1 (L % n = r)) := m_leads (by rw [hA.2]; exact h1) hr7 (by rw [e hA 33 r (by decide)]; exact g2) g1 h7.1 h7.2
    have h42 : ∀ k, k < l → Sm q (μ0.2 42 (100 * r + k)) := fun k hk => by
      have := (q4 k hk).2
      rw [rwM_at (by omega)] at this
      exact this
    obtain ⟨xb, hxb⟩ := bh_some (μ0.2 72 k) (μ0.2 73 k) (μ0.2 33 r) (μ0.2 34 r)
    have hgd := gdE_iff (μ := μ0) (r := r) (k := k) i4 (by omega) i6 i5 i8 i7 q2 q1
    -- next, with this value
    have next : ∀ (μ' : Mu) (x : Int32), AgS μ0 μ' → ((x = 1 ∧ ∀ r', r' < r + 1 → ¬ bd n μ0 r' k) ∨ (x = 0 ∧ ∃ r', r' < r + 1 ∧ bd n μ0 r' k)) → f_X12_broken_29 rec9 (F + 1) μ x1 (nI k) x3 (nI r) = f_X12_broken_154 rec9 (f_X12_broken_29 rec9 F) μ' x1 (nI k) x (nI r) → ∃ μ' x, AgS μ0 μ' ∧ ((x = 1 ∧ ∀ r', r' < n → ¬ bd n μ0 r' k) ∨ (x = 0 ∧ ∃ r', r' < n ∧ bd n μ0 r' k)) ∧ f_X12_broken_29 rec9 (F + 1) μ x1 (nI k) x3 (nI r) = f_X12_broken_160 rec9 μ' x1 (nI k) x := fun μ' x hA' hx' he => by
      obtain ⟨μ2, x2, w1, w2, w3⟩ := ih F (r + 1) μ' x (by omega) (by omega) hA' hx'
      refine ⟨μ2, x2, w1, w2, he.trans ?_⟩
      rw [f_X12_broken_154, nI_1]
      exact w3
    have keep : ¬ bd n μ0 r k → ((x3 = 1 ∧ ∀ r', r' < r + 1 → ¬ bd n μ0 r' k) ∨ (x3 = 0 ∧ ∃ r', r' < r + 1 ∧ bd n μ0 r' k)) := fun hno => by
      rcases hx with ⟨a1, a2⟩ | ⟨a1, r', a2, a3⟩
      · refine Or.inl ⟨a1, fun r' hr' => ?_⟩
        rcases (show r' = r ∨ r' < r by omega) with e' | e'
        · rw [e']; exact hno
        · exact a2 r' e'
      · exact Or.inr ⟨a1, r', by omega, a3⟩
    have c0 : f_X12_broken_29 rec9 (F + 1) μ x1 (nI k) x3 (nI r) = f_X12_broken_75 rec9 (f_X12_broken_29 rec9 F) μ x1 (nI k) x3 (nI r) (b1 (μ0.2 72 k = μ0.2 33 r ∧ μ0.2 73 k = μ0.2 34 r)) := by
      show b_X12_broken_29 rec9 (f_X12_broken_29 rec9 F) _ _ _ _ _ = _
      rw [b_X12_broken_29, hA.2, h1, if_neg (fun h => by rw [nI_leI (by omega) (by omega)] at h; omega), mA_n 72 k hk2, Option.bind_some, mA_n 33 r hr7, Option.bind_some, e hA 72 k (by decide), e hA 33 r (by decide), mA_n 73 k hk2, Option.bind_some, mA_n 34 r hr7, Option.bind_some, e hA 73 k (by decide), e hA 34 r (by decide)]
      unfold b1
      by_cases d1 : μ0.2 72 k = μ0.2 33 r
      · rw [if_pos d1]
        by_cases d2 : μ0.2 73 k = μ0.2 34 r
        · rw [if_pos d2, if_pos ⟨d1, d2⟩]
        · rw [if_neg d2, if_neg (fun h => d2 h.2), f_X12_broken_74]
      · rw [if_neg d1, if_neg (fun h => d1 h.1), f_X12_broken_74]
    have c134 : relP μ0 r k → (∃ l, l ≤ 64 ∧ μ0.2 33 r = nI l ∧ l % n = r) → ¬ μ0.2 35 r = 2 → f_X12_broken_29 rec9 (F + 1) μ x1 (nI k) x3 (nI r) = f_X12_broken_134 rec9 (f_X12_broken_29 rec9 F) μ x1 (nI k) x3 (nI r) → ∃ μ' x, AgS μ0 μ' ∧ ((x = 1 ∧ ∀ r', r' < n → ¬ bd n μ0 r' k) ∨ (x = 0 ∧ ∃ r', r' < n ∧ bd n μ0 r' k)) ∧ f_X12_broken_29 rec9 (F + 1) μ x1 (nI k) x3 (nI r) = f_X12_broken_160 rec9 μ' x1 (nI k) x := fun hrel hlead hst he => by
      rw [f_X12_broken_134] at he
      rcases hx with ⟨a1, a2⟩ | ⟨a1, r', a2, a3⟩
      · rw [if_neg (by rw [a1]; decide)] at he
        obtain ⟨x, μ', w1, w2, w3⟩ := m_has hR.rows hr7 hk2 i1 i2 i4 i6 i5 i8 i7 q2 q1 h42 hA
        rw [w1, Option.bind_some] at he
        dsimp only at he
        rcases w3 with ⟨w3, w4⟩ | ⟨w3, w4⟩
        · rw [if_neg (by rw [w3]; decide), f_X12_broken_153] at he
          refine next μ' 1 w2 (Or.inl ⟨rfl, fun r' hr' => ?_⟩) he
          rcases (show r' = r ∨ r' < r by omega) with e' | e'
          · rw [e']; exact fun hb => hb.2.2.2 (hgd.mpr w4)
          · exact a2 r' e'
        · rw [if_pos w3, f_X12_broken_152, f_X12_broken_153] at he
          exact next μ' 0 w2 (Or.inr ⟨rfl, r, by omega, hlead, hst, hrel, fun h => w4 (hgd.mp h)⟩) he
      · rw [if_pos a1, f_X12_broken_152, f_X12_broken_153] at he
        exact next μ 0 hA (Or.inr ⟨rfl, r', by omega, a3⟩) he
    rw [f_X12_broken_75, hld, Option.bind_some, mA_n 35 r hr7, Option.bind_some, e hA 35 r (by decide)] at c0
    by_cases c1 : L % n = r
    · have hlead : ∃ l, l ≤ 64 ∧ μ0.2 33 r = nI l ∧ l % n = r := ⟨L, g1, g2, c1⟩
      rw [if_neg (by rw [b1_0]; exact fun x => x c1)] at c0
      by_cases c2 : μ0.2 35 r = 2
      · rw [if_pos c2] at c0
        exact next μ x3 hA (keep fun hb => hb.2.1 c2) c0
      · rw [if_neg c2] at c0
        by_cases c3 : μ0.2 72 k = μ0.2 33 r ∧ μ0.2 73 k = μ0.2 34 r
        · rw [if_neg (by rw [b1_0]; exact fun x => x c3)] at c0
          exact c134 (Or.inl c3) hlead c2 c0
        · rw [if_pos (by rw [b1_0]; exact c3), mA_n 72 k hk2, Option.bind_some, mA_n 73 k hk2, Option.bind_some, mA_n 33 r hr7, Option.bind_some, mA_n 34 r hr7, Option.bind_some, e hA 72 k (by decide), e hA 73 k (by decide), e hA 33 r (by decide), e hA 34 r (by decide), hxb, Option.bind_some] at c0
          by_cases c4 : xb = 0
          · rw [if_pos c4] at c0
            refine next μ x3 hA (keep fun hb => ?_) c0
            rcases hb.2.2.1 with h | ⟨x', h, h'⟩
            · exact c3 h
            · exact h' ((Option.some.inj (h.symm.trans hxb)).trans c4)
          · rw [if_neg c4] at c0
            exact c134 (Or.inr ⟨xb, hxb, c4⟩) hlead c2 c0
    · rw [if_pos (by rw [b1_0]; exact c1)] at c0
      refine next μ x3 hA (keep fun hb => ?_) c0
      obtain ⟨l', h1, h2, h3⟩ := hb.1
      have : l' = L := (nI_eq (by omega) (by omega)).mp (h2.symm.trans g2)
      exact c1 (this ▸ h3)
def sumN (g : Nat → Nat) : Nat → Nat := Nat.rec 0 (fun k c => c + g k)
theorem sumN_s (g : Nat → Nat) (k : Nat) : sumN g (k + 1) = sumN g k + g k := rfl
theorem m_outer (hR : RR A n T q hb vw p u a 0 σ μ0) (hf : μ0.1 70 = nI f) (hf64 : f ≤ 64) (g : Nat → Nat) (hg : ∀ k, k < f → (g k = 1 ∧ ∃ r', r' < n ∧ bd n μ0 r' k) ∨ (g k = 0 ∧ ∀ r', r' < n → ¬ bd n μ0 r' k)) : ∀ (d F k : Nat) (μ : Mu), d < F → f = k + d → AgS μ0 μ → ∃ μ', f_X12_broken_9 F μ (nI (sumN g k)) (nI k) = some (nI (sumN g f), μ') ∧ AgS μ0 μ' := by
  have hs := hR.1
  have h7 := hs.np
  intro d
  induction d with
  | zero =>
    intro F k μ hF hk hA
    obtain ⟨F, rfl⟩ : ∃ f, F = f + 1 := ⟨F - 1, by omega⟩
    have e2 : k = f := by omega
    refine ⟨μ, ?_, hA⟩
    show b_X12_broken_9 (f_X12_broken_9 F) _ _ _ = _
    rw [b_X12_broken_9, if_neg (fun h => by rw [l200, nI_leI (by omega) (by omega)] at h; omega), hA.2, hf, if_pos ((nI_leI (by omega) (by omega)).mpr (by omega)), e2]
  | succ d ih =>
    intro F k μ hF hk hA
    obtain ⟨F, rfl⟩ : ∃ f, F = f + 1 := ⟨F - 1, by omega⟩
    have hkf : k < f := by omega
    obtain ⟨μ', x, w1, w2, w3⟩ := m_inner hR hf hf64 hkf (f_X12_broken_9 F) (nI (sumN g k)) n lf 0 μ 1 (by unfold lf; omega) (by omega) hA (Or.inl ⟨rfl, fun r' h => by omega⟩)
    obtain ⟨μ2, y1, y2⟩ := ih F (k + 1) μ' (by omega) (by omega) w1
    refine ⟨μ2, ?_, y2⟩
    show b_X12_broken_9 (f_X12_broken_9 F) _ _ _ = _
    rw [b_X12_broken_9, if_neg (fun h => by rw [l200, nI_leI (by omega) (by omega)] at h; omega), hA.2, hf, if_neg (fun h => by rw [nI_leI (by omega) (by omega)] at h; omega)]
    refine Eq.trans (show f_X12_broken_29 (f_X12_broken_9 F) lf μ (nI (sumN g k)) (nI k) 1 0 = _ from w3) ?_
    rw [f_X12_broken_160, ← y1, sumN_s]
    rcases w2 with ⟨z1, z2⟩ | ⟨z1, r', z2, z3⟩
    · have hgk : g k = 0 := by
        rcases hg k hkf with ⟨-, r', a1, a2⟩ | ⟨a1, -⟩
        · exact absurd a2 (z2 r' a1)
        · exact a1
      rw [if_neg (by rw [z1]; decide), f_X12_broken_170, hgk, nI_1, l0, nI_add]
    · have hgk : g k = 1 := by
        rcases hg k hkf with ⟨a1, -⟩ | ⟨-, a2⟩
        · exact a1
        · exact absurd z3 (a2 r' z2)
      rw [if_pos z1, f_X12_broken_170, hgk, nI_1, nI_1]
end BRM
