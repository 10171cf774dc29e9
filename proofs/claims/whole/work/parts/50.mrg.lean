/-! merging: what is counted -/
def Tb (A : Ad) (n T q : Nat) (vw : Vw) (σ : Hp) (μ : Mu) (r b : Nat) : Prop := oI σ (A 8 r 0) 3 = nI b ∧ μ.2 49 r = nI b ∧ b < 128 ∧ b.testBit r = false ∧ ∀ o, o < n → b.testBit o = true → VwR vw (oR σ (A 36 r 0) o) (μ.2 50 (7 * r + o)) (μ.2 51 (7 * r + o)) ∧ Sm T (μ.2 50 (7 * r + o)) ∧ oI σ (A 37 r 0) o = μ.2 52 (7 * r + o) ∧ logR q (oI σ (A 39 r o)) (oI σ (A 40 r o)) (μ.2 53 (7 * r + o)) (rwM 100 μ 54 (7 * r + o))
/-- what of the reference's rows is of the o-th, its own in row j -/
def nrm (μ : Mu) (r o j j' : Nat) : Int32 := if o = r then μ.2 j r else μ.2 j' (7 * r + o)
abbrev lat (L S L' S' : Int32) : Prop := S' < S ∨ (S = S' ∧ L' < L)
abbrev mgd (μ : Mu) (r b : Nat) (L S : Int32) (o : Nat) : Prop := b.testBit o = true ∧ μ.2 50 (7 * r + o) = L ∧ μ.2 51 (7 * r + o) = S
abbrev mgP (μ : Mu) (r b : Nat) (L S : Int32) (o : Nat) : Prop := (o = r ∨ b.testBit o = true) ∧ nrm μ r o 36 50 = L ∧ nrm μ r o 37 51 = S
theorem i_nle {x y : Int32} : ¬ x ≤ y ↔ y < x := by
  rw [Int32.le_iff_toInt_le, Int32.lt_iff_toInt_lt]
  omega
theorem lat_tr {L S L' S' L2 S2 : Int32} (h : lat L S L' S') (h2 : ¬ lat L2 S2 L' S') : ¬ lat L2 S2 L S := by
  unfold lat at *
  simp only [Int32.lt_iff_toInt_lt, ← Int32.toInt_inj] at *
  omega
theorem mgP_r {μ : Mu} {r b o : Nat} {L S : Int32} (ho : o ≠ r) : mgP μ r b L S o ↔ mgd μ r b L S o := by
  unfold mgP mgd nrm
  rw [if_neg ho, if_neg ho]
  constructor
  · rintro ⟨h1, h2⟩
    exact ⟨h1.resolve_left ho, h2⟩
  · rintro ⟨h1, h2⟩
    exact ⟨Or.inr h1, h2⟩
section MRG
variable {A : Ad} {n T q : Nat} {hb : Nat → Nat} {vw : Vw} {p u : Nat → Nat} {a r b : Nat} {σ σ' : Hp} {μ μ' : Mu}
theorem RrT.tb (hn : n ≤ 7) (h : RrT A n T q vw σ μ r) : ∃ b, Tb A n T q vw σ μ r b := by
  obtain ⟨t1, t2, t3, t4, t5, t6, b, t7, t8, t9, t10⟩ := h
  refine ⟨b, t6.trans t8, t8, t7, t9, fun o ho hb => ?_⟩
  have h := t10 o ho hb
  simp only [rwM_at (show o < 7 by omega)] at h
  exact h
theorem c_turned (hs : Rs A n σ) (hr : r < n) (hT : Tb A n T q vw σ μ r b) {o : Nat} (ho : o < 7) : f_X8_hasTurned σ (A 8 r 0) (nI o) = some (b1 (b.testBit o = true)) := by
  rw [f_X8_hasTurned, x_gI (hs.k8 hr), Option.bind_some, hT.1]
  unfold b1
  by_cases h : b.testBit o = true
  · rw [if_neg (fun e => (bit_tc b hT.2.2.1 o ho).mp e h), if_pos h]
  · rw [if_pos ((bit_tc b hT.2.2.1 o ho).mpr h), if_neg h]
theorem m_isIn (hr7 : r < 7) (hT : Tb A n T q vw σ μ r b) {o : Nat} (ho : o < 7) : f_X12_isIn μ (nI r) (nI o) = some (b1 (o = r ∨ b.testBit o = true)) := by
  rw [f_X12_isIn]
  unfold b1
  by_cases e : o = r
  · rw [if_pos (by rw [e]), if_pos (Or.inl e)]
  · rw [if_neg (fun h => e ((nI_eq (by omega) (by omega)).mp h)), mA_n 49 r hr7, Option.bind_some, hT.2.1]
    by_cases h : b.testBit o = true
    · rw [if_pos ((bit_tm b hT.2.2.1 o ho).1.mpr h), if_pos (Or.inr h)]
    · rw [if_neg (fun x => h ((bit_tm b hT.2.2.1 o ho).1.mp x)), if_neg (fun x => x.elim e h)]
theorem m_nL (hr7 : r < 7) {o : Nat} (ho : o < 7) : f_X12_normalOf μ (nI r) (nI o) 0 = some (nrm μ r o 36 50) := by
  rw [f_X12_normalOf]
  unfold nrm
  by_cases e : o = r
  · rw [if_pos (by rw [e]), if_pos rfl, mA_n 36 r hr7, Option.bind_some, if_pos e]
  · rw [if_neg (fun h => e ((nI_eq (by omega) (by omega)).mp h)), if_pos rfl, l7, pk_mul, nI_add, mA_n 50 _ (by simp only [mZ]; omega), Option.bind_some, if_neg e]
theorem m_nS (hr7 : r < 7) {o : Nat} (ho : o < 7) : f_X12_normalOf μ (nI r) (nI o) 1 = some (nrm μ r o 37 51) := by
  rw [f_X12_normalOf]
  unfold nrm
  by_cases e : o = r
  · rw [if_pos (by rw [e]), if_neg (by decide), mA_n 37 r hr7, Option.bind_some, if_pos e]
  · rw [if_neg (fun h => e ((nI_eq (by omega) (by omega)).mp h)), if_neg (by decide), l7, pk_mul, nI_add, mA_n 51 _ (by simp only [mZ]; omega), Option.bind_some, if_neg e]
theorem m_lnO (hr7 : r < 7) {o : Nat} (ho : o < 7) : f_X12_lengthOf μ (nI r) (nI o) = some (nrm μ r o 38 53) := by
  rw [f_X12_lengthOf]
  unfold nrm
  by_cases e : o = r
  · rw [if_pos (by rw [e]), mA_n 38 r hr7, Option.bind_some, if_pos e]
  · rw [if_neg (fun h => e ((nI_eq (by omega) (by omega)).mp h)), l7, pk_mul, nI_add, mA_n 53 _ (by simp only [mZ]; omega), Option.bind_some, if_neg e]
theorem m_enO (hr7 : r < 7) {o k : Nat} (ho : o < 7) (hk : k < 100) : f_X12_entryOf μ (nI r) (nI o) (nI k) = some (if o = r then μ.2 42 (100 * r + k) else μ.2 54 (100 * (7 * r + o) + k)) := by
  rw [f_X12_entryOf]
  by_cases e : o = r
  · rw [if_pos (by rw [e]), l100, pk_mul, nI_add, mA_n 42 _ (by simp only [mZ]; omega), Option.bind_some, if_pos e]
  · rw [if_neg (fun h => e ((nI_eq (by omega) (by omega)).mp h)), l100, l7, pk_mul, nI_add, pk_mul, nI_add, mA_n 54 _ (by simp only [mZ]; omega), Option.bind_some, if_neg e]
theorem c_isMerged (hs : Rs A n σ) (hv : Vok vw σ) (hr : r < n) (hT : Tb A n T q vw σ μ r b) {v0 : Nat} {L S : Int32} (hv0 : IsV σ v0 L S) {o : Nat} (ho : o < n) : f_X6_isMerged σ (A 6 r 0) (nI o) v0 = some (b1 (mgd μ r b L S o)) := by
  have h7 := hs.np
  have k6 := hs.k6 hr
  have k8 := hs.k8 hr
  rw [f_X6_isMerged, x_gR k6, hs.r6_14 hr, Option.bind_some, x_gO k8, Option.bind_some, c_turned hs hr hT (by omega), Option.bind_some]
  by_cases h : b.testBit o = true
  · obtain ⟨w, e1, e2⟩ := (hT.2.2.2.2 o ho h).1
    have hw : IsV σ w _ _ := hv w _ _ e2
    rw [if_neg (by rw [b1_0]; exact fun x => x h), Option.bind_some, x_gR k8, hs.r8_4 hr, Option.bind_some, e_aR (hs.k36 hr) (hs.z36 hr) ho (by omega) e1, Option.bind_some, x_gO hw.1, Option.bind_some, c_same hw hv0, Option.bind_some]
    unfold mgd b1
    by_cases h2 : μ.2 50 (7 * r + o) = L ∧ μ.2 51 (7 * r + o) = S
    · rw [if_pos h2, if_neg (by decide), if_pos ⟨h, h2⟩]
    · rw [if_neg h2, if_pos rfl, if_neg (fun x => h2 x.2)]
  · rw [if_pos (by rw [b1_0]; exact h)]
    unfold mgd b1
    rw [if_neg (fun x => h x.1)]
theorem c_later {v w : Nat} {L S L' S' : Int32} (hv : IsV σ v L S) (hw : IsV σ w L' S') : f_X9_isLater σ v w = some (b1 (lat L S L' S')) := by
  rw [f_X9_isLater, x_gI hv.1, Option.bind_some, x_gI hw.1, Option.bind_some, hv.2.2, hw.2.2]
  unfold lat b1
  by_cases h : S' < S
  · rw [if_pos h, if_pos (Or.inl h)]
  · rw [if_neg h]
    simp only [Option.bind_some]
    by_cases h2 : S = S'
    · rw [if_pos h2, x_gI hv.1, Option.bind_some, x_gI hw.1, Option.bind_some, hv.2.1, hw.2.1]
      by_cases h3 : L ≤ L'
      · rw [if_pos h3, if_neg (fun x => x.elim h (fun y => i_nle.mpr y.2 h3))]
      · rw [if_neg h3, if_pos (Or.inr ⟨h2, i_nle.mp h3⟩)]
    · rw [if_neg h2, if_neg (fun x => x.elim h (fun y => h2 y.1))]
/-- the best view: both sides -/
theorem mg_best (hs : Rs A n σ) (hv : Vok vw σ) (hr : r < n) (hT : Tb A n T q vw σ μ r b) (h1 : μ.1 1 = nI n) : ∀ d (F F' k v : Nat) (L S : Int32), d < F → d < F' → n = k + d → vw v = some (L, S) → ¬ lat (μ.2 36 r) (μ.2 37 r) L S → (∃ o, o < n ∧ mgP μ r b L S o) → ∃ v' L' S', vw v' = some (L', S') ∧ (∃ o, o < n ∧ mgP μ r b L' S' o) ∧ f_X6_mergeLogs_7 F σ (A 6 r 0) v (nI k) = f_X6_mergeLogs_58 σ (A 6 r 0) v' ∧ f_X12_merge_34 F' μ (nI r) L S (nI k) = f_X12_merge_109 μ (nI r) L' S' := by
  have h7 := hs.np
  have hr7 : r < 7 := by omega
  have k6 := hs.k6 hr
  have k8 := hs.k8 hr
  intro d
  induction d with
  | zero =>
    intro F F' k v L S hF hF' hn hvv hla hex
    obtain ⟨F, rfl⟩ : ∃ f, F = f + 1 := ⟨F - 1, by omega⟩
    obtain ⟨F', rfl⟩ : ∃ f, F' = f + 1 := ⟨F' - 1, by omega⟩
    have e1 : nI n ≤ nI k := (nI_leI (by omega) (by omega)).mpr (by omega)
    refine ⟨v, L, S, hvv, hex, ?_, ?_⟩
    · show b_X6_mergeLogs_7 (f_X6_mergeLogs_7 F) _ _ _ _ = _
      rw [b_X6_mergeLogs_7, x_gI k6, Option.bind_some, hs.i6_10 hr, if_pos e1]
    · show b_X12_merge_34 (f_X12_merge_34 F') _ _ _ _ _ = _
      rw [b_X12_merge_34, h1, if_pos e1]
  | succ d ih =>
    intro F F' k v L S hF hF' hn hvv hla hex
    obtain ⟨F, rfl⟩ : ∃ f, F = f + 1 := ⟨F - 1, by omega⟩
    obtain ⟨F', rfl⟩ : ∃ f, F' = f + 1 := ⟨F' - 1, by omega⟩
    have e1 : ¬ nI n ≤ nI k := fun e => by rw [nI_leI (by omega) (by omega)] at e; omega
    have hk : k < n := by omega
    have hk7 : k < 7 := by omega
    have c0 : f_X6_mergeLogs_7 (F + 1) σ (A 6 r 0) v (nI k) = if b1 (b.testBit k = true) = 0 then f_X6_mergeLogs_7 F σ (A 6 r 0) v (nI (k + 1)) else ((h_aR σ 19 (A 36 r 0) (nI k)).bind fun v34 => (h_gO σ 9 v34).bind fun _ => (f_X9_isLater σ v34 v).bind fun v36 => if v36 = 0 then f_X6_mergeLogs_7 F σ (A 6 r 0) v (nI (k + 1)) else ((h_aR σ 19 (A 36 r 0) (nI k)).bind fun v50 => f_X6_mergeLogs_7 F σ (A 6 r 0) v50 (nI (k + 1)))) := by
      show b_X6_mergeLogs_7 (f_X6_mergeLogs_7 F) _ _ _ _ = _
      rw [b_X6_mergeLogs_7, x_gI k6, Option.bind_some, hs.i6_10 hr, if_neg e1, x_gR k6, hs.r6_14 hr, Option.bind_some, x_gO k8, Option.bind_some, c_turned hs hr hT hk7, Option.bind_some]
      simp only [f_X6_mergeLogs_52, x_gR k8, hs.r8_4 hr, Option.bind_some, nI_1]
    have m0 : f_X12_merge_34 (F' + 1) μ (nI r) L S (nI k) = if b1 (k = r ∨ b.testBit k = true) = 0 then f_X12_merge_34 F' μ (nI r) L S (nI (k + 1)) else if nrm μ r k 37 51 < S then f_X12_merge_34 F' μ (nI r) L S (nI (k + 1)) else if nrm μ r k 37 51 = S then (if L < nrm μ r k 36 50 then f_X12_merge_34 F' μ (nI r) (nrm μ r k 36 50) (nrm μ r k 37 51) (nI (k + 1)) else f_X12_merge_34 F' μ (nI r) L S (nI (k + 1))) else f_X12_merge_34 F' μ (nI r) (nrm μ r k 36 50) (nrm μ r k 37 51) (nI (k + 1)) := by
      show b_X12_merge_34 (f_X12_merge_34 F') _ _ _ _ _ = _
      rw [b_X12_merge_34, h1, if_neg e1, m_isIn hr7 hT hk7, Option.bind_some, m_nL hr7 hk7, m_nS hr7 hk7]
      simp only [f_X12_merge_103, f_X12_merge_97, Option.bind_some, nI_1]
    by_cases hkr : k = r
    · have hbk : ¬ b.testBit k = true := by rw [hkr, hT.2.2.2.1]; decide
      obtain ⟨v', L', S', w1, w2, w3, w4⟩ := ih F F' (k + 1) v L S (by omega) (by omega) (by omega) hvv hla hex
      refine ⟨v', L', S', w1, w2, ?_, ?_⟩
      · rw [c0, if_pos (by rw [b1_0]; exact hbk)]
        exact w3
      · rw [m0, if_neg (by rw [b1_0]; exact fun x => x (Or.inl hkr)), ← w4]
        unfold lat at hla
        unfold nrm
        rw [if_pos hkr, if_pos hkr]
        by_cases h2 : μ.2 37 r < S
        · rw [if_pos h2]
        · rw [if_neg h2]
          have h3 : μ.2 37 r = S := by
            simp only [Int32.lt_iff_toInt_lt, ← Int32.toInt_inj] at *
            omega
          rw [if_pos h3, if_neg (fun x => hla (Or.inr ⟨h3, x⟩))]
    · by_cases hbk : b.testBit k = true
      · obtain ⟨w, e3, e4⟩ := (hT.2.2.2.2 k hk hbk).1
        have hw : IsV σ w _ _ := hv w _ _ e4
        have hn1 : nrm μ r k 36 50 = μ.2 50 (7 * r + k) := if_neg hkr
        have hn2 : nrm μ r k 37 51 = μ.2 51 (7 * r + k) := if_neg hkr
        have hP : mgP μ r b (μ.2 50 (7 * r + k)) (μ.2 51 (7 * r + k)) k := ⟨Or.inr hbk, hn1, hn2⟩
        rw [hn1, hn2, if_neg (by rw [b1_0]; exact fun x => x (Or.inr hbk))] at m0
        rw [if_neg (by rw [b1_0]; exact fun x => x hbk), e_aR (hs.k36 hr) (hs.z36 hr) hk (by omega) e3, Option.bind_some, x_gO hw.1, Option.bind_some, c_later hw (hv v L S hvv), Option.bind_some, Option.bind_some] at c0
        by_cases hl : lat (μ.2 50 (7 * r + k)) (μ.2 51 (7 * r + k)) L S
        · rw [if_neg (by rw [b1_0]; exact fun x => x hl)] at c0
          obtain ⟨v', L', S', w1, w2, w3, w4⟩ := ih F F' (k + 1) w _ _ (by omega) (by omega) (by omega) e4 (lat_tr hl hla) ⟨k, hk, hP⟩
          refine ⟨v', L', S', w1, w2, c0.trans w3, ?_⟩
          rw [m0, ← w4]
          unfold lat at hl
          rcases hl with hl | ⟨hl, hl2⟩
          · rw [if_neg (fun x => by rw [Int32.lt_iff_toInt_lt] at x hl; omega), if_neg (fun x => by rw [x] at hl; exact Int32.lt_irrefl hl)]
          · rw [if_neg (fun x => by rw [hl] at x; exact Int32.lt_irrefl x), if_pos hl, if_pos hl2]
        · rw [if_pos (by rw [b1_0]; exact hl)] at c0
          obtain ⟨v', L', S', w1, w2, w3, w4⟩ := ih F F' (k + 1) v L S (by omega) (by omega) (by omega) hvv hla hex
          refine ⟨v', L', S', w1, w2, c0.trans w3, ?_⟩
          rw [m0, ← w4]
          unfold lat at hl
          by_cases h2 : μ.2 51 (7 * r + k) < S
          · rw [if_pos h2]
          · rw [if_neg h2]
            have h3 : μ.2 51 (7 * r + k) = S := by
              simp only [Int32.lt_iff_toInt_lt, ← Int32.toInt_inj] at *
              omega
            rw [if_pos h3, if_neg (fun x => hl (Or.inr ⟨h3, x⟩))]
      · obtain ⟨v', L', S', w1, w2, w3, w4⟩ := ih F F' (k + 1) v L S (by omega) (by omega) (by omega) hvv hla hex
        refine ⟨v', L', S', w1, w2, ?_, ?_⟩
        · rw [c0, if_pos (by rw [b1_0]; exact hbk)]
          exact w3
        · rw [m0, if_pos (by rw [b1_0]; exact fun x => x.elim hkr hbk)]
          exact w4
end MRG
