/-! merging: the whole log -/
section MRF
variable {A : Ad} {n T q : Nat} {hb : Nat → Nat} {vw : Vw} {p u : Nat → Nat} {a r b s v0 : Nat} {L S : Int32} {σ σ' : Hp} {μ μ' : Mu}
theorem Tb.cg (hn : n ≤ 7) (hT : Tb A n T q vw σ μ r b) (hc : Ag A σ σ' (fun s i => i = r ∧ (s = 8 ∨ s = 36 ∨ s = 37 ∨ s = 39 ∨ s = 40))) (hm : AgM μ μ' (fun j _ => 49 ≤ j ∧ j ≤ 54)) : Tb A n T q vw σ' μ' r b := by
  obtain ⟨t1, t2, t3, t4, t5⟩ := hT
  have e : ∀ j i, 49 ≤ j → j ≤ 54 → μ'.2 j i = μ.2 j i := fun j i h1 h2 => hm j i ⟨h1, h2⟩
  refine ⟨by rw [(hc 8 r 0 (by omega)).1]; exact t1, by rw [e 49 r (by decide) (by decide)]; exact t2, t3, t4, fun o ho hbo => ?_⟩
  have e54 : rwM 100 μ' 54 (7 * r + o) = rwM 100 μ 54 (7 * r + o) := rwM_ag fun k hk => e 54 _ (by decide) (by decide)
  rw [(hc 36 r 0 (by omega)).2, (hc 37 r 0 (by omega)).1, (hc 39 r o (by omega)).1, (hc 40 r o (by omega)).1, e 50 _ (by decide) (by decide), e 51 _ (by decide) (by decide), e 52 _ (by decide) (by decide), e 53 _ (by decide) (by decide), e54]
  exact t5 o ho hbo
theorem nrm_cg {j j' o : Nat} (hm : AgM μ μ' (fun j _ => j ≠ 55)) (h1 : j ≠ 55) (h2 : j' ≠ 55) : nrm μ' r o j j' = nrm μ r o j j' := by
  unfold nrm
  rw [hm j r h1, hm j' _ h2]
theorem mgP_cg {o : Nat} (hm : AgM μ μ' (fun j _ => j ≠ 55)) : mgP μ' r b L S o ↔ mgP μ r b L S o := by
  unfold mgP
  rw [nrm_cg hm (by decide) (by decide), nrm_cg hm (by decide) (by decide)]
def mgI (A : Ad) (n T q : Nat) (vw : Vw) (μ0 : Mu) (r b v0 : Nat) (L S : Int32) (own s : Nat) (σ : Hp) (μ : Mu) : Prop := Rs A n σ ∧ Vok vw σ ∧ Tb A n T q vw σ μ r b ∧ IsV σ v0 L S ∧ AgM μ0 μ (fun j _ => j ≠ 55) ∧ μ.1 = μ0.1 ∧ oI σ (A 32 r 0) 1 = nI (if own < s then s else own) ∧ (∀ k, s ≤ k → k < own → oI σ (A 33 r 0) k = μ0.2 42 (100 * r + k)) ∧ ∀ k, k < s → oI σ (A 33 r 0) k = μ.2 55 k ∧ Sm q (μ.2 55 k)
theorem mg_fill (hr : r < n) (hn7 : n ≤ 7) {μ0 : Mu} (h1 : μ0.1 1 = nI n) {l0 : Nat} (h0 : μ0.2 38 r = nI l0) (hl0 : l0 ≤ 100) (h42 : ∀ k, k < l0 → Sm q (μ0.2 42 (100 * r + k))) (hq : q ≤ 64) {own : Nat} (ho1 : mgP μ0 r b L S r → own = l0) (ho0 : ¬ mgP μ0 r b L S r → own = 0) {m : Nat} (hm100 : m ≤ 100) (hom : own ≤ m) (hex : ∀ s, s < m → ∃ o l, o < n ∧ mgP μ0 r b L S o ∧ nrm μ0 r o 38 53 = nI l ∧ l ≤ 100 ∧ s < l) (x2 x3 x6 : Int32) : ∀ (d F F' s : Nat) (σ : Hp) (μ : Mu), d < F → d < F' → m = s + d → mgI A n T q vw μ0 r b v0 L S own s σ μ → ∃ σ' μ', mgI A n T q vw μ0 r b v0 L S own m σ' μ' ∧ f_X6_mergeLogs_145 F σ (A 6 r 0) v0 x2 x3 (nI m) (nI (s + 1)) = f_X6_mergeLogs_174 σ' (A 6 r 0) v0 x2 x3 (nI m) ∧ f_X12_merge_261 F' μ (nI r) L S (nI m) x6 (nI s) = f_X12_merge_290 μ' (nI r) S (nI m) x6 ∧ Ag A σ σ' (fun s i => ¬ (i = r ∧ (s = 32 ∨ s = 33))) := by
  intro d
  induction d with
  | zero =>
    intro F F' s σ μ hF hF' hn hI
    obtain ⟨F, rfl⟩ : ∃ f, F = f + 1 := ⟨F - 1, by omega⟩
    obtain ⟨F', rfl⟩ : ∃ f, F' = f + 1 := ⟨F' - 1, by omega⟩
    have e2 : s = m := by omega
    refine ⟨σ, μ, by rw [e2] at hI; exact hI, ?_, ?_, Ag.rf⟩
    · show b_X6_mergeLogs_145 (f_X6_mergeLogs_145 F) _ _ _ _ _ _ _ = _
      rw [b_X6_mergeLogs_145, if_pos ((nI_ltI (by omega) (by omega)).mpr (by omega))]
    · show b_X12_merge_261 (f_X12_merge_261 F') _ _ _ _ _ _ _ = _
      rw [b_X12_merge_261, if_pos ((nI_leI (by omega) (by omega)).mpr (by omega))]
  | succ d ih =>
    intro F F' s σ μ hF hF' hn hI
    obtain ⟨F, rfl⟩ : ∃ f, F = f + 1 := ⟨F - 1, by omega⟩
    obtain ⟨F', rfl⟩ : ∃ f, F' = f + 1 := ⟨F' - 1, by omega⟩
    obtain ⟨hs, hv, hT, hv0, hm, hm1, i1, i2, i3⟩ := hI
    have hi := hs.inj
    have hII := hs.1
    have hr7 : r < 7 := by omega
    have hs100 : s < 100 := by omega
    have k6 := hs.k6 hr
    have k32 := hs.k32 hr
    have k33 := hs.k33 hr
    have z33 := hs.z33 hr
    have r32 := hs.r32_0 hr
    have n32 : oK σ (A 32 r 0) ≠ 9 := by rw [k32]; decide
    have n33 : oK σ (A 33 r 0) ≠ 9 := by rw [k33]; decide
    have hP : mgP μ r b L S r ↔ mgP μ0 r b L S r := mgP_cg hm
    have hown : mgP μ r b L S r ∧ s < l0 ↔ s < own := by
      rw [hP]
      by_cases c : mgP μ0 r b L S r
      · rw [ho1 c]; exact ⟨fun h => h.2, fun h => ⟨c, h⟩⟩
      · have := ho0 c
        exact ⟨fun h => absurd h.1 c, fun h => by omega⟩
    have hlen : oI σ (A 32 r 0) 1 = nI (if own < s then s else own) := i1
    have hlb : (if own < s then s else own) ≤ 100 := by split <;> omega
    have hh : f_X4_has σ (A 32 r 0) (nI (s + 1)) = some (b1 (mgP μ r b L S r ∧ s < l0)) := by
      rw [f_X4_has, if_neg (by rw [l1, nI_ltI (by omega) (by omega)]; omega), x_gI k32, Option.bind_some, hlen]
      unfold b1
      by_cases c : mgP μ r b L S r ∧ s < l0
      · have h3 := hown.mp c
        rw [if_pos c, if_neg (by rw [nI_ltI (by omega) (by omega), if_neg (by omega)]; omega)]
      · have h3 : ¬ s < own := fun h => c (hown.mpr h)
        rw [if_neg c, if_pos (by rw [nI_ltI (by omega) (by omega)]; split <;> omega)]
    have ha : f_X4_at σ (A 32 r 0) (nI (s + 1)) = some (if mgP μ r b L S r ∧ s < l0 then μ.2 42 (100 * r + s) else 0) := by
      by_cases c : mgP μ r b L S r ∧ s < l0
      · have h3 := hown.mp c
        rw [if_pos c, c_lat k32 r32 k33 z33 hlen (by rw [if_neg (by omega)]; exact h3) hlb, i2 s (Nat.le_refl _) h3, hm 42 _ (show (42 : Nat) ≠ 55 by decide)]
      · have h3 : ¬ s < own := fun h => c (hown.mpr h)
        rw [if_neg c, f_X4_at, if_neg (by rw [l1, nI_ltI (by omega) (by omega)]; omega), x_gI k32, Option.bind_some, hlen, if_pos (by rw [nI_ltI (by omega) (by omega)]; split <;> omega)]
    obtain ⟨o, l, g1, g2, g3, g4, g5⟩ := hex s (by omega)
    obtain ⟨x, w1, w2, w3⟩ := me_val hs hv hr hT hv0 (by rw [hm1]; exact h1) (l0 := l0) (by rw [hm 38 r (show (38 : Nat) ≠ 55 by decide)]; exact h0) hl0 (fun h => by rw [hm 42 _ (show (42 : Nat) ≠ 55 by decide)]; exact h42 s h) hs100 (by omega) ⟨o, l, g1, (mgP_cg hm).mpr g2, by rw [nrm_cg hm (by decide) (by decide)]; exact g3, g4, g5⟩ hh ha
    have e1 : ¬ nI (s + 1) < (1 : Int32) := by rw [l1, nI_ltI (by omega) (by omega)]; omega
    have e2 : ¬ (100 : Int32) < nI (s + 1) := by rw [l100, nI_ltI (by omega) (by omega)]; omega
    have e3 : nI (s + 1) ≤ nI (if own < s then s else own) + 1 := by rw [nI_1, nI_leI (by omega) (by omega)]; split <;> omega
    have e4 : nI (s + 1) - (1 : Int32) = nI s := nI_pred s
    have e5 : f_J9_max_7cf53 (nI (if own < s then s else own)) (nI (s + 1)) = some (nI (if own < s + 1 then s + 1 else own)) := by
      unfold f_J9_max_7cf53
      by_cases c : own < s + 1
      · rw [if_pos c, if_pos (by rw [nI_ltI (by omega) (by omega)]; split <;> omega)]
      · rw [if_neg c, if_neg (by rw [nI_ltI (by omega) (by omega), if_neg (by omega)]; omega), if_neg (by omega)]
    have hput : f_X4_put σ (A 32 r 0) (nI (s + 1)) x = some (sI (sI σ (A 33 r 0) s x) (A 32 r 0) 1 (nI (if own < s + 1 then s + 1 else own))) := by
      rw [f_X4_put, if_neg e1, if_neg e2, x_gI k32, Option.bind_some, hlen, if_pos e3, x_gR k32, r32, Option.bind_some, e4, e_qI k33 z33 hs100 (by decide), Option.bind_some, x_gI (show oK (sI σ (A 33 r 0) s x) (A 32 r 0) = 4 from k32), Option.bind_some]
      have e6 : oI (sI σ (A 33 r 0) s x) (A 32 r 0) 1 = nI (if own < s then s else own) := by
        simp only [oK_sI, oK_sR, oK_sC, oZ_sI, oZ_sR, oZ_sC, xI_sI, oI_sR, xI_sC, oR_sI, xR_sR, oR_sC, Option.bind_some, if_true, if_false, Nat.reduceEqDiff, true_and, and_true, false_and, and_false, hi]
        exact hlen
      rw [e6, e5, Option.bind_some, x_pI (show oK (sI σ (A 33 r 0) s x) (A 32 r 0) = 4 from k32), Option.bind_some]
    have hag : Ag A σ (sI (sI σ (A 33 r 0) s x) (A 32 r 0) 1 (nI (if own < s + 1 then s + 1 else own))) (fun s i => ¬ (i = r ∧ (s = 32 ∨ s = 33))) := ((Ag.sI hII).tr (Ag.sI hII)).wk (fun s i h => by omega)
    have hmm : AgM μ (mT μ 55 s x) (fun j _ => j ≠ 55) := AgM.mT.wk fun j i h => by omega
    have hI' : mgI A n T q vw μ0 r b v0 L S own (s + 1) (sI (sI σ (A 33 r 0) s x) (A 32 r 0) 1 (nI (if own < s + 1 then s + 1 else own))) (mT μ 55 s x) := by
      refine ⟨(hs.sI rfl).sI rfl, (hv.sI n33).sI n32, hT.cg hn7 (hag.wk fun s i h => by omega) (hmm.wk fun j i h => by omega), (hv0.sI n33).sI n32, (hm.tr hmm).wk fun j i h => ⟨h, h⟩, hm1, ?_, fun k hk hk2 => ?_, fun k hk => ?_⟩
      · simp only [oK_sI, oK_sR, oK_sC, oZ_sI, oZ_sR, oZ_sC, xI_sI, oI_sR, xI_sC, oR_sI, xR_sR, oR_sC, Option.bind_some, if_true, if_false, Nat.reduceEqDiff, true_and, and_true, false_and, and_false, hi]
      · have : ¬ k = s := by omega
        simp only [oK_sI, oK_sR, oK_sC, oZ_sI, oZ_sR, oZ_sC, xI_sI, oI_sR, xI_sC, oR_sI, xR_sR, oR_sC, Option.bind_some, if_true, if_false, Nat.reduceEqDiff, true_and, and_true, false_and, and_false, hi, this]
        exact i2 k (by omega) hk2
      · simp only [oK_sI, oK_sR, oK_sC, oZ_sI, oZ_sR, oZ_sC, xI_sI, oI_sR, xI_sC, oR_sI, xR_sR, oR_sC, Option.bind_some, if_true, if_false, Nat.reduceEqDiff, true_and, and_true, false_and, and_false, m_P, mT_2, mT_1, mS_1, mS_2, Option.bind_some, Nat.reduceEqDiff, if_true, if_false, true_and, and_true, false_and, and_false, hi]
        by_cases c : k = s
        · rw [if_pos c, if_pos c]
          exact ⟨rfl, w1⟩
        · rw [if_neg c, if_neg c]
          exact i3 k (by omega)
    obtain ⟨σ', μ', y1, y2, y3, y4⟩ := ih F F' (s + 1) _ _ (by omega) (by omega) (by omega) hI'
    refine ⟨σ', μ', y1, ?_, ?_, (hag.tr y4).wk fun s i h => ⟨h, h⟩⟩
    · show b_X6_mergeLogs_145 (f_X6_mergeLogs_145 F) _ _ _ _ _ _ _ = _
      rw [b_X6_mergeLogs_145, if_neg (by rw [nI_ltI (by omega) (by omega)]; omega), x_gR k6, hs.r6_0 hr, Option.bind_some, x_gO k6, Option.bind_some, w2, Option.bind_some, x_gO k32, Option.bind_some, hput, Option.bind_some, nI_1]
      exact y2
    · show b_X12_merge_261 (f_X12_merge_261 F') _ _ _ _ _ _ _ = _
      rw [b_X12_merge_261, if_neg (by rw [nI_leI (by omega) (by omega)]; omega), w3, Option.bind_some, mQ_n 55 s _ hs100, Option.bind_some, nI_1]
      exact y3
theorem m_merge293 (x1 : Nat) (h2 : x1 < 7) (x3 x6 : Int32) : ∀ d (F : Nat) (μ : Mu) (k l : Nat), d < F → l = k + d → l ≤ 100 → f_X12_merge_293 F μ (nI x1) x3 (nI l) x6 (nI k) = f_X12_merge_325 (cpM μ 55 k 42 (100 * x1 + k) d) (nI x1) x3 (nI l) x6 := by
  intro d
  induction d with
  | zero =>
    intro F μ k l hF hl h100
    obtain ⟨F, rfl⟩ : ∃ f, F = f + 1 := ⟨F - 1, by omega⟩
    show b_X12_merge_293 (f_X12_merge_293 F) μ _ _ _ _ _ = _
    have e1 : nI l ≤ nI k := (nI_leI (by omega) (by omega)).mpr (by omega)
    rw [b_X12_merge_293, if_pos e1, cpM_0]
  | succ d ih =>
    intro F μ k l hF hl h100
    obtain ⟨F, rfl⟩ : ∃ f, F = f + 1 := ⟨F - 1, by omega⟩
    show b_X12_merge_293 (f_X12_merge_293 F) μ _ _ _ _ _ = _
    have e1 : ¬ nI l ≤ nI k := fun e => by rw [nI_leI (by omega) (by omega)] at e; omega
    rw [b_X12_merge_293, if_neg e1, mA_n 55 _ (by simp only [mZ]; omega), Option.bind_some, l100, pk_mul, nI_add, mQ_n 42 _ _ (by simp only [mZ]; omega), Option.bind_some, l1, nI_add]
    rw [ih F _ (k + 1) l (by omega) (by omega) h100, ← cpM_s μ d (by decide)]
    rfl
end MRF
