/-! merging: all of it -/
section MRA
variable {A : Ad} {n T q : Nat} {hb : Nat → Nat} {vw : Vw} {p u : Nat → Nat} {a r b s v0 : Nat} {L S : Int32} {σ σ' : Hp} {μ μ' : Mu}
/-- the base and the length, behind the log's entries -/
theorem mg_end (hr : r < n) (hn7 : n ≤ 7) (hs : Rs A n σ') (hT : Tb A n T q vw σ' μ' r b) (hv0 : IsV σ' v0 L S) (h4 : ∃ v l, oR σ' (A 6 r 0) 4 = some v ∧ IsV σ' v l (μ'.2 34 r)) (h6 : oI σ' (A 6 r 0) 6 = μ'.2 39 r) {m : Nat} {x3 x6 : Int32} (hx : (mgP μ' r b L S r → x6 = μ'.2 39 r) ∧ (¬ mgP μ' r b L S r → ∃ o, o < n ∧ x3 = nI o ∧ mgd μ' r b L S o ∧ x6 = μ'.2 52 (7 * r + o))) : ∃ B σ2, f_X6_mergeLogs_174 σ' (A 6 r 0) v0 (b1 (mgP μ' r b L S r)) x3 (nI m) = some σ2 ∧ (σ2 = sI σ' (A 6 r 0) 6 B ∨ (σ2 = σ' ∧ B = μ'.2 39 r)) ∧ f_X12_merge_325 μ' (nI r) S (nI m) x6 = (f_X12_settle (mT (mT μ' 38 r (nI m)) 39 r B) (nI r)).bind (fun v358 => f_X12_merge_364 lf v358 (nI r) (nI m) 0) := by
  have hr7 : r < 7 := by omega
  have k6 := hs.k6 hr
  have k8 := hs.k8 hr
  obtain ⟨v, l, e1, e2⟩ := h4
  have hm : f_X12_merge_325 μ' (nI r) S (nI m) x6 = (f_X12_settle (mT (mT μ' 38 r (nI m)) 39 r (if S = μ'.2 34 r then x6 else nI m)) (nI r)).bind (fun v358 => f_X12_merge_364 lf v358 (nI r) (nI m) 0) := by
    have e34 : (mT μ' 38 r (nI m)).2 34 r = μ'.2 34 r := by simp only [m_P, mT_2, mT_1, mS_1, mS_2, Option.bind_some, Nat.reduceEqDiff, if_true, if_false, true_and, and_true, false_and, and_false]
    rw [f_X12_merge_325, mQ_n 38 r _ hr7, Option.bind_some, mA_n 34 r hr7, Option.bind_some, e34]
    by_cases c : S = μ'.2 34 r
    · rw [if_pos c, if_pos c, f_X12_merge_355, mQ_n 39 r _ hr7, Option.bind_some]
    · rw [if_neg c, if_neg c, f_X12_merge_355, mQ_n 39 r _ hr7, Option.bind_some]
  rw [hm, f_X6_mergeLogs_174, x_gI hv0.1, Option.bind_some, x_gR k6, e1, Option.bind_some, x_gI e2.1, Option.bind_some, hv0.2.2, e2.2.2]
  by_cases c : S = μ'.2 34 r
  · rw [if_pos c, if_pos c]
    by_cases hP : mgP μ' r b L S r
    · rw [if_neg (by rw [b1_0]; exact fun x => x hP), hx.1 hP]
      exact ⟨_, _, rfl, Or.inr ⟨rfl, rfl⟩, rfl⟩
    · obtain ⟨o, g1, g2, g3, g4⟩ := hx.2 hP
      rw [if_pos (by rw [b1_0]; exact hP), g2, if_neg (nI_m1 (by omega)), x_gR k6, hs.r6_14 hr, Option.bind_some, x_gR k8, hs.r8_5 hr, Option.bind_some, e_aI (hs.k37 hr) (hs.z37 hr) g1 (by omega), Option.bind_some, x_pI k6, Option.bind_some, (hT.2.2.2.2 o g1 g3.1).2.2.1, g4]
      exact ⟨_, _, rfl, Or.inl rfl, rfl⟩
  · rw [if_neg c, if_neg c, x_pI k6, Option.bind_some]
    exact ⟨_, _, rfl, Or.inl rfl, rfl⟩
theorem mg_all (hR : RR A n T q h8 vw p u a 0 σ μ) (hr : r < n) (hT : Tb A n T q vw σ μ r b) : ∃ σ' μ' m, f_X6_mergeLogs σ (A 6 r 0) = some σ' ∧ f_X12_merge_34 lf μ (nI r) (μ.2 36 r) (μ.2 37 r) 0 = (f_X12_settle μ' (nI r)).bind (fun v358 => f_X12_merge_364 lf v358 (nI r) (nI m) 0) ∧ μ'.2 38 r = nI m ∧ Rs A n σ' ∧ Vok vw σ' ∧ Ag A σ σ' (fun s i => ¬ (i = r ∧ (s = 32 ∨ s = 33 ∨ s = 6))) ∧ oR σ' (A 6 r 0) = oR σ (A 6 r 0) ∧ (∀ k, k ≠ 6 → oI σ' (A 6 r 0) k = oI σ (A 6 r 0) k) ∧ oI σ' (A 6 r 0) 6 = μ'.2 39 r ∧ AgM μ μ' (fun j i => ¬ (i = r ∧ (j = 38 ∨ j = 39)) ∧ ¬ (j = 42 ∧ 100 * r ≤ i ∧ i < 100 * r + 100) ∧ j ≠ 55) ∧ μ'.1 = μ.1 ∧ RrL A q σ' μ' r := by
  have hs := hR.1
  have hv := hR.2.1
  have h7 := hs.np
  have hi := hs.inj
  have hII := hs.1
  have hr7 : r < 7 := by omega
  have k6 := hs.k6 hr
  have k32 := hs.k32 hr
  have n32 : oK σ (A 32 r 0) ≠ 9 := by rw [k32]; decide
  have n6 : oK σ (A 6 r 0) ≠ 9 := by rw [k6]; decide
  have h1 : μ.1 1 = nI n := hR.2.2.1.2.2.2.2.1
  have hq : q ≤ 64 := hR.2.2.2.2.2.2.2.2.1
  obtain ⟨⟨⟨a1, a2⟩, ⟨a3, a4⟩, ⟨⟨v4, a5, a5'⟩, -⟩, ⟨⟨v5, a6, a6'⟩, -⟩, a7, a8, a9⟩, ⟨l0, q1, q2, q3, q4⟩, -, -⟩ := (hR.2.2.2.2.2.1 r hr).sp
  have h42 : ∀ k, k < l0 → oI σ (A 33 r 0) k = μ.2 42 (100 * r + k) ∧ Sm q (μ.2 42 (100 * r + k)) := fun k hk => by
    have := q4 k hk
    rw [rwM_at (by omega)] at this
    exact this
  have hlf : n < lf := by unfold lf; omega
  obtain ⟨v', L', S', w1, ⟨ob, w2, w2'⟩, w3, w4⟩ := mg_best hs hv hr hT h1 n lf lf 0 v5 _ _ hlf hlf (by omega) a6' (fun h => by unfold lat at h; rcases h with h | h; exact Int32.lt_irrefl h; exact Int32.lt_irrefl h.2) ⟨r, hr, Or.inl rfl, if_pos rfl, if_pos rfl⟩
  have hv' : IsV σ v' L' S' := hv v' _ _ w1
  have hv5 : IsV σ v5 _ _ := hv v5 _ _ a6'
  have hPP : mgP μ r b L' S' r ↔ (μ.2 36 r = L' ∧ μ.2 37 r = S') := by
    unfold mgP nrm
    rw [if_pos rfl, if_pos rfl]
    exact ⟨fun h => h.2, fun h => ⟨Or.inl rfl, h⟩⟩
  have hb1 : b1 (μ.2 36 r = L' ∧ μ.2 37 r = S') = b1 (mgP μ r b L' S' r) := by
    unfold b1
    by_cases c : mgP μ r b L' S' r
    · rw [if_pos c, if_pos (hPP.mp c)]
    · rw [if_neg c, if_neg (fun h => c (hPP.mpr h))]
  -- the log is emptied, if it is not of the best
  obtain ⟨own, σ0, ho1, ho0, hown, s0, s0v, s0T, s0V, s0a, s0l, s0e, c58⟩ : ∃ (own : Nat) (σ0 : Hp), (mgP μ r b L' S' r → own = l0) ∧ (¬ mgP μ r b L' S' r → own = 0) ∧ own ≤ l0 ∧ Rs A n σ0 ∧ Vok vw σ0 ∧ Tb A n T q vw σ0 μ r b ∧ IsV σ0 v' L' S' ∧ Ag A σ σ0 (fun s i => ¬ (i = r ∧ (s = 32 ∨ s = 33))) ∧ oI σ0 (A 32 r 0) 1 = nI own ∧ oI σ0 (A 33 r 0) = oI σ (A 33 r 0) ∧ f_X6_mergeLogs_58 σ (A 6 r 0) v' = f_X6_mergeLogs_79 σ0 (A 6 r 0) v' (b1 (mgP μ r b L' S' r)) := by
    have hc : f_X6_mergeLogs_58 σ (A 6 r 0) v' = if b1 (mgP μ r b L' S' r) = 0 then f_X6_mergeLogs_79 (sI σ (A 32 r 0) 1 0) (A 6 r 0) v' (b1 (mgP μ r b L' S' r)) else f_X6_mergeLogs_79 σ (A 6 r 0) v' (b1 (mgP μ r b L' S' r)) := by
      rw [f_X6_mergeLogs_58, x_gR k6, a6, Option.bind_some, x_gO hv5.1, Option.bind_some, c_same hv5 hv', Option.bind_some, hb1, x_gR k6, hs.r6_0 hr, Option.bind_some, x_pI k32, Option.bind_some]
    by_cases c : mgP μ r b L' S' r
    · rw [if_neg (by rw [b1_0]; exact fun x => x c)] at hc
      exact ⟨l0, σ, fun _ => rfl, fun h => absurd c h, Nat.le_refl _, hs, hv, hT, hv', Ag.rf, q3, rfl, hc⟩
    · rw [if_pos (by rw [b1_0]; exact c)] at hc
      have hag : Ag A σ (sI σ (A 32 r 0) 1 0) (fun s i => ¬ (i = r ∧ (s = 32 ∨ s = 33))) := (Ag.sI hII).wk fun s i h => by omega
      refine ⟨0, _, fun h => absurd h c, fun _ => rfl, Nat.zero_le _, hs.sI rfl, hv.sI n32, hT.cg h7.2 (hag.wk fun s i h => by omega) AgM.rf, hv'.sI n32, hag, ?_, ?_, hc⟩
      · simp only [oK_sI, oK_sR, oK_sC, oZ_sI, oZ_sR, oZ_sC, xI_sI, oI_sR, xI_sC, oR_sI, xR_sR, oR_sC, Option.bind_some, if_true, if_false, Nat.reduceEqDiff, true_and, and_true, false_and, and_false, hi]
        rfl
      · funext k
        simp only [oK_sI, oK_sR, oK_sC, oZ_sI, oZ_sR, oZ_sC, xI_sI, oI_sR, xI_sC, oR_sI, xR_sR, oR_sC, Option.bind_some, if_true, if_false, Nat.reduceEqDiff, true_and, and_true, false_and, and_false, hi]
  have k6' := s0.k6 hr
  have k32' := s0.k32 hr
  obtain ⟨x3, m, y1, y2⟩ := mg_c98 s0 s0v hr s0T s0V (b1 (mgP μ r b L' S' r)) n lf own (-1) hlf (Nat.le_refl _) ⟨Nat.le_refl _, by omega, Or.inl rfl, fun o h1 h2 => by omega, Or.inl ⟨rfl, fun o h1 h2 => by omega⟩⟩
  obtain ⟨x5, m', y3, y4⟩ := mg_m118 (L := L') (S := S') hr h7.2 hT h1 q2 q1 n lf 0 0 (-1) hlf (by omega) ⟨Nat.le_refl _, by omega, Or.inl rfl, fun o h1 h2 => by omega, Or.inl ⟨rfl, fun o h1 h2 => by omega⟩⟩
  obtain ⟨hmm, hxx⟩ := mx_eq h7.2 y1 y3 hr hT.2.2.2.1 q2 q1 ho1 ho0
  subst hmm
  have hm100 : m ≤ 100 := y1.2.1
  have hom : own ≤ m := y1.1
  -- every slot has an entry
  have hex : ∀ s, s < m → ∃ o l, o < n ∧ mgP μ r b L' S' o ∧ nrm μ r o 38 53 = nI l ∧ l ≤ 100 ∧ s < l := fun s hsm => by
    rcases y3.2.2.1 with h | ⟨o, g1, g2, g3, g4⟩
    · omega
    · exact ⟨o, m, g2, g3, g4, hm100, hsm⟩
  obtain ⟨x6, c206, hx6⟩ : ∃ x6, f_X12_merge_206 μ (nI r) L' S' (nI m) x5 = f_X12_merge_261 lf μ (nI r) L' S' (nI m) x6 (nI 0) ∧ ((mgP μ r b L' S' r → x6 = μ.2 39 r) ∧ (¬ mgP μ r b L' S' r → ∃ o, o < n ∧ x3 = nI o ∧ mgd μ r b L' S' o ∧ x6 = μ.2 52 (7 * r + o))) := by
    by_cases c : mgP μ r b L' S' r
    · refine ⟨μ.2 39 r, ?_, fun _ => rfl, fun h => absurd c h⟩
      rw [f_X12_merge_206, mA_n 36 r hr7, Option.bind_some, if_pos (hPP.mp c).1, mA_n 37 r hr7, Option.bind_some, if_pos (hPP.mp c).2, f_X12_merge_229, if_pos rfl, mA_n 39 r hr7, Option.bind_some]
      rfl
    · obtain ⟨h3, h4⟩ := hxx c
      rcases h4 with ⟨-, h4⟩ | ⟨o, g1, g2, g3⟩
      · exact absurd w2' (h4 ob w2)
      · have hor : o ≠ r := fun e => by
          have := g3.1
          rw [e, hT.2.2.2.1] at this
          exact absurd this (by decide)
        refine ⟨μ.2 52 (7 * r + o), ?_, fun h => absurd h c, fun _ => ⟨o, g1, g2, g3, rfl⟩⟩
        have h229 : f_X12_merge_229 μ (nI r) L' S' (nI m) x5 = f_X12_merge_261 lf μ (nI r) L' S' (nI m) (μ.2 52 (7 * r + o)) (nI 0) := by
          rw [← h3, g2, f_X12_merge_229, if_neg (fun h => hor ((nI_eq (by omega) (by omega)).mp h)), l7, pk_mul, nI_add, mA_n 52 _ (by simp only [mZ]; omega), Option.bind_some]
          rfl
        rw [f_X12_merge_206, mA_n 36 r hr7, Option.bind_some]
        by_cases c1 : μ.2 36 r = L'
        · rw [if_pos c1, mA_n 37 r hr7, Option.bind_some, if_neg (fun h => c (hPP.mpr ⟨c1, h⟩))]
          exact h229
        · rw [if_neg c1]
          exact h229
  obtain ⟨σ1, μ1, ⟨f1, f2, f3, f4, f5, f6, f7, f8, f9⟩, z1, z2, z3⟩ := mg_fill hr h7.2 h1 q2 q1 (fun k hk => (h42 k hk).2) hq ho1 ho0 hm100 hom hex (b1 (mgP μ r b L' S' r)) x3 x6 m lf lf 0 σ0 μ (by unfold lf; omega) (by unfold lf; omega) (by omega) ⟨s0, s0v, s0T, s0V, AgM.rf, rfl, by rw [s0l]; rfl, fun k _ hk => by rw [s0e]; exact (h42 k (by omega)).1, fun k hk => by omega⟩
  -- the reference copies
  have hcp : AgM μ1 (cpM μ1 55 0 42 (100 * r + 0) m) (fun j i => ¬ (j = 42 ∧ 100 * r + 0 ≤ i ∧ i < 100 * r + 0 + m)) := cpM_ag _ _ _ _ _ _
  have hag1 : Ag A σ σ1 (fun s i => ¬ (i = r ∧ (s = 32 ∨ s = 33))) := (s0a.tr z3).wk fun s i h => ⟨h, h⟩
  have hagm : AgM μ (cpM μ1 55 0 42 (100 * r + 0) m) (fun j i => ¬ (j = 42 ∧ 100 * r ≤ i ∧ i < 100 * r + 100) ∧ j ≠ 55) := (f5.tr hcp).wk fun j i h => by constructor <;> omega
  have hT1 : Tb A n T q vw σ1 (cpM μ1 55 0 42 (100 * r + 0) m) r b := f3.cg h7.2 Ag.rf (hcp.wk fun j i h => by omega)
  have e39 : (cpM μ1 55 0 42 (100 * r + 0) m).2 39 r = μ.2 39 r := hagm 39 r (by constructor <;> omega)
  have e34 : (cpM μ1 55 0 42 (100 * r + 0) m).2 34 r = μ.2 34 r := hagm 34 r (by constructor <;> omega)
  have e6 := hag1 6 r 0 (by omega)
  have hPe : ∀ o, mgP (cpM μ1 55 0 42 (100 * r + 0) m) r b L' S' o ↔ mgP μ r b L' S' o := fun o => by
    unfold mgP nrm
    rw [hagm 36 _ (by constructor <;> omega), hagm 37 _ (by constructor <;> omega), hagm 50 _ (by constructor <;> omega), hagm 51 _ (by constructor <;> omega)]
  have hDe : ∀ o, mgd (cpM μ1 55 0 42 (100 * r + 0) m) r b L' S' o ↔ mgd μ r b L' S' o := fun o => by
    unfold mgd
    rw [hagm 50 _ (by constructor <;> omega), hagm 51 _ (by constructor <;> omega)]
  have hbe : b1 (mgP (cpM μ1 55 0 42 (100 * r + 0) m) r b L' S' r) = b1 (mgP μ r b L' S' r) := by
    unfold b1
    by_cases c : mgP μ r b L' S' r
    · rw [if_pos c, if_pos ((hPe r).mpr c)]
    · rw [if_neg c, if_neg (fun h => c ((hPe r).mp h))]
  obtain ⟨B, σ2, g1, g2, g3⟩ := mg_end (m := m) (x3 := x3) (x6 := x6) hr h7.2 f1 hT1 f4 ⟨v4, _, by rw [e6.2]; exact a5, by rw [e34]; exact f2 _ _ _ a5'⟩ (by rw [e6.1, e39]; exact a7) ⟨fun h => by rw [e39]; exact hx6.1 ((hPe r).mp h), fun h => by
    obtain ⟨o, d1, d2, d3, d4⟩ := hx6.2 (fun h2 => h ((hPe r).mpr h2))
    exact ⟨o, d1, d2, (hDe o).mpr d3, by rw [hagm 52 _ (by constructor <;> omega)]; exact d4⟩⟩
  have hf33 : ∀ k, k < m → oI σ1 (A 33 r 0) k = μ1.2 55 k ∧ Sm q (μ1.2 55 k) := f9
  have hag2 : Ag A σ1 σ2 (fun s i => ¬ (i = r ∧ s = 6)) := by
    rcases g2 with g2 | ⟨g2, -⟩
    · rw [g2]; exact (Ag.sI f1.1).wk fun s i h => by omega
    · rw [g2]; exact Ag.rf
  have s2 : Rs A n σ2 := by
    rcases g2 with g2 | ⟨g2, -⟩
    · rw [g2]; exact f1.sI rfl
    · rw [g2]; exact f1
  have v2 : Vok vw σ2 := by
    rcases g2 with g2 | ⟨g2, -⟩
    · rw [g2]; exact f2.sI (by rw [f1.k6 hr]; decide)
    · rw [g2]; exact f2
  have r2 : oR σ2 (A 6 r 0) = oR σ (A 6 r 0) := by
    rcases g2 with g2 | ⟨g2, -⟩
    · rw [g2]; exact e6.2
    · rw [g2]; exact e6.2
  have i2 : ∀ k, k ≠ 6 → oI σ2 (A 6 r 0) k = oI σ (A 6 r 0) k := fun k hk => by
    rcases g2 with g2 | ⟨g2, -⟩
    · rw [g2, oI_sI]
      unfold up2
      rw [if_neg (fun h => hk h.2), e6.1]
    · rw [g2, e6.1]
  have i6 : oI σ2 (A 6 r 0) 6 = B := by
    rcases g2 with g2 | ⟨g2, g2'⟩
    · rw [g2]
      simp only [oK_sI, oK_sR, oK_sC, oZ_sI, oZ_sR, oZ_sC, xI_sI, oI_sR, xI_sC, oR_sI, xR_sR, oR_sC, Option.bind_some, if_true, if_false, Nat.reduceEqDiff, true_and, and_true, false_and, and_false]
    · rw [g2, g2', e6.1, e39]; exact a7
  refine ⟨σ2, mT (mT (cpM μ1 55 0 42 (100 * r + 0) m) 38 r (nI m)) 39 r B, m, ?_, ?_, ?_, s2, v2, (hag1.tr hag2).wk fun s i h => by constructor <;> omega, r2, i2, ?_, ?_, f6, m, hm100, ?_, ?_, fun k hk => ?_⟩
  · have e32 : f_X6_mergeLogs_79 σ0 (A 6 r 0) v' (b1 (mgP μ r b L' S' r)) = f_X6_mergeLogs_98 lf σ0 (A 6 r 0) v' (b1 (mgP μ r b L' S' r)) (-1) (nI own) (nI n - 1) := by
      rw [f_X6_mergeLogs_79, x_gR k6', s0.r6_0 hr, Option.bind_some, x_gI k32', Option.bind_some, s0l, x_gI k6', Option.bind_some, s0.i6_10 hr]
    have e142 : f_X6_mergeLogs_142 σ0 (A 6 r 0) v' (b1 (mgP μ r b L' S' r)) x3 (nI m) = f_X6_mergeLogs_145 lf σ0 (A 6 r 0) v' (b1 (mgP μ r b L' S' r)) x3 (nI m) (nI (0 + 1)) := rfl
    rw [f_X6_mergeLogs, x_gR k6, a6, Option.bind_some]
    refine (show f_X6_mergeLogs_7 lf σ (A 6 r 0) v5 0 = _ from w3).trans ?_
    rw [c58, e32, y2, e142, z1, ← hbe]
    exact g1
  · refine (show f_X12_merge_34 lf μ (nI r) (μ.2 36 r) (μ.2 37 r) 0 = _ from w4).trans ?_
    refine (show f_X12_merge_109 μ (nI r) L' S' = f_X12_merge_206 μ (nI r) L' S' (nI m) x5 from y4).trans ?_
    rw [c206, z2, f_X12_merge_290, show (0 : Int32) = nI 0 from rfl, m_merge293 r hr7 S' x6 m lf μ1 0 m (by unfold lf; omega) (by omega) hm100]
    exact g3
  · simp only [m_P, mT_2, mT_1, mS_1, mS_2, Option.bind_some, Nat.reduceEqDiff, if_true, if_false, true_and, and_true, false_and, and_false]
  · rw [i6]
    simp only [m_P, mT_2, mT_1, mS_1, mS_2, Option.bind_some, Nat.reduceEqDiff, if_true, if_false, true_and, and_true, false_and, and_false]
  · exact ((hagm.tr AgM.mT).tr AgM.mT).wk fun j i h => by refine ⟨⟨⟨?_, ?_⟩, ?_⟩, ?_⟩ <;> omega
  · simp only [m_P, mT_2, mT_1, mS_1, mS_2, Option.bind_some, Nat.reduceEqDiff, if_true, if_false, true_and, and_true, false_and, and_false]
  · rw [(hag2 32 r 0 (by omega)).1, f7]
    congr 1
    split <;> omega
  · have e1 : rwM 100 (mT (mT (cpM μ1 55 0 42 (100 * r + 0) m) 38 r (nI m)) 39 r B) 42 r k = μ1.2 55 k := by
      rw [rwM_at (by omega)]
      simp only [m_P, mT_2, mT_1, mS_1, mS_2, Option.bind_some, Nat.reduceEqDiff, if_true, if_false, true_and, and_true, false_and, and_false]
      have := cpM_in (μ := μ1) (js := 55) (os := 0) (jd := 42) (od := 100 * r + 0) hk
      rw [Nat.add_zero] at this ⊢
      rw [this, Nat.zero_add]
    rw [e1, (hag2 33 r 0 (by omega)).1]
    exact hf33 k hk
end MRA
