/-! a client hears: all of it -/
section HEA
variable {A : Ad} {n T q : Nat} {hb : Nat → Nat} {vw : Vw} {p u : Nat → Nat} {a c t nx : Nat} {σ σ' : Hp} {μ μ' : Mu}
/-- accepted, or not: both sides -/
theorem cl_end (hR : RR A n T q hb vw p u a 0 σ μ) (hc : c < 4) (hP : PlB A n T vw σ μ c t nx) {pr : Nat} (hpr : pr < t) {i w l b : Nat} {L S slot req : Int32} (hi202 : i < 202) (hw : oR σ (A 5 i 0) 4 = some w) (hvw : vw w = some (L, S)) (hL : L = nI l) (hlT : l ≤ T) (h6 : oI σ (A 5 i 0) 6 = slot) (hsl : Rid 100 slot) (h65 : μ.2 65 (64 * c + pr) = L) (h68 : μ.2 68 (64 * c + pr) = nI b) (hbb : b < 128) (h59 : μ.2 59 c = 1) (h58 : μ.2 58 c = req) : ∃ x τ, f_X2_hear_79 σ (A 2 c 0) (A 5 i 0) (nI (ix t nx pr)) (nI (l % n)) = some (x, τ) ∧ ((x = 0 ∧ τ = σ ∧ f_X12_replied_185 μ (nI c) L S slot req (nI (64 * c + pr)) = some μ) ∨ (x = 1 ∧ ∃ σ' μ', ((h_gR τ 11 (A 11 0 0) 6).bind fun v28 => (h_gI τ 2 (A 2 c 0) 1).bind fun v32 => (h_gR τ 2 (A 2 c 0) 3).bind fun v36 => (h_gI τ 2 (A 2 c 0) 4).bind fun v40 => (h_gI τ 2 (A 2 c 0) 5).bind fun v44 => (h_gO τ 0 v28).bind fun _ => (f_X0_add τ v28 v32 v36 v40 v44).bind fun v47 => some v47) = some σ' ∧ f_X12_replied_185 μ (nI c) L S slot req (nI (64 * c + pr)) = some μ' ∧ RR A n T q hb vw p u a 0 σ' μ' ∧ μ'.1 0 = μ.1 0 ∧ ∀ j i, 32 ≤ j → j ≤ 38 → μ'.2 j i = μ.2 j i)) := by
  have hs := hR.1
  have hv := hR.2.1
  have hi := hs.inj
  have h7 := hs.np
  have hT : T ≤ 64 := hR.2.2.2.2.2.2.2.2.2
  have hq : q ≤ 64 := hR.2.2.2.2.2.2.2.2.1
  have h1 : μ.1 1 = nI n := hR.2.2.1.2.2.2.2.1
  have h2 : μ.1 2 = nI (n / 2) := hR.2.2.1.2.2.2.2.2
  have hP' := hP
  obtain ⟨b1', b2, b3, b4, b5, b6, b7, b8⟩ := hP'
  obtain ⟨g1, g2, g3, l', bb, g4, g5, g6, g7, g8⟩ := b7 pr hpr
  have e1 : l' = l := (nI_eq (by omega) (by omega)).mp (g5.symm.trans (h65.trans hL))
  have e2 : bb = b := (nI_eq (by omega) (by omega)).mp (g7.symm.trans h68)
  subst e1 e2
  have hln : l' % n < 7 := Nat.lt_of_lt_of_le (Nat.mod_lt _ (by omega)) h7.2
  have cl := cnt_le bb
  have k2 := hs.k2 hc
  have k5 := hs.k5 hi202
  have k412 : oK σ (A 41 c 2) = 13 := hs.k41 hc (by decide)
  have k413 : oK σ (A 41 c 3) = 13 := hs.k41 hc (by decide)
  have z412 : oZ σ (A 41 c 2) = 64 := hs.z41 hc (by decide)
  have z413 : oZ σ (A 41 c 3) = 64 := hs.z41 hc (by decide)
  have hx64 : ix t nx pr < 64 := ix_lt _ _ _
  have hz : 64 * c + pr < 256 := by omega
  have hwv : IsV σ w L S := hv w L S hvw
  have er : L - L / nI n * nI n = nI (l' % n) := by rw [hL, pk_rem (by omega) (by omega) (by omega)]
  have c0 : f_X2_hear_79 σ (A 2 c 0) (A 5 i 0) (nI (ix t nx pr)) (nI (l' % n)) = if nI (cnt bb) ≤ nI (n / 2) then some ((0 : Int32), σ) else if (nI bb &&& ((1 : Int32) <<< (nI (l' % n) &&& 31))) = 0 then some ((0 : Int32), σ) else some ((1 : Int32), sI (sI (sR (sI σ (A 2 c 0) 2 2) (A 2 c 0) 3 w) (A 2 c 0) 4 slot) (A 2 c 0) 5 (oI σ (A 41 c 3) (ix t nx pr))) := by
    have ed : nI n / (2 : Int32) = nI (n / 2) := by rw [l2, pk_div (by omega) (by omega) (by omega)]
    rw [f_X2_hear_79, x_gR k2, hs.r2_9 hc, Option.bind_some, e_aI k412 z412 hx64 (by decide), Option.bind_some, g3, g7, bit_c bb hbb, Option.bind_some, x_gI k2, Option.bind_some, hs.i2_6 hc, ed, Option.bind_some, e_aI k412 z412 hx64 (by decide), Option.bind_some, g3, g7]
    by_cases d1 : nI (cnt bb) ≤ nI (n / 2)
    · rw [if_pos d1, if_pos d1]
    · rw [if_neg d1, if_neg d1]
      by_cases d2 : (nI bb &&& ((1 : Int32) <<< (nI (l' % n) &&& 31))) = 0
      · rw [if_pos d2, if_pos d2]
      · rw [if_neg d2, if_neg d2]
        simp only [x_gI, x_gR, x_gO, x_pI, x_pR, x_aI, x_aR, x_qI, x_qR, x_aL, oK_sI, oK_sR, oK_sC, oZ_sI, oZ_sR, oZ_sC, xI_sI, oI_sR, xI_sC, oR_sI, xR_sR, oR_sC, Option.bind_some, if_true, if_false, Nat.reduceEqDiff, true_and, and_true, false_and, and_false, k2, k5, k413, z413, hi, hs.r2_10 hc, hx64, hw, h6, Nat.reduceLT]
  have m0 : f_X12_replied_185 μ (nI c) L S slot req (nI (64 * c + pr)) = if nI (cnt bb) ≤ nI (n / 2) then some μ else if ((nI bb >>> (nI (l' % n) &&& 31)) &&& (1 : Int32)) = 0 then some μ else ((m_Q μ 59 (nI c) (2 : Int32)).bind fun s228 => (m_Q s228 60 (nI c) slot).bind fun s236 => (m_Q s236 61 (nI c) L).bind fun s243 => (m_Q s243 62 (nI c) S).bind fun s251 => (m_A s251 69 (nI (64 * c + pr))).bind fun v263 => (m_Q s251 63 (nI c) v263).bind fun s264 => (m_Q s264 71 ((s264.1 70) - (s264.1 70) / (200 : Int32) * (200 : Int32)) req).bind fun s283 => (m_Q s283 72 ((s264.1 70) - (s264.1 70) / (200 : Int32) * (200 : Int32)) L).bind fun s291 => (m_Q s291 73 ((s264.1 70) - (s264.1 70) / (200 : Int32) * (200 : Int32)) S).bind fun s300 => (m_Q s300 74 ((s264.1 70) - (s264.1 70) / (200 : Int32) * (200 : Int32)) slot).bind fun s309 => (m_A s309 63 (nI c)).bind fun v321 => (m_Q s309 75 ((s264.1 70) - (s264.1 70) / (200 : Int32) * (200 : Int32)) v321).bind fun s322 => (m_P s322 70 ((s322.1 70) + (1 : Int32))).bind fun s330 => some s330) := by
    rw [f_X12_replied_185, mA_n 68 _ hz, Option.bind_some, g7, bit_m bb hbb, Option.bind_some, h2, Option.bind_some, h1, e_nz (nI_ne0 (by omega) (by omega)), Option.bind_some, er]
  rw [c0, m0]
  by_cases d1 : nI (cnt bb) ≤ nI (n / 2)
  · rw [if_pos d1, if_pos d1]
    exact ⟨_, _, rfl, Or.inl ⟨rfl, rfl, rfl⟩⟩
  · rw [if_neg d1, if_neg d1]
    by_cases d2 : bb.testBit (l' % n) = true
    · rw [if_neg (fun h => (bit_tc bb hbb _ hln).mp h d2), if_neg (fun h => (bit_tm bb hbb _ hln).2.mp h d2)]
      obtain ⟨f, f1, f2, f3, f4, f5, f6⟩ := hR.2.2.2.2.2.2.2.1
      have hop : opn μ c = 1 := by unfold opn; rw [if_pos h59]
      have hfq : f + 1 ≤ q := by
        rcases (show c = 0 ∨ c = 1 ∨ c = 2 ∨ c = 3 by omega) with e | e | e | e <;> subst e <;> omega
      have hf200 : f < 200 := by omega
      have h69 : oI σ (A 41 c 3) (ix t nx pr) = μ.2 69 (64 * c + pr) := g8 d2
      obtain ⟨⟨q1, q2, -⟩, -⟩ := (hR.2.2.2.2.2.2.1 c hc).sp
      rw [h69]
      exact ⟨_, _, rfl, Or.inr ⟨rfl, _, _, acc_c hs hc (by omega) hwv.1 f2 f3 f4 (q2.1.trans h58), acc_m hc (by omega) hz f1 rfl, acc_R hR hc hP (by omega) f1 hvw hsl h59 h58, by simp only [mS_1, mT_1, show ¬ (0 : Nat) = 70 by decide, if_false], fun j i h1 h2 => by
        simp only [mS_2, mT_2]
        repeat rw [if_neg (by omega)]⟩⟩
    · rw [if_pos ((bit_tc bb hbb _ hln).mpr d2), if_pos ((bit_tm bb hbb _ hln).2.mpr d2)]
      exact ⟨_, _, rfl, Or.inl ⟨rfl, rfl, rfl⟩⟩
/-- a client hears: both sides -/
theorem cl_hear (hR : RR A n T q hb vw p u a 0 σ μ) (hc : c < 4) {i w l fr : Nat} {L S slot req ans has : Int32} (hi202 : i < 202) (h2 : oI σ (A 5 i 0) 2 = nI fr) (hfr : fr < n) (hw : oR σ (A 5 i 0) 4 = some w) (hvw : vw w = some (L, S)) (hL : L = nI l) (hlT : l ≤ T) (h6 : oI σ (A 5 i 0) 6 = slot) (hsl : Rid 100 slot) (h7 : oI σ (A 5 i 0) 7 = req) (h81 : l % n = fr → has = 1 ∧ oI σ (A 5 i 0) 8 = ans) (h80 : l % n ≠ fr → has = 0) : ∃ σ' μ', ((f_X2_hear σ (A 2 c 0) (A 5 i 0)).bind fun v21 => if v21.1 = 0 then some v21.2 else (h_gR v21.2 11 (A 11 0 0) 6).bind fun v28 => (h_gI v21.2 2 (A 2 c 0) 1).bind fun v32 => (h_gR v21.2 2 (A 2 c 0) 3).bind fun v36 => (h_gI v21.2 2 (A 2 c 0) 4).bind fun v40 => (h_gI v21.2 2 (A 2 c 0) 5).bind fun v44 => (h_gO v21.2 0 v28).bind fun _ => (f_X0_add v21.2 v28 v32 v36 v40 v44).bind fun v47 => some v47) = some σ' ∧ f_X12_replied μ (nI c) (nI fr) L S slot req has ans = some μ' ∧ RR A n T q hb vw p u a 0 σ' μ' ∧ μ'.1 0 = μ.1 0 ∧ ∀ j i, 32 ≤ j → j ≤ 38 → μ'.2 j i = μ.2 j i := by
  have hs := hR.1
  have hn := hs.np
  have hT : T ≤ 64 := hR.2.2.2.2.2.2.2.2.2
  have k2 := hs.k2 hc
  have k5 := hs.k5 hi202
  obtain ⟨⟨q1, q2, q3, q4, q5, q6⟩, -⟩ := (hR.2.2.2.2.2.2.1 c hc).sp
  rw [f_X2_hear, x_gI k2, Option.bind_some, q3.1, f_X12_replied, mA_n 59 c hc, Option.bind_some]
  by_cases c1 : μ.2 59 c = 1
  · rw [if_pos c1, if_pos c1, x_gI k5, Option.bind_some, h7, x_gI k2, Option.bind_some, q2.1, mA_n 58 c hc, Option.bind_some]
    by_cases c2 : μ.2 58 c = req
    · rw [if_pos c2.symm, if_pos c2, mA_n 64 c hc, Option.bind_some]
      obtain ⟨σ1, μ1, t, nx, pr, e1, e2, e3, e4, e5, e6, e7, e8, e9, e10, e11⟩ := cl_place hR hc hvw hL hlT slot (nI fr) req has ans
      have hs1 := e6.1
      have hwv1 : IsV σ1 w L S := e6.2.1 w L S hvw
      have k21 := hs1.k2 hc
      have k51 := hs1.k5 hi202
      have k412 : oK σ1 (A 41 c 2) = 13 := hs1.k41 hc (by decide)
      have k413 : oK σ1 (A 41 c 3) = 13 := hs1.k41 hc (by decide)
      have z412 : oZ σ1 (A 41 c 2) = 64 := hs1.z41 hc (by decide)
      have z413 : oZ σ1 (A 41 c 3) = 64 := hs1.z41 hc (by decide)
      have n412 : oK σ1 (A 41 c 2) ≠ 9 := by rw [k412]; decide
      have n413 : oK σ1 (A 41 c 3) ≠ 9 := by rw [k413]; decide
      have hx64 : ix t nx pr < 64 := ix_lt _ _ _
      have hz : 64 * c + pr < 256 := by have := e4.1; omega
      have m5 := e7 5 i 0 (by unfold fpC; omega)
      have hln : l % n < n := Nat.mod_lt _ (by omega)
      have e4' := e4
      obtain ⟨b1', b2, b3, b4, b5, b6, b7, b8⟩ := e4'
      obtain ⟨g1, g2, g3, l', b, g4, g5, g6, g7, g8⟩ := b7 pr e3
      have hor := bit_or b g6 fr (by omega)
      have hld : f_X9_leader σ1 w (nI n) = some (nI (l % n)) := c_leader (by rw [← hL]; exact hwv1) (by omega) hn.1 hn.2
      have e65 : μ1.2 65 (64 * c + pr) = nI l := e5.trans hL
      -- the first half
      have hA : ∃ σ2 μ2, ((fr = l % n ∧ σ2 = sI (sI σ1 (A 41 c 2) (ix t nx pr) (nI (b ||| 2 ^ fr))) (A 41 c 3) (ix t nx pr) ans ∧ μ2 = mT (mT μ1 68 (64 * c + pr) (nI (b ||| 2 ^ fr))) 69 (64 * c + pr) ans) ∨ (fr ≠ l % n ∧ σ2 = sI σ1 (A 41 c 2) (ix t nx pr) (nI (b ||| 2 ^ fr)) ∧ μ2 = mT μ1 68 (64 * c + pr) (nI (b ||| 2 ^ fr)))) ∧ Rs A n σ2 ∧ Vok vw σ2 ∧ Ag A σ1 σ2 (fun s i => ¬ fpC c s i) ∧ oI σ2 (A 2 c 0) = oI σ1 (A 2 c 0) ∧ oR σ2 (A 2 c 0) = oR σ1 (A 2 c 0) ∧ AgM μ1 μ2 (fun j i => ¬ ((j = 68 ∨ j = 69) ∧ i = 64 * c + pr)) ∧ μ2.2 68 (64 * c + pr) = nI (b ||| 2 ^ fr) ∧ μ2.1 = μ1.1 ∧ f_X12_replied_158 μ1 (nI c) (nI fr) L S slot req has ans (nI (64 * c + pr)) = f_X12_replied_185 μ2 (nI c) L S slot req (nI (64 * c + pr)) ∧ ((h_gR σ 5 (A 5 i 0) 4).bind fun v23 => (h_gI σ 5 (A 5 i 0) 6).bind fun v27 => (h_gO σ 2 (A 2 c 0)).bind fun _ => (f_X2_placeOf σ (A 2 c 0) v23 v27).bind fun v30 => (h_gR v30.2 5 (A 5 i 0) 4).bind fun v35 => (h_gI v30.2 2 (A 2 c 0) 6).bind fun v39 => (h_gO v30.2 9 v35).bind fun _ => (f_X9_leader v30.2 v35 v39).bind fun v42 => (h_gR v30.2 2 (A 2 c 0) 9).bind fun v47 => (h_aI v30.2 v47 v30.1).bind fun v52 => (h_gI v30.2 5 (A 5 i 0) 2).bind fun v55 => (h_qI v30.2 v47 v30.1 (v52 ||| ((1 : Int32) <<< (v55 &&& 31)))).bind fun s60 => (h_gI s60 5 (A 5 i 0) 2).bind fun v62 => if v62 = v42 then ((h_gR s60 2 (A 2 c 0) 10).bind fun v70 => (h_gI s60 5 (A 5 i 0) 8).bind fun v75 => (h_qI s60 v70 v30.1 v75).bind fun s78 => f_X2_hear_79 s78 (A 2 c 0) (A 5 i 0) v30.1 v42) else f_X2_hear_79 s60 (A 2 c 0) (A 5 i 0) v30.1 v42) = f_X2_hear_79 σ2 (A 2 c 0) (A 5 i 0) (nI (ix t nx pr)) (nI (l % n)) := by
        have hi := hs1.inj
        have k5b : oK (sI σ1 (A 41 c 2) (ix t nx pr) (nI (b ||| 2 ^ fr))) (A 5 i 0) = 5 := k51
        have k2b : oK (sI σ1 (A 41 c 2) (ix t nx pr) (nI (b ||| 2 ^ fr))) (A 2 c 0) = 2 := k21
        have o2b : oI (sI σ1 (A 41 c 2) (ix t nx pr) (nI (b ||| 2 ^ fr))) (A 5 i 0) 2 = nI fr := by simp only [oK_sI, oK_sR, oK_sC, oZ_sI, oZ_sR, oZ_sC, xI_sI, oI_sR, xI_sC, oR_sI, xR_sR, oR_sC, Option.bind_some, if_true, if_false, Nat.reduceEqDiff, true_and, and_true, false_and, and_false, hi]; rw [m5.1]; exact h2
        have r10b : oR (sI σ1 (A 41 c 2) (ix t nx pr) (nI (b ||| 2 ^ fr))) (A 2 c 0) 10 = some (A 41 c 3) := hs1.r2_10 hc
        have hcl : ((h_gR σ 5 (A 5 i 0) 4).bind fun v23 => (h_gI σ 5 (A 5 i 0) 6).bind fun v27 => (h_gO σ 2 (A 2 c 0)).bind fun _ => (f_X2_placeOf σ (A 2 c 0) v23 v27).bind fun v30 => (h_gR v30.2 5 (A 5 i 0) 4).bind fun v35 => (h_gI v30.2 2 (A 2 c 0) 6).bind fun v39 => (h_gO v30.2 9 v35).bind fun _ => (f_X9_leader v30.2 v35 v39).bind fun v42 => (h_gR v30.2 2 (A 2 c 0) 9).bind fun v47 => (h_aI v30.2 v47 v30.1).bind fun v52 => (h_gI v30.2 5 (A 5 i 0) 2).bind fun v55 => (h_qI v30.2 v47 v30.1 (v52 ||| ((1 : Int32) <<< (v55 &&& 31)))).bind fun s60 => (h_gI s60 5 (A 5 i 0) 2).bind fun v62 => if v62 = v42 then ((h_gR s60 2 (A 2 c 0) 10).bind fun v70 => (h_gI s60 5 (A 5 i 0) 8).bind fun v75 => (h_qI s60 v70 v30.1 v75).bind fun s78 => f_X2_hear_79 s78 (A 2 c 0) (A 5 i 0) v30.1 v42) else f_X2_hear_79 s60 (A 2 c 0) (A 5 i 0) v30.1 v42) = if nI fr = nI (l % n) then ((h_gI (sI σ1 (A 41 c 2) (ix t nx pr) (nI (b ||| 2 ^ fr))) 5 (A 5 i 0) 8).bind fun v75 => (h_qI (sI σ1 (A 41 c 2) (ix t nx pr) (nI (b ||| 2 ^ fr))) (A 41 c 3) (nI (ix t nx pr)) v75).bind fun s78 => f_X2_hear_79 s78 (A 2 c 0) (A 5 i 0) (nI (ix t nx pr)) (nI (l % n))) else f_X2_hear_79 (sI σ1 (A 41 c 2) (ix t nx pr) (nI (b ||| 2 ^ fr))) (A 2 c 0) (A 5 i 0) (nI (ix t nx pr)) (nI (l % n)) := by
          rw [x_gR k5, hw, Option.bind_some, x_gI k5, Option.bind_some, h6, x_gO k2, Option.bind_some, e1, Option.bind_some]
          dsimp only
          rw [x_gR k51, m5.2, hw, Option.bind_some, x_gI k21, Option.bind_some, hs1.i2_6 hc, x_gO hwv1.1, Option.bind_some, hld, Option.bind_some, x_gR k21, hs1.r2_9 hc, Option.bind_some, e_aI k412 z412 hx64 (by decide), Option.bind_some, x_gI k51, Option.bind_some, m5.1, h2, g3, g7, hor.1, e_qI k412 z412 hx64 (by decide), Option.bind_some, x_gI k5b, Option.bind_some, o2b, x_gR k2b, r10b, Option.bind_some]
        have m0 : f_X12_replied_158 μ1 (nI c) (nI fr) L S slot req has ans (nI (64 * c + pr)) = if has = 0 then f_X12_replied_185 (mT μ1 68 (64 * c + pr) (nI (b ||| 2 ^ fr))) (nI c) L S slot req (nI (64 * c + pr)) else f_X12_replied_185 (mT (mT μ1 68 (64 * c + pr) (nI (b ||| 2 ^ fr))) 69 (64 * c + pr) ans) (nI c) L S slot req (nI (64 * c + pr)) := by
          rw [f_X12_replied_158, mA_n 68 _ hz, Option.bind_some, g7, hor.1, mQ_n 68 _ _ hz, Option.bind_some, mQ_n 69 _ _ hz, Option.bind_some]
        rw [hcl, m0]
        by_cases d1 : fr = l % n
        · obtain ⟨d2, d3⟩ := h81 d1.symm
          have o8b : oI (sI σ1 (A 41 c 2) (ix t nx pr) (nI (b ||| 2 ^ fr))) (A 5 i 0) 8 = ans := by simp only [oK_sI, oK_sR, oK_sC, oZ_sI, oZ_sR, oZ_sC, xI_sI, oI_sR, xI_sC, oR_sI, xR_sR, oR_sC, Option.bind_some, if_true, if_false, Nat.reduceEqDiff, true_and, and_true, false_and, and_false, hi]; rw [m5.1]; exact d3
          have hne : ¬ has = 0 := by rw [d2]; decide
          rw [if_pos (congrArg nI d1), if_neg hne, x_gI k5b, Option.bind_some, o8b, e_qI (show oK (sI σ1 (A 41 c 2) (ix t nx pr) (nI (b ||| 2 ^ fr))) (A 41 c 3) = 13 from k413) (show oZ (sI σ1 (A 41 c 2) (ix t nx pr) (nI (b ||| 2 ^ fr))) (A 41 c 3) = 64 from z413) hx64 (by decide), Option.bind_some]
          refine ⟨_, _, Or.inl ⟨d1, rfl, rfl⟩, (hs1.sI rfl).sI rfl, (e6.2.1.sI n412).sI n413, ((Ag.sI hs1.1).tr (Ag.sI hs1.1)).wk (fun s i h => by unfold fpC at h; omega), ?_, rfl, (AgM.mT.tr AgM.mT).wk (fun j i h => by omega), ?_, rfl, rfl, rfl⟩
          · funext k
            simp only [oK_sI, oK_sR, oK_sC, oZ_sI, oZ_sR, oZ_sC, xI_sI, oI_sR, xI_sC, oR_sI, xR_sR, oR_sC, Option.bind_some, if_true, if_false, Nat.reduceEqDiff, true_and, and_true, false_and, and_false, hi]
          · simp only [m_P, mT_2, mT_1, mS_1, mS_2, Option.bind_some, Nat.reduceEqDiff, if_true, if_false, true_and, and_true, false_and, and_false]
        · have d2 := h80 (fun e => d1 e.symm)
          rw [if_neg (fun h => d1 ((nI_eq (by omega) (by omega)).mp h)), if_pos d2]
          refine ⟨_, _, Or.inr ⟨d1, rfl, rfl⟩, hs1.sI rfl, e6.2.1.sI n412, (Ag.sI hs1.1).wk (fun s i h => by unfold fpC at h; omega), ?_, rfl, AgM.mT.wk (fun j i h => by omega), ?_, rfl, rfl, rfl⟩
          · funext k
            simp only [oK_sI, oK_sR, oK_sC, oZ_sI, oZ_sR, oZ_sC, xI_sI, oI_sR, xI_sC, oR_sI, xR_sR, oR_sC, Option.bind_some, if_true, if_false, Nat.reduceEqDiff, true_and, and_true, false_and, and_false, hi]
          · simp only [m_P, mT_2, mT_1, mS_1, mS_2, Option.bind_some, Nat.reduceEqDiff, if_true, if_false, true_and, and_true, false_and, and_false]
      obtain ⟨σ2, μ2, w1, w2, w3, w4, w5, w6, w7, w8, w9, w10, w11⟩ := hA
      have hP2 := pl_bit hs1 e4 e3 (by omega : l ≤ 64) hT e65 (by omega : fr < 7) (by omega) g6 g7 w1
      have hR2 : RR A n T q hb vw p u a 0 σ2 μ2 := by
        obtain ⟨rS, -⟩ := (e6.2.2.2.2.2.2.1 c hc).sp
        refine e6.cli c w2 w3 w4 (w7.wk fun j i h => by unfold fmC at h; have := b1'; omega) w9 (fun i => w7 57 i (by omega)) (fun i => w7 59 i (by omega)) (Rc.mk (rS.cg (fun k _ => by rw [w5]) w6 fun j h1 h2 => w7 j c (by omega)) hP2)
      have m5' := w4 5 i 0 (by unfold fpC; omega)
      obtain ⟨x, τ, y1, y2⟩ := cl_end hR2 hc hP2 e3 (L := L) (S := S) (slot := slot) (req := req) (w := w) (l := l) (b := b ||| 2 ^ fr) hi202 (by rw [m5'.2, m5.2]; exact hw) hvw hL hlT (by rw [m5'.1, m5.1]; exact h6) hsl (by rw [w7 65 _ (by omega)]; exact e5) w8 hor.2 (by rw [w7 59 c (by omega), e8 59 c (by omega)]; exact c1) (by rw [w7 58 c (by omega), e8 58 c (by omega)]; exact c2)
      rw [w11, y1, Option.bind_some, e2, w10]
      rcases y2 with ⟨z1, z2, z3⟩ | ⟨z1, σ3, μ3, z2, z3, z4, z5, z6⟩
      · refine ⟨σ2, μ2, ?_, z3, hR2, by rw [w9, e9], fun j i h1 h2 => by rw [w7 j i (by omega), e8 j i (by omega)]⟩
        show (if x = 0 then some τ else _) = some σ2
        rw [if_pos z1, z2]
      · refine ⟨σ3, μ3, ?_, z3, z4, by rw [z5, w9, e9], fun j i h1 h2 => by rw [z6 j i h1 h2, w7 j i (by omega), e8 j i (by omega)]⟩
        refine Eq.trans (if_neg (show ¬ (x, τ).1 = 0 from ?_)) z2
        show ¬ x = 0
        rw [z1]; decide
    · rw [if_neg (fun h => c2 h.symm), if_neg c2, Option.bind_some]
      exact ⟨σ, μ, if_pos rfl, rfl, hR, rfl, fun _ _ _ _ => rfl⟩
  · rw [if_neg c1, if_neg c1, Option.bind_some]
    exact ⟨σ, μ, if_pos rfl, rfl, hR, rfl, fun _ _ _ _ => rfl⟩
end HEA
