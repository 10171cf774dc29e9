/-! the reads -/
section RDS
variable {A : Ad} {n T q t tb : Nat} {hb : Nat → Nat} {vw : Vw} {p u : Nat → Nat} {a : Nat} {σ σ' : Hp} {μ μ' : Mu}
theorem IsV.g0 {v : Nat} {L S : Int32} (h : IsV σ v L S) : h_gI σ 9 v 0 = some L := by rw [x_gI h.1, h.2.1]
theorem IsV.g1 {v : Nat} {L S : Int32} (h : IsV σ v L S) : h_gI σ 9 v 1 = some S := by rw [x_gI h.1, h.2.2]
theorem pb_replica (hI : Inv n t tb σ μ) (x1 x2 : Int32) : ∃ b, f_X11_replica σ tb x1 x2 = some b ∧ f_X12_replica μ x1 x2 = some (b, mS μ 0 0) := by
  obtain ⟨hd, A, q, vw, p, u, a, rfl, hq, hR⟩ := hI
  have hs := hR.1
  have h7 := hs.np
  have k11 := hs.k11
  rcases c_rpl hR x1 with ⟨r, hr, rfl, e1, e2⟩ | ⟨e1, e2⟩
  · have hr7 : r < 7 := by omega
    obtain ⟨w1, w2⟩ := c_row hs hr
    have k6 := hs.k6 hr
    have k3 := hs.k3 hr
    have k32 := hs.k32 hr
    obtain ⟨⟨⟨a1, a2⟩, ⟨a3, a4⟩, ⟨⟨v4, a5, a5'⟩, -⟩, ⟨⟨v5, a6, a6'⟩, -⟩, a7, a8, a9⟩, ⟨l, q1, q2, q3, -⟩, ⟨h, y1, y2, y3, -⟩, -⟩ := (hR.2.2.2.2.2.1 r hr).sp
    have hv4 := hR.2.1 v4 _ _ a5'
    have hv5 := hR.2.1 v5 _ _ a6'
    rw [f_X11_replica, x_gO k11, Option.bind_some, e2, Option.bind_some, if_neg n10, w1, Option.bind_some, w2, Option.bind_some, f_X12_replica, m_P, Option.bind_some, show (mS μ 0 0).1 1 = μ.1 1 from rfl, e1, Option.bind_some, if_neg n10]
    by_cases c0 : x2 = 0
    · rw [if_pos c0, if_pos c0, x_gI k6, Option.bind_some, a1, mA_n 32 r hr7, Option.bind_some, show (mS μ 0 0).2 32 r = μ.2 32 r from rfl]
      by_cases d : μ.2 32 r = 0
      · rw [if_pos d, if_pos d]
        exact ⟨_, rfl, rfl⟩
      · rw [if_neg d, if_neg d]
        exact ⟨_, rfl, rfl⟩
    by_cases c1 : x2 = 1
    · rw [if_neg c0, if_neg c0, if_pos c1, if_pos c1, x_gI k6, Option.bind_some, a3, mA_n 35 r hr7, Option.bind_some]
      exact ⟨_, rfl, rfl⟩
    by_cases c2 : x2 = 2
    · rw [if_neg c0, if_neg c0, if_neg c1, if_neg c1, if_pos c2, if_pos c2, x_gR k6, a5, Option.bind_some, hv4.g0, Option.bind_some, mA_n 33 r hr7, Option.bind_some]
      exact ⟨_, rfl, rfl⟩
    by_cases c3 : x2 = 3
    · rw [if_neg c0, if_neg c0, if_neg c1, if_neg c1, if_neg c2, if_neg c2, if_pos c3, if_pos c3, x_gR k6, a5, Option.bind_some, hv4.g1, Option.bind_some, mA_n 34 r hr7, Option.bind_some]
      exact ⟨_, rfl, rfl⟩
    by_cases c4 : x2 = 4
    · rw [if_neg c0, if_neg c0, if_neg c1, if_neg c1, if_neg c2, if_neg c2, if_neg c3, if_neg c3, if_pos c4, if_pos c4, x_gI k6, Option.bind_some, a7, mA_n 39 r hr7, Option.bind_some]
      exact ⟨_, rfl, rfl⟩
    by_cases c5 : x2 = 5
    · rw [if_neg c0, if_neg c0, if_neg c1, if_neg c1, if_neg c2, if_neg c2, if_neg c3, if_neg c3, if_neg c4, if_neg c4, if_pos c5, if_pos c5, x_gR k6, hs.r6_0 hr, Option.bind_some, x_gI k32, Option.bind_some, q3, ← q2, mA_n 38 r hr7, Option.bind_some]
      exact ⟨_, rfl, rfl⟩
    by_cases c6 : x2 = 6
    · rw [if_neg c0, if_neg c0, if_neg c1, if_neg c1, if_neg c2, if_neg c2, if_neg c3, if_neg c3, if_neg c4, if_neg c4, if_neg c5, if_neg c5, if_pos c6, if_pos c6, x_gI k6, Option.bind_some, a8, mA_n 40 r hr7, Option.bind_some]
      exact ⟨_, rfl, rfl⟩
    by_cases c7 : x2 = 7
    · rw [if_neg c0, if_neg c0, if_neg c1, if_neg c1, if_neg c2, if_neg c2, if_neg c3, if_neg c3, if_neg c4, if_neg c4, if_neg c5, if_neg c5, if_neg c6, if_neg c6, if_pos c7, if_pos c7, x_gR k6, hs.r6_1 hr, Option.bind_some, x_gI k3, Option.bind_some, y3, ← y2, mA_n 43 r hr7, Option.bind_some]
      exact ⟨_, rfl, rfl⟩
    by_cases c8 : x2 = 8
    · rw [if_neg c0, if_neg c0, if_neg c1, if_neg c1, if_neg c2, if_neg c2, if_neg c3, if_neg c3, if_neg c4, if_neg c4, if_neg c5, if_neg c5, if_neg c6, if_neg c6, if_neg c7, if_neg c7, if_pos c8, if_pos c8, x_gR k6, a6, Option.bind_some, hv5.g0, Option.bind_some, mA_n 36 r hr7, Option.bind_some]
      exact ⟨_, rfl, rfl⟩
    by_cases c9 : x2 = 9
    · rw [if_neg c0, if_neg c0, if_neg c1, if_neg c1, if_neg c2, if_neg c2, if_neg c3, if_neg c3, if_neg c4, if_neg c4, if_neg c5, if_neg c5, if_neg c6, if_neg c6, if_neg c7, if_neg c7, if_neg c8, if_neg c8, if_pos c9, if_pos c9, x_gR k6, a6, Option.bind_some, hv5.g1, Option.bind_some, mA_n 37 r hr7, Option.bind_some]
      exact ⟨_, rfl, rfl⟩
    by_cases c10 : x2 = 10
    · rw [if_neg c0, if_neg c0, if_neg c1, if_neg c1, if_neg c2, if_neg c2, if_neg c3, if_neg c3, if_neg c4, if_neg c4, if_neg c5, if_neg c5, if_neg c6, if_neg c6, if_neg c7, if_neg c7, if_neg c8, if_neg c8, if_neg c9, if_neg c9, if_pos c10, if_pos c10, x_gI k6, Option.bind_some, a9, mA_n 41 r hr7, Option.bind_some]
      exact ⟨_, rfl, rfl⟩
    rw [if_neg c0, if_neg c0, if_neg c1, if_neg c1, if_neg c2, if_neg c2, if_neg c3, if_neg c3, if_neg c4, if_neg c4, if_neg c5, if_neg c5, if_neg c6, if_neg c6, if_neg c7, if_neg c7, if_neg c8, if_neg c8, if_neg c9, if_neg c9, if_neg c10, if_neg c10]
    exact ⟨_, rfl, rfl⟩
  · refine ⟨-1, ?_, ?_⟩
    · rw [f_X11_replica, x_gO k11, Option.bind_some, e2, Option.bind_some, if_pos rfl]
    · rw [f_X12_replica, m_P, Option.bind_some, show (mS μ 0 0).1 1 = μ.1 1 from rfl, e1, Option.bind_some, if_pos rfl]
theorem pb_answer (hI : Inv n t tb σ μ) (x : Int32) : ∃ b, f_X11_answer σ tb x = some b ∧ f_X12_answer_ μ x = some (b, mS μ 0 0) := by
  obtain ⟨hd, A, q, vw, p, u, a, rfl, hq, hR⟩ := hI
  have hs := hR.1
  have k11 := hs.k11
  rcases c_cli (A 11 0 0) x with ⟨c, hc, rfl, e1, e2⟩ | ⟨e1, e2⟩
  · obtain ⟨w1, w2⟩ := c_crw hs hc
    have k2 := hs.k2 hc
    obtain ⟨⟨-, -, -, -, -, q5, q6⟩, -⟩ := (hR.2.2.2.2.2.2.1 c hc).sp
    refine ⟨μ.2 63 c, ?_, ?_⟩
    · rw [f_X11_answer, x_gO k11, Option.bind_some, e2, Option.bind_some, if_neg n10, w1, Option.bind_some, w2, Option.bind_some, x_gI k2, Option.bind_some, q6]
    · rw [f_X12_answer_, m_P, Option.bind_some, e1, Option.bind_some, if_neg n10, mA_n 63 c hc, Option.bind_some]
      rfl
  · refine ⟨0, ?_, ?_⟩
    · rw [f_X11_answer, x_gO k11, Option.bind_some, e2, Option.bind_some, if_pos rfl]
    · rw [f_X12_answer_, m_P, Option.bind_some, e1, Option.bind_some, if_pos rfl]
theorem pb_client (hI : Inv n t tb σ μ) (x y : Int32) : ∃ b, f_X11_client σ tb x y = some b ∧ f_X12_client μ x y = some (b, mS μ 0 0) := by
  obtain ⟨hd, A, q, vw, p, u, a, rfl, hq, hR⟩ := hI
  have hs := hR.1
  have k11 := hs.k11
  rcases c_cli (A 11 0 0) x with ⟨c, hc, rfl, e1, e2⟩ | ⟨e1, e2⟩
  · obtain ⟨w1, w2⟩ := c_crw hs hc
    have k2 := hs.k2 hc
    obtain ⟨⟨q1, q2, q3, -, q4, q5, q6⟩, -⟩ := (hR.2.2.2.2.2.2.1 c hc).sp
    have s57 : (mS μ 0 0).2 57 c = μ.2 57 c := rfl
    have s59 : (mS μ 0 0).2 59 c = μ.2 59 c := rfl
    have hc : f_X11_client σ (A 11 0 0) (nI c) y = if y = 0 then some (μ.2 57 c) else if y = 1 then some (μ.2 59 c) else if μ.2 59 c = 2 then (if y = 2 then some (μ.2 60 c) else if y = 3 then some (μ.2 61 c) else if y = 4 then some (μ.2 62 c) else some (-1)) else some (-1) := by
      rw [f_X11_client, x_gO k11, Option.bind_some, e2, Option.bind_some, if_neg n10, w1, Option.bind_some, w2, Option.bind_some, x_gI k2, Option.bind_some, q1.1, x_gI k2, Option.bind_some, q3.1, Option.bind_some]
      by_cases c2 : μ.2 59 c = 2
      · obtain ⟨v, z1, z2⟩ := q4 c2
        have hv := hR.2.1 v _ _ z2
        rw [if_pos c2, if_pos c2, x_gI k2, Option.bind_some, q5, x_gR k2, z1, Option.bind_some, hv.g0, Option.bind_some, Option.bind_some, hv.g1, Option.bind_some]
      · rw [if_neg c2, if_neg c2]
    have hm : f_X12_client μ (nI c) y = if (2 : Int32) ≤ y then (if μ.2 59 c = 2 then (if y = 2 then some (μ.2 60 c, mS μ 0 0) else if y = 3 then some (μ.2 61 c, mS μ 0 0) else if y = 4 then some (μ.2 62 c, mS μ 0 0) else some (-1, mS μ 0 0)) else some (-1, mS μ 0 0)) else if y = 0 then some (μ.2 57 c, mS μ 0 0) else if y = 1 then some (μ.2 59 c, mS μ 0 0) else some (-1, mS μ 0 0) := by
      rw [f_X12_client, m_P, Option.bind_some, e1, Option.bind_some, if_neg n10, mA_n 59 c (by assumption), Option.bind_some, mA_n 60 c (by assumption), Option.bind_some, mA_n 61 c (by assumption), Option.bind_some, mA_n 62 c (by assumption), Option.bind_some, mA_n 57 c (by assumption), Option.bind_some, Option.bind_some]
      rfl
    rw [hc, hm]
    by_cases d0 : y = 0
    · rw [if_pos d0, if_neg (by rw [d0]; decide), if_pos d0]
      exact ⟨_, rfl, rfl⟩
    · by_cases d1 : y = 1
      · rw [if_neg d0, if_pos d1, if_neg (by rw [d1]; decide), if_neg d0, if_pos d1]
        exact ⟨_, rfl, rfl⟩
      · rw [if_neg d0, if_neg d1, if_neg d0, if_neg d1]
        by_cases d2 : (2 : Int32) ≤ y
        · rw [if_pos d2]
          by_cases c2 : μ.2 59 c = 2
          · rw [if_pos c2, if_pos c2]
            by_cases f2 : y = 2
            · rw [if_pos f2, if_pos f2]; exact ⟨_, rfl, rfl⟩
            · by_cases f3 : y = 3
              · rw [if_neg f2, if_pos f3, if_neg f2, if_pos f3]; exact ⟨_, rfl, rfl⟩
              · by_cases f4 : y = 4
                · rw [if_neg f2, if_neg f3, if_pos f4, if_neg f2, if_neg f3, if_pos f4]; exact ⟨_, rfl, rfl⟩
                · rw [if_neg f2, if_neg f3, if_neg f4, if_neg f2, if_neg f3, if_neg f4]; exact ⟨_, rfl, rfl⟩
          · rw [if_neg c2, if_neg c2]; exact ⟨_, rfl, rfl⟩
        · rw [if_neg d2]
          have g : ∀ k : Int32, (2 : Int32) ≤ k → ¬ y = k := fun k hk e => d2 (by rw [e]; exact hk)
          rw [if_neg (g 2 (by decide)), if_neg (g 3 (by decide)), if_neg (g 4 (by decide)), ite_self]
          exact ⟨_, rfl, rfl⟩
  · refine ⟨-1, ?_, ?_⟩
    · rw [f_X11_client, x_gO k11, Option.bind_some, e2, Option.bind_some, if_pos rfl]
    · rw [f_X12_client, m_P, Option.bind_some, e1, Option.bind_some, if_pos rfl]
theorem pb_about (hI : Inv n t tb σ μ) (x : Int32) : ∃ b, f_X11_about σ tb x = some b ∧ f_X12_about μ x = some (b, mS μ 0 0) := by
  obtain ⟨hd, A, q, vw, p, u, a, rfl, hq, hR⟩ := hI
  have hs := hR.1
  have k11 := hs.k11
  have k1 := hs.k1
  have k0 := hs.k0
  obtain ⟨t1, t2, t3, t4, -⟩ := hR.2.2.1
  obtain ⟨f, f1, f2, -⟩ := hR.2.2.2.2.2.2.2.1
  obtain ⟨-, h2, h3, h4, h5, -⟩ := hR.2.2.2.2.1
  have s : ∀ k, k ≠ 0 → (mS μ 0 0).1 k = μ.1 k := fun k h => by simp only [mS_1, h, if_false]
  rw [f_X11_about, f_X12_about, m_P, Option.bind_some, s 12 (by decide), s 13 (by decide), s 14 (by decide), s 9 (by decide), s 10 (by decide), s 11 (by decide), s 70 (by decide)]
  by_cases c0 : x = 0
  · rw [if_pos c0, if_pos c0, x_gR k11, hs.r11_3, Option.bind_some, x_gI k1, Option.bind_some, h2, h3]
    exact ⟨_, rfl, rfl⟩
  by_cases c1 : x = 1
  · rw [if_neg c0, if_neg c0, if_pos c1, if_pos c1, x_gR k11, hs.r11_3, Option.bind_some, x_gI k1, Option.bind_some, h4]
    exact ⟨_, rfl, rfl⟩
  by_cases c2 : x = 2
  · rw [if_neg c0, if_neg c0, if_neg c1, if_neg c1, if_pos c2, if_pos c2, x_gR k11, hs.r11_3, Option.bind_some, x_gI k1, Option.bind_some, h5]
    exact ⟨_, rfl, rfl⟩
  by_cases c3 : x = 3
  · rw [if_neg c0, if_neg c0, if_neg c1, if_neg c1, if_neg c2, if_neg c2, if_pos c3, if_pos c3, x_gI k11, Option.bind_some, t1]
    by_cases d : μ.1 9 = 0
    · rw [if_pos d, if_pos d]
      exact ⟨_, rfl, rfl⟩
    · rw [if_neg d, if_neg d]
      exact ⟨_, rfl, rfl⟩
  by_cases c4 : x = 4
  · rw [if_neg c0, if_neg c0, if_neg c1, if_neg c1, if_neg c2, if_neg c2, if_neg c3, if_neg c3, if_pos c4, if_pos c4, x_gI k11, Option.bind_some, t3]
    exact ⟨_, rfl, rfl⟩
  by_cases c5 : x = 5
  · rw [if_neg c0, if_neg c0, if_neg c1, if_neg c1, if_neg c2, if_neg c2, if_neg c3, if_neg c3, if_neg c4, if_neg c4, if_pos c5, if_pos c5, x_gI k11, Option.bind_some, t4]
    exact ⟨_, rfl, rfl⟩
  by_cases c6 : x = 6
  · rw [if_neg c0, if_neg c0, if_neg c1, if_neg c1, if_neg c2, if_neg c2, if_neg c3, if_neg c3, if_neg c4, if_neg c4, if_neg c5, if_neg c5, if_pos c6, if_pos c6, x_gR k11, hs.r11_6, Option.bind_some, x_gI k0, Option.bind_some, f2, f1]
    exact ⟨_, rfl, rfl⟩
  rw [if_neg c0, if_neg c0, if_neg c1, if_neg c1, if_neg c2, if_neg c2, if_neg c3, if_neg c3, if_neg c4, if_neg c4, if_neg c5, if_neg c5, if_neg c6, if_neg c6]
  exact ⟨_, rfl, rfl⟩
theorem pb_message (hI : Inv n t tb σ μ) (x y : Int32) : ∃ b, f_X11_message σ tb x y = some b ∧ f_X12_message μ x y = some (b, mS μ 0 0) := by
  obtain ⟨hd, A, q, vw, p, u, a, rfl, hq, hR⟩ := hI
  have hs := hR.1
  have k11 := hs.k11
  have k1 := hs.k1
  obtain ⟨h1, h2, h3, h4, h5, h6, hh7, hh8, h9, h10, h11, h12, h13, h14⟩ := hR.2.2.2.2.1
  have s12 : (mS μ 0 0).1 12 = nI a := h3
  rcases m_in x (k := a) h1 with ⟨k, hk, rfl, e1, e2, e3⟩ | ⟨e1, e2⟩
  · have hp := hh8 k (by omega)
    have hu := h12 k (by omega)
    have k5 := hs.k5 (i := p k) (by omega)
    obtain ⟨⟨m0, m1, m2, m3⟩, -⟩ := h14 k (by omega)
    have hc : f_X11_message σ (A 11 0 0) (nI k) y = if y = 0 then some (μ.2 17 (u k)) else if y = 1 then some (μ.2 18 (u k)) else if y = 2 then some (μ.2 19 (u k)) else if y = 3 then some (μ.2 20 (u k)) else some (-1) := by
      rw [f_X11_message, if_neg e2, x_gR k11, hs.r11_3, Option.bind_some, x_gI k1, Option.bind_some, h2, if_pos ((nI_ltI (by omega) (by omega)).mpr hk), Option.bind_some, x_gR k1, hs.r1_0, Option.bind_some, e_aR hs.k22 hs.z22 (by omega : k < 200) (by decide) (h6 k (by omega)), Option.bind_some, x_gI k5, Option.bind_some, m0, x_gI k5, Option.bind_some, m1, x_gI k5, Option.bind_some, m2, x_gI k5, Option.bind_some, m3]
    have hm : f_X12_message μ (nI k) y = if y = 0 then some (μ.2 17 (u k), mS μ 0 0) else if y = 1 then some (μ.2 18 (u k), mS μ 0 0) else if y = 2 then some (μ.2 19 (u k), mS μ 0 0) else if y = 3 then some (μ.2 20 (u k), mS μ 0 0) else some (-1, mS μ 0 0) := by
      rw [f_X12_message, m_P, Option.bind_some, s12, e1, Option.bind_some, if_neg n10, mA_n 15 k (by simp only [mZ]; omega), Option.bind_some, show (mS μ 0 0).2 15 k = nI (u k) from h10 k hk, mA_n 17 _ (by simp only [mZ]; omega), Option.bind_some, mA_n 18 _ (by simp only [mZ]; omega), Option.bind_some, mA_n 19 _ (by simp only [mZ]; omega), Option.bind_some, mA_n 20 _ (by simp only [mZ]; omega), Option.bind_some]
      rfl
    rw [hc, hm]
    by_cases f0 : y = 0
    · rw [if_pos f0, if_pos f0]; exact ⟨_, rfl, rfl⟩
    · by_cases f1 : y = 1
      · rw [if_neg f0, if_pos f1, if_neg f0, if_pos f1]; exact ⟨_, rfl, rfl⟩
      · by_cases f2 : y = 2
        · rw [if_neg f0, if_neg f1, if_pos f2, if_neg f0, if_neg f1, if_pos f2]; exact ⟨_, rfl, rfl⟩
        · by_cases f3 : y = 3
          · rw [if_neg f0, if_neg f1, if_neg f2, if_pos f3, if_neg f0, if_neg f1, if_neg f2, if_pos f3]; exact ⟨_, rfl, rfl⟩
          · rw [if_neg f0, if_neg f1, if_neg f2, if_neg f3, if_neg f0, if_neg f1, if_neg f2, if_neg f3]; exact ⟨_, rfl, rfl⟩
  · refine ⟨-1, ?_, ?_⟩
    · rcases e2 with e2 | ⟨e2, e3⟩
      · rw [f_X11_message, if_pos e2]
      · rw [f_X11_message, if_neg e2, x_gR k11, hs.r11_3, Option.bind_some, x_gI k1, Option.bind_some, h2, if_neg (fun h => by rw [Int32.lt_iff_toInt_lt] at h; rw [Int32.le_iff_toInt_le] at e3; omega)]
    · rw [f_X12_message, m_P, Option.bind_some, s12, e1, Option.bind_some, if_pos rfl]
theorem pb_entry (hI : Inv n t tb σ μ) (x y w : Int32) : ∃ b, f_X11_entry σ tb x y w = some b ∧ f_X12_entry μ x y w = some (b, mS μ 0 0) := by
  obtain ⟨hd, A, q, vw, p, u, a, rfl, hq, hR⟩ := hI
  have hs := hR.1
  have h7 := hs.np
  have k11 := hs.k11
  have k7 := hs.k7
  have hq64 : q ≤ 64 := hR.2.2.2.2.2.2.2.2.1
  have s1 : (mS μ 0 0).1 1 = μ.1 1 := rfl
  -- none such
  have none1 : f_X11_entry_28 σ (A 11 0 0) x y w = some (if w = 5 then 0 else -1) := by
    rw [f_X11_entry_28, f_X11_entry_29, if_pos rfl, f_X11_entry_53, f_X11_entry_75]
    by_cases c5 : w = 5
    · rw [if_neg (by rw [c5]; decide), if_pos c5, if_pos rfl, if_pos c5]
    · rw [if_neg c5, if_pos rfl, if_pos rfl, ite_self, if_neg c5]
  have hm : f_X12_entry μ x y w = f_X12_entry_15 (mS μ 0 0) x y w (if w = 5 then 0 else -1) := by
    rw [f_X12_entry, m_P, Option.bind_some]
    by_cases c5 : w = 5
    · rw [if_pos c5, if_pos c5]
    · rw [if_neg c5, if_neg c5]
  rw [hm, f_X12_entry_15, s1]
  rcases c_rpl hR x with ⟨r, hr, rfl, e1, e2⟩ | ⟨e1, e2⟩
  · have hr7 : r < 7 := by omega
    obtain ⟨w1, w2⟩ := c_row hs hr
    have k6 := hs.k6 hr
    have k32 := hs.k32 hr
    obtain ⟨l, g1, g2, g3, g4⟩ := lhas hR hr y
    rw [e1, Option.bind_some, if_neg n10, mA_n 38 r hr7, Option.bind_some, show (mS μ 0 0).2 38 r = nI l from g2, f_X11_entry, x_gO k11, Option.bind_some, e2, Option.bind_some, if_neg n10, w1, Option.bind_some, w2, Option.bind_some, x_gR k6, hs.r6_0 hr, Option.bind_some, x_gO k32, Option.bind_some]
    rcases g4 with ⟨k, f1, f2, f3, f4, f5, f6, f7, f8⟩ | ⟨f1, f2, f3⟩
    · have f8' : m_A (mS μ 0 0) 42 (((100 : Int32) * nI r + y) - 1) = some (μ.2 42 (100 * r + k)) := f8
      rw [f3, Option.bind_some, if_neg n10, if_neg f6, if_pos f7, f8', Option.bind_some, f_X11_entry_29, if_neg n10, w1, Option.bind_some, w2, Option.bind_some, x_gR k6, hs.r6_0 hr, Option.bind_some, x_gO k32, Option.bind_some, f4, Option.bind_some, f_X11_entry_53, if_neg n10]
      generalize μ.2 42 (100 * r + k) = e at f5
      by_cases c0 : w = 0
      · rw [if_pos c0, if_pos c0]
        by_cases d : e = 0
        · rw [if_pos d, if_pos d]; exact ⟨_, rfl, rfl⟩
        · rw [if_neg d, if_neg d]; exact ⟨_, rfl, rfl⟩
      · rw [if_neg c0, if_neg c0, f_X11_entry_75]
        by_cases d : e = 0
        · rw [if_pos d, if_pos d, if_pos d]
          by_cases c5 : w = 5
          · rw [if_pos c5, if_pos c5]; exact ⟨_, rfl, rfl⟩
          · rw [if_neg c5, if_neg c5]; exact ⟨_, rfl, rfl⟩
        · obtain ⟨id, i1, i2, rfl⟩ := f5.rid d
          obtain ⟨-, -, -, j4, -⟩ := hR.2.2.2.1
          have j5 := (j4 id i1 i2).1
          have hz : id < 4097 := by omega
          have ea : ∀ j, j < 5 → h_aI σ (A 20 j 0) (nI id) = some (μ.2 (4 + j) id) := fun j hj => by rw [e_aI (hs.k20 hj) (hs.z20 hj) (by omega : id < 513) (by decide), j5 j hj]
          rw [if_neg d, if_neg d, if_neg d, x_gR k11, hs.r11_1]
          simp only [Option.bind_some, x_gR k7, hs.r7_0, hs.r7_1, hs.r7_2, hs.r7_3, hs.r7_4, ea 0 (by decide), ea 1 (by decide), ea 2 (by decide), ea 3 (by decide), ea 4 (by decide), mA_n 4 id hz, mA_n 5 id hz, mA_n 6 id hz, mA_n 7 id hz, mA_n 8 id hz, mS_2]
          by_cases c5 : w = 5
          · have hne : ∀ j : Int32, j ≠ 5 → ¬ w = j := fun j hj e => hj (e.symm.trans c5)
            rw [if_pos c5, if_neg (hne 1 (by decide)), if_neg (hne 2 (by decide)), if_neg (hne 3 (by decide)), if_neg (hne 4 (by decide)), if_pos c5]
            exact ⟨_, rfl, rfl⟩
          · rw [if_neg c5]
            by_cases f1 : w = 1
            · rw [if_pos f1, if_pos f1]; exact ⟨_, rfl, rfl⟩
            · by_cases f2 : w = 2
              · rw [if_neg f1, if_pos f2, if_neg f1, if_pos f2]; exact ⟨_, rfl, rfl⟩
              · by_cases f3 : w = 3
                · rw [if_neg f1, if_neg f2, if_pos f3, if_neg f1, if_neg f2, if_pos f3]; exact ⟨_, rfl, rfl⟩
                · by_cases f4 : w = 4
                  · rw [if_neg f1, if_neg f2, if_neg f3, if_pos f4, if_neg f1, if_neg f2, if_neg f3, if_pos f4]; exact ⟨_, rfl, rfl⟩
                  · rw [if_neg f1, if_neg f2, if_neg f3, if_neg f4, if_neg f1, if_neg f2, if_neg f3, if_neg f4, if_neg c5]; exact ⟨_, rfl, rfl⟩
    · rw [f1, Option.bind_some, if_pos rfl, none1]
      rcases f3 with f3 | ⟨f3, f4⟩
      · rw [if_pos f3]; exact ⟨_, rfl, rfl⟩
      · rw [if_neg f3, if_neg f4]; exact ⟨_, rfl, rfl⟩
  · rw [e1, Option.bind_some, if_pos rfl, f_X11_entry, x_gO k11, Option.bind_some, e2, Option.bind_some, if_pos rfl, none1]
    exact ⟨_, rfl, rfl⟩
end RDS
