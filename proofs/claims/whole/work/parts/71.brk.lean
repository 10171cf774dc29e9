/-! broken and word -/
section BRD
variable {A : Ad} {n T q t tb : Nat} {hb : Nat → Nat} {vw : Vw} {p u : Nat → Nat} {a f : Nat} {σ σe σ' : Hp} {μ μ0 : Mu}
theorem c_outer (hf : μ0.1 70 = nI f) (hf64 : f ≤ 64) : ∀ (d F r : Nat) (σ : Hp), d < F → n = r + d → RR A n T q h8 vw p u a 0 σ μ0 → (∀ k, ((k < f ∧ ∃ r', r' < r ∧ bd n μ0 r' k) ∧ oI σ (A 23 4 0) k = 1) ∨ (¬ (k < f ∧ ∃ r', r' < r ∧ bd n μ0 r' k) ∧ (k < 200 → oI σ (A 23 4 0) k = 0))) → ∃ σ', RR A n T q h8 vw p u a 0 σ' μ0 ∧ (∀ k, ((k < f ∧ ∃ r', r' < n ∧ bd n μ0 r' k) ∧ oI σ' (A 23 4 0) k = 1) ∨ (¬ (k < f ∧ ∃ r', r' < n ∧ bd n μ0 r' k) ∧ (k < 200 → oI σ' (A 23 4 0) k = 0))) ∧ f_X11_broken_17 F σ (A 11 0 0) (A 24 0 0) (nI n) (nI r) = (f_X0_marked σ' (A 0 0 0)).bind fun v87 => some (v87, σ') := by
  intro d
  induction d with
  | zero =>
    intro F r σ hF hn hR hM
    obtain ⟨F, rfl⟩ : ∃ f, F = f + 1 := ⟨F - 1, by omega⟩
    have hs := hR.1
    have h7 := hs.np
    have e2 : r = n := by omega
    refine ⟨σ, hR, by rw [e2] at hM; exact hM, ?_⟩
    show b_X11_broken_17 (f_X11_broken_17 F) _ _ _ _ _ = _
    rw [b_X11_broken_17, if_pos ((nI_leI (by omega) (by omega)).mpr (by omega)), x_gR hs.k11, hs.r11_6, Option.bind_some, x_gO hs.k0, Option.bind_some]
  | succ d ih =>
    intro F r σ hF hn hR hM
    obtain ⟨F, rfl⟩ : ∃ f, F = f + 1 := ⟨F - 1, by omega⟩
    have hs := hR.1
    have h7 := hs.np
    have hr : r < n := by omega
    have k6 := hs.k6 hr
    have k32 := hs.k32 hr
    have k11 := hs.k11
    obtain ⟨w1, w2⟩ := c_row hs hr
    obtain ⟨L, v, g1, g2, g3, g4, g5, g6, -⟩ := hR.ld hr
    obtain ⟨⟨-, ⟨a3, -⟩, -⟩, ⟨l, q1, q2, q3, q4⟩, -, -⟩ := (hR.2.2.2.2.2.1 r hr).sp
    have c0 : f_X11_broken_17 (F + 1) σ (A 11 0 0) (A 24 0 0) (nI n) (nI r) = if b1 (L % n = r) = 0 then f_X11_broken_17 F σ (A 11 0 0) (A 24 0 0) (nI n) (nI (r + 1)) else if μ0.2 35 r = 2 then f_X11_broken_17 F σ (A 11 0 0) (A 24 0 0) (nI n) (nI (r + 1)) else ((f_X10_execute σ (A 10 0 0) (A 32 r 0) (nI l)).bind fun v61 => (h_gR v61 11 (A 11 0 0) 6).bind fun v65 => (h_gR v61 11 (A 11 0 0) 2).bind fun v71 => (h_gO v61 0 v65).bind fun _ => (f_X0_markNotHeldTo v61 v65 (A 6 r 0) v71).bind fun v74 => f_X11_broken_17 F v74 (A 11 0 0) (A 24 0 0) (nI n) (nI (r + 1))) := by
      show b_X11_broken_17 (f_X11_broken_17 F) _ _ _ _ _ = _
      rw [b_X11_broken_17, if_neg (fun h => by rw [nI_leI (by omega) (by omega)] at h; omega), w2, Option.bind_some, x_gO k6, Option.bind_some, g5, Option.bind_some, x_gI k6, Option.bind_some, a3]
      simp only [f_X11_broken_77, x_gR k11, hs.r11_2, Option.bind_some, x_gR k6, hs.r6_0 hr, x_gI k32, q3, x_gO hs.k10, nI_1]
    have keep : (∀ k, k < f → ¬ bd n μ0 r k) → ∀ k, ((k < f ∧ ∃ r', r' < r + 1 ∧ bd n μ0 r' k) ∧ oI σ (A 23 4 0) k = 1) ∨ (¬ (k < f ∧ ∃ r', r' < r + 1 ∧ bd n μ0 r' k) ∧ (k < 200 → oI σ (A 23 4 0) k = 0)) := fun hno k => by
      rcases hM k with ⟨⟨b1', r', b2, b3⟩, b4⟩ | ⟨b1', b2⟩
      · exact Or.inl ⟨⟨b1', r', by omega, b3⟩, b4⟩
      · refine Or.inr ⟨fun h => ?_, b2⟩
        obtain ⟨h1, r', h2, h3⟩ := h
        rcases (show r' = r ∨ r' < r by omega) with e | e
        · rw [e] at h3; exact hno k h1 h3
        · exact b1' ⟨h1, r', e, h3⟩
    by_cases c1 : L % n = r
    · rw [if_neg (by rw [b1_0]; exact fun x => x c1)] at c0
      by_cases c2 : μ0.2 35 r = 2
      · rw [if_pos c2] at c0
        obtain ⟨σ', y1, y2, y3⟩ := ih F (r + 1) σ (by omega) (by omega) hR (keep fun k _ hb => hb.2.1 c2)
        exact ⟨σ', y1, y2, c0.trans y3⟩
      · rw [if_neg c2] at c0
        obtain ⟨σe, e1, e2, e3⟩ := c_exe hR hr (Nat.le_refl l) q1 q3 q4
        have hRe : RR A n T q h8 vw p u a 0 σe μ0 := hR.fr e3.1 e3.2.1 e3.2.2.1 AgM.rf (fun _ _ => rfl)
        have hse := hRe.1
        obtain ⟨σm, f1, f2, f3, f4, f5⟩ := c_mark hRe hf hf64 hr q1 q2 e3 f lf 0 σe (by unfold lf; omega) (by omega) hRe.1 hRe.2.1 Ag.rf
        have hRm : RR A n T q h8 vw p u a 0 σm μ0 := hRe.mk4 f2 f3 (f4.wk fun s i h => h.2)
        rw [e1, Option.bind_some, x_gR hse.k11, hse.r11_6, Option.bind_some, x_gR hse.k11, hse.r11_2, Option.bind_some, x_gO hse.k0, Option.bind_some] at c0
        have c0' : f_X11_broken_17 (F + 1) σ (A 11 0 0) (A 24 0 0) (nI n) (nI r) = f_X11_broken_17 F σm (A 11 0 0) (A 24 0 0) (nI n) (nI (r + 1)) := by
          rw [c0]
          exact (congrArg (fun x => Option.bind x fun v74 => f_X11_broken_17 F v74 (A 11 0 0) (A 24 0 0) (nI n) (nI (r + 1))) (show f_X0_markNotHeldTo σe (A 0 0 0) (A 6 r 0) (A 10 0 0) = some σm from f1)).trans rfl
        have hlead : ∃ l, l ≤ 64 ∧ μ0.2 33 r = nI l ∧ l % n = r := ⟨L, g1, g2, c1⟩
        obtain ⟨σ', y1, y2, y3⟩ := ih F (r + 1) σm (by omega) (by omega) hRm (fun k => by
          have hold : oI σe (A 23 4 0) k = oI σ (A 23 4 0) k := congrFun ((e3.2.2.1 23 4 0 (show (23 : Nat) ≠ 21 by decide)).1) k
          rcases f5 k with ⟨⟨-, b1', b2, b3⟩, b4⟩ | ⟨b1', b2⟩
          · exact Or.inl ⟨⟨b1', r, by omega, hlead, c2, b2, b3⟩, b4⟩
          · rw [b2, hold]
            rcases hM k with ⟨⟨d1, r', d2, d3⟩, d4⟩ | ⟨d1, d2⟩
            · exact Or.inl ⟨⟨d1, r', by omega, d3⟩, d4⟩
            · refine Or.inr ⟨fun h => ?_, d2⟩
              obtain ⟨h1, r', h2, h3⟩ := h
              rcases (show r' = r ∨ r' < r by omega) with e | e
              · rw [e] at h3; exact b1' ⟨Nat.zero_le _, h1, h3.2.2⟩
              · exact d1 ⟨h1, r', e, h3⟩)
        exact ⟨σ', y1, y2, c0'.trans y3⟩
    · rw [if_pos (by rw [b1_0]; exact c1)] at c0
      obtain ⟨σ', y1, y2, y3⟩ := ih F (r + 1) σ (by omega) (by omega) hR (keep fun k _ hb => by
        obtain ⟨l', h1, h2, h3⟩ := hb.1
        have : l' = L := (nI_eq (by omega) (by omega)).mp (h2.symm.trans g2)
        exact c1 (this ▸ h3))
      exact ⟨σ', y1, y2, c0.trans y3⟩
theorem c_sum (hs : Rs A n σ) (g : Nat → Nat) (hg : ∀ k, k < 200 → oI σ (A 23 4 0) k = nI (g k)) : f_X0_marked σ (A 0 0 0) = some (nI (sumN g 200)) := by
  have k234 : oK σ (A 23 4 0) = 13 := hs.k23 (by decide)
  have z234 : oZ σ (A 23 4 0) = 200 := hs.z23 (by decide)
  have loop : ∀ (d F k : Nat), d < F → 200 = k + d → f_X0_marked_13 F σ (nI (sumN g k)) (A 23 4 0) (nI 200) (nI k) = some (nI (sumN g 200)) := by
    intro d
    induction d with
    | zero =>
      intro F k hF hk
      obtain ⟨F, rfl⟩ : ∃ f, F = f + 1 := ⟨F - 1, by omega⟩
      show b_X0_marked_13 (f_X0_marked_13 F) _ _ _ _ _ = _
      rw [b_X0_marked_13, if_pos ((nI_leI (by omega) (by omega)).mpr (by omega)), show k = 200 by omega]
    | succ d ih =>
      intro F k hF hk
      obtain ⟨F, rfl⟩ : ∃ f, F = f + 1 := ⟨F - 1, by omega⟩
      show b_X0_marked_13 (f_X0_marked_13 F) _ _ _ _ _ = _
      rw [b_X0_marked_13, if_neg (fun h => by rw [nI_leI (by omega) (by omega)] at h; omega), e_aI k234 z234 (by omega : k < 200) (by decide), Option.bind_some, hg k (by omega), nI_add, nI_1, ← sumN_s]
      exact ih F (k + 1) (by omega) (by omega)
  rw [f_X0_marked, x_gR hs.k0, hs.r0_5, Option.bind_some, x_aL k234, z234, Option.bind_some]
  exact loop 200 lf 0 (by unfold lf; omega) (by omega)
theorem sumN_z (g : Nat → Nat) (f : Nat) (hz : ∀ k, f ≤ k → g k = 0) : ∀ d, sumN g (f + d) = sumN g f := by
  intro d
  induction d with
  | zero => rfl
  | succ d ih =>
    rw [← Nat.add_assoc, sumN_s, ih, hz _ (Nat.le_add_right f d)]
    rfl
theorem pb_broken (hI : Inv n t tb σ μ) : ∃ b σ' μ', f_X11_broken σ tb = some (b, σ') ∧ f_X12_broken μ = some (b, μ') ∧ Inv n t tb σ' μ' := by
  obtain ⟨hd, A, q, vw, p, u, a, rfl, hq, hR⟩ := hI
  have hR0 := hR.th 0
  have hs := hR.1
  have h7 := hs.np
  have hi := hs.inj
  have k11 := hs.k11
  have k0 := hs.k0
  obtain ⟨f, hf, -, -, -, f5, -⟩ := hR0.2.2.2.2.2.2.2.1
  have hq64 : q ≤ 64 := hR.2.2.2.2.2.2.2.2.1
  have hf64 : f ≤ 64 := by omega
  have k234 : oK σ (A 23 4 0) = 13 := hs.k23 (by decide)
  have z234 : oZ σ (A 23 4 0) = 200 := hs.z23 (by decide)
  obtain ⟨σu, u1, u2, u3, u4, u5, u6⟩ := c_fillA (x := 0) k234 z234 (by decide)
  have hsu : Rs A n σu := hs.of u2 u3 u4 u5 (fun s i j k hk => by
    rw [u6, if_neg]
    rintro ⟨e, -⟩
    obtain ⟨rfl, rfl, rfl⟩ := (hi _ _ _ _ _ _).mp e
    exact hk rfl)
  have hvu : Vok vw σu := fun v L S hv => by
    obtain ⟨h1, h2, h3⟩ := hR.2.1 v L S hv
    have hne : v ≠ A 23 4 0 := fun e => by rw [e, k234] at h1; exact absurd h1 (by decide)
    refine ⟨by rw [u2]; exact h1, ?_, ?_⟩
    · rw [u6, if_neg (fun h => hne h.1)]; exact h2
    · rw [u6, if_neg (fun h => hne h.1)]; exact h3
  have hag : Ag A σ σu (fun s i => s ≠ 21 ∧ ¬ (s = 23 ∧ i = 4)) := fun s i j h => by
    refine ⟨?_, by rw [u4]⟩
    funext k
    rw [u6, if_neg]
    rintro ⟨e, -⟩
    obtain ⟨rfl, rfl, rfl⟩ := (hi _ _ _ _ _ _).mp e
    exact h.2 ⟨rfl, rfl⟩
  have hRu : RR A n t q h8 vw p u a 0 σu (mS μ 0 0) := hR0.mk4 hsu hvu hag
  obtain ⟨σ', y1, y2, y3⟩ := c_outer (n := n) hf hf64 n lf 0 σu (by unfold lf; omega) (by omega) hRu (fun k => Or.inr ⟨fun h => by obtain ⟨-, r', h, -⟩ := h; omega, fun hk => by rw [u6, if_pos ⟨rfl, hk⟩]⟩)
  obtain ⟨g, hg⟩ : ∃ g : Nat → Nat, ∀ k, (g k = 1 ∧ k < f ∧ ∃ r', r' < n ∧ bd n (mS μ 0 0) r' k) ∨ (g k = 0 ∧ ¬ (k < f ∧ ∃ r', r' < n ∧ bd n (mS μ 0 0) r' k)) := by
    classical
    refine ⟨fun k => if k < f ∧ ∃ r', r' < n ∧ bd n (mS μ 0 0) r' k then 1 else 0, fun k => ?_⟩
    by_cases h : k < f ∧ ∃ r', r' < n ∧ bd n (mS μ 0 0) r' k
    · exact Or.inl ⟨if_pos h, h⟩
    · exact Or.inr ⟨if_neg h, h⟩
  have hsum := c_sum y1.1 g (fun k hk => by
    rcases y2 k with ⟨z1, z2⟩ | ⟨z1, z2⟩
    · rcases hg k with ⟨g1, -⟩ | ⟨-, g2⟩
      · rw [z2, g1]; rfl
      · exact absurd z1 g2
    · rcases hg k with ⟨-, g2⟩ | ⟨g1, -⟩
      · exact absurd g2 z1
      · rw [z2 hk, g1]; rfl)
  have hsz : sumN g 200 = sumN g f := by
    have := sumN_z g f (fun k hk => by
      rcases hg k with ⟨-, g2, -⟩ | ⟨g1, -⟩
      · omega
      · exact g1) (200 - f)
    rw [show f + (200 - f) = 200 by omega] at this
    exact this
  obtain ⟨μ', w1, w2⟩ := m_outer hR0 hf hf64 g (fun k hk => by
    rcases hg k with ⟨g1, -, g2⟩ | ⟨g1, g2⟩
    · exact Or.inl ⟨g1, g2⟩
    · exact Or.inr ⟨g1, fun r' hr' hb => g2 ⟨hk, r', hr', hb⟩⟩) f lf 0 (mS μ 0 0) (by unfold lf; omega) (by omega) AgS.rf
  refine ⟨nI (sumN g f), σ', μ', ?_, ?_, (y1.fr y1.1 y1.2.1 Ag.rf (w2.1.wk fun j i h => ⟨h.2.2.1, h.2.2.2⟩) (fun k _ => by rw [w2.2])).inv hq ((hd.th 0).rw fun j i h1 h2 => w2.1 j i (by omega))⟩
  · rw [f_X11_broken, x_gR k11, hs.r11_6, Option.bind_some, x_gO k0, Option.bind_some, f_X0_unmark, x_gR k0, hs.r0_5, Option.bind_some, u1, Option.bind_some, Option.bind_some, x_gR hsu.k11, hsu.r11_4, Option.bind_some, x_aL hsu.k24, hsu.z24, Option.bind_some]
    refine Eq.trans (show f_X11_broken_17 lf σu (A 11 0 0) (A 24 0 0) (nI n) 0 = _ from y3) ?_
    rw [hsum, Option.bind_some, hsz]
  · rw [f_X12_broken, m_P, Option.bind_some]
    exact w1
theorem c_exe0 {x : Int32} (h : x < 0) (a0 a1 : Nat) : f_X10_execute σ a0 a1 x = f_X10_execute σ a0 a1 (nI 0) := by
  have hlf : lf = 4999 + 1 := rfl
  have hF : ∀ τ y, y < (1 : Int32) → f_X10_execute_26 lf τ a0 a1 y 1 = some τ := fun τ y hy => by
    rw [hlf]
    show b_X10_execute_26 (f_X10_execute_26 4999) _ _ _ _ _ = _
    rw [b_X10_execute_26, if_pos hy]
  have h1 : x < (1 : Int32) := by
    have z0 : (0 : Int32).toInt = 0 := by decide
    have z1 : (1 : Int32).toInt = 1 := by decide
    rw [Int32.lt_iff_toInt_lt] at h ⊢
    omega
  unfold f_X10_execute
  simp only [hF _ x h1, hF _ (nI 0) (by decide)]
theorem m_exe0 {x : Int32} (h : x < 0) (x1 : Int32) : f_X12_execute μ x1 x = f_X12_execute μ x1 (nI 0) := by
  have hlf : lf = 4999 + 1 := rfl
  have hF : ∀ τ y, y ≤ (nI 0) → f_X12_execute_50 lf τ x1 y (nI 0) = some τ := fun τ y hy => by
    rw [hlf]
    show b_X12_execute_50 (f_X12_execute_50 4999) _ _ _ _ = _
    rw [b_X12_execute_50, if_pos hy]
  have h1 : x ≤ nI 0 := by
    have z0 : (0 : Int32).toInt = 0 := by decide
    have z1 : (nI 0).toInt = 0 := by decide
    rw [Int32.lt_iff_toInt_lt] at h
    rw [Int32.le_iff_toInt_le]
    omega
  have hall : ∀ y, y ≤ nI 0 → f_X12_execute μ x1 y = some (zM (zM (zM μ 76 8 0) 77 4 0) 78 4 0) := fun y hy => by
    unfold f_X12_execute
    rw [show (0 : Int32) = nI 0 from rfl, m_z76 8 lf μ 0 (by unfold lf; omega) rfl, f_X12_execute_21, show (0 : Int32) = nI 0 from rfl, m_z77 4 lf _ 0 (by unfold lf; omega) rfl, f_X12_execute_48, show (0 : Int32) = nI 0 from rfl]
    exact hF _ y hy
  rw [hall x h1, hall (nI 0) (Int32.le_refl _)]
theorem pb_word (hI : Inv n t tb σ μ) (x y : Int32) : ∃ b σ' μ', f_X11_word σ tb x y = some (b, σ') ∧ f_X12_word μ x y = some (b, μ') ∧ Inv n t tb σ' μ' := by
  obtain ⟨hd, A, q, vw, p, u, a, rfl, hq, hR⟩ := hI
  have hR0 := hR.th 0
  have hs := hR.1
  have h7 := hs.np
  have k11 := hs.k11
  have k10 := hs.k10
  rcases c_rpl hR x with ⟨r, hr, rfl, e1, e2⟩ | ⟨e1, e2⟩
  · rcases c_key (A 11 0 0) y with ⟨k, hk, rfl, e3, e4⟩ | ⟨e3, e4⟩
    · have hr7 : r < 7 := by omega
      obtain ⟨w1, w2⟩ := c_row hs hr
      have k6 := hs.k6 hr
      have k32 := hs.k32 hr
      obtain ⟨L, v, g1, g2, g3, g4, g5, g6, -⟩ := hR0.ld hr
      obtain ⟨⟨-, ⟨a3, -⟩, -, -, -, a8, -⟩, ⟨l, q1, q2, q3, q4⟩, -, -⟩ := (hR0.2.2.2.2.2.1 r hr).sp
      -- how far
      have hmin : f_J9_min_7cf53 ((mS μ 0 0).2 40 r) (nI l) = some (if nI l ≤ (mS μ 0 0).2 40 r then nI l else (mS μ 0 0).2 40 r) := by
        unfold f_J9_min_7cf53
        by_cases c : nI l < (mS μ 0 0).2 40 r
        · rw [if_pos c, if_pos (by rw [Int32.lt_iff_toInt_lt] at c; rw [Int32.le_iff_toInt_le]; omega)]
        · rw [if_neg c]
          by_cases c2 : nI l ≤ (mS μ 0 0).2 40 r
          · rw [if_pos c2]
            congr 1
            rw [Int32.lt_iff_toInt_lt] at c
            rw [Int32.le_iff_toInt_le] at c2
            exact Int32.toInt_inj.mp (by omega)
          · rw [if_neg c2]
      obtain ⟨e, he1, he2, he3⟩ : ∃ e, f_X6_executed σ (A 6 r 0) = some e ∧ f_X12_executed (mS μ 0 0) (nI r) = some e ∧ (e < 0 ∨ ∃ m, m ≤ l ∧ e = nI m) := by
        have hle : ∀ e, e = (if nI l ≤ (mS μ 0 0).2 40 r then nI l else (mS μ 0 0).2 40 r) → (e < 0 ∨ ∃ m, m ≤ l ∧ e = nI m) := fun e he => by
          by_cases c : nI l ≤ (mS μ 0 0).2 40 r
          · rw [if_pos c] at he
            exact Or.inr ⟨l, Nat.le_refl _, he⟩
          · rw [if_neg c] at he
            by_cases c2 : e < 0
            · exact Or.inl c2
            · obtain ⟨j, hj, e'⟩ := nI_of c2
              refine Or.inr ⟨j, ?_, e'⟩
              rw [← he, e', nI_leI (by omega) hj] at c
              omega
        have hm25 : f_X12_executed_25 (mS μ 0 0) (nI r) = some (if nI l ≤ (mS μ 0 0).2 40 r then nI l else (mS μ 0 0).2 40 r) := by
          rw [f_X12_executed_25, mA_n 40 r hr7, Option.bind_some, mA_n 38 r hr7, Option.bind_some, q2, Option.bind_some, Option.bind_some]
          by_cases c : nI l ≤ (mS μ 0 0).2 40 r
          · rw [if_pos c, if_pos c]
          · rw [if_neg c, if_neg c]
        rw [f_X6_executed, x_gO k6, Option.bind_some, g5, Option.bind_some, x_gI k6, Option.bind_some, a8, x_gR k6, hs.r6_0 hr, Option.bind_some, x_gI k32, Option.bind_some, q3, hmin, Option.bind_some, x_gI k6, Option.bind_some, a3, f_X12_executed, g6, Option.bind_some, hm25, mA_n 35 r hr7, Option.bind_some, mA_n 38 r hr7, Option.bind_some, q2]
        simp only [Option.bind_some, hmin, x_gI k32, q3]
        by_cases c1 : b1 (L % n = r) = 0
        · simp only [if_pos c1]
          exact ⟨_, rfl, rfl, hle _ rfl⟩
        · simp only [if_neg c1]
          by_cases c2 : (mS μ 0 0).2 35 r = 2
          · simp only [if_pos c2]
            exact ⟨_, rfl, rfl, hle _ rfl⟩
          · simp only [if_neg c2]
            exact ⟨_, rfl, rfl, Or.inr ⟨l, Nat.le_refl _, rfl⟩⟩
      obtain ⟨m, hm, hce, hme⟩ : ∃ m, m ≤ l ∧ f_X10_execute σ (A 10 0 0) (A 32 r 0) e = f_X10_execute σ (A 10 0 0) (A 32 r 0) (nI m) ∧ f_X12_execute (mS μ 0 0) (nI r) e = f_X12_execute (mS μ 0 0) (nI r) (nI m) := by
        rcases he3 with h | ⟨m, h1, h2⟩
        · exact ⟨0, Nat.zero_le _, c_exe0 h _ _, m_exe0 h _⟩
        · exact ⟨m, h1, by rw [h2], by rw [h2]⟩
      obtain ⟨σe, x1, x2, x3⟩ := c_exe hR0 hr hm q1 q3 q4
      have hse := x3.1
      obtain ⟨z1, z2⟩ := x3.kp hR0
      have k210 : oK σe (A 21 0 0) = 13 := hse.k21 (by decide)
      refine ⟨oI σe (A 21 0 0) k, σe, exM (mS μ 0 0) r m, ?_, ?_, z1.inv hq ((hd.th 0).cg (fun i => z2.2.1 32 i (Or.inr (Or.inr (Or.inr rfl)))) z2.2.2.2)⟩
      · rw [f_X11_word, x_gO k11, Option.bind_some, e2, Option.bind_some, if_neg n10, Option.bind_some, e4, Option.bind_some, if_neg n10, x_gR k11, hs.r11_2, Option.bind_some, w1, Option.bind_some, w2, Option.bind_some, x_gR k6, hs.r6_0 hr, Option.bind_some, Option.bind_some, w2, Option.bind_some, x_gO k6, Option.bind_some, he1, Option.bind_some, x_gO k10, Option.bind_some, hce, x1, Option.bind_some, x_gR hse.k11, hse.r11_2, Option.bind_some, x_gR hse.k10, hse.r10_0, Option.bind_some, e_aI k210 (hse.z21 (i := 0) (by decide)) hk (by decide), Option.bind_some]
      · rw [f_X12_word, m_P, Option.bind_some, show (mS μ 0 0).1 1 = μ.1 1 from rfl, e1, Option.bind_some, if_neg n10, e3, Option.bind_some, if_neg n10, he2, Option.bind_some, hme, x2, Option.bind_some, mA_n 76 k hk, Option.bind_some, x3.2.2.2.2.2.1 k hk]
    · refine ⟨0, σ, _, ?_, ?_, hR0.inv hq (hd.th 0)⟩
      · rw [f_X11_word, x_gO k11, Option.bind_some, e2, Option.bind_some, if_neg n10, Option.bind_some, e4, Option.bind_some, if_pos rfl]
      · rw [f_X12_word, m_P, Option.bind_some, show (mS μ 0 0).1 1 = μ.1 1 from rfl, e1, Option.bind_some, if_neg n10, e3, Option.bind_some, if_pos rfl]
  · refine ⟨0, σ, _, ?_, ?_, hR0.inv hq (hd.th 0)⟩
    · rw [f_X11_word, x_gO k11, Option.bind_some, e2, Option.bind_some, if_pos rfl]
    · rw [f_X12_word, m_P, Option.bind_some, show (mS μ 0 0).1 1 = μ.1 1 from rfl, e1, Option.bind_some, if_pos rfl]
end BRD
