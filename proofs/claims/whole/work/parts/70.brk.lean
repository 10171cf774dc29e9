/-! what is not held to: the class's marks -/
section BRC
variable {A : Ad} {n T q t tb : Nat} {hb : Nat → Nat} {vw : Vw} {p u : Nat → Nat} {a f : Nat} {σ σe σ' : Hp} {μ μ0 : Mu}
/-- only scratch and marks change -/
theorem RR.mk4 (hR : RR A n T q hb vw p u a 0 σ μ0) (hs : Rs A n σ') (hv : Vok vw σ') (hc : Ag A σ σ' (fun s i => s ≠ 21 ∧ ¬ (s = 23 ∧ i = 4))) : RR A n T q hb vw p u a 0 σ' μ0 := by
  obtain ⟨r1, r2, r3, r4, r5, r6, r7, r8, r9, r10⟩ := hR
  have hM : ∀ S, AgM μ0 μ0 S := fun S => AgM.rf
  refine ⟨hs, hv, r3.cg (hc.wk ?_) (fun _ _ => rfl), r4.cg (hc.wk ?_) (hM _) rfl, r5.cg (hc.wk ?_) (hM _) ⟨rfl, rfl, rfl⟩, fun r hr => (r6 r hr).cg hs.np.2 (hc.wk ?_) (hM _), fun c hc' => (r7 c hc').cg (hc.wk ?_) (hM _), ?_, r9, r10⟩
  · intro s i h; omega
  · intro s i h; omega
  · intro s i h; omega
  · intro s i h; unfold fpR at h; omega
  · intro s i h; unfold fpC at h; omega
  · obtain ⟨f, f1, f2, f3, f4, f5, f6⟩ := r8
    refine ⟨f, f1, ?_, ?_, ?_, f5, fun k hk => ?_⟩
    · rw [(hc 0 0 0 (by omega)).1]; exact f2
    · rw [(hc 0 0 0 (by omega)).1]; exact f3
    · rw [(hc 0 0 0 (by omega)).1]; exact f4
    · rw [(hc 23 0 0 (by omega)).1, (hc 23 1 0 (by omega)).2, (hc 23 2 0 (by omega)).1, (hc 23 3 0 (by omega)).1]
      exact f6 k hk
/-- the marks of one replica's facts -/
theorem c_mark (hR : RR A n T q hb vw p u a 0 σe μ0) (hf : μ0.1 70 = nI f) (hf64 : f ≤ 64) {r : Nat} (hr : r < n) {l : Nat} (hl : l ≤ 100) (h38 : μ0.2 38 r = nI l) {σ0 : Hp} (hI : Iw A n q vw σ0 σe μ0 r l) : ∀ (d F i : Nat) (σ : Hp), d < F → f = i + d → Rs A n σ → Vok vw σ → Ag A σe σ (fun s i => ¬ (s = 23 ∧ i = 4)) → ∃ σ', f_X0_markNotHeldTo_2 F σ (A 0 0 0) (A 6 r 0) (A 10 0 0) (nI i) = some σ' ∧ Rs A n σ' ∧ Vok vw σ' ∧ Ag A σe σ' (fun s i => ¬ (s = 23 ∧ i = 4)) ∧ ∀ k, ((i ≤ k ∧ k < f ∧ relP μ0 r k ∧ ¬ gdE μ0 r k) ∧ oI σ' (A 23 4 0) k = 1) ∨ (¬ (i ≤ k ∧ k < f ∧ relP μ0 r k ∧ ¬ gdE μ0 r k) ∧ oI σ' (A 23 4 0) k = oI σ (A 23 4 0) k) := by
  have hse := hR.1
  have h7 := hse.np
  have hi := hse.inj
  obtain ⟨L, v, g1, g2, g3, g4, g5, g6, -⟩ := hR.ld hr
  obtain ⟨⟨-, -, ⟨⟨v', z1, z2⟩, -⟩, -⟩, ⟨l', q1, q2, q3, q4⟩, -, -⟩ := (hR.2.2.2.2.2.1 r hr).sp
  have ell : l' = l := (nI_eq (by omega) (by omega)).mp (q2.symm.trans h38)
  subst ell
  have hkept : oI σe (A 0 0 0) 6 = nI f := by
    obtain ⟨f', f1, f2, f3, f4, f5, f6⟩ := hR.2.2.2.2.2.2.2.1
    rw [f3, ← f1, hf]
  intro d
  induction d with
  | zero =>
    intro F i σ hF hid hs hv hag
    obtain ⟨F, rfl⟩ : ∃ f, F = f + 1 := ⟨F - 1, by omega⟩
    refine ⟨σ, ?_, hs, hv, hag, fun k => Or.inr ⟨fun h => by omega, rfl⟩⟩
    show b_X0_markNotHeldTo_2 (f_X0_markNotHeldTo_2 F) _ _ _ _ _ = _
    rw [b_X0_markNotHeldTo_2, x_gI hs.k0, Option.bind_some, (hag 0 0 0 (by omega)).1, hkept, if_pos ((nI_leI (by omega) (by omega)).mpr (by omega))]
  | succ d ih =>
    intro F i σ hF hid hs hv hag
    obtain ⟨F, rfl⟩ : ∃ f, F = f + 1 := ⟨F - 1, by omega⟩
    have hif : i < f := by omega
    have hi200 : i < 200 := by omega
    obtain ⟨id, s, c, i1, i2, i3, i4, i4', i5, i6, i6', i7, i8, ⟨w, i9, i9'⟩, i10⟩ := hR.fact hf hf64 hif
    have k0 := hs.k0
    have k6 := hs.k6 hr
    have k10 := hs.k10
    have k32 := hs.k32 hr
    have k230 : oK σ (A 23 0 0) = 13 := hs.k23 (by decide)
    have k231 : oK σ (A 23 1 0) = 19 := hs.k23 (by decide)
    have k232 : oK σ (A 23 2 0) = 13 := hs.k23 (by decide)
    have k233 : oK σ (A 23 3 0) = 13 := hs.k23 (by decide)
    have k234 : oK σ (A 23 4 0) = 13 := hs.k23 (by decide)
    have z230 : oZ σ (A 23 0 0) = 200 := hs.z23 (by decide)
    have z231 : oZ σ (A 23 1 0) = 200 := hs.z23 (by decide)
    have z232 : oZ σ (A 23 2 0) = 200 := hs.z23 (by decide)
    have z233 : oZ σ (A 23 3 0) = 200 := hs.z23 (by decide)
    have z234 : oZ σ (A 23 4 0) = 200 := hs.z23 (by decide)
    have k212 : oK σ (A 21 2 0) = 13 := hs.k21 (by decide)
    have k213 : oK σ (A 21 3 0) = 13 := hs.k21 (by decide)
    have z212 : oZ σ (A 21 2 0) = 513 := hs.z21 (i := 2) (by decide)
    have z213 : oZ σ (A 21 3 0) = 513 := hs.z21 (i := 3) (by decide)
    have n234 : oK σ (A 23 4 0) ≠ 9 := by rw [k234]; decide
    have e0 := hag 0 0 0 (by omega)
    have e230 := hag 23 0 0 (by omega)
    have e231 := hag 23 1 0 (by omega)
    have e232 := hag 23 2 0 (by omega)
    have e233 := hag 23 3 0 (by omega)
    have e6 := hag 6 r 0 (by omega)
    have e32 := hag 32 r 0 (by omega)
    have e33 := hag 33 r 0 (by omega)
    have e212 := hag 21 2 0 (by omega)
    have e213 := hag 21 3 0 (by omega)
    have hw : IsV σ w _ _ := hv w _ _ i9'
    have hvv : IsV σ v' (μ0.2 33 r) (μ0.2 34 r) := hv v' _ _ z2
    obtain ⟨xb, x1, x2⟩ := behind hw hvv
    have hgd := gdE_iff (μ := μ0) (r := r) (k := i) i4 (by omega) i6 i5 i8 i7 h38 hl
    have hat : f_X4_at σ (A 32 r 0) (nI (s + 1)) = some (if s < l' then μ0.2 42 (100 * r + s) else 0) := by
      have hlen : oI σ (A 32 r 0) 1 = nI l' := by rw [e32.1]; exact q3
      by_cases c1 : s < l'
      · have := (q4 s c1).1
        rw [rwM_at (by omega)] at this
        rw [if_pos c1, c_lat k32 (hs.r32_0 hr) (hs.k33 hr) (hs.z33 hr) hlen c1 hl, e33.1, this]
      · rw [if_neg c1, f_X4_at, if_neg (by rw [l1, nI_ltI (by omega) (by omega)]; omega), x_gI k32, Option.bind_some, hlen, if_pos (by rw [nI_ltI (by omega) (by omega)]; omega)]
    have hid513 : id < 513 := by omega
    have h82 : ∀ y0, f_X0_markNotHeldTo_82 (f_X0_markNotHeldTo_2 F) σ (A 0 0 0) (A 6 r 0) (A 10 0 0) (nI i) y0 = if (if s < l' then μ0.2 42 (100 * r + s) else 0) = nI id then (if y0 = 0 then f_X0_markNotHeldTo_2 F σ (A 0 0 0) (A 6 r 0) (A 10 0 0) (nI (i + 1)) else f_X0_markNotHeldTo_2 F (sI σ (A 23 4 0) i 1) (A 0 0 0) (A 6 r 0) (A 10 0 0) (nI (i + 1))) else f_X0_markNotHeldTo_2 F (sI σ (A 23 4 0) i 1) (A 0 0 0) (A 6 r 0) (A 10 0 0) (nI (i + 1)) := fun y0 => by
      rw [f_X0_markNotHeldTo_82, x_gR k6, hs.r6_0 hr, Option.bind_some, x_gR k0, hs.r0_3, Option.bind_some, e_aI k232 z232 hi200 (by decide), Option.bind_some, e232.1, i6', x_gO k32, Option.bind_some, hat, Option.bind_some, x_gR k0, hs.r0_1, Option.bind_some, e_aI k230 z230 hi200 (by decide), Option.bind_some, e230.1, i4']
      simp only [f_X0_markNotHeldTo_118, f_X0_markNotHeldTo_111, x_gR k0, hs.r0_5, Option.bind_some, e_qI k234 z234 hi200 (by decide), nI_1]
    have h45 : f_X0_markNotHeldTo_45 (f_X0_markNotHeldTo_2 F) σ (A 0 0 0) (A 6 r 0) (A 10 0 0) (nI i) = if oI σe (A 21 2 0) id = 0 then f_X0_markNotHeldTo_82 (f_X0_markNotHeldTo_2 F) σ (A 0 0 0) (A 6 r 0) (A 10 0 0) (nI i) 0 else if oI σe (A 21 3 0) id = μ0.2 75 i then f_X0_markNotHeldTo_82 (f_X0_markNotHeldTo_2 F) σ (A 0 0 0) (A 6 r 0) (A 10 0 0) (nI i) 0 else f_X0_markNotHeldTo_82 (f_X0_markNotHeldTo_2 F) σ (A 0 0 0) (A 6 r 0) (A 10 0 0) (nI i) 1 := by
      have hex : f_X10_hasExecuted σ (A 10 0 0) (nI id) = if oI σe (A 21 2 0) id = 0 then some 0 else some 1 := by
        rw [f_X10_hasExecuted, x_gR k10, hs.r10_3, Option.bind_some, e_aI k212 z212 hid513 (by decide), Option.bind_some, e212.1]
      have han : f_X10_answerTo σ (A 10 0 0) (nI id) = some (oI σe (A 21 3 0) id) := by
        rw [f_X10_answerTo, x_gR k10, hs.r10_4, Option.bind_some, e_aI k213 z213 hid513 (by decide), Option.bind_some, e213.1]
      rw [f_X0_markNotHeldTo_45, x_gR k0, hs.r0_1, Option.bind_some, e_aI k230 z230 hi200 (by decide), Option.bind_some, e230.1, i4', x_gO k10, Option.bind_some, hex]
      simp only [f_X0_markNotHeldTo_81]
      by_cases c1 : oI σe (A 21 2 0) id = 0
      · rw [if_pos c1, Option.bind_some, if_pos rfl, if_pos c1]
      · rw [if_neg c1, Option.bind_some, if_neg n10, if_neg c1, Option.bind_some, e_aI k230 z230 hi200 (by decide), Option.bind_some, e230.1, i4', Option.bind_some, han, Option.bind_some, x_gR k0, hs.r0_4, Option.bind_some, e_aI k233 z233 hi200 (by decide), Option.bind_some, e233.1, i10]
    have hne0 : ¬ (0 : Int32) = nI id := fun h => nI_ne0 (by omega) (by omega) h.symm
    have h45' : (gdQ μ0 r i id s c l' → f_X0_markNotHeldTo_45 (f_X0_markNotHeldTo_2 F) σ (A 0 0 0) (A 6 r 0) (A 10 0 0) (nI i) = f_X0_markNotHeldTo_2 F σ (A 0 0 0) (A 6 r 0) (A 10 0 0) (nI (i + 1))) ∧ (¬ gdQ μ0 r i id s c l' → f_X0_markNotHeldTo_45 (f_X0_markNotHeldTo_2 F) σ (A 0 0 0) (A 6 r 0) (A 10 0 0) (nI i) = f_X0_markNotHeldTo_2 F (sI σ (A 23 4 0) i 1) (A 0 0 0) (A 6 r 0) (A 10 0 0) (nI (i + 1))) := by
      rw [h45, h82, h82]
      have hIc := hI.2.2.2.2.2.2.2 id c i1 i2 i7 i8
      by_cases d1 : s < l'
      · rw [if_pos d1]
        by_cases d2 : μ0.2 42 (100 * r + s) = nI id
        · rw [if_pos d2, if_pos rfl, if_pos d2, if_neg n10]
          rcases hIc with ⟨y1, -, j, y2, y3, y4, y5⟩ | ⟨y1, -, y3⟩
          · have hfr : frs μ0 r c (μ0.2 5 id) j := ⟨y3, y5⟩
            have hge : gdQ μ0 r i id s c l' ↔ oI σe (A 21 3 0) id = μ0.2 75 i := by
              rw [← y4]
              exact ⟨fun h => h.2.2 j y2 hfr, fun h => ⟨d1, d2, fun j' _ hf' => by rw [frs_u hf' hfr]; exact h⟩⟩
            rw [if_neg (by rw [y1]; decide)]
            constructor
            · intro h
              rw [if_pos (hge.mp h)]
            · intro h
              rw [if_neg (fun x => h (hge.mpr x))]
          · have hge : gdQ μ0 r i id s c l' := ⟨d1, d2, fun j' hj' hf' => absurd hf'.1 (y3 j' hj')⟩
            rw [if_pos y1]
            exact ⟨fun _ => rfl, fun h => absurd hge h⟩
        · rw [if_neg d2, if_neg d2, ite_self, ite_self]
          exact ⟨fun h => absurd h.2.1 d2, fun _ => rfl⟩
      · rw [if_neg d1, if_neg hne0, if_neg hne0, ite_self, ite_self]
        exact ⟨fun h => absurd h.1 d1, fun _ => rfl⟩
    have c0 : f_X0_markNotHeldTo_2 (F + 1) σ (A 0 0 0) (A 6 r 0) (A 10 0 0) (nI i) = if b1 (μ0.2 72 i = μ0.2 33 r ∧ μ0.2 73 i = μ0.2 34 r) = 0 then (if xb = 0 then f_X0_markNotHeldTo_2 F σ (A 0 0 0) (A 6 r 0) (A 10 0 0) (nI (i + 1)) else f_X0_markNotHeldTo_45 (f_X0_markNotHeldTo_2 F) σ (A 0 0 0) (A 6 r 0) (A 10 0 0) (nI i)) else f_X0_markNotHeldTo_45 (f_X0_markNotHeldTo_2 F) σ (A 0 0 0) (A 6 r 0) (A 10 0 0) (nI i) := by
      show b_X0_markNotHeldTo_2 (f_X0_markNotHeldTo_2 F) _ _ _ _ _ = _
      rw [b_X0_markNotHeldTo_2, x_gI k0, Option.bind_some, e0.1, hkept, if_neg (fun h => by rw [nI_leI (by omega) (by omega)] at h; omega), x_gR k0, hs.r0_2, Option.bind_some, e_aR k231 z231 hi200 (by decide) (by rw [e231.2]; exact i9), Option.bind_some, x_gR k6, e6.2, z1, Option.bind_some, x_gO hw.1, Option.bind_some, c_same hw hvv, Option.bind_some]
      have har : h_aR σ 19 (A 23 1 0) (nI i) = some w := e_aR k231 z231 hi200 (by decide) (by rw [e231.2]; exact i9)
      simp only [Option.bind_some, har, x_gO hw.1, x1, x2, f_X0_markNotHeldTo_118, nI_1]
    -- what comes next
    have fin : ∀ (σn : Hp), Rs A n σn → Vok vw σn → Ag A σe σn (fun s i => ¬ (s = 23 ∧ i = 4)) → f_X0_markNotHeldTo_2 (F + 1) σ (A 0 0 0) (A 6 r 0) (A 10 0 0) (nI i) = f_X0_markNotHeldTo_2 F σn (A 0 0 0) (A 6 r 0) (A 10 0 0) (nI (i + 1)) → (((relP μ0 r i ∧ ¬ gdE μ0 r i) ∧ σn = sI σ (A 23 4 0) i 1) ∨ (¬ (relP μ0 r i ∧ ¬ gdE μ0 r i) ∧ σn = σ)) → ∃ σ', f_X0_markNotHeldTo_2 (F + 1) σ (A 0 0 0) (A 6 r 0) (A 10 0 0) (nI i) = some σ' ∧ Rs A n σ' ∧ Vok vw σ' ∧ Ag A σe σ' (fun s i => ¬ (s = 23 ∧ i = 4)) ∧ ∀ k, ((i ≤ k ∧ k < f ∧ relP μ0 r k ∧ ¬ gdE μ0 r k) ∧ oI σ' (A 23 4 0) k = 1) ∨ (¬ (i ≤ k ∧ k < f ∧ relP μ0 r k ∧ ¬ gdE μ0 r k) ∧ oI σ' (A 23 4 0) k = oI σ (A 23 4 0) k) := fun σn a1 a2 a3 a4 a5 => by
      obtain ⟨σ', y1, y2, y3, y4, y5⟩ := ih F (i + 1) σn (by omega) (by omega) a1 a2 a3
      refine ⟨σ', a4.trans y1, y2, y3, y4, fun k => ?_⟩
      rcases y5 k with ⟨⟨b1', b2, b3⟩, b4⟩ | ⟨b1', b2⟩
      · exact Or.inl ⟨⟨by omega, b2, b3⟩, b4⟩
      · by_cases ek : k = i
        · subst ek
          rcases a5 with ⟨a5, a6⟩ | ⟨a5, a6⟩
          · refine Or.inl ⟨⟨Nat.le_refl _, hif, a5⟩, ?_⟩
            rw [b2, a6]
            simp only [oK_sI, oK_sR, oK_sC, oZ_sI, oZ_sR, oZ_sC, xI_sI, oI_sR, xI_sC, oR_sI, xR_sR, oR_sC, Option.bind_some, if_true, if_false, Nat.reduceEqDiff, true_and, and_true, false_and, and_false]
          · exact Or.inr ⟨fun h => a5 h.2.2, by rw [b2, a6]⟩
        · refine Or.inr ⟨fun h => b1' ⟨by omega, h.2⟩, ?_⟩
          rw [b2]
          rcases a5 with ⟨-, a6⟩ | ⟨-, a6⟩
          · rw [a6]
            simp only [oK_sI, oK_sR, oK_sC, oZ_sI, oZ_sR, oZ_sC, xI_sI, oI_sR, xI_sC, oR_sI, xR_sR, oR_sC, Option.bind_some, if_true, if_false, Nat.reduceEqDiff, true_and, and_true, false_and, and_false, ek]
          · rw [a6]
    have hsn : Rs A n (sI σ (A 23 4 0) i 1) := hs.sI rfl
    have hvn : Vok vw (sI σ (A 23 4 0) i 1) := hv.sI n234
    have han : Ag A σe (sI σ (A 23 4 0) i 1) (fun s i => ¬ (s = 23 ∧ i = 4)) := (hag.tr (Ag.sI hs.1)).wk fun s i h => ⟨h, by omega⟩
    have viaB : relP μ0 r i → f_X0_markNotHeldTo_2 (F + 1) σ (A 0 0 0) (A 6 r 0) (A 10 0 0) (nI i) = f_X0_markNotHeldTo_45 (f_X0_markNotHeldTo_2 F) σ (A 0 0 0) (A 6 r 0) (A 10 0 0) (nI i) → ∃ σ', f_X0_markNotHeldTo_2 (F + 1) σ (A 0 0 0) (A 6 r 0) (A 10 0 0) (nI i) = some σ' ∧ Rs A n σ' ∧ Vok vw σ' ∧ Ag A σe σ' (fun s i => ¬ (s = 23 ∧ i = 4)) ∧ ∀ k, ((i ≤ k ∧ k < f ∧ relP μ0 r k ∧ ¬ gdE μ0 r k) ∧ oI σ' (A 23 4 0) k = 1) ∨ (¬ (i ≤ k ∧ k < f ∧ relP μ0 r k ∧ ¬ gdE μ0 r k) ∧ oI σ' (A 23 4 0) k = oI σ (A 23 4 0) k) := fun hrel he => by
      by_cases hg : gdQ μ0 r i id s c l'
      · exact fin σ hs hv hag (he.trans (h45'.1 hg)) (Or.inr ⟨fun h => h.2 (hgd.mpr hg), rfl⟩)
      · exact fin _ hsn hvn han (he.trans (h45'.2 hg)) (Or.inl ⟨⟨hrel, fun h => hg (hgd.mp h)⟩, rfl⟩)
    by_cases c1 : μ0.2 72 i = μ0.2 33 r ∧ μ0.2 73 i = μ0.2 34 r
    · rw [if_neg (by rw [b1_0]; exact fun x => x c1)] at c0
      exact viaB (Or.inl c1) c0
    · rw [if_pos (by rw [b1_0]; exact c1)] at c0
      by_cases c2 : xb = 0
      · rw [if_pos c2] at c0
        refine fin σ hs hv hag c0 (Or.inr ⟨fun h => ?_, rfl⟩)
        rcases h.1 with h | ⟨x', h, h'⟩
        · exact c1 h
        · exact h' ((Option.some.inj (h.symm.trans x2)).trans c2)
      · rw [if_neg c2] at c0
        exact viaB (Or.inr ⟨xb, x2, c2⟩) c0
end BRC
