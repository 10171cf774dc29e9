/-! steps of a replica: sending to all -/
def Sd (A : Ad) (n T q : Nat) (hb : Nat → Nat) (vw : Vw) (p u : Nat → Nat) (σ : Hp) (μ : Mu) (c : Option Hp) (m : Option Mu) : Prop := ∃ σ' μ' a', c = some σ' ∧ m = some μ' ∧ RR A n T q hb vw p u a' 0 σ' μ' ∧ Kq A p σ σ' μ μ'
section SDS
variable {A : Ad} {n T q : Nat} {hb : Nat → Nat} {vw : Vw} {p u : Nat → Nat} {a r : Nat} {σ : Hp} {μ : Mu}
theorem Sd.rf (hR : RR A n T q hb vw p u a 0 σ μ) : Sd A n T q hb vw p u σ μ (some σ) (some μ) := ⟨σ, μ, a, rfl, rfl, hR, Kq.rf⟩
theorem Sd.tr {σ' : Hp} {μ' : Mu} {c : Option Hp} {m : Option Mu} (hk : Kq A p σ σ' μ μ') (h : Sd A n T q hb vw p u σ' μ' c m) : Sd A n T q hb vw p u σ μ c m := by
  obtain ⟨σ2, μ2, a', h1, h2, h3, h4⟩ := h
  exact ⟨σ2, μ2, a', h1, h2, h3, hk.tr h4⟩
theorem all_loop (hr : r < n) {x : Int32} {kk : Nat} (hx : x = nI kk) (hk : kk = 3 ∨ kk = 7 ∨ kk = 8) {t : Int32} (ht : kk = 3 → Rid 100 t) : ∀ d (F F' k : Nat) (σ : Hp) (μ : Mu) (a : Nat), d < F → d < F' → n = k + d → RR A n T q hb vw p u a 0 σ μ → Sd A n T q hb vw p u σ μ (f_X6_sendToOthers_2 F σ (A 6 r 0) x t (nI k)) (f_X12_all_3 F' μ x (nI r) t (nI k)) := by
  intro d
  induction d with
  | zero =>
    intro F F' k σ μ a hF hF' hn hR
    obtain ⟨F, rfl⟩ : ∃ f, F = f + 1 := ⟨F - 1, by omega⟩
    obtain ⟨F', rfl⟩ : ∃ f, F' = f + 1 := ⟨F' - 1, by omega⟩
    show Sd _ _ _ _ _ _ _ _ _ _ (b_X6_sendToOthers_2 (f_X6_sendToOthers_2 F) σ _ _ _ _) (b_X12_all_3 (f_X12_all_3 F') μ _ _ _ _)
    have hs := hR.1
    have h7 := hs.np
    have e1 : nI n ≤ nI k := (nI_leI (by omega) (by omega)).mpr (by omega)
    rw [b_X6_sendToOthers_2, b_X12_all_3, x_gI (hs.k6 hr), Option.bind_some, hs.i6_10 hr, hR.2.2.1.2.2.2.2.1, if_pos e1, if_pos e1]
    exact Sd.rf hR
  | succ d ih =>
    intro F F' k σ μ a hF hF' hn hR
    obtain ⟨F, rfl⟩ : ∃ f, F = f + 1 := ⟨F - 1, by omega⟩
    obtain ⟨F', rfl⟩ : ∃ f, F' = f + 1 := ⟨F' - 1, by omega⟩
    show Sd _ _ _ _ _ _ _ _ _ _ (b_X6_sendToOthers_2 (f_X6_sendToOthers_2 F) σ _ _ _ _) (b_X12_all_3 (f_X12_all_3 F') μ _ _ _ _)
    have hs := hR.1
    have h7 := hs.np
    have hr7 : r < 7 := by omega
    have k6 := hs.k6 hr
    have e1 : ¬ nI n ≤ nI k := fun e => by rw [nI_leI (by omega) (by omega)] at e; omega
    have e2 : nI k + 1 = nI (k + 1) := nI_1 k
    rw [b_X6_sendToOthers_2, b_X12_all_3, x_gI k6, Option.bind_some, hs.i6_10 hr, hR.2.2.1.2.2.2.2.1, if_neg e1, if_neg e1, x_gI k6, Option.bind_some, hs.i6_9 hr]
    by_cases hkr : nI k = nI r
    · rw [if_pos hkr, if_pos hkr, f_X6_sendToOthers_26, f_X12_all_41, e2]
      exact ih F F' (k + 1) σ μ a (by omega) (by omega) (by omega) hR
    · rw [if_neg hkr, if_neg hkr, x_gO k6, Option.bind_some, mA_n 33 r hr7, Option.bind_some, mA_n 34 r hr7, Option.bind_some]
      obtain ⟨v, w, a', h1, h2, h3, h4⟩ := sd1 (t := t) (tc := t) (ab := 0) hR hr hx (by omega) (by omega : k < n) (fun _ => rfl) ht
      rw [h1, h2, Option.bind_some, Option.bind_some, f_X6_sendToOthers_26, f_X12_all_41, e2]
      exact (ih F F' (k + 1) _ _ a' (by omega) (by omega) (by omega) h3).tr h4
theorem sd_all (hR : RR A n T q hb vw p u a 0 σ μ) (hr : r < n) {x : Int32} {kk : Nat} (hx : x = nI kk) (hk : kk = 3 ∨ kk = 7 ∨ kk = 8) {t : Int32} (ht : kk = 3 → Rid 100 t) : Sd A n T q hb vw p u σ μ (f_X6_sendToOthers σ (A 6 r 0) x t) (f_X12_all μ x (nI r) t) := by
  have h7 := hR.1.np
  exact all_loop hr hx hk ht n lf lf 0 σ μ a (by unfold lf; omega) (by unfold lf; omega) (by omega) hR
theorem sd_others (hr : r < n) : ∀ d (F F' k : Nat) (σ : Hp) (μ : Mu) (a : Nat) (x4 : Int32), d < F → d < F' → n = k + d → RR A n T q hb vw p u a 0 σ μ → x4 = μ.2 38 r → Sd A n T q hb vw p u σ μ (f_X6_sendLogToOthers_2 F σ (A 6 r 0) 10 (nI k)) (f_X12_merge_364 F' μ (nI r) x4 (nI k)) := by
  intro d
  induction d with
  | zero =>
    intro F F' k σ μ a x4 hF hF' hn hR hx4
    obtain ⟨F, rfl⟩ : ∃ f, F = f + 1 := ⟨F - 1, by omega⟩
    obtain ⟨F', rfl⟩ : ∃ f, F' = f + 1 := ⟨F' - 1, by omega⟩
    show Sd _ _ _ _ _ _ _ _ _ _ (b_X6_sendLogToOthers_2 (f_X6_sendLogToOthers_2 F) σ _ _ _) (b_X12_merge_364 (f_X12_merge_364 F') μ _ _ _)
    have hs := hR.1
    have h7 := hs.np
    have e1 : nI n ≤ nI k := (nI_leI (by omega) (by omega)).mpr (by omega)
    rw [b_X6_sendLogToOthers_2, b_X12_merge_364, x_gI (hs.k6 hr), Option.bind_some, hs.i6_10 hr, hR.2.2.1.2.2.2.2.1, if_pos e1, if_pos e1]
    exact Sd.rf hR
  | succ d ih =>
    intro F F' k σ μ a x4 hF hF' hn hR hx4
    obtain ⟨F, rfl⟩ : ∃ f, F = f + 1 := ⟨F - 1, by omega⟩
    obtain ⟨F', rfl⟩ : ∃ f, F' = f + 1 := ⟨F' - 1, by omega⟩
    show Sd _ _ _ _ _ _ _ _ _ _ (b_X6_sendLogToOthers_2 (f_X6_sendLogToOthers_2 F) σ _ _ _) (b_X12_merge_364 (f_X12_merge_364 F') μ _ _ _)
    have hs := hR.1
    have h7 := hs.np
    have hr7 : r < 7 := by omega
    have k6 := hs.k6 hr
    have e1 : ¬ nI n ≤ nI k := fun e => by rw [nI_leI (by omega) (by omega)] at e; omega
    have e2 : nI k + 1 = nI (k + 1) := nI_1 k
    rw [b_X6_sendLogToOthers_2, b_X12_merge_364, x_gI k6, Option.bind_some, hs.i6_10 hr, hR.2.2.1.2.2.2.2.1, if_neg e1, if_neg e1, x_gI k6, Option.bind_some, hs.i6_9 hr]
    by_cases hkr : nI k = nI r
    · rw [if_pos hkr, if_pos hkr, f_X6_sendLogToOthers_24, f_X12_merge_409, e2]
      exact ih F F' (k + 1) σ μ a x4 (by omega) (by omega) (by omega) hR hx4
    · rw [if_neg hkr, if_neg hkr, x_gO k6, Option.bind_some, mA_n 33 r hr7, Option.bind_some, mA_n 34 r hr7, Option.bind_some]
      obtain ⟨σ', w, μ', a', h1, h2, h3, h4, h5, h6⟩ := sd_log (t := 0) (ab := 0) hR hr (x := 10) (kk := 10) rfl (by omega) (by omega : k < n) (by omega) (by omega)
      rw [h1, h2, Option.bind_some, Option.bind_some, hx4, h4, Option.bind_some, f_X6_sendLogToOthers_24, f_X12_merge_409, e2]
      exact (ih F F' (k + 1) _ _ a' _ (by omega) (by omega) (by omega) h5 (h6.2.1 38 r (Or.inr (by decide))).symm).tr h6
theorem sd_syncs (hr : r < n) : ∀ d (F F' k : Nat) (σ : Hp) (μ : Mu) (a : Nat), d < F → d < F' → n = k + d → RR A n T q hb vw p u a 0 σ μ → Sd A n T q hb vw p u σ μ (f_X6_sendLogToOthers_2 F σ (A 6 r 0) 5 (nI k)) (f_X12_sync__62 F' μ (nI r) (nI k)) := by
  intro d
  induction d with
  | zero =>
    intro F F' k σ μ a hF hF' hn hR
    obtain ⟨F, rfl⟩ : ∃ f, F = f + 1 := ⟨F - 1, by omega⟩
    obtain ⟨F', rfl⟩ : ∃ f, F' = f + 1 := ⟨F' - 1, by omega⟩
    show Sd _ _ _ _ _ _ _ _ _ _ (b_X6_sendLogToOthers_2 (f_X6_sendLogToOthers_2 F) σ _ _ _) (b_X12_sync__62 (f_X12_sync__62 F') μ _ _)
    have hs := hR.1
    have h7 := hs.np
    have e1 : nI n ≤ nI k := (nI_leI (by omega) (by omega)).mpr (by omega)
    rw [b_X6_sendLogToOthers_2, b_X12_sync__62, x_gI (hs.k6 hr), Option.bind_some, hs.i6_10 hr, hR.2.2.1.2.2.2.2.1, if_pos e1, if_pos e1]
    exact Sd.rf hR
  | succ d ih =>
    intro F F' k σ μ a hF hF' hn hR
    obtain ⟨F, rfl⟩ : ∃ f, F = f + 1 := ⟨F - 1, by omega⟩
    obtain ⟨F', rfl⟩ : ∃ f, F' = f + 1 := ⟨F' - 1, by omega⟩
    show Sd _ _ _ _ _ _ _ _ _ _ (b_X6_sendLogToOthers_2 (f_X6_sendLogToOthers_2 F) σ _ _ _) (b_X12_sync__62 (f_X12_sync__62 F') μ _ _)
    have hs := hR.1
    have h7 := hs.np
    have hr7 : r < 7 := by omega
    have k6 := hs.k6 hr
    have e1 : ¬ nI n ≤ nI k := fun e => by rw [nI_leI (by omega) (by omega)] at e; omega
    have e2 : nI k + 1 = nI (k + 1) := nI_1 k
    rw [b_X6_sendLogToOthers_2, b_X12_sync__62, x_gI k6, Option.bind_some, hs.i6_10 hr, hR.2.2.1.2.2.2.2.1, if_neg e1, if_neg e1, x_gI k6, Option.bind_some, hs.i6_9 hr]
    by_cases hkr : nI k = nI r
    · rw [if_pos hkr, if_pos hkr, f_X6_sendLogToOthers_24, f_X12_sync__112, e2]
      exact ih F F' (k + 1) σ μ a (by omega) (by omega) (by omega) hR
    · rw [if_neg hkr, if_neg hkr, x_gO k6, Option.bind_some, mA_n 33 r hr7, Option.bind_some, mA_n 34 r hr7, Option.bind_some, mA_n 38 r hr7, Option.bind_some]
      obtain ⟨σ', w, μ', a', h1, h2, h3, h4, h5, h6⟩ := sd_log (t := μ.2 38 r) (ab := 0) hR hr (x := 5) (kk := 5) rfl (by omega) (by omega : k < n) (by omega) (fun _ => rfl)
      rw [h1, h2, Option.bind_some, Option.bind_some, mA_n 38 r hr7, Option.bind_some, h3, h4, Option.bind_some, f_X6_sendLogToOthers_24, f_X12_sync__112, e2]
      exact (ih F F' (k + 1) _ _ a' (by omega) (by omega) (by omega) h5).tr h6
/-! leaders of a replica -/
theorem RR.ld (hR : RR A n T q hb vw p u a 0 σ μ) (hr : r < n) : ∃ l v, l ≤ 64 ∧ μ.2 33 r = nI l ∧ oR σ (A 6 r 0) 4 = some v ∧ IsV σ v (nI l) (μ.2 34 r) ∧ f_X6_leads σ (A 6 r 0) = some (b1 (l % n = r)) ∧ f_X12_leads μ (nI r) = some (b1 (l % n = r)) ∧ f_X9_leader σ v (nI n) = some (nI (l % n)) ∧ f_X12_leader μ (nI r) = some (nI (l % n)) ∧ l % n < n := by
  have h7 := hR.1.np
  obtain ⟨-, -, ⟨g1, l, g2, g3⟩, -⟩ := hR.2.2.2.2.2.1 r hr
  have hT := hR.2.2.2.2.2.2.2.2.2
  have hl : l ≤ 64 := by omega
  obtain ⟨v, e1, e2, e3, e4⟩ := hR.2.1.at g1
  have hv : IsV σ v (nI l) (μ.2 34 r) := ⟨e2, e3.trans g3, e4⟩
  have hn := hR.2.2.1.2.2.2.2.1
  exact ⟨l, v, hl, g3, e1, hv, c_leads hR.1 hr e1 hv hl, m_leads hn (by omega) g3 hl h7.1 h7.2, c_leader hv hl h7.1 h7.2, m_leader hn (by omega) g3 hl h7.1 h7.2, Nat.mod_lt _ (by omega)⟩
theorem b1_0 {P : Prop} [Decidable P] : (b1 P = 0) = ¬ P := by
  unfold b1
  by_cases h : P
  · rw [if_pos h]; exact propext ⟨fun e => absurd e (by decide), fun e => absurd h e⟩
  · rw [if_neg h]; exact propext ⟨fun _ => h, fun _ => rfl⟩
/-- a replica tells that it has turned -/
theorem sd_turns (hR : RR A n T q hb vw p u a 0 σ μ) (hr : r < n) : Sd A n T q hb vw p u σ μ (f_X6_sendTurns σ (A 6 r 0)) ((f_X12_all μ 8 (nI r) 0).bind fun v38 => (f_X12_leads v38 (nI r)).bind fun v43 => if v43 = 0 then ((f_X12_tellTurned v38 (nI r)).bind fun v51 => some v51) else some v38) := by
  have hs := hR.1
  have h7 := hs.np
  have hr7 : r < 7 := by omega
  obtain ⟨σ1, μ1, a1, h1, h2, h3, h4⟩ := sd_all hR hr (x := 8) (kk := 8) rfl (by omega) (t := 0) (by omega)
  obtain ⟨l, v, g1, g2, g3, g4, g5, g6, g7, g8, g9⟩ := h3.ld hr
  have k6' := h3.1.k6 hr
  unfold f_X6_sendTurns
  rw [x_gO (hs.k6 hr), Option.bind_some, h1, h2, Option.bind_some, Option.bind_some, x_gO k6', Option.bind_some, g5, g6, Option.bind_some, Option.bind_some]
  by_cases hl : l % n = r
  · rw [if_neg (by rw [b1_0]; exact fun h => h hl), if_neg (by rw [b1_0]; exact fun h => h hl)]
    exact ⟨σ1, μ1, a1, rfl, rfl, h3, h4⟩
  · rw [if_pos (by rw [b1_0]; exact hl), if_pos (by rw [b1_0]; exact hl), x_gR k6', g3, Option.bind_some, x_gI k6', Option.bind_some, x_gO g4.1, Option.bind_some, h3.1.i6_10 hr, g7, Option.bind_some, Option.bind_some, f_X12_tellTurned, g8, Option.bind_some, mA_n 33 r hr7, Option.bind_some, mA_n 34 r hr7, Option.bind_some]
    obtain ⟨σ', w, μ', a', f1, f2, f3, f4, f5, f6⟩ := sd_log (t := 0) (ab := 0) h3 hr (x := 9) (kk := 9) rfl (by omega) g9 (fun _ e => hl e.symm) (by omega)
    rw [f1, f2, Option.bind_some, Option.bind_some, mA_n 38 r hr7, Option.bind_some, f3, f4, Option.bind_some, Option.bind_some]
    exact ⟨σ', μ', a', rfl, rfl, f5, h4.tr f6⟩
end SDS
