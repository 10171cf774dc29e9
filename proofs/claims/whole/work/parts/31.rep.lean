/-! the parts of a replica -/
def RrS (A : Ad) (T : Nat) (vw : Vw) (σ : Hp) (μ : Mu) (r : Nat) : Prop :=
  (oI σ (A 6 r 0) 2 = μ.2 32 r ∧ (μ.2 32 r = 0 ∨ μ.2 32 r = 1)) ∧ (oI σ (A 6 r 0) 3 = μ.2 35 r ∧ Sm 2 (μ.2 35 r)) ∧
  (VwR vw (oR σ (A 6 r 0) 4) (μ.2 33 r) (μ.2 34 r) ∧ Sm T (μ.2 33 r)) ∧ (VwR vw (oR σ (A 6 r 0) 5) (μ.2 36 r) (μ.2 37 r) ∧ Sm T (μ.2 36 r)) ∧
  (oI σ (A 6 r 0) 6 = μ.2 39 r ∧ oI σ (A 6 r 0) 7 = μ.2 40 r ∧ oI σ (A 6 r 0) 8 = μ.2 41 r)
def RrL (A : Ad) (q : Nat) (σ : Hp) (μ : Mu) (r : Nat) : Prop := logR q (oI σ (A 32 r 0)) (oI σ (A 33 r 0)) (μ.2 38 r) (rwM 100 μ 42 r)
def RrH (A : Ad) (q hb : Nat) (σ : Hp) (μ : Mu) (r : Nat) : Prop := heldR q hb (oI σ (A 3 r 0)) (oI σ (A 34 r 0)) (oI σ (A 35 r 0)) (μ.2 39 r) (μ.2 43 r) (rwM 12 μ 44 r) (rwM 12 μ 45 r)
def RrT (A : Ad) (n T q : Nat) (vw : Vw) (σ : Hp) (μ : Mu) (r : Nat) : Prop := tallyR n T q vw r (oI σ (A 8 r 0)) (oR σ (A 36 r 0)) (oI σ (A 37 r 0)) (fun o => oI σ (A 39 r o)) (fun o => oI σ (A 40 r o)) (μ.2 46 r) (μ.2 47 r) (μ.2 48 r) (μ.2 49 r) (rwM 7 μ 50 r) (rwM 7 μ 51 r) (rwM 7 μ 52 r) (rwM 7 μ 53 r) (fun o => rwM 100 μ 54 (7 * r + o))
theorem Rr.sp {A : Ad} {n T q hb : Nat} {vw : Vw} {σ : Hp} {μ : Mu} {r : Nat} (h : Rr A n T q hb vw σ μ r) : RrS A T vw σ μ r ∧ RrL A q σ μ r ∧ RrH A q hb σ μ r ∧ RrT A n T q vw σ μ r := by
  obtain ⟨a, b, c, d, e, f, g, h⟩ := h
  exact ⟨⟨a, b, c, d, e⟩, f, g, h⟩
theorem Rr.mk {A : Ad} {n T q hb : Nat} {vw : Vw} {σ : Hp} {μ : Mu} {r : Nat} (h1 : RrS A T vw σ μ r) (h2 : RrL A q σ μ r) (h3 : RrH A q hb σ μ r) (h4 : RrT A n T q vw σ μ r) : Rr A n T q hb vw σ μ r := by
  obtain ⟨a, b, c, d, e⟩ := h1
  exact ⟨a, b, c, d, e, h2, h3, h4⟩
section REP
variable {A : Ad} {n T q : Nat} {hb hb' : Nat → Nat} {vw : Vw} {p u : Nat → Nat} {a d r : Nat} {σ σ' : Hp} {μ μ' : Mu}
theorem RrS.cg (h : RrS A T vw σ μ r) (hI : oI σ' (A 6 r 0) = oI σ (A 6 r 0)) (hO : oR σ' (A 6 r 0) = oR σ (A 6 r 0)) (hm : ∀ j, 32 ≤ j → j ≤ 41 → j ≠ 38 → μ'.2 j r = μ.2 j r) : RrS A T vw σ' μ' r := by
  unfold RrS at h ⊢
  rw [hI, hO, hm 32 (by decide) (by decide) (by decide), hm 33 (by decide) (by decide) (by decide), hm 34 (by decide) (by decide) (by decide), hm 35 (by decide) (by decide) (by decide), hm 36 (by decide) (by decide) (by decide), hm 37 (by decide) (by decide) (by decide), hm 39 (by decide) (by decide) (by decide), hm 40 (by decide) (by decide) (by decide), hm 41 (by decide) (by decide) (by decide)]
  exact h
theorem RrL.cg (h : RrL A q σ μ r) (h1 : oI σ' (A 32 r 0) = oI σ (A 32 r 0)) (h2 : oI σ' (A 33 r 0) = oI σ (A 33 r 0)) (h3 : μ'.2 38 r = μ.2 38 r) (h4 : ∀ k, k < 100 → μ'.2 42 (100 * r + k) = μ.2 42 (100 * r + k)) : RrL A q σ' μ' r := by
  unfold RrL at h ⊢
  rw [h1, h2, h3, rwM_ag h4]
  exact h
theorem RrH.cg {hb : Nat} (h : RrH A q hb σ μ r) (h1 : oI σ' (A 3 r 0) = oI σ (A 3 r 0)) (h2 : oI σ' (A 34 r 0) = oI σ (A 34 r 0)) (h2' : oI σ' (A 35 r 0) = oI σ (A 35 r 0)) (h3 : μ'.2 39 r = μ.2 39 r) (h3' : μ'.2 43 r = μ.2 43 r) (h4 : ∀ k, k < 12 → μ'.2 44 (12 * r + k) = μ.2 44 (12 * r + k)) (h5 : ∀ k, k < 12 → μ'.2 45 (12 * r + k) = μ.2 45 (12 * r + k)) : RrH A q hb σ' μ' r := by
  unfold RrH at h ⊢
  rw [h1, h2, h2', h3, h3', rwM_ag h4, rwM_ag h5]
  exact h
theorem RrT.cg (hn : n ≤ 7) (h : RrT A n T q vw σ μ r) (h1 : ∀ s j, (s = 8 ∨ s = 37 ∨ s = 39 ∨ s = 40) → oI σ' (A s r j) = oI σ (A s r j)) (h2 : oR σ' (A 36 r 0) = oR σ (A 36 r 0)) (h3 : ∀ j, 46 ≤ j → j ≤ 49 → μ'.2 j r = μ.2 j r) (h4 : ∀ j k, 50 ≤ j → j ≤ 53 → k < 7 → μ'.2 j (7 * r + k) = μ.2 j (7 * r + k)) (h5 : ∀ k, 700 * r ≤ k → k < 700 * r + 700 → μ'.2 54 k = μ.2 54 k) : RrT A n T q vw σ' μ' r := by
  unfold RrT at h ⊢
  have h50 : rwM 7 μ' 50 r = rwM 7 μ 50 r := rwM_ag fun k hk => h4 _ _ (by decide) (by decide) hk
  have h51 : rwM 7 μ' 51 r = rwM 7 μ 51 r := rwM_ag fun k hk => h4 _ _ (by decide) (by decide) hk
  have h52 : rwM 7 μ' 52 r = rwM 7 μ 52 r := rwM_ag fun k hk => h4 _ _ (by decide) (by decide) hk
  have h53 : rwM 7 μ' 53 r = rwM 7 μ 53 r := rwM_ag fun k hk => h4 _ _ (by decide) (by decide) hk
  have h54 : ∀ o, o < 7 → rwM 100 μ' 54 (7 * r + o) = rwM 100 μ 54 (7 * r + o) := fun o ho => rwM_ag fun k hk => h5 _ (by omega) (by omega)
  simp only [h1 8 0 (by decide), h1 37 0 (by decide), h1 39 _ (by decide), h1 40 _ (by decide), h2, h50, h51, h52, h53, h3 46 (by decide) (by decide), h3 47 (by decide) (by decide), h3 48 (by decide) (by decide), h3 49 (by decide) (by decide)]
  obtain ⟨t1, t2, t3, t4, t5, t6, b, t7, t8, t9, t10⟩ := h
  refine ⟨t1, t2, t3, t4, t5, t6, b, t7, t8, t9, fun o ho hb => ?_⟩
  show VwR vw _ _ _ ∧ Sm T _ ∧ _ ∧ logR q _ _ _ (rwM 100 μ' 54 (7 * r + o))
  rw [h54 o (by omega)]
  exact t10 o ho hb
/-- only what is held changes -/
theorem RR.hld (hR : RR A n T q hb vw p u a d σ μ) (hr : r < n) (hs : Rs A n σ') (hv : Vok vw σ') (hc : Ag A σ σ' (fun s i => ¬ (i = r ∧ (s = 3 ∨ s = 34 ∨ s = 35)))) (hm : AgM μ μ' (fun j i => ¬ (j = 43 ∧ i = r) ∧ ¬ ((j = 44 ∨ j = 45) ∧ 12 * r ≤ i ∧ i < 12 * r + 12))) (h1 : μ'.1 = μ.1) (hh : ∀ r', r' ≠ r → hb' r' = hb r') (hx : RrH A q (hb' r) σ' μ' r) : RR A n T q hb' vw p u a d σ' μ' := by
  obtain ⟨g1, g2, g3, g4⟩ := (hR.2.2.2.2.2.1 r hr).sp
  refine hR.rep r hs hv (hc.wk fun s i h => by unfold fpR at h; omega) (hm.wk fun j i h => by unfold fmR at h; omega) h1 hh (Rr.mk (g1.cg ?_ ?_ fun j h1 h2 h3 => hm _ _ (by omega)) (g2.cg ?_ ?_ (hm _ _ (by omega)) fun k hk => hm _ _ (by omega)) hx (g4.cg hs.np.2 (fun s j h => ?_) ?_ (fun j h1 h2 => hm _ _ (by omega)) (fun j k h1 h2 h3 => hm _ _ (by omega)) fun k h1 h2 => hm _ _ (by omega)))
  · exact (hc 6 r 0 (by omega)).1
  · exact (hc 6 r 0 (by omega)).2
  · exact (hc 32 r 0 (by omega)).1
  · exact (hc 33 r 0 (by omega)).1
  · exact (hc s r j (by omega)).1
  · exact (hc 36 r 0 (by omega)).2
/-- only the log changes -/
theorem RR.log (hR : RR A n T q hb vw p u a d σ μ) (hr : r < n) (hs : Rs A n σ') (hv : Vok vw σ') (hc : Ag A σ σ' (fun s i => ¬ (i = r ∧ (s = 32 ∨ s = 33)))) (hm : AgM μ μ' (fun j i => ¬ (j = 38 ∧ i = r) ∧ ¬ (j = 42 ∧ 100 * r ≤ i ∧ i < 100 * r + 100))) (h1 : μ'.1 = μ.1) (hx : RrL A q σ' μ' r) : RR A n T q hb vw p u a d σ' μ' := by
  obtain ⟨g1, g2, g3, g4⟩ := (hR.2.2.2.2.2.1 r hr).sp
  refine hR.rep r hs hv (hc.wk fun s i h => by unfold fpR at h; omega) (hm.wk fun j i h => by unfold fmR at h; omega) h1 (fun _ _ => rfl) (Rr.mk (g1.cg ?_ ?_ fun j h1 h2 h3 => hm _ _ (by omega)) hx (g3.cg ?_ ?_ ?_ (hm _ _ (by omega)) (hm _ _ (by omega)) (fun k hk => hm _ _ (by omega)) fun k hk => hm _ _ (by omega)) (g4.cg hs.np.2 (fun s j h => ?_) ?_ (fun j h1 h2 => hm _ _ (by omega)) (fun j k h1 h2 h3 => hm _ _ (by omega)) fun k h1 h2 => hm _ _ (by omega)))
  · exact (hc 6 r 0 (by omega)).1
  · exact (hc 6 r 0 (by omega)).2
  · exact (hc 3 r 0 (by omega)).1
  · exact (hc 34 r 0 (by omega)).1
  · exact (hc 35 r 0 (by omega)).1
  · exact (hc s r j (by omega)).1
  · exact (hc 36 r 0 (by omega)).2
/-- only the tally changes -/
theorem RR.tal (hR : RR A n T q hb vw p u a d σ μ) (hr : r < n) (hs : Rs A n σ') (hv : Vok vw σ') (hc : Ag A σ σ' (fun s i => ¬ (i = r ∧ (s = 8 ∨ s = 36 ∨ s = 37 ∨ s = 39 ∨ s = 40)))) (hm : AgM μ μ' (fun j i => ¬ (46 ≤ j ∧ j ≤ 49 ∧ i = r) ∧ ¬ (50 ≤ j ∧ j ≤ 53 ∧ 7 * r ≤ i ∧ i < 7 * r + 7) ∧ ¬ (j = 54 ∧ 700 * r ≤ i ∧ i < 700 * r + 700))) (h1 : μ'.1 = μ.1) (hx : RrT A n T q vw σ' μ' r) : RR A n T q hb vw p u a d σ' μ' := by
  obtain ⟨g1, g2, g3, g4⟩ := (hR.2.2.2.2.2.1 r hr).sp
  refine hR.rep r hs hv (hc.wk fun s i h => by unfold fpR at h; omega) (hm.wk fun j i h => by unfold fmR at h; omega) h1 (fun _ _ => rfl) (Rr.mk (g1.cg ?_ ?_ fun j h1 h2 h3 => hm _ _ (by omega)) (g2.cg ?_ ?_ (hm _ _ (by omega)) fun k hk => hm _ _ (by omega)) (g3.cg ?_ ?_ ?_ (hm _ _ (by omega)) (hm _ _ (by omega)) (fun k hk => hm _ _ (by omega)) fun k hk => hm _ _ (by omega)) hx)
  · exact (hc 6 r 0 (by omega)).1
  · exact (hc 6 r 0 (by omega)).2
  · exact (hc 32 r 0 (by omega)).1
  · exact (hc 33 r 0 (by omega)).1
  · exact (hc 3 r 0 (by omega)).1
  · exact (hc 34 r 0 (by omega)).1
  · exact (hc 35 r 0 (by omega)).1
/-- only the replica's own scalars change, not its base -/
theorem RR.scl (hR : RR A n T q hb vw p u a d σ μ) (hr : r < n) (hs : Rs A n σ') (hv : Vok vw σ') (hc : Ag A σ σ' (fun s i => ¬ (i = r ∧ s = 6))) (hm : AgM μ μ' (fun j i => ¬ (32 ≤ j ∧ j ≤ 41 ∧ j ≠ 38 ∧ j ≠ 39 ∧ i = r))) (h1 : μ'.1 = μ.1) (hx : RrS A T vw σ' μ' r) : RR A n T q hb vw p u a d σ' μ' := by
  obtain ⟨g1, g2, g3, g4⟩ := (hR.2.2.2.2.2.1 r hr).sp
  refine hR.rep r hs hv (hc.wk fun s i h => by unfold fpR at h; omega) (hm.wk fun j i h => by unfold fmR at h; omega) h1 (fun _ _ => rfl) (Rr.mk hx (g2.cg ?_ ?_ (hm _ _ (by omega)) fun k hk => hm _ _ (by omega)) (g3.cg ?_ ?_ ?_ (hm _ _ (by omega)) (hm _ _ (by omega)) (fun k hk => hm _ _ (by omega)) fun k hk => hm _ _ (by omega)) (g4.cg hs.np.2 (fun s j h => ?_) ?_ (fun j h1 h2 => hm _ _ (by omega)) (fun j k h1 h2 h3 => hm _ _ (by omega)) fun k h1 h2 => hm _ _ (by omega)))
  · exact (hc 32 r 0 (by omega)).1
  · exact (hc 33 r 0 (by omega)).1
  · exact (hc 3 r 0 (by omega)).1
  · exact (hc 34 r 0 (by omega)).1
  · exact (hc 35 r 0 (by omega)).1
  · exact (hc s r j (by omega)).1
  · exact (hc 36 r 0 (by omega)).2
end REP
/-! what a replica's step keeps -/
def AgD (A : Ad) (n : Nat) (σ σ' : Hp) (S : Nat → Nat → Prop) : Prop := ∀ s i j, dm n s i j → S s i → oI σ' (A s i j) = oI σ (A s i j) ∧ oR σ' (A s i j) = oR σ (A s i j)
/-- who is in a gap has an entry -/
def Gx (n : Nat) (μ μ' : Mu) : Prop := ∀ r, r < n → (μ.2 35 r = 1 → ¬ μ.2 38 r = 0) → μ'.2 35 r = 1 → ¬ μ'.2 38 r = 0
theorem Gx.of38 {n r l : Nat} {μ μ' : Mu} (h35 : ∀ i, μ'.2 35 i = μ.2 35 i) (h38 : ∀ i, i ≠ r → μ'.2 38 i = μ.2 38 i) (h : μ'.2 38 r = nI (l + 1)) (hl : l < 100) : Gx n μ μ' := fun r' _ h1 h2 => by
  by_cases e : r' = r
  · rw [e, h]
    exact nI_ne0 (by omega) (by omega)
  · rw [h38 r' e]
    exact h1 (by rw [← h35]; exact h2)
theorem Gx.of35 {n r : Nat} {μ μ' : Mu} (h35 : ∀ i, i ≠ r → μ'.2 35 i = μ.2 35 i) (h38 : ∀ i, i ≠ r → μ'.2 38 i = μ.2 38 i) (h : ¬ μ'.2 35 r = 1) : Gx n μ μ' := fun r' _ h1 h2 => by
  by_cases e : r' = r
  · rw [e] at h2
    exact absurd h2 h
  · rw [h38 r' e]
    exact h1 (by rw [← h35 r' e]; exact h2)
def Kp (A : Ad) (n : Nat) (p : Nat → Nat) (σ σ' : Hp) (μ μ' : Mu) : Prop := AgD A n σ σ' (fun s i => (i = p 200 ∧ (s = 5 ∨ s = 30 ∨ s = 31)) ∨ s = 0 ∨ s = 2 ∨ s = 7 ∨ s = 11 ∨ s = 20 ∨ s = 23 ∨ s = 41) ∧ AgM μ μ' (fun j _ => j = 56 ∨ (4 ≤ j ∧ j ≤ 8) ∨ (57 ≤ j ∧ j ≤ 75) ∨ j = 32) ∧ (∀ k, k ≠ 12 → k ≠ 13 → k ≠ 14 → μ'.1 k = μ.1 k) ∧ Gx n μ μ'
theorem Kp.mk2 {A : Ad} {n : Nat} {p : Nat → Nat} {σ σ' : Hp} {μ μ' : Mu} (h1 : Ag A σ σ' (fun s i => (i = p 200 ∧ (s = 5 ∨ s = 30 ∨ s = 31)) ∨ s = 0 ∨ s = 2 ∨ s = 7 ∨ s = 11 ∨ s = 20 ∨ s = 23 ∨ s = 41)) (h2 : AgM μ μ' (fun j _ => j = 56 ∨ (4 ≤ j ∧ j ≤ 8) ∨ (57 ≤ j ∧ j ≤ 75) ∨ j = 32)) (h3 : ∀ k, k ≠ 12 → k ≠ 13 → k ≠ 14 → μ'.1 k = μ.1 k) (h4 : Gx n μ μ') : Kp A n p σ σ' μ μ' := ⟨fun s i j _ h => h1 s i j h, h2, h3, h4⟩
theorem Kp.mk' {A : Ad} {n : Nat} {p : Nat → Nat} {σ σ' : Hp} {μ μ' : Mu} (h1 : Ag A σ σ' (fun s i => (i = p 200 ∧ (s = 5 ∨ s = 30 ∨ s = 31)) ∨ s = 0 ∨ s = 2 ∨ s = 7 ∨ s = 11 ∨ s = 20 ∨ s = 23 ∨ s = 41)) (h2 : AgM μ μ' (fun j _ => j = 56 ∨ (4 ≤ j ∧ j ≤ 8) ∨ (57 ≤ j ∧ j ≤ 75) ∨ j = 32 ∨ j = 35 ∨ j = 38)) (h3 : ∀ k, k ≠ 12 → k ≠ 13 → k ≠ 14 → μ'.1 k = μ.1 k) : Kp A n p σ σ' μ μ' := Kp.mk2 h1 (h2.wk fun j i h => by omega) h3 (fun r _ a1 a2 => by
  rw [h2 35 r (by omega)] at a2
  rw [h2 38 r (by omega)]
  exact a1 a2)
theorem Kp.rf {A : Ad} {n : Nat} {p : Nat → Nat} {σ : Hp} {μ : Mu} : Kp A n p σ σ μ μ := Kp.mk' Ag.rf AgM.rf (fun _ _ _ _ => rfl)
theorem Kp.tr {A : Ad} {n : Nat} {p : Nat → Nat} {σ σ' σ'' : Hp} {μ μ' μ'' : Mu} (h : Kp A n p σ σ' μ μ') (h' : Kp A n p σ' σ'' μ' μ'') : Kp A n p σ σ'' μ μ'' := ⟨fun s i j hd hs => ⟨(h'.1 s i j hd hs).1.trans (h.1 s i j hd hs).1, (h'.1 s i j hd hs).2.trans (h.1 s i j hd hs).2⟩, (h.2.1.tr h'.2.1).wk fun _ _ h => ⟨h, h⟩, fun k e1 e2 e3 => (h'.2.2.1 k e1 e2 e3).trans (h.2.2.1 k e1 e2 e3), fun r hr a => h'.2.2.2 r hr (h.2.2.2 r hr a)⟩
theorem Kq.kp {A : Ad} {n : Nat} {p : Nat → Nat} {σ σ' : Hp} {μ μ' : Mu} (h : Kq A p σ σ' μ μ') : Kp A n p σ σ' μ μ' := Kp.mk' (h.1.wk fun s i h => by omega) (h.2.1.wk fun j i h => by omega) h.2.2
def h8 : Nat → Nat := fun _ => 8
/-- a step: both sides answer, and what is related stays so -/
def St (A : Ad) (n T q : Nat) (vw : Vw) (p u : Nat → Nat) (σ : Hp) (μ : Mu) (c : Option Hp) (m : Option Mu) : Prop := ∃ σ' μ' a' vw', c = some σ' ∧ m = some μ' ∧ Vle vw vw' ∧ RR A n T q h8 vw' p u a' 0 σ' μ' ∧ Kp A n p σ σ' μ μ'
section STP
variable {A : Ad} {n T q : Nat} {vw : Vw} {p u : Nat → Nat} {a : Nat} {σ σ' : Hp} {μ μ' : Mu} {c : Option Hp} {m : Option Mu}
theorem Vle.rf : Vle vw vw := fun _ _ h => h
theorem St.rf (hR : RR A n T q h8 vw p u a 0 σ μ) : St A n T q vw p u σ μ (some σ) (some μ) := ⟨σ, μ, a, vw, rfl, rfl, Vle.rf, hR, Kp.rf⟩
theorem St.tr (hk : Kp A n p σ σ' μ μ') (h : St A n T q vw p u σ' μ' c m) : St A n T q vw p u σ μ c m := by
  obtain ⟨σ2, μ2, a', vw', h1, h2, h3, h4, h5⟩ := h
  exact ⟨σ2, μ2, a', vw', h1, h2, h3, h4, hk.tr h5⟩
theorem St.trv {vw' : Vw} (hv : Vle vw vw') (hk : Kp A n p σ σ' μ μ') (h : St A n T q vw' p u σ' μ' c m) : St A n T q vw p u σ μ c m := by
  obtain ⟨σ2, μ2, a', vw2, h1, h2, h3, h4, h5⟩ := h
  exact ⟨σ2, μ2, a', vw2, h1, h2, fun v x h => h3 v x (hv v x h), h4, hk.tr h5⟩
theorem Sd.st (h : Sd A n T q h8 vw p u σ μ c m) : St A n T q vw p u σ μ c m := by
  obtain ⟨σ2, μ2, a', h1, h2, h4, h5⟩ := h
  exact ⟨σ2, μ2, a', vw, h1, h2, Vle.rf, h4, h5.kp⟩
theorem St.ret (h : St A n T q vw p u σ μ c m) : St A n T q vw p u σ μ (c.bind fun v => some v) (m.bind fun v => some v) := by
  obtain ⟨σ2, μ2, a', vw', h1, h2, h3⟩ := h
  exact ⟨σ2, μ2, a', vw', by rw [h1]; rfl, by rw [h2]; rfl, h3⟩
end STP
