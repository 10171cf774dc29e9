/-! one group's change keeps the others -/
theorem Ra.cg2 {A : Ad} {n T q a d : Nat} {p u : Nat → Nat} {vw : Vw} {σ σ' : Hp} {μ μ' : Mu} (h : Ag A σ σ' (fun s i => s = 1 ∨ s = 22)) (hm : AgM μ μ' (fun j i => j = 15 ∨ j = 16)) (hs : μ'.1 12 = μ.1 12 ∧ μ'.1 13 = μ.1 13 ∧ μ'.1 14 = μ.1 14) (hk : ∀ k, k + d < a → Rm A n T q vw σ μ (p k) (u k) → Rm A n T q vw σ' μ' (p k) (u k)) (hR : Ra A n T q vw σ μ p u a d) : Ra A n T q vw σ' μ' p u a d := by
  obtain ⟨h1, h2, h3, h4, h5, h6, h7, h8, h9, h10, h11, h12, h13, h14⟩ := hR
  have e1 := h 1 0 0 (Or.inl rfl)
  have e22 := h 22 0 0 (Or.inr rfl)
  exact ⟨h1, by rw [e1.1]; exact h2, by rw [hs.1]; exact h3, by rw [e1.1, hs.2.1]; exact h4, by rw [e1.1, hs.2.2]; exact h5, fun k hk => by rw [e22.2]; exact h6 k hk, by rw [e1.2]; exact h7, h8, h9, fun k hk => by rw [hm 15 k (Or.inl rfl)]; exact h10 k hk, fun k hk hk' => by rw [hm 16 _ (Or.inr rfl)]; exact h11 k hk hk', h12, h13, fun k hk' => hk k hk' (h14 k hk')⟩
section UPD
variable {A : Ad} {n T q : Nat} {hb hb' : Nat → Nat} {vw : Vw} {p u : Nat → Nat} {a d : Nat} {σ σ' : Hp} {μ μ' : Mu}
/-- writes at messages that are not told (i0 of the class's objects, m0 of the reference's places) -/
theorem RR.msg (hR : RR A n T q hb vw p u a d σ μ) (i0 m0 : Nat) (hi : ∀ k, k + d < a → p k ≠ i0) (hu : ∀ k, k + d < a → u k ≠ m0) (hs : Rs A n σ') (hv : Vok vw σ') (hc : Ag A σ σ' (fun s i => ¬ fpM i0 s i)) (hm : AgM μ μ' (fun j i => ¬ fmM m0 j i)) (h1 : μ'.1 = μ.1) : RR A n T q hb vw p u a d σ' μ' := by
  obtain ⟨r1, r2, r3, r4, r5, r6, r7, r8, r9, r10⟩ := hR
  refine ⟨hs, hv, r3.cg (hc.wk ?_) (fun k _ => by rw [h1]), r4.cg (hc.wk ?_) (hm.wk ?_) (by rw [h1]), r5.cg2 (hc.wk ?_) (hm.wk ?_) ⟨by rw [h1], by rw [h1], by rw [h1]⟩ (fun k hk h => h.cg (hc.wk ?_) (hm.wk ?_)), fun r hr => (r6 r hr).cg hs.np.2 (hc.wk ?_) (hm.wk ?_), fun c hc' => (r7 c hc').cg (hc.wk ?_) (hm.wk ?_), r8.cg (hc.wk ?_) (hm.wk ?_) (by rw [h1]), r9, r10⟩
  · intro s i h; unfold fpM; omega
  · intro s i h; unfold fpM; omega
  · intro s i h; unfold fmM; omega
  · intro s i h; unfold fpM; omega
  · intro s i h; unfold fmM; omega
  · intro s i h; have := hi k hk; unfold fpM at h ⊢; omega
  · intro s i h; have := hu k hk; unfold fmM at h ⊢; omega
  · intro s i h; unfold fpR at h; unfold fpM; omega
  · intro s i h; unfold fmR at h; unfold fmM; omega
  · intro s i h; unfold fpC at h; unfold fpM; omega
  · intro s i h; unfold fmC at h; unfold fmM; omega
  · intro s i h; unfold fpM; omega
  · intro s i h; unfold fmM; omega
theorem RR.rep (hR : RR A n T q hb vw p u a d σ μ) (r0 : Nat) (hs : Rs A n σ') (hv : Vok vw σ') (hc : Ag A σ σ' (fun s i => ¬ fpR r0 s i)) (hm : AgM μ μ' (fun j i => ¬ fmR r0 j i)) (h1 : μ'.1 = μ.1) (hh : ∀ r, r ≠ r0 → hb' r = hb r) (hr0 : Rr A n T q (hb' r0) vw σ' μ' r0) : RR A n T q hb' vw p u a d σ' μ' := by
  obtain ⟨r1, r2, r3, r4, r5, r6, r7, r8, r9, r10⟩ := hR
  refine ⟨hs, hv, r3.cg (hc.wk ?_) (fun k _ => by rw [h1]), r4.cg (hc.wk ?_) (hm.wk ?_) (by rw [h1]), r5.cg (hc.wk ?_) (hm.wk ?_) ⟨by rw [h1], by rw [h1], by rw [h1]⟩, fun r hr => ?_, fun c hc' => (r7 c hc').cg (hc.wk ?_) (hm.wk ?_), r8.cg (hc.wk ?_) (hm.wk ?_) (by rw [h1]), r9, r10⟩
  · intro s i h; unfold fpR; omega
  · intro s i h; unfold fpR; omega
  · intro s i h; unfold fmR; omega
  · intro s i h; unfold fpR; omega
  · intro s i h; unfold fmR; omega
  · by_cases he : r = r0
    · subst he; exact hr0
    · rw [hh r he]
      exact (r6 r hr).cg hs.np.2 (hc.wk fun s i h => by unfold fpR at h ⊢; omega) (hm.wk fun s i h => by unfold fmR at h ⊢; omega)
  · intro s i h; unfold fpC at h; unfold fpR; omega
  · intro s i h; unfold fmC at h; unfold fmR; omega
  · intro s i h; unfold fpR; omega
  · intro s i h; unfold fmR; omega
theorem RR.cli (hR : RR A n T q hb vw p u a d σ μ) (c0 : Nat) (hs : Rs A n σ') (hv : Vok vw σ') (hc : Ag A σ σ' (fun s i => ¬ fpC c0 s i)) (hm : AgM μ μ' (fun j i => ¬ fmC c0 j i)) (h1 : μ'.1 = μ.1) (h57 : ∀ i, μ'.2 57 i = μ.2 57 i) (h59 : ∀ i, μ'.2 59 i = μ.2 59 i) (hr0 : Rc A n T q vw σ' μ' c0) : RR A n T q hb vw p u a d σ' μ' := by
  obtain ⟨r1, r2, r3, r4, r5, r6, r7, r8, r9, r10⟩ := hR
  refine ⟨hs, hv, r3.cg (hc.wk ?_) (fun k _ => by rw [h1]), r4.cg (hc.wk ?_) (fun j i hj => ?_) (by rw [h1]), r5.cg (hc.wk ?_) (hm.wk ?_) ⟨by rw [h1], by rw [h1], by rw [h1]⟩, fun r hr => (r6 r hr).cg hs.np.2 (hc.wk ?_) (hm.wk ?_), fun c hc' => ?_, r8.cg (hc.wk ?_) (fun j i hj => ?_) (by rw [h1]), r9, r10⟩
  · intro s i h; unfold fpC; omega
  · intro s i h; unfold fpC; omega
  · by_cases h : j = 57
    · subst h; exact h57 i
    · exact hm j i (by unfold fmC; omega)
  · intro s i h; unfold fpC; omega
  · intro s i h; unfold fmC; omega
  · intro s i h; unfold fpR at h; unfold fpC; omega
  · intro s i h; unfold fmR at h; unfold fmC; omega
  · by_cases he : c = c0
    · subst he; exact hr0
    · exact (r7 c hc').cg (hc.wk fun s i h => by unfold fpC at h ⊢; omega) (hm.wk fun s i h => by unfold fmC at h ⊢; omega)
  · intro s i h; unfold fpC; omega
  · by_cases h : j = 59
    · subst h; exact h59 i
    · exact hm j i (by unfold fmC; omega)
theorem Vok.sI (h : Vok vw σ) {b k : Nat} {x : Int32} (hb : oK σ b ≠ 9) : Vok vw (sI σ b k x) := fun v L S hv => (h v L S hv).sI hb
theorem Vok.sR (h : Vok vw σ) {b k x : Nat} : Vok vw (sR σ b k x) := fun v L S hv => h v L S hv
theorem Vok.sC (h : Vok vw σ) {b0 b sp dp m : Nat} (hb : oK σ b ≠ 9) : Vok vw (sC σ b0 b sp dp m) := fun v L S hv => (h v L S hv).sC hb
/-- a message that was pending is told now -/
theorem RR.told (hR : RR A n T q hb vw p u (a + 1) 1 σ μ) (hm : Rm A n T q vw σ μ (p a) (u a)) : RR A n T q hb vw p u (a + 1) 0 σ μ := by
  obtain ⟨r1, r2, r3, r4, ⟨h1, h2, h3, h4, h5, h6, h7, h8, h9, h10, h11, h12, h13, h14⟩, r6⟩ := hR
  refine ⟨r1, r2, r3, r4, ⟨h1, h2, h3, h4, h5, h6, h7, h8, h9, h10, h11, h12, h13, fun k hk => ?_⟩, r6⟩
  by_cases he : k = a
  · subst he; exact hm
  · exact h14 k (by omega)
end UPD
