/-! steps of a replica: sending -/
def Vle (vw vw' : Vw) : Prop := ∀ v x, vw v = some x → vw' v = some x
/-- what a sending keeps -/
def Kq (A : Ad) (p : Nat → Nat) (σ σ' : Hp) (μ μ' : Mu) : Prop := Ag A σ σ' (fun s i => s ≠ 1 ∧ (s = 5 ∨ s = 30 ∨ s = 31 → i = p 200)) ∧ AgM μ μ' (fun j _ => j < 15 ∨ 32 ≤ j) ∧ ∀ k, k ≠ 12 → k ≠ 13 → k ≠ 14 → μ'.1 k = μ.1 k
theorem Kq.rf {A : Ad} {p : Nat → Nat} {σ : Hp} {μ : Mu} : Kq A p σ σ μ μ := ⟨Ag.rf, AgM.rf, fun _ _ _ _ => rfl⟩
theorem Kq.tr {A : Ad} {p : Nat → Nat} {σ σ' σ'' : Hp} {μ μ' μ'' : Mu} (h : Kq A p σ σ' μ μ') (h' : Kq A p σ' σ'' μ' μ'') : Kq A p σ σ'' μ μ'' := ⟨(h.1.tr h'.1).wk fun _ _ h => ⟨h, h⟩, (h.2.1.tr h'.2.1).wk fun _ _ h => ⟨h, h⟩, fun k e1 e2 e3 => (h'.2.2 k e1 e2 e3).trans (h.2.2 k e1 e2 e3)⟩
section SND
variable {A : Ad} {n T q : Nat} {hb : Nat → Nat} {vw : Vw} {p u : Nat → Nat} {a r m0 : Nat} {σ σ1 : Hp} {μ μ1 : Mu} {mm kk fr to l s t ab : Int32}
theorem Sn.wI (hS : Sn A n T q hb vw p u a σ μ m0 σ1 mm μ1 kk fr to l s t ab) {k : Nat} {x : Int32} (hk : 4 ≤ k) (hs : Rs A n σ1) (hv : Vok vw σ1) : Sn A n T q hb vw p u a σ μ m0 (sI σ1 (A 5 m0 0) k x) mm μ1 kk fr to l s t ab := by
  obtain ⟨⟨h1, h1'⟩, h2, h3, h4, h5⟩ := hS
  have hI := hs.1
  have k5 := hs.k5 h1
  have n5 : oK σ1 (A 5 m0 0) ≠ 9 := by rw [k5]; decide
  have hc : Ag A σ1 (sI σ1 (A 5 m0 0) k x) (fun s i => ¬ fpM m0 s i) := (Ag.sI hI).wk fun s i h => by unfold fpM at h; omega
  refine ⟨⟨h1, h1'⟩, (h2.tr (Ag.sI hI)).wk (fun s i h => by omega), h3, h4, ?_⟩
  rcases h5 with ⟨e1, e2, e3, e4⟩ | ⟨e1, e2, e3, e4, e5, ⟨e6, e7, e8, e9⟩, e10⟩
  · exact Or.inl ⟨e1, e2, e3, e4.msg m0 200 (fun k hk => by have := e4.2.2.2.2.1.2.2.2.2.2.2.2.1 k (by omega); omega) (fun k hk => by have := e4.2.2.2.2.1.2.2.2.2.2.2.2.2.2.2.2.1 k (by omega); omega) (hs.sI rfl) (hv.sI n5) hc (fun _ _ _ => rfl) rfl⟩
  · have g1 : ∀ k, k + 1 < a + 1 → p k ≠ m0 := fun k hk e => by have := e5.2.2.2.2.1.2.2.2.2.2.2.2.2.1 k a (by omega) (by omega) (by omega); omega
    have g2 : ∀ k, k + 1 < a + 1 → u k ≠ u a := fun k hk e => by have := e5.2.2.2.2.1.2.2.2.2.2.2.2.2.2.2.2.2.1 k a (by omega) (by omega) e; omega
    refine Or.inr ⟨e1, e2, e3, e4, e5.msg m0 (u a) g1 g2 (hs.sI rfl) (hv.sI n5) hc (fun _ _ _ => rfl) rfl, ⟨?_, ?_, ?_, ?_⟩, e10⟩
    all_goals rw [oI_sI]; unfold up2; rw [if_neg (fun h => by omega)]; assumption
theorem Sn.wR (hS : Sn A n T q hb vw p u a σ μ m0 σ1 mm μ1 kk fr to l s t ab) {k x : Nat} (hk : 4 ≤ k) (hk' : k ≠ 11) (hs : Rs A n σ1) (hv : Vok vw σ1) : Sn A n T q hb vw p u a σ μ m0 (sR σ1 (A 5 m0 0) k x) mm μ1 kk fr to l s t ab := by
  obtain ⟨⟨h1, h1'⟩, h2, h3, h4, h5⟩ := hS
  have hI := hs.1
  have hc : Ag A σ1 (sR σ1 (A 5 m0 0) k x) (fun s i => ¬ fpM m0 s i) := (Ag.sR hI).wk fun s i h => by unfold fpM at h; omega
  have hsr : srF n 5 m0 0 k = none := by unfold srF; simp [hk']
  refine ⟨⟨h1, h1'⟩, (h2.tr (Ag.sR hI)).wk (fun s i h => by omega), h3, h4, ?_⟩
  rcases h5 with ⟨e1, e2, e3, e4⟩ | ⟨e1, e2, e3, e4, e5, ⟨e6, e7, e8, e9⟩, e10⟩
  · exact Or.inl ⟨e1, e2, e3, e4.msg m0 200 (fun k hk => by have := e4.2.2.2.2.1.2.2.2.2.2.2.2.1 k (by omega); omega) (fun k hk => by have := e4.2.2.2.2.1.2.2.2.2.2.2.2.2.2.2.2.1 k (by omega); omega) (hs.sR hsr) (hv.sR) hc (fun _ _ _ => rfl) rfl⟩
  · have g1 : ∀ k, k + 1 < a + 1 → p k ≠ m0 := fun k hk e => by have := e5.2.2.2.2.1.2.2.2.2.2.2.2.2.1 k a (by omega) (by omega) (by omega); omega
    have g2 : ∀ k, k + 1 < a + 1 → u k ≠ u a := fun k hk e => by have := e5.2.2.2.2.1.2.2.2.2.2.2.2.2.2.2.2.2.1 k a (by omega) (by omega) e; omega
    exact Or.inr ⟨e1, e2, e3, e4, e5.msg m0 (u a) g1 g2 (hs.sR hsr) (hv.sR) hc (fun _ _ _ => rfl) rfl, ⟨e6, e7, e8, e9⟩, e10⟩
theorem Sn.st (hS : Sn A n T q hb vw p u a σ μ m0 σ1 mm μ1 kk fr to l s t ab) : Rs A n σ1 ∧ Vok vw σ1 := by
  obtain ⟨-, -, -, -, h5⟩ := hS
  rcases h5 with ⟨-, -, -, h⟩ | ⟨-, -, -, -, h, -⟩
  · exact ⟨h.1, h.2.1⟩
  · exact ⟨h.1, h.2.1⟩
theorem Sn.kq (hS : Sn A n T q hb vw p u a σ μ m0 σ1 mm μ1 kk fr to l s t ab) : Ag A σ σ1 (fun s i => s ≠ 1 ∧ (s = 5 ∨ s = 30 ∨ s = 31 → i = p 200)) ∧ AgM μ μ1 (fun j _ => j < 15 ∨ 32 ≤ j) ∧ ∀ k, k ≠ 12 → k ≠ 13 → k ≠ 14 → μ1.1 k = μ.1 k := by
  obtain ⟨⟨h1, h1'⟩, h2, h3, h4, -⟩ := hS
  exact ⟨h2.wk (fun s i h => ⟨h.1, fun e => h1' ((e.2.symm.trans (h.2 (Or.inl e.1))))⟩), h3, h4⟩
/-- the message is told: m the reference's place -/
theorem Sn.fin (hS : Sn A n T q hb vw p u a σ μ m0 σ1 mm μ1 kk fr to l s t ab) {σ2 : Hp} {μ2 : Mu} (hs : Rs A n σ2) (hv : Vok vw σ2) (hc : Ag A σ1 σ2 (fun s i => ¬ fpM m0 s i)) (hf : mm = -1 → μ2 = μ1) (hn : ∀ m, m < 200 → mm = nI m → (AgM μ1 μ2 (fun j i => ¬ fmM m j i) ∧ μ2.1 = μ1.1) ∧ Rm A n T q vw σ2 μ2 m0 m) : ∃ a', RR A n T q hb vw p u a' 0 σ2 μ2 ∧ Kq A p σ σ2 μ μ2 := by
  have hk := hS.kq
  obtain ⟨⟨h1, h1'⟩, h2, h3, h4, h5⟩ := hS
  have hc' : Ag A σ σ2 (fun s i => s ≠ 1 ∧ (s = 5 ∨ s = 30 ∨ s = 31 → i = p 200)) := (hk.1.tr hc).wk fun s i h => ⟨h, fun e => by unfold fpM at e; exact h1' (e.1.symm.trans (h.2 e.2))⟩
  rcases h5 with ⟨e1, e2, e3, e4⟩ | ⟨e1, e2, e3, e4, e5, -, -⟩
  · rw [hf e3]
    exact ⟨a, e4.msg m0 200 (fun k hk => by have := e4.2.2.2.2.1.2.2.2.2.2.2.2.1 k (by omega); omega) (fun k hk => by have := e4.2.2.2.2.1.2.2.2.2.2.2.2.2.2.2.2.1 k (by omega); omega) hs hv hc (fun _ _ _ => rfl) rfl, hc', hk.2.1, hk.2.2⟩
  · have g1 : ∀ k, k + 1 < a + 1 → p k ≠ m0 := fun k hk e => by have := e5.2.2.2.2.1.2.2.2.2.2.2.2.2.1 k a (by omega) (by omega) (by omega); omega
    have g2 : ∀ k, k + 1 < a + 1 → u k ≠ u a := fun k hk e => by have := e5.2.2.2.2.1.2.2.2.2.2.2.2.2.2.2.2.2.1 k a (by omega) (by omega) e; omega
    obtain ⟨⟨f1, f2⟩, f3⟩ := hn (u a) e4 e3
    refine ⟨a + 1, (e5.msg m0 (u a) g1 g2 hs hv hc f1 f2).told (by rw [← e2]; exact f3), hc', (hk.2.1.tr f1).wk fun j i h => ⟨h, by unfold fmM; omega⟩, fun k d1 d2 d3 => by rw [f2]; exact hk.2.2 k d1 d2 d3⟩
theorem rep_send (hR : RR A n T q hb vw p u a 0 σ μ) (hr : r < n) (kk to tc t ab : Int32) : ∃ m0 σ' mm μ', f_X6_send σ (A 6 r 0) kk to tc = some (A 5 m0 0, σ') ∧ f_X12_send μ kk (nI r) to (μ.2 33 r) (μ.2 34 r) t ab = some (mm, μ') ∧ Sn A n T q hb vw p u a σ μ m0 σ' mm μ' kk (nI r) to (μ.2 33 r) (μ.2 34 r) t ab ∧ oR σ' (A 5 m0 0) 4 = oR σ (A 6 r 0) 4 ∧ oI σ' (A 5 m0 0) 6 = tc := by
  obtain ⟨m0, σ1, mm, μ1, h1, h2, h3⟩ := air_send hR kk (nI r) to (μ.2 33 r) (μ.2 34 r) t ab
  obtain ⟨s1, s2⟩ := h3.st
  have hs := hR.1
  have hi := hs.inj
  have k1 := hs.k1
  have k6 := hs.k6 hr
  have k6' := s1.k6 hr
  have k5' := s1.k5 h3.1.1
  obtain ⟨v, e1, e2⟩ := (hR.2.2.2.2.2.1 r hr).2.2.1.1
  have e3 : oR σ1 (A 6 r 0) 4 = some v := by rw [(h3.2.1 6 r 0 (by omega)).2, e1]
  refine ⟨m0, sI (sR σ1 (A 5 m0 0) 4 v) (A 5 m0 0) 6 tc, mm, μ1, ?_, h2, ?_, ?_, ?_⟩
  · simp only [f_X6_send, x_gI, x_gR, x_gO, x_pI, x_pR, x_aI, x_aR, x_qI, x_qR, x_aL, oK_sI, oK_sR, oK_sC, oZ_sI, oZ_sR, oZ_sC, xI_sI, oI_sR, xI_sC, oR_sI, xR_sR, oR_sC, Option.bind_some, if_true, if_false, Nat.reduceEqDiff, true_and, and_true, false_and, and_false, k6, hs.r6_13 hr, k1, hs.i6_9 hr, h1, k6', e3, k5']
  · exact (h3.wR (by decide) (by decide) s1 s2).wI (by decide) (s1.sR rfl) s2.sR
  · simp only [oK_sI, oK_sR, oK_sC, oZ_sI, oZ_sR, oZ_sC, xI_sI, oI_sR, xI_sC, oR_sI, xR_sR, oR_sC, Option.bind_some, if_true, if_false, Nat.reduceEqDiff, true_and, and_true, false_and, and_false, e1]
  · simp only [oK_sI, oK_sR, oK_sC, oZ_sI, oZ_sR, oZ_sC, xI_sI, oI_sR, xI_sC, oR_sI, xR_sR, oR_sC, Option.bind_some, if_true, if_false, Nat.reduceEqDiff, true_and, and_true, false_and, and_false]
end SND
