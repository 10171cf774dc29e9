/-! a message of its view -/
section ITS
variable {A : Ad} {n T q : Nat} {vw : Vw} {p u : Nat → Nat} {a r : Nat} {σ : Hp} {μ : Mu}
theorem rcv_its (hR : RR A n T q h8 vw p u a 0 σ μ) (hr : r < n) {i : Nat} (hi202 : i < 202) (hp : i = p 200) {kk fr : Nat} (hk : 1 ≤ kk ∧ kk ≤ 7) {t x : Int32} (h1 : oI σ (A 5 i 0) 1 = nI kk) (h2 : oI σ (A 5 i 0) 2 = nI fr) (hfr : fr < n) (h6 : oI σ (A 5 i 0) 6 = t) (h7 : kk = 2 → oI σ (A 5 i 0) 7 = x ∧ Rid q x) (ht : kk = 2 ∨ kk = 3 → Rid 100 t) (hl : kk = 5 → TkL A q σ μ i t) : St A n T q vw p u σ μ (f_X6_receiveOfItsView σ (A 6 r 0) (A 5 i 0)) (f_X12_inView μ (nI kk) (nI r) (nI fr) t x) := by
  have hs := hR.1
  have k6 := hs.k6 hr
  have k5 := hs.k5 hi202
  obtain ⟨hk1, hk2⟩ := hk
  have hkk : kk = 1 ∨ kk = 2 ∨ kk = 3 ∨ kk = 4 ∨ kk = 5 ∨ kk = 6 ∨ kk = 7 := by omega
  rw [f_X6_receiveOfItsView, x_gI k5, Option.bind_some, h1]
  rcases hkk with rfl | rfl | rfl | rfl | rfl | rfl | rfl
  · rw [if_pos (by decide), x_gI k5, Option.bind_some, x_gI k5, Option.bind_some, x_gO k6, Option.bind_some, h2, h6, f_X12_inView, if_pos (by decide)]
    exact (rcv_lookup hR hr hfr t).ret
  · obtain ⟨h7a, h7b⟩ := h7 rfl
    rw [if_neg (by decide), if_pos (by decide), x_gI k5, Option.bind_some, x_gI k5, Option.bind_some, x_gO k6, Option.bind_some, h6, h7a, Option.bind_fun_some]
    exact rcv_found hR hr (ht (Or.inl rfl)) h7b
  · rw [if_neg (by decide), if_neg (by decide), if_pos (by decide), x_gI k5, Option.bind_some, x_gO k6, Option.bind_some, h6, f_X12_inView, if_neg (by decide), if_neg (by decide), if_pos (by decide)]
    exact (rcv_gapCommit hR hr (ht (Or.inr rfl))).ret
  · rw [if_neg (by decide), if_neg (by decide), if_neg (by decide), if_pos (by decide), x_gI k5, Option.bind_some, x_gI k5, Option.bind_some, x_gO k6, Option.bind_some, h2, h6, f_X12_inView, if_neg (by decide), if_neg (by decide), if_neg (by decide), if_pos (by decide)]
    exact (rcv_gapReply hR hr hfr t).ret
  · rw [if_neg (by decide), if_neg (by decide), if_neg (by decide), if_neg (by decide), if_pos (by decide), x_gO k6, Option.bind_some, f_X12_inView, if_neg (by decide), if_neg (by decide), if_neg (by decide), if_neg (by decide), if_pos (by decide)]
    exact (rcv_sync hR hr hi202 h6 (hl rfl) hp).ret
  · rw [if_neg (by decide), if_neg (by decide), if_neg (by decide), if_neg (by decide), if_neg (by decide), if_pos (by decide), x_gI k5, Option.bind_some, x_gI k5, Option.bind_some, x_gO k6, Option.bind_some, h2, h6, f_X12_inView, if_neg (by decide), if_neg (by decide), if_neg (by decide), if_neg (by decide), if_neg (by decide), if_pos (by decide)]
    exact (rcv_syncReply hR hr hfr t).ret
  · rw [if_neg (by decide), if_neg (by decide), if_neg (by decide), if_neg (by decide), if_neg (by decide), if_neg (by decide), if_pos (by decide), x_gI k5, Option.bind_some, x_gO k6, Option.bind_some, h6, Option.bind_fun_some]
    exact rcv_point hR hr t (nI fr) (by decide) x
end ITS
