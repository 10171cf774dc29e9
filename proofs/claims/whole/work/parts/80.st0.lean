/-! the invariant at the start -/
section STI
variable {σ0 σ : Hp} {a N n r c t tb k : Nat} {μ : Mu}
theorem Inv.sn (h : Inv n t tb σ μ) (hk : oN σ ≤ k) : Inv n t tb (oSN σ k) μ := by
  obtain ⟨h0, A, q, vw, p, u, a, h1, h2, h3⟩ := h
  obtain ⟨s1, s2, s3, s4, s5, s6⟩ := h3.1
  have hs : Rs A n (oSN σ k) := ⟨s1, s2, s3, s4, fun x hx => s5 x (Nat.le_trans hk hx), s6⟩
  exact ⟨h0, A, q, vw, p, u, a, h1, h2, h3.fr hs (fun v L S h => h3.2.1 v L S h) (fun _ _ _ _ => ⟨rfl, rfl⟩) AgM.rf (fun _ _ => rfl)⟩
/-- the Views at the start -/
def vw0 (σ : Hp) : Vw := fun v => if oK σ v = 9 then some (oI σ v 0, oI σ v 1) else none
theorem vok0 : Vok (vw0 σ) σ := by
  intro v L S h
  unfold vw0 at h
  by_cases h9 : oK σ v = 9
  · rw [if_pos h9] at h
    cases h
    exact ⟨h9, rfl, rfl⟩
  · rw [if_neg h9] at h
    cases h
theorem vwr0 {x : Nat} {fI : Nat → Int32} {fR : Nat → Option Nat} (h : ob σ x = (9, 0, fI, fR)) : VwR (vw0 σ) (some x) (fI 0) (fI 1) := by
  have hk := ob_K h
  refine ⟨x, rfl, ?_⟩
  unfold vw0
  rw [if_pos hk.1, hk.2.2.1]
theorem Sm_0 (b : Nat) : Sm b 0 := ⟨0, Nat.zero_le _, rfl⟩
theorem B7_0 : B7 0 := ⟨0, by decide, rfl⟩
theorem log0 {q : Nat} {aL aE f : Nat → Int32} (h : aL 1 = 0) : logR q aL aE 0 f := ⟨0, Nat.zero_le _, rfl, h, fun k hk => absurd hk (Nat.not_lt_zero k)⟩
variable (hb : B0 σ0 σ a N n)
theorem s_rr (hb : B0 σ0 σ a N n) (hn : n ≤ 7) (hr : r < n) : Rr (A0 a N n) n 0 0 (h8 r) (vw0 σ) σ (mu0 n) r := by
  have k6 := ob_K (f6 hb hr)
  have k32 := ob_K (f32 hb hr)
  have k3 := ob_K (f3 hb hr)
  have k8 := ob_K (f8 hb hr)
  have hv := vwr0 (f99 hb hr)
  have e34 : (mu0 n).2 34 r = 1 := if_pos (show r < 7 by omega)
  have e37 : (mu0 n).2 37 r = 1 := if_pos (show r < 7 by omega)
  unfold Rr
  rw [ae6 hr, ae32 hr, ae3 hr, ae8 hr, k6.2.2.1, k6.2.2.2, k32.2.2.1, k3.2.2.1, k8.2.2.1, e34, e37]
  refine ⟨⟨rfl, Or.inl rfl⟩, ⟨rfl, Sm_0 _⟩, ⟨hv, Sm_0 _⟩, ⟨hv, Sm_0 _⟩, ⟨rfl, rfl, rfl⟩, log0 rfl, ⟨0, Nat.zero_le _, rfl, rfl, fun k hk => absurd hk (Nat.not_lt_zero k), fun k _ hk => absurd hk (Nat.not_lt_zero k)⟩, rfl, B7_0, rfl, B7_0, rfl, rfl, 0, by decide, rfl, Nat.zero_testBit r, fun o _ h => ?_⟩
  rw [Nat.zero_testBit] at h
  cases h
theorem s_rc (hb : B0 σ0 σ a N n) (hc : c < 4) : Rc (A0 a N n) n 0 0 (vw0 σ) σ (mu0 n) c := by
  have k2 := ob_K (f2 hb hc)
  unfold Rc
  rw [ae2 hc, k2.2.2.1]
  refine ⟨⟨rfl, Sm_0 _⟩, ⟨rfl, Sm_0 _⟩, ⟨rfl, Sm_0 _⟩, fun h => absurd rfl h, fun h => absurd (show (0 : Int32) = 2 from h) (by decide), ⟨rfl, rfl⟩, 0, 0, by decide, by decide, rfl, rfl, rfl, fun _ => rfl, fun p hp => absurd hp (Nat.not_lt_zero p), fun p _ hp => absurd hp (Nat.not_lt_zero p)⟩
theorem s_rf (hb : B0 σ0 σ a N n) : Rf (A0 a N n) 0 (vw0 σ) σ (mu0 n) := by
  have k0 := ob_K (f0 hb)
  refine ⟨0, rfl, ?_, ?_, ?_, rfl, fun k hk => absurd hk (Nat.not_lt_zero k)⟩
  · rw [ae0, k0.2.2.1]
    rfl
  · rw [ae0, k0.2.2.1]
    rfl
  · rw [ae0, k0.2.2.1]
    rfl
theorem s_ra (hb : B0 σ0 σ a N n) : Ra (A0 a N n) n 0 0 (vw0 σ) σ (mu0 n) (fun k => k) (fun k => 199 - k) 0 0 := by
  have k1 := ob_K (f1 hb)
  have k22 := ob_K (f22 hb)
  refine ⟨by decide, ?_, rfl, ?_, ?_, fun k hk => ?_, ?_, fun k hk => hk, fun k k' _ _ h => h, fun k hk => absurd hk (Nat.not_lt_zero k), fun k _ hk => ?_, fun k hk => show 199 - k < 200 by omega, fun k k' hk hk' h => by
    have h : 199 - k = 199 - k' := h
    omega, fun k hk => absurd hk (Nat.not_lt_zero _)⟩
  · rw [ae1, k1.2.2.1]
    rfl
  · rw [ae1, k1.2.2.1]
    rfl
  · rw [ae1, k1.2.2.1]
    rfl
  · rw [ae22, k22.2.2.2, ae5 (show k < 202 by omega), mo, if_neg (by omega), if_neg (by omega)]
    show (if k < 200 then some (N + 12 + 7 + 3 * k) else none) = _
    rw [if_pos hk, show N + 12 + 7 + 3 * k = N + (19 + 3 * k) by omega]
  · rw [ae1, k1.2.2.2, ae5 (by decide)]
    rfl
  · exact if_pos (show 199 - k < 200 by omega)
theorem s_rq (hb : B0 σ0 σ a N n) : Rq (A0 a N n) 0 σ (mu0 n) := by
  have k7 := ob_K (f7 hb)
  have k20 := ob_K (f20 hb (i := 1) (by decide))
  refine ⟨?_, rfl, ?_, fun id h1 h2 => by omega, fun id id' h1 h2 => by omega⟩
  · rw [ae7, k7.2.2.1]
    rfl
  · rw [ae20 (by decide), k20.2.2.1]
    rfl
theorem s_rt (hb : B0 σ0 σ a N n) : Rt (A0 a N n) n σ (mu0 n) := by
  have k11 := ob_K (f11 hb)
  unfold Rt
  rw [ae11, k11.2.2.1]
  exact ⟨rfl, Or.inr rfl, rfl, rfl, rfl, rfl⟩
theorem dwn0 (k : Nat) : dwn (mu0 n) k = 0 := by
  induction k with
  | zero => rfl
  | succ k ih => rw [dwn_s, ih, if_pos (show (mu0 n).2 32 k = 0 from rfl)]
theorem s_inv (hb : B0 σ0 σ a N n) (hn : n = 3 ∨ n = 5 ∨ n = 7) (h9 : ∀ x, N ≤ x → oK σ0 x = 99) : Inv n 0 a σ (mu0 n) := by
  have h7 : n ≤ 7 := by omega
  refine ⟨⟨by rw [dwn0]; exact Nat.zero_le _, fun r _ h => absurd (show (0 : Int32) = 1 from h) (by decide)⟩, A0 a N n, 0, vw0 σ, fun k => k, fun k => 199 - k, 0, ae11, Nat.le_refl _, s_rs hb hn h9, vok0, s_rt hb, s_rq hb, s_ra hb, fun r hr => s_rr hb h7 hr, fun c hc => s_rc hb hc, s_rf hb, by decide, by decide⟩
end STI
