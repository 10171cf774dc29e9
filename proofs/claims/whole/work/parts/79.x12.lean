/-! the reference at the start, its rows -/
section X12B
variable {σ σ0 σ1 σ' : Hp} {b N m i j k n d e w w1 w2 : Nat} {oa : Ob} {G G' : Nat → Ob} {x : Int32}
theorem fone_0 : fone 0 = z0 := by
  funext k
  exact if_neg (Nat.not_lt_zero k)
theorem fid_0 : fid 0 = z0 := by
  funext k
  exact if_neg (Nat.not_lt_zero k)
theorem i12 (hn : n = 3 ∨ n = 5 ∨ n = 7) (hx : ∀ (s : Hp) (p q : Nat), (if 0 ≤ (x - x / (3 : Int32) * (3 : Int32)) then (f_X12_init_610 s p q ((3 : Int32) + ((2 : Int32) * (x - x / (3 : Int32) * (3 : Int32))))) else (if (x - x / (3 : Int32) * (3 : Int32)) = (-1 : Int32) then (f_X12_init_610 s p q (7 : Int32)) else (f_X12_init_610 s p q (5 : Int32)))) = f_X12_init_610 s p q (nI n))
    (h : ob σ b = (12, 0, z0, zn)) (hN : oN σ = N) (ha : b < N) : ∃ σ', f_X12_init σ b x = some σ' ∧ Bx σ σ' b N 68 (12, 0, fI12 n, fR12 N) g12 := by
  refine i12a (F := fun s => f_X12_init_610 s b b (nI n)) h hN ha (fun s => hx s b b) (fun σ1 h => ?_)
  show ∃ σ', f_X12_init_610 σ1 b b (nI n) = some σ' ∧ _
  unfold f_X12_init_610
  refine st_pI h fun σ2 h => ?_
  rw [x_gI h.kk, (ob_K h.2.2.2.2.1).2.2.1, va_up_self, Option.bind_some, e_h2 n hn]
  refine st_pI h fun σ3 h => ?_
  have q24 : ob σ3 (N + 24) = (13, 7, fone 0, zn) := by
    rw [fone_0]
    exact h.2.2.2.2.2 24 (by decide)
  have q27 : ob σ3 (N + 27) = (13, 7, fone 0, zn) := by
    rw [fone_0]
    exact h.2.2.2.2.2 27 (by decide)
  have q6 : ob σ3 (N + 6) = (13, 200, fid 0, zn) := by
    rw [fid_0]
    exact h.2.2.2.2.2 6 (by decide)
  obtain ⟨σ4, e1, e2, e3, e4, e5⟩ := l625 (e := 4992) (w1 := N + 24) (w2 := N + 27) (by omega) (by omega) (by omega) rfl rfl 7 0 σ3 rfl h.2.2.2.2.1 q24 q27
  obtain ⟨σ5, c1, c2, c3, c4⟩ := l653 (e := 4799) (w := N + 6) (by omega) rfl 200 0 σ4 rfl ((e3 b (by omega) (by omega)).trans h.2.2.2.2.1) ((e3 (N + 6) (by omega) (by omega)).trans q6)
  refine ⟨σ5, ?_, ?_⟩
  · show f_X12_init_625 (7 + 1 + 4992) σ3 b (nI 0) = _
    rw [e1]
    exact c1
  · obtain ⟨b1, b2, b3, b4, b5, b6⟩ := h
    refine ⟨b1, by rw [c2, e2, b2], b3, fun x hx hx' => ?_, ?_, fun i hi => ?_⟩
    · rw [c3 x (by omega), e3 x (by omega) (by omega), b4 x hx hx']
    · rw [c3 b (by omega), e3 b (by omega) (by omega), b5]
      rfl
    · unfold g12
      by_cases h6 : i = 6
      · subst h6
        rw [c4]
        rfl
      · rw [if_neg h6]
        by_cases h24 : i = 24
        · subst h24
          rw [c3 _ (by omega), e4]
          rfl
        · by_cases h27 : i = 27
          · subst h27
            rw [c3 _ (by omega), e5]
            rfl
          · rw [if_neg (by omega), c3 _ (by omega), e3 _ (by omega) (by omega), b6 i hi]
            rfl
/-- the reference's state at the start -/
def mu0 (n : Nat) : Mu := (fI12 n, fun j => if j = 16 then fid 200 else if j = 34 ∨ j = 37 then fone 7 else z0)
end X12B
