/-! the reference moves from the heap of the class's kind into its own state -/
def gd (j : Nat) : Nat := if j = 200 then 0 else if j = 201 then 69 else 1 + ixM j
/-- the tables' part as it is, the reference and the law's row from q on -/
def gmv (G : Gm) (q : Nat) : Gm := (gl G, gD G, gC G, gB G, gH G, (fun j => q + gd j), mFl)
theorem mFl_rows : ∀ j ∈ mFl, j = 200 ∨ j = 201 ∨ j ∈ rowsM := by decide +kernel
theorem gd_inj : ∀ i ∈ mFl, ∀ j ∈ mFl, gd i = gd j → i = j := by decide +kernel
theorem gd_lt : ∀ j ∈ mFl, gd j < 70 := by decide +kernel
theorem ixM_f : ∀ j ∈ rowsM, ro (ixM j) = j ∧ ixM j < 68 ∧ j ≠ 200 ∧ j ≠ 201 ∧ (ixM j = 6 ↔ j = 16) ∧ (ixM j = 24 ∨ ixM j = 27 ↔ j = 34 ∨ j = 37) := by decide +kernel
theorem ty_rows : ∀ k, k < 79 → isI (tyX12 k) = false → k ∈ rowsM := by decide +kernel
section MOV
variable {G : Gm} {σ2 σ3 σ4 : Hp} {μ : Mu} {o : Int64} {q n : Nat} {H H1 : Heap}
theorem mv_Wd (hq : gB G ≤ q) (h99 : ∀ a, q ≤ a → oK σ2 a = 99) (h3 : nw σ2 12 0 = σ3) (hN : oN σ2 = q) (hx : Bx σ3 σ4 q (q + 1) 68 (12, 0, fI12 n, fR12 (q + 1)) g12) (hW : Wd G (σ4, μ, o) H) (hz : H1.size = q + 70) (hk : ∀ x, x < q + 69 → H1[x]? = H[x]?) (hl : H1[q + 69]? = some (arrV (gC G 7) 1 (fun _ => .long 0))) : Wd (gmv G q) (oSN σ2 (q + 70), mu0 n, 0) H1 := by
  obtain ⟨w1, w2, w3, w4, w5, w6⟩ := hW
  obtain ⟨b1, b2, b3, b4, b5, b6⟩ := hx
  have e4 : ∀ x, x < q → ob σ4 x = ob σ2 x := fun x hx => by rw [b4 x (by omega) (by omega), ← h3, ob_nw_n hN (by omega)]
  have hq4 := ob_K b5
  refine ⟨hz, fun a ha => ?_, fun j hj => ?_, fun i hi j hj h => gd_inj i hi j hj (Nat.add_left_cancel h), fun a ha => ?_, ?_⟩
  · have ha' : oK σ2 a ≠ 99 := ha
    have hlt : a < q := Nat.lt_of_not_le fun h => ha' (h99 a h)
    have e : ob σ4 a = ob σ2 a := e4 a hlt
    obtain ⟨k1, k2, k3, k4⟩ := ob_K (show ob σ4 a = (oK σ2 a, oZ σ2 a, oI σ2 a, oR σ2 a) from e)
    obtain ⟨u1, u2, u3⟩ := w2 a (by rw [k1]; exact ha')
    refine ⟨u1, by show a < q + 70; omega, ?_⟩
    show oAt G (oSN σ2 (q + 70)) a H1
    exact oAt_congr (σ := σ4) (σ' := oSN σ2 (q + 70)) k1.symm k2.symm k3.symm k4.symm (hk a (by omega)) u3
  · have hj' : j ∈ mFl := hj
    have hg := gd_lt j hj'
    refine ⟨by show gB G ≤ q + gd j; omega, by show oK σ2 (q + gd j) = 99; exact h99 _ (by omega), ?_⟩
    rcases mFl_rows j hj' with rfl | rfl | hr
    · have u3 := (w2 q (by rw [hq4.1]; decide)).2.2
      unfold oAt at u3
      rw [hq4.1, if_pos (by decide)] at u3
      unfold mAt
      rw [if_pos rfl]
      show t_OB q ((gD G).1 12) 79 ((gD G).2 12) H1 (mF (gmv G q) (mu0 n))
      refine (u3.kept (hk q (by omega))).to fun k hk => ?_
      unfold oF mF
      rw [hq4.1, hq4.2.2.1, hq4.2.2.2]
      show (if isI (tyX12 k) = true then _ else _) = _
      by_cases hi : isI (tyX12 k) = true
      · rw [if_pos hi, if_pos hi]
        rfl
      · rw [if_neg hi, if_neg hi]
        have hkr := ty_rows k hk (by simpa using hi)
        obtain ⟨-, -, n1, n2, -⟩ := ixM_f k hkr
        rw [fR12_at k hkr]
        show Value.ref (q + 1 + ixM k) = Value.ref (q + gd k)
        rw [gd, if_neg n1, if_neg n2, Nat.add_assoc]
    · unfold mAt
      rw [if_neg (by decide), if_pos rfl]
      exact hl
    · obtain ⟨f1, f2, f3, f4, f5, f6⟩ := ixM_f j hr
      have ea : q + gd j = q + 1 + ixM j := by rw [gd, if_neg f3, if_neg f4, Nat.add_assoc]
      have hb := b6 (ixM j) f2
      unfold g12 at hb
      rw [f1] at hb
      have hkb := ob_K hb
      have hm : mK j ≤ 1 := by unfold mK; split <;> decide
      have u3 := (w2 (q + 1 + ixM j) (by rw [hkb.1]; omega)).2.2
      unfold oAt at u3
      rw [hkb.1, if_neg (by omega), hkb.2.1, show 13 + mK j - 13 = mK j by omega] at u3
      unfold mAt
      rw [if_neg f3, if_neg f4]
      show H1[q + gd j]? = some (arrV (gC G (mK j)) (mZ j) _)
      rw [ea, hk _ (by omega), u3]
      congr 2
      funext i
      unfold oV
      rw [hkb.1, if_pos (by omega), hkb.2.2.1]
      show Value.int ((if ixM j = 6 then fid 200 else if ixM j = 24 ∨ ixM j = 27 then fone 7 else z0) i) = Value.int ((if j = 16 then fid 200 else if j = 34 ∨ j = 37 then fone 7 else z0) i)
      simp only [f5, f6]
  · exact (hk a (by have : a < gB G := ha; omega)).trans (w5 a ha)
  · show gB G ≤ H1.size
    omega
end MOV
