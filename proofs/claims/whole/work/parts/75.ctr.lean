/-! the table -/
section CTR4
variable {σ σ0 σ1 σ2 σ' v : Hp} {a N m m' k l j i kd ln w x cnt n r : Nat} {oa oa' o1 : Ob} {G G' G1 : Nat → Ob} {fI : Nat → Int32} {fR : Nat → Option Nat} {F : Hp → Option Hp} {Q : Hp → Prop}
theorem st_objR {I : Hp → Nat → Nat → Option Hp} {j0 y : Nat} (h : Bx σ0 σ a N m (kd, ln, fI, fR) G) (h0 : fR j0 = some y) (hc : ∀ s, ob s (N + m) = (k, 0, z0, zn) → oN s = N + m + 1 → (∀ x, x < N + m → ob s x = ob σ x) → ∃ v, I s (N + m) y = some v ∧ Bx s v (N + m) (N + m + 1) m' o1 G1)
    (H : ∀ σ1, Bx σ0 σ1 a N (m + (1 + m')) (kd, ln, fI, va_up fR j (some (N + m))) (fun i => if i < m then G i else if i - m = 0 then o1 else G1 (i - m - 1)) → ∃ σ', F σ1 = some σ' ∧ Q σ') : ∃ σ', ((some (nw σ k 0)).bind fun s => (h_gR s kd a j0).bind fun x => (I s (oN σ) x).bind fun v => (h_pR v kd a j (oN σ)).bind F) = some σ' ∧ Q σ' := by
  have h1 := st_obj (I := fun s x => I s x y) h hc H
  have ha := h.2.2.1
  have hk := ob_K ((ob_nw_n (k := k) (l := 0) h.2.1 (show a ≠ N + m by omega)).trans h.2.2.2.2.1)
  rw [Option.bind_some] at h1 ⊢
  rw [x_gR hk.1, hk.2.2.2, h0, Option.bind_some]
  exact h1
theorem n_of : ∀ r : Nat, r < 3 → (3 : Int32) + 2 * nI r = nI (3 + 2 * r) := by decide
def gA1 (n N : Nat) : Nat → Ob := fun i => if i = 625 then (18, n, z0, zn) else g11 n N i
def gB1 (n N : Nat) : Nat → Ob := fun i => if i = 626 + (11 + 2 * n) * n then (15, 4, z0, zn) else g11 n N i
theorem i11 {x : Int32} (hv : f_J9_floorMod_7cf53 x 3 = some (nI r)) (hr : r < 3) (hn : n = 3 + 2 * r) (h : ob σ a = (11, 0, z0, zn)) (hN : oN σ = N) (ha : a < N) : ∃ σ', f_X11_init σ a x = some σ' ∧ Bx σ σ' a N (626 + (11 + 2 * n) * n + 1 + 20) (o11 n N) (g11 n N) := by
  have h8 : n < 8 := by omega
  unfold f_X11_init
  rw [hv, Option.bind_some, n_of r hr, ← hn]
  refine st_pI (Bx.z (G := g4) hN ha h) fun σ1 h => ?_
  refine st_obj (I := f_X7_init) h (fun s a1 a2 a3 => i7 a1 a2 (Nat.lt_succ_self _)) fun σ1 h => ?_
  refine st_objR (I := f_X10_init) h (va_up_self _ _ _) (fun s a1 a2 a3 => i10 a1 a2 (Nat.lt_succ_self _)) fun σ1 h => ?_
  refine st_obj (I := f_X1_init) h (fun s a1 a2 a3 => i1 a1 a2 (Nat.lt_succ_self _)) fun σ1 h => ?_
  refine st_obj (I := f_X0_init) h (fun s a1 a2 a3 => i0 a1 a2 (Nat.lt_succ_self _)) fun σ1 h => ?_
  rw [x_gI h.kk, (ob_K h.2.2.2.2.1).2.2.1, va_up_self, Option.bind_some, x_len h8, Option.bind_some, nI_clamp (by omega)]
  refine st_row h fun σ1 h => ?_
  have h := h.co (m' := 626) (oa' := (11, 0, va_up z0 0 (nI n), va_up (va_up (va_up (va_up (va_up zn 1 (some N)) 2 (some (N + 6))) 3 (some (N + 11))) 6 (some (N + 619))) 4 (some (N + 625)))) (G' := gA1 n N) rfl rfl (fun i hi => ?_)
  · obtain ⟨σ2, e, e1, e2, b⟩ := lq6 (w := N + 625) (a := a) h8 h.2.1 (by omega) (by omega) (by omega) h.2.2.2.2.1 rfl rfl rfl rfl rfl (h.2.2.2.2.2 625 (by decide))
    rw [← e2, e1]
    have h := (h.tw (by decide) b).co (m' := 626 + (11 + 2 * n) * n) (G' := g11 n N) rfl rfl (fun i hi => ?_)
    · unfold f_X11_init_122
      refine st_row h fun σ1 h => ?_
      have h := h.co (m' := 626 + (11 + 2 * n) * n + 1) (G' := gB1 n N) rfl rfl (fun i hi => ?_)
      · obtain ⟨σ3, e3, b⟩ := lq2 (w := N + (626 + (11 + 2 * n) * n)) (a := a) (n := n) h8 h.2.1 (by omega) (by omega) (by omega) h.2.2.2.2.1 rfl (va_up_self _ _ _) ((h.2.2.2.2.2 (626 + (11 + 2 * n) * n) (by omega)).trans (if_pos rfl))
        rw [e3]
        have h := h.tw (by omega) b
        unfold f_X11_init_160
        refine st_pI h fun σ1 h => ?_
        refine st_pI h fun σ1 h => ?_
        refine st_end h (by omega) ?_ (fun i hi => ?_)
        · unfold o11
          rw [show N + 626 + (11 + 2 * n) * n = N + (626 + (11 + 2 * n) * n) by omega]
        · generalize hW : (11 + 2 * n) * n = W at hi ⊢
          unfold gB1 g11
          rw [hW]
          by_cases c1 : i = 626 + W
          · rw [if_pos c1, if_neg (by omega), if_neg (by omega), if_neg (by omega), if_neg (by omega), if_neg (by omega), if_neg (by omega), if_neg (by omega), if_neg (by omega), if_neg (by omega), if_neg (by omega), if_pos c1]
            congr 3
            funext k
            rw [show N + (626 + W + 1) + 5 * k = N + 626 + W + 1 + 5 * k by omega]
          · rw [if_neg c1]
            by_cases c2 : i < 626 + W + 1
            · rw [if_pos c2, if_neg c1]
            · rw [if_neg c2, if_neg (by omega), if_neg (by omega), if_neg (by omega), if_neg (by omega), if_neg (by omega), if_neg (by omega), if_neg (by omega), if_neg (by omega), if_neg (by omega), if_neg (by omega), if_neg c1]
              rw [show N + (626 + W + 1) = N + 626 + W + 1 by omega]
      · by_cases c1 : i = 626 + (11 + 2 * n) * n
        · rw [if_neg (by omega)]
          exact (if_pos c1).symm
        · rw [if_pos (by omega)]
          exact (if_neg c1).symm
    · by_cases c1 : i = 625
      · subst c1
        rw [if_pos rfl]
        rfl
      · rw [if_neg c1]
        by_cases c2 : i < 626
        · rw [if_pos c2]
          exact if_neg c1
        · rw [if_neg c2]
          unfold g11
          rw [if_neg (by omega), if_neg (by omega), if_neg (by omega), if_neg (by omega), if_neg (by omega), if_neg (by omega), if_neg (by omega), if_neg (by omega), if_neg (by omega), if_pos hi]
  · unfold gA1
    by_cases c0 : i < 12
    · rcases (show i = 0 ∨ i = 1 ∨ i = 2 ∨ i = 3 ∨ i = 4 ∨ i = 5 ∨ i = 6 ∨ i = 7 ∨ i = 8 ∨ i = 9 ∨ i = 10 ∨ i = 11 by omega) with rfl | rfl | rfl | rfl | rfl | rfl | rfl | rfl | rfl | rfl | rfl | rfl <;> rfl
    · by_cases c1 : i < 619
      · rw [if_pos (by omega), if_pos (by omega), if_neg (by omega), if_neg (by omega), if_neg (by omega)]
        unfold g11
        rw [if_neg (by omega), if_neg (by omega), if_neg (by omega), if_neg (by omega), if_neg (by omega), if_pos c1]
        congr 1
      · rcases (show i = 619 ∨ i = 620 ∨ i = 621 ∨ i = 622 ∨ i = 623 ∨ i = 624 ∨ i = 625 by omega) with rfl | rfl | rfl | rfl | rfl | rfl | rfl <;> rfl
end CTR4
