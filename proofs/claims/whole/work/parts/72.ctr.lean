/-! the constructors: an object's description, a block of new objects -/
abbrev Ob : Type := Nat × Nat × (Nat → Int32) × (Nat → Option Nat)
def ob (σ : Hp) (x : Nat) : Ob := (oK σ x, oZ σ x, oI σ x, oR σ x)
def z0 : Nat → Int32 := fun _ => 0
def zn : Nat → Option Nat := fun _ => none
/-- from σ to σ' only a changed among the old, m new objects stand from N on -/
def Bx (σ σ' : Hp) (a N m : Nat) (oa : Ob) (G : Nat → Ob) : Prop := oN σ = N ∧ oN σ' = N + m ∧ a < N ∧ (∀ x, x ≠ a → (x < N ∨ N + m ≤ x) → ob σ' x = ob σ x) ∧ ob σ' a = oa ∧ ∀ i, i < m → ob σ' (N + i) = G i
section CTR
variable {σ σ0 σ1 σ2 σ' v : Hp} {a N m m' k l j i kd ln w x : Nat} {oa oa' o1 : Ob} {G G' G1 : Nat → Ob} {fI : Nat → Int32} {fR : Nat → Option Nat} {F : Hp → Option Hp} {Q : Hp → Prop}
theorem ob_nw_s (hN : oN σ = N) : ob (nw σ k l) N = (k, l, z0, zn) := by
  subst hN
  unfold ob
  rw [oK_nw, oZ_nw, oI_nw, oR_nw]
  simp only [va_up, if_true]
  rfl
theorem ob_nw_n (hN : oN σ = N) (h : x ≠ N) : ob (nw σ k l) x = ob σ x := by
  subst hN
  unfold ob
  rw [oK_nw, oZ_nw, oI_nw, oR_nw]
  simp only [va_up, h, if_false]
theorem ob_sR_s (h : ob σ a = (kd, ln, fI, fR)) : ob (sR σ a k x) a = (kd, ln, fI, va_up fR k (some x)) := by
  unfold ob at h ⊢
  obtain ⟨h1, h2, h3, h4⟩ : oK σ a = kd ∧ oZ σ a = ln ∧ oI σ a = fI ∧ oR σ a = fR := by simpa using h
  rw [oK_sR, oZ_sR, oI_sR, oR_sR, h1, h2, h3, ← h4]
  congr 3
  funext y
  simp only [up2, va_up, true_and]
theorem ob_sR_n {y : Nat} (h : y ≠ a) : ob (sR σ a k x) y = ob σ y := by
  unfold ob
  rw [oK_sR, oZ_sR, oI_sR, oR_sR]
  congr 3
  funext z
  simp only [up2, h, false_and, if_false]
theorem ob_sI_s {x : Int32} (h : ob σ a = (kd, ln, fI, fR)) : ob (sI σ a k x) a = (kd, ln, va_up fI k x, fR) := by
  unfold ob at h ⊢
  obtain ⟨h1, h2, h3, h4⟩ : oK σ a = kd ∧ oZ σ a = ln ∧ oI σ a = fI ∧ oR σ a = fR := by simpa using h
  rw [oK_sI, oZ_sI, oI_sI, oR_sI, h1, h2, h4, ← h3]
  congr 3
  funext y
  simp only [up2, va_up, true_and]
theorem ob_sI_n {x : Int32} {y : Nat} (h : y ≠ a) : ob (sI σ a k x) y = ob σ y := by
  unfold ob
  rw [oK_sI, oZ_sI, oI_sI, oR_sI]
  congr 3
  funext z
  simp only [up2, h, false_and, if_false]
theorem ob_K (h : ob σ a = (kd, ln, fI, fR)) : oK σ a = kd ∧ oZ σ a = ln ∧ oI σ a = fI ∧ oR σ a = fR := by
  unfold ob at h
  simpa using h
theorem Bx.z (hN : oN σ = N) (ha : a < N) (h : ob σ a = oa) : Bx σ σ a N 0 oa G := ⟨hN, hN, ha, fun _ _ _ => rfl, h, fun _ h => absurd h (Nat.not_lt_zero _)⟩
theorem Bx.tr (h : Bx σ σ1 a N m oa G) (h' : Bx σ1 σ2 a (N + m) m' oa' G') : Bx σ σ2 a N (m + m') oa' (fun i => if i < m then G i else G' (i - m)) := by
  obtain ⟨b1, b2, b3, b4, b5, b6⟩ := h
  obtain ⟨c1, c2, c3, c4, c5, c6⟩ := h'
  refine ⟨b1, by omega, b3, fun x hx hx' => ?_, c5, fun i hi => ?_⟩
  · rw [c4 x hx (by omega), b4 x hx (by omega)]
  · dsimp only
    by_cases h : i < m
    · rw [if_pos h, c4 _ (by omega) (by omega), b6 i h]
    · rw [if_neg h, ← c6 (i - m) (by omega), show N + m + (i - m) = N + i by omega]
/-- the later step changes one of the block -/
theorem Bx.tw (h : Bx σ σ1 a N m oa G) (hj : j < m) (h' : Bx σ1 σ2 (N + j) (N + m) m' oa' G') : Bx σ σ2 a N (m + m') oa (fun i => if i = j then oa' else if i < m then G i else G' (i - m)) := by
  obtain ⟨b1, b2, b3, b4, b5, b6⟩ := h
  obtain ⟨c1, c2, c3, c4, c5, c6⟩ := h'
  refine ⟨b1, by omega, b3, fun x hx hx' => ?_, ?_, fun i hi => ?_⟩
  · rw [c4 x (by omega) (by omega), b4 x hx (by omega)]
  · rw [c4 a (by omega) (by omega), b5]
  · dsimp only
    by_cases h0 : i = j
    · rw [if_pos h0, h0, c5]
    · rw [if_neg h0]
      by_cases h : i < m
      · rw [if_pos h, c4 _ (by omega) (by omega), b6 i h]
      · rw [if_neg h, ← c6 (i - m) (by omega), show N + m + (i - m) = N + i by omega]
theorem Bx.co (h : Bx σ σ1 a N m oa G) (hm : m = m') (ho : oa = oa') (hG : ∀ i, i < m → G i = G' i) : Bx σ σ1 a N m' oa' G' := by
  subst hm
  subst ho
  obtain ⟨b1, b2, b3, b4, b5, b6⟩ := h
  exact ⟨b1, b2, b3, b4, b5, fun i hi => by rw [b6 i hi, hG i hi]⟩
theorem bx_row (hN : oN σ = N) (ha : a < N) (h : ob σ a = (kd, ln, fI, fR)) : Bx σ (sR (nw σ k l) a j N) a N 1 (kd, ln, fI, va_up fR j (some N)) (fun _ => (k, l, z0, zn)) := by
  refine ⟨hN, by rw [oN_sR, oN_nw, hN], ha, fun x hx hx' => ?_, ?_, fun i hi => ?_⟩
  · rw [ob_sR_n hx, ob_nw_n hN (by omega)]
  · exact ob_sR_s (by rw [ob_nw_n hN (by omega), h])
  · have : i = 0 := by omega
    subst this
    show ob _ N = _
    rw [ob_sR_n (by omega), ob_nw_s hN]
theorem bx_obj (hN : oN σ = N) (ha : a < N) (h : ob σ a = (kd, ln, fI, fR)) (hb : Bx (nw σ k 0) v N (N + 1) m o1 G1) : Bx σ (sR v a j N) a N (1 + m) (kd, ln, fI, va_up fR j (some N)) (fun i => if i = 0 then o1 else G1 (i - 1)) := by
  obtain ⟨b1, b2, b3, b4, b5, b6⟩ := hb
  refine ⟨hN, by rw [oN_sR, b2]; omega, ha, fun x hx hx' => ?_, ?_, fun i hi => ?_⟩
  · rw [ob_sR_n hx, b4 x (by omega) (by omega), ob_nw_n hN (by omega)]
  · exact ob_sR_s (by rw [b4 a (by omega) (by omega), ob_nw_n hN (by omega), h])
  · dsimp only
    rw [ob_sR_n (by omega)]
    by_cases h0 : i = 0
    · rw [if_pos h0, h0]
      exact b5
    · rw [if_neg h0, ← b6 (i - 1) (by omega), show N + 1 + (i - 1) = N + i by omega]
theorem Bx.sI {x : Int32} (h : Bx σ0 σ a N m (kd, ln, fI, fR) G) : Bx σ0 (sI σ a k x) a N m (kd, ln, va_up fI k x, fR) G := by
  obtain ⟨b1, b2, b3, b4, b5, b6⟩ := h
  exact ⟨b1, by rw [oN_sI, b2], b3, fun y hy hy' => by rw [ob_sI_n hy, b4 y hy hy'], ob_sI_s b5, fun i hi => by rw [ob_sI_n (by omega), b6 i hi]⟩
theorem Bx.sR (h : Bx σ0 σ a N m (kd, ln, fI, fR) G) : Bx σ0 (sR σ a k x) a N m (kd, ln, fI, va_up fR k (some x)) G := by
  obtain ⟨b1, b2, b3, b4, b5, b6⟩ := h
  exact ⟨b1, by rw [oN_sR, b2], b3, fun y hy hy' => by rw [ob_sR_n hy, b4 y hy hy'], ob_sR_s b5, fun i hi => by rw [ob_sR_n (by omega), b6 i hi]⟩
theorem Bx.kk (h : Bx σ0 σ a N m (kd, ln, fI, fR) G) : oK σ a = kd := (ob_K h.2.2.2.2.1).1
/-! steps -/
theorem st_row (h : Bx σ0 σ a N m (kd, ln, fI, fR) G) (H : ∀ σ1, Bx σ0 σ1 a N (m + 1) (kd, ln, fI, va_up fR j (some (N + m))) (fun i => if i < m then G i else (k, l, z0, zn)) → ∃ σ', F σ1 = some σ' ∧ Q σ') : ∃ σ', ((some (nw σ k l)).bind fun s => (h_pR s kd a j (oN σ)).bind F) = some σ' ∧ Q σ' := by
  have e : oN σ = N + m := h.2.1
  have ha : a < N + m := Nat.lt_of_lt_of_le h.2.2.1 (Nat.le_add_right _ _)
  have h1 := h.tr (bx_row (k := k) (l := l) (j := j) e ha h.2.2.2.2.1)
  rw [Option.bind_some, e, x_pR (by rw [oK_nw, e]; simp only [va_up]; rw [if_neg (by omega)]; exact h.kk), Option.bind_some]
  exact H _ h1
theorem st_obj {I : Hp → Nat → Option Hp} (h : Bx σ0 σ a N m (kd, ln, fI, fR) G) (hc : ∀ s, ob s (N + m) = (k, 0, z0, zn) → oN s = N + m + 1 → (∀ x, x < N + m → ob s x = ob σ x) → ∃ v, I s (N + m) = some v ∧ Bx s v (N + m) (N + m + 1) m' o1 G1)
    (H : ∀ σ1, Bx σ0 σ1 a N (m + (1 + m')) (kd, ln, fI, va_up fR j (some (N + m))) (fun i => if i < m then G i else if i - m = 0 then o1 else G1 (i - m - 1)) → ∃ σ', F σ1 = some σ' ∧ Q σ') : ∃ σ', ((some (nw σ k 0)).bind fun s => (I s (oN σ)).bind fun v => (h_pR v kd a j (oN σ)).bind F) = some σ' ∧ Q σ' := by
  have e : oN σ = N + m := h.2.1
  have ha : a < N + m := Nat.lt_of_lt_of_le h.2.2.1 (Nat.le_add_right _ _)
  obtain ⟨v, e1, hb⟩ := hc (nw σ k 0) (ob_nw_s e) (by rw [oN_nw, e]) (fun x hx => ob_nw_n e (by omega))
  have hk : oK v a = kd := by
    have := hb.2.2.2.1 a (by omega) (by omega)
    rw [ob_nw_n e (by omega), h.2.2.2.2.1] at this
    exact (ob_K this).1
  have h1 := h.tr (bx_obj (j := j) e ha h.2.2.2.2.1 hb)
  rw [Option.bind_some, e, e1, Option.bind_some, x_pR hk, Option.bind_some]
  exact H _ h1
theorem st_pI {x : Int32} (h : Bx σ0 σ a N m (kd, ln, fI, fR) G) (H : ∀ σ1, Bx σ0 σ1 a N m (kd, ln, va_up fI k x, fR) G → ∃ σ', F σ1 = some σ' ∧ Q σ') : ∃ σ', (h_pI σ kd a k x).bind F = some σ' ∧ Q σ' := by
  rw [x_pI h.kk, Option.bind_some]
  exact H _ h.sI
theorem st_pR (h : Bx σ0 σ a N m (kd, ln, fI, fR) G) (H : ∀ σ1, Bx σ0 σ1 a N m (kd, ln, fI, va_up fR k (some x)) G → ∃ σ', F σ1 = some σ' ∧ Q σ') : ∃ σ', (h_pR σ kd a k x).bind F = some σ' ∧ Q σ' := by
  rw [x_pR h.kk, Option.bind_some]
  exact H _ h.sR
theorem st_end (h : Bx σ0 σ a N m oa G) (hm : m = m') (ho : oa = oa') (hG : ∀ i, i < m → G i = G' i) : ∃ σ', some σ = some σ' ∧ Bx σ0 σ' a N m' oa' G' := ⟨σ, rfl, h.co hm ho hG⟩
/-! the small constructors -/
def g4 : Nat → Ob := fun _ => (13, 100, z0, zn)
theorem i4 (h : ob σ a = (4, 0, z0, zn)) (hN : oN σ = N) (ha : a < N) : ∃ σ', f_X4_init σ a = some σ' ∧ Bx σ σ' a N 1 (4, 0, z0, va_up zn 0 (some N)) g4 := by
  unfold f_X4_init
  refine st_row (Bx.z (G := g4) hN ha h) fun σ1 h1 => ?_
  exact st_end h1 rfl rfl (fun i hi => by rw [if_neg (by omega)]; rfl)
def o5 (N : Nat) : Ob := (5, 0, z0, va_up zn 11 (some N))
def o4 (N : Nat) : Ob := (4, 0, z0, va_up zn 0 (some N))
def g5 (N : Nat) : Nat → Ob := fun i => if i = 0 then o4 (N + 1) else (13, 100, z0, zn)
theorem c5 {P : Nat → Prop} {M : Nat} (h : ∀ i, i < M → P i) : ∀ i, i < M → P i := h
theorem i5 (h : ob σ a = (5, 0, z0, zn)) (hN : oN σ = N) (ha : a < N) : ∃ σ', f_X5_init σ a = some σ' ∧ Bx σ σ' a N 2 (o5 N) (g5 N) := by
  unfold f_X5_init
  refine st_obj (I := f_X4_init) (Bx.z (G := g4) hN ha h) (fun s a1 a2 a3 => i4 a1 a2 (Nat.lt_succ_self _)) fun σ1 h1 => ?_
  exact st_end h1 rfl rfl (fun i hi => by
    rcases (show i = 0 ∨ i = 1 by omega) with rfl | rfl <;> rfl)
theorem i9 {x y : Int32} (h : ob σ a = (9, 0, z0, zn)) (hN : oN σ = N) (ha : a < N) : ∃ σ', f_X9_init σ a x y = some σ' ∧ Bx σ σ' a N 0 (9, 0, va_up (va_up z0 0 x) 1 y, zn) g4 := by
  unfold f_X9_init
  refine st_pI (Bx.z (G := g4) hN ha h) fun σ1 h1 => ?_
  refine st_pI h1 fun σ2 h2 => ?_
  exact st_end h2 rfl rfl (fun i hi => rfl)
def g3 : Nat → Ob := fun _ => (13, 9, z0, zn)
theorem i3 (h : ob σ a = (3, 0, z0, zn)) (hN : oN σ = N) (ha : a < N) : ∃ σ', f_X3_init σ a = some σ' ∧ Bx σ σ' a N 2 (3, 0, z0, va_up (va_up zn 0 (some N)) 1 (some (N + 1))) g3 := by
  unfold f_X3_init
  refine st_row (Bx.z (G := g4) hN ha h) fun σ1 h => ?_
  refine st_row h fun σ1 h => ?_
  exact st_end h rfl rfl (fun i hi => by rcases (show i = 0 ∨ i = 1 by omega) with rfl | rfl <;> rfl)
def o2 (N : Nat) (x : Int32) : Ob := (2, 0, va_up (va_up (va_up z0 1 0) 2 0) 6 x, va_up (va_up (va_up (va_up zn 7 (some N)) 8 (some (N + 1))) 9 (some (N + 2))) 10 (some (N + 3)))
def g2 : Nat → Ob := fun i => (if i = 0 then 19 else 13, 64, z0, zn)
theorem i2 {x : Int32} (h : ob σ a = (2, 0, z0, zn)) (hN : oN σ = N) (ha : a < N) : ∃ σ', f_X2_init σ a x = some σ' ∧ Bx σ σ' a N 4 (o2 N x) g2 := by
  unfold f_X2_init
  refine st_pI (Bx.z (G := g4) hN ha h) fun σ1 h => ?_
  refine st_pI h fun σ1 h => ?_
  refine st_row h fun σ1 h => ?_
  refine st_row h fun σ1 h => ?_
  refine st_row h fun σ1 h => ?_
  refine st_row h fun σ1 h => ?_
  refine st_pI h fun σ1 h => ?_
  exact st_end h rfl rfl (fun i hi => by rcases (show i = 0 ∨ i = 1 ∨ i = 2 ∨ i = 3 by omega) with rfl | rfl | rfl | rfl <;> rfl)
def o0 (N : Nat) : Ob := (0, 0, z0, va_up (va_up (va_up (va_up (va_up zn 1 (some N)) 2 (some (N + 1))) 3 (some (N + 2))) 4 (some (N + 3))) 5 (some (N + 4)))
def g0 : Nat → Ob := fun i => (if i = 1 then 19 else 13, 200, z0, zn)
theorem i0 (h : ob σ a = (0, 0, z0, zn)) (hN : oN σ = N) (ha : a < N) : ∃ σ', f_X0_init σ a = some σ' ∧ Bx σ σ' a N 5 (o0 N) g0 := by
  unfold f_X0_init
  refine st_row (Bx.z (G := g4) hN ha h) fun σ1 h => ?_
  refine st_row h fun σ1 h => ?_
  refine st_row h fun σ1 h => ?_
  refine st_row h fun σ1 h => ?_
  refine st_row h fun σ1 h => ?_
  exact st_end h rfl rfl (fun i hi => by rcases (show i = 0 ∨ i = 1 ∨ i = 2 ∨ i = 3 ∨ i = 4 by omega) with rfl | rfl | rfl | rfl | rfl <;> rfl)
def o7 (N : Nat) : Ob := (7, 0, va_up z0 5 0, va_up (va_up (va_up (va_up (va_up zn 0 (some N)) 1 (some (N + 1))) 2 (some (N + 2))) 3 (some (N + 3))) 4 (some (N + 4)))
def g7 : Nat → Ob := fun _ => (13, 513, z0, zn)
theorem i7 (h : ob σ a = (7, 0, z0, zn)) (hN : oN σ = N) (ha : a < N) : ∃ σ', f_X7_init σ a = some σ' ∧ Bx σ σ' a N 5 (o7 N) g7 := by
  unfold f_X7_init
  refine st_row (Bx.z (G := g4) hN ha h) fun σ1 h => ?_
  refine st_row h fun σ1 h => ?_
  refine st_row h fun σ1 h => ?_
  refine st_row h fun σ1 h => ?_
  refine st_row h fun σ1 h => ?_
  refine st_pI h fun σ1 h => ?_
  exact st_end h rfl rfl (fun i hi => by rcases (show i = 0 ∨ i = 1 ∨ i = 2 ∨ i = 3 ∨ i = 4 by omega) with rfl | rfl | rfl | rfl | rfl <;> rfl)
def o10 (N x : Nat) : Ob := (10, 0, z0, va_up (va_up (va_up (va_up (va_up zn 0 (some N)) 2 (some (N + 1))) 3 (some (N + 2))) 4 (some (N + 3))) 1 (some x))
def g10 : Nat → Ob := fun i => (13, if i = 0 then 8 else if i = 1 then 4 else 513, z0, zn)
theorem i10 {x : Nat} (h : ob σ a = (10, 0, z0, zn)) (hN : oN σ = N) (ha : a < N) : ∃ σ', f_X10_init σ a x = some σ' ∧ Bx σ σ' a N 4 (o10 N x) g10 := by
  unfold f_X10_init
  refine st_row (Bx.z (G := g4) hN ha h) fun σ1 h => ?_
  refine st_row h fun σ1 h => ?_
  refine st_row h fun σ1 h => ?_
  refine st_row h fun σ1 h => ?_
  refine st_pR h fun σ1 h => ?_
  exact st_end h rfl rfl (fun i hi => by rcases (show i = 0 ∨ i = 1 ∨ i = 2 ∨ i = 3 by omega) with rfl | rfl | rfl | rfl <;> rfl)
end CTR
