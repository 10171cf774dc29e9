/-! the loops that fill a row with new objects -/
theorem lpG {L : Nat → Hp → Int32 → Option Hp} {E : Hp → Option Hp} {w cnt c kd B : Nat} {g : Nat → Nat → Nat → Ob} {σs : Hp} (hc : 0 < c)
    (hend : ∀ d σ, (∀ x, x < B → x ≠ w → ob σ x = ob σs x) → L (d + 1) σ (nI cnt) = E σ)
    (hstep : ∀ i σ N fR, i < cnt → B ≤ N → oN σ = N → w < N → (∀ x, x < B → x ≠ w → ob σ x = ob σs x) → ob σ w = (kd, cnt, z0, fR) → ∃ σ1, (∀ d, L (d + 1) σ (nI i) = L d σ1 (nI (i + 1))) ∧ Bx σ σ1 w N c (kd, cnt, z0, va_up fR i (some N)) (g N i)) :
    ∀ d i σ N fR, i + d = cnt → B ≤ N → oN σ = N → w < N → (∀ x, x < B → x ≠ w → ob σ x = ob σs x) → ob σ w = (kd, cnt, z0, fR) → ∃ σ', L (d + 1) σ (nI i) = E σ' ∧ Bx σ σ' w N (c * d) (kd, cnt, z0, fun k => if i ≤ k ∧ k < cnt then some (N + c * (k - i)) else fR k) (fun j => g (N + c * (j / c)) (i + j / c) (j % c)) := by
  intro d
  induction d with
  | zero =>
    intro i σ N fR hi hB hN hw hP ho
    have : i = cnt := by omega
    subst this
    refine ⟨σ, hend 0 σ hP, ?_⟩
    have e : (fun k => if i ≤ k ∧ k < i then some (N + c * (k - i)) else fR k) = fR := by
      funext k
      rw [if_neg (by omega)]
    rw [e]
    exact Bx.z hN hw ho
  | succ d ih =>
    intro i σ N fR hi hB hN hw hP ho
    obtain ⟨σ1, e1, b1⟩ := hstep i σ N fR (by omega) hB hN hw hP ho
    obtain ⟨σ', e2, b2⟩ := ih (i + 1) σ1 (N + c) _ (by omega) (by omega) b1.2.1 (by omega) (fun x hx hx' => by rw [b1.2.2.2.1 x hx' (by omega), hP x hx hx']) b1.2.2.2.2.1
    refine ⟨σ', by rw [e1, e2], (b1.tr b2).co (by rw [Nat.mul_succ]; omega) ?_ ?_⟩
    · congr 3
      funext k
      by_cases h1 : k = i
      · subst h1
        rw [if_neg (by omega), if_pos (by omega), va_up_self, Nat.sub_self]
        rfl
      · by_cases h2 : i + 1 ≤ k ∧ k < cnt
        · rw [if_pos h2, if_pos (by omega)]
          congr 1
          rw [show k - i = (k - (i + 1)) + 1 by omega, Nat.mul_succ]
          omega
        · rw [if_neg h2, va_up_ne _ _ h1]
          by_cases h3 : i ≤ k ∧ k < cnt
          · omega
          · rw [if_neg h3]
    · intro j hj
      by_cases h1 : j < c
      · rw [if_pos h1, Nat.div_eq_of_lt h1, Nat.mod_eq_of_lt h1]
        rfl
      · rw [if_neg h1]
        obtain ⟨j', rfl⟩ : ∃ j', j = c + j' := ⟨j - c, by omega⟩
        rw [show c + j' - c = j' by omega, Nat.add_div_left _ hc, Nat.add_mod_left, Nat.mul_succ]
        congr 1
        · omega
        · omega
section CTR2
variable {σ σ0 σ1 σ2 σ' v : Hp} {a N m m' k l j i kd ln w x cnt n : Nat} {oa oa' o1 : Ob} {G G' G1 : Nat → Ob} {fI : Nat → Int32} {fR : Nat → Option Nat}
theorem st_q {I : Hp → Nat → Option Hp} (hN : oN σ = N) (hw : w < N) (h : ob σ w = (kd, cnt, fI, fR)) (hi : i < cnt) (hcnt : cnt < 2 ^ 31) (hb : ∀ s, ob s N = (k, 0, z0, zn) → oN s = N + 1 → (∀ x, x < N → ob s x = ob σ x) → ∃ v, I s N = some v ∧ Bx s v N (N + 1) m o1 G1) (ho1 : o1.1 = k) :
    ∃ v, I (nw σ k 0) N = some v ∧ h_qR v kd k w (nI i) N = some (sR v w i N) ∧ Bx σ (sR v w i N) w N (1 + m) (kd, cnt, fI, va_up fR i (some N)) (fun i => if i = 0 then o1 else G1 (i - 1)) := by
  obtain ⟨v, e1, b1⟩ := hb (nw σ k 0) (ob_nw_s hN) (by rw [oN_nw, hN]) (fun x hx => ob_nw_n hN (by omega))
  have h2 := b1.2.2.2.1 w (by omega) (by omega)
  rw [ob_nw_n hN (by omega), h] at h2
  have h3 := ob_K h2
  have h4 : oK v N = k := by
    have := congrArg Prod.fst b1.2.2.2.2.1
    rw [← ho1]
    exact this
  exact ⟨v, e1, e_qR h3.1 h4 h3.2.1 hi hcnt, bx_obj hN hw h b1⟩
/-- a message with its log and its entries -/
def gm (N : Nat) : Nat → Ob := fun i => if i = 0 then o5 (N + 1) else g5 (N + 1) (i - 1)
theorem lq1 (hN : oN σ = N) (hw : w < N) (ha : a < N) (haw : a ≠ w) (hoa : ob σ a = (1, 0, fI, fR)) (h0 : fR 0 = some w) (ho : ob σ w = (17, 200, z0, zn)) :
    ∃ σ', f_X1_init_38 201 σ a 0 = some σ' ∧ Bx σ σ' w N (3 * 200) (17, 200, z0, fun k => if k < 200 then some (N + 3 * k) else none) (fun j => gm (N + 3 * (j / 3)) (j % 3)) := by
  have h := lpG (L := fun d σ x => f_X1_init_38 d σ a x) (E := some) (w := w) (cnt := 200) (c := 3) (kd := 17) (B := N) (g := fun N _ => gm N) (σs := σ) (by decide) ?_ ?_ 200 0 σ N zn rfl (Nat.le_refl _) hN hw (fun _ _ _ => rfl) ho
  · obtain ⟨σ', e, b⟩ := h
    refine ⟨σ', e, b.co rfl ?_ (fun i _ => rfl)⟩
    congr 3
    funext k
    simp only [Nat.zero_le, true_and, Nat.sub_zero]
    rfl
  · intro d σ' hP
    show b_X1_init_38 (f_X1_init_38 d) σ' a (nI 200) = some σ'
    rw [b_X1_init_38, if_pos (show (200 : Int32) ≤ nI 200 by decide)]
  · intro i σ' M fR' hi hB hM hw' hP ho'
    have hka := ob_K ((hP a ha haw).trans hoa)
    obtain ⟨v, e1, e2, b⟩ := st_q (k := 5) (I := f_X5_init) hM hw' ho' hi (by decide) (fun s a1 a2 a3 => i5 a1 a2 (Nat.lt_succ_self _)) rfl
    refine ⟨_, fun d => ?_, b.co rfl rfl (fun i hi => rfl)⟩
    show b_X1_init_38 (f_X1_init_38 d) σ' a (nI i) = _
    rw [b_X1_init_38, if_neg (by rw [l200, nI_leI (by decide) (by omega)]; omega), x_gR hka.1, hka.2.2.2, h0, Option.bind_some, Option.bind_some, hM, e1, Option.bind_some, e2, Option.bind_some, nI_1]
def o1A (N : Nat) : Ob := (1, 0, z0, va_up (va_up (va_up zn 0 (some N)) 4 (some (N + 1))) 5 (some (N + 4)))
def g1A (N : Nat) : Nat → Ob := fun j => if j = 0 then (17, 200, z0, fun k => if k < 200 then some (N + 7 + 3 * k) else none) else if j < 4 then gm (N + 1) (j - 1) else if j < 7 then gm (N + 4) (j - 4) else gm (N + 7 + 3 * ((j - 7) / 3)) ((j - 7) % 3)
theorem i1 (h : ob σ a = (1, 0, z0, zn)) (hN : oN σ = N) (ha : a < N) : ∃ σ', f_X1_init σ a = some σ' ∧ Bx σ σ' a N 607 (o1A N) (g1A N) := by
  unfold f_X1_init
  refine st_row (Bx.z (G := g4) hN ha h) fun σ1 h => ?_
  refine st_obj (I := f_X5_init) h (fun s a1 a2 a3 => i5 a1 a2 (Nat.lt_succ_self _)) fun σ1 h => ?_
  refine st_obj (I := f_X5_init) h (fun s a1 a2 a3 => i5 a1 a2 (Nat.lt_succ_self _)) fun σ1 h => ?_
  obtain ⟨σ', e, b⟩ := lq1 (w := N + 0) (a := a) h.2.1 (by omega) (by omega) (by omega) h.2.2.2.2.1 rfl (h.2.2.2.2.2 0 (by decide))
  refine ⟨σ', e, (h.tw (by decide) b).co rfl rfl (fun i hi => ?_)⟩
  unfold g1A
  by_cases h0 : i = 0
  · rw [if_pos h0, if_pos h0]
  · rw [if_neg h0, if_neg h0]
    by_cases h1 : i < 7
    · rcases (show i = 1 ∨ i = 2 ∨ i = 3 ∨ i = 4 ∨ i = 5 ∨ i = 6 by omega) with rfl | rfl | rfl | rfl | rfl | rfl <;> rfl
    · rw [if_neg (show ¬ i < 0 + 1 + (1 + 2) + (1 + 2) from h1) |> fun e => e, if_neg (by omega), if_neg h1]
theorem lq8 (hn : n < 8) (hN : oN σ = N) (hw : w < N) (ha : a < N) (haw : a ≠ w) (hoa : ob σ a = (8, 0, fI, fR)) (h0 : fR 6 = some w) (ho : ob σ w = (16, n, z0, zn)) :
    ∃ σ', f_X8_init_29 (n + 1) σ a (nI n) 0 = some σ' ∧ Bx σ σ' w N (2 * n) (16, n, z0, fun k => if k < n then some (N + 2 * k) else none) (fun j => if j % 2 = 0 then o4 (N + 2 * (j / 2) + 1) else (13, 100, z0, zn)) := by
  have h := lpG (L := fun d σ x => f_X8_init_29 d σ a (nI n) x) (E := some) (w := w) (cnt := n) (c := 2) (kd := 16) (B := N) (g := fun N _ j => if j = 0 then o4 (N + 1) else (13, 100, z0, zn)) (σs := σ) (by decide) ?_ ?_ n 0 σ N zn (by omega) (Nat.le_refl _) hN hw (fun _ _ _ => rfl) ho
  · obtain ⟨σ', e, b⟩ := h
    refine ⟨σ', e, b.co rfl ?_ (fun i _ => rfl)⟩
    congr 3
    funext k
    simp only [Nat.zero_le, true_and, Nat.sub_zero]
    rfl
  · intro d σ' hP
    show b_X8_init_29 (f_X8_init_29 d) σ' a (nI n) (nI n) = some σ'
    rw [b_X8_init_29, if_pos (nI_le (Nat.le_refl _) (by omega))]
  · intro i σ' M fR' hi hB hM hw' hP ho'
    have hka := ob_K ((hP a ha haw).trans hoa)
    obtain ⟨v, e1, e2, b⟩ := st_q (k := 4) (I := f_X4_init) hM hw' ho' hi (by omega) (fun s a1 a2 a3 => i4 a1 a2 (Nat.lt_succ_self _)) rfl
    refine ⟨_, fun d => ?_, b.co rfl rfl (fun i hi => rfl)⟩
    show b_X8_init_29 (f_X8_init_29 d) σ' a (nI n) (nI i) = _
    rw [b_X8_init_29, if_neg (by rw [nI_leI (by omega) (by omega)]; omega), x_gR hka.1, hka.2.2.2, h0, Option.bind_some, Option.bind_some, hM, e1, Option.bind_some, e2, Option.bind_some, nI_1]
theorem x_len {n : Nat} (hn : n < 8) : h_len (nI n) 7 = some () := by
  unfold h_len
  rw [nI_clamp (by omega), if_pos ⟨nI_pos (by omega), by omega⟩]
def o8 (N : Nat) : Ob := (8, 0, z0, va_up (va_up (va_up zn 4 (some N)) 5 (some (N + 1))) 6 (some (N + 2)))
def g8 (n N : Nat) : Nat → Ob := fun i => if i = 0 then (19, n, z0, zn) else if i = 1 then (13, n, z0, zn) else if i = 2 then (16, n, z0, fun k => if k < n then some (N + 3 + 2 * k) else none) else if (i - 3) % 2 = 0 then o4 (N + 3 + 2 * ((i - 3) / 2) + 1) else (13, 100, z0, zn)
theorem lf8 {n : Nat} (hn : n < 8) : ∀ {σ : Hp} {x0 : Nat} {x1 x2 : Int32} {σ' : Hp}, f_X8_init_29 (n + 1) σ x0 x1 x2 = some σ' → f_X8_init_29 8 σ x0 x1 x2 = some σ' := by
  have mono : ∀ d e, d ≤ e → ∀ {σ : Hp} {x0 : Nat} {x1 x2 : Int32} {σ' : Hp}, f_X8_init_29 d σ x0 x1 x2 = some σ' → f_X8_init_29 e σ x0 x1 x2 = some σ' := by
    intro d
    induction d with
    | zero => intro e _ σ x0 x1 x2 σ' h; exact absurd h (by simp [f_X8_init_29])
    | succ d ih =>
      intro e he σ x0 x1 x2 σ' h
      obtain ⟨e', rfl⟩ : ∃ e', e = e' + 1 := ⟨e - 1, by omega⟩
      replace h : b_X8_init_29 (f_X8_init_29 d) σ x0 x1 x2 = some σ' := h
      show b_X8_init_29 (f_X8_init_29 e') σ x0 x1 x2 = some σ'
      unfold b_X8_init_29 at h ⊢
      by_cases h1 : x1 ≤ x2
      · rw [if_pos h1] at h ⊢
        exact h
      · rw [if_neg h1] at h ⊢
        obtain ⟨v1, e1, h⟩ := o_b h
        rw [e1, Option.bind_some]
        obtain ⟨v2, e2, h⟩ := o_b h
        rw [e2, Option.bind_some]
        obtain ⟨v3, e3, h⟩ := o_b h
        rw [e3, Option.bind_some]
        obtain ⟨v4, e4, h⟩ := o_b h
        rw [e4, Option.bind_some]
        exact ih e' (by omega) h
  intro σ x0 x1 x2 σ' h
  exact mono (n + 1) 8 (by omega) h
theorem i8 (hn : n < 8) (h : ob σ a = (8, 0, z0, zn)) (hN : oN σ = N) (ha : a < N) : ∃ σ', f_X8_init σ a (nI n) = some σ' ∧ Bx σ σ' a N (3 + 2 * n) (o8 N) (g8 n N) := by
  unfold f_X8_init
  rw [x_len hn, Option.bind_some, nI_clamp (by omega)]
  refine st_row (Bx.z (G := g4) hN ha h) fun σ1 h => ?_
  rw [Option.bind_some]
  refine st_row h fun σ1 h => ?_
  rw [Option.bind_some]
  refine st_row h fun σ1 h => ?_
  obtain ⟨σ', e, b⟩ := lq8 (w := N + 2) (a := a) hn h.2.1 (by omega) (by omega) (by omega) h.2.2.2.2.1 rfl (h.2.2.2.2.2 2 (by decide))
  refine ⟨σ', lf8 hn e, (h.tw (by decide) b).co rfl rfl (fun i hi => ?_)⟩
  unfold g8
  by_cases h1 : i < 3
  · rcases (show i = 0 ∨ i = 1 ∨ i = 2 by omega) with rfl | rfl | rfl <;> rfl
  · rw [if_neg (show ¬ i = 2 by omega), if_neg (show ¬ i < 0 + 1 + 1 + 1 from h1), if_neg (show ¬ i = 0 by omega), if_neg (show ¬ i = 1 by omega), if_neg (show ¬ i = 2 by omega)]
end CTR2
