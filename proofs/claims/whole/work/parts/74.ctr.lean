/-! the replicas, the clients, the table -/
section CTR3
variable {σ σ0 σ1 σ2 σ' v : Hp} {a N m m' k l j i kd ln w x cnt n r : Nat} {oa oa' o1 : Ob} {G G' G1 : Nat → Ob} {fI : Nat → Int32} {fR : Nat → Option Nat}
def o6 (n N r q7 q10 q1 : Nat) : Ob := (6, 0, va_up (va_up (va_up z0 3 0) 9 (nI r)) 10 (nI n), va_up (va_up (va_up (va_up (va_up (va_up (va_up (va_up zn 0 (some N)) 1 (some (N + 2))) 4 (some (N + 5))) 5 (some (N + 5))) 11 (some q7)) 12 (some q10)) 13 (some q1)) 14 (some (N + 6)))
def g6 (n N : Nat) : Nat → Ob := fun i => if i = 0 then o4 (N + 1) else if i = 1 then (13, 100, z0, zn) else if i = 2 then (3, 0, z0, va_up (va_up zn 0 (some (N + 3))) 1 (some (N + 4))) else if i < 5 then (13, 9, z0, zn) else if i = 5 then (9, 0, va_up (va_up z0 0 0) 1 1, zn) else if i = 6 then o8 (N + 7) else g8 n (N + 7) (i - 7)
theorem i6 {q7 q10 q1 : Nat} (hn : n < 8) (h : ob σ a = (6, 0, z0, zn)) (hN : oN σ = N) (ha : a < N) : ∃ σ', f_X6_init σ a (nI r) (nI n) q7 q10 q1 = some σ' ∧ Bx σ σ' a N (10 + 2 * n) (o6 n N r q7 q10 q1) (g6 n N) := by
  unfold f_X6_init
  refine st_obj (I := f_X4_init) (Bx.z (G := g4) hN ha h) (fun s a1 a2 a3 => i4 a1 a2 (Nat.lt_succ_self _)) fun σ1 h => ?_
  refine st_obj (I := f_X3_init) h (fun s a1 a2 a3 => i3 a1 a2 (Nat.lt_succ_self _)) fun σ1 h => ?_
  refine st_pI h fun σ1 h => ?_
  refine st_obj (I := fun s x => f_X9_init s x 0 1) h (fun s a1 a2 a3 => i9 a1 a2 (Nat.lt_succ_self _)) fun σ1 h => ?_
  rw [x_gR h.kk, (ob_K h.2.2.2.2.1).2.2.2, va_up_self, Option.bind_some]
  refine st_pR h fun σ1 h => ?_
  refine st_pI h fun σ1 h => ?_
  refine st_pI h fun σ1 h => ?_
  refine st_pR h fun σ1 h => ?_
  refine st_pR h fun σ1 h => ?_
  refine st_pR h fun σ1 h => ?_
  refine st_obj (I := fun s x => f_X8_init s x (nI n)) h (fun s a1 a2 a3 => i8 hn a1 a2 (Nat.lt_succ_self _)) fun σ1 h => ?_
  refine st_end h (by omega) rfl (fun i hi => ?_)
  unfold g6
  by_cases h1 : i < 7
  · rcases (show i = 0 ∨ i = 1 ∨ i = 2 ∨ i = 3 ∨ i = 4 ∨ i = 5 ∨ i = 6 by omega) with rfl | rfl | rfl | rfl | rfl | rfl | rfl <;> rfl
  · rw [if_neg (show ¬ i < 0 + (1 + 1) + (1 + 2) + (1 + 0) from fun h => by omega), if_neg (show ¬ i - (0 + (1 + 1) + (1 + 2) + (1 + 0)) = 0 by omega), if_neg (show ¬ i = 0 by omega), if_neg (show ¬ i = 1 by omega), if_neg (show ¬ i = 2 by omega), if_neg (show ¬ i < 5 by omega), if_neg (show ¬ i = 5 by omega), if_neg (show ¬ i = 6 by omega)]
    congr 1
/-- a replica with what is its own -/
def gr (n q7 q10 q1 N r : Nat) : Nat → Ob := fun i => if i = 0 then o6 n (N + 1) r q7 q10 q1 else g6 n (N + 1) (i - 1)
/-- a client with its rows -/
def gc (n N : Nat) : Nat → Ob := fun i => if i = 0 then o2 (N + 1) (nI n) else g2 (i - 1)
theorem lq6 {q7 q10 q1 : Nat} (hn : n < 8) (hN : oN σ = N) (hw : w < N) (ha : a < N) (haw : a ≠ w) (hoa : ob σ a = (11, 0, fI, fR)) (h0 : fI 0 = nI n) (h1 : fR 1 = some q7) (h2 : fR 2 = some q10) (h3 : fR 3 = some q1) (h4 : fR 4 = some w) (ho : ob σ w = (18, n, z0, zn)) :
    ∃ σ' e, f_X11_init_78 (n + 1 + e) σ a 0 = f_X11_init_122 σ' a ∧ n + 1 + e = 8 ∧ Bx σ σ' w N ((11 + 2 * n) * n) (18, n, z0, fun k => if k < n then some (N + (11 + 2 * n) * k) else none) (fun j => gr n q7 q10 q1 (N + (11 + 2 * n) * (j / (11 + 2 * n))) (j / (11 + 2 * n)) (j % (11 + 2 * n))) := by
  have h := lpG (L := fun d σ x => f_X11_init_78 (d + (7 - n)) σ a x) (E := fun σ => f_X11_init_122 σ a) (w := w) (cnt := n) (c := 11 + 2 * n) (kd := 18) (B := N) (g := fun N i => gr n q7 q10 q1 N i) (σs := σ) (by omega) ?_ ?_ n 0 σ N zn (by omega) (Nat.le_refl _) hN hw (fun _ _ _ => rfl) ho
  · obtain ⟨σ', e, b⟩ := h
    refine ⟨σ', 7 - n, e, by omega, b.co rfl ?_ (fun i _ => ?_)⟩
    · congr 3
      funext k
      simp only [Nat.zero_le, true_and, Nat.sub_zero]
      rfl
    · rw [Nat.zero_add]
  · intro d σ' hP
    have hka := ob_K ((hP a ha haw).trans hoa)
    show f_X11_init_78 (d + 1 + (7 - n)) σ' a (nI n) = _
    rw [show d + 1 + (7 - n) = (d + (7 - n)) + 1 by omega]
    show b_X11_init_78 (f_X11_init_78 (d + (7 - n))) σ' a (nI n) = _
    rw [b_X11_init_78, x_gI hka.1, hka.2.2.1, h0, Option.bind_some, if_pos (nI_le (Nat.le_refl _) (by omega))]
  · intro i σ' M fR' hi hB hM hw' hP ho'
    have hka := ob_K ((hP a ha haw).trans hoa)
    have hkn := ob_K ((ob_nw_n (k := 6) (l := 0) hM (show a ≠ M by omega)).trans ((hP a ha haw).trans hoa))
    obtain ⟨v, e1, e2, b⟩ := st_q (k := 6) (I := fun s x => f_X6_init s x (nI i) (nI n) q7 q10 q1) hM hw' ho' hi (by omega) (fun s a1 a2 a3 => i6 hn a1 a2 (Nat.lt_succ_self _)) rfl
    refine ⟨_, fun d => ?_, b.co (by omega) rfl (fun i hi => rfl)⟩
    show f_X11_init_78 (d + 1 + (7 - n)) σ' a (nI i) = _
    rw [show d + 1 + (7 - n) = (d + (7 - n)) + 1 by omega]
    show b_X11_init_78 (f_X11_init_78 (d + (7 - n))) σ' a (nI i) = _
    rw [b_X11_init_78, x_gI hka.1, hka.2.2.1, h0, Option.bind_some, if_neg (by rw [nI_leI (by omega) (by omega)]; omega), x_gR hka.1, hka.2.2.2, h4, Option.bind_some, Option.bind_some, x_gI hkn.1, hkn.2.2.1, h0, Option.bind_some, x_gR hkn.1, x_gR hkn.1, x_gR hkn.1, hkn.2.2.2, h1, Option.bind_some, h2, Option.bind_some, h3, Option.bind_some, hM, e1, Option.bind_some, e2, Option.bind_some, nI_1]
theorem lq2 (hn : n < 8) (hN : oN σ = N) (hw : w < N) (ha : a < N) (haw : a ≠ w) (hoa : ob σ a = (11, 0, fI, fR)) (h0 : fI 0 = nI n) (h5 : fR 5 = some w) (ho : ob σ w = (15, 4, z0, zn)) :
    ∃ σ', f_X11_init_132 5 σ a 0 = f_X11_init_160 σ' a ∧ Bx σ σ' w N (5 * 4) (15, 4, z0, fun k => if k < 4 then some (N + 5 * k) else none) (fun j => gc n (N + 5 * (j / 5)) (j % 5)) := by
  have h := lpG (L := fun d σ x => f_X11_init_132 d σ a x) (E := fun σ => f_X11_init_160 σ a) (w := w) (cnt := 4) (c := 5) (kd := 15) (B := N) (g := fun N _ => gc n N) (σs := σ) (by omega) ?_ ?_ 4 0 σ N zn (by omega) (Nat.le_refl _) hN hw (fun _ _ _ => rfl) ho
  · obtain ⟨σ', e, b⟩ := h
    refine ⟨σ', e, b.co rfl ?_ (fun i _ => rfl)⟩
    congr 3
    funext k
    simp only [Nat.zero_le, true_and, Nat.sub_zero]
    rfl
  · intro d σ' hP
    show b_X11_init_132 (f_X11_init_132 d) σ' a (nI 4) = _
    rw [b_X11_init_132, if_pos (show (4 : Int32) ≤ nI 4 by decide)]
  · intro i σ' M fR' hi hB hM hw' hP ho'
    have hka := ob_K ((hP a ha haw).trans hoa)
    have hkn := ob_K ((ob_nw_n (k := 2) (l := 0) hM (show a ≠ M by omega)).trans ((hP a ha haw).trans hoa))
    obtain ⟨v, e1, e2, b⟩ := st_q (k := 2) (I := fun s x => f_X2_init s x (nI n)) hM hw' ho' hi (by omega) (fun s a1 a2 a3 => i2 a1 a2 (Nat.lt_succ_self _)) rfl
    refine ⟨_, fun d => ?_, b.co (by omega) rfl (fun i hi => rfl)⟩
    show b_X11_init_132 (f_X11_init_132 d) σ' a (nI i) = _
    rw [b_X11_init_132, if_neg (by rw [show (4 : Int32) = nI 4 from rfl, nI_leI (by decide) (by omega)]; omega), x_gR hka.1, hka.2.2.2, h5, Option.bind_some, Option.bind_some, x_gI hkn.1, hkn.2.2.1, h0, Option.bind_some, hM, e1, Option.bind_some, e2, Option.bind_some, nI_1]
def o11 (n N : Nat) : Ob := (11, 0, va_up (va_up (va_up z0 0 (nI n)) 7 1) 8 1, va_up (va_up (va_up (va_up (va_up (va_up zn 1 (some N)) 2 (some (N + 6))) 3 (some (N + 11))) 6 (some (N + 619))) 4 (some (N + 625))) 5 (some (N + 626 + (11 + 2 * n) * n)))
def g11 (n N : Nat) : Nat → Ob := fun i => if i = 0 then o7 (N + 1) else if i < 6 then (13, 513, z0, zn) else if i = 6 then o10 (N + 7) N else if i < 11 then g10 (i - 7) else if i = 11 then o1A (N + 12) else if i < 619 then g1A (N + 12) (i - 12) else if i = 619 then o0 (N + 620) else if i < 625 then g0 (i - 620)
  else if i = 625 then (18, n, z0, fun k => if k < n then some (N + 626 + (11 + 2 * n) * k) else none)
  else if i < 626 + (11 + 2 * n) * n then gr n N (N + 6) (N + 11) (N + 626 + (11 + 2 * n) * ((i - 626) / (11 + 2 * n))) ((i - 626) / (11 + 2 * n)) ((i - 626) % (11 + 2 * n))
  else if i = 626 + (11 + 2 * n) * n then (15, 4, z0, fun k => if k < 4 then some (N + 626 + (11 + 2 * n) * n + 1 + 5 * k) else none)
  else gc n (N + 626 + (11 + 2 * n) * n + 1 + 5 * ((i - (626 + (11 + 2 * n) * n + 1)) / 5)) ((i - (626 + (11 + 2 * n) * n + 1)) % 5)
end CTR3
