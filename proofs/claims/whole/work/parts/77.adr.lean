/-! what stands at the addresses at the start -/
section ST0
variable {σ0 σ : Hp} {a N n i j : Nat}
theorem g11_msg {o : Nat} (hi : i < 202) (ho : o < 3) : g11 n N (mo i + o) = gm (N + mo i) o := by
  by_cases h0 : i = 200
  · subst h0
    rcases (show o = 0 ∨ o = 1 ∨ o = 2 by omega) with rfl | rfl | rfl <;> rfl
  · by_cases h1 : i = 201
    · subst h1
      rcases (show o = 0 ∨ o = 1 ∨ o = 2 by omega) with rfl | rfl | rfl <;> rfl
    · have e : mo i = 19 + 3 * i := by rw [mo, if_neg h0, if_neg h1]
      rw [e, g11, if_neg (by omega), if_neg (by omega), if_neg (by omega), if_neg (by omega), if_neg (by omega), if_pos (by omega), g1A, if_neg (by omega), if_neg (by omega), if_neg (by omega), show (19 + 3 * i + o - 12 - 7) / 3 = i by omega, show (19 + 3 * i + o - 12 - 7) % 3 = o by omega, show N + 12 + 7 + 3 * i = N + (19 + 3 * i) by omega]
theorem g11_rep {r o : Nat} (hr : r < n) (ho : o < (11 + 2 * n)) : g11 n N (626 + (11 + 2 * n) * r + o) = gr n N (N + 6) (N + 11) (N + 626 + (11 + 2 * n) * r) r o := by
  have h1 := blk2 (W := (11 + 2 * n)) hr
  have h2 := blk (r := r) ho
  have h3 : 626 + (11 + 2 * n) * r + o - 626 = (11 + 2 * n) * r + o := by omega
  rw [g11, if_neg (by omega), if_neg (by omega), if_neg (by omega), if_neg (by omega), if_neg (by omega), if_neg (by omega), if_neg (by omega), if_neg (by omega), if_neg (by omega), if_pos (by omega), h3, h2.1, h2.2]
theorem g11_cli {c o : Nat} (hc : c < 4) (ho : o < 5) : g11 n N (626 + (11 + 2 * n) * n + 1 + 5 * c + o) = gc n (N + 626 + (11 + 2 * n) * n + 1 + 5 * c) o := by
  rw [g11, if_neg (by omega), if_neg (by omega), if_neg (by omega), if_neg (by omega), if_neg (by omega), if_neg (by omega), if_neg (by omega), if_neg (by omega), if_neg (by omega), if_neg (by omega), if_neg (by omega), show (626 + (11 + 2 * n) * n + 1 + 5 * c + o - (626 + (11 + 2 * n) * n + 1)) / 5 = c by omega, show (626 + (11 + 2 * n) * n + 1 + 5 * c + o - (626 + (11 + 2 * n) * n + 1)) % 5 = o by omega]
theorem ae0 : A0 a N n 0 0 0 = N + 619 := by
  have e : A0 a N n 0 0 0 = ad a N n 0 0 0 := if_pos (Rs.d0)
  rw [e]
  rfl
theorem ae1 : A0 a N n 1 0 0 = N + 11 := by
  have e : A0 a N n 1 0 0 = ad a N n 1 0 0 := if_pos (Rs.d1)
  rw [e]
  rfl
theorem ae2 (hi : i < 4) : A0 a N n 2 i 0 = N + 626 + (11 + 2 * n) * n + 1 + 5 * i := by
  have e : A0 a N n 2 i 0 = ad a N n 2 i 0 := if_pos (Rs.d2 hi)
  rw [e]
  rfl
theorem ae3 (hi : i < n) : A0 a N n 3 i 0 = N + 626 + (11 + 2 * n) * i + 3 := by
  have e : A0 a N n 3 i 0 = ad a N n 3 i 0 := if_pos (Rs.d3 hi)
  rw [e]
  rfl
theorem ae5 (hi : i < 202) : A0 a N n 5 i 0 = N + mo i := by
  have e : A0 a N n 5 i 0 = ad a N n 5 i 0 := if_pos (Rs.d5 hi)
  rw [e]
  rfl
theorem ae6 (hi : i < n) : A0 a N n 6 i 0 = N + 626 + (11 + 2 * n) * i := by
  have e : A0 a N n 6 i 0 = ad a N n 6 i 0 := if_pos (Rs.d6 hi)
  rw [e]
  rfl
theorem ae7 : A0 a N n 7 0 0 = N := by
  have e : A0 a N n 7 0 0 = ad a N n 7 0 0 := if_pos (Rs.d7)
  rw [e]
  rfl
theorem ae8 (hi : i < n) : A0 a N n 8 i 0 = N + 626 + (11 + 2 * n) * i + 7 := by
  have e : A0 a N n 8 i 0 = ad a N n 8 i 0 := if_pos (Rs.d8 hi)
  rw [e]
  rfl
theorem ae10 : A0 a N n 10 0 0 = N + 6 := by
  have e : A0 a N n 10 0 0 = ad a N n 10 0 0 := if_pos (Rs.d10)
  rw [e]
  rfl
theorem ae11 : A0 a N n 11 0 0 = a := by
  have e : A0 a N n 11 0 0 = ad a N n 11 0 0 := if_pos (Rs.d11)
  rw [e]
  rfl
theorem ae20 (hi : i < 5) : A0 a N n 20 i 0 = N + 1 + i := by
  have e : A0 a N n 20 i 0 = ad a N n 20 i 0 := if_pos (Rs.d20 hi)
  rw [e]
  rfl
theorem ae21 (hi : i < 4) : A0 a N n 21 i 0 = N + 7 + i := by
  have e : A0 a N n 21 i 0 = ad a N n 21 i 0 := if_pos (Rs.d21 hi)
  rw [e]
  rfl
theorem ae22 : A0 a N n 22 0 0 = N + 12 := by
  have e : A0 a N n 22 0 0 = ad a N n 22 0 0 := if_pos (Rs.d22)
  rw [e]
  rfl
theorem ae23 (hi : i < 5) : A0 a N n 23 i 0 = N + 620 + i := by
  have e : A0 a N n 23 i 0 = ad a N n 23 i 0 := if_pos (Rs.d23 hi)
  rw [e]
  rfl
theorem ae24 : A0 a N n 24 0 0 = N + 625 := by
  have e : A0 a N n 24 0 0 = ad a N n 24 0 0 := if_pos (Rs.d24)
  rw [e]
  rfl
theorem ae25 : A0 a N n 25 0 0 = N + 626 + (11 + 2 * n) * n := by
  have e : A0 a N n 25 0 0 = ad a N n 25 0 0 := if_pos (Rs.d25)
  rw [e]
  rfl
theorem ae30 (hi : i < 202) : A0 a N n 30 i 0 = N + mo i + 1 := by
  have e : A0 a N n 30 i 0 = ad a N n 30 i 0 := if_pos (Rs.d30 hi)
  rw [e]
  rfl
theorem ae31 (hi : i < 202) : A0 a N n 31 i 0 = N + mo i + 2 := by
  have e : A0 a N n 31 i 0 = ad a N n 31 i 0 := if_pos (Rs.d31 hi)
  rw [e]
  rfl
theorem ae32 (hi : i < n) : A0 a N n 32 i 0 = N + 626 + (11 + 2 * n) * i + 1 := by
  have e : A0 a N n 32 i 0 = ad a N n 32 i 0 := if_pos (Rs.d32 hi)
  rw [e]
  rfl
theorem ae33 (hi : i < n) : A0 a N n 33 i 0 = N + 626 + (11 + 2 * n) * i + 2 := by
  have e : A0 a N n 33 i 0 = ad a N n 33 i 0 := if_pos (Rs.d33 hi)
  rw [e]
  rfl
theorem ae34 (hi : i < n) : A0 a N n 34 i 0 = N + 626 + (11 + 2 * n) * i + 4 := by
  have e : A0 a N n 34 i 0 = ad a N n 34 i 0 := if_pos (Rs.d34 hi)
  rw [e]
  rfl
theorem ae35 (hi : i < n) : A0 a N n 35 i 0 = N + 626 + (11 + 2 * n) * i + 5 := by
  have e : A0 a N n 35 i 0 = ad a N n 35 i 0 := if_pos (Rs.d35 hi)
  rw [e]
  rfl
theorem ae36 (hi : i < n) : A0 a N n 36 i 0 = N + 626 + (11 + 2 * n) * i + 8 := by
  have e : A0 a N n 36 i 0 = ad a N n 36 i 0 := if_pos (Rs.d36 hi)
  rw [e]
  rfl
theorem ae37 (hi : i < n) : A0 a N n 37 i 0 = N + 626 + (11 + 2 * n) * i + 9 := by
  have e : A0 a N n 37 i 0 = ad a N n 37 i 0 := if_pos (Rs.d37 hi)
  rw [e]
  rfl
theorem ae38 (hi : i < n) : A0 a N n 38 i 0 = N + 626 + (11 + 2 * n) * i + 10 := by
  have e : A0 a N n 38 i 0 = ad a N n 38 i 0 := if_pos (Rs.d38 hi)
  rw [e]
  rfl
theorem ae39 (hi : i < n) (hj : j < n) : A0 a N n 39 i j = N + 626 + (11 + 2 * n) * i + 11 + 2 * j := by
  have e : A0 a N n 39 i j = ad a N n 39 i j := if_pos (Rs.d39 hi hj)
  rw [e]
  rfl
theorem ae40 (hi : i < n) (hj : j < n) : A0 a N n 40 i j = N + 626 + (11 + 2 * n) * i + 11 + 2 * j + 1 := by
  have e : A0 a N n 40 i j = ad a N n 40 i j := if_pos (Rs.d40 hi hj)
  rw [e]
  rfl
theorem ae41 (hi : i < 4) (hj : j < 4) : A0 a N n 41 i j = N + 626 + (11 + 2 * n) * n + 1 + 5 * i + 1 + j := by
  have e : A0 a N n 41 i j = ad a N n 41 i j := if_pos (Rs.d41 hi hj)
  rw [e]
  rfl
def B0 (σ0 σ : Hp) (a N n : Nat) : Prop := Bx σ0 σ a N (626 + (11 + 2 * n) * n + 1 + 20) (o11 n N) (g11 n N)
theorem f11 (hb : B0 σ0 σ a N n) : ob σ a = o11 n N := hb.2.2.2.2.1
theorem f7 (hb : B0 σ0 σ a N n) : ob σ (N) = o7 (N + 1) := by
  have h := hb.2.2.2.2.2 0 (by omega)
  exact h
theorem f10 (hb : B0 σ0 σ a N n) : ob σ (N + 6) = o10 (N + 7) N := by
  have h := hb.2.2.2.2.2 6 (by omega)
  exact h
theorem f1 (hb : B0 σ0 σ a N n) : ob σ (N + 11) = o1A (N + 12) := by
  have h := hb.2.2.2.2.2 11 (by omega)
  exact h
theorem f22 (hb : B0 σ0 σ a N n) : ob σ (N + 12) = (17, 200, z0, fun k => if k < 200 then some (N + 12 + 7 + 3 * k) else none) := by
  have h := hb.2.2.2.2.2 12 (by omega)
  exact h
theorem f0 (hb : B0 σ0 σ a N n) : ob σ (N + 619) = o0 (N + 620) := by
  have h := hb.2.2.2.2.2 619 (by omega)
  exact h
theorem f24 (hb : B0 σ0 σ a N n) : ob σ (N + 625) = (18, n, z0, fun k => if k < n then some (N + 626 + (11 + 2 * n) * k) else none) := by
  have h := hb.2.2.2.2.2 625 (by omega)
  exact h
theorem f20 (hb : B0 σ0 σ a N n) (hi : i < 5) : ob σ (N + 1 + i) = (13, 513, z0, zn) := by
  have h := hb.2.2.2.2.2 (1 + i) (by omega)
  rw [show N + (1 + i) = N + 1 + i by omega] at h
  rw [h]
  rcases (show i = 0 ∨ i = 1 ∨ i = 2 ∨ i = 3 ∨ i = 4 by omega) with rfl | rfl | rfl | rfl | rfl <;> rfl
theorem f21 (hb : B0 σ0 σ a N n) (hi : i < 4) : ob σ (N + 7 + i) = (13, if i = 0 then 8 else if i = 1 then 4 else 513, z0, zn) := by
  have h := hb.2.2.2.2.2 (7 + i) (by omega)
  rw [show N + (7 + i) = N + 7 + i by omega] at h
  rw [h]
  rcases (show i = 0 ∨ i = 1 ∨ i = 2 ∨ i = 3 by omega) with rfl | rfl | rfl | rfl <;> rfl
theorem f23 (hb : B0 σ0 σ a N n) (hi : i < 5) : ob σ (N + 620 + i) = (if i = 1 then 19 else 13, 200, z0, zn) := by
  have h := hb.2.2.2.2.2 (620 + i) (by omega)
  rw [show N + (620 + i) = N + 620 + i by omega] at h
  rw [h]
  rcases (show i = 0 ∨ i = 1 ∨ i = 2 ∨ i = 3 ∨ i = 4 by omega) with rfl | rfl | rfl | rfl | rfl <;> rfl
theorem f5 (hb : B0 σ0 σ a N n) (hi : i < 202) : ob σ (N + mo i) = o5 (N + mo i + 1) := by
  have h3 : mo i < 617 := by unfold mo; split <;> (try split) <;> omega
  have h := hb.2.2.2.2.2 (mo i + 0) (by omega)
  rw [g11_msg hi (by omega), show N + (mo i + 0) = N + mo i + 0 by omega] at h
  exact h
theorem f30 (hb : B0 σ0 σ a N n) (hi : i < 202) : ob σ (N + mo i + 1) = o4 (N + mo i + 2) := by
  have h3 : mo i < 617 := by unfold mo; split <;> (try split) <;> omega
  have h := hb.2.2.2.2.2 (mo i + 1) (by omega)
  rw [g11_msg hi (by omega), show N + (mo i + 1) = N + mo i + 1 by omega] at h
  exact h
theorem f31 (hb : B0 σ0 σ a N n) (hi : i < 202) : ob σ (N + mo i + 2) = (13, 100, z0, zn) := by
  have h3 : mo i < 617 := by unfold mo; split <;> (try split) <;> omega
  have h := hb.2.2.2.2.2 (mo i + 2) (by omega)
  rw [g11_msg hi (by omega), show N + (mo i + 2) = N + mo i + 2 by omega] at h
  exact h
theorem f6 (hb : B0 σ0 σ a N n) (hi : i < n) : ob σ (N + 626 + (11 + 2 * n) * i) = o6 n (N + 626 + (11 + 2 * n) * i + 1) i N (N + 6) (N + 11) := by
  have h1 := blk2 (W := (11 + 2 * n)) hi
  have h := hb.2.2.2.2.2 (626 + (11 + 2 * n) * i + 0) (by omega)
  rw [g11_rep hi (by omega), show N + (626 + (11 + 2 * n) * i + 0) = N + 626 + (11 + 2 * n) * i by omega] at h
  exact h
theorem f32 (hb : B0 σ0 σ a N n) (hi : i < n) : ob σ (N + 626 + (11 + 2 * n) * i + 1) = o4 (N + 626 + (11 + 2 * n) * i + 2) := by
  have h1 := blk2 (W := (11 + 2 * n)) hi
  have h := hb.2.2.2.2.2 (626 + (11 + 2 * n) * i + 1) (by omega)
  rw [g11_rep hi (by omega), show N + (626 + (11 + 2 * n) * i + 1) = N + 626 + (11 + 2 * n) * i + 1 by omega] at h
  exact h
theorem f33 (hb : B0 σ0 σ a N n) (hi : i < n) : ob σ (N + 626 + (11 + 2 * n) * i + 2) = (13, 100, z0, zn) := by
  have h1 := blk2 (W := (11 + 2 * n)) hi
  have h := hb.2.2.2.2.2 (626 + (11 + 2 * n) * i + 2) (by omega)
  rw [g11_rep hi (by omega), show N + (626 + (11 + 2 * n) * i + 2) = N + 626 + (11 + 2 * n) * i + 2 by omega] at h
  exact h
theorem f3 (hb : B0 σ0 σ a N n) (hi : i < n) : ob σ (N + 626 + (11 + 2 * n) * i + 3) = (3, 0, z0, va_up (va_up zn 0 (some (N + 626 + (11 + 2 * n) * i + 4))) 1 (some (N + 626 + (11 + 2 * n) * i + 5))) := by
  have h1 := blk2 (W := (11 + 2 * n)) hi
  have h := hb.2.2.2.2.2 (626 + (11 + 2 * n) * i + 3) (by omega)
  rw [g11_rep hi (by omega), show N + (626 + (11 + 2 * n) * i + 3) = N + 626 + (11 + 2 * n) * i + 3 by omega] at h
  exact h
theorem f34 (hb : B0 σ0 σ a N n) (hi : i < n) : ob σ (N + 626 + (11 + 2 * n) * i + 4) = (13, 9, z0, zn) := by
  have h1 := blk2 (W := (11 + 2 * n)) hi
  have h := hb.2.2.2.2.2 (626 + (11 + 2 * n) * i + 4) (by omega)
  rw [g11_rep hi (by omega), show N + (626 + (11 + 2 * n) * i + 4) = N + 626 + (11 + 2 * n) * i + 4 by omega] at h
  exact h
theorem f35 (hb : B0 σ0 σ a N n) (hi : i < n) : ob σ (N + 626 + (11 + 2 * n) * i + 5) = (13, 9, z0, zn) := by
  have h1 := blk2 (W := (11 + 2 * n)) hi
  have h := hb.2.2.2.2.2 (626 + (11 + 2 * n) * i + 5) (by omega)
  rw [g11_rep hi (by omega), show N + (626 + (11 + 2 * n) * i + 5) = N + 626 + (11 + 2 * n) * i + 5 by omega] at h
  exact h
theorem f99 (hb : B0 σ0 σ a N n) (hi : i < n) : ob σ (N + 626 + (11 + 2 * n) * i + 6) = (9, 0, va_up (va_up z0 0 0) 1 1, zn) := by
  have h1 := blk2 (W := (11 + 2 * n)) hi
  have h := hb.2.2.2.2.2 (626 + (11 + 2 * n) * i + 6) (by omega)
  rw [g11_rep hi (by omega), show N + (626 + (11 + 2 * n) * i + 6) = N + 626 + (11 + 2 * n) * i + 6 by omega] at h
  exact h
theorem f8 (hb : B0 σ0 σ a N n) (hi : i < n) : ob σ (N + 626 + (11 + 2 * n) * i + 7) = o8 (N + 626 + (11 + 2 * n) * i + 8) := by
  have h1 := blk2 (W := (11 + 2 * n)) hi
  have h := hb.2.2.2.2.2 (626 + (11 + 2 * n) * i + 7) (by omega)
  rw [g11_rep hi (by omega), show N + (626 + (11 + 2 * n) * i + 7) = N + 626 + (11 + 2 * n) * i + 7 by omega] at h
  exact h
theorem f36 (hb : B0 σ0 σ a N n) (hi : i < n) : ob σ (N + 626 + (11 + 2 * n) * i + 8) = (19, n, z0, zn) := by
  have h1 := blk2 (W := (11 + 2 * n)) hi
  have h := hb.2.2.2.2.2 (626 + (11 + 2 * n) * i + 8) (by omega)
  rw [g11_rep hi (by omega), show N + (626 + (11 + 2 * n) * i + 8) = N + 626 + (11 + 2 * n) * i + 8 by omega] at h
  exact h
theorem f37 (hb : B0 σ0 σ a N n) (hi : i < n) : ob σ (N + 626 + (11 + 2 * n) * i + 9) = (13, n, z0, zn) := by
  have h1 := blk2 (W := (11 + 2 * n)) hi
  have h := hb.2.2.2.2.2 (626 + (11 + 2 * n) * i + 9) (by omega)
  rw [g11_rep hi (by omega), show N + (626 + (11 + 2 * n) * i + 9) = N + 626 + (11 + 2 * n) * i + 9 by omega] at h
  exact h
theorem f38 (hb : B0 σ0 σ a N n) (hi : i < n) : ob σ (N + 626 + (11 + 2 * n) * i + 10) = (16, n, z0, fun k => if k < n then some (N + 626 + (11 + 2 * n) * i + 8 + 3 + 2 * k) else none) := by
  have h1 := blk2 (W := (11 + 2 * n)) hi
  have h := hb.2.2.2.2.2 (626 + (11 + 2 * n) * i + 10) (by omega)
  rw [g11_rep hi (by omega), show N + (626 + (11 + 2 * n) * i + 10) = N + 626 + (11 + 2 * n) * i + 10 by omega] at h
  exact h
theorem f39 (hb : B0 σ0 σ a N n) (hi : i < n) (hj : j < n) : ob σ (N + 626 + (11 + 2 * n) * i + 11 + 2 * j) = o4 (N + 626 + (11 + 2 * n) * i + 8 + 3 + 2 * j + 1) := by
  have h1 := blk2 (W := (11 + 2 * n)) hi
  have h := hb.2.2.2.2.2 (626 + (11 + 2 * n) * i + (11 + 2 * j)) (by omega)
  rw [g11_rep hi (by omega), show N + (626 + (11 + 2 * n) * i + (11 + 2 * j)) = N + 626 + (11 + 2 * n) * i + 11 + 2 * j by omega] at h
  rw [h, gr, if_neg (by omega), g6, if_neg (by omega), if_neg (by omega), if_neg (by omega), if_neg (by omega), if_neg (by omega), if_neg (by omega), g8, if_neg (by omega), if_neg (by omega), if_neg (by omega), if_pos (by omega), show (11 + 2 * j - 1 - 7 - 3) / 2 = j by omega]
theorem f40 (hb : B0 σ0 σ a N n) (hi : i < n) (hj : j < n) : ob σ (N + 626 + (11 + 2 * n) * i + 11 + 2 * j + 1) = (13, 100, z0, zn) := by
  have h1 := blk2 (W := (11 + 2 * n)) hi
  have h := hb.2.2.2.2.2 (626 + (11 + 2 * n) * i + (11 + 2 * j + 1)) (by omega)
  rw [g11_rep hi (by omega), show N + (626 + (11 + 2 * n) * i + (11 + 2 * j + 1)) = N + 626 + (11 + 2 * n) * i + 11 + 2 * j + 1 by omega] at h
  rw [h, gr, if_neg (by omega), g6, if_neg (by omega), if_neg (by omega), if_neg (by omega), if_neg (by omega), if_neg (by omega), if_neg (by omega), g8, if_neg (by omega), if_neg (by omega), if_neg (by omega), if_neg (by omega)]
theorem f25 (hb : B0 σ0 σ a N n) : ob σ (N + 626 + (11 + 2 * n) * n) = (15, 4, z0, fun k => if k < 4 then some (N + 626 + (11 + 2 * n) * n + 1 + 5 * k) else none) := by
  have h := hb.2.2.2.2.2 (626 + (11 + 2 * n) * n) (by omega)
  rw [show N + (626 + (11 + 2 * n) * n) = N + 626 + (11 + 2 * n) * n by omega] at h
  rw [h, g11, if_neg (by omega), if_neg (by omega), if_neg (by omega), if_neg (by omega), if_neg (by omega), if_neg (by omega), if_neg (by omega), if_neg (by omega), if_neg (by omega), if_neg (by omega), if_pos rfl]
theorem f2 (hb : B0 σ0 σ a N n) (hi : i < 4) : ob σ (N + 626 + (11 + 2 * n) * n + 1 + 5 * i) = o2 (N + 626 + (11 + 2 * n) * n + 1 + 5 * i + 1) (nI n) := by
  have h := hb.2.2.2.2.2 (626 + (11 + 2 * n) * n + 1 + 5 * i + 0) (by omega)
  rw [g11_cli hi (by omega), show N + (626 + (11 + 2 * n) * n + 1 + 5 * i + 0) = N + 626 + (11 + 2 * n) * n + 1 + 5 * i by omega] at h
  exact h
theorem f41 (hb : B0 σ0 σ a N n) (hi : i < 4) (hj : j < 4) : ob σ (N + 626 + (11 + 2 * n) * n + 1 + 5 * i + 1 + j) = (if j = 0 then 19 else 13, 64, z0, zn) := by
  have h := hb.2.2.2.2.2 (626 + (11 + 2 * n) * n + 1 + 5 * i + (1 + j)) (by omega)
  rw [g11_cli hi (by omega), show N + (626 + (11 + 2 * n) * n + 1 + 5 * i + (1 + j)) = N + 626 + (11 + 2 * n) * n + 1 + 5 * i + 1 + j by omega] at h
  rw [h]
  rcases (show j = 0 ∨ j = 1 ∨ j = 2 ∨ j = 3 by omega) with rfl | rfl | rfl | rfl <;> rfl
theorem s_kz (hb : B0 σ0 σ a N n) : ∀ s i j, dm n s i j → oK σ (A0 a N n s i j) = kdF s i j ∧ oZ σ (A0 a N n s i j) = lenF n s i := by
  refine dm_ind ?_ ?_ ?_ ?_ ?_ ?_ ?_ ?_ ?_ ?_ ?_ ?_ ?_ ?_ ?_ ?_ ?_ ?_ ?_ ?_ ?_ ?_ ?_ ?_ ?_ ?_ ?_ ?_
  · rw [ae0]
    exact ⟨(ob_K (f0 hb)).1, (ob_K (f0 hb)).2.1⟩
  · rw [ae1]
    exact ⟨(ob_K (f1 hb)).1, (ob_K (f1 hb)).2.1⟩
  · intro i hi
    rw [ae2 hi]
    exact ⟨(ob_K (f2 hb hi)).1, (ob_K (f2 hb hi)).2.1⟩
  · intro i hi
    rw [ae3 hi]
    exact ⟨(ob_K (f3 hb hi)).1, (ob_K (f3 hb hi)).2.1⟩
  · intro i hi
    rw [ae5 hi]
    exact ⟨(ob_K (f5 hb hi)).1, (ob_K (f5 hb hi)).2.1⟩
  · intro i hi
    rw [ae6 hi]
    exact ⟨(ob_K (f6 hb hi)).1, (ob_K (f6 hb hi)).2.1⟩
  · rw [ae7]
    exact ⟨(ob_K (f7 hb)).1, (ob_K (f7 hb)).2.1⟩
  · intro i hi
    rw [ae8 hi]
    exact ⟨(ob_K (f8 hb hi)).1, (ob_K (f8 hb hi)).2.1⟩
  · rw [ae10]
    exact ⟨(ob_K (f10 hb)).1, (ob_K (f10 hb)).2.1⟩
  · rw [ae11]
    exact ⟨(ob_K (f11 hb)).1, (ob_K (f11 hb)).2.1⟩
  · intro i hi
    rw [ae20 hi]
    exact ⟨(ob_K (f20 hb hi)).1, (ob_K (f20 hb hi)).2.1⟩
  · intro i hi
    rw [ae21 hi]
    exact ⟨(ob_K (f21 hb hi)).1, (ob_K (f21 hb hi)).2.1⟩
  · rw [ae22]
    exact ⟨(ob_K (f22 hb)).1, (ob_K (f22 hb)).2.1⟩
  · intro i hi
    rw [ae23 hi]
    exact ⟨(ob_K (f23 hb hi)).1, (ob_K (f23 hb hi)).2.1⟩
  · rw [ae24]
    exact ⟨(ob_K (f24 hb)).1, (ob_K (f24 hb)).2.1⟩
  · rw [ae25]
    exact ⟨(ob_K (f25 hb)).1, (ob_K (f25 hb)).2.1⟩
  · intro i hi
    rw [ae30 hi]
    exact ⟨(ob_K (f30 hb hi)).1, (ob_K (f30 hb hi)).2.1⟩
  · intro i hi
    rw [ae31 hi]
    exact ⟨(ob_K (f31 hb hi)).1, (ob_K (f31 hb hi)).2.1⟩
  · intro i hi
    rw [ae32 hi]
    exact ⟨(ob_K (f32 hb hi)).1, (ob_K (f32 hb hi)).2.1⟩
  · intro i hi
    rw [ae33 hi]
    exact ⟨(ob_K (f33 hb hi)).1, (ob_K (f33 hb hi)).2.1⟩
  · intro i hi
    rw [ae34 hi]
    exact ⟨(ob_K (f34 hb hi)).1, (ob_K (f34 hb hi)).2.1⟩
  · intro i hi
    rw [ae35 hi]
    exact ⟨(ob_K (f35 hb hi)).1, (ob_K (f35 hb hi)).2.1⟩
  · intro i hi
    rw [ae36 hi]
    exact ⟨(ob_K (f36 hb hi)).1, (ob_K (f36 hb hi)).2.1⟩
  · intro i hi
    rw [ae37 hi]
    exact ⟨(ob_K (f37 hb hi)).1, (ob_K (f37 hb hi)).2.1⟩
  · intro i hi
    rw [ae38 hi]
    exact ⟨(ob_K (f38 hb hi)).1, (ob_K (f38 hb hi)).2.1⟩
  · intro i hi j hj
    rw [ae39 hi hj]
    exact ⟨(ob_K (f39 hb hi hj)).1, (ob_K (f39 hb hi hj)).2.1⟩
  · intro i hi j hj
    rw [ae40 hi hj]
    exact ⟨(ob_K (f40 hb hi hj)).1, (ob_K (f40 hb hi hj)).2.1⟩
  · intro i hi j hj
    rw [ae41 hi hj]
    exact ⟨(ob_K (f41 hb hi hj)).1, (ob_K (f41 hb hi hj)).2.1⟩
set_option maxHeartbeats 1000000 in
theorem s_sr (hb : B0 σ0 σ a N n) : ∀ s i j, dm n s i j → ∀ k s' i' j', srF n s i j k = some (s', i', j') → oR σ (A0 a N n s i j) k = some (A0 a N n s' i' j') := by
  refine dm_ind ?_ ?_ ?_ ?_ ?_ ?_ ?_ ?_ ?_ ?_ ?_ ?_ ?_ ?_ ?_ ?_ ?_ ?_ ?_ ?_ ?_ ?_ ?_ ?_ ?_ ?_ ?_ ?_
  · intro  k s' i' j' h
    simp only [srF, Nat.reduceEqDiff, if_true, if_false] at h
    by_cases c : k = 1
    · subst c
      simp only [Nat.reduceEqDiff, if_true, if_false] at h
      cases h
      rw [ae0, ae23 (by decide), (ob_K (f0 hb)).2.2.2]
      rfl
    rw [if_neg c] at h
    clear c
    by_cases c : k = 2
    · subst c
      simp only [Nat.reduceEqDiff, if_true, if_false] at h
      cases h
      rw [ae0, ae23 (by decide), (ob_K (f0 hb)).2.2.2]
      rfl
    rw [if_neg c] at h
    clear c
    by_cases c : k = 3
    · subst c
      simp only [Nat.reduceEqDiff, if_true, if_false] at h
      cases h
      rw [ae0, ae23 (by decide), (ob_K (f0 hb)).2.2.2]
      rfl
    rw [if_neg c] at h
    clear c
    by_cases c : k = 4
    · subst c
      simp only [Nat.reduceEqDiff, if_true, if_false] at h
      cases h
      rw [ae0, ae23 (by decide), (ob_K (f0 hb)).2.2.2]
      rfl
    rw [if_neg c] at h
    clear c
    by_cases c : k = 5
    · subst c
      simp only [Nat.reduceEqDiff, if_true, if_false] at h
      cases h
      rw [ae0, ae23 (by decide), (ob_K (f0 hb)).2.2.2]
      rfl
    rw [if_neg c] at h
    clear c
    exact absurd h (by simp)
  · intro  k s' i' j' h
    simp only [srF, Nat.reduceEqDiff, if_true, if_false] at h
    by_cases c : k = 0
    · subst c
      simp only [Nat.reduceEqDiff, if_true, if_false] at h
      cases h
      rw [ae1, ae22, (ob_K (f1 hb)).2.2.2]
      rfl
    rw [if_neg c] at h
    clear c
    by_cases c : k = 5
    · subst c
      simp only [Nat.reduceEqDiff, if_true, if_false] at h
      cases h
      rw [ae1, ae5 (by decide), (ob_K (f1 hb)).2.2.2]
      rfl
    rw [if_neg c] at h
    clear c
    exact absurd h (by simp)
  · intro i hi k s' i' j' h
    simp only [srF, Nat.reduceEqDiff, if_true, if_false] at h
    by_cases c : k = 7
    · subst c
      simp only [Nat.reduceEqDiff, if_true, if_false] at h
      cases h
      rw [ae2 hi, ae41 hi (by decide), (ob_K (f2 hb hi)).2.2.2]
      rfl
    rw [if_neg c] at h
    clear c
    by_cases c : k = 8
    · subst c
      simp only [Nat.reduceEqDiff, if_true, if_false] at h
      cases h
      rw [ae2 hi, ae41 hi (by decide), (ob_K (f2 hb hi)).2.2.2]
      rfl
    rw [if_neg c] at h
    clear c
    by_cases c : k = 9
    · subst c
      simp only [Nat.reduceEqDiff, if_true, if_false] at h
      cases h
      rw [ae2 hi, ae41 hi (by decide), (ob_K (f2 hb hi)).2.2.2]
      rfl
    rw [if_neg c] at h
    clear c
    by_cases c : k = 10
    · subst c
      simp only [Nat.reduceEqDiff, if_true, if_false] at h
      cases h
      rw [ae2 hi, ae41 hi (by decide), (ob_K (f2 hb hi)).2.2.2]
      rfl
    rw [if_neg c] at h
    clear c
    exact absurd h (by simp)
  · intro i hi k s' i' j' h
    simp only [srF, Nat.reduceEqDiff, if_true, if_false] at h
    by_cases c : k = 0
    · subst c
      simp only [Nat.reduceEqDiff, if_true, if_false] at h
      cases h
      rw [ae3 hi, ae34 hi, (ob_K (f3 hb hi)).2.2.2]
      rfl
    rw [if_neg c] at h
    clear c
    by_cases c : k = 1
    · subst c
      simp only [Nat.reduceEqDiff, if_true, if_false] at h
      cases h
      rw [ae3 hi, ae35 hi, (ob_K (f3 hb hi)).2.2.2]
      rfl
    rw [if_neg c] at h
    clear c
    exact absurd h (by simp)
  · intro i hi k s' i' j' h
    simp only [srF, Nat.reduceEqDiff, if_true, if_false] at h
    by_cases c : k = 11
    · subst c
      simp only [Nat.reduceEqDiff, if_true, if_false] at h
      cases h
      rw [ae5 hi, ae30 hi, (ob_K (f5 hb hi)).2.2.2]
      rfl
    rw [if_neg c] at h
    clear c
    exact absurd h (by simp)
  · intro i hi k s' i' j' h
    simp only [srF, Nat.reduceEqDiff, if_true, if_false] at h
    by_cases c : k = 0
    · subst c
      simp only [Nat.reduceEqDiff, if_true, if_false] at h
      cases h
      rw [ae6 hi, ae32 hi, (ob_K (f6 hb hi)).2.2.2]
      rfl
    rw [if_neg c] at h
    clear c
    by_cases c : k = 1
    · subst c
      simp only [Nat.reduceEqDiff, if_true, if_false] at h
      cases h
      rw [ae6 hi, ae3 hi, (ob_K (f6 hb hi)).2.2.2]
      rfl
    rw [if_neg c] at h
    clear c
    by_cases c : k = 11
    · subst c
      simp only [Nat.reduceEqDiff, if_true, if_false] at h
      cases h
      rw [ae6 hi, ae7, (ob_K (f6 hb hi)).2.2.2]
      rfl
    rw [if_neg c] at h
    clear c
    by_cases c : k = 12
    · subst c
      simp only [Nat.reduceEqDiff, if_true, if_false] at h
      cases h
      rw [ae6 hi, ae10, (ob_K (f6 hb hi)).2.2.2]
      rfl
    rw [if_neg c] at h
    clear c
    by_cases c : k = 13
    · subst c
      simp only [Nat.reduceEqDiff, if_true, if_false] at h
      cases h
      rw [ae6 hi, ae1, (ob_K (f6 hb hi)).2.2.2]
      rfl
    rw [if_neg c] at h
    clear c
    by_cases c : k = 14
    · subst c
      simp only [Nat.reduceEqDiff, if_true, if_false] at h
      cases h
      rw [ae6 hi, ae8 hi, (ob_K (f6 hb hi)).2.2.2]
      rfl
    rw [if_neg c] at h
    clear c
    exact absurd h (by simp)
  · intro  k s' i' j' h
    simp only [srF, Nat.reduceEqDiff, if_true, if_false] at h
    by_cases c : k = 0
    · subst c
      simp only [Nat.reduceEqDiff, if_true, if_false] at h
      cases h
      rw [ae7, ae20 (by decide), (ob_K (f7 hb)).2.2.2]
      rfl
    rw [if_neg c] at h
    clear c
    by_cases c : k = 1
    · subst c
      simp only [Nat.reduceEqDiff, if_true, if_false] at h
      cases h
      rw [ae7, ae20 (by decide), (ob_K (f7 hb)).2.2.2]
      rfl
    rw [if_neg c] at h
    clear c
    by_cases c : k = 2
    · subst c
      simp only [Nat.reduceEqDiff, if_true, if_false] at h
      cases h
      rw [ae7, ae20 (by decide), (ob_K (f7 hb)).2.2.2]
      rfl
    rw [if_neg c] at h
    clear c
    by_cases c : k = 3
    · subst c
      simp only [Nat.reduceEqDiff, if_true, if_false] at h
      cases h
      rw [ae7, ae20 (by decide), (ob_K (f7 hb)).2.2.2]
      rfl
    rw [if_neg c] at h
    clear c
    by_cases c : k = 4
    · subst c
      simp only [Nat.reduceEqDiff, if_true, if_false] at h
      cases h
      rw [ae7, ae20 (by decide), (ob_K (f7 hb)).2.2.2]
      rfl
    rw [if_neg c] at h
    clear c
    exact absurd h (by simp)
  · intro i hi k s' i' j' h
    simp only [srF, Nat.reduceEqDiff, if_true, if_false] at h
    by_cases c : k = 4
    · subst c
      simp only [Nat.reduceEqDiff, if_true, if_false] at h
      cases h
      rw [ae8 hi, ae36 hi, (ob_K (f8 hb hi)).2.2.2]
      rfl
    rw [if_neg c] at h
    clear c
    by_cases c : k = 5
    · subst c
      simp only [Nat.reduceEqDiff, if_true, if_false] at h
      cases h
      rw [ae8 hi, ae37 hi, (ob_K (f8 hb hi)).2.2.2]
      rfl
    rw [if_neg c] at h
    clear c
    by_cases c : k = 6
    · subst c
      simp only [Nat.reduceEqDiff, if_true, if_false] at h
      cases h
      rw [ae8 hi, ae38 hi, (ob_K (f8 hb hi)).2.2.2]
      rfl
    rw [if_neg c] at h
    clear c
    exact absurd h (by simp)
  · intro  k s' i' j' h
    simp only [srF, Nat.reduceEqDiff, if_true, if_false] at h
    by_cases c : k = 0
    · subst c
      simp only [Nat.reduceEqDiff, if_true, if_false] at h
      cases h
      rw [ae10, ae21 (by decide), (ob_K (f10 hb)).2.2.2]
      rfl
    rw [if_neg c] at h
    clear c
    by_cases c : k = 1
    · subst c
      simp only [Nat.reduceEqDiff, if_true, if_false] at h
      cases h
      rw [ae10, ae7, (ob_K (f10 hb)).2.2.2]
      rfl
    rw [if_neg c] at h
    clear c
    by_cases c : k = 2
    · subst c
      simp only [Nat.reduceEqDiff, if_true, if_false] at h
      cases h
      rw [ae10, ae21 (by decide), (ob_K (f10 hb)).2.2.2]
      rfl
    rw [if_neg c] at h
    clear c
    by_cases c : k = 3
    · subst c
      simp only [Nat.reduceEqDiff, if_true, if_false] at h
      cases h
      rw [ae10, ae21 (by decide), (ob_K (f10 hb)).2.2.2]
      rfl
    rw [if_neg c] at h
    clear c
    by_cases c : k = 4
    · subst c
      simp only [Nat.reduceEqDiff, if_true, if_false] at h
      cases h
      rw [ae10, ae21 (by decide), (ob_K (f10 hb)).2.2.2]
      rfl
    rw [if_neg c] at h
    clear c
    exact absurd h (by simp)
  · intro  k s' i' j' h
    simp only [srF, Nat.reduceEqDiff, if_true, if_false] at h
    by_cases c : k = 1
    · subst c
      simp only [Nat.reduceEqDiff, if_true, if_false] at h
      cases h
      rw [ae11, ae7, (ob_K (f11 hb)).2.2.2]
      rfl
    rw [if_neg c] at h
    clear c
    by_cases c : k = 2
    · subst c
      simp only [Nat.reduceEqDiff, if_true, if_false] at h
      cases h
      rw [ae11, ae10, (ob_K (f11 hb)).2.2.2]
      rfl
    rw [if_neg c] at h
    clear c
    by_cases c : k = 3
    · subst c
      simp only [Nat.reduceEqDiff, if_true, if_false] at h
      cases h
      rw [ae11, ae1, (ob_K (f11 hb)).2.2.2]
      rfl
    rw [if_neg c] at h
    clear c
    by_cases c : k = 4
    · subst c
      simp only [Nat.reduceEqDiff, if_true, if_false] at h
      cases h
      rw [ae11, ae24, (ob_K (f11 hb)).2.2.2]
      rfl
    rw [if_neg c] at h
    clear c
    by_cases c : k = 5
    · subst c
      simp only [Nat.reduceEqDiff, if_true, if_false] at h
      cases h
      rw [ae11, ae25, (ob_K (f11 hb)).2.2.2]
      rfl
    rw [if_neg c] at h
    clear c
    by_cases c : k = 6
    · subst c
      simp only [Nat.reduceEqDiff, if_true, if_false] at h
      cases h
      rw [ae11, ae0, (ob_K (f11 hb)).2.2.2]
      rfl
    rw [if_neg c] at h
    clear c
    exact absurd h (by simp)
  · intro i hi k s' i' j' h
    simp [srF] at h
  · intro i hi k s' i' j' h
    simp [srF] at h
  · intro  k s' i' j' h
    simp [srF] at h
  · intro i hi k s' i' j' h
    simp [srF] at h
  · intro  k s' i' j' h
    simp only [srF, Nat.reduceEqDiff, if_true, if_false] at h
    by_cases c : k < n
    · rw [if_pos c] at h
      cases h
      rw [ae24, ae6 c, (ob_K (f24 hb)).2.2.2]
      exact if_pos c
    · rw [if_neg c] at h
      exact absurd h (by simp)
  · intro  k s' i' j' h
    simp only [srF, Nat.reduceEqDiff, if_true, if_false] at h
    by_cases c : k < 4
    · rw [if_pos c] at h
      cases h
      rw [ae25, ae2 c, (ob_K (f25 hb)).2.2.2]
      exact if_pos c
    · rw [if_neg c] at h
      exact absurd h (by simp)
  · intro i hi k s' i' j' h
    simp only [srF, Nat.reduceEqDiff, if_true, if_false] at h
    by_cases c : k = 0
    · subst c
      simp only [Nat.reduceEqDiff, if_true, if_false] at h
      cases h
      rw [ae30 hi, ae31 hi, (ob_K (f30 hb hi)).2.2.2]
      rfl
    rw [if_neg c] at h
    clear c
    exact absurd h (by simp)
  · intro i hi k s' i' j' h
    simp [srF] at h
  · intro i hi k s' i' j' h
    simp only [srF, Nat.reduceEqDiff, if_true, if_false] at h
    by_cases c : k = 0
    · subst c
      simp only [Nat.reduceEqDiff, if_true, if_false] at h
      cases h
      rw [ae32 hi, ae33 hi, (ob_K (f32 hb hi)).2.2.2]
      rfl
    rw [if_neg c] at h
    clear c
    exact absurd h (by simp)
  · intro i hi k s' i' j' h
    simp [srF] at h
  · intro i hi k s' i' j' h
    simp [srF] at h
  · intro i hi k s' i' j' h
    simp [srF] at h
  · intro i hi k s' i' j' h
    simp [srF] at h
  · intro i hi k s' i' j' h
    simp [srF] at h
  · intro i hi k s' i' j' h
    simp only [srF, Nat.reduceEqDiff, if_true, if_false] at h
    by_cases c : k < n
    · rw [if_pos c] at h
      cases h
      rw [ae38 hi, ae39 hi c, (ob_K (f38 hb hi)).2.2.2]
      exact if_pos c
    · rw [if_neg c] at h
      exact absurd h (by simp)
  · intro i hi j hj k s' i' j' h
    simp only [srF, Nat.reduceEqDiff, if_true, if_false] at h
    by_cases c : k = 0
    · subst c
      simp only [Nat.reduceEqDiff, if_true, if_false] at h
      cases h
      rw [ae39 hi hj, ae40 hi hj, (ob_K (f39 hb hi hj)).2.2.2]
      rfl
    rw [if_neg c] at h
    clear c
    exact absurd h (by simp)
  · intro i hi j hj k s' i' j' h
    simp [srF] at h
  · intro i hi j hj k s' i' j' h
    simp [srF] at h
theorem s_si (hb : B0 σ0 σ a N n) : ∀ s i j, dm n s i j → ∀ k x, siF n s i k = some x → oI σ (A0 a N n s i j) k = x := by
  refine dm_ind ?_ ?_ ?_ ?_ ?_ ?_ ?_ ?_ ?_ ?_ ?_ ?_ ?_ ?_ ?_ ?_ ?_ ?_ ?_ ?_ ?_ ?_ ?_ ?_ ?_ ?_ ?_ ?_
  · intro  k x h
    simp [siF] at h
  · intro  k x h
    simp [siF] at h
  · intro i hi k x h
    simp only [siF, Nat.reduceEqDiff, true_and, false_and, if_false] at h
    by_cases c : k = 6
    · subst c
      simp only [Nat.reduceEqDiff, if_true, if_false] at h
      cases h
      rw [ae2 hi, (ob_K (f2 hb hi)).2.2.1]
      rfl
    rw [if_neg c] at h
    clear c
    exact absurd h (by simp)
  · intro i hi k x h
    simp [siF] at h
  · intro i hi k x h
    simp [siF] at h
  · intro i hi k x h
    simp only [siF, Nat.reduceEqDiff, true_and, false_and, if_false] at h
    by_cases c : k = 9
    · subst c
      simp only [Nat.reduceEqDiff, if_true, if_false] at h
      cases h
      rw [ae6 hi, (ob_K (f6 hb hi)).2.2.1]
      rfl
    rw [if_neg c] at h
    clear c
    by_cases c : k = 10
    · subst c
      simp only [Nat.reduceEqDiff, if_true, if_false] at h
      cases h
      rw [ae6 hi, (ob_K (f6 hb hi)).2.2.1]
      rfl
    rw [if_neg c] at h
    clear c
    exact absurd h (by simp)
  · intro  k x h
    simp [siF] at h
  · intro i hi k x h
    simp [siF] at h
  · intro  k x h
    simp [siF] at h
  · intro  k x h
    simp only [siF, Nat.reduceEqDiff, true_and, false_and, if_false] at h
    by_cases c : k = 0
    · subst c
      simp only [Nat.reduceEqDiff, if_true, if_false] at h
      cases h
      rw [ae11, (ob_K (f11 hb)).2.2.1]
      rfl
    rw [if_neg c] at h
    clear c
    exact absurd h (by simp)
  · intro i hi k x h
    simp [siF] at h
  · intro i hi k x h
    simp [siF] at h
  · intro  k x h
    simp [siF] at h
  · intro i hi k x h
    simp [siF] at h
  · intro  k x h
    simp [siF] at h
  · intro  k x h
    simp [siF] at h
  · intro i hi k x h
    simp [siF] at h
  · intro i hi k x h
    simp [siF] at h
  · intro i hi k x h
    simp [siF] at h
  · intro i hi k x h
    simp [siF] at h
  · intro i hi k x h
    simp [siF] at h
  · intro i hi k x h
    simp [siF] at h
  · intro i hi k x h
    simp [siF] at h
  · intro i hi k x h
    simp [siF] at h
  · intro i hi k x h
    simp [siF] at h
  · intro i hi j hj k x h
    simp [siF] at h
  · intro i hi j hj k x h
    simp [siF] at h
  · intro i hi j hj k x h
    simp [siF] at h
theorem s_rs (hb : B0 σ0 σ a N n) (hn : n = 3 ∨ n = 5 ∨ n = 7) (h9 : ∀ x, N ≤ x → oK σ0 x = 99) : Rs (A0 a N n) n σ := by
  refine ⟨A0_inj (by omega) hb.2.2.1, s_kz hb, fun s i j k s' i' j' hd => s_sr hb s i j hd k s' i' j', fun s i j k x hd => s_si hb s i j hd k x, fun x hx => ?_, hn⟩
  have e := hb.2.1
  have h1 := hb.2.2.1
  have h2 := hb.2.2.2.1 x (by omega) (by omega)
  exact (congrArg Prod.fst h2).trans (h9 x (by omega))
end ST0
