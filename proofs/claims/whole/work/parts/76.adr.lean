/-! the addresses at the start -/
set_option maxHeartbeats 2000000 in
theorem dm_ind {n : Nat} {P : Nat → Nat → Nat → Prop} (h0 : P 0 0 0) (h1 : P 1 0 0) (h2 : ∀ i, i < 4 → P 2 i 0) (h3 : ∀ i, i < n → P 3 i 0) (h5 : ∀ i, i < 202 → P 5 i 0) (h6 : ∀ i, i < n → P 6 i 0) (h7 : P 7 0 0) (h8 : ∀ i, i < n → P 8 i 0) (h10 : P 10 0 0) (h11 : P 11 0 0) (h20 : ∀ i, i < 5 → P 20 i 0) (h21 : ∀ i, i < 4 → P 21 i 0) (h22 : P 22 0 0) (h23 : ∀ i, i < 5 → P 23 i 0) (h24 : P 24 0 0) (h25 : P 25 0 0) (h30 : ∀ i, i < 202 → P 30 i 0) (h31 : ∀ i, i < 202 → P 31 i 0) (h32 : ∀ i, i < n → P 32 i 0) (h33 : ∀ i, i < n → P 33 i 0) (h34 : ∀ i, i < n → P 34 i 0) (h35 : ∀ i, i < n → P 35 i 0) (h36 : ∀ i, i < n → P 36 i 0) (h37 : ∀ i, i < n → P 37 i 0) (h38 : ∀ i, i < n → P 38 i 0) (h39 : ∀ i, i < n → ∀ j, j < n → P 39 i j) (h40 : ∀ i, i < n → ∀ j, j < n → P 40 i j) (h41 : ∀ i, i < 4 → ∀ j, j < 4 → P 41 i j) : ∀ s i j, dm n s i j → P s i j := by
  intro s i j h
  unfold dm at h
  by_cases e : s = 0
  · rw [if_pos e] at h
    subst e
    obtain ⟨rfl, rfl⟩ := h
    exact h0
  rw [if_neg e] at h
  clear e
  by_cases e : s = 1
  · rw [if_pos e] at h
    subst e
    obtain ⟨rfl, rfl⟩ := h
    exact h1
  rw [if_neg e] at h
  clear e
  by_cases e : s = 2
  · rw [if_pos e] at h
    subst e
    obtain ⟨h, rfl⟩ := h
    replace h : _ ∧ True := ⟨h, trivial⟩
    exact h2 i h.1
  rw [if_neg e] at h
  clear e
  by_cases e : s = 3
  · rw [if_pos e] at h
    subst e
    obtain ⟨h, rfl⟩ := h
    replace h : _ ∧ True := ⟨h, trivial⟩
    exact h3 i h.1
  rw [if_neg e] at h
  clear e
  by_cases e : s = 5
  · rw [if_pos e] at h
    subst e
    obtain ⟨h, rfl⟩ := h
    replace h : _ ∧ True := ⟨h, trivial⟩
    exact h5 i h.1
  rw [if_neg e] at h
  clear e
  by_cases e : s = 6
  · rw [if_pos e] at h
    subst e
    obtain ⟨h, rfl⟩ := h
    replace h : _ ∧ True := ⟨h, trivial⟩
    exact h6 i h.1
  rw [if_neg e] at h
  clear e
  by_cases e : s = 7
  · rw [if_pos e] at h
    subst e
    obtain ⟨rfl, rfl⟩ := h
    exact h7
  rw [if_neg e] at h
  clear e
  by_cases e : s = 8
  · rw [if_pos e] at h
    subst e
    obtain ⟨h, rfl⟩ := h
    replace h : _ ∧ True := ⟨h, trivial⟩
    exact h8 i h.1
  rw [if_neg e] at h
  clear e
  by_cases e : s = 10
  · rw [if_pos e] at h
    subst e
    obtain ⟨rfl, rfl⟩ := h
    exact h10
  rw [if_neg e] at h
  clear e
  by_cases e : s = 11
  · rw [if_pos e] at h
    subst e
    obtain ⟨rfl, rfl⟩ := h
    exact h11
  rw [if_neg e] at h
  clear e
  by_cases e : s = 20
  · rw [if_pos e] at h
    subst e
    obtain ⟨h, rfl⟩ := h
    replace h : _ ∧ True := ⟨h, trivial⟩
    exact h20 i h.1
  rw [if_neg e] at h
  clear e
  by_cases e : s = 21
  · rw [if_pos e] at h
    subst e
    obtain ⟨h, rfl⟩ := h
    replace h : _ ∧ True := ⟨h, trivial⟩
    exact h21 i h.1
  rw [if_neg e] at h
  clear e
  by_cases e : s = 22
  · rw [if_pos e] at h
    subst e
    obtain ⟨rfl, rfl⟩ := h
    exact h22
  rw [if_neg e] at h
  clear e
  by_cases e : s = 23
  · rw [if_pos e] at h
    subst e
    obtain ⟨h, rfl⟩ := h
    replace h : _ ∧ True := ⟨h, trivial⟩
    exact h23 i h.1
  rw [if_neg e] at h
  clear e
  by_cases e : s = 24
  · rw [if_pos e] at h
    subst e
    obtain ⟨rfl, rfl⟩ := h
    exact h24
  rw [if_neg e] at h
  clear e
  by_cases e : s = 25
  · rw [if_pos e] at h
    subst e
    obtain ⟨rfl, rfl⟩ := h
    exact h25
  rw [if_neg e] at h
  clear e
  by_cases e : s = 30
  · rw [if_pos e] at h
    subst e
    obtain ⟨h, rfl⟩ := h
    replace h : _ ∧ True := ⟨h, trivial⟩
    exact h30 i h.1
  rw [if_neg e] at h
  clear e
  by_cases e : s = 31
  · rw [if_pos e] at h
    subst e
    obtain ⟨h, rfl⟩ := h
    replace h : _ ∧ True := ⟨h, trivial⟩
    exact h31 i h.1
  rw [if_neg e] at h
  clear e
  by_cases e : s = 32
  · rw [if_pos e] at h
    subst e
    obtain ⟨h, rfl⟩ := h
    replace h : _ ∧ True := ⟨h, trivial⟩
    exact h32 i h.1
  rw [if_neg e] at h
  clear e
  by_cases e : s = 33
  · rw [if_pos e] at h
    subst e
    obtain ⟨h, rfl⟩ := h
    replace h : _ ∧ True := ⟨h, trivial⟩
    exact h33 i h.1
  rw [if_neg e] at h
  clear e
  by_cases e : s = 34
  · rw [if_pos e] at h
    subst e
    obtain ⟨h, rfl⟩ := h
    replace h : _ ∧ True := ⟨h, trivial⟩
    exact h34 i h.1
  rw [if_neg e] at h
  clear e
  by_cases e : s = 35
  · rw [if_pos e] at h
    subst e
    obtain ⟨h, rfl⟩ := h
    replace h : _ ∧ True := ⟨h, trivial⟩
    exact h35 i h.1
  rw [if_neg e] at h
  clear e
  by_cases e : s = 36
  · rw [if_pos e] at h
    subst e
    obtain ⟨h, rfl⟩ := h
    replace h : _ ∧ True := ⟨h, trivial⟩
    exact h36 i h.1
  rw [if_neg e] at h
  clear e
  by_cases e : s = 37
  · rw [if_pos e] at h
    subst e
    obtain ⟨h, rfl⟩ := h
    replace h : _ ∧ True := ⟨h, trivial⟩
    exact h37 i h.1
  rw [if_neg e] at h
  clear e
  by_cases e : s = 38
  · rw [if_pos e] at h
    subst e
    obtain ⟨h, rfl⟩ := h
    replace h : _ ∧ True := ⟨h, trivial⟩
    exact h38 i h.1
  rw [if_neg e] at h
  clear e
  by_cases e : s = 39
  · rw [if_pos e] at h
    subst e
    exact h39 i h.1 j h.2
  rw [if_neg e] at h
  clear e
  by_cases e : s = 40
  · rw [if_pos e] at h
    subst e
    exact h40 i h.1 j h.2
  rw [if_neg e] at h
  clear e
  by_cases e : s = 41
  · rw [if_pos e] at h
    subst e
    exact h41 i h.1 j h.2
  rw [if_neg e] at h
  clear e
  exact h.elim
def mo (i : Nat) : Nat := if i = 200 then 13 else if i = 201 then 16 else 19 + 3 * i
def ad (a N n s i j : Nat) : Nat := if s = 0 then N + 619 else if s = 1 then N + 11 else if s = 2 then N + 626 + (11 + 2 * n) * n + 1 + 5 * i else if s = 3 then N + 626 + (11 + 2 * n) * i + 3 else if s = 5 then N + mo i else if s = 6 then N + 626 + (11 + 2 * n) * i else if s = 7 then N else if s = 8 then N + 626 + (11 + 2 * n) * i + 7 else if s = 10 then N + 6 else if s = 11 then a else if s = 20 then N + 1 + i else if s = 21 then N + 7 + i else if s = 22 then N + 12 else if s = 23 then N + 620 + i else if s = 24 then N + 625 else if s = 25 then N + 626 + (11 + 2 * n) * n else if s = 30 then N + mo i + 1 else if s = 31 then N + mo i + 2 else if s = 32 then N + 626 + (11 + 2 * n) * i + 1 else if s = 33 then N + 626 + (11 + 2 * n) * i + 2 else if s = 34 then N + 626 + (11 + 2 * n) * i + 4 else if s = 35 then N + 626 + (11 + 2 * n) * i + 5 else if s = 36 then N + 626 + (11 + 2 * n) * i + 8 else if s = 37 then N + 626 + (11 + 2 * n) * i + 9 else if s = 38 then N + 626 + (11 + 2 * n) * i + 10 else if s = 39 then N + 626 + (11 + 2 * n) * i + 11 + 2 * j else if s = 40 then N + 626 + (11 + 2 * n) * i + 11 + 2 * j + 1 else if s = 41 then N + 626 + (11 + 2 * n) * n + 1 + 5 * i + 1 + j else N
def dm_dec (n s i j : Nat) : Decidable (dm n s i j) := by unfold dm; infer_instance
def pq (x y : Nat) : Nat := (x + y) * (x + y) + x
theorem pq_inj {x y x' y' : Nat} (h : pq x y = pq x' y') : x = x' ∧ y = y' := by
  unfold pq at h
  have key : ∀ s s' z z' : Nat, z ≤ s → s < s' → s * s + z = s' * s' + z' → False := by
    intro s s' z z' h1 h2 h3
    have h4 : (s + 1) * (s + 1) ≤ s' * s' := Nat.mul_le_mul h2 h2
    rw [Nat.succ_mul, Nat.mul_succ] at h4
    omega
  rcases Nat.lt_trichotomy (x + y) (x' + y') with h1 | h1 | h1
  · exact (key _ _ _ _ (by omega) h1 h).elim
  · rw [h1] at h
    omega
  · exact (key _ _ _ _ (by omega) h1 h.symm).elim
/-- the addresses: names that stand for no object lie far above -/
def A0 (a N n : Nat) : Ad := fun s i j => @ite _ (dm n s i j) (dm_dec n s i j) (ad a N n s i j) (N + 5000 + pq s (pq i j))
def ms (o : Nat) : Nat := if o = 0 then 5 else if o = 1 then 30 else 31
def dr (r o : Nat) : Nat × Nat × Nat := if o = 0 then (6, r, 0) else if o = 1 then (32, r, 0) else if o = 2 then (33, r, 0) else if o = 3 then (3, r, 0) else if o = 4 then (34, r, 0) else if o = 5 then (35, r, 0) else if o = 7 then (8, r, 0) else if o = 8 then (36, r, 0) else if o = 9 then (37, r, 0) else if o = 10 then (38, r, 0) else if o % 2 = 1 then (39, r, (o - 11) / 2) else (40, r, (o - 12) / 2)
def dc (c o : Nat) : Nat × Nat × Nat := if o = 0 then (2, c, 0) else (41, c, o - 1)
def dec (n y : Nat) : Nat × Nat × Nat := if y = 0 then (7, 0, 0) else if y < 6 then (20, y - 1, 0) else if y = 6 then (10, 0, 0) else if y < 11 then (21, y - 7, 0) else if y = 11 then (1, 0, 0) else if y = 12 then (22, 0, 0) else if y < 16 then (ms (y - 13), 200, 0) else if y < 19 then (ms (y - 16), 201, 0) else if y < 619 then (ms ((y - 19) % 3), (y - 19) / 3, 0) else if y = 619 then (0, 0, 0) else if y < 625 then (23, y - 620, 0) else if y = 625 then (24, 0, 0) else if y < 626 + (11 + 2 * n) * n then dr ((y - 626) / (11 + 2 * n)) ((y - 626) % (11 + 2 * n)) else if y = 626 + (11 + 2 * n) * n then (25, 0, 0) else dc ((y - (627 + (11 + 2 * n) * n)) / 5) ((y - (627 + (11 + 2 * n) * n)) % 5)
theorem blk {W r o : Nat} (h : o < W) : (W * r + o) / W = r ∧ (W * r + o) % W = o := by
  have h0 : 0 < W := by omega
  exact ⟨by rw [Nat.mul_add_div h0, Nat.div_eq_of_lt h, Nat.add_zero], by rw [Nat.mul_add_mod, Nat.mod_eq_of_lt h]⟩
theorem blk2 {W r n : Nat} (h : r < n) : W * r + W ≤ W * n := by
  rw [← Nat.mul_succ]
  exact Nat.mul_le_mul_left W h
theorem dec_rep {n r o : Nat} (hr : r < n) (ho : o < (11 + 2 * n)) : dec n (626 + (11 + 2 * n) * r + o) = dr r o := by
  have h1 := blk2 (W := (11 + 2 * n)) hr
  have h2 := blk (r := r) ho
  have h3 : 626 + (11 + 2 * n) * r + o - 626 = (11 + 2 * n) * r + o := by omega
  generalize hX : (11 + 2 * n) * r = X at *
  unfold dec
  generalize hY : (11 + 2 * n) * n = Y at *
  rw [if_neg (by omega), if_neg (by omega), if_neg (by omega), if_neg (by omega), if_neg (by omega), if_neg (by omega), if_neg (by omega), if_neg (by omega), if_neg (by omega), if_neg (by omega), if_neg (by omega), if_neg (by omega), if_pos (by omega), h3, h2.1, h2.2]
theorem dec_cli {n c o : Nat} (hc : c < 4) (ho : o < 5) : dec n (626 + (11 + 2 * n) * n + 1 + 5 * c + o) = dc c o := by
  unfold dec
  generalize hY : (11 + 2 * n) * n = Y at *
  rw [if_neg (by omega), if_neg (by omega), if_neg (by omega), if_neg (by omega), if_neg (by omega), if_neg (by omega), if_neg (by omega), if_neg (by omega), if_neg (by omega), if_neg (by omega), if_neg (by omega), if_neg (by omega), if_neg (by omega), if_neg (by omega), show (626 + Y + 1 + 5 * c + o - (627 + Y)) / 5 = c by omega, show (626 + Y + 1 + 5 * c + o - (627 + Y)) % 5 = o by omega]
theorem dec_msg {n i o : Nat} (hi : i < 202) (ho : o < 3) : dec n (mo i + o) = (ms o, i, 0) := by
  unfold dec mo
  by_cases h0 : i = 200
  · subst h0
    rw [if_pos rfl, if_neg (by omega), if_neg (by omega), if_neg (by omega), if_neg (by omega), if_neg (by omega), if_neg (by omega), if_pos (by omega), show 13 + o - 13 = o by omega]
  · rw [if_neg h0]
    by_cases h1 : i = 201
    · subst h1
      rw [if_pos rfl, if_neg (by omega), if_neg (by omega), if_neg (by omega), if_neg (by omega), if_neg (by omega), if_neg (by omega), if_neg (by omega), if_pos (by omega), show 16 + o - 16 = o by omega]
    · rw [if_neg h1, if_neg (by omega), if_neg (by omega), if_neg (by omega), if_neg (by omega), if_neg (by omega), if_neg (by omega), if_neg (by omega), if_neg (by omega), if_pos (by omega), show (19 + 3 * i + o - 19) % 3 = o by omega, show (19 + 3 * i + o - 19) / 3 = i by omega]
theorem ad_dec {a N n : Nat} (hn : n ≤ 7) : ∀ s i j, dm n s i j → s ≠ 11 → N ≤ ad a N n s i j ∧ ad a N n s i j < N + 5000 ∧ dec n (ad a N n s i j - N) = (s, i, j) := by
  have hC : (11 + 2 * n) * n ≤ 175 := by
    have : (11 + 2 * n) * n ≤ 25 * 7 := Nat.mul_le_mul (by omega) hn
    omega
  refine dm_ind ?_ ?_ ?_ ?_ ?_ ?_ ?_ ?_ ?_ ?_ ?_ ?_ ?_ ?_ ?_ ?_ ?_ ?_ ?_ ?_ ?_ ?_ ?_ ?_ ?_ ?_ ?_ ?_
  · intro hs
    have e : ad a N n 0 0 0 = N + 619 := rfl
    rw [e]
    refine ⟨by omega, by omega, ?_⟩
    rw [show N + 619 - N = 619 by omega]
    rfl
  · intro hs
    have e : ad a N n 1 0 0 = N + 11 := rfl
    rw [e]
    refine ⟨by omega, by omega, ?_⟩
    rw [show N + 11 - N = 11 by omega]
    rfl
  · intro i hi hs
    have e : ad a N n 2 i 0 = N + 626 + (11 + 2 * n) * n + 1 + 5 * i := rfl
    have h2 := dec_cli (n := n) (o := 0) hi (by omega)
    rw [e]
    refine ⟨by omega, by omega, ?_⟩
    rw [show N + 626 + (11 + 2 * n) * n + 1 + 5 * i - N = 626 + (11 + 2 * n) * n + 1 + 5 * i + (0) by omega, h2]
    rfl
  · intro i hi hs
    have e : ad a N n 3 i 0 = N + 626 + (11 + 2 * n) * i + 3 := rfl
    have h1 := blk2 (W := (11 + 2 * n)) hi
    have h2 := dec_rep (o := 3) hi (by omega)
    rw [e]
    refine ⟨by omega, by omega, ?_⟩
    rw [show N + 626 + (11 + 2 * n) * i + 3 - N = 626 + (11 + 2 * n) * i + (3) by omega, h2]
    rfl
  · intro i hi hs
    have e : ad a N n 5 i 0 = N + mo i := rfl
    have h2 := dec_msg (n := n) (o := 0) hi (by omega)
    have h3 : mo i < 700 := by unfold mo; split <;> (try split) <;> omega
    rw [e]
    refine ⟨by omega, by omega, ?_⟩
    rw [show N + mo i - N = mo i + 0 by omega, h2]
    rfl
  · intro i hi hs
    have e : ad a N n 6 i 0 = N + 626 + (11 + 2 * n) * i := rfl
    have h1 := blk2 (W := (11 + 2 * n)) hi
    have h2 := dec_rep (o := 0) hi (by omega)
    rw [e]
    refine ⟨by omega, by omega, ?_⟩
    rw [show N + 626 + (11 + 2 * n) * i - N = 626 + (11 + 2 * n) * i + (0) by omega, h2]
    rfl
  · intro hs
    have e : ad a N n 7 0 0 = N := rfl
    rw [e]
    refine ⟨by omega, by omega, ?_⟩
    rw [show N - N = 0 by omega]
    rfl
  · intro i hi hs
    have e : ad a N n 8 i 0 = N + 626 + (11 + 2 * n) * i + 7 := rfl
    have h1 := blk2 (W := (11 + 2 * n)) hi
    have h2 := dec_rep (o := 7) hi (by omega)
    rw [e]
    refine ⟨by omega, by omega, ?_⟩
    rw [show N + 626 + (11 + 2 * n) * i + 7 - N = 626 + (11 + 2 * n) * i + (7) by omega, h2]
    rfl
  · intro hs
    have e : ad a N n 10 0 0 = N + 6 := rfl
    rw [e]
    refine ⟨by omega, by omega, ?_⟩
    rw [show N + 6 - N = 6 by omega]
    rfl
  · intro hs
    exact absurd rfl hs
  · intro i hi hs
    have e : ad a N n 20 i 0 = N + 1 + i := rfl
    rw [e]
    refine ⟨by omega, by omega, ?_⟩
    rw [show N + 1 + i - N = 1 + i by omega]
    rw [dec, if_neg (by omega), if_pos (by omega), show 1 + i - 1 = i by omega]
  · intro i hi hs
    have e : ad a N n 21 i 0 = N + 7 + i := rfl
    rw [e]
    refine ⟨by omega, by omega, ?_⟩
    rw [show N + 7 + i - N = 7 + i by omega]
    rw [dec, if_neg (by omega), if_neg (by omega), if_neg (by omega), if_pos (by omega), show 7 + i - 7 = i by omega]
  · intro hs
    have e : ad a N n 22 0 0 = N + 12 := rfl
    rw [e]
    refine ⟨by omega, by omega, ?_⟩
    rw [show N + 12 - N = 12 by omega]
    rfl
  · intro i hi hs
    have e : ad a N n 23 i 0 = N + 620 + i := rfl
    rw [e]
    refine ⟨by omega, by omega, ?_⟩
    rw [show N + 620 + i - N = 620 + i by omega]
    rw [dec, if_neg (by omega), if_neg (by omega), if_neg (by omega), if_neg (by omega), if_neg (by omega), if_neg (by omega), if_neg (by omega), if_neg (by omega), if_neg (by omega), if_neg (by omega), if_pos (by omega), show 620 + i - 620 = i by omega]
  · intro hs
    have e : ad a N n 24 0 0 = N + 625 := rfl
    rw [e]
    refine ⟨by omega, by omega, ?_⟩
    rw [show N + 625 - N = 625 by omega]
    rfl
  · intro hs
    have e : ad a N n 25 0 0 = N + 626 + (11 + 2 * n) * n := rfl
    rw [e]
    refine ⟨by omega, by omega, ?_⟩
    rw [show N + 626 + (11 + 2 * n) * n - N = 626 + (11 + 2 * n) * n by omega]
    rw [dec, if_neg (by omega), if_neg (by omega), if_neg (by omega), if_neg (by omega), if_neg (by omega), if_neg (by omega), if_neg (by omega), if_neg (by omega), if_neg (by omega), if_neg (by omega), if_neg (by omega), if_neg (by omega), if_neg (by omega), if_pos (by omega)]
  · intro i hi hs
    have e : ad a N n 30 i 0 = N + mo i + 1 := rfl
    have h2 := dec_msg (n := n) (o := 1) hi (by omega)
    have h3 : mo i < 700 := by unfold mo; split <;> (try split) <;> omega
    rw [e]
    refine ⟨by omega, by omega, ?_⟩
    rw [show N + mo i + 1 - N = mo i + 1 by omega, h2]
    rfl
  · intro i hi hs
    have e : ad a N n 31 i 0 = N + mo i + 2 := rfl
    have h2 := dec_msg (n := n) (o := 2) hi (by omega)
    have h3 : mo i < 700 := by unfold mo; split <;> (try split) <;> omega
    rw [e]
    refine ⟨by omega, by omega, ?_⟩
    rw [show N + mo i + 2 - N = mo i + 2 by omega, h2]
    rfl
  · intro i hi hs
    have e : ad a N n 32 i 0 = N + 626 + (11 + 2 * n) * i + 1 := rfl
    have h1 := blk2 (W := (11 + 2 * n)) hi
    have h2 := dec_rep (o := 1) hi (by omega)
    rw [e]
    refine ⟨by omega, by omega, ?_⟩
    rw [show N + 626 + (11 + 2 * n) * i + 1 - N = 626 + (11 + 2 * n) * i + (1) by omega, h2]
    rfl
  · intro i hi hs
    have e : ad a N n 33 i 0 = N + 626 + (11 + 2 * n) * i + 2 := rfl
    have h1 := blk2 (W := (11 + 2 * n)) hi
    have h2 := dec_rep (o := 2) hi (by omega)
    rw [e]
    refine ⟨by omega, by omega, ?_⟩
    rw [show N + 626 + (11 + 2 * n) * i + 2 - N = 626 + (11 + 2 * n) * i + (2) by omega, h2]
    rfl
  · intro i hi hs
    have e : ad a N n 34 i 0 = N + 626 + (11 + 2 * n) * i + 4 := rfl
    have h1 := blk2 (W := (11 + 2 * n)) hi
    have h2 := dec_rep (o := 4) hi (by omega)
    rw [e]
    refine ⟨by omega, by omega, ?_⟩
    rw [show N + 626 + (11 + 2 * n) * i + 4 - N = 626 + (11 + 2 * n) * i + (4) by omega, h2]
    rfl
  · intro i hi hs
    have e : ad a N n 35 i 0 = N + 626 + (11 + 2 * n) * i + 5 := rfl
    have h1 := blk2 (W := (11 + 2 * n)) hi
    have h2 := dec_rep (o := 5) hi (by omega)
    rw [e]
    refine ⟨by omega, by omega, ?_⟩
    rw [show N + 626 + (11 + 2 * n) * i + 5 - N = 626 + (11 + 2 * n) * i + (5) by omega, h2]
    rfl
  · intro i hi hs
    have e : ad a N n 36 i 0 = N + 626 + (11 + 2 * n) * i + 8 := rfl
    have h1 := blk2 (W := (11 + 2 * n)) hi
    have h2 := dec_rep (o := 8) hi (by omega)
    rw [e]
    refine ⟨by omega, by omega, ?_⟩
    rw [show N + 626 + (11 + 2 * n) * i + 8 - N = 626 + (11 + 2 * n) * i + (8) by omega, h2]
    rfl
  · intro i hi hs
    have e : ad a N n 37 i 0 = N + 626 + (11 + 2 * n) * i + 9 := rfl
    have h1 := blk2 (W := (11 + 2 * n)) hi
    have h2 := dec_rep (o := 9) hi (by omega)
    rw [e]
    refine ⟨by omega, by omega, ?_⟩
    rw [show N + 626 + (11 + 2 * n) * i + 9 - N = 626 + (11 + 2 * n) * i + (9) by omega, h2]
    rfl
  · intro i hi hs
    have e : ad a N n 38 i 0 = N + 626 + (11 + 2 * n) * i + 10 := rfl
    have h1 := blk2 (W := (11 + 2 * n)) hi
    have h2 := dec_rep (o := 10) hi (by omega)
    rw [e]
    refine ⟨by omega, by omega, ?_⟩
    rw [show N + 626 + (11 + 2 * n) * i + 10 - N = 626 + (11 + 2 * n) * i + (10) by omega, h2]
    rfl
  · intro i hi j hj hs
    have e : ad a N n 39 i j = N + 626 + (11 + 2 * n) * i + 11 + 2 * j := rfl
    have h1 := blk2 (W := (11 + 2 * n)) hi
    have h2 := dec_rep (o := 11 + 2 * j) hi (by omega)
    rw [e]
    refine ⟨by omega, by omega, ?_⟩
    rw [show N + 626 + (11 + 2 * n) * i + 11 + 2 * j - N = 626 + (11 + 2 * n) * i + (11 + 2 * j) by omega, h2]
    rw [dr, if_neg (by omega), if_neg (by omega), if_neg (by omega), if_neg (by omega), if_neg (by omega), if_neg (by omega), if_neg (by omega), if_neg (by omega), if_neg (by omega), if_neg (by omega), if_pos (by omega), show (11 + 2 * j - 11) / 2 = j by omega]
  · intro i hi j hj hs
    have e : ad a N n 40 i j = N + 626 + (11 + 2 * n) * i + 11 + 2 * j + 1 := rfl
    have h1 := blk2 (W := (11 + 2 * n)) hi
    have h2 := dec_rep (o := 11 + 2 * j + 1) hi (by omega)
    rw [e]
    refine ⟨by omega, by omega, ?_⟩
    rw [show N + 626 + (11 + 2 * n) * i + 11 + 2 * j + 1 - N = 626 + (11 + 2 * n) * i + (11 + 2 * j + 1) by omega, h2]
    rw [dr, if_neg (by omega), if_neg (by omega), if_neg (by omega), if_neg (by omega), if_neg (by omega), if_neg (by omega), if_neg (by omega), if_neg (by omega), if_neg (by omega), if_neg (by omega), if_neg (by omega), show (11 + 2 * j + 1 - 12) / 2 = j by omega]
  · intro i hi j hj hs
    have e : ad a N n 41 i j = N + 626 + (11 + 2 * n) * n + 1 + 5 * i + 1 + j := rfl
    have h2 := dec_cli (n := n) (o := 1 + j) hi (by omega)
    rw [e]
    refine ⟨by omega, by omega, ?_⟩
    rw [show N + 626 + (11 + 2 * n) * n + 1 + 5 * i + 1 + j - N = 626 + (11 + 2 * n) * n + 1 + 5 * i + (1 + j) by omega, h2]
    rw [dc, if_neg (by omega), show 1 + j - 1 = j by omega]
theorem A0_inj {a N n : Nat} (hn : n ≤ 7) (ha : a < N) : Inj (A0 a N n) := by
  have h11 : ∀ i j, dm n 11 i j → i = 0 ∧ j = 0 := by
    intro i j h
    simpa [dm] using h
  intro s i j s' i' j'
  refine ⟨fun h => ?_, by rintro ⟨rfl, rfl, rfl⟩; rfl⟩
  unfold A0 at h
  have b := ad_dec (a := a) (N := N) hn
  have e11 : ∀ i j, ad a N n 11 i j = a := fun _ _ => rfl
  by_cases d : dm n s i j
  · rw [if_pos d] at h
    by_cases d' : dm n s' i' j'
    · rw [if_pos d'] at h
      by_cases c : s = 11
      · by_cases c' : s' = 11
        · subst c
          subst c'
          have := h11 _ _ d
          have := h11 _ _ d'
          omega
        · have := b _ _ _ d' c'
          subst c
          rw [e11] at h
          omega
      · by_cases c' : s' = 11
        · have := b _ _ _ d c
          subst c'
          rw [e11] at h
          omega
        · have b1 := (b _ _ _ d c).2.2
          have b2 := (b _ _ _ d' c').2.2
          rw [h, b2] at b1
          simp only [Prod.mk.injEq] at b1
          exact ⟨b1.1.symm, b1.2.1.symm, b1.2.2.symm⟩
    · rw [if_neg d'] at h
      by_cases c : s = 11
      · subst c
        rw [e11] at h
        omega
      · have := b _ _ _ d c
        omega
  · rw [if_neg d] at h
    by_cases d' : dm n s' i' j'
    · rw [if_pos d'] at h
      by_cases c : s' = 11
      · subst c
        rw [e11] at h
        omega
      · have := b _ _ _ d' c
        omega
    · rw [if_neg d'] at h
      have h1 := pq_inj (Nat.add_left_cancel h)
      have h2 := pq_inj h1.2
      exact ⟨h1.1, h2.1, h2.2⟩
