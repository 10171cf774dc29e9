/-! bits below 128 -/
def cnt (b : Nat) : Nat := (b % 2) + (b / 2 % 2) + (b / 4 % 2) + (b / 8 % 2) + (b / 16 % 2) + (b / 32 % 2) + (b / 64 % 2)
theorem bit_c : ∀ b : Nat, b < 128 → f_J6_bitCount_0f7a4 (nI b) = some (nI (cnt b)) := by decide +kernel
theorem bit_m : ∀ b : Nat, b < 128 → f_X12_ones (nI b) = some (nI (cnt b)) := by decide +kernel
theorem cnt_le : ∀ b : Nat, cnt b ≤ 7 := fun b => by unfold cnt; omega
theorem bit_or : ∀ b : Nat, b < 128 → ∀ j : Nat, j < 7 → (nI b ||| ((1 : Int32) <<< (nI j &&& 31))) = nI (b ||| 2 ^ j) ∧ (b ||| 2 ^ j) < 128 := by decide +kernel
theorem bit_tb : ∀ b : Nat, b < 128 → ∀ j : Nat, j < 7 → ∀ i : Nat, i < 7 → (b ||| 2 ^ j).testBit i = (b.testBit i || decide (i = j)) := by decide +kernel
theorem bit_tc : ∀ b : Nat, b < 128 → ∀ j : Nat, j < 7 → (((nI b &&& ((1 : Int32) <<< (nI j &&& 31))) = 0) ↔ ¬ b.testBit j = true) := by decide +kernel
theorem bit_tm : ∀ b : Nat, b < 128 → ∀ j : Nat, j < 7 → ((((nI b >>> (nI j &&& 31)) &&& (1 : Int32)) = 1) ↔ b.testBit j = true) ∧ ((((nI b >>> (nI j &&& 31)) &&& (1 : Int32)) = 0) ↔ ¬ b.testBit j = true) := by decide +kernel
theorem enough {A : Ad} {n : Nat} {σ : Hp} {r b : Nat} (hs : Rs A n σ) (hr : r < n) (hb : b < 128) : f_X6_isEnough σ (A 6 r 0) (nI b) = some (b1 (n / 2 ≤ cnt b)) := by
  have h7 := hs.np
  have hc := cnt_le b
  unfold f_X6_isEnough b1
  rw [bit_c b hb, Option.bind_some, x_gI (hs.k6 hr), Option.bind_some, hs.i6_10 hr, l2, pk_div (by omega) (by omega) (by omega)]
  by_cases h : cnt b < n / 2
  · rw [if_pos ((nI_ltI (by omega) (by omega)).mpr h), if_neg (by omega)]
  · rw [if_neg (fun e => h ((nI_ltI (by omega) (by omega)).mp e)), if_pos (by omega)]
