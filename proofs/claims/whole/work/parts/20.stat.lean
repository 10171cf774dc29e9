/-! the class's objects by names (family, i, j): kinds, lengths, references that never change -/
abbrev Ad : Type := Nat → Nat → Nat → Nat
def Inj (A : Ad) : Prop := ∀ s i j s' i' j', A s i j = A s' i' j' ↔ (s = s' ∧ i = i' ∧ j = j')
def dm (n s i j : Nat) : Prop := if s = 0 then (i = 0 ∧ j = 0) else if s = 1 then (i = 0 ∧ j = 0) else if s = 2 then (i < 4 ∧ j = 0) else if s = 3 then (i < n ∧ j = 0) else if s = 5 then (i < 202 ∧ j = 0) else if s = 6 then (i < n ∧ j = 0) else if s = 7 then (i = 0 ∧ j = 0) else if s = 8 then (i < n ∧ j = 0) else if s = 10 then (i = 0 ∧ j = 0) else if s = 11 then (i = 0 ∧ j = 0) else if s = 20 then (i < 5 ∧ j = 0) else if s = 21 then (i < 4 ∧ j = 0) else if s = 22 then (i = 0 ∧ j = 0) else if s = 23 then (i < 5 ∧ j = 0) else if s = 24 then (i = 0 ∧ j = 0) else if s = 25 then (i = 0 ∧ j = 0) else if s = 30 then (i < 202 ∧ j = 0) else if s = 31 then (i < 202 ∧ j = 0) else if s = 32 then (i < n ∧ j = 0) else if s = 33 then (i < n ∧ j = 0) else if s = 34 then (i < n ∧ j = 0) else if s = 35 then (i < n ∧ j = 0) else if s = 36 then (i < n ∧ j = 0) else if s = 37 then (i < n ∧ j = 0) else if s = 38 then (i < n ∧ j = 0) else if s = 39 then (i < n ∧ j < n) else if s = 40 then (i < n ∧ j < n) else if s = 41 then (i < 4 ∧ j < 4) else False
def kdF (s i j : Nat) : Nat := if s = 0 then 0 else if s = 1 then 1 else if s = 2 then 2 else if s = 3 then 3 else if s = 5 then 5 else if s = 6 then 6 else if s = 7 then 7 else if s = 8 then 8 else if s = 10 then 10 else if s = 11 then 11 else if s = 20 then 13 else if s = 21 then 13 else if s = 22 then 17 else if s = 23 then (if i = 1 then 19 else 13) else if s = 24 then 18 else if s = 25 then 15 else if s = 30 then 4 else if s = 31 then 13 else if s = 32 then 4 else if s = 33 then 13 else if s = 34 then 13 else if s = 35 then 13 else if s = 36 then 19 else if s = 37 then 13 else if s = 38 then 16 else if s = 39 then 4 else if s = 40 then 13 else if s = 41 then (if j = 0 then 19 else 13) else 0
def lenF (n s i : Nat) : Nat := if s = 0 then 0 else if s = 1 then 0 else if s = 2 then 0 else if s = 3 then 0 else if s = 5 then 0 else if s = 6 then 0 else if s = 7 then 0 else if s = 8 then 0 else if s = 10 then 0 else if s = 11 then 0 else if s = 20 then 513 else if s = 21 then (if i = 0 then 8 else if i = 1 then 4 else 513) else if s = 22 then 200 else if s = 23 then 200 else if s = 24 then n else if s = 25 then 4 else if s = 30 then 0 else if s = 31 then 100 else if s = 32 then 0 else if s = 33 then 100 else if s = 34 then 9 else if s = 35 then 9 else if s = 36 then n else if s = 37 then n else if s = 38 then n else if s = 39 then 0 else if s = 40 then 100 else if s = 41 then 64 else 0
def srF (n s i j k : Nat) : Option (Nat × Nat × Nat) := if s = 0 then (if k = 1 then some (23, 0, 0) else if k = 2 then some (23, 1, 0) else if k = 3 then some (23, 2, 0) else if k = 4 then some (23, 3, 0) else if k = 5 then some (23, 4, 0) else none) else if s = 1 then (if k = 0 then some (22, 0, 0) else if k = 5 then some (5, 201, 0) else none) else if s = 2 then (if k = 7 then some (41, i, 0) else if k = 8 then some (41, i, 1) else if k = 9 then some (41, i, 2) else if k = 10 then some (41, i, 3) else none) else if s = 3 then (if k = 0 then some (34, i, 0) else if k = 1 then some (35, i, 0) else none) else if s = 5 then (if k = 11 then some (30, i, 0) else none) else if s = 6 then (if k = 0 then some (32, i, 0) else if k = 1 then some (3, i, 0) else if k = 11 then some (7, 0, 0) else if k = 12 then some (10, 0, 0) else if k = 13 then some (1, 0, 0) else if k = 14 then some (8, i, 0) else none) else if s = 7 then (if k = 0 then some (20, 0, 0) else if k = 1 then some (20, 1, 0) else if k = 2 then some (20, 2, 0) else if k = 3 then some (20, 3, 0) else if k = 4 then some (20, 4, 0) else none) else if s = 8 then (if k = 4 then some (36, i, 0) else if k = 5 then some (37, i, 0) else if k = 6 then some (38, i, 0) else none) else if s = 10 then (if k = 0 then some (21, 0, 0) else if k = 1 then some (7, 0, 0) else if k = 2 then some (21, 1, 0) else if k = 3 then some (21, 2, 0) else if k = 4 then some (21, 3, 0) else none) else if s = 11 then (if k = 1 then some (7, 0, 0) else if k = 2 then some (10, 0, 0) else if k = 3 then some (1, 0, 0) else if k = 4 then some (24, 0, 0) else if k = 5 then some (25, 0, 0) else if k = 6 then some (0, 0, 0) else none) else if s = 30 then (if k = 0 then some (31, i, 0) else none) else if s = 32 then (if k = 0 then some (33, i, 0) else none) else if s = 39 then (if k = 0 then some (40, i, j) else none) else if s = 24 then (if k < n then some (6, k, 0) else none) else if s = 25 then (if k < 4 then some (2, k, 0) else none) else if s = 38 then (if k < n then some (39, i, k) else none) else none
def siF (n s i k : Nat) : Option Int32 := if s = 11 ∧ k = 0 then some (nI n) else if s = 6 ∧ k = 9 then some (nI i) else if s = 6 ∧ k = 10 then some (nI n) else if s = 2 ∧ k = 6 then some (nI n) else none
def Rs (A : Ad) (n : Nat) (σ : Hp) : Prop := Inj A ∧ (∀ s i j, dm n s i j → oK σ (A s i j) = kdF s i j ∧ oZ σ (A s i j) = lenF n s i) ∧ (∀ s i j k s' i' j', dm n s i j → srF n s i j k = some (s', i', j') → oR σ (A s i j) k = some (A s' i' j')) ∧ (∀ s i j k x, dm n s i j → siF n s i k = some x → oI σ (A s i j) k = x) ∧ (∀ a, oN σ ≤ a → oK σ a = 99) ∧ (n = 3 ∨ n = 5 ∨ n = 7)
/-- a View -/
def IsV (σ : Hp) (v : Nat) (L S : Int32) : Prop := oK σ v = 9 ∧ oI σ v 0 = L ∧ oI σ v 1 = S
section RS
variable {A : Ad} {n : Nat} {σ : Hp}
theorem Rs.n3 (h : Rs A n σ) : n = 3 ∨ n = 5 ∨ n = 7 := h.2.2.2.2.2
theorem Rs.kd (h : Rs A n σ) {s i j : Nat} (hd : dm n s i j) : oK σ (A s i j) = kdF s i j := (h.2.1 s i j hd).1
theorem Rs.ln (h : Rs A n σ) {s i j : Nat} (hd : dm n s i j) : oZ σ (A s i j) = lenF n s i := (h.2.1 s i j hd).2
theorem Rs.d0 : dm n 0 0 0 := by simp [dm]
theorem Rs.k0 (h : Rs A n σ) : oK σ (A 0 0 0) = 0 := h.kd (Rs.d0)
theorem Rs.d1 : dm n 1 0 0 := by simp [dm]
theorem Rs.k1 (h : Rs A n σ) : oK σ (A 1 0 0) = 1 := h.kd (Rs.d1)
theorem Rs.d2 {i : Nat} (hi : i < 4) : dm n 2 i 0 := by simp [dm, hi]
theorem Rs.k2 (h : Rs A n σ) {i : Nat} (hi : i < 4) : oK σ (A 2 i 0) = 2 := h.kd (Rs.d2 hi)
theorem Rs.d3 {i : Nat} (hi : i < n) : dm n 3 i 0 := by simp [dm, hi]
theorem Rs.k3 (h : Rs A n σ) {i : Nat} (hi : i < n) : oK σ (A 3 i 0) = 3 := h.kd (Rs.d3 hi)
theorem Rs.d5 {i : Nat} (hi : i < 202) : dm n 5 i 0 := by simp [dm, hi]
theorem Rs.k5 (h : Rs A n σ) {i : Nat} (hi : i < 202) : oK σ (A 5 i 0) = 5 := h.kd (Rs.d5 hi)
theorem Rs.d6 {i : Nat} (hi : i < n) : dm n 6 i 0 := by simp [dm, hi]
theorem Rs.k6 (h : Rs A n σ) {i : Nat} (hi : i < n) : oK σ (A 6 i 0) = 6 := h.kd (Rs.d6 hi)
theorem Rs.d7 : dm n 7 0 0 := by simp [dm]
theorem Rs.k7 (h : Rs A n σ) : oK σ (A 7 0 0) = 7 := h.kd (Rs.d7)
theorem Rs.d8 {i : Nat} (hi : i < n) : dm n 8 i 0 := by simp [dm, hi]
theorem Rs.k8 (h : Rs A n σ) {i : Nat} (hi : i < n) : oK σ (A 8 i 0) = 8 := h.kd (Rs.d8 hi)
theorem Rs.d10 : dm n 10 0 0 := by simp [dm]
theorem Rs.k10 (h : Rs A n σ) : oK σ (A 10 0 0) = 10 := h.kd (Rs.d10)
theorem Rs.d11 : dm n 11 0 0 := by simp [dm]
theorem Rs.k11 (h : Rs A n σ) : oK σ (A 11 0 0) = 11 := h.kd (Rs.d11)
theorem Rs.d20 {i : Nat} (hi : i < 5) : dm n 20 i 0 := by simp [dm, hi]
theorem Rs.k20 (h : Rs A n σ) {i : Nat} (hi : i < 5) : oK σ (A 20 i 0) = 13 := h.kd (Rs.d20 hi)
theorem Rs.z20 (h : Rs A n σ) {i : Nat} (hi : i < 5) : oZ σ (A 20 i 0) = 513 := h.ln (Rs.d20 hi)
theorem Rs.d21 {i : Nat} (hi : i < 4) : dm n 21 i 0 := by simp [dm, hi]
theorem Rs.k21 (h : Rs A n σ) {i : Nat} (hi : i < 4) : oK σ (A 21 i 0) = 13 := h.kd (Rs.d21 hi)
theorem Rs.z21 (h : Rs A n σ) {i : Nat} (hi : i < 4) : oZ σ (A 21 i 0) = (if i = 0 then 8 else if i = 1 then 4 else 513) := h.ln (Rs.d21 hi)
theorem Rs.d22 : dm n 22 0 0 := by simp [dm]
theorem Rs.k22 (h : Rs A n σ) : oK σ (A 22 0 0) = 17 := h.kd (Rs.d22)
theorem Rs.z22 (h : Rs A n σ) : oZ σ (A 22 0 0) = 200 := h.ln (Rs.d22)
theorem Rs.d23 {i : Nat} (hi : i < 5) : dm n 23 i 0 := by simp [dm, hi]
theorem Rs.k23 (h : Rs A n σ) {i : Nat} (hi : i < 5) : oK σ (A 23 i 0) = (if i = 1 then 19 else 13) := h.kd (Rs.d23 hi)
theorem Rs.z23 (h : Rs A n σ) {i : Nat} (hi : i < 5) : oZ σ (A 23 i 0) = 200 := h.ln (Rs.d23 hi)
theorem Rs.d24 : dm n 24 0 0 := by simp [dm]
theorem Rs.k24 (h : Rs A n σ) : oK σ (A 24 0 0) = 18 := h.kd (Rs.d24)
theorem Rs.z24 (h : Rs A n σ) : oZ σ (A 24 0 0) = n := h.ln (Rs.d24)
theorem Rs.d25 : dm n 25 0 0 := by simp [dm]
theorem Rs.k25 (h : Rs A n σ) : oK σ (A 25 0 0) = 15 := h.kd (Rs.d25)
theorem Rs.z25 (h : Rs A n σ) : oZ σ (A 25 0 0) = 4 := h.ln (Rs.d25)
theorem Rs.d30 {i : Nat} (hi : i < 202) : dm n 30 i 0 := by simp [dm, hi]
theorem Rs.k30 (h : Rs A n σ) {i : Nat} (hi : i < 202) : oK σ (A 30 i 0) = 4 := h.kd (Rs.d30 hi)
theorem Rs.d31 {i : Nat} (hi : i < 202) : dm n 31 i 0 := by simp [dm, hi]
theorem Rs.k31 (h : Rs A n σ) {i : Nat} (hi : i < 202) : oK σ (A 31 i 0) = 13 := h.kd (Rs.d31 hi)
theorem Rs.z31 (h : Rs A n σ) {i : Nat} (hi : i < 202) : oZ σ (A 31 i 0) = 100 := h.ln (Rs.d31 hi)
theorem Rs.d32 {i : Nat} (hi : i < n) : dm n 32 i 0 := by simp [dm, hi]
theorem Rs.k32 (h : Rs A n σ) {i : Nat} (hi : i < n) : oK σ (A 32 i 0) = 4 := h.kd (Rs.d32 hi)
theorem Rs.d33 {i : Nat} (hi : i < n) : dm n 33 i 0 := by simp [dm, hi]
theorem Rs.k33 (h : Rs A n σ) {i : Nat} (hi : i < n) : oK σ (A 33 i 0) = 13 := h.kd (Rs.d33 hi)
theorem Rs.z33 (h : Rs A n σ) {i : Nat} (hi : i < n) : oZ σ (A 33 i 0) = 100 := h.ln (Rs.d33 hi)
theorem Rs.d34 {i : Nat} (hi : i < n) : dm n 34 i 0 := by simp [dm, hi]
theorem Rs.k34 (h : Rs A n σ) {i : Nat} (hi : i < n) : oK σ (A 34 i 0) = 13 := h.kd (Rs.d34 hi)
theorem Rs.z34 (h : Rs A n σ) {i : Nat} (hi : i < n) : oZ σ (A 34 i 0) = 9 := h.ln (Rs.d34 hi)
theorem Rs.d35 {i : Nat} (hi : i < n) : dm n 35 i 0 := by simp [dm, hi]
theorem Rs.k35 (h : Rs A n σ) {i : Nat} (hi : i < n) : oK σ (A 35 i 0) = 13 := h.kd (Rs.d35 hi)
theorem Rs.z35 (h : Rs A n σ) {i : Nat} (hi : i < n) : oZ σ (A 35 i 0) = 9 := h.ln (Rs.d35 hi)
theorem Rs.d36 {i : Nat} (hi : i < n) : dm n 36 i 0 := by simp [dm, hi]
theorem Rs.k36 (h : Rs A n σ) {i : Nat} (hi : i < n) : oK σ (A 36 i 0) = 19 := h.kd (Rs.d36 hi)
theorem Rs.z36 (h : Rs A n σ) {i : Nat} (hi : i < n) : oZ σ (A 36 i 0) = n := h.ln (Rs.d36 hi)
theorem Rs.d37 {i : Nat} (hi : i < n) : dm n 37 i 0 := by simp [dm, hi]
theorem Rs.k37 (h : Rs A n σ) {i : Nat} (hi : i < n) : oK σ (A 37 i 0) = 13 := h.kd (Rs.d37 hi)
theorem Rs.z37 (h : Rs A n σ) {i : Nat} (hi : i < n) : oZ σ (A 37 i 0) = n := h.ln (Rs.d37 hi)
theorem Rs.d38 {i : Nat} (hi : i < n) : dm n 38 i 0 := by simp [dm, hi]
theorem Rs.k38 (h : Rs A n σ) {i : Nat} (hi : i < n) : oK σ (A 38 i 0) = 16 := h.kd (Rs.d38 hi)
theorem Rs.z38 (h : Rs A n σ) {i : Nat} (hi : i < n) : oZ σ (A 38 i 0) = n := h.ln (Rs.d38 hi)
theorem Rs.d39 {i j : Nat} (hi : i < n) (hj : j < n) : dm n 39 i j := by simp [dm, hi, hj]
theorem Rs.k39 (h : Rs A n σ) {i j : Nat} (hi : i < n) (hj : j < n) : oK σ (A 39 i j) = 4 := h.kd (Rs.d39 hi hj)
theorem Rs.d40 {i j : Nat} (hi : i < n) (hj : j < n) : dm n 40 i j := by simp [dm, hi, hj]
theorem Rs.k40 (h : Rs A n σ) {i j : Nat} (hi : i < n) (hj : j < n) : oK σ (A 40 i j) = 13 := h.kd (Rs.d40 hi hj)
theorem Rs.z40 (h : Rs A n σ) {i j : Nat} (hi : i < n) (hj : j < n) : oZ σ (A 40 i j) = 100 := h.ln (Rs.d40 hi hj)
theorem Rs.d41 {i j : Nat} (hi : i < 4) (hj : j < 4) : dm n 41 i j := by simp [dm, hi, hj]
theorem Rs.k41 (h : Rs A n σ) {i j : Nat} (hi : i < 4) (hj : j < 4) : oK σ (A 41 i j) = (if j = 0 then 19 else 13) := h.kd (Rs.d41 hi hj)
theorem Rs.z41 (h : Rs A n σ) {i j : Nat} (hi : i < 4) (hj : j < 4) : oZ σ (A 41 i j) = 64 := h.ln (Rs.d41 hi hj)
theorem Rs.r11_1 (h : Rs A n σ) : oR σ (A 11 0 0) 1 = some (A 7 0 0) := h.2.2.1 11 0 0 1 7 0 0 (Rs.d11) rfl
theorem Rs.r11_2 (h : Rs A n σ) : oR σ (A 11 0 0) 2 = some (A 10 0 0) := h.2.2.1 11 0 0 2 10 0 0 (Rs.d11) rfl
theorem Rs.r11_3 (h : Rs A n σ) : oR σ (A 11 0 0) 3 = some (A 1 0 0) := h.2.2.1 11 0 0 3 1 0 0 (Rs.d11) rfl
theorem Rs.r11_4 (h : Rs A n σ) : oR σ (A 11 0 0) 4 = some (A 24 0 0) := h.2.2.1 11 0 0 4 24 0 0 (Rs.d11) rfl
theorem Rs.r11_5 (h : Rs A n σ) : oR σ (A 11 0 0) 5 = some (A 25 0 0) := h.2.2.1 11 0 0 5 25 0 0 (Rs.d11) rfl
theorem Rs.r11_6 (h : Rs A n σ) : oR σ (A 11 0 0) 6 = some (A 0 0 0) := h.2.2.1 11 0 0 6 0 0 0 (Rs.d11) rfl
theorem Rs.r7_0 (h : Rs A n σ) : oR σ (A 7 0 0) 0 = some (A 20 0 0) := h.2.2.1 7 0 0 0 20 0 0 (Rs.d7) rfl
theorem Rs.r7_1 (h : Rs A n σ) : oR σ (A 7 0 0) 1 = some (A 20 1 0) := h.2.2.1 7 0 0 1 20 1 0 (Rs.d7) rfl
theorem Rs.r7_2 (h : Rs A n σ) : oR σ (A 7 0 0) 2 = some (A 20 2 0) := h.2.2.1 7 0 0 2 20 2 0 (Rs.d7) rfl
theorem Rs.r7_3 (h : Rs A n σ) : oR σ (A 7 0 0) 3 = some (A 20 3 0) := h.2.2.1 7 0 0 3 20 3 0 (Rs.d7) rfl
theorem Rs.r7_4 (h : Rs A n σ) : oR σ (A 7 0 0) 4 = some (A 20 4 0) := h.2.2.1 7 0 0 4 20 4 0 (Rs.d7) rfl
theorem Rs.r10_0 (h : Rs A n σ) : oR σ (A 10 0 0) 0 = some (A 21 0 0) := h.2.2.1 10 0 0 0 21 0 0 (Rs.d10) rfl
theorem Rs.r10_1 (h : Rs A n σ) : oR σ (A 10 0 0) 1 = some (A 7 0 0) := h.2.2.1 10 0 0 1 7 0 0 (Rs.d10) rfl
theorem Rs.r10_2 (h : Rs A n σ) : oR σ (A 10 0 0) 2 = some (A 21 1 0) := h.2.2.1 10 0 0 2 21 1 0 (Rs.d10) rfl
theorem Rs.r10_3 (h : Rs A n σ) : oR σ (A 10 0 0) 3 = some (A 21 2 0) := h.2.2.1 10 0 0 3 21 2 0 (Rs.d10) rfl
theorem Rs.r10_4 (h : Rs A n σ) : oR σ (A 10 0 0) 4 = some (A 21 3 0) := h.2.2.1 10 0 0 4 21 3 0 (Rs.d10) rfl
theorem Rs.r1_0 (h : Rs A n σ) : oR σ (A 1 0 0) 0 = some (A 22 0 0) := h.2.2.1 1 0 0 0 22 0 0 (Rs.d1) rfl
theorem Rs.r1_5 (h : Rs A n σ) : oR σ (A 1 0 0) 5 = some (A 5 201 0) := h.2.2.1 1 0 0 5 5 201 0 (Rs.d1) rfl
theorem Rs.r0_1 (h : Rs A n σ) : oR σ (A 0 0 0) 1 = some (A 23 0 0) := h.2.2.1 0 0 0 1 23 0 0 (Rs.d0) rfl
theorem Rs.r0_2 (h : Rs A n σ) : oR σ (A 0 0 0) 2 = some (A 23 1 0) := h.2.2.1 0 0 0 2 23 1 0 (Rs.d0) rfl
theorem Rs.r0_3 (h : Rs A n σ) : oR σ (A 0 0 0) 3 = some (A 23 2 0) := h.2.2.1 0 0 0 3 23 2 0 (Rs.d0) rfl
theorem Rs.r0_4 (h : Rs A n σ) : oR σ (A 0 0 0) 4 = some (A 23 3 0) := h.2.2.1 0 0 0 4 23 3 0 (Rs.d0) rfl
theorem Rs.r0_5 (h : Rs A n σ) : oR σ (A 0 0 0) 5 = some (A 23 4 0) := h.2.2.1 0 0 0 5 23 4 0 (Rs.d0) rfl
theorem Rs.r5_11 (h : Rs A n σ) {i : Nat} (hi : i < 202) : oR σ (A 5 i 0) 11 = some (A 30 i 0) := h.2.2.1 5 i 0 11 30 i 0 (Rs.d5 hi) rfl
theorem Rs.r30_0 (h : Rs A n σ) {i : Nat} (hi : i < 202) : oR σ (A 30 i 0) 0 = some (A 31 i 0) := h.2.2.1 30 i 0 0 31 i 0 (Rs.d30 hi) rfl
theorem Rs.r32_0 (h : Rs A n σ) {i : Nat} (hi : i < n) : oR σ (A 32 i 0) 0 = some (A 33 i 0) := h.2.2.1 32 i 0 0 33 i 0 (Rs.d32 hi) rfl
theorem Rs.r39_0 (h : Rs A n σ) {i j : Nat} (hi : i < n) (hj : j < n) : oR σ (A 39 i j) 0 = some (A 40 i j) := h.2.2.1 39 i j 0 40 i j (Rs.d39 hi hj) rfl
theorem Rs.r6_0 (h : Rs A n σ) {i : Nat} (hi : i < n) : oR σ (A 6 i 0) 0 = some (A 32 i 0) := h.2.2.1 6 i 0 0 32 i 0 (Rs.d6 hi) rfl
theorem Rs.r6_1 (h : Rs A n σ) {i : Nat} (hi : i < n) : oR σ (A 6 i 0) 1 = some (A 3 i 0) := h.2.2.1 6 i 0 1 3 i 0 (Rs.d6 hi) rfl
theorem Rs.r6_11 (h : Rs A n σ) {i : Nat} (hi : i < n) : oR σ (A 6 i 0) 11 = some (A 7 0 0) := h.2.2.1 6 i 0 11 7 0 0 (Rs.d6 hi) rfl
theorem Rs.r6_12 (h : Rs A n σ) {i : Nat} (hi : i < n) : oR σ (A 6 i 0) 12 = some (A 10 0 0) := h.2.2.1 6 i 0 12 10 0 0 (Rs.d6 hi) rfl
theorem Rs.r6_13 (h : Rs A n σ) {i : Nat} (hi : i < n) : oR σ (A 6 i 0) 13 = some (A 1 0 0) := h.2.2.1 6 i 0 13 1 0 0 (Rs.d6 hi) rfl
theorem Rs.r6_14 (h : Rs A n σ) {i : Nat} (hi : i < n) : oR σ (A 6 i 0) 14 = some (A 8 i 0) := h.2.2.1 6 i 0 14 8 i 0 (Rs.d6 hi) rfl
theorem Rs.r3_0 (h : Rs A n σ) {i : Nat} (hi : i < n) : oR σ (A 3 i 0) 0 = some (A 34 i 0) := h.2.2.1 3 i 0 0 34 i 0 (Rs.d3 hi) rfl
theorem Rs.r3_1 (h : Rs A n σ) {i : Nat} (hi : i < n) : oR σ (A 3 i 0) 1 = some (A 35 i 0) := h.2.2.1 3 i 0 1 35 i 0 (Rs.d3 hi) rfl
theorem Rs.r8_4 (h : Rs A n σ) {i : Nat} (hi : i < n) : oR σ (A 8 i 0) 4 = some (A 36 i 0) := h.2.2.1 8 i 0 4 36 i 0 (Rs.d8 hi) rfl
theorem Rs.r8_5 (h : Rs A n σ) {i : Nat} (hi : i < n) : oR σ (A 8 i 0) 5 = some (A 37 i 0) := h.2.2.1 8 i 0 5 37 i 0 (Rs.d8 hi) rfl
theorem Rs.r8_6 (h : Rs A n σ) {i : Nat} (hi : i < n) : oR σ (A 8 i 0) 6 = some (A 38 i 0) := h.2.2.1 8 i 0 6 38 i 0 (Rs.d8 hi) rfl
theorem Rs.r2_7 (h : Rs A n σ) {i : Nat} (hi : i < 4) : oR σ (A 2 i 0) 7 = some (A 41 i 0) := h.2.2.1 2 i 0 7 41 i 0 (Rs.d2 hi) rfl
theorem Rs.r2_8 (h : Rs A n σ) {i : Nat} (hi : i < 4) : oR σ (A 2 i 0) 8 = some (A 41 i 1) := h.2.2.1 2 i 0 8 41 i 1 (Rs.d2 hi) rfl
theorem Rs.r2_9 (h : Rs A n σ) {i : Nat} (hi : i < 4) : oR σ (A 2 i 0) 9 = some (A 41 i 2) := h.2.2.1 2 i 0 9 41 i 2 (Rs.d2 hi) rfl
theorem Rs.r2_10 (h : Rs A n σ) {i : Nat} (hi : i < 4) : oR σ (A 2 i 0) 10 = some (A 41 i 3) := h.2.2.1 2 i 0 10 41 i 3 (Rs.d2 hi) rfl
theorem Rs.r24 (h : Rs A n σ) {k : Nat} (hk : k < n) : oR σ (A 24 0 0) k = some (A 6 k 0) := h.2.2.1 24 0 0 k 6 k 0 (Rs.d24) (by simp [srF, hk])
theorem Rs.r25 (h : Rs A n σ) {k : Nat} (hk : k < 4) : oR σ (A 25 0 0) k = some (A 2 k 0) := h.2.2.1 25 0 0 k 2 k 0 (Rs.d25) (by simp [srF, hk])
theorem Rs.r38 (h : Rs A n σ) {i k : Nat} (hi : i < n) (hk : k < n) : oR σ (A 38 i 0) k = some (A 39 i k) := h.2.2.1 38 i 0 k 39 i k (Rs.d38 hi) (by simp [srF, hk])
theorem Rs.i11_0 (h : Rs A n σ) : oI σ (A 11 0 0) 0 = nI n := h.2.2.2.1 11 0 0 0 (nI n) (Rs.d11) rfl
theorem Rs.i6_9 (h : Rs A n σ) {i : Nat} (hi : i < n) : oI σ (A 6 i 0) 9 = nI i := h.2.2.2.1 6 i 0 9 (nI i) (Rs.d6 hi) rfl
theorem Rs.i6_10 (h : Rs A n σ) {i : Nat} (hi : i < n) : oI σ (A 6 i 0) 10 = nI n := h.2.2.2.1 6 i 0 10 (nI n) (Rs.d6 hi) rfl
theorem Rs.i2_6 (h : Rs A n σ) {i : Nat} (hi : i < 4) : oI σ (A 2 i 0) 6 = nI n := h.2.2.2.1 2 i 0 6 (nI n) (Rs.d2 hi) rfl
/-- writes that keep what is static -/
theorem Rs.sI (h : Rs A n σ) {s i j k : Nat} {x : Int32} (hs : siF n s i k = none) : Rs A n (sI σ (A s i j) k x) := by
  obtain ⟨h1, h2, h3, h4, h5, h6⟩ := h
  refine ⟨h1, h2, h3, fun s' i' j' k' x' hd hx => ?_, h5, h6⟩
  rw [oI_sI]
  unfold up2
  by_cases e : A s' i' j' = A s i j ∧ k' = k
  · obtain ⟨e1, rfl⟩ := e
    obtain ⟨rfl, rfl, rfl⟩ := (h1 _ _ _ _ _ _).mp e1
    rw [hs] at hx; cases hx
  · rw [if_neg e]; exact h4 s' i' j' k' x' hd hx
theorem Rs.sR (h : Rs A n σ) {s i j k v : Nat} (hs : srF n s i j k = none) : Rs A n (sR σ (A s i j) k v) := by
  obtain ⟨h1, h2, h3, h4, h5, h6⟩ := h
  refine ⟨h1, h2, fun s' i' j' k' s2 i2 j2 hd hx => ?_, h4, h5, h6⟩
  rw [oR_sR]
  unfold up2
  by_cases e : A s' i' j' = A s i j ∧ k' = k
  · obtain ⟨e1, rfl⟩ := e
    obtain ⟨rfl, rfl, rfl⟩ := (h1 _ _ _ _ _ _).mp e1
    rw [hs] at hx; cases hx
  · rw [if_neg e]; exact h3 s' i' j' k' s2 i2 j2 hd hx
theorem Rs.sC (h : Rs A n σ) {s i j a0 sp dp m : Nat} (hs : ∀ k, siF n s i k = none) : Rs A n (sC σ a0 (A s i j) sp dp m) := by
  obtain ⟨h1, h2, h3, h4, h5, h6⟩ := h
  refine ⟨h1, h2, h3, fun s' i' j' k' x' hd hx => ?_, h5, h6⟩
  rw [oI_sC]
  by_cases e1 : A s' i' j' = A s i j
  · obtain ⟨rfl, rfl, rfl⟩ := (h1 _ _ _ _ _ _).mp e1
    rw [hs] at hx; cases hx
  · rw [va_up_ne _ _ e1]; exact h4 s' i' j' k' x' hd hx
theorem ite20 {p : Prop} [Decidable p] {a b : Nat} (ha : a < 20) (hb : b < 20) : (if p then a else b) < 20 := by
  by_cases h : p
  · rw [if_pos h]; exact ha
  · rw [if_neg h]; exact hb
theorem kdF_ne (s i j : Nat) : kdF s i j ≠ 99 := by
  have h : kdF s i j < 20 := by
    unfold kdF
    repeat' apply ite20
    all_goals decide
  omega
/-- σ' holds all that σ holds, and more -/
def Ext (σ σ' : Hp) : Prop := (∀ a, oK σ a ≠ 99 → oK σ' a = oK σ a ∧ oZ σ' a = oZ σ a ∧ oI σ' a = oI σ a ∧ oR σ' a = oR σ a) ∧ (∀ a, oN σ' ≤ a → oK σ' a = 99)
theorem Rs.ext {σ' : Hp} (h : Rs A n σ) (he : Ext σ σ') : Rs A n σ' := by
  obtain ⟨h1, h2, h3, h4, h5, h6⟩ := h
  have hk : ∀ s i j, dm n s i j → oK σ (A s i j) ≠ 99 := fun s i j hd => by
    rw [(h2 s i j hd).1]
    exact kdF_ne s i j
  refine ⟨h1, fun s i j hd => ?_, fun s i j k s' i' j' hd hx => ?_, fun s i j k x hd hx => ?_, he.2, h6⟩
  · obtain ⟨e1, e2, -, -⟩ := he.1 _ (hk s i j hd)
    rw [e1, e2]; exact h2 s i j hd
  · obtain ⟨-, -, -, e4⟩ := he.1 _ (hk s i j hd)
    rw [e4]; exact h3 s i j k s' i' j' hd hx
  · obtain ⟨-, -, e3, -⟩ := he.1 _ (hk s i j hd)
    rw [e3]; exact h4 s i j k x hd hx
theorem IsV.sI {v a k : Nat} {L S x : Int32} (h : IsV σ v L S) (ha : oK σ a ≠ 9) : IsV (sI σ a k x) v L S := by
  obtain ⟨h1, h2, h3⟩ := h
  have hne : ¬ v = a := fun e => ha (by rw [← e]; exact h1)
  exact ⟨h1, by rw [oI_sI]; simp [up2, hne, h2], by rw [oI_sI]; simp [up2, hne, h3]⟩
theorem IsV.sR {v a k w : Nat} {L S : Int32} (h : IsV σ v L S) : IsV (sR σ a k w) v L S := h
theorem IsV.sC {v a0 a sp dp m : Nat} {L S : Int32} (h : IsV σ v L S) (ha : oK σ a ≠ 9) : IsV (sC σ a0 a sp dp m) v L S := by
  obtain ⟨h1, h2, h3⟩ := h
  have hne : v ≠ a := fun e => ha (by rw [← e]; exact h1)
  exact ⟨h1, by rw [oI_sC, va_up_ne _ _ hne]; exact h2, by rw [oI_sC, va_up_ne _ _ hne]; exact h3⟩
theorem IsV.ext {σ' : Hp} {v : Nat} {L S : Int32} (h : IsV σ v L S) (he : Ext σ σ') : IsV σ' v L S := by
  obtain ⟨h1, h2, h3⟩ := h
  obtain ⟨e1, -, e3, -⟩ := he.1 v (by rw [h1]; decide)
  exact ⟨e1.trans h1, by rw [e3]; exact h2, by rw [e3]; exact h3⟩
/-- a new View -/
def mkV (σ : Hp) (L S : Int32) : Hp := sI (sI (nw σ 9 0) (oN σ) 0 L) (oN σ) 1 S
theorem Ext.ofV (h : Rs A n σ) (L S : Int32) : Ext σ (mkV σ L S) := by
  have h5 := h.2.2.2.2.1
  refine ⟨fun a ha => ?_, fun a ha => ?_⟩
  · have hne : a ≠ oN σ := fun e => ha (by rw [e]; exact h5 _ (Nat.le_refl _))
    refine ⟨va_up_ne _ _ hne, va_up_ne _ _ hne, ?_, va_up_ne _ _ hne⟩
    funext k
    unfold mkV
    rw [oI_sI, oI_sI, oI_nw]
    simp [up2, hne, va_up]
  · have ha' : oN σ + 1 ≤ a := ha
    have hne : a ≠ oN σ := by omega
    exact (va_up_ne _ _ hne).trans (h5 a (by omega))
theorem isV_mkV (L S : Int32) : IsV (mkV σ L S) (oN σ) L S := by
  refine ⟨va_up_self _ _ _, ?_, ?_⟩
  · unfold mkV; rw [oI_sI, oI_sI]; simp [up2]
  · unfold mkV; rw [oI_sI]; simp [up2]
theorem Ext.sn (h : Rs A n σ) {m : Nat} (hm : oN σ ≤ m) : Ext σ (oSN σ m) := ⟨fun a _ => ⟨rfl, rfl, rfl, rfl⟩, fun a ha => h.2.2.2.2.1 a (Nat.le_trans hm ha)⟩
end RS
