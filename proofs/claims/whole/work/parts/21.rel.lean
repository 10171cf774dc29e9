/-! the relation of the class's state and the reference's -/
def Sm (b : Nat) (x : Int32) : Prop := ∃ k, k ≤ b ∧ x = nI k
def Rid (q : Nat) (x : Int32) : Prop := ∃ k, 1 ≤ k ∧ k ≤ q ∧ x = nI k
def B7 (x : Int32) : Prop := ∃ k, k < 128 ∧ x = nI k
/-- a stretch of w of the reference's rows j, the o-th -/
def rwM (w : Nat) (μ : Mu) (j o : Nat) : Nat → Int32 := fun k => if k < w then μ.2 j (w * o + k) else 0
abbrev Vw : Type := Nat → Option (Int32 × Int32)
def VwR (vw : Vw) (r : Option Nat) (L S : Int32) : Prop := ∃ v, r = some v ∧ vw v = some (L, S)
def logR (q : Nat) (aL aE : Nat → Int32) (len : Int32) (f : Nat → Int32) : Prop := ∃ l, l ≤ 100 ∧ len = nI l ∧ aL 1 = nI l ∧ ∀ k, k < l → aE k = f k ∧ Sm q (f k)
def heldR (q hb : Nat) (a3 a34 a35 : Nat → Int32) (base cnt : Int32) (f g : Nat → Int32) : Prop := ∃ h, h ≤ hb ∧ cnt = nI h ∧ a3 2 = nI h ∧ (∀ k, k < h → a34 k = base + f k ∧ a35 k = g k ∧ Rid q (g k)) ∧ ∀ k k', k < h → k' < h → f k = f k' → k = k'
def tallyR (n T q : Nat) (vw : Vw) (r : Nat) (a8 : Nat → Int32) (r36 : Nat → Option Nat) (a37 : Nat → Int32) (aL aE : Nat → Nat → Int32) (gap syn at' tur : Int32) (f50 f51 f52 f53 : Nat → Int32) (g54 : Nat → Nat → Int32) : Prop :=
  a8 0 = gap ∧ B7 gap ∧ a8 1 = syn ∧ B7 syn ∧ a8 2 = at' ∧ a8 3 = tur ∧ ∃ b, b < 128 ∧ tur = nI b ∧ b.testBit r = false ∧ ∀ o, o < n → b.testBit o = true → VwR vw (r36 o) (f50 o) (f51 o) ∧ Sm T (f50 o) ∧ a37 o = f52 o ∧ logR q (aL o) (aE o) (f53 o) (g54 o)
def Rr (A : Ad) (n T q hb : Nat) (vw : Vw) (σ : Hp) (μ : Mu) (r : Nat) : Prop :=
  (oI σ (A 6 r 0) 2 = μ.2 32 r ∧ (μ.2 32 r = 0 ∨ μ.2 32 r = 1)) ∧ (oI σ (A 6 r 0) 3 = μ.2 35 r ∧ Sm 2 (μ.2 35 r)) ∧
  (VwR vw (oR σ (A 6 r 0) 4) (μ.2 33 r) (μ.2 34 r) ∧ Sm T (μ.2 33 r)) ∧ (VwR vw (oR σ (A 6 r 0) 5) (μ.2 36 r) (μ.2 37 r) ∧ Sm T (μ.2 36 r)) ∧
  (oI σ (A 6 r 0) 6 = μ.2 39 r ∧ oI σ (A 6 r 0) 7 = μ.2 40 r ∧ oI σ (A 6 r 0) 8 = μ.2 41 r) ∧
  logR q (oI σ (A 32 r 0)) (oI σ (A 33 r 0)) (μ.2 38 r) (rwM 100 μ 42 r) ∧
  heldR q hb (oI σ (A 3 r 0)) (oI σ (A 34 r 0)) (oI σ (A 35 r 0)) (μ.2 39 r) (μ.2 43 r) (rwM 12 μ 44 r) (rwM 12 μ 45 r) ∧
  tallyR n T q vw r (oI σ (A 8 r 0)) (oR σ (A 36 r 0)) (oI σ (A 37 r 0)) (fun o => oI σ (A 39 r o)) (fun o => oI σ (A 40 r o)) (μ.2 46 r) (μ.2 47 r) (μ.2 48 r) (μ.2 49 r) (rwM 7 μ 50 r) (rwM 7 μ 51 r) (rwM 7 μ 52 r) (rwM 7 μ 53 r) (fun o => rwM 100 μ 54 (7 * r + o))
def placesR (n T : Nat) (vw : Vw) (a2 : Nat → Int32) (rV : Nat → Option Nat) (aS aB aN : Nat → Int32) (tolds : Int32) (fL fS fT fB fA : Nat → Int32) : Prop :=
  ∃ t nx, t ≤ 64 ∧ nx < 64 ∧ tolds = nI t ∧ a2 11 = nI t ∧ a2 12 = nI nx ∧ (t < 64 → nx = t) ∧
    (∀ p, p < t → VwR vw (rV ((nx + 64 - t + p) % 64)) (fL p) (fS p) ∧ aS ((nx + 64 - t + p) % 64) = fT p ∧ aB ((nx + 64 - t + p) % 64) = fB p ∧ ∃ l b, l ≤ T ∧ fL p = nI l ∧ b < 128 ∧ fB p = nI b ∧ (b.testBit (l % n) = true → aN ((nx + 64 - t + p) % 64) = fA p)) ∧
    ∀ p p', p < t → p' < t → fL p = fL p' → fS p = fS p' → fT p = fT p' → p = p'
def Rc (A : Ad) (n T q : Nat) (vw : Vw) (σ : Hp) (μ : Mu) (c : Nat) : Prop :=
  (oI σ (A 2 c 0) 0 = μ.2 57 c ∧ Sm q (μ.2 57 c)) ∧ (oI σ (A 2 c 0) 1 = μ.2 58 c ∧ Sm q (μ.2 58 c)) ∧ (oI σ (A 2 c 0) 2 = μ.2 59 c ∧ Sm 2 (μ.2 59 c)) ∧ (¬ μ.2 59 c = 0 → Rid q (μ.2 58 c)) ∧
  (μ.2 59 c = 2 → VwR vw (oR σ (A 2 c 0) 3) (μ.2 61 c) (μ.2 62 c)) ∧ (oI σ (A 2 c 0) 4 = μ.2 60 c ∧ oI σ (A 2 c 0) 5 = μ.2 63 c) ∧
  placesR n T vw (oI σ (A 2 c 0)) (oR σ (A 41 c 0)) (oI σ (A 41 c 1)) (oI σ (A 41 c 2)) (oI σ (A 41 c 3)) (μ.2 64 c) (rwM 64 μ 65 c) (rwM 64 μ 66 c) (rwM 64 μ 67 c) (rwM 64 μ 68 c) (rwM 64 μ 69 c)
def opn (μ : Mu) (c : Nat) : Nat := if μ.2 59 c = 1 then 1 else 0
def Rf (A : Ad) (q : Nat) (vw : Vw) (σ : Hp) (μ : Mu) : Prop :=
  ∃ f, μ.1 70 = nI f ∧ oI σ (A 0 0 0) 0 = nI f ∧ oI σ (A 0 0 0) 6 = nI f ∧ oI σ (A 0 0 0) 7 = nI f ∧ f + (opn μ 0 + opn μ 1 + opn μ 2 + opn μ 3) = q ∧
    ∀ k, k < f → oI σ (A 23 0 0) k = μ.2 71 k ∧ Rid q (μ.2 71 k) ∧ VwR vw (oR σ (A 23 1 0) k) (μ.2 72 k) (μ.2 73 k) ∧ oI σ (A 23 2 0) k = μ.2 74 k ∧ Rid 100 (μ.2 74 k) ∧ oI σ (A 23 3 0) k = μ.2 75 k
def Rm (A : Ad) (n T q : Nat) (vw : Vw) (σ : Hp) (μ : Mu) (i m : Nat) : Prop :=
  (oI σ (A 5 i 0) 0 = μ.2 17 m ∧ oI σ (A 5 i 0) 1 = μ.2 18 m ∧ oI σ (A 5 i 0) 2 = μ.2 19 m ∧ oI σ (A 5 i 0) 3 = μ.2 20 m) ∧
  ∃ kk to, kk < 12 ∧ μ.2 18 m = nI kk ∧ μ.2 20 m = nI to ∧ (kk = 11 → to < 4) ∧ (kk ≠ 11 → to < n) ∧
    (kk = 0 → oI σ (A 5 i 0) 5 = μ.2 22 m) ∧
    (kk ≠ 0 → VwR vw (oR σ (A 5 i 0) 4) (μ.2 21 m) (μ.2 22 m) ∧ ∃ l fr, l ≤ T ∧ μ.2 21 m = nI l ∧ fr < n ∧ μ.2 19 m = nI fr ∧ (kk = 9 → fr ≠ to) ∧ (kk = 11 → (l % n = fr → μ.2 30 m = 1 ∧ oI σ (A 5 i 0) 8 = μ.2 25 m) ∧ (l % n ≠ fr → μ.2 30 m = 0))) ∧
    (kk ≤ 7 ∨ kk = 11 → oI σ (A 5 i 0) 6 = μ.2 23 m) ∧ (kk = 0 ∨ kk = 2 ∨ kk = 11 → oI σ (A 5 i 0) 7 = μ.2 24 m ∧ Rid q (μ.2 24 m)) ∧
    (kk = 2 ∨ kk = 3 ∨ kk = 11 → Rid 100 (μ.2 23 m)) ∧ (kk = 5 → μ.2 23 m = μ.2 29 m) ∧
    (kk = 5 ∨ kk = 9 ∨ kk = 10 → logR q (oI σ (A 30 i 0)) (oI σ (A 31 i 0)) (μ.2 29 m) (rwM 100 μ 31 m)) ∧ (kk ≠ 5 → kk ≠ 9 → kk ≠ 10 → μ.2 29 m = 0) ∧
    (kk = 9 ∨ kk = 10 → oI σ (A 5 i 0) 10 = μ.2 28 m) ∧ (kk = 9 → VwR vw (oR σ (A 5 i 0) 9) (μ.2 26 m) (μ.2 27 m) ∧ Sm T (μ.2 26 m))
/-- the air: p the class's message objects in their order (200: the one taken out last), u the reference's places; the last d messages are not told yet -/
def Ra (A : Ad) (n T q : Nat) (vw : Vw) (σ : Hp) (μ : Mu) (p u : Nat → Nat) (a d : Nat) : Prop :=
  a ≤ 200 ∧ oI σ (A 1 0 0) 1 = nI a ∧ μ.1 12 = nI a ∧ oI σ (A 1 0 0) 2 = μ.1 13 ∧ oI σ (A 1 0 0) 3 = μ.1 14 ∧
  (∀ k, k < 200 → oR σ (A 22 0 0) k = some (A 5 (p k) 0)) ∧ oR σ (A 1 0 0) 4 = some (A 5 (p 200) 0) ∧ (∀ k, k ≤ 200 → p k ≤ 200) ∧ (∀ k k', k ≤ 200 → k' ≤ 200 → p k = p k' → k = k') ∧
  (∀ k, k < a → μ.2 15 k = nI (u k)) ∧ (∀ k, a ≤ k → k < 200 → μ.2 16 (199 - k) = nI (u k)) ∧ (∀ k, k < 200 → u k < 200) ∧ (∀ k k', k < 200 → k' < 200 → u k = u k' → k = k') ∧
  ∀ k, k + d < a → Rm A n T q vw σ μ (p k) (u k)
def Rq (A : Ad) (q : Nat) (σ : Hp) (μ : Mu) : Prop :=
  oI σ (A 7 0 0) 5 = nI q ∧ μ.1 3 = nI q ∧ oI σ (A 20 1 0) 0 = 0 ∧
  (∀ id, 1 ≤ id → id ≤ q → (∀ j, j < 5 → oI σ (A 20 j 0) id = μ.2 (4 + j) id) ∧ ∃ c m k, c < 4 ∧ μ.2 4 id = nI c ∧ k < 8 ∧ μ.2 7 id = nI k ∧ 1 ≤ m ∧ m ≤ q ∧ μ.2 5 id = nI m ∧ ∃ md, m ≤ md ∧ md ≤ q ∧ μ.2 57 c = nI md) ∧
  ∀ id id', 1 ≤ id → id ≤ q → 1 ≤ id' → id' ≤ q → μ.2 4 id = μ.2 4 id' → μ.2 5 id = μ.2 5 id' → id = id'
def Rt (A : Ad) (n : Nat) (σ : Hp) (μ : Mu) : Prop :=
  oI σ (A 11 0 0) 7 = μ.1 9 ∧ (μ.1 9 = 0 ∨ μ.1 9 = 1) ∧ oI σ (A 11 0 0) 8 = μ.1 10 ∧ oI σ (A 11 0 0) 9 = μ.1 11 ∧ μ.1 1 = nI n ∧ μ.1 2 = nI (n / 2)
def Vok (vw : Vw) (σ : Hp) : Prop := ∀ v L S, vw v = some (L, S) → IsV σ v L S
/-- hb: how many a replica may hold -/
def RR (A : Ad) (n T q : Nat) (hb : Nat → Nat) (vw : Vw) (p u : Nat → Nat) (a d : Nat) (σ : Hp) (μ : Mu) : Prop :=
  Rs A n σ ∧ Vok vw σ ∧ Rt A n σ μ ∧ Rq A q σ μ ∧ Ra A n T q vw σ μ p u a d ∧ (∀ r, r < n → Rr A n T q (hb r) vw σ μ r) ∧ (∀ c, c < 4 → Rc A n T q vw σ μ c) ∧ Rf A q vw σ μ ∧ q ≤ 64 ∧ T ≤ 64
/-! agreement -/
def Ag (A : Ad) (σ σ' : Hp) (S : Nat → Nat → Prop) : Prop := ∀ s i j, S s i → oI σ' (A s i j) = oI σ (A s i j) ∧ oR σ' (A s i j) = oR σ (A s i j)
def AgM (μ μ' : Mu) (S : Nat → Nat → Prop) : Prop := ∀ j i, S j i → μ'.2 j i = μ.2 j i
theorem Ag.rf {A : Ad} {σ : Hp} {S : Nat → Nat → Prop} : Ag A σ σ S := fun _ _ _ _ => ⟨rfl, rfl⟩
theorem Ag.tr {A : Ad} {σ σ' σ'' : Hp} {S S' : Nat → Nat → Prop} (h : Ag A σ σ' S) (h' : Ag A σ' σ'' S') : Ag A σ σ'' (fun s i => S s i ∧ S' s i) := fun s i j hs => ⟨(h' s i j hs.2).1.trans (h s i j hs.1).1, (h' s i j hs.2).2.trans (h s i j hs.1).2⟩
theorem Ag.wk {A : Ad} {σ σ' : Hp} {S S' : Nat → Nat → Prop} (h : Ag A σ σ' S) (hs : ∀ s i, S' s i → S s i) : Ag A σ σ' S' := fun s i j h' => h s i j (hs s i h')
theorem Ag.sI {A : Ad} {σ : Hp} (h : Inj A) {s0 i0 j0 k : Nat} {x : Int32} : Ag A σ (sI σ (A s0 i0 j0) k x) (fun s i => ¬ (s = s0 ∧ i = i0)) := by
  intro s i j hs
  refine ⟨?_, rfl⟩
  funext k'
  rw [oI_sI]
  unfold up2
  rw [if_neg]
  rintro ⟨e, -⟩
  obtain ⟨e1, e2, -⟩ := (h _ _ _ _ _ _).mp e
  exact hs ⟨e1, e2⟩
theorem Ag.sR {A : Ad} {σ : Hp} (h : Inj A) {s0 i0 j0 k v : Nat} : Ag A σ (sR σ (A s0 i0 j0) k v) (fun s i => ¬ (s = s0 ∧ i = i0)) := by
  intro s i j hs
  refine ⟨rfl, ?_⟩
  funext k'
  rw [oR_sR]
  unfold up2
  rw [if_neg]
  rintro ⟨e, -⟩
  obtain ⟨e1, e2, -⟩ := (h _ _ _ _ _ _).mp e
  exact hs ⟨e1, e2⟩
theorem Ag.sC {A : Ad} {σ : Hp} (h : Inj A) {s0 i0 j0 b sp dp m : Nat} : Ag A σ (sC σ b (A s0 i0 j0) sp dp m) (fun s i => ¬ (s = s0 ∧ i = i0)) := by
  intro s i j hs
  refine ⟨?_, rfl⟩
  rw [oI_sC]
  refine va_up_ne _ _ fun e => ?_
  obtain ⟨e1, e2, -⟩ := (h _ _ _ _ _ _).mp e
  exact hs ⟨e1, e2⟩
theorem AgM.rf {μ : Mu} {S : Nat → Nat → Prop} : AgM μ μ S := fun _ _ _ => rfl
theorem AgM.tr {μ μ' μ'' : Mu} {S S' : Nat → Nat → Prop} (h : AgM μ μ' S) (h' : AgM μ' μ'' S') : AgM μ μ'' (fun s i => S s i ∧ S' s i) := fun s i hs => (h' s i hs.2).trans (h s i hs.1)
theorem AgM.wk {μ μ' : Mu} {S S' : Nat → Nat → Prop} (h : AgM μ μ' S) (hs : ∀ s i, S' s i → S s i) : AgM μ μ' S' := fun s i h' => h s i (hs s i h')
theorem AgM.mT {μ : Mu} {j0 i0 : Nat} {x : Int32} : AgM μ (mT μ j0 i0 x) (fun j i => ¬ (j = j0 ∧ i = i0)) := by
  intro j i hs
  show up2 _ _ _ _ _ _ = _
  unfold up2
  rw [if_neg hs]
theorem AgM.mS {μ : Mu} {k : Nat} {x : Int32} {S : Nat → Nat → Prop} : AgM μ (mS μ k x) S := fun _ _ _ => rfl
theorem rwM_ag {w j o : Nat} {μ μ' : Mu} (h : ∀ k, k < w → μ'.2 j (w * o + k) = μ.2 j (w * o + k)) : rwM w μ' j o = rwM w μ j o := by
  funext k
  unfold rwM
  by_cases hk : k < w
  · rw [if_pos hk, if_pos hk, h k hk]
  · rw [if_neg hk, if_neg hk]
theorem rwM_at {w j o k : Nat} {μ : Mu} (hk : k < w) : rwM w μ j o k = μ.2 j (w * o + k) := by unfold rwM; rw [if_pos hk]
theorem rwM_set {w j o k : Nat} {μ : Mu} {x : Int32} (hk : k < w) : rwM w (mT μ j (w * o + k) x) j o = va_up (rwM w μ j o) k x := by
  funext k'
  unfold rwM va_up mT up2
  by_cases h : k' < w
  · by_cases h2 : k' = k
    · subst h2; simp [h]
    · have : ¬ w * o + k' = w * o + k := by omega
      simp [h, h2, this]
  · have h2 : ¬ k' = k := by omega
    simp [h, h2]
/-! footprints -/
def fpR (r s i : Nat) : Prop := i = r ∧ (s = 6 ∨ s = 32 ∨ s = 33 ∨ s = 3 ∨ s = 34 ∨ s = 35 ∨ s = 8 ∨ s = 36 ∨ s = 37 ∨ s = 39 ∨ s = 40)
def fmR (r j i : Nat) : Prop := (32 ≤ j ∧ j ≤ 49 ∧ j ≠ 42 ∧ j ≠ 44 ∧ j ≠ 45 ∧ i = r) ∨ (j = 42 ∧ 100 * r ≤ i ∧ i < 100 * r + 100) ∨ ((j = 44 ∨ j = 45) ∧ 12 * r ≤ i ∧ i < 12 * r + 12) ∨ (50 ≤ j ∧ j ≤ 53 ∧ 7 * r ≤ i ∧ i < 7 * r + 7) ∨ (j = 54 ∧ 700 * r ≤ i ∧ i < 700 * r + 700)
def fpC (c s i : Nat) : Prop := i = c ∧ (s = 2 ∨ s = 41)
def fmC (c j i : Nat) : Prop := (57 ≤ j ∧ j ≤ 64 ∧ i = c) ∨ (65 ≤ j ∧ j ≤ 69 ∧ 64 * c ≤ i ∧ i < 64 * c + 64)
def fpM (x s i : Nat) : Prop := i = x ∧ (s = 5 ∨ s = 30 ∨ s = 31)
def fmM (m j i : Nat) : Prop := (17 ≤ j ∧ j ≤ 30 ∧ i = m) ∨ (j = 31 ∧ 100 * m ≤ i ∧ i < 100 * m + 100)
theorem Rr.cg {A : Ad} {n T q hb r : Nat} {vw : Vw} {σ σ' : Hp} {μ μ' : Mu} (hn : n ≤ 7) (h : Ag A σ σ' (fpR r)) (hm : AgM μ μ' (fmR r)) (hR : Rr A n T q hb vw σ μ r) : Rr A n T q hb vw σ' μ' r := by
  have hI : ∀ s j, (s = 6 ∨ s = 32 ∨ s = 33 ∨ s = 3 ∨ s = 34 ∨ s = 35 ∨ s = 8 ∨ s = 36 ∨ s = 37 ∨ s = 39 ∨ s = 40) → oI σ' (A s r j) = oI σ (A s r j) := fun s j hs => (h s r j ⟨rfl, hs⟩).1
  have hO : ∀ s j, (s = 6 ∨ s = 32 ∨ s = 33 ∨ s = 3 ∨ s = 34 ∨ s = 35 ∨ s = 8 ∨ s = 36 ∨ s = 37 ∨ s = 39 ∨ s = 40) → oR σ' (A s r j) = oR σ (A s r j) := fun s j hs => (h s r j ⟨rfl, hs⟩).2
  have hS : ∀ j, 32 ≤ j → j ≤ 49 → j ≠ 42 → j ≠ 44 → j ≠ 45 → μ'.2 j r = μ.2 j r := fun j h1 h2 h3 h4 h5 => hm j r (Or.inl ⟨h1, h2, h3, h4, h5, rfl⟩)
  have h42 : rwM 100 μ' 42 r = rwM 100 μ 42 r := rwM_ag fun k hk => hm _ _ (by unfold fmR; omega)
  have h44 : rwM 12 μ' 44 r = rwM 12 μ 44 r := rwM_ag fun k hk => hm _ _ (by unfold fmR; omega)
  have h45 : rwM 12 μ' 45 r = rwM 12 μ 45 r := rwM_ag fun k hk => hm _ _ (by unfold fmR; omega)
  have h50 : rwM 7 μ' 50 r = rwM 7 μ 50 r := rwM_ag fun k hk => hm _ _ (by unfold fmR; omega)
  have h51 : rwM 7 μ' 51 r = rwM 7 μ 51 r := rwM_ag fun k hk => hm _ _ (by unfold fmR; omega)
  have h52 : rwM 7 μ' 52 r = rwM 7 μ 52 r := rwM_ag fun k hk => hm _ _ (by unfold fmR; omega)
  have h53 : rwM 7 μ' 53 r = rwM 7 μ 53 r := rwM_ag fun k hk => hm _ _ (by unfold fmR; omega)
  have h54 : ∀ o, o < 7 → rwM 100 μ' 54 (7 * r + o) = rwM 100 μ 54 (7 * r + o) := fun o ho => rwM_ag fun k hk => hm _ _ (by unfold fmR; omega)
  unfold Rr at hR ⊢
  simp only [hI 6 0 (by decide), hI 32 0 (by decide), hI 33 0 (by decide), hI 3 0 (by decide), hI 34 0 (by decide), hI 35 0 (by decide), hI 8 0 (by decide), hI 37 0 (by decide), hO 6 0 (by decide), hO 36 0 (by decide), hI 39 _ (by decide), hI 40 _ (by decide), h42, h44, h45, h50, h51, h52, h53, hS 32 (by decide) (by decide) (by decide) (by decide) (by decide), hS 33 (by decide) (by decide) (by decide) (by decide) (by decide), hS 34 (by decide) (by decide) (by decide) (by decide) (by decide), hS 35 (by decide) (by decide) (by decide) (by decide) (by decide), hS 36 (by decide) (by decide) (by decide) (by decide) (by decide), hS 37 (by decide) (by decide) (by decide) (by decide) (by decide), hS 38 (by decide) (by decide) (by decide) (by decide) (by decide), hS 39 (by decide) (by decide) (by decide) (by decide) (by decide), hS 40 (by decide) (by decide) (by decide) (by decide) (by decide), hS 41 (by decide) (by decide) (by decide) (by decide) (by decide), hS 43 (by decide) (by decide) (by decide) (by decide) (by decide), hS 46 (by decide) (by decide) (by decide) (by decide) (by decide), hS 47 (by decide) (by decide) (by decide) (by decide) (by decide), hS 48 (by decide) (by decide) (by decide) (by decide) (by decide), hS 49 (by decide) (by decide) (by decide) (by decide) (by decide)]
  refine ⟨hR.1, hR.2.1, hR.2.2.1, hR.2.2.2.1, hR.2.2.2.2.1, hR.2.2.2.2.2.1, hR.2.2.2.2.2.2.1, ?_⟩
  obtain ⟨t1, t2, t3, t4, t5, t6, b, t7, t8, t9, t10⟩ := hR.2.2.2.2.2.2.2
  refine ⟨t1, t2, t3, t4, t5, t6, b, t7, t8, t9, fun o ho hb => ?_⟩
  show VwR vw _ _ _ ∧ Sm T _ ∧ _ ∧ logR q _ _ _ (rwM 100 μ' 54 (7 * r + o))
  rw [h54 o (by omega)]
  exact t10 o ho hb
theorem Rc.cg {A : Ad} {n T q c : Nat} {vw : Vw} {σ σ' : Hp} {μ μ' : Mu} (h : Ag A σ σ' (fpC c)) (hm : AgM μ μ' (fmC c)) (hR : Rc A n T q vw σ μ c) : Rc A n T q vw σ' μ' c := by
  have hI : ∀ s j, (s = 2 ∨ s = 41) → oI σ' (A s c j) = oI σ (A s c j) := fun s j hs => (h s c j ⟨rfl, hs⟩).1
  have hO : ∀ s j, (s = 2 ∨ s = 41) → oR σ' (A s c j) = oR σ (A s c j) := fun s j hs => (h s c j ⟨rfl, hs⟩).2
  have hS : ∀ j, 57 ≤ j → j ≤ 64 → μ'.2 j c = μ.2 j c := fun j h1 h2 => hm j c (Or.inl ⟨h1, h2, rfl⟩)
  have hW : ∀ j, 65 ≤ j → j ≤ 69 → rwM 64 μ' j c = rwM 64 μ j c := fun j h1 h2 => rwM_ag fun k hk => hm _ _ (by unfold fmC; omega)
  unfold Rc at hR ⊢
  simp only [hI 2 0 (by decide), hI 41 1 (by decide), hI 41 2 (by decide), hI 41 3 (by decide), hO 2 0 (by decide), hO 41 0 (by decide), hS 57 (by decide) (by decide), hS 58 (by decide) (by decide), hS 59 (by decide) (by decide), hS 60 (by decide) (by decide), hS 61 (by decide) (by decide), hS 62 (by decide) (by decide), hS 63 (by decide) (by decide), hS 64 (by decide) (by decide), hW 65 (by decide) (by decide), hW 66 (by decide) (by decide), hW 67 (by decide) (by decide), hW 68 (by decide) (by decide), hW 69 (by decide) (by decide)]
  exact hR
theorem Rm.cg {A : Ad} {n T q i m : Nat} {vw : Vw} {σ σ' : Hp} {μ μ' : Mu} (h : Ag A σ σ' (fpM i)) (hm : AgM μ μ' (fmM m)) (hR : Rm A n T q vw σ μ i m) : Rm A n T q vw σ' μ' i m := by
  have hI : ∀ s j, (s = 5 ∨ s = 30 ∨ s = 31) → oI σ' (A s i j) = oI σ (A s i j) := fun s j hs => (h s i j ⟨rfl, hs⟩).1
  have hO : ∀ s j, (s = 5 ∨ s = 30 ∨ s = 31) → oR σ' (A s i j) = oR σ (A s i j) := fun s j hs => (h s i j ⟨rfl, hs⟩).2
  have hS : ∀ j, 17 ≤ j → j ≤ 30 → μ'.2 j m = μ.2 j m := fun j h1 h2 => hm j m (Or.inl ⟨h1, h2, rfl⟩)
  have hW : rwM 100 μ' 31 m = rwM 100 μ 31 m := rwM_ag fun k hk => hm _ _ (by unfold fmM; omega)
  unfold Rm at hR ⊢
  simp only [hI 5 0 (by decide), hI 30 0 (by decide), hI 31 0 (by decide), hO 5 0 (by decide), hS 17 (by decide) (by decide), hS 18 (by decide) (by decide), hS 19 (by decide) (by decide), hS 20 (by decide) (by decide), hS 21 (by decide) (by decide), hS 22 (by decide) (by decide), hS 23 (by decide) (by decide), hS 24 (by decide) (by decide), hS 25 (by decide) (by decide), hS 26 (by decide) (by decide), hS 27 (by decide) (by decide), hS 28 (by decide) (by decide), hS 29 (by decide) (by decide), hS 30 (by decide) (by decide), hW]
  exact hR
theorem Ra.cg {A : Ad} {n T q a d : Nat} {p u : Nat → Nat} {vw : Vw} {σ σ' : Hp} {μ μ' : Mu} (h : Ag A σ σ' (fun s i => s = 1 ∨ s = 22 ∨ s = 5 ∨ s = 30 ∨ s = 31)) (hm : AgM μ μ' (fun j i => 15 ≤ j ∧ j ≤ 31)) (hs : μ'.1 12 = μ.1 12 ∧ μ'.1 13 = μ.1 13 ∧ μ'.1 14 = μ.1 14) (hR : Ra A n T q vw σ μ p u a d) : Ra A n T q vw σ' μ' p u a d := by
  obtain ⟨h1, h2, h3, h4, h5, h6, h7, h8, h9, h10, h11, h12, h13, h14⟩ := hR
  have e1 := h 1 0 0 (by decide)
  have e22 := h 22 0 0 (by decide)
  refine ⟨h1, by rw [e1.1]; exact h2, by rw [hs.1]; exact h3, by rw [e1.1, hs.2.1]; exact h4, by rw [e1.1, hs.2.2]; exact h5, fun k hk => by rw [e22.2]; exact h6 k hk, by rw [e1.2]; exact h7, h8, h9, fun k hk => by rw [hm 15 k (by omega)]; exact h10 k hk, fun k hk hk' => by rw [hm 16 _ (by omega)]; exact h11 k hk hk', h12, h13, fun k hk => ?_⟩
  exact (h14 k hk).cg (h.wk fun s i hs => by unfold fpM at hs; omega) (hm.wk fun j i hj => by unfold fmM at hj; omega)
theorem Rq.cg {A : Ad} {q : Nat} {σ σ' : Hp} {μ μ' : Mu} (h : Ag A σ σ' (fun s i => s = 7 ∨ s = 20)) (hm : AgM μ μ' (fun j i => (4 ≤ j ∧ j ≤ 8) ∨ j = 57)) (hs : μ'.1 3 = μ.1 3) (hR : Rq A q σ μ) : Rq A q σ' μ' := by
  have e7 := h 7 0 0 (by decide)
  have e20 : ∀ i, oI σ' (A 20 i 0) = oI σ (A 20 i 0) := fun i => (h 20 i 0 (Or.inr rfl)).1
  have hM : ∀ j i, 4 ≤ j → j ≤ 8 → μ'.2 j i = μ.2 j i := fun j i h1 h2 => hm j i (by omega)
  have h57 : ∀ i, μ'.2 57 i = μ.2 57 i := fun i => hm 57 i (by omega)
  obtain ⟨h1, h2, h3, h4, h5⟩ := hR
  refine ⟨by rw [e7.1]; exact h1, by rw [hs]; exact h2, by rw [e20]; exact h3, fun id h6 h7 => ?_, fun id id' a1 a2 a3 a4 => ?_⟩
  · obtain ⟨b1, c, m, k, b2, b3, b4, b5, b6, b7, b8, md, b9, b10, b11⟩ := h4 id h6 h7
    exact ⟨fun j hj => by rw [e20, hM _ _ (by omega) (by omega)]; exact b1 j hj, c, m, k, b2, by rw [hM _ _ (by omega) (by omega)]; exact b3, b4, by rw [hM _ _ (by omega) (by omega)]; exact b5, b6, b7, by rw [hM _ _ (by omega) (by omega)]; exact b8, md, b9, b10, by rw [h57]; exact b11⟩
  · rw [hM 4 _ (by omega) (by omega), hM 4 _ (by omega) (by omega), hM 5 _ (by omega) (by omega), hM 5 _ (by omega) (by omega)]
    exact h5 id id' a1 a2 a3 a4
theorem Rt.cg {A : Ad} {n : Nat} {σ σ' : Hp} {μ μ' : Mu} (h : Ag A σ σ' (fun s i => s = 11)) (hs : ∀ k, k = 1 ∨ k = 2 ∨ k = 9 ∨ k = 10 ∨ k = 11 → μ'.1 k = μ.1 k) (hR : Rt A n σ μ) : Rt A n σ' μ' := by
  have e := h 11 0 0 rfl
  unfold Rt at hR ⊢
  rw [e.1, hs 9 (by decide), hs 10 (by decide), hs 11 (by decide), hs 1 (by decide), hs 2 (by decide)]
  exact hR
theorem Rf.cg {A : Ad} {q : Nat} {vw : Vw} {σ σ' : Hp} {μ μ' : Mu} (h : Ag A σ σ' (fun s i => s = 0 ∨ s = 23)) (hm : AgM μ μ' (fun j i => (71 ≤ j ∧ j ≤ 75) ∨ j = 59)) (hs : μ'.1 70 = μ.1 70) (hR : Rf A q vw σ μ) : Rf A q vw σ' μ' := by
  have e0 := h 0 0 0 (by decide)
  have e23 : ∀ i, oI σ' (A 23 i 0) = oI σ (A 23 i 0) ∧ oR σ' (A 23 i 0) = oR σ (A 23 i 0) := fun i => h 23 i 0 (Or.inr rfl)
  have hM : ∀ j i, 71 ≤ j → j ≤ 75 → μ'.2 j i = μ.2 j i := fun j i h1 h2 => hm j i (by omega)
  have ho : ∀ c, opn μ' c = opn μ c := fun c => by unfold opn; rw [hm 59 c (by omega)]
  obtain ⟨f, h1, h2, h3, h4, h5, h6⟩ := hR
  refine ⟨f, by rw [hs]; exact h1, by rw [e0.1]; exact h2, by rw [e0.1]; exact h3, by rw [e0.1]; exact h4, by rw [ho, ho, ho, ho]; exact h5, fun k hk => ?_⟩
  rw [(e23 0).1, (e23 1).2, (e23 2).1, (e23 3).1, hM 71 _ (by omega) (by omega), hM 72 _ (by omega) (by omega), hM 73 _ (by omega) (by omega), hM 74 _ (by omega) (by omega), hM 75 _ (by omega) (by omega)]
  exact h6 k hk
