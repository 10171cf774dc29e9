/-! small rows of level 2 -/
theorem mT_2 (μ : Mu) (j i : Nat) (x : Int32) (j' i' : Nat) : (mT μ j i x).2 j' i' = if j' = j ∧ i' = i then x else μ.2 j' i' := rfl
theorem mT_1 (μ : Mu) (j i : Nat) (x : Int32) : (mT μ j i x).1 = μ.1 := rfl
theorem mS_1 (μ : Mu) (k : Nat) (x : Int32) (k' : Nat) : (mS μ k x).1 k' = if k' = k then x else μ.1 k' := rfl
theorem mS_2 (μ : Mu) (k : Nat) (x : Int32) : (mS μ k x).2 = μ.2 := rfl
theorem ib {k N : Nat} (h : k < N) (hN : N < 2 ^ 31) : ¬ (nI k < 0 ∨ N ≤ (nI k).toNatClampNeg) := nI_in h hN
theorem mZ_lt (j : Nat) : mZ j < 2 ^ 31 := by
  unfold mZ
  split <;> decide
theorem mA_n {μ : Mu} (j k : Nat) (h : k < mZ j) : m_A μ j (nI k) = some (μ.2 j k) := by
  unfold m_A
  rw [if_pos (ib h (mZ_lt j)), nI_clamp (Nat.lt_trans h (mZ_lt j))]
theorem mQ_n {μ : Mu} (j k : Nat) (x : Int32) (h : k < mZ j) : m_Q μ j (nI k) x = some (mT μ j k x) := by
  unfold m_Q
  rw [if_pos (ib h (mZ_lt j)), nI_clamp (Nat.lt_trans h (mZ_lt j))]
theorem e_gI {σ : Hp} {ci a k : Nat} (hK : oK σ a = ci) : h_gI σ ci a k = some (oI σ a k) := by unfold h_gI; rw [if_pos hK]
theorem e_gR {σ : Hp} {ci a k v : Nat} (hK : oK σ a = ci) (hr : oR σ a k = some v) : h_gR σ ci a k = some v := by unfold h_gR; rw [if_pos hK, hr]
theorem e_gO {σ : Hp} {ci a : Nat} (hK : oK σ a = ci) : h_gO σ ci a = some () := by unfold h_gO; rw [if_pos hK]
theorem e_pI {σ : Hp} {ci a k : Nat} {x : Int32} (hK : oK σ a = ci) : h_pI σ ci a k x = some (sI σ a k x) := by unfold h_pI; rw [if_pos hK]
theorem e_pR {σ : Hp} {ci a k x : Nat} (hK : oK σ a = ci) : h_pR σ ci a k x = some (sR σ a k x) := by unfold h_pR; rw [if_pos hK]
theorem e_aI {σ : Hp} {a k N : Nat} (hK : oK σ a = 13) (hz : oZ σ a = N) (hk : k < N) (hN : N < 2 ^ 31) : h_aI σ a (nI k) = some (oI σ a k) := by
  unfold h_aI
  rw [hz, if_pos ⟨hK, ib hk hN⟩, nI_clamp (Nat.lt_trans hk hN)]
theorem e_qI {σ : Hp} {a k N : Nat} {x : Int32} (hK : oK σ a = 13) (hz : oZ σ a = N) (hk : k < N) (hN : N < 2 ^ 31) : h_qI σ a (nI k) x = some (sI σ a k x) := by
  unfold h_qI
  rw [hz, if_pos ⟨hK, ib hk hN⟩, nI_clamp (Nat.lt_trans hk hN)]
theorem e_aR {σ : Hp} {kd a k N v : Nat} (hK : oK σ a = kd) (hz : oZ σ a = N) (hk : k < N) (hN : N < 2 ^ 31) (hv : oR σ a k = some v) : h_aR σ kd a (nI k) = some v := by
  unfold h_aR
  rw [hz, if_pos ⟨hK, ib hk hN⟩, nI_clamp (Nat.lt_trans hk hN), hv]
theorem e_qR {σ : Hp} {kd ci a k N v : Nat} (hK : oK σ a = kd) (hv : oK σ v = ci) (hz : oZ σ a = N) (hk : k < N) (hN : N < 2 ^ 31) : h_qR σ kd ci a (nI k) v = some (sR σ a k v) := by
  unfold h_qR
  rw [hz, if_pos ⟨⟨hK, hv⟩, ib hk hN⟩, nI_clamp (Nat.lt_trans hk hN)]
theorem e_aL {σ : Hp} {kd a N : Nat} (hK : oK σ a = kd) (hz : oZ σ a = N) : h_aL σ kd a = some (nI N) := by unfold h_aL; rw [if_pos hK, hz]; rfl
theorem e_cp {σ : Hp} {a0 a m N : Nat} (hK0 : oK σ a0 = 13) (hK : oK σ a = 13) (hz0 : oZ σ a0 = N) (hz : oZ σ a = N) (hm : m ≤ N) (hN : N < 2 ^ 31) : h_cp σ a0 a (0 : Int32) (0 : Int32) (nI m) = some (sC σ a0 a 0 0 m) := by
  have hm' : m < 2 ^ 31 := Nat.lt_of_le_of_lt hm hN
  have h0 : (0 : Int32).toNatClampNeg = 0 := rfl
  unfold h_cp
  rw [hz0, hz, nI_clamp hm', h0, if_pos ⟨⟨hK0, hK⟩, ⟨by decide, by decide, nI_pos hm'⟩, by omega, by omega⟩]
theorem e_nz {x : Int32} (h : ¬ x = 0) : h_nz x = some () := by unfold h_nz; rw [if_neg h]
theorem n_lit (k : Nat) : nI k = Int32.ofNat k := rfl
theorem l0 : (0 : Int32) = nI 0 := rfl
theorem l1 : (1 : Int32) = nI 1 := rfl
theorem l2 : (2 : Int32) = nI 2 := rfl
theorem l7 : (7 : Int32) = nI 7 := rfl
theorem l12 : (12 : Int32) = nI 12 := rfl
theorem l64 : (64 : Int32) = nI 64 := rfl
theorem l100 : (100 : Int32) = nI 100 := rfl
theorem l199 : (199 : Int32) = nI 199 := rfl
theorem l200 : (200 : Int32) = nI 200 := rfl
theorem Rs.inj {A : Ad} {n : Nat} {σ : Hp} (h : Rs A n σ) (s i j s' i' j' : Nat) : A s i j = A s' i' j' ↔ (s = s' ∧ i = i' ∧ j = j') := h.1 s i j s' i' j'
theorem Rs.np {A : Ad} {n : Nat} {σ : Hp} (h : Rs A n σ) : 3 ≤ n ∧ n ≤ 7 := by rcases h.n3 with h | h | h <;> omega
/-! leaders -/
theorem x_nn : ∀ n : Nat, n < 8 → ∀ l : Nat, l < 65 → (0 : Int32) ≤ (nI l ^^^ nI n) := by decide +kernel
theorem fmod_n {l n : Nat} (hl : l ≤ 64) (h3 : 3 ≤ n) (h7 : n ≤ 7) : f_J9_floorMod_7cf53 (nI l) (nI n) = some (nI (l % n)) := by
  unfold f_J9_floorMod_7cf53
  rw [e_nz (nI_ne0 (by omega) (by omega)), Option.bind_some, if_pos (x_nn n (by omega) l (by omega)), pk_rem (by omega) (by omega) (by omega)]
def b1 (b : Prop) [Decidable b] : Int32 := if b then 1 else 0
theorem m_leader {μ : Mu} {n r l : Nat} (hn : μ.1 1 = nI n) (hr : r < 7) (hl : μ.2 33 r = nI l) (h64 : l ≤ 64) (h3 : 3 ≤ n) (h7 : n ≤ 7) : f_X12_leader μ (nI r) = some (nI (l % n)) := by
  unfold f_X12_leader
  rw [mA_n 33 r hr, Option.bind_some, hn, e_nz (nI_ne0 (by omega) (by omega)), Option.bind_some, hl, pk_rem (by omega) (by omega) (by omega)]
theorem m_leads {μ : Mu} {n r l : Nat} (hn : μ.1 1 = nI n) (hr : r < 7) (hl : μ.2 33 r = nI l) (h64 : l ≤ 64) (h3 : 3 ≤ n) (h7 : n ≤ 7) : f_X12_leads μ (nI r) = some (b1 (l % n = r)) := by
  unfold f_X12_leads
  rw [mA_n 33 r hr, Option.bind_some, hn, e_nz (nI_ne0 (by omega) (by omega)), Option.bind_some, hl, pk_rem (by omega) (by omega) (by omega)]
  have h1 : l % n < n := Nat.mod_lt _ (by omega)
  unfold b1
  by_cases h : l % n = r
  · rw [if_pos h, h, if_pos rfl]
  · rw [if_neg h, if_neg (fun e => h ((nI_eq (by omega) (by omega)).mp e))]
theorem Vok.at {vw : Vw} {σ : Hp} {o : Option Nat} {L S : Int32} (h : Vok vw σ) (hv : VwR vw o L S) : ∃ v, o = some v ∧ oK σ v = 9 ∧ oI σ v 0 = L ∧ oI σ v 1 = S := by
  obtain ⟨v, h1, h2⟩ := hv
  exact ⟨v, h1, h v L S h2⟩
theorem c_leader {σ : Hp} {v n l : Nat} {S : Int32} (hv : IsV σ v (nI l) S) (hl : l ≤ 64) (h3 : 3 ≤ n) (h7 : n ≤ 7) : f_X9_leader σ v (nI n) = some (nI (l % n)) := by
  unfold f_X9_leader
  rw [e_gI hv.1, Option.bind_some, hv.2.1, fmod_n hl h3 h7, Option.bind_some]
theorem c_leads {A : Ad} {σ : Hp} {n r v l : Nat} {S : Int32} (hs : Rs A n σ) (hr : r < n) (h4 : oR σ (A 6 r 0) 4 = some v) (hv : IsV σ v (nI l) S) (hl : l ≤ 64) : f_X6_leads σ (A 6 r 0) = some (b1 (l % n = r)) := by
  have hn := hs.np
  have h1 : l % n < n := Nat.mod_lt _ (by omega)
  unfold f_X6_leads
  rw [e_gR (hs.k6 hr) h4, Option.bind_some, e_gI hv.1, Option.bind_some, e_gI (hs.k6 hr), Option.bind_some, hv.2.1, hs.i6_10 hr, fmod_n hl hn.1 hn.2, Option.bind_some, e_gI (hs.k6 hr), Option.bind_some, hs.i6_9 hr]
  unfold b1
  by_cases h : l % n = r
  · rw [if_pos h, h, if_pos rfl]
  · rw [if_neg h, if_neg (fun e => h ((nI_eq (by omega) (by omega)).mp e))]
theorem c_same {σ : Hp} {v w : Nat} {L S L' S' : Int32} (hv : IsV σ v L S) (hw : IsV σ w L' S') : f_X9_isSame σ v w = some (b1 (L = L' ∧ S = S')) := by
  unfold f_X9_isSame b1
  rw [e_gI hv.1, Option.bind_some, e_gI hw.1, Option.bind_some, hv.2.1, hw.2.1]
  by_cases h : L = L'
  · rw [if_pos h, e_gI hv.1, Option.bind_some, e_gI hw.1, Option.bind_some, hv.2.2, hw.2.2]
    by_cases h2 : S = S'
    · rw [if_pos h2, if_pos ⟨h, h2⟩]
    · rw [if_neg h2, if_neg (fun e => h2 e.2)]
  · rw [if_neg h, if_neg (fun e => h e.1)]
def bhd (L S L' S' : Int32) : Prop := L ≤ L' ∧ S ≤ S' ∧ ¬ (L = L' ∧ S = S')
