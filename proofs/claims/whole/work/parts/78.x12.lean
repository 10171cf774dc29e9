/-! the reference at the start -/
section X12
variable {σ σ0 σ1 σ' : Hp} {b N m i j k n d e w w1 w2 : Nat} {oa : Ob} {G G' : Nat → Ob} {x : Int32}
theorem sgn3 (x : Int32) : (0 ≤ x ^^^ 3) ↔ 0 ≤ x := by
  have key : ∀ y : Int32, 0 ≤ y ↔ y.toBitVec.msb = false := by
    intro y
    rw [Int32.le_iff_toInt_le, BitVec.msb_eq_toInt]
    show (0 : Int) ≤ y.toBitVec.toInt ↔ _
    rw [decide_eq_false_iff_not]
    omega
  rw [key, key, Int32.toBitVec_xor, BitVec.msb_xor]
  show (Bool.xor x.toBitVec.msb false = false) ↔ _
  rw [Bool.xor_false]
theorem rem3 (x : Int32) : ∃ z : Int, (z = 0 ∨ z = 1 ∨ z = 2 ∨ z = -1 ∨ z = -2) ∧ x - x / 3 * 3 = Int32.ofInt z ∧ (0 ≤ x → 0 ≤ z) ∧ (¬ 0 ≤ x → z ≤ 0) := by
  have hx : Int32.ofInt x.toInt = x := Int32.ofInt_toInt x
  have h1 := Int32.minValue_le_toInt x
  have h2 := Int32.toInt_lt x
  have h3 := Int32.le_toInt x
  have hd : x / 3 = Int32.ofInt (x.toInt.tdiv 3) := by
    have h0 := Int32.ofInt_tdiv (a := x.toInt) (b := 3) (by rw [Int32.toInt_minValue]; omega) (by rw [Int32.toInt_maxValue]; omega) (by rw [Int32.toInt_minValue]; omega) (by rw [Int32.toInt_maxValue]; omega)
    rw [hx, show Int32.ofInt 3 = (3 : Int32) from rfl] at h0
    exact h0.symm
  refine ⟨x.toInt.tmod 3, ?_, ?_, fun h => ?_, fun h => ?_⟩
  · have a1 := Int.tmod_lt_of_pos x.toInt (show (0 : Int) < 3 by decide)
    have a2 := Int.lt_tmod_of_pos x.toInt (show (0 : Int) < 3 by decide)
    omega
  · rw [hd]
    conv => lhs; rw [← hx]
    rw [show (3 : Int32) = Int32.ofInt 3 from rfl, ← Int32.ofInt_mul, Int32.ofInt_toInt]
    conv => lhs; lhs; rw [← hx]
    rw [← Int32.ofInt_sub]
    congr 1
    have := Int.mul_tdiv_add_tmod x.toInt 3
    omega
  · rw [Int32.le_iff_toInt_le] at h
    exact Int.tmod_nonneg 3 h
  · rw [Int32.le_iff_toInt_le] at h
    have h4 : x.toInt ≤ 0 := by
      have : (0 : Int32).toInt = 0 := rfl
      omega
    have h5 := Int.tmod_nonneg 3 (show (0 : Int) ≤ -x.toInt by omega)
    rw [Int.neg_tmod] at h5
    omega
/-- the class's and the reference's number of replicas -/
theorem fmX (x : Int32) : ∃ r, r < 3 ∧ f_J9_floorMod_7cf53 x 3 = some (nI r) ∧ ∀ (σ : Hp) (p q : Nat), (if 0 ≤ (x - x / (3 : Int32) * (3 : Int32)) then (f_X12_init_610 σ p q ((3 : Int32) + ((2 : Int32) * (x - x / (3 : Int32) * (3 : Int32))))) else (if (x - x / (3 : Int32) * (3 : Int32)) = (-1 : Int32) then (f_X12_init_610 σ p q (7 : Int32)) else (f_X12_init_610 σ p q (5 : Int32)))) = f_X12_init_610 σ p q (nI (3 + 2 * r)) := by
  obtain ⟨z, h1, h2, h3, h4⟩ := rem3 x
  unfold f_J9_floorMod_7cf53
  rw [e_nz (by decide), Option.bind_some, h2]
  by_cases h : 0 ≤ x
  · rw [if_pos ((sgn3 x).mpr h)]
    have := h3 h
    rcases h1 with rfl | rfl | rfl | rfl | rfl
    · exact ⟨0, by decide, rfl, fun σ p q => by rw [if_pos (by decide)]; rfl⟩
    · exact ⟨1, by decide, rfl, fun σ p q => by rw [if_pos (by decide)]; rfl⟩
    · exact ⟨2, by decide, rfl, fun σ p q => by rw [if_pos (by decide)]; rfl⟩
    · omega
    · omega
  · rw [if_neg (fun e => h ((sgn3 x).mp e))]
    have := h4 h
    rcases h1 with rfl | rfl | rfl | rfl | rfl
    · exact ⟨0, by decide, by rw [if_pos (by decide)]; rfl, fun σ p q => by rw [if_pos (by decide)]; rfl⟩
    · omega
    · omega
    · exact ⟨2, by decide, by rw [if_neg (by decide)]; rfl, fun σ p q => by rw [if_neg (by decide), if_pos (by decide)]; rfl⟩
    · exact ⟨1, by decide, by rw [if_neg (by decide)]; rfl, fun σ p q => by rw [if_neg (by decide), if_neg (by decide)]; rfl⟩
def fone (i : Nat) : Nat → Int32 := fun k => if k < i then 1 else 0
def fid (i : Nat) : Nat → Int32 := fun k => if k < i then nI k else 0
theorem fone_s (i : Nat) : va_up (fone i) i 1 = fone (i + 1) := by
  funext k
  unfold va_up fone
  by_cases h : k = i
  · rw [if_pos h, if_pos (by omega)]
  · rw [if_neg h]
    by_cases h1 : k < i
    · rw [if_pos h1, if_pos (by omega)]
    · rw [if_neg h1, if_neg (by omega)]
theorem fid_s (i : Nat) : va_up (fid i) i (nI i) = fid (i + 1) := by
  funext k
  unfold va_up fid
  by_cases h : k = i
  · rw [if_pos h, if_pos (by omega), h]
  · rw [if_neg h]
    by_cases h1 : k < i
    · rw [if_pos h1, if_pos (by omega)]
    · rw [if_neg h1, if_neg (by omega)]
theorem l653 {fI : Nat → Int32} {fR : Nat → Option Nat} (hbw : b ≠ w) (hw : fR 16 = some w) : ∀ d i σ, i + d = 200 → ob σ b = (12, 0, fI, fR) → ob σ w = (13, 200, fid i, zn) → ∃ σ', f_X12_init_653 (d + 1 + e) σ b (nI i) = some σ' ∧ oN σ' = oN σ ∧ (∀ x, x ≠ w → ob σ' x = ob σ x) ∧ ob σ' w = (13, 200, fid 200, zn) := by
  intro d
  induction d with
  | zero =>
    intro i σ hi hb hw'
    have : i = 200 := by omega
    subst this
    refine ⟨σ, ?_, rfl, fun _ _ => rfl, hw'⟩
    rw [show 0 + 1 + e = e + 1 by omega]
    show b_X12_init_653 (f_X12_init_653 e) σ b (nI 200) = _
    rw [b_X12_init_653, if_pos (show (200 : Int32) ≤ nI 200 by decide)]
  | succ d ih =>
    intro i σ hi hb hw'
    have hk := ob_K hb
    have hk' := ob_K hw'
    obtain ⟨σ', e1, e2, e3, e4⟩ := ih (i + 1) (sI σ w i (nI i)) (by omega) (by rw [ob_sI_n hbw, hb]) (by rw [ob_sI_s hw', fid_s])
    refine ⟨σ', ?_, by rw [e2, oN_sI], fun x hx => by rw [e3 x hx, ob_sI_n hx], e4⟩
    rw [show d + 1 + 1 + e = (d + 1 + e) + 1 by omega]
    show b_X12_init_653 (f_X12_init_653 (d + 1 + e)) σ b (nI i) = _
    rw [b_X12_init_653, if_neg (by rw [l200, nI_leI (by decide) (by omega)]; omega), x_gR hk.1, hk.2.2.2, hw, Option.bind_some, e_qI hk'.1 hk'.2.1 (by omega) (by decide), Option.bind_some, nI_1, e1]
theorem l625 {fI : Nat → Int32} {fR : Nat → Option Nat} (hb1 : b ≠ w1) (hb2 : b ≠ w2) (h12 : w1 ≠ w2) (hw1 : fR 34 = some w1) (hw2 : fR 37 = some w2) : ∀ d i σ, i + d = 7 → ob σ b = (12, 0, fI, fR) → ob σ w1 = (13, 7, fone i, zn) → ob σ w2 = (13, 7, fone i, zn) → ∃ σ', f_X12_init_625 (d + 1 + e) σ b (nI i) = f_X12_init_651 σ' b ∧ oN σ' = oN σ ∧ (∀ x, x ≠ w1 → x ≠ w2 → ob σ' x = ob σ x) ∧ ob σ' w1 = (13, 7, fone 7, zn) ∧ ob σ' w2 = (13, 7, fone 7, zn) := by
  intro d
  induction d with
  | zero =>
    intro i σ hi hb hw' hw''
    have : i = 7 := by omega
    subst this
    refine ⟨σ, ?_, rfl, fun _ _ _ => rfl, hw', hw''⟩
    rw [show 0 + 1 + e = e + 1 by omega]
    show b_X12_init_625 (f_X12_init_625 e) σ b (nI 7) = _
    rw [b_X12_init_625, if_pos (show (7 : Int32) ≤ nI 7 by decide)]
  | succ d ih =>
    intro i σ hi hb hw' hw''
    have hk := ob_K hb
    have hk' := ob_K hw'
    have hb' : ob (sI σ w1 i 1) b = (12, 0, fI, fR) := by rw [ob_sI_n hb1, hb]
    have hw3 : ob (sI σ w1 i 1) w2 = (13, 7, fone i, zn) := by rw [ob_sI_n (Ne.symm h12), hw'']
    have hkb := ob_K hb'
    have hkw := ob_K hw3
    obtain ⟨σ', e1, e2, e3, e4⟩ := ih (i + 1) (sI (sI σ w1 i 1) w2 i 1) (by omega) (by rw [ob_sI_n hb2, hb']) (by rw [ob_sI_n h12, ob_sI_s hw', fone_s]) (by rw [ob_sI_s hw3, fone_s])
    refine ⟨σ', ?_, by rw [e2, oN_sI, oN_sI], fun x hx hx' => by rw [e3 x hx hx', ob_sI_n hx', ob_sI_n hx], e4⟩
    rw [show d + 1 + 1 + e = (d + 1 + e) + 1 by omega]
    show b_X12_init_625 (f_X12_init_625 (d + 1 + e)) σ b (nI i) = _
    rw [b_X12_init_625, if_neg (by rw [show (7 : Int32) = nI 7 from rfl, nI_leI (by decide) (by omega)]; omega), x_gR hk.1, hk.2.2.2, hw1, Option.bind_some, e_qI hk'.1 hk'.2.1 (by omega) (by decide), Option.bind_some, x_gR hkb.1, hkb.2.2.2, hw2, Option.bind_some, e_qI hkw.1 hkw.2.1 (by omega) (by decide), Option.bind_some, nI_1, e1]
def ixM (j : Nat) : Nat := if j ≤ 8 then j - 4 else if j ≤ 69 then j - 10 else j - 11
def ro (i : Nat) : Nat := if i < 5 then i + 4 else if i < 60 then i + 10 else i + 11
def rowsM : List Nat := [4, 5, 6, 7, 8, 15, 16, 17, 18, 19, 20, 21, 22, 23, 24, 25, 26, 27, 28, 29, 30, 31, 32, 33, 34, 35, 36, 37, 38, 39, 40, 41, 42, 43, 44, 45, 46, 47, 48, 49, 50, 51, 52, 53, 54, 55, 56, 57, 58, 59, 60, 61, 62, 63, 64, 65, 66, 67, 68, 69, 71, 72, 73, 74, 75, 76, 77, 78]
def gz : Nat → Ob := fun i => (13 + mK (ro i), mZ (ro i), z0, zn)
def g12 : Nat → Ob := fun i => (13 + mK (ro i), mZ (ro i), (if i = 6 then fid 200 else if i = 24 ∨ i = 27 then fone 7 else z0), zn)
def fI12 (n : Nat) : Nat → Int32 := va_up (va_up (va_up (va_up z0 9 1) 10 1) 1 (nI n)) 2 (nI (n / 2))
def fR12 (N : Nat) : Nat → Option Nat := va_up (va_up (va_up (va_up (va_up (va_up (va_up (va_up (va_up (va_up (va_up (va_up (va_up (va_up (va_up (va_up (va_up (va_up (va_up (va_up (va_up (va_up (va_up (va_up (va_up (va_up (va_up (va_up (va_up (va_up (va_up (va_up (va_up (va_up (va_up (va_up (va_up (va_up (va_up (va_up (va_up (va_up (va_up (va_up (va_up (va_up (va_up (va_up (va_up (va_up (va_up (va_up (va_up (va_up (va_up (va_up (va_up (va_up (va_up (va_up (va_up (va_up (va_up (va_up (va_up (va_up (va_up (va_up zn 4 (some N)) 5 (some (N + 1))) 6 (some (N + 2))) 7 (some (N + 3))) 8 (some (N + 4))) 15 (some (N + 5))) 16 (some (N + 6))) 17 (some (N + 7))) 18 (some (N + 8))) 19 (some (N + 9))) 20 (some (N + 10))) 21 (some (N + 11))) 22 (some (N + 12))) 23 (some (N + 13))) 24 (some (N + 14))) 25 (some (N + 15))) 26 (some (N + 16))) 27 (some (N + 17))) 28 (some (N + 18))) 29 (some (N + 19))) 30 (some (N + 20))) 31 (some (N + 21))) 32 (some (N + 22))) 33 (some (N + 23))) 34 (some (N + 24))) 35 (some (N + 25))) 36 (some (N + 26))) 37 (some (N + 27))) 38 (some (N + 28))) 39 (some (N + 29))) 40 (some (N + 30))) 41 (some (N + 31))) 42 (some (N + 32))) 43 (some (N + 33))) 44 (some (N + 34))) 45 (some (N + 35))) 46 (some (N + 36))) 47 (some (N + 37))) 48 (some (N + 38))) 49 (some (N + 39))) 50 (some (N + 40))) 51 (some (N + 41))) 52 (some (N + 42))) 53 (some (N + 43))) 54 (some (N + 44))) 55 (some (N + 45))) 56 (some (N + 46))) 57 (some (N + 47))) 58 (some (N + 48))) 59 (some (N + 49))) 60 (some (N + 50))) 61 (some (N + 51))) 62 (some (N + 52))) 63 (some (N + 53))) 64 (some (N + 54))) 65 (some (N + 55))) 66 (some (N + 56))) 67 (some (N + 57))) 68 (some (N + 58))) 69 (some (N + 59))) 71 (some (N + 60))) 72 (some (N + 61))) 73 (some (N + 62))) 74 (some (N + 63))) 75 (some (N + 64))) 76 (some (N + 65))) 77 (some (N + 66))) 78 (some (N + 67))
set_option maxRecDepth 10000 in
set_option maxHeartbeats 2000000 in
theorem fR12_at : ∀ j ∈ rowsM, fR12 N j = some (N + ixM j) := by
  intro j hj
  simp only [rowsM, List.mem_cons, List.not_mem_nil, or_false] at hj
  rcases hj with rfl | rfl | rfl | rfl | rfl | rfl | rfl | rfl | rfl | rfl | rfl | rfl | rfl | rfl | rfl | rfl | rfl | rfl | rfl | rfl | rfl | rfl | rfl | rfl | rfl | rfl | rfl | rfl | rfl | rfl | rfl | rfl | rfl | rfl | rfl | rfl | rfl | rfl | rfl | rfl | rfl | rfl | rfl | rfl | rfl | rfl | rfl | rfl | rfl | rfl | rfl | rfl | rfl | rfl | rfl | rfl | rfl | rfl | rfl | rfl | rfl | rfl | rfl | rfl | rfl | rfl | rfl | rfl <;> rfl
theorem e_h2 : ∀ n : Nat, n = 3 ∨ n = 5 ∨ n = 7 → nI n / (2 : Int32) = nI (n / 2) := by
  intro n h
  rcases h with rfl | rfl | rfl <;> decide
set_option maxRecDepth 10000 in
set_option maxHeartbeats 4000000 in
theorem i12a {F : Hp → Option Hp} {Q : Hp → Prop} (h : ob σ b = (12, 0, z0, zn)) (hN : oN σ = N) (ha : b < N) (hF : ∀ s, (if 0 ≤ (x - x / (3 : Int32) * (3 : Int32)) then (f_X12_init_610 s b b ((3 : Int32) + ((2 : Int32) * (x - x / (3 : Int32) * (3 : Int32))))) else (if (x - x / (3 : Int32) * (3 : Int32)) = (-1 : Int32) then (f_X12_init_610 s b b (7 : Int32)) else (f_X12_init_610 s b b (5 : Int32)))) = F s)
    (H : ∀ σ1, Bx σ σ1 b N 68 (12, 0, va_up (va_up z0 9 1) 10 1, fR12 N) gz → ∃ σ', F σ1 = some σ' ∧ Q σ') : ∃ σ', f_X12_init σ b x = some σ' ∧ Q σ' := by
  unfold f_X12_init
  refine st_row (Bx.z (G := g4) hN ha h) fun σ1 h => ?_
  refine st_row h fun σ1 h => ?_
  refine st_row h fun σ1 h => ?_
  refine st_row h fun σ1 h => ?_
  refine st_row h fun σ1 h => ?_
  refine st_pI h fun σ1 h => ?_
  refine st_pI h fun σ1 h => ?_
  refine st_row h fun σ1 h => ?_
  refine st_row h fun σ1 h => ?_
  refine st_row h fun σ1 h => ?_
  refine st_row h fun σ1 h => ?_
  refine st_row h fun σ1 h => ?_
  refine st_row h fun σ1 h => ?_
  refine st_row h fun σ1 h => ?_
  refine st_row h fun σ1 h => ?_
  refine st_row h fun σ1 h => ?_
  refine st_row h fun σ1 h => ?_
  refine st_row h fun σ1 h => ?_
  refine st_row h fun σ1 h => ?_
  refine st_row h fun σ1 h => ?_
  refine st_row h fun σ1 h => ?_
  refine st_row h fun σ1 h => ?_
  refine st_row h fun σ1 h => ?_
  refine st_row h fun σ1 h => ?_
  refine st_row h fun σ1 h => ?_
  refine st_row h fun σ1 h => ?_
  refine st_row h fun σ1 h => ?_
  refine st_row h fun σ1 h => ?_
  refine st_row h fun σ1 h => ?_
  refine st_row h fun σ1 h => ?_
  refine st_row h fun σ1 h => ?_
  refine st_row h fun σ1 h => ?_
  refine st_row h fun σ1 h => ?_
  refine st_row h fun σ1 h => ?_
  refine st_row h fun σ1 h => ?_
  refine st_row h fun σ1 h => ?_
  refine st_row h fun σ1 h => ?_
  refine st_row h fun σ1 h => ?_
  refine st_row h fun σ1 h => ?_
  refine st_row h fun σ1 h => ?_
  refine st_row h fun σ1 h => ?_
  refine st_row h fun σ1 h => ?_
  refine st_row h fun σ1 h => ?_
  refine st_row h fun σ1 h => ?_
  refine st_row h fun σ1 h => ?_
  refine st_row h fun σ1 h => ?_
  refine st_row h fun σ1 h => ?_
  refine st_row h fun σ1 h => ?_
  refine st_row h fun σ1 h => ?_
  refine st_row h fun σ1 h => ?_
  refine st_row h fun σ1 h => ?_
  refine st_row h fun σ1 h => ?_
  refine st_row h fun σ1 h => ?_
  refine st_row h fun σ1 h => ?_
  refine st_row h fun σ1 h => ?_
  refine st_row h fun σ1 h => ?_
  refine st_row h fun σ1 h => ?_
  refine st_row h fun σ1 h => ?_
  refine st_row h fun σ1 h => ?_
  refine st_row h fun σ1 h => ?_
  refine st_row h fun σ1 h => ?_
  refine st_row h fun σ1 h => ?_
  refine st_row h fun σ1 h => ?_
  refine st_row h fun σ1 h => ?_
  refine st_row h fun σ1 h => ?_
  refine st_row h fun σ1 h => ?_
  refine st_row h fun σ1 h => ?_
  refine st_row h fun σ1 h => ?_
  refine st_row h fun σ1 h => ?_
  refine st_row h fun σ1 h => ?_
  rw [hF]
  refine H _ (h.co rfl rfl (fun i hi => ?_))
  by_cases e : i = 0
  · subst e
    rfl
  have hi := And.intro e hi
  clear e
  by_cases e : i = 1
  · subst e
    rfl
  have hi := And.intro e hi
  clear e
  by_cases e : i = 2
  · subst e
    rfl
  have hi := And.intro e hi
  clear e
  by_cases e : i = 3
  · subst e
    rfl
  have hi := And.intro e hi
  clear e
  by_cases e : i = 4
  · subst e
    rfl
  have hi := And.intro e hi
  clear e
  by_cases e : i = 5
  · subst e
    rfl
  have hi := And.intro e hi
  clear e
  by_cases e : i = 6
  · subst e
    rfl
  have hi := And.intro e hi
  clear e
  by_cases e : i = 7
  · subst e
    rfl
  have hi := And.intro e hi
  clear e
  by_cases e : i = 8
  · subst e
    rfl
  have hi := And.intro e hi
  clear e
  by_cases e : i = 9
  · subst e
    rfl
  have hi := And.intro e hi
  clear e
  by_cases e : i = 10
  · subst e
    rfl
  have hi := And.intro e hi
  clear e
  by_cases e : i = 11
  · subst e
    rfl
  have hi := And.intro e hi
  clear e
  by_cases e : i = 12
  · subst e
    rfl
  have hi := And.intro e hi
  clear e
  by_cases e : i = 13
  · subst e
    rfl
  have hi := And.intro e hi
  clear e
  by_cases e : i = 14
  · subst e
    rfl
  have hi := And.intro e hi
  clear e
  by_cases e : i = 15
  · subst e
    rfl
  have hi := And.intro e hi
  clear e
  by_cases e : i = 16
  · subst e
    rfl
  have hi := And.intro e hi
  clear e
  by_cases e : i = 17
  · subst e
    rfl
  have hi := And.intro e hi
  clear e
  by_cases e : i = 18
  · subst e
    rfl
  have hi := And.intro e hi
  clear e
  by_cases e : i = 19
  · subst e
    rfl
  have hi := And.intro e hi
  clear e
  by_cases e : i = 20
  · subst e
    rfl
  have hi := And.intro e hi
  clear e
  by_cases e : i = 21
  · subst e
    rfl
  have hi := And.intro e hi
  clear e
  by_cases e : i = 22
  · subst e
    rfl
  have hi := And.intro e hi
  clear e
  by_cases e : i = 23
  · subst e
    rfl
  have hi := And.intro e hi
  clear e
  by_cases e : i = 24
  · subst e
    rfl
  have hi := And.intro e hi
  clear e
  by_cases e : i = 25
  · subst e
    rfl
  have hi := And.intro e hi
  clear e
  by_cases e : i = 26
  · subst e
    rfl
  have hi := And.intro e hi
  clear e
  by_cases e : i = 27
  · subst e
    rfl
  have hi := And.intro e hi
  clear e
  by_cases e : i = 28
  · subst e
    rfl
  have hi := And.intro e hi
  clear e
  by_cases e : i = 29
  · subst e
    rfl
  have hi := And.intro e hi
  clear e
  by_cases e : i = 30
  · subst e
    rfl
  have hi := And.intro e hi
  clear e
  by_cases e : i = 31
  · subst e
    rfl
  have hi := And.intro e hi
  clear e
  by_cases e : i = 32
  · subst e
    rfl
  have hi := And.intro e hi
  clear e
  by_cases e : i = 33
  · subst e
    rfl
  have hi := And.intro e hi
  clear e
  by_cases e : i = 34
  · subst e
    rfl
  have hi := And.intro e hi
  clear e
  by_cases e : i = 35
  · subst e
    rfl
  have hi := And.intro e hi
  clear e
  by_cases e : i = 36
  · subst e
    rfl
  have hi := And.intro e hi
  clear e
  by_cases e : i = 37
  · subst e
    rfl
  have hi := And.intro e hi
  clear e
  by_cases e : i = 38
  · subst e
    rfl
  have hi := And.intro e hi
  clear e
  by_cases e : i = 39
  · subst e
    rfl
  have hi := And.intro e hi
  clear e
  by_cases e : i = 40
  · subst e
    rfl
  have hi := And.intro e hi
  clear e
  by_cases e : i = 41
  · subst e
    rfl
  have hi := And.intro e hi
  clear e
  by_cases e : i = 42
  · subst e
    rfl
  have hi := And.intro e hi
  clear e
  by_cases e : i = 43
  · subst e
    rfl
  have hi := And.intro e hi
  clear e
  by_cases e : i = 44
  · subst e
    rfl
  have hi := And.intro e hi
  clear e
  by_cases e : i = 45
  · subst e
    rfl
  have hi := And.intro e hi
  clear e
  by_cases e : i = 46
  · subst e
    rfl
  have hi := And.intro e hi
  clear e
  by_cases e : i = 47
  · subst e
    rfl
  have hi := And.intro e hi
  clear e
  by_cases e : i = 48
  · subst e
    rfl
  have hi := And.intro e hi
  clear e
  by_cases e : i = 49
  · subst e
    rfl
  have hi := And.intro e hi
  clear e
  by_cases e : i = 50
  · subst e
    rfl
  have hi := And.intro e hi
  clear e
  by_cases e : i = 51
  · subst e
    rfl
  have hi := And.intro e hi
  clear e
  by_cases e : i = 52
  · subst e
    rfl
  have hi := And.intro e hi
  clear e
  by_cases e : i = 53
  · subst e
    rfl
  have hi := And.intro e hi
  clear e
  by_cases e : i = 54
  · subst e
    rfl
  have hi := And.intro e hi
  clear e
  by_cases e : i = 55
  · subst e
    rfl
  have hi := And.intro e hi
  clear e
  by_cases e : i = 56
  · subst e
    rfl
  have hi := And.intro e hi
  clear e
  by_cases e : i = 57
  · subst e
    rfl
  have hi := And.intro e hi
  clear e
  by_cases e : i = 58
  · subst e
    rfl
  have hi := And.intro e hi
  clear e
  by_cases e : i = 59
  · subst e
    rfl
  have hi := And.intro e hi
  clear e
  by_cases e : i = 60
  · subst e
    rfl
  have hi := And.intro e hi
  clear e
  by_cases e : i = 61
  · subst e
    rfl
  have hi := And.intro e hi
  clear e
  by_cases e : i = 62
  · subst e
    rfl
  have hi := And.intro e hi
  clear e
  by_cases e : i = 63
  · subst e
    rfl
  have hi := And.intro e hi
  clear e
  by_cases e : i = 64
  · subst e
    rfl
  have hi := And.intro e hi
  clear e
  by_cases e : i = 65
  · subst e
    rfl
  have hi := And.intro e hi
  clear e
  by_cases e : i = 66
  · subst e
    rfl
  have hi := And.intro e hi
  clear e
  by_cases e : i = 67
  · subst e
    rfl
  have hi := And.intro e hi
  clear e
  omega
end X12
