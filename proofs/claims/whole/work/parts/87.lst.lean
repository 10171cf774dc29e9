/-! the law from its entry -/
section LST
variable {G : Gm} {b L : Nat} {xs : Nat → Int32}
/-- the heap of the class's kind at the start: nothing -/
def hp0 (B : Nat) : Hp := (fun _ => 99, fun _ => 0, fun _ _ => 0, fun _ _ => none, B)
set_option maxRecDepth 100000 in
set_option maxHeartbeats 2000000 in
theorem l_start (hL : L ≤ 321) : ∃ μ : Mu, VL G b L xs (hp0 (gB G), μ, 0) 0 0 0 [(0, .ref b)] [] := by
  have hL31 : L < 2 ^ 31 := by omega
  obtain ⟨r, hr, hv, hx⟩ := fmX (cel L xs 0)
  obtain ⟨n, hn⟩ : ∃ n, n = 3 + 2 * r := ⟨_, rfl⟩
  rw [← hn] at hx
  have hn3 : n = 3 ∨ n = 5 ∨ n = 7 := by omega
  obtain ⟨B, hB⟩ : ∃ B, B = gB G := ⟨_, rfl⟩
  have hN0 : oN (hp0 (gB G)) = B := hB.symm
  have o1 : ob (nw (hp0 (gB G)) 11 0) B = (11, 0, z0, zn) := ob_nw_s hN0
  have n1 : oN (nw (hp0 (gB G)) 11 0) = B + 1 := by rw [oN_nw, hN0]
  obtain ⟨σ2, e1, x1⟩ := i11 hv hr hn o1 n1 (Nat.lt_succ_self B)
  have h99a : ∀ y, B + 1 ≤ y → oK (nw (hp0 (gB G)) 11 0) y = 99 := fun y hy => by
    have := ob_nw_n (σ := hp0 (gB G)) (k := 11) (l := 0) hN0 (show y ≠ B by omega)
    exact congrArg Prod.fst this
  obtain ⟨q, hq⟩ : ∃ q, q = oN σ2 := ⟨_, rfl⟩
  have hqB : B + 1 ≤ q := by rw [hq, x1.2.1]; omega
  have h99 : ∀ y, q ≤ y → oK σ2 y = 99 := fun y hy => by
    have h := x1.2.2.2.1 y (by omega) (Or.inr (by have := x1.2.1; omega))
    exact (congrArg Prod.fst h).trans (h99a y (by omega))
  have o2 : ob (nw σ2 12 0) q = (12, 0, z0, zn) := ob_nw_s hq.symm
  have n2 : oN (nw σ2 12 0) = q + 1 := by rw [oN_nw, ← hq]
  obtain ⟨σ4, e2, x2⟩ := i12 hn3 hx o2 n2 (Nat.lt_succ_self q)
  have hinv : Inv n 0 B σ2 (mu0 n) := s_inv x1 hn3 h99a
  refine ⟨mu0 n, ?_⟩
  refine Lv_new (ci := 11) (c' := 1) (k' := 10) rfl (by decide) lc_8 ln_11 lz_11 ⟨by decide, by decide⟩ rfl rfl dL_law_0 rfl ?_
  rw [hN0]
  refine Lv_dup rfl dL_law_3 rfl ?_
  refine Lv_aload_n 0 rfl dL_law_4 rfl ?_
  refine Lv_iconst (v := nI 0) (by decide) dL_law_5 rfl ?_
  refine l_cell XL.xs hL31 (by decide) lm_48 (ckL rfl (by decide) (by decide)) dL_law_6 rfl ?_
  refine Lv_Iv (as := [.int (cel L xs 0)]) (st := [.ref B]) (c' := 919) (k' := 39220) (k_X11_init e1) mk_X11_init li_X11_init rfl lm_54 (ckL rfl (by decide) (by decide)) rfl dL_law_9 rfl rfl rfl ?_
  refine Lv_astore_n [(1, .ref B), (0, .ref b)] dL_law_12 rfl (by decide) rfl ?_
  refine Lv_new (ci := 12) (c' := 920) (k' := 39299) rfl (by decide) lc_56 ln_12 lz_12 ⟨by decide, by decide⟩ rfl rfl dL_law_13 rfl ?_
  rw [← hq]
  refine Lv_dup rfl dL_law_16 rfl ?_
  refine Lv_aload_n 1 rfl dL_law_17 rfl ?_
  refine Lv_iconst (v := nI 0) (by decide) dL_law_18 rfl ?_
  refine l_cell XL.xs hL31 (by decide) lm_48 (ckL rfl (by decide) (by decide)) dL_law_19 rfl ?_
  refine Lv_Iv (as := [.int (cel L xs 0)]) (st := [.ref q]) (c' := 988) (k' := 91581) (k_X12_init e2) mk_X12_init li_X12_init rfl lm_58 (ckL rfl (by decide) (by decide)) rfl dL_law_22 rfl rfl rfl ?_
  refine Lv_astore_n [(2, .ref q), (1, .ref B), (0, .ref b)] dL_law_25 rfl (by decide) rfl ?_
  refine Lv_iconst (v := (1 : Int32)) (by decide) dL_law_26 rfl ?_
  refine Lv_newL (G' := gmv G q) (σ' := oSN σ2 (q + 70)) (h := q + 69) (c' := 989) (k' := 91582) la_long (by decide) (by decide) ⟨by decide, by decide⟩ rfl rfl dL_law_27 rfl (by rw [x2.2.1]) (fun H H1 hW hz hk hl => mv_Wd (by omega) h99 rfl hq.symm x2 hW hz hk hl) rfl (fun _ _ _ _ _ _ h => h) rfl ?_
  refine Lv_astore_n [(3, .ref (q + 69)), (2, .ref q), (1, .ref B), (0, .ref b)] dL_law_29 rfl (by decide) rfl ?_
  refine Lv_iconst (v := nI 1) (by decide) dL_law_30 rfl ?_
  refine Lv_istore [(4, .int (nI 1)), (3, .ref (q + 69)), (2, .ref q), (1, .ref B), (0, .ref b)] dL_law_31 rfl (by decide) rfl ?_
  exact l_loop (G := gmv G q) rfl hL 64 0 1 (oSN σ2 (q + 70)) (mu0 n) 0 989 91582 rfl rfl (hinv.sn (by omega)) (by decide) (by decide)
end LST
