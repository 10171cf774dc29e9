/-! the law's loop -/
section LAWL
variable {G : Gm} {b L n tb : Nat} {xs : Nat → Int32}
theorem sub5 {L i : Nat} (hL : L ≤ 321) (hi : i ≤ 400) (h : ¬ (nI L - 5 < nI i)) : i + 5 ≤ L := by
  by_cases h5 : L < 5
  · have h0 : ∀ L : Nat, L < 5 → nI L - 5 < 0 := by decide
    exact absurd (Int32.lt_of_lt_of_le (h0 L h5) (nI_pos' (by omega))) h
  · obtain ⟨m, rfl⟩ : ∃ m, L = m + 5 := ⟨L - 5, by omega⟩
    have e : nI (m + 5) - 5 = nI m := by
      rw [← nI_add m 5]
      exact Int32.add_sub_cancel _ _
    rw [e, nI_ltI (by omega) (by omega)] at h
    omega
theorem and31 (v : Int32) : ∃ m, m < 32 ∧ v &&& 31 = nI m := by
  refine ⟨(v.toBitVec &&& 31#32).toNat, ?_, ?_⟩
  · rw [BitVec.toNat_and]
    exact Nat.lt_succ_of_le Nat.and_le_right
  · apply Int32.toBitVec_inj.mp
    rw [Int32.toBitVec_and]
    show v.toBitVec &&& 31#32 = BitVec.ofNat 32 _
    rw [BitVec.ofNat_toNat, BitVec.setWidth_eq]
set_option maxRecDepth 100000 in
set_option maxHeartbeats 2000000 in
theorem l_loop (hG : gF G = mFl) (hL : L ≤ 321) : ∀ r t i (σ : Hp) (μ : Mu) (o : Int64) c k, t + r = 64 → i = 1 + 5 * t → Inv n t tb σ μ → c + 42 * r ≤ 600128 → k + 88 * r ≤ 7301064 → VL G b L xs (σ, μ, o) c k 33 (lv0 G b tb i) [] := by
  intro r
  induction r with
  | zero =>
    intro t i σ μ o c k htr hit hI hc hk
    refine Lv_iload 0 rfl dL_law_33 rfl ?_
    refine Lv_aload_n 4 rfl dL_law_35 rfl ?_
    refine l_slen XL.xs dL_law_36 rfl ?_
    refine Lv_iconst (v := (5 : Int32)) (by decide) dL_law_37 rfl ?_
    refine Lv_isub dL_law_38 rfl ?_
    refine Lv_icmp_gt 892 dL_law_39 (by decide) rfl (fun _ => ?_) (fun h => ?_)
    · refine Lv_iconst (v := (1 : Int32)) (by decide) dL_law_892 rfl ?_
      exact lret (by omega) (by omega) dL_law_893
    · have := sub5 hL (by omega) h
      omega
  | succ r ih =>
    intro t i σ μ o c k htr hit hI hc hk
    have hL31 : L < 2 ^ 31 := by omega
    have kk : ∀ (σ' : Hp) (μ' : Mu) (o' : Int64) (c' k' : Nat), Inv n (t + 1) tb σ' μ' → c' ≤ c + 42 → k' ≤ k + 88 → VL G b L xs (σ', μ', o') c' k' 886 (lv0 G b tb i) [] := by
      intro σ' μ' o' c' k' hI' hc' hk'
      refine Lv_iinc (lv0 G b tb (i + 5)) 0 rfl (show nI i + Int32.ofInt 5 = nI (i + 5) from nI_add i 5) dL_law_886 rfl (by decide) rfl ?_
      refine Lv_goto (q := 33) dL_law_889 (by decide) ?_
      exact ih (t + 1) (i + 5) σ' μ' o' c' k' (by omega) (by omega) hI' (by omega) (by omega)
    refine Lv_iload 0 rfl dL_law_33 rfl ?_
    refine Lv_aload_n 4 rfl dL_law_35 rfl ?_
    refine l_slen XL.xs dL_law_36 rfl ?_
    refine Lv_iconst (v := (5 : Int32)) (by decide) dL_law_37 rfl ?_
    refine Lv_isub dL_law_38 rfl ?_
    refine Lv_icmp_gt 892 dL_law_39 (by decide) rfl (fun _ => ?_) (fun h => ?_)
    · refine Lv_iconst (v := (1 : Int32)) (by decide) dL_law_892 rfl ?_
      exact lret (by omega) (by omega) dL_law_893
    · have hiL := sub5 hL (by omega) h
      have ht : t < 64 := by omega
      have hi : i + 4 < L := by omega
      have hc1 : c + 42 ≤ 600128 := by omega
      have hk1 : k + 88 ≤ 7301064 := by omega
      refine Lv_aload_n 4 rfl dL_law_42 rfl ?_
      refine Lv_iload 0 rfl dL_law_43 rfl ?_
      refine l_sald XL.xs (by omega) hL31 dL_law_45 rfl ?_
      refine Lv_bipush (v := (31 : Int32)) (by decide) dL_law_46 rfl ?_
      refine Lv_iand dL_law_48 rfl ?_
      obtain ⟨m, hm, e⟩ := and31 (xs i)
      rw [e]
      by_cases h20 : m < 20
      · rcases (show m = 0 ∨ m = 1 ∨ m = 2 ∨ m = 3 ∨ m = 4 ∨ m = 5 ∨ m = 6 ∨ m = 7 ∨ m = 8 ∨ m = 9 ∨ m = 10 ∨ m = 11 ∨ m = 12 ∨ m = 13 ∨ m = 14 ∨ m = 15 ∨ m = 16 ∨ m = 17 ∨ m = 18 ∨ m = 19 by omega) with rfl | rfl | rfl | rfl | rfl | rfl | rfl | rfl | rfl | rfl | rfl | rfl | rfl | rfl | rfl | rfl | rfl | rfl | rfl | rfl
        · exact Lv_tableIn 144 dL_law_49 (by decide) (by decide) rfl (by decide) (op_request hG hI ht hi hL31 hc1 hk1 kk)
        · exact Lv_tableIn 236 dL_law_49 (by decide) (by decide) rfl (by decide) (op_again hG hI ht hi hL31 hc1 hk1 kk)
        · exact Lv_tableIn 272 dL_law_49 (by decide) (by decide) rfl (by decide) (op_deliver hG hI ht hi hL31 hc1 hk1 kk)
        · exact Lv_tableIn 308 dL_law_49 (by decide) (by decide) rfl (by decide) (op_lose hG hI ht hi hL31 hc1 hk1 kk)
        · exact Lv_tableIn 344 dL_law_49 (by decide) (by decide) rfl (by decide) (op_flow hG hI ht hi hL31 hc1 hk1 kk)
        · exact Lv_tableIn 400 dL_law_49 (by decide) (by decide) rfl (by decide) (op_down hG hI ht hi hL31 hc1 hk1 kk)
        · exact Lv_tableIn 436 dL_law_49 (by decide) (by decide) rfl (by decide) (op_up hG hI ht hi hL31 hc1 hk1 kk)
        · exact Lv_tableIn 472 dL_law_49 (by decide) (by decide) rfl (by decide) (op_suspect hG hI ht hi hL31 hc1 hk1 kk)
        · exact Lv_tableIn 508 dL_law_49 (by decide) (by decide) rfl (by decide) (op_nudge hG hI ht hi hL31 hc1 hk1 kk)
        · exact Lv_tableIn 564 dL_law_49 (by decide) (by decide) rfl (by decide) (op_sync hG hI ht hi hL31 hc1 hk1 kk)
        · exact Lv_tableIn 600 dL_law_49 (by decide) (by decide) rfl (by decide) (op_fail hG hI ht hi hL31 hc1 hk1 kk)
        · exact Lv_tableIn 613 dL_law_49 (by decide) (by decide) rfl (by decide) (op_install hG hI ht hi hL31 hc1 hk1 kk)
        · exact Lv_tableIn 626 dL_law_49 (by decide) (by decide) rfl (by decide) (op_replica hG hI ht hi hL31 hc1 hk1 kk)
        · exact Lv_tableIn 663 dL_law_49 (by decide) (by decide) rfl (by decide) (op_entry hG hI ht hi hL31 hc1 hk1 kk)
        · exact Lv_tableIn 712 dL_law_49 (by decide) (by decide) rfl (by decide) (op_word hG hI ht hi hL31 hc1 hk1 kk)
        · exact Lv_tableIn 749 dL_law_49 (by decide) (by decide) rfl (by decide) (op_client hG hI ht hi hL31 hc1 hk1 kk)
        · exact Lv_tableIn 786 dL_law_49 (by decide) (by decide) rfl (by decide) (op_answer hG hI ht hi hL31 hc1 hk1 kk)
        · exact Lv_tableIn 811 dL_law_49 (by decide) (by decide) rfl (by decide) (op_about hG hI ht hi hL31 hc1 hk1 kk)
        · exact Lv_tableIn 836 dL_law_49 (by decide) (by decide) rfl (by decide) (op_message hG hI ht hi hL31 hc1 hk1 kk)
        · exact Lv_tableIn 873 dL_law_49 (by decide) (by decide) rfl (by decide) (op_broken hG hI ht hi hL31 hc1 hk1 kk)
      · refine Lv_tableOut 886 dL_law_49 (Or.inr ?_) (by decide) ?_
        · rw [nI_toInt (by omega)]
          omega
        · exact kk σ μ o c k (hI.up ht) (by omega) (by omega)
end LAWL
