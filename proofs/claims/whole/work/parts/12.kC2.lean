def rm_X6_isEnough : Room := { frames := 1, cells := 0, slots := 0, locals := 20 }
set_option maxRecDepth 100000 in
set_option maxHeartbeats 4000000 in
theorem k_X6_isEnough {G : Gm} {μ : Mu} {o : Int64} {r : Int32} {σ : Hp} {a0 : Nat} {a1 : Int32} (h : f_X6_isEnough σ a0 a1 = some r) : Ci G yX6_isEnough cX6_isEnough 2 (some .boolean) rm_X6_isEnough [.ref a0, .int a1] (σ, μ, o) r (σ, μ, o) 0 0 := by
  refine v_entI [(0, .ref a0), (1, .int a1)] (by decide +kernel) (Nat.le_of_ble_eq_true rfl) rfl ?_
  unfold f_X6_isEnough at h
  refine v_iload_n 1 rfl dX6_isEnough_0 rfl ?_
  obtain ⟨v1, e1, h⟩ := o_b h
  refine v_Si (as := [.int a1]) (st := []) (c' := 0) (k' := 0) (k_J6_bitCount_0f7a4 e1) mk_J6_bitCount_0f7a4 qs_J6_bitCount_0f7a4 qm_RX6_291 (ck rfl) rfl dX6_isEnough_1 rfl rfl rfl ?_
  refine v_aload_n 0 rfl dX6_isEnough_4 rfl ?_
  obtain ⟨v5, e5, h⟩ := o_b h
  refine v_getI e5 (by decide) (by decide) rfl qf_RX6_44 dX6_isEnough_5 rfl ?_
  refine v_iconst (v := (2 : Int32)) (by decide) dX6_isEnough_8 rfl ?_
  refine v_idiv (by decide) dX6_isEnough_9 rfl ?_
  refine v_icmp_lt 17 dX6_isEnough_10 (by decide) rfl (fun c10 => ?_) (fun c10 => ?_)
  · have h := o_p c10 h
    refine v_iconst (v := (0 : Int32)) (by decide) dX6_isEnough_17 rfl ?_
    obtain rfl := Option.some.inj h
    exact v_iret rfl rfl (Nat.le_of_ble_eq_true rfl) (Nat.le_of_ble_eq_true rfl) dX6_isEnough_18
  · have h := o_n c10 h
    refine v_iconst (v := (1 : Int32)) (by decide) dX6_isEnough_13 rfl ?_
    refine v_goto (q := 18) dX6_isEnough_14 (by decide) ?_
    obtain rfl := Option.some.inj h
    exact v_iret rfl rfl (Nat.le_of_ble_eq_true rfl) (Nat.le_of_ble_eq_true rfl) dX6_isEnough_18
def rm_X8_hasTurned : Room := { frames := 0, cells := 0, slots := 0, locals := 0 }
set_option maxRecDepth 100000 in
set_option maxHeartbeats 4000000 in
theorem k_X8_hasTurned {G : Gm} {μ : Mu} {o : Int64} {r : Int32} {σ : Hp} {a0 : Nat} {a1 : Int32} (h : f_X8_hasTurned σ a0 a1 = some r) : Ci G yX8_hasTurned cX8_hasTurned 2 (some .boolean) rm_X8_hasTurned [.ref a0, .int a1] (σ, μ, o) r (σ, μ, o) 0 0 := by
  refine v_entI [(0, .ref a0), (1, .int a1)] (by decide +kernel) (Nat.le_of_ble_eq_true rfl) rfl ?_
  unfold f_X8_hasTurned at h
  refine v_aload_n 0 rfl dX8_hasTurned_0 rfl ?_
  obtain ⟨v1, e1, h⟩ := o_b h
  refine v_getI e1 (by decide) (by decide) rfl qf_RX8_33 dX8_hasTurned_1 rfl ?_
  refine v_iconst (v := (1 : Int32)) (by decide) dX8_hasTurned_4 rfl ?_
  refine v_iload_n 1 rfl dX8_hasTurned_5 rfl ?_
  refine v_ishl dX8_hasTurned_6 rfl ?_
  refine v_iand dX8_hasTurned_7 rfl ?_
  refine v_if_eq 15 dX8_hasTurned_8 (by decide) rfl (fun c8 => ?_) (fun c8 => ?_)
  · have h := o_p c8 h
    refine v_iconst (v := (0 : Int32)) (by decide) dX8_hasTurned_15 rfl ?_
    obtain rfl := Option.some.inj h
    exact v_iret rfl rfl (Nat.le_of_ble_eq_true rfl) (Nat.le_of_ble_eq_true rfl) dX8_hasTurned_16
  · have h := o_n c8 h
    refine v_iconst (v := (1 : Int32)) (by decide) dX8_hasTurned_11 rfl ?_
    refine v_goto (q := 16) dX8_hasTurned_12 (by decide) ?_
    obtain rfl := Option.some.inj h
    exact v_iret rfl rfl (Nat.le_of_ble_eq_true rfl) (Nat.le_of_ble_eq_true rfl) dX8_hasTurned_16
def rm_X9_isLater : Room := { frames := 0, cells := 0, slots := 0, locals := 0 }
set_option maxRecDepth 100000 in
set_option maxHeartbeats 4000000 in
theorem k_X9_isLater {G : Gm} {μ : Mu} {o : Int64} {r : Int32} {σ : Hp} {a0 : Nat} {a1 : Nat} (h : f_X9_isLater σ a0 a1 = some r) : Ci G yX9_isLater cX9_isLater 2 (some .boolean) rm_X9_isLater [.ref a0, .ref a1] (σ, μ, o) r (σ, μ, o) 0 0 := by
  refine v_entI [(0, .ref a0), (1, .ref a1)] (by decide +kernel) (Nat.le_of_ble_eq_true rfl) rfl ?_
  unfold f_X9_isLater at h
  refine v_aload_n 0 rfl dX9_isLater_0 rfl ?_
  obtain ⟨v1, e1, h⟩ := o_b h
  refine v_getI e1 (by decide) (by decide) rfl qf_RX9_13 dX9_isLater_1 rfl ?_
  refine v_aload_n 1 rfl dX9_isLater_4 rfl ?_
  obtain ⟨v5, e5, h⟩ := o_b h
  refine v_getI e5 (by decide) (by decide) rfl qf_RX9_13 dX9_isLater_5 rfl ?_
  refine v_icmp_gt 33 dX9_isLater_8 (by decide) rfl (fun c8 => ?_) (fun c8 => ?_)
  · have h := o_p c8 h
    refine v_iconst (v := (1 : Int32)) (by decide) dX9_isLater_33 rfl ?_
    refine v_goto (q := 38) dX9_isLater_34 (by decide) ?_
    obtain rfl := Option.some.inj h
    exact v_iret rfl rfl (Nat.le_of_ble_eq_true rfl) (Nat.le_of_ble_eq_true rfl) dX9_isLater_38
  · have h := o_n c8 h
    refine v_aload_n 0 rfl dX9_isLater_11 rfl ?_
    obtain ⟨v12, e12, h⟩ := o_b h
    refine v_getI e12 (by decide) (by decide) rfl qf_RX9_13 dX9_isLater_12 rfl ?_
    refine v_aload_n 1 rfl dX9_isLater_15 rfl ?_
    obtain ⟨v16, e16, h⟩ := o_b h
    refine v_getI e16 (by decide) (by decide) rfl qf_RX9_13 dX9_isLater_16 rfl ?_
    refine v_icmp_ne 37 dX9_isLater_19 (by decide) rfl (fun c19 => ?_) (fun c19 => ?_)
    · have h := o_n c19 h
      refine v_iconst (v := (0 : Int32)) (by decide) dX9_isLater_37 rfl ?_
      obtain rfl := Option.some.inj h
      exact v_iret rfl rfl (Nat.le_of_ble_eq_true rfl) (Nat.le_of_ble_eq_true rfl) dX9_isLater_38
    · have h := o_p c19 h
      refine v_aload_n 0 rfl dX9_isLater_22 rfl ?_
      obtain ⟨v23, e23, h⟩ := o_b h
      refine v_getI e23 (by decide) (by decide) rfl qf_RX9_7 dX9_isLater_23 rfl ?_
      refine v_aload_n 1 rfl dX9_isLater_26 rfl ?_
      obtain ⟨v27, e27, h⟩ := o_b h
      refine v_getI e27 (by decide) (by decide) rfl qf_RX9_7 dX9_isLater_27 rfl ?_
      refine v_icmp_le 37 dX9_isLater_30 (by decide) rfl (fun c30 => ?_) (fun c30 => ?_)
      · have h := o_p c30 h
        refine v_iconst (v := (0 : Int32)) (by decide) dX9_isLater_37 rfl ?_
        obtain rfl := Option.some.inj h
        exact v_iret rfl rfl (Nat.le_of_ble_eq_true rfl) (Nat.le_of_ble_eq_true rfl) dX9_isLater_38
      · have h := o_n c30 h
        refine v_iconst (v := (1 : Int32)) (by decide) dX9_isLater_33 rfl ?_
        refine v_goto (q := 38) dX9_isLater_34 (by decide) ?_
        obtain rfl := Option.some.inj h
        exact v_iret rfl rfl (Nat.le_of_ble_eq_true rfl) (Nat.le_of_ble_eq_true rfl) dX9_isLater_38
def rm_X6_isMerged : Room := { frames := 1, cells := 0, slots := 0, locals := 21 }
set_option maxRecDepth 100000 in
set_option maxHeartbeats 4000000 in
theorem k_X6_isMerged {G : Gm} {μ : Mu} {o : Int64} {r : Int32} {σ : Hp} {a0 : Nat} {a1 : Int32} {a2 : Nat} (h : f_X6_isMerged σ a0 a1 a2 = some r) : Ci G yX6_isMerged cX6_isMerged 3 (some .boolean) rm_X6_isMerged [.ref a0, .int a1, .ref a2] (σ, μ, o) r (σ, μ, o) 0 0 := by
  refine v_entI [(0, .ref a0), (1, .int a1), (2, .ref a2)] (by decide +kernel) (Nat.le_of_ble_eq_true rfl) rfl ?_
  unfold f_X6_isMerged at h
  refine v_aload_n 0 rfl dX6_isMerged_0 rfl ?_
  obtain ⟨v1, e1, h⟩ := o_b h
  refine v_getR e1 (by decide) (by decide) rfl qf_RX6_64 dX6_isMerged_1 rfl ?_
  refine v_iload_n 1 rfl dX6_isMerged_4 rfl ?_
  obtain ⟨⟨⟩, g5, h⟩ := o_b h
  obtain ⟨v5, e5, h⟩ := o_b h
  refine v_Vi (as := [.int a1]) (st := []) (c' := 0) (k' := 0) (k_X8_hasTurned e5) (rcv_c g5 (by decide) rfl) mk_X8_hasTurned qi_X8_hasTurned qe_X8_hasTurned qm_RX6_266 (ck rfl) rfl dX6_isMerged_5 rfl rfl rfl ?_
  refine v_if_eq 31 dX6_isMerged_8 (by decide) rfl (fun c8 => ?_) (fun c8 => ?_)
  · have h := o_p c8 h
    refine v_iconst (v := (0 : Int32)) (by decide) dX6_isMerged_31 rfl ?_
    obtain rfl := Option.some.inj h
    exact v_iret rfl rfl (Nat.le_of_ble_eq_true rfl) (Nat.le_of_ble_eq_true rfl) dX6_isMerged_32
  · have h := o_n c8 h
    refine v_aload_n 0 rfl dX6_isMerged_11 rfl ?_
    obtain ⟨v12, e12, h⟩ := o_b h
    refine v_getR e12 (by decide) (by decide) rfl qf_RX6_64 dX6_isMerged_12 rfl ?_
    obtain ⟨v15, e15, h⟩ := o_b h
    refine v_getR e15 (by decide) (by decide) rfl qf_RX6_269 dX6_isMerged_15 rfl ?_
    refine v_iload_n 1 rfl dX6_isMerged_18 rfl ?_
    obtain ⟨v19, e19, h⟩ := o_b h
    refine v_aR e19 (by decide) (by decide) rfl dX6_isMerged_19 rfl ?_
    refine v_aload_n 2 rfl dX6_isMerged_20 rfl ?_
    obtain ⟨⟨⟩, g21, h⟩ := o_b h
    obtain ⟨v21, e21, h⟩ := o_b h
    refine v_Vi (as := [.ref a2]) (st := []) (c' := 0) (k' := 0) (k_X9_isSame e21) (rcv_c g21 (by decide) rfl) mk_X9_isSame qi_X9_isSame qe_X9_isSame qm_RX6_151 (ck rfl) rfl dX6_isMerged_21 rfl rfl rfl ?_
    refine v_if_eq 31 dX6_isMerged_24 (by decide) rfl (fun c24 => ?_) (fun c24 => ?_)
    · have h := o_p c24 h
      refine v_iconst (v := (0 : Int32)) (by decide) dX6_isMerged_31 rfl ?_
      obtain rfl := Option.some.inj h
      exact v_iret rfl rfl (Nat.le_of_ble_eq_true rfl) (Nat.le_of_ble_eq_true rfl) dX6_isMerged_32
    · have h := o_n c24 h
      refine v_iconst (v := (1 : Int32)) (by decide) dX6_isMerged_27 rfl ?_
      refine v_goto (q := 32) dX6_isMerged_28 (by decide) ?_
      obtain rfl := Option.some.inj h
      exact v_iret rfl rfl (Nat.le_of_ble_eq_true rfl) (Nat.le_of_ble_eq_true rfl) dX6_isMerged_32
def rm_X6_mergedEntry : Room := { frames := 2, cells := 0, slots := 0, locals := 43 }
set_option maxRecDepth 100000 in
set_option maxHeartbeats 4000000 in
theorem l_X6_mergedEntry_92 {G : Gm} {μ : Mu} {o : Int64} {r : Int32} {σ : Hp} {rec22 : Hp → Nat → Int32 → Nat → Int32 → Int32 → Int32 → Option Int32} (h22 : ∀ {x0 : Nat} {x1 : Int32} {x2 : Nat} {x3 : Int32} {x4 : Int32} {x5 : Int32} , rec22 σ x0 x1 x2 x3 x4 x5 = some r → V G yX6_mergedEntry cX6_mergedEntry 7 (some .int) rm_X6_mergedEntry (zI G r (σ, μ, o) 0 0) (σ, μ, o) 0 0 22 [(0, .ref x0), (1, .int x1), (2, .ref x2), (3, .int x3), (4, .int x4), (5, .int x5)] []) {x0 : Nat} {x1 : Int32} {x2 : Nat} {x3 : Int32} {x4 : Int32} {x5 : Int32} (h : f_X6_mergedEntry_92 rec22 σ x0 x1 x2 x3 x4 x5 = some r) : V G yX6_mergedEntry cX6_mergedEntry 7 (some .int) rm_X6_mergedEntry (zI G r (σ, μ, o) 0 0) (σ, μ, o) 0 0 92 [(0, .ref x0), (1, .int x1), (2, .ref x2), (3, .int x3), (4, .int x4), (5, .int x5)] [] := by
  unfold f_X6_mergedEntry_92 at h
  refine v_iinc (v := (x5 + 1)) [(5, .int (x5 + 1)), (0, .ref x0), (1, .int x1), (2, .ref x2), (3, .int x3), (4, .int x4)] 5 rfl rfl dX6_mergedEntry_92 rfl (by decide) rfl ?_
  refine v_goto (q := 22) dX6_mergedEntry_95 (by decide) ?_
  refine v_sub [1, 2, 3, 4, 5, 0] rfl ?_
  exact h22 h
set_option maxRecDepth 100000 in
set_option maxHeartbeats 4000000 in
theorem l_X6_mergedEntry_90 {G : Gm} {μ : Mu} {o : Int64} {r : Int32} {σ : Hp} {rec22 : Hp → Nat → Int32 → Nat → Int32 → Int32 → Int32 → Option Int32} (h22 : ∀ {x0 : Nat} {x1 : Int32} {x2 : Nat} {x3 : Int32} {x4 : Int32} {x5 : Int32} , rec22 σ x0 x1 x2 x3 x4 x5 = some r → V G yX6_mergedEntry cX6_mergedEntry 7 (some .int) rm_X6_mergedEntry (zI G r (σ, μ, o) 0 0) (σ, μ, o) 0 0 22 [(0, .ref x0), (1, .int x1), (2, .ref x2), (3, .int x3), (4, .int x4), (5, .int x5)] []) {x0 : Nat} {x1 : Int32} {x2 : Nat} {x4 : Int32} {x5 : Int32} (h : f_X6_mergedEntry_90 rec22 σ x0 x1 x2 x4 x5 = some r) : V G yX6_mergedEntry cX6_mergedEntry 7 (some .int) rm_X6_mergedEntry (zI G r (σ, μ, o) 0 0) (σ, μ, o) 0 0 90 [(0, .ref x0), (1, .int x1), (2, .ref x2), (4, .int x4), (5, .int x5)] [] := by
  unfold f_X6_mergedEntry_90 at h
  refine v_iconst (v := (1 : Int32)) (by decide) dX6_mergedEntry_90 rfl ?_
  refine v_istore_n [(3, .int (1 : Int32)), (0, .ref x0), (1, .int x1), (2, .ref x2), (4, .int x4), (5, .int x5)] dX6_mergedEntry_91 rfl (by decide) rfl ?_
  refine v_sub [1, 2, 3, 0, 4, 5] rfl ?_
  exact l_X6_mergedEntry_92 h22 h
set_option maxRecDepth 100000 in
set_option maxHeartbeats 4000000 in
theorem l_X6_mergedEntry_86 {G : Gm} {μ : Mu} {o : Int64} {r : Int32} {σ : Hp} {rec22 : Hp → Nat → Int32 → Nat → Int32 → Int32 → Int32 → Option Int32} (h22 : ∀ {x0 : Nat} {x1 : Int32} {x2 : Nat} {x3 : Int32} {x4 : Int32} {x5 : Int32} , rec22 σ x0 x1 x2 x3 x4 x5 = some r → V G yX6_mergedEntry cX6_mergedEntry 7 (some .int) rm_X6_mergedEntry (zI G r (σ, μ, o) 0 0) (σ, μ, o) 0 0 22 [(0, .ref x0), (1, .int x1), (2, .ref x2), (3, .int x3), (4, .int x4), (5, .int x5)] []) {x0 : Nat} {x1 : Int32} {x2 : Nat} {x5 : Int32} {x6 : Int32} (h : f_X6_mergedEntry_86 rec22 σ x0 x1 x2 x5 x6 = some r) : V G yX6_mergedEntry cX6_mergedEntry 7 (some .int) rm_X6_mergedEntry (zI G r (σ, μ, o) 0 0) (σ, μ, o) 0 0 86 [(0, .ref x0), (1, .int x1), (2, .ref x2), (5, .int x5), (6, .int x6)] [] := by
  unfold f_X6_mergedEntry_86 at h
  refine v_iload 4 rfl dX6_mergedEntry_86 rfl ?_
  refine v_istore [(4, .int x6), (0, .ref x0), (1, .int x1), (2, .ref x2), (5, .int x5), (6, .int x6)] dX6_mergedEntry_88 rfl (by decide) rfl ?_
  refine v_sub [1, 2, 3, 0, 4] rfl ?_
  exact l_X6_mergedEntry_90 h22 h
set_option maxRecDepth 100000 in
set_option maxHeartbeats 4000000 in
theorem l_X6_mergedEntry_22 {G : Gm} {μ : Mu} {o : Int64} {r : Int32} {σ : Hp} : ∀ (n : Nat) {x0 : Nat} {x1 : Int32} {x2 : Nat} {x3 : Int32} {x4 : Int32} {x5 : Int32} , f_X6_mergedEntry_22 n σ x0 x1 x2 x3 x4 x5 = some r → V G yX6_mergedEntry cX6_mergedEntry 7 (some .int) rm_X6_mergedEntry (zI G r (σ, μ, o) 0 0) (σ, μ, o) 0 0 22 [(0, .ref x0), (1, .int x1), (2, .ref x2), (3, .int x3), (4, .int x4), (5, .int x5)] [] := by
  intro n
  induction n with
  | zero => intro _ _ _ _ _ _ h; cases h
  | succ n ih =>
    intro x0 x1 x2 x3 x4 x5 h
    replace h : b_X6_mergedEntry_22 (f_X6_mergedEntry_22 n) σ x0 x1 x2 x3 x4 x5 = some r := h
    unfold b_X6_mergedEntry_22 at h
    refine v_iload 5 rfl dX6_mergedEntry_22 rfl ?_
    refine v_aload_n 0 rfl dX6_mergedEntry_24 rfl ?_
    obtain ⟨v25, e25, h⟩ := o_b h
    refine v_getI e25 (by decide) (by decide) rfl qf_RX6_44 dX6_mergedEntry_25 rfl ?_
    refine v_icmp_ge 98 dX6_mergedEntry_28 (by decide) rfl (fun c28 => ?_) (fun c28 => ?_)
    · have h := o_p c28 h
      refine v_iload 4 rfl dX6_mergedEntry_98 rfl ?_
      obtain rfl := Option.some.inj h
      exact v_iret rfl rfl (Nat.le_of_ble_eq_true rfl) (Nat.le_of_ble_eq_true rfl) dX6_mergedEntry_100
    · have h := o_n c28 h
      refine v_aload_n 0 rfl dX6_mergedEntry_31 rfl ?_
      refine v_iload 5 rfl dX6_mergedEntry_32 rfl ?_
      refine v_aload_n 2 rfl dX6_mergedEntry_34 rfl ?_
      obtain ⟨⟨⟩, g35, h⟩ := o_b h
      obtain ⟨v35, e35, h⟩ := o_b h
      refine v_Vi (as := [.int x5, .ref x2]) (st := []) (c' := 0) (k' := 0) (k_X6_isMerged e35) (rcv_c g35 (by decide) rfl) mk_X6_isMerged qi_X6_isMerged qe_X6_isMerged qm_RX6_276 (ck rfl) rfl dX6_mergedEntry_35 rfl rfl rfl ?_
      refine v_if_eq 92 dX6_mergedEntry_38 (by decide) rfl (fun c38 => ?_) (fun c38 => ?_)
      · have h := o_p c38 h
        exact l_X6_mergedEntry_92 (fun h => ih h) h
      · have h := o_n c38 h
        refine v_aload_n 0 rfl dX6_mergedEntry_41 rfl ?_
        obtain ⟨v42, e42, h⟩ := o_b h
        refine v_getR e42 (by decide) (by decide) rfl qf_RX6_64 dX6_mergedEntry_42 rfl ?_
        obtain ⟨v45, e45, h⟩ := o_b h
        refine v_getR e45 (by decide) (by decide) rfl qf_RX6_280 dX6_mergedEntry_45 rfl ?_
        refine v_iload 5 rfl dX6_mergedEntry_48 rfl ?_
        obtain ⟨v50, e50, h⟩ := o_b h
        refine v_aR e50 (by decide) (by decide) rfl dX6_mergedEntry_50 rfl ?_
        refine v_iload_n 1 rfl dX6_mergedEntry_51 rfl ?_
        obtain ⟨⟨⟩, g52, h⟩ := o_b h
        obtain ⟨v52, e52, h⟩ := o_b h
        refine v_Vi (as := [.int x1]) (st := []) (c' := 0) (k' := 0) (k_X4_has e52) (rcv_c g52 (by decide) rfl) mk_X4_has qi_X4_has qe_X4_has qm_RX6_189 (ck rfl) rfl dX6_mergedEntry_52 rfl rfl rfl ?_
        refine v_if_ne 61 dX6_mergedEntry_55 (by decide) rfl (fun c55 => ?_) (fun c55 => ?_)
        · have h := o_n c55 h
          refine v_aload_n 0 rfl dX6_mergedEntry_61 rfl ?_
          obtain ⟨v62, e62, h⟩ := o_b h
          refine v_getR e62 (by decide) (by decide) rfl qf_RX6_64 dX6_mergedEntry_62 rfl ?_
          obtain ⟨v65, e65, h⟩ := o_b h
          refine v_getR e65 (by decide) (by decide) rfl qf_RX6_280 dX6_mergedEntry_65 rfl ?_
          refine v_iload 5 rfl dX6_mergedEntry_68 rfl ?_
          obtain ⟨v70, e70, h⟩ := o_b h
          refine v_aR e70 (by decide) (by decide) rfl dX6_mergedEntry_70 rfl ?_
          refine v_iload_n 1 rfl dX6_mergedEntry_71 rfl ?_
          obtain ⟨⟨⟩, g72, h⟩ := o_b h
          obtain ⟨v72, e72, h⟩ := o_b h
          refine v_Vi (as := [.int x1]) (st := []) (c' := 0) (k' := 0) (k_X4_at e72) (rcv_c g72 (by decide) rfl) mk_X4_at qi_X4_at qe_X4_at qm_RX6_190 (ck rfl) rfl dX6_mergedEntry_72 rfl rfl rfl ?_
          refine v_istore [(6, .int v72), (0, .ref x0), (1, .int x1), (2, .ref x2), (3, .int x3), (4, .int x4), (5, .int x5)] dX6_mergedEntry_75 rfl (by decide) rfl ?_
          refine v_iload_n 4 rfl dX6_mergedEntry_77 rfl ?_
          refine v_if_eq 86 dX6_mergedEntry_78 (by decide) rfl (fun c78 => ?_) (fun c78 => ?_)
          · have h := o_p c78 h
            refine v_sub [1, 2, 3, 6, 0] rfl ?_
            exact l_X6_mergedEntry_86 (fun h => ih h) h
          · have h := o_n c78 h
            refine v_iload 0 rfl dX6_mergedEntry_81 rfl ?_
            refine v_if_ne 90 dX6_mergedEntry_83 (by decide) rfl (fun c83 => ?_) (fun c83 => ?_)
            · have h := o_n c83 h
              refine v_sub [1, 2, 3, 5, 6] rfl ?_
              exact l_X6_mergedEntry_90 (fun h => ih h) h
            · have h := o_p c83 h
              refine v_sub [1, 2, 3, 6, 0] rfl ?_
              exact l_X6_mergedEntry_86 (fun h => ih h) h
        · have h := o_p c55 h
          refine v_goto (q := 92) dX6_mergedEntry_58 (by decide) ?_
          exact l_X6_mergedEntry_92 (fun h => ih h) h
set_option maxRecDepth 100000 in
set_option maxHeartbeats 4000000 in
theorem k_X6_mergedEntry {G : Gm} {μ : Mu} {o : Int64} {r : Int32} {σ : Hp} {a0 : Nat} {a1 : Int32} {a2 : Nat} (h : f_X6_mergedEntry σ a0 a1 a2 = some r) : Ci G yX6_mergedEntry cX6_mergedEntry 7 (some .int) rm_X6_mergedEntry [.ref a0, .int a1, .ref a2] (σ, μ, o) r (σ, μ, o) 0 0 := by
  refine v_entI [(0, .ref a0), (1, .int a1), (2, .ref a2)] (by decide +kernel) (Nat.le_of_ble_eq_true rfl) rfl ?_
  unfold f_X6_mergedEntry at h
  refine v_aload_n 0 rfl dX6_mergedEntry_0 rfl ?_
  obtain ⟨v1, e1, h⟩ := o_b h
  refine v_getR e1 (by decide) (by decide) rfl qf_RX6_12 dX6_mergedEntry_1 rfl ?_
  refine v_iload_n 1 rfl dX6_mergedEntry_4 rfl ?_
  obtain ⟨⟨⟩, g5, h⟩ := o_b h
  obtain ⟨v5, e5, h⟩ := o_b h
  refine v_Vi (as := [.int a1]) (st := []) (c' := 0) (k' := 0) (k_X4_has e5) (rcv_c g5 (by decide) rfl) mk_X4_has qi_X4_has qe_X4_has qm_RX6_189 (ck rfl) rfl dX6_mergedEntry_5 rfl rfl rfl ?_
  refine v_istore_n [(3, .int v5), (0, .ref a0), (1, .int a1), (2, .ref a2)] dX6_mergedEntry_8 rfl (by decide) rfl ?_
  refine v_aload_n 1 rfl dX6_mergedEntry_9 rfl ?_
  obtain ⟨v10, e10, h⟩ := o_b h
  refine v_getR e10 (by decide) (by decide) rfl qf_RX6_12 dX6_mergedEntry_10 rfl ?_
  refine v_iload_n 2 rfl dX6_mergedEntry_13 rfl ?_
  obtain ⟨⟨⟩, g14, h⟩ := o_b h
  obtain ⟨v14, e14, h⟩ := o_b h
  refine v_Vi (as := [.int a1]) (st := []) (c' := 0) (k' := 0) (k_X4_at e14) (rcv_c g14 (by decide) rfl) mk_X4_at qi_X4_at qe_X4_at qm_RX6_190 (ck rfl) rfl dX6_mergedEntry_14 rfl rfl rfl ?_
  refine v_istore [(4, .int v14), (3, .int v5), (0, .ref a0), (1, .int a1), (2, .ref a2)] dX6_mergedEntry_17 rfl (by decide) rfl ?_
  refine v_iconst (v := (0 : Int32)) (by decide) dX6_mergedEntry_19 rfl ?_
  refine v_istore [(5, .int (0 : Int32)), (4, .int v14), (3, .int v5), (0, .ref a0), (1, .int a1), (2, .ref a2)] dX6_mergedEntry_20 rfl (by decide) rfl ?_
  refine v_sub [3, 4, 5, 2, 1, 0] rfl ?_
  exact l_X6_mergedEntry_22 _ h
def rm_X6_mergeLogs : Room := { frames := 3, cells := 0, slots := 0, locals := 69 }
set_option maxRecDepth 100000 in
set_option maxHeartbeats 4000000 in
theorem l_X6_mergeLogs_174 {G : Gm} {μ : Mu} {o : Int64} {σ' : Hp} {σ : Hp} {x0 : Nat} {x1 : Nat} {x2 : Int32} {x3 : Int32} {x4 : Int32} (h : f_X6_mergeLogs_174 σ x0 x1 x2 x3 x4 = some σ') : V G yX6_mergeLogs cX6_mergeLogs 6 none rm_X6_mergeLogs (zV G (σ', μ, o) 0 0) (σ, μ, o) 0 0 174 [(0, .ref x0), (1, .ref x1), (2, .int x2), (3, .int x3), (4, .int x4)] [] := by
  unfold f_X6_mergeLogs_174 at h
  refine v_aload_n 1 rfl dX6_mergeLogs_174 rfl ?_
  obtain ⟨v175, e175, h⟩ := o_b h
  refine v_getI e175 (by decide) (by decide) rfl qf_RX6_119 dX6_mergeLogs_175 rfl ?_
  refine v_aload_n 0 rfl dX6_mergeLogs_178 rfl ?_
  obtain ⟨v179, e179, h⟩ := o_b h
  refine v_getR e179 (by decide) (by decide) rfl qf_RX6_34 dX6_mergeLogs_179 rfl ?_
  obtain ⟨v182, e182, h⟩ := o_b h
  refine v_getI e182 (by decide) (by decide) rfl qf_RX6_119 dX6_mergeLogs_182 rfl ?_
  refine v_icmp_eq 197 dX6_mergeLogs_185 (by decide) rfl (fun c185 => ?_) (fun c185 => ?_)
  · have h := o_p c185 h
    refine v_iload_n 2 rfl dX6_mergeLogs_197 rfl ?_
    refine v_if_ne 219 dX6_mergeLogs_198 (by decide) rfl (fun c198 => ?_) (fun c198 => ?_)
    · have h := o_n c198 h
      obtain rfl := Option.some.inj h
      exact v_vret rfl (Nat.le_of_ble_eq_true rfl) (Nat.le_of_ble_eq_true rfl) dX6_mergeLogs_219
    · have h := o_p c198 h
      refine v_iload_n 3 rfl dX6_mergeLogs_201 rfl ?_
      refine v_iconst (v := (-1 : Int32)) (by decide) dX6_mergeLogs_202 rfl ?_
      refine v_icmp_eq 219 dX6_mergeLogs_203 (by decide) rfl (fun c203 => ?_) (fun c203 => ?_)
      · have h := o_p c203 h
        obtain rfl := Option.some.inj h
        exact v_vret rfl (Nat.le_of_ble_eq_true rfl) (Nat.le_of_ble_eq_true rfl) dX6_mergeLogs_219
      · have h := o_n c203 h
        refine v_aload_n 0 rfl dX6_mergeLogs_206 rfl ?_
        refine v_aload_n 0 rfl dX6_mergeLogs_207 rfl ?_
        obtain ⟨v208, e208, h⟩ := o_b h
        refine v_getR e208 (by decide) (by decide) rfl qf_RX6_64 dX6_mergeLogs_208 rfl ?_
        obtain ⟨v211, e211, h⟩ := o_b h
        refine v_getR e211 (by decide) (by decide) rfl qf_RX6_288 dX6_mergeLogs_211 rfl ?_
        refine v_iload_n 3 rfl dX6_mergeLogs_214 rfl ?_
        obtain ⟨v215, e215, h⟩ := o_b h
        refine v_aI e215 dX6_mergeLogs_215 rfl ?_
        obtain ⟨s216, e216, h⟩ := o_b h
        refine v_putI e216 (by decide) (by decide) rfl rfl rfl rfl rfl qf_RX6_124 dX6_mergeLogs_216 rfl ?_
        obtain rfl := Option.some.inj h
        exact v_vret rfl (Nat.le_of_ble_eq_true rfl) (Nat.le_of_ble_eq_true rfl) dX6_mergeLogs_219
  · have h := o_n c185 h
    refine v_aload_n 0 rfl dX6_mergeLogs_188 rfl ?_
    refine v_iload 4 rfl dX6_mergeLogs_189 rfl ?_
    obtain ⟨s191, e191, h⟩ := o_b h
    refine v_putI e191 (by decide) (by decide) rfl rfl rfl rfl rfl qf_RX6_124 dX6_mergeLogs_191 rfl ?_
    refine v_goto (q := 219) dX6_mergeLogs_194 (by decide) ?_
    obtain rfl := Option.some.inj h
    exact v_vret rfl (Nat.le_of_ble_eq_true rfl) (Nat.le_of_ble_eq_true rfl) dX6_mergeLogs_219
set_option maxRecDepth 100000 in
set_option maxHeartbeats 4000000 in
theorem l_X6_mergeLogs_145 {G : Gm} {μ : Mu} {o : Int64} {σ' : Hp} : ∀ (n : Nat) {σ : Hp} {x0 : Nat} {x1 : Nat} {x2 : Int32} {x3 : Int32} {x4 : Int32} {x5 : Int32} , f_X6_mergeLogs_145 n σ x0 x1 x2 x3 x4 x5 = some σ' → V G yX6_mergeLogs cX6_mergeLogs 6 none rm_X6_mergeLogs (zV G (σ', μ, o) 0 0) (σ, μ, o) 0 0 145 [(0, .ref x0), (1, .ref x1), (2, .int x2), (3, .int x3), (4, .int x4), (5, .int x5)] [] := by
  intro n
  induction n with
  | zero => intro _ _ _ _ _ _ _ h; cases h
  | succ n ih =>
    intro σ x0 x1 x2 x3 x4 x5 h
    replace h : b_X6_mergeLogs_145 (f_X6_mergeLogs_145 n) σ x0 x1 x2 x3 x4 x5 = some σ' := h
    unfold b_X6_mergeLogs_145 at h
    refine v_iload 5 rfl dX6_mergeLogs_145 rfl ?_
    refine v_iload 4 rfl dX6_mergeLogs_147 rfl ?_
    refine v_icmp_gt 174 dX6_mergeLogs_149 (by decide) rfl (fun c149 => ?_) (fun c149 => ?_)
    · have h := o_p c149 h
      refine v_sub [0, 1, 2, 3, 4] rfl ?_
      exact l_X6_mergeLogs_174 h
    · have h := o_n c149 h
      refine v_aload_n 0 rfl dX6_mergeLogs_152 rfl ?_
      obtain ⟨v153, e153, h⟩ := o_b h
      refine v_getR e153 (by decide) (by decide) rfl qf_RX6_12 dX6_mergeLogs_153 rfl ?_
      refine v_iload 5 rfl dX6_mergeLogs_156 rfl ?_
      refine v_aload_n 0 rfl dX6_mergeLogs_158 rfl ?_
      refine v_iload 5 rfl dX6_mergeLogs_159 rfl ?_
      refine v_aload_n 1 rfl dX6_mergeLogs_161 rfl ?_
      obtain ⟨⟨⟩, g162, h⟩ := o_b h
      obtain ⟨v162, e162, h⟩ := o_b h
      refine v_Vi (as := [.int x5, .ref x1]) (st := [.int x5, .ref v153]) (c' := 0) (k' := 0) (k_X6_mergedEntry e162) (rcv_c g162 (by decide) rfl) mk_X6_mergedEntry qi_X6_mergedEntry qe_X6_mergedEntry qm_RX6_284 (ck rfl) rfl dX6_mergeLogs_162 rfl rfl rfl ?_
      obtain ⟨⟨⟩, g165, h⟩ := o_b h
      obtain ⟨v165, e165, h⟩ := o_b h
      refine v_Vv (as := [.int x5, .int v162]) (st := []) (c' := 0) (k' := 0) (k_X4_put e165) (rcv_c g165 (by decide) rfl) mk_X4_put qi_X4_put qe_X4_put qm_RX6_199 (ck rfl) rfl dX6_mergeLogs_165 rfl rfl rfl ?_
      refine v_iinc (v := (x5 + 1)) [(5, .int (x5 + 1)), (0, .ref x0), (1, .ref x1), (2, .int x2), (3, .int x3), (4, .int x4)] 5 rfl rfl dX6_mergeLogs_168 rfl (by decide) rfl ?_
      refine v_goto (q := 145) dX6_mergeLogs_171 (by decide) ?_
      refine v_sub [1, 2, 3, 4, 5, 0] rfl ?_
      exact ih h
set_option maxRecDepth 100000 in
set_option maxHeartbeats 4000000 in
theorem l_X6_mergeLogs_142 {G : Gm} {μ : Mu} {o : Int64} {σ' : Hp} {σ : Hp} {x0 : Nat} {x1 : Nat} {x2 : Int32} {x3 : Int32} {x4 : Int32} (h : f_X6_mergeLogs_142 σ x0 x1 x2 x3 x4 = some σ') : V G yX6_mergeLogs cX6_mergeLogs 6 none rm_X6_mergeLogs (zV G (σ', μ, o) 0 0) (σ, μ, o) 0 0 142 [(0, .ref x0), (1, .ref x1), (2, .int x2), (3, .int x3), (4, .int x4)] [] := by
  unfold f_X6_mergeLogs_142 at h
  refine v_iconst (v := (1 : Int32)) (by decide) dX6_mergeLogs_142 rfl ?_
  refine v_istore [(5, .int (1 : Int32)), (0, .ref x0), (1, .ref x1), (2, .int x2), (3, .int x3), (4, .int x4)] dX6_mergeLogs_143 rfl (by decide) rfl ?_
  refine v_sub [1, 2, 3, 4, 5, 0] rfl ?_
  exact l_X6_mergeLogs_145 _ h
set_option maxRecDepth 100000 in
set_option maxHeartbeats 4000000 in
theorem l_X6_mergeLogs_136 {G : Gm} {μ : Mu} {o : Int64} {σ' : Hp} {rec98 : Hp → Nat → Nat → Int32 → Int32 → Int32 → Int32 → Option Hp} (h98 : ∀ {σ : Hp} {x0 : Nat} {x1 : Nat} {x2 : Int32} {x3 : Int32} {x4 : Int32} {x5 : Int32} , rec98 σ x0 x1 x2 x3 x4 x5 = some σ' → V G yX6_mergeLogs cX6_mergeLogs 6 none rm_X6_mergeLogs (zV G (σ', μ, o) 0 0) (σ, μ, o) 0 0 98 [(0, .ref x0), (1, .ref x1), (2, .int x2), (3, .int x3), (4, .int x4), (5, .int x5)] []) {σ : Hp} {x0 : Nat} {x1 : Nat} {x2 : Int32} {x3 : Int32} {x4 : Int32} {x5 : Int32} (h : f_X6_mergeLogs_136 rec98 σ x0 x1 x2 x3 x4 x5 = some σ') : V G yX6_mergeLogs cX6_mergeLogs 6 none rm_X6_mergeLogs (zV G (σ', μ, o) 0 0) (σ, μ, o) 0 0 136 [(0, .ref x0), (1, .ref x1), (2, .int x2), (3, .int x3), (4, .int x4), (5, .int x5)] [] := by
  unfold f_X6_mergeLogs_136 at h
  refine v_iinc (v := (x5 - 1)) [(5, .int (x5 - 1)), (0, .ref x0), (1, .ref x1), (2, .int x2), (3, .int x3), (4, .int x4)] 5 rfl (iinc_m1 _) dX6_mergeLogs_136 rfl (by decide) rfl ?_
  refine v_goto (q := 98) dX6_mergeLogs_139 (by decide) ?_
  refine v_sub [1, 2, 3, 4, 5, 0] rfl ?_
  exact h98 h
set_option maxRecDepth 100000 in
set_option maxHeartbeats 4000000 in
theorem l_X6_mergeLogs_98 {G : Gm} {μ : Mu} {o : Int64} {σ' : Hp} : ∀ (n : Nat) {σ : Hp} {x0 : Nat} {x1 : Nat} {x2 : Int32} {x3 : Int32} {x4 : Int32} {x5 : Int32} , f_X6_mergeLogs_98 n σ x0 x1 x2 x3 x4 x5 = some σ' → V G yX6_mergeLogs cX6_mergeLogs 6 none rm_X6_mergeLogs (zV G (σ', μ, o) 0 0) (σ, μ, o) 0 0 98 [(0, .ref x0), (1, .ref x1), (2, .int x2), (3, .int x3), (4, .int x4), (5, .int x5)] [] := by
  intro n
  induction n with
  | zero => intro _ _ _ _ _ _ _ h; cases h
  | succ n ih =>
    intro σ x0 x1 x2 x3 x4 x5 h
    replace h : b_X6_mergeLogs_98 (f_X6_mergeLogs_98 n) σ x0 x1 x2 x3 x4 x5 = some σ' := h
    unfold b_X6_mergeLogs_98 at h
    refine v_iload 5 rfl dX6_mergeLogs_98 rfl ?_
    refine v_if_lt 142 dX6_mergeLogs_100 (by decide) rfl (fun c100 => ?_) (fun c100 => ?_)
    · have h := o_p c100 h
      refine v_sub [0, 1, 2, 3, 4] rfl ?_
      exact l_X6_mergeLogs_142 h
    · have h := o_n c100 h
      refine v_aload_n 0 rfl dX6_mergeLogs_103 rfl ?_
      refine v_iload 5 rfl dX6_mergeLogs_104 rfl ?_
      refine v_aload_n 1 rfl dX6_mergeLogs_106 rfl ?_
      obtain ⟨⟨⟩, g107, h⟩ := o_b h
      obtain ⟨v107, e107, h⟩ := o_b h
      refine v_Vi (as := [.int x5, .ref x1]) (st := []) (c' := 0) (k' := 0) (k_X6_isMerged e107) (rcv_c g107 (by decide) rfl) mk_X6_isMerged qi_X6_isMerged qe_X6_isMerged qm_RX6_276 (ck rfl) rfl dX6_mergeLogs_107 rfl rfl rfl ?_
      refine v_if_eq 136 dX6_mergeLogs_110 (by decide) rfl (fun c110 => ?_) (fun c110 => ?_)
      · have h := o_p c110 h
        exact l_X6_mergeLogs_136 (fun h => ih h) h
      · have h := o_n c110 h
        refine v_iload 5 rfl dX6_mergeLogs_113 rfl ?_
        refine v_istore_n [(3, .int x5), (0, .ref x0), (1, .ref x1), (2, .int x2), (4, .int x4), (5, .int x5)] dX6_mergeLogs_115 rfl (by decide) rfl ?_
        refine v_iload 4 rfl dX6_mergeLogs_116 rfl ?_
        refine v_aload_n 1 rfl dX6_mergeLogs_118 rfl ?_
        obtain ⟨v119, e119, h⟩ := o_b h
        refine v_getR e119 (by decide) (by decide) rfl qf_RX6_64 dX6_mergeLogs_119 rfl ?_
        obtain ⟨v122, e122, h⟩ := o_b h
        refine v_getR e122 (by decide) (by decide) rfl qf_RX6_280 dX6_mergeLogs_122 rfl ?_
        refine v_iload 5 rfl dX6_mergeLogs_125 rfl ?_
        obtain ⟨v127, e127, h⟩ := o_b h
        refine v_aR e127 (by decide) (by decide) rfl dX6_mergeLogs_127 rfl ?_
        obtain ⟨v128, e128, h⟩ := o_b h
        refine v_getI e128 (by decide) (by decide) rfl qf_RX6_81 dX6_mergeLogs_128 rfl ?_
        obtain ⟨v131, e131, h⟩ := o_b h
        refine v_Si (as := [.int x4, .int v128]) (st := []) (c' := 0) (k' := 0) (k_J9_max_7cf53 e131) mk_J9_max_7cf53 qs_J9_max_7cf53 qm_RX6_211 (ck rfl) rfl dX6_mergeLogs_131 rfl rfl rfl ?_
        refine v_istore [(4, .int v131), (3, .int x5), (0, .ref x0), (1, .ref x1), (2, .int x2), (5, .int x5)] dX6_mergeLogs_134 rfl (by decide) rfl ?_
        refine v_sub [2, 3, 4, 1, 0, 5] rfl ?_
        exact l_X6_mergeLogs_136 (fun h => ih h) h
set_option maxRecDepth 100000 in
set_option maxHeartbeats 4000000 in
theorem l_X6_mergeLogs_79 {G : Gm} {μ : Mu} {o : Int64} {σ' : Hp} {σ : Hp} {x0 : Nat} {x1 : Nat} {x2 : Int32} (h : f_X6_mergeLogs_79 σ x0 x1 x2 = some σ') : V G yX6_mergeLogs cX6_mergeLogs 6 none rm_X6_mergeLogs (zV G (σ', μ, o) 0 0) (σ, μ, o) 0 0 79 [(0, .ref x0), (1, .ref x1), (2, .int x2)] [] := by
  unfold f_X6_mergeLogs_79 at h
  refine v_iconst (v := (-1 : Int32)) (by decide) dX6_mergeLogs_79 rfl ?_
  refine v_istore_n [(3, .int (-1 : Int32)), (0, .ref x0), (1, .ref x1), (2, .int x2)] dX6_mergeLogs_80 rfl (by decide) rfl ?_
  refine v_aload_n 1 rfl dX6_mergeLogs_81 rfl ?_
  obtain ⟨v82, e82, h⟩ := o_b h
  refine v_getR e82 (by decide) (by decide) rfl qf_RX6_12 dX6_mergeLogs_82 rfl ?_
  obtain ⟨v85, e85, h⟩ := o_b h
  refine v_getI e85 (by decide) (by decide) rfl qf_RX6_81 dX6_mergeLogs_85 rfl ?_
  refine v_istore [(4, .int v85), (3, .int (-1 : Int32)), (0, .ref x0), (1, .ref x1), (2, .int x2)] dX6_mergeLogs_88 rfl (by decide) rfl ?_
  refine v_aload_n 2 rfl dX6_mergeLogs_90 rfl ?_
  obtain ⟨v91, e91, h⟩ := o_b h
  refine v_getI e91 (by decide) (by decide) rfl qf_RX6_44 dX6_mergeLogs_91 rfl ?_
  refine v_iconst (v := (1 : Int32)) (by decide) dX6_mergeLogs_94 rfl ?_
  refine v_isub dX6_mergeLogs_95 rfl ?_
  refine v_istore [(5, .int (v91 - (1 : Int32))), (4, .int v85), (3, .int (-1 : Int32)), (0, .ref x0), (1, .ref x1), (2, .int x2)] dX6_mergeLogs_96 rfl (by decide) rfl ?_
  refine v_sub [3, 4, 5, 2, 1, 0] rfl ?_
  exact l_X6_mergeLogs_98 _ h
set_option maxRecDepth 100000 in
set_option maxHeartbeats 4000000 in
theorem l_X6_mergeLogs_58 {G : Gm} {μ : Mu} {o : Int64} {σ' : Hp} {σ : Hp} {x0 : Nat} {x1 : Nat} (h : f_X6_mergeLogs_58 σ x0 x1 = some σ') : V G yX6_mergeLogs cX6_mergeLogs 6 none rm_X6_mergeLogs (zV G (σ', μ, o) 0 0) (σ, μ, o) 0 0 58 [(0, .ref x0), (1, .ref x1)] [] := by
  unfold f_X6_mergeLogs_58 at h
  refine v_aload_n 0 rfl dX6_mergeLogs_58 rfl ?_
  obtain ⟨v59, e59, h⟩ := o_b h
  refine v_getR e59 (by decide) (by decide) rfl qf_RX6_38 dX6_mergeLogs_59 rfl ?_
  refine v_aload_n 1 rfl dX6_mergeLogs_62 rfl ?_
  obtain ⟨⟨⟩, g63, h⟩ := o_b h
  obtain ⟨v63, e63, h⟩ := o_b h
  refine v_Vi (as := [.ref x1]) (st := []) (c' := 0) (k' := 0) (k_X9_isSame e63) (rcv_c g63 (by decide) rfl) mk_X9_isSame qi_X9_isSame qe_X9_isSame qm_RX6_151 (ck rfl) rfl dX6_mergeLogs_63 rfl rfl rfl ?_
  refine v_istore_n [(2, .int v63), (0, .ref x0), (1, .ref x1)] dX6_mergeLogs_66 rfl (by decide) rfl ?_
  refine v_iload_n 0 rfl dX6_mergeLogs_67 rfl ?_
  refine v_if_ne 79 dX6_mergeLogs_68 (by decide) rfl (fun c68 => ?_) (fun c68 => ?_)
  · have h := o_n c68 h
    refine v_sub [1, 2, 0] rfl ?_
    exact l_X6_mergeLogs_79 h
  · have h := o_p c68 h
    refine v_aload_n 1 rfl dX6_mergeLogs_71 rfl ?_
    obtain ⟨v72, e72, h⟩ := o_b h
    refine v_getR e72 (by decide) (by decide) rfl qf_RX6_12 dX6_mergeLogs_72 rfl ?_
    refine v_iconst (v := (0 : Int32)) (by decide) dX6_mergeLogs_75 rfl ?_
    obtain ⟨s76, e76, h⟩ := o_b h
    refine v_putI e76 (by decide) (by decide) rfl rfl rfl rfl rfl qf_RX6_81 dX6_mergeLogs_76 rfl ?_
    refine v_sub [1, 2, 0] rfl ?_
    exact l_X6_mergeLogs_79 h
set_option maxRecDepth 100000 in
set_option maxHeartbeats 4000000 in
theorem l_X6_mergeLogs_52 {G : Gm} {μ : Mu} {o : Int64} {σ' : Hp} {rec7 : Hp → Nat → Nat → Int32 → Option Hp} (h7 : ∀ {σ : Hp} {x0 : Nat} {x1 : Nat} {x2 : Int32} , rec7 σ x0 x1 x2 = some σ' → V G yX6_mergeLogs cX6_mergeLogs 6 none rm_X6_mergeLogs (zV G (σ', μ, o) 0 0) (σ, μ, o) 0 0 7 [(0, .ref x0), (1, .ref x1), (2, .int x2)] []) {σ : Hp} {x0 : Nat} {x1 : Nat} {x2 : Int32} (h : f_X6_mergeLogs_52 rec7 σ x0 x1 x2 = some σ') : V G yX6_mergeLogs cX6_mergeLogs 6 none rm_X6_mergeLogs (zV G (σ', μ, o) 0 0) (σ, μ, o) 0 0 52 [(0, .ref x0), (1, .ref x1), (2, .int x2)] [] := by
  unfold f_X6_mergeLogs_52 at h
  refine v_iinc (v := (x2 + 1)) [(2, .int (x2 + 1)), (0, .ref x0), (1, .ref x1)] 2 rfl rfl dX6_mergeLogs_52 rfl (by decide) rfl ?_
  refine v_goto (q := 7) dX6_mergeLogs_55 (by decide) ?_
  refine v_sub [1, 2, 0] rfl ?_
  exact h7 h
set_option maxRecDepth 100000 in
set_option maxHeartbeats 4000000 in
theorem l_X6_mergeLogs_7 {G : Gm} {μ : Mu} {o : Int64} {σ' : Hp} : ∀ (n : Nat) {σ : Hp} {x0 : Nat} {x1 : Nat} {x2 : Int32} , f_X6_mergeLogs_7 n σ x0 x1 x2 = some σ' → V G yX6_mergeLogs cX6_mergeLogs 6 none rm_X6_mergeLogs (zV G (σ', μ, o) 0 0) (σ, μ, o) 0 0 7 [(0, .ref x0), (1, .ref x1), (2, .int x2)] [] := by
  intro n
  induction n with
  | zero => intro _ _ _ _ h; cases h
  | succ n ih =>
    intro σ x0 x1 x2 h
    replace h : b_X6_mergeLogs_7 (f_X6_mergeLogs_7 n) σ x0 x1 x2 = some σ' := h
    unfold b_X6_mergeLogs_7 at h
    refine v_iload_n 2 rfl dX6_mergeLogs_7 rfl ?_
    refine v_aload_n 0 rfl dX6_mergeLogs_8 rfl ?_
    obtain ⟨v9, e9, h⟩ := o_b h
    refine v_getI e9 (by decide) (by decide) rfl qf_RX6_44 dX6_mergeLogs_9 rfl ?_
    refine v_icmp_ge 58 dX6_mergeLogs_12 (by decide) rfl (fun c12 => ?_) (fun c12 => ?_)
    · have h := o_p c12 h
      refine v_sub [0, 1] rfl ?_
      exact l_X6_mergeLogs_58 h
    · have h := o_n c12 h
      refine v_aload_n 0 rfl dX6_mergeLogs_15 rfl ?_
      obtain ⟨v16, e16, h⟩ := o_b h
      refine v_getR e16 (by decide) (by decide) rfl qf_RX6_64 dX6_mergeLogs_16 rfl ?_
      refine v_iload_n 2 rfl dX6_mergeLogs_19 rfl ?_
      obtain ⟨⟨⟩, g20, h⟩ := o_b h
      obtain ⟨v20, e20, h⟩ := o_b h
      refine v_Vi (as := [.int x2]) (st := []) (c' := 0) (k' := 0) (k_X8_hasTurned e20) (rcv_c g20 (by decide) rfl) mk_X8_hasTurned qi_X8_hasTurned qe_X8_hasTurned qm_RX6_266 (ck rfl) rfl dX6_mergeLogs_20 rfl rfl rfl ?_
      refine v_if_eq 52 dX6_mergeLogs_23 (by decide) rfl (fun c23 => ?_) (fun c23 => ?_)
      · have h := o_p c23 h
        exact l_X6_mergeLogs_52 (fun h => ih h) h
      · have h := o_n c23 h
        refine v_aload_n 0 rfl dX6_mergeLogs_26 rfl ?_
        obtain ⟨v27, e27, h⟩ := o_b h
        refine v_getR e27 (by decide) (by decide) rfl qf_RX6_64 dX6_mergeLogs_27 rfl ?_
        obtain ⟨v30, e30, h⟩ := o_b h
        refine v_getR e30 (by decide) (by decide) rfl qf_RX6_269 dX6_mergeLogs_30 rfl ?_
        refine v_iload_n 2 rfl dX6_mergeLogs_33 rfl ?_
        obtain ⟨v34, e34, h⟩ := o_b h
        refine v_aR e34 (by decide) (by decide) rfl dX6_mergeLogs_34 rfl ?_
        refine v_aload_n 1 rfl dX6_mergeLogs_35 rfl ?_
        obtain ⟨⟨⟩, g36, h⟩ := o_b h
        obtain ⟨v36, e36, h⟩ := o_b h
        refine v_Vi (as := [.ref x1]) (st := []) (c' := 0) (k' := 0) (k_X9_isLater e36) (rcv_c g36 (by decide) rfl) mk_X9_isLater qi_X9_isLater qe_X9_isLater qm_RX6_273 (ck rfl) rfl dX6_mergeLogs_36 rfl rfl rfl ?_
        refine v_if_eq 52 dX6_mergeLogs_39 (by decide) rfl (fun c39 => ?_) (fun c39 => ?_)
        · have h := o_p c39 h
          exact l_X6_mergeLogs_52 (fun h => ih h) h
        · have h := o_n c39 h
          refine v_aload_n 0 rfl dX6_mergeLogs_42 rfl ?_
          obtain ⟨v43, e43, h⟩ := o_b h
          refine v_getR e43 (by decide) (by decide) rfl qf_RX6_64 dX6_mergeLogs_43 rfl ?_
          obtain ⟨v46, e46, h⟩ := o_b h
          refine v_getR e46 (by decide) (by decide) rfl qf_RX6_269 dX6_mergeLogs_46 rfl ?_
          refine v_iload_n 2 rfl dX6_mergeLogs_49 rfl ?_
          obtain ⟨v50, e50, h⟩ := o_b h
          refine v_aR e50 (by decide) (by decide) rfl dX6_mergeLogs_50 rfl ?_
          refine v_astore_n [(1, .ref v50), (0, .ref x0), (2, .int x2)] dX6_mergeLogs_51 rfl (by decide) rfl ?_
          refine v_sub [1, 0, 2] rfl ?_
          exact l_X6_mergeLogs_52 (fun h => ih h) h
set_option maxRecDepth 100000 in
set_option maxHeartbeats 4000000 in
theorem k_X6_mergeLogs {G : Gm} {μ : Mu} {o : Int64} {σ' : Hp} {σ : Hp} {a0 : Nat} (h : f_X6_mergeLogs σ a0 = some σ') : Cv G yX6_mergeLogs cX6_mergeLogs 6 none rm_X6_mergeLogs [.ref a0] (σ, μ, o) (σ', μ, o) 0 0 := by
  refine v_entV [(0, .ref a0)] (by decide +kernel) (Nat.le_of_ble_eq_true rfl) rfl ?_
  unfold f_X6_mergeLogs at h
  refine v_aload_n 0 rfl dX6_mergeLogs_0 rfl ?_
  obtain ⟨v1, e1, h⟩ := o_b h
  refine v_getR e1 (by decide) (by decide) rfl qf_RX6_38 dX6_mergeLogs_1 rfl ?_
  refine v_astore_n [(1, .ref v1), (0, .ref a0)] dX6_mergeLogs_4 rfl (by decide) rfl ?_
  refine v_iconst (v := (0 : Int32)) (by decide) dX6_mergeLogs_5 rfl ?_
  refine v_istore_n [(2, .int (0 : Int32)), (1, .ref v1), (0, .ref a0)] dX6_mergeLogs_6 rfl (by decide) rfl ?_
  refine v_sub [2, 1, 0] rfl ?_
  exact l_X6_mergeLogs_7 _ h
def rm_X6_sendLogToOthers : Room := { frames := 3, cells := 0, slots := 0, locals := 82 }
set_option maxRecDepth 100000 in
set_option maxHeartbeats 4000000 in
theorem l_X6_sendLogToOthers_24 {G : Gm} {μ : Mu} {o : Int64} {σ' : Hp} {rec2 : Hp → Nat → Int32 → Int32 → Option Hp} (h2 : ∀ {σ : Hp} {x0 : Nat} {x1 : Int32} {x2 : Int32} , rec2 σ x0 x1 x2 = some σ' → V G yX6_sendLogToOthers cX6_sendLogToOthers 3 none rm_X6_sendLogToOthers (zV G (σ', μ, o) 0 0) (σ, μ, o) 0 0 2 [(0, .ref x0), (1, .int x1), (2, .int x2)] []) {σ : Hp} {x0 : Nat} {x1 : Int32} {x2 : Int32} (h : f_X6_sendLogToOthers_24 rec2 σ x0 x1 x2 = some σ') : V G yX6_sendLogToOthers cX6_sendLogToOthers 3 none rm_X6_sendLogToOthers (zV G (σ', μ, o) 0 0) (σ, μ, o) 0 0 24 [(0, .ref x0), (1, .int x1), (2, .int x2)] [] := by
  unfold f_X6_sendLogToOthers_24 at h
  refine v_iinc (v := (x2 + 1)) [(2, .int (x2 + 1)), (0, .ref x0), (1, .int x1)] 2 rfl rfl dX6_sendLogToOthers_24 rfl (by decide) rfl ?_
  refine v_goto (q := 2) dX6_sendLogToOthers_27 (by decide) ?_
  refine v_sub [1, 2, 0] rfl ?_
  exact h2 h
set_option maxRecDepth 100000 in
set_option maxHeartbeats 4000000 in
theorem l_X6_sendLogToOthers_2 {G : Gm} {μ : Mu} {o : Int64} {σ' : Hp} : ∀ (n : Nat) {σ : Hp} {x0 : Nat} {x1 : Int32} {x2 : Int32} , f_X6_sendLogToOthers_2 n σ x0 x1 x2 = some σ' → V G yX6_sendLogToOthers cX6_sendLogToOthers 3 none rm_X6_sendLogToOthers (zV G (σ', μ, o) 0 0) (σ, μ, o) 0 0 2 [(0, .ref x0), (1, .int x1), (2, .int x2)] [] := by
  intro n
  induction n with
  | zero => intro _ _ _ _ h; cases h
  | succ n ih =>
    intro σ x0 x1 x2 h
    replace h : b_X6_sendLogToOthers_2 (f_X6_sendLogToOthers_2 n) σ x0 x1 x2 = some σ' := h
    unfold b_X6_sendLogToOthers_2 at h
    refine v_iload_n 2 rfl dX6_sendLogToOthers_2 rfl ?_
    refine v_aload_n 0 rfl dX6_sendLogToOthers_3 rfl ?_
    obtain ⟨v4, e4, h⟩ := o_b h
    refine v_getI e4 (by decide) (by decide) rfl qf_RX6_44 dX6_sendLogToOthers_4 rfl ?_
    refine v_icmp_ge 30 dX6_sendLogToOthers_7 (by decide) rfl (fun c7 => ?_) (fun c7 => ?_)
    · have h := o_p c7 h
      obtain rfl := Option.some.inj h
      exact v_vret rfl (Nat.le_of_ble_eq_true rfl) (Nat.le_of_ble_eq_true rfl) dX6_sendLogToOthers_30
    · have h := o_n c7 h
      refine v_iload_n 2 rfl dX6_sendLogToOthers_10 rfl ?_
      refine v_aload_n 0 rfl dX6_sendLogToOthers_11 rfl ?_
      obtain ⟨v12, e12, h⟩ := o_b h
      refine v_getI e12 (by decide) (by decide) rfl qf_RX6_41 dX6_sendLogToOthers_12 rfl ?_
      refine v_icmp_eq 24 dX6_sendLogToOthers_15 (by decide) rfl (fun c15 => ?_) (fun c15 => ?_)
      · have h := o_p c15 h
        exact l_X6_sendLogToOthers_24 (fun h => ih h) h
      · have h := o_n c15 h
        refine v_aload_n 0 rfl dX6_sendLogToOthers_18 rfl ?_
        refine v_iload_n 1 rfl dX6_sendLogToOthers_19 rfl ?_
        refine v_iload_n 2 rfl dX6_sendLogToOthers_20 rfl ?_
        obtain ⟨⟨⟩, g21, h⟩ := o_b h
        obtain ⟨v21, e21, h⟩ := o_b h
        refine v_Vv (as := [.int x1, .int x2]) (st := []) (c' := 0) (k' := 0) (k_X6_sendLog e21) (rcv_c g21 (by decide) rfl) mk_X6_sendLog qi_X6_sendLog qe_X6_sendLog qm_RX6_220 (ck rfl) rfl dX6_sendLogToOthers_21 rfl rfl rfl ?_
        exact l_X6_sendLogToOthers_24 (fun h => ih h) h
set_option maxRecDepth 100000 in
set_option maxHeartbeats 4000000 in
theorem k_X6_sendLogToOthers {G : Gm} {μ : Mu} {o : Int64} {σ' : Hp} {σ : Hp} {a0 : Nat} {a1 : Int32} (h : f_X6_sendLogToOthers σ a0 a1 = some σ') : Cv G yX6_sendLogToOthers cX6_sendLogToOthers 3 none rm_X6_sendLogToOthers [.ref a0, .int a1] (σ, μ, o) (σ', μ, o) 0 0 := by
  refine v_entV [(0, .ref a0), (1, .int a1)] (by decide +kernel) (Nat.le_of_ble_eq_true rfl) rfl ?_
  unfold f_X6_sendLogToOthers at h
  refine v_iconst (v := (0 : Int32)) (by decide) dX6_sendLogToOthers_0 rfl ?_
  refine v_istore_n [(2, .int (0 : Int32)), (0, .ref a0), (1, .int a1)] dX6_sendLogToOthers_1 rfl (by decide) rfl ?_
  refine v_sub [1, 2, 0] rfl ?_
  exact l_X6_sendLogToOthers_2 _ h
def rm_X6_receiveTurned : Room := { frames := 4, cells := 0, slots := 0, locals := 104 }
set_option maxRecDepth 100000 in
set_option maxHeartbeats 4000000 in
theorem k_X6_receiveTurned {G : Gm} {μ : Mu} {o : Int64} {σ' : Hp} {σ : Hp} {a0 : Nat} {a1 : Nat} (h : f_X6_receiveTurned σ a0 a1 = some σ') : Cv G yX6_receiveTurned cX6_receiveTurned 2 none rm_X6_receiveTurned [.ref a0, .ref a1] (σ, μ, o) (σ', μ, o) 0 0 := by
  refine v_entV [(0, .ref a0), (1, .ref a1)] (by decide +kernel) (Nat.le_of_ble_eq_true rfl) rfl ?_
  unfold f_X6_receiveTurned at h
  refine v_aload_n 0 rfl dX6_receiveTurned_0 rfl ?_
  obtain ⟨v1, e1, h⟩ := o_b h
  refine v_getI e1 (by decide) (by decide) rfl qf_RX6_25 dX6_receiveTurned_1 rfl ?_
  refine v_iconst (v := (2 : Int32)) (by decide) dX6_receiveTurned_4 rfl ?_
  refine v_icmp_eq 19 dX6_receiveTurned_5 (by decide) rfl (fun c5 => ?_) (fun c5 => ?_)
  · have h := o_p c5 h
    refine v_aload_n 0 rfl dX6_receiveTurned_19 rfl ?_
    obtain ⟨v20, e20, h⟩ := o_b h
    refine v_getR e20 (by decide) (by decide) rfl qf_RX6_64 dX6_receiveTurned_20 rfl ?_
    refine v_aload_n 1 rfl dX6_receiveTurned_23 rfl ?_
    obtain ⟨⟨⟩, g24, h⟩ := o_b h
    obtain ⟨v24, e24, h⟩ := o_b h
    refine v_Vv (as := [.ref a1]) (st := []) (c' := 0) (k' := 0) (k_X8_addTurned e24) (rcv_c g24 (by decide) rfl) mk_X8_addTurned qi_X8_addTurned qe_X8_addTurned qm_RX6_223 (ck rfl) rfl dX6_receiveTurned_24 rfl rfl rfl ?_
    refine v_aload_n 0 rfl dX6_receiveTurned_27 rfl ?_
    refine v_aload_n 0 rfl dX6_receiveTurned_28 rfl ?_
    obtain ⟨v29, e29, h⟩ := o_b h
    refine v_getR e29 (by decide) (by decide) rfl qf_RX6_64 dX6_receiveTurned_29 rfl ?_
    obtain ⟨v32, e32, h⟩ := o_b h
    refine v_getI e32 (by decide) (by decide) rfl qf_RX6_226 dX6_receiveTurned_32 rfl ?_
    obtain ⟨⟨⟩, g35, h⟩ := o_b h
    obtain ⟨v35, e35, h⟩ := o_b h
    refine v_Vi (as := [.int v32]) (st := []) (c' := 0) (k' := 0) (k_X6_isEnough e35) (rcv_c g35 (by decide) rfl) mk_X6_isEnough qi_X6_isEnough qe_X6_isEnough qm_RX6_203 (ck rfl) rfl dX6_receiveTurned_35 rfl rfl rfl ?_
    refine v_if_eq 55 dX6_receiveTurned_38 (by decide) rfl (fun c38 => ?_) (fun c38 => ?_)
    · have h := o_p c38 h
      obtain rfl := Option.some.inj h
      exact v_vret rfl (Nat.le_of_ble_eq_true rfl) (Nat.le_of_ble_eq_true rfl) dX6_receiveTurned_55
    · have h := o_n c38 h
      refine v_aload_n 0 rfl dX6_receiveTurned_41 rfl ?_
      obtain ⟨⟨⟩, g42, h⟩ := o_b h
      obtain ⟨v42, e42, h⟩ := o_b h
      refine v_Vv (as := []) (st := []) (c' := 0) (k' := 0) (k_X6_mergeLogs e42) (rcv_c g42 (by decide) rfl) mk_X6_mergeLogs qi_X6_mergeLogs qe_X6_mergeLogs qm_RX6_229 (ck rfl) rfl dX6_receiveTurned_42 rfl rfl rfl ?_
      refine v_aload_n 0 rfl dX6_receiveTurned_45 rfl ?_
      obtain ⟨⟨⟩, g46, h⟩ := o_b h
      obtain ⟨v46, e46, h⟩ := o_b h
      refine v_Vv (as := []) (st := []) (c' := 0) (k' := 0) (k_X6_becomeNormal e46) (rcv_c g46 (by decide) rfl) mk_X6_becomeNormal qi_X6_becomeNormal qe_X6_becomeNormal qm_RX6_232 (ck rfl) rfl dX6_receiveTurned_46 rfl rfl rfl ?_
      refine v_aload_n 0 rfl dX6_receiveTurned_49 rfl ?_
      refine v_bipush (v := (10 : Int32)) (by decide) dX6_receiveTurned_50 rfl ?_
      obtain ⟨⟨⟩, g52, h⟩ := o_b h
      obtain ⟨v52, e52, h⟩ := o_b h
      refine v_Vv (as := [.int (10 : Int32)]) (st := []) (c' := 0) (k' := 0) (k_X6_sendLogToOthers e52) (rcv_c g52 (by decide) rfl) mk_X6_sendLogToOthers qi_X6_sendLogToOthers qe_X6_sendLogToOthers qm_RX6_235 (ck rfl) rfl dX6_receiveTurned_52 rfl rfl rfl ?_
      obtain rfl := Option.some.inj h
      exact v_vret rfl (Nat.le_of_ble_eq_true rfl) (Nat.le_of_ble_eq_true rfl) dX6_receiveTurned_55
  · have h := o_n c5 h
    refine v_aload_n 0 rfl dX6_receiveTurned_8 rfl ?_
    refine v_bipush (v := (10 : Int32)) (by decide) dX6_receiveTurned_9 rfl ?_
    refine v_aload_n 1 rfl dX6_receiveTurned_11 rfl ?_
    obtain ⟨v12, e12, h⟩ := o_b h
    refine v_getI e12 (by decide) (by decide) rfl qf_RX6_165 dX6_receiveTurned_12 rfl ?_
    obtain ⟨⟨⟩, g15, h⟩ := o_b h
    obtain ⟨v15, e15, h⟩ := o_b h
    refine v_Vv (as := [.int (10 : Int32), .int v12]) (st := []) (c' := 0) (k' := 0) (k_X6_sendLog e15) (rcv_c g15 (by decide) rfl) mk_X6_sendLog qi_X6_sendLog qe_X6_sendLog qm_RX6_220 (ck rfl) rfl dX6_receiveTurned_15 rfl rfl rfl ?_
    obtain rfl := Option.some.inj h
    exact v_vret rfl (Nat.le_of_ble_eq_true rfl) (Nat.le_of_ble_eq_true rfl) dX6_receiveTurned_18
def rm_X6_receiveOfAnyView : Room := { frames := 5, cells := 1, slots := 2, locals := 125 }
set_option maxRecDepth 100000 in
set_option maxHeartbeats 4000000 in
theorem l_X6_receiveOfAnyView_58 {G : Gm} {μ : Mu} {o : Int64} {σ' : Hp} {σ : Hp} {x0 : Nat} {x1 : Nat} (h : f_X6_receiveOfAnyView_58 σ x0 x1 = some σ') : V G yX6_receiveOfAnyView cX6_receiveOfAnyView 2 none rm_X6_receiveOfAnyView (zV G (σ', μ, o) 1 2) (σ, μ, o) 1 2 58 [(0, .ref x0), (1, .ref x1)] [] := by
  unfold f_X6_receiveOfAnyView_58 at h
  refine v_aload_n 1 rfl dX6_receiveOfAnyView_58 rfl ?_
  obtain ⟨v59, e59, h⟩ := o_b h
  refine v_getI e59 (by decide) (by decide) rfl qf_RX6_143 dX6_receiveOfAnyView_59 rfl ?_
  refine v_bipush (v := (9 : Int32)) (by decide) dX6_receiveOfAnyView_62 rfl ?_
  refine v_icmp_ne 93 dX6_receiveOfAnyView_64 (by decide) rfl (fun c64 => ?_) (fun c64 => ?_)
  · have h := o_n c64 h
    obtain rfl := Option.some.inj h
    exact v_vret rfl (Nat.le_of_ble_eq_true rfl) (Nat.le_of_ble_eq_true rfl) dX6_receiveOfAnyView_93
  · have h := o_p c64 h
    refine v_aload_n 1 rfl dX6_receiveOfAnyView_67 rfl ?_
    obtain ⟨v68, e68, h⟩ := o_b h
    refine v_getR e68 (by decide) (by decide) rfl qf_RX6_150 dX6_receiveOfAnyView_68 rfl ?_
    refine v_aload_n 0 rfl dX6_receiveOfAnyView_71 rfl ?_
    obtain ⟨v72, e72, h⟩ := o_b h
    refine v_getR e72 (by decide) (by decide) rfl qf_RX6_34 dX6_receiveOfAnyView_72 rfl ?_
    obtain ⟨⟨⟩, g75, h⟩ := o_b h
    obtain ⟨v75, e75, h⟩ := o_b h
    refine v_Vi (as := [.ref v72]) (st := []) (c' := 1) (k' := 2) (k_X9_isSame e75) (rcv_c g75 (by decide) rfl) mk_X9_isSame qi_X9_isSame qe_X9_isSame qm_RX6_151 (ck rfl) rfl dX6_receiveOfAnyView_75 rfl rfl rfl ?_
    refine v_if_eq 93 dX6_receiveOfAnyView_78 (by decide) rfl (fun c78 => ?_) (fun c78 => ?_)
    · have h := o_p c78 h
      obtain rfl := Option.some.inj h
      exact v_vret rfl (Nat.le_of_ble_eq_true rfl) (Nat.le_of_ble_eq_true rfl) dX6_receiveOfAnyView_93
    · have h := o_n c78 h
      refine v_aload_n 0 rfl dX6_receiveOfAnyView_81 rfl ?_
      obtain ⟨⟨⟩, g82, h⟩ := o_b h
      obtain ⟨v82, e82, h⟩ := o_b h
      refine v_Vi (as := []) (st := []) (c' := 1) (k' := 2) (k_X6_leads e82) (rcv_c g82 (by decide) rfl) mk_X6_leads qi_X6_leads qe_X6_leads qm_RX6_77 (ck rfl) rfl dX6_receiveOfAnyView_82 rfl rfl rfl ?_
      refine v_if_eq 93 dX6_receiveOfAnyView_85 (by decide) rfl (fun c85 => ?_) (fun c85 => ?_)
      · have h := o_p c85 h
        obtain rfl := Option.some.inj h
        exact v_vret rfl (Nat.le_of_ble_eq_true rfl) (Nat.le_of_ble_eq_true rfl) dX6_receiveOfAnyView_93
      · have h := o_n c85 h
        refine v_aload_n 0 rfl dX6_receiveOfAnyView_88 rfl ?_
        refine v_aload_n 1 rfl dX6_receiveOfAnyView_89 rfl ?_
        obtain ⟨⟨⟩, g90, h⟩ := o_b h
        obtain ⟨v90, e90, h⟩ := o_b h
        refine v_Vv (as := [.ref x1]) (st := []) (c' := 1) (k' := 2) (k_X6_receiveTurned e90) (rcv_c g90 (by decide) rfl) mk_X6_receiveTurned qi_X6_receiveTurned qe_X6_receiveTurned qm_RX6_162 (ck rfl) rfl dX6_receiveOfAnyView_90 rfl rfl rfl ?_
        obtain rfl := Option.some.inj h
        exact v_vret rfl (Nat.le_of_ble_eq_true rfl) (Nat.le_of_ble_eq_true rfl) dX6_receiveOfAnyView_93
set_option maxRecDepth 100000 in
set_option maxHeartbeats 4000000 in
theorem k_X6_receiveOfAnyView {G : Gm} {μ : Mu} {o : Int64} {σ' : Hp} {σ : Hp} {a0 : Nat} {a1 : Nat} (h : f_X6_receiveOfAnyView σ a0 a1 = some σ') : Cv G yX6_receiveOfAnyView cX6_receiveOfAnyView 2 none rm_X6_receiveOfAnyView [.ref a0, .ref a1] (σ, μ, o) (σ', μ, o) 1 2 := by
  refine v_entV [(0, .ref a0), (1, .ref a1)] (by decide +kernel) (Nat.le_of_ble_eq_true rfl) rfl ?_
  unfold f_X6_receiveOfAnyView at h
  refine v_aload_n 1 rfl dX6_receiveOfAnyView_0 rfl ?_
  obtain ⟨v1, e1, h⟩ := o_b h
  refine v_getI e1 (by decide) (by decide) rfl qf_RX6_143 dX6_receiveOfAnyView_1 rfl ?_
  refine v_bipush (v := (10 : Int32)) (by decide) dX6_receiveOfAnyView_4 rfl ?_
  refine v_icmp_ne 15 dX6_receiveOfAnyView_6 (by decide) rfl (fun c6 => ?_) (fun c6 => ?_)
  · have h := o_n c6 h
    refine v_aload_n 1 rfl dX6_receiveOfAnyView_15 rfl ?_
    obtain ⟨v16, e16, h⟩ := o_b h
    refine v_getR e16 (by decide) (by decide) rfl qf_RX6_150 dX6_receiveOfAnyView_16 rfl ?_
    refine v_aload_n 0 rfl dX6_receiveOfAnyView_19 rfl ?_
    obtain ⟨v20, e20, h⟩ := o_b h
    refine v_getR e20 (by decide) (by decide) rfl qf_RX6_34 dX6_receiveOfAnyView_20 rfl ?_
    obtain ⟨⟨⟩, g23, h⟩ := o_b h
    obtain ⟨v23, e23, h⟩ := o_b h
    refine v_Vi (as := [.ref v20]) (st := []) (c' := 0) (k' := 0) (k_X9_isSame e23) (rcv_c g23 (by decide) rfl) mk_X9_isSame qi_X9_isSame qe_X9_isSame qm_RX6_151 (ck rfl) rfl dX6_receiveOfAnyView_23 rfl rfl rfl ?_
    refine v_if_ne 58 dX6_receiveOfAnyView_26 (by decide) rfl (fun c26 => ?_) (fun c26 => ?_)
    · have h := o_n c26 h
      refine v_wid (c' := 1) (k' := 2) (Nat.le_of_ble_eq_true rfl) (Nat.le_of_ble_eq_true rfl) ?_
      exact l_X6_receiveOfAnyView_58 h
    · have h := o_p c26 h
      refine v_aload_n 1 rfl dX6_receiveOfAnyView_29 rfl ?_
      obtain ⟨v30, e30, h⟩ := o_b h
      refine v_getR e30 (by decide) (by decide) rfl qf_RX6_150 dX6_receiveOfAnyView_30 rfl ?_
      refine v_aload_n 0 rfl dX6_receiveOfAnyView_33 rfl ?_
      obtain ⟨v34, e34, h⟩ := o_b h
      refine v_getR e34 (by decide) (by decide) rfl qf_RX6_34 dX6_receiveOfAnyView_34 rfl ?_
      obtain ⟨⟨⟩, g37, h⟩ := o_b h
      obtain ⟨v37, e37, h⟩ := o_b h
      refine v_Vi (as := [.ref v34]) (st := []) (c' := 0) (k' := 0) (k_X9_isBehind e37) (rcv_c g37 (by decide) rfl) mk_X9_isBehind qi_X9_isBehind qe_X9_isBehind qm_RX6_155 (ck rfl) rfl dX6_receiveOfAnyView_37 rfl rfl rfl ?_
      refine v_if_ne 58 dX6_receiveOfAnyView_40 (by decide) rfl (fun c40 => ?_) (fun c40 => ?_)
      · have h := o_n c40 h
        refine v_wid (c' := 1) (k' := 2) (Nat.le_of_ble_eq_true rfl) (Nat.le_of_ble_eq_true rfl) ?_
        exact l_X6_receiveOfAnyView_58 h
      · have h := o_p c40 h
        refine v_aload_n 0 rfl dX6_receiveOfAnyView_43 rfl ?_
        refine v_aload_n 0 rfl dX6_receiveOfAnyView_44 rfl ?_
        obtain ⟨v45, e45, h⟩ := o_b h
        refine v_getR e45 (by decide) (by decide) rfl qf_RX6_34 dX6_receiveOfAnyView_45 rfl ?_
        refine v_aload_n 1 rfl dX6_receiveOfAnyView_48 rfl ?_
        obtain ⟨v49, e49, h⟩ := o_b h
        refine v_getR e49 (by decide) (by decide) rfl qf_RX6_150 dX6_receiveOfAnyView_49 rfl ?_
        obtain ⟨⟨⟩, g52, h⟩ := o_b h
        obtain ⟨v52, e52, h⟩ := o_b h
        refine v_Vr (as := [.ref v49]) (st := [.ref a0]) (c' := 1) (k' := 2) (k_X9_joinedWith e52) (rcv_c g52 (by decide) rfl) mk_X9_joinedWith qi_X9_joinedWith qe_X9_joinedWith qm_RX6_158 (ck rfl) rfl dX6_receiveOfAnyView_52 rfl rfl rfl ?_
        obtain ⟨⟨⟩, g55, h⟩ := o_b h
        obtain ⟨v55, e55, h⟩ := o_b h
        refine v_Vv (as := [.ref v52.1]) (st := []) (c' := 1) (k' := 2) (k_X6_turnTo e55) (rcv_c g55 (by decide) rfl) mk_X6_turnTo qi_X6_turnTo qe_X6_turnTo qm_RX6_120 (ck rfl) rfl dX6_receiveOfAnyView_55 rfl rfl rfl ?_
        exact l_X6_receiveOfAnyView_58 h
  · have h := o_p c6 h
    refine v_aload_n 0 rfl dX6_receiveOfAnyView_9 rfl ?_
    refine v_aload_n 1 rfl dX6_receiveOfAnyView_10 rfl ?_
    obtain ⟨⟨⟩, g11, h⟩ := o_b h
    obtain ⟨v11, e11, h⟩ := o_b h
    refine v_Vv (as := [.ref a1]) (st := []) (c' := 0) (k' := 0) (k_X6_receiveStart e11) (rcv_c g11 (by decide) rfl) mk_X6_receiveStart qi_X6_receiveStart qe_X6_receiveStart qm_RX6_146 (ck rfl) rfl dX6_receiveOfAnyView_11 rfl rfl rfl ?_
    obtain rfl := Option.some.inj h
    exact v_vret rfl (Nat.le_of_ble_eq_true rfl) (Nat.le_of_ble_eq_true rfl) dX6_receiveOfAnyView_14
def rm_X6_receiveLookup : Room := { frames := 2, cells := 0, slots := 0, locals := 48 }
set_option maxRecDepth 100000 in
set_option maxHeartbeats 4000000 in
theorem k_X6_receiveLookup {G : Gm} {μ : Mu} {o : Int64} {σ' : Hp} {σ : Hp} {a0 : Nat} {a1 : Int32} {a2 : Int32} (h : f_X6_receiveLookup σ a0 a1 a2 = some σ') : Cv G yX6_receiveLookup cX6_receiveLookup 3 none rm_X6_receiveLookup [.ref a0, .int a1, .int a2] (σ, μ, o) (σ', μ, o) 0 0 := by
  refine v_entV [(0, .ref a0), (1, .int a1), (2, .int a2)] (by decide +kernel) (Nat.le_of_ble_eq_true rfl) rfl ?_
  unfold f_X6_receiveLookup at h
  refine v_aload_n 0 rfl dX6_receiveLookup_0 rfl ?_
  obtain ⟨⟨⟩, g1, h⟩ := o_b h
  obtain ⟨v1, e1, h⟩ := o_b h
  refine v_Vi (as := []) (st := []) (c' := 0) (k' := 0) (k_X6_leads e1) (rcv_c g1 (by decide) rfl) mk_X6_leads qi_X6_leads qe_X6_leads qm_RX6_77 (ck rfl) rfl dX6_receiveLookup_1 rfl rfl rfl ?_
  refine v_if_eq 26 dX6_receiveLookup_4 (by decide) rfl (fun c4 => ?_) (fun c4 => ?_)
  · have h := o_p c4 h
    obtain rfl := Option.some.inj h
    exact v_vret rfl (Nat.le_of_ble_eq_true rfl) (Nat.le_of_ble_eq_true rfl) dX6_receiveLookup_26
  · have h := o_n c4 h
    refine v_aload_n 0 rfl dX6_receiveLookup_7 rfl ?_
    obtain ⟨v8, e8, h⟩ := o_b h
    refine v_getI e8 (by decide) (by decide) rfl qf_RX6_25 dX6_receiveLookup_8 rfl ?_
    refine v_iconst (v := (2 : Int32)) (by decide) dX6_receiveLookup_11 rfl ?_
    refine v_icmp_eq 26 dX6_receiveLookup_12 (by decide) rfl (fun c12 => ?_) (fun c12 => ?_)
    · have h := o_p c12 h
      obtain rfl := Option.some.inj h
      exact v_vret rfl (Nat.le_of_ble_eq_true rfl) (Nat.le_of_ble_eq_true rfl) dX6_receiveLookup_26
    · have h := o_n c12 h
      refine v_aload_n 0 rfl dX6_receiveLookup_15 rfl ?_
      obtain ⟨v16, e16, h⟩ := o_b h
      refine v_getR e16 (by decide) (by decide) rfl qf_RX6_12 dX6_receiveLookup_16 rfl ?_
      refine v_iload_n 2 rfl dX6_receiveLookup_19 rfl ?_
      obtain ⟨⟨⟩, g20, h⟩ := o_b h
      obtain ⟨v20, e20, h⟩ := o_b h
      refine v_Vi (as := [.int a2]) (st := []) (c' := 0) (k' := 0) (k_X4_has e20) (rcv_c g20 (by decide) rfl) mk_X4_has qi_X4_has qe_X4_has qm_RX6_189 (ck rfl) rfl dX6_receiveLookup_20 rfl rfl rfl ?_
      refine v_if_ne 27 dX6_receiveLookup_23 (by decide) rfl (fun c23 => ?_) (fun c23 => ?_)
      · have h := o_n c23 h
        refine v_aload_n 0 rfl dX6_receiveLookup_27 rfl ?_
        obtain ⟨v28, e28, h⟩ := o_b h
        refine v_getR e28 (by decide) (by decide) rfl qf_RX6_12 dX6_receiveLookup_28 rfl ?_
        refine v_iload_n 2 rfl dX6_receiveLookup_31 rfl ?_
        obtain ⟨⟨⟩, g32, h⟩ := o_b h
        obtain ⟨v32, e32, h⟩ := o_b h
        refine v_Vi (as := [.int a2]) (st := []) (c' := 0) (k' := 0) (k_X4_at e32) (rcv_c g32 (by decide) rfl) mk_X4_at qi_X4_at qe_X4_at qm_RX6_190 (ck rfl) rfl dX6_receiveLookup_32 rfl rfl rfl ?_
        refine v_if_ne 49 dX6_receiveLookup_35 (by decide) rfl (fun c35 => ?_) (fun c35 => ?_)
        · have h := o_n c35 h
          refine v_aload_n 0 rfl dX6_receiveLookup_49 rfl ?_
          refine v_iconst (v := (2 : Int32)) (by decide) dX6_receiveLookup_50 rfl ?_
          refine v_iload_n 1 rfl dX6_receiveLookup_51 rfl ?_
          refine v_iload_n 2 rfl dX6_receiveLookup_52 rfl ?_
          obtain ⟨⟨⟩, g53, h⟩ := o_b h
          obtain ⟨v53, e53, h⟩ := o_b h
          refine v_Vr (as := [.int (2 : Int32), .int a1, .int a2]) (st := []) (c' := 0) (k' := 0) (k_X6_send e53) (rcv_c g53 (by decide) rfl) mk_X6_send qi_X6_send qe_X6_send qm_RX6_110 (ck rfl) rfl dX6_receiveLookup_53 rfl rfl rfl ?_
          refine v_aload_n 0 rfl dX6_receiveLookup_56 rfl ?_
          obtain ⟨v57, e57, h⟩ := o_b h
          refine v_getR e57 (by decide) (by decide) rfl qf_RX6_12 dX6_receiveLookup_57 rfl ?_
          refine v_iload_n 2 rfl dX6_receiveLookup_60 rfl ?_
          obtain ⟨⟨⟩, g61, h⟩ := o_b h
          obtain ⟨v61, e61, h⟩ := o_b h
          refine v_Vi (as := [.int a2]) (st := [.ref v53.1]) (c' := 0) (k' := 0) (k_X4_at e61) (rcv_c g61 (by decide) rfl) mk_X4_at qi_X4_at qe_X4_at qm_RX6_190 (ck rfl) rfl dX6_receiveLookup_61 rfl rfl rfl ?_
          obtain ⟨s64, e64, h⟩ := o_b h
          refine v_putI e64 (by decide) (by decide) rfl rfl rfl rfl rfl qf_RX6_134 dX6_receiveLookup_64 rfl ?_
          obtain rfl := Option.some.inj h
          exact v_vret rfl (Nat.le_of_ble_eq_true rfl) (Nat.le_of_ble_eq_true rfl) dX6_receiveLookup_67
        · have h := o_p c35 h
          refine v_aload_n 0 rfl dX6_receiveLookup_38 rfl ?_
          refine v_iconst (v := (3 : Int32)) (by decide) dX6_receiveLookup_39 rfl ?_
          refine v_iload_n 1 rfl dX6_receiveLookup_40 rfl ?_
          refine v_iload_n 2 rfl dX6_receiveLookup_41 rfl ?_
          obtain ⟨⟨⟩, g42, h⟩ := o_b h
          obtain ⟨v42, e42, h⟩ := o_b h
          refine v_Vr (as := [.int (3 : Int32), .int a1, .int a2]) (st := []) (c' := 0) (k' := 0) (k_X6_send e42) (rcv_c g42 (by decide) rfl) mk_X6_send qi_X6_send qe_X6_send qm_RX6_110 (ck rfl) rfl dX6_receiveLookup_42 rfl rfl rfl ?_
          refine v_pop rfl dX6_receiveLookup_45 rfl ?_
          refine v_goto (q := 67) dX6_receiveLookup_46 (by decide) ?_
          obtain rfl := Option.some.inj h
          exact v_vret rfl (Nat.le_of_ble_eq_true rfl) (Nat.le_of_ble_eq_true rfl) dX6_receiveLookup_67
      · have h := o_p c23 h
        obtain rfl := Option.some.inj h
        exact v_vret rfl (Nat.le_of_ble_eq_true rfl) (Nat.le_of_ble_eq_true rfl) dX6_receiveLookup_26
def rm_X6_receiveFound : Room := { frames := 4, cells := 0, slots := 0, locals := 94 }
set_option maxRecDepth 100000 in
set_option maxHeartbeats 4000000 in
theorem k_X6_receiveFound {G : Gm} {μ : Mu} {o : Int64} {σ' : Hp} {σ : Hp} {a0 : Nat} {a1 : Int32} {a2 : Int32} (h : f_X6_receiveFound σ a0 a1 a2 = some σ') : Cv G yX6_receiveFound cX6_receiveFound 3 none rm_X6_receiveFound [.ref a0, .int a1, .int a2] (σ, μ, o) (σ', μ, o) 0 0 := by
  refine v_entV [(0, .ref a0), (1, .int a1), (2, .int a2)] (by decide +kernel) (Nat.le_of_ble_eq_true rfl) rfl ?_
  unfold f_X6_receiveFound at h
  refine v_aload_n 0 rfl dX6_receiveFound_0 rfl ?_
  obtain ⟨v1, e1, h⟩ := o_b h
  refine v_getI e1 (by decide) (by decide) rfl qf_RX6_25 dX6_receiveFound_1 rfl ?_
  refine v_if_ne 33 dX6_receiveFound_4 (by decide) rfl (fun c4 => ?_) (fun c4 => ?_)
  · have h := o_n c4 h
    obtain rfl := Option.some.inj h
    exact v_vret rfl (Nat.le_of_ble_eq_true rfl) (Nat.le_of_ble_eq_true rfl) dX6_receiveFound_33
  · have h := o_p c4 h
    refine v_iload_n 1 rfl dX6_receiveFound_7 rfl ?_
    refine v_aload_n 0 rfl dX6_receiveFound_8 rfl ?_
    obtain ⟨v9, e9, h⟩ := o_b h
    refine v_getR e9 (by decide) (by decide) rfl qf_RX6_12 dX6_receiveFound_9 rfl ?_
    obtain ⟨v12, e12, h⟩ := o_b h
    refine v_getI e12 (by decide) (by decide) rfl qf_RX6_81 dX6_receiveFound_12 rfl ?_
    refine v_iconst (v := (1 : Int32)) (by decide) dX6_receiveFound_15 rfl ?_
    refine v_iadd dX6_receiveFound_16 rfl ?_
    refine v_icmp_ne 33 dX6_receiveFound_17 (by decide) rfl (fun c17 => ?_) (fun c17 => ?_)
    · have h := o_n c17 h
      obtain rfl := Option.some.inj h
      exact v_vret rfl (Nat.le_of_ble_eq_true rfl) (Nat.le_of_ble_eq_true rfl) dX6_receiveFound_33
    · have h := o_p c17 h
      refine v_aload_n 0 rfl dX6_receiveFound_20 rfl ?_
      obtain ⟨v21, e21, h⟩ := o_b h
      refine v_getR e21 (by decide) (by decide) rfl qf_RX6_21 dX6_receiveFound_21 rfl ?_
      refine v_iload_n 1 rfl dX6_receiveFound_24 rfl ?_
      refine v_iload_n 2 rfl dX6_receiveFound_25 rfl ?_
      obtain ⟨⟨⟩, g26, h⟩ := o_b h
      obtain ⟨v26, e26, h⟩ := o_b h
      refine v_Vv (as := [.int a1, .int a2]) (st := []) (c' := 0) (k' := 0) (k_X3_put e26) (rcv_c g26 (by decide) rfl) mk_X3_put qi_X3_put qe_X3_put qm_RX6_137 (ck rfl) rfl dX6_receiveFound_26 rfl rfl rfl ?_
      refine v_aload_n 0 rfl dX6_receiveFound_29 rfl ?_
      obtain ⟨⟨⟩, g30, h⟩ := o_b h
      obtain ⟨v30, e30, h⟩ := o_b h
      refine v_Vv (as := []) (st := []) (c' := 0) (k' := 0) (k_X6_takeHeld e30) (rcv_c g30 (by decide) rfl) mk_X6_takeHeld qi_X6_takeHeld qe_X6_takeHeld qm_RX6_140 (ck rfl) rfl dX6_receiveFound_30 rfl rfl rfl ?_
      obtain rfl := Option.some.inj h
      exact v_vret rfl (Nat.le_of_ble_eq_true rfl) (Nat.le_of_ble_eq_true rfl) dX6_receiveFound_33
def rm_X6_receiveGapCommit : Room := { frames := 4, cells := 0, slots := 0, locals := 94 }
set_option maxRecDepth 100000 in
set_option maxHeartbeats 4000000 in
theorem l_X6_receiveGapCommit_72 {G : Gm} {μ : Mu} {o : Int64} {σ' : Hp} {σ : Hp} {x0 : Nat} {x1 : Int32} {x2 : Int32} (h : f_X6_receiveGapCommit_72 σ x0 x1 x2 = some σ') : V G yX6_receiveGapCommit cX6_receiveGapCommit 3 none rm_X6_receiveGapCommit (zV G (σ', μ, o) 0 0) (σ, μ, o) 0 0 72 [(0, .ref x0), (1, .int x1), (2, .int x2)] [] := by
  unfold f_X6_receiveGapCommit_72 at h
  refine v_aload_n 0 rfl dX6_receiveGapCommit_72 rfl ?_
  obtain ⟨v73, e73, h⟩ := o_b h
  refine v_getR e73 (by decide) (by decide) rfl qf_RX6_12 dX6_receiveGapCommit_73 rfl ?_
  refine v_iload_n 1 rfl dX6_receiveGapCommit_76 rfl ?_
  refine v_iconst (v := (0 : Int32)) (by decide) dX6_receiveGapCommit_77 rfl ?_
  obtain ⟨⟨⟩, g78, h⟩ := o_b h
  obtain ⟨v78, e78, h⟩ := o_b h
  refine v_Vv (as := [.int x1, .int (0 : Int32)]) (st := []) (c' := 0) (k' := 0) (k_X4_put e78) (rcv_c g78 (by decide) rfl) mk_X4_put qi_X4_put qe_X4_put qm_RX6_199 (ck rfl) rfl dX6_receiveGapCommit_78 rfl rfl rfl ?_
  refine v_aload_n 0 rfl dX6_receiveGapCommit_81 rfl ?_
  refine v_iconst (v := (4 : Int32)) (by decide) dX6_receiveGapCommit_82 rfl ?_
  refine v_aload_n 0 rfl dX6_receiveGapCommit_83 rfl ?_
  obtain ⟨v84, e84, h⟩ := o_b h
  refine v_getR e84 (by decide) (by decide) rfl qf_RX6_34 dX6_receiveGapCommit_84 rfl ?_
  refine v_aload_n 0 rfl dX6_receiveGapCommit_87 rfl ?_
  obtain ⟨v88, e88, h⟩ := o_b h
  refine v_getI e88 (by decide) (by decide) rfl qf_RX6_44 dX6_receiveGapCommit_88 rfl ?_
  obtain ⟨⟨⟩, g91, h⟩ := o_b h
  obtain ⟨v91, e91, h⟩ := o_b h
  refine v_Vi (as := [.int v88]) (st := [.int (4 : Int32), .ref x0]) (c' := 0) (k' := 0) (k_X9_leader e91) (rcv_c g91 (by decide) rfl) mk_X9_leader qi_X9_leader qe_X9_leader qm_RX6_106 (ck rfl) rfl dX6_receiveGapCommit_91 rfl rfl rfl ?_
  refine v_iload_n 1 rfl dX6_receiveGapCommit_94 rfl ?_
  obtain ⟨⟨⟩, g95, h⟩ := o_b h
  obtain ⟨v95, e95, h⟩ := o_b h
  refine v_Vr (as := [.int (4 : Int32), .int v91, .int x1]) (st := []) (c' := 0) (k' := 0) (k_X6_send e95) (rcv_c g95 (by decide) rfl) mk_X6_send qi_X6_send qe_X6_send qm_RX6_110 (ck rfl) rfl dX6_receiveGapCommit_95 rfl rfl rfl ?_
  refine v_pop rfl dX6_receiveGapCommit_98 rfl ?_
  refine v_iload_n 2 rfl dX6_receiveGapCommit_99 rfl ?_
  refine v_if_eq 107 dX6_receiveGapCommit_100 (by decide) rfl (fun c100 => ?_) (fun c100 => ?_)
  · have h := o_p c100 h
    obtain rfl := Option.some.inj h
    exact v_vret rfl (Nat.le_of_ble_eq_true rfl) (Nat.le_of_ble_eq_true rfl) dX6_receiveGapCommit_107
  · have h := o_n c100 h
    refine v_aload_n 0 rfl dX6_receiveGapCommit_103 rfl ?_
    obtain ⟨⟨⟩, g104, h⟩ := o_b h
    obtain ⟨v104, e104, h⟩ := o_b h
    refine v_Vv (as := []) (st := []) (c' := 0) (k' := 0) (k_X6_takeHeld e104) (rcv_c g104 (by decide) rfl) mk_X6_takeHeld qi_X6_takeHeld qe_X6_takeHeld qm_RX6_140 (ck rfl) rfl dX6_receiveGapCommit_104 rfl rfl rfl ?_
    obtain rfl := Option.some.inj h
    exact v_vret rfl (Nat.le_of_ble_eq_true rfl) (Nat.le_of_ble_eq_true rfl) dX6_receiveGapCommit_107
set_option maxRecDepth 100000 in
set_option maxHeartbeats 4000000 in
theorem l_X6_receiveGapCommit_59 {G : Gm} {μ : Mu} {o : Int64} {σ' : Hp} {σ : Hp} {x0 : Nat} {x1 : Int32} {x2 : Int32} (h : f_X6_receiveGapCommit_59 σ x0 x1 x2 = some σ') : V G yX6_receiveGapCommit cX6_receiveGapCommit 3 none rm_X6_receiveGapCommit (zV G (σ', μ, o) 0 0) (σ, μ, o) 0 0 59 [(0, .ref x0), (1, .int x1), (2, .int x2)] [] := by
  unfold f_X6_receiveGapCommit_59 at h
  refine v_iload_n 2 rfl dX6_receiveGapCommit_59 rfl ?_
  refine v_if_eq 72 dX6_receiveGapCommit_60 (by decide) rfl (fun c60 => ?_) (fun c60 => ?_)
  · have h := o_p c60 h
    exact l_X6_receiveGapCommit_72 h
  · have h := o_n c60 h
    refine v_aload_n 0 rfl dX6_receiveGapCommit_63 rfl ?_
    obtain ⟨v64, e64, h⟩ := o_b h
    refine v_getR e64 (by decide) (by decide) rfl qf_RX6_21 dX6_receiveGapCommit_64 rfl ?_
    refine v_iload_n 1 rfl dX6_receiveGapCommit_67 rfl ?_
    obtain ⟨⟨⟩, g68, h⟩ := o_b h
    obtain ⟨v68, e68, h⟩ := o_b h
    refine v_Vi (as := [.int x1]) (st := []) (c' := 0) (k' := 0) (k_X3_remove e68) (rcv_c g68 (by decide) rfl) mk_X3_remove qi_X3_remove qe_X3_remove qm_RX6_196 (ck rfl) rfl dX6_receiveGapCommit_68 rfl rfl rfl ?_
    refine v_pop rfl dX6_receiveGapCommit_71 rfl ?_
    exact l_X6_receiveGapCommit_72 h
set_option maxRecDepth 100000 in
set_option maxHeartbeats 4000000 in
theorem l_X6_receiveGapCommit_28 {G : Gm} {μ : Mu} {o : Int64} {σ' : Hp} {σ : Hp} {x0 : Nat} {x1 : Int32} {y0 : Int32} (h : f_X6_receiveGapCommit_28 σ x0 x1 y0 = some σ') : V G yX6_receiveGapCommit cX6_receiveGapCommit 3 none rm_X6_receiveGapCommit (zV G (σ', μ, o) 0 0) (σ, μ, o) 0 0 28 [(0, .ref x0), (1, .int x1)] [.int y0] := by
  unfold f_X6_receiveGapCommit_28 at h
  refine v_istore_n [(2, .int y0), (0, .ref x0), (1, .int x1)] dX6_receiveGapCommit_28 rfl (by decide) rfl ?_
  refine v_aload_n 1 rfl dX6_receiveGapCommit_29 rfl ?_
  obtain ⟨⟨⟩, g30, h⟩ := o_b h
  obtain ⟨v30, e30, h⟩ := o_b h
  refine v_Vi (as := []) (st := []) (c' := 0) (k' := 0) (k_X6_leads e30) (rcv_c g30 (by decide) rfl) mk_X6_leads qi_X6_leads qe_X6_leads qm_RX6_77 (ck rfl) rfl dX6_receiveGapCommit_30 rfl rfl rfl ?_
  refine v_if_ne 58 dX6_receiveGapCommit_33 (by decide) rfl (fun c33 => ?_) (fun c33 => ?_)
  · have h := o_n c33 h
    obtain rfl := Option.some.inj h
    exact v_vret rfl (Nat.le_of_ble_eq_true rfl) (Nat.le_of_ble_eq_true rfl) dX6_receiveGapCommit_58
  · have h := o_p c33 h
    refine v_aload_n 1 rfl dX6_receiveGapCommit_36 rfl ?_
    obtain ⟨v37, e37, h⟩ := o_b h
    refine v_getI e37 (by decide) (by decide) rfl qf_RX6_25 dX6_receiveGapCommit_37 rfl ?_
    refine v_if_ne 58 dX6_receiveGapCommit_40 (by decide) rfl (fun c40 => ?_) (fun c40 => ?_)
    · have h := o_n c40 h
      obtain rfl := Option.some.inj h
      exact v_vret rfl (Nat.le_of_ble_eq_true rfl) (Nat.le_of_ble_eq_true rfl) dX6_receiveGapCommit_58
    · have h := o_p c40 h
      refine v_iload_n 0 rfl dX6_receiveGapCommit_43 rfl ?_
      refine v_if_ne 59 dX6_receiveGapCommit_44 (by decide) rfl (fun c44 => ?_) (fun c44 => ?_)
      · have h := o_n c44 h
        refine v_sub [1, 2, 0] rfl ?_
        exact l_X6_receiveGapCommit_59 h
      · have h := o_p c44 h
        refine v_aload_n 1 rfl dX6_receiveGapCommit_47 rfl ?_
        obtain ⟨v48, e48, h⟩ := o_b h
        refine v_getR e48 (by decide) (by decide) rfl qf_RX6_12 dX6_receiveGapCommit_48 rfl ?_
        refine v_iload_n 2 rfl dX6_receiveGapCommit_51 rfl ?_
        obtain ⟨⟨⟩, g52, h⟩ := o_b h
        obtain ⟨v52, e52, h⟩ := o_b h
        refine v_Vi (as := [.int x1]) (st := []) (c' := 0) (k' := 0) (k_X4_has e52) (rcv_c g52 (by decide) rfl) mk_X4_has qi_X4_has qe_X4_has qm_RX6_189 (ck rfl) rfl dX6_receiveGapCommit_52 rfl rfl rfl ?_
        refine v_if_ne 59 dX6_receiveGapCommit_55 (by decide) rfl (fun c55 => ?_) (fun c55 => ?_)
        · have h := o_n c55 h
          refine v_sub [1, 2, 0] rfl ?_
          exact l_X6_receiveGapCommit_59 h
        · have h := o_p c55 h
          obtain rfl := Option.some.inj h
          exact v_vret rfl (Nat.le_of_ble_eq_true rfl) (Nat.le_of_ble_eq_true rfl) dX6_receiveGapCommit_58
set_option maxRecDepth 100000 in
set_option maxHeartbeats 4000000 in
theorem l_X6_receiveGapCommit_27 {G : Gm} {μ : Mu} {o : Int64} {σ' : Hp} {σ : Hp} {x0 : Nat} {x1 : Int32} (h : f_X6_receiveGapCommit_27 σ x0 x1 = some σ') : V G yX6_receiveGapCommit cX6_receiveGapCommit 3 none rm_X6_receiveGapCommit (zV G (σ', μ, o) 0 0) (σ, μ, o) 0 0 27 [(0, .ref x0), (1, .int x1)] [] := by
  unfold f_X6_receiveGapCommit_27 at h
  refine v_iconst (v := (0 : Int32)) (by decide) dX6_receiveGapCommit_27 rfl ?_
  exact l_X6_receiveGapCommit_28 h
set_option maxRecDepth 100000 in
set_option maxHeartbeats 4000000 in
theorem k_X6_receiveGapCommit {G : Gm} {μ : Mu} {o : Int64} {σ' : Hp} {σ : Hp} {a0 : Nat} {a1 : Int32} (h : f_X6_receiveGapCommit σ a0 a1 = some σ') : Cv G yX6_receiveGapCommit cX6_receiveGapCommit 3 none rm_X6_receiveGapCommit [.ref a0, .int a1] (σ, μ, o) (σ', μ, o) 0 0 := by
  refine v_entV [(0, .ref a0), (1, .int a1)] (by decide +kernel) (Nat.le_of_ble_eq_true rfl) rfl ?_
  unfold f_X6_receiveGapCommit at h
  refine v_iload_n 1 rfl dX6_receiveGapCommit_0 rfl ?_
  refine v_aload_n 0 rfl dX6_receiveGapCommit_1 rfl ?_
  obtain ⟨v2, e2, h⟩ := o_b h
  refine v_getR e2 (by decide) (by decide) rfl qf_RX6_12 dX6_receiveGapCommit_2 rfl ?_
  obtain ⟨v5, e5, h⟩ := o_b h
  refine v_getI e5 (by decide) (by decide) rfl qf_RX6_81 dX6_receiveGapCommit_5 rfl ?_
  refine v_iconst (v := (1 : Int32)) (by decide) dX6_receiveGapCommit_8 rfl ?_
  refine v_iadd dX6_receiveGapCommit_9 rfl ?_
  refine v_icmp_ne 27 dX6_receiveGapCommit_10 (by decide) rfl (fun c10 => ?_) (fun c10 => ?_)
  · have h := o_n c10 h
    exact l_X6_receiveGapCommit_27 h
  · have h := o_p c10 h
    refine v_aload_n 0 rfl dX6_receiveGapCommit_13 rfl ?_
    obtain ⟨v14, e14, h⟩ := o_b h
    refine v_getR e14 (by decide) (by decide) rfl qf_RX6_12 dX6_receiveGapCommit_14 rfl ?_
    obtain ⟨⟨⟩, g17, h⟩ := o_b h
    obtain ⟨v17, e17, h⟩ := o_b h
    refine v_Vi (as := []) (st := []) (c' := 0) (k' := 0) (k_X4_isFull e17) (rcv_c g17 (by decide) rfl) mk_X4_isFull qi_X4_isFull qe_X4_isFull qm_RX6_193 (ck rfl) rfl dX6_receiveGapCommit_17 rfl rfl rfl ?_
    refine v_if_ne 27 dX6_receiveGapCommit_20 (by decide) rfl (fun c20 => ?_) (fun c20 => ?_)
    · have h := o_n c20 h
      exact l_X6_receiveGapCommit_27 h
    · have h := o_p c20 h
      refine v_iconst (v := (1 : Int32)) (by decide) dX6_receiveGapCommit_23 rfl ?_
      refine v_goto (q := 28) dX6_receiveGapCommit_24 (by decide) ?_
      exact l_X6_receiveGapCommit_28 h
def rm_X6_receiveGapReply : Room := { frames := 4, cells := 0, slots := 0, locals := 94 }
set_option maxRecDepth 100000 in
set_option maxHeartbeats 4000000 in
theorem k_X6_receiveGapReply {G : Gm} {μ : Mu} {o : Int64} {σ' : Hp} {σ : Hp} {a0 : Nat} {a1 : Int32} {a2 : Int32} (h : f_X6_receiveGapReply σ a0 a1 a2 = some σ') : Cv G yX6_receiveGapReply cX6_receiveGapReply 3 none rm_X6_receiveGapReply [.ref a0, .int a1, .int a2] (σ, μ, o) (σ', μ, o) 0 0 := by
  refine v_entV [(0, .ref a0), (1, .int a1), (2, .int a2)] (by decide +kernel) (Nat.le_of_ble_eq_true rfl) rfl ?_
  unfold f_X6_receiveGapReply at h
  refine v_aload_n 0 rfl dX6_receiveGapReply_0 rfl ?_
  obtain ⟨⟨⟩, g1, h⟩ := o_b h
  obtain ⟨v1, e1, h⟩ := o_b h
  refine v_Vi (as := []) (st := []) (c' := 0) (k' := 0) (k_X6_leads e1) (rcv_c g1 (by decide) rfl) mk_X6_leads qi_X6_leads qe_X6_leads qm_RX6_77 (ck rfl) rfl dX6_receiveGapReply_1 rfl rfl rfl ?_
  refine v_if_eq 26 dX6_receiveGapReply_4 (by decide) rfl (fun c4 => ?_) (fun c4 => ?_)
  · have h := o_p c4 h
    obtain rfl := Option.some.inj h
    exact v_vret rfl (Nat.le_of_ble_eq_true rfl) (Nat.le_of_ble_eq_true rfl) dX6_receiveGapReply_26
  · have h := o_n c4 h
    refine v_aload_n 0 rfl dX6_receiveGapReply_7 rfl ?_
    obtain ⟨v8, e8, h⟩ := o_b h
    refine v_getI e8 (by decide) (by decide) rfl qf_RX6_25 dX6_receiveGapReply_8 rfl ?_
    refine v_iconst (v := (1 : Int32)) (by decide) dX6_receiveGapReply_11 rfl ?_
    refine v_icmp_ne 26 dX6_receiveGapReply_12 (by decide) rfl (fun c12 => ?_) (fun c12 => ?_)
    · have h := o_n c12 h
      obtain rfl := Option.some.inj h
      exact v_vret rfl (Nat.le_of_ble_eq_true rfl) (Nat.le_of_ble_eq_true rfl) dX6_receiveGapReply_26
    · have h := o_p c12 h
      refine v_iload_n 2 rfl dX6_receiveGapReply_15 rfl ?_
      refine v_aload_n 0 rfl dX6_receiveGapReply_16 rfl ?_
      obtain ⟨v17, e17, h⟩ := o_b h
      refine v_getR e17 (by decide) (by decide) rfl qf_RX6_12 dX6_receiveGapReply_17 rfl ?_
      obtain ⟨v20, e20, h⟩ := o_b h
      refine v_getI e20 (by decide) (by decide) rfl qf_RX6_81 dX6_receiveGapReply_20 rfl ?_
      refine v_icmp_eq 27 dX6_receiveGapReply_23 (by decide) rfl (fun c23 => ?_) (fun c23 => ?_)
      · have h := o_p c23 h
        refine v_aload_n 0 rfl dX6_receiveGapReply_27 rfl ?_
        obtain ⟨v28, e28, h⟩ := o_b h
        refine v_getR e28 (by decide) (by decide) rfl qf_RX6_64 dX6_receiveGapReply_28 rfl ?_
        refine v_dup rfl dX6_receiveGapReply_31 rfl ?_
        obtain ⟨v32, e32, h⟩ := o_b h
        refine v_getI e32 (by decide) (by decide) rfl qf_RX6_200 dX6_receiveGapReply_32 rfl ?_
        refine v_iconst (v := (1 : Int32)) (by decide) dX6_receiveGapReply_35 rfl ?_
        refine v_iload_n 1 rfl dX6_receiveGapReply_36 rfl ?_
        refine v_ishl dX6_receiveGapReply_37 rfl ?_
        refine v_ior dX6_receiveGapReply_38 rfl ?_
        obtain ⟨s39, e39, h⟩ := o_b h
        refine v_putI e39 (by decide) (by decide) rfl rfl rfl rfl rfl qf_RX6_200 dX6_receiveGapReply_39 rfl ?_
        refine v_aload_n 0 rfl dX6_receiveGapReply_42 rfl ?_
        refine v_aload_n 0 rfl dX6_receiveGapReply_43 rfl ?_
        obtain ⟨v44, e44, h⟩ := o_b h
        refine v_getR e44 (by decide) (by decide) rfl qf_RX6_64 dX6_receiveGapReply_44 rfl ?_
        obtain ⟨v47, e47, h⟩ := o_b h
        refine v_getI e47 (by decide) (by decide) rfl qf_RX6_200 dX6_receiveGapReply_47 rfl ?_
        obtain ⟨⟨⟩, g50, h⟩ := o_b h
        obtain ⟨v50, e50, h⟩ := o_b h
        refine v_Vi (as := [.int v47]) (st := []) (c' := 0) (k' := 0) (k_X6_isEnough e50) (rcv_c g50 (by decide) rfl) mk_X6_isEnough qi_X6_isEnough qe_X6_isEnough qm_RX6_203 (ck rfl) rfl dX6_receiveGapReply_50 rfl rfl rfl ?_
        refine v_if_eq 65 dX6_receiveGapReply_53 (by decide) rfl (fun c53 => ?_) (fun c53 => ?_)
        · have h := o_p c53 h
          obtain rfl := Option.some.inj h
          exact v_vret rfl (Nat.le_of_ble_eq_true rfl) (Nat.le_of_ble_eq_true rfl) dX6_receiveGapReply_65
        · have h := o_n c53 h
          refine v_aload_n 0 rfl dX6_receiveGapReply_56 rfl ?_
          refine v_iconst (v := (0 : Int32)) (by decide) dX6_receiveGapReply_57 rfl ?_
          obtain ⟨s58, e58, h⟩ := o_b h
          refine v_putI e58 (by decide) (by decide) rfl rfl rfl rfl rfl qf_RX6_25 dX6_receiveGapReply_58 rfl ?_
          refine v_aload_n 0 rfl dX6_receiveGapReply_61 rfl ?_
          obtain ⟨⟨⟩, g62, h⟩ := o_b h
          obtain ⟨v62, e62, h⟩ := o_b h
          refine v_Vv (as := []) (st := []) (c' := 0) (k' := 0) (k_X6_takeHeld e62) (rcv_c g62 (by decide) rfl) mk_X6_takeHeld qi_X6_takeHeld qe_X6_takeHeld qm_RX6_140 (ck rfl) rfl dX6_receiveGapReply_62 rfl rfl rfl ?_
          obtain rfl := Option.some.inj h
          exact v_vret rfl (Nat.le_of_ble_eq_true rfl) (Nat.le_of_ble_eq_true rfl) dX6_receiveGapReply_65
      · have h := o_n c23 h
        obtain rfl := Option.some.inj h
        exact v_vret rfl (Nat.le_of_ble_eq_true rfl) (Nat.le_of_ble_eq_true rfl) dX6_receiveGapReply_26
def rm_X6_receiveSync : Room := { frames := 2, cells := 0, slots := 0, locals := 60 }
set_option maxRecDepth 100000 in
set_option maxHeartbeats 4000000 in
theorem k_X6_receiveSync {G : Gm} {μ : Mu} {o : Int64} {σ' : Hp} {σ : Hp} {a0 : Nat} {a1 : Nat} (h : f_X6_receiveSync σ a0 a1 = some σ') : Cv G yX6_receiveSync cX6_receiveSync 2 none rm_X6_receiveSync [.ref a0, .ref a1] (σ, μ, o) (σ', μ, o) 0 0 := by
  refine v_entV [(0, .ref a0), (1, .ref a1)] (by decide +kernel) (Nat.le_of_ble_eq_true rfl) rfl ?_
  unfold f_X6_receiveSync at h
  refine v_aload_n 0 rfl dX6_receiveSync_0 rfl ?_
  obtain ⟨⟨⟩, g1, h⟩ := o_b h
  obtain ⟨v1, e1, h⟩ := o_b h
  refine v_Vi (as := []) (st := []) (c' := 0) (k' := 0) (k_X6_leads e1) (rcv_c g1 (by decide) rfl) mk_X6_leads qi_X6_leads qe_X6_leads qm_RX6_77 (ck rfl) rfl dX6_receiveSync_1 rfl rfl rfl ?_
  refine v_if_ne 28 dX6_receiveSync_4 (by decide) rfl (fun c4 => ?_) (fun c4 => ?_)
  · have h := o_n c4 h
    obtain rfl := Option.some.inj h
    exact v_vret rfl (Nat.le_of_ble_eq_true rfl) (Nat.le_of_ble_eq_true rfl) dX6_receiveSync_28
  · have h := o_p c4 h
    refine v_aload_n 0 rfl dX6_receiveSync_7 rfl ?_
    obtain ⟨v8, e8, h⟩ := o_b h
    refine v_getI e8 (by decide) (by decide) rfl qf_RX6_25 dX6_receiveSync_8 rfl ?_
    refine v_if_ne 28 dX6_receiveSync_11 (by decide) rfl (fun c11 => ?_) (fun c11 => ?_)
    · have h := o_n c11 h
      obtain rfl := Option.some.inj h
      exact v_vret rfl (Nat.le_of_ble_eq_true rfl) (Nat.le_of_ble_eq_true rfl) dX6_receiveSync_28
    · have h := o_p c11 h
      refine v_aload_n 1 rfl dX6_receiveSync_14 rfl ?_
      obtain ⟨v15, e15, h⟩ := o_b h
      refine v_getI e15 (by decide) (by decide) rfl qf_RX6_127 dX6_receiveSync_15 rfl ?_
      refine v_aload_n 0 rfl dX6_receiveSync_18 rfl ?_
      obtain ⟨v19, e19, h⟩ := o_b h
      refine v_getR e19 (by decide) (by decide) rfl qf_RX6_12 dX6_receiveSync_19 rfl ?_
      obtain ⟨v22, e22, h⟩ := o_b h
      refine v_getI e22 (by decide) (by decide) rfl qf_RX6_81 dX6_receiveSync_22 rfl ?_
      refine v_icmp_le 29 dX6_receiveSync_25 (by decide) rfl (fun c25 => ?_) (fun c25 => ?_)
      · have h := o_p c25 h
        refine v_aload_n 0 rfl dX6_receiveSync_29 rfl ?_
        obtain ⟨v30, e30, h⟩ := o_b h
        refine v_getR e30 (by decide) (by decide) rfl qf_RX6_12 dX6_receiveSync_30 rfl ?_
        refine v_aload_n 1 rfl dX6_receiveSync_33 rfl ?_
        obtain ⟨v34, e34, h⟩ := o_b h
        refine v_getR e34 (by decide) (by decide) rfl qf_RX6_206 dX6_receiveSync_34 rfl ?_
        refine v_aload_n 1 rfl dX6_receiveSync_37 rfl ?_
        obtain ⟨v38, e38, h⟩ := o_b h
        refine v_getI e38 (by decide) (by decide) rfl qf_RX6_127 dX6_receiveSync_38 rfl ?_
        obtain ⟨⟨⟩, g41, h⟩ := o_b h
        obtain ⟨v41, e41, h⟩ := o_b h
        refine v_Vv (as := [.ref v34, .int v38]) (st := []) (c' := 0) (k' := 0) (k_X4_copyFirst e41) (rcv_c g41 (by decide) rfl) mk_X4_copyFirst qi_X4_copyFirst qe_X4_copyFirst qm_RX6_207 (ck rfl) rfl dX6_receiveSync_41 rfl rfl rfl ?_
        refine v_aload_n 0 rfl dX6_receiveSync_44 rfl ?_
        refine v_aload_n 0 rfl dX6_receiveSync_45 rfl ?_
        obtain ⟨v46, e46, h⟩ := o_b h
        refine v_getI e46 (by decide) (by decide) rfl qf_RX6_97 dX6_receiveSync_46 rfl ?_
        refine v_aload_n 1 rfl dX6_receiveSync_49 rfl ?_
        obtain ⟨v50, e50, h⟩ := o_b h
        refine v_getI e50 (by decide) (by decide) rfl qf_RX6_127 dX6_receiveSync_50 rfl ?_
        obtain ⟨v53, e53, h⟩ := o_b h
        refine v_Si (as := [.int v46, .int v50]) (st := [.ref a0]) (c' := 0) (k' := 0) (k_J9_max_7cf53 e53) mk_J9_max_7cf53 qs_J9_max_7cf53 qm_RX6_211 (ck rfl) rfl dX6_receiveSync_53 rfl rfl rfl ?_
        obtain ⟨s56, e56, h⟩ := o_b h
        refine v_putI e56 (by decide) (by decide) rfl rfl rfl rfl rfl qf_RX6_97 dX6_receiveSync_56 rfl ?_
        refine v_aload_n 0 rfl dX6_receiveSync_59 rfl ?_
        refine v_bipush (v := (6 : Int32)) (by decide) dX6_receiveSync_60 rfl ?_
        refine v_aload_n 0 rfl dX6_receiveSync_62 rfl ?_
        obtain ⟨v63, e63, h⟩ := o_b h
        refine v_getR e63 (by decide) (by decide) rfl qf_RX6_34 dX6_receiveSync_63 rfl ?_
        refine v_aload_n 0 rfl dX6_receiveSync_66 rfl ?_
        obtain ⟨v67, e67, h⟩ := o_b h
        refine v_getI e67 (by decide) (by decide) rfl qf_RX6_44 dX6_receiveSync_67 rfl ?_
        obtain ⟨⟨⟩, g70, h⟩ := o_b h
        obtain ⟨v70, e70, h⟩ := o_b h
        refine v_Vi (as := [.int v67]) (st := [.int (6 : Int32), .ref a0]) (c' := 0) (k' := 0) (k_X9_leader e70) (rcv_c g70 (by decide) rfl) mk_X9_leader qi_X9_leader qe_X9_leader qm_RX6_106 (ck rfl) rfl dX6_receiveSync_70 rfl rfl rfl ?_
        refine v_aload_n 1 rfl dX6_receiveSync_73 rfl ?_
        obtain ⟨v74, e74, h⟩ := o_b h
        refine v_getI e74 (by decide) (by decide) rfl qf_RX6_127 dX6_receiveSync_74 rfl ?_
        obtain ⟨⟨⟩, g77, h⟩ := o_b h
        obtain ⟨v77, e77, h⟩ := o_b h
        refine v_Vr (as := [.int (6 : Int32), .int v70, .int v74]) (st := []) (c' := 0) (k' := 0) (k_X6_send e77) (rcv_c g77 (by decide) rfl) mk_X6_send qi_X6_send qe_X6_send qm_RX6_110 (ck rfl) rfl dX6_receiveSync_77 rfl rfl rfl ?_
        refine v_pop rfl dX6_receiveSync_80 rfl ?_
        obtain rfl := Option.some.inj h
        exact v_vret rfl (Nat.le_of_ble_eq_true rfl) (Nat.le_of_ble_eq_true rfl) dX6_receiveSync_81
      · have h := o_n c25 h
        obtain rfl := Option.some.inj h
        exact v_vret rfl (Nat.le_of_ble_eq_true rfl) (Nat.le_of_ble_eq_true rfl) dX6_receiveSync_28
def rm_X8_addSyncReply : Room := { frames := 0, cells := 0, slots := 0, locals := 0 }
set_option maxRecDepth 100000 in
set_option maxHeartbeats 4000000 in
theorem l_X8_addSyncReply_18 {G : Gm} {μ : Mu} {o : Int64} {σ' : Hp} {σ : Hp} {x0 : Nat} {x1 : Int32} (h : f_X8_addSyncReply_18 σ x0 x1 = some σ') : V G yX8_addSyncReply cX8_addSyncReply 3 none rm_X8_addSyncReply (zV G (σ', μ, o) 0 0) (σ, μ, o) 0 0 18 [(0, .ref x0), (1, .int x1)] [] := by
  unfold f_X8_addSyncReply_18 at h
  refine v_aload_n 0 rfl dX8_addSyncReply_18 rfl ?_
  refine v_dup rfl dX8_addSyncReply_19 rfl ?_
  obtain ⟨v20, e20, h⟩ := o_b h
  refine v_getI e20 (by decide) (by decide) rfl qf_RX8_30 dX8_addSyncReply_20 rfl ?_
  refine v_iconst (v := (1 : Int32)) (by decide) dX8_addSyncReply_23 rfl ?_
  refine v_iload_n 1 rfl dX8_addSyncReply_24 rfl ?_
  refine v_ishl dX8_addSyncReply_25 rfl ?_
  refine v_ior dX8_addSyncReply_26 rfl ?_
  obtain ⟨s27, e27, h⟩ := o_b h
  refine v_putI e27 (by decide) (by decide) rfl rfl rfl rfl rfl qf_RX8_30 dX8_addSyncReply_27 rfl ?_
  obtain rfl := Option.some.inj h
  exact v_vret rfl (Nat.le_of_ble_eq_true rfl) (Nat.le_of_ble_eq_true rfl) dX8_addSyncReply_30
set_option maxRecDepth 100000 in
set_option maxHeartbeats 4000000 in
theorem k_X8_addSyncReply {G : Gm} {μ : Mu} {o : Int64} {σ' : Hp} {σ : Hp} {a0 : Nat} {a1 : Int32} {a2 : Int32} (h : f_X8_addSyncReply σ a0 a1 a2 = some σ') : Cv G yX8_addSyncReply cX8_addSyncReply 3 none rm_X8_addSyncReply [.ref a0, .int a1, .int a2] (σ, μ, o) (σ', μ, o) 0 0 := by
  refine v_entV [(0, .ref a0), (1, .int a1), (2, .int a2)] (by decide +kernel) (Nat.le_of_ble_eq_true rfl) rfl ?_
  unfold f_X8_addSyncReply at h
  refine v_iload_n 2 rfl dX8_addSyncReply_0 rfl ?_
  refine v_aload_n 0 rfl dX8_addSyncReply_1 rfl ?_
  obtain ⟨v2, e2, h⟩ := o_b h
  refine v_getI e2 (by decide) (by decide) rfl qf_RX8_36 dX8_addSyncReply_2 rfl ?_
  refine v_icmp_eq 18 dX8_addSyncReply_5 (by decide) rfl (fun c5 => ?_) (fun c5 => ?_)
  · have h := o_p c5 h
    refine v_sub [0, 1] rfl ?_
    exact l_X8_addSyncReply_18 h
  · have h := o_n c5 h
    refine v_aload_n 0 rfl dX8_addSyncReply_8 rfl ?_
    refine v_iload_n 2 rfl dX8_addSyncReply_9 rfl ?_
    obtain ⟨s10, e10, h⟩ := o_b h
    refine v_putI e10 (by decide) (by decide) rfl rfl rfl rfl rfl qf_RX8_36 dX8_addSyncReply_10 rfl ?_
    refine v_aload_n 0 rfl dX8_addSyncReply_13 rfl ?_
    refine v_iconst (v := (0 : Int32)) (by decide) dX8_addSyncReply_14 rfl ?_
    obtain ⟨s15, e15, h⟩ := o_b h
    refine v_putI e15 (by decide) (by decide) rfl rfl rfl rfl rfl qf_RX8_30 dX8_addSyncReply_15 rfl ?_
    refine v_sub [0, 1] rfl ?_
    exact l_X8_addSyncReply_18 h
def rm_X6_receiveSyncReply : Room := { frames := 3, cells := 0, slots := 0, locals := 71 }
set_option maxRecDepth 100000 in
set_option maxHeartbeats 4000000 in
theorem k_X6_receiveSyncReply {G : Gm} {μ : Mu} {o : Int64} {σ' : Hp} {σ : Hp} {a0 : Nat} {a1 : Int32} {a2 : Int32} (h : f_X6_receiveSyncReply σ a0 a1 a2 = some σ') : Cv G yX6_receiveSyncReply cX6_receiveSyncReply 3 none rm_X6_receiveSyncReply [.ref a0, .int a1, .int a2] (σ, μ, o) (σ', μ, o) 0 0 := by
  refine v_entV [(0, .ref a0), (1, .int a1), (2, .int a2)] (by decide +kernel) (Nat.le_of_ble_eq_true rfl) rfl ?_
  unfold f_X6_receiveSyncReply at h
  refine v_aload_n 0 rfl dX6_receiveSyncReply_0 rfl ?_
  obtain ⟨⟨⟩, g1, h⟩ := o_b h
  obtain ⟨v1, e1, h⟩ := o_b h
  refine v_Vi (as := []) (st := []) (c' := 0) (k' := 0) (k_X6_leads e1) (rcv_c g1 (by decide) rfl) mk_X6_leads qi_X6_leads qe_X6_leads qm_RX6_77 (ck rfl) rfl dX6_receiveSyncReply_1 rfl rfl rfl ?_
  refine v_if_eq 23 dX6_receiveSyncReply_4 (by decide) rfl (fun c4 => ?_) (fun c4 => ?_)
  · have h := o_p c4 h
    obtain rfl := Option.some.inj h
    exact v_vret rfl (Nat.le_of_ble_eq_true rfl) (Nat.le_of_ble_eq_true rfl) dX6_receiveSyncReply_23
  · have h := o_n c4 h
    refine v_aload_n 0 rfl dX6_receiveSyncReply_7 rfl ?_
    obtain ⟨v8, e8, h⟩ := o_b h
    refine v_getI e8 (by decide) (by decide) rfl qf_RX6_25 dX6_receiveSyncReply_8 rfl ?_
    refine v_iconst (v := (2 : Int32)) (by decide) dX6_receiveSyncReply_11 rfl ?_
    refine v_icmp_eq 23 dX6_receiveSyncReply_12 (by decide) rfl (fun c12 => ?_) (fun c12 => ?_)
    · have h := o_p c12 h
      obtain rfl := Option.some.inj h
      exact v_vret rfl (Nat.le_of_ble_eq_true rfl) (Nat.le_of_ble_eq_true rfl) dX6_receiveSyncReply_23
    · have h := o_n c12 h
      refine v_iload_n 2 rfl dX6_receiveSyncReply_15 rfl ?_
      refine v_aload_n 0 rfl dX6_receiveSyncReply_16 rfl ?_
      obtain ⟨v17, e17, h⟩ := o_b h
      refine v_getI e17 (by decide) (by decide) rfl qf_RX6_84 dX6_receiveSyncReply_17 rfl ?_
      refine v_icmp_gt 24 dX6_receiveSyncReply_20 (by decide) rfl (fun c20 => ?_) (fun c20 => ?_)
      · have h := o_p c20 h
        refine v_aload_n 0 rfl dX6_receiveSyncReply_24 rfl ?_
        obtain ⟨v25, e25, h⟩ := o_b h
        refine v_getR e25 (by decide) (by decide) rfl qf_RX6_64 dX6_receiveSyncReply_25 rfl ?_
        refine v_iload_n 1 rfl dX6_receiveSyncReply_28 rfl ?_
        refine v_iload_n 2 rfl dX6_receiveSyncReply_29 rfl ?_
        obtain ⟨⟨⟩, g30, h⟩ := o_b h
        obtain ⟨v30, e30, h⟩ := o_b h
        refine v_Vv (as := [.int a1, .int a2]) (st := []) (c' := 0) (k' := 0) (k_X8_addSyncReply e30) (rcv_c g30 (by decide) rfl) mk_X8_addSyncReply qi_X8_addSyncReply qe_X8_addSyncReply qm_RX6_214 (ck rfl) rfl dX6_receiveSyncReply_30 rfl rfl rfl ?_
        refine v_aload_n 0 rfl dX6_receiveSyncReply_33 rfl ?_
        refine v_aload_n 0 rfl dX6_receiveSyncReply_34 rfl ?_
        obtain ⟨v35, e35, h⟩ := o_b h
        refine v_getR e35 (by decide) (by decide) rfl qf_RX6_64 dX6_receiveSyncReply_35 rfl ?_
        obtain ⟨v38, e38, h⟩ := o_b h
        refine v_getI e38 (by decide) (by decide) rfl qf_RX6_217 dX6_receiveSyncReply_38 rfl ?_
        obtain ⟨⟨⟩, g41, h⟩ := o_b h
        obtain ⟨v41, e41, h⟩ := o_b h
        refine v_Vi (as := [.int v38]) (st := []) (c' := 0) (k' := 0) (k_X6_isEnough e41) (rcv_c g41 (by decide) rfl) mk_X6_isEnough qi_X6_isEnough qe_X6_isEnough qm_RX6_203 (ck rfl) rfl dX6_receiveSyncReply_41 rfl rfl rfl ?_
        refine v_if_eq 59 dX6_receiveSyncReply_44 (by decide) rfl (fun c44 => ?_) (fun c44 => ?_)
        · have h := o_p c44 h
          obtain rfl := Option.some.inj h
          exact v_vret rfl (Nat.le_of_ble_eq_true rfl) (Nat.le_of_ble_eq_true rfl) dX6_receiveSyncReply_59
        · have h := o_n c44 h
          refine v_aload_n 0 rfl dX6_receiveSyncReply_47 rfl ?_
          refine v_iload_n 2 rfl dX6_receiveSyncReply_48 rfl ?_
          obtain ⟨s49, e49, h⟩ := o_b h
          refine v_putI e49 (by decide) (by decide) rfl rfl rfl rfl rfl qf_RX6_84 dX6_receiveSyncReply_49 rfl ?_
          refine v_aload_n 0 rfl dX6_receiveSyncReply_52 rfl ?_
          refine v_bipush (v := (7 : Int32)) (by decide) dX6_receiveSyncReply_53 rfl ?_
          refine v_iload_n 2 rfl dX6_receiveSyncReply_55 rfl ?_
          obtain ⟨⟨⟩, g56, h⟩ := o_b h
          obtain ⟨v56, e56, h⟩ := o_b h
          refine v_Vv (as := [.int (7 : Int32), .int a2]) (st := []) (c' := 0) (k' := 0) (k_X6_sendToOthers e56) (rcv_c g56 (by decide) rfl) mk_X6_sendToOthers qi_X6_sendToOthers qe_X6_sendToOthers qm_RX6_103 (ck rfl) rfl dX6_receiveSyncReply_56 rfl rfl rfl ?_
          obtain rfl := Option.some.inj h
          exact v_vret rfl (Nat.le_of_ble_eq_true rfl) (Nat.le_of_ble_eq_true rfl) dX6_receiveSyncReply_59
      · have h := o_n c20 h
        obtain rfl := Option.some.inj h
        exact v_vret rfl (Nat.le_of_ble_eq_true rfl) (Nat.le_of_ble_eq_true rfl) dX6_receiveSyncReply_23
