def rm_X4_isFull : Room := { frames := 0, cells := 0, slots := 0, locals := 0 }
set_option maxRecDepth 100000 in
set_option maxHeartbeats 4000000 in
theorem k_X4_isFull {G : Gm} {μ : Mu} {o : Int64} {r : Int32} {σ : Hp} {a0 : Nat} (h : f_X4_isFull σ a0 = some r) : Ci G yX4_isFull cX4_isFull 1 (some .boolean) rm_X4_isFull [.ref a0] (σ, μ, o) r (σ, μ, o) 0 0 := by
  refine v_entI [(0, .ref a0)] (by decide +kernel) (Nat.le_of_ble_eq_true rfl) rfl ?_
  unfold f_X4_isFull at h
  refine v_aload_n 0 rfl dX4_isFull_0 rfl ?_
  obtain ⟨v1, e1, h⟩ := o_b h
  refine v_getI e1 (by decide) (by decide) rfl qf_RX4_15 dX4_isFull_1 rfl ?_
  refine v_bipush (v := (100 : Int32)) (by decide) dX4_isFull_4 rfl ?_
  refine v_icmp_lt 13 dX4_isFull_6 (by decide) rfl (fun c6 => ?_) (fun c6 => ?_)
  · have h := o_p c6 h
    refine v_iconst (v := (0 : Int32)) (by decide) dX4_isFull_13 rfl ?_
    obtain rfl := Option.some.inj h
    exact v_iret rfl rfl (Nat.le_of_ble_eq_true rfl) (Nat.le_of_ble_eq_true rfl) dX4_isFull_14
  · have h := o_n c6 h
    refine v_iconst (v := (1 : Int32)) (by decide) dX4_isFull_9 rfl ?_
    refine v_goto (q := 14) dX4_isFull_10 (by decide) ?_
    obtain rfl := Option.some.inj h
    exact v_iret rfl rfl (Nat.le_of_ble_eq_true rfl) (Nat.le_of_ble_eq_true rfl) dX4_isFull_14
def rm_J9_max_7cf53 : Room := { frames := 0, cells := 0, slots := 0, locals := 0 }
set_option maxRecDepth 100000 in
set_option maxHeartbeats 4000000 in
theorem k_J9_max_7cf53 {G : Gm} {w : Wt} {r : Int32} {a0 : Int32} {a1 : Int32} (h : f_J9_max_7cf53 a0 a1 = some r) : Ci G yJ9_max_7cf53 cJ9_max_7cf53 2 (some .int) rm_J9_max_7cf53 [.int a0, .int a1] w r w 0 0 := by
  refine v_entI [(0, .int a0), (1, .int a1)] (by decide +kernel) (Nat.le_of_ble_eq_true rfl) rfl ?_
  unfold f_J9_max_7cf53 at h
  refine v_iload_n 0 rfl dJ9_max_7cf53_0 rfl ?_
  refine v_iload_n 1 rfl dJ9_max_7cf53_1 rfl ?_
  refine v_icmp_lt 9 dJ9_max_7cf53_2 (by decide) rfl (fun c2 => ?_) (fun c2 => ?_)
  · have h := o_p c2 h
    refine v_iload_n 1 rfl dJ9_max_7cf53_9 rfl ?_
    obtain rfl := Option.some.inj h
    exact v_iret rfl rfl (Nat.le_of_ble_eq_true rfl) (Nat.le_of_ble_eq_true rfl) dJ9_max_7cf53_10
  · have h := o_n c2 h
    refine v_iload_n 0 rfl dJ9_max_7cf53_5 rfl ?_
    refine v_goto (q := 10) dJ9_max_7cf53_6 (by decide) ?_
    obtain rfl := Option.some.inj h
    exact v_iret rfl rfl (Nat.le_of_ble_eq_true rfl) (Nat.le_of_ble_eq_true rfl) dJ9_max_7cf53_10
def rm_X4_put : Room := { frames := 1, cells := 0, slots := 0, locals := 21 }
set_option maxRecDepth 100000 in
set_option maxHeartbeats 4000000 in
theorem k_X4_put {G : Gm} {μ : Mu} {o : Int64} {σ' : Hp} {σ : Hp} {a0 : Nat} {a1 : Int32} {a2 : Int32} (h : f_X4_put σ a0 a1 a2 = some σ') : Cv G yX4_put cX4_put 3 none rm_X4_put [.ref a0, .int a1, .int a2] (σ, μ, o) (σ', μ, o) 0 0 := by
  refine v_entV [(0, .ref a0), (1, .int a1), (2, .int a2)] (by decide +kernel) (Nat.le_of_ble_eq_true rfl) rfl ?_
  unfold f_X4_put at h
  refine v_iload_n 1 rfl dX4_put_0 rfl ?_
  refine v_iconst (v := (1 : Int32)) (by decide) dX4_put_1 rfl ?_
  refine v_icmp_lt 21 dX4_put_2 (by decide) rfl (fun c2 => ?_) (fun c2 => ?_)
  · have h := o_p c2 h
    obtain rfl := Option.some.inj h
    exact v_vret rfl (Nat.le_of_ble_eq_true rfl) (Nat.le_of_ble_eq_true rfl) dX4_put_21
  · have h := o_n c2 h
    refine v_iload_n 1 rfl dX4_put_5 rfl ?_
    refine v_bipush (v := (100 : Int32)) (by decide) dX4_put_6 rfl ?_
    refine v_icmp_gt 21 dX4_put_8 (by decide) rfl (fun c8 => ?_) (fun c8 => ?_)
    · have h := o_p c8 h
      obtain rfl := Option.some.inj h
      exact v_vret rfl (Nat.le_of_ble_eq_true rfl) (Nat.le_of_ble_eq_true rfl) dX4_put_21
    · have h := o_n c8 h
      refine v_iload_n 1 rfl dX4_put_11 rfl ?_
      refine v_aload_n 0 rfl dX4_put_12 rfl ?_
      obtain ⟨v13, e13, h⟩ := o_b h
      refine v_getI e13 (by decide) (by decide) rfl qf_RX4_15 dX4_put_13 rfl ?_
      refine v_iconst (v := (1 : Int32)) (by decide) dX4_put_16 rfl ?_
      refine v_iadd dX4_put_17 rfl ?_
      refine v_icmp_le 22 dX4_put_18 (by decide) rfl (fun c18 => ?_) (fun c18 => ?_)
      · have h := o_p c18 h
        refine v_aload_n 0 rfl dX4_put_22 rfl ?_
        obtain ⟨v23, e23, h⟩ := o_b h
        refine v_getR e23 (by decide) (by decide) rfl qf_RX4_9 dX4_put_23 rfl ?_
        refine v_iload_n 1 rfl dX4_put_26 rfl ?_
        refine v_iconst (v := (1 : Int32)) (by decide) dX4_put_27 rfl ?_
        refine v_isub dX4_put_28 rfl ?_
        refine v_iload_n 2 rfl dX4_put_29 rfl ?_
        obtain ⟨s30, e30, h⟩ := o_b h
        refine v_qI e30 dX4_put_30 rfl ?_
        refine v_aload_n 0 rfl dX4_put_31 rfl ?_
        refine v_aload_n 0 rfl dX4_put_32 rfl ?_
        obtain ⟨v33, e33, h⟩ := o_b h
        refine v_getI e33 (by decide) (by decide) rfl qf_RX4_15 dX4_put_33 rfl ?_
        refine v_iload_n 1 rfl dX4_put_36 rfl ?_
        obtain ⟨v37, e37, h⟩ := o_b h
        refine v_Si (as := [.int v33, .int a1]) (st := [.ref a0]) (c' := 0) (k' := 0) (k_J9_max_7cf53 e37) mk_J9_max_7cf53 qs_J9_max_7cf53 qm_RX4_19 (ck rfl) rfl dX4_put_37 rfl rfl rfl ?_
        obtain ⟨s40, e40, h⟩ := o_b h
        refine v_putI e40 (by decide) (by decide) rfl rfl rfl rfl rfl qf_RX4_15 dX4_put_40 rfl ?_
        obtain rfl := Option.some.inj h
        exact v_vret rfl (Nat.le_of_ble_eq_true rfl) (Nat.le_of_ble_eq_true rfl) dX4_put_43
      · have h := o_n c18 h
        obtain rfl := Option.some.inj h
        exact v_vret rfl (Nat.le_of_ble_eq_true rfl) (Nat.le_of_ble_eq_true rfl) dX4_put_21
def rm_X4_copy : Room := { frames := 1, cells := 0, slots := 0, locals := 38 }
set_option maxRecDepth 100000 in
set_option maxHeartbeats 4000000 in
theorem k_X4_copy {G : Gm} {μ : Mu} {o : Int64} {σ' : Hp} {σ : Hp} {a0 : Nat} {a1 : Nat} (h : f_X4_copy σ a0 a1 = some σ') : Cv G yX4_copy cX4_copy 2 none rm_X4_copy [.ref a0, .ref a1] (σ, μ, o) (σ', μ, o) 0 0 := by
  refine v_entV [(0, .ref a0), (1, .ref a1)] (by decide +kernel) (Nat.le_of_ble_eq_true rfl) rfl ?_
  unfold f_X4_copy at h
  refine v_aload_n 1 rfl dX4_copy_0 rfl ?_
  obtain ⟨v1, e1, h⟩ := o_b h
  refine v_getR e1 (by decide) (by decide) rfl qf_RX4_9 dX4_copy_1 rfl ?_
  refine v_iconst (v := (0 : Int32)) (by decide) dX4_copy_4 rfl ?_
  refine v_aload_n 0 rfl dX4_copy_5 rfl ?_
  obtain ⟨v6, e6, h⟩ := o_b h
  refine v_getR e6 (by decide) (by decide) rfl qf_RX4_9 dX4_copy_6 rfl ?_
  refine v_iconst (v := (0 : Int32)) (by decide) dX4_copy_9 rfl ?_
  refine v_aload_n 1 rfl dX4_copy_10 rfl ?_
  obtain ⟨v11, e11, h⟩ := o_b h
  refine v_getI e11 (by decide) (by decide) rfl qf_RX4_15 dX4_copy_11 rfl ?_
  obtain ⟨s14, e14, h⟩ := o_b h
  refine v_cp e14 qm_RX4_25 qn_copy qs_copy qz_system (Nat.le_of_ble_eq_true rfl) (by decide) dX4_copy_14 rfl ?_
  refine v_aload_n 0 rfl dX4_copy_17 rfl ?_
  refine v_aload_n 1 rfl dX4_copy_18 rfl ?_
  obtain ⟨v19, e19, h⟩ := o_b h
  refine v_getI e19 (by decide) (by decide) rfl qf_RX4_15 dX4_copy_19 rfl ?_
  obtain ⟨s22, e22, h⟩ := o_b h
  refine v_putI e22 (by decide) (by decide) rfl rfl rfl rfl rfl qf_RX4_15 dX4_copy_22 rfl ?_
  obtain rfl := Option.some.inj h
  exact v_vret rfl (Nat.le_of_ble_eq_true rfl) (Nat.le_of_ble_eq_true rfl) dX4_copy_25
def rm_X4_copyFirst : Room := { frames := 1, cells := 0, slots := 0, locals := 38 }
set_option maxRecDepth 100000 in
set_option maxHeartbeats 4000000 in
theorem k_X4_copyFirst {G : Gm} {μ : Mu} {o : Int64} {σ' : Hp} {σ : Hp} {a0 : Nat} {a1 : Nat} {a2 : Int32} (h : f_X4_copyFirst σ a0 a1 a2 = some σ') : Cv G yX4_copyFirst cX4_copyFirst 3 none rm_X4_copyFirst [.ref a0, .ref a1, .int a2] (σ, μ, o) (σ', μ, o) 0 0 := by
  refine v_entV [(0, .ref a0), (1, .ref a1), (2, .int a2)] (by decide +kernel) (Nat.le_of_ble_eq_true rfl) rfl ?_
  unfold f_X4_copyFirst at h
  refine v_aload_n 1 rfl dX4_copyFirst_0 rfl ?_
  obtain ⟨v1, e1, h⟩ := o_b h
  refine v_getR e1 (by decide) (by decide) rfl qf_RX4_9 dX4_copyFirst_1 rfl ?_
  refine v_iconst (v := (0 : Int32)) (by decide) dX4_copyFirst_4 rfl ?_
  refine v_aload_n 0 rfl dX4_copyFirst_5 rfl ?_
  obtain ⟨v6, e6, h⟩ := o_b h
  refine v_getR e6 (by decide) (by decide) rfl qf_RX4_9 dX4_copyFirst_6 rfl ?_
  refine v_iconst (v := (0 : Int32)) (by decide) dX4_copyFirst_9 rfl ?_
  refine v_iload_n 2 rfl dX4_copyFirst_10 rfl ?_
  refine v_aload_n 1 rfl dX4_copyFirst_11 rfl ?_
  obtain ⟨v12, e12, h⟩ := o_b h
  refine v_getI e12 (by decide) (by decide) rfl qf_RX4_15 dX4_copyFirst_12 rfl ?_
  obtain ⟨v15, e15, h⟩ := o_b h
  refine v_Si (as := [.int a2, .int v12]) (st := [.int (0 : Int32), .ref v6, .int (0 : Int32), .ref v1]) (c' := 0) (k' := 0) (k_J9_min_7cf53 e15) mk_J9_min_7cf53 qs_J9_min_7cf53 qm_RX4_31 (ck rfl) rfl dX4_copyFirst_15 rfl rfl rfl ?_
  obtain ⟨s18, e18, h⟩ := o_b h
  refine v_cp e18 qm_RX4_25 qn_copy qs_copy qz_system (Nat.le_of_ble_eq_true rfl) (by decide) dX4_copyFirst_18 rfl ?_
  obtain rfl := Option.some.inj h
  exact v_vret rfl (Nat.le_of_ble_eq_true rfl) (Nat.le_of_ble_eq_true rfl) dX4_copyFirst_21
def rm_X6_leads : Room := { frames := 1, cells := 0, slots := 0, locals := 22 }
set_option maxRecDepth 100000 in
set_option maxHeartbeats 4000000 in
theorem k_X6_leads {G : Gm} {μ : Mu} {o : Int64} {r : Int32} {σ : Hp} {a0 : Nat} (h : f_X6_leads σ a0 = some r) : Ci G yX6_leads cX6_leads 1 (some .boolean) rm_X6_leads [.ref a0] (σ, μ, o) r (σ, μ, o) 0 0 := by
  refine v_entI [(0, .ref a0)] (by decide +kernel) (Nat.le_of_ble_eq_true rfl) rfl ?_
  unfold f_X6_leads at h
  refine v_aload_n 0 rfl dX6_leads_0 rfl ?_
  obtain ⟨v1, e1, h⟩ := o_b h
  refine v_getR e1 (by decide) (by decide) rfl qf_RX6_34 dX6_leads_1 rfl ?_
  obtain ⟨v4, e4, h⟩ := o_b h
  refine v_getI e4 (by decide) (by decide) rfl qf_RX6_68 dX6_leads_4 rfl ?_
  refine v_aload_n 0 rfl dX6_leads_7 rfl ?_
  obtain ⟨v8, e8, h⟩ := o_b h
  refine v_getI e8 (by decide) (by decide) rfl qf_RX6_44 dX6_leads_8 rfl ?_
  obtain ⟨v11, e11, h⟩ := o_b h
  refine v_Si (as := [.int v4, .int v8]) (st := []) (c' := 0) (k' := 0) (k_J9_floorMod_7cf53 e11) mk_J9_floorMod_7cf53 qs_J9_floorMod_7cf53 qm_RX6_71 (ck rfl) rfl dX6_leads_11 rfl rfl rfl ?_
  refine v_aload_n 0 rfl dX6_leads_14 rfl ?_
  obtain ⟨v15, e15, h⟩ := o_b h
  refine v_getI e15 (by decide) (by decide) rfl qf_RX6_41 dX6_leads_15 rfl ?_
  refine v_icmp_ne 25 dX6_leads_18 (by decide) rfl (fun c18 => ?_) (fun c18 => ?_)
  · have h := o_n c18 h
    refine v_iconst (v := (0 : Int32)) (by decide) dX6_leads_25 rfl ?_
    obtain rfl := Option.some.inj h
    exact v_iret rfl rfl (Nat.le_of_ble_eq_true rfl) (Nat.le_of_ble_eq_true rfl) dX6_leads_26
  · have h := o_p c18 h
    refine v_iconst (v := (1 : Int32)) (by decide) dX6_leads_21 rfl ?_
    refine v_goto (q := 26) dX6_leads_22 (by decide) ?_
    obtain rfl := Option.some.inj h
    exact v_iret rfl rfl (Nat.le_of_ble_eq_true rfl) (Nat.le_of_ble_eq_true rfl) dX6_leads_26
def rm_X6_executed : Room := { frames := 2, cells := 0, slots := 0, locals := 42 }
set_option maxRecDepth 100000 in
set_option maxHeartbeats 4000000 in
theorem k_X6_executed {G : Gm} {μ : Mu} {o : Int64} {r : Int32} {σ : Hp} {a0 : Nat} (h : f_X6_executed σ a0 = some r) : Ci G yX6_executed cX6_executed 1 (some .int) rm_X6_executed [.ref a0] (σ, μ, o) r (σ, μ, o) 0 0 := by
  refine v_entI [(0, .ref a0)] (by decide +kernel) (Nat.le_of_ble_eq_true rfl) rfl ?_
  unfold f_X6_executed at h
  refine v_aload_n 0 rfl dX6_executed_0 rfl ?_
  obtain ⟨⟨⟩, g1, h⟩ := o_b h
  obtain ⟨v1, e1, h⟩ := o_b h
  refine v_Vi (as := []) (st := []) (c' := 0) (k' := 0) (k_X6_leads e1) (rcv_c g1 (by decide) rfl) mk_X6_leads qi_X6_leads qe_X6_leads qm_RX6_77 (ck rfl) rfl dX6_executed_1 rfl rfl rfl ?_
  refine v_if_eq 25 dX6_executed_4 (by decide) rfl (fun c4 => ?_) (fun c4 => ?_)
  · have h := o_p c4 h
    refine v_aload_n 0 rfl dX6_executed_25 rfl ?_
    obtain ⟨v26, e26, h⟩ := o_b h
    refine v_getI e26 (by decide) (by decide) rfl qf_RX6_84 dX6_executed_26 rfl ?_
    refine v_aload_n 0 rfl dX6_executed_29 rfl ?_
    obtain ⟨v30, e30, h⟩ := o_b h
    refine v_getR e30 (by decide) (by decide) rfl qf_RX6_12 dX6_executed_30 rfl ?_
    obtain ⟨v33, e33, h⟩ := o_b h
    refine v_getI e33 (by decide) (by decide) rfl qf_RX6_81 dX6_executed_33 rfl ?_
    obtain ⟨v36, e36, h⟩ := o_b h
    refine v_Si (as := [.int v26, .int v33]) (st := []) (c' := 0) (k' := 0) (k_J9_min_7cf53 e36) mk_J9_min_7cf53 qs_J9_min_7cf53 qm_RX6_87 (ck rfl) rfl dX6_executed_36 rfl rfl rfl ?_
    obtain rfl := Option.some.inj h
    exact v_iret rfl rfl (Nat.le_of_ble_eq_true rfl) (Nat.le_of_ble_eq_true rfl) dX6_executed_39
  · have h := o_n c4 h
    refine v_aload_n 0 rfl dX6_executed_7 rfl ?_
    obtain ⟨v8, e8, h⟩ := o_b h
    refine v_getI e8 (by decide) (by decide) rfl qf_RX6_25 dX6_executed_8 rfl ?_
    refine v_iconst (v := (2 : Int32)) (by decide) dX6_executed_11 rfl ?_
    refine v_icmp_eq 25 dX6_executed_12 (by decide) rfl (fun c12 => ?_) (fun c12 => ?_)
    · have h := o_p c12 h
      refine v_aload_n 0 rfl dX6_executed_25 rfl ?_
      obtain ⟨v26, e26, h⟩ := o_b h
      refine v_getI e26 (by decide) (by decide) rfl qf_RX6_84 dX6_executed_26 rfl ?_
      refine v_aload_n 0 rfl dX6_executed_29 rfl ?_
      obtain ⟨v30, e30, h⟩ := o_b h
      refine v_getR e30 (by decide) (by decide) rfl qf_RX6_12 dX6_executed_30 rfl ?_
      obtain ⟨v33, e33, h⟩ := o_b h
      refine v_getI e33 (by decide) (by decide) rfl qf_RX6_81 dX6_executed_33 rfl ?_
      obtain ⟨v36, e36, h⟩ := o_b h
      refine v_Si (as := [.int v26, .int v33]) (st := []) (c' := 0) (k' := 0) (k_J9_min_7cf53 e36) mk_J9_min_7cf53 qs_J9_min_7cf53 qm_RX6_87 (ck rfl) rfl dX6_executed_36 rfl rfl rfl ?_
      obtain rfl := Option.some.inj h
      exact v_iret rfl rfl (Nat.le_of_ble_eq_true rfl) (Nat.le_of_ble_eq_true rfl) dX6_executed_39
    · have h := o_n c12 h
      refine v_aload_n 0 rfl dX6_executed_15 rfl ?_
      obtain ⟨v16, e16, h⟩ := o_b h
      refine v_getR e16 (by decide) (by decide) rfl qf_RX6_12 dX6_executed_16 rfl ?_
      obtain ⟨v19, e19, h⟩ := o_b h
      refine v_getI e19 (by decide) (by decide) rfl qf_RX6_81 dX6_executed_19 rfl ?_
      refine v_goto (q := 39) dX6_executed_22 (by decide) ?_
      obtain rfl := Option.some.inj h
      exact v_iret rfl rfl (Nat.le_of_ble_eq_true rfl) (Nat.le_of_ble_eq_true rfl) dX6_executed_39
def rm_X8_clear : Room := { frames := 0, cells := 0, slots := 0, locals := 0 }
set_option maxRecDepth 100000 in
set_option maxHeartbeats 4000000 in
theorem k_X8_clear {G : Gm} {μ : Mu} {o : Int64} {σ' : Hp} {σ : Hp} {a0 : Nat} (h : f_X8_clear σ a0 = some σ') : Cv G yX8_clear cX8_clear 1 none rm_X8_clear [.ref a0] (σ, μ, o) (σ', μ, o) 0 0 := by
  refine v_entV [(0, .ref a0)] (by decide +kernel) (Nat.le_of_ble_eq_true rfl) rfl ?_
  unfold f_X8_clear at h
  refine v_aload_n 0 rfl dX8_clear_0 rfl ?_
  refine v_iconst (v := (0 : Int32)) (by decide) dX8_clear_1 rfl ?_
  obtain ⟨s2, e2, h⟩ := o_b h
  refine v_putI e2 (by decide) (by decide) rfl rfl rfl rfl rfl qf_RX8_26 dX8_clear_2 rfl ?_
  refine v_aload_n 0 rfl dX8_clear_5 rfl ?_
  refine v_iconst (v := (0 : Int32)) (by decide) dX8_clear_6 rfl ?_
  obtain ⟨s7, e7, h⟩ := o_b h
  refine v_putI e7 (by decide) (by decide) rfl rfl rfl rfl rfl qf_RX8_30 dX8_clear_7 rfl ?_
  refine v_aload_n 0 rfl dX8_clear_10 rfl ?_
  refine v_iconst (v := (0 : Int32)) (by decide) dX8_clear_11 rfl ?_
  obtain ⟨s12, e12, h⟩ := o_b h
  refine v_putI e12 (by decide) (by decide) rfl rfl rfl rfl rfl qf_RX8_33 dX8_clear_12 rfl ?_
  obtain rfl := Option.some.inj h
  exact v_vret rfl (Nat.le_of_ble_eq_true rfl) (Nat.le_of_ble_eq_true rfl) dX8_clear_15
def rm_X6_forget : Room := { frames := 1, cells := 0, slots := 0, locals := 20 }
set_option maxRecDepth 100000 in
set_option maxHeartbeats 4000000 in
theorem k_X6_forget {G : Gm} {μ : Mu} {o : Int64} {σ' : Hp} {σ : Hp} {a0 : Nat} (h : f_X6_forget σ a0 = some σ') : Cv G yX6_forget cX6_forget 1 none rm_X6_forget [.ref a0] (σ, μ, o) (σ', μ, o) 0 0 := by
  refine v_entV [(0, .ref a0)] (by decide +kernel) (Nat.le_of_ble_eq_true rfl) rfl ?_
  unfold f_X6_forget at h
  refine v_aload_n 0 rfl dX6_forget_0 rfl ?_
  obtain ⟨v1, e1, h⟩ := o_b h
  refine v_getR e1 (by decide) (by decide) rfl qf_RX6_21 dX6_forget_1 rfl ?_
  refine v_iconst (v := (0 : Int32)) (by decide) dX6_forget_4 rfl ?_
  obtain ⟨s5, e5, h⟩ := o_b h
  refine v_putI e5 (by decide) (by decide) rfl rfl rfl rfl rfl qf_RX6_90 dX6_forget_5 rfl ?_
  refine v_aload_n 0 rfl dX6_forget_8 rfl ?_
  obtain ⟨v9, e9, h⟩ := o_b h
  refine v_getR e9 (by decide) (by decide) rfl qf_RX6_64 dX6_forget_9 rfl ?_
  obtain ⟨⟨⟩, g12, h⟩ := o_b h
  obtain ⟨v12, e12, h⟩ := o_b h
  refine v_Vv (as := []) (st := []) (c' := 0) (k' := 0) (k_X8_clear e12) (rcv_c g12 (by decide) rfl) mk_X8_clear qi_X8_clear qe_X8_clear qm_RX6_91 (ck rfl) rfl dX6_forget_12 rfl rfl rfl ?_
  obtain rfl := Option.some.inj h
  exact v_vret rfl (Nat.le_of_ble_eq_true rfl) (Nat.le_of_ble_eq_true rfl) dX6_forget_15
def rm_X6_send : Room := { frames := 1, cells := 0, slots := 0, locals := 24 }
set_option maxRecDepth 100000 in
set_option maxHeartbeats 4000000 in
theorem k_X6_send {G : Gm} {μ : Mu} {o : Int64} {r : Nat} {σ' : Hp} {σ : Hp} {a0 : Nat} {a1 : Int32} {a2 : Int32} {a3 : Int32} (h : f_X6_send σ a0 a1 a2 a3 = some (r, σ')) : Cr G yX6_send cX6_send 5 (some (.object "OrderedTable$Message")) rm_X6_send [.ref a0, .int a1, .int a2, .int a3] (σ, μ, o) r (σ', μ, o) 0 0 := by
  refine v_entR [(0, .ref a0), (1, .int a1), (2, .int a2), (3, .int a3)] (by decide +kernel) (Nat.le_of_ble_eq_true rfl) rfl ?_
  unfold f_X6_send at h
  refine v_aload_n 0 rfl dX6_send_0 rfl ?_
  obtain ⟨v1, e1, h⟩ := o_b h
  refine v_getR e1 (by decide) (by decide) rfl qf_RX6_55 dX6_send_1 rfl ?_
  refine v_iload_n 1 rfl dX6_send_4 rfl ?_
  refine v_aload_n 0 rfl dX6_send_5 rfl ?_
  obtain ⟨v6, e6, h⟩ := o_b h
  refine v_getI e6 (by decide) (by decide) rfl qf_RX6_41 dX6_send_6 rfl ?_
  refine v_iload_n 2 rfl dX6_send_9 rfl ?_
  obtain ⟨⟨⟩, g10, h⟩ := o_b h
  obtain ⟨v10, e10, h⟩ := o_b h
  refine v_Vr (as := [.int a1, .int v6, .int a2]) (st := []) (c' := 0) (k' := 0) (k_X1_send e10) (rcv_c g10 (by decide) rfl) mk_X1_send qi_X1_send qe_X1_send qm_RX6_297 (ck rfl) rfl dX6_send_10 rfl rfl rfl ?_
  refine v_astore [(4, .ref v10.1), (0, .ref a0), (1, .int a1), (2, .int a2), (3, .int a3)] dX6_send_13 rfl (by decide) rfl ?_
  refine v_aload 0 rfl dX6_send_15 rfl ?_
  refine v_aload_n 1 rfl dX6_send_17 rfl ?_
  obtain ⟨v18, e18, h⟩ := o_b h
  refine v_getR e18 (by decide) (by decide) rfl qf_RX6_34 dX6_send_18 rfl ?_
  obtain ⟨s21, e21, h⟩ := o_b h
  refine v_putR e21 (by decide) (by decide) rfl rfl qf_RX6_150 dX6_send_21 rfl ?_
  refine v_aload 0 rfl dX6_send_24 rfl ?_
  refine v_iload_n 4 rfl dX6_send_26 rfl ?_
  obtain ⟨s27, e27, h⟩ := o_b h
  refine v_putI e27 (by decide) (by decide) rfl rfl rfl rfl rfl qf_RX6_127 dX6_send_27 rfl ?_
  refine v_aload 0 rfl dX6_send_30 rfl ?_
  obtain ⟨rfl, rfl⟩ := o_s h
  exact v_aret rfl (Nat.le_of_ble_eq_true rfl) (Nat.le_of_ble_eq_true rfl) dX6_send_32
def rm_X6_sendToOthers : Room := { frames := 2, cells := 0, slots := 0, locals := 48 }
set_option maxRecDepth 100000 in
set_option maxHeartbeats 4000000 in
theorem l_X6_sendToOthers_26 {G : Gm} {μ : Mu} {o : Int64} {σ' : Hp} {rec2 : Hp → Nat → Int32 → Int32 → Int32 → Option Hp} (h2 : ∀ {σ : Hp} {x0 : Nat} {x1 : Int32} {x2 : Int32} {x3 : Int32} , rec2 σ x0 x1 x2 x3 = some σ' → V G yX6_sendToOthers cX6_sendToOthers 4 none rm_X6_sendToOthers (zV G (σ', μ, o) 0 0) (σ, μ, o) 0 0 2 [(0, .ref x0), (1, .int x1), (2, .int x2), (3, .int x3)] []) {σ : Hp} {x0 : Nat} {x1 : Int32} {x2 : Int32} {x3 : Int32} (h : f_X6_sendToOthers_26 rec2 σ x0 x1 x2 x3 = some σ') : V G yX6_sendToOthers cX6_sendToOthers 4 none rm_X6_sendToOthers (zV G (σ', μ, o) 0 0) (σ, μ, o) 0 0 26 [(0, .ref x0), (1, .int x1), (2, .int x2), (3, .int x3)] [] := by
  unfold f_X6_sendToOthers_26 at h
  refine v_iinc (v := (x3 + 1)) [(3, .int (x3 + 1)), (0, .ref x0), (1, .int x1), (2, .int x2)] 3 rfl rfl dX6_sendToOthers_26 rfl (by decide) rfl ?_
  refine v_goto (q := 2) dX6_sendToOthers_29 (by decide) ?_
  refine v_sub [1, 2, 3, 0] rfl ?_
  exact h2 h
set_option maxRecDepth 100000 in
set_option maxHeartbeats 4000000 in
theorem l_X6_sendToOthers_2 {G : Gm} {μ : Mu} {o : Int64} {σ' : Hp} : ∀ (n : Nat) {σ : Hp} {x0 : Nat} {x1 : Int32} {x2 : Int32} {x3 : Int32} , f_X6_sendToOthers_2 n σ x0 x1 x2 x3 = some σ' → V G yX6_sendToOthers cX6_sendToOthers 4 none rm_X6_sendToOthers (zV G (σ', μ, o) 0 0) (σ, μ, o) 0 0 2 [(0, .ref x0), (1, .int x1), (2, .int x2), (3, .int x3)] [] := by
  intro n
  induction n with
  | zero => intro _ _ _ _ _ h; cases h
  | succ n ih =>
    intro σ x0 x1 x2 x3 h
    replace h : b_X6_sendToOthers_2 (f_X6_sendToOthers_2 n) σ x0 x1 x2 x3 = some σ' := h
    unfold b_X6_sendToOthers_2 at h
    refine v_iload_n 3 rfl dX6_sendToOthers_2 rfl ?_
    refine v_aload_n 0 rfl dX6_sendToOthers_3 rfl ?_
    obtain ⟨v4, e4, h⟩ := o_b h
    refine v_getI e4 (by decide) (by decide) rfl qf_RX6_44 dX6_sendToOthers_4 rfl ?_
    refine v_icmp_ge 32 dX6_sendToOthers_7 (by decide) rfl (fun c7 => ?_) (fun c7 => ?_)
    · have h := o_p c7 h
      obtain rfl := Option.some.inj h
      exact v_vret rfl (Nat.le_of_ble_eq_true rfl) (Nat.le_of_ble_eq_true rfl) dX6_sendToOthers_32
    · have h := o_n c7 h
      refine v_iload_n 3 rfl dX6_sendToOthers_10 rfl ?_
      refine v_aload_n 0 rfl dX6_sendToOthers_11 rfl ?_
      obtain ⟨v12, e12, h⟩ := o_b h
      refine v_getI e12 (by decide) (by decide) rfl qf_RX6_41 dX6_sendToOthers_12 rfl ?_
      refine v_icmp_eq 26 dX6_sendToOthers_15 (by decide) rfl (fun c15 => ?_) (fun c15 => ?_)
      · have h := o_p c15 h
        exact l_X6_sendToOthers_26 (fun h => ih h) h
      · have h := o_n c15 h
        refine v_aload_n 0 rfl dX6_sendToOthers_18 rfl ?_
        refine v_iload_n 1 rfl dX6_sendToOthers_19 rfl ?_
        refine v_iload_n 3 rfl dX6_sendToOthers_20 rfl ?_
        refine v_iload_n 2 rfl dX6_sendToOthers_21 rfl ?_
        obtain ⟨⟨⟩, g22, h⟩ := o_b h
        obtain ⟨v22, e22, h⟩ := o_b h
        refine v_Vr (as := [.int x1, .int x3, .int x2]) (st := []) (c' := 0) (k' := 0) (k_X6_send e22) (rcv_c g22 (by decide) rfl) mk_X6_send qi_X6_send qe_X6_send qm_RX6_110 (ck rfl) rfl dX6_sendToOthers_22 rfl rfl rfl ?_
        refine v_pop rfl dX6_sendToOthers_25 rfl ?_
        exact l_X6_sendToOthers_26 (fun h => ih h) h
set_option maxRecDepth 100000 in
set_option maxHeartbeats 4000000 in
theorem k_X6_sendToOthers {G : Gm} {μ : Mu} {o : Int64} {σ' : Hp} {σ : Hp} {a0 : Nat} {a1 : Int32} {a2 : Int32} (h : f_X6_sendToOthers σ a0 a1 a2 = some σ') : Cv G yX6_sendToOthers cX6_sendToOthers 4 none rm_X6_sendToOthers [.ref a0, .int a1, .int a2] (σ, μ, o) (σ', μ, o) 0 0 := by
  refine v_entV [(0, .ref a0), (1, .int a1), (2, .int a2)] (by decide +kernel) (Nat.le_of_ble_eq_true rfl) rfl ?_
  unfold f_X6_sendToOthers at h
  refine v_iconst (v := (0 : Int32)) (by decide) dX6_sendToOthers_0 rfl ?_
  refine v_istore_n [(3, .int (0 : Int32)), (0, .ref a0), (1, .int a1), (2, .int a2)] dX6_sendToOthers_1 rfl (by decide) rfl ?_
  refine v_sub [1, 2, 3, 0] rfl ?_
  exact l_X6_sendToOthers_2 _ h
def rm_X6_sendLog : Room := { frames := 2, cells := 0, slots := 0, locals := 59 }
set_option maxRecDepth 100000 in
set_option maxHeartbeats 4000000 in
theorem k_X6_sendLog {G : Gm} {μ : Mu} {o : Int64} {σ' : Hp} {σ : Hp} {a0 : Nat} {a1 : Int32} {a2 : Int32} (h : f_X6_sendLog σ a0 a1 a2 = some σ') : Cv G yX6_sendLog cX6_sendLog 4 none rm_X6_sendLog [.ref a0, .int a1, .int a2] (σ, μ, o) (σ', μ, o) 0 0 := by
  refine v_entV [(0, .ref a0), (1, .int a1), (2, .int a2)] (by decide +kernel) (Nat.le_of_ble_eq_true rfl) rfl ?_
  unfold f_X6_sendLog at h
  refine v_aload_n 0 rfl dX6_sendLog_0 rfl ?_
  refine v_iload_n 1 rfl dX6_sendLog_1 rfl ?_
  refine v_iload_n 2 rfl dX6_sendLog_2 rfl ?_
  refine v_aload_n 0 rfl dX6_sendLog_3 rfl ?_
  obtain ⟨v4, e4, h⟩ := o_b h
  refine v_getR e4 (by decide) (by decide) rfl qf_RX6_12 dX6_sendLog_4 rfl ?_
  obtain ⟨v7, e7, h⟩ := o_b h
  refine v_getI e7 (by decide) (by decide) rfl qf_RX6_81 dX6_sendLog_7 rfl ?_
  obtain ⟨⟨⟩, g10, h⟩ := o_b h
  obtain ⟨v10, e10, h⟩ := o_b h
  refine v_Vr (as := [.int a1, .int a2, .int v7]) (st := []) (c' := 0) (k' := 0) (k_X6_send e10) (rcv_c g10 (by decide) rfl) mk_X6_send qi_X6_send qe_X6_send qm_RX6_110 (ck rfl) rfl dX6_sendLog_10 rfl rfl rfl ?_
  refine v_astore_n [(3, .ref v10.1), (0, .ref a0), (1, .int a1), (2, .int a2)] dX6_sendLog_13 rfl (by decide) rfl ?_
  refine v_aload_n 0 rfl dX6_sendLog_14 rfl ?_
  refine v_aload_n 1 rfl dX6_sendLog_15 rfl ?_
  obtain ⟨v16, e16, h⟩ := o_b h
  refine v_getR e16 (by decide) (by decide) rfl qf_RX6_38 dX6_sendLog_16 rfl ?_
  obtain ⟨s19, e19, h⟩ := o_b h
  refine v_putR e19 (by decide) (by decide) rfl rfl qf_RX6_296 dX6_sendLog_19 rfl ?_
  refine v_aload_n 0 rfl dX6_sendLog_22 rfl ?_
  refine v_aload_n 1 rfl dX6_sendLog_23 rfl ?_
  obtain ⟨v24, e24, h⟩ := o_b h
  refine v_getI e24 (by decide) (by decide) rfl qf_RX6_124 dX6_sendLog_24 rfl ?_
  obtain ⟨s27, e27, h⟩ := o_b h
  refine v_putI e27 (by decide) (by decide) rfl rfl rfl rfl rfl qf_RX6_238 dX6_sendLog_27 rfl ?_
  refine v_aload_n 0 rfl dX6_sendLog_30 rfl ?_
  obtain ⟨v31, e31, h⟩ := o_b h
  refine v_getR e31 (by decide) (by decide) rfl qf_RX6_206 dX6_sendLog_31 rfl ?_
  refine v_aload_n 1 rfl dX6_sendLog_34 rfl ?_
  obtain ⟨v35, e35, h⟩ := o_b h
  refine v_getR e35 (by decide) (by decide) rfl qf_RX6_12 dX6_sendLog_35 rfl ?_
  obtain ⟨⟨⟩, g38, h⟩ := o_b h
  obtain ⟨v38, e38, h⟩ := o_b h
  refine v_Vv (as := [.ref v35]) (st := []) (c' := 0) (k' := 0) (k_X4_copy e38) (rcv_c g38 (by decide) rfl) mk_X4_copy qi_X4_copy qe_X4_copy qm_RX6_239 (ck rfl) rfl dX6_sendLog_38 rfl rfl rfl ?_
  obtain rfl := Option.some.inj h
  exact v_vret rfl (Nat.le_of_ble_eq_true rfl) (Nat.le_of_ble_eq_true rfl) dX6_sendLog_41
def rm_X6_sendTurns : Room := { frames := 3, cells := 0, slots := 0, locals := 82 }
set_option maxRecDepth 100000 in
set_option maxHeartbeats 4000000 in
theorem k_X6_sendTurns {G : Gm} {μ : Mu} {o : Int64} {σ' : Hp} {σ : Hp} {a0 : Nat} (h : f_X6_sendTurns σ a0 = some σ') : Cv G yX6_sendTurns cX6_sendTurns 1 none rm_X6_sendTurns [.ref a0] (σ, μ, o) (σ', μ, o) 0 0 := by
  refine v_entV [(0, .ref a0)] (by decide +kernel) (Nat.le_of_ble_eq_true rfl) rfl ?_
  unfold f_X6_sendTurns at h
  refine v_aload_n 0 rfl dX6_sendTurns_0 rfl ?_
  refine v_bipush (v := (8 : Int32)) (by decide) dX6_sendTurns_1 rfl ?_
  refine v_iconst (v := (0 : Int32)) (by decide) dX6_sendTurns_3 rfl ?_
  obtain ⟨⟨⟩, g4, h⟩ := o_b h
  obtain ⟨v4, e4, h⟩ := o_b h
  refine v_Vv (as := [.int (8 : Int32), .int (0 : Int32)]) (st := []) (c' := 0) (k' := 0) (k_X6_sendToOthers e4) (rcv_c g4 (by decide) rfl) mk_X6_sendToOthers qi_X6_sendToOthers qe_X6_sendToOthers qm_RX6_103 (ck rfl) rfl dX6_sendTurns_4 rfl rfl rfl ?_
  refine v_aload_n 0 rfl dX6_sendTurns_7 rfl ?_
  obtain ⟨⟨⟩, g8, h⟩ := o_b h
  obtain ⟨v8, e8, h⟩ := o_b h
  refine v_Vi (as := []) (st := []) (c' := 0) (k' := 0) (k_X6_leads e8) (rcv_c g8 (by decide) rfl) mk_X6_leads qi_X6_leads qe_X6_leads qm_RX6_77 (ck rfl) rfl dX6_sendTurns_8 rfl rfl rfl ?_
  refine v_if_ne 31 dX6_sendTurns_11 (by decide) rfl (fun c11 => ?_) (fun c11 => ?_)
  · have h := o_n c11 h
    obtain rfl := Option.some.inj h
    exact v_vret rfl (Nat.le_of_ble_eq_true rfl) (Nat.le_of_ble_eq_true rfl) dX6_sendTurns_31
  · have h := o_p c11 h
    refine v_aload_n 0 rfl dX6_sendTurns_14 rfl ?_
    refine v_bipush (v := (9 : Int32)) (by decide) dX6_sendTurns_15 rfl ?_
    refine v_aload_n 0 rfl dX6_sendTurns_17 rfl ?_
    obtain ⟨v18, e18, h⟩ := o_b h
    refine v_getR e18 (by decide) (by decide) rfl qf_RX6_34 dX6_sendTurns_18 rfl ?_
    refine v_aload_n 0 rfl dX6_sendTurns_21 rfl ?_
    obtain ⟨v22, e22, h⟩ := o_b h
    refine v_getI e22 (by decide) (by decide) rfl qf_RX6_44 dX6_sendTurns_22 rfl ?_
    obtain ⟨⟨⟩, g25, h⟩ := o_b h
    obtain ⟨v25, e25, h⟩ := o_b h
    refine v_Vi (as := [.int v22]) (st := [.int (9 : Int32), .ref a0]) (c' := 0) (k' := 0) (k_X9_leader e25) (rcv_c g25 (by decide) rfl) mk_X9_leader qi_X9_leader qe_X9_leader qm_RX6_106 (ck rfl) rfl dX6_sendTurns_25 rfl rfl rfl ?_
    obtain ⟨⟨⟩, g28, h⟩ := o_b h
    obtain ⟨v28, e28, h⟩ := o_b h
    refine v_Vv (as := [.int (9 : Int32), .int v25]) (st := []) (c' := 0) (k' := 0) (k_X6_sendLog e28) (rcv_c g28 (by decide) rfl) mk_X6_sendLog qi_X6_sendLog qe_X6_sendLog qm_RX6_220 (ck rfl) rfl dX6_sendTurns_28 rfl rfl rfl ?_
    obtain rfl := Option.some.inj h
    exact v_vret rfl (Nat.le_of_ble_eq_true rfl) (Nat.le_of_ble_eq_true rfl) dX6_sendTurns_31
def rm_X6_turnTo : Room := { frames := 4, cells := 0, slots := 0, locals := 102 }
set_option maxRecDepth 100000 in
set_option maxHeartbeats 4000000 in
theorem k_X6_turnTo {G : Gm} {μ : Mu} {o : Int64} {σ' : Hp} {σ : Hp} {a0 : Nat} {a1 : Nat} (h : f_X6_turnTo σ a0 a1 = some σ') : Cv G yX6_turnTo cX6_turnTo 2 none rm_X6_turnTo [.ref a0, .ref a1] (σ, μ, o) (σ', μ, o) 0 0 := by
  refine v_entV [(0, .ref a0), (1, .ref a1)] (by decide +kernel) (Nat.le_of_ble_eq_true rfl) rfl ?_
  unfold f_X6_turnTo at h
  refine v_aload_n 0 rfl dX6_turnTo_0 rfl ?_
  refine v_aload_n 1 rfl dX6_turnTo_1 rfl ?_
  obtain ⟨s2, e2, h⟩ := o_b h
  refine v_putR e2 (by decide) (by decide) rfl rfl qf_RX6_34 dX6_turnTo_2 rfl ?_
  refine v_aload_n 0 rfl dX6_turnTo_5 rfl ?_
  refine v_iconst (v := (2 : Int32)) (by decide) dX6_turnTo_6 rfl ?_
  obtain ⟨s7, e7, h⟩ := o_b h
  refine v_putI e7 (by decide) (by decide) rfl rfl rfl rfl rfl qf_RX6_25 dX6_turnTo_7 rfl ?_
  refine v_aload_n 0 rfl dX6_turnTo_10 rfl ?_
  obtain ⟨⟨⟩, g11, h⟩ := o_b h
  obtain ⟨v11, e11, h⟩ := o_b h
  refine v_Vv (as := []) (st := []) (c' := 0) (k' := 0) (k_X6_forget e11) (rcv_c g11 (by decide) rfl) mk_X6_forget qi_X6_forget qe_X6_forget qm_RX6_94 (ck rfl) rfl dX6_turnTo_11 rfl rfl rfl ?_
  refine v_aload_n 0 rfl dX6_turnTo_14 rfl ?_
  refine v_iconst (v := (0 : Int32)) (by decide) dX6_turnTo_15 rfl ?_
  obtain ⟨s16, e16, h⟩ := o_b h
  refine v_putI e16 (by decide) (by decide) rfl rfl rfl rfl rfl qf_RX6_97 dX6_turnTo_16 rfl ?_
  refine v_aload_n 0 rfl dX6_turnTo_19 rfl ?_
  obtain ⟨⟨⟩, g20, h⟩ := o_b h
  obtain ⟨v20, e20, h⟩ := o_b h
  refine v_Vv (as := []) (st := []) (c' := 0) (k' := 0) (k_X6_sendTurns e20) (rcv_c g20 (by decide) rfl) mk_X6_sendTurns qi_X6_sendTurns qe_X6_sendTurns qm_RX6_100 (ck rfl) rfl dX6_turnTo_20 rfl rfl rfl ?_
  obtain rfl := Option.some.inj h
  exact v_vret rfl (Nat.le_of_ble_eq_true rfl) (Nat.le_of_ble_eq_true rfl) dX6_turnTo_23
def rm_X6_askAgain : Room := { frames := 4, cells := 0, slots := 0, locals := 102 }
set_option maxRecDepth 100000 in
set_option maxHeartbeats 4000000 in
theorem k_X6_askAgain {G : Gm} {μ : Mu} {o : Int64} {σ' : Hp} {σ : Hp} {a0 : Nat} (h : f_X6_askAgain σ a0 = some σ') : Cv G yX6_askAgain cX6_askAgain 1 none rm_X6_askAgain [.ref a0] (σ, μ, o) (σ', μ, o) 0 0 := by
  refine v_entV [(0, .ref a0)] (by decide +kernel) (Nat.le_of_ble_eq_true rfl) rfl ?_
  unfold f_X6_askAgain at h
  refine v_aload_n 0 rfl dX6_askAgain_0 rfl ?_
  obtain ⟨v1, e1, h⟩ := o_b h
  refine v_getI e1 (by decide) (by decide) rfl qf_RX6_25 dX6_askAgain_1 rfl ?_
  refine v_iconst (v := (1 : Int32)) (by decide) dX6_askAgain_4 rfl ?_
  refine v_icmp_ne 23 dX6_askAgain_5 (by decide) rfl (fun c5 => ?_) (fun c5 => ?_)
  · have h := o_n c5 h
    refine v_aload_n 0 rfl dX6_askAgain_23 rfl ?_
    obtain ⟨v24, e24, h⟩ := o_b h
    refine v_getI e24 (by decide) (by decide) rfl qf_RX6_25 dX6_askAgain_24 rfl ?_
    refine v_iconst (v := (2 : Int32)) (by decide) dX6_askAgain_27 rfl ?_
    refine v_icmp_ne 38 dX6_askAgain_28 (by decide) rfl (fun c28 => ?_) (fun c28 => ?_)
    · have h := o_n c28 h
      refine v_aload_n 0 rfl dX6_askAgain_38 rfl ?_
      obtain ⟨⟨⟩, g39, h⟩ := o_b h
      obtain ⟨v39, e39, h⟩ := o_b h
      refine v_Vi (as := []) (st := []) (c' := 0) (k' := 0) (k_X6_leads e39) (rcv_c g39 (by decide) rfl) mk_X6_leads qi_X6_leads qe_X6_leads qm_RX6_77 (ck rfl) rfl dX6_askAgain_39 rfl rfl rfl ?_
      refine v_if_ne 81 dX6_askAgain_42 (by decide) rfl (fun c42 => ?_) (fun c42 => ?_)
      · have h := o_n c42 h
        obtain rfl := Option.some.inj h
        exact v_vret rfl (Nat.le_of_ble_eq_true rfl) (Nat.le_of_ble_eq_true rfl) dX6_askAgain_81
      · have h := o_p c42 h
        refine v_aload_n 0 rfl dX6_askAgain_45 rfl ?_
        obtain ⟨v46, e46, h⟩ := o_b h
        refine v_getR e46 (by decide) (by decide) rfl qf_RX6_21 dX6_askAgain_46 rfl ?_
        obtain ⟨v49, e49, h⟩ := o_b h
        refine v_getI e49 (by decide) (by decide) rfl qf_RX6_90 dX6_askAgain_49 rfl ?_
        refine v_if_le 81 dX6_askAgain_52 (by decide) rfl (fun c52 => ?_) (fun c52 => ?_)
        · have h := o_p c52 h
          obtain rfl := Option.some.inj h
          exact v_vret rfl (Nat.le_of_ble_eq_true rfl) (Nat.le_of_ble_eq_true rfl) dX6_askAgain_81
        · have h := o_n c52 h
          refine v_aload_n 0 rfl dX6_askAgain_55 rfl ?_
          refine v_iconst (v := (1 : Int32)) (by decide) dX6_askAgain_56 rfl ?_
          refine v_aload_n 0 rfl dX6_askAgain_57 rfl ?_
          obtain ⟨v58, e58, h⟩ := o_b h
          refine v_getR e58 (by decide) (by decide) rfl qf_RX6_34 dX6_askAgain_58 rfl ?_
          refine v_aload_n 0 rfl dX6_askAgain_61 rfl ?_
          obtain ⟨v62, e62, h⟩ := o_b h
          refine v_getI e62 (by decide) (by decide) rfl qf_RX6_44 dX6_askAgain_62 rfl ?_
          obtain ⟨⟨⟩, g65, h⟩ := o_b h
          obtain ⟨v65, e65, h⟩ := o_b h
          refine v_Vi (as := [.int v62]) (st := [.int (1 : Int32), .ref a0]) (c' := 0) (k' := 0) (k_X9_leader e65) (rcv_c g65 (by decide) rfl) mk_X9_leader qi_X9_leader qe_X9_leader qm_RX6_106 (ck rfl) rfl dX6_askAgain_65 rfl rfl rfl ?_
          refine v_aload_n 0 rfl dX6_askAgain_68 rfl ?_
          obtain ⟨v69, e69, h⟩ := o_b h
          refine v_getR e69 (by decide) (by decide) rfl qf_RX6_12 dX6_askAgain_69 rfl ?_
          obtain ⟨v72, e72, h⟩ := o_b h
          refine v_getI e72 (by decide) (by decide) rfl qf_RX6_81 dX6_askAgain_72 rfl ?_
          refine v_iconst (v := (1 : Int32)) (by decide) dX6_askAgain_75 rfl ?_
          refine v_iadd dX6_askAgain_76 rfl ?_
          obtain ⟨⟨⟩, g77, h⟩ := o_b h
          obtain ⟨v77, e77, h⟩ := o_b h
          refine v_Vr (as := [.int (1 : Int32), .int v65, .int (v72 + (1 : Int32))]) (st := []) (c' := 0) (k' := 0) (k_X6_send e77) (rcv_c g77 (by decide) rfl) mk_X6_send qi_X6_send qe_X6_send qm_RX6_110 (ck rfl) rfl dX6_askAgain_77 rfl rfl rfl ?_
          refine v_pop rfl dX6_askAgain_80 rfl ?_
          obtain rfl := Option.some.inj h
          exact v_vret rfl (Nat.le_of_ble_eq_true rfl) (Nat.le_of_ble_eq_true rfl) dX6_askAgain_81
    · have h := o_p c28 h
      refine v_aload_n 0 rfl dX6_askAgain_31 rfl ?_
      obtain ⟨⟨⟩, g32, h⟩ := o_b h
      obtain ⟨v32, e32, h⟩ := o_b h
      refine v_Vv (as := []) (st := []) (c' := 0) (k' := 0) (k_X6_sendTurns e32) (rcv_c g32 (by decide) rfl) mk_X6_sendTurns qi_X6_sendTurns qe_X6_sendTurns qm_RX6_100 (ck rfl) rfl dX6_askAgain_32 rfl rfl rfl ?_
      refine v_goto (q := 81) dX6_askAgain_35 (by decide) ?_
      obtain rfl := Option.some.inj h
      exact v_vret rfl (Nat.le_of_ble_eq_true rfl) (Nat.le_of_ble_eq_true rfl) dX6_askAgain_81
  · have h := o_p c5 h
    refine v_aload_n 0 rfl dX6_askAgain_8 rfl ?_
    refine v_iconst (v := (3 : Int32)) (by decide) dX6_askAgain_9 rfl ?_
    refine v_aload_n 0 rfl dX6_askAgain_10 rfl ?_
    obtain ⟨v11, e11, h⟩ := o_b h
    refine v_getR e11 (by decide) (by decide) rfl qf_RX6_12 dX6_askAgain_11 rfl ?_
    obtain ⟨v14, e14, h⟩ := o_b h
    refine v_getI e14 (by decide) (by decide) rfl qf_RX6_81 dX6_askAgain_14 rfl ?_
    obtain ⟨⟨⟩, g17, h⟩ := o_b h
    obtain ⟨v17, e17, h⟩ := o_b h
    refine v_Vv (as := [.int (3 : Int32), .int v14]) (st := []) (c' := 0) (k' := 0) (k_X6_sendToOthers e17) (rcv_c g17 (by decide) rfl) mk_X6_sendToOthers qi_X6_sendToOthers qe_X6_sendToOthers qm_RX6_103 (ck rfl) rfl dX6_askAgain_17 rfl rfl rfl ?_
    refine v_goto (q := 81) dX6_askAgain_20 (by decide) ?_
    obtain rfl := Option.some.inj h
    exact v_vret rfl (Nat.le_of_ble_eq_true rfl) (Nat.le_of_ble_eq_true rfl) dX6_askAgain_81
def rm_X9_init : Room := { frames := 1, cells := 0, slots := 0, locals := 20 }
set_option maxRecDepth 100000 in
set_option maxHeartbeats 4000000 in
theorem k_X9_init {G : Gm} {μ : Mu} {o : Int64} {σ' : Hp} {σ : Hp} {a0 : Nat} {a1 : Int32} {a2 : Int32} (h : f_X9_init σ a0 a1 a2 = some σ') : Cv G yX9_init cX9_init 3 none rm_X9_init [.ref a0, .int a1, .int a2] (σ, μ, o) (σ', μ, o) 0 0 := by
  refine v_entV [(0, .ref a0), (1, .int a1), (2, .int a2)] (by decide +kernel) (Nat.le_of_ble_eq_true rfl) rfl ?_
  unfold f_X9_init at h
  refine v_aload_n 0 rfl dX9_init_0 rfl ?_
  refine v_obj qm_RX9_1 qi_obj qo_obj (Nat.le_of_ble_eq_true rfl) (Nat.le_of_ble_eq_true rfl) dX9_init_1 rfl ?_
  refine v_aload_n 0 rfl dX9_init_4 rfl ?_
  refine v_iload_n 1 rfl dX9_init_5 rfl ?_
  obtain ⟨s6, e6, h⟩ := o_b h
  refine v_putFI e6 (by decide) (by decide) rfl rfl rfl rfl rfl rfl rfl qf_RX9_7 dX9_init_6 rfl ?_
  refine v_aload_n 0 rfl dX9_init_9 rfl ?_
  refine v_iload_n 2 rfl dX9_init_10 rfl ?_
  obtain ⟨s11, e11, h⟩ := o_b h
  refine v_putFI e11 (by decide) (by decide) rfl rfl rfl rfl rfl rfl rfl qf_RX9_13 dX9_init_11 rfl ?_
  obtain rfl := Option.some.inj h
  exact v_vret rfl (Nat.le_of_ble_eq_true rfl) (Nat.le_of_ble_eq_true rfl) dX9_init_14
def rm_X10_isNew : Room := { frames := 0, cells := 0, slots := 0, locals := 0 }
set_option maxRecDepth 100000 in
set_option maxHeartbeats 4000000 in
theorem k_X10_isNew {G : Gm} {μ : Mu} {o : Int64} {r : Int32} {σ : Hp} {a0 : Nat} {a1 : Int32} (h : f_X10_isNew σ a0 a1 = some r) : Ci G yX10_isNew cX10_isNew 2 (some .boolean) rm_X10_isNew [.ref a0, .int a1] (σ, μ, o) r (σ, μ, o) 0 0 := by
  refine v_entI [(0, .ref a0), (1, .int a1)] (by decide +kernel) (Nat.le_of_ble_eq_true rfl) rfl ?_
  unfold f_X10_isNew at h
  refine v_aload_n 0 rfl dX10_isNew_0 rfl ?_
  obtain ⟨v1, e1, h⟩ := o_b h
  refine v_getR e1 (by decide) (by decide) rfl qf_RX10_24 dX10_isNew_1 rfl ?_
  obtain ⟨v4, e4, h⟩ := o_b h
  refine v_getR e4 (by decide) (by decide) rfl qf_RX10_53 dX10_isNew_4 rfl ?_
  refine v_iload_n 1 rfl dX10_isNew_7 rfl ?_
  obtain ⟨v8, e8, h⟩ := o_b h
  refine v_aI e8 dX10_isNew_8 rfl ?_
  refine v_aload_n 0 rfl dX10_isNew_9 rfl ?_
  obtain ⟨v10, e10, h⟩ := o_b h
  refine v_getR e10 (by decide) (by decide) rfl qf_RX10_24 dX10_isNew_10 rfl ?_
  obtain ⟨v13, e13, h⟩ := o_b h
  refine v_getR e13 (by decide) (by decide) rfl qf_RX10_53 dX10_isNew_13 rfl ?_
  refine v_aload_n 0 rfl dX10_isNew_16 rfl ?_
  obtain ⟨v17, e17, h⟩ := o_b h
  refine v_getR e17 (by decide) (by decide) rfl qf_RX10_15 dX10_isNew_17 rfl ?_
  refine v_aload_n 0 rfl dX10_isNew_20 rfl ?_
  obtain ⟨v21, e21, h⟩ := o_b h
  refine v_getR e21 (by decide) (by decide) rfl qf_RX10_24 dX10_isNew_21 rfl ?_
  obtain ⟨v24, e24, h⟩ := o_b h
  refine v_getR e24 (by decide) (by decide) rfl qf_RX10_48 dX10_isNew_24 rfl ?_
  refine v_iload_n 1 rfl dX10_isNew_27 rfl ?_
  obtain ⟨v28, e28, h⟩ := o_b h
  refine v_aI e28 dX10_isNew_28 rfl ?_
  obtain ⟨v29, e29, h⟩ := o_b h
  refine v_aI e29 dX10_isNew_29 rfl ?_
  obtain ⟨v30, e30, h⟩ := o_b h
  refine v_aI e30 dX10_isNew_30 rfl ?_
  refine v_icmp_le 38 dX10_isNew_31 (by decide) rfl (fun c31 => ?_) (fun c31 => ?_)
  · have h := o_p c31 h
    refine v_iconst (v := (0 : Int32)) (by decide) dX10_isNew_38 rfl ?_
    obtain rfl := Option.some.inj h
    exact v_iret rfl rfl (Nat.le_of_ble_eq_true rfl) (Nat.le_of_ble_eq_true rfl) dX10_isNew_39
  · have h := o_n c31 h
    refine v_iconst (v := (1 : Int32)) (by decide) dX10_isNew_34 rfl ?_
    refine v_goto (q := 39) dX10_isNew_35 (by decide) ?_
    obtain rfl := Option.some.inj h
    exact v_iret rfl rfl (Nat.le_of_ble_eq_true rfl) (Nat.le_of_ble_eq_true rfl) dX10_isNew_39
def rm_X10_executeRequest : Room := { frames := 0, cells := 0, slots := 0, locals := 0 }
set_option maxRecDepth 100000 in
set_option maxHeartbeats 4000000 in
theorem k_X10_executeRequest {G : Gm} {μ : Mu} {o : Int64} {σ' : Hp} {σ : Hp} {a0 : Nat} {a1 : Int32} (h : f_X10_executeRequest σ a0 a1 = some σ') : Cv G yX10_executeRequest cX10_executeRequest 3 none rm_X10_executeRequest [.ref a0, .int a1] (σ, μ, o) (σ', μ, o) 0 0 := by
  refine v_entV [(0, .ref a0), (1, .int a1)] (by decide +kernel) (Nat.le_of_ble_eq_true rfl) rfl ?_
  unfold f_X10_executeRequest at h
  refine v_aload_n 0 rfl dX10_executeRequest_0 rfl ?_
  obtain ⟨v1, e1, h⟩ := o_b h
  refine v_getR e1 (by decide) (by decide) rfl qf_RX10_24 dX10_executeRequest_1 rfl ?_
  obtain ⟨v4, e4, h⟩ := o_b h
  refine v_getR e4 (by decide) (by decide) rfl qf_RX10_56 dX10_executeRequest_4 rfl ?_
  refine v_iload_n 1 rfl dX10_executeRequest_7 rfl ?_
  obtain ⟨v8, e8, h⟩ := o_b h
  refine v_aI e8 dX10_executeRequest_8 rfl ?_
  refine v_istore_n [(2, .int v8), (0, .ref a0), (1, .int a1)] dX10_executeRequest_9 rfl (by decide) rfl ?_
  refine v_aload_n 1 rfl dX10_executeRequest_10 rfl ?_
  obtain ⟨v11, e11, h⟩ := o_b h
  refine v_getR e11 (by decide) (by decide) rfl qf_RX10_15 dX10_executeRequest_11 rfl ?_
  refine v_aload_n 1 rfl dX10_executeRequest_14 rfl ?_
  obtain ⟨v15, e15, h⟩ := o_b h
  refine v_getR e15 (by decide) (by decide) rfl qf_RX10_24 dX10_executeRequest_15 rfl ?_
  obtain ⟨v18, e18, h⟩ := o_b h
  refine v_getR e18 (by decide) (by decide) rfl qf_RX10_48 dX10_executeRequest_18 rfl ?_
  refine v_iload_n 2 rfl dX10_executeRequest_21 rfl ?_
  obtain ⟨v22, e22, h⟩ := o_b h
  refine v_aI e22 dX10_executeRequest_22 rfl ?_
  refine v_iload_n 2 rfl dX10_executeRequest_23 rfl ?_
  obtain ⟨s24, e24, h⟩ := o_b h
  refine v_qI e24 dX10_executeRequest_24 rfl ?_
  refine v_aload_n 1 rfl dX10_executeRequest_25 rfl ?_
  obtain ⟨v26, e26, h⟩ := o_b h
  refine v_getR e26 (by decide) (by decide) rfl qf_RX10_18 dX10_executeRequest_26 rfl ?_
  refine v_iload_n 2 rfl dX10_executeRequest_29 rfl ?_
  refine v_iconst (v := (1 : Int32)) (by decide) dX10_executeRequest_30 rfl ?_
  obtain ⟨s31, e31, h⟩ := o_b h
  refine v_qI e31 dX10_executeRequest_31 rfl ?_
  refine v_aload_n 1 rfl dX10_executeRequest_32 rfl ?_
  obtain ⟨v33, e33, h⟩ := o_b h
  refine v_getR e33 (by decide) (by decide) rfl qf_RX10_21 dX10_executeRequest_33 rfl ?_
  refine v_iload_n 2 rfl dX10_executeRequest_36 rfl ?_
  refine v_aload_n 1 rfl dX10_executeRequest_37 rfl ?_
  obtain ⟨v38, e38, h⟩ := o_b h
  refine v_getR e38 (by decide) (by decide) rfl qf_RX10_9 dX10_executeRequest_38 rfl ?_
  refine v_iload_n 0 rfl dX10_executeRequest_41 rfl ?_
  obtain ⟨v42, e42, h⟩ := o_b h
  refine v_aI e42 dX10_executeRequest_42 rfl ?_
  obtain ⟨s43, e43, h⟩ := o_b h
  refine v_qI e43 dX10_executeRequest_43 rfl ?_
  refine v_aload_n 1 rfl dX10_executeRequest_44 rfl ?_
  obtain ⟨v45, e45, h⟩ := o_b h
  refine v_getR e45 (by decide) (by decide) rfl qf_RX10_24 dX10_executeRequest_45 rfl ?_
  obtain ⟨v48, e48, h⟩ := o_b h
  refine v_getR e48 (by decide) (by decide) rfl qf_RX10_59 dX10_executeRequest_48 rfl ?_
  refine v_iload_n 2 rfl dX10_executeRequest_51 rfl ?_
  obtain ⟨v52, e52, h⟩ := o_b h
  refine v_aI e52 dX10_executeRequest_52 rfl ?_
  refine v_iconst (v := (1 : Int32)) (by decide) dX10_executeRequest_53 rfl ?_
  refine v_icmp_ne 75 dX10_executeRequest_54 (by decide) rfl (fun c54 => ?_) (fun c54 => ?_)
  · have h := o_n c54 h
    refine v_aload_n 1 rfl dX10_executeRequest_75 rfl ?_
    obtain ⟨v76, e76, h⟩ := o_b h
    refine v_getR e76 (by decide) (by decide) rfl qf_RX10_24 dX10_executeRequest_76 rfl ?_
    obtain ⟨v79, e79, h⟩ := o_b h
    refine v_getR e79 (by decide) (by decide) rfl qf_RX10_59 dX10_executeRequest_79 rfl ?_
    refine v_iload_n 2 rfl dX10_executeRequest_82 rfl ?_
    obtain ⟨v83, e83, h⟩ := o_b h
    refine v_aI e83 dX10_executeRequest_83 rfl ?_
    refine v_iconst (v := (2 : Int32)) (by decide) dX10_executeRequest_84 rfl ?_
    refine v_icmp_ne 106 dX10_executeRequest_85 (by decide) rfl (fun c85 => ?_) (fun c85 => ?_)
    · have h := o_n c85 h
      obtain rfl := Option.some.inj h
      exact v_vret rfl (Nat.le_of_ble_eq_true rfl) (Nat.le_of_ble_eq_true rfl) dX10_executeRequest_106
    · have h := o_p c85 h
      refine v_aload_n 1 rfl dX10_executeRequest_88 rfl ?_
      obtain ⟨v89, e89, h⟩ := o_b h
      refine v_getR e89 (by decide) (by decide) rfl qf_RX10_9 dX10_executeRequest_89 rfl ?_
      refine v_iload_n 0 rfl dX10_executeRequest_92 rfl ?_
      refine v_dup2 rfl rfl dX10_executeRequest_93 rfl ?_
      obtain ⟨v94, e94, h⟩ := o_b h
      refine v_aI e94 dX10_executeRequest_94 rfl ?_
      refine v_aload_n 1 rfl dX10_executeRequest_95 rfl ?_
      obtain ⟨v96, e96, h⟩ := o_b h
      refine v_getR e96 (by decide) (by decide) rfl qf_RX10_24 dX10_executeRequest_96 rfl ?_
      obtain ⟨v99, e99, h⟩ := o_b h
      refine v_getR e99 (by decide) (by decide) rfl qf_RX10_62 dX10_executeRequest_99 rfl ?_
      refine v_iload_n 2 rfl dX10_executeRequest_102 rfl ?_
      obtain ⟨v103, e103, h⟩ := o_b h
      refine v_aI e103 dX10_executeRequest_103 rfl ?_
      refine v_iadd dX10_executeRequest_104 rfl ?_
      obtain ⟨s105, e105, h⟩ := o_b h
      refine v_qI e105 dX10_executeRequest_105 rfl ?_
      obtain rfl := Option.some.inj h
      exact v_vret rfl (Nat.le_of_ble_eq_true rfl) (Nat.le_of_ble_eq_true rfl) dX10_executeRequest_106
  · have h := o_p c54 h
    refine v_aload_n 1 rfl dX10_executeRequest_57 rfl ?_
    obtain ⟨v58, e58, h⟩ := o_b h
    refine v_getR e58 (by decide) (by decide) rfl qf_RX10_9 dX10_executeRequest_58 rfl ?_
    refine v_iload_n 0 rfl dX10_executeRequest_61 rfl ?_
    refine v_aload_n 1 rfl dX10_executeRequest_62 rfl ?_
    obtain ⟨v63, e63, h⟩ := o_b h
    refine v_getR e63 (by decide) (by decide) rfl qf_RX10_24 dX10_executeRequest_63 rfl ?_
    obtain ⟨v66, e66, h⟩ := o_b h
    refine v_getR e66 (by decide) (by decide) rfl qf_RX10_62 dX10_executeRequest_66 rfl ?_
    refine v_iload_n 2 rfl dX10_executeRequest_69 rfl ?_
    obtain ⟨v70, e70, h⟩ := o_b h
    refine v_aI e70 dX10_executeRequest_70 rfl ?_
    obtain ⟨s71, e71, h⟩ := o_b h
    refine v_qI e71 dX10_executeRequest_71 rfl ?_
    refine v_goto (q := 106) dX10_executeRequest_72 (by decide) ?_
    obtain rfl := Option.some.inj h
    exact v_vret rfl (Nat.le_of_ble_eq_true rfl) (Nat.le_of_ble_eq_true rfl) dX10_executeRequest_106
def rm_X10_execute : Room := { frames := 1, cells := 0, slots := 0, locals := 23 }
set_option maxRecDepth 100000 in
set_option maxHeartbeats 4000000 in
theorem l_X10_execute_58 {G : Gm} {μ : Mu} {o : Int64} {σ' : Hp} {rec26 : Hp → Nat → Nat → Int32 → Int32 → Option Hp} (h26 : ∀ {σ : Hp} {x0 : Nat} {x1 : Nat} {x2 : Int32} {x3 : Int32} , rec26 σ x0 x1 x2 x3 = some σ' → V G yX10_execute cX10_execute 5 none rm_X10_execute (zV G (σ', μ, o) 0 0) (σ, μ, o) 0 0 26 [(0, .ref x0), (1, .ref x1), (2, .int x2), (3, .int x3)] []) {σ : Hp} {x0 : Nat} {x1 : Nat} {x2 : Int32} {x3 : Int32} (h : f_X10_execute_58 rec26 σ x0 x1 x2 x3 = some σ') : V G yX10_execute cX10_execute 5 none rm_X10_execute (zV G (σ', μ, o) 0 0) (σ, μ, o) 0 0 58 [(0, .ref x0), (1, .ref x1), (2, .int x2), (3, .int x3)] [] := by
  unfold f_X10_execute_58 at h
  refine v_iinc (v := (x3 + 1)) [(3, .int (x3 + 1)), (0, .ref x0), (1, .ref x1), (2, .int x2)] 3 rfl rfl dX10_execute_58 rfl (by decide) rfl ?_
  refine v_goto (q := 26) dX10_execute_61 (by decide) ?_
  refine v_sub [1, 2, 3, 0] rfl ?_
  exact h26 h
set_option maxRecDepth 100000 in
set_option maxHeartbeats 4000000 in
theorem l_X10_execute_26 {G : Gm} {μ : Mu} {o : Int64} {σ' : Hp} : ∀ (n : Nat) {σ : Hp} {x0 : Nat} {x1 : Nat} {x2 : Int32} {x3 : Int32} , f_X10_execute_26 n σ x0 x1 x2 x3 = some σ' → V G yX10_execute cX10_execute 5 none rm_X10_execute (zV G (σ', μ, o) 0 0) (σ, μ, o) 0 0 26 [(0, .ref x0), (1, .ref x1), (2, .int x2), (3, .int x3)] [] := by
  intro n
  induction n with
  | zero => intro _ _ _ _ _ h; cases h
  | succ n ih =>
    intro σ x0 x1 x2 x3 h
    replace h : b_X10_execute_26 (f_X10_execute_26 n) σ x0 x1 x2 x3 = some σ' := h
    unfold b_X10_execute_26 at h
    refine v_iload_n 3 rfl dX10_execute_26 rfl ?_
    refine v_iload_n 2 rfl dX10_execute_27 rfl ?_
    refine v_icmp_gt 64 dX10_execute_28 (by decide) rfl (fun c28 => ?_) (fun c28 => ?_)
    · have h := o_p c28 h
      obtain rfl := Option.some.inj h
      exact v_vret rfl (Nat.le_of_ble_eq_true rfl) (Nat.le_of_ble_eq_true rfl) dX10_execute_64
    · have h := o_n c28 h
      refine v_aload_n 1 rfl dX10_execute_31 rfl ?_
      refine v_iload_n 3 rfl dX10_execute_32 rfl ?_
      obtain ⟨⟨⟩, g33, h⟩ := o_b h
      obtain ⟨v33, e33, h⟩ := o_b h
      refine v_Vi (as := [.int x3]) (st := []) (c' := 0) (k' := 0) (k_X4_at e33) (rcv_c g33 (by decide) rfl) mk_X4_at qi_X4_at qe_X4_at qm_RX10_34 (ck rfl) rfl dX10_execute_33 rfl rfl rfl ?_
      refine v_istore [(4, .int v33), (0, .ref x0), (1, .ref x1), (2, .int x2), (3, .int x3)] dX10_execute_36 rfl (by decide) rfl ?_
      refine v_iload 0 rfl dX10_execute_38 rfl ?_
      refine v_if_eq 58 dX10_execute_40 (by decide) rfl (fun c40 => ?_) (fun c40 => ?_)
      · have h := o_p c40 h
        refine v_sub [1, 2, 3, 4] rfl ?_
        exact l_X10_execute_58 (fun h => ih h) h
      · have h := o_n c40 h
        refine v_aload_n 1 rfl dX10_execute_43 rfl ?_
        refine v_iload 0 rfl dX10_execute_44 rfl ?_
        obtain ⟨⟨⟩, g46, h⟩ := o_b h
        obtain ⟨v46, e46, h⟩ := o_b h
        refine v_Vi (as := [.int v33]) (st := []) (c' := 0) (k' := 0) (k_X10_isNew e46) (rcv_c g46 (by decide) rfl) mk_X10_isNew qi_X10_isNew qe_X10_isNew qm_RX10_40 (ck rfl) rfl dX10_execute_46 rfl rfl rfl ?_
        refine v_if_eq 58 dX10_execute_49 (by decide) rfl (fun c49 => ?_) (fun c49 => ?_)
        · have h := o_p c49 h
          refine v_sub [1, 2, 3, 4] rfl ?_
          exact l_X10_execute_58 (fun h => ih h) h
        · have h := o_n c49 h
          refine v_aload_n 1 rfl dX10_execute_52 rfl ?_
          refine v_iload 0 rfl dX10_execute_53 rfl ?_
          obtain ⟨⟨⟩, g55, h⟩ := o_b h
          obtain ⟨v55, e55, h⟩ := o_b h
          refine v_Vv (as := [.int v33]) (st := []) (c' := 0) (k' := 0) (k_X10_executeRequest e55) (rcv_c g55 (by decide) rfl) mk_X10_executeRequest qi_X10_executeRequest qe_X10_executeRequest qm_RX10_44 (ck rfl) rfl dX10_execute_55 rfl rfl rfl ?_
          refine v_sub [1, 2, 3, 4] rfl ?_
          exact l_X10_execute_58 (fun h => ih h) h
set_option maxRecDepth 100000 in
set_option maxHeartbeats 4000000 in
theorem k_X10_execute {G : Gm} {μ : Mu} {o : Int64} {σ' : Hp} {σ : Hp} {a0 : Nat} {a1 : Nat} {a2 : Int32} (h : f_X10_execute σ a0 a1 a2 = some σ') : Cv G yX10_execute cX10_execute 5 none rm_X10_execute [.ref a0, .ref a1, .int a2] (σ, μ, o) (σ', μ, o) 0 0 := by
  refine v_entV [(0, .ref a0), (1, .ref a1), (2, .int a2)] (by decide +kernel) (Nat.le_of_ble_eq_true rfl) rfl ?_
  unfold f_X10_execute at h
  refine v_aload_n 0 rfl dX10_execute_0 rfl ?_
  obtain ⟨v1, e1, h⟩ := o_b h
  refine v_getR e1 (by decide) (by decide) rfl qf_RX10_9 dX10_execute_1 rfl ?_
  refine v_iconst (v := (0 : Int32)) (by decide) dX10_execute_4 rfl ?_
  obtain ⟨v5, e5, h⟩ := o_b h
  refine v_Sv (as := [.ref v1, .int (0 : Int32)]) (st := []) (c' := 0) (k' := 0) (k_J7_fill_53178 e5) mk_J7_fill_53178 qs_J7_fill_53178 qm_RX10_28 (ck rfl) rfl dX10_execute_5 rfl rfl rfl ?_
  refine v_aload_n 0 rfl dX10_execute_8 rfl ?_
  obtain ⟨v9, e9, h⟩ := o_b h
  refine v_getR e9 (by decide) (by decide) rfl qf_RX10_15 dX10_execute_9 rfl ?_
  refine v_iconst (v := (0 : Int32)) (by decide) dX10_execute_12 rfl ?_
  obtain ⟨v13, e13, h⟩ := o_b h
  refine v_Sv (as := [.ref v9, .int (0 : Int32)]) (st := []) (c' := 0) (k' := 0) (k_J7_fill_53178 e13) mk_J7_fill_53178 qs_J7_fill_53178 qm_RX10_28 (ck rfl) rfl dX10_execute_13 rfl rfl rfl ?_
  refine v_aload_n 0 rfl dX10_execute_16 rfl ?_
  obtain ⟨v17, e17, h⟩ := o_b h
  refine v_getR e17 (by decide) (by decide) rfl qf_RX10_18 dX10_execute_17 rfl ?_
  refine v_iconst (v := (0 : Int32)) (by decide) dX10_execute_20 rfl ?_
  obtain ⟨v21, e21, h⟩ := o_b h
  refine v_Sv (as := [.ref v17, .int (0 : Int32)]) (st := []) (c' := 0) (k' := 0) (k_J7_fill_53178 e21) mk_J7_fill_53178 qs_J7_fill_53178 qm_RX10_28 (ck rfl) rfl dX10_execute_21 rfl rfl rfl ?_
  refine v_iconst (v := (1 : Int32)) (by decide) dX10_execute_24 rfl ?_
  refine v_istore_n [(3, .int (1 : Int32)), (0, .ref a0), (1, .ref a1), (2, .int a2)] dX10_execute_25 rfl (by decide) rfl ?_
  refine v_sub [1, 2, 3, 0] rfl ?_
  exact l_X10_execute_26 _ h
def rm_X10_isLatest : Room := { frames := 0, cells := 0, slots := 0, locals := 0 }
set_option maxRecDepth 100000 in
set_option maxHeartbeats 4000000 in
theorem k_X10_isLatest {G : Gm} {μ : Mu} {o : Int64} {r : Int32} {σ : Hp} {a0 : Nat} {a1 : Int32} (h : f_X10_isLatest σ a0 a1 = some r) : Ci G yX10_isLatest cX10_isLatest 2 (some .boolean) rm_X10_isLatest [.ref a0, .int a1] (σ, μ, o) r (σ, μ, o) 0 0 := by
  refine v_entI [(0, .ref a0), (1, .int a1)] (by decide +kernel) (Nat.le_of_ble_eq_true rfl) rfl ?_
  unfold f_X10_isLatest at h
  refine v_aload_n 0 rfl dX10_isLatest_0 rfl ?_
  obtain ⟨v1, e1, h⟩ := o_b h
  refine v_getR e1 (by decide) (by decide) rfl qf_RX10_15 dX10_isLatest_1 rfl ?_
  refine v_aload_n 0 rfl dX10_isLatest_4 rfl ?_
  obtain ⟨v5, e5, h⟩ := o_b h
  refine v_getR e5 (by decide) (by decide) rfl qf_RX10_24 dX10_isLatest_5 rfl ?_
  obtain ⟨v8, e8, h⟩ := o_b h
  refine v_getR e8 (by decide) (by decide) rfl qf_RX10_48 dX10_isLatest_8 rfl ?_
  refine v_iload_n 1 rfl dX10_isLatest_11 rfl ?_
  obtain ⟨v12, e12, h⟩ := o_b h
  refine v_aI e12 dX10_isLatest_12 rfl ?_
  obtain ⟨v13, e13, h⟩ := o_b h
  refine v_aI e13 dX10_isLatest_13 rfl ?_
  refine v_iload_n 1 rfl dX10_isLatest_14 rfl ?_
  refine v_icmp_ne 22 dX10_isLatest_15 (by decide) rfl (fun c15 => ?_) (fun c15 => ?_)
  · have h := o_n c15 h
    refine v_iconst (v := (0 : Int32)) (by decide) dX10_isLatest_22 rfl ?_
    obtain rfl := Option.some.inj h
    exact v_iret rfl rfl (Nat.le_of_ble_eq_true rfl) (Nat.le_of_ble_eq_true rfl) dX10_isLatest_23
  · have h := o_p c15 h
    refine v_iconst (v := (1 : Int32)) (by decide) dX10_isLatest_18 rfl ?_
    refine v_goto (q := 23) dX10_isLatest_19 (by decide) ?_
    obtain rfl := Option.some.inj h
    exact v_iret rfl rfl (Nat.le_of_ble_eq_true rfl) (Nat.le_of_ble_eq_true rfl) dX10_isLatest_23
def rm_X6_reply : Room := { frames := 2, cells := 0, slots := 0, locals := 48 }
set_option maxRecDepth 100000 in
set_option maxHeartbeats 4000000 in
theorem l_X6_reply_48 {G : Gm} {μ : Mu} {o : Int64} {σ' : Hp} {σ : Hp} {x0 : Nat} {x1 : Int32} {x2 : Int32} {x3 : Int32} (h : f_X6_reply_48 σ x0 x1 x2 x3 = some σ') : V G yX6_reply cX6_reply 5 none rm_X6_reply (zV G (σ', μ, o) 0 0) (σ, μ, o) 0 0 48 [(0, .ref x0), (1, .int x1), (2, .int x2), (3, .int x3)] [] := by
  unfold f_X6_reply_48 at h
  refine v_aload_n 0 rfl dX6_reply_48 rfl ?_
  refine v_bipush (v := (11 : Int32)) (by decide) dX6_reply_49 rfl ?_
  refine v_aload_n 0 rfl dX6_reply_51 rfl ?_
  obtain ⟨v52, e52, h⟩ := o_b h
  refine v_getR e52 (by decide) (by decide) rfl qf_RX6_47 dX6_reply_52 rfl ?_
  obtain ⟨v55, e55, h⟩ := o_b h
  refine v_getR e55 (by decide) (by decide) rfl qf_RX6_257 dX6_reply_55 rfl ?_
  refine v_iload_n 2 rfl dX6_reply_58 rfl ?_
  obtain ⟨v59, e59, h⟩ := o_b h
  refine v_aI e59 dX6_reply_59 rfl ?_
  refine v_iload_n 1 rfl dX6_reply_60 rfl ?_
  obtain ⟨⟨⟩, g61, h⟩ := o_b h
  obtain ⟨v61, e61, h⟩ := o_b h
  refine v_Vr (as := [.int (11 : Int32), .int v59, .int x1]) (st := []) (c' := 0) (k' := 0) (k_X6_send e61) (rcv_c g61 (by decide) rfl) mk_X6_send qi_X6_send qe_X6_send qm_RX6_110 (ck rfl) rfl dX6_reply_61 rfl rfl rfl ?_
  refine v_astore [(4, .ref v61.1), (0, .ref x0), (1, .int x1), (2, .int x2), (3, .int x3)] dX6_reply_64 rfl (by decide) rfl ?_
  refine v_aload 0 rfl dX6_reply_66 rfl ?_
  refine v_iload_n 3 rfl dX6_reply_68 rfl ?_
  obtain ⟨s69, e69, h⟩ := o_b h
  refine v_putI e69 (by decide) (by decide) rfl rfl rfl rfl rfl qf_RX6_134 dX6_reply_69 rfl ?_
  refine v_aload 0 rfl dX6_reply_72 rfl ?_
  refine v_iload_n 4 rfl dX6_reply_74 rfl ?_
  obtain ⟨s75, e75, h⟩ := o_b h
  refine v_putI e75 (by decide) (by decide) rfl rfl rfl rfl rfl qf_RX6_263 dX6_reply_75 rfl ?_
  obtain rfl := Option.some.inj h
  exact v_vret rfl (Nat.le_of_ble_eq_true rfl) (Nat.le_of_ble_eq_true rfl) dX6_reply_78
set_option maxRecDepth 100000 in
set_option maxHeartbeats 4000000 in
theorem k_X6_reply {G : Gm} {μ : Mu} {o : Int64} {σ' : Hp} {σ : Hp} {a0 : Nat} {a1 : Int32} {a2 : Int32} (h : f_X6_reply σ a0 a1 a2 = some σ') : Cv G yX6_reply cX6_reply 5 none rm_X6_reply [.ref a0, .int a1, .int a2] (σ, μ, o) (σ', μ, o) 0 0 := by
  refine v_entV [(0, .ref a0), (1, .int a1), (2, .int a2)] (by decide +kernel) (Nat.le_of_ble_eq_true rfl) rfl ?_
  unfold f_X6_reply at h
  refine v_iconst (v := (0 : Int32)) (by decide) dX6_reply_0 rfl ?_
  refine v_istore_n [(3, .int (0 : Int32)), (0, .ref a0), (1, .int a1), (2, .int a2)] dX6_reply_1 rfl (by decide) rfl ?_
  refine v_aload_n 1 rfl dX6_reply_2 rfl ?_
  obtain ⟨⟨⟩, g3, h⟩ := o_b h
  obtain ⟨v3, e3, h⟩ := o_b h
  refine v_Vi (as := []) (st := []) (c' := 0) (k' := 0) (k_X6_leads e3) (rcv_c g3 (by decide) rfl) mk_X6_leads qi_X6_leads qe_X6_leads qm_RX6_77 (ck rfl) rfl dX6_reply_3 rfl rfl rfl ?_
  refine v_if_eq 48 dX6_reply_6 (by decide) rfl (fun c6 => ?_) (fun c6 => ?_)
  · have h := o_p c6 h
    refine v_sub [1, 2, 3, 0] rfl ?_
    exact l_X6_reply_48 h
  · have h := o_n c6 h
    refine v_aload_n 1 rfl dX6_reply_9 rfl ?_
    obtain ⟨v10, e10, h⟩ := o_b h
    refine v_getR e10 (by decide) (by decide) rfl qf_RX6_51 dX6_reply_10 rfl ?_
    refine v_aload_n 1 rfl dX6_reply_13 rfl ?_
    obtain ⟨v14, e14, h⟩ := o_b h
    refine v_getR e14 (by decide) (by decide) rfl qf_RX6_12 dX6_reply_14 rfl ?_
    refine v_aload_n 1 rfl dX6_reply_17 rfl ?_
    obtain ⟨v18, e18, h⟩ := o_b h
    refine v_getR e18 (by decide) (by decide) rfl qf_RX6_12 dX6_reply_18 rfl ?_
    obtain ⟨v21, e21, h⟩ := o_b h
    refine v_getI e21 (by decide) (by decide) rfl qf_RX6_81 dX6_reply_21 rfl ?_
    obtain ⟨⟨⟩, g24, h⟩ := o_b h
    obtain ⟨v24, e24, h⟩ := o_b h
    refine v_Vv (as := [.ref v14, .int v21]) (st := []) (c' := 0) (k' := 0) (k_X10_execute e24) (rcv_c g24 (by decide) rfl) mk_X10_execute qi_X10_execute qe_X10_execute qm_RX6_246 (ck rfl) rfl dX6_reply_24 rfl rfl rfl ?_
    refine v_aload_n 1 rfl dX6_reply_27 rfl ?_
    obtain ⟨v28, e28, h⟩ := o_b h
    refine v_getR e28 (by decide) (by decide) rfl qf_RX6_51 dX6_reply_28 rfl ?_
    refine v_iload_n 3 rfl dX6_reply_31 rfl ?_
    obtain ⟨⟨⟩, g32, h⟩ := o_b h
    obtain ⟨v32, e32, h⟩ := o_b h
    refine v_Vi (as := [.int a2]) (st := []) (c' := 0) (k' := 0) (k_X10_isLatest e32) (rcv_c g32 (by decide) rfl) mk_X10_isLatest qi_X10_isLatest qe_X10_isLatest qm_RX6_251 (ck rfl) rfl dX6_reply_32 rfl rfl rfl ?_
    refine v_if_ne 39 dX6_reply_35 (by decide) rfl (fun c35 => ?_) (fun c35 => ?_)
    · have h := o_n c35 h
      refine v_aload_n 1 rfl dX6_reply_39 rfl ?_
      obtain ⟨v40, e40, h⟩ := o_b h
      refine v_getR e40 (by decide) (by decide) rfl qf_RX6_51 dX6_reply_40 rfl ?_
      refine v_iload_n 3 rfl dX6_reply_43 rfl ?_
      obtain ⟨⟨⟩, g44, h⟩ := o_b h
      obtain ⟨v44, e44, h⟩ := o_b h
      refine v_Vi (as := [.int a2]) (st := []) (c' := 0) (k' := 0) (k_X10_answerTo e44) (rcv_c g44 (by decide) rfl) mk_X10_answerTo qi_X10_answerTo qe_X10_answerTo qm_RX6_254 (ck rfl) rfl dX6_reply_44 rfl rfl rfl ?_
      refine v_istore_n [(3, .int v44), (0, .ref a0), (1, .int a1), (2, .int a2)] dX6_reply_47 rfl (by decide) rfl ?_
      refine v_sub [1, 2, 3, 0] rfl ?_
      exact l_X6_reply_48 h
    · have h := o_p c35 h
      obtain rfl := Option.some.inj h
      exact v_vret rfl (Nat.le_of_ble_eq_true rfl) (Nat.le_of_ble_eq_true rfl) dX6_reply_38
def rm_X6_takeHeld : Room := { frames := 3, cells := 0, slots := 0, locals := 72 }
set_option maxRecDepth 100000 in
set_option maxHeartbeats 4000000 in
theorem l_X6_takeHeld_57 {G : Gm} {μ : Mu} {o : Int64} {σ' : Hp} {σ : Hp} {x0 : Nat} (h : f_X6_takeHeld_57 σ x0 = some σ') : V G yX6_takeHeld cX6_takeHeld 3 none rm_X6_takeHeld (zV G (σ', μ, o) 0 0) (σ, μ, o) 0 0 57 [(0, .ref x0)] [] := by
  unfold f_X6_takeHeld_57 at h
  refine v_aload_n 0 rfl dX6_takeHeld_57 rfl ?_
  obtain ⟨v58, e58, h⟩ := o_b h
  refine v_getR e58 (by decide) (by decide) rfl qf_RX6_21 dX6_takeHeld_58 rfl ?_
  obtain ⟨v61, e61, h⟩ := o_b h
  refine v_getI e61 (by decide) (by decide) rfl qf_RX6_90 dX6_takeHeld_61 rfl ?_
  refine v_if_eq 77 dX6_takeHeld_64 (by decide) rfl (fun c64 => ?_) (fun c64 => ?_)
  · have h := o_p c64 h
    obtain rfl := Option.some.inj h
    exact v_vret rfl (Nat.le_of_ble_eq_true rfl) (Nat.le_of_ble_eq_true rfl) dX6_takeHeld_77
  · have h := o_n c64 h
    refine v_aload_n 0 rfl dX6_takeHeld_67 rfl ?_
    obtain ⟨v68, e68, h⟩ := o_b h
    refine v_getR e68 (by decide) (by decide) rfl qf_RX6_12 dX6_takeHeld_68 rfl ?_
    obtain ⟨⟨⟩, g71, h⟩ := o_b h
    obtain ⟨v71, e71, h⟩ := o_b h
    refine v_Vi (as := []) (st := []) (c' := 0) (k' := 0) (k_X4_isFull e71) (rcv_c g71 (by decide) rfl) mk_X4_isFull qi_X4_isFull qe_X4_isFull qm_RX6_193 (ck rfl) rfl dX6_takeHeld_71 rfl rfl rfl ?_
    refine v_if_eq 78 dX6_takeHeld_74 (by decide) rfl (fun c74 => ?_) (fun c74 => ?_)
    · have h := o_p c74 h
      refine v_aload_n 0 rfl dX6_takeHeld_78 rfl ?_
      obtain ⟨⟨⟩, g79, h⟩ := o_b h
      obtain ⟨v79, e79, h⟩ := o_b h
      refine v_Vi (as := []) (st := []) (c' := 0) (k' := 0) (k_X6_leads e79) (rcv_c g79 (by decide) rfl) mk_X6_leads qi_X6_leads qe_X6_leads qm_RX6_77 (ck rfl) rfl dX6_takeHeld_79 rfl rfl rfl ?_
      refine v_if_eq 130 dX6_takeHeld_82 (by decide) rfl (fun c82 => ?_) (fun c82 => ?_)
      · have h := o_p c82 h
        refine v_aload_n 0 rfl dX6_takeHeld_130 rfl ?_
        refine v_iconst (v := (1 : Int32)) (by decide) dX6_takeHeld_131 rfl ?_
        refine v_aload_n 0 rfl dX6_takeHeld_132 rfl ?_
        obtain ⟨v133, e133, h⟩ := o_b h
        refine v_getR e133 (by decide) (by decide) rfl qf_RX6_34 dX6_takeHeld_133 rfl ?_
        refine v_aload_n 0 rfl dX6_takeHeld_136 rfl ?_
        obtain ⟨v137, e137, h⟩ := o_b h
        refine v_getI e137 (by decide) (by decide) rfl qf_RX6_44 dX6_takeHeld_137 rfl ?_
        obtain ⟨⟨⟩, g140, h⟩ := o_b h
        obtain ⟨v140, e140, h⟩ := o_b h
        refine v_Vi (as := [.int v137]) (st := [.int (1 : Int32), .ref x0]) (c' := 0) (k' := 0) (k_X9_leader e140) (rcv_c g140 (by decide) rfl) mk_X9_leader qi_X9_leader qe_X9_leader qm_RX6_106 (ck rfl) rfl dX6_takeHeld_140 rfl rfl rfl ?_
        refine v_aload_n 0 rfl dX6_takeHeld_143 rfl ?_
        obtain ⟨v144, e144, h⟩ := o_b h
        refine v_getR e144 (by decide) (by decide) rfl qf_RX6_12 dX6_takeHeld_144 rfl ?_
        obtain ⟨v147, e147, h⟩ := o_b h
        refine v_getI e147 (by decide) (by decide) rfl qf_RX6_81 dX6_takeHeld_147 rfl ?_
        refine v_iconst (v := (1 : Int32)) (by decide) dX6_takeHeld_150 rfl ?_
        refine v_iadd dX6_takeHeld_151 rfl ?_
        obtain ⟨⟨⟩, g152, h⟩ := o_b h
        obtain ⟨v152, e152, h⟩ := o_b h
        refine v_Vr (as := [.int (1 : Int32), .int v140, .int (v147 + (1 : Int32))]) (st := []) (c' := 0) (k' := 0) (k_X6_send e152) (rcv_c g152 (by decide) rfl) mk_X6_send qi_X6_send qe_X6_send qm_RX6_110 (ck rfl) rfl dX6_takeHeld_152 rfl rfl rfl ?_
        refine v_pop rfl dX6_takeHeld_155 rfl ?_
        obtain rfl := Option.some.inj h
        exact v_vret rfl (Nat.le_of_ble_eq_true rfl) (Nat.le_of_ble_eq_true rfl) dX6_takeHeld_156
      · have h := o_n c82 h
        refine v_aload_n 0 rfl dX6_takeHeld_85 rfl ?_
        obtain ⟨v86, e86, h⟩ := o_b h
        refine v_getR e86 (by decide) (by decide) rfl qf_RX6_12 dX6_takeHeld_86 rfl ?_
        refine v_aload_n 0 rfl dX6_takeHeld_89 rfl ?_
        obtain ⟨v90, e90, h⟩ := o_b h
        refine v_getR e90 (by decide) (by decide) rfl qf_RX6_12 dX6_takeHeld_90 rfl ?_
        obtain ⟨v93, e93, h⟩ := o_b h
        refine v_getI e93 (by decide) (by decide) rfl qf_RX6_81 dX6_takeHeld_93 rfl ?_
        refine v_iconst (v := (1 : Int32)) (by decide) dX6_takeHeld_96 rfl ?_
        refine v_iadd dX6_takeHeld_97 rfl ?_
        refine v_iconst (v := (0 : Int32)) (by decide) dX6_takeHeld_98 rfl ?_
        obtain ⟨⟨⟩, g99, h⟩ := o_b h
        obtain ⟨v99, e99, h⟩ := o_b h
        refine v_Vv (as := [.int (v93 + (1 : Int32)), .int (0 : Int32)]) (st := []) (c' := 0) (k' := 0) (k_X4_put e99) (rcv_c g99 (by decide) rfl) mk_X4_put qi_X4_put qe_X4_put qm_RX6_199 (ck rfl) rfl dX6_takeHeld_99 rfl rfl rfl ?_
        refine v_aload_n 0 rfl dX6_takeHeld_102 rfl ?_
        refine v_iconst (v := (1 : Int32)) (by decide) dX6_takeHeld_103 rfl ?_
        obtain ⟨s104, e104, h⟩ := o_b h
        refine v_putI e104 (by decide) (by decide) rfl rfl rfl rfl rfl qf_RX6_25 dX6_takeHeld_104 rfl ?_
        refine v_aload_n 0 rfl dX6_takeHeld_107 rfl ?_
        obtain ⟨v108, e108, h⟩ := o_b h
        refine v_getR e108 (by decide) (by decide) rfl qf_RX6_64 dX6_takeHeld_108 rfl ?_
        refine v_iconst (v := (0 : Int32)) (by decide) dX6_takeHeld_111 rfl ?_
        obtain ⟨s112, e112, h⟩ := o_b h
        refine v_putI e112 (by decide) (by decide) rfl rfl rfl rfl rfl qf_RX6_200 dX6_takeHeld_112 rfl ?_
        refine v_aload_n 0 rfl dX6_takeHeld_115 rfl ?_
        refine v_iconst (v := (3 : Int32)) (by decide) dX6_takeHeld_116 rfl ?_
        refine v_aload_n 0 rfl dX6_takeHeld_117 rfl ?_
        obtain ⟨v118, e118, h⟩ := o_b h
        refine v_getR e118 (by decide) (by decide) rfl qf_RX6_12 dX6_takeHeld_118 rfl ?_
        obtain ⟨v121, e121, h⟩ := o_b h
        refine v_getI e121 (by decide) (by decide) rfl qf_RX6_81 dX6_takeHeld_121 rfl ?_
        obtain ⟨⟨⟩, g124, h⟩ := o_b h
        obtain ⟨v124, e124, h⟩ := o_b h
        refine v_Vv (as := [.int (3 : Int32), .int v121]) (st := []) (c' := 0) (k' := 0) (k_X6_sendToOthers e124) (rcv_c g124 (by decide) rfl) mk_X6_sendToOthers qi_X6_sendToOthers qe_X6_sendToOthers qm_RX6_103 (ck rfl) rfl dX6_takeHeld_124 rfl rfl rfl ?_
        refine v_goto (q := 156) dX6_takeHeld_127 (by decide) ?_
        obtain rfl := Option.some.inj h
        exact v_vret rfl (Nat.le_of_ble_eq_true rfl) (Nat.le_of_ble_eq_true rfl) dX6_takeHeld_156
    · have h := o_n c74 h
      obtain rfl := Option.some.inj h
      exact v_vret rfl (Nat.le_of_ble_eq_true rfl) (Nat.le_of_ble_eq_true rfl) dX6_takeHeld_77
set_option maxRecDepth 100000 in
set_option maxHeartbeats 4000000 in
theorem l_X6_takeHeld_10 {G : Gm} {μ : Mu} {o : Int64} {σ' : Hp} : ∀ (n : Nat) {σ : Hp} {x0 : Nat} {x1 : Int32} , f_X6_takeHeld_10 n σ x0 x1 = some σ' → V G yX6_takeHeld cX6_takeHeld 3 none rm_X6_takeHeld (zV G (σ', μ, o) 0 0) (σ, μ, o) 0 0 10 [(0, .ref x0), (1, .int x1)] [] := by
  intro n
  induction n with
  | zero => intro _ _ _ h; cases h
  | succ n ih =>
    intro σ x0 x1 h
    replace h : b_X6_takeHeld_10 (f_X6_takeHeld_10 n) σ x0 x1 = some σ' := h
    unfold b_X6_takeHeld_10 at h
    refine v_iload_n 1 rfl dX6_takeHeld_10 rfl ?_
    refine v_bipush (v := (100 : Int32)) (by decide) dX6_takeHeld_11 rfl ?_
    refine v_icmp_gt 57 dX6_takeHeld_13 (by decide) rfl (fun c13 => ?_) (fun c13 => ?_)
    · have h := o_p c13 h
      refine v_sub [0] rfl ?_
      exact l_X6_takeHeld_57 h
    · have h := o_n c13 h
      refine v_aload_n 0 rfl dX6_takeHeld_16 rfl ?_
      obtain ⟨v17, e17, h⟩ := o_b h
      refine v_getR e17 (by decide) (by decide) rfl qf_RX6_21 dX6_takeHeld_17 rfl ?_
      refine v_iload_n 1 rfl dX6_takeHeld_20 rfl ?_
      obtain ⟨⟨⟩, g21, h⟩ := o_b h
      obtain ⟨v21, e21, h⟩ := o_b h
      refine v_Vi (as := [.int x1]) (st := []) (c' := 0) (k' := 0) (k_X3_has e21) (rcv_c g21 (by decide) rfl) mk_X3_has qi_X3_has qe_X3_has qm_RX6_130 (ck rfl) rfl dX6_takeHeld_21 rfl rfl rfl ?_
      refine v_if_eq 57 dX6_takeHeld_24 (by decide) rfl (fun c24 => ?_) (fun c24 => ?_)
      · have h := o_p c24 h
        refine v_sub [0] rfl ?_
        exact l_X6_takeHeld_57 h
      · have h := o_n c24 h
        refine v_aload_n 0 rfl dX6_takeHeld_27 rfl ?_
        obtain ⟨v28, e28, h⟩ := o_b h
        refine v_getR e28 (by decide) (by decide) rfl qf_RX6_21 dX6_takeHeld_28 rfl ?_
        refine v_iload_n 1 rfl dX6_takeHeld_31 rfl ?_
        obtain ⟨⟨⟩, g32, h⟩ := o_b h
        obtain ⟨v32, e32, h⟩ := o_b h
        refine v_Vi (as := [.int x1]) (st := []) (c' := 0) (k' := 0) (k_X3_remove e32) (rcv_c g32 (by decide) rfl) mk_X3_remove qi_X3_remove qe_X3_remove qm_RX6_196 (ck rfl) rfl dX6_takeHeld_32 rfl rfl rfl ?_
        refine v_istore_n [(2, .int v32.1), (0, .ref x0), (1, .int x1)] dX6_takeHeld_35 rfl (by decide) rfl ?_
        refine v_aload_n 1 rfl dX6_takeHeld_36 rfl ?_
        obtain ⟨v37, e37, h⟩ := o_b h
        refine v_getR e37 (by decide) (by decide) rfl qf_RX6_12 dX6_takeHeld_37 rfl ?_
        refine v_iload_n 2 rfl dX6_takeHeld_40 rfl ?_
        refine v_iload_n 0 rfl dX6_takeHeld_41 rfl ?_
        obtain ⟨⟨⟩, g42, h⟩ := o_b h
        obtain ⟨v42, e42, h⟩ := o_b h
        refine v_Vv (as := [.int x1, .int v32.1]) (st := []) (c' := 0) (k' := 0) (k_X4_put e42) (rcv_c g42 (by decide) rfl) mk_X4_put qi_X4_put qe_X4_put qm_RX6_199 (ck rfl) rfl dX6_takeHeld_42 rfl rfl rfl ?_
        refine v_aload_n 1 rfl dX6_takeHeld_45 rfl ?_
        refine v_iload_n 2 rfl dX6_takeHeld_46 rfl ?_
        refine v_iload_n 0 rfl dX6_takeHeld_47 rfl ?_
        obtain ⟨⟨⟩, g48, h⟩ := o_b h
        obtain ⟨v48, e48, h⟩ := o_b h
        refine v_Vv (as := [.int x1, .int v32.1]) (st := []) (c' := 0) (k' := 0) (k_X6_reply e48) (rcv_c g48 (by decide) rfl) mk_X6_reply qi_X6_reply qe_X6_reply qm_RX6_243 (ck rfl) rfl dX6_takeHeld_48 rfl rfl rfl ?_
        refine v_iinc (v := (x1 + 1)) [(1, .int (x1 + 1)), (2, .int v32.1), (0, .ref x0)] 2 rfl rfl dX6_takeHeld_51 rfl (by decide) rfl ?_
        refine v_goto (q := 10) dX6_takeHeld_54 (by decide) ?_
        refine v_sub [2, 0] rfl ?_
        exact ih h
set_option maxRecDepth 100000 in
set_option maxHeartbeats 4000000 in
theorem k_X6_takeHeld {G : Gm} {μ : Mu} {o : Int64} {σ' : Hp} {σ : Hp} {a0 : Nat} (h : f_X6_takeHeld σ a0 = some σ') : Cv G yX6_takeHeld cX6_takeHeld 3 none rm_X6_takeHeld [.ref a0] (σ, μ, o) (σ', μ, o) 0 0 := by
  refine v_entV [(0, .ref a0)] (by decide +kernel) (Nat.le_of_ble_eq_true rfl) rfl ?_
  unfold f_X6_takeHeld at h
  refine v_aload_n 0 rfl dX6_takeHeld_0 rfl ?_
  obtain ⟨v1, e1, h⟩ := o_b h
  refine v_getR e1 (by decide) (by decide) rfl qf_RX6_12 dX6_takeHeld_1 rfl ?_
  obtain ⟨v4, e4, h⟩ := o_b h
  refine v_getI e4 (by decide) (by decide) rfl qf_RX6_81 dX6_takeHeld_4 rfl ?_
  refine v_iconst (v := (1 : Int32)) (by decide) dX6_takeHeld_7 rfl ?_
  refine v_iadd dX6_takeHeld_8 rfl ?_
  refine v_istore_n [(1, .int (v4 + (1 : Int32))), (0, .ref a0)] dX6_takeHeld_9 rfl (by decide) rfl ?_
  refine v_sub [1, 0] rfl ?_
  exact l_X6_takeHeld_10 _ h
def rm_X6_receiveStamped : Room := { frames := 5, cells := 1, slots := 2, locals := 123 }
set_option maxRecDepth 100000 in
set_option maxHeartbeats 4000000 in
theorem k_X6_receiveStamped {G : Gm} {μ : Mu} {o : Int64} {σ' : Hp} {σ : Hp} {a0 : Nat} {a1 : Nat} (h : f_X6_receiveStamped σ a0 a1 = some σ') : Cv G yX6_receiveStamped cX6_receiveStamped 3 none rm_X6_receiveStamped [.ref a0, .ref a1] (σ, μ, o) (σ', μ, o) 1 2 := by
  refine v_entV [(0, .ref a0), (1, .ref a1)] (by decide +kernel) (Nat.le_of_ble_eq_true rfl) rfl ?_
  unfold f_X6_receiveStamped at h
  refine v_aload_n 1 rfl dX6_receiveStamped_0 rfl ?_
  obtain ⟨v1, e1, h⟩ := o_b h
  refine v_getI e1 (by decide) (by decide) rfl qf_RX6_114 dX6_receiveStamped_1 rfl ?_
  refine v_aload_n 0 rfl dX6_receiveStamped_4 rfl ?_
  obtain ⟨v5, e5, h⟩ := o_b h
  refine v_getR e5 (by decide) (by decide) rfl qf_RX6_34 dX6_receiveStamped_5 rfl ?_
  obtain ⟨v8, e8, h⟩ := o_b h
  refine v_getI e8 (by decide) (by decide) rfl qf_RX6_119 dX6_receiveStamped_8 rfl ?_
  refine v_icmp_le 37 dX6_receiveStamped_11 (by decide) rfl (fun c11 => ?_) (fun c11 => ?_)
  · have h := o_p c11 h
    refine v_aload_n 0 rfl dX6_receiveStamped_37 rfl ?_
    obtain ⟨v38, e38, h⟩ := o_b h
    refine v_getI e38 (by decide) (by decide) rfl qf_RX6_124 dX6_receiveStamped_38 rfl ?_
    refine v_aload_n 1 rfl dX6_receiveStamped_41 rfl ?_
    obtain ⟨v42, e42, h⟩ := o_b h
    refine v_getI e42 (by decide) (by decide) rfl qf_RX6_127 dX6_receiveStamped_42 rfl ?_
    refine v_iadd dX6_receiveStamped_45 rfl ?_
    refine v_istore_n [(2, .int (v38 + v42)), (0, .ref a0), (1, .ref a1)] dX6_receiveStamped_46 rfl (by decide) rfl ?_
    refine v_aload_n 2 rfl dX6_receiveStamped_47 rfl ?_
    obtain ⟨v48, e48, h⟩ := o_b h
    refine v_getI e48 (by decide) (by decide) rfl qf_RX6_114 dX6_receiveStamped_48 rfl ?_
    refine v_aload_n 1 rfl dX6_receiveStamped_51 rfl ?_
    obtain ⟨v52, e52, h⟩ := o_b h
    refine v_getR e52 (by decide) (by decide) rfl qf_RX6_34 dX6_receiveStamped_52 rfl ?_
    obtain ⟨v55, e55, h⟩ := o_b h
    refine v_getI e55 (by decide) (by decide) rfl qf_RX6_119 dX6_receiveStamped_55 rfl ?_
    refine v_icmp_lt 103 dX6_receiveStamped_58 (by decide) rfl (fun c58 => ?_) (fun c58 => ?_)
    · have h := o_p c58 h
      obtain rfl := Option.some.inj h
      exact v_vret rfl (Nat.le_of_ble_eq_true rfl) (Nat.le_of_ble_eq_true rfl) dX6_receiveStamped_103
    · have h := o_n c58 h
      refine v_aload_n 1 rfl dX6_receiveStamped_61 rfl ?_
      obtain ⟨v62, e62, h⟩ := o_b h
      refine v_getI e62 (by decide) (by decide) rfl qf_RX6_25 dX6_receiveStamped_62 rfl ?_
      refine v_iconst (v := (2 : Int32)) (by decide) dX6_receiveStamped_65 rfl ?_
      refine v_icmp_eq 103 dX6_receiveStamped_66 (by decide) rfl (fun c66 => ?_) (fun c66 => ?_)
      · have h := o_p c66 h
        obtain rfl := Option.some.inj h
        exact v_vret rfl (Nat.le_of_ble_eq_true rfl) (Nat.le_of_ble_eq_true rfl) dX6_receiveStamped_103
      · have h := o_n c66 h
        refine v_iload_n 0 rfl dX6_receiveStamped_69 rfl ?_
        refine v_aload_n 1 rfl dX6_receiveStamped_70 rfl ?_
        obtain ⟨v71, e71, h⟩ := o_b h
        refine v_getR e71 (by decide) (by decide) rfl qf_RX6_12 dX6_receiveStamped_71 rfl ?_
        obtain ⟨v74, e74, h⟩ := o_b h
        refine v_getI e74 (by decide) (by decide) rfl qf_RX6_81 dX6_receiveStamped_74 rfl ?_
        refine v_icmp_le 103 dX6_receiveStamped_77 (by decide) rfl (fun c77 => ?_) (fun c77 => ?_)
        · have h := o_p c77 h
          obtain rfl := Option.some.inj h
          exact v_vret rfl (Nat.le_of_ble_eq_true rfl) (Nat.le_of_ble_eq_true rfl) dX6_receiveStamped_103
        · have h := o_n c77 h
          refine v_aload_n 1 rfl dX6_receiveStamped_80 rfl ?_
          obtain ⟨v81, e81, h⟩ := o_b h
          refine v_getR e81 (by decide) (by decide) rfl qf_RX6_21 dX6_receiveStamped_81 rfl ?_
          refine v_iload_n 0 rfl dX6_receiveStamped_84 rfl ?_
          obtain ⟨⟨⟩, g85, h⟩ := o_b h
          obtain ⟨v85, e85, h⟩ := o_b h
          refine v_Vi (as := [.int (v38 + v42)]) (st := []) (c' := 0) (k' := 0) (k_X3_has e85) (rcv_c g85 (by decide) rfl) mk_X3_has qi_X3_has qe_X3_has qm_RX6_130 (ck rfl) rfl dX6_receiveStamped_85 rfl rfl rfl ?_
          refine v_if_ne 103 dX6_receiveStamped_88 (by decide) rfl (fun c88 => ?_) (fun c88 => ?_)
          · have h := o_n c88 h
            obtain rfl := Option.some.inj h
            exact v_vret rfl (Nat.le_of_ble_eq_true rfl) (Nat.le_of_ble_eq_true rfl) dX6_receiveStamped_103
          · have h := o_p c88 h
            refine v_aload_n 1 rfl dX6_receiveStamped_91 rfl ?_
            obtain ⟨v92, e92, h⟩ := o_b h
            refine v_getR e92 (by decide) (by decide) rfl qf_RX6_21 dX6_receiveStamped_92 rfl ?_
            obtain ⟨v95, e95, h⟩ := o_b h
            refine v_getI e95 (by decide) (by decide) rfl qf_RX6_90 dX6_receiveStamped_95 rfl ?_
            refine v_bipush (v := (8 : Int32)) (by decide) dX6_receiveStamped_98 rfl ?_
            refine v_icmp_lt 104 dX6_receiveStamped_100 (by decide) rfl (fun c100 => ?_) (fun c100 => ?_)
            · have h := o_p c100 h
              refine v_aload_n 1 rfl dX6_receiveStamped_104 rfl ?_
              obtain ⟨v105, e105, h⟩ := o_b h
              refine v_getR e105 (by decide) (by decide) rfl qf_RX6_21 dX6_receiveStamped_105 rfl ?_
              refine v_iload_n 0 rfl dX6_receiveStamped_108 rfl ?_
              refine v_aload_n 2 rfl dX6_receiveStamped_109 rfl ?_
              obtain ⟨v110, e110, h⟩ := o_b h
              refine v_getI e110 (by decide) (by decide) rfl qf_RX6_134 dX6_receiveStamped_110 rfl ?_
              obtain ⟨⟨⟩, g113, h⟩ := o_b h
              obtain ⟨v113, e113, h⟩ := o_b h
              refine v_Vv (as := [.int (v38 + v42), .int v110]) (st := []) (c' := 0) (k' := 0) (k_X3_put e113) (rcv_c g113 (by decide) rfl) mk_X3_put qi_X3_put qe_X3_put qm_RX6_137 (ck rfl) rfl dX6_receiveStamped_113 rfl rfl rfl ?_
              refine v_aload_n 1 rfl dX6_receiveStamped_116 rfl ?_
              obtain ⟨v117, e117, h⟩ := o_b h
              refine v_getI e117 (by decide) (by decide) rfl qf_RX6_25 dX6_receiveStamped_117 rfl ?_
              refine v_if_ne 127 dX6_receiveStamped_120 (by decide) rfl (fun c120 => ?_) (fun c120 => ?_)
              · have h := o_n c120 h
                obtain rfl := Option.some.inj h
                exact v_vret rfl (Nat.le_of_ble_eq_true rfl) (Nat.le_of_ble_eq_true rfl) dX6_receiveStamped_127
              · have h := o_p c120 h
                refine v_aload_n 1 rfl dX6_receiveStamped_123 rfl ?_
                obtain ⟨⟨⟩, g124, h⟩ := o_b h
                obtain ⟨v124, e124, h⟩ := o_b h
                refine v_Vv (as := []) (st := []) (c' := 0) (k' := 0) (k_X6_takeHeld e124) (rcv_c g124 (by decide) rfl) mk_X6_takeHeld qi_X6_takeHeld qe_X6_takeHeld qm_RX6_140 (ck rfl) rfl dX6_receiveStamped_124 rfl rfl rfl ?_
                obtain rfl := Option.some.inj h
                exact v_vret rfl (Nat.le_of_ble_eq_true rfl) (Nat.le_of_ble_eq_true rfl) dX6_receiveStamped_127
            · have h := o_n c100 h
              obtain rfl := Option.some.inj h
              exact v_vret rfl (Nat.le_of_ble_eq_true rfl) (Nat.le_of_ble_eq_true rfl) dX6_receiveStamped_103
  · have h := o_n c11 h
    refine v_aload_n 0 rfl dX6_receiveStamped_14 rfl ?_
    obtain ⟨s15, e15, h⟩ := o_b h
    refine v_new (c' := 1) (k' := 2) (Option.some.inj e15) (by decide) qc_RX6_29 qb_9 qz_9 ⟨Nat.le_of_ble_eq_true rfl, Nat.le_of_ble_eq_true rfl⟩ rfl rfl dX6_receiveStamped_15 rfl ?_
    refine v_dup rfl dX6_receiveStamped_18 rfl ?_
    refine v_aload_n 0 rfl dX6_receiveStamped_19 rfl ?_
    obtain ⟨v20, e20, h⟩ := o_b h
    refine v_getR e20 (by decide) (by decide) rfl qf_RX6_34 dX6_receiveStamped_20 rfl ?_
    obtain ⟨v23, e23, h⟩ := o_b h
    refine v_getI e23 (by decide) (by decide) rfl qf_RX6_68 dX6_receiveStamped_23 rfl ?_
    refine v_aload_n 1 rfl dX6_receiveStamped_26 rfl ?_
    obtain ⟨v27, e27, h⟩ := o_b h
    refine v_getI e27 (by decide) (by decide) rfl qf_RX6_114 dX6_receiveStamped_27 rfl ?_
    obtain ⟨v30, e30, h⟩ := o_b h
    refine v_Iv (as := [.int v23, .int v27]) (st := [.ref (oN σ), .ref a0]) (c' := 1) (k' := 2) (k_X9_init e30) mk_X9_init qi_X9_init rfl qm_RX6_31 (ck rfl) rfl dX6_receiveStamped_30 rfl rfl rfl ?_
    obtain ⟨⟨⟩, g33, h⟩ := o_b h
    obtain ⟨v33, e33, h⟩ := o_b h
    refine v_Vv (as := [.ref (oN σ)]) (st := []) (c' := 1) (k' := 2) (k_X6_turnTo e33) (rcv_c g33 (by decide) rfl) mk_X6_turnTo qi_X6_turnTo qe_X6_turnTo qm_RX6_120 (ck rfl) rfl dX6_receiveStamped_33 rfl rfl rfl ?_
    obtain rfl := Option.some.inj h
    exact v_vret rfl (Nat.le_of_ble_eq_true rfl) (Nat.le_of_ble_eq_true rfl) dX6_receiveStamped_36
def rm_X6_becomeNormal : Room := { frames := 2, cells := 0, slots := 0, locals := 40 }
set_option maxRecDepth 100000 in
set_option maxHeartbeats 4000000 in
theorem k_X6_becomeNormal {G : Gm} {μ : Mu} {o : Int64} {σ' : Hp} {σ : Hp} {a0 : Nat} (h : f_X6_becomeNormal σ a0 = some σ') : Cv G yX6_becomeNormal cX6_becomeNormal 1 none rm_X6_becomeNormal [.ref a0] (σ, μ, o) (σ', μ, o) 0 0 := by
  refine v_entV [(0, .ref a0)] (by decide +kernel) (Nat.le_of_ble_eq_true rfl) rfl ?_
  unfold f_X6_becomeNormal at h
  refine v_aload_n 0 rfl dX6_becomeNormal_0 rfl ?_
  refine v_iconst (v := (0 : Int32)) (by decide) dX6_becomeNormal_1 rfl ?_
  obtain ⟨s2, e2, h⟩ := o_b h
  refine v_putI e2 (by decide) (by decide) rfl rfl rfl rfl rfl qf_RX6_25 dX6_becomeNormal_2 rfl ?_
  refine v_aload_n 0 rfl dX6_becomeNormal_5 rfl ?_
  refine v_aload_n 0 rfl dX6_becomeNormal_6 rfl ?_
  obtain ⟨v7, e7, h⟩ := o_b h
  refine v_getR e7 (by decide) (by decide) rfl qf_RX6_34 dX6_becomeNormal_7 rfl ?_
  obtain ⟨s10, e10, h⟩ := o_b h
  refine v_putR e10 (by decide) (by decide) rfl rfl qf_RX6_38 dX6_becomeNormal_10 rfl ?_
  refine v_aload_n 0 rfl dX6_becomeNormal_13 rfl ?_
  obtain ⟨⟨⟩, g14, h⟩ := o_b h
  obtain ⟨v14, e14, h⟩ := o_b h
  refine v_Vv (as := []) (st := []) (c' := 0) (k' := 0) (k_X6_forget e14) (rcv_c g14 (by decide) rfl) mk_X6_forget qi_X6_forget qe_X6_forget qm_RX6_94 (ck rfl) rfl dX6_becomeNormal_14 rfl rfl rfl ?_
  refine v_aload_n 0 rfl dX6_becomeNormal_17 rfl ?_
  refine v_iconst (v := (0 : Int32)) (by decide) dX6_becomeNormal_18 rfl ?_
  obtain ⟨s19, e19, h⟩ := o_b h
  refine v_putI e19 (by decide) (by decide) rfl rfl rfl rfl rfl qf_RX6_97 dX6_becomeNormal_19 rfl ?_
  obtain rfl := Option.some.inj h
  exact v_vret rfl (Nat.le_of_ble_eq_true rfl) (Nat.le_of_ble_eq_true rfl) dX6_becomeNormal_22
def rm_X6_receiveStart : Room := { frames := 3, cells := 0, slots := 0, locals := 60 }
set_option maxRecDepth 100000 in
set_option maxHeartbeats 4000000 in
theorem l_X6_receiveStart_36 {G : Gm} {μ : Mu} {o : Int64} {σ' : Hp} {σ : Hp} {x0 : Nat} {x1 : Nat} (h : f_X6_receiveStart_36 σ x0 x1 = some σ') : V G yX6_receiveStart cX6_receiveStart 2 none rm_X6_receiveStart (zV G (σ', μ, o) 0 0) (σ, μ, o) 0 0 36 [(0, .ref x0), (1, .ref x1)] [] := by
  unfold f_X6_receiveStart_36 at h
  refine v_aload_n 0 rfl dX6_receiveStart_36 rfl ?_
  refine v_aload_n 1 rfl dX6_receiveStart_37 rfl ?_
  obtain ⟨v38, e38, h⟩ := o_b h
  refine v_getR e38 (by decide) (by decide) rfl qf_RX6_150 dX6_receiveStart_38 rfl ?_
  obtain ⟨s41, e41, h⟩ := o_b h
  refine v_putR e41 (by decide) (by decide) rfl rfl qf_RX6_34 dX6_receiveStart_41 rfl ?_
  refine v_aload_n 0 rfl dX6_receiveStart_44 rfl ?_
  refine v_aload_n 1 rfl dX6_receiveStart_45 rfl ?_
  obtain ⟨v46, e46, h⟩ := o_b h
  refine v_getI e46 (by decide) (by decide) rfl qf_RX6_238 dX6_receiveStart_46 rfl ?_
  obtain ⟨s49, e49, h⟩ := o_b h
  refine v_putI e49 (by decide) (by decide) rfl rfl rfl rfl rfl qf_RX6_124 dX6_receiveStart_49 rfl ?_
  refine v_aload_n 0 rfl dX6_receiveStart_52 rfl ?_
  obtain ⟨v53, e53, h⟩ := o_b h
  refine v_getR e53 (by decide) (by decide) rfl qf_RX6_12 dX6_receiveStart_53 rfl ?_
  refine v_aload_n 1 rfl dX6_receiveStart_56 rfl ?_
  obtain ⟨v57, e57, h⟩ := o_b h
  refine v_getR e57 (by decide) (by decide) rfl qf_RX6_206 dX6_receiveStart_57 rfl ?_
  obtain ⟨⟨⟩, g60, h⟩ := o_b h
  obtain ⟨v60, e60, h⟩ := o_b h
  refine v_Vv (as := [.ref v57]) (st := []) (c' := 0) (k' := 0) (k_X4_copy e60) (rcv_c g60 (by decide) rfl) mk_X4_copy qi_X4_copy qe_X4_copy qm_RX6_239 (ck rfl) rfl dX6_receiveStart_60 rfl rfl rfl ?_
  refine v_aload_n 0 rfl dX6_receiveStart_63 rfl ?_
  obtain ⟨⟨⟩, g64, h⟩ := o_b h
  obtain ⟨v64, e64, h⟩ := o_b h
  refine v_Vv (as := []) (st := []) (c' := 0) (k' := 0) (k_X6_becomeNormal e64) (rcv_c g64 (by decide) rfl) mk_X6_becomeNormal qi_X6_becomeNormal qe_X6_becomeNormal qm_RX6_232 (ck rfl) rfl dX6_receiveStart_64 rfl rfl rfl ?_
  obtain rfl := Option.some.inj h
  exact v_vret rfl (Nat.le_of_ble_eq_true rfl) (Nat.le_of_ble_eq_true rfl) dX6_receiveStart_67
set_option maxRecDepth 100000 in
set_option maxHeartbeats 4000000 in
theorem k_X6_receiveStart {G : Gm} {μ : Mu} {o : Int64} {σ' : Hp} {σ : Hp} {a0 : Nat} {a1 : Nat} (h : f_X6_receiveStart σ a0 a1 = some σ') : Cv G yX6_receiveStart cX6_receiveStart 2 none rm_X6_receiveStart [.ref a0, .ref a1] (σ, μ, o) (σ', μ, o) 0 0 := by
  refine v_entV [(0, .ref a0), (1, .ref a1)] (by decide +kernel) (Nat.le_of_ble_eq_true rfl) rfl ?_
  unfold f_X6_receiveStart at h
  refine v_aload_n 0 rfl dX6_receiveStart_0 rfl ?_
  obtain ⟨v1, e1, h⟩ := o_b h
  refine v_getR e1 (by decide) (by decide) rfl qf_RX6_34 dX6_receiveStart_1 rfl ?_
  refine v_aload_n 1 rfl dX6_receiveStart_4 rfl ?_
  obtain ⟨v5, e5, h⟩ := o_b h
  refine v_getR e5 (by decide) (by decide) rfl qf_RX6_150 dX6_receiveStart_5 rfl ?_
  obtain ⟨⟨⟩, g8, h⟩ := o_b h
  obtain ⟨v8, e8, h⟩ := o_b h
  refine v_Vi (as := [.ref v5]) (st := []) (c' := 0) (k' := 0) (k_X9_isBehind e8) (rcv_c g8 (by decide) rfl) mk_X9_isBehind qi_X9_isBehind qe_X9_isBehind qm_RX6_155 (ck rfl) rfl dX6_receiveStart_8 rfl rfl rfl ?_
  refine v_if_ne 36 dX6_receiveStart_11 (by decide) rfl (fun c11 => ?_) (fun c11 => ?_)
  · have h := o_n c11 h
    exact l_X6_receiveStart_36 h
  · have h := o_p c11 h
    refine v_aload_n 1 rfl dX6_receiveStart_14 rfl ?_
    obtain ⟨v15, e15, h⟩ := o_b h
    refine v_getR e15 (by decide) (by decide) rfl qf_RX6_150 dX6_receiveStart_15 rfl ?_
    refine v_aload_n 0 rfl dX6_receiveStart_18 rfl ?_
    obtain ⟨v19, e19, h⟩ := o_b h
    refine v_getR e19 (by decide) (by decide) rfl qf_RX6_34 dX6_receiveStart_19 rfl ?_
    obtain ⟨⟨⟩, g22, h⟩ := o_b h
    obtain ⟨v22, e22, h⟩ := o_b h
    refine v_Vi (as := [.ref v19]) (st := []) (c' := 0) (k' := 0) (k_X9_isSame e22) (rcv_c g22 (by decide) rfl) mk_X9_isSame qi_X9_isSame qe_X9_isSame qm_RX6_151 (ck rfl) rfl dX6_receiveStart_22 rfl rfl rfl ?_
    refine v_if_eq 67 dX6_receiveStart_25 (by decide) rfl (fun c25 => ?_) (fun c25 => ?_)
    · have h := o_p c25 h
      obtain rfl := Option.some.inj h
      exact v_vret rfl (Nat.le_of_ble_eq_true rfl) (Nat.le_of_ble_eq_true rfl) dX6_receiveStart_67
    · have h := o_n c25 h
      refine v_aload_n 0 rfl dX6_receiveStart_28 rfl ?_
      obtain ⟨v29, e29, h⟩ := o_b h
      refine v_getI e29 (by decide) (by decide) rfl qf_RX6_25 dX6_receiveStart_29 rfl ?_
      refine v_iconst (v := (2 : Int32)) (by decide) dX6_receiveStart_32 rfl ?_
      refine v_icmp_ne 67 dX6_receiveStart_33 (by decide) rfl (fun c33 => ?_) (fun c33 => ?_)
      · have h := o_n c33 h
        obtain rfl := Option.some.inj h
        exact v_vret rfl (Nat.le_of_ble_eq_true rfl) (Nat.le_of_ble_eq_true rfl) dX6_receiveStart_67
      · have h := o_p c33 h
        exact l_X6_receiveStart_36 h
def rm_X9_joinedWith : Room := { frames := 2, cells := 1, slots := 2, locals := 42 }
set_option maxRecDepth 100000 in
set_option maxHeartbeats 4000000 in
theorem k_X9_joinedWith {G : Gm} {μ : Mu} {o : Int64} {r : Nat} {σ' : Hp} {σ : Hp} {a0 : Nat} {a1 : Nat} (h : f_X9_joinedWith σ a0 a1 = some (r, σ')) : Cr G yX9_joinedWith cX9_joinedWith 2 (some (.object "OrderedTable$View")) rm_X9_joinedWith [.ref a0, .ref a1] (σ, μ, o) r (σ', μ, o) 1 2 := by
  refine v_entR [(0, .ref a0), (1, .ref a1)] (by decide +kernel) (Nat.le_of_ble_eq_true rfl) rfl ?_
  unfold f_X9_joinedWith at h
  obtain ⟨s0, e0, h⟩ := o_b h
  refine v_new (c' := 1) (k' := 2) (Option.some.inj e0) (by decide) qc_RX9_8 qb_9 qz_9 ⟨Nat.le_of_ble_eq_true rfl, Nat.le_of_ble_eq_true rfl⟩ rfl rfl dX9_joinedWith_0 rfl ?_
  refine v_dup rfl dX9_joinedWith_3 rfl ?_
  refine v_aload_n 0 rfl dX9_joinedWith_4 rfl ?_
  obtain ⟨v5, e5, h⟩ := o_b h
  refine v_getI e5 (by decide) (by decide) rfl qf_RX9_7 dX9_joinedWith_5 rfl ?_
  refine v_aload_n 1 rfl dX9_joinedWith_8 rfl ?_
  obtain ⟨v9, e9, h⟩ := o_b h
  refine v_getI e9 (by decide) (by decide) rfl qf_RX9_7 dX9_joinedWith_9 rfl ?_
  obtain ⟨v12, e12, h⟩ := o_b h
  refine v_Si (as := [.int v5, .int v9]) (st := [.ref (oN σ), .ref (oN σ)]) (c' := 1) (k' := 2) (k_J9_max_7cf53 e12) mk_J9_max_7cf53 qs_J9_max_7cf53 qm_RX9_20 (ck rfl) rfl dX9_joinedWith_12 rfl rfl rfl ?_
  refine v_aload_n 0 rfl dX9_joinedWith_15 rfl ?_
  obtain ⟨v16, e16, h⟩ := o_b h
  refine v_getI e16 (by decide) (by decide) rfl qf_RX9_13 dX9_joinedWith_16 rfl ?_
  refine v_aload_n 1 rfl dX9_joinedWith_19 rfl ?_
  obtain ⟨v20, e20, h⟩ := o_b h
  refine v_getI e20 (by decide) (by decide) rfl qf_RX9_13 dX9_joinedWith_20 rfl ?_
  obtain ⟨v23, e23, h⟩ := o_b h
  refine v_Si (as := [.int v16, .int v20]) (st := [.int v12, .ref (oN σ), .ref (oN σ)]) (c' := 1) (k' := 2) (k_J9_max_7cf53 e23) mk_J9_max_7cf53 qs_J9_max_7cf53 qm_RX9_20 (ck rfl) rfl dX9_joinedWith_23 rfl rfl rfl ?_
  obtain ⟨v26, e26, h⟩ := o_b h
  refine v_Iv (as := [.int v12, .int v23]) (st := [.ref (oN σ)]) (c' := 1) (k' := 2) (k_X9_init e26) mk_X9_init qi_X9_init rfl qm_RX9_26 (ck rfl) rfl dX9_joinedWith_26 rfl rfl rfl ?_
  obtain ⟨rfl, rfl⟩ := o_s h
  exact v_aret rfl (Nat.le_of_ble_eq_true rfl) (Nat.le_of_ble_eq_true rfl) dX9_joinedWith_29
def rm_X8_addTurned : Room := { frames := 2, cells := 0, slots := 0, locals := 59 }
set_option maxRecDepth 100000 in
set_option maxHeartbeats 4000000 in
theorem k_X8_addTurned {G : Gm} {μ : Mu} {o : Int64} {σ' : Hp} {σ : Hp} {a0 : Nat} {a1 : Nat} (h : f_X8_addTurned σ a0 a1 = some σ') : Cv G yX8_addTurned cX8_addTurned 2 none rm_X8_addTurned [.ref a0, .ref a1] (σ, μ, o) (σ', μ, o) 0 0 := by
  refine v_entV [(0, .ref a0), (1, .ref a1)] (by decide +kernel) (Nat.le_of_ble_eq_true rfl) rfl ?_
  unfold f_X8_addTurned at h
  refine v_aload_n 0 rfl dX8_addTurned_0 rfl ?_
  refine v_dup rfl dX8_addTurned_1 rfl ?_
  obtain ⟨v2, e2, h⟩ := o_b h
  refine v_getI e2 (by decide) (by decide) rfl qf_RX8_33 dX8_addTurned_2 rfl ?_
  refine v_iconst (v := (1 : Int32)) (by decide) dX8_addTurned_5 rfl ?_
  refine v_aload_n 1 rfl dX8_addTurned_6 rfl ?_
  obtain ⟨v7, e7, h⟩ := o_b h
  refine v_getI e7 (by decide) (by decide) rfl qf_RX8_39 dX8_addTurned_7 rfl ?_
  refine v_ishl dX8_addTurned_10 rfl ?_
  refine v_ior dX8_addTurned_11 rfl ?_
  obtain ⟨s12, e12, h⟩ := o_b h
  refine v_putI e12 (by decide) (by decide) rfl rfl rfl rfl rfl qf_RX8_33 dX8_addTurned_12 rfl ?_
  refine v_aload_n 0 rfl dX8_addTurned_15 rfl ?_
  obtain ⟨v16, e16, h⟩ := o_b h
  refine v_getR e16 (by decide) (by decide) rfl qf_RX8_9 dX8_addTurned_16 rfl ?_
  refine v_aload_n 1 rfl dX8_addTurned_19 rfl ?_
  obtain ⟨v20, e20, h⟩ := o_b h
  refine v_getI e20 (by decide) (by decide) rfl qf_RX8_39 dX8_addTurned_20 rfl ?_
  refine v_aload_n 1 rfl dX8_addTurned_23 rfl ?_
  obtain ⟨v24, e24, h⟩ := o_b h
  refine v_getR e24 (by decide) (by decide) rfl qf_RX8_44 dX8_addTurned_24 rfl ?_
  obtain ⟨s27, e27, h⟩ := o_b h
  refine v_qR e27 (by decide) (by decide) (by decide) rfl dX8_addTurned_27 rfl ?_
  refine v_aload_n 0 rfl dX8_addTurned_28 rfl ?_
  obtain ⟨v29, e29, h⟩ := o_b h
  refine v_getR e29 (by decide) (by decide) rfl qf_RX8_15 dX8_addTurned_29 rfl ?_
  refine v_aload_n 1 rfl dX8_addTurned_32 rfl ?_
  obtain ⟨v33, e33, h⟩ := o_b h
  refine v_getI e33 (by decide) (by decide) rfl qf_RX8_39 dX8_addTurned_33 rfl ?_
  refine v_aload_n 1 rfl dX8_addTurned_36 rfl ?_
  obtain ⟨v37, e37, h⟩ := o_b h
  refine v_getI e37 (by decide) (by decide) rfl qf_RX8_48 dX8_addTurned_37 rfl ?_
  obtain ⟨s40, e40, h⟩ := o_b h
  refine v_qI e40 dX8_addTurned_40 rfl ?_
  refine v_aload_n 0 rfl dX8_addTurned_41 rfl ?_
  obtain ⟨v42, e42, h⟩ := o_b h
  refine v_getR e42 (by decide) (by decide) rfl qf_RX8_21 dX8_addTurned_42 rfl ?_
  refine v_aload_n 1 rfl dX8_addTurned_45 rfl ?_
  obtain ⟨v46, e46, h⟩ := o_b h
  refine v_getI e46 (by decide) (by decide) rfl qf_RX8_39 dX8_addTurned_46 rfl ?_
  obtain ⟨v49, e49, h⟩ := o_b h
  refine v_aR e49 (by decide) (by decide) rfl dX8_addTurned_49 rfl ?_
  refine v_aload_n 1 rfl dX8_addTurned_50 rfl ?_
  obtain ⟨v51, e51, h⟩ := o_b h
  refine v_getR e51 (by decide) (by decide) rfl qf_RX8_51 dX8_addTurned_51 rfl ?_
  obtain ⟨⟨⟩, g54, h⟩ := o_b h
  obtain ⟨v54, e54, h⟩ := o_b h
  refine v_Vv (as := [.ref v51]) (st := []) (c' := 0) (k' := 0) (k_X4_copy e54) (rcv_c g54 (by decide) rfl) mk_X4_copy qi_X4_copy qe_X4_copy qm_RX8_55 (ck rfl) rfl dX8_addTurned_54 rfl rfl rfl ?_
  obtain rfl := Option.some.inj h
  exact v_vret rfl (Nat.le_of_ble_eq_true rfl) (Nat.le_of_ble_eq_true rfl) dX8_addTurned_57
