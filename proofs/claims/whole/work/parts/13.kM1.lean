def rm_X12_tellTurned : Room := { frames := 1, cells := 0, slots := 0, locals := 28 }
set_option maxRecDepth 100000 in
set_option maxHeartbeats 4000000 in
theorem k_X12_tellTurned {G : Gm} (hG : gF G = mFl) {σ : Hp} {o : Int64} {μ' : Mu} {μ : Mu} {a1 : Int32} (h : f_X12_tellTurned μ a1 = some μ') : Cv G yX12_tellTurned cX12_tellTurned 2 none rm_X12_tellTurned [.ref (gM G 200), .int a1] (σ, μ, o) (σ, μ', o) 0 0 := by
  refine v_entV [(0, .ref (gM G 200)), (1, .int a1)] (by decide +kernel) (Nat.le_of_ble_eq_true rfl) rfl ?_
  unfold f_X12_tellTurned at h
  refine v_aload_n 0 rfl dX12_tellTurned_0 rfl ?_
  refine v_aload_n 0 rfl dX12_tellTurned_1 rfl ?_
  refine v_bipush (v := (9 : Int32)) (by decide) dX12_tellTurned_2 rfl ?_
  refine v_iload_n 1 rfl dX12_tellTurned_4 rfl ?_
  refine v_aload_n 0 rfl dX12_tellTurned_5 rfl ?_
  refine v_iload_n 1 rfl dX12_tellTurned_6 rfl ?_
  obtain ⟨v7, e7, h⟩ := o_b h
  refine v_Vi (as := [.int a1]) (st := [.int a1, .int (9 : Int32), .ref (gM G 200), .ref (gM G 200)]) (c' := 0) (k' := 0) (k_X12_leader hG e7) (rcv_m (mg hG rfl)) mk_X12_leader qi_X12_leader qe_X12_leader qm_RX12_269 (ck rfl) rfl dX12_tellTurned_7 rfl rfl rfl ?_
  refine v_aload_n 0 rfl dX12_tellTurned_10 rfl ?_
  refine v_mR (j := 33) (mg hG rfl) (by decide) rfl qf_RX12_88 dX12_tellTurned_11 rfl ?_
  refine v_iload_n 1 rfl dX12_tellTurned_14 rfl ?_
  obtain ⟨v15, e15, h⟩ := o_b h
  refine v_mA e15 (mg hG rfl) (by decide) rfl dX12_tellTurned_15 rfl ?_
  refine v_aload_n 0 rfl dX12_tellTurned_16 rfl ?_
  refine v_mR (j := 34) (mg hG rfl) (by decide) rfl qf_RX12_91 dX12_tellTurned_17 rfl ?_
  refine v_iload_n 1 rfl dX12_tellTurned_20 rfl ?_
  obtain ⟨v21, e21, h⟩ := o_b h
  refine v_mA e21 (mg hG rfl) (by decide) rfl dX12_tellTurned_21 rfl ?_
  refine v_iconst (v := (0 : Int32)) (by decide) dX12_tellTurned_22 rfl ?_
  refine v_iconst (v := (0 : Int32)) (by decide) dX12_tellTurned_23 rfl ?_
  obtain ⟨v24, e24, h⟩ := o_b h
  refine v_Vi (as := [.int (9 : Int32), .int a1, .int v7, .int v15, .int v21, .int (0 : Int32), .int (0 : Int32)]) (st := [.ref (gM G 200)]) (c' := 0) (k' := 0) (k_X12_send hG e24) (rcv_m (mg hG rfl)) mk_X12_send qi_X12_send qe_X12_send qm_RX12_241 (ck rfl) rfl dX12_tellTurned_24 rfl rfl rfl ?_
  refine v_iload_n 1 rfl dX12_tellTurned_27 rfl ?_
  refine v_aload_n 0 rfl dX12_tellTurned_28 rfl ?_
  refine v_mR (j := 38) (mg hG rfl) (by decide) rfl qf_RX12_103 dX12_tellTurned_29 rfl ?_
  refine v_iload_n 1 rfl dX12_tellTurned_32 rfl ?_
  obtain ⟨v33, e33, h⟩ := o_b h
  refine v_mA e33 (mg hG rfl) (by decide) rfl dX12_tellTurned_33 rfl ?_
  obtain ⟨v34, e34, h⟩ := o_b h
  refine v_Vv (as := [.int v24.1, .int a1, .int v33]) (st := []) (c' := 0) (k' := 0) (k_X12_load hG e34) (rcv_m (mg hG rfl)) mk_X12_load qi_X12_load qe_X12_load qm_RX12_277 (ck rfl) rfl dX12_tellTurned_34 rfl rfl rfl ?_
  obtain rfl := Option.some.inj h
  exact v_vret rfl (Nat.le_of_ble_eq_true rfl) (Nat.le_of_ble_eq_true rfl) dX12_tellTurned_37
def rm_X12_turn : Room := { frames := 2, cells := 0, slots := 0, locals := 52 }
set_option maxRecDepth 100000 in
set_option maxHeartbeats 4000000 in
theorem k_X12_turn {G : Gm} (hG : gF G = mFl) {σ : Hp} {o : Int64} {μ' : Mu} {μ : Mu} {a1 : Int32} {a2 : Int32} {a3 : Int32} (h : f_X12_turn μ a1 a2 a3 = some μ') : Cv G yX12_turn cX12_turn 4 none rm_X12_turn [.ref (gM G 200), .int a1, .int a2, .int a3] (σ, μ, o) (σ, μ', o) 0 0 := by
  refine v_entV [(0, .ref (gM G 200)), (1, .int a1), (2, .int a2), (3, .int a3)] (by decide +kernel) (Nat.le_of_ble_eq_true rfl) rfl ?_
  unfold f_X12_turn at h
  refine v_aload_n 0 rfl dX12_turn_0 rfl ?_
  refine v_mR (j := 33) (mg hG rfl) (by decide) rfl qf_RX12_88 dX12_turn_1 rfl ?_
  refine v_iload_n 1 rfl dX12_turn_4 rfl ?_
  refine v_iload_n 2 rfl dX12_turn_5 rfl ?_
  obtain ⟨s6, e6, h⟩ := o_b h
  refine v_mQ e6 (mg hG rfl) (by decide) rfl dX12_turn_6 rfl ?_
  refine v_aload_n 0 rfl dX12_turn_7 rfl ?_
  refine v_mR (j := 34) (mg hG rfl) (by decide) rfl qf_RX12_91 dX12_turn_8 rfl ?_
  refine v_iload_n 1 rfl dX12_turn_11 rfl ?_
  refine v_iload_n 3 rfl dX12_turn_12 rfl ?_
  obtain ⟨s13, e13, h⟩ := o_b h
  refine v_mQ e13 (mg hG rfl) (by decide) rfl dX12_turn_13 rfl ?_
  refine v_aload_n 0 rfl dX12_turn_14 rfl ?_
  refine v_mR (j := 35) (mg hG rfl) (by decide) rfl qf_RX12_94 dX12_turn_15 rfl ?_
  refine v_iload_n 1 rfl dX12_turn_18 rfl ?_
  refine v_iconst (v := (2 : Int32)) (by decide) dX12_turn_19 rfl ?_
  obtain ⟨s20, e20, h⟩ := o_b h
  refine v_mQ e20 (mg hG rfl) (by decide) rfl dX12_turn_20 rfl ?_
  refine v_aload_n 0 rfl dX12_turn_21 rfl ?_
  refine v_iload_n 1 rfl dX12_turn_22 rfl ?_
  obtain ⟨v23, e23, h⟩ := o_b h
  refine v_Vv (as := [.int a1]) (st := []) (c' := 0) (k' := 0) (k_X12_forget hG e23) (rcv_m (mg hG rfl)) mk_X12_forget qi_X12_forget qe_X12_forget qm_RX12_280 (ck rfl) rfl dX12_turn_23 rfl rfl rfl ?_
  refine v_aload_n 0 rfl dX12_turn_26 rfl ?_
  refine v_mR (j := 41) (mg hG rfl) (by decide) rfl qf_RX12_112 dX12_turn_27 rfl ?_
  refine v_iload_n 1 rfl dX12_turn_30 rfl ?_
  refine v_iconst (v := (0 : Int32)) (by decide) dX12_turn_31 rfl ?_
  obtain ⟨s32, e32, h⟩ := o_b h
  refine v_mQ e32 (mg hG rfl) (by decide) rfl dX12_turn_32 rfl ?_
  refine v_aload_n 0 rfl dX12_turn_33 rfl ?_
  refine v_bipush (v := (8 : Int32)) (by decide) dX12_turn_34 rfl ?_
  refine v_iload_n 1 rfl dX12_turn_36 rfl ?_
  refine v_iconst (v := (0 : Int32)) (by decide) dX12_turn_37 rfl ?_
  obtain ⟨v38, e38, h⟩ := o_b h
  refine v_Vv (as := [.int (8 : Int32), .int a1, .int (0 : Int32)]) (st := []) (c' := 0) (k' := 0) (k_X12_all hG e38) (rcv_m (mg hG rfl)) mk_X12_all qi_X12_all qe_X12_all qm_RX12_273 (ck rfl) rfl dX12_turn_38 rfl rfl rfl ?_
  refine v_aload_n 0 rfl dX12_turn_41 rfl ?_
  refine v_iload_n 1 rfl dX12_turn_42 rfl ?_
  obtain ⟨v43, e43, h⟩ := o_b h
  refine v_Vi (as := [.int a1]) (st := []) (c' := 0) (k' := 0) (k_X12_leads hG e43) (rcv_m (mg hG rfl)) mk_X12_leads qi_X12_leads qe_X12_leads qm_RX12_248 (ck rfl) rfl dX12_turn_43 rfl rfl rfl ?_
  refine v_if_ne 54 dX12_turn_46 (by decide) rfl (fun c46 => ?_) (fun c46 => ?_)
  · have h := o_n c46 h
    obtain rfl := Option.some.inj h
    exact v_vret rfl (Nat.le_of_ble_eq_true rfl) (Nat.le_of_ble_eq_true rfl) dX12_turn_54
  · have h := o_p c46 h
    refine v_aload_n 0 rfl dX12_turn_49 rfl ?_
    refine v_iload_n 1 rfl dX12_turn_50 rfl ?_
    obtain ⟨v51, e51, h⟩ := o_b h
    refine v_Vv (as := [.int a1]) (st := []) (c' := 0) (k' := 0) (k_X12_tellTurned hG e51) (rcv_m (mg hG rfl)) mk_X12_tellTurned qi_X12_tellTurned qe_X12_tellTurned qm_RX12_284 (ck rfl) rfl dX12_turn_51 rfl rfl rfl ?_
    obtain rfl := Option.some.inj h
    exact v_vret rfl (Nat.le_of_ble_eq_true rfl) (Nat.le_of_ble_eq_true rfl) dX12_turn_54
def rm_X12_normalOf : Room := { frames := 0, cells := 0, slots := 0, locals := 0 }
set_option maxRecDepth 100000 in
set_option maxHeartbeats 4000000 in
theorem k_X12_normalOf {G : Gm} (hG : gF G = mFl) {σ : Hp} {o : Int64} {r : Int32} {μ : Mu} {a1 : Int32} {a2 : Int32} {a3 : Int32} (h : f_X12_normalOf μ a1 a2 a3 = some r) : Ci G yX12_normalOf cX12_normalOf 4 (some .int) rm_X12_normalOf [.ref (gM G 200), .int a1, .int a2, .int a3] (σ, μ, o) r (σ, μ, o) 0 0 := by
  refine v_entI [(0, .ref (gM G 200)), (1, .int a1), (2, .int a2), (3, .int a3)] (by decide +kernel) (Nat.le_of_ble_eq_true rfl) rfl ?_
  unfold f_X12_normalOf at h
  refine v_iload_n 2 rfl dX12_normalOf_0 rfl ?_
  refine v_iload_n 1 rfl dX12_normalOf_1 rfl ?_
  refine v_icmp_ne 25 dX12_normalOf_2 (by decide) rfl (fun c2 => ?_) (fun c2 => ?_)
  · have h := o_n c2 h
    refine v_iload_n 3 rfl dX12_normalOf_25 rfl ?_
    refine v_if_eq 43 dX12_normalOf_26 (by decide) rfl (fun c26 => ?_) (fun c26 => ?_)
    · have h := o_p c26 h
      refine v_aload_n 0 rfl dX12_normalOf_43 rfl ?_
      refine v_mR (j := 50) (mg hG rfl) (by decide) rfl qf_RX12_139 dX12_normalOf_44 rfl ?_
      refine v_bipush (v := (7 : Int32)) (by decide) dX12_normalOf_47 rfl ?_
      refine v_iload_n 1 rfl dX12_normalOf_49 rfl ?_
      refine v_imul dX12_normalOf_50 rfl ?_
      refine v_iload_n 2 rfl dX12_normalOf_51 rfl ?_
      refine v_iadd dX12_normalOf_52 rfl ?_
      obtain ⟨v53, e53, h⟩ := o_b h
      refine v_mA e53 (mg hG rfl) (by decide) rfl dX12_normalOf_53 rfl ?_
      obtain rfl := Option.some.inj h
      exact v_iret rfl rfl (Nat.le_of_ble_eq_true rfl) (Nat.le_of_ble_eq_true rfl) dX12_normalOf_54
    · have h := o_n c26 h
      refine v_aload_n 0 rfl dX12_normalOf_29 rfl ?_
      refine v_mR (j := 51) (mg hG rfl) (by decide) rfl qf_RX12_142 dX12_normalOf_30 rfl ?_
      refine v_bipush (v := (7 : Int32)) (by decide) dX12_normalOf_33 rfl ?_
      refine v_iload_n 1 rfl dX12_normalOf_35 rfl ?_
      refine v_imul dX12_normalOf_36 rfl ?_
      refine v_iload_n 2 rfl dX12_normalOf_37 rfl ?_
      refine v_iadd dX12_normalOf_38 rfl ?_
      obtain ⟨v39, e39, h⟩ := o_b h
      refine v_mA e39 (mg hG rfl) (by decide) rfl dX12_normalOf_39 rfl ?_
      refine v_goto (q := 54) dX12_normalOf_40 (by decide) ?_
      obtain rfl := Option.some.inj h
      exact v_iret rfl rfl (Nat.le_of_ble_eq_true rfl) (Nat.le_of_ble_eq_true rfl) dX12_normalOf_54
  · have h := o_p c2 h
    refine v_iload_n 3 rfl dX12_normalOf_5 rfl ?_
    refine v_if_eq 18 dX12_normalOf_6 (by decide) rfl (fun c6 => ?_) (fun c6 => ?_)
    · have h := o_p c6 h
      refine v_aload_n 0 rfl dX12_normalOf_18 rfl ?_
      refine v_mR (j := 36) (mg hG rfl) (by decide) rfl qf_RX12_97 dX12_normalOf_19 rfl ?_
      refine v_iload_n 1 rfl dX12_normalOf_22 rfl ?_
      obtain ⟨v23, e23, h⟩ := o_b h
      refine v_mA e23 (mg hG rfl) (by decide) rfl dX12_normalOf_23 rfl ?_
      obtain rfl := Option.some.inj h
      exact v_iret rfl rfl (Nat.le_of_ble_eq_true rfl) (Nat.le_of_ble_eq_true rfl) dX12_normalOf_24
    · have h := o_n c6 h
      refine v_aload_n 0 rfl dX12_normalOf_9 rfl ?_
      refine v_mR (j := 37) (mg hG rfl) (by decide) rfl qf_RX12_100 dX12_normalOf_10 rfl ?_
      refine v_iload_n 1 rfl dX12_normalOf_13 rfl ?_
      obtain ⟨v14, e14, h⟩ := o_b h
      refine v_mA e14 (mg hG rfl) (by decide) rfl dX12_normalOf_14 rfl ?_
      refine v_goto (q := 24) dX12_normalOf_15 (by decide) ?_
      obtain rfl := Option.some.inj h
      exact v_iret rfl rfl (Nat.le_of_ble_eq_true rfl) (Nat.le_of_ble_eq_true rfl) dX12_normalOf_24
def rm_X12_lengthOf : Room := { frames := 0, cells := 0, slots := 0, locals := 0 }
set_option maxRecDepth 100000 in
set_option maxHeartbeats 4000000 in
theorem k_X12_lengthOf {G : Gm} (hG : gF G = mFl) {σ : Hp} {o : Int64} {r : Int32} {μ : Mu} {a1 : Int32} {a2 : Int32} (h : f_X12_lengthOf μ a1 a2 = some r) : Ci G yX12_lengthOf cX12_lengthOf 3 (some .int) rm_X12_lengthOf [.ref (gM G 200), .int a1, .int a2] (σ, μ, o) r (σ, μ, o) 0 0 := by
  refine v_entI [(0, .ref (gM G 200)), (1, .int a1), (2, .int a2)] (by decide +kernel) (Nat.le_of_ble_eq_true rfl) rfl ?_
  unfold f_X12_lengthOf at h
  refine v_iload_n 2 rfl dX12_lengthOf_0 rfl ?_
  refine v_iload_n 1 rfl dX12_lengthOf_1 rfl ?_
  refine v_icmp_ne 14 dX12_lengthOf_2 (by decide) rfl (fun c2 => ?_) (fun c2 => ?_)
  · have h := o_n c2 h
    refine v_aload_n 0 rfl dX12_lengthOf_14 rfl ?_
    refine v_mR (j := 53) (mg hG rfl) (by decide) rfl qf_RX12_148 dX12_lengthOf_15 rfl ?_
    refine v_bipush (v := (7 : Int32)) (by decide) dX12_lengthOf_18 rfl ?_
    refine v_iload_n 1 rfl dX12_lengthOf_20 rfl ?_
    refine v_imul dX12_lengthOf_21 rfl ?_
    refine v_iload_n 2 rfl dX12_lengthOf_22 rfl ?_
    refine v_iadd dX12_lengthOf_23 rfl ?_
    obtain ⟨v24, e24, h⟩ := o_b h
    refine v_mA e24 (mg hG rfl) (by decide) rfl dX12_lengthOf_24 rfl ?_
    obtain rfl := Option.some.inj h
    exact v_iret rfl rfl (Nat.le_of_ble_eq_true rfl) (Nat.le_of_ble_eq_true rfl) dX12_lengthOf_25
  · have h := o_p c2 h
    refine v_aload_n 0 rfl dX12_lengthOf_5 rfl ?_
    refine v_mR (j := 38) (mg hG rfl) (by decide) rfl qf_RX12_103 dX12_lengthOf_6 rfl ?_
    refine v_iload_n 1 rfl dX12_lengthOf_9 rfl ?_
    obtain ⟨v10, e10, h⟩ := o_b h
    refine v_mA e10 (mg hG rfl) (by decide) rfl dX12_lengthOf_10 rfl ?_
    refine v_goto (q := 25) dX12_lengthOf_11 (by decide) ?_
    obtain rfl := Option.some.inj h
    exact v_iret rfl rfl (Nat.le_of_ble_eq_true rfl) (Nat.le_of_ble_eq_true rfl) dX12_lengthOf_25
def rm_X12_entryOf : Room := { frames := 0, cells := 0, slots := 0, locals := 0 }
set_option maxRecDepth 100000 in
set_option maxHeartbeats 4000000 in
theorem k_X12_entryOf {G : Gm} (hG : gF G = mFl) {σ : Hp} {o : Int64} {r : Int32} {μ : Mu} {a1 : Int32} {a2 : Int32} {a3 : Int32} (h : f_X12_entryOf μ a1 a2 a3 = some r) : Ci G yX12_entryOf cX12_entryOf 4 (some .int) rm_X12_entryOf [.ref (gM G 200), .int a1, .int a2, .int a3] (σ, μ, o) r (σ, μ, o) 0 0 := by
  refine v_entI [(0, .ref (gM G 200)), (1, .int a1), (2, .int a2), (3, .int a3)] (by decide +kernel) (Nat.le_of_ble_eq_true rfl) rfl ?_
  unfold f_X12_entryOf at h
  refine v_iload_n 2 rfl dX12_entryOf_0 rfl ?_
  refine v_iload_n 1 rfl dX12_entryOf_1 rfl ?_
  refine v_icmp_ne 19 dX12_entryOf_2 (by decide) rfl (fun c2 => ?_) (fun c2 => ?_)
  · have h := o_n c2 h
    refine v_aload_n 0 rfl dX12_entryOf_19 rfl ?_
    refine v_mR (j := 54) (mg hG rfl) (by decide) rfl qf_RX12_151 dX12_entryOf_20 rfl ?_
    refine v_bipush (v := (100 : Int32)) (by decide) dX12_entryOf_23 rfl ?_
    refine v_bipush (v := (7 : Int32)) (by decide) dX12_entryOf_25 rfl ?_
    refine v_iload_n 1 rfl dX12_entryOf_27 rfl ?_
    refine v_imul dX12_entryOf_28 rfl ?_
    refine v_iload_n 2 rfl dX12_entryOf_29 rfl ?_
    refine v_iadd dX12_entryOf_30 rfl ?_
    refine v_imul dX12_entryOf_31 rfl ?_
    refine v_iload_n 3 rfl dX12_entryOf_32 rfl ?_
    refine v_iadd dX12_entryOf_33 rfl ?_
    obtain ⟨v34, e34, h⟩ := o_b h
    refine v_mA e34 (mg hG rfl) (by decide) rfl dX12_entryOf_34 rfl ?_
    obtain rfl := Option.some.inj h
    exact v_iret rfl rfl (Nat.le_of_ble_eq_true rfl) (Nat.le_of_ble_eq_true rfl) dX12_entryOf_35
  · have h := o_p c2 h
    refine v_aload_n 0 rfl dX12_entryOf_5 rfl ?_
    refine v_mR (j := 42) (mg hG rfl) (by decide) rfl qf_RX12_115 dX12_entryOf_6 rfl ?_
    refine v_bipush (v := (100 : Int32)) (by decide) dX12_entryOf_9 rfl ?_
    refine v_iload_n 1 rfl dX12_entryOf_11 rfl ?_
    refine v_imul dX12_entryOf_12 rfl ?_
    refine v_iload_n 3 rfl dX12_entryOf_13 rfl ?_
    refine v_iadd dX12_entryOf_14 rfl ?_
    obtain ⟨v15, e15, h⟩ := o_b h
    refine v_mA e15 (mg hG rfl) (by decide) rfl dX12_entryOf_15 rfl ?_
    refine v_goto (q := 35) dX12_entryOf_16 (by decide) ?_
    obtain rfl := Option.some.inj h
    exact v_iret rfl rfl (Nat.le_of_ble_eq_true rfl) (Nat.le_of_ble_eq_true rfl) dX12_entryOf_35
def rm_X12_isIn : Room := { frames := 0, cells := 0, slots := 0, locals := 0 }
set_option maxRecDepth 100000 in
set_option maxHeartbeats 4000000 in
theorem k_X12_isIn {G : Gm} (hG : gF G = mFl) {σ : Hp} {o : Int64} {r : Int32} {μ : Mu} {a1 : Int32} {a2 : Int32} (h : f_X12_isIn μ a1 a2 = some r) : Ci G yX12_isIn cX12_isIn 3 (some .boolean) rm_X12_isIn [.ref (gM G 200), .int a1, .int a2] (σ, μ, o) r (σ, μ, o) 0 0 := by
  refine v_entI [(0, .ref (gM G 200)), (1, .int a1), (2, .int a2)] (by decide +kernel) (Nat.le_of_ble_eq_true rfl) rfl ?_
  unfold f_X12_isIn at h
  refine v_iload_n 2 rfl dX12_isIn_0 rfl ?_
  refine v_iload_n 1 rfl dX12_isIn_1 rfl ?_
  refine v_icmp_eq 19 dX12_isIn_2 (by decide) rfl (fun c2 => ?_) (fun c2 => ?_)
  · have h := o_p c2 h
    refine v_iconst (v := (1 : Int32)) (by decide) dX12_isIn_19 rfl ?_
    refine v_goto (q := 24) dX12_isIn_20 (by decide) ?_
    obtain rfl := Option.some.inj h
    exact v_iret rfl rfl (Nat.le_of_ble_eq_true rfl) (Nat.le_of_ble_eq_true rfl) dX12_isIn_24
  · have h := o_n c2 h
    refine v_aload_n 0 rfl dX12_isIn_5 rfl ?_
    refine v_mR (j := 49) (mg hG rfl) (by decide) rfl qf_RX12_136 dX12_isIn_6 rfl ?_
    refine v_iload_n 1 rfl dX12_isIn_9 rfl ?_
    obtain ⟨v10, e10, h⟩ := o_b h
    refine v_mA e10 (mg hG rfl) (by decide) rfl dX12_isIn_10 rfl ?_
    refine v_iload_n 2 rfl dX12_isIn_11 rfl ?_
    refine v_ishr dX12_isIn_12 rfl ?_
    refine v_iconst (v := (1 : Int32)) (by decide) dX12_isIn_13 rfl ?_
    refine v_iand dX12_isIn_14 rfl ?_
    refine v_iconst (v := (1 : Int32)) (by decide) dX12_isIn_15 rfl ?_
    refine v_icmp_ne 23 dX12_isIn_16 (by decide) rfl (fun c16 => ?_) (fun c16 => ?_)
    · have h := o_n c16 h
      refine v_iconst (v := (0 : Int32)) (by decide) dX12_isIn_23 rfl ?_
      obtain rfl := Option.some.inj h
      exact v_iret rfl rfl (Nat.le_of_ble_eq_true rfl) (Nat.le_of_ble_eq_true rfl) dX12_isIn_24
    · have h := o_p c16 h
      refine v_iconst (v := (1 : Int32)) (by decide) dX12_isIn_19 rfl ?_
      refine v_goto (q := 24) dX12_isIn_20 (by decide) ?_
      obtain rfl := Option.some.inj h
      exact v_iret rfl rfl (Nat.le_of_ble_eq_true rfl) (Nat.le_of_ble_eq_true rfl) dX12_isIn_24
def rm_X12_mergedAt : Room := { frames := 1, cells := 0, slots := 0, locals := 23 }
set_option maxRecDepth 100000 in
set_option maxHeartbeats 4000000 in
theorem l_X12_mergedAt_146 {G : Gm} (hG : gF G = mFl) {σ : Hp} {o : Int64} {r : Int32} {μ : Mu} {rec51 : Mu → Int32 → Int32 → Int32 → Int32 → Int32 → Int32 → Option Int32} (h51 : ∀ {x1 : Int32} {x2 : Int32} {x3 : Int32} {x4 : Int32} {x5 : Int32} {x6 : Int32} , rec51 μ x1 x2 x3 x4 x5 x6 = some r → V G yX12_mergedAt cX12_mergedAt 8 (some .int) rm_X12_mergedAt (zI G r (σ, μ, o) 0 0) (σ, μ, o) 0 0 51 [(0, .ref (gM G 200)), (1, .int x1), (2, .int x2), (3, .int x3), (4, .int x4), (5, .int x5), (6, .int x6)] []) {x1 : Int32} {x2 : Int32} {x3 : Int32} {x4 : Int32} {x5 : Int32} {x6 : Int32} (h : f_X12_mergedAt_146 rec51 μ x1 x2 x3 x4 x5 x6 = some r) : V G yX12_mergedAt cX12_mergedAt 8 (some .int) rm_X12_mergedAt (zI G r (σ, μ, o) 0 0) (σ, μ, o) 0 0 146 [(0, .ref (gM G 200)), (1, .int x1), (2, .int x2), (3, .int x3), (4, .int x4), (5, .int x5), (6, .int x6)] [] := by
  unfold f_X12_mergedAt_146 at h
  refine v_iinc (v := (x6 + 1)) [(6, .int (x6 + 1)), (0, .ref (gM G 200)), (1, .int x1), (2, .int x2), (3, .int x3), (4, .int x4), (5, .int x5)] 6 rfl rfl dX12_mergedAt_146 rfl (by decide) rfl ?_
  refine v_goto (q := 51) dX12_mergedAt_149 (by decide) ?_
  refine v_sub [1, 2, 3, 4, 5, 6, 0] rfl ?_
  exact h51 h
set_option maxRecDepth 100000 in
set_option maxHeartbeats 4000000 in
theorem l_X12_mergedAt_137 {G : Gm} (hG : gF G = mFl) {σ : Hp} {o : Int64} {r : Int32} {μ : Mu} {rec51 : Mu → Int32 → Int32 → Int32 → Int32 → Int32 → Int32 → Option Int32} (h51 : ∀ {x1 : Int32} {x2 : Int32} {x3 : Int32} {x4 : Int32} {x5 : Int32} {x6 : Int32} , rec51 μ x1 x2 x3 x4 x5 x6 = some r → V G yX12_mergedAt cX12_mergedAt 8 (some .int) rm_X12_mergedAt (zI G r (σ, μ, o) 0 0) (σ, μ, o) 0 0 51 [(0, .ref (gM G 200)), (1, .int x1), (2, .int x2), (3, .int x3), (4, .int x4), (5, .int x5), (6, .int x6)] []) {x1 : Int32} {x2 : Int32} {x3 : Int32} {x4 : Int32} {x6 : Int32} {x7 : Int32} {y0 : Int32} (h : f_X12_mergedAt_137 rec51 μ x1 x2 x3 x4 x6 x7 y0 = some r) : V G yX12_mergedAt cX12_mergedAt 8 (some .int) rm_X12_mergedAt (zI G r (σ, μ, o) 0 0) (σ, μ, o) 0 0 137 [(0, .ref (gM G 200)), (1, .int x1), (2, .int x2), (3, .int x3), (4, .int x4), (6, .int x6), (7, .int x7)] [.int y0] := by
  unfold f_X12_mergedAt_137 at h
  refine v_istore [(5, .int y0), (0, .ref (gM G 200)), (1, .int x1), (2, .int x2), (3, .int x3), (4, .int x4), (6, .int x6), (7, .int x7)] dX12_mergedAt_137 rfl (by decide) rfl ?_
  refine v_iload 7 rfl dX12_mergedAt_139 rfl ?_
  refine v_if_ne 146 dX12_mergedAt_141 (by decide) rfl (fun c141 => ?_) (fun c141 => ?_)
  · have h := o_n c141 h
    refine v_sub [1, 2, 3, 4, 5, 0, 6] rfl ?_
    exact l_X12_mergedAt_146 hG h51 h
  · have h := o_p c141 h
    refine v_iconst (v := (0 : Int32)) (by decide) dX12_mergedAt_144 rfl ?_
    obtain rfl := Option.some.inj h
    exact v_iret rfl rfl (Nat.le_of_ble_eq_true rfl) (Nat.le_of_ble_eq_true rfl) dX12_mergedAt_145
set_option maxRecDepth 100000 in
set_option maxHeartbeats 4000000 in
theorem l_X12_mergedAt_130 {G : Gm} (hG : gF G = mFl) {σ : Hp} {o : Int64} {r : Int32} {μ : Mu} {rec51 : Mu → Int32 → Int32 → Int32 → Int32 → Int32 → Int32 → Option Int32} (h51 : ∀ {x1 : Int32} {x2 : Int32} {x3 : Int32} {x4 : Int32} {x5 : Int32} {x6 : Int32} , rec51 μ x1 x2 x3 x4 x5 x6 = some r → V G yX12_mergedAt cX12_mergedAt 8 (some .int) rm_X12_mergedAt (zI G r (σ, μ, o) 0 0) (σ, μ, o) 0 0 51 [(0, .ref (gM G 200)), (1, .int x1), (2, .int x2), (3, .int x3), (4, .int x4), (5, .int x5), (6, .int x6)] []) {x1 : Int32} {x2 : Int32} {x3 : Int32} {x4 : Int32} {x6 : Int32} {x7 : Int32} (h : f_X12_mergedAt_130 rec51 μ x1 x2 x3 x4 x6 x7 = some r) : V G yX12_mergedAt cX12_mergedAt 8 (some .int) rm_X12_mergedAt (zI G r (σ, μ, o) 0 0) (σ, μ, o) 0 0 130 [(0, .ref (gM G 200)), (1, .int x1), (2, .int x2), (3, .int x3), (4, .int x4), (6, .int x6), (7, .int x7)] [] := by
  unfold f_X12_mergedAt_130 at h
  refine v_iload 6 rfl dX12_mergedAt_130 rfl ?_
  refine v_goto (q := 137) dX12_mergedAt_132 (by decide) ?_
  exact l_X12_mergedAt_137 hG h51 h
set_option maxRecDepth 100000 in
set_option maxHeartbeats 4000000 in
theorem l_X12_mergedAt_51 {G : Gm} (hG : gF G = mFl) {σ : Hp} {o : Int64} {r : Int32} {μ : Mu} : ∀ (n : Nat) {x1 : Int32} {x2 : Int32} {x3 : Int32} {x4 : Int32} {x5 : Int32} {x6 : Int32} , f_X12_mergedAt_51 n μ x1 x2 x3 x4 x5 x6 = some r → V G yX12_mergedAt cX12_mergedAt 8 (some .int) rm_X12_mergedAt (zI G r (σ, μ, o) 0 0) (σ, μ, o) 0 0 51 [(0, .ref (gM G 200)), (1, .int x1), (2, .int x2), (3, .int x3), (4, .int x4), (5, .int x5), (6, .int x6)] [] := by
  intro n
  induction n with
  | zero => intro _ _ _ _ _ _ h; cases h
  | succ n ih =>
    intro x1 x2 x3 x4 x5 x6 h
    replace h : b_X12_mergedAt_51 (f_X12_mergedAt_51 n) μ x1 x2 x3 x4 x5 x6 = some r := h
    unfold b_X12_mergedAt_51 at h
    refine v_iload 6 rfl dX12_mergedAt_51 rfl ?_
    refine v_aload_n 0 rfl dX12_mergedAt_53 rfl ?_
    refine v_mI (j := 1) (mg hG rfl) (by decide) rfl qf_RX12_223 dX12_mergedAt_54 rfl ?_
    refine v_icmp_ge 152 dX12_mergedAt_57 (by decide) rfl (fun c57 => ?_) (fun c57 => ?_)
    · have h := o_p c57 h
      refine v_iload 5 rfl dX12_mergedAt_152 rfl ?_
      obtain rfl := Option.some.inj h
      exact v_iret rfl rfl (Nat.le_of_ble_eq_true rfl) (Nat.le_of_ble_eq_true rfl) dX12_mergedAt_154
    · have h := o_n c57 h
      refine v_aload_n 0 rfl dX12_mergedAt_60 rfl ?_
      refine v_iload_n 1 rfl dX12_mergedAt_61 rfl ?_
      refine v_iload 6 rfl dX12_mergedAt_62 rfl ?_
      obtain ⟨v64, e64, h⟩ := o_b h
      refine v_Vi (as := [.int x1, .int x6]) (st := []) (c' := 0) (k' := 0) (k_X12_isIn hG e64) (rcv_m (mg hG rfl)) mk_X12_isIn qi_X12_isIn qe_X12_isIn qm_RX12_287 (ck rfl) rfl dX12_mergedAt_64 rfl rfl rfl ?_
      refine v_if_eq 146 dX12_mergedAt_67 (by decide) rfl (fun c67 => ?_) (fun c67 => ?_)
      · have h := o_p c67 h
        exact l_X12_mergedAt_146 hG (fun h => ih h) h
      · have h := o_n c67 h
        refine v_aload_n 0 rfl dX12_mergedAt_70 rfl ?_
        refine v_iload_n 1 rfl dX12_mergedAt_71 rfl ?_
        refine v_iload 6 rfl dX12_mergedAt_72 rfl ?_
        refine v_iconst (v := (0 : Int32)) (by decide) dX12_mergedAt_74 rfl ?_
        obtain ⟨v75, e75, h⟩ := o_b h
        refine v_Vi (as := [.int x1, .int x6, .int (0 : Int32)]) (st := []) (c' := 0) (k' := 0) (k_X12_normalOf hG e75) (rcv_m (mg hG rfl)) mk_X12_normalOf qi_X12_normalOf qe_X12_normalOf qm_RX12_291 (ck rfl) rfl dX12_mergedAt_75 rfl rfl rfl ?_
        refine v_iload_n 3 rfl dX12_mergedAt_78 rfl ?_
        refine v_icmp_ne 146 dX12_mergedAt_79 (by decide) rfl (fun c79 => ?_) (fun c79 => ?_)
        · have h := o_n c79 h
          exact l_X12_mergedAt_146 hG (fun h => ih h) h
        · have h := o_p c79 h
          refine v_aload_n 0 rfl dX12_mergedAt_82 rfl ?_
          refine v_iload_n 1 rfl dX12_mergedAt_83 rfl ?_
          refine v_iload 6 rfl dX12_mergedAt_84 rfl ?_
          refine v_iconst (v := (1 : Int32)) (by decide) dX12_mergedAt_86 rfl ?_
          obtain ⟨v87, e87, h⟩ := o_b h
          refine v_Vi (as := [.int x1, .int x6, .int (1 : Int32)]) (st := []) (c' := 0) (k' := 0) (k_X12_normalOf hG e87) (rcv_m (mg hG rfl)) mk_X12_normalOf qi_X12_normalOf qe_X12_normalOf qm_RX12_291 (ck rfl) rfl dX12_mergedAt_87 rfl rfl rfl ?_
          refine v_iload 4 rfl dX12_mergedAt_90 rfl ?_
          refine v_icmp_ne 146 dX12_mergedAt_92 (by decide) rfl (fun c92 => ?_) (fun c92 => ?_)
          · have h := o_n c92 h
            exact l_X12_mergedAt_146 hG (fun h => ih h) h
          · have h := o_p c92 h
            refine v_iload_n 2 rfl dX12_mergedAt_95 rfl ?_
            refine v_aload_n 0 rfl dX12_mergedAt_96 rfl ?_
            refine v_iload_n 1 rfl dX12_mergedAt_97 rfl ?_
            refine v_iload 6 rfl dX12_mergedAt_98 rfl ?_
            obtain ⟨v100, e100, h⟩ := o_b h
            refine v_Vi (as := [.int x1, .int x6]) (st := [.int x2]) (c' := 0) (k' := 0) (k_X12_lengthOf hG e100) (rcv_m (mg hG rfl)) mk_X12_lengthOf qi_X12_lengthOf qe_X12_lengthOf qm_RX12_295 (ck rfl) rfl dX12_mergedAt_100 rfl rfl rfl ?_
            refine v_icmp_lt 109 dX12_mergedAt_103 (by decide) rfl (fun c103 => ?_) (fun c103 => ?_)
            · have h := o_p c103 h
              refine v_aload_n 0 rfl dX12_mergedAt_109 rfl ?_
              refine v_iload_n 1 rfl dX12_mergedAt_110 rfl ?_
              refine v_iload 6 rfl dX12_mergedAt_111 rfl ?_
              refine v_iload_n 2 rfl dX12_mergedAt_113 rfl ?_
              obtain ⟨v114, e114, h⟩ := o_b h
              refine v_Vi (as := [.int x1, .int x6, .int x2]) (st := []) (c' := 0) (k' := 0) (k_X12_entryOf hG e114) (rcv_m (mg hG rfl)) mk_X12_entryOf qi_X12_entryOf qe_X12_entryOf qm_RX12_298 (ck rfl) rfl dX12_mergedAt_114 rfl rfl rfl ?_
              refine v_istore [(7, .int v114), (0, .ref (gM G 200)), (1, .int x1), (2, .int x2), (3, .int x3), (4, .int x4), (5, .int x5), (6, .int x6)] dX12_mergedAt_117 rfl (by decide) rfl ?_
              refine v_iload 0 rfl dX12_mergedAt_119 rfl ?_
              refine v_if_eq 130 dX12_mergedAt_121 (by decide) rfl (fun c121 => ?_) (fun c121 => ?_)
              · have h := o_p c121 h
                refine v_sub [1, 2, 3, 4, 5, 7, 0] rfl ?_
                exact l_X12_mergedAt_130 hG (fun h => ih h) h
              · have h := o_n c121 h
                refine v_iload 6 rfl dX12_mergedAt_124 rfl ?_
                refine v_iconst (v := (-1 : Int32)) (by decide) dX12_mergedAt_126 rfl ?_
                refine v_icmp_ne 135 dX12_mergedAt_127 (by decide) rfl (fun c127 => ?_) (fun c127 => ?_)
                · have h := o_n c127 h
                  refine v_iload 6 rfl dX12_mergedAt_135 rfl ?_
                  refine v_sub [1, 2, 3, 4, 5, 7, 0] rfl ?_
                  exact l_X12_mergedAt_137 hG (fun h => ih h) h
                · have h := o_p c127 h
                  refine v_sub [1, 2, 3, 4, 5, 7, 0] rfl ?_
                  exact l_X12_mergedAt_130 hG (fun h => ih h) h
            · have h := o_n c103 h
              refine v_goto (q := 146) dX12_mergedAt_106 (by decide) ?_
              exact l_X12_mergedAt_146 hG (fun h => ih h) h
set_option maxRecDepth 100000 in
set_option maxHeartbeats 4000000 in
theorem l_X12_mergedAt_46 {G : Gm} (hG : gF G = mFl) {σ : Hp} {o : Int64} {r : Int32} {μ : Mu} {x1 : Int32} {x2 : Int32} {x3 : Int32} {x4 : Int32} {y0 : Int32} (h : f_X12_mergedAt_46 μ x1 x2 x3 x4 y0 = some r) : V G yX12_mergedAt cX12_mergedAt 8 (some .int) rm_X12_mergedAt (zI G r (σ, μ, o) 0 0) (σ, μ, o) 0 0 46 [(0, .ref (gM G 200)), (1, .int x1), (2, .int x2), (3, .int x3), (4, .int x4)] [.int y0] := by
  unfold f_X12_mergedAt_46 at h
  refine v_istore [(5, .int y0), (0, .ref (gM G 200)), (1, .int x1), (2, .int x2), (3, .int x3), (4, .int x4)] dX12_mergedAt_46 rfl (by decide) rfl ?_
  refine v_iconst (v := (0 : Int32)) (by decide) dX12_mergedAt_48 rfl ?_
  refine v_istore [(6, .int (0 : Int32)), (5, .int y0), (0, .ref (gM G 200)), (1, .int x1), (2, .int x2), (3, .int x3), (4, .int x4)] dX12_mergedAt_49 rfl (by decide) rfl ?_
  refine v_sub [2, 3, 4, 5, 6, 1, 0] rfl ?_
  exact l_X12_mergedAt_51 hG _ h
set_option maxRecDepth 100000 in
set_option maxHeartbeats 4000000 in
theorem l_X12_mergedAt_45 {G : Gm} (hG : gF G = mFl) {σ : Hp} {o : Int64} {r : Int32} {μ : Mu} {x1 : Int32} {x2 : Int32} {x3 : Int32} {x4 : Int32} (h : f_X12_mergedAt_45 μ x1 x2 x3 x4 = some r) : V G yX12_mergedAt cX12_mergedAt 8 (some .int) rm_X12_mergedAt (zI G r (σ, μ, o) 0 0) (σ, μ, o) 0 0 45 [(0, .ref (gM G 200)), (1, .int x1), (2, .int x2), (3, .int x3), (4, .int x4)] [] := by
  unfold f_X12_mergedAt_45 at h
  refine v_iconst (v := (-1 : Int32)) (by decide) dX12_mergedAt_45 rfl ?_
  exact l_X12_mergedAt_46 hG h
set_option maxRecDepth 100000 in
set_option maxHeartbeats 4000000 in
theorem k_X12_mergedAt {G : Gm} (hG : gF G = mFl) {σ : Hp} {o : Int64} {r : Int32} {μ : Mu} {a1 : Int32} {a2 : Int32} {a3 : Int32} {a4 : Int32} (h : f_X12_mergedAt μ a1 a2 a3 a4 = some r) : Ci G yX12_mergedAt cX12_mergedAt 8 (some .int) rm_X12_mergedAt [.ref (gM G 200), .int a1, .int a2, .int a3, .int a4] (σ, μ, o) r (σ, μ, o) 0 0 := by
  refine v_entI [(0, .ref (gM G 200)), (1, .int a1), (2, .int a2), (3, .int a3), (4, .int a4)] (by decide +kernel) (Nat.le_of_ble_eq_true rfl) rfl ?_
  unfold f_X12_mergedAt at h
  refine v_aload_n 0 rfl dX12_mergedAt_0 rfl ?_
  refine v_mR (j := 36) (mg hG rfl) (by decide) rfl qf_RX12_97 dX12_mergedAt_1 rfl ?_
  refine v_iload_n 1 rfl dX12_mergedAt_4 rfl ?_
  obtain ⟨v5, e5, h⟩ := o_b h
  refine v_mA e5 (mg hG rfl) (by decide) rfl dX12_mergedAt_5 rfl ?_
  refine v_iload_n 3 rfl dX12_mergedAt_6 rfl ?_
  refine v_icmp_ne 45 dX12_mergedAt_7 (by decide) rfl (fun c7 => ?_) (fun c7 => ?_)
  · have h := o_n c7 h
    exact l_X12_mergedAt_45 hG h
  · have h := o_p c7 h
    refine v_aload_n 0 rfl dX12_mergedAt_10 rfl ?_
    refine v_mR (j := 37) (mg hG rfl) (by decide) rfl qf_RX12_100 dX12_mergedAt_11 rfl ?_
    refine v_iload_n 1 rfl dX12_mergedAt_14 rfl ?_
    obtain ⟨v15, e15, h⟩ := o_b h
    refine v_mA e15 (mg hG rfl) (by decide) rfl dX12_mergedAt_15 rfl ?_
    refine v_iload 4 rfl dX12_mergedAt_16 rfl ?_
    refine v_icmp_ne 45 dX12_mergedAt_18 (by decide) rfl (fun c18 => ?_) (fun c18 => ?_)
    · have h := o_n c18 h
      exact l_X12_mergedAt_45 hG h
    · have h := o_p c18 h
      refine v_iload_n 2 rfl dX12_mergedAt_21 rfl ?_
      refine v_aload_n 0 rfl dX12_mergedAt_22 rfl ?_
      refine v_mR (j := 38) (mg hG rfl) (by decide) rfl qf_RX12_103 dX12_mergedAt_23 rfl ?_
      refine v_iload_n 1 rfl dX12_mergedAt_26 rfl ?_
      obtain ⟨v27, e27, h⟩ := o_b h
      refine v_mA e27 (mg hG rfl) (by decide) rfl dX12_mergedAt_27 rfl ?_
      refine v_icmp_ge 45 dX12_mergedAt_28 (by decide) rfl (fun c28 => ?_) (fun c28 => ?_)
      · have h := o_p c28 h
        exact l_X12_mergedAt_45 hG h
      · have h := o_n c28 h
        refine v_aload_n 0 rfl dX12_mergedAt_31 rfl ?_
        refine v_mR (j := 42) (mg hG rfl) (by decide) rfl qf_RX12_115 dX12_mergedAt_32 rfl ?_
        refine v_bipush (v := (100 : Int32)) (by decide) dX12_mergedAt_35 rfl ?_
        refine v_iload_n 1 rfl dX12_mergedAt_37 rfl ?_
        refine v_imul dX12_mergedAt_38 rfl ?_
        refine v_iload_n 2 rfl dX12_mergedAt_39 rfl ?_
        refine v_iadd dX12_mergedAt_40 rfl ?_
        obtain ⟨v41, e41, h⟩ := o_b h
        refine v_mA e41 (mg hG rfl) (by decide) rfl dX12_mergedAt_41 rfl ?_
        refine v_goto (q := 46) dX12_mergedAt_42 (by decide) ?_
        exact l_X12_mergedAt_46 hG h
def rm_X12_settle : Room := { frames := 1, cells := 0, slots := 0, locals := 21 }
set_option maxRecDepth 100000 in
set_option maxHeartbeats 4000000 in
theorem k_X12_settle {G : Gm} (hG : gF G = mFl) {σ : Hp} {o : Int64} {μ' : Mu} {μ : Mu} {a1 : Int32} (h : f_X12_settle μ a1 = some μ') : Cv G yX12_settle cX12_settle 2 none rm_X12_settle [.ref (gM G 200), .int a1] (σ, μ, o) (σ, μ', o) 0 0 := by
  refine v_entV [(0, .ref (gM G 200)), (1, .int a1)] (by decide +kernel) (Nat.le_of_ble_eq_true rfl) rfl ?_
  unfold f_X12_settle at h
  refine v_aload_n 0 rfl dX12_settle_0 rfl ?_
  refine v_mR (j := 35) (mg hG rfl) (by decide) rfl qf_RX12_94 dX12_settle_1 rfl ?_
  refine v_iload_n 1 rfl dX12_settle_4 rfl ?_
  refine v_iconst (v := (0 : Int32)) (by decide) dX12_settle_5 rfl ?_
  obtain ⟨s6, e6, h⟩ := o_b h
  refine v_mQ e6 (mg hG rfl) (by decide) rfl dX12_settle_6 rfl ?_
  refine v_aload_n 0 rfl dX12_settle_7 rfl ?_
  refine v_mR (j := 36) (mg hG rfl) (by decide) rfl qf_RX12_97 dX12_settle_8 rfl ?_
  refine v_iload_n 1 rfl dX12_settle_11 rfl ?_
  refine v_aload_n 0 rfl dX12_settle_12 rfl ?_
  refine v_mR (j := 33) (mg hG rfl) (by decide) rfl qf_RX12_88 dX12_settle_13 rfl ?_
  refine v_iload_n 1 rfl dX12_settle_16 rfl ?_
  obtain ⟨v17, e17, h⟩ := o_b h
  refine v_mA e17 (mg hG rfl) (by decide) rfl dX12_settle_17 rfl ?_
  obtain ⟨s18, e18, h⟩ := o_b h
  refine v_mQ e18 (mg hG rfl) (by decide) rfl dX12_settle_18 rfl ?_
  refine v_aload_n 0 rfl dX12_settle_19 rfl ?_
  refine v_mR (j := 37) (mg hG rfl) (by decide) rfl qf_RX12_100 dX12_settle_20 rfl ?_
  refine v_iload_n 1 rfl dX12_settle_23 rfl ?_
  refine v_aload_n 0 rfl dX12_settle_24 rfl ?_
  refine v_mR (j := 34) (mg hG rfl) (by decide) rfl qf_RX12_91 dX12_settle_25 rfl ?_
  refine v_iload_n 1 rfl dX12_settle_28 rfl ?_
  obtain ⟨v29, e29, h⟩ := o_b h
  refine v_mA e29 (mg hG rfl) (by decide) rfl dX12_settle_29 rfl ?_
  obtain ⟨s30, e30, h⟩ := o_b h
  refine v_mQ e30 (mg hG rfl) (by decide) rfl dX12_settle_30 rfl ?_
  refine v_aload_n 0 rfl dX12_settle_31 rfl ?_
  refine v_iload_n 1 rfl dX12_settle_32 rfl ?_
  obtain ⟨v33, e33, h⟩ := o_b h
  refine v_Vv (as := [.int a1]) (st := []) (c' := 0) (k' := 0) (k_X12_forget hG e33) (rcv_m (mg hG rfl)) mk_X12_forget qi_X12_forget qe_X12_forget qm_RX12_280 (ck rfl) rfl dX12_settle_33 rfl rfl rfl ?_
  refine v_aload_n 0 rfl dX12_settle_36 rfl ?_
  refine v_mR (j := 41) (mg hG rfl) (by decide) rfl qf_RX12_112 dX12_settle_37 rfl ?_
  refine v_iload_n 1 rfl dX12_settle_40 rfl ?_
  refine v_iconst (v := (0 : Int32)) (by decide) dX12_settle_41 rfl ?_
  obtain ⟨s42, e42, h⟩ := o_b h
  refine v_mQ e42 (mg hG rfl) (by decide) rfl dX12_settle_42 rfl ?_
  obtain rfl := Option.some.inj h
  exact v_vret rfl (Nat.le_of_ble_eq_true rfl) (Nat.le_of_ble_eq_true rfl) dX12_settle_43
def rm_X12_merge : Room := { frames := 2, cells := 0, slots := 0, locals := 50 }
set_option maxRecDepth 100000 in
set_option maxHeartbeats 4000000 in
theorem l_X12_merge_409 {G : Gm} (hG : gF G = mFl) {σ : Hp} {o : Int64} {μ' : Mu} {rec364 : Mu → Int32 → Int32 → Int32 → Option Mu} (h364 : ∀ {μ : Mu} {x1 : Int32} {x4 : Int32} {x7 : Int32} , rec364 μ x1 x4 x7 = some μ' → V G yX12_merge cX12_merge 8 none rm_X12_merge (zV G (σ, μ', o) 0 0) (σ, μ, o) 0 0 364 [(0, .ref (gM G 200)), (1, .int x1), (4, .int x4), (7, .int x7)] []) {μ : Mu} {x1 : Int32} {x4 : Int32} {x7 : Int32} (h : f_X12_merge_409 rec364 μ x1 x4 x7 = some μ') : V G yX12_merge cX12_merge 8 none rm_X12_merge (zV G (σ, μ', o) 0 0) (σ, μ, o) 0 0 409 [(0, .ref (gM G 200)), (1, .int x1), (4, .int x4), (7, .int x7)] [] := by
  unfold f_X12_merge_409 at h
  refine v_iinc (v := (x7 + 1)) [(7, .int (x7 + 1)), (0, .ref (gM G 200)), (1, .int x1), (4, .int x4)] 3 rfl rfl dX12_merge_409 rfl (by decide) rfl ?_
  refine v_goto (q := 364) dX12_merge_412 (by decide) ?_
  refine v_sub [1, 2, 3, 0] rfl ?_
  exact h364 h
set_option maxRecDepth 100000 in
set_option maxHeartbeats 4000000 in
theorem l_X12_merge_364 {G : Gm} (hG : gF G = mFl) {σ : Hp} {o : Int64} {μ' : Mu} : ∀ (n : Nat) {μ : Mu} {x1 : Int32} {x4 : Int32} {x7 : Int32} , f_X12_merge_364 n μ x1 x4 x7 = some μ' → V G yX12_merge cX12_merge 8 none rm_X12_merge (zV G (σ, μ', o) 0 0) (σ, μ, o) 0 0 364 [(0, .ref (gM G 200)), (1, .int x1), (4, .int x4), (7, .int x7)] [] := by
  intro n
  induction n with
  | zero => intro _ _ _ _ h; cases h
  | succ n ih =>
    intro μ x1 x4 x7 h
    replace h : b_X12_merge_364 (f_X12_merge_364 n) μ x1 x4 x7 = some μ' := h
    unfold b_X12_merge_364 at h
    refine v_iload 3 rfl dX12_merge_364 rfl ?_
    refine v_aload_n 0 rfl dX12_merge_366 rfl ?_
    refine v_mI (j := 1) (mg hG rfl) (by decide) rfl qf_RX12_223 dX12_merge_367 rfl ?_
    refine v_icmp_ge 415 dX12_merge_370 (by decide) rfl (fun c370 => ?_) (fun c370 => ?_)
    · have h := o_p c370 h
      obtain rfl := Option.some.inj h
      exact v_vret rfl (Nat.le_of_ble_eq_true rfl) (Nat.le_of_ble_eq_true rfl) dX12_merge_415
    · have h := o_n c370 h
      refine v_iload 3 rfl dX12_merge_373 rfl ?_
      refine v_iload_n 1 rfl dX12_merge_375 rfl ?_
      refine v_icmp_eq 409 dX12_merge_376 (by decide) rfl (fun c376 => ?_) (fun c376 => ?_)
      · have h := o_p c376 h
        exact l_X12_merge_409 hG (fun h => ih h) h
      · have h := o_n c376 h
        refine v_aload_n 0 rfl dX12_merge_379 rfl ?_
        refine v_aload_n 0 rfl dX12_merge_380 rfl ?_
        refine v_bipush (v := (10 : Int32)) (by decide) dX12_merge_381 rfl ?_
        refine v_iload_n 1 rfl dX12_merge_383 rfl ?_
        refine v_iload 3 rfl dX12_merge_384 rfl ?_
        refine v_aload_n 0 rfl dX12_merge_386 rfl ?_
        refine v_mR (j := 33) (mg hG rfl) (by decide) rfl qf_RX12_88 dX12_merge_387 rfl ?_
        refine v_iload_n 1 rfl dX12_merge_390 rfl ?_
        obtain ⟨v391, e391, h⟩ := o_b h
        refine v_mA e391 (mg hG rfl) (by decide) rfl dX12_merge_391 rfl ?_
        refine v_aload_n 0 rfl dX12_merge_392 rfl ?_
        refine v_mR (j := 34) (mg hG rfl) (by decide) rfl qf_RX12_91 dX12_merge_393 rfl ?_
        refine v_iload_n 1 rfl dX12_merge_396 rfl ?_
        obtain ⟨v397, e397, h⟩ := o_b h
        refine v_mA e397 (mg hG rfl) (by decide) rfl dX12_merge_397 rfl ?_
        refine v_iconst (v := (0 : Int32)) (by decide) dX12_merge_398 rfl ?_
        refine v_iconst (v := (0 : Int32)) (by decide) dX12_merge_399 rfl ?_
        obtain ⟨v400, e400, h⟩ := o_b h
        refine v_Vi (as := [.int (10 : Int32), .int x1, .int x7, .int v391, .int v397, .int (0 : Int32), .int (0 : Int32)]) (st := [.ref (gM G 200)]) (c' := 0) (k' := 0) (k_X12_send hG e400) (rcv_m (mg hG rfl)) mk_X12_send qi_X12_send qe_X12_send qm_RX12_241 (ck rfl) rfl dX12_merge_400 rfl rfl rfl ?_
        refine v_iload_n 1 rfl dX12_merge_403 rfl ?_
        refine v_iload 2 rfl dX12_merge_404 rfl ?_
        obtain ⟨v406, e406, h⟩ := o_b h
        refine v_Vv (as := [.int v400.1, .int x1, .int x4]) (st := []) (c' := 0) (k' := 0) (k_X12_load hG e406) (rcv_m (mg hG rfl)) mk_X12_load qi_X12_load qe_X12_load qm_RX12_277 (ck rfl) rfl dX12_merge_406 rfl rfl rfl ?_
        exact l_X12_merge_409 hG (fun h => ih h) h
set_option maxRecDepth 100000 in
set_option maxHeartbeats 4000000 in
theorem l_X12_merge_355 {G : Gm} (hG : gF G = mFl) {σ : Hp} {o : Int64} {μ' : Mu} {μ : Mu} {x1 : Int32} {x4 : Int32} {y1 : Int32} {y2 : Int32} (h : f_X12_merge_355 μ x1 x4 y1 y2 = some μ') : V G yX12_merge cX12_merge 8 none rm_X12_merge (zV G (σ, μ', o) 0 0) (σ, μ, o) 0 0 355 [(0, .ref (gM G 200)), (1, .int x1), (4, .int x4)] [.int y2, .int y1, .ref (gM G 39)] := by
  unfold f_X12_merge_355 at h
  obtain ⟨s355, e355, h⟩ := o_b h
  refine v_mQ e355 (mg hG rfl) (by decide) rfl dX12_merge_355 rfl ?_
  refine v_aload_n 0 rfl dX12_merge_356 rfl ?_
  refine v_iload_n 1 rfl dX12_merge_357 rfl ?_
  obtain ⟨v358, e358, h⟩ := o_b h
  refine v_Vv (as := [.int x1]) (st := []) (c' := 0) (k' := 0) (k_X12_settle hG e358) (rcv_m (mg hG rfl)) mk_X12_settle qi_X12_settle qe_X12_settle qm_RX12_309 (ck rfl) rfl dX12_merge_358 rfl rfl rfl ?_
  refine v_iconst (v := (0 : Int32)) (by decide) dX12_merge_361 rfl ?_
  refine v_istore [(7, .int (0 : Int32)), (0, .ref (gM G 200)), (1, .int x1), (4, .int x4)] dX12_merge_362 rfl (by decide) rfl ?_
  refine v_sub [1, 2, 3, 0] rfl ?_
  exact l_X12_merge_364 hG _ h
set_option maxRecDepth 100000 in
set_option maxHeartbeats 4000000 in
theorem l_X12_merge_325 {G : Gm} (hG : gF G = mFl) {σ : Hp} {o : Int64} {μ' : Mu} {μ : Mu} {x1 : Int32} {x3 : Int32} {x4 : Int32} {x6 : Int32} (h : f_X12_merge_325 μ x1 x3 x4 x6 = some μ') : V G yX12_merge cX12_merge 8 none rm_X12_merge (zV G (σ, μ', o) 0 0) (σ, μ, o) 0 0 325 [(0, .ref (gM G 200)), (1, .int x1), (3, .int x3), (4, .int x4), (6, .int x6)] [] := by
  unfold f_X12_merge_325 at h
  refine v_aload_n 0 rfl dX12_merge_325 rfl ?_
  refine v_mR (j := 38) (mg hG rfl) (by decide) rfl qf_RX12_103 dX12_merge_326 rfl ?_
  refine v_iload_n 1 rfl dX12_merge_329 rfl ?_
  refine v_iload 3 rfl dX12_merge_330 rfl ?_
  obtain ⟨s332, e332, h⟩ := o_b h
  refine v_mQ e332 (mg hG rfl) (by decide) rfl dX12_merge_332 rfl ?_
  refine v_aload_n 0 rfl dX12_merge_333 rfl ?_
  refine v_mR (j := 39) (mg hG rfl) (by decide) rfl qf_RX12_106 dX12_merge_334 rfl ?_
  refine v_iload_n 1 rfl dX12_merge_337 rfl ?_
  refine v_iload_n 2 rfl dX12_merge_338 rfl ?_
  refine v_aload_n 0 rfl dX12_merge_339 rfl ?_
  refine v_mR (j := 34) (mg hG rfl) (by decide) rfl qf_RX12_91 dX12_merge_340 rfl ?_
  refine v_iload_n 1 rfl dX12_merge_343 rfl ?_
  obtain ⟨v344, e344, h⟩ := o_b h
  refine v_mA e344 (mg hG rfl) (by decide) rfl dX12_merge_344 rfl ?_
  refine v_icmp_ne 353 dX12_merge_345 (by decide) rfl (fun c345 => ?_) (fun c345 => ?_)
  · have h := o_n c345 h
    refine v_iload 3 rfl dX12_merge_353 rfl ?_
    refine v_sub [0, 1, 3] rfl ?_
    exact l_X12_merge_355 hG h
  · have h := o_p c345 h
    refine v_iload 4 rfl dX12_merge_348 rfl ?_
    refine v_goto (q := 355) dX12_merge_350 (by decide) ?_
    refine v_sub [0, 1, 3] rfl ?_
    exact l_X12_merge_355 hG h
set_option maxRecDepth 100000 in
set_option maxHeartbeats 4000000 in
theorem l_X12_merge_293 {G : Gm} (hG : gF G = mFl) {σ : Hp} {o : Int64} {μ' : Mu} : ∀ (n : Nat) {μ : Mu} {x1 : Int32} {x3 : Int32} {x4 : Int32} {x6 : Int32} {x7 : Int32} , f_X12_merge_293 n μ x1 x3 x4 x6 x7 = some μ' → V G yX12_merge cX12_merge 8 none rm_X12_merge (zV G (σ, μ', o) 0 0) (σ, μ, o) 0 0 293 [(0, .ref (gM G 200)), (1, .int x1), (3, .int x3), (4, .int x4), (6, .int x6), (7, .int x7)] [] := by
  intro n
  induction n with
  | zero => intro _ _ _ _ _ _ h; cases h
  | succ n ih =>
    intro μ x1 x3 x4 x6 x7 h
    replace h : b_X12_merge_293 (f_X12_merge_293 n) μ x1 x3 x4 x6 x7 = some μ' := h
    unfold b_X12_merge_293 at h
    refine v_iload 5 rfl dX12_merge_293 rfl ?_
    refine v_iload 3 rfl dX12_merge_295 rfl ?_
    refine v_icmp_ge 325 dX12_merge_297 (by decide) rfl (fun c297 => ?_) (fun c297 => ?_)
    · have h := o_p c297 h
      refine v_sub [0, 1, 2, 3, 4] rfl ?_
      exact l_X12_merge_325 hG h
    · have h := o_n c297 h
      refine v_aload_n 0 rfl dX12_merge_300 rfl ?_
      refine v_mR (j := 42) (mg hG rfl) (by decide) rfl qf_RX12_115 dX12_merge_301 rfl ?_
      refine v_bipush (v := (100 : Int32)) (by decide) dX12_merge_304 rfl ?_
      refine v_iload_n 1 rfl dX12_merge_306 rfl ?_
      refine v_imul dX12_merge_307 rfl ?_
      refine v_iload 5 rfl dX12_merge_308 rfl ?_
      refine v_iadd dX12_merge_310 rfl ?_
      refine v_aload_n 0 rfl dX12_merge_311 rfl ?_
      refine v_mR (j := 55) (mg hG rfl) (by decide) rfl qf_RX12_154 dX12_merge_312 rfl ?_
      refine v_iload 5 rfl dX12_merge_315 rfl ?_
      obtain ⟨v317, e317, h⟩ := o_b h
      refine v_mA e317 (mg hG rfl) (by decide) rfl dX12_merge_317 rfl ?_
      obtain ⟨s318, e318, h⟩ := o_b h
      refine v_mQ e318 (mg hG rfl) (by decide) rfl dX12_merge_318 rfl ?_
      refine v_iinc (v := (x7 + 1)) [(7, .int (x7 + 1)), (0, .ref (gM G 200)), (1, .int x1), (3, .int x3), (4, .int x4), (6, .int x6)] 5 rfl rfl dX12_merge_319 rfl (by decide) rfl ?_
      refine v_goto (q := 293) dX12_merge_322 (by decide) ?_
      refine v_sub [1, 2, 3, 4, 5, 0] rfl ?_
      exact ih h
set_option maxRecDepth 100000 in
set_option maxHeartbeats 4000000 in
theorem l_X12_merge_290 {G : Gm} (hG : gF G = mFl) {σ : Hp} {o : Int64} {μ' : Mu} {μ : Mu} {x1 : Int32} {x3 : Int32} {x4 : Int32} {x6 : Int32} (h : f_X12_merge_290 μ x1 x3 x4 x6 = some μ') : V G yX12_merge cX12_merge 8 none rm_X12_merge (zV G (σ, μ', o) 0 0) (σ, μ, o) 0 0 290 [(0, .ref (gM G 200)), (1, .int x1), (3, .int x3), (4, .int x4), (6, .int x6)] [] := by
  unfold f_X12_merge_290 at h
  refine v_iconst (v := (0 : Int32)) (by decide) dX12_merge_290 rfl ?_
  refine v_istore [(7, .int (0 : Int32)), (0, .ref (gM G 200)), (1, .int x1), (3, .int x3), (4, .int x4), (6, .int x6)] dX12_merge_291 rfl (by decide) rfl ?_
  refine v_sub [1, 2, 3, 4, 5, 0] rfl ?_
  exact l_X12_merge_293 hG _ h
set_option maxRecDepth 100000 in
set_option maxHeartbeats 4000000 in
theorem l_X12_merge_261 {G : Gm} (hG : gF G = mFl) {σ : Hp} {o : Int64} {μ' : Mu} : ∀ (n : Nat) {μ : Mu} {x1 : Int32} {x2 : Int32} {x3 : Int32} {x4 : Int32} {x6 : Int32} {x7 : Int32} , f_X12_merge_261 n μ x1 x2 x3 x4 x6 x7 = some μ' → V G yX12_merge cX12_merge 8 none rm_X12_merge (zV G (σ, μ', o) 0 0) (σ, μ, o) 0 0 261 [(0, .ref (gM G 200)), (1, .int x1), (2, .int x2), (3, .int x3), (4, .int x4), (6, .int x6), (7, .int x7)] [] := by
  intro n
  induction n with
  | zero => intro _ _ _ _ _ _ _ h; cases h
  | succ n ih =>
    intro μ x1 x2 x3 x4 x6 x7 h
    replace h : b_X12_merge_261 (f_X12_merge_261 n) μ x1 x2 x3 x4 x6 x7 = some μ' := h
    unfold b_X12_merge_261 at h
    refine v_iload 6 rfl dX12_merge_261 rfl ?_
    refine v_iload 4 rfl dX12_merge_263 rfl ?_
    refine v_icmp_ge 290 dX12_merge_265 (by decide) rfl (fun c265 => ?_) (fun c265 => ?_)
    · have h := o_p c265 h
      refine v_sub [0, 1, 3, 4, 5] rfl ?_
      exact l_X12_merge_290 hG h
    · have h := o_n c265 h
      refine v_aload_n 0 rfl dX12_merge_268 rfl ?_
      refine v_mR (j := 55) (mg hG rfl) (by decide) rfl qf_RX12_154 dX12_merge_269 rfl ?_
      refine v_iload 6 rfl dX12_merge_272 rfl ?_
      refine v_aload_n 0 rfl dX12_merge_274 rfl ?_
      refine v_iload_n 1 rfl dX12_merge_275 rfl ?_
      refine v_iload 6 rfl dX12_merge_276 rfl ?_
      refine v_iload_n 2 rfl dX12_merge_278 rfl ?_
      refine v_iload_n 3 rfl dX12_merge_279 rfl ?_
      obtain ⟨v280, e280, h⟩ := o_b h
      refine v_Vi (as := [.int x1, .int x7, .int x2, .int x3]) (st := [.int x7, .ref (gM G 55)]) (c' := 0) (k' := 0) (k_X12_mergedAt hG e280) (rcv_m (mg hG rfl)) mk_X12_mergedAt qi_X12_mergedAt qe_X12_mergedAt qm_RX12_305 (ck rfl) rfl dX12_merge_280 rfl rfl rfl ?_
      obtain ⟨s283, e283, h⟩ := o_b h
      refine v_mQ e283 (mg hG rfl) (by decide) rfl dX12_merge_283 rfl ?_
      refine v_iinc (v := (x7 + 1)) [(7, .int (x7 + 1)), (0, .ref (gM G 200)), (1, .int x1), (2, .int x2), (3, .int x3), (4, .int x4), (6, .int x6)] 6 rfl rfl dX12_merge_284 rfl (by decide) rfl ?_
      refine v_goto (q := 261) dX12_merge_287 (by decide) ?_
      refine v_sub [1, 2, 3, 4, 5, 6, 0] rfl ?_
      exact ih h
set_option maxRecDepth 100000 in
set_option maxHeartbeats 4000000 in
theorem l_X12_merge_256 {G : Gm} (hG : gF G = mFl) {σ : Hp} {o : Int64} {μ' : Mu} {μ : Mu} {x1 : Int32} {x2 : Int32} {x3 : Int32} {x4 : Int32} {y0 : Int32} (h : f_X12_merge_256 μ x1 x2 x3 x4 y0 = some μ') : V G yX12_merge cX12_merge 8 none rm_X12_merge (zV G (σ, μ', o) 0 0) (σ, μ, o) 0 0 256 [(0, .ref (gM G 200)), (1, .int x1), (2, .int x2), (3, .int x3), (4, .int x4)] [.int y0] := by
  unfold f_X12_merge_256 at h
  refine v_istore [(6, .int y0), (0, .ref (gM G 200)), (1, .int x1), (2, .int x2), (3, .int x3), (4, .int x4)] dX12_merge_256 rfl (by decide) rfl ?_
  refine v_iconst (v := (0 : Int32)) (by decide) dX12_merge_258 rfl ?_
  refine v_istore [(7, .int (0 : Int32)), (6, .int y0), (0, .ref (gM G 200)), (1, .int x1), (2, .int x2), (3, .int x3), (4, .int x4)] dX12_merge_259 rfl (by decide) rfl ?_
  refine v_sub [2, 3, 4, 5, 6, 1, 0] rfl ?_
  exact l_X12_merge_261 hG _ h
set_option maxRecDepth 100000 in
set_option maxHeartbeats 4000000 in
theorem l_X12_merge_229 {G : Gm} (hG : gF G = mFl) {σ : Hp} {o : Int64} {μ' : Mu} {μ : Mu} {x1 : Int32} {x2 : Int32} {x3 : Int32} {x4 : Int32} {x5 : Int32} (h : f_X12_merge_229 μ x1 x2 x3 x4 x5 = some μ') : V G yX12_merge cX12_merge 8 none rm_X12_merge (zV G (σ, μ', o) 0 0) (σ, μ, o) 0 0 229 [(0, .ref (gM G 200)), (1, .int x1), (2, .int x2), (3, .int x3), (4, .int x4), (5, .int x5)] [] := by
  unfold f_X12_merge_229 at h
  refine v_iload 5 rfl dX12_merge_229 rfl ?_
  refine v_iload_n 1 rfl dX12_merge_231 rfl ?_
  refine v_icmp_ne 244 dX12_merge_232 (by decide) rfl (fun c232 => ?_) (fun c232 => ?_)
  · have h := o_n c232 h
    refine v_aload_n 0 rfl dX12_merge_244 rfl ?_
    refine v_mR (j := 52) (mg hG rfl) (by decide) rfl qf_RX12_145 dX12_merge_245 rfl ?_
    refine v_bipush (v := (7 : Int32)) (by decide) dX12_merge_248 rfl ?_
    refine v_iload_n 1 rfl dX12_merge_250 rfl ?_
    refine v_imul dX12_merge_251 rfl ?_
    refine v_iload 5 rfl dX12_merge_252 rfl ?_
    refine v_iadd dX12_merge_254 rfl ?_
    obtain ⟨v255, e255, h⟩ := o_b h
    refine v_mA e255 (mg hG rfl) (by decide) rfl dX12_merge_255 rfl ?_
    refine v_sub [0, 1, 2, 3, 4] rfl ?_
    exact l_X12_merge_256 hG h
  · have h := o_p c232 h
    refine v_aload_n 0 rfl dX12_merge_235 rfl ?_
    refine v_mR (j := 39) (mg hG rfl) (by decide) rfl qf_RX12_106 dX12_merge_236 rfl ?_
    refine v_iload_n 1 rfl dX12_merge_239 rfl ?_
    obtain ⟨v240, e240, h⟩ := o_b h
    refine v_mA e240 (mg hG rfl) (by decide) rfl dX12_merge_240 rfl ?_
    refine v_goto (q := 256) dX12_merge_241 (by decide) ?_
    refine v_sub [0, 1, 2, 3, 4] rfl ?_
    exact l_X12_merge_256 hG h
set_option maxRecDepth 100000 in
set_option maxHeartbeats 4000000 in
theorem l_X12_merge_206 {G : Gm} (hG : gF G = mFl) {σ : Hp} {o : Int64} {μ' : Mu} {μ : Mu} {x1 : Int32} {x2 : Int32} {x3 : Int32} {x4 : Int32} {x5 : Int32} (h : f_X12_merge_206 μ x1 x2 x3 x4 x5 = some μ') : V G yX12_merge cX12_merge 8 none rm_X12_merge (zV G (σ, μ', o) 0 0) (σ, μ, o) 0 0 206 [(0, .ref (gM G 200)), (1, .int x1), (2, .int x2), (3, .int x3), (4, .int x4), (5, .int x5)] [] := by
  unfold f_X12_merge_206 at h
  refine v_aload_n 0 rfl dX12_merge_206 rfl ?_
  refine v_mR (j := 36) (mg hG rfl) (by decide) rfl qf_RX12_97 dX12_merge_207 rfl ?_
  refine v_iload_n 1 rfl dX12_merge_210 rfl ?_
  obtain ⟨v211, e211, h⟩ := o_b h
  refine v_mA e211 (mg hG rfl) (by decide) rfl dX12_merge_211 rfl ?_
  refine v_iload_n 2 rfl dX12_merge_212 rfl ?_
  refine v_icmp_ne 229 dX12_merge_213 (by decide) rfl (fun c213 => ?_) (fun c213 => ?_)
  · have h := o_n c213 h
    exact l_X12_merge_229 hG h
  · have h := o_p c213 h
    refine v_aload_n 0 rfl dX12_merge_216 rfl ?_
    refine v_mR (j := 37) (mg hG rfl) (by decide) rfl qf_RX12_100 dX12_merge_217 rfl ?_
    refine v_iload_n 1 rfl dX12_merge_220 rfl ?_
    obtain ⟨v221, e221, h⟩ := o_b h
    refine v_mA e221 (mg hG rfl) (by decide) rfl dX12_merge_221 rfl ?_
    refine v_iload_n 3 rfl dX12_merge_222 rfl ?_
    refine v_icmp_ne 229 dX12_merge_223 (by decide) rfl (fun c223 => ?_) (fun c223 => ?_)
    · have h := o_n c223 h
      exact l_X12_merge_229 hG h
    · have h := o_p c223 h
      refine v_iload_n 1 rfl dX12_merge_226 rfl ?_
      refine v_istore [(5, .int x1), (0, .ref (gM G 200)), (1, .int x1), (2, .int x2), (3, .int x3), (4, .int x4)] dX12_merge_227 rfl (by decide) rfl ?_
      refine v_sub [1, 2, 3, 4, 5, 0] rfl ?_
      exact l_X12_merge_229 hG h
set_option maxRecDepth 100000 in
set_option maxHeartbeats 4000000 in
theorem l_X12_merge_200 {G : Gm} (hG : gF G = mFl) {σ : Hp} {o : Int64} {μ' : Mu} {rec118 : Mu → Int32 → Int32 → Int32 → Int32 → Int32 → Int32 → Option Mu} (h118 : ∀ {μ : Mu} {x1 : Int32} {x2 : Int32} {x3 : Int32} {x4 : Int32} {x5 : Int32} {x6 : Int32} , rec118 μ x1 x2 x3 x4 x5 x6 = some μ' → V G yX12_merge cX12_merge 8 none rm_X12_merge (zV G (σ, μ', o) 0 0) (σ, μ, o) 0 0 118 [(0, .ref (gM G 200)), (1, .int x1), (2, .int x2), (3, .int x3), (4, .int x4), (5, .int x5), (6, .int x6)] []) {μ : Mu} {x1 : Int32} {x2 : Int32} {x3 : Int32} {x4 : Int32} {x5 : Int32} {x6 : Int32} (h : f_X12_merge_200 rec118 μ x1 x2 x3 x4 x5 x6 = some μ') : V G yX12_merge cX12_merge 8 none rm_X12_merge (zV G (σ, μ', o) 0 0) (σ, μ, o) 0 0 200 [(0, .ref (gM G 200)), (1, .int x1), (2, .int x2), (3, .int x3), (4, .int x4), (5, .int x5), (6, .int x6)] [] := by
  unfold f_X12_merge_200 at h
  refine v_iinc (v := (x6 + 1)) [(6, .int (x6 + 1)), (0, .ref (gM G 200)), (1, .int x1), (2, .int x2), (3, .int x3), (4, .int x4), (5, .int x5)] 6 rfl rfl dX12_merge_200 rfl (by decide) rfl ?_
  refine v_goto (q := 118) dX12_merge_203 (by decide) ?_
  refine v_sub [1, 2, 3, 4, 5, 6, 0] rfl ?_
  exact h118 h
set_option maxRecDepth 100000 in
set_option maxHeartbeats 4000000 in
theorem l_X12_merge_188 {G : Gm} (hG : gF G = mFl) {σ : Hp} {o : Int64} {μ' : Mu} {rec118 : Mu → Int32 → Int32 → Int32 → Int32 → Int32 → Int32 → Option Mu} (h118 : ∀ {μ : Mu} {x1 : Int32} {x2 : Int32} {x3 : Int32} {x4 : Int32} {x5 : Int32} {x6 : Int32} , rec118 μ x1 x2 x3 x4 x5 x6 = some μ' → V G yX12_merge cX12_merge 8 none rm_X12_merge (zV G (σ, μ', o) 0 0) (σ, μ, o) 0 0 118 [(0, .ref (gM G 200)), (1, .int x1), (2, .int x2), (3, .int x3), (4, .int x4), (5, .int x5), (6, .int x6)] []) {μ : Mu} {x1 : Int32} {x2 : Int32} {x3 : Int32} {x5 : Int32} {x6 : Int32} {y0 : Int32} (h : f_X12_merge_188 rec118 μ x1 x2 x3 x5 x6 y0 = some μ') : V G yX12_merge cX12_merge 8 none rm_X12_merge (zV G (σ, μ', o) 0 0) (σ, μ, o) 0 0 188 [(0, .ref (gM G 200)), (1, .int x1), (2, .int x2), (3, .int x3), (5, .int x5), (6, .int x6)] [.int y0] := by
  unfold f_X12_merge_188 at h
  refine v_istore [(4, .int y0), (0, .ref (gM G 200)), (1, .int x1), (2, .int x2), (3, .int x3), (5, .int x5), (6, .int x6)] dX12_merge_188 rfl (by decide) rfl ?_
  refine v_iload 5 rfl dX12_merge_190 rfl ?_
  refine v_iconst (v := (-1 : Int32)) (by decide) dX12_merge_192 rfl ?_
  refine v_icmp_ne 200 dX12_merge_193 (by decide) rfl (fun c193 => ?_) (fun c193 => ?_)
  · have h := o_n c193 h
    refine v_sub [1, 2, 3, 4, 0, 5, 6] rfl ?_
    exact l_X12_merge_200 hG h118 h
  · have h := o_p c193 h
    refine v_iload 6 rfl dX12_merge_196 rfl ?_
    refine v_istore [(5, .int x6), (4, .int y0), (0, .ref (gM G 200)), (1, .int x1), (2, .int x2), (3, .int x3), (6, .int x6)] dX12_merge_198 rfl (by decide) rfl ?_
    refine v_sub [2, 3, 4, 5, 1, 0, 6] rfl ?_
    exact l_X12_merge_200 hG h118 h
set_option maxRecDepth 100000 in
set_option maxHeartbeats 4000000 in
theorem l_X12_merge_118 {G : Gm} (hG : gF G = mFl) {σ : Hp} {o : Int64} {μ' : Mu} : ∀ (n : Nat) {μ : Mu} {x1 : Int32} {x2 : Int32} {x3 : Int32} {x4 : Int32} {x5 : Int32} {x6 : Int32} , f_X12_merge_118 n μ x1 x2 x3 x4 x5 x6 = some μ' → V G yX12_merge cX12_merge 8 none rm_X12_merge (zV G (σ, μ', o) 0 0) (σ, μ, o) 0 0 118 [(0, .ref (gM G 200)), (1, .int x1), (2, .int x2), (3, .int x3), (4, .int x4), (5, .int x5), (6, .int x6)] [] := by
  intro n
  induction n with
  | zero => intro _ _ _ _ _ _ _ h; cases h
  | succ n ih =>
    intro μ x1 x2 x3 x4 x5 x6 h
    replace h : b_X12_merge_118 (f_X12_merge_118 n) μ x1 x2 x3 x4 x5 x6 = some μ' := h
    unfold b_X12_merge_118 at h
    refine v_iload 6 rfl dX12_merge_118 rfl ?_
    refine v_aload_n 0 rfl dX12_merge_120 rfl ?_
    refine v_mI (j := 1) (mg hG rfl) (by decide) rfl qf_RX12_223 dX12_merge_121 rfl ?_
    refine v_icmp_ge 206 dX12_merge_124 (by decide) rfl (fun c124 => ?_) (fun c124 => ?_)
    · have h := o_p c124 h
      refine v_sub [0, 1, 2, 3, 4, 5] rfl ?_
      exact l_X12_merge_206 hG h
    · have h := o_n c124 h
      refine v_aload_n 0 rfl dX12_merge_127 rfl ?_
      refine v_iload_n 1 rfl dX12_merge_128 rfl ?_
      refine v_iload 6 rfl dX12_merge_129 rfl ?_
      obtain ⟨v131, e131, h⟩ := o_b h
      refine v_Vi (as := [.int x1, .int x6]) (st := []) (c' := 0) (k' := 0) (k_X12_isIn hG e131) (rcv_m (mg hG rfl)) mk_X12_isIn qi_X12_isIn qe_X12_isIn qm_RX12_287 (ck rfl) rfl dX12_merge_131 rfl rfl rfl ?_
      refine v_if_eq 200 dX12_merge_134 (by decide) rfl (fun c134 => ?_) (fun c134 => ?_)
      · have h := o_p c134 h
        exact l_X12_merge_200 hG (fun h => ih h) h
      · have h := o_n c134 h
        refine v_aload_n 0 rfl dX12_merge_137 rfl ?_
        refine v_iload_n 1 rfl dX12_merge_138 rfl ?_
        refine v_iload 6 rfl dX12_merge_139 rfl ?_
        refine v_iconst (v := (0 : Int32)) (by decide) dX12_merge_141 rfl ?_
        obtain ⟨v142, e142, h⟩ := o_b h
        refine v_Vi (as := [.int x1, .int x6, .int (0 : Int32)]) (st := []) (c' := 0) (k' := 0) (k_X12_normalOf hG e142) (rcv_m (mg hG rfl)) mk_X12_normalOf qi_X12_normalOf qe_X12_normalOf qm_RX12_291 (ck rfl) rfl dX12_merge_142 rfl rfl rfl ?_
        refine v_iload_n 2 rfl dX12_merge_145 rfl ?_
        refine v_icmp_ne 200 dX12_merge_146 (by decide) rfl (fun c146 => ?_) (fun c146 => ?_)
        · have h := o_n c146 h
          exact l_X12_merge_200 hG (fun h => ih h) h
        · have h := o_p c146 h
          refine v_aload_n 0 rfl dX12_merge_149 rfl ?_
          refine v_iload_n 1 rfl dX12_merge_150 rfl ?_
          refine v_iload 6 rfl dX12_merge_151 rfl ?_
          refine v_iconst (v := (1 : Int32)) (by decide) dX12_merge_153 rfl ?_
          obtain ⟨v154, e154, h⟩ := o_b h
          refine v_Vi (as := [.int x1, .int x6, .int (1 : Int32)]) (st := []) (c' := 0) (k' := 0) (k_X12_normalOf hG e154) (rcv_m (mg hG rfl)) mk_X12_normalOf qi_X12_normalOf qe_X12_normalOf qm_RX12_291 (ck rfl) rfl dX12_merge_154 rfl rfl rfl ?_
          refine v_iload_n 3 rfl dX12_merge_157 rfl ?_
          refine v_icmp_eq 164 dX12_merge_158 (by decide) rfl (fun c158 => ?_) (fun c158 => ?_)
          · have h := o_p c158 h
            refine v_aload_n 0 rfl dX12_merge_164 rfl ?_
            refine v_iload_n 1 rfl dX12_merge_165 rfl ?_
            refine v_iload 6 rfl dX12_merge_166 rfl ?_
            obtain ⟨v168, e168, h⟩ := o_b h
            refine v_Vi (as := [.int x1, .int x6]) (st := []) (c' := 0) (k' := 0) (k_X12_lengthOf hG e168) (rcv_m (mg hG rfl)) mk_X12_lengthOf qi_X12_lengthOf qe_X12_lengthOf qm_RX12_295 (ck rfl) rfl dX12_merge_168 rfl rfl rfl ?_
            refine v_iload 4 rfl dX12_merge_171 rfl ?_
            refine v_icmp_le 186 dX12_merge_173 (by decide) rfl (fun c173 => ?_) (fun c173 => ?_)
            · have h := o_p c173 h
              refine v_iload 4 rfl dX12_merge_186 rfl ?_
              refine v_sub [0, 1, 2, 3, 5, 6] rfl ?_
              exact l_X12_merge_188 hG (fun h => ih h) h
            · have h := o_n c173 h
              refine v_aload_n 0 rfl dX12_merge_176 rfl ?_
              refine v_iload_n 1 rfl dX12_merge_177 rfl ?_
              refine v_iload 6 rfl dX12_merge_178 rfl ?_
              obtain ⟨v180, e180, h⟩ := o_b h
              refine v_Vi (as := [.int x1, .int x6]) (st := []) (c' := 0) (k' := 0) (k_X12_lengthOf hG e180) (rcv_m (mg hG rfl)) mk_X12_lengthOf qi_X12_lengthOf qe_X12_lengthOf qm_RX12_295 (ck rfl) rfl dX12_merge_180 rfl rfl rfl ?_
              refine v_goto (q := 188) dX12_merge_183 (by decide) ?_
              refine v_sub [0, 1, 2, 3, 5, 6] rfl ?_
              exact l_X12_merge_188 hG (fun h => ih h) h
          · have h := o_n c158 h
            refine v_goto (q := 200) dX12_merge_161 (by decide) ?_
            exact l_X12_merge_200 hG (fun h => ih h) h
set_option maxRecDepth 100000 in
set_option maxHeartbeats 4000000 in
theorem l_X12_merge_109 {G : Gm} (hG : gF G = mFl) {σ : Hp} {o : Int64} {μ' : Mu} {μ : Mu} {x1 : Int32} {x2 : Int32} {x3 : Int32} (h : f_X12_merge_109 μ x1 x2 x3 = some μ') : V G yX12_merge cX12_merge 8 none rm_X12_merge (zV G (σ, μ', o) 0 0) (σ, μ, o) 0 0 109 [(0, .ref (gM G 200)), (1, .int x1), (2, .int x2), (3, .int x3)] [] := by
  unfold f_X12_merge_109 at h
  refine v_iconst (v := (0 : Int32)) (by decide) dX12_merge_109 rfl ?_
  refine v_istore [(4, .int (0 : Int32)), (0, .ref (gM G 200)), (1, .int x1), (2, .int x2), (3, .int x3)] dX12_merge_110 rfl (by decide) rfl ?_
  refine v_iconst (v := (-1 : Int32)) (by decide) dX12_merge_112 rfl ?_
  refine v_istore [(5, .int (-1 : Int32)), (4, .int (0 : Int32)), (0, .ref (gM G 200)), (1, .int x1), (2, .int x2), (3, .int x3)] dX12_merge_113 rfl (by decide) rfl ?_
  refine v_iconst (v := (0 : Int32)) (by decide) dX12_merge_115 rfl ?_
  refine v_istore [(6, .int (0 : Int32)), (5, .int (-1 : Int32)), (4, .int (0 : Int32)), (0, .ref (gM G 200)), (1, .int x1), (2, .int x2), (3, .int x3)] dX12_merge_116 rfl (by decide) rfl ?_
  refine v_sub [3, 4, 5, 6, 2, 1, 0] rfl ?_
  exact l_X12_merge_118 hG _ h
set_option maxRecDepth 100000 in
set_option maxHeartbeats 4000000 in
theorem l_X12_merge_103 {G : Gm} (hG : gF G = mFl) {σ : Hp} {o : Int64} {μ' : Mu} {rec34 : Mu → Int32 → Int32 → Int32 → Int32 → Option Mu} (h34 : ∀ {μ : Mu} {x1 : Int32} {x2 : Int32} {x3 : Int32} {x4 : Int32} , rec34 μ x1 x2 x3 x4 = some μ' → V G yX12_merge cX12_merge 8 none rm_X12_merge (zV G (σ, μ', o) 0 0) (σ, μ, o) 0 0 34 [(0, .ref (gM G 200)), (1, .int x1), (2, .int x2), (3, .int x3), (4, .int x4)] []) {μ : Mu} {x1 : Int32} {x2 : Int32} {x3 : Int32} {x4 : Int32} (h : f_X12_merge_103 rec34 μ x1 x2 x3 x4 = some μ') : V G yX12_merge cX12_merge 8 none rm_X12_merge (zV G (σ, μ', o) 0 0) (σ, μ, o) 0 0 103 [(0, .ref (gM G 200)), (1, .int x1), (2, .int x2), (3, .int x3), (4, .int x4)] [] := by
  unfold f_X12_merge_103 at h
  refine v_iinc (v := (x4 + 1)) [(4, .int (x4 + 1)), (0, .ref (gM G 200)), (1, .int x1), (2, .int x2), (3, .int x3)] 4 rfl rfl dX12_merge_103 rfl (by decide) rfl ?_
  refine v_goto (q := 34) dX12_merge_106 (by decide) ?_
  refine v_sub [1, 2, 3, 4, 0] rfl ?_
  exact h34 h
set_option maxRecDepth 100000 in
set_option maxHeartbeats 4000000 in
theorem l_X12_merge_97 {G : Gm} (hG : gF G = mFl) {σ : Hp} {o : Int64} {μ' : Mu} {rec34 : Mu → Int32 → Int32 → Int32 → Int32 → Option Mu} (h34 : ∀ {μ : Mu} {x1 : Int32} {x2 : Int32} {x3 : Int32} {x4 : Int32} , rec34 μ x1 x2 x3 x4 = some μ' → V G yX12_merge cX12_merge 8 none rm_X12_merge (zV G (σ, μ', o) 0 0) (σ, μ, o) 0 0 34 [(0, .ref (gM G 200)), (1, .int x1), (2, .int x2), (3, .int x3), (4, .int x4)] []) {μ : Mu} {x1 : Int32} {x4 : Int32} {x5 : Int32} {x6 : Int32} (h : f_X12_merge_97 rec34 μ x1 x4 x5 x6 = some μ') : V G yX12_merge cX12_merge 8 none rm_X12_merge (zV G (σ, μ', o) 0 0) (σ, μ, o) 0 0 97 [(0, .ref (gM G 200)), (1, .int x1), (4, .int x4), (5, .int x5), (6, .int x6)] [] := by
  unfold f_X12_merge_97 at h
  refine v_iload 3 rfl dX12_merge_97 rfl ?_
  refine v_istore_n [(2, .int x5), (0, .ref (gM G 200)), (1, .int x1), (4, .int x4), (5, .int x5), (6, .int x6)] dX12_merge_99 rfl (by decide) rfl ?_
  refine v_iload 5 rfl dX12_merge_100 rfl ?_
  refine v_istore_n [(3, .int x6), (2, .int x5), (0, .ref (gM G 200)), (1, .int x1), (4, .int x4), (5, .int x5), (6, .int x6)] dX12_merge_102 rfl (by decide) rfl ?_
  refine v_sub [2, 3, 1, 0, 4] rfl ?_
  exact l_X12_merge_103 hG h34 h
set_option maxRecDepth 100000 in
set_option maxHeartbeats 4000000 in
theorem l_X12_merge_34 {G : Gm} (hG : gF G = mFl) {σ : Hp} {o : Int64} {μ' : Mu} : ∀ (n : Nat) {μ : Mu} {x1 : Int32} {x2 : Int32} {x3 : Int32} {x4 : Int32} , f_X12_merge_34 n μ x1 x2 x3 x4 = some μ' → V G yX12_merge cX12_merge 8 none rm_X12_merge (zV G (σ, μ', o) 0 0) (σ, μ, o) 0 0 34 [(0, .ref (gM G 200)), (1, .int x1), (2, .int x2), (3, .int x3), (4, .int x4)] [] := by
  intro n
  induction n with
  | zero => intro _ _ _ _ _ h; cases h
  | succ n ih =>
    intro μ x1 x2 x3 x4 h
    replace h : b_X12_merge_34 (f_X12_merge_34 n) μ x1 x2 x3 x4 = some μ' := h
    unfold b_X12_merge_34 at h
    refine v_iload 4 rfl dX12_merge_34 rfl ?_
    refine v_aload_n 0 rfl dX12_merge_36 rfl ?_
    refine v_mI (j := 1) (mg hG rfl) (by decide) rfl qf_RX12_223 dX12_merge_37 rfl ?_
    refine v_icmp_ge 109 dX12_merge_40 (by decide) rfl (fun c40 => ?_) (fun c40 => ?_)
    · have h := o_p c40 h
      refine v_sub [0, 1, 2, 3] rfl ?_
      exact l_X12_merge_109 hG h
    · have h := o_n c40 h
      refine v_aload_n 0 rfl dX12_merge_43 rfl ?_
      refine v_iload_n 1 rfl dX12_merge_44 rfl ?_
      refine v_iload 4 rfl dX12_merge_45 rfl ?_
      obtain ⟨v47, e47, h⟩ := o_b h
      refine v_Vi (as := [.int x1, .int x4]) (st := []) (c' := 0) (k' := 0) (k_X12_isIn hG e47) (rcv_m (mg hG rfl)) mk_X12_isIn qi_X12_isIn qe_X12_isIn qm_RX12_287 (ck rfl) rfl dX12_merge_47 rfl rfl rfl ?_
      refine v_if_ne 56 dX12_merge_50 (by decide) rfl (fun c50 => ?_) (fun c50 => ?_)
      · have h := o_n c50 h
        refine v_aload_n 0 rfl dX12_merge_56 rfl ?_
        refine v_iload_n 1 rfl dX12_merge_57 rfl ?_
        refine v_iload 4 rfl dX12_merge_58 rfl ?_
        refine v_iconst (v := (0 : Int32)) (by decide) dX12_merge_60 rfl ?_
        obtain ⟨v61, e61, h⟩ := o_b h
        refine v_Vi (as := [.int x1, .int x4, .int (0 : Int32)]) (st := []) (c' := 0) (k' := 0) (k_X12_normalOf hG e61) (rcv_m (mg hG rfl)) mk_X12_normalOf qi_X12_normalOf qe_X12_normalOf qm_RX12_291 (ck rfl) rfl dX12_merge_61 rfl rfl rfl ?_
        refine v_istore [(5, .int v61), (0, .ref (gM G 200)), (1, .int x1), (2, .int x2), (3, .int x3), (4, .int x4)] dX12_merge_64 rfl (by decide) rfl ?_
        refine v_aload_n 1 rfl dX12_merge_66 rfl ?_
        refine v_iload_n 2 rfl dX12_merge_67 rfl ?_
        refine v_iload 5 rfl dX12_merge_68 rfl ?_
        refine v_iconst (v := (1 : Int32)) (by decide) dX12_merge_70 rfl ?_
        obtain ⟨v71, e71, h⟩ := o_b h
        refine v_Vi (as := [.int x1, .int x4, .int (1 : Int32)]) (st := []) (c' := 0) (k' := 0) (k_X12_normalOf hG e71) (rcv_m (mg hG rfl)) mk_X12_normalOf qi_X12_normalOf qe_X12_normalOf qm_RX12_291 (ck rfl) rfl dX12_merge_71 rfl rfl rfl ?_
        refine v_istore [(6, .int v71), (5, .int v61), (0, .ref (gM G 200)), (1, .int x1), (2, .int x2), (3, .int x3), (4, .int x4)] dX12_merge_74 rfl (by decide) rfl ?_
        refine v_iload 0 rfl dX12_merge_76 rfl ?_
        refine v_iload_n 5 rfl dX12_merge_78 rfl ?_
        refine v_icmp_lt 103 dX12_merge_79 (by decide) rfl (fun c79 => ?_) (fun c79 => ?_)
        · have h := o_p c79 h
          refine v_sub [2, 3, 4, 5, 6] rfl ?_
          exact l_X12_merge_103 hG (fun h => ih h) h
        · have h := o_n c79 h
          refine v_iload 0 rfl dX12_merge_82 rfl ?_
          refine v_iload_n 5 rfl dX12_merge_84 rfl ?_
          refine v_icmp_ne 97 dX12_merge_85 (by decide) rfl (fun c85 => ?_) (fun c85 => ?_)
          · have h := o_n c85 h
            refine v_sub [2, 3, 6, 1, 0] rfl ?_
            exact l_X12_merge_97 hG (fun h => ih h) h
          · have h := o_p c85 h
            refine v_iload 1 rfl dX12_merge_88 rfl ?_
            refine v_iload_n 4 rfl dX12_merge_90 rfl ?_
            refine v_icmp_gt 97 dX12_merge_91 (by decide) rfl (fun c91 => ?_) (fun c91 => ?_)
            · have h := o_p c91 h
              refine v_sub [2, 3, 6, 1, 0] rfl ?_
              exact l_X12_merge_97 hG (fun h => ih h) h
            · have h := o_n c91 h
              refine v_goto (q := 103) dX12_merge_94 (by decide) ?_
              refine v_sub [2, 3, 4, 5, 6] rfl ?_
              exact l_X12_merge_103 hG (fun h => ih h) h
      · have h := o_p c50 h
        refine v_goto (q := 103) dX12_merge_53 (by decide) ?_
        exact l_X12_merge_103 hG (fun h => ih h) h
set_option maxRecDepth 100000 in
set_option maxHeartbeats 4000000 in
theorem k_X12_merge {G : Gm} (hG : gF G = mFl) {σ : Hp} {o : Int64} {μ' : Mu} {μ : Mu} {a1 : Int32} (h : f_X12_merge μ a1 = some μ') : Cv G yX12_merge cX12_merge 8 none rm_X12_merge [.ref (gM G 200), .int a1] (σ, μ, o) (σ, μ', o) 0 0 := by
  refine v_entV [(0, .ref (gM G 200)), (1, .int a1)] (by decide +kernel) (Nat.le_of_ble_eq_true rfl) rfl ?_
  unfold f_X12_merge at h
  refine v_aload_n 0 rfl dX12_merge_0 rfl ?_
  refine v_mR (j := 49) (mg hG rfl) (by decide) rfl qf_RX12_136 dX12_merge_1 rfl ?_
  refine v_iload_n 1 rfl dX12_merge_4 rfl ?_
  obtain ⟨v5, e5, h⟩ := o_b h
  refine v_mA e5 (mg hG rfl) (by decide) rfl dX12_merge_5 rfl ?_
  obtain ⟨v6, e6, h⟩ := o_b h
  refine v_Si (as := [.int v5]) (st := []) (c' := 0) (k' := 0) (k_X12_ones e6) mk_X12_ones qs_X12_ones qm_RX12_302 (ck rfl) rfl dX12_merge_6 rfl rfl rfl ?_
  refine v_aload_n 0 rfl dX12_merge_9 rfl ?_
  refine v_mI (j := 2) (mg hG rfl) (by decide) rfl qf_RX12_226 dX12_merge_10 rfl ?_
  refine v_icmp_ge 17 dX12_merge_13 (by decide) rfl (fun c13 => ?_) (fun c13 => ?_)
  · have h := o_p c13 h
    refine v_aload_n 0 rfl dX12_merge_17 rfl ?_
    refine v_mR (j := 36) (mg hG rfl) (by decide) rfl qf_RX12_97 dX12_merge_18 rfl ?_
    refine v_iload_n 1 rfl dX12_merge_21 rfl ?_
    obtain ⟨v22, e22, h⟩ := o_b h
    refine v_mA e22 (mg hG rfl) (by decide) rfl dX12_merge_22 rfl ?_
    refine v_istore_n [(2, .int v22), (0, .ref (gM G 200)), (1, .int a1)] dX12_merge_23 rfl (by decide) rfl ?_
    refine v_aload_n 1 rfl dX12_merge_24 rfl ?_
    refine v_mR (j := 37) (mg hG rfl) (by decide) rfl qf_RX12_100 dX12_merge_25 rfl ?_
    refine v_iload_n 2 rfl dX12_merge_28 rfl ?_
    obtain ⟨v29, e29, h⟩ := o_b h
    refine v_mA e29 (mg hG rfl) (by decide) rfl dX12_merge_29 rfl ?_
    refine v_istore_n [(3, .int v29), (2, .int v22), (0, .ref (gM G 200)), (1, .int a1)] dX12_merge_30 rfl (by decide) rfl ?_
    refine v_iconst (v := (0 : Int32)) (by decide) dX12_merge_31 rfl ?_
    refine v_istore [(4, .int (0 : Int32)), (3, .int v29), (2, .int v22), (0, .ref (gM G 200)), (1, .int a1)] dX12_merge_32 rfl (by decide) rfl ?_
    refine v_sub [3, 4, 2, 1, 0] rfl ?_
    exact l_X12_merge_34 hG _ h
  · have h := o_n c13 h
    obtain rfl := Option.some.inj h
    exact v_vret rfl (Nat.le_of_ble_eq_true rfl) (Nat.le_of_ble_eq_true rfl) dX12_merge_16
def rm_X12_isBehind : Room := { frames := 0, cells := 0, slots := 0, locals := 0 }
set_option maxRecDepth 100000 in
set_option maxHeartbeats 4000000 in
theorem l_X12_isBehind_10 {G : Gm} {w : Wt} {r : Int32} {x0 : Int32} {x1 : Int32} {x2 : Int32} {x3 : Int32} (h : f_X12_isBehind_10 x0 x1 x2 x3 = some r) : V G yX12_isBehind cX12_isBehind 4 (some .boolean) rm_X12_isBehind (zI G r w 0 0) w 0 0 10 [(0, .int x0), (1, .int x1), (2, .int x2), (3, .int x3)] [] := by
  unfold f_X12_isBehind_10 at h
  refine v_iload_n 0 rfl dX12_isBehind_10 rfl ?_
  refine v_iload_n 2 rfl dX12_isBehind_11 rfl ?_
  refine v_icmp_gt 24 dX12_isBehind_12 (by decide) rfl (fun c12 => ?_) (fun c12 => ?_)
  · have h := o_p c12 h
    refine v_iconst (v := (0 : Int32)) (by decide) dX12_isBehind_24 rfl ?_
    obtain rfl := Option.some.inj h
    exact v_iret rfl rfl (Nat.le_of_ble_eq_true rfl) (Nat.le_of_ble_eq_true rfl) dX12_isBehind_25
  · have h := o_n c12 h
    refine v_iload_n 1 rfl dX12_isBehind_15 rfl ?_
    refine v_iload_n 3 rfl dX12_isBehind_16 rfl ?_
    refine v_icmp_gt 24 dX12_isBehind_17 (by decide) rfl (fun c17 => ?_) (fun c17 => ?_)
    · have h := o_p c17 h
      refine v_iconst (v := (0 : Int32)) (by decide) dX12_isBehind_24 rfl ?_
      obtain rfl := Option.some.inj h
      exact v_iret rfl rfl (Nat.le_of_ble_eq_true rfl) (Nat.le_of_ble_eq_true rfl) dX12_isBehind_25
    · have h := o_n c17 h
      refine v_iconst (v := (1 : Int32)) (by decide) dX12_isBehind_20 rfl ?_
      refine v_goto (q := 25) dX12_isBehind_21 (by decide) ?_
      obtain rfl := Option.some.inj h
      exact v_iret rfl rfl (Nat.le_of_ble_eq_true rfl) (Nat.le_of_ble_eq_true rfl) dX12_isBehind_25
set_option maxRecDepth 100000 in
set_option maxHeartbeats 4000000 in
theorem k_X12_isBehind {G : Gm} {w : Wt} {r : Int32} {a0 : Int32} {a1 : Int32} {a2 : Int32} {a3 : Int32} (h : f_X12_isBehind a0 a1 a2 a3 = some r) : Ci G yX12_isBehind cX12_isBehind 4 (some .boolean) rm_X12_isBehind [.int a0, .int a1, .int a2, .int a3] w r w 0 0 := by
  refine v_entI [(0, .int a0), (1, .int a1), (2, .int a2), (3, .int a3)] (by decide +kernel) (Nat.le_of_ble_eq_true rfl) rfl ?_
  unfold f_X12_isBehind at h
  refine v_iload_n 0 rfl dX12_isBehind_0 rfl ?_
  refine v_iload_n 2 rfl dX12_isBehind_1 rfl ?_
  refine v_icmp_lt 10 dX12_isBehind_2 (by decide) rfl (fun c2 => ?_) (fun c2 => ?_)
  · have h := o_p c2 h
    exact l_X12_isBehind_10 h
  · have h := o_n c2 h
    refine v_iload_n 1 rfl dX12_isBehind_5 rfl ?_
    refine v_iload_n 3 rfl dX12_isBehind_6 rfl ?_
    refine v_icmp_ge 24 dX12_isBehind_7 (by decide) rfl (fun c7 => ?_) (fun c7 => ?_)
    · have h := o_p c7 h
      refine v_iconst (v := (0 : Int32)) (by decide) dX12_isBehind_24 rfl ?_
      obtain rfl := Option.some.inj h
      exact v_iret rfl rfl (Nat.le_of_ble_eq_true rfl) (Nat.le_of_ble_eq_true rfl) dX12_isBehind_25
    · have h := o_n c7 h
      exact l_X12_isBehind_10 h
def rm_X12_stamped : Room := { frames := 3, cells := 0, slots := 0, locals := 75 }
set_option maxRecDepth 100000 in
set_option maxHeartbeats 4000000 in
theorem k_X12_stamped {G : Gm} (hG : gF G = mFl) {σ : Hp} {o : Int64} {μ' : Mu} {μ : Mu} {a1 : Int32} {a2 : Int32} {a3 : Int32} {a4 : Int32} (h : f_X12_stamped μ a1 a2 a3 a4 = some μ') : Cv G yX12_stamped cX12_stamped 5 none rm_X12_stamped [.ref (gM G 200), .int a1, .int a2, .int a3, .int a4] (σ, μ, o) (σ, μ', o) 0 0 := by
  refine v_entV [(0, .ref (gM G 200)), (1, .int a1), (2, .int a2), (3, .int a3), (4, .int a4)] (by decide +kernel) (Nat.le_of_ble_eq_true rfl) rfl ?_
  unfold f_X12_stamped at h
  refine v_iload_n 2 rfl dX12_stamped_0 rfl ?_
  refine v_aload_n 0 rfl dX12_stamped_1 rfl ?_
  refine v_mR (j := 34) (mg hG rfl) (by decide) rfl qf_RX12_91 dX12_stamped_2 rfl ?_
  refine v_iload_n 1 rfl dX12_stamped_5 rfl ?_
  obtain ⟨v6, e6, h⟩ := o_b h
  refine v_mA e6 (mg hG rfl) (by decide) rfl dX12_stamped_6 rfl ?_
  refine v_icmp_le 23 dX12_stamped_7 (by decide) rfl (fun c7 => ?_) (fun c7 => ?_)
  · have h := o_p c7 h
    refine v_iload_n 2 rfl dX12_stamped_23 rfl ?_
    refine v_aload_n 0 rfl dX12_stamped_24 rfl ?_
    refine v_mR (j := 34) (mg hG rfl) (by decide) rfl qf_RX12_91 dX12_stamped_25 rfl ?_
    refine v_iload_n 1 rfl dX12_stamped_28 rfl ?_
    obtain ⟨v29, e29, h⟩ := o_b h
    refine v_mA e29 (mg hG rfl) (by decide) rfl dX12_stamped_29 rfl ?_
    refine v_icmp_ne 81 dX12_stamped_30 (by decide) rfl (fun c30 => ?_) (fun c30 => ?_)
    · have h := o_n c30 h
      obtain rfl := Option.some.inj h
      exact v_vret rfl (Nat.le_of_ble_eq_true rfl) (Nat.le_of_ble_eq_true rfl) dX12_stamped_81
    · have h := o_p c30 h
      refine v_aload_n 0 rfl dX12_stamped_33 rfl ?_
      refine v_mR (j := 35) (mg hG rfl) (by decide) rfl qf_RX12_94 dX12_stamped_34 rfl ?_
      refine v_iload_n 1 rfl dX12_stamped_37 rfl ?_
      obtain ⟨v38, e38, h⟩ := o_b h
      refine v_mA e38 (mg hG rfl) (by decide) rfl dX12_stamped_38 rfl ?_
      refine v_iconst (v := (2 : Int32)) (by decide) dX12_stamped_39 rfl ?_
      refine v_icmp_eq 81 dX12_stamped_40 (by decide) rfl (fun c40 => ?_) (fun c40 => ?_)
      · have h := o_p c40 h
        obtain rfl := Option.some.inj h
        exact v_vret rfl (Nat.le_of_ble_eq_true rfl) (Nat.le_of_ble_eq_true rfl) dX12_stamped_81
      · have h := o_n c40 h
        refine v_aload_n 0 rfl dX12_stamped_43 rfl ?_
        refine v_mR (j := 39) (mg hG rfl) (by decide) rfl qf_RX12_106 dX12_stamped_44 rfl ?_
        refine v_iload_n 1 rfl dX12_stamped_47 rfl ?_
        obtain ⟨v48, e48, h⟩ := o_b h
        refine v_mA e48 (mg hG rfl) (by decide) rfl dX12_stamped_48 rfl ?_
        refine v_iload_n 3 rfl dX12_stamped_49 rfl ?_
        refine v_iadd dX12_stamped_50 rfl ?_
        refine v_aload_n 0 rfl dX12_stamped_51 rfl ?_
        refine v_mR (j := 38) (mg hG rfl) (by decide) rfl qf_RX12_103 dX12_stamped_52 rfl ?_
        refine v_iload_n 1 rfl dX12_stamped_55 rfl ?_
        obtain ⟨v56, e56, h⟩ := o_b h
        refine v_mA e56 (mg hG rfl) (by decide) rfl dX12_stamped_56 rfl ?_
        refine v_icmp_le 81 dX12_stamped_57 (by decide) rfl (fun c57 => ?_) (fun c57 => ?_)
        · have h := o_p c57 h
          obtain rfl := Option.some.inj h
          exact v_vret rfl (Nat.le_of_ble_eq_true rfl) (Nat.le_of_ble_eq_true rfl) dX12_stamped_81
        · have h := o_n c57 h
          refine v_aload_n 0 rfl dX12_stamped_60 rfl ?_
          refine v_iload_n 1 rfl dX12_stamped_61 rfl ?_
          refine v_iload_n 3 rfl dX12_stamped_62 rfl ?_
          obtain ⟨v63, e63, h⟩ := o_b h
          refine v_Vi (as := [.int a1, .int a3]) (st := []) (c' := 0) (k' := 0) (k_X12_held hG e63) (rcv_m (mg hG rfl)) mk_X12_held qi_X12_held qe_X12_held qm_RX12_252 (ck rfl) rfl dX12_stamped_63 rfl rfl rfl ?_
          refine v_iconst (v := (-1 : Int32)) (by decide) dX12_stamped_66 rfl ?_
          refine v_icmp_ne 81 dX12_stamped_67 (by decide) rfl (fun c67 => ?_) (fun c67 => ?_)
          · have h := o_n c67 h
            obtain rfl := Option.some.inj h
            exact v_vret rfl (Nat.le_of_ble_eq_true rfl) (Nat.le_of_ble_eq_true rfl) dX12_stamped_81
          · have h := o_p c67 h
            refine v_aload_n 0 rfl dX12_stamped_70 rfl ?_
            refine v_mR (j := 43) (mg hG rfl) (by decide) rfl qf_RX12_118 dX12_stamped_71 rfl ?_
            refine v_iload_n 1 rfl dX12_stamped_74 rfl ?_
            obtain ⟨v75, e75, h⟩ := o_b h
            refine v_mA e75 (mg hG rfl) (by decide) rfl dX12_stamped_75 rfl ?_
            refine v_bipush (v := (8 : Int32)) (by decide) dX12_stamped_76 rfl ?_
            refine v_icmp_lt 82 dX12_stamped_78 (by decide) rfl (fun c78 => ?_) (fun c78 => ?_)
            · have h := o_p c78 h
              refine v_aload_n 0 rfl dX12_stamped_82 rfl ?_
              refine v_iload_n 1 rfl dX12_stamped_83 rfl ?_
              refine v_iload_n 3 rfl dX12_stamped_84 rfl ?_
              refine v_iload 4 rfl dX12_stamped_85 rfl ?_
              obtain ⟨v87, e87, h⟩ := o_b h
              refine v_Vv (as := [.int a1, .int a3, .int a4]) (st := []) (c' := 0) (k' := 0) (k_X12_hold hG e87) (rcv_m (mg hG rfl)) mk_X12_hold qi_X12_hold qe_X12_hold qm_RX12_315 (ck rfl) rfl dX12_stamped_87 rfl rfl rfl ?_
              refine v_aload_n 0 rfl dX12_stamped_90 rfl ?_
              refine v_mR (j := 35) (mg hG rfl) (by decide) rfl qf_RX12_94 dX12_stamped_91 rfl ?_
              refine v_iload_n 1 rfl dX12_stamped_94 rfl ?_
              obtain ⟨v95, e95, h⟩ := o_b h
              refine v_mA e95 (mg hG rfl) (by decide) rfl dX12_stamped_95 rfl ?_
              refine v_if_ne 104 dX12_stamped_96 (by decide) rfl (fun c96 => ?_) (fun c96 => ?_)
              · have h := o_n c96 h
                obtain rfl := Option.some.inj h
                exact v_vret rfl (Nat.le_of_ble_eq_true rfl) (Nat.le_of_ble_eq_true rfl) dX12_stamped_104
              · have h := o_p c96 h
                refine v_aload_n 0 rfl dX12_stamped_99 rfl ?_
                refine v_iload_n 1 rfl dX12_stamped_100 rfl ?_
                obtain ⟨v101, e101, h⟩ := o_b h
                refine v_Vv (as := [.int a1]) (st := []) (c' := 0) (k' := 0) (k_X12_take hG e101) (rcv_m (mg hG rfl)) mk_X12_take qi_X12_take qe_X12_take qm_RX12_318 (ck rfl) rfl dX12_stamped_101 rfl rfl rfl ?_
                obtain rfl := Option.some.inj h
                exact v_vret rfl (Nat.le_of_ble_eq_true rfl) (Nat.le_of_ble_eq_true rfl) dX12_stamped_104
            · have h := o_n c78 h
              obtain rfl := Option.some.inj h
              exact v_vret rfl (Nat.le_of_ble_eq_true rfl) (Nat.le_of_ble_eq_true rfl) dX12_stamped_81
  · have h := o_n c7 h
    refine v_aload_n 0 rfl dX12_stamped_10 rfl ?_
    refine v_iload_n 1 rfl dX12_stamped_11 rfl ?_
    refine v_aload_n 0 rfl dX12_stamped_12 rfl ?_
    refine v_mR (j := 33) (mg hG rfl) (by decide) rfl qf_RX12_88 dX12_stamped_13 rfl ?_
    refine v_iload_n 1 rfl dX12_stamped_16 rfl ?_
    obtain ⟨v17, e17, h⟩ := o_b h
    refine v_mA e17 (mg hG rfl) (by decide) rfl dX12_stamped_17 rfl ?_
    refine v_iload_n 2 rfl dX12_stamped_18 rfl ?_
    obtain ⟨v19, e19, h⟩ := o_b h
    refine v_Vv (as := [.int a1, .int v17, .int a2]) (st := []) (c' := 0) (k' := 0) (k_X12_turn hG e19) (rcv_m (mg hG rfl)) mk_X12_turn qi_X12_turn qe_X12_turn qm_RX12_312 (ck rfl) rfl dX12_stamped_19 rfl rfl rfl ?_
    obtain rfl := Option.some.inj h
    exact v_vret rfl (Nat.le_of_ble_eq_true rfl) (Nat.le_of_ble_eq_true rfl) dX12_stamped_22
def rm_X12_lookup : Room := { frames := 1, cells := 0, slots := 0, locals := 28 }
set_option maxRecDepth 100000 in
set_option maxHeartbeats 4000000 in
theorem l_X12_lookup_60 {G : Gm} (hG : gF G = mFl) {σ : Hp} {o : Int64} {μ' : Mu} {μ : Mu} {x1 : Int32} {x2 : Int32} {x3 : Int32} {x4 : Int32} {y1 : Int32} (h : f_X12_lookup_60 μ x1 x2 x3 x4 y1 = some μ') : V G yX12_lookup cX12_lookup 5 none rm_X12_lookup (zV G (σ, μ', o) 0 0) (σ, μ, o) 0 0 60 [(0, .ref (gM G 200)), (1, .int x1), (2, .int x2), (3, .int x3), (4, .int x4)] [.int y1, .ref (gM G 200)] := by
  unfold f_X12_lookup_60 at h
  refine v_iload_n 1 rfl dX12_lookup_60 rfl ?_
  refine v_iload_n 2 rfl dX12_lookup_61 rfl ?_
  refine v_aload_n 0 rfl dX12_lookup_62 rfl ?_
  refine v_mR (j := 33) (mg hG rfl) (by decide) rfl qf_RX12_88 dX12_lookup_63 rfl ?_
  refine v_iload_n 1 rfl dX12_lookup_66 rfl ?_
  obtain ⟨v67, e67, h⟩ := o_b h
  refine v_mA e67 (mg hG rfl) (by decide) rfl dX12_lookup_67 rfl ?_
  refine v_aload_n 0 rfl dX12_lookup_68 rfl ?_
  refine v_mR (j := 34) (mg hG rfl) (by decide) rfl qf_RX12_91 dX12_lookup_69 rfl ?_
  refine v_iload_n 1 rfl dX12_lookup_72 rfl ?_
  obtain ⟨v73, e73, h⟩ := o_b h
  refine v_mA e73 (mg hG rfl) (by decide) rfl dX12_lookup_73 rfl ?_
  refine v_iload_n 3 rfl dX12_lookup_74 rfl ?_
  refine v_iload 4 rfl dX12_lookup_75 rfl ?_
  obtain ⟨v77, e77, h⟩ := o_b h
  refine v_Vi (as := [.int y1, .int x1, .int x2, .int v67, .int v73, .int x3, .int x4]) (st := []) (c' := 0) (k' := 0) (k_X12_send hG e77) (rcv_m (mg hG rfl)) mk_X12_send qi_X12_send qe_X12_send qm_RX12_241 (ck rfl) rfl dX12_lookup_77 rfl rfl rfl ?_
  refine v_pop rfl dX12_lookup_80 rfl ?_
  obtain rfl := Option.some.inj h
  exact v_vret rfl (Nat.le_of_ble_eq_true rfl) (Nat.le_of_ble_eq_true rfl) dX12_lookup_81
set_option maxRecDepth 100000 in
set_option maxHeartbeats 4000000 in
theorem k_X12_lookup {G : Gm} (hG : gF G = mFl) {σ : Hp} {o : Int64} {μ' : Mu} {μ : Mu} {a1 : Int32} {a2 : Int32} {a3 : Int32} (h : f_X12_lookup μ a1 a2 a3 = some μ') : Cv G yX12_lookup cX12_lookup 5 none rm_X12_lookup [.ref (gM G 200), .int a1, .int a2, .int a3] (σ, μ, o) (σ, μ', o) 0 0 := by
  refine v_entV [(0, .ref (gM G 200)), (1, .int a1), (2, .int a2), (3, .int a3)] (by decide +kernel) (Nat.le_of_ble_eq_true rfl) rfl ?_
  unfold f_X12_lookup at h
  refine v_aload_n 0 rfl dX12_lookup_0 rfl ?_
  refine v_iload_n 1 rfl dX12_lookup_1 rfl ?_
  obtain ⟨v2, e2, h⟩ := o_b h
  refine v_Vi (as := [.int a1]) (st := []) (c' := 0) (k' := 0) (k_X12_leads hG e2) (rcv_m (mg hG rfl)) mk_X12_leads qi_X12_leads qe_X12_leads qm_RX12_248 (ck rfl) rfl dX12_lookup_2 rfl rfl rfl ?_
  refine v_if_eq 33 dX12_lookup_5 (by decide) rfl (fun c5 => ?_) (fun c5 => ?_)
  · have h := o_p c5 h
    obtain rfl := Option.some.inj h
    exact v_vret rfl (Nat.le_of_ble_eq_true rfl) (Nat.le_of_ble_eq_true rfl) dX12_lookup_33
  · have h := o_n c5 h
    refine v_aload_n 0 rfl dX12_lookup_8 rfl ?_
    refine v_mR (j := 35) (mg hG rfl) (by decide) rfl qf_RX12_94 dX12_lookup_9 rfl ?_
    refine v_iload_n 1 rfl dX12_lookup_12 rfl ?_
    obtain ⟨v13, e13, h⟩ := o_b h
    refine v_mA e13 (mg hG rfl) (by decide) rfl dX12_lookup_13 rfl ?_
    refine v_iconst (v := (2 : Int32)) (by decide) dX12_lookup_14 rfl ?_
    refine v_icmp_eq 33 dX12_lookup_15 (by decide) rfl (fun c15 => ?_) (fun c15 => ?_)
    · have h := o_p c15 h
      obtain rfl := Option.some.inj h
      exact v_vret rfl (Nat.le_of_ble_eq_true rfl) (Nat.le_of_ble_eq_true rfl) dX12_lookup_33
    · have h := o_n c15 h
      refine v_iload_n 3 rfl dX12_lookup_18 rfl ?_
      refine v_iconst (v := (1 : Int32)) (by decide) dX12_lookup_19 rfl ?_
      refine v_icmp_lt 33 dX12_lookup_20 (by decide) rfl (fun c20 => ?_) (fun c20 => ?_)
      · have h := o_p c20 h
        obtain rfl := Option.some.inj h
        exact v_vret rfl (Nat.le_of_ble_eq_true rfl) (Nat.le_of_ble_eq_true rfl) dX12_lookup_33
      · have h := o_n c20 h
        refine v_iload_n 3 rfl dX12_lookup_23 rfl ?_
        refine v_aload_n 0 rfl dX12_lookup_24 rfl ?_
        refine v_mR (j := 38) (mg hG rfl) (by decide) rfl qf_RX12_103 dX12_lookup_25 rfl ?_
        refine v_iload_n 1 rfl dX12_lookup_28 rfl ?_
        obtain ⟨v29, e29, h⟩ := o_b h
        refine v_mA e29 (mg hG rfl) (by decide) rfl dX12_lookup_29 rfl ?_
        refine v_icmp_le 34 dX12_lookup_30 (by decide) rfl (fun c30 => ?_) (fun c30 => ?_)
        · have h := o_p c30 h
          refine v_aload_n 0 rfl dX12_lookup_34 rfl ?_
          refine v_mR (j := 42) (mg hG rfl) (by decide) rfl qf_RX12_115 dX12_lookup_35 rfl ?_
          refine v_bipush (v := (100 : Int32)) (by decide) dX12_lookup_38 rfl ?_
          refine v_iload_n 1 rfl dX12_lookup_40 rfl ?_
          refine v_imul dX12_lookup_41 rfl ?_
          refine v_iload_n 3 rfl dX12_lookup_42 rfl ?_
          refine v_iadd dX12_lookup_43 rfl ?_
          refine v_iconst (v := (1 : Int32)) (by decide) dX12_lookup_44 rfl ?_
          refine v_isub dX12_lookup_45 rfl ?_
          obtain ⟨v46, e46, h⟩ := o_b h
          refine v_mA e46 (mg hG rfl) (by decide) rfl dX12_lookup_46 rfl ?_
          refine v_istore [(4, .int v46), (0, .ref (gM G 200)), (1, .int a1), (2, .int a2), (3, .int a3)] dX12_lookup_47 rfl (by decide) rfl ?_
          refine v_aload_n 1 rfl dX12_lookup_49 rfl ?_
          refine v_iload 0 rfl dX12_lookup_50 rfl ?_
          refine v_if_ne 59 dX12_lookup_52 (by decide) rfl (fun c52 => ?_) (fun c52 => ?_)
          · have h := o_n c52 h
            refine v_iconst (v := (2 : Int32)) (by decide) dX12_lookup_59 rfl ?_
            refine v_sub [1, 2, 3, 4, 0] rfl ?_
            exact l_X12_lookup_60 hG h
          · have h := o_p c52 h
            refine v_iconst (v := (3 : Int32)) (by decide) dX12_lookup_55 rfl ?_
            refine v_goto (q := 60) dX12_lookup_56 (by decide) ?_
            refine v_sub [1, 2, 3, 4, 0] rfl ?_
            exact l_X12_lookup_60 hG h
        · have h := o_n c30 h
          obtain rfl := Option.some.inj h
          exact v_vret rfl (Nat.le_of_ble_eq_true rfl) (Nat.le_of_ble_eq_true rfl) dX12_lookup_33
def rm_X12_gapCommit : Room := { frames := 3, cells := 0, slots := 0, locals := 75 }
set_option maxRecDepth 100000 in
set_option maxHeartbeats 4000000 in
theorem l_X12_gapCommit_113 {G : Gm} (hG : gF G = mFl) {σ : Hp} {o : Int64} {μ' : Mu} {μ : Mu} {x1 : Int32} {x3 : Int32} {x4 : Int32} (h : f_X12_gapCommit_113 μ x1 x3 x4 = some μ') : V G yX12_gapCommit cX12_gapCommit 5 none rm_X12_gapCommit (zV G (σ, μ', o) 0 0) (σ, μ, o) 0 0 113 [(0, .ref (gM G 200)), (1, .int x1), (3, .int x3), (4, .int x4)] [] := by
  unfold f_X12_gapCommit_113 at h
  refine v_aload_n 0 rfl dX12_gapCommit_113 rfl ?_
  refine v_iconst (v := (4 : Int32)) (by decide) dX12_gapCommit_114 rfl ?_
  refine v_iload_n 1 rfl dX12_gapCommit_115 rfl ?_
  refine v_aload_n 0 rfl dX12_gapCommit_116 rfl ?_
  refine v_iload_n 1 rfl dX12_gapCommit_117 rfl ?_
  obtain ⟨v118, e118, h⟩ := o_b h
  refine v_Vi (as := [.int x1]) (st := [.int x1, .int (4 : Int32), .ref (gM G 200)]) (c' := 0) (k' := 0) (k_X12_leader hG e118) (rcv_m (mg hG rfl)) mk_X12_leader qi_X12_leader qe_X12_leader qm_RX12_269 (ck rfl) rfl dX12_gapCommit_118 rfl rfl rfl ?_
  refine v_aload_n 0 rfl dX12_gapCommit_121 rfl ?_
  refine v_mR (j := 33) (mg hG rfl) (by decide) rfl qf_RX12_88 dX12_gapCommit_122 rfl ?_
  refine v_iload_n 1 rfl dX12_gapCommit_125 rfl ?_
  obtain ⟨v126, e126, h⟩ := o_b h
  refine v_mA e126 (mg hG rfl) (by decide) rfl dX12_gapCommit_126 rfl ?_
  refine v_aload_n 0 rfl dX12_gapCommit_127 rfl ?_
  refine v_mR (j := 34) (mg hG rfl) (by decide) rfl qf_RX12_91 dX12_gapCommit_128 rfl ?_
  refine v_iload_n 1 rfl dX12_gapCommit_131 rfl ?_
  obtain ⟨v132, e132, h⟩ := o_b h
  refine v_mA e132 (mg hG rfl) (by decide) rfl dX12_gapCommit_132 rfl ?_
  refine v_iload_n 2 rfl dX12_gapCommit_133 rfl ?_
  refine v_iconst (v := (0 : Int32)) (by decide) dX12_gapCommit_134 rfl ?_
  obtain ⟨v135, e135, h⟩ := o_b h
  refine v_Vi (as := [.int (4 : Int32), .int x1, .int v118, .int v126, .int v132, .int x3, .int (0 : Int32)]) (st := []) (c' := 0) (k' := 0) (k_X12_send hG e135) (rcv_m (mg hG rfl)) mk_X12_send qi_X12_send qe_X12_send qm_RX12_241 (ck rfl) rfl dX12_gapCommit_135 rfl rfl rfl ?_
  refine v_pop rfl dX12_gapCommit_138 rfl ?_
  refine v_iload 3 rfl dX12_gapCommit_139 rfl ?_
  refine v_if_eq 149 dX12_gapCommit_141 (by decide) rfl (fun c141 => ?_) (fun c141 => ?_)
  · have h := o_p c141 h
    obtain rfl := Option.some.inj h
    exact v_vret rfl (Nat.le_of_ble_eq_true rfl) (Nat.le_of_ble_eq_true rfl) dX12_gapCommit_149
  · have h := o_n c141 h
    refine v_aload_n 0 rfl dX12_gapCommit_144 rfl ?_
    refine v_iload_n 1 rfl dX12_gapCommit_145 rfl ?_
    obtain ⟨v146, e146, h⟩ := o_b h
    refine v_Vv (as := [.int x1]) (st := []) (c' := 0) (k' := 0) (k_X12_take hG e146) (rcv_m (mg hG rfl)) mk_X12_take qi_X12_take qe_X12_take qm_RX12_318 (ck rfl) rfl dX12_gapCommit_146 rfl rfl rfl ?_
    obtain rfl := Option.some.inj h
    exact v_vret rfl (Nat.le_of_ble_eq_true rfl) (Nat.le_of_ble_eq_true rfl) dX12_gapCommit_149
set_option maxRecDepth 100000 in
set_option maxHeartbeats 4000000 in
theorem l_X12_gapCommit_70 {G : Gm} (hG : gF G = mFl) {σ : Hp} {o : Int64} {μ' : Mu} {μ : Mu} {x1 : Int32} {x3 : Int32} {y0 : Int32} (h : f_X12_gapCommit_70 μ x1 x3 y0 = some μ') : V G yX12_gapCommit cX12_gapCommit 5 none rm_X12_gapCommit (zV G (σ, μ', o) 0 0) (σ, μ, o) 0 0 70 [(0, .ref (gM G 200)), (1, .int x1), (3, .int x3)] [.int y0] := by
  unfold f_X12_gapCommit_70 at h
  refine v_istore [(4, .int y0), (0, .ref (gM G 200)), (1, .int x1), (3, .int x3)] dX12_gapCommit_70 rfl (by decide) rfl ?_
  refine v_iload 0 rfl dX12_gapCommit_72 rfl ?_
  refine v_if_eq 99 dX12_gapCommit_74 (by decide) rfl (fun c74 => ?_) (fun c74 => ?_)
  · have h := o_p c74 h
    refine v_aload_n 1 rfl dX12_gapCommit_99 rfl ?_
    refine v_mR (j := 42) (mg hG rfl) (by decide) rfl qf_RX12_115 dX12_gapCommit_100 rfl ?_
    refine v_bipush (v := (100 : Int32)) (by decide) dX12_gapCommit_103 rfl ?_
    refine v_iload_n 2 rfl dX12_gapCommit_105 rfl ?_
    refine v_imul dX12_gapCommit_106 rfl ?_
    refine v_iload_n 3 rfl dX12_gapCommit_107 rfl ?_
    refine v_iadd dX12_gapCommit_108 rfl ?_
    refine v_iconst (v := (1 : Int32)) (by decide) dX12_gapCommit_109 rfl ?_
    refine v_isub dX12_gapCommit_110 rfl ?_
    refine v_iconst (v := (0 : Int32)) (by decide) dX12_gapCommit_111 rfl ?_
    obtain ⟨s112, e112, h⟩ := o_b h
    refine v_mQ e112 (mg hG rfl) (by decide) rfl dX12_gapCommit_112 rfl ?_
    refine v_sub [1, 2, 3, 0] rfl ?_
    exact l_X12_gapCommit_113 hG h
  · have h := o_n c74 h
    refine v_aload_n 1 rfl dX12_gapCommit_77 rfl ?_
    refine v_iload_n 2 rfl dX12_gapCommit_78 rfl ?_
    refine v_iconst (v := (0 : Int32)) (by decide) dX12_gapCommit_79 rfl ?_
    obtain ⟨v80, e80, h⟩ := o_b h
    refine v_Vv (as := [.int x1, .int (0 : Int32)]) (st := []) (c' := 0) (k' := 0) (k_X12_append hG e80) (rcv_m (mg hG rfl)) mk_X12_append qi_X12_append qe_X12_append qm_RX12_263 (ck rfl) rfl dX12_gapCommit_80 rfl rfl rfl ?_
    refine v_aload_n 1 rfl dX12_gapCommit_83 rfl ?_
    refine v_iload_n 2 rfl dX12_gapCommit_84 rfl ?_
    refine v_iload_n 3 rfl dX12_gapCommit_85 rfl ?_
    refine v_aload_n 1 rfl dX12_gapCommit_86 rfl ?_
    refine v_mR (j := 39) (mg hG rfl) (by decide) rfl qf_RX12_106 dX12_gapCommit_87 rfl ?_
    refine v_iload_n 2 rfl dX12_gapCommit_90 rfl ?_
    obtain ⟨v91, e91, h⟩ := o_b h
    refine v_mA e91 (mg hG rfl) (by decide) rfl dX12_gapCommit_91 rfl ?_
    refine v_isub dX12_gapCommit_92 rfl ?_
    obtain ⟨v93, e93, h⟩ := o_b h
    refine v_Vv (as := [.int x1, .int (x3 - v91)]) (st := []) (c' := 0) (k' := 0) (k_X12_unhold hG e93) (rcv_m (mg hG rfl)) mk_X12_unhold qi_X12_unhold qe_X12_unhold qm_RX12_260 (ck rfl) rfl dX12_gapCommit_93 rfl rfl rfl ?_
    refine v_goto (q := 113) dX12_gapCommit_96 (by decide) ?_
    refine v_sub [1, 2, 3, 0] rfl ?_
    exact l_X12_gapCommit_113 hG h
set_option maxRecDepth 100000 in
set_option maxHeartbeats 4000000 in
theorem l_X12_gapCommit_53 {G : Gm} (hG : gF G = mFl) {σ : Hp} {o : Int64} {μ' : Mu} {μ : Mu} {x1 : Int32} {x3 : Int32} (h : f_X12_gapCommit_53 μ x1 x3 = some μ') : V G yX12_gapCommit cX12_gapCommit 5 none rm_X12_gapCommit (zV G (σ, μ', o) 0 0) (σ, μ, o) 0 0 53 [(0, .ref (gM G 200)), (1, .int x1), (3, .int x3)] [] := by
  unfold f_X12_gapCommit_53 at h
  refine v_iload_n 2 rfl dX12_gapCommit_53 rfl ?_
  refine v_aload_n 0 rfl dX12_gapCommit_54 rfl ?_
  refine v_mR (j := 38) (mg hG rfl) (by decide) rfl qf_RX12_103 dX12_gapCommit_55 rfl ?_
  refine v_iload_n 1 rfl dX12_gapCommit_58 rfl ?_
  obtain ⟨v59, e59, h⟩ := o_b h
  refine v_mA e59 (mg hG rfl) (by decide) rfl dX12_gapCommit_59 rfl ?_
  refine v_iconst (v := (1 : Int32)) (by decide) dX12_gapCommit_60 rfl ?_
  refine v_iadd dX12_gapCommit_61 rfl ?_
  refine v_icmp_ne 69 dX12_gapCommit_62 (by decide) rfl (fun c62 => ?_) (fun c62 => ?_)
  · have h := o_n c62 h
    refine v_iconst (v := (0 : Int32)) (by decide) dX12_gapCommit_69 rfl ?_
    exact l_X12_gapCommit_70 hG h
  · have h := o_p c62 h
    refine v_iconst (v := (1 : Int32)) (by decide) dX12_gapCommit_65 rfl ?_
    refine v_goto (q := 70) dX12_gapCommit_66 (by decide) ?_
    exact l_X12_gapCommit_70 hG h
set_option maxRecDepth 100000 in
set_option maxHeartbeats 4000000 in
theorem k_X12_gapCommit {G : Gm} (hG : gF G = mFl) {σ : Hp} {o : Int64} {μ' : Mu} {μ : Mu} {a1 : Int32} {a2 : Int32} {a3 : Int32} (h : f_X12_gapCommit μ a1 a2 a3 = some μ') : Cv G yX12_gapCommit cX12_gapCommit 5 none rm_X12_gapCommit [.ref (gM G 200), .int a1, .int a2, .int a3] (σ, μ, o) (σ, μ', o) 0 0 := by
  refine v_entV [(0, .ref (gM G 200)), (1, .int a1), (2, .int a2), (3, .int a3)] (by decide +kernel) (Nat.le_of_ble_eq_true rfl) rfl ?_
  unfold f_X12_gapCommit at h
  refine v_aload_n 0 rfl dX12_gapCommit_0 rfl ?_
  refine v_iload_n 1 rfl dX12_gapCommit_1 rfl ?_
  obtain ⟨v2, e2, h⟩ := o_b h
  refine v_Vi (as := [.int a1]) (st := []) (c' := 0) (k' := 0) (k_X12_leads hG e2) (rcv_m (mg hG rfl)) mk_X12_leads qi_X12_leads qe_X12_leads qm_RX12_248 (ck rfl) rfl dX12_gapCommit_2 rfl rfl rfl ?_
  refine v_if_ne 52 dX12_gapCommit_5 (by decide) rfl (fun c5 => ?_) (fun c5 => ?_)
  · have h := o_n c5 h
    obtain rfl := Option.some.inj h
    exact v_vret rfl (Nat.le_of_ble_eq_true rfl) (Nat.le_of_ble_eq_true rfl) dX12_gapCommit_52
  · have h := o_p c5 h
    refine v_aload_n 0 rfl dX12_gapCommit_8 rfl ?_
    refine v_mR (j := 35) (mg hG rfl) (by decide) rfl qf_RX12_94 dX12_gapCommit_9 rfl ?_
    refine v_iload_n 1 rfl dX12_gapCommit_12 rfl ?_
    obtain ⟨v13, e13, h⟩ := o_b h
    refine v_mA e13 (mg hG rfl) (by decide) rfl dX12_gapCommit_13 rfl ?_
    refine v_if_ne 52 dX12_gapCommit_14 (by decide) rfl (fun c14 => ?_) (fun c14 => ?_)
    · have h := o_n c14 h
      obtain rfl := Option.some.inj h
      exact v_vret rfl (Nat.le_of_ble_eq_true rfl) (Nat.le_of_ble_eq_true rfl) dX12_gapCommit_52
    · have h := o_p c14 h
      refine v_iload_n 3 rfl dX12_gapCommit_17 rfl ?_
      refine v_aload_n 0 rfl dX12_gapCommit_18 rfl ?_
      refine v_mR (j := 38) (mg hG rfl) (by decide) rfl qf_RX12_103 dX12_gapCommit_19 rfl ?_
      refine v_iload_n 1 rfl dX12_gapCommit_22 rfl ?_
      obtain ⟨v23, e23, h⟩ := o_b h
      refine v_mA e23 (mg hG rfl) (by decide) rfl dX12_gapCommit_23 rfl ?_
      refine v_iconst (v := (1 : Int32)) (by decide) dX12_gapCommit_24 rfl ?_
      refine v_iadd dX12_gapCommit_25 rfl ?_
      refine v_icmp_gt 52 dX12_gapCommit_26 (by decide) rfl (fun c26 => ?_) (fun c26 => ?_)
      · have h := o_p c26 h
        obtain rfl := Option.some.inj h
        exact v_vret rfl (Nat.le_of_ble_eq_true rfl) (Nat.le_of_ble_eq_true rfl) dX12_gapCommit_52
      · have h := o_n c26 h
        refine v_iload_n 3 rfl dX12_gapCommit_29 rfl ?_
        refine v_aload_n 0 rfl dX12_gapCommit_30 rfl ?_
        refine v_mR (j := 38) (mg hG rfl) (by decide) rfl qf_RX12_103 dX12_gapCommit_31 rfl ?_
        refine v_iload_n 1 rfl dX12_gapCommit_34 rfl ?_
        obtain ⟨v35, e35, h⟩ := o_b h
        refine v_mA e35 (mg hG rfl) (by decide) rfl dX12_gapCommit_35 rfl ?_
        refine v_iconst (v := (1 : Int32)) (by decide) dX12_gapCommit_36 rfl ?_
        refine v_iadd dX12_gapCommit_37 rfl ?_
        refine v_icmp_ne 53 dX12_gapCommit_38 (by decide) rfl (fun c38 => ?_) (fun c38 => ?_)
        · have h := o_n c38 h
          refine v_sub [0, 1, 3] rfl ?_
          exact l_X12_gapCommit_53 hG h
        · have h := o_p c38 h
          refine v_aload_n 0 rfl dX12_gapCommit_41 rfl ?_
          refine v_mR (j := 38) (mg hG rfl) (by decide) rfl qf_RX12_103 dX12_gapCommit_42 rfl ?_
          refine v_iload_n 1 rfl dX12_gapCommit_45 rfl ?_
          obtain ⟨v46, e46, h⟩ := o_b h
          refine v_mA e46 (mg hG rfl) (by decide) rfl dX12_gapCommit_46 rfl ?_
          refine v_bipush (v := (100 : Int32)) (by decide) dX12_gapCommit_47 rfl ?_
          refine v_icmp_ne 53 dX12_gapCommit_49 (by decide) rfl (fun c49 => ?_) (fun c49 => ?_)
          · have h := o_n c49 h
            refine v_sub [0, 1, 3] rfl ?_
            exact l_X12_gapCommit_53 hG h
          · have h := o_p c49 h
            obtain rfl := Option.some.inj h
            exact v_vret rfl (Nat.le_of_ble_eq_true rfl) (Nat.le_of_ble_eq_true rfl) dX12_gapCommit_52
