def rm_X6_receivePoint : Room := { frames := 2, cells := 0, slots := 0, locals := 42 }
set_option maxRecDepth 100000 in
set_option maxHeartbeats 4000000 in
theorem k_X6_receivePoint {G : Gm} {μ : Mu} {o : Int64} {σ' : Hp} {σ : Hp} {a0 : Nat} {a1 : Int32} (h : f_X6_receivePoint σ a0 a1 = some σ') : Cv G yX6_receivePoint cX6_receivePoint 2 none rm_X6_receivePoint [.ref a0, .int a1] (σ, μ, o) (σ', μ, o) 0 0 := by
  refine v_entV [(0, .ref a0), (1, .int a1)] (by decide +kernel) (Nat.le_of_ble_eq_true rfl) rfl ?_
  unfold f_X6_receivePoint at h
  refine v_aload_n 0 rfl dX6_receivePoint_0 rfl ?_
  obtain ⟨⟨⟩, g1, h⟩ := o_b h
  obtain ⟨v1, e1, h⟩ := o_b h
  refine v_Vi (as := []) (st := []) (c' := 0) (k' := 0) (k_X6_leads e1) (rcv_c g1 (by decide) rfl) mk_X6_leads qi_X6_leads qe_X6_leads qm_RX6_77 (ck rfl) rfl dX6_receivePoint_1 rfl rfl rfl ?_
  refine v_if_ne 36 dX6_receivePoint_4 (by decide) rfl (fun c4 => ?_) (fun c4 => ?_)
  · have h := o_n c4 h
    obtain rfl := Option.some.inj h
    exact v_vret rfl (Nat.le_of_ble_eq_true rfl) (Nat.le_of_ble_eq_true rfl) dX6_receivePoint_36
  · have h := o_p c4 h
    refine v_aload_n 0 rfl dX6_receivePoint_7 rfl ?_
    obtain ⟨v8, e8, h⟩ := o_b h
    refine v_getI e8 (by decide) (by decide) rfl qf_RX6_25 dX6_receivePoint_8 rfl ?_
    refine v_iconst (v := (2 : Int32)) (by decide) dX6_receivePoint_11 rfl ?_
    refine v_icmp_eq 36 dX6_receivePoint_12 (by decide) rfl (fun c12 => ?_) (fun c12 => ?_)
    · have h := o_p c12 h
      obtain rfl := Option.some.inj h
      exact v_vret rfl (Nat.le_of_ble_eq_true rfl) (Nat.le_of_ble_eq_true rfl) dX6_receivePoint_36
    · have h := o_n c12 h
      refine v_iload_n 1 rfl dX6_receivePoint_15 rfl ?_
      refine v_aload_n 0 rfl dX6_receivePoint_16 rfl ?_
      obtain ⟨v17, e17, h⟩ := o_b h
      refine v_getI e17 (by decide) (by decide) rfl qf_RX6_84 dX6_receivePoint_17 rfl ?_
      refine v_icmp_le 36 dX6_receivePoint_20 (by decide) rfl (fun c20 => ?_) (fun c20 => ?_)
      · have h := o_p c20 h
        obtain rfl := Option.some.inj h
        exact v_vret rfl (Nat.le_of_ble_eq_true rfl) (Nat.le_of_ble_eq_true rfl) dX6_receivePoint_36
      · have h := o_n c20 h
        refine v_aload_n 0 rfl dX6_receivePoint_23 rfl ?_
        obtain ⟨v24, e24, h⟩ := o_b h
        refine v_getI e24 (by decide) (by decide) rfl qf_RX6_97 dX6_receivePoint_24 rfl ?_
        refine v_iload_n 1 rfl dX6_receivePoint_27 rfl ?_
        refine v_icmp_lt 36 dX6_receivePoint_28 (by decide) rfl (fun c28 => ?_) (fun c28 => ?_)
        · have h := o_p c28 h
          obtain rfl := Option.some.inj h
          exact v_vret rfl (Nat.le_of_ble_eq_true rfl) (Nat.le_of_ble_eq_true rfl) dX6_receivePoint_36
        · have h := o_n c28 h
          refine v_aload_n 0 rfl dX6_receivePoint_31 rfl ?_
          refine v_iload_n 1 rfl dX6_receivePoint_32 rfl ?_
          obtain ⟨s33, e33, h⟩ := o_b h
          refine v_putI e33 (by decide) (by decide) rfl rfl rfl rfl rfl qf_RX6_84 dX6_receivePoint_33 rfl ?_
          obtain rfl := Option.some.inj h
          exact v_vret rfl (Nat.le_of_ble_eq_true rfl) (Nat.le_of_ble_eq_true rfl) dX6_receivePoint_36
def rm_X6_receiveOfItsView : Room := { frames := 5, cells := 0, slots := 0, locals := 116 }
set_option maxRecDepth 100000 in
set_option maxHeartbeats 4000000 in
theorem k_X6_receiveOfItsView {G : Gm} {μ : Mu} {o : Int64} {σ' : Hp} {σ : Hp} {a0 : Nat} {a1 : Nat} (h : f_X6_receiveOfItsView σ a0 a1 = some σ') : Cv G yX6_receiveOfItsView cX6_receiveOfItsView 2 none rm_X6_receiveOfItsView [.ref a0, .ref a1] (σ, μ, o) (σ', μ, o) 0 0 := by
  refine v_entV [(0, .ref a0), (1, .ref a1)] (by decide +kernel) (Nat.le_of_ble_eq_true rfl) rfl ?_
  unfold f_X6_receiveOfItsView at h
  refine v_aload_n 1 rfl dX6_receiveOfItsView_0 rfl ?_
  obtain ⟨v1, e1, h⟩ := o_b h
  refine v_getI e1 (by decide) (by decide) rfl qf_RX6_143 dX6_receiveOfItsView_1 rfl ?_
  by_cases c4_0 : v1 = (1 : Int32)
  · have h := o_p c4_0 h
    refine v_tableIn 48 dX6_receiveOfItsView_4 (by rw [c4_0]; decide) (by rw [c4_0]; decide) (by rw [c4_0]; rfl) (by decide) ?_
    refine v_aload_n 0 rfl dX6_receiveOfItsView_48 rfl ?_
    refine v_aload_n 1 rfl dX6_receiveOfItsView_49 rfl ?_
    obtain ⟨v50, e50, h⟩ := o_b h
    refine v_getI e50 (by decide) (by decide) rfl qf_RX6_165 dX6_receiveOfItsView_50 rfl ?_
    refine v_aload_n 1 rfl dX6_receiveOfItsView_53 rfl ?_
    obtain ⟨v54, e54, h⟩ := o_b h
    refine v_getI e54 (by decide) (by decide) rfl qf_RX6_127 dX6_receiveOfItsView_54 rfl ?_
    obtain ⟨⟨⟩, g57, h⟩ := o_b h
    obtain ⟨v57, e57, h⟩ := o_b h
    refine v_Vv (as := [.int v50, .int v54]) (st := []) (c' := 0) (k' := 0) (k_X6_receiveLookup e57) (rcv_c g57 (by decide) rfl) mk_X6_receiveLookup qi_X6_receiveLookup qe_X6_receiveLookup qm_RX6_168 (ck rfl) rfl dX6_receiveOfItsView_57 rfl rfl rfl ?_
    refine v_goto (q := 138) dX6_receiveOfItsView_60 (by decide) ?_
    obtain rfl := Option.some.inj h
    exact v_vret rfl (Nat.le_of_ble_eq_true rfl) (Nat.le_of_ble_eq_true rfl) dX6_receiveOfItsView_138
  replace h := o_n c4_0 h
  by_cases c4_1 : v1 = (2 : Int32)
  · have h := o_p c4_1 h
    refine v_tableIn 63 dX6_receiveOfItsView_4 (by rw [c4_1]; decide) (by rw [c4_1]; decide) (by rw [c4_1]; rfl) (by decide) ?_
    refine v_aload_n 0 rfl dX6_receiveOfItsView_63 rfl ?_
    refine v_aload_n 1 rfl dX6_receiveOfItsView_64 rfl ?_
    obtain ⟨v65, e65, h⟩ := o_b h
    refine v_getI e65 (by decide) (by decide) rfl qf_RX6_127 dX6_receiveOfItsView_65 rfl ?_
    refine v_aload_n 1 rfl dX6_receiveOfItsView_68 rfl ?_
    obtain ⟨v69, e69, h⟩ := o_b h
    refine v_getI e69 (by decide) (by decide) rfl qf_RX6_134 dX6_receiveOfItsView_69 rfl ?_
    obtain ⟨⟨⟩, g72, h⟩ := o_b h
    obtain ⟨v72, e72, h⟩ := o_b h
    refine v_Vv (as := [.int v65, .int v69]) (st := []) (c' := 0) (k' := 0) (k_X6_receiveFound e72) (rcv_c g72 (by decide) rfl) mk_X6_receiveFound qi_X6_receiveFound qe_X6_receiveFound qm_RX6_171 (ck rfl) rfl dX6_receiveOfItsView_72 rfl rfl rfl ?_
    refine v_goto (q := 138) dX6_receiveOfItsView_75 (by decide) ?_
    obtain rfl := Option.some.inj h
    exact v_vret rfl (Nat.le_of_ble_eq_true rfl) (Nat.le_of_ble_eq_true rfl) dX6_receiveOfItsView_138
  replace h := o_n c4_1 h
  by_cases c4_2 : v1 = (3 : Int32)
  · have h := o_p c4_2 h
    refine v_tableIn 78 dX6_receiveOfItsView_4 (by rw [c4_2]; decide) (by rw [c4_2]; decide) (by rw [c4_2]; rfl) (by decide) ?_
    refine v_aload_n 0 rfl dX6_receiveOfItsView_78 rfl ?_
    refine v_aload_n 1 rfl dX6_receiveOfItsView_79 rfl ?_
    obtain ⟨v80, e80, h⟩ := o_b h
    refine v_getI e80 (by decide) (by decide) rfl qf_RX6_127 dX6_receiveOfItsView_80 rfl ?_
    obtain ⟨⟨⟩, g83, h⟩ := o_b h
    obtain ⟨v83, e83, h⟩ := o_b h
    refine v_Vv (as := [.int v80]) (st := []) (c' := 0) (k' := 0) (k_X6_receiveGapCommit e83) (rcv_c g83 (by decide) rfl) mk_X6_receiveGapCommit qi_X6_receiveGapCommit qe_X6_receiveGapCommit qm_RX6_174 (ck rfl) rfl dX6_receiveOfItsView_83 rfl rfl rfl ?_
    refine v_goto (q := 138) dX6_receiveOfItsView_86 (by decide) ?_
    obtain rfl := Option.some.inj h
    exact v_vret rfl (Nat.le_of_ble_eq_true rfl) (Nat.le_of_ble_eq_true rfl) dX6_receiveOfItsView_138
  replace h := o_n c4_2 h
  by_cases c4_3 : v1 = (4 : Int32)
  · have h := o_p c4_3 h
    refine v_tableIn 89 dX6_receiveOfItsView_4 (by rw [c4_3]; decide) (by rw [c4_3]; decide) (by rw [c4_3]; rfl) (by decide) ?_
    refine v_aload_n 0 rfl dX6_receiveOfItsView_89 rfl ?_
    refine v_aload_n 1 rfl dX6_receiveOfItsView_90 rfl ?_
    obtain ⟨v91, e91, h⟩ := o_b h
    refine v_getI e91 (by decide) (by decide) rfl qf_RX6_165 dX6_receiveOfItsView_91 rfl ?_
    refine v_aload_n 1 rfl dX6_receiveOfItsView_94 rfl ?_
    obtain ⟨v95, e95, h⟩ := o_b h
    refine v_getI e95 (by decide) (by decide) rfl qf_RX6_127 dX6_receiveOfItsView_95 rfl ?_
    obtain ⟨⟨⟩, g98, h⟩ := o_b h
    obtain ⟨v98, e98, h⟩ := o_b h
    refine v_Vv (as := [.int v91, .int v95]) (st := []) (c' := 0) (k' := 0) (k_X6_receiveGapReply e98) (rcv_c g98 (by decide) rfl) mk_X6_receiveGapReply qi_X6_receiveGapReply qe_X6_receiveGapReply qm_RX6_177 (ck rfl) rfl dX6_receiveOfItsView_98 rfl rfl rfl ?_
    refine v_goto (q := 138) dX6_receiveOfItsView_101 (by decide) ?_
    obtain rfl := Option.some.inj h
    exact v_vret rfl (Nat.le_of_ble_eq_true rfl) (Nat.le_of_ble_eq_true rfl) dX6_receiveOfItsView_138
  replace h := o_n c4_3 h
  by_cases c4_4 : v1 = (5 : Int32)
  · have h := o_p c4_4 h
    refine v_tableIn 104 dX6_receiveOfItsView_4 (by rw [c4_4]; decide) (by rw [c4_4]; decide) (by rw [c4_4]; rfl) (by decide) ?_
    refine v_aload_n 0 rfl dX6_receiveOfItsView_104 rfl ?_
    refine v_aload_n 1 rfl dX6_receiveOfItsView_105 rfl ?_
    obtain ⟨⟨⟩, g106, h⟩ := o_b h
    obtain ⟨v106, e106, h⟩ := o_b h
    refine v_Vv (as := [.ref a1]) (st := []) (c' := 0) (k' := 0) (k_X6_receiveSync e106) (rcv_c g106 (by decide) rfl) mk_X6_receiveSync qi_X6_receiveSync qe_X6_receiveSync qm_RX6_180 (ck rfl) rfl dX6_receiveOfItsView_106 rfl rfl rfl ?_
    refine v_goto (q := 138) dX6_receiveOfItsView_109 (by decide) ?_
    obtain rfl := Option.some.inj h
    exact v_vret rfl (Nat.le_of_ble_eq_true rfl) (Nat.le_of_ble_eq_true rfl) dX6_receiveOfItsView_138
  replace h := o_n c4_4 h
  by_cases c4_5 : v1 = (6 : Int32)
  · have h := o_p c4_5 h
    refine v_tableIn 112 dX6_receiveOfItsView_4 (by rw [c4_5]; decide) (by rw [c4_5]; decide) (by rw [c4_5]; rfl) (by decide) ?_
    refine v_aload_n 0 rfl dX6_receiveOfItsView_112 rfl ?_
    refine v_aload_n 1 rfl dX6_receiveOfItsView_113 rfl ?_
    obtain ⟨v114, e114, h⟩ := o_b h
    refine v_getI e114 (by decide) (by decide) rfl qf_RX6_165 dX6_receiveOfItsView_114 rfl ?_
    refine v_aload_n 1 rfl dX6_receiveOfItsView_117 rfl ?_
    obtain ⟨v118, e118, h⟩ := o_b h
    refine v_getI e118 (by decide) (by decide) rfl qf_RX6_127 dX6_receiveOfItsView_118 rfl ?_
    obtain ⟨⟨⟩, g121, h⟩ := o_b h
    obtain ⟨v121, e121, h⟩ := o_b h
    refine v_Vv (as := [.int v114, .int v118]) (st := []) (c' := 0) (k' := 0) (k_X6_receiveSyncReply e121) (rcv_c g121 (by decide) rfl) mk_X6_receiveSyncReply qi_X6_receiveSyncReply qe_X6_receiveSyncReply qm_RX6_183 (ck rfl) rfl dX6_receiveOfItsView_121 rfl rfl rfl ?_
    refine v_goto (q := 138) dX6_receiveOfItsView_124 (by decide) ?_
    obtain rfl := Option.some.inj h
    exact v_vret rfl (Nat.le_of_ble_eq_true rfl) (Nat.le_of_ble_eq_true rfl) dX6_receiveOfItsView_138
  replace h := o_n c4_5 h
  by_cases c4_6 : v1 = (7 : Int32)
  · have h := o_p c4_6 h
    refine v_tableIn 127 dX6_receiveOfItsView_4 (by rw [c4_6]; decide) (by rw [c4_6]; decide) (by rw [c4_6]; rfl) (by decide) ?_
    refine v_aload_n 0 rfl dX6_receiveOfItsView_127 rfl ?_
    refine v_aload_n 1 rfl dX6_receiveOfItsView_128 rfl ?_
    obtain ⟨v129, e129, h⟩ := o_b h
    refine v_getI e129 (by decide) (by decide) rfl qf_RX6_127 dX6_receiveOfItsView_129 rfl ?_
    obtain ⟨⟨⟩, g132, h⟩ := o_b h
    obtain ⟨v132, e132, h⟩ := o_b h
    refine v_Vv (as := [.int v129]) (st := []) (c' := 0) (k' := 0) (k_X6_receivePoint e132) (rcv_c g132 (by decide) rfl) mk_X6_receivePoint qi_X6_receivePoint qe_X6_receivePoint qm_RX6_186 (ck rfl) rfl dX6_receiveOfItsView_132 rfl rfl rfl ?_
    refine v_goto (q := 138) dX6_receiveOfItsView_135 (by decide) ?_
    obtain rfl := Option.some.inj h
    exact v_vret rfl (Nat.le_of_ble_eq_true rfl) (Nat.le_of_ble_eq_true rfl) dX6_receiveOfItsView_138
  replace h := o_n c4_6 h
  refine v_tableOut 138 dX6_receiveOfItsView_4 (sw_out 1 7 (fun i h1 h2 => by rcases (show i = 1 ∨ i = 2 ∨ i = 3 ∨ i = 4 ∨ i = 5 ∨ i = 6 ∨ i = 7 by omega) with rfl | rfl | rfl | rfl | rfl | rfl | rfl <;> first | exact c4_0 | exact c4_1 | exact c4_2 | exact c4_3 | exact c4_4 | exact c4_5 | exact c4_6)) (by decide) ?_
  obtain rfl := Option.some.inj h
  exact v_vret rfl (Nat.le_of_ble_eq_true rfl) (Nat.le_of_ble_eq_true rfl) dX6_receiveOfItsView_138
def rm_X7_add : Room := { frames := 0, cells := 0, slots := 0, locals := 0 }
set_option maxRecDepth 100000 in
set_option maxHeartbeats 4000000 in
theorem k_X7_add {G : Gm} {μ : Mu} {o : Int64} {r : Int32} {σ' : Hp} {σ : Hp} {a0 : Nat} {a1 : Int32} {a2 : Int32} {a3 : Int32} {a4 : Int32} {a5 : Int32} (h : f_X7_add σ a0 a1 a2 a3 a4 a5 = some (r, σ')) : Ci G yX7_add cX7_add 6 (some .int) rm_X7_add [.ref a0, .int a1, .int a2, .int a3, .int a4, .int a5] (σ, μ, o) r (σ', μ, o) 0 0 := by
  refine v_entI [(0, .ref a0), (1, .int a1), (2, .int a2), (3, .int a3), (4, .int a4), (5, .int a5)] (by decide +kernel) (Nat.le_of_ble_eq_true rfl) rfl ?_
  unfold f_X7_add at h
  refine v_aload_n 0 rfl dX7_add_0 rfl ?_
  obtain ⟨v1, e1, h⟩ := o_b h
  refine v_getI e1 (by decide) (by decide) rfl qf_RX7_27 dX7_add_1 rfl ?_
  refine v_sipush (v := (512 : Int32)) (by decide) dX7_add_4 rfl ?_
  refine v_icmp_lt 12 dX7_add_7 (by decide) rfl (fun c7 => ?_) (fun c7 => ?_)
  · have h := o_p c7 h
    refine v_aload_n 0 rfl dX7_add_12 rfl ?_
    refine v_dup rfl dX7_add_13 rfl ?_
    obtain ⟨v14, e14, h⟩ := o_b h
    refine v_getI e14 (by decide) (by decide) rfl qf_RX7_27 dX7_add_14 rfl ?_
    refine v_iconst (v := (1 : Int32)) (by decide) dX7_add_17 rfl ?_
    refine v_iadd dX7_add_18 rfl ?_
    obtain ⟨s19, e19, h⟩ := o_b h
    refine v_putI e19 (by decide) (by decide) rfl rfl rfl rfl rfl qf_RX7_27 dX7_add_19 rfl ?_
    refine v_aload_n 0 rfl dX7_add_22 rfl ?_
    obtain ⟨v23, e23, h⟩ := o_b h
    refine v_getR e23 (by decide) (by decide) rfl qf_RX7_9 dX7_add_23 rfl ?_
    refine v_aload_n 0 rfl dX7_add_26 rfl ?_
    obtain ⟨v27, e27, h⟩ := o_b h
    refine v_getI e27 (by decide) (by decide) rfl qf_RX7_27 dX7_add_27 rfl ?_
    refine v_iload_n 1 rfl dX7_add_30 rfl ?_
    obtain ⟨s31, e31, h⟩ := o_b h
    refine v_qI e31 dX7_add_31 rfl ?_
    refine v_aload_n 0 rfl dX7_add_32 rfl ?_
    obtain ⟨v33, e33, h⟩ := o_b h
    refine v_getR e33 (by decide) (by decide) rfl qf_RX7_15 dX7_add_33 rfl ?_
    refine v_aload_n 0 rfl dX7_add_36 rfl ?_
    obtain ⟨v37, e37, h⟩ := o_b h
    refine v_getI e37 (by decide) (by decide) rfl qf_RX7_27 dX7_add_37 rfl ?_
    refine v_iload_n 2 rfl dX7_add_40 rfl ?_
    obtain ⟨s41, e41, h⟩ := o_b h
    refine v_qI e41 dX7_add_41 rfl ?_
    refine v_aload_n 0 rfl dX7_add_42 rfl ?_
    obtain ⟨v43, e43, h⟩ := o_b h
    refine v_getR e43 (by decide) (by decide) rfl qf_RX7_18 dX7_add_43 rfl ?_
    refine v_aload_n 0 rfl dX7_add_46 rfl ?_
    obtain ⟨v47, e47, h⟩ := o_b h
    refine v_getI e47 (by decide) (by decide) rfl qf_RX7_27 dX7_add_47 rfl ?_
    refine v_iload_n 3 rfl dX7_add_50 rfl ?_
    obtain ⟨s51, e51, h⟩ := o_b h
    refine v_qI e51 dX7_add_51 rfl ?_
    refine v_aload_n 0 rfl dX7_add_52 rfl ?_
    obtain ⟨v53, e53, h⟩ := o_b h
    refine v_getR e53 (by decide) (by decide) rfl qf_RX7_21 dX7_add_53 rfl ?_
    refine v_aload_n 0 rfl dX7_add_56 rfl ?_
    obtain ⟨v57, e57, h⟩ := o_b h
    refine v_getI e57 (by decide) (by decide) rfl qf_RX7_27 dX7_add_57 rfl ?_
    refine v_iload 4 rfl dX7_add_60 rfl ?_
    obtain ⟨s62, e62, h⟩ := o_b h
    refine v_qI e62 dX7_add_62 rfl ?_
    refine v_aload_n 0 rfl dX7_add_63 rfl ?_
    obtain ⟨v64, e64, h⟩ := o_b h
    refine v_getR e64 (by decide) (by decide) rfl qf_RX7_24 dX7_add_64 rfl ?_
    refine v_aload_n 0 rfl dX7_add_67 rfl ?_
    obtain ⟨v68, e68, h⟩ := o_b h
    refine v_getI e68 (by decide) (by decide) rfl qf_RX7_27 dX7_add_68 rfl ?_
    refine v_iload 5 rfl dX7_add_71 rfl ?_
    obtain ⟨s73, e73, h⟩ := o_b h
    refine v_qI e73 dX7_add_73 rfl ?_
    refine v_aload_n 0 rfl dX7_add_74 rfl ?_
    obtain ⟨v75, e75, h⟩ := o_b h
    refine v_getI e75 (by decide) (by decide) rfl qf_RX7_27 dX7_add_75 rfl ?_
    obtain ⟨rfl, rfl⟩ := o_s h
    exact v_iret rfl rfl (Nat.le_of_ble_eq_true rfl) (Nat.le_of_ble_eq_true rfl) dX7_add_78
  · have h := o_n c7 h
    refine v_iconst (v := (0 : Int32)) (by decide) dX7_add_10 rfl ?_
    obtain ⟨rfl, rfl⟩ := o_s h
    exact v_iret rfl rfl (Nat.le_of_ble_eq_true rfl) (Nat.le_of_ble_eq_true rfl) dX7_add_11
def rm_X11_isClient : Room := { frames := 0, cells := 0, slots := 0, locals := 0 }
set_option maxRecDepth 100000 in
set_option maxHeartbeats 4000000 in
theorem k_X11_isClient {G : Gm} {w : Wt} {r : Int32} {a0 : Nat} {a1 : Int32} (h : f_X11_isClient a0 a1 = some r) : Ci G yX11_isClient cX11_isClient 2 (some .boolean) rm_X11_isClient [.ref a0, .int a1] w r w 0 0 := by
  refine v_entI [(0, .ref a0), (1, .int a1)] (by decide +kernel) (Nat.le_of_ble_eq_true rfl) rfl ?_
  unfold f_X11_isClient at h
  refine v_iload_n 1 rfl dX11_isClient_0 rfl ?_
  refine v_if_lt 13 dX11_isClient_1 (by decide) rfl (fun c1 => ?_) (fun c1 => ?_)
  · have h := o_p c1 h
    refine v_iconst (v := (0 : Int32)) (by decide) dX11_isClient_13 rfl ?_
    obtain rfl := Option.some.inj h
    exact v_iret rfl rfl (Nat.le_of_ble_eq_true rfl) (Nat.le_of_ble_eq_true rfl) dX11_isClient_14
  · have h := o_n c1 h
    refine v_iload_n 1 rfl dX11_isClient_4 rfl ?_
    refine v_iconst (v := (4 : Int32)) (by decide) dX11_isClient_5 rfl ?_
    refine v_icmp_ge 13 dX11_isClient_6 (by decide) rfl (fun c6 => ?_) (fun c6 => ?_)
    · have h := o_p c6 h
      refine v_iconst (v := (0 : Int32)) (by decide) dX11_isClient_13 rfl ?_
      obtain rfl := Option.some.inj h
      exact v_iret rfl rfl (Nat.le_of_ble_eq_true rfl) (Nat.le_of_ble_eq_true rfl) dX11_isClient_14
    · have h := o_n c6 h
      refine v_iconst (v := (1 : Int32)) (by decide) dX11_isClient_9 rfl ?_
      refine v_goto (q := 14) dX11_isClient_10 (by decide) ?_
      obtain rfl := Option.some.inj h
      exact v_iret rfl rfl (Nat.le_of_ble_eq_true rfl) (Nat.le_of_ble_eq_true rfl) dX11_isClient_14
def rm_X11_isKey : Room := { frames := 0, cells := 0, slots := 0, locals := 0 }
set_option maxRecDepth 100000 in
set_option maxHeartbeats 4000000 in
theorem k_X11_isKey {G : Gm} {w : Wt} {r : Int32} {a0 : Nat} {a1 : Int32} (h : f_X11_isKey a0 a1 = some r) : Ci G yX11_isKey cX11_isKey 2 (some .boolean) rm_X11_isKey [.ref a0, .int a1] w r w 0 0 := by
  refine v_entI [(0, .ref a0), (1, .int a1)] (by decide +kernel) (Nat.le_of_ble_eq_true rfl) rfl ?_
  unfold f_X11_isKey at h
  refine v_iload_n 1 rfl dX11_isKey_0 rfl ?_
  refine v_if_lt 14 dX11_isKey_1 (by decide) rfl (fun c1 => ?_) (fun c1 => ?_)
  · have h := o_p c1 h
    refine v_iconst (v := (0 : Int32)) (by decide) dX11_isKey_14 rfl ?_
    obtain rfl := Option.some.inj h
    exact v_iret rfl rfl (Nat.le_of_ble_eq_true rfl) (Nat.le_of_ble_eq_true rfl) dX11_isKey_15
  · have h := o_n c1 h
    refine v_iload_n 1 rfl dX11_isKey_4 rfl ?_
    refine v_bipush (v := (8 : Int32)) (by decide) dX11_isKey_5 rfl ?_
    refine v_icmp_ge 14 dX11_isKey_7 (by decide) rfl (fun c7 => ?_) (fun c7 => ?_)
    · have h := o_p c7 h
      refine v_iconst (v := (0 : Int32)) (by decide) dX11_isKey_14 rfl ?_
      obtain rfl := Option.some.inj h
      exact v_iret rfl rfl (Nat.le_of_ble_eq_true rfl) (Nat.le_of_ble_eq_true rfl) dX11_isKey_15
    · have h := o_n c7 h
      refine v_iconst (v := (1 : Int32)) (by decide) dX11_isKey_10 rfl ?_
      refine v_goto (q := 15) dX11_isKey_11 (by decide) ?_
      obtain rfl := Option.some.inj h
      exact v_iret rfl rfl (Nat.le_of_ble_eq_true rfl) (Nat.le_of_ble_eq_true rfl) dX11_isKey_15
def rm_X11_isReplica : Room := { frames := 0, cells := 0, slots := 0, locals := 0 }
set_option maxRecDepth 100000 in
set_option maxHeartbeats 4000000 in
theorem k_X11_isReplica {G : Gm} {μ : Mu} {o : Int64} {r : Int32} {σ : Hp} {a0 : Nat} {a1 : Int32} (h : f_X11_isReplica σ a0 a1 = some r) : Ci G yX11_isReplica cX11_isReplica 2 (some .boolean) rm_X11_isReplica [.ref a0, .int a1] (σ, μ, o) r (σ, μ, o) 0 0 := by
  refine v_entI [(0, .ref a0), (1, .int a1)] (by decide +kernel) (Nat.le_of_ble_eq_true rfl) rfl ?_
  unfold f_X11_isReplica at h
  refine v_iload_n 1 rfl dX11_isReplica_0 rfl ?_
  refine v_if_lt 16 dX11_isReplica_1 (by decide) rfl (fun c1 => ?_) (fun c1 => ?_)
  · have h := o_p c1 h
    refine v_iconst (v := (0 : Int32)) (by decide) dX11_isReplica_16 rfl ?_
    obtain rfl := Option.some.inj h
    exact v_iret rfl rfl (Nat.le_of_ble_eq_true rfl) (Nat.le_of_ble_eq_true rfl) dX11_isReplica_17
  · have h := o_n c1 h
    refine v_iload_n 1 rfl dX11_isReplica_4 rfl ?_
    refine v_aload_n 0 rfl dX11_isReplica_5 rfl ?_
    obtain ⟨v6, e6, h⟩ := o_b h
    refine v_getI e6 (by decide) (by decide) rfl qf_RX11_13 dX11_isReplica_6 rfl ?_
    refine v_icmp_ge 16 dX11_isReplica_9 (by decide) rfl (fun c9 => ?_) (fun c9 => ?_)
    · have h := o_p c9 h
      refine v_iconst (v := (0 : Int32)) (by decide) dX11_isReplica_16 rfl ?_
      obtain rfl := Option.some.inj h
      exact v_iret rfl rfl (Nat.le_of_ble_eq_true rfl) (Nat.le_of_ble_eq_true rfl) dX11_isReplica_17
    · have h := o_n c9 h
      refine v_iconst (v := (1 : Int32)) (by decide) dX11_isReplica_12 rfl ?_
      refine v_goto (q := 17) dX11_isReplica_13 (by decide) ?_
      obtain rfl := Option.some.inj h
      exact v_iret rfl rfl (Nat.le_of_ble_eq_true rfl) (Nat.le_of_ble_eq_true rfl) dX11_isReplica_17
def rm_X11_downNow : Room := { frames := 0, cells := 0, slots := 0, locals := 0 }
set_option maxRecDepth 100000 in
set_option maxHeartbeats 4000000 in
theorem l_X11_downNow_36 {G : Gm} {μ : Mu} {o : Int64} {r : Int32} {σ : Hp} {rec13 : Hp → Int32 → Nat → Int32 → Int32 → Option Int32} (h13 : ∀ {x1 : Int32} {x2 : Nat} {x3 : Int32} {x4 : Int32} , rec13 σ x1 x2 x3 x4 = some r → V G yX11_downNow cX11_downNow 6 (some .int) rm_X11_downNow (zI G r (σ, μ, o) 0 0) (σ, μ, o) 0 0 13 [(1, .int x1), (2, .ref x2), (3, .int x3), (4, .int x4)] []) {x1 : Int32} {x2 : Nat} {x3 : Int32} {x4 : Int32} (h : f_X11_downNow_36 rec13 σ x1 x2 x3 x4 = some r) : V G yX11_downNow cX11_downNow 6 (some .int) rm_X11_downNow (zI G r (σ, μ, o) 0 0) (σ, μ, o) 0 0 36 [(1, .int x1), (2, .ref x2), (3, .int x3), (4, .int x4)] [] := by
  unfold f_X11_downNow_36 at h
  refine v_iinc (v := (x4 + 1)) [(4, .int (x4 + 1)), (1, .int x1), (2, .ref x2), (3, .int x3)] 3 rfl rfl dX11_downNow_36 rfl (by decide) rfl ?_
  refine v_goto (q := 13) dX11_downNow_39 (by decide) ?_
  refine v_sub [1, 2, 3, 0] rfl ?_
  exact h13 h
set_option maxRecDepth 100000 in
set_option maxHeartbeats 4000000 in
theorem l_X11_downNow_13 {G : Gm} {μ : Mu} {o : Int64} {r : Int32} {σ : Hp} : ∀ (n : Nat) {x1 : Int32} {x2 : Nat} {x3 : Int32} {x4 : Int32} , f_X11_downNow_13 n σ x1 x2 x3 x4 = some r → V G yX11_downNow cX11_downNow 6 (some .int) rm_X11_downNow (zI G r (σ, μ, o) 0 0) (σ, μ, o) 0 0 13 [(1, .int x1), (2, .ref x2), (3, .int x3), (4, .int x4)] [] := by
  intro n
  induction n with
  | zero => intro _ _ _ _ h; cases h
  | succ n ih =>
    intro x1 x2 x3 x4 h
    replace h : b_X11_downNow_13 (f_X11_downNow_13 n) σ x1 x2 x3 x4 = some r := h
    unfold b_X11_downNow_13 at h
    refine v_iload 3 rfl dX11_downNow_13 rfl ?_
    refine v_iload_n 2 rfl dX11_downNow_15 rfl ?_
    refine v_icmp_ge 42 dX11_downNow_16 (by decide) rfl (fun c16 => ?_) (fun c16 => ?_)
    · have h := o_p c16 h
      refine v_iload_n 0 rfl dX11_downNow_42 rfl ?_
      obtain rfl := Option.some.inj h
      exact v_iret rfl rfl (Nat.le_of_ble_eq_true rfl) (Nat.le_of_ble_eq_true rfl) dX11_downNow_43
    · have h := o_n c16 h
      refine v_aload_n 1 rfl dX11_downNow_19 rfl ?_
      refine v_iload 3 rfl dX11_downNow_20 rfl ?_
      obtain ⟨v22, e22, h⟩ := o_b h
      refine v_aR e22 (by decide) (by decide) rfl dX11_downNow_22 rfl ?_
      refine v_astore [(5, .ref v22), (1, .int x1), (2, .ref x2), (3, .int x3), (4, .int x4)] dX11_downNow_23 rfl (by decide) rfl ?_
      refine v_aload 0 rfl dX11_downNow_25 rfl ?_
      obtain ⟨v27, e27, h⟩ := o_b h
      refine v_getI e27 (by decide) (by decide) rfl qf_RX11_148 dX11_downNow_27 rfl ?_
      refine v_if_eq 36 dX11_downNow_30 (by decide) rfl (fun c30 => ?_) (fun c30 => ?_)
      · have h := o_p c30 h
        refine v_sub [1, 2, 3, 4] rfl ?_
        exact l_X11_downNow_36 (fun h => ih h) h
      · have h := o_n c30 h
        refine v_iinc (v := (x1 + 1)) [(1, .int (x1 + 1)), (5, .ref v22), (2, .ref x2), (3, .int x3), (4, .int x4)] 1 rfl rfl dX11_downNow_33 rfl (by decide) rfl ?_
        refine v_sub [0, 2, 3, 4] rfl ?_
        exact l_X11_downNow_36 (fun h => ih h) h
set_option maxRecDepth 100000 in
set_option maxHeartbeats 4000000 in
theorem k_X11_downNow {G : Gm} {μ : Mu} {o : Int64} {r : Int32} {σ : Hp} {a0 : Nat} (h : f_X11_downNow σ a0 = some r) : Ci G yX11_downNow cX11_downNow 6 (some .int) rm_X11_downNow [.ref a0] (σ, μ, o) r (σ, μ, o) 0 0 := by
  refine v_entI [(0, .ref a0)] (by decide +kernel) (Nat.le_of_ble_eq_true rfl) rfl ?_
  unfold f_X11_downNow at h
  refine v_iconst (v := (0 : Int32)) (by decide) dX11_downNow_0 rfl ?_
  refine v_istore_n [(1, .int (0 : Int32)), (0, .ref a0)] dX11_downNow_1 rfl (by decide) rfl ?_
  refine v_aload_n 1 rfl dX11_downNow_2 rfl ?_
  obtain ⟨v3, e3, h⟩ := o_b h
  refine v_getR e3 (by decide) (by decide) rfl qf_RX11_51 dX11_downNow_3 rfl ?_
  refine v_astore_n [(2, .ref v3), (1, .int (0 : Int32)), (0, .ref a0)] dX11_downNow_6 rfl (by decide) rfl ?_
  refine v_aload_n 0 rfl dX11_downNow_7 rfl ?_
  obtain ⟨v8, e8, h⟩ := o_b h
  refine v_aL e8 (by decide) (by decide) rfl dX11_downNow_8 rfl ?_
  refine v_istore_n [(3, .int v8), (2, .ref v3), (1, .int (0 : Int32)), (0, .ref a0)] dX11_downNow_9 rfl (by decide) rfl ?_
  refine v_iconst (v := (0 : Int32)) (by decide) dX11_downNow_10 rfl ?_
  refine v_istore [(4, .int (0 : Int32)), (3, .int v8), (2, .ref v3), (1, .int (0 : Int32)), (0, .ref a0)] dX11_downNow_11 rfl (by decide) rfl ?_
  refine v_sub [3, 2, 1, 0] rfl ?_
  exact l_X11_downNow_13 _ h
def rm_X11_stamp : Room := { frames := 1, cells := 0, slots := 0, locals := 24 }
set_option maxRecDepth 100000 in
set_option maxHeartbeats 4000000 in
theorem l_X11_stamp_20 {G : Gm} {μ : Mu} {o : Int64} {σ' : Hp} : ∀ (n : Nat) {σ : Hp} {x0 : Nat} {x1 : Int32} {x2 : Int32} , f_X11_stamp_20 n σ x0 x1 x2 = some σ' → V G yX11_stamp cX11_stamp 4 none rm_X11_stamp (zV G (σ', μ, o) 0 0) (σ, μ, o) 0 0 20 [(0, .ref x0), (1, .int x1), (2, .int x2)] [] := by
  intro n
  induction n with
  | zero => intro _ _ _ _ h; cases h
  | succ n ih =>
    intro σ x0 x1 x2 h
    replace h : b_X11_stamp_20 (f_X11_stamp_20 n) σ x0 x1 x2 = some σ' := h
    unfold b_X11_stamp_20 at h
    refine v_iload_n 2 rfl dX11_stamp_20 rfl ?_
    refine v_aload_n 0 rfl dX11_stamp_21 rfl ?_
    obtain ⟨v22, e22, h⟩ := o_b h
    refine v_getI e22 (by decide) (by decide) rfl qf_RX11_13 dX11_stamp_22 rfl ?_
    refine v_icmp_ge 66 dX11_stamp_25 (by decide) rfl (fun c25 => ?_) (fun c25 => ?_)
    · have h := o_p c25 h
      obtain rfl := Option.some.inj h
      exact v_vret rfl (Nat.le_of_ble_eq_true rfl) (Nat.le_of_ble_eq_true rfl) dX11_stamp_66
    · have h := o_n c25 h
      refine v_aload_n 0 rfl dX11_stamp_28 rfl ?_
      obtain ⟨v29, e29, h⟩ := o_b h
      refine v_getR e29 (by decide) (by decide) rfl qf_RX11_38 dX11_stamp_29 rfl ?_
      refine v_iconst (v := (0 : Int32)) (by decide) dX11_stamp_32 rfl ?_
      refine v_iconst (v := (-1 : Int32)) (by decide) dX11_stamp_33 rfl ?_
      refine v_iload_n 2 rfl dX11_stamp_34 rfl ?_
      obtain ⟨⟨⟩, g35, h⟩ := o_b h
      obtain ⟨v35, e35, h⟩ := o_b h
      refine v_Vr (as := [.int (0 : Int32), .int (-1 : Int32), .int x2]) (st := []) (c' := 0) (k' := 0) (k_X1_send e35) (rcv_c g35 (by decide) rfl) mk_X1_send qi_X1_send qe_X1_send qm_RX11_299 (ck rfl) rfl dX11_stamp_35 rfl rfl rfl ?_
      refine v_astore_n [(3, .ref v35.1), (0, .ref x0), (1, .int x1), (2, .int x2)] dX11_stamp_38 rfl (by decide) rfl ?_
      refine v_aload_n 0 rfl dX11_stamp_39 rfl ?_
      refine v_aload_n 1 rfl dX11_stamp_40 rfl ?_
      obtain ⟨v41, e41, h⟩ := o_b h
      refine v_getI e41 (by decide) (by decide) rfl qf_RX11_71 dX11_stamp_41 rfl ?_
      obtain ⟨s44, e44, h⟩ := o_b h
      refine v_putI e44 (by decide) (by decide) rfl rfl rfl rfl rfl qf_RX11_303 dX11_stamp_44 rfl ?_
      refine v_aload_n 0 rfl dX11_stamp_47 rfl ?_
      refine v_aload_n 1 rfl dX11_stamp_48 rfl ?_
      obtain ⟨v49, e49, h⟩ := o_b h
      refine v_getI e49 (by decide) (by decide) rfl qf_RX11_199 dX11_stamp_49 rfl ?_
      obtain ⟨s52, e52, h⟩ := o_b h
      refine v_putI e52 (by decide) (by decide) rfl rfl rfl rfl rfl qf_RX11_304 dX11_stamp_52 rfl ?_
      refine v_aload_n 0 rfl dX11_stamp_55 rfl ?_
      refine v_iload_n 2 rfl dX11_stamp_56 rfl ?_
      obtain ⟨s57, e57, h⟩ := o_b h
      refine v_putI e57 (by decide) (by decide) rfl rfl rfl rfl rfl qf_RX11_307 dX11_stamp_57 rfl ?_
      refine v_iinc (v := (x2 + 1)) [(2, .int (x2 + 1)), (3, .ref v35.1), (0, .ref x0), (1, .int x1)] 3 rfl rfl dX11_stamp_60 rfl (by decide) rfl ?_
      refine v_goto (q := 20) dX11_stamp_63 (by decide) ?_
      refine v_sub [2, 3, 0] rfl ?_
      exact ih h
set_option maxRecDepth 100000 in
set_option maxHeartbeats 4000000 in
theorem k_X11_stamp {G : Gm} {μ : Mu} {o : Int64} {σ' : Hp} {σ : Hp} {a0 : Nat} {a1 : Int32} (h : f_X11_stamp σ a0 a1 = some σ') : Cv G yX11_stamp cX11_stamp 4 none rm_X11_stamp [.ref a0, .int a1] (σ, μ, o) (σ', μ, o) 0 0 := by
  refine v_entV [(0, .ref a0), (1, .int a1)] (by decide +kernel) (Nat.le_of_ble_eq_true rfl) rfl ?_
  unfold f_X11_stamp at h
  refine v_aload_n 0 rfl dX11_stamp_0 rfl ?_
  obtain ⟨v1, e1, h⟩ := o_b h
  refine v_getI e1 (by decide) (by decide) rfl qf_RX11_67 dX11_stamp_1 rfl ?_
  refine v_if_ne 8 dX11_stamp_4 (by decide) rfl (fun c4 => ?_) (fun c4 => ?_)
  · have h := o_n c4 h
    refine v_aload_n 0 rfl dX11_stamp_8 rfl ?_
    refine v_dup rfl dX11_stamp_9 rfl ?_
    obtain ⟨v10, e10, h⟩ := o_b h
    refine v_getI e10 (by decide) (by decide) rfl qf_RX11_199 dX11_stamp_10 rfl ?_
    refine v_iconst (v := (1 : Int32)) (by decide) dX11_stamp_13 rfl ?_
    refine v_iadd dX11_stamp_14 rfl ?_
    obtain ⟨s15, e15, h⟩ := o_b h
    refine v_putI e15 (by decide) (by decide) rfl rfl rfl rfl rfl qf_RX11_199 dX11_stamp_15 rfl ?_
    refine v_iconst (v := (0 : Int32)) (by decide) dX11_stamp_18 rfl ?_
    refine v_istore_n [(2, .int (0 : Int32)), (0, .ref a0), (1, .int a1)] dX11_stamp_19 rfl (by decide) rfl ?_
    refine v_sub [1, 2, 0] rfl ?_
    exact l_X11_stamp_20 _ h
  · have h := o_p c4 h
    obtain rfl := Option.some.inj h
    exact v_vret rfl (Nat.le_of_ble_eq_true rfl) (Nat.le_of_ble_eq_true rfl) dX11_stamp_7
def rm_X11_handOver : Room := { frames := 6, cells := 1, slots := 2, locals := 146 }
set_option maxRecDepth 100000 in
set_option maxHeartbeats 4000000 in
theorem k_X11_handOver {G : Gm} {μ : Mu} {o : Int64} {σ' : Hp} {σ : Hp} {a0 : Nat} {a1 : Nat} (h : f_X11_handOver σ a0 a1 = some σ') : Cv G yX11_handOver cX11_handOver 3 none rm_X11_handOver [.ref a0, .ref a1] (σ, μ, o) (σ', μ, o) 1 2 := by
  refine v_entV [(0, .ref a0), (1, .ref a1)] (by decide +kernel) (Nat.le_of_ble_eq_true rfl) rfl ?_
  unfold f_X11_handOver at h
  refine v_aload_n 1 rfl dX11_handOver_0 rfl ?_
  obtain ⟨v1, e1, h⟩ := o_b h
  refine v_getI e1 (by decide) (by decide) rfl qf_RX11_281 dX11_handOver_1 rfl ?_
  refine v_bipush (v := (11 : Int32)) (by decide) dX11_handOver_4 rfl ?_
  refine v_icmp_ne 51 dX11_handOver_6 (by decide) rfl (fun c6 => ?_) (fun c6 => ?_)
  · have h := o_n c6 h
    refine v_aload_n 0 rfl dX11_handOver_51 rfl ?_
    obtain ⟨v52, e52, h⟩ := o_b h
    refine v_getR e52 (by decide) (by decide) rfl qf_RX11_51 dX11_handOver_52 rfl ?_
    refine v_aload_n 1 rfl dX11_handOver_55 rfl ?_
    obtain ⟨v56, e56, h⟩ := o_b h
    refine v_getI e56 (by decide) (by decide) rfl qf_RX11_286 dX11_handOver_56 rfl ?_
    obtain ⟨v59, e59, h⟩ := o_b h
    refine v_aR e59 (by decide) (by decide) rfl dX11_handOver_59 rfl ?_
    refine v_astore_n [(2, .ref v59), (0, .ref a0), (1, .ref a1)] dX11_handOver_60 rfl (by decide) rfl ?_
    refine v_aload_n 0 rfl dX11_handOver_61 rfl ?_
    obtain ⟨v62, e62, h⟩ := o_b h
    refine v_getI e62 (by decide) (by decide) rfl qf_RX11_148 dX11_handOver_62 rfl ?_
    refine v_if_eq 84 dX11_handOver_65 (by decide) rfl (fun c65 => ?_) (fun c65 => ?_)
    · have h := o_p c65 h
      refine v_aload_n 2 rfl dX11_handOver_84 rfl ?_
      obtain ⟨v85, e85, h⟩ := o_b h
      refine v_getI e85 (by decide) (by decide) rfl qf_RX11_281 dX11_handOver_85 rfl ?_
      refine v_if_ne 99 dX11_handOver_88 (by decide) rfl (fun c88 => ?_) (fun c88 => ?_)
      · have h := o_n c88 h
        refine v_aload_n 2 rfl dX11_handOver_99 rfl ?_
        obtain ⟨v100, e100, h⟩ := o_b h
        refine v_getI e100 (by decide) (by decide) rfl qf_RX11_281 dX11_handOver_100 rfl ?_
        refine v_bipush (v := (8 : Int32)) (by decide) dX11_handOver_103 rfl ?_
        refine v_icmp_eq 126 dX11_handOver_105 (by decide) rfl (fun c105 => ?_) (fun c105 => ?_)
        · have h := o_p c105 h
          refine v_aload_n 0 rfl dX11_handOver_126 rfl ?_
          refine v_aload_n 2 rfl dX11_handOver_127 rfl ?_
          obtain ⟨⟨⟩, g128, h⟩ := o_b h
          obtain ⟨v128, e128, h⟩ := o_b h
          refine v_Vv (as := [.ref a1]) (st := []) (c' := 1) (k' := 2) (k_X6_receiveOfAnyView e128) (rcv_c g128 (by decide) rfl) mk_X6_receiveOfAnyView qi_X6_receiveOfAnyView qe_X6_receiveOfAnyView qm_RX11_320 (ck rfl) rfl dX11_handOver_128 rfl rfl rfl ?_
          refine v_goto (q := 153) dX11_handOver_131 (by decide) ?_
          obtain rfl := Option.some.inj h
          exact v_vret rfl (Nat.le_of_ble_eq_true rfl) (Nat.le_of_ble_eq_true rfl) dX11_handOver_153
        · have h := o_n c105 h
          refine v_aload_n 2 rfl dX11_handOver_108 rfl ?_
          obtain ⟨v109, e109, h⟩ := o_b h
          refine v_getI e109 (by decide) (by decide) rfl qf_RX11_281 dX11_handOver_109 rfl ?_
          refine v_bipush (v := (9 : Int32)) (by decide) dX11_handOver_112 rfl ?_
          refine v_icmp_eq 126 dX11_handOver_114 (by decide) rfl (fun c114 => ?_) (fun c114 => ?_)
          · have h := o_p c114 h
            refine v_aload_n 0 rfl dX11_handOver_126 rfl ?_
            refine v_aload_n 2 rfl dX11_handOver_127 rfl ?_
            obtain ⟨⟨⟩, g128, h⟩ := o_b h
            obtain ⟨v128, e128, h⟩ := o_b h
            refine v_Vv (as := [.ref a1]) (st := []) (c' := 1) (k' := 2) (k_X6_receiveOfAnyView e128) (rcv_c g128 (by decide) rfl) mk_X6_receiveOfAnyView qi_X6_receiveOfAnyView qe_X6_receiveOfAnyView qm_RX11_320 (ck rfl) rfl dX11_handOver_128 rfl rfl rfl ?_
            refine v_goto (q := 153) dX11_handOver_131 (by decide) ?_
            obtain rfl := Option.some.inj h
            exact v_vret rfl (Nat.le_of_ble_eq_true rfl) (Nat.le_of_ble_eq_true rfl) dX11_handOver_153
          · have h := o_n c114 h
            refine v_aload_n 2 rfl dX11_handOver_117 rfl ?_
            obtain ⟨v118, e118, h⟩ := o_b h
            refine v_getI e118 (by decide) (by decide) rfl qf_RX11_281 dX11_handOver_118 rfl ?_
            refine v_bipush (v := (10 : Int32)) (by decide) dX11_handOver_121 rfl ?_
            refine v_icmp_ne 134 dX11_handOver_123 (by decide) rfl (fun c123 => ?_) (fun c123 => ?_)
            · have h := o_n c123 h
              refine v_aload_n 2 rfl dX11_handOver_134 rfl ?_
              obtain ⟨v135, e135, h⟩ := o_b h
              refine v_getR e135 (by decide) (by decide) rfl qf_RX11_323 dX11_handOver_135 rfl ?_
              refine v_aload_n 0 rfl dX11_handOver_138 rfl ?_
              obtain ⟨v139, e139, h⟩ := o_b h
              refine v_getR e139 (by decide) (by decide) rfl qf_RX11_166 dX11_handOver_139 rfl ?_
              obtain ⟨⟨⟩, g142, h⟩ := o_b h
              obtain ⟨v142, e142, h⟩ := o_b h
              refine v_Vi (as := [.ref v139]) (st := []) (c' := 0) (k' := 0) (k_X9_isSame e142) (rcv_c g142 (by decide) rfl) mk_X9_isSame qi_X9_isSame qe_X9_isSame qm_RX11_324 (ck rfl) rfl dX11_handOver_142 rfl rfl rfl ?_
              refine v_if_eq 153 dX11_handOver_145 (by decide) rfl (fun c145 => ?_) (fun c145 => ?_)
              · have h := o_p c145 h
                obtain rfl := Option.some.inj h
                exact v_vret rfl (Nat.le_of_ble_eq_true rfl) (Nat.le_of_ble_eq_true rfl) dX11_handOver_153
              · have h := o_n c145 h
                refine v_aload_n 0 rfl dX11_handOver_148 rfl ?_
                refine v_aload_n 2 rfl dX11_handOver_149 rfl ?_
                obtain ⟨⟨⟩, g150, h⟩ := o_b h
                obtain ⟨v150, e150, h⟩ := o_b h
                refine v_Vv (as := [.ref a1]) (st := []) (c' := 0) (k' := 0) (k_X6_receiveOfItsView e150) (rcv_c g150 (by decide) rfl) mk_X6_receiveOfItsView qi_X6_receiveOfItsView qe_X6_receiveOfItsView qm_RX11_328 (ck rfl) rfl dX11_handOver_150 rfl rfl rfl ?_
                obtain rfl := Option.some.inj h
                exact v_vret rfl (Nat.le_of_ble_eq_true rfl) (Nat.le_of_ble_eq_true rfl) dX11_handOver_153
            · have h := o_p c123 h
              refine v_aload_n 0 rfl dX11_handOver_126 rfl ?_
              refine v_aload_n 2 rfl dX11_handOver_127 rfl ?_
              obtain ⟨⟨⟩, g128, h⟩ := o_b h
              obtain ⟨v128, e128, h⟩ := o_b h
              refine v_Vv (as := [.ref a1]) (st := []) (c' := 1) (k' := 2) (k_X6_receiveOfAnyView e128) (rcv_c g128 (by decide) rfl) mk_X6_receiveOfAnyView qi_X6_receiveOfAnyView qe_X6_receiveOfAnyView qm_RX11_320 (ck rfl) rfl dX11_handOver_128 rfl rfl rfl ?_
              refine v_goto (q := 153) dX11_handOver_131 (by decide) ?_
              obtain rfl := Option.some.inj h
              exact v_vret rfl (Nat.le_of_ble_eq_true rfl) (Nat.le_of_ble_eq_true rfl) dX11_handOver_153
      · have h := o_p c88 h
        refine v_aload_n 0 rfl dX11_handOver_91 rfl ?_
        refine v_aload_n 2 rfl dX11_handOver_92 rfl ?_
        obtain ⟨⟨⟩, g93, h⟩ := o_b h
        obtain ⟨v93, e93, h⟩ := o_b h
        refine v_Vv (as := [.ref a1]) (st := []) (c' := 1) (k' := 2) (k_X6_receiveStamped e93) (rcv_c g93 (by decide) rfl) mk_X6_receiveStamped qi_X6_receiveStamped qe_X6_receiveStamped qm_RX11_317 (ck rfl) rfl dX11_handOver_93 rfl rfl rfl ?_
        refine v_goto (q := 153) dX11_handOver_96 (by decide) ?_
        obtain rfl := Option.some.inj h
        exact v_vret rfl (Nat.le_of_ble_eq_true rfl) (Nat.le_of_ble_eq_true rfl) dX11_handOver_153
    · have h := o_n c65 h
      refine v_aload_n 1 rfl dX11_handOver_68 rfl ?_
      obtain ⟨v69, e69, h⟩ := o_b h
      refine v_getR e69 (by decide) (by decide) rfl qf_RX11_38 dX11_handOver_69 rfl ?_
      refine v_dup rfl dX11_handOver_72 rfl ?_
      obtain ⟨v73, e73, h⟩ := o_b h
      refine v_getI e73 (by decide) (by decide) rfl qf_RX11_135 dX11_handOver_73 rfl ?_
      refine v_iconst (v := (1 : Int32)) (by decide) dX11_handOver_76 rfl ?_
      refine v_iadd dX11_handOver_77 rfl ?_
      obtain ⟨s78, e78, h⟩ := o_b h
      refine v_putI e78 (by decide) (by decide) rfl rfl rfl rfl rfl qf_RX11_135 dX11_handOver_78 rfl ?_
      refine v_goto (q := 153) dX11_handOver_81 (by decide) ?_
      obtain rfl := Option.some.inj h
      exact v_vret rfl (Nat.le_of_ble_eq_true rfl) (Nat.le_of_ble_eq_true rfl) dX11_handOver_153
  · have h := o_p c6 h
    refine v_aload_n 0 rfl dX11_handOver_9 rfl ?_
    obtain ⟨v10, e10, h⟩ := o_b h
    refine v_getR e10 (by decide) (by decide) rfl qf_RX11_60 dX11_handOver_10 rfl ?_
    refine v_aload_n 1 rfl dX11_handOver_13 rfl ?_
    obtain ⟨v14, e14, h⟩ := o_b h
    refine v_getI e14 (by decide) (by decide) rfl qf_RX11_286 dX11_handOver_14 rfl ?_
    obtain ⟨v17, e17, h⟩ := o_b h
    refine v_aR e17 (by decide) (by decide) rfl dX11_handOver_17 rfl ?_
    refine v_astore_n [(2, .ref v17), (0, .ref a0), (1, .ref a1)] dX11_handOver_18 rfl (by decide) rfl ?_
    refine v_aload_n 0 rfl dX11_handOver_19 rfl ?_
    refine v_aload_n 2 rfl dX11_handOver_20 rfl ?_
    obtain ⟨⟨⟩, g21, h⟩ := o_b h
    obtain ⟨v21, e21, h⟩ := o_b h
    refine v_Vi (as := [.ref a1]) (st := []) (c' := 0) (k' := 0) (k_X2_hear e21) (rcv_c g21 (by decide) rfl) mk_X2_hear qi_X2_hear qe_X2_hear qm_RX11_310 (ck rfl) rfl dX11_handOver_21 rfl rfl rfl ?_
    refine v_if_eq 50 dX11_handOver_24 (by decide) rfl (fun c24 => ?_) (fun c24 => ?_)
    · have h := o_p c24 h
      obtain rfl := Option.some.inj h
      exact v_vret rfl (Nat.le_of_ble_eq_true rfl) (Nat.le_of_ble_eq_true rfl) dX11_handOver_50
    · have h := o_n c24 h
      refine v_aload_n 1 rfl dX11_handOver_27 rfl ?_
      obtain ⟨v28, e28, h⟩ := o_b h
      refine v_getR e28 (by decide) (by decide) rfl qf_RX11_45 dX11_handOver_28 rfl ?_
      refine v_aload_n 0 rfl dX11_handOver_31 rfl ?_
      obtain ⟨v32, e32, h⟩ := o_b h
      refine v_getI e32 (by decide) (by decide) rfl qf_RX11_118 dX11_handOver_32 rfl ?_
      refine v_aload_n 0 rfl dX11_handOver_35 rfl ?_
      obtain ⟨v36, e36, h⟩ := o_b h
      refine v_getR e36 (by decide) (by decide) rfl qf_RX11_264 dX11_handOver_36 rfl ?_
      refine v_aload_n 0 rfl dX11_handOver_39 rfl ?_
      obtain ⟨v40, e40, h⟩ := o_b h
      refine v_getI e40 (by decide) (by decide) rfl qf_RX11_261 dX11_handOver_40 rfl ?_
      refine v_aload_n 0 rfl dX11_handOver_43 rfl ?_
      obtain ⟨v44, e44, h⟩ := o_b h
      refine v_getI e44 (by decide) (by decide) rfl qf_RX11_267 dX11_handOver_44 rfl ?_
      obtain ⟨⟨⟩, g47, h⟩ := o_b h
      obtain ⟨v47, e47, h⟩ := o_b h
      refine v_Vv (as := [.int v32, .ref v36, .int v40, .int v44]) (st := []) (c' := 0) (k' := 0) (k_X0_add e47) (rcv_c g47 (by decide) rfl) mk_X0_add qi_X0_add qe_X0_add qm_RX11_314 (ck rfl) rfl dX11_handOver_47 rfl rfl rfl ?_
      obtain rfl := Option.some.inj h
      exact v_vret rfl (Nat.le_of_ble_eq_true rfl) (Nat.le_of_ble_eq_true rfl) dX11_handOver_50
def rm_X11_fail : Room := { frames := 0, cells := 0, slots := 0, locals := 0 }
set_option maxRecDepth 100000 in
set_option maxHeartbeats 4000000 in
theorem k_X11_fail {G : Gm} {μ : Mu} {o : Int64} {r : Int32} {σ' : Hp} {σ : Hp} {a0 : Nat} (h : f_X11_fail σ a0 = some (r, σ')) : Ci G yX11_fail cX11_fail 2 (some .boolean) rm_X11_fail [.ref a0] (σ, μ, o) r (σ', μ, o) 0 0 := by
  refine v_entI [(0, .ref a0)] (by decide +kernel) (Nat.le_of_ble_eq_true rfl) rfl ?_
  unfold f_X11_fail at h
  refine v_aload_n 0 rfl dX11_fail_0 rfl ?_
  obtain ⟨v1, e1, h⟩ := o_b h
  refine v_getI e1 (by decide) (by decide) rfl qf_RX11_67 dX11_fail_1 rfl ?_
  refine v_istore_n [(1, .int v1), (0, .ref a0)] dX11_fail_4 rfl (by decide) rfl ?_
  refine v_aload_n 1 rfl dX11_fail_5 rfl ?_
  refine v_iconst (v := (0 : Int32)) (by decide) dX11_fail_6 rfl ?_
  obtain ⟨s7, e7, h⟩ := o_b h
  refine v_putI e7 (by decide) (by decide) rfl rfl rfl rfl rfl qf_RX11_67 dX11_fail_7 rfl ?_
  refine v_iload_n 0 rfl dX11_fail_10 rfl ?_
  obtain ⟨⟨⟩, e11, h⟩ := o_b h
  obtain ⟨rfl, rfl⟩ := o_s h
  exact v_iret rfl (gz_of e11) (Nat.le_of_ble_eq_true rfl) (Nat.le_of_ble_eq_true rfl) dX11_fail_11
def rm_X11_install : Room := { frames := 0, cells := 0, slots := 0, locals := 0 }
set_option maxRecDepth 100000 in
set_option maxHeartbeats 4000000 in
theorem k_X11_install {G : Gm} {μ : Mu} {o : Int64} {r : Int32} {σ' : Hp} {σ : Hp} {a0 : Nat} (h : f_X11_install σ a0 = some (r, σ')) : Ci G yX11_install cX11_install 1 (some .int) rm_X11_install [.ref a0] (σ, μ, o) r (σ', μ, o) 0 0 := by
  refine v_entI [(0, .ref a0)] (by decide +kernel) (Nat.le_of_ble_eq_true rfl) rfl ?_
  unfold f_X11_install at h
  refine v_aload_n 0 rfl dX11_install_0 rfl ?_
  refine v_iconst (v := (1 : Int32)) (by decide) dX11_install_1 rfl ?_
  obtain ⟨s2, e2, h⟩ := o_b h
  refine v_putI e2 (by decide) (by decide) rfl rfl rfl rfl rfl qf_RX11_67 dX11_install_2 rfl ?_
  refine v_aload_n 0 rfl dX11_install_5 rfl ?_
  refine v_dup rfl dX11_install_6 rfl ?_
  obtain ⟨v7, e7, h⟩ := o_b h
  refine v_getI e7 (by decide) (by decide) rfl qf_RX11_71 dX11_install_7 rfl ?_
  refine v_iconst (v := (1 : Int32)) (by decide) dX11_install_10 rfl ?_
  refine v_iadd dX11_install_11 rfl ?_
  obtain ⟨s12, e12, h⟩ := o_b h
  refine v_putI e12 (by decide) (by decide) rfl rfl rfl rfl rfl qf_RX11_71 dX11_install_12 rfl ?_
  refine v_aload_n 0 rfl dX11_install_15 rfl ?_
  refine v_iconst (v := (0 : Int32)) (by decide) dX11_install_16 rfl ?_
  obtain ⟨s17, e17, h⟩ := o_b h
  refine v_putI e17 (by decide) (by decide) rfl rfl rfl rfl rfl qf_RX11_199 dX11_install_17 rfl ?_
  refine v_aload_n 0 rfl dX11_install_20 rfl ?_
  obtain ⟨v21, e21, h⟩ := o_b h
  refine v_getI e21 (by decide) (by decide) rfl qf_RX11_71 dX11_install_21 rfl ?_
  obtain ⟨rfl, rfl⟩ := o_s h
  exact v_iret rfl rfl (Nat.le_of_ble_eq_true rfl) (Nat.le_of_ble_eq_true rfl) dX11_install_24
def rm_X11_replica : Room := { frames := 1, cells := 0, slots := 0, locals := 21 }
set_option maxRecDepth 100000 in
set_option maxHeartbeats 4000000 in
theorem k_X11_replica {G : Gm} {μ : Mu} {o : Int64} {r : Int32} {σ : Hp} {a0 : Nat} {a1 : Int32} {a2 : Int32} (h : f_X11_replica σ a0 a1 a2 = some r) : Ci G yX11_replica cX11_replica 4 (some .int) rm_X11_replica [.ref a0, .int a1, .int a2] (σ, μ, o) r (σ, μ, o) 0 0 := by
  refine v_entI [(0, .ref a0), (1, .int a1), (2, .int a2)] (by decide +kernel) (Nat.le_of_ble_eq_true rfl) rfl ?_
  unfold f_X11_replica at h
  refine v_aload_n 0 rfl dX11_replica_0 rfl ?_
  refine v_iload_n 1 rfl dX11_replica_1 rfl ?_
  obtain ⟨⟨⟩, g2, h⟩ := o_b h
  obtain ⟨v2, e2, h⟩ := o_b h
  refine v_Vi (as := [.int a1]) (st := []) (c' := 0) (k' := 0) (k_X11_isReplica e2) (rcv_c g2 (by decide) rfl) mk_X11_isReplica qi_X11_isReplica qe_X11_isReplica qm_RX11_143 (ck rfl) rfl dX11_replica_2 rfl rfl rfl ?_
  refine v_if_ne 10 dX11_replica_5 (by decide) rfl (fun c5 => ?_) (fun c5 => ?_)
  · have h := o_n c5 h
    refine v_aload_n 0 rfl dX11_replica_10 rfl ?_
    obtain ⟨v11, e11, h⟩ := o_b h
    refine v_getR e11 (by decide) (by decide) rfl qf_RX11_51 dX11_replica_11 rfl ?_
    refine v_iload_n 1 rfl dX11_replica_14 rfl ?_
    obtain ⟨v15, e15, h⟩ := o_b h
    refine v_aR e15 (by decide) (by decide) rfl dX11_replica_15 rfl ?_
    refine v_astore_n [(3, .ref v15), (0, .ref a0), (1, .int a1), (2, .int a2)] dX11_replica_16 rfl (by decide) rfl ?_
    refine v_iload_n 3 rfl dX11_replica_17 rfl ?_
    by_cases c18_0 : a2 = (0 : Int32)
    · have h := o_p c18_0 h
      refine v_tableIn 76 dX11_replica_18 (by rw [c18_0]; decide) (by rw [c18_0]; decide) (by rw [c18_0]; rfl) (by decide) ?_
      refine v_aload_n 0 rfl dX11_replica_76 rfl ?_
      obtain ⟨v77, e77, h⟩ := o_b h
      refine v_getI e77 (by decide) (by decide) rfl qf_RX11_148 dX11_replica_77 rfl ?_
      refine v_if_eq 87 dX11_replica_80 (by decide) rfl (fun c80 => ?_) (fun c80 => ?_)
      · have h := o_p c80 h
        refine v_iconst (v := (0 : Int32)) (by decide) dX11_replica_87 rfl ?_
        obtain rfl := Option.some.inj h
        exact v_iret rfl rfl (Nat.le_of_ble_eq_true rfl) (Nat.le_of_ble_eq_true rfl) dX11_replica_88
      · have h := o_n c80 h
        refine v_iconst (v := (1 : Int32)) (by decide) dX11_replica_83 rfl ?_
        refine v_goto (q := 88) dX11_replica_84 (by decide) ?_
        obtain rfl := Option.some.inj h
        exact v_iret rfl rfl (Nat.le_of_ble_eq_true rfl) (Nat.le_of_ble_eq_true rfl) dX11_replica_88
    replace h := o_n c18_0 h
    by_cases c18_1 : a2 = (1 : Int32)
    · have h := o_p c18_1 h
      refine v_tableIn 89 dX11_replica_18 (by rw [c18_1]; decide) (by rw [c18_1]; decide) (by rw [c18_1]; rfl) (by decide) ?_
      refine v_aload_n 0 rfl dX11_replica_89 rfl ?_
      obtain ⟨v90, e90, h⟩ := o_b h
      refine v_getI e90 (by decide) (by decide) rfl qf_RX11_191 dX11_replica_90 rfl ?_
      obtain rfl := Option.some.inj h
      exact v_iret rfl rfl (Nat.le_of_ble_eq_true rfl) (Nat.le_of_ble_eq_true rfl) dX11_replica_93
    replace h := o_n c18_1 h
    by_cases c18_2 : a2 = (2 : Int32)
    · have h := o_p c18_2 h
      refine v_tableIn 94 dX11_replica_18 (by rw [c18_2]; decide) (by rw [c18_2]; decide) (by rw [c18_2]; rfl) (by decide) ?_
      refine v_aload_n 0 rfl dX11_replica_94 rfl ?_
      obtain ⟨v95, e95, h⟩ := o_b h
      refine v_getR e95 (by decide) (by decide) rfl qf_RX11_166 dX11_replica_95 rfl ?_
      obtain ⟨v98, e98, h⟩ := o_b h
      refine v_getI e98 (by decide) (by decide) rfl qf_RX11_170 dX11_replica_98 rfl ?_
      obtain rfl := Option.some.inj h
      exact v_iret rfl rfl (Nat.le_of_ble_eq_true rfl) (Nat.le_of_ble_eq_true rfl) dX11_replica_101
    replace h := o_n c18_2 h
    by_cases c18_3 : a2 = (3 : Int32)
    · have h := o_p c18_3 h
      refine v_tableIn 102 dX11_replica_18 (by rw [c18_3]; decide) (by rw [c18_3]; decide) (by rw [c18_3]; rfl) (by decide) ?_
      refine v_aload_n 0 rfl dX11_replica_102 rfl ?_
      obtain ⟨v103, e103, h⟩ := o_b h
      refine v_getR e103 (by decide) (by decide) rfl qf_RX11_166 dX11_replica_103 rfl ?_
      obtain ⟨v106, e106, h⟩ := o_b h
      refine v_getI e106 (by decide) (by decide) rfl qf_RX11_173 dX11_replica_106 rfl ?_
      obtain rfl := Option.some.inj h
      exact v_iret rfl rfl (Nat.le_of_ble_eq_true rfl) (Nat.le_of_ble_eq_true rfl) dX11_replica_109
    replace h := o_n c18_3 h
    by_cases c18_4 : a2 = (4 : Int32)
    · have h := o_p c18_4 h
      refine v_tableIn 110 dX11_replica_18 (by rw [c18_4]; decide) (by rw [c18_4]; decide) (by rw [c18_4]; rfl) (by decide) ?_
      refine v_aload_n 0 rfl dX11_replica_110 rfl ?_
      obtain ⟨v111, e111, h⟩ := o_b h
      refine v_getI e111 (by decide) (by decide) rfl qf_RX11_202 dX11_replica_111 rfl ?_
      obtain rfl := Option.some.inj h
      exact v_iret rfl rfl (Nat.le_of_ble_eq_true rfl) (Nat.le_of_ble_eq_true rfl) dX11_replica_114
    replace h := o_n c18_4 h
    by_cases c18_5 : a2 = (5 : Int32)
    · have h := o_p c18_5 h
      refine v_tableIn 115 dX11_replica_18 (by rw [c18_5]; decide) (by rw [c18_5]; decide) (by rw [c18_5]; rfl) (by decide) ?_
      refine v_aload_n 0 rfl dX11_replica_115 rfl ?_
      obtain ⟨v116, e116, h⟩ := o_b h
      refine v_getR e116 (by decide) (by decide) rfl qf_RX11_205 dX11_replica_116 rfl ?_
      obtain ⟨v119, e119, h⟩ := o_b h
      refine v_getI e119 (by decide) (by decide) rfl qf_RX11_209 dX11_replica_119 rfl ?_
      obtain rfl := Option.some.inj h
      exact v_iret rfl rfl (Nat.le_of_ble_eq_true rfl) (Nat.le_of_ble_eq_true rfl) dX11_replica_122
    replace h := o_n c18_5 h
    by_cases c18_6 : a2 = (6 : Int32)
    · have h := o_p c18_6 h
      refine v_tableIn 123 dX11_replica_18 (by rw [c18_6]; decide) (by rw [c18_6]; decide) (by rw [c18_6]; rfl) (by decide) ?_
      refine v_aload_n 0 rfl dX11_replica_123 rfl ?_
      obtain ⟨v124, e124, h⟩ := o_b h
      refine v_getI e124 (by decide) (by decide) rfl qf_RX11_214 dX11_replica_124 rfl ?_
      obtain rfl := Option.some.inj h
      exact v_iret rfl rfl (Nat.le_of_ble_eq_true rfl) (Nat.le_of_ble_eq_true rfl) dX11_replica_127
    replace h := o_n c18_6 h
    by_cases c18_7 : a2 = (7 : Int32)
    · have h := o_p c18_7 h
      refine v_tableIn 128 dX11_replica_18 (by rw [c18_7]; decide) (by rw [c18_7]; decide) (by rw [c18_7]; rfl) (by decide) ?_
      refine v_aload_n 0 rfl dX11_replica_128 rfl ?_
      obtain ⟨v129, e129, h⟩ := o_b h
      refine v_getR e129 (by decide) (by decide) rfl qf_RX11_217 dX11_replica_129 rfl ?_
      obtain ⟨v132, e132, h⟩ := o_b h
      refine v_getI e132 (by decide) (by decide) rfl qf_RX11_221 dX11_replica_132 rfl ?_
      obtain rfl := Option.some.inj h
      exact v_iret rfl rfl (Nat.le_of_ble_eq_true rfl) (Nat.le_of_ble_eq_true rfl) dX11_replica_135
    replace h := o_n c18_7 h
    by_cases c18_8 : a2 = (8 : Int32)
    · have h := o_p c18_8 h
      refine v_tableIn 136 dX11_replica_18 (by rw [c18_8]; decide) (by rw [c18_8]; decide) (by rw [c18_8]; rfl) (by decide) ?_
      refine v_aload_n 0 rfl dX11_replica_136 rfl ?_
      obtain ⟨v137, e137, h⟩ := o_b h
      refine v_getR e137 (by decide) (by decide) rfl qf_RX11_224 dX11_replica_137 rfl ?_
      obtain ⟨v140, e140, h⟩ := o_b h
      refine v_getI e140 (by decide) (by decide) rfl qf_RX11_170 dX11_replica_140 rfl ?_
      obtain rfl := Option.some.inj h
      exact v_iret rfl rfl (Nat.le_of_ble_eq_true rfl) (Nat.le_of_ble_eq_true rfl) dX11_replica_143
    replace h := o_n c18_8 h
    by_cases c18_9 : a2 = (9 : Int32)
    · have h := o_p c18_9 h
      refine v_tableIn 144 dX11_replica_18 (by rw [c18_9]; decide) (by rw [c18_9]; decide) (by rw [c18_9]; rfl) (by decide) ?_
      refine v_aload_n 0 rfl dX11_replica_144 rfl ?_
      obtain ⟨v145, e145, h⟩ := o_b h
      refine v_getR e145 (by decide) (by decide) rfl qf_RX11_224 dX11_replica_145 rfl ?_
      obtain ⟨v148, e148, h⟩ := o_b h
      refine v_getI e148 (by decide) (by decide) rfl qf_RX11_173 dX11_replica_148 rfl ?_
      obtain rfl := Option.some.inj h
      exact v_iret rfl rfl (Nat.le_of_ble_eq_true rfl) (Nat.le_of_ble_eq_true rfl) dX11_replica_151
    replace h := o_n c18_9 h
    by_cases c18_10 : a2 = (10 : Int32)
    · have h := o_p c18_10 h
      refine v_tableIn 152 dX11_replica_18 (by rw [c18_10]; decide) (by rw [c18_10]; decide) (by rw [c18_10]; rfl) (by decide) ?_
      refine v_aload_n 0 rfl dX11_replica_152 rfl ?_
      obtain ⟨v153, e153, h⟩ := o_b h
      refine v_getI e153 (by decide) (by decide) rfl qf_RX11_227 dX11_replica_153 rfl ?_
      obtain rfl := Option.some.inj h
      exact v_iret rfl rfl (Nat.le_of_ble_eq_true rfl) (Nat.le_of_ble_eq_true rfl) dX11_replica_156
    replace h := o_n c18_10 h
    refine v_tableOut 157 dX11_replica_18 (sw_out 0 10 (fun i h1 h2 => by rcases (show i = 0 ∨ i = 1 ∨ i = 2 ∨ i = 3 ∨ i = 4 ∨ i = 5 ∨ i = 6 ∨ i = 7 ∨ i = 8 ∨ i = 9 ∨ i = 10 by omega) with rfl | rfl | rfl | rfl | rfl | rfl | rfl | rfl | rfl | rfl | rfl <;> first | exact c18_0 | exact c18_1 | exact c18_2 | exact c18_3 | exact c18_4 | exact c18_5 | exact c18_6 | exact c18_7 | exact c18_8 | exact c18_9 | exact c18_10)) (by decide) ?_
    refine v_iconst (v := (-1 : Int32)) (by decide) dX11_replica_157 rfl ?_
    obtain rfl := Option.some.inj h
    exact v_iret rfl rfl (Nat.le_of_ble_eq_true rfl) (Nat.le_of_ble_eq_true rfl) dX11_replica_158
  · have h := o_p c5 h
    refine v_iconst (v := (-1 : Int32)) (by decide) dX11_replica_8 rfl ?_
    obtain rfl := Option.some.inj h
    exact v_iret rfl rfl (Nat.le_of_ble_eq_true rfl) (Nat.le_of_ble_eq_true rfl) dX11_replica_9
def rm_X11_entry : Room := { frames := 1, cells := 0, slots := 0, locals := 21 }
set_option maxRecDepth 100000 in
set_option maxHeartbeats 4000000 in
theorem l_X11_entry_75 {G : Gm} {μ : Mu} {o : Int64} {r : Int32} {σ : Hp} {x0 : Nat} {x3 : Int32} {x5 : Int32} (h : f_X11_entry_75 σ x0 x3 x5 = some r) : V G yX11_entry cX11_entry 6 (some .int) rm_X11_entry (zI G r (σ, μ, o) 0 0) (σ, μ, o) 0 0 75 [(0, .ref x0), (3, .int x3), (5, .int x5)] [] := by
  unfold f_X11_entry_75 at h
  refine v_iload_n 1 rfl dX11_entry_75 rfl ?_
  refine v_iconst (v := (5 : Int32)) (by decide) dX11_entry_76 rfl ?_
  refine v_icmp_ne 100 dX11_entry_77 (by decide) rfl (fun c77 => ?_) (fun c77 => ?_)
  · have h := o_n c77 h
    refine v_iload 2 rfl dX11_entry_100 rfl ?_
    refine v_if_ne 107 dX11_entry_102 (by decide) rfl (fun c102 => ?_) (fun c102 => ?_)
    · have h := o_n c102 h
      refine v_iload_n 1 rfl dX11_entry_107 rfl ?_
      by_cases c108_0 : x3 = (1 : Int32)
      · have h := o_p c108_0 h
        refine v_tableIn 140 dX11_entry_108 (by rw [c108_0]; decide) (by rw [c108_0]; decide) (by rw [c108_0]; rfl) (by decide) ?_
        refine v_aload_n 0 rfl dX11_entry_140 rfl ?_
        obtain ⟨v141, e141, h⟩ := o_b h
        refine v_getR e141 (by decide) (by decide) rfl qf_RX11_22 dX11_entry_141 rfl ?_
        obtain ⟨v144, e144, h⟩ := o_b h
        refine v_getR e144 (by decide) (by decide) rfl qf_RX11_240 dX11_entry_144 rfl ?_
        refine v_iload 2 rfl dX11_entry_147 rfl ?_
        obtain ⟨v149, e149, h⟩ := o_b h
        refine v_aI e149 dX11_entry_149 rfl ?_
        obtain rfl := Option.some.inj h
        exact v_iret rfl rfl (Nat.le_of_ble_eq_true rfl) (Nat.le_of_ble_eq_true rfl) dX11_entry_150
      replace h := o_n c108_0 h
      by_cases c108_1 : x3 = (2 : Int32)
      · have h := o_p c108_1 h
        refine v_tableIn 151 dX11_entry_108 (by rw [c108_1]; decide) (by rw [c108_1]; decide) (by rw [c108_1]; rfl) (by decide) ?_
        refine v_aload_n 0 rfl dX11_entry_151 rfl ?_
        obtain ⟨v152, e152, h⟩ := o_b h
        refine v_getR e152 (by decide) (by decide) rfl qf_RX11_22 dX11_entry_152 rfl ?_
        obtain ⟨v155, e155, h⟩ := o_b h
        refine v_getR e155 (by decide) (by decide) rfl qf_RX11_243 dX11_entry_155 rfl ?_
        refine v_iload 2 rfl dX11_entry_158 rfl ?_
        obtain ⟨v160, e160, h⟩ := o_b h
        refine v_aI e160 dX11_entry_160 rfl ?_
        obtain rfl := Option.some.inj h
        exact v_iret rfl rfl (Nat.le_of_ble_eq_true rfl) (Nat.le_of_ble_eq_true rfl) dX11_entry_161
      replace h := o_n c108_1 h
      by_cases c108_2 : x3 = (3 : Int32)
      · have h := o_p c108_2 h
        refine v_tableIn 162 dX11_entry_108 (by rw [c108_2]; decide) (by rw [c108_2]; decide) (by rw [c108_2]; rfl) (by decide) ?_
        refine v_aload_n 0 rfl dX11_entry_162 rfl ?_
        obtain ⟨v163, e163, h⟩ := o_b h
        refine v_getR e163 (by decide) (by decide) rfl qf_RX11_22 dX11_entry_163 rfl ?_
        obtain ⟨v166, e166, h⟩ := o_b h
        refine v_getR e166 (by decide) (by decide) rfl qf_RX11_246 dX11_entry_166 rfl ?_
        refine v_iload 2 rfl dX11_entry_169 rfl ?_
        obtain ⟨v171, e171, h⟩ := o_b h
        refine v_aI e171 dX11_entry_171 rfl ?_
        obtain rfl := Option.some.inj h
        exact v_iret rfl rfl (Nat.le_of_ble_eq_true rfl) (Nat.le_of_ble_eq_true rfl) dX11_entry_172
      replace h := o_n c108_2 h
      by_cases c108_3 : x3 = (4 : Int32)
      · have h := o_p c108_3 h
        refine v_tableIn 173 dX11_entry_108 (by rw [c108_3]; decide) (by rw [c108_3]; decide) (by rw [c108_3]; rfl) (by decide) ?_
        refine v_aload_n 0 rfl dX11_entry_173 rfl ?_
        obtain ⟨v174, e174, h⟩ := o_b h
        refine v_getR e174 (by decide) (by decide) rfl qf_RX11_22 dX11_entry_174 rfl ?_
        obtain ⟨v177, e177, h⟩ := o_b h
        refine v_getR e177 (by decide) (by decide) rfl qf_RX11_249 dX11_entry_177 rfl ?_
        refine v_iload 2 rfl dX11_entry_180 rfl ?_
        obtain ⟨v182, e182, h⟩ := o_b h
        refine v_aI e182 dX11_entry_182 rfl ?_
        obtain rfl := Option.some.inj h
        exact v_iret rfl rfl (Nat.le_of_ble_eq_true rfl) (Nat.le_of_ble_eq_true rfl) dX11_entry_183
      replace h := o_n c108_3 h
      refine v_tableOut 184 dX11_entry_108 (sw_out 1 4 (fun i h1 h2 => by rcases (show i = 1 ∨ i = 2 ∨ i = 3 ∨ i = 4 by omega) with rfl | rfl | rfl | rfl <;> first | exact c108_0 | exact c108_1 | exact c108_2 | exact c108_3)) (by decide) ?_
      refine v_iconst (v := (-1 : Int32)) (by decide) dX11_entry_184 rfl ?_
      obtain rfl := Option.some.inj h
      exact v_iret rfl rfl (Nat.le_of_ble_eq_true rfl) (Nat.le_of_ble_eq_true rfl) dX11_entry_185
    · have h := o_p c102 h
      refine v_iconst (v := (-1 : Int32)) (by decide) dX11_entry_105 rfl ?_
      obtain rfl := Option.some.inj h
      exact v_iret rfl rfl (Nat.le_of_ble_eq_true rfl) (Nat.le_of_ble_eq_true rfl) dX11_entry_106
  · have h := o_p c77 h
    refine v_iload 2 rfl dX11_entry_80 rfl ?_
    refine v_if_ne 89 dX11_entry_82 (by decide) rfl (fun c82 => ?_) (fun c82 => ?_)
    · have h := o_n c82 h
      refine v_aload_n 0 rfl dX11_entry_89 rfl ?_
      obtain ⟨v90, e90, h⟩ := o_b h
      refine v_getR e90 (by decide) (by decide) rfl qf_RX11_22 dX11_entry_90 rfl ?_
      obtain ⟨v93, e93, h⟩ := o_b h
      refine v_getR e93 (by decide) (by decide) rfl qf_RX11_236 dX11_entry_93 rfl ?_
      refine v_iload 2 rfl dX11_entry_96 rfl ?_
      obtain ⟨v98, e98, h⟩ := o_b h
      refine v_aI e98 dX11_entry_98 rfl ?_
      obtain rfl := Option.some.inj h
      exact v_iret rfl rfl (Nat.le_of_ble_eq_true rfl) (Nat.le_of_ble_eq_true rfl) dX11_entry_99
    · have h := o_p c82 h
      refine v_iconst (v := (0 : Int32)) (by decide) dX11_entry_85 rfl ?_
      refine v_goto (q := 99) dX11_entry_86 (by decide) ?_
      obtain rfl := Option.some.inj h
      exact v_iret rfl rfl (Nat.le_of_ble_eq_true rfl) (Nat.le_of_ble_eq_true rfl) dX11_entry_99
set_option maxRecDepth 100000 in
set_option maxHeartbeats 4000000 in
theorem l_X11_entry_53 {G : Gm} {μ : Mu} {o : Int64} {r : Int32} {σ : Hp} {x0 : Nat} {x3 : Int32} {x4 : Int32} {y0 : Int32} (h : f_X11_entry_53 σ x0 x3 x4 y0 = some r) : V G yX11_entry cX11_entry 6 (some .int) rm_X11_entry (zI G r (σ, μ, o) 0 0) (σ, μ, o) 0 0 53 [(0, .ref x0), (3, .int x3), (4, .int x4)] [.int y0] := by
  unfold f_X11_entry_53 at h
  refine v_istore [(5, .int y0), (0, .ref x0), (3, .int x3), (4, .int x4)] dX11_entry_53 rfl (by decide) rfl ?_
  refine v_iload_n 2 rfl dX11_entry_55 rfl ?_
  refine v_if_ne 75 dX11_entry_56 (by decide) rfl (fun c56 => ?_) (fun c56 => ?_)
  · have h := o_n c56 h
    refine v_sub [1, 2, 0] rfl ?_
    exact l_X11_entry_75 h
  · have h := o_p c56 h
    refine v_iload 3 rfl dX11_entry_59 rfl ?_
    refine v_if_eq 75 dX11_entry_61 (by decide) rfl (fun c61 => ?_) (fun c61 => ?_)
    · have h := o_p c61 h
      refine v_sub [1, 2, 0] rfl ?_
      exact l_X11_entry_75 h
    · have h := o_n c61 h
      refine v_iload 0 rfl dX11_entry_64 rfl ?_
      refine v_if_ne 73 dX11_entry_66 (by decide) rfl (fun c66 => ?_) (fun c66 => ?_)
      · have h := o_n c66 h
        refine v_iconst (v := (1 : Int32)) (by decide) dX11_entry_73 rfl ?_
        obtain rfl := Option.some.inj h
        exact v_iret rfl rfl (Nat.le_of_ble_eq_true rfl) (Nat.le_of_ble_eq_true rfl) dX11_entry_74
      · have h := o_p c66 h
        refine v_iconst (v := (0 : Int32)) (by decide) dX11_entry_69 rfl ?_
        refine v_goto (q := 74) dX11_entry_70 (by decide) ?_
        obtain rfl := Option.some.inj h
        exact v_iret rfl rfl (Nat.le_of_ble_eq_true rfl) (Nat.le_of_ble_eq_true rfl) dX11_entry_74
set_option maxRecDepth 100000 in
set_option maxHeartbeats 4000000 in
theorem l_X11_entry_29 {G : Gm} {μ : Mu} {o : Int64} {r : Int32} {σ : Hp} {x0 : Nat} {x1 : Int32} {x2 : Int32} {x3 : Int32} {y0 : Int32} (h : f_X11_entry_29 σ x0 x1 x2 x3 y0 = some r) : V G yX11_entry cX11_entry 6 (some .int) rm_X11_entry (zI G r (σ, μ, o) 0 0) (σ, μ, o) 0 0 29 [(0, .ref x0), (1, .int x1), (2, .int x2), (3, .int x3)] [.int y0] := by
  unfold f_X11_entry_29 at h
  refine v_istore [(4, .int y0), (0, .ref x0), (1, .int x1), (2, .int x2), (3, .int x3)] dX11_entry_29 rfl (by decide) rfl ?_
  refine v_iload 0 rfl dX11_entry_31 rfl ?_
  refine v_if_eq 52 dX11_entry_33 (by decide) rfl (fun c33 => ?_) (fun c33 => ?_)
  · have h := o_p c33 h
    refine v_iconst (v := (0 : Int32)) (by decide) dX11_entry_52 rfl ?_
    refine v_sub [1, 4, 0] rfl ?_
    exact l_X11_entry_53 h
  · have h := o_n c33 h
    refine v_aload_n 1 rfl dX11_entry_36 rfl ?_
    obtain ⟨v37, e37, h⟩ := o_b h
    refine v_getR e37 (by decide) (by decide) rfl qf_RX11_51 dX11_entry_37 rfl ?_
    refine v_iload_n 2 rfl dX11_entry_40 rfl ?_
    obtain ⟨v41, e41, h⟩ := o_b h
    refine v_aR e41 (by decide) (by decide) rfl dX11_entry_41 rfl ?_
    obtain ⟨v42, e42, h⟩ := o_b h
    refine v_getR e42 (by decide) (by decide) rfl qf_RX11_205 dX11_entry_42 rfl ?_
    refine v_iload_n 3 rfl dX11_entry_45 rfl ?_
    obtain ⟨⟨⟩, g46, h⟩ := o_b h
    obtain ⟨v46, e46, h⟩ := o_b h
    refine v_Vi (as := [.int x2]) (st := []) (c' := 0) (k' := 0) (k_X4_at e46) (rcv_c g46 (by decide) rfl) mk_X4_at qi_X4_at qe_X4_at qm_RX11_233 (ck rfl) rfl dX11_entry_46 rfl rfl rfl ?_
    refine v_goto (q := 53) dX11_entry_49 (by decide) ?_
    refine v_sub [1, 4, 0] rfl ?_
    exact l_X11_entry_53 h
set_option maxRecDepth 100000 in
set_option maxHeartbeats 4000000 in
theorem l_X11_entry_28 {G : Gm} {μ : Mu} {o : Int64} {r : Int32} {σ : Hp} {x0 : Nat} {x1 : Int32} {x2 : Int32} {x3 : Int32} (h : f_X11_entry_28 σ x0 x1 x2 x3 = some r) : V G yX11_entry cX11_entry 6 (some .int) rm_X11_entry (zI G r (σ, μ, o) 0 0) (σ, μ, o) 0 0 28 [(0, .ref x0), (1, .int x1), (2, .int x2), (3, .int x3)] [] := by
  unfold f_X11_entry_28 at h
  refine v_iconst (v := (0 : Int32)) (by decide) dX11_entry_28 rfl ?_
  exact l_X11_entry_29 h
set_option maxRecDepth 100000 in
set_option maxHeartbeats 4000000 in
theorem k_X11_entry {G : Gm} {μ : Mu} {o : Int64} {r : Int32} {σ : Hp} {a0 : Nat} {a1 : Int32} {a2 : Int32} {a3 : Int32} (h : f_X11_entry σ a0 a1 a2 a3 = some r) : Ci G yX11_entry cX11_entry 6 (some .int) rm_X11_entry [.ref a0, .int a1, .int a2, .int a3] (σ, μ, o) r (σ, μ, o) 0 0 := by
  refine v_entI [(0, .ref a0), (1, .int a1), (2, .int a2), (3, .int a3)] (by decide +kernel) (Nat.le_of_ble_eq_true rfl) rfl ?_
  unfold f_X11_entry at h
  refine v_aload_n 0 rfl dX11_entry_0 rfl ?_
  refine v_iload_n 1 rfl dX11_entry_1 rfl ?_
  obtain ⟨⟨⟩, g2, h⟩ := o_b h
  obtain ⟨v2, e2, h⟩ := o_b h
  refine v_Vi (as := [.int a1]) (st := []) (c' := 0) (k' := 0) (k_X11_isReplica e2) (rcv_c g2 (by decide) rfl) mk_X11_isReplica qi_X11_isReplica qe_X11_isReplica qm_RX11_143 (ck rfl) rfl dX11_entry_2 rfl rfl rfl ?_
  refine v_if_eq 28 dX11_entry_5 (by decide) rfl (fun c5 => ?_) (fun c5 => ?_)
  · have h := o_p c5 h
    exact l_X11_entry_28 h
  · have h := o_n c5 h
    refine v_aload_n 0 rfl dX11_entry_8 rfl ?_
    obtain ⟨v9, e9, h⟩ := o_b h
    refine v_getR e9 (by decide) (by decide) rfl qf_RX11_51 dX11_entry_9 rfl ?_
    refine v_iload_n 1 rfl dX11_entry_12 rfl ?_
    obtain ⟨v13, e13, h⟩ := o_b h
    refine v_aR e13 (by decide) (by decide) rfl dX11_entry_13 rfl ?_
    obtain ⟨v14, e14, h⟩ := o_b h
    refine v_getR e14 (by decide) (by decide) rfl qf_RX11_205 dX11_entry_14 rfl ?_
    refine v_iload_n 2 rfl dX11_entry_17 rfl ?_
    obtain ⟨⟨⟩, g18, h⟩ := o_b h
    obtain ⟨v18, e18, h⟩ := o_b h
    refine v_Vi (as := [.int a2]) (st := []) (c' := 0) (k' := 0) (k_X4_has e18) (rcv_c g18 (by decide) rfl) mk_X4_has qi_X4_has qe_X4_has qm_RX11_230 (ck rfl) rfl dX11_entry_18 rfl rfl rfl ?_
    refine v_if_eq 28 dX11_entry_21 (by decide) rfl (fun c21 => ?_) (fun c21 => ?_)
    · have h := o_p c21 h
      exact l_X11_entry_28 h
    · have h := o_n c21 h
      refine v_iconst (v := (1 : Int32)) (by decide) dX11_entry_24 rfl ?_
      refine v_goto (q := 29) dX11_entry_25 (by decide) ?_
      exact l_X11_entry_29 h
def rm_X11_word : Room := { frames := 3, cells := 0, slots := 0, locals := 62 }
set_option maxRecDepth 100000 in
set_option maxHeartbeats 4000000 in
theorem k_X11_word {G : Gm} {μ : Mu} {o : Int64} {r : Int32} {σ' : Hp} {σ : Hp} {a0 : Nat} {a1 : Int32} {a2 : Int32} (h : f_X11_word σ a0 a1 a2 = some (r, σ')) : Ci G yX11_word cX11_word 3 (some .int) rm_X11_word [.ref a0, .int a1, .int a2] (σ, μ, o) r (σ', μ, o) 0 0 := by
  refine v_entI [(0, .ref a0), (1, .int a1), (2, .int a2)] (by decide +kernel) (Nat.le_of_ble_eq_true rfl) rfl ?_
  unfold f_X11_word at h
  refine v_aload_n 0 rfl dX11_word_0 rfl ?_
  refine v_iload_n 1 rfl dX11_word_1 rfl ?_
  obtain ⟨⟨⟩, g2, h⟩ := o_b h
  obtain ⟨v2, e2, h⟩ := o_b h
  refine v_Vi (as := [.int a1]) (st := []) (c' := 0) (k' := 0) (k_X11_isReplica e2) (rcv_c g2 (by decide) rfl) mk_X11_isReplica qi_X11_isReplica qe_X11_isReplica qm_RX11_143 (ck rfl) rfl dX11_word_2 rfl rfl rfl ?_
  refine v_if_eq 16 dX11_word_5 (by decide) rfl (fun c5 => ?_) (fun c5 => ?_)
  · have h := o_p c5 h
    refine v_iconst (v := (0 : Int32)) (by decide) dX11_word_16 rfl ?_
    obtain ⟨rfl, rfl⟩ := o_s h
    exact v_iret rfl rfl (Nat.le_of_ble_eq_true rfl) (Nat.le_of_ble_eq_true rfl) dX11_word_17
  · have h := o_n c5 h
    refine v_aload_n 0 rfl dX11_word_8 rfl ?_
    refine v_iload_n 2 rfl dX11_word_9 rfl ?_
    obtain ⟨⟨⟩, g10, h⟩ := o_b h
    obtain ⟨v10, e10, h⟩ := o_b h
    refine v_Vi (as := [.int a2]) (st := []) (c' := 0) (k' := 0) (k_X11_isKey e10) (rcv_c g10 (by decide) rfl) mk_X11_isKey qi_X11_isKey qe_X11_isKey qm_RX11_78 (ck rfl) rfl dX11_word_10 rfl rfl rfl ?_
    refine v_if_ne 18 dX11_word_13 (by decide) rfl (fun c13 => ?_) (fun c13 => ?_)
    · have h := o_n c13 h
      refine v_aload_n 0 rfl dX11_word_18 rfl ?_
      obtain ⟨v19, e19, h⟩ := o_b h
      refine v_getR e19 (by decide) (by decide) rfl qf_RX11_31 dX11_word_19 rfl ?_
      refine v_aload_n 0 rfl dX11_word_22 rfl ?_
      obtain ⟨v23, e23, h⟩ := o_b h
      refine v_getR e23 (by decide) (by decide) rfl qf_RX11_51 dX11_word_23 rfl ?_
      refine v_iload_n 1 rfl dX11_word_26 rfl ?_
      obtain ⟨v27, e27, h⟩ := o_b h
      refine v_aR e27 (by decide) (by decide) rfl dX11_word_27 rfl ?_
      obtain ⟨v28, e28, h⟩ := o_b h
      refine v_getR e28 (by decide) (by decide) rfl qf_RX11_205 dX11_word_28 rfl ?_
      refine v_aload_n 0 rfl dX11_word_31 rfl ?_
      obtain ⟨v32, e32, h⟩ := o_b h
      refine v_getR e32 (by decide) (by decide) rfl qf_RX11_51 dX11_word_32 rfl ?_
      refine v_iload_n 1 rfl dX11_word_35 rfl ?_
      obtain ⟨v36, e36, h⟩ := o_b h
      refine v_aR e36 (by decide) (by decide) rfl dX11_word_36 rfl ?_
      obtain ⟨⟨⟩, g37, h⟩ := o_b h
      obtain ⟨v37, e37, h⟩ := o_b h
      refine v_Vi (as := []) (st := [.ref v28, .ref v19]) (c' := 0) (k' := 0) (k_X6_executed e37) (rcv_c g37 (by decide) rfl) mk_X6_executed qi_X6_executed qe_X6_executed qm_RX11_252 (ck rfl) rfl dX11_word_37 rfl rfl rfl ?_
      obtain ⟨⟨⟩, g40, h⟩ := o_b h
      obtain ⟨v40, e40, h⟩ := o_b h
      refine v_Vv (as := [.ref v28, .int v37]) (st := []) (c' := 0) (k' := 0) (k_X10_execute e40) (rcv_c g40 (by decide) rfl) mk_X10_execute qi_X10_execute qe_X10_execute qm_RX11_255 (ck rfl) rfl dX11_word_40 rfl rfl rfl ?_
      refine v_aload_n 0 rfl dX11_word_43 rfl ?_
      obtain ⟨v44, e44, h⟩ := o_b h
      refine v_getR e44 (by decide) (by decide) rfl qf_RX11_31 dX11_word_44 rfl ?_
      obtain ⟨v47, e47, h⟩ := o_b h
      refine v_getR e47 (by decide) (by decide) rfl qf_RX11_259 dX11_word_47 rfl ?_
      refine v_iload_n 2 rfl dX11_word_50 rfl ?_
      obtain ⟨v51, e51, h⟩ := o_b h
      refine v_aI e51 dX11_word_51 rfl ?_
      obtain ⟨rfl, rfl⟩ := o_s h
      exact v_iret rfl rfl (Nat.le_of_ble_eq_true rfl) (Nat.le_of_ble_eq_true rfl) dX11_word_52
    · have h := o_p c13 h
      refine v_iconst (v := (0 : Int32)) (by decide) dX11_word_16 rfl ?_
      obtain ⟨rfl, rfl⟩ := o_s h
      exact v_iret rfl rfl (Nat.le_of_ble_eq_true rfl) (Nat.le_of_ble_eq_true rfl) dX11_word_17
def rm_X11_client : Room := { frames := 1, cells := 0, slots := 0, locals := 21 }
set_option maxRecDepth 100000 in
set_option maxHeartbeats 4000000 in
theorem k_X11_client {G : Gm} {μ : Mu} {o : Int64} {r : Int32} {σ : Hp} {a0 : Nat} {a1 : Int32} {a2 : Int32} (h : f_X11_client σ a0 a1 a2 = some r) : Ci G yX11_client cX11_client 4 (some .int) rm_X11_client [.ref a0, .int a1, .int a2] (σ, μ, o) r (σ, μ, o) 0 0 := by
  refine v_entI [(0, .ref a0), (1, .int a1), (2, .int a2)] (by decide +kernel) (Nat.le_of_ble_eq_true rfl) rfl ?_
  unfold f_X11_client at h
  refine v_aload_n 0 rfl dX11_client_0 rfl ?_
  refine v_iload_n 1 rfl dX11_client_1 rfl ?_
  obtain ⟨⟨⟩, g2, h⟩ := o_b h
  obtain ⟨v2, e2, h⟩ := o_b h
  refine v_Vi (as := [.int a1]) (st := []) (c' := 0) (k' := 0) (k_X11_isClient e2) (rcv_c g2 (by decide) rfl) mk_X11_isClient qi_X11_isClient qe_X11_isClient qm_RX11_74 (ck rfl) rfl dX11_client_2 rfl rfl rfl ?_
  refine v_if_ne 10 dX11_client_5 (by decide) rfl (fun c5 => ?_) (fun c5 => ?_)
  · have h := o_n c5 h
    refine v_aload_n 0 rfl dX11_client_10 rfl ?_
    obtain ⟨v11, e11, h⟩ := o_b h
    refine v_getR e11 (by decide) (by decide) rfl qf_RX11_60 dX11_client_11 rfl ?_
    refine v_iload_n 1 rfl dX11_client_14 rfl ?_
    obtain ⟨v15, e15, h⟩ := o_b h
    refine v_aR e15 (by decide) (by decide) rfl dX11_client_15 rfl ?_
    refine v_astore_n [(3, .ref v15), (0, .ref a0), (1, .int a1), (2, .int a2)] dX11_client_16 rfl (by decide) rfl ?_
    refine v_iload_n 3 rfl dX11_client_17 rfl ?_
    refine v_if_ne 26 dX11_client_18 (by decide) rfl (fun c18 => ?_) (fun c18 => ?_)
    · have h := o_n c18 h
      refine v_iload_n 3 rfl dX11_client_26 rfl ?_
      refine v_iconst (v := (1 : Int32)) (by decide) dX11_client_27 rfl ?_
      refine v_icmp_ne 36 dX11_client_28 (by decide) rfl (fun c28 => ?_) (fun c28 => ?_)
      · have h := o_n c28 h
        refine v_aload_n 0 rfl dX11_client_36 rfl ?_
        obtain ⟨v37, e37, h⟩ := o_b h
        refine v_getI e37 (by decide) (by decide) rfl qf_RX11_93 dX11_client_37 rfl ?_
        refine v_iconst (v := (2 : Int32)) (by decide) dX11_client_40 rfl ?_
        refine v_icmp_eq 46 dX11_client_41 (by decide) rfl (fun c41 => ?_) (fun c41 => ?_)
        · have h := o_p c41 h
          refine v_iload_n 3 rfl dX11_client_46 rfl ?_
          by_cases c47_0 : a2 = (2 : Int32)
          · have h := o_p c47_0 h
            refine v_tableIn 72 dX11_client_47 (by rw [c47_0]; decide) (by rw [c47_0]; decide) (by rw [c47_0]; rfl) (by decide) ?_
            refine v_aload_n 0 rfl dX11_client_72 rfl ?_
            obtain ⟨v73, e73, h⟩ := o_b h
            refine v_getI e73 (by decide) (by decide) rfl qf_RX11_261 dX11_client_73 rfl ?_
            obtain rfl := Option.some.inj h
            exact v_iret rfl rfl (Nat.le_of_ble_eq_true rfl) (Nat.le_of_ble_eq_true rfl) dX11_client_76
          replace h := o_n c47_0 h
          by_cases c47_1 : a2 = (3 : Int32)
          · have h := o_p c47_1 h
            refine v_tableIn 77 dX11_client_47 (by rw [c47_1]; decide) (by rw [c47_1]; decide) (by rw [c47_1]; rfl) (by decide) ?_
            refine v_aload_n 0 rfl dX11_client_77 rfl ?_
            obtain ⟨v78, e78, h⟩ := o_b h
            refine v_getR e78 (by decide) (by decide) rfl qf_RX11_264 dX11_client_78 rfl ?_
            obtain ⟨v81, e81, h⟩ := o_b h
            refine v_getI e81 (by decide) (by decide) rfl qf_RX11_170 dX11_client_81 rfl ?_
            obtain rfl := Option.some.inj h
            exact v_iret rfl rfl (Nat.le_of_ble_eq_true rfl) (Nat.le_of_ble_eq_true rfl) dX11_client_84
          replace h := o_n c47_1 h
          by_cases c47_2 : a2 = (4 : Int32)
          · have h := o_p c47_2 h
            refine v_tableIn 85 dX11_client_47 (by rw [c47_2]; decide) (by rw [c47_2]; decide) (by rw [c47_2]; rfl) (by decide) ?_
            refine v_aload_n 0 rfl dX11_client_85 rfl ?_
            obtain ⟨v86, e86, h⟩ := o_b h
            refine v_getR e86 (by decide) (by decide) rfl qf_RX11_264 dX11_client_86 rfl ?_
            obtain ⟨v89, e89, h⟩ := o_b h
            refine v_getI e89 (by decide) (by decide) rfl qf_RX11_173 dX11_client_89 rfl ?_
            obtain rfl := Option.some.inj h
            exact v_iret rfl rfl (Nat.le_of_ble_eq_true rfl) (Nat.le_of_ble_eq_true rfl) dX11_client_92
          replace h := o_n c47_2 h
          refine v_tableOut 93 dX11_client_47 (sw_out 2 4 (fun i h1 h2 => by rcases (show i = 2 ∨ i = 3 ∨ i = 4 by omega) with rfl | rfl | rfl <;> first | exact c47_0 | exact c47_1 | exact c47_2)) (by decide) ?_
          refine v_iconst (v := (-1 : Int32)) (by decide) dX11_client_93 rfl ?_
          obtain rfl := Option.some.inj h
          exact v_iret rfl rfl (Nat.le_of_ble_eq_true rfl) (Nat.le_of_ble_eq_true rfl) dX11_client_94
        · have h := o_n c41 h
          refine v_iconst (v := (-1 : Int32)) (by decide) dX11_client_44 rfl ?_
          obtain rfl := Option.some.inj h
          exact v_iret rfl rfl (Nat.le_of_ble_eq_true rfl) (Nat.le_of_ble_eq_true rfl) dX11_client_45
      · have h := o_p c28 h
        refine v_aload_n 0 rfl dX11_client_31 rfl ?_
        obtain ⟨v32, e32, h⟩ := o_b h
        refine v_getI e32 (by decide) (by decide) rfl qf_RX11_93 dX11_client_32 rfl ?_
        obtain rfl := Option.some.inj h
        exact v_iret rfl rfl (Nat.le_of_ble_eq_true rfl) (Nat.le_of_ble_eq_true rfl) dX11_client_35
    · have h := o_p c18 h
      refine v_aload_n 0 rfl dX11_client_21 rfl ?_
      obtain ⟨v22, e22, h⟩ := o_b h
      refine v_getI e22 (by decide) (by decide) rfl qf_RX11_101 dX11_client_22 rfl ?_
      obtain rfl := Option.some.inj h
      exact v_iret rfl rfl (Nat.le_of_ble_eq_true rfl) (Nat.le_of_ble_eq_true rfl) dX11_client_25
  · have h := o_p c5 h
    refine v_iconst (v := (-1 : Int32)) (by decide) dX11_client_8 rfl ?_
    obtain rfl := Option.some.inj h
    exact v_iret rfl rfl (Nat.le_of_ble_eq_true rfl) (Nat.le_of_ble_eq_true rfl) dX11_client_9
def rm_X11_answer : Room := { frames := 1, cells := 0, slots := 0, locals := 21 }
set_option maxRecDepth 100000 in
set_option maxHeartbeats 4000000 in
theorem k_X11_answer {G : Gm} {μ : Mu} {o : Int64} {r : Int32} {σ : Hp} {a0 : Nat} {a1 : Int32} (h : f_X11_answer σ a0 a1 = some r) : Ci G yX11_answer cX11_answer 2 (some .int) rm_X11_answer [.ref a0, .int a1] (σ, μ, o) r (σ, μ, o) 0 0 := by
  refine v_entI [(0, .ref a0), (1, .int a1)] (by decide +kernel) (Nat.le_of_ble_eq_true rfl) rfl ?_
  unfold f_X11_answer at h
  refine v_aload_n 0 rfl dX11_answer_0 rfl ?_
  refine v_iload_n 1 rfl dX11_answer_1 rfl ?_
  obtain ⟨⟨⟩, g2, h⟩ := o_b h
  obtain ⟨v2, e2, h⟩ := o_b h
  refine v_Vi (as := [.int a1]) (st := []) (c' := 0) (k' := 0) (k_X11_isClient e2) (rcv_c g2 (by decide) rfl) mk_X11_isClient qi_X11_isClient qe_X11_isClient qm_RX11_74 (ck rfl) rfl dX11_answer_2 rfl rfl rfl ?_
  refine v_if_eq 20 dX11_answer_5 (by decide) rfl (fun c5 => ?_) (fun c5 => ?_)
  · have h := o_p c5 h
    refine v_iconst (v := (0 : Int32)) (by decide) dX11_answer_20 rfl ?_
    obtain rfl := Option.some.inj h
    exact v_iret rfl rfl (Nat.le_of_ble_eq_true rfl) (Nat.le_of_ble_eq_true rfl) dX11_answer_21
  · have h := o_n c5 h
    refine v_aload_n 0 rfl dX11_answer_8 rfl ?_
    obtain ⟨v9, e9, h⟩ := o_b h
    refine v_getR e9 (by decide) (by decide) rfl qf_RX11_60 dX11_answer_9 rfl ?_
    refine v_iload_n 1 rfl dX11_answer_12 rfl ?_
    obtain ⟨v13, e13, h⟩ := o_b h
    refine v_aR e13 (by decide) (by decide) rfl dX11_answer_13 rfl ?_
    obtain ⟨v14, e14, h⟩ := o_b h
    refine v_getI e14 (by decide) (by decide) rfl qf_RX11_267 dX11_answer_14 rfl ?_
    refine v_goto (q := 21) dX11_answer_17 (by decide) ?_
    obtain rfl := Option.some.inj h
    exact v_iret rfl rfl (Nat.le_of_ble_eq_true rfl) (Nat.le_of_ble_eq_true rfl) dX11_answer_21
def rm_X11_about : Room := { frames := 0, cells := 0, slots := 0, locals := 0 }
set_option maxRecDepth 100000 in
set_option maxHeartbeats 4000000 in
theorem k_X11_about {G : Gm} {μ : Mu} {o : Int64} {r : Int32} {σ : Hp} {a0 : Nat} {a1 : Int32} (h : f_X11_about σ a0 a1 = some r) : Ci G yX11_about cX11_about 2 (some .int) rm_X11_about [.ref a0, .int a1] (σ, μ, o) r (σ, μ, o) 0 0 := by
  refine v_entI [(0, .ref a0), (1, .int a1)] (by decide +kernel) (Nat.le_of_ble_eq_true rfl) rfl ?_
  unfold f_X11_about at h
  refine v_iload_n 1 rfl dX11_about_0 rfl ?_
  by_cases c1_0 : a1 = (0 : Int32)
  · have h := o_p c1_0 h
    refine v_tableIn 44 dX11_about_1 (by rw [c1_0]; decide) (by rw [c1_0]; decide) (by rw [c1_0]; rfl) (by decide) ?_
    refine v_aload_n 0 rfl dX11_about_44 rfl ?_
    obtain ⟨v45, e45, h⟩ := o_b h
    refine v_getR e45 (by decide) (by decide) rfl qf_RX11_38 dX11_about_45 rfl ?_
    obtain ⟨v48, e48, h⟩ := o_b h
    refine v_getI e48 (by decide) (by decide) rfl qf_RX11_140 dX11_about_48 rfl ?_
    obtain rfl := Option.some.inj h
    exact v_iret rfl rfl (Nat.le_of_ble_eq_true rfl) (Nat.le_of_ble_eq_true rfl) dX11_about_51
  replace h := o_n c1_0 h
  by_cases c1_1 : a1 = (1 : Int32)
  · have h := o_p c1_1 h
    refine v_tableIn 52 dX11_about_1 (by rw [c1_1]; decide) (by rw [c1_1]; decide) (by rw [c1_1]; rfl) (by decide) ?_
    refine v_aload_n 0 rfl dX11_about_52 rfl ?_
    obtain ⟨v53, e53, h⟩ := o_b h
    refine v_getR e53 (by decide) (by decide) rfl qf_RX11_38 dX11_about_53 rfl ?_
    obtain ⟨v56, e56, h⟩ := o_b h
    refine v_getI e56 (by decide) (by decide) rfl qf_RX11_181 dX11_about_56 rfl ?_
    obtain rfl := Option.some.inj h
    exact v_iret rfl rfl (Nat.le_of_ble_eq_true rfl) (Nat.le_of_ble_eq_true rfl) dX11_about_59
  replace h := o_n c1_1 h
  by_cases c1_2 : a1 = (2 : Int32)
  · have h := o_p c1_2 h
    refine v_tableIn 60 dX11_about_1 (by rw [c1_2]; decide) (by rw [c1_2]; decide) (by rw [c1_2]; rfl) (by decide) ?_
    refine v_aload_n 0 rfl dX11_about_60 rfl ?_
    obtain ⟨v61, e61, h⟩ := o_b h
    refine v_getR e61 (by decide) (by decide) rfl qf_RX11_38 dX11_about_61 rfl ?_
    obtain ⟨v64, e64, h⟩ := o_b h
    refine v_getI e64 (by decide) (by decide) rfl qf_RX11_135 dX11_about_64 rfl ?_
    obtain rfl := Option.some.inj h
    exact v_iret rfl rfl (Nat.le_of_ble_eq_true rfl) (Nat.le_of_ble_eq_true rfl) dX11_about_67
  replace h := o_n c1_2 h
  by_cases c1_3 : a1 = (3 : Int32)
  · have h := o_p c1_3 h
    refine v_tableIn 68 dX11_about_1 (by rw [c1_3]; decide) (by rw [c1_3]; decide) (by rw [c1_3]; rfl) (by decide) ?_
    refine v_aload_n 0 rfl dX11_about_68 rfl ?_
    obtain ⟨v69, e69, h⟩ := o_b h
    refine v_getI e69 (by decide) (by decide) rfl qf_RX11_67 dX11_about_69 rfl ?_
    refine v_if_eq 79 dX11_about_72 (by decide) rfl (fun c72 => ?_) (fun c72 => ?_)
    · have h := o_p c72 h
      refine v_iconst (v := (0 : Int32)) (by decide) dX11_about_79 rfl ?_
      obtain rfl := Option.some.inj h
      exact v_iret rfl rfl (Nat.le_of_ble_eq_true rfl) (Nat.le_of_ble_eq_true rfl) dX11_about_80
    · have h := o_n c72 h
      refine v_iconst (v := (1 : Int32)) (by decide) dX11_about_75 rfl ?_
      refine v_goto (q := 80) dX11_about_76 (by decide) ?_
      obtain rfl := Option.some.inj h
      exact v_iret rfl rfl (Nat.le_of_ble_eq_true rfl) (Nat.le_of_ble_eq_true rfl) dX11_about_80
  replace h := o_n c1_3 h
  by_cases c1_4 : a1 = (4 : Int32)
  · have h := o_p c1_4 h
    refine v_tableIn 81 dX11_about_1 (by rw [c1_4]; decide) (by rw [c1_4]; decide) (by rw [c1_4]; rfl) (by decide) ?_
    refine v_aload_n 0 rfl dX11_about_81 rfl ?_
    obtain ⟨v82, e82, h⟩ := o_b h
    refine v_getI e82 (by decide) (by decide) rfl qf_RX11_71 dX11_about_82 rfl ?_
    obtain rfl := Option.some.inj h
    exact v_iret rfl rfl (Nat.le_of_ble_eq_true rfl) (Nat.le_of_ble_eq_true rfl) dX11_about_85
  replace h := o_n c1_4 h
  by_cases c1_5 : a1 = (5 : Int32)
  · have h := o_p c1_5 h
    refine v_tableIn 86 dX11_about_1 (by rw [c1_5]; decide) (by rw [c1_5]; decide) (by rw [c1_5]; rfl) (by decide) ?_
    refine v_aload_n 0 rfl dX11_about_86 rfl ?_
    obtain ⟨v87, e87, h⟩ := o_b h
    refine v_getI e87 (by decide) (by decide) rfl qf_RX11_199 dX11_about_87 rfl ?_
    obtain rfl := Option.some.inj h
    exact v_iret rfl rfl (Nat.le_of_ble_eq_true rfl) (Nat.le_of_ble_eq_true rfl) dX11_about_90
  replace h := o_n c1_5 h
  by_cases c1_6 : a1 = (6 : Int32)
  · have h := o_p c1_6 h
    refine v_tableIn 91 dX11_about_1 (by rw [c1_6]; decide) (by rw [c1_6]; decide) (by rw [c1_6]; rfl) (by decide) ?_
    refine v_aload_n 0 rfl dX11_about_91 rfl ?_
    obtain ⟨v92, e92, h⟩ := o_b h
    refine v_getR e92 (by decide) (by decide) rfl qf_RX11_45 dX11_about_92 rfl ?_
    obtain ⟨v95, e95, h⟩ := o_b h
    refine v_getI e95 (by decide) (by decide) rfl qf_RX11_270 dX11_about_95 rfl ?_
    obtain rfl := Option.some.inj h
    exact v_iret rfl rfl (Nat.le_of_ble_eq_true rfl) (Nat.le_of_ble_eq_true rfl) dX11_about_98
  replace h := o_n c1_6 h
  refine v_tableOut 99 dX11_about_1 (sw_out 0 6 (fun i h1 h2 => by rcases (show i = 0 ∨ i = 1 ∨ i = 2 ∨ i = 3 ∨ i = 4 ∨ i = 5 ∨ i = 6 by omega) with rfl | rfl | rfl | rfl | rfl | rfl | rfl <;> first | exact c1_0 | exact c1_1 | exact c1_2 | exact c1_3 | exact c1_4 | exact c1_5 | exact c1_6)) (by decide) ?_
  refine v_iconst (v := (-1 : Int32)) (by decide) dX11_about_99 rfl ?_
  obtain rfl := Option.some.inj h
  exact v_iret rfl rfl (Nat.le_of_ble_eq_true rfl) (Nat.le_of_ble_eq_true rfl) dX11_about_100
def rm_X11_message : Room := { frames := 0, cells := 0, slots := 0, locals := 0 }
set_option maxRecDepth 100000 in
set_option maxHeartbeats 4000000 in
theorem k_X11_message {G : Gm} {μ : Mu} {o : Int64} {r : Int32} {σ : Hp} {a0 : Nat} {a1 : Int32} {a2 : Int32} (h : f_X11_message σ a0 a1 a2 = some r) : Ci G yX11_message cX11_message 4 (some .int) rm_X11_message [.ref a0, .int a1, .int a2] (σ, μ, o) r (σ, μ, o) 0 0 := by
  refine v_entI [(0, .ref a0), (1, .int a1), (2, .int a2)] (by decide +kernel) (Nat.le_of_ble_eq_true rfl) rfl ?_
  unfold f_X11_message at h
  refine v_iload_n 1 rfl dX11_message_0 rfl ?_
  refine v_if_lt 15 dX11_message_1 (by decide) rfl (fun c1 => ?_) (fun c1 => ?_)
  · have h := o_p c1 h
    refine v_iconst (v := (-1 : Int32)) (by decide) dX11_message_15 rfl ?_
    obtain rfl := Option.some.inj h
    exact v_iret rfl rfl (Nat.le_of_ble_eq_true rfl) (Nat.le_of_ble_eq_true rfl) dX11_message_16
  · have h := o_n c1 h
    refine v_iload_n 1 rfl dX11_message_4 rfl ?_
    refine v_aload_n 0 rfl dX11_message_5 rfl ?_
    obtain ⟨v6, e6, h⟩ := o_b h
    refine v_getR e6 (by decide) (by decide) rfl qf_RX11_38 dX11_message_6 rfl ?_
    obtain ⟨v9, e9, h⟩ := o_b h
    refine v_getI e9 (by decide) (by decide) rfl qf_RX11_140 dX11_message_9 rfl ?_
    refine v_icmp_lt 17 dX11_message_12 (by decide) rfl (fun c12 => ?_) (fun c12 => ?_)
    · have h := o_p c12 h
      refine v_aload_n 0 rfl dX11_message_17 rfl ?_
      obtain ⟨v18, e18, h⟩ := o_b h
      refine v_getR e18 (by decide) (by decide) rfl qf_RX11_38 dX11_message_18 rfl ?_
      obtain ⟨v21, e21, h⟩ := o_b h
      refine v_getR e21 (by decide) (by decide) rfl qf_RX11_273 dX11_message_21 rfl ?_
      refine v_iload_n 1 rfl dX11_message_24 rfl ?_
      obtain ⟨v25, e25, h⟩ := o_b h
      refine v_aR e25 (by decide) (by decide) rfl dX11_message_25 rfl ?_
      refine v_astore_n [(3, .ref v25), (0, .ref a0), (1, .int a1), (2, .int a2)] dX11_message_26 rfl (by decide) rfl ?_
      refine v_iload_n 3 rfl dX11_message_27 rfl ?_
      by_cases c28_0 : a2 = (0 : Int32)
      · have h := o_p c28_0 h
        refine v_tableIn 60 dX11_message_28 (by rw [c28_0]; decide) (by rw [c28_0]; decide) (by rw [c28_0]; rfl) (by decide) ?_
        refine v_aload_n 0 rfl dX11_message_60 rfl ?_
        obtain ⟨v61, e61, h⟩ := o_b h
        refine v_getI e61 (by decide) (by decide) rfl qf_RX11_277 dX11_message_61 rfl ?_
        obtain rfl := Option.some.inj h
        exact v_iret rfl rfl (Nat.le_of_ble_eq_true rfl) (Nat.le_of_ble_eq_true rfl) dX11_message_64
      replace h := o_n c28_0 h
      by_cases c28_1 : a2 = (1 : Int32)
      · have h := o_p c28_1 h
        refine v_tableIn 65 dX11_message_28 (by rw [c28_1]; decide) (by rw [c28_1]; decide) (by rw [c28_1]; rfl) (by decide) ?_
        refine v_aload_n 0 rfl dX11_message_65 rfl ?_
        obtain ⟨v66, e66, h⟩ := o_b h
        refine v_getI e66 (by decide) (by decide) rfl qf_RX11_281 dX11_message_66 rfl ?_
        obtain rfl := Option.some.inj h
        exact v_iret rfl rfl (Nat.le_of_ble_eq_true rfl) (Nat.le_of_ble_eq_true rfl) dX11_message_69
      replace h := o_n c28_1 h
      by_cases c28_2 : a2 = (2 : Int32)
      · have h := o_p c28_2 h
        refine v_tableIn 70 dX11_message_28 (by rw [c28_2]; decide) (by rw [c28_2]; decide) (by rw [c28_2]; rfl) (by decide) ?_
        refine v_aload_n 0 rfl dX11_message_70 rfl ?_
        obtain ⟨v71, e71, h⟩ := o_b h
        refine v_getI e71 (by decide) (by decide) rfl qf_RX11_283 dX11_message_71 rfl ?_
        obtain rfl := Option.some.inj h
        exact v_iret rfl rfl (Nat.le_of_ble_eq_true rfl) (Nat.le_of_ble_eq_true rfl) dX11_message_74
      replace h := o_n c28_2 h
      by_cases c28_3 : a2 = (3 : Int32)
      · have h := o_p c28_3 h
        refine v_tableIn 75 dX11_message_28 (by rw [c28_3]; decide) (by rw [c28_3]; decide) (by rw [c28_3]; rfl) (by decide) ?_
        refine v_aload_n 0 rfl dX11_message_75 rfl ?_
        obtain ⟨v76, e76, h⟩ := o_b h
        refine v_getI e76 (by decide) (by decide) rfl qf_RX11_286 dX11_message_76 rfl ?_
        obtain rfl := Option.some.inj h
        exact v_iret rfl rfl (Nat.le_of_ble_eq_true rfl) (Nat.le_of_ble_eq_true rfl) dX11_message_79
      replace h := o_n c28_3 h
      refine v_tableOut 80 dX11_message_28 (sw_out 0 3 (fun i h1 h2 => by rcases (show i = 0 ∨ i = 1 ∨ i = 2 ∨ i = 3 by omega) with rfl | rfl | rfl | rfl <;> first | exact c28_0 | exact c28_1 | exact c28_2 | exact c28_3)) (by decide) ?_
      refine v_iconst (v := (-1 : Int32)) (by decide) dX11_message_80 rfl ?_
      obtain rfl := Option.some.inj h
      exact v_iret rfl rfl (Nat.le_of_ble_eq_true rfl) (Nat.le_of_ble_eq_true rfl) dX11_message_81
    · have h := o_n c12 h
      refine v_iconst (v := (-1 : Int32)) (by decide) dX11_message_15 rfl ?_
      obtain rfl := Option.some.inj h
      exact v_iret rfl rfl (Nat.le_of_ble_eq_true rfl) (Nat.le_of_ble_eq_true rfl) dX11_message_16
def rm_X11_broken : Room := { frames := 3, cells := 0, slots := 0, locals := 66 }
set_option maxRecDepth 100000 in
set_option maxHeartbeats 4000000 in
theorem l_X11_broken_77 {G : Gm} {μ : Mu} {o : Int64} {r : Int32} {σ' : Hp} {rec17 : Hp → Nat → Nat → Int32 → Int32 → Option (Int32 × Hp)} (h17 : ∀ {σ : Hp} {x0 : Nat} {x1 : Nat} {x2 : Int32} {x3 : Int32} , rec17 σ x0 x1 x2 x3 = some (r, σ') → V G yX11_broken cX11_broken 5 (some .int) rm_X11_broken (zI G r (σ', μ, o) 0 0) (σ, μ, o) 0 0 17 [(0, .ref x0), (1, .ref x1), (2, .int x2), (3, .int x3)] []) {σ : Hp} {x0 : Nat} {x1 : Nat} {x2 : Int32} {x3 : Int32} (h : f_X11_broken_77 rec17 σ x0 x1 x2 x3 = some (r, σ')) : V G yX11_broken cX11_broken 5 (some .int) rm_X11_broken (zI G r (σ', μ, o) 0 0) (σ, μ, o) 0 0 77 [(0, .ref x0), (1, .ref x1), (2, .int x2), (3, .int x3)] [] := by
  unfold f_X11_broken_77 at h
  refine v_iinc (v := (x3 + 1)) [(3, .int (x3 + 1)), (0, .ref x0), (1, .ref x1), (2, .int x2)] 3 rfl rfl dX11_broken_77 rfl (by decide) rfl ?_
  refine v_goto (q := 17) dX11_broken_80 (by decide) ?_
  refine v_sub [1, 2, 3, 0] rfl ?_
  exact h17 h
set_option maxRecDepth 100000 in
set_option maxHeartbeats 4000000 in
theorem l_X11_broken_17 {G : Gm} {μ : Mu} {o : Int64} {r : Int32} {σ' : Hp} : ∀ (n : Nat) {σ : Hp} {x0 : Nat} {x1 : Nat} {x2 : Int32} {x3 : Int32} , f_X11_broken_17 n σ x0 x1 x2 x3 = some (r, σ') → V G yX11_broken cX11_broken 5 (some .int) rm_X11_broken (zI G r (σ', μ, o) 0 0) (σ, μ, o) 0 0 17 [(0, .ref x0), (1, .ref x1), (2, .int x2), (3, .int x3)] [] := by
  intro n
  induction n with
  | zero => intro _ _ _ _ _ h; cases h
  | succ n ih =>
    intro σ x0 x1 x2 x3 h
    replace h : b_X11_broken_17 (f_X11_broken_17 n) σ x0 x1 x2 x3 = some (r, σ') := h
    unfold b_X11_broken_17 at h
    refine v_iload_n 3 rfl dX11_broken_17 rfl ?_
    refine v_iload_n 2 rfl dX11_broken_18 rfl ?_
    refine v_icmp_ge 83 dX11_broken_19 (by decide) rfl (fun c19 => ?_) (fun c19 => ?_)
    · have h := o_p c19 h
      refine v_aload_n 0 rfl dX11_broken_83 rfl ?_
      obtain ⟨v84, e84, h⟩ := o_b h
      refine v_getR e84 (by decide) (by decide) rfl qf_RX11_45 dX11_broken_84 rfl ?_
      obtain ⟨⟨⟩, g87, h⟩ := o_b h
      obtain ⟨v87, e87, h⟩ := o_b h
      refine v_Vi (as := []) (st := []) (c' := 0) (k' := 0) (k_X0_marked e87) (rcv_c g87 (by decide) rfl) mk_X0_marked qi_X0_marked qe_X0_marked qm_RX11_296 (ck rfl) rfl dX11_broken_87 rfl rfl rfl ?_
      obtain ⟨rfl, rfl⟩ := o_s h
      exact v_iret rfl rfl (Nat.le_of_ble_eq_true rfl) (Nat.le_of_ble_eq_true rfl) dX11_broken_90
    · have h := o_n c19 h
      refine v_aload_n 1 rfl dX11_broken_22 rfl ?_
      refine v_iload_n 3 rfl dX11_broken_23 rfl ?_
      obtain ⟨v24, e24, h⟩ := o_b h
      refine v_aR e24 (by decide) (by decide) rfl dX11_broken_24 rfl ?_
      refine v_astore [(4, .ref v24), (0, .ref x0), (1, .ref x1), (2, .int x2), (3, .int x3)] dX11_broken_25 rfl (by decide) rfl ?_
      refine v_aload 0 rfl dX11_broken_27 rfl ?_
      obtain ⟨⟨⟩, g29, h⟩ := o_b h
      obtain ⟨v29, e29, h⟩ := o_b h
      refine v_Vi (as := []) (st := []) (c' := 0) (k' := 0) (k_X6_leads e29) (rcv_c g29 (by decide) rfl) mk_X6_leads qi_X6_leads qe_X6_leads qm_RX11_187 (ck rfl) rfl dX11_broken_29 rfl rfl rfl ?_
      refine v_if_eq 77 dX11_broken_32 (by decide) rfl (fun c32 => ?_) (fun c32 => ?_)
      · have h := o_p c32 h
        refine v_sub [1, 2, 3, 4] rfl ?_
        exact l_X11_broken_77 (fun h => ih h) h
      · have h := o_n c32 h
        refine v_aload 0 rfl dX11_broken_35 rfl ?_
        obtain ⟨v37, e37, h⟩ := o_b h
        refine v_getI e37 (by decide) (by decide) rfl qf_RX11_191 dX11_broken_37 rfl ?_
        refine v_iconst (v := (2 : Int32)) (by decide) dX11_broken_40 rfl ?_
        refine v_icmp_eq 77 dX11_broken_41 (by decide) rfl (fun c41 => ?_) (fun c41 => ?_)
        · have h := o_p c41 h
          refine v_sub [1, 2, 3, 4] rfl ?_
          exact l_X11_broken_77 (fun h => ih h) h
        · have h := o_n c41 h
          refine v_aload_n 1 rfl dX11_broken_44 rfl ?_
          obtain ⟨v45, e45, h⟩ := o_b h
          refine v_getR e45 (by decide) (by decide) rfl qf_RX11_31 dX11_broken_45 rfl ?_
          refine v_aload 0 rfl dX11_broken_48 rfl ?_
          obtain ⟨v50, e50, h⟩ := o_b h
          refine v_getR e50 (by decide) (by decide) rfl qf_RX11_205 dX11_broken_50 rfl ?_
          refine v_aload 0 rfl dX11_broken_53 rfl ?_
          obtain ⟨v55, e55, h⟩ := o_b h
          refine v_getR e55 (by decide) (by decide) rfl qf_RX11_205 dX11_broken_55 rfl ?_
          obtain ⟨v58, e58, h⟩ := o_b h
          refine v_getI e58 (by decide) (by decide) rfl qf_RX11_209 dX11_broken_58 rfl ?_
          obtain ⟨⟨⟩, g61, h⟩ := o_b h
          obtain ⟨v61, e61, h⟩ := o_b h
          refine v_Vv (as := [.ref v50, .int v58]) (st := []) (c' := 0) (k' := 0) (k_X10_execute e61) (rcv_c g61 (by decide) rfl) mk_X10_execute qi_X10_execute qe_X10_execute qm_RX11_255 (ck rfl) rfl dX11_broken_61 rfl rfl rfl ?_
          refine v_aload_n 1 rfl dX11_broken_64 rfl ?_
          obtain ⟨v65, e65, h⟩ := o_b h
          refine v_getR e65 (by decide) (by decide) rfl qf_RX11_45 dX11_broken_65 rfl ?_
          refine v_aload 0 rfl dX11_broken_68 rfl ?_
          refine v_aload_n 1 rfl dX11_broken_70 rfl ?_
          obtain ⟨v71, e71, h⟩ := o_b h
          refine v_getR e71 (by decide) (by decide) rfl qf_RX11_31 dX11_broken_71 rfl ?_
          obtain ⟨⟨⟩, g74, h⟩ := o_b h
          obtain ⟨v74, e74, h⟩ := o_b h
          refine v_Vv (as := [.ref v24, .ref v71]) (st := []) (c' := 0) (k' := 0) (k_X0_markNotHeldTo e74) (rcv_c g74 (by decide) rfl) mk_X0_markNotHeldTo qi_X0_markNotHeldTo qe_X0_markNotHeldTo qm_RX11_292 (ck rfl) rfl dX11_broken_74 rfl rfl rfl ?_
          refine v_sub [1, 2, 3, 4] rfl ?_
          exact l_X11_broken_77 (fun h => ih h) h
set_option maxRecDepth 100000 in
set_option maxHeartbeats 4000000 in
theorem k_X11_broken {G : Gm} {μ : Mu} {o : Int64} {r : Int32} {σ' : Hp} {σ : Hp} {a0 : Nat} (h : f_X11_broken σ a0 = some (r, σ')) : Ci G yX11_broken cX11_broken 5 (some .int) rm_X11_broken [.ref a0] (σ, μ, o) r (σ', μ, o) 0 0 := by
  refine v_entI [(0, .ref a0)] (by decide +kernel) (Nat.le_of_ble_eq_true rfl) rfl ?_
  unfold f_X11_broken at h
  refine v_aload_n 0 rfl dX11_broken_0 rfl ?_
  obtain ⟨v1, e1, h⟩ := o_b h
  refine v_getR e1 (by decide) (by decide) rfl qf_RX11_45 dX11_broken_1 rfl ?_
  obtain ⟨⟨⟩, g4, h⟩ := o_b h
  obtain ⟨v4, e4, h⟩ := o_b h
  refine v_Vv (as := []) (st := []) (c' := 0) (k' := 0) (k_X0_unmark e4) (rcv_c g4 (by decide) rfl) mk_X0_unmark qi_X0_unmark qe_X0_unmark qm_RX11_289 (ck rfl) rfl dX11_broken_4 rfl rfl rfl ?_
  refine v_aload_n 0 rfl dX11_broken_7 rfl ?_
  obtain ⟨v8, e8, h⟩ := o_b h
  refine v_getR e8 (by decide) (by decide) rfl qf_RX11_51 dX11_broken_8 rfl ?_
  refine v_astore_n [(1, .ref v8), (0, .ref a0)] dX11_broken_11 rfl (by decide) rfl ?_
  refine v_aload_n 0 rfl dX11_broken_12 rfl ?_
  obtain ⟨v13, e13, h⟩ := o_b h
  refine v_aL e13 (by decide) (by decide) rfl dX11_broken_13 rfl ?_
  refine v_istore_n [(2, .int v13), (1, .ref v8), (0, .ref a0)] dX11_broken_14 rfl (by decide) rfl ?_
  refine v_iconst (v := (0 : Int32)) (by decide) dX11_broken_15 rfl ?_
  refine v_istore_n [(3, .int (0 : Int32)), (2, .int v13), (1, .ref v8), (0, .ref a0)] dX11_broken_16 rfl (by decide) rfl ?_
  refine v_sub [3, 2, 1, 0] rfl ?_
  exact l_X11_broken_17 _ h
