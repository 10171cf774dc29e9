def rm_X12_request : Room := { frames := 2, cells := 0, slots := 0, locals := 50 }
set_option maxRecDepth 100000 in
set_option maxHeartbeats 4000000 in
theorem l_X12_request_49 {G : Gm} (hG : gF G = mFl) {σ : Hp} {o : Int64} {r : Int32} {μ' : Mu} {μ : Mu} {x1 : Int32} {x2 : Int32} {x3 : Int32} {x4 : Int32} {y1 : Int32} (h : f_X12_request_49 μ x1 x2 x3 x4 y1 = some (r, μ')) : V G yX12_request cX12_request 5 (some .int) rm_X12_request (zI G r (σ, μ', o) 0 0) (σ, μ, o) 0 0 49 [(0, .ref (gM G 200)), (1, .int x1), (2, .int x2), (3, .int x3), (4, .int x4)] [.int y1, .ref (gM G 200)] := by
  unfold f_X12_request_49 at h
  obtain ⟨s49, e49, h⟩ := o_b h
  refine v_mP e49 (mg hG rfl) (by decide) rfl rfl rfl rfl rfl qf_RX12_229 dX12_request_49 rfl ?_
  refine v_aload_n 0 rfl dX12_request_52 rfl ?_
  refine v_mI (j := 0) (mg hG rfl) (by decide) rfl qf_RX12_229 dX12_request_53 rfl ?_
  refine v_if_le 61 dX12_request_56 (by decide) rfl (fun c56 => ?_) (fun c56 => ?_)
  · have h := o_p c56 h
    refine v_aload_n 0 rfl dX12_request_61 rfl ?_
    refine v_dup rfl dX12_request_62 rfl ?_
    refine v_mI (j := 3) (mg hG rfl) (by decide) rfl qf_RX12_377 dX12_request_63 rfl ?_
    refine v_iconst (v := (1 : Int32)) (by decide) dX12_request_66 rfl ?_
    refine v_iadd dX12_request_67 rfl ?_
    obtain ⟨s68, e68, h⟩ := o_b h
    refine v_mP e68 (mg hG rfl) (by decide) rfl rfl rfl rfl rfl qf_RX12_377 dX12_request_68 rfl ?_
    refine v_aload_n 0 rfl dX12_request_71 rfl ?_
    refine v_mR (j := 57) (mg hG rfl) (by decide) rfl qf_RX12_160 dX12_request_72 rfl ?_
    refine v_iload_n 1 rfl dX12_request_75 rfl ?_
    refine v_dup2 rfl rfl dX12_request_76 rfl ?_
    obtain ⟨v77, e77, h⟩ := o_b h
    refine v_mA e77 (mg hG rfl) (by decide) rfl dX12_request_77 rfl ?_
    refine v_iconst (v := (1 : Int32)) (by decide) dX12_request_78 rfl ?_
    refine v_iadd dX12_request_79 rfl ?_
    obtain ⟨s80, e80, h⟩ := o_b h
    refine v_mQ e80 (mg hG rfl) (by decide) rfl dX12_request_80 rfl ?_
    refine v_aload_n 0 rfl dX12_request_81 rfl ?_
    refine v_mR (j := 4) (mg hG rfl) (by decide) rfl qf_RX12_7 dX12_request_82 rfl ?_
    refine v_aload_n 0 rfl dX12_request_85 rfl ?_
    refine v_mI (j := 3) (mg hG rfl) (by decide) rfl qf_RX12_377 dX12_request_86 rfl ?_
    refine v_iload_n 1 rfl dX12_request_89 rfl ?_
    obtain ⟨s90, e90, h⟩ := o_b h
    refine v_mQ e90 (mg hG rfl) (by decide) rfl dX12_request_90 rfl ?_
    refine v_aload_n 0 rfl dX12_request_91 rfl ?_
    refine v_mR (j := 5) (mg hG rfl) (by decide) rfl qf_RX12_13 dX12_request_92 rfl ?_
    refine v_aload_n 0 rfl dX12_request_95 rfl ?_
    refine v_mI (j := 3) (mg hG rfl) (by decide) rfl qf_RX12_377 dX12_request_96 rfl ?_
    refine v_aload_n 0 rfl dX12_request_99 rfl ?_
    refine v_mR (j := 57) (mg hG rfl) (by decide) rfl qf_RX12_160 dX12_request_100 rfl ?_
    refine v_iload_n 1 rfl dX12_request_103 rfl ?_
    obtain ⟨v104, e104, h⟩ := o_b h
    refine v_mA e104 (mg hG rfl) (by decide) rfl dX12_request_104 rfl ?_
    obtain ⟨s105, e105, h⟩ := o_b h
    refine v_mQ e105 (mg hG rfl) (by decide) rfl dX12_request_105 rfl ?_
    refine v_aload_n 0 rfl dX12_request_106 rfl ?_
    refine v_mR (j := 6) (mg hG rfl) (by decide) rfl qf_RX12_16 dX12_request_107 rfl ?_
    refine v_aload_n 0 rfl dX12_request_110 rfl ?_
    refine v_mI (j := 3) (mg hG rfl) (by decide) rfl qf_RX12_377 dX12_request_111 rfl ?_
    refine v_iload_n 2 rfl dX12_request_114 rfl ?_
    obtain ⟨s115, e115, h⟩ := o_b h
    refine v_mQ e115 (mg hG rfl) (by decide) rfl dX12_request_115 rfl ?_
    refine v_aload_n 0 rfl dX12_request_116 rfl ?_
    refine v_mR (j := 7) (mg hG rfl) (by decide) rfl qf_RX12_19 dX12_request_117 rfl ?_
    refine v_aload_n 0 rfl dX12_request_120 rfl ?_
    refine v_mI (j := 3) (mg hG rfl) (by decide) rfl qf_RX12_377 dX12_request_121 rfl ?_
    refine v_iload_n 3 rfl dX12_request_124 rfl ?_
    obtain ⟨s125, e125, h⟩ := o_b h
    refine v_mQ e125 (mg hG rfl) (by decide) rfl dX12_request_125 rfl ?_
    refine v_aload_n 0 rfl dX12_request_126 rfl ?_
    refine v_mR (j := 8) (mg hG rfl) (by decide) rfl qf_RX12_22 dX12_request_127 rfl ?_
    refine v_aload_n 0 rfl dX12_request_130 rfl ?_
    refine v_mI (j := 3) (mg hG rfl) (by decide) rfl qf_RX12_377 dX12_request_131 rfl ?_
    refine v_iload 4 rfl dX12_request_134 rfl ?_
    obtain ⟨s136, e136, h⟩ := o_b h
    refine v_mQ e136 (mg hG rfl) (by decide) rfl dX12_request_136 rfl ?_
    refine v_aload_n 0 rfl dX12_request_137 rfl ?_
    refine v_mR (j := 58) (mg hG rfl) (by decide) rfl qf_RX12_163 dX12_request_138 rfl ?_
    refine v_iload_n 1 rfl dX12_request_141 rfl ?_
    refine v_aload_n 0 rfl dX12_request_142 rfl ?_
    refine v_mI (j := 3) (mg hG rfl) (by decide) rfl qf_RX12_377 dX12_request_143 rfl ?_
    obtain ⟨s146, e146, h⟩ := o_b h
    refine v_mQ e146 (mg hG rfl) (by decide) rfl dX12_request_146 rfl ?_
    refine v_aload_n 0 rfl dX12_request_147 rfl ?_
    refine v_mR (j := 59) (mg hG rfl) (by decide) rfl qf_RX12_166 dX12_request_148 rfl ?_
    refine v_iload_n 1 rfl dX12_request_151 rfl ?_
    refine v_iconst (v := (1 : Int32)) (by decide) dX12_request_152 rfl ?_
    obtain ⟨s153, e153, h⟩ := o_b h
    refine v_mQ e153 (mg hG rfl) (by decide) rfl dX12_request_153 rfl ?_
    refine v_aload_n 0 rfl dX12_request_154 rfl ?_
    refine v_mR (j := 64) (mg hG rfl) (by decide) rfl qf_RX12_181 dX12_request_155 rfl ?_
    refine v_iload_n 1 rfl dX12_request_158 rfl ?_
    refine v_iconst (v := (0 : Int32)) (by decide) dX12_request_159 rfl ?_
    obtain ⟨s160, e160, h⟩ := o_b h
    refine v_mQ e160 (mg hG rfl) (by decide) rfl dX12_request_160 rfl ?_
    refine v_aload_n 0 rfl dX12_request_161 rfl ?_
    refine v_aload_n 0 rfl dX12_request_162 rfl ?_
    refine v_mI (j := 3) (mg hG rfl) (by decide) rfl qf_RX12_377 dX12_request_163 rfl ?_
    obtain ⟨v166, e166, h⟩ := o_b h
    refine v_Vv (as := [.int (s160.1 3)]) (st := []) (c' := 0) (k' := 0) (k_X12_stamp hG e166) (rcv_m (mg hG rfl)) mk_X12_stamp qi_X12_stamp qe_X12_stamp qm_RX12_380 (ck rfl) rfl dX12_request_166 rfl rfl rfl ?_
    refine v_aload_n 0 rfl dX12_request_169 rfl ?_
    refine v_mR (j := 57) (mg hG rfl) (by decide) rfl qf_RX12_160 dX12_request_170 rfl ?_
    refine v_iload_n 1 rfl dX12_request_173 rfl ?_
    obtain ⟨v174, e174, h⟩ := o_b h
    refine v_mA e174 (mg hG rfl) (by decide) rfl dX12_request_174 rfl ?_
    obtain ⟨rfl, rfl⟩ := o_s h
    exact v_iret rfl rfl (Nat.le_of_ble_eq_true rfl) (Nat.le_of_ble_eq_true rfl) dX12_request_175
  · have h := o_n c56 h
    refine v_iconst (v := (0 : Int32)) (by decide) dX12_request_59 rfl ?_
    obtain ⟨rfl, rfl⟩ := o_s h
    exact v_iret rfl rfl (Nat.le_of_ble_eq_true rfl) (Nat.le_of_ble_eq_true rfl) dX12_request_60
set_option maxRecDepth 100000 in
set_option maxHeartbeats 4000000 in
theorem l_X12_request_18 {G : Gm} (hG : gF G = mFl) {σ : Hp} {o : Int64} {r : Int32} {μ' : Mu} {μ : Mu} {x1 : Int32} {x2 : Int32} {x3 : Int32} {x4 : Int32} (h : f_X12_request_18 μ x1 x2 x3 x4 = some (r, μ')) : V G yX12_request cX12_request 5 (some .int) rm_X12_request (zI G r (σ, μ', o) 0 0) (σ, μ, o) 0 0 18 [(0, .ref (gM G 200)), (1, .int x1), (2, .int x2), (3, .int x3), (4, .int x4)] [.ref (gM G 200)] := by
  unfold f_X12_request_18 at h
  refine v_iconst (v := (1 : Int32)) (by decide) dX12_request_18 rfl ?_
  refine v_goto (q := 49) dX12_request_19 (by decide) ?_
  exact l_X12_request_49 hG h
set_option maxRecDepth 100000 in
set_option maxHeartbeats 4000000 in
theorem k_X12_request {G : Gm} (hG : gF G = mFl) {σ : Hp} {o : Int64} {r : Int32} {μ' : Mu} {μ : Mu} {a1 : Int32} {a2 : Int32} {a3 : Int32} {a4 : Int32} (h : f_X12_request μ a1 a2 a3 a4 = some (r, μ')) : Ci G yX12_request cX12_request 5 (some .int) rm_X12_request [.ref (gM G 200), .int a1, .int a2, .int a3, .int a4] (σ, μ, o) r (σ, μ', o) 0 0 := by
  refine v_entI [(0, .ref (gM G 200)), (1, .int a1), (2, .int a2), (3, .int a3), (4, .int a4)] (by decide +kernel) (Nat.le_of_ble_eq_true rfl) rfl ?_
  unfold f_X12_request at h
  refine v_aload_n 0 rfl dX12_request_0 rfl ?_
  refine v_iload_n 1 rfl dX12_request_1 rfl ?_
  refine v_iconst (v := (4 : Int32)) (by decide) dX12_request_2 rfl ?_
  obtain ⟨v3, e3, h⟩ := o_b h
  refine v_Si (as := [.int a1, .int (4 : Int32)]) (st := [.ref (gM G 200)]) (c' := 0) (k' := 0) (k_X12_in e3) mk_X12_in qs_X12_in qm_RX12_374 (ck rfl) rfl dX12_request_3 rfl rfl rfl ?_
  refine v_if_eq 18 dX12_request_6 (by decide) rfl (fun c6 => ?_) (fun c6 => ?_)
  · have h := o_p c6 h
    exact l_X12_request_18 hG h
  · have h := o_n c6 h
    refine v_iload_n 3 rfl dX12_request_9 rfl ?_
    refine v_bipush (v := (8 : Int32)) (by decide) dX12_request_10 rfl ?_
    obtain ⟨v12, e12, h⟩ := o_b h
    refine v_Si (as := [.int a3, .int (8 : Int32)]) (st := [.ref (gM G 200)]) (c' := 0) (k' := 0) (k_X12_in e12) mk_X12_in qs_X12_in qm_RX12_374 (ck rfl) rfl dX12_request_12 rfl rfl rfl ?_
    refine v_if_ne 22 dX12_request_15 (by decide) rfl (fun c15 => ?_) (fun c15 => ?_)
    · have h := o_n c15 h
      refine v_iload_n 2 rfl dX12_request_22 rfl ?_
      refine v_iconst (v := (3 : Int32)) (by decide) dX12_request_23 rfl ?_
      obtain ⟨v24, e24, h⟩ := o_b h
      refine v_Si (as := [.int a2, .int (3 : Int32)]) (st := [.ref (gM G 200)]) (c' := 0) (k' := 0) (k_X12_in e24) mk_X12_in qs_X12_in qm_RX12_374 (ck rfl) rfl dX12_request_24 rfl rfl rfl ?_
      refine v_if_ne 34 dX12_request_27 (by decide) rfl (fun c27 => ?_) (fun c27 => ?_)
      · have h := o_n c27 h
        refine v_aload_n 0 rfl dX12_request_34 rfl ?_
        refine v_mR (j := 59) (mg hG rfl) (by decide) rfl qf_RX12_166 dX12_request_35 rfl ?_
        refine v_iload_n 1 rfl dX12_request_38 rfl ?_
        obtain ⟨v39, e39, h⟩ := o_b h
        refine v_mA e39 (mg hG rfl) (by decide) rfl dX12_request_39 rfl ?_
        refine v_iconst (v := (1 : Int32)) (by decide) dX12_request_40 rfl ?_
        refine v_icmp_ne 48 dX12_request_41 (by decide) rfl (fun c41 => ?_) (fun c41 => ?_)
        · have h := o_n c41 h
          refine v_iconst (v := (0 : Int32)) (by decide) dX12_request_48 rfl ?_
          exact l_X12_request_49 hG h
        · have h := o_p c41 h
          refine v_iconst (v := (3 : Int32)) (by decide) dX12_request_44 rfl ?_
          refine v_goto (q := 49) dX12_request_45 (by decide) ?_
          exact l_X12_request_49 hG h
      · have h := o_p c27 h
        refine v_iconst (v := (2 : Int32)) (by decide) dX12_request_30 rfl ?_
        refine v_goto (q := 49) dX12_request_31 (by decide) ?_
        exact l_X12_request_49 hG h
    · have h := o_p c15 h
      exact l_X12_request_18 hG h
def rm_X12_again : Room := { frames := 2, cells := 0, slots := 0, locals := 50 }
set_option maxRecDepth 100000 in
set_option maxHeartbeats 4000000 in
theorem l_X12_again_28 {G : Gm} (hG : gF G = mFl) {σ : Hp} {o : Int64} {μ' : Mu} {μ : Mu} {x1 : Int32} {y1 : Int32} (h : f_X12_again_28 μ x1 y1 = some μ') : V G yX12_again cX12_again 2 none rm_X12_again (zV G (σ, μ', o) 0 0) (σ, μ, o) 0 0 28 [(0, .ref (gM G 200)), (1, .int x1)] [.int y1, .ref (gM G 200)] := by
  unfold f_X12_again_28 at h
  obtain ⟨s28, e28, h⟩ := o_b h
  refine v_mP e28 (mg hG rfl) (by decide) rfl rfl rfl rfl rfl qf_RX12_229 dX12_again_28 rfl ?_
  refine v_aload_n 0 rfl dX12_again_31 rfl ?_
  refine v_mI (j := 0) (mg hG rfl) (by decide) rfl qf_RX12_229 dX12_again_32 rfl ?_
  refine v_if_ne 48 dX12_again_35 (by decide) rfl (fun c35 => ?_) (fun c35 => ?_)
  · have h := o_n c35 h
    obtain rfl := Option.some.inj h
    exact v_vret rfl (Nat.le_of_ble_eq_true rfl) (Nat.le_of_ble_eq_true rfl) dX12_again_48
  · have h := o_p c35 h
    refine v_aload_n 0 rfl dX12_again_38 rfl ?_
    refine v_aload_n 0 rfl dX12_again_39 rfl ?_
    refine v_mR (j := 58) (mg hG rfl) (by decide) rfl qf_RX12_163 dX12_again_40 rfl ?_
    refine v_iload_n 1 rfl dX12_again_43 rfl ?_
    obtain ⟨v44, e44, h⟩ := o_b h
    refine v_mA e44 (mg hG rfl) (by decide) rfl dX12_again_44 rfl ?_
    obtain ⟨v45, e45, h⟩ := o_b h
    refine v_Vv (as := [.int v44]) (st := []) (c' := 0) (k' := 0) (k_X12_stamp hG e45) (rcv_m (mg hG rfl)) mk_X12_stamp qi_X12_stamp qe_X12_stamp qm_RX12_380 (ck rfl) rfl dX12_again_45 rfl rfl rfl ?_
    obtain rfl := Option.some.inj h
    exact v_vret rfl (Nat.le_of_ble_eq_true rfl) (Nat.le_of_ble_eq_true rfl) dX12_again_48
set_option maxRecDepth 100000 in
set_option maxHeartbeats 4000000 in
theorem k_X12_again {G : Gm} (hG : gF G = mFl) {σ : Hp} {o : Int64} {μ' : Mu} {μ : Mu} {a1 : Int32} (h : f_X12_again μ a1 = some μ') : Cv G yX12_again cX12_again 2 none rm_X12_again [.ref (gM G 200), .int a1] (σ, μ, o) (σ, μ', o) 0 0 := by
  refine v_entV [(0, .ref (gM G 200)), (1, .int a1)] (by decide +kernel) (Nat.le_of_ble_eq_true rfl) rfl ?_
  unfold f_X12_again at h
  refine v_aload_n 0 rfl dX12_again_0 rfl ?_
  refine v_iload_n 1 rfl dX12_again_1 rfl ?_
  refine v_iconst (v := (4 : Int32)) (by decide) dX12_again_2 rfl ?_
  obtain ⟨v3, e3, h⟩ := o_b h
  refine v_Si (as := [.int a1, .int (4 : Int32)]) (st := [.ref (gM G 200)]) (c' := 0) (k' := 0) (k_X12_in e3) mk_X12_in qs_X12_in qm_RX12_374 (ck rfl) rfl dX12_again_3 rfl rfl rfl ?_
  refine v_if_ne 13 dX12_again_6 (by decide) rfl (fun c6 => ?_) (fun c6 => ?_)
  · have h := o_n c6 h
    refine v_aload_n 0 rfl dX12_again_13 rfl ?_
    refine v_mR (j := 59) (mg hG rfl) (by decide) rfl qf_RX12_166 dX12_again_14 rfl ?_
    refine v_iload_n 1 rfl dX12_again_17 rfl ?_
    obtain ⟨v18, e18, h⟩ := o_b h
    refine v_mA e18 (mg hG rfl) (by decide) rfl dX12_again_18 rfl ?_
    refine v_iconst (v := (1 : Int32)) (by decide) dX12_again_19 rfl ?_
    refine v_icmp_eq 27 dX12_again_20 (by decide) rfl (fun c20 => ?_) (fun c20 => ?_)
    · have h := o_p c20 h
      refine v_iconst (v := (0 : Int32)) (by decide) dX12_again_27 rfl ?_
      exact l_X12_again_28 hG h
    · have h := o_n c20 h
      refine v_iconst (v := (2 : Int32)) (by decide) dX12_again_23 rfl ?_
      refine v_goto (q := 28) dX12_again_24 (by decide) ?_
      exact l_X12_again_28 hG h
  · have h := o_p c6 h
    refine v_iconst (v := (1 : Int32)) (by decide) dX12_again_9 rfl ?_
    refine v_goto (q := 28) dX12_again_10 (by decide) ?_
    exact l_X12_again_28 hG h
def rm_X12_deliver : Room := { frames := 6, cells := 0, slots := 0, locals := 157 }
set_option maxRecDepth 100000 in
set_option maxHeartbeats 4000000 in
theorem l_X12_deliver_17 {G : Gm} (hG : gF G = mFl) {σ : Hp} {o : Int64} {μ' : Mu} {μ : Mu} {x2 : Int32} {y1 : Int32} (h : f_X12_deliver_17 μ x2 y1 = some μ') : V G yX12_deliver cX12_deliver 3 none rm_X12_deliver (zV G (σ, μ', o) 0 0) (σ, μ, o) 0 0 17 [(0, .ref (gM G 200)), (2, .int x2)] [.int y1, .ref (gM G 200)] := by
  unfold f_X12_deliver_17 at h
  obtain ⟨s17, e17, h⟩ := o_b h
  refine v_mP e17 (mg hG rfl) (by decide) rfl rfl rfl rfl rfl qf_RX12_229 dX12_deliver_17 rfl ?_
  refine v_aload_n 0 rfl dX12_deliver_20 rfl ?_
  refine v_mI (j := 0) (mg hG rfl) (by decide) rfl qf_RX12_229 dX12_deliver_21 rfl ?_
  refine v_if_ne 32 dX12_deliver_24 (by decide) rfl (fun c24 => ?_) (fun c24 => ?_)
  · have h := o_n c24 h
    obtain rfl := Option.some.inj h
    exact v_vret rfl (Nat.le_of_ble_eq_true rfl) (Nat.le_of_ble_eq_true rfl) dX12_deliver_32
  · have h := o_p c24 h
    refine v_aload_n 0 rfl dX12_deliver_27 rfl ?_
    refine v_iload_n 1 rfl dX12_deliver_28 rfl ?_
    obtain ⟨v29, e29, h⟩ := o_b h
    refine v_Vv (as := [.int x2]) (st := []) (c' := 0) (k' := 0) (k_X12_arrive hG e29) (rcv_m (mg hG rfl)) mk_X12_arrive qi_X12_arrive qe_X12_arrive qm_RX12_386 (ck rfl) rfl dX12_deliver_29 rfl rfl rfl ?_
    obtain rfl := Option.some.inj h
    exact v_vret rfl (Nat.le_of_ble_eq_true rfl) (Nat.le_of_ble_eq_true rfl) dX12_deliver_32
set_option maxRecDepth 100000 in
set_option maxHeartbeats 4000000 in
theorem k_X12_deliver {G : Gm} (hG : gF G = mFl) {σ : Hp} {o : Int64} {μ' : Mu} {μ : Mu} {a1 : Int32} (h : f_X12_deliver μ a1 = some μ') : Cv G yX12_deliver cX12_deliver 3 none rm_X12_deliver [.ref (gM G 200), .int a1] (σ, μ, o) (σ, μ', o) 0 0 := by
  refine v_entV [(0, .ref (gM G 200)), (1, .int a1)] (by decide +kernel) (Nat.le_of_ble_eq_true rfl) rfl ?_
  unfold f_X12_deliver at h
  refine v_aload_n 0 rfl dX12_deliver_0 rfl ?_
  refine v_iload_n 1 rfl dX12_deliver_1 rfl ?_
  obtain ⟨v2, e2, h⟩ := o_b h
  refine v_Vi (as := [.int a1]) (st := []) (c' := 0) (k' := 0) (k_X12_find hG e2) (rcv_m (mg hG rfl)) mk_X12_find qi_X12_find qe_X12_find qm_RX12_383 (ck rfl) rfl dX12_deliver_2 rfl rfl rfl ?_
  refine v_istore_n [(2, .int v2), (0, .ref (gM G 200)), (1, .int a1)] dX12_deliver_5 rfl (by decide) rfl ?_
  refine v_aload_n 1 rfl dX12_deliver_6 rfl ?_
  refine v_iload_n 0 rfl dX12_deliver_7 rfl ?_
  refine v_iconst (v := (-1 : Int32)) (by decide) dX12_deliver_8 rfl ?_
  refine v_icmp_ne 16 dX12_deliver_9 (by decide) rfl (fun c9 => ?_) (fun c9 => ?_)
  · have h := o_n c9 h
    refine v_iconst (v := (0 : Int32)) (by decide) dX12_deliver_16 rfl ?_
    refine v_sub [1, 0] rfl ?_
    exact l_X12_deliver_17 hG h
  · have h := o_p c9 h
    refine v_iconst (v := (1 : Int32)) (by decide) dX12_deliver_12 rfl ?_
    refine v_goto (q := 17) dX12_deliver_13 (by decide) ?_
    refine v_sub [1, 0] rfl ?_
    exact l_X12_deliver_17 hG h
def rm_X12_lose : Room := { frames := 1, cells := 0, slots := 0, locals := 23 }
set_option maxRecDepth 100000 in
set_option maxHeartbeats 4000000 in
theorem l_X12_lose_17 {G : Gm} (hG : gF G = mFl) {σ : Hp} {o : Int64} {μ' : Mu} {μ : Mu} {x2 : Int32} {y1 : Int32} (h : f_X12_lose_17 μ x2 y1 = some μ') : V G yX12_lose cX12_lose 4 none rm_X12_lose (zV G (σ, μ', o) 0 0) (σ, μ, o) 0 0 17 [(0, .ref (gM G 200)), (2, .int x2)] [.int y1, .ref (gM G 200)] := by
  unfold f_X12_lose_17 at h
  obtain ⟨s17, e17, h⟩ := o_b h
  refine v_mP e17 (mg hG rfl) (by decide) rfl rfl rfl rfl rfl qf_RX12_229 dX12_lose_17 rfl ?_
  refine v_aload_n 0 rfl dX12_lose_20 rfl ?_
  refine v_mI (j := 0) (mg hG rfl) (by decide) rfl qf_RX12_229 dX12_lose_21 rfl ?_
  refine v_if_le 28 dX12_lose_24 (by decide) rfl (fun c24 => ?_) (fun c24 => ?_)
  · have h := o_p c24 h
    refine v_aload_n 0 rfl dX12_lose_28 rfl ?_
    refine v_iload_n 1 rfl dX12_lose_29 rfl ?_
    obtain ⟨v30, e30, h⟩ := o_b h
    refine v_Vi (as := [.int x2]) (st := []) (c' := 0) (k' := 0) (k_X12_taken hG e30) (rcv_m (mg hG rfl)) mk_X12_taken qi_X12_taken qe_X12_taken qm_RX12_352 (ck rfl) rfl dX12_lose_30 rfl rfl rfl ?_
    refine v_istore_n [(3, .int v30.1), (0, .ref (gM G 200)), (2, .int x2)] dX12_lose_33 rfl (by decide) rfl ?_
    refine v_aload_n 1 rfl dX12_lose_34 rfl ?_
    refine v_dup rfl dX12_lose_35 rfl ?_
    refine v_mI (j := 14) (mg hG rfl) (by decide) rfl qf_RX12_238 dX12_lose_36 rfl ?_
    refine v_iconst (v := (1 : Int32)) (by decide) dX12_lose_39 rfl ?_
    refine v_iadd dX12_lose_40 rfl ?_
    obtain ⟨s41, e41, h⟩ := o_b h
    refine v_mP e41 (mg hG rfl) (by decide) rfl rfl rfl rfl rfl qf_RX12_238 dX12_lose_41 rfl ?_
    obtain rfl := Option.some.inj h
    exact v_vret rfl (Nat.le_of_ble_eq_true rfl) (Nat.le_of_ble_eq_true rfl) dX12_lose_44
  · have h := o_n c24 h
    obtain rfl := Option.some.inj h
    exact v_vret rfl (Nat.le_of_ble_eq_true rfl) (Nat.le_of_ble_eq_true rfl) dX12_lose_27
set_option maxRecDepth 100000 in
set_option maxHeartbeats 4000000 in
theorem k_X12_lose {G : Gm} (hG : gF G = mFl) {σ : Hp} {o : Int64} {μ' : Mu} {μ : Mu} {a1 : Int32} (h : f_X12_lose μ a1 = some μ') : Cv G yX12_lose cX12_lose 4 none rm_X12_lose [.ref (gM G 200), .int a1] (σ, μ, o) (σ, μ', o) 0 0 := by
  refine v_entV [(0, .ref (gM G 200)), (1, .int a1)] (by decide +kernel) (Nat.le_of_ble_eq_true rfl) rfl ?_
  unfold f_X12_lose at h
  refine v_aload_n 0 rfl dX12_lose_0 rfl ?_
  refine v_iload_n 1 rfl dX12_lose_1 rfl ?_
  obtain ⟨v2, e2, h⟩ := o_b h
  refine v_Vi (as := [.int a1]) (st := []) (c' := 0) (k' := 0) (k_X12_find hG e2) (rcv_m (mg hG rfl)) mk_X12_find qi_X12_find qe_X12_find qm_RX12_383 (ck rfl) rfl dX12_lose_2 rfl rfl rfl ?_
  refine v_istore_n [(2, .int v2), (0, .ref (gM G 200)), (1, .int a1)] dX12_lose_5 rfl (by decide) rfl ?_
  refine v_aload_n 1 rfl dX12_lose_6 rfl ?_
  refine v_iload_n 0 rfl dX12_lose_7 rfl ?_
  refine v_iconst (v := (-1 : Int32)) (by decide) dX12_lose_8 rfl ?_
  refine v_icmp_ne 16 dX12_lose_9 (by decide) rfl (fun c9 => ?_) (fun c9 => ?_)
  · have h := o_n c9 h
    refine v_iconst (v := (0 : Int32)) (by decide) dX12_lose_16 rfl ?_
    refine v_sub [1, 0] rfl ?_
    exact l_X12_lose_17 hG h
  · have h := o_p c9 h
    refine v_iconst (v := (1 : Int32)) (by decide) dX12_lose_12 rfl ?_
    refine v_goto (q := 17) dX12_lose_13 (by decide) ?_
    refine v_sub [1, 0] rfl ?_
    exact l_X12_lose_17 hG h
def rm_X12_flow : Room := { frames := 6, cells := 0, slots := 0, locals := 157 }
set_option maxRecDepth 100000 in
set_option maxHeartbeats 4000000 in
theorem l_X12_flow_20 {G : Gm} (hG : gF G = mFl) {σ : Hp} {o : Int64} {r : Int32} {μ' : Mu} : ∀ (n : Nat) {μ : Mu} {x1 : Int32} {x2 : Int32} , f_X12_flow_20 n μ x1 x2 = some (r, μ') → V G yX12_flow cX12_flow 3 (some .int) rm_X12_flow (zI G r (σ, μ', o) 0 0) (σ, μ, o) 0 0 20 [(0, .ref (gM G 200)), (1, .int x1), (2, .int x2)] [] := by
  intro n
  induction n with
  | zero => intro _ _ _ h; cases h
  | succ n ih =>
    intro μ x1 x2 h
    replace h : b_X12_flow_20 (f_X12_flow_20 n) μ x1 x2 = some (r, μ') := h
    unfold b_X12_flow_20 at h
    refine v_aload_n 0 rfl dX12_flow_20 rfl ?_
    refine v_mI (j := 0) (mg hG rfl) (by decide) rfl qf_RX12_229 dX12_flow_21 rfl ?_
    refine v_if_ne 50 dX12_flow_24 (by decide) rfl (fun c24 => ?_) (fun c24 => ?_)
    · have h := o_n c24 h
      refine v_iload_n 2 rfl dX12_flow_50 rfl ?_
      obtain ⟨rfl, rfl⟩ := o_s h
      exact v_iret rfl rfl (Nat.le_of_ble_eq_true rfl) (Nat.le_of_ble_eq_true rfl) dX12_flow_51
    · have h := o_p c24 h
      refine v_iload_n 2 rfl dX12_flow_27 rfl ?_
      refine v_iload_n 1 rfl dX12_flow_28 rfl ?_
      refine v_icmp_ge 50 dX12_flow_29 (by decide) rfl (fun c29 => ?_) (fun c29 => ?_)
      · have h := o_p c29 h
        refine v_iload_n 2 rfl dX12_flow_50 rfl ?_
        obtain ⟨rfl, rfl⟩ := o_s h
        exact v_iret rfl rfl (Nat.le_of_ble_eq_true rfl) (Nat.le_of_ble_eq_true rfl) dX12_flow_51
      · have h := o_n c29 h
        refine v_aload_n 0 rfl dX12_flow_32 rfl ?_
        refine v_mI (j := 12) (mg hG rfl) (by decide) rfl qf_RX12_235 dX12_flow_33 rfl ?_
        refine v_if_le 50 dX12_flow_36 (by decide) rfl (fun c36 => ?_) (fun c36 => ?_)
        · have h := o_p c36 h
          refine v_iload_n 2 rfl dX12_flow_50 rfl ?_
          obtain ⟨rfl, rfl⟩ := o_s h
          exact v_iret rfl rfl (Nat.le_of_ble_eq_true rfl) (Nat.le_of_ble_eq_true rfl) dX12_flow_51
        · have h := o_n c36 h
          refine v_aload_n 0 rfl dX12_flow_39 rfl ?_
          refine v_iconst (v := (0 : Int32)) (by decide) dX12_flow_40 rfl ?_
          obtain ⟨v41, e41, h⟩ := o_b h
          refine v_Vv (as := [.int (0 : Int32)]) (st := []) (c' := 0) (k' := 0) (k_X12_arrive hG e41) (rcv_m (mg hG rfl)) mk_X12_arrive qi_X12_arrive qe_X12_arrive qm_RX12_386 (ck rfl) rfl dX12_flow_41 rfl rfl rfl ?_
          refine v_iinc (v := (x2 + 1)) [(2, .int (x2 + 1)), (0, .ref (gM G 200)), (1, .int x1)] 2 rfl rfl dX12_flow_44 rfl (by decide) rfl ?_
          refine v_goto (q := 20) dX12_flow_47 (by decide) ?_
          refine v_sub [1, 2, 0] rfl ?_
          exact ih h
set_option maxRecDepth 100000 in
set_option maxHeartbeats 4000000 in
theorem l_X12_flow_15 {G : Gm} (hG : gF G = mFl) {σ : Hp} {o : Int64} {r : Int32} {μ' : Mu} {μ : Mu} {x1 : Int32} {y1 : Int32} (h : f_X12_flow_15 μ x1 y1 = some (r, μ')) : V G yX12_flow cX12_flow 3 (some .int) rm_X12_flow (zI G r (σ, μ', o) 0 0) (σ, μ, o) 0 0 15 [(0, .ref (gM G 200)), (1, .int x1)] [.int y1, .ref (gM G 200)] := by
  unfold f_X12_flow_15 at h
  obtain ⟨s15, e15, h⟩ := o_b h
  refine v_mP e15 (mg hG rfl) (by decide) rfl rfl rfl rfl rfl qf_RX12_229 dX12_flow_15 rfl ?_
  refine v_iconst (v := (0 : Int32)) (by decide) dX12_flow_18 rfl ?_
  refine v_istore_n [(2, .int (0 : Int32)), (0, .ref (gM G 200)), (1, .int x1)] dX12_flow_19 rfl (by decide) rfl ?_
  refine v_sub [1, 2, 0] rfl ?_
  exact l_X12_flow_20 hG _ h
set_option maxRecDepth 100000 in
set_option maxHeartbeats 4000000 in
theorem k_X12_flow {G : Gm} (hG : gF G = mFl) {σ : Hp} {o : Int64} {r : Int32} {μ' : Mu} {μ : Mu} {a1 : Int32} (h : f_X12_flow μ a1 = some (r, μ')) : Ci G yX12_flow cX12_flow 3 (some .int) rm_X12_flow [.ref (gM G 200), .int a1] (σ, μ, o) r (σ, μ', o) 0 0 := by
  refine v_entI [(0, .ref (gM G 200)), (1, .int a1)] (by decide +kernel) (Nat.le_of_ble_eq_true rfl) rfl ?_
  unfold f_X12_flow at h
  refine v_aload_n 0 rfl dX12_flow_0 rfl ?_
  refine v_iload_n 1 rfl dX12_flow_1 rfl ?_
  refine v_bipush (v := (41 : Int32)) (by decide) dX12_flow_2 rfl ?_
  obtain ⟨v4, e4, h⟩ := o_b h
  refine v_Si (as := [.int a1, .int (41 : Int32)]) (st := [.ref (gM G 200)]) (c' := 0) (k' := 0) (k_X12_in e4) mk_X12_in qs_X12_in qm_RX12_374 (ck rfl) rfl dX12_flow_4 rfl rfl rfl ?_
  refine v_if_ne 14 dX12_flow_7 (by decide) rfl (fun c7 => ?_) (fun c7 => ?_)
  · have h := o_n c7 h
    refine v_iconst (v := (0 : Int32)) (by decide) dX12_flow_14 rfl ?_
    exact l_X12_flow_15 hG h
  · have h := o_p c7 h
    refine v_iconst (v := (1 : Int32)) (by decide) dX12_flow_10 rfl ?_
    refine v_goto (q := 15) dX12_flow_11 (by decide) ?_
    exact l_X12_flow_15 hG h
def rm_X12_down : Room := { frames := 1, cells := 0, slots := 0, locals := 21 }
set_option maxRecDepth 100000 in
set_option maxHeartbeats 4000000 in
theorem l_X12_down_73 {G : Gm} (hG : gF G = mFl) {σ : Hp} {o : Int64} {μ' : Mu} {μ : Mu} {x1 : Int32} {y1 : Int32} (h : f_X12_down_73 μ x1 y1 = some μ') : V G yX12_down cX12_down 4 none rm_X12_down (zV G (σ, μ', o) 0 0) (σ, μ, o) 0 0 73 [(0, .ref (gM G 200)), (1, .int x1)] [.int y1, .ref (gM G 200)] := by
  unfold f_X12_down_73 at h
  obtain ⟨s73, e73, h⟩ := o_b h
  refine v_mP e73 (mg hG rfl) (by decide) rfl rfl rfl rfl rfl qf_RX12_229 dX12_down_73 rfl ?_
  refine v_aload_n 0 rfl dX12_down_76 rfl ?_
  refine v_mI (j := 0) (mg hG rfl) (by decide) rfl qf_RX12_229 dX12_down_77 rfl ?_
  refine v_if_le 84 dX12_down_80 (by decide) rfl (fun c80 => ?_) (fun c80 => ?_)
  · have h := o_p c80 h
    refine v_aload_n 0 rfl dX12_down_84 rfl ?_
    refine v_mR (j := 32) (mg hG rfl) (by decide) rfl qf_RX12_85 dX12_down_85 rfl ?_
    refine v_iload_n 1 rfl dX12_down_88 rfl ?_
    refine v_iconst (v := (1 : Int32)) (by decide) dX12_down_89 rfl ?_
    obtain ⟨s90, e90, h⟩ := o_b h
    refine v_mW e90 (mg hG rfl) (by decide) rfl rfl dX12_down_90 rfl ?_
    refine v_aload_n 0 rfl dX12_down_91 rfl ?_
    refine v_iload_n 1 rfl dX12_down_92 rfl ?_
    obtain ⟨v93, e93, h⟩ := o_b h
    refine v_Vv (as := [.int x1]) (st := []) (c' := 0) (k' := 0) (k_X12_forget hG e93) (rcv_m (mg hG rfl)) mk_X12_forget qi_X12_forget qe_X12_forget qm_RX12_280 (ck rfl) rfl dX12_down_93 rfl rfl rfl ?_
    obtain rfl := Option.some.inj h
    exact v_vret rfl (Nat.le_of_ble_eq_true rfl) (Nat.le_of_ble_eq_true rfl) dX12_down_96
  · have h := o_n c80 h
    obtain rfl := Option.some.inj h
    exact v_vret rfl (Nat.le_of_ble_eq_true rfl) (Nat.le_of_ble_eq_true rfl) dX12_down_83
set_option maxRecDepth 100000 in
set_option maxHeartbeats 4000000 in
theorem l_X12_down_68 {G : Gm} (hG : gF G = mFl) {σ : Hp} {o : Int64} {μ' : Mu} {μ : Mu} {x1 : Int32} (h : f_X12_down_68 μ x1 = some μ') : V G yX12_down cX12_down 4 none rm_X12_down (zV G (σ, μ', o) 0 0) (σ, μ, o) 0 0 68 [(0, .ref (gM G 200)), (1, .int x1)] [.ref (gM G 200)] := by
  unfold f_X12_down_68 at h
  refine v_iconst (v := (2 : Int32)) (by decide) dX12_down_68 rfl ?_
  refine v_goto (q := 73) dX12_down_69 (by decide) ?_
  exact l_X12_down_73 hG h
set_option maxRecDepth 100000 in
set_option maxHeartbeats 4000000 in
theorem l_X12_down_35 {G : Gm} (hG : gF G = mFl) {σ : Hp} {o : Int64} {μ' : Mu} {μ : Mu} {x1 : Int32} {x2 : Int32} (h : f_X12_down_35 μ x1 x2 = some μ') : V G yX12_down cX12_down 4 none rm_X12_down (zV G (σ, μ', o) 0 0) (σ, μ, o) 0 0 35 [(0, .ref (gM G 200)), (1, .int x1), (2, .int x2)] [] := by
  unfold f_X12_down_35 at h
  refine v_aload_n 0 rfl dX12_down_35 rfl ?_
  refine v_iload_n 1 rfl dX12_down_36 rfl ?_
  refine v_aload_n 0 rfl dX12_down_37 rfl ?_
  refine v_mI (j := 1) (mg hG rfl) (by decide) rfl qf_RX12_223 dX12_down_38 rfl ?_
  obtain ⟨v41, e41, h⟩ := o_b h
  refine v_Si (as := [.int x1, .int (μ.1 1)]) (st := [.ref (gM G 200)]) (c' := 0) (k' := 0) (k_X12_in e41) mk_X12_in qs_X12_in qm_RX12_374 (ck rfl) rfl dX12_down_41 rfl rfl rfl ?_
  refine v_if_ne 51 dX12_down_44 (by decide) rfl (fun c44 => ?_) (fun c44 => ?_)
  · have h := o_n c44 h
    refine v_aload_n 0 rfl dX12_down_51 rfl ?_
    refine v_mR (j := 32) (mg hG rfl) (by decide) rfl qf_RX12_85 dX12_down_52 rfl ?_
    refine v_iload_n 1 rfl dX12_down_55 rfl ?_
    obtain ⟨v56, e56, h⟩ := o_b h
    refine v_mZ e56 (mg hG rfl) (by decide) rfl dX12_down_56 rfl ?_
    refine v_if_ne 68 dX12_down_57 (by decide) rfl (fun c57 => ?_) (fun c57 => ?_)
    · have h := o_n c57 h
      refine v_sub [0, 1] rfl ?_
      exact l_X12_down_68 hG h
    · have h := o_p c57 h
      refine v_iload_n 2 rfl dX12_down_60 rfl ?_
      refine v_aload_n 0 rfl dX12_down_61 rfl ?_
      refine v_mI (j := 2) (mg hG rfl) (by decide) rfl qf_RX12_226 dX12_down_62 rfl ?_
      refine v_icmp_ne 72 dX12_down_65 (by decide) rfl (fun c65 => ?_) (fun c65 => ?_)
      · have h := o_n c65 h
        refine v_iconst (v := (0 : Int32)) (by decide) dX12_down_72 rfl ?_
        refine v_sub [0, 1] rfl ?_
        exact l_X12_down_73 hG h
      · have h := o_p c65 h
        refine v_sub [0, 1] rfl ?_
        exact l_X12_down_68 hG h
  · have h := o_p c44 h
    refine v_iconst (v := (1 : Int32)) (by decide) dX12_down_47 rfl ?_
    refine v_goto (q := 73) dX12_down_48 (by decide) ?_
    refine v_sub [0, 1] rfl ?_
    exact l_X12_down_73 hG h
set_option maxRecDepth 100000 in
set_option maxHeartbeats 4000000 in
theorem l_X12_down_27 {G : Gm} (hG : gF G = mFl) {σ : Hp} {o : Int64} {μ' : Mu} {rec4 : Mu → Int32 → Int32 → Int32 → Option Mu} (h4 : ∀ {μ : Mu} {x1 : Int32} {x2 : Int32} {x3 : Int32} , rec4 μ x1 x2 x3 = some μ' → V G yX12_down cX12_down 4 none rm_X12_down (zV G (σ, μ', o) 0 0) (σ, μ, o) 0 0 4 [(0, .ref (gM G 200)), (1, .int x1), (2, .int x2), (3, .int x3)] []) {μ : Mu} {x1 : Int32} {x3 : Int32} {y0 : Int32} {y1 : Int32} (h : f_X12_down_27 rec4 μ x1 x3 y0 y1 = some μ') : V G yX12_down cX12_down 4 none rm_X12_down (zV G (σ, μ', o) 0 0) (σ, μ, o) 0 0 27 [(0, .ref (gM G 200)), (1, .int x1), (3, .int x3)] [.int y1, .int y0] := by
  unfold f_X12_down_27 at h
  refine v_iadd dX12_down_27 rfl ?_
  refine v_istore_n [(2, .int (y0 + y1)), (0, .ref (gM G 200)), (1, .int x1), (3, .int x3)] dX12_down_28 rfl (by decide) rfl ?_
  refine v_iinc (v := (x3 + 1)) [(3, .int (x3 + 1)), (2, .int (y0 + y1)), (0, .ref (gM G 200)), (1, .int x1)] 3 rfl rfl dX12_down_29 rfl (by decide) rfl ?_
  refine v_goto (q := 4) dX12_down_32 (by decide) ?_
  refine v_sub [2, 3, 1, 0] rfl ?_
  exact h4 h
set_option maxRecDepth 100000 in
set_option maxHeartbeats 4000000 in
theorem l_X12_down_4 {G : Gm} (hG : gF G = mFl) {σ : Hp} {o : Int64} {μ' : Mu} : ∀ (n : Nat) {μ : Mu} {x1 : Int32} {x2 : Int32} {x3 : Int32} , f_X12_down_4 n μ x1 x2 x3 = some μ' → V G yX12_down cX12_down 4 none rm_X12_down (zV G (σ, μ', o) 0 0) (σ, μ, o) 0 0 4 [(0, .ref (gM G 200)), (1, .int x1), (2, .int x2), (3, .int x3)] [] := by
  intro n
  induction n with
  | zero => intro _ _ _ _ h; cases h
  | succ n ih =>
    intro μ x1 x2 x3 h
    replace h : b_X12_down_4 (f_X12_down_4 n) μ x1 x2 x3 = some μ' := h
    unfold b_X12_down_4 at h
    refine v_iload_n 3 rfl dX12_down_4 rfl ?_
    refine v_aload_n 0 rfl dX12_down_5 rfl ?_
    refine v_mI (j := 1) (mg hG rfl) (by decide) rfl qf_RX12_223 dX12_down_6 rfl ?_
    refine v_icmp_ge 35 dX12_down_9 (by decide) rfl (fun c9 => ?_) (fun c9 => ?_)
    · have h := o_p c9 h
      refine v_sub [0, 1, 2] rfl ?_
      exact l_X12_down_35 hG h
    · have h := o_n c9 h
      refine v_iload_n 2 rfl dX12_down_12 rfl ?_
      refine v_aload_n 0 rfl dX12_down_13 rfl ?_
      refine v_mR (j := 32) (mg hG rfl) (by decide) rfl qf_RX12_85 dX12_down_14 rfl ?_
      refine v_iload_n 3 rfl dX12_down_17 rfl ?_
      obtain ⟨v18, e18, h⟩ := o_b h
      refine v_mZ e18 (mg hG rfl) (by decide) rfl dX12_down_18 rfl ?_
      refine v_if_eq 26 dX12_down_19 (by decide) rfl (fun c19 => ?_) (fun c19 => ?_)
      · have h := o_p c19 h
        refine v_iconst (v := (0 : Int32)) (by decide) dX12_down_26 rfl ?_
        refine v_sub [0, 1, 3] rfl ?_
        exact l_X12_down_27 hG (fun h => ih h) h
      · have h := o_n c19 h
        refine v_iconst (v := (1 : Int32)) (by decide) dX12_down_22 rfl ?_
        refine v_goto (q := 27) dX12_down_23 (by decide) ?_
        refine v_sub [0, 1, 3] rfl ?_
        exact l_X12_down_27 hG (fun h => ih h) h
set_option maxRecDepth 100000 in
set_option maxHeartbeats 4000000 in
theorem k_X12_down {G : Gm} (hG : gF G = mFl) {σ : Hp} {o : Int64} {μ' : Mu} {μ : Mu} {a1 : Int32} (h : f_X12_down μ a1 = some μ') : Cv G yX12_down cX12_down 4 none rm_X12_down [.ref (gM G 200), .int a1] (σ, μ, o) (σ, μ', o) 0 0 := by
  refine v_entV [(0, .ref (gM G 200)), (1, .int a1)] (by decide +kernel) (Nat.le_of_ble_eq_true rfl) rfl ?_
  unfold f_X12_down at h
  refine v_iconst (v := (0 : Int32)) (by decide) dX12_down_0 rfl ?_
  refine v_istore_n [(2, .int (0 : Int32)), (0, .ref (gM G 200)), (1, .int a1)] dX12_down_1 rfl (by decide) rfl ?_
  refine v_iconst (v := (0 : Int32)) (by decide) dX12_down_2 rfl ?_
  refine v_istore_n [(3, .int (0 : Int32)), (2, .int (0 : Int32)), (0, .ref (gM G 200)), (1, .int a1)] dX12_down_3 rfl (by decide) rfl ?_
  refine v_sub [2, 3, 1, 0] rfl ?_
  exact l_X12_down_4 hG _ h
def rm_X12_up : Room := { frames := 1, cells := 0, slots := 0, locals := 21 }
set_option maxRecDepth 100000 in
set_option maxHeartbeats 4000000 in
theorem l_X12_up_30 {G : Gm} (hG : gF G = mFl) {σ : Hp} {o : Int64} {μ' : Mu} {μ : Mu} {x1 : Int32} {y1 : Int32} (h : f_X12_up_30 μ x1 y1 = some μ') : V G yX12_up cX12_up 2 none rm_X12_up (zV G (σ, μ', o) 0 0) (σ, μ, o) 0 0 30 [(0, .ref (gM G 200)), (1, .int x1)] [.int y1, .ref (gM G 200)] := by
  unfold f_X12_up_30 at h
  obtain ⟨s30, e30, h⟩ := o_b h
  refine v_mP e30 (mg hG rfl) (by decide) rfl rfl rfl rfl rfl qf_RX12_229 dX12_up_30 rfl ?_
  refine v_aload_n 0 rfl dX12_up_33 rfl ?_
  refine v_mI (j := 0) (mg hG rfl) (by decide) rfl qf_RX12_229 dX12_up_34 rfl ?_
  refine v_if_ne 47 dX12_up_37 (by decide) rfl (fun c37 => ?_) (fun c37 => ?_)
  · have h := o_n c37 h
    obtain rfl := Option.some.inj h
    exact v_vret rfl (Nat.le_of_ble_eq_true rfl) (Nat.le_of_ble_eq_true rfl) dX12_up_47
  · have h := o_p c37 h
    refine v_aload_n 0 rfl dX12_up_40 rfl ?_
    refine v_mR (j := 32) (mg hG rfl) (by decide) rfl qf_RX12_85 dX12_up_41 rfl ?_
    refine v_iload_n 1 rfl dX12_up_44 rfl ?_
    refine v_iconst (v := (0 : Int32)) (by decide) dX12_up_45 rfl ?_
    obtain ⟨s46, e46, h⟩ := o_b h
    refine v_mW e46 (mg hG rfl) (by decide) rfl rfl dX12_up_46 rfl ?_
    obtain rfl := Option.some.inj h
    exact v_vret rfl (Nat.le_of_ble_eq_true rfl) (Nat.le_of_ble_eq_true rfl) dX12_up_47
set_option maxRecDepth 100000 in
set_option maxHeartbeats 4000000 in
theorem k_X12_up {G : Gm} (hG : gF G = mFl) {σ : Hp} {o : Int64} {μ' : Mu} {μ : Mu} {a1 : Int32} (h : f_X12_up μ a1 = some μ') : Cv G yX12_up cX12_up 2 none rm_X12_up [.ref (gM G 200), .int a1] (σ, μ, o) (σ, μ', o) 0 0 := by
  refine v_entV [(0, .ref (gM G 200)), (1, .int a1)] (by decide +kernel) (Nat.le_of_ble_eq_true rfl) rfl ?_
  unfold f_X12_up at h
  refine v_aload_n 0 rfl dX12_up_0 rfl ?_
  refine v_iload_n 1 rfl dX12_up_1 rfl ?_
  refine v_aload_n 0 rfl dX12_up_2 rfl ?_
  refine v_mI (j := 1) (mg hG rfl) (by decide) rfl qf_RX12_223 dX12_up_3 rfl ?_
  obtain ⟨v6, e6, h⟩ := o_b h
  refine v_Si (as := [.int a1, .int (μ.1 1)]) (st := [.ref (gM G 200)]) (c' := 0) (k' := 0) (k_X12_in e6) mk_X12_in qs_X12_in qm_RX12_374 (ck rfl) rfl dX12_up_6 rfl rfl rfl ?_
  refine v_if_ne 16 dX12_up_9 (by decide) rfl (fun c9 => ?_) (fun c9 => ?_)
  · have h := o_n c9 h
    refine v_aload_n 0 rfl dX12_up_16 rfl ?_
    refine v_mR (j := 32) (mg hG rfl) (by decide) rfl qf_RX12_85 dX12_up_17 rfl ?_
    refine v_iload_n 1 rfl dX12_up_20 rfl ?_
    obtain ⟨v21, e21, h⟩ := o_b h
    refine v_mZ e21 (mg hG rfl) (by decide) rfl dX12_up_21 rfl ?_
    refine v_if_ne 29 dX12_up_22 (by decide) rfl (fun c22 => ?_) (fun c22 => ?_)
    · have h := o_n c22 h
      refine v_iconst (v := (0 : Int32)) (by decide) dX12_up_29 rfl ?_
      exact l_X12_up_30 hG h
    · have h := o_p c22 h
      refine v_iconst (v := (2 : Int32)) (by decide) dX12_up_25 rfl ?_
      refine v_goto (q := 30) dX12_up_26 (by decide) ?_
      exact l_X12_up_30 hG h
  · have h := o_p c9 h
    refine v_iconst (v := (1 : Int32)) (by decide) dX12_up_12 rfl ?_
    refine v_goto (q := 30) dX12_up_13 (by decide) ?_
    exact l_X12_up_30 hG h
def rm_X12_may : Room := { frames := 1, cells := 0, slots := 0, locals := 21 }
set_option maxRecDepth 100000 in
set_option maxHeartbeats 4000000 in
theorem l_X12_may_30 {G : Gm} (hG : gF G = mFl) {σ : Hp} {o : Int64} {r : Int32} {μ' : Mu} {μ : Mu} {y1 : Int32} (h : f_X12_may_30 μ y1 = some (r, μ')) : V G yX12_may cX12_may 2 (some .boolean) rm_X12_may (zI G r (σ, μ', o) 0 0) (σ, μ, o) 0 0 30 [(0, .ref (gM G 200))] [.int y1, .ref (gM G 200)] := by
  unfold f_X12_may_30 at h
  obtain ⟨s30, e30, h⟩ := o_b h
  refine v_mP e30 (mg hG rfl) (by decide) rfl rfl rfl rfl rfl qf_RX12_229 dX12_may_30 rfl ?_
  refine v_aload_n 0 rfl dX12_may_33 rfl ?_
  refine v_mI (j := 0) (mg hG rfl) (by decide) rfl qf_RX12_229 dX12_may_34 rfl ?_
  refine v_if_ne 44 dX12_may_37 (by decide) rfl (fun c37 => ?_) (fun c37 => ?_)
  · have h := o_n c37 h
    refine v_iconst (v := (0 : Int32)) (by decide) dX12_may_44 rfl ?_
    obtain ⟨rfl, rfl⟩ := o_s h
    exact v_iret rfl rfl (Nat.le_of_ble_eq_true rfl) (Nat.le_of_ble_eq_true rfl) dX12_may_45
  · have h := o_p c37 h
    refine v_iconst (v := (1 : Int32)) (by decide) dX12_may_40 rfl ?_
    refine v_goto (q := 45) dX12_may_41 (by decide) ?_
    obtain ⟨rfl, rfl⟩ := o_s h
    exact v_iret rfl rfl (Nat.le_of_ble_eq_true rfl) (Nat.le_of_ble_eq_true rfl) dX12_may_45
set_option maxRecDepth 100000 in
set_option maxHeartbeats 4000000 in
theorem k_X12_may {G : Gm} (hG : gF G = mFl) {σ : Hp} {o : Int64} {r : Int32} {μ' : Mu} {μ : Mu} {a1 : Int32} (h : f_X12_may μ a1 = some (r, μ')) : Ci G yX12_may cX12_may 2 (some .boolean) rm_X12_may [.ref (gM G 200), .int a1] (σ, μ, o) r (σ, μ', o) 0 0 := by
  refine v_entI [(0, .ref (gM G 200)), (1, .int a1)] (by decide +kernel) (Nat.le_of_ble_eq_true rfl) rfl ?_
  unfold f_X12_may at h
  refine v_aload_n 0 rfl dX12_may_0 rfl ?_
  refine v_iload_n 1 rfl dX12_may_1 rfl ?_
  refine v_aload_n 0 rfl dX12_may_2 rfl ?_
  refine v_mI (j := 1) (mg hG rfl) (by decide) rfl qf_RX12_223 dX12_may_3 rfl ?_
  obtain ⟨v6, e6, h⟩ := o_b h
  refine v_Si (as := [.int a1, .int (μ.1 1)]) (st := [.ref (gM G 200)]) (c' := 0) (k' := 0) (k_X12_in e6) mk_X12_in qs_X12_in qm_RX12_374 (ck rfl) rfl dX12_may_6 rfl rfl rfl ?_
  refine v_if_ne 16 dX12_may_9 (by decide) rfl (fun c9 => ?_) (fun c9 => ?_)
  · have h := o_n c9 h
    refine v_aload_n 0 rfl dX12_may_16 rfl ?_
    refine v_mR (j := 32) (mg hG rfl) (by decide) rfl qf_RX12_85 dX12_may_17 rfl ?_
    refine v_iload_n 1 rfl dX12_may_20 rfl ?_
    obtain ⟨v21, e21, h⟩ := o_b h
    refine v_mZ e21 (mg hG rfl) (by decide) rfl dX12_may_21 rfl ?_
    refine v_if_eq 29 dX12_may_22 (by decide) rfl (fun c22 => ?_) (fun c22 => ?_)
    · have h := o_p c22 h
      refine v_iconst (v := (0 : Int32)) (by decide) dX12_may_29 rfl ?_
      refine v_sub [0] rfl ?_
      exact l_X12_may_30 hG h
    · have h := o_n c22 h
      refine v_iconst (v := (2 : Int32)) (by decide) dX12_may_25 rfl ?_
      refine v_goto (q := 30) dX12_may_26 (by decide) ?_
      refine v_sub [0] rfl ?_
      exact l_X12_may_30 hG h
  · have h := o_p c9 h
    refine v_iconst (v := (1 : Int32)) (by decide) dX12_may_12 rfl ?_
    refine v_goto (q := 30) dX12_may_13 (by decide) ?_
    refine v_sub [0] rfl ?_
    exact l_X12_may_30 hG h
def rm_X12_suspect : Room := { frames := 3, cells := 0, slots := 0, locals := 75 }
set_option maxRecDepth 100000 in
set_option maxHeartbeats 4000000 in
theorem k_X12_suspect {G : Gm} (hG : gF G = mFl) {σ : Hp} {o : Int64} {μ' : Mu} {μ : Mu} {a1 : Int32} (h : f_X12_suspect μ a1 = some μ') : Cv G yX12_suspect cX12_suspect 2 none rm_X12_suspect [.ref (gM G 200), .int a1] (σ, μ, o) (σ, μ', o) 0 0 := by
  refine v_entV [(0, .ref (gM G 200)), (1, .int a1)] (by decide +kernel) (Nat.le_of_ble_eq_true rfl) rfl ?_
  unfold f_X12_suspect at h
  refine v_aload_n 0 rfl dX12_suspect_0 rfl ?_
  refine v_iload_n 1 rfl dX12_suspect_1 rfl ?_
  obtain ⟨v2, e2, h⟩ := o_b h
  refine v_Vi (as := [.int a1]) (st := []) (c' := 0) (k' := 0) (k_X12_may hG e2) (rcv_m (mg hG rfl)) mk_X12_may qi_X12_may qe_X12_may qm_RX12_389 (ck rfl) rfl dX12_suspect_2 rfl rfl rfl ?_
  refine v_if_eq 27 dX12_suspect_5 (by decide) rfl (fun c5 => ?_) (fun c5 => ?_)
  · have h := o_p c5 h
    obtain rfl := Option.some.inj h
    exact v_vret rfl (Nat.le_of_ble_eq_true rfl) (Nat.le_of_ble_eq_true rfl) dX12_suspect_27
  · have h := o_n c5 h
    refine v_aload_n 0 rfl dX12_suspect_8 rfl ?_
    refine v_iload_n 1 rfl dX12_suspect_9 rfl ?_
    refine v_aload_n 0 rfl dX12_suspect_10 rfl ?_
    refine v_mR (j := 33) (mg hG rfl) (by decide) rfl qf_RX12_88 dX12_suspect_11 rfl ?_
    refine v_iload_n 1 rfl dX12_suspect_14 rfl ?_
    obtain ⟨v15, e15, h⟩ := o_b h
    refine v_mA e15 (mg hG rfl) (by decide) rfl dX12_suspect_15 rfl ?_
    refine v_iconst (v := (1 : Int32)) (by decide) dX12_suspect_16 rfl ?_
    refine v_iadd dX12_suspect_17 rfl ?_
    refine v_aload_n 0 rfl dX12_suspect_18 rfl ?_
    refine v_mR (j := 34) (mg hG rfl) (by decide) rfl qf_RX12_91 dX12_suspect_19 rfl ?_
    refine v_iload_n 1 rfl dX12_suspect_22 rfl ?_
    obtain ⟨v23, e23, h⟩ := o_b h
    refine v_mA e23 (mg hG rfl) (by decide) rfl dX12_suspect_23 rfl ?_
    obtain ⟨v24, e24, h⟩ := o_b h
    refine v_Vv (as := [.int a1, .int (v15 + (1 : Int32)), .int v23]) (st := []) (c' := 0) (k' := 0) (k_X12_turn hG e24) (rcv_m (mg hG rfl)) mk_X12_turn qi_X12_turn qe_X12_turn qm_RX12_312 (ck rfl) rfl dX12_suspect_24 rfl rfl rfl ?_
    obtain rfl := Option.some.inj h
    exact v_vret rfl (Nat.le_of_ble_eq_true rfl) (Nat.le_of_ble_eq_true rfl) dX12_suspect_27
def rm_X12_nudge : Room := { frames := 2, cells := 0, slots := 0, locals := 52 }
set_option maxRecDepth 100000 in
set_option maxHeartbeats 4000000 in
theorem k_X12_nudge {G : Gm} (hG : gF G = mFl) {σ : Hp} {o : Int64} {r : Int32} {μ' : Mu} {μ : Mu} {a1 : Int32} (h : f_X12_nudge μ a1 = some (r, μ')) : Ci G yX12_nudge cX12_nudge 3 (some .int) rm_X12_nudge [.ref (gM G 200), .int a1] (σ, μ, o) r (σ, μ', o) 0 0 := by
  refine v_entI [(0, .ref (gM G 200)), (1, .int a1)] (by decide +kernel) (Nat.le_of_ble_eq_true rfl) rfl ?_
  unfold f_X12_nudge at h
  refine v_aload_n 0 rfl dX12_nudge_0 rfl ?_
  refine v_iload_n 1 rfl dX12_nudge_1 rfl ?_
  obtain ⟨v2, e2, h⟩ := o_b h
  refine v_Vi (as := [.int a1]) (st := []) (c' := 0) (k' := 0) (k_X12_may hG e2) (rcv_m (mg hG rfl)) mk_X12_may qi_X12_may qe_X12_may qm_RX12_389 (ck rfl) rfl dX12_nudge_2 rfl rfl rfl ?_
  refine v_if_ne 10 dX12_nudge_5 (by decide) rfl (fun c5 => ?_) (fun c5 => ?_)
  · have h := o_n c5 h
    refine v_aload_n 0 rfl dX12_nudge_10 rfl ?_
    refine v_mI (j := 13) (mg hG rfl) (by decide) rfl qf_RX12_232 dX12_nudge_11 rfl ?_
    refine v_istore_n [(2, .int (v2.2.1 13)), (0, .ref (gM G 200)), (1, .int a1)] dX12_nudge_14 rfl (by decide) rfl ?_
    refine v_aload_n 1 rfl dX12_nudge_15 rfl ?_
    refine v_mR (j := 35) (mg hG rfl) (by decide) rfl qf_RX12_94 dX12_nudge_16 rfl ?_
    refine v_iload_n 2 rfl dX12_nudge_19 rfl ?_
    obtain ⟨v20, e20, h⟩ := o_b h
    refine v_mA e20 (mg hG rfl) (by decide) rfl dX12_nudge_20 rfl ?_
    refine v_iconst (v := (1 : Int32)) (by decide) dX12_nudge_21 rfl ?_
    refine v_icmp_ne 40 dX12_nudge_22 (by decide) rfl (fun c22 => ?_) (fun c22 => ?_)
    · have h := o_n c22 h
      refine v_aload_n 1 rfl dX12_nudge_40 rfl ?_
      refine v_mR (j := 35) (mg hG rfl) (by decide) rfl qf_RX12_94 dX12_nudge_41 rfl ?_
      refine v_iload_n 2 rfl dX12_nudge_44 rfl ?_
      obtain ⟨v45, e45, h⟩ := o_b h
      refine v_mA e45 (mg hG rfl) (by decide) rfl dX12_nudge_45 rfl ?_
      refine v_iconst (v := (2 : Int32)) (by decide) dX12_nudge_46 rfl ?_
      refine v_icmp_ne 74 dX12_nudge_47 (by decide) rfl (fun c47 => ?_) (fun c47 => ?_)
      · have h := o_n c47 h
        refine v_aload_n 1 rfl dX12_nudge_74 rfl ?_
        refine v_iload_n 2 rfl dX12_nudge_75 rfl ?_
        obtain ⟨v76, e76, h⟩ := o_b h
        refine v_Vi (as := [.int a1]) (st := []) (c' := 0) (k' := 0) (k_X12_leads hG e76) (rcv_m (mg hG rfl)) mk_X12_leads qi_X12_leads qe_X12_leads qm_RX12_248 (ck rfl) rfl dX12_nudge_76 rfl rfl rfl ?_
        refine v_if_ne 124 dX12_nudge_79 (by decide) rfl (fun c79 => ?_) (fun c79 => ?_)
        · have h := o_n c79 h
          refine v_aload_n 1 rfl dX12_nudge_124 rfl ?_
          refine v_mI (j := 13) (mg hG rfl) (by decide) rfl qf_RX12_232 dX12_nudge_125 rfl ?_
          refine v_iload_n 0 rfl dX12_nudge_128 rfl ?_
          refine v_isub dX12_nudge_129 rfl ?_
          obtain ⟨rfl, rfl⟩ := o_s h
          exact v_iret rfl rfl (Nat.le_of_ble_eq_true rfl) (Nat.le_of_ble_eq_true rfl) dX12_nudge_130
        · have h := o_p c79 h
          refine v_aload_n 1 rfl dX12_nudge_82 rfl ?_
          refine v_mR (j := 43) (mg hG rfl) (by decide) rfl qf_RX12_118 dX12_nudge_83 rfl ?_
          refine v_iload_n 2 rfl dX12_nudge_86 rfl ?_
          obtain ⟨v87, e87, h⟩ := o_b h
          refine v_mA e87 (mg hG rfl) (by decide) rfl dX12_nudge_87 rfl ?_
          refine v_if_le 124 dX12_nudge_88 (by decide) rfl (fun c88 => ?_) (fun c88 => ?_)
          · have h := o_p c88 h
            refine v_aload_n 1 rfl dX12_nudge_124 rfl ?_
            refine v_mI (j := 13) (mg hG rfl) (by decide) rfl qf_RX12_232 dX12_nudge_125 rfl ?_
            refine v_iload_n 0 rfl dX12_nudge_128 rfl ?_
            refine v_isub dX12_nudge_129 rfl ?_
            obtain ⟨rfl, rfl⟩ := o_s h
            exact v_iret rfl rfl (Nat.le_of_ble_eq_true rfl) (Nat.le_of_ble_eq_true rfl) dX12_nudge_130
          · have h := o_n c88 h
            refine v_aload_n 1 rfl dX12_nudge_91 rfl ?_
            refine v_iconst (v := (1 : Int32)) (by decide) dX12_nudge_92 rfl ?_
            refine v_iload_n 2 rfl dX12_nudge_93 rfl ?_
            refine v_aload_n 1 rfl dX12_nudge_94 rfl ?_
            refine v_iload_n 2 rfl dX12_nudge_95 rfl ?_
            obtain ⟨v96, e96, h⟩ := o_b h
            refine v_Vi (as := [.int a1]) (st := [.int a1, .int (1 : Int32), .ref (gM G 200)]) (c' := 0) (k' := 0) (k_X12_leader hG e96) (rcv_m (mg hG rfl)) mk_X12_leader qi_X12_leader qe_X12_leader qm_RX12_269 (ck rfl) rfl dX12_nudge_96 rfl rfl rfl ?_
            refine v_aload_n 1 rfl dX12_nudge_99 rfl ?_
            refine v_mR (j := 33) (mg hG rfl) (by decide) rfl qf_RX12_88 dX12_nudge_100 rfl ?_
            refine v_iload_n 2 rfl dX12_nudge_103 rfl ?_
            obtain ⟨v104, e104, h⟩ := o_b h
            refine v_mA e104 (mg hG rfl) (by decide) rfl dX12_nudge_104 rfl ?_
            refine v_aload_n 1 rfl dX12_nudge_105 rfl ?_
            refine v_mR (j := 34) (mg hG rfl) (by decide) rfl qf_RX12_91 dX12_nudge_106 rfl ?_
            refine v_iload_n 2 rfl dX12_nudge_109 rfl ?_
            obtain ⟨v110, e110, h⟩ := o_b h
            refine v_mA e110 (mg hG rfl) (by decide) rfl dX12_nudge_110 rfl ?_
            refine v_aload_n 1 rfl dX12_nudge_111 rfl ?_
            refine v_mR (j := 38) (mg hG rfl) (by decide) rfl qf_RX12_103 dX12_nudge_112 rfl ?_
            refine v_iload_n 2 rfl dX12_nudge_115 rfl ?_
            obtain ⟨v116, e116, h⟩ := o_b h
            refine v_mA e116 (mg hG rfl) (by decide) rfl dX12_nudge_116 rfl ?_
            refine v_iconst (v := (1 : Int32)) (by decide) dX12_nudge_117 rfl ?_
            refine v_iadd dX12_nudge_118 rfl ?_
            refine v_iconst (v := (0 : Int32)) (by decide) dX12_nudge_119 rfl ?_
            obtain ⟨v120, e120, h⟩ := o_b h
            refine v_Vi (as := [.int (1 : Int32), .int a1, .int v96, .int v104, .int v110, .int (v116 + (1 : Int32)), .int (0 : Int32)]) (st := []) (c' := 0) (k' := 0) (k_X12_send hG e120) (rcv_m (mg hG rfl)) mk_X12_send qi_X12_send qe_X12_send qm_RX12_241 (ck rfl) rfl dX12_nudge_120 rfl rfl rfl ?_
            refine v_pop rfl dX12_nudge_123 rfl ?_
            refine v_aload_n 1 rfl dX12_nudge_124 rfl ?_
            refine v_mI (j := 13) (mg hG rfl) (by decide) rfl qf_RX12_232 dX12_nudge_125 rfl ?_
            refine v_iload_n 0 rfl dX12_nudge_128 rfl ?_
            refine v_isub dX12_nudge_129 rfl ?_
            obtain ⟨rfl, rfl⟩ := o_s h
            exact v_iret rfl rfl (Nat.le_of_ble_eq_true rfl) (Nat.le_of_ble_eq_true rfl) dX12_nudge_130
      · have h := o_p c47 h
        refine v_aload_n 1 rfl dX12_nudge_50 rfl ?_
        refine v_bipush (v := (8 : Int32)) (by decide) dX12_nudge_51 rfl ?_
        refine v_iload_n 2 rfl dX12_nudge_53 rfl ?_
        refine v_iconst (v := (0 : Int32)) (by decide) dX12_nudge_54 rfl ?_
        obtain ⟨v55, e55, h⟩ := o_b h
        refine v_Vv (as := [.int (8 : Int32), .int a1, .int (0 : Int32)]) (st := []) (c' := 0) (k' := 0) (k_X12_all hG e55) (rcv_m (mg hG rfl)) mk_X12_all qi_X12_all qe_X12_all qm_RX12_273 (ck rfl) rfl dX12_nudge_55 rfl rfl rfl ?_
        refine v_aload_n 1 rfl dX12_nudge_58 rfl ?_
        refine v_iload_n 2 rfl dX12_nudge_59 rfl ?_
        obtain ⟨v60, e60, h⟩ := o_b h
        refine v_Vi (as := [.int a1]) (st := []) (c' := 0) (k' := 0) (k_X12_leads hG e60) (rcv_m (mg hG rfl)) mk_X12_leads qi_X12_leads qe_X12_leads qm_RX12_248 (ck rfl) rfl dX12_nudge_60 rfl rfl rfl ?_
        refine v_if_ne 124 dX12_nudge_63 (by decide) rfl (fun c63 => ?_) (fun c63 => ?_)
        · have h := o_n c63 h
          refine v_aload_n 1 rfl dX12_nudge_124 rfl ?_
          refine v_mI (j := 13) (mg hG rfl) (by decide) rfl qf_RX12_232 dX12_nudge_125 rfl ?_
          refine v_iload_n 0 rfl dX12_nudge_128 rfl ?_
          refine v_isub dX12_nudge_129 rfl ?_
          obtain ⟨rfl, rfl⟩ := o_s h
          exact v_iret rfl rfl (Nat.le_of_ble_eq_true rfl) (Nat.le_of_ble_eq_true rfl) dX12_nudge_130
        · have h := o_p c63 h
          refine v_aload_n 1 rfl dX12_nudge_66 rfl ?_
          refine v_iload_n 2 rfl dX12_nudge_67 rfl ?_
          obtain ⟨v68, e68, h⟩ := o_b h
          refine v_Vv (as := [.int a1]) (st := []) (c' := 0) (k' := 0) (k_X12_tellTurned hG e68) (rcv_m (mg hG rfl)) mk_X12_tellTurned qi_X12_tellTurned qe_X12_tellTurned qm_RX12_284 (ck rfl) rfl dX12_nudge_68 rfl rfl rfl ?_
          refine v_goto (q := 124) dX12_nudge_71 (by decide) ?_
          refine v_aload_n 1 rfl dX12_nudge_124 rfl ?_
          refine v_mI (j := 13) (mg hG rfl) (by decide) rfl qf_RX12_232 dX12_nudge_125 rfl ?_
          refine v_iload_n 0 rfl dX12_nudge_128 rfl ?_
          refine v_isub dX12_nudge_129 rfl ?_
          obtain ⟨rfl, rfl⟩ := o_s h
          exact v_iret rfl rfl (Nat.le_of_ble_eq_true rfl) (Nat.le_of_ble_eq_true rfl) dX12_nudge_130
    · have h := o_p c22 h
      refine v_aload_n 1 rfl dX12_nudge_25 rfl ?_
      refine v_iconst (v := (3 : Int32)) (by decide) dX12_nudge_26 rfl ?_
      refine v_iload_n 2 rfl dX12_nudge_27 rfl ?_
      refine v_aload_n 1 rfl dX12_nudge_28 rfl ?_
      refine v_mR (j := 38) (mg hG rfl) (by decide) rfl qf_RX12_103 dX12_nudge_29 rfl ?_
      refine v_iload_n 2 rfl dX12_nudge_32 rfl ?_
      obtain ⟨v33, e33, h⟩ := o_b h
      refine v_mA e33 (mg hG rfl) (by decide) rfl dX12_nudge_33 rfl ?_
      obtain ⟨v34, e34, h⟩ := o_b h
      refine v_Vv (as := [.int (3 : Int32), .int a1, .int v33]) (st := []) (c' := 0) (k' := 0) (k_X12_all hG e34) (rcv_m (mg hG rfl)) mk_X12_all qi_X12_all qe_X12_all qm_RX12_273 (ck rfl) rfl dX12_nudge_34 rfl rfl rfl ?_
      refine v_goto (q := 124) dX12_nudge_37 (by decide) ?_
      refine v_aload_n 1 rfl dX12_nudge_124 rfl ?_
      refine v_mI (j := 13) (mg hG rfl) (by decide) rfl qf_RX12_232 dX12_nudge_125 rfl ?_
      refine v_iload_n 0 rfl dX12_nudge_128 rfl ?_
      refine v_isub dX12_nudge_129 rfl ?_
      obtain ⟨rfl, rfl⟩ := o_s h
      exact v_iret rfl rfl (Nat.le_of_ble_eq_true rfl) (Nat.le_of_ble_eq_true rfl) dX12_nudge_130
  · have h := o_p c5 h
    refine v_iconst (v := (0 : Int32)) (by decide) dX12_nudge_8 rfl ?_
    obtain ⟨rfl, rfl⟩ := o_s h
    exact v_iret rfl rfl (Nat.le_of_ble_eq_true rfl) (Nat.le_of_ble_eq_true rfl) dX12_nudge_9
def rm_X12_sync_ : Room := { frames := 1, cells := 0, slots := 0, locals := 28 }
set_option maxRecDepth 100000 in
set_option maxHeartbeats 4000000 in
theorem l_X12_sync__112 {G : Gm} (hG : gF G = mFl) {σ : Hp} {o : Int64} {μ' : Mu} {rec62 : Mu → Int32 → Int32 → Option Mu} (h62 : ∀ {μ : Mu} {x2 : Int32} {x3 : Int32} , rec62 μ x2 x3 = some μ' → V G yX12_sync_ cX12_sync_ 4 none rm_X12_sync_ (zV G (σ, μ', o) 0 0) (σ, μ, o) 0 0 62 [(0, .ref (gM G 200)), (2, .int x2), (3, .int x3)] []) {μ : Mu} {x2 : Int32} {x3 : Int32} (h : f_X12_sync__112 rec62 μ x2 x3 = some μ') : V G yX12_sync_ cX12_sync_ 4 none rm_X12_sync_ (zV G (σ, μ', o) 0 0) (σ, μ, o) 0 0 112 [(0, .ref (gM G 200)), (2, .int x2), (3, .int x3)] [] := by
  unfold f_X12_sync__112 at h
  refine v_iinc (v := (x3 + 1)) [(3, .int (x3 + 1)), (0, .ref (gM G 200)), (2, .int x2)] 2 rfl rfl dX12_sync__112 rfl (by decide) rfl ?_
  refine v_goto (q := 62) dX12_sync__115 (by decide) ?_
  refine v_sub [1, 2, 0] rfl ?_
  exact h62 h
set_option maxRecDepth 100000 in
set_option maxHeartbeats 4000000 in
theorem l_X12_sync__62 {G : Gm} (hG : gF G = mFl) {σ : Hp} {o : Int64} {μ' : Mu} : ∀ (n : Nat) {μ : Mu} {x2 : Int32} {x3 : Int32} , f_X12_sync__62 n μ x2 x3 = some μ' → V G yX12_sync_ cX12_sync_ 4 none rm_X12_sync_ (zV G (σ, μ', o) 0 0) (σ, μ, o) 0 0 62 [(0, .ref (gM G 200)), (2, .int x2), (3, .int x3)] [] := by
  intro n
  induction n with
  | zero => intro _ _ _ h; cases h
  | succ n ih =>
    intro μ x2 x3 h
    replace h : b_X12_sync__62 (f_X12_sync__62 n) μ x2 x3 = some μ' := h
    unfold b_X12_sync__62 at h
    refine v_iload_n 2 rfl dX12_sync__62 rfl ?_
    refine v_aload_n 0 rfl dX12_sync__63 rfl ?_
    refine v_mI (j := 1) (mg hG rfl) (by decide) rfl qf_RX12_223 dX12_sync__64 rfl ?_
    refine v_icmp_ge 118 dX12_sync__67 (by decide) rfl (fun c67 => ?_) (fun c67 => ?_)
    · have h := o_p c67 h
      obtain rfl := Option.some.inj h
      exact v_vret rfl (Nat.le_of_ble_eq_true rfl) (Nat.le_of_ble_eq_true rfl) dX12_sync__118
    · have h := o_n c67 h
      refine v_iload_n 2 rfl dX12_sync__70 rfl ?_
      refine v_iload_n 1 rfl dX12_sync__71 rfl ?_
      refine v_icmp_eq 112 dX12_sync__72 (by decide) rfl (fun c72 => ?_) (fun c72 => ?_)
      · have h := o_p c72 h
        exact l_X12_sync__112 hG (fun h => ih h) h
      · have h := o_n c72 h
        refine v_aload_n 0 rfl dX12_sync__75 rfl ?_
        refine v_aload_n 0 rfl dX12_sync__76 rfl ?_
        refine v_iconst (v := (5 : Int32)) (by decide) dX12_sync__77 rfl ?_
        refine v_iload_n 1 rfl dX12_sync__78 rfl ?_
        refine v_iload_n 2 rfl dX12_sync__79 rfl ?_
        refine v_aload_n 0 rfl dX12_sync__80 rfl ?_
        refine v_mR (j := 33) (mg hG rfl) (by decide) rfl qf_RX12_88 dX12_sync__81 rfl ?_
        refine v_iload_n 1 rfl dX12_sync__84 rfl ?_
        obtain ⟨v85, e85, h⟩ := o_b h
        refine v_mA e85 (mg hG rfl) (by decide) rfl dX12_sync__85 rfl ?_
        refine v_aload_n 0 rfl dX12_sync__86 rfl ?_
        refine v_mR (j := 34) (mg hG rfl) (by decide) rfl qf_RX12_91 dX12_sync__87 rfl ?_
        refine v_iload_n 1 rfl dX12_sync__90 rfl ?_
        obtain ⟨v91, e91, h⟩ := o_b h
        refine v_mA e91 (mg hG rfl) (by decide) rfl dX12_sync__91 rfl ?_
        refine v_aload_n 0 rfl dX12_sync__92 rfl ?_
        refine v_mR (j := 38) (mg hG rfl) (by decide) rfl qf_RX12_103 dX12_sync__93 rfl ?_
        refine v_iload_n 1 rfl dX12_sync__96 rfl ?_
        obtain ⟨v97, e97, h⟩ := o_b h
        refine v_mA e97 (mg hG rfl) (by decide) rfl dX12_sync__97 rfl ?_
        refine v_iconst (v := (0 : Int32)) (by decide) dX12_sync__98 rfl ?_
        obtain ⟨v99, e99, h⟩ := o_b h
        refine v_Vi (as := [.int (5 : Int32), .int x2, .int x3, .int v85, .int v91, .int v97, .int (0 : Int32)]) (st := [.ref (gM G 200)]) (c' := 0) (k' := 0) (k_X12_send hG e99) (rcv_m (mg hG rfl)) mk_X12_send qi_X12_send qe_X12_send qm_RX12_241 (ck rfl) rfl dX12_sync__99 rfl rfl rfl ?_
        refine v_iload_n 1 rfl dX12_sync__102 rfl ?_
        refine v_aload_n 0 rfl dX12_sync__103 rfl ?_
        refine v_mR (j := 38) (mg hG rfl) (by decide) rfl qf_RX12_103 dX12_sync__104 rfl ?_
        refine v_iload_n 1 rfl dX12_sync__107 rfl ?_
        obtain ⟨v108, e108, h⟩ := o_b h
        refine v_mA e108 (mg hG rfl) (by decide) rfl dX12_sync__108 rfl ?_
        obtain ⟨v109, e109, h⟩ := o_b h
        refine v_Vv (as := [.int v99.1, .int x2, .int v108]) (st := []) (c' := 0) (k' := 0) (k_X12_load hG e109) (rcv_m (mg hG rfl)) mk_X12_load qi_X12_load qe_X12_load qm_RX12_277 (ck rfl) rfl dX12_sync__109 rfl rfl rfl ?_
        exact l_X12_sync__112 hG (fun h => ih h) h
set_option maxRecDepth 100000 in
set_option maxHeartbeats 4000000 in
theorem l_X12_sync__49 {G : Gm} (hG : gF G = mFl) {σ : Hp} {o : Int64} {μ' : Mu} {μ : Mu} {x2 : Int32} {y1 : Int32} (h : f_X12_sync__49 μ x2 y1 = some μ') : V G yX12_sync_ cX12_sync_ 4 none rm_X12_sync_ (zV G (σ, μ', o) 0 0) (σ, μ, o) 0 0 49 [(0, .ref (gM G 200)), (2, .int x2)] [.int y1, .ref (gM G 200)] := by
  unfold f_X12_sync__49 at h
  obtain ⟨s49, e49, h⟩ := o_b h
  refine v_mP e49 (mg hG rfl) (by decide) rfl rfl rfl rfl rfl qf_RX12_229 dX12_sync__49 rfl ?_
  refine v_aload_n 0 rfl dX12_sync__52 rfl ?_
  refine v_mI (j := 0) (mg hG rfl) (by decide) rfl qf_RX12_229 dX12_sync__53 rfl ?_
  refine v_if_le 60 dX12_sync__56 (by decide) rfl (fun c56 => ?_) (fun c56 => ?_)
  · have h := o_p c56 h
    refine v_iconst (v := (0 : Int32)) (by decide) dX12_sync__60 rfl ?_
    refine v_istore_n [(3, .int (0 : Int32)), (0, .ref (gM G 200)), (2, .int x2)] dX12_sync__61 rfl (by decide) rfl ?_
    refine v_sub [1, 2, 0] rfl ?_
    exact l_X12_sync__62 hG _ h
  · have h := o_n c56 h
    obtain rfl := Option.some.inj h
    exact v_vret rfl (Nat.le_of_ble_eq_true rfl) (Nat.le_of_ble_eq_true rfl) dX12_sync__59
set_option maxRecDepth 100000 in
set_option maxHeartbeats 4000000 in
theorem l_X12_sync__44 {G : Gm} (hG : gF G = mFl) {σ : Hp} {o : Int64} {μ' : Mu} {μ : Mu} {x2 : Int32} (h : f_X12_sync__44 μ x2 = some μ') : V G yX12_sync_ cX12_sync_ 4 none rm_X12_sync_ (zV G (σ, μ', o) 0 0) (σ, μ, o) 0 0 44 [(0, .ref (gM G 200)), (2, .int x2)] [.ref (gM G 200)] := by
  unfold f_X12_sync__44 at h
  refine v_iconst (v := (2 : Int32)) (by decide) dX12_sync__44 rfl ?_
  refine v_goto (q := 49) dX12_sync__45 (by decide) ?_
  exact l_X12_sync__49 hG h
set_option maxRecDepth 100000 in
set_option maxHeartbeats 4000000 in
theorem k_X12_sync_ {G : Gm} (hG : gF G = mFl) {σ : Hp} {o : Int64} {μ' : Mu} {μ : Mu} {a1 : Int32} (h : f_X12_sync_ μ a1 = some μ') : Cv G yX12_sync_ cX12_sync_ 4 none rm_X12_sync_ [.ref (gM G 200), .int a1] (σ, μ, o) (σ, μ', o) 0 0 := by
  refine v_entV [(0, .ref (gM G 200)), (1, .int a1)] (by decide +kernel) (Nat.le_of_ble_eq_true rfl) rfl ?_
  unfold f_X12_sync_ at h
  refine v_iload_n 1 rfl dX12_sync__0 rfl ?_
  refine v_istore_n [(2, .int a1), (0, .ref (gM G 200)), (1, .int a1)] dX12_sync__1 rfl (by decide) rfl ?_
  refine v_aload_n 1 rfl dX12_sync__2 rfl ?_
  refine v_iload_n 0 rfl dX12_sync__3 rfl ?_
  refine v_aload_n 1 rfl dX12_sync__4 rfl ?_
  refine v_mI (j := 1) (mg hG rfl) (by decide) rfl qf_RX12_223 dX12_sync__5 rfl ?_
  obtain ⟨v8, e8, h⟩ := o_b h
  refine v_Si (as := [.int a1, .int (μ.1 1)]) (st := [.ref (gM G 200)]) (c' := 0) (k' := 0) (k_X12_in e8) mk_X12_in qs_X12_in qm_RX12_374 (ck rfl) rfl dX12_sync__8 rfl rfl rfl ?_
  refine v_if_ne 18 dX12_sync__11 (by decide) rfl (fun c11 => ?_) (fun c11 => ?_)
  · have h := o_n c11 h
    refine v_aload_n 1 rfl dX12_sync__18 rfl ?_
    refine v_mR (j := 32) (mg hG rfl) (by decide) rfl qf_RX12_85 dX12_sync__19 rfl ?_
    refine v_iload_n 0 rfl dX12_sync__22 rfl ?_
    obtain ⟨v23, e23, h⟩ := o_b h
    refine v_mZ e23 (mg hG rfl) (by decide) rfl dX12_sync__23 rfl ?_
    refine v_if_ne 44 dX12_sync__24 (by decide) rfl (fun c24 => ?_) (fun c24 => ?_)
    · have h := o_n c24 h
      refine v_sub [1, 0] rfl ?_
      exact l_X12_sync__44 hG h
    · have h := o_p c24 h
      refine v_aload_n 1 rfl dX12_sync__27 rfl ?_
      refine v_iload_n 0 rfl dX12_sync__28 rfl ?_
      obtain ⟨v29, e29, h⟩ := o_b h
      refine v_Vi (as := [.int a1]) (st := [.ref (gM G 200)]) (c' := 0) (k' := 0) (k_X12_leads hG e29) (rcv_m (mg hG rfl)) mk_X12_leads qi_X12_leads qe_X12_leads qm_RX12_248 (ck rfl) rfl dX12_sync__29 rfl rfl rfl ?_
      refine v_if_eq 44 dX12_sync__32 (by decide) rfl (fun c32 => ?_) (fun c32 => ?_)
      · have h := o_p c32 h
        refine v_sub [1, 0] rfl ?_
        exact l_X12_sync__44 hG h
      · have h := o_n c32 h
        refine v_aload_n 1 rfl dX12_sync__35 rfl ?_
        refine v_mR (j := 35) (mg hG rfl) (by decide) rfl qf_RX12_94 dX12_sync__36 rfl ?_
        refine v_iload_n 0 rfl dX12_sync__39 rfl ?_
        obtain ⟨v40, e40, h⟩ := o_b h
        refine v_mA e40 (mg hG rfl) (by decide) rfl dX12_sync__40 rfl ?_
        refine v_if_eq 48 dX12_sync__41 (by decide) rfl (fun c41 => ?_) (fun c41 => ?_)
        · have h := o_p c41 h
          refine v_iconst (v := (0 : Int32)) (by decide) dX12_sync__48 rfl ?_
          refine v_sub [1, 0] rfl ?_
          exact l_X12_sync__49 hG h
        · have h := o_n c41 h
          refine v_sub [1, 0] rfl ?_
          exact l_X12_sync__44 hG h
  · have h := o_p c11 h
    refine v_iconst (v := (1 : Int32)) (by decide) dX12_sync__14 rfl ?_
    refine v_goto (q := 49) dX12_sync__15 (by decide) ?_
    refine v_sub [1, 0] rfl ?_
    exact l_X12_sync__49 hG h
def rm_X12_fail : Room := { frames := 0, cells := 0, slots := 0, locals := 0 }
set_option maxRecDepth 100000 in
set_option maxHeartbeats 4000000 in
theorem k_X12_fail {G : Gm} (hG : gF G = mFl) {σ : Hp} {o : Int64} {r : Int32} {μ' : Mu} {μ : Mu} (h : f_X12_fail μ  = some (r, μ')) : Ci G yX12_fail cX12_fail 2 (some .boolean) rm_X12_fail [.ref (gM G 200)] (σ, μ, o) r (σ, μ', o) 0 0 := by
  refine v_entI [(0, .ref (gM G 200))] (by decide +kernel) (Nat.le_of_ble_eq_true rfl) rfl ?_
  unfold f_X12_fail at h
  refine v_aload_n 0 rfl dX12_fail_0 rfl ?_
  refine v_iconst (v := (0 : Int32)) (by decide) dX12_fail_1 rfl ?_
  obtain ⟨s2, e2, h⟩ := o_b h
  refine v_mP e2 (mg hG rfl) (by decide) rfl rfl rfl rfl rfl qf_RX12_229 dX12_fail_2 rfl ?_
  refine v_aload_n 0 rfl dX12_fail_5 rfl ?_
  refine v_mI (j := 9) (mg hG rfl) (by decide) rfl qf_RX12_25 dX12_fail_6 rfl ?_
  refine v_istore_n [(1, .int (s2.1 9)), (0, .ref (gM G 200))] dX12_fail_9 rfl (by decide) rfl ?_
  refine v_aload_n 1 rfl dX12_fail_10 rfl ?_
  refine v_iconst (v := (0 : Int32)) (by decide) dX12_fail_11 rfl ?_
  obtain ⟨s12, e12, h⟩ := o_b h
  refine v_mP e12 (mg hG rfl) (by decide) rfl rfl rfl rfl rfl qf_RX12_25 dX12_fail_12 rfl ?_
  refine v_iload_n 0 rfl dX12_fail_15 rfl ?_
  obtain ⟨⟨⟩, e16, h⟩ := o_b h
  obtain ⟨rfl, rfl⟩ := o_s h
  exact v_iret rfl (gz_of e16) (Nat.le_of_ble_eq_true rfl) (Nat.le_of_ble_eq_true rfl) dX12_fail_16
def rm_X12_install : Room := { frames := 0, cells := 0, slots := 0, locals := 0 }
set_option maxRecDepth 100000 in
set_option maxHeartbeats 4000000 in
theorem k_X12_install {G : Gm} (hG : gF G = mFl) {σ : Hp} {o : Int64} {r : Int32} {μ' : Mu} {μ : Mu} (h : f_X12_install μ  = some (r, μ')) : Ci G yX12_install cX12_install 1 (some .int) rm_X12_install [.ref (gM G 200)] (σ, μ, o) r (σ, μ', o) 0 0 := by
  refine v_entI [(0, .ref (gM G 200))] (by decide +kernel) (Nat.le_of_ble_eq_true rfl) rfl ?_
  unfold f_X12_install at h
  refine v_aload_n 0 rfl dX12_install_0 rfl ?_
  refine v_iconst (v := (0 : Int32)) (by decide) dX12_install_1 rfl ?_
  obtain ⟨s2, e2, h⟩ := o_b h
  refine v_mP e2 (mg hG rfl) (by decide) rfl rfl rfl rfl rfl qf_RX12_229 dX12_install_2 rfl ?_
  refine v_aload_n 0 rfl dX12_install_5 rfl ?_
  refine v_iconst (v := (1 : Int32)) (by decide) dX12_install_6 rfl ?_
  obtain ⟨s7, e7, h⟩ := o_b h
  refine v_mP e7 (mg hG rfl) (by decide) rfl rfl rfl rfl rfl qf_RX12_25 dX12_install_7 rfl ?_
  refine v_aload_n 0 rfl dX12_install_10 rfl ?_
  refine v_dup rfl dX12_install_11 rfl ?_
  refine v_mI (j := 10) (mg hG rfl) (by decide) rfl qf_RX12_29 dX12_install_12 rfl ?_
  refine v_iconst (v := (1 : Int32)) (by decide) dX12_install_15 rfl ?_
  refine v_iadd dX12_install_16 rfl ?_
  obtain ⟨s17, e17, h⟩ := o_b h
  refine v_mP e17 (mg hG rfl) (by decide) rfl rfl rfl rfl rfl qf_RX12_29 dX12_install_17 rfl ?_
  refine v_aload_n 0 rfl dX12_install_20 rfl ?_
  refine v_iconst (v := (0 : Int32)) (by decide) dX12_install_21 rfl ?_
  obtain ⟨s22, e22, h⟩ := o_b h
  refine v_mP e22 (mg hG rfl) (by decide) rfl rfl rfl rfl rfl qf_RX12_245 dX12_install_22 rfl ?_
  refine v_aload_n 0 rfl dX12_install_25 rfl ?_
  refine v_mI (j := 10) (mg hG rfl) (by decide) rfl qf_RX12_29 dX12_install_26 rfl ?_
  obtain ⟨rfl, rfl⟩ := o_s h
  exact v_iret rfl rfl (Nat.le_of_ble_eq_true rfl) (Nat.le_of_ble_eq_true rfl) dX12_install_29
def rm_X12_replica : Room := { frames := 1, cells := 0, slots := 0, locals := 21 }
set_option maxRecDepth 100000 in
set_option maxHeartbeats 4000000 in
theorem k_X12_replica {G : Gm} (hG : gF G = mFl) {σ : Hp} {o : Int64} {r : Int32} {μ' : Mu} {μ : Mu} {a1 : Int32} {a2 : Int32} (h : f_X12_replica μ a1 a2 = some (r, μ')) : Ci G yX12_replica cX12_replica 3 (some .int) rm_X12_replica [.ref (gM G 200), .int a1, .int a2] (σ, μ, o) r (σ, μ', o) 0 0 := by
  refine v_entI [(0, .ref (gM G 200)), (1, .int a1), (2, .int a2)] (by decide +kernel) (Nat.le_of_ble_eq_true rfl) rfl ?_
  unfold f_X12_replica at h
  refine v_aload_n 0 rfl dX12_replica_0 rfl ?_
  refine v_iconst (v := (0 : Int32)) (by decide) dX12_replica_1 rfl ?_
  obtain ⟨s2, e2, h⟩ := o_b h
  refine v_mP e2 (mg hG rfl) (by decide) rfl rfl rfl rfl rfl qf_RX12_229 dX12_replica_2 rfl ?_
  refine v_iload_n 1 rfl dX12_replica_5 rfl ?_
  refine v_aload_n 0 rfl dX12_replica_6 rfl ?_
  refine v_mI (j := 1) (mg hG rfl) (by decide) rfl qf_RX12_223 dX12_replica_7 rfl ?_
  obtain ⟨v10, e10, h⟩ := o_b h
  refine v_Si (as := [.int a1, .int (s2.1 1)]) (st := []) (c' := 0) (k' := 0) (k_X12_in e10) mk_X12_in qs_X12_in qm_RX12_374 (ck rfl) rfl dX12_replica_10 rfl rfl rfl ?_
  refine v_if_ne 18 dX12_replica_13 (by decide) rfl (fun c13 => ?_) (fun c13 => ?_)
  · have h := o_n c13 h
    refine v_iload_n 2 rfl dX12_replica_18 rfl ?_
    by_cases c19_0 : a2 = (0 : Int32)
    · have h := o_p c19_0 h
      refine v_tableIn 76 dX12_replica_19 (by rw [c19_0]; decide) (by rw [c19_0]; decide) (by rw [c19_0]; rfl) (by decide) ?_
      refine v_aload_n 0 rfl dX12_replica_76 rfl ?_
      refine v_mR (j := 32) (mg hG rfl) (by decide) rfl qf_RX12_85 dX12_replica_77 rfl ?_
      refine v_iload_n 1 rfl dX12_replica_80 rfl ?_
      obtain ⟨v81, e81, h⟩ := o_b h
      refine v_mZ e81 (mg hG rfl) (by decide) rfl dX12_replica_81 rfl ?_
      refine v_if_eq 89 dX12_replica_82 (by decide) rfl (fun c82 => ?_) (fun c82 => ?_)
      · have h := o_p c82 h
        refine v_iconst (v := (0 : Int32)) (by decide) dX12_replica_89 rfl ?_
        obtain ⟨rfl, rfl⟩ := o_s h
        exact v_iret rfl rfl (Nat.le_of_ble_eq_true rfl) (Nat.le_of_ble_eq_true rfl) dX12_replica_90
      · have h := o_n c82 h
        refine v_iconst (v := (1 : Int32)) (by decide) dX12_replica_85 rfl ?_
        refine v_goto (q := 90) dX12_replica_86 (by decide) ?_
        obtain ⟨rfl, rfl⟩ := o_s h
        exact v_iret rfl rfl (Nat.le_of_ble_eq_true rfl) (Nat.le_of_ble_eq_true rfl) dX12_replica_90
    replace h := o_n c19_0 h
    by_cases c19_1 : a2 = (1 : Int32)
    · have h := o_p c19_1 h
      refine v_tableIn 91 dX12_replica_19 (by rw [c19_1]; decide) (by rw [c19_1]; decide) (by rw [c19_1]; rfl) (by decide) ?_
      refine v_aload_n 0 rfl dX12_replica_91 rfl ?_
      refine v_mR (j := 35) (mg hG rfl) (by decide) rfl qf_RX12_94 dX12_replica_92 rfl ?_
      refine v_iload_n 1 rfl dX12_replica_95 rfl ?_
      obtain ⟨v96, e96, h⟩ := o_b h
      refine v_mA e96 (mg hG rfl) (by decide) rfl dX12_replica_96 rfl ?_
      obtain ⟨rfl, rfl⟩ := o_s h
      exact v_iret rfl rfl (Nat.le_of_ble_eq_true rfl) (Nat.le_of_ble_eq_true rfl) dX12_replica_97
    replace h := o_n c19_1 h
    by_cases c19_2 : a2 = (2 : Int32)
    · have h := o_p c19_2 h
      refine v_tableIn 98 dX12_replica_19 (by rw [c19_2]; decide) (by rw [c19_2]; decide) (by rw [c19_2]; rfl) (by decide) ?_
      refine v_aload_n 0 rfl dX12_replica_98 rfl ?_
      refine v_mR (j := 33) (mg hG rfl) (by decide) rfl qf_RX12_88 dX12_replica_99 rfl ?_
      refine v_iload_n 1 rfl dX12_replica_102 rfl ?_
      obtain ⟨v103, e103, h⟩ := o_b h
      refine v_mA e103 (mg hG rfl) (by decide) rfl dX12_replica_103 rfl ?_
      obtain ⟨rfl, rfl⟩ := o_s h
      exact v_iret rfl rfl (Nat.le_of_ble_eq_true rfl) (Nat.le_of_ble_eq_true rfl) dX12_replica_104
    replace h := o_n c19_2 h
    by_cases c19_3 : a2 = (3 : Int32)
    · have h := o_p c19_3 h
      refine v_tableIn 105 dX12_replica_19 (by rw [c19_3]; decide) (by rw [c19_3]; decide) (by rw [c19_3]; rfl) (by decide) ?_
      refine v_aload_n 0 rfl dX12_replica_105 rfl ?_
      refine v_mR (j := 34) (mg hG rfl) (by decide) rfl qf_RX12_91 dX12_replica_106 rfl ?_
      refine v_iload_n 1 rfl dX12_replica_109 rfl ?_
      obtain ⟨v110, e110, h⟩ := o_b h
      refine v_mA e110 (mg hG rfl) (by decide) rfl dX12_replica_110 rfl ?_
      obtain ⟨rfl, rfl⟩ := o_s h
      exact v_iret rfl rfl (Nat.le_of_ble_eq_true rfl) (Nat.le_of_ble_eq_true rfl) dX12_replica_111
    replace h := o_n c19_3 h
    by_cases c19_4 : a2 = (4 : Int32)
    · have h := o_p c19_4 h
      refine v_tableIn 112 dX12_replica_19 (by rw [c19_4]; decide) (by rw [c19_4]; decide) (by rw [c19_4]; rfl) (by decide) ?_
      refine v_aload_n 0 rfl dX12_replica_112 rfl ?_
      refine v_mR (j := 39) (mg hG rfl) (by decide) rfl qf_RX12_106 dX12_replica_113 rfl ?_
      refine v_iload_n 1 rfl dX12_replica_116 rfl ?_
      obtain ⟨v117, e117, h⟩ := o_b h
      refine v_mA e117 (mg hG rfl) (by decide) rfl dX12_replica_117 rfl ?_
      obtain ⟨rfl, rfl⟩ := o_s h
      exact v_iret rfl rfl (Nat.le_of_ble_eq_true rfl) (Nat.le_of_ble_eq_true rfl) dX12_replica_118
    replace h := o_n c19_4 h
    by_cases c19_5 : a2 = (5 : Int32)
    · have h := o_p c19_5 h
      refine v_tableIn 119 dX12_replica_19 (by rw [c19_5]; decide) (by rw [c19_5]; decide) (by rw [c19_5]; rfl) (by decide) ?_
      refine v_aload_n 0 rfl dX12_replica_119 rfl ?_
      refine v_mR (j := 38) (mg hG rfl) (by decide) rfl qf_RX12_103 dX12_replica_120 rfl ?_
      refine v_iload_n 1 rfl dX12_replica_123 rfl ?_
      obtain ⟨v124, e124, h⟩ := o_b h
      refine v_mA e124 (mg hG rfl) (by decide) rfl dX12_replica_124 rfl ?_
      obtain ⟨rfl, rfl⟩ := o_s h
      exact v_iret rfl rfl (Nat.le_of_ble_eq_true rfl) (Nat.le_of_ble_eq_true rfl) dX12_replica_125
    replace h := o_n c19_5 h
    by_cases c19_6 : a2 = (6 : Int32)
    · have h := o_p c19_6 h
      refine v_tableIn 126 dX12_replica_19 (by rw [c19_6]; decide) (by rw [c19_6]; decide) (by rw [c19_6]; rfl) (by decide) ?_
      refine v_aload_n 0 rfl dX12_replica_126 rfl ?_
      refine v_mR (j := 40) (mg hG rfl) (by decide) rfl qf_RX12_109 dX12_replica_127 rfl ?_
      refine v_iload_n 1 rfl dX12_replica_130 rfl ?_
      obtain ⟨v131, e131, h⟩ := o_b h
      refine v_mA e131 (mg hG rfl) (by decide) rfl dX12_replica_131 rfl ?_
      obtain ⟨rfl, rfl⟩ := o_s h
      exact v_iret rfl rfl (Nat.le_of_ble_eq_true rfl) (Nat.le_of_ble_eq_true rfl) dX12_replica_132
    replace h := o_n c19_6 h
    by_cases c19_7 : a2 = (7 : Int32)
    · have h := o_p c19_7 h
      refine v_tableIn 133 dX12_replica_19 (by rw [c19_7]; decide) (by rw [c19_7]; decide) (by rw [c19_7]; rfl) (by decide) ?_
      refine v_aload_n 0 rfl dX12_replica_133 rfl ?_
      refine v_mR (j := 43) (mg hG rfl) (by decide) rfl qf_RX12_118 dX12_replica_134 rfl ?_
      refine v_iload_n 1 rfl dX12_replica_137 rfl ?_
      obtain ⟨v138, e138, h⟩ := o_b h
      refine v_mA e138 (mg hG rfl) (by decide) rfl dX12_replica_138 rfl ?_
      obtain ⟨rfl, rfl⟩ := o_s h
      exact v_iret rfl rfl (Nat.le_of_ble_eq_true rfl) (Nat.le_of_ble_eq_true rfl) dX12_replica_139
    replace h := o_n c19_7 h
    by_cases c19_8 : a2 = (8 : Int32)
    · have h := o_p c19_8 h
      refine v_tableIn 140 dX12_replica_19 (by rw [c19_8]; decide) (by rw [c19_8]; decide) (by rw [c19_8]; rfl) (by decide) ?_
      refine v_aload_n 0 rfl dX12_replica_140 rfl ?_
      refine v_mR (j := 36) (mg hG rfl) (by decide) rfl qf_RX12_97 dX12_replica_141 rfl ?_
      refine v_iload_n 1 rfl dX12_replica_144 rfl ?_
      obtain ⟨v145, e145, h⟩ := o_b h
      refine v_mA e145 (mg hG rfl) (by decide) rfl dX12_replica_145 rfl ?_
      obtain ⟨rfl, rfl⟩ := o_s h
      exact v_iret rfl rfl (Nat.le_of_ble_eq_true rfl) (Nat.le_of_ble_eq_true rfl) dX12_replica_146
    replace h := o_n c19_8 h
    by_cases c19_9 : a2 = (9 : Int32)
    · have h := o_p c19_9 h
      refine v_tableIn 147 dX12_replica_19 (by rw [c19_9]; decide) (by rw [c19_9]; decide) (by rw [c19_9]; rfl) (by decide) ?_
      refine v_aload_n 0 rfl dX12_replica_147 rfl ?_
      refine v_mR (j := 37) (mg hG rfl) (by decide) rfl qf_RX12_100 dX12_replica_148 rfl ?_
      refine v_iload_n 1 rfl dX12_replica_151 rfl ?_
      obtain ⟨v152, e152, h⟩ := o_b h
      refine v_mA e152 (mg hG rfl) (by decide) rfl dX12_replica_152 rfl ?_
      obtain ⟨rfl, rfl⟩ := o_s h
      exact v_iret rfl rfl (Nat.le_of_ble_eq_true rfl) (Nat.le_of_ble_eq_true rfl) dX12_replica_153
    replace h := o_n c19_9 h
    by_cases c19_10 : a2 = (10 : Int32)
    · have h := o_p c19_10 h
      refine v_tableIn 154 dX12_replica_19 (by rw [c19_10]; decide) (by rw [c19_10]; decide) (by rw [c19_10]; rfl) (by decide) ?_
      refine v_aload_n 0 rfl dX12_replica_154 rfl ?_
      refine v_mR (j := 41) (mg hG rfl) (by decide) rfl qf_RX12_112 dX12_replica_155 rfl ?_
      refine v_iload_n 1 rfl dX12_replica_158 rfl ?_
      obtain ⟨v159, e159, h⟩ := o_b h
      refine v_mA e159 (mg hG rfl) (by decide) rfl dX12_replica_159 rfl ?_
      obtain ⟨rfl, rfl⟩ := o_s h
      exact v_iret rfl rfl (Nat.le_of_ble_eq_true rfl) (Nat.le_of_ble_eq_true rfl) dX12_replica_160
    replace h := o_n c19_10 h
    refine v_tableOut 161 dX12_replica_19 (sw_out 0 10 (fun i h1 h2 => by rcases (show i = 0 ∨ i = 1 ∨ i = 2 ∨ i = 3 ∨ i = 4 ∨ i = 5 ∨ i = 6 ∨ i = 7 ∨ i = 8 ∨ i = 9 ∨ i = 10 by omega) with rfl | rfl | rfl | rfl | rfl | rfl | rfl | rfl | rfl | rfl | rfl <;> first | exact c19_0 | exact c19_1 | exact c19_2 | exact c19_3 | exact c19_4 | exact c19_5 | exact c19_6 | exact c19_7 | exact c19_8 | exact c19_9 | exact c19_10)) (by decide) ?_
    refine v_iconst (v := (-1 : Int32)) (by decide) dX12_replica_161 rfl ?_
    obtain ⟨rfl, rfl⟩ := o_s h
    exact v_iret rfl rfl (Nat.le_of_ble_eq_true rfl) (Nat.le_of_ble_eq_true rfl) dX12_replica_162
  · have h := o_p c13 h
    refine v_iconst (v := (-1 : Int32)) (by decide) dX12_replica_16 rfl ?_
    obtain ⟨rfl, rfl⟩ := o_s h
    exact v_iret rfl rfl (Nat.le_of_ble_eq_true rfl) (Nat.le_of_ble_eq_true rfl) dX12_replica_17
def rm_X12_entry : Room := { frames := 1, cells := 0, slots := 0, locals := 21 }
set_option maxRecDepth 100000 in
set_option maxHeartbeats 4000000 in
theorem l_X12_entry_15 {G : Gm} (hG : gF G = mFl) {σ : Hp} {o : Int64} {r : Int32} {μ' : Mu} {μ : Mu} {x1 : Int32} {x2 : Int32} {x3 : Int32} {y0 : Int32} (h : f_X12_entry_15 μ x1 x2 x3 y0 = some (r, μ')) : V G yX12_entry cX12_entry 6 (some .int) rm_X12_entry (zI G r (σ, μ', o) 0 0) (σ, μ, o) 0 0 15 [(0, .ref (gM G 200)), (1, .int x1), (2, .int x2), (3, .int x3)] [.int y0] := by
  unfold f_X12_entry_15 at h
  refine v_istore [(4, .int y0), (0, .ref (gM G 200)), (1, .int x1), (2, .int x2), (3, .int x3)] dX12_entry_15 rfl (by decide) rfl ?_
  refine v_iload_n 2 rfl dX12_entry_17 rfl ?_
  refine v_aload_n 1 rfl dX12_entry_18 rfl ?_
  refine v_mI (j := 1) (mg hG rfl) (by decide) rfl qf_RX12_223 dX12_entry_19 rfl ?_
  obtain ⟨v22, e22, h⟩ := o_b h
  refine v_Si (as := [.int x1, .int (μ.1 1)]) (st := []) (c' := 0) (k' := 0) (k_X12_in e22) mk_X12_in qs_X12_in qm_RX12_374 (ck rfl) rfl dX12_entry_22 rfl rfl rfl ?_
  refine v_if_eq 43 dX12_entry_25 (by decide) rfl (fun c25 => ?_) (fun c25 => ?_)
  · have h := o_p c25 h
    refine v_iload 0 rfl dX12_entry_43 rfl ?_
    obtain ⟨rfl, rfl⟩ := o_s h
    exact v_iret rfl rfl (Nat.le_of_ble_eq_true rfl) (Nat.le_of_ble_eq_true rfl) dX12_entry_45
  · have h := o_n c25 h
    refine v_iload_n 3 rfl dX12_entry_28 rfl ?_
    refine v_iconst (v := (1 : Int32)) (by decide) dX12_entry_29 rfl ?_
    refine v_icmp_lt 43 dX12_entry_30 (by decide) rfl (fun c30 => ?_) (fun c30 => ?_)
    · have h := o_p c30 h
      refine v_iload 0 rfl dX12_entry_43 rfl ?_
      obtain ⟨rfl, rfl⟩ := o_s h
      exact v_iret rfl rfl (Nat.le_of_ble_eq_true rfl) (Nat.le_of_ble_eq_true rfl) dX12_entry_45
    · have h := o_n c30 h
      refine v_iload_n 3 rfl dX12_entry_33 rfl ?_
      refine v_aload_n 1 rfl dX12_entry_34 rfl ?_
      refine v_mR (j := 38) (mg hG rfl) (by decide) rfl qf_RX12_103 dX12_entry_35 rfl ?_
      refine v_iload_n 2 rfl dX12_entry_38 rfl ?_
      obtain ⟨v39, e39, h⟩ := o_b h
      refine v_mA e39 (mg hG rfl) (by decide) rfl dX12_entry_39 rfl ?_
      refine v_icmp_le 46 dX12_entry_40 (by decide) rfl (fun c40 => ?_) (fun c40 => ?_)
      · have h := o_p c40 h
        refine v_aload_n 1 rfl dX12_entry_46 rfl ?_
        refine v_mR (j := 42) (mg hG rfl) (by decide) rfl qf_RX12_115 dX12_entry_47 rfl ?_
        refine v_bipush (v := (100 : Int32)) (by decide) dX12_entry_50 rfl ?_
        refine v_iload_n 2 rfl dX12_entry_52 rfl ?_
        refine v_imul dX12_entry_53 rfl ?_
        refine v_iload_n 3 rfl dX12_entry_54 rfl ?_
        refine v_iadd dX12_entry_55 rfl ?_
        refine v_iconst (v := (1 : Int32)) (by decide) dX12_entry_56 rfl ?_
        refine v_isub dX12_entry_57 rfl ?_
        obtain ⟨v58, e58, h⟩ := o_b h
        refine v_mA e58 (mg hG rfl) (by decide) rfl dX12_entry_58 rfl ?_
        refine v_istore [(5, .int v58), (4, .int y0), (0, .ref (gM G 200)), (1, .int x1), (2, .int x2), (3, .int x3)] dX12_entry_59 rfl (by decide) rfl ?_
        refine v_iload_n 5 rfl dX12_entry_61 rfl ?_
        refine v_if_ne 76 dX12_entry_62 (by decide) rfl (fun c62 => ?_) (fun c62 => ?_)
        · have h := o_n c62 h
          refine v_iload 0 rfl dX12_entry_76 rfl ?_
          refine v_if_ne 84 dX12_entry_78 (by decide) rfl (fun c78 => ?_) (fun c78 => ?_)
          · have h := o_n c78 h
            refine v_iload_n 5 rfl dX12_entry_84 rfl ?_
            by_cases c85_0 : x3 = (1 : Int32)
            · have h := o_p c85_0 h
              refine v_tableIn 120 dX12_entry_85 (by rw [c85_0]; decide) (by rw [c85_0]; decide) (by rw [c85_0]; rfl) (by decide) ?_
              refine v_aload_n 2 rfl dX12_entry_120 rfl ?_
              refine v_mR (j := 4) (mg hG rfl) (by decide) rfl qf_RX12_7 dX12_entry_121 rfl ?_
              refine v_iload 0 rfl dX12_entry_124 rfl ?_
              obtain ⟨v126, e126, h⟩ := o_b h
              refine v_mA e126 (mg hG rfl) (by decide) rfl dX12_entry_126 rfl ?_
              obtain ⟨rfl, rfl⟩ := o_s h
              exact v_iret rfl rfl (Nat.le_of_ble_eq_true rfl) (Nat.le_of_ble_eq_true rfl) dX12_entry_127
            replace h := o_n c85_0 h
            by_cases c85_1 : x3 = (2 : Int32)
            · have h := o_p c85_1 h
              refine v_tableIn 128 dX12_entry_85 (by rw [c85_1]; decide) (by rw [c85_1]; decide) (by rw [c85_1]; rfl) (by decide) ?_
              refine v_aload_n 2 rfl dX12_entry_128 rfl ?_
              refine v_mR (j := 5) (mg hG rfl) (by decide) rfl qf_RX12_13 dX12_entry_129 rfl ?_
              refine v_iload 0 rfl dX12_entry_132 rfl ?_
              obtain ⟨v134, e134, h⟩ := o_b h
              refine v_mA e134 (mg hG rfl) (by decide) rfl dX12_entry_134 rfl ?_
              obtain ⟨rfl, rfl⟩ := o_s h
              exact v_iret rfl rfl (Nat.le_of_ble_eq_true rfl) (Nat.le_of_ble_eq_true rfl) dX12_entry_135
            replace h := o_n c85_1 h
            by_cases c85_2 : x3 = (3 : Int32)
            · have h := o_p c85_2 h
              refine v_tableIn 136 dX12_entry_85 (by rw [c85_2]; decide) (by rw [c85_2]; decide) (by rw [c85_2]; rfl) (by decide) ?_
              refine v_aload_n 2 rfl dX12_entry_136 rfl ?_
              refine v_mR (j := 6) (mg hG rfl) (by decide) rfl qf_RX12_16 dX12_entry_137 rfl ?_
              refine v_iload 0 rfl dX12_entry_140 rfl ?_
              obtain ⟨v142, e142, h⟩ := o_b h
              refine v_mA e142 (mg hG rfl) (by decide) rfl dX12_entry_142 rfl ?_
              obtain ⟨rfl, rfl⟩ := o_s h
              exact v_iret rfl rfl (Nat.le_of_ble_eq_true rfl) (Nat.le_of_ble_eq_true rfl) dX12_entry_143
            replace h := o_n c85_2 h
            by_cases c85_3 : x3 = (4 : Int32)
            · have h := o_p c85_3 h
              refine v_tableIn 144 dX12_entry_85 (by rw [c85_3]; decide) (by rw [c85_3]; decide) (by rw [c85_3]; rfl) (by decide) ?_
              refine v_aload_n 2 rfl dX12_entry_144 rfl ?_
              refine v_mR (j := 7) (mg hG rfl) (by decide) rfl qf_RX12_19 dX12_entry_145 rfl ?_
              refine v_iload 0 rfl dX12_entry_148 rfl ?_
              obtain ⟨v150, e150, h⟩ := o_b h
              refine v_mA e150 (mg hG rfl) (by decide) rfl dX12_entry_150 rfl ?_
              obtain ⟨rfl, rfl⟩ := o_s h
              exact v_iret rfl rfl (Nat.le_of_ble_eq_true rfl) (Nat.le_of_ble_eq_true rfl) dX12_entry_151
            replace h := o_n c85_3 h
            by_cases c85_4 : x3 = (5 : Int32)
            · have h := o_p c85_4 h
              refine v_tableIn 152 dX12_entry_85 (by rw [c85_4]; decide) (by rw [c85_4]; decide) (by rw [c85_4]; rfl) (by decide) ?_
              refine v_aload_n 2 rfl dX12_entry_152 rfl ?_
              refine v_mR (j := 8) (mg hG rfl) (by decide) rfl qf_RX12_22 dX12_entry_153 rfl ?_
              refine v_iload 0 rfl dX12_entry_156 rfl ?_
              obtain ⟨v158, e158, h⟩ := o_b h
              refine v_mA e158 (mg hG rfl) (by decide) rfl dX12_entry_158 rfl ?_
              obtain ⟨rfl, rfl⟩ := o_s h
              exact v_iret rfl rfl (Nat.le_of_ble_eq_true rfl) (Nat.le_of_ble_eq_true rfl) dX12_entry_159
            replace h := o_n c85_4 h
            refine v_tableOut 160 dX12_entry_85 (sw_out 1 5 (fun i h1 h2 => by rcases (show i = 1 ∨ i = 2 ∨ i = 3 ∨ i = 4 ∨ i = 5 by omega) with rfl | rfl | rfl | rfl | rfl <;> first | exact c85_0 | exact c85_1 | exact c85_2 | exact c85_3 | exact c85_4)) (by decide) ?_
            refine v_iconst (v := (-1 : Int32)) (by decide) dX12_entry_160 rfl ?_
            obtain ⟨rfl, rfl⟩ := o_s h
            exact v_iret rfl rfl (Nat.le_of_ble_eq_true rfl) (Nat.le_of_ble_eq_true rfl) dX12_entry_161
          · have h := o_p c78 h
            refine v_iload 1 rfl dX12_entry_81 rfl ?_
            obtain ⟨rfl, rfl⟩ := o_s h
            exact v_iret rfl rfl (Nat.le_of_ble_eq_true rfl) (Nat.le_of_ble_eq_true rfl) dX12_entry_83
        · have h := o_p c62 h
          refine v_iload 0 rfl dX12_entry_65 rfl ?_
          refine v_if_ne 74 dX12_entry_67 (by decide) rfl (fun c67 => ?_) (fun c67 => ?_)
          · have h := o_n c67 h
            refine v_iconst (v := (1 : Int32)) (by decide) dX12_entry_74 rfl ?_
            obtain ⟨rfl, rfl⟩ := o_s h
            exact v_iret rfl rfl (Nat.le_of_ble_eq_true rfl) (Nat.le_of_ble_eq_true rfl) dX12_entry_75
          · have h := o_p c67 h
            refine v_iconst (v := (0 : Int32)) (by decide) dX12_entry_70 rfl ?_
            refine v_goto (q := 75) dX12_entry_71 (by decide) ?_
            obtain ⟨rfl, rfl⟩ := o_s h
            exact v_iret rfl rfl (Nat.le_of_ble_eq_true rfl) (Nat.le_of_ble_eq_true rfl) dX12_entry_75
      · have h := o_n c40 h
        refine v_iload 0 rfl dX12_entry_43 rfl ?_
        obtain ⟨rfl, rfl⟩ := o_s h
        exact v_iret rfl rfl (Nat.le_of_ble_eq_true rfl) (Nat.le_of_ble_eq_true rfl) dX12_entry_45
set_option maxRecDepth 100000 in
set_option maxHeartbeats 4000000 in
theorem k_X12_entry {G : Gm} (hG : gF G = mFl) {σ : Hp} {o : Int64} {r : Int32} {μ' : Mu} {μ : Mu} {a1 : Int32} {a2 : Int32} {a3 : Int32} (h : f_X12_entry μ a1 a2 a3 = some (r, μ')) : Ci G yX12_entry cX12_entry 6 (some .int) rm_X12_entry [.ref (gM G 200), .int a1, .int a2, .int a3] (σ, μ, o) r (σ, μ', o) 0 0 := by
  refine v_entI [(0, .ref (gM G 200)), (1, .int a1), (2, .int a2), (3, .int a3)] (by decide +kernel) (Nat.le_of_ble_eq_true rfl) rfl ?_
  unfold f_X12_entry at h
  refine v_aload_n 0 rfl dX12_entry_0 rfl ?_
  refine v_iconst (v := (0 : Int32)) (by decide) dX12_entry_1 rfl ?_
  obtain ⟨s2, e2, h⟩ := o_b h
  refine v_mP e2 (mg hG rfl) (by decide) rfl rfl rfl rfl rfl qf_RX12_229 dX12_entry_2 rfl ?_
  refine v_iload_n 3 rfl dX12_entry_5 rfl ?_
  refine v_iconst (v := (5 : Int32)) (by decide) dX12_entry_6 rfl ?_
  refine v_icmp_ne 14 dX12_entry_7 (by decide) rfl (fun c7 => ?_) (fun c7 => ?_)
  · have h := o_n c7 h
    refine v_iconst (v := (-1 : Int32)) (by decide) dX12_entry_14 rfl ?_
    exact l_X12_entry_15 hG h
  · have h := o_p c7 h
    refine v_iconst (v := (0 : Int32)) (by decide) dX12_entry_10 rfl ?_
    refine v_goto (q := 15) dX12_entry_11 (by decide) ?_
    exact l_X12_entry_15 hG h
def rm_X12_word : Room := { frames := 2, cells := 0, slots := 0, locals := 42 }
set_option maxRecDepth 100000 in
set_option maxHeartbeats 4000000 in
theorem k_X12_word {G : Gm} (hG : gF G = mFl) {σ : Hp} {o : Int64} {r : Int32} {μ' : Mu} {μ : Mu} {a1 : Int32} {a2 : Int32} (h : f_X12_word μ a1 a2 = some (r, μ')) : Ci G yX12_word cX12_word 3 (some .int) rm_X12_word [.ref (gM G 200), .int a1, .int a2] (σ, μ, o) r (σ, μ', o) 0 0 := by
  refine v_entI [(0, .ref (gM G 200)), (1, .int a1), (2, .int a2)] (by decide +kernel) (Nat.le_of_ble_eq_true rfl) rfl ?_
  unfold f_X12_word at h
  refine v_aload_n 0 rfl dX12_word_0 rfl ?_
  refine v_iconst (v := (0 : Int32)) (by decide) dX12_word_1 rfl ?_
  obtain ⟨s2, e2, h⟩ := o_b h
  refine v_mP e2 (mg hG rfl) (by decide) rfl rfl rfl rfl rfl qf_RX12_229 dX12_word_2 rfl ?_
  refine v_iload_n 1 rfl dX12_word_5 rfl ?_
  refine v_aload_n 0 rfl dX12_word_6 rfl ?_
  refine v_mI (j := 1) (mg hG rfl) (by decide) rfl qf_RX12_223 dX12_word_7 rfl ?_
  obtain ⟨v10, e10, h⟩ := o_b h
  refine v_Si (as := [.int a1, .int (s2.1 1)]) (st := []) (c' := 0) (k' := 0) (k_X12_in e10) mk_X12_in qs_X12_in qm_RX12_374 (ck rfl) rfl dX12_word_10 rfl rfl rfl ?_
  refine v_if_eq 25 dX12_word_13 (by decide) rfl (fun c13 => ?_) (fun c13 => ?_)
  · have h := o_p c13 h
    refine v_iconst (v := (0 : Int32)) (by decide) dX12_word_25 rfl ?_
    obtain ⟨rfl, rfl⟩ := o_s h
    exact v_iret rfl rfl (Nat.le_of_ble_eq_true rfl) (Nat.le_of_ble_eq_true rfl) dX12_word_26
  · have h := o_n c13 h
    refine v_iload_n 2 rfl dX12_word_16 rfl ?_
    refine v_bipush (v := (8 : Int32)) (by decide) dX12_word_17 rfl ?_
    obtain ⟨v19, e19, h⟩ := o_b h
    refine v_Si (as := [.int a2, .int (8 : Int32)]) (st := []) (c' := 0) (k' := 0) (k_X12_in e19) mk_X12_in qs_X12_in qm_RX12_374 (ck rfl) rfl dX12_word_19 rfl rfl rfl ?_
    refine v_if_ne 27 dX12_word_22 (by decide) rfl (fun c22 => ?_) (fun c22 => ?_)
    · have h := o_n c22 h
      refine v_aload_n 0 rfl dX12_word_27 rfl ?_
      refine v_iload_n 1 rfl dX12_word_28 rfl ?_
      refine v_aload_n 0 rfl dX12_word_29 rfl ?_
      refine v_iload_n 1 rfl dX12_word_30 rfl ?_
      obtain ⟨v31, e31, h⟩ := o_b h
      refine v_Vi (as := [.int a1]) (st := [.int a1, .ref (gM G 200)]) (c' := 0) (k' := 0) (k_X12_executed hG e31) (rcv_m (mg hG rfl)) mk_X12_executed qi_X12_executed qe_X12_executed qm_RX12_392 (ck rfl) rfl dX12_word_31 rfl rfl rfl ?_
      obtain ⟨v34, e34, h⟩ := o_b h
      refine v_Vv (as := [.int a1, .int v31]) (st := []) (c' := 0) (k' := 0) (k_X12_execute hG e34) (rcv_m (mg hG rfl)) mk_X12_execute qi_X12_execute qe_X12_execute qm_RX12_256 (ck rfl) rfl dX12_word_34 rfl rfl rfl ?_
      refine v_aload_n 0 rfl dX12_word_37 rfl ?_
      refine v_mR (j := 76) (mg hG rfl) (by decide) rfl qf_RX12_214 dX12_word_38 rfl ?_
      refine v_iload_n 2 rfl dX12_word_41 rfl ?_
      obtain ⟨v42, e42, h⟩ := o_b h
      refine v_mA e42 (mg hG rfl) (by decide) rfl dX12_word_42 rfl ?_
      obtain ⟨rfl, rfl⟩ := o_s h
      exact v_iret rfl rfl (Nat.le_of_ble_eq_true rfl) (Nat.le_of_ble_eq_true rfl) dX12_word_43
    · have h := o_p c22 h
      refine v_iconst (v := (0 : Int32)) (by decide) dX12_word_25 rfl ?_
      obtain ⟨rfl, rfl⟩ := o_s h
      exact v_iret rfl rfl (Nat.le_of_ble_eq_true rfl) (Nat.le_of_ble_eq_true rfl) dX12_word_26
def rm_X12_client : Room := { frames := 1, cells := 0, slots := 0, locals := 21 }
set_option maxRecDepth 100000 in
set_option maxHeartbeats 4000000 in
theorem k_X12_client {G : Gm} (hG : gF G = mFl) {σ : Hp} {o : Int64} {r : Int32} {μ' : Mu} {μ : Mu} {a1 : Int32} {a2 : Int32} (h : f_X12_client μ a1 a2 = some (r, μ')) : Ci G yX12_client cX12_client 3 (some .int) rm_X12_client [.ref (gM G 200), .int a1, .int a2] (σ, μ, o) r (σ, μ', o) 0 0 := by
  refine v_entI [(0, .ref (gM G 200)), (1, .int a1), (2, .int a2)] (by decide +kernel) (Nat.le_of_ble_eq_true rfl) rfl ?_
  unfold f_X12_client at h
  refine v_aload_n 0 rfl dX12_client_0 rfl ?_
  refine v_iconst (v := (0 : Int32)) (by decide) dX12_client_1 rfl ?_
  obtain ⟨s2, e2, h⟩ := o_b h
  refine v_mP e2 (mg hG rfl) (by decide) rfl rfl rfl rfl rfl qf_RX12_229 dX12_client_2 rfl ?_
  refine v_iload_n 1 rfl dX12_client_5 rfl ?_
  refine v_iconst (v := (4 : Int32)) (by decide) dX12_client_6 rfl ?_
  obtain ⟨v7, e7, h⟩ := o_b h
  refine v_Si (as := [.int a1, .int (4 : Int32)]) (st := []) (c' := 0) (k' := 0) (k_X12_in e7) mk_X12_in qs_X12_in qm_RX12_374 (ck rfl) rfl dX12_client_7 rfl rfl rfl ?_
  refine v_if_ne 15 dX12_client_10 (by decide) rfl (fun c10 => ?_) (fun c10 => ?_)
  · have h := o_n c10 h
    refine v_iload_n 2 rfl dX12_client_15 rfl ?_
    refine v_iconst (v := (2 : Int32)) (by decide) dX12_client_16 rfl ?_
    refine v_icmp_ge 49 dX12_client_17 (by decide) rfl (fun c17 => ?_) (fun c17 => ?_)
    · have h := o_p c17 h
      refine v_aload_n 0 rfl dX12_client_49 rfl ?_
      refine v_mR (j := 59) (mg hG rfl) (by decide) rfl qf_RX12_166 dX12_client_50 rfl ?_
      refine v_iload_n 1 rfl dX12_client_53 rfl ?_
      obtain ⟨v54, e54, h⟩ := o_b h
      refine v_mA e54 (mg hG rfl) (by decide) rfl dX12_client_54 rfl ?_
      refine v_iconst (v := (2 : Int32)) (by decide) dX12_client_55 rfl ?_
      refine v_icmp_eq 61 dX12_client_56 (by decide) rfl (fun c56 => ?_) (fun c56 => ?_)
      · have h := o_p c56 h
        refine v_iload_n 2 rfl dX12_client_61 rfl ?_
        refine v_iconst (v := (2 : Int32)) (by decide) dX12_client_62 rfl ?_
        refine v_icmp_ne 75 dX12_client_63 (by decide) rfl (fun c63 => ?_) (fun c63 => ?_)
        · have h := o_n c63 h
          refine v_iload_n 2 rfl dX12_client_75 rfl ?_
          refine v_iconst (v := (3 : Int32)) (by decide) dX12_client_76 rfl ?_
          refine v_icmp_ne 89 dX12_client_77 (by decide) rfl (fun c77 => ?_) (fun c77 => ?_)
          · have h := o_n c77 h
            refine v_iload_n 2 rfl dX12_client_89 rfl ?_
            refine v_iconst (v := (4 : Int32)) (by decide) dX12_client_90 rfl ?_
            refine v_icmp_ne 103 dX12_client_91 (by decide) rfl (fun c91 => ?_) (fun c91 => ?_)
            · have h := o_n c91 h
              refine v_iconst (v := (-1 : Int32)) (by decide) dX12_client_103 rfl ?_
              obtain ⟨rfl, rfl⟩ := o_s h
              exact v_iret rfl rfl (Nat.le_of_ble_eq_true rfl) (Nat.le_of_ble_eq_true rfl) dX12_client_104
            · have h := o_p c91 h
              refine v_aload_n 0 rfl dX12_client_94 rfl ?_
              refine v_mR (j := 62) (mg hG rfl) (by decide) rfl qf_RX12_175 dX12_client_95 rfl ?_
              refine v_iload_n 1 rfl dX12_client_98 rfl ?_
              obtain ⟨v99, e99, h⟩ := o_b h
              refine v_mA e99 (mg hG rfl) (by decide) rfl dX12_client_99 rfl ?_
              refine v_goto (q := 104) dX12_client_100 (by decide) ?_
              obtain ⟨rfl, rfl⟩ := o_s h
              exact v_iret rfl rfl (Nat.le_of_ble_eq_true rfl) (Nat.le_of_ble_eq_true rfl) dX12_client_104
          · have h := o_p c77 h
            refine v_aload_n 0 rfl dX12_client_80 rfl ?_
            refine v_mR (j := 61) (mg hG rfl) (by decide) rfl qf_RX12_172 dX12_client_81 rfl ?_
            refine v_iload_n 1 rfl dX12_client_84 rfl ?_
            obtain ⟨v85, e85, h⟩ := o_b h
            refine v_mA e85 (mg hG rfl) (by decide) rfl dX12_client_85 rfl ?_
            refine v_goto (q := 104) dX12_client_86 (by decide) ?_
            obtain ⟨rfl, rfl⟩ := o_s h
            exact v_iret rfl rfl (Nat.le_of_ble_eq_true rfl) (Nat.le_of_ble_eq_true rfl) dX12_client_104
        · have h := o_p c63 h
          refine v_aload_n 0 rfl dX12_client_66 rfl ?_
          refine v_mR (j := 60) (mg hG rfl) (by decide) rfl qf_RX12_169 dX12_client_67 rfl ?_
          refine v_iload_n 1 rfl dX12_client_70 rfl ?_
          obtain ⟨v71, e71, h⟩ := o_b h
          refine v_mA e71 (mg hG rfl) (by decide) rfl dX12_client_71 rfl ?_
          refine v_goto (q := 104) dX12_client_72 (by decide) ?_
          obtain ⟨rfl, rfl⟩ := o_s h
          exact v_iret rfl rfl (Nat.le_of_ble_eq_true rfl) (Nat.le_of_ble_eq_true rfl) dX12_client_104
      · have h := o_n c56 h
        refine v_iconst (v := (-1 : Int32)) (by decide) dX12_client_59 rfl ?_
        obtain ⟨rfl, rfl⟩ := o_s h
        exact v_iret rfl rfl (Nat.le_of_ble_eq_true rfl) (Nat.le_of_ble_eq_true rfl) dX12_client_60
    · have h := o_n c17 h
      refine v_iload_n 2 rfl dX12_client_20 rfl ?_
      refine v_if_ne 33 dX12_client_21 (by decide) rfl (fun c21 => ?_) (fun c21 => ?_)
      · have h := o_n c21 h
        refine v_iload_n 2 rfl dX12_client_33 rfl ?_
        refine v_iconst (v := (1 : Int32)) (by decide) dX12_client_34 rfl ?_
        refine v_icmp_ne 47 dX12_client_35 (by decide) rfl (fun c35 => ?_) (fun c35 => ?_)
        · have h := o_n c35 h
          refine v_iconst (v := (-1 : Int32)) (by decide) dX12_client_47 rfl ?_
          obtain ⟨rfl, rfl⟩ := o_s h
          exact v_iret rfl rfl (Nat.le_of_ble_eq_true rfl) (Nat.le_of_ble_eq_true rfl) dX12_client_48
        · have h := o_p c35 h
          refine v_aload_n 0 rfl dX12_client_38 rfl ?_
          refine v_mR (j := 59) (mg hG rfl) (by decide) rfl qf_RX12_166 dX12_client_39 rfl ?_
          refine v_iload_n 1 rfl dX12_client_42 rfl ?_
          obtain ⟨v43, e43, h⟩ := o_b h
          refine v_mA e43 (mg hG rfl) (by decide) rfl dX12_client_43 rfl ?_
          refine v_goto (q := 48) dX12_client_44 (by decide) ?_
          obtain ⟨rfl, rfl⟩ := o_s h
          exact v_iret rfl rfl (Nat.le_of_ble_eq_true rfl) (Nat.le_of_ble_eq_true rfl) dX12_client_48
      · have h := o_p c21 h
        refine v_aload_n 0 rfl dX12_client_24 rfl ?_
        refine v_mR (j := 57) (mg hG rfl) (by decide) rfl qf_RX12_160 dX12_client_25 rfl ?_
        refine v_iload_n 1 rfl dX12_client_28 rfl ?_
        obtain ⟨v29, e29, h⟩ := o_b h
        refine v_mA e29 (mg hG rfl) (by decide) rfl dX12_client_29 rfl ?_
        refine v_goto (q := 48) dX12_client_30 (by decide) ?_
        obtain ⟨rfl, rfl⟩ := o_s h
        exact v_iret rfl rfl (Nat.le_of_ble_eq_true rfl) (Nat.le_of_ble_eq_true rfl) dX12_client_48
  · have h := o_p c10 h
    refine v_iconst (v := (-1 : Int32)) (by decide) dX12_client_13 rfl ?_
    obtain ⟨rfl, rfl⟩ := o_s h
    exact v_iret rfl rfl (Nat.le_of_ble_eq_true rfl) (Nat.le_of_ble_eq_true rfl) dX12_client_14
