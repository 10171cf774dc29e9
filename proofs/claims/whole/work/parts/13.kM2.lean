def rm_X12_gapReply : Room := { frames := 3, cells := 0, slots := 0, locals := 75 }
set_option maxRecDepth 100000 in
set_option maxHeartbeats 4000000 in
theorem k_X12_gapReply {G : Gm} (hG : gF G = mFl) {σ : Hp} {o : Int64} {μ' : Mu} {μ : Mu} {a1 : Int32} {a2 : Int32} {a3 : Int32} (h : f_X12_gapReply μ a1 a2 a3 = some μ') : Cv G yX12_gapReply cX12_gapReply 4 none rm_X12_gapReply [.ref (gM G 200), .int a1, .int a2, .int a3] (σ, μ, o) (σ, μ', o) 0 0 := by
  refine v_entV [(0, .ref (gM G 200)), (1, .int a1), (2, .int a2), (3, .int a3)] (by decide +kernel) (Nat.le_of_ble_eq_true rfl) rfl ?_
  unfold f_X12_gapReply at h
  refine v_aload_n 0 rfl dX12_gapReply_0 rfl ?_
  refine v_iload_n 1 rfl dX12_gapReply_1 rfl ?_
  obtain ⟨v2, e2, h⟩ := o_b h
  refine v_Vi (as := [.int a1]) (st := []) (c' := 0) (k' := 0) (k_X12_leads hG e2) (rcv_m (mg hG rfl)) mk_X12_leads qi_X12_leads qe_X12_leads qm_RX12_248 (ck rfl) rfl dX12_gapReply_2 rfl rfl rfl ?_
  refine v_if_eq 28 dX12_gapReply_5 (by decide) rfl (fun c5 => ?_) (fun c5 => ?_)
  · have h := o_p c5 h
    obtain rfl := Option.some.inj h
    exact v_vret rfl (Nat.le_of_ble_eq_true rfl) (Nat.le_of_ble_eq_true rfl) dX12_gapReply_28
  · have h := o_n c5 h
    refine v_aload_n 0 rfl dX12_gapReply_8 rfl ?_
    refine v_mR (j := 35) (mg hG rfl) (by decide) rfl qf_RX12_94 dX12_gapReply_9 rfl ?_
    refine v_iload_n 1 rfl dX12_gapReply_12 rfl ?_
    obtain ⟨v13, e13, h⟩ := o_b h
    refine v_mA e13 (mg hG rfl) (by decide) rfl dX12_gapReply_13 rfl ?_
    refine v_iconst (v := (1 : Int32)) (by decide) dX12_gapReply_14 rfl ?_
    refine v_icmp_ne 28 dX12_gapReply_15 (by decide) rfl (fun c15 => ?_) (fun c15 => ?_)
    · have h := o_n c15 h
      obtain rfl := Option.some.inj h
      exact v_vret rfl (Nat.le_of_ble_eq_true rfl) (Nat.le_of_ble_eq_true rfl) dX12_gapReply_28
    · have h := o_p c15 h
      refine v_iload_n 3 rfl dX12_gapReply_18 rfl ?_
      refine v_aload_n 0 rfl dX12_gapReply_19 rfl ?_
      refine v_mR (j := 38) (mg hG rfl) (by decide) rfl qf_RX12_103 dX12_gapReply_20 rfl ?_
      refine v_iload_n 1 rfl dX12_gapReply_23 rfl ?_
      obtain ⟨v24, e24, h⟩ := o_b h
      refine v_mA e24 (mg hG rfl) (by decide) rfl dX12_gapReply_24 rfl ?_
      refine v_icmp_eq 29 dX12_gapReply_25 (by decide) rfl (fun c25 => ?_) (fun c25 => ?_)
      · have h := o_p c25 h
        refine v_aload_n 0 rfl dX12_gapReply_29 rfl ?_
        refine v_mR (j := 46) (mg hG rfl) (by decide) rfl qf_RX12_127 dX12_gapReply_30 rfl ?_
        refine v_iload_n 1 rfl dX12_gapReply_33 rfl ?_
        refine v_dup2 rfl rfl dX12_gapReply_34 rfl ?_
        obtain ⟨v35, e35, h⟩ := o_b h
        refine v_mA e35 (mg hG rfl) (by decide) rfl dX12_gapReply_35 rfl ?_
        refine v_iconst (v := (1 : Int32)) (by decide) dX12_gapReply_36 rfl ?_
        refine v_iload_n 2 rfl dX12_gapReply_37 rfl ?_
        refine v_ishl dX12_gapReply_38 rfl ?_
        refine v_ior dX12_gapReply_39 rfl ?_
        obtain ⟨s40, e40, h⟩ := o_b h
        refine v_mQ e40 (mg hG rfl) (by decide) rfl dX12_gapReply_40 rfl ?_
        refine v_aload_n 0 rfl dX12_gapReply_41 rfl ?_
        refine v_mR (j := 46) (mg hG rfl) (by decide) rfl qf_RX12_127 dX12_gapReply_42 rfl ?_
        refine v_iload_n 1 rfl dX12_gapReply_45 rfl ?_
        obtain ⟨v46, e46, h⟩ := o_b h
        refine v_mA e46 (mg hG rfl) (by decide) rfl dX12_gapReply_46 rfl ?_
        obtain ⟨v47, e47, h⟩ := o_b h
        refine v_Si (as := [.int v46]) (st := []) (c' := 0) (k' := 0) (k_X12_ones e47) mk_X12_ones qs_X12_ones qm_RX12_302 (ck rfl) rfl dX12_gapReply_47 rfl rfl rfl ?_
        refine v_aload_n 0 rfl dX12_gapReply_50 rfl ?_
        refine v_mI (j := 2) (mg hG rfl) (by decide) rfl qf_RX12_226 dX12_gapReply_51 rfl ?_
        refine v_icmp_ge 58 dX12_gapReply_54 (by decide) rfl (fun c54 => ?_) (fun c54 => ?_)
        · have h := o_p c54 h
          refine v_aload_n 0 rfl dX12_gapReply_58 rfl ?_
          refine v_mR (j := 35) (mg hG rfl) (by decide) rfl qf_RX12_94 dX12_gapReply_59 rfl ?_
          refine v_iload_n 1 rfl dX12_gapReply_62 rfl ?_
          refine v_iconst (v := (0 : Int32)) (by decide) dX12_gapReply_63 rfl ?_
          obtain ⟨s64, e64, h⟩ := o_b h
          refine v_mQ e64 (mg hG rfl) (by decide) rfl dX12_gapReply_64 rfl ?_
          refine v_aload_n 0 rfl dX12_gapReply_65 rfl ?_
          refine v_iload_n 1 rfl dX12_gapReply_66 rfl ?_
          obtain ⟨v67, e67, h⟩ := o_b h
          refine v_Vv (as := [.int a1]) (st := []) (c' := 0) (k' := 0) (k_X12_take hG e67) (rcv_m (mg hG rfl)) mk_X12_take qi_X12_take qe_X12_take qm_RX12_318 (ck rfl) rfl dX12_gapReply_67 rfl rfl rfl ?_
          obtain rfl := Option.some.inj h
          exact v_vret rfl (Nat.le_of_ble_eq_true rfl) (Nat.le_of_ble_eq_true rfl) dX12_gapReply_70
        · have h := o_n c54 h
          obtain rfl := Option.some.inj h
          exact v_vret rfl (Nat.le_of_ble_eq_true rfl) (Nat.le_of_ble_eq_true rfl) dX12_gapReply_57
      · have h := o_n c25 h
        obtain rfl := Option.some.inj h
        exact v_vret rfl (Nat.le_of_ble_eq_true rfl) (Nat.le_of_ble_eq_true rfl) dX12_gapReply_28
def rm_X12_sync : Room := { frames := 1, cells := 0, slots := 0, locals := 28 }
set_option maxRecDepth 100000 in
set_option maxHeartbeats 4000000 in
theorem l_X12_sync_83 {G : Gm} (hG : gF G = mFl) {σ : Hp} {o : Int64} {μ' : Mu} {μ : Mu} {x1 : Int32} {x2 : Int32} {y1 : Int32} {y2 : Int32} (h : f_X12_sync_83 μ x1 x2 y1 y2 = some μ') : V G yX12_sync cX12_sync 4 none rm_X12_sync (zV G (σ, μ', o) 0 0) (σ, μ, o) 0 0 83 [(0, .ref (gM G 200)), (1, .int x1), (2, .int x2)] [.int y2, .int y1, .ref (gM G 41)] := by
  unfold f_X12_sync_83 at h
  obtain ⟨s83, e83, h⟩ := o_b h
  refine v_mQ e83 (mg hG rfl) (by decide) rfl dX12_sync_83 rfl ?_
  refine v_aload_n 0 rfl dX12_sync_84 rfl ?_
  refine v_bipush (v := (6 : Int32)) (by decide) dX12_sync_85 rfl ?_
  refine v_iload_n 1 rfl dX12_sync_87 rfl ?_
  refine v_aload_n 0 rfl dX12_sync_88 rfl ?_
  refine v_iload_n 1 rfl dX12_sync_89 rfl ?_
  obtain ⟨v90, e90, h⟩ := o_b h
  refine v_Vi (as := [.int x1]) (st := [.int x1, .int (6 : Int32), .ref (gM G 200)]) (c' := 0) (k' := 0) (k_X12_leader hG e90) (rcv_m (mg hG rfl)) mk_X12_leader qi_X12_leader qe_X12_leader qm_RX12_269 (ck rfl) rfl dX12_sync_90 rfl rfl rfl ?_
  refine v_aload_n 0 rfl dX12_sync_93 rfl ?_
  refine v_mR (j := 33) (mg hG rfl) (by decide) rfl qf_RX12_88 dX12_sync_94 rfl ?_
  refine v_iload_n 1 rfl dX12_sync_97 rfl ?_
  obtain ⟨v98, e98, h⟩ := o_b h
  refine v_mA e98 (mg hG rfl) (by decide) rfl dX12_sync_98 rfl ?_
  refine v_aload_n 0 rfl dX12_sync_99 rfl ?_
  refine v_mR (j := 34) (mg hG rfl) (by decide) rfl qf_RX12_91 dX12_sync_100 rfl ?_
  refine v_iload_n 1 rfl dX12_sync_103 rfl ?_
  obtain ⟨v104, e104, h⟩ := o_b h
  refine v_mA e104 (mg hG rfl) (by decide) rfl dX12_sync_104 rfl ?_
  refine v_iload_n 2 rfl dX12_sync_105 rfl ?_
  refine v_iconst (v := (0 : Int32)) (by decide) dX12_sync_106 rfl ?_
  obtain ⟨v107, e107, h⟩ := o_b h
  refine v_Vi (as := [.int (6 : Int32), .int x1, .int v90, .int v98, .int v104, .int x2, .int (0 : Int32)]) (st := []) (c' := 0) (k' := 0) (k_X12_send hG e107) (rcv_m (mg hG rfl)) mk_X12_send qi_X12_send qe_X12_send qm_RX12_241 (ck rfl) rfl dX12_sync_107 rfl rfl rfl ?_
  refine v_pop rfl dX12_sync_110 rfl ?_
  obtain rfl := Option.some.inj h
  exact v_vret rfl (Nat.le_of_ble_eq_true rfl) (Nat.le_of_ble_eq_true rfl) dX12_sync_111
set_option maxRecDepth 100000 in
set_option maxHeartbeats 4000000 in
theorem l_X12_sync_58 {G : Gm} (hG : gF G = mFl) {σ : Hp} {o : Int64} {μ' : Mu} {μ : Mu} {x1 : Int32} {x2 : Int32} (h : f_X12_sync_58 μ x1 x2 = some μ') : V G yX12_sync cX12_sync 4 none rm_X12_sync (zV G (σ, μ', o) 0 0) (σ, μ, o) 0 0 58 [(0, .ref (gM G 200)), (1, .int x1), (2, .int x2)] [] := by
  unfold f_X12_sync_58 at h
  refine v_aload_n 0 rfl dX12_sync_58 rfl ?_
  refine v_mR (j := 41) (mg hG rfl) (by decide) rfl qf_RX12_112 dX12_sync_59 rfl ?_
  refine v_iload_n 1 rfl dX12_sync_62 rfl ?_
  refine v_iload_n 2 rfl dX12_sync_63 rfl ?_
  refine v_aload_n 0 rfl dX12_sync_64 rfl ?_
  refine v_mR (j := 41) (mg hG rfl) (by decide) rfl qf_RX12_112 dX12_sync_65 rfl ?_
  refine v_iload_n 1 rfl dX12_sync_68 rfl ?_
  obtain ⟨v69, e69, h⟩ := o_b h
  refine v_mA e69 (mg hG rfl) (by decide) rfl dX12_sync_69 rfl ?_
  refine v_icmp_le 77 dX12_sync_70 (by decide) rfl (fun c70 => ?_) (fun c70 => ?_)
  · have h := o_p c70 h
    refine v_aload_n 0 rfl dX12_sync_77 rfl ?_
    refine v_mR (j := 41) (mg hG rfl) (by decide) rfl qf_RX12_112 dX12_sync_78 rfl ?_
    refine v_iload_n 1 rfl dX12_sync_81 rfl ?_
    obtain ⟨v82, e82, h⟩ := o_b h
    refine v_mA e82 (mg hG rfl) (by decide) rfl dX12_sync_82 rfl ?_
    exact l_X12_sync_83 hG h
  · have h := o_n c70 h
    refine v_iload_n 2 rfl dX12_sync_73 rfl ?_
    refine v_goto (q := 83) dX12_sync_74 (by decide) ?_
    exact l_X12_sync_83 hG h
set_option maxRecDepth 100000 in
set_option maxHeartbeats 4000000 in
theorem l_X12_sync_30 {G : Gm} (hG : gF G = mFl) {σ : Hp} {o : Int64} {μ' : Mu} : ∀ (n : Nat) {μ : Mu} {x1 : Int32} {x2 : Int32} {x3 : Int32} , f_X12_sync_30 n μ x1 x2 x3 = some μ' → V G yX12_sync cX12_sync 4 none rm_X12_sync (zV G (σ, μ', o) 0 0) (σ, μ, o) 0 0 30 [(0, .ref (gM G 200)), (1, .int x1), (2, .int x2), (3, .int x3)] [] := by
  intro n
  induction n with
  | zero => intro _ _ _ _ h; cases h
  | succ n ih =>
    intro μ x1 x2 x3 h
    replace h : b_X12_sync_30 (f_X12_sync_30 n) μ x1 x2 x3 = some μ' := h
    unfold b_X12_sync_30 at h
    refine v_iload_n 3 rfl dX12_sync_30 rfl ?_
    refine v_iload_n 2 rfl dX12_sync_31 rfl ?_
    refine v_icmp_ge 58 dX12_sync_32 (by decide) rfl (fun c32 => ?_) (fun c32 => ?_)
    · have h := o_p c32 h
      refine v_sub [0, 1, 2] rfl ?_
      exact l_X12_sync_58 hG h
    · have h := o_n c32 h
      refine v_aload_n 0 rfl dX12_sync_35 rfl ?_
      refine v_mR (j := 42) (mg hG rfl) (by decide) rfl qf_RX12_115 dX12_sync_36 rfl ?_
      refine v_bipush (v := (100 : Int32)) (by decide) dX12_sync_39 rfl ?_
      refine v_iload_n 1 rfl dX12_sync_41 rfl ?_
      refine v_imul dX12_sync_42 rfl ?_
      refine v_iload_n 3 rfl dX12_sync_43 rfl ?_
      refine v_iadd dX12_sync_44 rfl ?_
      refine v_aload_n 0 rfl dX12_sync_45 rfl ?_
      refine v_mR (j := 56) (mg hG rfl) (by decide) rfl qf_RX12_157 dX12_sync_46 rfl ?_
      refine v_iload_n 3 rfl dX12_sync_49 rfl ?_
      obtain ⟨v50, e50, h⟩ := o_b h
      refine v_mA e50 (mg hG rfl) (by decide) rfl dX12_sync_50 rfl ?_
      obtain ⟨s51, e51, h⟩ := o_b h
      refine v_mQ e51 (mg hG rfl) (by decide) rfl dX12_sync_51 rfl ?_
      refine v_iinc (v := (x3 + 1)) [(3, .int (x3 + 1)), (0, .ref (gM G 200)), (1, .int x1), (2, .int x2)] 3 rfl rfl dX12_sync_52 rfl (by decide) rfl ?_
      refine v_goto (q := 30) dX12_sync_55 (by decide) ?_
      refine v_sub [1, 2, 3, 0] rfl ?_
      exact ih h
set_option maxRecDepth 100000 in
set_option maxHeartbeats 4000000 in
theorem k_X12_sync {G : Gm} (hG : gF G = mFl) {σ : Hp} {o : Int64} {μ' : Mu} {μ : Mu} {a1 : Int32} {a2 : Int32} (h : f_X12_sync μ a1 a2 = some μ') : Cv G yX12_sync cX12_sync 4 none rm_X12_sync [.ref (gM G 200), .int a1, .int a2] (σ, μ, o) (σ, μ', o) 0 0 := by
  refine v_entV [(0, .ref (gM G 200)), (1, .int a1), (2, .int a2)] (by decide +kernel) (Nat.le_of_ble_eq_true rfl) rfl ?_
  unfold f_X12_sync at h
  refine v_aload_n 0 rfl dX12_sync_0 rfl ?_
  refine v_iload_n 1 rfl dX12_sync_1 rfl ?_
  obtain ⟨v2, e2, h⟩ := o_b h
  refine v_Vi (as := [.int a1]) (st := []) (c' := 0) (k' := 0) (k_X12_leads hG e2) (rcv_m (mg hG rfl)) mk_X12_leads qi_X12_leads qe_X12_leads qm_RX12_248 (ck rfl) rfl dX12_sync_2 rfl rfl rfl ?_
  refine v_if_ne 27 dX12_sync_5 (by decide) rfl (fun c5 => ?_) (fun c5 => ?_)
  · have h := o_n c5 h
    obtain rfl := Option.some.inj h
    exact v_vret rfl (Nat.le_of_ble_eq_true rfl) (Nat.le_of_ble_eq_true rfl) dX12_sync_27
  · have h := o_p c5 h
    refine v_aload_n 0 rfl dX12_sync_8 rfl ?_
    refine v_mR (j := 35) (mg hG rfl) (by decide) rfl qf_RX12_94 dX12_sync_9 rfl ?_
    refine v_iload_n 1 rfl dX12_sync_12 rfl ?_
    obtain ⟨v13, e13, h⟩ := o_b h
    refine v_mA e13 (mg hG rfl) (by decide) rfl dX12_sync_13 rfl ?_
    refine v_if_ne 27 dX12_sync_14 (by decide) rfl (fun c14 => ?_) (fun c14 => ?_)
    · have h := o_n c14 h
      obtain rfl := Option.some.inj h
      exact v_vret rfl (Nat.le_of_ble_eq_true rfl) (Nat.le_of_ble_eq_true rfl) dX12_sync_27
    · have h := o_p c14 h
      refine v_aload_n 0 rfl dX12_sync_17 rfl ?_
      refine v_mR (j := 38) (mg hG rfl) (by decide) rfl qf_RX12_103 dX12_sync_18 rfl ?_
      refine v_iload_n 1 rfl dX12_sync_21 rfl ?_
      obtain ⟨v22, e22, h⟩ := o_b h
      refine v_mA e22 (mg hG rfl) (by decide) rfl dX12_sync_22 rfl ?_
      refine v_iload_n 2 rfl dX12_sync_23 rfl ?_
      refine v_icmp_ge 28 dX12_sync_24 (by decide) rfl (fun c24 => ?_) (fun c24 => ?_)
      · have h := o_p c24 h
        refine v_iconst (v := (0 : Int32)) (by decide) dX12_sync_28 rfl ?_
        refine v_istore_n [(3, .int (0 : Int32)), (0, .ref (gM G 200)), (1, .int a1), (2, .int a2)] dX12_sync_29 rfl (by decide) rfl ?_
        refine v_sub [1, 2, 3, 0] rfl ?_
        exact l_X12_sync_30 hG _ h
      · have h := o_n c24 h
        obtain rfl := Option.some.inj h
        exact v_vret rfl (Nat.le_of_ble_eq_true rfl) (Nat.le_of_ble_eq_true rfl) dX12_sync_27
def rm_X12_syncReply : Room := { frames := 2, cells := 0, slots := 0, locals := 52 }
set_option maxRecDepth 100000 in
set_option maxHeartbeats 4000000 in
theorem l_X12_syncReply_46 {G : Gm} (hG : gF G = mFl) {σ : Hp} {o : Int64} {μ' : Mu} {μ : Mu} {x1 : Int32} {x2 : Int32} {x3 : Int32} (h : f_X12_syncReply_46 μ x1 x2 x3 = some μ') : V G yX12_syncReply cX12_syncReply 4 none rm_X12_syncReply (zV G (σ, μ', o) 0 0) (σ, μ, o) 0 0 46 [(0, .ref (gM G 200)), (1, .int x1), (2, .int x2), (3, .int x3)] [] := by
  unfold f_X12_syncReply_46 at h
  refine v_aload_n 0 rfl dX12_syncReply_46 rfl ?_
  refine v_mR (j := 48) (mg hG rfl) (by decide) rfl qf_RX12_133 dX12_syncReply_47 rfl ?_
  refine v_iload_n 1 rfl dX12_syncReply_50 rfl ?_
  refine v_iload_n 3 rfl dX12_syncReply_51 rfl ?_
  obtain ⟨s52, e52, h⟩ := o_b h
  refine v_mQ e52 (mg hG rfl) (by decide) rfl dX12_syncReply_52 rfl ?_
  refine v_aload_n 0 rfl dX12_syncReply_53 rfl ?_
  refine v_mR (j := 47) (mg hG rfl) (by decide) rfl qf_RX12_130 dX12_syncReply_54 rfl ?_
  refine v_iload_n 1 rfl dX12_syncReply_57 rfl ?_
  refine v_dup2 rfl rfl dX12_syncReply_58 rfl ?_
  obtain ⟨v59, e59, h⟩ := o_b h
  refine v_mA e59 (mg hG rfl) (by decide) rfl dX12_syncReply_59 rfl ?_
  refine v_iconst (v := (1 : Int32)) (by decide) dX12_syncReply_60 rfl ?_
  refine v_iload_n 2 rfl dX12_syncReply_61 rfl ?_
  refine v_ishl dX12_syncReply_62 rfl ?_
  refine v_ior dX12_syncReply_63 rfl ?_
  obtain ⟨s64, e64, h⟩ := o_b h
  refine v_mQ e64 (mg hG rfl) (by decide) rfl dX12_syncReply_64 rfl ?_
  refine v_aload_n 0 rfl dX12_syncReply_65 rfl ?_
  refine v_mR (j := 47) (mg hG rfl) (by decide) rfl qf_RX12_130 dX12_syncReply_66 rfl ?_
  refine v_iload_n 1 rfl dX12_syncReply_69 rfl ?_
  obtain ⟨v70, e70, h⟩ := o_b h
  refine v_mA e70 (mg hG rfl) (by decide) rfl dX12_syncReply_70 rfl ?_
  obtain ⟨v71, e71, h⟩ := o_b h
  refine v_Si (as := [.int v70]) (st := []) (c' := 0) (k' := 0) (k_X12_ones e71) mk_X12_ones qs_X12_ones qm_RX12_302 (ck rfl) rfl dX12_syncReply_71 rfl rfl rfl ?_
  refine v_aload_n 0 rfl dX12_syncReply_74 rfl ?_
  refine v_mI (j := 2) (mg hG rfl) (by decide) rfl qf_RX12_226 dX12_syncReply_75 rfl ?_
  refine v_icmp_ge 82 dX12_syncReply_78 (by decide) rfl (fun c78 => ?_) (fun c78 => ?_)
  · have h := o_p c78 h
    refine v_aload_n 0 rfl dX12_syncReply_82 rfl ?_
    refine v_mR (j := 40) (mg hG rfl) (by decide) rfl qf_RX12_109 dX12_syncReply_83 rfl ?_
    refine v_iload_n 1 rfl dX12_syncReply_86 rfl ?_
    refine v_iload_n 3 rfl dX12_syncReply_87 rfl ?_
    obtain ⟨s88, e88, h⟩ := o_b h
    refine v_mQ e88 (mg hG rfl) (by decide) rfl dX12_syncReply_88 rfl ?_
    refine v_aload_n 0 rfl dX12_syncReply_89 rfl ?_
    refine v_bipush (v := (7 : Int32)) (by decide) dX12_syncReply_90 rfl ?_
    refine v_iload_n 1 rfl dX12_syncReply_92 rfl ?_
    refine v_iload_n 3 rfl dX12_syncReply_93 rfl ?_
    obtain ⟨v94, e94, h⟩ := o_b h
    refine v_Vv (as := [.int (7 : Int32), .int x1, .int x3]) (st := []) (c' := 0) (k' := 0) (k_X12_all hG e94) (rcv_m (mg hG rfl)) mk_X12_all qi_X12_all qe_X12_all qm_RX12_273 (ck rfl) rfl dX12_syncReply_94 rfl rfl rfl ?_
    obtain rfl := Option.some.inj h
    exact v_vret rfl (Nat.le_of_ble_eq_true rfl) (Nat.le_of_ble_eq_true rfl) dX12_syncReply_97
  · have h := o_n c78 h
    obtain rfl := Option.some.inj h
    exact v_vret rfl (Nat.le_of_ble_eq_true rfl) (Nat.le_of_ble_eq_true rfl) dX12_syncReply_81
set_option maxRecDepth 100000 in
set_option maxHeartbeats 4000000 in
theorem k_X12_syncReply {G : Gm} (hG : gF G = mFl) {σ : Hp} {o : Int64} {μ' : Mu} {μ : Mu} {a1 : Int32} {a2 : Int32} {a3 : Int32} (h : f_X12_syncReply μ a1 a2 a3 = some μ') : Cv G yX12_syncReply cX12_syncReply 4 none rm_X12_syncReply [.ref (gM G 200), .int a1, .int a2, .int a3] (σ, μ, o) (σ, μ', o) 0 0 := by
  refine v_entV [(0, .ref (gM G 200)), (1, .int a1), (2, .int a2), (3, .int a3)] (by decide +kernel) (Nat.le_of_ble_eq_true rfl) rfl ?_
  unfold f_X12_syncReply at h
  refine v_aload_n 0 rfl dX12_syncReply_0 rfl ?_
  refine v_iload_n 1 rfl dX12_syncReply_1 rfl ?_
  obtain ⟨v2, e2, h⟩ := o_b h
  refine v_Vi (as := [.int a1]) (st := []) (c' := 0) (k' := 0) (k_X12_leads hG e2) (rcv_m (mg hG rfl)) mk_X12_leads qi_X12_leads qe_X12_leads qm_RX12_248 (ck rfl) rfl dX12_syncReply_2 rfl rfl rfl ?_
  refine v_if_eq 28 dX12_syncReply_5 (by decide) rfl (fun c5 => ?_) (fun c5 => ?_)
  · have h := o_p c5 h
    obtain rfl := Option.some.inj h
    exact v_vret rfl (Nat.le_of_ble_eq_true rfl) (Nat.le_of_ble_eq_true rfl) dX12_syncReply_28
  · have h := o_n c5 h
    refine v_aload_n 0 rfl dX12_syncReply_8 rfl ?_
    refine v_mR (j := 35) (mg hG rfl) (by decide) rfl qf_RX12_94 dX12_syncReply_9 rfl ?_
    refine v_iload_n 1 rfl dX12_syncReply_12 rfl ?_
    obtain ⟨v13, e13, h⟩ := o_b h
    refine v_mA e13 (mg hG rfl) (by decide) rfl dX12_syncReply_13 rfl ?_
    refine v_iconst (v := (2 : Int32)) (by decide) dX12_syncReply_14 rfl ?_
    refine v_icmp_eq 28 dX12_syncReply_15 (by decide) rfl (fun c15 => ?_) (fun c15 => ?_)
    · have h := o_p c15 h
      obtain rfl := Option.some.inj h
      exact v_vret rfl (Nat.le_of_ble_eq_true rfl) (Nat.le_of_ble_eq_true rfl) dX12_syncReply_28
    · have h := o_n c15 h
      refine v_iload_n 3 rfl dX12_syncReply_18 rfl ?_
      refine v_aload_n 0 rfl dX12_syncReply_19 rfl ?_
      refine v_mR (j := 40) (mg hG rfl) (by decide) rfl qf_RX12_109 dX12_syncReply_20 rfl ?_
      refine v_iload_n 1 rfl dX12_syncReply_23 rfl ?_
      obtain ⟨v24, e24, h⟩ := o_b h
      refine v_mA e24 (mg hG rfl) (by decide) rfl dX12_syncReply_24 rfl ?_
      refine v_icmp_gt 29 dX12_syncReply_25 (by decide) rfl (fun c25 => ?_) (fun c25 => ?_)
      · have h := o_p c25 h
        refine v_aload_n 0 rfl dX12_syncReply_29 rfl ?_
        refine v_mR (j := 48) (mg hG rfl) (by decide) rfl qf_RX12_133 dX12_syncReply_30 rfl ?_
        refine v_iload_n 1 rfl dX12_syncReply_33 rfl ?_
        obtain ⟨v34, e34, h⟩ := o_b h
        refine v_mA e34 (mg hG rfl) (by decide) rfl dX12_syncReply_34 rfl ?_
        refine v_iload_n 3 rfl dX12_syncReply_35 rfl ?_
        refine v_icmp_eq 46 dX12_syncReply_36 (by decide) rfl (fun c36 => ?_) (fun c36 => ?_)
        · have h := o_p c36 h
          exact l_X12_syncReply_46 hG h
        · have h := o_n c36 h
          refine v_aload_n 0 rfl dX12_syncReply_39 rfl ?_
          refine v_mR (j := 47) (mg hG rfl) (by decide) rfl qf_RX12_130 dX12_syncReply_40 rfl ?_
          refine v_iload_n 1 rfl dX12_syncReply_43 rfl ?_
          refine v_iconst (v := (0 : Int32)) (by decide) dX12_syncReply_44 rfl ?_
          obtain ⟨s45, e45, h⟩ := o_b h
          refine v_mQ e45 (mg hG rfl) (by decide) rfl dX12_syncReply_45 rfl ?_
          exact l_X12_syncReply_46 hG h
      · have h := o_n c25 h
        obtain rfl := Option.some.inj h
        exact v_vret rfl (Nat.le_of_ble_eq_true rfl) (Nat.le_of_ble_eq_true rfl) dX12_syncReply_28
def rm_X12_follow : Room := { frames := 3, cells := 0, slots := 0, locals := 75 }
set_option maxRecDepth 100000 in
set_option maxHeartbeats 4000000 in
theorem l_X12_follow_63 {G : Gm} (hG : gF G = mFl) {σ : Hp} {o : Int64} {μ' : Mu} {μ : Mu} {x1 : Int32} {x3 : Int32} {y1 : Int32} {y2 : Int32} (h : f_X12_follow_63 μ x1 x3 y1 y2 = some μ') : V G yX12_follow cX12_follow 4 none rm_X12_follow (zV G (σ, μ', o) 0 0) (σ, μ, o) 0 0 63 [(0, .ref (gM G 200)), (1, .int x1), (3, .int x3)] [.int y2, .int y1, .ref (gM G 200)] := by
  unfold f_X12_follow_63 at h
  refine v_iload_n 2 rfl dX12_follow_63 rfl ?_
  refine v_aload_n 0 rfl dX12_follow_64 rfl ?_
  refine v_mR (j := 34) (mg hG rfl) (by decide) rfl qf_RX12_91 dX12_follow_65 rfl ?_
  refine v_iload_n 1 rfl dX12_follow_68 rfl ?_
  obtain ⟨v69, e69, h⟩ := o_b h
  refine v_mA e69 (mg hG rfl) (by decide) rfl dX12_follow_69 rfl ?_
  refine v_icmp_le 77 dX12_follow_70 (by decide) rfl (fun c70 => ?_) (fun c70 => ?_)
  · have h := o_p c70 h
    refine v_aload_n 0 rfl dX12_follow_77 rfl ?_
    refine v_mR (j := 34) (mg hG rfl) (by decide) rfl qf_RX12_91 dX12_follow_78 rfl ?_
    refine v_iload_n 1 rfl dX12_follow_81 rfl ?_
    obtain ⟨v82, e82, h⟩ := o_b h
    refine v_mA e82 (mg hG rfl) (by decide) rfl dX12_follow_82 rfl ?_
    obtain ⟨v83, e83, h⟩ := o_b h
    refine v_Vv (as := [.int y1, .int y2, .int v82]) (st := []) (c' := 0) (k' := 0) (k_X12_turn hG e83) (rcv_m (mg hG rfl)) mk_X12_turn qi_X12_turn qe_X12_turn qm_RX12_312 (ck rfl) rfl dX12_follow_83 rfl rfl rfl ?_
    obtain rfl := Option.some.inj h
    exact v_vret rfl (Nat.le_of_ble_eq_true rfl) (Nat.le_of_ble_eq_true rfl) dX12_follow_86
  · have h := o_n c70 h
    refine v_iload_n 2 rfl dX12_follow_73 rfl ?_
    refine v_goto (q := 83) dX12_follow_74 (by decide) ?_
    obtain ⟨v83, e83, h⟩ := o_b h
    refine v_Vv (as := [.int y1, .int y2, .int x3]) (st := []) (c' := 0) (k' := 0) (k_X12_turn hG e83) (rcv_m (mg hG rfl)) mk_X12_turn qi_X12_turn qe_X12_turn qm_RX12_312 (ck rfl) rfl dX12_follow_83 rfl rfl rfl ?_
    obtain rfl := Option.some.inj h
    exact v_vret rfl (Nat.le_of_ble_eq_true rfl) (Nat.le_of_ble_eq_true rfl) dX12_follow_86
set_option maxRecDepth 100000 in
set_option maxHeartbeats 4000000 in
theorem l_X12_follow_20 {G : Gm} (hG : gF G = mFl) {σ : Hp} {o : Int64} {μ' : Mu} {μ : Mu} {x1 : Int32} {x2 : Int32} {x3 : Int32} (h : f_X12_follow_20 μ x1 x2 x3 = some μ') : V G yX12_follow cX12_follow 4 none rm_X12_follow (zV G (σ, μ', o) 0 0) (σ, μ, o) 0 0 20 [(0, .ref (gM G 200)), (1, .int x1), (2, .int x2), (3, .int x3)] [] := by
  unfold f_X12_follow_20 at h
  refine v_iload_n 2 rfl dX12_follow_20 rfl ?_
  refine v_iload_n 3 rfl dX12_follow_21 rfl ?_
  refine v_aload_n 0 rfl dX12_follow_22 rfl ?_
  refine v_mR (j := 33) (mg hG rfl) (by decide) rfl qf_RX12_88 dX12_follow_23 rfl ?_
  refine v_iload_n 1 rfl dX12_follow_26 rfl ?_
  obtain ⟨v27, e27, h⟩ := o_b h
  refine v_mA e27 (mg hG rfl) (by decide) rfl dX12_follow_27 rfl ?_
  refine v_aload_n 0 rfl dX12_follow_28 rfl ?_
  refine v_mR (j := 34) (mg hG rfl) (by decide) rfl qf_RX12_91 dX12_follow_29 rfl ?_
  refine v_iload_n 1 rfl dX12_follow_32 rfl ?_
  obtain ⟨v33, e33, h⟩ := o_b h
  refine v_mA e33 (mg hG rfl) (by decide) rfl dX12_follow_33 rfl ?_
  obtain ⟨v34, e34, h⟩ := o_b h
  refine v_Si (as := [.int x2, .int x3, .int v27, .int v33]) (st := []) (c' := 0) (k' := 0) (k_X12_isBehind e34) mk_X12_isBehind qs_X12_isBehind qm_RX12_321 (ck rfl) rfl dX12_follow_34 rfl rfl rfl ?_
  refine v_if_eq 41 dX12_follow_37 (by decide) rfl (fun c37 => ?_) (fun c37 => ?_)
  · have h := o_p c37 h
    refine v_aload_n 0 rfl dX12_follow_41 rfl ?_
    refine v_iload_n 1 rfl dX12_follow_42 rfl ?_
    refine v_iload_n 2 rfl dX12_follow_43 rfl ?_
    refine v_aload_n 0 rfl dX12_follow_44 rfl ?_
    refine v_mR (j := 33) (mg hG rfl) (by decide) rfl qf_RX12_88 dX12_follow_45 rfl ?_
    refine v_iload_n 1 rfl dX12_follow_48 rfl ?_
    obtain ⟨v49, e49, h⟩ := o_b h
    refine v_mA e49 (mg hG rfl) (by decide) rfl dX12_follow_49 rfl ?_
    refine v_icmp_le 57 dX12_follow_50 (by decide) rfl (fun c50 => ?_) (fun c50 => ?_)
    · have h := o_p c50 h
      refine v_aload_n 0 rfl dX12_follow_57 rfl ?_
      refine v_mR (j := 33) (mg hG rfl) (by decide) rfl qf_RX12_88 dX12_follow_58 rfl ?_
      refine v_iload_n 1 rfl dX12_follow_61 rfl ?_
      obtain ⟨v62, e62, h⟩ := o_b h
      refine v_mA e62 (mg hG rfl) (by decide) rfl dX12_follow_62 rfl ?_
      refine v_sub [0, 1, 3] rfl ?_
      exact l_X12_follow_63 hG h
    · have h := o_n c50 h
      refine v_iload_n 2 rfl dX12_follow_53 rfl ?_
      refine v_goto (q := 63) dX12_follow_54 (by decide) ?_
      refine v_sub [0, 1, 3] rfl ?_
      exact l_X12_follow_63 hG h
  · have h := o_n c37 h
    obtain rfl := Option.some.inj h
    exact v_vret rfl (Nat.le_of_ble_eq_true rfl) (Nat.le_of_ble_eq_true rfl) dX12_follow_40
set_option maxRecDepth 100000 in
set_option maxHeartbeats 4000000 in
theorem k_X12_follow {G : Gm} (hG : gF G = mFl) {σ : Hp} {o : Int64} {μ' : Mu} {μ : Mu} {a1 : Int32} {a2 : Int32} {a3 : Int32} (h : f_X12_follow μ a1 a2 a3 = some μ') : Cv G yX12_follow cX12_follow 4 none rm_X12_follow [.ref (gM G 200), .int a1, .int a2, .int a3] (σ, μ, o) (σ, μ', o) 0 0 := by
  refine v_entV [(0, .ref (gM G 200)), (1, .int a1), (2, .int a2), (3, .int a3)] (by decide +kernel) (Nat.le_of_ble_eq_true rfl) rfl ?_
  unfold f_X12_follow at h
  refine v_iload_n 2 rfl dX12_follow_0 rfl ?_
  refine v_aload_n 0 rfl dX12_follow_1 rfl ?_
  refine v_mR (j := 33) (mg hG rfl) (by decide) rfl qf_RX12_88 dX12_follow_2 rfl ?_
  refine v_iload_n 1 rfl dX12_follow_5 rfl ?_
  obtain ⟨v6, e6, h⟩ := o_b h
  refine v_mA e6 (mg hG rfl) (by decide) rfl dX12_follow_6 rfl ?_
  refine v_icmp_ne 20 dX12_follow_7 (by decide) rfl (fun c7 => ?_) (fun c7 => ?_)
  · have h := o_n c7 h
    exact l_X12_follow_20 hG h
  · have h := o_p c7 h
    refine v_iload_n 3 rfl dX12_follow_10 rfl ?_
    refine v_aload_n 0 rfl dX12_follow_11 rfl ?_
    refine v_mR (j := 34) (mg hG rfl) (by decide) rfl qf_RX12_91 dX12_follow_12 rfl ?_
    refine v_iload_n 1 rfl dX12_follow_15 rfl ?_
    obtain ⟨v16, e16, h⟩ := o_b h
    refine v_mA e16 (mg hG rfl) (by decide) rfl dX12_follow_16 rfl ?_
    refine v_icmp_eq 40 dX12_follow_17 (by decide) rfl (fun c17 => ?_) (fun c17 => ?_)
    · have h := o_p c17 h
      obtain rfl := Option.some.inj h
      exact v_vret rfl (Nat.le_of_ble_eq_true rfl) (Nat.le_of_ble_eq_true rfl) dX12_follow_40
    · have h := o_n c17 h
      exact l_X12_follow_20 hG h
def rm_X12_turned : Room := { frames := 4, cells := 0, slots := 0, locals := 98 }
set_option maxRecDepth 100000 in
set_option maxHeartbeats 4000000 in
theorem l_X12_turned_132 {G : Gm} (hG : gF G = mFl) {σ : Hp} {o : Int64} {μ' : Mu} : ∀ (n : Nat) {μ : Mu} {x1 : Int32} {x8 : Int32} {x9 : Int32} {x10 : Int32} , f_X12_turned_132 n μ x1 x8 x9 x10 = some μ' → V G yX12_turned cX12_turned 11 none rm_X12_turned (zV G (σ, μ', o) 0 0) (σ, μ, o) 0 0 132 [(0, .ref (gM G 200)), (1, .int x1), (8, .int x8), (9, .int x9), (10, .int x10)] [] := by
  intro n
  induction n with
  | zero => intro _ _ _ _ _ h; cases h
  | succ n ih =>
    intro μ x1 x8 x9 x10 h
    replace h : b_X12_turned_132 (f_X12_turned_132 n) μ x1 x8 x9 x10 = some μ' := h
    unfold b_X12_turned_132 at h
    refine v_iload 4 rfl dX12_turned_132 rfl ?_
    refine v_iload 2 rfl dX12_turned_134 rfl ?_
    refine v_icmp_ge 165 dX12_turned_136 (by decide) rfl (fun c136 => ?_) (fun c136 => ?_)
    · have h := o_p c136 h
      refine v_aload_n 0 rfl dX12_turned_165 rfl ?_
      refine v_iload_n 1 rfl dX12_turned_166 rfl ?_
      obtain ⟨v167, e167, h⟩ := o_b h
      refine v_Vv (as := [.int x1]) (st := []) (c' := 0) (k' := 0) (k_X12_merge hG e167) (rcv_m (mg hG rfl)) mk_X12_merge qi_X12_merge qe_X12_merge qm_RX12_328 (ck rfl) rfl dX12_turned_167 rfl rfl rfl ?_
      obtain rfl := Option.some.inj h
      exact v_vret rfl (Nat.le_of_ble_eq_true rfl) (Nat.le_of_ble_eq_true rfl) dX12_turned_170
    · have h := o_n c136 h
      refine v_aload_n 0 rfl dX12_turned_139 rfl ?_
      refine v_mR (j := 54) (mg hG rfl) (by decide) rfl qf_RX12_151 dX12_turned_140 rfl ?_
      refine v_bipush (v := (100 : Int32)) (by decide) dX12_turned_143 rfl ?_
      refine v_iload 3 rfl dX12_turned_145 rfl ?_
      refine v_imul dX12_turned_147 rfl ?_
      refine v_iload 4 rfl dX12_turned_148 rfl ?_
      refine v_iadd dX12_turned_150 rfl ?_
      refine v_aload_n 0 rfl dX12_turned_151 rfl ?_
      refine v_mR (j := 56) (mg hG rfl) (by decide) rfl qf_RX12_157 dX12_turned_152 rfl ?_
      refine v_iload 4 rfl dX12_turned_155 rfl ?_
      obtain ⟨v157, e157, h⟩ := o_b h
      refine v_mA e157 (mg hG rfl) (by decide) rfl dX12_turned_157 rfl ?_
      obtain ⟨s158, e158, h⟩ := o_b h
      refine v_mQ e158 (mg hG rfl) (by decide) rfl dX12_turned_158 rfl ?_
      refine v_iinc (v := (x10 + 1)) [(10, .int (x10 + 1)), (0, .ref (gM G 200)), (1, .int x1), (8, .int x8), (9, .int x9)] 4 rfl rfl dX12_turned_159 rfl (by decide) rfl ?_
      refine v_goto (q := 132) dX12_turned_162 (by decide) ?_
      refine v_sub [1, 2, 3, 4, 0] rfl ?_
      exact ih h
set_option maxRecDepth 100000 in
set_option maxHeartbeats 4000000 in
theorem k_X12_turned {G : Gm} (hG : gF G = mFl) {σ : Hp} {o : Int64} {μ' : Mu} {μ : Mu} {a1 : Int32} {a2 : Int32} {a3 : Int32} {a4 : Int32} {a5 : Int32} {a6 : Int32} {a7 : Int32} {a8 : Int32} (h : f_X12_turned μ a1 a2 a3 a4 a5 a6 a7 a8 = some μ') : Cv G yX12_turned cX12_turned 11 none rm_X12_turned [.ref (gM G 200), .int a1, .int a2, .int a3, .int a4, .int a5, .int a6, .int a7, .int a8] (σ, μ, o) (σ, μ', o) 0 0 := by
  refine v_entV [(0, .ref (gM G 200)), (1, .int a1), (2, .int a2), (3, .int a3), (4, .int a4), (5, .int a5), (6, .int a6), (7, .int a7), (8, .int a8)] (by decide +kernel) (Nat.le_of_ble_eq_true rfl) rfl ?_
  unfold f_X12_turned at h
  refine v_aload_n 0 rfl dX12_turned_0 rfl ?_
  refine v_iload_n 1 rfl dX12_turned_1 rfl ?_
  refine v_iload_n 3 rfl dX12_turned_2 rfl ?_
  refine v_iload 4 rfl dX12_turned_3 rfl ?_
  obtain ⟨v5, e5, h⟩ := o_b h
  refine v_Vv (as := [.int a1, .int a3, .int a4]) (st := []) (c' := 0) (k' := 0) (k_X12_follow hG e5) (rcv_m (mg hG rfl)) mk_X12_follow qi_X12_follow qe_X12_follow qm_RX12_325 (ck rfl) rfl dX12_turned_5 rfl rfl rfl ?_
  refine v_iload_n 3 rfl dX12_turned_8 rfl ?_
  refine v_aload_n 0 rfl dX12_turned_9 rfl ?_
  refine v_mR (j := 33) (mg hG rfl) (by decide) rfl qf_RX12_88 dX12_turned_10 rfl ?_
  refine v_iload_n 1 rfl dX12_turned_13 rfl ?_
  obtain ⟨v14, e14, h⟩ := o_b h
  refine v_mA e14 (mg hG rfl) (by decide) rfl dX12_turned_14 rfl ?_
  refine v_icmp_ne 37 dX12_turned_15 (by decide) rfl (fun c15 => ?_) (fun c15 => ?_)
  · have h := o_n c15 h
    obtain rfl := Option.some.inj h
    exact v_vret rfl (Nat.le_of_ble_eq_true rfl) (Nat.le_of_ble_eq_true rfl) dX12_turned_37
  · have h := o_p c15 h
    refine v_iload 4 rfl dX12_turned_18 rfl ?_
    refine v_aload_n 0 rfl dX12_turned_20 rfl ?_
    refine v_mR (j := 34) (mg hG rfl) (by decide) rfl qf_RX12_91 dX12_turned_21 rfl ?_
    refine v_iload_n 1 rfl dX12_turned_24 rfl ?_
    obtain ⟨v25, e25, h⟩ := o_b h
    refine v_mA e25 (mg hG rfl) (by decide) rfl dX12_turned_25 rfl ?_
    refine v_icmp_ne 37 dX12_turned_26 (by decide) rfl (fun c26 => ?_) (fun c26 => ?_)
    · have h := o_n c26 h
      obtain rfl := Option.some.inj h
      exact v_vret rfl (Nat.le_of_ble_eq_true rfl) (Nat.le_of_ble_eq_true rfl) dX12_turned_37
    · have h := o_p c26 h
      refine v_aload_n 0 rfl dX12_turned_29 rfl ?_
      refine v_iload_n 1 rfl dX12_turned_30 rfl ?_
      obtain ⟨v31, e31, h⟩ := o_b h
      refine v_Vi (as := [.int a1]) (st := []) (c' := 0) (k' := 0) (k_X12_leads hG e31) (rcv_m (mg hG rfl)) mk_X12_leads qi_X12_leads qe_X12_leads qm_RX12_248 (ck rfl) rfl dX12_turned_31 rfl rfl rfl ?_
      refine v_if_ne 38 dX12_turned_34 (by decide) rfl (fun c34 => ?_) (fun c34 => ?_)
      · have h := o_n c34 h
        refine v_aload_n 0 rfl dX12_turned_38 rfl ?_
        refine v_mR (j := 35) (mg hG rfl) (by decide) rfl qf_RX12_94 dX12_turned_39 rfl ?_
        refine v_iload_n 1 rfl dX12_turned_42 rfl ?_
        obtain ⟨v43, e43, h⟩ := o_b h
        refine v_mA e43 (mg hG rfl) (by decide) rfl dX12_turned_43 rfl ?_
        refine v_iconst (v := (2 : Int32)) (by decide) dX12_turned_44 rfl ?_
        refine v_icmp_eq 73 dX12_turned_45 (by decide) rfl (fun c45 => ?_) (fun c45 => ?_)
        · have h := o_p c45 h
          refine v_bipush (v := (7 : Int32)) (by decide) dX12_turned_73 rfl ?_
          refine v_iload_n 1 rfl dX12_turned_75 rfl ?_
          refine v_imul dX12_turned_76 rfl ?_
          refine v_iload_n 2 rfl dX12_turned_77 rfl ?_
          refine v_iadd dX12_turned_78 rfl ?_
          refine v_istore [(9, .int (((7 : Int32) * a1) + a2)), (0, .ref (gM G 200)), (1, .int a1), (2, .int a2), (3, .int a3), (4, .int a4), (5, .int a5), (6, .int a6), (7, .int a7), (8, .int a8)] dX12_turned_79 rfl (by decide) rfl ?_
          refine v_aload_n 1 rfl dX12_turned_81 rfl ?_
          refine v_mR (j := 49) (mg hG rfl) (by decide) rfl qf_RX12_136 dX12_turned_82 rfl ?_
          refine v_iload_n 2 rfl dX12_turned_85 rfl ?_
          refine v_dup2 rfl rfl dX12_turned_86 rfl ?_
          obtain ⟨v87, e87, h⟩ := o_b h
          refine v_mA e87 (mg hG rfl) (by decide) rfl dX12_turned_87 rfl ?_
          refine v_iconst (v := (1 : Int32)) (by decide) dX12_turned_88 rfl ?_
          refine v_iload_n 3 rfl dX12_turned_89 rfl ?_
          refine v_ishl dX12_turned_90 rfl ?_
          refine v_ior dX12_turned_91 rfl ?_
          obtain ⟨s92, e92, h⟩ := o_b h
          refine v_mQ e92 (mg hG rfl) (by decide) rfl dX12_turned_92 rfl ?_
          refine v_aload_n 1 rfl dX12_turned_93 rfl ?_
          refine v_mR (j := 50) (mg hG rfl) (by decide) rfl qf_RX12_139 dX12_turned_94 rfl ?_
          refine v_iload 0 rfl dX12_turned_97 rfl ?_
          refine v_iload 6 rfl dX12_turned_99 rfl ?_
          obtain ⟨s101, e101, h⟩ := o_b h
          refine v_mQ e101 (mg hG rfl) (by decide) rfl dX12_turned_101 rfl ?_
          refine v_aload_n 1 rfl dX12_turned_102 rfl ?_
          refine v_mR (j := 51) (mg hG rfl) (by decide) rfl qf_RX12_142 dX12_turned_103 rfl ?_
          refine v_iload 0 rfl dX12_turned_106 rfl ?_
          refine v_iload 7 rfl dX12_turned_108 rfl ?_
          obtain ⟨s110, e110, h⟩ := o_b h
          refine v_mQ e110 (mg hG rfl) (by decide) rfl dX12_turned_110 rfl ?_
          refine v_aload_n 1 rfl dX12_turned_111 rfl ?_
          refine v_mR (j := 52) (mg hG rfl) (by decide) rfl qf_RX12_145 dX12_turned_112 rfl ?_
          refine v_iload 0 rfl dX12_turned_115 rfl ?_
          refine v_iload 8 rfl dX12_turned_117 rfl ?_
          obtain ⟨s119, e119, h⟩ := o_b h
          refine v_mQ e119 (mg hG rfl) (by decide) rfl dX12_turned_119 rfl ?_
          refine v_aload_n 1 rfl dX12_turned_120 rfl ?_
          refine v_mR (j := 53) (mg hG rfl) (by decide) rfl qf_RX12_148 dX12_turned_121 rfl ?_
          refine v_iload 0 rfl dX12_turned_124 rfl ?_
          refine v_iload 9 rfl dX12_turned_126 rfl ?_
          obtain ⟨s128, e128, h⟩ := o_b h
          refine v_mQ e128 (mg hG rfl) (by decide) rfl dX12_turned_128 rfl ?_
          refine v_iconst (v := (0 : Int32)) (by decide) dX12_turned_129 rfl ?_
          refine v_istore [(10, .int (0 : Int32)), (9, .int (((7 : Int32) * a1) + a2)), (0, .ref (gM G 200)), (1, .int a1), (2, .int a2), (3, .int a3), (4, .int a4), (5, .int a5), (6, .int a6), (7, .int a7), (8, .int a8)] dX12_turned_130 rfl (by decide) rfl ?_
          refine v_sub [2, 3, 10, 1, 0] rfl ?_
          exact l_X12_turned_132 hG _ h
        · have h := o_n c45 h
          refine v_aload_n 0 rfl dX12_turned_48 rfl ?_
          refine v_aload_n 0 rfl dX12_turned_49 rfl ?_
          refine v_bipush (v := (10 : Int32)) (by decide) dX12_turned_50 rfl ?_
          refine v_iload_n 1 rfl dX12_turned_52 rfl ?_
          refine v_iload_n 2 rfl dX12_turned_53 rfl ?_
          refine v_iload_n 3 rfl dX12_turned_54 rfl ?_
          refine v_iload 4 rfl dX12_turned_55 rfl ?_
          refine v_iconst (v := (0 : Int32)) (by decide) dX12_turned_57 rfl ?_
          refine v_iconst (v := (0 : Int32)) (by decide) dX12_turned_58 rfl ?_
          obtain ⟨v59, e59, h⟩ := o_b h
          refine v_Vi (as := [.int (10 : Int32), .int a1, .int a2, .int a3, .int a4, .int (0 : Int32), .int (0 : Int32)]) (st := [.ref (gM G 200)]) (c' := 0) (k' := 0) (k_X12_send hG e59) (rcv_m (mg hG rfl)) mk_X12_send qi_X12_send qe_X12_send qm_RX12_241 (ck rfl) rfl dX12_turned_59 rfl rfl rfl ?_
          refine v_iload_n 1 rfl dX12_turned_62 rfl ?_
          refine v_aload_n 0 rfl dX12_turned_63 rfl ?_
          refine v_mR (j := 38) (mg hG rfl) (by decide) rfl qf_RX12_103 dX12_turned_64 rfl ?_
          refine v_iload_n 1 rfl dX12_turned_67 rfl ?_
          obtain ⟨v68, e68, h⟩ := o_b h
          refine v_mA e68 (mg hG rfl) (by decide) rfl dX12_turned_68 rfl ?_
          obtain ⟨v69, e69, h⟩ := o_b h
          refine v_Vv (as := [.int v59.1, .int a1, .int v68]) (st := []) (c' := 0) (k' := 0) (k_X12_load hG e69) (rcv_m (mg hG rfl)) mk_X12_load qi_X12_load qe_X12_load qm_RX12_277 (ck rfl) rfl dX12_turned_69 rfl rfl rfl ?_
          obtain rfl := Option.some.inj h
          exact v_vret rfl (Nat.le_of_ble_eq_true rfl) (Nat.le_of_ble_eq_true rfl) dX12_turned_72
      · have h := o_p c34 h
        obtain rfl := Option.some.inj h
        exact v_vret rfl (Nat.le_of_ble_eq_true rfl) (Nat.le_of_ble_eq_true rfl) dX12_turned_37
def rm_X12_start : Room := { frames := 2, cells := 0, slots := 0, locals := 42 }
set_option maxRecDepth 100000 in
set_option maxHeartbeats 4000000 in
theorem l_X12_start_96 {G : Gm} (hG : gF G = mFl) {σ : Hp} {o : Int64} {μ' : Mu} : ∀ (n : Nat) {μ : Mu} {x1 : Int32} {x5 : Int32} {x7 : Int32} , f_X12_start_96 n μ x1 x5 x7 = some μ' → V G yX12_start cX12_start 8 none rm_X12_start (zV G (σ, μ', o) 0 0) (σ, μ, o) 0 0 96 [(0, .ref (gM G 200)), (1, .int x1), (5, .int x5), (7, .int x7)] [] := by
  intro n
  induction n with
  | zero => intro _ _ _ _ h; cases h
  | succ n ih =>
    intro μ x1 x5 x7 h
    replace h : b_X12_start_96 (f_X12_start_96 n) μ x1 x5 x7 = some μ' := h
    unfold b_X12_start_96 at h
    refine v_iload 3 rfl dX12_start_96 rfl ?_
    refine v_iload 2 rfl dX12_start_98 rfl ?_
    refine v_icmp_ge 128 dX12_start_100 (by decide) rfl (fun c100 => ?_) (fun c100 => ?_)
    · have h := o_p c100 h
      refine v_aload_n 0 rfl dX12_start_128 rfl ?_
      refine v_iload_n 1 rfl dX12_start_129 rfl ?_
      obtain ⟨v130, e130, h⟩ := o_b h
      refine v_Vv (as := [.int x1]) (st := []) (c' := 0) (k' := 0) (k_X12_settle hG e130) (rcv_m (mg hG rfl)) mk_X12_settle qi_X12_settle qe_X12_settle qm_RX12_309 (ck rfl) rfl dX12_start_130 rfl rfl rfl ?_
      obtain rfl := Option.some.inj h
      exact v_vret rfl (Nat.le_of_ble_eq_true rfl) (Nat.le_of_ble_eq_true rfl) dX12_start_133
    · have h := o_n c100 h
      refine v_aload_n 0 rfl dX12_start_103 rfl ?_
      refine v_mR (j := 42) (mg hG rfl) (by decide) rfl qf_RX12_115 dX12_start_104 rfl ?_
      refine v_bipush (v := (100 : Int32)) (by decide) dX12_start_107 rfl ?_
      refine v_iload_n 1 rfl dX12_start_109 rfl ?_
      refine v_imul dX12_start_110 rfl ?_
      refine v_iload 3 rfl dX12_start_111 rfl ?_
      refine v_iadd dX12_start_113 rfl ?_
      refine v_aload_n 0 rfl dX12_start_114 rfl ?_
      refine v_mR (j := 56) (mg hG rfl) (by decide) rfl qf_RX12_157 dX12_start_115 rfl ?_
      refine v_iload 3 rfl dX12_start_118 rfl ?_
      obtain ⟨v120, e120, h⟩ := o_b h
      refine v_mA e120 (mg hG rfl) (by decide) rfl dX12_start_120 rfl ?_
      obtain ⟨s121, e121, h⟩ := o_b h
      refine v_mQ e121 (mg hG rfl) (by decide) rfl dX12_start_121 rfl ?_
      refine v_iinc (v := (x7 + 1)) [(7, .int (x7 + 1)), (0, .ref (gM G 200)), (1, .int x1), (5, .int x5)] 3 rfl rfl dX12_start_122 rfl (by decide) rfl ?_
      refine v_goto (q := 96) dX12_start_125 (by decide) ?_
      refine v_sub [1, 2, 3, 0] rfl ?_
      exact ih h
set_option maxRecDepth 100000 in
set_option maxHeartbeats 4000000 in
theorem l_X12_start_63 {G : Gm} (hG : gF G = mFl) {σ : Hp} {o : Int64} {μ' : Mu} {μ : Mu} {x1 : Int32} {x2 : Int32} {x3 : Int32} {x4 : Int32} {x5 : Int32} (h : f_X12_start_63 μ x1 x2 x3 x4 x5 = some μ') : V G yX12_start cX12_start 8 none rm_X12_start (zV G (σ, μ', o) 0 0) (σ, μ, o) 0 0 63 [(0, .ref (gM G 200)), (1, .int x1), (2, .int x2), (3, .int x3), (4, .int x4), (5, .int x5)] [] := by
  unfold f_X12_start_63 at h
  refine v_aload_n 0 rfl dX12_start_63 rfl ?_
  refine v_mR (j := 33) (mg hG rfl) (by decide) rfl qf_RX12_88 dX12_start_64 rfl ?_
  refine v_iload_n 1 rfl dX12_start_67 rfl ?_
  refine v_iload_n 2 rfl dX12_start_68 rfl ?_
  obtain ⟨s69, e69, h⟩ := o_b h
  refine v_mQ e69 (mg hG rfl) (by decide) rfl dX12_start_69 rfl ?_
  refine v_aload_n 0 rfl dX12_start_70 rfl ?_
  refine v_mR (j := 34) (mg hG rfl) (by decide) rfl qf_RX12_91 dX12_start_71 rfl ?_
  refine v_iload_n 1 rfl dX12_start_74 rfl ?_
  refine v_iload_n 3 rfl dX12_start_75 rfl ?_
  obtain ⟨s76, e76, h⟩ := o_b h
  refine v_mQ e76 (mg hG rfl) (by decide) rfl dX12_start_76 rfl ?_
  refine v_aload_n 0 rfl dX12_start_77 rfl ?_
  refine v_mR (j := 39) (mg hG rfl) (by decide) rfl qf_RX12_106 dX12_start_78 rfl ?_
  refine v_iload_n 1 rfl dX12_start_81 rfl ?_
  refine v_iload 4 rfl dX12_start_82 rfl ?_
  obtain ⟨s84, e84, h⟩ := o_b h
  refine v_mQ e84 (mg hG rfl) (by decide) rfl dX12_start_84 rfl ?_
  refine v_aload_n 0 rfl dX12_start_85 rfl ?_
  refine v_mR (j := 38) (mg hG rfl) (by decide) rfl qf_RX12_103 dX12_start_86 rfl ?_
  refine v_iload_n 1 rfl dX12_start_89 rfl ?_
  refine v_iload 5 rfl dX12_start_90 rfl ?_
  obtain ⟨s92, e92, h⟩ := o_b h
  refine v_mQ e92 (mg hG rfl) (by decide) rfl dX12_start_92 rfl ?_
  refine v_iconst (v := (0 : Int32)) (by decide) dX12_start_93 rfl ?_
  refine v_istore [(7, .int (0 : Int32)), (0, .ref (gM G 200)), (1, .int x1), (2, .int x2), (3, .int x3), (4, .int x4), (5, .int x5)] dX12_start_94 rfl (by decide) rfl ?_
  refine v_sub [1, 2, 6, 0] rfl ?_
  exact l_X12_start_96 hG _ h
set_option maxRecDepth 100000 in
set_option maxHeartbeats 4000000 in
theorem l_X12_start_25 {G : Gm} (hG : gF G = mFl) {σ : Hp} {o : Int64} {μ' : Mu} {μ : Mu} {x1 : Int32} {x2 : Int32} {x3 : Int32} {x4 : Int32} {x5 : Int32} {y0 : Int32} (h : f_X12_start_25 μ x1 x2 x3 x4 x5 y0 = some μ') : V G yX12_start cX12_start 8 none rm_X12_start (zV G (σ, μ', o) 0 0) (σ, μ, o) 0 0 25 [(0, .ref (gM G 200)), (1, .int x1), (2, .int x2), (3, .int x3), (4, .int x4), (5, .int x5)] [.int y0] := by
  unfold f_X12_start_25 at h
  refine v_istore [(6, .int y0), (0, .ref (gM G 200)), (1, .int x1), (2, .int x2), (3, .int x3), (4, .int x4), (5, .int x5)] dX12_start_25 rfl (by decide) rfl ?_
  refine v_aload_n 1 rfl dX12_start_27 rfl ?_
  refine v_mR (j := 33) (mg hG rfl) (by decide) rfl qf_RX12_88 dX12_start_28 rfl ?_
  refine v_iload_n 2 rfl dX12_start_31 rfl ?_
  obtain ⟨v32, e32, h⟩ := o_b h
  refine v_mA e32 (mg hG rfl) (by decide) rfl dX12_start_32 rfl ?_
  refine v_aload_n 1 rfl dX12_start_33 rfl ?_
  refine v_mR (j := 34) (mg hG rfl) (by decide) rfl qf_RX12_91 dX12_start_34 rfl ?_
  refine v_iload_n 2 rfl dX12_start_37 rfl ?_
  obtain ⟨v38, e38, h⟩ := o_b h
  refine v_mA e38 (mg hG rfl) (by decide) rfl dX12_start_38 rfl ?_
  refine v_iload_n 3 rfl dX12_start_39 rfl ?_
  refine v_iload_n 4 rfl dX12_start_40 rfl ?_
  obtain ⟨v41, e41, h⟩ := o_b h
  refine v_Si (as := [.int v32, .int v38, .int x2, .int x3]) (st := []) (c' := 0) (k' := 0) (k_X12_isBehind e41) mk_X12_isBehind qs_X12_isBehind qm_RX12_321 (ck rfl) rfl dX12_start_41 rfl rfl rfl ?_
  refine v_if_ne 63 dX12_start_44 (by decide) rfl (fun c44 => ?_) (fun c44 => ?_)
  · have h := o_n c44 h
    refine v_sub [1, 2, 3, 4, 5, 6] rfl ?_
    exact l_X12_start_63 hG h
  · have h := o_p c44 h
    refine v_iload 0 rfl dX12_start_47 rfl ?_
    refine v_if_eq 62 dX12_start_49 (by decide) rfl (fun c49 => ?_) (fun c49 => ?_)
    · have h := o_p c49 h
      obtain rfl := Option.some.inj h
      exact v_vret rfl (Nat.le_of_ble_eq_true rfl) (Nat.le_of_ble_eq_true rfl) dX12_start_62
    · have h := o_n c49 h
      refine v_aload_n 1 rfl dX12_start_52 rfl ?_
      refine v_mR (j := 35) (mg hG rfl) (by decide) rfl qf_RX12_94 dX12_start_53 rfl ?_
      refine v_iload_n 2 rfl dX12_start_56 rfl ?_
      obtain ⟨v57, e57, h⟩ := o_b h
      refine v_mA e57 (mg hG rfl) (by decide) rfl dX12_start_57 rfl ?_
      refine v_iconst (v := (2 : Int32)) (by decide) dX12_start_58 rfl ?_
      refine v_icmp_eq 63 dX12_start_59 (by decide) rfl (fun c59 => ?_) (fun c59 => ?_)
      · have h := o_p c59 h
        refine v_sub [1, 2, 3, 4, 5, 6] rfl ?_
        exact l_X12_start_63 hG h
      · have h := o_n c59 h
        obtain rfl := Option.some.inj h
        exact v_vret rfl (Nat.le_of_ble_eq_true rfl) (Nat.le_of_ble_eq_true rfl) dX12_start_62
set_option maxRecDepth 100000 in
set_option maxHeartbeats 4000000 in
theorem l_X12_start_24 {G : Gm} (hG : gF G = mFl) {σ : Hp} {o : Int64} {μ' : Mu} {μ : Mu} {x1 : Int32} {x2 : Int32} {x3 : Int32} {x4 : Int32} {x5 : Int32} (h : f_X12_start_24 μ x1 x2 x3 x4 x5 = some μ') : V G yX12_start cX12_start 8 none rm_X12_start (zV G (σ, μ', o) 0 0) (σ, μ, o) 0 0 24 [(0, .ref (gM G 200)), (1, .int x1), (2, .int x2), (3, .int x3), (4, .int x4), (5, .int x5)] [] := by
  unfold f_X12_start_24 at h
  refine v_iconst (v := (0 : Int32)) (by decide) dX12_start_24 rfl ?_
  exact l_X12_start_25 hG h
set_option maxRecDepth 100000 in
set_option maxHeartbeats 4000000 in
theorem k_X12_start {G : Gm} (hG : gF G = mFl) {σ : Hp} {o : Int64} {μ' : Mu} {μ : Mu} {a1 : Int32} {a2 : Int32} {a3 : Int32} {a4 : Int32} {a5 : Int32} (h : f_X12_start μ a1 a2 a3 a4 a5 = some μ') : Cv G yX12_start cX12_start 8 none rm_X12_start [.ref (gM G 200), .int a1, .int a2, .int a3, .int a4, .int a5] (σ, μ, o) (σ, μ', o) 0 0 := by
  refine v_entV [(0, .ref (gM G 200)), (1, .int a1), (2, .int a2), (3, .int a3), (4, .int a4), (5, .int a5)] (by decide +kernel) (Nat.le_of_ble_eq_true rfl) rfl ?_
  unfold f_X12_start at h
  refine v_iload_n 2 rfl dX12_start_0 rfl ?_
  refine v_aload_n 0 rfl dX12_start_1 rfl ?_
  refine v_mR (j := 33) (mg hG rfl) (by decide) rfl qf_RX12_88 dX12_start_2 rfl ?_
  refine v_iload_n 1 rfl dX12_start_5 rfl ?_
  obtain ⟨v6, e6, h⟩ := o_b h
  refine v_mA e6 (mg hG rfl) (by decide) rfl dX12_start_6 rfl ?_
  refine v_icmp_ne 24 dX12_start_7 (by decide) rfl (fun c7 => ?_) (fun c7 => ?_)
  · have h := o_n c7 h
    exact l_X12_start_24 hG h
  · have h := o_p c7 h
    refine v_iload_n 3 rfl dX12_start_10 rfl ?_
    refine v_aload_n 0 rfl dX12_start_11 rfl ?_
    refine v_mR (j := 34) (mg hG rfl) (by decide) rfl qf_RX12_91 dX12_start_12 rfl ?_
    refine v_iload_n 1 rfl dX12_start_15 rfl ?_
    obtain ⟨v16, e16, h⟩ := o_b h
    refine v_mA e16 (mg hG rfl) (by decide) rfl dX12_start_16 rfl ?_
    refine v_icmp_ne 24 dX12_start_17 (by decide) rfl (fun c17 => ?_) (fun c17 => ?_)
    · have h := o_n c17 h
      exact l_X12_start_24 hG h
    · have h := o_p c17 h
      refine v_iconst (v := (1 : Int32)) (by decide) dX12_start_20 rfl ?_
      refine v_goto (q := 25) dX12_start_21 (by decide) ?_
      exact l_X12_start_25 hG h
def rm_X12_forgetFirst : Room := { frames := 0, cells := 0, slots := 0, locals := 0 }
set_option maxRecDepth 100000 in
set_option maxHeartbeats 4000000 in
theorem l_X12_forgetFirst_94 {G : Gm} (hG : gF G = mFl) {σ : Hp} {o : Int64} {r : Int32} {μ' : Mu} {μ : Mu} {x1 : Int32} (h : f_X12_forgetFirst_94 μ x1 = some (r, μ')) : V G yX12_forgetFirst cX12_forgetFirst 3 (some .int) rm_X12_forgetFirst (zI G r (σ, μ', o) 0 0) (σ, μ, o) 0 0 94 [(0, .ref (gM G 200)), (1, .int x1)] [] := by
  unfold f_X12_forgetFirst_94 at h
  refine v_aload_n 0 rfl dX12_forgetFirst_94 rfl ?_
  refine v_mR (j := 64) (mg hG rfl) (by decide) rfl qf_RX12_181 dX12_forgetFirst_95 rfl ?_
  refine v_iload_n 1 rfl dX12_forgetFirst_98 rfl ?_
  refine v_bipush (v := (63 : Int32)) (by decide) dX12_forgetFirst_99 rfl ?_
  obtain ⟨s101, e101, h⟩ := o_b h
  refine v_mQ e101 (mg hG rfl) (by decide) rfl dX12_forgetFirst_101 rfl ?_
  refine v_bipush (v := (64 : Int32)) (by decide) dX12_forgetFirst_102 rfl ?_
  refine v_iload_n 1 rfl dX12_forgetFirst_104 rfl ?_
  refine v_imul dX12_forgetFirst_105 rfl ?_
  refine v_bipush (v := (64 : Int32)) (by decide) dX12_forgetFirst_106 rfl ?_
  refine v_iadd dX12_forgetFirst_108 rfl ?_
  refine v_iconst (v := (1 : Int32)) (by decide) dX12_forgetFirst_109 rfl ?_
  refine v_isub dX12_forgetFirst_110 rfl ?_
  obtain ⟨rfl, rfl⟩ := o_s h
  exact v_iret rfl rfl (Nat.le_of_ble_eq_true rfl) (Nat.le_of_ble_eq_true rfl) dX12_forgetFirst_111
set_option maxRecDepth 100000 in
set_option maxHeartbeats 4000000 in
theorem l_X12_forgetFirst_5 {G : Gm} (hG : gF G = mFl) {σ : Hp} {o : Int64} {r : Int32} {μ' : Mu} : ∀ (n : Nat) {μ : Mu} {x1 : Int32} {x2 : Int32} , f_X12_forgetFirst_5 n μ x1 x2 = some (r, μ') → V G yX12_forgetFirst cX12_forgetFirst 3 (some .int) rm_X12_forgetFirst (zI G r (σ, μ', o) 0 0) (σ, μ, o) 0 0 5 [(0, .ref (gM G 200)), (1, .int x1), (2, .int x2)] [] := by
  intro n
  induction n with
  | zero => intro _ _ _ h; cases h
  | succ n ih =>
    intro μ x1 x2 h
    replace h : b_X12_forgetFirst_5 (f_X12_forgetFirst_5 n) μ x1 x2 = some (r, μ') := h
    unfold b_X12_forgetFirst_5 at h
    refine v_iload_n 2 rfl dX12_forgetFirst_5 rfl ?_
    refine v_bipush (v := (64 : Int32)) (by decide) dX12_forgetFirst_6 rfl ?_
    refine v_iload_n 1 rfl dX12_forgetFirst_8 rfl ?_
    refine v_imul dX12_forgetFirst_9 rfl ?_
    refine v_bipush (v := (64 : Int32)) (by decide) dX12_forgetFirst_10 rfl ?_
    refine v_iadd dX12_forgetFirst_12 rfl ?_
    refine v_iconst (v := (1 : Int32)) (by decide) dX12_forgetFirst_13 rfl ?_
    refine v_isub dX12_forgetFirst_14 rfl ?_
    refine v_icmp_ge 94 dX12_forgetFirst_15 (by decide) rfl (fun c15 => ?_) (fun c15 => ?_)
    · have h := o_p c15 h
      refine v_sub [0, 1] rfl ?_
      exact l_X12_forgetFirst_94 hG h
    · have h := o_n c15 h
      refine v_aload_n 0 rfl dX12_forgetFirst_18 rfl ?_
      refine v_mR (j := 65) (mg hG rfl) (by decide) rfl qf_RX12_184 dX12_forgetFirst_19 rfl ?_
      refine v_iload_n 2 rfl dX12_forgetFirst_22 rfl ?_
      refine v_aload_n 0 rfl dX12_forgetFirst_23 rfl ?_
      refine v_mR (j := 65) (mg hG rfl) (by decide) rfl qf_RX12_184 dX12_forgetFirst_24 rfl ?_
      refine v_iload_n 2 rfl dX12_forgetFirst_27 rfl ?_
      refine v_iconst (v := (1 : Int32)) (by decide) dX12_forgetFirst_28 rfl ?_
      refine v_iadd dX12_forgetFirst_29 rfl ?_
      obtain ⟨v30, e30, h⟩ := o_b h
      refine v_mA e30 (mg hG rfl) (by decide) rfl dX12_forgetFirst_30 rfl ?_
      obtain ⟨s31, e31, h⟩ := o_b h
      refine v_mQ e31 (mg hG rfl) (by decide) rfl dX12_forgetFirst_31 rfl ?_
      refine v_aload_n 0 rfl dX12_forgetFirst_32 rfl ?_
      refine v_mR (j := 66) (mg hG rfl) (by decide) rfl qf_RX12_187 dX12_forgetFirst_33 rfl ?_
      refine v_iload_n 2 rfl dX12_forgetFirst_36 rfl ?_
      refine v_aload_n 0 rfl dX12_forgetFirst_37 rfl ?_
      refine v_mR (j := 66) (mg hG rfl) (by decide) rfl qf_RX12_187 dX12_forgetFirst_38 rfl ?_
      refine v_iload_n 2 rfl dX12_forgetFirst_41 rfl ?_
      refine v_iconst (v := (1 : Int32)) (by decide) dX12_forgetFirst_42 rfl ?_
      refine v_iadd dX12_forgetFirst_43 rfl ?_
      obtain ⟨v44, e44, h⟩ := o_b h
      refine v_mA e44 (mg hG rfl) (by decide) rfl dX12_forgetFirst_44 rfl ?_
      obtain ⟨s45, e45, h⟩ := o_b h
      refine v_mQ e45 (mg hG rfl) (by decide) rfl dX12_forgetFirst_45 rfl ?_
      refine v_aload_n 0 rfl dX12_forgetFirst_46 rfl ?_
      refine v_mR (j := 67) (mg hG rfl) (by decide) rfl qf_RX12_190 dX12_forgetFirst_47 rfl ?_
      refine v_iload_n 2 rfl dX12_forgetFirst_50 rfl ?_
      refine v_aload_n 0 rfl dX12_forgetFirst_51 rfl ?_
      refine v_mR (j := 67) (mg hG rfl) (by decide) rfl qf_RX12_190 dX12_forgetFirst_52 rfl ?_
      refine v_iload_n 2 rfl dX12_forgetFirst_55 rfl ?_
      refine v_iconst (v := (1 : Int32)) (by decide) dX12_forgetFirst_56 rfl ?_
      refine v_iadd dX12_forgetFirst_57 rfl ?_
      obtain ⟨v58, e58, h⟩ := o_b h
      refine v_mA e58 (mg hG rfl) (by decide) rfl dX12_forgetFirst_58 rfl ?_
      obtain ⟨s59, e59, h⟩ := o_b h
      refine v_mQ e59 (mg hG rfl) (by decide) rfl dX12_forgetFirst_59 rfl ?_
      refine v_aload_n 0 rfl dX12_forgetFirst_60 rfl ?_
      refine v_mR (j := 68) (mg hG rfl) (by decide) rfl qf_RX12_193 dX12_forgetFirst_61 rfl ?_
      refine v_iload_n 2 rfl dX12_forgetFirst_64 rfl ?_
      refine v_aload_n 0 rfl dX12_forgetFirst_65 rfl ?_
      refine v_mR (j := 68) (mg hG rfl) (by decide) rfl qf_RX12_193 dX12_forgetFirst_66 rfl ?_
      refine v_iload_n 2 rfl dX12_forgetFirst_69 rfl ?_
      refine v_iconst (v := (1 : Int32)) (by decide) dX12_forgetFirst_70 rfl ?_
      refine v_iadd dX12_forgetFirst_71 rfl ?_
      obtain ⟨v72, e72, h⟩ := o_b h
      refine v_mA e72 (mg hG rfl) (by decide) rfl dX12_forgetFirst_72 rfl ?_
      obtain ⟨s73, e73, h⟩ := o_b h
      refine v_mQ e73 (mg hG rfl) (by decide) rfl dX12_forgetFirst_73 rfl ?_
      refine v_aload_n 0 rfl dX12_forgetFirst_74 rfl ?_
      refine v_mR (j := 69) (mg hG rfl) (by decide) rfl qf_RX12_196 dX12_forgetFirst_75 rfl ?_
      refine v_iload_n 2 rfl dX12_forgetFirst_78 rfl ?_
      refine v_aload_n 0 rfl dX12_forgetFirst_79 rfl ?_
      refine v_mR (j := 69) (mg hG rfl) (by decide) rfl qf_RX12_196 dX12_forgetFirst_80 rfl ?_
      refine v_iload_n 2 rfl dX12_forgetFirst_83 rfl ?_
      refine v_iconst (v := (1 : Int32)) (by decide) dX12_forgetFirst_84 rfl ?_
      refine v_iadd dX12_forgetFirst_85 rfl ?_
      obtain ⟨v86, e86, h⟩ := o_b h
      refine v_mA e86 (mg hG rfl) (by decide) rfl dX12_forgetFirst_86 rfl ?_
      obtain ⟨s87, e87, h⟩ := o_b h
      refine v_mQ e87 (mg hG rfl) (by decide) rfl dX12_forgetFirst_87 rfl ?_
      refine v_iinc (v := (x2 + 1)) [(2, .int (x2 + 1)), (0, .ref (gM G 200)), (1, .int x1)] 2 rfl rfl dX12_forgetFirst_88 rfl (by decide) rfl ?_
      refine v_goto (q := 5) dX12_forgetFirst_91 (by decide) ?_
      refine v_sub [1, 2, 0] rfl ?_
      exact ih h
set_option maxRecDepth 100000 in
set_option maxHeartbeats 4000000 in
theorem k_X12_forgetFirst {G : Gm} (hG : gF G = mFl) {σ : Hp} {o : Int64} {r : Int32} {μ' : Mu} {μ : Mu} {a1 : Int32} (h : f_X12_forgetFirst μ a1 = some (r, μ')) : Ci G yX12_forgetFirst cX12_forgetFirst 3 (some .int) rm_X12_forgetFirst [.ref (gM G 200), .int a1] (σ, μ, o) r (σ, μ', o) 0 0 := by
  refine v_entI [(0, .ref (gM G 200)), (1, .int a1)] (by decide +kernel) (Nat.le_of_ble_eq_true rfl) rfl ?_
  unfold f_X12_forgetFirst at h
  refine v_bipush (v := (64 : Int32)) (by decide) dX12_forgetFirst_0 rfl ?_
  refine v_iload_n 1 rfl dX12_forgetFirst_2 rfl ?_
  refine v_imul dX12_forgetFirst_3 rfl ?_
  refine v_istore_n [(2, .int ((64 : Int32) * a1)), (0, .ref (gM G 200)), (1, .int a1)] dX12_forgetFirst_4 rfl (by decide) rfl ?_
  refine v_sub [1, 2, 0] rfl ?_
  exact l_X12_forgetFirst_5 hG _ h
def rm_X12_replied : Room := { frames := 1, cells := 0, slots := 0, locals := 22 }
set_option maxRecDepth 100000 in
set_option maxHeartbeats 4000000 in
theorem l_X12_replied_185 {G : Gm} (hG : gF G = mFl) {σ : Hp} {o : Int64} {μ' : Mu} {μ : Mu} {x1 : Int32} {x3 : Int32} {x4 : Int32} {x5 : Int32} {x6 : Int32} {x9 : Int32} (h : f_X12_replied_185 μ x1 x3 x4 x5 x6 x9 = some μ') : V G yX12_replied cX12_replied 12 none rm_X12_replied (zV G (σ, μ', o) 0 0) (σ, μ, o) 0 0 185 [(0, .ref (gM G 200)), (1, .int x1), (3, .int x3), (4, .int x4), (5, .int x5), (6, .int x6), (9, .int x9)] [] := by
  unfold f_X12_replied_185 at h
  refine v_aload_n 0 rfl dX12_replied_185 rfl ?_
  refine v_mR (j := 68) (mg hG rfl) (by decide) rfl qf_RX12_193 dX12_replied_186 rfl ?_
  refine v_iload 6 rfl dX12_replied_189 rfl ?_
  obtain ⟨v191, e191, h⟩ := o_b h
  refine v_mA e191 (mg hG rfl) (by decide) rfl dX12_replied_191 rfl ?_
  obtain ⟨v192, e192, h⟩ := o_b h
  refine v_Si (as := [.int v191]) (st := []) (c' := 0) (k' := 0) (k_X12_ones e192) mk_X12_ones qs_X12_ones qm_RX12_302 (ck rfl) rfl dX12_replied_192 rfl rfl rfl ?_
  refine v_aload_n 0 rfl dX12_replied_195 rfl ?_
  refine v_mI (j := 2) (mg hG rfl) (by decide) rfl qf_RX12_226 dX12_replied_196 rfl ?_
  refine v_icmp_le 221 dX12_replied_199 (by decide) rfl (fun c199 => ?_) (fun c199 => ?_)
  · have h := o_p c199 h
    obtain rfl := Option.some.inj h
    exact v_vret rfl (Nat.le_of_ble_eq_true rfl) (Nat.le_of_ble_eq_true rfl) dX12_replied_221
  · have h := o_n c199 h
    refine v_aload_n 0 rfl dX12_replied_202 rfl ?_
    refine v_mR (j := 68) (mg hG rfl) (by decide) rfl qf_RX12_193 dX12_replied_203 rfl ?_
    refine v_iload 6 rfl dX12_replied_206 rfl ?_
    obtain ⟨v208, e208, h⟩ := o_b h
    refine v_mA e208 (mg hG rfl) (by decide) rfl dX12_replied_208 rfl ?_
    refine v_iload_n 2 rfl dX12_replied_209 rfl ?_
    refine v_aload_n 0 rfl dX12_replied_210 rfl ?_
    refine v_mI (j := 1) (mg hG rfl) (by decide) rfl qf_RX12_223 dX12_replied_211 rfl ?_
    obtain ⟨⟨⟩, e214, h⟩ := o_b h
    refine v_irem (nz_of e214) dX12_replied_214 rfl ?_
    refine v_ishr dX12_replied_215 rfl ?_
    refine v_iconst (v := (1 : Int32)) (by decide) dX12_replied_216 rfl ?_
    refine v_iand dX12_replied_217 rfl ?_
    refine v_if_ne 222 dX12_replied_218 (by decide) rfl (fun c218 => ?_) (fun c218 => ?_)
    · have h := o_n c218 h
      refine v_aload_n 0 rfl dX12_replied_222 rfl ?_
      refine v_mR (j := 59) (mg hG rfl) (by decide) rfl qf_RX12_166 dX12_replied_223 rfl ?_
      refine v_iload_n 1 rfl dX12_replied_226 rfl ?_
      refine v_iconst (v := (2 : Int32)) (by decide) dX12_replied_227 rfl ?_
      obtain ⟨s228, e228, h⟩ := o_b h
      refine v_mQ e228 (mg hG rfl) (by decide) rfl dX12_replied_228 rfl ?_
      refine v_aload_n 0 rfl dX12_replied_229 rfl ?_
      refine v_mR (j := 60) (mg hG rfl) (by decide) rfl qf_RX12_169 dX12_replied_230 rfl ?_
      refine v_iload_n 1 rfl dX12_replied_233 rfl ?_
      refine v_iload 4 rfl dX12_replied_234 rfl ?_
      obtain ⟨s236, e236, h⟩ := o_b h
      refine v_mQ e236 (mg hG rfl) (by decide) rfl dX12_replied_236 rfl ?_
      refine v_aload_n 0 rfl dX12_replied_237 rfl ?_
      refine v_mR (j := 61) (mg hG rfl) (by decide) rfl qf_RX12_172 dX12_replied_238 rfl ?_
      refine v_iload_n 1 rfl dX12_replied_241 rfl ?_
      refine v_iload_n 2 rfl dX12_replied_242 rfl ?_
      obtain ⟨s243, e243, h⟩ := o_b h
      refine v_mQ e243 (mg hG rfl) (by decide) rfl dX12_replied_243 rfl ?_
      refine v_aload_n 0 rfl dX12_replied_244 rfl ?_
      refine v_mR (j := 62) (mg hG rfl) (by decide) rfl qf_RX12_175 dX12_replied_245 rfl ?_
      refine v_iload_n 1 rfl dX12_replied_248 rfl ?_
      refine v_iload 3 rfl dX12_replied_249 rfl ?_
      obtain ⟨s251, e251, h⟩ := o_b h
      refine v_mQ e251 (mg hG rfl) (by decide) rfl dX12_replied_251 rfl ?_
      refine v_aload_n 0 rfl dX12_replied_252 rfl ?_
      refine v_mR (j := 63) (mg hG rfl) (by decide) rfl qf_RX12_178 dX12_replied_253 rfl ?_
      refine v_iload_n 1 rfl dX12_replied_256 rfl ?_
      refine v_aload_n 0 rfl dX12_replied_257 rfl ?_
      refine v_mR (j := 69) (mg hG rfl) (by decide) rfl qf_RX12_196 dX12_replied_258 rfl ?_
      refine v_iload 6 rfl dX12_replied_261 rfl ?_
      obtain ⟨v263, e263, h⟩ := o_b h
      refine v_mA e263 (mg hG rfl) (by decide) rfl dX12_replied_263 rfl ?_
      obtain ⟨s264, e264, h⟩ := o_b h
      refine v_mQ e264 (mg hG rfl) (by decide) rfl dX12_replied_264 rfl ?_
      refine v_aload_n 0 rfl dX12_replied_265 rfl ?_
      refine v_mI (j := 70) (mg hG rfl) (by decide) rfl qf_RX12_334 dX12_replied_266 rfl ?_
      refine v_sipush (v := (200 : Int32)) (by decide) dX12_replied_269 rfl ?_
      refine v_irem (by decide) dX12_replied_272 rfl ?_
      refine v_istore [(11, .int ((s264.1 70) - (s264.1 70) / (200 : Int32) * (200 : Int32))), (0, .ref (gM G 200)), (1, .int x1), (3, .int x3), (4, .int x4), (5, .int x5), (6, .int x6), (9, .int x9)] dX12_replied_273 rfl (by decide) rfl ?_
      refine v_aload_n 1 rfl dX12_replied_275 rfl ?_
      refine v_mR (j := 71) (mg hG rfl) (by decide) rfl qf_RX12_199 dX12_replied_276 rfl ?_
      refine v_iload 0 rfl dX12_replied_279 rfl ?_
      refine v_iload 6 rfl dX12_replied_281 rfl ?_
      obtain ⟨s283, e283, h⟩ := o_b h
      refine v_mQ e283 (mg hG rfl) (by decide) rfl dX12_replied_283 rfl ?_
      refine v_aload_n 1 rfl dX12_replied_284 rfl ?_
      refine v_mR (j := 72) (mg hG rfl) (by decide) rfl qf_RX12_202 dX12_replied_285 rfl ?_
      refine v_iload 0 rfl dX12_replied_288 rfl ?_
      refine v_iload_n 3 rfl dX12_replied_290 rfl ?_
      obtain ⟨s291, e291, h⟩ := o_b h
      refine v_mQ e291 (mg hG rfl) (by decide) rfl dX12_replied_291 rfl ?_
      refine v_aload_n 1 rfl dX12_replied_292 rfl ?_
      refine v_mR (j := 73) (mg hG rfl) (by decide) rfl qf_RX12_205 dX12_replied_293 rfl ?_
      refine v_iload 0 rfl dX12_replied_296 rfl ?_
      refine v_iload 4 rfl dX12_replied_298 rfl ?_
      obtain ⟨s300, e300, h⟩ := o_b h
      refine v_mQ e300 (mg hG rfl) (by decide) rfl dX12_replied_300 rfl ?_
      refine v_aload_n 1 rfl dX12_replied_301 rfl ?_
      refine v_mR (j := 74) (mg hG rfl) (by decide) rfl qf_RX12_208 dX12_replied_302 rfl ?_
      refine v_iload 0 rfl dX12_replied_305 rfl ?_
      refine v_iload 5 rfl dX12_replied_307 rfl ?_
      obtain ⟨s309, e309, h⟩ := o_b h
      refine v_mQ e309 (mg hG rfl) (by decide) rfl dX12_replied_309 rfl ?_
      refine v_aload_n 1 rfl dX12_replied_310 rfl ?_
      refine v_mR (j := 75) (mg hG rfl) (by decide) rfl qf_RX12_211 dX12_replied_311 rfl ?_
      refine v_iload 0 rfl dX12_replied_314 rfl ?_
      refine v_aload_n 1 rfl dX12_replied_316 rfl ?_
      refine v_mR (j := 63) (mg hG rfl) (by decide) rfl qf_RX12_178 dX12_replied_317 rfl ?_
      refine v_iload_n 2 rfl dX12_replied_320 rfl ?_
      obtain ⟨v321, e321, h⟩ := o_b h
      refine v_mA e321 (mg hG rfl) (by decide) rfl dX12_replied_321 rfl ?_
      obtain ⟨s322, e322, h⟩ := o_b h
      refine v_mQ e322 (mg hG rfl) (by decide) rfl dX12_replied_322 rfl ?_
      refine v_aload_n 1 rfl dX12_replied_323 rfl ?_
      refine v_dup rfl dX12_replied_324 rfl ?_
      refine v_mI (j := 70) (mg hG rfl) (by decide) rfl qf_RX12_334 dX12_replied_325 rfl ?_
      refine v_iconst (v := (1 : Int32)) (by decide) dX12_replied_328 rfl ?_
      refine v_iadd dX12_replied_329 rfl ?_
      obtain ⟨s330, e330, h⟩ := o_b h
      refine v_mP e330 (mg hG rfl) (by decide) rfl rfl rfl rfl rfl qf_RX12_334 dX12_replied_330 rfl ?_
      obtain rfl := Option.some.inj h
      exact v_vret rfl (Nat.le_of_ble_eq_true rfl) (Nat.le_of_ble_eq_true rfl) dX12_replied_333
    · have h := o_p c218 h
      obtain rfl := Option.some.inj h
      exact v_vret rfl (Nat.le_of_ble_eq_true rfl) (Nat.le_of_ble_eq_true rfl) dX12_replied_221
set_option maxRecDepth 100000 in
set_option maxHeartbeats 4000000 in
theorem l_X12_replied_158 {G : Gm} (hG : gF G = mFl) {σ : Hp} {o : Int64} {μ' : Mu} {μ : Mu} {x1 : Int32} {x2 : Int32} {x3 : Int32} {x4 : Int32} {x5 : Int32} {x6 : Int32} {x7 : Int32} {x8 : Int32} {x9 : Int32} (h : f_X12_replied_158 μ x1 x2 x3 x4 x5 x6 x7 x8 x9 = some μ') : V G yX12_replied cX12_replied 12 none rm_X12_replied (zV G (σ, μ', o) 0 0) (σ, μ, o) 0 0 158 [(0, .ref (gM G 200)), (1, .int x1), (2, .int x2), (3, .int x3), (4, .int x4), (5, .int x5), (6, .int x6), (7, .int x7), (8, .int x8), (9, .int x9)] [] := by
  unfold f_X12_replied_158 at h
  refine v_aload_n 0 rfl dX12_replied_158 rfl ?_
  refine v_mR (j := 68) (mg hG rfl) (by decide) rfl qf_RX12_193 dX12_replied_159 rfl ?_
  refine v_iload 9 rfl dX12_replied_162 rfl ?_
  refine v_dup2 rfl rfl dX12_replied_164 rfl ?_
  obtain ⟨v165, e165, h⟩ := o_b h
  refine v_mA e165 (mg hG rfl) (by decide) rfl dX12_replied_165 rfl ?_
  refine v_iconst (v := (1 : Int32)) (by decide) dX12_replied_166 rfl ?_
  refine v_iload_n 2 rfl dX12_replied_167 rfl ?_
  refine v_ishl dX12_replied_168 rfl ?_
  refine v_ior dX12_replied_169 rfl ?_
  obtain ⟨s170, e170, h⟩ := o_b h
  refine v_mQ e170 (mg hG rfl) (by decide) rfl dX12_replied_170 rfl ?_
  refine v_iload 7 rfl dX12_replied_171 rfl ?_
  refine v_if_eq 185 dX12_replied_173 (by decide) rfl (fun c173 => ?_) (fun c173 => ?_)
  · have h := o_p c173 h
    refine v_sub [0, 1, 3, 4, 5, 6, 9] rfl ?_
    exact l_X12_replied_185 hG h
  · have h := o_n c173 h
    refine v_aload_n 0 rfl dX12_replied_176 rfl ?_
    refine v_mR (j := 69) (mg hG rfl) (by decide) rfl qf_RX12_196 dX12_replied_177 rfl ?_
    refine v_iload 9 rfl dX12_replied_180 rfl ?_
    refine v_iload 8 rfl dX12_replied_182 rfl ?_
    obtain ⟨s184, e184, h⟩ := o_b h
    refine v_mQ e184 (mg hG rfl) (by decide) rfl dX12_replied_184 rfl ?_
    refine v_sub [0, 1, 3, 4, 5, 6, 9] rfl ?_
    exact l_X12_replied_185 hG h
set_option maxRecDepth 100000 in
set_option maxHeartbeats 4000000 in
theorem l_X12_replied_114 {G : Gm} (hG : gF G = mFl) {σ : Hp} {o : Int64} {μ' : Mu} {μ : Mu} {x1 : Int32} {x2 : Int32} {x3 : Int32} {x4 : Int32} {x5 : Int32} {x6 : Int32} {x7 : Int32} {x8 : Int32} {x9 : Int32} (h : f_X12_replied_114 μ x1 x2 x3 x4 x5 x6 x7 x8 x9 = some μ') : V G yX12_replied cX12_replied 12 none rm_X12_replied (zV G (σ, μ', o) 0 0) (σ, μ, o) 0 0 114 [(0, .ref (gM G 200)), (1, .int x1), (2, .int x2), (3, .int x3), (4, .int x4), (5, .int x5), (6, .int x6), (7, .int x7), (8, .int x8), (9, .int x9)] [] := by
  unfold f_X12_replied_114 at h
  refine v_aload_n 0 rfl dX12_replied_114 rfl ?_
  refine v_mR (j := 64) (mg hG rfl) (by decide) rfl qf_RX12_181 dX12_replied_115 rfl ?_
  refine v_iload_n 1 rfl dX12_replied_118 rfl ?_
  refine v_dup2 rfl rfl dX12_replied_119 rfl ?_
  obtain ⟨v120, e120, h⟩ := o_b h
  refine v_mA e120 (mg hG rfl) (by decide) rfl dX12_replied_120 rfl ?_
  refine v_iconst (v := (1 : Int32)) (by decide) dX12_replied_121 rfl ?_
  refine v_iadd dX12_replied_122 rfl ?_
  obtain ⟨s123, e123, h⟩ := o_b h
  refine v_mQ e123 (mg hG rfl) (by decide) rfl dX12_replied_123 rfl ?_
  refine v_aload_n 0 rfl dX12_replied_124 rfl ?_
  refine v_mR (j := 65) (mg hG rfl) (by decide) rfl qf_RX12_184 dX12_replied_125 rfl ?_
  refine v_iload 9 rfl dX12_replied_128 rfl ?_
  refine v_iload_n 3 rfl dX12_replied_130 rfl ?_
  obtain ⟨s131, e131, h⟩ := o_b h
  refine v_mQ e131 (mg hG rfl) (by decide) rfl dX12_replied_131 rfl ?_
  refine v_aload_n 0 rfl dX12_replied_132 rfl ?_
  refine v_mR (j := 66) (mg hG rfl) (by decide) rfl qf_RX12_187 dX12_replied_133 rfl ?_
  refine v_iload 9 rfl dX12_replied_136 rfl ?_
  refine v_iload 4 rfl dX12_replied_138 rfl ?_
  obtain ⟨s140, e140, h⟩ := o_b h
  refine v_mQ e140 (mg hG rfl) (by decide) rfl dX12_replied_140 rfl ?_
  refine v_aload_n 0 rfl dX12_replied_141 rfl ?_
  refine v_mR (j := 67) (mg hG rfl) (by decide) rfl qf_RX12_190 dX12_replied_142 rfl ?_
  refine v_iload 9 rfl dX12_replied_145 rfl ?_
  refine v_iload 5 rfl dX12_replied_147 rfl ?_
  obtain ⟨s149, e149, h⟩ := o_b h
  refine v_mQ e149 (mg hG rfl) (by decide) rfl dX12_replied_149 rfl ?_
  refine v_aload_n 0 rfl dX12_replied_150 rfl ?_
  refine v_mR (j := 68) (mg hG rfl) (by decide) rfl qf_RX12_193 dX12_replied_151 rfl ?_
  refine v_iload 9 rfl dX12_replied_154 rfl ?_
  refine v_iconst (v := (0 : Int32)) (by decide) dX12_replied_156 rfl ?_
  obtain ⟨s157, e157, h⟩ := o_b h
  refine v_mQ e157 (mg hG rfl) (by decide) rfl dX12_replied_157 rfl ?_
  exact l_X12_replied_158 hG h
set_option maxRecDepth 100000 in
set_option maxHeartbeats 4000000 in
theorem l_X12_replied_89 {G : Gm} (hG : gF G = mFl) {σ : Hp} {o : Int64} {μ' : Mu} {μ : Mu} {x1 : Int32} {x2 : Int32} {x3 : Int32} {x4 : Int32} {x5 : Int32} {x6 : Int32} {x7 : Int32} {x8 : Int32} {x9 : Int32} {x10 : Int32} (h : f_X12_replied_89 μ x1 x2 x3 x4 x5 x6 x7 x8 x9 x10 = some μ') : V G yX12_replied cX12_replied 12 none rm_X12_replied (zV G (σ, μ', o) 0 0) (σ, μ, o) 0 0 89 [(0, .ref (gM G 200)), (1, .int x1), (2, .int x2), (3, .int x3), (4, .int x4), (5, .int x5), (6, .int x6), (7, .int x7), (8, .int x8), (9, .int x9), (10, .int x10)] [] := by
  unfold f_X12_replied_89 at h
  refine v_iload 9 rfl dX12_replied_89 rfl ?_
  refine v_iload 10 rfl dX12_replied_91 rfl ?_
  refine v_icmp_ne 158 dX12_replied_93 (by decide) rfl (fun c93 => ?_) (fun c93 => ?_)
  · have h := o_n c93 h
    refine v_sub [0, 1, 2, 3, 4, 5, 6, 7, 8, 9] rfl ?_
    exact l_X12_replied_158 hG h
  · have h := o_p c93 h
    refine v_aload_n 0 rfl dX12_replied_96 rfl ?_
    refine v_mR (j := 64) (mg hG rfl) (by decide) rfl qf_RX12_181 dX12_replied_97 rfl ?_
    refine v_iload_n 1 rfl dX12_replied_100 rfl ?_
    obtain ⟨v101, e101, h⟩ := o_b h
    refine v_mA e101 (mg hG rfl) (by decide) rfl dX12_replied_101 rfl ?_
    refine v_bipush (v := (64 : Int32)) (by decide) dX12_replied_102 rfl ?_
    refine v_icmp_ne 114 dX12_replied_104 (by decide) rfl (fun c104 => ?_) (fun c104 => ?_)
    · have h := o_n c104 h
      refine v_sub [0, 1, 2, 3, 4, 5, 6, 7, 8, 9] rfl ?_
      exact l_X12_replied_114 hG h
    · have h := o_p c104 h
      refine v_aload_n 0 rfl dX12_replied_107 rfl ?_
      refine v_iload_n 1 rfl dX12_replied_108 rfl ?_
      obtain ⟨v109, e109, h⟩ := o_b h
      refine v_Vi (as := [.int x1]) (st := []) (c' := 0) (k' := 0) (k_X12_forgetFirst hG e109) (rcv_m (mg hG rfl)) mk_X12_forgetFirst qi_X12_forgetFirst qe_X12_forgetFirst qm_RX12_331 (ck rfl) rfl dX12_replied_109 rfl rfl rfl ?_
      refine v_istore [(9, .int v109.1), (0, .ref (gM G 200)), (1, .int x1), (2, .int x2), (3, .int x3), (4, .int x4), (5, .int x5), (6, .int x6), (7, .int x7), (8, .int x8), (10, .int x10)] dX12_replied_112 rfl (by decide) rfl ?_
      refine v_sub [1, 2, 3, 4, 5, 6, 7, 8, 9, 0] rfl ?_
      exact l_X12_replied_114 hG h
set_option maxRecDepth 100000 in
set_option maxHeartbeats 4000000 in
theorem l_X12_replied_83 {G : Gm} (hG : gF G = mFl) {σ : Hp} {o : Int64} {μ' : Mu} {rec41 : Mu → Int32 → Int32 → Int32 → Int32 → Int32 → Int32 → Int32 → Int32 → Int32 → Int32 → Option Mu} (h41 : ∀ {μ : Mu} {x1 : Int32} {x2 : Int32} {x3 : Int32} {x4 : Int32} {x5 : Int32} {x6 : Int32} {x7 : Int32} {x8 : Int32} {x9 : Int32} {x10 : Int32} , rec41 μ x1 x2 x3 x4 x5 x6 x7 x8 x9 x10 = some μ' → V G yX12_replied cX12_replied 12 none rm_X12_replied (zV G (σ, μ', o) 0 0) (σ, μ, o) 0 0 41 [(0, .ref (gM G 200)), (1, .int x1), (2, .int x2), (3, .int x3), (4, .int x4), (5, .int x5), (6, .int x6), (7, .int x7), (8, .int x8), (9, .int x9), (10, .int x10)] []) {μ : Mu} {x1 : Int32} {x2 : Int32} {x3 : Int32} {x4 : Int32} {x5 : Int32} {x6 : Int32} {x7 : Int32} {x8 : Int32} {x9 : Int32} {x10 : Int32} (h : f_X12_replied_83 rec41 μ x1 x2 x3 x4 x5 x6 x7 x8 x9 x10 = some μ') : V G yX12_replied cX12_replied 12 none rm_X12_replied (zV G (σ, μ', o) 0 0) (σ, μ, o) 0 0 83 [(0, .ref (gM G 200)), (1, .int x1), (2, .int x2), (3, .int x3), (4, .int x4), (5, .int x5), (6, .int x6), (7, .int x7), (8, .int x8), (9, .int x9), (10, .int x10)] [] := by
  unfold f_X12_replied_83 at h
  refine v_iinc (v := (x9 + 1)) [(9, .int (x9 + 1)), (0, .ref (gM G 200)), (1, .int x1), (2, .int x2), (3, .int x3), (4, .int x4), (5, .int x5), (6, .int x6), (7, .int x7), (8, .int x8), (10, .int x10)] 9 rfl rfl dX12_replied_83 rfl (by decide) rfl ?_
  refine v_goto (q := 41) dX12_replied_86 (by decide) ?_
  refine v_sub [1, 2, 3, 4, 5, 6, 7, 8, 9, 0, 10] rfl ?_
  exact h41 h
set_option maxRecDepth 100000 in
set_option maxHeartbeats 4000000 in
theorem l_X12_replied_41 {G : Gm} (hG : gF G = mFl) {σ : Hp} {o : Int64} {μ' : Mu} : ∀ (n : Nat) {μ : Mu} {x1 : Int32} {x2 : Int32} {x3 : Int32} {x4 : Int32} {x5 : Int32} {x6 : Int32} {x7 : Int32} {x8 : Int32} {x9 : Int32} {x10 : Int32} , f_X12_replied_41 n μ x1 x2 x3 x4 x5 x6 x7 x8 x9 x10 = some μ' → V G yX12_replied cX12_replied 12 none rm_X12_replied (zV G (σ, μ', o) 0 0) (σ, μ, o) 0 0 41 [(0, .ref (gM G 200)), (1, .int x1), (2, .int x2), (3, .int x3), (4, .int x4), (5, .int x5), (6, .int x6), (7, .int x7), (8, .int x8), (9, .int x9), (10, .int x10)] [] := by
  intro n
  induction n with
  | zero => intro _ _ _ _ _ _ _ _ _ _ _ h; cases h
  | succ n ih =>
    intro μ x1 x2 x3 x4 x5 x6 x7 x8 x9 x10 h
    replace h : b_X12_replied_41 (f_X12_replied_41 n) μ x1 x2 x3 x4 x5 x6 x7 x8 x9 x10 = some μ' := h
    unfold b_X12_replied_41 at h
    refine v_iload 9 rfl dX12_replied_41 rfl ?_
    refine v_iload 10 rfl dX12_replied_43 rfl ?_
    refine v_icmp_ge 89 dX12_replied_45 (by decide) rfl (fun c45 => ?_) (fun c45 => ?_)
    · have h := o_p c45 h
      exact l_X12_replied_89 hG h
    · have h := o_n c45 h
      refine v_aload_n 0 rfl dX12_replied_48 rfl ?_
      refine v_mR (j := 65) (mg hG rfl) (by decide) rfl qf_RX12_184 dX12_replied_49 rfl ?_
      refine v_iload 9 rfl dX12_replied_52 rfl ?_
      obtain ⟨v54, e54, h⟩ := o_b h
      refine v_mA e54 (mg hG rfl) (by decide) rfl dX12_replied_54 rfl ?_
      refine v_iload_n 3 rfl dX12_replied_55 rfl ?_
      refine v_icmp_ne 83 dX12_replied_56 (by decide) rfl (fun c56 => ?_) (fun c56 => ?_)
      · have h := o_n c56 h
        exact l_X12_replied_83 hG (fun h => ih h) h
      · have h := o_p c56 h
        refine v_aload_n 0 rfl dX12_replied_59 rfl ?_
        refine v_mR (j := 66) (mg hG rfl) (by decide) rfl qf_RX12_187 dX12_replied_60 rfl ?_
        refine v_iload 9 rfl dX12_replied_63 rfl ?_
        obtain ⟨v65, e65, h⟩ := o_b h
        refine v_mA e65 (mg hG rfl) (by decide) rfl dX12_replied_65 rfl ?_
        refine v_iload 4 rfl dX12_replied_66 rfl ?_
        refine v_icmp_ne 83 dX12_replied_68 (by decide) rfl (fun c68 => ?_) (fun c68 => ?_)
        · have h := o_n c68 h
          exact l_X12_replied_83 hG (fun h => ih h) h
        · have h := o_p c68 h
          refine v_aload_n 0 rfl dX12_replied_71 rfl ?_
          refine v_mR (j := 67) (mg hG rfl) (by decide) rfl qf_RX12_190 dX12_replied_72 rfl ?_
          refine v_iload 9 rfl dX12_replied_75 rfl ?_
          obtain ⟨v77, e77, h⟩ := o_b h
          refine v_mA e77 (mg hG rfl) (by decide) rfl dX12_replied_77 rfl ?_
          refine v_iload 5 rfl dX12_replied_78 rfl ?_
          refine v_icmp_eq 89 dX12_replied_80 (by decide) rfl (fun c80 => ?_) (fun c80 => ?_)
          · have h := o_p c80 h
            exact l_X12_replied_89 hG h
          · have h := o_n c80 h
            exact l_X12_replied_83 hG (fun h => ih h) h
set_option maxRecDepth 100000 in
set_option maxHeartbeats 4000000 in
theorem k_X12_replied {G : Gm} (hG : gF G = mFl) {σ : Hp} {o : Int64} {μ' : Mu} {μ : Mu} {a1 : Int32} {a2 : Int32} {a3 : Int32} {a4 : Int32} {a5 : Int32} {a6 : Int32} {a7 : Int32} {a8 : Int32} (h : f_X12_replied μ a1 a2 a3 a4 a5 a6 a7 a8 = some μ') : Cv G yX12_replied cX12_replied 12 none rm_X12_replied [.ref (gM G 200), .int a1, .int a2, .int a3, .int a4, .int a5, .int a6, .int a7, .int a8] (σ, μ, o) (σ, μ', o) 0 0 := by
  refine v_entV [(0, .ref (gM G 200)), (1, .int a1), (2, .int a2), (3, .int a3), (4, .int a4), (5, .int a5), (6, .int a6), (7, .int a7), (8, .int a8)] (by decide +kernel) (Nat.le_of_ble_eq_true rfl) rfl ?_
  unfold f_X12_replied at h
  refine v_aload_n 0 rfl dX12_replied_0 rfl ?_
  refine v_mR (j := 59) (mg hG rfl) (by decide) rfl qf_RX12_166 dX12_replied_1 rfl ?_
  refine v_iload_n 1 rfl dX12_replied_4 rfl ?_
  obtain ⟨v5, e5, h⟩ := o_b h
  refine v_mA e5 (mg hG rfl) (by decide) rfl dX12_replied_5 rfl ?_
  refine v_iconst (v := (1 : Int32)) (by decide) dX12_replied_6 rfl ?_
  refine v_icmp_ne 21 dX12_replied_7 (by decide) rfl (fun c7 => ?_) (fun c7 => ?_)
  · have h := o_n c7 h
    obtain rfl := Option.some.inj h
    exact v_vret rfl (Nat.le_of_ble_eq_true rfl) (Nat.le_of_ble_eq_true rfl) dX12_replied_21
  · have h := o_p c7 h
    refine v_aload_n 0 rfl dX12_replied_10 rfl ?_
    refine v_mR (j := 58) (mg hG rfl) (by decide) rfl qf_RX12_163 dX12_replied_11 rfl ?_
    refine v_iload_n 1 rfl dX12_replied_14 rfl ?_
    obtain ⟨v15, e15, h⟩ := o_b h
    refine v_mA e15 (mg hG rfl) (by decide) rfl dX12_replied_15 rfl ?_
    refine v_iload 6 rfl dX12_replied_16 rfl ?_
    refine v_icmp_eq 22 dX12_replied_18 (by decide) rfl (fun c18 => ?_) (fun c18 => ?_)
    · have h := o_p c18 h
      refine v_bipush (v := (64 : Int32)) (by decide) dX12_replied_22 rfl ?_
      refine v_iload_n 1 rfl dX12_replied_24 rfl ?_
      refine v_imul dX12_replied_25 rfl ?_
      refine v_istore [(9, .int ((64 : Int32) * a1)), (0, .ref (gM G 200)), (1, .int a1), (2, .int a2), (3, .int a3), (4, .int a4), (5, .int a5), (6, .int a6), (7, .int a7), (8, .int a8)] dX12_replied_26 rfl (by decide) rfl ?_
      refine v_bipush (v := (64 : Int32)) (by decide) dX12_replied_28 rfl ?_
      refine v_iload_n 2 rfl dX12_replied_30 rfl ?_
      refine v_imul dX12_replied_31 rfl ?_
      refine v_aload_n 1 rfl dX12_replied_32 rfl ?_
      refine v_mR (j := 64) (mg hG rfl) (by decide) rfl qf_RX12_181 dX12_replied_33 rfl ?_
      refine v_iload_n 2 rfl dX12_replied_36 rfl ?_
      obtain ⟨v37, e37, h⟩ := o_b h
      refine v_mA e37 (mg hG rfl) (by decide) rfl dX12_replied_37 rfl ?_
      refine v_iadd dX12_replied_38 rfl ?_
      refine v_istore [(10, .int (((64 : Int32) * a1) + v37)), (9, .int ((64 : Int32) * a1)), (0, .ref (gM G 200)), (1, .int a1), (2, .int a2), (3, .int a3), (4, .int a4), (5, .int a5), (6, .int a6), (7, .int a7), (8, .int a8)] dX12_replied_39 rfl (by decide) rfl ?_
      refine v_sub [2, 3, 4, 5, 6, 7, 8, 9, 10, 1, 0] rfl ?_
      exact l_X12_replied_41 hG _ h
    · have h := o_n c18 h
      obtain rfl := Option.some.inj h
      exact v_vret rfl (Nat.le_of_ble_eq_true rfl) (Nat.le_of_ble_eq_true rfl) dX12_replied_21
def rm_X12_inView : Room := { frames := 4, cells := 0, slots := 0, locals := 99 }
set_option maxRecDepth 100000 in
set_option maxHeartbeats 4000000 in
theorem k_X12_inView {G : Gm} (hG : gF G = mFl) {σ : Hp} {o : Int64} {μ' : Mu} {μ : Mu} {a1 : Int32} {a2 : Int32} {a3 : Int32} {a4 : Int32} {a5 : Int32} (h : f_X12_inView μ a1 a2 a3 a4 a5 = some μ') : Cv G yX12_inView cX12_inView 6 none rm_X12_inView [.ref (gM G 200), .int a1, .int a2, .int a3, .int a4, .int a5] (σ, μ, o) (σ, μ', o) 0 0 := by
  refine v_entV [(0, .ref (gM G 200)), (1, .int a1), (2, .int a2), (3, .int a3), (4, .int a4), (5, .int a5)] (by decide +kernel) (Nat.le_of_ble_eq_true rfl) rfl ?_
  unfold f_X12_inView at h
  refine v_iload_n 1 rfl dX12_inView_0 rfl ?_
  by_cases c1_0 : a1 = (1 : Int32)
  · have h := o_p c1_0 h
    refine v_tableIn 40 dX12_inView_1 (by rw [c1_0]; decide) (by rw [c1_0]; decide) (by rw [c1_0]; rfl) (by decide) ?_
    refine v_aload_n 0 rfl dX12_inView_40 rfl ?_
    refine v_iload_n 2 rfl dX12_inView_41 rfl ?_
    refine v_iload_n 3 rfl dX12_inView_42 rfl ?_
    refine v_iload 4 rfl dX12_inView_43 rfl ?_
    obtain ⟨v45, e45, h⟩ := o_b h
    refine v_Vv (as := [.int a2, .int a3, .int a4]) (st := []) (c' := 0) (k' := 0) (k_X12_lookup hG e45) (rcv_m (mg hG rfl)) mk_X12_lookup qi_X12_lookup qe_X12_lookup qm_RX12_337 (ck rfl) rfl dX12_inView_45 rfl rfl rfl ?_
    refine v_goto (q := 191) dX12_inView_48 (by decide) ?_
    obtain rfl := Option.some.inj h
    exact v_vret rfl (Nat.le_of_ble_eq_true rfl) (Nat.le_of_ble_eq_true rfl) dX12_inView_191
  replace h := o_n c1_0 h
  by_cases c1_1 : a1 = (2 : Int32)
  · have h := o_p c1_1 h
    refine v_tableIn 51 dX12_inView_1 (by rw [c1_1]; decide) (by rw [c1_1]; decide) (by rw [c1_1]; rfl) (by decide) ?_
    refine v_aload_n 0 rfl dX12_inView_51 rfl ?_
    refine v_mR (j := 35) (mg hG rfl) (by decide) rfl qf_RX12_94 dX12_inView_52 rfl ?_
    refine v_iload_n 2 rfl dX12_inView_55 rfl ?_
    obtain ⟨v56, e56, h⟩ := o_b h
    refine v_mA e56 (mg hG rfl) (by decide) rfl dX12_inView_56 rfl ?_
    refine v_if_ne 191 dX12_inView_57 (by decide) rfl (fun c57 => ?_) (fun c57 => ?_)
    · have h := o_n c57 h
      obtain rfl := Option.some.inj h
      exact v_vret rfl (Nat.le_of_ble_eq_true rfl) (Nat.le_of_ble_eq_true rfl) dX12_inView_191
    · have h := o_p c57 h
      refine v_iload 4 rfl dX12_inView_60 rfl ?_
      refine v_aload_n 0 rfl dX12_inView_62 rfl ?_
      refine v_mR (j := 38) (mg hG rfl) (by decide) rfl qf_RX12_103 dX12_inView_63 rfl ?_
      refine v_iload_n 2 rfl dX12_inView_66 rfl ?_
      obtain ⟨v67, e67, h⟩ := o_b h
      refine v_mA e67 (mg hG rfl) (by decide) rfl dX12_inView_67 rfl ?_
      refine v_iconst (v := (1 : Int32)) (by decide) dX12_inView_68 rfl ?_
      refine v_iadd dX12_inView_69 rfl ?_
      refine v_icmp_eq 76 dX12_inView_70 (by decide) rfl (fun c70 => ?_) (fun c70 => ?_)
      · have h := o_p c70 h
        refine v_aload_n 0 rfl dX12_inView_76 rfl ?_
        refine v_iload_n 2 rfl dX12_inView_77 rfl ?_
        refine v_iload 4 rfl dX12_inView_78 rfl ?_
        refine v_aload_n 0 rfl dX12_inView_80 rfl ?_
        refine v_mR (j := 39) (mg hG rfl) (by decide) rfl qf_RX12_106 dX12_inView_81 rfl ?_
        refine v_iload_n 2 rfl dX12_inView_84 rfl ?_
        obtain ⟨v85, e85, h⟩ := o_b h
        refine v_mA e85 (mg hG rfl) (by decide) rfl dX12_inView_85 rfl ?_
        refine v_isub dX12_inView_86 rfl ?_
        refine v_iload 5 rfl dX12_inView_87 rfl ?_
        obtain ⟨v89, e89, h⟩ := o_b h
        refine v_Vv (as := [.int a2, .int (a4 - v85), .int a5]) (st := []) (c' := 0) (k' := 0) (k_X12_hold hG e89) (rcv_m (mg hG rfl)) mk_X12_hold qi_X12_hold qe_X12_hold qm_RX12_315 (ck rfl) rfl dX12_inView_89 rfl rfl rfl ?_
        refine v_aload_n 0 rfl dX12_inView_92 rfl ?_
        refine v_iload_n 2 rfl dX12_inView_93 rfl ?_
        obtain ⟨v94, e94, h⟩ := o_b h
        refine v_Vv (as := [.int a2]) (st := []) (c' := 0) (k' := 0) (k_X12_take hG e94) (rcv_m (mg hG rfl)) mk_X12_take qi_X12_take qe_X12_take qm_RX12_318 (ck rfl) rfl dX12_inView_94 rfl rfl rfl ?_
        refine v_goto (q := 191) dX12_inView_97 (by decide) ?_
        obtain rfl := Option.some.inj h
        exact v_vret rfl (Nat.le_of_ble_eq_true rfl) (Nat.le_of_ble_eq_true rfl) dX12_inView_191
      · have h := o_n c70 h
        refine v_goto (q := 191) dX12_inView_73 (by decide) ?_
        obtain rfl := Option.some.inj h
        exact v_vret rfl (Nat.le_of_ble_eq_true rfl) (Nat.le_of_ble_eq_true rfl) dX12_inView_191
  replace h := o_n c1_1 h
  by_cases c1_2 : a1 = (3 : Int32)
  · have h := o_p c1_2 h
    refine v_tableIn 100 dX12_inView_1 (by rw [c1_2]; decide) (by rw [c1_2]; decide) (by rw [c1_2]; rfl) (by decide) ?_
    refine v_aload_n 0 rfl dX12_inView_100 rfl ?_
    refine v_iload_n 2 rfl dX12_inView_101 rfl ?_
    refine v_iload_n 3 rfl dX12_inView_102 rfl ?_
    refine v_iload 4 rfl dX12_inView_103 rfl ?_
    obtain ⟨v105, e105, h⟩ := o_b h
    refine v_Vv (as := [.int a2, .int a3, .int a4]) (st := []) (c' := 0) (k' := 0) (k_X12_gapCommit hG e105) (rcv_m (mg hG rfl)) mk_X12_gapCommit qi_X12_gapCommit qe_X12_gapCommit qm_RX12_340 (ck rfl) rfl dX12_inView_105 rfl rfl rfl ?_
    refine v_goto (q := 191) dX12_inView_108 (by decide) ?_
    obtain rfl := Option.some.inj h
    exact v_vret rfl (Nat.le_of_ble_eq_true rfl) (Nat.le_of_ble_eq_true rfl) dX12_inView_191
  replace h := o_n c1_2 h
  by_cases c1_3 : a1 = (4 : Int32)
  · have h := o_p c1_3 h
    refine v_tableIn 111 dX12_inView_1 (by rw [c1_3]; decide) (by rw [c1_3]; decide) (by rw [c1_3]; rfl) (by decide) ?_
    refine v_aload_n 0 rfl dX12_inView_111 rfl ?_
    refine v_iload_n 2 rfl dX12_inView_112 rfl ?_
    refine v_iload_n 3 rfl dX12_inView_113 rfl ?_
    refine v_iload 4 rfl dX12_inView_114 rfl ?_
    obtain ⟨v116, e116, h⟩ := o_b h
    refine v_Vv (as := [.int a2, .int a3, .int a4]) (st := []) (c' := 0) (k' := 0) (k_X12_gapReply hG e116) (rcv_m (mg hG rfl)) mk_X12_gapReply qi_X12_gapReply qe_X12_gapReply qm_RX12_343 (ck rfl) rfl dX12_inView_116 rfl rfl rfl ?_
    refine v_goto (q := 191) dX12_inView_119 (by decide) ?_
    obtain rfl := Option.some.inj h
    exact v_vret rfl (Nat.le_of_ble_eq_true rfl) (Nat.le_of_ble_eq_true rfl) dX12_inView_191
  replace h := o_n c1_3 h
  by_cases c1_4 : a1 = (5 : Int32)
  · have h := o_p c1_4 h
    refine v_tableIn 122 dX12_inView_1 (by rw [c1_4]; decide) (by rw [c1_4]; decide) (by rw [c1_4]; rfl) (by decide) ?_
    refine v_aload_n 0 rfl dX12_inView_122 rfl ?_
    refine v_iload_n 2 rfl dX12_inView_123 rfl ?_
    refine v_iload 4 rfl dX12_inView_124 rfl ?_
    obtain ⟨v126, e126, h⟩ := o_b h
    refine v_Vv (as := [.int a2, .int a4]) (st := []) (c' := 0) (k' := 0) (k_X12_sync hG e126) (rcv_m (mg hG rfl)) mk_X12_sync qi_X12_sync qe_X12_sync qm_RX12_346 (ck rfl) rfl dX12_inView_126 rfl rfl rfl ?_
    refine v_goto (q := 191) dX12_inView_129 (by decide) ?_
    obtain rfl := Option.some.inj h
    exact v_vret rfl (Nat.le_of_ble_eq_true rfl) (Nat.le_of_ble_eq_true rfl) dX12_inView_191
  replace h := o_n c1_4 h
  by_cases c1_5 : a1 = (6 : Int32)
  · have h := o_p c1_5 h
    refine v_tableIn 132 dX12_inView_1 (by rw [c1_5]; decide) (by rw [c1_5]; decide) (by rw [c1_5]; rfl) (by decide) ?_
    refine v_aload_n 0 rfl dX12_inView_132 rfl ?_
    refine v_iload_n 2 rfl dX12_inView_133 rfl ?_
    refine v_iload_n 3 rfl dX12_inView_134 rfl ?_
    refine v_iload 4 rfl dX12_inView_135 rfl ?_
    obtain ⟨v137, e137, h⟩ := o_b h
    refine v_Vv (as := [.int a2, .int a3, .int a4]) (st := []) (c' := 0) (k' := 0) (k_X12_syncReply hG e137) (rcv_m (mg hG rfl)) mk_X12_syncReply qi_X12_syncReply qe_X12_syncReply qm_RX12_349 (ck rfl) rfl dX12_inView_137 rfl rfl rfl ?_
    refine v_goto (q := 191) dX12_inView_140 (by decide) ?_
    obtain rfl := Option.some.inj h
    exact v_vret rfl (Nat.le_of_ble_eq_true rfl) (Nat.le_of_ble_eq_true rfl) dX12_inView_191
  replace h := o_n c1_5 h
  refine v_tableOut 143 dX12_inView_1 (sw_out 1 6 (fun i h1 h2 => by rcases (show i = 1 ∨ i = 2 ∨ i = 3 ∨ i = 4 ∨ i = 5 ∨ i = 6 by omega) with rfl | rfl | rfl | rfl | rfl | rfl <;> first | exact c1_0 | exact c1_1 | exact c1_2 | exact c1_3 | exact c1_4 | exact c1_5)) (by decide) ?_
  refine v_aload_n 0 rfl dX12_inView_143 rfl ?_
  refine v_iload_n 2 rfl dX12_inView_144 rfl ?_
  obtain ⟨v145, e145, h⟩ := o_b h
  refine v_Vi (as := [.int a2]) (st := []) (c' := 0) (k' := 0) (k_X12_leads hG e145) (rcv_m (mg hG rfl)) mk_X12_leads qi_X12_leads qe_X12_leads qm_RX12_248 (ck rfl) rfl dX12_inView_145 rfl rfl rfl ?_
  refine v_if_ne 191 dX12_inView_148 (by decide) rfl (fun c148 => ?_) (fun c148 => ?_)
  · have h := o_n c148 h
    obtain rfl := Option.some.inj h
    exact v_vret rfl (Nat.le_of_ble_eq_true rfl) (Nat.le_of_ble_eq_true rfl) dX12_inView_191
  · have h := o_p c148 h
    refine v_aload_n 0 rfl dX12_inView_151 rfl ?_
    refine v_mR (j := 35) (mg hG rfl) (by decide) rfl qf_RX12_94 dX12_inView_152 rfl ?_
    refine v_iload_n 2 rfl dX12_inView_155 rfl ?_
    obtain ⟨v156, e156, h⟩ := o_b h
    refine v_mA e156 (mg hG rfl) (by decide) rfl dX12_inView_156 rfl ?_
    refine v_iconst (v := (2 : Int32)) (by decide) dX12_inView_157 rfl ?_
    refine v_icmp_eq 191 dX12_inView_158 (by decide) rfl (fun c158 => ?_) (fun c158 => ?_)
    · have h := o_p c158 h
      obtain rfl := Option.some.inj h
      exact v_vret rfl (Nat.le_of_ble_eq_true rfl) (Nat.le_of_ble_eq_true rfl) dX12_inView_191
    · have h := o_n c158 h
      refine v_iload 4 rfl dX12_inView_161 rfl ?_
      refine v_aload_n 0 rfl dX12_inView_163 rfl ?_
      refine v_mR (j := 40) (mg hG rfl) (by decide) rfl qf_RX12_109 dX12_inView_164 rfl ?_
      refine v_iload_n 2 rfl dX12_inView_167 rfl ?_
      obtain ⟨v168, e168, h⟩ := o_b h
      refine v_mA e168 (mg hG rfl) (by decide) rfl dX12_inView_168 rfl ?_
      refine v_icmp_le 191 dX12_inView_169 (by decide) rfl (fun c169 => ?_) (fun c169 => ?_)
      · have h := o_p c169 h
        obtain rfl := Option.some.inj h
        exact v_vret rfl (Nat.le_of_ble_eq_true rfl) (Nat.le_of_ble_eq_true rfl) dX12_inView_191
      · have h := o_n c169 h
        refine v_aload_n 0 rfl dX12_inView_172 rfl ?_
        refine v_mR (j := 41) (mg hG rfl) (by decide) rfl qf_RX12_112 dX12_inView_173 rfl ?_
        refine v_iload_n 2 rfl dX12_inView_176 rfl ?_
        obtain ⟨v177, e177, h⟩ := o_b h
        refine v_mA e177 (mg hG rfl) (by decide) rfl dX12_inView_177 rfl ?_
        refine v_iload 4 rfl dX12_inView_178 rfl ?_
        refine v_icmp_lt 191 dX12_inView_180 (by decide) rfl (fun c180 => ?_) (fun c180 => ?_)
        · have h := o_p c180 h
          obtain rfl := Option.some.inj h
          exact v_vret rfl (Nat.le_of_ble_eq_true rfl) (Nat.le_of_ble_eq_true rfl) dX12_inView_191
        · have h := o_n c180 h
          refine v_aload_n 0 rfl dX12_inView_183 rfl ?_
          refine v_mR (j := 40) (mg hG rfl) (by decide) rfl qf_RX12_109 dX12_inView_184 rfl ?_
          refine v_iload_n 2 rfl dX12_inView_187 rfl ?_
          refine v_iload 4 rfl dX12_inView_188 rfl ?_
          obtain ⟨s190, e190, h⟩ := o_b h
          refine v_mQ e190 (mg hG rfl) (by decide) rfl dX12_inView_190 rfl ?_
          obtain rfl := Option.some.inj h
          exact v_vret rfl (Nat.le_of_ble_eq_true rfl) (Nat.le_of_ble_eq_true rfl) dX12_inView_191
def rm_X12_arrive : Room := { frames := 5, cells := 0, slots := 0, locals := 128 }
set_option maxRecDepth 100000 in
set_option maxHeartbeats 4000000 in
theorem l_X12_arrive_88 {G : Gm} (hG : gF G = mFl) {σ : Hp} {o : Int64} {μ' : Mu} {μ : Mu} {x2 : Int32} {x3 : Int32} {x4 : Int32} {x5 : Int32} {x6 : Int32} {x7 : Int32} {x8 : Int32} (h : f_X12_arrive_88 μ x2 x3 x4 x5 x6 x7 x8 = some μ') : V G yX12_arrive cX12_arrive 10 none rm_X12_arrive (zV G (σ, μ', o) 0 0) (σ, μ, o) 0 0 88 [(0, .ref (gM G 200)), (2, .int x2), (3, .int x3), (4, .int x4), (5, .int x5), (6, .int x6), (7, .int x7), (8, .int x8)] [] := by
  unfold f_X12_arrive_88 at h
  refine v_iload_n 2 rfl dX12_arrive_88 rfl ?_
  refine v_bipush (v := (11 : Int32)) (by decide) dX12_arrive_89 rfl ?_
  refine v_icmp_ne 131 dX12_arrive_91 (by decide) rfl (fun c91 => ?_) (fun c91 => ?_)
  · have h := o_n c91 h
    refine v_aload_n 0 rfl dX12_arrive_131 rfl ?_
    refine v_mR (j := 32) (mg hG rfl) (by decide) rfl qf_RX12_85 dX12_arrive_132 rfl ?_
    refine v_iload 3 rfl dX12_arrive_135 rfl ?_
    obtain ⟨v137, e137, h⟩ := o_b h
    refine v_mZ e137 (mg hG rfl) (by decide) rfl dX12_arrive_137 rfl ?_
    refine v_if_eq 152 dX12_arrive_138 (by decide) rfl (fun c138 => ?_) (fun c138 => ?_)
    · have h := o_p c138 h
      refine v_iload_n 2 rfl dX12_arrive_152 rfl ?_
      refine v_if_ne 179 dX12_arrive_153 (by decide) rfl (fun c153 => ?_) (fun c153 => ?_)
      · have h := o_n c153 h
        refine v_iload_n 2 rfl dX12_arrive_179 rfl ?_
        refine v_bipush (v := (8 : Int32)) (by decide) dX12_arrive_180 rfl ?_
        refine v_icmp_ne 198 dX12_arrive_182 (by decide) rfl (fun c182 => ?_) (fun c182 => ?_)
        · have h := o_n c182 h
          refine v_iload_n 2 rfl dX12_arrive_198 rfl ?_
          refine v_bipush (v := (9 : Int32)) (by decide) dX12_arrive_199 rfl ?_
          refine v_icmp_ne 239 dX12_arrive_201 (by decide) rfl (fun c201 => ?_) (fun c201 => ?_)
          · have h := o_n c201 h
            refine v_iload_n 2 rfl dX12_arrive_239 rfl ?_
            refine v_bipush (v := (10 : Int32)) (by decide) dX12_arrive_240 rfl ?_
            refine v_icmp_ne 266 dX12_arrive_242 (by decide) rfl (fun c242 => ?_) (fun c242 => ?_)
            · have h := o_n c242 h
              refine v_iload 5 rfl dX12_arrive_266 rfl ?_
              refine v_aload_n 0 rfl dX12_arrive_268 rfl ?_
              refine v_mR (j := 33) (mg hG rfl) (by decide) rfl qf_RX12_88 dX12_arrive_269 rfl ?_
              refine v_iload 3 rfl dX12_arrive_272 rfl ?_
              obtain ⟨v274, e274, h⟩ := o_b h
              refine v_mA e274 (mg hG rfl) (by decide) rfl dX12_arrive_274 rfl ?_
              refine v_icmp_ne 311 dX12_arrive_275 (by decide) rfl (fun c275 => ?_) (fun c275 => ?_)
              · have h := o_n c275 h
                obtain rfl := Option.some.inj h
                exact v_vret rfl (Nat.le_of_ble_eq_true rfl) (Nat.le_of_ble_eq_true rfl) dX12_arrive_311
              · have h := o_p c275 h
                refine v_iload 6 rfl dX12_arrive_278 rfl ?_
                refine v_aload_n 0 rfl dX12_arrive_280 rfl ?_
                refine v_mR (j := 34) (mg hG rfl) (by decide) rfl qf_RX12_91 dX12_arrive_281 rfl ?_
                refine v_iload 3 rfl dX12_arrive_284 rfl ?_
                obtain ⟨v286, e286, h⟩ := o_b h
                refine v_mA e286 (mg hG rfl) (by decide) rfl dX12_arrive_286 rfl ?_
                refine v_icmp_ne 311 dX12_arrive_287 (by decide) rfl (fun c287 => ?_) (fun c287 => ?_)
                · have h := o_n c287 h
                  obtain rfl := Option.some.inj h
                  exact v_vret rfl (Nat.le_of_ble_eq_true rfl) (Nat.le_of_ble_eq_true rfl) dX12_arrive_311
                · have h := o_p c287 h
                  refine v_aload_n 0 rfl dX12_arrive_290 rfl ?_
                  refine v_iload_n 2 rfl dX12_arrive_291 rfl ?_
                  refine v_iload 3 rfl dX12_arrive_292 rfl ?_
                  refine v_iload 4 rfl dX12_arrive_294 rfl ?_
                  refine v_aload_n 0 rfl dX12_arrive_296 rfl ?_
                  refine v_mR (j := 23) (mg hG rfl) (by decide) rfl qf_RX12_57 dX12_arrive_297 rfl ?_
                  refine v_iload_n 1 rfl dX12_arrive_300 rfl ?_
                  obtain ⟨v301, e301, h⟩ := o_b h
                  refine v_mA e301 (mg hG rfl) (by decide) rfl dX12_arrive_301 rfl ?_
                  refine v_aload_n 0 rfl dX12_arrive_302 rfl ?_
                  refine v_mR (j := 24) (mg hG rfl) (by decide) rfl qf_RX12_60 dX12_arrive_303 rfl ?_
                  refine v_iload_n 1 rfl dX12_arrive_306 rfl ?_
                  obtain ⟨v307, e307, h⟩ := o_b h
                  refine v_mA e307 (mg hG rfl) (by decide) rfl dX12_arrive_307 rfl ?_
                  obtain ⟨v308, e308, h⟩ := o_b h
                  refine v_Vv (as := [.int x3, .int x4, .int x5, .int v301, .int v307]) (st := []) (c' := 0) (k' := 0) (k_X12_inView hG e308) (rcv_m (mg hG rfl)) mk_X12_inView qi_X12_inView qe_X12_inView qm_RX12_371 (ck rfl) rfl dX12_arrive_308 rfl rfl rfl ?_
                  obtain rfl := Option.some.inj h
                  exact v_vret rfl (Nat.le_of_ble_eq_true rfl) (Nat.le_of_ble_eq_true rfl) dX12_arrive_311
            · have h := o_p c242 h
              refine v_aload_n 0 rfl dX12_arrive_245 rfl ?_
              refine v_iload 3 rfl dX12_arrive_246 rfl ?_
              refine v_iload 5 rfl dX12_arrive_248 rfl ?_
              refine v_iload 6 rfl dX12_arrive_250 rfl ?_
              refine v_aload_n 0 rfl dX12_arrive_252 rfl ?_
              refine v_mR (j := 28) (mg hG rfl) (by decide) rfl qf_RX12_72 dX12_arrive_253 rfl ?_
              refine v_iload_n 1 rfl dX12_arrive_256 rfl ?_
              obtain ⟨v257, e257, h⟩ := o_b h
              refine v_mA e257 (mg hG rfl) (by decide) rfl dX12_arrive_257 rfl ?_
              refine v_iload 7 rfl dX12_arrive_258 rfl ?_
              obtain ⟨v260, e260, h⟩ := o_b h
              refine v_Vv (as := [.int x4, .int x6, .int x7, .int v257, .int x8]) (st := []) (c' := 0) (k' := 0) (k_X12_start hG e260) (rcv_m (mg hG rfl)) mk_X12_start qi_X12_start qe_X12_start qm_RX12_367 (ck rfl) rfl dX12_arrive_260 rfl rfl rfl ?_
              refine v_goto (q := 311) dX12_arrive_263 (by decide) ?_
              obtain rfl := Option.some.inj h
              exact v_vret rfl (Nat.le_of_ble_eq_true rfl) (Nat.le_of_ble_eq_true rfl) dX12_arrive_311
          · have h := o_p c201 h
            refine v_aload_n 0 rfl dX12_arrive_204 rfl ?_
            refine v_iload 3 rfl dX12_arrive_205 rfl ?_
            refine v_iload 4 rfl dX12_arrive_207 rfl ?_
            refine v_iload 5 rfl dX12_arrive_209 rfl ?_
            refine v_iload 6 rfl dX12_arrive_211 rfl ?_
            refine v_aload_n 0 rfl dX12_arrive_213 rfl ?_
            refine v_mR (j := 26) (mg hG rfl) (by decide) rfl qf_RX12_66 dX12_arrive_214 rfl ?_
            refine v_iload_n 1 rfl dX12_arrive_217 rfl ?_
            obtain ⟨v218, e218, h⟩ := o_b h
            refine v_mA e218 (mg hG rfl) (by decide) rfl dX12_arrive_218 rfl ?_
            refine v_aload_n 0 rfl dX12_arrive_219 rfl ?_
            refine v_mR (j := 27) (mg hG rfl) (by decide) rfl qf_RX12_69 dX12_arrive_220 rfl ?_
            refine v_iload_n 1 rfl dX12_arrive_223 rfl ?_
            obtain ⟨v224, e224, h⟩ := o_b h
            refine v_mA e224 (mg hG rfl) (by decide) rfl dX12_arrive_224 rfl ?_
            refine v_aload_n 0 rfl dX12_arrive_225 rfl ?_
            refine v_mR (j := 28) (mg hG rfl) (by decide) rfl qf_RX12_72 dX12_arrive_226 rfl ?_
            refine v_iload_n 1 rfl dX12_arrive_229 rfl ?_
            obtain ⟨v230, e230, h⟩ := o_b h
            refine v_mA e230 (mg hG rfl) (by decide) rfl dX12_arrive_230 rfl ?_
            refine v_iload 7 rfl dX12_arrive_231 rfl ?_
            obtain ⟨v233, e233, h⟩ := o_b h
            refine v_Vv (as := [.int x4, .int x5, .int x6, .int x7, .int v218, .int v224, .int v230, .int x8]) (st := []) (c' := 0) (k' := 0) (k_X12_turned hG e233) (rcv_m (mg hG rfl)) mk_X12_turned qi_X12_turned qe_X12_turned qm_RX12_363 (ck rfl) rfl dX12_arrive_233 rfl rfl rfl ?_
            refine v_goto (q := 311) dX12_arrive_236 (by decide) ?_
            obtain rfl := Option.some.inj h
            exact v_vret rfl (Nat.le_of_ble_eq_true rfl) (Nat.le_of_ble_eq_true rfl) dX12_arrive_311
        · have h := o_p c182 h
          refine v_aload_n 0 rfl dX12_arrive_185 rfl ?_
          refine v_iload 3 rfl dX12_arrive_186 rfl ?_
          refine v_iload 5 rfl dX12_arrive_188 rfl ?_
          refine v_iload 6 rfl dX12_arrive_190 rfl ?_
          obtain ⟨v192, e192, h⟩ := o_b h
          refine v_Vv (as := [.int x4, .int x6, .int x7]) (st := []) (c' := 0) (k' := 0) (k_X12_follow hG e192) (rcv_m (mg hG rfl)) mk_X12_follow qi_X12_follow qe_X12_follow qm_RX12_325 (ck rfl) rfl dX12_arrive_192 rfl rfl rfl ?_
          refine v_goto (q := 311) dX12_arrive_195 (by decide) ?_
          obtain rfl := Option.some.inj h
          exact v_vret rfl (Nat.le_of_ble_eq_true rfl) (Nat.le_of_ble_eq_true rfl) dX12_arrive_311
      · have h := o_p c153 h
        refine v_aload_n 0 rfl dX12_arrive_156 rfl ?_
        refine v_iload 3 rfl dX12_arrive_157 rfl ?_
        refine v_iload 6 rfl dX12_arrive_159 rfl ?_
        refine v_aload_n 0 rfl dX12_arrive_161 rfl ?_
        refine v_mR (j := 23) (mg hG rfl) (by decide) rfl qf_RX12_57 dX12_arrive_162 rfl ?_
        refine v_iload_n 1 rfl dX12_arrive_165 rfl ?_
        obtain ⟨v166, e166, h⟩ := o_b h
        refine v_mA e166 (mg hG rfl) (by decide) rfl dX12_arrive_166 rfl ?_
        refine v_aload_n 0 rfl dX12_arrive_167 rfl ?_
        refine v_mR (j := 24) (mg hG rfl) (by decide) rfl qf_RX12_60 dX12_arrive_168 rfl ?_
        refine v_iload_n 1 rfl dX12_arrive_171 rfl ?_
        obtain ⟨v172, e172, h⟩ := o_b h
        refine v_mA e172 (mg hG rfl) (by decide) rfl dX12_arrive_172 rfl ?_
        obtain ⟨v173, e173, h⟩ := o_b h
        refine v_Vv (as := [.int x4, .int x7, .int v166, .int v172]) (st := []) (c' := 0) (k' := 0) (k_X12_stamped hG e173) (rcv_m (mg hG rfl)) mk_X12_stamped qi_X12_stamped qe_X12_stamped qm_RX12_359 (ck rfl) rfl dX12_arrive_173 rfl rfl rfl ?_
        refine v_goto (q := 311) dX12_arrive_176 (by decide) ?_
        obtain rfl := Option.some.inj h
        exact v_vret rfl (Nat.le_of_ble_eq_true rfl) (Nat.le_of_ble_eq_true rfl) dX12_arrive_311
    · have h := o_n c138 h
      refine v_aload_n 0 rfl dX12_arrive_141 rfl ?_
      refine v_dup rfl dX12_arrive_142 rfl ?_
      refine v_mI (j := 14) (mg hG rfl) (by decide) rfl qf_RX12_238 dX12_arrive_143 rfl ?_
      refine v_iconst (v := (1 : Int32)) (by decide) dX12_arrive_146 rfl ?_
      refine v_iadd dX12_arrive_147 rfl ?_
      obtain ⟨s148, e148, h⟩ := o_b h
      refine v_mP e148 (mg hG rfl) (by decide) rfl rfl rfl rfl rfl qf_RX12_238 dX12_arrive_148 rfl ?_
      obtain rfl := Option.some.inj h
      exact v_vret rfl (Nat.le_of_ble_eq_true rfl) (Nat.le_of_ble_eq_true rfl) dX12_arrive_151
  · have h := o_p c91 h
    refine v_aload_n 0 rfl dX12_arrive_94 rfl ?_
    refine v_iload 3 rfl dX12_arrive_95 rfl ?_
    refine v_iload 4 rfl dX12_arrive_97 rfl ?_
    refine v_iload 5 rfl dX12_arrive_99 rfl ?_
    refine v_iload 6 rfl dX12_arrive_101 rfl ?_
    refine v_aload_n 0 rfl dX12_arrive_103 rfl ?_
    refine v_mR (j := 23) (mg hG rfl) (by decide) rfl qf_RX12_57 dX12_arrive_104 rfl ?_
    refine v_iload_n 1 rfl dX12_arrive_107 rfl ?_
    obtain ⟨v108, e108, h⟩ := o_b h
    refine v_mA e108 (mg hG rfl) (by decide) rfl dX12_arrive_108 rfl ?_
    refine v_aload_n 0 rfl dX12_arrive_109 rfl ?_
    refine v_mR (j := 24) (mg hG rfl) (by decide) rfl qf_RX12_60 dX12_arrive_110 rfl ?_
    refine v_iload_n 1 rfl dX12_arrive_113 rfl ?_
    obtain ⟨v114, e114, h⟩ := o_b h
    refine v_mA e114 (mg hG rfl) (by decide) rfl dX12_arrive_114 rfl ?_
    refine v_aload_n 0 rfl dX12_arrive_115 rfl ?_
    refine v_mR (j := 30) (mg hG rfl) (by decide) rfl qf_RX12_78 dX12_arrive_116 rfl ?_
    refine v_iload_n 1 rfl dX12_arrive_119 rfl ?_
    obtain ⟨v120, e120, h⟩ := o_b h
    refine v_mZ e120 (mg hG rfl) (by decide) rfl dX12_arrive_120 rfl ?_
    refine v_aload_n 0 rfl dX12_arrive_121 rfl ?_
    refine v_mR (j := 25) (mg hG rfl) (by decide) rfl qf_RX12_63 dX12_arrive_122 rfl ?_
    refine v_iload_n 1 rfl dX12_arrive_125 rfl ?_
    obtain ⟨v126, e126, h⟩ := o_b h
    refine v_mA e126 (mg hG rfl) (by decide) rfl dX12_arrive_126 rfl ?_
    obtain ⟨v127, e127, h⟩ := o_b h
    refine v_Vv (as := [.int x4, .int x5, .int x6, .int x7, .int v108, .int v114, .int v120, .int v126]) (st := []) (c' := 0) (k' := 0) (k_X12_replied hG e127) (rcv_m (mg hG rfl)) mk_X12_replied qi_X12_replied qe_X12_replied qm_RX12_355 (ck rfl) rfl dX12_arrive_127 rfl rfl rfl ?_
    obtain rfl := Option.some.inj h
    exact v_vret rfl (Nat.le_of_ble_eq_true rfl) (Nat.le_of_ble_eq_true rfl) dX12_arrive_130
set_option maxRecDepth 100000 in
set_option maxHeartbeats 4000000 in
theorem l_X12_arrive_56 {G : Gm} (hG : gF G = mFl) {σ : Hp} {o : Int64} {μ' : Mu} : ∀ (n : Nat) {μ : Mu} {x2 : Int32} {x3 : Int32} {x4 : Int32} {x5 : Int32} {x6 : Int32} {x7 : Int32} {x8 : Int32} {x9 : Int32} , f_X12_arrive_56 n μ x2 x3 x4 x5 x6 x7 x8 x9 = some μ' → V G yX12_arrive cX12_arrive 10 none rm_X12_arrive (zV G (σ, μ', o) 0 0) (σ, μ, o) 0 0 56 [(0, .ref (gM G 200)), (2, .int x2), (3, .int x3), (4, .int x4), (5, .int x5), (6, .int x6), (7, .int x7), (8, .int x8), (9, .int x9)] [] := by
  intro n
  induction n with
  | zero => intro _ _ _ _ _ _ _ _ _ h; cases h
  | succ n ih =>
    intro μ x2 x3 x4 x5 x6 x7 x8 x9 h
    replace h : b_X12_arrive_56 (f_X12_arrive_56 n) μ x2 x3 x4 x5 x6 x7 x8 x9 = some μ' := h
    unfold b_X12_arrive_56 at h
    refine v_iload 8 rfl dX12_arrive_56 rfl ?_
    refine v_iload 7 rfl dX12_arrive_58 rfl ?_
    refine v_icmp_ge 88 dX12_arrive_60 (by decide) rfl (fun c60 => ?_) (fun c60 => ?_)
    · have h := o_p c60 h
      refine v_sub [0, 1, 2, 3, 4, 5, 6, 7] rfl ?_
      exact l_X12_arrive_88 hG h
    · have h := o_n c60 h
      refine v_aload_n 0 rfl dX12_arrive_63 rfl ?_
      refine v_mR (j := 56) (mg hG rfl) (by decide) rfl qf_RX12_157 dX12_arrive_64 rfl ?_
      refine v_iload 8 rfl dX12_arrive_67 rfl ?_
      refine v_aload_n 0 rfl dX12_arrive_69 rfl ?_
      refine v_mR (j := 31) (mg hG rfl) (by decide) rfl qf_RX12_82 dX12_arrive_70 rfl ?_
      refine v_bipush (v := (100 : Int32)) (by decide) dX12_arrive_73 rfl ?_
      refine v_iload_n 1 rfl dX12_arrive_75 rfl ?_
      refine v_imul dX12_arrive_76 rfl ?_
      refine v_iload 8 rfl dX12_arrive_77 rfl ?_
      refine v_iadd dX12_arrive_79 rfl ?_
      obtain ⟨v80, e80, h⟩ := o_b h
      refine v_mA e80 (mg hG rfl) (by decide) rfl dX12_arrive_80 rfl ?_
      obtain ⟨s81, e81, h⟩ := o_b h
      refine v_mQ e81 (mg hG rfl) (by decide) rfl dX12_arrive_81 rfl ?_
      refine v_iinc (v := (x9 + 1)) [(9, .int (x9 + 1)), (0, .ref (gM G 200)), (2, .int x2), (3, .int x3), (4, .int x4), (5, .int x5), (6, .int x6), (7, .int x7), (8, .int x8)] 8 rfl rfl dX12_arrive_82 rfl (by decide) rfl ?_
      refine v_goto (q := 56) dX12_arrive_85 (by decide) ?_
      refine v_sub [1, 2, 3, 4, 5, 6, 7, 8, 0] rfl ?_
      exact ih h
set_option maxRecDepth 100000 in
set_option maxHeartbeats 4000000 in
theorem k_X12_arrive {G : Gm} (hG : gF G = mFl) {σ : Hp} {o : Int64} {μ' : Mu} {μ : Mu} {a1 : Int32} (h : f_X12_arrive μ a1 = some μ') : Cv G yX12_arrive cX12_arrive 10 none rm_X12_arrive [.ref (gM G 200), .int a1] (σ, μ, o) (σ, μ', o) 0 0 := by
  refine v_entV [(0, .ref (gM G 200)), (1, .int a1)] (by decide +kernel) (Nat.le_of_ble_eq_true rfl) rfl ?_
  unfold f_X12_arrive at h
  refine v_aload_n 0 rfl dX12_arrive_0 rfl ?_
  refine v_iload_n 1 rfl dX12_arrive_1 rfl ?_
  obtain ⟨v2, e2, h⟩ := o_b h
  refine v_Vi (as := [.int a1]) (st := []) (c' := 0) (k' := 0) (k_X12_taken hG e2) (rcv_m (mg hG rfl)) mk_X12_taken qi_X12_taken qe_X12_taken qm_RX12_352 (ck rfl) rfl dX12_arrive_2 rfl rfl rfl ?_
  refine v_istore_n [(2, .int v2.1), (0, .ref (gM G 200)), (1, .int a1)] dX12_arrive_5 rfl (by decide) rfl ?_
  refine v_aload_n 1 rfl dX12_arrive_6 rfl ?_
  refine v_mR (j := 18) (mg hG rfl) (by decide) rfl qf_RX12_42 dX12_arrive_7 rfl ?_
  refine v_iload_n 0 rfl dX12_arrive_10 rfl ?_
  obtain ⟨v11, e11, h⟩ := o_b h
  refine v_mA e11 (mg hG rfl) (by decide) rfl dX12_arrive_11 rfl ?_
  refine v_istore_n [(3, .int v11), (2, .int v2.1), (0, .ref (gM G 200)), (1, .int a1)] dX12_arrive_12 rfl (by decide) rfl ?_
  refine v_aload_n 2 rfl dX12_arrive_13 rfl ?_
  refine v_mR (j := 20) (mg hG rfl) (by decide) rfl qf_RX12_48 dX12_arrive_14 rfl ?_
  refine v_iload_n 1 rfl dX12_arrive_17 rfl ?_
  obtain ⟨v18, e18, h⟩ := o_b h
  refine v_mA e18 (mg hG rfl) (by decide) rfl dX12_arrive_18 rfl ?_
  refine v_istore [(4, .int v18), (3, .int v11), (2, .int v2.1), (0, .ref (gM G 200)), (1, .int a1)] dX12_arrive_19 rfl (by decide) rfl ?_
  refine v_aload_n 3 rfl dX12_arrive_21 rfl ?_
  refine v_mR (j := 19) (mg hG rfl) (by decide) rfl qf_RX12_45 dX12_arrive_22 rfl ?_
  refine v_iload_n 2 rfl dX12_arrive_25 rfl ?_
  obtain ⟨v26, e26, h⟩ := o_b h
  refine v_mA e26 (mg hG rfl) (by decide) rfl dX12_arrive_26 rfl ?_
  refine v_istore [(5, .int v26), (4, .int v18), (3, .int v11), (2, .int v2.1), (0, .ref (gM G 200)), (1, .int a1)] dX12_arrive_27 rfl (by decide) rfl ?_
  refine v_aload_n 4 rfl dX12_arrive_29 rfl ?_
  refine v_mR (j := 21) (mg hG rfl) (by decide) rfl qf_RX12_51 dX12_arrive_30 rfl ?_
  refine v_iload_n 3 rfl dX12_arrive_33 rfl ?_
  obtain ⟨v34, e34, h⟩ := o_b h
  refine v_mA e34 (mg hG rfl) (by decide) rfl dX12_arrive_34 rfl ?_
  refine v_istore [(6, .int v34), (5, .int v26), (4, .int v18), (3, .int v11), (2, .int v2.1), (0, .ref (gM G 200)), (1, .int a1)] dX12_arrive_35 rfl (by decide) rfl ?_
  refine v_aload_n 5 rfl dX12_arrive_37 rfl ?_
  refine v_mR (j := 22) (mg hG rfl) (by decide) rfl qf_RX12_54 dX12_arrive_38 rfl ?_
  refine v_iload_n 4 rfl dX12_arrive_41 rfl ?_
  obtain ⟨v42, e42, h⟩ := o_b h
  refine v_mA e42 (mg hG rfl) (by decide) rfl dX12_arrive_42 rfl ?_
  refine v_istore [(7, .int v42), (6, .int v34), (5, .int v26), (4, .int v18), (3, .int v11), (2, .int v2.1), (0, .ref (gM G 200)), (1, .int a1)] dX12_arrive_43 rfl (by decide) rfl ?_
  refine v_aload_n 6 rfl dX12_arrive_45 rfl ?_
  refine v_mR (j := 29) (mg hG rfl) (by decide) rfl qf_RX12_75 dX12_arrive_46 rfl ?_
  refine v_iload_n 5 rfl dX12_arrive_49 rfl ?_
  obtain ⟨v50, e50, h⟩ := o_b h
  refine v_mA e50 (mg hG rfl) (by decide) rfl dX12_arrive_50 rfl ?_
  refine v_istore [(8, .int v50), (7, .int v42), (6, .int v34), (5, .int v26), (4, .int v18), (3, .int v11), (2, .int v2.1), (0, .ref (gM G 200)), (1, .int a1)] dX12_arrive_51 rfl (by decide) rfl ?_
  refine v_iconst (v := (0 : Int32)) (by decide) dX12_arrive_53 rfl ?_
  refine v_istore [(9, .int (0 : Int32)), (8, .int v50), (7, .int v42), (6, .int v34), (5, .int v26), (4, .int v18), (3, .int v11), (2, .int v2.1), (0, .ref (gM G 200)), (1, .int a1)] dX12_arrive_54 rfl (by decide) rfl ?_
  refine v_sub [8, 7, 6, 5, 4, 3, 2, 1, 0] rfl ?_
  exact l_X12_arrive_56 hG _ h
