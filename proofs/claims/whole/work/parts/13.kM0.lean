def rm_X12_thrown : Room := { frames := 0, cells := 0, slots := 0, locals := 0 }
set_option maxRecDepth 100000 in
set_option maxHeartbeats 4000000 in
theorem k_X12_thrown {G : Gm} (hG : gF G = mFl) {σ : Hp} {o : Int64} {r : Int32} {μ : Mu} (h : f_X12_thrown μ  = some r) : Ci G yX12_thrown cX12_thrown 1 (some .int) rm_X12_thrown [.ref (gM G 200)] (σ, μ, o) r (σ, μ, o) 0 0 := by
  refine v_entI [(0, .ref (gM G 200))] (by decide +kernel) (Nat.le_of_ble_eq_true rfl) rfl ?_
  unfold f_X12_thrown at h
  refine v_aload_n 0 rfl dX12_thrown_0 rfl ?_
  refine v_mI (j := 0) (mg hG rfl) (by decide) rfl qf_RX12_229 dX12_thrown_1 rfl ?_
  obtain rfl := Option.some.inj h
  exact v_iret rfl rfl (Nat.le_of_ble_eq_true rfl) (Nat.le_of_ble_eq_true rfl) dX12_thrown_4
def rm_X12_in : Room := { frames := 0, cells := 0, slots := 0, locals := 0 }
set_option maxRecDepth 100000 in
set_option maxHeartbeats 4000000 in
theorem k_X12_in {G : Gm} {w : Wt} {r : Int32} {a0 : Int32} {a1 : Int32} (h : f_X12_in a0 a1 = some r) : Ci G yX12_in cX12_in 2 (some .boolean) rm_X12_in [.int a0, .int a1] w r w 0 0 := by
  refine v_entI [(0, .int a0), (1, .int a1)] (by decide +kernel) (Nat.le_of_ble_eq_true rfl) rfl ?_
  unfold f_X12_in at h
  refine v_iload_n 0 rfl dX12_in_0 rfl ?_
  refine v_if_lt 13 dX12_in_1 (by decide) rfl (fun c1 => ?_) (fun c1 => ?_)
  · have h := o_p c1 h
    refine v_iconst (v := (0 : Int32)) (by decide) dX12_in_13 rfl ?_
    obtain rfl := Option.some.inj h
    exact v_iret rfl rfl (Nat.le_of_ble_eq_true rfl) (Nat.le_of_ble_eq_true rfl) dX12_in_14
  · have h := o_n c1 h
    refine v_iload_n 0 rfl dX12_in_4 rfl ?_
    refine v_iload_n 1 rfl dX12_in_5 rfl ?_
    refine v_icmp_ge 13 dX12_in_6 (by decide) rfl (fun c6 => ?_) (fun c6 => ?_)
    · have h := o_p c6 h
      refine v_iconst (v := (0 : Int32)) (by decide) dX12_in_13 rfl ?_
      obtain rfl := Option.some.inj h
      exact v_iret rfl rfl (Nat.le_of_ble_eq_true rfl) (Nat.le_of_ble_eq_true rfl) dX12_in_14
    · have h := o_n c6 h
      refine v_iconst (v := (1 : Int32)) (by decide) dX12_in_9 rfl ?_
      refine v_goto (q := 14) dX12_in_10 (by decide) ?_
      obtain rfl := Option.some.inj h
      exact v_iret rfl rfl (Nat.le_of_ble_eq_true rfl) (Nat.le_of_ble_eq_true rfl) dX12_in_14
def rm_X12_ones : Room := { frames := 0, cells := 0, slots := 0, locals := 0 }
set_option maxRecDepth 100000 in
set_option maxHeartbeats 4000000 in
theorem l_X12_ones_4 {G : Gm} {w : Wt} {r : Int32} : ∀ (n : Nat) {x0 : Int32} {x1 : Int32} {x2 : Int32} , f_X12_ones_4 n x0 x1 x2 = some r → V G yX12_ones cX12_ones 3 (some .int) rm_X12_ones (zI G r w 0 0) w 0 0 4 [(0, .int x0), (1, .int x1), (2, .int x2)] [] := by
  intro n
  induction n with
  | zero => intro _ _ _ h; cases h
  | succ n ih =>
    intro x0 x1 x2 h
    replace h : b_X12_ones_4 (f_X12_ones_4 n) x0 x1 x2 = some r := h
    unfold b_X12_ones_4 at h
    refine v_iload_n 2 rfl dX12_ones_4 rfl ?_
    refine v_bipush (v := (7 : Int32)) (by decide) dX12_ones_5 rfl ?_
    refine v_icmp_ge 24 dX12_ones_7 (by decide) rfl (fun c7 => ?_) (fun c7 => ?_)
    · have h := o_p c7 h
      refine v_iload_n 1 rfl dX12_ones_24 rfl ?_
      obtain rfl := Option.some.inj h
      exact v_iret rfl rfl (Nat.le_of_ble_eq_true rfl) (Nat.le_of_ble_eq_true rfl) dX12_ones_25
    · have h := o_n c7 h
      refine v_iload_n 1 rfl dX12_ones_10 rfl ?_
      refine v_iload_n 0 rfl dX12_ones_11 rfl ?_
      refine v_iload_n 2 rfl dX12_ones_12 rfl ?_
      refine v_ishr dX12_ones_13 rfl ?_
      refine v_iconst (v := (1 : Int32)) (by decide) dX12_ones_14 rfl ?_
      refine v_iand dX12_ones_15 rfl ?_
      refine v_iadd dX12_ones_16 rfl ?_
      refine v_istore_n [(1, .int (x1 + ((x0 >>> (x2 &&& 31)) &&& (1 : Int32)))), (0, .int x0), (2, .int x2)] dX12_ones_17 rfl (by decide) rfl ?_
      refine v_iinc (v := (x2 + 1)) [(2, .int (x2 + 1)), (1, .int (x1 + ((x0 >>> (x2 &&& 31)) &&& (1 : Int32)))), (0, .int x0)] 2 rfl rfl dX12_ones_18 rfl (by decide) rfl ?_
      refine v_goto (q := 4) dX12_ones_21 (by decide) ?_
      refine v_sub [2, 1, 0] rfl ?_
      exact ih h
set_option maxRecDepth 100000 in
set_option maxHeartbeats 4000000 in
theorem k_X12_ones {G : Gm} {w : Wt} {r : Int32} {a0 : Int32} (h : f_X12_ones a0 = some r) : Ci G yX12_ones cX12_ones 3 (some .int) rm_X12_ones [.int a0] w r w 0 0 := by
  refine v_entI [(0, .int a0)] (by decide +kernel) (Nat.le_of_ble_eq_true rfl) rfl ?_
  unfold f_X12_ones at h
  refine v_iconst (v := (0 : Int32)) (by decide) dX12_ones_0 rfl ?_
  refine v_istore_n [(1, .int (0 : Int32)), (0, .int a0)] dX12_ones_1 rfl (by decide) rfl ?_
  refine v_iconst (v := (0 : Int32)) (by decide) dX12_ones_2 rfl ?_
  refine v_istore_n [(2, .int (0 : Int32)), (1, .int (0 : Int32)), (0, .int a0)] dX12_ones_3 rfl (by decide) rfl ?_
  refine v_sub [2, 1, 0] rfl ?_
  exact l_X12_ones_4 _ h
def rm_X12_send : Room := { frames := 0, cells := 0, slots := 0, locals := 0 }
set_option maxRecDepth 100000 in
set_option maxHeartbeats 4000000 in
theorem k_X12_send {G : Gm} (hG : gF G = mFl) {σ : Hp} {o : Int64} {r : Int32} {μ' : Mu} {μ : Mu} {a1 : Int32} {a2 : Int32} {a3 : Int32} {a4 : Int32} {a5 : Int32} {a6 : Int32} {a7 : Int32} (h : f_X12_send μ a1 a2 a3 a4 a5 a6 a7 = some (r, μ')) : Ci G yX12_send cX12_send 9 (some .int) rm_X12_send [.ref (gM G 200), .int a1, .int a2, .int a3, .int a4, .int a5, .int a6, .int a7] (σ, μ, o) r (σ, μ', o) 0 0 := by
  refine v_entI [(0, .ref (gM G 200)), (1, .int a1), (2, .int a2), (3, .int a3), (4, .int a4), (5, .int a5), (6, .int a6), (7, .int a7)] (by decide +kernel) (Nat.le_of_ble_eq_true rfl) rfl ?_
  unfold f_X12_send at h
  refine v_aload_n 0 rfl dX12_send_0 rfl ?_
  refine v_dup rfl dX12_send_1 rfl ?_
  refine v_mI (j := 13) (mg hG rfl) (by decide) rfl qf_RX12_232 dX12_send_2 rfl ?_
  refine v_iconst (v := (1 : Int32)) (by decide) dX12_send_5 rfl ?_
  refine v_iadd dX12_send_6 rfl ?_
  obtain ⟨s7, e7, h⟩ := o_b h
  refine v_mP e7 (mg hG rfl) (by decide) rfl rfl rfl rfl rfl qf_RX12_232 dX12_send_7 rfl ?_
  refine v_aload_n 0 rfl dX12_send_10 rfl ?_
  refine v_mI (j := 12) (mg hG rfl) (by decide) rfl qf_RX12_235 dX12_send_11 rfl ?_
  refine v_sipush (v := (200 : Int32)) (by decide) dX12_send_14 rfl ?_
  refine v_icmp_ne 32 dX12_send_17 (by decide) rfl (fun c17 => ?_) (fun c17 => ?_)
  · have h := o_n c17 h
    refine v_aload_n 0 rfl dX12_send_32 rfl ?_
    refine v_mR (j := 16) (mg hG rfl) (by decide) rfl qf_RX12_36 dX12_send_33 rfl ?_
    refine v_sipush (v := (199 : Int32)) (by decide) dX12_send_36 rfl ?_
    refine v_aload_n 0 rfl dX12_send_39 rfl ?_
    refine v_mI (j := 12) (mg hG rfl) (by decide) rfl qf_RX12_235 dX12_send_40 rfl ?_
    refine v_isub dX12_send_43 rfl ?_
    obtain ⟨v44, e44, h⟩ := o_b h
    refine v_mA e44 (mg hG rfl) (by decide) rfl dX12_send_44 rfl ?_
    refine v_istore [(8, .int v44), (0, .ref (gM G 200)), (1, .int a1), (2, .int a2), (3, .int a3), (4, .int a4), (5, .int a5), (6, .int a6), (7, .int a7)] dX12_send_45 rfl (by decide) rfl ?_
    refine v_aload_n 1 rfl dX12_send_47 rfl ?_
    refine v_mR (j := 15) (mg hG rfl) (by decide) rfl qf_RX12_33 dX12_send_48 rfl ?_
    refine v_aload_n 1 rfl dX12_send_51 rfl ?_
    refine v_mI (j := 12) (mg hG rfl) (by decide) rfl qf_RX12_235 dX12_send_52 rfl ?_
    refine v_iload 0 rfl dX12_send_55 rfl ?_
    obtain ⟨s57, e57, h⟩ := o_b h
    refine v_mQ e57 (mg hG rfl) (by decide) rfl dX12_send_57 rfl ?_
    refine v_aload_n 1 rfl dX12_send_58 rfl ?_
    refine v_dup rfl dX12_send_59 rfl ?_
    refine v_mI (j := 12) (mg hG rfl) (by decide) rfl qf_RX12_235 dX12_send_60 rfl ?_
    refine v_iconst (v := (1 : Int32)) (by decide) dX12_send_63 rfl ?_
    refine v_iadd dX12_send_64 rfl ?_
    obtain ⟨s65, e65, h⟩ := o_b h
    refine v_mP e65 (mg hG rfl) (by decide) rfl rfl rfl rfl rfl qf_RX12_235 dX12_send_65 rfl ?_
    refine v_aload_n 1 rfl dX12_send_68 rfl ?_
    refine v_mR (j := 17) (mg hG rfl) (by decide) rfl qf_RX12_39 dX12_send_69 rfl ?_
    refine v_iload 0 rfl dX12_send_72 rfl ?_
    refine v_aload_n 1 rfl dX12_send_74 rfl ?_
    refine v_mI (j := 13) (mg hG rfl) (by decide) rfl qf_RX12_232 dX12_send_75 rfl ?_
    refine v_iconst (v := (1 : Int32)) (by decide) dX12_send_78 rfl ?_
    refine v_isub dX12_send_79 rfl ?_
    obtain ⟨s80, e80, h⟩ := o_b h
    refine v_mQ e80 (mg hG rfl) (by decide) rfl dX12_send_80 rfl ?_
    refine v_aload_n 1 rfl dX12_send_81 rfl ?_
    refine v_mR (j := 18) (mg hG rfl) (by decide) rfl qf_RX12_42 dX12_send_82 rfl ?_
    refine v_iload 0 rfl dX12_send_85 rfl ?_
    refine v_iload_n 2 rfl dX12_send_87 rfl ?_
    obtain ⟨s88, e88, h⟩ := o_b h
    refine v_mQ e88 (mg hG rfl) (by decide) rfl dX12_send_88 rfl ?_
    refine v_aload_n 1 rfl dX12_send_89 rfl ?_
    refine v_mR (j := 19) (mg hG rfl) (by decide) rfl qf_RX12_45 dX12_send_90 rfl ?_
    refine v_iload 0 rfl dX12_send_93 rfl ?_
    refine v_iload_n 3 rfl dX12_send_95 rfl ?_
    obtain ⟨s96, e96, h⟩ := o_b h
    refine v_mQ e96 (mg hG rfl) (by decide) rfl dX12_send_96 rfl ?_
    refine v_aload_n 1 rfl dX12_send_97 rfl ?_
    refine v_mR (j := 20) (mg hG rfl) (by decide) rfl qf_RX12_48 dX12_send_98 rfl ?_
    refine v_iload 0 rfl dX12_send_101 rfl ?_
    refine v_iload_n 4 rfl dX12_send_103 rfl ?_
    obtain ⟨s104, e104, h⟩ := o_b h
    refine v_mQ e104 (mg hG rfl) (by decide) rfl dX12_send_104 rfl ?_
    refine v_aload_n 1 rfl dX12_send_105 rfl ?_
    refine v_mR (j := 21) (mg hG rfl) (by decide) rfl qf_RX12_51 dX12_send_106 rfl ?_
    refine v_iload 0 rfl dX12_send_109 rfl ?_
    refine v_iload 5 rfl dX12_send_111 rfl ?_
    obtain ⟨s113, e113, h⟩ := o_b h
    refine v_mQ e113 (mg hG rfl) (by decide) rfl dX12_send_113 rfl ?_
    refine v_aload_n 1 rfl dX12_send_114 rfl ?_
    refine v_mR (j := 22) (mg hG rfl) (by decide) rfl qf_RX12_54 dX12_send_115 rfl ?_
    refine v_iload 0 rfl dX12_send_118 rfl ?_
    refine v_iload 6 rfl dX12_send_120 rfl ?_
    obtain ⟨s122, e122, h⟩ := o_b h
    refine v_mQ e122 (mg hG rfl) (by decide) rfl dX12_send_122 rfl ?_
    refine v_aload_n 1 rfl dX12_send_123 rfl ?_
    refine v_mR (j := 23) (mg hG rfl) (by decide) rfl qf_RX12_57 dX12_send_124 rfl ?_
    refine v_iload 0 rfl dX12_send_127 rfl ?_
    refine v_iload 7 rfl dX12_send_129 rfl ?_
    obtain ⟨s131, e131, h⟩ := o_b h
    refine v_mQ e131 (mg hG rfl) (by decide) rfl dX12_send_131 rfl ?_
    refine v_aload_n 1 rfl dX12_send_132 rfl ?_
    refine v_mR (j := 24) (mg hG rfl) (by decide) rfl qf_RX12_60 dX12_send_133 rfl ?_
    refine v_iload 0 rfl dX12_send_136 rfl ?_
    refine v_iload 8 rfl dX12_send_138 rfl ?_
    obtain ⟨s140, e140, h⟩ := o_b h
    refine v_mQ e140 (mg hG rfl) (by decide) rfl dX12_send_140 rfl ?_
    refine v_aload_n 1 rfl dX12_send_141 rfl ?_
    refine v_mR (j := 30) (mg hG rfl) (by decide) rfl qf_RX12_78 dX12_send_142 rfl ?_
    refine v_iload 0 rfl dX12_send_145 rfl ?_
    refine v_iconst (v := (0 : Int32)) (by decide) dX12_send_147 rfl ?_
    obtain ⟨s148, e148, h⟩ := o_b h
    refine v_mW e148 (mg hG rfl) (by decide) rfl rfl dX12_send_148 rfl ?_
    refine v_aload_n 1 rfl dX12_send_149 rfl ?_
    refine v_mR (j := 29) (mg hG rfl) (by decide) rfl qf_RX12_75 dX12_send_150 rfl ?_
    refine v_iload 0 rfl dX12_send_153 rfl ?_
    refine v_iconst (v := (0 : Int32)) (by decide) dX12_send_155 rfl ?_
    obtain ⟨s156, e156, h⟩ := o_b h
    refine v_mQ e156 (mg hG rfl) (by decide) rfl dX12_send_156 rfl ?_
    refine v_iload 0 rfl dX12_send_157 rfl ?_
    obtain ⟨rfl, rfl⟩ := o_s h
    exact v_iret rfl rfl (Nat.le_of_ble_eq_true rfl) (Nat.le_of_ble_eq_true rfl) dX12_send_159
  · have h := o_p c17 h
    refine v_aload_n 0 rfl dX12_send_20 rfl ?_
    refine v_dup rfl dX12_send_21 rfl ?_
    refine v_mI (j := 14) (mg hG rfl) (by decide) rfl qf_RX12_238 dX12_send_22 rfl ?_
    refine v_iconst (v := (1 : Int32)) (by decide) dX12_send_25 rfl ?_
    refine v_iadd dX12_send_26 rfl ?_
    obtain ⟨s27, e27, h⟩ := o_b h
    refine v_mP e27 (mg hG rfl) (by decide) rfl rfl rfl rfl rfl qf_RX12_238 dX12_send_27 rfl ?_
    refine v_iconst (v := (-1 : Int32)) (by decide) dX12_send_30 rfl ?_
    obtain ⟨rfl, rfl⟩ := o_s h
    exact v_iret rfl rfl (Nat.le_of_ble_eq_true rfl) (Nat.le_of_ble_eq_true rfl) dX12_send_31
def rm_X12_taken : Room := { frames := 0, cells := 0, slots := 0, locals := 0 }
set_option maxRecDepth 100000 in
set_option maxHeartbeats 4000000 in
theorem l_X12_taken_47 {G : Gm} (hG : gF G = mFl) {σ : Hp} {o : Int64} {r : Int32} {μ' : Mu} {μ : Mu} {x2 : Int32} (h : f_X12_taken_47 μ x2 = some (r, μ')) : V G yX12_taken cX12_taken 4 (some .int) rm_X12_taken (zI G r (σ, μ', o) 0 0) (σ, μ, o) 0 0 47 [(0, .ref (gM G 200)), (2, .int x2)] [] := by
  unfold f_X12_taken_47 at h
  refine v_aload_n 0 rfl dX12_taken_47 rfl ?_
  refine v_mR (j := 16) (mg hG rfl) (by decide) rfl qf_RX12_36 dX12_taken_48 rfl ?_
  refine v_sipush (v := (199 : Int32)) (by decide) dX12_taken_51 rfl ?_
  refine v_aload_n 0 rfl dX12_taken_54 rfl ?_
  refine v_mI (j := 12) (mg hG rfl) (by decide) rfl qf_RX12_235 dX12_taken_55 rfl ?_
  refine v_isub dX12_taken_58 rfl ?_
  refine v_iload_n 1 rfl dX12_taken_59 rfl ?_
  obtain ⟨s60, e60, h⟩ := o_b h
  refine v_mQ e60 (mg hG rfl) (by decide) rfl dX12_taken_60 rfl ?_
  refine v_iload_n 1 rfl dX12_taken_61 rfl ?_
  obtain ⟨rfl, rfl⟩ := o_s h
  exact v_iret rfl rfl (Nat.le_of_ble_eq_true rfl) (Nat.le_of_ble_eq_true rfl) dX12_taken_62
set_option maxRecDepth 100000 in
set_option maxHeartbeats 4000000 in
theorem l_X12_taken_19 {G : Gm} (hG : gF G = mFl) {σ : Hp} {o : Int64} {r : Int32} {μ' : Mu} : ∀ (n : Nat) {μ : Mu} {x2 : Int32} {x3 : Int32} , f_X12_taken_19 n μ x2 x3 = some (r, μ') → V G yX12_taken cX12_taken 4 (some .int) rm_X12_taken (zI G r (σ, μ', o) 0 0) (σ, μ, o) 0 0 19 [(0, .ref (gM G 200)), (2, .int x2), (3, .int x3)] [] := by
  intro n
  induction n with
  | zero => intro _ _ _ h; cases h
  | succ n ih =>
    intro μ x2 x3 h
    replace h : b_X12_taken_19 (f_X12_taken_19 n) μ x2 x3 = some (r, μ') := h
    unfold b_X12_taken_19 at h
    refine v_iload_n 2 rfl dX12_taken_19 rfl ?_
    refine v_aload_n 0 rfl dX12_taken_20 rfl ?_
    refine v_mI (j := 12) (mg hG rfl) (by decide) rfl qf_RX12_235 dX12_taken_21 rfl ?_
    refine v_icmp_ge 47 dX12_taken_24 (by decide) rfl (fun c24 => ?_) (fun c24 => ?_)
    · have h := o_p c24 h
      refine v_sub [0, 1] rfl ?_
      exact l_X12_taken_47 hG h
    · have h := o_n c24 h
      refine v_aload_n 0 rfl dX12_taken_27 rfl ?_
      refine v_mR (j := 15) (mg hG rfl) (by decide) rfl qf_RX12_33 dX12_taken_28 rfl ?_
      refine v_iload_n 2 rfl dX12_taken_31 rfl ?_
      refine v_aload_n 0 rfl dX12_taken_32 rfl ?_
      refine v_mR (j := 15) (mg hG rfl) (by decide) rfl qf_RX12_33 dX12_taken_33 rfl ?_
      refine v_iload_n 2 rfl dX12_taken_36 rfl ?_
      refine v_iconst (v := (1 : Int32)) (by decide) dX12_taken_37 rfl ?_
      refine v_iadd dX12_taken_38 rfl ?_
      obtain ⟨v39, e39, h⟩ := o_b h
      refine v_mA e39 (mg hG rfl) (by decide) rfl dX12_taken_39 rfl ?_
      obtain ⟨s40, e40, h⟩ := o_b h
      refine v_mQ e40 (mg hG rfl) (by decide) rfl dX12_taken_40 rfl ?_
      refine v_iinc (v := (x3 + 1)) [(3, .int (x3 + 1)), (0, .ref (gM G 200)), (2, .int x2)] 2 rfl rfl dX12_taken_41 rfl (by decide) rfl ?_
      refine v_goto (q := 19) dX12_taken_44 (by decide) ?_
      refine v_sub [1, 2, 0] rfl ?_
      exact ih h
set_option maxRecDepth 100000 in
set_option maxHeartbeats 4000000 in
theorem k_X12_taken {G : Gm} (hG : gF G = mFl) {σ : Hp} {o : Int64} {r : Int32} {μ' : Mu} {μ : Mu} {a1 : Int32} (h : f_X12_taken μ a1 = some (r, μ')) : Ci G yX12_taken cX12_taken 4 (some .int) rm_X12_taken [.ref (gM G 200), .int a1] (σ, μ, o) r (σ, μ', o) 0 0 := by
  refine v_entI [(0, .ref (gM G 200)), (1, .int a1)] (by decide +kernel) (Nat.le_of_ble_eq_true rfl) rfl ?_
  unfold f_X12_taken at h
  refine v_aload_n 0 rfl dX12_taken_0 rfl ?_
  refine v_mR (j := 15) (mg hG rfl) (by decide) rfl qf_RX12_33 dX12_taken_1 rfl ?_
  refine v_iload_n 1 rfl dX12_taken_4 rfl ?_
  obtain ⟨v5, e5, h⟩ := o_b h
  refine v_mA e5 (mg hG rfl) (by decide) rfl dX12_taken_5 rfl ?_
  refine v_istore_n [(2, .int v5), (0, .ref (gM G 200)), (1, .int a1)] dX12_taken_6 rfl (by decide) rfl ?_
  refine v_aload_n 1 rfl dX12_taken_7 rfl ?_
  refine v_dup rfl dX12_taken_8 rfl ?_
  refine v_mI (j := 12) (mg hG rfl) (by decide) rfl qf_RX12_235 dX12_taken_9 rfl ?_
  refine v_iconst (v := (1 : Int32)) (by decide) dX12_taken_12 rfl ?_
  refine v_isub dX12_taken_13 rfl ?_
  obtain ⟨s14, e14, h⟩ := o_b h
  refine v_mP e14 (mg hG rfl) (by decide) rfl rfl rfl rfl rfl qf_RX12_235 dX12_taken_14 rfl ?_
  refine v_iload_n 2 rfl dX12_taken_17 rfl ?_
  refine v_istore_n [(3, .int a1), (2, .int v5), (0, .ref (gM G 200)), (1, .int a1)] dX12_taken_18 rfl (by decide) rfl ?_
  refine v_sub [2, 1, 0] rfl ?_
  exact l_X12_taken_19 hG _ h
def rm_X12_find : Room := { frames := 0, cells := 0, slots := 0, locals := 0 }
set_option maxRecDepth 100000 in
set_option maxHeartbeats 4000000 in
theorem l_X12_find_2 {G : Gm} (hG : gF G = mFl) {σ : Hp} {o : Int64} {r : Int32} {μ : Mu} : ∀ (n : Nat) {x1 : Int32} {x2 : Int32} , f_X12_find_2 n μ x1 x2 = some r → V G yX12_find cX12_find 3 (some .int) rm_X12_find (zI G r (σ, μ, o) 0 0) (σ, μ, o) 0 0 2 [(0, .ref (gM G 200)), (1, .int x1), (2, .int x2)] [] := by
  intro n
  induction n with
  | zero => intro _ _ h; cases h
  | succ n ih =>
    intro x1 x2 h
    replace h : b_X12_find_2 (f_X12_find_2 n) μ x1 x2 = some r := h
    unfold b_X12_find_2 at h
    refine v_iload_n 2 rfl dX12_find_2 rfl ?_
    refine v_aload_n 0 rfl dX12_find_3 rfl ?_
    refine v_mI (j := 12) (mg hG rfl) (by decide) rfl qf_RX12_235 dX12_find_4 rfl ?_
    refine v_icmp_ge 33 dX12_find_7 (by decide) rfl (fun c7 => ?_) (fun c7 => ?_)
    · have h := o_p c7 h
      refine v_iconst (v := (-1 : Int32)) (by decide) dX12_find_33 rfl ?_
      obtain rfl := Option.some.inj h
      exact v_iret rfl rfl (Nat.le_of_ble_eq_true rfl) (Nat.le_of_ble_eq_true rfl) dX12_find_34
    · have h := o_n c7 h
      refine v_aload_n 0 rfl dX12_find_10 rfl ?_
      refine v_mR (j := 17) (mg hG rfl) (by decide) rfl qf_RX12_39 dX12_find_11 rfl ?_
      refine v_aload_n 0 rfl dX12_find_14 rfl ?_
      refine v_mR (j := 15) (mg hG rfl) (by decide) rfl qf_RX12_33 dX12_find_15 rfl ?_
      refine v_iload_n 2 rfl dX12_find_18 rfl ?_
      obtain ⟨v19, e19, h⟩ := o_b h
      refine v_mA e19 (mg hG rfl) (by decide) rfl dX12_find_19 rfl ?_
      obtain ⟨v20, e20, h⟩ := o_b h
      refine v_mA e20 (mg hG rfl) (by decide) rfl dX12_find_20 rfl ?_
      refine v_iload_n 1 rfl dX12_find_21 rfl ?_
      refine v_icmp_ne 27 dX12_find_22 (by decide) rfl (fun c22 => ?_) (fun c22 => ?_)
      · have h := o_n c22 h
        refine v_iinc (v := (x2 + 1)) [(2, .int (x2 + 1)), (0, .ref (gM G 200)), (1, .int x1)] 2 rfl rfl dX12_find_27 rfl (by decide) rfl ?_
        refine v_goto (q := 2) dX12_find_30 (by decide) ?_
        refine v_sub [1, 2, 0] rfl ?_
        exact ih h
      · have h := o_p c22 h
        refine v_iload_n 2 rfl dX12_find_25 rfl ?_
        obtain rfl := Option.some.inj h
        exact v_iret rfl rfl (Nat.le_of_ble_eq_true rfl) (Nat.le_of_ble_eq_true rfl) dX12_find_26
set_option maxRecDepth 100000 in
set_option maxHeartbeats 4000000 in
theorem k_X12_find {G : Gm} (hG : gF G = mFl) {σ : Hp} {o : Int64} {r : Int32} {μ : Mu} {a1 : Int32} (h : f_X12_find μ a1 = some r) : Ci G yX12_find cX12_find 3 (some .int) rm_X12_find [.ref (gM G 200), .int a1] (σ, μ, o) r (σ, μ, o) 0 0 := by
  refine v_entI [(0, .ref (gM G 200)), (1, .int a1)] (by decide +kernel) (Nat.le_of_ble_eq_true rfl) rfl ?_
  unfold f_X12_find at h
  refine v_iconst (v := (0 : Int32)) (by decide) dX12_find_0 rfl ?_
  refine v_istore_n [(2, .int (0 : Int32)), (0, .ref (gM G 200)), (1, .int a1)] dX12_find_1 rfl (by decide) rfl ?_
  refine v_sub [1, 2, 0] rfl ?_
  exact l_X12_find_2 hG _ h
def rm_X12_all : Room := { frames := 1, cells := 0, slots := 0, locals := 28 }
set_option maxRecDepth 100000 in
set_option maxHeartbeats 4000000 in
theorem l_X12_all_41 {G : Gm} (hG : gF G = mFl) {σ : Hp} {o : Int64} {μ' : Mu} {rec3 : Mu → Int32 → Int32 → Int32 → Int32 → Option Mu} (h3 : ∀ {μ : Mu} {x1 : Int32} {x2 : Int32} {x3 : Int32} {x4 : Int32} , rec3 μ x1 x2 x3 x4 = some μ' → V G yX12_all cX12_all 5 none rm_X12_all (zV G (σ, μ', o) 0 0) (σ, μ, o) 0 0 3 [(0, .ref (gM G 200)), (1, .int x1), (2, .int x2), (3, .int x3), (4, .int x4)] []) {μ : Mu} {x1 : Int32} {x2 : Int32} {x3 : Int32} {x4 : Int32} (h : f_X12_all_41 rec3 μ x1 x2 x3 x4 = some μ') : V G yX12_all cX12_all 5 none rm_X12_all (zV G (σ, μ', o) 0 0) (σ, μ, o) 0 0 41 [(0, .ref (gM G 200)), (1, .int x1), (2, .int x2), (3, .int x3), (4, .int x4)] [] := by
  unfold f_X12_all_41 at h
  refine v_iinc (v := (x4 + 1)) [(4, .int (x4 + 1)), (0, .ref (gM G 200)), (1, .int x1), (2, .int x2), (3, .int x3)] 4 rfl rfl dX12_all_41 rfl (by decide) rfl ?_
  refine v_goto (q := 3) dX12_all_44 (by decide) ?_
  refine v_sub [1, 2, 3, 4, 0] rfl ?_
  exact h3 h
set_option maxRecDepth 100000 in
set_option maxHeartbeats 4000000 in
theorem l_X12_all_3 {G : Gm} (hG : gF G = mFl) {σ : Hp} {o : Int64} {μ' : Mu} : ∀ (n : Nat) {μ : Mu} {x1 : Int32} {x2 : Int32} {x3 : Int32} {x4 : Int32} , f_X12_all_3 n μ x1 x2 x3 x4 = some μ' → V G yX12_all cX12_all 5 none rm_X12_all (zV G (σ, μ', o) 0 0) (σ, μ, o) 0 0 3 [(0, .ref (gM G 200)), (1, .int x1), (2, .int x2), (3, .int x3), (4, .int x4)] [] := by
  intro n
  induction n with
  | zero => intro _ _ _ _ _ h; cases h
  | succ n ih =>
    intro μ x1 x2 x3 x4 h
    replace h : b_X12_all_3 (f_X12_all_3 n) μ x1 x2 x3 x4 = some μ' := h
    unfold b_X12_all_3 at h
    refine v_iload 4 rfl dX12_all_3 rfl ?_
    refine v_aload_n 0 rfl dX12_all_5 rfl ?_
    refine v_mI (j := 1) (mg hG rfl) (by decide) rfl qf_RX12_223 dX12_all_6 rfl ?_
    refine v_icmp_ge 47 dX12_all_9 (by decide) rfl (fun c9 => ?_) (fun c9 => ?_)
    · have h := o_p c9 h
      obtain rfl := Option.some.inj h
      exact v_vret rfl (Nat.le_of_ble_eq_true rfl) (Nat.le_of_ble_eq_true rfl) dX12_all_47
    · have h := o_n c9 h
      refine v_iload 4 rfl dX12_all_12 rfl ?_
      refine v_iload_n 2 rfl dX12_all_14 rfl ?_
      refine v_icmp_eq 41 dX12_all_15 (by decide) rfl (fun c15 => ?_) (fun c15 => ?_)
      · have h := o_p c15 h
        exact l_X12_all_41 hG (fun h => ih h) h
      · have h := o_n c15 h
        refine v_aload_n 0 rfl dX12_all_18 rfl ?_
        refine v_iload_n 1 rfl dX12_all_19 rfl ?_
        refine v_iload_n 2 rfl dX12_all_20 rfl ?_
        refine v_iload 4 rfl dX12_all_21 rfl ?_
        refine v_aload_n 0 rfl dX12_all_23 rfl ?_
        refine v_mR (j := 33) (mg hG rfl) (by decide) rfl qf_RX12_88 dX12_all_24 rfl ?_
        refine v_iload_n 2 rfl dX12_all_27 rfl ?_
        obtain ⟨v28, e28, h⟩ := o_b h
        refine v_mA e28 (mg hG rfl) (by decide) rfl dX12_all_28 rfl ?_
        refine v_aload_n 0 rfl dX12_all_29 rfl ?_
        refine v_mR (j := 34) (mg hG rfl) (by decide) rfl qf_RX12_91 dX12_all_30 rfl ?_
        refine v_iload_n 2 rfl dX12_all_33 rfl ?_
        obtain ⟨v34, e34, h⟩ := o_b h
        refine v_mA e34 (mg hG rfl) (by decide) rfl dX12_all_34 rfl ?_
        refine v_iload_n 3 rfl dX12_all_35 rfl ?_
        refine v_iconst (v := (0 : Int32)) (by decide) dX12_all_36 rfl ?_
        obtain ⟨v37, e37, h⟩ := o_b h
        refine v_Vi (as := [.int x1, .int x2, .int x4, .int v28, .int v34, .int x3, .int (0 : Int32)]) (st := []) (c' := 0) (k' := 0) (k_X12_send hG e37) (rcv_m (mg hG rfl)) mk_X12_send qi_X12_send qe_X12_send qm_RX12_241 (ck rfl) rfl dX12_all_37 rfl rfl rfl ?_
        refine v_pop rfl dX12_all_40 rfl ?_
        exact l_X12_all_41 hG (fun h => ih h) h
set_option maxRecDepth 100000 in
set_option maxHeartbeats 4000000 in
theorem k_X12_all {G : Gm} (hG : gF G = mFl) {σ : Hp} {o : Int64} {μ' : Mu} {μ : Mu} {a1 : Int32} {a2 : Int32} {a3 : Int32} (h : f_X12_all μ a1 a2 a3 = some μ') : Cv G yX12_all cX12_all 5 none rm_X12_all [.ref (gM G 200), .int a1, .int a2, .int a3] (σ, μ, o) (σ, μ', o) 0 0 := by
  refine v_entV [(0, .ref (gM G 200)), (1, .int a1), (2, .int a2), (3, .int a3)] (by decide +kernel) (Nat.le_of_ble_eq_true rfl) rfl ?_
  unfold f_X12_all at h
  refine v_iconst (v := (0 : Int32)) (by decide) dX12_all_0 rfl ?_
  refine v_istore [(4, .int (0 : Int32)), (0, .ref (gM G 200)), (1, .int a1), (2, .int a2), (3, .int a3)] dX12_all_1 rfl (by decide) rfl ?_
  refine v_sub [1, 2, 3, 4, 0] rfl ?_
  exact l_X12_all_3 hG _ h
def rm_X12_load : Room := { frames := 0, cells := 0, slots := 0, locals := 0 }
set_option maxRecDepth 100000 in
set_option maxHeartbeats 4000000 in
theorem l_X12_load_52 {G : Gm} (hG : gF G = mFl) {σ : Hp} {o : Int64} {μ' : Mu} : ∀ (n : Nat) {μ : Mu} {x1 : Int32} {x2 : Int32} {x3 : Int32} {x4 : Int32} , f_X12_load_52 n μ x1 x2 x3 x4 = some μ' → V G yX12_load cX12_load 5 none rm_X12_load (zV G (σ, μ', o) 0 0) (σ, μ, o) 0 0 52 [(0, .ref (gM G 200)), (1, .int x1), (2, .int x2), (3, .int x3), (4, .int x4)] [] := by
  intro n
  induction n with
  | zero => intro _ _ _ _ _ h; cases h
  | succ n ih =>
    intro μ x1 x2 x3 x4 h
    replace h : b_X12_load_52 (f_X12_load_52 n) μ x1 x2 x3 x4 = some μ' := h
    unfold b_X12_load_52 at h
    refine v_iload 4 rfl dX12_load_52 rfl ?_
    refine v_iload_n 3 rfl dX12_load_54 rfl ?_
    refine v_icmp_ge 88 dX12_load_55 (by decide) rfl (fun c55 => ?_) (fun c55 => ?_)
    · have h := o_p c55 h
      obtain rfl := Option.some.inj h
      exact v_vret rfl (Nat.le_of_ble_eq_true rfl) (Nat.le_of_ble_eq_true rfl) dX12_load_88
    · have h := o_n c55 h
      refine v_aload_n 0 rfl dX12_load_58 rfl ?_
      refine v_mR (j := 31) (mg hG rfl) (by decide) rfl qf_RX12_82 dX12_load_59 rfl ?_
      refine v_bipush (v := (100 : Int32)) (by decide) dX12_load_62 rfl ?_
      refine v_iload_n 1 rfl dX12_load_64 rfl ?_
      refine v_imul dX12_load_65 rfl ?_
      refine v_iload 4 rfl dX12_load_66 rfl ?_
      refine v_iadd dX12_load_68 rfl ?_
      refine v_aload_n 0 rfl dX12_load_69 rfl ?_
      refine v_mR (j := 42) (mg hG rfl) (by decide) rfl qf_RX12_115 dX12_load_70 rfl ?_
      refine v_bipush (v := (100 : Int32)) (by decide) dX12_load_73 rfl ?_
      refine v_iload_n 2 rfl dX12_load_75 rfl ?_
      refine v_imul dX12_load_76 rfl ?_
      refine v_iload 4 rfl dX12_load_77 rfl ?_
      refine v_iadd dX12_load_79 rfl ?_
      obtain ⟨v80, e80, h⟩ := o_b h
      refine v_mA e80 (mg hG rfl) (by decide) rfl dX12_load_80 rfl ?_
      obtain ⟨s81, e81, h⟩ := o_b h
      refine v_mQ e81 (mg hG rfl) (by decide) rfl dX12_load_81 rfl ?_
      refine v_iinc (v := (x4 + 1)) [(4, .int (x4 + 1)), (0, .ref (gM G 200)), (1, .int x1), (2, .int x2), (3, .int x3)] 4 rfl rfl dX12_load_82 rfl (by decide) rfl ?_
      refine v_goto (q := 52) dX12_load_85 (by decide) ?_
      refine v_sub [1, 2, 3, 4, 0] rfl ?_
      exact ih h
set_option maxRecDepth 100000 in
set_option maxHeartbeats 4000000 in
theorem k_X12_load {G : Gm} (hG : gF G = mFl) {σ : Hp} {o : Int64} {μ' : Mu} {μ : Mu} {a1 : Int32} {a2 : Int32} {a3 : Int32} (h : f_X12_load μ a1 a2 a3 = some μ') : Cv G yX12_load cX12_load 5 none rm_X12_load [.ref (gM G 200), .int a1, .int a2, .int a3] (σ, μ, o) (σ, μ', o) 0 0 := by
  refine v_entV [(0, .ref (gM G 200)), (1, .int a1), (2, .int a2), (3, .int a3)] (by decide +kernel) (Nat.le_of_ble_eq_true rfl) rfl ?_
  unfold f_X12_load at h
  refine v_iload_n 1 rfl dX12_load_0 rfl ?_
  refine v_iconst (v := (-1 : Int32)) (by decide) dX12_load_1 rfl ?_
  refine v_icmp_ne 6 dX12_load_2 (by decide) rfl (fun c2 => ?_) (fun c2 => ?_)
  · have h := o_n c2 h
    refine v_aload_n 0 rfl dX12_load_6 rfl ?_
    refine v_mR (j := 28) (mg hG rfl) (by decide) rfl qf_RX12_72 dX12_load_7 rfl ?_
    refine v_iload_n 1 rfl dX12_load_10 rfl ?_
    refine v_aload_n 0 rfl dX12_load_11 rfl ?_
    refine v_mR (j := 39) (mg hG rfl) (by decide) rfl qf_RX12_106 dX12_load_12 rfl ?_
    refine v_iload_n 2 rfl dX12_load_15 rfl ?_
    obtain ⟨v16, e16, h⟩ := o_b h
    refine v_mA e16 (mg hG rfl) (by decide) rfl dX12_load_16 rfl ?_
    obtain ⟨s17, e17, h⟩ := o_b h
    refine v_mQ e17 (mg hG rfl) (by decide) rfl dX12_load_17 rfl ?_
    refine v_aload_n 0 rfl dX12_load_18 rfl ?_
    refine v_mR (j := 26) (mg hG rfl) (by decide) rfl qf_RX12_66 dX12_load_19 rfl ?_
    refine v_iload_n 1 rfl dX12_load_22 rfl ?_
    refine v_aload_n 0 rfl dX12_load_23 rfl ?_
    refine v_mR (j := 36) (mg hG rfl) (by decide) rfl qf_RX12_97 dX12_load_24 rfl ?_
    refine v_iload_n 2 rfl dX12_load_27 rfl ?_
    obtain ⟨v28, e28, h⟩ := o_b h
    refine v_mA e28 (mg hG rfl) (by decide) rfl dX12_load_28 rfl ?_
    obtain ⟨s29, e29, h⟩ := o_b h
    refine v_mQ e29 (mg hG rfl) (by decide) rfl dX12_load_29 rfl ?_
    refine v_aload_n 0 rfl dX12_load_30 rfl ?_
    refine v_mR (j := 27) (mg hG rfl) (by decide) rfl qf_RX12_69 dX12_load_31 rfl ?_
    refine v_iload_n 1 rfl dX12_load_34 rfl ?_
    refine v_aload_n 0 rfl dX12_load_35 rfl ?_
    refine v_mR (j := 37) (mg hG rfl) (by decide) rfl qf_RX12_100 dX12_load_36 rfl ?_
    refine v_iload_n 2 rfl dX12_load_39 rfl ?_
    obtain ⟨v40, e40, h⟩ := o_b h
    refine v_mA e40 (mg hG rfl) (by decide) rfl dX12_load_40 rfl ?_
    obtain ⟨s41, e41, h⟩ := o_b h
    refine v_mQ e41 (mg hG rfl) (by decide) rfl dX12_load_41 rfl ?_
    refine v_aload_n 0 rfl dX12_load_42 rfl ?_
    refine v_mR (j := 29) (mg hG rfl) (by decide) rfl qf_RX12_75 dX12_load_43 rfl ?_
    refine v_iload_n 1 rfl dX12_load_46 rfl ?_
    refine v_iload_n 3 rfl dX12_load_47 rfl ?_
    obtain ⟨s48, e48, h⟩ := o_b h
    refine v_mQ e48 (mg hG rfl) (by decide) rfl dX12_load_48 rfl ?_
    refine v_iconst (v := (0 : Int32)) (by decide) dX12_load_49 rfl ?_
    refine v_istore [(4, .int (0 : Int32)), (0, .ref (gM G 200)), (1, .int a1), (2, .int a2), (3, .int a3)] dX12_load_50 rfl (by decide) rfl ?_
    refine v_sub [1, 2, 3, 4, 0] rfl ?_
    exact l_X12_load_52 hG _ h
  · have h := o_p c2 h
    obtain rfl := Option.some.inj h
    exact v_vret rfl (Nat.le_of_ble_eq_true rfl) (Nat.le_of_ble_eq_true rfl) dX12_load_5
def rm_X12_stamp : Room := { frames := 1, cells := 0, slots := 0, locals := 28 }
set_option maxRecDepth 100000 in
set_option maxHeartbeats 4000000 in
theorem l_X12_stamp_20 {G : Gm} (hG : gF G = mFl) {σ : Hp} {o : Int64} {μ' : Mu} : ∀ (n : Nat) {μ : Mu} {x1 : Int32} {x2 : Int32} , f_X12_stamp_20 n μ x1 x2 = some μ' → V G yX12_stamp cX12_stamp 3 none rm_X12_stamp (zV G (σ, μ', o) 0 0) (σ, μ, o) 0 0 20 [(0, .ref (gM G 200)), (1, .int x1), (2, .int x2)] [] := by
  intro n
  induction n with
  | zero => intro _ _ _ h; cases h
  | succ n ih =>
    intro μ x1 x2 h
    replace h : b_X12_stamp_20 (f_X12_stamp_20 n) μ x1 x2 = some μ' := h
    unfold b_X12_stamp_20 at h
    refine v_iload_n 2 rfl dX12_stamp_20 rfl ?_
    refine v_aload_n 0 rfl dX12_stamp_21 rfl ?_
    refine v_mI (j := 1) (mg hG rfl) (by decide) rfl qf_RX12_223 dX12_stamp_22 rfl ?_
    refine v_icmp_ge 52 dX12_stamp_25 (by decide) rfl (fun c25 => ?_) (fun c25 => ?_)
    · have h := o_p c25 h
      obtain rfl := Option.some.inj h
      exact v_vret rfl (Nat.le_of_ble_eq_true rfl) (Nat.le_of_ble_eq_true rfl) dX12_stamp_52
    · have h := o_n c25 h
      refine v_aload_n 0 rfl dX12_stamp_28 rfl ?_
      refine v_iconst (v := (0 : Int32)) (by decide) dX12_stamp_29 rfl ?_
      refine v_iconst (v := (-1 : Int32)) (by decide) dX12_stamp_30 rfl ?_
      refine v_iload_n 2 rfl dX12_stamp_31 rfl ?_
      refine v_iconst (v := (0 : Int32)) (by decide) dX12_stamp_32 rfl ?_
      refine v_aload_n 0 rfl dX12_stamp_33 rfl ?_
      refine v_mI (j := 10) (mg hG rfl) (by decide) rfl qf_RX12_29 dX12_stamp_34 rfl ?_
      refine v_aload_n 0 rfl dX12_stamp_37 rfl ?_
      refine v_mI (j := 11) (mg hG rfl) (by decide) rfl qf_RX12_245 dX12_stamp_38 rfl ?_
      refine v_iload_n 1 rfl dX12_stamp_41 rfl ?_
      obtain ⟨v42, e42, h⟩ := o_b h
      refine v_Vi (as := [.int (0 : Int32), .int (-1 : Int32), .int x2, .int (0 : Int32), .int (μ.1 10), .int (μ.1 11), .int x1]) (st := []) (c' := 0) (k' := 0) (k_X12_send hG e42) (rcv_m (mg hG rfl)) mk_X12_send qi_X12_send qe_X12_send qm_RX12_241 (ck rfl) rfl dX12_stamp_42 rfl rfl rfl ?_
      refine v_pop rfl dX12_stamp_45 rfl ?_
      refine v_iinc (v := (x2 + 1)) [(2, .int (x2 + 1)), (0, .ref (gM G 200)), (1, .int x1)] 2 rfl rfl dX12_stamp_46 rfl (by decide) rfl ?_
      refine v_goto (q := 20) dX12_stamp_49 (by decide) ?_
      refine v_sub [1, 2, 0] rfl ?_
      exact ih h
set_option maxRecDepth 100000 in
set_option maxHeartbeats 4000000 in
theorem k_X12_stamp {G : Gm} (hG : gF G = mFl) {σ : Hp} {o : Int64} {μ' : Mu} {μ : Mu} {a1 : Int32} (h : f_X12_stamp μ a1 = some μ') : Cv G yX12_stamp cX12_stamp 3 none rm_X12_stamp [.ref (gM G 200), .int a1] (σ, μ, o) (σ, μ', o) 0 0 := by
  refine v_entV [(0, .ref (gM G 200)), (1, .int a1)] (by decide +kernel) (Nat.le_of_ble_eq_true rfl) rfl ?_
  unfold f_X12_stamp at h
  refine v_aload_n 0 rfl dX12_stamp_0 rfl ?_
  refine v_mI (j := 9) (mg hG rfl) (by decide) rfl qf_RX12_25 dX12_stamp_1 rfl ?_
  refine v_if_ne 8 dX12_stamp_4 (by decide) rfl (fun c4 => ?_) (fun c4 => ?_)
  · have h := o_n c4 h
    refine v_aload_n 0 rfl dX12_stamp_8 rfl ?_
    refine v_dup rfl dX12_stamp_9 rfl ?_
    refine v_mI (j := 11) (mg hG rfl) (by decide) rfl qf_RX12_245 dX12_stamp_10 rfl ?_
    refine v_iconst (v := (1 : Int32)) (by decide) dX12_stamp_13 rfl ?_
    refine v_iadd dX12_stamp_14 rfl ?_
    obtain ⟨s15, e15, h⟩ := o_b h
    refine v_mP e15 (mg hG rfl) (by decide) rfl rfl rfl rfl rfl qf_RX12_245 dX12_stamp_15 rfl ?_
    refine v_iconst (v := (0 : Int32)) (by decide) dX12_stamp_18 rfl ?_
    refine v_istore_n [(2, .int (0 : Int32)), (0, .ref (gM G 200)), (1, .int a1)] dX12_stamp_19 rfl (by decide) rfl ?_
    refine v_sub [1, 2, 0] rfl ?_
    exact l_X12_stamp_20 hG _ h
  · have h := o_p c4 h
    obtain rfl := Option.some.inj h
    exact v_vret rfl (Nat.le_of_ble_eq_true rfl) (Nat.le_of_ble_eq_true rfl) dX12_stamp_7
def rm_X12_execute : Room := { frames := 0, cells := 0, slots := 0, locals := 0 }
set_option maxRecDepth 100000 in
set_option maxHeartbeats 4000000 in
theorem l_X12_execute_198 {G : Gm} (hG : gF G = mFl) {σ : Hp} {o : Int64} {μ' : Mu} {rec50 : Mu → Int32 → Int32 → Int32 → Option Mu} (h50 : ∀ {μ : Mu} {x1 : Int32} {x2 : Int32} {x3 : Int32} , rec50 μ x1 x2 x3 = some μ' → V G yX12_execute cX12_execute 6 none rm_X12_execute (zV G (σ, μ', o) 0 0) (σ, μ, o) 0 0 50 [(0, .ref (gM G 200)), (1, .int x1), (2, .int x2), (3, .int x3)] []) {μ : Mu} {x1 : Int32} {x2 : Int32} {x3 : Int32} (h : f_X12_execute_198 rec50 μ x1 x2 x3 = some μ') : V G yX12_execute cX12_execute 6 none rm_X12_execute (zV G (σ, μ', o) 0 0) (σ, μ, o) 0 0 198 [(0, .ref (gM G 200)), (1, .int x1), (2, .int x2), (3, .int x3)] [] := by
  unfold f_X12_execute_198 at h
  refine v_iinc (v := (x3 + 1)) [(3, .int (x3 + 1)), (0, .ref (gM G 200)), (1, .int x1), (2, .int x2)] 3 rfl rfl dX12_execute_198 rfl (by decide) rfl ?_
  refine v_goto (q := 50) dX12_execute_201 (by decide) ?_
  refine v_sub [1, 2, 3, 0] rfl ?_
  exact h50 h
set_option maxRecDepth 100000 in
set_option maxHeartbeats 4000000 in
theorem l_X12_execute_170 {G : Gm} (hG : gF G = mFl) {σ : Hp} {o : Int64} {μ' : Mu} {rec50 : Mu → Int32 → Int32 → Int32 → Option Mu} (h50 : ∀ {μ : Mu} {x1 : Int32} {x2 : Int32} {x3 : Int32} , rec50 μ x1 x2 x3 = some μ' → V G yX12_execute cX12_execute 6 none rm_X12_execute (zV G (σ, μ', o) 0 0) (σ, μ, o) 0 0 50 [(0, .ref (gM G 200)), (1, .int x1), (2, .int x2), (3, .int x3)] []) {μ : Mu} {x1 : Int32} {x2 : Int32} {x3 : Int32} {x4 : Int32} {x5 : Int32} (h : f_X12_execute_170 rec50 μ x1 x2 x3 x4 x5 = some μ') : V G yX12_execute cX12_execute 6 none rm_X12_execute (zV G (σ, μ', o) 0 0) (σ, μ, o) 0 0 170 [(0, .ref (gM G 200)), (1, .int x1), (2, .int x2), (3, .int x3), (4, .int x4), (5, .int x5)] [] := by
  unfold f_X12_execute_170 at h
  refine v_aload_n 0 rfl dX12_execute_170 rfl ?_
  refine v_mR (j := 6) (mg hG rfl) (by decide) rfl qf_RX12_16 dX12_execute_171 rfl ?_
  refine v_iload 4 rfl dX12_execute_174 rfl ?_
  obtain ⟨v176, e176, h⟩ := o_b h
  refine v_mA e176 (mg hG rfl) (by decide) rfl dX12_execute_176 rfl ?_
  refine v_iconst (v := (2 : Int32)) (by decide) dX12_execute_177 rfl ?_
  refine v_icmp_ne 198 dX12_execute_178 (by decide) rfl (fun c178 => ?_) (fun c178 => ?_)
  · have h := o_n c178 h
    refine v_sub [0, 1, 2, 3] rfl ?_
    exact l_X12_execute_198 hG h50 h
  · have h := o_p c178 h
    refine v_aload_n 0 rfl dX12_execute_181 rfl ?_
    refine v_mR (j := 76) (mg hG rfl) (by decide) rfl qf_RX12_214 dX12_execute_182 rfl ?_
    refine v_iload 5 rfl dX12_execute_185 rfl ?_
    refine v_dup2 rfl rfl dX12_execute_187 rfl ?_
    obtain ⟨v188, e188, h⟩ := o_b h
    refine v_mA e188 (mg hG rfl) (by decide) rfl dX12_execute_188 rfl ?_
    refine v_aload_n 0 rfl dX12_execute_189 rfl ?_
    refine v_mR (j := 8) (mg hG rfl) (by decide) rfl qf_RX12_22 dX12_execute_190 rfl ?_
    refine v_iload 4 rfl dX12_execute_193 rfl ?_
    obtain ⟨v195, e195, h⟩ := o_b h
    refine v_mA e195 (mg hG rfl) (by decide) rfl dX12_execute_195 rfl ?_
    refine v_iadd dX12_execute_196 rfl ?_
    obtain ⟨s197, e197, h⟩ := o_b h
    refine v_mQ e197 (mg hG rfl) (by decide) rfl dX12_execute_197 rfl ?_
    refine v_sub [0, 1, 2, 3] rfl ?_
    exact l_X12_execute_198 hG h50 h
set_option maxRecDepth 100000 in
set_option maxHeartbeats 4000000 in
theorem l_X12_execute_50 {G : Gm} (hG : gF G = mFl) {σ : Hp} {o : Int64} {μ' : Mu} : ∀ (n : Nat) {μ : Mu} {x1 : Int32} {x2 : Int32} {x3 : Int32} , f_X12_execute_50 n μ x1 x2 x3 = some μ' → V G yX12_execute cX12_execute 6 none rm_X12_execute (zV G (σ, μ', o) 0 0) (σ, μ, o) 0 0 50 [(0, .ref (gM G 200)), (1, .int x1), (2, .int x2), (3, .int x3)] [] := by
  intro n
  induction n with
  | zero => intro _ _ _ _ h; cases h
  | succ n ih =>
    intro μ x1 x2 x3 h
    replace h : b_X12_execute_50 (f_X12_execute_50 n) μ x1 x2 x3 = some μ' := h
    unfold b_X12_execute_50 at h
    refine v_iload_n 3 rfl dX12_execute_50 rfl ?_
    refine v_iload_n 2 rfl dX12_execute_51 rfl ?_
    refine v_icmp_ge 204 dX12_execute_52 (by decide) rfl (fun c52 => ?_) (fun c52 => ?_)
    · have h := o_p c52 h
      obtain rfl := Option.some.inj h
      exact v_vret rfl (Nat.le_of_ble_eq_true rfl) (Nat.le_of_ble_eq_true rfl) dX12_execute_204
    · have h := o_n c52 h
      refine v_aload_n 0 rfl dX12_execute_55 rfl ?_
      refine v_mR (j := 42) (mg hG rfl) (by decide) rfl qf_RX12_115 dX12_execute_56 rfl ?_
      refine v_bipush (v := (100 : Int32)) (by decide) dX12_execute_59 rfl ?_
      refine v_iload_n 1 rfl dX12_execute_61 rfl ?_
      refine v_imul dX12_execute_62 rfl ?_
      refine v_iload_n 3 rfl dX12_execute_63 rfl ?_
      refine v_iadd dX12_execute_64 rfl ?_
      obtain ⟨v65, e65, h⟩ := o_b h
      refine v_mA e65 (mg hG rfl) (by decide) rfl dX12_execute_65 rfl ?_
      refine v_istore [(4, .int v65), (0, .ref (gM G 200)), (1, .int x1), (2, .int x2), (3, .int x3)] dX12_execute_66 rfl (by decide) rfl ?_
      refine v_iload 0 rfl dX12_execute_68 rfl ?_
      refine v_if_eq 198 dX12_execute_70 (by decide) rfl (fun c70 => ?_) (fun c70 => ?_)
      · have h := o_p c70 h
        refine v_sub [1, 2, 3, 4] rfl ?_
        exact l_X12_execute_198 hG (fun h => ih h) h
      · have h := o_n c70 h
        refine v_aload_n 1 rfl dX12_execute_73 rfl ?_
        refine v_mR (j := 5) (mg hG rfl) (by decide) rfl qf_RX12_13 dX12_execute_74 rfl ?_
        refine v_iload 0 rfl dX12_execute_77 rfl ?_
        obtain ⟨v79, e79, h⟩ := o_b h
        refine v_mA e79 (mg hG rfl) (by decide) rfl dX12_execute_79 rfl ?_
        refine v_aload_n 1 rfl dX12_execute_80 rfl ?_
        refine v_mR (j := 77) (mg hG rfl) (by decide) rfl qf_RX12_217 dX12_execute_81 rfl ?_
        refine v_aload_n 1 rfl dX12_execute_84 rfl ?_
        refine v_mR (j := 4) (mg hG rfl) (by decide) rfl qf_RX12_7 dX12_execute_85 rfl ?_
        refine v_iload 0 rfl dX12_execute_88 rfl ?_
        obtain ⟨v90, e90, h⟩ := o_b h
        refine v_mA e90 (mg hG rfl) (by decide) rfl dX12_execute_90 rfl ?_
        obtain ⟨v91, e91, h⟩ := o_b h
        refine v_mA e91 (mg hG rfl) (by decide) rfl dX12_execute_91 rfl ?_
        refine v_icmp_gt 98 dX12_execute_92 (by decide) rfl (fun c92 => ?_) (fun c92 => ?_)
        · have h := o_p c92 h
          refine v_aload_n 1 rfl dX12_execute_98 rfl ?_
          refine v_mR (j := 7) (mg hG rfl) (by decide) rfl qf_RX12_19 dX12_execute_99 rfl ?_
          refine v_iload 0 rfl dX12_execute_102 rfl ?_
          obtain ⟨v104, e104, h⟩ := o_b h
          refine v_mA e104 (mg hG rfl) (by decide) rfl dX12_execute_104 rfl ?_
          refine v_istore [(5, .int v104), (4, .int v65), (0, .ref (gM G 200)), (1, .int x1), (2, .int x2), (3, .int x3)] dX12_execute_105 rfl (by decide) rfl ?_
          refine v_aload_n 2 rfl dX12_execute_107 rfl ?_
          refine v_mR (j := 77) (mg hG rfl) (by decide) rfl qf_RX12_217 dX12_execute_108 rfl ?_
          refine v_aload_n 2 rfl dX12_execute_111 rfl ?_
          refine v_mR (j := 4) (mg hG rfl) (by decide) rfl qf_RX12_7 dX12_execute_112 rfl ?_
          refine v_iload 1 rfl dX12_execute_115 rfl ?_
          obtain ⟨v117, e117, h⟩ := o_b h
          refine v_mA e117 (mg hG rfl) (by decide) rfl dX12_execute_117 rfl ?_
          refine v_aload_n 2 rfl dX12_execute_118 rfl ?_
          refine v_mR (j := 5) (mg hG rfl) (by decide) rfl qf_RX12_13 dX12_execute_119 rfl ?_
          refine v_iload 1 rfl dX12_execute_122 rfl ?_
          obtain ⟨v124, e124, h⟩ := o_b h
          refine v_mA e124 (mg hG rfl) (by decide) rfl dX12_execute_124 rfl ?_
          obtain ⟨s125, e125, h⟩ := o_b h
          refine v_mQ e125 (mg hG rfl) (by decide) rfl dX12_execute_125 rfl ?_
          refine v_aload_n 2 rfl dX12_execute_126 rfl ?_
          refine v_mR (j := 78) (mg hG rfl) (by decide) rfl qf_RX12_220 dX12_execute_127 rfl ?_
          refine v_aload_n 2 rfl dX12_execute_130 rfl ?_
          refine v_mR (j := 4) (mg hG rfl) (by decide) rfl qf_RX12_7 dX12_execute_131 rfl ?_
          refine v_iload 1 rfl dX12_execute_134 rfl ?_
          obtain ⟨v136, e136, h⟩ := o_b h
          refine v_mA e136 (mg hG rfl) (by decide) rfl dX12_execute_136 rfl ?_
          refine v_aload_n 2 rfl dX12_execute_137 rfl ?_
          refine v_mR (j := 76) (mg hG rfl) (by decide) rfl qf_RX12_214 dX12_execute_138 rfl ?_
          refine v_iload 0 rfl dX12_execute_141 rfl ?_
          obtain ⟨v143, e143, h⟩ := o_b h
          refine v_mA e143 (mg hG rfl) (by decide) rfl dX12_execute_143 rfl ?_
          obtain ⟨s144, e144, h⟩ := o_b h
          refine v_mQ e144 (mg hG rfl) (by decide) rfl dX12_execute_144 rfl ?_
          refine v_aload_n 2 rfl dX12_execute_145 rfl ?_
          refine v_mR (j := 6) (mg hG rfl) (by decide) rfl qf_RX12_16 dX12_execute_146 rfl ?_
          refine v_iload 1 rfl dX12_execute_149 rfl ?_
          obtain ⟨v151, e151, h⟩ := o_b h
          refine v_mA e151 (mg hG rfl) (by decide) rfl dX12_execute_151 rfl ?_
          refine v_iconst (v := (1 : Int32)) (by decide) dX12_execute_152 rfl ?_
          refine v_icmp_ne 170 dX12_execute_153 (by decide) rfl (fun c153 => ?_) (fun c153 => ?_)
          · have h := o_n c153 h
            refine v_sub [2, 3, 4, 5, 1, 0] rfl ?_
            exact l_X12_execute_170 hG (fun h => ih h) h
          · have h := o_p c153 h
            refine v_aload_n 2 rfl dX12_execute_156 rfl ?_
            refine v_mR (j := 76) (mg hG rfl) (by decide) rfl qf_RX12_214 dX12_execute_157 rfl ?_
            refine v_iload 0 rfl dX12_execute_160 rfl ?_
            refine v_aload_n 2 rfl dX12_execute_162 rfl ?_
            refine v_mR (j := 8) (mg hG rfl) (by decide) rfl qf_RX12_22 dX12_execute_163 rfl ?_
            refine v_iload 1 rfl dX12_execute_166 rfl ?_
            obtain ⟨v168, e168, h⟩ := o_b h
            refine v_mA e168 (mg hG rfl) (by decide) rfl dX12_execute_168 rfl ?_
            obtain ⟨s169, e169, h⟩ := o_b h
            refine v_mQ e169 (mg hG rfl) (by decide) rfl dX12_execute_169 rfl ?_
            refine v_sub [2, 3, 4, 5, 1, 0] rfl ?_
            exact l_X12_execute_170 hG (fun h => ih h) h
        · have h := o_n c92 h
          refine v_goto (q := 198) dX12_execute_95 (by decide) ?_
          refine v_sub [1, 2, 3, 4] rfl ?_
          exact l_X12_execute_198 hG (fun h => ih h) h
set_option maxRecDepth 100000 in
set_option maxHeartbeats 4000000 in
theorem l_X12_execute_48 {G : Gm} (hG : gF G = mFl) {σ : Hp} {o : Int64} {μ' : Mu} {μ : Mu} {x1 : Int32} {x2 : Int32} (h : f_X12_execute_48 μ x1 x2 = some μ') : V G yX12_execute cX12_execute 6 none rm_X12_execute (zV G (σ, μ', o) 0 0) (σ, μ, o) 0 0 48 [(0, .ref (gM G 200)), (1, .int x1), (2, .int x2)] [] := by
  unfold f_X12_execute_48 at h
  refine v_iconst (v := (0 : Int32)) (by decide) dX12_execute_48 rfl ?_
  refine v_istore_n [(3, .int (0 : Int32)), (0, .ref (gM G 200)), (1, .int x1), (2, .int x2)] dX12_execute_49 rfl (by decide) rfl ?_
  refine v_sub [1, 2, 3, 0] rfl ?_
  exact l_X12_execute_50 hG _ h
set_option maxRecDepth 100000 in
set_option maxHeartbeats 4000000 in
theorem l_X12_execute_23 {G : Gm} (hG : gF G = mFl) {σ : Hp} {o : Int64} {μ' : Mu} : ∀ (n : Nat) {μ : Mu} {x1 : Int32} {x2 : Int32} {x3 : Int32} , f_X12_execute_23 n μ x1 x2 x3 = some μ' → V G yX12_execute cX12_execute 6 none rm_X12_execute (zV G (σ, μ', o) 0 0) (σ, μ, o) 0 0 23 [(0, .ref (gM G 200)), (1, .int x1), (2, .int x2), (3, .int x3)] [] := by
  intro n
  induction n with
  | zero => intro _ _ _ _ h; cases h
  | succ n ih =>
    intro μ x1 x2 x3 h
    replace h : b_X12_execute_23 (f_X12_execute_23 n) μ x1 x2 x3 = some μ' := h
    unfold b_X12_execute_23 at h
    refine v_iload_n 3 rfl dX12_execute_23 rfl ?_
    refine v_iconst (v := (4 : Int32)) (by decide) dX12_execute_24 rfl ?_
    refine v_icmp_ge 48 dX12_execute_25 (by decide) rfl (fun c25 => ?_) (fun c25 => ?_)
    · have h := o_p c25 h
      refine v_sub [0, 1, 2] rfl ?_
      exact l_X12_execute_48 hG h
    · have h := o_n c25 h
      refine v_aload_n 0 rfl dX12_execute_28 rfl ?_
      refine v_mR (j := 77) (mg hG rfl) (by decide) rfl qf_RX12_217 dX12_execute_29 rfl ?_
      refine v_iload_n 3 rfl dX12_execute_32 rfl ?_
      refine v_iconst (v := (0 : Int32)) (by decide) dX12_execute_33 rfl ?_
      obtain ⟨s34, e34, h⟩ := o_b h
      refine v_mQ e34 (mg hG rfl) (by decide) rfl dX12_execute_34 rfl ?_
      refine v_aload_n 0 rfl dX12_execute_35 rfl ?_
      refine v_mR (j := 78) (mg hG rfl) (by decide) rfl qf_RX12_220 dX12_execute_36 rfl ?_
      refine v_iload_n 3 rfl dX12_execute_39 rfl ?_
      refine v_iconst (v := (0 : Int32)) (by decide) dX12_execute_40 rfl ?_
      obtain ⟨s41, e41, h⟩ := o_b h
      refine v_mQ e41 (mg hG rfl) (by decide) rfl dX12_execute_41 rfl ?_
      refine v_iinc (v := (x3 + 1)) [(3, .int (x3 + 1)), (0, .ref (gM G 200)), (1, .int x1), (2, .int x2)] 3 rfl rfl dX12_execute_42 rfl (by decide) rfl ?_
      refine v_goto (q := 23) dX12_execute_45 (by decide) ?_
      refine v_sub [1, 2, 3, 0] rfl ?_
      exact ih h
set_option maxRecDepth 100000 in
set_option maxHeartbeats 4000000 in
theorem l_X12_execute_21 {G : Gm} (hG : gF G = mFl) {σ : Hp} {o : Int64} {μ' : Mu} {μ : Mu} {x1 : Int32} {x2 : Int32} (h : f_X12_execute_21 μ x1 x2 = some μ') : V G yX12_execute cX12_execute 6 none rm_X12_execute (zV G (σ, μ', o) 0 0) (σ, μ, o) 0 0 21 [(0, .ref (gM G 200)), (1, .int x1), (2, .int x2)] [] := by
  unfold f_X12_execute_21 at h
  refine v_iconst (v := (0 : Int32)) (by decide) dX12_execute_21 rfl ?_
  refine v_istore_n [(3, .int (0 : Int32)), (0, .ref (gM G 200)), (1, .int x1), (2, .int x2)] dX12_execute_22 rfl (by decide) rfl ?_
  refine v_sub [1, 2, 3, 0] rfl ?_
  exact l_X12_execute_23 hG _ h
set_option maxRecDepth 100000 in
set_option maxHeartbeats 4000000 in
theorem l_X12_execute_2 {G : Gm} (hG : gF G = mFl) {σ : Hp} {o : Int64} {μ' : Mu} : ∀ (n : Nat) {μ : Mu} {x1 : Int32} {x2 : Int32} {x3 : Int32} , f_X12_execute_2 n μ x1 x2 x3 = some μ' → V G yX12_execute cX12_execute 6 none rm_X12_execute (zV G (σ, μ', o) 0 0) (σ, μ, o) 0 0 2 [(0, .ref (gM G 200)), (1, .int x1), (2, .int x2), (3, .int x3)] [] := by
  intro n
  induction n with
  | zero => intro _ _ _ _ h; cases h
  | succ n ih =>
    intro μ x1 x2 x3 h
    replace h : b_X12_execute_2 (f_X12_execute_2 n) μ x1 x2 x3 = some μ' := h
    unfold b_X12_execute_2 at h
    refine v_iload_n 3 rfl dX12_execute_2 rfl ?_
    refine v_bipush (v := (8 : Int32)) (by decide) dX12_execute_3 rfl ?_
    refine v_icmp_ge 21 dX12_execute_5 (by decide) rfl (fun c5 => ?_) (fun c5 => ?_)
    · have h := o_p c5 h
      refine v_sub [0, 1, 2] rfl ?_
      exact l_X12_execute_21 hG h
    · have h := o_n c5 h
      refine v_aload_n 0 rfl dX12_execute_8 rfl ?_
      refine v_mR (j := 76) (mg hG rfl) (by decide) rfl qf_RX12_214 dX12_execute_9 rfl ?_
      refine v_iload_n 3 rfl dX12_execute_12 rfl ?_
      refine v_iconst (v := (0 : Int32)) (by decide) dX12_execute_13 rfl ?_
      obtain ⟨s14, e14, h⟩ := o_b h
      refine v_mQ e14 (mg hG rfl) (by decide) rfl dX12_execute_14 rfl ?_
      refine v_iinc (v := (x3 + 1)) [(3, .int (x3 + 1)), (0, .ref (gM G 200)), (1, .int x1), (2, .int x2)] 3 rfl rfl dX12_execute_15 rfl (by decide) rfl ?_
      refine v_goto (q := 2) dX12_execute_18 (by decide) ?_
      refine v_sub [1, 2, 3, 0] rfl ?_
      exact ih h
set_option maxRecDepth 100000 in
set_option maxHeartbeats 4000000 in
theorem k_X12_execute {G : Gm} (hG : gF G = mFl) {σ : Hp} {o : Int64} {μ' : Mu} {μ : Mu} {a1 : Int32} {a2 : Int32} (h : f_X12_execute μ a1 a2 = some μ') : Cv G yX12_execute cX12_execute 6 none rm_X12_execute [.ref (gM G 200), .int a1, .int a2] (σ, μ, o) (σ, μ', o) 0 0 := by
  refine v_entV [(0, .ref (gM G 200)), (1, .int a1), (2, .int a2)] (by decide +kernel) (Nat.le_of_ble_eq_true rfl) rfl ?_
  unfold f_X12_execute at h
  refine v_iconst (v := (0 : Int32)) (by decide) dX12_execute_0 rfl ?_
  refine v_istore_n [(3, .int (0 : Int32)), (0, .ref (gM G 200)), (1, .int a1), (2, .int a2)] dX12_execute_1 rfl (by decide) rfl ?_
  refine v_sub [1, 2, 3, 0] rfl ?_
  exact l_X12_execute_2 hG _ h
def rm_X12_leads : Room := { frames := 0, cells := 0, slots := 0, locals := 0 }
set_option maxRecDepth 100000 in
set_option maxHeartbeats 4000000 in
theorem k_X12_leads {G : Gm} (hG : gF G = mFl) {σ : Hp} {o : Int64} {r : Int32} {μ : Mu} {a1 : Int32} (h : f_X12_leads μ a1 = some r) : Ci G yX12_leads cX12_leads 2 (some .boolean) rm_X12_leads [.ref (gM G 200), .int a1] (σ, μ, o) r (σ, μ, o) 0 0 := by
  refine v_entI [(0, .ref (gM G 200)), (1, .int a1)] (by decide +kernel) (Nat.le_of_ble_eq_true rfl) rfl ?_
  unfold f_X12_leads at h
  refine v_aload_n 0 rfl dX12_leads_0 rfl ?_
  refine v_mR (j := 33) (mg hG rfl) (by decide) rfl qf_RX12_88 dX12_leads_1 rfl ?_
  refine v_iload_n 1 rfl dX12_leads_4 rfl ?_
  obtain ⟨v5, e5, h⟩ := o_b h
  refine v_mA e5 (mg hG rfl) (by decide) rfl dX12_leads_5 rfl ?_
  refine v_aload_n 0 rfl dX12_leads_6 rfl ?_
  refine v_mI (j := 1) (mg hG rfl) (by decide) rfl qf_RX12_223 dX12_leads_7 rfl ?_
  obtain ⟨⟨⟩, e10, h⟩ := o_b h
  refine v_irem (nz_of e10) dX12_leads_10 rfl ?_
  refine v_iload_n 1 rfl dX12_leads_11 rfl ?_
  refine v_icmp_ne 19 dX12_leads_12 (by decide) rfl (fun c12 => ?_) (fun c12 => ?_)
  · have h := o_n c12 h
    refine v_iconst (v := (0 : Int32)) (by decide) dX12_leads_19 rfl ?_
    obtain rfl := Option.some.inj h
    exact v_iret rfl rfl (Nat.le_of_ble_eq_true rfl) (Nat.le_of_ble_eq_true rfl) dX12_leads_20
  · have h := o_p c12 h
    refine v_iconst (v := (1 : Int32)) (by decide) dX12_leads_15 rfl ?_
    refine v_goto (q := 20) dX12_leads_16 (by decide) ?_
    obtain rfl := Option.some.inj h
    exact v_iret rfl rfl (Nat.le_of_ble_eq_true rfl) (Nat.le_of_ble_eq_true rfl) dX12_leads_20
def rm_X12_leader : Room := { frames := 0, cells := 0, slots := 0, locals := 0 }
set_option maxRecDepth 100000 in
set_option maxHeartbeats 4000000 in
theorem k_X12_leader {G : Gm} (hG : gF G = mFl) {σ : Hp} {o : Int64} {r : Int32} {μ : Mu} {a1 : Int32} (h : f_X12_leader μ a1 = some r) : Ci G yX12_leader cX12_leader 2 (some .int) rm_X12_leader [.ref (gM G 200), .int a1] (σ, μ, o) r (σ, μ, o) 0 0 := by
  refine v_entI [(0, .ref (gM G 200)), (1, .int a1)] (by decide +kernel) (Nat.le_of_ble_eq_true rfl) rfl ?_
  unfold f_X12_leader at h
  refine v_aload_n 0 rfl dX12_leader_0 rfl ?_
  refine v_mR (j := 33) (mg hG rfl) (by decide) rfl qf_RX12_88 dX12_leader_1 rfl ?_
  refine v_iload_n 1 rfl dX12_leader_4 rfl ?_
  obtain ⟨v5, e5, h⟩ := o_b h
  refine v_mA e5 (mg hG rfl) (by decide) rfl dX12_leader_5 rfl ?_
  refine v_aload_n 0 rfl dX12_leader_6 rfl ?_
  refine v_mI (j := 1) (mg hG rfl) (by decide) rfl qf_RX12_223 dX12_leader_7 rfl ?_
  obtain ⟨⟨⟩, e10, h⟩ := o_b h
  refine v_irem (nz_of e10) dX12_leader_10 rfl ?_
  obtain rfl := Option.some.inj h
  exact v_iret rfl rfl (Nat.le_of_ble_eq_true rfl) (Nat.le_of_ble_eq_true rfl) dX12_leader_11
def rm_X12_executed : Room := { frames := 1, cells := 0, slots := 0, locals := 21 }
set_option maxRecDepth 100000 in
set_option maxHeartbeats 4000000 in
theorem l_X12_executed_25 {G : Gm} (hG : gF G = mFl) {σ : Hp} {o : Int64} {r : Int32} {μ : Mu} {x1 : Int32} (h : f_X12_executed_25 μ x1 = some r) : V G yX12_executed cX12_executed 2 (some .int) rm_X12_executed (zI G r (σ, μ, o) 0 0) (σ, μ, o) 0 0 25 [(0, .ref (gM G 200)), (1, .int x1)] [] := by
  unfold f_X12_executed_25 at h
  refine v_aload_n 0 rfl dX12_executed_25 rfl ?_
  refine v_mR (j := 40) (mg hG rfl) (by decide) rfl qf_RX12_109 dX12_executed_26 rfl ?_
  refine v_iload_n 1 rfl dX12_executed_29 rfl ?_
  obtain ⟨v30, e30, h⟩ := o_b h
  refine v_mA e30 (mg hG rfl) (by decide) rfl dX12_executed_30 rfl ?_
  refine v_aload_n 0 rfl dX12_executed_31 rfl ?_
  refine v_mR (j := 38) (mg hG rfl) (by decide) rfl qf_RX12_103 dX12_executed_32 rfl ?_
  refine v_iload_n 1 rfl dX12_executed_35 rfl ?_
  obtain ⟨v36, e36, h⟩ := o_b h
  refine v_mA e36 (mg hG rfl) (by decide) rfl dX12_executed_36 rfl ?_
  refine v_icmp_ge 49 dX12_executed_37 (by decide) rfl (fun c37 => ?_) (fun c37 => ?_)
  · have h := o_p c37 h
    refine v_aload_n 0 rfl dX12_executed_49 rfl ?_
    refine v_mR (j := 38) (mg hG rfl) (by decide) rfl qf_RX12_103 dX12_executed_50 rfl ?_
    refine v_iload_n 1 rfl dX12_executed_53 rfl ?_
    obtain ⟨v54, e54, h⟩ := o_b h
    refine v_mA e54 (mg hG rfl) (by decide) rfl dX12_executed_54 rfl ?_
    obtain rfl := Option.some.inj h
    exact v_iret rfl rfl (Nat.le_of_ble_eq_true rfl) (Nat.le_of_ble_eq_true rfl) dX12_executed_55
  · have h := o_n c37 h
    refine v_aload_n 0 rfl dX12_executed_40 rfl ?_
    refine v_mR (j := 40) (mg hG rfl) (by decide) rfl qf_RX12_109 dX12_executed_41 rfl ?_
    refine v_iload_n 1 rfl dX12_executed_44 rfl ?_
    obtain ⟨v45, e45, h⟩ := o_b h
    refine v_mA e45 (mg hG rfl) (by decide) rfl dX12_executed_45 rfl ?_
    refine v_goto (q := 55) dX12_executed_46 (by decide) ?_
    obtain rfl := Option.some.inj h
    exact v_iret rfl rfl (Nat.le_of_ble_eq_true rfl) (Nat.le_of_ble_eq_true rfl) dX12_executed_55
set_option maxRecDepth 100000 in
set_option maxHeartbeats 4000000 in
theorem k_X12_executed {G : Gm} (hG : gF G = mFl) {σ : Hp} {o : Int64} {r : Int32} {μ : Mu} {a1 : Int32} (h : f_X12_executed μ a1 = some r) : Ci G yX12_executed cX12_executed 2 (some .int) rm_X12_executed [.ref (gM G 200), .int a1] (σ, μ, o) r (σ, μ, o) 0 0 := by
  refine v_entI [(0, .ref (gM G 200)), (1, .int a1)] (by decide +kernel) (Nat.le_of_ble_eq_true rfl) rfl ?_
  unfold f_X12_executed at h
  refine v_aload_n 0 rfl dX12_executed_0 rfl ?_
  refine v_iload_n 1 rfl dX12_executed_1 rfl ?_
  obtain ⟨v2, e2, h⟩ := o_b h
  refine v_Vi (as := [.int a1]) (st := []) (c' := 0) (k' := 0) (k_X12_leads hG e2) (rcv_m (mg hG rfl)) mk_X12_leads qi_X12_leads qe_X12_leads qm_RX12_248 (ck rfl) rfl dX12_executed_2 rfl rfl rfl ?_
  refine v_if_eq 25 dX12_executed_5 (by decide) rfl (fun c5 => ?_) (fun c5 => ?_)
  · have h := o_p c5 h
    exact l_X12_executed_25 hG h
  · have h := o_n c5 h
    refine v_aload_n 0 rfl dX12_executed_8 rfl ?_
    refine v_mR (j := 35) (mg hG rfl) (by decide) rfl qf_RX12_94 dX12_executed_9 rfl ?_
    refine v_iload_n 1 rfl dX12_executed_12 rfl ?_
    obtain ⟨v13, e13, h⟩ := o_b h
    refine v_mA e13 (mg hG rfl) (by decide) rfl dX12_executed_13 rfl ?_
    refine v_iconst (v := (2 : Int32)) (by decide) dX12_executed_14 rfl ?_
    refine v_icmp_eq 25 dX12_executed_15 (by decide) rfl (fun c15 => ?_) (fun c15 => ?_)
    · have h := o_p c15 h
      exact l_X12_executed_25 hG h
    · have h := o_n c15 h
      refine v_aload_n 0 rfl dX12_executed_18 rfl ?_
      refine v_mR (j := 38) (mg hG rfl) (by decide) rfl qf_RX12_103 dX12_executed_19 rfl ?_
      refine v_iload_n 1 rfl dX12_executed_22 rfl ?_
      obtain ⟨v23, e23, h⟩ := o_b h
      refine v_mA e23 (mg hG rfl) (by decide) rfl dX12_executed_23 rfl ?_
      obtain rfl := Option.some.inj h
      exact v_iret rfl rfl (Nat.le_of_ble_eq_true rfl) (Nat.le_of_ble_eq_true rfl) dX12_executed_24
def rm_X12_held : Room := { frames := 0, cells := 0, slots := 0, locals := 0 }
set_option maxRecDepth 100000 in
set_option maxHeartbeats 4000000 in
theorem l_X12_held_2 {G : Gm} (hG : gF G = mFl) {σ : Hp} {o : Int64} {r : Int32} {μ : Mu} : ∀ (n : Nat) {x1 : Int32} {x2 : Int32} {x3 : Int32} , f_X12_held_2 n μ x1 x2 x3 = some r → V G yX12_held cX12_held 4 (some .int) rm_X12_held (zI G r (σ, μ, o) 0 0) (σ, μ, o) 0 0 2 [(0, .ref (gM G 200)), (1, .int x1), (2, .int x2), (3, .int x3)] [] := by
  intro n
  induction n with
  | zero => intro _ _ _ h; cases h
  | succ n ih =>
    intro x1 x2 x3 h
    replace h : b_X12_held_2 (f_X12_held_2 n) μ x1 x2 x3 = some r := h
    unfold b_X12_held_2 at h
    refine v_iload_n 3 rfl dX12_held_2 rfl ?_
    refine v_aload_n 0 rfl dX12_held_3 rfl ?_
    refine v_mR (j := 43) (mg hG rfl) (by decide) rfl qf_RX12_118 dX12_held_4 rfl ?_
    refine v_iload_n 1 rfl dX12_held_7 rfl ?_
    obtain ⟨v8, e8, h⟩ := o_b h
    refine v_mA e8 (mg hG rfl) (by decide) rfl dX12_held_8 rfl ?_
    refine v_icmp_ge 35 dX12_held_9 (by decide) rfl (fun c9 => ?_) (fun c9 => ?_)
    · have h := o_p c9 h
      refine v_iconst (v := (-1 : Int32)) (by decide) dX12_held_35 rfl ?_
      obtain rfl := Option.some.inj h
      exact v_iret rfl rfl (Nat.le_of_ble_eq_true rfl) (Nat.le_of_ble_eq_true rfl) dX12_held_36
    · have h := o_n c9 h
      refine v_aload_n 0 rfl dX12_held_12 rfl ?_
      refine v_mR (j := 44) (mg hG rfl) (by decide) rfl qf_RX12_121 dX12_held_13 rfl ?_
      refine v_bipush (v := (12 : Int32)) (by decide) dX12_held_16 rfl ?_
      refine v_iload_n 1 rfl dX12_held_18 rfl ?_
      refine v_imul dX12_held_19 rfl ?_
      refine v_iload_n 3 rfl dX12_held_20 rfl ?_
      refine v_iadd dX12_held_21 rfl ?_
      obtain ⟨v22, e22, h⟩ := o_b h
      refine v_mA e22 (mg hG rfl) (by decide) rfl dX12_held_22 rfl ?_
      refine v_iload_n 2 rfl dX12_held_23 rfl ?_
      refine v_icmp_ne 29 dX12_held_24 (by decide) rfl (fun c24 => ?_) (fun c24 => ?_)
      · have h := o_n c24 h
        refine v_iinc (v := (x3 + 1)) [(3, .int (x3 + 1)), (0, .ref (gM G 200)), (1, .int x1), (2, .int x2)] 3 rfl rfl dX12_held_29 rfl (by decide) rfl ?_
        refine v_goto (q := 2) dX12_held_32 (by decide) ?_
        refine v_sub [1, 2, 3, 0] rfl ?_
        exact ih h
      · have h := o_p c24 h
        refine v_iload_n 3 rfl dX12_held_27 rfl ?_
        obtain rfl := Option.some.inj h
        exact v_iret rfl rfl (Nat.le_of_ble_eq_true rfl) (Nat.le_of_ble_eq_true rfl) dX12_held_28
set_option maxRecDepth 100000 in
set_option maxHeartbeats 4000000 in
theorem k_X12_held {G : Gm} (hG : gF G = mFl) {σ : Hp} {o : Int64} {r : Int32} {μ : Mu} {a1 : Int32} {a2 : Int32} (h : f_X12_held μ a1 a2 = some r) : Ci G yX12_held cX12_held 4 (some .int) rm_X12_held [.ref (gM G 200), .int a1, .int a2] (σ, μ, o) r (σ, μ, o) 0 0 := by
  refine v_entI [(0, .ref (gM G 200)), (1, .int a1), (2, .int a2)] (by decide +kernel) (Nat.le_of_ble_eq_true rfl) rfl ?_
  unfold f_X12_held at h
  refine v_iconst (v := (0 : Int32)) (by decide) dX12_held_0 rfl ?_
  refine v_istore_n [(3, .int (0 : Int32)), (0, .ref (gM G 200)), (1, .int a1), (2, .int a2)] dX12_held_1 rfl (by decide) rfl ?_
  refine v_sub [1, 2, 3, 0] rfl ?_
  exact l_X12_held_2 hG _ h
def rm_X12_hold : Room := { frames := 1, cells := 0, slots := 0, locals := 23 }
set_option maxRecDepth 100000 in
set_option maxHeartbeats 4000000 in
theorem l_X12_hold_32 {G : Gm} (hG : gF G = mFl) {σ : Hp} {o : Int64} {μ' : Mu} {μ : Mu} {x1 : Int32} {x2 : Int32} {x3 : Int32} {x4 : Int32} (h : f_X12_hold_32 μ x1 x2 x3 x4 = some μ') : V G yX12_hold cX12_hold 5 none rm_X12_hold (zV G (σ, μ', o) 0 0) (σ, μ, o) 0 0 32 [(0, .ref (gM G 200)), (1, .int x1), (2, .int x2), (3, .int x3), (4, .int x4)] [] := by
  unfold f_X12_hold_32 at h
  refine v_aload_n 0 rfl dX12_hold_32 rfl ?_
  refine v_mR (j := 44) (mg hG rfl) (by decide) rfl qf_RX12_121 dX12_hold_33 rfl ?_
  refine v_bipush (v := (12 : Int32)) (by decide) dX12_hold_36 rfl ?_
  refine v_iload_n 1 rfl dX12_hold_38 rfl ?_
  refine v_imul dX12_hold_39 rfl ?_
  refine v_iload 4 rfl dX12_hold_40 rfl ?_
  refine v_iadd dX12_hold_42 rfl ?_
  refine v_iload_n 2 rfl dX12_hold_43 rfl ?_
  obtain ⟨s44, e44, h⟩ := o_b h
  refine v_mQ e44 (mg hG rfl) (by decide) rfl dX12_hold_44 rfl ?_
  refine v_aload_n 0 rfl dX12_hold_45 rfl ?_
  refine v_mR (j := 45) (mg hG rfl) (by decide) rfl qf_RX12_124 dX12_hold_46 rfl ?_
  refine v_bipush (v := (12 : Int32)) (by decide) dX12_hold_49 rfl ?_
  refine v_iload_n 1 rfl dX12_hold_51 rfl ?_
  refine v_imul dX12_hold_52 rfl ?_
  refine v_iload 4 rfl dX12_hold_53 rfl ?_
  refine v_iadd dX12_hold_55 rfl ?_
  refine v_iload_n 3 rfl dX12_hold_56 rfl ?_
  obtain ⟨s57, e57, h⟩ := o_b h
  refine v_mQ e57 (mg hG rfl) (by decide) rfl dX12_hold_57 rfl ?_
  obtain rfl := Option.some.inj h
  exact v_vret rfl (Nat.le_of_ble_eq_true rfl) (Nat.le_of_ble_eq_true rfl) dX12_hold_58
set_option maxRecDepth 100000 in
set_option maxHeartbeats 4000000 in
theorem k_X12_hold {G : Gm} (hG : gF G = mFl) {σ : Hp} {o : Int64} {μ' : Mu} {μ : Mu} {a1 : Int32} {a2 : Int32} {a3 : Int32} (h : f_X12_hold μ a1 a2 a3 = some μ') : Cv G yX12_hold cX12_hold 5 none rm_X12_hold [.ref (gM G 200), .int a1, .int a2, .int a3] (σ, μ, o) (σ, μ', o) 0 0 := by
  refine v_entV [(0, .ref (gM G 200)), (1, .int a1), (2, .int a2), (3, .int a3)] (by decide +kernel) (Nat.le_of_ble_eq_true rfl) rfl ?_
  unfold f_X12_hold at h
  refine v_aload_n 0 rfl dX12_hold_0 rfl ?_
  refine v_iload_n 1 rfl dX12_hold_1 rfl ?_
  refine v_iload_n 2 rfl dX12_hold_2 rfl ?_
  obtain ⟨v3, e3, h⟩ := o_b h
  refine v_Vi (as := [.int a1, .int a2]) (st := []) (c' := 0) (k' := 0) (k_X12_held hG e3) (rcv_m (mg hG rfl)) mk_X12_held qi_X12_held qe_X12_held qm_RX12_252 (ck rfl) rfl dX12_hold_3 rfl rfl rfl ?_
  refine v_istore [(4, .int v3), (0, .ref (gM G 200)), (1, .int a1), (2, .int a2), (3, .int a3)] dX12_hold_6 rfl (by decide) rfl ?_
  refine v_iload 0 rfl dX12_hold_8 rfl ?_
  refine v_iconst (v := (-1 : Int32)) (by decide) dX12_hold_10 rfl ?_
  refine v_icmp_ne 32 dX12_hold_11 (by decide) rfl (fun c11 => ?_) (fun c11 => ?_)
  · have h := o_n c11 h
    refine v_sub [1, 2, 3, 4, 0] rfl ?_
    exact l_X12_hold_32 hG h
  · have h := o_p c11 h
    refine v_aload_n 1 rfl dX12_hold_14 rfl ?_
    refine v_mR (j := 43) (mg hG rfl) (by decide) rfl qf_RX12_118 dX12_hold_15 rfl ?_
    refine v_iload_n 2 rfl dX12_hold_18 rfl ?_
    obtain ⟨v19, e19, h⟩ := o_b h
    refine v_mA e19 (mg hG rfl) (by decide) rfl dX12_hold_19 rfl ?_
    refine v_istore [(4, .int v19), (0, .ref (gM G 200)), (1, .int a1), (2, .int a2), (3, .int a3)] dX12_hold_20 rfl (by decide) rfl ?_
    refine v_aload_n 1 rfl dX12_hold_22 rfl ?_
    refine v_mR (j := 43) (mg hG rfl) (by decide) rfl qf_RX12_118 dX12_hold_23 rfl ?_
    refine v_iload_n 2 rfl dX12_hold_26 rfl ?_
    refine v_dup2 rfl rfl dX12_hold_27 rfl ?_
    obtain ⟨v28, e28, h⟩ := o_b h
    refine v_mA e28 (mg hG rfl) (by decide) rfl dX12_hold_28 rfl ?_
    refine v_iconst (v := (1 : Int32)) (by decide) dX12_hold_29 rfl ?_
    refine v_iadd dX12_hold_30 rfl ?_
    obtain ⟨s31, e31, h⟩ := o_b h
    refine v_mQ e31 (mg hG rfl) (by decide) rfl dX12_hold_31 rfl ?_
    refine v_sub [1, 2, 3, 4, 0] rfl ?_
    exact l_X12_hold_32 hG h
def rm_X12_unhold : Room := { frames := 1, cells := 0, slots := 0, locals := 23 }
set_option maxRecDepth 100000 in
set_option maxHeartbeats 4000000 in
theorem k_X12_unhold {G : Gm} (hG : gF G = mFl) {σ : Hp} {o : Int64} {μ' : Mu} {μ : Mu} {a1 : Int32} {a2 : Int32} (h : f_X12_unhold μ a1 a2 = some μ') : Cv G yX12_unhold cX12_unhold 4 none rm_X12_unhold [.ref (gM G 200), .int a1, .int a2] (σ, μ, o) (σ, μ', o) 0 0 := by
  refine v_entV [(0, .ref (gM G 200)), (1, .int a1), (2, .int a2)] (by decide +kernel) (Nat.le_of_ble_eq_true rfl) rfl ?_
  unfold f_X12_unhold at h
  refine v_aload_n 0 rfl dX12_unhold_0 rfl ?_
  refine v_iload_n 1 rfl dX12_unhold_1 rfl ?_
  refine v_iload_n 2 rfl dX12_unhold_2 rfl ?_
  obtain ⟨v3, e3, h⟩ := o_b h
  refine v_Vi (as := [.int a1, .int a2]) (st := []) (c' := 0) (k' := 0) (k_X12_held hG e3) (rcv_m (mg hG rfl)) mk_X12_held qi_X12_held qe_X12_held qm_RX12_252 (ck rfl) rfl dX12_unhold_3 rfl rfl rfl ?_
  refine v_istore_n [(3, .int v3), (0, .ref (gM G 200)), (1, .int a1), (2, .int a2)] dX12_unhold_6 rfl (by decide) rfl ?_
  refine v_iload_n 0 rfl dX12_unhold_7 rfl ?_
  refine v_iconst (v := (-1 : Int32)) (by decide) dX12_unhold_8 rfl ?_
  refine v_icmp_ne 13 dX12_unhold_9 (by decide) rfl (fun c9 => ?_) (fun c9 => ?_)
  · have h := o_n c9 h
    refine v_aload_n 1 rfl dX12_unhold_13 rfl ?_
    refine v_mR (j := 43) (mg hG rfl) (by decide) rfl qf_RX12_118 dX12_unhold_14 rfl ?_
    refine v_iload_n 2 rfl dX12_unhold_17 rfl ?_
    refine v_dup2 rfl rfl dX12_unhold_18 rfl ?_
    obtain ⟨v19, e19, h⟩ := o_b h
    refine v_mA e19 (mg hG rfl) (by decide) rfl dX12_unhold_19 rfl ?_
    refine v_iconst (v := (1 : Int32)) (by decide) dX12_unhold_20 rfl ?_
    refine v_isub dX12_unhold_21 rfl ?_
    obtain ⟨s22, e22, h⟩ := o_b h
    refine v_mQ e22 (mg hG rfl) (by decide) rfl dX12_unhold_22 rfl ?_
    refine v_aload_n 1 rfl dX12_unhold_23 rfl ?_
    refine v_mR (j := 44) (mg hG rfl) (by decide) rfl qf_RX12_121 dX12_unhold_24 rfl ?_
    refine v_bipush (v := (12 : Int32)) (by decide) dX12_unhold_27 rfl ?_
    refine v_iload_n 2 rfl dX12_unhold_29 rfl ?_
    refine v_imul dX12_unhold_30 rfl ?_
    refine v_iload_n 0 rfl dX12_unhold_31 rfl ?_
    refine v_iadd dX12_unhold_32 rfl ?_
    refine v_aload_n 1 rfl dX12_unhold_33 rfl ?_
    refine v_mR (j := 44) (mg hG rfl) (by decide) rfl qf_RX12_121 dX12_unhold_34 rfl ?_
    refine v_bipush (v := (12 : Int32)) (by decide) dX12_unhold_37 rfl ?_
    refine v_iload_n 2 rfl dX12_unhold_39 rfl ?_
    refine v_imul dX12_unhold_40 rfl ?_
    refine v_aload_n 1 rfl dX12_unhold_41 rfl ?_
    refine v_mR (j := 43) (mg hG rfl) (by decide) rfl qf_RX12_118 dX12_unhold_42 rfl ?_
    refine v_iload_n 2 rfl dX12_unhold_45 rfl ?_
    obtain ⟨v46, e46, h⟩ := o_b h
    refine v_mA e46 (mg hG rfl) (by decide) rfl dX12_unhold_46 rfl ?_
    refine v_iadd dX12_unhold_47 rfl ?_
    obtain ⟨v48, e48, h⟩ := o_b h
    refine v_mA e48 (mg hG rfl) (by decide) rfl dX12_unhold_48 rfl ?_
    obtain ⟨s49, e49, h⟩ := o_b h
    refine v_mQ e49 (mg hG rfl) (by decide) rfl dX12_unhold_49 rfl ?_
    refine v_aload_n 1 rfl dX12_unhold_50 rfl ?_
    refine v_mR (j := 45) (mg hG rfl) (by decide) rfl qf_RX12_124 dX12_unhold_51 rfl ?_
    refine v_bipush (v := (12 : Int32)) (by decide) dX12_unhold_54 rfl ?_
    refine v_iload_n 2 rfl dX12_unhold_56 rfl ?_
    refine v_imul dX12_unhold_57 rfl ?_
    refine v_iload_n 0 rfl dX12_unhold_58 rfl ?_
    refine v_iadd dX12_unhold_59 rfl ?_
    refine v_aload_n 1 rfl dX12_unhold_60 rfl ?_
    refine v_mR (j := 45) (mg hG rfl) (by decide) rfl qf_RX12_124 dX12_unhold_61 rfl ?_
    refine v_bipush (v := (12 : Int32)) (by decide) dX12_unhold_64 rfl ?_
    refine v_iload_n 2 rfl dX12_unhold_66 rfl ?_
    refine v_imul dX12_unhold_67 rfl ?_
    refine v_aload_n 1 rfl dX12_unhold_68 rfl ?_
    refine v_mR (j := 43) (mg hG rfl) (by decide) rfl qf_RX12_118 dX12_unhold_69 rfl ?_
    refine v_iload_n 2 rfl dX12_unhold_72 rfl ?_
    obtain ⟨v73, e73, h⟩ := o_b h
    refine v_mA e73 (mg hG rfl) (by decide) rfl dX12_unhold_73 rfl ?_
    refine v_iadd dX12_unhold_74 rfl ?_
    obtain ⟨v75, e75, h⟩ := o_b h
    refine v_mA e75 (mg hG rfl) (by decide) rfl dX12_unhold_75 rfl ?_
    obtain ⟨s76, e76, h⟩ := o_b h
    refine v_mQ e76 (mg hG rfl) (by decide) rfl dX12_unhold_76 rfl ?_
    obtain rfl := Option.some.inj h
    exact v_vret rfl (Nat.le_of_ble_eq_true rfl) (Nat.le_of_ble_eq_true rfl) dX12_unhold_77
  · have h := o_p c9 h
    obtain rfl := Option.some.inj h
    exact v_vret rfl (Nat.le_of_ble_eq_true rfl) (Nat.le_of_ble_eq_true rfl) dX12_unhold_12
def rm_X12_forget : Room := { frames := 0, cells := 0, slots := 0, locals := 0 }
set_option maxRecDepth 100000 in
set_option maxHeartbeats 4000000 in
theorem k_X12_forget {G : Gm} (hG : gF G = mFl) {σ : Hp} {o : Int64} {μ' : Mu} {μ : Mu} {a1 : Int32} (h : f_X12_forget μ a1 = some μ') : Cv G yX12_forget cX12_forget 2 none rm_X12_forget [.ref (gM G 200), .int a1] (σ, μ, o) (σ, μ', o) 0 0 := by
  refine v_entV [(0, .ref (gM G 200)), (1, .int a1)] (by decide +kernel) (Nat.le_of_ble_eq_true rfl) rfl ?_
  unfold f_X12_forget at h
  refine v_aload_n 0 rfl dX12_forget_0 rfl ?_
  refine v_mR (j := 43) (mg hG rfl) (by decide) rfl qf_RX12_118 dX12_forget_1 rfl ?_
  refine v_iload_n 1 rfl dX12_forget_4 rfl ?_
  refine v_iconst (v := (0 : Int32)) (by decide) dX12_forget_5 rfl ?_
  obtain ⟨s6, e6, h⟩ := o_b h
  refine v_mQ e6 (mg hG rfl) (by decide) rfl dX12_forget_6 rfl ?_
  refine v_aload_n 0 rfl dX12_forget_7 rfl ?_
  refine v_mR (j := 46) (mg hG rfl) (by decide) rfl qf_RX12_127 dX12_forget_8 rfl ?_
  refine v_iload_n 1 rfl dX12_forget_11 rfl ?_
  refine v_iconst (v := (0 : Int32)) (by decide) dX12_forget_12 rfl ?_
  obtain ⟨s13, e13, h⟩ := o_b h
  refine v_mQ e13 (mg hG rfl) (by decide) rfl dX12_forget_13 rfl ?_
  refine v_aload_n 0 rfl dX12_forget_14 rfl ?_
  refine v_mR (j := 47) (mg hG rfl) (by decide) rfl qf_RX12_130 dX12_forget_15 rfl ?_
  refine v_iload_n 1 rfl dX12_forget_18 rfl ?_
  refine v_iconst (v := (0 : Int32)) (by decide) dX12_forget_19 rfl ?_
  obtain ⟨s20, e20, h⟩ := o_b h
  refine v_mQ e20 (mg hG rfl) (by decide) rfl dX12_forget_20 rfl ?_
  refine v_aload_n 0 rfl dX12_forget_21 rfl ?_
  refine v_mR (j := 49) (mg hG rfl) (by decide) rfl qf_RX12_136 dX12_forget_22 rfl ?_
  refine v_iload_n 1 rfl dX12_forget_25 rfl ?_
  refine v_iconst (v := (0 : Int32)) (by decide) dX12_forget_26 rfl ?_
  obtain ⟨s27, e27, h⟩ := o_b h
  refine v_mQ e27 (mg hG rfl) (by decide) rfl dX12_forget_27 rfl ?_
  obtain rfl := Option.some.inj h
  exact v_vret rfl (Nat.le_of_ble_eq_true rfl) (Nat.le_of_ble_eq_true rfl) dX12_forget_28
def rm_X12_append : Room := { frames := 0, cells := 0, slots := 0, locals := 0 }
set_option maxRecDepth 100000 in
set_option maxHeartbeats 4000000 in
theorem k_X12_append {G : Gm} (hG : gF G = mFl) {σ : Hp} {o : Int64} {μ' : Mu} {μ : Mu} {a1 : Int32} {a2 : Int32} (h : f_X12_append μ a1 a2 = some μ') : Cv G yX12_append cX12_append 3 none rm_X12_append [.ref (gM G 200), .int a1, .int a2] (σ, μ, o) (σ, μ', o) 0 0 := by
  refine v_entV [(0, .ref (gM G 200)), (1, .int a1), (2, .int a2)] (by decide +kernel) (Nat.le_of_ble_eq_true rfl) rfl ?_
  unfold f_X12_append at h
  refine v_aload_n 0 rfl dX12_append_0 rfl ?_
  refine v_mR (j := 42) (mg hG rfl) (by decide) rfl qf_RX12_115 dX12_append_1 rfl ?_
  refine v_bipush (v := (100 : Int32)) (by decide) dX12_append_4 rfl ?_
  refine v_iload_n 1 rfl dX12_append_6 rfl ?_
  refine v_imul dX12_append_7 rfl ?_
  refine v_aload_n 0 rfl dX12_append_8 rfl ?_
  refine v_mR (j := 38) (mg hG rfl) (by decide) rfl qf_RX12_103 dX12_append_9 rfl ?_
  refine v_iload_n 1 rfl dX12_append_12 rfl ?_
  obtain ⟨v13, e13, h⟩ := o_b h
  refine v_mA e13 (mg hG rfl) (by decide) rfl dX12_append_13 rfl ?_
  refine v_iadd dX12_append_14 rfl ?_
  refine v_iload_n 2 rfl dX12_append_15 rfl ?_
  obtain ⟨s16, e16, h⟩ := o_b h
  refine v_mQ e16 (mg hG rfl) (by decide) rfl dX12_append_16 rfl ?_
  refine v_aload_n 0 rfl dX12_append_17 rfl ?_
  refine v_mR (j := 38) (mg hG rfl) (by decide) rfl qf_RX12_103 dX12_append_18 rfl ?_
  refine v_iload_n 1 rfl dX12_append_21 rfl ?_
  refine v_dup2 rfl rfl dX12_append_22 rfl ?_
  obtain ⟨v23, e23, h⟩ := o_b h
  refine v_mA e23 (mg hG rfl) (by decide) rfl dX12_append_23 rfl ?_
  refine v_iconst (v := (1 : Int32)) (by decide) dX12_append_24 rfl ?_
  refine v_iadd dX12_append_25 rfl ?_
  obtain ⟨s26, e26, h⟩ := o_b h
  refine v_mQ e26 (mg hG rfl) (by decide) rfl dX12_append_26 rfl ?_
  obtain rfl := Option.some.inj h
  exact v_vret rfl (Nat.le_of_ble_eq_true rfl) (Nat.le_of_ble_eq_true rfl) dX12_append_27
def rm_X12_answer : Room := { frames := 1, cells := 0, slots := 0, locals := 28 }
set_option maxRecDepth 100000 in
set_option maxHeartbeats 4000000 in
theorem l_X12_answer_42 {G : Gm} (hG : gF G = mFl) {σ : Hp} {o : Int64} {μ' : Mu} {μ : Mu} {x1 : Int32} {x2 : Int32} {x3 : Int32} (h : f_X12_answer_42 μ x1 x2 x3 = some μ') : V G yX12_answer cX12_answer 5 none rm_X12_answer (zV G (σ, μ', o) 0 0) (σ, μ, o) 0 0 42 [(0, .ref (gM G 200)), (1, .int x1), (2, .int x2), (3, .int x3)] [] := by
  unfold f_X12_answer_42 at h
  refine v_aload_n 0 rfl dX12_answer_42 rfl ?_
  refine v_bipush (v := (11 : Int32)) (by decide) dX12_answer_43 rfl ?_
  refine v_iload_n 1 rfl dX12_answer_45 rfl ?_
  refine v_iload_n 3 rfl dX12_answer_46 rfl ?_
  refine v_aload_n 0 rfl dX12_answer_47 rfl ?_
  refine v_mR (j := 33) (mg hG rfl) (by decide) rfl qf_RX12_88 dX12_answer_48 rfl ?_
  refine v_iload_n 1 rfl dX12_answer_51 rfl ?_
  obtain ⟨v52, e52, h⟩ := o_b h
  refine v_mA e52 (mg hG rfl) (by decide) rfl dX12_answer_52 rfl ?_
  refine v_aload_n 0 rfl dX12_answer_53 rfl ?_
  refine v_mR (j := 34) (mg hG rfl) (by decide) rfl qf_RX12_91 dX12_answer_54 rfl ?_
  refine v_iload_n 1 rfl dX12_answer_57 rfl ?_
  obtain ⟨v58, e58, h⟩ := o_b h
  refine v_mA e58 (mg hG rfl) (by decide) rfl dX12_answer_58 rfl ?_
  refine v_aload_n 0 rfl dX12_answer_59 rfl ?_
  refine v_mR (j := 38) (mg hG rfl) (by decide) rfl qf_RX12_103 dX12_answer_60 rfl ?_
  refine v_iload_n 1 rfl dX12_answer_63 rfl ?_
  obtain ⟨v64, e64, h⟩ := o_b h
  refine v_mA e64 (mg hG rfl) (by decide) rfl dX12_answer_64 rfl ?_
  refine v_iload_n 2 rfl dX12_answer_65 rfl ?_
  obtain ⟨v66, e66, h⟩ := o_b h
  refine v_Vi (as := [.int (11 : Int32), .int x1, .int x3, .int v52, .int v58, .int v64, .int x2]) (st := []) (c' := 0) (k' := 0) (k_X12_send hG e66) (rcv_m (mg hG rfl)) mk_X12_send qi_X12_send qe_X12_send qm_RX12_241 (ck rfl) rfl dX12_answer_66 rfl rfl rfl ?_
  refine v_istore [(4, .int v66.1), (0, .ref (gM G 200)), (1, .int x1), (2, .int x2), (3, .int x3)] dX12_answer_69 rfl (by decide) rfl ?_
  refine v_iload 0 rfl dX12_answer_71 rfl ?_
  refine v_iconst (v := (-1 : Int32)) (by decide) dX12_answer_73 rfl ?_
  refine v_icmp_eq 85 dX12_answer_74 (by decide) rfl (fun c74 => ?_) (fun c74 => ?_)
  · have h := o_p c74 h
    obtain rfl := Option.some.inj h
    exact v_vret rfl (Nat.le_of_ble_eq_true rfl) (Nat.le_of_ble_eq_true rfl) dX12_answer_85
  · have h := o_n c74 h
    refine v_aload_n 1 rfl dX12_answer_77 rfl ?_
    refine v_iload_n 2 rfl dX12_answer_78 rfl ?_
    obtain ⟨v79, e79, h⟩ := o_b h
    refine v_Vi (as := [.int x1]) (st := []) (c' := 0) (k' := 0) (k_X12_leads hG e79) (rcv_m (mg hG rfl)) mk_X12_leads qi_X12_leads qe_X12_leads qm_RX12_248 (ck rfl) rfl dX12_answer_79 rfl rfl rfl ?_
    refine v_if_ne 86 dX12_answer_82 (by decide) rfl (fun c82 => ?_) (fun c82 => ?_)
    · have h := o_n c82 h
      refine v_aload_n 1 rfl dX12_answer_86 rfl ?_
      refine v_mR (j := 30) (mg hG rfl) (by decide) rfl qf_RX12_78 dX12_answer_87 rfl ?_
      refine v_iload 0 rfl dX12_answer_90 rfl ?_
      refine v_iconst (v := (1 : Int32)) (by decide) dX12_answer_92 rfl ?_
      obtain ⟨s93, e93, h⟩ := o_b h
      refine v_mW e93 (mg hG rfl) (by decide) rfl rfl dX12_answer_93 rfl ?_
      refine v_aload_n 1 rfl dX12_answer_94 rfl ?_
      refine v_mR (j := 25) (mg hG rfl) (by decide) rfl qf_RX12_63 dX12_answer_95 rfl ?_
      refine v_iload 0 rfl dX12_answer_98 rfl ?_
      refine v_aload_n 1 rfl dX12_answer_100 rfl ?_
      refine v_mR (j := 78) (mg hG rfl) (by decide) rfl qf_RX12_220 dX12_answer_101 rfl ?_
      refine v_iload_n 4 rfl dX12_answer_104 rfl ?_
      obtain ⟨v105, e105, h⟩ := o_b h
      refine v_mA e105 (mg hG rfl) (by decide) rfl dX12_answer_105 rfl ?_
      obtain ⟨s106, e106, h⟩ := o_b h
      refine v_mQ e106 (mg hG rfl) (by decide) rfl dX12_answer_106 rfl ?_
      obtain rfl := Option.some.inj h
      exact v_vret rfl (Nat.le_of_ble_eq_true rfl) (Nat.le_of_ble_eq_true rfl) dX12_answer_107
    · have h := o_p c82 h
      obtain rfl := Option.some.inj h
      exact v_vret rfl (Nat.le_of_ble_eq_true rfl) (Nat.le_of_ble_eq_true rfl) dX12_answer_85
set_option maxRecDepth 100000 in
set_option maxHeartbeats 4000000 in
theorem k_X12_answer {G : Gm} (hG : gF G = mFl) {σ : Hp} {o : Int64} {μ' : Mu} {μ : Mu} {a1 : Int32} {a2 : Int32} (h : f_X12_answer μ a1 a2 = some μ') : Cv G yX12_answer cX12_answer 5 none rm_X12_answer [.ref (gM G 200), .int a1, .int a2] (σ, μ, o) (σ, μ', o) 0 0 := by
  refine v_entV [(0, .ref (gM G 200)), (1, .int a1), (2, .int a2)] (by decide +kernel) (Nat.le_of_ble_eq_true rfl) rfl ?_
  unfold f_X12_answer at h
  refine v_aload_n 0 rfl dX12_answer_0 rfl ?_
  refine v_mR (j := 4) (mg hG rfl) (by decide) rfl qf_RX12_7 dX12_answer_1 rfl ?_
  refine v_iload_n 2 rfl dX12_answer_4 rfl ?_
  obtain ⟨v5, e5, h⟩ := o_b h
  refine v_mA e5 (mg hG rfl) (by decide) rfl dX12_answer_5 rfl ?_
  refine v_istore_n [(3, .int v5), (0, .ref (gM G 200)), (1, .int a1), (2, .int a2)] dX12_answer_6 rfl (by decide) rfl ?_
  refine v_aload_n 1 rfl dX12_answer_7 rfl ?_
  refine v_iload_n 2 rfl dX12_answer_8 rfl ?_
  obtain ⟨v9, e9, h⟩ := o_b h
  refine v_Vi (as := [.int a1]) (st := []) (c' := 0) (k' := 0) (k_X12_leads hG e9) (rcv_m (mg hG rfl)) mk_X12_leads qi_X12_leads qe_X12_leads qm_RX12_248 (ck rfl) rfl dX12_answer_9 rfl rfl rfl ?_
  refine v_if_eq 42 dX12_answer_12 (by decide) rfl (fun c12 => ?_) (fun c12 => ?_)
  · have h := o_p c12 h
    refine v_sub [1, 2, 3, 0] rfl ?_
    exact l_X12_answer_42 hG h
  · have h := o_n c12 h
    refine v_aload_n 1 rfl dX12_answer_15 rfl ?_
    refine v_iload_n 2 rfl dX12_answer_16 rfl ?_
    refine v_aload_n 1 rfl dX12_answer_17 rfl ?_
    refine v_mR (j := 38) (mg hG rfl) (by decide) rfl qf_RX12_103 dX12_answer_18 rfl ?_
    refine v_iload_n 2 rfl dX12_answer_21 rfl ?_
    obtain ⟨v22, e22, h⟩ := o_b h
    refine v_mA e22 (mg hG rfl) (by decide) rfl dX12_answer_22 rfl ?_
    obtain ⟨v23, e23, h⟩ := o_b h
    refine v_Vv (as := [.int a1, .int v22]) (st := []) (c' := 0) (k' := 0) (k_X12_execute hG e23) (rcv_m (mg hG rfl)) mk_X12_execute qi_X12_execute qe_X12_execute qm_RX12_256 (ck rfl) rfl dX12_answer_23 rfl rfl rfl ?_
    refine v_aload_n 1 rfl dX12_answer_26 rfl ?_
    refine v_mR (j := 77) (mg hG rfl) (by decide) rfl qf_RX12_217 dX12_answer_27 rfl ?_
    refine v_iload_n 0 rfl dX12_answer_30 rfl ?_
    obtain ⟨v31, e31, h⟩ := o_b h
    refine v_mA e31 (mg hG rfl) (by decide) rfl dX12_answer_31 rfl ?_
    refine v_aload_n 1 rfl dX12_answer_32 rfl ?_
    refine v_mR (j := 5) (mg hG rfl) (by decide) rfl qf_RX12_13 dX12_answer_33 rfl ?_
    refine v_iload_n 3 rfl dX12_answer_36 rfl ?_
    obtain ⟨v37, e37, h⟩ := o_b h
    refine v_mA e37 (mg hG rfl) (by decide) rfl dX12_answer_37 rfl ?_
    refine v_icmp_eq 42 dX12_answer_38 (by decide) rfl (fun c38 => ?_) (fun c38 => ?_)
    · have h := o_p c38 h
      refine v_sub [1, 2, 3, 0] rfl ?_
      exact l_X12_answer_42 hG h
    · have h := o_n c38 h
      obtain rfl := Option.some.inj h
      exact v_vret rfl (Nat.le_of_ble_eq_true rfl) (Nat.le_of_ble_eq_true rfl) dX12_answer_41
def rm_X12_take : Room := { frames := 2, cells := 0, slots := 0, locals := 52 }
set_option maxRecDepth 100000 in
set_option maxHeartbeats 4000000 in
theorem l_X12_take_89 {G : Gm} (hG : gF G = mFl) {σ : Hp} {o : Int64} {μ' : Mu} {μ : Mu} {x1 : Int32} (h : f_X12_take_89 μ x1 = some μ') : V G yX12_take cX12_take 4 none rm_X12_take (zV G (σ, μ', o) 0 0) (σ, μ, o) 0 0 89 [(0, .ref (gM G 200)), (1, .int x1)] [] := by
  unfold f_X12_take_89 at h
  refine v_aload_n 0 rfl dX12_take_89 rfl ?_
  refine v_mR (j := 43) (mg hG rfl) (by decide) rfl qf_RX12_118 dX12_take_90 rfl ?_
  refine v_iload_n 1 rfl dX12_take_93 rfl ?_
  obtain ⟨v94, e94, h⟩ := o_b h
  refine v_mA e94 (mg hG rfl) (by decide) rfl dX12_take_94 rfl ?_
  refine v_if_eq 109 dX12_take_95 (by decide) rfl (fun c95 => ?_) (fun c95 => ?_)
  · have h := o_p c95 h
    obtain rfl := Option.some.inj h
    exact v_vret rfl (Nat.le_of_ble_eq_true rfl) (Nat.le_of_ble_eq_true rfl) dX12_take_109
  · have h := o_n c95 h
    refine v_aload_n 0 rfl dX12_take_98 rfl ?_
    refine v_mR (j := 38) (mg hG rfl) (by decide) rfl qf_RX12_103 dX12_take_99 rfl ?_
    refine v_iload_n 1 rfl dX12_take_102 rfl ?_
    obtain ⟨v103, e103, h⟩ := o_b h
    refine v_mA e103 (mg hG rfl) (by decide) rfl dX12_take_103 rfl ?_
    refine v_bipush (v := (100 : Int32)) (by decide) dX12_take_104 rfl ?_
    refine v_icmp_ne 110 dX12_take_106 (by decide) rfl (fun c106 => ?_) (fun c106 => ?_)
    · have h := o_n c106 h
      refine v_aload_n 0 rfl dX12_take_110 rfl ?_
      refine v_iload_n 1 rfl dX12_take_111 rfl ?_
      obtain ⟨v112, e112, h⟩ := o_b h
      refine v_Vi (as := [.int x1]) (st := []) (c' := 0) (k' := 0) (k_X12_leads hG e112) (rcv_m (mg hG rfl)) mk_X12_leads qi_X12_leads qe_X12_leads qm_RX12_248 (ck rfl) rfl dX12_take_112 rfl rfl rfl ?_
      refine v_if_ne 152 dX12_take_115 (by decide) rfl (fun c115 => ?_) (fun c115 => ?_)
      · have h := o_n c115 h
        refine v_aload_n 0 rfl dX12_take_152 rfl ?_
        refine v_iload_n 1 rfl dX12_take_153 rfl ?_
        refine v_iconst (v := (0 : Int32)) (by decide) dX12_take_154 rfl ?_
        obtain ⟨v155, e155, h⟩ := o_b h
        refine v_Vv (as := [.int x1, .int (0 : Int32)]) (st := []) (c' := 0) (k' := 0) (k_X12_append hG e155) (rcv_m (mg hG rfl)) mk_X12_append qi_X12_append qe_X12_append qm_RX12_263 (ck rfl) rfl dX12_take_155 rfl rfl rfl ?_
        refine v_aload_n 0 rfl dX12_take_158 rfl ?_
        refine v_mR (j := 35) (mg hG rfl) (by decide) rfl qf_RX12_94 dX12_take_159 rfl ?_
        refine v_iload_n 1 rfl dX12_take_162 rfl ?_
        refine v_iconst (v := (1 : Int32)) (by decide) dX12_take_163 rfl ?_
        obtain ⟨s164, e164, h⟩ := o_b h
        refine v_mQ e164 (mg hG rfl) (by decide) rfl dX12_take_164 rfl ?_
        refine v_aload_n 0 rfl dX12_take_165 rfl ?_
        refine v_mR (j := 46) (mg hG rfl) (by decide) rfl qf_RX12_127 dX12_take_166 rfl ?_
        refine v_iload_n 1 rfl dX12_take_169 rfl ?_
        refine v_iconst (v := (0 : Int32)) (by decide) dX12_take_170 rfl ?_
        obtain ⟨s171, e171, h⟩ := o_b h
        refine v_mQ e171 (mg hG rfl) (by decide) rfl dX12_take_171 rfl ?_
        refine v_aload_n 0 rfl dX12_take_172 rfl ?_
        refine v_iconst (v := (3 : Int32)) (by decide) dX12_take_173 rfl ?_
        refine v_iload_n 1 rfl dX12_take_174 rfl ?_
        refine v_aload_n 0 rfl dX12_take_175 rfl ?_
        refine v_mR (j := 38) (mg hG rfl) (by decide) rfl qf_RX12_103 dX12_take_176 rfl ?_
        refine v_iload_n 1 rfl dX12_take_179 rfl ?_
        obtain ⟨v180, e180, h⟩ := o_b h
        refine v_mA e180 (mg hG rfl) (by decide) rfl dX12_take_180 rfl ?_
        obtain ⟨v181, e181, h⟩ := o_b h
        refine v_Vv (as := [.int (3 : Int32), .int x1, .int v180]) (st := []) (c' := 0) (k' := 0) (k_X12_all hG e181) (rcv_m (mg hG rfl)) mk_X12_all qi_X12_all qe_X12_all qm_RX12_273 (ck rfl) rfl dX12_take_181 rfl rfl rfl ?_
        obtain rfl := Option.some.inj h
        exact v_vret rfl (Nat.le_of_ble_eq_true rfl) (Nat.le_of_ble_eq_true rfl) dX12_take_184
      · have h := o_p c115 h
        refine v_aload_n 0 rfl dX12_take_118 rfl ?_
        refine v_iconst (v := (1 : Int32)) (by decide) dX12_take_119 rfl ?_
        refine v_iload_n 1 rfl dX12_take_120 rfl ?_
        refine v_aload_n 0 rfl dX12_take_121 rfl ?_
        refine v_iload_n 1 rfl dX12_take_122 rfl ?_
        obtain ⟨v123, e123, h⟩ := o_b h
        refine v_Vi (as := [.int x1]) (st := [.int x1, .int (1 : Int32), .ref (gM G 200)]) (c' := 0) (k' := 0) (k_X12_leader hG e123) (rcv_m (mg hG rfl)) mk_X12_leader qi_X12_leader qe_X12_leader qm_RX12_269 (ck rfl) rfl dX12_take_123 rfl rfl rfl ?_
        refine v_aload_n 0 rfl dX12_take_126 rfl ?_
        refine v_mR (j := 33) (mg hG rfl) (by decide) rfl qf_RX12_88 dX12_take_127 rfl ?_
        refine v_iload_n 1 rfl dX12_take_130 rfl ?_
        obtain ⟨v131, e131, h⟩ := o_b h
        refine v_mA e131 (mg hG rfl) (by decide) rfl dX12_take_131 rfl ?_
        refine v_aload_n 0 rfl dX12_take_132 rfl ?_
        refine v_mR (j := 34) (mg hG rfl) (by decide) rfl qf_RX12_91 dX12_take_133 rfl ?_
        refine v_iload_n 1 rfl dX12_take_136 rfl ?_
        obtain ⟨v137, e137, h⟩ := o_b h
        refine v_mA e137 (mg hG rfl) (by decide) rfl dX12_take_137 rfl ?_
        refine v_aload_n 0 rfl dX12_take_138 rfl ?_
        refine v_mR (j := 38) (mg hG rfl) (by decide) rfl qf_RX12_103 dX12_take_139 rfl ?_
        refine v_iload_n 1 rfl dX12_take_142 rfl ?_
        obtain ⟨v143, e143, h⟩ := o_b h
        refine v_mA e143 (mg hG rfl) (by decide) rfl dX12_take_143 rfl ?_
        refine v_iconst (v := (1 : Int32)) (by decide) dX12_take_144 rfl ?_
        refine v_iadd dX12_take_145 rfl ?_
        refine v_iconst (v := (0 : Int32)) (by decide) dX12_take_146 rfl ?_
        obtain ⟨v147, e147, h⟩ := o_b h
        refine v_Vi (as := [.int (1 : Int32), .int x1, .int v123, .int v131, .int v137, .int (v143 + (1 : Int32)), .int (0 : Int32)]) (st := []) (c' := 0) (k' := 0) (k_X12_send hG e147) (rcv_m (mg hG rfl)) mk_X12_send qi_X12_send qe_X12_send qm_RX12_241 (ck rfl) rfl dX12_take_147 rfl rfl rfl ?_
        refine v_pop rfl dX12_take_150 rfl ?_
        obtain rfl := Option.some.inj h
        exact v_vret rfl (Nat.le_of_ble_eq_true rfl) (Nat.le_of_ble_eq_true rfl) dX12_take_151
    · have h := o_p c106 h
      obtain rfl := Option.some.inj h
      exact v_vret rfl (Nat.le_of_ble_eq_true rfl) (Nat.le_of_ble_eq_true rfl) dX12_take_109
set_option maxRecDepth 100000 in
set_option maxHeartbeats 4000000 in
theorem l_X12_take_0 {G : Gm} (hG : gF G = mFl) {σ : Hp} {o : Int64} {μ' : Mu} : ∀ (n : Nat) {μ : Mu} {x1 : Int32} , f_X12_take_0 n μ x1 = some μ' → V G yX12_take cX12_take 4 none rm_X12_take (zV G (σ, μ', o) 0 0) (σ, μ, o) 0 0 0 [(0, .ref (gM G 200)), (1, .int x1)] [] := by
  intro n
  induction n with
  | zero => intro _ _ h; cases h
  | succ n ih =>
    intro μ x1 h
    replace h : b_X12_take_0 (f_X12_take_0 n) μ x1 = some μ' := h
    unfold b_X12_take_0 at h
    refine v_aload_n 0 rfl dX12_take_0 rfl ?_
    refine v_mR (j := 38) (mg hG rfl) (by decide) rfl qf_RX12_103 dX12_take_1 rfl ?_
    refine v_iload_n 1 rfl dX12_take_4 rfl ?_
    obtain ⟨v5, e5, h⟩ := o_b h
    refine v_mA e5 (mg hG rfl) (by decide) rfl dX12_take_5 rfl ?_
    refine v_bipush (v := (100 : Int32)) (by decide) dX12_take_6 rfl ?_
    refine v_icmp_ge 89 dX12_take_8 (by decide) rfl (fun c8 => ?_) (fun c8 => ?_)
    · have h := o_p c8 h
      exact l_X12_take_89 hG h
    · have h := o_n c8 h
      refine v_aload_n 0 rfl dX12_take_11 rfl ?_
      refine v_iload_n 1 rfl dX12_take_12 rfl ?_
      refine v_aload_n 0 rfl dX12_take_13 rfl ?_
      refine v_mR (j := 38) (mg hG rfl) (by decide) rfl qf_RX12_103 dX12_take_14 rfl ?_
      refine v_iload_n 1 rfl dX12_take_17 rfl ?_
      obtain ⟨v18, e18, h⟩ := o_b h
      refine v_mA e18 (mg hG rfl) (by decide) rfl dX12_take_18 rfl ?_
      refine v_iconst (v := (1 : Int32)) (by decide) dX12_take_19 rfl ?_
      refine v_iadd dX12_take_20 rfl ?_
      refine v_aload_n 0 rfl dX12_take_21 rfl ?_
      refine v_mR (j := 39) (mg hG rfl) (by decide) rfl qf_RX12_106 dX12_take_22 rfl ?_
      refine v_iload_n 1 rfl dX12_take_25 rfl ?_
      obtain ⟨v26, e26, h⟩ := o_b h
      refine v_mA e26 (mg hG rfl) (by decide) rfl dX12_take_26 rfl ?_
      refine v_isub dX12_take_27 rfl ?_
      obtain ⟨v28, e28, h⟩ := o_b h
      refine v_Vi (as := [.int x1, .int ((v18 + (1 : Int32)) - v26)]) (st := []) (c' := 0) (k' := 0) (k_X12_held hG e28) (rcv_m (mg hG rfl)) mk_X12_held qi_X12_held qe_X12_held qm_RX12_252 (ck rfl) rfl dX12_take_28 rfl rfl rfl ?_
      refine v_iconst (v := (-1 : Int32)) (by decide) dX12_take_31 rfl ?_
      refine v_icmp_eq 89 dX12_take_32 (by decide) rfl (fun c32 => ?_) (fun c32 => ?_)
      · have h := o_p c32 h
        exact l_X12_take_89 hG h
      · have h := o_n c32 h
        refine v_aload_n 0 rfl dX12_take_35 rfl ?_
        refine v_mR (j := 38) (mg hG rfl) (by decide) rfl qf_RX12_103 dX12_take_36 rfl ?_
        refine v_iload_n 1 rfl dX12_take_39 rfl ?_
        obtain ⟨v40, e40, h⟩ := o_b h
        refine v_mA e40 (mg hG rfl) (by decide) rfl dX12_take_40 rfl ?_
        refine v_iconst (v := (1 : Int32)) (by decide) dX12_take_41 rfl ?_
        refine v_iadd dX12_take_42 rfl ?_
        refine v_aload_n 0 rfl dX12_take_43 rfl ?_
        refine v_mR (j := 39) (mg hG rfl) (by decide) rfl qf_RX12_106 dX12_take_44 rfl ?_
        refine v_iload_n 1 rfl dX12_take_47 rfl ?_
        obtain ⟨v48, e48, h⟩ := o_b h
        refine v_mA e48 (mg hG rfl) (by decide) rfl dX12_take_48 rfl ?_
        refine v_isub dX12_take_49 rfl ?_
        refine v_istore_n [(2, .int ((v40 + (1 : Int32)) - v48)), (0, .ref (gM G 200)), (1, .int x1)] dX12_take_50 rfl (by decide) rfl ?_
        refine v_aload_n 1 rfl dX12_take_51 rfl ?_
        refine v_mR (j := 45) (mg hG rfl) (by decide) rfl qf_RX12_124 dX12_take_52 rfl ?_
        refine v_bipush (v := (12 : Int32)) (by decide) dX12_take_55 rfl ?_
        refine v_iload_n 2 rfl dX12_take_57 rfl ?_
        refine v_imul dX12_take_58 rfl ?_
        refine v_aload_n 1 rfl dX12_take_59 rfl ?_
        refine v_iload_n 2 rfl dX12_take_60 rfl ?_
        refine v_iload_n 0 rfl dX12_take_61 rfl ?_
        obtain ⟨v62, e62, h⟩ := o_b h
        refine v_Vi (as := [.int x1, .int ((v40 + (1 : Int32)) - v48)]) (st := [.int ((12 : Int32) * x1), .ref (gM G 45)]) (c' := 0) (k' := 0) (k_X12_held hG e62) (rcv_m (mg hG rfl)) mk_X12_held qi_X12_held qe_X12_held qm_RX12_252 (ck rfl) rfl dX12_take_62 rfl rfl rfl ?_
        refine v_iadd dX12_take_65 rfl ?_
        obtain ⟨v66, e66, h⟩ := o_b h
        refine v_mA e66 (mg hG rfl) (by decide) rfl dX12_take_66 rfl ?_
        refine v_istore_n [(3, .int v66), (2, .int ((v40 + (1 : Int32)) - v48)), (0, .ref (gM G 200)), (1, .int x1)] dX12_take_67 rfl (by decide) rfl ?_
        refine v_aload_n 2 rfl dX12_take_68 rfl ?_
        refine v_iload_n 3 rfl dX12_take_69 rfl ?_
        refine v_iload_n 1 rfl dX12_take_70 rfl ?_
        obtain ⟨v71, e71, h⟩ := o_b h
        refine v_Vv (as := [.int x1, .int ((v40 + (1 : Int32)) - v48)]) (st := []) (c' := 0) (k' := 0) (k_X12_unhold hG e71) (rcv_m (mg hG rfl)) mk_X12_unhold qi_X12_unhold qe_X12_unhold qm_RX12_260 (ck rfl) rfl dX12_take_71 rfl rfl rfl ?_
        refine v_aload_n 2 rfl dX12_take_74 rfl ?_
        refine v_iload_n 3 rfl dX12_take_75 rfl ?_
        refine v_iload_n 0 rfl dX12_take_76 rfl ?_
        obtain ⟨v77, e77, h⟩ := o_b h
        refine v_Vv (as := [.int x1, .int v66]) (st := []) (c' := 0) (k' := 0) (k_X12_append hG e77) (rcv_m (mg hG rfl)) mk_X12_append qi_X12_append qe_X12_append qm_RX12_263 (ck rfl) rfl dX12_take_77 rfl rfl rfl ?_
        refine v_aload_n 2 rfl dX12_take_80 rfl ?_
        refine v_iload_n 3 rfl dX12_take_81 rfl ?_
        refine v_iload_n 0 rfl dX12_take_82 rfl ?_
        obtain ⟨v83, e83, h⟩ := o_b h
        refine v_Vv (as := [.int x1, .int v66]) (st := []) (c' := 0) (k' := 0) (k_X12_answer hG e83) (rcv_m (mg hG rfl)) mk_X12_answer qi_X12_answer qe_X12_answer qm_RX12_266 (ck rfl) rfl dX12_take_83 rfl rfl rfl ?_
        refine v_goto (q := 0) dX12_take_86 (by decide) ?_
        refine v_sub [2, 3] rfl ?_
        exact ih h
set_option maxRecDepth 100000 in
set_option maxHeartbeats 4000000 in
theorem k_X12_take {G : Gm} (hG : gF G = mFl) {σ : Hp} {o : Int64} {μ' : Mu} {μ : Mu} {a1 : Int32} (h : f_X12_take μ a1 = some μ') : Cv G yX12_take cX12_take 4 none rm_X12_take [.ref (gM G 200), .int a1] (σ, μ, o) (σ, μ', o) 0 0 := by
  refine v_entV [(0, .ref (gM G 200)), (1, .int a1)] (by decide +kernel) (Nat.le_of_ble_eq_true rfl) rfl ?_
  unfold f_X12_take at h
  exact l_X12_take_0 hG _ h
