def rm_J6_bitCount_0f7a4 : Room := { frames := 0, cells := 0, slots := 0, locals := 0 }
set_option maxRecDepth 100000 in
set_option maxHeartbeats 4000000 in
theorem k_J6_bitCount_0f7a4 {G : Gm} {w : Wt} {r : Int32} {a0 : Int32} (h : f_J6_bitCount_0f7a4 a0 = some r) : Ci G yJ6_bitCount_0f7a4 cJ6_bitCount_0f7a4 1 (some .int) rm_J6_bitCount_0f7a4 [.int a0] w r w 0 0 := by
  refine v_entI [(0, .int a0)] (by decide +kernel) (Nat.le_of_ble_eq_true rfl) rfl ?_
  unfold f_J6_bitCount_0f7a4 at h
  refine v_iload_n 0 rfl dJ6_bitCount_0f7a4_0 rfl ?_
  refine v_iload_n 0 rfl dJ6_bitCount_0f7a4_1 rfl ?_
  refine v_iconst (v := (1 : Int32)) (by decide) dJ6_bitCount_0f7a4_2 rfl ?_
  refine v_iushr dJ6_bitCount_0f7a4_3 rfl ?_
  refine v_ldcw (v := (1431655765 : Int32)) qk_RJ6_265 dJ6_bitCount_0f7a4_4 rfl ?_
  refine v_iand dJ6_bitCount_0f7a4_7 rfl ?_
  refine v_isub dJ6_bitCount_0f7a4_8 rfl ?_
  refine v_istore_n [(0, .int (a0 - (((a0.toUInt32 >>> ((1 : Int32).toUInt32 &&& Int32.toUInt32 31)).toInt32) &&& (1431655765 : Int32))))] dJ6_bitCount_0f7a4_9 rfl (by decide) rfl ?_
  refine v_iload_n 0 rfl dJ6_bitCount_0f7a4_10 rfl ?_
  refine v_ldcw (v := (858993459 : Int32)) qk_RJ6_266 dJ6_bitCount_0f7a4_11 rfl ?_
  refine v_iand dJ6_bitCount_0f7a4_14 rfl ?_
  refine v_iload_n 0 rfl dJ6_bitCount_0f7a4_15 rfl ?_
  refine v_iconst (v := (2 : Int32)) (by decide) dJ6_bitCount_0f7a4_16 rfl ?_
  refine v_iushr dJ6_bitCount_0f7a4_17 rfl ?_
  refine v_ldcw (v := (858993459 : Int32)) qk_RJ6_266 dJ6_bitCount_0f7a4_18 rfl ?_
  refine v_iand dJ6_bitCount_0f7a4_21 rfl ?_
  refine v_iadd dJ6_bitCount_0f7a4_22 rfl ?_
  refine v_istore_n [(0, .int (((a0 - (((a0.toUInt32 >>> ((1 : Int32).toUInt32 &&& Int32.toUInt32 31)).toInt32) &&& (1431655765 : Int32))) &&& (858993459 : Int32)) + ((((a0 - (((a0.toUInt32 >>> ((1 : Int32).toUInt32 &&& Int32.toUInt32 31)).toInt32) &&& (1431655765 : Int32))).toUInt32 >>> ((2 : Int32).toUInt32 &&& Int32.toUInt32 31)).toInt32) &&& (858993459 : Int32))))] dJ6_bitCount_0f7a4_23 rfl (by decide) rfl ?_
  refine v_iload_n 0 rfl dJ6_bitCount_0f7a4_24 rfl ?_
  refine v_iload_n 0 rfl dJ6_bitCount_0f7a4_25 rfl ?_
  refine v_iconst (v := (4 : Int32)) (by decide) dJ6_bitCount_0f7a4_26 rfl ?_
  refine v_iushr dJ6_bitCount_0f7a4_27 rfl ?_
  refine v_iadd dJ6_bitCount_0f7a4_28 rfl ?_
  refine v_ldcw (v := (252645135 : Int32)) qk_RJ6_267 dJ6_bitCount_0f7a4_29 rfl ?_
  refine v_iand dJ6_bitCount_0f7a4_32 rfl ?_
  refine v_istore_n [(0, .int (((((a0 - (((a0.toUInt32 >>> ((1 : Int32).toUInt32 &&& Int32.toUInt32 31)).toInt32) &&& (1431655765 : Int32))) &&& (858993459 : Int32)) + ((((a0 - (((a0.toUInt32 >>> ((1 : Int32).toUInt32 &&& Int32.toUInt32 31)).toInt32) &&& (1431655765 : Int32))).toUInt32 >>> ((2 : Int32).toUInt32 &&& Int32.toUInt32 31)).toInt32) &&& (858993459 : Int32))) + (((((a0 - (((a0.toUInt32 >>> ((1 : Int32).toUInt32 &&& Int32.toUInt32 31)).toInt32) &&& (1431655765 : Int32))) &&& (858993459 : Int32)) + ((((a0 - (((a0.toUInt32 >>> ((1 : Int32).toUInt32 &&& Int32.toUInt32 31)).toInt32) &&& (1431655765 : Int32))).toUInt32 >>> ((2 : Int32).toUInt32 &&& Int32.toUInt32 31)).toInt32) &&& (858993459 : Int32))).toUInt32 >>> ((4 : Int32).toUInt32 &&& Int32.toUInt32 31)).toInt32)) &&& (252645135 : Int32)))] dJ6_bitCount_0f7a4_33 rfl (by decide) rfl ?_
  refine v_iload_n 0 rfl dJ6_bitCount_0f7a4_34 rfl ?_
  refine v_iload_n 0 rfl dJ6_bitCount_0f7a4_35 rfl ?_
  refine v_bipush (v := (8 : Int32)) (by decide) dJ6_bitCount_0f7a4_36 rfl ?_
  refine v_iushr dJ6_bitCount_0f7a4_38 rfl ?_
  refine v_iadd dJ6_bitCount_0f7a4_39 rfl ?_
  refine v_istore_n [(0, .int ((((((a0 - (((a0.toUInt32 >>> ((1 : Int32).toUInt32 &&& Int32.toUInt32 31)).toInt32) &&& (1431655765 : Int32))) &&& (858993459 : Int32)) + ((((a0 - (((a0.toUInt32 >>> ((1 : Int32).toUInt32 &&& Int32.toUInt32 31)).toInt32) &&& (1431655765 : Int32))).toUInt32 >>> ((2 : Int32).toUInt32 &&& Int32.toUInt32 31)).toInt32) &&& (858993459 : Int32))) + (((((a0 - (((a0.toUInt32 >>> ((1 : Int32).toUInt32 &&& Int32.toUInt32 31)).toInt32) &&& (1431655765 : Int32))) &&& (858993459 : Int32)) + ((((a0 - (((a0.toUInt32 >>> ((1 : Int32).toUInt32 &&& Int32.toUInt32 31)).toInt32) &&& (1431655765 : Int32))).toUInt32 >>> ((2 : Int32).toUInt32 &&& Int32.toUInt32 31)).toInt32) &&& (858993459 : Int32))).toUInt32 >>> ((4 : Int32).toUInt32 &&& Int32.toUInt32 31)).toInt32)) &&& (252645135 : Int32)) + (((((((a0 - (((a0.toUInt32 >>> ((1 : Int32).toUInt32 &&& Int32.toUInt32 31)).toInt32) &&& (1431655765 : Int32))) &&& (858993459 : Int32)) + ((((a0 - (((a0.toUInt32 >>> ((1 : Int32).toUInt32 &&& Int32.toUInt32 31)).toInt32) &&& (1431655765 : Int32))).toUInt32 >>> ((2 : Int32).toUInt32 &&& Int32.toUInt32 31)).toInt32) &&& (858993459 : Int32))) + (((((a0 - (((a0.toUInt32 >>> ((1 : Int32).toUInt32 &&& Int32.toUInt32 31)).toInt32) &&& (1431655765 : Int32))) &&& (858993459 : Int32)) + ((((a0 - (((a0.toUInt32 >>> ((1 : Int32).toUInt32 &&& Int32.toUInt32 31)).toInt32) &&& (1431655765 : Int32))).toUInt32 >>> ((2 : Int32).toUInt32 &&& Int32.toUInt32 31)).toInt32) &&& (858993459 : Int32))).toUInt32 >>> ((4 : Int32).toUInt32 &&& Int32.toUInt32 31)).toInt32)) &&& (252645135 : Int32)).toUInt32 >>> ((8 : Int32).toUInt32 &&& Int32.toUInt32 31)).toInt32)))] dJ6_bitCount_0f7a4_40 rfl (by decide) rfl ?_
  refine v_iload_n 0 rfl dJ6_bitCount_0f7a4_41 rfl ?_
  refine v_iload_n 0 rfl dJ6_bitCount_0f7a4_42 rfl ?_
  refine v_bipush (v := (16 : Int32)) (by decide) dJ6_bitCount_0f7a4_43 rfl ?_
  refine v_iushr dJ6_bitCount_0f7a4_45 rfl ?_
  refine v_iadd dJ6_bitCount_0f7a4_46 rfl ?_
  refine v_istore_n [(0, .int (((((((a0 - (((a0.toUInt32 >>> ((1 : Int32).toUInt32 &&& Int32.toUInt32 31)).toInt32) &&& (1431655765 : Int32))) &&& (858993459 : Int32)) + ((((a0 - (((a0.toUInt32 >>> ((1 : Int32).toUInt32 &&& Int32.toUInt32 31)).toInt32) &&& (1431655765 : Int32))).toUInt32 >>> ((2 : Int32).toUInt32 &&& Int32.toUInt32 31)).toInt32) &&& (858993459 : Int32))) + (((((a0 - (((a0.toUInt32 >>> ((1 : Int32).toUInt32 &&& Int32.toUInt32 31)).toInt32) &&& (1431655765 : Int32))) &&& (858993459 : Int32)) + ((((a0 - (((a0.toUInt32 >>> ((1 : Int32).toUInt32 &&& Int32.toUInt32 31)).toInt32) &&& (1431655765 : Int32))).toUInt32 >>> ((2 : Int32).toUInt32 &&& Int32.toUInt32 31)).toInt32) &&& (858993459 : Int32))).toUInt32 >>> ((4 : Int32).toUInt32 &&& Int32.toUInt32 31)).toInt32)) &&& (252645135 : Int32)) + (((((((a0 - (((a0.toUInt32 >>> ((1 : Int32).toUInt32 &&& Int32.toUInt32 31)).toInt32) &&& (1431655765 : Int32))) &&& (858993459 : Int32)) + ((((a0 - (((a0.toUInt32 >>> ((1 : Int32).toUInt32 &&& Int32.toUInt32 31)).toInt32) &&& (1431655765 : Int32))).toUInt32 >>> ((2 : Int32).toUInt32 &&& Int32.toUInt32 31)).toInt32) &&& (858993459 : Int32))) + (((((a0 - (((a0.toUInt32 >>> ((1 : Int32).toUInt32 &&& Int32.toUInt32 31)).toInt32) &&& (1431655765 : Int32))) &&& (858993459 : Int32)) + ((((a0 - (((a0.toUInt32 >>> ((1 : Int32).toUInt32 &&& Int32.toUInt32 31)).toInt32) &&& (1431655765 : Int32))).toUInt32 >>> ((2 : Int32).toUInt32 &&& Int32.toUInt32 31)).toInt32) &&& (858993459 : Int32))).toUInt32 >>> ((4 : Int32).toUInt32 &&& Int32.toUInt32 31)).toInt32)) &&& (252645135 : Int32)).toUInt32 >>> ((8 : Int32).toUInt32 &&& Int32.toUInt32 31)).toInt32)) + ((((((((a0 - (((a0.toUInt32 >>> ((1 : Int32).toUInt32 &&& Int32.toUInt32 31)).toInt32) &&& (1431655765 : Int32))) &&& (858993459 : Int32)) + ((((a0 - (((a0.toUInt32 >>> ((1 : Int32).toUInt32 &&& Int32.toUInt32 31)).toInt32) &&& (1431655765 : Int32))).toUInt32 >>> ((2 : Int32).toUInt32 &&& Int32.toUInt32 31)).toInt32) &&& (858993459 : Int32))) + (((((a0 - (((a0.toUInt32 >>> ((1 : Int32).toUInt32 &&& Int32.toUInt32 31)).toInt32) &&& (1431655765 : Int32))) &&& (858993459 : Int32)) + ((((a0 - (((a0.toUInt32 >>> ((1 : Int32).toUInt32 &&& Int32.toUInt32 31)).toInt32) &&& (1431655765 : Int32))).toUInt32 >>> ((2 : Int32).toUInt32 &&& Int32.toUInt32 31)).toInt32) &&& (858993459 : Int32))).toUInt32 >>> ((4 : Int32).toUInt32 &&& Int32.toUInt32 31)).toInt32)) &&& (252645135 : Int32)) + (((((((a0 - (((a0.toUInt32 >>> ((1 : Int32).toUInt32 &&& Int32.toUInt32 31)).toInt32) &&& (1431655765 : Int32))) &&& (858993459 : Int32)) + ((((a0 - (((a0.toUInt32 >>> ((1 : Int32).toUInt32 &&& Int32.toUInt32 31)).toInt32) &&& (1431655765 : Int32))).toUInt32 >>> ((2 : Int32).toUInt32 &&& Int32.toUInt32 31)).toInt32) &&& (858993459 : Int32))) + (((((a0 - (((a0.toUInt32 >>> ((1 : Int32).toUInt32 &&& Int32.toUInt32 31)).toInt32) &&& (1431655765 : Int32))) &&& (858993459 : Int32)) + ((((a0 - (((a0.toUInt32 >>> ((1 : Int32).toUInt32 &&& Int32.toUInt32 31)).toInt32) &&& (1431655765 : Int32))).toUInt32 >>> ((2 : Int32).toUInt32 &&& Int32.toUInt32 31)).toInt32) &&& (858993459 : Int32))).toUInt32 >>> ((4 : Int32).toUInt32 &&& Int32.toUInt32 31)).toInt32)) &&& (252645135 : Int32)).toUInt32 >>> ((8 : Int32).toUInt32 &&& Int32.toUInt32 31)).toInt32)).toUInt32 >>> ((16 : Int32).toUInt32 &&& Int32.toUInt32 31)).toInt32)))] dJ6_bitCount_0f7a4_47 rfl (by decide) rfl ?_
  refine v_iload_n 0 rfl dJ6_bitCount_0f7a4_48 rfl ?_
  refine v_bipush (v := (63 : Int32)) (by decide) dJ6_bitCount_0f7a4_49 rfl ?_
  refine v_iand dJ6_bitCount_0f7a4_51 rfl ?_
  obtain rfl := Option.some.inj h
  exact v_iret rfl rfl (Nat.le_of_ble_eq_true rfl) (Nat.le_of_ble_eq_true rfl) dJ6_bitCount_0f7a4_52
def rm_X2_hear : Room := { frames := 2, cells := 0, slots := 0, locals := 44 }
set_option maxRecDepth 100000 in
set_option maxHeartbeats 4000000 in
theorem l_X2_hear_79 {G : Gm} {μ : Mu} {o : Int64} {r : Int32} {σ' : Hp} {σ : Hp} {x0 : Nat} {x1 : Nat} {x2 : Int32} {x3 : Int32} (h : f_X2_hear_79 σ x0 x1 x2 x3 = some (r, σ')) : V G yX2_hear cX2_hear 4 (some .boolean) rm_X2_hear (zI G r (σ', μ, o) 0 0) (σ, μ, o) 0 0 79 [(0, .ref x0), (1, .ref x1), (2, .int x2), (3, .int x3)] [] := by
  unfold f_X2_hear_79 at h
  refine v_aload_n 0 rfl dX2_hear_79 rfl ?_
  obtain ⟨v80, e80, h⟩ := o_b h
  refine v_getR e80 (by decide) (by decide) rfl qf_RX2_28 dX2_hear_80 rfl ?_
  refine v_iload_n 2 rfl dX2_hear_83 rfl ?_
  obtain ⟨v84, e84, h⟩ := o_b h
  refine v_aI e84 dX2_hear_84 rfl ?_
  obtain ⟨v85, e85, h⟩ := o_b h
  refine v_Si (as := [.int v84]) (st := []) (c' := 0) (k' := 0) (k_J6_bitCount_0f7a4 e85) mk_J6_bitCount_0f7a4 qs_J6_bitCount_0f7a4 qm_RX2_72 (ck rfl) rfl dX2_hear_85 rfl rfl rfl ?_
  refine v_aload_n 0 rfl dX2_hear_88 rfl ?_
  obtain ⟨v89, e89, h⟩ := o_b h
  refine v_getI e89 (by decide) (by decide) rfl qf_RX2_34 dX2_hear_89 rfl ?_
  refine v_iconst (v := (2 : Int32)) (by decide) dX2_hear_92 rfl ?_
  refine v_idiv (by decide) dX2_hear_93 rfl ?_
  refine v_icmp_le 110 dX2_hear_94 (by decide) rfl (fun c94 => ?_) (fun c94 => ?_)
  · have h := o_p c94 h
    refine v_iconst (v := (0 : Int32)) (by decide) dX2_hear_110 rfl ?_
    obtain ⟨rfl, rfl⟩ := o_s h
    exact v_iret rfl rfl (Nat.le_of_ble_eq_true rfl) (Nat.le_of_ble_eq_true rfl) dX2_hear_111
  · have h := o_n c94 h
    refine v_aload_n 0 rfl dX2_hear_97 rfl ?_
    obtain ⟨v98, e98, h⟩ := o_b h
    refine v_getR e98 (by decide) (by decide) rfl qf_RX2_28 dX2_hear_98 rfl ?_
    refine v_iload_n 2 rfl dX2_hear_101 rfl ?_
    obtain ⟨v102, e102, h⟩ := o_b h
    refine v_aI e102 dX2_hear_102 rfl ?_
    refine v_iconst (v := (1 : Int32)) (by decide) dX2_hear_103 rfl ?_
    refine v_iload_n 3 rfl dX2_hear_104 rfl ?_
    refine v_ishl dX2_hear_105 rfl ?_
    refine v_iand dX2_hear_106 rfl ?_
    refine v_if_ne 112 dX2_hear_107 (by decide) rfl (fun c107 => ?_) (fun c107 => ?_)
    · have h := o_n c107 h
      refine v_aload_n 0 rfl dX2_hear_112 rfl ?_
      refine v_iconst (v := (2 : Int32)) (by decide) dX2_hear_113 rfl ?_
      obtain ⟨s114, e114, h⟩ := o_b h
      refine v_putI e114 (by decide) (by decide) rfl rfl rfl rfl rfl qf_RX2_15 dX2_hear_114 rfl ?_
      refine v_aload_n 0 rfl dX2_hear_117 rfl ?_
      refine v_aload_n 1 rfl dX2_hear_118 rfl ?_
      obtain ⟨v119, e119, h⟩ := o_b h
      refine v_getR e119 (by decide) (by decide) rfl qf_RX2_51 dX2_hear_119 rfl ?_
      obtain ⟨s122, e122, h⟩ := o_b h
      refine v_putR e122 (by decide) (by decide) rfl rfl qf_RX2_77 dX2_hear_122 rfl ?_
      refine v_aload_n 0 rfl dX2_hear_125 rfl ?_
      refine v_aload_n 1 rfl dX2_hear_126 rfl ?_
      obtain ⟨v127, e127, h⟩ := o_b h
      refine v_getI e127 (by decide) (by decide) rfl qf_RX2_55 dX2_hear_127 rfl ?_
      obtain ⟨s130, e130, h⟩ := o_b h
      refine v_putI e130 (by decide) (by decide) rfl rfl rfl rfl rfl qf_RX2_80 dX2_hear_130 rfl ?_
      refine v_aload_n 0 rfl dX2_hear_133 rfl ?_
      refine v_aload_n 0 rfl dX2_hear_134 rfl ?_
      obtain ⟨v135, e135, h⟩ := o_b h
      refine v_getR e135 (by decide) (by decide) rfl qf_RX2_31 dX2_hear_135 rfl ?_
      refine v_iload_n 2 rfl dX2_hear_138 rfl ?_
      obtain ⟨v139, e139, h⟩ := o_b h
      refine v_aI e139 dX2_hear_139 rfl ?_
      obtain ⟨s140, e140, h⟩ := o_b h
      refine v_putI e140 (by decide) (by decide) rfl rfl rfl rfl rfl qf_RX2_83 dX2_hear_140 rfl ?_
      refine v_iconst (v := (1 : Int32)) (by decide) dX2_hear_143 rfl ?_
      obtain ⟨rfl, rfl⟩ := o_s h
      exact v_iret rfl rfl (Nat.le_of_ble_eq_true rfl) (Nat.le_of_ble_eq_true rfl) dX2_hear_144
    · have h := o_p c107 h
      refine v_iconst (v := (0 : Int32)) (by decide) dX2_hear_110 rfl ?_
      obtain ⟨rfl, rfl⟩ := o_s h
      exact v_iret rfl rfl (Nat.le_of_ble_eq_true rfl) (Nat.le_of_ble_eq_true rfl) dX2_hear_111
set_option maxRecDepth 100000 in
set_option maxHeartbeats 4000000 in
theorem k_X2_hear {G : Gm} {μ : Mu} {o : Int64} {r : Int32} {σ' : Hp} {σ : Hp} {a0 : Nat} {a1 : Nat} (h : f_X2_hear σ a0 a1 = some (r, σ')) : Ci G yX2_hear cX2_hear 4 (some .boolean) rm_X2_hear [.ref a0, .ref a1] (σ, μ, o) r (σ', μ, o) 0 0 := by
  refine v_entI [(0, .ref a0), (1, .ref a1)] (by decide +kernel) (Nat.le_of_ble_eq_true rfl) rfl ?_
  unfold f_X2_hear at h
  refine v_aload_n 0 rfl dX2_hear_0 rfl ?_
  obtain ⟨v1, e1, h⟩ := o_b h
  refine v_getI e1 (by decide) (by decide) rfl qf_RX2_15 dX2_hear_1 rfl ?_
  refine v_iconst (v := (1 : Int32)) (by decide) dX2_hear_4 rfl ?_
  refine v_icmp_ne 19 dX2_hear_5 (by decide) rfl (fun c5 => ?_) (fun c5 => ?_)
  · have h := o_n c5 h
    refine v_iconst (v := (0 : Int32)) (by decide) dX2_hear_19 rfl ?_
    obtain ⟨rfl, rfl⟩ := o_s h
    exact v_iret rfl rfl (Nat.le_of_ble_eq_true rfl) (Nat.le_of_ble_eq_true rfl) dX2_hear_20
  · have h := o_p c5 h
    refine v_aload_n 1 rfl dX2_hear_8 rfl ?_
    obtain ⟨v9, e9, h⟩ := o_b h
    refine v_getI e9 (by decide) (by decide) rfl qf_RX2_46 dX2_hear_9 rfl ?_
    refine v_aload_n 0 rfl dX2_hear_12 rfl ?_
    obtain ⟨v13, e13, h⟩ := o_b h
    refine v_getI e13 (by decide) (by decide) rfl qf_RX2_9 dX2_hear_13 rfl ?_
    refine v_icmp_eq 21 dX2_hear_16 (by decide) rfl (fun c16 => ?_) (fun c16 => ?_)
    · have h := o_p c16 h
      refine v_aload_n 0 rfl dX2_hear_21 rfl ?_
      refine v_aload_n 1 rfl dX2_hear_22 rfl ?_
      obtain ⟨v23, e23, h⟩ := o_b h
      refine v_getR e23 (by decide) (by decide) rfl qf_RX2_51 dX2_hear_23 rfl ?_
      refine v_aload_n 1 rfl dX2_hear_26 rfl ?_
      obtain ⟨v27, e27, h⟩ := o_b h
      refine v_getI e27 (by decide) (by decide) rfl qf_RX2_55 dX2_hear_27 rfl ?_
      obtain ⟨⟨⟩, g30, h⟩ := o_b h
      obtain ⟨v30, e30, h⟩ := o_b h
      refine v_Vi (as := [.ref v23, .int v27]) (st := []) (c' := 0) (k' := 0) (k_X2_placeOf e30) (rcv_c g30 (by decide) rfl) mk_X2_placeOf qi_X2_placeOf qe_X2_placeOf qm_RX2_58 (ck rfl) rfl dX2_hear_30 rfl rfl rfl ?_
      refine v_istore_n [(2, .int v30.1), (0, .ref a0), (1, .ref a1)] dX2_hear_33 rfl (by decide) rfl ?_
      refine v_aload_n 2 rfl dX2_hear_34 rfl ?_
      obtain ⟨v35, e35, h⟩ := o_b h
      refine v_getR e35 (by decide) (by decide) rfl qf_RX2_51 dX2_hear_35 rfl ?_
      refine v_aload_n 1 rfl dX2_hear_38 rfl ?_
      obtain ⟨v39, e39, h⟩ := o_b h
      refine v_getI e39 (by decide) (by decide) rfl qf_RX2_34 dX2_hear_39 rfl ?_
      obtain ⟨⟨⟩, g42, h⟩ := o_b h
      obtain ⟨v42, e42, h⟩ := o_b h
      refine v_Vi (as := [.int v39]) (st := []) (c' := 0) (k' := 0) (k_X9_leader e42) (rcv_c g42 (by decide) rfl) mk_X9_leader qi_X9_leader qe_X9_leader qm_RX2_62 (ck rfl) rfl dX2_hear_42 rfl rfl rfl ?_
      refine v_istore_n [(3, .int v42), (2, .int v30.1), (0, .ref a0), (1, .ref a1)] dX2_hear_45 rfl (by decide) rfl ?_
      refine v_aload_n 2 rfl dX2_hear_46 rfl ?_
      obtain ⟨v47, e47, h⟩ := o_b h
      refine v_getR e47 (by decide) (by decide) rfl qf_RX2_28 dX2_hear_47 rfl ?_
      refine v_iload_n 1 rfl dX2_hear_50 rfl ?_
      refine v_dup2 rfl rfl dX2_hear_51 rfl ?_
      obtain ⟨v52, e52, h⟩ := o_b h
      refine v_aI e52 dX2_hear_52 rfl ?_
      refine v_iconst (v := (1 : Int32)) (by decide) dX2_hear_53 rfl ?_
      refine v_aload_n 3 rfl dX2_hear_54 rfl ?_
      obtain ⟨v55, e55, h⟩ := o_b h
      refine v_getI e55 (by decide) (by decide) rfl qf_RX2_66 dX2_hear_55 rfl ?_
      refine v_ishl dX2_hear_58 rfl ?_
      refine v_ior dX2_hear_59 rfl ?_
      obtain ⟨s60, e60, h⟩ := o_b h
      refine v_qI e60 dX2_hear_60 rfl ?_
      refine v_aload_n 3 rfl dX2_hear_61 rfl ?_
      obtain ⟨v62, e62, h⟩ := o_b h
      refine v_getI e62 (by decide) (by decide) rfl qf_RX2_66 dX2_hear_62 rfl ?_
      refine v_iload_n 0 rfl dX2_hear_65 rfl ?_
      refine v_icmp_ne 79 dX2_hear_66 (by decide) rfl (fun c66 => ?_) (fun c66 => ?_)
      · have h := o_n c66 h
        refine v_sub [2, 3, 1, 0] rfl ?_
        exact l_X2_hear_79 h
      · have h := o_p c66 h
        refine v_aload_n 2 rfl dX2_hear_69 rfl ?_
        obtain ⟨v70, e70, h⟩ := o_b h
        refine v_getR e70 (by decide) (by decide) rfl qf_RX2_31 dX2_hear_70 rfl ?_
        refine v_iload_n 1 rfl dX2_hear_73 rfl ?_
        refine v_aload_n 3 rfl dX2_hear_74 rfl ?_
        obtain ⟨v75, e75, h⟩ := o_b h
        refine v_getI e75 (by decide) (by decide) rfl qf_RX2_69 dX2_hear_75 rfl ?_
        obtain ⟨s78, e78, h⟩ := o_b h
        refine v_qI e78 dX2_hear_78 rfl ?_
        refine v_sub [2, 3, 1, 0] rfl ?_
        exact l_X2_hear_79 h
    · have h := o_n c16 h
      refine v_iconst (v := (0 : Int32)) (by decide) dX2_hear_19 rfl ?_
      obtain ⟨rfl, rfl⟩ := o_s h
      exact v_iret rfl rfl (Nat.le_of_ble_eq_true rfl) (Nat.le_of_ble_eq_true rfl) dX2_hear_20
def rm_X0_add : Room := { frames := 1, cells := 0, slots := 0, locals := 21 }
set_option maxRecDepth 100000 in
set_option maxHeartbeats 4000000 in
theorem k_X0_add {G : Gm} {μ : Mu} {o : Int64} {σ' : Hp} {σ : Hp} {a0 : Nat} {a1 : Int32} {a2 : Nat} {a3 : Int32} {a4 : Int32} (h : f_X0_add σ a0 a1 a2 a3 a4 = some σ') : Cv G yX0_add cX0_add 5 none rm_X0_add [.ref a0, .int a1, .ref a2, .int a3, .int a4] (σ, μ, o) (σ', μ, o) 0 0 := by
  refine v_entV [(0, .ref a0), (1, .int a1), (2, .ref a2), (3, .int a3), (4, .int a4)] (by decide +kernel) (Nat.le_of_ble_eq_true rfl) rfl ?_
  unfold f_X0_add at h
  refine v_aload_n 0 rfl dX0_add_0 rfl ?_
  obtain ⟨v1, e1, h⟩ := o_b h
  refine v_getR e1 (by decide) (by decide) rfl qf_RX0_9 dX0_add_1 rfl ?_
  refine v_aload_n 0 rfl dX0_add_4 rfl ?_
  obtain ⟨v5, e5, h⟩ := o_b h
  refine v_getI e5 (by decide) (by decide) rfl qf_RX0_30 dX0_add_5 rfl ?_
  refine v_iload_n 1 rfl dX0_add_8 rfl ?_
  obtain ⟨s9, e9, h⟩ := o_b h
  refine v_qI e9 dX0_add_9 rfl ?_
  refine v_aload_n 0 rfl dX0_add_10 rfl ?_
  obtain ⟨v11, e11, h⟩ := o_b h
  refine v_getR e11 (by decide) (by decide) rfl qf_RX0_17 dX0_add_11 rfl ?_
  refine v_aload_n 0 rfl dX0_add_14 rfl ?_
  obtain ⟨v15, e15, h⟩ := o_b h
  refine v_getI e15 (by decide) (by decide) rfl qf_RX0_30 dX0_add_15 rfl ?_
  refine v_aload_n 2 rfl dX0_add_18 rfl ?_
  obtain ⟨s19, e19, h⟩ := o_b h
  refine v_qR e19 (by decide) (by decide) (by decide) rfl dX0_add_19 rfl ?_
  refine v_aload_n 0 rfl dX0_add_20 rfl ?_
  obtain ⟨v21, e21, h⟩ := o_b h
  refine v_getR e21 (by decide) (by decide) rfl qf_RX0_21 dX0_add_21 rfl ?_
  refine v_aload_n 0 rfl dX0_add_24 rfl ?_
  obtain ⟨v25, e25, h⟩ := o_b h
  refine v_getI e25 (by decide) (by decide) rfl qf_RX0_30 dX0_add_25 rfl ?_
  refine v_iload_n 3 rfl dX0_add_28 rfl ?_
  obtain ⟨s29, e29, h⟩ := o_b h
  refine v_qI e29 dX0_add_29 rfl ?_
  refine v_aload_n 0 rfl dX0_add_30 rfl ?_
  obtain ⟨v31, e31, h⟩ := o_b h
  refine v_getR e31 (by decide) (by decide) rfl qf_RX0_24 dX0_add_31 rfl ?_
  refine v_aload_n 0 rfl dX0_add_34 rfl ?_
  obtain ⟨v35, e35, h⟩ := o_b h
  refine v_getI e35 (by decide) (by decide) rfl qf_RX0_30 dX0_add_35 rfl ?_
  refine v_iload 4 rfl dX0_add_38 rfl ?_
  obtain ⟨s40, e40, h⟩ := o_b h
  refine v_qI e40 dX0_add_40 rfl ?_
  refine v_aload_n 0 rfl dX0_add_41 rfl ?_
  refine v_aload_n 0 rfl dX0_add_42 rfl ?_
  obtain ⟨v43, e43, h⟩ := o_b h
  refine v_getI e43 (by decide) (by decide) rfl qf_RX0_30 dX0_add_43 rfl ?_
  refine v_iconst (v := (1 : Int32)) (by decide) dX0_add_46 rfl ?_
  refine v_iadd dX0_add_47 rfl ?_
  refine v_sipush (v := (200 : Int32)) (by decide) dX0_add_48 rfl ?_
  refine v_irem (by decide) dX0_add_51 rfl ?_
  obtain ⟨s52, e52, h⟩ := o_b h
  refine v_putI e52 (by decide) (by decide) rfl rfl rfl rfl rfl qf_RX0_30 dX0_add_52 rfl ?_
  refine v_aload_n 0 rfl dX0_add_55 rfl ?_
  refine v_aload_n 0 rfl dX0_add_56 rfl ?_
  obtain ⟨v57, e57, h⟩ := o_b h
  refine v_getI e57 (by decide) (by decide) rfl qf_RX0_34 dX0_add_57 rfl ?_
  refine v_iconst (v := (1 : Int32)) (by decide) dX0_add_60 rfl ?_
  refine v_iadd dX0_add_61 rfl ?_
  refine v_sipush (v := (200 : Int32)) (by decide) dX0_add_62 rfl ?_
  obtain ⟨v65, e65, h⟩ := o_b h
  refine v_Si (as := [.int (v57 + (1 : Int32)), .int (200 : Int32)]) (st := [.ref a0]) (c' := 0) (k' := 0) (k_J9_min_7cf53 e65) mk_J9_min_7cf53 qs_J9_min_7cf53 qm_RX0_37 (ck rfl) rfl dX0_add_65 rfl rfl rfl ?_
  obtain ⟨s68, e68, h⟩ := o_b h
  refine v_putI e68 (by decide) (by decide) rfl rfl rfl rfl rfl qf_RX0_34 dX0_add_68 rfl ?_
  refine v_aload_n 0 rfl dX0_add_71 rfl ?_
  refine v_dup rfl dX0_add_72 rfl ?_
  obtain ⟨v73, e73, h⟩ := o_b h
  refine v_getI e73 (by decide) (by decide) rfl qf_RX0_43 dX0_add_73 rfl ?_
  refine v_iconst (v := (1 : Int32)) (by decide) dX0_add_76 rfl ?_
  refine v_iadd dX0_add_77 rfl ?_
  obtain ⟨s78, e78, h⟩ := o_b h
  refine v_putI e78 (by decide) (by decide) rfl rfl rfl rfl rfl qf_RX0_43 dX0_add_78 rfl ?_
  obtain rfl := Option.some.inj h
  exact v_vret rfl (Nat.le_of_ble_eq_true rfl) (Nat.le_of_ble_eq_true rfl) dX0_add_81
def rm_X0_unmark : Room := { frames := 1, cells := 0, slots := 0, locals := 23 }
set_option maxRecDepth 100000 in
set_option maxHeartbeats 4000000 in
theorem k_X0_unmark {G : Gm} {μ : Mu} {o : Int64} {σ' : Hp} {σ : Hp} {a0 : Nat} (h : f_X0_unmark σ a0 = some σ') : Cv G yX0_unmark cX0_unmark 1 none rm_X0_unmark [.ref a0] (σ, μ, o) (σ', μ, o) 0 0 := by
  refine v_entV [(0, .ref a0)] (by decide +kernel) (Nat.le_of_ble_eq_true rfl) rfl ?_
  unfold f_X0_unmark at h
  refine v_aload_n 0 rfl dX0_unmark_0 rfl ?_
  obtain ⟨v1, e1, h⟩ := o_b h
  refine v_getR e1 (by decide) (by decide) rfl qf_RX0_27 dX0_unmark_1 rfl ?_
  refine v_iconst (v := (0 : Int32)) (by decide) dX0_unmark_4 rfl ?_
  obtain ⟨v5, e5, h⟩ := o_b h
  refine v_Sv (as := [.ref v1, .int (0 : Int32)]) (st := []) (c' := 0) (k' := 0) (k_J7_fill_53178 e5) mk_J7_fill_53178 qs_J7_fill_53178 qm_RX0_46 (ck rfl) rfl dX0_unmark_5 rfl rfl rfl ?_
  obtain rfl := Option.some.inj h
  exact v_vret rfl (Nat.le_of_ble_eq_true rfl) (Nat.le_of_ble_eq_true rfl) dX0_unmark_8
def rm_X0_markNotHeldTo : Room := { frames := 2, cells := 0, slots := 0, locals := 42 }
set_option maxRecDepth 100000 in
set_option maxHeartbeats 4000000 in
theorem l_X0_markNotHeldTo_118 {G : Gm} {μ : Mu} {o : Int64} {σ' : Hp} {rec2 : Hp → Nat → Nat → Nat → Int32 → Option Hp} (h2 : ∀ {σ : Hp} {x0 : Nat} {x1 : Nat} {x2 : Nat} {x3 : Int32} , rec2 σ x0 x1 x2 x3 = some σ' → V G yX0_markNotHeldTo cX0_markNotHeldTo 5 none rm_X0_markNotHeldTo (zV G (σ', μ, o) 0 0) (σ, μ, o) 0 0 2 [(0, .ref x0), (1, .ref x1), (2, .ref x2), (3, .int x3)] []) {σ : Hp} {x0 : Nat} {x1 : Nat} {x2 : Nat} {x3 : Int32} (h : f_X0_markNotHeldTo_118 rec2 σ x0 x1 x2 x3 = some σ') : V G yX0_markNotHeldTo cX0_markNotHeldTo 5 none rm_X0_markNotHeldTo (zV G (σ', μ, o) 0 0) (σ, μ, o) 0 0 118 [(0, .ref x0), (1, .ref x1), (2, .ref x2), (3, .int x3)] [] := by
  unfold f_X0_markNotHeldTo_118 at h
  refine v_iinc (v := (x3 + 1)) [(3, .int (x3 + 1)), (0, .ref x0), (1, .ref x1), (2, .ref x2)] 3 rfl rfl dX0_markNotHeldTo_118 rfl (by decide) rfl ?_
  refine v_goto (q := 2) dX0_markNotHeldTo_121 (by decide) ?_
  refine v_sub [1, 2, 3, 0] rfl ?_
  exact h2 h
set_option maxRecDepth 100000 in
set_option maxHeartbeats 4000000 in
theorem l_X0_markNotHeldTo_111 {G : Gm} {μ : Mu} {o : Int64} {σ' : Hp} {rec2 : Hp → Nat → Nat → Nat → Int32 → Option Hp} (h2 : ∀ {σ : Hp} {x0 : Nat} {x1 : Nat} {x2 : Nat} {x3 : Int32} , rec2 σ x0 x1 x2 x3 = some σ' → V G yX0_markNotHeldTo cX0_markNotHeldTo 5 none rm_X0_markNotHeldTo (zV G (σ', μ, o) 0 0) (σ, μ, o) 0 0 2 [(0, .ref x0), (1, .ref x1), (2, .ref x2), (3, .int x3)] []) {σ : Hp} {x0 : Nat} {x1 : Nat} {x2 : Nat} {x3 : Int32} (h : f_X0_markNotHeldTo_111 rec2 σ x0 x1 x2 x3 = some σ') : V G yX0_markNotHeldTo cX0_markNotHeldTo 5 none rm_X0_markNotHeldTo (zV G (σ', μ, o) 0 0) (σ, μ, o) 0 0 111 [(0, .ref x0), (1, .ref x1), (2, .ref x2), (3, .int x3)] [] := by
  unfold f_X0_markNotHeldTo_111 at h
  refine v_aload_n 0 rfl dX0_markNotHeldTo_111 rfl ?_
  obtain ⟨v112, e112, h⟩ := o_b h
  refine v_getR e112 (by decide) (by decide) rfl qf_RX0_27 dX0_markNotHeldTo_112 rfl ?_
  refine v_iload_n 3 rfl dX0_markNotHeldTo_115 rfl ?_
  refine v_iconst (v := (1 : Int32)) (by decide) dX0_markNotHeldTo_116 rfl ?_
  obtain ⟨s117, e117, h⟩ := o_b h
  refine v_qI e117 dX0_markNotHeldTo_117 rfl ?_
  exact l_X0_markNotHeldTo_118 h2 h
set_option maxRecDepth 100000 in
set_option maxHeartbeats 4000000 in
theorem l_X0_markNotHeldTo_82 {G : Gm} {μ : Mu} {o : Int64} {σ' : Hp} {rec2 : Hp → Nat → Nat → Nat → Int32 → Option Hp} (h2 : ∀ {σ : Hp} {x0 : Nat} {x1 : Nat} {x2 : Nat} {x3 : Int32} , rec2 σ x0 x1 x2 x3 = some σ' → V G yX0_markNotHeldTo cX0_markNotHeldTo 5 none rm_X0_markNotHeldTo (zV G (σ', μ, o) 0 0) (σ, μ, o) 0 0 2 [(0, .ref x0), (1, .ref x1), (2, .ref x2), (3, .int x3)] []) {σ : Hp} {x0 : Nat} {x1 : Nat} {x2 : Nat} {x3 : Int32} {y0 : Int32} (h : f_X0_markNotHeldTo_82 rec2 σ x0 x1 x2 x3 y0 = some σ') : V G yX0_markNotHeldTo cX0_markNotHeldTo 5 none rm_X0_markNotHeldTo (zV G (σ', μ, o) 0 0) (σ, μ, o) 0 0 82 [(0, .ref x0), (1, .ref x1), (2, .ref x2), (3, .int x3)] [.int y0] := by
  unfold f_X0_markNotHeldTo_82 at h
  refine v_istore [(4, .int y0), (0, .ref x0), (1, .ref x1), (2, .ref x2), (3, .int x3)] dX0_markNotHeldTo_82 rfl (by decide) rfl ?_
  refine v_aload_n 2 rfl dX0_markNotHeldTo_84 rfl ?_
  obtain ⟨v85, e85, h⟩ := o_b h
  refine v_getR e85 (by decide) (by decide) rfl qf_RX0_75 dX0_markNotHeldTo_85 rfl ?_
  refine v_aload_n 1 rfl dX0_markNotHeldTo_88 rfl ?_
  obtain ⟨v89, e89, h⟩ := o_b h
  refine v_getR e89 (by decide) (by decide) rfl qf_RX0_21 dX0_markNotHeldTo_89 rfl ?_
  refine v_iload_n 4 rfl dX0_markNotHeldTo_92 rfl ?_
  obtain ⟨v93, e93, h⟩ := o_b h
  refine v_aI e93 dX0_markNotHeldTo_93 rfl ?_
  obtain ⟨⟨⟩, g94, h⟩ := o_b h
  obtain ⟨v94, e94, h⟩ := o_b h
  refine v_Vi (as := [.int v93]) (st := []) (c' := 0) (k' := 0) (k_X4_at e94) (rcv_c g94 (by decide) rfl) mk_X4_at qi_X4_at qe_X4_at qm_RX0_79 (ck rfl) rfl dX0_markNotHeldTo_94 rfl rfl rfl ?_
  refine v_aload_n 1 rfl dX0_markNotHeldTo_97 rfl ?_
  obtain ⟨v98, e98, h⟩ := o_b h
  refine v_getR e98 (by decide) (by decide) rfl qf_RX0_9 dX0_markNotHeldTo_98 rfl ?_
  refine v_iload_n 4 rfl dX0_markNotHeldTo_101 rfl ?_
  obtain ⟨v102, e102, h⟩ := o_b h
  refine v_aI e102 dX0_markNotHeldTo_102 rfl ?_
  refine v_icmp_ne 111 dX0_markNotHeldTo_103 (by decide) rfl (fun c103 => ?_) (fun c103 => ?_)
  · have h := o_n c103 h
    refine v_sub [1, 2, 3, 4] rfl ?_
    exact l_X0_markNotHeldTo_111 h2 h
  · have h := o_p c103 h
    refine v_iload 0 rfl dX0_markNotHeldTo_106 rfl ?_
    refine v_if_eq 118 dX0_markNotHeldTo_108 (by decide) rfl (fun c108 => ?_) (fun c108 => ?_)
    · have h := o_p c108 h
      refine v_sub [1, 2, 3, 4] rfl ?_
      exact l_X0_markNotHeldTo_118 h2 h
    · have h := o_n c108 h
      refine v_sub [1, 2, 3, 4] rfl ?_
      exact l_X0_markNotHeldTo_111 h2 h
set_option maxRecDepth 100000 in
set_option maxHeartbeats 4000000 in
theorem l_X0_markNotHeldTo_81 {G : Gm} {μ : Mu} {o : Int64} {σ' : Hp} {rec2 : Hp → Nat → Nat → Nat → Int32 → Option Hp} (h2 : ∀ {σ : Hp} {x0 : Nat} {x1 : Nat} {x2 : Nat} {x3 : Int32} , rec2 σ x0 x1 x2 x3 = some σ' → V G yX0_markNotHeldTo cX0_markNotHeldTo 5 none rm_X0_markNotHeldTo (zV G (σ', μ, o) 0 0) (σ, μ, o) 0 0 2 [(0, .ref x0), (1, .ref x1), (2, .ref x2), (3, .int x3)] []) {σ : Hp} {x0 : Nat} {x1 : Nat} {x2 : Nat} {x3 : Int32} (h : f_X0_markNotHeldTo_81 rec2 σ x0 x1 x2 x3 = some σ') : V G yX0_markNotHeldTo cX0_markNotHeldTo 5 none rm_X0_markNotHeldTo (zV G (σ', μ, o) 0 0) (σ, μ, o) 0 0 81 [(0, .ref x0), (1, .ref x1), (2, .ref x2), (3, .int x3)] [] := by
  unfold f_X0_markNotHeldTo_81 at h
  refine v_iconst (v := (0 : Int32)) (by decide) dX0_markNotHeldTo_81 rfl ?_
  exact l_X0_markNotHeldTo_82 h2 h
set_option maxRecDepth 100000 in
set_option maxHeartbeats 4000000 in
theorem l_X0_markNotHeldTo_45 {G : Gm} {μ : Mu} {o : Int64} {σ' : Hp} {rec2 : Hp → Nat → Nat → Nat → Int32 → Option Hp} (h2 : ∀ {σ : Hp} {x0 : Nat} {x1 : Nat} {x2 : Nat} {x3 : Int32} , rec2 σ x0 x1 x2 x3 = some σ' → V G yX0_markNotHeldTo cX0_markNotHeldTo 5 none rm_X0_markNotHeldTo (zV G (σ', μ, o) 0 0) (σ, μ, o) 0 0 2 [(0, .ref x0), (1, .ref x1), (2, .ref x2), (3, .int x3)] []) {σ : Hp} {x0 : Nat} {x1 : Nat} {x2 : Nat} {x3 : Int32} (h : f_X0_markNotHeldTo_45 rec2 σ x0 x1 x2 x3 = some σ') : V G yX0_markNotHeldTo cX0_markNotHeldTo 5 none rm_X0_markNotHeldTo (zV G (σ', μ, o) 0 0) (σ, μ, o) 0 0 45 [(0, .ref x0), (1, .ref x1), (2, .ref x2), (3, .int x3)] [] := by
  unfold f_X0_markNotHeldTo_45 at h
  refine v_aload_n 2 rfl dX0_markNotHeldTo_45 rfl ?_
  refine v_aload_n 0 rfl dX0_markNotHeldTo_46 rfl ?_
  obtain ⟨v47, e47, h⟩ := o_b h
  refine v_getR e47 (by decide) (by decide) rfl qf_RX0_9 dX0_markNotHeldTo_47 rfl ?_
  refine v_iload_n 3 rfl dX0_markNotHeldTo_50 rfl ?_
  obtain ⟨v51, e51, h⟩ := o_b h
  refine v_aI e51 dX0_markNotHeldTo_51 rfl ?_
  obtain ⟨⟨⟩, g52, h⟩ := o_b h
  obtain ⟨v52, e52, h⟩ := o_b h
  refine v_Vi (as := [.int v51]) (st := []) (c' := 0) (k' := 0) (k_X10_hasExecuted e52) (rcv_c g52 (by decide) rfl) mk_X10_hasExecuted qi_X10_hasExecuted qe_X10_hasExecuted qm_RX0_65 (ck rfl) rfl dX0_markNotHeldTo_52 rfl rfl rfl ?_
  refine v_if_eq 81 dX0_markNotHeldTo_55 (by decide) rfl (fun c55 => ?_) (fun c55 => ?_)
  · have h := o_p c55 h
    exact l_X0_markNotHeldTo_81 h2 h
  · have h := o_n c55 h
    refine v_aload_n 2 rfl dX0_markNotHeldTo_58 rfl ?_
    refine v_aload_n 0 rfl dX0_markNotHeldTo_59 rfl ?_
    obtain ⟨v60, e60, h⟩ := o_b h
    refine v_getR e60 (by decide) (by decide) rfl qf_RX0_9 dX0_markNotHeldTo_60 rfl ?_
    refine v_iload_n 3 rfl dX0_markNotHeldTo_63 rfl ?_
    obtain ⟨v64, e64, h⟩ := o_b h
    refine v_aI e64 dX0_markNotHeldTo_64 rfl ?_
    obtain ⟨⟨⟩, g65, h⟩ := o_b h
    obtain ⟨v65, e65, h⟩ := o_b h
    refine v_Vi (as := [.int v64]) (st := []) (c' := 0) (k' := 0) (k_X10_answerTo e65) (rcv_c g65 (by decide) rfl) mk_X10_answerTo qi_X10_answerTo qe_X10_answerTo qm_RX0_71 (ck rfl) rfl dX0_markNotHeldTo_65 rfl rfl rfl ?_
    refine v_aload_n 0 rfl dX0_markNotHeldTo_68 rfl ?_
    obtain ⟨v69, e69, h⟩ := o_b h
    refine v_getR e69 (by decide) (by decide) rfl qf_RX0_24 dX0_markNotHeldTo_69 rfl ?_
    refine v_iload_n 3 rfl dX0_markNotHeldTo_72 rfl ?_
    obtain ⟨v73, e73, h⟩ := o_b h
    refine v_aI e73 dX0_markNotHeldTo_73 rfl ?_
    refine v_icmp_eq 81 dX0_markNotHeldTo_74 (by decide) rfl (fun c74 => ?_) (fun c74 => ?_)
    · have h := o_p c74 h
      exact l_X0_markNotHeldTo_81 h2 h
    · have h := o_n c74 h
      refine v_iconst (v := (1 : Int32)) (by decide) dX0_markNotHeldTo_77 rfl ?_
      refine v_goto (q := 82) dX0_markNotHeldTo_78 (by decide) ?_
      exact l_X0_markNotHeldTo_82 h2 h
set_option maxRecDepth 100000 in
set_option maxHeartbeats 4000000 in
theorem l_X0_markNotHeldTo_2 {G : Gm} {μ : Mu} {o : Int64} {σ' : Hp} : ∀ (n : Nat) {σ : Hp} {x0 : Nat} {x1 : Nat} {x2 : Nat} {x3 : Int32} , f_X0_markNotHeldTo_2 n σ x0 x1 x2 x3 = some σ' → V G yX0_markNotHeldTo cX0_markNotHeldTo 5 none rm_X0_markNotHeldTo (zV G (σ', μ, o) 0 0) (σ, μ, o) 0 0 2 [(0, .ref x0), (1, .ref x1), (2, .ref x2), (3, .int x3)] [] := by
  intro n
  induction n with
  | zero => intro _ _ _ _ _ h; cases h
  | succ n ih =>
    intro σ x0 x1 x2 x3 h
    replace h : b_X0_markNotHeldTo_2 (f_X0_markNotHeldTo_2 n) σ x0 x1 x2 x3 = some σ' := h
    unfold b_X0_markNotHeldTo_2 at h
    refine v_iload_n 3 rfl dX0_markNotHeldTo_2 rfl ?_
    refine v_aload_n 0 rfl dX0_markNotHeldTo_3 rfl ?_
    obtain ⟨v4, e4, h⟩ := o_b h
    refine v_getI e4 (by decide) (by decide) rfl qf_RX0_34 dX0_markNotHeldTo_4 rfl ?_
    refine v_icmp_ge 124 dX0_markNotHeldTo_7 (by decide) rfl (fun c7 => ?_) (fun c7 => ?_)
    · have h := o_p c7 h
      obtain rfl := Option.some.inj h
      exact v_vret rfl (Nat.le_of_ble_eq_true rfl) (Nat.le_of_ble_eq_true rfl) dX0_markNotHeldTo_124
    · have h := o_n c7 h
      refine v_aload_n 0 rfl dX0_markNotHeldTo_10 rfl ?_
      obtain ⟨v11, e11, h⟩ := o_b h
      refine v_getR e11 (by decide) (by decide) rfl qf_RX0_17 dX0_markNotHeldTo_11 rfl ?_
      refine v_iload_n 3 rfl dX0_markNotHeldTo_14 rfl ?_
      obtain ⟨v15, e15, h⟩ := o_b h
      refine v_aR e15 (by decide) (by decide) rfl dX0_markNotHeldTo_15 rfl ?_
      refine v_aload_n 1 rfl dX0_markNotHeldTo_16 rfl ?_
      obtain ⟨v17, e17, h⟩ := o_b h
      refine v_getR e17 (by decide) (by decide) rfl qf_RX0_52 dX0_markNotHeldTo_17 rfl ?_
      obtain ⟨⟨⟩, g20, h⟩ := o_b h
      obtain ⟨v20, e20, h⟩ := o_b h
      refine v_Vi (as := [.ref v17]) (st := []) (c' := 0) (k' := 0) (k_X9_isSame e20) (rcv_c g20 (by decide) rfl) mk_X9_isSame qi_X9_isSame qe_X9_isSame qm_RX0_58 (ck rfl) rfl dX0_markNotHeldTo_20 rfl rfl rfl ?_
      refine v_if_ne 45 dX0_markNotHeldTo_23 (by decide) rfl (fun c23 => ?_) (fun c23 => ?_)
      · have h := o_n c23 h
        exact l_X0_markNotHeldTo_45 (fun h => ih h) h
      · have h := o_p c23 h
        refine v_aload_n 0 rfl dX0_markNotHeldTo_26 rfl ?_
        obtain ⟨v27, e27, h⟩ := o_b h
        refine v_getR e27 (by decide) (by decide) rfl qf_RX0_17 dX0_markNotHeldTo_27 rfl ?_
        refine v_iload_n 3 rfl dX0_markNotHeldTo_30 rfl ?_
        obtain ⟨v31, e31, h⟩ := o_b h
        refine v_aR e31 (by decide) (by decide) rfl dX0_markNotHeldTo_31 rfl ?_
        refine v_aload_n 1 rfl dX0_markNotHeldTo_32 rfl ?_
        obtain ⟨v33, e33, h⟩ := o_b h
        refine v_getR e33 (by decide) (by decide) rfl qf_RX0_52 dX0_markNotHeldTo_33 rfl ?_
        obtain ⟨⟨⟩, g36, h⟩ := o_b h
        obtain ⟨v36, e36, h⟩ := o_b h
        refine v_Vi (as := [.ref v33]) (st := []) (c' := 0) (k' := 0) (k_X9_isBehind e36) (rcv_c g36 (by decide) rfl) mk_X9_isBehind qi_X9_isBehind qe_X9_isBehind qm_RX0_62 (ck rfl) rfl dX0_markNotHeldTo_36 rfl rfl rfl ?_
        refine v_if_ne 45 dX0_markNotHeldTo_39 (by decide) rfl (fun c39 => ?_) (fun c39 => ?_)
        · have h := o_n c39 h
          exact l_X0_markNotHeldTo_45 (fun h => ih h) h
        · have h := o_p c39 h
          refine v_goto (q := 118) dX0_markNotHeldTo_42 (by decide) ?_
          exact l_X0_markNotHeldTo_118 (fun h => ih h) h
set_option maxRecDepth 100000 in
set_option maxHeartbeats 4000000 in
theorem k_X0_markNotHeldTo {G : Gm} {μ : Mu} {o : Int64} {σ' : Hp} {σ : Hp} {a0 : Nat} {a1 : Nat} {a2 : Nat} (h : f_X0_markNotHeldTo σ a0 a1 a2 = some σ') : Cv G yX0_markNotHeldTo cX0_markNotHeldTo 5 none rm_X0_markNotHeldTo [.ref a0, .ref a1, .ref a2] (σ, μ, o) (σ', μ, o) 0 0 := by
  refine v_entV [(0, .ref a0), (1, .ref a1), (2, .ref a2)] (by decide +kernel) (Nat.le_of_ble_eq_true rfl) rfl ?_
  unfold f_X0_markNotHeldTo at h
  refine v_iconst (v := (0 : Int32)) (by decide) dX0_markNotHeldTo_0 rfl ?_
  refine v_istore_n [(3, .int (0 : Int32)), (0, .ref a0), (1, .ref a1), (2, .ref a2)] dX0_markNotHeldTo_1 rfl (by decide) rfl ?_
  refine v_sub [1, 2, 3, 0] rfl ?_
  exact l_X0_markNotHeldTo_2 _ h
def rm_X0_marked : Room := { frames := 0, cells := 0, slots := 0, locals := 0 }
set_option maxRecDepth 100000 in
set_option maxHeartbeats 4000000 in
theorem l_X0_marked_13 {G : Gm} {μ : Mu} {o : Int64} {r : Int32} {σ : Hp} : ∀ (n : Nat) {x1 : Int32} {x2 : Nat} {x3 : Int32} {x4 : Int32} , f_X0_marked_13 n σ x1 x2 x3 x4 = some r → V G yX0_marked cX0_marked 6 (some .int) rm_X0_marked (zI G r (σ, μ, o) 0 0) (σ, μ, o) 0 0 13 [(1, .int x1), (2, .ref x2), (3, .int x3), (4, .int x4)] [] := by
  intro n
  induction n with
  | zero => intro _ _ _ _ h; cases h
  | succ n ih =>
    intro x1 x2 x3 x4 h
    replace h : b_X0_marked_13 (f_X0_marked_13 n) σ x1 x2 x3 x4 = some r := h
    unfold b_X0_marked_13 at h
    refine v_iload 3 rfl dX0_marked_13 rfl ?_
    refine v_iload_n 2 rfl dX0_marked_15 rfl ?_
    refine v_icmp_ge 36 dX0_marked_16 (by decide) rfl (fun c16 => ?_) (fun c16 => ?_)
    · have h := o_p c16 h
      refine v_iload_n 0 rfl dX0_marked_36 rfl ?_
      obtain rfl := Option.some.inj h
      exact v_iret rfl rfl (Nat.le_of_ble_eq_true rfl) (Nat.le_of_ble_eq_true rfl) dX0_marked_37
    · have h := o_n c16 h
      refine v_aload_n 1 rfl dX0_marked_19 rfl ?_
      refine v_iload 3 rfl dX0_marked_20 rfl ?_
      obtain ⟨v22, e22, h⟩ := o_b h
      refine v_aI e22 dX0_marked_22 rfl ?_
      refine v_istore [(5, .int v22), (1, .int x1), (2, .ref x2), (3, .int x3), (4, .int x4)] dX0_marked_23 rfl (by decide) rfl ?_
      refine v_iload_n 1 rfl dX0_marked_25 rfl ?_
      refine v_iload 0 rfl dX0_marked_26 rfl ?_
      refine v_iadd dX0_marked_28 rfl ?_
      refine v_istore_n [(1, .int (x1 + v22)), (5, .int v22), (2, .ref x2), (3, .int x3), (4, .int x4)] dX0_marked_29 rfl (by decide) rfl ?_
      refine v_iinc (v := (x4 + 1)) [(4, .int (x4 + 1)), (1, .int (x1 + v22)), (5, .int v22), (2, .ref x2), (3, .int x3)] 4 rfl rfl dX0_marked_30 rfl (by decide) rfl ?_
      refine v_goto (q := 13) dX0_marked_33 (by decide) ?_
      refine v_sub [1, 3, 4, 0] rfl ?_
      exact ih h
set_option maxRecDepth 100000 in
set_option maxHeartbeats 4000000 in
theorem k_X0_marked {G : Gm} {μ : Mu} {o : Int64} {r : Int32} {σ : Hp} {a0 : Nat} (h : f_X0_marked σ a0 = some r) : Ci G yX0_marked cX0_marked 6 (some .int) rm_X0_marked [.ref a0] (σ, μ, o) r (σ, μ, o) 0 0 := by
  refine v_entI [(0, .ref a0)] (by decide +kernel) (Nat.le_of_ble_eq_true rfl) rfl ?_
  unfold f_X0_marked at h
  refine v_iconst (v := (0 : Int32)) (by decide) dX0_marked_0 rfl ?_
  refine v_istore_n [(1, .int (0 : Int32)), (0, .ref a0)] dX0_marked_1 rfl (by decide) rfl ?_
  refine v_aload_n 1 rfl dX0_marked_2 rfl ?_
  obtain ⟨v3, e3, h⟩ := o_b h
  refine v_getR e3 (by decide) (by decide) rfl qf_RX0_27 dX0_marked_3 rfl ?_
  refine v_astore_n [(2, .ref v3), (1, .int (0 : Int32)), (0, .ref a0)] dX0_marked_6 rfl (by decide) rfl ?_
  refine v_aload_n 0 rfl dX0_marked_7 rfl ?_
  obtain ⟨v8, e8, h⟩ := o_b h
  refine v_aL e8 (by decide) (by decide) rfl dX0_marked_8 rfl ?_
  refine v_istore_n [(3, .int v8), (2, .ref v3), (1, .int (0 : Int32)), (0, .ref a0)] dX0_marked_9 rfl (by decide) rfl ?_
  refine v_iconst (v := (0 : Int32)) (by decide) dX0_marked_10 rfl ?_
  refine v_istore [(4, .int (0 : Int32)), (3, .int v8), (2, .ref v3), (1, .int (0 : Int32)), (0, .ref a0)] dX0_marked_11 rfl (by decide) rfl ?_
  refine v_sub [3, 2, 1, 0] rfl ?_
  exact l_X0_marked_13 _ h
def rm_X6_leads : Room := { frames := 1, cells := 0, slots := 0, locals := 22 }
set_option maxRecDepth 100000 in
set_option maxHeartbeats 4000000 in
theorem k_X6_leads {G : Gm} {μ : Mu} {o : Int64} {r : Int32} {σ : Hp} {a0 : Nat} (h : f_X6_leads σ a0 = some r) : Ci G yX6_leads cX6_leads 1 (some .boolean) rm_X6_leads [.ref a0] (σ, μ, o) r (σ, μ, o) 0 0 := by
  refine v_entI [(0, .ref a0)] (by decide +kernel) (Nat.le_of_ble_eq_true rfl) rfl ?_
  unfold f_X6_leads at h
  refine v_aload_n 0 rfl dX6_leads_0 rfl ?_
  obtain ⟨v1, e1, h⟩ := o_b h
  refine v_getR e1 (by decide) (by decide) rfl qf_RX6_34 dX6_leads_1 rfl ?_
  obtain ⟨v4, e4, h⟩ := o_b h
  refine v_getI e4 (by decide) (by decide) rfl qf_RX6_68 dX6_leads_4 rfl ?_
  refine v_aload_n 0 rfl dX6_leads_7 rfl ?_
  obtain ⟨v8, e8, h⟩ := o_b h
  refine v_getI e8 (by decide) (by decide) rfl qf_RX6_44 dX6_leads_8 rfl ?_
  obtain ⟨v11, e11, h⟩ := o_b h
  refine v_Si (as := [.int v4, .int v8]) (st := []) (c' := 0) (k' := 0) (k_J9_floorMod_7cf53 e11) mk_J9_floorMod_7cf53 qs_J9_floorMod_7cf53 qm_RX6_71 (ck rfl) rfl dX6_leads_11 rfl rfl rfl ?_
  refine v_aload_n 0 rfl dX6_leads_14 rfl ?_
  obtain ⟨v15, e15, h⟩ := o_b h
  refine v_getI e15 (by decide) (by decide) rfl qf_RX6_41 dX6_leads_15 rfl ?_
  refine v_icmp_ne 25 dX6_leads_18 (by decide) rfl (fun c18 => ?_) (fun c18 => ?_)
  · have h := o_n c18 h
    refine v_iconst (v := (0 : Int32)) (by decide) dX6_leads_25 rfl ?_
    obtain rfl := Option.some.inj h
    exact v_iret rfl rfl (Nat.le_of_ble_eq_true rfl) (Nat.le_of_ble_eq_true rfl) dX6_leads_26
  · have h := o_p c18 h
    refine v_iconst (v := (1 : Int32)) (by decide) dX6_leads_21 rfl ?_
    refine v_goto (q := 26) dX6_leads_22 (by decide) ?_
    obtain rfl := Option.some.inj h
    exact v_iret rfl rfl (Nat.le_of_ble_eq_true rfl) (Nat.le_of_ble_eq_true rfl) dX6_leads_26
def rm_X6_executed : Room := { frames := 2, cells := 0, slots := 0, locals := 42 }
set_option maxRecDepth 100000 in
set_option maxHeartbeats 4000000 in
theorem k_X6_executed {G : Gm} {μ : Mu} {o : Int64} {r : Int32} {σ : Hp} {a0 : Nat} (h : f_X6_executed σ a0 = some r) : Ci G yX6_executed cX6_executed 1 (some .int) rm_X6_executed [.ref a0] (σ, μ, o) r (σ, μ, o) 0 0 := by
  refine v_entI [(0, .ref a0)] (by decide +kernel) (Nat.le_of_ble_eq_true rfl) rfl ?_
  unfold f_X6_executed at h
  refine v_aload_n 0 rfl dX6_executed_0 rfl ?_
  obtain ⟨⟨⟩, g1, h⟩ := o_b h
  obtain ⟨v1, e1, h⟩ := o_b h
  refine v_Vi (as := []) (st := []) (c' := 0) (k' := 0) (k_X6_leads e1) (rcv_c g1 (by decide) rfl) mk_X6_leads qi_X6_leads qe_X6_leads qm_RX6_77 (ck rfl) rfl dX6_executed_1 rfl rfl rfl ?_
  refine v_if_eq 25 dX6_executed_4 (by decide) rfl (fun c4 => ?_) (fun c4 => ?_)
  · have h := o_p c4 h
    refine v_aload_n 0 rfl dX6_executed_25 rfl ?_
    obtain ⟨v26, e26, h⟩ := o_b h
    refine v_getI e26 (by decide) (by decide) rfl qf_RX6_84 dX6_executed_26 rfl ?_
    refine v_aload_n 0 rfl dX6_executed_29 rfl ?_
    obtain ⟨v30, e30, h⟩ := o_b h
    refine v_getR e30 (by decide) (by decide) rfl qf_RX6_12 dX6_executed_30 rfl ?_
    obtain ⟨v33, e33, h⟩ := o_b h
    refine v_getI e33 (by decide) (by decide) rfl qf_RX6_81 dX6_executed_33 rfl ?_
    obtain ⟨v36, e36, h⟩ := o_b h
    refine v_Si (as := [.int v26, .int v33]) (st := []) (c' := 0) (k' := 0) (k_J9_min_7cf53 e36) mk_J9_min_7cf53 qs_J9_min_7cf53 qm_RX6_87 (ck rfl) rfl dX6_executed_36 rfl rfl rfl ?_
    obtain rfl := Option.some.inj h
    exact v_iret rfl rfl (Nat.le_of_ble_eq_true rfl) (Nat.le_of_ble_eq_true rfl) dX6_executed_39
  · have h := o_n c4 h
    refine v_aload_n 0 rfl dX6_executed_7 rfl ?_
    obtain ⟨v8, e8, h⟩ := o_b h
    refine v_getI e8 (by decide) (by decide) rfl qf_RX6_25 dX6_executed_8 rfl ?_
    refine v_iconst (v := (2 : Int32)) (by decide) dX6_executed_11 rfl ?_
    refine v_icmp_eq 25 dX6_executed_12 (by decide) rfl (fun c12 => ?_) (fun c12 => ?_)
    · have h := o_p c12 h
      refine v_aload_n 0 rfl dX6_executed_25 rfl ?_
      obtain ⟨v26, e26, h⟩ := o_b h
      refine v_getI e26 (by decide) (by decide) rfl qf_RX6_84 dX6_executed_26 rfl ?_
      refine v_aload_n 0 rfl dX6_executed_29 rfl ?_
      obtain ⟨v30, e30, h⟩ := o_b h
      refine v_getR e30 (by decide) (by decide) rfl qf_RX6_12 dX6_executed_30 rfl ?_
      obtain ⟨v33, e33, h⟩ := o_b h
      refine v_getI e33 (by decide) (by decide) rfl qf_RX6_81 dX6_executed_33 rfl ?_
      obtain ⟨v36, e36, h⟩ := o_b h
      refine v_Si (as := [.int v26, .int v33]) (st := []) (c' := 0) (k' := 0) (k_J9_min_7cf53 e36) mk_J9_min_7cf53 qs_J9_min_7cf53 qm_RX6_87 (ck rfl) rfl dX6_executed_36 rfl rfl rfl ?_
      obtain rfl := Option.some.inj h
      exact v_iret rfl rfl (Nat.le_of_ble_eq_true rfl) (Nat.le_of_ble_eq_true rfl) dX6_executed_39
    · have h := o_n c12 h
      refine v_aload_n 0 rfl dX6_executed_15 rfl ?_
      obtain ⟨v16, e16, h⟩ := o_b h
      refine v_getR e16 (by decide) (by decide) rfl qf_RX6_12 dX6_executed_16 rfl ?_
      obtain ⟨v19, e19, h⟩ := o_b h
      refine v_getI e19 (by decide) (by decide) rfl qf_RX6_81 dX6_executed_19 rfl ?_
      refine v_goto (q := 39) dX6_executed_22 (by decide) ?_
      obtain rfl := Option.some.inj h
      exact v_iret rfl rfl (Nat.le_of_ble_eq_true rfl) (Nat.le_of_ble_eq_true rfl) dX6_executed_39
def rm_X6_forget : Room := { frames := 1, cells := 0, slots := 0, locals := 20 }
set_option maxRecDepth 100000 in
set_option maxHeartbeats 4000000 in
theorem k_X6_forget {G : Gm} {μ : Mu} {o : Int64} {σ' : Hp} {σ : Hp} {a0 : Nat} (h : f_X6_forget σ a0 = some σ') : Cv G yX6_forget cX6_forget 1 none rm_X6_forget [.ref a0] (σ, μ, o) (σ', μ, o) 0 0 := by
  refine v_entV [(0, .ref a0)] (by decide +kernel) (Nat.le_of_ble_eq_true rfl) rfl ?_
  unfold f_X6_forget at h
  refine v_aload_n 0 rfl dX6_forget_0 rfl ?_
  obtain ⟨v1, e1, h⟩ := o_b h
  refine v_getR e1 (by decide) (by decide) rfl qf_RX6_21 dX6_forget_1 rfl ?_
  refine v_iconst (v := (0 : Int32)) (by decide) dX6_forget_4 rfl ?_
  obtain ⟨s5, e5, h⟩ := o_b h
  refine v_putI e5 (by decide) (by decide) rfl rfl rfl rfl rfl qf_RX6_90 dX6_forget_5 rfl ?_
  refine v_aload_n 0 rfl dX6_forget_8 rfl ?_
  obtain ⟨v9, e9, h⟩ := o_b h
  refine v_getR e9 (by decide) (by decide) rfl qf_RX6_64 dX6_forget_9 rfl ?_
  obtain ⟨⟨⟩, g12, h⟩ := o_b h
  obtain ⟨v12, e12, h⟩ := o_b h
  refine v_Vv (as := []) (st := []) (c' := 0) (k' := 0) (k_X8_clear e12) (rcv_c g12 (by decide) rfl) mk_X8_clear qi_X8_clear qe_X8_clear qm_RX6_91 (ck rfl) rfl dX6_forget_12 rfl rfl rfl ?_
  obtain rfl := Option.some.inj h
  exact v_vret rfl (Nat.le_of_ble_eq_true rfl) (Nat.le_of_ble_eq_true rfl) dX6_forget_15
def rm_X6_send : Room := { frames := 1, cells := 0, slots := 0, locals := 24 }
set_option maxRecDepth 100000 in
set_option maxHeartbeats 4000000 in
theorem k_X6_send {G : Gm} {μ : Mu} {o : Int64} {r : Nat} {σ' : Hp} {σ : Hp} {a0 : Nat} {a1 : Int32} {a2 : Int32} {a3 : Int32} (h : f_X6_send σ a0 a1 a2 a3 = some (r, σ')) : Cr G yX6_send cX6_send 5 (some (.object "OrderedTable$Message")) rm_X6_send [.ref a0, .int a1, .int a2, .int a3] (σ, μ, o) r (σ', μ, o) 0 0 := by
  refine v_entR [(0, .ref a0), (1, .int a1), (2, .int a2), (3, .int a3)] (by decide +kernel) (Nat.le_of_ble_eq_true rfl) rfl ?_
  unfold f_X6_send at h
  refine v_aload_n 0 rfl dX6_send_0 rfl ?_
  obtain ⟨v1, e1, h⟩ := o_b h
  refine v_getR e1 (by decide) (by decide) rfl qf_RX6_55 dX6_send_1 rfl ?_
  refine v_iload_n 1 rfl dX6_send_4 rfl ?_
  refine v_aload_n 0 rfl dX6_send_5 rfl ?_
  obtain ⟨v6, e6, h⟩ := o_b h
  refine v_getI e6 (by decide) (by decide) rfl qf_RX6_41 dX6_send_6 rfl ?_
  refine v_iload_n 2 rfl dX6_send_9 rfl ?_
  obtain ⟨⟨⟩, g10, h⟩ := o_b h
  obtain ⟨v10, e10, h⟩ := o_b h
  refine v_Vr (as := [.int a1, .int v6, .int a2]) (st := []) (c' := 0) (k' := 0) (k_X1_send e10) (rcv_c g10 (by decide) rfl) mk_X1_send qi_X1_send qe_X1_send qm_RX6_297 (ck rfl) rfl dX6_send_10 rfl rfl rfl ?_
  refine v_astore [(4, .ref v10.1), (0, .ref a0), (1, .int a1), (2, .int a2), (3, .int a3)] dX6_send_13 rfl (by decide) rfl ?_
  refine v_aload 0 rfl dX6_send_15 rfl ?_
  refine v_aload_n 1 rfl dX6_send_17 rfl ?_
  obtain ⟨v18, e18, h⟩ := o_b h
  refine v_getR e18 (by decide) (by decide) rfl qf_RX6_34 dX6_send_18 rfl ?_
  obtain ⟨s21, e21, h⟩ := o_b h
  refine v_putR e21 (by decide) (by decide) rfl rfl qf_RX6_150 dX6_send_21 rfl ?_
  refine v_aload 0 rfl dX6_send_24 rfl ?_
  refine v_iload_n 4 rfl dX6_send_26 rfl ?_
  obtain ⟨s27, e27, h⟩ := o_b h
  refine v_putI e27 (by decide) (by decide) rfl rfl rfl rfl rfl qf_RX6_127 dX6_send_27 rfl ?_
  refine v_aload 0 rfl dX6_send_30 rfl ?_
  obtain ⟨rfl, rfl⟩ := o_s h
  exact v_aret rfl (Nat.le_of_ble_eq_true rfl) (Nat.le_of_ble_eq_true rfl) dX6_send_32
def rm_X6_sendToOthers : Room := { frames := 2, cells := 0, slots := 0, locals := 48 }
set_option maxRecDepth 100000 in
set_option maxHeartbeats 4000000 in
theorem l_X6_sendToOthers_26 {G : Gm} {μ : Mu} {o : Int64} {σ' : Hp} {rec2 : Hp → Nat → Int32 → Int32 → Int32 → Option Hp} (h2 : ∀ {σ : Hp} {x0 : Nat} {x1 : Int32} {x2 : Int32} {x3 : Int32} , rec2 σ x0 x1 x2 x3 = some σ' → V G yX6_sendToOthers cX6_sendToOthers 4 none rm_X6_sendToOthers (zV G (σ', μ, o) 0 0) (σ, μ, o) 0 0 2 [(0, .ref x0), (1, .int x1), (2, .int x2), (3, .int x3)] []) {σ : Hp} {x0 : Nat} {x1 : Int32} {x2 : Int32} {x3 : Int32} (h : f_X6_sendToOthers_26 rec2 σ x0 x1 x2 x3 = some σ') : V G yX6_sendToOthers cX6_sendToOthers 4 none rm_X6_sendToOthers (zV G (σ', μ, o) 0 0) (σ, μ, o) 0 0 26 [(0, .ref x0), (1, .int x1), (2, .int x2), (3, .int x3)] [] := by
  unfold f_X6_sendToOthers_26 at h
  refine v_iinc (v := (x3 + 1)) [(3, .int (x3 + 1)), (0, .ref x0), (1, .int x1), (2, .int x2)] 3 rfl rfl dX6_sendToOthers_26 rfl (by decide) rfl ?_
  refine v_goto (q := 2) dX6_sendToOthers_29 (by decide) ?_
  refine v_sub [1, 2, 3, 0] rfl ?_
  exact h2 h
set_option maxRecDepth 100000 in
set_option maxHeartbeats 4000000 in
theorem l_X6_sendToOthers_2 {G : Gm} {μ : Mu} {o : Int64} {σ' : Hp} : ∀ (n : Nat) {σ : Hp} {x0 : Nat} {x1 : Int32} {x2 : Int32} {x3 : Int32} , f_X6_sendToOthers_2 n σ x0 x1 x2 x3 = some σ' → V G yX6_sendToOthers cX6_sendToOthers 4 none rm_X6_sendToOthers (zV G (σ', μ, o) 0 0) (σ, μ, o) 0 0 2 [(0, .ref x0), (1, .int x1), (2, .int x2), (3, .int x3)] [] := by
  intro n
  induction n with
  | zero => intro _ _ _ _ _ h; cases h
  | succ n ih =>
    intro σ x0 x1 x2 x3 h
    replace h : b_X6_sendToOthers_2 (f_X6_sendToOthers_2 n) σ x0 x1 x2 x3 = some σ' := h
    unfold b_X6_sendToOthers_2 at h
    refine v_iload_n 3 rfl dX6_sendToOthers_2 rfl ?_
    refine v_aload_n 0 rfl dX6_sendToOthers_3 rfl ?_
    obtain ⟨v4, e4, h⟩ := o_b h
    refine v_getI e4 (by decide) (by decide) rfl qf_RX6_44 dX6_sendToOthers_4 rfl ?_
    refine v_icmp_ge 32 dX6_sendToOthers_7 (by decide) rfl (fun c7 => ?_) (fun c7 => ?_)
    · have h := o_p c7 h
      obtain rfl := Option.some.inj h
      exact v_vret rfl (Nat.le_of_ble_eq_true rfl) (Nat.le_of_ble_eq_true rfl) dX6_sendToOthers_32
    · have h := o_n c7 h
      refine v_iload_n 3 rfl dX6_sendToOthers_10 rfl ?_
      refine v_aload_n 0 rfl dX6_sendToOthers_11 rfl ?_
      obtain ⟨v12, e12, h⟩ := o_b h
      refine v_getI e12 (by decide) (by decide) rfl qf_RX6_41 dX6_sendToOthers_12 rfl ?_
      refine v_icmp_eq 26 dX6_sendToOthers_15 (by decide) rfl (fun c15 => ?_) (fun c15 => ?_)
      · have h := o_p c15 h
        exact l_X6_sendToOthers_26 (fun h => ih h) h
      · have h := o_n c15 h
        refine v_aload_n 0 rfl dX6_sendToOthers_18 rfl ?_
        refine v_iload_n 1 rfl dX6_sendToOthers_19 rfl ?_
        refine v_iload_n 3 rfl dX6_sendToOthers_20 rfl ?_
        refine v_iload_n 2 rfl dX6_sendToOthers_21 rfl ?_
        obtain ⟨⟨⟩, g22, h⟩ := o_b h
        obtain ⟨v22, e22, h⟩ := o_b h
        refine v_Vr (as := [.int x1, .int x3, .int x2]) (st := []) (c' := 0) (k' := 0) (k_X6_send e22) (rcv_c g22 (by decide) rfl) mk_X6_send qi_X6_send qe_X6_send qm_RX6_110 (ck rfl) rfl dX6_sendToOthers_22 rfl rfl rfl ?_
        refine v_pop rfl dX6_sendToOthers_25 rfl ?_
        exact l_X6_sendToOthers_26 (fun h => ih h) h
set_option maxRecDepth 100000 in
set_option maxHeartbeats 4000000 in
theorem k_X6_sendToOthers {G : Gm} {μ : Mu} {o : Int64} {σ' : Hp} {σ : Hp} {a0 : Nat} {a1 : Int32} {a2 : Int32} (h : f_X6_sendToOthers σ a0 a1 a2 = some σ') : Cv G yX6_sendToOthers cX6_sendToOthers 4 none rm_X6_sendToOthers [.ref a0, .int a1, .int a2] (σ, μ, o) (σ', μ, o) 0 0 := by
  refine v_entV [(0, .ref a0), (1, .int a1), (2, .int a2)] (by decide +kernel) (Nat.le_of_ble_eq_true rfl) rfl ?_
  unfold f_X6_sendToOthers at h
  refine v_iconst (v := (0 : Int32)) (by decide) dX6_sendToOthers_0 rfl ?_
  refine v_istore_n [(3, .int (0 : Int32)), (0, .ref a0), (1, .int a1), (2, .int a2)] dX6_sendToOthers_1 rfl (by decide) rfl ?_
  refine v_sub [1, 2, 3, 0] rfl ?_
  exact l_X6_sendToOthers_2 _ h
def rm_X6_sendLog : Room := { frames := 2, cells := 0, slots := 0, locals := 59 }
set_option maxRecDepth 100000 in
set_option maxHeartbeats 4000000 in
theorem k_X6_sendLog {G : Gm} {μ : Mu} {o : Int64} {σ' : Hp} {σ : Hp} {a0 : Nat} {a1 : Int32} {a2 : Int32} (h : f_X6_sendLog σ a0 a1 a2 = some σ') : Cv G yX6_sendLog cX6_sendLog 4 none rm_X6_sendLog [.ref a0, .int a1, .int a2] (σ, μ, o) (σ', μ, o) 0 0 := by
  refine v_entV [(0, .ref a0), (1, .int a1), (2, .int a2)] (by decide +kernel) (Nat.le_of_ble_eq_true rfl) rfl ?_
  unfold f_X6_sendLog at h
  refine v_aload_n 0 rfl dX6_sendLog_0 rfl ?_
  refine v_iload_n 1 rfl dX6_sendLog_1 rfl ?_
  refine v_iload_n 2 rfl dX6_sendLog_2 rfl ?_
  refine v_aload_n 0 rfl dX6_sendLog_3 rfl ?_
  obtain ⟨v4, e4, h⟩ := o_b h
  refine v_getR e4 (by decide) (by decide) rfl qf_RX6_12 dX6_sendLog_4 rfl ?_
  obtain ⟨v7, e7, h⟩ := o_b h
  refine v_getI e7 (by decide) (by decide) rfl qf_RX6_81 dX6_sendLog_7 rfl ?_
  obtain ⟨⟨⟩, g10, h⟩ := o_b h
  obtain ⟨v10, e10, h⟩ := o_b h
  refine v_Vr (as := [.int a1, .int a2, .int v7]) (st := []) (c' := 0) (k' := 0) (k_X6_send e10) (rcv_c g10 (by decide) rfl) mk_X6_send qi_X6_send qe_X6_send qm_RX6_110 (ck rfl) rfl dX6_sendLog_10 rfl rfl rfl ?_
  refine v_astore_n [(3, .ref v10.1), (0, .ref a0), (1, .int a1), (2, .int a2)] dX6_sendLog_13 rfl (by decide) rfl ?_
  refine v_aload_n 0 rfl dX6_sendLog_14 rfl ?_
  refine v_aload_n 1 rfl dX6_sendLog_15 rfl ?_
  obtain ⟨v16, e16, h⟩ := o_b h
  refine v_getR e16 (by decide) (by decide) rfl qf_RX6_38 dX6_sendLog_16 rfl ?_
  obtain ⟨s19, e19, h⟩ := o_b h
  refine v_putR e19 (by decide) (by decide) rfl rfl qf_RX6_296 dX6_sendLog_19 rfl ?_
  refine v_aload_n 0 rfl dX6_sendLog_22 rfl ?_
  refine v_aload_n 1 rfl dX6_sendLog_23 rfl ?_
  obtain ⟨v24, e24, h⟩ := o_b h
  refine v_getI e24 (by decide) (by decide) rfl qf_RX6_124 dX6_sendLog_24 rfl ?_
  obtain ⟨s27, e27, h⟩ := o_b h
  refine v_putI e27 (by decide) (by decide) rfl rfl rfl rfl rfl qf_RX6_238 dX6_sendLog_27 rfl ?_
  refine v_aload_n 0 rfl dX6_sendLog_30 rfl ?_
  obtain ⟨v31, e31, h⟩ := o_b h
  refine v_getR e31 (by decide) (by decide) rfl qf_RX6_206 dX6_sendLog_31 rfl ?_
  refine v_aload_n 1 rfl dX6_sendLog_34 rfl ?_
  obtain ⟨v35, e35, h⟩ := o_b h
  refine v_getR e35 (by decide) (by decide) rfl qf_RX6_12 dX6_sendLog_35 rfl ?_
  obtain ⟨⟨⟩, g38, h⟩ := o_b h
  obtain ⟨v38, e38, h⟩ := o_b h
  refine v_Vv (as := [.ref v35]) (st := []) (c' := 0) (k' := 0) (k_X4_copy e38) (rcv_c g38 (by decide) rfl) mk_X4_copy qi_X4_copy qe_X4_copy qm_RX6_239 (ck rfl) rfl dX6_sendLog_38 rfl rfl rfl ?_
  obtain rfl := Option.some.inj h
  exact v_vret rfl (Nat.le_of_ble_eq_true rfl) (Nat.le_of_ble_eq_true rfl) dX6_sendLog_41
def rm_X6_sendTurns : Room := { frames := 3, cells := 0, slots := 0, locals := 82 }
set_option maxRecDepth 100000 in
set_option maxHeartbeats 4000000 in
theorem k_X6_sendTurns {G : Gm} {μ : Mu} {o : Int64} {σ' : Hp} {σ : Hp} {a0 : Nat} (h : f_X6_sendTurns σ a0 = some σ') : Cv G yX6_sendTurns cX6_sendTurns 1 none rm_X6_sendTurns [.ref a0] (σ, μ, o) (σ', μ, o) 0 0 := by
  refine v_entV [(0, .ref a0)] (by decide +kernel) (Nat.le_of_ble_eq_true rfl) rfl ?_
  unfold f_X6_sendTurns at h
  refine v_aload_n 0 rfl dX6_sendTurns_0 rfl ?_
  refine v_bipush (v := (8 : Int32)) (by decide) dX6_sendTurns_1 rfl ?_
  refine v_iconst (v := (0 : Int32)) (by decide) dX6_sendTurns_3 rfl ?_
  obtain ⟨⟨⟩, g4, h⟩ := o_b h
  obtain ⟨v4, e4, h⟩ := o_b h
  refine v_Vv (as := [.int (8 : Int32), .int (0 : Int32)]) (st := []) (c' := 0) (k' := 0) (k_X6_sendToOthers e4) (rcv_c g4 (by decide) rfl) mk_X6_sendToOthers qi_X6_sendToOthers qe_X6_sendToOthers qm_RX6_103 (ck rfl) rfl dX6_sendTurns_4 rfl rfl rfl ?_
  refine v_aload_n 0 rfl dX6_sendTurns_7 rfl ?_
  obtain ⟨⟨⟩, g8, h⟩ := o_b h
  obtain ⟨v8, e8, h⟩ := o_b h
  refine v_Vi (as := []) (st := []) (c' := 0) (k' := 0) (k_X6_leads e8) (rcv_c g8 (by decide) rfl) mk_X6_leads qi_X6_leads qe_X6_leads qm_RX6_77 (ck rfl) rfl dX6_sendTurns_8 rfl rfl rfl ?_
  refine v_if_ne 31 dX6_sendTurns_11 (by decide) rfl (fun c11 => ?_) (fun c11 => ?_)
  · have h := o_n c11 h
    obtain rfl := Option.some.inj h
    exact v_vret rfl (Nat.le_of_ble_eq_true rfl) (Nat.le_of_ble_eq_true rfl) dX6_sendTurns_31
  · have h := o_p c11 h
    refine v_aload_n 0 rfl dX6_sendTurns_14 rfl ?_
    refine v_bipush (v := (9 : Int32)) (by decide) dX6_sendTurns_15 rfl ?_
    refine v_aload_n 0 rfl dX6_sendTurns_17 rfl ?_
    obtain ⟨v18, e18, h⟩ := o_b h
    refine v_getR e18 (by decide) (by decide) rfl qf_RX6_34 dX6_sendTurns_18 rfl ?_
    refine v_aload_n 0 rfl dX6_sendTurns_21 rfl ?_
    obtain ⟨v22, e22, h⟩ := o_b h
    refine v_getI e22 (by decide) (by decide) rfl qf_RX6_44 dX6_sendTurns_22 rfl ?_
    obtain ⟨⟨⟩, g25, h⟩ := o_b h
    obtain ⟨v25, e25, h⟩ := o_b h
    refine v_Vi (as := [.int v22]) (st := [.int (9 : Int32), .ref a0]) (c' := 0) (k' := 0) (k_X9_leader e25) (rcv_c g25 (by decide) rfl) mk_X9_leader qi_X9_leader qe_X9_leader qm_RX6_106 (ck rfl) rfl dX6_sendTurns_25 rfl rfl rfl ?_
    obtain ⟨⟨⟩, g28, h⟩ := o_b h
    obtain ⟨v28, e28, h⟩ := o_b h
    refine v_Vv (as := [.int (9 : Int32), .int v25]) (st := []) (c' := 0) (k' := 0) (k_X6_sendLog e28) (rcv_c g28 (by decide) rfl) mk_X6_sendLog qi_X6_sendLog qe_X6_sendLog qm_RX6_220 (ck rfl) rfl dX6_sendTurns_28 rfl rfl rfl ?_
    obtain rfl := Option.some.inj h
    exact v_vret rfl (Nat.le_of_ble_eq_true rfl) (Nat.le_of_ble_eq_true rfl) dX6_sendTurns_31
def rm_X6_turnTo : Room := { frames := 4, cells := 0, slots := 0, locals := 102 }
set_option maxRecDepth 100000 in
set_option maxHeartbeats 4000000 in
theorem k_X6_turnTo {G : Gm} {μ : Mu} {o : Int64} {σ' : Hp} {σ : Hp} {a0 : Nat} {a1 : Nat} (h : f_X6_turnTo σ a0 a1 = some σ') : Cv G yX6_turnTo cX6_turnTo 2 none rm_X6_turnTo [.ref a0, .ref a1] (σ, μ, o) (σ', μ, o) 0 0 := by
  refine v_entV [(0, .ref a0), (1, .ref a1)] (by decide +kernel) (Nat.le_of_ble_eq_true rfl) rfl ?_
  unfold f_X6_turnTo at h
  refine v_aload_n 0 rfl dX6_turnTo_0 rfl ?_
  refine v_aload_n 1 rfl dX6_turnTo_1 rfl ?_
  obtain ⟨s2, e2, h⟩ := o_b h
  refine v_putR e2 (by decide) (by decide) rfl rfl qf_RX6_34 dX6_turnTo_2 rfl ?_
  refine v_aload_n 0 rfl dX6_turnTo_5 rfl ?_
  refine v_iconst (v := (2 : Int32)) (by decide) dX6_turnTo_6 rfl ?_
  obtain ⟨s7, e7, h⟩ := o_b h
  refine v_putI e7 (by decide) (by decide) rfl rfl rfl rfl rfl qf_RX6_25 dX6_turnTo_7 rfl ?_
  refine v_aload_n 0 rfl dX6_turnTo_10 rfl ?_
  obtain ⟨⟨⟩, g11, h⟩ := o_b h
  obtain ⟨v11, e11, h⟩ := o_b h
  refine v_Vv (as := []) (st := []) (c' := 0) (k' := 0) (k_X6_forget e11) (rcv_c g11 (by decide) rfl) mk_X6_forget qi_X6_forget qe_X6_forget qm_RX6_94 (ck rfl) rfl dX6_turnTo_11 rfl rfl rfl ?_
  refine v_aload_n 0 rfl dX6_turnTo_14 rfl ?_
  refine v_iconst (v := (0 : Int32)) (by decide) dX6_turnTo_15 rfl ?_
  obtain ⟨s16, e16, h⟩ := o_b h
  refine v_putI e16 (by decide) (by decide) rfl rfl rfl rfl rfl qf_RX6_97 dX6_turnTo_16 rfl ?_
  refine v_aload_n 0 rfl dX6_turnTo_19 rfl ?_
  obtain ⟨⟨⟩, g20, h⟩ := o_b h
  obtain ⟨v20, e20, h⟩ := o_b h
  refine v_Vv (as := []) (st := []) (c' := 0) (k' := 0) (k_X6_sendTurns e20) (rcv_c g20 (by decide) rfl) mk_X6_sendTurns qi_X6_sendTurns qe_X6_sendTurns qm_RX6_100 (ck rfl) rfl dX6_turnTo_20 rfl rfl rfl ?_
  obtain rfl := Option.some.inj h
  exact v_vret rfl (Nat.le_of_ble_eq_true rfl) (Nat.le_of_ble_eq_true rfl) dX6_turnTo_23
def rm_X6_askAgain : Room := { frames := 4, cells := 0, slots := 0, locals := 102 }
set_option maxRecDepth 100000 in
set_option maxHeartbeats 4000000 in
theorem k_X6_askAgain {G : Gm} {μ : Mu} {o : Int64} {σ' : Hp} {σ : Hp} {a0 : Nat} (h : f_X6_askAgain σ a0 = some σ') : Cv G yX6_askAgain cX6_askAgain 1 none rm_X6_askAgain [.ref a0] (σ, μ, o) (σ', μ, o) 0 0 := by
  refine v_entV [(0, .ref a0)] (by decide +kernel) (Nat.le_of_ble_eq_true rfl) rfl ?_
  unfold f_X6_askAgain at h
  refine v_aload_n 0 rfl dX6_askAgain_0 rfl ?_
  obtain ⟨v1, e1, h⟩ := o_b h
  refine v_getI e1 (by decide) (by decide) rfl qf_RX6_25 dX6_askAgain_1 rfl ?_
  refine v_iconst (v := (1 : Int32)) (by decide) dX6_askAgain_4 rfl ?_
  refine v_icmp_ne 23 dX6_askAgain_5 (by decide) rfl (fun c5 => ?_) (fun c5 => ?_)
  · have h := o_n c5 h
    refine v_aload_n 0 rfl dX6_askAgain_23 rfl ?_
    obtain ⟨v24, e24, h⟩ := o_b h
    refine v_getI e24 (by decide) (by decide) rfl qf_RX6_25 dX6_askAgain_24 rfl ?_
    refine v_iconst (v := (2 : Int32)) (by decide) dX6_askAgain_27 rfl ?_
    refine v_icmp_ne 38 dX6_askAgain_28 (by decide) rfl (fun c28 => ?_) (fun c28 => ?_)
    · have h := o_n c28 h
      refine v_aload_n 0 rfl dX6_askAgain_38 rfl ?_
      obtain ⟨⟨⟩, g39, h⟩ := o_b h
      obtain ⟨v39, e39, h⟩ := o_b h
      refine v_Vi (as := []) (st := []) (c' := 0) (k' := 0) (k_X6_leads e39) (rcv_c g39 (by decide) rfl) mk_X6_leads qi_X6_leads qe_X6_leads qm_RX6_77 (ck rfl) rfl dX6_askAgain_39 rfl rfl rfl ?_
      refine v_if_ne 81 dX6_askAgain_42 (by decide) rfl (fun c42 => ?_) (fun c42 => ?_)
      · have h := o_n c42 h
        obtain rfl := Option.some.inj h
        exact v_vret rfl (Nat.le_of_ble_eq_true rfl) (Nat.le_of_ble_eq_true rfl) dX6_askAgain_81
      · have h := o_p c42 h
        refine v_aload_n 0 rfl dX6_askAgain_45 rfl ?_
        obtain ⟨v46, e46, h⟩ := o_b h
        refine v_getR e46 (by decide) (by decide) rfl qf_RX6_21 dX6_askAgain_46 rfl ?_
        obtain ⟨v49, e49, h⟩ := o_b h
        refine v_getI e49 (by decide) (by decide) rfl qf_RX6_90 dX6_askAgain_49 rfl ?_
        refine v_if_le 81 dX6_askAgain_52 (by decide) rfl (fun c52 => ?_) (fun c52 => ?_)
        · have h := o_p c52 h
          obtain rfl := Option.some.inj h
          exact v_vret rfl (Nat.le_of_ble_eq_true rfl) (Nat.le_of_ble_eq_true rfl) dX6_askAgain_81
        · have h := o_n c52 h
          refine v_aload_n 0 rfl dX6_askAgain_55 rfl ?_
          refine v_iconst (v := (1 : Int32)) (by decide) dX6_askAgain_56 rfl ?_
          refine v_aload_n 0 rfl dX6_askAgain_57 rfl ?_
          obtain ⟨v58, e58, h⟩ := o_b h
          refine v_getR e58 (by decide) (by decide) rfl qf_RX6_34 dX6_askAgain_58 rfl ?_
          refine v_aload_n 0 rfl dX6_askAgain_61 rfl ?_
          obtain ⟨v62, e62, h⟩ := o_b h
          refine v_getI e62 (by decide) (by decide) rfl qf_RX6_44 dX6_askAgain_62 rfl ?_
          obtain ⟨⟨⟩, g65, h⟩ := o_b h
          obtain ⟨v65, e65, h⟩ := o_b h
          refine v_Vi (as := [.int v62]) (st := [.int (1 : Int32), .ref a0]) (c' := 0) (k' := 0) (k_X9_leader e65) (rcv_c g65 (by decide) rfl) mk_X9_leader qi_X9_leader qe_X9_leader qm_RX6_106 (ck rfl) rfl dX6_askAgain_65 rfl rfl rfl ?_
          refine v_aload_n 0 rfl dX6_askAgain_68 rfl ?_
          obtain ⟨v69, e69, h⟩ := o_b h
          refine v_getR e69 (by decide) (by decide) rfl qf_RX6_12 dX6_askAgain_69 rfl ?_
          obtain ⟨v72, e72, h⟩ := o_b h
          refine v_getI e72 (by decide) (by decide) rfl qf_RX6_81 dX6_askAgain_72 rfl ?_
          refine v_iconst (v := (1 : Int32)) (by decide) dX6_askAgain_75 rfl ?_
          refine v_iadd dX6_askAgain_76 rfl ?_
          obtain ⟨⟨⟩, g77, h⟩ := o_b h
          obtain ⟨v77, e77, h⟩ := o_b h
          refine v_Vr (as := [.int (1 : Int32), .int v65, .int (v72 + (1 : Int32))]) (st := []) (c' := 0) (k' := 0) (k_X6_send e77) (rcv_c g77 (by decide) rfl) mk_X6_send qi_X6_send qe_X6_send qm_RX6_110 (ck rfl) rfl dX6_askAgain_77 rfl rfl rfl ?_
          refine v_pop rfl dX6_askAgain_80 rfl ?_
          obtain rfl := Option.some.inj h
          exact v_vret rfl (Nat.le_of_ble_eq_true rfl) (Nat.le_of_ble_eq_true rfl) dX6_askAgain_81
    · have h := o_p c28 h
      refine v_aload_n 0 rfl dX6_askAgain_31 rfl ?_
      obtain ⟨⟨⟩, g32, h⟩ := o_b h
      obtain ⟨v32, e32, h⟩ := o_b h
      refine v_Vv (as := []) (st := []) (c' := 0) (k' := 0) (k_X6_sendTurns e32) (rcv_c g32 (by decide) rfl) mk_X6_sendTurns qi_X6_sendTurns qe_X6_sendTurns qm_RX6_100 (ck rfl) rfl dX6_askAgain_32 rfl rfl rfl ?_
      refine v_goto (q := 81) dX6_askAgain_35 (by decide) ?_
      obtain rfl := Option.some.inj h
      exact v_vret rfl (Nat.le_of_ble_eq_true rfl) (Nat.le_of_ble_eq_true rfl) dX6_askAgain_81
  · have h := o_p c5 h
    refine v_aload_n 0 rfl dX6_askAgain_8 rfl ?_
    refine v_iconst (v := (3 : Int32)) (by decide) dX6_askAgain_9 rfl ?_
    refine v_aload_n 0 rfl dX6_askAgain_10 rfl ?_
    obtain ⟨v11, e11, h⟩ := o_b h
    refine v_getR e11 (by decide) (by decide) rfl qf_RX6_12 dX6_askAgain_11 rfl ?_
    obtain ⟨v14, e14, h⟩ := o_b h
    refine v_getI e14 (by decide) (by decide) rfl qf_RX6_81 dX6_askAgain_14 rfl ?_
    obtain ⟨⟨⟩, g17, h⟩ := o_b h
    obtain ⟨v17, e17, h⟩ := o_b h
    refine v_Vv (as := [.int (3 : Int32), .int v14]) (st := []) (c' := 0) (k' := 0) (k_X6_sendToOthers e17) (rcv_c g17 (by decide) rfl) mk_X6_sendToOthers qi_X6_sendToOthers qe_X6_sendToOthers qm_RX6_103 (ck rfl) rfl dX6_askAgain_17 rfl rfl rfl ?_
    refine v_goto (q := 81) dX6_askAgain_20 (by decide) ?_
    obtain rfl := Option.some.inj h
    exact v_vret rfl (Nat.le_of_ble_eq_true rfl) (Nat.le_of_ble_eq_true rfl) dX6_askAgain_81
def rm_X6_reply : Room := { frames := 2, cells := 0, slots := 0, locals := 48 }
set_option maxRecDepth 100000 in
set_option maxHeartbeats 4000000 in
theorem l_X6_reply_48 {G : Gm} {μ : Mu} {o : Int64} {σ' : Hp} {σ : Hp} {x0 : Nat} {x1 : Int32} {x2 : Int32} {x3 : Int32} (h : f_X6_reply_48 σ x0 x1 x2 x3 = some σ') : V G yX6_reply cX6_reply 5 none rm_X6_reply (zV G (σ', μ, o) 0 0) (σ, μ, o) 0 0 48 [(0, .ref x0), (1, .int x1), (2, .int x2), (3, .int x3)] [] := by
  unfold f_X6_reply_48 at h
  refine v_aload_n 0 rfl dX6_reply_48 rfl ?_
  refine v_bipush (v := (11 : Int32)) (by decide) dX6_reply_49 rfl ?_
  refine v_aload_n 0 rfl dX6_reply_51 rfl ?_
  obtain ⟨v52, e52, h⟩ := o_b h
  refine v_getR e52 (by decide) (by decide) rfl qf_RX6_47 dX6_reply_52 rfl ?_
  obtain ⟨v55, e55, h⟩ := o_b h
  refine v_getR e55 (by decide) (by decide) rfl qf_RX6_257 dX6_reply_55 rfl ?_
  refine v_iload_n 2 rfl dX6_reply_58 rfl ?_
  obtain ⟨v59, e59, h⟩ := o_b h
  refine v_aI e59 dX6_reply_59 rfl ?_
  refine v_iload_n 1 rfl dX6_reply_60 rfl ?_
  obtain ⟨⟨⟩, g61, h⟩ := o_b h
  obtain ⟨v61, e61, h⟩ := o_b h
  refine v_Vr (as := [.int (11 : Int32), .int v59, .int x1]) (st := []) (c' := 0) (k' := 0) (k_X6_send e61) (rcv_c g61 (by decide) rfl) mk_X6_send qi_X6_send qe_X6_send qm_RX6_110 (ck rfl) rfl dX6_reply_61 rfl rfl rfl ?_
  refine v_astore [(4, .ref v61.1), (0, .ref x0), (1, .int x1), (2, .int x2), (3, .int x3)] dX6_reply_64 rfl (by decide) rfl ?_
  refine v_aload 0 rfl dX6_reply_66 rfl ?_
  refine v_iload_n 3 rfl dX6_reply_68 rfl ?_
  obtain ⟨s69, e69, h⟩ := o_b h
  refine v_putI e69 (by decide) (by decide) rfl rfl rfl rfl rfl qf_RX6_134 dX6_reply_69 rfl ?_
  refine v_aload 0 rfl dX6_reply_72 rfl ?_
  refine v_iload_n 4 rfl dX6_reply_74 rfl ?_
  obtain ⟨s75, e75, h⟩ := o_b h
  refine v_putI e75 (by decide) (by decide) rfl rfl rfl rfl rfl qf_RX6_263 dX6_reply_75 rfl ?_
  obtain rfl := Option.some.inj h
  exact v_vret rfl (Nat.le_of_ble_eq_true rfl) (Nat.le_of_ble_eq_true rfl) dX6_reply_78
set_option maxRecDepth 100000 in
set_option maxHeartbeats 4000000 in
theorem k_X6_reply {G : Gm} {μ : Mu} {o : Int64} {σ' : Hp} {σ : Hp} {a0 : Nat} {a1 : Int32} {a2 : Int32} (h : f_X6_reply σ a0 a1 a2 = some σ') : Cv G yX6_reply cX6_reply 5 none rm_X6_reply [.ref a0, .int a1, .int a2] (σ, μ, o) (σ', μ, o) 0 0 := by
  refine v_entV [(0, .ref a0), (1, .int a1), (2, .int a2)] (by decide +kernel) (Nat.le_of_ble_eq_true rfl) rfl ?_
  unfold f_X6_reply at h
  refine v_iconst (v := (0 : Int32)) (by decide) dX6_reply_0 rfl ?_
  refine v_istore_n [(3, .int (0 : Int32)), (0, .ref a0), (1, .int a1), (2, .int a2)] dX6_reply_1 rfl (by decide) rfl ?_
  refine v_aload_n 1 rfl dX6_reply_2 rfl ?_
  obtain ⟨⟨⟩, g3, h⟩ := o_b h
  obtain ⟨v3, e3, h⟩ := o_b h
  refine v_Vi (as := []) (st := []) (c' := 0) (k' := 0) (k_X6_leads e3) (rcv_c g3 (by decide) rfl) mk_X6_leads qi_X6_leads qe_X6_leads qm_RX6_77 (ck rfl) rfl dX6_reply_3 rfl rfl rfl ?_
  refine v_if_eq 48 dX6_reply_6 (by decide) rfl (fun c6 => ?_) (fun c6 => ?_)
  · have h := o_p c6 h
    refine v_sub [1, 2, 3, 0] rfl ?_
    exact l_X6_reply_48 h
  · have h := o_n c6 h
    refine v_aload_n 1 rfl dX6_reply_9 rfl ?_
    obtain ⟨v10, e10, h⟩ := o_b h
    refine v_getR e10 (by decide) (by decide) rfl qf_RX6_51 dX6_reply_10 rfl ?_
    refine v_aload_n 1 rfl dX6_reply_13 rfl ?_
    obtain ⟨v14, e14, h⟩ := o_b h
    refine v_getR e14 (by decide) (by decide) rfl qf_RX6_12 dX6_reply_14 rfl ?_
    refine v_aload_n 1 rfl dX6_reply_17 rfl ?_
    obtain ⟨v18, e18, h⟩ := o_b h
    refine v_getR e18 (by decide) (by decide) rfl qf_RX6_12 dX6_reply_18 rfl ?_
    obtain ⟨v21, e21, h⟩ := o_b h
    refine v_getI e21 (by decide) (by decide) rfl qf_RX6_81 dX6_reply_21 rfl ?_
    obtain ⟨⟨⟩, g24, h⟩ := o_b h
    obtain ⟨v24, e24, h⟩ := o_b h
    refine v_Vv (as := [.ref v14, .int v21]) (st := []) (c' := 0) (k' := 0) (k_X10_execute e24) (rcv_c g24 (by decide) rfl) mk_X10_execute qi_X10_execute qe_X10_execute qm_RX6_246 (ck rfl) rfl dX6_reply_24 rfl rfl rfl ?_
    refine v_aload_n 1 rfl dX6_reply_27 rfl ?_
    obtain ⟨v28, e28, h⟩ := o_b h
    refine v_getR e28 (by decide) (by decide) rfl qf_RX6_51 dX6_reply_28 rfl ?_
    refine v_iload_n 3 rfl dX6_reply_31 rfl ?_
    obtain ⟨⟨⟩, g32, h⟩ := o_b h
    obtain ⟨v32, e32, h⟩ := o_b h
    refine v_Vi (as := [.int a2]) (st := []) (c' := 0) (k' := 0) (k_X10_isLatest e32) (rcv_c g32 (by decide) rfl) mk_X10_isLatest qi_X10_isLatest qe_X10_isLatest qm_RX6_251 (ck rfl) rfl dX6_reply_32 rfl rfl rfl ?_
    refine v_if_ne 39 dX6_reply_35 (by decide) rfl (fun c35 => ?_) (fun c35 => ?_)
    · have h := o_n c35 h
      refine v_aload_n 1 rfl dX6_reply_39 rfl ?_
      obtain ⟨v40, e40, h⟩ := o_b h
      refine v_getR e40 (by decide) (by decide) rfl qf_RX6_51 dX6_reply_40 rfl ?_
      refine v_iload_n 3 rfl dX6_reply_43 rfl ?_
      obtain ⟨⟨⟩, g44, h⟩ := o_b h
      obtain ⟨v44, e44, h⟩ := o_b h
      refine v_Vi (as := [.int a2]) (st := []) (c' := 0) (k' := 0) (k_X10_answerTo e44) (rcv_c g44 (by decide) rfl) mk_X10_answerTo qi_X10_answerTo qe_X10_answerTo qm_RX6_254 (ck rfl) rfl dX6_reply_44 rfl rfl rfl ?_
      refine v_istore_n [(3, .int v44), (0, .ref a0), (1, .int a1), (2, .int a2)] dX6_reply_47 rfl (by decide) rfl ?_
      refine v_sub [1, 2, 3, 0] rfl ?_
      exact l_X6_reply_48 h
    · have h := o_p c35 h
      obtain rfl := Option.some.inj h
      exact v_vret rfl (Nat.le_of_ble_eq_true rfl) (Nat.le_of_ble_eq_true rfl) dX6_reply_38
def rm_X6_takeHeld : Room := { frames := 3, cells := 0, slots := 0, locals := 72 }
set_option maxRecDepth 100000 in
set_option maxHeartbeats 4000000 in
theorem l_X6_takeHeld_57 {G : Gm} {μ : Mu} {o : Int64} {σ' : Hp} {σ : Hp} {x0 : Nat} (h : f_X6_takeHeld_57 σ x0 = some σ') : V G yX6_takeHeld cX6_takeHeld 3 none rm_X6_takeHeld (zV G (σ', μ, o) 0 0) (σ, μ, o) 0 0 57 [(0, .ref x0)] [] := by
  unfold f_X6_takeHeld_57 at h
  refine v_aload_n 0 rfl dX6_takeHeld_57 rfl ?_
  obtain ⟨v58, e58, h⟩ := o_b h
  refine v_getR e58 (by decide) (by decide) rfl qf_RX6_21 dX6_takeHeld_58 rfl ?_
  obtain ⟨v61, e61, h⟩ := o_b h
  refine v_getI e61 (by decide) (by decide) rfl qf_RX6_90 dX6_takeHeld_61 rfl ?_
  refine v_if_eq 77 dX6_takeHeld_64 (by decide) rfl (fun c64 => ?_) (fun c64 => ?_)
  · have h := o_p c64 h
    obtain rfl := Option.some.inj h
    exact v_vret rfl (Nat.le_of_ble_eq_true rfl) (Nat.le_of_ble_eq_true rfl) dX6_takeHeld_77
  · have h := o_n c64 h
    refine v_aload_n 0 rfl dX6_takeHeld_67 rfl ?_
    obtain ⟨v68, e68, h⟩ := o_b h
    refine v_getR e68 (by decide) (by decide) rfl qf_RX6_12 dX6_takeHeld_68 rfl ?_
    obtain ⟨⟨⟩, g71, h⟩ := o_b h
    obtain ⟨v71, e71, h⟩ := o_b h
    refine v_Vi (as := []) (st := []) (c' := 0) (k' := 0) (k_X4_isFull e71) (rcv_c g71 (by decide) rfl) mk_X4_isFull qi_X4_isFull qe_X4_isFull qm_RX6_193 (ck rfl) rfl dX6_takeHeld_71 rfl rfl rfl ?_
    refine v_if_eq 78 dX6_takeHeld_74 (by decide) rfl (fun c74 => ?_) (fun c74 => ?_)
    · have h := o_p c74 h
      refine v_aload_n 0 rfl dX6_takeHeld_78 rfl ?_
      obtain ⟨⟨⟩, g79, h⟩ := o_b h
      obtain ⟨v79, e79, h⟩ := o_b h
      refine v_Vi (as := []) (st := []) (c' := 0) (k' := 0) (k_X6_leads e79) (rcv_c g79 (by decide) rfl) mk_X6_leads qi_X6_leads qe_X6_leads qm_RX6_77 (ck rfl) rfl dX6_takeHeld_79 rfl rfl rfl ?_
      refine v_if_eq 130 dX6_takeHeld_82 (by decide) rfl (fun c82 => ?_) (fun c82 => ?_)
      · have h := o_p c82 h
        refine v_aload_n 0 rfl dX6_takeHeld_130 rfl ?_
        refine v_iconst (v := (1 : Int32)) (by decide) dX6_takeHeld_131 rfl ?_
        refine v_aload_n 0 rfl dX6_takeHeld_132 rfl ?_
        obtain ⟨v133, e133, h⟩ := o_b h
        refine v_getR e133 (by decide) (by decide) rfl qf_RX6_34 dX6_takeHeld_133 rfl ?_
        refine v_aload_n 0 rfl dX6_takeHeld_136 rfl ?_
        obtain ⟨v137, e137, h⟩ := o_b h
        refine v_getI e137 (by decide) (by decide) rfl qf_RX6_44 dX6_takeHeld_137 rfl ?_
        obtain ⟨⟨⟩, g140, h⟩ := o_b h
        obtain ⟨v140, e140, h⟩ := o_b h
        refine v_Vi (as := [.int v137]) (st := [.int (1 : Int32), .ref x0]) (c' := 0) (k' := 0) (k_X9_leader e140) (rcv_c g140 (by decide) rfl) mk_X9_leader qi_X9_leader qe_X9_leader qm_RX6_106 (ck rfl) rfl dX6_takeHeld_140 rfl rfl rfl ?_
        refine v_aload_n 0 rfl dX6_takeHeld_143 rfl ?_
        obtain ⟨v144, e144, h⟩ := o_b h
        refine v_getR e144 (by decide) (by decide) rfl qf_RX6_12 dX6_takeHeld_144 rfl ?_
        obtain ⟨v147, e147, h⟩ := o_b h
        refine v_getI e147 (by decide) (by decide) rfl qf_RX6_81 dX6_takeHeld_147 rfl ?_
        refine v_iconst (v := (1 : Int32)) (by decide) dX6_takeHeld_150 rfl ?_
        refine v_iadd dX6_takeHeld_151 rfl ?_
        obtain ⟨⟨⟩, g152, h⟩ := o_b h
        obtain ⟨v152, e152, h⟩ := o_b h
        refine v_Vr (as := [.int (1 : Int32), .int v140, .int (v147 + (1 : Int32))]) (st := []) (c' := 0) (k' := 0) (k_X6_send e152) (rcv_c g152 (by decide) rfl) mk_X6_send qi_X6_send qe_X6_send qm_RX6_110 (ck rfl) rfl dX6_takeHeld_152 rfl rfl rfl ?_
        refine v_pop rfl dX6_takeHeld_155 rfl ?_
        obtain rfl := Option.some.inj h
        exact v_vret rfl (Nat.le_of_ble_eq_true rfl) (Nat.le_of_ble_eq_true rfl) dX6_takeHeld_156
      · have h := o_n c82 h
        refine v_aload_n 0 rfl dX6_takeHeld_85 rfl ?_
        obtain ⟨v86, e86, h⟩ := o_b h
        refine v_getR e86 (by decide) (by decide) rfl qf_RX6_12 dX6_takeHeld_86 rfl ?_
        refine v_aload_n 0 rfl dX6_takeHeld_89 rfl ?_
        obtain ⟨v90, e90, h⟩ := o_b h
        refine v_getR e90 (by decide) (by decide) rfl qf_RX6_12 dX6_takeHeld_90 rfl ?_
        obtain ⟨v93, e93, h⟩ := o_b h
        refine v_getI e93 (by decide) (by decide) rfl qf_RX6_81 dX6_takeHeld_93 rfl ?_
        refine v_iconst (v := (1 : Int32)) (by decide) dX6_takeHeld_96 rfl ?_
        refine v_iadd dX6_takeHeld_97 rfl ?_
        refine v_iconst (v := (0 : Int32)) (by decide) dX6_takeHeld_98 rfl ?_
        obtain ⟨⟨⟩, g99, h⟩ := o_b h
        obtain ⟨v99, e99, h⟩ := o_b h
        refine v_Vv (as := [.int (v93 + (1 : Int32)), .int (0 : Int32)]) (st := []) (c' := 0) (k' := 0) (k_X4_put e99) (rcv_c g99 (by decide) rfl) mk_X4_put qi_X4_put qe_X4_put qm_RX6_199 (ck rfl) rfl dX6_takeHeld_99 rfl rfl rfl ?_
        refine v_aload_n 0 rfl dX6_takeHeld_102 rfl ?_
        refine v_iconst (v := (1 : Int32)) (by decide) dX6_takeHeld_103 rfl ?_
        obtain ⟨s104, e104, h⟩ := o_b h
        refine v_putI e104 (by decide) (by decide) rfl rfl rfl rfl rfl qf_RX6_25 dX6_takeHeld_104 rfl ?_
        refine v_aload_n 0 rfl dX6_takeHeld_107 rfl ?_
        obtain ⟨v108, e108, h⟩ := o_b h
        refine v_getR e108 (by decide) (by decide) rfl qf_RX6_64 dX6_takeHeld_108 rfl ?_
        refine v_iconst (v := (0 : Int32)) (by decide) dX6_takeHeld_111 rfl ?_
        obtain ⟨s112, e112, h⟩ := o_b h
        refine v_putI e112 (by decide) (by decide) rfl rfl rfl rfl rfl qf_RX6_200 dX6_takeHeld_112 rfl ?_
        refine v_aload_n 0 rfl dX6_takeHeld_115 rfl ?_
        refine v_iconst (v := (3 : Int32)) (by decide) dX6_takeHeld_116 rfl ?_
        refine v_aload_n 0 rfl dX6_takeHeld_117 rfl ?_
        obtain ⟨v118, e118, h⟩ := o_b h
        refine v_getR e118 (by decide) (by decide) rfl qf_RX6_12 dX6_takeHeld_118 rfl ?_
        obtain ⟨v121, e121, h⟩ := o_b h
        refine v_getI e121 (by decide) (by decide) rfl qf_RX6_81 dX6_takeHeld_121 rfl ?_
        obtain ⟨⟨⟩, g124, h⟩ := o_b h
        obtain ⟨v124, e124, h⟩ := o_b h
        refine v_Vv (as := [.int (3 : Int32), .int v121]) (st := []) (c' := 0) (k' := 0) (k_X6_sendToOthers e124) (rcv_c g124 (by decide) rfl) mk_X6_sendToOthers qi_X6_sendToOthers qe_X6_sendToOthers qm_RX6_103 (ck rfl) rfl dX6_takeHeld_124 rfl rfl rfl ?_
        refine v_goto (q := 156) dX6_takeHeld_127 (by decide) ?_
        obtain rfl := Option.some.inj h
        exact v_vret rfl (Nat.le_of_ble_eq_true rfl) (Nat.le_of_ble_eq_true rfl) dX6_takeHeld_156
    · have h := o_n c74 h
      obtain rfl := Option.some.inj h
      exact v_vret rfl (Nat.le_of_ble_eq_true rfl) (Nat.le_of_ble_eq_true rfl) dX6_takeHeld_77
set_option maxRecDepth 100000 in
set_option maxHeartbeats 4000000 in
theorem l_X6_takeHeld_10 {G : Gm} {μ : Mu} {o : Int64} {σ' : Hp} : ∀ (n : Nat) {σ : Hp} {x0 : Nat} {x1 : Int32} , f_X6_takeHeld_10 n σ x0 x1 = some σ' → V G yX6_takeHeld cX6_takeHeld 3 none rm_X6_takeHeld (zV G (σ', μ, o) 0 0) (σ, μ, o) 0 0 10 [(0, .ref x0), (1, .int x1)] [] := by
  intro n
  induction n with
  | zero => intro _ _ _ h; cases h
  | succ n ih =>
    intro σ x0 x1 h
    replace h : b_X6_takeHeld_10 (f_X6_takeHeld_10 n) σ x0 x1 = some σ' := h
    unfold b_X6_takeHeld_10 at h
    refine v_iload_n 1 rfl dX6_takeHeld_10 rfl ?_
    refine v_bipush (v := (100 : Int32)) (by decide) dX6_takeHeld_11 rfl ?_
    refine v_icmp_gt 57 dX6_takeHeld_13 (by decide) rfl (fun c13 => ?_) (fun c13 => ?_)
    · have h := o_p c13 h
      refine v_sub [0] rfl ?_
      exact l_X6_takeHeld_57 h
    · have h := o_n c13 h
      refine v_aload_n 0 rfl dX6_takeHeld_16 rfl ?_
      obtain ⟨v17, e17, h⟩ := o_b h
      refine v_getR e17 (by decide) (by decide) rfl qf_RX6_21 dX6_takeHeld_17 rfl ?_
      refine v_iload_n 1 rfl dX6_takeHeld_20 rfl ?_
      obtain ⟨⟨⟩, g21, h⟩ := o_b h
      obtain ⟨v21, e21, h⟩ := o_b h
      refine v_Vi (as := [.int x1]) (st := []) (c' := 0) (k' := 0) (k_X3_has e21) (rcv_c g21 (by decide) rfl) mk_X3_has qi_X3_has qe_X3_has qm_RX6_130 (ck rfl) rfl dX6_takeHeld_21 rfl rfl rfl ?_
      refine v_if_eq 57 dX6_takeHeld_24 (by decide) rfl (fun c24 => ?_) (fun c24 => ?_)
      · have h := o_p c24 h
        refine v_sub [0] rfl ?_
        exact l_X6_takeHeld_57 h
      · have h := o_n c24 h
        refine v_aload_n 0 rfl dX6_takeHeld_27 rfl ?_
        obtain ⟨v28, e28, h⟩ := o_b h
        refine v_getR e28 (by decide) (by decide) rfl qf_RX6_21 dX6_takeHeld_28 rfl ?_
        refine v_iload_n 1 rfl dX6_takeHeld_31 rfl ?_
        obtain ⟨⟨⟩, g32, h⟩ := o_b h
        obtain ⟨v32, e32, h⟩ := o_b h
        refine v_Vi (as := [.int x1]) (st := []) (c' := 0) (k' := 0) (k_X3_remove e32) (rcv_c g32 (by decide) rfl) mk_X3_remove qi_X3_remove qe_X3_remove qm_RX6_196 (ck rfl) rfl dX6_takeHeld_32 rfl rfl rfl ?_
        refine v_istore_n [(2, .int v32.1), (0, .ref x0), (1, .int x1)] dX6_takeHeld_35 rfl (by decide) rfl ?_
        refine v_aload_n 1 rfl dX6_takeHeld_36 rfl ?_
        obtain ⟨v37, e37, h⟩ := o_b h
        refine v_getR e37 (by decide) (by decide) rfl qf_RX6_12 dX6_takeHeld_37 rfl ?_
        refine v_iload_n 2 rfl dX6_takeHeld_40 rfl ?_
        refine v_iload_n 0 rfl dX6_takeHeld_41 rfl ?_
        obtain ⟨⟨⟩, g42, h⟩ := o_b h
        obtain ⟨v42, e42, h⟩ := o_b h
        refine v_Vv (as := [.int x1, .int v32.1]) (st := []) (c' := 0) (k' := 0) (k_X4_put e42) (rcv_c g42 (by decide) rfl) mk_X4_put qi_X4_put qe_X4_put qm_RX6_199 (ck rfl) rfl dX6_takeHeld_42 rfl rfl rfl ?_
        refine v_aload_n 1 rfl dX6_takeHeld_45 rfl ?_
        refine v_iload_n 2 rfl dX6_takeHeld_46 rfl ?_
        refine v_iload_n 0 rfl dX6_takeHeld_47 rfl ?_
        obtain ⟨⟨⟩, g48, h⟩ := o_b h
        obtain ⟨v48, e48, h⟩ := o_b h
        refine v_Vv (as := [.int x1, .int v32.1]) (st := []) (c' := 0) (k' := 0) (k_X6_reply e48) (rcv_c g48 (by decide) rfl) mk_X6_reply qi_X6_reply qe_X6_reply qm_RX6_243 (ck rfl) rfl dX6_takeHeld_48 rfl rfl rfl ?_
        refine v_iinc (v := (x1 + 1)) [(1, .int (x1 + 1)), (2, .int v32.1), (0, .ref x0)] 2 rfl rfl dX6_takeHeld_51 rfl (by decide) rfl ?_
        refine v_goto (q := 10) dX6_takeHeld_54 (by decide) ?_
        refine v_sub [2, 0] rfl ?_
        exact ih h
set_option maxRecDepth 100000 in
set_option maxHeartbeats 4000000 in
theorem k_X6_takeHeld {G : Gm} {μ : Mu} {o : Int64} {σ' : Hp} {σ : Hp} {a0 : Nat} (h : f_X6_takeHeld σ a0 = some σ') : Cv G yX6_takeHeld cX6_takeHeld 3 none rm_X6_takeHeld [.ref a0] (σ, μ, o) (σ', μ, o) 0 0 := by
  refine v_entV [(0, .ref a0)] (by decide +kernel) (Nat.le_of_ble_eq_true rfl) rfl ?_
  unfold f_X6_takeHeld at h
  refine v_aload_n 0 rfl dX6_takeHeld_0 rfl ?_
  obtain ⟨v1, e1, h⟩ := o_b h
  refine v_getR e1 (by decide) (by decide) rfl qf_RX6_12 dX6_takeHeld_1 rfl ?_
  obtain ⟨v4, e4, h⟩ := o_b h
  refine v_getI e4 (by decide) (by decide) rfl qf_RX6_81 dX6_takeHeld_4 rfl ?_
  refine v_iconst (v := (1 : Int32)) (by decide) dX6_takeHeld_7 rfl ?_
  refine v_iadd dX6_takeHeld_8 rfl ?_
  refine v_istore_n [(1, .int (v4 + (1 : Int32))), (0, .ref a0)] dX6_takeHeld_9 rfl (by decide) rfl ?_
  refine v_sub [1, 0] rfl ?_
  exact l_X6_takeHeld_10 _ h
def rm_X6_receiveStamped : Room := { frames := 5, cells := 1, slots := 2, locals := 123 }
set_option maxRecDepth 100000 in
set_option maxHeartbeats 4000000 in
theorem k_X6_receiveStamped {G : Gm} {μ : Mu} {o : Int64} {σ' : Hp} {σ : Hp} {a0 : Nat} {a1 : Nat} (h : f_X6_receiveStamped σ a0 a1 = some σ') : Cv G yX6_receiveStamped cX6_receiveStamped 3 none rm_X6_receiveStamped [.ref a0, .ref a1] (σ, μ, o) (σ', μ, o) 1 2 := by
  refine v_entV [(0, .ref a0), (1, .ref a1)] (by decide +kernel) (Nat.le_of_ble_eq_true rfl) rfl ?_
  unfold f_X6_receiveStamped at h
  refine v_aload_n 1 rfl dX6_receiveStamped_0 rfl ?_
  obtain ⟨v1, e1, h⟩ := o_b h
  refine v_getI e1 (by decide) (by decide) rfl qf_RX6_114 dX6_receiveStamped_1 rfl ?_
  refine v_aload_n 0 rfl dX6_receiveStamped_4 rfl ?_
  obtain ⟨v5, e5, h⟩ := o_b h
  refine v_getR e5 (by decide) (by decide) rfl qf_RX6_34 dX6_receiveStamped_5 rfl ?_
  obtain ⟨v8, e8, h⟩ := o_b h
  refine v_getI e8 (by decide) (by decide) rfl qf_RX6_119 dX6_receiveStamped_8 rfl ?_
  refine v_icmp_le 37 dX6_receiveStamped_11 (by decide) rfl (fun c11 => ?_) (fun c11 => ?_)
  · have h := o_p c11 h
    refine v_aload_n 0 rfl dX6_receiveStamped_37 rfl ?_
    obtain ⟨v38, e38, h⟩ := o_b h
    refine v_getI e38 (by decide) (by decide) rfl qf_RX6_124 dX6_receiveStamped_38 rfl ?_
    refine v_aload_n 1 rfl dX6_receiveStamped_41 rfl ?_
    obtain ⟨v42, e42, h⟩ := o_b h
    refine v_getI e42 (by decide) (by decide) rfl qf_RX6_127 dX6_receiveStamped_42 rfl ?_
    refine v_iadd dX6_receiveStamped_45 rfl ?_
    refine v_istore_n [(2, .int (v38 + v42)), (0, .ref a0), (1, .ref a1)] dX6_receiveStamped_46 rfl (by decide) rfl ?_
    refine v_aload_n 2 rfl dX6_receiveStamped_47 rfl ?_
    obtain ⟨v48, e48, h⟩ := o_b h
    refine v_getI e48 (by decide) (by decide) rfl qf_RX6_114 dX6_receiveStamped_48 rfl ?_
    refine v_aload_n 1 rfl dX6_receiveStamped_51 rfl ?_
    obtain ⟨v52, e52, h⟩ := o_b h
    refine v_getR e52 (by decide) (by decide) rfl qf_RX6_34 dX6_receiveStamped_52 rfl ?_
    obtain ⟨v55, e55, h⟩ := o_b h
    refine v_getI e55 (by decide) (by decide) rfl qf_RX6_119 dX6_receiveStamped_55 rfl ?_
    refine v_icmp_lt 103 dX6_receiveStamped_58 (by decide) rfl (fun c58 => ?_) (fun c58 => ?_)
    · have h := o_p c58 h
      obtain rfl := Option.some.inj h
      exact v_vret rfl (Nat.le_of_ble_eq_true rfl) (Nat.le_of_ble_eq_true rfl) dX6_receiveStamped_103
    · have h := o_n c58 h
      refine v_aload_n 1 rfl dX6_receiveStamped_61 rfl ?_
      obtain ⟨v62, e62, h⟩ := o_b h
      refine v_getI e62 (by decide) (by decide) rfl qf_RX6_25 dX6_receiveStamped_62 rfl ?_
      refine v_iconst (v := (2 : Int32)) (by decide) dX6_receiveStamped_65 rfl ?_
      refine v_icmp_eq 103 dX6_receiveStamped_66 (by decide) rfl (fun c66 => ?_) (fun c66 => ?_)
      · have h := o_p c66 h
        obtain rfl := Option.some.inj h
        exact v_vret rfl (Nat.le_of_ble_eq_true rfl) (Nat.le_of_ble_eq_true rfl) dX6_receiveStamped_103
      · have h := o_n c66 h
        refine v_iload_n 0 rfl dX6_receiveStamped_69 rfl ?_
        refine v_aload_n 1 rfl dX6_receiveStamped_70 rfl ?_
        obtain ⟨v71, e71, h⟩ := o_b h
        refine v_getR e71 (by decide) (by decide) rfl qf_RX6_12 dX6_receiveStamped_71 rfl ?_
        obtain ⟨v74, e74, h⟩ := o_b h
        refine v_getI e74 (by decide) (by decide) rfl qf_RX6_81 dX6_receiveStamped_74 rfl ?_
        refine v_icmp_le 103 dX6_receiveStamped_77 (by decide) rfl (fun c77 => ?_) (fun c77 => ?_)
        · have h := o_p c77 h
          obtain rfl := Option.some.inj h
          exact v_vret rfl (Nat.le_of_ble_eq_true rfl) (Nat.le_of_ble_eq_true rfl) dX6_receiveStamped_103
        · have h := o_n c77 h
          refine v_aload_n 1 rfl dX6_receiveStamped_80 rfl ?_
          obtain ⟨v81, e81, h⟩ := o_b h
          refine v_getR e81 (by decide) (by decide) rfl qf_RX6_21 dX6_receiveStamped_81 rfl ?_
          refine v_iload_n 0 rfl dX6_receiveStamped_84 rfl ?_
          obtain ⟨⟨⟩, g85, h⟩ := o_b h
          obtain ⟨v85, e85, h⟩ := o_b h
          refine v_Vi (as := [.int (v38 + v42)]) (st := []) (c' := 0) (k' := 0) (k_X3_has e85) (rcv_c g85 (by decide) rfl) mk_X3_has qi_X3_has qe_X3_has qm_RX6_130 (ck rfl) rfl dX6_receiveStamped_85 rfl rfl rfl ?_
          refine v_if_ne 103 dX6_receiveStamped_88 (by decide) rfl (fun c88 => ?_) (fun c88 => ?_)
          · have h := o_n c88 h
            obtain rfl := Option.some.inj h
            exact v_vret rfl (Nat.le_of_ble_eq_true rfl) (Nat.le_of_ble_eq_true rfl) dX6_receiveStamped_103
          · have h := o_p c88 h
            refine v_aload_n 1 rfl dX6_receiveStamped_91 rfl ?_
            obtain ⟨v92, e92, h⟩ := o_b h
            refine v_getR e92 (by decide) (by decide) rfl qf_RX6_21 dX6_receiveStamped_92 rfl ?_
            obtain ⟨v95, e95, h⟩ := o_b h
            refine v_getI e95 (by decide) (by decide) rfl qf_RX6_90 dX6_receiveStamped_95 rfl ?_
            refine v_bipush (v := (8 : Int32)) (by decide) dX6_receiveStamped_98 rfl ?_
            refine v_icmp_lt 104 dX6_receiveStamped_100 (by decide) rfl (fun c100 => ?_) (fun c100 => ?_)
            · have h := o_p c100 h
              refine v_aload_n 1 rfl dX6_receiveStamped_104 rfl ?_
              obtain ⟨v105, e105, h⟩ := o_b h
              refine v_getR e105 (by decide) (by decide) rfl qf_RX6_21 dX6_receiveStamped_105 rfl ?_
              refine v_iload_n 0 rfl dX6_receiveStamped_108 rfl ?_
              refine v_aload_n 2 rfl dX6_receiveStamped_109 rfl ?_
              obtain ⟨v110, e110, h⟩ := o_b h
              refine v_getI e110 (by decide) (by decide) rfl qf_RX6_134 dX6_receiveStamped_110 rfl ?_
              obtain ⟨⟨⟩, g113, h⟩ := o_b h
              obtain ⟨v113, e113, h⟩ := o_b h
              refine v_Vv (as := [.int (v38 + v42), .int v110]) (st := []) (c' := 0) (k' := 0) (k_X3_put e113) (rcv_c g113 (by decide) rfl) mk_X3_put qi_X3_put qe_X3_put qm_RX6_137 (ck rfl) rfl dX6_receiveStamped_113 rfl rfl rfl ?_
              refine v_aload_n 1 rfl dX6_receiveStamped_116 rfl ?_
              obtain ⟨v117, e117, h⟩ := o_b h
              refine v_getI e117 (by decide) (by decide) rfl qf_RX6_25 dX6_receiveStamped_117 rfl ?_
              refine v_if_ne 127 dX6_receiveStamped_120 (by decide) rfl (fun c120 => ?_) (fun c120 => ?_)
              · have h := o_n c120 h
                obtain rfl := Option.some.inj h
                exact v_vret rfl (Nat.le_of_ble_eq_true rfl) (Nat.le_of_ble_eq_true rfl) dX6_receiveStamped_127
              · have h := o_p c120 h
                refine v_aload_n 1 rfl dX6_receiveStamped_123 rfl ?_
                obtain ⟨⟨⟩, g124, h⟩ := o_b h
                obtain ⟨v124, e124, h⟩ := o_b h
                refine v_Vv (as := []) (st := []) (c' := 0) (k' := 0) (k_X6_takeHeld e124) (rcv_c g124 (by decide) rfl) mk_X6_takeHeld qi_X6_takeHeld qe_X6_takeHeld qm_RX6_140 (ck rfl) rfl dX6_receiveStamped_124 rfl rfl rfl ?_
                obtain rfl := Option.some.inj h
                exact v_vret rfl (Nat.le_of_ble_eq_true rfl) (Nat.le_of_ble_eq_true rfl) dX6_receiveStamped_127
            · have h := o_n c100 h
              obtain rfl := Option.some.inj h
              exact v_vret rfl (Nat.le_of_ble_eq_true rfl) (Nat.le_of_ble_eq_true rfl) dX6_receiveStamped_103
  · have h := o_n c11 h
    refine v_aload_n 0 rfl dX6_receiveStamped_14 rfl ?_
    obtain ⟨s15, e15, h⟩ := o_b h
    refine v_new (c' := 1) (k' := 2) (Option.some.inj e15) (by decide) qc_RX6_29 qb_9 qz_9 ⟨Nat.le_of_ble_eq_true rfl, Nat.le_of_ble_eq_true rfl⟩ rfl rfl dX6_receiveStamped_15 rfl ?_
    refine v_dup rfl dX6_receiveStamped_18 rfl ?_
    refine v_aload_n 0 rfl dX6_receiveStamped_19 rfl ?_
    obtain ⟨v20, e20, h⟩ := o_b h
    refine v_getR e20 (by decide) (by decide) rfl qf_RX6_34 dX6_receiveStamped_20 rfl ?_
    obtain ⟨v23, e23, h⟩ := o_b h
    refine v_getI e23 (by decide) (by decide) rfl qf_RX6_68 dX6_receiveStamped_23 rfl ?_
    refine v_aload_n 1 rfl dX6_receiveStamped_26 rfl ?_
    obtain ⟨v27, e27, h⟩ := o_b h
    refine v_getI e27 (by decide) (by decide) rfl qf_RX6_114 dX6_receiveStamped_27 rfl ?_
    obtain ⟨v30, e30, h⟩ := o_b h
    refine v_Iv (as := [.int v23, .int v27]) (st := [.ref (oN σ), .ref a0]) (c' := 1) (k' := 2) (k_X9_init e30) mk_X9_init qi_X9_init rfl qm_RX6_31 (ck rfl) rfl dX6_receiveStamped_30 rfl rfl rfl ?_
    obtain ⟨⟨⟩, g33, h⟩ := o_b h
    obtain ⟨v33, e33, h⟩ := o_b h
    refine v_Vv (as := [.ref (oN σ)]) (st := []) (c' := 1) (k' := 2) (k_X6_turnTo e33) (rcv_c g33 (by decide) rfl) mk_X6_turnTo qi_X6_turnTo qe_X6_turnTo qm_RX6_120 (ck rfl) rfl dX6_receiveStamped_33 rfl rfl rfl ?_
    obtain rfl := Option.some.inj h
    exact v_vret rfl (Nat.le_of_ble_eq_true rfl) (Nat.le_of_ble_eq_true rfl) dX6_receiveStamped_36
