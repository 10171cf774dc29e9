def rm_J9_min_7cf53 : Room := { frames := 0, cells := 0, slots := 0, locals := 0 }
set_option maxRecDepth 100000 in
set_option maxHeartbeats 4000000 in
theorem k_J9_min_7cf53 {G : Gm} {w : Wt} {r : Int32} {a0 : Int32} {a1 : Int32} (h : f_J9_min_7cf53 a0 a1 = some r) : Ci G yJ9_min_7cf53 cJ9_min_7cf53 2 (some .int) rm_J9_min_7cf53 [.int a0, .int a1] w r w 0 0 := by
  refine v_entI [(0, .int a0), (1, .int a1)] (by decide +kernel) (Nat.le_of_ble_eq_true rfl) rfl ?_
  unfold f_J9_min_7cf53 at h
  refine v_iload_n 0 rfl dJ9_min_7cf53_0 rfl ?_
  refine v_iload_n 1 rfl dJ9_min_7cf53_1 rfl ?_
  refine v_icmp_gt 9 dJ9_min_7cf53_2 (by decide) rfl (fun c2 => ?_) (fun c2 => ?_)
  · have h := o_p c2 h
    refine v_iload_n 1 rfl dJ9_min_7cf53_9 rfl ?_
    obtain rfl := Option.some.inj h
    exact v_iret rfl rfl (Nat.le_of_ble_eq_true rfl) (Nat.le_of_ble_eq_true rfl) dJ9_min_7cf53_10
  · have h := o_n c2 h
    refine v_iload_n 0 rfl dJ9_min_7cf53_5 rfl ?_
    refine v_goto (q := 10) dJ9_min_7cf53_6 (by decide) ?_
    obtain rfl := Option.some.inj h
    exact v_iret rfl rfl (Nat.le_of_ble_eq_true rfl) (Nat.le_of_ble_eq_true rfl) dJ9_min_7cf53_10
def rm_X0_add : Room := { frames := 1, cells := 0, slots := 0, locals := 21 }
set_option maxRecDepth 100000 in
set_option maxHeartbeats 4000000 in
theorem k_X0_add {G : Gm} {μ : Mu} {o : Int64} {σ' : Hp} {σ : Hp} {a0 : Nat} {a1 : Int32} {a2 : Nat} {a3 : Int32} {a4 : Int32} (h : f_X0_add σ a0 a1 a2 a3 a4 = some σ') : Cv G yX0_add cX0_add 5 none rm_X0_add [.ref a0, .int a1, .ref a2, .int a3, .int a4] (σ, μ, o) (σ', μ, o) 0 0 := by
  refine v_entV [(0, .ref a0), (1, .int a1), (2, .ref a2), (3, .int a3), (4, .int a4)] (by decide +kernel) (Nat.le_of_ble_eq_true rfl) rfl ?_
  unfold f_X0_add at h
  refine v_aload_n 0 rfl dX0_add_0 rfl ?_
  obtain ⟨v1, e1, h⟩ := o_b h
  refine v_getR e1 (by decide) (by decide) rfl qf_RX0_9 dX0_add_1 rfl ?_
  refine v_aload_n 0 rfl dX0_add_4 rfl ?_
  obtain ⟨v5, e5, h⟩ := o_b h
  refine v_getI e5 (by decide) (by decide) rfl qf_RX0_30 dX0_add_5 rfl ?_
  refine v_iload_n 1 rfl dX0_add_8 rfl ?_
  obtain ⟨s9, e9, h⟩ := o_b h
  refine v_qI e9 dX0_add_9 rfl ?_
  refine v_aload_n 0 rfl dX0_add_10 rfl ?_
  obtain ⟨v11, e11, h⟩ := o_b h
  refine v_getR e11 (by decide) (by decide) rfl qf_RX0_17 dX0_add_11 rfl ?_
  refine v_aload_n 0 rfl dX0_add_14 rfl ?_
  obtain ⟨v15, e15, h⟩ := o_b h
  refine v_getI e15 (by decide) (by decide) rfl qf_RX0_30 dX0_add_15 rfl ?_
  refine v_aload_n 2 rfl dX0_add_18 rfl ?_
  obtain ⟨s19, e19, h⟩ := o_b h
  refine v_qR e19 (by decide) (by decide) (by decide) rfl dX0_add_19 rfl ?_
  refine v_aload_n 0 rfl dX0_add_20 rfl ?_
  obtain ⟨v21, e21, h⟩ := o_b h
  refine v_getR e21 (by decide) (by decide) rfl qf_RX0_21 dX0_add_21 rfl ?_
  refine v_aload_n 0 rfl dX0_add_24 rfl ?_
  obtain ⟨v25, e25, h⟩ := o_b h
  refine v_getI e25 (by decide) (by decide) rfl qf_RX0_30 dX0_add_25 rfl ?_
  refine v_iload_n 3 rfl dX0_add_28 rfl ?_
  obtain ⟨s29, e29, h⟩ := o_b h
  refine v_qI e29 dX0_add_29 rfl ?_
  refine v_aload_n 0 rfl dX0_add_30 rfl ?_
  obtain ⟨v31, e31, h⟩ := o_b h
  refine v_getR e31 (by decide) (by decide) rfl qf_RX0_24 dX0_add_31 rfl ?_
  refine v_aload_n 0 rfl dX0_add_34 rfl ?_
  obtain ⟨v35, e35, h⟩ := o_b h
  refine v_getI e35 (by decide) (by decide) rfl qf_RX0_30 dX0_add_35 rfl ?_
  refine v_iload 4 rfl dX0_add_38 rfl ?_
  obtain ⟨s40, e40, h⟩ := o_b h
  refine v_qI e40 dX0_add_40 rfl ?_
  refine v_aload_n 0 rfl dX0_add_41 rfl ?_
  refine v_aload_n 0 rfl dX0_add_42 rfl ?_
  obtain ⟨v43, e43, h⟩ := o_b h
  refine v_getI e43 (by decide) (by decide) rfl qf_RX0_30 dX0_add_43 rfl ?_
  refine v_iconst (v := (1 : Int32)) (by decide) dX0_add_46 rfl ?_
  refine v_iadd dX0_add_47 rfl ?_
  refine v_sipush (v := (200 : Int32)) (by decide) dX0_add_48 rfl ?_
  refine v_irem (by decide) dX0_add_51 rfl ?_
  obtain ⟨s52, e52, h⟩ := o_b h
  refine v_putI e52 (by decide) (by decide) rfl rfl rfl rfl rfl qf_RX0_30 dX0_add_52 rfl ?_
  refine v_aload_n 0 rfl dX0_add_55 rfl ?_
  refine v_aload_n 0 rfl dX0_add_56 rfl ?_
  obtain ⟨v57, e57, h⟩ := o_b h
  refine v_getI e57 (by decide) (by decide) rfl qf_RX0_34 dX0_add_57 rfl ?_
  refine v_iconst (v := (1 : Int32)) (by decide) dX0_add_60 rfl ?_
  refine v_iadd dX0_add_61 rfl ?_
  refine v_sipush (v := (200 : Int32)) (by decide) dX0_add_62 rfl ?_
  obtain ⟨v65, e65, h⟩ := o_b h
  refine v_Si (as := [.int (v57 + (1 : Int32)), .int (200 : Int32)]) (st := [.ref a0]) (c' := 0) (k' := 0) (k_J9_min_7cf53 e65) mk_J9_min_7cf53 qs_J9_min_7cf53 qm_RX0_37 (ck rfl) rfl dX0_add_65 rfl rfl rfl ?_
  obtain ⟨s68, e68, h⟩ := o_b h
  refine v_putI e68 (by decide) (by decide) rfl rfl rfl rfl rfl qf_RX0_34 dX0_add_68 rfl ?_
  refine v_aload_n 0 rfl dX0_add_71 rfl ?_
  refine v_dup rfl dX0_add_72 rfl ?_
  obtain ⟨v73, e73, h⟩ := o_b h
  refine v_getI e73 (by decide) (by decide) rfl qf_RX0_43 dX0_add_73 rfl ?_
  refine v_iconst (v := (1 : Int32)) (by decide) dX0_add_76 rfl ?_
  refine v_iadd dX0_add_77 rfl ?_
  obtain ⟨s78, e78, h⟩ := o_b h
  refine v_putI e78 (by decide) (by decide) rfl rfl rfl rfl rfl qf_RX0_43 dX0_add_78 rfl ?_
  obtain rfl := Option.some.inj h
  exact v_vret rfl (Nat.le_of_ble_eq_true rfl) (Nat.le_of_ble_eq_true rfl) dX0_add_81
def rm_J7_fill_53178 : Room := { frames := 0, cells := 0, slots := 0, locals := 0 }
set_option maxRecDepth 100000 in
set_option maxHeartbeats 4000000 in
theorem l_J7_fill_53178_5 {G : Gm} {μ : Mu} {o : Int64} {σ' : Hp} : ∀ (n : Nat) {σ : Hp} {x0 : Nat} {x1 : Int32} {x2 : Int32} {x3 : Int32} , f_J7_fill_53178_5 n σ x0 x1 x2 x3 = some σ' → V G yJ7_fill_53178 cJ7_fill_53178 4 none rm_J7_fill_53178 (zV G (σ', μ, o) 0 0) (σ, μ, o) 0 0 5 [(0, .ref x0), (1, .int x1), (2, .int x2), (3, .int x3)] [] := by
  intro n
  induction n with
  | zero => intro _ _ _ _ _ h; cases h
  | succ n ih =>
    intro σ x0 x1 x2 x3 h
    replace h : b_J7_fill_53178_5 (f_J7_fill_53178_5 n) σ x0 x1 x2 x3 = some σ' := h
    unfold b_J7_fill_53178_5 at h
    refine v_iload_n 2 rfl dJ7_fill_53178_5 rfl ?_
    refine v_iload_n 3 rfl dJ7_fill_53178_6 rfl ?_
    refine v_icmp_ge 20 dJ7_fill_53178_7 (by decide) rfl (fun c7 => ?_) (fun c7 => ?_)
    · have h := o_p c7 h
      obtain rfl := Option.some.inj h
      exact v_vret rfl (Nat.le_of_ble_eq_true rfl) (Nat.le_of_ble_eq_true rfl) dJ7_fill_53178_20
    · have h := o_n c7 h
      refine v_aload_n 0 rfl dJ7_fill_53178_10 rfl ?_
      refine v_iload_n 2 rfl dJ7_fill_53178_11 rfl ?_
      refine v_iload_n 1 rfl dJ7_fill_53178_12 rfl ?_
      obtain ⟨s13, e13, h⟩ := o_b h
      refine v_qI e13 dJ7_fill_53178_13 rfl ?_
      refine v_iinc (v := (x2 + 1)) [(2, .int (x2 + 1)), (0, .ref x0), (1, .int x1), (3, .int x3)] 2 rfl rfl dJ7_fill_53178_14 rfl (by decide) rfl ?_
      refine v_goto (q := 5) dJ7_fill_53178_17 (by decide) ?_
      refine v_sub [1, 2, 0, 3] rfl ?_
      exact ih h
set_option maxRecDepth 100000 in
set_option maxHeartbeats 4000000 in
theorem k_J7_fill_53178 {G : Gm} {μ : Mu} {o : Int64} {σ' : Hp} {σ : Hp} {a0 : Nat} {a1 : Int32} (h : f_J7_fill_53178 σ a0 a1 = some σ') : Cv G yJ7_fill_53178 cJ7_fill_53178 4 none rm_J7_fill_53178 [.ref a0, .int a1] (σ, μ, o) (σ', μ, o) 0 0 := by
  refine v_entV [(0, .ref a0), (1, .int a1)] (by decide +kernel) (Nat.le_of_ble_eq_true rfl) rfl ?_
  unfold f_J7_fill_53178 at h
  refine v_iconst (v := (0 : Int32)) (by decide) dJ7_fill_53178_0 rfl ?_
  refine v_istore_n [(2, .int (0 : Int32)), (0, .ref a0), (1, .int a1)] dJ7_fill_53178_1 rfl (by decide) rfl ?_
  refine v_aload_n 1 rfl dJ7_fill_53178_2 rfl ?_
  obtain ⟨v3, e3, h⟩ := o_b h
  refine v_aL e3 (by decide) (by decide) rfl dJ7_fill_53178_3 rfl ?_
  refine v_istore_n [(3, .int v3), (2, .int (0 : Int32)), (0, .ref a0), (1, .int a1)] dJ7_fill_53178_4 rfl (by decide) rfl ?_
  refine v_sub [2, 3, 1, 0] rfl ?_
  exact l_J7_fill_53178_5 _ h
def rm_X0_unmark : Room := { frames := 1, cells := 0, slots := 0, locals := 23 }
set_option maxRecDepth 100000 in
set_option maxHeartbeats 4000000 in
theorem k_X0_unmark {G : Gm} {μ : Mu} {o : Int64} {σ' : Hp} {σ : Hp} {a0 : Nat} (h : f_X0_unmark σ a0 = some σ') : Cv G yX0_unmark cX0_unmark 1 none rm_X0_unmark [.ref a0] (σ, μ, o) (σ', μ, o) 0 0 := by
  refine v_entV [(0, .ref a0)] (by decide +kernel) (Nat.le_of_ble_eq_true rfl) rfl ?_
  unfold f_X0_unmark at h
  refine v_aload_n 0 rfl dX0_unmark_0 rfl ?_
  obtain ⟨v1, e1, h⟩ := o_b h
  refine v_getR e1 (by decide) (by decide) rfl qf_RX0_27 dX0_unmark_1 rfl ?_
  refine v_iconst (v := (0 : Int32)) (by decide) dX0_unmark_4 rfl ?_
  obtain ⟨v5, e5, h⟩ := o_b h
  refine v_Sv (as := [.ref v1, .int (0 : Int32)]) (st := []) (c' := 0) (k' := 0) (k_J7_fill_53178 e5) mk_J7_fill_53178 qs_J7_fill_53178 qm_RX0_46 (ck rfl) rfl dX0_unmark_5 rfl rfl rfl ?_
  obtain rfl := Option.some.inj h
  exact v_vret rfl (Nat.le_of_ble_eq_true rfl) (Nat.le_of_ble_eq_true rfl) dX0_unmark_8
def rm_X9_isSame : Room := { frames := 0, cells := 0, slots := 0, locals := 0 }
set_option maxRecDepth 100000 in
set_option maxHeartbeats 4000000 in
theorem k_X9_isSame {G : Gm} {μ : Mu} {o : Int64} {r : Int32} {σ : Hp} {a0 : Nat} {a1 : Nat} (h : f_X9_isSame σ a0 a1 = some r) : Ci G yX9_isSame cX9_isSame 2 (some .boolean) rm_X9_isSame [.ref a0, .ref a1] (σ, μ, o) r (σ, μ, o) 0 0 := by
  refine v_entI [(0, .ref a0), (1, .ref a1)] (by decide +kernel) (Nat.le_of_ble_eq_true rfl) rfl ?_
  unfold f_X9_isSame at h
  refine v_aload_n 0 rfl dX9_isSame_0 rfl ?_
  obtain ⟨v1, e1, h⟩ := o_b h
  refine v_getI e1 (by decide) (by decide) rfl qf_RX9_7 dX9_isSame_1 rfl ?_
  refine v_aload_n 1 rfl dX9_isSame_4 rfl ?_
  obtain ⟨v5, e5, h⟩ := o_b h
  refine v_getI e5 (by decide) (by decide) rfl qf_RX9_7 dX9_isSame_5 rfl ?_
  refine v_icmp_ne 26 dX9_isSame_8 (by decide) rfl (fun c8 => ?_) (fun c8 => ?_)
  · have h := o_n c8 h
    refine v_iconst (v := (0 : Int32)) (by decide) dX9_isSame_26 rfl ?_
    obtain rfl := Option.some.inj h
    exact v_iret rfl rfl (Nat.le_of_ble_eq_true rfl) (Nat.le_of_ble_eq_true rfl) dX9_isSame_27
  · have h := o_p c8 h
    refine v_aload_n 0 rfl dX9_isSame_11 rfl ?_
    obtain ⟨v12, e12, h⟩ := o_b h
    refine v_getI e12 (by decide) (by decide) rfl qf_RX9_13 dX9_isSame_12 rfl ?_
    refine v_aload_n 1 rfl dX9_isSame_15 rfl ?_
    obtain ⟨v16, e16, h⟩ := o_b h
    refine v_getI e16 (by decide) (by decide) rfl qf_RX9_13 dX9_isSame_16 rfl ?_
    refine v_icmp_ne 26 dX9_isSame_19 (by decide) rfl (fun c19 => ?_) (fun c19 => ?_)
    · have h := o_n c19 h
      refine v_iconst (v := (0 : Int32)) (by decide) dX9_isSame_26 rfl ?_
      obtain rfl := Option.some.inj h
      exact v_iret rfl rfl (Nat.le_of_ble_eq_true rfl) (Nat.le_of_ble_eq_true rfl) dX9_isSame_27
    · have h := o_p c19 h
      refine v_iconst (v := (1 : Int32)) (by decide) dX9_isSame_22 rfl ?_
      refine v_goto (q := 27) dX9_isSame_23 (by decide) ?_
      obtain rfl := Option.some.inj h
      exact v_iret rfl rfl (Nat.le_of_ble_eq_true rfl) (Nat.le_of_ble_eq_true rfl) dX9_isSame_27
def rm_X9_isBehind : Room := { frames := 1, cells := 0, slots := 0, locals := 21 }
set_option maxRecDepth 100000 in
set_option maxHeartbeats 4000000 in
theorem k_X9_isBehind {G : Gm} {μ : Mu} {o : Int64} {r : Int32} {σ : Hp} {a0 : Nat} {a1 : Nat} (h : f_X9_isBehind σ a0 a1 = some r) : Ci G yX9_isBehind cX9_isBehind 2 (some .boolean) rm_X9_isBehind [.ref a0, .ref a1] (σ, μ, o) r (σ, μ, o) 0 0 := by
  refine v_entI [(0, .ref a0), (1, .ref a1)] (by decide +kernel) (Nat.le_of_ble_eq_true rfl) rfl ?_
  unfold f_X9_isBehind at h
  refine v_aload_n 0 rfl dX9_isBehind_0 rfl ?_
  obtain ⟨v1, e1, h⟩ := o_b h
  refine v_getI e1 (by decide) (by decide) rfl qf_RX9_7 dX9_isBehind_1 rfl ?_
  refine v_aload_n 1 rfl dX9_isBehind_4 rfl ?_
  obtain ⟨v5, e5, h⟩ := o_b h
  refine v_getI e5 (by decide) (by decide) rfl qf_RX9_7 dX9_isBehind_5 rfl ?_
  refine v_icmp_gt 34 dX9_isBehind_8 (by decide) rfl (fun c8 => ?_) (fun c8 => ?_)
  · have h := o_p c8 h
    refine v_iconst (v := (0 : Int32)) (by decide) dX9_isBehind_34 rfl ?_
    obtain rfl := Option.some.inj h
    exact v_iret rfl rfl (Nat.le_of_ble_eq_true rfl) (Nat.le_of_ble_eq_true rfl) dX9_isBehind_35
  · have h := o_n c8 h
    refine v_aload_n 0 rfl dX9_isBehind_11 rfl ?_
    obtain ⟨v12, e12, h⟩ := o_b h
    refine v_getI e12 (by decide) (by decide) rfl qf_RX9_13 dX9_isBehind_12 rfl ?_
    refine v_aload_n 1 rfl dX9_isBehind_15 rfl ?_
    obtain ⟨v16, e16, h⟩ := o_b h
    refine v_getI e16 (by decide) (by decide) rfl qf_RX9_13 dX9_isBehind_16 rfl ?_
    refine v_icmp_gt 34 dX9_isBehind_19 (by decide) rfl (fun c19 => ?_) (fun c19 => ?_)
    · have h := o_p c19 h
      refine v_iconst (v := (0 : Int32)) (by decide) dX9_isBehind_34 rfl ?_
      obtain rfl := Option.some.inj h
      exact v_iret rfl rfl (Nat.le_of_ble_eq_true rfl) (Nat.le_of_ble_eq_true rfl) dX9_isBehind_35
    · have h := o_n c19 h
      refine v_aload_n 0 rfl dX9_isBehind_22 rfl ?_
      refine v_aload_n 1 rfl dX9_isBehind_23 rfl ?_
      obtain ⟨⟨⟩, g24, h⟩ := o_b h
      obtain ⟨v24, e24, h⟩ := o_b h
      refine v_Vi (as := [.ref a1]) (st := []) (c' := 0) (k' := 0) (k_X9_isSame e24) (rcv_c g24 (by decide) rfl) mk_X9_isSame qi_X9_isSame qe_X9_isSame qm_RX9_16 (ck rfl) rfl dX9_isBehind_24 rfl rfl rfl ?_
      refine v_if_ne 34 dX9_isBehind_27 (by decide) rfl (fun c27 => ?_) (fun c27 => ?_)
      · have h := o_n c27 h
        refine v_iconst (v := (0 : Int32)) (by decide) dX9_isBehind_34 rfl ?_
        obtain rfl := Option.some.inj h
        exact v_iret rfl rfl (Nat.le_of_ble_eq_true rfl) (Nat.le_of_ble_eq_true rfl) dX9_isBehind_35
      · have h := o_p c27 h
        refine v_iconst (v := (1 : Int32)) (by decide) dX9_isBehind_30 rfl ?_
        refine v_goto (q := 35) dX9_isBehind_31 (by decide) ?_
        obtain rfl := Option.some.inj h
        exact v_iret rfl rfl (Nat.le_of_ble_eq_true rfl) (Nat.le_of_ble_eq_true rfl) dX9_isBehind_35
def rm_X10_hasExecuted : Room := { frames := 0, cells := 0, slots := 0, locals := 0 }
set_option maxRecDepth 100000 in
set_option maxHeartbeats 4000000 in
theorem k_X10_hasExecuted {G : Gm} {μ : Mu} {o : Int64} {r : Int32} {σ : Hp} {a0 : Nat} {a1 : Int32} (h : f_X10_hasExecuted σ a0 a1 = some r) : Ci G yX10_hasExecuted cX10_hasExecuted 2 (some .boolean) rm_X10_hasExecuted [.ref a0, .int a1] (σ, μ, o) r (σ, μ, o) 0 0 := by
  refine v_entI [(0, .ref a0), (1, .int a1)] (by decide +kernel) (Nat.le_of_ble_eq_true rfl) rfl ?_
  unfold f_X10_hasExecuted at h
  refine v_aload_n 0 rfl dX10_hasExecuted_0 rfl ?_
  obtain ⟨v1, e1, h⟩ := o_b h
  refine v_getR e1 (by decide) (by decide) rfl qf_RX10_18 dX10_hasExecuted_1 rfl ?_
  refine v_iload_n 1 rfl dX10_hasExecuted_4 rfl ?_
  obtain ⟨v5, e5, h⟩ := o_b h
  refine v_aI e5 dX10_hasExecuted_5 rfl ?_
  refine v_if_eq 13 dX10_hasExecuted_6 (by decide) rfl (fun c6 => ?_) (fun c6 => ?_)
  · have h := o_p c6 h
    refine v_iconst (v := (0 : Int32)) (by decide) dX10_hasExecuted_13 rfl ?_
    obtain rfl := Option.some.inj h
    exact v_iret rfl rfl (Nat.le_of_ble_eq_true rfl) (Nat.le_of_ble_eq_true rfl) dX10_hasExecuted_14
  · have h := o_n c6 h
    refine v_iconst (v := (1 : Int32)) (by decide) dX10_hasExecuted_9 rfl ?_
    refine v_goto (q := 14) dX10_hasExecuted_10 (by decide) ?_
    obtain rfl := Option.some.inj h
    exact v_iret rfl rfl (Nat.le_of_ble_eq_true rfl) (Nat.le_of_ble_eq_true rfl) dX10_hasExecuted_14
def rm_X10_answerTo : Room := { frames := 0, cells := 0, slots := 0, locals := 0 }
set_option maxRecDepth 100000 in
set_option maxHeartbeats 4000000 in
theorem k_X10_answerTo {G : Gm} {μ : Mu} {o : Int64} {r : Int32} {σ : Hp} {a0 : Nat} {a1 : Int32} (h : f_X10_answerTo σ a0 a1 = some r) : Ci G yX10_answerTo cX10_answerTo 2 (some .int) rm_X10_answerTo [.ref a0, .int a1] (σ, μ, o) r (σ, μ, o) 0 0 := by
  refine v_entI [(0, .ref a0), (1, .int a1)] (by decide +kernel) (Nat.le_of_ble_eq_true rfl) rfl ?_
  unfold f_X10_answerTo at h
  refine v_aload_n 0 rfl dX10_answerTo_0 rfl ?_
  obtain ⟨v1, e1, h⟩ := o_b h
  refine v_getR e1 (by decide) (by decide) rfl qf_RX10_21 dX10_answerTo_1 rfl ?_
  refine v_iload_n 1 rfl dX10_answerTo_4 rfl ?_
  obtain ⟨v5, e5, h⟩ := o_b h
  refine v_aI e5 dX10_answerTo_5 rfl ?_
  obtain rfl := Option.some.inj h
  exact v_iret rfl rfl (Nat.le_of_ble_eq_true rfl) (Nat.le_of_ble_eq_true rfl) dX10_answerTo_6
def rm_X4_at : Room := { frames := 0, cells := 0, slots := 0, locals := 0 }
set_option maxRecDepth 100000 in
set_option maxHeartbeats 4000000 in
theorem k_X4_at {G : Gm} {μ : Mu} {o : Int64} {r : Int32} {σ : Hp} {a0 : Nat} {a1 : Int32} (h : f_X4_at σ a0 a1 = some r) : Ci G yX4_at cX4_at 2 (some .int) rm_X4_at [.ref a0, .int a1] (σ, μ, o) r (σ, μ, o) 0 0 := by
  refine v_entI [(0, .ref a0), (1, .int a1)] (by decide +kernel) (Nat.le_of_ble_eq_true rfl) rfl ?_
  unfold f_X4_at at h
  refine v_iload_n 1 rfl dX4_at_0 rfl ?_
  refine v_iconst (v := (1 : Int32)) (by decide) dX4_at_1 rfl ?_
  refine v_icmp_lt 24 dX4_at_2 (by decide) rfl (fun c2 => ?_) (fun c2 => ?_)
  · have h := o_p c2 h
    refine v_iconst (v := (0 : Int32)) (by decide) dX4_at_24 rfl ?_
    obtain rfl := Option.some.inj h
    exact v_iret rfl rfl (Nat.le_of_ble_eq_true rfl) (Nat.le_of_ble_eq_true rfl) dX4_at_25
  · have h := o_n c2 h
    refine v_iload_n 1 rfl dX4_at_5 rfl ?_
    refine v_aload_n 0 rfl dX4_at_6 rfl ?_
    obtain ⟨v7, e7, h⟩ := o_b h
    refine v_getI e7 (by decide) (by decide) rfl qf_RX4_15 dX4_at_7 rfl ?_
    refine v_icmp_gt 24 dX4_at_10 (by decide) rfl (fun c10 => ?_) (fun c10 => ?_)
    · have h := o_p c10 h
      refine v_iconst (v := (0 : Int32)) (by decide) dX4_at_24 rfl ?_
      obtain rfl := Option.some.inj h
      exact v_iret rfl rfl (Nat.le_of_ble_eq_true rfl) (Nat.le_of_ble_eq_true rfl) dX4_at_25
    · have h := o_n c10 h
      refine v_aload_n 0 rfl dX4_at_13 rfl ?_
      obtain ⟨v14, e14, h⟩ := o_b h
      refine v_getR e14 (by decide) (by decide) rfl qf_RX4_9 dX4_at_14 rfl ?_
      refine v_iload_n 1 rfl dX4_at_17 rfl ?_
      refine v_iconst (v := (1 : Int32)) (by decide) dX4_at_18 rfl ?_
      refine v_isub dX4_at_19 rfl ?_
      obtain ⟨v20, e20, h⟩ := o_b h
      refine v_aI e20 dX4_at_20 rfl ?_
      refine v_goto (q := 25) dX4_at_21 (by decide) ?_
      obtain rfl := Option.some.inj h
      exact v_iret rfl rfl (Nat.le_of_ble_eq_true rfl) (Nat.le_of_ble_eq_true rfl) dX4_at_25
def rm_X0_markNotHeldTo : Room := { frames := 2, cells := 0, slots := 0, locals := 42 }
set_option maxRecDepth 100000 in
set_option maxHeartbeats 4000000 in
theorem l_X0_markNotHeldTo_118 {G : Gm} {μ : Mu} {o : Int64} {σ' : Hp} {rec2 : Hp → Nat → Nat → Nat → Int32 → Option Hp} (h2 : ∀ {σ : Hp} {x0 : Nat} {x1 : Nat} {x2 : Nat} {x3 : Int32} , rec2 σ x0 x1 x2 x3 = some σ' → V G yX0_markNotHeldTo cX0_markNotHeldTo 5 none rm_X0_markNotHeldTo (zV G (σ', μ, o) 0 0) (σ, μ, o) 0 0 2 [(0, .ref x0), (1, .ref x1), (2, .ref x2), (3, .int x3)] []) {σ : Hp} {x0 : Nat} {x1 : Nat} {x2 : Nat} {x3 : Int32} (h : f_X0_markNotHeldTo_118 rec2 σ x0 x1 x2 x3 = some σ') : V G yX0_markNotHeldTo cX0_markNotHeldTo 5 none rm_X0_markNotHeldTo (zV G (σ', μ, o) 0 0) (σ, μ, o) 0 0 118 [(0, .ref x0), (1, .ref x1), (2, .ref x2), (3, .int x3)] [] := by
  unfold f_X0_markNotHeldTo_118 at h
  refine v_iinc (v := (x3 + 1)) [(3, .int (x3 + 1)), (0, .ref x0), (1, .ref x1), (2, .ref x2)] 3 rfl rfl dX0_markNotHeldTo_118 rfl (by decide) rfl ?_
  refine v_goto (q := 2) dX0_markNotHeldTo_121 (by decide) ?_
  refine v_sub [1, 2, 3, 0] rfl ?_
  exact h2 h
set_option maxRecDepth 100000 in
set_option maxHeartbeats 4000000 in
theorem l_X0_markNotHeldTo_111 {G : Gm} {μ : Mu} {o : Int64} {σ' : Hp} {rec2 : Hp → Nat → Nat → Nat → Int32 → Option Hp} (h2 : ∀ {σ : Hp} {x0 : Nat} {x1 : Nat} {x2 : Nat} {x3 : Int32} , rec2 σ x0 x1 x2 x3 = some σ' → V G yX0_markNotHeldTo cX0_markNotHeldTo 5 none rm_X0_markNotHeldTo (zV G (σ', μ, o) 0 0) (σ, μ, o) 0 0 2 [(0, .ref x0), (1, .ref x1), (2, .ref x2), (3, .int x3)] []) {σ : Hp} {x0 : Nat} {x1 : Nat} {x2 : Nat} {x3 : Int32} (h : f_X0_markNotHeldTo_111 rec2 σ x0 x1 x2 x3 = some σ') : V G yX0_markNotHeldTo cX0_markNotHeldTo 5 none rm_X0_markNotHeldTo (zV G (σ', μ, o) 0 0) (σ, μ, o) 0 0 111 [(0, .ref x0), (1, .ref x1), (2, .ref x2), (3, .int x3)] [] := by
  unfold f_X0_markNotHeldTo_111 at h
  refine v_aload_n 0 rfl dX0_markNotHeldTo_111 rfl ?_
  obtain ⟨v112, e112, h⟩ := o_b h
  refine v_getR e112 (by decide) (by decide) rfl qf_RX0_27 dX0_markNotHeldTo_112 rfl ?_
  refine v_iload_n 3 rfl dX0_markNotHeldTo_115 rfl ?_
  refine v_iconst (v := (1 : Int32)) (by decide) dX0_markNotHeldTo_116 rfl ?_
  obtain ⟨s117, e117, h⟩ := o_b h
  refine v_qI e117 dX0_markNotHeldTo_117 rfl ?_
  exact l_X0_markNotHeldTo_118 h2 h
set_option maxRecDepth 100000 in
set_option maxHeartbeats 4000000 in
theorem l_X0_markNotHeldTo_82 {G : Gm} {μ : Mu} {o : Int64} {σ' : Hp} {rec2 : Hp → Nat → Nat → Nat → Int32 → Option Hp} (h2 : ∀ {σ : Hp} {x0 : Nat} {x1 : Nat} {x2 : Nat} {x3 : Int32} , rec2 σ x0 x1 x2 x3 = some σ' → V G yX0_markNotHeldTo cX0_markNotHeldTo 5 none rm_X0_markNotHeldTo (zV G (σ', μ, o) 0 0) (σ, μ, o) 0 0 2 [(0, .ref x0), (1, .ref x1), (2, .ref x2), (3, .int x3)] []) {σ : Hp} {x0 : Nat} {x1 : Nat} {x2 : Nat} {x3 : Int32} {y0 : Int32} (h : f_X0_markNotHeldTo_82 rec2 σ x0 x1 x2 x3 y0 = some σ') : V G yX0_markNotHeldTo cX0_markNotHeldTo 5 none rm_X0_markNotHeldTo (zV G (σ', μ, o) 0 0) (σ, μ, o) 0 0 82 [(0, .ref x0), (1, .ref x1), (2, .ref x2), (3, .int x3)] [.int y0] := by
  unfold f_X0_markNotHeldTo_82 at h
  refine v_istore [(4, .int y0), (0, .ref x0), (1, .ref x1), (2, .ref x2), (3, .int x3)] dX0_markNotHeldTo_82 rfl (by decide) rfl ?_
  refine v_aload_n 2 rfl dX0_markNotHeldTo_84 rfl ?_
  obtain ⟨v85, e85, h⟩ := o_b h
  refine v_getR e85 (by decide) (by decide) rfl qf_RX0_75 dX0_markNotHeldTo_85 rfl ?_
  refine v_aload_n 1 rfl dX0_markNotHeldTo_88 rfl ?_
  obtain ⟨v89, e89, h⟩ := o_b h
  refine v_getR e89 (by decide) (by decide) rfl qf_RX0_21 dX0_markNotHeldTo_89 rfl ?_
  refine v_iload_n 4 rfl dX0_markNotHeldTo_92 rfl ?_
  obtain ⟨v93, e93, h⟩ := o_b h
  refine v_aI e93 dX0_markNotHeldTo_93 rfl ?_
  obtain ⟨⟨⟩, g94, h⟩ := o_b h
  obtain ⟨v94, e94, h⟩ := o_b h
  refine v_Vi (as := [.int v93]) (st := []) (c' := 0) (k' := 0) (k_X4_at e94) (rcv_c g94 (by decide) rfl) mk_X4_at qi_X4_at qe_X4_at qm_RX0_79 (ck rfl) rfl dX0_markNotHeldTo_94 rfl rfl rfl ?_
  refine v_aload_n 1 rfl dX0_markNotHeldTo_97 rfl ?_
  obtain ⟨v98, e98, h⟩ := o_b h
  refine v_getR e98 (by decide) (by decide) rfl qf_RX0_9 dX0_markNotHeldTo_98 rfl ?_
  refine v_iload_n 4 rfl dX0_markNotHeldTo_101 rfl ?_
  obtain ⟨v102, e102, h⟩ := o_b h
  refine v_aI e102 dX0_markNotHeldTo_102 rfl ?_
  refine v_icmp_ne 111 dX0_markNotHeldTo_103 (by decide) rfl (fun c103 => ?_) (fun c103 => ?_)
  · have h := o_n c103 h
    refine v_sub [1, 2, 3, 4] rfl ?_
    exact l_X0_markNotHeldTo_111 h2 h
  · have h := o_p c103 h
    refine v_iload 0 rfl dX0_markNotHeldTo_106 rfl ?_
    refine v_if_eq 118 dX0_markNotHeldTo_108 (by decide) rfl (fun c108 => ?_) (fun c108 => ?_)
    · have h := o_p c108 h
      refine v_sub [1, 2, 3, 4] rfl ?_
      exact l_X0_markNotHeldTo_118 h2 h
    · have h := o_n c108 h
      refine v_sub [1, 2, 3, 4] rfl ?_
      exact l_X0_markNotHeldTo_111 h2 h
set_option maxRecDepth 100000 in
set_option maxHeartbeats 4000000 in
theorem l_X0_markNotHeldTo_81 {G : Gm} {μ : Mu} {o : Int64} {σ' : Hp} {rec2 : Hp → Nat → Nat → Nat → Int32 → Option Hp} (h2 : ∀ {σ : Hp} {x0 : Nat} {x1 : Nat} {x2 : Nat} {x3 : Int32} , rec2 σ x0 x1 x2 x3 = some σ' → V G yX0_markNotHeldTo cX0_markNotHeldTo 5 none rm_X0_markNotHeldTo (zV G (σ', μ, o) 0 0) (σ, μ, o) 0 0 2 [(0, .ref x0), (1, .ref x1), (2, .ref x2), (3, .int x3)] []) {σ : Hp} {x0 : Nat} {x1 : Nat} {x2 : Nat} {x3 : Int32} (h : f_X0_markNotHeldTo_81 rec2 σ x0 x1 x2 x3 = some σ') : V G yX0_markNotHeldTo cX0_markNotHeldTo 5 none rm_X0_markNotHeldTo (zV G (σ', μ, o) 0 0) (σ, μ, o) 0 0 81 [(0, .ref x0), (1, .ref x1), (2, .ref x2), (3, .int x3)] [] := by
  unfold f_X0_markNotHeldTo_81 at h
  refine v_iconst (v := (0 : Int32)) (by decide) dX0_markNotHeldTo_81 rfl ?_
  exact l_X0_markNotHeldTo_82 h2 h
set_option maxRecDepth 100000 in
set_option maxHeartbeats 4000000 in
theorem l_X0_markNotHeldTo_45 {G : Gm} {μ : Mu} {o : Int64} {σ' : Hp} {rec2 : Hp → Nat → Nat → Nat → Int32 → Option Hp} (h2 : ∀ {σ : Hp} {x0 : Nat} {x1 : Nat} {x2 : Nat} {x3 : Int32} , rec2 σ x0 x1 x2 x3 = some σ' → V G yX0_markNotHeldTo cX0_markNotHeldTo 5 none rm_X0_markNotHeldTo (zV G (σ', μ, o) 0 0) (σ, μ, o) 0 0 2 [(0, .ref x0), (1, .ref x1), (2, .ref x2), (3, .int x3)] []) {σ : Hp} {x0 : Nat} {x1 : Nat} {x2 : Nat} {x3 : Int32} (h : f_X0_markNotHeldTo_45 rec2 σ x0 x1 x2 x3 = some σ') : V G yX0_markNotHeldTo cX0_markNotHeldTo 5 none rm_X0_markNotHeldTo (zV G (σ', μ, o) 0 0) (σ, μ, o) 0 0 45 [(0, .ref x0), (1, .ref x1), (2, .ref x2), (3, .int x3)] [] := by
  unfold f_X0_markNotHeldTo_45 at h
  refine v_aload_n 2 rfl dX0_markNotHeldTo_45 rfl ?_
  refine v_aload_n 0 rfl dX0_markNotHeldTo_46 rfl ?_
  obtain ⟨v47, e47, h⟩ := o_b h
  refine v_getR e47 (by decide) (by decide) rfl qf_RX0_9 dX0_markNotHeldTo_47 rfl ?_
  refine v_iload_n 3 rfl dX0_markNotHeldTo_50 rfl ?_
  obtain ⟨v51, e51, h⟩ := o_b h
  refine v_aI e51 dX0_markNotHeldTo_51 rfl ?_
  obtain ⟨⟨⟩, g52, h⟩ := o_b h
  obtain ⟨v52, e52, h⟩ := o_b h
  refine v_Vi (as := [.int v51]) (st := []) (c' := 0) (k' := 0) (k_X10_hasExecuted e52) (rcv_c g52 (by decide) rfl) mk_X10_hasExecuted qi_X10_hasExecuted qe_X10_hasExecuted qm_RX0_65 (ck rfl) rfl dX0_markNotHeldTo_52 rfl rfl rfl ?_
  refine v_if_eq 81 dX0_markNotHeldTo_55 (by decide) rfl (fun c55 => ?_) (fun c55 => ?_)
  · have h := o_p c55 h
    exact l_X0_markNotHeldTo_81 h2 h
  · have h := o_n c55 h
    refine v_aload_n 2 rfl dX0_markNotHeldTo_58 rfl ?_
    refine v_aload_n 0 rfl dX0_markNotHeldTo_59 rfl ?_
    obtain ⟨v60, e60, h⟩ := o_b h
    refine v_getR e60 (by decide) (by decide) rfl qf_RX0_9 dX0_markNotHeldTo_60 rfl ?_
    refine v_iload_n 3 rfl dX0_markNotHeldTo_63 rfl ?_
    obtain ⟨v64, e64, h⟩ := o_b h
    refine v_aI e64 dX0_markNotHeldTo_64 rfl ?_
    obtain ⟨⟨⟩, g65, h⟩ := o_b h
    obtain ⟨v65, e65, h⟩ := o_b h
    refine v_Vi (as := [.int v64]) (st := []) (c' := 0) (k' := 0) (k_X10_answerTo e65) (rcv_c g65 (by decide) rfl) mk_X10_answerTo qi_X10_answerTo qe_X10_answerTo qm_RX0_71 (ck rfl) rfl dX0_markNotHeldTo_65 rfl rfl rfl ?_
    refine v_aload_n 0 rfl dX0_markNotHeldTo_68 rfl ?_
    obtain ⟨v69, e69, h⟩ := o_b h
    refine v_getR e69 (by decide) (by decide) rfl qf_RX0_24 dX0_markNotHeldTo_69 rfl ?_
    refine v_iload_n 3 rfl dX0_markNotHeldTo_72 rfl ?_
    obtain ⟨v73, e73, h⟩ := o_b h
    refine v_aI e73 dX0_markNotHeldTo_73 rfl ?_
    refine v_icmp_eq 81 dX0_markNotHeldTo_74 (by decide) rfl (fun c74 => ?_) (fun c74 => ?_)
    · have h := o_p c74 h
      exact l_X0_markNotHeldTo_81 h2 h
    · have h := o_n c74 h
      refine v_iconst (v := (1 : Int32)) (by decide) dX0_markNotHeldTo_77 rfl ?_
      refine v_goto (q := 82) dX0_markNotHeldTo_78 (by decide) ?_
      exact l_X0_markNotHeldTo_82 h2 h
set_option maxRecDepth 100000 in
set_option maxHeartbeats 4000000 in
theorem l_X0_markNotHeldTo_2 {G : Gm} {μ : Mu} {o : Int64} {σ' : Hp} : ∀ (n : Nat) {σ : Hp} {x0 : Nat} {x1 : Nat} {x2 : Nat} {x3 : Int32} , f_X0_markNotHeldTo_2 n σ x0 x1 x2 x3 = some σ' → V G yX0_markNotHeldTo cX0_markNotHeldTo 5 none rm_X0_markNotHeldTo (zV G (σ', μ, o) 0 0) (σ, μ, o) 0 0 2 [(0, .ref x0), (1, .ref x1), (2, .ref x2), (3, .int x3)] [] := by
  intro n
  induction n with
  | zero => intro _ _ _ _ _ h; cases h
  | succ n ih =>
    intro σ x0 x1 x2 x3 h
    replace h : b_X0_markNotHeldTo_2 (f_X0_markNotHeldTo_2 n) σ x0 x1 x2 x3 = some σ' := h
    unfold b_X0_markNotHeldTo_2 at h
    refine v_iload_n 3 rfl dX0_markNotHeldTo_2 rfl ?_
    refine v_aload_n 0 rfl dX0_markNotHeldTo_3 rfl ?_
    obtain ⟨v4, e4, h⟩ := o_b h
    refine v_getI e4 (by decide) (by decide) rfl qf_RX0_34 dX0_markNotHeldTo_4 rfl ?_
    refine v_icmp_ge 124 dX0_markNotHeldTo_7 (by decide) rfl (fun c7 => ?_) (fun c7 => ?_)
    · have h := o_p c7 h
      obtain rfl := Option.some.inj h
      exact v_vret rfl (Nat.le_of_ble_eq_true rfl) (Nat.le_of_ble_eq_true rfl) dX0_markNotHeldTo_124
    · have h := o_n c7 h
      refine v_aload_n 0 rfl dX0_markNotHeldTo_10 rfl ?_
      obtain ⟨v11, e11, h⟩ := o_b h
      refine v_getR e11 (by decide) (by decide) rfl qf_RX0_17 dX0_markNotHeldTo_11 rfl ?_
      refine v_iload_n 3 rfl dX0_markNotHeldTo_14 rfl ?_
      obtain ⟨v15, e15, h⟩ := o_b h
      refine v_aR e15 (by decide) (by decide) rfl dX0_markNotHeldTo_15 rfl ?_
      refine v_aload_n 1 rfl dX0_markNotHeldTo_16 rfl ?_
      obtain ⟨v17, e17, h⟩ := o_b h
      refine v_getR e17 (by decide) (by decide) rfl qf_RX0_52 dX0_markNotHeldTo_17 rfl ?_
      obtain ⟨⟨⟩, g20, h⟩ := o_b h
      obtain ⟨v20, e20, h⟩ := o_b h
      refine v_Vi (as := [.ref v17]) (st := []) (c' := 0) (k' := 0) (k_X9_isSame e20) (rcv_c g20 (by decide) rfl) mk_X9_isSame qi_X9_isSame qe_X9_isSame qm_RX0_58 (ck rfl) rfl dX0_markNotHeldTo_20 rfl rfl rfl ?_
      refine v_if_ne 45 dX0_markNotHeldTo_23 (by decide) rfl (fun c23 => ?_) (fun c23 => ?_)
      · have h := o_n c23 h
        exact l_X0_markNotHeldTo_45 (fun h => ih h) h
      · have h := o_p c23 h
        refine v_aload_n 0 rfl dX0_markNotHeldTo_26 rfl ?_
        obtain ⟨v27, e27, h⟩ := o_b h
        refine v_getR e27 (by decide) (by decide) rfl qf_RX0_17 dX0_markNotHeldTo_27 rfl ?_
        refine v_iload_n 3 rfl dX0_markNotHeldTo_30 rfl ?_
        obtain ⟨v31, e31, h⟩ := o_b h
        refine v_aR e31 (by decide) (by decide) rfl dX0_markNotHeldTo_31 rfl ?_
        refine v_aload_n 1 rfl dX0_markNotHeldTo_32 rfl ?_
        obtain ⟨v33, e33, h⟩ := o_b h
        refine v_getR e33 (by decide) (by decide) rfl qf_RX0_52 dX0_markNotHeldTo_33 rfl ?_
        obtain ⟨⟨⟩, g36, h⟩ := o_b h
        obtain ⟨v36, e36, h⟩ := o_b h
        refine v_Vi (as := [.ref v33]) (st := []) (c' := 0) (k' := 0) (k_X9_isBehind e36) (rcv_c g36 (by decide) rfl) mk_X9_isBehind qi_X9_isBehind qe_X9_isBehind qm_RX0_62 (ck rfl) rfl dX0_markNotHeldTo_36 rfl rfl rfl ?_
        refine v_if_ne 45 dX0_markNotHeldTo_39 (by decide) rfl (fun c39 => ?_) (fun c39 => ?_)
        · have h := o_n c39 h
          exact l_X0_markNotHeldTo_45 (fun h => ih h) h
        · have h := o_p c39 h
          refine v_goto (q := 118) dX0_markNotHeldTo_42 (by decide) ?_
          exact l_X0_markNotHeldTo_118 (fun h => ih h) h
set_option maxRecDepth 100000 in
set_option maxHeartbeats 4000000 in
theorem k_X0_markNotHeldTo {G : Gm} {μ : Mu} {o : Int64} {σ' : Hp} {σ : Hp} {a0 : Nat} {a1 : Nat} {a2 : Nat} (h : f_X0_markNotHeldTo σ a0 a1 a2 = some σ') : Cv G yX0_markNotHeldTo cX0_markNotHeldTo 5 none rm_X0_markNotHeldTo [.ref a0, .ref a1, .ref a2] (σ, μ, o) (σ', μ, o) 0 0 := by
  refine v_entV [(0, .ref a0), (1, .ref a1), (2, .ref a2)] (by decide +kernel) (Nat.le_of_ble_eq_true rfl) rfl ?_
  unfold f_X0_markNotHeldTo at h
  refine v_iconst (v := (0 : Int32)) (by decide) dX0_markNotHeldTo_0 rfl ?_
  refine v_istore_n [(3, .int (0 : Int32)), (0, .ref a0), (1, .ref a1), (2, .ref a2)] dX0_markNotHeldTo_1 rfl (by decide) rfl ?_
  refine v_sub [1, 2, 3, 0] rfl ?_
  exact l_X0_markNotHeldTo_2 _ h
def rm_X0_marked : Room := { frames := 0, cells := 0, slots := 0, locals := 0 }
set_option maxRecDepth 100000 in
set_option maxHeartbeats 4000000 in
theorem l_X0_marked_13 {G : Gm} {μ : Mu} {o : Int64} {r : Int32} {σ : Hp} : ∀ (n : Nat) {x1 : Int32} {x2 : Nat} {x3 : Int32} {x4 : Int32} , f_X0_marked_13 n σ x1 x2 x3 x4 = some r → V G yX0_marked cX0_marked 6 (some .int) rm_X0_marked (zI G r (σ, μ, o) 0 0) (σ, μ, o) 0 0 13 [(1, .int x1), (2, .ref x2), (3, .int x3), (4, .int x4)] [] := by
  intro n
  induction n with
  | zero => intro _ _ _ _ h; cases h
  | succ n ih =>
    intro x1 x2 x3 x4 h
    replace h : b_X0_marked_13 (f_X0_marked_13 n) σ x1 x2 x3 x4 = some r := h
    unfold b_X0_marked_13 at h
    refine v_iload 3 rfl dX0_marked_13 rfl ?_
    refine v_iload_n 2 rfl dX0_marked_15 rfl ?_
    refine v_icmp_ge 36 dX0_marked_16 (by decide) rfl (fun c16 => ?_) (fun c16 => ?_)
    · have h := o_p c16 h
      refine v_iload_n 0 rfl dX0_marked_36 rfl ?_
      obtain rfl := Option.some.inj h
      exact v_iret rfl rfl (Nat.le_of_ble_eq_true rfl) (Nat.le_of_ble_eq_true rfl) dX0_marked_37
    · have h := o_n c16 h
      refine v_aload_n 1 rfl dX0_marked_19 rfl ?_
      refine v_iload 3 rfl dX0_marked_20 rfl ?_
      obtain ⟨v22, e22, h⟩ := o_b h
      refine v_aI e22 dX0_marked_22 rfl ?_
      refine v_istore [(5, .int v22), (1, .int x1), (2, .ref x2), (3, .int x3), (4, .int x4)] dX0_marked_23 rfl (by decide) rfl ?_
      refine v_iload_n 1 rfl dX0_marked_25 rfl ?_
      refine v_iload 0 rfl dX0_marked_26 rfl ?_
      refine v_iadd dX0_marked_28 rfl ?_
      refine v_istore_n [(1, .int (x1 + v22)), (5, .int v22), (2, .ref x2), (3, .int x3), (4, .int x4)] dX0_marked_29 rfl (by decide) rfl ?_
      refine v_iinc (v := (x4 + 1)) [(4, .int (x4 + 1)), (1, .int (x1 + v22)), (5, .int v22), (2, .ref x2), (3, .int x3)] 4 rfl rfl dX0_marked_30 rfl (by decide) rfl ?_
      refine v_goto (q := 13) dX0_marked_33 (by decide) ?_
      refine v_sub [1, 3, 4, 0] rfl ?_
      exact ih h
set_option maxRecDepth 100000 in
set_option maxHeartbeats 4000000 in
theorem k_X0_marked {G : Gm} {μ : Mu} {o : Int64} {r : Int32} {σ : Hp} {a0 : Nat} (h : f_X0_marked σ a0 = some r) : Ci G yX0_marked cX0_marked 6 (some .int) rm_X0_marked [.ref a0] (σ, μ, o) r (σ, μ, o) 0 0 := by
  refine v_entI [(0, .ref a0)] (by decide +kernel) (Nat.le_of_ble_eq_true rfl) rfl ?_
  unfold f_X0_marked at h
  refine v_iconst (v := (0 : Int32)) (by decide) dX0_marked_0 rfl ?_
  refine v_istore_n [(1, .int (0 : Int32)), (0, .ref a0)] dX0_marked_1 rfl (by decide) rfl ?_
  refine v_aload_n 1 rfl dX0_marked_2 rfl ?_
  obtain ⟨v3, e3, h⟩ := o_b h
  refine v_getR e3 (by decide) (by decide) rfl qf_RX0_27 dX0_marked_3 rfl ?_
  refine v_astore_n [(2, .ref v3), (1, .int (0 : Int32)), (0, .ref a0)] dX0_marked_6 rfl (by decide) rfl ?_
  refine v_aload_n 0 rfl dX0_marked_7 rfl ?_
  obtain ⟨v8, e8, h⟩ := o_b h
  refine v_aL e8 (by decide) (by decide) rfl dX0_marked_8 rfl ?_
  refine v_istore_n [(3, .int v8), (2, .ref v3), (1, .int (0 : Int32)), (0, .ref a0)] dX0_marked_9 rfl (by decide) rfl ?_
  refine v_iconst (v := (0 : Int32)) (by decide) dX0_marked_10 rfl ?_
  refine v_istore [(4, .int (0 : Int32)), (3, .int v8), (2, .ref v3), (1, .int (0 : Int32)), (0, .ref a0)] dX0_marked_11 rfl (by decide) rfl ?_
  refine v_sub [3, 2, 1, 0] rfl ?_
  exact l_X0_marked_13 _ h
def rm_X1_send : Room := { frames := 0, cells := 0, slots := 0, locals := 0 }
set_option maxRecDepth 100000 in
set_option maxHeartbeats 4000000 in
theorem l_X1_send_50 {G : Gm} {μ : Mu} {o : Int64} {r : Nat} {σ' : Hp} {σ : Hp} {x0 : Nat} {x1 : Int32} {x2 : Int32} {x3 : Int32} {x4 : Nat} (h : f_X1_send_50 σ x0 x1 x2 x3 x4 = some (r, σ')) : V G yX1_send cX1_send 5 (some (.object "OrderedTable$Message")) rm_X1_send (zR G r (σ', μ, o) 0 0) (σ, μ, o) 0 0 50 [(0, .ref x0), (1, .int x1), (2, .int x2), (3, .int x3), (4, .ref x4)] [] := by
  unfold f_X1_send_50 at h
  refine v_aload 4 rfl dX1_send_50 rfl ?_
  refine v_aload_n 0 rfl dX1_send_52 rfl ?_
  obtain ⟨v53, e53, h⟩ := o_b h
  refine v_getI e53 (by decide) (by decide) rfl qf_RX1_32 dX1_send_53 rfl ?_
  obtain ⟨s56, e56, h⟩ := o_b h
  refine v_putI e56 (by decide) (by decide) rfl rfl rfl rfl rfl qf_RX1_35 dX1_send_56 rfl ?_
  refine v_aload_n 0 rfl dX1_send_59 rfl ?_
  refine v_dup rfl dX1_send_60 rfl ?_
  obtain ⟨v61, e61, h⟩ := o_b h
  refine v_getI e61 (by decide) (by decide) rfl qf_RX1_32 dX1_send_61 rfl ?_
  refine v_iconst (v := (1 : Int32)) (by decide) dX1_send_64 rfl ?_
  refine v_iadd dX1_send_65 rfl ?_
  obtain ⟨s66, e66, h⟩ := o_b h
  refine v_putI e66 (by decide) (by decide) rfl rfl rfl rfl rfl qf_RX1_32 dX1_send_66 rfl ?_
  refine v_aload 4 rfl dX1_send_69 rfl ?_
  refine v_iload_n 1 rfl dX1_send_71 rfl ?_
  obtain ⟨s72, e72, h⟩ := o_b h
  refine v_putI e72 (by decide) (by decide) rfl rfl rfl rfl rfl qf_RX1_38 dX1_send_72 rfl ?_
  refine v_aload 4 rfl dX1_send_75 rfl ?_
  refine v_iload_n 2 rfl dX1_send_77 rfl ?_
  obtain ⟨s78, e78, h⟩ := o_b h
  refine v_putI e78 (by decide) (by decide) rfl rfl rfl rfl rfl qf_RX1_41 dX1_send_78 rfl ?_
  refine v_aload 4 rfl dX1_send_81 rfl ?_
  refine v_iload_n 3 rfl dX1_send_83 rfl ?_
  obtain ⟨s84, e84, h⟩ := o_b h
  refine v_putI e84 (by decide) (by decide) rfl rfl rfl rfl rfl qf_RX1_44 dX1_send_84 rfl ?_
  refine v_aload 4 rfl dX1_send_87 rfl ?_
  obtain ⟨rfl, rfl⟩ := o_s h
  exact v_aret rfl (Nat.le_of_ble_eq_true rfl) (Nat.le_of_ble_eq_true rfl) dX1_send_89
set_option maxRecDepth 100000 in
set_option maxHeartbeats 4000000 in
theorem k_X1_send {G : Gm} {μ : Mu} {o : Int64} {r : Nat} {σ' : Hp} {σ : Hp} {a0 : Nat} {a1 : Int32} {a2 : Int32} {a3 : Int32} (h : f_X1_send σ a0 a1 a2 a3 = some (r, σ')) : Cr G yX1_send cX1_send 5 (some (.object "OrderedTable$Message")) rm_X1_send [.ref a0, .int a1, .int a2, .int a3] (σ, μ, o) r (σ', μ, o) 0 0 := by
  refine v_entR [(0, .ref a0), (1, .int a1), (2, .int a2), (3, .int a3)] (by decide +kernel) (Nat.le_of_ble_eq_true rfl) rfl ?_
  unfold f_X1_send at h
  refine v_aload_n 0 rfl dX1_send_0 rfl ?_
  obtain ⟨v1, e1, h⟩ := o_b h
  refine v_getR e1 (by decide) (by decide) rfl qf_RX1_22 dX1_send_1 rfl ?_
  refine v_astore [(4, .ref v1), (0, .ref a0), (1, .int a1), (2, .int a2), (3, .int a3)] dX1_send_4 rfl (by decide) rfl ?_
  refine v_aload_n 1 rfl dX1_send_6 rfl ?_
  obtain ⟨v7, e7, h⟩ := o_b h
  refine v_getI e7 (by decide) (by decide) rfl qf_RX1_25 dX1_send_7 rfl ?_
  refine v_sipush (v := (200 : Int32)) (by decide) dX1_send_10 rfl ?_
  refine v_icmp_ge 40 dX1_send_13 (by decide) rfl (fun c13 => ?_) (fun c13 => ?_)
  · have h := o_p c13 h
    refine v_aload_n 1 rfl dX1_send_40 rfl ?_
    refine v_dup rfl dX1_send_41 rfl ?_
    obtain ⟨v42, e42, h⟩ := o_b h
    refine v_getI e42 (by decide) (by decide) rfl qf_RX1_29 dX1_send_42 rfl ?_
    refine v_iconst (v := (1 : Int32)) (by decide) dX1_send_45 rfl ?_
    refine v_iadd dX1_send_46 rfl ?_
    obtain ⟨s47, e47, h⟩ := o_b h
    refine v_putI e47 (by decide) (by decide) rfl rfl rfl rfl rfl qf_RX1_29 dX1_send_47 rfl ?_
    refine v_sub [1, 2, 3, 4, 0] rfl ?_
    exact l_X1_send_50 h
  · have h := o_n c13 h
    refine v_aload_n 1 rfl dX1_send_16 rfl ?_
    obtain ⟨v17, e17, h⟩ := o_b h
    refine v_getR e17 (by decide) (by decide) rfl qf_RX1_11 dX1_send_17 rfl ?_
    refine v_aload_n 1 rfl dX1_send_20 rfl ?_
    obtain ⟨v21, e21, h⟩ := o_b h
    refine v_getI e21 (by decide) (by decide) rfl qf_RX1_25 dX1_send_21 rfl ?_
    obtain ⟨v24, e24, h⟩ := o_b h
    refine v_aR e24 (by decide) (by decide) rfl dX1_send_24 rfl ?_
    refine v_astore [(4, .ref v24), (0, .ref a0), (1, .int a1), (2, .int a2), (3, .int a3)] dX1_send_25 rfl (by decide) rfl ?_
    refine v_aload_n 1 rfl dX1_send_27 rfl ?_
    refine v_dup rfl dX1_send_28 rfl ?_
    obtain ⟨v29, e29, h⟩ := o_b h
    refine v_getI e29 (by decide) (by decide) rfl qf_RX1_25 dX1_send_29 rfl ?_
    refine v_iconst (v := (1 : Int32)) (by decide) dX1_send_32 rfl ?_
    refine v_iadd dX1_send_33 rfl ?_
    obtain ⟨s34, e34, h⟩ := o_b h
    refine v_putI e34 (by decide) (by decide) rfl rfl rfl rfl rfl qf_RX1_25 dX1_send_34 rfl ?_
    refine v_goto (q := 50) dX1_send_37 (by decide) ?_
    refine v_sub [1, 2, 3, 4, 0] rfl ?_
    exact l_X1_send_50 h
def rm_X1_placeOf : Room := { frames := 0, cells := 0, slots := 0, locals := 0 }
set_option maxRecDepth 100000 in
set_option maxHeartbeats 4000000 in
theorem l_X1_placeOf_2 {G : Gm} {μ : Mu} {o : Int64} {r : Int32} {σ : Hp} : ∀ (n : Nat) {x0 : Nat} {x1 : Int32} {x2 : Int32} , f_X1_placeOf_2 n σ x0 x1 x2 = some r → V G yX1_placeOf cX1_placeOf 3 (some .int) rm_X1_placeOf (zI G r (σ, μ, o) 0 0) (σ, μ, o) 0 0 2 [(0, .ref x0), (1, .int x1), (2, .int x2)] [] := by
  intro n
  induction n with
  | zero => intro _ _ _ h; cases h
  | succ n ih =>
    intro x0 x1 x2 h
    replace h : b_X1_placeOf_2 (f_X1_placeOf_2 n) σ x0 x1 x2 = some r := h
    unfold b_X1_placeOf_2 at h
    refine v_iload_n 2 rfl dX1_placeOf_2 rfl ?_
    refine v_aload_n 0 rfl dX1_placeOf_3 rfl ?_
    obtain ⟨v4, e4, h⟩ := o_b h
    refine v_getI e4 (by decide) (by decide) rfl qf_RX1_25 dX1_placeOf_4 rfl ?_
    refine v_icmp_ge 31 dX1_placeOf_7 (by decide) rfl (fun c7 => ?_) (fun c7 => ?_)
    · have h := o_p c7 h
      refine v_iconst (v := (-1 : Int32)) (by decide) dX1_placeOf_31 rfl ?_
      obtain rfl := Option.some.inj h
      exact v_iret rfl rfl (Nat.le_of_ble_eq_true rfl) (Nat.le_of_ble_eq_true rfl) dX1_placeOf_32
    · have h := o_n c7 h
      refine v_aload_n 0 rfl dX1_placeOf_10 rfl ?_
      obtain ⟨v11, e11, h⟩ := o_b h
      refine v_getR e11 (by decide) (by decide) rfl qf_RX1_11 dX1_placeOf_11 rfl ?_
      refine v_iload_n 2 rfl dX1_placeOf_14 rfl ?_
      obtain ⟨v15, e15, h⟩ := o_b h
      refine v_aR e15 (by decide) (by decide) rfl dX1_placeOf_15 rfl ?_
      obtain ⟨v16, e16, h⟩ := o_b h
      refine v_getI e16 (by decide) (by decide) rfl qf_RX1_35 dX1_placeOf_16 rfl ?_
      refine v_iload_n 1 rfl dX1_placeOf_19 rfl ?_
      refine v_icmp_ne 25 dX1_placeOf_20 (by decide) rfl (fun c20 => ?_) (fun c20 => ?_)
      · have h := o_n c20 h
        refine v_iinc (v := (x2 + 1)) [(2, .int (x2 + 1)), (0, .ref x0), (1, .int x1)] 2 rfl rfl dX1_placeOf_25 rfl (by decide) rfl ?_
        refine v_goto (q := 2) dX1_placeOf_28 (by decide) ?_
        refine v_sub [1, 2, 0] rfl ?_
        exact ih h
      · have h := o_p c20 h
        refine v_iload_n 2 rfl dX1_placeOf_23 rfl ?_
        obtain rfl := Option.some.inj h
        exact v_iret rfl rfl (Nat.le_of_ble_eq_true rfl) (Nat.le_of_ble_eq_true rfl) dX1_placeOf_24
set_option maxRecDepth 100000 in
set_option maxHeartbeats 4000000 in
theorem k_X1_placeOf {G : Gm} {μ : Mu} {o : Int64} {r : Int32} {σ : Hp} {a0 : Nat} {a1 : Int32} (h : f_X1_placeOf σ a0 a1 = some r) : Ci G yX1_placeOf cX1_placeOf 3 (some .int) rm_X1_placeOf [.ref a0, .int a1] (σ, μ, o) r (σ, μ, o) 0 0 := by
  refine v_entI [(0, .ref a0), (1, .int a1)] (by decide +kernel) (Nat.le_of_ble_eq_true rfl) rfl ?_
  unfold f_X1_placeOf at h
  refine v_iconst (v := (0 : Int32)) (by decide) dX1_placeOf_0 rfl ?_
  refine v_istore_n [(2, .int (0 : Int32)), (0, .ref a0), (1, .int a1)] dX1_placeOf_1 rfl (by decide) rfl ?_
  refine v_sub [1, 2, 0] rfl ?_
  exact l_X1_placeOf_2 _ h
def rm_X1_takeOut : Room := { frames := 0, cells := 0, slots := 0, locals := 0 }
set_option maxRecDepth 100000 in
set_option maxHeartbeats 4000000 in
theorem l_X1_takeOut_47 {G : Gm} {μ : Mu} {o : Int64} {r : Nat} {σ' : Hp} {σ : Hp} {x0 : Nat} {x2 : Nat} (h : f_X1_takeOut_47 σ x0 x2 = some (r, σ')) : V G yX1_takeOut cX1_takeOut 4 (some (.object "OrderedTable$Message")) rm_X1_takeOut (zR G r (σ', μ, o) 0 0) (σ, μ, o) 0 0 47 [(0, .ref x0), (2, .ref x2)] [] := by
  unfold f_X1_takeOut_47 at h
  refine v_aload_n 0 rfl dX1_takeOut_47 rfl ?_
  obtain ⟨v48, e48, h⟩ := o_b h
  refine v_getR e48 (by decide) (by decide) rfl qf_RX1_11 dX1_takeOut_48 rfl ?_
  refine v_aload_n 0 rfl dX1_takeOut_51 rfl ?_
  obtain ⟨v52, e52, h⟩ := o_b h
  refine v_getI e52 (by decide) (by decide) rfl qf_RX1_25 dX1_takeOut_52 rfl ?_
  refine v_aload_n 0 rfl dX1_takeOut_55 rfl ?_
  obtain ⟨v56, e56, h⟩ := o_b h
  refine v_getR e56 (by decide) (by decide) rfl qf_RX1_18 dX1_takeOut_56 rfl ?_
  obtain ⟨s59, e59, h⟩ := o_b h
  refine v_qR e59 (by decide) (by decide) (by decide) rfl dX1_takeOut_59 rfl ?_
  refine v_aload_n 0 rfl dX1_takeOut_60 rfl ?_
  refine v_aload_n 1 rfl dX1_takeOut_61 rfl ?_
  obtain ⟨s62, e62, h⟩ := o_b h
  refine v_putR e62 (by decide) (by decide) rfl rfl qf_RX1_18 dX1_takeOut_62 rfl ?_
  refine v_aload_n 1 rfl dX1_takeOut_65 rfl ?_
  obtain ⟨rfl, rfl⟩ := o_s h
  exact v_aret rfl (Nat.le_of_ble_eq_true rfl) (Nat.le_of_ble_eq_true rfl) dX1_takeOut_66
set_option maxRecDepth 100000 in
set_option maxHeartbeats 4000000 in
theorem l_X1_takeOut_19 {G : Gm} {μ : Mu} {o : Int64} {r : Nat} {σ' : Hp} : ∀ (n : Nat) {σ : Hp} {x0 : Nat} {x2 : Nat} {x3 : Int32} , f_X1_takeOut_19 n σ x0 x2 x3 = some (r, σ') → V G yX1_takeOut cX1_takeOut 4 (some (.object "OrderedTable$Message")) rm_X1_takeOut (zR G r (σ', μ, o) 0 0) (σ, μ, o) 0 0 19 [(0, .ref x0), (2, .ref x2), (3, .int x3)] [] := by
  intro n
  induction n with
  | zero => intro _ _ _ _ h; cases h
  | succ n ih =>
    intro σ x0 x2 x3 h
    replace h : b_X1_takeOut_19 (f_X1_takeOut_19 n) σ x0 x2 x3 = some (r, σ') := h
    unfold b_X1_takeOut_19 at h
    refine v_iload_n 2 rfl dX1_takeOut_19 rfl ?_
    refine v_aload_n 0 rfl dX1_takeOut_20 rfl ?_
    obtain ⟨v21, e21, h⟩ := o_b h
    refine v_getI e21 (by decide) (by decide) rfl qf_RX1_25 dX1_takeOut_21 rfl ?_
    refine v_icmp_ge 47 dX1_takeOut_24 (by decide) rfl (fun c24 => ?_) (fun c24 => ?_)
    · have h := o_p c24 h
      refine v_sub [0, 1] rfl ?_
      exact l_X1_takeOut_47 h
    · have h := o_n c24 h
      refine v_aload_n 0 rfl dX1_takeOut_27 rfl ?_
      obtain ⟨v28, e28, h⟩ := o_b h
      refine v_getR e28 (by decide) (by decide) rfl qf_RX1_11 dX1_takeOut_28 rfl ?_
      refine v_iload_n 2 rfl dX1_takeOut_31 rfl ?_
      refine v_aload_n 0 rfl dX1_takeOut_32 rfl ?_
      obtain ⟨v33, e33, h⟩ := o_b h
      refine v_getR e33 (by decide) (by decide) rfl qf_RX1_11 dX1_takeOut_33 rfl ?_
      refine v_iload_n 2 rfl dX1_takeOut_36 rfl ?_
      refine v_iconst (v := (1 : Int32)) (by decide) dX1_takeOut_37 rfl ?_
      refine v_iadd dX1_takeOut_38 rfl ?_
      obtain ⟨v39, e39, h⟩ := o_b h
      refine v_aR e39 (by decide) (by decide) rfl dX1_takeOut_39 rfl ?_
      obtain ⟨s40, e40, h⟩ := o_b h
      refine v_qR e40 (by decide) (by decide) (by decide) rfl dX1_takeOut_40 rfl ?_
      refine v_iinc (v := (x3 + 1)) [(3, .int (x3 + 1)), (0, .ref x0), (2, .ref x2)] 2 rfl rfl dX1_takeOut_41 rfl (by decide) rfl ?_
      refine v_goto (q := 19) dX1_takeOut_44 (by decide) ?_
      refine v_sub [1, 2, 0] rfl ?_
      exact ih h
set_option maxRecDepth 100000 in
set_option maxHeartbeats 4000000 in
theorem k_X1_takeOut {G : Gm} {μ : Mu} {o : Int64} {r : Nat} {σ' : Hp} {σ : Hp} {a0 : Nat} {a1 : Int32} (h : f_X1_takeOut σ a0 a1 = some (r, σ')) : Cr G yX1_takeOut cX1_takeOut 4 (some (.object "OrderedTable$Message")) rm_X1_takeOut [.ref a0, .int a1] (σ, μ, o) r (σ', μ, o) 0 0 := by
  refine v_entR [(0, .ref a0), (1, .int a1)] (by decide +kernel) (Nat.le_of_ble_eq_true rfl) rfl ?_
  unfold f_X1_takeOut at h
  refine v_aload_n 0 rfl dX1_takeOut_0 rfl ?_
  obtain ⟨v1, e1, h⟩ := o_b h
  refine v_getR e1 (by decide) (by decide) rfl qf_RX1_11 dX1_takeOut_1 rfl ?_
  refine v_iload_n 1 rfl dX1_takeOut_4 rfl ?_
  obtain ⟨v5, e5, h⟩ := o_b h
  refine v_aR e5 (by decide) (by decide) rfl dX1_takeOut_5 rfl ?_
  refine v_astore_n [(2, .ref v5), (0, .ref a0), (1, .int a1)] dX1_takeOut_6 rfl (by decide) rfl ?_
  refine v_aload_n 1 rfl dX1_takeOut_7 rfl ?_
  refine v_dup rfl dX1_takeOut_8 rfl ?_
  obtain ⟨v9, e9, h⟩ := o_b h
  refine v_getI e9 (by decide) (by decide) rfl qf_RX1_25 dX1_takeOut_9 rfl ?_
  refine v_iconst (v := (1 : Int32)) (by decide) dX1_takeOut_12 rfl ?_
  refine v_isub dX1_takeOut_13 rfl ?_
  obtain ⟨s14, e14, h⟩ := o_b h
  refine v_putI e14 (by decide) (by decide) rfl rfl rfl rfl rfl qf_RX1_25 dX1_takeOut_14 rfl ?_
  refine v_iload_n 2 rfl dX1_takeOut_17 rfl ?_
  refine v_istore_n [(3, .int a1), (2, .ref v5), (0, .ref a0), (1, .int a1)] dX1_takeOut_18 rfl (by decide) rfl ?_
  refine v_sub [2, 1, 0] rfl ?_
  exact l_X1_takeOut_19 _ h
def rm_X2_ask : Room := { frames := 0, cells := 0, slots := 0, locals := 0 }
set_option maxRecDepth 100000 in
set_option maxHeartbeats 4000000 in
theorem k_X2_ask {G : Gm} {μ : Mu} {o : Int64} {σ' : Hp} {σ : Hp} {a0 : Nat} {a1 : Int32} (h : f_X2_ask σ a0 a1 = some σ') : Cv G yX2_ask cX2_ask 2 none rm_X2_ask [.ref a0, .int a1] (σ, μ, o) (σ', μ, o) 0 0 := by
  refine v_entV [(0, .ref a0), (1, .int a1)] (by decide +kernel) (Nat.le_of_ble_eq_true rfl) rfl ?_
  unfold f_X2_ask at h
  refine v_aload_n 0 rfl dX2_ask_0 rfl ?_
  refine v_dup rfl dX2_ask_1 rfl ?_
  obtain ⟨v2, e2, h⟩ := o_b h
  refine v_getI e2 (by decide) (by decide) rfl qf_RX2_37 dX2_ask_2 rfl ?_
  refine v_iconst (v := (1 : Int32)) (by decide) dX2_ask_5 rfl ?_
  refine v_iadd dX2_ask_6 rfl ?_
  obtain ⟨s7, e7, h⟩ := o_b h
  refine v_putI e7 (by decide) (by decide) rfl rfl rfl rfl rfl qf_RX2_37 dX2_ask_7 rfl ?_
  refine v_aload_n 0 rfl dX2_ask_10 rfl ?_
  refine v_iload_n 1 rfl dX2_ask_11 rfl ?_
  obtain ⟨s12, e12, h⟩ := o_b h
  refine v_putI e12 (by decide) (by decide) rfl rfl rfl rfl rfl qf_RX2_9 dX2_ask_12 rfl ?_
  refine v_aload_n 0 rfl dX2_ask_15 rfl ?_
  refine v_iconst (v := (1 : Int32)) (by decide) dX2_ask_16 rfl ?_
  obtain ⟨s17, e17, h⟩ := o_b h
  refine v_putI e17 (by decide) (by decide) rfl rfl rfl rfl rfl qf_RX2_15 dX2_ask_17 rfl ?_
  refine v_aload_n 0 rfl dX2_ask_20 rfl ?_
  refine v_iconst (v := (0 : Int32)) (by decide) dX2_ask_21 rfl ?_
  obtain ⟨s22, e22, h⟩ := o_b h
  refine v_putI e22 (by decide) (by decide) rfl rfl rfl rfl rfl qf_RX2_40 dX2_ask_22 rfl ?_
  refine v_aload_n 0 rfl dX2_ask_25 rfl ?_
  refine v_iconst (v := (0 : Int32)) (by decide) dX2_ask_26 rfl ?_
  obtain ⟨s27, e27, h⟩ := o_b h
  refine v_putI e27 (by decide) (by decide) rfl rfl rfl rfl rfl qf_RX2_43 dX2_ask_27 rfl ?_
  obtain rfl := Option.some.inj h
  exact v_vret rfl (Nat.le_of_ble_eq_true rfl) (Nat.le_of_ble_eq_true rfl) dX2_ask_30
def rm_X2_placeOf : Room := { frames := 1, cells := 0, slots := 0, locals := 21 }
set_option maxRecDepth 100000 in
set_option maxHeartbeats 4000000 in
theorem l_X2_placeOf_41 {G : Gm} {μ : Mu} {o : Int64} {r : Int32} {σ' : Hp} {σ : Hp} {x0 : Nat} {x1 : Nat} {x2 : Int32} (h : f_X2_placeOf_41 σ x0 x1 x2 = some (r, σ')) : V G yX2_placeOf cX2_placeOf 4 (some .int) rm_X2_placeOf (zI G r (σ', μ, o) 0 0) (σ, μ, o) 0 0 41 [(0, .ref x0), (1, .ref x1), (2, .int x2)] [] := by
  unfold f_X2_placeOf_41 at h
  refine v_aload_n 0 rfl dX2_placeOf_41 rfl ?_
  obtain ⟨v42, e42, h⟩ := o_b h
  refine v_getI e42 (by decide) (by decide) rfl qf_RX2_43 dX2_placeOf_42 rfl ?_
  refine v_istore_n [(3, .int v42), (0, .ref x0), (1, .ref x1), (2, .int x2)] dX2_placeOf_45 rfl (by decide) rfl ?_
  refine v_aload_n 1 rfl dX2_placeOf_46 rfl ?_
  refine v_aload_n 1 rfl dX2_placeOf_47 rfl ?_
  obtain ⟨v48, e48, h⟩ := o_b h
  refine v_getI e48 (by decide) (by decide) rfl qf_RX2_43 dX2_placeOf_48 rfl ?_
  refine v_iconst (v := (1 : Int32)) (by decide) dX2_placeOf_51 rfl ?_
  refine v_iadd dX2_placeOf_52 rfl ?_
  refine v_bipush (v := (64 : Int32)) (by decide) dX2_placeOf_53 rfl ?_
  refine v_irem (by decide) dX2_placeOf_55 rfl ?_
  obtain ⟨s56, e56, h⟩ := o_b h
  refine v_putI e56 (by decide) (by decide) rfl rfl rfl rfl rfl qf_RX2_43 dX2_placeOf_56 rfl ?_
  refine v_aload_n 1 rfl dX2_placeOf_59 rfl ?_
  refine v_aload_n 1 rfl dX2_placeOf_60 rfl ?_
  obtain ⟨v61, e61, h⟩ := o_b h
  refine v_getI e61 (by decide) (by decide) rfl qf_RX2_40 dX2_placeOf_61 rfl ?_
  refine v_iconst (v := (1 : Int32)) (by decide) dX2_placeOf_64 rfl ?_
  refine v_iadd dX2_placeOf_65 rfl ?_
  refine v_bipush (v := (64 : Int32)) (by decide) dX2_placeOf_66 rfl ?_
  obtain ⟨v68, e68, h⟩ := o_b h
  refine v_Si (as := [.int (v61 + (1 : Int32)), .int (64 : Int32)]) (st := [.ref x0]) (c' := 0) (k' := 0) (k_J9_min_7cf53 e68) mk_J9_min_7cf53 qs_J9_min_7cf53 qm_RX2_88 (ck rfl) rfl dX2_placeOf_68 rfl rfl rfl ?_
  obtain ⟨s71, e71, h⟩ := o_b h
  refine v_putI e71 (by decide) (by decide) rfl rfl rfl rfl rfl qf_RX2_40 dX2_placeOf_71 rfl ?_
  refine v_aload_n 1 rfl dX2_placeOf_74 rfl ?_
  obtain ⟨v75, e75, h⟩ := o_b h
  refine v_getR e75 (by decide) (by decide) rfl qf_RX2_20 dX2_placeOf_75 rfl ?_
  refine v_iload_n 0 rfl dX2_placeOf_78 rfl ?_
  refine v_aload_n 2 rfl dX2_placeOf_79 rfl ?_
  obtain ⟨s80, e80, h⟩ := o_b h
  refine v_qR e80 (by decide) (by decide) (by decide) rfl dX2_placeOf_80 rfl ?_
  refine v_aload_n 1 rfl dX2_placeOf_81 rfl ?_
  obtain ⟨v82, e82, h⟩ := o_b h
  refine v_getR e82 (by decide) (by decide) rfl qf_RX2_24 dX2_placeOf_82 rfl ?_
  refine v_iload_n 0 rfl dX2_placeOf_85 rfl ?_
  refine v_iload_n 3 rfl dX2_placeOf_86 rfl ?_
  obtain ⟨s87, e87, h⟩ := o_b h
  refine v_qI e87 dX2_placeOf_87 rfl ?_
  refine v_aload_n 1 rfl dX2_placeOf_88 rfl ?_
  obtain ⟨v89, e89, h⟩ := o_b h
  refine v_getR e89 (by decide) (by decide) rfl qf_RX2_28 dX2_placeOf_89 rfl ?_
  refine v_iload_n 0 rfl dX2_placeOf_92 rfl ?_
  refine v_iconst (v := (0 : Int32)) (by decide) dX2_placeOf_93 rfl ?_
  obtain ⟨s94, e94, h⟩ := o_b h
  refine v_qI e94 dX2_placeOf_94 rfl ?_
  refine v_aload_n 1 rfl dX2_placeOf_95 rfl ?_
  obtain ⟨v96, e96, h⟩ := o_b h
  refine v_getR e96 (by decide) (by decide) rfl qf_RX2_31 dX2_placeOf_96 rfl ?_
  refine v_iload_n 0 rfl dX2_placeOf_99 rfl ?_
  refine v_iconst (v := (0 : Int32)) (by decide) dX2_placeOf_100 rfl ?_
  obtain ⟨s101, e101, h⟩ := o_b h
  refine v_qI e101 dX2_placeOf_101 rfl ?_
  refine v_iload_n 0 rfl dX2_placeOf_102 rfl ?_
  obtain ⟨rfl, rfl⟩ := o_s h
  exact v_iret rfl rfl (Nat.le_of_ble_eq_true rfl) (Nat.le_of_ble_eq_true rfl) dX2_placeOf_103
set_option maxRecDepth 100000 in
set_option maxHeartbeats 4000000 in
theorem l_X2_placeOf_35 {G : Gm} {μ : Mu} {o : Int64} {r : Int32} {σ' : Hp} {rec2 : Hp → Nat → Nat → Int32 → Int32 → Option (Int32 × Hp)} (h2 : ∀ {σ : Hp} {x0 : Nat} {x1 : Nat} {x2 : Int32} {x3 : Int32} , rec2 σ x0 x1 x2 x3 = some (r, σ') → V G yX2_placeOf cX2_placeOf 4 (some .int) rm_X2_placeOf (zI G r (σ', μ, o) 0 0) (σ, μ, o) 0 0 2 [(0, .ref x0), (1, .ref x1), (2, .int x2), (3, .int x3)] []) {σ : Hp} {x0 : Nat} {x1 : Nat} {x2 : Int32} {x3 : Int32} (h : f_X2_placeOf_35 rec2 σ x0 x1 x2 x3 = some (r, σ')) : V G yX2_placeOf cX2_placeOf 4 (some .int) rm_X2_placeOf (zI G r (σ', μ, o) 0 0) (σ, μ, o) 0 0 35 [(0, .ref x0), (1, .ref x1), (2, .int x2), (3, .int x3)] [] := by
  unfold f_X2_placeOf_35 at h
  refine v_iinc (v := (x3 + 1)) [(3, .int (x3 + 1)), (0, .ref x0), (1, .ref x1), (2, .int x2)] 3 rfl rfl dX2_placeOf_35 rfl (by decide) rfl ?_
  refine v_goto (q := 2) dX2_placeOf_38 (by decide) ?_
  refine v_sub [1, 2, 3, 0] rfl ?_
  exact h2 h
set_option maxRecDepth 100000 in
set_option maxHeartbeats 4000000 in
theorem l_X2_placeOf_2 {G : Gm} {μ : Mu} {o : Int64} {r : Int32} {σ' : Hp} : ∀ (n : Nat) {σ : Hp} {x0 : Nat} {x1 : Nat} {x2 : Int32} {x3 : Int32} , f_X2_placeOf_2 n σ x0 x1 x2 x3 = some (r, σ') → V G yX2_placeOf cX2_placeOf 4 (some .int) rm_X2_placeOf (zI G r (σ', μ, o) 0 0) (σ, μ, o) 0 0 2 [(0, .ref x0), (1, .ref x1), (2, .int x2), (3, .int x3)] [] := by
  intro n
  induction n with
  | zero => intro _ _ _ _ _ h; cases h
  | succ n ih =>
    intro σ x0 x1 x2 x3 h
    replace h : b_X2_placeOf_2 (f_X2_placeOf_2 n) σ x0 x1 x2 x3 = some (r, σ') := h
    unfold b_X2_placeOf_2 at h
    refine v_iload_n 3 rfl dX2_placeOf_2 rfl ?_
    refine v_aload_n 0 rfl dX2_placeOf_3 rfl ?_
    obtain ⟨v4, e4, h⟩ := o_b h
    refine v_getI e4 (by decide) (by decide) rfl qf_RX2_40 dX2_placeOf_4 rfl ?_
    refine v_icmp_ge 41 dX2_placeOf_7 (by decide) rfl (fun c7 => ?_) (fun c7 => ?_)
    · have h := o_p c7 h
      refine v_sub [0, 1, 2] rfl ?_
      exact l_X2_placeOf_41 h
    · have h := o_n c7 h
      refine v_aload_n 0 rfl dX2_placeOf_10 rfl ?_
      obtain ⟨v11, e11, h⟩ := o_b h
      refine v_getR e11 (by decide) (by decide) rfl qf_RX2_24 dX2_placeOf_11 rfl ?_
      refine v_iload_n 3 rfl dX2_placeOf_14 rfl ?_
      obtain ⟨v15, e15, h⟩ := o_b h
      refine v_aI e15 dX2_placeOf_15 rfl ?_
      refine v_iload_n 2 rfl dX2_placeOf_16 rfl ?_
      refine v_icmp_ne 35 dX2_placeOf_17 (by decide) rfl (fun c17 => ?_) (fun c17 => ?_)
      · have h := o_n c17 h
        exact l_X2_placeOf_35 (fun h => ih h) h
      · have h := o_p c17 h
        refine v_aload_n 0 rfl dX2_placeOf_20 rfl ?_
        obtain ⟨v21, e21, h⟩ := o_b h
        refine v_getR e21 (by decide) (by decide) rfl qf_RX2_20 dX2_placeOf_21 rfl ?_
        refine v_iload_n 3 rfl dX2_placeOf_24 rfl ?_
        obtain ⟨v25, e25, h⟩ := o_b h
        refine v_aR e25 (by decide) (by decide) rfl dX2_placeOf_25 rfl ?_
        refine v_aload_n 1 rfl dX2_placeOf_26 rfl ?_
        obtain ⟨⟨⟩, g27, h⟩ := o_b h
        obtain ⟨v27, e27, h⟩ := o_b h
        refine v_Vi (as := [.ref x1]) (st := []) (c' := 0) (k' := 0) (k_X9_isSame e27) (rcv_c g27 (by decide) rfl) mk_X9_isSame qi_X9_isSame qe_X9_isSame qm_RX2_84 (ck rfl) rfl dX2_placeOf_27 rfl rfl rfl ?_
        refine v_if_eq 35 dX2_placeOf_30 (by decide) rfl (fun c30 => ?_) (fun c30 => ?_)
        · have h := o_p c30 h
          exact l_X2_placeOf_35 (fun h => ih h) h
        · have h := o_n c30 h
          refine v_iload_n 3 rfl dX2_placeOf_33 rfl ?_
          obtain ⟨rfl, rfl⟩ := o_s h
          exact v_iret rfl rfl (Nat.le_of_ble_eq_true rfl) (Nat.le_of_ble_eq_true rfl) dX2_placeOf_34
set_option maxRecDepth 100000 in
set_option maxHeartbeats 4000000 in
theorem k_X2_placeOf {G : Gm} {μ : Mu} {o : Int64} {r : Int32} {σ' : Hp} {σ : Hp} {a0 : Nat} {a1 : Nat} {a2 : Int32} (h : f_X2_placeOf σ a0 a1 a2 = some (r, σ')) : Ci G yX2_placeOf cX2_placeOf 4 (some .int) rm_X2_placeOf [.ref a0, .ref a1, .int a2] (σ, μ, o) r (σ', μ, o) 0 0 := by
  refine v_entI [(0, .ref a0), (1, .ref a1), (2, .int a2)] (by decide +kernel) (Nat.le_of_ble_eq_true rfl) rfl ?_
  unfold f_X2_placeOf at h
  refine v_iconst (v := (0 : Int32)) (by decide) dX2_placeOf_0 rfl ?_
  refine v_istore_n [(3, .int (0 : Int32)), (0, .ref a0), (1, .ref a1), (2, .int a2)] dX2_placeOf_1 rfl (by decide) rfl ?_
  refine v_sub [1, 2, 3, 0] rfl ?_
  exact l_X2_placeOf_2 _ h
def rm_J9_floorMod_7cf53 : Room := { frames := 0, cells := 0, slots := 0, locals := 0 }
set_option maxRecDepth 100000 in
set_option maxHeartbeats 4000000 in
theorem k_J9_floorMod_7cf53 {G : Gm} {w : Wt} {r : Int32} {a0 : Int32} {a1 : Int32} (h : f_J9_floorMod_7cf53 a0 a1 = some r) : Ci G yJ9_floorMod_7cf53 cJ9_floorMod_7cf53 3 (some .int) rm_J9_floorMod_7cf53 [.int a0, .int a1] w r w 0 0 := by
  refine v_entI [(0, .int a0), (1, .int a1)] (by decide +kernel) (Nat.le_of_ble_eq_true rfl) rfl ?_
  unfold f_J9_floorMod_7cf53 at h
  refine v_iload_n 0 rfl dJ9_floorMod_7cf53_0 rfl ?_
  refine v_iload_n 1 rfl dJ9_floorMod_7cf53_1 rfl ?_
  obtain ⟨⟨⟩, e2, h⟩ := o_b h
  refine v_irem (nz_of e2) dJ9_floorMod_7cf53_2 rfl ?_
  refine v_istore_n [(2, .int (a0 - a0 / a1 * a1)), (0, .int a0), (1, .int a1)] dJ9_floorMod_7cf53_3 rfl (by decide) rfl ?_
  refine v_iload_n 1 rfl dJ9_floorMod_7cf53_4 rfl ?_
  refine v_iload_n 2 rfl dJ9_floorMod_7cf53_5 rfl ?_
  refine v_ixor dJ9_floorMod_7cf53_6 rfl ?_
  refine v_if_ge 18 dJ9_floorMod_7cf53_7 (by decide) rfl (fun c7 => ?_) (fun c7 => ?_)
  · have h := o_p c7 h
    refine v_iload_n 0 rfl dJ9_floorMod_7cf53_18 rfl ?_
    obtain rfl := Option.some.inj h
    exact v_iret rfl rfl (Nat.le_of_ble_eq_true rfl) (Nat.le_of_ble_eq_true rfl) dJ9_floorMod_7cf53_19
  · have h := o_n c7 h
    refine v_iload_n 0 rfl dJ9_floorMod_7cf53_10 rfl ?_
    refine v_if_eq 18 dJ9_floorMod_7cf53_11 (by decide) rfl (fun c11 => ?_) (fun c11 => ?_)
    · have h := o_p c11 h
      refine v_iload_n 0 rfl dJ9_floorMod_7cf53_18 rfl ?_
      obtain rfl := Option.some.inj h
      exact v_iret rfl rfl (Nat.le_of_ble_eq_true rfl) (Nat.le_of_ble_eq_true rfl) dJ9_floorMod_7cf53_19
    · have h := o_n c11 h
      refine v_iload_n 0 rfl dJ9_floorMod_7cf53_14 rfl ?_
      refine v_iload_n 2 rfl dJ9_floorMod_7cf53_15 rfl ?_
      refine v_iadd dJ9_floorMod_7cf53_16 rfl ?_
      obtain rfl := Option.some.inj h
      exact v_iret rfl rfl (Nat.le_of_ble_eq_true rfl) (Nat.le_of_ble_eq_true rfl) dJ9_floorMod_7cf53_17
def rm_X9_leader : Room := { frames := 1, cells := 0, slots := 0, locals := 22 }
set_option maxRecDepth 100000 in
set_option maxHeartbeats 4000000 in
theorem k_X9_leader {G : Gm} {μ : Mu} {o : Int64} {r : Int32} {σ : Hp} {a0 : Nat} {a1 : Int32} (h : f_X9_leader σ a0 a1 = some r) : Ci G yX9_leader cX9_leader 2 (some .int) rm_X9_leader [.ref a0, .int a1] (σ, μ, o) r (σ, μ, o) 0 0 := by
  refine v_entI [(0, .ref a0), (1, .int a1)] (by decide +kernel) (Nat.le_of_ble_eq_true rfl) rfl ?_
  unfold f_X9_leader at h
  refine v_aload_n 0 rfl dX9_leader_0 rfl ?_
  obtain ⟨v1, e1, h⟩ := o_b h
  refine v_getI e1 (by decide) (by decide) rfl qf_RX9_7 dX9_leader_1 rfl ?_
  refine v_iload_n 1 rfl dX9_leader_4 rfl ?_
  obtain ⟨v5, e5, h⟩ := o_b h
  refine v_Si (as := [.int v1, .int a1]) (st := []) (c' := 0) (k' := 0) (k_J9_floorMod_7cf53 e5) mk_J9_floorMod_7cf53 qs_J9_floorMod_7cf53 qm_RX9_29 (ck rfl) rfl dX9_leader_5 rfl rfl rfl ?_
  obtain rfl := Option.some.inj h
  exact v_iret rfl rfl (Nat.le_of_ble_eq_true rfl) (Nat.le_of_ble_eq_true rfl) dX9_leader_8
def rm_J6_bitCount_0f7a4 : Room := { frames := 0, cells := 0, slots := 0, locals := 0 }
set_option maxRecDepth 100000 in
set_option maxHeartbeats 4000000 in
theorem k_J6_bitCount_0f7a4 {G : Gm} {w : Wt} {r : Int32} {a0 : Int32} (h : f_J6_bitCount_0f7a4 a0 = some r) : Ci G yJ6_bitCount_0f7a4 cJ6_bitCount_0f7a4 1 (some .int) rm_J6_bitCount_0f7a4 [.int a0] w r w 0 0 := by
  refine v_entI [(0, .int a0)] (by decide +kernel) (Nat.le_of_ble_eq_true rfl) rfl ?_
  unfold f_J6_bitCount_0f7a4 at h
  refine v_iload_n 0 rfl dJ6_bitCount_0f7a4_0 rfl ?_
  refine v_iload_n 0 rfl dJ6_bitCount_0f7a4_1 rfl ?_
  refine v_iconst (v := (1 : Int32)) (by decide) dJ6_bitCount_0f7a4_2 rfl ?_
  refine v_iushr dJ6_bitCount_0f7a4_3 rfl ?_
  refine v_ldcw (v := (1431655765 : Int32)) qk_RJ6_265 dJ6_bitCount_0f7a4_4 rfl ?_
  refine v_iand dJ6_bitCount_0f7a4_7 rfl ?_
  refine v_isub dJ6_bitCount_0f7a4_8 rfl ?_
  refine v_istore_n [(0, .int (a0 - (((a0.toUInt32 >>> ((1 : Int32).toUInt32 &&& Int32.toUInt32 31)).toInt32) &&& (1431655765 : Int32))))] dJ6_bitCount_0f7a4_9 rfl (by decide) rfl ?_
  refine v_iload_n 0 rfl dJ6_bitCount_0f7a4_10 rfl ?_
  refine v_ldcw (v := (858993459 : Int32)) qk_RJ6_266 dJ6_bitCount_0f7a4_11 rfl ?_
  refine v_iand dJ6_bitCount_0f7a4_14 rfl ?_
  refine v_iload_n 0 rfl dJ6_bitCount_0f7a4_15 rfl ?_
  refine v_iconst (v := (2 : Int32)) (by decide) dJ6_bitCount_0f7a4_16 rfl ?_
  refine v_iushr dJ6_bitCount_0f7a4_17 rfl ?_
  refine v_ldcw (v := (858993459 : Int32)) qk_RJ6_266 dJ6_bitCount_0f7a4_18 rfl ?_
  refine v_iand dJ6_bitCount_0f7a4_21 rfl ?_
  refine v_iadd dJ6_bitCount_0f7a4_22 rfl ?_
  refine v_istore_n [(0, .int (((a0 - (((a0.toUInt32 >>> ((1 : Int32).toUInt32 &&& Int32.toUInt32 31)).toInt32) &&& (1431655765 : Int32))) &&& (858993459 : Int32)) + ((((a0 - (((a0.toUInt32 >>> ((1 : Int32).toUInt32 &&& Int32.toUInt32 31)).toInt32) &&& (1431655765 : Int32))).toUInt32 >>> ((2 : Int32).toUInt32 &&& Int32.toUInt32 31)).toInt32) &&& (858993459 : Int32))))] dJ6_bitCount_0f7a4_23 rfl (by decide) rfl ?_
  refine v_iload_n 0 rfl dJ6_bitCount_0f7a4_24 rfl ?_
  refine v_iload_n 0 rfl dJ6_bitCount_0f7a4_25 rfl ?_
  refine v_iconst (v := (4 : Int32)) (by decide) dJ6_bitCount_0f7a4_26 rfl ?_
  refine v_iushr dJ6_bitCount_0f7a4_27 rfl ?_
  refine v_iadd dJ6_bitCount_0f7a4_28 rfl ?_
  refine v_ldcw (v := (252645135 : Int32)) qk_RJ6_267 dJ6_bitCount_0f7a4_29 rfl ?_
  refine v_iand dJ6_bitCount_0f7a4_32 rfl ?_
  refine v_istore_n [(0, .int (((((a0 - (((a0.toUInt32 >>> ((1 : Int32).toUInt32 &&& Int32.toUInt32 31)).toInt32) &&& (1431655765 : Int32))) &&& (858993459 : Int32)) + ((((a0 - (((a0.toUInt32 >>> ((1 : Int32).toUInt32 &&& Int32.toUInt32 31)).toInt32) &&& (1431655765 : Int32))).toUInt32 >>> ((2 : Int32).toUInt32 &&& Int32.toUInt32 31)).toInt32) &&& (858993459 : Int32))) + (((((a0 - (((a0.toUInt32 >>> ((1 : Int32).toUInt32 &&& Int32.toUInt32 31)).toInt32) &&& (1431655765 : Int32))) &&& (858993459 : Int32)) + ((((a0 - (((a0.toUInt32 >>> ((1 : Int32).toUInt32 &&& Int32.toUInt32 31)).toInt32) &&& (1431655765 : Int32))).toUInt32 >>> ((2 : Int32).toUInt32 &&& Int32.toUInt32 31)).toInt32) &&& (858993459 : Int32))).toUInt32 >>> ((4 : Int32).toUInt32 &&& Int32.toUInt32 31)).toInt32)) &&& (252645135 : Int32)))] dJ6_bitCount_0f7a4_33 rfl (by decide) rfl ?_
  refine v_iload_n 0 rfl dJ6_bitCount_0f7a4_34 rfl ?_
  refine v_iload_n 0 rfl dJ6_bitCount_0f7a4_35 rfl ?_
  refine v_bipush (v := (8 : Int32)) (by decide) dJ6_bitCount_0f7a4_36 rfl ?_
  refine v_iushr dJ6_bitCount_0f7a4_38 rfl ?_
  refine v_iadd dJ6_bitCount_0f7a4_39 rfl ?_
  refine v_istore_n [(0, .int ((((((a0 - (((a0.toUInt32 >>> ((1 : Int32).toUInt32 &&& Int32.toUInt32 31)).toInt32) &&& (1431655765 : Int32))) &&& (858993459 : Int32)) + ((((a0 - (((a0.toUInt32 >>> ((1 : Int32).toUInt32 &&& Int32.toUInt32 31)).toInt32) &&& (1431655765 : Int32))).toUInt32 >>> ((2 : Int32).toUInt32 &&& Int32.toUInt32 31)).toInt32) &&& (858993459 : Int32))) + (((((a0 - (((a0.toUInt32 >>> ((1 : Int32).toUInt32 &&& Int32.toUInt32 31)).toInt32) &&& (1431655765 : Int32))) &&& (858993459 : Int32)) + ((((a0 - (((a0.toUInt32 >>> ((1 : Int32).toUInt32 &&& Int32.toUInt32 31)).toInt32) &&& (1431655765 : Int32))).toUInt32 >>> ((2 : Int32).toUInt32 &&& Int32.toUInt32 31)).toInt32) &&& (858993459 : Int32))).toUInt32 >>> ((4 : Int32).toUInt32 &&& Int32.toUInt32 31)).toInt32)) &&& (252645135 : Int32)) + (((((((a0 - (((a0.toUInt32 >>> ((1 : Int32).toUInt32 &&& Int32.toUInt32 31)).toInt32) &&& (1431655765 : Int32))) &&& (858993459 : Int32)) + ((((a0 - (((a0.toUInt32 >>> ((1 : Int32).toUInt32 &&& Int32.toUInt32 31)).toInt32) &&& (1431655765 : Int32))).toUInt32 >>> ((2 : Int32).toUInt32 &&& Int32.toUInt32 31)).toInt32) &&& (858993459 : Int32))) + (((((a0 - (((a0.toUInt32 >>> ((1 : Int32).toUInt32 &&& Int32.toUInt32 31)).toInt32) &&& (1431655765 : Int32))) &&& (858993459 : Int32)) + ((((a0 - (((a0.toUInt32 >>> ((1 : Int32).toUInt32 &&& Int32.toUInt32 31)).toInt32) &&& (1431655765 : Int32))).toUInt32 >>> ((2 : Int32).toUInt32 &&& Int32.toUInt32 31)).toInt32) &&& (858993459 : Int32))).toUInt32 >>> ((4 : Int32).toUInt32 &&& Int32.toUInt32 31)).toInt32)) &&& (252645135 : Int32)).toUInt32 >>> ((8 : Int32).toUInt32 &&& Int32.toUInt32 31)).toInt32)))] dJ6_bitCount_0f7a4_40 rfl (by decide) rfl ?_
  refine v_iload_n 0 rfl dJ6_bitCount_0f7a4_41 rfl ?_
  refine v_iload_n 0 rfl dJ6_bitCount_0f7a4_42 rfl ?_
  refine v_bipush (v := (16 : Int32)) (by decide) dJ6_bitCount_0f7a4_43 rfl ?_
  refine v_iushr dJ6_bitCount_0f7a4_45 rfl ?_
  refine v_iadd dJ6_bitCount_0f7a4_46 rfl ?_
  refine v_istore_n [(0, .int (((((((a0 - (((a0.toUInt32 >>> ((1 : Int32).toUInt32 &&& Int32.toUInt32 31)).toInt32) &&& (1431655765 : Int32))) &&& (858993459 : Int32)) + ((((a0 - (((a0.toUInt32 >>> ((1 : Int32).toUInt32 &&& Int32.toUInt32 31)).toInt32) &&& (1431655765 : Int32))).toUInt32 >>> ((2 : Int32).toUInt32 &&& Int32.toUInt32 31)).toInt32) &&& (858993459 : Int32))) + (((((a0 - (((a0.toUInt32 >>> ((1 : Int32).toUInt32 &&& Int32.toUInt32 31)).toInt32) &&& (1431655765 : Int32))) &&& (858993459 : Int32)) + ((((a0 - (((a0.toUInt32 >>> ((1 : Int32).toUInt32 &&& Int32.toUInt32 31)).toInt32) &&& (1431655765 : Int32))).toUInt32 >>> ((2 : Int32).toUInt32 &&& Int32.toUInt32 31)).toInt32) &&& (858993459 : Int32))).toUInt32 >>> ((4 : Int32).toUInt32 &&& Int32.toUInt32 31)).toInt32)) &&& (252645135 : Int32)) + (((((((a0 - (((a0.toUInt32 >>> ((1 : Int32).toUInt32 &&& Int32.toUInt32 31)).toInt32) &&& (1431655765 : Int32))) &&& (858993459 : Int32)) + ((((a0 - (((a0.toUInt32 >>> ((1 : Int32).toUInt32 &&& Int32.toUInt32 31)).toInt32) &&& (1431655765 : Int32))).toUInt32 >>> ((2 : Int32).toUInt32 &&& Int32.toUInt32 31)).toInt32) &&& (858993459 : Int32))) + (((((a0 - (((a0.toUInt32 >>> ((1 : Int32).toUInt32 &&& Int32.toUInt32 31)).toInt32) &&& (1431655765 : Int32))) &&& (858993459 : Int32)) + ((((a0 - (((a0.toUInt32 >>> ((1 : Int32).toUInt32 &&& Int32.toUInt32 31)).toInt32) &&& (1431655765 : Int32))).toUInt32 >>> ((2 : Int32).toUInt32 &&& Int32.toUInt32 31)).toInt32) &&& (858993459 : Int32))).toUInt32 >>> ((4 : Int32).toUInt32 &&& Int32.toUInt32 31)).toInt32)) &&& (252645135 : Int32)).toUInt32 >>> ((8 : Int32).toUInt32 &&& Int32.toUInt32 31)).toInt32)) + ((((((((a0 - (((a0.toUInt32 >>> ((1 : Int32).toUInt32 &&& Int32.toUInt32 31)).toInt32) &&& (1431655765 : Int32))) &&& (858993459 : Int32)) + ((((a0 - (((a0.toUInt32 >>> ((1 : Int32).toUInt32 &&& Int32.toUInt32 31)).toInt32) &&& (1431655765 : Int32))).toUInt32 >>> ((2 : Int32).toUInt32 &&& Int32.toUInt32 31)).toInt32) &&& (858993459 : Int32))) + (((((a0 - (((a0.toUInt32 >>> ((1 : Int32).toUInt32 &&& Int32.toUInt32 31)).toInt32) &&& (1431655765 : Int32))) &&& (858993459 : Int32)) + ((((a0 - (((a0.toUInt32 >>> ((1 : Int32).toUInt32 &&& Int32.toUInt32 31)).toInt32) &&& (1431655765 : Int32))).toUInt32 >>> ((2 : Int32).toUInt32 &&& Int32.toUInt32 31)).toInt32) &&& (858993459 : Int32))).toUInt32 >>> ((4 : Int32).toUInt32 &&& Int32.toUInt32 31)).toInt32)) &&& (252645135 : Int32)) + (((((((a0 - (((a0.toUInt32 >>> ((1 : Int32).toUInt32 &&& Int32.toUInt32 31)).toInt32) &&& (1431655765 : Int32))) &&& (858993459 : Int32)) + ((((a0 - (((a0.toUInt32 >>> ((1 : Int32).toUInt32 &&& Int32.toUInt32 31)).toInt32) &&& (1431655765 : Int32))).toUInt32 >>> ((2 : Int32).toUInt32 &&& Int32.toUInt32 31)).toInt32) &&& (858993459 : Int32))) + (((((a0 - (((a0.toUInt32 >>> ((1 : Int32).toUInt32 &&& Int32.toUInt32 31)).toInt32) &&& (1431655765 : Int32))) &&& (858993459 : Int32)) + ((((a0 - (((a0.toUInt32 >>> ((1 : Int32).toUInt32 &&& Int32.toUInt32 31)).toInt32) &&& (1431655765 : Int32))).toUInt32 >>> ((2 : Int32).toUInt32 &&& Int32.toUInt32 31)).toInt32) &&& (858993459 : Int32))).toUInt32 >>> ((4 : Int32).toUInt32 &&& Int32.toUInt32 31)).toInt32)) &&& (252645135 : Int32)).toUInt32 >>> ((8 : Int32).toUInt32 &&& Int32.toUInt32 31)).toInt32)).toUInt32 >>> ((16 : Int32).toUInt32 &&& Int32.toUInt32 31)).toInt32)))] dJ6_bitCount_0f7a4_47 rfl (by decide) rfl ?_
  refine v_iload_n 0 rfl dJ6_bitCount_0f7a4_48 rfl ?_
  refine v_bipush (v := (63 : Int32)) (by decide) dJ6_bitCount_0f7a4_49 rfl ?_
  refine v_iand dJ6_bitCount_0f7a4_51 rfl ?_
  obtain rfl := Option.some.inj h
  exact v_iret rfl rfl (Nat.le_of_ble_eq_true rfl) (Nat.le_of_ble_eq_true rfl) dJ6_bitCount_0f7a4_52
def rm_X2_hear : Room := { frames := 2, cells := 0, slots := 0, locals := 44 }
set_option maxRecDepth 100000 in
set_option maxHeartbeats 4000000 in
theorem l_X2_hear_79 {G : Gm} {μ : Mu} {o : Int64} {r : Int32} {σ' : Hp} {σ : Hp} {x0 : Nat} {x1 : Nat} {x2 : Int32} {x3 : Int32} (h : f_X2_hear_79 σ x0 x1 x2 x3 = some (r, σ')) : V G yX2_hear cX2_hear 4 (some .boolean) rm_X2_hear (zI G r (σ', μ, o) 0 0) (σ, μ, o) 0 0 79 [(0, .ref x0), (1, .ref x1), (2, .int x2), (3, .int x3)] [] := by
  unfold f_X2_hear_79 at h
  refine v_aload_n 0 rfl dX2_hear_79 rfl ?_
  obtain ⟨v80, e80, h⟩ := o_b h
  refine v_getR e80 (by decide) (by decide) rfl qf_RX2_28 dX2_hear_80 rfl ?_
  refine v_iload_n 2 rfl dX2_hear_83 rfl ?_
  obtain ⟨v84, e84, h⟩ := o_b h
  refine v_aI e84 dX2_hear_84 rfl ?_
  obtain ⟨v85, e85, h⟩ := o_b h
  refine v_Si (as := [.int v84]) (st := []) (c' := 0) (k' := 0) (k_J6_bitCount_0f7a4 e85) mk_J6_bitCount_0f7a4 qs_J6_bitCount_0f7a4 qm_RX2_72 (ck rfl) rfl dX2_hear_85 rfl rfl rfl ?_
  refine v_aload_n 0 rfl dX2_hear_88 rfl ?_
  obtain ⟨v89, e89, h⟩ := o_b h
  refine v_getI e89 (by decide) (by decide) rfl qf_RX2_34 dX2_hear_89 rfl ?_
  refine v_iconst (v := (2 : Int32)) (by decide) dX2_hear_92 rfl ?_
  refine v_idiv (by decide) dX2_hear_93 rfl ?_
  refine v_icmp_le 110 dX2_hear_94 (by decide) rfl (fun c94 => ?_) (fun c94 => ?_)
  · have h := o_p c94 h
    refine v_iconst (v := (0 : Int32)) (by decide) dX2_hear_110 rfl ?_
    obtain ⟨rfl, rfl⟩ := o_s h
    exact v_iret rfl rfl (Nat.le_of_ble_eq_true rfl) (Nat.le_of_ble_eq_true rfl) dX2_hear_111
  · have h := o_n c94 h
    refine v_aload_n 0 rfl dX2_hear_97 rfl ?_
    obtain ⟨v98, e98, h⟩ := o_b h
    refine v_getR e98 (by decide) (by decide) rfl qf_RX2_28 dX2_hear_98 rfl ?_
    refine v_iload_n 2 rfl dX2_hear_101 rfl ?_
    obtain ⟨v102, e102, h⟩ := o_b h
    refine v_aI e102 dX2_hear_102 rfl ?_
    refine v_iconst (v := (1 : Int32)) (by decide) dX2_hear_103 rfl ?_
    refine v_iload_n 3 rfl dX2_hear_104 rfl ?_
    refine v_ishl dX2_hear_105 rfl ?_
    refine v_iand dX2_hear_106 rfl ?_
    refine v_if_ne 112 dX2_hear_107 (by decide) rfl (fun c107 => ?_) (fun c107 => ?_)
    · have h := o_n c107 h
      refine v_aload_n 0 rfl dX2_hear_112 rfl ?_
      refine v_iconst (v := (2 : Int32)) (by decide) dX2_hear_113 rfl ?_
      obtain ⟨s114, e114, h⟩ := o_b h
      refine v_putI e114 (by decide) (by decide) rfl rfl rfl rfl rfl qf_RX2_15 dX2_hear_114 rfl ?_
      refine v_aload_n 0 rfl dX2_hear_117 rfl ?_
      refine v_aload_n 1 rfl dX2_hear_118 rfl ?_
      obtain ⟨v119, e119, h⟩ := o_b h
      refine v_getR e119 (by decide) (by decide) rfl qf_RX2_51 dX2_hear_119 rfl ?_
      obtain ⟨s122, e122, h⟩ := o_b h
      refine v_putR e122 (by decide) (by decide) rfl rfl qf_RX2_77 dX2_hear_122 rfl ?_
      refine v_aload_n 0 rfl dX2_hear_125 rfl ?_
      refine v_aload_n 1 rfl dX2_hear_126 rfl ?_
      obtain ⟨v127, e127, h⟩ := o_b h
      refine v_getI e127 (by decide) (by decide) rfl qf_RX2_55 dX2_hear_127 rfl ?_
      obtain ⟨s130, e130, h⟩ := o_b h
      refine v_putI e130 (by decide) (by decide) rfl rfl rfl rfl rfl qf_RX2_80 dX2_hear_130 rfl ?_
      refine v_aload_n 0 rfl dX2_hear_133 rfl ?_
      refine v_aload_n 0 rfl dX2_hear_134 rfl ?_
      obtain ⟨v135, e135, h⟩ := o_b h
      refine v_getR e135 (by decide) (by decide) rfl qf_RX2_31 dX2_hear_135 rfl ?_
      refine v_iload_n 2 rfl dX2_hear_138 rfl ?_
      obtain ⟨v139, e139, h⟩ := o_b h
      refine v_aI e139 dX2_hear_139 rfl ?_
      obtain ⟨s140, e140, h⟩ := o_b h
      refine v_putI e140 (by decide) (by decide) rfl rfl rfl rfl rfl qf_RX2_83 dX2_hear_140 rfl ?_
      refine v_iconst (v := (1 : Int32)) (by decide) dX2_hear_143 rfl ?_
      obtain ⟨rfl, rfl⟩ := o_s h
      exact v_iret rfl rfl (Nat.le_of_ble_eq_true rfl) (Nat.le_of_ble_eq_true rfl) dX2_hear_144
    · have h := o_p c107 h
      refine v_iconst (v := (0 : Int32)) (by decide) dX2_hear_110 rfl ?_
      obtain ⟨rfl, rfl⟩ := o_s h
      exact v_iret rfl rfl (Nat.le_of_ble_eq_true rfl) (Nat.le_of_ble_eq_true rfl) dX2_hear_111
set_option maxRecDepth 100000 in
set_option maxHeartbeats 4000000 in
theorem k_X2_hear {G : Gm} {μ : Mu} {o : Int64} {r : Int32} {σ' : Hp} {σ : Hp} {a0 : Nat} {a1 : Nat} (h : f_X2_hear σ a0 a1 = some (r, σ')) : Ci G yX2_hear cX2_hear 4 (some .boolean) rm_X2_hear [.ref a0, .ref a1] (σ, μ, o) r (σ', μ, o) 0 0 := by
  refine v_entI [(0, .ref a0), (1, .ref a1)] (by decide +kernel) (Nat.le_of_ble_eq_true rfl) rfl ?_
  unfold f_X2_hear at h
  refine v_aload_n 0 rfl dX2_hear_0 rfl ?_
  obtain ⟨v1, e1, h⟩ := o_b h
  refine v_getI e1 (by decide) (by decide) rfl qf_RX2_15 dX2_hear_1 rfl ?_
  refine v_iconst (v := (1 : Int32)) (by decide) dX2_hear_4 rfl ?_
  refine v_icmp_ne 19 dX2_hear_5 (by decide) rfl (fun c5 => ?_) (fun c5 => ?_)
  · have h := o_n c5 h
    refine v_iconst (v := (0 : Int32)) (by decide) dX2_hear_19 rfl ?_
    obtain ⟨rfl, rfl⟩ := o_s h
    exact v_iret rfl rfl (Nat.le_of_ble_eq_true rfl) (Nat.le_of_ble_eq_true rfl) dX2_hear_20
  · have h := o_p c5 h
    refine v_aload_n 1 rfl dX2_hear_8 rfl ?_
    obtain ⟨v9, e9, h⟩ := o_b h
    refine v_getI e9 (by decide) (by decide) rfl qf_RX2_46 dX2_hear_9 rfl ?_
    refine v_aload_n 0 rfl dX2_hear_12 rfl ?_
    obtain ⟨v13, e13, h⟩ := o_b h
    refine v_getI e13 (by decide) (by decide) rfl qf_RX2_9 dX2_hear_13 rfl ?_
    refine v_icmp_eq 21 dX2_hear_16 (by decide) rfl (fun c16 => ?_) (fun c16 => ?_)
    · have h := o_p c16 h
      refine v_aload_n 0 rfl dX2_hear_21 rfl ?_
      refine v_aload_n 1 rfl dX2_hear_22 rfl ?_
      obtain ⟨v23, e23, h⟩ := o_b h
      refine v_getR e23 (by decide) (by decide) rfl qf_RX2_51 dX2_hear_23 rfl ?_
      refine v_aload_n 1 rfl dX2_hear_26 rfl ?_
      obtain ⟨v27, e27, h⟩ := o_b h
      refine v_getI e27 (by decide) (by decide) rfl qf_RX2_55 dX2_hear_27 rfl ?_
      obtain ⟨⟨⟩, g30, h⟩ := o_b h
      obtain ⟨v30, e30, h⟩ := o_b h
      refine v_Vi (as := [.ref v23, .int v27]) (st := []) (c' := 0) (k' := 0) (k_X2_placeOf e30) (rcv_c g30 (by decide) rfl) mk_X2_placeOf qi_X2_placeOf qe_X2_placeOf qm_RX2_58 (ck rfl) rfl dX2_hear_30 rfl rfl rfl ?_
      refine v_istore_n [(2, .int v30.1), (0, .ref a0), (1, .ref a1)] dX2_hear_33 rfl (by decide) rfl ?_
      refine v_aload_n 2 rfl dX2_hear_34 rfl ?_
      obtain ⟨v35, e35, h⟩ := o_b h
      refine v_getR e35 (by decide) (by decide) rfl qf_RX2_51 dX2_hear_35 rfl ?_
      refine v_aload_n 1 rfl dX2_hear_38 rfl ?_
      obtain ⟨v39, e39, h⟩ := o_b h
      refine v_getI e39 (by decide) (by decide) rfl qf_RX2_34 dX2_hear_39 rfl ?_
      obtain ⟨⟨⟩, g42, h⟩ := o_b h
      obtain ⟨v42, e42, h⟩ := o_b h
      refine v_Vi (as := [.int v39]) (st := []) (c' := 0) (k' := 0) (k_X9_leader e42) (rcv_c g42 (by decide) rfl) mk_X9_leader qi_X9_leader qe_X9_leader qm_RX2_62 (ck rfl) rfl dX2_hear_42 rfl rfl rfl ?_
      refine v_istore_n [(3, .int v42), (2, .int v30.1), (0, .ref a0), (1, .ref a1)] dX2_hear_45 rfl (by decide) rfl ?_
      refine v_aload_n 2 rfl dX2_hear_46 rfl ?_
      obtain ⟨v47, e47, h⟩ := o_b h
      refine v_getR e47 (by decide) (by decide) rfl qf_RX2_28 dX2_hear_47 rfl ?_
      refine v_iload_n 1 rfl dX2_hear_50 rfl ?_
      refine v_dup2 rfl rfl dX2_hear_51 rfl ?_
      obtain ⟨v52, e52, h⟩ := o_b h
      refine v_aI e52 dX2_hear_52 rfl ?_
      refine v_iconst (v := (1 : Int32)) (by decide) dX2_hear_53 rfl ?_
      refine v_aload_n 3 rfl dX2_hear_54 rfl ?_
      obtain ⟨v55, e55, h⟩ := o_b h
      refine v_getI e55 (by decide) (by decide) rfl qf_RX2_66 dX2_hear_55 rfl ?_
      refine v_ishl dX2_hear_58 rfl ?_
      refine v_ior dX2_hear_59 rfl ?_
      obtain ⟨s60, e60, h⟩ := o_b h
      refine v_qI e60 dX2_hear_60 rfl ?_
      refine v_aload_n 3 rfl dX2_hear_61 rfl ?_
      obtain ⟨v62, e62, h⟩ := o_b h
      refine v_getI e62 (by decide) (by decide) rfl qf_RX2_66 dX2_hear_62 rfl ?_
      refine v_iload_n 0 rfl dX2_hear_65 rfl ?_
      refine v_icmp_ne 79 dX2_hear_66 (by decide) rfl (fun c66 => ?_) (fun c66 => ?_)
      · have h := o_n c66 h
        refine v_sub [2, 3, 1, 0] rfl ?_
        exact l_X2_hear_79 h
      · have h := o_p c66 h
        refine v_aload_n 2 rfl dX2_hear_69 rfl ?_
        obtain ⟨v70, e70, h⟩ := o_b h
        refine v_getR e70 (by decide) (by decide) rfl qf_RX2_31 dX2_hear_70 rfl ?_
        refine v_iload_n 1 rfl dX2_hear_73 rfl ?_
        refine v_aload_n 3 rfl dX2_hear_74 rfl ?_
        obtain ⟨v75, e75, h⟩ := o_b h
        refine v_getI e75 (by decide) (by decide) rfl qf_RX2_69 dX2_hear_75 rfl ?_
        obtain ⟨s78, e78, h⟩ := o_b h
        refine v_qI e78 dX2_hear_78 rfl ?_
        refine v_sub [2, 3, 1, 0] rfl ?_
        exact l_X2_hear_79 h
    · have h := o_n c16 h
      refine v_iconst (v := (0 : Int32)) (by decide) dX2_hear_19 rfl ?_
      obtain ⟨rfl, rfl⟩ := o_s h
      exact v_iret rfl rfl (Nat.le_of_ble_eq_true rfl) (Nat.le_of_ble_eq_true rfl) dX2_hear_20
def rm_X3_indexOf : Room := { frames := 0, cells := 0, slots := 0, locals := 0 }
set_option maxRecDepth 100000 in
set_option maxHeartbeats 4000000 in
theorem l_X3_indexOf_2 {G : Gm} {μ : Mu} {o : Int64} {r : Int32} {σ : Hp} : ∀ (n : Nat) {x0 : Nat} {x1 : Int32} {x2 : Int32} , f_X3_indexOf_2 n σ x0 x1 x2 = some r → V G yX3_indexOf cX3_indexOf 3 (some .int) rm_X3_indexOf (zI G r (σ, μ, o) 0 0) (σ, μ, o) 0 0 2 [(0, .ref x0), (1, .int x1), (2, .int x2)] [] := by
  intro n
  induction n with
  | zero => intro _ _ _ h; cases h
  | succ n ih =>
    intro x0 x1 x2 h
    replace h : b_X3_indexOf_2 (f_X3_indexOf_2 n) σ x0 x1 x2 = some r := h
    unfold b_X3_indexOf_2 at h
    refine v_iload_n 2 rfl dX3_indexOf_2 rfl ?_
    refine v_aload_n 0 rfl dX3_indexOf_3 rfl ?_
    obtain ⟨v4, e4, h⟩ := o_b h
    refine v_getI e4 (by decide) (by decide) rfl qf_RX3_25 dX3_indexOf_4 rfl ?_
    refine v_icmp_ge 28 dX3_indexOf_7 (by decide) rfl (fun c7 => ?_) (fun c7 => ?_)
    · have h := o_p c7 h
      refine v_iconst (v := (-1 : Int32)) (by decide) dX3_indexOf_28 rfl ?_
      obtain rfl := Option.some.inj h
      exact v_iret rfl rfl (Nat.le_of_ble_eq_true rfl) (Nat.le_of_ble_eq_true rfl) dX3_indexOf_29
    · have h := o_n c7 h
      refine v_aload_n 0 rfl dX3_indexOf_10 rfl ?_
      obtain ⟨v11, e11, h⟩ := o_b h
      refine v_getR e11 (by decide) (by decide) rfl qf_RX3_9 dX3_indexOf_11 rfl ?_
      refine v_iload_n 2 rfl dX3_indexOf_14 rfl ?_
      obtain ⟨v15, e15, h⟩ := o_b h
      refine v_aI e15 dX3_indexOf_15 rfl ?_
      refine v_iload_n 1 rfl dX3_indexOf_16 rfl ?_
      refine v_icmp_ne 22 dX3_indexOf_17 (by decide) rfl (fun c17 => ?_) (fun c17 => ?_)
      · have h := o_n c17 h
        refine v_iinc (v := (x2 + 1)) [(2, .int (x2 + 1)), (0, .ref x0), (1, .int x1)] 2 rfl rfl dX3_indexOf_22 rfl (by decide) rfl ?_
        refine v_goto (q := 2) dX3_indexOf_25 (by decide) ?_
        refine v_sub [1, 2, 0] rfl ?_
        exact ih h
      · have h := o_p c17 h
        refine v_iload_n 2 rfl dX3_indexOf_20 rfl ?_
        obtain rfl := Option.some.inj h
        exact v_iret rfl rfl (Nat.le_of_ble_eq_true rfl) (Nat.le_of_ble_eq_true rfl) dX3_indexOf_21
set_option maxRecDepth 100000 in
set_option maxHeartbeats 4000000 in
theorem k_X3_indexOf {G : Gm} {μ : Mu} {o : Int64} {r : Int32} {σ : Hp} {a0 : Nat} {a1 : Int32} (h : f_X3_indexOf σ a0 a1 = some r) : Ci G yX3_indexOf cX3_indexOf 3 (some .int) rm_X3_indexOf [.ref a0, .int a1] (σ, μ, o) r (σ, μ, o) 0 0 := by
  refine v_entI [(0, .ref a0), (1, .int a1)] (by decide +kernel) (Nat.le_of_ble_eq_true rfl) rfl ?_
  unfold f_X3_indexOf at h
  refine v_iconst (v := (0 : Int32)) (by decide) dX3_indexOf_0 rfl ?_
  refine v_istore_n [(2, .int (0 : Int32)), (0, .ref a0), (1, .int a1)] dX3_indexOf_1 rfl (by decide) rfl ?_
  refine v_sub [1, 2, 0] rfl ?_
  exact l_X3_indexOf_2 _ h
def rm_X3_has : Room := { frames := 1, cells := 0, slots := 0, locals := 22 }
set_option maxRecDepth 100000 in
set_option maxHeartbeats 4000000 in
theorem k_X3_has {G : Gm} {μ : Mu} {o : Int64} {r : Int32} {σ : Hp} {a0 : Nat} {a1 : Int32} (h : f_X3_has σ a0 a1 = some r) : Ci G yX3_has cX3_has 2 (some .boolean) rm_X3_has [.ref a0, .int a1] (σ, μ, o) r (σ, μ, o) 0 0 := by
  refine v_entI [(0, .ref a0), (1, .int a1)] (by decide +kernel) (Nat.le_of_ble_eq_true rfl) rfl ?_
  unfold f_X3_has at h
  refine v_aload_n 0 rfl dX3_has_0 rfl ?_
  refine v_iload_n 1 rfl dX3_has_1 rfl ?_
  obtain ⟨⟨⟩, g2, h⟩ := o_b h
  obtain ⟨v2, e2, h⟩ := o_b h
  refine v_Vi (as := [.int a1]) (st := []) (c' := 0) (k' := 0) (k_X3_indexOf e2) (rcv_c g2 (by decide) rfl) mk_X3_indexOf qi_X3_indexOf qe_X3_indexOf qm_RX3_18 (ck rfl) rfl dX3_has_2 rfl rfl rfl ?_
  refine v_iconst (v := (-1 : Int32)) (by decide) dX3_has_5 rfl ?_
  refine v_icmp_eq 13 dX3_has_6 (by decide) rfl (fun c6 => ?_) (fun c6 => ?_)
  · have h := o_p c6 h
    refine v_iconst (v := (0 : Int32)) (by decide) dX3_has_13 rfl ?_
    obtain rfl := Option.some.inj h
    exact v_iret rfl rfl (Nat.le_of_ble_eq_true rfl) (Nat.le_of_ble_eq_true rfl) dX3_has_14
  · have h := o_n c6 h
    refine v_iconst (v := (1 : Int32)) (by decide) dX3_has_9 rfl ?_
    refine v_goto (q := 14) dX3_has_10 (by decide) ?_
    obtain rfl := Option.some.inj h
    exact v_iret rfl rfl (Nat.le_of_ble_eq_true rfl) (Nat.le_of_ble_eq_true rfl) dX3_has_14
def rm_X3_remove : Room := { frames := 1, cells := 0, slots := 0, locals := 22 }
set_option maxRecDepth 100000 in
set_option maxHeartbeats 4000000 in
theorem k_X3_remove {G : Gm} {μ : Mu} {o : Int64} {r : Int32} {σ' : Hp} {σ : Hp} {a0 : Nat} {a1 : Int32} (h : f_X3_remove σ a0 a1 = some (r, σ')) : Ci G yX3_remove cX3_remove 4 (some .int) rm_X3_remove [.ref a0, .int a1] (σ, μ, o) r (σ', μ, o) 0 0 := by
  refine v_entI [(0, .ref a0), (1, .int a1)] (by decide +kernel) (Nat.le_of_ble_eq_true rfl) rfl ?_
  unfold f_X3_remove at h
  refine v_aload_n 0 rfl dX3_remove_0 rfl ?_
  refine v_iload_n 1 rfl dX3_remove_1 rfl ?_
  obtain ⟨⟨⟩, g2, h⟩ := o_b h
  obtain ⟨v2, e2, h⟩ := o_b h
  refine v_Vi (as := [.int a1]) (st := []) (c' := 0) (k' := 0) (k_X3_indexOf e2) (rcv_c g2 (by decide) rfl) mk_X3_indexOf qi_X3_indexOf qe_X3_indexOf qm_RX3_18 (ck rfl) rfl dX3_remove_2 rfl rfl rfl ?_
  refine v_istore_n [(2, .int v2), (0, .ref a0), (1, .int a1)] dX3_remove_5 rfl (by decide) rfl ?_
  refine v_iload_n 0 rfl dX3_remove_6 rfl ?_
  refine v_iconst (v := (-1 : Int32)) (by decide) dX3_remove_7 rfl ?_
  refine v_icmp_ne 13 dX3_remove_8 (by decide) rfl (fun c8 => ?_) (fun c8 => ?_)
  · have h := o_n c8 h
    refine v_aload_n 1 rfl dX3_remove_13 rfl ?_
    obtain ⟨v14, e14, h⟩ := o_b h
    refine v_getR e14 (by decide) (by decide) rfl qf_RX3_15 dX3_remove_14 rfl ?_
    refine v_iload_n 0 rfl dX3_remove_17 rfl ?_
    obtain ⟨v18, e18, h⟩ := o_b h
    refine v_aI e18 dX3_remove_18 rfl ?_
    refine v_istore_n [(3, .int v18), (2, .int v2), (0, .ref a0), (1, .int a1)] dX3_remove_19 rfl (by decide) rfl ?_
    refine v_aload_n 2 rfl dX3_remove_20 rfl ?_
    refine v_dup rfl dX3_remove_21 rfl ?_
    obtain ⟨v22, e22, h⟩ := o_b h
    refine v_getI e22 (by decide) (by decide) rfl qf_RX3_25 dX3_remove_22 rfl ?_
    refine v_iconst (v := (1 : Int32)) (by decide) dX3_remove_25 rfl ?_
    refine v_isub dX3_remove_26 rfl ?_
    obtain ⟨s27, e27, h⟩ := o_b h
    refine v_putI e27 (by decide) (by decide) rfl rfl rfl rfl rfl qf_RX3_25 dX3_remove_27 rfl ?_
    refine v_aload_n 2 rfl dX3_remove_30 rfl ?_
    obtain ⟨v31, e31, h⟩ := o_b h
    refine v_getR e31 (by decide) (by decide) rfl qf_RX3_9 dX3_remove_31 rfl ?_
    refine v_iload_n 1 rfl dX3_remove_34 rfl ?_
    refine v_aload_n 2 rfl dX3_remove_35 rfl ?_
    obtain ⟨v36, e36, h⟩ := o_b h
    refine v_getR e36 (by decide) (by decide) rfl qf_RX3_9 dX3_remove_36 rfl ?_
    refine v_aload_n 2 rfl dX3_remove_39 rfl ?_
    obtain ⟨v40, e40, h⟩ := o_b h
    refine v_getI e40 (by decide) (by decide) rfl qf_RX3_25 dX3_remove_40 rfl ?_
    obtain ⟨v43, e43, h⟩ := o_b h
    refine v_aI e43 dX3_remove_43 rfl ?_
    obtain ⟨s44, e44, h⟩ := o_b h
    refine v_qI e44 dX3_remove_44 rfl ?_
    refine v_aload_n 2 rfl dX3_remove_45 rfl ?_
    obtain ⟨v46, e46, h⟩ := o_b h
    refine v_getR e46 (by decide) (by decide) rfl qf_RX3_15 dX3_remove_46 rfl ?_
    refine v_iload_n 1 rfl dX3_remove_49 rfl ?_
    refine v_aload_n 2 rfl dX3_remove_50 rfl ?_
    obtain ⟨v51, e51, h⟩ := o_b h
    refine v_getR e51 (by decide) (by decide) rfl qf_RX3_15 dX3_remove_51 rfl ?_
    refine v_aload_n 2 rfl dX3_remove_54 rfl ?_
    obtain ⟨v55, e55, h⟩ := o_b h
    refine v_getI e55 (by decide) (by decide) rfl qf_RX3_25 dX3_remove_55 rfl ?_
    obtain ⟨v58, e58, h⟩ := o_b h
    refine v_aI e58 dX3_remove_58 rfl ?_
    obtain ⟨s59, e59, h⟩ := o_b h
    refine v_qI e59 dX3_remove_59 rfl ?_
    refine v_iload_n 0 rfl dX3_remove_60 rfl ?_
    obtain ⟨rfl, rfl⟩ := o_s h
    exact v_iret rfl rfl (Nat.le_of_ble_eq_true rfl) (Nat.le_of_ble_eq_true rfl) dX3_remove_61
  · have h := o_p c8 h
    refine v_iconst (v := (0 : Int32)) (by decide) dX3_remove_11 rfl ?_
    obtain ⟨rfl, rfl⟩ := o_s h
    exact v_iret rfl rfl (Nat.le_of_ble_eq_true rfl) (Nat.le_of_ble_eq_true rfl) dX3_remove_12
def rm_X3_put : Room := { frames := 2, cells := 0, slots := 0, locals := 45 }
set_option maxRecDepth 100000 in
set_option maxHeartbeats 4000000 in
theorem k_X3_put {G : Gm} {μ : Mu} {o : Int64} {σ' : Hp} {σ : Hp} {a0 : Nat} {a1 : Int32} {a2 : Int32} (h : f_X3_put σ a0 a1 a2 = some σ') : Cv G yX3_put cX3_put 3 none rm_X3_put [.ref a0, .int a1, .int a2] (σ, μ, o) (σ', μ, o) 0 0 := by
  refine v_entV [(0, .ref a0), (1, .int a1), (2, .int a2)] (by decide +kernel) (Nat.le_of_ble_eq_true rfl) rfl ?_
  unfold f_X3_put at h
  refine v_aload_n 0 rfl dX3_put_0 rfl ?_
  refine v_iload_n 1 rfl dX3_put_1 rfl ?_
  obtain ⟨⟨⟩, g2, h⟩ := o_b h
  obtain ⟨v2, e2, h⟩ := o_b h
  refine v_Vi (as := [.int a1]) (st := []) (c' := 0) (k' := 0) (k_X3_remove e2) (rcv_c g2 (by decide) rfl) mk_X3_remove qi_X3_remove qe_X3_remove qm_RX3_22 (ck rfl) rfl dX3_put_2 rfl rfl rfl ?_
  refine v_pop rfl dX3_put_5 rfl ?_
  refine v_aload_n 0 rfl dX3_put_6 rfl ?_
  obtain ⟨v7, e7, h⟩ := o_b h
  refine v_getI e7 (by decide) (by decide) rfl qf_RX3_25 dX3_put_7 rfl ?_
  refine v_bipush (v := (8 : Int32)) (by decide) dX3_put_10 rfl ?_
  refine v_icmp_gt 45 dX3_put_12 (by decide) rfl (fun c12 => ?_) (fun c12 => ?_)
  · have h := o_p c12 h
    obtain rfl := Option.some.inj h
    exact v_vret rfl (Nat.le_of_ble_eq_true rfl) (Nat.le_of_ble_eq_true rfl) dX3_put_45
  · have h := o_n c12 h
    refine v_aload_n 0 rfl dX3_put_15 rfl ?_
    obtain ⟨v16, e16, h⟩ := o_b h
    refine v_getR e16 (by decide) (by decide) rfl qf_RX3_9 dX3_put_16 rfl ?_
    refine v_aload_n 0 rfl dX3_put_19 rfl ?_
    obtain ⟨v20, e20, h⟩ := o_b h
    refine v_getI e20 (by decide) (by decide) rfl qf_RX3_25 dX3_put_20 rfl ?_
    refine v_iload_n 1 rfl dX3_put_23 rfl ?_
    obtain ⟨s24, e24, h⟩ := o_b h
    refine v_qI e24 dX3_put_24 rfl ?_
    refine v_aload_n 0 rfl dX3_put_25 rfl ?_
    obtain ⟨v26, e26, h⟩ := o_b h
    refine v_getR e26 (by decide) (by decide) rfl qf_RX3_15 dX3_put_26 rfl ?_
    refine v_aload_n 0 rfl dX3_put_29 rfl ?_
    obtain ⟨v30, e30, h⟩ := o_b h
    refine v_getI e30 (by decide) (by decide) rfl qf_RX3_25 dX3_put_30 rfl ?_
    refine v_iload_n 2 rfl dX3_put_33 rfl ?_
    obtain ⟨s34, e34, h⟩ := o_b h
    refine v_qI e34 dX3_put_34 rfl ?_
    refine v_aload_n 0 rfl dX3_put_35 rfl ?_
    refine v_dup rfl dX3_put_36 rfl ?_
    obtain ⟨v37, e37, h⟩ := o_b h
    refine v_getI e37 (by decide) (by decide) rfl qf_RX3_25 dX3_put_37 rfl ?_
    refine v_iconst (v := (1 : Int32)) (by decide) dX3_put_40 rfl ?_
    refine v_iadd dX3_put_41 rfl ?_
    obtain ⟨s42, e42, h⟩ := o_b h
    refine v_putI e42 (by decide) (by decide) rfl rfl rfl rfl rfl qf_RX3_25 dX3_put_42 rfl ?_
    obtain rfl := Option.some.inj h
    exact v_vret rfl (Nat.le_of_ble_eq_true rfl) (Nat.le_of_ble_eq_true rfl) dX3_put_45
def rm_X4_has : Room := { frames := 0, cells := 0, slots := 0, locals := 0 }
set_option maxRecDepth 100000 in
set_option maxHeartbeats 4000000 in
theorem k_X4_has {G : Gm} {μ : Mu} {o : Int64} {r : Int32} {σ : Hp} {a0 : Nat} {a1 : Int32} (h : f_X4_has σ a0 a1 = some r) : Ci G yX4_has cX4_has 2 (some .boolean) rm_X4_has [.ref a0, .int a1] (σ, μ, o) r (σ, μ, o) 0 0 := by
  refine v_entI [(0, .ref a0), (1, .int a1)] (by decide +kernel) (Nat.le_of_ble_eq_true rfl) rfl ?_
  unfold f_X4_has at h
  refine v_iload_n 1 rfl dX4_has_0 rfl ?_
  refine v_iconst (v := (1 : Int32)) (by decide) dX4_has_1 rfl ?_
  refine v_icmp_lt 17 dX4_has_2 (by decide) rfl (fun c2 => ?_) (fun c2 => ?_)
  · have h := o_p c2 h
    refine v_iconst (v := (0 : Int32)) (by decide) dX4_has_17 rfl ?_
    obtain rfl := Option.some.inj h
    exact v_iret rfl rfl (Nat.le_of_ble_eq_true rfl) (Nat.le_of_ble_eq_true rfl) dX4_has_18
  · have h := o_n c2 h
    refine v_iload_n 1 rfl dX4_has_5 rfl ?_
    refine v_aload_n 0 rfl dX4_has_6 rfl ?_
    obtain ⟨v7, e7, h⟩ := o_b h
    refine v_getI e7 (by decide) (by decide) rfl qf_RX4_15 dX4_has_7 rfl ?_
    refine v_icmp_gt 17 dX4_has_10 (by decide) rfl (fun c10 => ?_) (fun c10 => ?_)
    · have h := o_p c10 h
      refine v_iconst (v := (0 : Int32)) (by decide) dX4_has_17 rfl ?_
      obtain rfl := Option.some.inj h
      exact v_iret rfl rfl (Nat.le_of_ble_eq_true rfl) (Nat.le_of_ble_eq_true rfl) dX4_has_18
    · have h := o_n c10 h
      refine v_iconst (v := (1 : Int32)) (by decide) dX4_has_13 rfl ?_
      refine v_goto (q := 18) dX4_has_14 (by decide) ?_
      obtain rfl := Option.some.inj h
      exact v_iret rfl rfl (Nat.le_of_ble_eq_true rfl) (Nat.le_of_ble_eq_true rfl) dX4_has_18
