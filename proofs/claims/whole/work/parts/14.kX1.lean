def rm_X11_again : Room := { frames := 6, cells := 1, slots := 6, locals := 90 }
set_option maxRecDepth 100000 in
set_option maxHeartbeats 4000000 in
theorem k_X11_again {G : Gm} {μ : Mu} {o : Int64} {x : Xr} {σ : Hp} {a0 : Nat} {a1 : Int32} (h : f_X11_again σ a0 a1 = some x) : Xv G yX11_again cX11_again 2 none rm_X11_again [.ref a0, .int a1] (σ, μ, o) x μ o 1 6 := by
  refine x_entV [(0, .ref a0), (1, .int a1)] (by decide +kernel) (Nat.le_of_ble_eq_true rfl) rfl ?_
  unfold f_X11_again at h
  refine v_aload_n 0 rfl dX11_again_0 rfl ?_
  refine v_iload_n 1 rfl dX11_again_1 rfl ?_
  obtain ⟨⟨⟩, g2, h⟩ := o_b h
  obtain ⟨v2, e2, h⟩ := o_b h
  refine v_Vi (as := [.int a1]) (st := []) (c' := 0) (k' := 0) (k_X11_isClient e2) (rcv_c g2 (by decide) rfl) mk_X11_isClient qi_X11_isClient qe_X11_isClient qm_RX11_74 (ck rfl) rfl dX11_again_2 rfl rfl rfl ?_
  refine v_if_ne 18 dX11_again_5 (by decide) rfl (fun c5 => ?_) (fun c5 => ?_)
  · have h := o_n c5 h
    refine v_aload_n 0 rfl dX11_again_18 rfl ?_
    obtain ⟨v19, e19, h⟩ := o_b h
    refine v_getR e19 (by decide) (by decide) rfl qf_RX11_60 dX11_again_19 rfl ?_
    refine v_iload_n 1 rfl dX11_again_22 rfl ?_
    obtain ⟨v23, e23, h⟩ := o_b h
    refine v_aR e23 (by decide) (by decide) rfl dX11_again_23 rfl ?_
    obtain ⟨v24, e24, h⟩ := o_b h
    refine v_getI e24 (by decide) (by decide) rfl qf_RX11_93 dX11_again_24 rfl ?_
    refine v_iconst (v := (1 : Int32)) (by decide) dX11_again_27 rfl ?_
    refine v_icmp_eq 41 dX11_again_28 (by decide) rfl (fun c28 => ?_) (fun c28 => ?_)
    · have h := o_p c28 h
      refine v_aload_n 0 rfl dX11_again_41 rfl ?_
      refine v_aload_n 0 rfl dX11_again_42 rfl ?_
      obtain ⟨v43, e43, h⟩ := o_b h
      refine v_getR e43 (by decide) (by decide) rfl qf_RX11_60 dX11_again_43 rfl ?_
      refine v_iload_n 1 rfl dX11_again_46 rfl ?_
      obtain ⟨v47, e47, h⟩ := o_b h
      refine v_aR e47 (by decide) (by decide) rfl dX11_again_47 rfl ?_
      obtain ⟨v48, e48, h⟩ := o_b h
      refine v_getI e48 (by decide) (by decide) rfl qf_RX11_118 dX11_again_48 rfl ?_
      obtain ⟨⟨⟩, g51, h⟩ := o_b h
      obtain ⟨v51, e51, h⟩ := o_b h
      refine v_Vv (as := [.int v48]) (st := []) (c' := 0) (k' := 0) (k_X11_stamp e51) (rcv_c g51 (by decide) rfl) mk_X11_stamp qi_X11_stamp qe_X11_stamp qm_RX11_111 (ck rfl) rfl dX11_again_51 rfl rfl rfl ?_
      exact x_vret (Option.some.inj h).symm rfl (Nat.le_of_ble_eq_true rfl) (Nat.le_of_ble_eq_true rfl) dX11_again_54
    · have h := o_n c28 h
      exact x_throwV (is := 116) (text := "none of its requests is open") (code := 3) (E := "java/lang/IllegalStateException") (Option.some.inj h).symm (by decide) rfl mk_X11_again.1 rfl tw100 qc_RX11_96 qz_e3 (by decide) dX11_again_31 dX11_again_34 dX11_again_35 dX11_again_37 dX11_again_40 (Nat.le_of_ble_eq_true rfl) (Nat.le_of_ble_eq_true rfl) (Nat.le_of_ble_eq_true rfl) (Nat.le_of_ble_eq_true rfl) (Nat.le_of_ble_eq_true rfl) (Nat.le_of_ble_eq_true rfl)
  · have h := o_p c5 h
    exact x_throwV (is := 114) (text := "no such client") (code := 1) (E := "java/lang/IndexOutOfBoundsException") (Option.some.inj h).symm (by decide) rfl mk_X11_again.1 rfl tw85 qc_RX11_81 qz_e1 (by decide) dX11_again_8 dX11_again_11 dX11_again_12 dX11_again_14 dX11_again_17 (Nat.le_of_ble_eq_true rfl) (Nat.le_of_ble_eq_true rfl) (Nat.le_of_ble_eq_true rfl) (Nat.le_of_ble_eq_true rfl) (Nat.le_of_ble_eq_true rfl) (Nat.le_of_ble_eq_true rfl)
def rm_X11_deliver : Room := { frames := 7, cells := 1, slots := 6, locals := 168 }
set_option maxRecDepth 100000 in
set_option maxHeartbeats 4000000 in
theorem k_X11_deliver {G : Gm} {μ : Mu} {o : Int64} {x : Xr} {σ : Hp} {a0 : Nat} {a1 : Int32} (h : f_X11_deliver σ a0 a1 = some x) : Xv G yX11_deliver cX11_deliver 3 none rm_X11_deliver [.ref a0, .int a1] (σ, μ, o) x μ o 1 6 := by
  refine x_entV [(0, .ref a0), (1, .int a1)] (by decide +kernel) (Nat.le_of_ble_eq_true rfl) rfl ?_
  unfold f_X11_deliver at h
  refine v_aload_n 0 rfl dX11_deliver_0 rfl ?_
  obtain ⟨v1, e1, h⟩ := o_b h
  refine v_getR e1 (by decide) (by decide) rfl qf_RX11_38 dX11_deliver_1 rfl ?_
  refine v_iload_n 1 rfl dX11_deliver_4 rfl ?_
  obtain ⟨⟨⟩, g5, h⟩ := o_b h
  obtain ⟨v5, e5, h⟩ := o_b h
  refine v_Vi (as := [.int a1]) (st := []) (c' := 0) (k' := 0) (k_X1_placeOf e5) (rcv_c g5 (by decide) rfl) mk_X1_placeOf qi_X1_placeOf qe_X1_placeOf qm_RX11_121 (ck rfl) rfl dX11_deliver_5 rfl rfl rfl ?_
  refine v_istore_n [(2, .int v5), (0, .ref a0), (1, .int a1)] dX11_deliver_8 rfl (by decide) rfl ?_
  refine v_iload_n 0 rfl dX11_deliver_9 rfl ?_
  refine v_iconst (v := (-1 : Int32)) (by decide) dX11_deliver_10 rfl ?_
  refine v_icmp_ne 24 dX11_deliver_11 (by decide) rfl (fun c11 => ?_) (fun c11 => ?_)
  · have h := o_n c11 h
    refine v_aload_n 1 rfl dX11_deliver_24 rfl ?_
    refine v_aload_n 1 rfl dX11_deliver_25 rfl ?_
    obtain ⟨v26, e26, h⟩ := o_b h
    refine v_getR e26 (by decide) (by decide) rfl qf_RX11_38 dX11_deliver_26 rfl ?_
    refine v_iload_n 0 rfl dX11_deliver_29 rfl ?_
    obtain ⟨⟨⟩, g30, h⟩ := o_b h
    obtain ⟨v30, e30, h⟩ := o_b h
    refine v_Vr (as := [.int v5]) (st := [.ref a0]) (c' := 0) (k' := 0) (k_X1_takeOut e30) (rcv_c g30 (by decide) rfl) mk_X1_takeOut qi_X1_takeOut qe_X1_takeOut qm_RX11_127 (ck rfl) rfl dX11_deliver_30 rfl rfl rfl ?_
    obtain ⟨⟨⟩, g33, h⟩ := o_b h
    obtain ⟨v33, e33, h⟩ := o_b h
    refine v_Vv (as := [.ref v30.1]) (st := []) (c' := 1) (k' := 2) (k_X11_handOver e33) (rcv_c g33 (by decide) rfl) mk_X11_handOver qi_X11_handOver qe_X11_handOver qm_RX11_131 (ck rfl) rfl dX11_deliver_33 rfl rfl rfl ?_
    exact x_vret (Option.some.inj h).symm rfl (Nat.le_of_ble_eq_true rfl) (Nat.le_of_ble_eq_true rfl) dX11_deliver_36
  · have h := o_p c11 h
    exact x_throwV (is := 125) (text := "the message is not in the air") (code := 2) (E := "java/lang/IllegalArgumentException") (Option.some.inj h).symm (by decide) rfl mk_X11_deliver.1 rfl tw92 qc_RX11_88 qz_e2 (by decide) dX11_deliver_14 dX11_deliver_17 dX11_deliver_18 dX11_deliver_20 dX11_deliver_23 (Nat.le_of_ble_eq_true rfl) (Nat.le_of_ble_eq_true rfl) (Nat.le_of_ble_eq_true rfl) (Nat.le_of_ble_eq_true rfl) (Nat.le_of_ble_eq_true rfl) (Nat.le_of_ble_eq_true rfl)
def rm_X11_lose : Room := { frames := 6, cells := 1, slots := 6, locals := 90 }
set_option maxRecDepth 100000 in
set_option maxHeartbeats 4000000 in
theorem k_X11_lose {G : Gm} {μ : Mu} {o : Int64} {x : Xr} {σ : Hp} {a0 : Nat} {a1 : Int32} (h : f_X11_lose σ a0 a1 = some x) : Xv G yX11_lose cX11_lose 3 none rm_X11_lose [.ref a0, .int a1] (σ, μ, o) x μ o 1 6 := by
  refine x_entV [(0, .ref a0), (1, .int a1)] (by decide +kernel) (Nat.le_of_ble_eq_true rfl) rfl ?_
  unfold f_X11_lose at h
  refine v_aload_n 0 rfl dX11_lose_0 rfl ?_
  obtain ⟨v1, e1, h⟩ := o_b h
  refine v_getR e1 (by decide) (by decide) rfl qf_RX11_38 dX11_lose_1 rfl ?_
  refine v_iload_n 1 rfl dX11_lose_4 rfl ?_
  obtain ⟨⟨⟩, g5, h⟩ := o_b h
  obtain ⟨v5, e5, h⟩ := o_b h
  refine v_Vi (as := [.int a1]) (st := []) (c' := 0) (k' := 0) (k_X1_placeOf e5) (rcv_c g5 (by decide) rfl) mk_X1_placeOf qi_X1_placeOf qe_X1_placeOf qm_RX11_121 (ck rfl) rfl dX11_lose_5 rfl rfl rfl ?_
  refine v_istore_n [(2, .int v5), (0, .ref a0), (1, .int a1)] dX11_lose_8 rfl (by decide) rfl ?_
  refine v_iload_n 0 rfl dX11_lose_9 rfl ?_
  refine v_iconst (v := (-1 : Int32)) (by decide) dX11_lose_10 rfl ?_
  refine v_icmp_ne 24 dX11_lose_11 (by decide) rfl (fun c11 => ?_) (fun c11 => ?_)
  · have h := o_n c11 h
    refine v_aload_n 1 rfl dX11_lose_24 rfl ?_
    obtain ⟨v25, e25, h⟩ := o_b h
    refine v_getR e25 (by decide) (by decide) rfl qf_RX11_38 dX11_lose_25 rfl ?_
    refine v_iload_n 0 rfl dX11_lose_28 rfl ?_
    obtain ⟨⟨⟩, g29, h⟩ := o_b h
    obtain ⟨v29, e29, h⟩ := o_b h
    refine v_Vr (as := [.int v5]) (st := []) (c' := 0) (k' := 0) (k_X1_takeOut e29) (rcv_c g29 (by decide) rfl) mk_X1_takeOut qi_X1_takeOut qe_X1_takeOut qm_RX11_127 (ck rfl) rfl dX11_lose_29 rfl rfl rfl ?_
    refine v_pop rfl dX11_lose_32 rfl ?_
    refine v_aload_n 1 rfl dX11_lose_33 rfl ?_
    obtain ⟨v34, e34, h⟩ := o_b h
    refine v_getR e34 (by decide) (by decide) rfl qf_RX11_38 dX11_lose_34 rfl ?_
    refine v_dup rfl dX11_lose_37 rfl ?_
    obtain ⟨v38, e38, h⟩ := o_b h
    refine v_getI e38 (by decide) (by decide) rfl qf_RX11_135 dX11_lose_38 rfl ?_
    refine v_iconst (v := (1 : Int32)) (by decide) dX11_lose_41 rfl ?_
    refine v_iadd dX11_lose_42 rfl ?_
    obtain ⟨s43, e43, h⟩ := o_b h
    refine v_putI e43 (by decide) (by decide) rfl rfl rfl rfl rfl qf_RX11_135 dX11_lose_43 rfl ?_
    exact x_vret (Option.some.inj h).symm rfl (Nat.le_of_ble_eq_true rfl) (Nat.le_of_ble_eq_true rfl) dX11_lose_46
  · have h := o_p c11 h
    exact x_throwV (is := 125) (text := "the message is not in the air") (code := 2) (E := "java/lang/IllegalArgumentException") (Option.some.inj h).symm (by decide) rfl mk_X11_lose.1 rfl tw92 qc_RX11_88 qz_e2 (by decide) dX11_lose_14 dX11_lose_17 dX11_lose_18 dX11_lose_20 dX11_lose_23 (Nat.le_of_ble_eq_true rfl) (Nat.le_of_ble_eq_true rfl) (Nat.le_of_ble_eq_true rfl) (Nat.le_of_ble_eq_true rfl) (Nat.le_of_ble_eq_true rfl) (Nat.le_of_ble_eq_true rfl)
def rm_X11_flow : Room := { frames := 7, cells := 42, slots := 88, locals := 168 }
set_option maxRecDepth 100000 in
set_option maxHeartbeats 4000000 in
theorem l_X11_flow_22 {G : Gm} {μ : Mu} {o : Int64} {x : Xr} : ∀ (n : Nat) (hF : n ≤ 41) {σ : Hp} {x0 : Nat} {x1 : Int32} {x2 : Int32} , f_X11_flow_22 n σ x0 x1 x2 = some x → V G yX11_flow cX11_flow 3 (some .int) rm_X11_flow (zXi G x μ o 42 88) (σ, μ, o) (0 + (41 - n) * 1) (0 + (41 - n) * 2) 22 [(0, .ref x0), (1, .int x1), (2, .int x2)] [] := by
  intro n
  induction n with
  | zero => intro _ _ _ _ _ h; cases h
  | succ n ih =>
    intro hF σ x0 x1 x2 h
    replace h : b_X11_flow_22 (f_X11_flow_22 n) σ x0 x1 x2 = some x := h
    unfold b_X11_flow_22 at h
    refine v_iload_n 2 rfl dX11_flow_22 rfl ?_
    refine v_iload_n 1 rfl dX11_flow_23 rfl ?_
    refine v_icmp_ge 55 dX11_flow_24 (by decide) rfl (fun c24 => ?_) (fun c24 => ?_)
    · have h := o_p c24 h
      refine v_iload_n 2 rfl dX11_flow_55 rfl ?_
      exact x_iret (Option.some.inj h).symm rfl rfl (by omega) (by omega) dX11_flow_56
    · have h := o_n c24 h
      refine v_aload_n 0 rfl dX11_flow_27 rfl ?_
      obtain ⟨v28, e28, h⟩ := o_b h
      refine v_getR e28 (by decide) (by decide) rfl qf_RX11_38 dX11_flow_28 rfl ?_
      obtain ⟨v31, e31, h⟩ := o_b h
      refine v_getI e31 (by decide) (by decide) rfl qf_RX11_140 dX11_flow_31 rfl ?_
      refine v_if_le 55 dX11_flow_34 (by decide) rfl (fun c34 => ?_) (fun c34 => ?_)
      · have h := o_p c34 h
        refine v_iload_n 2 rfl dX11_flow_55 rfl ?_
        exact x_iret (Option.some.inj h).symm rfl rfl (by omega) (by omega) dX11_flow_56
      · have h := o_n c34 h
        refine v_aload_n 0 rfl dX11_flow_37 rfl ?_
        refine v_aload_n 0 rfl dX11_flow_38 rfl ?_
        obtain ⟨v39, e39, h⟩ := o_b h
        refine v_getR e39 (by decide) (by decide) rfl qf_RX11_38 dX11_flow_39 rfl ?_
        refine v_iconst (v := (0 : Int32)) (by decide) dX11_flow_42 rfl ?_
        obtain ⟨⟨⟩, g43, h⟩ := o_b h
        obtain ⟨v43, e43, h⟩ := o_b h
        refine v_Vr (as := [.int (0 : Int32)]) (st := [.ref x0]) (c' := (0 + (41 - (n + 1)) * 1)) (k' := (0 + (41 - (n + 1)) * 2)) (k_X1_takeOut e43) (rcv_c g43 (by decide) rfl) mk_X1_takeOut qi_X1_takeOut qe_X1_takeOut qm_RX11_127 (ck2 rfl (by show _ ≤ 42; omega) (by show _ ≤ 88; omega)) rfl dX11_flow_43 rfl rfl rfl ?_
        obtain ⟨⟨⟩, g46, h⟩ := o_b h
        obtain ⟨v46, e46, h⟩ := o_b h
        refine v_Vv (as := [.ref v43.1]) (st := []) (c' := ((0 + (41 - (n + 1)) * 1) + 1)) (k' := ((0 + (41 - (n + 1)) * 2) + 2)) (k_X11_handOver e46) (rcv_c g46 (by decide) rfl) mk_X11_handOver qi_X11_handOver qe_X11_handOver qm_RX11_131 (ck2 rfl (by show _ ≤ 42; omega) (by show _ ≤ 88; omega)) rfl dX11_flow_46 rfl rfl rfl ?_
        refine v_iinc (v := (x2 + 1)) [(2, .int (x2 + 1)), (0, .ref x0), (1, .int x1)] 2 rfl rfl dX11_flow_49 rfl (by decide) rfl ?_
        refine v_goto (q := 22) dX11_flow_52 (by decide) ?_
        refine v_sub [1, 2, 0] rfl ?_
        refine v_wid (c' := (0 + (41 - n) * 1)) (k' := (0 + (41 - n) * 2)) (by omega) (by omega) ?_
        exact ih (by omega) h
set_option maxRecDepth 100000 in
set_option maxHeartbeats 4000000 in
theorem k_X11_flow {G : Gm} {μ : Mu} {o : Int64} {x : Xr} {σ : Hp} {a0 : Nat} {a1 : Int32} (h : f_X11_flow σ a0 a1 = some x) : Xi G yX11_flow cX11_flow 3 (some .int) rm_X11_flow [.ref a0, .int a1] (σ, μ, o) x μ o 42 88 := by
  refine x_entI [(0, .ref a0), (1, .int a1)] (by decide +kernel) (Nat.le_of_ble_eq_true rfl) rfl ?_
  unfold f_X11_flow at h
  refine v_iload_n 1 rfl dX11_flow_0 rfl ?_
  refine v_if_lt 10 dX11_flow_1 (by decide) rfl (fun c1 => ?_) (fun c1 => ?_)
  · have h := o_p c1 h
    exact x_throwI (is := 138) (text := "n is not 0 .. 40") (code := 2) (E := "java/lang/IllegalArgumentException") (Option.some.inj h).symm (by decide) rfl mk_X11_flow.1 rfl tw92 qc_RX11_88 qz_e2 (by decide) dX11_flow_10 dX11_flow_13 dX11_flow_14 dX11_flow_16 dX11_flow_19 (Nat.le_of_ble_eq_true rfl) (Nat.le_of_ble_eq_true rfl) (Nat.le_of_ble_eq_true rfl) (Nat.le_of_ble_eq_true rfl) (Nat.le_of_ble_eq_true rfl) (Nat.le_of_ble_eq_true rfl)
  · have h := o_n c1 h
    refine v_iload_n 1 rfl dX11_flow_4 rfl ?_
    refine v_bipush (v := (40 : Int32)) (by decide) dX11_flow_5 rfl ?_
    refine v_icmp_le 20 dX11_flow_7 (by decide) rfl (fun c7 => ?_) (fun c7 => ?_)
    · have h := o_p c7 h
      refine v_iconst (v := (0 : Int32)) (by decide) dX11_flow_20 rfl ?_
      refine v_istore_n [(2, .int (0 : Int32)), (0, .ref a0), (1, .int a1)] dX11_flow_21 rfl (by decide) rfl ?_
      refine v_sub [1, 2, 0] rfl ?_
      refine v_wid (c' := (0 + (41 - 41) * 1)) (k' := (0 + (41 - 41) * 2)) (by omega) (by omega) ?_
      exact l_X11_flow_22 _ (Nat.le_refl _) h
    · have h := o_n c7 h
      exact x_throwI (is := 138) (text := "n is not 0 .. 40") (code := 2) (E := "java/lang/IllegalArgumentException") (Option.some.inj h).symm (by decide) rfl mk_X11_flow.1 rfl tw92 qc_RX11_88 qz_e2 (by decide) dX11_flow_10 dX11_flow_13 dX11_flow_14 dX11_flow_16 dX11_flow_19 (Nat.le_of_ble_eq_true rfl) (Nat.le_of_ble_eq_true rfl) (Nat.le_of_ble_eq_true rfl) (Nat.le_of_ble_eq_true rfl) (Nat.le_of_ble_eq_true rfl) (Nat.le_of_ble_eq_true rfl)
def rm_X11_down : Room := { frames := 6, cells := 1, slots := 6, locals := 90 }
set_option maxRecDepth 100000 in
set_option maxHeartbeats 4000000 in
theorem k_X11_down {G : Gm} {μ : Mu} {o : Int64} {x : Xr} {σ : Hp} {a0 : Nat} {a1 : Int32} (h : f_X11_down σ a0 a1 = some x) : Xv G yX11_down cX11_down 2 none rm_X11_down [.ref a0, .int a1] (σ, μ, o) x μ o 1 6 := by
  refine x_entV [(0, .ref a0), (1, .int a1)] (by decide +kernel) (Nat.le_of_ble_eq_true rfl) rfl ?_
  unfold f_X11_down at h
  refine v_aload_n 0 rfl dX11_down_0 rfl ?_
  refine v_iload_n 1 rfl dX11_down_1 rfl ?_
  obtain ⟨⟨⟩, g2, h⟩ := o_b h
  obtain ⟨v2, e2, h⟩ := o_b h
  refine v_Vi (as := [.int a1]) (st := []) (c' := 0) (k' := 0) (k_X11_isReplica e2) (rcv_c g2 (by decide) rfl) mk_X11_isReplica qi_X11_isReplica qe_X11_isReplica qm_RX11_143 (ck rfl) rfl dX11_down_2 rfl rfl rfl ?_
  refine v_if_ne 18 dX11_down_5 (by decide) rfl (fun c5 => ?_) (fun c5 => ?_)
  · have h := o_n c5 h
    refine v_aload_n 0 rfl dX11_down_18 rfl ?_
    obtain ⟨v19, e19, h⟩ := o_b h
    refine v_getR e19 (by decide) (by decide) rfl qf_RX11_51 dX11_down_19 rfl ?_
    refine v_iload_n 1 rfl dX11_down_22 rfl ?_
    obtain ⟨v23, e23, h⟩ := o_b h
    refine v_aR e23 (by decide) (by decide) rfl dX11_down_23 rfl ?_
    obtain ⟨v24, e24, h⟩ := o_b h
    refine v_getI e24 (by decide) (by decide) rfl qf_RX11_148 dX11_down_24 rfl ?_
    refine v_if_ne 43 dX11_down_27 (by decide) rfl (fun c27 => ?_) (fun c27 => ?_)
    · have h := o_n c27 h
      exact x_throwV (is := 155) (text := "it is down, or as many as may be are") (code := 3) (E := "java/lang/IllegalStateException") (Option.some.inj h).symm (by decide) rfl mk_X11_down.1 rfl tw100 qc_RX11_96 qz_e3 (by decide) dX11_down_43 dX11_down_46 dX11_down_47 dX11_down_49 dX11_down_52 (Nat.le_of_ble_eq_true rfl) (Nat.le_of_ble_eq_true rfl) (Nat.le_of_ble_eq_true rfl) (Nat.le_of_ble_eq_true rfl) (Nat.le_of_ble_eq_true rfl) (Nat.le_of_ble_eq_true rfl)
    · have h := o_p c27 h
      refine v_aload_n 0 rfl dX11_down_30 rfl ?_
      obtain ⟨⟨⟩, g31, h⟩ := o_b h
      obtain ⟨v31, e31, h⟩ := o_b h
      refine v_Vi (as := []) (st := []) (c' := 0) (k' := 0) (k_X11_downNow e31) (rcv_c g31 (by decide) rfl) mk_X11_downNow qi_X11_downNow qe_X11_downNow qm_RX11_151 (ck rfl) rfl dX11_down_31 rfl rfl rfl ?_
      refine v_aload_n 0 rfl dX11_down_34 rfl ?_
      obtain ⟨v35, e35, h⟩ := o_b h
      refine v_getI e35 (by decide) (by decide) rfl qf_RX11_13 dX11_down_35 rfl ?_
      refine v_iconst (v := (2 : Int32)) (by decide) dX11_down_38 rfl ?_
      refine v_idiv (by decide) dX11_down_39 rfl ?_
      refine v_icmp_lt 53 dX11_down_40 (by decide) rfl (fun c40 => ?_) (fun c40 => ?_)
      · have h := o_p c40 h
        refine v_aload_n 0 rfl dX11_down_53 rfl ?_
        obtain ⟨v54, e54, h⟩ := o_b h
        refine v_getR e54 (by decide) (by decide) rfl qf_RX11_51 dX11_down_54 rfl ?_
        refine v_iload_n 1 rfl dX11_down_57 rfl ?_
        obtain ⟨v58, e58, h⟩ := o_b h
        refine v_aR e58 (by decide) (by decide) rfl dX11_down_58 rfl ?_
        refine v_iconst (v := (1 : Int32)) (by decide) dX11_down_59 rfl ?_
        obtain ⟨s60, e60, h⟩ := o_b h
        refine v_putI e60 (by decide) (by decide) rfl rfl rfl rfl rfl qf_RX11_148 dX11_down_60 rfl ?_
        refine v_aload_n 0 rfl dX11_down_63 rfl ?_
        obtain ⟨v64, e64, h⟩ := o_b h
        refine v_getR e64 (by decide) (by decide) rfl qf_RX11_51 dX11_down_64 rfl ?_
        refine v_iload_n 1 rfl dX11_down_67 rfl ?_
        obtain ⟨v68, e68, h⟩ := o_b h
        refine v_aR e68 (by decide) (by decide) rfl dX11_down_68 rfl ?_
        obtain ⟨⟨⟩, g69, h⟩ := o_b h
        obtain ⟨v69, e69, h⟩ := o_b h
        refine v_Vv (as := []) (st := []) (c' := 0) (k' := 0) (k_X6_forget e69) (rcv_c g69 (by decide) rfl) mk_X6_forget qi_X6_forget qe_X6_forget qm_RX11_157 (ck rfl) rfl dX11_down_69 rfl rfl rfl ?_
        exact x_vret (Option.some.inj h).symm rfl (Nat.le_of_ble_eq_true rfl) (Nat.le_of_ble_eq_true rfl) dX11_down_72
      · have h := o_n c40 h
        exact x_throwV (is := 155) (text := "it is down, or as many as may be are") (code := 3) (E := "java/lang/IllegalStateException") (Option.some.inj h).symm (by decide) rfl mk_X11_down.1 rfl tw100 qc_RX11_96 qz_e3 (by decide) dX11_down_43 dX11_down_46 dX11_down_47 dX11_down_49 dX11_down_52 (Nat.le_of_ble_eq_true rfl) (Nat.le_of_ble_eq_true rfl) (Nat.le_of_ble_eq_true rfl) (Nat.le_of_ble_eq_true rfl) (Nat.le_of_ble_eq_true rfl) (Nat.le_of_ble_eq_true rfl)
  · have h := o_p c5 h
    exact x_throwV (is := 146) (text := "no such replica") (code := 1) (E := "java/lang/IndexOutOfBoundsException") (Option.some.inj h).symm (by decide) rfl mk_X11_down.1 rfl tw85 qc_RX11_81 qz_e1 (by decide) dX11_down_8 dX11_down_11 dX11_down_12 dX11_down_14 dX11_down_17 (Nat.le_of_ble_eq_true rfl) (Nat.le_of_ble_eq_true rfl) (Nat.le_of_ble_eq_true rfl) (Nat.le_of_ble_eq_true rfl) (Nat.le_of_ble_eq_true rfl) (Nat.le_of_ble_eq_true rfl)
def rm_X11_up : Room := { frames := 6, cells := 1, slots := 6, locals := 90 }
set_option maxRecDepth 100000 in
set_option maxHeartbeats 4000000 in
theorem k_X11_up {G : Gm} {μ : Mu} {o : Int64} {x : Xr} {σ : Hp} {a0 : Nat} {a1 : Int32} (h : f_X11_up σ a0 a1 = some x) : Xv G yX11_up cX11_up 2 none rm_X11_up [.ref a0, .int a1] (σ, μ, o) x μ o 1 6 := by
  refine x_entV [(0, .ref a0), (1, .int a1)] (by decide +kernel) (Nat.le_of_ble_eq_true rfl) rfl ?_
  unfold f_X11_up at h
  refine v_aload_n 0 rfl dX11_up_0 rfl ?_
  refine v_iload_n 1 rfl dX11_up_1 rfl ?_
  obtain ⟨⟨⟩, g2, h⟩ := o_b h
  obtain ⟨v2, e2, h⟩ := o_b h
  refine v_Vi (as := [.int a1]) (st := []) (c' := 0) (k' := 0) (k_X11_isReplica e2) (rcv_c g2 (by decide) rfl) mk_X11_isReplica qi_X11_isReplica qe_X11_isReplica qm_RX11_143 (ck rfl) rfl dX11_up_2 rfl rfl rfl ?_
  refine v_if_ne 18 dX11_up_5 (by decide) rfl (fun c5 => ?_) (fun c5 => ?_)
  · have h := o_n c5 h
    refine v_aload_n 0 rfl dX11_up_18 rfl ?_
    obtain ⟨v19, e19, h⟩ := o_b h
    refine v_getR e19 (by decide) (by decide) rfl qf_RX11_51 dX11_up_19 rfl ?_
    refine v_iload_n 1 rfl dX11_up_22 rfl ?_
    obtain ⟨v23, e23, h⟩ := o_b h
    refine v_aR e23 (by decide) (by decide) rfl dX11_up_23 rfl ?_
    obtain ⟨v24, e24, h⟩ := o_b h
    refine v_getI e24 (by decide) (by decide) rfl qf_RX11_148 dX11_up_24 rfl ?_
    refine v_if_ne 40 dX11_up_27 (by decide) rfl (fun c27 => ?_) (fun c27 => ?_)
    · have h := o_n c27 h
      refine v_aload_n 0 rfl dX11_up_40 rfl ?_
      obtain ⟨v41, e41, h⟩ := o_b h
      refine v_getR e41 (by decide) (by decide) rfl qf_RX11_51 dX11_up_41 rfl ?_
      refine v_iload_n 1 rfl dX11_up_44 rfl ?_
      obtain ⟨v45, e45, h⟩ := o_b h
      refine v_aR e45 (by decide) (by decide) rfl dX11_up_45 rfl ?_
      refine v_iconst (v := (0 : Int32)) (by decide) dX11_up_46 rfl ?_
      obtain ⟨s47, e47, h⟩ := o_b h
      refine v_putI e47 (by decide) (by decide) rfl rfl rfl rfl rfl qf_RX11_148 dX11_up_47 rfl ?_
      exact x_vret (Option.some.inj h).symm rfl (Nat.le_of_ble_eq_true rfl) (Nat.le_of_ble_eq_true rfl) dX11_up_50
    · have h := o_p c27 h
      exact x_throwV (is := 160) (text := "it is not down") (code := 3) (E := "java/lang/IllegalStateException") (Option.some.inj h).symm (by decide) rfl mk_X11_up.1 rfl tw100 qc_RX11_96 qz_e3 (by decide) dX11_up_30 dX11_up_33 dX11_up_34 dX11_up_36 dX11_up_39 (Nat.le_of_ble_eq_true rfl) (Nat.le_of_ble_eq_true rfl) (Nat.le_of_ble_eq_true rfl) (Nat.le_of_ble_eq_true rfl) (Nat.le_of_ble_eq_true rfl) (Nat.le_of_ble_eq_true rfl)
  · have h := o_p c5 h
    exact x_throwV (is := 146) (text := "no such replica") (code := 1) (E := "java/lang/IndexOutOfBoundsException") (Option.some.inj h).symm (by decide) rfl mk_X11_up.1 rfl tw85 qc_RX11_81 qz_e1 (by decide) dX11_up_8 dX11_up_11 dX11_up_12 dX11_up_14 dX11_up_17 (Nat.le_of_ble_eq_true rfl) (Nat.le_of_ble_eq_true rfl) (Nat.le_of_ble_eq_true rfl) (Nat.le_of_ble_eq_true rfl) (Nat.le_of_ble_eq_true rfl) (Nat.le_of_ble_eq_true rfl)
def rm_X11_suspect : Room := { frames := 6, cells := 1, slots := 6, locals := 123 }
set_option maxRecDepth 100000 in
set_option maxHeartbeats 4000000 in
theorem k_X11_suspect {G : Gm} {μ : Mu} {o : Int64} {x : Xr} {σ : Hp} {a0 : Nat} {a1 : Int32} (h : f_X11_suspect σ a0 a1 = some x) : Xv G yX11_suspect cX11_suspect 3 none rm_X11_suspect [.ref a0, .int a1] (σ, μ, o) x μ o 1 6 := by
  refine x_entV [(0, .ref a0), (1, .int a1)] (by decide +kernel) (Nat.le_of_ble_eq_true rfl) rfl ?_
  unfold f_X11_suspect at h
  refine v_aload_n 0 rfl dX11_suspect_0 rfl ?_
  refine v_iload_n 1 rfl dX11_suspect_1 rfl ?_
  obtain ⟨⟨⟩, g2, h⟩ := o_b h
  obtain ⟨v2, e2, h⟩ := o_b h
  refine v_Vi (as := [.int a1]) (st := []) (c' := 0) (k' := 0) (k_X11_isReplica e2) (rcv_c g2 (by decide) rfl) mk_X11_isReplica qi_X11_isReplica qe_X11_isReplica qm_RX11_143 (ck rfl) rfl dX11_suspect_2 rfl rfl rfl ?_
  refine v_if_ne 18 dX11_suspect_5 (by decide) rfl (fun c5 => ?_) (fun c5 => ?_)
  · have h := o_n c5 h
    refine v_aload_n 0 rfl dX11_suspect_18 rfl ?_
    obtain ⟨v19, e19, h⟩ := o_b h
    refine v_getR e19 (by decide) (by decide) rfl qf_RX11_51 dX11_suspect_19 rfl ?_
    refine v_iload_n 1 rfl dX11_suspect_22 rfl ?_
    obtain ⟨v23, e23, h⟩ := o_b h
    refine v_aR e23 (by decide) (by decide) rfl dX11_suspect_23 rfl ?_
    refine v_astore_n [(2, .ref v23), (0, .ref a0), (1, .int a1)] dX11_suspect_24 rfl (by decide) rfl ?_
    refine v_aload_n 0 rfl dX11_suspect_25 rfl ?_
    obtain ⟨v26, e26, h⟩ := o_b h
    refine v_getI e26 (by decide) (by decide) rfl qf_RX11_148 dX11_suspect_26 rfl ?_
    refine v_if_eq 42 dX11_suspect_29 (by decide) rfl (fun c29 => ?_) (fun c29 => ?_)
    · have h := o_p c29 h
      refine v_aload_n 0 rfl dX11_suspect_42 rfl ?_
      obtain ⟨s43, e43, h⟩ := o_b h
      refine v_new (c' := 1) (k' := 2) (Option.some.inj e43) (by decide) qc_RX11_164 qb_9 qz_9 ⟨Nat.le_of_ble_eq_true rfl, Nat.le_of_ble_eq_true rfl⟩ rfl rfl dX11_suspect_43 rfl ?_
      refine v_dup rfl dX11_suspect_46 rfl ?_
      refine v_aload_n 0 rfl dX11_suspect_47 rfl ?_
      obtain ⟨v48, e48, h⟩ := o_b h
      refine v_getR e48 (by decide) (by decide) rfl qf_RX11_166 dX11_suspect_48 rfl ?_
      obtain ⟨v51, e51, h⟩ := o_b h
      refine v_getI e51 (by decide) (by decide) rfl qf_RX11_170 dX11_suspect_51 rfl ?_
      refine v_iconst (v := (1 : Int32)) (by decide) dX11_suspect_54 rfl ?_
      refine v_iadd dX11_suspect_55 rfl ?_
      refine v_aload_n 0 rfl dX11_suspect_56 rfl ?_
      obtain ⟨v57, e57, h⟩ := o_b h
      refine v_getR e57 (by decide) (by decide) rfl qf_RX11_166 dX11_suspect_57 rfl ?_
      obtain ⟨v60, e60, h⟩ := o_b h
      refine v_getI e60 (by decide) (by decide) rfl qf_RX11_173 dX11_suspect_60 rfl ?_
      obtain ⟨v63, e63, h⟩ := o_b h
      refine v_Iv (as := [.int (v51 + (1 : Int32)), .int v60]) (st := [.ref (oN σ), .ref v23]) (c' := 1) (k' := 2) (k_X9_init e63) mk_X9_init qi_X9_init rfl qm_RX11_174 (ck rfl) rfl dX11_suspect_63 rfl rfl rfl ?_
      obtain ⟨⟨⟩, g66, h⟩ := o_b h
      obtain ⟨v66, e66, h⟩ := o_b h
      refine v_Vv (as := [.ref (oN σ)]) (st := []) (c' := 1) (k' := 2) (k_X6_turnTo e66) (rcv_c g66 (by decide) rfl) mk_X6_turnTo qi_X6_turnTo qe_X6_turnTo qm_RX11_177 (ck rfl) rfl dX11_suspect_66 rfl rfl rfl ?_
      exact x_vret (Option.some.inj h).symm rfl (Nat.le_of_ble_eq_true rfl) (Nat.le_of_ble_eq_true rfl) dX11_suspect_69
    · have h := o_n c29 h
      exact x_throwV (is := 162) (text := "it is down") (code := 3) (E := "java/lang/IllegalStateException") (Option.some.inj h).symm (by decide) rfl mk_X11_suspect.1 rfl tw100 qc_RX11_96 qz_e3 (by decide) dX11_suspect_32 dX11_suspect_35 dX11_suspect_36 dX11_suspect_38 dX11_suspect_41 (Nat.le_of_ble_eq_true rfl) (Nat.le_of_ble_eq_true rfl) (Nat.le_of_ble_eq_true rfl) (Nat.le_of_ble_eq_true rfl) (Nat.le_of_ble_eq_true rfl) (Nat.le_of_ble_eq_true rfl)
  · have h := o_p c5 h
    exact x_throwV (is := 146) (text := "no such replica") (code := 1) (E := "java/lang/IndexOutOfBoundsException") (Option.some.inj h).symm (by decide) rfl mk_X11_suspect.1 rfl tw85 qc_RX11_81 qz_e1 (by decide) dX11_suspect_8 dX11_suspect_11 dX11_suspect_12 dX11_suspect_14 dX11_suspect_17 (Nat.le_of_ble_eq_true rfl) (Nat.le_of_ble_eq_true rfl) (Nat.le_of_ble_eq_true rfl) (Nat.le_of_ble_eq_true rfl) (Nat.le_of_ble_eq_true rfl) (Nat.le_of_ble_eq_true rfl)
def rm_X11_nudge : Room := { frames := 6, cells := 1, slots := 6, locals := 122 }
set_option maxRecDepth 100000 in
set_option maxHeartbeats 4000000 in
theorem k_X11_nudge {G : Gm} {μ : Mu} {o : Int64} {x : Xr} {σ : Hp} {a0 : Nat} {a1 : Int32} (h : f_X11_nudge σ a0 a1 = some x) : Xi G yX11_nudge cX11_nudge 3 (some .int) rm_X11_nudge [.ref a0, .int a1] (σ, μ, o) x μ o 1 6 := by
  refine x_entI [(0, .ref a0), (1, .int a1)] (by decide +kernel) (Nat.le_of_ble_eq_true rfl) rfl ?_
  unfold f_X11_nudge at h
  refine v_aload_n 0 rfl dX11_nudge_0 rfl ?_
  refine v_iload_n 1 rfl dX11_nudge_1 rfl ?_
  obtain ⟨⟨⟩, g2, h⟩ := o_b h
  obtain ⟨v2, e2, h⟩ := o_b h
  refine v_Vi (as := [.int a1]) (st := []) (c' := 0) (k' := 0) (k_X11_isReplica e2) (rcv_c g2 (by decide) rfl) mk_X11_isReplica qi_X11_isReplica qe_X11_isReplica qm_RX11_143 (ck rfl) rfl dX11_nudge_2 rfl rfl rfl ?_
  refine v_if_ne 18 dX11_nudge_5 (by decide) rfl (fun c5 => ?_) (fun c5 => ?_)
  · have h := o_n c5 h
    refine v_aload_n 0 rfl dX11_nudge_18 rfl ?_
    obtain ⟨v19, e19, h⟩ := o_b h
    refine v_getR e19 (by decide) (by decide) rfl qf_RX11_51 dX11_nudge_19 rfl ?_
    refine v_iload_n 1 rfl dX11_nudge_22 rfl ?_
    obtain ⟨v23, e23, h⟩ := o_b h
    refine v_aR e23 (by decide) (by decide) rfl dX11_nudge_23 rfl ?_
    obtain ⟨v24, e24, h⟩ := o_b h
    refine v_getI e24 (by decide) (by decide) rfl qf_RX11_148 dX11_nudge_24 rfl ?_
    refine v_if_eq 40 dX11_nudge_27 (by decide) rfl (fun c27 => ?_) (fun c27 => ?_)
    · have h := o_p c27 h
      refine v_aload_n 0 rfl dX11_nudge_40 rfl ?_
      obtain ⟨v41, e41, h⟩ := o_b h
      refine v_getR e41 (by decide) (by decide) rfl qf_RX11_38 dX11_nudge_41 rfl ?_
      obtain ⟨v44, e44, h⟩ := o_b h
      refine v_getI e44 (by decide) (by decide) rfl qf_RX11_181 dX11_nudge_44 rfl ?_
      refine v_istore_n [(2, .int v44), (0, .ref a0), (1, .int a1)] dX11_nudge_47 rfl (by decide) rfl ?_
      refine v_aload_n 1 rfl dX11_nudge_48 rfl ?_
      obtain ⟨v49, e49, h⟩ := o_b h
      refine v_getR e49 (by decide) (by decide) rfl qf_RX11_51 dX11_nudge_49 rfl ?_
      refine v_iload_n 2 rfl dX11_nudge_52 rfl ?_
      obtain ⟨v53, e53, h⟩ := o_b h
      refine v_aR e53 (by decide) (by decide) rfl dX11_nudge_53 rfl ?_
      obtain ⟨⟨⟩, g54, h⟩ := o_b h
      obtain ⟨v54, e54, h⟩ := o_b h
      refine v_Vv (as := []) (st := []) (c' := 0) (k' := 0) (k_X6_askAgain e54) (rcv_c g54 (by decide) rfl) mk_X6_askAgain qi_X6_askAgain qe_X6_askAgain qm_RX11_184 (ck rfl) rfl dX11_nudge_54 rfl rfl rfl ?_
      refine v_aload_n 1 rfl dX11_nudge_57 rfl ?_
      obtain ⟨v58, e58, h⟩ := o_b h
      refine v_getR e58 (by decide) (by decide) rfl qf_RX11_38 dX11_nudge_58 rfl ?_
      obtain ⟨v61, e61, h⟩ := o_b h
      refine v_getI e61 (by decide) (by decide) rfl qf_RX11_181 dX11_nudge_61 rfl ?_
      refine v_iload_n 0 rfl dX11_nudge_64 rfl ?_
      refine v_isub dX11_nudge_65 rfl ?_
      exact x_iret (Option.some.inj h).symm rfl rfl (Nat.le_of_ble_eq_true rfl) (Nat.le_of_ble_eq_true rfl) dX11_nudge_66
    · have h := o_n c27 h
      exact x_throwI (is := 162) (text := "it is down") (code := 3) (E := "java/lang/IllegalStateException") (Option.some.inj h).symm (by decide) rfl mk_X11_nudge.1 rfl tw100 qc_RX11_96 qz_e3 (by decide) dX11_nudge_30 dX11_nudge_33 dX11_nudge_34 dX11_nudge_36 dX11_nudge_39 (Nat.le_of_ble_eq_true rfl) (Nat.le_of_ble_eq_true rfl) (Nat.le_of_ble_eq_true rfl) (Nat.le_of_ble_eq_true rfl) (Nat.le_of_ble_eq_true rfl) (Nat.le_of_ble_eq_true rfl)
  · have h := o_p c5 h
    exact x_throwI (is := 146) (text := "no such replica") (code := 1) (E := "java/lang/IndexOutOfBoundsException") (Option.some.inj h).symm (by decide) rfl mk_X11_nudge.1 rfl tw85 qc_RX11_81 qz_e1 (by decide) dX11_nudge_8 dX11_nudge_11 dX11_nudge_12 dX11_nudge_14 dX11_nudge_17 (Nat.le_of_ble_eq_true rfl) (Nat.le_of_ble_eq_true rfl) (Nat.le_of_ble_eq_true rfl) (Nat.le_of_ble_eq_true rfl) (Nat.le_of_ble_eq_true rfl) (Nat.le_of_ble_eq_true rfl)
def rm_X11_sync : Room := { frames := 6, cells := 1, slots := 6, locals := 104 }
set_option maxRecDepth 100000 in
set_option maxHeartbeats 4000000 in
theorem k_X11_sync {G : Gm} {μ : Mu} {o : Int64} {x : Xr} {σ : Hp} {a0 : Nat} {a1 : Int32} (h : f_X11_sync σ a0 a1 = some x) : Xv G yX11_sync cX11_sync 3 none rm_X11_sync [.ref a0, .int a1] (σ, μ, o) x μ o 1 6 := by
  refine x_entV [(0, .ref a0), (1, .int a1)] (by decide +kernel) (Nat.le_of_ble_eq_true rfl) rfl ?_
  unfold f_X11_sync at h
  refine v_aload_n 0 rfl dX11_sync_0 rfl ?_
  refine v_iload_n 1 rfl dX11_sync_1 rfl ?_
  obtain ⟨⟨⟩, g2, h⟩ := o_b h
  obtain ⟨v2, e2, h⟩ := o_b h
  refine v_Vi (as := [.int a1]) (st := []) (c' := 0) (k' := 0) (k_X11_isReplica e2) (rcv_c g2 (by decide) rfl) mk_X11_isReplica qi_X11_isReplica qe_X11_isReplica qm_RX11_143 (ck rfl) rfl dX11_sync_2 rfl rfl rfl ?_
  refine v_if_ne 18 dX11_sync_5 (by decide) rfl (fun c5 => ?_) (fun c5 => ?_)
  · have h := o_n c5 h
    refine v_aload_n 0 rfl dX11_sync_18 rfl ?_
    obtain ⟨v19, e19, h⟩ := o_b h
    refine v_getR e19 (by decide) (by decide) rfl qf_RX11_51 dX11_sync_19 rfl ?_
    refine v_iload_n 1 rfl dX11_sync_22 rfl ?_
    obtain ⟨v23, e23, h⟩ := o_b h
    refine v_aR e23 (by decide) (by decide) rfl dX11_sync_23 rfl ?_
    refine v_astore_n [(2, .ref v23), (0, .ref a0), (1, .int a1)] dX11_sync_24 rfl (by decide) rfl ?_
    refine v_aload_n 0 rfl dX11_sync_25 rfl ?_
    obtain ⟨v26, e26, h⟩ := o_b h
    refine v_getI e26 (by decide) (by decide) rfl qf_RX11_148 dX11_sync_26 rfl ?_
    refine v_if_ne 46 dX11_sync_29 (by decide) rfl (fun c29 => ?_) (fun c29 => ?_)
    · have h := o_n c29 h
      exact x_throwV (is := 194) (text := "it is down, does not lead, or is not normal") (code := 3) (E := "java/lang/IllegalStateException") (Option.some.inj h).symm (by decide) rfl mk_X11_sync.1 rfl tw100 qc_RX11_96 qz_e3 (by decide) dX11_sync_46 dX11_sync_49 dX11_sync_50 dX11_sync_52 dX11_sync_55 (Nat.le_of_ble_eq_true rfl) (Nat.le_of_ble_eq_true rfl) (Nat.le_of_ble_eq_true rfl) (Nat.le_of_ble_eq_true rfl) (Nat.le_of_ble_eq_true rfl) (Nat.le_of_ble_eq_true rfl)
    · have h := o_p c29 h
      refine v_aload_n 0 rfl dX11_sync_32 rfl ?_
      obtain ⟨⟨⟩, g33, h⟩ := o_b h
      obtain ⟨v33, e33, h⟩ := o_b h
      refine v_Vi (as := []) (st := []) (c' := 0) (k' := 0) (k_X6_leads e33) (rcv_c g33 (by decide) rfl) mk_X6_leads qi_X6_leads qe_X6_leads qm_RX11_187 (ck rfl) rfl dX11_sync_33 rfl rfl rfl ?_
      refine v_if_eq 46 dX11_sync_36 (by decide) rfl (fun c36 => ?_) (fun c36 => ?_)
      · have h := o_p c36 h
        exact x_throwV (is := 194) (text := "it is down, does not lead, or is not normal") (code := 3) (E := "java/lang/IllegalStateException") (Option.some.inj h).symm (by decide) rfl mk_X11_sync.1 rfl tw100 qc_RX11_96 qz_e3 (by decide) dX11_sync_46 dX11_sync_49 dX11_sync_50 dX11_sync_52 dX11_sync_55 (Nat.le_of_ble_eq_true rfl) (Nat.le_of_ble_eq_true rfl) (Nat.le_of_ble_eq_true rfl) (Nat.le_of_ble_eq_true rfl) (Nat.le_of_ble_eq_true rfl) (Nat.le_of_ble_eq_true rfl)
      · have h := o_n c36 h
        refine v_aload_n 0 rfl dX11_sync_39 rfl ?_
        obtain ⟨v40, e40, h⟩ := o_b h
        refine v_getI e40 (by decide) (by decide) rfl qf_RX11_191 dX11_sync_40 rfl ?_
        refine v_if_eq 56 dX11_sync_43 (by decide) rfl (fun c43 => ?_) (fun c43 => ?_)
        · have h := o_p c43 h
          refine v_aload_n 0 rfl dX11_sync_56 rfl ?_
          refine v_iconst (v := (5 : Int32)) (by decide) dX11_sync_57 rfl ?_
          obtain ⟨⟨⟩, g58, h⟩ := o_b h
          obtain ⟨v58, e58, h⟩ := o_b h
          refine v_Vv (as := [.int (5 : Int32)]) (st := []) (c' := 0) (k' := 0) (k_X6_sendLogToOthers e58) (rcv_c g58 (by decide) rfl) mk_X6_sendLogToOthers qi_X6_sendLogToOthers qe_X6_sendLogToOthers qm_RX11_196 (ck rfl) rfl dX11_sync_58 rfl rfl rfl ?_
          exact x_vret (Option.some.inj h).symm rfl (Nat.le_of_ble_eq_true rfl) (Nat.le_of_ble_eq_true rfl) dX11_sync_61
        · have h := o_n c43 h
          exact x_throwV (is := 194) (text := "it is down, does not lead, or is not normal") (code := 3) (E := "java/lang/IllegalStateException") (Option.some.inj h).symm (by decide) rfl mk_X11_sync.1 rfl tw100 qc_RX11_96 qz_e3 (by decide) dX11_sync_46 dX11_sync_49 dX11_sync_50 dX11_sync_52 dX11_sync_55 (Nat.le_of_ble_eq_true rfl) (Nat.le_of_ble_eq_true rfl) (Nat.le_of_ble_eq_true rfl) (Nat.le_of_ble_eq_true rfl) (Nat.le_of_ble_eq_true rfl) (Nat.le_of_ble_eq_true rfl)
  · have h := o_p c5 h
    exact x_throwV (is := 146) (text := "no such replica") (code := 1) (E := "java/lang/IndexOutOfBoundsException") (Option.some.inj h).symm (by decide) rfl mk_X11_sync.1 rfl tw85 qc_RX11_81 qz_e1 (by decide) dX11_sync_8 dX11_sync_11 dX11_sync_12 dX11_sync_14 dX11_sync_17 (Nat.le_of_ble_eq_true rfl) (Nat.le_of_ble_eq_true rfl) (Nat.le_of_ble_eq_true rfl) (Nat.le_of_ble_eq_true rfl) (Nat.le_of_ble_eq_true rfl) (Nat.le_of_ble_eq_true rfl)
