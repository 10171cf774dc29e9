def rm_X9_isSame : Room := { frames := 0, cells := 0, slots := 0, locals := 0 }
set_option maxRecDepth 100000 in
set_option maxHeartbeats 4000000 in
theorem k_X9_isSame {G : Gm} {μ : Mu} {o : Int64} {r : Int32} {σ : Hp} {a0 : Nat} {a1 : Nat} (h : f_X9_isSame σ a0 a1 = some r) : Ci G yX9_isSame cX9_isSame 2 (some .boolean) rm_X9_isSame [.ref a0, .ref a1] (σ, μ, o) r (σ, μ, o) 0 0 := by
  refine v_entI [(0, .ref a0), (1, .ref a1)] (by decide +kernel) (Nat.le_of_ble_eq_true rfl) rfl ?_
  unfold f_X9_isSame at h
  refine v_aload_n 0 rfl dX9_isSame_0 rfl ?_
  obtain ⟨v1, e1, h⟩ := o_b h
  refine v_getI e1 (by decide) (by decide) rfl qf_RX9_7 dX9_isSame_1 rfl ?_
  refine v_aload_n 1 rfl dX9_isSame_4 rfl ?_
  obtain ⟨v5, e5, h⟩ := o_b h
  refine v_getI e5 (by decide) (by decide) rfl qf_RX9_7 dX9_isSame_5 rfl ?_
  refine v_icmp_ne 26 dX9_isSame_8 (by decide) rfl (fun c8 => ?_) (fun c8 => ?_)
  · have h := o_n c8 h
    refine v_iconst (v := (0 : Int32)) (by decide) dX9_isSame_26 rfl ?_
    obtain rfl := Option.some.inj h
    exact v_iret rfl rfl (Nat.le_of_ble_eq_true rfl) (Nat.le_of_ble_eq_true rfl) dX9_isSame_27
  · have h := o_p c8 h
    refine v_aload_n 0 rfl dX9_isSame_11 rfl ?_
    obtain ⟨v12, e12, h⟩ := o_b h
    refine v_getI e12 (by decide) (by decide) rfl qf_RX9_13 dX9_isSame_12 rfl ?_
    refine v_aload_n 1 rfl dX9_isSame_15 rfl ?_
    obtain ⟨v16, e16, h⟩ := o_b h
    refine v_getI e16 (by decide) (by decide) rfl qf_RX9_13 dX9_isSame_16 rfl ?_
    refine v_icmp_ne 26 dX9_isSame_19 (by decide) rfl (fun c19 => ?_) (fun c19 => ?_)
    · have h := o_n c19 h
      refine v_iconst (v := (0 : Int32)) (by decide) dX9_isSame_26 rfl ?_
      obtain rfl := Option.some.inj h
      exact v_iret rfl rfl (Nat.le_of_ble_eq_true rfl) (Nat.le_of_ble_eq_true rfl) dX9_isSame_27
    · have h := o_p c19 h
      refine v_iconst (v := (1 : Int32)) (by decide) dX9_isSame_22 rfl ?_
      refine v_goto (q := 27) dX9_isSame_23 (by decide) ?_
      obtain rfl := Option.some.inj h
      exact v_iret rfl rfl (Nat.le_of_ble_eq_true rfl) (Nat.le_of_ble_eq_true rfl) dX9_isSame_27
def rm_X9_isBehind : Room := { frames := 1, cells := 0, slots := 0, locals := 21 }
set_option maxRecDepth 100000 in
set_option maxHeartbeats 4000000 in
theorem k_X9_isBehind {G : Gm} {μ : Mu} {o : Int64} {r : Int32} {σ : Hp} {a0 : Nat} {a1 : Nat} (h : f_X9_isBehind σ a0 a1 = some r) : Ci G yX9_isBehind cX9_isBehind 2 (some .boolean) rm_X9_isBehind [.ref a0, .ref a1] (σ, μ, o) r (σ, μ, o) 0 0 := by
  refine v_entI [(0, .ref a0), (1, .ref a1)] (by decide +kernel) (Nat.le_of_ble_eq_true rfl) rfl ?_
  unfold f_X9_isBehind at h
  refine v_aload_n 0 rfl dX9_isBehind_0 rfl ?_
  obtain ⟨v1, e1, h⟩ := o_b h
  refine v_getI e1 (by decide) (by decide) rfl qf_RX9_7 dX9_isBehind_1 rfl ?_
  refine v_aload_n 1 rfl dX9_isBehind_4 rfl ?_
  obtain ⟨v5, e5, h⟩ := o_b h
  refine v_getI e5 (by decide) (by decide) rfl qf_RX9_7 dX9_isBehind_5 rfl ?_
  refine v_icmp_gt 34 dX9_isBehind_8 (by decide) rfl (fun c8 => ?_) (fun c8 => ?_)
  · have h := o_p c8 h
    refine v_iconst (v := (0 : Int32)) (by decide) dX9_isBehind_34 rfl ?_
    obtain rfl := Option.some.inj h
    exact v_iret rfl rfl (Nat.le_of_ble_eq_true rfl) (Nat.le_of_ble_eq_true rfl) dX9_isBehind_35
  · have h := o_n c8 h
    refine v_aload_n 0 rfl dX9_isBehind_11 rfl ?_
    obtain ⟨v12, e12, h⟩ := o_b h
    refine v_getI e12 (by decide) (by decide) rfl qf_RX9_13 dX9_isBehind_12 rfl ?_
    refine v_aload_n 1 rfl dX9_isBehind_15 rfl ?_
    obtain ⟨v16, e16, h⟩ := o_b h
    refine v_getI e16 (by decide) (by decide) rfl qf_RX9_13 dX9_isBehind_16 rfl ?_
    refine v_icmp_gt 34 dX9_isBehind_19 (by decide) rfl (fun c19 => ?_) (fun c19 => ?_)
    · have h := o_p c19 h
      refine v_iconst (v := (0 : Int32)) (by decide) dX9_isBehind_34 rfl ?_
      obtain rfl := Option.some.inj h
      exact v_iret rfl rfl (Nat.le_of_ble_eq_true rfl) (Nat.le_of_ble_eq_true rfl) dX9_isBehind_35
    · have h := o_n c19 h
      refine v_aload_n 0 rfl dX9_isBehind_22 rfl ?_
      refine v_aload_n 1 rfl dX9_isBehind_23 rfl ?_
      obtain ⟨⟨⟩, g24, h⟩ := o_b h
      obtain ⟨v24, e24, h⟩ := o_b h
      refine v_Vi (as := [.ref a1]) (st := []) (c' := 0) (k' := 0) (k_X9_isSame e24) (rcv_c g24 (by decide) rfl) mk_X9_isSame qi_X9_isSame qe_X9_isSame qm_RX9_16 (ck rfl) rfl dX9_isBehind_24 rfl rfl rfl ?_
      refine v_if_ne 34 dX9_isBehind_27 (by decide) rfl (fun c27 => ?_) (fun c27 => ?_)
      · have h := o_n c27 h
        refine v_iconst (v := (0 : Int32)) (by decide) dX9_isBehind_34 rfl ?_
        obtain rfl := Option.some.inj h
        exact v_iret rfl rfl (Nat.le_of_ble_eq_true rfl) (Nat.le_of_ble_eq_true rfl) dX9_isBehind_35
      · have h := o_p c27 h
        refine v_iconst (v := (1 : Int32)) (by decide) dX9_isBehind_30 rfl ?_
        refine v_goto (q := 35) dX9_isBehind_31 (by decide) ?_
        obtain rfl := Option.some.inj h
        exact v_iret rfl rfl (Nat.le_of_ble_eq_true rfl) (Nat.le_of_ble_eq_true rfl) dX9_isBehind_35
def rm_X9_isLater : Room := { frames := 0, cells := 0, slots := 0, locals := 0 }
set_option maxRecDepth 100000 in
set_option maxHeartbeats 4000000 in
theorem k_X9_isLater {G : Gm} {μ : Mu} {o : Int64} {r : Int32} {σ : Hp} {a0 : Nat} {a1 : Nat} (h : f_X9_isLater σ a0 a1 = some r) : Ci G yX9_isLater cX9_isLater 2 (some .boolean) rm_X9_isLater [.ref a0, .ref a1] (σ, μ, o) r (σ, μ, o) 0 0 := by
  refine v_entI [(0, .ref a0), (1, .ref a1)] (by decide +kernel) (Nat.le_of_ble_eq_true rfl) rfl ?_
  unfold f_X9_isLater at h
  refine v_aload_n 0 rfl dX9_isLater_0 rfl ?_
  obtain ⟨v1, e1, h⟩ := o_b h
  refine v_getI e1 (by decide) (by decide) rfl qf_RX9_13 dX9_isLater_1 rfl ?_
  refine v_aload_n 1 rfl dX9_isLater_4 rfl ?_
  obtain ⟨v5, e5, h⟩ := o_b h
  refine v_getI e5 (by decide) (by decide) rfl qf_RX9_13 dX9_isLater_5 rfl ?_
  refine v_icmp_gt 33 dX9_isLater_8 (by decide) rfl (fun c8 => ?_) (fun c8 => ?_)
  · have h := o_p c8 h
    refine v_iconst (v := (1 : Int32)) (by decide) dX9_isLater_33 rfl ?_
    refine v_goto (q := 38) dX9_isLater_34 (by decide) ?_
    obtain rfl := Option.some.inj h
    exact v_iret rfl rfl (Nat.le_of_ble_eq_true rfl) (Nat.le_of_ble_eq_true rfl) dX9_isLater_38
  · have h := o_n c8 h
    refine v_aload_n 0 rfl dX9_isLater_11 rfl ?_
    obtain ⟨v12, e12, h⟩ := o_b h
    refine v_getI e12 (by decide) (by decide) rfl qf_RX9_13 dX9_isLater_12 rfl ?_
    refine v_aload_n 1 rfl dX9_isLater_15 rfl ?_
    obtain ⟨v16, e16, h⟩ := o_b h
    refine v_getI e16 (by decide) (by decide) rfl qf_RX9_13 dX9_isLater_16 rfl ?_
    refine v_icmp_ne 37 dX9_isLater_19 (by decide) rfl (fun c19 => ?_) (fun c19 => ?_)
    · have h := o_n c19 h
      refine v_iconst (v := (0 : Int32)) (by decide) dX9_isLater_37 rfl ?_
      obtain rfl := Option.some.inj h
      exact v_iret rfl rfl (Nat.le_of_ble_eq_true rfl) (Nat.le_of_ble_eq_true rfl) dX9_isLater_38
    · have h := o_p c19 h
      refine v_aload_n 0 rfl dX9_isLater_22 rfl ?_
      obtain ⟨v23, e23, h⟩ := o_b h
      refine v_getI e23 (by decide) (by decide) rfl qf_RX9_7 dX9_isLater_23 rfl ?_
      refine v_aload_n 1 rfl dX9_isLater_26 rfl ?_
      obtain ⟨v27, e27, h⟩ := o_b h
      refine v_getI e27 (by decide) (by decide) rfl qf_RX9_7 dX9_isLater_27 rfl ?_
      refine v_icmp_le 37 dX9_isLater_30 (by decide) rfl (fun c30 => ?_) (fun c30 => ?_)
      · have h := o_p c30 h
        refine v_iconst (v := (0 : Int32)) (by decide) dX9_isLater_37 rfl ?_
        obtain rfl := Option.some.inj h
        exact v_iret rfl rfl (Nat.le_of_ble_eq_true rfl) (Nat.le_of_ble_eq_true rfl) dX9_isLater_38
      · have h := o_n c30 h
        refine v_iconst (v := (1 : Int32)) (by decide) dX9_isLater_33 rfl ?_
        refine v_goto (q := 38) dX9_isLater_34 (by decide) ?_
        obtain rfl := Option.some.inj h
        exact v_iret rfl rfl (Nat.le_of_ble_eq_true rfl) (Nat.le_of_ble_eq_true rfl) dX9_isLater_38
def rm_J9_floorMod_7cf53 : Room := { frames := 0, cells := 0, slots := 0, locals := 0 }
set_option maxRecDepth 100000 in
set_option maxHeartbeats 4000000 in
theorem k_J9_floorMod_7cf53 {G : Gm} {w : Wt} {r : Int32} {a0 : Int32} {a1 : Int32} (h : f_J9_floorMod_7cf53 a0 a1 = some r) : Ci G yJ9_floorMod_7cf53 cJ9_floorMod_7cf53 3 (some .int) rm_J9_floorMod_7cf53 [.int a0, .int a1] w r w 0 0 := by
  refine v_entI [(0, .int a0), (1, .int a1)] (by decide +kernel) (Nat.le_of_ble_eq_true rfl) rfl ?_
  unfold f_J9_floorMod_7cf53 at h
  refine v_iload_n 0 rfl dJ9_floorMod_7cf53_0 rfl ?_
  refine v_iload_n 1 rfl dJ9_floorMod_7cf53_1 rfl ?_
  obtain ⟨⟨⟩, e2, h⟩ := o_b h
  refine v_irem (nz_of e2) dJ9_floorMod_7cf53_2 rfl ?_
  refine v_istore_n [(2, .int (a0 - a0 / a1 * a1)), (0, .int a0), (1, .int a1)] dJ9_floorMod_7cf53_3 rfl (by decide) rfl ?_
  refine v_iload_n 1 rfl dJ9_floorMod_7cf53_4 rfl ?_
  refine v_iload_n 2 rfl dJ9_floorMod_7cf53_5 rfl ?_
  refine v_ixor dJ9_floorMod_7cf53_6 rfl ?_
  refine v_if_ge 18 dJ9_floorMod_7cf53_7 (by decide) rfl (fun c7 => ?_) (fun c7 => ?_)
  · have h := o_p c7 h
    refine v_iload_n 0 rfl dJ9_floorMod_7cf53_18 rfl ?_
    obtain rfl := Option.some.inj h
    exact v_iret rfl rfl (Nat.le_of_ble_eq_true rfl) (Nat.le_of_ble_eq_true rfl) dJ9_floorMod_7cf53_19
  · have h := o_n c7 h
    refine v_iload_n 0 rfl dJ9_floorMod_7cf53_10 rfl ?_
    refine v_if_eq 18 dJ9_floorMod_7cf53_11 (by decide) rfl (fun c11 => ?_) (fun c11 => ?_)
    · have h := o_p c11 h
      refine v_iload_n 0 rfl dJ9_floorMod_7cf53_18 rfl ?_
      obtain rfl := Option.some.inj h
      exact v_iret rfl rfl (Nat.le_of_ble_eq_true rfl) (Nat.le_of_ble_eq_true rfl) dJ9_floorMod_7cf53_19
    · have h := o_n c11 h
      refine v_iload_n 0 rfl dJ9_floorMod_7cf53_14 rfl ?_
      refine v_iload_n 2 rfl dJ9_floorMod_7cf53_15 rfl ?_
      refine v_iadd dJ9_floorMod_7cf53_16 rfl ?_
      obtain rfl := Option.some.inj h
      exact v_iret rfl rfl (Nat.le_of_ble_eq_true rfl) (Nat.le_of_ble_eq_true rfl) dJ9_floorMod_7cf53_17
def rm_X9_leader : Room := { frames := 1, cells := 0, slots := 0, locals := 22 }
set_option maxRecDepth 100000 in
set_option maxHeartbeats 4000000 in
theorem k_X9_leader {G : Gm} {μ : Mu} {o : Int64} {r : Int32} {σ : Hp} {a0 : Nat} {a1 : Int32} (h : f_X9_leader σ a0 a1 = some r) : Ci G yX9_leader cX9_leader 2 (some .int) rm_X9_leader [.ref a0, .int a1] (σ, μ, o) r (σ, μ, o) 0 0 := by
  refine v_entI [(0, .ref a0), (1, .int a1)] (by decide +kernel) (Nat.le_of_ble_eq_true rfl) rfl ?_
  unfold f_X9_leader at h
  refine v_aload_n 0 rfl dX9_leader_0 rfl ?_
  obtain ⟨v1, e1, h⟩ := o_b h
  refine v_getI e1 (by decide) (by decide) rfl qf_RX9_7 dX9_leader_1 rfl ?_
  refine v_iload_n 1 rfl dX9_leader_4 rfl ?_
  obtain ⟨v5, e5, h⟩ := o_b h
  refine v_Si (as := [.int v1, .int a1]) (st := []) (c' := 0) (k' := 0) (k_J9_floorMod_7cf53 e5) mk_J9_floorMod_7cf53 qs_J9_floorMod_7cf53 qm_RX9_29 (ck rfl) rfl dX9_leader_5 rfl rfl rfl ?_
  obtain rfl := Option.some.inj h
  exact v_iret rfl rfl (Nat.le_of_ble_eq_true rfl) (Nat.le_of_ble_eq_true rfl) dX9_leader_8
def rm_X9_init : Room := { frames := 1, cells := 0, slots := 0, locals := 20 }
set_option maxRecDepth 100000 in
set_option maxHeartbeats 4000000 in
theorem k_X9_init {G : Gm} {μ : Mu} {o : Int64} {σ' : Hp} {σ : Hp} {a0 : Nat} {a1 : Int32} {a2 : Int32} (h : f_X9_init σ a0 a1 a2 = some σ') : Cv G yX9_init cX9_init 3 none rm_X9_init [.ref a0, .int a1, .int a2] (σ, μ, o) (σ', μ, o) 0 0 := by
  refine v_entV [(0, .ref a0), (1, .int a1), (2, .int a2)] (by decide +kernel) (Nat.le_of_ble_eq_true rfl) rfl ?_
  unfold f_X9_init at h
  refine v_aload_n 0 rfl dX9_init_0 rfl ?_
  refine v_obj qm_RX9_1 qi_obj qo_obj (Nat.le_of_ble_eq_true rfl) (Nat.le_of_ble_eq_true rfl) dX9_init_1 rfl ?_
  refine v_aload_n 0 rfl dX9_init_4 rfl ?_
  refine v_iload_n 1 rfl dX9_init_5 rfl ?_
  obtain ⟨s6, e6, h⟩ := o_b h
  refine v_putFI e6 (by decide) (by decide) rfl rfl rfl rfl rfl rfl rfl qf_RX9_7 dX9_init_6 rfl ?_
  refine v_aload_n 0 rfl dX9_init_9 rfl ?_
  refine v_iload_n 2 rfl dX9_init_10 rfl ?_
  obtain ⟨s11, e11, h⟩ := o_b h
  refine v_putFI e11 (by decide) (by decide) rfl rfl rfl rfl rfl rfl rfl qf_RX9_13 dX9_init_11 rfl ?_
  obtain rfl := Option.some.inj h
  exact v_vret rfl (Nat.le_of_ble_eq_true rfl) (Nat.le_of_ble_eq_true rfl) dX9_init_14
def rm_J9_max_7cf53 : Room := { frames := 0, cells := 0, slots := 0, locals := 0 }
set_option maxRecDepth 100000 in
set_option maxHeartbeats 4000000 in
theorem k_J9_max_7cf53 {G : Gm} {w : Wt} {r : Int32} {a0 : Int32} {a1 : Int32} (h : f_J9_max_7cf53 a0 a1 = some r) : Ci G yJ9_max_7cf53 cJ9_max_7cf53 2 (some .int) rm_J9_max_7cf53 [.int a0, .int a1] w r w 0 0 := by
  refine v_entI [(0, .int a0), (1, .int a1)] (by decide +kernel) (Nat.le_of_ble_eq_true rfl) rfl ?_
  unfold f_J9_max_7cf53 at h
  refine v_iload_n 0 rfl dJ9_max_7cf53_0 rfl ?_
  refine v_iload_n 1 rfl dJ9_max_7cf53_1 rfl ?_
  refine v_icmp_lt 9 dJ9_max_7cf53_2 (by decide) rfl (fun c2 => ?_) (fun c2 => ?_)
  · have h := o_p c2 h
    refine v_iload_n 1 rfl dJ9_max_7cf53_9 rfl ?_
    obtain rfl := Option.some.inj h
    exact v_iret rfl rfl (Nat.le_of_ble_eq_true rfl) (Nat.le_of_ble_eq_true rfl) dJ9_max_7cf53_10
  · have h := o_n c2 h
    refine v_iload_n 0 rfl dJ9_max_7cf53_5 rfl ?_
    refine v_goto (q := 10) dJ9_max_7cf53_6 (by decide) ?_
    obtain rfl := Option.some.inj h
    exact v_iret rfl rfl (Nat.le_of_ble_eq_true rfl) (Nat.le_of_ble_eq_true rfl) dJ9_max_7cf53_10
def rm_X9_joinedWith : Room := { frames := 2, cells := 1, slots := 2, locals := 42 }
set_option maxRecDepth 100000 in
set_option maxHeartbeats 4000000 in
theorem k_X9_joinedWith {G : Gm} {μ : Mu} {o : Int64} {r : Nat} {σ' : Hp} {σ : Hp} {a0 : Nat} {a1 : Nat} (h : f_X9_joinedWith σ a0 a1 = some (r, σ')) : Cr G yX9_joinedWith cX9_joinedWith 2 (some (.object "OrderedTable$View")) rm_X9_joinedWith [.ref a0, .ref a1] (σ, μ, o) r (σ', μ, o) 1 2 := by
  refine v_entR [(0, .ref a0), (1, .ref a1)] (by decide +kernel) (Nat.le_of_ble_eq_true rfl) rfl ?_
  unfold f_X9_joinedWith at h
  obtain ⟨s0, e0, h⟩ := o_b h
  refine v_new (c' := 1) (k' := 2) (Option.some.inj e0) (by decide) qc_RX9_8 qb_9 qz_9 ⟨Nat.le_of_ble_eq_true rfl, Nat.le_of_ble_eq_true rfl⟩ rfl rfl dX9_joinedWith_0 rfl ?_
  refine v_dup rfl dX9_joinedWith_3 rfl ?_
  refine v_aload_n 0 rfl dX9_joinedWith_4 rfl ?_
  obtain ⟨v5, e5, h⟩ := o_b h
  refine v_getI e5 (by decide) (by decide) rfl qf_RX9_7 dX9_joinedWith_5 rfl ?_
  refine v_aload_n 1 rfl dX9_joinedWith_8 rfl ?_
  obtain ⟨v9, e9, h⟩ := o_b h
  refine v_getI e9 (by decide) (by decide) rfl qf_RX9_7 dX9_joinedWith_9 rfl ?_
  obtain ⟨v12, e12, h⟩ := o_b h
  refine v_Si (as := [.int v5, .int v9]) (st := [.ref (oN σ), .ref (oN σ)]) (c' := 1) (k' := 2) (k_J9_max_7cf53 e12) mk_J9_max_7cf53 qs_J9_max_7cf53 qm_RX9_20 (ck rfl) rfl dX9_joinedWith_12 rfl rfl rfl ?_
  refine v_aload_n 0 rfl dX9_joinedWith_15 rfl ?_
  obtain ⟨v16, e16, h⟩ := o_b h
  refine v_getI e16 (by decide) (by decide) rfl qf_RX9_13 dX9_joinedWith_16 rfl ?_
  refine v_aload_n 1 rfl dX9_joinedWith_19 rfl ?_
  obtain ⟨v20, e20, h⟩ := o_b h
  refine v_getI e20 (by decide) (by decide) rfl qf_RX9_13 dX9_joinedWith_20 rfl ?_
  obtain ⟨v23, e23, h⟩ := o_b h
  refine v_Si (as := [.int v16, .int v20]) (st := [.int v12, .ref (oN σ), .ref (oN σ)]) (c' := 1) (k' := 2) (k_J9_max_7cf53 e23) mk_J9_max_7cf53 qs_J9_max_7cf53 qm_RX9_20 (ck rfl) rfl dX9_joinedWith_23 rfl rfl rfl ?_
  obtain ⟨v26, e26, h⟩ := o_b h
  refine v_Iv (as := [.int v12, .int v23]) (st := [.ref (oN σ)]) (c' := 1) (k' := 2) (k_X9_init e26) mk_X9_init qi_X9_init rfl qm_RX9_26 (ck rfl) rfl dX9_joinedWith_26 rfl rfl rfl ?_
  obtain ⟨rfl, rfl⟩ := o_s h
  exact v_aret rfl (Nat.le_of_ble_eq_true rfl) (Nat.le_of_ble_eq_true rfl) dX9_joinedWith_29
def rm_X3_indexOf : Room := { frames := 0, cells := 0, slots := 0, locals := 0 }
set_option maxRecDepth 100000 in
set_option maxHeartbeats 4000000 in
theorem l_X3_indexOf_2 {G : Gm} {μ : Mu} {o : Int64} {r : Int32} {σ : Hp} : ∀ (n : Nat) {x0 : Nat} {x1 : Int32} {x2 : Int32} , f_X3_indexOf_2 n σ x0 x1 x2 = some r → V G yX3_indexOf cX3_indexOf 3 (some .int) rm_X3_indexOf (zI G r (σ, μ, o) 0 0) (σ, μ, o) 0 0 2 [(0, .ref x0), (1, .int x1), (2, .int x2)] [] := by
  intro n
  induction n with
  | zero => intro _ _ _ h; cases h
  | succ n ih =>
    intro x0 x1 x2 h
    replace h : b_X3_indexOf_2 (f_X3_indexOf_2 n) σ x0 x1 x2 = some r := h
    unfold b_X3_indexOf_2 at h
    refine v_iload_n 2 rfl dX3_indexOf_2 rfl ?_
    refine v_aload_n 0 rfl dX3_indexOf_3 rfl ?_
    obtain ⟨v4, e4, h⟩ := o_b h
    refine v_getI e4 (by decide) (by decide) rfl qf_RX3_25 dX3_indexOf_4 rfl ?_
    refine v_icmp_ge 28 dX3_indexOf_7 (by decide) rfl (fun c7 => ?_) (fun c7 => ?_)
    · have h := o_p c7 h
      refine v_iconst (v := (-1 : Int32)) (by decide) dX3_indexOf_28 rfl ?_
      obtain rfl := Option.some.inj h
      exact v_iret rfl rfl (Nat.le_of_ble_eq_true rfl) (Nat.le_of_ble_eq_true rfl) dX3_indexOf_29
    · have h := o_n c7 h
      refine v_aload_n 0 rfl dX3_indexOf_10 rfl ?_
      obtain ⟨v11, e11, h⟩ := o_b h
      refine v_getR e11 (by decide) (by decide) rfl qf_RX3_9 dX3_indexOf_11 rfl ?_
      refine v_iload_n 2 rfl dX3_indexOf_14 rfl ?_
      obtain ⟨v15, e15, h⟩ := o_b h
      refine v_aI e15 dX3_indexOf_15 rfl ?_
      refine v_iload_n 1 rfl dX3_indexOf_16 rfl ?_
      refine v_icmp_ne 22 dX3_indexOf_17 (by decide) rfl (fun c17 => ?_) (fun c17 => ?_)
      · have h := o_n c17 h
        refine v_iinc (v := (x2 + 1)) [(2, .int (x2 + 1)), (0, .ref x0), (1, .int x1)] 2 rfl rfl dX3_indexOf_22 rfl (by decide) rfl ?_
        refine v_goto (q := 2) dX3_indexOf_25 (by decide) ?_
        refine v_sub [1, 2, 0] rfl ?_
        exact ih h
      · have h := o_p c17 h
        refine v_iload_n 2 rfl dX3_indexOf_20 rfl ?_
        obtain rfl := Option.some.inj h
        exact v_iret rfl rfl (Nat.le_of_ble_eq_true rfl) (Nat.le_of_ble_eq_true rfl) dX3_indexOf_21
set_option maxRecDepth 100000 in
set_option maxHeartbeats 4000000 in
theorem k_X3_indexOf {G : Gm} {μ : Mu} {o : Int64} {r : Int32} {σ : Hp} {a0 : Nat} {a1 : Int32} (h : f_X3_indexOf σ a0 a1 = some r) : Ci G yX3_indexOf cX3_indexOf 3 (some .int) rm_X3_indexOf [.ref a0, .int a1] (σ, μ, o) r (σ, μ, o) 0 0 := by
  refine v_entI [(0, .ref a0), (1, .int a1)] (by decide +kernel) (Nat.le_of_ble_eq_true rfl) rfl ?_
  unfold f_X3_indexOf at h
  refine v_iconst (v := (0 : Int32)) (by decide) dX3_indexOf_0 rfl ?_
  refine v_istore_n [(2, .int (0 : Int32)), (0, .ref a0), (1, .int a1)] dX3_indexOf_1 rfl (by decide) rfl ?_
  refine v_sub [1, 2, 0] rfl ?_
  exact l_X3_indexOf_2 _ h
def rm_X3_has : Room := { frames := 1, cells := 0, slots := 0, locals := 22 }
set_option maxRecDepth 100000 in
set_option maxHeartbeats 4000000 in
theorem k_X3_has {G : Gm} {μ : Mu} {o : Int64} {r : Int32} {σ : Hp} {a0 : Nat} {a1 : Int32} (h : f_X3_has σ a0 a1 = some r) : Ci G yX3_has cX3_has 2 (some .boolean) rm_X3_has [.ref a0, .int a1] (σ, μ, o) r (σ, μ, o) 0 0 := by
  refine v_entI [(0, .ref a0), (1, .int a1)] (by decide +kernel) (Nat.le_of_ble_eq_true rfl) rfl ?_
  unfold f_X3_has at h
  refine v_aload_n 0 rfl dX3_has_0 rfl ?_
  refine v_iload_n 1 rfl dX3_has_1 rfl ?_
  obtain ⟨⟨⟩, g2, h⟩ := o_b h
  obtain ⟨v2, e2, h⟩ := o_b h
  refine v_Vi (as := [.int a1]) (st := []) (c' := 0) (k' := 0) (k_X3_indexOf e2) (rcv_c g2 (by decide) rfl) mk_X3_indexOf qi_X3_indexOf qe_X3_indexOf qm_RX3_18 (ck rfl) rfl dX3_has_2 rfl rfl rfl ?_
  refine v_iconst (v := (-1 : Int32)) (by decide) dX3_has_5 rfl ?_
  refine v_icmp_eq 13 dX3_has_6 (by decide) rfl (fun c6 => ?_) (fun c6 => ?_)
  · have h := o_p c6 h
    refine v_iconst (v := (0 : Int32)) (by decide) dX3_has_13 rfl ?_
    obtain rfl := Option.some.inj h
    exact v_iret rfl rfl (Nat.le_of_ble_eq_true rfl) (Nat.le_of_ble_eq_true rfl) dX3_has_14
  · have h := o_n c6 h
    refine v_iconst (v := (1 : Int32)) (by decide) dX3_has_9 rfl ?_
    refine v_goto (q := 14) dX3_has_10 (by decide) ?_
    obtain rfl := Option.some.inj h
    exact v_iret rfl rfl (Nat.le_of_ble_eq_true rfl) (Nat.le_of_ble_eq_true rfl) dX3_has_14
def rm_X3_remove : Room := { frames := 1, cells := 0, slots := 0, locals := 22 }
set_option maxRecDepth 100000 in
set_option maxHeartbeats 4000000 in
theorem k_X3_remove {G : Gm} {μ : Mu} {o : Int64} {r : Int32} {σ' : Hp} {σ : Hp} {a0 : Nat} {a1 : Int32} (h : f_X3_remove σ a0 a1 = some (r, σ')) : Ci G yX3_remove cX3_remove 4 (some .int) rm_X3_remove [.ref a0, .int a1] (σ, μ, o) r (σ', μ, o) 0 0 := by
  refine v_entI [(0, .ref a0), (1, .int a1)] (by decide +kernel) (Nat.le_of_ble_eq_true rfl) rfl ?_
  unfold f_X3_remove at h
  refine v_aload_n 0 rfl dX3_remove_0 rfl ?_
  refine v_iload_n 1 rfl dX3_remove_1 rfl ?_
  obtain ⟨⟨⟩, g2, h⟩ := o_b h
  obtain ⟨v2, e2, h⟩ := o_b h
  refine v_Vi (as := [.int a1]) (st := []) (c' := 0) (k' := 0) (k_X3_indexOf e2) (rcv_c g2 (by decide) rfl) mk_X3_indexOf qi_X3_indexOf qe_X3_indexOf qm_RX3_18 (ck rfl) rfl dX3_remove_2 rfl rfl rfl ?_
  refine v_istore_n [(2, .int v2), (0, .ref a0), (1, .int a1)] dX3_remove_5 rfl (by decide) rfl ?_
  refine v_iload_n 0 rfl dX3_remove_6 rfl ?_
  refine v_iconst (v := (-1 : Int32)) (by decide) dX3_remove_7 rfl ?_
  refine v_icmp_ne 13 dX3_remove_8 (by decide) rfl (fun c8 => ?_) (fun c8 => ?_)
  · have h := o_n c8 h
    refine v_aload_n 1 rfl dX3_remove_13 rfl ?_
    obtain ⟨v14, e14, h⟩ := o_b h
    refine v_getR e14 (by decide) (by decide) rfl qf_RX3_15 dX3_remove_14 rfl ?_
    refine v_iload_n 0 rfl dX3_remove_17 rfl ?_
    obtain ⟨v18, e18, h⟩ := o_b h
    refine v_aI e18 dX3_remove_18 rfl ?_
    refine v_istore_n [(3, .int v18), (2, .int v2), (0, .ref a0), (1, .int a1)] dX3_remove_19 rfl (by decide) rfl ?_
    refine v_aload_n 2 rfl dX3_remove_20 rfl ?_
    refine v_dup rfl dX3_remove_21 rfl ?_
    obtain ⟨v22, e22, h⟩ := o_b h
    refine v_getI e22 (by decide) (by decide) rfl qf_RX3_25 dX3_remove_22 rfl ?_
    refine v_iconst (v := (1 : Int32)) (by decide) dX3_remove_25 rfl ?_
    refine v_isub dX3_remove_26 rfl ?_
    obtain ⟨s27, e27, h⟩ := o_b h
    refine v_putI e27 (by decide) (by decide) rfl rfl rfl rfl rfl qf_RX3_25 dX3_remove_27 rfl ?_
    refine v_aload_n 2 rfl dX3_remove_30 rfl ?_
    obtain ⟨v31, e31, h⟩ := o_b h
    refine v_getR e31 (by decide) (by decide) rfl qf_RX3_9 dX3_remove_31 rfl ?_
    refine v_iload_n 1 rfl dX3_remove_34 rfl ?_
    refine v_aload_n 2 rfl dX3_remove_35 rfl ?_
    obtain ⟨v36, e36, h⟩ := o_b h
    refine v_getR e36 (by decide) (by decide) rfl qf_RX3_9 dX3_remove_36 rfl ?_
    refine v_aload_n 2 rfl dX3_remove_39 rfl ?_
    obtain ⟨v40, e40, h⟩ := o_b h
    refine v_getI e40 (by decide) (by decide) rfl qf_RX3_25 dX3_remove_40 rfl ?_
    obtain ⟨v43, e43, h⟩ := o_b h
    refine v_aI e43 dX3_remove_43 rfl ?_
    obtain ⟨s44, e44, h⟩ := o_b h
    refine v_qI e44 dX3_remove_44 rfl ?_
    refine v_aload_n 2 rfl dX3_remove_45 rfl ?_
    obtain ⟨v46, e46, h⟩ := o_b h
    refine v_getR e46 (by decide) (by decide) rfl qf_RX3_15 dX3_remove_46 rfl ?_
    refine v_iload_n 1 rfl dX3_remove_49 rfl ?_
    refine v_aload_n 2 rfl dX3_remove_50 rfl ?_
    obtain ⟨v51, e51, h⟩ := o_b h
    refine v_getR e51 (by decide) (by decide) rfl qf_RX3_15 dX3_remove_51 rfl ?_
    refine v_aload_n 2 rfl dX3_remove_54 rfl ?_
    obtain ⟨v55, e55, h⟩ := o_b h
    refine v_getI e55 (by decide) (by decide) rfl qf_RX3_25 dX3_remove_55 rfl ?_
    obtain ⟨v58, e58, h⟩ := o_b h
    refine v_aI e58 dX3_remove_58 rfl ?_
    obtain ⟨s59, e59, h⟩ := o_b h
    refine v_qI e59 dX3_remove_59 rfl ?_
    refine v_iload_n 0 rfl dX3_remove_60 rfl ?_
    obtain ⟨rfl, rfl⟩ := o_s h
    exact v_iret rfl rfl (Nat.le_of_ble_eq_true rfl) (Nat.le_of_ble_eq_true rfl) dX3_remove_61
  · have h := o_p c8 h
    refine v_iconst (v := (0 : Int32)) (by decide) dX3_remove_11 rfl ?_
    obtain ⟨rfl, rfl⟩ := o_s h
    exact v_iret rfl rfl (Nat.le_of_ble_eq_true rfl) (Nat.le_of_ble_eq_true rfl) dX3_remove_12
def rm_X3_put : Room := { frames := 2, cells := 0, slots := 0, locals := 45 }
set_option maxRecDepth 100000 in
set_option maxHeartbeats 4000000 in
theorem k_X3_put {G : Gm} {μ : Mu} {o : Int64} {σ' : Hp} {σ : Hp} {a0 : Nat} {a1 : Int32} {a2 : Int32} (h : f_X3_put σ a0 a1 a2 = some σ') : Cv G yX3_put cX3_put 3 none rm_X3_put [.ref a0, .int a1, .int a2] (σ, μ, o) (σ', μ, o) 0 0 := by
  refine v_entV [(0, .ref a0), (1, .int a1), (2, .int a2)] (by decide +kernel) (Nat.le_of_ble_eq_true rfl) rfl ?_
  unfold f_X3_put at h
  refine v_aload_n 0 rfl dX3_put_0 rfl ?_
  refine v_iload_n 1 rfl dX3_put_1 rfl ?_
  obtain ⟨⟨⟩, g2, h⟩ := o_b h
  obtain ⟨v2, e2, h⟩ := o_b h
  refine v_Vi (as := [.int a1]) (st := []) (c' := 0) (k' := 0) (k_X3_remove e2) (rcv_c g2 (by decide) rfl) mk_X3_remove qi_X3_remove qe_X3_remove qm_RX3_22 (ck rfl) rfl dX3_put_2 rfl rfl rfl ?_
  refine v_pop rfl dX3_put_5 rfl ?_
  refine v_aload_n 0 rfl dX3_put_6 rfl ?_
  obtain ⟨v7, e7, h⟩ := o_b h
  refine v_getI e7 (by decide) (by decide) rfl qf_RX3_25 dX3_put_7 rfl ?_
  refine v_bipush (v := (8 : Int32)) (by decide) dX3_put_10 rfl ?_
  refine v_icmp_gt 45 dX3_put_12 (by decide) rfl (fun c12 => ?_) (fun c12 => ?_)
  · have h := o_p c12 h
    obtain rfl := Option.some.inj h
    exact v_vret rfl (Nat.le_of_ble_eq_true rfl) (Nat.le_of_ble_eq_true rfl) dX3_put_45
  · have h := o_n c12 h
    refine v_aload_n 0 rfl dX3_put_15 rfl ?_
    obtain ⟨v16, e16, h⟩ := o_b h
    refine v_getR e16 (by decide) (by decide) rfl qf_RX3_9 dX3_put_16 rfl ?_
    refine v_aload_n 0 rfl dX3_put_19 rfl ?_
    obtain ⟨v20, e20, h⟩ := o_b h
    refine v_getI e20 (by decide) (by decide) rfl qf_RX3_25 dX3_put_20 rfl ?_
    refine v_iload_n 1 rfl dX3_put_23 rfl ?_
    obtain ⟨s24, e24, h⟩ := o_b h
    refine v_qI e24 dX3_put_24 rfl ?_
    refine v_aload_n 0 rfl dX3_put_25 rfl ?_
    obtain ⟨v26, e26, h⟩ := o_b h
    refine v_getR e26 (by decide) (by decide) rfl qf_RX3_15 dX3_put_26 rfl ?_
    refine v_aload_n 0 rfl dX3_put_29 rfl ?_
    obtain ⟨v30, e30, h⟩ := o_b h
    refine v_getI e30 (by decide) (by decide) rfl qf_RX3_25 dX3_put_30 rfl ?_
    refine v_iload_n 2 rfl dX3_put_33 rfl ?_
    obtain ⟨s34, e34, h⟩ := o_b h
    refine v_qI e34 dX3_put_34 rfl ?_
    refine v_aload_n 0 rfl dX3_put_35 rfl ?_
    refine v_dup rfl dX3_put_36 rfl ?_
    obtain ⟨v37, e37, h⟩ := o_b h
    refine v_getI e37 (by decide) (by decide) rfl qf_RX3_25 dX3_put_37 rfl ?_
    refine v_iconst (v := (1 : Int32)) (by decide) dX3_put_40 rfl ?_
    refine v_iadd dX3_put_41 rfl ?_
    obtain ⟨s42, e42, h⟩ := o_b h
    refine v_putI e42 (by decide) (by decide) rfl rfl rfl rfl rfl qf_RX3_25 dX3_put_42 rfl ?_
    obtain rfl := Option.some.inj h
    exact v_vret rfl (Nat.le_of_ble_eq_true rfl) (Nat.le_of_ble_eq_true rfl) dX3_put_45
def rm_X4_has : Room := { frames := 0, cells := 0, slots := 0, locals := 0 }
set_option maxRecDepth 100000 in
set_option maxHeartbeats 4000000 in
theorem k_X4_has {G : Gm} {μ : Mu} {o : Int64} {r : Int32} {σ : Hp} {a0 : Nat} {a1 : Int32} (h : f_X4_has σ a0 a1 = some r) : Ci G yX4_has cX4_has 2 (some .boolean) rm_X4_has [.ref a0, .int a1] (σ, μ, o) r (σ, μ, o) 0 0 := by
  refine v_entI [(0, .ref a0), (1, .int a1)] (by decide +kernel) (Nat.le_of_ble_eq_true rfl) rfl ?_
  unfold f_X4_has at h
  refine v_iload_n 1 rfl dX4_has_0 rfl ?_
  refine v_iconst (v := (1 : Int32)) (by decide) dX4_has_1 rfl ?_
  refine v_icmp_lt 17 dX4_has_2 (by decide) rfl (fun c2 => ?_) (fun c2 => ?_)
  · have h := o_p c2 h
    refine v_iconst (v := (0 : Int32)) (by decide) dX4_has_17 rfl ?_
    obtain rfl := Option.some.inj h
    exact v_iret rfl rfl (Nat.le_of_ble_eq_true rfl) (Nat.le_of_ble_eq_true rfl) dX4_has_18
  · have h := o_n c2 h
    refine v_iload_n 1 rfl dX4_has_5 rfl ?_
    refine v_aload_n 0 rfl dX4_has_6 rfl ?_
    obtain ⟨v7, e7, h⟩ := o_b h
    refine v_getI e7 (by decide) (by decide) rfl qf_RX4_15 dX4_has_7 rfl ?_
    refine v_icmp_gt 17 dX4_has_10 (by decide) rfl (fun c10 => ?_) (fun c10 => ?_)
    · have h := o_p c10 h
      refine v_iconst (v := (0 : Int32)) (by decide) dX4_has_17 rfl ?_
      obtain rfl := Option.some.inj h
      exact v_iret rfl rfl (Nat.le_of_ble_eq_true rfl) (Nat.le_of_ble_eq_true rfl) dX4_has_18
    · have h := o_n c10 h
      refine v_iconst (v := (1 : Int32)) (by decide) dX4_has_13 rfl ?_
      refine v_goto (q := 18) dX4_has_14 (by decide) ?_
      obtain rfl := Option.some.inj h
      exact v_iret rfl rfl (Nat.le_of_ble_eq_true rfl) (Nat.le_of_ble_eq_true rfl) dX4_has_18
def rm_X4_isFull : Room := { frames := 0, cells := 0, slots := 0, locals := 0 }
set_option maxRecDepth 100000 in
set_option maxHeartbeats 4000000 in
theorem k_X4_isFull {G : Gm} {μ : Mu} {o : Int64} {r : Int32} {σ : Hp} {a0 : Nat} (h : f_X4_isFull σ a0 = some r) : Ci G yX4_isFull cX4_isFull 1 (some .boolean) rm_X4_isFull [.ref a0] (σ, μ, o) r (σ, μ, o) 0 0 := by
  refine v_entI [(0, .ref a0)] (by decide +kernel) (Nat.le_of_ble_eq_true rfl) rfl ?_
  unfold f_X4_isFull at h
  refine v_aload_n 0 rfl dX4_isFull_0 rfl ?_
  obtain ⟨v1, e1, h⟩ := o_b h
  refine v_getI e1 (by decide) (by decide) rfl qf_RX4_15 dX4_isFull_1 rfl ?_
  refine v_bipush (v := (100 : Int32)) (by decide) dX4_isFull_4 rfl ?_
  refine v_icmp_lt 13 dX4_isFull_6 (by decide) rfl (fun c6 => ?_) (fun c6 => ?_)
  · have h := o_p c6 h
    refine v_iconst (v := (0 : Int32)) (by decide) dX4_isFull_13 rfl ?_
    obtain rfl := Option.some.inj h
    exact v_iret rfl rfl (Nat.le_of_ble_eq_true rfl) (Nat.le_of_ble_eq_true rfl) dX4_isFull_14
  · have h := o_n c6 h
    refine v_iconst (v := (1 : Int32)) (by decide) dX4_isFull_9 rfl ?_
    refine v_goto (q := 14) dX4_isFull_10 (by decide) ?_
    obtain rfl := Option.some.inj h
    exact v_iret rfl rfl (Nat.le_of_ble_eq_true rfl) (Nat.le_of_ble_eq_true rfl) dX4_isFull_14
def rm_X4_at : Room := { frames := 0, cells := 0, slots := 0, locals := 0 }
set_option maxRecDepth 100000 in
set_option maxHeartbeats 4000000 in
theorem k_X4_at {G : Gm} {μ : Mu} {o : Int64} {r : Int32} {σ : Hp} {a0 : Nat} {a1 : Int32} (h : f_X4_at σ a0 a1 = some r) : Ci G yX4_at cX4_at 2 (some .int) rm_X4_at [.ref a0, .int a1] (σ, μ, o) r (σ, μ, o) 0 0 := by
  refine v_entI [(0, .ref a0), (1, .int a1)] (by decide +kernel) (Nat.le_of_ble_eq_true rfl) rfl ?_
  unfold f_X4_at at h
  refine v_iload_n 1 rfl dX4_at_0 rfl ?_
  refine v_iconst (v := (1 : Int32)) (by decide) dX4_at_1 rfl ?_
  refine v_icmp_lt 24 dX4_at_2 (by decide) rfl (fun c2 => ?_) (fun c2 => ?_)
  · have h := o_p c2 h
    refine v_iconst (v := (0 : Int32)) (by decide) dX4_at_24 rfl ?_
    obtain rfl := Option.some.inj h
    exact v_iret rfl rfl (Nat.le_of_ble_eq_true rfl) (Nat.le_of_ble_eq_true rfl) dX4_at_25
  · have h := o_n c2 h
    refine v_iload_n 1 rfl dX4_at_5 rfl ?_
    refine v_aload_n 0 rfl dX4_at_6 rfl ?_
    obtain ⟨v7, e7, h⟩ := o_b h
    refine v_getI e7 (by decide) (by decide) rfl qf_RX4_15 dX4_at_7 rfl ?_
    refine v_icmp_gt 24 dX4_at_10 (by decide) rfl (fun c10 => ?_) (fun c10 => ?_)
    · have h := o_p c10 h
      refine v_iconst (v := (0 : Int32)) (by decide) dX4_at_24 rfl ?_
      obtain rfl := Option.some.inj h
      exact v_iret rfl rfl (Nat.le_of_ble_eq_true rfl) (Nat.le_of_ble_eq_true rfl) dX4_at_25
    · have h := o_n c10 h
      refine v_aload_n 0 rfl dX4_at_13 rfl ?_
      obtain ⟨v14, e14, h⟩ := o_b h
      refine v_getR e14 (by decide) (by decide) rfl qf_RX4_9 dX4_at_14 rfl ?_
      refine v_iload_n 1 rfl dX4_at_17 rfl ?_
      refine v_iconst (v := (1 : Int32)) (by decide) dX4_at_18 rfl ?_
      refine v_isub dX4_at_19 rfl ?_
      obtain ⟨v20, e20, h⟩ := o_b h
      refine v_aI e20 dX4_at_20 rfl ?_
      refine v_goto (q := 25) dX4_at_21 (by decide) ?_
      obtain rfl := Option.some.inj h
      exact v_iret rfl rfl (Nat.le_of_ble_eq_true rfl) (Nat.le_of_ble_eq_true rfl) dX4_at_25
def rm_X4_put : Room := { frames := 1, cells := 0, slots := 0, locals := 21 }
set_option maxRecDepth 100000 in
set_option maxHeartbeats 4000000 in
theorem k_X4_put {G : Gm} {μ : Mu} {o : Int64} {σ' : Hp} {σ : Hp} {a0 : Nat} {a1 : Int32} {a2 : Int32} (h : f_X4_put σ a0 a1 a2 = some σ') : Cv G yX4_put cX4_put 3 none rm_X4_put [.ref a0, .int a1, .int a2] (σ, μ, o) (σ', μ, o) 0 0 := by
  refine v_entV [(0, .ref a0), (1, .int a1), (2, .int a2)] (by decide +kernel) (Nat.le_of_ble_eq_true rfl) rfl ?_
  unfold f_X4_put at h
  refine v_iload_n 1 rfl dX4_put_0 rfl ?_
  refine v_iconst (v := (1 : Int32)) (by decide) dX4_put_1 rfl ?_
  refine v_icmp_lt 21 dX4_put_2 (by decide) rfl (fun c2 => ?_) (fun c2 => ?_)
  · have h := o_p c2 h
    obtain rfl := Option.some.inj h
    exact v_vret rfl (Nat.le_of_ble_eq_true rfl) (Nat.le_of_ble_eq_true rfl) dX4_put_21
  · have h := o_n c2 h
    refine v_iload_n 1 rfl dX4_put_5 rfl ?_
    refine v_bipush (v := (100 : Int32)) (by decide) dX4_put_6 rfl ?_
    refine v_icmp_gt 21 dX4_put_8 (by decide) rfl (fun c8 => ?_) (fun c8 => ?_)
    · have h := o_p c8 h
      obtain rfl := Option.some.inj h
      exact v_vret rfl (Nat.le_of_ble_eq_true rfl) (Nat.le_of_ble_eq_true rfl) dX4_put_21
    · have h := o_n c8 h
      refine v_iload_n 1 rfl dX4_put_11 rfl ?_
      refine v_aload_n 0 rfl dX4_put_12 rfl ?_
      obtain ⟨v13, e13, h⟩ := o_b h
      refine v_getI e13 (by decide) (by decide) rfl qf_RX4_15 dX4_put_13 rfl ?_
      refine v_iconst (v := (1 : Int32)) (by decide) dX4_put_16 rfl ?_
      refine v_iadd dX4_put_17 rfl ?_
      refine v_icmp_le 22 dX4_put_18 (by decide) rfl (fun c18 => ?_) (fun c18 => ?_)
      · have h := o_p c18 h
        refine v_aload_n 0 rfl dX4_put_22 rfl ?_
        obtain ⟨v23, e23, h⟩ := o_b h
        refine v_getR e23 (by decide) (by decide) rfl qf_RX4_9 dX4_put_23 rfl ?_
        refine v_iload_n 1 rfl dX4_put_26 rfl ?_
        refine v_iconst (v := (1 : Int32)) (by decide) dX4_put_27 rfl ?_
        refine v_isub dX4_put_28 rfl ?_
        refine v_iload_n 2 rfl dX4_put_29 rfl ?_
        obtain ⟨s30, e30, h⟩ := o_b h
        refine v_qI e30 dX4_put_30 rfl ?_
        refine v_aload_n 0 rfl dX4_put_31 rfl ?_
        refine v_aload_n 0 rfl dX4_put_32 rfl ?_
        obtain ⟨v33, e33, h⟩ := o_b h
        refine v_getI e33 (by decide) (by decide) rfl qf_RX4_15 dX4_put_33 rfl ?_
        refine v_iload_n 1 rfl dX4_put_36 rfl ?_
        obtain ⟨v37, e37, h⟩ := o_b h
        refine v_Si (as := [.int v33, .int a1]) (st := [.ref a0]) (c' := 0) (k' := 0) (k_J9_max_7cf53 e37) mk_J9_max_7cf53 qs_J9_max_7cf53 qm_RX4_19 (ck rfl) rfl dX4_put_37 rfl rfl rfl ?_
        obtain ⟨s40, e40, h⟩ := o_b h
        refine v_putI e40 (by decide) (by decide) rfl rfl rfl rfl rfl qf_RX4_15 dX4_put_40 rfl ?_
        obtain rfl := Option.some.inj h
        exact v_vret rfl (Nat.le_of_ble_eq_true rfl) (Nat.le_of_ble_eq_true rfl) dX4_put_43
      · have h := o_n c18 h
        obtain rfl := Option.some.inj h
        exact v_vret rfl (Nat.le_of_ble_eq_true rfl) (Nat.le_of_ble_eq_true rfl) dX4_put_21
def rm_X4_copy : Room := { frames := 1, cells := 0, slots := 0, locals := 38 }
set_option maxRecDepth 100000 in
set_option maxHeartbeats 4000000 in
theorem k_X4_copy {G : Gm} {μ : Mu} {o : Int64} {σ' : Hp} {σ : Hp} {a0 : Nat} {a1 : Nat} (h : f_X4_copy σ a0 a1 = some σ') : Cv G yX4_copy cX4_copy 2 none rm_X4_copy [.ref a0, .ref a1] (σ, μ, o) (σ', μ, o) 0 0 := by
  refine v_entV [(0, .ref a0), (1, .ref a1)] (by decide +kernel) (Nat.le_of_ble_eq_true rfl) rfl ?_
  unfold f_X4_copy at h
  refine v_aload_n 1 rfl dX4_copy_0 rfl ?_
  obtain ⟨v1, e1, h⟩ := o_b h
  refine v_getR e1 (by decide) (by decide) rfl qf_RX4_9 dX4_copy_1 rfl ?_
  refine v_iconst (v := (0 : Int32)) (by decide) dX4_copy_4 rfl ?_
  refine v_aload_n 0 rfl dX4_copy_5 rfl ?_
  obtain ⟨v6, e6, h⟩ := o_b h
  refine v_getR e6 (by decide) (by decide) rfl qf_RX4_9 dX4_copy_6 rfl ?_
  refine v_iconst (v := (0 : Int32)) (by decide) dX4_copy_9 rfl ?_
  refine v_aload_n 1 rfl dX4_copy_10 rfl ?_
  obtain ⟨v11, e11, h⟩ := o_b h
  refine v_getI e11 (by decide) (by decide) rfl qf_RX4_15 dX4_copy_11 rfl ?_
  obtain ⟨s14, e14, h⟩ := o_b h
  refine v_cp e14 qm_RX4_25 qn_copy qs_copy qz_system (Nat.le_of_ble_eq_true rfl) (by decide) dX4_copy_14 rfl ?_
  refine v_aload_n 0 rfl dX4_copy_17 rfl ?_
  refine v_aload_n 1 rfl dX4_copy_18 rfl ?_
  obtain ⟨v19, e19, h⟩ := o_b h
  refine v_getI e19 (by decide) (by decide) rfl qf_RX4_15 dX4_copy_19 rfl ?_
  obtain ⟨s22, e22, h⟩ := o_b h
  refine v_putI e22 (by decide) (by decide) rfl rfl rfl rfl rfl qf_RX4_15 dX4_copy_22 rfl ?_
  obtain rfl := Option.some.inj h
  exact v_vret rfl (Nat.le_of_ble_eq_true rfl) (Nat.le_of_ble_eq_true rfl) dX4_copy_25
def rm_J9_min_7cf53 : Room := { frames := 0, cells := 0, slots := 0, locals := 0 }
set_option maxRecDepth 100000 in
set_option maxHeartbeats 4000000 in
theorem k_J9_min_7cf53 {G : Gm} {w : Wt} {r : Int32} {a0 : Int32} {a1 : Int32} (h : f_J9_min_7cf53 a0 a1 = some r) : Ci G yJ9_min_7cf53 cJ9_min_7cf53 2 (some .int) rm_J9_min_7cf53 [.int a0, .int a1] w r w 0 0 := by
  refine v_entI [(0, .int a0), (1, .int a1)] (by decide +kernel) (Nat.le_of_ble_eq_true rfl) rfl ?_
  unfold f_J9_min_7cf53 at h
  refine v_iload_n 0 rfl dJ9_min_7cf53_0 rfl ?_
  refine v_iload_n 1 rfl dJ9_min_7cf53_1 rfl ?_
  refine v_icmp_gt 9 dJ9_min_7cf53_2 (by decide) rfl (fun c2 => ?_) (fun c2 => ?_)
  · have h := o_p c2 h
    refine v_iload_n 1 rfl dJ9_min_7cf53_9 rfl ?_
    obtain rfl := Option.some.inj h
    exact v_iret rfl rfl (Nat.le_of_ble_eq_true rfl) (Nat.le_of_ble_eq_true rfl) dJ9_min_7cf53_10
  · have h := o_n c2 h
    refine v_iload_n 0 rfl dJ9_min_7cf53_5 rfl ?_
    refine v_goto (q := 10) dJ9_min_7cf53_6 (by decide) ?_
    obtain rfl := Option.some.inj h
    exact v_iret rfl rfl (Nat.le_of_ble_eq_true rfl) (Nat.le_of_ble_eq_true rfl) dJ9_min_7cf53_10
def rm_X4_copyFirst : Room := { frames := 1, cells := 0, slots := 0, locals := 38 }
set_option maxRecDepth 100000 in
set_option maxHeartbeats 4000000 in
theorem k_X4_copyFirst {G : Gm} {μ : Mu} {o : Int64} {σ' : Hp} {σ : Hp} {a0 : Nat} {a1 : Nat} {a2 : Int32} (h : f_X4_copyFirst σ a0 a1 a2 = some σ') : Cv G yX4_copyFirst cX4_copyFirst 3 none rm_X4_copyFirst [.ref a0, .ref a1, .int a2] (σ, μ, o) (σ', μ, o) 0 0 := by
  refine v_entV [(0, .ref a0), (1, .ref a1), (2, .int a2)] (by decide +kernel) (Nat.le_of_ble_eq_true rfl) rfl ?_
  unfold f_X4_copyFirst at h
  refine v_aload_n 1 rfl dX4_copyFirst_0 rfl ?_
  obtain ⟨v1, e1, h⟩ := o_b h
  refine v_getR e1 (by decide) (by decide) rfl qf_RX4_9 dX4_copyFirst_1 rfl ?_
  refine v_iconst (v := (0 : Int32)) (by decide) dX4_copyFirst_4 rfl ?_
  refine v_aload_n 0 rfl dX4_copyFirst_5 rfl ?_
  obtain ⟨v6, e6, h⟩ := o_b h
  refine v_getR e6 (by decide) (by decide) rfl qf_RX4_9 dX4_copyFirst_6 rfl ?_
  refine v_iconst (v := (0 : Int32)) (by decide) dX4_copyFirst_9 rfl ?_
  refine v_iload_n 2 rfl dX4_copyFirst_10 rfl ?_
  refine v_aload_n 1 rfl dX4_copyFirst_11 rfl ?_
  obtain ⟨v12, e12, h⟩ := o_b h
  refine v_getI e12 (by decide) (by decide) rfl qf_RX4_15 dX4_copyFirst_12 rfl ?_
  obtain ⟨v15, e15, h⟩ := o_b h
  refine v_Si (as := [.int a2, .int v12]) (st := [.int (0 : Int32), .ref v6, .int (0 : Int32), .ref v1]) (c' := 0) (k' := 0) (k_J9_min_7cf53 e15) mk_J9_min_7cf53 qs_J9_min_7cf53 qm_RX4_31 (ck rfl) rfl dX4_copyFirst_15 rfl rfl rfl ?_
  obtain ⟨s18, e18, h⟩ := o_b h
  refine v_cp e18 qm_RX4_25 qn_copy qs_copy qz_system (Nat.le_of_ble_eq_true rfl) (by decide) dX4_copyFirst_18 rfl ?_
  obtain rfl := Option.some.inj h
  exact v_vret rfl (Nat.le_of_ble_eq_true rfl) (Nat.le_of_ble_eq_true rfl) dX4_copyFirst_21
def rm_X7_add : Room := { frames := 0, cells := 0, slots := 0, locals := 0 }
set_option maxRecDepth 100000 in
set_option maxHeartbeats 4000000 in
theorem k_X7_add {G : Gm} {μ : Mu} {o : Int64} {r : Int32} {σ' : Hp} {σ : Hp} {a0 : Nat} {a1 : Int32} {a2 : Int32} {a3 : Int32} {a4 : Int32} {a5 : Int32} (h : f_X7_add σ a0 a1 a2 a3 a4 a5 = some (r, σ')) : Ci G yX7_add cX7_add 6 (some .int) rm_X7_add [.ref a0, .int a1, .int a2, .int a3, .int a4, .int a5] (σ, μ, o) r (σ', μ, o) 0 0 := by
  refine v_entI [(0, .ref a0), (1, .int a1), (2, .int a2), (3, .int a3), (4, .int a4), (5, .int a5)] (by decide +kernel) (Nat.le_of_ble_eq_true rfl) rfl ?_
  unfold f_X7_add at h
  refine v_aload_n 0 rfl dX7_add_0 rfl ?_
  obtain ⟨v1, e1, h⟩ := o_b h
  refine v_getI e1 (by decide) (by decide) rfl qf_RX7_27 dX7_add_1 rfl ?_
  refine v_sipush (v := (512 : Int32)) (by decide) dX7_add_4 rfl ?_
  refine v_icmp_lt 12 dX7_add_7 (by decide) rfl (fun c7 => ?_) (fun c7 => ?_)
  · have h := o_p c7 h
    refine v_aload_n 0 rfl dX7_add_12 rfl ?_
    refine v_dup rfl dX7_add_13 rfl ?_
    obtain ⟨v14, e14, h⟩ := o_b h
    refine v_getI e14 (by decide) (by decide) rfl qf_RX7_27 dX7_add_14 rfl ?_
    refine v_iconst (v := (1 : Int32)) (by decide) dX7_add_17 rfl ?_
    refine v_iadd dX7_add_18 rfl ?_
    obtain ⟨s19, e19, h⟩ := o_b h
    refine v_putI e19 (by decide) (by decide) rfl rfl rfl rfl rfl qf_RX7_27 dX7_add_19 rfl ?_
    refine v_aload_n 0 rfl dX7_add_22 rfl ?_
    obtain ⟨v23, e23, h⟩ := o_b h
    refine v_getR e23 (by decide) (by decide) rfl qf_RX7_9 dX7_add_23 rfl ?_
    refine v_aload_n 0 rfl dX7_add_26 rfl ?_
    obtain ⟨v27, e27, h⟩ := o_b h
    refine v_getI e27 (by decide) (by decide) rfl qf_RX7_27 dX7_add_27 rfl ?_
    refine v_iload_n 1 rfl dX7_add_30 rfl ?_
    obtain ⟨s31, e31, h⟩ := o_b h
    refine v_qI e31 dX7_add_31 rfl ?_
    refine v_aload_n 0 rfl dX7_add_32 rfl ?_
    obtain ⟨v33, e33, h⟩ := o_b h
    refine v_getR e33 (by decide) (by decide) rfl qf_RX7_15 dX7_add_33 rfl ?_
    refine v_aload_n 0 rfl dX7_add_36 rfl ?_
    obtain ⟨v37, e37, h⟩ := o_b h
    refine v_getI e37 (by decide) (by decide) rfl qf_RX7_27 dX7_add_37 rfl ?_
    refine v_iload_n 2 rfl dX7_add_40 rfl ?_
    obtain ⟨s41, e41, h⟩ := o_b h
    refine v_qI e41 dX7_add_41 rfl ?_
    refine v_aload_n 0 rfl dX7_add_42 rfl ?_
    obtain ⟨v43, e43, h⟩ := o_b h
    refine v_getR e43 (by decide) (by decide) rfl qf_RX7_18 dX7_add_43 rfl ?_
    refine v_aload_n 0 rfl dX7_add_46 rfl ?_
    obtain ⟨v47, e47, h⟩ := o_b h
    refine v_getI e47 (by decide) (by decide) rfl qf_RX7_27 dX7_add_47 rfl ?_
    refine v_iload_n 3 rfl dX7_add_50 rfl ?_
    obtain ⟨s51, e51, h⟩ := o_b h
    refine v_qI e51 dX7_add_51 rfl ?_
    refine v_aload_n 0 rfl dX7_add_52 rfl ?_
    obtain ⟨v53, e53, h⟩ := o_b h
    refine v_getR e53 (by decide) (by decide) rfl qf_RX7_21 dX7_add_53 rfl ?_
    refine v_aload_n 0 rfl dX7_add_56 rfl ?_
    obtain ⟨v57, e57, h⟩ := o_b h
    refine v_getI e57 (by decide) (by decide) rfl qf_RX7_27 dX7_add_57 rfl ?_
    refine v_iload 4 rfl dX7_add_60 rfl ?_
    obtain ⟨s62, e62, h⟩ := o_b h
    refine v_qI e62 dX7_add_62 rfl ?_
    refine v_aload_n 0 rfl dX7_add_63 rfl ?_
    obtain ⟨v64, e64, h⟩ := o_b h
    refine v_getR e64 (by decide) (by decide) rfl qf_RX7_24 dX7_add_64 rfl ?_
    refine v_aload_n 0 rfl dX7_add_67 rfl ?_
    obtain ⟨v68, e68, h⟩ := o_b h
    refine v_getI e68 (by decide) (by decide) rfl qf_RX7_27 dX7_add_68 rfl ?_
    refine v_iload 5 rfl dX7_add_71 rfl ?_
    obtain ⟨s73, e73, h⟩ := o_b h
    refine v_qI e73 dX7_add_73 rfl ?_
    refine v_aload_n 0 rfl dX7_add_74 rfl ?_
    obtain ⟨v75, e75, h⟩ := o_b h
    refine v_getI e75 (by decide) (by decide) rfl qf_RX7_27 dX7_add_75 rfl ?_
    obtain ⟨rfl, rfl⟩ := o_s h
    exact v_iret rfl rfl (Nat.le_of_ble_eq_true rfl) (Nat.le_of_ble_eq_true rfl) dX7_add_78
  · have h := o_n c7 h
    refine v_iconst (v := (0 : Int32)) (by decide) dX7_add_10 rfl ?_
    obtain ⟨rfl, rfl⟩ := o_s h
    exact v_iret rfl rfl (Nat.le_of_ble_eq_true rfl) (Nat.le_of_ble_eq_true rfl) dX7_add_11
def rm_X8_clear : Room := { frames := 0, cells := 0, slots := 0, locals := 0 }
set_option maxRecDepth 100000 in
set_option maxHeartbeats 4000000 in
theorem k_X8_clear {G : Gm} {μ : Mu} {o : Int64} {σ' : Hp} {σ : Hp} {a0 : Nat} (h : f_X8_clear σ a0 = some σ') : Cv G yX8_clear cX8_clear 1 none rm_X8_clear [.ref a0] (σ, μ, o) (σ', μ, o) 0 0 := by
  refine v_entV [(0, .ref a0)] (by decide +kernel) (Nat.le_of_ble_eq_true rfl) rfl ?_
  unfold f_X8_clear at h
  refine v_aload_n 0 rfl dX8_clear_0 rfl ?_
  refine v_iconst (v := (0 : Int32)) (by decide) dX8_clear_1 rfl ?_
  obtain ⟨s2, e2, h⟩ := o_b h
  refine v_putI e2 (by decide) (by decide) rfl rfl rfl rfl rfl qf_RX8_26 dX8_clear_2 rfl ?_
  refine v_aload_n 0 rfl dX8_clear_5 rfl ?_
  refine v_iconst (v := (0 : Int32)) (by decide) dX8_clear_6 rfl ?_
  obtain ⟨s7, e7, h⟩ := o_b h
  refine v_putI e7 (by decide) (by decide) rfl rfl rfl rfl rfl qf_RX8_30 dX8_clear_7 rfl ?_
  refine v_aload_n 0 rfl dX8_clear_10 rfl ?_
  refine v_iconst (v := (0 : Int32)) (by decide) dX8_clear_11 rfl ?_
  obtain ⟨s12, e12, h⟩ := o_b h
  refine v_putI e12 (by decide) (by decide) rfl rfl rfl rfl rfl qf_RX8_33 dX8_clear_12 rfl ?_
  obtain rfl := Option.some.inj h
  exact v_vret rfl (Nat.le_of_ble_eq_true rfl) (Nat.le_of_ble_eq_true rfl) dX8_clear_15
def rm_X8_addSyncReply : Room := { frames := 0, cells := 0, slots := 0, locals := 0 }
set_option maxRecDepth 100000 in
set_option maxHeartbeats 4000000 in
theorem l_X8_addSyncReply_18 {G : Gm} {μ : Mu} {o : Int64} {σ' : Hp} {σ : Hp} {x0 : Nat} {x1 : Int32} (h : f_X8_addSyncReply_18 σ x0 x1 = some σ') : V G yX8_addSyncReply cX8_addSyncReply 3 none rm_X8_addSyncReply (zV G (σ', μ, o) 0 0) (σ, μ, o) 0 0 18 [(0, .ref x0), (1, .int x1)] [] := by
  unfold f_X8_addSyncReply_18 at h
  refine v_aload_n 0 rfl dX8_addSyncReply_18 rfl ?_
  refine v_dup rfl dX8_addSyncReply_19 rfl ?_
  obtain ⟨v20, e20, h⟩ := o_b h
  refine v_getI e20 (by decide) (by decide) rfl qf_RX8_30 dX8_addSyncReply_20 rfl ?_
  refine v_iconst (v := (1 : Int32)) (by decide) dX8_addSyncReply_23 rfl ?_
  refine v_iload_n 1 rfl dX8_addSyncReply_24 rfl ?_
  refine v_ishl dX8_addSyncReply_25 rfl ?_
  refine v_ior dX8_addSyncReply_26 rfl ?_
  obtain ⟨s27, e27, h⟩ := o_b h
  refine v_putI e27 (by decide) (by decide) rfl rfl rfl rfl rfl qf_RX8_30 dX8_addSyncReply_27 rfl ?_
  obtain rfl := Option.some.inj h
  exact v_vret rfl (Nat.le_of_ble_eq_true rfl) (Nat.le_of_ble_eq_true rfl) dX8_addSyncReply_30
set_option maxRecDepth 100000 in
set_option maxHeartbeats 4000000 in
theorem k_X8_addSyncReply {G : Gm} {μ : Mu} {o : Int64} {σ' : Hp} {σ : Hp} {a0 : Nat} {a1 : Int32} {a2 : Int32} (h : f_X8_addSyncReply σ a0 a1 a2 = some σ') : Cv G yX8_addSyncReply cX8_addSyncReply 3 none rm_X8_addSyncReply [.ref a0, .int a1, .int a2] (σ, μ, o) (σ', μ, o) 0 0 := by
  refine v_entV [(0, .ref a0), (1, .int a1), (2, .int a2)] (by decide +kernel) (Nat.le_of_ble_eq_true rfl) rfl ?_
  unfold f_X8_addSyncReply at h
  refine v_iload_n 2 rfl dX8_addSyncReply_0 rfl ?_
  refine v_aload_n 0 rfl dX8_addSyncReply_1 rfl ?_
  obtain ⟨v2, e2, h⟩ := o_b h
  refine v_getI e2 (by decide) (by decide) rfl qf_RX8_36 dX8_addSyncReply_2 rfl ?_
  refine v_icmp_eq 18 dX8_addSyncReply_5 (by decide) rfl (fun c5 => ?_) (fun c5 => ?_)
  · have h := o_p c5 h
    refine v_sub [0, 1] rfl ?_
    exact l_X8_addSyncReply_18 h
  · have h := o_n c5 h
    refine v_aload_n 0 rfl dX8_addSyncReply_8 rfl ?_
    refine v_iload_n 2 rfl dX8_addSyncReply_9 rfl ?_
    obtain ⟨s10, e10, h⟩ := o_b h
    refine v_putI e10 (by decide) (by decide) rfl rfl rfl rfl rfl qf_RX8_36 dX8_addSyncReply_10 rfl ?_
    refine v_aload_n 0 rfl dX8_addSyncReply_13 rfl ?_
    refine v_iconst (v := (0 : Int32)) (by decide) dX8_addSyncReply_14 rfl ?_
    obtain ⟨s15, e15, h⟩ := o_b h
    refine v_putI e15 (by decide) (by decide) rfl rfl rfl rfl rfl qf_RX8_30 dX8_addSyncReply_15 rfl ?_
    refine v_sub [0, 1] rfl ?_
    exact l_X8_addSyncReply_18 h
def rm_X8_addTurned : Room := { frames := 2, cells := 0, slots := 0, locals := 59 }
set_option maxRecDepth 100000 in
set_option maxHeartbeats 4000000 in
theorem k_X8_addTurned {G : Gm} {μ : Mu} {o : Int64} {σ' : Hp} {σ : Hp} {a0 : Nat} {a1 : Nat} (h : f_X8_addTurned σ a0 a1 = some σ') : Cv G yX8_addTurned cX8_addTurned 2 none rm_X8_addTurned [.ref a0, .ref a1] (σ, μ, o) (σ', μ, o) 0 0 := by
  refine v_entV [(0, .ref a0), (1, .ref a1)] (by decide +kernel) (Nat.le_of_ble_eq_true rfl) rfl ?_
  unfold f_X8_addTurned at h
  refine v_aload_n 0 rfl dX8_addTurned_0 rfl ?_
  refine v_dup rfl dX8_addTurned_1 rfl ?_
  obtain ⟨v2, e2, h⟩ := o_b h
  refine v_getI e2 (by decide) (by decide) rfl qf_RX8_33 dX8_addTurned_2 rfl ?_
  refine v_iconst (v := (1 : Int32)) (by decide) dX8_addTurned_5 rfl ?_
  refine v_aload_n 1 rfl dX8_addTurned_6 rfl ?_
  obtain ⟨v7, e7, h⟩ := o_b h
  refine v_getI e7 (by decide) (by decide) rfl qf_RX8_39 dX8_addTurned_7 rfl ?_
  refine v_ishl dX8_addTurned_10 rfl ?_
  refine v_ior dX8_addTurned_11 rfl ?_
  obtain ⟨s12, e12, h⟩ := o_b h
  refine v_putI e12 (by decide) (by decide) rfl rfl rfl rfl rfl qf_RX8_33 dX8_addTurned_12 rfl ?_
  refine v_aload_n 0 rfl dX8_addTurned_15 rfl ?_
  obtain ⟨v16, e16, h⟩ := o_b h
  refine v_getR e16 (by decide) (by decide) rfl qf_RX8_9 dX8_addTurned_16 rfl ?_
  refine v_aload_n 1 rfl dX8_addTurned_19 rfl ?_
  obtain ⟨v20, e20, h⟩ := o_b h
  refine v_getI e20 (by decide) (by decide) rfl qf_RX8_39 dX8_addTurned_20 rfl ?_
  refine v_aload_n 1 rfl dX8_addTurned_23 rfl ?_
  obtain ⟨v24, e24, h⟩ := o_b h
  refine v_getR e24 (by decide) (by decide) rfl qf_RX8_44 dX8_addTurned_24 rfl ?_
  obtain ⟨s27, e27, h⟩ := o_b h
  refine v_qR e27 (by decide) (by decide) (by decide) rfl dX8_addTurned_27 rfl ?_
  refine v_aload_n 0 rfl dX8_addTurned_28 rfl ?_
  obtain ⟨v29, e29, h⟩ := o_b h
  refine v_getR e29 (by decide) (by decide) rfl qf_RX8_15 dX8_addTurned_29 rfl ?_
  refine v_aload_n 1 rfl dX8_addTurned_32 rfl ?_
  obtain ⟨v33, e33, h⟩ := o_b h
  refine v_getI e33 (by decide) (by decide) rfl qf_RX8_39 dX8_addTurned_33 rfl ?_
  refine v_aload_n 1 rfl dX8_addTurned_36 rfl ?_
  obtain ⟨v37, e37, h⟩ := o_b h
  refine v_getI e37 (by decide) (by decide) rfl qf_RX8_48 dX8_addTurned_37 rfl ?_
  obtain ⟨s40, e40, h⟩ := o_b h
  refine v_qI e40 dX8_addTurned_40 rfl ?_
  refine v_aload_n 0 rfl dX8_addTurned_41 rfl ?_
  obtain ⟨v42, e42, h⟩ := o_b h
  refine v_getR e42 (by decide) (by decide) rfl qf_RX8_21 dX8_addTurned_42 rfl ?_
  refine v_aload_n 1 rfl dX8_addTurned_45 rfl ?_
  obtain ⟨v46, e46, h⟩ := o_b h
  refine v_getI e46 (by decide) (by decide) rfl qf_RX8_39 dX8_addTurned_46 rfl ?_
  obtain ⟨v49, e49, h⟩ := o_b h
  refine v_aR e49 (by decide) (by decide) rfl dX8_addTurned_49 rfl ?_
  refine v_aload_n 1 rfl dX8_addTurned_50 rfl ?_
  obtain ⟨v51, e51, h⟩ := o_b h
  refine v_getR e51 (by decide) (by decide) rfl qf_RX8_51 dX8_addTurned_51 rfl ?_
  obtain ⟨⟨⟩, g54, h⟩ := o_b h
  obtain ⟨v54, e54, h⟩ := o_b h
  refine v_Vv (as := [.ref v51]) (st := []) (c' := 0) (k' := 0) (k_X4_copy e54) (rcv_c g54 (by decide) rfl) mk_X4_copy qi_X4_copy qe_X4_copy qm_RX8_55 (ck rfl) rfl dX8_addTurned_54 rfl rfl rfl ?_
  obtain rfl := Option.some.inj h
  exact v_vret rfl (Nat.le_of_ble_eq_true rfl) (Nat.le_of_ble_eq_true rfl) dX8_addTurned_57
def rm_X8_hasTurned : Room := { frames := 0, cells := 0, slots := 0, locals := 0 }
set_option maxRecDepth 100000 in
set_option maxHeartbeats 4000000 in
theorem k_X8_hasTurned {G : Gm} {μ : Mu} {o : Int64} {r : Int32} {σ : Hp} {a0 : Nat} {a1 : Int32} (h : f_X8_hasTurned σ a0 a1 = some r) : Ci G yX8_hasTurned cX8_hasTurned 2 (some .boolean) rm_X8_hasTurned [.ref a0, .int a1] (σ, μ, o) r (σ, μ, o) 0 0 := by
  refine v_entI [(0, .ref a0), (1, .int a1)] (by decide +kernel) (Nat.le_of_ble_eq_true rfl) rfl ?_
  unfold f_X8_hasTurned at h
  refine v_aload_n 0 rfl dX8_hasTurned_0 rfl ?_
  obtain ⟨v1, e1, h⟩ := o_b h
  refine v_getI e1 (by decide) (by decide) rfl qf_RX8_33 dX8_hasTurned_1 rfl ?_
  refine v_iconst (v := (1 : Int32)) (by decide) dX8_hasTurned_4 rfl ?_
  refine v_iload_n 1 rfl dX8_hasTurned_5 rfl ?_
  refine v_ishl dX8_hasTurned_6 rfl ?_
  refine v_iand dX8_hasTurned_7 rfl ?_
  refine v_if_eq 15 dX8_hasTurned_8 (by decide) rfl (fun c8 => ?_) (fun c8 => ?_)
  · have h := o_p c8 h
    refine v_iconst (v := (0 : Int32)) (by decide) dX8_hasTurned_15 rfl ?_
    obtain rfl := Option.some.inj h
    exact v_iret rfl rfl (Nat.le_of_ble_eq_true rfl) (Nat.le_of_ble_eq_true rfl) dX8_hasTurned_16
  · have h := o_n c8 h
    refine v_iconst (v := (1 : Int32)) (by decide) dX8_hasTurned_11 rfl ?_
    refine v_goto (q := 16) dX8_hasTurned_12 (by decide) ?_
    obtain rfl := Option.some.inj h
    exact v_iret rfl rfl (Nat.le_of_ble_eq_true rfl) (Nat.le_of_ble_eq_true rfl) dX8_hasTurned_16
def rm_J7_fill_53178 : Room := { frames := 0, cells := 0, slots := 0, locals := 0 }
set_option maxRecDepth 100000 in
set_option maxHeartbeats 4000000 in
theorem l_J7_fill_53178_5 {G : Gm} {μ : Mu} {o : Int64} {σ' : Hp} : ∀ (n : Nat) {σ : Hp} {x0 : Nat} {x1 : Int32} {x2 : Int32} {x3 : Int32} , f_J7_fill_53178_5 n σ x0 x1 x2 x3 = some σ' → V G yJ7_fill_53178 cJ7_fill_53178 4 none rm_J7_fill_53178 (zV G (σ', μ, o) 0 0) (σ, μ, o) 0 0 5 [(0, .ref x0), (1, .int x1), (2, .int x2), (3, .int x3)] [] := by
  intro n
  induction n with
  | zero => intro _ _ _ _ _ h; cases h
  | succ n ih =>
    intro σ x0 x1 x2 x3 h
    replace h : b_J7_fill_53178_5 (f_J7_fill_53178_5 n) σ x0 x1 x2 x3 = some σ' := h
    unfold b_J7_fill_53178_5 at h
    refine v_iload_n 2 rfl dJ7_fill_53178_5 rfl ?_
    refine v_iload_n 3 rfl dJ7_fill_53178_6 rfl ?_
    refine v_icmp_ge 20 dJ7_fill_53178_7 (by decide) rfl (fun c7 => ?_) (fun c7 => ?_)
    · have h := o_p c7 h
      obtain rfl := Option.some.inj h
      exact v_vret rfl (Nat.le_of_ble_eq_true rfl) (Nat.le_of_ble_eq_true rfl) dJ7_fill_53178_20
    · have h := o_n c7 h
      refine v_aload_n 0 rfl dJ7_fill_53178_10 rfl ?_
      refine v_iload_n 2 rfl dJ7_fill_53178_11 rfl ?_
      refine v_iload_n 1 rfl dJ7_fill_53178_12 rfl ?_
      obtain ⟨s13, e13, h⟩ := o_b h
      refine v_qI e13 dJ7_fill_53178_13 rfl ?_
      refine v_iinc (v := (x2 + 1)) [(2, .int (x2 + 1)), (0, .ref x0), (1, .int x1), (3, .int x3)] 2 rfl rfl dJ7_fill_53178_14 rfl (by decide) rfl ?_
      refine v_goto (q := 5) dJ7_fill_53178_17 (by decide) ?_
      refine v_sub [1, 2, 0, 3] rfl ?_
      exact ih h
set_option maxRecDepth 100000 in
set_option maxHeartbeats 4000000 in
theorem k_J7_fill_53178 {G : Gm} {μ : Mu} {o : Int64} {σ' : Hp} {σ : Hp} {a0 : Nat} {a1 : Int32} (h : f_J7_fill_53178 σ a0 a1 = some σ') : Cv G yJ7_fill_53178 cJ7_fill_53178 4 none rm_J7_fill_53178 [.ref a0, .int a1] (σ, μ, o) (σ', μ, o) 0 0 := by
  refine v_entV [(0, .ref a0), (1, .int a1)] (by decide +kernel) (Nat.le_of_ble_eq_true rfl) rfl ?_
  unfold f_J7_fill_53178 at h
  refine v_iconst (v := (0 : Int32)) (by decide) dJ7_fill_53178_0 rfl ?_
  refine v_istore_n [(2, .int (0 : Int32)), (0, .ref a0), (1, .int a1)] dJ7_fill_53178_1 rfl (by decide) rfl ?_
  refine v_aload_n 1 rfl dJ7_fill_53178_2 rfl ?_
  obtain ⟨v3, e3, h⟩ := o_b h
  refine v_aL e3 (by decide) (by decide) rfl dJ7_fill_53178_3 rfl ?_
  refine v_istore_n [(3, .int v3), (2, .int (0 : Int32)), (0, .ref a0), (1, .int a1)] dJ7_fill_53178_4 rfl (by decide) rfl ?_
  refine v_sub [2, 3, 1, 0] rfl ?_
  exact l_J7_fill_53178_5 _ h
def rm_X10_isNew : Room := { frames := 0, cells := 0, slots := 0, locals := 0 }
set_option maxRecDepth 100000 in
set_option maxHeartbeats 4000000 in
theorem k_X10_isNew {G : Gm} {μ : Mu} {o : Int64} {r : Int32} {σ : Hp} {a0 : Nat} {a1 : Int32} (h : f_X10_isNew σ a0 a1 = some r) : Ci G yX10_isNew cX10_isNew 2 (some .boolean) rm_X10_isNew [.ref a0, .int a1] (σ, μ, o) r (σ, μ, o) 0 0 := by
  refine v_entI [(0, .ref a0), (1, .int a1)] (by decide +kernel) (Nat.le_of_ble_eq_true rfl) rfl ?_
  unfold f_X10_isNew at h
  refine v_aload_n 0 rfl dX10_isNew_0 rfl ?_
  obtain ⟨v1, e1, h⟩ := o_b h
  refine v_getR e1 (by decide) (by decide) rfl qf_RX10_24 dX10_isNew_1 rfl ?_
  obtain ⟨v4, e4, h⟩ := o_b h
  refine v_getR e4 (by decide) (by decide) rfl qf_RX10_53 dX10_isNew_4 rfl ?_
  refine v_iload_n 1 rfl dX10_isNew_7 rfl ?_
  obtain ⟨v8, e8, h⟩ := o_b h
  refine v_aI e8 dX10_isNew_8 rfl ?_
  refine v_aload_n 0 rfl dX10_isNew_9 rfl ?_
  obtain ⟨v10, e10, h⟩ := o_b h
  refine v_getR e10 (by decide) (by decide) rfl qf_RX10_24 dX10_isNew_10 rfl ?_
  obtain ⟨v13, e13, h⟩ := o_b h
  refine v_getR e13 (by decide) (by decide) rfl qf_RX10_53 dX10_isNew_13 rfl ?_
  refine v_aload_n 0 rfl dX10_isNew_16 rfl ?_
  obtain ⟨v17, e17, h⟩ := o_b h
  refine v_getR e17 (by decide) (by decide) rfl qf_RX10_15 dX10_isNew_17 rfl ?_
  refine v_aload_n 0 rfl dX10_isNew_20 rfl ?_
  obtain ⟨v21, e21, h⟩ := o_b h
  refine v_getR e21 (by decide) (by decide) rfl qf_RX10_24 dX10_isNew_21 rfl ?_
  obtain ⟨v24, e24, h⟩ := o_b h
  refine v_getR e24 (by decide) (by decide) rfl qf_RX10_48 dX10_isNew_24 rfl ?_
  refine v_iload_n 1 rfl dX10_isNew_27 rfl ?_
  obtain ⟨v28, e28, h⟩ := o_b h
  refine v_aI e28 dX10_isNew_28 rfl ?_
  obtain ⟨v29, e29, h⟩ := o_b h
  refine v_aI e29 dX10_isNew_29 rfl ?_
  obtain ⟨v30, e30, h⟩ := o_b h
  refine v_aI e30 dX10_isNew_30 rfl ?_
  refine v_icmp_le 38 dX10_isNew_31 (by decide) rfl (fun c31 => ?_) (fun c31 => ?_)
  · have h := o_p c31 h
    refine v_iconst (v := (0 : Int32)) (by decide) dX10_isNew_38 rfl ?_
    obtain rfl := Option.some.inj h
    exact v_iret rfl rfl (Nat.le_of_ble_eq_true rfl) (Nat.le_of_ble_eq_true rfl) dX10_isNew_39
  · have h := o_n c31 h
    refine v_iconst (v := (1 : Int32)) (by decide) dX10_isNew_34 rfl ?_
    refine v_goto (q := 39) dX10_isNew_35 (by decide) ?_
    obtain rfl := Option.some.inj h
    exact v_iret rfl rfl (Nat.le_of_ble_eq_true rfl) (Nat.le_of_ble_eq_true rfl) dX10_isNew_39
def rm_X10_executeRequest : Room := { frames := 0, cells := 0, slots := 0, locals := 0 }
set_option maxRecDepth 100000 in
set_option maxHeartbeats 4000000 in
theorem k_X10_executeRequest {G : Gm} {μ : Mu} {o : Int64} {σ' : Hp} {σ : Hp} {a0 : Nat} {a1 : Int32} (h : f_X10_executeRequest σ a0 a1 = some σ') : Cv G yX10_executeRequest cX10_executeRequest 3 none rm_X10_executeRequest [.ref a0, .int a1] (σ, μ, o) (σ', μ, o) 0 0 := by
  refine v_entV [(0, .ref a0), (1, .int a1)] (by decide +kernel) (Nat.le_of_ble_eq_true rfl) rfl ?_
  unfold f_X10_executeRequest at h
  refine v_aload_n 0 rfl dX10_executeRequest_0 rfl ?_
  obtain ⟨v1, e1, h⟩ := o_b h
  refine v_getR e1 (by decide) (by decide) rfl qf_RX10_24 dX10_executeRequest_1 rfl ?_
  obtain ⟨v4, e4, h⟩ := o_b h
  refine v_getR e4 (by decide) (by decide) rfl qf_RX10_56 dX10_executeRequest_4 rfl ?_
  refine v_iload_n 1 rfl dX10_executeRequest_7 rfl ?_
  obtain ⟨v8, e8, h⟩ := o_b h
  refine v_aI e8 dX10_executeRequest_8 rfl ?_
  refine v_istore_n [(2, .int v8), (0, .ref a0), (1, .int a1)] dX10_executeRequest_9 rfl (by decide) rfl ?_
  refine v_aload_n 1 rfl dX10_executeRequest_10 rfl ?_
  obtain ⟨v11, e11, h⟩ := o_b h
  refine v_getR e11 (by decide) (by decide) rfl qf_RX10_15 dX10_executeRequest_11 rfl ?_
  refine v_aload_n 1 rfl dX10_executeRequest_14 rfl ?_
  obtain ⟨v15, e15, h⟩ := o_b h
  refine v_getR e15 (by decide) (by decide) rfl qf_RX10_24 dX10_executeRequest_15 rfl ?_
  obtain ⟨v18, e18, h⟩ := o_b h
  refine v_getR e18 (by decide) (by decide) rfl qf_RX10_48 dX10_executeRequest_18 rfl ?_
  refine v_iload_n 2 rfl dX10_executeRequest_21 rfl ?_
  obtain ⟨v22, e22, h⟩ := o_b h
  refine v_aI e22 dX10_executeRequest_22 rfl ?_
  refine v_iload_n 2 rfl dX10_executeRequest_23 rfl ?_
  obtain ⟨s24, e24, h⟩ := o_b h
  refine v_qI e24 dX10_executeRequest_24 rfl ?_
  refine v_aload_n 1 rfl dX10_executeRequest_25 rfl ?_
  obtain ⟨v26, e26, h⟩ := o_b h
  refine v_getR e26 (by decide) (by decide) rfl qf_RX10_18 dX10_executeRequest_26 rfl ?_
  refine v_iload_n 2 rfl dX10_executeRequest_29 rfl ?_
  refine v_iconst (v := (1 : Int32)) (by decide) dX10_executeRequest_30 rfl ?_
  obtain ⟨s31, e31, h⟩ := o_b h
  refine v_qI e31 dX10_executeRequest_31 rfl ?_
  refine v_aload_n 1 rfl dX10_executeRequest_32 rfl ?_
  obtain ⟨v33, e33, h⟩ := o_b h
  refine v_getR e33 (by decide) (by decide) rfl qf_RX10_21 dX10_executeRequest_33 rfl ?_
  refine v_iload_n 2 rfl dX10_executeRequest_36 rfl ?_
  refine v_aload_n 1 rfl dX10_executeRequest_37 rfl ?_
  obtain ⟨v38, e38, h⟩ := o_b h
  refine v_getR e38 (by decide) (by decide) rfl qf_RX10_9 dX10_executeRequest_38 rfl ?_
  refine v_iload_n 0 rfl dX10_executeRequest_41 rfl ?_
  obtain ⟨v42, e42, h⟩ := o_b h
  refine v_aI e42 dX10_executeRequest_42 rfl ?_
  obtain ⟨s43, e43, h⟩ := o_b h
  refine v_qI e43 dX10_executeRequest_43 rfl ?_
  refine v_aload_n 1 rfl dX10_executeRequest_44 rfl ?_
  obtain ⟨v45, e45, h⟩ := o_b h
  refine v_getR e45 (by decide) (by decide) rfl qf_RX10_24 dX10_executeRequest_45 rfl ?_
  obtain ⟨v48, e48, h⟩ := o_b h
  refine v_getR e48 (by decide) (by decide) rfl qf_RX10_59 dX10_executeRequest_48 rfl ?_
  refine v_iload_n 2 rfl dX10_executeRequest_51 rfl ?_
  obtain ⟨v52, e52, h⟩ := o_b h
  refine v_aI e52 dX10_executeRequest_52 rfl ?_
  refine v_iconst (v := (1 : Int32)) (by decide) dX10_executeRequest_53 rfl ?_
  refine v_icmp_ne 75 dX10_executeRequest_54 (by decide) rfl (fun c54 => ?_) (fun c54 => ?_)
  · have h := o_n c54 h
    refine v_aload_n 1 rfl dX10_executeRequest_75 rfl ?_
    obtain ⟨v76, e76, h⟩ := o_b h
    refine v_getR e76 (by decide) (by decide) rfl qf_RX10_24 dX10_executeRequest_76 rfl ?_
    obtain ⟨v79, e79, h⟩ := o_b h
    refine v_getR e79 (by decide) (by decide) rfl qf_RX10_59 dX10_executeRequest_79 rfl ?_
    refine v_iload_n 2 rfl dX10_executeRequest_82 rfl ?_
    obtain ⟨v83, e83, h⟩ := o_b h
    refine v_aI e83 dX10_executeRequest_83 rfl ?_
    refine v_iconst (v := (2 : Int32)) (by decide) dX10_executeRequest_84 rfl ?_
    refine v_icmp_ne 106 dX10_executeRequest_85 (by decide) rfl (fun c85 => ?_) (fun c85 => ?_)
    · have h := o_n c85 h
      obtain rfl := Option.some.inj h
      exact v_vret rfl (Nat.le_of_ble_eq_true rfl) (Nat.le_of_ble_eq_true rfl) dX10_executeRequest_106
    · have h := o_p c85 h
      refine v_aload_n 1 rfl dX10_executeRequest_88 rfl ?_
      obtain ⟨v89, e89, h⟩ := o_b h
      refine v_getR e89 (by decide) (by decide) rfl qf_RX10_9 dX10_executeRequest_89 rfl ?_
      refine v_iload_n 0 rfl dX10_executeRequest_92 rfl ?_
      refine v_dup2 rfl rfl dX10_executeRequest_93 rfl ?_
      obtain ⟨v94, e94, h⟩ := o_b h
      refine v_aI e94 dX10_executeRequest_94 rfl ?_
      refine v_aload_n 1 rfl dX10_executeRequest_95 rfl ?_
      obtain ⟨v96, e96, h⟩ := o_b h
      refine v_getR e96 (by decide) (by decide) rfl qf_RX10_24 dX10_executeRequest_96 rfl ?_
      obtain ⟨v99, e99, h⟩ := o_b h
      refine v_getR e99 (by decide) (by decide) rfl qf_RX10_62 dX10_executeRequest_99 rfl ?_
      refine v_iload_n 2 rfl dX10_executeRequest_102 rfl ?_
      obtain ⟨v103, e103, h⟩ := o_b h
      refine v_aI e103 dX10_executeRequest_103 rfl ?_
      refine v_iadd dX10_executeRequest_104 rfl ?_
      obtain ⟨s105, e105, h⟩ := o_b h
      refine v_qI e105 dX10_executeRequest_105 rfl ?_
      obtain rfl := Option.some.inj h
      exact v_vret rfl (Nat.le_of_ble_eq_true rfl) (Nat.le_of_ble_eq_true rfl) dX10_executeRequest_106
  · have h := o_p c54 h
    refine v_aload_n 1 rfl dX10_executeRequest_57 rfl ?_
    obtain ⟨v58, e58, h⟩ := o_b h
    refine v_getR e58 (by decide) (by decide) rfl qf_RX10_9 dX10_executeRequest_58 rfl ?_
    refine v_iload_n 0 rfl dX10_executeRequest_61 rfl ?_
    refine v_aload_n 1 rfl dX10_executeRequest_62 rfl ?_
    obtain ⟨v63, e63, h⟩ := o_b h
    refine v_getR e63 (by decide) (by decide) rfl qf_RX10_24 dX10_executeRequest_63 rfl ?_
    obtain ⟨v66, e66, h⟩ := o_b h
    refine v_getR e66 (by decide) (by decide) rfl qf_RX10_62 dX10_executeRequest_66 rfl ?_
    refine v_iload_n 2 rfl dX10_executeRequest_69 rfl ?_
    obtain ⟨v70, e70, h⟩ := o_b h
    refine v_aI e70 dX10_executeRequest_70 rfl ?_
    obtain ⟨s71, e71, h⟩ := o_b h
    refine v_qI e71 dX10_executeRequest_71 rfl ?_
    refine v_goto (q := 106) dX10_executeRequest_72 (by decide) ?_
    obtain rfl := Option.some.inj h
    exact v_vret rfl (Nat.le_of_ble_eq_true rfl) (Nat.le_of_ble_eq_true rfl) dX10_executeRequest_106
def rm_X10_execute : Room := { frames := 1, cells := 0, slots := 0, locals := 23 }
set_option maxRecDepth 100000 in
set_option maxHeartbeats 4000000 in
theorem l_X10_execute_58 {G : Gm} {μ : Mu} {o : Int64} {σ' : Hp} {rec26 : Hp → Nat → Nat → Int32 → Int32 → Option Hp} (h26 : ∀ {σ : Hp} {x0 : Nat} {x1 : Nat} {x2 : Int32} {x3 : Int32} , rec26 σ x0 x1 x2 x3 = some σ' → V G yX10_execute cX10_execute 5 none rm_X10_execute (zV G (σ', μ, o) 0 0) (σ, μ, o) 0 0 26 [(0, .ref x0), (1, .ref x1), (2, .int x2), (3, .int x3)] []) {σ : Hp} {x0 : Nat} {x1 : Nat} {x2 : Int32} {x3 : Int32} (h : f_X10_execute_58 rec26 σ x0 x1 x2 x3 = some σ') : V G yX10_execute cX10_execute 5 none rm_X10_execute (zV G (σ', μ, o) 0 0) (σ, μ, o) 0 0 58 [(0, .ref x0), (1, .ref x1), (2, .int x2), (3, .int x3)] [] := by
  unfold f_X10_execute_58 at h
  refine v_iinc (v := (x3 + 1)) [(3, .int (x3 + 1)), (0, .ref x0), (1, .ref x1), (2, .int x2)] 3 rfl rfl dX10_execute_58 rfl (by decide) rfl ?_
  refine v_goto (q := 26) dX10_execute_61 (by decide) ?_
  refine v_sub [1, 2, 3, 0] rfl ?_
  exact h26 h
set_option maxRecDepth 100000 in
set_option maxHeartbeats 4000000 in
theorem l_X10_execute_26 {G : Gm} {μ : Mu} {o : Int64} {σ' : Hp} : ∀ (n : Nat) {σ : Hp} {x0 : Nat} {x1 : Nat} {x2 : Int32} {x3 : Int32} , f_X10_execute_26 n σ x0 x1 x2 x3 = some σ' → V G yX10_execute cX10_execute 5 none rm_X10_execute (zV G (σ', μ, o) 0 0) (σ, μ, o) 0 0 26 [(0, .ref x0), (1, .ref x1), (2, .int x2), (3, .int x3)] [] := by
  intro n
  induction n with
  | zero => intro _ _ _ _ _ h; cases h
  | succ n ih =>
    intro σ x0 x1 x2 x3 h
    replace h : b_X10_execute_26 (f_X10_execute_26 n) σ x0 x1 x2 x3 = some σ' := h
    unfold b_X10_execute_26 at h
    refine v_iload_n 3 rfl dX10_execute_26 rfl ?_
    refine v_iload_n 2 rfl dX10_execute_27 rfl ?_
    refine v_icmp_gt 64 dX10_execute_28 (by decide) rfl (fun c28 => ?_) (fun c28 => ?_)
    · have h := o_p c28 h
      obtain rfl := Option.some.inj h
      exact v_vret rfl (Nat.le_of_ble_eq_true rfl) (Nat.le_of_ble_eq_true rfl) dX10_execute_64
    · have h := o_n c28 h
      refine v_aload_n 1 rfl dX10_execute_31 rfl ?_
      refine v_iload_n 3 rfl dX10_execute_32 rfl ?_
      obtain ⟨⟨⟩, g33, h⟩ := o_b h
      obtain ⟨v33, e33, h⟩ := o_b h
      refine v_Vi (as := [.int x3]) (st := []) (c' := 0) (k' := 0) (k_X4_at e33) (rcv_c g33 (by decide) rfl) mk_X4_at qi_X4_at qe_X4_at qm_RX10_34 (ck rfl) rfl dX10_execute_33 rfl rfl rfl ?_
      refine v_istore [(4, .int v33), (0, .ref x0), (1, .ref x1), (2, .int x2), (3, .int x3)] dX10_execute_36 rfl (by decide) rfl ?_
      refine v_iload 0 rfl dX10_execute_38 rfl ?_
      refine v_if_eq 58 dX10_execute_40 (by decide) rfl (fun c40 => ?_) (fun c40 => ?_)
      · have h := o_p c40 h
        refine v_sub [1, 2, 3, 4] rfl ?_
        exact l_X10_execute_58 (fun h => ih h) h
      · have h := o_n c40 h
        refine v_aload_n 1 rfl dX10_execute_43 rfl ?_
        refine v_iload 0 rfl dX10_execute_44 rfl ?_
        obtain ⟨⟨⟩, g46, h⟩ := o_b h
        obtain ⟨v46, e46, h⟩ := o_b h
        refine v_Vi (as := [.int v33]) (st := []) (c' := 0) (k' := 0) (k_X10_isNew e46) (rcv_c g46 (by decide) rfl) mk_X10_isNew qi_X10_isNew qe_X10_isNew qm_RX10_40 (ck rfl) rfl dX10_execute_46 rfl rfl rfl ?_
        refine v_if_eq 58 dX10_execute_49 (by decide) rfl (fun c49 => ?_) (fun c49 => ?_)
        · have h := o_p c49 h
          refine v_sub [1, 2, 3, 4] rfl ?_
          exact l_X10_execute_58 (fun h => ih h) h
        · have h := o_n c49 h
          refine v_aload_n 1 rfl dX10_execute_52 rfl ?_
          refine v_iload 0 rfl dX10_execute_53 rfl ?_
          obtain ⟨⟨⟩, g55, h⟩ := o_b h
          obtain ⟨v55, e55, h⟩ := o_b h
          refine v_Vv (as := [.int v33]) (st := []) (c' := 0) (k' := 0) (k_X10_executeRequest e55) (rcv_c g55 (by decide) rfl) mk_X10_executeRequest qi_X10_executeRequest qe_X10_executeRequest qm_RX10_44 (ck rfl) rfl dX10_execute_55 rfl rfl rfl ?_
          refine v_sub [1, 2, 3, 4] rfl ?_
          exact l_X10_execute_58 (fun h => ih h) h
set_option maxRecDepth 100000 in
set_option maxHeartbeats 4000000 in
theorem k_X10_execute {G : Gm} {μ : Mu} {o : Int64} {σ' : Hp} {σ : Hp} {a0 : Nat} {a1 : Nat} {a2 : Int32} (h : f_X10_execute σ a0 a1 a2 = some σ') : Cv G yX10_execute cX10_execute 5 none rm_X10_execute [.ref a0, .ref a1, .int a2] (σ, μ, o) (σ', μ, o) 0 0 := by
  refine v_entV [(0, .ref a0), (1, .ref a1), (2, .int a2)] (by decide +kernel) (Nat.le_of_ble_eq_true rfl) rfl ?_
  unfold f_X10_execute at h
  refine v_aload_n 0 rfl dX10_execute_0 rfl ?_
  obtain ⟨v1, e1, h⟩ := o_b h
  refine v_getR e1 (by decide) (by decide) rfl qf_RX10_9 dX10_execute_1 rfl ?_
  refine v_iconst (v := (0 : Int32)) (by decide) dX10_execute_4 rfl ?_
  obtain ⟨v5, e5, h⟩ := o_b h
  refine v_Sv (as := [.ref v1, .int (0 : Int32)]) (st := []) (c' := 0) (k' := 0) (k_J7_fill_53178 e5) mk_J7_fill_53178 qs_J7_fill_53178 qm_RX10_28 (ck rfl) rfl dX10_execute_5 rfl rfl rfl ?_
  refine v_aload_n 0 rfl dX10_execute_8 rfl ?_
  obtain ⟨v9, e9, h⟩ := o_b h
  refine v_getR e9 (by decide) (by decide) rfl qf_RX10_15 dX10_execute_9 rfl ?_
  refine v_iconst (v := (0 : Int32)) (by decide) dX10_execute_12 rfl ?_
  obtain ⟨v13, e13, h⟩ := o_b h
  refine v_Sv (as := [.ref v9, .int (0 : Int32)]) (st := []) (c' := 0) (k' := 0) (k_J7_fill_53178 e13) mk_J7_fill_53178 qs_J7_fill_53178 qm_RX10_28 (ck rfl) rfl dX10_execute_13 rfl rfl rfl ?_
  refine v_aload_n 0 rfl dX10_execute_16 rfl ?_
  obtain ⟨v17, e17, h⟩ := o_b h
  refine v_getR e17 (by decide) (by decide) rfl qf_RX10_18 dX10_execute_17 rfl ?_
  refine v_iconst (v := (0 : Int32)) (by decide) dX10_execute_20 rfl ?_
  obtain ⟨v21, e21, h⟩ := o_b h
  refine v_Sv (as := [.ref v17, .int (0 : Int32)]) (st := []) (c' := 0) (k' := 0) (k_J7_fill_53178 e21) mk_J7_fill_53178 qs_J7_fill_53178 qm_RX10_28 (ck rfl) rfl dX10_execute_21 rfl rfl rfl ?_
  refine v_iconst (v := (1 : Int32)) (by decide) dX10_execute_24 rfl ?_
  refine v_istore_n [(3, .int (1 : Int32)), (0, .ref a0), (1, .ref a1), (2, .int a2)] dX10_execute_25 rfl (by decide) rfl ?_
  refine v_sub [1, 2, 3, 0] rfl ?_
  exact l_X10_execute_26 _ h
def rm_X10_hasExecuted : Room := { frames := 0, cells := 0, slots := 0, locals := 0 }
set_option maxRecDepth 100000 in
set_option maxHeartbeats 4000000 in
theorem k_X10_hasExecuted {G : Gm} {μ : Mu} {o : Int64} {r : Int32} {σ : Hp} {a0 : Nat} {a1 : Int32} (h : f_X10_hasExecuted σ a0 a1 = some r) : Ci G yX10_hasExecuted cX10_hasExecuted 2 (some .boolean) rm_X10_hasExecuted [.ref a0, .int a1] (σ, μ, o) r (σ, μ, o) 0 0 := by
  refine v_entI [(0, .ref a0), (1, .int a1)] (by decide +kernel) (Nat.le_of_ble_eq_true rfl) rfl ?_
  unfold f_X10_hasExecuted at h
  refine v_aload_n 0 rfl dX10_hasExecuted_0 rfl ?_
  obtain ⟨v1, e1, h⟩ := o_b h
  refine v_getR e1 (by decide) (by decide) rfl qf_RX10_18 dX10_hasExecuted_1 rfl ?_
  refine v_iload_n 1 rfl dX10_hasExecuted_4 rfl ?_
  obtain ⟨v5, e5, h⟩ := o_b h
  refine v_aI e5 dX10_hasExecuted_5 rfl ?_
  refine v_if_eq 13 dX10_hasExecuted_6 (by decide) rfl (fun c6 => ?_) (fun c6 => ?_)
  · have h := o_p c6 h
    refine v_iconst (v := (0 : Int32)) (by decide) dX10_hasExecuted_13 rfl ?_
    obtain rfl := Option.some.inj h
    exact v_iret rfl rfl (Nat.le_of_ble_eq_true rfl) (Nat.le_of_ble_eq_true rfl) dX10_hasExecuted_14
  · have h := o_n c6 h
    refine v_iconst (v := (1 : Int32)) (by decide) dX10_hasExecuted_9 rfl ?_
    refine v_goto (q := 14) dX10_hasExecuted_10 (by decide) ?_
    obtain rfl := Option.some.inj h
    exact v_iret rfl rfl (Nat.le_of_ble_eq_true rfl) (Nat.le_of_ble_eq_true rfl) dX10_hasExecuted_14
def rm_X10_isLatest : Room := { frames := 0, cells := 0, slots := 0, locals := 0 }
set_option maxRecDepth 100000 in
set_option maxHeartbeats 4000000 in
theorem k_X10_isLatest {G : Gm} {μ : Mu} {o : Int64} {r : Int32} {σ : Hp} {a0 : Nat} {a1 : Int32} (h : f_X10_isLatest σ a0 a1 = some r) : Ci G yX10_isLatest cX10_isLatest 2 (some .boolean) rm_X10_isLatest [.ref a0, .int a1] (σ, μ, o) r (σ, μ, o) 0 0 := by
  refine v_entI [(0, .ref a0), (1, .int a1)] (by decide +kernel) (Nat.le_of_ble_eq_true rfl) rfl ?_
  unfold f_X10_isLatest at h
  refine v_aload_n 0 rfl dX10_isLatest_0 rfl ?_
  obtain ⟨v1, e1, h⟩ := o_b h
  refine v_getR e1 (by decide) (by decide) rfl qf_RX10_15 dX10_isLatest_1 rfl ?_
  refine v_aload_n 0 rfl dX10_isLatest_4 rfl ?_
  obtain ⟨v5, e5, h⟩ := o_b h
  refine v_getR e5 (by decide) (by decide) rfl qf_RX10_24 dX10_isLatest_5 rfl ?_
  obtain ⟨v8, e8, h⟩ := o_b h
  refine v_getR e8 (by decide) (by decide) rfl qf_RX10_48 dX10_isLatest_8 rfl ?_
  refine v_iload_n 1 rfl dX10_isLatest_11 rfl ?_
  obtain ⟨v12, e12, h⟩ := o_b h
  refine v_aI e12 dX10_isLatest_12 rfl ?_
  obtain ⟨v13, e13, h⟩ := o_b h
  refine v_aI e13 dX10_isLatest_13 rfl ?_
  refine v_iload_n 1 rfl dX10_isLatest_14 rfl ?_
  refine v_icmp_ne 22 dX10_isLatest_15 (by decide) rfl (fun c15 => ?_) (fun c15 => ?_)
  · have h := o_n c15 h
    refine v_iconst (v := (0 : Int32)) (by decide) dX10_isLatest_22 rfl ?_
    obtain rfl := Option.some.inj h
    exact v_iret rfl rfl (Nat.le_of_ble_eq_true rfl) (Nat.le_of_ble_eq_true rfl) dX10_isLatest_23
  · have h := o_p c15 h
    refine v_iconst (v := (1 : Int32)) (by decide) dX10_isLatest_18 rfl ?_
    refine v_goto (q := 23) dX10_isLatest_19 (by decide) ?_
    obtain rfl := Option.some.inj h
    exact v_iret rfl rfl (Nat.le_of_ble_eq_true rfl) (Nat.le_of_ble_eq_true rfl) dX10_isLatest_23
def rm_X10_answerTo : Room := { frames := 0, cells := 0, slots := 0, locals := 0 }
set_option maxRecDepth 100000 in
set_option maxHeartbeats 4000000 in
theorem k_X10_answerTo {G : Gm} {μ : Mu} {o : Int64} {r : Int32} {σ : Hp} {a0 : Nat} {a1 : Int32} (h : f_X10_answerTo σ a0 a1 = some r) : Ci G yX10_answerTo cX10_answerTo 2 (some .int) rm_X10_answerTo [.ref a0, .int a1] (σ, μ, o) r (σ, μ, o) 0 0 := by
  refine v_entI [(0, .ref a0), (1, .int a1)] (by decide +kernel) (Nat.le_of_ble_eq_true rfl) rfl ?_
  unfold f_X10_answerTo at h
  refine v_aload_n 0 rfl dX10_answerTo_0 rfl ?_
  obtain ⟨v1, e1, h⟩ := o_b h
  refine v_getR e1 (by decide) (by decide) rfl qf_RX10_21 dX10_answerTo_1 rfl ?_
  refine v_iload_n 1 rfl dX10_answerTo_4 rfl ?_
  obtain ⟨v5, e5, h⟩ := o_b h
  refine v_aI e5 dX10_answerTo_5 rfl ?_
  obtain rfl := Option.some.inj h
  exact v_iret rfl rfl (Nat.le_of_ble_eq_true rfl) (Nat.le_of_ble_eq_true rfl) dX10_answerTo_6
def rm_X1_send : Room := { frames := 0, cells := 0, slots := 0, locals := 0 }
set_option maxRecDepth 100000 in
set_option maxHeartbeats 4000000 in
theorem l_X1_send_50 {G : Gm} {μ : Mu} {o : Int64} {r : Nat} {σ' : Hp} {σ : Hp} {x0 : Nat} {x1 : Int32} {x2 : Int32} {x3 : Int32} {x4 : Nat} (h : f_X1_send_50 σ x0 x1 x2 x3 x4 = some (r, σ')) : V G yX1_send cX1_send 5 (some (.object "OrderedTable$Message")) rm_X1_send (zR G r (σ', μ, o) 0 0) (σ, μ, o) 0 0 50 [(0, .ref x0), (1, .int x1), (2, .int x2), (3, .int x3), (4, .ref x4)] [] := by
  unfold f_X1_send_50 at h
  refine v_aload 4 rfl dX1_send_50 rfl ?_
  refine v_aload_n 0 rfl dX1_send_52 rfl ?_
  obtain ⟨v53, e53, h⟩ := o_b h
  refine v_getI e53 (by decide) (by decide) rfl qf_RX1_32 dX1_send_53 rfl ?_
  obtain ⟨s56, e56, h⟩ := o_b h
  refine v_putI e56 (by decide) (by decide) rfl rfl rfl rfl rfl qf_RX1_35 dX1_send_56 rfl ?_
  refine v_aload_n 0 rfl dX1_send_59 rfl ?_
  refine v_dup rfl dX1_send_60 rfl ?_
  obtain ⟨v61, e61, h⟩ := o_b h
  refine v_getI e61 (by decide) (by decide) rfl qf_RX1_32 dX1_send_61 rfl ?_
  refine v_iconst (v := (1 : Int32)) (by decide) dX1_send_64 rfl ?_
  refine v_iadd dX1_send_65 rfl ?_
  obtain ⟨s66, e66, h⟩ := o_b h
  refine v_putI e66 (by decide) (by decide) rfl rfl rfl rfl rfl qf_RX1_32 dX1_send_66 rfl ?_
  refine v_aload 4 rfl dX1_send_69 rfl ?_
  refine v_iload_n 1 rfl dX1_send_71 rfl ?_
  obtain ⟨s72, e72, h⟩ := o_b h
  refine v_putI e72 (by decide) (by decide) rfl rfl rfl rfl rfl qf_RX1_38 dX1_send_72 rfl ?_
  refine v_aload 4 rfl dX1_send_75 rfl ?_
  refine v_iload_n 2 rfl dX1_send_77 rfl ?_
  obtain ⟨s78, e78, h⟩ := o_b h
  refine v_putI e78 (by decide) (by decide) rfl rfl rfl rfl rfl qf_RX1_41 dX1_send_78 rfl ?_
  refine v_aload 4 rfl dX1_send_81 rfl ?_
  refine v_iload_n 3 rfl dX1_send_83 rfl ?_
  obtain ⟨s84, e84, h⟩ := o_b h
  refine v_putI e84 (by decide) (by decide) rfl rfl rfl rfl rfl qf_RX1_44 dX1_send_84 rfl ?_
  refine v_aload 4 rfl dX1_send_87 rfl ?_
  obtain ⟨rfl, rfl⟩ := o_s h
  exact v_aret rfl (Nat.le_of_ble_eq_true rfl) (Nat.le_of_ble_eq_true rfl) dX1_send_89
set_option maxRecDepth 100000 in
set_option maxHeartbeats 4000000 in
theorem k_X1_send {G : Gm} {μ : Mu} {o : Int64} {r : Nat} {σ' : Hp} {σ : Hp} {a0 : Nat} {a1 : Int32} {a2 : Int32} {a3 : Int32} (h : f_X1_send σ a0 a1 a2 a3 = some (r, σ')) : Cr G yX1_send cX1_send 5 (some (.object "OrderedTable$Message")) rm_X1_send [.ref a0, .int a1, .int a2, .int a3] (σ, μ, o) r (σ', μ, o) 0 0 := by
  refine v_entR [(0, .ref a0), (1, .int a1), (2, .int a2), (3, .int a3)] (by decide +kernel) (Nat.le_of_ble_eq_true rfl) rfl ?_
  unfold f_X1_send at h
  refine v_aload_n 0 rfl dX1_send_0 rfl ?_
  obtain ⟨v1, e1, h⟩ := o_b h
  refine v_getR e1 (by decide) (by decide) rfl qf_RX1_22 dX1_send_1 rfl ?_
  refine v_astore [(4, .ref v1), (0, .ref a0), (1, .int a1), (2, .int a2), (3, .int a3)] dX1_send_4 rfl (by decide) rfl ?_
  refine v_aload_n 1 rfl dX1_send_6 rfl ?_
  obtain ⟨v7, e7, h⟩ := o_b h
  refine v_getI e7 (by decide) (by decide) rfl qf_RX1_25 dX1_send_7 rfl ?_
  refine v_sipush (v := (200 : Int32)) (by decide) dX1_send_10 rfl ?_
  refine v_icmp_ge 40 dX1_send_13 (by decide) rfl (fun c13 => ?_) (fun c13 => ?_)
  · have h := o_p c13 h
    refine v_aload_n 1 rfl dX1_send_40 rfl ?_
    refine v_dup rfl dX1_send_41 rfl ?_
    obtain ⟨v42, e42, h⟩ := o_b h
    refine v_getI e42 (by decide) (by decide) rfl qf_RX1_29 dX1_send_42 rfl ?_
    refine v_iconst (v := (1 : Int32)) (by decide) dX1_send_45 rfl ?_
    refine v_iadd dX1_send_46 rfl ?_
    obtain ⟨s47, e47, h⟩ := o_b h
    refine v_putI e47 (by decide) (by decide) rfl rfl rfl rfl rfl qf_RX1_29 dX1_send_47 rfl ?_
    refine v_sub [1, 2, 3, 4, 0] rfl ?_
    exact l_X1_send_50 h
  · have h := o_n c13 h
    refine v_aload_n 1 rfl dX1_send_16 rfl ?_
    obtain ⟨v17, e17, h⟩ := o_b h
    refine v_getR e17 (by decide) (by decide) rfl qf_RX1_11 dX1_send_17 rfl ?_
    refine v_aload_n 1 rfl dX1_send_20 rfl ?_
    obtain ⟨v21, e21, h⟩ := o_b h
    refine v_getI e21 (by decide) (by decide) rfl qf_RX1_25 dX1_send_21 rfl ?_
    obtain ⟨v24, e24, h⟩ := o_b h
    refine v_aR e24 (by decide) (by decide) rfl dX1_send_24 rfl ?_
    refine v_astore [(4, .ref v24), (0, .ref a0), (1, .int a1), (2, .int a2), (3, .int a3)] dX1_send_25 rfl (by decide) rfl ?_
    refine v_aload_n 1 rfl dX1_send_27 rfl ?_
    refine v_dup rfl dX1_send_28 rfl ?_
    obtain ⟨v29, e29, h⟩ := o_b h
    refine v_getI e29 (by decide) (by decide) rfl qf_RX1_25 dX1_send_29 rfl ?_
    refine v_iconst (v := (1 : Int32)) (by decide) dX1_send_32 rfl ?_
    refine v_iadd dX1_send_33 rfl ?_
    obtain ⟨s34, e34, h⟩ := o_b h
    refine v_putI e34 (by decide) (by decide) rfl rfl rfl rfl rfl qf_RX1_25 dX1_send_34 rfl ?_
    refine v_goto (q := 50) dX1_send_37 (by decide) ?_
    refine v_sub [1, 2, 3, 4, 0] rfl ?_
    exact l_X1_send_50 h
def rm_X1_placeOf : Room := { frames := 0, cells := 0, slots := 0, locals := 0 }
set_option maxRecDepth 100000 in
set_option maxHeartbeats 4000000 in
theorem l_X1_placeOf_2 {G : Gm} {μ : Mu} {o : Int64} {r : Int32} {σ : Hp} : ∀ (n : Nat) {x0 : Nat} {x1 : Int32} {x2 : Int32} , f_X1_placeOf_2 n σ x0 x1 x2 = some r → V G yX1_placeOf cX1_placeOf 3 (some .int) rm_X1_placeOf (zI G r (σ, μ, o) 0 0) (σ, μ, o) 0 0 2 [(0, .ref x0), (1, .int x1), (2, .int x2)] [] := by
  intro n
  induction n with
  | zero => intro _ _ _ h; cases h
  | succ n ih =>
    intro x0 x1 x2 h
    replace h : b_X1_placeOf_2 (f_X1_placeOf_2 n) σ x0 x1 x2 = some r := h
    unfold b_X1_placeOf_2 at h
    refine v_iload_n 2 rfl dX1_placeOf_2 rfl ?_
    refine v_aload_n 0 rfl dX1_placeOf_3 rfl ?_
    obtain ⟨v4, e4, h⟩ := o_b h
    refine v_getI e4 (by decide) (by decide) rfl qf_RX1_25 dX1_placeOf_4 rfl ?_
    refine v_icmp_ge 31 dX1_placeOf_7 (by decide) rfl (fun c7 => ?_) (fun c7 => ?_)
    · have h := o_p c7 h
      refine v_iconst (v := (-1 : Int32)) (by decide) dX1_placeOf_31 rfl ?_
      obtain rfl := Option.some.inj h
      exact v_iret rfl rfl (Nat.le_of_ble_eq_true rfl) (Nat.le_of_ble_eq_true rfl) dX1_placeOf_32
    · have h := o_n c7 h
      refine v_aload_n 0 rfl dX1_placeOf_10 rfl ?_
      obtain ⟨v11, e11, h⟩ := o_b h
      refine v_getR e11 (by decide) (by decide) rfl qf_RX1_11 dX1_placeOf_11 rfl ?_
      refine v_iload_n 2 rfl dX1_placeOf_14 rfl ?_
      obtain ⟨v15, e15, h⟩ := o_b h
      refine v_aR e15 (by decide) (by decide) rfl dX1_placeOf_15 rfl ?_
      obtain ⟨v16, e16, h⟩ := o_b h
      refine v_getI e16 (by decide) (by decide) rfl qf_RX1_35 dX1_placeOf_16 rfl ?_
      refine v_iload_n 1 rfl dX1_placeOf_19 rfl ?_
      refine v_icmp_ne 25 dX1_placeOf_20 (by decide) rfl (fun c20 => ?_) (fun c20 => ?_)
      · have h := o_n c20 h
        refine v_iinc (v := (x2 + 1)) [(2, .int (x2 + 1)), (0, .ref x0), (1, .int x1)] 2 rfl rfl dX1_placeOf_25 rfl (by decide) rfl ?_
        refine v_goto (q := 2) dX1_placeOf_28 (by decide) ?_
        refine v_sub [1, 2, 0] rfl ?_
        exact ih h
      · have h := o_p c20 h
        refine v_iload_n 2 rfl dX1_placeOf_23 rfl ?_
        obtain rfl := Option.some.inj h
        exact v_iret rfl rfl (Nat.le_of_ble_eq_true rfl) (Nat.le_of_ble_eq_true rfl) dX1_placeOf_24
set_option maxRecDepth 100000 in
set_option maxHeartbeats 4000000 in
theorem k_X1_placeOf {G : Gm} {μ : Mu} {o : Int64} {r : Int32} {σ : Hp} {a0 : Nat} {a1 : Int32} (h : f_X1_placeOf σ a0 a1 = some r) : Ci G yX1_placeOf cX1_placeOf 3 (some .int) rm_X1_placeOf [.ref a0, .int a1] (σ, μ, o) r (σ, μ, o) 0 0 := by
  refine v_entI [(0, .ref a0), (1, .int a1)] (by decide +kernel) (Nat.le_of_ble_eq_true rfl) rfl ?_
  unfold f_X1_placeOf at h
  refine v_iconst (v := (0 : Int32)) (by decide) dX1_placeOf_0 rfl ?_
  refine v_istore_n [(2, .int (0 : Int32)), (0, .ref a0), (1, .int a1)] dX1_placeOf_1 rfl (by decide) rfl ?_
  refine v_sub [1, 2, 0] rfl ?_
  exact l_X1_placeOf_2 _ h
def rm_X1_takeOut : Room := { frames := 0, cells := 0, slots := 0, locals := 0 }
set_option maxRecDepth 100000 in
set_option maxHeartbeats 4000000 in
theorem l_X1_takeOut_47 {G : Gm} {μ : Mu} {o : Int64} {r : Nat} {σ' : Hp} {σ : Hp} {x0 : Nat} {x2 : Nat} (h : f_X1_takeOut_47 σ x0 x2 = some (r, σ')) : V G yX1_takeOut cX1_takeOut 4 (some (.object "OrderedTable$Message")) rm_X1_takeOut (zR G r (σ', μ, o) 0 0) (σ, μ, o) 0 0 47 [(0, .ref x0), (2, .ref x2)] [] := by
  unfold f_X1_takeOut_47 at h
  refine v_aload_n 0 rfl dX1_takeOut_47 rfl ?_
  obtain ⟨v48, e48, h⟩ := o_b h
  refine v_getR e48 (by decide) (by decide) rfl qf_RX1_11 dX1_takeOut_48 rfl ?_
  refine v_aload_n 0 rfl dX1_takeOut_51 rfl ?_
  obtain ⟨v52, e52, h⟩ := o_b h
  refine v_getI e52 (by decide) (by decide) rfl qf_RX1_25 dX1_takeOut_52 rfl ?_
  refine v_aload_n 0 rfl dX1_takeOut_55 rfl ?_
  obtain ⟨v56, e56, h⟩ := o_b h
  refine v_getR e56 (by decide) (by decide) rfl qf_RX1_18 dX1_takeOut_56 rfl ?_
  obtain ⟨s59, e59, h⟩ := o_b h
  refine v_qR e59 (by decide) (by decide) (by decide) rfl dX1_takeOut_59 rfl ?_
  refine v_aload_n 0 rfl dX1_takeOut_60 rfl ?_
  refine v_aload_n 1 rfl dX1_takeOut_61 rfl ?_
  obtain ⟨s62, e62, h⟩ := o_b h
  refine v_putR e62 (by decide) (by decide) rfl rfl qf_RX1_18 dX1_takeOut_62 rfl ?_
  refine v_aload_n 1 rfl dX1_takeOut_65 rfl ?_
  obtain ⟨rfl, rfl⟩ := o_s h
  exact v_aret rfl (Nat.le_of_ble_eq_true rfl) (Nat.le_of_ble_eq_true rfl) dX1_takeOut_66
set_option maxRecDepth 100000 in
set_option maxHeartbeats 4000000 in
theorem l_X1_takeOut_19 {G : Gm} {μ : Mu} {o : Int64} {r : Nat} {σ' : Hp} : ∀ (n : Nat) {σ : Hp} {x0 : Nat} {x2 : Nat} {x3 : Int32} , f_X1_takeOut_19 n σ x0 x2 x3 = some (r, σ') → V G yX1_takeOut cX1_takeOut 4 (some (.object "OrderedTable$Message")) rm_X1_takeOut (zR G r (σ', μ, o) 0 0) (σ, μ, o) 0 0 19 [(0, .ref x0), (2, .ref x2), (3, .int x3)] [] := by
  intro n
  induction n with
  | zero => intro _ _ _ _ h; cases h
  | succ n ih =>
    intro σ x0 x2 x3 h
    replace h : b_X1_takeOut_19 (f_X1_takeOut_19 n) σ x0 x2 x3 = some (r, σ') := h
    unfold b_X1_takeOut_19 at h
    refine v_iload_n 2 rfl dX1_takeOut_19 rfl ?_
    refine v_aload_n 0 rfl dX1_takeOut_20 rfl ?_
    obtain ⟨v21, e21, h⟩ := o_b h
    refine v_getI e21 (by decide) (by decide) rfl qf_RX1_25 dX1_takeOut_21 rfl ?_
    refine v_icmp_ge 47 dX1_takeOut_24 (by decide) rfl (fun c24 => ?_) (fun c24 => ?_)
    · have h := o_p c24 h
      refine v_sub [0, 1] rfl ?_
      exact l_X1_takeOut_47 h
    · have h := o_n c24 h
      refine v_aload_n 0 rfl dX1_takeOut_27 rfl ?_
      obtain ⟨v28, e28, h⟩ := o_b h
      refine v_getR e28 (by decide) (by decide) rfl qf_RX1_11 dX1_takeOut_28 rfl ?_
      refine v_iload_n 2 rfl dX1_takeOut_31 rfl ?_
      refine v_aload_n 0 rfl dX1_takeOut_32 rfl ?_
      obtain ⟨v33, e33, h⟩ := o_b h
      refine v_getR e33 (by decide) (by decide) rfl qf_RX1_11 dX1_takeOut_33 rfl ?_
      refine v_iload_n 2 rfl dX1_takeOut_36 rfl ?_
      refine v_iconst (v := (1 : Int32)) (by decide) dX1_takeOut_37 rfl ?_
      refine v_iadd dX1_takeOut_38 rfl ?_
      obtain ⟨v39, e39, h⟩ := o_b h
      refine v_aR e39 (by decide) (by decide) rfl dX1_takeOut_39 rfl ?_
      obtain ⟨s40, e40, h⟩ := o_b h
      refine v_qR e40 (by decide) (by decide) (by decide) rfl dX1_takeOut_40 rfl ?_
      refine v_iinc (v := (x3 + 1)) [(3, .int (x3 + 1)), (0, .ref x0), (2, .ref x2)] 2 rfl rfl dX1_takeOut_41 rfl (by decide) rfl ?_
      refine v_goto (q := 19) dX1_takeOut_44 (by decide) ?_
      refine v_sub [1, 2, 0] rfl ?_
      exact ih h
set_option maxRecDepth 100000 in
set_option maxHeartbeats 4000000 in
theorem k_X1_takeOut {G : Gm} {μ : Mu} {o : Int64} {r : Nat} {σ' : Hp} {σ : Hp} {a0 : Nat} {a1 : Int32} (h : f_X1_takeOut σ a0 a1 = some (r, σ')) : Cr G yX1_takeOut cX1_takeOut 4 (some (.object "OrderedTable$Message")) rm_X1_takeOut [.ref a0, .int a1] (σ, μ, o) r (σ', μ, o) 0 0 := by
  refine v_entR [(0, .ref a0), (1, .int a1)] (by decide +kernel) (Nat.le_of_ble_eq_true rfl) rfl ?_
  unfold f_X1_takeOut at h
  refine v_aload_n 0 rfl dX1_takeOut_0 rfl ?_
  obtain ⟨v1, e1, h⟩ := o_b h
  refine v_getR e1 (by decide) (by decide) rfl qf_RX1_11 dX1_takeOut_1 rfl ?_
  refine v_iload_n 1 rfl dX1_takeOut_4 rfl ?_
  obtain ⟨v5, e5, h⟩ := o_b h
  refine v_aR e5 (by decide) (by decide) rfl dX1_takeOut_5 rfl ?_
  refine v_astore_n [(2, .ref v5), (0, .ref a0), (1, .int a1)] dX1_takeOut_6 rfl (by decide) rfl ?_
  refine v_aload_n 1 rfl dX1_takeOut_7 rfl ?_
  refine v_dup rfl dX1_takeOut_8 rfl ?_
  obtain ⟨v9, e9, h⟩ := o_b h
  refine v_getI e9 (by decide) (by decide) rfl qf_RX1_25 dX1_takeOut_9 rfl ?_
  refine v_iconst (v := (1 : Int32)) (by decide) dX1_takeOut_12 rfl ?_
  refine v_isub dX1_takeOut_13 rfl ?_
  obtain ⟨s14, e14, h⟩ := o_b h
  refine v_putI e14 (by decide) (by decide) rfl rfl rfl rfl rfl qf_RX1_25 dX1_takeOut_14 rfl ?_
  refine v_iload_n 2 rfl dX1_takeOut_17 rfl ?_
  refine v_istore_n [(3, .int a1), (2, .ref v5), (0, .ref a0), (1, .int a1)] dX1_takeOut_18 rfl (by decide) rfl ?_
  refine v_sub [2, 1, 0] rfl ?_
  exact l_X1_takeOut_19 _ h
def rm_X2_ask : Room := { frames := 0, cells := 0, slots := 0, locals := 0 }
set_option maxRecDepth 100000 in
set_option maxHeartbeats 4000000 in
theorem k_X2_ask {G : Gm} {μ : Mu} {o : Int64} {σ' : Hp} {σ : Hp} {a0 : Nat} {a1 : Int32} (h : f_X2_ask σ a0 a1 = some σ') : Cv G yX2_ask cX2_ask 2 none rm_X2_ask [.ref a0, .int a1] (σ, μ, o) (σ', μ, o) 0 0 := by
  refine v_entV [(0, .ref a0), (1, .int a1)] (by decide +kernel) (Nat.le_of_ble_eq_true rfl) rfl ?_
  unfold f_X2_ask at h
  refine v_aload_n 0 rfl dX2_ask_0 rfl ?_
  refine v_dup rfl dX2_ask_1 rfl ?_
  obtain ⟨v2, e2, h⟩ := o_b h
  refine v_getI e2 (by decide) (by decide) rfl qf_RX2_37 dX2_ask_2 rfl ?_
  refine v_iconst (v := (1 : Int32)) (by decide) dX2_ask_5 rfl ?_
  refine v_iadd dX2_ask_6 rfl ?_
  obtain ⟨s7, e7, h⟩ := o_b h
  refine v_putI e7 (by decide) (by decide) rfl rfl rfl rfl rfl qf_RX2_37 dX2_ask_7 rfl ?_
  refine v_aload_n 0 rfl dX2_ask_10 rfl ?_
  refine v_iload_n 1 rfl dX2_ask_11 rfl ?_
  obtain ⟨s12, e12, h⟩ := o_b h
  refine v_putI e12 (by decide) (by decide) rfl rfl rfl rfl rfl qf_RX2_9 dX2_ask_12 rfl ?_
  refine v_aload_n 0 rfl dX2_ask_15 rfl ?_
  refine v_iconst (v := (1 : Int32)) (by decide) dX2_ask_16 rfl ?_
  obtain ⟨s17, e17, h⟩ := o_b h
  refine v_putI e17 (by decide) (by decide) rfl rfl rfl rfl rfl qf_RX2_15 dX2_ask_17 rfl ?_
  refine v_aload_n 0 rfl dX2_ask_20 rfl ?_
  refine v_iconst (v := (0 : Int32)) (by decide) dX2_ask_21 rfl ?_
  obtain ⟨s22, e22, h⟩ := o_b h
  refine v_putI e22 (by decide) (by decide) rfl rfl rfl rfl rfl qf_RX2_40 dX2_ask_22 rfl ?_
  refine v_aload_n 0 rfl dX2_ask_25 rfl ?_
  refine v_iconst (v := (0 : Int32)) (by decide) dX2_ask_26 rfl ?_
  obtain ⟨s27, e27, h⟩ := o_b h
  refine v_putI e27 (by decide) (by decide) rfl rfl rfl rfl rfl qf_RX2_43 dX2_ask_27 rfl ?_
  obtain rfl := Option.some.inj h
  exact v_vret rfl (Nat.le_of_ble_eq_true rfl) (Nat.le_of_ble_eq_true rfl) dX2_ask_30
def rm_X2_placeOf : Room := { frames := 1, cells := 0, slots := 0, locals := 21 }
set_option maxRecDepth 100000 in
set_option maxHeartbeats 4000000 in
theorem l_X2_placeOf_41 {G : Gm} {μ : Mu} {o : Int64} {r : Int32} {σ' : Hp} {σ : Hp} {x0 : Nat} {x1 : Nat} {x2 : Int32} (h : f_X2_placeOf_41 σ x0 x1 x2 = some (r, σ')) : V G yX2_placeOf cX2_placeOf 4 (some .int) rm_X2_placeOf (zI G r (σ', μ, o) 0 0) (σ, μ, o) 0 0 41 [(0, .ref x0), (1, .ref x1), (2, .int x2)] [] := by
  unfold f_X2_placeOf_41 at h
  refine v_aload_n 0 rfl dX2_placeOf_41 rfl ?_
  obtain ⟨v42, e42, h⟩ := o_b h
  refine v_getI e42 (by decide) (by decide) rfl qf_RX2_43 dX2_placeOf_42 rfl ?_
  refine v_istore_n [(3, .int v42), (0, .ref x0), (1, .ref x1), (2, .int x2)] dX2_placeOf_45 rfl (by decide) rfl ?_
  refine v_aload_n 1 rfl dX2_placeOf_46 rfl ?_
  refine v_aload_n 1 rfl dX2_placeOf_47 rfl ?_
  obtain ⟨v48, e48, h⟩ := o_b h
  refine v_getI e48 (by decide) (by decide) rfl qf_RX2_43 dX2_placeOf_48 rfl ?_
  refine v_iconst (v := (1 : Int32)) (by decide) dX2_placeOf_51 rfl ?_
  refine v_iadd dX2_placeOf_52 rfl ?_
  refine v_bipush (v := (64 : Int32)) (by decide) dX2_placeOf_53 rfl ?_
  refine v_irem (by decide) dX2_placeOf_55 rfl ?_
  obtain ⟨s56, e56, h⟩ := o_b h
  refine v_putI e56 (by decide) (by decide) rfl rfl rfl rfl rfl qf_RX2_43 dX2_placeOf_56 rfl ?_
  refine v_aload_n 1 rfl dX2_placeOf_59 rfl ?_
  refine v_aload_n 1 rfl dX2_placeOf_60 rfl ?_
  obtain ⟨v61, e61, h⟩ := o_b h
  refine v_getI e61 (by decide) (by decide) rfl qf_RX2_40 dX2_placeOf_61 rfl ?_
  refine v_iconst (v := (1 : Int32)) (by decide) dX2_placeOf_64 rfl ?_
  refine v_iadd dX2_placeOf_65 rfl ?_
  refine v_bipush (v := (64 : Int32)) (by decide) dX2_placeOf_66 rfl ?_
  obtain ⟨v68, e68, h⟩ := o_b h
  refine v_Si (as := [.int (v61 + (1 : Int32)), .int (64 : Int32)]) (st := [.ref x0]) (c' := 0) (k' := 0) (k_J9_min_7cf53 e68) mk_J9_min_7cf53 qs_J9_min_7cf53 qm_RX2_88 (ck rfl) rfl dX2_placeOf_68 rfl rfl rfl ?_
  obtain ⟨s71, e71, h⟩ := o_b h
  refine v_putI e71 (by decide) (by decide) rfl rfl rfl rfl rfl qf_RX2_40 dX2_placeOf_71 rfl ?_
  refine v_aload_n 1 rfl dX2_placeOf_74 rfl ?_
  obtain ⟨v75, e75, h⟩ := o_b h
  refine v_getR e75 (by decide) (by decide) rfl qf_RX2_20 dX2_placeOf_75 rfl ?_
  refine v_iload_n 0 rfl dX2_placeOf_78 rfl ?_
  refine v_aload_n 2 rfl dX2_placeOf_79 rfl ?_
  obtain ⟨s80, e80, h⟩ := o_b h
  refine v_qR e80 (by decide) (by decide) (by decide) rfl dX2_placeOf_80 rfl ?_
  refine v_aload_n 1 rfl dX2_placeOf_81 rfl ?_
  obtain ⟨v82, e82, h⟩ := o_b h
  refine v_getR e82 (by decide) (by decide) rfl qf_RX2_24 dX2_placeOf_82 rfl ?_
  refine v_iload_n 0 rfl dX2_placeOf_85 rfl ?_
  refine v_iload_n 3 rfl dX2_placeOf_86 rfl ?_
  obtain ⟨s87, e87, h⟩ := o_b h
  refine v_qI e87 dX2_placeOf_87 rfl ?_
  refine v_aload_n 1 rfl dX2_placeOf_88 rfl ?_
  obtain ⟨v89, e89, h⟩ := o_b h
  refine v_getR e89 (by decide) (by decide) rfl qf_RX2_28 dX2_placeOf_89 rfl ?_
  refine v_iload_n 0 rfl dX2_placeOf_92 rfl ?_
  refine v_iconst (v := (0 : Int32)) (by decide) dX2_placeOf_93 rfl ?_
  obtain ⟨s94, e94, h⟩ := o_b h
  refine v_qI e94 dX2_placeOf_94 rfl ?_
  refine v_aload_n 1 rfl dX2_placeOf_95 rfl ?_
  obtain ⟨v96, e96, h⟩ := o_b h
  refine v_getR e96 (by decide) (by decide) rfl qf_RX2_31 dX2_placeOf_96 rfl ?_
  refine v_iload_n 0 rfl dX2_placeOf_99 rfl ?_
  refine v_iconst (v := (0 : Int32)) (by decide) dX2_placeOf_100 rfl ?_
  obtain ⟨s101, e101, h⟩ := o_b h
  refine v_qI e101 dX2_placeOf_101 rfl ?_
  refine v_iload_n 0 rfl dX2_placeOf_102 rfl ?_
  obtain ⟨rfl, rfl⟩ := o_s h
  exact v_iret rfl rfl (Nat.le_of_ble_eq_true rfl) (Nat.le_of_ble_eq_true rfl) dX2_placeOf_103
set_option maxRecDepth 100000 in
set_option maxHeartbeats 4000000 in
theorem l_X2_placeOf_35 {G : Gm} {μ : Mu} {o : Int64} {r : Int32} {σ' : Hp} {rec2 : Hp → Nat → Nat → Int32 → Int32 → Option (Int32 × Hp)} (h2 : ∀ {σ : Hp} {x0 : Nat} {x1 : Nat} {x2 : Int32} {x3 : Int32} , rec2 σ x0 x1 x2 x3 = some (r, σ') → V G yX2_placeOf cX2_placeOf 4 (some .int) rm_X2_placeOf (zI G r (σ', μ, o) 0 0) (σ, μ, o) 0 0 2 [(0, .ref x0), (1, .ref x1), (2, .int x2), (3, .int x3)] []) {σ : Hp} {x0 : Nat} {x1 : Nat} {x2 : Int32} {x3 : Int32} (h : f_X2_placeOf_35 rec2 σ x0 x1 x2 x3 = some (r, σ')) : V G yX2_placeOf cX2_placeOf 4 (some .int) rm_X2_placeOf (zI G r (σ', μ, o) 0 0) (σ, μ, o) 0 0 35 [(0, .ref x0), (1, .ref x1), (2, .int x2), (3, .int x3)] [] := by
  unfold f_X2_placeOf_35 at h
  refine v_iinc (v := (x3 + 1)) [(3, .int (x3 + 1)), (0, .ref x0), (1, .ref x1), (2, .int x2)] 3 rfl rfl dX2_placeOf_35 rfl (by decide) rfl ?_
  refine v_goto (q := 2) dX2_placeOf_38 (by decide) ?_
  refine v_sub [1, 2, 3, 0] rfl ?_
  exact h2 h
set_option maxRecDepth 100000 in
set_option maxHeartbeats 4000000 in
theorem l_X2_placeOf_2 {G : Gm} {μ : Mu} {o : Int64} {r : Int32} {σ' : Hp} : ∀ (n : Nat) {σ : Hp} {x0 : Nat} {x1 : Nat} {x2 : Int32} {x3 : Int32} , f_X2_placeOf_2 n σ x0 x1 x2 x3 = some (r, σ') → V G yX2_placeOf cX2_placeOf 4 (some .int) rm_X2_placeOf (zI G r (σ', μ, o) 0 0) (σ, μ, o) 0 0 2 [(0, .ref x0), (1, .ref x1), (2, .int x2), (3, .int x3)] [] := by
  intro n
  induction n with
  | zero => intro _ _ _ _ _ h; cases h
  | succ n ih =>
    intro σ x0 x1 x2 x3 h
    replace h : b_X2_placeOf_2 (f_X2_placeOf_2 n) σ x0 x1 x2 x3 = some (r, σ') := h
    unfold b_X2_placeOf_2 at h
    refine v_iload_n 3 rfl dX2_placeOf_2 rfl ?_
    refine v_aload_n 0 rfl dX2_placeOf_3 rfl ?_
    obtain ⟨v4, e4, h⟩ := o_b h
    refine v_getI e4 (by decide) (by decide) rfl qf_RX2_40 dX2_placeOf_4 rfl ?_
    refine v_icmp_ge 41 dX2_placeOf_7 (by decide) rfl (fun c7 => ?_) (fun c7 => ?_)
    · have h := o_p c7 h
      refine v_sub [0, 1, 2] rfl ?_
      exact l_X2_placeOf_41 h
    · have h := o_n c7 h
      refine v_aload_n 0 rfl dX2_placeOf_10 rfl ?_
      obtain ⟨v11, e11, h⟩ := o_b h
      refine v_getR e11 (by decide) (by decide) rfl qf_RX2_24 dX2_placeOf_11 rfl ?_
      refine v_iload_n 3 rfl dX2_placeOf_14 rfl ?_
      obtain ⟨v15, e15, h⟩ := o_b h
      refine v_aI e15 dX2_placeOf_15 rfl ?_
      refine v_iload_n 2 rfl dX2_placeOf_16 rfl ?_
      refine v_icmp_ne 35 dX2_placeOf_17 (by decide) rfl (fun c17 => ?_) (fun c17 => ?_)
      · have h := o_n c17 h
        exact l_X2_placeOf_35 (fun h => ih h) h
      · have h := o_p c17 h
        refine v_aload_n 0 rfl dX2_placeOf_20 rfl ?_
        obtain ⟨v21, e21, h⟩ := o_b h
        refine v_getR e21 (by decide) (by decide) rfl qf_RX2_20 dX2_placeOf_21 rfl ?_
        refine v_iload_n 3 rfl dX2_placeOf_24 rfl ?_
        obtain ⟨v25, e25, h⟩ := o_b h
        refine v_aR e25 (by decide) (by decide) rfl dX2_placeOf_25 rfl ?_
        refine v_aload_n 1 rfl dX2_placeOf_26 rfl ?_
        obtain ⟨⟨⟩, g27, h⟩ := o_b h
        obtain ⟨v27, e27, h⟩ := o_b h
        refine v_Vi (as := [.ref x1]) (st := []) (c' := 0) (k' := 0) (k_X9_isSame e27) (rcv_c g27 (by decide) rfl) mk_X9_isSame qi_X9_isSame qe_X9_isSame qm_RX2_84 (ck rfl) rfl dX2_placeOf_27 rfl rfl rfl ?_
        refine v_if_eq 35 dX2_placeOf_30 (by decide) rfl (fun c30 => ?_) (fun c30 => ?_)
        · have h := o_p c30 h
          exact l_X2_placeOf_35 (fun h => ih h) h
        · have h := o_n c30 h
          refine v_iload_n 3 rfl dX2_placeOf_33 rfl ?_
          obtain ⟨rfl, rfl⟩ := o_s h
          exact v_iret rfl rfl (Nat.le_of_ble_eq_true rfl) (Nat.le_of_ble_eq_true rfl) dX2_placeOf_34
set_option maxRecDepth 100000 in
set_option maxHeartbeats 4000000 in
theorem k_X2_placeOf {G : Gm} {μ : Mu} {o : Int64} {r : Int32} {σ' : Hp} {σ : Hp} {a0 : Nat} {a1 : Nat} {a2 : Int32} (h : f_X2_placeOf σ a0 a1 a2 = some (r, σ')) : Ci G yX2_placeOf cX2_placeOf 4 (some .int) rm_X2_placeOf [.ref a0, .ref a1, .int a2] (σ, μ, o) r (σ', μ, o) 0 0 := by
  refine v_entI [(0, .ref a0), (1, .ref a1), (2, .int a2)] (by decide +kernel) (Nat.le_of_ble_eq_true rfl) rfl ?_
  unfold f_X2_placeOf at h
  refine v_iconst (v := (0 : Int32)) (by decide) dX2_placeOf_0 rfl ?_
  refine v_istore_n [(3, .int (0 : Int32)), (0, .ref a0), (1, .ref a1), (2, .int a2)] dX2_placeOf_1 rfl (by decide) rfl ?_
  refine v_sub [1, 2, 3, 0] rfl ?_
  exact l_X2_placeOf_2 _ h
