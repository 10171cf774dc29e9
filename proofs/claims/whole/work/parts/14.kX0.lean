def rm_X4_init : Room := { frames := 1, cells := 1, slots := 100, locals := 20 }
set_option maxRecDepth 100000 in
set_option maxHeartbeats 4000000 in
theorem k_X4_init {G : Gm} {μ : Mu} {o : Int64} {σ' : Hp} {σ : Hp} {a0 : Nat} (h : f_X4_init σ a0 = some σ') : Cv G yX4_init cX4_init 1 none rm_X4_init [.ref a0] (σ, μ, o) (σ', μ, o) 1 100 := by
  refine v_entV [(0, .ref a0)] (by decide +kernel) (Nat.le_of_ble_eq_true rfl) rfl ?_
  unfold f_X4_init at h
  refine v_aload_n 0 rfl dX4_init_0 rfl ?_
  refine v_obj qm_RX4_3 qi_obj qo_obj (Nat.le_of_ble_eq_true rfl) (Nat.le_of_ble_eq_true rfl) dX4_init_1 rfl ?_
  refine v_aload_n 0 rfl dX4_init_4 rfl ?_
  refine v_bipush (v := (100 : Int32)) (by decide) dX4_init_5 rfl ?_
  obtain ⟨s7, e7, h⟩ := o_b h
  refine v_newI (c' := 1) (k' := 100) (Option.some.inj e7) qa_int (by decide) (by decide) (Nat.le_of_ble_eq_true rfl) ⟨Nat.le_of_ble_eq_true rfl, Nat.le_of_ble_eq_true rfl⟩ rfl rfl dX4_init_7 rfl ?_
  obtain ⟨s9, e9, h⟩ := o_b h
  refine v_putFR e9 (by decide) (by decide) rfl rfl rfl rfl rfl rfl rfl qf_RX4_9 dX4_init_9 rfl ?_
  obtain rfl := Option.some.inj h
  exact v_vret rfl (Nat.le_of_ble_eq_true rfl) (Nat.le_of_ble_eq_true rfl) dX4_init_12
def rm_X5_init : Room := { frames := 2, cells := 2, slots := 102, locals := 40 }
set_option maxRecDepth 100000 in
set_option maxHeartbeats 4000000 in
theorem k_X5_init {G : Gm} {μ : Mu} {o : Int64} {σ' : Hp} {σ : Hp} {a0 : Nat} (h : f_X5_init σ a0 = some σ') : Cv G yX5_init cX5_init 1 none rm_X5_init [.ref a0] (σ, μ, o) (σ', μ, o) 2 102 := by
  refine v_entV [(0, .ref a0)] (by decide +kernel) (Nat.le_of_ble_eq_true rfl) rfl ?_
  unfold f_X5_init at h
  refine v_aload_n 0 rfl dX5_init_0 rfl ?_
  refine v_obj qm_RX5_1 qi_obj qo_obj (Nat.le_of_ble_eq_true rfl) (Nat.le_of_ble_eq_true rfl) dX5_init_1 rfl ?_
  refine v_aload_n 0 rfl dX5_init_4 rfl ?_
  obtain ⟨s5, e5, h⟩ := o_b h
  refine v_new (c' := 1) (k' := 2) (Option.some.inj e5) (by decide) qc_RX5_7 qb_4 qz_4 ⟨Nat.le_of_ble_eq_true rfl, Nat.le_of_ble_eq_true rfl⟩ rfl rfl dX5_init_5 rfl ?_
  refine v_dup rfl dX5_init_8 rfl ?_
  obtain ⟨v9, e9, h⟩ := o_b h
  refine v_Nv (as := []) (st := [.ref (oN σ), .ref a0]) (c' := 2) (k' := 102) (k_X4_init e9) mk_X4_init qi_X4_init rfl (host := "OrderedTable") (by decide +kernel) (ck rfl) rfl dX5_init_9 rfl rfl rfl ?_
  obtain ⟨s12, e12, h⟩ := o_b h
  refine v_putFR e12 (by decide) (by decide) rfl rfl rfl rfl rfl rfl rfl qf_RX5_10 dX5_init_12 rfl ?_
  obtain rfl := Option.some.inj h
  exact v_vret rfl (Nat.le_of_ble_eq_true rfl) (Nat.le_of_ble_eq_true rfl) dX5_init_15
def rm_X1_init : Room := { frames := 3, cells := 613, slots := 23456, locals := 60 }
set_option maxRecDepth 100000 in
set_option maxHeartbeats 4000000 in
theorem l_X1_init_38 {G : Gm} {μ : Mu} {o : Int64} {σ' : Hp} : ∀ (n : Nat) (hF : n ≤ 201) {σ : Hp} {x0 : Nat} {x1 : Int32} , f_X1_init_38 n σ x0 x1 = some σ' → V G yX1_init cX1_init 2 none rm_X1_init (zV G (σ', μ, o) 613 23456) (σ, μ, o) (7 + (201 - n) * 3) (428 + (201 - n) * 114) 38 [(0, .ref x0), (1, .int x1)] [] := by
  intro n
  induction n with
  | zero => intro _ _ _ _ h; cases h
  | succ n ih =>
    intro hF σ x0 x1 h
    replace h : b_X1_init_38 (f_X1_init_38 n) σ x0 x1 = some σ' := h
    unfold b_X1_init_38 at h
    refine v_iload_n 1 rfl dX1_init_38 rfl ?_
    refine v_sipush (v := (200 : Int32)) (by decide) dX1_init_39 rfl ?_
    refine v_icmp_ge 64 dX1_init_42 (by decide) rfl (fun c42 => ?_) (fun c42 => ?_)
    · have h := o_p c42 h
      obtain rfl := Option.some.inj h
      exact v_vret rfl (by omega) (by omega) dX1_init_64
    · have h := o_n c42 h
      refine v_aload_n 0 rfl dX1_init_45 rfl ?_
      obtain ⟨v46, e46, h⟩ := o_b h
      refine v_getR e46 (by decide) (by decide) rfl qf_RX1_11 dX1_init_46 rfl ?_
      refine v_iload_n 1 rfl dX1_init_49 rfl ?_
      obtain ⟨s50, e50, h⟩ := o_b h
      refine v_new (c' := ((7 + (201 - (n + 1)) * 3) + 1)) (k' := ((428 + (201 - (n + 1)) * 114) + 12)) (Option.some.inj e50) (by decide) qc_RX1_9 qb_5 qz_5 ⟨(by show ((7 + (201 - (n + 1)) * 3) + 1) ≤ 613; omega), (by show ((428 + (201 - (n + 1)) * 114) + 12) ≤ 23456; omega)⟩ rfl rfl dX1_init_50 rfl ?_
      refine v_dup rfl dX1_init_53 rfl ?_
      obtain ⟨v54, e54, h⟩ := o_b h
      refine v_Nv (as := []) (st := [.ref (oN σ), .int x1, .ref v46]) (c' := (((7 + (201 - (n + 1)) * 3) + 1) + 2)) (k' := (((428 + (201 - (n + 1)) * 114) + 12) + 102)) (k_X5_init e54) mk_X5_init qi_X5_init rfl (host := "OrderedTable") (by decide +kernel) (ck2 rfl (by show _ ≤ 613; omega) (by show _ ≤ 23456; omega)) rfl dX1_init_54 rfl rfl rfl ?_
      obtain ⟨s57, e57, h⟩ := o_b h
      refine v_qR e57 (by decide) (by decide) (by decide) rfl dX1_init_57 rfl ?_
      refine v_iinc (v := (x1 + 1)) [(1, .int (x1 + 1)), (0, .ref x0)] 1 rfl rfl dX1_init_58 rfl (by decide) rfl ?_
      refine v_goto (q := 38) dX1_init_61 (by decide) ?_
      refine v_sub [1, 0] rfl ?_
      refine v_wid (c' := (7 + (201 - n) * 3)) (k' := (428 + (201 - n) * 114)) (by omega) (by omega) ?_
      exact ih (by omega) h
set_option maxRecDepth 100000 in
set_option maxHeartbeats 4000000 in
theorem k_X1_init {G : Gm} {μ : Mu} {o : Int64} {σ' : Hp} {σ : Hp} {a0 : Nat} (h : f_X1_init σ a0 = some σ') : Cv G yX1_init cX1_init 2 none rm_X1_init [.ref a0] (σ, μ, o) (σ', μ, o) 613 23456 := by
  refine v_entV [(0, .ref a0)] (by decide +kernel) (Nat.le_of_ble_eq_true rfl) rfl ?_
  unfold f_X1_init at h
  refine v_aload_n 0 rfl dX1_init_0 rfl ?_
  refine v_obj qm_RX1_3 qi_obj qo_obj (Nat.le_of_ble_eq_true rfl) (Nat.le_of_ble_eq_true rfl) dX1_init_1 rfl ?_
  refine v_aload_n 0 rfl dX1_init_4 rfl ?_
  refine v_sipush (v := (200 : Int32)) (by decide) dX1_init_5 rfl ?_
  obtain ⟨s8, e8, h⟩ := o_b h
  refine v_newR (c' := 1) (k' := 200) (Option.some.inj e8) qc_RX1_9 (by decide) (by decide) (by decide) rfl (by decide) (by decide) (Nat.le_of_ble_eq_true rfl) ⟨Nat.le_of_ble_eq_true rfl, Nat.le_of_ble_eq_true rfl⟩ rfl rfl dX1_init_8 rfl ?_
  obtain ⟨s11, e11, h⟩ := o_b h
  refine v_putFR e11 (by decide) (by decide) rfl rfl rfl rfl rfl rfl rfl qf_RX1_11 dX1_init_11 rfl ?_
  refine v_aload_n 0 rfl dX1_init_14 rfl ?_
  obtain ⟨s15, e15, h⟩ := o_b h
  refine v_new (c' := 2) (k' := 212) (Option.some.inj e15) (by decide) qc_RX1_9 qb_5 qz_5 ⟨Nat.le_of_ble_eq_true rfl, Nat.le_of_ble_eq_true rfl⟩ rfl rfl dX1_init_15 rfl ?_
  refine v_dup rfl dX1_init_18 rfl ?_
  obtain ⟨v19, e19, h⟩ := o_b h
  refine v_Nv (as := []) (st := [.ref (oN s11), .ref a0]) (c' := 4) (k' := 314) (k_X5_init e19) mk_X5_init qi_X5_init rfl (host := "OrderedTable") (by decide +kernel) (ck rfl) rfl dX1_init_19 rfl rfl rfl ?_
  obtain ⟨s22, e22, h⟩ := o_b h
  refine v_putR e22 (by decide) (by decide) rfl rfl qf_RX1_18 dX1_init_22 rfl ?_
  refine v_aload_n 0 rfl dX1_init_25 rfl ?_
  obtain ⟨s26, e26, h⟩ := o_b h
  refine v_new (c' := 5) (k' := 326) (Option.some.inj e26) (by decide) qc_RX1_9 qb_5 qz_5 ⟨Nat.le_of_ble_eq_true rfl, Nat.le_of_ble_eq_true rfl⟩ rfl rfl dX1_init_26 rfl ?_
  refine v_dup rfl dX1_init_29 rfl ?_
  obtain ⟨v30, e30, h⟩ := o_b h
  refine v_Nv (as := []) (st := [.ref (oN s22), .ref a0]) (c' := 7) (k' := 428) (k_X5_init e30) mk_X5_init qi_X5_init rfl (host := "OrderedTable") (by decide +kernel) (ck rfl) rfl dX1_init_30 rfl rfl rfl ?_
  obtain ⟨s33, e33, h⟩ := o_b h
  refine v_putFR e33 (by decide) (by decide) rfl rfl rfl rfl rfl rfl rfl qf_RX1_22 dX1_init_33 rfl ?_
  refine v_iconst (v := (0 : Int32)) (by decide) dX1_init_36 rfl ?_
  refine v_istore_n [(1, .int (0 : Int32)), (0, .ref a0)] dX1_init_37 rfl (by decide) rfl ?_
  refine v_sub [1, 0] rfl ?_
  refine v_wid (c' := (7 + (201 - 201) * 3)) (k' := (428 + (201 - 201) * 114)) (by omega) (by omega) ?_
  exact l_X1_init_38 _ (Nat.le_refl _) h
def rm_X8_init : Room := { frames := 2, cells := 21, slots := 939, locals := 40 }
set_option maxRecDepth 100000 in
set_option maxHeartbeats 4000000 in
theorem l_X8_init_29 {G : Gm} {μ : Mu} {o : Int64} {σ' : Hp} : ∀ (n : Nat) (hF : n ≤ 8) {σ : Hp} {x0 : Nat} {x1 : Int32} {x2 : Int32} , f_X8_init_29 n σ x0 x1 x2 = some σ' → V G yX8_init cX8_init 3 none rm_X8_init (zV G (σ', μ, o) 21 939) (σ, μ, o) (3 + (8 - n) * 2) (21 + (8 - n) * 102) 29 [(0, .ref x0), (1, .int x1), (2, .int x2)] [] := by
  intro n
  induction n with
  | zero => intro _ _ _ _ _ h; cases h
  | succ n ih =>
    intro hF σ x0 x1 x2 h
    replace h : b_X8_init_29 (f_X8_init_29 n) σ x0 x1 x2 = some σ' := h
    unfold b_X8_init_29 at h
    refine v_iload_n 2 rfl dX8_init_29 rfl ?_
    refine v_iload_n 1 rfl dX8_init_30 rfl ?_
    refine v_icmp_ge 53 dX8_init_31 (by decide) rfl (fun c31 => ?_) (fun c31 => ?_)
    · have h := o_p c31 h
      obtain rfl := Option.some.inj h
      exact v_vret rfl (by omega) (by omega) dX8_init_53
    · have h := o_n c31 h
      refine v_aload_n 0 rfl dX8_init_34 rfl ?_
      obtain ⟨v35, e35, h⟩ := o_b h
      refine v_getR e35 (by decide) (by decide) rfl qf_RX8_21 dX8_init_35 rfl ?_
      refine v_iload_n 2 rfl dX8_init_38 rfl ?_
      obtain ⟨s39, e39, h⟩ := o_b h
      refine v_new (c' := ((3 + (8 - (n + 1)) * 2) + 1)) (k' := ((21 + (8 - (n + 1)) * 102) + 2)) (Option.some.inj e39) (by decide) qc_RX8_19 qb_4 qz_4 ⟨(by show ((3 + (8 - (n + 1)) * 2) + 1) ≤ 21; omega), (by show ((21 + (8 - (n + 1)) * 102) + 2) ≤ 939; omega)⟩ rfl rfl dX8_init_39 rfl ?_
      refine v_dup rfl dX8_init_42 rfl ?_
      obtain ⟨v43, e43, h⟩ := o_b h
      refine v_Nv (as := []) (st := [.ref (oN σ), .int x2, .ref v35]) (c' := (((3 + (8 - (n + 1)) * 2) + 1) + 1)) (k' := (((21 + (8 - (n + 1)) * 102) + 2) + 100)) (k_X4_init e43) mk_X4_init qi_X4_init rfl (host := "OrderedTable") (by decide +kernel) (ck2 rfl (by show _ ≤ 21; omega) (by show _ ≤ 939; omega)) rfl dX8_init_43 rfl rfl rfl ?_
      obtain ⟨s46, e46, h⟩ := o_b h
      refine v_qR e46 (by decide) (by decide) (by decide) rfl dX8_init_46 rfl ?_
      refine v_iinc (v := (x2 + 1)) [(2, .int (x2 + 1)), (0, .ref x0), (1, .int x1)] 2 rfl rfl dX8_init_47 rfl (by decide) rfl ?_
      refine v_goto (q := 29) dX8_init_50 (by decide) ?_
      refine v_sub [1, 2, 0] rfl ?_
      refine v_wid (c' := (3 + (8 - n) * 2)) (k' := (21 + (8 - n) * 102)) (by omega) (by omega) ?_
      exact ih (by omega) h
set_option maxRecDepth 100000 in
set_option maxHeartbeats 4000000 in
theorem k_X8_init {G : Gm} {μ : Mu} {o : Int64} {σ' : Hp} {σ : Hp} {a0 : Nat} {a1 : Int32} (h : f_X8_init σ a0 a1 = some σ') : Cv G yX8_init cX8_init 3 none rm_X8_init [.ref a0, .int a1] (σ, μ, o) (σ', μ, o) 21 939 := by
  refine v_entV [(0, .ref a0), (1, .int a1)] (by decide +kernel) (Nat.le_of_ble_eq_true rfl) rfl ?_
  unfold f_X8_init at h
  refine v_aload_n 0 rfl dX8_init_0 rfl ?_
  refine v_obj qm_RX8_1 qi_obj qo_obj (Nat.le_of_ble_eq_true rfl) (Nat.le_of_ble_eq_true rfl) dX8_init_1 rfl ?_
  refine v_aload_n 0 rfl dX8_init_4 rfl ?_
  refine v_iload_n 1 rfl dX8_init_5 rfl ?_
  obtain ⟨⟨⟩, g6, h⟩ := o_b h
  obtain ⟨s6, e6, h⟩ := o_b h
  refine v_newRv (cap := 7) (c' := 1) (k' := 7) g6 (Option.some.inj e6) qc_RX8_7 (by decide) (by decide) (by decide) rfl (Nat.le_of_ble_eq_true rfl) ⟨Nat.le_of_ble_eq_true rfl, Nat.le_of_ble_eq_true rfl⟩ rfl rfl dX8_init_6 rfl ?_
  obtain ⟨s9, e9, h⟩ := o_b h
  refine v_putFR e9 (by decide) (by decide) rfl rfl rfl rfl rfl rfl rfl qf_RX8_9 dX8_init_9 rfl ?_
  refine v_aload_n 0 rfl dX8_init_12 rfl ?_
  refine v_iload_n 1 rfl dX8_init_13 rfl ?_
  obtain ⟨⟨⟩, g14, h⟩ := o_b h
  obtain ⟨s14, e14, h⟩ := o_b h
  refine v_newIv (cap := 7) (c' := 2) (k' := 14) g14 (Option.some.inj e14) qa_int (Nat.le_of_ble_eq_true rfl) ⟨Nat.le_of_ble_eq_true rfl, Nat.le_of_ble_eq_true rfl⟩ rfl rfl dX8_init_14 rfl ?_
  obtain ⟨s16, e16, h⟩ := o_b h
  refine v_putFR e16 (by decide) (by decide) rfl rfl rfl rfl rfl rfl rfl qf_RX8_15 dX8_init_16 rfl ?_
  refine v_aload_n 0 rfl dX8_init_19 rfl ?_
  refine v_iload_n 1 rfl dX8_init_20 rfl ?_
  obtain ⟨⟨⟩, g21, h⟩ := o_b h
  obtain ⟨s21, e21, h⟩ := o_b h
  refine v_newRv (cap := 7) (c' := 3) (k' := 21) g21 (Option.some.inj e21) qc_RX8_19 (by decide) (by decide) (by decide) rfl (Nat.le_of_ble_eq_true rfl) ⟨Nat.le_of_ble_eq_true rfl, Nat.le_of_ble_eq_true rfl⟩ rfl rfl dX8_init_21 rfl ?_
  obtain ⟨s24, e24, h⟩ := o_b h
  refine v_putFR e24 (by decide) (by decide) rfl rfl rfl rfl rfl rfl rfl qf_RX8_21 dX8_init_24 rfl ?_
  refine v_iconst (v := (0 : Int32)) (by decide) dX8_init_27 rfl ?_
  refine v_istore_n [(2, .int (0 : Int32)), (0, .ref a0), (1, .int a1)] dX8_init_28 rfl (by decide) rfl ?_
  refine v_sub [1, 2, 0] rfl ?_
  refine v_wid (c' := (3 + (8 - 8) * 2)) (k' := (21 + (8 - 8) * 102)) (by omega) (by omega) ?_
  exact l_X8_init_29 _ (Nat.le_refl _) h
def rm_X3_init : Room := { frames := 1, cells := 2, slots := 18, locals := 20 }
set_option maxRecDepth 100000 in
set_option maxHeartbeats 4000000 in
theorem k_X3_init {G : Gm} {μ : Mu} {o : Int64} {σ' : Hp} {σ : Hp} {a0 : Nat} (h : f_X3_init σ a0 = some σ') : Cv G yX3_init cX3_init 1 none rm_X3_init [.ref a0] (σ, μ, o) (σ', μ, o) 2 18 := by
  refine v_entV [(0, .ref a0)] (by decide +kernel) (Nat.le_of_ble_eq_true rfl) rfl ?_
  unfold f_X3_init at h
  refine v_aload_n 0 rfl dX3_init_0 rfl ?_
  refine v_obj qm_RX3_3 qi_obj qo_obj (Nat.le_of_ble_eq_true rfl) (Nat.le_of_ble_eq_true rfl) dX3_init_1 rfl ?_
  refine v_aload_n 0 rfl dX3_init_4 rfl ?_
  refine v_bipush (v := (9 : Int32)) (by decide) dX3_init_5 rfl ?_
  obtain ⟨s7, e7, h⟩ := o_b h
  refine v_newI (c' := 1) (k' := 9) (Option.some.inj e7) qa_int (by decide) (by decide) (Nat.le_of_ble_eq_true rfl) ⟨Nat.le_of_ble_eq_true rfl, Nat.le_of_ble_eq_true rfl⟩ rfl rfl dX3_init_7 rfl ?_
  obtain ⟨s9, e9, h⟩ := o_b h
  refine v_putFR e9 (by decide) (by decide) rfl rfl rfl rfl rfl rfl rfl qf_RX3_9 dX3_init_9 rfl ?_
  refine v_aload_n 0 rfl dX3_init_12 rfl ?_
  refine v_bipush (v := (9 : Int32)) (by decide) dX3_init_13 rfl ?_
  obtain ⟨s15, e15, h⟩ := o_b h
  refine v_newI (c' := 2) (k' := 18) (Option.some.inj e15) qa_int (by decide) (by decide) (Nat.le_of_ble_eq_true rfl) ⟨Nat.le_of_ble_eq_true rfl, Nat.le_of_ble_eq_true rfl⟩ rfl rfl dX3_init_15 rfl ?_
  obtain ⟨s17, e17, h⟩ := o_b h
  refine v_putFR e17 (by decide) (by decide) rfl rfl rfl rfl rfl rfl rfl qf_RX3_15 dX3_init_17 rfl ?_
  obtain rfl := Option.some.inj h
  exact v_vret rfl (Nat.le_of_ble_eq_true rfl) (Nat.le_of_ble_eq_true rfl) dX3_init_20
def rm_X6_init : Room := { frames := 3, cells := 28, slots := 1071, locals := 62 }
set_option maxRecDepth 100000 in
set_option maxHeartbeats 4000000 in
theorem k_X6_init {G : Gm} {μ : Mu} {o : Int64} {σ' : Hp} {σ : Hp} {a0 : Nat} {a1 : Int32} {a2 : Int32} {a3 : Nat} {a4 : Nat} {a5 : Nat} (h : f_X6_init σ a0 a1 a2 a3 a4 a5 = some σ') : Cv G yX6_init cX6_init 6 none rm_X6_init [.ref a0, .int a1, .int a2, .ref a3, .ref a4, .ref a5] (σ, μ, o) (σ', μ, o) 28 1071 := by
  refine v_entV [(0, .ref a0), (1, .int a1), (2, .int a2), (3, .ref a3), (4, .ref a4), (5, .ref a5)] (by decide +kernel) (Nat.le_of_ble_eq_true rfl) rfl ?_
  unfold f_X6_init at h
  refine v_aload_n 0 rfl dX6_init_0 rfl ?_
  refine v_obj qm_RX6_3 qi_obj qo_obj (Nat.le_of_ble_eq_true rfl) (Nat.le_of_ble_eq_true rfl) dX6_init_1 rfl ?_
  refine v_aload_n 0 rfl dX6_init_4 rfl ?_
  obtain ⟨s5, e5, h⟩ := o_b h
  refine v_new (c' := 1) (k' := 2) (Option.some.inj e5) (by decide) qc_RX6_9 qb_4 qz_4 ⟨Nat.le_of_ble_eq_true rfl, Nat.le_of_ble_eq_true rfl⟩ rfl rfl dX6_init_5 rfl ?_
  refine v_dup rfl dX6_init_8 rfl ?_
  obtain ⟨v9, e9, h⟩ := o_b h
  refine v_Nv (as := []) (st := [.ref (oN σ), .ref a0]) (c' := 2) (k' := 102) (k_X4_init e9) mk_X4_init qi_X4_init rfl (host := "OrderedTable") (by decide +kernel) (ck rfl) rfl dX6_init_9 rfl rfl rfl ?_
  obtain ⟨s12, e12, h⟩ := o_b h
  refine v_putFR e12 (by decide) (by decide) rfl rfl rfl rfl rfl rfl rfl qf_RX6_12 dX6_init_12 rfl ?_
  refine v_aload_n 0 rfl dX6_init_15 rfl ?_
  obtain ⟨s16, e16, h⟩ := o_b h
  refine v_new (c' := 3) (k' := 105) (Option.some.inj e16) (by decide) qc_RX6_18 qb_3 qz_3 ⟨Nat.le_of_ble_eq_true rfl, Nat.le_of_ble_eq_true rfl⟩ rfl rfl dX6_init_16 rfl ?_
  refine v_dup rfl dX6_init_19 rfl ?_
  obtain ⟨v20, e20, h⟩ := o_b h
  refine v_Nv (as := []) (st := [.ref (oN s12), .ref a0]) (c' := 5) (k' := 123) (k_X3_init e20) mk_X3_init qi_X3_init rfl (host := "OrderedTable") (by decide +kernel) (ck rfl) rfl dX6_init_20 rfl rfl rfl ?_
  obtain ⟨s23, e23, h⟩ := o_b h
  refine v_putFR e23 (by decide) (by decide) rfl rfl rfl rfl rfl rfl rfl qf_RX6_21 dX6_init_23 rfl ?_
  refine v_aload_n 0 rfl dX6_init_26 rfl ?_
  refine v_iconst (v := (0 : Int32)) (by decide) dX6_init_27 rfl ?_
  obtain ⟨s28, e28, h⟩ := o_b h
  refine v_putI e28 (by decide) (by decide) rfl rfl rfl rfl rfl qf_RX6_25 dX6_init_28 rfl ?_
  refine v_aload_n 0 rfl dX6_init_31 rfl ?_
  obtain ⟨s32, e32, h⟩ := o_b h
  refine v_new (c' := 6) (k' := 125) (Option.some.inj e32) (by decide) qc_RX6_29 qb_9 qz_9 ⟨Nat.le_of_ble_eq_true rfl, Nat.le_of_ble_eq_true rfl⟩ rfl rfl dX6_init_32 rfl ?_
  refine v_dup rfl dX6_init_35 rfl ?_
  refine v_iconst (v := (0 : Int32)) (by decide) dX6_init_36 rfl ?_
  refine v_iconst (v := (1 : Int32)) (by decide) dX6_init_37 rfl ?_
  obtain ⟨v38, e38, h⟩ := o_b h
  refine v_Iv (as := [.int (0 : Int32), .int (1 : Int32)]) (st := [.ref (oN s28), .ref a0]) (c' := 6) (k' := 125) (k_X9_init e38) mk_X9_init qi_X9_init rfl qm_RX6_31 (ck rfl) rfl dX6_init_38 rfl rfl rfl ?_
  obtain ⟨s41, e41, h⟩ := o_b h
  refine v_putR e41 (by decide) (by decide) rfl rfl qf_RX6_34 dX6_init_41 rfl ?_
  refine v_aload_n 0 rfl dX6_init_44 rfl ?_
  refine v_aload_n 0 rfl dX6_init_45 rfl ?_
  obtain ⟨v46, e46, h⟩ := o_b h
  refine v_getR e46 (by decide) (by decide) rfl qf_RX6_34 dX6_init_46 rfl ?_
  obtain ⟨s49, e49, h⟩ := o_b h
  refine v_putR e49 (by decide) (by decide) rfl rfl qf_RX6_38 dX6_init_49 rfl ?_
  refine v_aload_n 0 rfl dX6_init_52 rfl ?_
  refine v_iload_n 1 rfl dX6_init_53 rfl ?_
  obtain ⟨s54, e54, h⟩ := o_b h
  refine v_putFI e54 (by decide) (by decide) rfl rfl rfl rfl rfl rfl rfl qf_RX6_41 dX6_init_54 rfl ?_
  refine v_aload_n 0 rfl dX6_init_57 rfl ?_
  refine v_iload_n 2 rfl dX6_init_58 rfl ?_
  obtain ⟨s59, e59, h⟩ := o_b h
  refine v_putFI e59 (by decide) (by decide) rfl rfl rfl rfl rfl rfl rfl qf_RX6_44 dX6_init_59 rfl ?_
  refine v_aload_n 0 rfl dX6_init_62 rfl ?_
  refine v_aload_n 3 rfl dX6_init_63 rfl ?_
  obtain ⟨s64, e64, h⟩ := o_b h
  refine v_putFR e64 (by decide) (by decide) rfl rfl rfl rfl rfl rfl rfl qf_RX6_47 dX6_init_64 rfl ?_
  refine v_aload_n 0 rfl dX6_init_67 rfl ?_
  refine v_aload 4 rfl dX6_init_68 rfl ?_
  obtain ⟨s70, e70, h⟩ := o_b h
  refine v_putFR e70 (by decide) (by decide) rfl rfl rfl rfl rfl rfl rfl qf_RX6_51 dX6_init_70 rfl ?_
  refine v_aload_n 0 rfl dX6_init_73 rfl ?_
  refine v_aload 5 rfl dX6_init_74 rfl ?_
  obtain ⟨s76, e76, h⟩ := o_b h
  refine v_putFR e76 (by decide) (by decide) rfl rfl rfl rfl rfl rfl rfl qf_RX6_55 dX6_init_76 rfl ?_
  refine v_aload_n 0 rfl dX6_init_79 rfl ?_
  obtain ⟨s80, e80, h⟩ := o_b h
  refine v_new (c' := 7) (k' := 132) (Option.some.inj e80) (by decide) qc_RX6_59 qb_8 qz_8 ⟨Nat.le_of_ble_eq_true rfl, Nat.le_of_ble_eq_true rfl⟩ rfl rfl dX6_init_80 rfl ?_
  refine v_dup rfl dX6_init_83 rfl ?_
  refine v_iload_n 2 rfl dX6_init_84 rfl ?_
  obtain ⟨v85, e85, h⟩ := o_b h
  refine v_Iv (as := [.int a2]) (st := [.ref (oN s76), .ref a0]) (c' := 28) (k' := 1071) (k_X8_init e85) mk_X8_init qi_X8_init rfl qm_RX6_61 (ck rfl) rfl dX6_init_85 rfl rfl rfl ?_
  obtain ⟨s88, e88, h⟩ := o_b h
  refine v_putFR e88 (by decide) (by decide) rfl rfl rfl rfl rfl rfl rfl qf_RX6_64 dX6_init_88 rfl ?_
  obtain rfl := Option.some.inj h
  exact v_vret rfl (Nat.le_of_ble_eq_true rfl) (Nat.le_of_ble_eq_true rfl) dX6_init_91
def rm_X2_init : Room := { frames := 1, cells := 4, slots := 256, locals := 20 }
set_option maxRecDepth 100000 in
set_option maxHeartbeats 4000000 in
theorem k_X2_init {G : Gm} {μ : Mu} {o : Int64} {σ' : Hp} {σ : Hp} {a0 : Nat} {a1 : Int32} (h : f_X2_init σ a0 a1 = some σ') : Cv G yX2_init cX2_init 2 none rm_X2_init [.ref a0, .int a1] (σ, μ, o) (σ', μ, o) 4 256 := by
  refine v_entV [(0, .ref a0), (1, .int a1)] (by decide +kernel) (Nat.le_of_ble_eq_true rfl) rfl ?_
  unfold f_X2_init at h
  refine v_aload_n 0 rfl dX2_init_0 rfl ?_
  refine v_obj qm_RX2_3 qi_obj qo_obj (Nat.le_of_ble_eq_true rfl) (Nat.le_of_ble_eq_true rfl) dX2_init_1 rfl ?_
  refine v_aload_n 0 rfl dX2_init_4 rfl ?_
  refine v_iconst (v := (0 : Int32)) (by decide) dX2_init_5 rfl ?_
  obtain ⟨s6, e6, h⟩ := o_b h
  refine v_putI e6 (by decide) (by decide) rfl rfl rfl rfl rfl qf_RX2_9 dX2_init_6 rfl ?_
  refine v_aload_n 0 rfl dX2_init_9 rfl ?_
  refine v_iconst (v := (0 : Int32)) (by decide) dX2_init_10 rfl ?_
  obtain ⟨s11, e11, h⟩ := o_b h
  refine v_putI e11 (by decide) (by decide) rfl rfl rfl rfl rfl qf_RX2_15 dX2_init_11 rfl ?_
  refine v_aload_n 0 rfl dX2_init_14 rfl ?_
  refine v_bipush (v := (64 : Int32)) (by decide) dX2_init_15 rfl ?_
  obtain ⟨s17, e17, h⟩ := o_b h
  refine v_newR (c' := 1) (k' := 64) (Option.some.inj e17) qc_RX2_18 (by decide) (by decide) (by decide) rfl (by decide) (by decide) (Nat.le_of_ble_eq_true rfl) ⟨Nat.le_of_ble_eq_true rfl, Nat.le_of_ble_eq_true rfl⟩ rfl rfl dX2_init_17 rfl ?_
  obtain ⟨s20, e20, h⟩ := o_b h
  refine v_putFR e20 (by decide) (by decide) rfl rfl rfl rfl rfl rfl rfl qf_RX2_20 dX2_init_20 rfl ?_
  refine v_aload_n 0 rfl dX2_init_23 rfl ?_
  refine v_bipush (v := (64 : Int32)) (by decide) dX2_init_24 rfl ?_
  obtain ⟨s26, e26, h⟩ := o_b h
  refine v_newI (c' := 2) (k' := 128) (Option.some.inj e26) qa_int (by decide) (by decide) (Nat.le_of_ble_eq_true rfl) ⟨Nat.le_of_ble_eq_true rfl, Nat.le_of_ble_eq_true rfl⟩ rfl rfl dX2_init_26 rfl ?_
  obtain ⟨s28, e28, h⟩ := o_b h
  refine v_putFR e28 (by decide) (by decide) rfl rfl rfl rfl rfl rfl rfl qf_RX2_24 dX2_init_28 rfl ?_
  refine v_aload_n 0 rfl dX2_init_31 rfl ?_
  refine v_bipush (v := (64 : Int32)) (by decide) dX2_init_32 rfl ?_
  obtain ⟨s34, e34, h⟩ := o_b h
  refine v_newI (c' := 3) (k' := 192) (Option.some.inj e34) qa_int (by decide) (by decide) (Nat.le_of_ble_eq_true rfl) ⟨Nat.le_of_ble_eq_true rfl, Nat.le_of_ble_eq_true rfl⟩ rfl rfl dX2_init_34 rfl ?_
  obtain ⟨s36, e36, h⟩ := o_b h
  refine v_putFR e36 (by decide) (by decide) rfl rfl rfl rfl rfl rfl rfl qf_RX2_28 dX2_init_36 rfl ?_
  refine v_aload_n 0 rfl dX2_init_39 rfl ?_
  refine v_bipush (v := (64 : Int32)) (by decide) dX2_init_40 rfl ?_
  obtain ⟨s42, e42, h⟩ := o_b h
  refine v_newI (c' := 4) (k' := 256) (Option.some.inj e42) qa_int (by decide) (by decide) (Nat.le_of_ble_eq_true rfl) ⟨Nat.le_of_ble_eq_true rfl, Nat.le_of_ble_eq_true rfl⟩ rfl rfl dX2_init_42 rfl ?_
  obtain ⟨s44, e44, h⟩ := o_b h
  refine v_putFR e44 (by decide) (by decide) rfl rfl rfl rfl rfl rfl rfl qf_RX2_31 dX2_init_44 rfl ?_
  refine v_aload_n 0 rfl dX2_init_47 rfl ?_
  refine v_iload_n 1 rfl dX2_init_48 rfl ?_
  obtain ⟨s49, e49, h⟩ := o_b h
  refine v_putFI e49 (by decide) (by decide) rfl rfl rfl rfl rfl rfl rfl qf_RX2_34 dX2_init_49 rfl ?_
  obtain rfl := Option.some.inj h
  exact v_vret rfl (Nat.le_of_ble_eq_true rfl) (Nat.le_of_ble_eq_true rfl) dX2_init_52
def rm_X0_init : Room := { frames := 1, cells := 5, slots := 1000, locals := 20 }
set_option maxRecDepth 100000 in
set_option maxHeartbeats 4000000 in
theorem k_X0_init {G : Gm} {μ : Mu} {o : Int64} {σ' : Hp} {σ : Hp} {a0 : Nat} (h : f_X0_init σ a0 = some σ') : Cv G yX0_init cX0_init 1 none rm_X0_init [.ref a0] (σ, μ, o) (σ', μ, o) 5 1000 := by
  refine v_entV [(0, .ref a0)] (by decide +kernel) (Nat.le_of_ble_eq_true rfl) rfl ?_
  unfold f_X0_init at h
  refine v_aload_n 0 rfl dX0_init_0 rfl ?_
  refine v_obj qm_RX0_3 qi_obj qo_obj (Nat.le_of_ble_eq_true rfl) (Nat.le_of_ble_eq_true rfl) dX0_init_1 rfl ?_
  refine v_aload_n 0 rfl dX0_init_4 rfl ?_
  refine v_sipush (v := (200 : Int32)) (by decide) dX0_init_5 rfl ?_
  obtain ⟨s8, e8, h⟩ := o_b h
  refine v_newI (c' := 1) (k' := 200) (Option.some.inj e8) qa_int (by decide) (by decide) (Nat.le_of_ble_eq_true rfl) ⟨Nat.le_of_ble_eq_true rfl, Nat.le_of_ble_eq_true rfl⟩ rfl rfl dX0_init_8 rfl ?_
  obtain ⟨s10, e10, h⟩ := o_b h
  refine v_putFR e10 (by decide) (by decide) rfl rfl rfl rfl rfl rfl rfl qf_RX0_9 dX0_init_10 rfl ?_
  refine v_aload_n 0 rfl dX0_init_13 rfl ?_
  refine v_sipush (v := (200 : Int32)) (by decide) dX0_init_14 rfl ?_
  obtain ⟨s17, e17, h⟩ := o_b h
  refine v_newR (c' := 2) (k' := 400) (Option.some.inj e17) qc_RX0_15 (by decide) (by decide) (by decide) rfl (by decide) (by decide) (Nat.le_of_ble_eq_true rfl) ⟨Nat.le_of_ble_eq_true rfl, Nat.le_of_ble_eq_true rfl⟩ rfl rfl dX0_init_17 rfl ?_
  obtain ⟨s20, e20, h⟩ := o_b h
  refine v_putFR e20 (by decide) (by decide) rfl rfl rfl rfl rfl rfl rfl qf_RX0_17 dX0_init_20 rfl ?_
  refine v_aload_n 0 rfl dX0_init_23 rfl ?_
  refine v_sipush (v := (200 : Int32)) (by decide) dX0_init_24 rfl ?_
  obtain ⟨s27, e27, h⟩ := o_b h
  refine v_newI (c' := 3) (k' := 600) (Option.some.inj e27) qa_int (by decide) (by decide) (Nat.le_of_ble_eq_true rfl) ⟨Nat.le_of_ble_eq_true rfl, Nat.le_of_ble_eq_true rfl⟩ rfl rfl dX0_init_27 rfl ?_
  obtain ⟨s29, e29, h⟩ := o_b h
  refine v_putFR e29 (by decide) (by decide) rfl rfl rfl rfl rfl rfl rfl qf_RX0_21 dX0_init_29 rfl ?_
  refine v_aload_n 0 rfl dX0_init_32 rfl ?_
  refine v_sipush (v := (200 : Int32)) (by decide) dX0_init_33 rfl ?_
  obtain ⟨s36, e36, h⟩ := o_b h
  refine v_newI (c' := 4) (k' := 800) (Option.some.inj e36) qa_int (by decide) (by decide) (Nat.le_of_ble_eq_true rfl) ⟨Nat.le_of_ble_eq_true rfl, Nat.le_of_ble_eq_true rfl⟩ rfl rfl dX0_init_36 rfl ?_
  obtain ⟨s38, e38, h⟩ := o_b h
  refine v_putFR e38 (by decide) (by decide) rfl rfl rfl rfl rfl rfl rfl qf_RX0_24 dX0_init_38 rfl ?_
  refine v_aload_n 0 rfl dX0_init_41 rfl ?_
  refine v_sipush (v := (200 : Int32)) (by decide) dX0_init_42 rfl ?_
  obtain ⟨s45, e45, h⟩ := o_b h
  refine v_newI (c' := 5) (k' := 1000) (Option.some.inj e45) qa_int (by decide) (by decide) (Nat.le_of_ble_eq_true rfl) ⟨Nat.le_of_ble_eq_true rfl, Nat.le_of_ble_eq_true rfl⟩ rfl rfl dX0_init_45 rfl ?_
  obtain ⟨s47, e47, h⟩ := o_b h
  refine v_putFR e47 (by decide) (by decide) rfl rfl rfl rfl rfl rfl rfl qf_RX0_27 dX0_init_47 rfl ?_
  obtain rfl := Option.some.inj h
  exact v_vret rfl (Nat.le_of_ble_eq_true rfl) (Nat.le_of_ble_eq_true rfl) dX0_init_50
def rm_X7_init : Room := { frames := 1, cells := 5, slots := 2565, locals := 20 }
set_option maxRecDepth 100000 in
set_option maxHeartbeats 4000000 in
theorem k_X7_init {G : Gm} {μ : Mu} {o : Int64} {σ' : Hp} {σ : Hp} {a0 : Nat} (h : f_X7_init σ a0 = some σ') : Cv G yX7_init cX7_init 1 none rm_X7_init [.ref a0] (σ, μ, o) (σ', μ, o) 5 2565 := by
  refine v_entV [(0, .ref a0)] (by decide +kernel) (Nat.le_of_ble_eq_true rfl) rfl ?_
  unfold f_X7_init at h
  refine v_aload_n 0 rfl dX7_init_0 rfl ?_
  refine v_obj qm_RX7_3 qi_obj qo_obj (Nat.le_of_ble_eq_true rfl) (Nat.le_of_ble_eq_true rfl) dX7_init_1 rfl ?_
  refine v_aload_n 0 rfl dX7_init_4 rfl ?_
  refine v_sipush (v := (513 : Int32)) (by decide) dX7_init_5 rfl ?_
  obtain ⟨s8, e8, h⟩ := o_b h
  refine v_newI (c' := 1) (k' := 513) (Option.some.inj e8) qa_int (by decide) (by decide) (Nat.le_of_ble_eq_true rfl) ⟨Nat.le_of_ble_eq_true rfl, Nat.le_of_ble_eq_true rfl⟩ rfl rfl dX7_init_8 rfl ?_
  obtain ⟨s10, e10, h⟩ := o_b h
  refine v_putFR e10 (by decide) (by decide) rfl rfl rfl rfl rfl rfl rfl qf_RX7_9 dX7_init_10 rfl ?_
  refine v_aload_n 0 rfl dX7_init_13 rfl ?_
  refine v_sipush (v := (513 : Int32)) (by decide) dX7_init_14 rfl ?_
  obtain ⟨s17, e17, h⟩ := o_b h
  refine v_newI (c' := 2) (k' := 1026) (Option.some.inj e17) qa_int (by decide) (by decide) (Nat.le_of_ble_eq_true rfl) ⟨Nat.le_of_ble_eq_true rfl, Nat.le_of_ble_eq_true rfl⟩ rfl rfl dX7_init_17 rfl ?_
  obtain ⟨s19, e19, h⟩ := o_b h
  refine v_putFR e19 (by decide) (by decide) rfl rfl rfl rfl rfl rfl rfl qf_RX7_15 dX7_init_19 rfl ?_
  refine v_aload_n 0 rfl dX7_init_22 rfl ?_
  refine v_sipush (v := (513 : Int32)) (by decide) dX7_init_23 rfl ?_
  obtain ⟨s26, e26, h⟩ := o_b h
  refine v_newI (c' := 3) (k' := 1539) (Option.some.inj e26) qa_int (by decide) (by decide) (Nat.le_of_ble_eq_true rfl) ⟨Nat.le_of_ble_eq_true rfl, Nat.le_of_ble_eq_true rfl⟩ rfl rfl dX7_init_26 rfl ?_
  obtain ⟨s28, e28, h⟩ := o_b h
  refine v_putFR e28 (by decide) (by decide) rfl rfl rfl rfl rfl rfl rfl qf_RX7_18 dX7_init_28 rfl ?_
  refine v_aload_n 0 rfl dX7_init_31 rfl ?_
  refine v_sipush (v := (513 : Int32)) (by decide) dX7_init_32 rfl ?_
  obtain ⟨s35, e35, h⟩ := o_b h
  refine v_newI (c' := 4) (k' := 2052) (Option.some.inj e35) qa_int (by decide) (by decide) (Nat.le_of_ble_eq_true rfl) ⟨Nat.le_of_ble_eq_true rfl, Nat.le_of_ble_eq_true rfl⟩ rfl rfl dX7_init_35 rfl ?_
  obtain ⟨s37, e37, h⟩ := o_b h
  refine v_putFR e37 (by decide) (by decide) rfl rfl rfl rfl rfl rfl rfl qf_RX7_21 dX7_init_37 rfl ?_
  refine v_aload_n 0 rfl dX7_init_40 rfl ?_
  refine v_sipush (v := (513 : Int32)) (by decide) dX7_init_41 rfl ?_
  obtain ⟨s44, e44, h⟩ := o_b h
  refine v_newI (c' := 5) (k' := 2565) (Option.some.inj e44) qa_int (by decide) (by decide) (Nat.le_of_ble_eq_true rfl) ⟨Nat.le_of_ble_eq_true rfl, Nat.le_of_ble_eq_true rfl⟩ rfl rfl dX7_init_44 rfl ?_
  obtain ⟨s46, e46, h⟩ := o_b h
  refine v_putFR e46 (by decide) (by decide) rfl rfl rfl rfl rfl rfl rfl qf_RX7_24 dX7_init_46 rfl ?_
  refine v_aload_n 0 rfl dX7_init_49 rfl ?_
  refine v_iconst (v := (0 : Int32)) (by decide) dX7_init_50 rfl ?_
  obtain ⟨s51, e51, h⟩ := o_b h
  refine v_putI e51 (by decide) (by decide) rfl rfl rfl rfl rfl qf_RX7_27 dX7_init_51 rfl ?_
  obtain rfl := Option.some.inj h
  exact v_vret rfl (Nat.le_of_ble_eq_true rfl) (Nat.le_of_ble_eq_true rfl) dX7_init_54
def rm_X10_init : Room := { frames := 1, cells := 4, slots := 1038, locals := 20 }
set_option maxRecDepth 100000 in
set_option maxHeartbeats 4000000 in
theorem k_X10_init {G : Gm} {μ : Mu} {o : Int64} {σ' : Hp} {σ : Hp} {a0 : Nat} {a1 : Nat} (h : f_X10_init σ a0 a1 = some σ') : Cv G yX10_init cX10_init 2 none rm_X10_init [.ref a0, .ref a1] (σ, μ, o) (σ', μ, o) 4 1038 := by
  refine v_entV [(0, .ref a0), (1, .ref a1)] (by decide +kernel) (Nat.le_of_ble_eq_true rfl) rfl ?_
  unfold f_X10_init at h
  refine v_aload_n 0 rfl dX10_init_0 rfl ?_
  refine v_obj qm_RX10_3 qi_obj qo_obj (Nat.le_of_ble_eq_true rfl) (Nat.le_of_ble_eq_true rfl) dX10_init_1 rfl ?_
  refine v_aload_n 0 rfl dX10_init_4 rfl ?_
  refine v_bipush (v := (8 : Int32)) (by decide) dX10_init_5 rfl ?_
  obtain ⟨s7, e7, h⟩ := o_b h
  refine v_newI (c' := 1) (k' := 8) (Option.some.inj e7) qa_int (by decide) (by decide) (Nat.le_of_ble_eq_true rfl) ⟨Nat.le_of_ble_eq_true rfl, Nat.le_of_ble_eq_true rfl⟩ rfl rfl dX10_init_7 rfl ?_
  obtain ⟨s9, e9, h⟩ := o_b h
  refine v_putFR e9 (by decide) (by decide) rfl rfl rfl rfl rfl rfl rfl qf_RX10_9 dX10_init_9 rfl ?_
  refine v_aload_n 0 rfl dX10_init_12 rfl ?_
  refine v_iconst (v := (4 : Int32)) (by decide) dX10_init_13 rfl ?_
  obtain ⟨s14, e14, h⟩ := o_b h
  refine v_newI (c' := 2) (k' := 12) (Option.some.inj e14) qa_int (by decide) (by decide) (Nat.le_of_ble_eq_true rfl) ⟨Nat.le_of_ble_eq_true rfl, Nat.le_of_ble_eq_true rfl⟩ rfl rfl dX10_init_14 rfl ?_
  obtain ⟨s16, e16, h⟩ := o_b h
  refine v_putFR e16 (by decide) (by decide) rfl rfl rfl rfl rfl rfl rfl qf_RX10_15 dX10_init_16 rfl ?_
  refine v_aload_n 0 rfl dX10_init_19 rfl ?_
  refine v_sipush (v := (513 : Int32)) (by decide) dX10_init_20 rfl ?_
  obtain ⟨s23, e23, h⟩ := o_b h
  refine v_newI (c' := 3) (k' := 525) (Option.some.inj e23) qa_int (by decide) (by decide) (Nat.le_of_ble_eq_true rfl) ⟨Nat.le_of_ble_eq_true rfl, Nat.le_of_ble_eq_true rfl⟩ rfl rfl dX10_init_23 rfl ?_
  obtain ⟨s25, e25, h⟩ := o_b h
  refine v_putFR e25 (by decide) (by decide) rfl rfl rfl rfl rfl rfl rfl qf_RX10_18 dX10_init_25 rfl ?_
  refine v_aload_n 0 rfl dX10_init_28 rfl ?_
  refine v_sipush (v := (513 : Int32)) (by decide) dX10_init_29 rfl ?_
  obtain ⟨s32, e32, h⟩ := o_b h
  refine v_newI (c' := 4) (k' := 1038) (Option.some.inj e32) qa_int (by decide) (by decide) (Nat.le_of_ble_eq_true rfl) ⟨Nat.le_of_ble_eq_true rfl, Nat.le_of_ble_eq_true rfl⟩ rfl rfl dX10_init_32 rfl ?_
  obtain ⟨s34, e34, h⟩ := o_b h
  refine v_putFR e34 (by decide) (by decide) rfl rfl rfl rfl rfl rfl rfl qf_RX10_21 dX10_init_34 rfl ?_
  refine v_aload_n 0 rfl dX10_init_37 rfl ?_
  refine v_aload_n 1 rfl dX10_init_38 rfl ?_
  obtain ⟨s39, e39, h⟩ := o_b h
  refine v_putFR e39 (by decide) (by decide) rfl rfl rfl rfl rfl rfl rfl qf_RX10_24 dX10_init_39 rfl ?_
  obtain rfl := Option.some.inj h
  exact v_vret rfl (Nat.le_of_ble_eq_true rfl) (Nat.le_of_ble_eq_true rfl) dX10_init_42
def rm_X11_init : Room := { frames := 4, cells := 918, slots := 39210, locals := 87 }
set_option maxRecDepth 100000 in
set_option maxHeartbeats 4000000 in
theorem l_X11_init_160 {G : Gm} {μ : Mu} {o : Int64} {σ' : Hp} {σ : Hp} {x0 : Nat} (h : f_X11_init_160 σ x0 = some σ') : V G yX11_init cX11_init 3 none rm_X11_init (zV G (σ', μ, o) 918 39210) (σ, μ, o) 890 38128 160 [(0, .ref x0)] [] := by
  unfold f_X11_init_160 at h
  refine v_aload_n 0 rfl dX11_init_160 rfl ?_
  refine v_iconst (v := (1 : Int32)) (by decide) dX11_init_161 rfl ?_
  obtain ⟨s162, e162, h⟩ := o_b h
  refine v_putI e162 (by decide) (by decide) rfl rfl rfl rfl rfl qf_RX11_67 dX11_init_162 rfl ?_
  refine v_aload_n 0 rfl dX11_init_165 rfl ?_
  refine v_iconst (v := (1 : Int32)) (by decide) dX11_init_166 rfl ?_
  obtain ⟨s167, e167, h⟩ := o_b h
  refine v_putI e167 (by decide) (by decide) rfl rfl rfl rfl rfl qf_RX11_71 dX11_init_167 rfl ?_
  obtain rfl := Option.some.inj h
  exact v_vret rfl (Nat.le_of_ble_eq_true rfl) (Nat.le_of_ble_eq_true rfl) dX11_init_170
set_option maxRecDepth 100000 in
set_option maxHeartbeats 4000000 in
theorem l_X11_init_132 {G : Gm} {μ : Mu} {o : Int64} {σ' : Hp} : ∀ (n : Nat) (hF : n ≤ 5) {σ : Hp} {x0 : Nat} {x2 : Int32} , f_X11_init_132 n σ x0 x2 = some σ' → V G yX11_init cX11_init 3 none rm_X11_init (zV G (σ', μ, o) 918 39210) (σ, μ, o) (865 + (5 - n) * 5) (36783 + (5 - n) * 269) 132 [(0, .ref x0), (2, .int x2)] [] := by
  intro n
  induction n with
  | zero => intro _ _ _ _ h; cases h
  | succ n ih =>
    intro hF σ x0 x2 h
    replace h : b_X11_init_132 (f_X11_init_132 n) σ x0 x2 = some σ' := h
    unfold b_X11_init_132 at h
    refine v_iload_n 1 rfl dX11_init_132 rfl ?_
    refine v_iconst (v := (4 : Int32)) (by decide) dX11_init_133 rfl ?_
    refine v_icmp_ge 160 dX11_init_134 (by decide) rfl (fun c134 => ?_) (fun c134 => ?_)
    · have h := o_p c134 h
      refine v_sub [0] rfl ?_
      refine v_wid (c' := 890) (k' := 38128) (by omega) (by omega) ?_
      exact l_X11_init_160 h
    · have h := o_n c134 h
      refine v_aload_n 0 rfl dX11_init_137 rfl ?_
      obtain ⟨v138, e138, h⟩ := o_b h
      refine v_getR e138 (by decide) (by decide) rfl qf_RX11_60 dX11_init_138 rfl ?_
      refine v_iload_n 1 rfl dX11_init_141 rfl ?_
      obtain ⟨s142, e142, h⟩ := o_b h
      refine v_new (c' := ((865 + (5 - (n + 1)) * 5) + 1)) (k' := ((36783 + (5 - (n + 1)) * 269) + 13)) (Option.some.inj e142) (by decide) qc_RX11_58 qb_2 qz_2 ⟨(by show ((865 + (5 - (n + 1)) * 5) + 1) ≤ 918; omega), (by show ((36783 + (5 - (n + 1)) * 269) + 13) ≤ 39210; omega)⟩ rfl rfl dX11_init_142 rfl ?_
      refine v_dup rfl dX11_init_145 rfl ?_
      refine v_aload_n 0 rfl dX11_init_146 rfl ?_
      obtain ⟨v147, e147, h⟩ := o_b h
      refine v_getI e147 (by decide) (by decide) rfl qf_RX11_13 dX11_init_147 rfl ?_
      obtain ⟨v150, e150, h⟩ := o_b h
      refine v_Iv (as := [.int v147]) (st := [.ref (oN σ), .int x2, .ref v138]) (c' := (((865 + (5 - (n + 1)) * 5) + 1) + 4)) (k' := (((36783 + (5 - (n + 1)) * 269) + 13) + 256)) (k_X2_init e150) mk_X2_init qi_X2_init rfl qm_RX11_64 (ck2 rfl (by show _ ≤ 918; omega) (by show _ ≤ 39210; omega)) rfl dX11_init_150 rfl rfl rfl ?_
      obtain ⟨s153, e153, h⟩ := o_b h
      refine v_qR e153 (by decide) (by decide) (by decide) rfl dX11_init_153 rfl ?_
      refine v_iinc (v := (x2 + 1)) [(2, .int (x2 + 1)), (0, .ref x0)] 1 rfl rfl dX11_init_154 rfl (by decide) rfl ?_
      refine v_goto (q := 132) dX11_init_157 (by decide) ?_
      refine v_sub [1, 0] rfl ?_
      refine v_wid (c' := (865 + (5 - n) * 5)) (k' := (36783 + (5 - n) * 269)) (by omega) (by omega) ?_
      exact ih (by omega) h
set_option maxRecDepth 100000 in
set_option maxHeartbeats 4000000 in
theorem l_X11_init_122 {G : Gm} {μ : Mu} {o : Int64} {σ' : Hp} {σ : Hp} {x0 : Nat} (h : f_X11_init_122 σ x0 = some σ') : V G yX11_init cX11_init 3 none rm_X11_init (zV G (σ', μ, o) 918 39210) (σ, μ, o) 864 36779 122 [(0, .ref x0)] [] := by
  unfold f_X11_init_122 at h
  refine v_aload_n 0 rfl dX11_init_122 rfl ?_
  refine v_iconst (v := (4 : Int32)) (by decide) dX11_init_123 rfl ?_
  obtain ⟨s124, e124, h⟩ := o_b h
  refine v_newR (c' := 865) (k' := 36783) (Option.some.inj e124) qc_RX11_58 (by decide) (by decide) (by decide) rfl (by decide) (by decide) (Nat.le_of_ble_eq_true rfl) ⟨Nat.le_of_ble_eq_true rfl, Nat.le_of_ble_eq_true rfl⟩ rfl rfl dX11_init_124 rfl ?_
  obtain ⟨s127, e127, h⟩ := o_b h
  refine v_putFR e127 (by decide) (by decide) rfl rfl rfl rfl rfl rfl rfl qf_RX11_60 dX11_init_127 rfl ?_
  refine v_iconst (v := (0 : Int32)) (by decide) dX11_init_130 rfl ?_
  refine v_istore_n [(2, .int (0 : Int32)), (0, .ref x0)] dX11_init_131 rfl (by decide) rfl ?_
  refine v_sub [1, 0] rfl ?_
  refine v_wid (c' := (865 + (5 - 5) * 5)) (k' := (36783 + (5 - 5) * 269)) (by omega) (by omega) ?_
  exact l_X11_init_132 _ (Nat.le_refl _) h
set_option maxRecDepth 100000 in
set_option maxHeartbeats 4000000 in
theorem l_X11_init_78 {G : Gm} {μ : Mu} {o : Int64} {σ' : Hp} : ∀ (n : Nat) (hF : n ≤ 8) {σ : Hp} {x0 : Nat} {x2 : Int32} , f_X11_init_78 n σ x0 x2 = some σ' → V G yX11_init cX11_init 3 none rm_X11_init (zV G (σ', μ, o) 918 39210) (σ, μ, o) (632 + (8 - n) * 29) (28091 + (8 - n) * 1086) 78 [(0, .ref x0), (2, .int x2)] [] := by
  intro n
  induction n with
  | zero => intro _ _ _ _ h; cases h
  | succ n ih =>
    intro hF σ x0 x2 h
    replace h : b_X11_init_78 (f_X11_init_78 n) σ x0 x2 = some σ' := h
    unfold b_X11_init_78 at h
    refine v_iload_n 1 rfl dX11_init_78 rfl ?_
    refine v_aload_n 0 rfl dX11_init_79 rfl ?_
    obtain ⟨v80, e80, h⟩ := o_b h
    refine v_getI e80 (by decide) (by decide) rfl qf_RX11_13 dX11_init_80 rfl ?_
    refine v_icmp_ge 122 dX11_init_83 (by decide) rfl (fun c83 => ?_) (fun c83 => ?_)
    · have h := o_p c83 h
      refine v_sub [0] rfl ?_
      refine v_wid (c' := 864) (k' := 36779) (by omega) (by omega) ?_
      exact l_X11_init_122 h
    · have h := o_n c83 h
      refine v_aload_n 0 rfl dX11_init_86 rfl ?_
      obtain ⟨v87, e87, h⟩ := o_b h
      refine v_getR e87 (by decide) (by decide) rfl qf_RX11_51 dX11_init_87 rfl ?_
      refine v_iload_n 1 rfl dX11_init_90 rfl ?_
      obtain ⟨s91, e91, h⟩ := o_b h
      refine v_new (c' := ((632 + (8 - (n + 1)) * 29) + 1)) (k' := ((28091 + (8 - (n + 1)) * 1086) + 15)) (Option.some.inj e91) (by decide) qc_RX11_49 qb_6 qz_6 ⟨(by show ((632 + (8 - (n + 1)) * 29) + 1) ≤ 918; omega), (by show ((28091 + (8 - (n + 1)) * 1086) + 15) ≤ 39210; omega)⟩ rfl rfl dX11_init_91 rfl ?_
      refine v_dup rfl dX11_init_94 rfl ?_
      refine v_iload_n 1 rfl dX11_init_95 rfl ?_
      refine v_aload_n 0 rfl dX11_init_96 rfl ?_
      obtain ⟨v97, e97, h⟩ := o_b h
      refine v_getI e97 (by decide) (by decide) rfl qf_RX11_13 dX11_init_97 rfl ?_
      refine v_aload_n 0 rfl dX11_init_100 rfl ?_
      obtain ⟨v101, e101, h⟩ := o_b h
      refine v_getR e101 (by decide) (by decide) rfl qf_RX11_22 dX11_init_101 rfl ?_
      refine v_aload_n 0 rfl dX11_init_104 rfl ?_
      obtain ⟨v105, e105, h⟩ := o_b h
      refine v_getR e105 (by decide) (by decide) rfl qf_RX11_31 dX11_init_105 rfl ?_
      refine v_aload_n 0 rfl dX11_init_108 rfl ?_
      obtain ⟨v109, e109, h⟩ := o_b h
      refine v_getR e109 (by decide) (by decide) rfl qf_RX11_38 dX11_init_109 rfl ?_
      obtain ⟨v112, e112, h⟩ := o_b h
      refine v_Iv (as := [.int x2, .int v97, .ref v101, .ref v105, .ref v109]) (st := [.ref (oN σ), .int x2, .ref v87]) (c' := (((632 + (8 - (n + 1)) * 29) + 1) + 28)) (k' := (((28091 + (8 - (n + 1)) * 1086) + 15) + 1071)) (k_X6_init e112) mk_X6_init qi_X6_init rfl qm_RX11_55 (ck2 rfl (by show _ ≤ 918; omega) (by show _ ≤ 39210; omega)) rfl dX11_init_112 rfl rfl rfl ?_
      obtain ⟨s115, e115, h⟩ := o_b h
      refine v_qR e115 (by decide) (by decide) (by decide) rfl dX11_init_115 rfl ?_
      refine v_iinc (v := (x2 + 1)) [(2, .int (x2 + 1)), (0, .ref x0)] 1 rfl rfl dX11_init_116 rfl (by decide) rfl ?_
      refine v_goto (q := 78) dX11_init_119 (by decide) ?_
      refine v_sub [1, 0] rfl ?_
      refine v_wid (c' := (632 + (8 - n) * 29)) (k' := (28091 + (8 - n) * 1086)) (by omega) (by omega) ?_
      exact ih (by omega) h
set_option maxRecDepth 100000 in
set_option maxHeartbeats 4000000 in
theorem k_X11_init {G : Gm} {μ : Mu} {o : Int64} {σ' : Hp} {σ : Hp} {a0 : Nat} {a1 : Int32} (h : f_X11_init σ a0 a1 = some σ') : Cv G yX11_init cX11_init 3 none rm_X11_init [.ref a0, .int a1] (σ, μ, o) (σ', μ, o) 918 39210 := by
  refine v_entV [(0, .ref a0), (1, .int a1)] (by decide +kernel) (Nat.le_of_ble_eq_true rfl) rfl ?_
  unfold f_X11_init at h
  refine v_aload_n 0 rfl dX11_init_0 rfl ?_
  refine v_obj qm_RX11_1 qi_obj qo_obj (Nat.le_of_ble_eq_true rfl) (Nat.le_of_ble_eq_true rfl) dX11_init_1 rfl ?_
  refine v_aload_n 0 rfl dX11_init_4 rfl ?_
  refine v_iconst (v := (3 : Int32)) (by decide) dX11_init_5 rfl ?_
  refine v_iconst (v := (2 : Int32)) (by decide) dX11_init_6 rfl ?_
  refine v_iload_n 1 rfl dX11_init_7 rfl ?_
  refine v_iconst (v := (3 : Int32)) (by decide) dX11_init_8 rfl ?_
  obtain ⟨v9, e9, h⟩ := o_b h
  refine v_Si (as := [.int a1, .int (3 : Int32)]) (st := [.int (2 : Int32), .int (3 : Int32), .ref a0]) (c' := 0) (k' := 0) (k_J9_floorMod_7cf53 e9) mk_J9_floorMod_7cf53 qs_J9_floorMod_7cf53 qm_RX11_7 (ck rfl) rfl dX11_init_9 rfl rfl rfl ?_
  refine v_imul dX11_init_12 rfl ?_
  refine v_iadd dX11_init_13 rfl ?_
  obtain ⟨s14, e14, h⟩ := o_b h
  refine v_putFI e14 (by decide) (by decide) rfl rfl rfl rfl rfl rfl rfl qf_RX11_13 dX11_init_14 rfl ?_
  refine v_aload_n 0 rfl dX11_init_17 rfl ?_
  obtain ⟨s18, e18, h⟩ := o_b h
  refine v_new (c' := 1) (k' := 6) (Option.some.inj e18) (by decide) qc_RX11_19 qb_7 qz_7 ⟨Nat.le_of_ble_eq_true rfl, Nat.le_of_ble_eq_true rfl⟩ rfl rfl dX11_init_18 rfl ?_
  refine v_dup rfl dX11_init_21 rfl ?_
  obtain ⟨v22, e22, h⟩ := o_b h
  refine v_Nv (as := []) (st := [.ref (oN s14), .ref a0]) (c' := 6) (k' := 2571) (k_X7_init e22) mk_X7_init qi_X7_init rfl (host := "OrderedTable") (by decide +kernel) (ck rfl) rfl dX11_init_22 rfl rfl rfl ?_
  obtain ⟨s25, e25, h⟩ := o_b h
  refine v_putFR e25 (by decide) (by decide) rfl rfl rfl rfl rfl rfl rfl qf_RX11_22 dX11_init_25 rfl ?_
  refine v_aload_n 0 rfl dX11_init_28 rfl ?_
  obtain ⟨s29, e29, h⟩ := o_b h
  refine v_new (c' := 7) (k' := 2576) (Option.some.inj e29) (by decide) qc_RX11_26 qb_10 qz_10 ⟨Nat.le_of_ble_eq_true rfl, Nat.le_of_ble_eq_true rfl⟩ rfl rfl dX11_init_29 rfl ?_
  refine v_dup rfl dX11_init_32 rfl ?_
  refine v_aload_n 0 rfl dX11_init_33 rfl ?_
  obtain ⟨v34, e34, h⟩ := o_b h
  refine v_getR e34 (by decide) (by decide) rfl qf_RX11_22 dX11_init_34 rfl ?_
  obtain ⟨v37, e37, h⟩ := o_b h
  refine v_Iv (as := [.ref v34]) (st := [.ref (oN s25), .ref a0]) (c' := 11) (k' := 3614) (k_X10_init e37) mk_X10_init qi_X10_init rfl qm_RX11_28 (ck rfl) rfl dX11_init_37 rfl rfl rfl ?_
  obtain ⟨s40, e40, h⟩ := o_b h
  refine v_putFR e40 (by decide) (by decide) rfl rfl rfl rfl rfl rfl rfl qf_RX11_31 dX11_init_40 rfl ?_
  refine v_aload_n 0 rfl dX11_init_43 rfl ?_
  obtain ⟨s44, e44, h⟩ := o_b h
  refine v_new (c' := 12) (k' := 3620) (Option.some.inj e44) (by decide) qc_RX11_35 qb_1 qz_1 ⟨Nat.le_of_ble_eq_true rfl, Nat.le_of_ble_eq_true rfl⟩ rfl rfl dX11_init_44 rfl ?_
  refine v_dup rfl dX11_init_47 rfl ?_
  obtain ⟨v48, e48, h⟩ := o_b h
  refine v_Iv (as := []) (st := [.ref (oN s40), .ref a0]) (c' := 625) (k' := 27076) (k_X1_init e48) mk_X1_init qi_X1_init rfl qm_RX11_37 (ck rfl) rfl dX11_init_48 rfl rfl rfl ?_
  obtain ⟨s51, e51, h⟩ := o_b h
  refine v_putFR e51 (by decide) (by decide) rfl rfl rfl rfl rfl rfl rfl qf_RX11_38 dX11_init_51 rfl ?_
  refine v_aload_n 0 rfl dX11_init_54 rfl ?_
  obtain ⟨s55, e55, h⟩ := o_b h
  refine v_new (c' := 626) (k' := 27084) (Option.some.inj e55) (by decide) qc_RX11_42 qb_0 qz_0 ⟨Nat.le_of_ble_eq_true rfl, Nat.le_of_ble_eq_true rfl⟩ rfl rfl dX11_init_55 rfl ?_
  refine v_dup rfl dX11_init_58 rfl ?_
  obtain ⟨v59, e59, h⟩ := o_b h
  refine v_Nv (as := []) (st := [.ref (oN s51), .ref a0]) (c' := 631) (k' := 28084) (k_X0_init e59) mk_X0_init qi_X0_init rfl (host := "OrderedTable") (by decide +kernel) (ck rfl) rfl dX11_init_59 rfl rfl rfl ?_
  obtain ⟨s62, e62, h⟩ := o_b h
  refine v_putFR e62 (by decide) (by decide) rfl rfl rfl rfl rfl rfl rfl qf_RX11_45 dX11_init_62 rfl ?_
  refine v_aload_n 0 rfl dX11_init_65 rfl ?_
  refine v_aload_n 0 rfl dX11_init_66 rfl ?_
  obtain ⟨v67, e67, h⟩ := o_b h
  refine v_getI e67 (by decide) (by decide) rfl qf_RX11_13 dX11_init_67 rfl ?_
  obtain ⟨⟨⟩, g70, h⟩ := o_b h
  obtain ⟨s70, e70, h⟩ := o_b h
  refine v_newRv (cap := 7) (c' := 632) (k' := 28091) g70 (Option.some.inj e70) qc_RX11_49 (by decide) (by decide) (by decide) rfl (Nat.le_of_ble_eq_true rfl) ⟨Nat.le_of_ble_eq_true rfl, Nat.le_of_ble_eq_true rfl⟩ rfl rfl dX11_init_70 rfl ?_
  obtain ⟨s73, e73, h⟩ := o_b h
  refine v_putFR e73 (by decide) (by decide) rfl rfl rfl rfl rfl rfl rfl qf_RX11_51 dX11_init_73 rfl ?_
  refine v_iconst (v := (0 : Int32)) (by decide) dX11_init_76 rfl ?_
  refine v_istore_n [(2, .int (0 : Int32)), (0, .ref a0), (1, .int a1)] dX11_init_77 rfl (by decide) rfl ?_
  refine v_sub [1, 0] rfl ?_
  refine v_wid (c' := (632 + (8 - 8) * 29)) (k' := (28091 + (8 - 8) * 1086)) (by omega) (by omega) ?_
  exact l_X11_init_78 _ (Nat.le_refl _) h
def rm_X12_init : Room := { frames := 1, cells := 68, slots := 52282, locals := 20 }
set_option maxRecDepth 100000 in
set_option maxHeartbeats 4000000 in
theorem l_X12_init_653 {G : Gm} {μ : Mu} {o : Int64} {σ' : Hp} : ∀ (n : Nat) {σ : Hp} {x0 : Nat} {x3 : Int32} , f_X12_init_653 n σ x0 x3 = some σ' → V G yX12_init cX12_init 4 none rm_X12_init (zV G (σ', μ, o) 68 52282) (σ, μ, o) 68 52282 653 [(0, .ref x0), (3, .int x3)] [] := by
  intro n
  induction n with
  | zero => intro _ _ _ h; cases h
  | succ n ih =>
    intro σ x0 x3 h
    replace h : b_X12_init_653 (f_X12_init_653 n) σ x0 x3 = some σ' := h
    unfold b_X12_init_653 at h
    refine v_iload_n 1 rfl dX12_init_653 rfl ?_
    refine v_sipush (v := (200 : Int32)) (by decide) dX12_init_654 rfl ?_
    refine v_icmp_ge 673 dX12_init_657 (by decide) rfl (fun c657 => ?_) (fun c657 => ?_)
    · have h := o_p c657 h
      obtain rfl := Option.some.inj h
      exact v_vret rfl (Nat.le_of_ble_eq_true rfl) (Nat.le_of_ble_eq_true rfl) dX12_init_673
    · have h := o_n c657 h
      refine v_aload_n 0 rfl dX12_init_660 rfl ?_
      obtain ⟨v661, e661, h⟩ := o_b h
      refine v_getR e661 (by decide) (by decide) rfl qf_RX12_36 dX12_init_661 rfl ?_
      refine v_iload_n 1 rfl dX12_init_664 rfl ?_
      refine v_iload_n 1 rfl dX12_init_665 rfl ?_
      obtain ⟨s666, e666, h⟩ := o_b h
      refine v_qI e666 dX12_init_666 rfl ?_
      refine v_iinc (v := (x3 + 1)) [(3, .int (x3 + 1)), (0, .ref x0)] 1 rfl rfl dX12_init_667 rfl (by decide) rfl ?_
      refine v_goto (q := 653) dX12_init_670 (by decide) ?_
      refine v_sub [1, 0] rfl ?_
      exact ih h
set_option maxRecDepth 100000 in
set_option maxHeartbeats 4000000 in
theorem l_X12_init_651 {G : Gm} {μ : Mu} {o : Int64} {σ' : Hp} {σ : Hp} {x0 : Nat} (h : f_X12_init_651 σ x0 = some σ') : V G yX12_init cX12_init 4 none rm_X12_init (zV G (σ', μ, o) 68 52282) (σ, μ, o) 68 52282 651 [(0, .ref x0)] [] := by
  unfold f_X12_init_651 at h
  refine v_iconst (v := (0 : Int32)) (by decide) dX12_init_651 rfl ?_
  refine v_istore_n [(3, .int (0 : Int32)), (0, .ref x0)] dX12_init_652 rfl (by decide) rfl ?_
  refine v_sub [1, 0] rfl ?_
  exact l_X12_init_653 _ h
set_option maxRecDepth 100000 in
set_option maxHeartbeats 4000000 in
theorem l_X12_init_625 {G : Gm} {μ : Mu} {o : Int64} {σ' : Hp} : ∀ (n : Nat) {σ : Hp} {x0 : Nat} {x3 : Int32} , f_X12_init_625 n σ x0 x3 = some σ' → V G yX12_init cX12_init 4 none rm_X12_init (zV G (σ', μ, o) 68 52282) (σ, μ, o) 68 52282 625 [(0, .ref x0), (3, .int x3)] [] := by
  intro n
  induction n with
  | zero => intro _ _ _ h; cases h
  | succ n ih =>
    intro σ x0 x3 h
    replace h : b_X12_init_625 (f_X12_init_625 n) σ x0 x3 = some σ' := h
    unfold b_X12_init_625 at h
    refine v_iload_n 1 rfl dX12_init_625 rfl ?_
    refine v_bipush (v := (7 : Int32)) (by decide) dX12_init_626 rfl ?_
    refine v_icmp_ge 651 dX12_init_628 (by decide) rfl (fun c628 => ?_) (fun c628 => ?_)
    · have h := o_p c628 h
      refine v_sub [0] rfl ?_
      exact l_X12_init_651 h
    · have h := o_n c628 h
      refine v_aload_n 0 rfl dX12_init_631 rfl ?_
      obtain ⟨v632, e632, h⟩ := o_b h
      refine v_getR e632 (by decide) (by decide) rfl qf_RX12_91 dX12_init_632 rfl ?_
      refine v_iload_n 1 rfl dX12_init_635 rfl ?_
      refine v_iconst (v := (1 : Int32)) (by decide) dX12_init_636 rfl ?_
      obtain ⟨s637, e637, h⟩ := o_b h
      refine v_qI e637 dX12_init_637 rfl ?_
      refine v_aload_n 0 rfl dX12_init_638 rfl ?_
      obtain ⟨v639, e639, h⟩ := o_b h
      refine v_getR e639 (by decide) (by decide) rfl qf_RX12_100 dX12_init_639 rfl ?_
      refine v_iload_n 1 rfl dX12_init_642 rfl ?_
      refine v_iconst (v := (1 : Int32)) (by decide) dX12_init_643 rfl ?_
      obtain ⟨s644, e644, h⟩ := o_b h
      refine v_qI e644 dX12_init_644 rfl ?_
      refine v_iinc (v := (x3 + 1)) [(3, .int (x3 + 1)), (0, .ref x0)] 1 rfl rfl dX12_init_645 rfl (by decide) rfl ?_
      refine v_goto (q := 625) dX12_init_648 (by decide) ?_
      refine v_sub [1, 0] rfl ?_
      exact ih h
set_option maxRecDepth 100000 in
set_option maxHeartbeats 4000000 in
theorem l_X12_init_610 {G : Gm} {μ : Mu} {o : Int64} {σ' : Hp} {σ : Hp} {x0 : Nat} {y0 : Nat} {y1 : Int32} (h : f_X12_init_610 σ x0 y0 y1 = some σ') : V G yX12_init cX12_init 4 none rm_X12_init (zV G (σ', μ, o) 68 52282) (σ, μ, o) 68 52282 610 [(0, .ref x0)] [.int y1, .ref y0] := by
  unfold f_X12_init_610 at h
  obtain ⟨s610, e610, h⟩ := o_b h
  refine v_putFI e610 (by decide) (by decide) rfl rfl rfl rfl rfl rfl rfl qf_RX12_223 dX12_init_610 rfl ?_
  refine v_aload_n 0 rfl dX12_init_613 rfl ?_
  refine v_aload_n 0 rfl dX12_init_614 rfl ?_
  obtain ⟨v615, e615, h⟩ := o_b h
  refine v_getI e615 (by decide) (by decide) rfl qf_RX12_223 dX12_init_615 rfl ?_
  refine v_iconst (v := (2 : Int32)) (by decide) dX12_init_618 rfl ?_
  refine v_idiv (by decide) dX12_init_619 rfl ?_
  obtain ⟨s620, e620, h⟩ := o_b h
  refine v_putFI e620 (by decide) (by decide) rfl rfl rfl rfl rfl rfl rfl qf_RX12_226 dX12_init_620 rfl ?_
  refine v_iconst (v := (0 : Int32)) (by decide) dX12_init_623 rfl ?_
  refine v_istore_n [(3, .int (0 : Int32)), (0, .ref x0)] dX12_init_624 rfl (by decide) rfl ?_
  refine v_sub [1, 0] rfl ?_
  exact l_X12_init_625 _ h
set_option maxRecDepth 100000 in
set_option maxHeartbeats 4000000 in
theorem k_X12_init {G : Gm} {μ : Mu} {o : Int64} {σ' : Hp} {σ : Hp} {a0 : Nat} {a1 : Int32} (h : f_X12_init σ a0 a1 = some σ') : Cv G yX12_init cX12_init 4 none rm_X12_init [.ref a0, .int a1] (σ, μ, o) (σ', μ, o) 68 52282 := by
  refine v_entV [(0, .ref a0), (1, .int a1)] (by decide +kernel) (Nat.le_of_ble_eq_true rfl) rfl ?_
  unfold f_X12_init at h
  refine v_aload_n 0 rfl dX12_init_0 rfl ?_
  refine v_obj qm_RX12_1 qi_obj qo_obj (Nat.le_of_ble_eq_true rfl) (Nat.le_of_ble_eq_true rfl) dX12_init_1 rfl ?_
  refine v_aload_n 0 rfl dX12_init_4 rfl ?_
  refine v_sipush (v := (4097 : Int32)) (by decide) dX12_init_5 rfl ?_
  obtain ⟨s8, e8, h⟩ := o_b h
  refine v_newI (c' := 1) (k' := 4097) (Option.some.inj e8) qa_int (by decide) (by decide) (Nat.le_of_ble_eq_true rfl) ⟨Nat.le_of_ble_eq_true rfl, Nat.le_of_ble_eq_true rfl⟩ rfl rfl dX12_init_8 rfl ?_
  obtain ⟨s10, e10, h⟩ := o_b h
  refine v_putFR e10 (by decide) (by decide) rfl rfl rfl rfl rfl rfl rfl qf_RX12_7 dX12_init_10 rfl ?_
  refine v_aload_n 0 rfl dX12_init_13 rfl ?_
  refine v_sipush (v := (4097 : Int32)) (by decide) dX12_init_14 rfl ?_
  obtain ⟨s17, e17, h⟩ := o_b h
  refine v_newI (c' := 2) (k' := 8194) (Option.some.inj e17) qa_int (by decide) (by decide) (Nat.le_of_ble_eq_true rfl) ⟨Nat.le_of_ble_eq_true rfl, Nat.le_of_ble_eq_true rfl⟩ rfl rfl dX12_init_17 rfl ?_
  obtain ⟨s19, e19, h⟩ := o_b h
  refine v_putFR e19 (by decide) (by decide) rfl rfl rfl rfl rfl rfl rfl qf_RX12_13 dX12_init_19 rfl ?_
  refine v_aload_n 0 rfl dX12_init_22 rfl ?_
  refine v_sipush (v := (4097 : Int32)) (by decide) dX12_init_23 rfl ?_
  obtain ⟨s26, e26, h⟩ := o_b h
  refine v_newI (c' := 3) (k' := 12291) (Option.some.inj e26) qa_int (by decide) (by decide) (Nat.le_of_ble_eq_true rfl) ⟨Nat.le_of_ble_eq_true rfl, Nat.le_of_ble_eq_true rfl⟩ rfl rfl dX12_init_26 rfl ?_
  obtain ⟨s28, e28, h⟩ := o_b h
  refine v_putFR e28 (by decide) (by decide) rfl rfl rfl rfl rfl rfl rfl qf_RX12_16 dX12_init_28 rfl ?_
  refine v_aload_n 0 rfl dX12_init_31 rfl ?_
  refine v_sipush (v := (4097 : Int32)) (by decide) dX12_init_32 rfl ?_
  obtain ⟨s35, e35, h⟩ := o_b h
  refine v_newI (c' := 4) (k' := 16388) (Option.some.inj e35) qa_int (by decide) (by decide) (Nat.le_of_ble_eq_true rfl) ⟨Nat.le_of_ble_eq_true rfl, Nat.le_of_ble_eq_true rfl⟩ rfl rfl dX12_init_35 rfl ?_
  obtain ⟨s37, e37, h⟩ := o_b h
  refine v_putFR e37 (by decide) (by decide) rfl rfl rfl rfl rfl rfl rfl qf_RX12_19 dX12_init_37 rfl ?_
  refine v_aload_n 0 rfl dX12_init_40 rfl ?_
  refine v_sipush (v := (4097 : Int32)) (by decide) dX12_init_41 rfl ?_
  obtain ⟨s44, e44, h⟩ := o_b h
  refine v_newI (c' := 5) (k' := 20485) (Option.some.inj e44) qa_int (by decide) (by decide) (Nat.le_of_ble_eq_true rfl) ⟨Nat.le_of_ble_eq_true rfl, Nat.le_of_ble_eq_true rfl⟩ rfl rfl dX12_init_44 rfl ?_
  obtain ⟨s46, e46, h⟩ := o_b h
  refine v_putFR e46 (by decide) (by decide) rfl rfl rfl rfl rfl rfl rfl qf_RX12_22 dX12_init_46 rfl ?_
  refine v_aload_n 0 rfl dX12_init_49 rfl ?_
  refine v_iconst (v := (1 : Int32)) (by decide) dX12_init_50 rfl ?_
  obtain ⟨s51, e51, h⟩ := o_b h
  refine v_putI e51 (by decide) (by decide) rfl rfl rfl rfl rfl qf_RX12_25 dX12_init_51 rfl ?_
  refine v_aload_n 0 rfl dX12_init_54 rfl ?_
  refine v_iconst (v := (1 : Int32)) (by decide) dX12_init_55 rfl ?_
  obtain ⟨s56, e56, h⟩ := o_b h
  refine v_putI e56 (by decide) (by decide) rfl rfl rfl rfl rfl qf_RX12_29 dX12_init_56 rfl ?_
  refine v_aload_n 0 rfl dX12_init_59 rfl ?_
  refine v_sipush (v := (200 : Int32)) (by decide) dX12_init_60 rfl ?_
  obtain ⟨s63, e63, h⟩ := o_b h
  refine v_newI (c' := 6) (k' := 20685) (Option.some.inj e63) qa_int (by decide) (by decide) (Nat.le_of_ble_eq_true rfl) ⟨Nat.le_of_ble_eq_true rfl, Nat.le_of_ble_eq_true rfl⟩ rfl rfl dX12_init_63 rfl ?_
  obtain ⟨s65, e65, h⟩ := o_b h
  refine v_putFR e65 (by decide) (by decide) rfl rfl rfl rfl rfl rfl rfl qf_RX12_33 dX12_init_65 rfl ?_
  refine v_aload_n 0 rfl dX12_init_68 rfl ?_
  refine v_sipush (v := (200 : Int32)) (by decide) dX12_init_69 rfl ?_
  obtain ⟨s72, e72, h⟩ := o_b h
  refine v_newI (c' := 7) (k' := 20885) (Option.some.inj e72) qa_int (by decide) (by decide) (Nat.le_of_ble_eq_true rfl) ⟨Nat.le_of_ble_eq_true rfl, Nat.le_of_ble_eq_true rfl⟩ rfl rfl dX12_init_72 rfl ?_
  obtain ⟨s74, e74, h⟩ := o_b h
  refine v_putFR e74 (by decide) (by decide) rfl rfl rfl rfl rfl rfl rfl qf_RX12_36 dX12_init_74 rfl ?_
  refine v_aload_n 0 rfl dX12_init_77 rfl ?_
  refine v_sipush (v := (200 : Int32)) (by decide) dX12_init_78 rfl ?_
  obtain ⟨s81, e81, h⟩ := o_b h
  refine v_newI (c' := 8) (k' := 21085) (Option.some.inj e81) qa_int (by decide) (by decide) (Nat.le_of_ble_eq_true rfl) ⟨Nat.le_of_ble_eq_true rfl, Nat.le_of_ble_eq_true rfl⟩ rfl rfl dX12_init_81 rfl ?_
  obtain ⟨s83, e83, h⟩ := o_b h
  refine v_putFR e83 (by decide) (by decide) rfl rfl rfl rfl rfl rfl rfl qf_RX12_39 dX12_init_83 rfl ?_
  refine v_aload_n 0 rfl dX12_init_86 rfl ?_
  refine v_sipush (v := (200 : Int32)) (by decide) dX12_init_87 rfl ?_
  obtain ⟨s90, e90, h⟩ := o_b h
  refine v_newI (c' := 9) (k' := 21285) (Option.some.inj e90) qa_int (by decide) (by decide) (Nat.le_of_ble_eq_true rfl) ⟨Nat.le_of_ble_eq_true rfl, Nat.le_of_ble_eq_true rfl⟩ rfl rfl dX12_init_90 rfl ?_
  obtain ⟨s92, e92, h⟩ := o_b h
  refine v_putFR e92 (by decide) (by decide) rfl rfl rfl rfl rfl rfl rfl qf_RX12_42 dX12_init_92 rfl ?_
  refine v_aload_n 0 rfl dX12_init_95 rfl ?_
  refine v_sipush (v := (200 : Int32)) (by decide) dX12_init_96 rfl ?_
  obtain ⟨s99, e99, h⟩ := o_b h
  refine v_newI (c' := 10) (k' := 21485) (Option.some.inj e99) qa_int (by decide) (by decide) (Nat.le_of_ble_eq_true rfl) ⟨Nat.le_of_ble_eq_true rfl, Nat.le_of_ble_eq_true rfl⟩ rfl rfl dX12_init_99 rfl ?_
  obtain ⟨s101, e101, h⟩ := o_b h
  refine v_putFR e101 (by decide) (by decide) rfl rfl rfl rfl rfl rfl rfl qf_RX12_45 dX12_init_101 rfl ?_
  refine v_aload_n 0 rfl dX12_init_104 rfl ?_
  refine v_sipush (v := (200 : Int32)) (by decide) dX12_init_105 rfl ?_
  obtain ⟨s108, e108, h⟩ := o_b h
  refine v_newI (c' := 11) (k' := 21685) (Option.some.inj e108) qa_int (by decide) (by decide) (Nat.le_of_ble_eq_true rfl) ⟨Nat.le_of_ble_eq_true rfl, Nat.le_of_ble_eq_true rfl⟩ rfl rfl dX12_init_108 rfl ?_
  obtain ⟨s110, e110, h⟩ := o_b h
  refine v_putFR e110 (by decide) (by decide) rfl rfl rfl rfl rfl rfl rfl qf_RX12_48 dX12_init_110 rfl ?_
  refine v_aload_n 0 rfl dX12_init_113 rfl ?_
  refine v_sipush (v := (200 : Int32)) (by decide) dX12_init_114 rfl ?_
  obtain ⟨s117, e117, h⟩ := o_b h
  refine v_newI (c' := 12) (k' := 21885) (Option.some.inj e117) qa_int (by decide) (by decide) (Nat.le_of_ble_eq_true rfl) ⟨Nat.le_of_ble_eq_true rfl, Nat.le_of_ble_eq_true rfl⟩ rfl rfl dX12_init_117 rfl ?_
  obtain ⟨s119, e119, h⟩ := o_b h
  refine v_putFR e119 (by decide) (by decide) rfl rfl rfl rfl rfl rfl rfl qf_RX12_51 dX12_init_119 rfl ?_
  refine v_aload_n 0 rfl dX12_init_122 rfl ?_
  refine v_sipush (v := (200 : Int32)) (by decide) dX12_init_123 rfl ?_
  obtain ⟨s126, e126, h⟩ := o_b h
  refine v_newI (c' := 13) (k' := 22085) (Option.some.inj e126) qa_int (by decide) (by decide) (Nat.le_of_ble_eq_true rfl) ⟨Nat.le_of_ble_eq_true rfl, Nat.le_of_ble_eq_true rfl⟩ rfl rfl dX12_init_126 rfl ?_
  obtain ⟨s128, e128, h⟩ := o_b h
  refine v_putFR e128 (by decide) (by decide) rfl rfl rfl rfl rfl rfl rfl qf_RX12_54 dX12_init_128 rfl ?_
  refine v_aload_n 0 rfl dX12_init_131 rfl ?_
  refine v_sipush (v := (200 : Int32)) (by decide) dX12_init_132 rfl ?_
  obtain ⟨s135, e135, h⟩ := o_b h
  refine v_newI (c' := 14) (k' := 22285) (Option.some.inj e135) qa_int (by decide) (by decide) (Nat.le_of_ble_eq_true rfl) ⟨Nat.le_of_ble_eq_true rfl, Nat.le_of_ble_eq_true rfl⟩ rfl rfl dX12_init_135 rfl ?_
  obtain ⟨s137, e137, h⟩ := o_b h
  refine v_putFR e137 (by decide) (by decide) rfl rfl rfl rfl rfl rfl rfl qf_RX12_57 dX12_init_137 rfl ?_
  refine v_aload_n 0 rfl dX12_init_140 rfl ?_
  refine v_sipush (v := (200 : Int32)) (by decide) dX12_init_141 rfl ?_
  obtain ⟨s144, e144, h⟩ := o_b h
  refine v_newI (c' := 15) (k' := 22485) (Option.some.inj e144) qa_int (by decide) (by decide) (Nat.le_of_ble_eq_true rfl) ⟨Nat.le_of_ble_eq_true rfl, Nat.le_of_ble_eq_true rfl⟩ rfl rfl dX12_init_144 rfl ?_
  obtain ⟨s146, e146, h⟩ := o_b h
  refine v_putFR e146 (by decide) (by decide) rfl rfl rfl rfl rfl rfl rfl qf_RX12_60 dX12_init_146 rfl ?_
  refine v_aload_n 0 rfl dX12_init_149 rfl ?_
  refine v_sipush (v := (200 : Int32)) (by decide) dX12_init_150 rfl ?_
  obtain ⟨s153, e153, h⟩ := o_b h
  refine v_newI (c' := 16) (k' := 22685) (Option.some.inj e153) qa_int (by decide) (by decide) (Nat.le_of_ble_eq_true rfl) ⟨Nat.le_of_ble_eq_true rfl, Nat.le_of_ble_eq_true rfl⟩ rfl rfl dX12_init_153 rfl ?_
  obtain ⟨s155, e155, h⟩ := o_b h
  refine v_putFR e155 (by decide) (by decide) rfl rfl rfl rfl rfl rfl rfl qf_RX12_63 dX12_init_155 rfl ?_
  refine v_aload_n 0 rfl dX12_init_158 rfl ?_
  refine v_sipush (v := (200 : Int32)) (by decide) dX12_init_159 rfl ?_
  obtain ⟨s162, e162, h⟩ := o_b h
  refine v_newI (c' := 17) (k' := 22885) (Option.some.inj e162) qa_int (by decide) (by decide) (Nat.le_of_ble_eq_true rfl) ⟨Nat.le_of_ble_eq_true rfl, Nat.le_of_ble_eq_true rfl⟩ rfl rfl dX12_init_162 rfl ?_
  obtain ⟨s164, e164, h⟩ := o_b h
  refine v_putFR e164 (by decide) (by decide) rfl rfl rfl rfl rfl rfl rfl qf_RX12_66 dX12_init_164 rfl ?_
  refine v_aload_n 0 rfl dX12_init_167 rfl ?_
  refine v_sipush (v := (200 : Int32)) (by decide) dX12_init_168 rfl ?_
  obtain ⟨s171, e171, h⟩ := o_b h
  refine v_newI (c' := 18) (k' := 23085) (Option.some.inj e171) qa_int (by decide) (by decide) (Nat.le_of_ble_eq_true rfl) ⟨Nat.le_of_ble_eq_true rfl, Nat.le_of_ble_eq_true rfl⟩ rfl rfl dX12_init_171 rfl ?_
  obtain ⟨s173, e173, h⟩ := o_b h
  refine v_putFR e173 (by decide) (by decide) rfl rfl rfl rfl rfl rfl rfl qf_RX12_69 dX12_init_173 rfl ?_
  refine v_aload_n 0 rfl dX12_init_176 rfl ?_
  refine v_sipush (v := (200 : Int32)) (by decide) dX12_init_177 rfl ?_
  obtain ⟨s180, e180, h⟩ := o_b h
  refine v_newI (c' := 19) (k' := 23285) (Option.some.inj e180) qa_int (by decide) (by decide) (Nat.le_of_ble_eq_true rfl) ⟨Nat.le_of_ble_eq_true rfl, Nat.le_of_ble_eq_true rfl⟩ rfl rfl dX12_init_180 rfl ?_
  obtain ⟨s182, e182, h⟩ := o_b h
  refine v_putFR e182 (by decide) (by decide) rfl rfl rfl rfl rfl rfl rfl qf_RX12_72 dX12_init_182 rfl ?_
  refine v_aload_n 0 rfl dX12_init_185 rfl ?_
  refine v_sipush (v := (200 : Int32)) (by decide) dX12_init_186 rfl ?_
  obtain ⟨s189, e189, h⟩ := o_b h
  refine v_newI (c' := 20) (k' := 23485) (Option.some.inj e189) qa_int (by decide) (by decide) (Nat.le_of_ble_eq_true rfl) ⟨Nat.le_of_ble_eq_true rfl, Nat.le_of_ble_eq_true rfl⟩ rfl rfl dX12_init_189 rfl ?_
  obtain ⟨s191, e191, h⟩ := o_b h
  refine v_putFR e191 (by decide) (by decide) rfl rfl rfl rfl rfl rfl rfl qf_RX12_75 dX12_init_191 rfl ?_
  refine v_aload_n 0 rfl dX12_init_194 rfl ?_
  refine v_sipush (v := (200 : Int32)) (by decide) dX12_init_195 rfl ?_
  obtain ⟨s198, e198, h⟩ := o_b h
  refine v_newZ (c' := 21) (k' := 23685) (Option.some.inj e198) qa_boolean (by decide) (by decide) (Nat.le_of_ble_eq_true rfl) ⟨Nat.le_of_ble_eq_true rfl, Nat.le_of_ble_eq_true rfl⟩ rfl rfl dX12_init_198 rfl ?_
  obtain ⟨s200, e200, h⟩ := o_b h
  refine v_putFR e200 (by decide) (by decide) rfl rfl rfl rfl rfl rfl rfl qf_RX12_78 dX12_init_200 rfl ?_
  refine v_aload_n 0 rfl dX12_init_203 rfl ?_
  refine v_sipush (v := (20000 : Int32)) (by decide) dX12_init_204 rfl ?_
  obtain ⟨s207, e207, h⟩ := o_b h
  refine v_newI (c' := 22) (k' := 43685) (Option.some.inj e207) qa_int (by decide) (by decide) (Nat.le_of_ble_eq_true rfl) ⟨Nat.le_of_ble_eq_true rfl, Nat.le_of_ble_eq_true rfl⟩ rfl rfl dX12_init_207 rfl ?_
  obtain ⟨s209, e209, h⟩ := o_b h
  refine v_putFR e209 (by decide) (by decide) rfl rfl rfl rfl rfl rfl rfl qf_RX12_82 dX12_init_209 rfl ?_
  refine v_aload_n 0 rfl dX12_init_212 rfl ?_
  refine v_bipush (v := (7 : Int32)) (by decide) dX12_init_213 rfl ?_
  obtain ⟨s215, e215, h⟩ := o_b h
  refine v_newZ (c' := 23) (k' := 43692) (Option.some.inj e215) qa_boolean (by decide) (by decide) (Nat.le_of_ble_eq_true rfl) ⟨Nat.le_of_ble_eq_true rfl, Nat.le_of_ble_eq_true rfl⟩ rfl rfl dX12_init_215 rfl ?_
  obtain ⟨s217, e217, h⟩ := o_b h
  refine v_putFR e217 (by decide) (by decide) rfl rfl rfl rfl rfl rfl rfl qf_RX12_85 dX12_init_217 rfl ?_
  refine v_aload_n 0 rfl dX12_init_220 rfl ?_
  refine v_bipush (v := (7 : Int32)) (by decide) dX12_init_221 rfl ?_
  obtain ⟨s223, e223, h⟩ := o_b h
  refine v_newI (c' := 24) (k' := 43699) (Option.some.inj e223) qa_int (by decide) (by decide) (Nat.le_of_ble_eq_true rfl) ⟨Nat.le_of_ble_eq_true rfl, Nat.le_of_ble_eq_true rfl⟩ rfl rfl dX12_init_223 rfl ?_
  obtain ⟨s225, e225, h⟩ := o_b h
  refine v_putFR e225 (by decide) (by decide) rfl rfl rfl rfl rfl rfl rfl qf_RX12_88 dX12_init_225 rfl ?_
  refine v_aload_n 0 rfl dX12_init_228 rfl ?_
  refine v_bipush (v := (7 : Int32)) (by decide) dX12_init_229 rfl ?_
  obtain ⟨s231, e231, h⟩ := o_b h
  refine v_newI (c' := 25) (k' := 43706) (Option.some.inj e231) qa_int (by decide) (by decide) (Nat.le_of_ble_eq_true rfl) ⟨Nat.le_of_ble_eq_true rfl, Nat.le_of_ble_eq_true rfl⟩ rfl rfl dX12_init_231 rfl ?_
  obtain ⟨s233, e233, h⟩ := o_b h
  refine v_putFR e233 (by decide) (by decide) rfl rfl rfl rfl rfl rfl rfl qf_RX12_91 dX12_init_233 rfl ?_
  refine v_aload_n 0 rfl dX12_init_236 rfl ?_
  refine v_bipush (v := (7 : Int32)) (by decide) dX12_init_237 rfl ?_
  obtain ⟨s239, e239, h⟩ := o_b h
  refine v_newI (c' := 26) (k' := 43713) (Option.some.inj e239) qa_int (by decide) (by decide) (Nat.le_of_ble_eq_true rfl) ⟨Nat.le_of_ble_eq_true rfl, Nat.le_of_ble_eq_true rfl⟩ rfl rfl dX12_init_239 rfl ?_
  obtain ⟨s241, e241, h⟩ := o_b h
  refine v_putFR e241 (by decide) (by decide) rfl rfl rfl rfl rfl rfl rfl qf_RX12_94 dX12_init_241 rfl ?_
  refine v_aload_n 0 rfl dX12_init_244 rfl ?_
  refine v_bipush (v := (7 : Int32)) (by decide) dX12_init_245 rfl ?_
  obtain ⟨s247, e247, h⟩ := o_b h
  refine v_newI (c' := 27) (k' := 43720) (Option.some.inj e247) qa_int (by decide) (by decide) (Nat.le_of_ble_eq_true rfl) ⟨Nat.le_of_ble_eq_true rfl, Nat.le_of_ble_eq_true rfl⟩ rfl rfl dX12_init_247 rfl ?_
  obtain ⟨s249, e249, h⟩ := o_b h
  refine v_putFR e249 (by decide) (by decide) rfl rfl rfl rfl rfl rfl rfl qf_RX12_97 dX12_init_249 rfl ?_
  refine v_aload_n 0 rfl dX12_init_252 rfl ?_
  refine v_bipush (v := (7 : Int32)) (by decide) dX12_init_253 rfl ?_
  obtain ⟨s255, e255, h⟩ := o_b h
  refine v_newI (c' := 28) (k' := 43727) (Option.some.inj e255) qa_int (by decide) (by decide) (Nat.le_of_ble_eq_true rfl) ⟨Nat.le_of_ble_eq_true rfl, Nat.le_of_ble_eq_true rfl⟩ rfl rfl dX12_init_255 rfl ?_
  obtain ⟨s257, e257, h⟩ := o_b h
  refine v_putFR e257 (by decide) (by decide) rfl rfl rfl rfl rfl rfl rfl qf_RX12_100 dX12_init_257 rfl ?_
  refine v_aload_n 0 rfl dX12_init_260 rfl ?_
  refine v_bipush (v := (7 : Int32)) (by decide) dX12_init_261 rfl ?_
  obtain ⟨s263, e263, h⟩ := o_b h
  refine v_newI (c' := 29) (k' := 43734) (Option.some.inj e263) qa_int (by decide) (by decide) (Nat.le_of_ble_eq_true rfl) ⟨Nat.le_of_ble_eq_true rfl, Nat.le_of_ble_eq_true rfl⟩ rfl rfl dX12_init_263 rfl ?_
  obtain ⟨s265, e265, h⟩ := o_b h
  refine v_putFR e265 (by decide) (by decide) rfl rfl rfl rfl rfl rfl rfl qf_RX12_103 dX12_init_265 rfl ?_
  refine v_aload_n 0 rfl dX12_init_268 rfl ?_
  refine v_bipush (v := (7 : Int32)) (by decide) dX12_init_269 rfl ?_
  obtain ⟨s271, e271, h⟩ := o_b h
  refine v_newI (c' := 30) (k' := 43741) (Option.some.inj e271) qa_int (by decide) (by decide) (Nat.le_of_ble_eq_true rfl) ⟨Nat.le_of_ble_eq_true rfl, Nat.le_of_ble_eq_true rfl⟩ rfl rfl dX12_init_271 rfl ?_
  obtain ⟨s273, e273, h⟩ := o_b h
  refine v_putFR e273 (by decide) (by decide) rfl rfl rfl rfl rfl rfl rfl qf_RX12_106 dX12_init_273 rfl ?_
  refine v_aload_n 0 rfl dX12_init_276 rfl ?_
  refine v_bipush (v := (7 : Int32)) (by decide) dX12_init_277 rfl ?_
  obtain ⟨s279, e279, h⟩ := o_b h
  refine v_newI (c' := 31) (k' := 43748) (Option.some.inj e279) qa_int (by decide) (by decide) (Nat.le_of_ble_eq_true rfl) ⟨Nat.le_of_ble_eq_true rfl, Nat.le_of_ble_eq_true rfl⟩ rfl rfl dX12_init_279 rfl ?_
  obtain ⟨s281, e281, h⟩ := o_b h
  refine v_putFR e281 (by decide) (by decide) rfl rfl rfl rfl rfl rfl rfl qf_RX12_109 dX12_init_281 rfl ?_
  refine v_aload_n 0 rfl dX12_init_284 rfl ?_
  refine v_bipush (v := (7 : Int32)) (by decide) dX12_init_285 rfl ?_
  obtain ⟨s287, e287, h⟩ := o_b h
  refine v_newI (c' := 32) (k' := 43755) (Option.some.inj e287) qa_int (by decide) (by decide) (Nat.le_of_ble_eq_true rfl) ⟨Nat.le_of_ble_eq_true rfl, Nat.le_of_ble_eq_true rfl⟩ rfl rfl dX12_init_287 rfl ?_
  obtain ⟨s289, e289, h⟩ := o_b h
  refine v_putFR e289 (by decide) (by decide) rfl rfl rfl rfl rfl rfl rfl qf_RX12_112 dX12_init_289 rfl ?_
  refine v_aload_n 0 rfl dX12_init_292 rfl ?_
  refine v_sipush (v := (700 : Int32)) (by decide) dX12_init_293 rfl ?_
  obtain ⟨s296, e296, h⟩ := o_b h
  refine v_newI (c' := 33) (k' := 44455) (Option.some.inj e296) qa_int (by decide) (by decide) (Nat.le_of_ble_eq_true rfl) ⟨Nat.le_of_ble_eq_true rfl, Nat.le_of_ble_eq_true rfl⟩ rfl rfl dX12_init_296 rfl ?_
  obtain ⟨s298, e298, h⟩ := o_b h
  refine v_putFR e298 (by decide) (by decide) rfl rfl rfl rfl rfl rfl rfl qf_RX12_115 dX12_init_298 rfl ?_
  refine v_aload_n 0 rfl dX12_init_301 rfl ?_
  refine v_bipush (v := (7 : Int32)) (by decide) dX12_init_302 rfl ?_
  obtain ⟨s304, e304, h⟩ := o_b h
  refine v_newI (c' := 34) (k' := 44462) (Option.some.inj e304) qa_int (by decide) (by decide) (Nat.le_of_ble_eq_true rfl) ⟨Nat.le_of_ble_eq_true rfl, Nat.le_of_ble_eq_true rfl⟩ rfl rfl dX12_init_304 rfl ?_
  obtain ⟨s306, e306, h⟩ := o_b h
  refine v_putFR e306 (by decide) (by decide) rfl rfl rfl rfl rfl rfl rfl qf_RX12_118 dX12_init_306 rfl ?_
  refine v_aload_n 0 rfl dX12_init_309 rfl ?_
  refine v_bipush (v := (84 : Int32)) (by decide) dX12_init_310 rfl ?_
  obtain ⟨s312, e312, h⟩ := o_b h
  refine v_newI (c' := 35) (k' := 44546) (Option.some.inj e312) qa_int (by decide) (by decide) (Nat.le_of_ble_eq_true rfl) ⟨Nat.le_of_ble_eq_true rfl, Nat.le_of_ble_eq_true rfl⟩ rfl rfl dX12_init_312 rfl ?_
  obtain ⟨s314, e314, h⟩ := o_b h
  refine v_putFR e314 (by decide) (by decide) rfl rfl rfl rfl rfl rfl rfl qf_RX12_121 dX12_init_314 rfl ?_
  refine v_aload_n 0 rfl dX12_init_317 rfl ?_
  refine v_bipush (v := (84 : Int32)) (by decide) dX12_init_318 rfl ?_
  obtain ⟨s320, e320, h⟩ := o_b h
  refine v_newI (c' := 36) (k' := 44630) (Option.some.inj e320) qa_int (by decide) (by decide) (Nat.le_of_ble_eq_true rfl) ⟨Nat.le_of_ble_eq_true rfl, Nat.le_of_ble_eq_true rfl⟩ rfl rfl dX12_init_320 rfl ?_
  obtain ⟨s322, e322, h⟩ := o_b h
  refine v_putFR e322 (by decide) (by decide) rfl rfl rfl rfl rfl rfl rfl qf_RX12_124 dX12_init_322 rfl ?_
  refine v_aload_n 0 rfl dX12_init_325 rfl ?_
  refine v_bipush (v := (7 : Int32)) (by decide) dX12_init_326 rfl ?_
  obtain ⟨s328, e328, h⟩ := o_b h
  refine v_newI (c' := 37) (k' := 44637) (Option.some.inj e328) qa_int (by decide) (by decide) (Nat.le_of_ble_eq_true rfl) ⟨Nat.le_of_ble_eq_true rfl, Nat.le_of_ble_eq_true rfl⟩ rfl rfl dX12_init_328 rfl ?_
  obtain ⟨s330, e330, h⟩ := o_b h
  refine v_putFR e330 (by decide) (by decide) rfl rfl rfl rfl rfl rfl rfl qf_RX12_127 dX12_init_330 rfl ?_
  refine v_aload_n 0 rfl dX12_init_333 rfl ?_
  refine v_bipush (v := (7 : Int32)) (by decide) dX12_init_334 rfl ?_
  obtain ⟨s336, e336, h⟩ := o_b h
  refine v_newI (c' := 38) (k' := 44644) (Option.some.inj e336) qa_int (by decide) (by decide) (Nat.le_of_ble_eq_true rfl) ⟨Nat.le_of_ble_eq_true rfl, Nat.le_of_ble_eq_true rfl⟩ rfl rfl dX12_init_336 rfl ?_
  obtain ⟨s338, e338, h⟩ := o_b h
  refine v_putFR e338 (by decide) (by decide) rfl rfl rfl rfl rfl rfl rfl qf_RX12_130 dX12_init_338 rfl ?_
  refine v_aload_n 0 rfl dX12_init_341 rfl ?_
  refine v_bipush (v := (7 : Int32)) (by decide) dX12_init_342 rfl ?_
  obtain ⟨s344, e344, h⟩ := o_b h
  refine v_newI (c' := 39) (k' := 44651) (Option.some.inj e344) qa_int (by decide) (by decide) (Nat.le_of_ble_eq_true rfl) ⟨Nat.le_of_ble_eq_true rfl, Nat.le_of_ble_eq_true rfl⟩ rfl rfl dX12_init_344 rfl ?_
  obtain ⟨s346, e346, h⟩ := o_b h
  refine v_putFR e346 (by decide) (by decide) rfl rfl rfl rfl rfl rfl rfl qf_RX12_133 dX12_init_346 rfl ?_
  refine v_aload_n 0 rfl dX12_init_349 rfl ?_
  refine v_bipush (v := (7 : Int32)) (by decide) dX12_init_350 rfl ?_
  obtain ⟨s352, e352, h⟩ := o_b h
  refine v_newI (c' := 40) (k' := 44658) (Option.some.inj e352) qa_int (by decide) (by decide) (Nat.le_of_ble_eq_true rfl) ⟨Nat.le_of_ble_eq_true rfl, Nat.le_of_ble_eq_true rfl⟩ rfl rfl dX12_init_352 rfl ?_
  obtain ⟨s354, e354, h⟩ := o_b h
  refine v_putFR e354 (by decide) (by decide) rfl rfl rfl rfl rfl rfl rfl qf_RX12_136 dX12_init_354 rfl ?_
  refine v_aload_n 0 rfl dX12_init_357 rfl ?_
  refine v_bipush (v := (49 : Int32)) (by decide) dX12_init_358 rfl ?_
  obtain ⟨s360, e360, h⟩ := o_b h
  refine v_newI (c' := 41) (k' := 44707) (Option.some.inj e360) qa_int (by decide) (by decide) (Nat.le_of_ble_eq_true rfl) ⟨Nat.le_of_ble_eq_true rfl, Nat.le_of_ble_eq_true rfl⟩ rfl rfl dX12_init_360 rfl ?_
  obtain ⟨s362, e362, h⟩ := o_b h
  refine v_putFR e362 (by decide) (by decide) rfl rfl rfl rfl rfl rfl rfl qf_RX12_139 dX12_init_362 rfl ?_
  refine v_aload_n 0 rfl dX12_init_365 rfl ?_
  refine v_bipush (v := (49 : Int32)) (by decide) dX12_init_366 rfl ?_
  obtain ⟨s368, e368, h⟩ := o_b h
  refine v_newI (c' := 42) (k' := 44756) (Option.some.inj e368) qa_int (by decide) (by decide) (Nat.le_of_ble_eq_true rfl) ⟨Nat.le_of_ble_eq_true rfl, Nat.le_of_ble_eq_true rfl⟩ rfl rfl dX12_init_368 rfl ?_
  obtain ⟨s370, e370, h⟩ := o_b h
  refine v_putFR e370 (by decide) (by decide) rfl rfl rfl rfl rfl rfl rfl qf_RX12_142 dX12_init_370 rfl ?_
  refine v_aload_n 0 rfl dX12_init_373 rfl ?_
  refine v_bipush (v := (49 : Int32)) (by decide) dX12_init_374 rfl ?_
  obtain ⟨s376, e376, h⟩ := o_b h
  refine v_newI (c' := 43) (k' := 44805) (Option.some.inj e376) qa_int (by decide) (by decide) (Nat.le_of_ble_eq_true rfl) ⟨Nat.le_of_ble_eq_true rfl, Nat.le_of_ble_eq_true rfl⟩ rfl rfl dX12_init_376 rfl ?_
  obtain ⟨s378, e378, h⟩ := o_b h
  refine v_putFR e378 (by decide) (by decide) rfl rfl rfl rfl rfl rfl rfl qf_RX12_145 dX12_init_378 rfl ?_
  refine v_aload_n 0 rfl dX12_init_381 rfl ?_
  refine v_bipush (v := (49 : Int32)) (by decide) dX12_init_382 rfl ?_
  obtain ⟨s384, e384, h⟩ := o_b h
  refine v_newI (c' := 44) (k' := 44854) (Option.some.inj e384) qa_int (by decide) (by decide) (Nat.le_of_ble_eq_true rfl) ⟨Nat.le_of_ble_eq_true rfl, Nat.le_of_ble_eq_true rfl⟩ rfl rfl dX12_init_384 rfl ?_
  obtain ⟨s386, e386, h⟩ := o_b h
  refine v_putFR e386 (by decide) (by decide) rfl rfl rfl rfl rfl rfl rfl qf_RX12_148 dX12_init_386 rfl ?_
  refine v_aload_n 0 rfl dX12_init_389 rfl ?_
  refine v_sipush (v := (4900 : Int32)) (by decide) dX12_init_390 rfl ?_
  obtain ⟨s393, e393, h⟩ := o_b h
  refine v_newI (c' := 45) (k' := 49754) (Option.some.inj e393) qa_int (by decide) (by decide) (Nat.le_of_ble_eq_true rfl) ⟨Nat.le_of_ble_eq_true rfl, Nat.le_of_ble_eq_true rfl⟩ rfl rfl dX12_init_393 rfl ?_
  obtain ⟨s395, e395, h⟩ := o_b h
  refine v_putFR e395 (by decide) (by decide) rfl rfl rfl rfl rfl rfl rfl qf_RX12_151 dX12_init_395 rfl ?_
  refine v_aload_n 0 rfl dX12_init_398 rfl ?_
  refine v_bipush (v := (100 : Int32)) (by decide) dX12_init_399 rfl ?_
  obtain ⟨s401, e401, h⟩ := o_b h
  refine v_newI (c' := 46) (k' := 49854) (Option.some.inj e401) qa_int (by decide) (by decide) (Nat.le_of_ble_eq_true rfl) ⟨Nat.le_of_ble_eq_true rfl, Nat.le_of_ble_eq_true rfl⟩ rfl rfl dX12_init_401 rfl ?_
  obtain ⟨s403, e403, h⟩ := o_b h
  refine v_putFR e403 (by decide) (by decide) rfl rfl rfl rfl rfl rfl rfl qf_RX12_154 dX12_init_403 rfl ?_
  refine v_aload_n 0 rfl dX12_init_406 rfl ?_
  refine v_bipush (v := (100 : Int32)) (by decide) dX12_init_407 rfl ?_
  obtain ⟨s409, e409, h⟩ := o_b h
  refine v_newI (c' := 47) (k' := 49954) (Option.some.inj e409) qa_int (by decide) (by decide) (Nat.le_of_ble_eq_true rfl) ⟨Nat.le_of_ble_eq_true rfl, Nat.le_of_ble_eq_true rfl⟩ rfl rfl dX12_init_409 rfl ?_
  obtain ⟨s411, e411, h⟩ := o_b h
  refine v_putFR e411 (by decide) (by decide) rfl rfl rfl rfl rfl rfl rfl qf_RX12_157 dX12_init_411 rfl ?_
  refine v_aload_n 0 rfl dX12_init_414 rfl ?_
  refine v_iconst (v := (4 : Int32)) (by decide) dX12_init_415 rfl ?_
  obtain ⟨s416, e416, h⟩ := o_b h
  refine v_newI (c' := 48) (k' := 49958) (Option.some.inj e416) qa_int (by decide) (by decide) (Nat.le_of_ble_eq_true rfl) ⟨Nat.le_of_ble_eq_true rfl, Nat.le_of_ble_eq_true rfl⟩ rfl rfl dX12_init_416 rfl ?_
  obtain ⟨s418, e418, h⟩ := o_b h
  refine v_putFR e418 (by decide) (by decide) rfl rfl rfl rfl rfl rfl rfl qf_RX12_160 dX12_init_418 rfl ?_
  refine v_aload_n 0 rfl dX12_init_421 rfl ?_
  refine v_iconst (v := (4 : Int32)) (by decide) dX12_init_422 rfl ?_
  obtain ⟨s423, e423, h⟩ := o_b h
  refine v_newI (c' := 49) (k' := 49962) (Option.some.inj e423) qa_int (by decide) (by decide) (Nat.le_of_ble_eq_true rfl) ⟨Nat.le_of_ble_eq_true rfl, Nat.le_of_ble_eq_true rfl⟩ rfl rfl dX12_init_423 rfl ?_
  obtain ⟨s425, e425, h⟩ := o_b h
  refine v_putFR e425 (by decide) (by decide) rfl rfl rfl rfl rfl rfl rfl qf_RX12_163 dX12_init_425 rfl ?_
  refine v_aload_n 0 rfl dX12_init_428 rfl ?_
  refine v_iconst (v := (4 : Int32)) (by decide) dX12_init_429 rfl ?_
  obtain ⟨s430, e430, h⟩ := o_b h
  refine v_newI (c' := 50) (k' := 49966) (Option.some.inj e430) qa_int (by decide) (by decide) (Nat.le_of_ble_eq_true rfl) ⟨Nat.le_of_ble_eq_true rfl, Nat.le_of_ble_eq_true rfl⟩ rfl rfl dX12_init_430 rfl ?_
  obtain ⟨s432, e432, h⟩ := o_b h
  refine v_putFR e432 (by decide) (by decide) rfl rfl rfl rfl rfl rfl rfl qf_RX12_166 dX12_init_432 rfl ?_
  refine v_aload_n 0 rfl dX12_init_435 rfl ?_
  refine v_iconst (v := (4 : Int32)) (by decide) dX12_init_436 rfl ?_
  obtain ⟨s437, e437, h⟩ := o_b h
  refine v_newI (c' := 51) (k' := 49970) (Option.some.inj e437) qa_int (by decide) (by decide) (Nat.le_of_ble_eq_true rfl) ⟨Nat.le_of_ble_eq_true rfl, Nat.le_of_ble_eq_true rfl⟩ rfl rfl dX12_init_437 rfl ?_
  obtain ⟨s439, e439, h⟩ := o_b h
  refine v_putFR e439 (by decide) (by decide) rfl rfl rfl rfl rfl rfl rfl qf_RX12_169 dX12_init_439 rfl ?_
  refine v_aload_n 0 rfl dX12_init_442 rfl ?_
  refine v_iconst (v := (4 : Int32)) (by decide) dX12_init_443 rfl ?_
  obtain ⟨s444, e444, h⟩ := o_b h
  refine v_newI (c' := 52) (k' := 49974) (Option.some.inj e444) qa_int (by decide) (by decide) (Nat.le_of_ble_eq_true rfl) ⟨Nat.le_of_ble_eq_true rfl, Nat.le_of_ble_eq_true rfl⟩ rfl rfl dX12_init_444 rfl ?_
  obtain ⟨s446, e446, h⟩ := o_b h
  refine v_putFR e446 (by decide) (by decide) rfl rfl rfl rfl rfl rfl rfl qf_RX12_172 dX12_init_446 rfl ?_
  refine v_aload_n 0 rfl dX12_init_449 rfl ?_
  refine v_iconst (v := (4 : Int32)) (by decide) dX12_init_450 rfl ?_
  obtain ⟨s451, e451, h⟩ := o_b h
  refine v_newI (c' := 53) (k' := 49978) (Option.some.inj e451) qa_int (by decide) (by decide) (Nat.le_of_ble_eq_true rfl) ⟨Nat.le_of_ble_eq_true rfl, Nat.le_of_ble_eq_true rfl⟩ rfl rfl dX12_init_451 rfl ?_
  obtain ⟨s453, e453, h⟩ := o_b h
  refine v_putFR e453 (by decide) (by decide) rfl rfl rfl rfl rfl rfl rfl qf_RX12_175 dX12_init_453 rfl ?_
  refine v_aload_n 0 rfl dX12_init_456 rfl ?_
  refine v_iconst (v := (4 : Int32)) (by decide) dX12_init_457 rfl ?_
  obtain ⟨s458, e458, h⟩ := o_b h
  refine v_newI (c' := 54) (k' := 49982) (Option.some.inj e458) qa_int (by decide) (by decide) (Nat.le_of_ble_eq_true rfl) ⟨Nat.le_of_ble_eq_true rfl, Nat.le_of_ble_eq_true rfl⟩ rfl rfl dX12_init_458 rfl ?_
  obtain ⟨s460, e460, h⟩ := o_b h
  refine v_putFR e460 (by decide) (by decide) rfl rfl rfl rfl rfl rfl rfl qf_RX12_178 dX12_init_460 rfl ?_
  refine v_aload_n 0 rfl dX12_init_463 rfl ?_
  refine v_iconst (v := (4 : Int32)) (by decide) dX12_init_464 rfl ?_
  obtain ⟨s465, e465, h⟩ := o_b h
  refine v_newI (c' := 55) (k' := 49986) (Option.some.inj e465) qa_int (by decide) (by decide) (Nat.le_of_ble_eq_true rfl) ⟨Nat.le_of_ble_eq_true rfl, Nat.le_of_ble_eq_true rfl⟩ rfl rfl dX12_init_465 rfl ?_
  obtain ⟨s467, e467, h⟩ := o_b h
  refine v_putFR e467 (by decide) (by decide) rfl rfl rfl rfl rfl rfl rfl qf_RX12_181 dX12_init_467 rfl ?_
  refine v_aload_n 0 rfl dX12_init_470 rfl ?_
  refine v_sipush (v := (256 : Int32)) (by decide) dX12_init_471 rfl ?_
  obtain ⟨s474, e474, h⟩ := o_b h
  refine v_newI (c' := 56) (k' := 50242) (Option.some.inj e474) qa_int (by decide) (by decide) (Nat.le_of_ble_eq_true rfl) ⟨Nat.le_of_ble_eq_true rfl, Nat.le_of_ble_eq_true rfl⟩ rfl rfl dX12_init_474 rfl ?_
  obtain ⟨s476, e476, h⟩ := o_b h
  refine v_putFR e476 (by decide) (by decide) rfl rfl rfl rfl rfl rfl rfl qf_RX12_184 dX12_init_476 rfl ?_
  refine v_aload_n 0 rfl dX12_init_479 rfl ?_
  refine v_sipush (v := (256 : Int32)) (by decide) dX12_init_480 rfl ?_
  obtain ⟨s483, e483, h⟩ := o_b h
  refine v_newI (c' := 57) (k' := 50498) (Option.some.inj e483) qa_int (by decide) (by decide) (Nat.le_of_ble_eq_true rfl) ⟨Nat.le_of_ble_eq_true rfl, Nat.le_of_ble_eq_true rfl⟩ rfl rfl dX12_init_483 rfl ?_
  obtain ⟨s485, e485, h⟩ := o_b h
  refine v_putFR e485 (by decide) (by decide) rfl rfl rfl rfl rfl rfl rfl qf_RX12_187 dX12_init_485 rfl ?_
  refine v_aload_n 0 rfl dX12_init_488 rfl ?_
  refine v_sipush (v := (256 : Int32)) (by decide) dX12_init_489 rfl ?_
  obtain ⟨s492, e492, h⟩ := o_b h
  refine v_newI (c' := 58) (k' := 50754) (Option.some.inj e492) qa_int (by decide) (by decide) (Nat.le_of_ble_eq_true rfl) ⟨Nat.le_of_ble_eq_true rfl, Nat.le_of_ble_eq_true rfl⟩ rfl rfl dX12_init_492 rfl ?_
  obtain ⟨s494, e494, h⟩ := o_b h
  refine v_putFR e494 (by decide) (by decide) rfl rfl rfl rfl rfl rfl rfl qf_RX12_190 dX12_init_494 rfl ?_
  refine v_aload_n 0 rfl dX12_init_497 rfl ?_
  refine v_sipush (v := (256 : Int32)) (by decide) dX12_init_498 rfl ?_
  obtain ⟨s501, e501, h⟩ := o_b h
  refine v_newI (c' := 59) (k' := 51010) (Option.some.inj e501) qa_int (by decide) (by decide) (Nat.le_of_ble_eq_true rfl) ⟨Nat.le_of_ble_eq_true rfl, Nat.le_of_ble_eq_true rfl⟩ rfl rfl dX12_init_501 rfl ?_
  obtain ⟨s503, e503, h⟩ := o_b h
  refine v_putFR e503 (by decide) (by decide) rfl rfl rfl rfl rfl rfl rfl qf_RX12_193 dX12_init_503 rfl ?_
  refine v_aload_n 0 rfl dX12_init_506 rfl ?_
  refine v_sipush (v := (256 : Int32)) (by decide) dX12_init_507 rfl ?_
  obtain ⟨s510, e510, h⟩ := o_b h
  refine v_newI (c' := 60) (k' := 51266) (Option.some.inj e510) qa_int (by decide) (by decide) (Nat.le_of_ble_eq_true rfl) ⟨Nat.le_of_ble_eq_true rfl, Nat.le_of_ble_eq_true rfl⟩ rfl rfl dX12_init_510 rfl ?_
  obtain ⟨s512, e512, h⟩ := o_b h
  refine v_putFR e512 (by decide) (by decide) rfl rfl rfl rfl rfl rfl rfl qf_RX12_196 dX12_init_512 rfl ?_
  refine v_aload_n 0 rfl dX12_init_515 rfl ?_
  refine v_sipush (v := (200 : Int32)) (by decide) dX12_init_516 rfl ?_
  obtain ⟨s519, e519, h⟩ := o_b h
  refine v_newI (c' := 61) (k' := 51466) (Option.some.inj e519) qa_int (by decide) (by decide) (Nat.le_of_ble_eq_true rfl) ⟨Nat.le_of_ble_eq_true rfl, Nat.le_of_ble_eq_true rfl⟩ rfl rfl dX12_init_519 rfl ?_
  obtain ⟨s521, e521, h⟩ := o_b h
  refine v_putFR e521 (by decide) (by decide) rfl rfl rfl rfl rfl rfl rfl qf_RX12_199 dX12_init_521 rfl ?_
  refine v_aload_n 0 rfl dX12_init_524 rfl ?_
  refine v_sipush (v := (200 : Int32)) (by decide) dX12_init_525 rfl ?_
  obtain ⟨s528, e528, h⟩ := o_b h
  refine v_newI (c' := 62) (k' := 51666) (Option.some.inj e528) qa_int (by decide) (by decide) (Nat.le_of_ble_eq_true rfl) ⟨Nat.le_of_ble_eq_true rfl, Nat.le_of_ble_eq_true rfl⟩ rfl rfl dX12_init_528 rfl ?_
  obtain ⟨s530, e530, h⟩ := o_b h
  refine v_putFR e530 (by decide) (by decide) rfl rfl rfl rfl rfl rfl rfl qf_RX12_202 dX12_init_530 rfl ?_
  refine v_aload_n 0 rfl dX12_init_533 rfl ?_
  refine v_sipush (v := (200 : Int32)) (by decide) dX12_init_534 rfl ?_
  obtain ⟨s537, e537, h⟩ := o_b h
  refine v_newI (c' := 63) (k' := 51866) (Option.some.inj e537) qa_int (by decide) (by decide) (Nat.le_of_ble_eq_true rfl) ⟨Nat.le_of_ble_eq_true rfl, Nat.le_of_ble_eq_true rfl⟩ rfl rfl dX12_init_537 rfl ?_
  obtain ⟨s539, e539, h⟩ := o_b h
  refine v_putFR e539 (by decide) (by decide) rfl rfl rfl rfl rfl rfl rfl qf_RX12_205 dX12_init_539 rfl ?_
  refine v_aload_n 0 rfl dX12_init_542 rfl ?_
  refine v_sipush (v := (200 : Int32)) (by decide) dX12_init_543 rfl ?_
  obtain ⟨s546, e546, h⟩ := o_b h
  refine v_newI (c' := 64) (k' := 52066) (Option.some.inj e546) qa_int (by decide) (by decide) (Nat.le_of_ble_eq_true rfl) ⟨Nat.le_of_ble_eq_true rfl, Nat.le_of_ble_eq_true rfl⟩ rfl rfl dX12_init_546 rfl ?_
  obtain ⟨s548, e548, h⟩ := o_b h
  refine v_putFR e548 (by decide) (by decide) rfl rfl rfl rfl rfl rfl rfl qf_RX12_208 dX12_init_548 rfl ?_
  refine v_aload_n 0 rfl dX12_init_551 rfl ?_
  refine v_sipush (v := (200 : Int32)) (by decide) dX12_init_552 rfl ?_
  obtain ⟨s555, e555, h⟩ := o_b h
  refine v_newI (c' := 65) (k' := 52266) (Option.some.inj e555) qa_int (by decide) (by decide) (Nat.le_of_ble_eq_true rfl) ⟨Nat.le_of_ble_eq_true rfl, Nat.le_of_ble_eq_true rfl⟩ rfl rfl dX12_init_555 rfl ?_
  obtain ⟨s557, e557, h⟩ := o_b h
  refine v_putFR e557 (by decide) (by decide) rfl rfl rfl rfl rfl rfl rfl qf_RX12_211 dX12_init_557 rfl ?_
  refine v_aload_n 0 rfl dX12_init_560 rfl ?_
  refine v_bipush (v := (8 : Int32)) (by decide) dX12_init_561 rfl ?_
  obtain ⟨s563, e563, h⟩ := o_b h
  refine v_newI (c' := 66) (k' := 52274) (Option.some.inj e563) qa_int (by decide) (by decide) (Nat.le_of_ble_eq_true rfl) ⟨Nat.le_of_ble_eq_true rfl, Nat.le_of_ble_eq_true rfl⟩ rfl rfl dX12_init_563 rfl ?_
  obtain ⟨s565, e565, h⟩ := o_b h
  refine v_putFR e565 (by decide) (by decide) rfl rfl rfl rfl rfl rfl rfl qf_RX12_214 dX12_init_565 rfl ?_
  refine v_aload_n 0 rfl dX12_init_568 rfl ?_
  refine v_iconst (v := (4 : Int32)) (by decide) dX12_init_569 rfl ?_
  obtain ⟨s570, e570, h⟩ := o_b h
  refine v_newI (c' := 67) (k' := 52278) (Option.some.inj e570) qa_int (by decide) (by decide) (Nat.le_of_ble_eq_true rfl) ⟨Nat.le_of_ble_eq_true rfl, Nat.le_of_ble_eq_true rfl⟩ rfl rfl dX12_init_570 rfl ?_
  obtain ⟨s572, e572, h⟩ := o_b h
  refine v_putFR e572 (by decide) (by decide) rfl rfl rfl rfl rfl rfl rfl qf_RX12_217 dX12_init_572 rfl ?_
  refine v_aload_n 0 rfl dX12_init_575 rfl ?_
  refine v_iconst (v := (4 : Int32)) (by decide) dX12_init_576 rfl ?_
  obtain ⟨s577, e577, h⟩ := o_b h
  refine v_newI (c' := 68) (k' := 52282) (Option.some.inj e577) qa_int (by decide) (by decide) (Nat.le_of_ble_eq_true rfl) ⟨Nat.le_of_ble_eq_true rfl, Nat.le_of_ble_eq_true rfl⟩ rfl rfl dX12_init_577 rfl ?_
  obtain ⟨s579, e579, h⟩ := o_b h
  refine v_putFR e579 (by decide) (by decide) rfl rfl rfl rfl rfl rfl rfl qf_RX12_220 dX12_init_579 rfl ?_
  refine v_iload_n 1 rfl dX12_init_582 rfl ?_
  refine v_iconst (v := (3 : Int32)) (by decide) dX12_init_583 rfl ?_
  refine v_irem (by decide) dX12_init_584 rfl ?_
  refine v_istore_n [(2, .int (a1 - a1 / (3 : Int32) * (3 : Int32))), (0, .ref a0), (1, .int a1)] dX12_init_585 rfl (by decide) rfl ?_
  refine v_aload_n 1 rfl dX12_init_586 rfl ?_
  refine v_iload_n 0 rfl dX12_init_587 rfl ?_
  refine v_if_ge 605 dX12_init_588 (by decide) rfl (fun c588 => ?_) (fun c588 => ?_)
  · have h := o_p c588 h
    refine v_iconst (v := (3 : Int32)) (by decide) dX12_init_605 rfl ?_
    refine v_iconst (v := (2 : Int32)) (by decide) dX12_init_606 rfl ?_
    refine v_iload_n 0 rfl dX12_init_607 rfl ?_
    refine v_imul dX12_init_608 rfl ?_
    refine v_iadd dX12_init_609 rfl ?_
    refine v_sub [1] rfl ?_
    exact l_X12_init_610 h
  · have h := o_n c588 h
    refine v_iload_n 0 rfl dX12_init_591 rfl ?_
    refine v_iconst (v := (-1 : Int32)) (by decide) dX12_init_592 rfl ?_
    refine v_icmp_ne 601 dX12_init_593 (by decide) rfl (fun c593 => ?_) (fun c593 => ?_)
    · have h := o_n c593 h
      refine v_iconst (v := (5 : Int32)) (by decide) dX12_init_601 rfl ?_
      refine v_goto (q := 610) dX12_init_602 (by decide) ?_
      refine v_sub [1] rfl ?_
      exact l_X12_init_610 h
    · have h := o_p c593 h
      refine v_bipush (v := (7 : Int32)) (by decide) dX12_init_596 rfl ?_
      refine v_goto (q := 610) dX12_init_598 (by decide) ?_
      refine v_sub [1] rfl ?_
      exact l_X12_init_610 h
def rm_X11_request : Room := { frames := 6, cells := 1, slots := 6, locals := 90 }
set_option maxRecDepth 100000 in
set_option maxHeartbeats 4000000 in
theorem l_X11_request_50 {G : Gm} {μ : Mu} {o : Int64} {x : Xr} {σ : Hp} {x0 : Nat} {x1 : Int32} {x2 : Int32} {x3 : Int32} {x4 : Int32} (h : f_X11_request_50 σ x0 x1 x2 x3 x4 = some x) : V G yX11_request cX11_request 7 (some .int) rm_X11_request (zXi G x μ o 1 6) (σ, μ, o) 0 0 50 [(0, .ref x0), (1, .int x1), (2, .int x2), (3, .int x3), (4, .int x4)] [] := by
  unfold f_X11_request_50 at h
  refine v_aload_n 0 rfl dX11_request_50 rfl ?_
  obtain ⟨v51, e51, h⟩ := o_b h
  refine v_getR e51 (by decide) (by decide) rfl qf_RX11_60 dX11_request_51 rfl ?_
  refine v_iload_n 1 rfl dX11_request_54 rfl ?_
  obtain ⟨v55, e55, h⟩ := o_b h
  refine v_aR e55 (by decide) (by decide) rfl dX11_request_55 rfl ?_
  refine v_astore [(5, .ref v55), (0, .ref x0), (1, .int x1), (2, .int x2), (3, .int x3), (4, .int x4)] dX11_request_56 rfl (by decide) rfl ?_
  refine v_aload 0 rfl dX11_request_58 rfl ?_
  obtain ⟨v60, e60, h⟩ := o_b h
  refine v_getI e60 (by decide) (by decide) rfl qf_RX11_93 dX11_request_60 rfl ?_
  refine v_iconst (v := (1 : Int32)) (by decide) dX11_request_63 rfl ?_
  refine v_icmp_ne 77 dX11_request_64 (by decide) rfl (fun c64 => ?_) (fun c64 => ?_)
  · have h := o_n c64 h
    refine v_aload_n 1 rfl dX11_request_77 rfl ?_
    obtain ⟨v78, e78, h⟩ := o_b h
    refine v_getR e78 (by decide) (by decide) rfl qf_RX11_22 dX11_request_78 rfl ?_
    refine v_iload_n 2 rfl dX11_request_81 rfl ?_
    refine v_aload 0 rfl dX11_request_82 rfl ?_
    obtain ⟨v84, e84, h⟩ := o_b h
    refine v_getI e84 (by decide) (by decide) rfl qf_RX11_101 dX11_request_84 rfl ?_
    refine v_iconst (v := (1 : Int32)) (by decide) dX11_request_87 rfl ?_
    refine v_iadd dX11_request_88 rfl ?_
    refine v_iload_n 3 rfl dX11_request_89 rfl ?_
    refine v_iload_n 4 rfl dX11_request_90 rfl ?_
    refine v_iload 5 rfl dX11_request_91 rfl ?_
    obtain ⟨⟨⟩, g93, h⟩ := o_b h
    obtain ⟨v93, e93, h⟩ := o_b h
    refine v_Vi (as := [.int x1, .int (v84 + (1 : Int32)), .int x2, .int x3, .int x4]) (st := []) (c' := 0) (k' := 0) (k_X7_add e93) (rcv_c g93 (by decide) rfl) mk_X7_add qi_X7_add qe_X7_add qm_RX11_104 (ck rfl) rfl dX11_request_93 rfl rfl rfl ?_
    refine v_istore [(6, .int v93.1), (5, .ref v55), (0, .ref x0), (1, .int x1), (2, .int x2), (3, .int x3), (4, .int x4)] dX11_request_96 rfl (by decide) rfl ?_
    refine v_iload 0 rfl dX11_request_98 rfl ?_
    refine v_if_ne 105 dX11_request_100 (by decide) rfl (fun c100 => ?_) (fun c100 => ?_)
    · have h := o_n c100 h
      refine v_aload 1 rfl dX11_request_105 rfl ?_
      refine v_iload 0 rfl dX11_request_107 rfl ?_
      obtain ⟨⟨⟩, g109, h⟩ := o_b h
      obtain ⟨v109, e109, h⟩ := o_b h
      refine v_Vv (as := [.int v93.1]) (st := []) (c' := 0) (k' := 0) (k_X2_ask e109) (rcv_c g109 (by decide) rfl) mk_X2_ask qi_X2_ask qe_X2_ask qm_RX11_108 (ck rfl) rfl dX11_request_109 rfl rfl rfl ?_
      refine v_aload_n 2 rfl dX11_request_112 rfl ?_
      refine v_iload 0 rfl dX11_request_113 rfl ?_
      obtain ⟨⟨⟩, g115, h⟩ := o_b h
      obtain ⟨v115, e115, h⟩ := o_b h
      refine v_Vv (as := [.int v93.1]) (st := []) (c' := 0) (k' := 0) (k_X11_stamp e115) (rcv_c g115 (by decide) rfl) mk_X11_stamp qi_X11_stamp qe_X11_stamp qm_RX11_111 (ck rfl) rfl dX11_request_115 rfl rfl rfl ?_
      refine v_aload 1 rfl dX11_request_118 rfl ?_
      obtain ⟨v120, e120, h⟩ := o_b h
      refine v_getI e120 (by decide) (by decide) rfl qf_RX11_101 dX11_request_120 rfl ?_
      exact x_iret (Option.some.inj h).symm rfl rfl (Nat.le_of_ble_eq_true rfl) (Nat.le_of_ble_eq_true rfl) dX11_request_123
    · have h := o_p c100 h
      refine v_iconst (v := (-1 : Int32)) (by decide) dX11_request_103 rfl ?_
      exact x_iret (Option.some.inj h).symm rfl rfl (Nat.le_of_ble_eq_true rfl) (Nat.le_of_ble_eq_true rfl) dX11_request_104
  · have h := o_p c64 h
    exact x_throwI (is := 98) (text := "its latest request is open") (code := 3) (E := "java/lang/IllegalStateException") (Option.some.inj h).symm (by decide) rfl mk_X11_request.1 rfl tw100 qc_RX11_96 qz_e3 (by decide) dX11_request_67 dX11_request_70 dX11_request_71 dX11_request_73 dX11_request_76 (Nat.le_of_ble_eq_true rfl) (Nat.le_of_ble_eq_true rfl) (Nat.le_of_ble_eq_true rfl) (Nat.le_of_ble_eq_true rfl) (Nat.le_of_ble_eq_true rfl) (Nat.le_of_ble_eq_true rfl)
set_option maxRecDepth 100000 in
set_option maxHeartbeats 4000000 in
theorem k_X11_request {G : Gm} {μ : Mu} {o : Int64} {x : Xr} {σ : Hp} {a0 : Nat} {a1 : Int32} {a2 : Int32} {a3 : Int32} {a4 : Int32} (h : f_X11_request σ a0 a1 a2 a3 a4 = some x) : Xi G yX11_request cX11_request 7 (some .int) rm_X11_request [.ref a0, .int a1, .int a2, .int a3, .int a4] (σ, μ, o) x μ o 1 6 := by
  refine x_entI [(0, .ref a0), (1, .int a1), (2, .int a2), (3, .int a3), (4, .int a4)] (by decide +kernel) (Nat.le_of_ble_eq_true rfl) rfl ?_
  unfold f_X11_request at h
  refine v_aload_n 0 rfl dX11_request_0 rfl ?_
  refine v_iload_n 1 rfl dX11_request_1 rfl ?_
  obtain ⟨⟨⟩, g2, h⟩ := o_b h
  obtain ⟨v2, e2, h⟩ := o_b h
  refine v_Vi (as := [.int a1]) (st := []) (c' := 0) (k' := 0) (k_X11_isClient e2) (rcv_c g2 (by decide) rfl) mk_X11_isClient qi_X11_isClient qe_X11_isClient qm_RX11_74 (ck rfl) rfl dX11_request_2 rfl rfl rfl ?_
  refine v_if_eq 16 dX11_request_5 (by decide) rfl (fun c5 => ?_) (fun c5 => ?_)
  · have h := o_p c5 h
    exact x_throwI (is := 83) (text := "no such client or key") (code := 1) (E := "java/lang/IndexOutOfBoundsException") (Option.some.inj h).symm (by decide) rfl mk_X11_request.1 rfl tw85 qc_RX11_81 qz_e1 (by decide) dX11_request_16 dX11_request_19 dX11_request_20 dX11_request_22 dX11_request_25 (Nat.le_of_ble_eq_true rfl) (Nat.le_of_ble_eq_true rfl) (Nat.le_of_ble_eq_true rfl) (Nat.le_of_ble_eq_true rfl) (Nat.le_of_ble_eq_true rfl) (Nat.le_of_ble_eq_true rfl)
  · have h := o_n c5 h
    refine v_aload_n 0 rfl dX11_request_8 rfl ?_
    refine v_iload_n 3 rfl dX11_request_9 rfl ?_
    obtain ⟨⟨⟩, g10, h⟩ := o_b h
    obtain ⟨v10, e10, h⟩ := o_b h
    refine v_Vi (as := [.int a3]) (st := []) (c' := 0) (k' := 0) (k_X11_isKey e10) (rcv_c g10 (by decide) rfl) mk_X11_isKey qi_X11_isKey qe_X11_isKey qm_RX11_78 (ck rfl) rfl dX11_request_10 rfl rfl rfl ?_
    refine v_if_ne 26 dX11_request_13 (by decide) rfl (fun c13 => ?_) (fun c13 => ?_)
    · have h := o_n c13 h
      refine v_iload_n 2 rfl dX11_request_26 rfl ?_
      refine v_if_eq 50 dX11_request_27 (by decide) rfl (fun c27 => ?_) (fun c27 => ?_)
      · have h := o_p c27 h
        exact l_X11_request_50 h
      · have h := o_n c27 h
        refine v_iload_n 2 rfl dX11_request_30 rfl ?_
        refine v_iconst (v := (1 : Int32)) (by decide) dX11_request_31 rfl ?_
        refine v_icmp_eq 50 dX11_request_32 (by decide) rfl (fun c32 => ?_) (fun c32 => ?_)
        · have h := o_p c32 h
          exact l_X11_request_50 h
        · have h := o_n c32 h
          refine v_iload_n 2 rfl dX11_request_35 rfl ?_
          refine v_iconst (v := (2 : Int32)) (by decide) dX11_request_36 rfl ?_
          refine v_icmp_eq 50 dX11_request_37 (by decide) rfl (fun c37 => ?_) (fun c37 => ?_)
          · have h := o_p c37 h
            exact l_X11_request_50 h
          · have h := o_n c37 h
            exact x_throwI (is := 90) (text := "no such kind") (code := 2) (E := "java/lang/IllegalArgumentException") (Option.some.inj h).symm (by decide) rfl mk_X11_request.1 rfl tw92 qc_RX11_88 qz_e2 (by decide) dX11_request_40 dX11_request_43 dX11_request_44 dX11_request_46 dX11_request_49 (Nat.le_of_ble_eq_true rfl) (Nat.le_of_ble_eq_true rfl) (Nat.le_of_ble_eq_true rfl) (Nat.le_of_ble_eq_true rfl) (Nat.le_of_ble_eq_true rfl) (Nat.le_of_ble_eq_true rfl)
    · have h := o_p c13 h
      exact x_throwI (is := 83) (text := "no such client or key") (code := 1) (E := "java/lang/IndexOutOfBoundsException") (Option.some.inj h).symm (by decide) rfl mk_X11_request.1 rfl tw85 qc_RX11_81 qz_e1 (by decide) dX11_request_16 dX11_request_19 dX11_request_20 dX11_request_22 dX11_request_25 (Nat.le_of_ble_eq_true rfl) (Nat.le_of_ble_eq_true rfl) (Nat.le_of_ble_eq_true rfl) (Nat.le_of_ble_eq_true rfl) (Nat.le_of_ble_eq_true rfl) (Nat.le_of_ble_eq_true rfl)
