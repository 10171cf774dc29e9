def rm_X12_answer_ : Room := { frames := 1, cells := 0, slots := 0, locals := 21 }
set_option maxRecDepth 100000 in
set_option maxHeartbeats 4000000 in
theorem k_X12_answer_ {G : Gm} (hG : gF G = mFl) {σ : Hp} {o : Int64} {r : Int32} {μ' : Mu} {μ : Mu} {a1 : Int32} (h : f_X12_answer_ μ a1 = some (r, μ')) : Ci G yX12_answer_ cX12_answer_ 2 (some .int) rm_X12_answer_ [.ref (gM G 200), .int a1] (σ, μ, o) r (σ, μ', o) 0 0 := by
  refine v_entI [(0, .ref (gM G 200)), (1, .int a1)] (by decide +kernel) (Nat.le_of_ble_eq_true rfl) rfl ?_
  unfold f_X12_answer_ at h
  refine v_aload_n 0 rfl dX12_answer__0 rfl ?_
  refine v_iconst (v := (0 : Int32)) (by decide) dX12_answer__1 rfl ?_
  obtain ⟨s2, e2, h⟩ := o_b h
  refine v_mP e2 (mg hG rfl) (by decide) rfl rfl rfl rfl rfl qf_RX12_229 dX12_answer__2 rfl ?_
  refine v_iload_n 1 rfl dX12_answer__5 rfl ?_
  refine v_iconst (v := (4 : Int32)) (by decide) dX12_answer__6 rfl ?_
  obtain ⟨v7, e7, h⟩ := o_b h
  refine v_Si (as := [.int a1, .int (4 : Int32)]) (st := []) (c' := 0) (k' := 0) (k_X12_in e7) mk_X12_in qs_X12_in qm_RX12_374 (ck rfl) rfl dX12_answer__7 rfl rfl rfl ?_
  refine v_if_eq 22 dX12_answer__10 (by decide) rfl (fun c10 => ?_) (fun c10 => ?_)
  · have h := o_p c10 h
    refine v_iconst (v := (0 : Int32)) (by decide) dX12_answer__22 rfl ?_
    obtain ⟨rfl, rfl⟩ := o_s h
    exact v_iret rfl rfl (Nat.le_of_ble_eq_true rfl) (Nat.le_of_ble_eq_true rfl) dX12_answer__23
  · have h := o_n c10 h
    refine v_aload_n 0 rfl dX12_answer__13 rfl ?_
    refine v_mR (j := 63) (mg hG rfl) (by decide) rfl qf_RX12_178 dX12_answer__14 rfl ?_
    refine v_iload_n 1 rfl dX12_answer__17 rfl ?_
    obtain ⟨v18, e18, h⟩ := o_b h
    refine v_mA e18 (mg hG rfl) (by decide) rfl dX12_answer__18 rfl ?_
    refine v_goto (q := 23) dX12_answer__19 (by decide) ?_
    obtain ⟨rfl, rfl⟩ := o_s h
    exact v_iret rfl rfl (Nat.le_of_ble_eq_true rfl) (Nat.le_of_ble_eq_true rfl) dX12_answer__23
def rm_X12_about : Room := { frames := 0, cells := 0, slots := 0, locals := 0 }
set_option maxRecDepth 100000 in
set_option maxHeartbeats 4000000 in
theorem k_X12_about {G : Gm} (hG : gF G = mFl) {σ : Hp} {o : Int64} {r : Int32} {μ' : Mu} {μ : Mu} {a1 : Int32} (h : f_X12_about μ a1 = some (r, μ')) : Ci G yX12_about cX12_about 2 (some .int) rm_X12_about [.ref (gM G 200), .int a1] (σ, μ, o) r (σ, μ', o) 0 0 := by
  refine v_entI [(0, .ref (gM G 200)), (1, .int a1)] (by decide +kernel) (Nat.le_of_ble_eq_true rfl) rfl ?_
  unfold f_X12_about at h
  refine v_aload_n 0 rfl dX12_about_0 rfl ?_
  refine v_iconst (v := (0 : Int32)) (by decide) dX12_about_1 rfl ?_
  obtain ⟨s2, e2, h⟩ := o_b h
  refine v_mP e2 (mg hG rfl) (by decide) rfl rfl rfl rfl rfl qf_RX12_229 dX12_about_2 rfl ?_
  refine v_iload_n 1 rfl dX12_about_5 rfl ?_
  by_cases c6_0 : a1 = (0 : Int32)
  · have h := o_p c6_0 h
    refine v_tableIn 48 dX12_about_6 (by rw [c6_0]; decide) (by rw [c6_0]; decide) (by rw [c6_0]; rfl) (by decide) ?_
    refine v_aload_n 0 rfl dX12_about_48 rfl ?_
    refine v_mI (j := 12) (mg hG rfl) (by decide) rfl qf_RX12_235 dX12_about_49 rfl ?_
    obtain ⟨rfl, rfl⟩ := o_s h
    exact v_iret rfl rfl (Nat.le_of_ble_eq_true rfl) (Nat.le_of_ble_eq_true rfl) dX12_about_52
  replace h := o_n c6_0 h
  by_cases c6_1 : a1 = (1 : Int32)
  · have h := o_p c6_1 h
    refine v_tableIn 53 dX12_about_6 (by rw [c6_1]; decide) (by rw [c6_1]; decide) (by rw [c6_1]; rfl) (by decide) ?_
    refine v_aload_n 0 rfl dX12_about_53 rfl ?_
    refine v_mI (j := 13) (mg hG rfl) (by decide) rfl qf_RX12_232 dX12_about_54 rfl ?_
    obtain ⟨rfl, rfl⟩ := o_s h
    exact v_iret rfl rfl (Nat.le_of_ble_eq_true rfl) (Nat.le_of_ble_eq_true rfl) dX12_about_57
  replace h := o_n c6_1 h
  by_cases c6_2 : a1 = (2 : Int32)
  · have h := o_p c6_2 h
    refine v_tableIn 58 dX12_about_6 (by rw [c6_2]; decide) (by rw [c6_2]; decide) (by rw [c6_2]; rfl) (by decide) ?_
    refine v_aload_n 0 rfl dX12_about_58 rfl ?_
    refine v_mI (j := 14) (mg hG rfl) (by decide) rfl qf_RX12_238 dX12_about_59 rfl ?_
    obtain ⟨rfl, rfl⟩ := o_s h
    exact v_iret rfl rfl (Nat.le_of_ble_eq_true rfl) (Nat.le_of_ble_eq_true rfl) dX12_about_62
  replace h := o_n c6_2 h
  by_cases c6_3 : a1 = (3 : Int32)
  · have h := o_p c6_3 h
    refine v_tableIn 63 dX12_about_6 (by rw [c6_3]; decide) (by rw [c6_3]; decide) (by rw [c6_3]; rfl) (by decide) ?_
    refine v_aload_n 0 rfl dX12_about_63 rfl ?_
    refine v_mI (j := 9) (mg hG rfl) (by decide) rfl qf_RX12_25 dX12_about_64 rfl ?_
    refine v_if_eq 74 dX12_about_67 (by decide) rfl (fun c67 => ?_) (fun c67 => ?_)
    · have h := o_p c67 h
      refine v_iconst (v := (0 : Int32)) (by decide) dX12_about_74 rfl ?_
      obtain ⟨rfl, rfl⟩ := o_s h
      exact v_iret rfl rfl (Nat.le_of_ble_eq_true rfl) (Nat.le_of_ble_eq_true rfl) dX12_about_75
    · have h := o_n c67 h
      refine v_iconst (v := (1 : Int32)) (by decide) dX12_about_70 rfl ?_
      refine v_goto (q := 75) dX12_about_71 (by decide) ?_
      obtain ⟨rfl, rfl⟩ := o_s h
      exact v_iret rfl rfl (Nat.le_of_ble_eq_true rfl) (Nat.le_of_ble_eq_true rfl) dX12_about_75
  replace h := o_n c6_3 h
  by_cases c6_4 : a1 = (4 : Int32)
  · have h := o_p c6_4 h
    refine v_tableIn 76 dX12_about_6 (by rw [c6_4]; decide) (by rw [c6_4]; decide) (by rw [c6_4]; rfl) (by decide) ?_
    refine v_aload_n 0 rfl dX12_about_76 rfl ?_
    refine v_mI (j := 10) (mg hG rfl) (by decide) rfl qf_RX12_29 dX12_about_77 rfl ?_
    obtain ⟨rfl, rfl⟩ := o_s h
    exact v_iret rfl rfl (Nat.le_of_ble_eq_true rfl) (Nat.le_of_ble_eq_true rfl) dX12_about_80
  replace h := o_n c6_4 h
  by_cases c6_5 : a1 = (5 : Int32)
  · have h := o_p c6_5 h
    refine v_tableIn 81 dX12_about_6 (by rw [c6_5]; decide) (by rw [c6_5]; decide) (by rw [c6_5]; rfl) (by decide) ?_
    refine v_aload_n 0 rfl dX12_about_81 rfl ?_
    refine v_mI (j := 11) (mg hG rfl) (by decide) rfl qf_RX12_245 dX12_about_82 rfl ?_
    obtain ⟨rfl, rfl⟩ := o_s h
    exact v_iret rfl rfl (Nat.le_of_ble_eq_true rfl) (Nat.le_of_ble_eq_true rfl) dX12_about_85
  replace h := o_n c6_5 h
  by_cases c6_6 : a1 = (6 : Int32)
  · have h := o_p c6_6 h
    refine v_tableIn 86 dX12_about_6 (by rw [c6_6]; decide) (by rw [c6_6]; decide) (by rw [c6_6]; rfl) (by decide) ?_
    refine v_aload_n 0 rfl dX12_about_86 rfl ?_
    refine v_mI (j := 70) (mg hG rfl) (by decide) rfl qf_RX12_334 dX12_about_87 rfl ?_
    obtain ⟨rfl, rfl⟩ := o_s h
    exact v_iret rfl rfl (Nat.le_of_ble_eq_true rfl) (Nat.le_of_ble_eq_true rfl) dX12_about_90
  replace h := o_n c6_6 h
  refine v_tableOut 91 dX12_about_6 (sw_out 0 6 (fun i h1 h2 => by rcases (show i = 0 ∨ i = 1 ∨ i = 2 ∨ i = 3 ∨ i = 4 ∨ i = 5 ∨ i = 6 by omega) with rfl | rfl | rfl | rfl | rfl | rfl | rfl <;> first | exact c6_0 | exact c6_1 | exact c6_2 | exact c6_3 | exact c6_4 | exact c6_5 | exact c6_6)) (by decide) ?_
  refine v_iconst (v := (-1 : Int32)) (by decide) dX12_about_91 rfl ?_
  obtain ⟨rfl, rfl⟩ := o_s h
  exact v_iret rfl rfl (Nat.le_of_ble_eq_true rfl) (Nat.le_of_ble_eq_true rfl) dX12_about_92
def rm_X12_message : Room := { frames := 1, cells := 0, slots := 0, locals := 21 }
set_option maxRecDepth 100000 in
set_option maxHeartbeats 4000000 in
theorem k_X12_message {G : Gm} (hG : gF G = mFl) {σ : Hp} {o : Int64} {r : Int32} {μ' : Mu} {μ : Mu} {a1 : Int32} {a2 : Int32} (h : f_X12_message μ a1 a2 = some (r, μ')) : Ci G yX12_message cX12_message 4 (some .int) rm_X12_message [.ref (gM G 200), .int a1, .int a2] (σ, μ, o) r (σ, μ', o) 0 0 := by
  refine v_entI [(0, .ref (gM G 200)), (1, .int a1), (2, .int a2)] (by decide +kernel) (Nat.le_of_ble_eq_true rfl) rfl ?_
  unfold f_X12_message at h
  refine v_aload_n 0 rfl dX12_message_0 rfl ?_
  refine v_iconst (v := (0 : Int32)) (by decide) dX12_message_1 rfl ?_
  obtain ⟨s2, e2, h⟩ := o_b h
  refine v_mP e2 (mg hG rfl) (by decide) rfl rfl rfl rfl rfl qf_RX12_229 dX12_message_2 rfl ?_
  refine v_iload_n 1 rfl dX12_message_5 rfl ?_
  refine v_aload_n 0 rfl dX12_message_6 rfl ?_
  refine v_mI (j := 12) (mg hG rfl) (by decide) rfl qf_RX12_235 dX12_message_7 rfl ?_
  obtain ⟨v10, e10, h⟩ := o_b h
  refine v_Si (as := [.int a1, .int (s2.1 12)]) (st := []) (c' := 0) (k' := 0) (k_X12_in e10) mk_X12_in qs_X12_in qm_RX12_374 (ck rfl) rfl dX12_message_10 rfl rfl rfl ?_
  refine v_if_ne 18 dX12_message_13 (by decide) rfl (fun c13 => ?_) (fun c13 => ?_)
  · have h := o_n c13 h
    refine v_aload_n 0 rfl dX12_message_18 rfl ?_
    refine v_mR (j := 15) (mg hG rfl) (by decide) rfl qf_RX12_33 dX12_message_19 rfl ?_
    refine v_iload_n 1 rfl dX12_message_22 rfl ?_
    obtain ⟨v23, e23, h⟩ := o_b h
    refine v_mA e23 (mg hG rfl) (by decide) rfl dX12_message_23 rfl ?_
    refine v_istore_n [(3, .int v23), (0, .ref (gM G 200)), (1, .int a1), (2, .int a2)] dX12_message_24 rfl (by decide) rfl ?_
    refine v_iload_n 3 rfl dX12_message_25 rfl ?_
    refine v_if_ne 38 dX12_message_26 (by decide) rfl (fun c26 => ?_) (fun c26 => ?_)
    · have h := o_n c26 h
      refine v_iload_n 3 rfl dX12_message_38 rfl ?_
      refine v_iconst (v := (1 : Int32)) (by decide) dX12_message_39 rfl ?_
      refine v_icmp_ne 52 dX12_message_40 (by decide) rfl (fun c40 => ?_) (fun c40 => ?_)
      · have h := o_n c40 h
        refine v_iload_n 3 rfl dX12_message_52 rfl ?_
        refine v_iconst (v := (2 : Int32)) (by decide) dX12_message_53 rfl ?_
        refine v_icmp_ne 66 dX12_message_54 (by decide) rfl (fun c54 => ?_) (fun c54 => ?_)
        · have h := o_n c54 h
          refine v_iload_n 3 rfl dX12_message_66 rfl ?_
          refine v_iconst (v := (3 : Int32)) (by decide) dX12_message_67 rfl ?_
          refine v_icmp_ne 80 dX12_message_68 (by decide) rfl (fun c68 => ?_) (fun c68 => ?_)
          · have h := o_n c68 h
            refine v_iconst (v := (-1 : Int32)) (by decide) dX12_message_80 rfl ?_
            obtain ⟨rfl, rfl⟩ := o_s h
            exact v_iret rfl rfl (Nat.le_of_ble_eq_true rfl) (Nat.le_of_ble_eq_true rfl) dX12_message_81
          · have h := o_p c68 h
            refine v_aload_n 1 rfl dX12_message_71 rfl ?_
            refine v_mR (j := 20) (mg hG rfl) (by decide) rfl qf_RX12_48 dX12_message_72 rfl ?_
            refine v_iload_n 0 rfl dX12_message_75 rfl ?_
            obtain ⟨v76, e76, h⟩ := o_b h
            refine v_mA e76 (mg hG rfl) (by decide) rfl dX12_message_76 rfl ?_
            refine v_goto (q := 81) dX12_message_77 (by decide) ?_
            obtain ⟨rfl, rfl⟩ := o_s h
            exact v_iret rfl rfl (Nat.le_of_ble_eq_true rfl) (Nat.le_of_ble_eq_true rfl) dX12_message_81
        · have h := o_p c54 h
          refine v_aload_n 1 rfl dX12_message_57 rfl ?_
          refine v_mR (j := 19) (mg hG rfl) (by decide) rfl qf_RX12_45 dX12_message_58 rfl ?_
          refine v_iload_n 0 rfl dX12_message_61 rfl ?_
          obtain ⟨v62, e62, h⟩ := o_b h
          refine v_mA e62 (mg hG rfl) (by decide) rfl dX12_message_62 rfl ?_
          refine v_goto (q := 81) dX12_message_63 (by decide) ?_
          obtain ⟨rfl, rfl⟩ := o_s h
          exact v_iret rfl rfl (Nat.le_of_ble_eq_true rfl) (Nat.le_of_ble_eq_true rfl) dX12_message_81
      · have h := o_p c40 h
        refine v_aload_n 1 rfl dX12_message_43 rfl ?_
        refine v_mR (j := 18) (mg hG rfl) (by decide) rfl qf_RX12_42 dX12_message_44 rfl ?_
        refine v_iload_n 0 rfl dX12_message_47 rfl ?_
        obtain ⟨v48, e48, h⟩ := o_b h
        refine v_mA e48 (mg hG rfl) (by decide) rfl dX12_message_48 rfl ?_
        refine v_goto (q := 81) dX12_message_49 (by decide) ?_
        obtain ⟨rfl, rfl⟩ := o_s h
        exact v_iret rfl rfl (Nat.le_of_ble_eq_true rfl) (Nat.le_of_ble_eq_true rfl) dX12_message_81
    · have h := o_p c26 h
      refine v_aload_n 1 rfl dX12_message_29 rfl ?_
      refine v_mR (j := 17) (mg hG rfl) (by decide) rfl qf_RX12_39 dX12_message_30 rfl ?_
      refine v_iload_n 0 rfl dX12_message_33 rfl ?_
      obtain ⟨v34, e34, h⟩ := o_b h
      refine v_mA e34 (mg hG rfl) (by decide) rfl dX12_message_34 rfl ?_
      refine v_goto (q := 81) dX12_message_35 (by decide) ?_
      obtain ⟨rfl, rfl⟩ := o_s h
      exact v_iret rfl rfl (Nat.le_of_ble_eq_true rfl) (Nat.le_of_ble_eq_true rfl) dX12_message_81
  · have h := o_p c13 h
    refine v_iconst (v := (-1 : Int32)) (by decide) dX12_message_16 rfl ?_
    obtain ⟨rfl, rfl⟩ := o_s h
    exact v_iret rfl rfl (Nat.le_of_ble_eq_true rfl) (Nat.le_of_ble_eq_true rfl) dX12_message_17
def rm_X12_has : Room := { frames := 1, cells := 0, slots := 0, locals := 25 }
set_option maxRecDepth 100000 in
set_option maxHeartbeats 4000000 in
theorem l_X12_has_89 {G : Gm} (hG : gF G = mFl) {σ : Hp} {o : Int64} {r : Int32} {μ' : Mu} {μ : Mu} {x2 : Int32} {x3 : Int32} (h : f_X12_has_89 μ x2 x3 = some (r, μ')) : V G yX12_has cX12_has 6 (some .boolean) rm_X12_has (zI G r (σ, μ', o) 0 0) (σ, μ, o) 0 0 89 [(0, .ref (gM G 200)), (2, .int x2), (3, .int x3)] [] := by
  unfold f_X12_has_89 at h
  refine v_aload_n 0 rfl dX12_has_89 rfl ?_
  refine v_mR (j := 78) (mg hG rfl) (by decide) rfl qf_RX12_220 dX12_has_90 rfl ?_
  refine v_aload_n 0 rfl dX12_has_93 rfl ?_
  refine v_mR (j := 4) (mg hG rfl) (by decide) rfl qf_RX12_7 dX12_has_94 rfl ?_
  refine v_iload_n 2 rfl dX12_has_97 rfl ?_
  obtain ⟨v98, e98, h⟩ := o_b h
  refine v_mA e98 (mg hG rfl) (by decide) rfl dX12_has_98 rfl ?_
  obtain ⟨v99, e99, h⟩ := o_b h
  refine v_mA e99 (mg hG rfl) (by decide) rfl dX12_has_99 rfl ?_
  refine v_aload_n 0 rfl dX12_has_100 rfl ?_
  refine v_mR (j := 75) (mg hG rfl) (by decide) rfl qf_RX12_211 dX12_has_101 rfl ?_
  refine v_iload_n 1 rfl dX12_has_104 rfl ?_
  obtain ⟨v105, e105, h⟩ := o_b h
  refine v_mA e105 (mg hG rfl) (by decide) rfl dX12_has_105 rfl ?_
  refine v_icmp_ne 113 dX12_has_106 (by decide) rfl (fun c106 => ?_) (fun c106 => ?_)
  · have h := o_n c106 h
    refine v_iconst (v := (0 : Int32)) (by decide) dX12_has_113 rfl ?_
    obtain ⟨rfl, rfl⟩ := o_s h
    exact v_iret rfl rfl (Nat.le_of_ble_eq_true rfl) (Nat.le_of_ble_eq_true rfl) dX12_has_114
  · have h := o_p c106 h
    refine v_iconst (v := (1 : Int32)) (by decide) dX12_has_109 rfl ?_
    refine v_goto (q := 114) dX12_has_110 (by decide) ?_
    obtain ⟨rfl, rfl⟩ := o_s h
    exact v_iret rfl rfl (Nat.le_of_ble_eq_true rfl) (Nat.le_of_ble_eq_true rfl) dX12_has_114
set_option maxRecDepth 100000 in
set_option maxHeartbeats 4000000 in
theorem l_X12_has_49 {G : Gm} (hG : gF G = mFl) {σ : Hp} {o : Int64} {r : Int32} {μ' : Mu} : ∀ (n : Nat) {μ : Mu} {x1 : Int32} {x2 : Int32} {x3 : Int32} {x5 : Int32} , f_X12_has_49 n μ x1 x2 x3 x5 = some (r, μ') → V G yX12_has cX12_has 6 (some .boolean) rm_X12_has (zI G r (σ, μ', o) 0 0) (σ, μ, o) 0 0 49 [(0, .ref (gM G 200)), (1, .int x1), (2, .int x2), (3, .int x3), (5, .int x5)] [] := by
  intro n
  induction n with
  | zero => intro _ _ _ _ _ h; cases h
  | succ n ih =>
    intro μ x1 x2 x3 x5 h
    replace h : b_X12_has_49 (f_X12_has_49 n) μ x1 x2 x3 x5 = some (r, μ') := h
    unfold b_X12_has_49 at h
    refine v_iload 4 rfl dX12_has_49 rfl ?_
    refine v_aload_n 0 rfl dX12_has_51 rfl ?_
    refine v_mR (j := 38) (mg hG rfl) (by decide) rfl qf_RX12_103 dX12_has_52 rfl ?_
    refine v_iload_n 1 rfl dX12_has_55 rfl ?_
    obtain ⟨v56, e56, h⟩ := o_b h
    refine v_mA e56 (mg hG rfl) (by decide) rfl dX12_has_56 rfl ?_
    refine v_icmp_ge 121 dX12_has_57 (by decide) rfl (fun c57 => ?_) (fun c57 => ?_)
    · have h := o_p c57 h
      refine v_iconst (v := (1 : Int32)) (by decide) dX12_has_121 rfl ?_
      obtain ⟨rfl, rfl⟩ := o_s h
      exact v_iret rfl rfl (Nat.le_of_ble_eq_true rfl) (Nat.le_of_ble_eq_true rfl) dX12_has_122
    · have h := o_n c57 h
      refine v_aload_n 0 rfl dX12_has_60 rfl ?_
      refine v_iload_n 1 rfl dX12_has_61 rfl ?_
      refine v_iload 4 rfl dX12_has_62 rfl ?_
      refine v_iconst (v := (1 : Int32)) (by decide) dX12_has_64 rfl ?_
      refine v_iadd dX12_has_65 rfl ?_
      obtain ⟨v66, e66, h⟩ := o_b h
      refine v_Vv (as := [.int x1, .int (x5 + (1 : Int32))]) (st := []) (c' := 0) (k' := 0) (k_X12_execute hG e66) (rcv_m (mg hG rfl)) mk_X12_execute qi_X12_execute qe_X12_execute qm_RX12_256 (ck rfl) rfl dX12_has_66 rfl rfl rfl ?_
      refine v_aload_n 0 rfl dX12_has_69 rfl ?_
      refine v_mR (j := 77) (mg hG rfl) (by decide) rfl qf_RX12_217 dX12_has_70 rfl ?_
      refine v_aload_n 0 rfl dX12_has_73 rfl ?_
      refine v_mR (j := 4) (mg hG rfl) (by decide) rfl qf_RX12_7 dX12_has_74 rfl ?_
      refine v_iload_n 3 rfl dX12_has_77 rfl ?_
      obtain ⟨v78, e78, h⟩ := o_b h
      refine v_mA e78 (mg hG rfl) (by decide) rfl dX12_has_78 rfl ?_
      obtain ⟨v79, e79, h⟩ := o_b h
      refine v_mA e79 (mg hG rfl) (by decide) rfl dX12_has_79 rfl ?_
      refine v_aload_n 0 rfl dX12_has_80 rfl ?_
      refine v_mR (j := 5) (mg hG rfl) (by decide) rfl qf_RX12_13 dX12_has_81 rfl ?_
      refine v_iload_n 3 rfl dX12_has_84 rfl ?_
      obtain ⟨v85, e85, h⟩ := o_b h
      refine v_mA e85 (mg hG rfl) (by decide) rfl dX12_has_85 rfl ?_
      refine v_icmp_ne 115 dX12_has_86 (by decide) rfl (fun c86 => ?_) (fun c86 => ?_)
      · have h := o_n c86 h
        refine v_iinc (v := (x5 + 1)) [(5, .int (x5 + 1)), (0, .ref (gM G 200)), (1, .int x1), (2, .int x2), (3, .int x3)] 4 rfl rfl dX12_has_115 rfl (by decide) rfl ?_
        refine v_goto (q := 49) dX12_has_118 (by decide) ?_
        refine v_sub [1, 2, 3, 4, 0] rfl ?_
        exact ih h
      · have h := o_p c86 h
        refine v_sub [0, 2, 3] rfl ?_
        exact l_X12_has_89 hG h
set_option maxRecDepth 100000 in
set_option maxHeartbeats 4000000 in
theorem k_X12_has {G : Gm} (hG : gF G = mFl) {σ : Hp} {o : Int64} {r : Int32} {μ' : Mu} {μ : Mu} {a1 : Int32} {a2 : Int32} (h : f_X12_has μ a1 a2 = some (r, μ')) : Ci G yX12_has cX12_has 6 (some .boolean) rm_X12_has [.ref (gM G 200), .int a1, .int a2] (σ, μ, o) r (σ, μ', o) 0 0 := by
  refine v_entI [(0, .ref (gM G 200)), (1, .int a1), (2, .int a2)] (by decide +kernel) (Nat.le_of_ble_eq_true rfl) rfl ?_
  unfold f_X12_has at h
  refine v_aload_n 0 rfl dX12_has_0 rfl ?_
  refine v_mR (j := 71) (mg hG rfl) (by decide) rfl qf_RX12_199 dX12_has_1 rfl ?_
  refine v_iload_n 2 rfl dX12_has_4 rfl ?_
  obtain ⟨v5, e5, h⟩ := o_b h
  refine v_mA e5 (mg hG rfl) (by decide) rfl dX12_has_5 rfl ?_
  refine v_istore_n [(3, .int v5), (0, .ref (gM G 200)), (1, .int a1), (2, .int a2)] dX12_has_6 rfl (by decide) rfl ?_
  refine v_aload_n 1 rfl dX12_has_7 rfl ?_
  refine v_mR (j := 74) (mg hG rfl) (by decide) rfl qf_RX12_208 dX12_has_8 rfl ?_
  refine v_iload_n 3 rfl dX12_has_11 rfl ?_
  obtain ⟨v12, e12, h⟩ := o_b h
  refine v_mA e12 (mg hG rfl) (by decide) rfl dX12_has_12 rfl ?_
  refine v_istore [(4, .int v12), (3, .int v5), (0, .ref (gM G 200)), (1, .int a1), (2, .int a2)] dX12_has_13 rfl (by decide) rfl ?_
  refine v_iload 0 rfl dX12_has_15 rfl ?_
  refine v_aload_n 2 rfl dX12_has_17 rfl ?_
  refine v_mR (j := 38) (mg hG rfl) (by decide) rfl qf_RX12_103 dX12_has_18 rfl ?_
  refine v_iload_n 3 rfl dX12_has_21 rfl ?_
  obtain ⟨v22, e22, h⟩ := o_b h
  refine v_mA e22 (mg hG rfl) (by decide) rfl dX12_has_22 rfl ?_
  refine v_icmp_gt 44 dX12_has_23 (by decide) rfl (fun c23 => ?_) (fun c23 => ?_)
  · have h := o_p c23 h
    refine v_iconst (v := (0 : Int32)) (by decide) dX12_has_44 rfl ?_
    obtain ⟨rfl, rfl⟩ := o_s h
    exact v_iret rfl rfl (Nat.le_of_ble_eq_true rfl) (Nat.le_of_ble_eq_true rfl) dX12_has_45
  · have h := o_n c23 h
    refine v_aload_n 2 rfl dX12_has_26 rfl ?_
    refine v_mR (j := 42) (mg hG rfl) (by decide) rfl qf_RX12_115 dX12_has_27 rfl ?_
    refine v_bipush (v := (100 : Int32)) (by decide) dX12_has_30 rfl ?_
    refine v_iload_n 3 rfl dX12_has_32 rfl ?_
    refine v_imul dX12_has_33 rfl ?_
    refine v_iload 0 rfl dX12_has_34 rfl ?_
    refine v_iadd dX12_has_36 rfl ?_
    refine v_iconst (v := (1 : Int32)) (by decide) dX12_has_37 rfl ?_
    refine v_isub dX12_has_38 rfl ?_
    obtain ⟨v39, e39, h⟩ := o_b h
    refine v_mA e39 (mg hG rfl) (by decide) rfl dX12_has_39 rfl ?_
    refine v_iload_n 1 rfl dX12_has_40 rfl ?_
    refine v_icmp_eq 46 dX12_has_41 (by decide) rfl (fun c41 => ?_) (fun c41 => ?_)
    · have h := o_p c41 h
      refine v_iconst (v := (0 : Int32)) (by decide) dX12_has_46 rfl ?_
      refine v_istore [(5, .int (0 : Int32)), (4, .int v12), (3, .int v5), (0, .ref (gM G 200)), (1, .int a1), (2, .int a2)] dX12_has_47 rfl (by decide) rfl ?_
      refine v_sub [3, 4, 5, 2, 0] rfl ?_
      exact l_X12_has_49 hG _ h
    · have h := o_n c41 h
      refine v_iconst (v := (0 : Int32)) (by decide) dX12_has_44 rfl ?_
      obtain ⟨rfl, rfl⟩ := o_s h
      exact v_iret rfl rfl (Nat.le_of_ble_eq_true rfl) (Nat.le_of_ble_eq_true rfl) dX12_has_45
def rm_X12_broken : Room := { frames := 2, cells := 0, slots := 0, locals := 50 }
set_option maxRecDepth 100000 in
set_option maxHeartbeats 4000000 in
theorem l_X12_broken_170 {G : Gm} (hG : gF G = mFl) {σ : Hp} {o : Int64} {r : Int32} {μ' : Mu} {rec9 : Mu → Int32 → Int32 → Option (Int32 × Mu)} (h9 : ∀ {μ : Mu} {x1 : Int32} {x2 : Int32} , rec9 μ x1 x2 = some (r, μ') → V G yX12_broken cX12_broken 6 (some .int) rm_X12_broken (zI G r (σ, μ', o) 0 0) (σ, μ, o) 0 0 9 [(0, .ref (gM G 200)), (1, .int x1), (2, .int x2)] []) {μ : Mu} {x2 : Int32} {y0 : Int32} {y1 : Int32} (h : f_X12_broken_170 rec9 μ x2 y0 y1 = some (r, μ')) : V G yX12_broken cX12_broken 6 (some .int) rm_X12_broken (zI G r (σ, μ', o) 0 0) (σ, μ, o) 0 0 170 [(0, .ref (gM G 200)), (2, .int x2)] [.int y1, .int y0] := by
  unfold f_X12_broken_170 at h
  refine v_iadd dX12_broken_170 rfl ?_
  refine v_istore_n [(1, .int (y0 + y1)), (0, .ref (gM G 200)), (2, .int x2)] dX12_broken_171 rfl (by decide) rfl ?_
  refine v_iinc (v := (x2 + 1)) [(2, .int (x2 + 1)), (1, .int (y0 + y1)), (0, .ref (gM G 200))] 2 rfl rfl dX12_broken_172 rfl (by decide) rfl ?_
  refine v_goto (q := 9) dX12_broken_175 (by decide) ?_
  refine v_sub [2, 1, 0] rfl ?_
  exact h9 h
set_option maxRecDepth 100000 in
set_option maxHeartbeats 4000000 in
theorem l_X12_broken_160 {G : Gm} (hG : gF G = mFl) {σ : Hp} {o : Int64} {r : Int32} {μ' : Mu} {rec9 : Mu → Int32 → Int32 → Option (Int32 × Mu)} (h9 : ∀ {μ : Mu} {x1 : Int32} {x2 : Int32} , rec9 μ x1 x2 = some (r, μ') → V G yX12_broken cX12_broken 6 (some .int) rm_X12_broken (zI G r (σ, μ', o) 0 0) (σ, μ, o) 0 0 9 [(0, .ref (gM G 200)), (1, .int x1), (2, .int x2)] []) {μ : Mu} {x1 : Int32} {x2 : Int32} {x3 : Int32} (h : f_X12_broken_160 rec9 μ x1 x2 x3 = some (r, μ')) : V G yX12_broken cX12_broken 6 (some .int) rm_X12_broken (zI G r (σ, μ', o) 0 0) (σ, μ, o) 0 0 160 [(0, .ref (gM G 200)), (1, .int x1), (2, .int x2), (3, .int x3)] [] := by
  unfold f_X12_broken_160 at h
  refine v_iload_n 1 rfl dX12_broken_160 rfl ?_
  refine v_iload_n 3 rfl dX12_broken_161 rfl ?_
  refine v_if_eq 169 dX12_broken_162 (by decide) rfl (fun c162 => ?_) (fun c162 => ?_)
  · have h := o_p c162 h
    refine v_iconst (v := (1 : Int32)) (by decide) dX12_broken_169 rfl ?_
    refine v_sub [0, 2] rfl ?_
    exact l_X12_broken_170 hG h9 h
  · have h := o_n c162 h
    refine v_iconst (v := (0 : Int32)) (by decide) dX12_broken_165 rfl ?_
    refine v_goto (q := 170) dX12_broken_166 (by decide) ?_
    refine v_sub [0, 2] rfl ?_
    exact l_X12_broken_170 hG h9 h
set_option maxRecDepth 100000 in
set_option maxHeartbeats 4000000 in
theorem l_X12_broken_154 {G : Gm} (hG : gF G = mFl) {σ : Hp} {o : Int64} {r : Int32} {μ' : Mu} {rec9 : Mu → Int32 → Int32 → Option (Int32 × Mu)} {rec29 : Mu → Int32 → Int32 → Int32 → Int32 → Option (Int32 × Mu)} (h9 : ∀ {μ : Mu} {x1 : Int32} {x2 : Int32} , rec9 μ x1 x2 = some (r, μ') → V G yX12_broken cX12_broken 6 (some .int) rm_X12_broken (zI G r (σ, μ', o) 0 0) (σ, μ, o) 0 0 9 [(0, .ref (gM G 200)), (1, .int x1), (2, .int x2)] []) (h29 : ∀ {μ : Mu} {x1 : Int32} {x2 : Int32} {x3 : Int32} {x4 : Int32} , rec29 μ x1 x2 x3 x4 = some (r, μ') → V G yX12_broken cX12_broken 6 (some .int) rm_X12_broken (zI G r (σ, μ', o) 0 0) (σ, μ, o) 0 0 29 [(0, .ref (gM G 200)), (1, .int x1), (2, .int x2), (3, .int x3), (4, .int x4)] []) {μ : Mu} {x1 : Int32} {x2 : Int32} {x3 : Int32} {x4 : Int32} (h : f_X12_broken_154 rec9 rec29 μ x1 x2 x3 x4 = some (r, μ')) : V G yX12_broken cX12_broken 6 (some .int) rm_X12_broken (zI G r (σ, μ', o) 0 0) (σ, μ, o) 0 0 154 [(0, .ref (gM G 200)), (1, .int x1), (2, .int x2), (3, .int x3), (4, .int x4)] [] := by
  unfold f_X12_broken_154 at h
  refine v_iinc (v := (x4 + 1)) [(4, .int (x4 + 1)), (0, .ref (gM G 200)), (1, .int x1), (2, .int x2), (3, .int x3)] 4 rfl rfl dX12_broken_154 rfl (by decide) rfl ?_
  refine v_goto (q := 29) dX12_broken_157 (by decide) ?_
  refine v_sub [1, 2, 3, 4, 0] rfl ?_
  exact h29 h
set_option maxRecDepth 100000 in
set_option maxHeartbeats 4000000 in
theorem l_X12_broken_153 {G : Gm} (hG : gF G = mFl) {σ : Hp} {o : Int64} {r : Int32} {μ' : Mu} {rec9 : Mu → Int32 → Int32 → Option (Int32 × Mu)} {rec29 : Mu → Int32 → Int32 → Int32 → Int32 → Option (Int32 × Mu)} (h9 : ∀ {μ : Mu} {x1 : Int32} {x2 : Int32} , rec9 μ x1 x2 = some (r, μ') → V G yX12_broken cX12_broken 6 (some .int) rm_X12_broken (zI G r (σ, μ', o) 0 0) (σ, μ, o) 0 0 9 [(0, .ref (gM G 200)), (1, .int x1), (2, .int x2)] []) (h29 : ∀ {μ : Mu} {x1 : Int32} {x2 : Int32} {x3 : Int32} {x4 : Int32} , rec29 μ x1 x2 x3 x4 = some (r, μ') → V G yX12_broken cX12_broken 6 (some .int) rm_X12_broken (zI G r (σ, μ', o) 0 0) (σ, μ, o) 0 0 29 [(0, .ref (gM G 200)), (1, .int x1), (2, .int x2), (3, .int x3), (4, .int x4)] []) {μ : Mu} {x1 : Int32} {x2 : Int32} {x4 : Int32} {y0 : Int32} (h : f_X12_broken_153 rec9 rec29 μ x1 x2 x4 y0 = some (r, μ')) : V G yX12_broken cX12_broken 6 (some .int) rm_X12_broken (zI G r (σ, μ', o) 0 0) (σ, μ, o) 0 0 153 [(0, .ref (gM G 200)), (1, .int x1), (2, .int x2), (4, .int x4)] [.int y0] := by
  unfold f_X12_broken_153 at h
  refine v_istore_n [(3, .int y0), (0, .ref (gM G 200)), (1, .int x1), (2, .int x2), (4, .int x4)] dX12_broken_153 rfl (by decide) rfl ?_
  refine v_sub [1, 2, 3, 0, 4] rfl ?_
  exact l_X12_broken_154 hG h9 h29 h
set_option maxRecDepth 100000 in
set_option maxHeartbeats 4000000 in
theorem l_X12_broken_152 {G : Gm} (hG : gF G = mFl) {σ : Hp} {o : Int64} {r : Int32} {μ' : Mu} {rec9 : Mu → Int32 → Int32 → Option (Int32 × Mu)} {rec29 : Mu → Int32 → Int32 → Int32 → Int32 → Option (Int32 × Mu)} (h9 : ∀ {μ : Mu} {x1 : Int32} {x2 : Int32} , rec9 μ x1 x2 = some (r, μ') → V G yX12_broken cX12_broken 6 (some .int) rm_X12_broken (zI G r (σ, μ', o) 0 0) (σ, μ, o) 0 0 9 [(0, .ref (gM G 200)), (1, .int x1), (2, .int x2)] []) (h29 : ∀ {μ : Mu} {x1 : Int32} {x2 : Int32} {x3 : Int32} {x4 : Int32} , rec29 μ x1 x2 x3 x4 = some (r, μ') → V G yX12_broken cX12_broken 6 (some .int) rm_X12_broken (zI G r (σ, μ', o) 0 0) (σ, μ, o) 0 0 29 [(0, .ref (gM G 200)), (1, .int x1), (2, .int x2), (3, .int x3), (4, .int x4)] []) {μ : Mu} {x1 : Int32} {x2 : Int32} {x4 : Int32} (h : f_X12_broken_152 rec9 rec29 μ x1 x2 x4 = some (r, μ')) : V G yX12_broken cX12_broken 6 (some .int) rm_X12_broken (zI G r (σ, μ', o) 0 0) (σ, μ, o) 0 0 152 [(0, .ref (gM G 200)), (1, .int x1), (2, .int x2), (4, .int x4)] [] := by
  unfold f_X12_broken_152 at h
  refine v_iconst (v := (0 : Int32)) (by decide) dX12_broken_152 rfl ?_
  exact l_X12_broken_153 hG h9 h29 h
set_option maxRecDepth 100000 in
set_option maxHeartbeats 4000000 in
theorem l_X12_broken_134 {G : Gm} (hG : gF G = mFl) {σ : Hp} {o : Int64} {r : Int32} {μ' : Mu} {rec9 : Mu → Int32 → Int32 → Option (Int32 × Mu)} {rec29 : Mu → Int32 → Int32 → Int32 → Int32 → Option (Int32 × Mu)} (h9 : ∀ {μ : Mu} {x1 : Int32} {x2 : Int32} , rec9 μ x1 x2 = some (r, μ') → V G yX12_broken cX12_broken 6 (some .int) rm_X12_broken (zI G r (σ, μ', o) 0 0) (σ, μ, o) 0 0 9 [(0, .ref (gM G 200)), (1, .int x1), (2, .int x2)] []) (h29 : ∀ {μ : Mu} {x1 : Int32} {x2 : Int32} {x3 : Int32} {x4 : Int32} , rec29 μ x1 x2 x3 x4 = some (r, μ') → V G yX12_broken cX12_broken 6 (some .int) rm_X12_broken (zI G r (σ, μ', o) 0 0) (σ, μ, o) 0 0 29 [(0, .ref (gM G 200)), (1, .int x1), (2, .int x2), (3, .int x3), (4, .int x4)] []) {μ : Mu} {x1 : Int32} {x2 : Int32} {x3 : Int32} {x4 : Int32} (h : f_X12_broken_134 rec9 rec29 μ x1 x2 x3 x4 = some (r, μ')) : V G yX12_broken cX12_broken 6 (some .int) rm_X12_broken (zI G r (σ, μ', o) 0 0) (σ, μ, o) 0 0 134 [(0, .ref (gM G 200)), (1, .int x1), (2, .int x2), (3, .int x3), (4, .int x4)] [] := by
  unfold f_X12_broken_134 at h
  refine v_iload_n 3 rfl dX12_broken_134 rfl ?_
  refine v_if_eq 152 dX12_broken_135 (by decide) rfl (fun c135 => ?_) (fun c135 => ?_)
  · have h := o_p c135 h
    refine v_sub [0, 1, 2, 4] rfl ?_
    exact l_X12_broken_152 hG h9 h29 h
  · have h := o_n c135 h
    refine v_aload_n 0 rfl dX12_broken_138 rfl ?_
    refine v_iload 4 rfl dX12_broken_139 rfl ?_
    refine v_iload_n 2 rfl dX12_broken_141 rfl ?_
    obtain ⟨v142, e142, h⟩ := o_b h
    refine v_Vi (as := [.int x4, .int x2]) (st := []) (c' := 0) (k' := 0) (k_X12_has hG e142) (rcv_m (mg hG rfl)) mk_X12_has qi_X12_has qe_X12_has qm_RX12_395 (ck rfl) rfl dX12_broken_142 rfl rfl rfl ?_
    refine v_if_eq 152 dX12_broken_145 (by decide) rfl (fun c145 => ?_) (fun c145 => ?_)
    · have h := o_p c145 h
      refine v_sub [0, 1, 2, 4] rfl ?_
      exact l_X12_broken_152 hG h9 h29 h
    · have h := o_n c145 h
      refine v_iconst (v := (1 : Int32)) (by decide) dX12_broken_148 rfl ?_
      refine v_goto (q := 153) dX12_broken_149 (by decide) ?_
      refine v_sub [0, 1, 2, 4] rfl ?_
      exact l_X12_broken_153 hG h9 h29 h
set_option maxRecDepth 100000 in
set_option maxHeartbeats 4000000 in
theorem l_X12_broken_75 {G : Gm} (hG : gF G = mFl) {σ : Hp} {o : Int64} {r : Int32} {μ' : Mu} {rec9 : Mu → Int32 → Int32 → Option (Int32 × Mu)} {rec29 : Mu → Int32 → Int32 → Int32 → Int32 → Option (Int32 × Mu)} (h9 : ∀ {μ : Mu} {x1 : Int32} {x2 : Int32} , rec9 μ x1 x2 = some (r, μ') → V G yX12_broken cX12_broken 6 (some .int) rm_X12_broken (zI G r (σ, μ', o) 0 0) (σ, μ, o) 0 0 9 [(0, .ref (gM G 200)), (1, .int x1), (2, .int x2)] []) (h29 : ∀ {μ : Mu} {x1 : Int32} {x2 : Int32} {x3 : Int32} {x4 : Int32} , rec29 μ x1 x2 x3 x4 = some (r, μ') → V G yX12_broken cX12_broken 6 (some .int) rm_X12_broken (zI G r (σ, μ', o) 0 0) (σ, μ, o) 0 0 29 [(0, .ref (gM G 200)), (1, .int x1), (2, .int x2), (3, .int x3), (4, .int x4)] []) {μ : Mu} {x1 : Int32} {x2 : Int32} {x3 : Int32} {x4 : Int32} {y0 : Int32} (h : f_X12_broken_75 rec9 rec29 μ x1 x2 x3 x4 y0 = some (r, μ')) : V G yX12_broken cX12_broken 6 (some .int) rm_X12_broken (zI G r (σ, μ', o) 0 0) (σ, μ, o) 0 0 75 [(0, .ref (gM G 200)), (1, .int x1), (2, .int x2), (3, .int x3), (4, .int x4)] [.int y0] := by
  unfold f_X12_broken_75 at h
  refine v_istore [(5, .int y0), (0, .ref (gM G 200)), (1, .int x1), (2, .int x2), (3, .int x3), (4, .int x4)] dX12_broken_75 rfl (by decide) rfl ?_
  refine v_aload_n 1 rfl dX12_broken_77 rfl ?_
  refine v_iload 5 rfl dX12_broken_78 rfl ?_
  obtain ⟨v80, e80, h⟩ := o_b h
  refine v_Vi (as := [.int x4]) (st := []) (c' := 0) (k' := 0) (k_X12_leads hG e80) (rcv_m (mg hG rfl)) mk_X12_leads qi_X12_leads qe_X12_leads qm_RX12_248 (ck rfl) rfl dX12_broken_80 rfl rfl rfl ?_
  refine v_if_eq 154 dX12_broken_83 (by decide) rfl (fun c83 => ?_) (fun c83 => ?_)
  · have h := o_p c83 h
    refine v_sub [1, 2, 3, 4, 5] rfl ?_
    exact l_X12_broken_154 hG h9 h29 h
  · have h := o_n c83 h
    refine v_aload_n 1 rfl dX12_broken_86 rfl ?_
    refine v_mR (j := 35) (mg hG rfl) (by decide) rfl qf_RX12_94 dX12_broken_87 rfl ?_
    refine v_iload 5 rfl dX12_broken_90 rfl ?_
    obtain ⟨v92, e92, h⟩ := o_b h
    refine v_mA e92 (mg hG rfl) (by decide) rfl dX12_broken_92 rfl ?_
    refine v_iconst (v := (2 : Int32)) (by decide) dX12_broken_93 rfl ?_
    refine v_icmp_eq 154 dX12_broken_94 (by decide) rfl (fun c94 => ?_) (fun c94 => ?_)
    · have h := o_p c94 h
      refine v_sub [1, 2, 3, 4, 5] rfl ?_
      exact l_X12_broken_154 hG h9 h29 h
    · have h := o_n c94 h
      refine v_iload 0 rfl dX12_broken_97 rfl ?_
      refine v_if_ne 134 dX12_broken_99 (by decide) rfl (fun c99 => ?_) (fun c99 => ?_)
      · have h := o_n c99 h
        refine v_sub [1, 2, 3, 4, 5] rfl ?_
        exact l_X12_broken_134 hG h9 h29 h
      · have h := o_p c99 h
        refine v_aload_n 1 rfl dX12_broken_102 rfl ?_
        refine v_mR (j := 72) (mg hG rfl) (by decide) rfl qf_RX12_202 dX12_broken_103 rfl ?_
        refine v_iload_n 3 rfl dX12_broken_106 rfl ?_
        obtain ⟨v107, e107, h⟩ := o_b h
        refine v_mA e107 (mg hG rfl) (by decide) rfl dX12_broken_107 rfl ?_
        refine v_aload_n 1 rfl dX12_broken_108 rfl ?_
        refine v_mR (j := 73) (mg hG rfl) (by decide) rfl qf_RX12_205 dX12_broken_109 rfl ?_
        refine v_iload_n 3 rfl dX12_broken_112 rfl ?_
        obtain ⟨v113, e113, h⟩ := o_b h
        refine v_mA e113 (mg hG rfl) (by decide) rfl dX12_broken_113 rfl ?_
        refine v_aload_n 1 rfl dX12_broken_114 rfl ?_
        refine v_mR (j := 33) (mg hG rfl) (by decide) rfl qf_RX12_88 dX12_broken_115 rfl ?_
        refine v_iload 5 rfl dX12_broken_118 rfl ?_
        obtain ⟨v120, e120, h⟩ := o_b h
        refine v_mA e120 (mg hG rfl) (by decide) rfl dX12_broken_120 rfl ?_
        refine v_aload_n 1 rfl dX12_broken_121 rfl ?_
        refine v_mR (j := 34) (mg hG rfl) (by decide) rfl qf_RX12_91 dX12_broken_122 rfl ?_
        refine v_iload 5 rfl dX12_broken_125 rfl ?_
        obtain ⟨v127, e127, h⟩ := o_b h
        refine v_mA e127 (mg hG rfl) (by decide) rfl dX12_broken_127 rfl ?_
        obtain ⟨v128, e128, h⟩ := o_b h
        refine v_Si (as := [.int v107, .int v113, .int v120, .int v127]) (st := []) (c' := 0) (k' := 0) (k_X12_isBehind e128) mk_X12_isBehind qs_X12_isBehind qm_RX12_321 (ck rfl) rfl dX12_broken_128 rfl rfl rfl ?_
        refine v_if_eq 154 dX12_broken_131 (by decide) rfl (fun c131 => ?_) (fun c131 => ?_)
        · have h := o_p c131 h
          refine v_sub [1, 2, 3, 4, 5] rfl ?_
          exact l_X12_broken_154 hG h9 h29 h
        · have h := o_n c131 h
          refine v_sub [1, 2, 3, 4, 5] rfl ?_
          exact l_X12_broken_134 hG h9 h29 h
set_option maxRecDepth 100000 in
set_option maxHeartbeats 4000000 in
theorem l_X12_broken_74 {G : Gm} (hG : gF G = mFl) {σ : Hp} {o : Int64} {r : Int32} {μ' : Mu} {rec9 : Mu → Int32 → Int32 → Option (Int32 × Mu)} {rec29 : Mu → Int32 → Int32 → Int32 → Int32 → Option (Int32 × Mu)} (h9 : ∀ {μ : Mu} {x1 : Int32} {x2 : Int32} , rec9 μ x1 x2 = some (r, μ') → V G yX12_broken cX12_broken 6 (some .int) rm_X12_broken (zI G r (σ, μ', o) 0 0) (σ, μ, o) 0 0 9 [(0, .ref (gM G 200)), (1, .int x1), (2, .int x2)] []) (h29 : ∀ {μ : Mu} {x1 : Int32} {x2 : Int32} {x3 : Int32} {x4 : Int32} , rec29 μ x1 x2 x3 x4 = some (r, μ') → V G yX12_broken cX12_broken 6 (some .int) rm_X12_broken (zI G r (σ, μ', o) 0 0) (σ, μ, o) 0 0 29 [(0, .ref (gM G 200)), (1, .int x1), (2, .int x2), (3, .int x3), (4, .int x4)] []) {μ : Mu} {x1 : Int32} {x2 : Int32} {x3 : Int32} {x4 : Int32} (h : f_X12_broken_74 rec9 rec29 μ x1 x2 x3 x4 = some (r, μ')) : V G yX12_broken cX12_broken 6 (some .int) rm_X12_broken (zI G r (σ, μ', o) 0 0) (σ, μ, o) 0 0 74 [(0, .ref (gM G 200)), (1, .int x1), (2, .int x2), (3, .int x3), (4, .int x4)] [] := by
  unfold f_X12_broken_74 at h
  refine v_iconst (v := (0 : Int32)) (by decide) dX12_broken_74 rfl ?_
  exact l_X12_broken_75 hG h9 h29 h
set_option maxRecDepth 100000 in
set_option maxHeartbeats 4000000 in
theorem l_X12_broken_29 {G : Gm} (hG : gF G = mFl) {σ : Hp} {o : Int64} {r : Int32} {μ' : Mu} {rec9 : Mu → Int32 → Int32 → Option (Int32 × Mu)} (h9 : ∀ {μ : Mu} {x1 : Int32} {x2 : Int32} , rec9 μ x1 x2 = some (r, μ') → V G yX12_broken cX12_broken 6 (some .int) rm_X12_broken (zI G r (σ, μ', o) 0 0) (σ, μ, o) 0 0 9 [(0, .ref (gM G 200)), (1, .int x1), (2, .int x2)] []) : ∀ (n : Nat) {μ : Mu} {x1 : Int32} {x2 : Int32} {x3 : Int32} {x4 : Int32} , f_X12_broken_29 rec9 n μ x1 x2 x3 x4 = some (r, μ') → V G yX12_broken cX12_broken 6 (some .int) rm_X12_broken (zI G r (σ, μ', o) 0 0) (σ, μ, o) 0 0 29 [(0, .ref (gM G 200)), (1, .int x1), (2, .int x2), (3, .int x3), (4, .int x4)] [] := by
  intro n
  induction n with
  | zero => intro _ _ _ _ _ h; cases h
  | succ n ih =>
    intro μ x1 x2 x3 x4 h
    replace h : b_X12_broken_29 rec9 (f_X12_broken_29 rec9 n) μ x1 x2 x3 x4 = some (r, μ') := h
    unfold b_X12_broken_29 at h
    refine v_iload 4 rfl dX12_broken_29 rfl ?_
    refine v_aload_n 0 rfl dX12_broken_31 rfl ?_
    refine v_mI (j := 1) (mg hG rfl) (by decide) rfl qf_RX12_223 dX12_broken_32 rfl ?_
    refine v_icmp_ge 160 dX12_broken_35 (by decide) rfl (fun c35 => ?_) (fun c35 => ?_)
    · have h := o_p c35 h
      refine v_sub [0, 1, 2, 3] rfl ?_
      exact l_X12_broken_160 hG h9 h
    · have h := o_n c35 h
      refine v_aload_n 0 rfl dX12_broken_38 rfl ?_
      refine v_mR (j := 72) (mg hG rfl) (by decide) rfl qf_RX12_202 dX12_broken_39 rfl ?_
      refine v_iload_n 2 rfl dX12_broken_42 rfl ?_
      obtain ⟨v43, e43, h⟩ := o_b h
      refine v_mA e43 (mg hG rfl) (by decide) rfl dX12_broken_43 rfl ?_
      refine v_aload_n 0 rfl dX12_broken_44 rfl ?_
      refine v_mR (j := 33) (mg hG rfl) (by decide) rfl qf_RX12_88 dX12_broken_45 rfl ?_
      refine v_iload 4 rfl dX12_broken_48 rfl ?_
      obtain ⟨v50, e50, h⟩ := o_b h
      refine v_mA e50 (mg hG rfl) (by decide) rfl dX12_broken_50 rfl ?_
      refine v_icmp_ne 74 dX12_broken_51 (by decide) rfl (fun c51 => ?_) (fun c51 => ?_)
      · have h := o_n c51 h
        exact l_X12_broken_74 hG h9 (fun h => ih h) h
      · have h := o_p c51 h
        refine v_aload_n 0 rfl dX12_broken_54 rfl ?_
        refine v_mR (j := 73) (mg hG rfl) (by decide) rfl qf_RX12_205 dX12_broken_55 rfl ?_
        refine v_iload_n 2 rfl dX12_broken_58 rfl ?_
        obtain ⟨v59, e59, h⟩ := o_b h
        refine v_mA e59 (mg hG rfl) (by decide) rfl dX12_broken_59 rfl ?_
        refine v_aload_n 0 rfl dX12_broken_60 rfl ?_
        refine v_mR (j := 34) (mg hG rfl) (by decide) rfl qf_RX12_91 dX12_broken_61 rfl ?_
        refine v_iload 4 rfl dX12_broken_64 rfl ?_
        obtain ⟨v66, e66, h⟩ := o_b h
        refine v_mA e66 (mg hG rfl) (by decide) rfl dX12_broken_66 rfl ?_
        refine v_icmp_ne 74 dX12_broken_67 (by decide) rfl (fun c67 => ?_) (fun c67 => ?_)
        · have h := o_n c67 h
          exact l_X12_broken_74 hG h9 (fun h => ih h) h
        · have h := o_p c67 h
          refine v_iconst (v := (1 : Int32)) (by decide) dX12_broken_70 rfl ?_
          refine v_goto (q := 75) dX12_broken_71 (by decide) ?_
          exact l_X12_broken_75 hG h9 (fun h => ih h) h
set_option maxRecDepth 100000 in
set_option maxHeartbeats 4000000 in
theorem l_X12_broken_9 {G : Gm} (hG : gF G = mFl) {σ : Hp} {o : Int64} {r : Int32} {μ' : Mu} : ∀ (n : Nat) {μ : Mu} {x1 : Int32} {x2 : Int32} , f_X12_broken_9 n μ x1 x2 = some (r, μ') → V G yX12_broken cX12_broken 6 (some .int) rm_X12_broken (zI G r (σ, μ', o) 0 0) (σ, μ, o) 0 0 9 [(0, .ref (gM G 200)), (1, .int x1), (2, .int x2)] [] := by
  intro n
  induction n with
  | zero => intro _ _ _ h; cases h
  | succ n ih =>
    intro μ x1 x2 h
    replace h : b_X12_broken_9 (f_X12_broken_9 n) μ x1 x2 = some (r, μ') := h
    unfold b_X12_broken_9 at h
    refine v_iload_n 2 rfl dX12_broken_9 rfl ?_
    refine v_sipush (v := (200 : Int32)) (by decide) dX12_broken_10 rfl ?_
    refine v_icmp_ge 178 dX12_broken_13 (by decide) rfl (fun c13 => ?_) (fun c13 => ?_)
    · have h := o_p c13 h
      refine v_iload_n 1 rfl dX12_broken_178 rfl ?_
      obtain ⟨rfl, rfl⟩ := o_s h
      exact v_iret rfl rfl (Nat.le_of_ble_eq_true rfl) (Nat.le_of_ble_eq_true rfl) dX12_broken_179
    · have h := o_n c13 h
      refine v_iload_n 2 rfl dX12_broken_16 rfl ?_
      refine v_aload_n 0 rfl dX12_broken_17 rfl ?_
      refine v_mI (j := 70) (mg hG rfl) (by decide) rfl qf_RX12_334 dX12_broken_18 rfl ?_
      refine v_icmp_ge 178 dX12_broken_21 (by decide) rfl (fun c21 => ?_) (fun c21 => ?_)
      · have h := o_p c21 h
        refine v_iload_n 1 rfl dX12_broken_178 rfl ?_
        obtain ⟨rfl, rfl⟩ := o_s h
        exact v_iret rfl rfl (Nat.le_of_ble_eq_true rfl) (Nat.le_of_ble_eq_true rfl) dX12_broken_179
      · have h := o_n c21 h
        refine v_iconst (v := (1 : Int32)) (by decide) dX12_broken_24 rfl ?_
        refine v_istore_n [(3, .int (1 : Int32)), (0, .ref (gM G 200)), (1, .int x1), (2, .int x2)] dX12_broken_25 rfl (by decide) rfl ?_
        refine v_iconst (v := (0 : Int32)) (by decide) dX12_broken_26 rfl ?_
        refine v_istore [(4, .int (0 : Int32)), (3, .int (1 : Int32)), (0, .ref (gM G 200)), (1, .int x1), (2, .int x2)] dX12_broken_27 rfl (by decide) rfl ?_
        refine v_sub [2, 3, 4, 1, 0] rfl ?_
        exact l_X12_broken_29 hG (fun h => ih h) _ h
set_option maxRecDepth 100000 in
set_option maxHeartbeats 4000000 in
theorem k_X12_broken {G : Gm} (hG : gF G = mFl) {σ : Hp} {o : Int64} {r : Int32} {μ' : Mu} {μ : Mu} (h : f_X12_broken μ  = some (r, μ')) : Ci G yX12_broken cX12_broken 6 (some .int) rm_X12_broken [.ref (gM G 200)] (σ, μ, o) r (σ, μ', o) 0 0 := by
  refine v_entI [(0, .ref (gM G 200))] (by decide +kernel) (Nat.le_of_ble_eq_true rfl) rfl ?_
  unfold f_X12_broken at h
  refine v_aload_n 0 rfl dX12_broken_0 rfl ?_
  refine v_iconst (v := (0 : Int32)) (by decide) dX12_broken_1 rfl ?_
  obtain ⟨s2, e2, h⟩ := o_b h
  refine v_mP e2 (mg hG rfl) (by decide) rfl rfl rfl rfl rfl qf_RX12_229 dX12_broken_2 rfl ?_
  refine v_iconst (v := (0 : Int32)) (by decide) dX12_broken_5 rfl ?_
  refine v_istore_n [(1, .int (0 : Int32)), (0, .ref (gM G 200))] dX12_broken_6 rfl (by decide) rfl ?_
  refine v_iconst (v := (0 : Int32)) (by decide) dX12_broken_7 rfl ?_
  refine v_istore_n [(2, .int (0 : Int32)), (1, .int (0 : Int32)), (0, .ref (gM G 200))] dX12_broken_8 rfl (by decide) rfl ?_
  refine v_sub [2, 1, 0] rfl ?_
  exact l_X12_broken_9 hG _ h
