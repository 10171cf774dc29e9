theorem mw_L_request : MOW yL_request cL_request 7 (some .int) [(0, 14, 17, 13), (0, 14, 21, 15), (0, 14, 25, 17)] 6 := ⟨qw_L_request, qz_law, qs_L_request, by decide +kernel, by decide +kernel, by decide +kernel⟩
def rm_L_request : Room := { frames := 7, cells := 1, slots := 6, locals := 116 }
set_option maxRecDepth 100000 in
set_option maxHeartbeats 4000000 in
theorem k_L_request {G : Gm} (hG : gF G = mFl) {μ : Mu} {o o' : Int64} {σ σ' : Hp} {r : Int32} {a0 : Nat} {a1 a2 a3 a4 : Int32} (h : f_L_request σ o a0 a1 a2 a3 a4 = some (r, σ', o')) : Cw G yL_request cL_request 7 (some .int) [(0, 14, 17, 13), (0, 14, 21, 15), (0, 14, 25, 17)] rm_L_request [.ref a0, .int a1, .int a2, .int a3, .int a4, .ref (gM G 201)] (σ, μ, o) r σ' μ o' 1 6 := by
  refine w_ent [(0, .ref a0), (1, .int a1), (2, .int a2), (3, .int a3), (4, .int a4), (5, .ref (gM G 201))] (by decide +kernel) (Nat.le_of_ble_eq_true rfl) rfl ?_
  unfold f_L_request at h
  obtain ⟨⟨⟩, g0, h⟩ := o_b h
  obtain ⟨x, ex, h⟩ := o_b h
  refine v_aload 5 rfl dL_request_0 rfl ?_
  refine v_iconst (v := (0 : Int32)) (by decide) dL_request_2 rfl ?_
  refine v_aload_n 0 rfl dL_request_3 rfl ?_
  refine v_iload_n 1 rfl dL_request_4 rfl ?_
  refine v_iload_n 2 rfl dL_request_5 rfl ?_
  refine v_iload_n 3 rfl dL_request_6 rfl ?_
  refine v_iload 4 rfl dL_request_7 rfl ?_
  refine x_Vi (as := [.int a1, .int a2, .int a3, .int a4]) (st := [.int (0 : Int32), .ref (gM G 201)]) (c' := 1) (k' := 6) (k_X11_request ex) (rcv_c g0 (by decide) rfl) mk_X11_request qi_X11_request qe_X11_request qm_RL_7 (ck rfl) rfl dL_request_9 rfl rfl rfl (fun c0 => ?_) (fun n9 E c1 hn hE => ?_)
  · have h := o_p c0 h
    have h2 := Option.some.inj h
    refine v_i2l dL_request_12 rfl ?_
    refine v_last (mg hG rfl) dL_request_13 rfl ?_
    refine v_goto (q := 29) dL_request_14 (by decide) ?_
    refine v_iconst (v := (0 : Int32)) (by decide) dL_request_29 rfl ?_
    cases h2
    exact w_ret (n' := oN x.2.2) rfl (Nat.le_refl _) (Nat.le_of_ble_eq_true rfl) (Nat.le_of_ble_eq_true rfl) dL_request_30
  · replace h := o_n (show ¬ x.1 = 0 by omega) h
    by_cases d1 : x.1 = 1
    · have h := o_p d1 h
      rw [d1] at hE
      have hE2 : "java/lang/IndexOutOfBoundsException" = E := Option.some.inj hE
      subst hE2
      refine x_catch qw_L_request 17 [] [⟨0, 14, 21, 15⟩, ⟨0, 14, 25, 17⟩] ⟨0, 14, 17, 13⟩ rfl (fun z hz => nomatch hz) (by decide +kernel) (by decide) qc_RL_13 (by decide +kernel) rfl (fun q9 => ?_)
      refine v_astore [(6, .ref q9), (0, .ref a0), (1, .int a1), (2, .int a2), (3, .int a3), (4, .int a4), (5, .ref (gM G 201))] dL_request_17 rfl (by decide) rfl ?_
      refine v_iconst (v := (1 : Int32)) (by decide) dL_request_19 rfl ?_
      cases Option.some.inj h
      exact w_ret rfl hn (Nat.le_of_ble_eq_true rfl) (Nat.le_of_ble_eq_true rfl) dL_request_20
    replace h := o_n d1 h
    by_cases d2 : x.1 = 2
    · have h := o_p d2 h
      rw [d2] at hE
      have hE2 : "java/lang/IllegalArgumentException" = E := Option.some.inj hE
      subst hE2
      refine x_catch qw_L_request 21 [⟨0, 14, 17, 13⟩] [⟨0, 14, 25, 17⟩] ⟨0, 14, 21, 15⟩ rfl (fun z hz => by
        rcases List.mem_cons.mp hz with rfl | hz
        · exact ⟨by decide, "java/lang/IndexOutOfBoundsException", qc_RL_13, by decide +kernel⟩
        cases hz) (by decide +kernel) (by decide) qc_RL_15 (by decide +kernel) rfl (fun q9 => ?_)
      refine v_astore [(6, .ref q9), (0, .ref a0), (1, .int a1), (2, .int a2), (3, .int a3), (4, .int a4), (5, .ref (gM G 201))] dL_request_21 rfl (by decide) rfl ?_
      refine v_iconst (v := (2 : Int32)) (by decide) dL_request_23 rfl ?_
      cases Option.some.inj h
      exact w_ret rfl hn (Nat.le_of_ble_eq_true rfl) (Nat.le_of_ble_eq_true rfl) dL_request_24
    replace h := o_n d2 h
    by_cases d3 : x.1 = 3
    · have h := o_p d3 h
      rw [d3] at hE
      have hE2 : "java/lang/IllegalStateException" = E := Option.some.inj hE
      subst hE2
      refine x_catch qw_L_request 25 [⟨0, 14, 17, 13⟩, ⟨0, 14, 21, 15⟩] [] ⟨0, 14, 25, 17⟩ rfl (fun z hz => by
        rcases List.mem_cons.mp hz with rfl | hz
        · exact ⟨by decide, "java/lang/IndexOutOfBoundsException", qc_RL_13, by decide +kernel⟩
        rcases List.mem_cons.mp hz with rfl | hz
        · exact ⟨by decide, "java/lang/IllegalArgumentException", qc_RL_15, by decide +kernel⟩
        cases hz) (by decide +kernel) (by decide) qc_RL_17 (by decide +kernel) rfl (fun q9 => ?_)
      refine v_astore [(6, .ref q9), (0, .ref a0), (1, .int a1), (2, .int a2), (3, .int a3), (4, .int a4), (5, .ref (gM G 201))] dL_request_25 rfl (by decide) rfl ?_
      refine v_iconst (v := (3 : Int32)) (by decide) dL_request_27 rfl ?_
      cases Option.some.inj h
      exact w_ret rfl hn (Nat.le_of_ble_eq_true rfl) (Nat.le_of_ble_eq_true rfl) dL_request_28
    replace h := o_n d3 h
    cases h
theorem mw_L_again : MOW yL_again cL_again 3 (some .int) [(0, 5, 8, 13), (0, 5, 11, 17)] 2 := ⟨qw_L_again, qz_law, qs_L_again, by decide +kernel, by decide +kernel, by decide +kernel⟩
def rm_L_again : Room := { frames := 7, cells := 1, slots := 6, locals := 111 }
set_option maxRecDepth 100000 in
set_option maxHeartbeats 4000000 in
theorem k_L_again {G : Gm} {μ : Mu} {o o' : Int64} {σ σ' : Hp} {r : Int32} {a0 : Nat} {a1 : Int32} (h : f_L_again σ o a0 a1 = some (r, σ', o')) : Cw G yL_again cL_again 3 (some .int) [(0, 5, 8, 13), (0, 5, 11, 17)] rm_L_again [.ref a0, .int a1] (σ, μ, o) r σ' μ o' 1 6 := by
  refine w_ent [(0, .ref a0), (1, .int a1)] (by decide +kernel) (Nat.le_of_ble_eq_true rfl) rfl ?_
  unfold f_L_again at h
  obtain ⟨⟨⟩, g0, h⟩ := o_b h
  obtain ⟨x, ex, h⟩ := o_b h
  refine v_aload_n 0 rfl dL_again_0 rfl ?_
  refine v_iload_n 1 rfl dL_again_1 rfl ?_
  refine x_Vv (as := [.int a1]) (st := []) (c' := 1) (k' := 6) (k_X11_again ex) (rcv_c g0 (by decide) rfl) mk_X11_again qi_X11_again qe_X11_again qm_RL_19 (ck rfl) rfl dL_again_2 rfl rfl rfl (fun c0 => ?_) (fun n9 E c1 hn hE => ?_)
  · have h := o_p c0 h
    have h2 := Option.some.inj h
    refine v_goto (q := 14) dL_again_5 (by decide) ?_
    refine v_iconst (v := (0 : Int32)) (by decide) dL_again_14 rfl ?_
    cases h2
    exact w_ret (n' := oN x.2.2) rfl (Nat.le_refl _) (Nat.le_of_ble_eq_true rfl) (Nat.le_of_ble_eq_true rfl) dL_again_15
  · replace h := o_n (show ¬ x.1 = 0 by omega) h
    by_cases d1 : x.1 = 1
    · have h := o_p d1 h
      rw [d1] at hE
      have hE2 : "java/lang/IndexOutOfBoundsException" = E := Option.some.inj hE
      subst hE2
      refine x_catch qw_L_again 8 [] [⟨0, 5, 11, 17⟩] ⟨0, 5, 8, 13⟩ rfl (fun z hz => nomatch hz) (by decide +kernel) (by decide) qc_RL_13 (by decide +kernel) rfl (fun q9 => ?_)
      refine v_astore_n [(2, .ref q9), (0, .ref a0), (1, .int a1)] dL_again_8 rfl (by decide) rfl ?_
      refine v_iconst (v := (1 : Int32)) (by decide) dL_again_9 rfl ?_
      cases Option.some.inj h
      exact w_ret rfl hn (Nat.le_of_ble_eq_true rfl) (Nat.le_of_ble_eq_true rfl) dL_again_10
    replace h := o_n d1 h
    by_cases d3 : x.1 = 3
    · have h := o_p d3 h
      rw [d3] at hE
      have hE2 : "java/lang/IllegalStateException" = E := Option.some.inj hE
      subst hE2
      refine x_catch qw_L_again 11 [⟨0, 5, 8, 13⟩] [] ⟨0, 5, 11, 17⟩ rfl (fun z hz => by
        rcases List.mem_cons.mp hz with rfl | hz
        · exact ⟨by decide, "java/lang/IndexOutOfBoundsException", qc_RL_13, by decide +kernel⟩
        cases hz) (by decide +kernel) (by decide) qc_RL_17 (by decide +kernel) rfl (fun q9 => ?_)
      refine v_astore_n [(2, .ref q9), (0, .ref a0), (1, .int a1)] dL_again_11 rfl (by decide) rfl ?_
      refine v_iconst (v := (2 : Int32)) (by decide) dL_again_12 rfl ?_
      cases Option.some.inj h
      exact w_ret rfl hn (Nat.le_of_ble_eq_true rfl) (Nat.le_of_ble_eq_true rfl) dL_again_13
    replace h := o_n d3 h
    cases h
theorem mw_L_deliver : MOW yL_deliver cL_deliver 3 (some .int) [(0, 5, 8, 15)] 2 := ⟨qw_L_deliver, qz_law, qs_L_deliver, by decide +kernel, by decide +kernel, by decide +kernel⟩
def rm_L_deliver : Room := { frames := 8, cells := 1, slots := 6, locals := 190 }
set_option maxRecDepth 100000 in
set_option maxHeartbeats 4000000 in
theorem k_L_deliver {G : Gm} {μ : Mu} {o o' : Int64} {σ σ' : Hp} {r : Int32} {a0 : Nat} {a1 : Int32} (h : f_L_deliver σ o a0 a1 = some (r, σ', o')) : Cw G yL_deliver cL_deliver 3 (some .int) [(0, 5, 8, 15)] rm_L_deliver [.ref a0, .int a1] (σ, μ, o) r σ' μ o' 1 6 := by
  refine w_ent [(0, .ref a0), (1, .int a1)] (by decide +kernel) (Nat.le_of_ble_eq_true rfl) rfl ?_
  unfold f_L_deliver at h
  obtain ⟨⟨⟩, g0, h⟩ := o_b h
  obtain ⟨x, ex, h⟩ := o_b h
  refine v_aload_n 0 rfl dL_deliver_0 rfl ?_
  refine v_iload_n 1 rfl dL_deliver_1 rfl ?_
  refine x_Vv (as := [.int a1]) (st := []) (c' := 1) (k' := 6) (k_X11_deliver ex) (rcv_c g0 (by decide) rfl) mk_X11_deliver qi_X11_deliver qe_X11_deliver qm_RL_23 (ck rfl) rfl dL_deliver_2 rfl rfl rfl (fun c0 => ?_) (fun n9 E c1 hn hE => ?_)
  · have h := o_p c0 h
    have h2 := Option.some.inj h
    refine v_goto (q := 11) dL_deliver_5 (by decide) ?_
    refine v_iconst (v := (0 : Int32)) (by decide) dL_deliver_11 rfl ?_
    cases h2
    exact w_ret (n' := oN x.2.2) rfl (Nat.le_refl _) (Nat.le_of_ble_eq_true rfl) (Nat.le_of_ble_eq_true rfl) dL_deliver_12
  · replace h := o_n (show ¬ x.1 = 0 by omega) h
    by_cases d2 : x.1 = 2
    · have h := o_p d2 h
      rw [d2] at hE
      have hE2 : "java/lang/IllegalArgumentException" = E := Option.some.inj hE
      subst hE2
      refine x_catch qw_L_deliver 8 [] [] ⟨0, 5, 8, 15⟩ rfl (fun z hz => nomatch hz) (by decide +kernel) (by decide) qc_RL_15 (by decide +kernel) rfl (fun q9 => ?_)
      refine v_astore_n [(2, .ref q9), (0, .ref a0), (1, .int a1)] dL_deliver_8 rfl (by decide) rfl ?_
      refine v_iconst (v := (1 : Int32)) (by decide) dL_deliver_9 rfl ?_
      cases Option.some.inj h
      exact w_ret rfl hn (Nat.le_of_ble_eq_true rfl) (Nat.le_of_ble_eq_true rfl) dL_deliver_10
    replace h := o_n d2 h
    cases h
theorem mw_L_lose : MOW yL_lose cL_lose 3 (some .int) [(0, 5, 8, 15)] 2 := ⟨qw_L_lose, qz_law, qs_L_lose, by decide +kernel, by decide +kernel, by decide +kernel⟩
def rm_L_lose : Room := { frames := 7, cells := 1, slots := 6, locals := 112 }
set_option maxRecDepth 100000 in
set_option maxHeartbeats 4000000 in
theorem k_L_lose {G : Gm} {μ : Mu} {o o' : Int64} {σ σ' : Hp} {r : Int32} {a0 : Nat} {a1 : Int32} (h : f_L_lose σ o a0 a1 = some (r, σ', o')) : Cw G yL_lose cL_lose 3 (some .int) [(0, 5, 8, 15)] rm_L_lose [.ref a0, .int a1] (σ, μ, o) r σ' μ o' 1 6 := by
  refine w_ent [(0, .ref a0), (1, .int a1)] (by decide +kernel) (Nat.le_of_ble_eq_true rfl) rfl ?_
  unfold f_L_lose at h
  obtain ⟨⟨⟩, g0, h⟩ := o_b h
  obtain ⟨x, ex, h⟩ := o_b h
  refine v_aload_n 0 rfl dL_lose_0 rfl ?_
  refine v_iload_n 1 rfl dL_lose_1 rfl ?_
  refine x_Vv (as := [.int a1]) (st := []) (c' := 1) (k' := 6) (k_X11_lose ex) (rcv_c g0 (by decide) rfl) mk_X11_lose qi_X11_lose qe_X11_lose qm_RL_26 (ck rfl) rfl dL_lose_2 rfl rfl rfl (fun c0 => ?_) (fun n9 E c1 hn hE => ?_)
  · have h := o_p c0 h
    have h2 := Option.some.inj h
    refine v_goto (q := 11) dL_lose_5 (by decide) ?_
    refine v_iconst (v := (0 : Int32)) (by decide) dL_lose_11 rfl ?_
    cases h2
    exact w_ret (n' := oN x.2.2) rfl (Nat.le_refl _) (Nat.le_of_ble_eq_true rfl) (Nat.le_of_ble_eq_true rfl) dL_lose_12
  · replace h := o_n (show ¬ x.1 = 0 by omega) h
    by_cases d2 : x.1 = 2
    · have h := o_p d2 h
      rw [d2] at hE
      have hE2 : "java/lang/IllegalArgumentException" = E := Option.some.inj hE
      subst hE2
      refine x_catch qw_L_lose 8 [] [] ⟨0, 5, 8, 15⟩ rfl (fun z hz => nomatch hz) (by decide +kernel) (by decide) qc_RL_15 (by decide +kernel) rfl (fun q9 => ?_)
      refine v_astore_n [(2, .ref q9), (0, .ref a0), (1, .int a1)] dL_lose_8 rfl (by decide) rfl ?_
      refine v_iconst (v := (1 : Int32)) (by decide) dL_lose_9 rfl ?_
      cases Option.some.inj h
      exact w_ret rfl hn (Nat.le_of_ble_eq_true rfl) (Nat.le_of_ble_eq_true rfl) dL_lose_10
    replace h := o_n d2 h
    cases h
theorem mw_L_flow : MOW yL_flow cL_flow 4 (some .int) [(0, 9, 12, 15)] 3 := ⟨qw_L_flow, qz_law, qs_L_flow, by decide +kernel, by decide +kernel, by decide +kernel⟩
def rm_L_flow : Room := { frames := 8, cells := 42, slots := 88, locals := 190 }
set_option maxRecDepth 100000 in
set_option maxHeartbeats 4000000 in
theorem k_L_flow {G : Gm} (hG : gF G = mFl) {μ : Mu} {o o' : Int64} {σ σ' : Hp} {r : Int32} {a0 : Nat} {a1 : Int32} (h : f_L_flow σ o a0 a1 = some (r, σ', o')) : Cw G yL_flow cL_flow 4 (some .int) [(0, 9, 12, 15)] rm_L_flow [.ref a0, .int a1, .ref (gM G 201)] (σ, μ, o) r σ' μ o' 42 88 := by
  refine w_ent [(0, .ref a0), (1, .int a1), (2, .ref (gM G 201))] (by decide +kernel) (Nat.le_of_ble_eq_true rfl) rfl ?_
  unfold f_L_flow at h
  obtain ⟨⟨⟩, g0, h⟩ := o_b h
  obtain ⟨x, ex, h⟩ := o_b h
  refine v_aload_n 2 rfl dL_flow_0 rfl ?_
  refine v_iconst (v := (0 : Int32)) (by decide) dL_flow_1 rfl ?_
  refine v_aload_n 0 rfl dL_flow_2 rfl ?_
  refine v_iload_n 1 rfl dL_flow_3 rfl ?_
  refine x_Vi (as := [.int a1]) (st := [.int (0 : Int32), .ref (gM G 201)]) (c' := 42) (k' := 88) (k_X11_flow ex) (rcv_c g0 (by decide) rfl) mk_X11_flow qi_X11_flow qe_X11_flow qm_RL_29 (ck rfl) rfl dL_flow_4 rfl rfl rfl (fun c0 => ?_) (fun n9 E c1 hn hE => ?_)
  · have h := o_p c0 h
    have h2 := Option.some.inj h
    refine v_i2l dL_flow_7 rfl ?_
    refine v_last (mg hG rfl) dL_flow_8 rfl ?_
    refine v_goto (q := 15) dL_flow_9 (by decide) ?_
    refine v_iconst (v := (0 : Int32)) (by decide) dL_flow_15 rfl ?_
    cases h2
    exact w_ret (n' := oN x.2.2) rfl (Nat.le_refl _) (Nat.le_of_ble_eq_true rfl) (Nat.le_of_ble_eq_true rfl) dL_flow_16
  · replace h := o_n (show ¬ x.1 = 0 by omega) h
    by_cases d2 : x.1 = 2
    · have h := o_p d2 h
      rw [d2] at hE
      have hE2 : "java/lang/IllegalArgumentException" = E := Option.some.inj hE
      subst hE2
      refine x_catch qw_L_flow 12 [] [] ⟨0, 9, 12, 15⟩ rfl (fun z hz => nomatch hz) (by decide +kernel) (by decide) qc_RL_15 (by decide +kernel) rfl (fun q9 => ?_)
      refine v_astore_n [(3, .ref q9), (0, .ref a0), (1, .int a1), (2, .ref (gM G 201))] dL_flow_12 rfl (by decide) rfl ?_
      refine v_iconst (v := (1 : Int32)) (by decide) dL_flow_13 rfl ?_
      cases Option.some.inj h
      exact w_ret rfl hn (Nat.le_of_ble_eq_true rfl) (Nat.le_of_ble_eq_true rfl) dL_flow_14
    replace h := o_n d2 h
    cases h
theorem mw_L_down : MOW yL_down cL_down 3 (some .int) [(0, 5, 8, 13), (0, 5, 11, 17)] 2 := ⟨qw_L_down, qz_law, qs_L_down, by decide +kernel, by decide +kernel, by decide +kernel⟩
def rm_L_down : Room := { frames := 7, cells := 1, slots := 6, locals := 111 }
set_option maxRecDepth 100000 in
set_option maxHeartbeats 4000000 in
theorem k_L_down {G : Gm} {μ : Mu} {o o' : Int64} {σ σ' : Hp} {r : Int32} {a0 : Nat} {a1 : Int32} (h : f_L_down σ o a0 a1 = some (r, σ', o')) : Cw G yL_down cL_down 3 (some .int) [(0, 5, 8, 13), (0, 5, 11, 17)] rm_L_down [.ref a0, .int a1] (σ, μ, o) r σ' μ o' 1 6 := by
  refine w_ent [(0, .ref a0), (1, .int a1)] (by decide +kernel) (Nat.le_of_ble_eq_true rfl) rfl ?_
  unfold f_L_down at h
  obtain ⟨⟨⟩, g0, h⟩ := o_b h
  obtain ⟨x, ex, h⟩ := o_b h
  refine v_aload_n 0 rfl dL_down_0 rfl ?_
  refine v_iload_n 1 rfl dL_down_1 rfl ?_
  refine x_Vv (as := [.int a1]) (st := []) (c' := 1) (k' := 6) (k_X11_down ex) (rcv_c g0 (by decide) rfl) mk_X11_down qi_X11_down qe_X11_down qm_RL_33 (ck rfl) rfl dL_down_2 rfl rfl rfl (fun c0 => ?_) (fun n9 E c1 hn hE => ?_)
  · have h := o_p c0 h
    have h2 := Option.some.inj h
    refine v_goto (q := 14) dL_down_5 (by decide) ?_
    refine v_iconst (v := (0 : Int32)) (by decide) dL_down_14 rfl ?_
    cases h2
    exact w_ret (n' := oN x.2.2) rfl (Nat.le_refl _) (Nat.le_of_ble_eq_true rfl) (Nat.le_of_ble_eq_true rfl) dL_down_15
  · replace h := o_n (show ¬ x.1 = 0 by omega) h
    by_cases d1 : x.1 = 1
    · have h := o_p d1 h
      rw [d1] at hE
      have hE2 : "java/lang/IndexOutOfBoundsException" = E := Option.some.inj hE
      subst hE2
      refine x_catch qw_L_down 8 [] [⟨0, 5, 11, 17⟩] ⟨0, 5, 8, 13⟩ rfl (fun z hz => nomatch hz) (by decide +kernel) (by decide) qc_RL_13 (by decide +kernel) rfl (fun q9 => ?_)
      refine v_astore_n [(2, .ref q9), (0, .ref a0), (1, .int a1)] dL_down_8 rfl (by decide) rfl ?_
      refine v_iconst (v := (1 : Int32)) (by decide) dL_down_9 rfl ?_
      cases Option.some.inj h
      exact w_ret rfl hn (Nat.le_of_ble_eq_true rfl) (Nat.le_of_ble_eq_true rfl) dL_down_10
    replace h := o_n d1 h
    by_cases d3 : x.1 = 3
    · have h := o_p d3 h
      rw [d3] at hE
      have hE2 : "java/lang/IllegalStateException" = E := Option.some.inj hE
      subst hE2
      refine x_catch qw_L_down 11 [⟨0, 5, 8, 13⟩] [] ⟨0, 5, 11, 17⟩ rfl (fun z hz => by
        rcases List.mem_cons.mp hz with rfl | hz
        · exact ⟨by decide, "java/lang/IndexOutOfBoundsException", qc_RL_13, by decide +kernel⟩
        cases hz) (by decide +kernel) (by decide) qc_RL_17 (by decide +kernel) rfl (fun q9 => ?_)
      refine v_astore_n [(2, .ref q9), (0, .ref a0), (1, .int a1)] dL_down_11 rfl (by decide) rfl ?_
      refine v_iconst (v := (2 : Int32)) (by decide) dL_down_12 rfl ?_
      cases Option.some.inj h
      exact w_ret rfl hn (Nat.le_of_ble_eq_true rfl) (Nat.le_of_ble_eq_true rfl) dL_down_13
    replace h := o_n d3 h
    cases h
theorem mw_L_up : MOW yL_up cL_up 3 (some .int) [(0, 5, 8, 13), (0, 5, 11, 17)] 2 := ⟨qw_L_up, qz_law, qs_L_up, by decide +kernel, by decide +kernel, by decide +kernel⟩
def rm_L_up : Room := { frames := 7, cells := 1, slots := 6, locals := 111 }
set_option maxRecDepth 100000 in
set_option maxHeartbeats 4000000 in
theorem k_L_up {G : Gm} {μ : Mu} {o o' : Int64} {σ σ' : Hp} {r : Int32} {a0 : Nat} {a1 : Int32} (h : f_L_up σ o a0 a1 = some (r, σ', o')) : Cw G yL_up cL_up 3 (some .int) [(0, 5, 8, 13), (0, 5, 11, 17)] rm_L_up [.ref a0, .int a1] (σ, μ, o) r σ' μ o' 1 6 := by
  refine w_ent [(0, .ref a0), (1, .int a1)] (by decide +kernel) (Nat.le_of_ble_eq_true rfl) rfl ?_
  unfold f_L_up at h
  obtain ⟨⟨⟩, g0, h⟩ := o_b h
  obtain ⟨x, ex, h⟩ := o_b h
  refine v_aload_n 0 rfl dL_up_0 rfl ?_
  refine v_iload_n 1 rfl dL_up_1 rfl ?_
  refine x_Vv (as := [.int a1]) (st := []) (c' := 1) (k' := 6) (k_X11_up ex) (rcv_c g0 (by decide) rfl) mk_X11_up qi_X11_up qe_X11_up qm_RL_36 (ck rfl) rfl dL_up_2 rfl rfl rfl (fun c0 => ?_) (fun n9 E c1 hn hE => ?_)
  · have h := o_p c0 h
    have h2 := Option.some.inj h
    refine v_goto (q := 14) dL_up_5 (by decide) ?_
    refine v_iconst (v := (0 : Int32)) (by decide) dL_up_14 rfl ?_
    cases h2
    exact w_ret (n' := oN x.2.2) rfl (Nat.le_refl _) (Nat.le_of_ble_eq_true rfl) (Nat.le_of_ble_eq_true rfl) dL_up_15
  · replace h := o_n (show ¬ x.1 = 0 by omega) h
    by_cases d1 : x.1 = 1
    · have h := o_p d1 h
      rw [d1] at hE
      have hE2 : "java/lang/IndexOutOfBoundsException" = E := Option.some.inj hE
      subst hE2
      refine x_catch qw_L_up 8 [] [⟨0, 5, 11, 17⟩] ⟨0, 5, 8, 13⟩ rfl (fun z hz => nomatch hz) (by decide +kernel) (by decide) qc_RL_13 (by decide +kernel) rfl (fun q9 => ?_)
      refine v_astore_n [(2, .ref q9), (0, .ref a0), (1, .int a1)] dL_up_8 rfl (by decide) rfl ?_
      refine v_iconst (v := (1 : Int32)) (by decide) dL_up_9 rfl ?_
      cases Option.some.inj h
      exact w_ret rfl hn (Nat.le_of_ble_eq_true rfl) (Nat.le_of_ble_eq_true rfl) dL_up_10
    replace h := o_n d1 h
    by_cases d3 : x.1 = 3
    · have h := o_p d3 h
      rw [d3] at hE
      have hE2 : "java/lang/IllegalStateException" = E := Option.some.inj hE
      subst hE2
      refine x_catch qw_L_up 11 [⟨0, 5, 8, 13⟩] [] ⟨0, 5, 11, 17⟩ rfl (fun z hz => by
        rcases List.mem_cons.mp hz with rfl | hz
        · exact ⟨by decide, "java/lang/IndexOutOfBoundsException", qc_RL_13, by decide +kernel⟩
        cases hz) (by decide +kernel) (by decide) qc_RL_17 (by decide +kernel) rfl (fun q9 => ?_)
      refine v_astore_n [(2, .ref q9), (0, .ref a0), (1, .int a1)] dL_up_11 rfl (by decide) rfl ?_
      refine v_iconst (v := (2 : Int32)) (by decide) dL_up_12 rfl ?_
      cases Option.some.inj h
      exact w_ret rfl hn (Nat.le_of_ble_eq_true rfl) (Nat.le_of_ble_eq_true rfl) dL_up_13
    replace h := o_n d3 h
    cases h
theorem mw_L_suspect : MOW yL_suspect cL_suspect 3 (some .int) [(0, 5, 8, 13), (0, 5, 11, 17)] 2 := ⟨qw_L_suspect, qz_law, qs_L_suspect, by decide +kernel, by decide +kernel, by decide +kernel⟩
def rm_L_suspect : Room := { frames := 7, cells := 1, slots := 6, locals := 145 }
set_option maxRecDepth 100000 in
set_option maxHeartbeats 4000000 in
theorem k_L_suspect {G : Gm} {μ : Mu} {o o' : Int64} {σ σ' : Hp} {r : Int32} {a0 : Nat} {a1 : Int32} (h : f_L_suspect σ o a0 a1 = some (r, σ', o')) : Cw G yL_suspect cL_suspect 3 (some .int) [(0, 5, 8, 13), (0, 5, 11, 17)] rm_L_suspect [.ref a0, .int a1] (σ, μ, o) r σ' μ o' 1 6 := by
  refine w_ent [(0, .ref a0), (1, .int a1)] (by decide +kernel) (Nat.le_of_ble_eq_true rfl) rfl ?_
  unfold f_L_suspect at h
  obtain ⟨⟨⟩, g0, h⟩ := o_b h
  obtain ⟨x, ex, h⟩ := o_b h
  refine v_aload_n 0 rfl dL_suspect_0 rfl ?_
  refine v_iload_n 1 rfl dL_suspect_1 rfl ?_
  refine x_Vv (as := [.int a1]) (st := []) (c' := 1) (k' := 6) (k_X11_suspect ex) (rcv_c g0 (by decide) rfl) mk_X11_suspect qi_X11_suspect qe_X11_suspect qm_RL_39 (ck rfl) rfl dL_suspect_2 rfl rfl rfl (fun c0 => ?_) (fun n9 E c1 hn hE => ?_)
  · have h := o_p c0 h
    have h2 := Option.some.inj h
    refine v_goto (q := 14) dL_suspect_5 (by decide) ?_
    refine v_iconst (v := (0 : Int32)) (by decide) dL_suspect_14 rfl ?_
    cases h2
    exact w_ret (n' := oN x.2.2) rfl (Nat.le_refl _) (Nat.le_of_ble_eq_true rfl) (Nat.le_of_ble_eq_true rfl) dL_suspect_15
  · replace h := o_n (show ¬ x.1 = 0 by omega) h
    by_cases d1 : x.1 = 1
    · have h := o_p d1 h
      rw [d1] at hE
      have hE2 : "java/lang/IndexOutOfBoundsException" = E := Option.some.inj hE
      subst hE2
      refine x_catch qw_L_suspect 8 [] [⟨0, 5, 11, 17⟩] ⟨0, 5, 8, 13⟩ rfl (fun z hz => nomatch hz) (by decide +kernel) (by decide) qc_RL_13 (by decide +kernel) rfl (fun q9 => ?_)
      refine v_astore_n [(2, .ref q9), (0, .ref a0), (1, .int a1)] dL_suspect_8 rfl (by decide) rfl ?_
      refine v_iconst (v := (1 : Int32)) (by decide) dL_suspect_9 rfl ?_
      cases Option.some.inj h
      exact w_ret rfl hn (Nat.le_of_ble_eq_true rfl) (Nat.le_of_ble_eq_true rfl) dL_suspect_10
    replace h := o_n d1 h
    by_cases d3 : x.1 = 3
    · have h := o_p d3 h
      rw [d3] at hE
      have hE2 : "java/lang/IllegalStateException" = E := Option.some.inj hE
      subst hE2
      refine x_catch qw_L_suspect 11 [⟨0, 5, 8, 13⟩] [] ⟨0, 5, 11, 17⟩ rfl (fun z hz => by
        rcases List.mem_cons.mp hz with rfl | hz
        · exact ⟨by decide, "java/lang/IndexOutOfBoundsException", qc_RL_13, by decide +kernel⟩
        cases hz) (by decide +kernel) (by decide) qc_RL_17 (by decide +kernel) rfl (fun q9 => ?_)
      refine v_astore_n [(2, .ref q9), (0, .ref a0), (1, .int a1)] dL_suspect_11 rfl (by decide) rfl ?_
      refine v_iconst (v := (2 : Int32)) (by decide) dL_suspect_12 rfl ?_
      cases Option.some.inj h
      exact w_ret rfl hn (Nat.le_of_ble_eq_true rfl) (Nat.le_of_ble_eq_true rfl) dL_suspect_13
    replace h := o_n d3 h
    cases h
theorem mw_L_nudge : MOW yL_nudge cL_nudge 4 (some .int) [(0, 9, 12, 13), (0, 9, 15, 17)] 3 := ⟨qw_L_nudge, qz_law, qs_L_nudge, by decide +kernel, by decide +kernel, by decide +kernel⟩
def rm_L_nudge : Room := { frames := 7, cells := 1, slots := 6, locals := 144 }
set_option maxRecDepth 100000 in
set_option maxHeartbeats 4000000 in
theorem k_L_nudge {G : Gm} (hG : gF G = mFl) {μ : Mu} {o o' : Int64} {σ σ' : Hp} {r : Int32} {a0 : Nat} {a1 : Int32} (h : f_L_nudge σ o a0 a1 = some (r, σ', o')) : Cw G yL_nudge cL_nudge 4 (some .int) [(0, 9, 12, 13), (0, 9, 15, 17)] rm_L_nudge [.ref a0, .int a1, .ref (gM G 201)] (σ, μ, o) r σ' μ o' 1 6 := by
  refine w_ent [(0, .ref a0), (1, .int a1), (2, .ref (gM G 201))] (by decide +kernel) (Nat.le_of_ble_eq_true rfl) rfl ?_
  unfold f_L_nudge at h
  obtain ⟨⟨⟩, g0, h⟩ := o_b h
  obtain ⟨x, ex, h⟩ := o_b h
  refine v_aload_n 2 rfl dL_nudge_0 rfl ?_
  refine v_iconst (v := (0 : Int32)) (by decide) dL_nudge_1 rfl ?_
  refine v_aload_n 0 rfl dL_nudge_2 rfl ?_
  refine v_iload_n 1 rfl dL_nudge_3 rfl ?_
  refine x_Vi (as := [.int a1]) (st := [.int (0 : Int32), .ref (gM G 201)]) (c' := 1) (k' := 6) (k_X11_nudge ex) (rcv_c g0 (by decide) rfl) mk_X11_nudge qi_X11_nudge qe_X11_nudge qm_RL_42 (ck rfl) rfl dL_nudge_4 rfl rfl rfl (fun c0 => ?_) (fun n9 E c1 hn hE => ?_)
  · have h := o_p c0 h
    have h2 := Option.some.inj h
    refine v_i2l dL_nudge_7 rfl ?_
    refine v_last (mg hG rfl) dL_nudge_8 rfl ?_
    refine v_goto (q := 18) dL_nudge_9 (by decide) ?_
    refine v_iconst (v := (0 : Int32)) (by decide) dL_nudge_18 rfl ?_
    cases h2
    exact w_ret (n' := oN x.2.2) rfl (Nat.le_refl _) (Nat.le_of_ble_eq_true rfl) (Nat.le_of_ble_eq_true rfl) dL_nudge_19
  · replace h := o_n (show ¬ x.1 = 0 by omega) h
    by_cases d1 : x.1 = 1
    · have h := o_p d1 h
      rw [d1] at hE
      have hE2 : "java/lang/IndexOutOfBoundsException" = E := Option.some.inj hE
      subst hE2
      refine x_catch qw_L_nudge 12 [] [⟨0, 9, 15, 17⟩] ⟨0, 9, 12, 13⟩ rfl (fun z hz => nomatch hz) (by decide +kernel) (by decide) qc_RL_13 (by decide +kernel) rfl (fun q9 => ?_)
      refine v_astore_n [(3, .ref q9), (0, .ref a0), (1, .int a1), (2, .ref (gM G 201))] dL_nudge_12 rfl (by decide) rfl ?_
      refine v_iconst (v := (1 : Int32)) (by decide) dL_nudge_13 rfl ?_
      cases Option.some.inj h
      exact w_ret rfl hn (Nat.le_of_ble_eq_true rfl) (Nat.le_of_ble_eq_true rfl) dL_nudge_14
    replace h := o_n d1 h
    by_cases d3 : x.1 = 3
    · have h := o_p d3 h
      rw [d3] at hE
      have hE2 : "java/lang/IllegalStateException" = E := Option.some.inj hE
      subst hE2
      refine x_catch qw_L_nudge 15 [⟨0, 9, 12, 13⟩] [] ⟨0, 9, 15, 17⟩ rfl (fun z hz => by
        rcases List.mem_cons.mp hz with rfl | hz
        · exact ⟨by decide, "java/lang/IndexOutOfBoundsException", qc_RL_13, by decide +kernel⟩
        cases hz) (by decide +kernel) (by decide) qc_RL_17 (by decide +kernel) rfl (fun q9 => ?_)
      refine v_astore_n [(3, .ref q9), (0, .ref a0), (1, .int a1), (2, .ref (gM G 201))] dL_nudge_15 rfl (by decide) rfl ?_
      refine v_iconst (v := (2 : Int32)) (by decide) dL_nudge_16 rfl ?_
      cases Option.some.inj h
      exact w_ret rfl hn (Nat.le_of_ble_eq_true rfl) (Nat.le_of_ble_eq_true rfl) dL_nudge_17
    replace h := o_n d3 h
    cases h
theorem mw_L_sync : MOW yL_sync cL_sync 3 (some .int) [(0, 5, 8, 13), (0, 5, 11, 17)] 2 := ⟨qw_L_sync, qz_law, qs_L_sync, by decide +kernel, by decide +kernel, by decide +kernel⟩
def rm_L_sync : Room := { frames := 7, cells := 1, slots := 6, locals := 126 }
set_option maxRecDepth 100000 in
set_option maxHeartbeats 4000000 in
theorem k_L_sync {G : Gm} {μ : Mu} {o o' : Int64} {σ σ' : Hp} {r : Int32} {a0 : Nat} {a1 : Int32} (h : f_L_sync σ o a0 a1 = some (r, σ', o')) : Cw G yL_sync cL_sync 3 (some .int) [(0, 5, 8, 13), (0, 5, 11, 17)] rm_L_sync [.ref a0, .int a1] (σ, μ, o) r σ' μ o' 1 6 := by
  refine w_ent [(0, .ref a0), (1, .int a1)] (by decide +kernel) (Nat.le_of_ble_eq_true rfl) rfl ?_
  unfold f_L_sync at h
  obtain ⟨⟨⟩, g0, h⟩ := o_b h
  obtain ⟨x, ex, h⟩ := o_b h
  refine v_aload_n 0 rfl dL_sync_0 rfl ?_
  refine v_iload_n 1 rfl dL_sync_1 rfl ?_
  refine x_Vv (as := [.int a1]) (st := []) (c' := 1) (k' := 6) (k_X11_sync ex) (rcv_c g0 (by decide) rfl) mk_X11_sync qi_X11_sync qe_X11_sync qm_RL_45 (ck rfl) rfl dL_sync_2 rfl rfl rfl (fun c0 => ?_) (fun n9 E c1 hn hE => ?_)
  · have h := o_p c0 h
    have h2 := Option.some.inj h
    refine v_goto (q := 14) dL_sync_5 (by decide) ?_
    refine v_iconst (v := (0 : Int32)) (by decide) dL_sync_14 rfl ?_
    cases h2
    exact w_ret (n' := oN x.2.2) rfl (Nat.le_refl _) (Nat.le_of_ble_eq_true rfl) (Nat.le_of_ble_eq_true rfl) dL_sync_15
  · replace h := o_n (show ¬ x.1 = 0 by omega) h
    by_cases d1 : x.1 = 1
    · have h := o_p d1 h
      rw [d1] at hE
      have hE2 : "java/lang/IndexOutOfBoundsException" = E := Option.some.inj hE
      subst hE2
      refine x_catch qw_L_sync 8 [] [⟨0, 5, 11, 17⟩] ⟨0, 5, 8, 13⟩ rfl (fun z hz => nomatch hz) (by decide +kernel) (by decide) qc_RL_13 (by decide +kernel) rfl (fun q9 => ?_)
      refine v_astore_n [(2, .ref q9), (0, .ref a0), (1, .int a1)] dL_sync_8 rfl (by decide) rfl ?_
      refine v_iconst (v := (1 : Int32)) (by decide) dL_sync_9 rfl ?_
      cases Option.some.inj h
      exact w_ret rfl hn (Nat.le_of_ble_eq_true rfl) (Nat.le_of_ble_eq_true rfl) dL_sync_10
    replace h := o_n d1 h
    by_cases d3 : x.1 = 3
    · have h := o_p d3 h
      rw [d3] at hE
      have hE2 : "java/lang/IllegalStateException" = E := Option.some.inj hE
      subst hE2
      refine x_catch qw_L_sync 11 [⟨0, 5, 8, 13⟩] [] ⟨0, 5, 11, 17⟩ rfl (fun z hz => by
        rcases List.mem_cons.mp hz with rfl | hz
        · exact ⟨by decide, "java/lang/IndexOutOfBoundsException", qc_RL_13, by decide +kernel⟩
        cases hz) (by decide +kernel) (by decide) qc_RL_17 (by decide +kernel) rfl (fun q9 => ?_)
      refine v_astore_n [(2, .ref q9), (0, .ref a0), (1, .int a1)] dL_sync_11 rfl (by decide) rfl ?_
      refine v_iconst (v := (2 : Int32)) (by decide) dL_sync_12 rfl ?_
      cases Option.some.inj h
      exact w_ret rfl hn (Nat.le_of_ble_eq_true rfl) (Nat.le_of_ble_eq_true rfl) dL_sync_13
    replace h := o_n d3 h
    cases h
