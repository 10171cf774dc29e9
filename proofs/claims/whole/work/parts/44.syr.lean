/-! sync replies -/
theorem mT_self {μ : Mu} {j i : Nat} {x : Int32} (h : μ.2 j i = x) : mT μ j i x = μ := by
  refine Prod.ext rfl ?_
  funext j' i'
  rw [mT_2]
  by_cases e : j' = j ∧ i' = i
  · rw [if_pos e, e.1, e.2, h]
  · rw [if_neg e]
theorem mT_comm {μ : Mu} {j i j' i' : Nat} {x y : Int32} (h : j ≠ j') : mT (mT μ j i x) j' i' y = mT (mT μ j' i' y) j i x := by
  refine Prod.ext rfl ?_
  funext k l
  simp only [mT_2]
  by_cases e : k = j ∧ l = i
  · rw [if_neg (by omega), if_pos e, if_pos e]
  · rw [if_neg e, if_neg e]
section SYR
variable {A : Ad} {n T q : Nat} {hb : Nat → Nat} {vw : Vw} {p u : Nat → Nat} {a r : Nat} {σ σ' : Hp} {μ μ' : Mu}
theorem syr18 (hR : RR A n T q h8 vw p u a 0 σ μ) (hr : r < n) {fr : Nat} (hfr : fr < n) {t : Int32} (h48 : μ.2 48 r = t) : St A n T q vw p u σ μ ((f_X8_addSyncReply_18 σ (A 8 r 0) (nI fr)).bind fun v30 => (h_gR v30 6 (A 6 r 0) 14).bind fun v35 => (h_gI v30 8 v35 1).bind fun v38 => (h_gO v30 6 (A 6 r 0)).bind fun _ => (f_X6_isEnough v30 (A 6 r 0) v38).bind fun v41 => if v41 = 0 then some v30 else (h_pI v30 6 (A 6 r 0) 7 t).bind fun s49 => (h_gO s49 6 (A 6 r 0)).bind fun _ => (f_X6_sendToOthers s49 (A 6 r 0) 7 t).bind fun v56 => some v56) (f_X12_syncReply_46 μ (nI r) (nI fr) t) := by
  have hs := hR.1
  have h7 := hs.np
  have hr7 : r < 7 := by omega
  have k8 := hs.k8 hr
  obtain ⟨-, -, -, ⟨-, -, t3, t4, -⟩⟩ := (hR.2.2.2.2.2.1 r hr).sp
  obtain ⟨b, w1, w2, w3⟩ := b7or t4 (by omega : fr < 7)
  have hR1 := set8 hR hr (k := 1) (j := 47) (x := nI b) (Or.inr (Or.inl ⟨rfl, rfl, w3⟩))
  have hk1 : Kp A n p σ (sI σ (A 8 r 0) 1 (nI b)) μ (mT μ 47 r (nI b)) := Kp.one hs.1 (by omega) (by omega)
  have he := enough hR1.1 hr w1
  have k6' := hR1.1.k6 hr
  have k8' := hR1.1.k8 hr
  have h2 : μ.1 2 = nI (n / 2) := hR.2.2.1.2.2.2.2.2
  have cl := cnt_le b
  have e47 : (mT μ 47 r (nI b)).2 47 r = nI b := by simp only [m_P, mT_2, mT_1, mS_1, mS_2, Option.bind_some, Nat.reduceEqDiff, if_true, if_false, true_and, and_true, false_and, and_false]
  have e8 : oI (sI σ (A 8 r 0) 1 (nI b)) (A 8 r 0) 1 = nI b := by simp only [oK_sI, oK_sR, oK_sC, oZ_sI, oZ_sR, oZ_sC, xI_sI, oI_sR, xI_sC, oR_sI, xR_sR, oR_sC, Option.bind_some, if_true, if_false, Nat.reduceEqDiff, true_and, and_true, false_and, and_false]
  have d1 := set6 hR1 hr (k := 7) (j := 40) (x := t) (Or.inr (Or.inr (Or.inl ⟨rfl, rfl⟩)))
  have hk2 : Kp A n p (sI σ (A 8 r 0) 1 (nI b)) (sI (sI σ (A 8 r 0) 1 (nI b)) (A 6 r 0) 7 t) (mT μ 47 r (nI b)) (mT (mT μ 47 r (nI b)) 40 r t) := Kp.one hs.1 (by omega) (by omega)
  have k6'' := d1.1.k6 hr
  have hsd := (sd_all d1 hr (x := 7) (kk := 7) rfl (by omega) (t := t) (by omega)).st
  rw [f_X12_syncReply_46, mQ_n 48 r _ hr7, Option.bind_some, mT_self h48, mA_n 47 r hr7, Option.bind_some, w2, mQ_n 47 r _ hr7, Option.bind_some, mA_n 47 r hr7, Option.bind_some, e47, bit_m b w1, Option.bind_some, show (mT μ 47 r (nI b)).1 2 = nI (n / 2) from h2, f_X8_addSyncReply_18, x_gI k8, Option.bind_some, t3, w2, x_pI k8]
  simp only [Option.bind_some]
  rw [x_gR k6', hR1.1.r6_14 hr, Option.bind_some, x_gI k8', Option.bind_some, x_gO k6', Option.bind_some, e8, he, Option.bind_some]
  by_cases c3 : n / 2 ≤ cnt b
  · rw [if_neg (by rw [b1_0]; exact fun h => h c3), if_pos ((nI_leI (by omega) (by omega)).mpr c3), x_pI k6', Option.bind_some, mQ_n 40 r _ hr7, Option.bind_some, x_gO k6'', Option.bind_some]
    exact (hsd.ret.tr hk2).tr hk1
  · rw [if_pos (by rw [b1_0]; exact c3), if_neg (fun h => c3 ((nI_leI (by omega) (by omega)).mp h))]
    exact (St.rf hR1).tr hk1
theorem rcv_syncReply (hR : RR A n T q h8 vw p u a 0 σ μ) (hr : r < n) {fr : Nat} (hfr : fr < n) (t : Int32) : St A n T q vw p u σ μ (f_X6_receiveSyncReply σ (A 6 r 0) (nI fr) t) (f_X12_syncReply μ (nI r) (nI fr) t) := by
  have hs := hR.1
  have h7 := hs.np
  have hi := hs.inj
  have hr7 : r < 7 := by omega
  have k6 := hs.k6 hr
  have k8 := hs.k8 hr
  obtain ⟨L, v, g1, g2, g3, g4, g5, g6, -⟩ := hR.ld hr
  obtain ⟨⟨⟨a1, a2⟩, ⟨a3, a4⟩, -, -, a7, a8, a9⟩, -, -, ⟨-, -, t3, t4, t5, -⟩⟩ := (hR.2.2.2.2.2.1 r hr).sp
  rw [f_X6_receiveSyncReply, x_gO k6, f_X12_syncReply, g5, g6]
  simp only [Option.bind_some]
  by_cases c0 : b1 (L % n = r) = 0
  · rw [if_pos c0, if_pos c0]
    exact St.rf hR
  · rw [if_neg c0, if_neg c0, x_gI k6, a3, mA_n 35 r hr7]
    simp only [Option.bind_some]
    by_cases c1 : μ.2 35 r = 2
    · rw [if_pos c1, if_pos c1]
      exact St.rf hR
    · rw [if_neg c1, if_neg c1, x_gI k6, a8, mA_n 40 r hr7]
      simp only [Option.bind_some]
      by_cases c2 : μ.2 40 r < t
      · rw [if_pos c2, if_pos c2, x_gR k6, hs.r6_14 hr, Option.bind_some, x_gO k8, Option.bind_some, f_X8_addSyncReply, x_gI k8, t5, mA_n 48 r hr7]
        simp only [Option.bind_some]
        by_cases c3 : μ.2 48 r = t
        · rw [if_pos c3, if_pos c3.symm]
          exact syr18 hR hr hfr c3
        · rw [if_neg c3, if_neg (fun e => c3 e.symm), x_pI k8, mQ_n 47 r _ hr7]
          simp only [Option.bind_some]
          have d1 := set8 hR hr (k := 2) (j := 48) (x := t) (Or.inr (Or.inr ⟨rfl, rfl⟩))
          have d2 := set8 d1 hr (k := 1) (j := 47) (x := 0) (Or.inr (Or.inl ⟨rfl, rfl, 0, by decide, rfl⟩))
          have hk : Kp A n p σ (sI (sI σ (A 8 r 0) 2 t) (A 8 r 0) 1 0) μ (mT (mT μ 48 r t) 47 r 0) := (Kp.one hs.1 (by omega) (by omega)).tr (Kp.one hs.1 (by omega) (by omega))
          have e48 : (mT (mT μ 48 r t) 47 r 0).2 48 r = t := by simp only [m_P, mT_2, mT_1, mS_1, mS_2, Option.bind_some, Nat.reduceEqDiff, if_true, if_false, true_and, and_true, false_and, and_false]
          have hM : f_X12_syncReply_46 (mT μ 47 r 0) (nI r) (nI fr) t = f_X12_syncReply_46 (mT (mT μ 48 r t) 47 r 0) (nI r) (nI fr) t := by
            rw [f_X12_syncReply_46, f_X12_syncReply_46, mQ_n 48 r _ hr7, mQ_n 48 r _ hr7, mT_self e48, mT_comm (j := 47) (j' := 48) (by decide)]
          rw [hM, x_pI (d1.1.k8 hr)]
          simp only [Option.bind_some]
          exact (syr18 d2 hr hfr e48).tr hk
      · rw [if_neg c2, if_neg c2]
        exact St.rf hR
end SYR
