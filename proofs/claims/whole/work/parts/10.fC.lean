def f_J9_min_7cf53 (a0 : Int32) (a1 : Int32) : Option Int32 :=
  if a1 < a0 then (
    some a1)
  else (
    some a0)
def f_X0_add (σ : Hp) (a0 : Nat) (a1 : Int32) (a2 : Nat) (a3 : Int32) (a4 : Int32) : Option Hp :=
  (h_gR σ 0 a0 1).bind fun v1 =>
  (h_gI σ 0 a0 7).bind fun v5 =>
  (h_qI σ v1 v5 a1).bind fun s9 =>
  (h_gR s9 0 a0 2).bind fun v11 =>
  (h_gI s9 0 a0 7).bind fun v15 =>
  (h_qR s9 19 9 v11 v15 a2).bind fun s19 =>
  (h_gR s19 0 a0 3).bind fun v21 =>
  (h_gI s19 0 a0 7).bind fun v25 =>
  (h_qI s19 v21 v25 a3).bind fun s29 =>
  (h_gR s29 0 a0 4).bind fun v31 =>
  (h_gI s29 0 a0 7).bind fun v35 =>
  (h_qI s29 v31 v35 a4).bind fun s40 =>
  (h_gI s40 0 a0 7).bind fun v43 =>
  (h_pI s40 0 a0 7 ((v43 + (1 : Int32)) - (v43 + (1 : Int32)) / (200 : Int32) * (200 : Int32))).bind fun s52 =>
  (h_gI s52 0 a0 6).bind fun v57 =>
  (f_J9_min_7cf53 (v57 + (1 : Int32)) (200 : Int32)).bind fun v65 =>
  (h_pI s52 0 a0 6 v65).bind fun s68 =>
  (h_gI s68 0 a0 0).bind fun v73 =>
  (h_pI s68 0 a0 0 (v73 + (1 : Int32))).bind fun s78 =>
  some s78
def b_J7_fill_53178_5 (rec5 : Hp → Nat → Int32 → Int32 → Int32 → Option Hp) (σ : Hp) (x0 : Nat) (x1 : Int32) (x2 : Int32) (x3 : Int32) : Option Hp :=
  if x3 ≤ x2 then (
    some σ)
  else (
    (h_qI σ x0 x2 x1).bind fun s13 =>
    rec5 s13 x0 x1 (x2 + 1) x3)
def f_J7_fill_53178_5 (n : Nat) : Hp → Nat → Int32 → Int32 → Int32 → Option Hp := Nat.rec (motive := fun _ => Hp → Nat → Int32 → Int32 → Int32 → Option Hp) (fun _ _ _ _ _ => none) (fun _ rec => b_J7_fill_53178_5 rec) n
def f_J7_fill_53178 (σ : Hp) (a0 : Nat) (a1 : Int32) : Option Hp :=
  (h_aL σ 13 a0).bind fun v3 =>
  f_J7_fill_53178_5 lf σ a0 a1 (0 : Int32) v3
def f_X0_unmark (σ : Hp) (a0 : Nat) : Option Hp :=
  (h_gR σ 0 a0 5).bind fun v1 =>
  (f_J7_fill_53178 σ v1 (0 : Int32)).bind fun v5 =>
  some v5
def f_X9_isSame (σ : Hp) (a0 : Nat) (a1 : Nat) : Option Int32 :=
  (h_gI σ 9 a0 0).bind fun v1 =>
  (h_gI σ 9 a1 0).bind fun v5 =>
  if v1 = v5 then (
    (h_gI σ 9 a0 1).bind fun v12 =>
    (h_gI σ 9 a1 1).bind fun v16 =>
    if v12 = v16 then (
      some (1 : Int32))
    else (
      some (0 : Int32)))
  else (
    some (0 : Int32))
def f_X9_isBehind (σ : Hp) (a0 : Nat) (a1 : Nat) : Option Int32 :=
  (h_gI σ 9 a0 0).bind fun v1 =>
  (h_gI σ 9 a1 0).bind fun v5 =>
  if v5 < v1 then (
    some (0 : Int32))
  else (
    (h_gI σ 9 a0 1).bind fun v12 =>
    (h_gI σ 9 a1 1).bind fun v16 =>
    if v16 < v12 then (
      some (0 : Int32))
    else (
      (h_gO σ 9 a0).bind fun _ =>
      (f_X9_isSame σ a0 a1).bind fun v24 =>
      if v24 = 0 then (
        some (1 : Int32))
      else (
        some (0 : Int32))))
def f_X10_hasExecuted (σ : Hp) (a0 : Nat) (a1 : Int32) : Option Int32 :=
  (h_gR σ 10 a0 3).bind fun v1 =>
  (h_aI σ v1 a1).bind fun v5 =>
  if v5 = 0 then (
    some (0 : Int32))
  else (
    some (1 : Int32))
def f_X10_answerTo (σ : Hp) (a0 : Nat) (a1 : Int32) : Option Int32 :=
  (h_gR σ 10 a0 4).bind fun v1 =>
  (h_aI σ v1 a1).bind fun v5 =>
  some v5
def f_X4_at (σ : Hp) (a0 : Nat) (a1 : Int32) : Option Int32 :=
  if a1 < (1 : Int32) then (
    some (0 : Int32))
  else (
    (h_gI σ 4 a0 1).bind fun v7 =>
    if v7 < a1 then (
      some (0 : Int32))
    else (
      (h_gR σ 4 a0 0).bind fun v14 =>
      (h_aI σ v14 (a1 - (1 : Int32))).bind fun v20 =>
      some v20))
def f_X0_markNotHeldTo_118 (rec2 : Hp → Nat → Nat → Nat → Int32 → Option Hp) (σ : Hp) (x0 : Nat) (x1 : Nat) (x2 : Nat) (x3 : Int32) : Option Hp :=
  rec2 σ x0 x1 x2 (x3 + 1)
def f_X0_markNotHeldTo_111 (rec2 : Hp → Nat → Nat → Nat → Int32 → Option Hp) (σ : Hp) (x0 : Nat) (x1 : Nat) (x2 : Nat) (x3 : Int32) : Option Hp :=
  (h_gR σ 0 x0 5).bind fun v112 =>
  (h_qI σ v112 x3 (1 : Int32)).bind fun s117 =>
  f_X0_markNotHeldTo_118 rec2 s117 x0 x1 x2 x3
def f_X0_markNotHeldTo_82 (rec2 : Hp → Nat → Nat → Nat → Int32 → Option Hp) (σ : Hp) (x0 : Nat) (x1 : Nat) (x2 : Nat) (x3 : Int32) (y0 : Int32) : Option Hp :=
  (h_gR σ 6 x1 0).bind fun v85 =>
  (h_gR σ 0 x0 3).bind fun v89 =>
  (h_aI σ v89 x3).bind fun v93 =>
  (h_gO σ 4 v85).bind fun _ =>
  (f_X4_at σ v85 v93).bind fun v94 =>
  (h_gR σ 0 x0 1).bind fun v98 =>
  (h_aI σ v98 x3).bind fun v102 =>
  if v94 = v102 then (
    if y0 = 0 then (
      f_X0_markNotHeldTo_118 rec2 σ x0 x1 x2 x3)
    else (
      f_X0_markNotHeldTo_111 rec2 σ x0 x1 x2 x3))
  else (
    f_X0_markNotHeldTo_111 rec2 σ x0 x1 x2 x3)
def f_X0_markNotHeldTo_81 (rec2 : Hp → Nat → Nat → Nat → Int32 → Option Hp) (σ : Hp) (x0 : Nat) (x1 : Nat) (x2 : Nat) (x3 : Int32) : Option Hp :=
  f_X0_markNotHeldTo_82 rec2 σ x0 x1 x2 x3 (0 : Int32)
def f_X0_markNotHeldTo_45 (rec2 : Hp → Nat → Nat → Nat → Int32 → Option Hp) (σ : Hp) (x0 : Nat) (x1 : Nat) (x2 : Nat) (x3 : Int32) : Option Hp :=
  (h_gR σ 0 x0 1).bind fun v47 =>
  (h_aI σ v47 x3).bind fun v51 =>
  (h_gO σ 10 x2).bind fun _ =>
  (f_X10_hasExecuted σ x2 v51).bind fun v52 =>
  if v52 = 0 then (
    f_X0_markNotHeldTo_81 rec2 σ x0 x1 x2 x3)
  else (
    (h_gR σ 0 x0 1).bind fun v60 =>
    (h_aI σ v60 x3).bind fun v64 =>
    (h_gO σ 10 x2).bind fun _ =>
    (f_X10_answerTo σ x2 v64).bind fun v65 =>
    (h_gR σ 0 x0 4).bind fun v69 =>
    (h_aI σ v69 x3).bind fun v73 =>
    if v65 = v73 then (
      f_X0_markNotHeldTo_81 rec2 σ x0 x1 x2 x3)
    else (
      f_X0_markNotHeldTo_82 rec2 σ x0 x1 x2 x3 (1 : Int32)))
def b_X0_markNotHeldTo_2 (rec2 : Hp → Nat → Nat → Nat → Int32 → Option Hp) (σ : Hp) (x0 : Nat) (x1 : Nat) (x2 : Nat) (x3 : Int32) : Option Hp :=
  (h_gI σ 0 x0 6).bind fun v4 =>
  if v4 ≤ x3 then (
    some σ)
  else (
    (h_gR σ 0 x0 2).bind fun v11 =>
    (h_aR σ 19 v11 x3).bind fun v15 =>
    (h_gR σ 6 x1 4).bind fun v17 =>
    (h_gO σ 9 v15).bind fun _ =>
    (f_X9_isSame σ v15 v17).bind fun v20 =>
    if v20 = 0 then (
      (h_gR σ 0 x0 2).bind fun v27 =>
      (h_aR σ 19 v27 x3).bind fun v31 =>
      (h_gR σ 6 x1 4).bind fun v33 =>
      (h_gO σ 9 v31).bind fun _ =>
      (f_X9_isBehind σ v31 v33).bind fun v36 =>
      if v36 = 0 then (
        f_X0_markNotHeldTo_118 rec2 σ x0 x1 x2 x3)
      else (
        f_X0_markNotHeldTo_45 rec2 σ x0 x1 x2 x3))
    else (
      f_X0_markNotHeldTo_45 rec2 σ x0 x1 x2 x3))
def f_X0_markNotHeldTo_2 (n : Nat) : Hp → Nat → Nat → Nat → Int32 → Option Hp := Nat.rec (motive := fun _ => Hp → Nat → Nat → Nat → Int32 → Option Hp) (fun _ _ _ _ _ => none) (fun _ rec => b_X0_markNotHeldTo_2 rec) n
def f_X0_markNotHeldTo (σ : Hp) (a0 : Nat) (a1 : Nat) (a2 : Nat) : Option Hp :=
  f_X0_markNotHeldTo_2 lf σ a0 a1 a2 (0 : Int32)
def b_X0_marked_13 (rec13 : Hp → Int32 → Nat → Int32 → Int32 → Option Int32) (σ : Hp) (x1 : Int32) (x2 : Nat) (x3 : Int32) (x4 : Int32) : Option Int32 :=
  if x3 ≤ x4 then (
    some x1)
  else (
    (h_aI σ x2 x4).bind fun v22 =>
    rec13 σ (x1 + v22) x2 x3 (x4 + 1))
def f_X0_marked_13 (n : Nat) : Hp → Int32 → Nat → Int32 → Int32 → Option Int32 := Nat.rec (motive := fun _ => Hp → Int32 → Nat → Int32 → Int32 → Option Int32) (fun _ _ _ _ _ => none) (fun _ rec => b_X0_marked_13 rec) n
def f_X0_marked (σ : Hp) (a0 : Nat) : Option Int32 :=
  (h_gR σ 0 a0 5).bind fun v3 =>
  (h_aL σ 13 v3).bind fun v8 =>
  f_X0_marked_13 lf σ (0 : Int32) v3 v8 (0 : Int32)
def f_X1_send_50 (σ : Hp) (x0 : Nat) (x1 : Int32) (x2 : Int32) (x3 : Int32) (x4 : Nat) : Option (Nat × Hp) :=
  (h_gI σ 1 x0 2).bind fun v53 =>
  (h_pI σ 5 x4 0 v53).bind fun s56 =>
  (h_gI s56 1 x0 2).bind fun v61 =>
  (h_pI s56 1 x0 2 (v61 + (1 : Int32))).bind fun s66 =>
  (h_pI s66 5 x4 1 x1).bind fun s72 =>
  (h_pI s72 5 x4 2 x2).bind fun s78 =>
  (h_pI s78 5 x4 3 x3).bind fun s84 =>
  some (x4, s84)
def f_X1_send (σ : Hp) (a0 : Nat) (a1 : Int32) (a2 : Int32) (a3 : Int32) : Option (Nat × Hp) :=
  (h_gR σ 1 a0 5).bind fun v1 =>
  (h_gI σ 1 a0 1).bind fun v7 =>
  if (200 : Int32) ≤ v7 then (
    (h_gI σ 1 a0 3).bind fun v42 =>
    (h_pI σ 1 a0 3 (v42 + (1 : Int32))).bind fun s47 =>
    f_X1_send_50 s47 a0 a1 a2 a3 v1)
  else (
    (h_gR σ 1 a0 0).bind fun v17 =>
    (h_gI σ 1 a0 1).bind fun v21 =>
    (h_aR σ 17 v17 v21).bind fun v24 =>
    (h_gI σ 1 a0 1).bind fun v29 =>
    (h_pI σ 1 a0 1 (v29 + (1 : Int32))).bind fun s34 =>
    f_X1_send_50 s34 a0 a1 a2 a3 v24)
def b_X1_placeOf_2 (rec2 : Hp → Nat → Int32 → Int32 → Option Int32) (σ : Hp) (x0 : Nat) (x1 : Int32) (x2 : Int32) : Option Int32 :=
  (h_gI σ 1 x0 1).bind fun v4 =>
  if v4 ≤ x2 then (
    some (-1 : Int32))
  else (
    (h_gR σ 1 x0 0).bind fun v11 =>
    (h_aR σ 17 v11 x2).bind fun v15 =>
    (h_gI σ 5 v15 0).bind fun v16 =>
    if v16 = x1 then (
      some x2)
    else (
      rec2 σ x0 x1 (x2 + 1)))
def f_X1_placeOf_2 (n : Nat) : Hp → Nat → Int32 → Int32 → Option Int32 := Nat.rec (motive := fun _ => Hp → Nat → Int32 → Int32 → Option Int32) (fun _ _ _ _ => none) (fun _ rec => b_X1_placeOf_2 rec) n
def f_X1_placeOf (σ : Hp) (a0 : Nat) (a1 : Int32) : Option Int32 :=
  f_X1_placeOf_2 lf σ a0 a1 (0 : Int32)
def f_X1_takeOut_47 (σ : Hp) (x0 : Nat) (x2 : Nat) : Option (Nat × Hp) :=
  (h_gR σ 1 x0 0).bind fun v48 =>
  (h_gI σ 1 x0 1).bind fun v52 =>
  (h_gR σ 1 x0 4).bind fun v56 =>
  (h_qR σ 17 5 v48 v52 v56).bind fun s59 =>
  (h_pR s59 1 x0 4 x2).bind fun s62 =>
  some (x2, s62)
def b_X1_takeOut_19 (rec19 : Hp → Nat → Nat → Int32 → Option (Nat × Hp)) (σ : Hp) (x0 : Nat) (x2 : Nat) (x3 : Int32) : Option (Nat × Hp) :=
  (h_gI σ 1 x0 1).bind fun v21 =>
  if v21 ≤ x3 then (
    f_X1_takeOut_47 σ x0 x2)
  else (
    (h_gR σ 1 x0 0).bind fun v28 =>
    (h_gR σ 1 x0 0).bind fun v33 =>
    (h_aR σ 17 v33 (x3 + (1 : Int32))).bind fun v39 =>
    (h_qR σ 17 5 v28 x3 v39).bind fun s40 =>
    rec19 s40 x0 x2 (x3 + 1))
def f_X1_takeOut_19 (n : Nat) : Hp → Nat → Nat → Int32 → Option (Nat × Hp) := Nat.rec (motive := fun _ => Hp → Nat → Nat → Int32 → Option (Nat × Hp)) (fun _ _ _ _ => none) (fun _ rec => b_X1_takeOut_19 rec) n
def f_X1_takeOut (σ : Hp) (a0 : Nat) (a1 : Int32) : Option (Nat × Hp) :=
  (h_gR σ 1 a0 0).bind fun v1 =>
  (h_aR σ 17 v1 a1).bind fun v5 =>
  (h_gI σ 1 a0 1).bind fun v9 =>
  (h_pI σ 1 a0 1 (v9 - (1 : Int32))).bind fun s14 =>
  f_X1_takeOut_19 lf s14 a0 v5 a1
def f_X2_ask (σ : Hp) (a0 : Nat) (a1 : Int32) : Option Hp :=
  (h_gI σ 2 a0 0).bind fun v2 =>
  (h_pI σ 2 a0 0 (v2 + (1 : Int32))).bind fun s7 =>
  (h_pI s7 2 a0 1 a1).bind fun s12 =>
  (h_pI s12 2 a0 2 (1 : Int32)).bind fun s17 =>
  (h_pI s17 2 a0 11 (0 : Int32)).bind fun s22 =>
  (h_pI s22 2 a0 12 (0 : Int32)).bind fun s27 =>
  some s27
def f_X2_placeOf_41 (σ : Hp) (x0 : Nat) (x1 : Nat) (x2 : Int32) : Option (Int32 × Hp) :=
  (h_gI σ 2 x0 12).bind fun v42 =>
  (h_gI σ 2 x0 12).bind fun v48 =>
  (h_pI σ 2 x0 12 ((v48 + (1 : Int32)) - (v48 + (1 : Int32)) / (64 : Int32) * (64 : Int32))).bind fun s56 =>
  (h_gI s56 2 x0 11).bind fun v61 =>
  (f_J9_min_7cf53 (v61 + (1 : Int32)) (64 : Int32)).bind fun v68 =>
  (h_pI s56 2 x0 11 v68).bind fun s71 =>
  (h_gR s71 2 x0 7).bind fun v75 =>
  (h_qR s71 19 9 v75 v42 x1).bind fun s80 =>
  (h_gR s80 2 x0 8).bind fun v82 =>
  (h_qI s80 v82 v42 x2).bind fun s87 =>
  (h_gR s87 2 x0 9).bind fun v89 =>
  (h_qI s87 v89 v42 (0 : Int32)).bind fun s94 =>
  (h_gR s94 2 x0 10).bind fun v96 =>
  (h_qI s94 v96 v42 (0 : Int32)).bind fun s101 =>
  some (v42, s101)
def f_X2_placeOf_35 (rec2 : Hp → Nat → Nat → Int32 → Int32 → Option (Int32 × Hp)) (σ : Hp) (x0 : Nat) (x1 : Nat) (x2 : Int32) (x3 : Int32) : Option (Int32 × Hp) :=
  rec2 σ x0 x1 x2 (x3 + 1)
def b_X2_placeOf_2 (rec2 : Hp → Nat → Nat → Int32 → Int32 → Option (Int32 × Hp)) (σ : Hp) (x0 : Nat) (x1 : Nat) (x2 : Int32) (x3 : Int32) : Option (Int32 × Hp) :=
  (h_gI σ 2 x0 11).bind fun v4 =>
  if v4 ≤ x3 then (
    f_X2_placeOf_41 σ x0 x1 x2)
  else (
    (h_gR σ 2 x0 8).bind fun v11 =>
    (h_aI σ v11 x3).bind fun v15 =>
    if v15 = x2 then (
      (h_gR σ 2 x0 7).bind fun v21 =>
      (h_aR σ 19 v21 x3).bind fun v25 =>
      (h_gO σ 9 v25).bind fun _ =>
      (f_X9_isSame σ v25 x1).bind fun v27 =>
      if v27 = 0 then (
        f_X2_placeOf_35 rec2 σ x0 x1 x2 x3)
      else (
        some (x3, σ)))
    else (
      f_X2_placeOf_35 rec2 σ x0 x1 x2 x3))
def f_X2_placeOf_2 (n : Nat) : Hp → Nat → Nat → Int32 → Int32 → Option (Int32 × Hp) := Nat.rec (motive := fun _ => Hp → Nat → Nat → Int32 → Int32 → Option (Int32 × Hp)) (fun _ _ _ _ _ => none) (fun _ rec => b_X2_placeOf_2 rec) n
def f_X2_placeOf (σ : Hp) (a0 : Nat) (a1 : Nat) (a2 : Int32) : Option (Int32 × Hp) :=
  f_X2_placeOf_2 lf σ a0 a1 a2 (0 : Int32)
def f_J9_floorMod_7cf53 (a0 : Int32) (a1 : Int32) : Option Int32 :=
  (h_nz a1).bind fun _ =>
  if 0 ≤ (a0 ^^^ a1) then (
    some (a0 - a0 / a1 * a1))
  else (
    if (a0 - a0 / a1 * a1) = 0 then (
      some (a0 - a0 / a1 * a1))
    else (
      some ((a0 - a0 / a1 * a1) + a1)))
def f_X9_leader (σ : Hp) (a0 : Nat) (a1 : Int32) : Option Int32 :=
  (h_gI σ 9 a0 0).bind fun v1 =>
  (f_J9_floorMod_7cf53 v1 a1).bind fun v5 =>
  some v5
def f_J6_bitCount_0f7a4 (a0 : Int32) : Option Int32 :=
  some ((((((((a0 - (((a0.toUInt32 >>> ((1 : Int32).toUInt32 &&& Int32.toUInt32 31)).toInt32) &&& (1431655765 : Int32))) &&& (858993459 : Int32)) + ((((a0 - (((a0.toUInt32 >>> ((1 : Int32).toUInt32 &&& Int32.toUInt32 31)).toInt32) &&& (1431655765 : Int32))).toUInt32 >>> ((2 : Int32).toUInt32 &&& Int32.toUInt32 31)).toInt32) &&& (858993459 : Int32))) + (((((a0 - (((a0.toUInt32 >>> ((1 : Int32).toUInt32 &&& Int32.toUInt32 31)).toInt32) &&& (1431655765 : Int32))) &&& (858993459 : Int32)) + ((((a0 - (((a0.toUInt32 >>> ((1 : Int32).toUInt32 &&& Int32.toUInt32 31)).toInt32) &&& (1431655765 : Int32))).toUInt32 >>> ((2 : Int32).toUInt32 &&& Int32.toUInt32 31)).toInt32) &&& (858993459 : Int32))).toUInt32 >>> ((4 : Int32).toUInt32 &&& Int32.toUInt32 31)).toInt32)) &&& (252645135 : Int32)) + (((((((a0 - (((a0.toUInt32 >>> ((1 : Int32).toUInt32 &&& Int32.toUInt32 31)).toInt32) &&& (1431655765 : Int32))) &&& (858993459 : Int32)) + ((((a0 - (((a0.toUInt32 >>> ((1 : Int32).toUInt32 &&& Int32.toUInt32 31)).toInt32) &&& (1431655765 : Int32))).toUInt32 >>> ((2 : Int32).toUInt32 &&& Int32.toUInt32 31)).toInt32) &&& (858993459 : Int32))) + (((((a0 - (((a0.toUInt32 >>> ((1 : Int32).toUInt32 &&& Int32.toUInt32 31)).toInt32) &&& (1431655765 : Int32))) &&& (858993459 : Int32)) + ((((a0 - (((a0.toUInt32 >>> ((1 : Int32).toUInt32 &&& Int32.toUInt32 31)).toInt32) &&& (1431655765 : Int32))).toUInt32 >>> ((2 : Int32).toUInt32 &&& Int32.toUInt32 31)).toInt32) &&& (858993459 : Int32))).toUInt32 >>> ((4 : Int32).toUInt32 &&& Int32.toUInt32 31)).toInt32)) &&& (252645135 : Int32)).toUInt32 >>> ((8 : Int32).toUInt32 &&& Int32.toUInt32 31)).toInt32)) + ((((((((a0 - (((a0.toUInt32 >>> ((1 : Int32).toUInt32 &&& Int32.toUInt32 31)).toInt32) &&& (1431655765 : Int32))) &&& (858993459 : Int32)) + ((((a0 - (((a0.toUInt32 >>> ((1 : Int32).toUInt32 &&& Int32.toUInt32 31)).toInt32) &&& (1431655765 : Int32))).toUInt32 >>> ((2 : Int32).toUInt32 &&& Int32.toUInt32 31)).toInt32) &&& (858993459 : Int32))) + (((((a0 - (((a0.toUInt32 >>> ((1 : Int32).toUInt32 &&& Int32.toUInt32 31)).toInt32) &&& (1431655765 : Int32))) &&& (858993459 : Int32)) + ((((a0 - (((a0.toUInt32 >>> ((1 : Int32).toUInt32 &&& Int32.toUInt32 31)).toInt32) &&& (1431655765 : Int32))).toUInt32 >>> ((2 : Int32).toUInt32 &&& Int32.toUInt32 31)).toInt32) &&& (858993459 : Int32))).toUInt32 >>> ((4 : Int32).toUInt32 &&& Int32.toUInt32 31)).toInt32)) &&& (252645135 : Int32)) + (((((((a0 - (((a0.toUInt32 >>> ((1 : Int32).toUInt32 &&& Int32.toUInt32 31)).toInt32) &&& (1431655765 : Int32))) &&& (858993459 : Int32)) + ((((a0 - (((a0.toUInt32 >>> ((1 : Int32).toUInt32 &&& Int32.toUInt32 31)).toInt32) &&& (1431655765 : Int32))).toUInt32 >>> ((2 : Int32).toUInt32 &&& Int32.toUInt32 31)).toInt32) &&& (858993459 : Int32))) + (((((a0 - (((a0.toUInt32 >>> ((1 : Int32).toUInt32 &&& Int32.toUInt32 31)).toInt32) &&& (1431655765 : Int32))) &&& (858993459 : Int32)) + ((((a0 - (((a0.toUInt32 >>> ((1 : Int32).toUInt32 &&& Int32.toUInt32 31)).toInt32) &&& (1431655765 : Int32))).toUInt32 >>> ((2 : Int32).toUInt32 &&& Int32.toUInt32 31)).toInt32) &&& (858993459 : Int32))).toUInt32 >>> ((4 : Int32).toUInt32 &&& Int32.toUInt32 31)).toInt32)) &&& (252645135 : Int32)).toUInt32 >>> ((8 : Int32).toUInt32 &&& Int32.toUInt32 31)).toInt32)).toUInt32 >>> ((16 : Int32).toUInt32 &&& Int32.toUInt32 31)).toInt32)) &&& (63 : Int32))
def f_X2_hear_79 (σ : Hp) (x0 : Nat) (x1 : Nat) (x2 : Int32) (x3 : Int32) : Option (Int32 × Hp) :=
  (h_gR σ 2 x0 9).bind fun v80 =>
  (h_aI σ v80 x2).bind fun v84 =>
  (f_J6_bitCount_0f7a4 v84).bind fun v85 =>
  (h_gI σ 2 x0 6).bind fun v89 =>
  if v85 ≤ (v89 / (2 : Int32)) then (
    some ((0 : Int32), σ))
  else (
    (h_gR σ 2 x0 9).bind fun v98 =>
    (h_aI σ v98 x2).bind fun v102 =>
    if (v102 &&& ((1 : Int32) <<< (x3 &&& 31))) = 0 then (
      some ((0 : Int32), σ))
    else (
      (h_pI σ 2 x0 2 (2 : Int32)).bind fun s114 =>
      (h_gR s114 5 x1 4).bind fun v119 =>
      (h_pR s114 2 x0 3 v119).bind fun s122 =>
      (h_gI s122 5 x1 6).bind fun v127 =>
      (h_pI s122 2 x0 4 v127).bind fun s130 =>
      (h_gR s130 2 x0 10).bind fun v135 =>
      (h_aI s130 v135 x2).bind fun v139 =>
      (h_pI s130 2 x0 5 v139).bind fun s140 =>
      some ((1 : Int32), s140)))
def f_X2_hear (σ : Hp) (a0 : Nat) (a1 : Nat) : Option (Int32 × Hp) :=
  (h_gI σ 2 a0 2).bind fun v1 =>
  if v1 = (1 : Int32) then (
    (h_gI σ 5 a1 7).bind fun v9 =>
    (h_gI σ 2 a0 1).bind fun v13 =>
    if v9 = v13 then (
      (h_gR σ 5 a1 4).bind fun v23 =>
      (h_gI σ 5 a1 6).bind fun v27 =>
      (h_gO σ 2 a0).bind fun _ =>
      (f_X2_placeOf σ a0 v23 v27).bind fun v30 =>
      (h_gR v30.2 5 a1 4).bind fun v35 =>
      (h_gI v30.2 2 a0 6).bind fun v39 =>
      (h_gO v30.2 9 v35).bind fun _ =>
      (f_X9_leader v30.2 v35 v39).bind fun v42 =>
      (h_gR v30.2 2 a0 9).bind fun v47 =>
      (h_aI v30.2 v47 v30.1).bind fun v52 =>
      (h_gI v30.2 5 a1 2).bind fun v55 =>
      (h_qI v30.2 v47 v30.1 (v52 ||| ((1 : Int32) <<< (v55 &&& 31)))).bind fun s60 =>
      (h_gI s60 5 a1 2).bind fun v62 =>
      if v62 = v42 then (
        (h_gR s60 2 a0 10).bind fun v70 =>
        (h_gI s60 5 a1 8).bind fun v75 =>
        (h_qI s60 v70 v30.1 v75).bind fun s78 =>
        f_X2_hear_79 s78 a0 a1 v30.1 v42)
      else (
        f_X2_hear_79 s60 a0 a1 v30.1 v42))
    else (
      some ((0 : Int32), σ)))
  else (
    some ((0 : Int32), σ))
def b_X3_indexOf_2 (rec2 : Hp → Nat → Int32 → Int32 → Option Int32) (σ : Hp) (x0 : Nat) (x1 : Int32) (x2 : Int32) : Option Int32 :=
  (h_gI σ 3 x0 2).bind fun v4 =>
  if v4 ≤ x2 then (
    some (-1 : Int32))
  else (
    (h_gR σ 3 x0 0).bind fun v11 =>
    (h_aI σ v11 x2).bind fun v15 =>
    if v15 = x1 then (
      some x2)
    else (
      rec2 σ x0 x1 (x2 + 1)))
def f_X3_indexOf_2 (n : Nat) : Hp → Nat → Int32 → Int32 → Option Int32 := Nat.rec (motive := fun _ => Hp → Nat → Int32 → Int32 → Option Int32) (fun _ _ _ _ => none) (fun _ rec => b_X3_indexOf_2 rec) n
def f_X3_indexOf (σ : Hp) (a0 : Nat) (a1 : Int32) : Option Int32 :=
  f_X3_indexOf_2 lf σ a0 a1 (0 : Int32)
def f_X3_has (σ : Hp) (a0 : Nat) (a1 : Int32) : Option Int32 :=
  (h_gO σ 3 a0).bind fun _ =>
  (f_X3_indexOf σ a0 a1).bind fun v2 =>
  if v2 = (-1 : Int32) then (
    some (0 : Int32))
  else (
    some (1 : Int32))
def f_X3_remove (σ : Hp) (a0 : Nat) (a1 : Int32) : Option (Int32 × Hp) :=
  (h_gO σ 3 a0).bind fun _ =>
  (f_X3_indexOf σ a0 a1).bind fun v2 =>
  if v2 = (-1 : Int32) then (
    some ((0 : Int32), σ))
  else (
    (h_gR σ 3 a0 1).bind fun v14 =>
    (h_aI σ v14 v2).bind fun v18 =>
    (h_gI σ 3 a0 2).bind fun v22 =>
    (h_pI σ 3 a0 2 (v22 - (1 : Int32))).bind fun s27 =>
    (h_gR s27 3 a0 0).bind fun v31 =>
    (h_gR s27 3 a0 0).bind fun v36 =>
    (h_gI s27 3 a0 2).bind fun v40 =>
    (h_aI s27 v36 v40).bind fun v43 =>
    (h_qI s27 v31 v2 v43).bind fun s44 =>
    (h_gR s44 3 a0 1).bind fun v46 =>
    (h_gR s44 3 a0 1).bind fun v51 =>
    (h_gI s44 3 a0 2).bind fun v55 =>
    (h_aI s44 v51 v55).bind fun v58 =>
    (h_qI s44 v46 v2 v58).bind fun s59 =>
    some (v18, s59))
def f_X3_put (σ : Hp) (a0 : Nat) (a1 : Int32) (a2 : Int32) : Option Hp :=
  (h_gO σ 3 a0).bind fun _ =>
  (f_X3_remove σ a0 a1).bind fun v2 =>
  (h_gI v2.2 3 a0 2).bind fun v7 =>
  if (8 : Int32) < v7 then (
    some v2.2)
  else (
    (h_gR v2.2 3 a0 0).bind fun v16 =>
    (h_gI v2.2 3 a0 2).bind fun v20 =>
    (h_qI v2.2 v16 v20 a1).bind fun s24 =>
    (h_gR s24 3 a0 1).bind fun v26 =>
    (h_gI s24 3 a0 2).bind fun v30 =>
    (h_qI s24 v26 v30 a2).bind fun s34 =>
    (h_gI s34 3 a0 2).bind fun v37 =>
    (h_pI s34 3 a0 2 (v37 + (1 : Int32))).bind fun s42 =>
    some s42)
def f_X4_has (σ : Hp) (a0 : Nat) (a1 : Int32) : Option Int32 :=
  if a1 < (1 : Int32) then (
    some (0 : Int32))
  else (
    (h_gI σ 4 a0 1).bind fun v7 =>
    if v7 < a1 then (
      some (0 : Int32))
    else (
      some (1 : Int32)))
def f_X4_isFull (σ : Hp) (a0 : Nat) : Option Int32 :=
  (h_gI σ 4 a0 1).bind fun v1 =>
  if v1 < (100 : Int32) then (
    some (0 : Int32))
  else (
    some (1 : Int32))
def f_J9_max_7cf53 (a0 : Int32) (a1 : Int32) : Option Int32 :=
  if a0 < a1 then (
    some a1)
  else (
    some a0)
def f_X4_put (σ : Hp) (a0 : Nat) (a1 : Int32) (a2 : Int32) : Option Hp :=
  if a1 < (1 : Int32) then (
    some σ)
  else (
    if (100 : Int32) < a1 then (
      some σ)
    else (
      (h_gI σ 4 a0 1).bind fun v13 =>
      if a1 ≤ (v13 + (1 : Int32)) then (
        (h_gR σ 4 a0 0).bind fun v23 =>
        (h_qI σ v23 (a1 - (1 : Int32)) a2).bind fun s30 =>
        (h_gI s30 4 a0 1).bind fun v33 =>
        (f_J9_max_7cf53 v33 a1).bind fun v37 =>
        (h_pI s30 4 a0 1 v37).bind fun s40 =>
        some s40)
      else (
        some σ)))
def f_X4_copy (σ : Hp) (a0 : Nat) (a1 : Nat) : Option Hp :=
  (h_gR σ 4 a1 0).bind fun v1 =>
  (h_gR σ 4 a0 0).bind fun v6 =>
  (h_gI σ 4 a1 1).bind fun v11 =>
  (h_cp σ v1 v6 (0 : Int32) (0 : Int32) v11).bind fun s14 =>
  (h_gI s14 4 a1 1).bind fun v19 =>
  (h_pI s14 4 a0 1 v19).bind fun s22 =>
  some s22
def f_X4_copyFirst (σ : Hp) (a0 : Nat) (a1 : Nat) (a2 : Int32) : Option Hp :=
  (h_gR σ 4 a1 0).bind fun v1 =>
  (h_gR σ 4 a0 0).bind fun v6 =>
  (h_gI σ 4 a1 1).bind fun v12 =>
  (f_J9_min_7cf53 a2 v12).bind fun v15 =>
  (h_cp σ v1 v6 (0 : Int32) (0 : Int32) v15).bind fun s18 =>
  some s18
def f_X6_leads (σ : Hp) (a0 : Nat) : Option Int32 :=
  (h_gR σ 6 a0 4).bind fun v1 =>
  (h_gI σ 9 v1 0).bind fun v4 =>
  (h_gI σ 6 a0 10).bind fun v8 =>
  (f_J9_floorMod_7cf53 v4 v8).bind fun v11 =>
  (h_gI σ 6 a0 9).bind fun v15 =>
  if v11 = v15 then (
    some (1 : Int32))
  else (
    some (0 : Int32))
def f_X6_executed (σ : Hp) (a0 : Nat) : Option Int32 :=
  (h_gO σ 6 a0).bind fun _ =>
  (f_X6_leads σ a0).bind fun v1 =>
  if v1 = 0 then (
    (h_gI σ 6 a0 7).bind fun v26 =>
    (h_gR σ 6 a0 0).bind fun v30 =>
    (h_gI σ 4 v30 1).bind fun v33 =>
    (f_J9_min_7cf53 v26 v33).bind fun v36 =>
    some v36)
  else (
    (h_gI σ 6 a0 3).bind fun v8 =>
    if v8 = (2 : Int32) then (
      (h_gI σ 6 a0 7).bind fun v26 =>
      (h_gR σ 6 a0 0).bind fun v30 =>
      (h_gI σ 4 v30 1).bind fun v33 =>
      (f_J9_min_7cf53 v26 v33).bind fun v36 =>
      some v36)
    else (
      (h_gR σ 6 a0 0).bind fun v16 =>
      (h_gI σ 4 v16 1).bind fun v19 =>
      some v19))
def f_X8_clear (σ : Hp) (a0 : Nat) : Option Hp :=
  (h_pI σ 8 a0 0 (0 : Int32)).bind fun s2 =>
  (h_pI s2 8 a0 1 (0 : Int32)).bind fun s7 =>
  (h_pI s7 8 a0 3 (0 : Int32)).bind fun s12 =>
  some s12
def f_X6_forget (σ : Hp) (a0 : Nat) : Option Hp :=
  (h_gR σ 6 a0 1).bind fun v1 =>
  (h_pI σ 3 v1 2 (0 : Int32)).bind fun s5 =>
  (h_gR s5 6 a0 14).bind fun v9 =>
  (h_gO s5 8 v9).bind fun _ =>
  (f_X8_clear s5 v9).bind fun v12 =>
  some v12
def f_X6_send (σ : Hp) (a0 : Nat) (a1 : Int32) (a2 : Int32) (a3 : Int32) : Option (Nat × Hp) :=
  (h_gR σ 6 a0 13).bind fun v1 =>
  (h_gI σ 6 a0 9).bind fun v6 =>
  (h_gO σ 1 v1).bind fun _ =>
  (f_X1_send σ v1 a1 v6 a2).bind fun v10 =>
  (h_gR v10.2 6 a0 4).bind fun v18 =>
  (h_pR v10.2 5 v10.1 4 v18).bind fun s21 =>
  (h_pI s21 5 v10.1 6 a3).bind fun s27 =>
  some (v10.1, s27)
def f_X6_sendToOthers_26 (rec2 : Hp → Nat → Int32 → Int32 → Int32 → Option Hp) (σ : Hp) (x0 : Nat) (x1 : Int32) (x2 : Int32) (x3 : Int32) : Option Hp :=
  rec2 σ x0 x1 x2 (x3 + 1)
def b_X6_sendToOthers_2 (rec2 : Hp → Nat → Int32 → Int32 → Int32 → Option Hp) (σ : Hp) (x0 : Nat) (x1 : Int32) (x2 : Int32) (x3 : Int32) : Option Hp :=
  (h_gI σ 6 x0 10).bind fun v4 =>
  if v4 ≤ x3 then (
    some σ)
  else (
    (h_gI σ 6 x0 9).bind fun v12 =>
    if x3 = v12 then (
      f_X6_sendToOthers_26 rec2 σ x0 x1 x2 x3)
    else (
      (h_gO σ 6 x0).bind fun _ =>
      (f_X6_send σ x0 x1 x3 x2).bind fun v22 =>
      f_X6_sendToOthers_26 rec2 v22.2 x0 x1 x2 x3))
def f_X6_sendToOthers_2 (n : Nat) : Hp → Nat → Int32 → Int32 → Int32 → Option Hp := Nat.rec (motive := fun _ => Hp → Nat → Int32 → Int32 → Int32 → Option Hp) (fun _ _ _ _ _ => none) (fun _ rec => b_X6_sendToOthers_2 rec) n
def f_X6_sendToOthers (σ : Hp) (a0 : Nat) (a1 : Int32) (a2 : Int32) : Option Hp :=
  f_X6_sendToOthers_2 lf σ a0 a1 a2 (0 : Int32)
def f_X6_sendLog (σ : Hp) (a0 : Nat) (a1 : Int32) (a2 : Int32) : Option Hp :=
  (h_gR σ 6 a0 0).bind fun v4 =>
  (h_gI σ 4 v4 1).bind fun v7 =>
  (h_gO σ 6 a0).bind fun _ =>
  (f_X6_send σ a0 a1 a2 v7).bind fun v10 =>
  (h_gR v10.2 6 a0 5).bind fun v16 =>
  (h_pR v10.2 5 v10.1 9 v16).bind fun s19 =>
  (h_gI s19 6 a0 6).bind fun v24 =>
  (h_pI s19 5 v10.1 10 v24).bind fun s27 =>
  (h_gR s27 5 v10.1 11).bind fun v31 =>
  (h_gR s27 6 a0 0).bind fun v35 =>
  (h_gO s27 4 v31).bind fun _ =>
  (f_X4_copy s27 v31 v35).bind fun v38 =>
  some v38
def f_X6_sendTurns (σ : Hp) (a0 : Nat) : Option Hp :=
  (h_gO σ 6 a0).bind fun _ =>
  (f_X6_sendToOthers σ a0 (8 : Int32) (0 : Int32)).bind fun v4 =>
  (h_gO v4 6 a0).bind fun _ =>
  (f_X6_leads v4 a0).bind fun v8 =>
  if v8 = 0 then (
    (h_gR v4 6 a0 4).bind fun v18 =>
    (h_gI v4 6 a0 10).bind fun v22 =>
    (h_gO v4 9 v18).bind fun _ =>
    (f_X9_leader v4 v18 v22).bind fun v25 =>
    (h_gO v4 6 a0).bind fun _ =>
    (f_X6_sendLog v4 a0 (9 : Int32) v25).bind fun v28 =>
    some v28)
  else (
    some v4)
def f_X6_turnTo (σ : Hp) (a0 : Nat) (a1 : Nat) : Option Hp :=
  (h_pR σ 6 a0 4 a1).bind fun s2 =>
  (h_pI s2 6 a0 3 (2 : Int32)).bind fun s7 =>
  (h_gO s7 6 a0).bind fun _ =>
  (f_X6_forget s7 a0).bind fun v11 =>
  (h_pI v11 6 a0 8 (0 : Int32)).bind fun s16 =>
  (h_gO s16 6 a0).bind fun _ =>
  (f_X6_sendTurns s16 a0).bind fun v20 =>
  some v20
def f_X6_askAgain (σ : Hp) (a0 : Nat) : Option Hp :=
  (h_gI σ 6 a0 3).bind fun v1 =>
  if v1 = (1 : Int32) then (
    (h_gR σ 6 a0 0).bind fun v11 =>
    (h_gI σ 4 v11 1).bind fun v14 =>
    (h_gO σ 6 a0).bind fun _ =>
    (f_X6_sendToOthers σ a0 (3 : Int32) v14).bind fun v17 =>
    some v17)
  else (
    (h_gI σ 6 a0 3).bind fun v24 =>
    if v24 = (2 : Int32) then (
      (h_gO σ 6 a0).bind fun _ =>
      (f_X6_sendTurns σ a0).bind fun v32 =>
      some v32)
    else (
      (h_gO σ 6 a0).bind fun _ =>
      (f_X6_leads σ a0).bind fun v39 =>
      if v39 = 0 then (
        (h_gR σ 6 a0 1).bind fun v46 =>
        (h_gI σ 3 v46 2).bind fun v49 =>
        if v49 ≤ 0 then (
          some σ)
        else (
          (h_gR σ 6 a0 4).bind fun v58 =>
          (h_gI σ 6 a0 10).bind fun v62 =>
          (h_gO σ 9 v58).bind fun _ =>
          (f_X9_leader σ v58 v62).bind fun v65 =>
          (h_gR σ 6 a0 0).bind fun v69 =>
          (h_gI σ 4 v69 1).bind fun v72 =>
          (h_gO σ 6 a0).bind fun _ =>
          (f_X6_send σ a0 (1 : Int32) v65 (v72 + (1 : Int32))).bind fun v77 =>
          some v77.2))
      else (
        some σ)))
def f_X9_init (σ : Hp) (a0 : Nat) (a1 : Int32) (a2 : Int32) : Option Hp :=
  (h_pI σ 9 a0 0 a1).bind fun s6 =>
  (h_pI s6 9 a0 1 a2).bind fun s11 =>
  some s11
def f_X10_isNew (σ : Hp) (a0 : Nat) (a1 : Int32) : Option Int32 :=
  (h_gR σ 10 a0 1).bind fun v1 =>
  (h_gR σ 7 v1 1).bind fun v4 =>
  (h_aI σ v4 a1).bind fun v8 =>
  (h_gR σ 10 a0 1).bind fun v10 =>
  (h_gR σ 7 v10 1).bind fun v13 =>
  (h_gR σ 10 a0 2).bind fun v17 =>
  (h_gR σ 10 a0 1).bind fun v21 =>
  (h_gR σ 7 v21 0).bind fun v24 =>
  (h_aI σ v24 a1).bind fun v28 =>
  (h_aI σ v17 v28).bind fun v29 =>
  (h_aI σ v13 v29).bind fun v30 =>
  if v8 ≤ v30 then (
    some (0 : Int32))
  else (
    some (1 : Int32))
def f_X10_executeRequest (σ : Hp) (a0 : Nat) (a1 : Int32) : Option Hp :=
  (h_gR σ 10 a0 1).bind fun v1 =>
  (h_gR σ 7 v1 3).bind fun v4 =>
  (h_aI σ v4 a1).bind fun v8 =>
  (h_gR σ 10 a0 2).bind fun v11 =>
  (h_gR σ 10 a0 1).bind fun v15 =>
  (h_gR σ 7 v15 0).bind fun v18 =>
  (h_aI σ v18 a1).bind fun v22 =>
  (h_qI σ v11 v22 a1).bind fun s24 =>
  (h_gR s24 10 a0 3).bind fun v26 =>
  (h_qI s24 v26 a1 (1 : Int32)).bind fun s31 =>
  (h_gR s31 10 a0 4).bind fun v33 =>
  (h_gR s31 10 a0 0).bind fun v38 =>
  (h_aI s31 v38 v8).bind fun v42 =>
  (h_qI s31 v33 a1 v42).bind fun s43 =>
  (h_gR s43 10 a0 1).bind fun v45 =>
  (h_gR s43 7 v45 2).bind fun v48 =>
  (h_aI s43 v48 a1).bind fun v52 =>
  if v52 = (1 : Int32) then (
    (h_gR s43 10 a0 0).bind fun v58 =>
    (h_gR s43 10 a0 1).bind fun v63 =>
    (h_gR s43 7 v63 4).bind fun v66 =>
    (h_aI s43 v66 a1).bind fun v70 =>
    (h_qI s43 v58 v8 v70).bind fun s71 =>
    some s71)
  else (
    (h_gR s43 10 a0 1).bind fun v76 =>
    (h_gR s43 7 v76 2).bind fun v79 =>
    (h_aI s43 v79 a1).bind fun v83 =>
    if v83 = (2 : Int32) then (
      (h_gR s43 10 a0 0).bind fun v89 =>
      (h_aI s43 v89 v8).bind fun v94 =>
      (h_gR s43 10 a0 1).bind fun v96 =>
      (h_gR s43 7 v96 4).bind fun v99 =>
      (h_aI s43 v99 a1).bind fun v103 =>
      (h_qI s43 v89 v8 (v94 + v103)).bind fun s105 =>
      some s105)
    else (
      some s43))
def f_X10_execute_58 (rec26 : Hp → Nat → Nat → Int32 → Int32 → Option Hp) (σ : Hp) (x0 : Nat) (x1 : Nat) (x2 : Int32) (x3 : Int32) : Option Hp :=
  rec26 σ x0 x1 x2 (x3 + 1)
def b_X10_execute_26 (rec26 : Hp → Nat → Nat → Int32 → Int32 → Option Hp) (σ : Hp) (x0 : Nat) (x1 : Nat) (x2 : Int32) (x3 : Int32) : Option Hp :=
  if x2 < x3 then (
    some σ)
  else (
    (h_gO σ 4 x1).bind fun _ =>
    (f_X4_at σ x1 x3).bind fun v33 =>
    if v33 = 0 then (
      f_X10_execute_58 rec26 σ x0 x1 x2 x3)
    else (
      (h_gO σ 10 x0).bind fun _ =>
      (f_X10_isNew σ x0 v33).bind fun v46 =>
      if v46 = 0 then (
        f_X10_execute_58 rec26 σ x0 x1 x2 x3)
      else (
        (h_gO σ 10 x0).bind fun _ =>
        (f_X10_executeRequest σ x0 v33).bind fun v55 =>
        f_X10_execute_58 rec26 v55 x0 x1 x2 x3)))
def f_X10_execute_26 (n : Nat) : Hp → Nat → Nat → Int32 → Int32 → Option Hp := Nat.rec (motive := fun _ => Hp → Nat → Nat → Int32 → Int32 → Option Hp) (fun _ _ _ _ _ => none) (fun _ rec => b_X10_execute_26 rec) n
def f_X10_execute (σ : Hp) (a0 : Nat) (a1 : Nat) (a2 : Int32) : Option Hp :=
  (h_gR σ 10 a0 0).bind fun v1 =>
  (f_J7_fill_53178 σ v1 (0 : Int32)).bind fun v5 =>
  (h_gR v5 10 a0 2).bind fun v9 =>
  (f_J7_fill_53178 v5 v9 (0 : Int32)).bind fun v13 =>
  (h_gR v13 10 a0 3).bind fun v17 =>
  (f_J7_fill_53178 v13 v17 (0 : Int32)).bind fun v21 =>
  f_X10_execute_26 lf v21 a0 a1 a2 (1 : Int32)
def f_X10_isLatest (σ : Hp) (a0 : Nat) (a1 : Int32) : Option Int32 :=
  (h_gR σ 10 a0 2).bind fun v1 =>
  (h_gR σ 10 a0 1).bind fun v5 =>
  (h_gR σ 7 v5 0).bind fun v8 =>
  (h_aI σ v8 a1).bind fun v12 =>
  (h_aI σ v1 v12).bind fun v13 =>
  if v13 = a1 then (
    some (1 : Int32))
  else (
    some (0 : Int32))
def f_X6_reply_48 (σ : Hp) (x0 : Nat) (x1 : Int32) (x2 : Int32) (x3 : Int32) : Option Hp :=
  (h_gR σ 6 x0 11).bind fun v52 =>
  (h_gR σ 7 v52 0).bind fun v55 =>
  (h_aI σ v55 x2).bind fun v59 =>
  (h_gO σ 6 x0).bind fun _ =>
  (f_X6_send σ x0 (11 : Int32) v59 x1).bind fun v61 =>
  (h_pI v61.2 5 v61.1 7 x2).bind fun s69 =>
  (h_pI s69 5 v61.1 8 x3).bind fun s75 =>
  some s75
def f_X6_reply (σ : Hp) (a0 : Nat) (a1 : Int32) (a2 : Int32) : Option Hp :=
  (h_gO σ 6 a0).bind fun _ =>
  (f_X6_leads σ a0).bind fun v3 =>
  if v3 = 0 then (
    f_X6_reply_48 σ a0 a1 a2 (0 : Int32))
  else (
    (h_gR σ 6 a0 12).bind fun v10 =>
    (h_gR σ 6 a0 0).bind fun v14 =>
    (h_gR σ 6 a0 0).bind fun v18 =>
    (h_gI σ 4 v18 1).bind fun v21 =>
    (h_gO σ 10 v10).bind fun _ =>
    (f_X10_execute σ v10 v14 v21).bind fun v24 =>
    (h_gR v24 6 a0 12).bind fun v28 =>
    (h_gO v24 10 v28).bind fun _ =>
    (f_X10_isLatest v24 v28 a2).bind fun v32 =>
    if v32 = 0 then (
      some v24)
    else (
      (h_gR v24 6 a0 12).bind fun v40 =>
      (h_gO v24 10 v40).bind fun _ =>
      (f_X10_answerTo v24 v40 a2).bind fun v44 =>
      f_X6_reply_48 v24 a0 a1 a2 v44))
def f_X6_takeHeld_57 (σ : Hp) (x0 : Nat) : Option Hp :=
  (h_gR σ 6 x0 1).bind fun v58 =>
  (h_gI σ 3 v58 2).bind fun v61 =>
  if v61 = 0 then (
    some σ)
  else (
    (h_gR σ 6 x0 0).bind fun v68 =>
    (h_gO σ 4 v68).bind fun _ =>
    (f_X4_isFull σ v68).bind fun v71 =>
    if v71 = 0 then (
      (h_gO σ 6 x0).bind fun _ =>
      (f_X6_leads σ x0).bind fun v79 =>
      if v79 = 0 then (
        (h_gR σ 6 x0 4).bind fun v133 =>
        (h_gI σ 6 x0 10).bind fun v137 =>
        (h_gO σ 9 v133).bind fun _ =>
        (f_X9_leader σ v133 v137).bind fun v140 =>
        (h_gR σ 6 x0 0).bind fun v144 =>
        (h_gI σ 4 v144 1).bind fun v147 =>
        (h_gO σ 6 x0).bind fun _ =>
        (f_X6_send σ x0 (1 : Int32) v140 (v147 + (1 : Int32))).bind fun v152 =>
        some v152.2)
      else (
        (h_gR σ 6 x0 0).bind fun v86 =>
        (h_gR σ 6 x0 0).bind fun v90 =>
        (h_gI σ 4 v90 1).bind fun v93 =>
        (h_gO σ 4 v86).bind fun _ =>
        (f_X4_put σ v86 (v93 + (1 : Int32)) (0 : Int32)).bind fun v99 =>
        (h_pI v99 6 x0 3 (1 : Int32)).bind fun s104 =>
        (h_gR s104 6 x0 14).bind fun v108 =>
        (h_pI s104 8 v108 0 (0 : Int32)).bind fun s112 =>
        (h_gR s112 6 x0 0).bind fun v118 =>
        (h_gI s112 4 v118 1).bind fun v121 =>
        (h_gO s112 6 x0).bind fun _ =>
        (f_X6_sendToOthers s112 x0 (3 : Int32) v121).bind fun v124 =>
        some v124))
    else (
      some σ))
def b_X6_takeHeld_10 (rec10 : Hp → Nat → Int32 → Option Hp) (σ : Hp) (x0 : Nat) (x1 : Int32) : Option Hp :=
  if (100 : Int32) < x1 then (
    f_X6_takeHeld_57 σ x0)
  else (
    (h_gR σ 6 x0 1).bind fun v17 =>
    (h_gO σ 3 v17).bind fun _ =>
    (f_X3_has σ v17 x1).bind fun v21 =>
    if v21 = 0 then (
      f_X6_takeHeld_57 σ x0)
    else (
      (h_gR σ 6 x0 1).bind fun v28 =>
      (h_gO σ 3 v28).bind fun _ =>
      (f_X3_remove σ v28 x1).bind fun v32 =>
      (h_gR v32.2 6 x0 0).bind fun v37 =>
      (h_gO v32.2 4 v37).bind fun _ =>
      (f_X4_put v32.2 v37 x1 v32.1).bind fun v42 =>
      (h_gO v42 6 x0).bind fun _ =>
      (f_X6_reply v42 x0 x1 v32.1).bind fun v48 =>
      rec10 v48 x0 (x1 + 1)))
def f_X6_takeHeld_10 (n : Nat) : Hp → Nat → Int32 → Option Hp := Nat.rec (motive := fun _ => Hp → Nat → Int32 → Option Hp) (fun _ _ _ => none) (fun _ rec => b_X6_takeHeld_10 rec) n
def f_X6_takeHeld (σ : Hp) (a0 : Nat) : Option Hp :=
  (h_gR σ 6 a0 0).bind fun v1 =>
  (h_gI σ 4 v1 1).bind fun v4 =>
  f_X6_takeHeld_10 lf σ a0 (v4 + (1 : Int32))
def f_X6_receiveStamped (σ : Hp) (a0 : Nat) (a1 : Nat) : Option Hp :=
  (h_gI σ 5 a1 5).bind fun v1 =>
  (h_gR σ 6 a0 4).bind fun v5 =>
  (h_gI σ 9 v5 1).bind fun v8 =>
  if v1 ≤ v8 then (
    (h_gI σ 6 a0 6).bind fun v38 =>
    (h_gI σ 5 a1 6).bind fun v42 =>
    (h_gI σ 5 a1 5).bind fun v48 =>
    (h_gR σ 6 a0 4).bind fun v52 =>
    (h_gI σ 9 v52 1).bind fun v55 =>
    if v48 < v55 then (
      some σ)
    else (
      (h_gI σ 6 a0 3).bind fun v62 =>
      if v62 = (2 : Int32) then (
        some σ)
      else (
        (h_gR σ 6 a0 0).bind fun v71 =>
        (h_gI σ 4 v71 1).bind fun v74 =>
        if (v38 + v42) ≤ v74 then (
          some σ)
        else (
          (h_gR σ 6 a0 1).bind fun v81 =>
          (h_gO σ 3 v81).bind fun _ =>
          (f_X3_has σ v81 (v38 + v42)).bind fun v85 =>
          if v85 = 0 then (
            (h_gR σ 6 a0 1).bind fun v92 =>
            (h_gI σ 3 v92 2).bind fun v95 =>
            if v95 < (8 : Int32) then (
              (h_gR σ 6 a0 1).bind fun v105 =>
              (h_gI σ 5 a1 7).bind fun v110 =>
              (h_gO σ 3 v105).bind fun _ =>
              (f_X3_put σ v105 (v38 + v42) v110).bind fun v113 =>
              (h_gI v113 6 a0 3).bind fun v117 =>
              if v117 = 0 then (
                (h_gO v113 6 a0).bind fun _ =>
                (f_X6_takeHeld v113 a0).bind fun v124 =>
                some v124)
              else (
                some v113))
            else (
              some σ))
          else (
            some σ)))))
  else (
    (some (nw σ 9 0)).bind fun s15 =>
    (h_gR s15 6 a0 4).bind fun v20 =>
    (h_gI s15 9 v20 0).bind fun v23 =>
    (h_gI s15 5 a1 5).bind fun v27 =>
    (f_X9_init s15 (oN σ) v23 v27).bind fun v30 =>
    (h_gO v30 6 a0).bind fun _ =>
    (f_X6_turnTo v30 a0 (oN σ)).bind fun v33 =>
    some v33)
def f_X6_becomeNormal (σ : Hp) (a0 : Nat) : Option Hp :=
  (h_pI σ 6 a0 3 (0 : Int32)).bind fun s2 =>
  (h_gR s2 6 a0 4).bind fun v7 =>
  (h_pR s2 6 a0 5 v7).bind fun s10 =>
  (h_gO s10 6 a0).bind fun _ =>
  (f_X6_forget s10 a0).bind fun v14 =>
  (h_pI v14 6 a0 8 (0 : Int32)).bind fun s19 =>
  some s19
def f_X6_receiveStart_36 (σ : Hp) (x0 : Nat) (x1 : Nat) : Option Hp :=
  (h_gR σ 5 x1 4).bind fun v38 =>
  (h_pR σ 6 x0 4 v38).bind fun s41 =>
  (h_gI s41 5 x1 10).bind fun v46 =>
  (h_pI s41 6 x0 6 v46).bind fun s49 =>
  (h_gR s49 6 x0 0).bind fun v53 =>
  (h_gR s49 5 x1 11).bind fun v57 =>
  (h_gO s49 4 v53).bind fun _ =>
  (f_X4_copy s49 v53 v57).bind fun v60 =>
  (h_gO v60 6 x0).bind fun _ =>
  (f_X6_becomeNormal v60 x0).bind fun v64 =>
  some v64
def f_X6_receiveStart (σ : Hp) (a0 : Nat) (a1 : Nat) : Option Hp :=
  (h_gR σ 6 a0 4).bind fun v1 =>
  (h_gR σ 5 a1 4).bind fun v5 =>
  (h_gO σ 9 v1).bind fun _ =>
  (f_X9_isBehind σ v1 v5).bind fun v8 =>
  if v8 = 0 then (
    (h_gR σ 5 a1 4).bind fun v15 =>
    (h_gR σ 6 a0 4).bind fun v19 =>
    (h_gO σ 9 v15).bind fun _ =>
    (f_X9_isSame σ v15 v19).bind fun v22 =>
    if v22 = 0 then (
      some σ)
    else (
      (h_gI σ 6 a0 3).bind fun v29 =>
      if v29 = (2 : Int32) then (
        f_X6_receiveStart_36 σ a0 a1)
      else (
        some σ)))
  else (
    f_X6_receiveStart_36 σ a0 a1)
def f_X9_joinedWith (σ : Hp) (a0 : Nat) (a1 : Nat) : Option (Nat × Hp) :=
  (some (nw σ 9 0)).bind fun s0 =>
  (h_gI s0 9 a0 0).bind fun v5 =>
  (h_gI s0 9 a1 0).bind fun v9 =>
  (f_J9_max_7cf53 v5 v9).bind fun v12 =>
  (h_gI s0 9 a0 1).bind fun v16 =>
  (h_gI s0 9 a1 1).bind fun v20 =>
  (f_J9_max_7cf53 v16 v20).bind fun v23 =>
  (f_X9_init s0 (oN σ) v12 v23).bind fun v26 =>
  some ((oN σ), v26)
def f_X8_addTurned (σ : Hp) (a0 : Nat) (a1 : Nat) : Option Hp :=
  (h_gI σ 8 a0 3).bind fun v2 =>
  (h_gI σ 5 a1 2).bind fun v7 =>
  (h_pI σ 8 a0 3 (v2 ||| ((1 : Int32) <<< (v7 &&& 31)))).bind fun s12 =>
  (h_gR s12 8 a0 4).bind fun v16 =>
  (h_gI s12 5 a1 2).bind fun v20 =>
  (h_gR s12 5 a1 9).bind fun v24 =>
  (h_qR s12 19 9 v16 v20 v24).bind fun s27 =>
  (h_gR s27 8 a0 5).bind fun v29 =>
  (h_gI s27 5 a1 2).bind fun v33 =>
  (h_gI s27 5 a1 10).bind fun v37 =>
  (h_qI s27 v29 v33 v37).bind fun s40 =>
  (h_gR s40 8 a0 6).bind fun v42 =>
  (h_gI s40 5 a1 2).bind fun v46 =>
  (h_aR s40 16 v42 v46).bind fun v49 =>
  (h_gR s40 5 a1 11).bind fun v51 =>
  (h_gO s40 4 v49).bind fun _ =>
  (f_X4_copy s40 v49 v51).bind fun v54 =>
  some v54
def f_X6_isEnough (σ : Hp) (a0 : Nat) (a1 : Int32) : Option Int32 :=
  (f_J6_bitCount_0f7a4 a1).bind fun v1 =>
  (h_gI σ 6 a0 10).bind fun v5 =>
  if v1 < (v5 / (2 : Int32)) then (
    some (0 : Int32))
  else (
    some (1 : Int32))
def f_X8_hasTurned (σ : Hp) (a0 : Nat) (a1 : Int32) : Option Int32 :=
  (h_gI σ 8 a0 3).bind fun v1 =>
  if (v1 &&& ((1 : Int32) <<< (a1 &&& 31))) = 0 then (
    some (0 : Int32))
  else (
    some (1 : Int32))
def f_X9_isLater (σ : Hp) (a0 : Nat) (a1 : Nat) : Option Int32 :=
  (h_gI σ 9 a0 1).bind fun v1 =>
  (h_gI σ 9 a1 1).bind fun v5 =>
  if v5 < v1 then (
    some (1 : Int32))
  else (
    (h_gI σ 9 a0 1).bind fun v12 =>
    (h_gI σ 9 a1 1).bind fun v16 =>
    if v12 = v16 then (
      (h_gI σ 9 a0 0).bind fun v23 =>
      (h_gI σ 9 a1 0).bind fun v27 =>
      if v23 ≤ v27 then (
        some (0 : Int32))
      else (
        some (1 : Int32)))
    else (
      some (0 : Int32)))
def f_X6_isMerged (σ : Hp) (a0 : Nat) (a1 : Int32) (a2 : Nat) : Option Int32 :=
  (h_gR σ 6 a0 14).bind fun v1 =>
  (h_gO σ 8 v1).bind fun _ =>
  (f_X8_hasTurned σ v1 a1).bind fun v5 =>
  if v5 = 0 then (
    some (0 : Int32))
  else (
    (h_gR σ 6 a0 14).bind fun v12 =>
    (h_gR σ 8 v12 4).bind fun v15 =>
    (h_aR σ 19 v15 a1).bind fun v19 =>
    (h_gO σ 9 v19).bind fun _ =>
    (f_X9_isSame σ v19 a2).bind fun v21 =>
    if v21 = 0 then (
      some (0 : Int32))
    else (
      some (1 : Int32)))
def f_X6_mergedEntry_92 (rec22 : Hp → Nat → Int32 → Nat → Int32 → Int32 → Int32 → Option Int32) (σ : Hp) (x0 : Nat) (x1 : Int32) (x2 : Nat) (x3 : Int32) (x4 : Int32) (x5 : Int32) : Option Int32 :=
  rec22 σ x0 x1 x2 x3 x4 (x5 + 1)
def f_X6_mergedEntry_90 (rec22 : Hp → Nat → Int32 → Nat → Int32 → Int32 → Int32 → Option Int32) (σ : Hp) (x0 : Nat) (x1 : Int32) (x2 : Nat) (x4 : Int32) (x5 : Int32) : Option Int32 :=
  f_X6_mergedEntry_92 rec22 σ x0 x1 x2 (1 : Int32) x4 x5
def f_X6_mergedEntry_86 (rec22 : Hp → Nat → Int32 → Nat → Int32 → Int32 → Int32 → Option Int32) (σ : Hp) (x0 : Nat) (x1 : Int32) (x2 : Nat) (x5 : Int32) (x6 : Int32) : Option Int32 :=
  f_X6_mergedEntry_90 rec22 σ x0 x1 x2 x6 x5
def b_X6_mergedEntry_22 (rec22 : Hp → Nat → Int32 → Nat → Int32 → Int32 → Int32 → Option Int32) (σ : Hp) (x0 : Nat) (x1 : Int32) (x2 : Nat) (x3 : Int32) (x4 : Int32) (x5 : Int32) : Option Int32 :=
  (h_gI σ 6 x0 10).bind fun v25 =>
  if v25 ≤ x5 then (
    some x4)
  else (
    (h_gO σ 6 x0).bind fun _ =>
    (f_X6_isMerged σ x0 x5 x2).bind fun v35 =>
    if v35 = 0 then (
      f_X6_mergedEntry_92 rec22 σ x0 x1 x2 x3 x4 x5)
    else (
      (h_gR σ 6 x0 14).bind fun v42 =>
      (h_gR σ 8 v42 6).bind fun v45 =>
      (h_aR σ 16 v45 x5).bind fun v50 =>
      (h_gO σ 4 v50).bind fun _ =>
      (f_X4_has σ v50 x1).bind fun v52 =>
      if v52 = 0 then (
        f_X6_mergedEntry_92 rec22 σ x0 x1 x2 x3 x4 x5)
      else (
        (h_gR σ 6 x0 14).bind fun v62 =>
        (h_gR σ 8 v62 6).bind fun v65 =>
        (h_aR σ 16 v65 x5).bind fun v70 =>
        (h_gO σ 4 v70).bind fun _ =>
        (f_X4_at σ v70 x1).bind fun v72 =>
        if x3 = 0 then (
          f_X6_mergedEntry_86 rec22 σ x0 x1 x2 x5 v72)
        else (
          if v72 = 0 then (
            f_X6_mergedEntry_86 rec22 σ x0 x1 x2 x5 v72)
          else (
            f_X6_mergedEntry_90 rec22 σ x0 x1 x2 x4 x5)))))
def f_X6_mergedEntry_22 (n : Nat) : Hp → Nat → Int32 → Nat → Int32 → Int32 → Int32 → Option Int32 := Nat.rec (motive := fun _ => Hp → Nat → Int32 → Nat → Int32 → Int32 → Int32 → Option Int32) (fun _ _ _ _ _ _ _ => none) (fun _ rec => b_X6_mergedEntry_22 rec) n
def f_X6_mergedEntry (σ : Hp) (a0 : Nat) (a1 : Int32) (a2 : Nat) : Option Int32 :=
  (h_gR σ 6 a0 0).bind fun v1 =>
  (h_gO σ 4 v1).bind fun _ =>
  (f_X4_has σ v1 a1).bind fun v5 =>
  (h_gR σ 6 a0 0).bind fun v10 =>
  (h_gO σ 4 v10).bind fun _ =>
  (f_X4_at σ v10 a1).bind fun v14 =>
  f_X6_mergedEntry_22 lf σ a0 a1 a2 v5 v14 (0 : Int32)
def f_X6_mergeLogs_174 (σ : Hp) (x0 : Nat) (x1 : Nat) (x2 : Int32) (x3 : Int32) (x4 : Int32) : Option Hp :=
  (h_gI σ 9 x1 1).bind fun v175 =>
  (h_gR σ 6 x0 4).bind fun v179 =>
  (h_gI σ 9 v179 1).bind fun v182 =>
  if v175 = v182 then (
    if x2 = 0 then (
      if x3 = (-1 : Int32) then (
        some σ)
      else (
        (h_gR σ 6 x0 14).bind fun v208 =>
        (h_gR σ 8 v208 5).bind fun v211 =>
        (h_aI σ v211 x3).bind fun v215 =>
        (h_pI σ 6 x0 6 v215).bind fun s216 =>
        some s216))
    else (
      some σ))
  else (
    (h_pI σ 6 x0 6 x4).bind fun s191 =>
    some s191)
def b_X6_mergeLogs_145 (rec145 : Hp → Nat → Nat → Int32 → Int32 → Int32 → Int32 → Option Hp) (σ : Hp) (x0 : Nat) (x1 : Nat) (x2 : Int32) (x3 : Int32) (x4 : Int32) (x5 : Int32) : Option Hp :=
  if x4 < x5 then (
    f_X6_mergeLogs_174 σ x0 x1 x2 x3 x4)
  else (
    (h_gR σ 6 x0 0).bind fun v153 =>
    (h_gO σ 6 x0).bind fun _ =>
    (f_X6_mergedEntry σ x0 x5 x1).bind fun v162 =>
    (h_gO σ 4 v153).bind fun _ =>
    (f_X4_put σ v153 x5 v162).bind fun v165 =>
    rec145 v165 x0 x1 x2 x3 x4 (x5 + 1))
def f_X6_mergeLogs_145 (n : Nat) : Hp → Nat → Nat → Int32 → Int32 → Int32 → Int32 → Option Hp := Nat.rec (motive := fun _ => Hp → Nat → Nat → Int32 → Int32 → Int32 → Int32 → Option Hp) (fun _ _ _ _ _ _ _ => none) (fun _ rec => b_X6_mergeLogs_145 rec) n
def f_X6_mergeLogs_142 (σ : Hp) (x0 : Nat) (x1 : Nat) (x2 : Int32) (x3 : Int32) (x4 : Int32) : Option Hp :=
  f_X6_mergeLogs_145 lf σ x0 x1 x2 x3 x4 (1 : Int32)
def f_X6_mergeLogs_136 (rec98 : Hp → Nat → Nat → Int32 → Int32 → Int32 → Int32 → Option Hp) (σ : Hp) (x0 : Nat) (x1 : Nat) (x2 : Int32) (x3 : Int32) (x4 : Int32) (x5 : Int32) : Option Hp :=
  rec98 σ x0 x1 x2 x3 x4 (x5 - 1)
def b_X6_mergeLogs_98 (rec98 : Hp → Nat → Nat → Int32 → Int32 → Int32 → Int32 → Option Hp) (σ : Hp) (x0 : Nat) (x1 : Nat) (x2 : Int32) (x3 : Int32) (x4 : Int32) (x5 : Int32) : Option Hp :=
  if x5 < 0 then (
    f_X6_mergeLogs_142 σ x0 x1 x2 x3 x4)
  else (
    (h_gO σ 6 x0).bind fun _ =>
    (f_X6_isMerged σ x0 x5 x1).bind fun v107 =>
    if v107 = 0 then (
      f_X6_mergeLogs_136 rec98 σ x0 x1 x2 x3 x4 x5)
    else (
      (h_gR σ 6 x0 14).bind fun v119 =>
      (h_gR σ 8 v119 6).bind fun v122 =>
      (h_aR σ 16 v122 x5).bind fun v127 =>
      (h_gI σ 4 v127 1).bind fun v128 =>
      (f_J9_max_7cf53 x4 v128).bind fun v131 =>
      f_X6_mergeLogs_136 rec98 σ x0 x1 x2 x5 v131 x5))
def f_X6_mergeLogs_98 (n : Nat) : Hp → Nat → Nat → Int32 → Int32 → Int32 → Int32 → Option Hp := Nat.rec (motive := fun _ => Hp → Nat → Nat → Int32 → Int32 → Int32 → Int32 → Option Hp) (fun _ _ _ _ _ _ _ => none) (fun _ rec => b_X6_mergeLogs_98 rec) n
def f_X6_mergeLogs_79 (σ : Hp) (x0 : Nat) (x1 : Nat) (x2 : Int32) : Option Hp :=
  (h_gR σ 6 x0 0).bind fun v82 =>
  (h_gI σ 4 v82 1).bind fun v85 =>
  (h_gI σ 6 x0 10).bind fun v91 =>
  f_X6_mergeLogs_98 lf σ x0 x1 x2 (-1 : Int32) v85 (v91 - (1 : Int32))
def f_X6_mergeLogs_58 (σ : Hp) (x0 : Nat) (x1 : Nat) : Option Hp :=
  (h_gR σ 6 x0 5).bind fun v59 =>
  (h_gO σ 9 v59).bind fun _ =>
  (f_X9_isSame σ v59 x1).bind fun v63 =>
  if v63 = 0 then (
    (h_gR σ 6 x0 0).bind fun v72 =>
    (h_pI σ 4 v72 1 (0 : Int32)).bind fun s76 =>
    f_X6_mergeLogs_79 s76 x0 x1 v63)
  else (
    f_X6_mergeLogs_79 σ x0 x1 v63)
def f_X6_mergeLogs_52 (rec7 : Hp → Nat → Nat → Int32 → Option Hp) (σ : Hp) (x0 : Nat) (x1 : Nat) (x2 : Int32) : Option Hp :=
  rec7 σ x0 x1 (x2 + 1)
def b_X6_mergeLogs_7 (rec7 : Hp → Nat → Nat → Int32 → Option Hp) (σ : Hp) (x0 : Nat) (x1 : Nat) (x2 : Int32) : Option Hp :=
  (h_gI σ 6 x0 10).bind fun v9 =>
  if v9 ≤ x2 then (
    f_X6_mergeLogs_58 σ x0 x1)
  else (
    (h_gR σ 6 x0 14).bind fun v16 =>
    (h_gO σ 8 v16).bind fun _ =>
    (f_X8_hasTurned σ v16 x2).bind fun v20 =>
    if v20 = 0 then (
      f_X6_mergeLogs_52 rec7 σ x0 x1 x2)
    else (
      (h_gR σ 6 x0 14).bind fun v27 =>
      (h_gR σ 8 v27 4).bind fun v30 =>
      (h_aR σ 19 v30 x2).bind fun v34 =>
      (h_gO σ 9 v34).bind fun _ =>
      (f_X9_isLater σ v34 x1).bind fun v36 =>
      if v36 = 0 then (
        f_X6_mergeLogs_52 rec7 σ x0 x1 x2)
      else (
        (h_gR σ 6 x0 14).bind fun v43 =>
        (h_gR σ 8 v43 4).bind fun v46 =>
        (h_aR σ 19 v46 x2).bind fun v50 =>
        f_X6_mergeLogs_52 rec7 σ x0 v50 x2)))
def f_X6_mergeLogs_7 (n : Nat) : Hp → Nat → Nat → Int32 → Option Hp := Nat.rec (motive := fun _ => Hp → Nat → Nat → Int32 → Option Hp) (fun _ _ _ _ => none) (fun _ rec => b_X6_mergeLogs_7 rec) n
def f_X6_mergeLogs (σ : Hp) (a0 : Nat) : Option Hp :=
  (h_gR σ 6 a0 5).bind fun v1 =>
  f_X6_mergeLogs_7 lf σ a0 v1 (0 : Int32)
def f_X6_sendLogToOthers_24 (rec2 : Hp → Nat → Int32 → Int32 → Option Hp) (σ : Hp) (x0 : Nat) (x1 : Int32) (x2 : Int32) : Option Hp :=
  rec2 σ x0 x1 (x2 + 1)
def b_X6_sendLogToOthers_2 (rec2 : Hp → Nat → Int32 → Int32 → Option Hp) (σ : Hp) (x0 : Nat) (x1 : Int32) (x2 : Int32) : Option Hp :=
  (h_gI σ 6 x0 10).bind fun v4 =>
  if v4 ≤ x2 then (
    some σ)
  else (
    (h_gI σ 6 x0 9).bind fun v12 =>
    if x2 = v12 then (
      f_X6_sendLogToOthers_24 rec2 σ x0 x1 x2)
    else (
      (h_gO σ 6 x0).bind fun _ =>
      (f_X6_sendLog σ x0 x1 x2).bind fun v21 =>
      f_X6_sendLogToOthers_24 rec2 v21 x0 x1 x2))
def f_X6_sendLogToOthers_2 (n : Nat) : Hp → Nat → Int32 → Int32 → Option Hp := Nat.rec (motive := fun _ => Hp → Nat → Int32 → Int32 → Option Hp) (fun _ _ _ _ => none) (fun _ rec => b_X6_sendLogToOthers_2 rec) n
def f_X6_sendLogToOthers (σ : Hp) (a0 : Nat) (a1 : Int32) : Option Hp :=
  f_X6_sendLogToOthers_2 lf σ a0 a1 (0 : Int32)
def f_X6_receiveTurned (σ : Hp) (a0 : Nat) (a1 : Nat) : Option Hp :=
  (h_gI σ 6 a0 3).bind fun v1 =>
  if v1 = (2 : Int32) then (
    (h_gR σ 6 a0 14).bind fun v20 =>
    (h_gO σ 8 v20).bind fun _ =>
    (f_X8_addTurned σ v20 a1).bind fun v24 =>
    (h_gR v24 6 a0 14).bind fun v29 =>
    (h_gI v24 8 v29 3).bind fun v32 =>
    (h_gO v24 6 a0).bind fun _ =>
    (f_X6_isEnough v24 a0 v32).bind fun v35 =>
    if v35 = 0 then (
      some v24)
    else (
      (h_gO v24 6 a0).bind fun _ =>
      (f_X6_mergeLogs v24 a0).bind fun v42 =>
      (h_gO v42 6 a0).bind fun _ =>
      (f_X6_becomeNormal v42 a0).bind fun v46 =>
      (h_gO v46 6 a0).bind fun _ =>
      (f_X6_sendLogToOthers v46 a0 (10 : Int32)).bind fun v52 =>
      some v52))
  else (
    (h_gI σ 5 a1 2).bind fun v12 =>
    (h_gO σ 6 a0).bind fun _ =>
    (f_X6_sendLog σ a0 (10 : Int32) v12).bind fun v15 =>
    some v15)
def f_X6_receiveOfAnyView_58 (σ : Hp) (x0 : Nat) (x1 : Nat) : Option Hp :=
  (h_gI σ 5 x1 1).bind fun v59 =>
  if v59 = (9 : Int32) then (
    (h_gR σ 5 x1 4).bind fun v68 =>
    (h_gR σ 6 x0 4).bind fun v72 =>
    (h_gO σ 9 v68).bind fun _ =>
    (f_X9_isSame σ v68 v72).bind fun v75 =>
    if v75 = 0 then (
      some σ)
    else (
      (h_gO σ 6 x0).bind fun _ =>
      (f_X6_leads σ x0).bind fun v82 =>
      if v82 = 0 then (
        some σ)
      else (
        (h_gO σ 6 x0).bind fun _ =>
        (f_X6_receiveTurned σ x0 x1).bind fun v90 =>
        some v90)))
  else (
    some σ)
def f_X6_receiveOfAnyView (σ : Hp) (a0 : Nat) (a1 : Nat) : Option Hp :=
  (h_gI σ 5 a1 1).bind fun v1 =>
  if v1 = (10 : Int32) then (
    (h_gO σ 6 a0).bind fun _ =>
    (f_X6_receiveStart σ a0 a1).bind fun v11 =>
    some v11)
  else (
    (h_gR σ 5 a1 4).bind fun v16 =>
    (h_gR σ 6 a0 4).bind fun v20 =>
    (h_gO σ 9 v16).bind fun _ =>
    (f_X9_isSame σ v16 v20).bind fun v23 =>
    if v23 = 0 then (
      (h_gR σ 5 a1 4).bind fun v30 =>
      (h_gR σ 6 a0 4).bind fun v34 =>
      (h_gO σ 9 v30).bind fun _ =>
      (f_X9_isBehind σ v30 v34).bind fun v37 =>
      if v37 = 0 then (
        (h_gR σ 6 a0 4).bind fun v45 =>
        (h_gR σ 5 a1 4).bind fun v49 =>
        (h_gO σ 9 v45).bind fun _ =>
        (f_X9_joinedWith σ v45 v49).bind fun v52 =>
        (h_gO v52.2 6 a0).bind fun _ =>
        (f_X6_turnTo v52.2 a0 v52.1).bind fun v55 =>
        f_X6_receiveOfAnyView_58 v55 a0 a1)
      else (
        f_X6_receiveOfAnyView_58 σ a0 a1))
    else (
      f_X6_receiveOfAnyView_58 σ a0 a1))
def f_X6_receiveLookup (σ : Hp) (a0 : Nat) (a1 : Int32) (a2 : Int32) : Option Hp :=
  (h_gO σ 6 a0).bind fun _ =>
  (f_X6_leads σ a0).bind fun v1 =>
  if v1 = 0 then (
    some σ)
  else (
    (h_gI σ 6 a0 3).bind fun v8 =>
    if v8 = (2 : Int32) then (
      some σ)
    else (
      (h_gR σ 6 a0 0).bind fun v16 =>
      (h_gO σ 4 v16).bind fun _ =>
      (f_X4_has σ v16 a2).bind fun v20 =>
      if v20 = 0 then (
        some σ)
      else (
        (h_gR σ 6 a0 0).bind fun v28 =>
        (h_gO σ 4 v28).bind fun _ =>
        (f_X4_at σ v28 a2).bind fun v32 =>
        if v32 = 0 then (
          (h_gO σ 6 a0).bind fun _ =>
          (f_X6_send σ a0 (3 : Int32) a1 a2).bind fun v42 =>
          some v42.2)
        else (
          (h_gO σ 6 a0).bind fun _ =>
          (f_X6_send σ a0 (2 : Int32) a1 a2).bind fun v53 =>
          (h_gR v53.2 6 a0 0).bind fun v57 =>
          (h_gO v53.2 4 v57).bind fun _ =>
          (f_X4_at v53.2 v57 a2).bind fun v61 =>
          (h_pI v53.2 5 v53.1 7 v61).bind fun s64 =>
          some s64))))
def f_X6_receiveFound (σ : Hp) (a0 : Nat) (a1 : Int32) (a2 : Int32) : Option Hp :=
  (h_gI σ 6 a0 3).bind fun v1 =>
  if v1 = 0 then (
    (h_gR σ 6 a0 0).bind fun v9 =>
    (h_gI σ 4 v9 1).bind fun v12 =>
    if a1 = (v12 + (1 : Int32)) then (
      (h_gR σ 6 a0 1).bind fun v21 =>
      (h_gO σ 3 v21).bind fun _ =>
      (f_X3_put σ v21 a1 a2).bind fun v26 =>
      (h_gO v26 6 a0).bind fun _ =>
      (f_X6_takeHeld v26 a0).bind fun v30 =>
      some v30)
    else (
      some σ))
  else (
    some σ)
def f_X6_receiveGapCommit_72 (σ : Hp) (x0 : Nat) (x1 : Int32) (x2 : Int32) : Option Hp :=
  (h_gR σ 6 x0 0).bind fun v73 =>
  (h_gO σ 4 v73).bind fun _ =>
  (f_X4_put σ v73 x1 (0 : Int32)).bind fun v78 =>
  (h_gR v78 6 x0 4).bind fun v84 =>
  (h_gI v78 6 x0 10).bind fun v88 =>
  (h_gO v78 9 v84).bind fun _ =>
  (f_X9_leader v78 v84 v88).bind fun v91 =>
  (h_gO v78 6 x0).bind fun _ =>
  (f_X6_send v78 x0 (4 : Int32) v91 x1).bind fun v95 =>
  if x2 = 0 then (
    some v95.2)
  else (
    (h_gO v95.2 6 x0).bind fun _ =>
    (f_X6_takeHeld v95.2 x0).bind fun v104 =>
    some v104)
def f_X6_receiveGapCommit_59 (σ : Hp) (x0 : Nat) (x1 : Int32) (x2 : Int32) : Option Hp :=
  if x2 = 0 then (
    f_X6_receiveGapCommit_72 σ x0 x1 x2)
  else (
    (h_gR σ 6 x0 1).bind fun v64 =>
    (h_gO σ 3 v64).bind fun _ =>
    (f_X3_remove σ v64 x1).bind fun v68 =>
    f_X6_receiveGapCommit_72 v68.2 x0 x1 x2)
def f_X6_receiveGapCommit_28 (σ : Hp) (x0 : Nat) (x1 : Int32) (y0 : Int32) : Option Hp :=
  (h_gO σ 6 x0).bind fun _ =>
  (f_X6_leads σ x0).bind fun v30 =>
  if v30 = 0 then (
    (h_gI σ 6 x0 3).bind fun v37 =>
    if v37 = 0 then (
      if y0 = 0 then (
        (h_gR σ 6 x0 0).bind fun v48 =>
        (h_gO σ 4 v48).bind fun _ =>
        (f_X4_has σ v48 x1).bind fun v52 =>
        if v52 = 0 then (
          some σ)
        else (
          f_X6_receiveGapCommit_59 σ x0 x1 y0))
      else (
        f_X6_receiveGapCommit_59 σ x0 x1 y0))
    else (
      some σ))
  else (
    some σ)
def f_X6_receiveGapCommit_27 (σ : Hp) (x0 : Nat) (x1 : Int32) : Option Hp :=
  f_X6_receiveGapCommit_28 σ x0 x1 (0 : Int32)
def f_X6_receiveGapCommit (σ : Hp) (a0 : Nat) (a1 : Int32) : Option Hp :=
  (h_gR σ 6 a0 0).bind fun v2 =>
  (h_gI σ 4 v2 1).bind fun v5 =>
  if a1 = (v5 + (1 : Int32)) then (
    (h_gR σ 6 a0 0).bind fun v14 =>
    (h_gO σ 4 v14).bind fun _ =>
    (f_X4_isFull σ v14).bind fun v17 =>
    if v17 = 0 then (
      f_X6_receiveGapCommit_28 σ a0 a1 (1 : Int32))
    else (
      f_X6_receiveGapCommit_27 σ a0 a1))
  else (
    f_X6_receiveGapCommit_27 σ a0 a1)
def f_X6_receiveGapReply (σ : Hp) (a0 : Nat) (a1 : Int32) (a2 : Int32) : Option Hp :=
  (h_gO σ 6 a0).bind fun _ =>
  (f_X6_leads σ a0).bind fun v1 =>
  if v1 = 0 then (
    some σ)
  else (
    (h_gI σ 6 a0 3).bind fun v8 =>
    if v8 = (1 : Int32) then (
      (h_gR σ 6 a0 0).bind fun v17 =>
      (h_gI σ 4 v17 1).bind fun v20 =>
      if a2 = v20 then (
        (h_gR σ 6 a0 14).bind fun v28 =>
        (h_gI σ 8 v28 0).bind fun v32 =>
        (h_pI σ 8 v28 0 (v32 ||| ((1 : Int32) <<< (a1 &&& 31)))).bind fun s39 =>
        (h_gR s39 6 a0 14).bind fun v44 =>
        (h_gI s39 8 v44 0).bind fun v47 =>
        (h_gO s39 6 a0).bind fun _ =>
        (f_X6_isEnough s39 a0 v47).bind fun v50 =>
        if v50 = 0 then (
          some s39)
        else (
          (h_pI s39 6 a0 3 (0 : Int32)).bind fun s58 =>
          (h_gO s58 6 a0).bind fun _ =>
          (f_X6_takeHeld s58 a0).bind fun v62 =>
          some v62))
      else (
        some σ))
    else (
      some σ))
def f_X6_receiveSync (σ : Hp) (a0 : Nat) (a1 : Nat) : Option Hp :=
  (h_gO σ 6 a0).bind fun _ =>
  (f_X6_leads σ a0).bind fun v1 =>
  if v1 = 0 then (
    (h_gI σ 6 a0 3).bind fun v8 =>
    if v8 = 0 then (
      (h_gI σ 5 a1 6).bind fun v15 =>
      (h_gR σ 6 a0 0).bind fun v19 =>
      (h_gI σ 4 v19 1).bind fun v22 =>
      if v15 ≤ v22 then (
        (h_gR σ 6 a0 0).bind fun v30 =>
        (h_gR σ 5 a1 11).bind fun v34 =>
        (h_gI σ 5 a1 6).bind fun v38 =>
        (h_gO σ 4 v30).bind fun _ =>
        (f_X4_copyFirst σ v30 v34 v38).bind fun v41 =>
        (h_gI v41 6 a0 8).bind fun v46 =>
        (h_gI v41 5 a1 6).bind fun v50 =>
        (f_J9_max_7cf53 v46 v50).bind fun v53 =>
        (h_pI v41 6 a0 8 v53).bind fun s56 =>
        (h_gR s56 6 a0 4).bind fun v63 =>
        (h_gI s56 6 a0 10).bind fun v67 =>
        (h_gO s56 9 v63).bind fun _ =>
        (f_X9_leader s56 v63 v67).bind fun v70 =>
        (h_gI s56 5 a1 6).bind fun v74 =>
        (h_gO s56 6 a0).bind fun _ =>
        (f_X6_send s56 a0 (6 : Int32) v70 v74).bind fun v77 =>
        some v77.2)
      else (
        some σ))
    else (
      some σ))
  else (
    some σ)
def f_X8_addSyncReply_18 (σ : Hp) (x0 : Nat) (x1 : Int32) : Option Hp :=
  (h_gI σ 8 x0 1).bind fun v20 =>
  (h_pI σ 8 x0 1 (v20 ||| ((1 : Int32) <<< (x1 &&& 31)))).bind fun s27 =>
  some s27
def f_X8_addSyncReply (σ : Hp) (a0 : Nat) (a1 : Int32) (a2 : Int32) : Option Hp :=
  (h_gI σ 8 a0 2).bind fun v2 =>
  if a2 = v2 then (
    f_X8_addSyncReply_18 σ a0 a1)
  else (
    (h_pI σ 8 a0 2 a2).bind fun s10 =>
    (h_pI s10 8 a0 1 (0 : Int32)).bind fun s15 =>
    f_X8_addSyncReply_18 s15 a0 a1)
def f_X6_receiveSyncReply (σ : Hp) (a0 : Nat) (a1 : Int32) (a2 : Int32) : Option Hp :=
  (h_gO σ 6 a0).bind fun _ =>
  (f_X6_leads σ a0).bind fun v1 =>
  if v1 = 0 then (
    some σ)
  else (
    (h_gI σ 6 a0 3).bind fun v8 =>
    if v8 = (2 : Int32) then (
      some σ)
    else (
      (h_gI σ 6 a0 7).bind fun v17 =>
      if v17 < a2 then (
        (h_gR σ 6 a0 14).bind fun v25 =>
        (h_gO σ 8 v25).bind fun _ =>
        (f_X8_addSyncReply σ v25 a1 a2).bind fun v30 =>
        (h_gR v30 6 a0 14).bind fun v35 =>
        (h_gI v30 8 v35 1).bind fun v38 =>
        (h_gO v30 6 a0).bind fun _ =>
        (f_X6_isEnough v30 a0 v38).bind fun v41 =>
        if v41 = 0 then (
          some v30)
        else (
          (h_pI v30 6 a0 7 a2).bind fun s49 =>
          (h_gO s49 6 a0).bind fun _ =>
          (f_X6_sendToOthers s49 a0 (7 : Int32) a2).bind fun v56 =>
          some v56))
      else (
        some σ)))
def f_X6_receivePoint (σ : Hp) (a0 : Nat) (a1 : Int32) : Option Hp :=
  (h_gO σ 6 a0).bind fun _ =>
  (f_X6_leads σ a0).bind fun v1 =>
  if v1 = 0 then (
    (h_gI σ 6 a0 3).bind fun v8 =>
    if v8 = (2 : Int32) then (
      some σ)
    else (
      (h_gI σ 6 a0 7).bind fun v17 =>
      if a1 ≤ v17 then (
        some σ)
      else (
        (h_gI σ 6 a0 8).bind fun v24 =>
        if v24 < a1 then (
          some σ)
        else (
          (h_pI σ 6 a0 7 a1).bind fun s33 =>
          some s33))))
  else (
    some σ)
def f_X6_receiveOfItsView (σ : Hp) (a0 : Nat) (a1 : Nat) : Option Hp :=
  (h_gI σ 5 a1 1).bind fun v1 =>
  if v1 = (1 : Int32) then (
    (h_gI σ 5 a1 2).bind fun v50 =>
    (h_gI σ 5 a1 6).bind fun v54 =>
    (h_gO σ 6 a0).bind fun _ =>
    (f_X6_receiveLookup σ a0 v50 v54).bind fun v57 =>
    some v57)
  else
  if v1 = (2 : Int32) then (
    (h_gI σ 5 a1 6).bind fun v65 =>
    (h_gI σ 5 a1 7).bind fun v69 =>
    (h_gO σ 6 a0).bind fun _ =>
    (f_X6_receiveFound σ a0 v65 v69).bind fun v72 =>
    some v72)
  else
  if v1 = (3 : Int32) then (
    (h_gI σ 5 a1 6).bind fun v80 =>
    (h_gO σ 6 a0).bind fun _ =>
    (f_X6_receiveGapCommit σ a0 v80).bind fun v83 =>
    some v83)
  else
  if v1 = (4 : Int32) then (
    (h_gI σ 5 a1 2).bind fun v91 =>
    (h_gI σ 5 a1 6).bind fun v95 =>
    (h_gO σ 6 a0).bind fun _ =>
    (f_X6_receiveGapReply σ a0 v91 v95).bind fun v98 =>
    some v98)
  else
  if v1 = (5 : Int32) then (
    (h_gO σ 6 a0).bind fun _ =>
    (f_X6_receiveSync σ a0 a1).bind fun v106 =>
    some v106)
  else
  if v1 = (6 : Int32) then (
    (h_gI σ 5 a1 2).bind fun v114 =>
    (h_gI σ 5 a1 6).bind fun v118 =>
    (h_gO σ 6 a0).bind fun _ =>
    (f_X6_receiveSyncReply σ a0 v114 v118).bind fun v121 =>
    some v121)
  else
  if v1 = (7 : Int32) then (
    (h_gI σ 5 a1 6).bind fun v129 =>
    (h_gO σ 6 a0).bind fun _ =>
    (f_X6_receivePoint σ a0 v129).bind fun v132 =>
    some v132)
  else
  some σ
def f_X7_add (σ : Hp) (a0 : Nat) (a1 : Int32) (a2 : Int32) (a3 : Int32) (a4 : Int32) (a5 : Int32) : Option (Int32 × Hp) :=
  (h_gI σ 7 a0 5).bind fun v1 =>
  if v1 < (512 : Int32) then (
    (h_gI σ 7 a0 5).bind fun v14 =>
    (h_pI σ 7 a0 5 (v14 + (1 : Int32))).bind fun s19 =>
    (h_gR s19 7 a0 0).bind fun v23 =>
    (h_gI s19 7 a0 5).bind fun v27 =>
    (h_qI s19 v23 v27 a1).bind fun s31 =>
    (h_gR s31 7 a0 1).bind fun v33 =>
    (h_gI s31 7 a0 5).bind fun v37 =>
    (h_qI s31 v33 v37 a2).bind fun s41 =>
    (h_gR s41 7 a0 2).bind fun v43 =>
    (h_gI s41 7 a0 5).bind fun v47 =>
    (h_qI s41 v43 v47 a3).bind fun s51 =>
    (h_gR s51 7 a0 3).bind fun v53 =>
    (h_gI s51 7 a0 5).bind fun v57 =>
    (h_qI s51 v53 v57 a4).bind fun s62 =>
    (h_gR s62 7 a0 4).bind fun v64 =>
    (h_gI s62 7 a0 5).bind fun v68 =>
    (h_qI s62 v64 v68 a5).bind fun s73 =>
    (h_gI s73 7 a0 5).bind fun v75 =>
    some (v75, s73))
  else (
    some ((0 : Int32), σ))
def f_X11_isClient (a0 : Nat) (a1 : Int32) : Option Int32 :=
  if a1 < 0 then (
    some (0 : Int32))
  else (
    if (4 : Int32) ≤ a1 then (
      some (0 : Int32))
    else (
      some (1 : Int32)))
def f_X11_isKey (a0 : Nat) (a1 : Int32) : Option Int32 :=
  if a1 < 0 then (
    some (0 : Int32))
  else (
    if (8 : Int32) ≤ a1 then (
      some (0 : Int32))
    else (
      some (1 : Int32)))
def f_X11_isReplica (σ : Hp) (a0 : Nat) (a1 : Int32) : Option Int32 :=
  if a1 < 0 then (
    some (0 : Int32))
  else (
    (h_gI σ 11 a0 0).bind fun v6 =>
    if v6 ≤ a1 then (
      some (0 : Int32))
    else (
      some (1 : Int32)))
def f_X11_downNow_36 (rec13 : Hp → Int32 → Nat → Int32 → Int32 → Option Int32) (σ : Hp) (x1 : Int32) (x2 : Nat) (x3 : Int32) (x4 : Int32) : Option Int32 :=
  rec13 σ x1 x2 x3 (x4 + 1)
def b_X11_downNow_13 (rec13 : Hp → Int32 → Nat → Int32 → Int32 → Option Int32) (σ : Hp) (x1 : Int32) (x2 : Nat) (x3 : Int32) (x4 : Int32) : Option Int32 :=
  if x3 ≤ x4 then (
    some x1)
  else (
    (h_aR σ 18 x2 x4).bind fun v22 =>
    (h_gI σ 6 v22 2).bind fun v27 =>
    if v27 = 0 then (
      f_X11_downNow_36 rec13 σ x1 x2 x3 x4)
    else (
      f_X11_downNow_36 rec13 σ (x1 + 1) x2 x3 x4))
def f_X11_downNow_13 (n : Nat) : Hp → Int32 → Nat → Int32 → Int32 → Option Int32 := Nat.rec (motive := fun _ => Hp → Int32 → Nat → Int32 → Int32 → Option Int32) (fun _ _ _ _ _ => none) (fun _ rec => b_X11_downNow_13 rec) n
def f_X11_downNow (σ : Hp) (a0 : Nat) : Option Int32 :=
  (h_gR σ 11 a0 4).bind fun v3 =>
  (h_aL σ 18 v3).bind fun v8 =>
  f_X11_downNow_13 lf σ (0 : Int32) v3 v8 (0 : Int32)
def b_X11_stamp_20 (rec20 : Hp → Nat → Int32 → Int32 → Option Hp) (σ : Hp) (x0 : Nat) (x1 : Int32) (x2 : Int32) : Option Hp :=
  (h_gI σ 11 x0 0).bind fun v22 =>
  if v22 ≤ x2 then (
    some σ)
  else (
    (h_gR σ 11 x0 3).bind fun v29 =>
    (h_gO σ 1 v29).bind fun _ =>
    (f_X1_send σ v29 (0 : Int32) (-1 : Int32) x2).bind fun v35 =>
    (h_gI v35.2 11 x0 8).bind fun v41 =>
    (h_pI v35.2 5 v35.1 5 v41).bind fun s44 =>
    (h_gI s44 11 x0 9).bind fun v49 =>
    (h_pI s44 5 v35.1 6 v49).bind fun s52 =>
    (h_pI s52 5 v35.1 7 x1).bind fun s57 =>
    rec20 s57 x0 x1 (x2 + 1))
def f_X11_stamp_20 (n : Nat) : Hp → Nat → Int32 → Int32 → Option Hp := Nat.rec (motive := fun _ => Hp → Nat → Int32 → Int32 → Option Hp) (fun _ _ _ _ => none) (fun _ rec => b_X11_stamp_20 rec) n
def f_X11_stamp (σ : Hp) (a0 : Nat) (a1 : Int32) : Option Hp :=
  (h_gI σ 11 a0 7).bind fun v1 =>
  if v1 = 0 then (
    some σ)
  else (
    (h_gI σ 11 a0 9).bind fun v10 =>
    (h_pI σ 11 a0 9 (v10 + (1 : Int32))).bind fun s15 =>
    f_X11_stamp_20 lf s15 a0 a1 (0 : Int32))
def f_X11_handOver (σ : Hp) (a0 : Nat) (a1 : Nat) : Option Hp :=
  (h_gI σ 5 a1 1).bind fun v1 =>
  if v1 = (11 : Int32) then (
    (h_gR σ 11 a0 5).bind fun v10 =>
    (h_gI σ 5 a1 3).bind fun v14 =>
    (h_aR σ 15 v10 v14).bind fun v17 =>
    (h_gO σ 2 v17).bind fun _ =>
    (f_X2_hear σ v17 a1).bind fun v21 =>
    if v21.1 = 0 then (
      some v21.2)
    else (
      (h_gR v21.2 11 a0 6).bind fun v28 =>
      (h_gI v21.2 2 v17 1).bind fun v32 =>
      (h_gR v21.2 2 v17 3).bind fun v36 =>
      (h_gI v21.2 2 v17 4).bind fun v40 =>
      (h_gI v21.2 2 v17 5).bind fun v44 =>
      (h_gO v21.2 0 v28).bind fun _ =>
      (f_X0_add v21.2 v28 v32 v36 v40 v44).bind fun v47 =>
      some v47))
  else (
    (h_gR σ 11 a0 4).bind fun v52 =>
    (h_gI σ 5 a1 3).bind fun v56 =>
    (h_aR σ 18 v52 v56).bind fun v59 =>
    (h_gI σ 6 v59 2).bind fun v62 =>
    if v62 = 0 then (
      (h_gI σ 5 a1 1).bind fun v85 =>
      if v85 = 0 then (
        (h_gO σ 6 v59).bind fun _ =>
        (f_X6_receiveStamped σ v59 a1).bind fun v93 =>
        some v93)
      else (
        (h_gI σ 5 a1 1).bind fun v100 =>
        if v100 = (8 : Int32) then (
          (h_gO σ 6 v59).bind fun _ =>
          (f_X6_receiveOfAnyView σ v59 a1).bind fun v128 =>
          some v128)
        else (
          (h_gI σ 5 a1 1).bind fun v109 =>
          if v109 = (9 : Int32) then (
            (h_gO σ 6 v59).bind fun _ =>
            (f_X6_receiveOfAnyView σ v59 a1).bind fun v128 =>
            some v128)
          else (
            (h_gI σ 5 a1 1).bind fun v118 =>
            if v118 = (10 : Int32) then (
              (h_gO σ 6 v59).bind fun _ =>
              (f_X6_receiveOfAnyView σ v59 a1).bind fun v128 =>
              some v128)
            else (
              (h_gR σ 5 a1 4).bind fun v135 =>
              (h_gR σ 6 v59 4).bind fun v139 =>
              (h_gO σ 9 v135).bind fun _ =>
              (f_X9_isSame σ v135 v139).bind fun v142 =>
              if v142 = 0 then (
                some σ)
              else (
                (h_gO σ 6 v59).bind fun _ =>
                (f_X6_receiveOfItsView σ v59 a1).bind fun v150 =>
                some v150))))))
    else (
      (h_gR σ 11 a0 3).bind fun v69 =>
      (h_gI σ 1 v69 3).bind fun v73 =>
      (h_pI σ 1 v69 3 (v73 + (1 : Int32))).bind fun s78 =>
      some s78))
def f_X11_fail (σ : Hp) (a0 : Nat) : Option (Int32 × Hp) :=
  (h_gI σ 11 a0 7).bind fun v1 =>
  (h_pI σ 11 a0 7 (0 : Int32)).bind fun s7 =>
  (h_gZ v1).bind fun _ =>
  some (v1, s7)
def f_X11_install (σ : Hp) (a0 : Nat) : Option (Int32 × Hp) :=
  (h_pI σ 11 a0 7 (1 : Int32)).bind fun s2 =>
  (h_gI s2 11 a0 8).bind fun v7 =>
  (h_pI s2 11 a0 8 (v7 + (1 : Int32))).bind fun s12 =>
  (h_pI s12 11 a0 9 (0 : Int32)).bind fun s17 =>
  (h_gI s17 11 a0 8).bind fun v21 =>
  some (v21, s17)
def f_X11_replica (σ : Hp) (a0 : Nat) (a1 : Int32) (a2 : Int32) : Option Int32 :=
  (h_gO σ 11 a0).bind fun _ =>
  (f_X11_isReplica σ a0 a1).bind fun v2 =>
  if v2 = 0 then (
    some (-1 : Int32))
  else (
    (h_gR σ 11 a0 4).bind fun v11 =>
    (h_aR σ 18 v11 a1).bind fun v15 =>
    if a2 = (0 : Int32) then (
      (h_gI σ 6 v15 2).bind fun v77 =>
      if v77 = 0 then (
        some (0 : Int32))
      else (
        some (1 : Int32)))
    else
    if a2 = (1 : Int32) then (
      (h_gI σ 6 v15 3).bind fun v90 =>
      some v90)
    else
    if a2 = (2 : Int32) then (
      (h_gR σ 6 v15 4).bind fun v95 =>
      (h_gI σ 9 v95 0).bind fun v98 =>
      some v98)
    else
    if a2 = (3 : Int32) then (
      (h_gR σ 6 v15 4).bind fun v103 =>
      (h_gI σ 9 v103 1).bind fun v106 =>
      some v106)
    else
    if a2 = (4 : Int32) then (
      (h_gI σ 6 v15 6).bind fun v111 =>
      some v111)
    else
    if a2 = (5 : Int32) then (
      (h_gR σ 6 v15 0).bind fun v116 =>
      (h_gI σ 4 v116 1).bind fun v119 =>
      some v119)
    else
    if a2 = (6 : Int32) then (
      (h_gI σ 6 v15 7).bind fun v124 =>
      some v124)
    else
    if a2 = (7 : Int32) then (
      (h_gR σ 6 v15 1).bind fun v129 =>
      (h_gI σ 3 v129 2).bind fun v132 =>
      some v132)
    else
    if a2 = (8 : Int32) then (
      (h_gR σ 6 v15 5).bind fun v137 =>
      (h_gI σ 9 v137 0).bind fun v140 =>
      some v140)
    else
    if a2 = (9 : Int32) then (
      (h_gR σ 6 v15 5).bind fun v145 =>
      (h_gI σ 9 v145 1).bind fun v148 =>
      some v148)
    else
    if a2 = (10 : Int32) then (
      (h_gI σ 6 v15 8).bind fun v153 =>
      some v153)
    else
    some (-1 : Int32))
def f_X11_entry_75 (σ : Hp) (x0 : Nat) (x3 : Int32) (x5 : Int32) : Option Int32 :=
  if x3 = (5 : Int32) then (
    if x5 = 0 then (
      some (0 : Int32))
    else (
      (h_gR σ 11 x0 1).bind fun v90 =>
      (h_gR σ 7 v90 4).bind fun v93 =>
      (h_aI σ v93 x5).bind fun v98 =>
      some v98))
  else (
    if x5 = 0 then (
      some (-1 : Int32))
    else (
      if x3 = (1 : Int32) then (
        (h_gR σ 11 x0 1).bind fun v141 =>
        (h_gR σ 7 v141 0).bind fun v144 =>
        (h_aI σ v144 x5).bind fun v149 =>
        some v149)
      else
      if x3 = (2 : Int32) then (
        (h_gR σ 11 x0 1).bind fun v152 =>
        (h_gR σ 7 v152 1).bind fun v155 =>
        (h_aI σ v155 x5).bind fun v160 =>
        some v160)
      else
      if x3 = (3 : Int32) then (
        (h_gR σ 11 x0 1).bind fun v163 =>
        (h_gR σ 7 v163 2).bind fun v166 =>
        (h_aI σ v166 x5).bind fun v171 =>
        some v171)
      else
      if x3 = (4 : Int32) then (
        (h_gR σ 11 x0 1).bind fun v174 =>
        (h_gR σ 7 v174 3).bind fun v177 =>
        (h_aI σ v177 x5).bind fun v182 =>
        some v182)
      else
      some (-1 : Int32)))
def f_X11_entry_53 (σ : Hp) (x0 : Nat) (x3 : Int32) (x4 : Int32) (y0 : Int32) : Option Int32 :=
  if x3 = 0 then (
    if x4 = 0 then (
      f_X11_entry_75 σ x0 x3 y0)
    else (
      if y0 = 0 then (
        some (0 : Int32))
      else (
        some (1 : Int32))))
  else (
    f_X11_entry_75 σ x0 x3 y0)
def f_X11_entry_29 (σ : Hp) (x0 : Nat) (x1 : Int32) (x2 : Int32) (x3 : Int32) (y0 : Int32) : Option Int32 :=
  if y0 = 0 then (
    f_X11_entry_53 σ x0 x3 y0 (0 : Int32))
  else (
    (h_gR σ 11 x0 4).bind fun v37 =>
    (h_aR σ 18 v37 x1).bind fun v41 =>
    (h_gR σ 6 v41 0).bind fun v42 =>
    (h_gO σ 4 v42).bind fun _ =>
    (f_X4_at σ v42 x2).bind fun v46 =>
    f_X11_entry_53 σ x0 x3 y0 v46)
def f_X11_entry_28 (σ : Hp) (x0 : Nat) (x1 : Int32) (x2 : Int32) (x3 : Int32) : Option Int32 :=
  f_X11_entry_29 σ x0 x1 x2 x3 (0 : Int32)
def f_X11_entry (σ : Hp) (a0 : Nat) (a1 : Int32) (a2 : Int32) (a3 : Int32) : Option Int32 :=
  (h_gO σ 11 a0).bind fun _ =>
  (f_X11_isReplica σ a0 a1).bind fun v2 =>
  if v2 = 0 then (
    f_X11_entry_28 σ a0 a1 a2 a3)
  else (
    (h_gR σ 11 a0 4).bind fun v9 =>
    (h_aR σ 18 v9 a1).bind fun v13 =>
    (h_gR σ 6 v13 0).bind fun v14 =>
    (h_gO σ 4 v14).bind fun _ =>
    (f_X4_has σ v14 a2).bind fun v18 =>
    if v18 = 0 then (
      f_X11_entry_28 σ a0 a1 a2 a3)
    else (
      f_X11_entry_29 σ a0 a1 a2 a3 (1 : Int32)))
def f_X11_word (σ : Hp) (a0 : Nat) (a1 : Int32) (a2 : Int32) : Option (Int32 × Hp) :=
  (h_gO σ 11 a0).bind fun _ =>
  (f_X11_isReplica σ a0 a1).bind fun v2 =>
  if v2 = 0 then (
    some ((0 : Int32), σ))
  else (
    (h_gO σ 11 a0).bind fun _ =>
    (f_X11_isKey a0 a2).bind fun v10 =>
    if v10 = 0 then (
      some ((0 : Int32), σ))
    else (
      (h_gR σ 11 a0 2).bind fun v19 =>
      (h_gR σ 11 a0 4).bind fun v23 =>
      (h_aR σ 18 v23 a1).bind fun v27 =>
      (h_gR σ 6 v27 0).bind fun v28 =>
      (h_gR σ 11 a0 4).bind fun v32 =>
      (h_aR σ 18 v32 a1).bind fun v36 =>
      (h_gO σ 6 v36).bind fun _ =>
      (f_X6_executed σ v36).bind fun v37 =>
      (h_gO σ 10 v19).bind fun _ =>
      (f_X10_execute σ v19 v28 v37).bind fun v40 =>
      (h_gR v40 11 a0 2).bind fun v44 =>
      (h_gR v40 10 v44 0).bind fun v47 =>
      (h_aI v40 v47 a2).bind fun v51 =>
      some (v51, v40)))
def f_X11_client (σ : Hp) (a0 : Nat) (a1 : Int32) (a2 : Int32) : Option Int32 :=
  (h_gO σ 11 a0).bind fun _ =>
  (f_X11_isClient a0 a1).bind fun v2 =>
  if v2 = 0 then (
    some (-1 : Int32))
  else (
    (h_gR σ 11 a0 5).bind fun v11 =>
    (h_aR σ 15 v11 a1).bind fun v15 =>
    if a2 = 0 then (
      (h_gI σ 2 v15 0).bind fun v22 =>
      some v22)
    else (
      if a2 = (1 : Int32) then (
        (h_gI σ 2 v15 2).bind fun v32 =>
        some v32)
      else (
        (h_gI σ 2 v15 2).bind fun v37 =>
        if v37 = (2 : Int32) then (
          if a2 = (2 : Int32) then (
            (h_gI σ 2 v15 4).bind fun v73 =>
            some v73)
          else
          if a2 = (3 : Int32) then (
            (h_gR σ 2 v15 3).bind fun v78 =>
            (h_gI σ 9 v78 0).bind fun v81 =>
            some v81)
          else
          if a2 = (4 : Int32) then (
            (h_gR σ 2 v15 3).bind fun v86 =>
            (h_gI σ 9 v86 1).bind fun v89 =>
            some v89)
          else
          some (-1 : Int32))
        else (
          some (-1 : Int32)))))
def f_X11_answer (σ : Hp) (a0 : Nat) (a1 : Int32) : Option Int32 :=
  (h_gO σ 11 a0).bind fun _ =>
  (f_X11_isClient a0 a1).bind fun v2 =>
  if v2 = 0 then (
    some (0 : Int32))
  else (
    (h_gR σ 11 a0 5).bind fun v9 =>
    (h_aR σ 15 v9 a1).bind fun v13 =>
    (h_gI σ 2 v13 5).bind fun v14 =>
    some v14)
def f_X11_about (σ : Hp) (a0 : Nat) (a1 : Int32) : Option Int32 :=
  if a1 = (0 : Int32) then (
    (h_gR σ 11 a0 3).bind fun v45 =>
    (h_gI σ 1 v45 1).bind fun v48 =>
    some v48)
  else
  if a1 = (1 : Int32) then (
    (h_gR σ 11 a0 3).bind fun v53 =>
    (h_gI σ 1 v53 2).bind fun v56 =>
    some v56)
  else
  if a1 = (2 : Int32) then (
    (h_gR σ 11 a0 3).bind fun v61 =>
    (h_gI σ 1 v61 3).bind fun v64 =>
    some v64)
  else
  if a1 = (3 : Int32) then (
    (h_gI σ 11 a0 7).bind fun v69 =>
    if v69 = 0 then (
      some (0 : Int32))
    else (
      some (1 : Int32)))
  else
  if a1 = (4 : Int32) then (
    (h_gI σ 11 a0 8).bind fun v82 =>
    some v82)
  else
  if a1 = (5 : Int32) then (
    (h_gI σ 11 a0 9).bind fun v87 =>
    some v87)
  else
  if a1 = (6 : Int32) then (
    (h_gR σ 11 a0 6).bind fun v92 =>
    (h_gI σ 0 v92 0).bind fun v95 =>
    some v95)
  else
  some (-1 : Int32)
def f_X11_message (σ : Hp) (a0 : Nat) (a1 : Int32) (a2 : Int32) : Option Int32 :=
  if a1 < 0 then (
    some (-1 : Int32))
  else (
    (h_gR σ 11 a0 3).bind fun v6 =>
    (h_gI σ 1 v6 1).bind fun v9 =>
    if a1 < v9 then (
      (h_gR σ 11 a0 3).bind fun v18 =>
      (h_gR σ 1 v18 0).bind fun v21 =>
      (h_aR σ 17 v21 a1).bind fun v25 =>
      if a2 = (0 : Int32) then (
        (h_gI σ 5 v25 0).bind fun v61 =>
        some v61)
      else
      if a2 = (1 : Int32) then (
        (h_gI σ 5 v25 1).bind fun v66 =>
        some v66)
      else
      if a2 = (2 : Int32) then (
        (h_gI σ 5 v25 2).bind fun v71 =>
        some v71)
      else
      if a2 = (3 : Int32) then (
        (h_gI σ 5 v25 3).bind fun v76 =>
        some v76)
      else
      some (-1 : Int32))
    else (
      some (-1 : Int32)))
def f_X11_broken_77 (rec17 : Hp → Nat → Nat → Int32 → Int32 → Option (Int32 × Hp)) (σ : Hp) (x0 : Nat) (x1 : Nat) (x2 : Int32) (x3 : Int32) : Option (Int32 × Hp) :=
  rec17 σ x0 x1 x2 (x3 + 1)
def b_X11_broken_17 (rec17 : Hp → Nat → Nat → Int32 → Int32 → Option (Int32 × Hp)) (σ : Hp) (x0 : Nat) (x1 : Nat) (x2 : Int32) (x3 : Int32) : Option (Int32 × Hp) :=
  if x2 ≤ x3 then (
    (h_gR σ 11 x0 6).bind fun v84 =>
    (h_gO σ 0 v84).bind fun _ =>
    (f_X0_marked σ v84).bind fun v87 =>
    some (v87, σ))
  else (
    (h_aR σ 18 x1 x3).bind fun v24 =>
    (h_gO σ 6 v24).bind fun _ =>
    (f_X6_leads σ v24).bind fun v29 =>
    if v29 = 0 then (
      f_X11_broken_77 rec17 σ x0 x1 x2 x3)
    else (
      (h_gI σ 6 v24 3).bind fun v37 =>
      if v37 = (2 : Int32) then (
        f_X11_broken_77 rec17 σ x0 x1 x2 x3)
      else (
        (h_gR σ 11 x0 2).bind fun v45 =>
        (h_gR σ 6 v24 0).bind fun v50 =>
        (h_gR σ 6 v24 0).bind fun v55 =>
        (h_gI σ 4 v55 1).bind fun v58 =>
        (h_gO σ 10 v45).bind fun _ =>
        (f_X10_execute σ v45 v50 v58).bind fun v61 =>
        (h_gR v61 11 x0 6).bind fun v65 =>
        (h_gR v61 11 x0 2).bind fun v71 =>
        (h_gO v61 0 v65).bind fun _ =>
        (f_X0_markNotHeldTo v61 v65 v24 v71).bind fun v74 =>
        f_X11_broken_77 rec17 v74 x0 x1 x2 x3)))
def f_X11_broken_17 (n : Nat) : Hp → Nat → Nat → Int32 → Int32 → Option (Int32 × Hp) := Nat.rec (motive := fun _ => Hp → Nat → Nat → Int32 → Int32 → Option (Int32 × Hp)) (fun _ _ _ _ _ => none) (fun _ rec => b_X11_broken_17 rec) n
def f_X11_broken (σ : Hp) (a0 : Nat) : Option (Int32 × Hp) :=
  (h_gR σ 11 a0 6).bind fun v1 =>
  (h_gO σ 0 v1).bind fun _ =>
  (f_X0_unmark σ v1).bind fun v4 =>
  (h_gR v4 11 a0 4).bind fun v8 =>
  (h_aL v4 18 v8).bind fun v13 =>
  f_X11_broken_17 lf v4 a0 v8 v13 (0 : Int32)
