def f_X12_thrown (μ : Mu)  : Option Int32 :=
  some (μ.1 0)
def f_X12_in (a0 : Int32) (a1 : Int32) : Option Int32 :=
  if a0 < 0 then (
    some (0 : Int32))
  else (
    if a1 ≤ a0 then (
      some (0 : Int32))
    else (
      some (1 : Int32)))
def b_X12_ones_4 (rec4 : Int32 → Int32 → Int32 → Option Int32) (x0 : Int32) (x1 : Int32) (x2 : Int32) : Option Int32 :=
  if (7 : Int32) ≤ x2 then (
    some x1)
  else (
    rec4 x0 (x1 + ((x0 >>> (x2 &&& 31)) &&& (1 : Int32))) (x2 + 1))
def f_X12_ones_4 (n : Nat) : Int32 → Int32 → Int32 → Option Int32 := Nat.rec (motive := fun _ => Int32 → Int32 → Int32 → Option Int32) (fun _ _ _ => none) (fun _ rec => b_X12_ones_4 rec) n
def f_X12_ones (a0 : Int32) : Option Int32 :=
  f_X12_ones_4 lf a0 (0 : Int32) (0 : Int32)
def f_X12_send (μ : Mu) (a1 : Int32) (a2 : Int32) (a3 : Int32) (a4 : Int32) (a5 : Int32) (a6 : Int32) (a7 : Int32) : Option (Int32 × Mu) :=
  (m_P μ 13 ((μ.1 13) + (1 : Int32))).bind fun s7 =>
  if (s7.1 12) = (200 : Int32) then (
    (m_P s7 14 ((s7.1 14) + (1 : Int32))).bind fun s27 =>
    some ((-1 : Int32), s27))
  else (
    (m_A s7 16 ((199 : Int32) - (s7.1 12))).bind fun v44 =>
    (m_Q s7 15 (s7.1 12) v44).bind fun s57 =>
    (m_P s57 12 ((s57.1 12) + (1 : Int32))).bind fun s65 =>
    (m_Q s65 17 v44 ((s65.1 13) - (1 : Int32))).bind fun s80 =>
    (m_Q s80 18 v44 a1).bind fun s88 =>
    (m_Q s88 19 v44 a2).bind fun s96 =>
    (m_Q s96 20 v44 a3).bind fun s104 =>
    (m_Q s104 21 v44 a4).bind fun s113 =>
    (m_Q s113 22 v44 a5).bind fun s122 =>
    (m_Q s122 23 v44 a6).bind fun s131 =>
    (m_Q s131 24 v44 a7).bind fun s140 =>
    (m_Q s140 30 v44 (0 : Int32)).bind fun s148 =>
    (m_Q s148 29 v44 (0 : Int32)).bind fun s156 =>
    some (v44, s156))
def f_X12_taken_47 (μ : Mu) (x2 : Int32) : Option (Int32 × Mu) :=
  (m_Q μ 16 ((199 : Int32) - (μ.1 12)) x2).bind fun s60 =>
  some (x2, s60)
def b_X12_taken_19 (rec19 : Mu → Int32 → Int32 → Option (Int32 × Mu)) (μ : Mu) (x2 : Int32) (x3 : Int32) : Option (Int32 × Mu) :=
  if (μ.1 12) ≤ x3 then (
    f_X12_taken_47 μ x2)
  else (
    (m_A μ 15 (x3 + (1 : Int32))).bind fun v39 =>
    (m_Q μ 15 x3 v39).bind fun s40 =>
    rec19 s40 x2 (x3 + 1))
def f_X12_taken_19 (n : Nat) : Mu → Int32 → Int32 → Option (Int32 × Mu) := Nat.rec (motive := fun _ => Mu → Int32 → Int32 → Option (Int32 × Mu)) (fun _ _ _ => none) (fun _ rec => b_X12_taken_19 rec) n
def f_X12_taken (μ : Mu) (a1 : Int32) : Option (Int32 × Mu) :=
  (m_A μ 15 a1).bind fun v5 =>
  (m_P μ 12 ((μ.1 12) - (1 : Int32))).bind fun s14 =>
  f_X12_taken_19 lf s14 v5 a1
def b_X12_find_2 (rec2 : Mu → Int32 → Int32 → Option Int32) (μ : Mu) (x1 : Int32) (x2 : Int32) : Option Int32 :=
  if (μ.1 12) ≤ x2 then (
    some (-1 : Int32))
  else (
    (m_A μ 15 x2).bind fun v19 =>
    (m_A μ 17 v19).bind fun v20 =>
    if v20 = x1 then (
      some x2)
    else (
      rec2 μ x1 (x2 + 1)))
def f_X12_find_2 (n : Nat) : Mu → Int32 → Int32 → Option Int32 := Nat.rec (motive := fun _ => Mu → Int32 → Int32 → Option Int32) (fun _ _ _ => none) (fun _ rec => b_X12_find_2 rec) n
def f_X12_find (μ : Mu) (a1 : Int32) : Option Int32 :=
  f_X12_find_2 lf μ a1 (0 : Int32)
def f_X12_all_41 (rec3 : Mu → Int32 → Int32 → Int32 → Int32 → Option Mu) (μ : Mu) (x1 : Int32) (x2 : Int32) (x3 : Int32) (x4 : Int32) : Option Mu :=
  rec3 μ x1 x2 x3 (x4 + 1)
def b_X12_all_3 (rec3 : Mu → Int32 → Int32 → Int32 → Int32 → Option Mu) (μ : Mu) (x1 : Int32) (x2 : Int32) (x3 : Int32) (x4 : Int32) : Option Mu :=
  if (μ.1 1) ≤ x4 then (
    some μ)
  else (
    if x4 = x2 then (
      f_X12_all_41 rec3 μ x1 x2 x3 x4)
    else (
      (m_A μ 33 x2).bind fun v28 =>
      (m_A μ 34 x2).bind fun v34 =>
      (f_X12_send μ x1 x2 x4 v28 v34 x3 (0 : Int32)).bind fun v37 =>
      f_X12_all_41 rec3 v37.2 x1 x2 x3 x4))
def f_X12_all_3 (n : Nat) : Mu → Int32 → Int32 → Int32 → Int32 → Option Mu := Nat.rec (motive := fun _ => Mu → Int32 → Int32 → Int32 → Int32 → Option Mu) (fun _ _ _ _ _ => none) (fun _ rec => b_X12_all_3 rec) n
def f_X12_all (μ : Mu) (a1 : Int32) (a2 : Int32) (a3 : Int32) : Option Mu :=
  f_X12_all_3 lf μ a1 a2 a3 (0 : Int32)
def b_X12_load_52 (rec52 : Mu → Int32 → Int32 → Int32 → Int32 → Option Mu) (μ : Mu) (x1 : Int32) (x2 : Int32) (x3 : Int32) (x4 : Int32) : Option Mu :=
  if x3 ≤ x4 then (
    some μ)
  else (
    (m_A μ 42 (((100 : Int32) * x2) + x4)).bind fun v80 =>
    (m_Q μ 31 (((100 : Int32) * x1) + x4) v80).bind fun s81 =>
    rec52 s81 x1 x2 x3 (x4 + 1))
def f_X12_load_52 (n : Nat) : Mu → Int32 → Int32 → Int32 → Int32 → Option Mu := Nat.rec (motive := fun _ => Mu → Int32 → Int32 → Int32 → Int32 → Option Mu) (fun _ _ _ _ _ => none) (fun _ rec => b_X12_load_52 rec) n
def f_X12_load (μ : Mu) (a1 : Int32) (a2 : Int32) (a3 : Int32) : Option Mu :=
  if a1 = (-1 : Int32) then (
    some μ)
  else (
    (m_A μ 39 a2).bind fun v16 =>
    (m_Q μ 28 a1 v16).bind fun s17 =>
    (m_A s17 36 a2).bind fun v28 =>
    (m_Q s17 26 a1 v28).bind fun s29 =>
    (m_A s29 37 a2).bind fun v40 =>
    (m_Q s29 27 a1 v40).bind fun s41 =>
    (m_Q s41 29 a1 a3).bind fun s48 =>
    f_X12_load_52 lf s48 a1 a2 a3 (0 : Int32))
def b_X12_stamp_20 (rec20 : Mu → Int32 → Int32 → Option Mu) (μ : Mu) (x1 : Int32) (x2 : Int32) : Option Mu :=
  if (μ.1 1) ≤ x2 then (
    some μ)
  else (
    (f_X12_send μ (0 : Int32) (-1 : Int32) x2 (0 : Int32) (μ.1 10) (μ.1 11) x1).bind fun v42 =>
    rec20 v42.2 x1 (x2 + 1))
def f_X12_stamp_20 (n : Nat) : Mu → Int32 → Int32 → Option Mu := Nat.rec (motive := fun _ => Mu → Int32 → Int32 → Option Mu) (fun _ _ _ => none) (fun _ rec => b_X12_stamp_20 rec) n
def f_X12_stamp (μ : Mu) (a1 : Int32) : Option Mu :=
  if (μ.1 9) = 0 then (
    some μ)
  else (
    (m_P μ 11 ((μ.1 11) + (1 : Int32))).bind fun s15 =>
    f_X12_stamp_20 lf s15 a1 (0 : Int32))
def f_X12_execute_198 (rec50 : Mu → Int32 → Int32 → Int32 → Option Mu) (μ : Mu) (x1 : Int32) (x2 : Int32) (x3 : Int32) : Option Mu :=
  rec50 μ x1 x2 (x3 + 1)
def f_X12_execute_170 (rec50 : Mu → Int32 → Int32 → Int32 → Option Mu) (μ : Mu) (x1 : Int32) (x2 : Int32) (x3 : Int32) (x4 : Int32) (x5 : Int32) : Option Mu :=
  (m_A μ 6 x4).bind fun v176 =>
  if v176 = (2 : Int32) then (
    (m_A μ 76 x5).bind fun v188 =>
    (m_A μ 8 x4).bind fun v195 =>
    (m_Q μ 76 x5 (v188 + v195)).bind fun s197 =>
    f_X12_execute_198 rec50 s197 x1 x2 x3)
  else (
    f_X12_execute_198 rec50 μ x1 x2 x3)
def b_X12_execute_50 (rec50 : Mu → Int32 → Int32 → Int32 → Option Mu) (μ : Mu) (x1 : Int32) (x2 : Int32) (x3 : Int32) : Option Mu :=
  if x2 ≤ x3 then (
    some μ)
  else (
    (m_A μ 42 (((100 : Int32) * x1) + x3)).bind fun v65 =>
    if v65 = 0 then (
      f_X12_execute_198 rec50 μ x1 x2 x3)
    else (
      (m_A μ 5 v65).bind fun v79 =>
      (m_A μ 4 v65).bind fun v90 =>
      (m_A μ 77 v90).bind fun v91 =>
      if v91 < v79 then (
        (m_A μ 7 v65).bind fun v104 =>
        (m_A μ 4 v65).bind fun v117 =>
        (m_A μ 5 v65).bind fun v124 =>
        (m_Q μ 77 v117 v124).bind fun s125 =>
        (m_A s125 4 v65).bind fun v136 =>
        (m_A s125 76 v104).bind fun v143 =>
        (m_Q s125 78 v136 v143).bind fun s144 =>
        (m_A s144 6 v65).bind fun v151 =>
        if v151 = (1 : Int32) then (
          (m_A s144 8 v65).bind fun v168 =>
          (m_Q s144 76 v104 v168).bind fun s169 =>
          f_X12_execute_170 rec50 s169 x1 x2 x3 v65 v104)
        else (
          f_X12_execute_170 rec50 s144 x1 x2 x3 v65 v104))
      else (
        f_X12_execute_198 rec50 μ x1 x2 x3)))
def f_X12_execute_50 (n : Nat) : Mu → Int32 → Int32 → Int32 → Option Mu := Nat.rec (motive := fun _ => Mu → Int32 → Int32 → Int32 → Option Mu) (fun _ _ _ _ => none) (fun _ rec => b_X12_execute_50 rec) n
def f_X12_execute_48 (μ : Mu) (x1 : Int32) (x2 : Int32) : Option Mu :=
  f_X12_execute_50 lf μ x1 x2 (0 : Int32)
def b_X12_execute_23 (rec23 : Mu → Int32 → Int32 → Int32 → Option Mu) (μ : Mu) (x1 : Int32) (x2 : Int32) (x3 : Int32) : Option Mu :=
  if (4 : Int32) ≤ x3 then (
    f_X12_execute_48 μ x1 x2)
  else (
    (m_Q μ 77 x3 (0 : Int32)).bind fun s34 =>
    (m_Q s34 78 x3 (0 : Int32)).bind fun s41 =>
    rec23 s41 x1 x2 (x3 + 1))
def f_X12_execute_23 (n : Nat) : Mu → Int32 → Int32 → Int32 → Option Mu := Nat.rec (motive := fun _ => Mu → Int32 → Int32 → Int32 → Option Mu) (fun _ _ _ _ => none) (fun _ rec => b_X12_execute_23 rec) n
def f_X12_execute_21 (μ : Mu) (x1 : Int32) (x2 : Int32) : Option Mu :=
  f_X12_execute_23 lf μ x1 x2 (0 : Int32)
def b_X12_execute_2 (rec2 : Mu → Int32 → Int32 → Int32 → Option Mu) (μ : Mu) (x1 : Int32) (x2 : Int32) (x3 : Int32) : Option Mu :=
  if (8 : Int32) ≤ x3 then (
    f_X12_execute_21 μ x1 x2)
  else (
    (m_Q μ 76 x3 (0 : Int32)).bind fun s14 =>
    rec2 s14 x1 x2 (x3 + 1))
def f_X12_execute_2 (n : Nat) : Mu → Int32 → Int32 → Int32 → Option Mu := Nat.rec (motive := fun _ => Mu → Int32 → Int32 → Int32 → Option Mu) (fun _ _ _ _ => none) (fun _ rec => b_X12_execute_2 rec) n
def f_X12_execute (μ : Mu) (a1 : Int32) (a2 : Int32) : Option Mu :=
  f_X12_execute_2 lf μ a1 a2 (0 : Int32)
def f_X12_leads (μ : Mu) (a1 : Int32) : Option Int32 :=
  (m_A μ 33 a1).bind fun v5 =>
  (h_nz (μ.1 1)).bind fun _ =>
  if (v5 - v5 / (μ.1 1) * (μ.1 1)) = a1 then (
    some (1 : Int32))
  else (
    some (0 : Int32))
def f_X12_leader (μ : Mu) (a1 : Int32) : Option Int32 :=
  (m_A μ 33 a1).bind fun v5 =>
  (h_nz (μ.1 1)).bind fun _ =>
  some (v5 - v5 / (μ.1 1) * (μ.1 1))
def f_X12_executed_25 (μ : Mu) (x1 : Int32) : Option Int32 :=
  (m_A μ 40 x1).bind fun v30 =>
  (m_A μ 38 x1).bind fun v36 =>
  if v36 ≤ v30 then (
    (m_A μ 38 x1).bind fun v54 =>
    some v54)
  else (
    (m_A μ 40 x1).bind fun v45 =>
    some v45)
def f_X12_executed (μ : Mu) (a1 : Int32) : Option Int32 :=
  (f_X12_leads μ a1).bind fun v2 =>
  if v2 = 0 then (
    f_X12_executed_25 μ a1)
  else (
    (m_A μ 35 a1).bind fun v13 =>
    if v13 = (2 : Int32) then (
      f_X12_executed_25 μ a1)
    else (
      (m_A μ 38 a1).bind fun v23 =>
      some v23))
def b_X12_held_2 (rec2 : Mu → Int32 → Int32 → Int32 → Option Int32) (μ : Mu) (x1 : Int32) (x2 : Int32) (x3 : Int32) : Option Int32 :=
  (m_A μ 43 x1).bind fun v8 =>
  if v8 ≤ x3 then (
    some (-1 : Int32))
  else (
    (m_A μ 44 (((12 : Int32) * x1) + x3)).bind fun v22 =>
    if v22 = x2 then (
      some x3)
    else (
      rec2 μ x1 x2 (x3 + 1)))
def f_X12_held_2 (n : Nat) : Mu → Int32 → Int32 → Int32 → Option Int32 := Nat.rec (motive := fun _ => Mu → Int32 → Int32 → Int32 → Option Int32) (fun _ _ _ _ => none) (fun _ rec => b_X12_held_2 rec) n
def f_X12_held (μ : Mu) (a1 : Int32) (a2 : Int32) : Option Int32 :=
  f_X12_held_2 lf μ a1 a2 (0 : Int32)
def f_X12_hold_32 (μ : Mu) (x1 : Int32) (x2 : Int32) (x3 : Int32) (x4 : Int32) : Option Mu :=
  (m_Q μ 44 (((12 : Int32) * x1) + x4) x2).bind fun s44 =>
  (m_Q s44 45 (((12 : Int32) * x1) + x4) x3).bind fun s57 =>
  some s57
def f_X12_hold (μ : Mu) (a1 : Int32) (a2 : Int32) (a3 : Int32) : Option Mu :=
  (f_X12_held μ a1 a2).bind fun v3 =>
  if v3 = (-1 : Int32) then (
    (m_A μ 43 a1).bind fun v19 =>
    (m_A μ 43 a1).bind fun v28 =>
    (m_Q μ 43 a1 (v28 + (1 : Int32))).bind fun s31 =>
    f_X12_hold_32 s31 a1 a2 a3 v19)
  else (
    f_X12_hold_32 μ a1 a2 a3 v3)
def f_X12_unhold (μ : Mu) (a1 : Int32) (a2 : Int32) : Option Mu :=
  (f_X12_held μ a1 a2).bind fun v3 =>
  if v3 = (-1 : Int32) then (
    some μ)
  else (
    (m_A μ 43 a1).bind fun v19 =>
    (m_Q μ 43 a1 (v19 - (1 : Int32))).bind fun s22 =>
    (m_A s22 43 a1).bind fun v46 =>
    (m_A s22 44 (((12 : Int32) * a1) + v46)).bind fun v48 =>
    (m_Q s22 44 (((12 : Int32) * a1) + v3) v48).bind fun s49 =>
    (m_A s49 43 a1).bind fun v73 =>
    (m_A s49 45 (((12 : Int32) * a1) + v73)).bind fun v75 =>
    (m_Q s49 45 (((12 : Int32) * a1) + v3) v75).bind fun s76 =>
    some s76)
def f_X12_forget (μ : Mu) (a1 : Int32) : Option Mu :=
  (m_Q μ 43 a1 (0 : Int32)).bind fun s6 =>
  (m_Q s6 46 a1 (0 : Int32)).bind fun s13 =>
  (m_Q s13 47 a1 (0 : Int32)).bind fun s20 =>
  (m_Q s20 49 a1 (0 : Int32)).bind fun s27 =>
  some s27
def f_X12_append (μ : Mu) (a1 : Int32) (a2 : Int32) : Option Mu :=
  (m_A μ 38 a1).bind fun v13 =>
  (m_Q μ 42 (((100 : Int32) * a1) + v13) a2).bind fun s16 =>
  (m_A s16 38 a1).bind fun v23 =>
  (m_Q s16 38 a1 (v23 + (1 : Int32))).bind fun s26 =>
  some s26
def f_X12_answer_42 (μ : Mu) (x1 : Int32) (x2 : Int32) (x3 : Int32) : Option Mu :=
  (m_A μ 33 x1).bind fun v52 =>
  (m_A μ 34 x1).bind fun v58 =>
  (m_A μ 38 x1).bind fun v64 =>
  (f_X12_send μ (11 : Int32) x1 x3 v52 v58 v64 x2).bind fun v66 =>
  if v66.1 = (-1 : Int32) then (
    some v66.2)
  else (
    (f_X12_leads v66.2 x1).bind fun v79 =>
    if v79 = 0 then (
      some v66.2)
    else (
      (m_Q v66.2 30 v66.1 (1 : Int32)).bind fun s93 =>
      (m_A s93 78 x3).bind fun v105 =>
      (m_Q s93 25 v66.1 v105).bind fun s106 =>
      some s106))
def f_X12_answer (μ : Mu) (a1 : Int32) (a2 : Int32) : Option Mu :=
  (m_A μ 4 a2).bind fun v5 =>
  (f_X12_leads μ a1).bind fun v9 =>
  if v9 = 0 then (
    f_X12_answer_42 μ a1 a2 v5)
  else (
    (m_A μ 38 a1).bind fun v22 =>
    (f_X12_execute μ a1 v22).bind fun v23 =>
    (m_A v23 77 v5).bind fun v31 =>
    (m_A v23 5 a2).bind fun v37 =>
    if v31 = v37 then (
      f_X12_answer_42 v23 a1 a2 v5)
    else (
      some v23))
def f_X12_take_89 (μ : Mu) (x1 : Int32) : Option Mu :=
  (m_A μ 43 x1).bind fun v94 =>
  if v94 = 0 then (
    some μ)
  else (
    (m_A μ 38 x1).bind fun v103 =>
    if v103 = (100 : Int32) then (
      some μ)
    else (
      (f_X12_leads μ x1).bind fun v112 =>
      if v112 = 0 then (
        (f_X12_leader μ x1).bind fun v123 =>
        (m_A μ 33 x1).bind fun v131 =>
        (m_A μ 34 x1).bind fun v137 =>
        (m_A μ 38 x1).bind fun v143 =>
        (f_X12_send μ (1 : Int32) x1 v123 v131 v137 (v143 + (1 : Int32)) (0 : Int32)).bind fun v147 =>
        some v147.2)
      else (
        (f_X12_append μ x1 (0 : Int32)).bind fun v155 =>
        (m_Q v155 35 x1 (1 : Int32)).bind fun s164 =>
        (m_Q s164 46 x1 (0 : Int32)).bind fun s171 =>
        (m_A s171 38 x1).bind fun v180 =>
        (f_X12_all s171 (3 : Int32) x1 v180).bind fun v181 =>
        some v181)))
def b_X12_take_0 (rec0 : Mu → Int32 → Option Mu) (μ : Mu) (x1 : Int32) : Option Mu :=
  (m_A μ 38 x1).bind fun v5 =>
  if (100 : Int32) ≤ v5 then (
    f_X12_take_89 μ x1)
  else (
    (m_A μ 38 x1).bind fun v18 =>
    (m_A μ 39 x1).bind fun v26 =>
    (f_X12_held μ x1 ((v18 + (1 : Int32)) - v26)).bind fun v28 =>
    if v28 = (-1 : Int32) then (
      f_X12_take_89 μ x1)
    else (
      (m_A μ 38 x1).bind fun v40 =>
      (m_A μ 39 x1).bind fun v48 =>
      (f_X12_held μ x1 ((v40 + (1 : Int32)) - v48)).bind fun v62 =>
      (m_A μ 45 (((12 : Int32) * x1) + v62)).bind fun v66 =>
      (f_X12_unhold μ x1 ((v40 + (1 : Int32)) - v48)).bind fun v71 =>
      (f_X12_append v71 x1 v66).bind fun v77 =>
      (f_X12_answer v77 x1 v66).bind fun v83 =>
      rec0 v83 x1))
def f_X12_take_0 (n : Nat) : Mu → Int32 → Option Mu := Nat.rec (motive := fun _ => Mu → Int32 → Option Mu) (fun _ _ => none) (fun _ rec => b_X12_take_0 rec) n
def f_X12_take (μ : Mu) (a1 : Int32) : Option Mu :=
  f_X12_take_0 lf μ a1
def f_X12_tellTurned (μ : Mu) (a1 : Int32) : Option Mu :=
  (f_X12_leader μ a1).bind fun v7 =>
  (m_A μ 33 a1).bind fun v15 =>
  (m_A μ 34 a1).bind fun v21 =>
  (f_X12_send μ (9 : Int32) a1 v7 v15 v21 (0 : Int32) (0 : Int32)).bind fun v24 =>
  (m_A v24.2 38 a1).bind fun v33 =>
  (f_X12_load v24.2 v24.1 a1 v33).bind fun v34 =>
  some v34
def f_X12_turn (μ : Mu) (a1 : Int32) (a2 : Int32) (a3 : Int32) : Option Mu :=
  (m_Q μ 33 a1 a2).bind fun s6 =>
  (m_Q s6 34 a1 a3).bind fun s13 =>
  (m_Q s13 35 a1 (2 : Int32)).bind fun s20 =>
  (f_X12_forget s20 a1).bind fun v23 =>
  (m_Q v23 41 a1 (0 : Int32)).bind fun s32 =>
  (f_X12_all s32 (8 : Int32) a1 (0 : Int32)).bind fun v38 =>
  (f_X12_leads v38 a1).bind fun v43 =>
  if v43 = 0 then (
    (f_X12_tellTurned v38 a1).bind fun v51 =>
    some v51)
  else (
    some v38)
def f_X12_normalOf (μ : Mu) (a1 : Int32) (a2 : Int32) (a3 : Int32) : Option Int32 :=
  if a2 = a1 then (
    if a3 = 0 then (
      (m_A μ 36 a1).bind fun v23 =>
      some v23)
    else (
      (m_A μ 37 a1).bind fun v14 =>
      some v14))
  else (
    if a3 = 0 then (
      (m_A μ 50 (((7 : Int32) * a1) + a2)).bind fun v53 =>
      some v53)
    else (
      (m_A μ 51 (((7 : Int32) * a1) + a2)).bind fun v39 =>
      some v39))
def f_X12_lengthOf (μ : Mu) (a1 : Int32) (a2 : Int32) : Option Int32 :=
  if a2 = a1 then (
    (m_A μ 38 a1).bind fun v10 =>
    some v10)
  else (
    (m_A μ 53 (((7 : Int32) * a1) + a2)).bind fun v24 =>
    some v24)
def f_X12_entryOf (μ : Mu) (a1 : Int32) (a2 : Int32) (a3 : Int32) : Option Int32 :=
  if a2 = a1 then (
    (m_A μ 42 (((100 : Int32) * a1) + a3)).bind fun v15 =>
    some v15)
  else (
    (m_A μ 54 (((100 : Int32) * (((7 : Int32) * a1) + a2)) + a3)).bind fun v34 =>
    some v34)
def f_X12_isIn (μ : Mu) (a1 : Int32) (a2 : Int32) : Option Int32 :=
  if a2 = a1 then (
    some (1 : Int32))
  else (
    (m_A μ 49 a1).bind fun v10 =>
    if ((v10 >>> (a2 &&& 31)) &&& (1 : Int32)) = (1 : Int32) then (
      some (1 : Int32))
    else (
      some (0 : Int32)))
def f_X12_mergedAt_146 (rec51 : Mu → Int32 → Int32 → Int32 → Int32 → Int32 → Int32 → Option Int32) (μ : Mu) (x1 : Int32) (x2 : Int32) (x3 : Int32) (x4 : Int32) (x5 : Int32) (x6 : Int32) : Option Int32 :=
  rec51 μ x1 x2 x3 x4 x5 (x6 + 1)
def f_X12_mergedAt_137 (rec51 : Mu → Int32 → Int32 → Int32 → Int32 → Int32 → Int32 → Option Int32) (μ : Mu) (x1 : Int32) (x2 : Int32) (x3 : Int32) (x4 : Int32) (x6 : Int32) (x7 : Int32) (y0 : Int32) : Option Int32 :=
  if x7 = 0 then (
    some (0 : Int32))
  else (
    f_X12_mergedAt_146 rec51 μ x1 x2 x3 x4 y0 x6)
def f_X12_mergedAt_130 (rec51 : Mu → Int32 → Int32 → Int32 → Int32 → Int32 → Int32 → Option Int32) (μ : Mu) (x1 : Int32) (x2 : Int32) (x3 : Int32) (x4 : Int32) (x6 : Int32) (x7 : Int32) : Option Int32 :=
  f_X12_mergedAt_137 rec51 μ x1 x2 x3 x4 x6 x7 x7
def b_X12_mergedAt_51 (rec51 : Mu → Int32 → Int32 → Int32 → Int32 → Int32 → Int32 → Option Int32) (μ : Mu) (x1 : Int32) (x2 : Int32) (x3 : Int32) (x4 : Int32) (x5 : Int32) (x6 : Int32) : Option Int32 :=
  if (μ.1 1) ≤ x6 then (
    some x5)
  else (
    (f_X12_isIn μ x1 x6).bind fun v64 =>
    if v64 = 0 then (
      f_X12_mergedAt_146 rec51 μ x1 x2 x3 x4 x5 x6)
    else (
      (f_X12_normalOf μ x1 x6 (0 : Int32)).bind fun v75 =>
      if v75 = x3 then (
        (f_X12_normalOf μ x1 x6 (1 : Int32)).bind fun v87 =>
        if v87 = x4 then (
          (f_X12_lengthOf μ x1 x6).bind fun v100 =>
          if x2 < v100 then (
            (f_X12_entryOf μ x1 x6 x2).bind fun v114 =>
            if v114 = 0 then (
              f_X12_mergedAt_130 rec51 μ x1 x2 x3 x4 x6 v114)
            else (
              if x5 = (-1 : Int32) then (
                f_X12_mergedAt_130 rec51 μ x1 x2 x3 x4 x6 v114)
              else (
                f_X12_mergedAt_137 rec51 μ x1 x2 x3 x4 x6 v114 x5)))
          else (
            f_X12_mergedAt_146 rec51 μ x1 x2 x3 x4 x5 x6))
        else (
          f_X12_mergedAt_146 rec51 μ x1 x2 x3 x4 x5 x6))
      else (
        f_X12_mergedAt_146 rec51 μ x1 x2 x3 x4 x5 x6)))
def f_X12_mergedAt_51 (n : Nat) : Mu → Int32 → Int32 → Int32 → Int32 → Int32 → Int32 → Option Int32 := Nat.rec (motive := fun _ => Mu → Int32 → Int32 → Int32 → Int32 → Int32 → Int32 → Option Int32) (fun _ _ _ _ _ _ _ => none) (fun _ rec => b_X12_mergedAt_51 rec) n
def f_X12_mergedAt_46 (μ : Mu) (x1 : Int32) (x2 : Int32) (x3 : Int32) (x4 : Int32) (y0 : Int32) : Option Int32 :=
  f_X12_mergedAt_51 lf μ x1 x2 x3 x4 y0 (0 : Int32)
def f_X12_mergedAt_45 (μ : Mu) (x1 : Int32) (x2 : Int32) (x3 : Int32) (x4 : Int32) : Option Int32 :=
  f_X12_mergedAt_46 μ x1 x2 x3 x4 (-1 : Int32)
def f_X12_mergedAt (μ : Mu) (a1 : Int32) (a2 : Int32) (a3 : Int32) (a4 : Int32) : Option Int32 :=
  (m_A μ 36 a1).bind fun v5 =>
  if v5 = a3 then (
    (m_A μ 37 a1).bind fun v15 =>
    if v15 = a4 then (
      (m_A μ 38 a1).bind fun v27 =>
      if v27 ≤ a2 then (
        f_X12_mergedAt_45 μ a1 a2 a3 a4)
      else (
        (m_A μ 42 (((100 : Int32) * a1) + a2)).bind fun v41 =>
        f_X12_mergedAt_46 μ a1 a2 a3 a4 v41))
    else (
      f_X12_mergedAt_45 μ a1 a2 a3 a4))
  else (
    f_X12_mergedAt_45 μ a1 a2 a3 a4)
def f_X12_settle (μ : Mu) (a1 : Int32) : Option Mu :=
  (m_Q μ 35 a1 (0 : Int32)).bind fun s6 =>
  (m_A s6 33 a1).bind fun v17 =>
  (m_Q s6 36 a1 v17).bind fun s18 =>
  (m_A s18 34 a1).bind fun v29 =>
  (m_Q s18 37 a1 v29).bind fun s30 =>
  (f_X12_forget s30 a1).bind fun v33 =>
  (m_Q v33 41 a1 (0 : Int32)).bind fun s42 =>
  some s42
def f_X12_merge_409 (rec364 : Mu → Int32 → Int32 → Int32 → Option Mu) (μ : Mu) (x1 : Int32) (x4 : Int32) (x7 : Int32) : Option Mu :=
  rec364 μ x1 x4 (x7 + 1)
def b_X12_merge_364 (rec364 : Mu → Int32 → Int32 → Int32 → Option Mu) (μ : Mu) (x1 : Int32) (x4 : Int32) (x7 : Int32) : Option Mu :=
  if (μ.1 1) ≤ x7 then (
    some μ)
  else (
    if x7 = x1 then (
      f_X12_merge_409 rec364 μ x1 x4 x7)
    else (
      (m_A μ 33 x1).bind fun v391 =>
      (m_A μ 34 x1).bind fun v397 =>
      (f_X12_send μ (10 : Int32) x1 x7 v391 v397 (0 : Int32) (0 : Int32)).bind fun v400 =>
      (f_X12_load v400.2 v400.1 x1 x4).bind fun v406 =>
      f_X12_merge_409 rec364 v406 x1 x4 x7))
def f_X12_merge_364 (n : Nat) : Mu → Int32 → Int32 → Int32 → Option Mu := Nat.rec (motive := fun _ => Mu → Int32 → Int32 → Int32 → Option Mu) (fun _ _ _ _ => none) (fun _ rec => b_X12_merge_364 rec) n
def f_X12_merge_355 (μ : Mu) (x1 : Int32) (x4 : Int32) (y1 : Int32) (y2 : Int32) : Option Mu :=
  (m_Q μ 39 y1 y2).bind fun s355 =>
  (f_X12_settle s355 x1).bind fun v358 =>
  f_X12_merge_364 lf v358 x1 x4 (0 : Int32)
def f_X12_merge_325 (μ : Mu) (x1 : Int32) (x3 : Int32) (x4 : Int32) (x6 : Int32) : Option Mu :=
  (m_Q μ 38 x1 x4).bind fun s332 =>
  (m_A s332 34 x1).bind fun v344 =>
  if x3 = v344 then (
    f_X12_merge_355 s332 x1 x4 x1 x6)
  else (
    f_X12_merge_355 s332 x1 x4 x1 x4)
def b_X12_merge_293 (rec293 : Mu → Int32 → Int32 → Int32 → Int32 → Int32 → Option Mu) (μ : Mu) (x1 : Int32) (x3 : Int32) (x4 : Int32) (x6 : Int32) (x7 : Int32) : Option Mu :=
  if x4 ≤ x7 then (
    f_X12_merge_325 μ x1 x3 x4 x6)
  else (
    (m_A μ 55 x7).bind fun v317 =>
    (m_Q μ 42 (((100 : Int32) * x1) + x7) v317).bind fun s318 =>
    rec293 s318 x1 x3 x4 x6 (x7 + 1))
def f_X12_merge_293 (n : Nat) : Mu → Int32 → Int32 → Int32 → Int32 → Int32 → Option Mu := Nat.rec (motive := fun _ => Mu → Int32 → Int32 → Int32 → Int32 → Int32 → Option Mu) (fun _ _ _ _ _ _ => none) (fun _ rec => b_X12_merge_293 rec) n
def f_X12_merge_290 (μ : Mu) (x1 : Int32) (x3 : Int32) (x4 : Int32) (x6 : Int32) : Option Mu :=
  f_X12_merge_293 lf μ x1 x3 x4 x6 (0 : Int32)
def b_X12_merge_261 (rec261 : Mu → Int32 → Int32 → Int32 → Int32 → Int32 → Int32 → Option Mu) (μ : Mu) (x1 : Int32) (x2 : Int32) (x3 : Int32) (x4 : Int32) (x6 : Int32) (x7 : Int32) : Option Mu :=
  if x4 ≤ x7 then (
    f_X12_merge_290 μ x1 x3 x4 x6)
  else (
    (f_X12_mergedAt μ x1 x7 x2 x3).bind fun v280 =>
    (m_Q μ 55 x7 v280).bind fun s283 =>
    rec261 s283 x1 x2 x3 x4 x6 (x7 + 1))
def f_X12_merge_261 (n : Nat) : Mu → Int32 → Int32 → Int32 → Int32 → Int32 → Int32 → Option Mu := Nat.rec (motive := fun _ => Mu → Int32 → Int32 → Int32 → Int32 → Int32 → Int32 → Option Mu) (fun _ _ _ _ _ _ _ => none) (fun _ rec => b_X12_merge_261 rec) n
def f_X12_merge_256 (μ : Mu) (x1 : Int32) (x2 : Int32) (x3 : Int32) (x4 : Int32) (y0 : Int32) : Option Mu :=
  f_X12_merge_261 lf μ x1 x2 x3 x4 y0 (0 : Int32)
def f_X12_merge_229 (μ : Mu) (x1 : Int32) (x2 : Int32) (x3 : Int32) (x4 : Int32) (x5 : Int32) : Option Mu :=
  if x5 = x1 then (
    (m_A μ 39 x1).bind fun v240 =>
    f_X12_merge_256 μ x1 x2 x3 x4 v240)
  else (
    (m_A μ 52 (((7 : Int32) * x1) + x5)).bind fun v255 =>
    f_X12_merge_256 μ x1 x2 x3 x4 v255)
def f_X12_merge_206 (μ : Mu) (x1 : Int32) (x2 : Int32) (x3 : Int32) (x4 : Int32) (x5 : Int32) : Option Mu :=
  (m_A μ 36 x1).bind fun v211 =>
  if v211 = x2 then (
    (m_A μ 37 x1).bind fun v221 =>
    if v221 = x3 then (
      f_X12_merge_229 μ x1 x2 x3 x4 x1)
    else (
      f_X12_merge_229 μ x1 x2 x3 x4 x5))
  else (
    f_X12_merge_229 μ x1 x2 x3 x4 x5)
def f_X12_merge_200 (rec118 : Mu → Int32 → Int32 → Int32 → Int32 → Int32 → Int32 → Option Mu) (μ : Mu) (x1 : Int32) (x2 : Int32) (x3 : Int32) (x4 : Int32) (x5 : Int32) (x6 : Int32) : Option Mu :=
  rec118 μ x1 x2 x3 x4 x5 (x6 + 1)
def f_X12_merge_188 (rec118 : Mu → Int32 → Int32 → Int32 → Int32 → Int32 → Int32 → Option Mu) (μ : Mu) (x1 : Int32) (x2 : Int32) (x3 : Int32) (x5 : Int32) (x6 : Int32) (y0 : Int32) : Option Mu :=
  if x5 = (-1 : Int32) then (
    f_X12_merge_200 rec118 μ x1 x2 x3 y0 x6 x6)
  else (
    f_X12_merge_200 rec118 μ x1 x2 x3 y0 x5 x6)
def b_X12_merge_118 (rec118 : Mu → Int32 → Int32 → Int32 → Int32 → Int32 → Int32 → Option Mu) (μ : Mu) (x1 : Int32) (x2 : Int32) (x3 : Int32) (x4 : Int32) (x5 : Int32) (x6 : Int32) : Option Mu :=
  if (μ.1 1) ≤ x6 then (
    f_X12_merge_206 μ x1 x2 x3 x4 x5)
  else (
    (f_X12_isIn μ x1 x6).bind fun v131 =>
    if v131 = 0 then (
      f_X12_merge_200 rec118 μ x1 x2 x3 x4 x5 x6)
    else (
      (f_X12_normalOf μ x1 x6 (0 : Int32)).bind fun v142 =>
      if v142 = x2 then (
        (f_X12_normalOf μ x1 x6 (1 : Int32)).bind fun v154 =>
        if v154 = x3 then (
          (f_X12_lengthOf μ x1 x6).bind fun v168 =>
          if v168 ≤ x4 then (
            f_X12_merge_188 rec118 μ x1 x2 x3 x5 x6 x4)
          else (
            (f_X12_lengthOf μ x1 x6).bind fun v180 =>
            f_X12_merge_188 rec118 μ x1 x2 x3 x5 x6 v180))
        else (
          f_X12_merge_200 rec118 μ x1 x2 x3 x4 x5 x6))
      else (
        f_X12_merge_200 rec118 μ x1 x2 x3 x4 x5 x6)))
def f_X12_merge_118 (n : Nat) : Mu → Int32 → Int32 → Int32 → Int32 → Int32 → Int32 → Option Mu := Nat.rec (motive := fun _ => Mu → Int32 → Int32 → Int32 → Int32 → Int32 → Int32 → Option Mu) (fun _ _ _ _ _ _ _ => none) (fun _ rec => b_X12_merge_118 rec) n
def f_X12_merge_109 (μ : Mu) (x1 : Int32) (x2 : Int32) (x3 : Int32) : Option Mu :=
  f_X12_merge_118 lf μ x1 x2 x3 (0 : Int32) (-1 : Int32) (0 : Int32)
def f_X12_merge_103 (rec34 : Mu → Int32 → Int32 → Int32 → Int32 → Option Mu) (μ : Mu) (x1 : Int32) (x2 : Int32) (x3 : Int32) (x4 : Int32) : Option Mu :=
  rec34 μ x1 x2 x3 (x4 + 1)
def f_X12_merge_97 (rec34 : Mu → Int32 → Int32 → Int32 → Int32 → Option Mu) (μ : Mu) (x1 : Int32) (x4 : Int32) (x5 : Int32) (x6 : Int32) : Option Mu :=
  f_X12_merge_103 rec34 μ x1 x5 x6 x4
def b_X12_merge_34 (rec34 : Mu → Int32 → Int32 → Int32 → Int32 → Option Mu) (μ : Mu) (x1 : Int32) (x2 : Int32) (x3 : Int32) (x4 : Int32) : Option Mu :=
  if (μ.1 1) ≤ x4 then (
    f_X12_merge_109 μ x1 x2 x3)
  else (
    (f_X12_isIn μ x1 x4).bind fun v47 =>
    if v47 = 0 then (
      f_X12_merge_103 rec34 μ x1 x2 x3 x4)
    else (
      (f_X12_normalOf μ x1 x4 (0 : Int32)).bind fun v61 =>
      (f_X12_normalOf μ x1 x4 (1 : Int32)).bind fun v71 =>
      if v71 < x3 then (
        f_X12_merge_103 rec34 μ x1 x2 x3 x4)
      else (
        if v71 = x3 then (
          if x2 < v61 then (
            f_X12_merge_97 rec34 μ x1 x4 v61 v71)
          else (
            f_X12_merge_103 rec34 μ x1 x2 x3 x4))
        else (
          f_X12_merge_97 rec34 μ x1 x4 v61 v71))))
def f_X12_merge_34 (n : Nat) : Mu → Int32 → Int32 → Int32 → Int32 → Option Mu := Nat.rec (motive := fun _ => Mu → Int32 → Int32 → Int32 → Int32 → Option Mu) (fun _ _ _ _ _ => none) (fun _ rec => b_X12_merge_34 rec) n
def f_X12_merge (μ : Mu) (a1 : Int32) : Option Mu :=
  (m_A μ 49 a1).bind fun v5 =>
  (f_X12_ones v5).bind fun v6 =>
  if (μ.1 2) ≤ v6 then (
    (m_A μ 36 a1).bind fun v22 =>
    (m_A μ 37 a1).bind fun v29 =>
    f_X12_merge_34 lf μ a1 v22 v29 (0 : Int32))
  else (
    some μ)
def f_X12_isBehind_10 (x0 : Int32) (x1 : Int32) (x2 : Int32) (x3 : Int32) : Option Int32 :=
  if x2 < x0 then (
    some (0 : Int32))
  else (
    if x3 < x1 then (
      some (0 : Int32))
    else (
      some (1 : Int32)))
def f_X12_isBehind (a0 : Int32) (a1 : Int32) (a2 : Int32) (a3 : Int32) : Option Int32 :=
  if a0 < a2 then (
    f_X12_isBehind_10 a0 a1 a2 a3)
  else (
    if a3 ≤ a1 then (
      some (0 : Int32))
    else (
      f_X12_isBehind_10 a0 a1 a2 a3))
def f_X12_stamped (μ : Mu) (a1 : Int32) (a2 : Int32) (a3 : Int32) (a4 : Int32) : Option Mu :=
  (m_A μ 34 a1).bind fun v6 =>
  if a2 ≤ v6 then (
    (m_A μ 34 a1).bind fun v29 =>
    if a2 = v29 then (
      (m_A μ 35 a1).bind fun v38 =>
      if v38 = (2 : Int32) then (
        some μ)
      else (
        (m_A μ 39 a1).bind fun v48 =>
        (m_A μ 38 a1).bind fun v56 =>
        if (v48 + a3) ≤ v56 then (
          some μ)
        else (
          (f_X12_held μ a1 a3).bind fun v63 =>
          if v63 = (-1 : Int32) then (
            (m_A μ 43 a1).bind fun v75 =>
            if v75 < (8 : Int32) then (
              (f_X12_hold μ a1 a3 a4).bind fun v87 =>
              (m_A v87 35 a1).bind fun v95 =>
              if v95 = 0 then (
                (f_X12_take v87 a1).bind fun v101 =>
                some v101)
              else (
                some v87))
            else (
              some μ))
          else (
            some μ))))
    else (
      some μ))
  else (
    (m_A μ 33 a1).bind fun v17 =>
    (f_X12_turn μ a1 v17 a2).bind fun v19 =>
    some v19)
def f_X12_lookup_60 (μ : Mu) (x1 : Int32) (x2 : Int32) (x3 : Int32) (x4 : Int32) (y1 : Int32) : Option Mu :=
  (m_A μ 33 x1).bind fun v67 =>
  (m_A μ 34 x1).bind fun v73 =>
  (f_X12_send μ y1 x1 x2 v67 v73 x3 x4).bind fun v77 =>
  some v77.2
def f_X12_lookup (μ : Mu) (a1 : Int32) (a2 : Int32) (a3 : Int32) : Option Mu :=
  (f_X12_leads μ a1).bind fun v2 =>
  if v2 = 0 then (
    some μ)
  else (
    (m_A μ 35 a1).bind fun v13 =>
    if v13 = (2 : Int32) then (
      some μ)
    else (
      if a3 < (1 : Int32) then (
        some μ)
      else (
        (m_A μ 38 a1).bind fun v29 =>
        if a3 ≤ v29 then (
          (m_A μ 42 ((((100 : Int32) * a1) + a3) - (1 : Int32))).bind fun v46 =>
          if v46 = 0 then (
            f_X12_lookup_60 μ a1 a2 a3 v46 (3 : Int32))
          else (
            f_X12_lookup_60 μ a1 a2 a3 v46 (2 : Int32)))
        else (
          some μ))))
def f_X12_gapCommit_113 (μ : Mu) (x1 : Int32) (x3 : Int32) (x4 : Int32) : Option Mu :=
  (f_X12_leader μ x1).bind fun v118 =>
  (m_A μ 33 x1).bind fun v126 =>
  (m_A μ 34 x1).bind fun v132 =>
  (f_X12_send μ (4 : Int32) x1 v118 v126 v132 x3 (0 : Int32)).bind fun v135 =>
  if x4 = 0 then (
    some v135.2)
  else (
    (f_X12_take v135.2 x1).bind fun v146 =>
    some v146)
def f_X12_gapCommit_70 (μ : Mu) (x1 : Int32) (x3 : Int32) (y0 : Int32) : Option Mu :=
  if y0 = 0 then (
    (m_Q μ 42 ((((100 : Int32) * x1) + x3) - (1 : Int32)) (0 : Int32)).bind fun s112 =>
    f_X12_gapCommit_113 s112 x1 x3 y0)
  else (
    (f_X12_append μ x1 (0 : Int32)).bind fun v80 =>
    (m_A v80 39 x1).bind fun v91 =>
    (f_X12_unhold v80 x1 (x3 - v91)).bind fun v93 =>
    f_X12_gapCommit_113 v93 x1 x3 y0)
def f_X12_gapCommit_53 (μ : Mu) (x1 : Int32) (x3 : Int32) : Option Mu :=
  (m_A μ 38 x1).bind fun v59 =>
  if x3 = (v59 + (1 : Int32)) then (
    f_X12_gapCommit_70 μ x1 x3 (1 : Int32))
  else (
    f_X12_gapCommit_70 μ x1 x3 (0 : Int32))
def f_X12_gapCommit (μ : Mu) (a1 : Int32) (a2 : Int32) (a3 : Int32) : Option Mu :=
  (f_X12_leads μ a1).bind fun v2 =>
  if v2 = 0 then (
    (m_A μ 35 a1).bind fun v13 =>
    if v13 = 0 then (
      (m_A μ 38 a1).bind fun v23 =>
      if (v23 + (1 : Int32)) < a3 then (
        some μ)
      else (
        (m_A μ 38 a1).bind fun v35 =>
        if a3 = (v35 + (1 : Int32)) then (
          (m_A μ 38 a1).bind fun v46 =>
          if v46 = (100 : Int32) then (
            some μ)
          else (
            f_X12_gapCommit_53 μ a1 a3))
        else (
          f_X12_gapCommit_53 μ a1 a3)))
    else (
      some μ))
  else (
    some μ)
def f_X12_gapReply (μ : Mu) (a1 : Int32) (a2 : Int32) (a3 : Int32) : Option Mu :=
  (f_X12_leads μ a1).bind fun v2 =>
  if v2 = 0 then (
    some μ)
  else (
    (m_A μ 35 a1).bind fun v13 =>
    if v13 = (1 : Int32) then (
      (m_A μ 38 a1).bind fun v24 =>
      if a3 = v24 then (
        (m_A μ 46 a1).bind fun v35 =>
        (m_Q μ 46 a1 (v35 ||| ((1 : Int32) <<< (a2 &&& 31)))).bind fun s40 =>
        (m_A s40 46 a1).bind fun v46 =>
        (f_X12_ones v46).bind fun v47 =>
        if (s40.1 2) ≤ v47 then (
          (m_Q s40 35 a1 (0 : Int32)).bind fun s64 =>
          (f_X12_take s64 a1).bind fun v67 =>
          some v67)
        else (
          some s40))
      else (
        some μ))
    else (
      some μ))
def f_X12_sync_83 (μ : Mu) (x1 : Int32) (x2 : Int32) (y1 : Int32) (y2 : Int32) : Option Mu :=
  (m_Q μ 41 y1 y2).bind fun s83 =>
  (f_X12_leader s83 x1).bind fun v90 =>
  (m_A s83 33 x1).bind fun v98 =>
  (m_A s83 34 x1).bind fun v104 =>
  (f_X12_send s83 (6 : Int32) x1 v90 v98 v104 x2 (0 : Int32)).bind fun v107 =>
  some v107.2
def f_X12_sync_58 (μ : Mu) (x1 : Int32) (x2 : Int32) : Option Mu :=
  (m_A μ 41 x1).bind fun v69 =>
  if x2 ≤ v69 then (
    (m_A μ 41 x1).bind fun v82 =>
    f_X12_sync_83 μ x1 x2 x1 v82)
  else (
    f_X12_sync_83 μ x1 x2 x1 x2)
def b_X12_sync_30 (rec30 : Mu → Int32 → Int32 → Int32 → Option Mu) (μ : Mu) (x1 : Int32) (x2 : Int32) (x3 : Int32) : Option Mu :=
  if x2 ≤ x3 then (
    f_X12_sync_58 μ x1 x2)
  else (
    (m_A μ 56 x3).bind fun v50 =>
    (m_Q μ 42 (((100 : Int32) * x1) + x3) v50).bind fun s51 =>
    rec30 s51 x1 x2 (x3 + 1))
def f_X12_sync_30 (n : Nat) : Mu → Int32 → Int32 → Int32 → Option Mu := Nat.rec (motive := fun _ => Mu → Int32 → Int32 → Int32 → Option Mu) (fun _ _ _ _ => none) (fun _ rec => b_X12_sync_30 rec) n
def f_X12_sync (μ : Mu) (a1 : Int32) (a2 : Int32) : Option Mu :=
  (f_X12_leads μ a1).bind fun v2 =>
  if v2 = 0 then (
    (m_A μ 35 a1).bind fun v13 =>
    if v13 = 0 then (
      (m_A μ 38 a1).bind fun v22 =>
      if a2 ≤ v22 then (
        f_X12_sync_30 lf μ a1 a2 (0 : Int32))
      else (
        some μ))
    else (
      some μ))
  else (
    some μ)
def f_X12_syncReply_46 (μ : Mu) (x1 : Int32) (x2 : Int32) (x3 : Int32) : Option Mu :=
  (m_Q μ 48 x1 x3).bind fun s52 =>
  (m_A s52 47 x1).bind fun v59 =>
  (m_Q s52 47 x1 (v59 ||| ((1 : Int32) <<< (x2 &&& 31)))).bind fun s64 =>
  (m_A s64 47 x1).bind fun v70 =>
  (f_X12_ones v70).bind fun v71 =>
  if (s64.1 2) ≤ v71 then (
    (m_Q s64 40 x1 x3).bind fun s88 =>
    (f_X12_all s88 (7 : Int32) x1 x3).bind fun v94 =>
    some v94)
  else (
    some s64)
def f_X12_syncReply (μ : Mu) (a1 : Int32) (a2 : Int32) (a3 : Int32) : Option Mu :=
  (f_X12_leads μ a1).bind fun v2 =>
  if v2 = 0 then (
    some μ)
  else (
    (m_A μ 35 a1).bind fun v13 =>
    if v13 = (2 : Int32) then (
      some μ)
    else (
      (m_A μ 40 a1).bind fun v24 =>
      if v24 < a3 then (
        (m_A μ 48 a1).bind fun v34 =>
        if v34 = a3 then (
          f_X12_syncReply_46 μ a1 a2 a3)
        else (
          (m_Q μ 47 a1 (0 : Int32)).bind fun s45 =>
          f_X12_syncReply_46 s45 a1 a2 a3))
      else (
        some μ)))
def f_X12_follow_63 (μ : Mu) (x1 : Int32) (x3 : Int32) (y1 : Int32) (y2 : Int32) : Option Mu :=
  (m_A μ 34 x1).bind fun v69 =>
  if x3 ≤ v69 then (
    (m_A μ 34 x1).bind fun v82 =>
    (f_X12_turn μ y1 y2 v82).bind fun v83 =>
    some v83)
  else (
    (f_X12_turn μ y1 y2 x3).bind fun v83 =>
    some v83)
def f_X12_follow_20 (μ : Mu) (x1 : Int32) (x2 : Int32) (x3 : Int32) : Option Mu :=
  (m_A μ 33 x1).bind fun v27 =>
  (m_A μ 34 x1).bind fun v33 =>
  (f_X12_isBehind x2 x3 v27 v33).bind fun v34 =>
  if v34 = 0 then (
    (m_A μ 33 x1).bind fun v49 =>
    if x2 ≤ v49 then (
      (m_A μ 33 x1).bind fun v62 =>
      f_X12_follow_63 μ x1 x3 x1 v62)
    else (
      f_X12_follow_63 μ x1 x3 x1 x2))
  else (
    some μ)
def f_X12_follow (μ : Mu) (a1 : Int32) (a2 : Int32) (a3 : Int32) : Option Mu :=
  (m_A μ 33 a1).bind fun v6 =>
  if a2 = v6 then (
    (m_A μ 34 a1).bind fun v16 =>
    if a3 = v16 then (
      some μ)
    else (
      f_X12_follow_20 μ a1 a2 a3))
  else (
    f_X12_follow_20 μ a1 a2 a3)
def b_X12_turned_132 (rec132 : Mu → Int32 → Int32 → Int32 → Int32 → Option Mu) (μ : Mu) (x1 : Int32) (x8 : Int32) (x9 : Int32) (x10 : Int32) : Option Mu :=
  if x8 ≤ x10 then (
    (f_X12_merge μ x1).bind fun v167 =>
    some v167)
  else (
    (m_A μ 56 x10).bind fun v157 =>
    (m_Q μ 54 (((100 : Int32) * x9) + x10) v157).bind fun s158 =>
    rec132 s158 x1 x8 x9 (x10 + 1))
def f_X12_turned_132 (n : Nat) : Mu → Int32 → Int32 → Int32 → Int32 → Option Mu := Nat.rec (motive := fun _ => Mu → Int32 → Int32 → Int32 → Int32 → Option Mu) (fun _ _ _ _ _ => none) (fun _ rec => b_X12_turned_132 rec) n
def f_X12_turned (μ : Mu) (a1 : Int32) (a2 : Int32) (a3 : Int32) (a4 : Int32) (a5 : Int32) (a6 : Int32) (a7 : Int32) (a8 : Int32) : Option Mu :=
  (f_X12_follow μ a1 a3 a4).bind fun v5 =>
  (m_A v5 33 a1).bind fun v14 =>
  if a3 = v14 then (
    (m_A v5 34 a1).bind fun v25 =>
    if a4 = v25 then (
      (f_X12_leads v5 a1).bind fun v31 =>
      if v31 = 0 then (
        some v5)
      else (
        (m_A v5 35 a1).bind fun v43 =>
        if v43 = (2 : Int32) then (
          (m_A v5 49 a1).bind fun v87 =>
          (m_Q v5 49 a1 (v87 ||| ((1 : Int32) <<< (a2 &&& 31)))).bind fun s92 =>
          (m_Q s92 50 (((7 : Int32) * a1) + a2) a5).bind fun s101 =>
          (m_Q s101 51 (((7 : Int32) * a1) + a2) a6).bind fun s110 =>
          (m_Q s110 52 (((7 : Int32) * a1) + a2) a7).bind fun s119 =>
          (m_Q s119 53 (((7 : Int32) * a1) + a2) a8).bind fun s128 =>
          f_X12_turned_132 lf s128 a1 a8 (((7 : Int32) * a1) + a2) (0 : Int32))
        else (
          (f_X12_send v5 (10 : Int32) a1 a2 a3 a4 (0 : Int32) (0 : Int32)).bind fun v59 =>
          (m_A v59.2 38 a1).bind fun v68 =>
          (f_X12_load v59.2 v59.1 a1 v68).bind fun v69 =>
          some v69)))
    else (
      some v5))
  else (
    some v5)
def b_X12_start_96 (rec96 : Mu → Int32 → Int32 → Int32 → Option Mu) (μ : Mu) (x1 : Int32) (x5 : Int32) (x7 : Int32) : Option Mu :=
  if x5 ≤ x7 then (
    (f_X12_settle μ x1).bind fun v130 =>
    some v130)
  else (
    (m_A μ 56 x7).bind fun v120 =>
    (m_Q μ 42 (((100 : Int32) * x1) + x7) v120).bind fun s121 =>
    rec96 s121 x1 x5 (x7 + 1))
def f_X12_start_96 (n : Nat) : Mu → Int32 → Int32 → Int32 → Option Mu := Nat.rec (motive := fun _ => Mu → Int32 → Int32 → Int32 → Option Mu) (fun _ _ _ _ => none) (fun _ rec => b_X12_start_96 rec) n
def f_X12_start_63 (μ : Mu) (x1 : Int32) (x2 : Int32) (x3 : Int32) (x4 : Int32) (x5 : Int32) : Option Mu :=
  (m_Q μ 33 x1 x2).bind fun s69 =>
  (m_Q s69 34 x1 x3).bind fun s76 =>
  (m_Q s76 39 x1 x4).bind fun s84 =>
  (m_Q s84 38 x1 x5).bind fun s92 =>
  f_X12_start_96 lf s92 x1 x5 (0 : Int32)
def f_X12_start_25 (μ : Mu) (x1 : Int32) (x2 : Int32) (x3 : Int32) (x4 : Int32) (x5 : Int32) (y0 : Int32) : Option Mu :=
  (m_A μ 33 x1).bind fun v32 =>
  (m_A μ 34 x1).bind fun v38 =>
  (f_X12_isBehind v32 v38 x2 x3).bind fun v41 =>
  if v41 = 0 then (
    if y0 = 0 then (
      some μ)
    else (
      (m_A μ 35 x1).bind fun v57 =>
      if v57 = (2 : Int32) then (
        f_X12_start_63 μ x1 x2 x3 x4 x5)
      else (
        some μ)))
  else (
    f_X12_start_63 μ x1 x2 x3 x4 x5)
def f_X12_start_24 (μ : Mu) (x1 : Int32) (x2 : Int32) (x3 : Int32) (x4 : Int32) (x5 : Int32) : Option Mu :=
  f_X12_start_25 μ x1 x2 x3 x4 x5 (0 : Int32)
def f_X12_start (μ : Mu) (a1 : Int32) (a2 : Int32) (a3 : Int32) (a4 : Int32) (a5 : Int32) : Option Mu :=
  (m_A μ 33 a1).bind fun v6 =>
  if a2 = v6 then (
    (m_A μ 34 a1).bind fun v16 =>
    if a3 = v16 then (
      f_X12_start_25 μ a1 a2 a3 a4 a5 (1 : Int32))
    else (
      f_X12_start_24 μ a1 a2 a3 a4 a5))
  else (
    f_X12_start_24 μ a1 a2 a3 a4 a5)
def f_X12_forgetFirst_94 (μ : Mu) (x1 : Int32) : Option (Int32 × Mu) :=
  (m_Q μ 64 x1 (63 : Int32)).bind fun s101 =>
  some (((((64 : Int32) * x1) + (64 : Int32)) - (1 : Int32)), s101)
def b_X12_forgetFirst_5 (rec5 : Mu → Int32 → Int32 → Option (Int32 × Mu)) (μ : Mu) (x1 : Int32) (x2 : Int32) : Option (Int32 × Mu) :=
  if ((((64 : Int32) * x1) + (64 : Int32)) - (1 : Int32)) ≤ x2 then (
    f_X12_forgetFirst_94 μ x1)
  else (
    (m_A μ 65 (x2 + (1 : Int32))).bind fun v30 =>
    (m_Q μ 65 x2 v30).bind fun s31 =>
    (m_A s31 66 (x2 + (1 : Int32))).bind fun v44 =>
    (m_Q s31 66 x2 v44).bind fun s45 =>
    (m_A s45 67 (x2 + (1 : Int32))).bind fun v58 =>
    (m_Q s45 67 x2 v58).bind fun s59 =>
    (m_A s59 68 (x2 + (1 : Int32))).bind fun v72 =>
    (m_Q s59 68 x2 v72).bind fun s73 =>
    (m_A s73 69 (x2 + (1 : Int32))).bind fun v86 =>
    (m_Q s73 69 x2 v86).bind fun s87 =>
    rec5 s87 x1 (x2 + 1))
def f_X12_forgetFirst_5 (n : Nat) : Mu → Int32 → Int32 → Option (Int32 × Mu) := Nat.rec (motive := fun _ => Mu → Int32 → Int32 → Option (Int32 × Mu)) (fun _ _ _ => none) (fun _ rec => b_X12_forgetFirst_5 rec) n
def f_X12_forgetFirst (μ : Mu) (a1 : Int32) : Option (Int32 × Mu) :=
  f_X12_forgetFirst_5 lf μ a1 ((64 : Int32) * a1)
def f_X12_replied_185 (μ : Mu) (x1 : Int32) (x3 : Int32) (x4 : Int32) (x5 : Int32) (x6 : Int32) (x9 : Int32) : Option Mu :=
  (m_A μ 68 x9).bind fun v191 =>
  (f_X12_ones v191).bind fun v192 =>
  if v192 ≤ (μ.1 2) then (
    some μ)
  else (
    (m_A μ 68 x9).bind fun v208 =>
    (h_nz (μ.1 1)).bind fun _ =>
    if ((v208 >>> ((x3 - x3 / (μ.1 1) * (μ.1 1)) &&& 31)) &&& (1 : Int32)) = 0 then (
      some μ)
    else (
      (m_Q μ 59 x1 (2 : Int32)).bind fun s228 =>
      (m_Q s228 60 x1 x5).bind fun s236 =>
      (m_Q s236 61 x1 x3).bind fun s243 =>
      (m_Q s243 62 x1 x4).bind fun s251 =>
      (m_A s251 69 x9).bind fun v263 =>
      (m_Q s251 63 x1 v263).bind fun s264 =>
      (m_Q s264 71 ((s264.1 70) - (s264.1 70) / (200 : Int32) * (200 : Int32)) x6).bind fun s283 =>
      (m_Q s283 72 ((s264.1 70) - (s264.1 70) / (200 : Int32) * (200 : Int32)) x3).bind fun s291 =>
      (m_Q s291 73 ((s264.1 70) - (s264.1 70) / (200 : Int32) * (200 : Int32)) x4).bind fun s300 =>
      (m_Q s300 74 ((s264.1 70) - (s264.1 70) / (200 : Int32) * (200 : Int32)) x5).bind fun s309 =>
      (m_A s309 63 x1).bind fun v321 =>
      (m_Q s309 75 ((s264.1 70) - (s264.1 70) / (200 : Int32) * (200 : Int32)) v321).bind fun s322 =>
      (m_P s322 70 ((s322.1 70) + (1 : Int32))).bind fun s330 =>
      some s330))
def f_X12_replied_158 (μ : Mu) (x1 : Int32) (x2 : Int32) (x3 : Int32) (x4 : Int32) (x5 : Int32) (x6 : Int32) (x7 : Int32) (x8 : Int32) (x9 : Int32) : Option Mu :=
  (m_A μ 68 x9).bind fun v165 =>
  (m_Q μ 68 x9 (v165 ||| ((1 : Int32) <<< (x2 &&& 31)))).bind fun s170 =>
  if x7 = 0 then (
    f_X12_replied_185 s170 x1 x3 x4 x5 x6 x9)
  else (
    (m_Q s170 69 x9 x8).bind fun s184 =>
    f_X12_replied_185 s184 x1 x3 x4 x5 x6 x9)
def f_X12_replied_114 (μ : Mu) (x1 : Int32) (x2 : Int32) (x3 : Int32) (x4 : Int32) (x5 : Int32) (x6 : Int32) (x7 : Int32) (x8 : Int32) (x9 : Int32) : Option Mu :=
  (m_A μ 64 x1).bind fun v120 =>
  (m_Q μ 64 x1 (v120 + (1 : Int32))).bind fun s123 =>
  (m_Q s123 65 x9 x3).bind fun s131 =>
  (m_Q s131 66 x9 x4).bind fun s140 =>
  (m_Q s140 67 x9 x5).bind fun s149 =>
  (m_Q s149 68 x9 (0 : Int32)).bind fun s157 =>
  f_X12_replied_158 s157 x1 x2 x3 x4 x5 x6 x7 x8 x9
def f_X12_replied_89 (μ : Mu) (x1 : Int32) (x2 : Int32) (x3 : Int32) (x4 : Int32) (x5 : Int32) (x6 : Int32) (x7 : Int32) (x8 : Int32) (x9 : Int32) (x10 : Int32) : Option Mu :=
  if x9 = x10 then (
    (m_A μ 64 x1).bind fun v101 =>
    if v101 = (64 : Int32) then (
      (f_X12_forgetFirst μ x1).bind fun v109 =>
      f_X12_replied_114 v109.2 x1 x2 x3 x4 x5 x6 x7 x8 v109.1)
    else (
      f_X12_replied_114 μ x1 x2 x3 x4 x5 x6 x7 x8 x9))
  else (
    f_X12_replied_158 μ x1 x2 x3 x4 x5 x6 x7 x8 x9)
def f_X12_replied_83 (rec41 : Mu → Int32 → Int32 → Int32 → Int32 → Int32 → Int32 → Int32 → Int32 → Int32 → Int32 → Option Mu) (μ : Mu) (x1 : Int32) (x2 : Int32) (x3 : Int32) (x4 : Int32) (x5 : Int32) (x6 : Int32) (x7 : Int32) (x8 : Int32) (x9 : Int32) (x10 : Int32) : Option Mu :=
  rec41 μ x1 x2 x3 x4 x5 x6 x7 x8 (x9 + 1) x10
def b_X12_replied_41 (rec41 : Mu → Int32 → Int32 → Int32 → Int32 → Int32 → Int32 → Int32 → Int32 → Int32 → Int32 → Option Mu) (μ : Mu) (x1 : Int32) (x2 : Int32) (x3 : Int32) (x4 : Int32) (x5 : Int32) (x6 : Int32) (x7 : Int32) (x8 : Int32) (x9 : Int32) (x10 : Int32) : Option Mu :=
  if x10 ≤ x9 then (
    f_X12_replied_89 μ x1 x2 x3 x4 x5 x6 x7 x8 x9 x10)
  else (
    (m_A μ 65 x9).bind fun v54 =>
    if v54 = x3 then (
      (m_A μ 66 x9).bind fun v65 =>
      if v65 = x4 then (
        (m_A μ 67 x9).bind fun v77 =>
        if v77 = x5 then (
          f_X12_replied_89 μ x1 x2 x3 x4 x5 x6 x7 x8 x9 x10)
        else (
          f_X12_replied_83 rec41 μ x1 x2 x3 x4 x5 x6 x7 x8 x9 x10))
      else (
        f_X12_replied_83 rec41 μ x1 x2 x3 x4 x5 x6 x7 x8 x9 x10))
    else (
      f_X12_replied_83 rec41 μ x1 x2 x3 x4 x5 x6 x7 x8 x9 x10))
def f_X12_replied_41 (n : Nat) : Mu → Int32 → Int32 → Int32 → Int32 → Int32 → Int32 → Int32 → Int32 → Int32 → Int32 → Option Mu := Nat.rec (motive := fun _ => Mu → Int32 → Int32 → Int32 → Int32 → Int32 → Int32 → Int32 → Int32 → Int32 → Int32 → Option Mu) (fun _ _ _ _ _ _ _ _ _ _ _ => none) (fun _ rec => b_X12_replied_41 rec) n
def f_X12_replied (μ : Mu) (a1 : Int32) (a2 : Int32) (a3 : Int32) (a4 : Int32) (a5 : Int32) (a6 : Int32) (a7 : Int32) (a8 : Int32) : Option Mu :=
  (m_A μ 59 a1).bind fun v5 =>
  if v5 = (1 : Int32) then (
    (m_A μ 58 a1).bind fun v15 =>
    if v15 = a6 then (
      (m_A μ 64 a1).bind fun v37 =>
      f_X12_replied_41 lf μ a1 a2 a3 a4 a5 a6 a7 a8 ((64 : Int32) * a1) (((64 : Int32) * a1) + v37))
    else (
      some μ))
  else (
    some μ)
def f_X12_inView (μ : Mu) (a1 : Int32) (a2 : Int32) (a3 : Int32) (a4 : Int32) (a5 : Int32) : Option Mu :=
  if a1 = (1 : Int32) then (
    (f_X12_lookup μ a2 a3 a4).bind fun v45 =>
    some v45)
  else
  if a1 = (2 : Int32) then (
    (m_A μ 35 a2).bind fun v56 =>
    if v56 = 0 then (
      (m_A μ 38 a2).bind fun v67 =>
      if a4 = (v67 + (1 : Int32)) then (
        (m_A μ 39 a2).bind fun v85 =>
        (f_X12_hold μ a2 (a4 - v85) a5).bind fun v89 =>
        (f_X12_take v89 a2).bind fun v94 =>
        some v94)
      else (
        some μ))
    else (
      some μ))
  else
  if a1 = (3 : Int32) then (
    (f_X12_gapCommit μ a2 a3 a4).bind fun v105 =>
    some v105)
  else
  if a1 = (4 : Int32) then (
    (f_X12_gapReply μ a2 a3 a4).bind fun v116 =>
    some v116)
  else
  if a1 = (5 : Int32) then (
    (f_X12_sync μ a2 a4).bind fun v126 =>
    some v126)
  else
  if a1 = (6 : Int32) then (
    (f_X12_syncReply μ a2 a3 a4).bind fun v137 =>
    some v137)
  else
  (f_X12_leads μ a2).bind fun v145 =>
  if v145 = 0 then (
    (m_A μ 35 a2).bind fun v156 =>
    if v156 = (2 : Int32) then (
      some μ)
    else (
      (m_A μ 40 a2).bind fun v168 =>
      if a4 ≤ v168 then (
        some μ)
      else (
        (m_A μ 41 a2).bind fun v177 =>
        if v177 < a4 then (
          some μ)
        else (
          (m_Q μ 40 a2 a4).bind fun s190 =>
          some s190))))
  else (
    some μ)
def f_X12_arrive_88 (μ : Mu) (x2 : Int32) (x3 : Int32) (x4 : Int32) (x5 : Int32) (x6 : Int32) (x7 : Int32) (x8 : Int32) : Option Mu :=
  if x3 = (11 : Int32) then (
    (m_A μ 23 x2).bind fun v108 =>
    (m_A μ 24 x2).bind fun v114 =>
    (m_A μ 30 x2).bind fun v120 =>
    (m_A μ 25 x2).bind fun v126 =>
    (f_X12_replied μ x4 x5 x6 x7 v108 v114 v120 v126).bind fun v127 =>
    some v127)
  else (
    (m_A μ 32 x4).bind fun v137 =>
    if v137 = 0 then (
      if x3 = 0 then (
        (m_A μ 23 x2).bind fun v166 =>
        (m_A μ 24 x2).bind fun v172 =>
        (f_X12_stamped μ x4 x7 v166 v172).bind fun v173 =>
        some v173)
      else (
        if x3 = (8 : Int32) then (
          (f_X12_follow μ x4 x6 x7).bind fun v192 =>
          some v192)
        else (
          if x3 = (9 : Int32) then (
            (m_A μ 26 x2).bind fun v218 =>
            (m_A μ 27 x2).bind fun v224 =>
            (m_A μ 28 x2).bind fun v230 =>
            (f_X12_turned μ x4 x5 x6 x7 v218 v224 v230 x8).bind fun v233 =>
            some v233)
          else (
            if x3 = (10 : Int32) then (
              (m_A μ 28 x2).bind fun v257 =>
              (f_X12_start μ x4 x6 x7 v257 x8).bind fun v260 =>
              some v260)
            else (
              (m_A μ 33 x4).bind fun v274 =>
              if x6 = v274 then (
                (m_A μ 34 x4).bind fun v286 =>
                if x7 = v286 then (
                  (m_A μ 23 x2).bind fun v301 =>
                  (m_A μ 24 x2).bind fun v307 =>
                  (f_X12_inView μ x3 x4 x5 v301 v307).bind fun v308 =>
                  some v308)
                else (
                  some μ))
              else (
                some μ))))))
    else (
      (m_P μ 14 ((μ.1 14) + (1 : Int32))).bind fun s148 =>
      some s148))
def b_X12_arrive_56 (rec56 : Mu → Int32 → Int32 → Int32 → Int32 → Int32 → Int32 → Int32 → Int32 → Option Mu) (μ : Mu) (x2 : Int32) (x3 : Int32) (x4 : Int32) (x5 : Int32) (x6 : Int32) (x7 : Int32) (x8 : Int32) (x9 : Int32) : Option Mu :=
  if x8 ≤ x9 then (
    f_X12_arrive_88 μ x2 x3 x4 x5 x6 x7 x8)
  else (
    (m_A μ 31 (((100 : Int32) * x2) + x9)).bind fun v80 =>
    (m_Q μ 56 x9 v80).bind fun s81 =>
    rec56 s81 x2 x3 x4 x5 x6 x7 x8 (x9 + 1))
def f_X12_arrive_56 (n : Nat) : Mu → Int32 → Int32 → Int32 → Int32 → Int32 → Int32 → Int32 → Int32 → Option Mu := Nat.rec (motive := fun _ => Mu → Int32 → Int32 → Int32 → Int32 → Int32 → Int32 → Int32 → Int32 → Option Mu) (fun _ _ _ _ _ _ _ _ _ => none) (fun _ rec => b_X12_arrive_56 rec) n
def f_X12_arrive (μ : Mu) (a1 : Int32) : Option Mu :=
  (f_X12_taken μ a1).bind fun v2 =>
  (m_A v2.2 18 v2.1).bind fun v11 =>
  (m_A v2.2 20 v2.1).bind fun v18 =>
  (m_A v2.2 19 v2.1).bind fun v26 =>
  (m_A v2.2 21 v2.1).bind fun v34 =>
  (m_A v2.2 22 v2.1).bind fun v42 =>
  (m_A v2.2 29 v2.1).bind fun v50 =>
  f_X12_arrive_56 lf v2.2 v2.1 v11 v18 v26 v34 v42 v50 (0 : Int32)
def f_X12_request_49 (μ : Mu) (x1 : Int32) (x2 : Int32) (x3 : Int32) (x4 : Int32) (y1 : Int32) : Option (Int32 × Mu) :=
  (m_P μ 0 y1).bind fun s49 =>
  if (s49.1 0) ≤ 0 then (
    (m_P s49 3 ((s49.1 3) + (1 : Int32))).bind fun s68 =>
    (m_A s68 57 x1).bind fun v77 =>
    (m_Q s68 57 x1 (v77 + (1 : Int32))).bind fun s80 =>
    (m_Q s80 4 (s80.1 3) x1).bind fun s90 =>
    (m_A s90 57 x1).bind fun v104 =>
    (m_Q s90 5 (s90.1 3) v104).bind fun s105 =>
    (m_Q s105 6 (s105.1 3) x2).bind fun s115 =>
    (m_Q s115 7 (s115.1 3) x3).bind fun s125 =>
    (m_Q s125 8 (s125.1 3) x4).bind fun s136 =>
    (m_Q s136 58 x1 (s136.1 3)).bind fun s146 =>
    (m_Q s146 59 x1 (1 : Int32)).bind fun s153 =>
    (m_Q s153 64 x1 (0 : Int32)).bind fun s160 =>
    (f_X12_stamp s160 (s160.1 3)).bind fun v166 =>
    (m_A v166 57 x1).bind fun v174 =>
    some (v174, v166))
  else (
    some ((0 : Int32), s49))
def f_X12_request_18 (μ : Mu) (x1 : Int32) (x2 : Int32) (x3 : Int32) (x4 : Int32) : Option (Int32 × Mu) :=
  f_X12_request_49 μ x1 x2 x3 x4 (1 : Int32)
def f_X12_request (μ : Mu) (a1 : Int32) (a2 : Int32) (a3 : Int32) (a4 : Int32) : Option (Int32 × Mu) :=
  (f_X12_in a1 (4 : Int32)).bind fun v3 =>
  if v3 = 0 then (
    f_X12_request_18 μ a1 a2 a3 a4)
  else (
    (f_X12_in a3 (8 : Int32)).bind fun v12 =>
    if v12 = 0 then (
      f_X12_request_18 μ a1 a2 a3 a4)
    else (
      (f_X12_in a2 (3 : Int32)).bind fun v24 =>
      if v24 = 0 then (
        f_X12_request_49 μ a1 a2 a3 a4 (2 : Int32))
      else (
        (m_A μ 59 a1).bind fun v39 =>
        if v39 = (1 : Int32) then (
          f_X12_request_49 μ a1 a2 a3 a4 (3 : Int32))
        else (
          f_X12_request_49 μ a1 a2 a3 a4 (0 : Int32)))))
def f_X12_again_28 (μ : Mu) (x1 : Int32) (y1 : Int32) : Option Mu :=
  (m_P μ 0 y1).bind fun s28 =>
  if (s28.1 0) = 0 then (
    (m_A s28 58 x1).bind fun v44 =>
    (f_X12_stamp s28 v44).bind fun v45 =>
    some v45)
  else (
    some s28)
def f_X12_again (μ : Mu) (a1 : Int32) : Option Mu :=
  (f_X12_in a1 (4 : Int32)).bind fun v3 =>
  if v3 = 0 then (
    f_X12_again_28 μ a1 (1 : Int32))
  else (
    (m_A μ 59 a1).bind fun v18 =>
    if v18 = (1 : Int32) then (
      f_X12_again_28 μ a1 (0 : Int32))
    else (
      f_X12_again_28 μ a1 (2 : Int32)))
def f_X12_deliver_17 (μ : Mu) (x2 : Int32) (y1 : Int32) : Option Mu :=
  (m_P μ 0 y1).bind fun s17 =>
  if (s17.1 0) = 0 then (
    (f_X12_arrive s17 x2).bind fun v29 =>
    some v29)
  else (
    some s17)
def f_X12_deliver (μ : Mu) (a1 : Int32) : Option Mu :=
  (f_X12_find μ a1).bind fun v2 =>
  if v2 = (-1 : Int32) then (
    f_X12_deliver_17 μ v2 (1 : Int32))
  else (
    f_X12_deliver_17 μ v2 (0 : Int32))
def f_X12_lose_17 (μ : Mu) (x2 : Int32) (y1 : Int32) : Option Mu :=
  (m_P μ 0 y1).bind fun s17 =>
  if (s17.1 0) ≤ 0 then (
    (f_X12_taken s17 x2).bind fun v30 =>
    (m_P v30.2 14 ((v30.2.1 14) + (1 : Int32))).bind fun s41 =>
    some s41)
  else (
    some s17)
def f_X12_lose (μ : Mu) (a1 : Int32) : Option Mu :=
  (f_X12_find μ a1).bind fun v2 =>
  if v2 = (-1 : Int32) then (
    f_X12_lose_17 μ v2 (1 : Int32))
  else (
    f_X12_lose_17 μ v2 (0 : Int32))
def b_X12_flow_20 (rec20 : Mu → Int32 → Int32 → Option (Int32 × Mu)) (μ : Mu) (x1 : Int32) (x2 : Int32) : Option (Int32 × Mu) :=
  if (μ.1 0) = 0 then (
    if x1 ≤ x2 then (
      some (x2, μ))
    else (
      if (μ.1 12) ≤ 0 then (
        some (x2, μ))
      else (
        (f_X12_arrive μ (0 : Int32)).bind fun v41 =>
        rec20 v41 x1 (x2 + 1))))
  else (
    some (x2, μ))
def f_X12_flow_20 (n : Nat) : Mu → Int32 → Int32 → Option (Int32 × Mu) := Nat.rec (motive := fun _ => Mu → Int32 → Int32 → Option (Int32 × Mu)) (fun _ _ _ => none) (fun _ rec => b_X12_flow_20 rec) n
def f_X12_flow_15 (μ : Mu) (x1 : Int32) (y1 : Int32) : Option (Int32 × Mu) :=
  (m_P μ 0 y1).bind fun s15 =>
  f_X12_flow_20 lf s15 x1 (0 : Int32)
def f_X12_flow (μ : Mu) (a1 : Int32) : Option (Int32 × Mu) :=
  (f_X12_in a1 (41 : Int32)).bind fun v4 =>
  if v4 = 0 then (
    f_X12_flow_15 μ a1 (1 : Int32))
  else (
    f_X12_flow_15 μ a1 (0 : Int32))
def f_X12_down_73 (μ : Mu) (x1 : Int32) (y1 : Int32) : Option Mu :=
  (m_P μ 0 y1).bind fun s73 =>
  if (s73.1 0) ≤ 0 then (
    (m_Q s73 32 x1 (1 : Int32)).bind fun s90 =>
    (f_X12_forget s90 x1).bind fun v93 =>
    some v93)
  else (
    some s73)
def f_X12_down_68 (μ : Mu) (x1 : Int32) : Option Mu :=
  f_X12_down_73 μ x1 (2 : Int32)
def f_X12_down_35 (μ : Mu) (x1 : Int32) (x2 : Int32) : Option Mu :=
  (f_X12_in x1 (μ.1 1)).bind fun v41 =>
  if v41 = 0 then (
    f_X12_down_73 μ x1 (1 : Int32))
  else (
    (m_A μ 32 x1).bind fun v56 =>
    if v56 = 0 then (
      if x2 = (μ.1 2) then (
        f_X12_down_68 μ x1)
      else (
        f_X12_down_73 μ x1 (0 : Int32)))
    else (
      f_X12_down_68 μ x1))
def f_X12_down_27 (rec4 : Mu → Int32 → Int32 → Int32 → Option Mu) (μ : Mu) (x1 : Int32) (x3 : Int32) (y0 : Int32) (y1 : Int32) : Option Mu :=
  rec4 μ x1 (y0 + y1) (x3 + 1)
def b_X12_down_4 (rec4 : Mu → Int32 → Int32 → Int32 → Option Mu) (μ : Mu) (x1 : Int32) (x2 : Int32) (x3 : Int32) : Option Mu :=
  if (μ.1 1) ≤ x3 then (
    f_X12_down_35 μ x1 x2)
  else (
    (m_A μ 32 x3).bind fun v18 =>
    if v18 = 0 then (
      f_X12_down_27 rec4 μ x1 x3 x2 (0 : Int32))
    else (
      f_X12_down_27 rec4 μ x1 x3 x2 (1 : Int32)))
def f_X12_down_4 (n : Nat) : Mu → Int32 → Int32 → Int32 → Option Mu := Nat.rec (motive := fun _ => Mu → Int32 → Int32 → Int32 → Option Mu) (fun _ _ _ _ => none) (fun _ rec => b_X12_down_4 rec) n
def f_X12_down (μ : Mu) (a1 : Int32) : Option Mu :=
  f_X12_down_4 lf μ a1 (0 : Int32) (0 : Int32)
def f_X12_up_30 (μ : Mu) (x1 : Int32) (y1 : Int32) : Option Mu :=
  (m_P μ 0 y1).bind fun s30 =>
  if (s30.1 0) = 0 then (
    (m_Q s30 32 x1 (0 : Int32)).bind fun s46 =>
    some s46)
  else (
    some s30)
def f_X12_up (μ : Mu) (a1 : Int32) : Option Mu :=
  (f_X12_in a1 (μ.1 1)).bind fun v6 =>
  if v6 = 0 then (
    f_X12_up_30 μ a1 (1 : Int32))
  else (
    (m_A μ 32 a1).bind fun v21 =>
    if v21 = 0 then (
      f_X12_up_30 μ a1 (2 : Int32))
    else (
      f_X12_up_30 μ a1 (0 : Int32)))
def f_X12_may_30 (μ : Mu) (y1 : Int32) : Option (Int32 × Mu) :=
  (m_P μ 0 y1).bind fun s30 =>
  if (s30.1 0) = 0 then (
    some ((1 : Int32), s30))
  else (
    some ((0 : Int32), s30))
def f_X12_may (μ : Mu) (a1 : Int32) : Option (Int32 × Mu) :=
  (f_X12_in a1 (μ.1 1)).bind fun v6 =>
  if v6 = 0 then (
    f_X12_may_30 μ (1 : Int32))
  else (
    (m_A μ 32 a1).bind fun v21 =>
    if v21 = 0 then (
      f_X12_may_30 μ (0 : Int32))
    else (
      f_X12_may_30 μ (2 : Int32)))
def f_X12_suspect (μ : Mu) (a1 : Int32) : Option Mu :=
  (f_X12_may μ a1).bind fun v2 =>
  if v2.1 = 0 then (
    some v2.2)
  else (
    (m_A v2.2 33 a1).bind fun v15 =>
    (m_A v2.2 34 a1).bind fun v23 =>
    (f_X12_turn v2.2 a1 (v15 + (1 : Int32)) v23).bind fun v24 =>
    some v24)
def f_X12_nudge (μ : Mu) (a1 : Int32) : Option (Int32 × Mu) :=
  (f_X12_may μ a1).bind fun v2 =>
  if v2.1 = 0 then (
    some ((0 : Int32), v2.2))
  else (
    (m_A v2.2 35 a1).bind fun v20 =>
    if v20 = (1 : Int32) then (
      (m_A v2.2 38 a1).bind fun v33 =>
      (f_X12_all v2.2 (3 : Int32) a1 v33).bind fun v34 =>
      some (((v34.1 13) - (v2.2.1 13)), v34))
    else (
      (m_A v2.2 35 a1).bind fun v45 =>
      if v45 = (2 : Int32) then (
        (f_X12_all v2.2 (8 : Int32) a1 (0 : Int32)).bind fun v55 =>
        (f_X12_leads v55 a1).bind fun v60 =>
        if v60 = 0 then (
          (f_X12_tellTurned v55 a1).bind fun v68 =>
          some (((v68.1 13) - (v2.2.1 13)), v68))
        else (
          some (((v55.1 13) - (v2.2.1 13)), v55)))
      else (
        (f_X12_leads v2.2 a1).bind fun v76 =>
        if v76 = 0 then (
          (m_A v2.2 43 a1).bind fun v87 =>
          if v87 ≤ 0 then (
            some (((v2.2.1 13) - (v2.2.1 13)), v2.2))
          else (
            (f_X12_leader v2.2 a1).bind fun v96 =>
            (m_A v2.2 33 a1).bind fun v104 =>
            (m_A v2.2 34 a1).bind fun v110 =>
            (m_A v2.2 38 a1).bind fun v116 =>
            (f_X12_send v2.2 (1 : Int32) a1 v96 v104 v110 (v116 + (1 : Int32)) (0 : Int32)).bind fun v120 =>
            some (((v120.2.1 13) - (v2.2.1 13)), v120.2)))
        else (
          some (((v2.2.1 13) - (v2.2.1 13)), v2.2)))))
def f_X12_sync__112 (rec62 : Mu → Int32 → Int32 → Option Mu) (μ : Mu) (x2 : Int32) (x3 : Int32) : Option Mu :=
  rec62 μ x2 (x3 + 1)
def b_X12_sync__62 (rec62 : Mu → Int32 → Int32 → Option Mu) (μ : Mu) (x2 : Int32) (x3 : Int32) : Option Mu :=
  if (μ.1 1) ≤ x3 then (
    some μ)
  else (
    if x3 = x2 then (
      f_X12_sync__112 rec62 μ x2 x3)
    else (
      (m_A μ 33 x2).bind fun v85 =>
      (m_A μ 34 x2).bind fun v91 =>
      (m_A μ 38 x2).bind fun v97 =>
      (f_X12_send μ (5 : Int32) x2 x3 v85 v91 v97 (0 : Int32)).bind fun v99 =>
      (m_A v99.2 38 x2).bind fun v108 =>
      (f_X12_load v99.2 v99.1 x2 v108).bind fun v109 =>
      f_X12_sync__112 rec62 v109 x2 x3))
def f_X12_sync__62 (n : Nat) : Mu → Int32 → Int32 → Option Mu := Nat.rec (motive := fun _ => Mu → Int32 → Int32 → Option Mu) (fun _ _ _ => none) (fun _ rec => b_X12_sync__62 rec) n
def f_X12_sync__49 (μ : Mu) (x2 : Int32) (y1 : Int32) : Option Mu :=
  (m_P μ 0 y1).bind fun s49 =>
  if (s49.1 0) ≤ 0 then (
    f_X12_sync__62 lf s49 x2 (0 : Int32))
  else (
    some s49)
def f_X12_sync__44 (μ : Mu) (x2 : Int32) : Option Mu :=
  f_X12_sync__49 μ x2 (2 : Int32)
def f_X12_sync_ (μ : Mu) (a1 : Int32) : Option Mu :=
  (f_X12_in a1 (μ.1 1)).bind fun v8 =>
  if v8 = 0 then (
    f_X12_sync__49 μ a1 (1 : Int32))
  else (
    (m_A μ 32 a1).bind fun v23 =>
    if v23 = 0 then (
      (f_X12_leads μ a1).bind fun v29 =>
      if v29 = 0 then (
        f_X12_sync__44 μ a1)
      else (
        (m_A μ 35 a1).bind fun v40 =>
        if v40 = 0 then (
          f_X12_sync__49 μ a1 (0 : Int32))
        else (
          f_X12_sync__44 μ a1)))
    else (
      f_X12_sync__44 μ a1))
def f_X12_fail (μ : Mu)  : Option (Int32 × Mu) :=
  (m_P μ 0 (0 : Int32)).bind fun s2 =>
  (m_P s2 9 (0 : Int32)).bind fun s12 =>
  (h_gZ (s2.1 9)).bind fun _ =>
  some ((s2.1 9), s12)
def f_X12_install (μ : Mu)  : Option (Int32 × Mu) :=
  (m_P μ 0 (0 : Int32)).bind fun s2 =>
  (m_P s2 9 (1 : Int32)).bind fun s7 =>
  (m_P s7 10 ((s7.1 10) + (1 : Int32))).bind fun s17 =>
  (m_P s17 11 (0 : Int32)).bind fun s22 =>
  some ((s22.1 10), s22)
def f_X12_replica (μ : Mu) (a1 : Int32) (a2 : Int32) : Option (Int32 × Mu) :=
  (m_P μ 0 (0 : Int32)).bind fun s2 =>
  (f_X12_in a1 (s2.1 1)).bind fun v10 =>
  if v10 = 0 then (
    some ((-1 : Int32), s2))
  else (
    if a2 = (0 : Int32) then (
      (m_A s2 32 a1).bind fun v81 =>
      if v81 = 0 then (
        some ((0 : Int32), s2))
      else (
        some ((1 : Int32), s2)))
    else
    if a2 = (1 : Int32) then (
      (m_A s2 35 a1).bind fun v96 =>
      some (v96, s2))
    else
    if a2 = (2 : Int32) then (
      (m_A s2 33 a1).bind fun v103 =>
      some (v103, s2))
    else
    if a2 = (3 : Int32) then (
      (m_A s2 34 a1).bind fun v110 =>
      some (v110, s2))
    else
    if a2 = (4 : Int32) then (
      (m_A s2 39 a1).bind fun v117 =>
      some (v117, s2))
    else
    if a2 = (5 : Int32) then (
      (m_A s2 38 a1).bind fun v124 =>
      some (v124, s2))
    else
    if a2 = (6 : Int32) then (
      (m_A s2 40 a1).bind fun v131 =>
      some (v131, s2))
    else
    if a2 = (7 : Int32) then (
      (m_A s2 43 a1).bind fun v138 =>
      some (v138, s2))
    else
    if a2 = (8 : Int32) then (
      (m_A s2 36 a1).bind fun v145 =>
      some (v145, s2))
    else
    if a2 = (9 : Int32) then (
      (m_A s2 37 a1).bind fun v152 =>
      some (v152, s2))
    else
    if a2 = (10 : Int32) then (
      (m_A s2 41 a1).bind fun v159 =>
      some (v159, s2))
    else
    some ((-1 : Int32), s2))
def f_X12_entry_15 (μ : Mu) (x1 : Int32) (x2 : Int32) (x3 : Int32) (y0 : Int32) : Option (Int32 × Mu) :=
  (f_X12_in x1 (μ.1 1)).bind fun v22 =>
  if v22 = 0 then (
    some (y0, μ))
  else (
    if x2 < (1 : Int32) then (
      some (y0, μ))
    else (
      (m_A μ 38 x1).bind fun v39 =>
      if x2 ≤ v39 then (
        (m_A μ 42 ((((100 : Int32) * x1) + x2) - (1 : Int32))).bind fun v58 =>
        if x3 = 0 then (
          if v58 = 0 then (
            some ((0 : Int32), μ))
          else (
            some ((1 : Int32), μ)))
        else (
          if v58 = 0 then (
            some (y0, μ))
          else (
            if x3 = (1 : Int32) then (
              (m_A μ 4 v58).bind fun v126 =>
              some (v126, μ))
            else
            if x3 = (2 : Int32) then (
              (m_A μ 5 v58).bind fun v134 =>
              some (v134, μ))
            else
            if x3 = (3 : Int32) then (
              (m_A μ 6 v58).bind fun v142 =>
              some (v142, μ))
            else
            if x3 = (4 : Int32) then (
              (m_A μ 7 v58).bind fun v150 =>
              some (v150, μ))
            else
            if x3 = (5 : Int32) then (
              (m_A μ 8 v58).bind fun v158 =>
              some (v158, μ))
            else
            some ((-1 : Int32), μ))))
      else (
        some (y0, μ))))
def f_X12_entry (μ : Mu) (a1 : Int32) (a2 : Int32) (a3 : Int32) : Option (Int32 × Mu) :=
  (m_P μ 0 (0 : Int32)).bind fun s2 =>
  if a3 = (5 : Int32) then (
    f_X12_entry_15 s2 a1 a2 a3 (0 : Int32))
  else (
    f_X12_entry_15 s2 a1 a2 a3 (-1 : Int32))
def f_X12_word (μ : Mu) (a1 : Int32) (a2 : Int32) : Option (Int32 × Mu) :=
  (m_P μ 0 (0 : Int32)).bind fun s2 =>
  (f_X12_in a1 (s2.1 1)).bind fun v10 =>
  if v10 = 0 then (
    some ((0 : Int32), s2))
  else (
    (f_X12_in a2 (8 : Int32)).bind fun v19 =>
    if v19 = 0 then (
      some ((0 : Int32), s2))
    else (
      (f_X12_executed s2 a1).bind fun v31 =>
      (f_X12_execute s2 a1 v31).bind fun v34 =>
      (m_A v34 76 a2).bind fun v42 =>
      some (v42, v34)))
def f_X12_client (μ : Mu) (a1 : Int32) (a2 : Int32) : Option (Int32 × Mu) :=
  (m_P μ 0 (0 : Int32)).bind fun s2 =>
  (f_X12_in a1 (4 : Int32)).bind fun v7 =>
  if v7 = 0 then (
    some ((-1 : Int32), s2))
  else (
    if (2 : Int32) ≤ a2 then (
      (m_A s2 59 a1).bind fun v54 =>
      if v54 = (2 : Int32) then (
        if a2 = (2 : Int32) then (
          (m_A s2 60 a1).bind fun v71 =>
          some (v71, s2))
        else (
          if a2 = (3 : Int32) then (
            (m_A s2 61 a1).bind fun v85 =>
            some (v85, s2))
          else (
            if a2 = (4 : Int32) then (
              (m_A s2 62 a1).bind fun v99 =>
              some (v99, s2))
            else (
              some ((-1 : Int32), s2)))))
      else (
        some ((-1 : Int32), s2)))
    else (
      if a2 = 0 then (
        (m_A s2 57 a1).bind fun v29 =>
        some (v29, s2))
      else (
        if a2 = (1 : Int32) then (
          (m_A s2 59 a1).bind fun v43 =>
          some (v43, s2))
        else (
          some ((-1 : Int32), s2)))))
def f_X12_answer_ (μ : Mu) (a1 : Int32) : Option (Int32 × Mu) :=
  (m_P μ 0 (0 : Int32)).bind fun s2 =>
  (f_X12_in a1 (4 : Int32)).bind fun v7 =>
  if v7 = 0 then (
    some ((0 : Int32), s2))
  else (
    (m_A s2 63 a1).bind fun v18 =>
    some (v18, s2))
def f_X12_about (μ : Mu) (a1 : Int32) : Option (Int32 × Mu) :=
  (m_P μ 0 (0 : Int32)).bind fun s2 =>
  if a1 = (0 : Int32) then (
    some ((s2.1 12), s2))
  else
  if a1 = (1 : Int32) then (
    some ((s2.1 13), s2))
  else
  if a1 = (2 : Int32) then (
    some ((s2.1 14), s2))
  else
  if a1 = (3 : Int32) then (
    if (s2.1 9) = 0 then (
      some ((0 : Int32), s2))
    else (
      some ((1 : Int32), s2)))
  else
  if a1 = (4 : Int32) then (
    some ((s2.1 10), s2))
  else
  if a1 = (5 : Int32) then (
    some ((s2.1 11), s2))
  else
  if a1 = (6 : Int32) then (
    some ((s2.1 70), s2))
  else
  some ((-1 : Int32), s2)
def f_X12_message (μ : Mu) (a1 : Int32) (a2 : Int32) : Option (Int32 × Mu) :=
  (m_P μ 0 (0 : Int32)).bind fun s2 =>
  (f_X12_in a1 (s2.1 12)).bind fun v10 =>
  if v10 = 0 then (
    some ((-1 : Int32), s2))
  else (
    (m_A s2 15 a1).bind fun v23 =>
    if a2 = 0 then (
      (m_A s2 17 v23).bind fun v34 =>
      some (v34, s2))
    else (
      if a2 = (1 : Int32) then (
        (m_A s2 18 v23).bind fun v48 =>
        some (v48, s2))
      else (
        if a2 = (2 : Int32) then (
          (m_A s2 19 v23).bind fun v62 =>
          some (v62, s2))
        else (
          if a2 = (3 : Int32) then (
            (m_A s2 20 v23).bind fun v76 =>
            some (v76, s2))
          else (
            some ((-1 : Int32), s2))))))
def f_X12_has_89 (μ : Mu) (x2 : Int32) (x3 : Int32) : Option (Int32 × Mu) :=
  (m_A μ 4 x3).bind fun v98 =>
  (m_A μ 78 v98).bind fun v99 =>
  (m_A μ 75 x2).bind fun v105 =>
  if v99 = v105 then (
    some ((1 : Int32), μ))
  else (
    some ((0 : Int32), μ))
def b_X12_has_49 (rec49 : Mu → Int32 → Int32 → Int32 → Int32 → Option (Int32 × Mu)) (μ : Mu) (x1 : Int32) (x2 : Int32) (x3 : Int32) (x5 : Int32) : Option (Int32 × Mu) :=
  (m_A μ 38 x1).bind fun v56 =>
  if v56 ≤ x5 then (
    some ((1 : Int32), μ))
  else (
    (f_X12_execute μ x1 (x5 + (1 : Int32))).bind fun v66 =>
    (m_A v66 4 x3).bind fun v78 =>
    (m_A v66 77 v78).bind fun v79 =>
    (m_A v66 5 x3).bind fun v85 =>
    if v79 = v85 then (
      f_X12_has_89 v66 x2 x3)
    else (
      rec49 v66 x1 x2 x3 (x5 + 1)))
def f_X12_has_49 (n : Nat) : Mu → Int32 → Int32 → Int32 → Int32 → Option (Int32 × Mu) := Nat.rec (motive := fun _ => Mu → Int32 → Int32 → Int32 → Int32 → Option (Int32 × Mu)) (fun _ _ _ _ _ => none) (fun _ rec => b_X12_has_49 rec) n
def f_X12_has (μ : Mu) (a1 : Int32) (a2 : Int32) : Option (Int32 × Mu) :=
  (m_A μ 71 a2).bind fun v5 =>
  (m_A μ 74 a2).bind fun v12 =>
  (m_A μ 38 a1).bind fun v22 =>
  if v22 < v12 then (
    some ((0 : Int32), μ))
  else (
    (m_A μ 42 ((((100 : Int32) * a1) + v12) - (1 : Int32))).bind fun v39 =>
    if v39 = v5 then (
      f_X12_has_49 lf μ a1 a2 v5 (0 : Int32))
    else (
      some ((0 : Int32), μ)))
def f_X12_broken_170 (rec9 : Mu → Int32 → Int32 → Option (Int32 × Mu)) (μ : Mu) (x2 : Int32) (y0 : Int32) (y1 : Int32) : Option (Int32 × Mu) :=
  rec9 μ (y0 + y1) (x2 + 1)
def f_X12_broken_160 (rec9 : Mu → Int32 → Int32 → Option (Int32 × Mu)) (μ : Mu) (x1 : Int32) (x2 : Int32) (x3 : Int32) : Option (Int32 × Mu) :=
  if x3 = 0 then (
    f_X12_broken_170 rec9 μ x2 x1 (1 : Int32))
  else (
    f_X12_broken_170 rec9 μ x2 x1 (0 : Int32))
def f_X12_broken_154 (rec9 : Mu → Int32 → Int32 → Option (Int32 × Mu)) (rec29 : Mu → Int32 → Int32 → Int32 → Int32 → Option (Int32 × Mu)) (μ : Mu) (x1 : Int32) (x2 : Int32) (x3 : Int32) (x4 : Int32) : Option (Int32 × Mu) :=
  rec29 μ x1 x2 x3 (x4 + 1)
def f_X12_broken_153 (rec9 : Mu → Int32 → Int32 → Option (Int32 × Mu)) (rec29 : Mu → Int32 → Int32 → Int32 → Int32 → Option (Int32 × Mu)) (μ : Mu) (x1 : Int32) (x2 : Int32) (x4 : Int32) (y0 : Int32) : Option (Int32 × Mu) :=
  f_X12_broken_154 rec9 rec29 μ x1 x2 y0 x4
def f_X12_broken_152 (rec9 : Mu → Int32 → Int32 → Option (Int32 × Mu)) (rec29 : Mu → Int32 → Int32 → Int32 → Int32 → Option (Int32 × Mu)) (μ : Mu) (x1 : Int32) (x2 : Int32) (x4 : Int32) : Option (Int32 × Mu) :=
  f_X12_broken_153 rec9 rec29 μ x1 x2 x4 (0 : Int32)
def f_X12_broken_134 (rec9 : Mu → Int32 → Int32 → Option (Int32 × Mu)) (rec29 : Mu → Int32 → Int32 → Int32 → Int32 → Option (Int32 × Mu)) (μ : Mu) (x1 : Int32) (x2 : Int32) (x3 : Int32) (x4 : Int32) : Option (Int32 × Mu) :=
  if x3 = 0 then (
    f_X12_broken_152 rec9 rec29 μ x1 x2 x4)
  else (
    (f_X12_has μ x4 x2).bind fun v142 =>
    if v142.1 = 0 then (
      f_X12_broken_152 rec9 rec29 v142.2 x1 x2 x4)
    else (
      f_X12_broken_153 rec9 rec29 v142.2 x1 x2 x4 (1 : Int32)))
def f_X12_broken_75 (rec9 : Mu → Int32 → Int32 → Option (Int32 × Mu)) (rec29 : Mu → Int32 → Int32 → Int32 → Int32 → Option (Int32 × Mu)) (μ : Mu) (x1 : Int32) (x2 : Int32) (x3 : Int32) (x4 : Int32) (y0 : Int32) : Option (Int32 × Mu) :=
  (f_X12_leads μ x4).bind fun v80 =>
  if v80 = 0 then (
    f_X12_broken_154 rec9 rec29 μ x1 x2 x3 x4)
  else (
    (m_A μ 35 x4).bind fun v92 =>
    if v92 = (2 : Int32) then (
      f_X12_broken_154 rec9 rec29 μ x1 x2 x3 x4)
    else (
      if y0 = 0 then (
        (m_A μ 72 x2).bind fun v107 =>
        (m_A μ 73 x2).bind fun v113 =>
        (m_A μ 33 x4).bind fun v120 =>
        (m_A μ 34 x4).bind fun v127 =>
        (f_X12_isBehind v107 v113 v120 v127).bind fun v128 =>
        if v128 = 0 then (
          f_X12_broken_154 rec9 rec29 μ x1 x2 x3 x4)
        else (
          f_X12_broken_134 rec9 rec29 μ x1 x2 x3 x4))
      else (
        f_X12_broken_134 rec9 rec29 μ x1 x2 x3 x4)))
def f_X12_broken_74 (rec9 : Mu → Int32 → Int32 → Option (Int32 × Mu)) (rec29 : Mu → Int32 → Int32 → Int32 → Int32 → Option (Int32 × Mu)) (μ : Mu) (x1 : Int32) (x2 : Int32) (x3 : Int32) (x4 : Int32) : Option (Int32 × Mu) :=
  f_X12_broken_75 rec9 rec29 μ x1 x2 x3 x4 (0 : Int32)
def b_X12_broken_29 (rec9 : Mu → Int32 → Int32 → Option (Int32 × Mu)) (rec29 : Mu → Int32 → Int32 → Int32 → Int32 → Option (Int32 × Mu)) (μ : Mu) (x1 : Int32) (x2 : Int32) (x3 : Int32) (x4 : Int32) : Option (Int32 × Mu) :=
  if (μ.1 1) ≤ x4 then (
    f_X12_broken_160 rec9 μ x1 x2 x3)
  else (
    (m_A μ 72 x2).bind fun v43 =>
    (m_A μ 33 x4).bind fun v50 =>
    if v43 = v50 then (
      (m_A μ 73 x2).bind fun v59 =>
      (m_A μ 34 x4).bind fun v66 =>
      if v59 = v66 then (
        f_X12_broken_75 rec9 rec29 μ x1 x2 x3 x4 (1 : Int32))
      else (
        f_X12_broken_74 rec9 rec29 μ x1 x2 x3 x4))
    else (
      f_X12_broken_74 rec9 rec29 μ x1 x2 x3 x4))
def f_X12_broken_29 (rec9 : Mu → Int32 → Int32 → Option (Int32 × Mu)) (n : Nat) : Mu → Int32 → Int32 → Int32 → Int32 → Option (Int32 × Mu) := Nat.rec (motive := fun _ => Mu → Int32 → Int32 → Int32 → Int32 → Option (Int32 × Mu)) (fun _ _ _ _ _ => none) (fun _ rec => b_X12_broken_29 rec9 rec) n
def b_X12_broken_9 (rec9 : Mu → Int32 → Int32 → Option (Int32 × Mu)) (μ : Mu) (x1 : Int32) (x2 : Int32) : Option (Int32 × Mu) :=
  if (200 : Int32) ≤ x2 then (
    some (x1, μ))
  else (
    if (μ.1 70) ≤ x2 then (
      some (x1, μ))
    else (
      f_X12_broken_29 rec9 lf μ x1 x2 (1 : Int32) (0 : Int32)))
def f_X12_broken_9 (n : Nat) : Mu → Int32 → Int32 → Option (Int32 × Mu) := Nat.rec (motive := fun _ => Mu → Int32 → Int32 → Option (Int32 × Mu)) (fun _ _ _ => none) (fun _ rec => b_X12_broken_9 rec) n
def f_X12_broken (μ : Mu)  : Option (Int32 × Mu) :=
  (m_P μ 0 (0 : Int32)).bind fun s2 =>
  f_X12_broken_9 lf s2 (0 : Int32) (0 : Int32)
