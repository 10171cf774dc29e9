def f_X4_init (σ : Hp) (a0 : Nat) : Option Hp :=
  (some (nw σ 13 100)).bind fun s7 =>
  (h_pR s7 4 a0 0 (oN σ)).bind fun s9 =>
  some s9
def f_X5_init (σ : Hp) (a0 : Nat) : Option Hp :=
  (some (nw σ 4 0)).bind fun s5 =>
  (f_X4_init s5 (oN σ)).bind fun v9 =>
  (h_pR v9 5 a0 11 (oN σ)).bind fun s12 =>
  some s12
def b_X1_init_38 (rec38 : Hp → Nat → Int32 → Option Hp) (σ : Hp) (x0 : Nat) (x1 : Int32) : Option Hp :=
  if (200 : Int32) ≤ x1 then (
    some σ)
  else (
    (h_gR σ 1 x0 0).bind fun v46 =>
    (some (nw σ 5 0)).bind fun s50 =>
    (f_X5_init s50 (oN σ)).bind fun v54 =>
    (h_qR v54 17 5 v46 x1 (oN σ)).bind fun s57 =>
    rec38 s57 x0 (x1 + 1))
def f_X1_init_38 (n : Nat) : Hp → Nat → Int32 → Option Hp := Nat.rec (motive := fun _ => Hp → Nat → Int32 → Option Hp) (fun _ _ _ => none) (fun _ rec => b_X1_init_38 rec) n
def f_X1_init (σ : Hp) (a0 : Nat) : Option Hp :=
  (some (nw σ 17 200)).bind fun s8 =>
  (h_pR s8 1 a0 0 (oN σ)).bind fun s11 =>
  (some (nw s11 5 0)).bind fun s15 =>
  (f_X5_init s15 (oN s11)).bind fun v19 =>
  (h_pR v19 1 a0 4 (oN s11)).bind fun s22 =>
  (some (nw s22 5 0)).bind fun s26 =>
  (f_X5_init s26 (oN s22)).bind fun v30 =>
  (h_pR v30 1 a0 5 (oN s22)).bind fun s33 =>
  f_X1_init_38 201 s33 a0 (0 : Int32)
def b_X8_init_29 (rec29 : Hp → Nat → Int32 → Int32 → Option Hp) (σ : Hp) (x0 : Nat) (x1 : Int32) (x2 : Int32) : Option Hp :=
  if x1 ≤ x2 then (
    some σ)
  else (
    (h_gR σ 8 x0 6).bind fun v35 =>
    (some (nw σ 4 0)).bind fun s39 =>
    (f_X4_init s39 (oN σ)).bind fun v43 =>
    (h_qR v43 16 4 v35 x2 (oN σ)).bind fun s46 =>
    rec29 s46 x0 x1 (x2 + 1))
def f_X8_init_29 (n : Nat) : Hp → Nat → Int32 → Int32 → Option Hp := Nat.rec (motive := fun _ => Hp → Nat → Int32 → Int32 → Option Hp) (fun _ _ _ _ => none) (fun _ rec => b_X8_init_29 rec) n
def f_X8_init (σ : Hp) (a0 : Nat) (a1 : Int32) : Option Hp :=
  (h_len a1 7).bind fun _ =>
  (some (nw σ 19 a1.toNatClampNeg)).bind fun s6 =>
  (h_pR s6 8 a0 4 (oN σ)).bind fun s9 =>
  (h_len a1 7).bind fun _ =>
  (some (nw s9 13 a1.toNatClampNeg)).bind fun s14 =>
  (h_pR s14 8 a0 5 (oN s9)).bind fun s16 =>
  (h_len a1 7).bind fun _ =>
  (some (nw s16 16 a1.toNatClampNeg)).bind fun s21 =>
  (h_pR s21 8 a0 6 (oN s16)).bind fun s24 =>
  f_X8_init_29 8 s24 a0 a1 (0 : Int32)
def f_X3_init (σ : Hp) (a0 : Nat) : Option Hp :=
  (some (nw σ 13 9)).bind fun s7 =>
  (h_pR s7 3 a0 0 (oN σ)).bind fun s9 =>
  (some (nw s9 13 9)).bind fun s15 =>
  (h_pR s15 3 a0 1 (oN s9)).bind fun s17 =>
  some s17
def f_X6_init (σ : Hp) (a0 : Nat) (a1 : Int32) (a2 : Int32) (a3 : Nat) (a4 : Nat) (a5 : Nat) : Option Hp :=
  (some (nw σ 4 0)).bind fun s5 =>
  (f_X4_init s5 (oN σ)).bind fun v9 =>
  (h_pR v9 6 a0 0 (oN σ)).bind fun s12 =>
  (some (nw s12 3 0)).bind fun s16 =>
  (f_X3_init s16 (oN s12)).bind fun v20 =>
  (h_pR v20 6 a0 1 (oN s12)).bind fun s23 =>
  (h_pI s23 6 a0 3 (0 : Int32)).bind fun s28 =>
  (some (nw s28 9 0)).bind fun s32 =>
  (f_X9_init s32 (oN s28) (0 : Int32) (1 : Int32)).bind fun v38 =>
  (h_pR v38 6 a0 4 (oN s28)).bind fun s41 =>
  (h_gR s41 6 a0 4).bind fun v46 =>
  (h_pR s41 6 a0 5 v46).bind fun s49 =>
  (h_pI s49 6 a0 9 a1).bind fun s54 =>
  (h_pI s54 6 a0 10 a2).bind fun s59 =>
  (h_pR s59 6 a0 11 a3).bind fun s64 =>
  (h_pR s64 6 a0 12 a4).bind fun s70 =>
  (h_pR s70 6 a0 13 a5).bind fun s76 =>
  (some (nw s76 8 0)).bind fun s80 =>
  (f_X8_init s80 (oN s76) a2).bind fun v85 =>
  (h_pR v85 6 a0 14 (oN s76)).bind fun s88 =>
  some s88
def f_X2_init (σ : Hp) (a0 : Nat) (a1 : Int32) : Option Hp :=
  (h_pI σ 2 a0 1 (0 : Int32)).bind fun s6 =>
  (h_pI s6 2 a0 2 (0 : Int32)).bind fun s11 =>
  (some (nw s11 19 64)).bind fun s17 =>
  (h_pR s17 2 a0 7 (oN s11)).bind fun s20 =>
  (some (nw s20 13 64)).bind fun s26 =>
  (h_pR s26 2 a0 8 (oN s20)).bind fun s28 =>
  (some (nw s28 13 64)).bind fun s34 =>
  (h_pR s34 2 a0 9 (oN s28)).bind fun s36 =>
  (some (nw s36 13 64)).bind fun s42 =>
  (h_pR s42 2 a0 10 (oN s36)).bind fun s44 =>
  (h_pI s44 2 a0 6 a1).bind fun s49 =>
  some s49
def f_X0_init (σ : Hp) (a0 : Nat) : Option Hp :=
  (some (nw σ 13 200)).bind fun s8 =>
  (h_pR s8 0 a0 1 (oN σ)).bind fun s10 =>
  (some (nw s10 19 200)).bind fun s17 =>
  (h_pR s17 0 a0 2 (oN s10)).bind fun s20 =>
  (some (nw s20 13 200)).bind fun s27 =>
  (h_pR s27 0 a0 3 (oN s20)).bind fun s29 =>
  (some (nw s29 13 200)).bind fun s36 =>
  (h_pR s36 0 a0 4 (oN s29)).bind fun s38 =>
  (some (nw s38 13 200)).bind fun s45 =>
  (h_pR s45 0 a0 5 (oN s38)).bind fun s47 =>
  some s47
def f_X7_init (σ : Hp) (a0 : Nat) : Option Hp :=
  (some (nw σ 13 513)).bind fun s8 =>
  (h_pR s8 7 a0 0 (oN σ)).bind fun s10 =>
  (some (nw s10 13 513)).bind fun s17 =>
  (h_pR s17 7 a0 1 (oN s10)).bind fun s19 =>
  (some (nw s19 13 513)).bind fun s26 =>
  (h_pR s26 7 a0 2 (oN s19)).bind fun s28 =>
  (some (nw s28 13 513)).bind fun s35 =>
  (h_pR s35 7 a0 3 (oN s28)).bind fun s37 =>
  (some (nw s37 13 513)).bind fun s44 =>
  (h_pR s44 7 a0 4 (oN s37)).bind fun s46 =>
  (h_pI s46 7 a0 5 (0 : Int32)).bind fun s51 =>
  some s51
def f_X10_init (σ : Hp) (a0 : Nat) (a1 : Nat) : Option Hp :=
  (some (nw σ 13 8)).bind fun s7 =>
  (h_pR s7 10 a0 0 (oN σ)).bind fun s9 =>
  (some (nw s9 13 4)).bind fun s14 =>
  (h_pR s14 10 a0 2 (oN s9)).bind fun s16 =>
  (some (nw s16 13 513)).bind fun s23 =>
  (h_pR s23 10 a0 3 (oN s16)).bind fun s25 =>
  (some (nw s25 13 513)).bind fun s32 =>
  (h_pR s32 10 a0 4 (oN s25)).bind fun s34 =>
  (h_pR s34 10 a0 1 a1).bind fun s39 =>
  some s39
def f_X11_init_160 (σ : Hp) (x0 : Nat) : Option Hp :=
  (h_pI σ 11 x0 7 (1 : Int32)).bind fun s162 =>
  (h_pI s162 11 x0 8 (1 : Int32)).bind fun s167 =>
  some s167
def b_X11_init_132 (rec132 : Hp → Nat → Int32 → Option Hp) (σ : Hp) (x0 : Nat) (x2 : Int32) : Option Hp :=
  if (4 : Int32) ≤ x2 then (
    f_X11_init_160 σ x0)
  else (
    (h_gR σ 11 x0 5).bind fun v138 =>
    (some (nw σ 2 0)).bind fun s142 =>
    (h_gI s142 11 x0 0).bind fun v147 =>
    (f_X2_init s142 (oN σ) v147).bind fun v150 =>
    (h_qR v150 15 2 v138 x2 (oN σ)).bind fun s153 =>
    rec132 s153 x0 (x2 + 1))
def f_X11_init_132 (n : Nat) : Hp → Nat → Int32 → Option Hp := Nat.rec (motive := fun _ => Hp → Nat → Int32 → Option Hp) (fun _ _ _ => none) (fun _ rec => b_X11_init_132 rec) n
def f_X11_init_122 (σ : Hp) (x0 : Nat) : Option Hp :=
  (some (nw σ 15 4)).bind fun s124 =>
  (h_pR s124 11 x0 5 (oN σ)).bind fun s127 =>
  f_X11_init_132 5 s127 x0 (0 : Int32)
def b_X11_init_78 (rec78 : Hp → Nat → Int32 → Option Hp) (σ : Hp) (x0 : Nat) (x2 : Int32) : Option Hp :=
  (h_gI σ 11 x0 0).bind fun v80 =>
  if v80 ≤ x2 then (
    f_X11_init_122 σ x0)
  else (
    (h_gR σ 11 x0 4).bind fun v87 =>
    (some (nw σ 6 0)).bind fun s91 =>
    (h_gI s91 11 x0 0).bind fun v97 =>
    (h_gR s91 11 x0 1).bind fun v101 =>
    (h_gR s91 11 x0 2).bind fun v105 =>
    (h_gR s91 11 x0 3).bind fun v109 =>
    (f_X6_init s91 (oN σ) x2 v97 v101 v105 v109).bind fun v112 =>
    (h_qR v112 18 6 v87 x2 (oN σ)).bind fun s115 =>
    rec78 s115 x0 (x2 + 1))
def f_X11_init_78 (n : Nat) : Hp → Nat → Int32 → Option Hp := Nat.rec (motive := fun _ => Hp → Nat → Int32 → Option Hp) (fun _ _ _ => none) (fun _ rec => b_X11_init_78 rec) n
def f_X11_init (σ : Hp) (a0 : Nat) (a1 : Int32) : Option Hp :=
  (f_J9_floorMod_7cf53 a1 (3 : Int32)).bind fun v9 =>
  (h_pI σ 11 a0 0 ((3 : Int32) + ((2 : Int32) * v9))).bind fun s14 =>
  (some (nw s14 7 0)).bind fun s18 =>
  (f_X7_init s18 (oN s14)).bind fun v22 =>
  (h_pR v22 11 a0 1 (oN s14)).bind fun s25 =>
  (some (nw s25 10 0)).bind fun s29 =>
  (h_gR s29 11 a0 1).bind fun v34 =>
  (f_X10_init s29 (oN s25) v34).bind fun v37 =>
  (h_pR v37 11 a0 2 (oN s25)).bind fun s40 =>
  (some (nw s40 1 0)).bind fun s44 =>
  (f_X1_init s44 (oN s40)).bind fun v48 =>
  (h_pR v48 11 a0 3 (oN s40)).bind fun s51 =>
  (some (nw s51 0 0)).bind fun s55 =>
  (f_X0_init s55 (oN s51)).bind fun v59 =>
  (h_pR v59 11 a0 6 (oN s51)).bind fun s62 =>
  (h_gI s62 11 a0 0).bind fun v67 =>
  (h_len v67 7).bind fun _ =>
  (some (nw s62 18 v67.toNatClampNeg)).bind fun s70 =>
  (h_pR s70 11 a0 4 (oN s62)).bind fun s73 =>
  f_X11_init_78 8 s73 a0 (0 : Int32)
def b_X12_init_653 (rec653 : Hp → Nat → Int32 → Option Hp) (σ : Hp) (x0 : Nat) (x3 : Int32) : Option Hp :=
  if (200 : Int32) ≤ x3 then (
    some σ)
  else (
    (h_gR σ 12 x0 16).bind fun v661 =>
    (h_qI σ v661 x3 x3).bind fun s666 =>
    rec653 s666 x0 (x3 + 1))
def f_X12_init_653 (n : Nat) : Hp → Nat → Int32 → Option Hp := Nat.rec (motive := fun _ => Hp → Nat → Int32 → Option Hp) (fun _ _ _ => none) (fun _ rec => b_X12_init_653 rec) n
def f_X12_init_651 (σ : Hp) (x0 : Nat) : Option Hp :=
  f_X12_init_653 lf σ x0 (0 : Int32)
def b_X12_init_625 (rec625 : Hp → Nat → Int32 → Option Hp) (σ : Hp) (x0 : Nat) (x3 : Int32) : Option Hp :=
  if (7 : Int32) ≤ x3 then (
    f_X12_init_651 σ x0)
  else (
    (h_gR σ 12 x0 34).bind fun v632 =>
    (h_qI σ v632 x3 (1 : Int32)).bind fun s637 =>
    (h_gR s637 12 x0 37).bind fun v639 =>
    (h_qI s637 v639 x3 (1 : Int32)).bind fun s644 =>
    rec625 s644 x0 (x3 + 1))
def f_X12_init_625 (n : Nat) : Hp → Nat → Int32 → Option Hp := Nat.rec (motive := fun _ => Hp → Nat → Int32 → Option Hp) (fun _ _ _ => none) (fun _ rec => b_X12_init_625 rec) n
def f_X12_init_610 (σ : Hp) (x0 : Nat) (y0 : Nat) (y1 : Int32) : Option Hp :=
  (h_pI σ 12 y0 1 y1).bind fun s610 =>
  (h_gI s610 12 x0 1).bind fun v615 =>
  (h_pI s610 12 x0 2 (v615 / (2 : Int32))).bind fun s620 =>
  f_X12_init_625 lf s620 x0 (0 : Int32)
def f_X12_init (σ : Hp) (a0 : Nat) (a1 : Int32) : Option Hp :=
  (some (nw σ 13 4097)).bind fun s8 =>
  (h_pR s8 12 a0 4 (oN σ)).bind fun s10 =>
  (some (nw s10 13 4097)).bind fun s17 =>
  (h_pR s17 12 a0 5 (oN s10)).bind fun s19 =>
  (some (nw s19 13 4097)).bind fun s26 =>
  (h_pR s26 12 a0 6 (oN s19)).bind fun s28 =>
  (some (nw s28 13 4097)).bind fun s35 =>
  (h_pR s35 12 a0 7 (oN s28)).bind fun s37 =>
  (some (nw s37 13 4097)).bind fun s44 =>
  (h_pR s44 12 a0 8 (oN s37)).bind fun s46 =>
  (h_pI s46 12 a0 9 (1 : Int32)).bind fun s51 =>
  (h_pI s51 12 a0 10 (1 : Int32)).bind fun s56 =>
  (some (nw s56 13 200)).bind fun s63 =>
  (h_pR s63 12 a0 15 (oN s56)).bind fun s65 =>
  (some (nw s65 13 200)).bind fun s72 =>
  (h_pR s72 12 a0 16 (oN s65)).bind fun s74 =>
  (some (nw s74 13 200)).bind fun s81 =>
  (h_pR s81 12 a0 17 (oN s74)).bind fun s83 =>
  (some (nw s83 13 200)).bind fun s90 =>
  (h_pR s90 12 a0 18 (oN s83)).bind fun s92 =>
  (some (nw s92 13 200)).bind fun s99 =>
  (h_pR s99 12 a0 19 (oN s92)).bind fun s101 =>
  (some (nw s101 13 200)).bind fun s108 =>
  (h_pR s108 12 a0 20 (oN s101)).bind fun s110 =>
  (some (nw s110 13 200)).bind fun s117 =>
  (h_pR s117 12 a0 21 (oN s110)).bind fun s119 =>
  (some (nw s119 13 200)).bind fun s126 =>
  (h_pR s126 12 a0 22 (oN s119)).bind fun s128 =>
  (some (nw s128 13 200)).bind fun s135 =>
  (h_pR s135 12 a0 23 (oN s128)).bind fun s137 =>
  (some (nw s137 13 200)).bind fun s144 =>
  (h_pR s144 12 a0 24 (oN s137)).bind fun s146 =>
  (some (nw s146 13 200)).bind fun s153 =>
  (h_pR s153 12 a0 25 (oN s146)).bind fun s155 =>
  (some (nw s155 13 200)).bind fun s162 =>
  (h_pR s162 12 a0 26 (oN s155)).bind fun s164 =>
  (some (nw s164 13 200)).bind fun s171 =>
  (h_pR s171 12 a0 27 (oN s164)).bind fun s173 =>
  (some (nw s173 13 200)).bind fun s180 =>
  (h_pR s180 12 a0 28 (oN s173)).bind fun s182 =>
  (some (nw s182 13 200)).bind fun s189 =>
  (h_pR s189 12 a0 29 (oN s182)).bind fun s191 =>
  (some (nw s191 14 200)).bind fun s198 =>
  (h_pR s198 12 a0 30 (oN s191)).bind fun s200 =>
  (some (nw s200 13 20000)).bind fun s207 =>
  (h_pR s207 12 a0 31 (oN s200)).bind fun s209 =>
  (some (nw s209 14 7)).bind fun s215 =>
  (h_pR s215 12 a0 32 (oN s209)).bind fun s217 =>
  (some (nw s217 13 7)).bind fun s223 =>
  (h_pR s223 12 a0 33 (oN s217)).bind fun s225 =>
  (some (nw s225 13 7)).bind fun s231 =>
  (h_pR s231 12 a0 34 (oN s225)).bind fun s233 =>
  (some (nw s233 13 7)).bind fun s239 =>
  (h_pR s239 12 a0 35 (oN s233)).bind fun s241 =>
  (some (nw s241 13 7)).bind fun s247 =>
  (h_pR s247 12 a0 36 (oN s241)).bind fun s249 =>
  (some (nw s249 13 7)).bind fun s255 =>
  (h_pR s255 12 a0 37 (oN s249)).bind fun s257 =>
  (some (nw s257 13 7)).bind fun s263 =>
  (h_pR s263 12 a0 38 (oN s257)).bind fun s265 =>
  (some (nw s265 13 7)).bind fun s271 =>
  (h_pR s271 12 a0 39 (oN s265)).bind fun s273 =>
  (some (nw s273 13 7)).bind fun s279 =>
  (h_pR s279 12 a0 40 (oN s273)).bind fun s281 =>
  (some (nw s281 13 7)).bind fun s287 =>
  (h_pR s287 12 a0 41 (oN s281)).bind fun s289 =>
  (some (nw s289 13 700)).bind fun s296 =>
  (h_pR s296 12 a0 42 (oN s289)).bind fun s298 =>
  (some (nw s298 13 7)).bind fun s304 =>
  (h_pR s304 12 a0 43 (oN s298)).bind fun s306 =>
  (some (nw s306 13 84)).bind fun s312 =>
  (h_pR s312 12 a0 44 (oN s306)).bind fun s314 =>
  (some (nw s314 13 84)).bind fun s320 =>
  (h_pR s320 12 a0 45 (oN s314)).bind fun s322 =>
  (some (nw s322 13 7)).bind fun s328 =>
  (h_pR s328 12 a0 46 (oN s322)).bind fun s330 =>
  (some (nw s330 13 7)).bind fun s336 =>
  (h_pR s336 12 a0 47 (oN s330)).bind fun s338 =>
  (some (nw s338 13 7)).bind fun s344 =>
  (h_pR s344 12 a0 48 (oN s338)).bind fun s346 =>
  (some (nw s346 13 7)).bind fun s352 =>
  (h_pR s352 12 a0 49 (oN s346)).bind fun s354 =>
  (some (nw s354 13 49)).bind fun s360 =>
  (h_pR s360 12 a0 50 (oN s354)).bind fun s362 =>
  (some (nw s362 13 49)).bind fun s368 =>
  (h_pR s368 12 a0 51 (oN s362)).bind fun s370 =>
  (some (nw s370 13 49)).bind fun s376 =>
  (h_pR s376 12 a0 52 (oN s370)).bind fun s378 =>
  (some (nw s378 13 49)).bind fun s384 =>
  (h_pR s384 12 a0 53 (oN s378)).bind fun s386 =>
  (some (nw s386 13 4900)).bind fun s393 =>
  (h_pR s393 12 a0 54 (oN s386)).bind fun s395 =>
  (some (nw s395 13 100)).bind fun s401 =>
  (h_pR s401 12 a0 55 (oN s395)).bind fun s403 =>
  (some (nw s403 13 100)).bind fun s409 =>
  (h_pR s409 12 a0 56 (oN s403)).bind fun s411 =>
  (some (nw s411 13 4)).bind fun s416 =>
  (h_pR s416 12 a0 57 (oN s411)).bind fun s418 =>
  (some (nw s418 13 4)).bind fun s423 =>
  (h_pR s423 12 a0 58 (oN s418)).bind fun s425 =>
  (some (nw s425 13 4)).bind fun s430 =>
  (h_pR s430 12 a0 59 (oN s425)).bind fun s432 =>
  (some (nw s432 13 4)).bind fun s437 =>
  (h_pR s437 12 a0 60 (oN s432)).bind fun s439 =>
  (some (nw s439 13 4)).bind fun s444 =>
  (h_pR s444 12 a0 61 (oN s439)).bind fun s446 =>
  (some (nw s446 13 4)).bind fun s451 =>
  (h_pR s451 12 a0 62 (oN s446)).bind fun s453 =>
  (some (nw s453 13 4)).bind fun s458 =>
  (h_pR s458 12 a0 63 (oN s453)).bind fun s460 =>
  (some (nw s460 13 4)).bind fun s465 =>
  (h_pR s465 12 a0 64 (oN s460)).bind fun s467 =>
  (some (nw s467 13 256)).bind fun s474 =>
  (h_pR s474 12 a0 65 (oN s467)).bind fun s476 =>
  (some (nw s476 13 256)).bind fun s483 =>
  (h_pR s483 12 a0 66 (oN s476)).bind fun s485 =>
  (some (nw s485 13 256)).bind fun s492 =>
  (h_pR s492 12 a0 67 (oN s485)).bind fun s494 =>
  (some (nw s494 13 256)).bind fun s501 =>
  (h_pR s501 12 a0 68 (oN s494)).bind fun s503 =>
  (some (nw s503 13 256)).bind fun s510 =>
  (h_pR s510 12 a0 69 (oN s503)).bind fun s512 =>
  (some (nw s512 13 200)).bind fun s519 =>
  (h_pR s519 12 a0 71 (oN s512)).bind fun s521 =>
  (some (nw s521 13 200)).bind fun s528 =>
  (h_pR s528 12 a0 72 (oN s521)).bind fun s530 =>
  (some (nw s530 13 200)).bind fun s537 =>
  (h_pR s537 12 a0 73 (oN s530)).bind fun s539 =>
  (some (nw s539 13 200)).bind fun s546 =>
  (h_pR s546 12 a0 74 (oN s539)).bind fun s548 =>
  (some (nw s548 13 200)).bind fun s555 =>
  (h_pR s555 12 a0 75 (oN s548)).bind fun s557 =>
  (some (nw s557 13 8)).bind fun s563 =>
  (h_pR s563 12 a0 76 (oN s557)).bind fun s565 =>
  (some (nw s565 13 4)).bind fun s570 =>
  (h_pR s570 12 a0 77 (oN s565)).bind fun s572 =>
  (some (nw s572 13 4)).bind fun s577 =>
  (h_pR s577 12 a0 78 (oN s572)).bind fun s579 =>
  if 0 ≤ (a1 - a1 / (3 : Int32) * (3 : Int32)) then (
    f_X12_init_610 s579 a0 a0 ((3 : Int32) + ((2 : Int32) * (a1 - a1 / (3 : Int32) * (3 : Int32)))))
  else (
    if (a1 - a1 / (3 : Int32) * (3 : Int32)) = (-1 : Int32) then (
      f_X12_init_610 s579 a0 a0 (7 : Int32))
    else (
      f_X12_init_610 s579 a0 a0 (5 : Int32)))
def f_X11_request_50 (σ : Hp) (x0 : Nat) (x1 : Int32) (x2 : Int32) (x3 : Int32) (x4 : Int32) : Option Xr :=
  (h_gR σ 11 x0 5).bind fun v51 =>
  (h_aR σ 15 v51 x1).bind fun v55 =>
  (h_gI σ 2 v55 2).bind fun v60 =>
  if v60 = (1 : Int32) then (
    some (3, 0, σ))
  else (
    (h_gR σ 11 x0 1).bind fun v78 =>
    (h_gI σ 2 v55 0).bind fun v84 =>
    (h_gO σ 7 v78).bind fun _ =>
    (f_X7_add σ v78 x1 (v84 + (1 : Int32)) x2 x3 x4).bind fun v93 =>
    if v93.1 = 0 then (
      some (0, (-1 : Int32), v93.2))
    else (
      (h_gO v93.2 2 v55).bind fun _ =>
      (f_X2_ask v93.2 v55 v93.1).bind fun v109 =>
      (h_gO v109 11 x0).bind fun _ =>
      (f_X11_stamp v109 x0 v93.1).bind fun v115 =>
      (h_gI v115 2 v55 0).bind fun v120 =>
      some (0, v120, v115)))
def f_X11_request (σ : Hp) (a0 : Nat) (a1 : Int32) (a2 : Int32) (a3 : Int32) (a4 : Int32) : Option Xr :=
  (h_gO σ 11 a0).bind fun _ =>
  (f_X11_isClient a0 a1).bind fun v2 =>
  if v2 = 0 then (
    some (1, 0, σ))
  else (
    (h_gO σ 11 a0).bind fun _ =>
    (f_X11_isKey a0 a3).bind fun v10 =>
    if v10 = 0 then (
      some (1, 0, σ))
    else (
      if a2 = 0 then (
        f_X11_request_50 σ a0 a1 a2 a3 a4)
      else (
        if a2 = (1 : Int32) then (
          f_X11_request_50 σ a0 a1 a2 a3 a4)
        else (
          if a2 = (2 : Int32) then (
            f_X11_request_50 σ a0 a1 a2 a3 a4)
          else (
            some (2, 0, σ))))))
def f_X11_again (σ : Hp) (a0 : Nat) (a1 : Int32) : Option Xr :=
  (h_gO σ 11 a0).bind fun _ =>
  (f_X11_isClient a0 a1).bind fun v2 =>
  if v2 = 0 then (
    some (1, 0, σ))
  else (
    (h_gR σ 11 a0 5).bind fun v19 =>
    (h_aR σ 15 v19 a1).bind fun v23 =>
    (h_gI σ 2 v23 2).bind fun v24 =>
    if v24 = (1 : Int32) then (
      (h_gR σ 11 a0 5).bind fun v43 =>
      (h_aR σ 15 v43 a1).bind fun v47 =>
      (h_gI σ 2 v47 1).bind fun v48 =>
      (h_gO σ 11 a0).bind fun _ =>
      (f_X11_stamp σ a0 v48).bind fun v51 =>
      some (0, 0, v51))
    else (
      some (3, 0, σ)))
def f_X11_deliver (σ : Hp) (a0 : Nat) (a1 : Int32) : Option Xr :=
  (h_gR σ 11 a0 3).bind fun v1 =>
  (h_gO σ 1 v1).bind fun _ =>
  (f_X1_placeOf σ v1 a1).bind fun v5 =>
  if v5 = (-1 : Int32) then (
    some (2, 0, σ))
  else (
    (h_gR σ 11 a0 3).bind fun v26 =>
    (h_gO σ 1 v26).bind fun _ =>
    (f_X1_takeOut σ v26 v5).bind fun v30 =>
    (h_gO v30.2 11 a0).bind fun _ =>
    (f_X11_handOver v30.2 a0 v30.1).bind fun v33 =>
    some (0, 0, v33))
def f_X11_lose (σ : Hp) (a0 : Nat) (a1 : Int32) : Option Xr :=
  (h_gR σ 11 a0 3).bind fun v1 =>
  (h_gO σ 1 v1).bind fun _ =>
  (f_X1_placeOf σ v1 a1).bind fun v5 =>
  if v5 = (-1 : Int32) then (
    some (2, 0, σ))
  else (
    (h_gR σ 11 a0 3).bind fun v25 =>
    (h_gO σ 1 v25).bind fun _ =>
    (f_X1_takeOut σ v25 v5).bind fun v29 =>
    (h_gR v29.2 11 a0 3).bind fun v34 =>
    (h_gI v29.2 1 v34 3).bind fun v38 =>
    (h_pI v29.2 1 v34 3 (v38 + (1 : Int32))).bind fun s43 =>
    some (0, 0, s43))
def b_X11_flow_22 (rec22 : Hp → Nat → Int32 → Int32 → Option Xr) (σ : Hp) (x0 : Nat) (x1 : Int32) (x2 : Int32) : Option Xr :=
  if x1 ≤ x2 then (
    some (0, x2, σ))
  else (
    (h_gR σ 11 x0 3).bind fun v28 =>
    (h_gI σ 1 v28 1).bind fun v31 =>
    if v31 ≤ 0 then (
      some (0, x2, σ))
    else (
      (h_gR σ 11 x0 3).bind fun v39 =>
      (h_gO σ 1 v39).bind fun _ =>
      (f_X1_takeOut σ v39 (0 : Int32)).bind fun v43 =>
      (h_gO v43.2 11 x0).bind fun _ =>
      (f_X11_handOver v43.2 x0 v43.1).bind fun v46 =>
      rec22 v46 x0 x1 (x2 + 1)))
def f_X11_flow_22 (n : Nat) : Hp → Nat → Int32 → Int32 → Option Xr := Nat.rec (motive := fun _ => Hp → Nat → Int32 → Int32 → Option Xr) (fun _ _ _ _ => none) (fun _ rec => b_X11_flow_22 rec) n
def f_X11_flow (σ : Hp) (a0 : Nat) (a1 : Int32) : Option Xr :=
  if a1 < 0 then (
    some (2, 0, σ))
  else (
    if a1 ≤ (40 : Int32) then (
      f_X11_flow_22 41 σ a0 a1 (0 : Int32))
    else (
      some (2, 0, σ)))
def f_X11_down (σ : Hp) (a0 : Nat) (a1 : Int32) : Option Xr :=
  (h_gO σ 11 a0).bind fun _ =>
  (f_X11_isReplica σ a0 a1).bind fun v2 =>
  if v2 = 0 then (
    some (1, 0, σ))
  else (
    (h_gR σ 11 a0 4).bind fun v19 =>
    (h_aR σ 18 v19 a1).bind fun v23 =>
    (h_gI σ 6 v23 2).bind fun v24 =>
    if v24 = 0 then (
      (h_gO σ 11 a0).bind fun _ =>
      (f_X11_downNow σ a0).bind fun v31 =>
      (h_gI σ 11 a0 0).bind fun v35 =>
      if v31 < (v35 / (2 : Int32)) then (
        (h_gR σ 11 a0 4).bind fun v54 =>
        (h_aR σ 18 v54 a1).bind fun v58 =>
        (h_pI σ 6 v58 2 (1 : Int32)).bind fun s60 =>
        (h_gR s60 11 a0 4).bind fun v64 =>
        (h_aR s60 18 v64 a1).bind fun v68 =>
        (h_gO s60 6 v68).bind fun _ =>
        (f_X6_forget s60 v68).bind fun v69 =>
        some (0, 0, v69))
      else (
        some (3, 0, σ)))
    else (
      some (3, 0, σ)))
def f_X11_up (σ : Hp) (a0 : Nat) (a1 : Int32) : Option Xr :=
  (h_gO σ 11 a0).bind fun _ =>
  (f_X11_isReplica σ a0 a1).bind fun v2 =>
  if v2 = 0 then (
    some (1, 0, σ))
  else (
    (h_gR σ 11 a0 4).bind fun v19 =>
    (h_aR σ 18 v19 a1).bind fun v23 =>
    (h_gI σ 6 v23 2).bind fun v24 =>
    if v24 = 0 then (
      some (3, 0, σ))
    else (
      (h_gR σ 11 a0 4).bind fun v41 =>
      (h_aR σ 18 v41 a1).bind fun v45 =>
      (h_pI σ 6 v45 2 (0 : Int32)).bind fun s47 =>
      some (0, 0, s47)))
def f_X11_suspect (σ : Hp) (a0 : Nat) (a1 : Int32) : Option Xr :=
  (h_gO σ 11 a0).bind fun _ =>
  (f_X11_isReplica σ a0 a1).bind fun v2 =>
  if v2 = 0 then (
    some (1, 0, σ))
  else (
    (h_gR σ 11 a0 4).bind fun v19 =>
    (h_aR σ 18 v19 a1).bind fun v23 =>
    (h_gI σ 6 v23 2).bind fun v26 =>
    if v26 = 0 then (
      (some (nw σ 9 0)).bind fun s43 =>
      (h_gR s43 6 v23 4).bind fun v48 =>
      (h_gI s43 9 v48 0).bind fun v51 =>
      (h_gR s43 6 v23 4).bind fun v57 =>
      (h_gI s43 9 v57 1).bind fun v60 =>
      (f_X9_init s43 (oN σ) (v51 + (1 : Int32)) v60).bind fun v63 =>
      (h_gO v63 6 v23).bind fun _ =>
      (f_X6_turnTo v63 v23 (oN σ)).bind fun v66 =>
      some (0, 0, v66))
    else (
      some (3, 0, σ)))
def f_X11_nudge (σ : Hp) (a0 : Nat) (a1 : Int32) : Option Xr :=
  (h_gO σ 11 a0).bind fun _ =>
  (f_X11_isReplica σ a0 a1).bind fun v2 =>
  if v2 = 0 then (
    some (1, 0, σ))
  else (
    (h_gR σ 11 a0 4).bind fun v19 =>
    (h_aR σ 18 v19 a1).bind fun v23 =>
    (h_gI σ 6 v23 2).bind fun v24 =>
    if v24 = 0 then (
      (h_gR σ 11 a0 3).bind fun v41 =>
      (h_gI σ 1 v41 2).bind fun v44 =>
      (h_gR σ 11 a0 4).bind fun v49 =>
      (h_aR σ 18 v49 a1).bind fun v53 =>
      (h_gO σ 6 v53).bind fun _ =>
      (f_X6_askAgain σ v53).bind fun v54 =>
      (h_gR v54 11 a0 3).bind fun v58 =>
      (h_gI v54 1 v58 2).bind fun v61 =>
      some (0, (v61 - v44), v54))
    else (
      some (3, 0, σ)))
def f_X11_sync (σ : Hp) (a0 : Nat) (a1 : Int32) : Option Xr :=
  (h_gO σ 11 a0).bind fun _ =>
  (f_X11_isReplica σ a0 a1).bind fun v2 =>
  if v2 = 0 then (
    some (1, 0, σ))
  else (
    (h_gR σ 11 a0 4).bind fun v19 =>
    (h_aR σ 18 v19 a1).bind fun v23 =>
    (h_gI σ 6 v23 2).bind fun v26 =>
    if v26 = 0 then (
      (h_gO σ 6 v23).bind fun _ =>
      (f_X6_leads σ v23).bind fun v33 =>
      if v33 = 0 then (
        some (3, 0, σ))
      else (
        (h_gI σ 6 v23 3).bind fun v40 =>
        if v40 = 0 then (
          (h_gO σ 6 v23).bind fun _ =>
          (f_X6_sendLogToOthers σ v23 (5 : Int32)).bind fun v58 =>
          some (0, 0, v58))
        else (
          some (3, 0, σ))))
    else (
      some (3, 0, σ)))
def f_L_request (σ : Hp) (o : Int64) (a0 : Nat) (a1 : Int32) (a2 : Int32) (a3 : Int32) (a4 : Int32) : Option (Int32 × Hp × Int64) :=
  (h_gO σ 11 a0).bind fun _ =>
  (f_X11_request σ a0 a1 a2 a3 a4).bind fun x =>
  if x.1 = 0 then some (0, x.2.2, x.2.1.toInt64)
  else if x.1 = 1 then some (1, x.2.2, o)
  else if x.1 = 2 then some (2, x.2.2, o)
  else if x.1 = 3 then some (3, x.2.2, o)
  else none
def f_L_again (σ : Hp) (o : Int64) (a0 : Nat) (a1 : Int32) : Option (Int32 × Hp × Int64) :=
  (h_gO σ 11 a0).bind fun _ =>
  (f_X11_again σ a0 a1).bind fun x =>
  if x.1 = 0 then some (0, x.2.2, o)
  else if x.1 = 1 then some (1, x.2.2, o)
  else if x.1 = 3 then some (2, x.2.2, o)
  else none
def f_L_deliver (σ : Hp) (o : Int64) (a0 : Nat) (a1 : Int32) : Option (Int32 × Hp × Int64) :=
  (h_gO σ 11 a0).bind fun _ =>
  (f_X11_deliver σ a0 a1).bind fun x =>
  if x.1 = 0 then some (0, x.2.2, o)
  else if x.1 = 2 then some (1, x.2.2, o)
  else none
def f_L_lose (σ : Hp) (o : Int64) (a0 : Nat) (a1 : Int32) : Option (Int32 × Hp × Int64) :=
  (h_gO σ 11 a0).bind fun _ =>
  (f_X11_lose σ a0 a1).bind fun x =>
  if x.1 = 0 then some (0, x.2.2, o)
  else if x.1 = 2 then some (1, x.2.2, o)
  else none
def f_L_flow (σ : Hp) (o : Int64) (a0 : Nat) (a1 : Int32) : Option (Int32 × Hp × Int64) :=
  (h_gO σ 11 a0).bind fun _ =>
  (f_X11_flow σ a0 a1).bind fun x =>
  if x.1 = 0 then some (0, x.2.2, x.2.1.toInt64)
  else if x.1 = 2 then some (1, x.2.2, o)
  else none
def f_L_down (σ : Hp) (o : Int64) (a0 : Nat) (a1 : Int32) : Option (Int32 × Hp × Int64) :=
  (h_gO σ 11 a0).bind fun _ =>
  (f_X11_down σ a0 a1).bind fun x =>
  if x.1 = 0 then some (0, x.2.2, o)
  else if x.1 = 1 then some (1, x.2.2, o)
  else if x.1 = 3 then some (2, x.2.2, o)
  else none
def f_L_up (σ : Hp) (o : Int64) (a0 : Nat) (a1 : Int32) : Option (Int32 × Hp × Int64) :=
  (h_gO σ 11 a0).bind fun _ =>
  (f_X11_up σ a0 a1).bind fun x =>
  if x.1 = 0 then some (0, x.2.2, o)
  else if x.1 = 1 then some (1, x.2.2, o)
  else if x.1 = 3 then some (2, x.2.2, o)
  else none
def f_L_suspect (σ : Hp) (o : Int64) (a0 : Nat) (a1 : Int32) : Option (Int32 × Hp × Int64) :=
  (h_gO σ 11 a0).bind fun _ =>
  (f_X11_suspect σ a0 a1).bind fun x =>
  if x.1 = 0 then some (0, x.2.2, o)
  else if x.1 = 1 then some (1, x.2.2, o)
  else if x.1 = 3 then some (2, x.2.2, o)
  else none
def f_L_nudge (σ : Hp) (o : Int64) (a0 : Nat) (a1 : Int32) : Option (Int32 × Hp × Int64) :=
  (h_gO σ 11 a0).bind fun _ =>
  (f_X11_nudge σ a0 a1).bind fun x =>
  if x.1 = 0 then some (0, x.2.2, x.2.1.toInt64)
  else if x.1 = 1 then some (1, x.2.2, o)
  else if x.1 = 3 then some (2, x.2.2, o)
  else none
def f_L_sync (σ : Hp) (o : Int64) (a0 : Nat) (a1 : Int32) : Option (Int32 × Hp × Int64) :=
  (h_gO σ 11 a0).bind fun _ =>
  (f_X11_sync σ a0 a1).bind fun x =>
  if x.1 = 0 then some (0, x.2.2, o)
  else if x.1 = 1 then some (1, x.2.2, o)
  else if x.1 = 3 then some (2, x.2.2, o)
  else none
