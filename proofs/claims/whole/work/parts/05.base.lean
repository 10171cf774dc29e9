/-! the state by names: kinds, lengths, ints, references of each address; the reference's state; the judgement of one method at one place -/
def gwT : List Cond := lw_tbl.filter goodWord
theorem gw_mem {w : Cond} (i : Nat) (h : lw_tbl[i]? = some w) (hg : goodWord w = true) : w ∈ gwT := List.mem_filter.mpr ⟨List.mem_of_getElem? h, hg⟩
def wsU (y : MethodName) (cc : ByteArray) (nL : Nat) (ret : Option FieldType) : List Cond := .code y cc nL ret :: gwT
theorem gw_good {w : Cond} (h : w ∈ gwT) : (w.onTables && w.keeps) = true ∨ ∃ ty, w = .arrayClass ty := good_of_word (List.mem_filter.mp h).2
theorem gw_in {y : MethodName} {cc : ByteArray} {nL : Nat} {ret : Option FieldType} (h : Cond.code y cc nL ret ∈ gwT) : GoodIn gwT (wsU y cc nL ret) := by
  intro w hw
  rcases List.mem_cons.mp hw with rfl | hw
  · exact ⟨h, gw_good h⟩
  · exact ⟨hw, gw_good hw⟩
def cC : Nat → String := fun ci => match ci with
  | 0 => RX0
  | 1 => RX1
  | 2 => RX2
  | 3 => RX3
  | 4 => RX4
  | 5 => RX5
  | 6 => RX6
  | 7 => RX7
  | 8 => RX8
  | 9 => RX9
  | 10 => RX10
  | 11 => RX11
  | 12 => RX12
  | _ => ""
def cT : Nat → u_T := fun ci => match ci with
  | 0 => TX0
  | 1 => TX1
  | 2 => TX2
  | 3 => TX3
  | 4 => TX4
  | 5 => TX5
  | 6 => TX6
  | 7 => TX7
  | 8 => TX8
  | 9 => TX9
  | 10 => TX10
  | 11 => TX11
  | 12 => TX12
  | _ => TX0
def cN : Nat → Nat := fun ci => match ci with
  | 0 => 8
  | 1 => 6
  | 2 => 13
  | 3 => 3
  | 4 => 2
  | 5 => 12
  | 6 => 15
  | 7 => 6
  | 8 => 7
  | 9 => 2
  | 10 => 5
  | 11 => 10
  | 12 => 79
  | _ => 0
def cY : Nat → Nat → FieldType := fun ci => match ci with
  | 0 => tyX0
  | 1 => tyX1
  | 2 => tyX2
  | 3 => tyX3
  | 4 => tyX4
  | 5 => tyX5
  | 6 => tyX6
  | 7 => tyX7
  | 8 => tyX8
  | 9 => tyX9
  | 10 => tyX10
  | 11 => tyX11
  | 12 => tyX12
  | _ => tyX0
theorem c_at {ci : Nat} (h : ci < 13) : vwCl[ci]? = some (cC ci, cT ci, cN ci) := by
  rcases (show ci = 0 ∨ ci = 1 ∨ ci = 2 ∨ ci = 3 ∨ ci = 4 ∨ ci = 5 ∨ ci = 6 ∨ ci = 7 ∨ ci = 8 ∨ ci = 9 ∨ ci = 10 ∨ ci = 11 ∨ ci = 12 by omega) with rfl | rfl | rfl | rfl | rfl | rfl | rfl | rfl | rfl | rfl | rfl | rfl | rfl <;> rfl
set_option maxRecDepth 20000 in
theorem c_in0 : ∀ w ∈ wsX00, w ∈ gwT := by
  have h : (wsX00.all fun w => decide (w ∈ lw_tbl) && goodWord w) = true := by decide +kernel
  intro w hw
  have h1 := List.all_eq_true.mp h w hw
  simp only [Bool.and_eq_true, decide_eq_true_eq] at h1
  exact List.mem_filter.mpr h1
set_option maxRecDepth 20000 in
theorem c_in1 : ∀ w ∈ wsX10, w ∈ gwT := by
  have h : (wsX10.all fun w => decide (w ∈ lw_tbl) && goodWord w) = true := by decide +kernel
  intro w hw
  have h1 := List.all_eq_true.mp h w hw
  simp only [Bool.and_eq_true, decide_eq_true_eq] at h1
  exact List.mem_filter.mpr h1
set_option maxRecDepth 20000 in
theorem c_in2 : ∀ w ∈ wsX20, w ∈ gwT := by
  have h : (wsX20.all fun w => decide (w ∈ lw_tbl) && goodWord w) = true := by decide +kernel
  intro w hw
  have h1 := List.all_eq_true.mp h w hw
  simp only [Bool.and_eq_true, decide_eq_true_eq] at h1
  exact List.mem_filter.mpr h1
set_option maxRecDepth 20000 in
theorem c_in3 : ∀ w ∈ wsX30, w ∈ gwT := by
  have h : (wsX30.all fun w => decide (w ∈ lw_tbl) && goodWord w) = true := by decide +kernel
  intro w hw
  have h1 := List.all_eq_true.mp h w hw
  simp only [Bool.and_eq_true, decide_eq_true_eq] at h1
  exact List.mem_filter.mpr h1
set_option maxRecDepth 20000 in
theorem c_in4 : ∀ w ∈ wsX40, w ∈ gwT := by
  have h : (wsX40.all fun w => decide (w ∈ lw_tbl) && goodWord w) = true := by decide +kernel
  intro w hw
  have h1 := List.all_eq_true.mp h w hw
  simp only [Bool.and_eq_true, decide_eq_true_eq] at h1
  exact List.mem_filter.mpr h1
set_option maxRecDepth 20000 in
theorem c_in5 : ∀ w ∈ wsX50, w ∈ gwT := by
  have h : (wsX50.all fun w => decide (w ∈ lw_tbl) && goodWord w) = true := by decide +kernel
  intro w hw
  have h1 := List.all_eq_true.mp h w hw
  simp only [Bool.and_eq_true, decide_eq_true_eq] at h1
  exact List.mem_filter.mpr h1
set_option maxRecDepth 20000 in
theorem c_in6 : ∀ w ∈ wsX60, w ∈ gwT := by
  have h : (wsX60.all fun w => decide (w ∈ lw_tbl) && goodWord w) = true := by decide +kernel
  intro w hw
  have h1 := List.all_eq_true.mp h w hw
  simp only [Bool.and_eq_true, decide_eq_true_eq] at h1
  exact List.mem_filter.mpr h1
set_option maxRecDepth 20000 in
theorem c_in7 : ∀ w ∈ wsX70, w ∈ gwT := by
  have h : (wsX70.all fun w => decide (w ∈ lw_tbl) && goodWord w) = true := by decide +kernel
  intro w hw
  have h1 := List.all_eq_true.mp h w hw
  simp only [Bool.and_eq_true, decide_eq_true_eq] at h1
  exact List.mem_filter.mpr h1
set_option maxRecDepth 20000 in
theorem c_in8 : ∀ w ∈ wsX80, w ∈ gwT := by
  have h : (wsX80.all fun w => decide (w ∈ lw_tbl) && goodWord w) = true := by decide +kernel
  intro w hw
  have h1 := List.all_eq_true.mp h w hw
  simp only [Bool.and_eq_true, decide_eq_true_eq] at h1
  exact List.mem_filter.mpr h1
set_option maxRecDepth 20000 in
theorem c_in9 : ∀ w ∈ wsX90, w ∈ gwT := by
  have h : (wsX90.all fun w => decide (w ∈ lw_tbl) && goodWord w) = true := by decide +kernel
  intro w hw
  have h1 := List.all_eq_true.mp h w hw
  simp only [Bool.and_eq_true, decide_eq_true_eq] at h1
  exact List.mem_filter.mpr h1
set_option maxRecDepth 20000 in
theorem c_in10 : ∀ w ∈ wsX100, w ∈ gwT := by
  have h : (wsX100.all fun w => decide (w ∈ lw_tbl) && goodWord w) = true := by decide +kernel
  intro w hw
  have h1 := List.all_eq_true.mp h w hw
  simp only [Bool.and_eq_true, decide_eq_true_eq] at h1
  exact List.mem_filter.mpr h1
set_option maxRecDepth 20000 in
theorem c_in11 : ∀ w ∈ wsX110, w ∈ gwT := by
  have h : (wsX110.all fun w => decide (w ∈ lw_tbl) && goodWord w) = true := by decide +kernel
  intro w hw
  have h1 := List.all_eq_true.mp h w hw
  simp only [Bool.and_eq_true, decide_eq_true_eq] at h1
  exact List.mem_filter.mpr h1
set_option maxRecDepth 20000 in
theorem c_in12 : ∀ w ∈ wsX120, w ∈ gwT := by
  have h : (wsX120.all fun w => decide (w ∈ lw_tbl) && goodWord w) = true := by decide +kernel
  intro w hw
  have h1 := List.all_eq_true.mp h w hw
  simp only [Bool.and_eq_true, decide_eq_true_eq] at h1
  exact List.mem_filter.mpr h1
theorem c_in {ci : Nat} (h : ci < 13) : ∀ w ∈ u_ws (cC ci) (cT ci) (cN ci), w ∈ gwT := by
  rcases (show ci = 0 ∨ ci = 1 ∨ ci = 2 ∨ ci = 3 ∨ ci = 4 ∨ ci = 5 ∨ ci = 6 ∨ ci = 7 ∨ ci = 8 ∨ ci = 9 ∨ ci = 10 ∨ ci = 11 ∨ ci = 12 by omega) with rfl | rfl | rfl | rfl | rfl | rfl | rfl | rfl | rfl | rfl | rfl | rfl | rfl
  · exact c_in0
  · exact c_in1
  · exact c_in2
  · exact c_in3
  · exact c_in4
  · exact c_in5
  · exact c_in6
  · exact c_in7
  · exact c_in8
  · exact c_in9
  · exact c_in10
  · exact c_in11
  · exact c_in12
theorem c_ty {ci : Nat} (h : ci < 13) : ∀ k, k < cN ci → parseFieldDescriptor (cT ci k).2.2.1 = some (cY ci k) := by
  rcases (show ci = 0 ∨ ci = 1 ∨ ci = 2 ∨ ci = 3 ∨ ci = 4 ∨ ci = 5 ∨ ci = 6 ∨ ci = 7 ∨ ci = 8 ∨ ci = 9 ∨ ci = 10 ∨ ci = 11 ∨ ci = 12 by omega) with rfl | rfl | rfl | rfl | rfl | rfl | rfl | rfl | rfl | rfl | rfl | rfl | rfl
  · exact tyX0_ok
  · exact tyX1_ok
  · exact tyX2_ok
  · exact tyX3_ok
  · exact tyX4_ok
  · exact tyX5_ok
  · exact tyX6_ok
  · exact tyX7_ok
  · exact tyX8_ok
  · exact tyX9_ok
  · exact tyX10_ok
  · exact tyX11_ok
  · exact tyX12_ok
theorem c_nm {ci : Nat} (h : ci < 13) : ∀ a, a < cN ci → ∀ b, b < cN ci → a ≠ b → (cT ci a).2.1 ≠ (cT ci b).2.1 := by
  rcases (show ci = 0 ∨ ci = 1 ∨ ci = 2 ∨ ci = 3 ∨ ci = 4 ∨ ci = 5 ∨ ci = 6 ∨ ci = 7 ∨ ci = 8 ∨ ci = 9 ∨ ci = 10 ∨ ci = 11 ∨ ci = 12 by omega) with rfl | rfl | rfl | rfl | rfl | rfl | rfl | rfl | rfl | rfl | rfl | rfl | rfl
  · exact nmX0
  · exact nmX1
  · exact nmX2
  · exact nmX3
  · exact nmX4
  · exact nmX5
  · exact nmX6
  · exact nmX7
  · exact nmX8
  · exact nmX9
  · exact nmX10
  · exact nmX11
  · exact nmX12

abbrev Hp : Type := (Nat → Nat) × (Nat → Nat) × (Nat → Nat → Int32) × (Nat → Nat → Option Nat) × Nat
def oK (σ : Hp) : Nat → Nat := σ.1
def oZ (σ : Hp) : Nat → Nat := σ.2.1
def oI (σ : Hp) : Nat → Nat → Int32 := σ.2.2.1
def oR (σ : Hp) : Nat → Nat → Option Nat := σ.2.2.2.1
def oN (σ : Hp) : Nat := σ.2.2.2.2
def up2 {α : Type} (f : Nat → Nat → α) (a k : Nat) (v : α) : Nat → Nat → α := fun x j => if x = a ∧ j = k then v else f x j
def sI (σ : Hp) (a k : Nat) (v : Int32) : Hp := (oK σ, oZ σ, up2 (oI σ) a k v, oR σ, oN σ)
def sR (σ : Hp) (a k : Nat) (v : Nat) : Hp := (oK σ, oZ σ, oI σ, up2 (oR σ) a k (some v), oN σ)
def sC (σ : Hp) (a0 a sp dp n : Nat) : Hp := (oK σ, oZ σ, va_up (oI σ) a (va_cpy (oI σ a0) (oI σ a) sp dp n), oR σ, oN σ)
def nw (σ : Hp) (kd len : Nat) : Hp := (va_up (oK σ) (oN σ) kd, va_up (oZ σ) (oN σ) len, va_up (oI σ) (oN σ) (fun _ => 0), va_up (oR σ) (oN σ) (fun _ => none), oN σ + 1)
abbrev Mu : Type := (Nat → Int32) × (Nat → Nat → Int32)
def mS (μ : Mu) (k : Nat) (v : Int32) : Mu := (va_up μ.1 k v, μ.2)
def mT (μ : Mu) (k i : Nat) (v : Int32) : Mu := (μ.1, up2 μ.2 k i v)
abbrev Wt : Type := Hp × Mu × Int64
abbrev Gm : Type := Launch × va_G × (Nat → ClassId) × Nat × Heap × (Nat → Nat) × List Nat
def gl (G : Gm) : Launch := G.1
def gD (G : Gm) : va_G := G.2.1
def gC (G : Gm) : Nat → ClassId := G.2.2.1
def gB (G : Gm) : Nat := G.2.2.2.1
def gH (G : Gm) : Heap := G.2.2.2.2.1
def gM (G : Gm) : Nat → Nat := G.2.2.2.2.2.1
def gF (G : Gm) : List Nat := G.2.2.2.2.2.2
def gA (G : Gm) : Nat → Prop := fun q => gB G ≤ q
def isI (t : FieldType) : Bool := match t with
  | .int => true
  | .boolean => true
  | _ => false
def oF (σ : Hp) (a k : Nat) : Value := if isI (cY (oK σ a) k) = true then .int (oI σ a k) else va_rf (oR σ a k)
def oV (σ : Hp) (a j : Nat) : Value := if oK σ a < 15 then .int (oI σ a j) else va_rf (oR σ a j)
def oAt (G : Gm) (σ : Hp) (a : Nat) (H : Heap) : Prop := if oK σ a < 13 then t_OB a ((gD G).1 (oK σ a)) (cN (oK σ a)) ((gD G).2 (oK σ a)) H (oF σ a) else H[a]? = some (arrV (gC G (oK σ a - 13)) (oZ σ a) (oV σ a))
/-- lengths of the reference's rows, by the numbers of their fields -/
def mZ : Nat → Nat := fun j => match j with
  | 4 => 4097 | 5 => 4097 | 6 => 4097 | 7 => 4097 | 8 => 4097
  | 31 => 20000
  | 32 => 7 | 33 => 7 | 34 => 7 | 35 => 7 | 36 => 7 | 37 => 7 | 38 => 7 | 39 => 7 | 40 => 7 | 41 => 7
  | 42 => 700
  | 43 => 7 | 44 => 84 | 45 => 84
  | 46 => 7 | 47 => 7 | 48 => 7 | 49 => 7
  | 50 => 49 | 51 => 49 | 52 => 49 | 53 => 49
  | 54 => 4900 | 55 => 100 | 56 => 100
  | 57 => 4 | 58 => 4 | 59 => 4 | 60 => 4 | 61 => 4 | 62 => 4 | 63 => 4 | 64 => 4
  | 65 => 256 | 66 => 256 | 67 => 256 | 68 => 256 | 69 => 256
  | 76 => 8 | 77 => 4 | 78 => 4
  | _ => 200
def mK (j : Nat) : Nat := if j = 30 ∨ j = 32 then 1 else 0
def mF (G : Gm) (μ : Mu) (k : Nat) : Value := if isI (tyX12 k) = true then .int (μ.1 k) else .ref (gM G k)
def mAt (G : Gm) (μ : Mu) (o : Int64) (j : Nat) (H : Heap) : Prop :=
  if j = 200 then t_OB (gM G 200) ((gD G).1 12) 79 ((gD G).2 12) H (mF G μ) else if j = 201 then H[gM G 201]? = some (arrV (gC G 7) 1 (fun _ => .long o)) else H[gM G j]? = some (arrV (gC G (mK j)) (mZ j) (fun i => .int (μ.2 j i)))
/-- the world: the class's cells by σ, the reference's by μ, the law's row by o; what lay there before stays -/
def Wd (G : Gm) (w : Wt) (H : Heap) : Prop := H.size = oN w.1 ∧ (∀ a, oK w.1 a ≠ 99 → gB G ≤ a ∧ a < oN w.1 ∧ oAt G w.1 a H) ∧ (∀ j ∈ gF G, gB G ≤ gM G j ∧ oK w.1 (gM G j) = 99 ∧ mAt G w.2.1 w.2.2 j H) ∧ (∀ i ∈ gF G, ∀ j ∈ gF G, gM G i = gM G j → i = j) ∧ (∀ a, a < gB G → H[a]? = (gH G)[a]?) ∧ gB G ≤ H.size
def tysG (G : Gm) : List (ClassId × FieldType) := [(gC G 0, .int), (gC G 1, .boolean), (gC G 2, .object RX2), (gC G 3, .object RX4), (gC G 4, .object RX5), (gC G 5, .object RX6), (gC G 6, .object RX9), (gC G 7, .long)]
def nestL : List (String × Nat × MethodName × String) := [("OrderedTable", 21, yX7_init, "OrderedTable"), ("OrderedTable$Air", 17, yX5_init, "OrderedTable"), ("OrderedTable$Message", 9, yX4_init, "OrderedTable"), ("OrderedTable", 44, yX0_init, "OrderedTable"), ("OrderedTable$Replica", 11, yX4_init, "OrderedTable"), ("OrderedTable$Replica", 20, yX3_init, "OrderedTable"), ("OrderedTable$Tally", 25, yX4_init, "OrderedTable")]
def aoL : List String := [RX2, RX4, RX5, RX6, RX9]
def strL : List (Nat × String) := [(83, "no such client or key"), (90, "no such kind"), (98, "its latest request is open"), (114, "no such client"), (116, "none of its requests is open"), (125, "the message is not in the air"), (138, "n is not 0 .. 40"), (146, "no such replica"), (155, "it is down, or as many as may be are"), (160, "it is not down"), (162, "it is down"), (194, "it is down, does not lead, or is not normal")]
def declL : List MethodName := [⟨"java/lang/RuntimeException", "<init>", "()V"⟩, ⟨"java/lang/RuntimeException", "<init>", "(Ljava/lang/String;)V"⟩, ⟨"java/lang/Exception", "<init>", "()V"⟩, ⟨"java/lang/Exception", "<init>", "(Ljava/lang/String;)V"⟩, ⟨"java/lang/Throwable", "<init>", "()V"⟩, ⟨"java/lang/Throwable", "<init>", "(Ljava/lang/String;)V"⟩]
def excL : List String := ["java/lang/IndexOutOfBoundsException", "java/lang/IllegalArgumentException", "java/lang/IllegalStateException"]
def ncL : List (String × String) := [("java/lang/IndexOutOfBoundsException", "java/lang/IllegalArgumentException"), ("java/lang/IndexOutOfBoundsException", "java/lang/IllegalStateException"), ("java/lang/IllegalArgumentException", "java/lang/IndexOutOfBoundsException"), ("java/lang/IllegalArgumentException", "java/lang/IllegalStateException"), ("java/lang/IllegalStateException", "java/lang/IndexOutOfBoundsException"), ("java/lang/IllegalStateException", "java/lang/IllegalArgumentException")]
/-- what throwing and catching needs -/
def KT (G : Gm) (U : State) : Prop := (∀ q ∈ strL, ∃ sa, vk_R RX11 q.1 q.2 sa U) ∧ vx_Zq Bundle.tN "UNASSIGNED_STACK" Bundle.steD (gA G) U (gH G) ∧ vx_Zq Bundle.tN "SUPPRESSED_SENTINEL" Bundle.listD (gA G) U (gH G) ∧ (∀ x ∈ declL, va_Nw (.declares x) U) ∧ (∀ E ∈ excL, va_Nw (.castable E E) U) ∧ (∀ q ∈ ncL, va_Nc q.1 q.2 U) ∧ (gl G).stackTraces = false
theorem KT.moved {G : Gm} {s U : State} (hW : s.WarmedH U.vm) (h : KT G s) : KT G U := ⟨fun q hq => by obtain ⟨sa, h⟩ := h.1 q hq; exact ⟨sa, vk_R.warm hW h⟩, vx_Zq.moved hW.alike h.2.1, vx_Zq.moved hW.alike h.2.2.1, fun x hx => va_Nw.warmD hW (h.2.2.2.1 x hx), fun E hE => va_Nw.warmC hW (h.2.2.2.2.1 E hE), fun q hq => va_Nc.moved hW.alike (h.2.2.2.2.2.1 q hq), h.2.2.2.2.2.2⟩
theorem KT.same {G : Gm} {u U : State} (hv : u.vm = U.vm) (h : KT G u) : KT G U := ⟨fun q hq => by obtain ⟨sa, h⟩ := h.1 q hq; exact ⟨sa, vk_R.same hv.symm h⟩, vx_Zq.moved (by rw [hv]; exact Vm.Alike.refl _) h.2.1, vx_Zq.moved (by rw [hv]; exact Vm.Alike.refl _) h.2.2.1, fun x hx => va_Nw.same rfl hv (h.2.2.2.1 x hx), fun E hE => va_Nw.same rfl hv (h.2.2.2.2.1 E hE), fun q hq => va_Nc.moved (by rw [hv]; exact Vm.Alike.refl _) (h.2.2.2.2.2.1 q hq), h.2.2.2.2.2.2⟩
def Ks (G : Gm) (U : State) : Prop := va_K (gD G) vwCl (tysG G) U ∧ (∀ q ∈ nestL, va_Nw (.methodLinkNest q.1 q.2.1 q.2.2.1 q.2.2.2) U) ∧ (∀ C ∈ aoL, va_AO C U) ∧ KT G U
theorem Ks.moved {G : Gm} {s U : State} (hW : s.WarmedH U.vm) (h : Ks G s) : Ks G U := ⟨va_K.moved hW.alike h.1, fun q hq => va_Nw.warmM hW (h.2.1 q hq), fun C hC => va_AO.moved hW.alike (h.2.2.1 C hC), h.2.2.2.moved hW⟩
def Cx (G : Gm) (y : MethodName) (cc : ByteArray) (nL : Nat) (ret : Option FieldType) (p : Program) (s : State) (m : MethodId) (args : Array Value) (meth : Method) (co : Code) : Prop :=
  p.tables.exec = Jvm.exec ∧ co.code = cc ∧ co.maxLocals = nL ∧ s.vm.findClass y.cls = some m.cls ∧ (∀ w ∈ gwT, w.before args s = true) ∧ meth.locks = false ∧ Ks G s ∧ gB G ≤ s.heap.size ∧ meth.sig.returnType = ret ∧ meth.name = y.name ∧ (s.methodNamed? y = some m ∧ s.vm.method? m = some meth ∧ meth.code = some co)
abbrev ZT : Type := Program → Env → State → MethodId → Array Value → List Frame → Method → Code → State → Prop
/-- the judgement: from this place of the method, with these locals and this stack, in this world, the machine comes to an end as Z has it -/
def V (G : Gm) (y : MethodName) (cc : ByteArray) (nL : Nat) (ret : Option FieldType) (R : Room) (Z : ZT) (w : Wt) (c k pc : Nat) (lv : List (Nat × Value)) (st : List Value) : Prop :=
  ∀ (p : Program) (e : Env) (s : State) (m : MethodId) (args : Array Value) (below : List Frame) (meth : Method) (co : Code) (H : Heap) (locs : List Loc) (ls : Array Slot),
    Cx G y cc nL ret p s m args meth co → Wd G w H → va_S (gA G) s.heap H locs → lv_has ls nL lv → W p (gl G) e R s m args below meth co H locs c k (Z p e s m args below meth co) (F0 m pc ls st)
