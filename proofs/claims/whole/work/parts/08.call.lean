/-! calls, and what is made -/
def h_len (n : Int32) (cap : Nat) : Option Unit := if ¬ n < 0 ∧ n.toNatClampNeg ≤ cap then some () else none
/-- what the tables say of a method that is called: its code, its class, its parameters -/
def MOK (y : MethodName) (cc : ByteArray) (nL : Nat) (ret : Option FieldType) (n : Nat) : Prop := Cond.code y cc nL ret ∈ gwT ∧ Cond.initialized y.cls ∈ gwT ∧ (y.cls ≠ "java/lang/invoke/MethodHandle" ∧ y.cls ≠ "java/lang/invoke/VarHandle" ∧ (parseMethodDescriptor y.desc).map (fun d => d.parameters.length) = some n)
/-- the receiver's class -/
def Rcv (G : Gm) (w : Wt) (C : String) (b : Nat) : Prop := (∃ ci, ci < 13 ∧ oK w.1 b = ci ∧ cC ci = C) ∨ (b = gM G 200 ∧ 200 ∈ gF G ∧ cC 12 = C)
theorem rcv_c {G : Gm} {σ : Hp} {μ : Mu} {o : Int64} {C : String} {b ci : Nat} (h : h_gO σ ci b = some ()) (hci : ci < 13) (hC : cC ci = C) : Rcv G (σ, μ, o) C b := Or.inl ⟨ci, hci, (o_i h).1, hC⟩
theorem rcv_m {G : Gm} {w : Wt} (h : 200 ∈ gF G) : Rcv G w RX12 (gM G 200) := Or.inr ⟨rfl, h, rfl⟩
theorem Pw.blind {G : Gm} {as : List Value} {w : Wt} : FrameBlind (Pw G as w) := fun a U g mk h => ⟨h.1, h.2.1, Ks.same (u := U) (U := U.calling g mk a) rfl h.2.2⟩
theorem c_pl {ci j : Nat} (hci : ci < 13) (hj : j < cN ci) : ∀ t : FieldType, t ∈ ([.byte, .char, .short, .long, .float, .double] : List FieldType) → ¬ cY ci j = t := by
  have h : ∀ ci, ci < 13 → ∀ j, j < cN ci → ∀ t ∈ ([.byte, .char, .short, .long, .float, .double] : List FieldType), ¬ cY ci j = t := by decide +kernel
  exact h ci hci j hj
section VCALL
variable {G : Gm} {y : MethodName} {cc : ByteArray} {nL : Nat} {ret : Option FieldType} {R : Room} {Z : ZT} {w w' : Wt} {σ : Hp} {μ : Mu} {o : Int64} {c k c' k' pc q : Nat} {lv : List (Nat × Value)} {st stk : List Value}
variable {z : MethodName} {zc : ByteArray} {zL n i : Nat} {zr : Option FieldType} {rm : Room} {as : List Value} {mc ms b : Nat} {Qc : Array Value → State → Outcome → State → Prop}
theorem Rcv.at (h : Rcv G w z.cls b) {H : Heap} (hW : Wd G w H) {s : State} (hK : Ks G s) : ∃ cellB : Cell, H[b]? = some cellB ∧ cellB.vm.isStatics = false ∧ s.vm.findClass z.cls = some cellB.cls := by
  obtain ⟨σ, μ, o⟩ := w
  rcases h with ⟨ci, hci, hKb, hC⟩ | ⟨rfl, h, hC⟩
  · obtain ⟨cell, g1, g2, g3, -⟩ := hW.ob hKb hci
    exact ⟨cell, g1, by rw [g3]; rfl, by rw [g2, ← hC]; exact (hK.1.1 ci _ (c_at hci)).2.1⟩
  · obtain ⟨cell, g1, g2, g3, -⟩ := hW.mo h
    exact ⟨cell, g1, by rw [g3]; rfl, by rw [g2, ← hC]; exact (hK.1.1 12 _ (c_at (by decide))).2.1⟩
/-- a call's words, room and counts -/
def CK (y : MethodName) (R : Room) (z : MethodName) (zc : ByteArray) (zL : Nat) (zr : Option FieldType) (n : Nat) (rm : Room) (as : List Value) (st : List Value) (mc ms i c k : Nat) : Prop :=
  (rm.frames + 1 ≤ R.frames ∧ 8 + (zL + 11) + rm.locals ≤ R.locals) ∧ (st.map fun v => v.category).sum ≤ 8 ∧ (c + mc ≤ R.cells ∧ k + ms ≤ R.slots) ∧ rm.cells = mc ∧ rm.slots = ms ∧ as.length = n
theorem ck (h : (Nat.ble (rm.frames + 1) R.frames && Nat.ble (8 + (zL + 11) + rm.locals) R.locals && Nat.ble ((st.map fun v => v.category).sum) 8 && Nat.ble (c + mc) R.cells && Nat.ble (k + ms) R.slots && (rm.cells == mc) && (rm.slots == ms) && (as.length == n)) = true) : CK y R z zc zL zr n rm as st mc ms i c k := by
  simp only [Bool.and_eq_true, beq_iff_eq, Nat.ble_eq] at h
  obtain ⟨⟨⟨⟨⟨⟨⟨h1, h2⟩, h3⟩, h4⟩, h5⟩, h6⟩, h7⟩, h8⟩ := h
  exact ⟨⟨h1, h2⟩, h3, ⟨h4, h5⟩, h6, h7, h8⟩
theorem w_V {p : Program} {e : Env} {s : State} {m : MethodId} {args : Array Value} {below : List Frame} {meth : Method} {co : Code} {H : Heap} {locs : List Loc} {ls : Array Slot} (C : Cx G y cc nL ret p s m args meth co) (hW : Wd G w H) (hl : lv_has ls nL lv)
    (hM : Met (gl G) z (wsU z zc zL zr) rm (Pw G (.ref b :: as) w) Qc mc ms (gA G)) (hr : Rcv G w z.cls b) (hm : MOK z zc zL zr n) (hin : Cond.instanceMethod z ∈ gwT) (hse : Cond.selects z.cls z z ∈ gwT) (hlk : Cond.methodLink y.cls i z ∈ gwT) (hck : CK y R z zc zL zr n rm as st mc ms i c k) (hst : stk = as.reverse ++ .ref b :: st) (d : decode cc pc = .ok (.invokevirtual i, 3)) :
    va_Run p (gl G) e R s m args below meth co H locs c k mc ms (F0 m pc ls stk) st (Qc (Value.ref b :: as).toArray) (gA G) := by
  obtain ⟨h1, h2, h3, h4, h5, h6⟩ := hck
  have hts := C.2.2.2.2.1
  exact va_runV (As := as) (rest := st) (C := z.cls) ⟨C.1, C.2.1, C.2.2.1, C.2.2.2.1, hts⟩ hM ⟨callB_of n hts (gw_in hm.1) rfl h4 h5 (hts _ hm.2.1) (hts _ hlk) hm.2.2 h1, hts _ hin, hts _ hse⟩
    ⟨Pw.blind, hr.at hW C.2.2.2.2.2.2.1, fun U hU hV => ⟨rfl, by rw [hU]; exact hW, Ks.moved hV C.2.2.2.2.2.2.1⟩⟩ rfl h6 hl.1 hst (lv_room h2) d h3
theorem w_S {p : Program} {e : Env} {s : State} {m : MethodId} {args : Array Value} {below : List Frame} {meth : Method} {co : Code} {H : Heap} {locs : List Loc} {ls : Array Slot} (C : Cx G y cc nL ret p s m args meth co) (hW : Wd G w H) (hl : lv_has ls nL lv)
    (hM : Met (gl G) z (wsU z zc zL zr) rm (Pw G as w) Qc mc ms (gA G)) (hm : MOK z zc zL zr n) (hin : Cond.static z ∈ gwT) (hlk : Cond.methodLink y.cls i z ∈ gwT) (hck : CK y R z zc zL zr n rm as st mc ms i c k) (hst : stk = as.reverse ++ st) (d : decode cc pc = .ok (.invokestatic i, 3)) :
    va_Run p (gl G) e R s m args below meth co H locs c k mc ms (F0 m pc ls stk) st (Qc as.toArray) (gA G) := by
  obtain ⟨h1, h2, h3, h4, h5, h6⟩ := hck
  have hts := C.2.2.2.2.1
  exact va_runS (As := as) (rest := st) ⟨C.1, C.2.1, C.2.2.1, C.2.2.2.1, hts⟩ hM ⟨callB_of n hts (gw_in hm.1) rfl h4 h5 (hts _ hm.2.1) (hts _ hlk) hm.2.2 h1, hts _ hin⟩
    ⟨Pw.blind, fun U hU hV => ⟨rfl, by rw [hU]; exact hW, Ks.moved hV C.2.2.2.2.2.2.1⟩⟩ rfl h6 hl.1 hst (lv_room h2) d h3
theorem w_I {p : Program} {e : Env} {s : State} {m : MethodId} {args : Array Value} {below : List Frame} {meth : Method} {co : Code} {H : Heap} {locs : List Loc} {ls : Array Slot} (C : Cx G y cc nL ret p s m args meth co) (hW : Wd G w H) (hl : lv_has ls nL lv)
    (hM : Met (gl G) z (wsU z zc zL none) rm (Pw G (.ref b :: as) w) Qc mc ms (gA G)) (hm : MOK z zc zL none n) (hin : Cond.instanceMethod z ∈ gwT) (hnm : z.name = "<init>") (hlk : Cond.methodLink y.cls i z ∈ gwT) (hck : CK y R z zc zL none n rm as st mc ms i c k) (hst : stk = as.reverse ++ .ref b :: st) (d : decode cc pc = .ok (.invokespecial i, 3)) :
    va_Run p (gl G) e R s m args below meth co H locs c k mc ms (F0 m pc ls stk) st (Qc (Value.ref b :: as).toArray) (gA G) := by
  obtain ⟨h1, h2, h3, h4, h5, h6⟩ := hck
  have hts := C.2.2.2.2.1
  exact va_runI (As := as) (rest := st) ⟨C.1, C.2.1, C.2.2.1, C.2.2.2.1, hts⟩ hM ⟨callB_of n hts (gw_in hm.1) rfl h4 h5 (hts _ hm.2.1) (hts _ hlk) hm.2.2 h1, hnm, hts _ hin⟩
    ⟨Pw.blind, fun U hU hV => ⟨rfl, by rw [hU]; exact hW, Ks.moved hV C.2.2.2.2.2.2.1⟩⟩ rfl h6 hl.1 hst (lv_room h2) d h3
theorem w_N {p : Program} {e : Env} {s : State} {m : MethodId} {args : Array Value} {below : List Frame} {meth : Method} {co : Code} {H : Heap} {locs : List Loc} {ls : Array Slot} {host : String} (C : Cx G y cc nL ret p s m args meth co) (hW : Wd G w H) (hl : lv_has ls nL lv)
    (hM : Met (gl G) z (wsU z zc zL none) rm (Pw G (.ref b :: as) w) Qc mc ms (gA G)) (hm : MOK z zc zL none n) (hin : Cond.instanceMethod z ∈ gwT) (hnm : z.name = "<init>") (hlk : (y.cls, i, z, host) ∈ nestL) (hck : CK y R z zc zL none n rm as st mc ms i c k) (hst : stk = as.reverse ++ .ref b :: st) (d : decode cc pc = .ok (.invokespecial i, 3)) :
    va_Run p (gl G) e R s m args below meth co H locs c k mc ms (F0 m pc ls stk) st (Qc (Value.ref b :: as).toArray) (gA G) := by
  obtain ⟨h1, h2, h3, h4, h5, h6⟩ := hck
  have hts := C.2.2.2.2.1
  exact va_runIN (As := as) (rest := st) ⟨C.1, C.2.1, C.2.2.1, C.2.2.2.1, hts⟩ hM ⟨va_cnB n hts (gw_in hm.1) rfl h4 h5 (C.2.2.2.2.2.2.1.2.1 _ hlk) (hts _ hm.2.1) hm.2.2 h1, hnm, hts _ hin⟩
    ⟨Pw.blind, fun U hU hV => ⟨rfl, by rw [hU]; exact hW, Ks.moved hV C.2.2.2.2.2.2.1⟩⟩ rfl h6 hl.1 hst (lv_room h2) d h3
theorem w_ri {p : Program} {e : Env} {s : State} {m : MethodId} {args : Array Value} {below : List Frame} {meth : Method} {co : Code} {H : Heap} {locs : List Loc} {ls : Array Slot} {r : Int32} {av : Array Value} (C : Cx G y cc nL ret p s m args meth co) (hS : va_S (gA G) s.heap H locs) (hl : lv_has ls nL lv)
    (hr : va_Run p (gl G) e R s m args below meth co H locs c k mc ms (F0 m pc ls stk) st (va_Qi (fun (r' : Int32) (_ : Unit) => r' = r) (fun _ t => Wd G w' t.heap) (gA G) av) (gA G)) (hc : c + mc = c') (hk : k + ms = k') (hq : pc + 3 = q) (kk : V G y cc nL ret R Z w' c' k' q lv (.int r :: st)) : W p (gl G) e R s m args below meth co H locs c k (Z p e s m args below meth co) (F0 m pc ls stk) := by
  subst hc hk hq
  refine va_calli hr hS (fun q _ h => h) (fun q h => h) (fun r' u t H1 locs1 ht hvm hpost hB hz hk hS1 => ?_)
  subst hpost
  exact kk p e s m args below meth co H1 locs1 ls C (by rw [← ht]; exact hB) hS1 hl
theorem w_rv {p : Program} {e : Env} {s : State} {m : MethodId} {args : Array Value} {below : List Frame} {meth : Method} {co : Code} {H : Heap} {locs : List Loc} {ls : Array Slot} {av : Array Value} (C : Cx G y cc nL ret p s m args meth co) (hS : va_S (gA G) s.heap H locs) (hl : lv_has ls nL lv)
    (hr : va_Run p (gl G) e R s m args below meth co H locs c k mc ms (F0 m pc ls stk) st (va_Qv (fun (_ : Unit) => True) (fun _ t => Wd G w' t.heap) (gA G) av) (gA G)) (hc : c + mc = c') (hk : k + ms = k') (hq : pc + 3 = q) (kk : V G y cc nL ret R Z w' c' k' q lv st) : W p (gl G) e R s m args below meth co H locs c k (Z p e s m args below meth co) (F0 m pc ls stk) := by
  subst hc hk hq
  refine va_callv hr hS (fun q _ h => h) (fun q h => h) (fun u t H1 locs1 ht hvm hpost hB hz hk hS1 => ?_)
  exact kk p e s m args below meth co H1 locs1 ls C (by rw [← ht]; exact hB) hS1 hl
theorem w_rr {p : Program} {e : Env} {s : State} {m : MethodId} {args : Array Value} {below : List Frame} {meth : Method} {co : Code} {H : Heap} {locs : List Loc} {ls : Array Slot} {r : Nat} {av : Array Value} (C : Cx G y cc nL ret p s m args meth co) (hS : va_S (gA G) s.heap H locs) (hl : lv_has ls nL lv)
    (hr : va_Run p (gl G) e R s m args below meth co H locs c k mc ms (F0 m pc ls stk) st (va_Qr (fun (_ : Unit) => True) (fun _ a t => a = r ∧ Wd G w' t.heap) (gA G) av) (gA G)) (hc : c + mc = c') (hk : k + ms = k') (hq : pc + 3 = q) (kk : V G y cc nL ret R Z w' c' k' q lv (.ref r :: st)) : W p (gl G) e R s m args below meth co H locs c k (Z p e s m args below meth co) (F0 m pc ls stk) := by
  subst hc hk hq
  refine va_callr hr hS (fun q _ h => h) (fun q h => h) (fun u ra t H1 locs1 ht hvm hpost hB hz hk hS1 => ?_)
  obtain ⟨rfl, hB⟩ := hB
  exact kk p e s m args below meth co H1 locs1 ls C (by rw [← ht]; exact hB) hS1 hl
theorem v_Vi {r : Int32} (hM : Ci G z zc zL zr rm (.ref b :: as) w r w' mc ms) (hr : Rcv G w z.cls b) (hm : MOK z zc zL zr n) (hin : Cond.instanceMethod z ∈ gwT) (hse : Cond.selects z.cls z z ∈ gwT) (hlk : Cond.methodLink y.cls i z ∈ gwT) (hck : CK y R z zc zL zr n rm as st mc ms i c k) (hst : stk = as.reverse ++ .ref b :: st) (d : decode cc pc = .ok (.invokevirtual i, 3)) (hc : c + mc = c') (hk : k + ms = k') (hq : pc + 3 = q) (kk : V G y cc nL ret R Z w' c' k' q lv (.int r :: st)) : V G y cc nL ret R Z w c k pc lv stk := by
  intro p e s m args below meth co H locs ls C hW hS hl
  exact w_ri C hS hl (w_V C hW hl hM hr hm hin hse hlk hck hst d) hc hk hq kk
theorem v_Vv (hM : Cv G z zc zL zr rm (.ref b :: as) w w' mc ms) (hr : Rcv G w z.cls b) (hm : MOK z zc zL zr n) (hin : Cond.instanceMethod z ∈ gwT) (hse : Cond.selects z.cls z z ∈ gwT) (hlk : Cond.methodLink y.cls i z ∈ gwT) (hck : CK y R z zc zL zr n rm as st mc ms i c k) (hst : stk = as.reverse ++ .ref b :: st) (d : decode cc pc = .ok (.invokevirtual i, 3)) (hc : c + mc = c') (hk : k + ms = k') (hq : pc + 3 = q) (kk : V G y cc nL ret R Z w' c' k' q lv (st)) : V G y cc nL ret R Z w c k pc lv stk := by
  intro p e s m args below meth co H locs ls C hW hS hl
  exact w_rv C hS hl (w_V C hW hl hM hr hm hin hse hlk hck hst d) hc hk hq kk
theorem v_Vr {r : Nat} (hM : Cr G z zc zL zr rm (.ref b :: as) w r w' mc ms) (hr : Rcv G w z.cls b) (hm : MOK z zc zL zr n) (hin : Cond.instanceMethod z ∈ gwT) (hse : Cond.selects z.cls z z ∈ gwT) (hlk : Cond.methodLink y.cls i z ∈ gwT) (hck : CK y R z zc zL zr n rm as st mc ms i c k) (hst : stk = as.reverse ++ .ref b :: st) (d : decode cc pc = .ok (.invokevirtual i, 3)) (hc : c + mc = c') (hk : k + ms = k') (hq : pc + 3 = q) (kk : V G y cc nL ret R Z w' c' k' q lv (.ref r :: st)) : V G y cc nL ret R Z w c k pc lv stk := by
  intro p e s m args below meth co H locs ls C hW hS hl
  exact w_rr C hS hl (w_V C hW hl hM hr hm hin hse hlk hck hst d) hc hk hq kk
theorem v_Si {r : Int32} (hM : Ci G z zc zL zr rm as w r w' mc ms) (hm : MOK z zc zL zr n) (hin : Cond.static z ∈ gwT) (hlk : Cond.methodLink y.cls i z ∈ gwT) (hck : CK y R z zc zL zr n rm as st mc ms i c k) (hst : stk = as.reverse ++ st) (d : decode cc pc = .ok (.invokestatic i, 3)) (hc : c + mc = c') (hk : k + ms = k') (hq : pc + 3 = q) (kk : V G y cc nL ret R Z w' c' k' q lv (.int r :: st)) : V G y cc nL ret R Z w c k pc lv stk := by
  intro p e s m args below meth co H locs ls C hW hS hl
  exact w_ri C hS hl (w_S C hW hl hM hm hin hlk hck hst d) hc hk hq kk
theorem v_Sv (hM : Cv G z zc zL zr rm as w w' mc ms) (hm : MOK z zc zL zr n) (hin : Cond.static z ∈ gwT) (hlk : Cond.methodLink y.cls i z ∈ gwT) (hck : CK y R z zc zL zr n rm as st mc ms i c k) (hst : stk = as.reverse ++ st) (d : decode cc pc = .ok (.invokestatic i, 3)) (hc : c + mc = c') (hk : k + ms = k') (hq : pc + 3 = q) (kk : V G y cc nL ret R Z w' c' k' q lv (st)) : V G y cc nL ret R Z w c k pc lv stk := by
  intro p e s m args below meth co H locs ls C hW hS hl
  exact w_rv C hS hl (w_S C hW hl hM hm hin hlk hck hst d) hc hk hq kk
theorem v_Sr {r : Nat} (hM : Cr G z zc zL zr rm as w r w' mc ms) (hm : MOK z zc zL zr n) (hin : Cond.static z ∈ gwT) (hlk : Cond.methodLink y.cls i z ∈ gwT) (hck : CK y R z zc zL zr n rm as st mc ms i c k) (hst : stk = as.reverse ++ st) (d : decode cc pc = .ok (.invokestatic i, 3)) (hc : c + mc = c') (hk : k + ms = k') (hq : pc + 3 = q) (kk : V G y cc nL ret R Z w' c' k' q lv (.ref r :: st)) : V G y cc nL ret R Z w c k pc lv stk := by
  intro p e s m args below meth co H locs ls C hW hS hl
  exact w_rr C hS hl (w_S C hW hl hM hm hin hlk hck hst d) hc hk hq kk
theorem v_Iv (hM : Cv G z zc zL none rm (.ref b :: as) w w' mc ms) (hm : MOK z zc zL none n) (hin : Cond.instanceMethod z ∈ gwT) (hnm : z.name = "<init>") (hlk : Cond.methodLink y.cls i z ∈ gwT) (hck : CK y R z zc zL none n rm as st mc ms i c k) (hst : stk = as.reverse ++ .ref b :: st) (d : decode cc pc = .ok (.invokespecial i, 3)) (hc : c + mc = c') (hk : k + ms = k') (hq : pc + 3 = q) (kk : V G y cc nL ret R Z w' c' k' q lv (st)) : V G y cc nL ret R Z w c k pc lv stk := by
  intro p e s m args below meth co H locs ls C hW hS hl
  exact w_rv C hS hl (w_I C hW hl hM hm hin hnm hlk hck hst d) hc hk hq kk
theorem v_Nv (hM : Cv G z zc zL none rm (.ref b :: as) w w' mc ms) (hm : MOK z zc zL none n) (hin : Cond.instanceMethod z ∈ gwT) (hnm : z.name = "<init>") {host : String} (hlk : (y.cls, i, z, host) ∈ nestL) (hck : CK y R z zc zL none n rm as st mc ms i c k) (hst : stk = as.reverse ++ .ref b :: st) (d : decode cc pc = .ok (.invokespecial i, 3)) (hc : c + mc = c') (hk : k + ms = k') (hq : pc + 3 = q) (kk : V G y cc nL ret R Z w' c' k' q lv (st)) : V G y cc nL ret R Z w c k pc lv stk := by
  intro p e s m args below meth co H locs ls C hW hS hl
  exact w_rv C hS hl (w_N C hW hl hM hm hin hnm hlk hck hst d) hc hk hq kk
theorem v_obj {b : Nat} (hlk : Cond.methodLink y.cls i objectInit ∈ gwT) (hin : Cond.instanceMethod objectInit ∈ gwT) (hco : Cond.code objectInit ⟨#[0xb1]⟩ 1 none ∈ gwT) (hR : 1 ≤ R.frames) (hL : (st.map fun v => v.category).sum + 12 ≤ R.locals) (d : decode cc pc = .ok (.invokespecial i, 3)) (hq : pc + 3 = q) (kk : V G y cc nL ret R Z w c k q lv st) : V G y cc nL ret R Z w c k pc lv (.ref b :: st) := by
  subst hq
  intro p e s m args below meth co H locs ls C hW hS hl
  exact W.objInit C.1 C.2.1 C.2.2.2.1 (C.2.2.2.2.1 _ hlk) (C.2.2.2.2.1 _ hin) (C.2.2.2.2.1 _ hco) rfl (hl.1.trans C.2.2.1.symm) rfl d hR (by show 2 * 0 + _ + _ ≤ _; omega) (kk p e s m args below meth co H locs ls C hW hS hl)
theorem v_new {ci : Nat} {σ' : Hp} (hs : nw σ ci 0 = σ') (hci : ci < 13) (hcl : Cond.classLink y.cls i (cC ci) ∈ gwT) (hins : Cond.instantiable (cC ci) (cN ci) ∈ gwT) (hini : Cond.initialized (cC ci) ∈ gwT) (hR : c + 1 ≤ R.cells ∧ k + cN ci ≤ R.slots) (hc : c + 1 = c') (hk : k + cN ci = k') (d : decode cc pc = .ok (.new i, 3)) (hq : pc + 3 = q) (kk : V G y cc nL ret R Z (σ', μ, o) c' k' q lv (.ref (oN σ) :: st)) : V G y cc nL ret R Z (σ, μ, o) c k pc lv st := by
  subst hs hc hk hq
  intro p e s m args below meth co H locs ls C hW hS hl
  have hts := C.2.2.2.2.1
  have hKn := C.2.2.2.2.2.2.1.1.1 ci _ (c_at hci)
  have hz : H.size = oN σ := hW.1
  refine W.newcK C.1 C.2.1 C.2.2.2.1 (hts _ hcl) (hts _ hins) (hts _ hini) rfl d hR.1 hR.2 hKn.2.1 hz fun H1 kC hkC e1 z1 o1 => ?_
  refine kk p e s m args below meth co H1 locs ls C (hW.newc ?_ (by rw [z1, hz]) (fun q hq => o1 q (by omega))) ⟨Nat.le_trans hS.1 (by omega), fun x h1 h2 => (o1 x (by have := hS.1; omega)).trans (hS.2.1 x h1 h2), hS.2.2⟩ hl
  have hkk : oK (nw σ ci 0) (oN σ) = ci := va_up_self _ _ _
  unfold oAt
  rw [hz, hkk, if_pos hci]
  refine (u_born (cY ci) hts (c_in hci) hKn hkC e1 (c_ty hci)).to fun j hj => ?_
  unfold oF
  rw [hkk, oI_nw, oR_nw, va_up_self, va_up_self]
  cases hty : cY ci j <;> simp [isI, defaultValue, va_rf]
  all_goals exact absurd hty (c_pl hci hj _ (by decide))
theorem v_newI {n : Int32} {N : Nat} {σ' : Hp} (hs : nw σ 13 N = σ') (har : Cond.arrayClass .int ∈ gwT) (hn : ¬ n < 0) (hN : n.toNatClampNeg = N) (hby : N * 4 ≤ 536870912) (hR : c + 1 ≤ R.cells ∧ k + N ≤ R.slots) (hc : c + 1 = c') (hk : k + N = k') (d : decode cc pc = .ok (.newarray .int, 2)) (hq : pc + 2 = q) (kk : V G y cc nL ret R Z (σ', μ, o) c' k' q lv (.ref (oN σ) :: st)) : V G y cc nL ret R Z (σ, μ, o) c k pc lv (.int n :: st) := by
  subst hs hc hk hq
  intro p e s m args below meth co H locs ls C hW hS hl
  have hz : H.size = oN σ := hW.1
  refine va_newaK (atype := .int) C.1 C.2.1 (C.2.2.2.2.1 _ har) rfl d rfl hn hN hby hR.1 hR.2 hz fun H1 cA e1 z1 o1 hAr hNm => ?_
  have hcA : cA = gC G 0 := Option.some.inj (hNm.symm.trans (C.2.2.2.2.2.2.1.1.2 0 _ rfl).2)
  subst hcA
  refine kk p e s m args below meth co H1 locs ls C (hW.newc ?_ (by rw [z1, hz]) (fun q hq => o1 q (by omega))) ⟨Nat.le_trans hS.1 (by omega), fun x h1 h2 => (o1 x (by have := hS.1; omega)).trans (hS.2.1 x h1 h2), hS.2.2⟩ hl
  have hkk : oK (nw σ 13 N) (oN σ) = 13 := va_up_self _ _ _
  unfold oAt
  rw [hz, hkk, if_neg (by decide), e1, oZ_nw, va_up_self]
  congr 2
  funext j
  unfold oV
  rw [hkk, if_pos (by decide), oI_nw, va_up_self]
  rfl
theorem v_newZ {n : Int32} {N : Nat} {σ' : Hp} (hs : nw σ 14 N = σ') (har : Cond.arrayClass .boolean ∈ gwT) (hn : ¬ n < 0) (hN : n.toNatClampNeg = N) (hby : N * 1 ≤ 536870912) (hR : c + 1 ≤ R.cells ∧ k + N ≤ R.slots) (hc : c + 1 = c') (hk : k + N = k') (d : decode cc pc = .ok (.newarray .boolean, 2)) (hq : pc + 2 = q) (kk : V G y cc nL ret R Z (σ', μ, o) c' k' q lv (.ref (oN σ) :: st)) : V G y cc nL ret R Z (σ, μ, o) c k pc lv (.int n :: st) := by
  subst hs hc hk hq
  intro p e s m args below meth co H locs ls C hW hS hl
  have hz : H.size = oN σ := hW.1
  refine va_newaK (atype := .boolean) C.1 C.2.1 (C.2.2.2.2.1 _ har) rfl d rfl hn hN hby hR.1 hR.2 hz fun H1 cA e1 z1 o1 hAr hNm => ?_
  have hcA : cA = gC G 1 := Option.some.inj (hNm.symm.trans (C.2.2.2.2.2.2.1.1.2 1 _ rfl).2)
  subst hcA
  refine kk p e s m args below meth co H1 locs ls C (hW.newc ?_ (by rw [z1, hz]) (fun q hq => o1 q (by omega))) ⟨Nat.le_trans hS.1 (by omega), fun x h1 h2 => (o1 x (by have := hS.1; omega)).trans (hS.2.1 x h1 h2), hS.2.2⟩ hl
  have hkk : oK (nw σ 14 N) (oN σ) = 14 := va_up_self _ _ _
  unfold oAt
  rw [hz, hkk, if_neg (by decide), e1, oZ_nw, va_up_self]
  congr 2
  funext j
  unfold oV
  rw [hkk, if_pos (by decide), oI_nw, va_up_self]
  rfl
theorem v_newR {n : Int32} {N kd : Nat} {C : String} {σ' : Hp} (hs : nw σ kd N = σ') (hcl : Cond.classLink y.cls i C ∈ gwT) (hC : C ∈ aoL) (h15 : 15 ≤ kd) (h20 : kd < 20) (ht : (tysG G)[kd - 13]? = some (gC G (kd - 13), .object C)) (hn : ¬ n < 0) (hN : n.toNatClampNeg = N) (hby : N * 4 ≤ 536870912) (hR : c + 1 ≤ R.cells ∧ k + N ≤ R.slots) (hc : c + 1 = c') (hk : k + N = k') (d : decode cc pc = .ok (.anewarray i, 3)) (hq : pc + 3 = q) (kk : V G y cc nL ret R Z (σ', μ, o) c' k' q lv (.ref (oN σ) :: st)) : V G y cc nL ret R Z (σ, μ, o) c k pc lv (.int n :: st) := by
  subst hs hc hk hq hN
  intro p e s m args below meth co H locs ls C hW hS hl
  have hz : H.size = oN σ := hW.1
  refine W.anew C.1 C.2.1 C.2.2.2.1 (C.2.2.2.2.1 _ hcl) (va_AO.use (C.2.2.2.2.2.2.1.2.2.1 _ hC)) rfl d rfl hn hby hR.1 hR.2 fun cA kA comp f1 f2 f3 f4 => ?_
  obtain ⟨kA', comp', -, -, -, u4⟩ := (C.2.2.2.2.2.2.1.1.2 _ _ ht).2
  have hcA : cA = gC G (kd - 13) := Option.some.inj (f1.symm.trans u4)
  subst hcA
  generalize hH1 : H.push ({ cls := gC G (kd - 13), slots := Array.replicate n.toNatClampNeg .null, vm := .none } : Cell) = H1
  have z1 : H1.size = H.size + 1 := by rw [← hH1, Array.size_push]
  have e1 : H1[H.size]? = some (arrV (gC G (kd - 13)) n.toNatClampNeg (fun _ => .null)) := by rw [← hH1, Array.getElem?_push_size, ← arrV_new]
  have o1 : ∀ q : Nat, q < H.size → H1[q]? = H[q]? := fun q hq => by rw [← hH1, Array.getElem?_push, if_neg (Nat.ne_of_lt hq)]
  rw [hz]
  refine kk p e s m args below meth co H1 locs ls C (hW.newc ?_ z1 o1) ⟨Nat.le_trans hS.1 (by omega), fun x h1 h2 => (o1 x (by have := hS.1; omega)).trans (hS.2.1 x h1 h2), hS.2.2⟩ hl
  have hkk : oK (nw σ kd n.toNatClampNeg) H.size = kd := by rw [hz]; exact va_up_self _ _ _
  unfold oAt
  rw [hkk, if_neg (by omega), e1, hz, oZ_nw, va_up_self]
  congr 2
  funext j
  unfold oV
  rw [← hz, hkk, if_neg (by omega), hz, oR_nw, va_up_self]
  rfl
theorem v_cp {a0 a : Nat} {sp dp n : Int32} {σ' : Hp} (hx : h_cp σ a0 a sp dp n = some σ') (hlk : Cond.methodLink y.cls i arraycopyName ∈ gwT) (hnat : Cond.native arraycopyName ∈ gwT) (hstat : Cond.static arraycopyName ∈ gwT) (hini : Cond.initialized "java/lang/System" ∈ gwT) (hR : 1 ≤ R.frames) (hL : (st.map fun v => v.category).sum + (nativeFrameWords "java/lang/System" "arraycopy" 5 + 11) ≤ R.locals) (d : decode cc pc = .ok (.invokestatic i, 3)) (hq : pc + 3 = q) (kk : V G y cc nL ret R Z (σ', μ, o) c k q lv st) : V G y cc nL ret R Z (σ, μ, o) c k pc lv (.int n :: .int dp :: .ref a :: .int sp :: .ref a0 :: st) := by
  subst hq
  intro p e s m args below meth co H locs ls C hW hS hl
  obtain ⟨⟨⟨hK0, hK1⟩, ⟨h1, h2, h3⟩, h4, h5⟩, rfl⟩ := o_i hx
  have hts := C.2.2.2.2.1
  have nn : ∀ z : Int32, ¬ z < 0 → z.toInt = (z.toNatClampNeg : Int) := by
    intro z hz
    have hz0 : (0 : Int) ≤ z.toInt := by
      have := Int32.not_lt.mp hz
      simpa using Int32.le_iff_toInt_le.mp this
    show z.toInt = ((z.toInt.toNat : Nat) : Int)
    omega
  intro T hT X
  have hv0 : oV σ a0 = fun j => .int (oI σ a0 j) := by funext j; unfold oV; rw [hK0, if_pos (by decide)]
  have hv1 : oV σ a = fun j => .int (oI σ a j) := by funext j; unfold oV; rw [hK1, if_pos (by decide)]
  have hc0 : H[a0]? = some (vp_cell (gC G 0) (oZ σ a0, .inl (oI σ a0))) := by rw [vp_cell_i, ← hv0]; exact hW.arr hK0 (by decide) (by decide)
  have hc1 : H[a]? = some (vp_cell (gC G 0) (oZ σ a, .inl (oI σ a))) := by rw [vp_cell_i, ← hv1]; exact hW.arr hK1 (by decide) (by decide)
  have hT0 := (C.2.2.2.2.2.2.1.1.2 0 _ rfl).1
  obtain ⟨-, k0, hk0, cm0, hkk0⟩ := hT0 (oZ σ a0) (fun j => .int (oI σ a0 j))
  obtain ⟨-, k1, hk1, cm1, hkk1⟩ := hT0 (oZ σ a) (fun j => .int (oI σ a j))
  obtain ⟨vm', X', step⟩ := X.arraycopy C.1 C.2.2.2.1 (hts _ hlk) (hts _ hnat) (hts _ hstat) (hts _ hini) (src := a0) (dst := a) (cs := vp_cell (gC G 0) (oZ σ a0, .inl (oI σ a0))) (cd := vp_cell (gC G 0) (oZ σ a, .inl (oI σ a))) (srcPos := sp) (destPos := dp) (n := n) (by rw [hT]; exact hc0) (by rw [hT]; exact hc1)
    (fun _ h => by cases h) (fun _ h => by cases h) (fun h => by cases h) (fun h => by cases h) hk0 hk1 hkk0 hkk1 (by simp [refKind]) h1 h2 h3
    (by rw [nn sp h1, nn n h3]; show ¬ _ > ((arrV (gC G 0) (oZ σ a0) (fun j => .int (oI σ a0 j))).slots.size : Int); rw [arrV_size]; omega)
    (by rw [nn dp h2, nn n h3]; show ¬ _ > ((arrV (gC G 0) (oZ σ a) (fun j => .int (oI σ a j))).slots.size : Int); rw [arrV_size]; omega)
    (fun vm₁ _ i hi => by
      have e : (vp_cell (gC G 0) (oZ σ a0, .inl (oI σ a0))).slots.getD (sp.toNatClampNeg + i) .null = .int (oI σ a0 (sp.toNatClampNeg + i)) := by
        show (arrV (gC G 0) (oZ σ a0) (fun j => .int (oI σ a0 j))).slots.getD _ _ = _
        rw [Array.getD_eq_getD_getElem?, arrV_read _ _ (by omega)]
        rfl
      refine ⟨?_, ?_⟩
      · rw [e]
        rfl
      · rw [e]
        exact trivial)
    (g := F0 m pc ls (.int n :: .int dp :: .ref a :: .int sp :: .ref a0 :: st)) rfl (by rw [C.2.2.1]; exact hl.1) (rest := st) rfl (by rw [C.2.1]; exact d) hR (by show 2 * 0 + _ + _ ≤ _; omega)
  have e1 : copied (vp_cell (gC G 0) (oZ σ a0, .inl (oI σ a0))) (vp_cell (gC G 0) (oZ σ a, .inl (oI σ a))) sp dp n = vp_cell (gC G 0) (oZ σ a, .inl (va_cpy (oI σ a0) (oI σ a) sp.toNatClampNeg dp.toNatClampNeg n.toNatClampNeg)) := va_copied (fun z => .int z) (gC G 0) (gC G 0) (oI σ a0) (oI σ a) h4
  rw [e1] at X' step
  generalize hCell : vp_cell (gC G 0) (oZ σ a, .inl (va_cpy (oI σ a0) (oI σ a) sp.toNatClampNeg dp.toNatClampNeg n.toNatClampNeg)) = cell9 at X' step
  have hlt : a < H.size := (Array.getElem?_eq_some_iff.mp hc1).1
  have hheap : ((T.setVm vm').setCell a cell9).heap = H.setIfInBounds a cell9 := by rw [← hT]; rfl
  have oq : ∀ q : Nat, q ≠ a → (H.setIfInBounds a cell9)[q]? = H[q]? := fun q hq => by simp [Array.getElem?_setIfInBounds, Ne.symm hq]
  have hAa : gA G a := (hW.2.1 a (by show oK σ a ≠ 99; omega)).1
  have hz : (H.setIfInBounds a cell9).size = H.size := by simp
  obtain ⟨t, a1, b1⟩ := kk p e s m args below meth co (H.setIfInBounds a cell9) _ ls C (hW.up (σ' := sC σ a0 a sp.toNatClampNeg dp.toNatClampNeg n.toNatClampNeg) rfl rfl rfl a (by omega) (fun b hb => ⟨va_up_ne _ _ hb, rfl⟩) (by
      have hK2 : oK (sC σ a0 a sp.toNatClampNeg dp.toNatClampNeg n.toNatClampNeg) a = 13 := hK1
      unfold oAt
      rw [hK2, if_neg (by decide)]
      have hg : (H.setIfInBounds a cell9)[a]? = some cell9 := by simp [Array.getElem?_setIfInBounds, hlt]
      rw [hg, ← hCell, vp_cell_i]
      congr 2
      funext j
      unfold oV
      rw [hK2, if_pos (by decide), oI_sC, va_up_self]) hz oq) ⟨by rw [hz]; exact hS.1, fun q g1 g2 => by
      rw [oq q (fun e => g2 (by rw [e]; exact hAa))]
      exact hS.2.1 q g1 g2, fun q hq => by
      rcases List.mem_append.mp hq with h | h
      · exact hS.2.2 q h
      · obtain ⟨z, -, hz⟩ := List.mem_map.mp h
        rw [← hz]
        exact hAa⟩ hl _ hheap X'
  exact ⟨t, step t a1, b1⟩
/-- rows of a length that is not written: at most cap -/
theorem v_newIv {n : Int32} {cap : Nat} {σ' : Hp} (hL : h_len n cap = some ()) (hs : nw σ 13 n.toNatClampNeg = σ') (har : Cond.arrayClass .int ∈ gwT) (hby : cap * 4 ≤ 536870912) (hR : c + 1 ≤ R.cells ∧ k + cap ≤ R.slots) (hc : c + 1 = c') (hk : k + cap = k') (d : decode cc pc = .ok (.newarray .int, 2)) (hq : pc + 2 = q) (kk : V G y cc nL ret R Z (σ', μ, o) c' k' q lv (.ref (oN σ) :: st)) : V G y cc nL ret R Z (σ, μ, o) c k pc lv (.int n :: st) := by
  obtain ⟨⟨h1, h2⟩, -⟩ := o_i hL
  refine v_newI (c' := c') (k' := k + n.toNatClampNeg) hs har h1 rfl (by omega) ⟨hR.1, by omega⟩ hc rfl d hq ?_
  exact v_wid (Nat.le_refl _) (by omega) kk
theorem v_newRv {n : Int32} {cap kd : Nat} {C : String} {σ' : Hp} (hL : h_len n cap = some ()) (hs : nw σ kd n.toNatClampNeg = σ') (hcl : Cond.classLink y.cls i C ∈ gwT) (hC : C ∈ aoL) (h15 : 15 ≤ kd) (h20 : kd < 20) (ht : (tysG G)[kd - 13]? = some (gC G (kd - 13), .object C)) (hby : cap * 4 ≤ 536870912) (hR : c + 1 ≤ R.cells ∧ k + cap ≤ R.slots) (hc : c + 1 = c') (hk : k + cap = k') (d : decode cc pc = .ok (.anewarray i, 3)) (hq : pc + 3 = q) (kk : V G y cc nL ret R Z (σ', μ, o) c' k' q lv (.ref (oN σ) :: st)) : V G y cc nL ret R Z (σ, μ, o) c k pc lv (.int n :: st) := by
  obtain ⟨⟨h1, h2⟩, -⟩ := o_i hL
  refine v_newR (c' := c') (k' := k + n.toNatClampNeg) hs hcl hC h15 h20 ht h1 rfl (by omega) ⟨hR.1, by omega⟩ hc rfl d hq ?_
  exact v_wid (Nat.le_refl _) (by omega) kk
theorem ck2 (hf : (Nat.ble (rm.frames + 1) R.frames && Nat.ble (8 + (zL + 11) + rm.locals) R.locals && Nat.ble ((st.map fun v => v.category).sum) 8 && (rm.cells == mc) && (rm.slots == ms) && (as.length == n)) = true) (hc : c + mc ≤ R.cells) (hk : k + ms ≤ R.slots) : CK y R z zc zL zr n rm as st mc ms i c k := by
  simp only [Bool.and_eq_true, beq_iff_eq, Nat.ble_eq] at hf
  obtain ⟨⟨⟨⟨⟨h1, h2⟩, h3⟩, h6⟩, h7⟩, h8⟩ := hf
  exact ⟨⟨h1, h2⟩, h3, ⟨hc, hk⟩, h6, h7, h8⟩
end VCALL
