/-! methods that return or throw: the answer is a code (0: returned; else the place of the exception's class in excL, and one), a value, a state -/
def oSN (σ : Hp) (n : Nat) : Hp := (oK σ, oZ σ, oI σ, oR σ, n)
abbrev Xr : Type := Nat × Int32 × Hp
theorem Wd.grow {G : Gm} {σ : Hp} {μ : Mu} {o : Int64} {H H1 : Heap} (hW : Wd G (σ, μ, o) H) (z : H.size ≤ H1.size) (oq : ∀ q, q < H.size → H1[q]? = H[q]?) : Wd G (oSN σ H1.size, μ, o) H1 := by
  obtain ⟨w1, w2, w3, w4, w5, w6⟩ := hW
  have w1' : H.size = oN σ := w1
  refine ⟨rfl, fun b hb => ?_, fun j hj => ?_, w4, fun b hb => ?_, by omega⟩
  · obtain ⟨u1, u2, u3⟩ := w2 b hb
    have u2' : b < oN σ := u2
    exact ⟨u1, by show b < H1.size; omega, oAt_congr rfl rfl rfl rfl (oq b (by omega)) u3⟩
  · obtain ⟨x1, x2, x3⟩ := w3 j hj
    exact ⟨x1, x2, mAt_kept (oq _ (mAt_lt x3)) x3⟩
  · exact (oq b (by omega)).trans (w5 b hb)
theorem Wd.sn {G : Gm} {σ : Hp} {μ : Mu} {o : Int64} {H : Heap} (hW : Wd G (σ, μ, o) H) : Wd G (oSN σ (oN σ), μ, o) H := hW
def qXi (G : Gm) (x : Xr) (μ : Mu) (o : Int64) : Array Value → State → Outcome → State → Prop := va_Qi (fun (r' : Int32) (_ : Unit) => x.1 = 0 ∧ r' = x.2.1) (fun _ t => Wd G (x.2.2, μ, o) t.heap) (gA G)
def qXv (G : Gm) (x : Xr) (μ : Mu) (o : Int64) : Array Value → State → Outcome → State → Prop := va_Qv (fun (_ : Unit) => x.1 = 0) (fun _ t => Wd G (x.2.2, μ, o) t.heap) (gA G)
def xcX (G : Gm) (x : Xr) (μ : Mu) (o : Int64) : String → State → State → Prop := vx_X (fun n' : Nat => 1 ≤ x.1 ∧ oN x.2.2 ≤ n') (fun E n' t => excL[x.1 - 1]? = some E ∧ Wd G (oSN x.2.2 n', μ, o) t.heap) (gA G)
def Xi (G : Gm) (y : MethodName) (cc : ByteArray) (nL : Nat) (ret : Option FieldType) (rm : Room) (as : List Value) (w : Wt) (x : Xr) (μ : Mu) (o : Int64) (mc ms : Nat) : Prop := vx_Met (gl G) y (wsU y cc nL ret) rm (Pw G as w) (qXi G x μ o) (xcX G x μ o) mc ms (gA G)
def Xv (G : Gm) (y : MethodName) (cc : ByteArray) (nL : Nat) (ret : Option FieldType) (rm : Room) (as : List Value) (w : Wt) (x : Xr) (μ : Mu) (o : Int64) (mc ms : Nat) : Prop := vx_Met (gl G) y (wsU y cc nL ret) rm (Pw G as w) (qXv G x μ o) (xcX G x μ o) mc ms (gA G)
def zXi (G : Gm) (x : Xr) (μ : Mu) (o : Int64) (mc ms : Nat) : ZT := fun _ _ s _ args below _ _ => vx_MQ below (qXi G x μ o) (xcX G x μ o) args s mc ms (gA G)
def zXv (G : Gm) (x : Xr) (μ : Mu) (o : Int64) (mc ms : Nat) : ZT := fun _ _ s _ args below _ _ => vx_MQ below (qXv G x μ o) (xcX G x μ o) args s mc ms (gA G)
theorem x_ofW {G : Gm} {y : MethodName} {cc : ByteArray} {nL : Nat} {ret : Option FieldType} {rm : Room} {as : List Value} {w : Wt} {Qc : Array Value → State → Outcome → State → Prop} {XC : String → State → State → Prop} {mc ms : Nat} (hn : plainName y.cls = true) (hlen : (lg_sl as).length ≤ nL) (lv : List (Nat × Value)) (hlv : lv_args 0 as = lv)
    (h : V G y cc nL ret rm (fun _ _ s _ args below _ _ => vx_MQ below Qc XC args s mc ms (gA G)) w 0 0 0 lv []) : vx_Met (gl G) y (wsU y cc nL ret) rm (Pw G as w) Qc XC mc ms (gA G) := by
  subst hlv
  refine vx_ofW (cc := cc) (maxL := nL) (ret := ret) hn rfl ?_
  intro p e s m args below meth c s₁ B hml ht hv
  obtain ⟨rfl, hW, hK⟩ := hv
  have hts := atoms_spec (ws := wsU y cc nL ret) B.pre
  have hl := lv_entry as (n := nL) hlen
  rw [lg_entry_eq]
  exact h p e s m _ below meth c s.heap [] _ ⟨B.exec, B.bytes, hml, findClass_of_methodNamed B.named, fun w hw => hts w (List.mem_cons_of_mem _ hw), B.notSynchronized, hK, hW.2.2.2.2.2, B.returns, (name_of_methodNamed B.named B.method).1, B.named, B.method, (Stand.of_body B).code⟩ hW va_S.rf hl
theorem x_entI {G : Gm} {y : MethodName} {cc : ByteArray} {nL : Nat} {ret : Option FieldType} {rm : Room} {as : List Value} {w : Wt} {x : Xr} {μ : Mu} {o : Int64} {mc ms : Nat} (lv : List (Nat × Value)) (hn : plainName y.cls = true) (hlen : (lg_sl as).length ≤ nL) (hlv : lv_args 0 as = lv) (h : V G y cc nL ret rm (zXi G x μ o mc ms) w 0 0 0 lv []) : Xi G y cc nL ret rm as w x μ o mc ms := x_ofW hn hlen lv hlv h
theorem x_entV {G : Gm} {y : MethodName} {cc : ByteArray} {nL : Nat} {ret : Option FieldType} {rm : Room} {as : List Value} {w : Wt} {x : Xr} {μ : Mu} {o : Int64} {mc ms : Nat} (lv : List (Nat × Value)) (hn : plainName y.cls = true) (hlen : (lg_sl as).length ≤ nL) (hlv : lv_args 0 as = lv) (h : V G y cc nL ret rm (zXv G x μ o mc ms) w 0 0 0 lv []) : Xv G y cc nL ret rm as w x μ o mc ms := x_ofW hn hlen lv hlv h
section VEXC
variable {G : Gm} {y : MethodName} {cc : ByteArray} {nL : Nat} {ret : Option FieldType} {R : Room} {Z : ZT} {w : Wt} {σ : Hp} {μ : Mu} {o : Int64} {c k c' k' pc q : Nat} {lv : List (Nat × Value)} {st stk : List Value} {x : Xr} {mc ms : Nat}
theorem x_iret {r : Int32} {ty : FieldType} (hx : x = (0, r, σ)) (hr : ret = some ty) (hn : narrow ty (.int r) = .int r) (hc : c ≤ mc) (hk : k ≤ ms) (d : decode cc pc = .ok (.ireturn, 1)) : V G y cc nL ret R (zXi G x μ o mc ms) (σ, μ, o) c k pc lv [.int r] := by
  subst hx
  intro p e s m args below meth co H locs ls C hW hS hl
  refine W.widen (k := mc) (n := ms) hc hk ?_
  refine vx_ret ?_
  exact W.zret (v := r) C.1 C.2.1 (C.2.2.2.2.2.2.2.2.1.trans hr) hn (fun t ht hV => ⟨⟨r, (), rfl, ⟨rfl, rfl⟩, by show Wd G _ t.heap; rw [ht]; exact hW⟩, hS.F ht⟩) hS.2.2 d (hlocks := C.2.2.2.2.2.1)
theorem x_vret (hx : x = (0, 0, σ)) (hr : ret = none) (hc : c ≤ mc) (hk : k ≤ ms) (d : decode cc pc = .ok (.return_, 1)) : V G y cc nL ret R (zXv G x μ o mc ms) (σ, μ, o) c k pc lv [] := by
  subst hx
  intro p e s m args below meth co H locs ls C hW hS hl
  refine W.widen (k := mc) (n := ms) hc hk ?_
  refine vx_ret ?_
  exact W.vret C.1 C.2.1 (C.2.2.2.2.2.2.2.2.1.trans hr) (fun t ht hV => ⟨⟨(), rfl, rfl, by show Wd G _ t.heap; rw [ht]; exact hW⟩, hS.F ht⟩) hS.2.2 d (hlocks := C.2.2.2.2.2.1)
def excN : List String := ["java/lang/RuntimeException", "java/lang/Exception"]
/-- the words of 'throw new E("text")' in the class, but those that KT gives -/
def TW (ic : Nat) (E : String) : Prop := (∀ w ∈ (vx_atS RX11 ic E excN).filter goodWord, w ∈ gwT) ∧ (∀ w ∈ (vx_atS RX11 ic E excN).filter (fun w => !goodWord w), w ∈ Cond.castable E E :: declL.map Cond.declares) ∧ (∀ ik, ∀ w ∈ Cond.classLink RX11 ik E :: Cond.initialized E :: vx_atS RX11 ic E excN, vx_ot w = true) ∧ Bundle.fit E = true ∧ E ∈ excL
theorem w_throw {XC : String → State → State → Prop} {Qc : Array Value → State → Outcome → State → Prop} {p : Program} {e : Env} {s : State} {m : MethodId} {args : Array Value} {below : List Frame} {meth : Method} {co : Code} {H : Heap} {locs : List Loc} {ls : Array Slot} {ik is ic : Nat} {E text : String} (C : Cx G y cc nL ret p s m args meth co) (hW : Wd G w H) (hS : va_S (gA G) s.heap H locs) (hl : lv_has ls nL lv) (hco : Cond.code y cc nL ret ∈ gwT) (hy : y.cls = RX11) (hTW : TW ic E) (hk0 : Cond.classLink RX11 ik E ∈ gwT) (hini : Cond.initialized E ∈ gwT) (hstr : (is, text) ∈ strL)
    (d0 : decode cc pc = .ok (.new ik, 3)) (d3 : decode cc (pc + 3) = .ok (.dup, 1)) (d4 : decode cc (pc + 4) = .ok (.ldc is, 2)) (d6 : decode cc (pc + 6) = .ok (.invokespecial ic, 3)) (d9 : decode cc (pc + 9) = .ok (.athrow, 1))
    (hRf : 5 < R.frames) (hRl : (st.map fun v => v.category).sum + 82 ≤ R.locals) (hRc : c + 1 ≤ R.cells) (hRs : k + 6 ≤ R.slots) (hc : c + 1 ≤ mc) (hk : k + 6 ≤ ms)
    (hX : ∀ t : State, s.vm.Alike t.vm → H.size ≤ t.heap.size → (∀ q : Nat, q < H.size → t.heap[q]? = H[q]?) → XC E s t) : W p (gl G) e R s m args below meth co H locs c k (vx_MQ below Qc XC args s mc ms (gA G)) (F0 m pc ls st) := by
  have hKT := C.2.2.2.2.2.2.1.2.2.2
  have hts := C.2.2.2.2.1
  obtain ⟨sa, hsa⟩ := hKT.1 _ hstr
  obtain ⟨t1, t2, t3, t4, t5⟩ := hTW
  have hH : ∀ a : Nat, a < (gH G).size → ¬ gA G a → s.heap[a]? = (gH G)[a]? := fun a _ ha => by
    have h1 : a < gB G := Nat.lt_of_not_le ha
    have h2 := hW.2.2.2.2.1 a h1
    have h3 := hS.2.1 a (Nat.lt_of_lt_of_le h1 C.2.2.2.2.2.2.2.1) ha
    rw [← h3]; exact h2
  have htab : co.exceptionTable.toList = [] := by
    obtain ⟨b1, b2, b3⟩ := C.2.2.2.2.2.2.2.2.2.2
    obtain ⟨meth9, c9, h1, h2, -, -, -, -, h7, -⟩ := Cond.code_spec b1 (hts _ hco)
    cases Option.some.inj (h1.symm.trans b2)
    cases Option.some.inj (h2.symm.trans b3)
    rw [Array.isEmpty_iff.mp h7]
  refine vx_throwS (names := excN) (sa := sa) (text := text) C.1 C.2.1 hKT.2.2.2.2.2.2 (own := RX11) (by rw [← hy]; exact C.2.2.2.1) t4 (by decide +kernel) (hts _ hk0) (hts _ hini) hsa ?_ (t3 ik) (hKT.2.1.kept hH) (hKT.2.2.1.kept hH) hS (hl.1.trans C.2.2.1.symm) d0 d3 d4 d6 d9 (fun x hx => by rw [htab] at hx; cases hx) (by show 2 + 3 < _; exact hRf) (by show _ + (13 * (2 + 1) + 43) ≤ _; exact hRl) hRc hRs C.2.2.2.2.2.1 hX hS.2.2 hc hk
  refine vx_hat (fun w hw => hts _ (t1 w hw)) t2 (fun w hw => ?_)
  rcases List.mem_cons.mp hw with rfl | hw
  · exact va_Nw.use rfl (hKT.2.2.2.2.1 E t5)
  · obtain ⟨x, hx, rfl⟩ := List.mem_map.mp hw
    exact va_Nw.use rfl (hKT.2.2.2.1 x hx)
theorem x_throwI {ik is ic code : Nat} {E text : String} (hx : x = (code, 0, σ)) (h1 : 1 ≤ code) (hE : excL[code - 1]? = some E) (hco : Cond.code y cc nL ret ∈ gwT) (hy : y.cls = RX11) (hTW : TW ic E) (hk0 : Cond.classLink RX11 ik E ∈ gwT) (hini : Cond.initialized E ∈ gwT) (hstr : (is, text) ∈ strL)
    (d0 : decode cc pc = .ok (.new ik, 3)) (d3 : decode cc (pc + 3) = .ok (.dup, 1)) (d4 : decode cc (pc + 4) = .ok (.ldc is, 2)) (d6 : decode cc (pc + 6) = .ok (.invokespecial ic, 3)) (d9 : decode cc (pc + 9) = .ok (.athrow, 1))
    (hRf : 5 < R.frames) (hRl : (st.map fun v => v.category).sum + 82 ≤ R.locals) (hRc : c + 1 ≤ R.cells) (hRs : k + 6 ≤ R.slots) (hc : c + 1 ≤ mc) (hk : k + 6 ≤ ms) : V G y cc nL ret R (zXi G x μ o mc ms) (σ, μ, o) c k pc lv st := by
  subst hx
  intro p e s m args below meth co H locs ls C hW hS hl
  refine w_throw C hW hS hl hco hy hTW hk0 hini hstr d0 d3 d4 d6 d9 hRf hRl hRc hRs hc hk (fun t hv hz hq => ?_)
  exact ⟨t.heap.size, ⟨h1, by rw [← (show H.size = oN σ from hW.1)]; exact hz⟩, ⟨hE, hW.grow hz hq⟩, ⟨Nat.le_trans hS.1 hz, fun q h1 h2 => (hq q (Nat.lt_of_lt_of_le h1 hS.1)).trans (hS.2.1 q h1 h2)⟩⟩
theorem x_throwV {ik is ic code : Nat} {E text : String} (hx : x = (code, 0, σ)) (h1 : 1 ≤ code) (hE : excL[code - 1]? = some E) (hco : Cond.code y cc nL ret ∈ gwT) (hy : y.cls = RX11) (hTW : TW ic E) (hk0 : Cond.classLink RX11 ik E ∈ gwT) (hini : Cond.initialized E ∈ gwT) (hstr : (is, text) ∈ strL)
    (d0 : decode cc pc = .ok (.new ik, 3)) (d3 : decode cc (pc + 3) = .ok (.dup, 1)) (d4 : decode cc (pc + 4) = .ok (.ldc is, 2)) (d6 : decode cc (pc + 6) = .ok (.invokespecial ic, 3)) (d9 : decode cc (pc + 9) = .ok (.athrow, 1))
    (hRf : 5 < R.frames) (hRl : (st.map fun v => v.category).sum + 82 ≤ R.locals) (hRc : c + 1 ≤ R.cells) (hRs : k + 6 ≤ R.slots) (hc : c + 1 ≤ mc) (hk : k + 6 ≤ ms) : V G y cc nL ret R (zXv G x μ o mc ms) (σ, μ, o) c k pc lv st := by
  subst hx
  intro p e s m args below meth co H locs ls C hW hS hl
  refine w_throw C hW hS hl hco hy hTW hk0 hini hstr d0 d3 d4 d6 d9 hRf hRl hRc hRs hc hk (fun t hv hz hq => ?_)
  exact ⟨t.heap.size, ⟨h1, by rw [← (show H.size = oN σ from hW.1)]; exact hz⟩, ⟨hE, hW.grow hz hq⟩, ⟨Nat.le_trans hS.1 hz, fun q h1 h2 => (hq q (Nat.lt_of_lt_of_le h1 hS.1)).trans (hS.2.1 q h1 h2)⟩⟩
theorem tw85 : TW 85 "java/lang/IndexOutOfBoundsException" := ⟨by decide +kernel, by decide +kernel, fun ik w hw => by
  rcases List.mem_cons.mp hw with rfl | hw
  · rfl
  · rcases List.mem_cons.mp hw with rfl | hw
    · rfl
    · exact List.all_eq_true.mp (show (vx_atS RX11 85 "java/lang/IndexOutOfBoundsException" excN).all vx_ot = true by decide +kernel) w hw, by decide +kernel, by decide +kernel⟩
theorem tw92 : TW 92 "java/lang/IllegalArgumentException" := ⟨by decide +kernel, by decide +kernel, fun ik w hw => by
  rcases List.mem_cons.mp hw with rfl | hw
  · rfl
  · rcases List.mem_cons.mp hw with rfl | hw
    · rfl
    · exact List.all_eq_true.mp (show (vx_atS RX11 92 "java/lang/IllegalArgumentException" excN).all vx_ot = true by decide +kernel) w hw, by decide +kernel, by decide +kernel⟩
theorem tw100 : TW 100 "java/lang/IllegalStateException" := ⟨by decide +kernel, by decide +kernel, fun ik w hw => by
  rcases List.mem_cons.mp hw with rfl | hw
  · rfl
  · rcases List.mem_cons.mp hw with rfl | hw
    · rfl
    · exact List.all_eq_true.mp (show (vx_atS RX11 100 "java/lang/IllegalStateException" excN).all vx_ot = true by decide +kernel) w hw, by decide +kernel, by decide +kernel⟩
/-- the caught: from the note that E is thrown at pc to the handler's place -/
def XV (G : Gm) (y : MethodName) (cc : ByteArray) (nL : Nat) (ret : Option FieldType) (R : Room) (Z : ZT) (w : Wt) (c k pc : Nat) (lv : List (Nat × Value)) (E : String) (st : List Value) : Prop :=
  ∀ (p : Program) (e : Env) (s : State) (m : MethodId) (args : Array Value) (below : List Frame) (meth : Method) (co : Code) (H : Heap) (locs : List Loc) (ls : Array Slot) (q : Addr) (ce : Cell),
    Cx G y cc nL ret p s m args meth co → Wd G w H → va_S (gA G) s.heap H locs → lv_has ls nL lv → H[q]? = some ce → ce.vm = .none → s.vm.findClass E = some ce.cls → vx_W p (gl G) e R s m args below meth co H locs c k (Z p e s m args below meth co) (F0 m pc ls st) q
theorem x_catch {E : String} {hh : List (Nat × Nat × Nat × Nat)} (hcw : Cond.codeWith y cc nL ret hh ∈ gwT) (t : Nat) (pre suf : List ExceptionTableEntry) (x9 : ExceptionTableEntry) (hsplit : tableOf hh = pre ++ x9 :: suf) (hpass : ∀ z ∈ pre, z.catchType ≠ 0 ∧ ∃ nm : String, Cond.classLink y.cls z.catchType nm ∈ gwT ∧ (E, nm) ∈ ncL) (hcov : covers x9 pc = true) (h0 : x9.catchType ≠ 0) (hlk : Cond.classLink y.cls x9.catchType E ∈ gwT) (hE : E ∈ excL) (hpc : x9.handlerPc = t)
    (kk : ∀ q : Nat, V G y cc nL ret R Z w c k t lv [.ref q]) : XV G y cc nL ret R Z w c k pc lv E st := by
  subst hpc
  intro p e s m args below meth co H locs ls q ce C hW hS hl hce hcv hcf
  have hts := C.2.2.2.2.1
  have hKT := C.2.2.2.2.2.2.1.2.2.2
  have htab : co.exceptionTable.toList = tableOf hh := by
    obtain ⟨b1, b2, b3⟩ := C.2.2.2.2.2.2.2.2.2.2
    obtain ⟨m9, meth9, c9, hn9, h1, h2, -, -, h6, -⟩ := Cond.codeWith_spec (hts _ hcw)
    cases Option.some.inj (hn9.symm.trans b1)
    cases Option.some.inj (h1.symm.trans b2)
    cases Option.some.inj (h2.symm.trans b3)
    rw [← h6, table_eq]
  refine vx_catch (name := E) C.2.2.2.1 pre x9 suf (htab.trans hsplit) (fun z hz => ?_) hcov h0 (hts _ hlk) (va_Nw.use rfl (hKT.2.2.2.2.1 E hE)) hce hcv hcf (kk q p e s m args below meth co H locs ls C hW hS hl)
  obtain ⟨z0, nm, z1, z2⟩ := hpass z hz
  exact Or.inr ⟨z0, nm, hts _ z1, hKT.2.2.2.2.2.1 _ z2⟩
variable {z : MethodName} {zc : ByteArray} {zL n i : Nat} {zr : Option FieldType} {rm : Room} {as : List Value} {b : Nat}
theorem x_Vi (hM : Xi G z zc zL zr rm (.ref b :: as) w x μ o mc ms) (hr : Rcv G w z.cls b) (hm : MOK z zc zL zr n) (hin : Cond.instanceMethod z ∈ gwT) (hse : Cond.selects z.cls z z ∈ gwT) (hlk : Cond.methodLink y.cls i z ∈ gwT) (hck : CK y R z zc zL zr n rm as st mc ms i c k) (hst : stk = as.reverse ++ .ref b :: st) (d : decode cc pc = .ok (.invokevirtual i, 3)) (hc : c + mc = c') (hk : k + ms = k') (hq : pc + 3 = q)
    (kk : x.1 = 0 → V G y cc nL ret R Z (x.2.2, μ, o) c' k' q lv (.int x.2.1 :: st)) (kx : ∀ (n' : Nat) (E : String), 1 ≤ x.1 → oN x.2.2 ≤ n' → excL[x.1 - 1]? = some E → XV G y cc nL ret R Z (oSN x.2.2 n', μ, o) c' k' pc lv E st) : V G y cc nL ret R Z w c k pc lv stk := by
  subst hc hk hq
  intro p e s m args below meth co H locs ls C hW hS hl
  obtain ⟨h1, h2, h3, h4, h5, h6⟩ := hck
  have hts := C.2.2.2.2.1
  refine vx_calli (vx_runV (As := as) (rest := st) (C := z.cls) ⟨C.1, C.2.1, C.2.2.1, C.2.2.2.1, hts⟩ hM ⟨callB_of n hts (gw_in hm.1) rfl h4 h5 (hts _ hm.2.1) (hts _ hlk) hm.2.2 h1, hts _ hin, hts _ hse⟩
    ⟨Pw.blind, hr.at hW C.2.2.2.2.2.2.1, fun U hU hV => ⟨rfl, by rw [hU]; exact hW, Ks.moved hV C.2.2.2.2.2.2.1⟩⟩ rfl h6 hl.1 hst (lv_room h2) d h3) hS (fun q _ h => h) (fun q h => h) (fun q _ h => h) (fun E ce q9 u t H1 locs1 ht hvm hpx hB hz hk hS1 hce hcv hcf => ?_) (fun r u t H1 locs1 ht hvm hp hB hz hk hS1 => ?_)
  · exact kx u E hpx.1 hpx.2 hB.1 p e s m args below meth co H1 locs1 ls q9 ce C (by rw [← ht]; exact hB.2) hS1 hl hce hcv hcf
  · obtain ⟨hx0, rfl⟩ := hp
    exact kk hx0 p e s m args below meth co H1 locs1 ls C (by rw [← ht]; exact hB) hS1 hl
theorem x_Vv (hM : Xv G z zc zL zr rm (.ref b :: as) w x μ o mc ms) (hr : Rcv G w z.cls b) (hm : MOK z zc zL zr n) (hin : Cond.instanceMethod z ∈ gwT) (hse : Cond.selects z.cls z z ∈ gwT) (hlk : Cond.methodLink y.cls i z ∈ gwT) (hck : CK y R z zc zL zr n rm as st mc ms i c k) (hst : stk = as.reverse ++ .ref b :: st) (d : decode cc pc = .ok (.invokevirtual i, 3)) (hc : c + mc = c') (hk : k + ms = k') (hq : pc + 3 = q)
    (kk : x.1 = 0 → V G y cc nL ret R Z (x.2.2, μ, o) c' k' q lv st) (kx : ∀ (n' : Nat) (E : String), 1 ≤ x.1 → oN x.2.2 ≤ n' → excL[x.1 - 1]? = some E → XV G y cc nL ret R Z (oSN x.2.2 n', μ, o) c' k' pc lv E st) : V G y cc nL ret R Z w c k pc lv stk := by
  subst hc hk hq
  intro p e s m args below meth co H locs ls C hW hS hl
  obtain ⟨h1, h2, h3, h4, h5, h6⟩ := hck
  have hts := C.2.2.2.2.1
  refine vx_callv (vx_runV (As := as) (rest := st) (C := z.cls) ⟨C.1, C.2.1, C.2.2.1, C.2.2.2.1, hts⟩ hM ⟨callB_of n hts (gw_in hm.1) rfl h4 h5 (hts _ hm.2.1) (hts _ hlk) hm.2.2 h1, hts _ hin, hts _ hse⟩
    ⟨Pw.blind, hr.at hW C.2.2.2.2.2.2.1, fun U hU hV => ⟨rfl, by rw [hU]; exact hW, Ks.moved hV C.2.2.2.2.2.2.1⟩⟩ rfl h6 hl.1 hst (lv_room h2) d h3) hS (fun q _ h => h) (fun q h => h) (fun q _ h => h) (fun E ce q9 u t H1 locs1 ht hvm hpx hB hz hk hS1 hce hcv hcf => ?_) (fun u t H1 locs1 ht hvm hp hB hz hk hS1 => ?_)
  · exact kx u E hpx.1 hpx.2 hB.1 p e s m args below meth co H1 locs1 ls q9 ce C (by rw [← ht]; exact hB.2) hS1 hl hce hcv hcf
  · exact kk hp p e s m args below meth co H1 locs1 ls C (by rw [← ht]; exact hB) hS1 hl
/-! the law's own long row, and its calls of methods with a table -/
theorem Wd.lo {H : Heap} (hW : Wd G (σ, μ, o) H) (h : 201 ∈ gF G) : H[gM G 201]? = some (arrV (gC G 7) 1 (fun _ => .long o)) := by
  have hA := (hW.2.2.1 201 h).2.2
  unfold mAt at hA
  rw [if_neg (by decide), if_pos rfl] at hA
  exact hA
theorem v_i2l {v : Int32} (d : decode cc pc = .ok (.i2l, 1)) (hq : pc + 1 = q) (kk : V G y cc nL ret R Z w c k q lv (.long v.toInt64 :: st)) : V G y cc nL ret R Z w c k pc lv (.int v :: st) := by
  subst hq; intro p e s m args below meth co H locs ls C hW hS hl; exact lv_i2l C.1 C.2.1 d rfl (kk p e s m args below meth co H locs ls C hW hS hl)
theorem v_lcmp {u v : Int64} (d : decode cc pc = .ok (.lcmp, 1)) (hq : pc + 1 = q) (kk : V G y cc nL ret R Z w c k q lv (.int (lg_cmp u v) :: st)) : V G y cc nL ret R Z w c k pc lv (.long v :: .long u :: st) := by
  subst hq; intro p e s m args below meth co H locs ls C hW hS hl; exact W.lcmp C.1 C.2.1 d (kk p e s m args below meth co H locs ls C hW hS hl)
theorem v_lald (h : 201 ∈ gF G) (d : decode cc pc = .ok (.laload, 1)) (hq : pc + 1 = q) (kk : V G y cc nL ret R Z (σ, μ, o) c k q lv (.long o :: st)) : V G y cc nL ret R Z (σ, μ, o) c k pc lv (.int 0 :: .ref (gM G 201) :: st) := by
  subst hq
  intro p e s m args below meth co H locs ls C hW hS hl
  exact W.lald (v := .long o) C.1 C.2.1 (hW.lo h) ((C.2.2.2.2.2.2.1.1.2 7 _ rfl).1 _ _) (fun q => by cases q) (by show ¬ ((0 : Int32) < 0 ∨ (arrV _ _ _).slots.size ≤ _); rw [arrV_size]; decide) (by show (arrV _ _ _).slots[_]? = _; rw [arrV_read _ _ (by decide)]) rfl rfl d (kk p e s m args below meth co H locs ls C hW hS hl)
theorem v_last {v : Int64} (h : 201 ∈ gF G) (d : decode cc pc = .ok (.lastore, 1)) (hq : pc + 1 = q) (kk : V G y cc nL ret R Z (σ, μ, v) c k q lv st) : V G y cc nL ret R Z (σ, μ, o) c k pc lv (.long v :: .int 0 :: .ref (gM G 201) :: st) := by
  subst hq
  intro p e s m args below meth co H locs ls C hW hS hl
  refine W.last C.1 C.2.1 (hW.lo h) ((C.2.2.2.2.2.2.1.1.2 7 _ rfl).1 _ _) (fun q => by cases q) (by show ¬ ((0 : Int32) < 0 ∨ (arrV _ _ _).slots.size ≤ _); rw [arrV_size]; decide) rfl rfl d fun H1 he z oq => ?_
  rw [arrV_store] at he
  refine kk p e s m args below meth co H1 _ ls C (hW.um (o' := v) 201 h (fun j hj hA => ?_) ?_ z oq) (hS.put z oq (hW.2.2.1 201 h).1) hl
  · unfold mAt at hA ⊢
    rw [if_neg hj] at hA ⊢
    exact hA
  · unfold mAt
    rw [if_neg (by decide), if_pos rfl, he]
    refine congrArg some ?_
    have e9 : (fun j : Fin 1 => updV (fun _ => Value.long o) (0 : Int32).toNatClampNeg (.long v) j.val) = fun _ => .long v := by
      funext j
      have h0 : j.val = 0 := by omega
      rw [h0]
      rfl
    unfold arrV
    rw [e9]
def wsW (y : MethodName) (cc : ByteArray) (nL : Nat) (ret : Option FieldType) (hh : List (Nat × Nat × Nat × Nat)) : List Cond := .codeWith y cc nL ret hh :: gwT
def qW (G : Gm) (r : Int32) (σ : Hp) (μ : Mu) (o : Int64) : Array Value → State → Outcome → State → Prop := va_Qi (fun (r' : Int32) (n' : Nat) => r' = r ∧ oN σ ≤ n') (fun n' t => Wd G (oSN σ n', μ, o) t.heap) (gA G)
def Cw (G : Gm) (y : MethodName) (cc : ByteArray) (nL : Nat) (ret : Option FieldType) (hh : List (Nat × Nat × Nat × Nat)) (rm : Room) (as : List Value) (w : Wt) (r : Int32) (σ : Hp) (μ : Mu) (o : Int64) (mc ms : Nat) : Prop := Met (gl G) y (wsW y cc nL ret hh) rm (Pw G as w) (qW G r σ μ o) mc ms (gA G)
def zW (G : Gm) (r : Int32) (σ : Hp) (μ : Mu) (o : Int64) (mc ms : Nat) : ZT := fun _ _ s _ args below _ _ => MQ below (qW G r σ μ o) args s mc ms (gA G)
theorem w_ent {hh : List (Nat × Nat × Nat × Nat)} {r : Int32} (lv : List (Nat × Value)) (hn : plainName y.cls = true) (hlen : (lg_sl as).length ≤ nL) (hlv : lv_args 0 as = lv) (h : V G y cc nL ret rm (zW G r σ μ o mc ms) w 0 0 0 lv []) : Cw G y cc nL ret hh rm as w r σ μ o mc ms := by
  subst hlv
  refine va_MetW (cc := cc) (maxL := nL) (ret := ret) (hh := hh) hn rfl ?_
  intro p e s m args below meth c s₁ B hml hv
  obtain ⟨rfl, hW, hK⟩ := hv
  have hts := atoms_spec (ws := wsW y cc nL ret hh) B.pre
  have hl := lv_entry as (n := nL) hlen
  rw [lg_entry_eq]
  exact h p e s m _ below meth c s.heap [] _ ⟨B.exec, B.bytes, hml, findClass_of_methodNamed B.named, fun w hw => hts w (List.mem_cons_of_mem _ hw), B.notSynchronized, hK, hW.2.2.2.2.2, B.returns, (name_of_methodNamed B.named B.method).1, B.named, B.method, (Stand.of_body B).code⟩ hW va_S.rf hl
theorem w_ret {r : Int32} {n' : Nat} (hr : ret = some .int) (hn : oN σ ≤ n') (hc : c ≤ mc) (hk : k ≤ ms) (d : decode cc pc = .ok (.ireturn, 1)) : V G y cc nL ret R (zW G r σ μ o mc ms) (oSN σ n', μ, o) c k pc lv [.int r] := by
  intro p e s m args below meth co H locs ls C hW hS hl
  refine W.widen (k := mc) (n := ms) hc hk ?_
  exact W.iret (v := r) C.1 C.2.1 (C.2.2.2.2.2.2.2.2.1.trans hr) (fun t ht hV => ⟨⟨r, n', rfl, ⟨rfl, hn⟩, by show Wd G _ t.heap; rw [ht]; exact hW⟩, hS.F ht⟩) hS.2.2 d (hlocks := C.2.2.2.2.2.1)
/-- what the tables say of a static method with a table of handlers -/
def MOW (z : MethodName) (zc : ByteArray) (zL : Nat) (zr : Option FieldType) (hh : List (Nat × Nat × Nat × Nat)) (n : Nat) : Prop := Cond.codeWith z zc zL zr hh ∈ gwT ∧ Cond.initialized z.cls ∈ gwT ∧ Cond.static z ∈ gwT ∧ (z.cls ≠ "java/lang/invoke/MethodHandle" ∧ z.cls ≠ "java/lang/invoke/VarHandle" ∧ (parseMethodDescriptor z.desc).map (fun d => d.parameters.length) = some n)
theorem v_Wi {hh : List (Nat × Nat × Nat × Nat)} {r : Int32} (hM : Cw G z zc zL zr hh rm as w r σ μ o mc ms) (hm : MOW z zc zL zr hh n) (hlk : Cond.methodLink y.cls i z ∈ gwT) (hck : CK y R z zc zL zr n rm as st mc ms i c k) (hst : stk = as.reverse ++ st) (d : decode cc pc = .ok (.invokestatic i, 3)) (hc : c + mc = c') (hk : k + ms = k') (hq : pc + 3 = q) (kk : ∀ n' : Nat, oN σ ≤ n' → V G y cc nL ret R Z (oSN σ n', μ, o) c' k' q lv (.int r :: st)) : V G y cc nL ret R Z w c k pc lv stk := by
  subst hc hk hq
  intro p e s m args below meth co H locs ls C hW hS hl
  obtain ⟨h1, h2, h3, h4, h5, h6⟩ := hck
  have hts := C.2.2.2.2.1
  have hT : GoodIn gwT (va_wsS y.cls i z (wsW z zc zL zr hh)) := by
    intro w' hw'
    rcases List.mem_append.mp hw' with h | h
    · rcases List.mem_cons.mp h with rfl | h
      · exact ⟨hlk, gw_good hlk⟩
      · rcases List.mem_cons.mp h with rfl | h
        · exact ⟨hm.2.2.1, gw_good hm.2.2.1⟩
        · rcases List.mem_cons.mp h with rfl | h
          · exact ⟨hm.2.1, gw_good hm.2.1⟩
          · cases h
    · rcases List.mem_cons.mp h with rfl | h
      · exact ⟨hm.1, gw_good hm.1⟩
      · exact ⟨h, gw_good h⟩
  refine va_calli (vx_runSW (As := as) (rest := st) (hh := hh) ⟨C.1, C.2.1, C.2.2.1, C.2.2.2.1, hts⟩ hM (vx_cwSW n hts hT rfl h4 h5 hm.2.2.2 h1) ⟨Pw.blind, fun U hU hV => ⟨rfl, by rw [hU]; exact hW, Ks.moved hV C.2.2.2.2.2.2.1⟩⟩ rfl h6 hl.1 hst (lv_room h2) d h3) hS (fun q _ h => h) (fun q h => h) (fun r' u t H1 locs1 ht hvm hpost hB hz hk hS1 => ?_)
  obtain ⟨rfl, hn⟩ := hpost
  exact kk u hn p e s m args below meth co H1 locs1 ls C (by rw [← ht]; exact hB) hS1 hl
end VEXC
