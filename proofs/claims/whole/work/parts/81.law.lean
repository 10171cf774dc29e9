/-! the judgement with what stays true of the start -/
def VX (X : State → Array Value → Prop) (G : Gm) (y : MethodName) (cc : ByteArray) (nL : Nat) (ret : Option FieldType) (R : Room) (Z : ZT) (w : Wt) (c k pc : Nat) (lv : List (Nat × Value)) (st : List Value) : Prop :=
  ∀ (p : Program) (e : Env) (s : State) (m : MethodId) (args : Array Value) (below : List Frame) (meth : Method) (co : Code) (H : Heap) (locs : List Loc) (ls : Array Slot),
    X s args → Cx G y cc nL ret p s m args meth co → Wd G w H → va_S (gA G) s.heap H locs → lv_has ls nL lv → W p (gl G) e R s m args below meth co H locs c k (Z p e s m args below meth co) (F0 m pc ls st)
section LROWS
variable {X : State → Array Value → Prop} {G : Gm} {y : MethodName} {cc : ByteArray} {nL : Nat} {ret : Option FieldType} {R : Room} {Z : ZT} {w : Wt} {c k pc q : Nat} {lv : List (Nat × Value)} {st : List Value}
theorem Lv_iconst {n : Int} {v : Int32} (hv : Int32.ofInt n = v) (d : decode cc pc = .ok (.iconst n, 1)) (hq : pc + 1 = q) (kk : VX X G y cc nL ret R Z w c k q lv (.int v :: st)) : VX X G y cc nL ret R Z w c k pc lv (st) := by
  subst hq; intro p e s m args below meth co H locs ls hX C hW hS hl; exact lv_iconst C.1 C.2.1 d hv (kk p e s m args below meth co H locs ls hX C hW hS hl)
theorem Lv_bipush {n : Int} {v : Int32} (hv : (Int8.ofInt n).toInt32 = v) (d : decode cc pc = .ok (.bipush n, 2)) (hq : pc + 2 = q) (kk : VX X G y cc nL ret R Z w c k q lv (.int v :: st)) : VX X G y cc nL ret R Z w c k pc lv (st) := by
  subst hq; intro p e s m args below meth co H locs ls hX C hW hS hl; exact lv_bipush C.1 C.2.1 d hv (kk p e s m args below meth co H locs ls hX C hW hS hl)
theorem Lv_iload {i : Nat} {x : Int32} (t : Nat) (ht : lv[t]? = some ((i : Nat), .int x)) (d : decode cc pc = .ok (.iload i, 2)) (hq : pc + 2 = q) (kk : VX X G y cc nL ret R Z w c k q lv (.int x :: st)) : VX X G y cc nL ret R Z w c k pc lv st := by
  subst hq; intro p e s m args below meth co H locs ls hX C hW hS hl; exact lv_iload C.1 C.2.1 d (lv_at hl t ht) (kk p e s m args below meth co H locs ls hX C hW hS hl)
theorem Lv_istore {i : Nat} {x : Int32} (lv' : List (Nat × Value)) (d : decode cc pc = .ok (.istore i, 2)) (hq : pc + 2 = q) (hn : (i : Nat) < nL) (hv : ((i : Nat), Value.int x) :: lv.filter (fun q => !(q.1 == (i : Nat)) && !(q.1 + 1 == (i : Nat) && q.2.category == 2)) = lv') (kk : VX X G y cc nL ret R Z w c k q lv' st) : VX X G y cc nL ret R Z w c k pc lv (.int x :: st) := by
  subst hq; intro p e s m args below meth co H locs ls hX C hW hS hl; exact lv_istore C.1 C.2.1 d hl hn hv (fun ls hl => kk p e s m args below meth co H locs ls hX C hW hS hl)
theorem Lv_aload_n {i : Fin 4} {x : Nat} (t : Nat) (ht : lv[t]? = some ((i : Nat), .ref x)) (d : decode cc pc = .ok (.aload_n i, 1)) (hq : pc + 1 = q) (kk : VX X G y cc nL ret R Z w c k q lv (.ref x :: st)) : VX X G y cc nL ret R Z w c k pc lv st := by
  subst hq; intro p e s m args below meth co H locs ls hX C hW hS hl; exact lv_aload_n C.1 C.2.1 d rfl (lv_at hl t ht) (kk p e s m args below meth co H locs ls hX C hW hS hl)
theorem Lv_astore_n {i : Fin 4} {x : Nat} (lv' : List (Nat × Value)) (d : decode cc pc = .ok (.astore_n i, 1)) (hq : pc + 1 = q) (hn : (i : Nat) < nL) (hv : ((i : Nat), Value.ref x) :: lv.filter (fun q => !(q.1 == (i : Nat)) && !(q.1 + 1 == (i : Nat) && q.2.category == 2)) = lv') (kk : VX X G y cc nL ret R Z w c k q lv' st) : VX X G y cc nL ret R Z w c k pc lv (.ref x :: st) := by
  subst hq; intro p e s m args below meth co H locs ls hX C hW hS hl; exact lv_astore_n C.1 C.2.1 d rfl hl hn hv (fun ls hl => kk p e s m args below meth co H locs ls hX C hW hS hl)
theorem Lv_iinc {i : Nat} {n : Int} {x v : Int32} (lv' : List (Nat × Value)) (t : Nat) (ht : lv[t]? = some (i, .int x)) (hx : x + Int32.ofInt n = v) (d : decode cc pc = .ok (.iinc i n, 3)) (hq : pc + 3 = q) (hn : i < nL) (hv : (i, Value.int v) :: lv.filter (fun q => !(q.1 == i) && !(q.1 + 1 == i && q.2.category == 2)) = lv') (kk : VX X G y cc nL ret R Z w c k q lv' st) : VX X G y cc nL ret R Z w c k pc lv st := by
  subst hq; intro p e s m args below meth co H locs ls hX C hW hS hl; exact lv_iinc C.1 C.2.1 d hl ht hx hn hv (fun ls hl => kk p e s m args below meth co H locs ls hX C hW hS hl)
theorem Lv_isub {x z : Int32} (d : decode cc pc = .ok (.isub, 1)) (hq : pc + 1 = q) (kk : VX X G y cc nL ret R Z w c k q lv (.int (x - z) :: st)) : VX X G y cc nL ret R Z w c k pc lv (.int z :: .int x :: st) := by
  subst hq; intro p e s m args below meth co H locs ls hX C hW hS hl; exact lv_isub C.1 C.2.1 d (kk p e s m args below meth co H locs ls hX C hW hS hl)
theorem Lv_iadd {x z : Int32} (d : decode cc pc = .ok (.iadd, 1)) (hq : pc + 1 = q) (kk : VX X G y cc nL ret R Z w c k q lv (.int (x + z) :: st)) : VX X G y cc nL ret R Z w c k pc lv (.int z :: .int x :: st) := by
  subst hq; intro p e s m args below meth co H locs ls hX C hW hS hl; exact lv_iadd C.1 C.2.1 d (kk p e s m args below meth co H locs ls hX C hW hS hl)
theorem Lv_iand {x z : Int32} (d : decode cc pc = .ok (.iand, 1)) (hq : pc + 1 = q) (kk : VX X G y cc nL ret R Z w c k q lv (.int (x &&& z) :: st)) : VX X G y cc nL ret R Z w c k pc lv (.int z :: .int x :: st) := by
  subst hq; intro p e s m args below meth co H locs ls hX C hW hS hl; exact lv_iand C.1 C.2.1 d (kk p e s m args below meth co H locs ls hX C hW hS hl)
theorem Lv_dup {a : Value} (ha : a.category = 1) (d : decode cc pc = .ok (.dup, 1)) (hq : pc + 1 = q) (kk : VX X G y cc nL ret R Z w c k q lv (a :: a :: st)) : VX X G y cc nL ret R Z w c k pc lv (a :: st) := by
  subst hq; intro p e s m args below meth co H locs ls hX C hW hS hl; exact lv_dup C.1 C.2.1 d ha (kk p e s m args below meth co H locs ls hX C hW hS hl)
theorem Lv_goto {off : Int} (d : decode cc pc = .ok (.goto off, 3)) (ht : (pc : Int) + off = (q : Int)) (kk : VX X G y cc nL ret R Z w c k q lv st) : VX X G y cc nL ret R Z w c k pc lv st := by
  intro p e s m args below meth co H locs ls hX C hW hS hl; exact lv_goto C.1 C.2.1 d ht (kk p e s m args below meth co H locs ls hX C hW hS hl)
theorem Lv_icmp_gt {x z : Int32} {off : Int} (t : Nat) (d : decode cc pc = .ok (.if_icmp .gt off, 3)) (ht : (pc : Int) + off = (t : Int)) (hq : pc + 3 = q) (kt : z < x → VX X G y cc nL ret R Z w c k t lv st) (kf : ¬ z < x → VX X G y cc nL ret R Z w c k q lv st) : VX X G y cc nL ret R Z w c k pc lv (.int z :: .int x :: st) := by
  subst hq; intro p e s m args below meth co H locs ls hX C hW hS hl; exact lv_icmp_gt C.1 C.2.1 d ht (fun h => kt h p e s m args below meth co H locs ls hX C hW hS hl) (fun h => kf h p e s m args below meth co H locs ls hX C hW hS hl)
theorem Lv_icmp_eq {x z : Int32} {off : Int} (t : Nat) (d : decode cc pc = .ok (.if_icmp .eq off, 3)) (ht : (pc : Int) + off = (t : Int)) (hq : pc + 3 = q) (kt : x = z → VX X G y cc nL ret R Z w c k t lv st) (kf : ¬ x = z → VX X G y cc nL ret R Z w c k q lv st) : VX X G y cc nL ret R Z w c k pc lv (.int z :: .int x :: st) := by
  subst hq; intro p e s m args below meth co H locs ls hX C hW hS hl; exact lv_icmp_eq C.1 C.2.1 d ht (fun h => kt h p e s m args below meth co H locs ls hX C hW hS hl) (fun h => kf h p e s m args below meth co H locs ls hX C hW hS hl)
theorem Lv_icmp_ge {x z : Int32} {off : Int} (t : Nat) (d : decode cc pc = .ok (.if_icmp .ge off, 3)) (ht : (pc : Int) + off = (t : Int)) (hq : pc + 3 = q) (kt : z ≤ x → VX X G y cc nL ret R Z w c k t lv st) (kf : ¬ z ≤ x → VX X G y cc nL ret R Z w c k q lv st) : VX X G y cc nL ret R Z w c k pc lv (.int z :: .int x :: st) := by
  subst hq; intro p e s m args below meth co H locs ls hX C hW hS hl; exact lv_icmp_ge C.1 C.2.1 d ht (fun h => kt h p e s m args below meth co H locs ls hX C hW hS hl) (fun h => kf h p e s m args below meth co H locs ls hX C hW hS hl)
theorem Lv_iload_n {i : Fin 4} {x : Int32} (t : Nat) (ht : lv[t]? = some ((i : Nat), .int x)) (d : decode cc pc = .ok (.iload_n i, 1)) (hq : pc + 1 = q) (kk : VX X G y cc nL ret R Z w c k q lv (.int x :: st)) : VX X G y cc nL ret R Z w c k pc lv st := by
  subst hq; intro p e s m args below meth co H locs ls hX C hW hS hl; exact lv_iload_n C.1 C.2.1 d rfl (lv_at hl t ht) (kk p e s m args below meth co H locs ls hX C hW hS hl)
theorem Lv_if_eq {x : Int32} {off : Int} (t : Nat) (d : decode cc pc = .ok (.ifCond .eq off, 3)) (ht : (pc : Int) + off = (t : Int)) (hq : pc + 3 = q) (kt : x = 0 → VX X G y cc nL ret R Z w c k t lv st) (kf : ¬ x = 0 → VX X G y cc nL ret R Z w c k q lv st) : VX X G y cc nL ret R Z w c k pc lv (.int x :: st) := by
  subst hq; intro p e s m args below meth co H locs ls hX C hW hS hl; exact lv_if_eq C.1 C.2.1 d ht (fun h => kt h p e s m args below meth co H locs ls hX C hW hS hl) (fun h => kf h p e s m args below meth co H locs ls hX C hW hS hl)
theorem Lv_if_ne {x : Int32} {off : Int} (t : Nat) (d : decode cc pc = .ok (.ifCond .ne off, 3)) (ht : (pc : Int) + off = (t : Int)) (hq : pc + 3 = q) (kt : ¬ x = 0 → VX X G y cc nL ret R Z w c k t lv st) (kf : x = 0 → VX X G y cc nL ret R Z w c k q lv st) : VX X G y cc nL ret R Z w c k pc lv (.int x :: st) := by
  subst hq; intro p e s m args below meth co H locs ls hX C hW hS hl; exact lv_if_ne C.1 C.2.1 d ht (fun h => kt h p e s m args below meth co H locs ls hX C hW hS hl) (fun h => kf h p e s m args below meth co H locs ls hX C hW hS hl)
theorem Lv_tableIn {dflt lo hi : Int} {offs : Array Int} {len : Nat} {x : Int32} {off : Int} (t : Nat) (d : decode cc pc = .ok (.tableswitch dflt lo hi offs, len)) (h1 : ¬ x.toInt < lo) (h2 : ¬ hi < x.toInt) (ho : offs[(x.toInt - lo).toNat]? = some off) (ht : (pc : Int) + off = (t : Int)) (kk : VX X G y cc nL ret R Z w c k t lv st) : VX X G y cc nL ret R Z w c k pc lv (.int x :: st) := by
  intro p e s m args below meth co H locs ls hX C hW hS hl; exact lv_tableIn C.1 C.2.1 d h1 h2 ho ht (kk p e s m args below meth co H locs ls hX C hW hS hl)
theorem Lv_tableOut {dflt lo hi : Int} {offs : Array Int} {len : Nat} {x : Int32} (t : Nat) (d : decode cc pc = .ok (.tableswitch dflt lo hi offs, len)) (h : x.toInt < lo ∨ hi < x.toInt) (ht : (pc : Int) + dflt = (t : Int)) (kk : VX X G y cc nL ret R Z w c k t lv st) : VX X G y cc nL ret R Z w c k pc lv (.int x :: st) := by
  intro p e s m args below meth co H locs ls hX C hW hS hl; exact lv_tableOut C.1 C.2.1 d h ht (kk p e s m args below meth co H locs ls hX C hW hS hl)
theorem Lv_sub (ts : List Nat) {lv' : List (Nat × Value)} (hp : lv_pick lv ts = lv') (kk : VX X G y cc nL ret R Z w c k pc lv' st) : VX X G y cc nL ret R Z w c k pc lv st := by
  intro p e s m args below meth co H locs ls hX C hW hS hl; exact kk p e s m args below meth co H locs ls hX C hW hS (lv_sub hl ts hp)
theorem Lv_wid {c' k' : Nat} (hc : c ≤ c') (hk : k ≤ k') (kk : VX X G y cc nL ret R Z w c' k' pc lv st) : VX X G y cc nL ret R Z w c k pc lv st := by
  intro p e s m args below meth co H locs ls hX C hW hS hl; exact W.widen (k := c') (n := k') hc hk (kk p e s m args below meth co H locs ls hX C hW hS hl)
end LROWS
section LCALL
variable {X : State → Array Value → Prop} {G : Gm} {y : MethodName} {cc : ByteArray} {nL : Nat} {ret : Option FieldType} {R : Room} {Z : ZT} {w w' : Wt} {σ : Hp} {μ : Mu} {o : Int64} {c k c' k' pc q : Nat} {lv : List (Nat × Value)} {st stk : List Value}
variable {z : MethodName} {zc : ByteArray} {zL n i : Nat} {zr : Option FieldType} {rm : Room} {as : List Value} {mc ms b : Nat} {Qc : Array Value → State → Outcome → State → Prop}
theorem Lw_ri {p : Program} {e : Env} {s : State} {m : MethodId} {args : Array Value} {below : List Frame} {meth : Method} {co : Code} {H : Heap} {locs : List Loc} {ls : Array Slot} {r : Int32} {av : Array Value} (hX : X s args) (C : Cx G y cc nL ret p s m args meth co) (hS : va_S (gA G) s.heap H locs) (hl : lv_has ls nL lv)
    (hr : va_Run p (gl G) e R s m args below meth co H locs c k mc ms (F0 m pc ls stk) st (va_Qi (fun (r' : Int32) (_ : Unit) => r' = r) (fun _ t => Wd G w' t.heap) (gA G) av) (gA G)) (hc : c + mc = c') (hk : k + ms = k') (hq : pc + 3 = q) (kk : VX X G y cc nL ret R Z w' c' k' q lv (.int r :: st)) : W p (gl G) e R s m args below meth co H locs c k (Z p e s m args below meth co) (F0 m pc ls stk) := by
  subst hc hk hq
  refine va_calli hr hS (fun q _ h => h) (fun q h => h) (fun r' u t H1 locs1 ht hvm hpost hB hz hk hS1 => ?_)
  subst hpost
  exact kk p e s m args below meth co H1 locs1 ls hX C (by rw [← ht]; exact hB) hS1 hl
theorem Lw_rv {p : Program} {e : Env} {s : State} {m : MethodId} {args : Array Value} {below : List Frame} {meth : Method} {co : Code} {H : Heap} {locs : List Loc} {ls : Array Slot} {av : Array Value} (hX : X s args) (C : Cx G y cc nL ret p s m args meth co) (hS : va_S (gA G) s.heap H locs) (hl : lv_has ls nL lv)
    (hr : va_Run p (gl G) e R s m args below meth co H locs c k mc ms (F0 m pc ls stk) st (va_Qv (fun (_ : Unit) => True) (fun _ t => Wd G w' t.heap) (gA G) av) (gA G)) (hc : c + mc = c') (hk : k + ms = k') (hq : pc + 3 = q) (kk : VX X G y cc nL ret R Z w' c' k' q lv st) : W p (gl G) e R s m args below meth co H locs c k (Z p e s m args below meth co) (F0 m pc ls stk) := by
  subst hc hk hq
  refine va_callv hr hS (fun q _ h => h) (fun q h => h) (fun u t H1 locs1 ht hvm hpost hB hz hk hS1 => ?_)
  exact kk p e s m args below meth co H1 locs1 ls hX C (by rw [← ht]; exact hB) hS1 hl
theorem Lv_Vi {r : Int32} (hM : Ci G z zc zL zr rm (.ref b :: as) w r w' mc ms) (hr : Rcv G w z.cls b) (hm : MOK z zc zL zr n) (hin : Cond.instanceMethod z ∈ gwT) (hse : Cond.selects z.cls z z ∈ gwT) (hlk : Cond.methodLink y.cls i z ∈ gwT) (hck : CK y R z zc zL zr n rm as st mc ms i c k) (hst : stk = as.reverse ++ .ref b :: st) (d : decode cc pc = .ok (.invokevirtual i, 3)) (hc : c + mc = c') (hk : k + ms = k') (hq : pc + 3 = q) (kk : VX X G y cc nL ret R Z w' c' k' q lv (.int r :: st)) : VX X G y cc nL ret R Z w c k pc lv stk := by
  intro p e s m args below meth co H locs ls hX C hW hS hl
  exact Lw_ri hX C hS hl (w_V C hW hl hM hr hm hin hse hlk hck hst d) hc hk hq kk
theorem Lv_Vv (hM : Cv G z zc zL zr rm (.ref b :: as) w w' mc ms) (hr : Rcv G w z.cls b) (hm : MOK z zc zL zr n) (hin : Cond.instanceMethod z ∈ gwT) (hse : Cond.selects z.cls z z ∈ gwT) (hlk : Cond.methodLink y.cls i z ∈ gwT) (hck : CK y R z zc zL zr n rm as st mc ms i c k) (hst : stk = as.reverse ++ .ref b :: st) (d : decode cc pc = .ok (.invokevirtual i, 3)) (hc : c + mc = c') (hk : k + ms = k') (hq : pc + 3 = q) (kk : VX X G y cc nL ret R Z w' c' k' q lv (st)) : VX X G y cc nL ret R Z w c k pc lv stk := by
  intro p e s m args below meth co H locs ls hX C hW hS hl
  exact Lw_rv hX C hS hl (w_V C hW hl hM hr hm hin hse hlk hck hst d) hc hk hq kk
theorem Lv_Iv (hM : Cv G z zc zL none rm (.ref b :: as) w w' mc ms) (hm : MOK z zc zL none n) (hin : Cond.instanceMethod z ∈ gwT) (hnm : z.name = "<init>") (hlk : Cond.methodLink y.cls i z ∈ gwT) (hck : CK y R z zc zL none n rm as st mc ms i c k) (hst : stk = as.reverse ++ .ref b :: st) (d : decode cc pc = .ok (.invokespecial i, 3)) (hc : c + mc = c') (hk : k + ms = k') (hq : pc + 3 = q) (kk : VX X G y cc nL ret R Z w' c' k' q lv (st)) : VX X G y cc nL ret R Z w c k pc lv stk := by
  intro p e s m args below meth co H locs ls hX C hW hS hl
  exact Lw_rv hX C hS hl (w_I C hW hl hM hm hin hnm hlk hck hst d) hc hk hq kk
theorem Lv_new {ci : Nat} {σ' : Hp} (hs : nw σ ci 0 = σ') (hci : ci < 13) (hcl : Cond.classLink y.cls i (cC ci) ∈ gwT) (hins : Cond.instantiable (cC ci) (cN ci) ∈ gwT) (hini : Cond.initialized (cC ci) ∈ gwT) (hR : c + 1 ≤ R.cells ∧ k + cN ci ≤ R.slots) (hc : c + 1 = c') (hk : k + cN ci = k') (d : decode cc pc = .ok (.new i, 3)) (hq : pc + 3 = q) (kk : VX X G y cc nL ret R Z (σ', μ, o) c' k' q lv (.ref (oN σ) :: st)) : VX X G y cc nL ret R Z (σ, μ, o) c k pc lv st := by
  subst hs hc hk hq
  intro p e s m args below meth co H locs ls hX C hW hS hl
  have hts := C.2.2.2.2.1
  have hKn := C.2.2.2.2.2.2.1.1.1 ci _ (c_at hci)
  have hz : H.size = oN σ := hW.1
  refine W.newcK C.1 C.2.1 C.2.2.2.1 (hts _ hcl) (hts _ hins) (hts _ hini) rfl d hR.1 hR.2 hKn.2.1 hz fun H1 kC hkC e1 z1 o1 => ?_
  refine kk p e s m args below meth co H1 locs ls hX C (hW.newc ?_ (by rw [z1, hz]) (fun q hq => o1 q (by omega))) ⟨Nat.le_trans hS.1 (by omega), fun x h1 h2 => (o1 x (by have := hS.1; omega)).trans (hS.2.1 x h1 h2), hS.2.2⟩ hl
  have hkk : oK (nw σ ci 0) (oN σ) = ci := va_up_self _ _ _
  unfold oAt
  rw [hz, hkk, if_pos hci]
  refine (u_born (cY ci) hts (c_in hci) hKn hkC e1 (c_ty hci)).to fun j hj => ?_
  unfold oF
  rw [hkk, oI_nw, oR_nw, va_up_self, va_up_self]
  cases hty : cY ci j <;> simp [isI, defaultValue, va_rf]
  all_goals exact absurd hty (c_pl hci hj _ (by decide))
theorem Lv_i2l {v : Int32} (d : decode cc pc = .ok (.i2l, 1)) (hq : pc + 1 = q) (kk : VX X G y cc nL ret R Z w c k q lv (.long v.toInt64 :: st)) : VX X G y cc nL ret R Z w c k pc lv (.int v :: st) := by
  subst hq; intro p e s m args below meth co H locs ls hX C hW hS hl; exact lv_i2l C.1 C.2.1 d rfl (kk p e s m args below meth co H locs ls hX C hW hS hl)
theorem Lv_lcmp {u v : Int64} (d : decode cc pc = .ok (.lcmp, 1)) (hq : pc + 1 = q) (kk : VX X G y cc nL ret R Z w c k q lv (.int (lg_cmp u v) :: st)) : VX X G y cc nL ret R Z w c k pc lv (.long v :: .long u :: st) := by
  subst hq; intro p e s m args below meth co H locs ls hX C hW hS hl; exact W.lcmp C.1 C.2.1 d (kk p e s m args below meth co H locs ls hX C hW hS hl)
theorem Lv_lald (h : 201 ∈ gF G) (d : decode cc pc = .ok (.laload, 1)) (hq : pc + 1 = q) (kk : VX X G y cc nL ret R Z (σ, μ, o) c k q lv (.long o :: st)) : VX X G y cc nL ret R Z (σ, μ, o) c k pc lv (.int 0 :: .ref (gM G 201) :: st) := by
  subst hq
  intro p e s m args below meth co H locs ls hX C hW hS hl
  exact W.lald (v := .long o) C.1 C.2.1 (hW.lo h) ((C.2.2.2.2.2.2.1.1.2 7 _ rfl).1 _ _) (fun q => by cases q) (by show ¬ ((0 : Int32) < 0 ∨ (arrV _ _ _).slots.size ≤ _); rw [arrV_size]; decide) (by show (arrV _ _ _).slots[_]? = _; rw [arrV_read _ _ (by decide)]) rfl rfl d (kk p e s m args below meth co H locs ls hX C hW hS hl)
theorem Lv_Wi {hh : List (Nat × Nat × Nat × Nat)} {r : Int32} (hM : Cw G z zc zL zr hh rm as w r σ μ o mc ms) (hm : MOW z zc zL zr hh n) (hlk : Cond.methodLink y.cls i z ∈ gwT) (hck : CK y R z zc zL zr n rm as st mc ms i c k) (hst : stk = as.reverse ++ st) (d : decode cc pc = .ok (.invokestatic i, 3)) (hc : c + mc = c') (hk : k + ms = k') (hq : pc + 3 = q) (kk : ∀ n' : Nat, oN σ ≤ n' → VX X G y cc nL ret R Z (oSN σ n', μ, o) c' k' q lv (.int r :: st)) : VX X G y cc nL ret R Z w c k pc lv stk := by
  subst hc hk hq
  intro p e s m args below meth co H locs ls hX C hW hS hl
  obtain ⟨h1, h2, h3, h4, h5, h6⟩ := hck
  have hts := C.2.2.2.2.1
  have hT : GoodIn gwT (va_wsS y.cls i z (wsW z zc zL zr hh)) := by
    intro w' hw'
    rcases List.mem_append.mp hw' with h | h
    · rcases List.mem_cons.mp h with rfl | h
      · exact ⟨hlk, gw_good hlk⟩
      · rcases List.mem_cons.mp h with rfl | h
        · exact ⟨hm.2.2.1, gw_good hm.2.2.1⟩
        · rcases List.mem_cons.mp h with rfl | h
          · exact ⟨hm.2.1, gw_good hm.2.1⟩
          · cases h
    · rcases List.mem_cons.mp h with rfl | h
      · exact ⟨hm.1, gw_good hm.1⟩
      · exact ⟨h, gw_good h⟩
  refine va_calli (vx_runSW (As := as) (rest := st) (hh := hh) ⟨C.1, C.2.1, C.2.2.1, C.2.2.2.1, hts⟩ hM (vx_cwSW n hts hT rfl h4 h5 hm.2.2.2 h1) ⟨Pw.blind, fun U hU hV => ⟨rfl, by rw [hU]; exact hW, Ks.moved hV C.2.2.2.2.2.2.1⟩⟩ rfl h6 hl.1 hst (lv_room h2) d h3) hS (fun q _ h => h) (fun q h => h) (fun r' u t H1 locs1 ht hvm hpost hB hz hk hS1 => ?_)
  obtain ⟨rfl, hn⟩ := hpost
  exact kk u hn p e s m args below meth co H1 locs1 ls hX C (by rw [← ht]; exact hB) hS1 hl
theorem Lv_newL {n : Int32} {G' : Gm} {σ' : Hp} {h : Nat} (har : Cond.arrayClass .long ∈ gwT) (hn : ¬ n < 0) (hN : n.toNatClampNeg = 1) (hR : c + 1 ≤ R.cells ∧ k + 1 ≤ R.slots) (hc : c + 1 = c') (hk : k + 1 = k') (d : decode cc pc = .ok (.newarray .long, 2)) (hq : pc + 2 = q) (hh : oN σ = h)
    (hWd : ∀ H H1 : Heap, Wd G (σ, μ, o) H → H1.size = h + 1 → (∀ q, q < h → H1[q]? = H[q]?) → H1[h]? = some (arrV (gC G 7) 1 (fun _ => .long 0)) → Wd G' (σ', μ, 0) H1) (hG : gB G' = gB G) (hCx : ∀ (p : Program) (s : State) (m : MethodId) (args : Array Value) (meth : Method) (co : Code), Cx G y cc nL ret p s m args meth co → Cx G' y cc nL ret p s m args meth co) (hl' : gl G' = gl G)
    (kk : VX X G' y cc nL ret R Z (σ', μ, 0) c' k' q lv (.ref h :: st)) : VX X G y cc nL ret R Z (σ, μ, o) c k pc lv (.int n :: st) := by
  subst hc hk hq hh
  intro p e s m args below meth co H locs ls hX C hW hS hl
  have hz : H.size = oN σ := hW.1
  refine va_newaK (atype := .long) C.1 C.2.1 (C.2.2.2.2.1 _ har) rfl d rfl hn hN (by decide) hR.1 hR.2 hz fun H1 cA e1 z1 o1 hAr hNm => ?_
  have hcA : cA = gC G 7 := Option.some.inj (hNm.symm.trans (C.2.2.2.2.2.2.1.1.2 7 _ rfl).2)
  subst hcA
  have hA' : gA G' = gA G := by unfold gA; rw [hG]
  have := kk p e s m args below meth co H1 locs ls hX (hCx _ _ _ _ _ _ C) (hWd H H1 hW z1 (fun q hq => o1 q (by omega)) e1) (by rw [hA']; exact ⟨Nat.le_trans hS.1 (by omega), fun x h1 h2 => (o1 x (by have := hS.1; omega)).trans (hS.2.1 x h1 h2), hS.2.2⟩) hl
  rw [hl'] at this
  exact this
end LCALL
/-! the script -/
section LSCR
variable {G : Gm} {y : MethodName} {cc : ByteArray} {nL : Nat} {ret : Option FieldType} {R : Room} {Z : ZT} {w w' : Wt} {c k c' k' pc q : Nat} {lv : List (Nat × Value)} {st stk : List Value} {b L : Nat} {xs : Nat → Int32}
/-- the script of L ints at b, older than all that is made -/
def XS (G : Gm) (b L : Nat) (xs : Nat → Int32) : State → Array Value → Prop := fun s _ => va_X b L xs s s.heap ∧ b < gB G
theorem l_slen {X : State → Array Value → Prop} (hXS : ∀ s a, X s a → XS G b L xs s a) (d : decode cc pc = .ok (.arraylength, 1)) (hq : pc + 1 = q) (kk : VX X G y cc nL ret R Z w c k q lv (.int (nI L) :: st)) : VX X G y cc nL ret R Z w c k pc lv (.ref b :: st) := by
  subst hq
  intro p e s m args below meth co H locs ls hX C hW hS hl
  obtain ⟨h1, h2⟩ := hXS _ _ hX
  have h3 := C.2.2.2.2.2.2.2.1
  exact va_slen C.1 C.2.1 h1 (Nat.lt_of_lt_of_le h2 h3) (fun h => absurd (show gB G ≤ b from h) (by omega)) hS d (kk p e s m args below meth co H locs ls hX C hW hS hl)
theorem l_sald {X : State → Array Value → Prop} {i : Nat} (hXS : ∀ s a, X s a → XS G b L xs s a) (hi : i < L) (hL : L < 2 ^ 31) (d : decode cc pc = .ok (.iaload, 1)) (hq : pc + 1 = q) (kk : VX X G y cc nL ret R Z w c k q lv (.int (xs i) :: st)) : VX X G y cc nL ret R Z w c k pc lv (.int (nI i) :: .ref b :: st) := by
  subst hq
  intro p e s m args below meth co H locs ls hX C hW hS hl
  obtain ⟨h1, h2⟩ := hXS _ _ hX
  have h3 := C.2.2.2.2.2.2.2.1
  have h4 : (nI i).toNatClampNeg = i := nI_clamp (by omega)
  have h5 := kk p e s m args below meth co H locs ls hX C hW hS hl
  exact va_sld C.1 C.2.1 h1 (Nat.lt_of_lt_of_le h2 h3) (fun h => absurd (show gB G ≤ b from h) (by omega)) hS (i := nI i) (nI_in hi hL) d (by rw [h4]; exact h5)
end LSCR
