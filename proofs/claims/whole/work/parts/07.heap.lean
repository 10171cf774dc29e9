/-! what the rows read and write: the answers are 'none' where the machine itself would throw -/
def h_gI (σ : Hp) (ci a k : Nat) : Option Int32 := if oK σ a = ci then some (oI σ a k) else none
def h_gR (σ : Hp) (ci a k : Nat) : Option Nat := if oK σ a = ci then oR σ a k else none
def h_pI (σ : Hp) (ci a k : Nat) (v : Int32) : Option Hp := if oK σ a = ci then some (sI σ a k v) else none
def h_pR (σ : Hp) (ci a k : Nat) (v : Nat) : Option Hp := if oK σ a = ci then some (sR σ a k v) else none
def h_aI (σ : Hp) (a : Nat) (i : Int32) : Option Int32 := if oK σ a = 13 ∧ ¬ (i < 0 ∨ oZ σ a ≤ i.toNatClampNeg) then some (oI σ a i.toNatClampNeg) else none
def h_aR (σ : Hp) (kd a : Nat) (i : Int32) : Option Nat := if oK σ a = kd ∧ ¬ (i < 0 ∨ oZ σ a ≤ i.toNatClampNeg) then oR σ a i.toNatClampNeg else none
def h_qI (σ : Hp) (a : Nat) (i v : Int32) : Option Hp := if oK σ a = 13 ∧ ¬ (i < 0 ∨ oZ σ a ≤ i.toNatClampNeg) then some (sI σ a i.toNatClampNeg v) else none
def h_qR (σ : Hp) (kd ci a : Nat) (i : Int32) (v : Nat) : Option Hp := if (oK σ a = kd ∧ oK σ v = ci) ∧ ¬ (i < 0 ∨ oZ σ a ≤ i.toNatClampNeg) then some (sR σ a i.toNatClampNeg v) else none
def h_aL (σ : Hp) (kd a : Nat) : Option Int32 := if oK σ a = kd then some (Int32.ofNat (oZ σ a)) else none
def h_gO (σ : Hp) (ci a : Nat) : Option Unit := if oK σ a = ci then some () else none
def h_cp (σ : Hp) (a0 a : Nat) (sp dp n : Int32) : Option Hp := if (oK σ a0 = 13 ∧ oK σ a = 13) ∧ (¬ sp < 0 ∧ ¬ dp < 0 ∧ ¬ n < 0) ∧ sp.toNatClampNeg + n.toNatClampNeg ≤ oZ σ a0 ∧ dp.toNatClampNeg + n.toNatClampNeg ≤ oZ σ a then some (sC σ a0 a sp.toNatClampNeg dp.toNatClampNeg n.toNatClampNeg) else none
def h_gZ (v : Int32) : Option Unit := if v = 0 ∨ v = 1 then some () else none
def h_nz (v : Int32) : Option Unit := if v = 0 then none else some ()
def m_A (μ : Mu) (j : Nat) (i : Int32) : Option Int32 := if ¬ (i < 0 ∨ mZ j ≤ i.toNatClampNeg) then some (μ.2 j i.toNatClampNeg) else none
def m_Q (μ : Mu) (j : Nat) (i v : Int32) : Option Mu := if ¬ (i < 0 ∨ mZ j ≤ i.toNatClampNeg) then some (mT μ j i.toNatClampNeg v) else none
def m_P (μ : Mu) (k : Nat) (v : Int32) : Option Mu := some (mS μ k v)
theorem o_b {α β : Type} {x : Option α} {f : α → Option β} {b : β} (h : x.bind f = some b) : ∃ a, x = some a ∧ f a = some b := by
  cases x with
  | none => cases h
  | some a => exact ⟨a, rfl, h⟩
theorem o_p {c : Prop} [Decidable c] {α : Type} {a b x : α} (hc : c) (h : (if c then a else b) = x) : a = x := by rwa [if_pos hc] at h
theorem o_n {c : Prop} [Decidable c] {α : Type} {a b x : α} (hc : ¬ c) (h : (if c then a else b) = x) : b = x := by rwa [if_neg hc] at h
theorem o_s {α β : Type} {a c : α} {b d : β} (h : some (a, b) = some (c, d)) : a = c ∧ b = d := by cases h; exact ⟨rfl, rfl⟩
theorem o_i {c : Prop} [Decidable c] {α : Type} {a b : α} (h : (if c then some a else none) = some b) : c ∧ a = b := by
  by_cases hc : c
  · rw [if_pos hc] at h; exact ⟨hc, Option.some.inj h⟩
  · rw [if_neg hc] at h; cases h
theorem o_j {c : Prop} [Decidable c] {α : Type} {x : Option α} {b : α} (h : (if c then x else none) = some b) : c ∧ x = some b := by
  by_cases hc : c
  · rw [if_pos hc] at h; exact ⟨hc, h⟩
  · rw [if_neg hc] at h; cases h
theorem oK_sI (σ : Hp) (a k : Nat) (v : Int32) : oK (sI σ a k v) = oK σ := rfl
theorem oZ_sI (σ : Hp) (a k : Nat) (v : Int32) : oZ (sI σ a k v) = oZ σ := rfl
theorem oI_sI (σ : Hp) (a k : Nat) (v : Int32) : oI (sI σ a k v) = up2 (oI σ) a k v := rfl
theorem oR_sI (σ : Hp) (a k : Nat) (v : Int32) : oR (sI σ a k v) = oR σ := rfl
theorem oN_sI (σ : Hp) (a k : Nat) (v : Int32) : oN (sI σ a k v) = oN σ := rfl
theorem oK_sR (σ : Hp) (a k v : Nat) : oK (sR σ a k v) = oK σ := rfl
theorem oZ_sR (σ : Hp) (a k v : Nat) : oZ (sR σ a k v) = oZ σ := rfl
theorem oI_sR (σ : Hp) (a k v : Nat) : oI (sR σ a k v) = oI σ := rfl
theorem oR_sR (σ : Hp) (a k v : Nat) : oR (sR σ a k v) = up2 (oR σ) a k (some v) := rfl
theorem oN_sR (σ : Hp) (a k v : Nat) : oN (sR σ a k v) = oN σ := rfl
theorem oK_sC (σ : Hp) (a0 a sp dp n : Nat) : oK (sC σ a0 a sp dp n) = oK σ := rfl
theorem oZ_sC (σ : Hp) (a0 a sp dp n : Nat) : oZ (sC σ a0 a sp dp n) = oZ σ := rfl
theorem oI_sC (σ : Hp) (a0 a sp dp n : Nat) : oI (sC σ a0 a sp dp n) = va_up (oI σ) a (va_cpy (oI σ a0) (oI σ a) sp dp n) := rfl
theorem oR_sC (σ : Hp) (a0 a sp dp n : Nat) : oR (sC σ a0 a sp dp n) = oR σ := rfl
theorem oN_sC (σ : Hp) (a0 a sp dp n : Nat) : oN (sC σ a0 a sp dp n) = oN σ := rfl
theorem oK_nw (σ : Hp) (kd len : Nat) : oK (nw σ kd len) = va_up (oK σ) (oN σ) kd := rfl
theorem oZ_nw (σ : Hp) (kd len : Nat) : oZ (nw σ kd len) = va_up (oZ σ) (oN σ) len := rfl
theorem oI_nw (σ : Hp) (kd len : Nat) : oI (nw σ kd len) = va_up (oI σ) (oN σ) (fun _ => 0) := rfl
theorem oR_nw (σ : Hp) (kd len : Nat) : oR (nw σ kd len) = va_up (oR σ) (oN σ) (fun _ => none) := rfl
theorem oN_nw (σ : Hp) (kd len : Nat) : oN (nw σ kd len) = oN σ + 1 := rfl
/-! the world under change -/
theorem oAt_congr {G : Gm} {σ σ' : Hp} {b : Nat} {H H1 : Heap} (h1 : oK σ' b = oK σ b) (h2 : oZ σ' b = oZ σ b) (h3 : oI σ' b = oI σ b) (h4 : oR σ' b = oR σ b) (hH : H1[b]? = H[b]?) (h : oAt G σ b H) : oAt G σ' b H1 := by
  have hF : oF σ' b = oF σ b := by funext j; unfold oF; rw [h1, h3, h4]
  have hV : oV σ' b = oV σ b := by funext j; unfold oV; rw [h1, h3, h4]
  unfold oAt at h ⊢
  rw [h1, h2, hF, hV]
  by_cases hk : oK σ b < 13
  · rw [if_pos hk] at h ⊢; exact h.kept hH
  · rw [if_neg hk] at h ⊢; exact hH.trans h
theorem mAt_kept {G : Gm} {μ : Mu} {o : Int64} {j : Nat} {H H1 : Heap} (hH : H1[gM G j]? = H[gM G j]?) (h : mAt G μ o j H) : mAt G μ o j H1 := by
  unfold mAt at h ⊢
  by_cases h0 : j = 200
  · subst h0; rw [if_pos rfl] at h ⊢; exact h.kept hH
  · rw [if_neg h0] at h ⊢
    by_cases h1 : j = 201
    · subst h1; rw [if_pos rfl] at h ⊢; exact hH.trans h
    · rw [if_neg h1] at h ⊢; exact hH.trans h
theorem mAt_lt {G : Gm} {μ : Mu} {o : Int64} {j : Nat} {H : Heap} (h : mAt G μ o j H) : gM G j < H.size := by
  unfold mAt at h
  by_cases h0 : j = 200
  · subst h0; rw [if_pos rfl] at h; obtain ⟨cell, h, -⟩ := h; exact (Array.getElem?_eq_some_iff.mp h).1
  · rw [if_neg h0] at h
    by_cases h1 : j = 201
    · subst h1; rw [if_pos rfl] at h; exact (Array.getElem?_eq_some_iff.mp h).1
    · rw [if_neg h1] at h; exact (Array.getElem?_eq_some_iff.mp h).1
theorem Wd.up {G : Gm} {σ σ' : Hp} {μ : Mu} {o : Int64} {H H1 : Heap} (hW : Wd G (σ, μ, o) H) (h1 : oK σ' = oK σ) (h2 : oZ σ' = oZ σ) (h5 : oN σ' = oN σ) (a : Nat) (ha : oK σ a ≠ 99) (h3 : ∀ b, b ≠ a → oI σ' b = oI σ b ∧ oR σ' b = oR σ b) (hA : oAt G σ' a H1) (z : H1.size = H.size) (oq : ∀ q, q ≠ a → H1[q]? = H[q]?) : Wd G (σ', μ, o) H1 := by
  obtain ⟨w1, w2, w3, w4, w5, w6⟩ := hW
  have hlo := (w2 a ha).1
  refine ⟨by rw [z]; exact w1.trans h5.symm, fun b hb => ?_, fun j hj => ?_, w4, fun b hb => ?_, by rw [z]; exact w6⟩
  · have hb' : oK σ b ≠ 99 := by rw [← h1]; exact hb
    refine ⟨(w2 b hb').1, by show b < oN σ'; rw [h5]; exact (w2 b hb').2.1, ?_⟩
    by_cases hba : b = a
    · subst hba; exact hA
    · exact oAt_congr (by rw [h1]) (by rw [h2]) (h3 b hba).1 (h3 b hba).2 (oq b hba) (w2 b hb').2.2
  · obtain ⟨x1, x2, x3⟩ := w3 j hj
    refine ⟨x1, by show oK σ' _ = 99; rw [h1]; exact x2, mAt_kept (oq _ fun e => ha ?_) x3⟩
    rw [← e]; exact x2
  · exact (oq b (by omega)).trans (w5 b hb)
theorem Wd.um {G : Gm} {σ : Hp} {μ μ' : Mu} {o o' : Int64} {H H1 : Heap} (hW : Wd G (σ, μ, o) H) (j0 : Nat) (hj0 : j0 ∈ gF G) (hk : ∀ j, j ≠ j0 → mAt G μ o j H → mAt G μ' o' j H) (hA : mAt G μ' o' j0 H1) (z : H1.size = H.size) (oq : ∀ q, q ≠ gM G j0 → H1[q]? = H[q]?) : Wd G (σ, μ', o') H1 := by
  obtain ⟨w1, w2, w3, w4, w5, w6⟩ := hW
  obtain ⟨x1, x2, x3⟩ := w3 j0 hj0
  refine ⟨by rw [z]; exact w1, fun b hb => ?_, fun j hj => ?_, w4, fun b hb => ?_, by rw [z]; exact w6⟩
  · refine ⟨(w2 b hb).1, (w2 b hb).2.1, oAt_congr rfl rfl rfl rfl (oq b fun e => hb ?_) (w2 b hb).2.2⟩
    rw [e]; exact x2
  · by_cases hjj : j = j0
    · subst hjj; exact ⟨x1, x2, hA⟩
    · obtain ⟨u1, u2, u3⟩ := w3 j hj
      exact ⟨u1, u2, mAt_kept (oq _ fun e => hjj (w4 j hj j0 hj0 e)) (hk j hjj u3)⟩
  · exact (oq b (by omega)).trans (w5 b hb)
theorem Wd.newc {G : Gm} {σ : Hp} {μ : Mu} {o : Int64} {H H1 : Heap} (hW : Wd G (σ, μ, o) H) {kd len : Nat} (hA : oAt G (nw σ kd len) H.size H1) (z : H1.size = H.size + 1) (oq : ∀ q, q < H.size → H1[q]? = H[q]?) : Wd G (nw σ kd len, μ, o) H1 := by
  obtain ⟨w1, w2, w3, w4, w5, w6⟩ := hW
  have w1' : H.size = oN σ := w1
  have hne : ∀ b, b < H.size → b ≠ oN σ := fun b hb => by omega
  refine ⟨by show H1.size = oN σ + 1; omega, fun b hb => ?_, fun j hj => ?_, w4, fun b hb => ?_, by omega⟩
  · by_cases hba : b = oN σ
    · subst hba; rw [← w1']; exact ⟨w6, by show H.size < oN σ + 1; omega, hA⟩
    · have hb' : oK σ b ≠ 99 := by
        have e : oK (nw σ kd len) b = oK σ b := va_up_ne _ _ hba
        rw [← e]; exact hb
      obtain ⟨u1, u2, u3⟩ := w2 b hb'
      have u2' : b < oN σ := u2
      exact ⟨u1, by show b < oN σ + 1; omega, oAt_congr (va_up_ne _ _ hba) (va_up_ne _ _ hba) (va_up_ne _ _ hba) (va_up_ne _ _ hba) (oq b (by omega)) u3⟩
  · obtain ⟨x1, x2, x3⟩ := w3 j hj
    have hl := mAt_lt x3
    exact ⟨x1, (va_up_ne _ _ (hne _ hl)).trans x2, mAt_kept (oq _ hl) x3⟩
  · exact (oq b (by omega)).trans (w5 b hb)
theorem Ks.same {G : Gm} {u U : State} (h : u.vm = U.vm) (hK : Ks G u) : Ks G U := ⟨va_K.moved (by rw [h]; exact Vm.Alike.refl _) hK.1, fun q hq => va_Nw.same rfl h (hK.2.1 q hq), fun C hC => va_AO.moved (by rw [h]; exact Vm.Alike.refl _) (hK.2.2.1 C hC), hK.2.2.2.same h⟩
/-! contracts -/
def Pw (G : Gm) (as : List Value) (w : Wt) : Array Value → State → Prop := va_Pc as (fun U => Wd G w U.heap ∧ Ks G U)
def Ci (G : Gm) (y : MethodName) (cc : ByteArray) (nL : Nat) (ret : Option FieldType) (rm : Room) (as : List Value) (w : Wt) (r : Int32) (w' : Wt) (mc ms : Nat) : Prop := Met (gl G) y (wsU y cc nL ret) rm (Pw G as w) (va_Qi (fun (r' : Int32) (_ : Unit) => r' = r) (fun _ t => Wd G w' t.heap) (gA G)) mc ms (gA G)
def Cv (G : Gm) (y : MethodName) (cc : ByteArray) (nL : Nat) (ret : Option FieldType) (rm : Room) (as : List Value) (w w' : Wt) (mc ms : Nat) : Prop := Met (gl G) y (wsU y cc nL ret) rm (Pw G as w) (va_Qv (fun (_ : Unit) => True) (fun _ t => Wd G w' t.heap) (gA G)) mc ms (gA G)
def Cr (G : Gm) (y : MethodName) (cc : ByteArray) (nL : Nat) (ret : Option FieldType) (rm : Room) (as : List Value) (w : Wt) (r : Nat) (w' : Wt) (mc ms : Nat) : Prop := Met (gl G) y (wsU y cc nL ret) rm (Pw G as w) (va_Qr (fun (_ : Unit) => True) (fun _ a t => a = r ∧ Wd G w' t.heap) (gA G)) mc ms (gA G)
def zI (G : Gm) (r : Int32) (w' : Wt) (mc ms : Nat) : ZT := fun _ _ s _ args below _ _ => MQ below (va_Qi (fun (r' : Int32) (_ : Unit) => r' = r) (fun _ t => Wd G w' t.heap) (gA G)) args s mc ms (gA G)
def zV (G : Gm) (w' : Wt) (mc ms : Nat) : ZT := fun _ _ s _ args below _ _ => MQ below (va_Qv (fun (_ : Unit) => True) (fun _ t => Wd G w' t.heap) (gA G)) args s mc ms (gA G)
def zR (G : Gm) (r : Nat) (w' : Wt) (mc ms : Nat) : ZT := fun _ _ s _ args below _ _ => MQ below (va_Qr (fun (_ : Unit) => True) (fun _ a t => a = r ∧ Wd G w' t.heap) (gA G)) args s mc ms (gA G)
theorem met_ofW {l : Launch} {y : MethodName} {ws ws' : List Cond} {rm : Room} {Pc : Array Value → State → Prop} {Qc : Array Value → State → Outcome → State → Prop} {mc ms : Nat} {free : Addr → Prop} {cc : ByteArray} {maxL : Nat} {ret : Option FieldType}
    (hy : plainFor y = true) (hw : ws = Cond.code y cc maxL ret :: ws')
    (body : ∀ p e s m args below meth c s₁, BodyLoose p l y (headSpec ws rm) cc maxL ret e s m args below meth c s₁ → c.maxLocals = maxL → Pc args s →
      W p l e (headSpec ws rm).room s m args below meth c s.heap [] 0 0 (MQ below Qc args s mc ms free) (entryFrame m args maxL)) : Met l y ws rm Pc Qc mc ms free := by
  refine MetFree.of_bodySF (code := cc) (maxLocals := maxL) (ret := ret) hy ?_ ?_
  · intro args s m h hn
    obtain ⟨meth, c, h1, h2, h3, h4, h5, h6, -, -⟩ := Cond.code_spec hn (atoms_spec (ws := ws) h _ (by rw [hw]; exact List.mem_cons_self))
    exact ⟨meth, c, h1, h2, h3, h4, h5, h6⟩
  · intro p e s m args below meth c s₁ B hml hP _
    have hh0 : s₁.heap = s.heap := by rw [B.state]; rfl
    obtain ⟨t, a1, o, b1, b2, b3⟩ := body p e s m args below meth c s₁ B hml hP s₁ hh0 (Stand.of_body B)
    exact ⟨t, o, a1, b1, b2, ⟨b3.1, b3.2⟩⟩
theorem v_ofW {G : Gm} {y : MethodName} {cc : ByteArray} {nL : Nat} {ret : Option FieldType} {rm : Room} {as : List Value} {w : Wt} {Qc : Array Value → State → Outcome → State → Prop} {mc ms : Nat} (hn : plainFor y = true) (hlen : (lg_sl as).length ≤ nL) (lv : List (Nat × Value)) (hlv : lv_args 0 as = lv)
    (h : V G y cc nL ret rm (fun _ _ s _ args below _ _ => MQ below Qc args s mc ms (gA G)) w 0 0 0 lv []) : Met (gl G) y (wsU y cc nL ret) rm (Pw G as w) Qc mc ms (gA G) := by
  subst hlv
  refine met_ofW (cc := cc) (maxL := nL) (ret := ret) hn rfl ?_
  intro p e s m args below meth c s₁ B hml hv
  obtain ⟨rfl, hW, hK⟩ := hv
  have hts := atoms_spec (ws := wsU y cc nL ret) B.pre
  have hl := lv_entry as (n := nL) hlen
  rw [lg_entry_eq]
  exact h p e s m _ below meth c s.heap [] _ ⟨B.exec, B.bytes, hml, findClass_of_methodNamed B.named, fun w hw => hts w (List.mem_cons_of_mem _ hw), B.notSynchronized, hK, hW.2.2.2.2.2, B.returns, (name_of_methodNamed B.named B.method).1, B.named, B.method, (Stand.of_body B).code⟩ hW va_S.rf hl
theorem v_entI {G : Gm} {y : MethodName} {cc : ByteArray} {nL : Nat} {ret : Option FieldType} {rm : Room} {as : List Value} {w w' : Wt} {r : Int32} {mc ms : Nat} (lv : List (Nat × Value)) (hn : plainFor y = true) (hlen : (lg_sl as).length ≤ nL) (hlv : lv_args 0 as = lv) (h : V G y cc nL ret rm (zI G r w' mc ms) w 0 0 0 lv []) : Ci G y cc nL ret rm as w r w' mc ms := v_ofW hn hlen lv hlv h
theorem v_entV {G : Gm} {y : MethodName} {cc : ByteArray} {nL : Nat} {ret : Option FieldType} {rm : Room} {as : List Value} {w w' : Wt} {mc ms : Nat} (lv : List (Nat × Value)) (hn : plainFor y = true) (hlen : (lg_sl as).length ≤ nL) (hlv : lv_args 0 as = lv) (h : V G y cc nL ret rm (zV G w' mc ms) w 0 0 0 lv []) : Cv G y cc nL ret rm as w w' mc ms := v_ofW hn hlen lv hlv h
theorem v_entR {G : Gm} {y : MethodName} {cc : ByteArray} {nL : Nat} {ret : Option FieldType} {rm : Room} {as : List Value} {w w' : Wt} {r : Nat} {mc ms : Nat} (lv : List (Nat × Value)) (hn : plainFor y = true) (hlen : (lg_sl as).length ≤ nL) (hlv : lv_args 0 as = lv) (h : V G y cc nL ret rm (zR G r w' mc ms) w 0 0 0 lv []) : Cr G y cc nL ret rm as w r w' mc ms := v_ofW hn hlen lv hlv h
section VHEAP
variable {G : Gm} {y : MethodName} {cc : ByteArray} {nL : Nat} {ret : Option FieldType} {R : Room} {Z : ZT} {w : Wt} {σ : Hp} {μ : Mu} {o : Int64} {c k pc q : Nat} {lv : List (Nat × Value)} {st : List Value}
/-! ends -/
theorem v_iret {r : Int32} {mc ms : Nat} {ty : FieldType} (hr : ret = some ty) (hn : narrow ty (.int r) = .int r) (hc : c ≤ mc) (hk : k ≤ ms) (d : decode cc pc = .ok (.ireturn, 1)) : V G y cc nL ret R (zI G r w mc ms) w c k pc lv [.int r] := by
  intro p e s m args below meth co H locs ls C hW hS hl
  refine W.widen (k := mc) (n := ms) hc hk ?_
  exact W.zret (v := r) C.1 C.2.1 (C.2.2.2.2.2.2.2.2.1.trans hr) hn (fun t ht hV => ⟨⟨r, (), rfl, rfl, by show Wd G w t.heap; rw [ht]; exact hW⟩, hS.F ht⟩) hS.2.2 d (hlocks := C.2.2.2.2.2.1)
theorem v_vret {mc ms : Nat} (hr : ret = none) (hc : c ≤ mc) (hk : k ≤ ms) (d : decode cc pc = .ok (.return_, 1)) : V G y cc nL ret R (zV G w mc ms) w c k pc lv [] := by
  intro p e s m args below meth co H locs ls C hW hS hl
  refine W.widen (k := mc) (n := ms) hc hk ?_
  exact W.vret C.1 C.2.1 (C.2.2.2.2.2.2.2.2.1.trans hr) (fun t ht hV => ⟨⟨(), rfl, trivial, by show Wd G w t.heap; rw [ht]; exact hW⟩, hS.F ht⟩) hS.2.2 d (hlocks := C.2.2.2.2.2.1)
theorem v_aret {r : Nat} {mc ms : Nat} {n : String} (hr : ret = some (.object n)) (hc : c ≤ mc) (hk : k ≤ ms) (d : decode cc pc = .ok (.areturn, 1)) : V G y cc nL ret R (zR G r w mc ms) w c k pc lv [.ref r] := by
  intro p e s m args below meth co H locs ls C hW hS hl
  refine W.widen (k := mc) (n := ms) hc hk ?_
  exact W.aret (v := .ref r) C.1 C.2.1 (C.2.2.2.2.2.2.2.2.1.trans hr) (Or.inl ⟨n, rfl⟩) (Or.inr ⟨r, rfl⟩) (fun t ht hV => ⟨⟨(), r, rfl, trivial, rfl, by show Wd G w t.heap; rw [ht]; exact hW⟩, hS.F ht⟩) hS.2.2 d (hlocks := C.2.2.2.2.2.1)
/-! fields -/
theorem w_get {p : Program} {e : Env} {s : State} {m : MethodId} {args : Array Value} {below : List Frame} {meth : Method} {co : Code} {H : Heap} {locs : List Loc} {ls : Array Slot} {Q : State → Prop} (C : Cx G y cc nL ret p s m args meth co) {a ci j i : Nat} {f : Nat → Value} {v : Value} (hob : t_OB a ((gD G).1 ci) (cN ci) ((gD G).2 ci) H f) (hv : f j = v) (hci : ci < 13) (hj : j < cN ci) (hw : Cond.fieldLink y.cls i (cT ci j).1 (cT ci j).2.1 (cT ci j).2.2.1 ∈ gwT) (d : decode cc pc = .ok (.getfield i, 3))
    (kk : W p (gl G) e R s m args below meth co H locs c k Q (F0 m (pc + 3) ls (v :: st))) : W p (gl G) e R s m args below meth co H locs c k Q (F0 m pc ls (.ref a :: st)) := by
  obtain ⟨cell, q1, q2, q3, q4⟩ := hob
  obtain ⟨hS9, hfc, kC, hkC, hkind⟩ := C.2.2.2.2.2.2.1.1.1 ci _ (c_at hci)
  obtain ⟨cf, kf, fi, f9, hi, hsl⟩ := hS9 j hj
  refine W.getf C.1 C.2.1 C.2.2.2.1 (C.2.2.2.2.1 _ hw) hi (u_facts hfc hkC (u_lays C.2.2.2.2.1 (c_in hci) hj) hi).1 q1 (by rw [q3]; exact fun h => by cases h) (v := v) ?_ rfl rfl d kk
  rw [hsl, q4 j hj, hv]
theorem w_put {p : Program} {e : Env} {s : State} {m : MethodId} {args : Array Value} {below : List Frame} {meth : Method} {co : Code} {H : Heap} {locs : List Loc} {ls : Array Slot} {Q : State → Prop} (C : Cx G y cc nL ret p s m args meth co) {a ci j i : Nat} {f : Nat → Value} {v : Value} {ty : FieldType} (hob : t_OB a ((gD G).1 ci) (cN ci) ((gD G).2 ci) H f) (hci : ci < 13) (hj : j < cN ci) (hw : Cond.fieldLink y.cls i (cT ci j).1 (cT ci j).2.1 (cT ci j).2.2.1 ∈ gwT) (hfin : (cT ci j).2.2.2 = false) (hty : cY ci j = ty) (hn : narrow ty v = v) (hfit : fits ty v = true) (d : decode cc pc = .ok (.putfield i, 3))
    (kk : ∀ (H1 : Heap) (z : Nat), t_OB a ((gD G).1 ci) (cN ci) ((gD G).2 ci) H1 (updV f j v) → H1.size = H.size → (∀ q, q ≠ a → H1[q]? = H[q]?) → W p (gl G) e R s m args below meth co H1 (locs ++ [⟨a, z⟩]) c k Q (F0 m (pc + 3) ls st)) : W p (gl G) e R s m args below meth co H locs c k Q (F0 m pc ls (v :: .ref a :: st)) := by
  have hd : parseFieldDescriptor (cT ci j).2.2.1 = some ty := by rw [← hty]; exact c_ty hci j hj
  have hap := va_apart (own := y.cls) C.2.2.2.2.1 (c_in hci) (cY ci) (c_ty hci) (c_nm hci) C.2.2.2.2.2.2.1.1 (c_at hci)
  obtain ⟨cell, q1, q2, q3, q4⟩ := hob
  obtain ⟨hS9, hfc, kC, hkC, hkind⟩ := C.2.2.2.2.2.2.1.1.1 ci _ (c_at hci)
  obtain ⟨cf, kf, fi, f9, hi, hsl⟩ := hS9 j hj
  have hlay := C.2.2.2.2.1 _ (c_in hci _ (u_in_lay hj))
  unfold u_lay at hlay
  rw [if_neg (by rw [hfin]; decide)] at hlay
  have hst := (u_facts hfc hkC (u_lays C.2.2.2.2.1 (c_in hci) hj) hi).1
  have h6 := u_store hfc hkC hkind hlay hi hd hn hfit
  refine W.putK C.1 C.2.1 (f := f9) ⟨C.2.2.2.1, C.2.2.2.2.1 _ hw, ⟨_, _, _, hi⟩, hst⟩ (by rw [q2]; exact h6) q1 q3 (by rw [hsl]; exact k2_hasslot (q4 j hj)) rfl rfl d fun H' e1 e2 e3 => ?_
  rw [hsl] at e1 ⊢
  exact kk H' _ ⟨_, e1, q2, q3, t_set q4 hap hj v⟩ e2 e3
theorem w_putF {p : Program} {e : Env} {s : State} {m : MethodId} {args : Array Value} {below : List Frame} {meth : Method} {co : Code} {H : Heap} {locs : List Loc} {ls : Array Slot} {Q : State → Prop} (C : Cx G y cc nL ret p s m args meth co) {a ci j i : Nat} {f : Nat → Value} {v : Value} {ty : FieldType} (hob : t_OB a ((gD G).1 ci) (cN ci) ((gD G).2 ci) H f) (hci : ci < 13) (hj : j < cN ci) (hw : Cond.fieldLink y.cls i (cT ci j).1 (cT ci j).2.1 (cT ci j).2.2.1 ∈ gwT) (hfin : (cT ci j).2.2.2 = true) (hin : y.name = "<init>") (hdecl : (cT ci j).1 = y.cls) (hty : cY ci j = ty) (hn : narrow ty v = v) (hfit : fits ty v = true) (d : decode cc pc = .ok (.putfield i, 3))
    (kk : ∀ (H1 : Heap) (z : Nat), t_OB a ((gD G).1 ci) (cN ci) ((gD G).2 ci) H1 (updV f j v) → H1.size = H.size → (∀ q, q ≠ a → H1[q]? = H[q]?) → W p (gl G) e R s m args below meth co H1 (locs ++ [⟨a, z⟩]) c k Q (F0 m (pc + 3) ls st)) : W p (gl G) e R s m args below meth co H locs c k Q (F0 m pc ls (v :: .ref a :: st)) := by
  have hd : parseFieldDescriptor (cT ci j).2.2.1 = some ty := by rw [← hty]; exact c_ty hci j hj
  have hap := va_apart (own := y.cls) C.2.2.2.2.1 (c_in hci) (cY ci) (c_ty hci) (c_nm hci) C.2.2.2.2.2.2.1.1 (c_at hci)
  obtain ⟨cell, q1, q2, q3, q4⟩ := hob
  obtain ⟨hS9, hfc, kC, hkC, hkind⟩ := C.2.2.2.2.2.2.1.1.1 ci _ (c_at hci)
  obtain ⟨cf, kf, fi, f9, hi, hsl⟩ := hS9 j hj
  have hlay := C.2.2.2.2.1 _ (c_in hci _ (u_in_lay hj))
  unfold u_lay at hlay
  rw [if_pos hfin] at hlay
  have hst := (u_facts hfc hkC (u_lays C.2.2.2.2.1 (c_in hci) hj) hi).1
  have hcf : m.cls = cf := by
    obtain ⟨_, _, c', _, _, _, -, -, hf', -, -, -, hown2, -⟩ := Cond.laysFinal_spec hlay
    have e1 : c' = cf := by have := hi.symm.trans hf'; simp at this; exact this.1.symm
    rw [hdecl] at hown2
    rw [← e1]; exact Option.some.inj (C.2.2.2.1.symm.trans hown2)
  have h6 := u_fits hfc hkC hkind (Or.inr hlay) hi hd hn hfit
  refine W.putFinK C.1 C.2.1 C.2.2.2.1 (C.2.2.2.2.1 _ hw) hi hst hcf (C.2.2.2.2.2.2.2.2.2.1.trans hin) (by rw [q2]; exact h6) q1 q3 (by rw [hsl]; exact k2_hasslot (q4 j hj)) rfl rfl d fun H' e1 e2 e3 => ?_
  rw [hsl] at e1 ⊢
  exact kk H' _ ⟨_, e1, q2, q3, t_set q4 hap hj v⟩ e2 e3
theorem Wd.ob {H : Heap} (hW : Wd G (σ, μ, o) H) {a ci : Nat} (hK : oK σ a = ci) (hci : ci < 13) : t_OB a ((gD G).1 ci) (cN ci) ((gD G).2 ci) H (oF σ a) := by
  have h : oK σ a ≠ 99 := by omega
  have hA := (hW.2.1 a h).2.2
  unfold oAt at hA
  have e : (σ, μ, o).1 = σ := rfl
  rw [e, hK, if_pos hci] at hA
  exact hA
theorem Wd.arr {H : Heap} (hW : Wd G (σ, μ, o) H) {a kd : Nat} (hK : oK σ a = kd) (h13 : 13 ≤ kd) (h99 : kd ≠ 99) : H[a]? = some (arrV (gC G (kd - 13)) (oZ σ a) (oV σ a)) := by
  have h : oK σ a ≠ 99 := by omega
  have hA := (hW.2.1 a h).2.2
  unfold oAt at hA
  have e : (σ, μ, o).1 = σ := rfl
  rw [e, hK, if_neg (by omega)] at hA
  exact hA
theorem v_getI {ci a i j : Nat} {x : Int32} (hx : h_gI σ ci a j = some x) (hci : ci < 13) (hj : j < cN ci) (hty : isI (cY ci j) = true) (hw : Cond.fieldLink y.cls i (cT ci j).1 (cT ci j).2.1 (cT ci j).2.2.1 ∈ gwT) (d : decode cc pc = .ok (.getfield i, 3)) (hq : pc + 3 = q) (kk : V G y cc nL ret R Z (σ, μ, o) c k q lv (.int x :: st)) : V G y cc nL ret R Z (σ, μ, o) c k pc lv (.ref a :: st) := by
  subst hq
  intro p e s m args below meth co H locs ls C hW hS hl
  obtain ⟨hK, hx⟩ := o_i hx
  exact w_get C (hW.ob hK hci) (v := .int x) (by unfold oF; rw [hK, if_pos hty, hx]) hci hj hw d (kk p e s m args below meth co H locs ls C hW hS hl)
theorem v_getR {ci a i j : Nat} {x : Nat} (hx : h_gR σ ci a j = some x) (hci : ci < 13) (hj : j < cN ci) (hty : isI (cY ci j) = false) (hw : Cond.fieldLink y.cls i (cT ci j).1 (cT ci j).2.1 (cT ci j).2.2.1 ∈ gwT) (d : decode cc pc = .ok (.getfield i, 3)) (hq : pc + 3 = q) (kk : V G y cc nL ret R Z (σ, μ, o) c k q lv (.ref x :: st)) : V G y cc nL ret R Z (σ, μ, o) c k pc lv (.ref a :: st) := by
  subst hq
  intro p e s m args below meth co H locs ls C hW hS hl
  obtain ⟨hK, hx⟩ := o_j hx
  exact w_get C (hW.ob hK hci) (v := .ref x) (by unfold oF; rw [hK, if_neg (by rw [hty]; decide), hx]; rfl) hci hj hw d (kk p e s m args below meth co H locs ls C hW hS hl)
theorem Wd.stI {H H1 : Heap} (hW : Wd G (σ, μ, o) H) {a ci j : Nat} {v : Int32} (hK : oK σ a = ci) (hci : ci < 13) (hty : isI (cY ci j) = true) (hob : t_OB a ((gD G).1 ci) (cN ci) ((gD G).2 ci) H1 (updV (oF σ a) j (.int v))) (z : H1.size = H.size) (oq : ∀ q, q ≠ a → H1[q]? = H[q]?) : Wd G (sI σ a j v, μ, o) H1 := by
  refine hW.up (σ' := sI σ a j v) rfl rfl rfl a (by omega) (fun b hb => ⟨?_, rfl⟩) ?_ z oq
  · funext x; show up2 _ _ _ _ _ _ = _; simp [up2, hb]
  · unfold oAt
    have e : oK (sI σ a j v) a = ci := hK
    rw [e, if_pos hci]
    refine hob.to fun x _ => ?_
    have hK' : oK (sI σ a j v) a = ci := hK
    by_cases hx : x = j
    · subst hx; simp [updV, oF, oK_sI, oI_sI, hK, hty, up2]
    · simp [updV, oF, oK_sI, oI_sI, oR_sI, hK, hx, up2]
theorem Wd.stR {H H1 : Heap} (hW : Wd G (σ, μ, o) H) {a ci j v : Nat} (hK : oK σ a = ci) (hci : ci < 13) (hty : isI (cY ci j) = false) (hob : t_OB a ((gD G).1 ci) (cN ci) ((gD G).2 ci) H1 (updV (oF σ a) j (.ref v))) (z : H1.size = H.size) (oq : ∀ q, q ≠ a → H1[q]? = H[q]?) : Wd G (sR σ a j v, μ, o) H1 := by
  refine hW.up (σ' := sR σ a j v) rfl rfl rfl a (by omega) (fun b hb => ⟨rfl, ?_⟩) ?_ z oq
  · funext x; show up2 _ _ _ _ _ _ = _; simp [up2, hb]
  · unfold oAt
    have e : oK (sR σ a j v) a = ci := hK
    rw [e, if_pos hci]
    refine hob.to fun x _ => ?_
    have hK' : oK (sR σ a j v) a = ci := hK
    by_cases hx : x = j
    · subst hx; simp [updV, oF, oK_sR, oR_sR, hK, hty, up2, va_rf]
    · simp [updV, oF, oK_sR, oI_sR, oR_sR, hK, hx, up2]
theorem v_putI {ci a i j : Nat} {x : Int32} {σ' : Hp} {ty : FieldType} (hx : h_pI σ ci a j x = some σ') (hci : ci < 13) (hj : j < cN ci) (hty : cY ci j = ty) (hfin : (cT ci j).2.2.2 = false) (hn : narrow ty (.int x) = .int x) (hfit : fits ty (.int x) = true) (hI : isI ty = true) (hw : Cond.fieldLink y.cls i (cT ci j).1 (cT ci j).2.1 (cT ci j).2.2.1 ∈ gwT) (d : decode cc pc = .ok (.putfield i, 3)) (hq : pc + 3 = q) (kk : V G y cc nL ret R Z (σ', μ, o) c k q lv st) : V G y cc nL ret R Z (σ, μ, o) c k pc lv (.int x :: .ref a :: st) := by
  subst hq
  intro p e s m args below meth co H locs ls C hW hS hl
  obtain ⟨hK, rfl⟩ := o_i hx
  refine w_put C (hW.ob hK hci) hci hj hw hfin hty hn hfit d (fun H1 z h1 h2 h3 => ?_)
  exact kk p e s m args below meth co H1 _ ls C (hW.stI hK hci (by rw [hty]; exact hI) h1 h2 h3) (hS.put h2 h3 (hW.2.1 a (by show oK σ a ≠ 99; omega)).1) hl
theorem v_putR {ci a i j : Nat} {x : Nat} {σ' : Hp} {n : String} (hx : h_pR σ ci a j x = some σ') (hci : ci < 13) (hj : j < cN ci) (hty : cY ci j = .object n) (hfin : (cT ci j).2.2.2 = false) (hw : Cond.fieldLink y.cls i (cT ci j).1 (cT ci j).2.1 (cT ci j).2.2.1 ∈ gwT) (d : decode cc pc = .ok (.putfield i, 3)) (hq : pc + 3 = q) (kk : V G y cc nL ret R Z (σ', μ, o) c k q lv st) : V G y cc nL ret R Z (σ, μ, o) c k pc lv (.ref x :: .ref a :: st) := by
  subst hq
  intro p e s m args below meth co H locs ls C hW hS hl
  obtain ⟨hK, rfl⟩ := o_i hx
  refine w_put C (hW.ob hK hci) hci hj hw hfin hty rfl rfl d (fun H1 z h1 h2 h3 => ?_)
  exact kk p e s m args below meth co H1 _ ls C (hW.stR hK hci (by rw [hty]; rfl) h1 h2 h3) (hS.put h2 h3 (hW.2.1 a (by show oK σ a ≠ 99; omega)).1) hl
theorem v_putFI {ci a i j : Nat} {x : Int32} {σ' : Hp} {ty : FieldType} (hx : h_pI σ ci a j x = some σ') (hci : ci < 13) (hj : j < cN ci) (hty : cY ci j = ty) (hfin : (cT ci j).2.2.2 = true) (hin : y.name = "<init>") (hdecl : (cT ci j).1 = y.cls) (hn : narrow ty (.int x) = .int x) (hfit : fits ty (.int x) = true) (hI : isI ty = true) (hw : Cond.fieldLink y.cls i (cT ci j).1 (cT ci j).2.1 (cT ci j).2.2.1 ∈ gwT) (d : decode cc pc = .ok (.putfield i, 3)) (hq : pc + 3 = q) (kk : V G y cc nL ret R Z (σ', μ, o) c k q lv st) : V G y cc nL ret R Z (σ, μ, o) c k pc lv (.int x :: .ref a :: st) := by
  subst hq
  intro p e s m args below meth co H locs ls C hW hS hl
  obtain ⟨hK, rfl⟩ := o_i hx
  refine w_putF C (hW.ob hK hci) hci hj hw hfin hin hdecl hty hn hfit d (fun H1 z h1 h2 h3 => ?_)
  exact kk p e s m args below meth co H1 _ ls C (hW.stI hK hci (by rw [hty]; exact hI) h1 h2 h3) (hS.put h2 h3 (hW.2.1 a (by show oK σ a ≠ 99; omega)).1) hl
theorem v_putFR {ci a i j : Nat} {x : Nat} {σ' : Hp} {ty : FieldType} (hx : h_pR σ ci a j x = some σ') (hci : ci < 13) (hj : j < cN ci) (hty : cY ci j = ty) (hfin : (cT ci j).2.2.2 = true) (hin : y.name = "<init>") (hdecl : (cT ci j).1 = y.cls) (hn : narrow ty (.ref x) = .ref x) (hfit : fits ty (.ref x) = true) (hI : isI ty = false) (hw : Cond.fieldLink y.cls i (cT ci j).1 (cT ci j).2.1 (cT ci j).2.2.1 ∈ gwT) (d : decode cc pc = .ok (.putfield i, 3)) (hq : pc + 3 = q) (kk : V G y cc nL ret R Z (σ', μ, o) c k q lv st) : V G y cc nL ret R Z (σ, μ, o) c k pc lv (.ref x :: .ref a :: st) := by
  subst hq
  intro p e s m args below meth co H locs ls C hW hS hl
  obtain ⟨hK, rfl⟩ := o_i hx
  refine w_putF C (hW.ob hK hci) hci hj hw hfin hin hdecl hty hn hfit d (fun H1 z h1 h2 h3 => ?_)
  exact kk p e s m args below meth co H1 _ ls C (hW.stR hK hci (by rw [hty]; exact hI) h1 h2 h3) (hS.put h2 h3 (hW.2.1 a (by show oK σ a ≠ 99; omega)).1) hl
/-! rows of ints and of references -/
theorem v_aI {a : Nat} {i x : Int32} (hx : h_aI σ a i = some x) (d : decode cc pc = .ok (.iaload, 1)) (hq : pc + 1 = q) (kk : V G y cc nL ret R Z (σ, μ, o) c k q lv (.int x :: st)) : V G y cc nL ret R Z (σ, μ, o) c k pc lv (.int i :: .ref a :: st) := by
  subst hq
  intro p e s m args below meth co H locs ls C hW hS hl
  obtain ⟨⟨hK, hin⟩, hx⟩ := o_i hx
  have hlt : i.toNatClampNeg < oZ σ a := Nat.not_le.mp fun q => hin (Or.inr q)
  exact W.iald (v := .int x) C.1 C.2.1 (hW.arr hK (by decide) (by decide)) ((C.2.2.2.2.2.2.1.1.2 0 _ rfl).1 _ _) (fun q => by cases q) (by show ¬ (i < 0 ∨ (arrV _ _ _).slots.size ≤ _); rw [arrV_size]; exact hin) (by show (arrV _ _ _).slots[_]? = _; rw [arrV_read _ _ hlt]; unfold oV; rw [hK, if_pos (by decide), hx]) rfl rfl d (kk p e s m args below meth co H locs ls C hW hS hl)
theorem v_aR {a kd : Nat} {i : Int32} {x : Nat} {n : String} (hx : h_aR σ kd a i = some x) (h15 : 15 ≤ kd) (h20 : kd < 20) (ht : (tysG G)[kd - 13]? = some (gC G (kd - 13), .object n)) (d : decode cc pc = .ok (.aaload, 1)) (hq : pc + 1 = q) (kk : V G y cc nL ret R Z (σ, μ, o) c k q lv (.ref x :: st)) : V G y cc nL ret R Z (σ, μ, o) c k pc lv (.int i :: .ref a :: st) := by
  subst hq
  intro p e s m args below meth co H locs ls C hW hS hl
  obtain ⟨⟨hK, hin⟩, hx⟩ := o_j hx
  have hlt : i.toNatClampNeg < oZ σ a := Nat.not_le.mp fun q => hin (Or.inr q)
  exact W.aald (v := .ref x) (ty := .object n) C.1 C.2.1 (hW.arr hK (by omega) (by omega)) ((C.2.2.2.2.2.2.1.1.2 _ _ ht).1 _ _) rfl (fun q => by cases q) (by show ¬ (i < 0 ∨ (arrV _ _ _).slots.size ≤ _); rw [arrV_size]; exact hin) (by show (arrV _ _ _).slots[_]? = _; rw [arrV_read _ _ hlt]; unfold oV; rw [hK, if_neg (by omega), hx]; rfl) rfl rfl d (kk p e s m args below meth co H locs ls C hW hS hl)
theorem v_aL {a kd : Nat} {x : Int32} {ty : FieldType} (hx : h_aL σ kd a = some x) (h13 : 13 ≤ kd) (h20 : kd < 20) (ht : (tysG G)[kd - 13]? = some (gC G (kd - 13), ty)) (d : decode cc pc = .ok (.arraylength, 1)) (hq : pc + 1 = q) (kk : V G y cc nL ret R Z (σ, μ, o) c k q lv (.int x :: st)) : V G y cc nL ret R Z (σ, μ, o) c k pc lv (.ref a :: st) := by
  subst hq
  intro p e s m args below meth co H locs ls C hW hS hl
  obtain ⟨hK, hx⟩ := o_i hx
  exact W.alen (n := x) C.1 C.2.1 (hW.arr hK (by omega) (by omega)) ((C.2.2.2.2.2.2.1.1.2 _ _ ht).1 _ _) (by rw [arrV_size]; exact hx) rfl rfl d (kk p e s m args below meth co H locs ls C hW hS hl)
theorem Wd.stA {H H1 : Heap} (hW : Wd G (σ, μ, o) H) {a i : Nat} {v : Int32} (hK : oK σ a = 13) (he : H1[a]? = some (arrV (gC G 0) (oZ σ a) (updV (oV σ a) i (.int v)))) (z : H1.size = H.size) (oq : ∀ q, q ≠ a → H1[q]? = H[q]?) : Wd G (sI σ a i v, μ, o) H1 := by
  refine hW.up (σ' := sI σ a i v) rfl rfl rfl a (by omega) (fun b hb => ⟨?_, rfl⟩) ?_ z oq
  · funext x; show up2 _ _ _ _ _ _ = _; simp [up2, hb]
  · unfold oAt
    have e : oK (sI σ a i v) a = 13 := hK
    rw [e, if_neg (by decide), he]
    congr 2
    funext x
    by_cases hx : x = i
    · subst hx; simp [updV, oV, oK_sI, oI_sI, hK, up2]
    · simp [updV, oV, oK_sI, oI_sI, oR_sI, hK, hx, up2]
theorem v_qI {a : Nat} {i x : Int32} {σ' : Hp} (hx : h_qI σ a i x = some σ') (d : decode cc pc = .ok (.iastore, 1)) (hq : pc + 1 = q) (kk : V G y cc nL ret R Z (σ', μ, o) c k q lv st) : V G y cc nL ret R Z (σ, μ, o) c k pc lv (.int x :: .int i :: .ref a :: st) := by
  subst hq
  intro p e s m args below meth co H locs ls C hW hS hl
  obtain ⟨⟨hK, hin⟩, rfl⟩ := o_i hx
  refine W.iast C.1 C.2.1 (hW.arr hK (by decide) (by decide)) ((C.2.2.2.2.2.2.1.1.2 0 _ rfl).1 _ _) (fun q => by cases q) (by show ¬ (i < 0 ∨ (arrV _ _ _).slots.size ≤ _); rw [arrV_size]; exact hin) rfl rfl d fun H1 he z oq => ?_
  rw [arrV_store] at he
  exact kk p e s m args below meth co H1 _ ls C (hW.stA hK he z oq) (hS.put z oq (hW.2.1 a (by show oK σ a ≠ 99; omega)).1) hl
theorem v_qR {a kd ci v : Nat} {i : Int32} {σ' : Hp} (hx : h_qR σ kd ci a i v = some σ') (h15 : 15 ≤ kd) (h20 : kd < 20) (hci : ci < 13) (ht : (tysG G)[kd - 13]? = some (gC G (kd - 13), .object (cC ci))) (d : decode cc pc = .ok (.aastore, 1)) (hq : pc + 1 = q) (kk : V G y cc nL ret R Z (σ', μ, o) c k q lv st) : V G y cc nL ret R Z (σ, μ, o) c k pc lv (.ref v :: .int i :: .ref a :: st) := by
  subst hq
  intro p e s m args below meth co H locs ls C hW hS hl
  obtain ⟨⟨⟨hK, hKv⟩, hin⟩, rfl⟩ := o_i hx
  have hlt : i.toNatClampNeg < oZ σ a := Nat.not_le.mp fun q => hin (Or.inr q)
  have h0 : ¬ i < 0 := fun q => hin (Or.inl q)
  obtain ⟨cellV, g1, g2, g3, -⟩ := hW.ob hKv hci
  have hcls := (C.2.2.2.2.2.2.1.1.1 ci _ (c_at hci)).2
  obtain ⟨kA, comp, k1, k2, k3, -⟩ := (C.2.2.2.2.2.2.1.1.2 _ _ ht).2
  have hcomp : comp = (gD G).1 ci := Option.some.inj (k3.symm.trans hcls.1)
  subst hcomp
  obtain ⟨kC, hkC, -⟩ := hcls.2
  refine W.aast C.1 C.2.1 (hW.arr hK (by omega) (by omega)) (fun q h => by cases h) (fun h => by cases h) k1 k2 rfl hkC ⟨h0, by show _ < (arrV _ _ _).slots.size; rw [arrV_size]; exact hlt⟩ g1 (fun q h => by rw [g3] at h; cases h) (by rw [g2]; exact hkC) (by rw [g2]; exact va_assign hcls) rfl rfl d fun H1 he z oq => ?_
  rw [arrV_store] at he
  refine kk p e s m args below meth co H1 _ ls C (hW.up (σ' := sR σ a i.toNatClampNeg v) rfl rfl rfl a (by omega) (fun b hb => ⟨rfl, ?_⟩) ?_ z oq) (hS.put z oq (hW.2.1 a (by show oK σ a ≠ 99; omega)).1) hl
  · funext x; show up2 _ _ _ _ _ _ = _; simp [up2, hb]
  · unfold oAt
    have e : oK (sR σ a i.toNatClampNeg v) a = kd := hK
    rw [e, if_neg (by omega), he]
    congr 2
    funext x
    have h15' : ¬ kd < 15 := by omega
    by_cases hx : x = i.toNatClampNeg
    · subst hx; simp [updV, oV, oK_sR, oR_sR, hK, h15', up2, va_rf]
    · simp [updV, oV, oK_sR, oR_sR, oI_sR, hK, hx, h15', up2]
/-! the reference's cells -/
theorem Wd.mo {H : Heap} (hW : Wd G (σ, μ, o) H) (h : 200 ∈ gF G) : t_OB (gM G 200) ((gD G).1 12) (cN 12) ((gD G).2 12) H (mF G μ) := by
  have hA := (hW.2.2.1 200 h).2.2
  unfold mAt at hA
  rw [if_pos rfl] at hA
  exact hA
theorem Wd.ma {H : Heap} (hW : Wd G (σ, μ, o) H) {j : Nat} (h : j ∈ gF G) (hj : j < 200) : H[gM G j]? = some (arrV (gC G (mK j)) (mZ j) (fun i => .int (μ.2 j i))) := by
  have hA := (hW.2.2.1 j h).2.2
  unfold mAt at hA
  rw [if_neg (by omega), if_neg (by omega)] at hA
  exact hA
theorem v_mI {i j : Nat} (h : 200 ∈ gF G) (hj : j < 79) (hty : isI (tyX12 j) = true) (hw : Cond.fieldLink y.cls i (cT 12 j).1 (cT 12 j).2.1 (cT 12 j).2.2.1 ∈ gwT) (d : decode cc pc = .ok (.getfield i, 3)) (hq : pc + 3 = q) (kk : V G y cc nL ret R Z (σ, μ, o) c k q lv (.int (μ.1 j) :: st)) : V G y cc nL ret R Z (σ, μ, o) c k pc lv (.ref (gM G 200) :: st) := by
  subst hq
  intro p e s m args below meth co H locs ls C hW hS hl
  exact w_get C (hW.mo h) (v := .int (μ.1 j)) (by unfold mF; rw [if_pos hty]) (by decide) hj hw d (kk p e s m args below meth co H locs ls C hW hS hl)
theorem v_mR {i j : Nat} (h : 200 ∈ gF G) (hj : j < 79) (hty : isI (tyX12 j) = false) (hw : Cond.fieldLink y.cls i (cT 12 j).1 (cT 12 j).2.1 (cT 12 j).2.2.1 ∈ gwT) (d : decode cc pc = .ok (.getfield i, 3)) (hq : pc + 3 = q) (kk : V G y cc nL ret R Z (σ, μ, o) c k q lv (.ref (gM G j) :: st)) : V G y cc nL ret R Z (σ, μ, o) c k pc lv (.ref (gM G 200) :: st) := by
  subst hq
  intro p e s m args below meth co H locs ls C hW hS hl
  exact w_get C (hW.mo h) (v := .ref (gM G j)) (by unfold mF; rw [if_neg (by rw [hty]; decide)]) (by decide) hj hw d (kk p e s m args below meth co H locs ls C hW hS hl)
theorem v_mP {i j : Nat} {x : Int32} {μ' : Mu} {ty : FieldType} (hx : m_P μ j x = some μ') (h : 200 ∈ gF G) (hj : j < 79) (hty : tyX12 j = ty) (hfin : (cT 12 j).2.2.2 = false) (hn : narrow ty (.int x) = .int x) (hfit : fits ty (.int x) = true) (hI : isI ty = true) (hw : Cond.fieldLink y.cls i (cT 12 j).1 (cT 12 j).2.1 (cT 12 j).2.2.1 ∈ gwT) (d : decode cc pc = .ok (.putfield i, 3)) (hq : pc + 3 = q) (kk : V G y cc nL ret R Z (σ, μ', o) c k q lv st) : V G y cc nL ret R Z (σ, μ, o) c k pc lv (.int x :: .ref (gM G 200) :: st) := by
  subst hq
  intro p e s m args below meth co H locs ls C hW hS hl
  have hx' : mS μ j x = μ' := Option.some.inj hx
  subst hx'
  refine w_put C (hW.mo h) (by decide) hj hw hfin hty hn hfit d (fun H1 z h1 h2 h3 => ?_)
  refine kk p e s m args below meth co H1 _ ls C (hW.um 200 h (fun j' hj' hA => ?_) ?_ h2 h3) (hS.put h2 h3 (hW.2.2.1 200 h).1) hl
  · unfold mAt at hA ⊢
    rw [if_neg hj'] at hA ⊢
    exact hA
  · unfold mAt
    rw [if_pos rfl]
    refine h1.to fun x' _ => ?_
    by_cases hx : x' = j
    · subst hx; simp [updV, mF, hty, hI, mS, va_up]
    · simp [updV, mF, hx, mS, va_up]
theorem v_mA {j : Nat} {i x : Int32} (hx : m_A μ j i = some x) (h : j ∈ gF G) (hj : j < 200) (hk : mK j = 0) (d : decode cc pc = .ok (.iaload, 1)) (hq : pc + 1 = q) (kk : V G y cc nL ret R Z (σ, μ, o) c k q lv (.int x :: st)) : V G y cc nL ret R Z (σ, μ, o) c k pc lv (.int i :: .ref (gM G j) :: st) := by
  subst hq
  intro p e s m args below meth co H locs ls C hW hS hl
  obtain ⟨hin, hx⟩ := o_i hx
  have hlt : i.toNatClampNeg < mZ j := Nat.not_le.mp fun q => hin (Or.inr q)
  have hA := hW.ma h hj
  rw [hk] at hA
  exact W.iald (v := .int x) C.1 C.2.1 hA ((C.2.2.2.2.2.2.1.1.2 0 _ rfl).1 _ _) (fun q => by cases q) (by show ¬ (i < 0 ∨ (arrV _ _ _).slots.size ≤ _); rw [arrV_size]; exact hin) (by show (arrV _ _ _).slots[_]? = _; rw [arrV_read _ _ hlt, hx]) rfl rfl d (kk p e s m args below meth co H locs ls C hW hS hl)
theorem v_mZ {j : Nat} {i x : Int32} (hx : m_A μ j i = some x) (h : j ∈ gF G) (hj : j < 200) (hk : mK j = 1) (d : decode cc pc = .ok (.baload, 1)) (hq : pc + 1 = q) (kk : V G y cc nL ret R Z (σ, μ, o) c k q lv (.int x :: st)) : V G y cc nL ret R Z (σ, μ, o) c k pc lv (.int i :: .ref (gM G j) :: st) := by
  subst hq
  intro p e s m args below meth co H locs ls C hW hS hl
  obtain ⟨hin, hx⟩ := o_i hx
  have hlt : i.toNatClampNeg < mZ j := Nat.not_le.mp fun q => hin (Or.inr q)
  have hA := hW.ma h hj
  rw [hk] at hA
  exact W.zald (v := .int x) C.1 C.2.1 hA ((C.2.2.2.2.2.2.1.1.2 1 _ rfl).1 _ _) (fun q => by cases q) (by show ¬ (i < 0 ∨ (arrV _ _ _).slots.size ≤ _); rw [arrV_size]; exact hin) (by show (arrV _ _ _).slots[_]? = _; rw [arrV_read _ _ hlt, hx]) rfl rfl d (kk p e s m args below meth co H locs ls C hW hS hl)
theorem Wd.stT {H H1 : Heap} (hW : Wd G (σ, μ, o) H) {j i : Nat} {v : Int32} (h : j ∈ gF G) (hj : j < 200) (he : H1[gM G j]? = some (arrV (gC G (mK j)) (mZ j) (updV (fun i => .int (μ.2 j i)) i (.int v)))) (z : H1.size = H.size) (oq : ∀ q, q ≠ gM G j → H1[q]? = H[q]?) : Wd G (σ, mT μ j i v, o) H1 := by
  refine hW.um j h (fun j' hj' hA => ?_) ?_ z oq
  · have e : (mT μ j i v).2 j' = μ.2 j' := by funext x; simp [mT, up2, hj']
    unfold mAt at hA ⊢
    rw [e]
    exact hA
  · unfold mAt
    rw [if_neg (by omega), if_neg (by omega), he]
    congr 2
    funext x
    by_cases hx : x = i
    · subst hx; simp [updV, mT, up2]
    · simp [updV, mT, up2, hx]
theorem v_mQ {j : Nat} {i x : Int32} {μ' : Mu} (hx : m_Q μ j i x = some μ') (h : j ∈ gF G) (hj : j < 200) (hk : mK j = 0) (d : decode cc pc = .ok (.iastore, 1)) (hq : pc + 1 = q) (kk : V G y cc nL ret R Z (σ, μ', o) c k q lv st) : V G y cc nL ret R Z (σ, μ, o) c k pc lv (.int x :: .int i :: .ref (gM G j) :: st) := by
  subst hq
  intro p e s m args below meth co H locs ls C hW hS hl
  obtain ⟨hin, rfl⟩ := o_i hx
  have hA := hW.ma h hj
  have hA' := hA
  rw [hk] at hA
  refine W.iast C.1 C.2.1 hA ((C.2.2.2.2.2.2.1.1.2 0 _ rfl).1 _ _) (fun q => by cases q) (by show ¬ (i < 0 ∨ (arrV _ _ _).slots.size ≤ _); rw [arrV_size]; exact hin) rfl rfl d fun H1 he z oq => ?_
  rw [arrV_store] at he
  exact kk p e s m args below meth co H1 _ ls C (hW.stT h hj (by rw [hk]; exact he) z oq) (hS.put z oq (hW.2.2.1 j h).1) hl
theorem v_mW {j : Nat} {i x : Int32} {μ' : Mu} (hx : m_Q μ j i x = some μ') (h : j ∈ gF G) (hj : j < 200) (hk : mK j = 1) (hb : narrow .boolean (.int x) = .int x) (d : decode cc pc = .ok (.bastore, 1)) (hq : pc + 1 = q) (kk : V G y cc nL ret R Z (σ, μ', o) c k q lv st) : V G y cc nL ret R Z (σ, μ, o) c k pc lv (.int x :: .int i :: .ref (gM G j) :: st) := by
  subst hq
  intro p e s m args below meth co H locs ls C hW hS hl
  obtain ⟨hin, rfl⟩ := o_i hx
  have hA := hW.ma h hj
  rw [hk] at hA
  refine W.zast C.1 C.2.1 hA ((C.2.2.2.2.2.2.1.1.2 1 _ rfl).1 _ _) (fun q => by cases q) (by show ¬ (i < 0 ∨ (arrV _ _ _).slots.size ≤ _); rw [arrV_size]; exact hin) rfl rfl d fun H1 he z oq => ?_
  rw [hb, arrV_store] at he
  exact kk p e s m args below meth co H1 _ ls C (hW.stT h hj (by rw [hk]; exact he) z oq) (hS.put z oq (hW.2.2.1 j h).1) hl
end VHEAP
