/-! the law's blocks -/
def zL : ZT := fun _ _ s _ args below _ _ => lw_Z below args s
def XL (G : Gm) (b L : Nat) (xs : Nat → Int32) : State → Array Value → Prop := fun s args => XS G b L xs s args ∧ args = #[Value.ref b] ∧ s.heap.size ≤ gB G
theorem XL.xs {G : Gm} {b L : Nat} {xs : Nat → Int32} : ∀ s a, XL G b L xs s a → XS G b L xs s a := fun _ _ h => h.1
abbrev VL (G : Gm) (b L : Nat) (xs : Nat → Int32) (w : Wt) (c k pc : Nat) (lv : List (Nat × Value)) (st : List Value) : Prop := VX (XL G b L xs) G yL_law cL_law 7 ret room_1 zL w c k pc lv st
def lv0 (G : Gm) (b tb i : Nat) : List (Nat × Value) := [(4, .int (nI i)), (3, .ref (gM G 201)), (2, .ref (gM G 200)), (1, .ref tb), (0, .ref b)]
section LAWB
variable {G : Gm} {b L i n t tb c k pc : Nat} {xs : Nat → Int32} {σ : Hp} {μ : Mu} {o : Int64} {w : Wt} {lv : List (Nat × Value)}
theorem lret (hc : c ≤ 600128) (hk : k ≤ 7301064) (d : decode cL_law pc = .ok (.ireturn, 1)) : VL G b L xs w c k pc lv [.int 1] := by
  intro p e s m args below meth co H locs ls hX C hW hS hl
  obtain ⟨h1, rfl, h3⟩ := hX
  refine va_forget (fun q hq => Nat.le_trans h3 (hS.2.2 q hq)) ?_
  refine W.widen (k := 600128) (n := 7301064) hc hk ?_
  exact lw_ret C.1 C.2.1 C.2.2.2.2.2.2.2.2.1 C.2.2.2.2.2.1 d
theorem l_sald2 {X : State → Array Value → Prop} {y : MethodName} {cc : ByteArray} {nL : Nat} {ret : Option FieldType} {R : Room} {Z : ZT} {q j : Nat} {x : Int32} {st : List Value} (hXS : ∀ s a, X s a → XS G b L xs s a) (hx : x = nI j) (hj : j < L) (hL : L < 2 ^ 31) (d : decode cc pc = .ok (.iaload, 1)) (hq : pc + 1 = q) (kk : VX X G y cc nL ret R Z w c k q lv (.int (xs j) :: st)) : VX X G y cc nL ret R Z w c k pc lv (.int x :: .ref b :: st) := by
  subst hx
  exact l_sald hXS hj hL d hq kk
set_option maxRecDepth 100000 in
theorem op_request (hG : gF G = mFl) (hI : Inv n t tb σ μ) (ht : t < 64) (hi : i + 4 < L) (hL : L < 2 ^ 31) (hc : c + 42 ≤ 600128) (hk : k + 88 ≤ 7301064) (kk : ∀ (σ' : Hp) (μ' : Mu) (o' : Int64) (c' k' : Nat), Inv n (t + 1) tb σ' μ' → c' ≤ c + 42 → k' ≤ k + 88 → VL G b L xs (σ', μ', o') c' k' 886 (lv0 G b tb i) []) : VL G b L xs (σ, μ, o) c k 144 (lv0 G b tb i) [] := by
  obtain ⟨r, bb, σ1, μ1, o1, e1, e2, h1, h0, h2⟩ := pl_request hI ht o (xs (i + 1)) (xs (i + 2)) (xs (i + 3)) (xs (i + 4))
  have hgO := hI.gO
  refine Lv_aload_n 3 rfl dL_law_144 rfl ?_
  refine Lv_aload_n 4 rfl dL_law_145 rfl ?_
  refine Lv_iload 0 rfl dL_law_146 rfl ?_
  refine Lv_iconst (v := (1 : Int32)) (by decide) dL_law_148 rfl ?_
  refine Lv_iadd dL_law_149 rfl ?_
  refine l_sald2 (j := i + 1) XL.xs (nI_add i 1) (by omega) hL dL_law_150 rfl ?_
  refine Lv_aload_n 4 rfl dL_law_151 rfl ?_
  refine Lv_iload 0 rfl dL_law_152 rfl ?_
  refine Lv_iconst (v := (2 : Int32)) (by decide) dL_law_154 rfl ?_
  refine Lv_iadd dL_law_155 rfl ?_
  refine l_sald2 (j := i + 2) XL.xs (nI_add i 2) (by omega) hL dL_law_156 rfl ?_
  refine Lv_aload_n 4 rfl dL_law_157 rfl ?_
  refine Lv_iload 0 rfl dL_law_158 rfl ?_
  refine Lv_iconst (v := (3 : Int32)) (by decide) dL_law_160 rfl ?_
  refine Lv_iadd dL_law_161 rfl ?_
  refine l_sald2 (j := i + 3) XL.xs (nI_add i 3) (by omega) hL dL_law_162 rfl ?_
  refine Lv_aload_n 4 rfl dL_law_163 rfl ?_
  refine Lv_iload 0 rfl dL_law_164 rfl ?_
  refine Lv_iconst (v := (4 : Int32)) (by decide) dL_law_166 rfl ?_
  refine Lv_iadd dL_law_167 rfl ?_
  refine l_sald2 (j := i + 4) XL.xs (nI_add i 4) (by omega) hL dL_law_168 rfl ?_
  refine Lv_aload_n 1 rfl dL_law_169 rfl ?_
  refine Lv_Wi (as := [.ref tb, .int (xs (i + 1)), .int (xs (i + 2)), .int (xs (i + 3)), .int (xs (i + 4)), .ref (gM G 201)]) (st := []) (c' := c + 1) (k' := k + 6) (k_L_request hG e1) mw_L_request lm_59 (ckL rfl (by omega) (by omega)) rfl dL_law_170 rfl rfl rfl (fun n' hn => ?_)
  refine Lv_istore [(5, .int r), (4, .int (nI i)), (3, .ref (gM G 201)), (2, .ref (gM G 200)), (1, .ref tb), (0, .ref b)] dL_law_173 rfl (by decide) rfl ?_
  refine Lv_aload_n 3 rfl dL_law_175 rfl ?_
  refine Lv_aload_n 5 rfl dL_law_176 rfl ?_
  refine Lv_iload 1 rfl dL_law_177 rfl ?_
  refine Lv_iconst (v := (1 : Int32)) (by decide) dL_law_179 rfl ?_
  refine Lv_iadd dL_law_180 rfl ?_
  refine l_sald2 (j := i + 1) XL.xs (nI_add i 1) (by omega) hL dL_law_181 rfl ?_
  refine Lv_aload_n 5 rfl dL_law_182 rfl ?_
  refine Lv_iload 1 rfl dL_law_183 rfl ?_
  refine Lv_iconst (v := (2 : Int32)) (by decide) dL_law_185 rfl ?_
  refine Lv_iadd dL_law_186 rfl ?_
  refine l_sald2 (j := i + 2) XL.xs (nI_add i 2) (by omega) hL dL_law_187 rfl ?_
  refine Lv_aload_n 5 rfl dL_law_188 rfl ?_
  refine Lv_iload 1 rfl dL_law_189 rfl ?_
  refine Lv_iconst (v := (3 : Int32)) (by decide) dL_law_191 rfl ?_
  refine Lv_iadd dL_law_192 rfl ?_
  refine l_sald2 (j := i + 3) XL.xs (nI_add i 3) (by omega) hL dL_law_193 rfl ?_
  refine Lv_aload_n 5 rfl dL_law_194 rfl ?_
  refine Lv_iload 1 rfl dL_law_195 rfl ?_
  refine Lv_iconst (v := (4 : Int32)) (by decide) dL_law_197 rfl ?_
  refine Lv_iadd dL_law_198 rfl ?_
  refine l_sald2 (j := i + 4) XL.xs (nI_add i 4) (by omega) hL dL_law_199 rfl ?_
  refine Lv_Vi (as := [.int (xs (i + 1)), .int (xs (i + 2)), .int (xs (i + 3)), .int (xs (i + 4))]) (st := []) (c' := c + 1) (k' := k + 6) (k_X12_request hG e2) (rcv_m (mg hG rfl)) mk_X12_request li_X12_request le_X12_request lm_62 (ckL rfl (by omega) (by omega)) rfl dL_law_200 rfl rfl rfl ?_
  refine Lv_istore [(6, .int bb), (5, .int r), (4, .int (nI i)), (3, .ref (gM G 201)), (2, .ref (gM G 200)), (1, .ref tb), (0, .ref b)] dL_law_203 rfl (by decide) rfl ?_
  refine Lv_aload_n 4 rfl dL_law_205 rfl ?_
  refine Lv_Vi (as := []) (st := []) (c' := c + 1) (k' := k + 6) (k_X12_thrown hG (r := μ1.1 0) rfl) (rcv_m (mg hG rfl)) mk_X12_thrown li_X12_thrown le_X12_thrown lm_63 (ckL rfl (by omega) (by omega)) rfl dL_law_206 rfl rfl rfl ?_
  refine Lv_iload 1 rfl dL_law_209 rfl ?_
  refine Lv_icmp_eq 216 dL_law_211 (by decide) rfl (fun _ => ?_) (fun hne => absurd h0 hne)
  refine Lv_iload 1 rfl dL_law_216 rfl ?_
  have tail : VL G b L xs (oSN σ1 n', μ1, o1) (c + 1) (k + 6) 233 [(6, .int bb), (5, .int r), (4, .int (nI i)), (3, .ref (gM G 201)), (2, .ref (gM G 200)), (1, .ref tb), (0, .ref b)] [] := by
    refine Lv_goto (q := 886) dL_law_233 (by decide) ?_
    refine Lv_sub [2, 3, 4, 5, 6] rfl ?_
    exact kk _ _ _ _ _ ((h1).sn hn) (by omega) (by omega)
  refine Lv_if_ne 233 dL_law_218 (by decide) rfl (fun _ => tail) (fun hr => ?_)
  refine Lv_aload_n 3 rfl dL_law_221 rfl ?_
  refine Lv_iconst (v := (0 : Int32)) (by decide) dL_law_222 rfl ?_
  refine Lv_lald (mg hG rfl) dL_law_223 rfl ?_
  refine Lv_iload 0 rfl dL_law_224 rfl ?_
  refine Lv_i2l dL_law_226 rfl ?_
  refine Lv_lcmp dL_law_227 rfl ?_
  exact Lv_if_eq 233 dL_law_228 (by decide) rfl (fun _ => tail) (fun hne => absurd (show lg_cmp o1 bb.toInt64 = 0 by rw [h2 hr, lcmp0]) hne)
set_option maxRecDepth 100000 in
theorem op_again (hG : gF G = mFl) (hI : Inv n t tb σ μ) (ht : t < 64) (hi : i + 4 < L) (hL : L < 2 ^ 31) (hc : c + 42 ≤ 600128) (hk : k + 88 ≤ 7301064) (kk : ∀ (σ' : Hp) (μ' : Mu) (o' : Int64) (c' k' : Nat), Inv n (t + 1) tb σ' μ' → c' ≤ c + 42 → k' ≤ k + 88 → VL G b L xs (σ', μ', o') c' k' 886 (lv0 G b tb i) []) : VL G b L xs (σ, μ, o) c k 236 (lv0 G b tb i) [] := by
  obtain ⟨r, σ1, μ1, e1, e2, h1, h0⟩ := pl_again hI o (xs (i + 1))
  have hgO := hI.gO
  refine Lv_aload_n 3 rfl dL_law_236 rfl ?_
  refine Lv_aload_n 4 rfl dL_law_237 rfl ?_
  refine Lv_iload 0 rfl dL_law_238 rfl ?_
  refine Lv_iconst (v := (1 : Int32)) (by decide) dL_law_240 rfl ?_
  refine Lv_iadd dL_law_241 rfl ?_
  refine l_sald2 (j := i + 1) XL.xs (nI_add i 1) (by omega) hL dL_law_242 rfl ?_
  refine Lv_Wi (as := [.ref tb, .int (xs (i + 1))]) (st := []) (c' := c + 1) (k' := k + 6) (k_L_again e1) mw_L_again lm_67 (ckL rfl (by omega) (by omega)) rfl dL_law_243 rfl rfl rfl (fun n' hn => ?_)
  refine Lv_istore [(5, .int r), (4, .int (nI i)), (3, .ref (gM G 201)), (2, .ref (gM G 200)), (1, .ref tb), (0, .ref b)] dL_law_246 rfl (by decide) rfl ?_
  refine Lv_aload_n 3 rfl dL_law_248 rfl ?_
  refine Lv_aload_n 5 rfl dL_law_249 rfl ?_
  refine Lv_iload 1 rfl dL_law_250 rfl ?_
  refine Lv_iconst (v := (1 : Int32)) (by decide) dL_law_252 rfl ?_
  refine Lv_iadd dL_law_253 rfl ?_
  refine l_sald2 (j := i + 1) XL.xs (nI_add i 1) (by omega) hL dL_law_254 rfl ?_
  refine Lv_Vv (as := [.int (xs (i + 1))]) (st := []) (c' := c + 1) (k' := k + 6) (k_X12_again hG e2) (rcv_m (mg hG rfl)) mk_X12_again li_X12_again le_X12_again lm_70 (ckL rfl (by omega) (by omega)) rfl dL_law_255 rfl rfl rfl ?_
  refine Lv_aload_n 3 rfl dL_law_258 rfl ?_
  refine Lv_Vi (as := []) (st := []) (c' := c + 1) (k' := k + 6) (k_X12_thrown hG (r := μ1.1 0) rfl) (rcv_m (mg hG rfl)) mk_X12_thrown li_X12_thrown le_X12_thrown lm_63 (ckL rfl (by omega) (by omega)) rfl dL_law_259 rfl rfl rfl ?_
  refine Lv_iload 0 rfl dL_law_262 rfl ?_
  refine Lv_icmp_eq 269 dL_law_264 (by decide) rfl (fun _ => ?_) (fun hne => absurd h0 hne)
  refine Lv_goto (q := 886) dL_law_269 (by decide) ?_
  refine Lv_sub [1, 2, 3, 4, 5] rfl ?_
  exact kk _ _ _ _ _ ((h1.up ht).sn hn) (by omega) (by omega)
set_option maxRecDepth 100000 in
theorem op_deliver (hG : gF G = mFl) (hI : Inv n t tb σ μ) (ht : t < 64) (hi : i + 4 < L) (hL : L < 2 ^ 31) (hc : c + 42 ≤ 600128) (hk : k + 88 ≤ 7301064) (kk : ∀ (σ' : Hp) (μ' : Mu) (o' : Int64) (c' k' : Nat), Inv n (t + 1) tb σ' μ' → c' ≤ c + 42 → k' ≤ k + 88 → VL G b L xs (σ', μ', o') c' k' 886 (lv0 G b tb i) []) : VL G b L xs (σ, μ, o) c k 272 (lv0 G b tb i) [] := by
  obtain ⟨r, σ1, μ1, e1, e2, h1, h0⟩ := pl_deliver hI o (xs (i + 1))
  have hgO := hI.gO
  refine Lv_aload_n 3 rfl dL_law_272 rfl ?_
  refine Lv_aload_n 4 rfl dL_law_273 rfl ?_
  refine Lv_iload 0 rfl dL_law_274 rfl ?_
  refine Lv_iconst (v := (1 : Int32)) (by decide) dL_law_276 rfl ?_
  refine Lv_iadd dL_law_277 rfl ?_
  refine l_sald2 (j := i + 1) XL.xs (nI_add i 1) (by omega) hL dL_law_278 rfl ?_
  refine Lv_Wi (as := [.ref tb, .int (xs (i + 1))]) (st := []) (c' := c + 1) (k' := k + 6) (k_L_deliver e1) mw_L_deliver lm_71 (ckL rfl (by omega) (by omega)) rfl dL_law_279 rfl rfl rfl (fun n' hn => ?_)
  refine Lv_istore [(5, .int r), (4, .int (nI i)), (3, .ref (gM G 201)), (2, .ref (gM G 200)), (1, .ref tb), (0, .ref b)] dL_law_282 rfl (by decide) rfl ?_
  refine Lv_aload_n 3 rfl dL_law_284 rfl ?_
  refine Lv_aload_n 5 rfl dL_law_285 rfl ?_
  refine Lv_iload 1 rfl dL_law_286 rfl ?_
  refine Lv_iconst (v := (1 : Int32)) (by decide) dL_law_288 rfl ?_
  refine Lv_iadd dL_law_289 rfl ?_
  refine l_sald2 (j := i + 1) XL.xs (nI_add i 1) (by omega) hL dL_law_290 rfl ?_
  refine Lv_Vv (as := [.int (xs (i + 1))]) (st := []) (c' := c + 1) (k' := k + 6) (k_X12_deliver hG e2) (rcv_m (mg hG rfl)) mk_X12_deliver li_X12_deliver le_X12_deliver lm_73 (ckL rfl (by omega) (by omega)) rfl dL_law_291 rfl rfl rfl ?_
  refine Lv_aload_n 3 rfl dL_law_294 rfl ?_
  refine Lv_Vi (as := []) (st := []) (c' := c + 1) (k' := k + 6) (k_X12_thrown hG (r := μ1.1 0) rfl) (rcv_m (mg hG rfl)) mk_X12_thrown li_X12_thrown le_X12_thrown lm_63 (ckL rfl (by omega) (by omega)) rfl dL_law_295 rfl rfl rfl ?_
  refine Lv_iload 0 rfl dL_law_298 rfl ?_
  refine Lv_icmp_eq 305 dL_law_300 (by decide) rfl (fun _ => ?_) (fun hne => absurd h0 hne)
  refine Lv_goto (q := 886) dL_law_305 (by decide) ?_
  refine Lv_sub [1, 2, 3, 4, 5] rfl ?_
  exact kk _ _ _ _ _ ((h1.up ht).sn hn) (by omega) (by omega)
set_option maxRecDepth 100000 in
theorem op_lose (hG : gF G = mFl) (hI : Inv n t tb σ μ) (ht : t < 64) (hi : i + 4 < L) (hL : L < 2 ^ 31) (hc : c + 42 ≤ 600128) (hk : k + 88 ≤ 7301064) (kk : ∀ (σ' : Hp) (μ' : Mu) (o' : Int64) (c' k' : Nat), Inv n (t + 1) tb σ' μ' → c' ≤ c + 42 → k' ≤ k + 88 → VL G b L xs (σ', μ', o') c' k' 886 (lv0 G b tb i) []) : VL G b L xs (σ, μ, o) c k 308 (lv0 G b tb i) [] := by
  obtain ⟨r, σ1, μ1, e1, e2, h1, h0⟩ := pl_lose hI o (xs (i + 1))
  have hgO := hI.gO
  refine Lv_aload_n 3 rfl dL_law_308 rfl ?_
  refine Lv_aload_n 4 rfl dL_law_309 rfl ?_
  refine Lv_iload 0 rfl dL_law_310 rfl ?_
  refine Lv_iconst (v := (1 : Int32)) (by decide) dL_law_312 rfl ?_
  refine Lv_iadd dL_law_313 rfl ?_
  refine l_sald2 (j := i + 1) XL.xs (nI_add i 1) (by omega) hL dL_law_314 rfl ?_
  refine Lv_Wi (as := [.ref tb, .int (xs (i + 1))]) (st := []) (c' := c + 1) (k' := k + 6) (k_L_lose e1) mw_L_lose lm_74 (ckL rfl (by omega) (by omega)) rfl dL_law_315 rfl rfl rfl (fun n' hn => ?_)
  refine Lv_istore [(5, .int r), (4, .int (nI i)), (3, .ref (gM G 201)), (2, .ref (gM G 200)), (1, .ref tb), (0, .ref b)] dL_law_318 rfl (by decide) rfl ?_
  refine Lv_aload_n 3 rfl dL_law_320 rfl ?_
  refine Lv_aload_n 5 rfl dL_law_321 rfl ?_
  refine Lv_iload 1 rfl dL_law_322 rfl ?_
  refine Lv_iconst (v := (1 : Int32)) (by decide) dL_law_324 rfl ?_
  refine Lv_iadd dL_law_325 rfl ?_
  refine l_sald2 (j := i + 1) XL.xs (nI_add i 1) (by omega) hL dL_law_326 rfl ?_
  refine Lv_Vv (as := [.int (xs (i + 1))]) (st := []) (c' := c + 1) (k' := k + 6) (k_X12_lose hG e2) (rcv_m (mg hG rfl)) mk_X12_lose li_X12_lose le_X12_lose lm_76 (ckL rfl (by omega) (by omega)) rfl dL_law_327 rfl rfl rfl ?_
  refine Lv_aload_n 3 rfl dL_law_330 rfl ?_
  refine Lv_Vi (as := []) (st := []) (c' := c + 1) (k' := k + 6) (k_X12_thrown hG (r := μ1.1 0) rfl) (rcv_m (mg hG rfl)) mk_X12_thrown li_X12_thrown le_X12_thrown lm_63 (ckL rfl (by omega) (by omega)) rfl dL_law_331 rfl rfl rfl ?_
  refine Lv_iload 0 rfl dL_law_334 rfl ?_
  refine Lv_icmp_eq 341 dL_law_336 (by decide) rfl (fun _ => ?_) (fun hne => absurd h0 hne)
  refine Lv_goto (q := 886) dL_law_341 (by decide) ?_
  refine Lv_sub [1, 2, 3, 4, 5] rfl ?_
  exact kk _ _ _ _ _ ((h1.up ht).sn hn) (by omega) (by omega)
set_option maxRecDepth 100000 in
theorem op_flow (hG : gF G = mFl) (hI : Inv n t tb σ μ) (ht : t < 64) (hi : i + 4 < L) (hL : L < 2 ^ 31) (hc : c + 42 ≤ 600128) (hk : k + 88 ≤ 7301064) (kk : ∀ (σ' : Hp) (μ' : Mu) (o' : Int64) (c' k' : Nat), Inv n (t + 1) tb σ' μ' → c' ≤ c + 42 → k' ≤ k + 88 → VL G b L xs (σ', μ', o') c' k' 886 (lv0 G b tb i) []) : VL G b L xs (σ, μ, o) c k 344 (lv0 G b tb i) [] := by
  obtain ⟨r, bb, σ1, μ1, o1, e1, e2, h1, h0, h2⟩ := pl_flow hI o (xs (i + 1))
  have hgO := hI.gO
  refine Lv_aload_n 3 rfl dL_law_344 rfl ?_
  refine Lv_aload_n 4 rfl dL_law_345 rfl ?_
  refine Lv_iload 0 rfl dL_law_346 rfl ?_
  refine Lv_iconst (v := (1 : Int32)) (by decide) dL_law_348 rfl ?_
  refine Lv_iadd dL_law_349 rfl ?_
  refine l_sald2 (j := i + 1) XL.xs (nI_add i 1) (by omega) hL dL_law_350 rfl ?_
  refine Lv_aload_n 1 rfl dL_law_351 rfl ?_
  refine Lv_Wi (as := [.ref tb, .int (xs (i + 1)), .ref (gM G 201)]) (st := []) (c' := c + 42) (k' := k + 88) (k_L_flow hG e1) mw_L_flow lm_77 (ckL rfl (by omega) (by omega)) rfl dL_law_352 rfl rfl rfl (fun n' hn => ?_)
  refine Lv_istore [(5, .int r), (4, .int (nI i)), (3, .ref (gM G 201)), (2, .ref (gM G 200)), (1, .ref tb), (0, .ref b)] dL_law_355 rfl (by decide) rfl ?_
  refine Lv_aload_n 3 rfl dL_law_357 rfl ?_
  refine Lv_aload_n 5 rfl dL_law_358 rfl ?_
  refine Lv_iload 1 rfl dL_law_359 rfl ?_
  refine Lv_iconst (v := (1 : Int32)) (by decide) dL_law_361 rfl ?_
  refine Lv_iadd dL_law_362 rfl ?_
  refine l_sald2 (j := i + 1) XL.xs (nI_add i 1) (by omega) hL dL_law_363 rfl ?_
  refine Lv_Vi (as := [.int (xs (i + 1))]) (st := []) (c' := c + 42) (k' := k + 88) (k_X12_flow hG e2) (rcv_m (mg hG rfl)) mk_X12_flow li_X12_flow le_X12_flow lm_80 (ckL rfl (by omega) (by omega)) rfl dL_law_364 rfl rfl rfl ?_
  refine Lv_istore [(6, .int bb), (5, .int r), (4, .int (nI i)), (3, .ref (gM G 201)), (2, .ref (gM G 200)), (1, .ref tb), (0, .ref b)] dL_law_367 rfl (by decide) rfl ?_
  refine Lv_aload_n 4 rfl dL_law_369 rfl ?_
  refine Lv_Vi (as := []) (st := []) (c' := c + 42) (k' := k + 88) (k_X12_thrown hG (r := μ1.1 0) rfl) (rcv_m (mg hG rfl)) mk_X12_thrown li_X12_thrown le_X12_thrown lm_63 (ckL rfl (by omega) (by omega)) rfl dL_law_370 rfl rfl rfl ?_
  refine Lv_iload 1 rfl dL_law_373 rfl ?_
  refine Lv_icmp_eq 380 dL_law_375 (by decide) rfl (fun _ => ?_) (fun hne => absurd h0 hne)
  refine Lv_iload 1 rfl dL_law_380 rfl ?_
  have tail : VL G b L xs (oSN σ1 n', μ1, o1) (c + 42) (k + 88) 397 [(6, .int bb), (5, .int r), (4, .int (nI i)), (3, .ref (gM G 201)), (2, .ref (gM G 200)), (1, .ref tb), (0, .ref b)] [] := by
    refine Lv_goto (q := 886) dL_law_397 (by decide) ?_
    refine Lv_sub [2, 3, 4, 5, 6] rfl ?_
    exact kk _ _ _ _ _ ((h1.up ht).sn hn) (by omega) (by omega)
  refine Lv_if_ne 397 dL_law_382 (by decide) rfl (fun _ => tail) (fun hr => ?_)
  refine Lv_aload_n 3 rfl dL_law_385 rfl ?_
  refine Lv_iconst (v := (0 : Int32)) (by decide) dL_law_386 rfl ?_
  refine Lv_lald (mg hG rfl) dL_law_387 rfl ?_
  refine Lv_iload 0 rfl dL_law_388 rfl ?_
  refine Lv_i2l dL_law_390 rfl ?_
  refine Lv_lcmp dL_law_391 rfl ?_
  exact Lv_if_eq 397 dL_law_392 (by decide) rfl (fun _ => tail) (fun hne => absurd (show lg_cmp o1 bb.toInt64 = 0 by rw [h2 hr, lcmp0]) hne)
set_option maxRecDepth 100000 in
theorem op_down (hG : gF G = mFl) (hI : Inv n t tb σ μ) (ht : t < 64) (hi : i + 4 < L) (hL : L < 2 ^ 31) (hc : c + 42 ≤ 600128) (hk : k + 88 ≤ 7301064) (kk : ∀ (σ' : Hp) (μ' : Mu) (o' : Int64) (c' k' : Nat), Inv n (t + 1) tb σ' μ' → c' ≤ c + 42 → k' ≤ k + 88 → VL G b L xs (σ', μ', o') c' k' 886 (lv0 G b tb i) []) : VL G b L xs (σ, μ, o) c k 400 (lv0 G b tb i) [] := by
  obtain ⟨r, σ1, μ1, e1, e2, h1, h0⟩ := pl_down hI o (xs (i + 1))
  have hgO := hI.gO
  refine Lv_aload_n 3 rfl dL_law_400 rfl ?_
  refine Lv_aload_n 4 rfl dL_law_401 rfl ?_
  refine Lv_iload 0 rfl dL_law_402 rfl ?_
  refine Lv_iconst (v := (1 : Int32)) (by decide) dL_law_404 rfl ?_
  refine Lv_iadd dL_law_405 rfl ?_
  refine l_sald2 (j := i + 1) XL.xs (nI_add i 1) (by omega) hL dL_law_406 rfl ?_
  refine Lv_Wi (as := [.ref tb, .int (xs (i + 1))]) (st := []) (c' := c + 1) (k' := k + 6) (k_L_down e1) mw_L_down lm_81 (ckL rfl (by omega) (by omega)) rfl dL_law_407 rfl rfl rfl (fun n' hn => ?_)
  refine Lv_istore [(5, .int r), (4, .int (nI i)), (3, .ref (gM G 201)), (2, .ref (gM G 200)), (1, .ref tb), (0, .ref b)] dL_law_410 rfl (by decide) rfl ?_
  refine Lv_aload_n 3 rfl dL_law_412 rfl ?_
  refine Lv_aload_n 5 rfl dL_law_413 rfl ?_
  refine Lv_iload 1 rfl dL_law_414 rfl ?_
  refine Lv_iconst (v := (1 : Int32)) (by decide) dL_law_416 rfl ?_
  refine Lv_iadd dL_law_417 rfl ?_
  refine l_sald2 (j := i + 1) XL.xs (nI_add i 1) (by omega) hL dL_law_418 rfl ?_
  refine Lv_Vv (as := [.int (xs (i + 1))]) (st := []) (c' := c + 1) (k' := k + 6) (k_X12_down hG e2) (rcv_m (mg hG rfl)) mk_X12_down li_X12_down le_X12_down lm_83 (ckL rfl (by omega) (by omega)) rfl dL_law_419 rfl rfl rfl ?_
  refine Lv_aload_n 3 rfl dL_law_422 rfl ?_
  refine Lv_Vi (as := []) (st := []) (c' := c + 1) (k' := k + 6) (k_X12_thrown hG (r := μ1.1 0) rfl) (rcv_m (mg hG rfl)) mk_X12_thrown li_X12_thrown le_X12_thrown lm_63 (ckL rfl (by omega) (by omega)) rfl dL_law_423 rfl rfl rfl ?_
  refine Lv_iload 0 rfl dL_law_426 rfl ?_
  refine Lv_icmp_eq 433 dL_law_428 (by decide) rfl (fun _ => ?_) (fun hne => absurd h0 hne)
  refine Lv_goto (q := 886) dL_law_433 (by decide) ?_
  refine Lv_sub [1, 2, 3, 4, 5] rfl ?_
  exact kk _ _ _ _ _ ((h1.up ht).sn hn) (by omega) (by omega)
set_option maxRecDepth 100000 in
theorem op_up (hG : gF G = mFl) (hI : Inv n t tb σ μ) (ht : t < 64) (hi : i + 4 < L) (hL : L < 2 ^ 31) (hc : c + 42 ≤ 600128) (hk : k + 88 ≤ 7301064) (kk : ∀ (σ' : Hp) (μ' : Mu) (o' : Int64) (c' k' : Nat), Inv n (t + 1) tb σ' μ' → c' ≤ c + 42 → k' ≤ k + 88 → VL G b L xs (σ', μ', o') c' k' 886 (lv0 G b tb i) []) : VL G b L xs (σ, μ, o) c k 436 (lv0 G b tb i) [] := by
  obtain ⟨r, σ1, μ1, e1, e2, h1, h0⟩ := pl_up hI o (xs (i + 1))
  have hgO := hI.gO
  refine Lv_aload_n 3 rfl dL_law_436 rfl ?_
  refine Lv_aload_n 4 rfl dL_law_437 rfl ?_
  refine Lv_iload 0 rfl dL_law_438 rfl ?_
  refine Lv_iconst (v := (1 : Int32)) (by decide) dL_law_440 rfl ?_
  refine Lv_iadd dL_law_441 rfl ?_
  refine l_sald2 (j := i + 1) XL.xs (nI_add i 1) (by omega) hL dL_law_442 rfl ?_
  refine Lv_Wi (as := [.ref tb, .int (xs (i + 1))]) (st := []) (c' := c + 1) (k' := k + 6) (k_L_up e1) mw_L_up lm_84 (ckL rfl (by omega) (by omega)) rfl dL_law_443 rfl rfl rfl (fun n' hn => ?_)
  refine Lv_istore [(5, .int r), (4, .int (nI i)), (3, .ref (gM G 201)), (2, .ref (gM G 200)), (1, .ref tb), (0, .ref b)] dL_law_446 rfl (by decide) rfl ?_
  refine Lv_aload_n 3 rfl dL_law_448 rfl ?_
  refine Lv_aload_n 5 rfl dL_law_449 rfl ?_
  refine Lv_iload 1 rfl dL_law_450 rfl ?_
  refine Lv_iconst (v := (1 : Int32)) (by decide) dL_law_452 rfl ?_
  refine Lv_iadd dL_law_453 rfl ?_
  refine l_sald2 (j := i + 1) XL.xs (nI_add i 1) (by omega) hL dL_law_454 rfl ?_
  refine Lv_Vv (as := [.int (xs (i + 1))]) (st := []) (c' := c + 1) (k' := k + 6) (k_X12_up hG e2) (rcv_m (mg hG rfl)) mk_X12_up li_X12_up le_X12_up lm_86 (ckL rfl (by omega) (by omega)) rfl dL_law_455 rfl rfl rfl ?_
  refine Lv_aload_n 3 rfl dL_law_458 rfl ?_
  refine Lv_Vi (as := []) (st := []) (c' := c + 1) (k' := k + 6) (k_X12_thrown hG (r := μ1.1 0) rfl) (rcv_m (mg hG rfl)) mk_X12_thrown li_X12_thrown le_X12_thrown lm_63 (ckL rfl (by omega) (by omega)) rfl dL_law_459 rfl rfl rfl ?_
  refine Lv_iload 0 rfl dL_law_462 rfl ?_
  refine Lv_icmp_eq 469 dL_law_464 (by decide) rfl (fun _ => ?_) (fun hne => absurd h0 hne)
  refine Lv_goto (q := 886) dL_law_469 (by decide) ?_
  refine Lv_sub [1, 2, 3, 4, 5] rfl ?_
  exact kk _ _ _ _ _ ((h1.up ht).sn hn) (by omega) (by omega)
set_option maxRecDepth 100000 in
theorem op_suspect (hG : gF G = mFl) (hI : Inv n t tb σ μ) (ht : t < 64) (hi : i + 4 < L) (hL : L < 2 ^ 31) (hc : c + 42 ≤ 600128) (hk : k + 88 ≤ 7301064) (kk : ∀ (σ' : Hp) (μ' : Mu) (o' : Int64) (c' k' : Nat), Inv n (t + 1) tb σ' μ' → c' ≤ c + 42 → k' ≤ k + 88 → VL G b L xs (σ', μ', o') c' k' 886 (lv0 G b tb i) []) : VL G b L xs (σ, μ, o) c k 472 (lv0 G b tb i) [] := by
  obtain ⟨r, σ1, μ1, e1, e2, h1, h0⟩ := pl_suspect hI ht o (xs (i + 1))
  have hgO := hI.gO
  refine Lv_aload_n 3 rfl dL_law_472 rfl ?_
  refine Lv_aload_n 4 rfl dL_law_473 rfl ?_
  refine Lv_iload 0 rfl dL_law_474 rfl ?_
  refine Lv_iconst (v := (1 : Int32)) (by decide) dL_law_476 rfl ?_
  refine Lv_iadd dL_law_477 rfl ?_
  refine l_sald2 (j := i + 1) XL.xs (nI_add i 1) (by omega) hL dL_law_478 rfl ?_
  refine Lv_Wi (as := [.ref tb, .int (xs (i + 1))]) (st := []) (c' := c + 1) (k' := k + 6) (k_L_suspect e1) mw_L_suspect lm_87 (ckL rfl (by omega) (by omega)) rfl dL_law_479 rfl rfl rfl (fun n' hn => ?_)
  refine Lv_istore [(5, .int r), (4, .int (nI i)), (3, .ref (gM G 201)), (2, .ref (gM G 200)), (1, .ref tb), (0, .ref b)] dL_law_482 rfl (by decide) rfl ?_
  refine Lv_aload_n 3 rfl dL_law_484 rfl ?_
  refine Lv_aload_n 5 rfl dL_law_485 rfl ?_
  refine Lv_iload 1 rfl dL_law_486 rfl ?_
  refine Lv_iconst (v := (1 : Int32)) (by decide) dL_law_488 rfl ?_
  refine Lv_iadd dL_law_489 rfl ?_
  refine l_sald2 (j := i + 1) XL.xs (nI_add i 1) (by omega) hL dL_law_490 rfl ?_
  refine Lv_Vv (as := [.int (xs (i + 1))]) (st := []) (c' := c + 1) (k' := k + 6) (k_X12_suspect hG e2) (rcv_m (mg hG rfl)) mk_X12_suspect li_X12_suspect le_X12_suspect lm_89 (ckL rfl (by omega) (by omega)) rfl dL_law_491 rfl rfl rfl ?_
  refine Lv_aload_n 3 rfl dL_law_494 rfl ?_
  refine Lv_Vi (as := []) (st := []) (c' := c + 1) (k' := k + 6) (k_X12_thrown hG (r := μ1.1 0) rfl) (rcv_m (mg hG rfl)) mk_X12_thrown li_X12_thrown le_X12_thrown lm_63 (ckL rfl (by omega) (by omega)) rfl dL_law_495 rfl rfl rfl ?_
  refine Lv_iload 0 rfl dL_law_498 rfl ?_
  refine Lv_icmp_eq 505 dL_law_500 (by decide) rfl (fun _ => ?_) (fun hne => absurd h0 hne)
  refine Lv_goto (q := 886) dL_law_505 (by decide) ?_
  refine Lv_sub [1, 2, 3, 4, 5] rfl ?_
  exact kk _ _ _ _ _ ((h1).sn hn) (by omega) (by omega)
set_option maxRecDepth 100000 in
theorem op_nudge (hG : gF G = mFl) (hI : Inv n t tb σ μ) (ht : t < 64) (hi : i + 4 < L) (hL : L < 2 ^ 31) (hc : c + 42 ≤ 600128) (hk : k + 88 ≤ 7301064) (kk : ∀ (σ' : Hp) (μ' : Mu) (o' : Int64) (c' k' : Nat), Inv n (t + 1) tb σ' μ' → c' ≤ c + 42 → k' ≤ k + 88 → VL G b L xs (σ', μ', o') c' k' 886 (lv0 G b tb i) []) : VL G b L xs (σ, μ, o) c k 508 (lv0 G b tb i) [] := by
  obtain ⟨r, bb, σ1, μ1, o1, e1, e2, h1, h0, h2⟩ := pl_nudge hI o (xs (i + 1))
  have hgO := hI.gO
  refine Lv_aload_n 3 rfl dL_law_508 rfl ?_
  refine Lv_aload_n 4 rfl dL_law_509 rfl ?_
  refine Lv_iload 0 rfl dL_law_510 rfl ?_
  refine Lv_iconst (v := (1 : Int32)) (by decide) dL_law_512 rfl ?_
  refine Lv_iadd dL_law_513 rfl ?_
  refine l_sald2 (j := i + 1) XL.xs (nI_add i 1) (by omega) hL dL_law_514 rfl ?_
  refine Lv_aload_n 1 rfl dL_law_515 rfl ?_
  refine Lv_Wi (as := [.ref tb, .int (xs (i + 1)), .ref (gM G 201)]) (st := []) (c' := c + 1) (k' := k + 6) (k_L_nudge hG e1) mw_L_nudge lm_90 (ckL rfl (by omega) (by omega)) rfl dL_law_516 rfl rfl rfl (fun n' hn => ?_)
  refine Lv_istore [(5, .int r), (4, .int (nI i)), (3, .ref (gM G 201)), (2, .ref (gM G 200)), (1, .ref tb), (0, .ref b)] dL_law_519 rfl (by decide) rfl ?_
  refine Lv_aload_n 3 rfl dL_law_521 rfl ?_
  refine Lv_aload_n 5 rfl dL_law_522 rfl ?_
  refine Lv_iload 1 rfl dL_law_523 rfl ?_
  refine Lv_iconst (v := (1 : Int32)) (by decide) dL_law_525 rfl ?_
  refine Lv_iadd dL_law_526 rfl ?_
  refine l_sald2 (j := i + 1) XL.xs (nI_add i 1) (by omega) hL dL_law_527 rfl ?_
  refine Lv_Vi (as := [.int (xs (i + 1))]) (st := []) (c' := c + 1) (k' := k + 6) (k_X12_nudge hG e2) (rcv_m (mg hG rfl)) mk_X12_nudge li_X12_nudge le_X12_nudge lm_92 (ckL rfl (by omega) (by omega)) rfl dL_law_528 rfl rfl rfl ?_
  refine Lv_istore [(6, .int bb), (5, .int r), (4, .int (nI i)), (3, .ref (gM G 201)), (2, .ref (gM G 200)), (1, .ref tb), (0, .ref b)] dL_law_531 rfl (by decide) rfl ?_
  refine Lv_aload_n 4 rfl dL_law_533 rfl ?_
  refine Lv_Vi (as := []) (st := []) (c' := c + 1) (k' := k + 6) (k_X12_thrown hG (r := μ1.1 0) rfl) (rcv_m (mg hG rfl)) mk_X12_thrown li_X12_thrown le_X12_thrown lm_63 (ckL rfl (by omega) (by omega)) rfl dL_law_534 rfl rfl rfl ?_
  refine Lv_iload 1 rfl dL_law_537 rfl ?_
  refine Lv_icmp_eq 544 dL_law_539 (by decide) rfl (fun _ => ?_) (fun hne => absurd h0 hne)
  refine Lv_iload 1 rfl dL_law_544 rfl ?_
  have tail : VL G b L xs (oSN σ1 n', μ1, o1) (c + 1) (k + 6) 561 [(6, .int bb), (5, .int r), (4, .int (nI i)), (3, .ref (gM G 201)), (2, .ref (gM G 200)), (1, .ref tb), (0, .ref b)] [] := by
    refine Lv_goto (q := 886) dL_law_561 (by decide) ?_
    refine Lv_sub [2, 3, 4, 5, 6] rfl ?_
    exact kk _ _ _ _ _ ((h1.up ht).sn hn) (by omega) (by omega)
  refine Lv_if_ne 561 dL_law_546 (by decide) rfl (fun _ => tail) (fun hr => ?_)
  refine Lv_aload_n 3 rfl dL_law_549 rfl ?_
  refine Lv_iconst (v := (0 : Int32)) (by decide) dL_law_550 rfl ?_
  refine Lv_lald (mg hG rfl) dL_law_551 rfl ?_
  refine Lv_iload 0 rfl dL_law_552 rfl ?_
  refine Lv_i2l dL_law_554 rfl ?_
  refine Lv_lcmp dL_law_555 rfl ?_
  exact Lv_if_eq 561 dL_law_556 (by decide) rfl (fun _ => tail) (fun hne => absurd (show lg_cmp o1 bb.toInt64 = 0 by rw [h2 hr, lcmp0]) hne)
set_option maxRecDepth 100000 in
theorem op_sync (hG : gF G = mFl) (hI : Inv n t tb σ μ) (ht : t < 64) (hi : i + 4 < L) (hL : L < 2 ^ 31) (hc : c + 42 ≤ 600128) (hk : k + 88 ≤ 7301064) (kk : ∀ (σ' : Hp) (μ' : Mu) (o' : Int64) (c' k' : Nat), Inv n (t + 1) tb σ' μ' → c' ≤ c + 42 → k' ≤ k + 88 → VL G b L xs (σ', μ', o') c' k' 886 (lv0 G b tb i) []) : VL G b L xs (σ, μ, o) c k 564 (lv0 G b tb i) [] := by
  obtain ⟨r, σ1, μ1, e1, e2, h1, h0⟩ := pl_sync hI o (xs (i + 1))
  have hgO := hI.gO
  refine Lv_aload_n 3 rfl dL_law_564 rfl ?_
  refine Lv_aload_n 4 rfl dL_law_565 rfl ?_
  refine Lv_iload 0 rfl dL_law_566 rfl ?_
  refine Lv_iconst (v := (1 : Int32)) (by decide) dL_law_568 rfl ?_
  refine Lv_iadd dL_law_569 rfl ?_
  refine l_sald2 (j := i + 1) XL.xs (nI_add i 1) (by omega) hL dL_law_570 rfl ?_
  refine Lv_Wi (as := [.ref tb, .int (xs (i + 1))]) (st := []) (c' := c + 1) (k' := k + 6) (k_L_sync e1) mw_L_sync lm_93 (ckL rfl (by omega) (by omega)) rfl dL_law_571 rfl rfl rfl (fun n' hn => ?_)
  refine Lv_istore [(5, .int r), (4, .int (nI i)), (3, .ref (gM G 201)), (2, .ref (gM G 200)), (1, .ref tb), (0, .ref b)] dL_law_574 rfl (by decide) rfl ?_
  refine Lv_aload_n 3 rfl dL_law_576 rfl ?_
  refine Lv_aload_n 5 rfl dL_law_577 rfl ?_
  refine Lv_iload 1 rfl dL_law_578 rfl ?_
  refine Lv_iconst (v := (1 : Int32)) (by decide) dL_law_580 rfl ?_
  refine Lv_iadd dL_law_581 rfl ?_
  refine l_sald2 (j := i + 1) XL.xs (nI_add i 1) (by omega) hL dL_law_582 rfl ?_
  refine Lv_Vv (as := [.int (xs (i + 1))]) (st := []) (c' := c + 1) (k' := k + 6) (k_X12_sync_ hG e2) (rcv_m (mg hG rfl)) mk_X12_sync_ li_X12_sync_ le_X12_sync_ lm_95 (ckL rfl (by omega) (by omega)) rfl dL_law_583 rfl rfl rfl ?_
  refine Lv_aload_n 3 rfl dL_law_586 rfl ?_
  refine Lv_Vi (as := []) (st := []) (c' := c + 1) (k' := k + 6) (k_X12_thrown hG (r := μ1.1 0) rfl) (rcv_m (mg hG rfl)) mk_X12_thrown li_X12_thrown le_X12_thrown lm_63 (ckL rfl (by omega) (by omega)) rfl dL_law_587 rfl rfl rfl ?_
  refine Lv_iload 0 rfl dL_law_590 rfl ?_
  refine Lv_icmp_eq 597 dL_law_592 (by decide) rfl (fun _ => ?_) (fun hne => absurd h0 hne)
  refine Lv_goto (q := 886) dL_law_597 (by decide) ?_
  refine Lv_sub [1, 2, 3, 4, 5] rfl ?_
  exact kk _ _ _ _ _ ((h1.up ht).sn hn) (by omega) (by omega)
set_option maxRecDepth 100000 in
theorem op_fail (hG : gF G = mFl) (hI : Inv n t tb σ μ) (ht : t < 64) (hi : i + 4 < L) (hL : L < 2 ^ 31) (hc : c + 42 ≤ 600128) (hk : k + 88 ≤ 7301064) (kk : ∀ (σ' : Hp) (μ' : Mu) (o' : Int64) (c' k' : Nat), Inv n (t + 1) tb σ' μ' → c' ≤ c + 42 → k' ≤ k + 88 → VL G b L xs (σ', μ', o') c' k' 886 (lv0 G b tb i) []) : VL G b L xs (σ, μ, o) c k 600 (lv0 G b tb i) [] := by
  obtain ⟨bb, σ1, μ1, e1, e2, h1⟩ := pb_fail hI 
  have hgO := hI.gO
  refine Lv_aload_n 3 rfl dL_law_600 rfl ?_
  refine Lv_Vi (as := []) (st := []) (c' := c) (k' := k) (k_X11_fail e1) (rcv_c hgO (by decide) rfl) mk_X11_fail li_X11_fail le_X11_fail lm_96 (ckL rfl (by omega) (by omega)) rfl dL_law_601 rfl rfl rfl ?_
  refine Lv_aload_n 2 rfl dL_law_604 rfl ?_
  refine Lv_Vi (as := []) (st := [.int bb]) (c' := c) (k' := k) (k_X12_fail hG e2) (rcv_m (mg hG rfl)) mk_X12_fail li_X12_fail le_X12_fail lm_100 (ckL rfl (by omega) (by omega)) rfl dL_law_605 rfl rfl rfl ?_
  refine Lv_icmp_eq 886 dL_law_608 (by decide) rfl (fun _ => ?_) (fun hne => absurd rfl hne)
  exact kk _ _ _ _ _ (h1.up ht) (by omega) (by omega)
set_option maxRecDepth 100000 in
theorem op_install (hG : gF G = mFl) (hI : Inv n t tb σ μ) (ht : t < 64) (hi : i + 4 < L) (hL : L < 2 ^ 31) (hc : c + 42 ≤ 600128) (hk : k + 88 ≤ 7301064) (kk : ∀ (σ' : Hp) (μ' : Mu) (o' : Int64) (c' k' : Nat), Inv n (t + 1) tb σ' μ' → c' ≤ c + 42 → k' ≤ k + 88 → VL G b L xs (σ', μ', o') c' k' 886 (lv0 G b tb i) []) : VL G b L xs (σ, μ, o) c k 613 (lv0 G b tb i) [] := by
  obtain ⟨bb, σ1, μ1, e1, e2, h1⟩ := pb_install hI 
  have hgO := hI.gO
  refine Lv_aload_n 3 rfl dL_law_613 rfl ?_
  refine Lv_Vi (as := []) (st := []) (c' := c) (k' := k) (k_X11_install e1) (rcv_c hgO (by decide) rfl) mk_X11_install li_X11_install le_X11_install lm_101 (ckL rfl (by omega) (by omega)) rfl dL_law_614 rfl rfl rfl ?_
  refine Lv_aload_n 2 rfl dL_law_617 rfl ?_
  refine Lv_Vi (as := []) (st := [.int bb]) (c' := c) (k' := k) (k_X12_install hG e2) (rcv_m (mg hG rfl)) mk_X12_install li_X12_install le_X12_install lm_104 (ckL rfl (by omega) (by omega)) rfl dL_law_618 rfl rfl rfl ?_
  refine Lv_icmp_eq 886 dL_law_621 (by decide) rfl (fun _ => ?_) (fun hne => absurd rfl hne)
  exact kk _ _ _ _ _ (h1.up ht) (by omega) (by omega)
set_option maxRecDepth 100000 in
theorem op_replica (hG : gF G = mFl) (hI : Inv n t tb σ μ) (ht : t < 64) (hi : i + 4 < L) (hL : L < 2 ^ 31) (hc : c + 42 ≤ 600128) (hk : k + 88 ≤ 7301064) (kk : ∀ (σ' : Hp) (μ' : Mu) (o' : Int64) (c' k' : Nat), Inv n (t + 1) tb σ' μ' → c' ≤ c + 42 → k' ≤ k + 88 → VL G b L xs (σ', μ', o') c' k' 886 (lv0 G b tb i) []) : VL G b L xs (σ, μ, o) c k 626 (lv0 G b tb i) [] := by
  obtain ⟨bb, e1, e2⟩ := pb_replica hI (xs (i + 1)) (xs (i + 2))
  have hgO := hI.gO
  refine Lv_aload_n 3 rfl dL_law_626 rfl ?_
  refine Lv_aload_n 4 rfl dL_law_627 rfl ?_
  refine Lv_iload 0 rfl dL_law_628 rfl ?_
  refine Lv_iconst (v := (1 : Int32)) (by decide) dL_law_630 rfl ?_
  refine Lv_iadd dL_law_631 rfl ?_
  refine l_sald2 (j := i + 1) XL.xs (nI_add i 1) (by omega) hL dL_law_632 rfl ?_
  refine Lv_aload_n 4 rfl dL_law_633 rfl ?_
  refine Lv_iload 0 rfl dL_law_634 rfl ?_
  refine Lv_iconst (v := (2 : Int32)) (by decide) dL_law_636 rfl ?_
  refine Lv_iadd dL_law_637 rfl ?_
  refine l_sald2 (j := i + 2) XL.xs (nI_add i 2) (by omega) hL dL_law_638 rfl ?_
  refine Lv_Vi (as := [.int (xs (i + 1)), .int (xs (i + 2))]) (st := []) (c' := c) (k' := k) (k_X11_replica e1) (rcv_c hgO (by decide) rfl) mk_X11_replica li_X11_replica le_X11_replica lm_105 (ckL rfl (by omega) (by omega)) rfl dL_law_639 rfl rfl rfl ?_
  refine Lv_aload_n 2 rfl dL_law_642 rfl ?_
  refine Lv_aload_n 4 rfl dL_law_643 rfl ?_
  refine Lv_iload 0 rfl dL_law_644 rfl ?_
  refine Lv_iconst (v := (1 : Int32)) (by decide) dL_law_646 rfl ?_
  refine Lv_iadd dL_law_647 rfl ?_
  refine l_sald2 (j := i + 1) XL.xs (nI_add i 1) (by omega) hL dL_law_648 rfl ?_
  refine Lv_aload_n 4 rfl dL_law_649 rfl ?_
  refine Lv_iload 0 rfl dL_law_650 rfl ?_
  refine Lv_iconst (v := (2 : Int32)) (by decide) dL_law_652 rfl ?_
  refine Lv_iadd dL_law_653 rfl ?_
  refine l_sald2 (j := i + 2) XL.xs (nI_add i 2) (by omega) hL dL_law_654 rfl ?_
  refine Lv_Vi (as := [.int (xs (i + 1)), .int (xs (i + 2))]) (st := [.int bb]) (c' := c) (k' := k) (k_X12_replica hG e2) (rcv_m (mg hG rfl)) mk_X12_replica li_X12_replica le_X12_replica lm_109 (ckL rfl (by omega) (by omega)) rfl dL_law_655 rfl rfl rfl ?_
  refine Lv_icmp_eq 886 dL_law_658 (by decide) rfl (fun _ => ?_) (fun hne => absurd rfl hne)
  exact kk _ _ _ _ _ ((hI.up ht).th 0) (by omega) (by omega)
set_option maxRecDepth 100000 in
theorem op_entry (hG : gF G = mFl) (hI : Inv n t tb σ μ) (ht : t < 64) (hi : i + 4 < L) (hL : L < 2 ^ 31) (hc : c + 42 ≤ 600128) (hk : k + 88 ≤ 7301064) (kk : ∀ (σ' : Hp) (μ' : Mu) (o' : Int64) (c' k' : Nat), Inv n (t + 1) tb σ' μ' → c' ≤ c + 42 → k' ≤ k + 88 → VL G b L xs (σ', μ', o') c' k' 886 (lv0 G b tb i) []) : VL G b L xs (σ, μ, o) c k 663 (lv0 G b tb i) [] := by
  obtain ⟨bb, e1, e2⟩ := pb_entry hI (xs (i + 1)) (xs (i + 2)) (xs (i + 3))
  have hgO := hI.gO
  refine Lv_aload_n 3 rfl dL_law_663 rfl ?_
  refine Lv_aload_n 4 rfl dL_law_664 rfl ?_
  refine Lv_iload 0 rfl dL_law_665 rfl ?_
  refine Lv_iconst (v := (1 : Int32)) (by decide) dL_law_667 rfl ?_
  refine Lv_iadd dL_law_668 rfl ?_
  refine l_sald2 (j := i + 1) XL.xs (nI_add i 1) (by omega) hL dL_law_669 rfl ?_
  refine Lv_aload_n 4 rfl dL_law_670 rfl ?_
  refine Lv_iload 0 rfl dL_law_671 rfl ?_
  refine Lv_iconst (v := (2 : Int32)) (by decide) dL_law_673 rfl ?_
  refine Lv_iadd dL_law_674 rfl ?_
  refine l_sald2 (j := i + 2) XL.xs (nI_add i 2) (by omega) hL dL_law_675 rfl ?_
  refine Lv_aload_n 4 rfl dL_law_676 rfl ?_
  refine Lv_iload 0 rfl dL_law_677 rfl ?_
  refine Lv_iconst (v := (3 : Int32)) (by decide) dL_law_679 rfl ?_
  refine Lv_iadd dL_law_680 rfl ?_
  refine l_sald2 (j := i + 3) XL.xs (nI_add i 3) (by omega) hL dL_law_681 rfl ?_
  refine Lv_Vi (as := [.int (xs (i + 1)), .int (xs (i + 2)), .int (xs (i + 3))]) (st := []) (c' := c) (k' := k) (k_X11_entry e1) (rcv_c hgO (by decide) rfl) mk_X11_entry li_X11_entry le_X11_entry lm_110 (ckL rfl (by omega) (by omega)) rfl dL_law_682 rfl rfl rfl ?_
  refine Lv_aload_n 2 rfl dL_law_685 rfl ?_
  refine Lv_aload_n 4 rfl dL_law_686 rfl ?_
  refine Lv_iload 0 rfl dL_law_687 rfl ?_
  refine Lv_iconst (v := (1 : Int32)) (by decide) dL_law_689 rfl ?_
  refine Lv_iadd dL_law_690 rfl ?_
  refine l_sald2 (j := i + 1) XL.xs (nI_add i 1) (by omega) hL dL_law_691 rfl ?_
  refine Lv_aload_n 4 rfl dL_law_692 rfl ?_
  refine Lv_iload 0 rfl dL_law_693 rfl ?_
  refine Lv_iconst (v := (2 : Int32)) (by decide) dL_law_695 rfl ?_
  refine Lv_iadd dL_law_696 rfl ?_
  refine l_sald2 (j := i + 2) XL.xs (nI_add i 2) (by omega) hL dL_law_697 rfl ?_
  refine Lv_aload_n 4 rfl dL_law_698 rfl ?_
  refine Lv_iload 0 rfl dL_law_699 rfl ?_
  refine Lv_iconst (v := (3 : Int32)) (by decide) dL_law_701 rfl ?_
  refine Lv_iadd dL_law_702 rfl ?_
  refine l_sald2 (j := i + 3) XL.xs (nI_add i 3) (by omega) hL dL_law_703 rfl ?_
  refine Lv_Vi (as := [.int (xs (i + 1)), .int (xs (i + 2)), .int (xs (i + 3))]) (st := [.int bb]) (c' := c) (k' := k) (k_X12_entry hG e2) (rcv_m (mg hG rfl)) mk_X12_entry li_X12_entry le_X12_entry lm_114 (ckL rfl (by omega) (by omega)) rfl dL_law_704 rfl rfl rfl ?_
  refine Lv_icmp_eq 886 dL_law_707 (by decide) rfl (fun _ => ?_) (fun hne => absurd rfl hne)
  exact kk _ _ _ _ _ ((hI.up ht).th 0) (by omega) (by omega)
set_option maxRecDepth 100000 in
theorem op_word (hG : gF G = mFl) (hI : Inv n t tb σ μ) (ht : t < 64) (hi : i + 4 < L) (hL : L < 2 ^ 31) (hc : c + 42 ≤ 600128) (hk : k + 88 ≤ 7301064) (kk : ∀ (σ' : Hp) (μ' : Mu) (o' : Int64) (c' k' : Nat), Inv n (t + 1) tb σ' μ' → c' ≤ c + 42 → k' ≤ k + 88 → VL G b L xs (σ', μ', o') c' k' 886 (lv0 G b tb i) []) : VL G b L xs (σ, μ, o) c k 712 (lv0 G b tb i) [] := by
  obtain ⟨bb, σ1, μ1, e1, e2, h1⟩ := pb_word hI (xs (i + 1)) (xs (i + 2))
  have hgO := hI.gO
  refine Lv_aload_n 3 rfl dL_law_712 rfl ?_
  refine Lv_aload_n 4 rfl dL_law_713 rfl ?_
  refine Lv_iload 0 rfl dL_law_714 rfl ?_
  refine Lv_iconst (v := (1 : Int32)) (by decide) dL_law_716 rfl ?_
  refine Lv_iadd dL_law_717 rfl ?_
  refine l_sald2 (j := i + 1) XL.xs (nI_add i 1) (by omega) hL dL_law_718 rfl ?_
  refine Lv_aload_n 4 rfl dL_law_719 rfl ?_
  refine Lv_iload 0 rfl dL_law_720 rfl ?_
  refine Lv_iconst (v := (2 : Int32)) (by decide) dL_law_722 rfl ?_
  refine Lv_iadd dL_law_723 rfl ?_
  refine l_sald2 (j := i + 2) XL.xs (nI_add i 2) (by omega) hL dL_law_724 rfl ?_
  refine Lv_Vi (as := [.int (xs (i + 1)), .int (xs (i + 2))]) (st := []) (c' := c) (k' := k) (k_X11_word e1) (rcv_c hgO (by decide) rfl) mk_X11_word li_X11_word le_X11_word lm_115 (ckL rfl (by omega) (by omega)) rfl dL_law_725 rfl rfl rfl ?_
  refine Lv_aload_n 2 rfl dL_law_728 rfl ?_
  refine Lv_aload_n 4 rfl dL_law_729 rfl ?_
  refine Lv_iload 0 rfl dL_law_730 rfl ?_
  refine Lv_iconst (v := (1 : Int32)) (by decide) dL_law_732 rfl ?_
  refine Lv_iadd dL_law_733 rfl ?_
  refine l_sald2 (j := i + 1) XL.xs (nI_add i 1) (by omega) hL dL_law_734 rfl ?_
  refine Lv_aload_n 4 rfl dL_law_735 rfl ?_
  refine Lv_iload 0 rfl dL_law_736 rfl ?_
  refine Lv_iconst (v := (2 : Int32)) (by decide) dL_law_738 rfl ?_
  refine Lv_iadd dL_law_739 rfl ?_
  refine l_sald2 (j := i + 2) XL.xs (nI_add i 2) (by omega) hL dL_law_740 rfl ?_
  refine Lv_Vi (as := [.int (xs (i + 1)), .int (xs (i + 2))]) (st := [.int bb]) (c' := c) (k' := k) (k_X12_word hG e2) (rcv_m (mg hG rfl)) mk_X12_word li_X12_word le_X12_word lm_118 (ckL rfl (by omega) (by omega)) rfl dL_law_741 rfl rfl rfl ?_
  refine Lv_icmp_eq 886 dL_law_744 (by decide) rfl (fun _ => ?_) (fun hne => absurd rfl hne)
  exact kk _ _ _ _ _ (h1.up ht) (by omega) (by omega)
set_option maxRecDepth 100000 in
theorem op_client (hG : gF G = mFl) (hI : Inv n t tb σ μ) (ht : t < 64) (hi : i + 4 < L) (hL : L < 2 ^ 31) (hc : c + 42 ≤ 600128) (hk : k + 88 ≤ 7301064) (kk : ∀ (σ' : Hp) (μ' : Mu) (o' : Int64) (c' k' : Nat), Inv n (t + 1) tb σ' μ' → c' ≤ c + 42 → k' ≤ k + 88 → VL G b L xs (σ', μ', o') c' k' 886 (lv0 G b tb i) []) : VL G b L xs (σ, μ, o) c k 749 (lv0 G b tb i) [] := by
  obtain ⟨bb, e1, e2⟩ := pb_client hI (xs (i + 1)) (xs (i + 2))
  have hgO := hI.gO
  refine Lv_aload_n 3 rfl dL_law_749 rfl ?_
  refine Lv_aload_n 4 rfl dL_law_750 rfl ?_
  refine Lv_iload 0 rfl dL_law_751 rfl ?_
  refine Lv_iconst (v := (1 : Int32)) (by decide) dL_law_753 rfl ?_
  refine Lv_iadd dL_law_754 rfl ?_
  refine l_sald2 (j := i + 1) XL.xs (nI_add i 1) (by omega) hL dL_law_755 rfl ?_
  refine Lv_aload_n 4 rfl dL_law_756 rfl ?_
  refine Lv_iload 0 rfl dL_law_757 rfl ?_
  refine Lv_iconst (v := (2 : Int32)) (by decide) dL_law_759 rfl ?_
  refine Lv_iadd dL_law_760 rfl ?_
  refine l_sald2 (j := i + 2) XL.xs (nI_add i 2) (by omega) hL dL_law_761 rfl ?_
  refine Lv_Vi (as := [.int (xs (i + 1)), .int (xs (i + 2))]) (st := []) (c' := c) (k' := k) (k_X11_client e1) (rcv_c hgO (by decide) rfl) mk_X11_client li_X11_client le_X11_client lm_119 (ckL rfl (by omega) (by omega)) rfl dL_law_762 rfl rfl rfl ?_
  refine Lv_aload_n 2 rfl dL_law_765 rfl ?_
  refine Lv_aload_n 4 rfl dL_law_766 rfl ?_
  refine Lv_iload 0 rfl dL_law_767 rfl ?_
  refine Lv_iconst (v := (1 : Int32)) (by decide) dL_law_769 rfl ?_
  refine Lv_iadd dL_law_770 rfl ?_
  refine l_sald2 (j := i + 1) XL.xs (nI_add i 1) (by omega) hL dL_law_771 rfl ?_
  refine Lv_aload_n 4 rfl dL_law_772 rfl ?_
  refine Lv_iload 0 rfl dL_law_773 rfl ?_
  refine Lv_iconst (v := (2 : Int32)) (by decide) dL_law_775 rfl ?_
  refine Lv_iadd dL_law_776 rfl ?_
  refine l_sald2 (j := i + 2) XL.xs (nI_add i 2) (by omega) hL dL_law_777 rfl ?_
  refine Lv_Vi (as := [.int (xs (i + 1)), .int (xs (i + 2))]) (st := [.int bb]) (c' := c) (k' := k) (k_X12_client hG e2) (rcv_m (mg hG rfl)) mk_X12_client li_X12_client le_X12_client lm_122 (ckL rfl (by omega) (by omega)) rfl dL_law_778 rfl rfl rfl ?_
  refine Lv_icmp_eq 886 dL_law_781 (by decide) rfl (fun _ => ?_) (fun hne => absurd rfl hne)
  exact kk _ _ _ _ _ ((hI.up ht).th 0) (by omega) (by omega)
set_option maxRecDepth 100000 in
theorem op_answer (hG : gF G = mFl) (hI : Inv n t tb σ μ) (ht : t < 64) (hi : i + 4 < L) (hL : L < 2 ^ 31) (hc : c + 42 ≤ 600128) (hk : k + 88 ≤ 7301064) (kk : ∀ (σ' : Hp) (μ' : Mu) (o' : Int64) (c' k' : Nat), Inv n (t + 1) tb σ' μ' → c' ≤ c + 42 → k' ≤ k + 88 → VL G b L xs (σ', μ', o') c' k' 886 (lv0 G b tb i) []) : VL G b L xs (σ, μ, o) c k 786 (lv0 G b tb i) [] := by
  obtain ⟨bb, e1, e2⟩ := pb_answer hI (xs (i + 1))
  have hgO := hI.gO
  refine Lv_aload_n 3 rfl dL_law_786 rfl ?_
  refine Lv_aload_n 4 rfl dL_law_787 rfl ?_
  refine Lv_iload 0 rfl dL_law_788 rfl ?_
  refine Lv_iconst (v := (1 : Int32)) (by decide) dL_law_790 rfl ?_
  refine Lv_iadd dL_law_791 rfl ?_
  refine l_sald2 (j := i + 1) XL.xs (nI_add i 1) (by omega) hL dL_law_792 rfl ?_
  refine Lv_Vi (as := [.int (xs (i + 1))]) (st := []) (c' := c) (k' := k) (k_X11_answer e1) (rcv_c hgO (by decide) rfl) mk_X11_answer li_X11_answer le_X11_answer lm_123 (ckL rfl (by omega) (by omega)) rfl dL_law_793 rfl rfl rfl ?_
  refine Lv_aload_n 2 rfl dL_law_796 rfl ?_
  refine Lv_aload_n 4 rfl dL_law_797 rfl ?_
  refine Lv_iload 0 rfl dL_law_798 rfl ?_
  refine Lv_iconst (v := (1 : Int32)) (by decide) dL_law_800 rfl ?_
  refine Lv_iadd dL_law_801 rfl ?_
  refine l_sald2 (j := i + 1) XL.xs (nI_add i 1) (by omega) hL dL_law_802 rfl ?_
  refine Lv_Vi (as := [.int (xs (i + 1))]) (st := [.int bb]) (c' := c) (k' := k) (k_X12_answer_ hG e2) (rcv_m (mg hG rfl)) mk_X12_answer_ li_X12_answer_ le_X12_answer_ lm_126 (ckL rfl (by omega) (by omega)) rfl dL_law_803 rfl rfl rfl ?_
  refine Lv_icmp_eq 886 dL_law_806 (by decide) rfl (fun _ => ?_) (fun hne => absurd rfl hne)
  exact kk _ _ _ _ _ ((hI.up ht).th 0) (by omega) (by omega)
set_option maxRecDepth 100000 in
theorem op_about (hG : gF G = mFl) (hI : Inv n t tb σ μ) (ht : t < 64) (hi : i + 4 < L) (hL : L < 2 ^ 31) (hc : c + 42 ≤ 600128) (hk : k + 88 ≤ 7301064) (kk : ∀ (σ' : Hp) (μ' : Mu) (o' : Int64) (c' k' : Nat), Inv n (t + 1) tb σ' μ' → c' ≤ c + 42 → k' ≤ k + 88 → VL G b L xs (σ', μ', o') c' k' 886 (lv0 G b tb i) []) : VL G b L xs (σ, μ, o) c k 811 (lv0 G b tb i) [] := by
  obtain ⟨bb, e1, e2⟩ := pb_about hI (xs (i + 1))
  have hgO := hI.gO
  refine Lv_aload_n 3 rfl dL_law_811 rfl ?_
  refine Lv_aload_n 4 rfl dL_law_812 rfl ?_
  refine Lv_iload 0 rfl dL_law_813 rfl ?_
  refine Lv_iconst (v := (1 : Int32)) (by decide) dL_law_815 rfl ?_
  refine Lv_iadd dL_law_816 rfl ?_
  refine l_sald2 (j := i + 1) XL.xs (nI_add i 1) (by omega) hL dL_law_817 rfl ?_
  refine Lv_Vi (as := [.int (xs (i + 1))]) (st := []) (c' := c) (k' := k) (k_X11_about e1) (rcv_c hgO (by decide) rfl) mk_X11_about li_X11_about le_X11_about lm_127 (ckL rfl (by omega) (by omega)) rfl dL_law_818 rfl rfl rfl ?_
  refine Lv_aload_n 2 rfl dL_law_821 rfl ?_
  refine Lv_aload_n 4 rfl dL_law_822 rfl ?_
  refine Lv_iload 0 rfl dL_law_823 rfl ?_
  refine Lv_iconst (v := (1 : Int32)) (by decide) dL_law_825 rfl ?_
  refine Lv_iadd dL_law_826 rfl ?_
  refine l_sald2 (j := i + 1) XL.xs (nI_add i 1) (by omega) hL dL_law_827 rfl ?_
  refine Lv_Vi (as := [.int (xs (i + 1))]) (st := [.int bb]) (c' := c) (k' := k) (k_X12_about hG e2) (rcv_m (mg hG rfl)) mk_X12_about li_X12_about le_X12_about lm_130 (ckL rfl (by omega) (by omega)) rfl dL_law_828 rfl rfl rfl ?_
  refine Lv_icmp_eq 886 dL_law_831 (by decide) rfl (fun _ => ?_) (fun hne => absurd rfl hne)
  exact kk _ _ _ _ _ ((hI.up ht).th 0) (by omega) (by omega)
set_option maxRecDepth 100000 in
theorem op_message (hG : gF G = mFl) (hI : Inv n t tb σ μ) (ht : t < 64) (hi : i + 4 < L) (hL : L < 2 ^ 31) (hc : c + 42 ≤ 600128) (hk : k + 88 ≤ 7301064) (kk : ∀ (σ' : Hp) (μ' : Mu) (o' : Int64) (c' k' : Nat), Inv n (t + 1) tb σ' μ' → c' ≤ c + 42 → k' ≤ k + 88 → VL G b L xs (σ', μ', o') c' k' 886 (lv0 G b tb i) []) : VL G b L xs (σ, μ, o) c k 836 (lv0 G b tb i) [] := by
  obtain ⟨bb, e1, e2⟩ := pb_message hI (xs (i + 1)) (xs (i + 2))
  have hgO := hI.gO
  refine Lv_aload_n 3 rfl dL_law_836 rfl ?_
  refine Lv_aload_n 4 rfl dL_law_837 rfl ?_
  refine Lv_iload 0 rfl dL_law_838 rfl ?_
  refine Lv_iconst (v := (1 : Int32)) (by decide) dL_law_840 rfl ?_
  refine Lv_iadd dL_law_841 rfl ?_
  refine l_sald2 (j := i + 1) XL.xs (nI_add i 1) (by omega) hL dL_law_842 rfl ?_
  refine Lv_aload_n 4 rfl dL_law_843 rfl ?_
  refine Lv_iload 0 rfl dL_law_844 rfl ?_
  refine Lv_iconst (v := (2 : Int32)) (by decide) dL_law_846 rfl ?_
  refine Lv_iadd dL_law_847 rfl ?_
  refine l_sald2 (j := i + 2) XL.xs (nI_add i 2) (by omega) hL dL_law_848 rfl ?_
  refine Lv_Vi (as := [.int (xs (i + 1)), .int (xs (i + 2))]) (st := []) (c' := c) (k' := k) (k_X11_message e1) (rcv_c hgO (by decide) rfl) mk_X11_message li_X11_message le_X11_message lm_131 (ckL rfl (by omega) (by omega)) rfl dL_law_849 rfl rfl rfl ?_
  refine Lv_aload_n 2 rfl dL_law_852 rfl ?_
  refine Lv_aload_n 4 rfl dL_law_853 rfl ?_
  refine Lv_iload 0 rfl dL_law_854 rfl ?_
  refine Lv_iconst (v := (1 : Int32)) (by decide) dL_law_856 rfl ?_
  refine Lv_iadd dL_law_857 rfl ?_
  refine l_sald2 (j := i + 1) XL.xs (nI_add i 1) (by omega) hL dL_law_858 rfl ?_
  refine Lv_aload_n 4 rfl dL_law_859 rfl ?_
  refine Lv_iload 0 rfl dL_law_860 rfl ?_
  refine Lv_iconst (v := (2 : Int32)) (by decide) dL_law_862 rfl ?_
  refine Lv_iadd dL_law_863 rfl ?_
  refine l_sald2 (j := i + 2) XL.xs (nI_add i 2) (by omega) hL dL_law_864 rfl ?_
  refine Lv_Vi (as := [.int (xs (i + 1)), .int (xs (i + 2))]) (st := [.int bb]) (c' := c) (k' := k) (k_X12_message hG e2) (rcv_m (mg hG rfl)) mk_X12_message li_X12_message le_X12_message lm_134 (ckL rfl (by omega) (by omega)) rfl dL_law_865 rfl rfl rfl ?_
  refine Lv_icmp_eq 886 dL_law_868 (by decide) rfl (fun _ => ?_) (fun hne => absurd rfl hne)
  exact kk _ _ _ _ _ ((hI.up ht).th 0) (by omega) (by omega)
set_option maxRecDepth 100000 in
theorem op_broken (hG : gF G = mFl) (hI : Inv n t tb σ μ) (ht : t < 64) (hi : i + 4 < L) (hL : L < 2 ^ 31) (hc : c + 42 ≤ 600128) (hk : k + 88 ≤ 7301064) (kk : ∀ (σ' : Hp) (μ' : Mu) (o' : Int64) (c' k' : Nat), Inv n (t + 1) tb σ' μ' → c' ≤ c + 42 → k' ≤ k + 88 → VL G b L xs (σ', μ', o') c' k' 886 (lv0 G b tb i) []) : VL G b L xs (σ, μ, o) c k 873 (lv0 G b tb i) [] := by
  obtain ⟨bb, σ1, μ1, e1, e2, h1⟩ := pb_broken hI 
  have hgO := hI.gO
  refine Lv_aload_n 3 rfl dL_law_873 rfl ?_
  refine Lv_Vi (as := []) (st := []) (c' := c) (k' := k) (k_X11_broken e1) (rcv_c hgO (by decide) rfl) mk_X11_broken li_X11_broken le_X11_broken lm_135 (ckL rfl (by omega) (by omega)) rfl dL_law_874 rfl rfl rfl ?_
  refine Lv_aload_n 2 rfl dL_law_877 rfl ?_
  refine Lv_Vi (as := []) (st := [.int bb]) (c' := c) (k' := k) (k_X12_broken hG e2) (rcv_m (mg hG rfl)) mk_X12_broken li_X12_broken le_X12_broken lm_138 (ckL rfl (by omega) (by omega)) rfl dL_law_878 rfl rfl rfl ?_
  refine Lv_icmp_eq 886 dL_law_881 (by decide) rfl (fun _ => ?_) (fun hne => absurd rfl hne)
  exact kk _ _ _ _ _ (h1.up ht) (by omega) (by omega)
end LAWB
