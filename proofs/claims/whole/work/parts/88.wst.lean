/-! whole_start -/
section WST
theorem ln_all : ∀ ci, ci < 13 → Cond.instantiable (cC ci) (cN ci) ∈ lw_tbl := by decide +kernel
theorem ln_nest : ∀ q ∈ nestL, Cond.methodLinkNest q.1 q.2.1 q.2.2.1 q.2.2.2 ∈ lw_tbl := by decide +kernel
theorem ln_ao : ∀ C ∈ aoL, Cond.arrayOver (.object C) ∈ lw_tbl := by decide +kernel
theorem ln_str : ∀ q ∈ strL, Cond.stringRef RX11 q.1 q.2 ∈ lw_tbl := by decide +kernel
theorem ln_decl : ∀ x ∈ declL, Cond.declares x ∈ lw_tbl := by decide +kernel
theorem ln_exc : ∀ E ∈ excL, Cond.castable E E ∈ lw_tbl := by decide +kernel
theorem arrP {s : State} {args : Array Value} {ty : FieldType} (h : (Cond.arrayClass ty).before args s = true) : ∃ cA, ArrOfT s cA ty ∧ s.vm.findClass ("[" ++ ty.toString) = some cA := by
  obtain ⟨cA, kA, comp, h1, h2, h3⟩ := Cond.arrayClass_spec h
  exact ⟨cA, fun n z => ⟨(fun k h => by cases h), kA, h2, comp, h3⟩, h1⟩
theorem arrO {s : State} {args : Array Value} {C : String} (h : (Cond.arrayOver (.object C)).before args s = true) : ∃ cA, ArrOfT s cA (.object C) ∧ va_RA s cA (.object C) := by
  obtain ⟨comp, cA, kA, h1, h2, h3, h4, h5⟩ := Cond.arrayOver_spec h
  exact ⟨cA, fun n z => ⟨(fun k h => by cases h), kA, h3, comp, h4⟩, kA, comp, h3, h4, h1, h5⟩
set_option maxRecDepth 100000 in
set_option maxHeartbeats 2000000 in
theorem start_Ks {s : State} {l : Launch} {args : Array Value} (hflags : l.flags = flags0) (hts : ∀ w ∈ lw_tbl, w.before args s = true) (hgv : (Jvm.Cond.and given_1 narrow_1).before args s = true) : ∃ (f : Nat → ClassId × (Nat → Nat)) (gc : Nat → ClassId), Ks (l, (fun ci => (f ci).1, fun ci => (f ci).2), gc, s.heap.size, s.heap, (fun _ => 0), []) s := by
  have hs := flat_of_before _ hgv
  have hg : ∀ w ∈ gwT, w.before args s = true := fun w hw => hts w (List.mem_filter.mp hw).1
  have hcl : ∀ ci : Nat, ∃ q : ClassId × (Nat → Nat), ci < 13 → u_Kn s (cC ci) (cT ci) (cN ci) q.1 q.2 := by
    intro ci
    by_cases h : ci < 13
    · obtain ⟨a, i, h1⟩ := u_known (C := cC ci) (T := cT ci) (N := cN ci) (n := cN ci) hg (c_in h) (hts _ (ln_all ci h))
      exact ⟨(a, i), fun _ => h1⟩
    · exact ⟨(0, fun _ => 0), fun h' => absurd h' h⟩
  obtain ⟨f, hf⟩ := Classical.axiomOfChoice hcl
  obtain ⟨g0, a0, r0⟩ := arrP (hts (.arrayClass .int) (by decide +kernel))
  obtain ⟨g1, a1, r1⟩ := arrP (hts (.arrayClass .boolean) (by decide +kernel))
  obtain ⟨g7, a7, r7⟩ := arrP (hts (.arrayClass .long) (by decide +kernel))
  obtain ⟨g2, a2, r2⟩ := arrO (hts (.arrayOver (.object RX2)) (by decide +kernel))
  obtain ⟨g3, a3, r3⟩ := arrO (hts (.arrayOver (.object RX4)) (by decide +kernel))
  obtain ⟨g4, a4, r4⟩ := arrO (hts (.arrayOver (.object RX5)) (by decide +kernel))
  obtain ⟨g5, a5, r5⟩ := arrO (hts (.arrayOver (.object RX6)) (by decide +kernel))
  obtain ⟨g6, a6, r6⟩ := arrO (hts (.arrayOver (.object RX9)) (by decide +kernel))
  refine ⟨f, fun k => match k with
    | 0 => g0
    | 1 => g1
    | 2 => g2
    | 3 => g3
    | 4 => g4
    | 5 => g5
    | 6 => g6
    | _ => g7, ⟨fun c q hq => ?_, fun k q hq => ?_⟩, fun q hq => va_Nw.of rfl (hts _ (ln_nest q hq)), fun C hC => va_AO.of (hts _ (ln_ao C hC)), ?_⟩
  · have h13 : c < 13 := (List.getElem?_eq_some_iff.mp hq).1
    have e := (c_at h13).symm.trans hq
    cases Option.some.inj e
    exact hf c h13
  · match k, hq with
    | 0, hq => cases Option.some.inj hq; exact ⟨a0, r0⟩
    | 1, hq => cases Option.some.inj hq; exact ⟨a1, r1⟩
    | 2, hq => cases Option.some.inj hq; exact ⟨a2, r2⟩
    | 3, hq => cases Option.some.inj hq; exact ⟨a3, r3⟩
    | 4, hq => cases Option.some.inj hq; exact ⟨a4, r4⟩
    | 5, hq => cases Option.some.inj hq; exact ⟨a5, r5⟩
    | 6, hq => cases Option.some.inj hq; exact ⟨a6, r6⟩
    | 7, hq => cases Option.some.inj hq; exact ⟨a7, r7⟩
    | k + 8, hq => exact absurd hq (by simp [tysG])
  · have hnA : ∀ a : Nat, a < s.heap.size → ¬ s.heap.size ≤ a := fun a h => Nat.not_le.mpr h
    refine ⟨fun q hq => ?_, vx_Zqof (hts _ (by decide +kernel)) (hts _ (by decide +kernel)) (hs _ (by decide +kernel)) hnA, vx_Zqof (hts _ (by decide +kernel)) (hts _ (by decide +kernel)) (hs _ (by decide +kernel)) hnA, fun x hx => va_Nw.of rfl (hts _ (ln_decl x hx)), fun E hE => va_Nw.of rfl (hts _ (ln_exc E hE)), fun q hq => ?_, ?_⟩
    · have h1 := hts _ (ln_str q hq)
      have h2 : (Cond.exactly (.string RX11 q.1) "java/lang/String").before args s = true := by
        simp only [strL, List.mem_cons, List.not_mem_nil, or_false] at hq
        rcases hq with rfl | rfl | rfl | rfl | rfl | rfl | rfl | rfl | rfl | rfl | rfl | rfl <;> exact hs _ (by decide +kernel)
      obtain ⟨a, _, _, _, e, -⟩ := Cond.exactly_spec h2
      exact ⟨a, vk_R.of h1 e⟩
    · simp only [ncL, List.mem_cons, List.not_mem_nil, or_false] at hq
      rcases hq with rfl | rfl | rfl | rfl | rfl | rfl <;> exact va_Nc.of (hs _ (by decide +kernel))
    · show l.stackTraces = false
      unfold Launch.stackTraces
      rw [hflags]
      decide +kernel
set_option maxRecDepth 100000 in
set_option maxHeartbeats 2000000 in
theorem whole_start {p : Program} {e : Env} {s : State} {m : MethodId} {below : List Frame} {meth : Method} {c : Code} (l : Launch) (hflags : l.flags = flags0) {b L : Nat} {xs : Nat → Int32} (hL : L ≤ 321) (C0 : lw_At p s m meth c b L xs) (hM : s.methodNamed? x = some m ∧ s.vm.method? m = some meth ∧ meth.code = some c) (hNm : meth.name = yL_law.name) : W p l e room_1 s m #[Value.ref b] below meth c s.heap [] 0 0 (lw_Z below #[Value.ref b] s) (entryFrame m ([Value.ref b] : List Value).toArray 7) := by
  obtain ⟨hx, hb, hr, hml, hown, hts, hX, hbl, hlocks, hgv⟩ := C0
  obtain ⟨f, gc, hK⟩ := start_Ks hflags hts hgv
  obtain ⟨G, hG⟩ : ∃ G : Gm, G = (l, (fun ci => (f ci).1, fun ci => (f ci).2), gc, s.heap.size, s.heap, (fun _ => 0), []) := ⟨_, rfl⟩
  rw [← hG] at hK
  have hB : gB G = s.heap.size := by rw [hG]; rfl
  obtain ⟨μ, hV⟩ := l_start (G := G) (b := b) (xs := xs) hL
  have hl := lv_entry ([.ref b]) (n := 7) (Nat.le_of_ble_eq_true rfl)
  rw [lg_entry_eq]
  have hgl : gl G = l := by rw [hG]; rfl
  have hW : Wd G (hp0 (gB G), μ, 0) s.heap := by
    refine ⟨by rw [hB]; rfl, fun a ha => absurd rfl ha, fun j hj => ?_, fun i hi => ?_, fun a ha => by rw [hG]; rfl, by rw [hB]; exact Nat.le_refl _⟩
    · rw [hG] at hj
      cases hj
    · rw [hG] at hi
      cases hi
  have h := hV p e s m #[Value.ref b] below meth c s.heap [] _ ⟨⟨hX, by rw [hB]; exact hbl⟩, rfl, by rw [hB]; exact Nat.le_refl _⟩ ⟨hx, hb, hml, hown, fun w hw => hts w (List.mem_filter.mp hw).1, hlocks, hK, by rw [hB]; exact Nat.le_refl _, hr, hNm, hM⟩ hW va_S.rf hl
  rw [hgl] at h
  exact h
end WST
