/-! the law's wrappers -/
theorem metW_go {l : Launch} {y : MethodName} {cc : ByteArray} {maxL : Nat} {ret : Option FieldType} {hh : List (Nat × Nat × Nat × Nat)} {rm : Room} {av : List Value} {B : State → Prop} {Qc : Array Value → State → Outcome → State → Prop} {mc ms : Nat} {free : Addr → Prop}
    (hy : plainName y.cls = true) (hn : (lg_sl av).length ≤ maxL)
    (body : ∀ (p : Program) (e : Env) (s : State) (m : MethodId) (below : List Frame) (meth : Method) (c : Code) (ls : Array Slot), CallFix p m c cc maxL s av.toArray gw y.cls → meth.sig.returnType = ret → meth.locks = false → c.exceptionTable.toList = tableOf hh → B s → lv_has ls maxL (lv_args 0 av) →
      W p l e rm s m av.toArray below meth c s.heap [] 0 0 (MQ below Qc av.toArray s mc ms free) (F0 m 0 ls [])) : Met l y (Cond.codeWith y cc maxL ret hh :: gw) rm (va_Pc av B) Qc mc ms free := by
  refine va_MetW (cc := cc) (maxL := maxL) (ret := ret) (hh := hh) hy rfl ?_
  intro p e s m args below meth c s₁ B9 hml hv
  obtain ⟨rfl, hB⟩ := hv
  have hts := atoms_spec (ws := Cond.codeWith y cc maxL ret hh :: gw) B9.pre
  have hg : ∀ w ∈ gw, w.before av.toArray s = true := fun w h => hts w (List.mem_cons_of_mem _ h)
  have htab := vx_table (x := y) B9 (hts _ List.mem_cons_self)
  have hl := lv_entry av (n := maxL) hn
  rw [lg_entry_eq]
  generalize (lg_sl av ++ List.replicate (maxL - (lg_sl av).length) Slot.unset).toArray = ls at hl ⊢
  exact body p e s m below meth c ls ⟨B9.exec, B9.bytes, hml, findClass_of_methodNamed B9.named, hg⟩ B9.returns B9.notSynchronized htab hB hl
section CALLX
variable {p : Program} {l : Launch} {e : Env} {R : Room} {s : State} {m : MethodId} {args : Array Value} {below : List Frame} {meth : Method} {c : Code} {H : Heap} {locs : List Loc} {cells slots : Nat} {Q : State → Prop} {cc : ByteArray} {nL pc : Nat} {ls : Array Slot} {rest : List Value} {y : MethodName} {b9 : ByteArray} {n9 idx : Nat} {r9 : Option FieldType} {rm : Room} {Bh : State → Heap → Prop} {own C : String} {o9 : Nat} {As : List Value}
theorem runX {Qc : Array Value → State → Outcome → State → Prop} {XC : String → State → State → Prop} {mc ms : Nat} {free : Addr → Prop} (S : CallFix p m c cc nL s args gw own) (hM : vx_Met l y (gws y b9 n9 r9) rm (va_Pc (.ref o9 :: As) (fun U => Bh U U.heap)) Qc XC mc ms free) (hT : GoodIn gw (wsV own idx C y (gws y b9 n9 r9))) (hrc : rm.cells = mc) (hrs : rm.slots = ms) (k9 : Nat) (hk9 : As.length = k9)
    (hd : y.cls = C ∧ y.cls ≠ "java/lang/invoke/MethodHandle" ∧ y.cls ≠ "java/lang/invoke/VarHandle" ∧ (parseMethodDescriptor y.desc).map (fun d => d.parameters.length) = some k9) (hR : rm.frames + 1 ≤ R.frames ∧ 8 + (n9 + 11) + rm.locals ≤ R.locals) (hf : cells + mc ≤ R.cells ∧ slots + ms ≤ R.slots)
    (hMv : Mv Bh) (hrecv : ∃ cell : Cell, H[o9]? = some cell ∧ cell.vm.isStatics = false ∧ s.vm.findClass C = some cell.cls) (hB : Bh s H) (hsize : ls.size = nL) (hW : (rest.map fun v => v.category).sum ≤ 8) (hdg : decode cc pc = .ok (.invokevirtual idx, 3)) :
    vx_Run p l e R s m args below meth c H locs cells slots mc ms (F0 m pc ls (As.reverse ++ .ref o9 :: rest)) rest (Qc (.ref o9 :: As).toArray) XC free :=
  vx_runV (As := As) (rest := rest) S hM (cwV k9 S.2.2.2.2 hT rfl hrc hrs hd hR) ⟨hMv.blind, hrecv, hMv.at hB _⟩ rfl hk9 hsize rfl (lv_room hW) hdg hf
end CALLX
abbrev wO (o : Nat) (cO : ClassId) (fO : Nat → Int64) : va_W := [(o, .inl (cO, 1, .inr (.inl fO)))]
set_option maxHeartbeats 4000000 in
set_option maxRecDepth 100000 in
theorem c_L_at {l : Launch} (hl9 : l.stackTraces = false) {D : va_G} {x u i g w n cn cnt : Nat} {ids : Nat → Int32} {ad : Nat → Nat} {f : Nat → Nat → Int32} {o : Nat} {cO : ClassId} {fO : Nat → Int64} {sz : Nat} (v1 v2 : Int32) : Met l yL_at (Cond.codeWith yL_at cL_at 5 (some .int) [((0 : Nat), (10 : Nat), (13 : Nat), (13 : Nat))] :: gw) { frames := 7, cells := 1, slots := 6, locals := 105 } (va_Pc [.ref x, .int v1, .int v2, .ref o] (fun U => (fun U H => RdC D x u i g w n cn cnt ids ad f U H ∧ EX sz U H ∧ GPre D (wO o cO fO) [(cO, .long)] sz U H) U U.heap)) (va_Qi (fun r (z : Nat → Int64) => (r = 0 ∧ ∃ r0, (fun r : Int32 => ∃ k, k < n ∧ f (ad k) 5 = 0 ∧ nI (vis (fun k => f (ad k) 5) k) = v1 ∧ ((v2 = 0 ∧ r = f (ad k) 0) ∨ (v2 = 1 ∧ r = f (ad k) 7) ∨ (v2 = 2 ∧ r = f (ad k) 8) ∨ (v2 = 3 ∧ r = f (ad k) 6))) r0 ∧ z 0 = r0.toInt64) ∨ (r = 1 ∧ ((∀ k, k < n → f (ad k) 5 = 0 → ¬ nI (vis (fun k => f (ad k) 5) k) = v1) ∨ (¬ v2 = 0 ∧ ¬ v2 = 1 ∧ ¬ v2 = 2 ∧ ¬ v2 = 3)))) (fun z => GB D [(cO, .long)] (va_A (wO o cO fO) sz) (wO o cO z)) (va_A (wO o cO fO) sz)) 1 6 (va_A (wO o cO fO) sz) := by
  refine metW_go (by decide) (Nat.le_of_ble_eq_true rfl) ?_
  intro p e s m below meth c ls S hr hlocks htab hB hl
  obtain ⟨hC, hE, hsz, hP, hK, hD⟩ := hB
  obtain ⟨hx, hb, hml, hown, hg⟩ := id S
  subst hsz
  have hl : lv_has ls 5 [(0, .ref x), (1, .int v1), (2, .int v2), (3, .ref o)] := hl
  have hD := hD.self (sz := s.heap.size)
  generalize hAe : va_A (wO o cO fO) s.heap.size = AA at hD ⊢
  have hA : ∀ q : Nat, s.heap.size ≤ q → AA q := fun q h => by rw [← hAe]; exact Or.inr h
  have hcast : (Cond.castable "java/lang/IndexOutOfBoundsException" "java/lang/IndexOutOfBoundsException").before [.ref x, .int v1, .int v2, .ref o].toArray s = true := va_Nw.use rfl (hE.2.2.2.1 _ (List.mem_of_getElem? (i := 0) rfl))
  refine lv_aload_n hx hb dL_at_0 rfl (lv_at hl 3 rfl) ?_
  refine lv_iconst (v := 0) hx hb dL_at_1 (by decide) ?_
  refine lv_aload_n hx hb dL_at_2 rfl (lv_at hl 0 rfl) ?_
  refine lv_iload_n hx hb dL_at_3 rfl (lv_at hl 1 rfl) ?_
  refine lv_iload_n hx hb dL_at_4 rfl (lv_at hl 2 rfl) ?_
  refine vx_calli (A0 := AA) (runX (As := [.int v1, .int v2]) (rest := [.int 0, .ref o]) (Bh := fun U H => RdC D x u i g w n cn cnt ids ad f U H ∧ EX s.heap.size U H) S (c_X2_at hl9 v1 v2) (gw_V wk_220 wk_221 wk_222 wk_1 wk_223) rfl rfl 2 rfl (by decide +kernel) (by decide) (by decide) (fun _ _ _ h q => ⟨RdC.mv h q.1, EX.mv h q.2⟩) hC.recv ⟨hC, hE⟩ hl.1 (Nat.le_of_ble_eq_true rfl) dL_at_5) va_S.rf (fun q _ h => hA q h) hA (fun q _ h => hA q h) (fun E ce q9 u8 t8 H1 locs1 ht8 hvm8 hp hB8 hz8 hk8 hS8 hce hcv hcl => ?_) (fun r9 u8 t8 H1 locs1 ht8 hvm8 hp hB8 hz8 hk8 hS8 => ?_)
  · subst hB8
    have hP1 : va_P D cl_ (wO o cO fO) H1 := hP.kept (fun k x9 hx9 => hk8 x9.1 ((hP k x9 hx9).lt) (Nat.not_le.mpr ((hP k x9 hx9).lt)))
    refine vx_catch hown [] ⟨0, 10, 13, 13⟩ [] htab (fun _ h => nomatch h) rfl (by decide) (hg _ wk_219) hcast hce hcv hcl ?_
    refine lv_astore (lv' := [(4, .ref q9), (0, .ref x), (1, .int v1), (2, .int v2), (3, .ref o)]) hx hb dL_at_13 hl (by decide) rfl (fun ls hl => ?_)
    refine lv_iconst (v := 1) hx hb dL_at_15 (by decide) ?_
    exact W.iret (v := 1) hx hb hr (fun t9 ht9 hW9 => ⟨⟨1, fO, rfl, Or.inr ⟨rfl, hp⟩, by rw [ht9]; exact hP1, va_K.moved hW9.alike hK, hD⟩, hS8.F ht9⟩) hS8.2.2 dL_at_16
  · have hP1 : va_P D cl_ (wO o cO fO) H1 := hP.kept (fun k x9 hx9 => hk8 x9.1 ((hP k x9 hx9).lt) (Nat.not_le.mpr ((hP k x9 hx9).lt)))
    refine lv_i2l (v := r9.toInt64) hx hb dL_at_8 rfl ?_
    refine va_last hx hb hK hP1 hD hS8 0 0 rfl rfl (by unfold vp_in; decide) dL_at_9 (fun H2 locs2 hP2 hD2 hS2 => ?_)
    refine lv_goto (tgt := 17) hx hb dL_at_10 (by decide) ?_
    refine lv_iconst (v := 0) hx hb dL_at_17 (by decide) ?_
    exact W.iret (v := 0) hx hb hr (fun t9 ht9 hW9 => ⟨⟨0, _, rfl, Or.inl ⟨rfl, r9, hp, rfl⟩, by rw [ht9]; exact hP2, va_K.moved hW9.alike hK, hD2⟩, hS2.F ht9⟩) hS2.2.2 dL_at_18
set_option maxHeartbeats 4000000 in
set_option maxRecDepth 100000 in
theorem c_L_ahead {l : Launch} (hl9 : l.stackTraces = false) {D : va_G} {x u i g w n cn cnt : Nat} {ids : Nat → Int32} {ad : Nat → Nat} {f : Nat → Nat → Int32} {o : Nat} {cO : ClassId} {fO : Nat → Int64} {sz : Nat} (v1 : Int32) : Met l yL_ahead (Cond.codeWith yL_ahead cL_ahead 4 (some .int) [((0 : Nat), (9 : Nat), (12 : Nat), (19 : Nat))] :: gw) { frames := 7, cells := 1, slots := 6, locals := 104 } (va_Pc [.ref x, .int v1, .ref o] (fun U => (fun U H => RdC D x u i g w n cn cnt ids ad f U H ∧ EX sz U H ∧ GPre D (wO o cO fO) [(cO, .long)] sz U H) U U.heap)) (va_Qi (fun r (z : Nat → Int64) => (r = 0 ∧ ∃ r0, (fun r : Int32 => ∃ k, k < n ∧ f (ad k) 0 = v1 ∧ r = nI (vis (fun k => f (ad k) 5) k)) r0 ∧ z 0 = r0.toInt64) ∨ (r = 1 ∧ (∀ k, k < n → ¬ f (ad k) 0 = v1))) (fun z => GB D [(cO, .long)] (va_A (wO o cO fO) sz) (wO o cO z)) (va_A (wO o cO fO) sz)) 1 6 (va_A (wO o cO fO) sz) := by
  refine metW_go (by decide) (Nat.le_of_ble_eq_true rfl) ?_
  intro p e s m below meth c ls S hr hlocks htab hB hl
  obtain ⟨hC, hE, hsz, hP, hK, hD⟩ := hB
  obtain ⟨hx, hb, hml, hown, hg⟩ := id S
  subst hsz
  have hl : lv_has ls 4 [(0, .ref x), (1, .int v1), (2, .ref o)] := hl
  have hD := hD.self (sz := s.heap.size)
  generalize hAe : va_A (wO o cO fO) s.heap.size = AA at hD ⊢
  have hA : ∀ q : Nat, s.heap.size ≤ q → AA q := fun q h => by rw [← hAe]; exact Or.inr h
  have hcast : (Cond.castable "java/lang/IllegalArgumentException" "java/lang/IllegalArgumentException").before [.ref x, .int v1, .ref o].toArray s = true := va_Nw.use rfl (hE.2.2.2.1 _ (List.mem_of_getElem? (i := 1) rfl))
  refine lv_aload_n hx hb dL_ahead_0 rfl (lv_at hl 2 rfl) ?_
  refine lv_iconst (v := 0) hx hb dL_ahead_1 (by decide) ?_
  refine lv_aload_n hx hb dL_ahead_2 rfl (lv_at hl 0 rfl) ?_
  refine lv_iload_n hx hb dL_ahead_3 rfl (lv_at hl 1 rfl) ?_
  refine vx_calli (A0 := AA) (runX (As := [.int v1]) (rest := [.int 0, .ref o]) (Bh := fun U H => RdC D x u i g w n cn cnt ids ad f U H ∧ EX s.heap.size U H) S (c_X2_ahead hl9 v1) (gw_V wk_300 wk_301 wk_302 wk_1 wk_303) rfl rfl 1 rfl (by decide +kernel) (by decide) (by decide) (fun _ _ _ h q => ⟨RdC.mv h q.1, EX.mv h q.2⟩) hC.recv ⟨hC, hE⟩ hl.1 (Nat.le_of_ble_eq_true rfl) dL_ahead_4) va_S.rf (fun q _ h => hA q h) hA (fun q _ h => hA q h) (fun E ce q9 u8 t8 H1 locs1 ht8 hvm8 hp hB8 hz8 hk8 hS8 hce hcv hcl => ?_) (fun r9 u8 t8 H1 locs1 ht8 hvm8 hp hB8 hz8 hk8 hS8 => ?_)
  · subst hB8
    have hP1 : va_P D cl_ (wO o cO fO) H1 := hP.kept (fun k x9 hx9 => hk8 x9.1 ((hP k x9 hx9).lt) (Nat.not_le.mpr ((hP k x9 hx9).lt)))
    refine vx_catch hown [] ⟨0, 9, 12, 19⟩ [] htab (fun _ h => nomatch h) rfl (by decide) (hg _ wk_299) hcast hce hcv hcl ?_
    refine lv_astore_n (lv' := [(3, .ref q9), (0, .ref x), (1, .int v1), (2, .ref o)]) hx hb dL_ahead_12 rfl hl (by decide) rfl (fun ls hl => ?_)
    refine lv_iconst (v := 1) hx hb dL_ahead_13 (by decide) ?_
    exact W.iret (v := 1) hx hb hr (fun t9 ht9 hW9 => ⟨⟨1, fO, rfl, Or.inr ⟨rfl, hp⟩, by rw [ht9]; exact hP1, va_K.moved hW9.alike hK, hD⟩, hS8.F ht9⟩) hS8.2.2 dL_ahead_14
  · have hP1 : va_P D cl_ (wO o cO fO) H1 := hP.kept (fun k x9 hx9 => hk8 x9.1 ((hP k x9 hx9).lt) (Nat.not_le.mpr ((hP k x9 hx9).lt)))
    refine lv_i2l (v := r9.toInt64) hx hb dL_ahead_7 rfl ?_
    refine va_last hx hb hK hP1 hD hS8 0 0 rfl rfl (by unfold vp_in; decide) dL_ahead_8 (fun H2 locs2 hP2 hD2 hS2 => ?_)
    refine lv_goto (tgt := 15) hx hb dL_ahead_9 (by decide) ?_
    refine lv_iconst (v := 0) hx hb dL_ahead_15 (by decide) ?_
    exact W.iret (v := 0) hx hb hr (fun t9 ht9 hW9 => ⟨⟨0, _, rfl, Or.inl ⟨rfl, r9, hp, rfl⟩, by rw [ht9]; exact hP2, va_K.moved hW9.alike hK, hD2⟩, hS2.F ht9⟩) hS2.2.2 dL_ahead_16
set_option maxHeartbeats 4000000 in
set_option maxRecDepth 100000 in
theorem c_L_before {l : Launch} (hl9 : l.stackTraces = false) {D : va_G} {x u i g w n cn cnt : Nat} {ids : Nat → Int32} {ad : Nat → Nat} {f : Nat → Nat → Int32} {o : Nat} {cO : ClassId} {fO : Nat → Int64} {sz : Nat} (v1 v2 : Int32) : Met l yL_before (Cond.codeWith yL_before cL_before 5 (some .int) [((0 : Nat), (17 : Nat), (20 : Nat), (19 : Nat))] :: gw) { frames := 7, cells := 1, slots := 6, locals := 106 } (va_Pc [.ref x, .int v1, .int v2, .ref o] (fun U => (fun U H => RdC D x u i g w n cn cnt ids ad f U H ∧ EX sz U H ∧ GPre D (wO o cO fO) [(cO, .long)] sz U H) U U.heap)) (va_Qi (fun r (z : Nat → Int64) => (r = 0 ∧ ∃ r0, (fun r : Int32 => ∃ a b, a < n ∧ b < n ∧ f (ad a) 0 = v1 ∧ f (ad b) 0 = v2 ∧ ((a < b ∧ r = 1) ∨ (¬ a < b ∧ r = 0))) r0 ∧ z 0 = r0.toInt64) ∨ (r = 1 ∧ ((∀ k, k < n → ¬ f (ad k) 0 = v1) ∨ (∀ k, k < n → ¬ f (ad k) 0 = v2)))) (fun z => GB D [(cO, .long)] (va_A (wO o cO fO) sz) (wO o cO z)) (va_A (wO o cO fO) sz)) 1 6 (va_A (wO o cO fO) sz) := by
  refine metW_go (by decide) (Nat.le_of_ble_eq_true rfl) ?_
  intro p e s m below meth c ls S hr hlocks htab hB hl
  obtain ⟨hC, hE, hsz, hP, hK, hD⟩ := hB
  obtain ⟨hx, hb, hml, hown, hg⟩ := id S
  subst hsz
  have hl : lv_has ls 5 [(0, .ref x), (1, .int v1), (2, .int v2), (3, .ref o)] := hl
  have hD := hD.self (sz := s.heap.size)
  generalize hAe : va_A (wO o cO fO) s.heap.size = AA at hD ⊢
  have hA : ∀ q : Nat, s.heap.size ≤ q → AA q := fun q h => by rw [← hAe]; exact Or.inr h
  have hcast : (Cond.castable "java/lang/IllegalArgumentException" "java/lang/IllegalArgumentException").before [.ref x, .int v1, .int v2, .ref o].toArray s = true := va_Nw.use rfl (hE.2.2.2.1 _ (List.mem_of_getElem? (i := 1) rfl))
  refine lv_aload_n hx hb dL_before_0 rfl (lv_at hl 3 rfl) ?_
  refine lv_iconst (v := 0) hx hb dL_before_1 (by decide) ?_
  refine lv_aload_n hx hb dL_before_2 rfl (lv_at hl 0 rfl) ?_
  refine lv_iload_n hx hb dL_before_3 rfl (lv_at hl 1 rfl) ?_
  refine lv_iload_n hx hb dL_before_4 rfl (lv_at hl 2 rfl) ?_
  refine vx_calli (A0 := AA) (runX (As := [.int v1, .int v2]) (rest := [.int 0, .ref o]) (Bh := fun U H => RdC D x u i g w n cn cnt ids ad f U H ∧ EX s.heap.size U H) S (c_X2_before hl9 v1 v2) (gw_V wk_323 wk_324 wk_325 wk_1 wk_326) rfl rfl 2 rfl (by decide +kernel) (by decide) (by decide) (fun _ _ _ h q => ⟨RdC.mv h q.1, EX.mv h q.2⟩) hC.recv ⟨hC, hE⟩ hl.1 (Nat.le_of_ble_eq_true rfl) dL_before_5) va_S.rf (fun q _ h => hA q h) hA (fun q _ h => hA q h) (fun E ce q9 u8 t8 H1 locs1 ht8 hvm8 hp hB8 hz8 hk8 hS8 hce hcv hcl => ?_) (fun r9 u8 t8 H1 locs1 ht8 hvm8 hp hB8 hz8 hk8 hS8 => ?_)
  · subst hB8
    have hP1 : va_P D cl_ (wO o cO fO) H1 := hP.kept (fun k x9 hx9 => hk8 x9.1 ((hP k x9 hx9).lt) (Nat.not_le.mpr ((hP k x9 hx9).lt)))
    refine vx_catch hown [] ⟨0, 17, 20, 19⟩ [] htab (fun _ h => nomatch h) rfl (by decide) (hg _ wk_299) hcast hce hcv hcl ?_
    refine lv_astore (lv' := [(4, .ref q9), (0, .ref x), (1, .int v1), (2, .int v2), (3, .ref o)]) hx hb dL_before_20 hl (by decide) rfl (fun ls hl => ?_)
    refine lv_iconst (v := 1) hx hb dL_before_22 (by decide) ?_
    exact W.iret (v := 1) hx hb hr (fun t9 ht9 hW9 => ⟨⟨1, fO, rfl, Or.inr ⟨rfl, hp⟩, by rw [ht9]; exact hP1, va_K.moved hW9.alike hK, hD⟩, hS8.F ht9⟩) hS8.2.2 dL_before_23
  · have hP1 : va_P D cl_ (wO o cO fO) H1 := hP.kept (fun k x9 hx9 => hk8 x9.1 ((hP k x9 hx9).lt) (Nat.not_le.mpr ((hP k x9 hx9).lt)))
    refine lv_if_eq (tgt := 15) hx hb dL_before_8 (by decide) (fun c_8 => ?_) (fun c_8 => ?_)
    · obtain ⟨a9, b9, g1, g2, g3, g4, g5⟩ := hp
      obtain ⟨g5, g6⟩ := g5.resolve_left (fun z9 => by rw [c_8] at z9; exact absurd z9.2 (by decide))
      refine lv_lconst (v := 0) hx hb dL_before_15 (by decide) ?_
      refine va_last hx hb hK hP1 hD hS8 0 0 rfl rfl (by unfold vp_in; decide) dL_before_16 (fun H2 locs2 hP2 hD2 hS2 => ?_)
      refine lv_goto (tgt := 24) hx hb dL_before_17 (by decide) ?_
      refine lv_iconst (v := 0) hx hb dL_before_24 (by decide) ?_
      exact W.iret (v := 0) hx hb hr (fun t9 ht9 hW9 => ⟨⟨0, _, rfl, Or.inl ⟨rfl, 0, ⟨a9, b9, g1, g2, g3, g4, Or.inr ⟨g5, rfl⟩⟩, rfl⟩, by rw [ht9]; exact hP2, va_K.moved hW9.alike hK, hD2⟩, hS2.F ht9⟩) hS2.2.2 dL_before_25
    · obtain ⟨a9, b9, g1, g2, g3, g4, g5⟩ := hp
      obtain ⟨g5, g6⟩ := g5.resolve_right (fun z9 => c_8 z9.2)
      refine lv_lconst (v := 1) hx hb dL_before_11 (by decide) ?_
      refine lv_goto (tgt := 16) hx hb dL_before_12 (by decide) ?_
      refine va_last hx hb hK hP1 hD hS8 0 0 rfl rfl (by unfold vp_in; decide) dL_before_16 (fun H2 locs2 hP2 hD2 hS2 => ?_)
      refine lv_goto (tgt := 24) hx hb dL_before_17 (by decide) ?_
      refine lv_iconst (v := 0) hx hb dL_before_24 (by decide) ?_
      exact W.iret (v := 0) hx hb hr (fun t9 ht9 hW9 => ⟨⟨0, _, rfl, Or.inl ⟨rfl, 1, ⟨a9, b9, g1, g2, g3, g4, Or.inl ⟨g5, rfl⟩⟩, rfl⟩, by rw [ht9]; exact hP2, va_K.moved hW9.alike hK, hD2⟩, hS2.F ht9⟩) hS2.2.2 dL_before_25
set_option maxHeartbeats 4000000 in
set_option maxRecDepth 100000 in
theorem c_L_row {l : Launch} (hl9 : l.stackTraces = false) {D : va_G} {x u i g w n cn cnt : Nat} {ids : Nat → Int32} {ad : Nat → Nat} {f : Nat → Nat → Int32} {o : Nat} {cO : ClassId} {fO : Nat → Int64} {sz : Nat} (v1 : Int32) : Met l yL_row (Cond.codeWith yL_row cL_row 4 (some .int) [((0 : Nat), (9 : Nat), (12 : Nat), (13 : Nat))] :: gw) { frames := 7, cells := 1, slots := 6, locals := 104 } (va_Pc [.ref x, .int v1, .ref o] (fun U => (fun U H => RdC D x u i g w n cn cnt ids ad f U H ∧ EX sz U H ∧ GPre D (wO o cO fO) [(cO, .long)] sz U H) U U.heap)) (va_Qi (fun r (z : Nat → Int64) => (r = 0 ∧ ∃ r0, (fun r : Int32 => ∃ k, k < n ∧ v1 = nI k ∧ ((f (ad k) 5 = 0 ∧ r = f (ad k) 0) ∨ (¬ f (ad k) 5 = 0 ∧ r = -f (ad k) 0))) r0 ∧ z 0 = r0.toInt64) ∨ (r = 1 ∧ (v1 < 0 ∨ nI n ≤ v1))) (fun z => GB D [(cO, .long)] (va_A (wO o cO fO) sz) (wO o cO z)) (va_A (wO o cO fO) sz)) 1 6 (va_A (wO o cO fO) sz) := by
  refine metW_go (by decide) (Nat.le_of_ble_eq_true rfl) ?_
  intro p e s m below meth c ls S hr hlocks htab hB hl
  obtain ⟨hC, hE, hsz, hP, hK, hD⟩ := hB
  obtain ⟨hx, hb, hml, hown, hg⟩ := id S
  subst hsz
  have hl : lv_has ls 4 [(0, .ref x), (1, .int v1), (2, .ref o)] := hl
  have hD := hD.self (sz := s.heap.size)
  generalize hAe : va_A (wO o cO fO) s.heap.size = AA at hD ⊢
  have hA : ∀ q : Nat, s.heap.size ≤ q → AA q := fun q h => by rw [← hAe]; exact Or.inr h
  have hcast : (Cond.castable "java/lang/IndexOutOfBoundsException" "java/lang/IndexOutOfBoundsException").before [.ref x, .int v1, .ref o].toArray s = true := va_Nw.use rfl (hE.2.2.2.1 _ (List.mem_of_getElem? (i := 0) rfl))
  refine lv_aload_n hx hb dL_row_0 rfl (lv_at hl 2 rfl) ?_
  refine lv_iconst (v := 0) hx hb dL_row_1 (by decide) ?_
  refine lv_aload_n hx hb dL_row_2 rfl (lv_at hl 0 rfl) ?_
  refine lv_iload_n hx hb dL_row_3 rfl (lv_at hl 1 rfl) ?_
  refine vx_calli (A0 := AA) (runX (As := [.int v1]) (rest := [.int 0, .ref o]) (Bh := fun U H => RdC D x u i g w n cn cnt ids ad f U H ∧ EX s.heap.size U H) S (c_X2_row hl9 v1) (gw_V wk_330 wk_331 wk_332 wk_1 wk_333) rfl rfl 1 rfl (by decide +kernel) (by decide) (by decide) (fun _ _ _ h q => ⟨RdC.mv h q.1, EX.mv h q.2⟩) hC.recv ⟨hC, hE⟩ hl.1 (Nat.le_of_ble_eq_true rfl) dL_row_4) va_S.rf (fun q _ h => hA q h) hA (fun q _ h => hA q h) (fun E ce q9 u8 t8 H1 locs1 ht8 hvm8 hp hB8 hz8 hk8 hS8 hce hcv hcl => ?_) (fun r9 u8 t8 H1 locs1 ht8 hvm8 hp hB8 hz8 hk8 hS8 => ?_)
  · subst hB8
    have hP1 : va_P D cl_ (wO o cO fO) H1 := hP.kept (fun k x9 hx9 => hk8 x9.1 ((hP k x9 hx9).lt) (Nat.not_le.mpr ((hP k x9 hx9).lt)))
    refine vx_catch hown [] ⟨0, 9, 12, 13⟩ [] htab (fun _ h => nomatch h) rfl (by decide) (hg _ wk_219) hcast hce hcv hcl ?_
    refine lv_astore_n (lv' := [(3, .ref q9), (0, .ref x), (1, .int v1), (2, .ref o)]) hx hb dL_row_12 rfl hl (by decide) rfl (fun ls hl => ?_)
    refine lv_iconst (v := 1) hx hb dL_row_13 (by decide) ?_
    exact W.iret (v := 1) hx hb hr (fun t9 ht9 hW9 => ⟨⟨1, fO, rfl, Or.inr ⟨rfl, hp⟩, by rw [ht9]; exact hP1, va_K.moved hW9.alike hK, hD⟩, hS8.F ht9⟩) hS8.2.2 dL_row_14
  · have hP1 : va_P D cl_ (wO o cO fO) H1 := hP.kept (fun k x9 hx9 => hk8 x9.1 ((hP k x9 hx9).lt) (Nat.not_le.mpr ((hP k x9 hx9).lt)))
    refine lv_i2l (v := r9.toInt64) hx hb dL_row_7 rfl ?_
    refine va_last hx hb hK hP1 hD hS8 0 0 rfl rfl (by unfold vp_in; decide) dL_row_8 (fun H2 locs2 hP2 hD2 hS2 => ?_)
    refine lv_goto (tgt := 15) hx hb dL_row_9 (by decide) ?_
    refine lv_iconst (v := 0) hx hb dL_row_15 (by decide) ?_
    exact W.iret (v := 0) hx hb hr (fun t9 ht9 hW9 => ⟨⟨0, _, rfl, Or.inl ⟨rfl, r9, hp, rfl⟩, by rw [ht9]; exact hP2, va_K.moved hW9.alike hK, hD2⟩, hS2.F ht9⟩) hS2.2.2 dL_row_16
set_option maxHeartbeats 4000000 in
set_option maxRecDepth 100000 in
theorem c_L_of {l : Launch} (hl9 : l.stackTraces = false) {D : va_G} {x u i g w n cn cnt : Nat} {ids : Nat → Int32} {ad : Nat → Nat} {f : Nat → Nat → Int32} {o : Nat} {cO : ClassId} {fO : Nat → Int64} {sz : Nat} (v1 v2 : Int32) : Met l yL_of (Cond.codeWith yL_of cL_of 5 (some .int) [((0 : Nat), (10 : Nat), (13 : Nat), (19 : Nat))] :: gw) { frames := 7, cells := 1, slots := 6, locals := 105 } (va_Pc [.ref x, .int v1, .int v2, .ref o] (fun U => (fun U H => RdC D x u i g w n cn cnt ids ad f U H ∧ EX sz U H ∧ GPre D (wO o cO fO) [(cO, .long)] sz U H) U U.heap)) (va_Qi (fun r (z : Nat → Int64) => (r = 0 ∧ ∃ r0, (fun r : Int32 => (v1 = 0 ∧ ((v2 = 0 ∧ r = f g 1) ∨ (v2 = 1 ∧ r = f g 3))) ∨ (¬ v1 = 0 ∧ ∃ k, k < n ∧ f (ad k) 0 = v1 ∧ ((v2 = 0 ∧ r = f (ad k) 1) ∨ (v2 = 1 ∧ r = f (ad k) 3) ∨ (v2 = 2 ∧ r = f (ad k) 4) ∨ (v2 = 3 ∧ r = f (ad k) 5) ∨ (v2 = 4 ∧ r = f (ad k) 6) ∨ (v2 = 5 ∧ r = f (ad k) 7) ∨ (v2 = 6 ∧ r = f (ad k) 8)))) r0 ∧ z 0 = r0.toInt64) ∨ (r = 1 ∧ ((¬ v1 = 0 ∧ ∀ k, k < n → ¬ f (ad k) 0 = v1) ∨ (v1 = 0 ∧ 1 < v2) ∨ (¬ v2 = 0 ∧ ¬ v2 = 1 ∧ ¬ v2 = 2 ∧ ¬ v2 = 3 ∧ ¬ v2 = 4 ∧ ¬ v2 = 5 ∧ ¬ v2 = 6)))) (fun z => GB D [(cO, .long)] (va_A (wO o cO fO) sz) (wO o cO z)) (va_A (wO o cO fO) sz)) 1 6 (va_A (wO o cO fO) sz) := by
  refine metW_go (by decide) (Nat.le_of_ble_eq_true rfl) ?_
  intro p e s m below meth c ls S hr hlocks htab hB hl
  obtain ⟨hC, hE, hsz, hP, hK, hD⟩ := hB
  obtain ⟨hx, hb, hml, hown, hg⟩ := id S
  subst hsz
  have hl : lv_has ls 5 [(0, .ref x), (1, .int v1), (2, .int v2), (3, .ref o)] := hl
  have hD := hD.self (sz := s.heap.size)
  generalize hAe : va_A (wO o cO fO) s.heap.size = AA at hD ⊢
  have hA : ∀ q : Nat, s.heap.size ≤ q → AA q := fun q h => by rw [← hAe]; exact Or.inr h
  have hcast : (Cond.castable "java/lang/IllegalArgumentException" "java/lang/IllegalArgumentException").before [.ref x, .int v1, .int v2, .ref o].toArray s = true := va_Nw.use rfl (hE.2.2.2.1 _ (List.mem_of_getElem? (i := 1) rfl))
  refine lv_aload_n hx hb dL_of_0 rfl (lv_at hl 3 rfl) ?_
  refine lv_iconst (v := 0) hx hb dL_of_1 (by decide) ?_
  refine lv_aload_n hx hb dL_of_2 rfl (lv_at hl 0 rfl) ?_
  refine lv_iload_n hx hb dL_of_3 rfl (lv_at hl 1 rfl) ?_
  refine lv_iload_n hx hb dL_of_4 rfl (lv_at hl 2 rfl) ?_
  refine vx_calli (A0 := AA) (runX (As := [.int v1, .int v2]) (rest := [.int 0, .ref o]) (Bh := fun U H => RdC D x u i g w n cn cnt ids ad f U H ∧ EX s.heap.size U H) S (c_X2_of hl9 v1 v2) (gw_V wk_338 wk_339 wk_340 wk_1 wk_341) rfl rfl 2 rfl (by decide +kernel) (by decide) (by decide) (fun _ _ _ h q => ⟨RdC.mv h q.1, EX.mv h q.2⟩) hC.recv ⟨hC, hE⟩ hl.1 (Nat.le_of_ble_eq_true rfl) dL_of_5) va_S.rf (fun q _ h => hA q h) hA (fun q _ h => hA q h) (fun E ce q9 u8 t8 H1 locs1 ht8 hvm8 hp hB8 hz8 hk8 hS8 hce hcv hcl => ?_) (fun r9 u8 t8 H1 locs1 ht8 hvm8 hp hB8 hz8 hk8 hS8 => ?_)
  · subst hB8
    have hP1 : va_P D cl_ (wO o cO fO) H1 := hP.kept (fun k x9 hx9 => hk8 x9.1 ((hP k x9 hx9).lt) (Nat.not_le.mpr ((hP k x9 hx9).lt)))
    refine vx_catch hown [] ⟨0, 10, 13, 19⟩ [] htab (fun _ h => nomatch h) rfl (by decide) (hg _ wk_299) hcast hce hcv hcl ?_
    refine lv_astore (lv' := [(4, .ref q9), (0, .ref x), (1, .int v1), (2, .int v2), (3, .ref o)]) hx hb dL_of_13 hl (by decide) rfl (fun ls hl => ?_)
    refine lv_iconst (v := 1) hx hb dL_of_15 (by decide) ?_
    exact W.iret (v := 1) hx hb hr (fun t9 ht9 hW9 => ⟨⟨1, fO, rfl, Or.inr ⟨rfl, hp⟩, by rw [ht9]; exact hP1, va_K.moved hW9.alike hK, hD⟩, hS8.F ht9⟩) hS8.2.2 dL_of_16
  · have hP1 : va_P D cl_ (wO o cO fO) H1 := hP.kept (fun k x9 hx9 => hk8 x9.1 ((hP k x9 hx9).lt) (Nat.not_le.mpr ((hP k x9 hx9).lt)))
    refine lv_i2l (v := r9.toInt64) hx hb dL_of_8 rfl ?_
    refine va_last hx hb hK hP1 hD hS8 0 0 rfl rfl (by unfold vp_in; decide) dL_of_9 (fun H2 locs2 hP2 hD2 hS2 => ?_)
    refine lv_goto (tgt := 17) hx hb dL_of_10 (by decide) ?_
    refine lv_iconst (v := 0) hx hb dL_of_17 (by decide) ?_
    exact W.iret (v := 0) hx hb hr (fun t9 ht9 hW9 => ⟨⟨0, _, rfl, Or.inl ⟨rfl, r9, hp, rfl⟩, by rw [ht9]; exact hP2, va_K.moved hW9.alike hK, hD2⟩, hS2.F ht9⟩) hS2.2.2 dL_of_18
