/-! throwing of our own: words, constants, the statics that a Throwable reads -/
def exw_ : List Cond := [.castable "java/lang/IndexOutOfBoundsException" "java/lang/IndexOutOfBoundsException", .castable "java/lang/IllegalArgumentException" "java/lang/IllegalArgumentException", .declares ⟨"java/lang/RuntimeException", "<init>", "(Ljava/lang/String;)V"⟩, .declares ⟨"java/lang/Exception", "<init>", "(Ljava/lang/String;)V"⟩, .declares ⟨"java/lang/Throwable", "<init>", "(Ljava/lang/String;)V"⟩]
def EXW (U : State) : Prop := ∀ w ∈ exw_, va_Nw w U
theorem EXW.warm {s U : State} (hW : s.WarmedH U.vm) (hZ : EXW s) : EXW U := List.forall_mem_cons.mpr ⟨va_Nw.warmC hW (hZ _ (List.mem_of_getElem? (i := 0) rfl)), List.forall_mem_cons.mpr ⟨va_Nw.warmC hW (hZ _ (List.mem_of_getElem? (i := 1) rfl)), List.forall_mem_cons.mpr ⟨va_Nw.warmD hW (hZ _ (List.mem_of_getElem? (i := 2) rfl)), List.forall_mem_cons.mpr ⟨va_Nw.warmD hW (hZ _ (List.mem_of_getElem? (i := 3) rfl)), List.forall_mem_cons.mpr ⟨va_Nw.warmD hW (hZ _ (List.mem_of_getElem? (i := 4) rfl)), fun _ h => absurd h List.not_mem_nil⟩⟩⟩⟩⟩
def STR (U : State) : Prop := (∃ q, vk_R RX2 93 "no such place" q U) ∧ (∃ q, vk_R RX2 110 "no such what" q U) ∧ (∃ q, vk_R RX2 121 "no such element" q U) ∧ (∃ q, vk_R RX2 124 "no such row" q U) ∧ (∃ q, vk_R RX2 126 "not told for the beginning" q U)
theorem STR.warm {s U : State} (hW : s.WarmedH U.vm) (h : STR s) : STR U := by
  obtain ⟨⟨a0, h0⟩, ⟨a1, h1⟩, ⟨a2, h2⟩, ⟨a3, h3⟩, ⟨a4, h4⟩⟩ := h
  exact ⟨⟨a0, h0.warm hW⟩, ⟨a1, h1.warm hW⟩, ⟨a2, h2.warm hW⟩, ⟨a3, h3.warm hW⟩, ⟨a4, h4.warm hW⟩⟩
def EX (sz : Nat) (U : State) (H : Heap) : Prop := H.size = sz ∧ vx_Zq Bundle.tN "UNASSIGNED_STACK" Bundle.steD (fun q => sz ≤ q) U H ∧ vx_Zq Bundle.tN "SUPPRESSED_SENTINEL" Bundle.listD (fun q => sz ≤ q) U H ∧ EXW U ∧ STR U
theorem EX.mv {sz : Nat} {u U : State} {H : Heap} (hW : u.WarmedH U.vm) (h : EX sz u H) : EX sz U H := ⟨h.1, vx_Zq.moved hW.alike h.2.1, vx_Zq.moved hW.alike h.2.2.1, EXW.warm hW h.2.2.2.1, STR.warm hW h.2.2.2.2⟩
theorem exB_in0 : ∀ w ∈ (vx_atS RX2 95 "java/lang/IndexOutOfBoundsException" ["java/lang/RuntimeException", "java/lang/Exception"]).filter goodWord, w ∈ lw_tbl := by decide +kernel
theorem exB_ex : ∀ w ∈ (vx_atS RX2 95 "java/lang/IndexOutOfBoundsException" ["java/lang/RuntimeException", "java/lang/Exception"]).filter (fun w => !goodWord w), w ∈ exw_ := by decide +kernel
theorem exB_ot : ∀ w ∈ Cond.classLink RX2 91 "java/lang/IndexOutOfBoundsException" :: Cond.initialized "java/lang/IndexOutOfBoundsException" :: vx_atS RX2 95 "java/lang/IndexOutOfBoundsException" ["java/lang/RuntimeException", "java/lang/Exception"], vx_ot w = true := by decide +kernel
theorem exA_in0 : ∀ w ∈ (vx_atS RX2 123 "java/lang/IllegalArgumentException" ["java/lang/RuntimeException", "java/lang/Exception"]).filter goodWord, w ∈ lw_tbl := by decide +kernel
theorem exA_ex : ∀ w ∈ (vx_atS RX2 123 "java/lang/IllegalArgumentException" ["java/lang/RuntimeException", "java/lang/Exception"]).filter (fun w => !goodWord w), w ∈ exw_ := by decide +kernel
theorem exA_ot : ∀ w ∈ Cond.classLink RX2 119 "java/lang/IllegalArgumentException" :: Cond.initialized "java/lang/IllegalArgumentException" :: vx_atS RX2 123 "java/lang/IllegalArgumentException" ["java/lang/RuntimeException", "java/lang/Exception"], vx_ot w = true := by decide +kernel
/-- the head of a method that may throw -/
theorem vx_go {l : Launch} {y : MethodName} {cc : ByteArray} {maxL : Nat} {ret : Option FieldType} {rm : Room} {av : List Value} {B : State → Prop} {Qc : Array Value → State → Outcome → State → Prop} {XC : String → State → State → Prop} {mc ms : Nat} {free : Addr → Prop}
    (hy : plainName y.cls = true) (hn : (lg_sl av).length ≤ maxL)
    (body : ∀ (p : Program) (e : Env) (s : State) (m : MethodId) (below : List Frame) (meth : Method) (c : Code) (ls : Array Slot), CallFix p m c cc maxL s av.toArray gw y.cls → meth.sig.returnType = ret → meth.locks = false → (∀ x ∈ c.exceptionTable.toList, False) → B s → lv_has ls maxL (lv_args 0 av) →
      W p l e rm s m av.toArray below meth c s.heap [] 0 0 (vx_MQ below Qc XC av.toArray s mc ms free) (F0 m 0 ls [])) : vx_Met l y (gws y cc maxL ret) rm (va_Pc av B) Qc XC mc ms free := by
  refine vx_ofW (cc := cc) (maxL := maxL) (ret := ret) hy rfl ?_
  intro p e s m args below meth c s₁ B9 hml hnt hv
  obtain ⟨rfl, hB⟩ := hv
  have hts := atoms_spec (ws := gws y cc maxL ret) B9.pre
  have hg : ∀ w ∈ gw, w.before av.toArray s = true := fun w h => hts w (List.mem_cons_of_mem _ h)
  have hl := lv_entry av (n := maxL) hn
  rw [lg_entry_eq]
  generalize (lg_sl av ++ List.replicate (maxL - (lg_sl av).length) Slot.unset).toArray = ls at hl ⊢
  exact body p e s m below meth c ls ⟨B9.exec, B9.bytes, hml, findClass_of_methodNamed B9.named, hg⟩ B9.returns B9.notSynchronized hnt hB hl
section THR
variable {p : Program} {l : Launch} {e : Env} {R : Room} {s : State} {m : MethodId} {args : Array Value} {below : List Frame} {meth : Method} {c : Code} {cc : ByteArray} {nL pc : Nat} {ls : Array Slot} {Qc : Array Value → State → Outcome → State → Prop} {sz is : Nat} {tx : String}
theorem thrB (hl9 : l.stackTraces = false) (S : CallFix p m c cc nL s args gw RX2) (hnt : ∀ x ∈ c.exceptionTable.toList, False) (hlocks : meth.locks = false) (hE : EX sz s s.heap) (hstr : ∃ q, vk_R RX2 is tx q s) (hsz : ls.size = nL)
    (d0 : decode cc pc = .ok (.new 91, 3)) (d3 : decode cc (pc + 3) = .ok (.dup, 1)) (d4 : decode cc (pc + 4) = .ok (.ldc is, 2)) (d6 : decode cc (pc + 6) = .ok (.invokespecial 95, 3)) (d9 : decode cc (pc + 9) = .ok (.athrow, 1)) (hR : 5 < R.frames ∧ 82 ≤ R.locals ∧ 1 ≤ R.cells ∧ 6 ≤ R.slots) {PX : Prop} (px : PX) :
    W p l e R s m args below meth c s.heap [] 0 0 (vx_MQ below Qc (vx_X (fun _ : Unit => PX) (fun E _ _ => E = "java/lang/IndexOutOfBoundsException") (fun q => sz ≤ q)) args s 1 6 (fun q => sz ≤ q)) (F0 m pc ls []) := by
  obtain ⟨hx, hb, hml, hown, hg⟩ := S
  obtain ⟨sa, hsa⟩ := hstr
  obtain ⟨e1, hU, hN, hW, -⟩ := hE
  exact vx_throwS (cls := "java/lang/IndexOutOfBoundsException") (names := ["java/lang/RuntimeException", "java/lang/Exception"]) (A := fun q => sz ≤ q) hx hb hl9 hown (by decide +kernel) (by decide +kernel) (hg _ wk_228) (hg _ wk_9) hsa
    (vx_hat (fun w hw => hg w (List.mem_filter.mpr ⟨exB_in0 w hw, (List.mem_filter.mp hw).2⟩)) exB_ex (fun w hw => va_Nw.use (by revert w; decide +kernel) (hW w hw))) exB_ot hU hN va_S.rf (hsz.trans hml.symm) d0 d3 d4 d6 d9 (fun x h => (hnt x h).elim)
    hR.1 (by show 0 + _ ≤ _; exact hR.2.1) (by show 0 + 1 ≤ _; exact hR.2.2.1) (by show 0 + 6 ≤ _; exact hR.2.2.2) hlocks (fun t _ h1 h2 => ⟨(), px, rfl, h1, fun q hq _ => h2 q hq⟩) (fun _ h => nomatch h) (by decide) (by decide)
theorem thrA (hl9 : l.stackTraces = false) (S : CallFix p m c cc nL s args gw RX2) (hnt : ∀ x ∈ c.exceptionTable.toList, False) (hlocks : meth.locks = false) (hE : EX sz s s.heap) (hstr : ∃ q, vk_R RX2 is tx q s) (hsz : ls.size = nL)
    (d0 : decode cc pc = .ok (.new 119, 3)) (d3 : decode cc (pc + 3) = .ok (.dup, 1)) (d4 : decode cc (pc + 4) = .ok (.ldc is, 2)) (d6 : decode cc (pc + 6) = .ok (.invokespecial 123, 3)) (d9 : decode cc (pc + 9) = .ok (.athrow, 1)) (hR : 5 < R.frames ∧ 82 ≤ R.locals ∧ 1 ≤ R.cells ∧ 6 ≤ R.slots) {PX : Prop} (px : PX) :
    W p l e R s m args below meth c s.heap [] 0 0 (vx_MQ below Qc (vx_X (fun _ : Unit => PX) (fun E _ _ => E = "java/lang/IllegalArgumentException") (fun q => sz ≤ q)) args s 1 6 (fun q => sz ≤ q)) (F0 m pc ls []) := by
  obtain ⟨hx, hb, hml, hown, hg⟩ := S
  obtain ⟨sa, hsa⟩ := hstr
  obtain ⟨e1, hU, hN, hW, -⟩ := hE
  exact vx_throwS (cls := "java/lang/IllegalArgumentException") (names := ["java/lang/RuntimeException", "java/lang/Exception"]) (A := fun q => sz ≤ q) hx hb hl9 hown (by decide +kernel) (by decide +kernel) (hg _ wk_304) (hg _ wk_10) hsa
    (vx_hat (fun w hw => hg w (List.mem_filter.mpr ⟨exA_in0 w hw, (List.mem_filter.mp hw).2⟩)) exA_ex (fun w hw => va_Nw.use (by revert w; decide +kernel) (hW w hw))) exA_ot hU hN va_S.rf (hsz.trans hml.symm) d0 d3 d4 d6 d9 (fun x h => (hnt x h).elim)
    hR.1 (by show 0 + _ ≤ _; exact hR.2.1) (by show 0 + 1 ≤ _; exact hR.2.2.1) (by show 0 + 6 ≤ _; exact hR.2.2.2) hlocks (fun t _ h1 h2 => ⟨(), px, rfl, h1, fun q hq _ => h2 q hq⟩) (fun _ h => nomatch h) (by decide) (by decide)
end THR
