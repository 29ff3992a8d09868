/-! THE CLAIM OUT OF ONE WALK OF THE LAW'S BODY. Your part is whole_start (and what it stands on); all else here is the same for every law, but numbers. -/
def R_law : String := "ListWeaveLaw"
def lw_P (b : Addr) (xs : List Int32) (args : Array Value) (s : State) : Prop := args = #[.ref b] ∧ s.IntsAt b xs ∧ xs.length ≤ 3072 ∧ (Jvm.Cond.and given_1 narrow_1).before args s = true
def lw_Q (_ : Array Value) (s : State) (o : Outcome) (t : State) : Prop := o = .returned (some (.int 1)) ∧ Framed s o t [] 601024 7293034
def lw_Z (below : List Frame) (a : Array Value) (s : State) : State → Prop := fun t => ∃ o, t.status = .running ∧ Ended t below o ∧ lw_Q a s o t
/-- the law's own end, with 1 on the stack, nothing written that was there before, its room as the claim has it -/
theorem lw_ret {p : Program} {l : Launch} {e : Env} {s : State} {m : MethodId} {below : List Frame} {meth : Method} {c : Code} {b : Nat} (hx : p.tables.exec = Jvm.exec) (hb : c.code = code) (hr : meth.sig.returnType = ret) (hlocks : meth.locks = false) {pc : Nat} {H : Heap} {ls : Array Slot} (hdg : decode code pc = .ok (.ireturn, 1)) : W p l e room_1 s m #[Value.ref b] below meth c H [] 601024 7293034 (lw_Z below #[Value.ref b] s) (F0 m pc ls [.int 1]) := by
  intro T hT X
  obtain ⟨fs, hret, hrun, hended, hW, hframe⟩ := X.leave (v := some (.int 1)) (hlocks := hlocks) (fun h => by rw [hr] at h; cases h)
  have hmeth' : T.vm.method? m = some meth := X.method'
  refine ⟨T.setFrames fs, ?_, .returned (some (.int 1)), hrun, hended, rfl, ⟨_, rfl⟩, hW, hframe⟩
  jvm_step X.here [X.here.top, hx, hb, hdg, hmeth', hr, ret, narrow_b1]
  (try refine ⟨rfl, ?_⟩); (try refine ⟨rfl, ?_⟩)
  first | (intro acts; rw [hret _ acts rfl rfl rfl]) | rw [hret _ _ rfl rfl rfl]
  exact Steps.refl _
/-- what holds at the law's entry: the machine, the code, the tables' words (any of lw_tbl by 'hts w (by decide +kernel)'), the script of L ints xs at the cell b, what the Statement gives of the start (any of its parts by flat_of_before) -/
def lw_At (p : Program) (s : State) (m : MethodId) (meth : Method) (c : Code) (b L : Nat) (xs : Nat → Int32) : Prop :=
  p.tables.exec = Jvm.exec ∧ c.code = code ∧ meth.sig.returnType = ret ∧ c.maxLocals = 7 ∧ s.vm.findClass R_law = some m.cls ∧ (∀ w ∈ lw_tbl, w.before #[Value.ref b] s = true) ∧ va_X b L xs s s.heap ∧ b < s.heap.size ∧ meth.locks = false ∧ (Jvm.Cond.and given_1 narrow_1).before #[Value.ref b] s = true
set_option maxHeartbeats 4000000 in
set_option maxRecDepth 100000 in
theorem law_loop {p : Program} {l : Launch} {e : Env} {s : State} {m : MethodId} {below : List Frame} {meth : Method} {c : Code} {b L : Nat} {xs : Nat → Int32} {D : va_G} {y : Nat} {a : Nat → Nat} {cM : ClassId} {o : Nat} {cO : ClassId} {x u i g w : Nat} {cI cW : ClassId} (hLC : LC p l s m c b L xs) (hr : meth.sig.returnType = ret) (hlocks : meth.locks = false) : ∀ (fuel j : Nat) (H : Heap) (locs : List Loc) (ls : Array Slot), 6 * j ≤ L → L - 6 * j < fuel → LI D y a cM o cO x u i g w cI cW s H locs → lv_has ls 7 [(4, .int (nI (6 * j))), (0, .ref b), (1, .ref x), (2, .ref y), (3, .ref o)] → W p l e room_1 s m #[Value.ref b] below meth c H locs (17 + 8 * j) (9246 + 72 * j) (lw_Z below #[Value.ref b] s) (F0 m 23 ls []) := by
  intro fuel
  induction fuel with
  | zero => intro j H locs ls h1 h2; omega
  | succ fuel ih =>
    intro j H locs ls h1 h2 hI hl
    obtain ⟨S, hX, hbl, hL, hl9, hE0⟩ := id hLC
    obtain ⟨hx, hb, hml, hown, hg⟩ := id S
    have hS : va_S (fun q => s.heap.size ≤ q) s.heap H locs := by
      obtain ⟨_, _, _, hH, _⟩ := id hI
      exact hH.oo.S
    refine lv_iload hx hb dL_law_23 (lv_at hl 0 rfl) ?_
    refine lv_aload_n hx hb dL_law_25 rfl (lv_at hl 1 rfl) ?_
    refine ll_len hLC hS dL_law_26 ?_
    refine lv_bipush (v := 6) hx hb dL_law_27 (by decide) ?_
    refine lv_isub hx hb dL_law_29 ?_
    refine lv_icmp_gt (tgt := 805) hx hb dL_law_30 (by decide) (fun c_30 => ?_) (fun c_30 => ?_)
    · refine lv_iconst (v := 1) hx hb dL_law_805 (by decide) ?_
      refine va_forget (fun q hq => hS.2.2 q hq) ?_
      refine W.widen (k := 601024) (n := 7293034) (by omega) (by omega) ?_
      exact lw_ret hx hb hr hlocks dL_law_806
    · have c_31 : ¬ L < 6 * j + 6 := fun z => c_30 ((ll_more hL (by omega)).mpr z)
      have hk : 6 * j + 6 ≤ L := by omega
      have kk : ∀ (H : Heap) (locs : List Loc) (ls : Array Slot), LI D y a cM o cO x u i g w cI cW s H locs → lv_has ls 7 [(4, .int (nI (6 * j))), (0, .ref b), (1, .ref x), (2, .ref y), (3, .ref o)] → W p l e room_1 s m #[Value.ref b] below meth c H locs (17 + 8 * j + 8) (9246 + 72 * j + 72) (lw_Z below #[Value.ref b] s) (F0 m 799 ls []) := by
        intro H locs ls hI hl
        refine lv_iinc (v := nI (6 * (j + 1))) (lv' := [(4, .int (nI (6 * (j + 1)))), (0, .ref b), (1, .ref x), (2, .ref y), (3, .ref o)]) hx hb dL_law_799 hl (k := 0) rfl (by rw [show Int32.ofInt 6 = nI 6 by decide]; exact nI_add (6 * j) 6) (by decide) rfl (fun ls hl => ?_)
        refine lv_goto (tgt := 23) hx hb dL_law_802 (by decide) ?_
        refine W.widen (k := 17 + 8 * (j + 1)) (n := 9246 + 72 * (j + 1)) (by omega) (by omega) ?_
        exact ih (j + 1) H locs ls (by omega) (by omega) hI hl
      refine lv_aload_n hx hb dL_law_33 rfl (lv_at hl 1 rfl) ?_
      refine lv_iload hx hb dL_law_34 (lv_at hl 0 rfl) ?_
      refine ll_sld (k := 6 * j) hLC hS (by omega) dL_law_36 ?_
      refine lv_bipush (v := 15) hx hb dL_law_37 (by decide) ?_
      refine lv_iand hx hb dL_law_39 ?_
      refine lv_topi (fun v hv => ?_)
      by_cases w_0 : v = 0
      · subst w_0
        refine lv_tableIn (off := 72) (tgt := 112) hx hb dL_law_40 (by decide) (by decide) rfl (by decide) ?_
        exact law_c0 hLC hk (by omega) (by omega) hI hl kk
      by_cases w_1 : v = 1
      · subst w_1
        refine lv_tableIn (off := 83) (tgt := 123) hx hb dL_law_40 (by decide) (by decide) rfl (by decide) ?_
        exact law_c1 hLC hk (by omega) (by omega) hI hl kk
      by_cases w_2 : v = 2
      · subst w_2
        refine lv_tableIn (off := 144) (tgt := 184) hx hb dL_law_40 (by decide) (by decide) rfl (by decide) ?_
        exact law_c2 hLC hk (by omega) (by omega) hI hl kk
      by_cases w_3 : v = 3
      · subst w_3
        refine lv_tableIn (off := 237) (tgt := 277) hx hb dL_law_40 (by decide) (by decide) rfl (by decide) ?_
        exact law_c3 hLC hk (by omega) (by omega) hI hl kk
      by_cases w_4 : v = 4
      · subst w_4
        refine lv_tableIn (off := 298) (tgt := 338) hx hb dL_law_40 (by decide) (by decide) rfl (by decide) ?_
        exact law_c4 hLC hk (by omega) (by omega) hI hl kk
      by_cases w_5 : v = 5
      · subst w_5
        refine lv_tableIn (off := 335) (tgt := 375) hx hb dL_law_40 (by decide) (by decide) rfl (by decide) ?_
        exact law_c5 hLC hk (by omega) (by omega) hI hl kk
      by_cases w_6 : v = 6
      · subst w_6
        refine lv_tableIn (off := 348) (tgt := 388) hx hb dL_law_40 (by decide) (by decide) rfl (by decide) ?_
        exact law_c6 hLC hk (by omega) (by omega) hI hl kk
      by_cases w_7 : v = 7
      · subst w_7
        refine lv_tableIn (off := 416) (tgt := 456) hx hb dL_law_40 (by decide) (by decide) rfl (by decide) ?_
        exact law_c7 hLC hk (by omega) (by omega) hI hl kk
      by_cases w_8 : v = 8
      · subst w_8
        refine lv_tableIn (off := 441) (tgt := 481) hx hb dL_law_40 (by decide) (by decide) rfl (by decide) ?_
        exact law_c8 hLC hk (by omega) (by omega) hI hl kk
      by_cases w_9 : v = 9
      · subst w_9
        refine lv_tableIn (off := 497) (tgt := 537) hx hb dL_law_40 (by decide) (by decide) rfl (by decide) ?_
        exact law_c9 hLC hk (by omega) (by omega) hI hl kk
      by_cases w_10 : v = 10
      · subst w_10
        refine lv_tableIn (off := 572) (tgt := 612) hx hb dL_law_40 (by decide) (by decide) rfl (by decide) ?_
        exact law_c10 hLC hk (by omega) (by omega) hI hl kk
      by_cases w_11 : v = 11
      · subst w_11
        refine lv_tableIn (off := 628) (tgt := 668) hx hb dL_law_40 (by decide) (by decide) rfl (by decide) ?_
        exact law_c11 hLC hk (by omega) (by omega) hI hl kk
      by_cases w_12 : v = 12
      · subst w_12
        refine lv_tableIn (off := 696) (tgt := 736) hx hb dL_law_40 (by decide) (by decide) rfl (by decide) ?_
        exact law_c12 hLC hk (by omega) (by omega) hI hl kk
      by_cases w_13 : v = 13
      · subst w_13
        refine lv_tableIn (off := 734) (tgt := 774) hx hb dL_law_40 (by decide) (by decide) rfl (by decide) ?_
        exact law_c13 hLC hk (by omega) (by omega) hI hl kk
      have z_0 := lv_neT w_0 (show (0 : Int32).toInt = 0 by decide)
      have z_1 := lv_neT w_1 (show (1 : Int32).toInt = 1 by decide)
      have z_2 := lv_neT w_2 (show (2 : Int32).toInt = 2 by decide)
      have z_3 := lv_neT w_3 (show (3 : Int32).toInt = 3 by decide)
      have z_4 := lv_neT w_4 (show (4 : Int32).toInt = 4 by decide)
      have z_5 := lv_neT w_5 (show (5 : Int32).toInt = 5 by decide)
      have z_6 := lv_neT w_6 (show (6 : Int32).toInt = 6 by decide)
      have z_7 := lv_neT w_7 (show (7 : Int32).toInt = 7 by decide)
      have z_8 := lv_neT w_8 (show (8 : Int32).toInt = 8 by decide)
      have z_9 := lv_neT w_9 (show (9 : Int32).toInt = 9 by decide)
      have z_10 := lv_neT w_10 (show (10 : Int32).toInt = 10 by decide)
      have z_11 := lv_neT w_11 (show (11 : Int32).toInt = 11 by decide)
      have z_12 := lv_neT w_12 (show (12 : Int32).toInt = 12 by decide)
      have z_13 := lv_neT w_13 (show (13 : Int32).toInt = 13 by decide)
      refine lv_tableOut (tgt := 799) hx hb dL_law_40 (by omega) (by decide) ?_
      refine W.widen (k := 17 + 8 * j + 8) (n := 9246 + 72 * j + 72) (by omega) (by omega) ?_
      exact kk _ _ _ hI hl
