/-! the law's start -/
theorem nw_in : ∀ w ∈ nw_, w ∈ lw_tbl := by decide +kernel
theorem exw_in : ∀ w ∈ exw_, w ∈ lw_tbl := by decide +kernel
theorem exw_on : ∀ w ∈ exw_, w.onTables = true := by decide +kernel
section CALLI2
variable {p : Program} {l : Launch} {e : Env} {R : Room} {s : State} {m : MethodId} {args : Array Value} {below : List Frame} {meth : Method} {c : Code} {H : Heap} {locs : List Loc} {cells slots : Nat} {Q : State → Prop} {cc : ByteArray} {nL pc : Nat} {ls : Array Slot} {rest : List Value} {y : MethodName} {b9 : ByteArray} {n9 idx : Nat} {rm : Room} {Bh : State → Heap → Prop} {own : String} {o9 : Nat} {As : List Value}
theorem runI {Qc : Array Value → State → Outcome → State → Prop} {mc ms : Nat} {free : Addr → Prop} (S : CallFix p m c cc nL s args gw own) (hM : Met l y (gws y b9 n9 none) rm (va_Pc (.ref o9 :: As) (fun U => Bh U U.heap)) Qc mc ms free) (hT : GoodIn gw (gws y b9 n9 none)) (hini : Cond.initialized y.cls ∈ gw) (hlk : Cond.methodLink own idx y ∈ gw) (hin : Cond.instanceMethod y ∈ gw) (hnm : y.name = "<init>") (hrc : rm.cells = mc) (hrs : rm.slots = ms) (k9 : Nat) (hk9 : As.length = k9)
    (hd : y.cls ≠ "java/lang/invoke/MethodHandle" ∧ y.cls ≠ "java/lang/invoke/VarHandle" ∧ (parseMethodDescriptor y.desc).map (fun d => d.parameters.length) = some k9) (hR : rm.frames + 1 ≤ R.frames ∧ 8 + (n9 + 11) + rm.locals ≤ R.locals) (hf : cells + mc ≤ R.cells ∧ slots + ms ≤ R.slots)
    (hMv : Mv Bh) (hB : Bh s H) (hsize : ls.size = nL) (hW : (rest.map fun v => v.category).sum ≤ 8) (hdg : decode cc pc = .ok (.invokespecial idx, 3)) :
    va_Run p l e R s m args below meth c H locs cells slots mc ms (F0 m pc ls (As.reverse ++ .ref o9 :: rest)) rest (Qc (.ref o9 :: As).toArray) free :=
  va_runI (As := As) (rest := rest) S hM (cwI k9 S.2.2.2.2 hT rfl hrc hrs (S.2.2.2.2 _ hini) (S.2.2.2.2 _ hlk) (S.2.2.2.2 _ hin) hnm hd hR) ⟨hMv.blind, hMv.at hB _⟩ rfl hk9 hsize rfl (lv_room hW) hdg hf
end CALLI2
theorem ex_start {s : State} {b : Nat} (hts : ∀ w ∈ lw_tbl, w.before #[Value.ref b] s = true) (hgv : (Jvm.Cond.and given_1 narrow_1).before #[Value.ref b] s = true) : EX s.heap.size s s.heap := by
  have hs := flat_of_before _ hgv
  have hg : ∀ w ∈ gw, w.before #[Value.ref b] s = true := fun w h => hts w (gw_in w h)
  have st : ∀ (k : Nat) (tx : String), (Cond.stringRef RX2 k tx).before #[Value.ref b] s = true → (Cond.exactly (.string RX2 k) "java/lang/String").before #[Value.ref b] s = true → ∃ q, vk_R RX2 k tx q s := fun k tx h1 h2 => by
    obtain ⟨q, -, -, -, hq, -⟩ := Cond.exactly_spec h2
    exact ⟨q, vk_R.of h1 hq⟩
  refine ⟨rfl, vx_Zqof (hts _ (List.mem_append_right _ (List.mem_of_getElem? (i := 255) (by decide +kernel)))) (hg _ wk_6) (hs (.isRef (.static "java/lang/Throwable" "UNASSIGNED_STACK" "[Ljava/lang/StackTraceElement;")) (by decide +kernel)) (fun a h => Nat.not_le.mpr h), vx_Zqof (hts _ (List.mem_append_right _ (List.mem_of_getElem? (i := 257) (by decide +kernel)))) (hg _ wk_6) (hs (.isRef (.static "java/lang/Throwable" "SUPPRESSED_SENTINEL" "Ljava/util/List;")) (by decide +kernel)) (fun a h => Nat.not_le.mpr h), fun w hw => va_Nw.of (exw_on w hw) (hts w (exw_in w hw)), ?_⟩
  exact ⟨st 93 "no such place" (hts _ (List.mem_append_right _ (List.mem_of_getElem? (i := 268) (by decide +kernel)))) (hs (.exactly (.string "ListWeave" 93) "java/lang/String") (by decide +kernel)), st 110 "no such what" (hts _ (List.mem_append_right _ (List.mem_of_getElem? (i := 295) (by decide +kernel)))) (hs (.exactly (.string "ListWeave" 110) "java/lang/String") (by decide +kernel)), st 121 "no such element" (hts _ (List.mem_append_right _ (List.mem_of_getElem? (i := 313) (by decide +kernel)))) (hs (.exactly (.string "ListWeave" 121) "java/lang/String") (by decide +kernel)), st 124 "no such row" (hts _ (List.mem_append_right _ (List.mem_of_getElem? (i := 334) (by decide +kernel)))) (hs (.exactly (.string "ListWeave" 124) "java/lang/String") (by decide +kernel)), st 126 "not told for the beginning" (hts _ (List.mem_append_right _ (List.mem_of_getElem? (i := 342) (by decide +kernel)))) (hs (.exactly (.string "ListWeave" 126) "java/lang/String") (by decide +kernel))⟩
set_option maxHeartbeats 4000000 in
set_option maxRecDepth 100000 in
theorem whole_start {p : Program} {e : Env} {s : State} {m : MethodId} {below : List Frame} {meth : Method} {c : Code} (l : Launch) (hl9 : l.stackTraces = false) {b L : Nat} {xs : Nat → Int32} (hL : L ≤ 3072) (C0 : lw_At p s m meth c b L xs) : W p l e room_1 s m #[Value.ref b] below meth c s.heap [] 0 0 (lw_Z below #[Value.ref b] s) (entryFrame m ([Value.ref b] : List Value).toArray 7) := by
  obtain ⟨hx, hb, hr, hml, hown, hts, hX, hbl, hlocks, hgv⟩ := id C0
  have hg : ∀ w ∈ gw, w.before #[Value.ref b] s = true := fun w h => hts w (gw_in w h)
  have S : CallFix p m c code 7 s #[Value.ref b] gw RL := ⟨hx, hb, hml, hown, hg⟩
  have hLC : LC p l s m c b L xs := ⟨S, hX, hbl, hL, hl9, ex_start hts hgv⟩
  have hN : NW s := fun w hw => va_Nw.of (nw_on w hw) (hts w (nw_in w hw))
  have hO : va_AO RX0 s := va_AO.of (hts _ (List.mem_append_right _ (List.mem_of_getElem? (i := 77) (by decide +kernel))))
  have hA : ∀ q : Nat, s.heap.size ≤ q → (fun q : Nat => s.heap.size ≤ q) q := fun _ h => h
  obtain ⟨c0, iS0, hKn0⟩ := u_known (C := RX0) (T := TX0) (N := 9) (n := 9) hg inX0 (hg _ wk_35)
  obtain ⟨c1, iS1, hKn1⟩ := u_known (C := RX1) (T := TX1) (N := 2) (n := 2) hg inX1 (hg _ wk_21)
  obtain ⟨c2, iS2, hKn2⟩ := u_known (C := RX2) (T := TX2) (N := 5) (n := 5) hg inX2 (hg _ wk_13)
  obtain ⟨c3, iS3, hKn3⟩ := u_known (C := RX3) (T := TX3) (N := 13) (n := 13) hg inX3 (hg _ wk_344)
  obtain ⟨D, hKc⟩ : ∃ D : va_G, ∀ (k : Nat) (q : vw_C), cl_[k]? = some q → u_Kn s q.1 q.2.1 q.2.2 (D.1 k) (D.2 k) := by
    refine ⟨(fun k => match k with | 0 => c0 | 1 => c1 | 2 => c2 | _ => c3, fun k => match k with | 0 => iS0 | 1 => iS1 | 2 => iS2 | _ => iS3), ?_⟩
    intro k q hq
    match k, hq with
    | 0, hq => cases hq; exact hKn0
    | 1, hq => cases hq; exact hKn1
    | 2, hq => cases hq; exact hKn2
    | 3, hq => cases hq; exact hKn3
    | k + 4, hq => simp [cl_] at hq
  have hS : va_S (fun q : Nat => s.heap.size ≤ q) s.heap s.heap [] := va_S.rf
  have hK : va_K D cl_ [] s := ⟨hKc, fun k q h => by simp at h⟩
  have hP : va_P D cl_ [] s.heap := fun k q h => by simp at h
  have hD : va_D (fun q : Nat => s.heap.size ≤ q) [] := ⟨fun i j p q h => by simp at h, fun k q h => by simp at h⟩
  have hl := lv_entry ([.ref b]) (n := 7) (Nat.le_of_ble_eq_true rfl)
  rw [lg_entry_eq]
  generalize (lg_sl ([.ref b]) ++ List.replicate (7 - (lg_sl ([.ref b])).length) Slot.unset).toArray = ls at hl ⊢
  have hl : lv_has ls 7 [(0, .ref b)] := hl
  refine va_new (D := D) (ci := 2) (C := RX2) (T := TX2) (N := 5) (fs := [.null, .null, .null, .int 0, .int 0]) hx hb hg inX2 tyX2 tyX2_ok hown (hg _ wk_12) (hg _ wk_13) (hg _ wk_1) hK hP hD hS hA rfl (by decide) (by decide) (by decide) dL_law_0 (fun x H hP hD hS => ?_)
  have hG : GM D [(x, .inr (2, [.null, .null, .null, .int 0, .int 0]))] [] (fun q : Nat => s.heap.size ≤ q) s.heap s H [] := ⟨hP, hD, hK, hS, hA⟩
  clear hP hD hS
  refine W.widen (k := 1) (n := 5) (by omega) (by omega) ?_
  refine lv_dup hx hb dL_law_3 rfl ?_
  refine va_callv (runI (As := []) (rest := [.ref x]) (Bh := fun U H9 => GPre D [(x, .inr (2, [.null, .null, .null, .int 0, .int 0]))] [] H.size U H9 ∧ (fun U => NW U ∧ va_AO RX0 U) U) S (c_X2_init l) (gw_self wk_16) wk_1 wk_14 wk_15 rfl rfl rfl 0 rfl (by decide +kernel) (by decide) (by decide) (fun _ _ _ h q => ⟨q.1.mv h, NW.warm h q.2.1, va_AO.moved h.alike q.2.2⟩) ⟨hG.pre, hN, hO⟩ hl.1 (Nat.le_of_ble_eq_true rfl) dL_law_4) hG.S (fun q _ h => hG.free q h) hG.free (fun z8 t8 H1 locs1 ht8 hvm8 hp hB8 hz8 hk8 hS8 => ?_)
  obtain ⟨u, i, g, w, cI, cW⟩ := z8
  obtain ⟨⟨hF, _⟩, hB9⟩ := hB8
  dsimp only at hF
  have hG : GM D (wC x u i g w cI cW [g] (fun _ => ini 0 0 0) (fun _ => none) 0 0 0 (fun _ => 0)) (tC cI cW) (fun q : Nat => s.heap.size ≤ q) s.heap s H1 locs1 := hG.back ht8 hB9 hS8 (va_K.moved hvm8.symm hB9.2.1)
  clear hB9 hz8 hk8 hS8 ht8 hvm8
  generalize H1 = H at hG ⊢
  generalize locs1 = locs at hG ⊢
  refine W.widen (k := 5) (n := 2064) (by omega) (by omega) ?_
  refine lv_astore_n (lv' := [(1, .ref x), (0, .ref b)]) hx hb dL_law_7 rfl hl (by decide) rfl (fun ls hl => ?_)
  obtain ⟨hP, hD, hK, hS, -⟩ := hG
  have hP : va_P D cl_ [(x, .inr (2, [.ref u, .ref g, .ref w, .int (nI 0), .int (nI 0)])), (u, .inr (1, [.ref i, .int (nI 0)])), (i, .inl (cI, 1536, .inl (fun _ => 0))), (w, .inl (cW, 512, .inr (.inr (.inr (.inr (fun _ => none)))))), (g, .inr (0, eF (ini 0 0 0)))] H := hP
  have hD : va_D (fun q : Nat => s.heap.size ≤ q) [(x, .inr (2, [.ref u, .ref g, .ref w, .int (nI 0), .int (nI 0)])), (u, .inr (1, [.ref i, .int (nI 0)])), (i, .inl (cI, 1536, .inl (fun _ => 0))), (w, .inl (cW, 512, .inr (.inr (.inr (.inr (fun _ => none)))))), (g, .inr (0, eF (ini 0 0 0)))] := hD
  refine va_new (D := D) (ci := 3) (C := RX3) (T := TX3) (N := 13) (fs := [.int 0, .int 0, .null, .null, .null, .null, .int 0, .null, .null, .null, .null, .null, .null]) hx hb hg inX3 tyX3 tyX3_ok hown (hg _ wk_343) (hg _ wk_344) (hg _ wk_4) hK hP hD hS hA rfl (by decide) (by decide) (by decide) dL_law_8 (fun y H hP hD hS => ?_)
  have hP : va_P D cl_ [(x, .inr (2, [.ref u, .ref g, .ref w, .int (nI 0), .int (nI 0)])), (u, .inr (1, [.ref i, .int (nI 0)])), (i, .inl (cI, 1536, .inl (fun _ => 0))), (w, .inl (cW, 512, .inr (.inr (.inr (.inr (fun _ => none)))))), (g, .inr (0, eF (ini 0 0 0))), (y, .inr (3, [.int 0, .int 0, .null, .null, .null, .null, .int 0, .null, .null, .null, .null, .null, .null]))] H := hP
  have hD : va_D (fun q : Nat => s.heap.size ≤ q) [(x, .inr (2, [.ref u, .ref g, .ref w, .int (nI 0), .int (nI 0)])), (u, .inr (1, [.ref i, .int (nI 0)])), (i, .inl (cI, 1536, .inl (fun _ => 0))), (w, .inl (cW, 512, .inr (.inr (.inr (.inr (fun _ => none)))))), (g, .inr (0, eF (ini 0 0 0))), (y, .inr (3, [.int 0, .int 0, .null, .null, .null, .null, .int 0, .null, .null, .null, .null, .null, .null]))] := hD
  refine W.widen (k := 6) (n := 2077) (by omega) (by omega) ?_
  refine lv_dup hx hb dL_law_11 rfl ?_
  have hG : GM D [(y, .inr (3, [.int 0, .int 0, .null, .null, .null, .null, .int 0, .null, .null, .null, .null, .null, .null]))] [] (fun q : Nat => s.heap.size ≤ q) s.heap s H locs := ⟨hP.sub [5] rfl, hD.sub [5] (by decide) rfl, hK.nil, hS, hA⟩
  refine va_callv (runI (As := []) (rest := [.ref y]) (Bh := fun U H9 => GPre D [(y, .inr (3, [.int 0, .int 0, .null, .null, .null, .null, .int 0, .null, .null, .null, .null, .null, .null]))] [] H.size U H9 ∧ (fun _ => True) U) S (c_X3_init l) (gw_self wk_347) wk_4 wk_345 wk_346 rfl rfl rfl 0 rfl (by decide +kernel) (by decide) (by decide) (fun _ _ _ h q => ⟨q.1.mv h, trivial⟩) ⟨hG.pre, trivial⟩ hl.1 (Nat.le_of_ble_eq_true rfl) dL_law_12) hG.S (fun q _ h => hG.free q h) hG.free (fun z8 t8 H1 locs1 ht8 hvm8 hp hB8 hz8 hk8 hS8 => ?_)
  obtain ⟨a, cM⟩ := z8
  obtain ⟨b1, b2, b3, b4⟩ := hB8
  dsimp only at b1 b2 b3
  have j9 := va_join (wc := [(y, .inr (3, [.int 0, .int 0, .null, .null, .null, .null, .int 0, .null, .null, .null, .null, .null, .null]))]) (wr := [(x, .inr (2, [.ref u, .ref g, .ref w, .int (nI 0), .int (nI 0)])), (u, .inr (1, [.ref i, .int (nI 0)])), (i, .inl (cI, 1536, .inl (fun _ => 0))), (w, .inl (cW, 512, .inr (.inr (.inr (.inr (fun _ => none)))))), (g, .inr (0, eF (ini 0 0 0)))]) (w1 := wM y a cM 0 0 0 (fun _ _ => 0)) hP hD [5] [0, 1, 2, 3, 4] rfl rfl (by decide) (by decide) hk8 hG.free (by rw [← ht8]; exact b1) b3
  have hK : va_K D cl_ (tC cI cW ++ [(cM, .int)]) s := hK.app (va_K.moved hvm8.symm b2)
  clear hG b1 b2 b3 b4 hz8 hk8 ht8 hvm8 hP hD hS
  obtain ⟨hP, hD⟩ := j9
  have hS := hS8
  clear hS8
  generalize H1 = H at hP hS ⊢
  generalize locs1 = locs at hS ⊢
  refine W.widen (k := 16) (n := 9245) (by omega) (by omega) ?_
  refine lv_astore_n (lv' := [(2, .ref y), (1, .ref x), (0, .ref b)]) hx hb dL_law_15 rfl hl (by decide) rfl (fun ls hl => ?_)
  refine lv_iconst (v := 1) hx hb dL_law_16 (by decide) ?_
  refine va_newa (atype := .long) (ty := .long) (N' := 1) (a0 := (1, .inr (.inl (fun _ => 0)))) hx hb (hg _ wk_531) rfl hK hP hD hS hA (fun _ => rfl) (by decide) (by decide +kernel) (by decide) (by decide) (by decide) dL_law_17 (fun o cO H hK hP hD hS => ?_)
  refine W.widen (k := 17 + 8 * 0) (n := 9246 + 72 * 0) (by omega) (by omega) ?_
  refine lv_astore_n (lv' := [(3, .ref o), (2, .ref y), (1, .ref x), (0, .ref b)]) hx hb dL_law_19 rfl hl (by decide) rfl (fun ls hl => ?_)
  refine lv_iconst (v := nI (6 * 0)) hx hb dL_law_20 (by decide) ?_
  refine lv_istore (lv' := [(4, .int (nI (6 * 0))), (3, .ref o), (2, .ref y), (1, .ref x), (0, .ref b)]) hx hb dL_law_21 hl (by decide) rfl (fun ls hl => ?_)
  have hLI : LI D y a cM o cO x u i g w cI cW s H locs := ⟨(0, 0, 0, fun _ _ => 0), fun _ => 0, ([g], (fun _ => ini 0 0 0), (fun _ => none), 0, 0, 0, (fun _ => 0)), ⟨hF, hN, ⟨Nat.zero_le _, Nat.zero_le _⟩, hP.sub [5, 6, 7, 8, 9, 10, 11, 12, 13, 14, 15, 16, 0, 1, 2, 3, 4] rfl, hD.sub [5, 6, 7, 8, 9, 10, 11, 12, 13, 14, 15, 16, 0, 1, 2, 3, 4] (by decide) rfl, hK.sub [2, 3, 0, 1] rfl, hS, hA⟩, TA.nil ⟨rfl, rfl, rfl, rfl⟩, rfl, rfl⟩
  exact law_loop hLC hr hlocks (L + 1) 0 H locs ls (by omega) (by omega) hLI (lv_sub hl [0, 4, 3, 2, 1] rfl)
