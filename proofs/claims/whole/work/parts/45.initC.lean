def BU1 (D : va_G) (ws : va_W) (tys : List (ClassId × FieldType)) (k u : Nat) (AA : Nat → Prop) (z : Nat × ClassId) (t : State) : Prop := GB D (tys ++ [(z.2, .int)]) AA (ws.set k (u, .inr (1, [.ref z.1, .int (nI 0)])) ++ [(z.1, .inl (z.2, 1536, .inl (fun _ => 0)))]) t
theorem w_eqI {p : Program} {l : Launch} {e : Env} {R : Room} {s : State} {m : MethodId} {args : Array Value} {below : List Frame} {meth : Method} {c : Code} {H : Heap} {locs : List Loc} {cells slots cells2 slots2 : Nat} {Q : State → Prop} {g : JFrame} (h1 : cells = cells2) (h2 : slots = slots2) (k : W p l e R s m args below meth c H locs cells2 slots2 Q g) : W p l e R s m args below meth c H locs cells slots Q g := h1 ▸ h2 ▸ k
set_option maxHeartbeats 4000000 in
set_option maxRecDepth 100000 in
theorem c_X1_init (l : Launch) {D : va_G} {ws : va_W} {tys : List (ClassId × FieldType)} {sz k u : Nat} {x0 x1 : Value} (hk : ws[k]? = some (u, .inr (1, [x0, x1]))) : Met l yX1_init (gws yX1_init cX1_init 1 none) { frames := 1, cells := 1, slots := 1536, locals := 20 } (va_Pc [.ref u] (fun U => GPre D ws tys sz U U.heap ∧ (fun _ => True) U)) (va_Qv (fun _ : Nat × ClassId => True) (BU1 D ws tys k u (va_A ws sz)) (va_A ws sz)) 1 1536 (va_A ws sz) := by
  refine met_gm (QQ := fun AA => va_Qv (fun _ : Nat × ClassId => True) (BU1 D ws tys k u AA) AA) (X := fun _ => True) (by decide) (Nat.le_of_ble_eq_true rfl) ?_
  intro p e s m below meth c ls AA S hr hlocks hnm hX hG hl
  obtain ⟨hx, hb, hml, hown, hg⟩ := id S
  have hl : lv_has ls 1 [(0, .ref u)] := hl
  obtain ⟨hP, hD, hK, hS, hA⟩ := hG
  have hlt : k < ws.length := (List.getElem?_eq_some_iff.mp hk).1
  refine lv_aload_n hx hb dX1_init_0 rfl (lv_at hl 0 rfl) ?_
  refine W.objInit hx hb hown (hg _ wk_25) (hg _ wk_18) (hg _ wk_19) rfl (by rw [hml]; exact hl.1) rfl dX1_init_1 (Nat.le_of_ble_eq_true rfl) (Nat.le_of_ble_eq_true rfl) ?_
  refine W.eq (g2 := F0 m 4 ls []) rfl ?_
  refine lv_aload_n hx hb dX1_init_4 rfl (lv_at hl 0 rfl) ?_
  refine lv_sipush (v := 1536) hx hb dX1_init_5 (by decide) ?_
  refine va_newa (atype := .int) (ty := .int) (N' := 1536) (a0 := (1536, .inl (fun _ => 0))) hx hb (hg _ wk_33) rfl hK hP hD hS hA (fun _ => rfl) (by decide) (by decide +kernel) (Nat.le_of_ble_eq_true rfl) (Nat.le_of_ble_eq_true rfl) (Nat.le_of_ble_eq_true rfl) dX1_init_8 (fun q cA H hK hP hD hS => ?_)
  have hk1 : (ws ++ [(q, .inl (cA, 1536, .inl (fun _ => 0)))] : va_W)[k]? = some (u, .inr (1, [x0, x1])) := by rw [List.getElem?_append_left hlt]; exact hk
  refine va_putF (D := D) (ci := 1) (v := .ref q) (ty := .array .int) (C := RX1) (T := TX1) (N := 2) hx hb hg inX1 tyX1 tyX1_ok nmX1 hown hK hP hD hS k hk1 rfl 0 (by decide) (hg _ wk_26) (fun _ h9 => h9) rfl hnm rfl (by decide +kernel) rfl rfl (Nat.le_of_ble_eq_true rfl) dX1_init_10 (fun H locs hP hD hS => ?_)
  refine lv_aload_n hx hb dX1_init_13 rfl (lv_at hl 0 rfl) ?_
  refine lv_iconst (v := nI 0) hx hb dX1_init_14 (by decide) ?_
  refine va_put (D := D) (ci := 1) (v := .int (nI 0)) (ty := .int) (C := RX1) (T := TX1) (N := 2) hx hb hg inX1 tyX1 tyX1_ok nmX1 hown hK hP hD hS k (List.getElem?_set_self (by rw [List.length_append]; omega)) rfl 1 (by decide) (hg _ wk_27) (fun _ h9 => h9) rfl (by decide +kernel) rfl rfl (Nat.le_of_ble_eq_true rfl) dX1_init_15 (fun H locs hP hD hS => ?_)
  rw [List.set_set, List.set_append_left _ _ hlt] at hP hD
  exact W.vret hx hb hr (fun t9 ht9 hW9 => ⟨⟨(q, cA), rfl, trivial, by rw [ht9]; exact hP, va_K.moved hW9.alike hK, hD⟩, hS.F ht9⟩) hS.2.2 dX1_init_18
set_option maxHeartbeats 4000000 in
set_option maxRecDepth 100000 in
theorem c_X2_init (l : Launch) {D : va_G} {sz x : Nat} : Met l yX2_init (gws yX2_init cX2_init 1 none) { frames := 2, cells := 4, slots := 2059, locals := 50 } (va_Pc [.ref x] (fun U => GPre D [(x, .inr (2, [.null, .null, .null, .int 0, .int 0]))] [] sz U U.heap ∧ (fun U => NW U ∧ va_AO RX0 U) U)) (va_Qv (fun _ : Nat × Nat × Nat × Nat × ClassId × ClassId => True) (fun z => CB D x z.1 z.2.1 z.2.2.1 z.2.2.2.1 z.2.2.2.2.1 z.2.2.2.2.2 (va_A [(x, .inr (2, [.null, .null, .null, .int 0, .int 0]))] sz) ([z.2.2.1], (fun _ => ini 0 0 0), (fun _ => none), 0, 0, 0, (fun _ => 0))) (va_A [(x, .inr (2, [.null, .null, .null, .int 0, .int 0]))] sz)) 4 2059 (va_A [(x, .inr (2, [.null, .null, .null, .int 0, .int 0]))] sz) := by
  refine met_gm (QQ := fun AA => va_Qv (fun _ : Nat × Nat × Nat × Nat × ClassId × ClassId => True) (fun z => CB D x z.1 z.2.1 z.2.2.1 z.2.2.2.1 z.2.2.2.2.1 z.2.2.2.2.2 AA ([z.2.2.1], (fun _ => ini 0 0 0), (fun _ => none), 0, 0, 0, (fun _ => 0))) AA) (X := fun U => NW U ∧ va_AO RX0 U) (by decide) (Nat.le_of_ble_eq_true rfl) ?_
  intro p e s m below meth c ls AA S hr hlocks hnm hX hG hl
  obtain ⟨hx, hb, hml, hown, hg⟩ := id S
  have hl : lv_has ls 1 [(0, .ref x)] := hl
  obtain ⟨hP, hD, hK, hS, hA⟩ := hG
  obtain ⟨hN, hO⟩ := hX
  refine lv_aload_n hx hb dX2_init_0 rfl (lv_at hl 0 rfl) ?_
  refine W.objInit hx hb hown (hg _ wk_17) (hg _ wk_18) (hg _ wk_19) rfl (by rw [hml]; exact hl.1) rfl dX2_init_1 (Nat.le_of_ble_eq_true rfl) (Nat.le_of_ble_eq_true rfl) ?_
  refine W.eq (g2 := F0 m 4 ls []) rfl ?_
  refine lv_aload_n hx hb dX2_init_4 rfl (lv_at hl 0 rfl) ?_
  refine va_new (D := D) (ci := 1) (C := RX1) (T := TX1) (N := 2) (fs := [.null, .int 0]) hx hb hg inX1 tyX1 tyX1_ok hown (hg _ wk_20) (hg _ wk_21) (hg _ wk_2) hK hP hD hS hA rfl (by decide) (Nat.le_of_ble_eq_true rfl) (Nat.le_of_ble_eq_true rfl) dX2_init_5 (fun u H hP hD hS => ?_)
  refine lv_dup hx hb dX2_init_8 rfl ?_
  have hG : GM D [(x, .inr (2, [.null, .null, .null, .int 0, .int 0])), (u, .inr (1, [.null, .int 0]))] [] AA s.heap s H _ := ⟨hP, hD, hK, hS, hA⟩
  refine va_callv (runIN (As := []) (rest := [.ref u, .ref x]) (Bh := fun U H9 => GPre D [(x, .inr (2, [.null, .null, .null, .int 0, .int 0])), (u, .inr (1, [.null, .int 0]))] [] H.size U H9 ∧ (fun _ => True) U) S (c_X1_init l (k := 1) rfl) (gw_self wk_24) (nk_22 hN) wk_2 wk_23 rfl rfl rfl 0 rfl (by decide +kernel) (by decide) ⟨Nat.le_of_ble_eq_true rfl, Nat.le_of_ble_eq_true rfl⟩ (fun _ _ _ h q => ⟨q.1.mv h, trivial⟩) ⟨hG.pre, trivial⟩ hl.1 (Nat.le_of_ble_eq_true rfl) dX2_init_9) hG.S (fun q _ h => hG.free q h) hG.free (fun u8 t8 H1 locs1 ht8 hvm8 hp hB8 hz8 hk8 hS8 => ?_)
  obtain ⟨i, cI⟩ := u8
  have hK1 : va_K D cl_ [(cI, .int)] s := va_K.moved hvm8.symm hB8.2.1
  have hG := hG.back ht8 hB8 hS8 hK1
  clear hB8 hz8 hk8 hS8 ht8 hvm8 hP hD hS hK
  obtain ⟨hP, hD, hK, hS, -⟩ := hG
  refine va_putF (D := D) (ci := 2) (v := .ref u) (ty := .object RX1) (C := RX2) (T := TX2) (N := 5) hx hb hg inX2 tyX2 tyX2_ok nmX2 hown hK hP hD hS 0 rfl rfl 0 (by decide) (hg _ wk_78) (fun _ h9 => h9) rfl hnm rfl (by decide +kernel) rfl rfl (Nat.le_of_ble_eq_true rfl) dX2_init_12 (fun H locs hP hD hS => ?_)
  refine lv_aload_n hx hb dX2_init_15 rfl (lv_at hl 0 rfl) ?_
  refine va_new (D := D) (ci := 0) (C := RX0) (T := TX0) (N := 9) (fs := eF (fun _ => 0)) hx hb hg inX0 tyX0 tyX0_ok hown (hg _ wk_34) (hg _ wk_35) (hg _ wk_3) hK hP hD hS hA rfl (by decide) (Nat.le_of_ble_eq_true rfl) (Nat.le_of_ble_eq_true rfl) dX2_init_16 (fun g H hP hD hS => ?_)
  refine lv_dup hx hb dX2_init_19 rfl ?_
  refine lv_iconst (v := 0) hx hb dX2_init_20 (by decide) ?_
  refine lv_iconst (v := 0) hx hb dX2_init_21 (by decide) ?_
  refine lv_iconst (v := 0) hx hb dX2_init_22 (by decide) ?_
  have hG : GM D [(x, .inr (2, [.ref u, .null, .null, .int 0, .int 0])), (u, .inr (1, [.ref i, .int (nI 0)])), (i, .inl (cI, 1536, .inl (fun _ => 0))), (g, .inr (0, eF (fun _ => 0)))] [(cI, .int)] AA s.heap s H _ := ⟨hP, hD, hK, hS, hA⟩
  refine va_callv (runIN (As := [.int 0, .int 0, .int 0]) (rest := [.ref g, .ref x]) (Bh := fun U H9 => GPre D [(x, .inr (2, [.ref u, .null, .null, .int 0, .int 0])), (u, .inr (1, [.ref i, .int (nI 0)])), (i, .inl (cI, 1536, .inl (fun _ => 0))), (g, .inr (0, eF (fun _ => 0)))] [(cI, .int)] H.size U H9 ∧ (fun _ => True) U) S (c_X0_init l (k := 3) (fv := fun _ => 0) 0 0 0 rfl) (gw_self wk_38) (nk_36 hN) wk_3 wk_37 rfl rfl rfl 3 rfl (by decide +kernel) (by decide) ⟨Nat.le_of_ble_eq_true rfl, Nat.le_of_ble_eq_true rfl⟩ (fun _ _ _ h q => ⟨q.1.mv h, trivial⟩) ⟨hG.pre, trivial⟩ hl.1 (Nat.le_of_ble_eq_true rfl) dX2_init_23) hG.S (fun q _ h => hG.free q h) hG.free (fun u8 t8 H1 locs1 ht8 hvm8 hp hB8 hz8 hk8 hS8 => ?_)
  subst hp
  have hG := hG.back ht8 hB8 hS8 hK
  clear hB8 hz8 hk8 hS8 ht8 hvm8 hP hD hS hK
  obtain ⟨hP, hD, hK, hS, -⟩ := hG
  refine va_putF (D := D) (ci := 2) (v := .ref g) (ty := .object RX0) (C := RX2) (T := TX2) (N := 5) hx hb hg inX2 tyX2 tyX2_ok nmX2 hown hK hP hD hS 0 rfl rfl 1 (by decide) (hg _ wk_79) (fun _ h9 => h9) rfl hnm rfl (by decide +kernel) rfl rfl (Nat.le_of_ble_eq_true rfl) dX2_init_26 (fun H locs hP hD hS => ?_)
  refine lv_aload_n hx hb dX2_init_29 rfl (lv_at hl 0 rfl) ?_
  refine lv_sipush (v := 512) hx hb dX2_init_30 (by decide) ?_
  refine va_newq (N' := 512) hx hb hown (hg _ wk_34) hO hK hP hD hS hA (by decide) (by decide +kernel) (Nat.le_of_ble_eq_true rfl) (Nat.le_of_ble_eq_true rfl) (Nat.le_of_ble_eq_true rfl) dX2_init_33 (fun w cW H hK hP hD hS => ?_)
  refine va_putF (D := D) (ci := 2) (v := .ref w) (ty := .array (.object RX0)) (C := RX2) (T := TX2) (N := 5) hx hb hg inX2 tyX2 tyX2_ok nmX2 hown hK hP hD hS 0 rfl rfl 2 (by decide) (hg _ wk_80) (fun _ h9 => h9) rfl hnm rfl (by decide +kernel) rfl rfl (Nat.le_of_ble_eq_true rfl) dX2_init_36 (fun H locs hP hD hS => ?_)
  refine lv_aload_n hx hb dX2_init_39 rfl (lv_at hl 0 rfl) ?_
  refine lv_iconst (v := nI 0) hx hb dX2_init_40 (by decide) ?_
  refine va_put (D := D) (ci := 2) (v := .int (nI 0)) (ty := .int) (C := RX2) (T := TX2) (N := 5) hx hb hg inX2 tyX2 tyX2_ok nmX2 hown hK hP hD hS 0 rfl rfl 3 (by decide) (hg _ wk_81) (fun _ h9 => h9) rfl (by decide +kernel) rfl rfl (Nat.le_of_ble_eq_true rfl) dX2_init_41 (fun H locs hP hD hS => ?_)
  refine lv_aload_n hx hb dX2_init_44 rfl (lv_at hl 0 rfl) ?_
  refine lv_iconst (v := nI 0) hx hb dX2_init_45 (by decide) ?_
  refine va_put (D := D) (ci := 2) (v := .int (nI 0)) (ty := .int) (C := RX2) (T := TX2) (N := 5) hx hb hg inX2 tyX2 tyX2_ok nmX2 hown hK hP hD hS 0 rfl rfl 4 (by decide) (hg _ wk_82) (fun _ h9 => h9) rfl (by decide +kernel) rfl rfl (Nat.le_of_ble_eq_true rfl) dX2_init_46 (fun H locs hP hD hS => ?_)
  have hP9 : va_P D cl_ (wC x u i g w cI cW [g] (fun _ => ini 0 0 0) (fun _ => none) 0 0 0 (fun _ => 0)) H := hP.sub [0, 1, 2, 4, 3] rfl
  have hD9 : va_D AA (wC x u i g w cI cW [g] (fun _ => ini 0 0 0) (fun _ => none) 0 0 0 (fun _ => 0)) := hD.sub [0, 1, 2, 4, 3] (by decide) rfl
  have hK9 : va_K D cl_ (tC cI cW) s := hK
  exact W.vret hx hb hr (fun t9 ht9 hW9 => ⟨⟨(u, i, g, w, cI, cW), rfl, trivial, ⟨⟨List.mem_singleton.mpr rfl, fun k h => absurd h (Nat.not_lt_zero _), Nat.zero_le _, Nat.zero_le _, Nat.zero_le _⟩, NW.warm hW9 hN⟩, by rw [ht9]; exact hP9, va_K.moved hW9.alike hK9, hD9⟩, hS.F ht9⟩) hS.2.2 dX2_init_49
set_option maxHeartbeats 4000000 in
set_option maxRecDepth 100000 in
theorem c_X3_init (l : Launch) {D : va_G} {sz y : Nat} : Met l yX3_init (gws yX3_init cX3_init 1 none) { frames := 1, cells := 10, slots := 7168, locals := 20 } (va_Pc [.ref y] (fun U => GPre D [(y, .inr (3, [.int 0, .int 0, .null, .null, .null, .null, .int 0, .null, .null, .null, .null, .null, .null]))] [] sz U U.heap ∧ (fun _ => True) U)) (va_Qv (fun _ : (Nat → Nat) × ClassId => True) (fun z => MB D y z.1 z.2 (va_A [(y, .inr (3, [.int 0, .int 0, .null, .null, .null, .null, .int 0, .null, .null, .null, .null, .null, .null]))] sz) (0, 0, 0, fun _ _ => 0)) (va_A [(y, .inr (3, [.int 0, .int 0, .null, .null, .null, .null, .int 0, .null, .null, .null, .null, .null, .null]))] sz)) 10 7168 (va_A [(y, .inr (3, [.int 0, .int 0, .null, .null, .null, .null, .int 0, .null, .null, .null, .null, .null, .null]))] sz) := by
  refine met_gm (QQ := fun AA => va_Qv (fun _ : (Nat → Nat) × ClassId => True) (fun z => MB D y z.1 z.2 AA (0, 0, 0, fun _ _ => 0)) AA) (X := fun _ => True) (by decide) (Nat.le_of_ble_eq_true rfl) ?_
  intro p e s m below meth c ls AA S hr hlocks hnm hX hG hl
  obtain ⟨hx, hb, hml, hown, hg⟩ := id S
  have hl : lv_has ls 1 [(0, .ref y)] := hl
  obtain ⟨hP, hD, hK, hS, hA⟩ := hG
  refine lv_aload_n hx hb dX3_init_0 rfl (lv_at hl 0 rfl) ?_
  refine W.objInit hx hb hown (hg _ wk_348) (hg _ wk_18) (hg _ wk_19) rfl (by rw [hml]; exact hl.1) rfl dX3_init_1 (Nat.le_of_ble_eq_true rfl) (Nat.le_of_ble_eq_true rfl) ?_
  refine W.eq (g2 := F0 m 4 ls []) rfl ?_
  refine lv_aload_n hx hb dX3_init_4 rfl (lv_at hl 0 rfl) ?_
  refine lv_sipush (v := 512) hx hb dX3_init_5 (by decide) ?_
  refine va_newa (atype := .int) (ty := .int) (N' := 512) (a0 := (512, .inl (fun _ => 0))) hx hb (hg _ wk_33) rfl hK hP hD hS hA (fun _ => rfl) (by decide) (by decide +kernel) (Nat.le_of_ble_eq_true rfl) (Nat.le_of_ble_eq_true rfl) (Nat.le_of_ble_eq_true rfl) dX3_init_8 (fun a0 cI H hK hP hD hS => ?_)
  refine W.widen (k := 1) (n := 512) (by omega) (by omega) ?_
  refine va_putF (D := D) (ci := 3) (v := .ref a0) (ty := .array .int) (C := RX3) (T := TX3) (N := 13) hx hb hg inX3 tyX3 tyX3_ok nmX3 hown hK hP hD hS 0 rfl rfl 2 (by decide) (hg _ wk_351) (fun _ h9 => h9) rfl hnm rfl (by decide +kernel) rfl rfl (Nat.le_of_ble_eq_true rfl) dX3_init_10 (fun H locs hP hD hS => ?_)
  have hP : va_P D cl_ [(y, .inr (3, [.int 0, .int 0, .ref a0, .null, .null, .null, .int 0, .null, .null, .null, .null, .null, .null])), (a0, .inl (cI, 512, .inl (fun _ => 0)))] H := hP
  have hD : va_D AA [(y, .inr (3, [.int 0, .int 0, .ref a0, .null, .null, .null, .int 0, .null, .null, .null, .null, .null, .null])), (a0, .inl (cI, 512, .inl (fun _ => 0)))] := hD
  refine lv_aload_n hx hb dX3_init_13 rfl (lv_at hl 0 rfl) ?_
  refine lv_sipush (v := 512) hx hb dX3_init_14 (by decide) ?_
  refine va_newa (atype := .int) (ty := .int) (N' := 512) (a0 := (512, .inl (fun _ => 0))) hx hb (hg _ wk_33) rfl hK hP hD hS hA (fun _ => rfl) (by decide) (by decide +kernel) (Nat.le_of_ble_eq_true rfl) (Nat.le_of_ble_eq_true rfl) (Nat.le_of_ble_eq_true rfl) dX3_init_17 (fun a1 c9 H hK hP hD hS => ?_)
  refine W.widen (k := 2) (n := 1024) (by omega) (by omega) ?_
  obtain rfl : cI = c9 := Option.some.inj ((hK.2 0 _ rfl).2.symm.trans (hK.2 1 _ rfl).2)
  have hK : va_K D cl_ [(cI, .int)] s := hK.sub [0] rfl
  refine va_putF (D := D) (ci := 3) (v := .ref a1) (ty := .array .int) (C := RX3) (T := TX3) (N := 13) hx hb hg inX3 tyX3 tyX3_ok nmX3 hown hK hP hD hS 0 rfl rfl 3 (by decide) (hg _ wk_352) (fun _ h9 => h9) rfl hnm rfl (by decide +kernel) rfl rfl (Nat.le_of_ble_eq_true rfl) dX3_init_19 (fun H locs hP hD hS => ?_)
  have hP : va_P D cl_ [(y, .inr (3, [.int 0, .int 0, .ref a0, .ref a1, .null, .null, .int 0, .null, .null, .null, .null, .null, .null])), (a0, .inl (cI, 512, .inl (fun _ => 0))), (a1, .inl (cI, 512, .inl (fun _ => 0)))] H := hP
  have hD : va_D AA [(y, .inr (3, [.int 0, .int 0, .ref a0, .ref a1, .null, .null, .int 0, .null, .null, .null, .null, .null, .null])), (a0, .inl (cI, 512, .inl (fun _ => 0))), (a1, .inl (cI, 512, .inl (fun _ => 0)))] := hD
  refine lv_aload_n hx hb dX3_init_22 rfl (lv_at hl 0 rfl) ?_
  refine lv_sipush (v := 512) hx hb dX3_init_23 (by decide) ?_
  refine va_newa (atype := .int) (ty := .int) (N' := 512) (a0 := (512, .inl (fun _ => 0))) hx hb (hg _ wk_33) rfl hK hP hD hS hA (fun _ => rfl) (by decide) (by decide +kernel) (Nat.le_of_ble_eq_true rfl) (Nat.le_of_ble_eq_true rfl) (Nat.le_of_ble_eq_true rfl) dX3_init_26 (fun a2 c9 H hK hP hD hS => ?_)
  refine W.widen (k := 3) (n := 1536) (by omega) (by omega) ?_
  obtain rfl : cI = c9 := Option.some.inj ((hK.2 0 _ rfl).2.symm.trans (hK.2 1 _ rfl).2)
  have hK : va_K D cl_ [(cI, .int)] s := hK.sub [0] rfl
  refine va_putF (D := D) (ci := 3) (v := .ref a2) (ty := .array .int) (C := RX3) (T := TX3) (N := 13) hx hb hg inX3 tyX3 tyX3_ok nmX3 hown hK hP hD hS 0 rfl rfl 4 (by decide) (hg _ wk_353) (fun _ h9 => h9) rfl hnm rfl (by decide +kernel) rfl rfl (Nat.le_of_ble_eq_true rfl) dX3_init_28 (fun H locs hP hD hS => ?_)
  have hP : va_P D cl_ [(y, .inr (3, [.int 0, .int 0, .ref a0, .ref a1, .ref a2, .null, .int 0, .null, .null, .null, .null, .null, .null])), (a0, .inl (cI, 512, .inl (fun _ => 0))), (a1, .inl (cI, 512, .inl (fun _ => 0))), (a2, .inl (cI, 512, .inl (fun _ => 0)))] H := hP
  have hD : va_D AA [(y, .inr (3, [.int 0, .int 0, .ref a0, .ref a1, .ref a2, .null, .int 0, .null, .null, .null, .null, .null, .null])), (a0, .inl (cI, 512, .inl (fun _ => 0))), (a1, .inl (cI, 512, .inl (fun _ => 0))), (a2, .inl (cI, 512, .inl (fun _ => 0)))] := hD
  refine lv_aload_n hx hb dX3_init_31 rfl (lv_at hl 0 rfl) ?_
  refine lv_sipush (v := 512) hx hb dX3_init_32 (by decide) ?_
  refine va_newa (atype := .int) (ty := .int) (N' := 512) (a0 := (512, .inl (fun _ => 0))) hx hb (hg _ wk_33) rfl hK hP hD hS hA (fun _ => rfl) (by decide) (by decide +kernel) (Nat.le_of_ble_eq_true rfl) (Nat.le_of_ble_eq_true rfl) (Nat.le_of_ble_eq_true rfl) dX3_init_35 (fun a3 c9 H hK hP hD hS => ?_)
  refine W.widen (k := 4) (n := 2048) (by omega) (by omega) ?_
  obtain rfl : cI = c9 := Option.some.inj ((hK.2 0 _ rfl).2.symm.trans (hK.2 1 _ rfl).2)
  have hK : va_K D cl_ [(cI, .int)] s := hK.sub [0] rfl
  refine va_putF (D := D) (ci := 3) (v := .ref a3) (ty := .array .int) (C := RX3) (T := TX3) (N := 13) hx hb hg inX3 tyX3 tyX3_ok nmX3 hown hK hP hD hS 0 rfl rfl 5 (by decide) (hg _ wk_354) (fun _ h9 => h9) rfl hnm rfl (by decide +kernel) rfl rfl (Nat.le_of_ble_eq_true rfl) dX3_init_37 (fun H locs hP hD hS => ?_)
  have hP : va_P D cl_ [(y, .inr (3, [.int 0, .int 0, .ref a0, .ref a1, .ref a2, .ref a3, .int 0, .null, .null, .null, .null, .null, .null])), (a0, .inl (cI, 512, .inl (fun _ => 0))), (a1, .inl (cI, 512, .inl (fun _ => 0))), (a2, .inl (cI, 512, .inl (fun _ => 0))), (a3, .inl (cI, 512, .inl (fun _ => 0)))] H := hP
  have hD : va_D AA [(y, .inr (3, [.int 0, .int 0, .ref a0, .ref a1, .ref a2, .ref a3, .int 0, .null, .null, .null, .null, .null, .null])), (a0, .inl (cI, 512, .inl (fun _ => 0))), (a1, .inl (cI, 512, .inl (fun _ => 0))), (a2, .inl (cI, 512, .inl (fun _ => 0))), (a3, .inl (cI, 512, .inl (fun _ => 0)))] := hD
  refine lv_aload_n hx hb dX3_init_40 rfl (lv_at hl 0 rfl) ?_
  refine lv_sipush (v := 1024) hx hb dX3_init_41 (by decide) ?_
  refine va_newa (atype := .int) (ty := .int) (N' := 1024) (a0 := (1024, .inl (fun _ => 0))) hx hb (hg _ wk_33) rfl hK hP hD hS hA (fun _ => rfl) (by decide) (by decide +kernel) (Nat.le_of_ble_eq_true rfl) (Nat.le_of_ble_eq_true rfl) (Nat.le_of_ble_eq_true rfl) dX3_init_44 (fun a4 c9 H hK hP hD hS => ?_)
  refine W.widen (k := 5) (n := 3072) (by omega) (by omega) ?_
  obtain rfl : cI = c9 := Option.some.inj ((hK.2 0 _ rfl).2.symm.trans (hK.2 1 _ rfl).2)
  have hK : va_K D cl_ [(cI, .int)] s := hK.sub [0] rfl
  refine va_putF (D := D) (ci := 3) (v := .ref a4) (ty := .array .int) (C := RX3) (T := TX3) (N := 13) hx hb hg inX3 tyX3 tyX3_ok nmX3 hown hK hP hD hS 0 rfl rfl 7 (by decide) (hg _ wk_356) (fun _ h9 => h9) rfl hnm rfl (by decide +kernel) rfl rfl (Nat.le_of_ble_eq_true rfl) dX3_init_46 (fun H locs hP hD hS => ?_)
  have hP : va_P D cl_ [(y, .inr (3, [.int 0, .int 0, .ref a0, .ref a1, .ref a2, .ref a3, .int 0, .ref a4, .null, .null, .null, .null, .null])), (a0, .inl (cI, 512, .inl (fun _ => 0))), (a1, .inl (cI, 512, .inl (fun _ => 0))), (a2, .inl (cI, 512, .inl (fun _ => 0))), (a3, .inl (cI, 512, .inl (fun _ => 0))), (a4, .inl (cI, 1024, .inl (fun _ => 0)))] H := hP
  have hD : va_D AA [(y, .inr (3, [.int 0, .int 0, .ref a0, .ref a1, .ref a2, .ref a3, .int 0, .ref a4, .null, .null, .null, .null, .null])), (a0, .inl (cI, 512, .inl (fun _ => 0))), (a1, .inl (cI, 512, .inl (fun _ => 0))), (a2, .inl (cI, 512, .inl (fun _ => 0))), (a3, .inl (cI, 512, .inl (fun _ => 0))), (a4, .inl (cI, 1024, .inl (fun _ => 0)))] := hD
  refine lv_aload_n hx hb dX3_init_49 rfl (lv_at hl 0 rfl) ?_
  refine lv_sipush (v := 1024) hx hb dX3_init_50 (by decide) ?_
  refine va_newa (atype := .int) (ty := .int) (N' := 1024) (a0 := (1024, .inl (fun _ => 0))) hx hb (hg _ wk_33) rfl hK hP hD hS hA (fun _ => rfl) (by decide) (by decide +kernel) (Nat.le_of_ble_eq_true rfl) (Nat.le_of_ble_eq_true rfl) (Nat.le_of_ble_eq_true rfl) dX3_init_53 (fun a5 c9 H hK hP hD hS => ?_)
  refine W.widen (k := 6) (n := 4096) (by omega) (by omega) ?_
  obtain rfl : cI = c9 := Option.some.inj ((hK.2 0 _ rfl).2.symm.trans (hK.2 1 _ rfl).2)
  have hK : va_K D cl_ [(cI, .int)] s := hK.sub [0] rfl
  refine va_putF (D := D) (ci := 3) (v := .ref a5) (ty := .array .int) (C := RX3) (T := TX3) (N := 13) hx hb hg inX3 tyX3 tyX3_ok nmX3 hown hK hP hD hS 0 rfl rfl 8 (by decide) (hg _ wk_357) (fun _ h9 => h9) rfl hnm rfl (by decide +kernel) rfl rfl (Nat.le_of_ble_eq_true rfl) dX3_init_55 (fun H locs hP hD hS => ?_)
  have hP : va_P D cl_ [(y, .inr (3, [.int 0, .int 0, .ref a0, .ref a1, .ref a2, .ref a3, .int 0, .ref a4, .ref a5, .null, .null, .null, .null])), (a0, .inl (cI, 512, .inl (fun _ => 0))), (a1, .inl (cI, 512, .inl (fun _ => 0))), (a2, .inl (cI, 512, .inl (fun _ => 0))), (a3, .inl (cI, 512, .inl (fun _ => 0))), (a4, .inl (cI, 1024, .inl (fun _ => 0))), (a5, .inl (cI, 1024, .inl (fun _ => 0)))] H := hP
  have hD : va_D AA [(y, .inr (3, [.int 0, .int 0, .ref a0, .ref a1, .ref a2, .ref a3, .int 0, .ref a4, .ref a5, .null, .null, .null, .null])), (a0, .inl (cI, 512, .inl (fun _ => 0))), (a1, .inl (cI, 512, .inl (fun _ => 0))), (a2, .inl (cI, 512, .inl (fun _ => 0))), (a3, .inl (cI, 512, .inl (fun _ => 0))), (a4, .inl (cI, 1024, .inl (fun _ => 0))), (a5, .inl (cI, 1024, .inl (fun _ => 0)))] := hD
  refine lv_aload_n hx hb dX3_init_58 rfl (lv_at hl 0 rfl) ?_
  refine lv_sipush (v := 1024) hx hb dX3_init_59 (by decide) ?_
  refine va_newa (atype := .int) (ty := .int) (N' := 1024) (a0 := (1024, .inl (fun _ => 0))) hx hb (hg _ wk_33) rfl hK hP hD hS hA (fun _ => rfl) (by decide) (by decide +kernel) (Nat.le_of_ble_eq_true rfl) (Nat.le_of_ble_eq_true rfl) (Nat.le_of_ble_eq_true rfl) dX3_init_62 (fun a6 c9 H hK hP hD hS => ?_)
  refine W.widen (k := 7) (n := 5120) (by omega) (by omega) ?_
  obtain rfl : cI = c9 := Option.some.inj ((hK.2 0 _ rfl).2.symm.trans (hK.2 1 _ rfl).2)
  have hK : va_K D cl_ [(cI, .int)] s := hK.sub [0] rfl
  refine va_putF (D := D) (ci := 3) (v := .ref a6) (ty := .array .int) (C := RX3) (T := TX3) (N := 13) hx hb hg inX3 tyX3 tyX3_ok nmX3 hown hK hP hD hS 0 rfl rfl 9 (by decide) (hg _ wk_358) (fun _ h9 => h9) rfl hnm rfl (by decide +kernel) rfl rfl (Nat.le_of_ble_eq_true rfl) dX3_init_64 (fun H locs hP hD hS => ?_)
  have hP : va_P D cl_ [(y, .inr (3, [.int 0, .int 0, .ref a0, .ref a1, .ref a2, .ref a3, .int 0, .ref a4, .ref a5, .ref a6, .null, .null, .null])), (a0, .inl (cI, 512, .inl (fun _ => 0))), (a1, .inl (cI, 512, .inl (fun _ => 0))), (a2, .inl (cI, 512, .inl (fun _ => 0))), (a3, .inl (cI, 512, .inl (fun _ => 0))), (a4, .inl (cI, 1024, .inl (fun _ => 0))), (a5, .inl (cI, 1024, .inl (fun _ => 0))), (a6, .inl (cI, 1024, .inl (fun _ => 0)))] H := hP
  have hD : va_D AA [(y, .inr (3, [.int 0, .int 0, .ref a0, .ref a1, .ref a2, .ref a3, .int 0, .ref a4, .ref a5, .ref a6, .null, .null, .null])), (a0, .inl (cI, 512, .inl (fun _ => 0))), (a1, .inl (cI, 512, .inl (fun _ => 0))), (a2, .inl (cI, 512, .inl (fun _ => 0))), (a3, .inl (cI, 512, .inl (fun _ => 0))), (a4, .inl (cI, 1024, .inl (fun _ => 0))), (a5, .inl (cI, 1024, .inl (fun _ => 0))), (a6, .inl (cI, 1024, .inl (fun _ => 0)))] := hD
  refine lv_aload_n hx hb dX3_init_67 rfl (lv_at hl 0 rfl) ?_
  refine lv_sipush (v := 1024) hx hb dX3_init_68 (by decide) ?_
  refine va_newa (atype := .int) (ty := .int) (N' := 1024) (a0 := (1024, .inl (fun _ => 0))) hx hb (hg _ wk_33) rfl hK hP hD hS hA (fun _ => rfl) (by decide) (by decide +kernel) (Nat.le_of_ble_eq_true rfl) (Nat.le_of_ble_eq_true rfl) (Nat.le_of_ble_eq_true rfl) dX3_init_71 (fun a7 c9 H hK hP hD hS => ?_)
  refine W.widen (k := 8) (n := 6144) (by omega) (by omega) ?_
  obtain rfl : cI = c9 := Option.some.inj ((hK.2 0 _ rfl).2.symm.trans (hK.2 1 _ rfl).2)
  have hK : va_K D cl_ [(cI, .int)] s := hK.sub [0] rfl
  refine va_putF (D := D) (ci := 3) (v := .ref a7) (ty := .array .int) (C := RX3) (T := TX3) (N := 13) hx hb hg inX3 tyX3 tyX3_ok nmX3 hown hK hP hD hS 0 rfl rfl 10 (by decide) (hg _ wk_359) (fun _ h9 => h9) rfl hnm rfl (by decide +kernel) rfl rfl (Nat.le_of_ble_eq_true rfl) dX3_init_73 (fun H locs hP hD hS => ?_)
  have hP : va_P D cl_ [(y, .inr (3, [.int 0, .int 0, .ref a0, .ref a1, .ref a2, .ref a3, .int 0, .ref a4, .ref a5, .ref a6, .ref a7, .null, .null])), (a0, .inl (cI, 512, .inl (fun _ => 0))), (a1, .inl (cI, 512, .inl (fun _ => 0))), (a2, .inl (cI, 512, .inl (fun _ => 0))), (a3, .inl (cI, 512, .inl (fun _ => 0))), (a4, .inl (cI, 1024, .inl (fun _ => 0))), (a5, .inl (cI, 1024, .inl (fun _ => 0))), (a6, .inl (cI, 1024, .inl (fun _ => 0))), (a7, .inl (cI, 1024, .inl (fun _ => 0)))] H := hP
  have hD : va_D AA [(y, .inr (3, [.int 0, .int 0, .ref a0, .ref a1, .ref a2, .ref a3, .int 0, .ref a4, .ref a5, .ref a6, .ref a7, .null, .null])), (a0, .inl (cI, 512, .inl (fun _ => 0))), (a1, .inl (cI, 512, .inl (fun _ => 0))), (a2, .inl (cI, 512, .inl (fun _ => 0))), (a3, .inl (cI, 512, .inl (fun _ => 0))), (a4, .inl (cI, 1024, .inl (fun _ => 0))), (a5, .inl (cI, 1024, .inl (fun _ => 0))), (a6, .inl (cI, 1024, .inl (fun _ => 0))), (a7, .inl (cI, 1024, .inl (fun _ => 0)))] := hD
  refine lv_aload_n hx hb dX3_init_76 rfl (lv_at hl 0 rfl) ?_
  refine lv_sipush (v := 512) hx hb dX3_init_77 (by decide) ?_
  refine va_newa (atype := .int) (ty := .int) (N' := 512) (a0 := (512, .inl (fun _ => 0))) hx hb (hg _ wk_33) rfl hK hP hD hS hA (fun _ => rfl) (by decide) (by decide +kernel) (Nat.le_of_ble_eq_true rfl) (Nat.le_of_ble_eq_true rfl) (Nat.le_of_ble_eq_true rfl) dX3_init_80 (fun a8 c9 H hK hP hD hS => ?_)
  refine W.widen (k := 9) (n := 6656) (by omega) (by omega) ?_
  obtain rfl : cI = c9 := Option.some.inj ((hK.2 0 _ rfl).2.symm.trans (hK.2 1 _ rfl).2)
  have hK : va_K D cl_ [(cI, .int)] s := hK.sub [0] rfl
  refine va_putF (D := D) (ci := 3) (v := .ref a8) (ty := .array .int) (C := RX3) (T := TX3) (N := 13) hx hb hg inX3 tyX3 tyX3_ok nmX3 hown hK hP hD hS 0 rfl rfl 11 (by decide) (hg _ wk_360) (fun _ h9 => h9) rfl hnm rfl (by decide +kernel) rfl rfl (Nat.le_of_ble_eq_true rfl) dX3_init_82 (fun H locs hP hD hS => ?_)
  have hP : va_P D cl_ [(y, .inr (3, [.int 0, .int 0, .ref a0, .ref a1, .ref a2, .ref a3, .int 0, .ref a4, .ref a5, .ref a6, .ref a7, .ref a8, .null])), (a0, .inl (cI, 512, .inl (fun _ => 0))), (a1, .inl (cI, 512, .inl (fun _ => 0))), (a2, .inl (cI, 512, .inl (fun _ => 0))), (a3, .inl (cI, 512, .inl (fun _ => 0))), (a4, .inl (cI, 1024, .inl (fun _ => 0))), (a5, .inl (cI, 1024, .inl (fun _ => 0))), (a6, .inl (cI, 1024, .inl (fun _ => 0))), (a7, .inl (cI, 1024, .inl (fun _ => 0))), (a8, .inl (cI, 512, .inl (fun _ => 0)))] H := hP
  have hD : va_D AA [(y, .inr (3, [.int 0, .int 0, .ref a0, .ref a1, .ref a2, .ref a3, .int 0, .ref a4, .ref a5, .ref a6, .ref a7, .ref a8, .null])), (a0, .inl (cI, 512, .inl (fun _ => 0))), (a1, .inl (cI, 512, .inl (fun _ => 0))), (a2, .inl (cI, 512, .inl (fun _ => 0))), (a3, .inl (cI, 512, .inl (fun _ => 0))), (a4, .inl (cI, 1024, .inl (fun _ => 0))), (a5, .inl (cI, 1024, .inl (fun _ => 0))), (a6, .inl (cI, 1024, .inl (fun _ => 0))), (a7, .inl (cI, 1024, .inl (fun _ => 0))), (a8, .inl (cI, 512, .inl (fun _ => 0)))] := hD
  refine lv_aload_n hx hb dX3_init_85 rfl (lv_at hl 0 rfl) ?_
  refine lv_sipush (v := 512) hx hb dX3_init_86 (by decide) ?_
  refine va_newa (atype := .int) (ty := .int) (N' := 512) (a0 := (512, .inl (fun _ => 0))) hx hb (hg _ wk_33) rfl hK hP hD hS hA (fun _ => rfl) (by decide) (by decide +kernel) (Nat.le_of_ble_eq_true rfl) (Nat.le_of_ble_eq_true rfl) (Nat.le_of_ble_eq_true rfl) dX3_init_89 (fun a9 c9 H hK hP hD hS => ?_)
  refine W.widen (k := 10) (n := 7168) (by omega) (by omega) ?_
  obtain rfl : cI = c9 := Option.some.inj ((hK.2 0 _ rfl).2.symm.trans (hK.2 1 _ rfl).2)
  have hK : va_K D cl_ [(cI, .int)] s := hK.sub [0] rfl
  refine va_putF (D := D) (ci := 3) (v := .ref a9) (ty := .array .int) (C := RX3) (T := TX3) (N := 13) hx hb hg inX3 tyX3 tyX3_ok nmX3 hown hK hP hD hS 0 rfl rfl 12 (by decide) (hg _ wk_361) (fun _ h9 => h9) rfl hnm rfl (by decide +kernel) rfl rfl (Nat.le_of_ble_eq_true rfl) dX3_init_91 (fun H locs hP hD hS => ?_)
  have hP : va_P D cl_ [(y, .inr (3, [.int 0, .int 0, .ref a0, .ref a1, .ref a2, .ref a3, .int 0, .ref a4, .ref a5, .ref a6, .ref a7, .ref a8, .ref a9])), (a0, .inl (cI, 512, .inl (fun _ => 0))), (a1, .inl (cI, 512, .inl (fun _ => 0))), (a2, .inl (cI, 512, .inl (fun _ => 0))), (a3, .inl (cI, 512, .inl (fun _ => 0))), (a4, .inl (cI, 1024, .inl (fun _ => 0))), (a5, .inl (cI, 1024, .inl (fun _ => 0))), (a6, .inl (cI, 1024, .inl (fun _ => 0))), (a7, .inl (cI, 1024, .inl (fun _ => 0))), (a8, .inl (cI, 512, .inl (fun _ => 0))), (a9, .inl (cI, 512, .inl (fun _ => 0)))] H := hP
  have hD : va_D AA [(y, .inr (3, [.int 0, .int 0, .ref a0, .ref a1, .ref a2, .ref a3, .int 0, .ref a4, .ref a5, .ref a6, .ref a7, .ref a8, .ref a9])), (a0, .inl (cI, 512, .inl (fun _ => 0))), (a1, .inl (cI, 512, .inl (fun _ => 0))), (a2, .inl (cI, 512, .inl (fun _ => 0))), (a3, .inl (cI, 512, .inl (fun _ => 0))), (a4, .inl (cI, 1024, .inl (fun _ => 0))), (a5, .inl (cI, 1024, .inl (fun _ => 0))), (a6, .inl (cI, 1024, .inl (fun _ => 0))), (a7, .inl (cI, 1024, .inl (fun _ => 0))), (a8, .inl (cI, 512, .inl (fun _ => 0))), (a9, .inl (cI, 512, .inl (fun _ => 0)))] := hD
  have hP9 : va_P D cl_ (wM y (fun j => [a0, a1, a2, a3, a4, a5, a6, a7, a8, a9].getD j 0) cI 0 0 0 (fun _ _ => 0)) H := hP.sub [0, 1, 2, 3, 4, 5, 6, 7, 8, 9, 10] rfl
  have hD9 : va_D AA (wM y (fun j => [a0, a1, a2, a3, a4, a5, a6, a7, a8, a9].getD j 0) cI 0 0 0 (fun _ _ => 0)) := hD.sub [0, 1, 2, 3, 4, 5, 6, 7, 8, 9, 10] (by decide) rfl
  exact W.vret hx hb hr (fun t9 ht9 hW9 => ⟨⟨((fun j => [a0, a1, a2, a3, a4, a5, a6, a7, a8, a9].getD j 0), cI), rfl, trivial, by rw [ht9]; exact hP9, va_K.moved hW9.alike hK, hD9, Nat.zero_le _, Nat.zero_le _⟩, hS.F ht9⟩) hS.2.2 dX3_init_94
