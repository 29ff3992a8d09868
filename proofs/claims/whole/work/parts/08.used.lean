set_option maxHeartbeats 4000000 in
set_option maxRecDepth 100000 in
theorem c_X0_isVisible (l : Launch) {D : va_G} {b : Nat} {fv : Nat → Int32}   : Met l yX0_isVisible (gws yX0_isVisible cX0_isVisible 1 (some .boolean)) { frames := 0, cells := 0, slots := 0, locals := 0 } (va_Pc [.ref b] (fun U => RdE D b fv U U.heap)) (vp_Si (fun r => (fv 5 = 0 ∧ r = 1) ∨ (¬ fv 5 = 0 ∧ r = 0))) 0 0 (fun _ => False) := by
  refine met_go (by decide) (Nat.le_of_ble_eq_true rfl) ?_
  intro p e s m below meth c ls S hr hlocks hnm hE hl
  obtain ⟨hx, hb, hml, hown, hg⟩ := id S
  have hl : lv_has ls 1 [(0, .ref b)] := hl
  refine lv_aload_n hx hb dX0_isVisible_0 rfl (lv_at hl 0 rfl) ?_
  refine rE_removes S hE dX0_isVisible_1 ?_
  refine lv_if_ne (tgt := 11) hx hb dX0_isVisible_4 (by decide) (fun c_4 => ?_) (fun c_4 => ?_)
  · refine lv_iconst (v := 0) hx hb dX0_isVisible_11 (by decide) ?_
    exact W.zret (v := 0) hx hb hr rfl (fun t9 ht9 _ => ⟨_, rfl, Or.inr ⟨c_4, rfl⟩, ht9⟩) (fun _ h => nomatch h) dX0_isVisible_12
  · refine lv_iconst (v := 1) hx hb dX0_isVisible_7 (by decide) ?_
    refine lv_goto (tgt := 12) hx hb dX0_isVisible_8 (by decide) ?_
    exact W.zret (v := 1) hx hb hr rfl (fun t9 ht9 _ => ⟨_, rfl, Or.inl ⟨c_4, rfl⟩, ht9⟩) (fun _ h => nomatch h) dX0_isVisible_12
set_option maxHeartbeats 4000000 in
set_option maxRecDepth 100000 in
theorem c_X1_firstNotBelow (l : Launch) {D : va_G} {u i cnt : Nat} {ids : Nat → Int32} (v1 : Int32) (hs : Srt ids cnt) : Met l yX1_firstNotBelow (gws yX1_firstNotBelow cX1_firstNotBelow 5 (some .int)) { frames := 0, cells := 0, slots := 0, locals := 0 } (va_Pc [.ref u, .int v1] (fun U => RdU D u i cnt ids U U.heap)) (vp_Si (fun r => ∃ q, Fnb ids cnt v1 q ∧ r = nI q)) 0 0 (fun _ => False) := by
  refine met_go (by decide) (Nat.le_of_ble_eq_true rfl) ?_
  intro p e s m below meth c ls S hr hlocks hnm hU hl
  obtain ⟨hx, hb, hml, hown, hg⟩ := id S
  have hl : lv_has ls 5 [(0, .ref u), (1, .int v1)] := hl
  obtain ⟨_, _, _, _, hn⟩ := id hU
  refine lv_iconst (v := nI 0) hx hb dX1_firstNotBelow_0 (by decide) ?_
  refine lv_istore_n (lv' := [(2, .int (nI 0)), (0, .ref u), (1, .int v1)]) hx hb dX1_firstNotBelow_1 rfl hl (by decide) rfl (fun ls hl => ?_)
  refine lv_aload_n hx hb dX1_firstNotBelow_2 rfl (lv_at hl 1 rfl) ?_
  refine rU_count S hU dX1_firstNotBelow_3 ?_
  refine lv_istore_n (lv' := [(3, .int (nI cnt)), (2, .int (nI 0)), (0, .ref u), (1, .int v1)]) hx hb dX1_firstNotBelow_6 rfl hl (by decide) rfl (fun ls hl => ?_)
  suffices hloop : ∀ (fuel : Nat) (a b : Nat), a ≤ b → b ≤ cnt → b - a < fuel → (∀ j, j < a → ids j < v1) → (∀ j, b ≤ j → j < cnt → ¬ ids j < v1) → ∀ ls : Array Slot, lv_has ls 5 [(2, .int (nI a)), (3, .int (nI b)), (0, .ref u), (1, .int v1)] → W p l e { frames := 0, cells := 0, slots := 0, locals := 0 } s m [.ref u, .int v1].toArray below meth c s.heap [] 0 0 (MQ below (vp_Si (fun r => ∃ q, Fnb ids cnt v1 q ∧ r = nI q)) [.ref u, .int v1].toArray s 0 0 (fun _ => False)) (F0 m 7 ls []) from hloop (cnt + 1) 0 cnt (by omega) (by omega) (by omega) (fun _ h => absurd h (Nat.not_lt_zero _)) (fun _ h h2 => absurd h2 (by omega))  ls (lv_sub hl [1, 0, 2, 3] rfl)
  intro fuel
  induction fuel with
  | zero => intro a b hab hbc hf hA hB; omega
  | succ fuel ih =>
    intro a b hab hbc hf hA hB  ls hl
    refine lv_iload_n hx hb dX1_firstNotBelow_7 rfl (lv_at hl 0 rfl) ?_
    refine lv_iload_n hx hb dX1_firstNotBelow_8 rfl (lv_at hl 1 rfl) ?_
    refine lv_icmp_ge (tgt := 44) hx hb dX1_firstNotBelow_9 (by decide) (fun c_9 => ?_) (fun c_9 => ?_)
    · rw [nI_leI (by omega) (by omega)] at c_9
      refine lv_iload_n hx hb dX1_firstNotBelow_44 rfl (lv_at hl 0 rfl) ?_
      exact W.iret (v := (nI a)) hx hb hr (fun t9 ht9 _ => ⟨_, rfl, ⟨a, ⟨by omega, hA, fun j hj hj2 => hB j (by omega) hj2⟩, rfl⟩, ht9⟩) (fun _ h => nomatch h) dX1_firstNotBelow_45
    · rw [nI_leI (by omega) (by omega)] at c_9
      refine lv_iload_n hx hb dX1_firstNotBelow_12 rfl (lv_at hl 0 rfl) ?_
      refine lv_iload_n hx hb dX1_firstNotBelow_13 rfl (lv_at hl 1 rfl) ?_
      refine lv_iadd hx hb dX1_firstNotBelow_14 ?_
      refine lv_iconst (v := nI 2) hx hb dX1_firstNotBelow_15 (by decide) ?_
      refine lv_idiv hx hb dX1_firstNotBelow_16 (by decide) ?_
      rw [nI_add, show (nI 2 : Int32) = nI 2 from rfl, pk_div (by omega) (by omega) (by omega)]
      obtain ⟨q, hq⟩ : ∃ q, q = (a + b) / 2 := ⟨_, rfl⟩
      rw [← hq]
      refine lv_istore (lv' := [(4, .int (nI q)), (2, .int (nI a)), (3, .int (nI b)), (0, .ref u), (1, .int v1)]) hx hb dX1_firstNotBelow_17 hl (by decide) rfl (fun ls hl => ?_)
      refine lv_aload_n hx hb dX1_firstNotBelow_19 rfl (lv_at hl 3 rfl) ?_
      refine rU_ids S hU dX1_firstNotBelow_20 ?_
      refine lv_iload hx hb dX1_firstNotBelow_23 (lv_at hl 0 rfl) ?_
      refine rU_ald S hU (by omega) dX1_firstNotBelow_25 ?_
      refine lv_iload_n hx hb dX1_firstNotBelow_26 rfl (lv_at hl 4 rfl) ?_
      refine lv_icmp_ge (tgt := 38) hx hb dX1_firstNotBelow_27 (by decide) (fun c_27 => ?_) (fun c_27 => ?_)
      · refine lv_iload hx hb dX1_firstNotBelow_38 (lv_at hl 0 rfl) ?_
        refine lv_istore_n (lv' := [(3, .int (nI q)), (4, .int (nI q)), (2, .int (nI a)), (0, .ref u), (1, .int v1)]) hx hb dX1_firstNotBelow_40 rfl hl (by decide) rfl (fun ls hl => ?_)
        refine lv_goto (tgt := 7) hx hb dX1_firstNotBelow_41 (by decide) ?_
        exact ih a q (by omega) (by omega) (by omega) hA (hs.up (i32_nlt.mpr c_27))  ls (lv_sub hl [2, 0, 3, 4] rfl)
      · refine lv_iload hx hb dX1_firstNotBelow_30 (lv_at hl 0 rfl) ?_
        refine lv_iconst (v := nI 1) hx hb dX1_firstNotBelow_32 (by decide) ?_
        refine lv_iadd hx hb dX1_firstNotBelow_33 ?_
        rw [nI_add]
        refine lv_istore_n (lv' := [(2, .int (nI (q + 1))), (4, .int (nI q)), (3, .int (nI b)), (0, .ref u), (1, .int v1)]) hx hb dX1_firstNotBelow_34 rfl hl (by decide) rfl (fun ls hl => ?_)
        refine lv_goto (tgt := 41) hx hb dX1_firstNotBelow_35 (by decide) ?_
        refine lv_goto (tgt := 7) hx hb dX1_firstNotBelow_41 (by decide) ?_
        exact ih (q + 1) b (by omega) (by omega) (by omega) (hs.dn (by omega) (i32_nle.mp c_27)) hB  ls (lv_sub hl [0, 2, 3, 4] rfl)
set_option maxHeartbeats 4000000 in
set_option maxRecDepth 100000 in
theorem c_X1_has (l : Launch) {D : va_G} {u i cnt : Nat} {ids : Nat → Int32} (v1 : Int32) (hs : Srt ids cnt) : Met l yX1_has (gws yX1_has cX1_has 3 (some .boolean)) { frames := 1, cells := 0, slots := 0, locals := 24 } (va_Pc [.ref u, .int v1] (fun U => RdU D u i cnt ids U U.heap)) (vp_Si (fun r => ((∃ j, j < cnt ∧ ids j = v1) ∧ r = 1) ∨ ((¬ ∃ j, j < cnt ∧ ids j = v1) ∧ r = 0))) 0 0 (fun _ => False) := by
  refine met_go (by decide) (Nat.le_of_ble_eq_true rfl) ?_
  intro p e s m below meth c ls S hr hlocks hnm hU hl
  obtain ⟨hx, hb, hml, hown, hg⟩ := id S
  have hl : lv_has ls 3 [(0, .ref u), (1, .int v1)] := hl
  obtain ⟨_, _, _, _, hn⟩ := id hU
  refine lv_aload_n hx hb dX1_has_0 rfl (lv_at hl 0 rfl) ?_
  refine lv_iload_n hx hb dX1_has_1 rfl (lv_at hl 1 rfl) ?_
  refine vp_callSi (va_Run.run (runV (As := [.int v1]) (rest := []) (Bh := RdU D u i cnt ids) S (c_X1_firstNotBelow l v1 hs) (gw_V wk_127 wk_129 wp_6 wk_2 wk_130) rfl rfl 1 rfl (by decide +kernel) (by decide) ⟨Nat.le_refl _, Nat.le_refl _⟩ (fun _ _ _ h q => RdU.mv h q) hU.recv hU hl.1 (Nat.le_of_ble_eq_true rfl) dX1_has_2)) (fun r_2 hr_2 => ?_)
  obtain ⟨q, hq, rfl⟩ := hr_2
  have hqc := hq.1
  refine lv_istore_n (lv' := [(2, .int (nI q)), (0, .ref u), (1, .int v1)]) hx hb dX1_has_5 rfl hl (by decide) rfl (fun ls hl => ?_)
  refine lv_iload_n hx hb dX1_has_6 rfl (lv_at hl 0 rfl) ?_
  refine lv_aload_n hx hb dX1_has_7 rfl (lv_at hl 1 rfl) ?_
  refine rU_count S hU dX1_has_8 ?_
  refine lv_icmp_ge (tgt := 28) hx hb dX1_has_11 (by decide) (fun c_11 => ?_) (fun c_11 => ?_)
  · rw [nI_leI (by omega) (by omega)] at c_11
    refine lv_iconst (v := 0) hx hb dX1_has_28 (by decide) ?_
    exact W.zret (v := 0) hx hb hr rfl (fun t9 ht9 _ => ⟨_, rfl, Or.inr ⟨fun z => absurd (hq.has z hs).1 (by omega), rfl⟩, ht9⟩) (fun _ h => nomatch h) dX1_has_29
  · rw [nI_leI (by omega) (by omega)] at c_11
    refine lv_aload_n hx hb dX1_has_14 rfl (lv_at hl 1 rfl) ?_
    refine rU_ids S hU dX1_has_15 ?_
    refine lv_iload_n hx hb dX1_has_18 rfl (lv_at hl 0 rfl) ?_
    refine rU_ald S hU (by omega) dX1_has_19 ?_
    refine lv_iload_n hx hb dX1_has_20 rfl (lv_at hl 2 rfl) ?_
    refine lv_icmp_ne (tgt := 28) hx hb dX1_has_21 (by decide) (fun c_21 => ?_) (fun c_21 => ?_)
    · refine lv_iconst (v := 0) hx hb dX1_has_28 (by decide) ?_
      exact W.zret (v := 0) hx hb hr rfl (fun t9 ht9 _ => ⟨_, rfl, Or.inr ⟨fun z => c_21 (hq.has z hs).2, rfl⟩, ht9⟩) (fun _ h => nomatch h) dX1_has_29
    · refine lv_iconst (v := 1) hx hb dX1_has_24 (by decide) ?_
      refine lv_goto (tgt := 29) hx hb dX1_has_25 (by decide) ?_
      exact W.zret (v := 1) hx hb hr rfl (fun t9 ht9 _ => ⟨_, rfl, Or.inl ⟨⟨q, by omega, c_21⟩, rfl⟩, ht9⟩) (fun _ h => nomatch h) dX1_has_29
set_option maxHeartbeats 4000000 in
set_option maxRecDepth 100000 in
theorem c_X1_greatest (l : Launch) {D : va_G} {u i cnt : Nat} {ids : Nat → Int32}   : Met l yX1_greatest (gws yX1_greatest cX1_greatest 1 (some .int)) { frames := 0, cells := 0, slots := 0, locals := 0 } (va_Pc [.ref u] (fun U => RdU D u i cnt ids U U.heap)) (vp_Si (fun r => (cnt = 0 ∧ r = -1) ∨ (0 < cnt ∧ r = ids (cnt - 1)))) 0 0 (fun _ => False) := by
  refine met_go (by decide) (Nat.le_of_ble_eq_true rfl) ?_
  intro p e s m below meth c ls S hr hlocks hnm hU hl
  obtain ⟨hx, hb, hml, hown, hg⟩ := id S
  have hl : lv_has ls 1 [(0, .ref u)] := hl
  obtain ⟨_, _, _, _, hn⟩ := id hU
  refine lv_aload_n hx hb dX1_greatest_0 rfl (lv_at hl 0 rfl) ?_
  refine rU_count S hU dX1_greatest_1 ?_
  refine lv_if_ne (tgt := 11) hx hb dX1_greatest_4 (by decide) (fun c_4 => ?_) (fun c_4 => ?_)
  · have hc0 : cnt ≠ 0 := fun z => c_4 (by rw [z]; rfl)
    refine lv_aload_n hx hb dX1_greatest_11 rfl (lv_at hl 0 rfl) ?_
    refine rU_ids S hU dX1_greatest_12 ?_
    refine lv_aload_n hx hb dX1_greatest_15 rfl (lv_at hl 0 rfl) ?_
    refine rU_count S hU dX1_greatest_16 ?_
    refine lv_iconst (v := 1) hx hb dX1_greatest_19 (by decide) ?_
    refine lv_isub hx hb dX1_greatest_20 ?_
    rw [show (1 : Int32) = nI 1 from rfl, pk_sub (by omega)]
    refine rU_ald S hU (by omega) dX1_greatest_21 ?_
    exact W.iret (v := (ids (cnt - 1))) hx hb hr (fun t9 ht9 _ => ⟨_, rfl, Or.inr ⟨by omega, rfl⟩, ht9⟩) (fun _ h => nomatch h) dX1_greatest_22
  · refine lv_iconst (v := (-1)) hx hb dX1_greatest_7 (by decide) ?_
    refine lv_goto (tgt := 22) hx hb dX1_greatest_8 (by decide) ?_
    exact W.iret (v := (-1)) hx hb hr (fun t9 ht9 _ => ⟨_, rfl, Or.inl ⟨Nat.eq_zero_of_not_pos (fun z => nI_ne0 z (by omega) c_4), rfl⟩, ht9⟩) (fun _ h => nomatch h) dX1_greatest_22
