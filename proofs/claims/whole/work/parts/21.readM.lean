set_option maxHeartbeats 4000000 in
set_option maxRecDepth 100000 in
theorem c_X3_placeOf (l : Launch) {D : va_G} {y : Nat} {a : Nat → Nat} {n d : Nat} {th : Int32} {A : Nat → Nat → Int32} (v1 : Int32)  : Met l yX3_placeOf (gws yX3_placeOf cX3_placeOf 4 (some .int)) { frames := 0, cells := 0, slots := 0, locals := 0 } (va_Pc [.ref y, .int v1] (fun U => RdM D y a n d th A U U.heap)) (vp_Si (fun r => PL (A 0) n v1 r (-1))) 0 0 (fun _ => False) := by
  refine met_go (by decide) (Nat.le_of_ble_eq_true rfl) ?_
  intro p e s m below meth c ls S hr hlocks hnm hM hl
  obtain ⟨hx, hb, hml, hown, hg⟩ := id S
  have hl : lv_has ls 4 [(0, .ref y), (1, .int v1)] := hl
  have hn := hM.n
  refine lv_iconst (v := (-1)) hx hb dX3_placeOf_0 (by decide) ?_
  refine lv_istore_n (lv' := [(2, .int (-1)), (0, .ref y), (1, .int v1)]) hx hb dX3_placeOf_1 rfl hl (by decide) rfl (fun ls hl => ?_)
  refine lv_iconst (v := nI 0) hx hb dX3_placeOf_2 (by decide) ?_
  refine lv_istore_n (lv' := [(3, .int (nI 0)), (2, .int (-1)), (0, .ref y), (1, .int v1)]) hx hb dX3_placeOf_3 rfl hl (by decide) rfl (fun ls hl => ?_)
  suffices hloop : ∀ (fuel : Nat) (k : Nat) (q : Int32), k ≤ n → n - k < fuel → PL (A 0) k v1 q (-1) → ∀ ls : Array Slot, lv_has ls 4 [(3, .int (nI k)), (2, .int q), (0, .ref y), (1, .int v1)] → W p l e { frames := 0, cells := 0, slots := 0, locals := 0 } s m [.ref y, .int v1].toArray below meth c s.heap [] 0 0 (MQ below (vp_Si (fun r => PL (A 0) n v1 r (-1))) [.ref y, .int v1].toArray s 0 0 (fun _ => False)) (F0 m 4 ls []) from hloop (n + 1) 0 (-1) (by omega) (by omega) PL_0  ls (lv_sub hl [0, 1, 2, 3] rfl)
  intro fuel
  induction fuel with
  | zero => intro k q hk hf hI; omega
  | succ fuel ih =>
    intro k q hk hf hI  ls hl
    refine lv_iload_n hx hb dX3_placeOf_4 rfl (lv_at hl 0 rfl) ?_
    refine lv_aload_n hx hb dX3_placeOf_5 rfl (lv_at hl 2 rfl) ?_
    refine rM_many S hM dX3_placeOf_6 ?_
    refine lv_icmp_ge (tgt := 34) hx hb dX3_placeOf_9 (by decide) (fun c_9 => ?_) (fun c_9 => ?_)
    · rw [nI_leI (by omega) (by omega)] at c_9
      refine lv_iload_n hx hb dX3_placeOf_34 rfl (lv_at hl 1 rfl) ?_
      exact W.iret (v := q) hx hb hr (fun t9 ht9 _ => ⟨_, rfl, by rw [show n = k by omega]; exact hI, ht9⟩) (fun _ h => nomatch h) dX3_placeOf_35
    · rw [nI_leI (by omega) (by omega)] at c_9
      refine lv_aload_n hx hb dX3_placeOf_12 rfl (lv_at hl 2 rfl) ?_
      refine rM_ids S hM dX3_placeOf_13 ?_
      refine lv_iload_n hx hb dX3_placeOf_16 rfl (lv_at hl 0 rfl) ?_
      refine rM_ald S hM 0 (by decide) (by show _ < 512; omega) dX3_placeOf_17 ?_
      refine lv_iload_n hx hb dX3_placeOf_18 rfl (lv_at hl 3 rfl) ?_
      refine lv_icmp_ne (tgt := 26) hx hb dX3_placeOf_19 (by decide) (fun c_19 => ?_) (fun c_19 => ?_)
      · refine lv_iload_n hx hb dX3_placeOf_26 rfl (lv_at hl 1 rfl) ?_
        refine lv_istore_n (lv' := [(2, .int q), (3, .int (nI k)), (0, .ref y), (1, .int v1)]) hx hb dX3_placeOf_27 rfl hl (by decide) rfl (fun ls hl => ?_)
        refine lv_iinc (v := nI (k + 1)) (lv' := [(3, .int (nI (k + 1))), (2, .int q), (0, .ref y), (1, .int v1)]) hx hb dX3_placeOf_28 hl (k := 1) rfl (nI_1 _) (by decide) rfl (fun ls hl => ?_)
        refine lv_goto (tgt := 4) hx hb dX3_placeOf_31 (by decide) ?_
        exact ih (k + 1) _ (by omega) (by omega) (PL_n c_19 hI)  ls (lv_sub hl [0, 1, 2, 3] rfl)
      · refine lv_iload_n hx hb dX3_placeOf_22 rfl (lv_at hl 0 rfl) ?_
        refine lv_goto (tgt := 27) hx hb dX3_placeOf_23 (by decide) ?_
        refine lv_istore_n (lv' := [(2, .int (nI k)), (3, .int (nI k)), (0, .ref y), (1, .int v1)]) hx hb dX3_placeOf_27 rfl hl (by decide) rfl (fun ls hl => ?_)
        refine lv_iinc (v := nI (k + 1)) (lv' := [(3, .int (nI (k + 1))), (2, .int (nI k)), (0, .ref y), (1, .int v1)]) hx hb dX3_placeOf_28 hl (k := 1) rfl (nI_1 _) (by decide) rfl (fun ls hl => ?_)
        refine lv_goto (tgt := 4) hx hb dX3_placeOf_31 (by decide) ?_
        exact ih (k + 1) _ (by omega) (by omega) (PL_s c_19)  ls (lv_sub hl [0, 1, 2, 3] rfl)
set_option maxHeartbeats 4000000 in
set_option maxRecDepth 100000 in
theorem c_X3_isNew (l : Launch) {D : va_G} {y : Nat} {a : Nat → Nat} {n d : Nat} {th : Int32} {A : Nat → Nat → Int32} (v1 : Int32)  : Met l yX3_isNew (gws yX3_isNew cX3_isNew 4 (some .boolean)) { frames := 1, cells := 0, slots := 0, locals := 23 } (va_Pc [.ref y, .int v1] (fun U => RdM D y a n d th A U U.heap)) (vp_Si (fun r => (NewM A n d v1 ∧ r = 1) ∨ (¬ NewM A n d v1 ∧ r = 0))) 0 0 (fun _ => False) := by
  refine met_go (by decide) (Nat.le_of_ble_eq_true rfl) ?_
  intro p e s m below meth c ls S hr hlocks hnm hM hl
  obtain ⟨hx, hb, hml, hown, hg⟩ := id S
  have hl : lv_has ls 4 [(0, .ref y), (1, .int v1)] := hl
  have hn := hM.n
  have hloop : ∀ (fuel : Nat) (k : Nat) (q : Int32), k ≤ d → d - k < fuel → ((NewM A n k v1 ∧ q = 1) ∨ (¬ NewM A n k v1 ∧ q = 0)) → ∀ ls : Array Slot, lv_has ls 4 [(3, .int (nI k)), (2, .int q), (0, .ref y), (1, .int v1)] → W p l e { frames := 1, cells := 0, slots := 0, locals := 23 } s m [.ref y, .int v1].toArray below meth c s.heap [] 0 0 (MQ below (vp_Si (fun r => (NewM A n d v1 ∧ r = 1) ∨ (¬ NewM A n d v1 ∧ r = 0))) [.ref y, .int v1].toArray s 0 0 (fun _ => False)) (F0 m 28 ls []) := by
    clear hl
    intro fuel
    induction fuel with
    | zero => intro k q hk hf hI; omega
    | succ fuel ih =>
      intro k q hk hf hI  ls hl
      rcases hI with ⟨hI, rfl⟩ | ⟨hI, rfl⟩
      · refine lv_iload_n hx hb dX3_isNew_28 rfl (lv_at hl 0 rfl) ?_
        refine lv_aload_n hx hb dX3_isNew_29 rfl (lv_at hl 2 rfl) ?_
        refine rM_done S hM dX3_isNew_30 ?_
        refine lv_icmp_ge (tgt := 62) hx hb dX3_isNew_33 (by decide) (fun c_33 => ?_) (fun c_33 => ?_)
        · rw [nI_leI (by omega) (by omega)] at c_33
          refine lv_iload_n hx hb dX3_isNew_62 rfl (lv_at hl 1 rfl) ?_
          exact W.zret (v := 1) hx hb hr rfl (fun t9 ht9 _ => ⟨_, rfl, Or.inl ⟨by rw [show d = k by omega]; exact hI, rfl⟩, ht9⟩) (fun _ h => nomatch h) dX3_isNew_63
        · rw [nI_leI (by omega) (by omega)] at c_33
          refine lv_iload_n hx hb dX3_isNew_36 rfl (lv_at hl 1 rfl) ?_
          refine lv_if_eq (tgt := 54) hx hb dX3_isNew_37 (by decide) (fun c_37 => ?_) (fun c_37 => ?_)
          · exact absurd (show _ from c_37) (by decide)
          · refine lv_aload_n hx hb dX3_isNew_40 rfl (lv_at hl 2 rfl) ?_
            refine rM_doneIds S hM dX3_isNew_41 ?_
            refine lv_iload_n hx hb dX3_isNew_44 rfl (lv_at hl 0 rfl) ?_
            refine rM_ald S hM 4 (by decide) (by show _ < 1024; omega) dX3_isNew_45 ?_
            refine lv_iload_n hx hb dX3_isNew_46 rfl (lv_at hl 3 rfl) ?_
            refine lv_icmp_eq (tgt := 54) hx hb dX3_isNew_47 (by decide) (fun c_47 => ?_) (fun c_47 => ?_)
            · refine lv_iconst (v := 0) hx hb dX3_isNew_54 (by decide) ?_
              refine lv_istore_n (lv' := [(2, .int 0), (3, .int (nI k)), (0, .ref y), (1, .int v1)]) hx hb dX3_isNew_55 rfl hl (by decide) rfl (fun ls hl => ?_)
              refine lv_iinc (v := nI (k + 1)) (lv' := [(3, .int (nI (k + 1))), (2, .int 0), (0, .ref y), (1, .int v1)]) hx hb dX3_isNew_56 hl (k := 1) rfl (nI_1 _) (by decide) rfl (fun ls hl => ?_)
              refine lv_goto (tgt := 28) hx hb dX3_isNew_59 (by decide) ?_
              exact ih (k + 1) _ (by omega) (by omega) (Or.inr ⟨fun z => z.2.2.2 k (by omega) c_47, rfl⟩)  ls (lv_sub hl [0, 1, 2, 3] rfl)
            · refine lv_iconst (v := 1) hx hb dX3_isNew_50 (by decide) ?_
              refine lv_goto (tgt := 55) hx hb dX3_isNew_51 (by decide) ?_
              refine lv_istore_n (lv' := [(2, .int 1), (3, .int (nI k)), (0, .ref y), (1, .int v1)]) hx hb dX3_isNew_55 rfl hl (by decide) rfl (fun ls hl => ?_)
              refine lv_iinc (v := nI (k + 1)) (lv' := [(3, .int (nI (k + 1))), (2, .int 1), (0, .ref y), (1, .int v1)]) hx hb dX3_isNew_56 hl (k := 1) rfl (nI_1 _) (by decide) rfl (fun ls hl => ?_)
              refine lv_goto (tgt := 28) hx hb dX3_isNew_59 (by decide) ?_
              exact ih (k + 1) _ (by omega) (by omega) (Or.inl ⟨⟨hI.1, hI.2.1, hI.2.2.1, lt_s hI.2.2.2 c_47⟩, rfl⟩)  ls (lv_sub hl [0, 1, 2, 3] rfl)
      · refine lv_iload_n hx hb dX3_isNew_28 rfl (lv_at hl 0 rfl) ?_
        refine lv_aload_n hx hb dX3_isNew_29 rfl (lv_at hl 2 rfl) ?_
        refine rM_done S hM dX3_isNew_30 ?_
        refine lv_icmp_ge (tgt := 62) hx hb dX3_isNew_33 (by decide) (fun c_33 => ?_) (fun c_33 => ?_)
        · rw [nI_leI (by omega) (by omega)] at c_33
          refine lv_iload_n hx hb dX3_isNew_62 rfl (lv_at hl 1 rfl) ?_
          exact W.zret (v := 0) hx hb hr rfl (fun t9 ht9 _ => ⟨_, rfl, Or.inr ⟨by rw [show d = k by omega]; exact hI, rfl⟩, ht9⟩) (fun _ h => nomatch h) dX3_isNew_63
        · rw [nI_leI (by omega) (by omega)] at c_33
          refine lv_iload_n hx hb dX3_isNew_36 rfl (lv_at hl 1 rfl) ?_
          refine lv_if_eq (tgt := 54) hx hb dX3_isNew_37 (by decide) (fun c_37 => ?_) (fun c_37 => ?_)
          · refine lv_iconst (v := 0) hx hb dX3_isNew_54 (by decide) ?_
            refine lv_istore_n (lv' := [(2, .int 0), (3, .int (nI k)), (0, .ref y), (1, .int v1)]) hx hb dX3_isNew_55 rfl hl (by decide) rfl (fun ls hl => ?_)
            refine lv_iinc (v := nI (k + 1)) (lv' := [(3, .int (nI (k + 1))), (2, .int 0), (0, .ref y), (1, .int v1)]) hx hb dX3_isNew_56 hl (k := 1) rfl (nI_1 _) (by decide) rfl (fun ls hl => ?_)
            refine lv_goto (tgt := 28) hx hb dX3_isNew_59 (by decide) ?_
            exact ih (k + 1) _ (by omega) (by omega) (Or.inr ⟨fun z => hI ⟨z.1, z.2.1, z.2.2.1, fun j hj => z.2.2.2 j (by omega)⟩, rfl⟩)  ls (lv_sub hl [0, 1, 2, 3] rfl)
          · exact absurd (show _ from c_37) (by decide)
  refine lv_iload_n hx hb dX3_isNew_0 rfl (lv_at hl 1 rfl) ?_
  refine lv_bipush (v := 8) hx hb dX3_isNew_1 (by decide) ?_
  refine lv_icmp_lt (tgt := 24) hx hb dX3_isNew_3 (by decide) (fun c_3 => ?_) (fun c_3 => ?_)
  · refine lv_iconst (v := 0) hx hb dX3_isNew_24 (by decide) ?_
    refine lv_istore_n (lv' := [(2, .int 0), (0, .ref y), (1, .int v1)]) hx hb dX3_isNew_25 rfl hl (by decide) rfl (fun ls hl => ?_)
    refine lv_iconst (v := nI 0) hx hb dX3_isNew_26 (by decide) ?_
    refine lv_istore_n (lv' := [(3, .int (nI 0)), (2, .int 0), (0, .ref y), (1, .int v1)]) hx hb dX3_isNew_27 rfl hl (by decide) rfl (fun ls hl => ?_)
    exact hloop (d + 1) 0 _ (by omega) (by omega) (Or.inr ⟨fun z => z.1 c_3, rfl⟩)  ls (lv_sub hl [0, 1, 2, 3] rfl)
  · refine lv_iload_n hx hb dX3_isNew_6 rfl (lv_at hl 1 rfl) ?_
    refine lv_ldc (v := 800007) hx hb hown (hg _ wk_409) dX3_isNew_7 ?_
    refine lv_icmp_gt (tgt := 24) hx hb dX3_isNew_9 (by decide) (fun c_9 => ?_) (fun c_9 => ?_)
    · refine lv_iconst (v := 0) hx hb dX3_isNew_24 (by decide) ?_
      refine lv_istore_n (lv' := [(2, .int 0), (0, .ref y), (1, .int v1)]) hx hb dX3_isNew_25 rfl hl (by decide) rfl (fun ls hl => ?_)
      refine lv_iconst (v := nI 0) hx hb dX3_isNew_26 (by decide) ?_
      refine lv_istore_n (lv' := [(3, .int (nI 0)), (2, .int 0), (0, .ref y), (1, .int v1)]) hx hb dX3_isNew_27 rfl hl (by decide) rfl (fun ls hl => ?_)
      exact hloop (d + 1) 0 _ (by omega) (by omega) (Or.inr ⟨fun z => z.2.1 c_9, rfl⟩)  ls (lv_sub hl [0, 1, 2, 3] rfl)
    · refine lv_aload_n hx hb dX3_isNew_12 rfl (lv_at hl 0 rfl) ?_
      refine lv_iload_n hx hb dX3_isNew_13 rfl (lv_at hl 1 rfl) ?_
      refine vp_callSi (va_Run.run (runV (As := [.int v1]) (rest := []) (Bh := RdM D y a n d th A) S (c_X3_placeOf l v1) (gw_V wk_410 wk_412 wp_22 wk_4 wk_413) rfl rfl 1 rfl (by decide +kernel) (by decide) ⟨Nat.le_refl _, Nat.le_refl _⟩ (fun _ _ _ h q => RdM.mv h q) hM.recv hM hl.1 (Nat.le_of_ble_eq_true rfl) dX3_isNew_14)) (fun r hr => ?_)
      rcases hr with ⟨k_14, hk_14, he_14, hf_14, rfl⟩ | ⟨hn_14, rfl⟩
      · refine lv_if_ge (tgt := 24) hx hb dX3_isNew_17 (by decide) (fun c_17 => ?_) (fun c_17 => ?_)
        · refine lv_iconst (v := 0) hx hb dX3_isNew_24 (by decide) ?_
          refine lv_istore_n (lv' := [(2, .int 0), (0, .ref y), (1, .int v1)]) hx hb dX3_isNew_25 rfl hl (by decide) rfl (fun ls hl => ?_)
          refine lv_iconst (v := nI 0) hx hb dX3_isNew_26 (by decide) ?_
          refine lv_istore_n (lv' := [(3, .int (nI 0)), (2, .int 0), (0, .ref y), (1, .int v1)]) hx hb dX3_isNew_27 rfl hl (by decide) rfl (fun ls hl => ?_)
          exact hloop (d + 1) 0 _ (by omega) (by omega) (Or.inr ⟨fun z => z.2.2.1 _ hk_14 he_14, rfl⟩)  ls (lv_sub hl [0, 1, 2, 3] rfl)
        · exact absurd (nI_pos' (by omega)) c_17
      · refine lv_if_ge (tgt := 24) hx hb dX3_isNew_17 (by decide) (fun c_17 => ?_) (fun c_17 => ?_)
        · exact absurd (show _ from c_17) (by decide)
        · refine lv_iconst (v := 1) hx hb dX3_isNew_20 (by decide) ?_
          refine lv_goto (tgt := 25) hx hb dX3_isNew_21 (by decide) ?_
          refine lv_istore_n (lv' := [(2, .int 1), (0, .ref y), (1, .int v1)]) hx hb dX3_isNew_25 rfl hl (by decide) rfl (fun ls hl => ?_)
          refine lv_iconst (v := nI 0) hx hb dX3_isNew_26 (by decide) ?_
          refine lv_istore_n (lv' := [(3, .int (nI 0)), (2, .int 1), (0, .ref y), (1, .int v1)]) hx hb dX3_isNew_27 rfl hl (by decide) rfl (fun ls hl => ?_)
          exact hloop (d + 1) 0 _ (by omega) (by omega) (Or.inl ⟨⟨c_3, c_9, hn_14, (fun _ h => absurd h (Nat.not_lt_zero _))⟩, rfl⟩)  ls (lv_sub hl [0, 1, 2, 3] rfl)
set_option maxHeartbeats 4000000 in
set_option maxRecDepth 100000 in
theorem c_X3_isKind (l : Launch)  (v1 : Int32)  : Met l yX3_isKind (gws yX3_isKind cX3_isKind 1 (some .boolean)) { frames := 0, cells := 0, slots := 0, locals := 0 } (va_Pc [.int v1] (fun _ => True)) (vp_Si (fun r => ((¬ v1 < 0 ∧ ¬ 6 < v1) ∧ r = 1) ∨ ((¬ (¬ v1 < 0 ∧ ¬ 6 < v1)) ∧ r = 0))) 0 0 (fun _ => False) := by
  refine met_go (by decide) (Nat.le_of_ble_eq_true rfl) ?_
  intro p e s m below meth c ls S hr hlocks hnm _hT hl
  obtain ⟨hx, hb, hml, hown, hg⟩ := id S
  have hl : lv_has ls 1 [(0, .int v1)] := hl
  refine lv_iload_n hx hb dX3_isKind_0 rfl (lv_at hl 0 rfl) ?_
  refine lv_if_lt (tgt := 14) hx hb dX3_isKind_1 (by decide) (fun c_1 => ?_) (fun c_1 => ?_)
  · refine lv_iconst (v := 0) hx hb dX3_isKind_14 (by decide) ?_
    exact W.zret (v := 0) hx hb hr rfl (fun t9 ht9 _ => ⟨_, rfl, Or.inr ⟨fun z => z.1 c_1, rfl⟩, ht9⟩) (fun _ h => nomatch h) dX3_isKind_15
  · refine lv_iload_n hx hb dX3_isKind_4 rfl (lv_at hl 0 rfl) ?_
    refine lv_bipush (v := 6) hx hb dX3_isKind_5 (by decide) ?_
    refine lv_icmp_gt (tgt := 14) hx hb dX3_isKind_7 (by decide) (fun c_7 => ?_) (fun c_7 => ?_)
    · refine lv_iconst (v := 0) hx hb dX3_isKind_14 (by decide) ?_
      exact W.zret (v := 0) hx hb hr rfl (fun t9 ht9 _ => ⟨_, rfl, Or.inr ⟨fun z => z.2 c_7, rfl⟩, ht9⟩) (fun _ h => nomatch h) dX3_isKind_15
    · refine lv_iconst (v := 1) hx hb dX3_isKind_10 (by decide) ?_
      refine lv_goto (tgt := 15) hx hb dX3_isKind_11 (by decide) ?_
      exact W.zret (v := 1) hx hb hr rfl (fun t9 ht9 _ => ⟨_, rfl, Or.inl ⟨⟨c_1, c_7⟩, rfl⟩, ht9⟩) (fun _ h => nomatch h) dX3_isKind_15
set_option maxHeartbeats 4000000 in
set_option maxRecDepth 100000 in
theorem c_X3_canInsert (l : Launch) {D : va_G} {y : Nat} {a : Nat → Nat} {n d : Nat} {th : Int32} {A : Nat → Nat → Int32} (v1 : Int32) (v2 : Int32)  : Met l yX3_canInsert (gws yX3_canInsert cX3_canInsert 3 (some .boolean)) { frames := 2, cells := 0, slots := 0, locals := 46 } (va_Pc [.ref y, .int v1, .int v2] (fun U => RdM D y a n d th A U U.heap)) (vp_Si (fun r => ((NewM A n d v1 ∧ (v2 = 0 ∨ ∃ k, k < n ∧ A 0 k = v2) ∧ ¬ v1 ≤ v2 ∧ n < 512) ∧ r = 1) ∨ ((¬ (NewM A n d v1 ∧ (v2 = 0 ∨ ∃ k, k < n ∧ A 0 k = v2) ∧ ¬ v1 ≤ v2 ∧ n < 512)) ∧ r = 0))) 0 0 (fun _ => False) := by
  refine met_go (by decide) (Nat.le_of_ble_eq_true rfl) ?_
  intro p e s m below meth c ls S hr hlocks hnm hM hl
  obtain ⟨hx, hb, hml, hown, hg⟩ := id S
  have hl : lv_has ls 3 [(0, .ref y), (1, .int v1), (2, .int v2)] := hl
  have hn := hM.n
  refine lv_aload_n hx hb dX3_canInsert_0 rfl (lv_at hl 0 rfl) ?_
  refine lv_iload_n hx hb dX3_canInsert_1 rfl (lv_at hl 1 rfl) ?_
  refine vp_callSi (va_Run.run (runV (As := [.int v1]) (rest := []) (Bh := RdM D y a n d th A) S (c_X3_isNew l v1) (gw_V wk_405 wk_407 wp_21 wk_4 wk_408) rfl rfl 1 rfl (by decide +kernel) (by decide) ⟨Nat.le_refl _, Nat.le_refl _⟩ (fun _ _ _ h q => RdM.mv h q) hM.recv hM hl.1 (Nat.le_of_ble_eq_true rfl) dX3_canInsert_2)) (fun r hr => ?_)
  rcases hr with ⟨h_2, rfl⟩ | ⟨h_2, rfl⟩
  · refine lv_if_eq (tgt := 39) hx hb dX3_canInsert_5 (by decide) (fun c_5 => ?_) (fun c_5 => ?_)
    · exact absurd (show _ from c_5) (by decide)
    · refine lv_iload_n hx hb dX3_canInsert_8 rfl (lv_at hl 2 rfl) ?_
      refine lv_if_eq (tgt := 20) hx hb dX3_canInsert_9 (by decide) (fun c_9 => ?_) (fun c_9 => ?_)
      · refine lv_iload_n hx hb dX3_canInsert_20 rfl (lv_at hl 1 rfl) ?_
        refine lv_iload_n hx hb dX3_canInsert_21 rfl (lv_at hl 2 rfl) ?_
        refine lv_icmp_le (tgt := 39) hx hb dX3_canInsert_22 (by decide) (fun c_22 => ?_) (fun c_22 => ?_)
        · refine lv_iconst (v := 0) hx hb dX3_canInsert_39 (by decide) ?_
          exact W.zret (v := 0) hx hb hr rfl (fun t9 ht9 _ => ⟨_, rfl, Or.inr ⟨fun z => z.2.2.1 c_22, rfl⟩, ht9⟩) (fun _ h => nomatch h) dX3_canInsert_40
        · refine lv_aload_n hx hb dX3_canInsert_25 rfl (lv_at hl 0 rfl) ?_
          refine rM_many S hM dX3_canInsert_26 ?_
          refine lv_sipush (v := nI 512) hx hb dX3_canInsert_29 (by decide) ?_
          refine lv_icmp_ge (tgt := 39) hx hb dX3_canInsert_32 (by decide) (fun c_32 => ?_) (fun c_32 => ?_)
          · rw [nI_leI (by omega) (by omega)] at c_32
            refine lv_iconst (v := 0) hx hb dX3_canInsert_39 (by decide) ?_
            exact W.zret (v := 0) hx hb hr rfl (fun t9 ht9 _ => ⟨_, rfl, Or.inr ⟨fun z => absurd z.2.2.2 (by omega), rfl⟩, ht9⟩) (fun _ h => nomatch h) dX3_canInsert_40
          · rw [nI_leI (by omega) (by omega)] at c_32
            refine lv_iconst (v := 1) hx hb dX3_canInsert_35 (by decide) ?_
            refine lv_goto (tgt := 40) hx hb dX3_canInsert_36 (by decide) ?_
            exact W.zret (v := 1) hx hb hr rfl (fun t9 ht9 _ => ⟨_, rfl, Or.inl ⟨⟨h_2, Or.inl c_9, c_22, by omega⟩, rfl⟩, ht9⟩) (fun _ h => nomatch h) dX3_canInsert_40
      · refine lv_aload_n hx hb dX3_canInsert_12 rfl (lv_at hl 0 rfl) ?_
        refine lv_iload_n hx hb dX3_canInsert_13 rfl (lv_at hl 2 rfl) ?_
        refine vp_callSi (va_Run.run (runV (As := [.int v2]) (rest := []) (Bh := RdM D y a n d th A) S (c_X3_placeOf l v2) (gw_V wk_410 wk_412 wp_22 wk_4 wk_413) rfl rfl 1 rfl (by decide +kernel) (by decide) ⟨Nat.le_refl _, Nat.le_refl _⟩ (fun _ _ _ h q => RdM.mv h q) hM.recv hM hl.1 (Nat.le_of_ble_eq_true rfl) dX3_canInsert_14)) (fun r hr => ?_)
        rcases hr with ⟨k_14, hk_14, he_14, hf_14, rfl⟩ | ⟨hn_14, rfl⟩
        · refine lv_if_lt (tgt := 39) hx hb dX3_canInsert_17 (by decide) (fun c_17 => ?_) (fun c_17 => ?_)
          · exact absurd c_17 (nI_pos (by omega))
          · refine lv_iload_n hx hb dX3_canInsert_20 rfl (lv_at hl 1 rfl) ?_
            refine lv_iload_n hx hb dX3_canInsert_21 rfl (lv_at hl 2 rfl) ?_
            refine lv_icmp_le (tgt := 39) hx hb dX3_canInsert_22 (by decide) (fun c_22 => ?_) (fun c_22 => ?_)
            · refine lv_iconst (v := 0) hx hb dX3_canInsert_39 (by decide) ?_
              exact W.zret (v := 0) hx hb hr rfl (fun t9 ht9 _ => ⟨_, rfl, Or.inr ⟨fun z => z.2.2.1 c_22, rfl⟩, ht9⟩) (fun _ h => nomatch h) dX3_canInsert_40
            · refine lv_aload_n hx hb dX3_canInsert_25 rfl (lv_at hl 0 rfl) ?_
              refine rM_many S hM dX3_canInsert_26 ?_
              refine lv_sipush (v := nI 512) hx hb dX3_canInsert_29 (by decide) ?_
              refine lv_icmp_ge (tgt := 39) hx hb dX3_canInsert_32 (by decide) (fun c_32 => ?_) (fun c_32 => ?_)
              · rw [nI_leI (by omega) (by omega)] at c_32
                refine lv_iconst (v := 0) hx hb dX3_canInsert_39 (by decide) ?_
                exact W.zret (v := 0) hx hb hr rfl (fun t9 ht9 _ => ⟨_, rfl, Or.inr ⟨fun z => absurd z.2.2.2 (by omega), rfl⟩, ht9⟩) (fun _ h => nomatch h) dX3_canInsert_40
              · rw [nI_leI (by omega) (by omega)] at c_32
                refine lv_iconst (v := 1) hx hb dX3_canInsert_35 (by decide) ?_
                refine lv_goto (tgt := 40) hx hb dX3_canInsert_36 (by decide) ?_
                exact W.zret (v := 1) hx hb hr rfl (fun t9 ht9 _ => ⟨_, rfl, Or.inl ⟨⟨h_2, Or.inr ⟨_, hk_14, he_14⟩, c_22, by omega⟩, rfl⟩, ht9⟩) (fun _ h => nomatch h) dX3_canInsert_40
        · refine lv_if_lt (tgt := 39) hx hb dX3_canInsert_17 (by decide) (fun c_17 => ?_) (fun c_17 => ?_)
          · refine lv_iconst (v := 0) hx hb dX3_canInsert_39 (by decide) ?_
            exact W.zret (v := 0) hx hb hr rfl (fun t9 ht9 _ => ⟨_, rfl, Or.inr ⟨fun z => z.2.1.elim c_9 (fun ⟨k, h1, h2⟩ => hn_14 k h1 h2), rfl⟩, ht9⟩) (fun _ h => nomatch h) dX3_canInsert_40
          · exact absurd (show _ from c_17) (by decide)
  · refine lv_if_eq (tgt := 39) hx hb dX3_canInsert_5 (by decide) (fun c_5 => ?_) (fun c_5 => ?_)
    · refine lv_iconst (v := 0) hx hb dX3_canInsert_39 (by decide) ?_
      exact W.zret (v := 0) hx hb hr rfl (fun t9 ht9 _ => ⟨_, rfl, Or.inr ⟨fun z => h_2 z.1, rfl⟩, ht9⟩) (fun _ h => nomatch h) dX3_canInsert_40
    · exact absurd (show _ from c_5) (by decide)
set_option maxHeartbeats 4000000 in
set_option maxRecDepth 100000 in
theorem c_X3_isRemoved (l : Launch) {D : va_G} {y : Nat} {a : Nat → Nat} {n d : Nat} {th : Int32} {A : Nat → Nat → Int32} (v1 : Int32)  : Met l yX3_isRemoved (gws yX3_isRemoved cX3_isRemoved 4 (some .boolean)) { frames := 0, cells := 0, slots := 0, locals := 0 } (va_Pc [.ref y, .int v1] (fun U => RdM D y a n d th A U U.heap)) (vp_Si (fun r => (remB A v1 d = true ∧ r = 1) ∨ (remB A v1 d = false ∧ r = 0))) 0 0 (fun _ => False) := by
  refine met_go (by decide) (Nat.le_of_ble_eq_true rfl) ?_
  intro p e s m below meth c ls S hr hlocks hnm hM hl
  obtain ⟨hx, hb, hml, hown, hg⟩ := id S
  have hl : lv_has ls 4 [(0, .ref y), (1, .int v1)] := hl
  have hn := hM.n
  refine lv_iconst (v := 0) hx hb dX3_isRemoved_0 (by decide) ?_
  refine lv_istore_n (lv' := [(2, .int 0), (0, .ref y), (1, .int v1)]) hx hb dX3_isRemoved_1 rfl hl (by decide) rfl (fun ls hl => ?_)
  refine lv_iconst (v := nI 0) hx hb dX3_isRemoved_2 (by decide) ?_
  refine lv_istore_n (lv' := [(3, .int (nI 0)), (2, .int 0), (0, .ref y), (1, .int v1)]) hx hb dX3_isRemoved_3 rfl hl (by decide) rfl (fun ls hl => ?_)
  suffices hloop : ∀ (fuel : Nat) (k : Nat) (q : Int32), k ≤ d → d - k < fuel → ((remB A v1 k = true ∧ q = 1) ∨ (remB A v1 k = false ∧ q = 0)) → ∀ ls : Array Slot, lv_has ls 4 [(3, .int (nI k)), (2, .int q), (0, .ref y), (1, .int v1)] → W p l e { frames := 0, cells := 0, slots := 0, locals := 0 } s m [.ref y, .int v1].toArray below meth c s.heap [] 0 0 (MQ below (vp_Si (fun r => (remB A v1 d = true ∧ r = 1) ∨ (remB A v1 d = false ∧ r = 0))) [.ref y, .int v1].toArray s 0 0 (fun _ => False)) (F0 m 4 ls []) from hloop (d + 1) 0 0 (by omega) (by omega) (Or.inr ⟨rfl, rfl⟩)  ls (lv_sub hl [0, 1, 2, 3] rfl)
  intro fuel
  induction fuel with
  | zero => intro k q hk hf hI; omega
  | succ fuel ih =>
    intro k q hk hf hI  ls hl
    rcases hI with ⟨hI, rfl⟩ | ⟨hI, rfl⟩
    · refine lv_iload_n hx hb dX3_isRemoved_4 rfl (lv_at hl 0 rfl) ?_
      refine lv_aload_n hx hb dX3_isRemoved_5 rfl (lv_at hl 2 rfl) ?_
      refine rM_done S hM dX3_isRemoved_6 ?_
      refine lv_icmp_ge (tgt := 47) hx hb dX3_isRemoved_9 (by decide) (fun c_9 => ?_) (fun c_9 => ?_)
      · rw [nI_leI (by omega) (by omega)] at c_9
        refine lv_iload_n hx hb dX3_isRemoved_47 rfl (lv_at hl 1 rfl) ?_
        exact W.zret (v := 1) hx hb hr rfl (fun t9 ht9 _ => ⟨_, rfl, Or.inl ⟨by rw [show d = k by omega]; exact hI, rfl⟩, ht9⟩) (fun _ h => nomatch h) dX3_isRemoved_48
      · rw [nI_leI (by omega) (by omega)] at c_9
        refine lv_iload_n hx hb dX3_isRemoved_12 rfl (lv_at hl 1 rfl) ?_
        refine lv_if_ne (tgt := 35) hx hb dX3_isRemoved_13 (by decide) (fun c_13 => ?_) (fun c_13 => ?_)
        · refine lv_iconst (v := 1) hx hb dX3_isRemoved_35 (by decide) ?_
          refine lv_goto (tgt := 40) hx hb dX3_isRemoved_36 (by decide) ?_
          refine lv_istore_n (lv' := [(2, .int 1), (3, .int (nI k)), (0, .ref y), (1, .int v1)]) hx hb dX3_isRemoved_40 rfl hl (by decide) rfl (fun ls hl => ?_)
          refine lv_iinc (v := nI (k + 1)) (lv' := [(3, .int (nI (k + 1))), (2, .int 1), (0, .ref y), (1, .int v1)]) hx hb dX3_isRemoved_41 hl (k := 1) rfl (nI_1 _) (by decide) rfl (fun ls hl => ?_)
          refine lv_goto (tgt := 4) hx hb dX3_isRemoved_44 (by decide) ?_
          exact ih (k + 1) _ (by omega) (by omega) (Or.inl ⟨remB_y hI, rfl⟩)  ls (lv_sub hl [0, 1, 2, 3] rfl)
        · exact absurd (show _ from c_13) (by decide)
    · refine lv_iload_n hx hb dX3_isRemoved_4 rfl (lv_at hl 0 rfl) ?_
      refine lv_aload_n hx hb dX3_isRemoved_5 rfl (lv_at hl 2 rfl) ?_
      refine rM_done S hM dX3_isRemoved_6 ?_
      refine lv_icmp_ge (tgt := 47) hx hb dX3_isRemoved_9 (by decide) (fun c_9 => ?_) (fun c_9 => ?_)
      · rw [nI_leI (by omega) (by omega)] at c_9
        refine lv_iload_n hx hb dX3_isRemoved_47 rfl (lv_at hl 1 rfl) ?_
        exact W.zret (v := 0) hx hb hr rfl (fun t9 ht9 _ => ⟨_, rfl, Or.inr ⟨by rw [show d = k by omega]; exact hI, rfl⟩, ht9⟩) (fun _ h => nomatch h) dX3_isRemoved_48
      · rw [nI_leI (by omega) (by omega)] at c_9
        refine lv_iload_n hx hb dX3_isRemoved_12 rfl (lv_at hl 1 rfl) ?_
        refine lv_if_ne (tgt := 35) hx hb dX3_isRemoved_13 (by decide) (fun c_13 => ?_) (fun c_13 => ?_)
        · exact absurd (show _ from c_13) (by decide)
        · refine lv_aload_n hx hb dX3_isRemoved_16 rfl (lv_at hl 2 rfl) ?_
          refine rM_doneOf S hM dX3_isRemoved_17 ?_
          refine lv_iload_n hx hb dX3_isRemoved_20 rfl (lv_at hl 0 rfl) ?_
          refine rM_ald S hM 5 (by decide) (by show _ < 1024; omega) dX3_isRemoved_21 ?_
          refine lv_iload_n hx hb dX3_isRemoved_22 rfl (lv_at hl 3 rfl) ?_
          refine lv_icmp_ne (tgt := 39) hx hb dX3_isRemoved_23 (by decide) (fun c_23 => ?_) (fun c_23 => ?_)
          · refine lv_iconst (v := 0) hx hb dX3_isRemoved_39 (by decide) ?_
            refine lv_istore_n (lv' := [(2, .int 0), (3, .int (nI k)), (0, .ref y), (1, .int v1)]) hx hb dX3_isRemoved_40 rfl hl (by decide) rfl (fun ls hl => ?_)
            refine lv_iinc (v := nI (k + 1)) (lv' := [(3, .int (nI (k + 1))), (2, .int 0), (0, .ref y), (1, .int v1)]) hx hb dX3_isRemoved_41 hl (k := 1) rfl (nI_1 _) (by decide) rfl (fun ls hl => ?_)
            refine lv_goto (tgt := 4) hx hb dX3_isRemoved_44 (by decide) ?_
            exact ih (k + 1) _ (by omega) (by omega) (Or.inr ⟨remB_n hI (fun z => c_23 z.1), rfl⟩)  ls (lv_sub hl [0, 1, 2, 3] rfl)
          · refine lv_aload_n hx hb dX3_isRemoved_26 rfl (lv_at hl 2 rfl) ?_
            refine rM_doneKinds S hM dX3_isRemoved_27 ?_
            refine lv_iload_n hx hb dX3_isRemoved_30 rfl (lv_at hl 0 rfl) ?_
            refine rM_ald S hM 6 (by decide) (by show _ < 1024; omega) dX3_isRemoved_31 ?_
            refine lv_if_ge (tgt := 39) hx hb dX3_isRemoved_32 (by decide) (fun c_32 => ?_) (fun c_32 => ?_)
            · refine lv_iconst (v := 0) hx hb dX3_isRemoved_39 (by decide) ?_
              refine lv_istore_n (lv' := [(2, .int 0), (3, .int (nI k)), (0, .ref y), (1, .int v1)]) hx hb dX3_isRemoved_40 rfl hl (by decide) rfl (fun ls hl => ?_)
              refine lv_iinc (v := nI (k + 1)) (lv' := [(3, .int (nI (k + 1))), (2, .int 0), (0, .ref y), (1, .int v1)]) hx hb dX3_isRemoved_41 hl (k := 1) rfl (nI_1 _) (by decide) rfl (fun ls hl => ?_)
              refine lv_goto (tgt := 4) hx hb dX3_isRemoved_44 (by decide) ?_
              exact ih (k + 1) _ (by omega) (by omega) (Or.inr ⟨remB_n hI (fun z => absurd z.2 (i32_nlt.mpr c_32)), rfl⟩)  ls (lv_sub hl [0, 1, 2, 3] rfl)
            · refine lv_iconst (v := 1) hx hb dX3_isRemoved_35 (by decide) ?_
              refine lv_goto (tgt := 40) hx hb dX3_isRemoved_36 (by decide) ?_
              refine lv_istore_n (lv' := [(2, .int 1), (3, .int (nI k)), (0, .ref y), (1, .int v1)]) hx hb dX3_isRemoved_40 rfl hl (by decide) rfl (fun ls hl => ?_)
              refine lv_iinc (v := nI (k + 1)) (lv' := [(3, .int (nI (k + 1))), (2, .int 1), (0, .ref y), (1, .int v1)]) hx hb dX3_isRemoved_41 hl (k := 1) rfl (nI_1 _) (by decide) rfl (fun ls hl => ?_)
              refine lv_goto (tgt := 4) hx hb dX3_isRemoved_44 (by decide) ?_
              exact ih (k + 1) _ (by omega) (by omega) (Or.inl ⟨remB_s c_23 (i32_nle.mp c_32), rfl⟩)  ls (lv_sub hl [0, 1, 2, 3] rfl)
set_option maxHeartbeats 4000000 in
set_option maxRecDepth 100000 in
theorem c_X3_standing (l : Launch) {D : va_G} {y : Nat} {a : Nat → Nat} {n d : Nat} {th : Int32} {A : Nat → Nat → Int32} (v1 : Int32)  : Met l yX3_standing (gws yX3_standing cX3_standing 5 (some .int)) { frames := 0, cells := 0, slots := 0, locals := 0 } (va_Pc [.ref y, .int v1] (fun U => RdM D y a n d th A U U.heap)) (vp_Si (fun r => StM A d v1 r)) 0 0 (fun _ => False) := by
  refine met_go (by decide) (Nat.le_of_ble_eq_true rfl) ?_
  intro p e s m below meth c ls S hr hlocks hnm hM hl
  obtain ⟨hx, hb, hml, hown, hg⟩ := id S
  have hl : lv_has ls 5 [(0, .ref y), (1, .int v1)] := hl
  have hn := hM.n
  refine lv_iconst (v := (-1)) hx hb dX3_standing_0 (by decide) ?_
  refine lv_istore_n (lv' := [(2, .int (-1)), (0, .ref y), (1, .int v1)]) hx hb dX3_standing_1 rfl hl (by decide) rfl (fun ls hl => ?_)
  refine lv_iconst (v := nI 0) hx hb dX3_standing_2 (by decide) ?_
  refine lv_istore_n (lv' := [(3, .int (nI 0)), (2, .int (-1)), (0, .ref y), (1, .int v1)]) hx hb dX3_standing_3 rfl hl (by decide) rfl (fun ls hl => ?_)
  suffices hloop : ∀ (fuel : Nat) (k : Nat) (q : Int32), k ≤ d → d - k < fuel → StM A k v1 q → ∀ ls : Array Slot, lv_has ls 5 [(3, .int (nI k)), (2, .int q), (0, .ref y), (1, .int v1)] → W p l e { frames := 0, cells := 0, slots := 0, locals := 0 } s m [.ref y, .int v1].toArray below meth c s.heap [] 0 0 (MQ below (vp_Si (fun r => StM A d v1 r)) [.ref y, .int v1].toArray s 0 0 (fun _ => False)) (F0 m 4 ls []) from hloop (d + 1) 0 (-1) (by omega) (by omega) (Or.inr ⟨(fun _ h => absurd h (Nat.not_lt_zero _)), rfl⟩)  ls (lv_sub hl [0, 1, 2, 3] rfl)
  intro fuel
  induction fuel with
  | zero => intro k q hk hf hI; omega
  | succ fuel ih =>
    intro k q hk hf hI  ls hl
    rcases hI with ⟨j, hj, hs, hm, rfl⟩ | ⟨hno, rfl⟩
    · refine lv_iload_n hx hb dX3_standing_4 rfl (lv_at hl 0 rfl) ?_
      refine lv_aload_n hx hb dX3_standing_5 rfl (lv_at hl 2 rfl) ?_
      refine rM_done S hM dX3_standing_6 ?_
      refine lv_icmp_ge (tgt := 82) hx hb dX3_standing_9 (by decide) (fun c_9 => ?_) (fun c_9 => ?_)
      · rw [nI_leI (by omega) (by omega)] at c_9
        refine lv_iload_n hx hb dX3_standing_82 rfl (lv_at hl 1 rfl) ?_
        exact W.iret (v := (nI j)) hx hb hr (fun t9 ht9 _ => ⟨_, rfl, by rw [show d = k by omega]; exact Or.inl ⟨j, hj, hs, hm, rfl⟩, ht9⟩) (fun _ h => nomatch h) dX3_standing_83
      · rw [nI_leI (by omega) (by omega)] at c_9
        refine lv_aload_n hx hb dX3_standing_12 rfl (lv_at hl 2 rfl) ?_
        refine rM_doneOf S hM dX3_standing_13 ?_
        refine lv_iload_n hx hb dX3_standing_16 rfl (lv_at hl 0 rfl) ?_
        refine rM_ald S hM 5 (by decide) (by show _ < 1024; omega) dX3_standing_17 ?_
        refine lv_iload_n hx hb dX3_standing_18 rfl (lv_at hl 3 rfl) ?_
        refine lv_icmp_ne (tgt := 35) hx hb dX3_standing_19 (by decide) (fun c_19 => ?_) (fun c_19 => ?_)
        · refine lv_iconst (v := 0) hx hb dX3_standing_35 (by decide) ?_
          refine lv_istore (lv' := [(4, .int 0), (3, .int (nI k)), (2, .int (nI j)), (0, .ref y), (1, .int v1)]) hx hb dX3_standing_36 hl (by decide) rfl (fun ls hl => ?_)
          refine lv_iload hx hb dX3_standing_38 (lv_at hl 0 rfl) ?_
          refine lv_if_eq (tgt := 74) hx hb dX3_standing_40 (by decide) (fun c_40 => ?_) (fun c_40 => ?_)
          · refine lv_iload_n hx hb dX3_standing_74 rfl (lv_at hl 2 rfl) ?_
            refine lv_istore_n (lv' := [(2, .int (nI j)), (4, .int 0), (3, .int (nI k)), (0, .ref y), (1, .int v1)]) hx hb dX3_standing_75 rfl hl (by decide) rfl (fun ls hl => ?_)
            refine lv_iinc (v := nI (k + 1)) (lv' := [(3, .int (nI (k + 1))), (2, .int (nI j)), (4, .int 0), (0, .ref y), (1, .int v1)]) hx hb dX3_standing_76 hl (k := 2) rfl (nI_1 _) (by decide) rfl (fun ls hl => ?_)
            refine lv_goto (tgt := 4) hx hb dX3_standing_79 (by decide) ?_
            exact ih (k + 1) _ (by omega) (by omega) (StM_n (fun z => c_19 z.1) (Or.inl ⟨j, hj, hs, hm, rfl⟩))  ls (lv_sub hl [0, 1, 3, 4] rfl)
          · exact absurd (show _ from c_40) (by decide)
        · refine lv_aload_n hx hb dX3_standing_22 rfl (lv_at hl 2 rfl) ?_
          refine rM_doneKinds S hM dX3_standing_23 ?_
          refine lv_iload_n hx hb dX3_standing_26 rfl (lv_at hl 0 rfl) ?_
          refine rM_ald S hM 6 (by decide) (by show _ < 1024; omega) dX3_standing_27 ?_
          refine lv_if_lt (tgt := 35) hx hb dX3_standing_28 (by decide) (fun c_28 => ?_) (fun c_28 => ?_)
          · refine lv_iconst (v := 0) hx hb dX3_standing_35 (by decide) ?_
            refine lv_istore (lv' := [(4, .int 0), (3, .int (nI k)), (2, .int (nI j)), (0, .ref y), (1, .int v1)]) hx hb dX3_standing_36 hl (by decide) rfl (fun ls hl => ?_)
            refine lv_iload hx hb dX3_standing_38 (lv_at hl 0 rfl) ?_
            refine lv_if_eq (tgt := 74) hx hb dX3_standing_40 (by decide) (fun c_40 => ?_) (fun c_40 => ?_)
            · refine lv_iload_n hx hb dX3_standing_74 rfl (lv_at hl 2 rfl) ?_
              refine lv_istore_n (lv' := [(2, .int (nI j)), (4, .int 0), (3, .int (nI k)), (0, .ref y), (1, .int v1)]) hx hb dX3_standing_75 rfl hl (by decide) rfl (fun ls hl => ?_)
              refine lv_iinc (v := nI (k + 1)) (lv' := [(3, .int (nI (k + 1))), (2, .int (nI j)), (4, .int 0), (0, .ref y), (1, .int v1)]) hx hb dX3_standing_76 hl (k := 2) rfl (nI_1 _) (by decide) rfl (fun ls hl => ?_)
              refine lv_goto (tgt := 4) hx hb dX3_standing_79 (by decide) ?_
              exact ih (k + 1) _ (by omega) (by omega) (StM_n (fun z => z.2 c_28) (Or.inl ⟨j, hj, hs, hm, rfl⟩))  ls (lv_sub hl [0, 1, 3, 4] rfl)
            · exact absurd (show _ from c_40) (by decide)
          · refine lv_iconst (v := 1) hx hb dX3_standing_31 (by decide) ?_
            refine lv_goto (tgt := 36) hx hb dX3_standing_32 (by decide) ?_
            refine lv_istore (lv' := [(4, .int 1), (3, .int (nI k)), (2, .int (nI j)), (0, .ref y), (1, .int v1)]) hx hb dX3_standing_36 hl (by decide) rfl (fun ls hl => ?_)
            refine lv_iload hx hb dX3_standing_38 (lv_at hl 0 rfl) ?_
            refine lv_if_eq (tgt := 74) hx hb dX3_standing_40 (by decide) (fun c_40 => ?_) (fun c_40 => ?_)
            · exact absurd (show _ from c_40) (by decide)
            · refine lv_iload_n hx hb dX3_standing_43 rfl (lv_at hl 2 rfl) ?_
              refine lv_if_lt (tgt := 70) hx hb dX3_standing_44 (by decide) (fun c_44 => ?_) (fun c_44 => ?_)
              · exact absurd c_44 (nI_pos (by omega))
              · refine lv_aload_n hx hb dX3_standing_47 rfl (lv_at hl 3 rfl) ?_
                refine rM_doneIds S hM dX3_standing_48 ?_
                refine lv_iload_n hx hb dX3_standing_51 rfl (lv_at hl 1 rfl) ?_
                refine rM_ald S hM 4 (by decide) (by show _ < 1024; omega) dX3_standing_52 ?_
                refine lv_aload_n hx hb dX3_standing_53 rfl (lv_at hl 3 rfl) ?_
                refine rM_doneIds S hM dX3_standing_54 ?_
                refine lv_iload_n hx hb dX3_standing_57 rfl (lv_at hl 2 rfl) ?_
                refine lv_if_ge (tgt := 65) hx hb dX3_standing_58 (by decide) (fun c_58 => ?_) (fun c_58 => ?_)
                · refine lv_iload_n hx hb dX3_standing_65 rfl (lv_at hl 2 rfl) ?_
                  refine rM_ald S hM 4 (by decide) (by show _ < 1024; omega) dX3_standing_66 ?_
                  refine lv_icmp_le (tgt := 74) hx hb dX3_standing_67 (by decide) (fun c_67 => ?_) (fun c_67 => ?_)
                  · refine lv_iload_n hx hb dX3_standing_74 rfl (lv_at hl 2 rfl) ?_
                    refine lv_istore_n (lv' := [(2, .int (nI j)), (4, .int 1), (3, .int (nI k)), (0, .ref y), (1, .int v1)]) hx hb dX3_standing_75 rfl hl (by decide) rfl (fun ls hl => ?_)
                    refine lv_iinc (v := nI (k + 1)) (lv' := [(3, .int (nI (k + 1))), (2, .int (nI j)), (4, .int 1), (0, .ref y), (1, .int v1)]) hx hb dX3_standing_76 hl (k := 2) rfl (nI_1 _) (by decide) rfl (fun ls hl => ?_)
                    refine lv_goto (tgt := 4) hx hb dX3_standing_79 (by decide) ?_
                    exact ih (k + 1) _ (by omega) (by omega) (StM_l hj hs hm (i32_nlt.mpr c_67))  ls (lv_sub hl [0, 1, 3, 4] rfl)
                  · refine lv_iload_n hx hb dX3_standing_70 rfl (lv_at hl 1 rfl) ?_
                    refine lv_goto (tgt := 75) hx hb dX3_standing_71 (by decide) ?_
                    refine lv_istore_n (lv' := [(2, .int (nI k)), (4, .int 1), (3, .int (nI k)), (0, .ref y), (1, .int v1)]) hx hb dX3_standing_75 rfl hl (by decide) rfl (fun ls hl => ?_)
                    refine lv_iinc (v := nI (k + 1)) (lv' := [(3, .int (nI (k + 1))), (2, .int (nI k)), (4, .int 1), (0, .ref y), (1, .int v1)]) hx hb dX3_standing_76 hl (k := 2) rfl (nI_1 _) (by decide) rfl (fun ls hl => ?_)
                    refine lv_goto (tgt := 4) hx hb dX3_standing_79 (by decide) ?_
                    exact ih (k + 1) _ (by omega) (by omega) (StM_g ⟨c_19, c_28⟩ hm (i32_nle.mp c_67))  ls (lv_sub hl [0, 1, 3, 4] rfl)
                · exact absurd (nI_pos' (by omega)) c_58
    · refine lv_iload_n hx hb dX3_standing_4 rfl (lv_at hl 0 rfl) ?_
      refine lv_aload_n hx hb dX3_standing_5 rfl (lv_at hl 2 rfl) ?_
      refine rM_done S hM dX3_standing_6 ?_
      refine lv_icmp_ge (tgt := 82) hx hb dX3_standing_9 (by decide) (fun c_9 => ?_) (fun c_9 => ?_)
      · rw [nI_leI (by omega) (by omega)] at c_9
        refine lv_iload_n hx hb dX3_standing_82 rfl (lv_at hl 1 rfl) ?_
        exact W.iret (v := (-1)) hx hb hr (fun t9 ht9 _ => ⟨_, rfl, by rw [show d = k by omega]; exact Or.inr ⟨hno, rfl⟩, ht9⟩) (fun _ h => nomatch h) dX3_standing_83
      · rw [nI_leI (by omega) (by omega)] at c_9
        refine lv_aload_n hx hb dX3_standing_12 rfl (lv_at hl 2 rfl) ?_
        refine rM_doneOf S hM dX3_standing_13 ?_
        refine lv_iload_n hx hb dX3_standing_16 rfl (lv_at hl 0 rfl) ?_
        refine rM_ald S hM 5 (by decide) (by show _ < 1024; omega) dX3_standing_17 ?_
        refine lv_iload_n hx hb dX3_standing_18 rfl (lv_at hl 3 rfl) ?_
        refine lv_icmp_ne (tgt := 35) hx hb dX3_standing_19 (by decide) (fun c_19 => ?_) (fun c_19 => ?_)
        · refine lv_iconst (v := 0) hx hb dX3_standing_35 (by decide) ?_
          refine lv_istore (lv' := [(4, .int 0), (3, .int (nI k)), (2, .int (-1)), (0, .ref y), (1, .int v1)]) hx hb dX3_standing_36 hl (by decide) rfl (fun ls hl => ?_)
          refine lv_iload hx hb dX3_standing_38 (lv_at hl 0 rfl) ?_
          refine lv_if_eq (tgt := 74) hx hb dX3_standing_40 (by decide) (fun c_40 => ?_) (fun c_40 => ?_)
          · refine lv_iload_n hx hb dX3_standing_74 rfl (lv_at hl 2 rfl) ?_
            refine lv_istore_n (lv' := [(2, .int (-1)), (4, .int 0), (3, .int (nI k)), (0, .ref y), (1, .int v1)]) hx hb dX3_standing_75 rfl hl (by decide) rfl (fun ls hl => ?_)
            refine lv_iinc (v := nI (k + 1)) (lv' := [(3, .int (nI (k + 1))), (2, .int (-1)), (4, .int 0), (0, .ref y), (1, .int v1)]) hx hb dX3_standing_76 hl (k := 2) rfl (nI_1 _) (by decide) rfl (fun ls hl => ?_)
            refine lv_goto (tgt := 4) hx hb dX3_standing_79 (by decide) ?_
            exact ih (k + 1) _ (by omega) (by omega) (StM_n (fun z => c_19 z.1) (Or.inr ⟨hno, rfl⟩))  ls (lv_sub hl [0, 1, 3, 4] rfl)
          · exact absurd (show _ from c_40) (by decide)
        · refine lv_aload_n hx hb dX3_standing_22 rfl (lv_at hl 2 rfl) ?_
          refine rM_doneKinds S hM dX3_standing_23 ?_
          refine lv_iload_n hx hb dX3_standing_26 rfl (lv_at hl 0 rfl) ?_
          refine rM_ald S hM 6 (by decide) (by show _ < 1024; omega) dX3_standing_27 ?_
          refine lv_if_lt (tgt := 35) hx hb dX3_standing_28 (by decide) (fun c_28 => ?_) (fun c_28 => ?_)
          · refine lv_iconst (v := 0) hx hb dX3_standing_35 (by decide) ?_
            refine lv_istore (lv' := [(4, .int 0), (3, .int (nI k)), (2, .int (-1)), (0, .ref y), (1, .int v1)]) hx hb dX3_standing_36 hl (by decide) rfl (fun ls hl => ?_)
            refine lv_iload hx hb dX3_standing_38 (lv_at hl 0 rfl) ?_
            refine lv_if_eq (tgt := 74) hx hb dX3_standing_40 (by decide) (fun c_40 => ?_) (fun c_40 => ?_)
            · refine lv_iload_n hx hb dX3_standing_74 rfl (lv_at hl 2 rfl) ?_
              refine lv_istore_n (lv' := [(2, .int (-1)), (4, .int 0), (3, .int (nI k)), (0, .ref y), (1, .int v1)]) hx hb dX3_standing_75 rfl hl (by decide) rfl (fun ls hl => ?_)
              refine lv_iinc (v := nI (k + 1)) (lv' := [(3, .int (nI (k + 1))), (2, .int (-1)), (4, .int 0), (0, .ref y), (1, .int v1)]) hx hb dX3_standing_76 hl (k := 2) rfl (nI_1 _) (by decide) rfl (fun ls hl => ?_)
              refine lv_goto (tgt := 4) hx hb dX3_standing_79 (by decide) ?_
              exact ih (k + 1) _ (by omega) (by omega) (StM_n (fun z => z.2 c_28) (Or.inr ⟨hno, rfl⟩))  ls (lv_sub hl [0, 1, 3, 4] rfl)
            · exact absurd (show _ from c_40) (by decide)
          · refine lv_iconst (v := 1) hx hb dX3_standing_31 (by decide) ?_
            refine lv_goto (tgt := 36) hx hb dX3_standing_32 (by decide) ?_
            refine lv_istore (lv' := [(4, .int 1), (3, .int (nI k)), (2, .int (-1)), (0, .ref y), (1, .int v1)]) hx hb dX3_standing_36 hl (by decide) rfl (fun ls hl => ?_)
            refine lv_iload hx hb dX3_standing_38 (lv_at hl 0 rfl) ?_
            refine lv_if_eq (tgt := 74) hx hb dX3_standing_40 (by decide) (fun c_40 => ?_) (fun c_40 => ?_)
            · exact absurd (show _ from c_40) (by decide)
            · refine lv_iload_n hx hb dX3_standing_43 rfl (lv_at hl 2 rfl) ?_
              refine lv_if_lt (tgt := 70) hx hb dX3_standing_44 (by decide) (fun c_44 => ?_) (fun c_44 => ?_)
              · refine lv_iload_n hx hb dX3_standing_70 rfl (lv_at hl 1 rfl) ?_
                refine lv_goto (tgt := 75) hx hb dX3_standing_71 (by decide) ?_
                refine lv_istore_n (lv' := [(2, .int (nI k)), (4, .int 1), (3, .int (nI k)), (0, .ref y), (1, .int v1)]) hx hb dX3_standing_75 rfl hl (by decide) rfl (fun ls hl => ?_)
                refine lv_iinc (v := nI (k + 1)) (lv' := [(3, .int (nI (k + 1))), (2, .int (nI k)), (4, .int 1), (0, .ref y), (1, .int v1)]) hx hb dX3_standing_76 hl (k := 2) rfl (nI_1 _) (by decide) rfl (fun ls hl => ?_)
                refine lv_goto (tgt := 4) hx hb dX3_standing_79 (by decide) ?_
                exact ih (k + 1) _ (by omega) (by omega) (StM_f ⟨c_19, c_28⟩ hno)  ls (lv_sub hl [0, 1, 3, 4] rfl)
              · exact absurd (show _ from c_44) (by decide)
set_option maxHeartbeats 4000000 in
set_option maxRecDepth 100000 in
theorem c_X3_kindOf (l : Launch) {D : va_G} {y : Nat} {a : Nat → Nat} {n d : Nat} {th : Int32} {A : Nat → Nat → Int32} (v1 : Int32) (hv : ∃ k, k < n ∧ A 0 k = v1) : Met l yX3_kindOf (gws yX3_kindOf cX3_kindOf 3 (some .int)) { frames := 1, cells := 0, slots := 0, locals := 24 } (va_Pc [.ref y, .int v1] (fun U => RdM D y a n d th A U U.heap)) (vp_Si (fun r => OfM A n d v1 2 6 r)) 0 0 (fun _ => False) := by
  refine met_go (by decide) (Nat.le_of_ble_eq_true rfl) ?_
  intro p e s m below meth c ls S hr hlocks hnm hM hl
  obtain ⟨hx, hb, hml, hown, hg⟩ := id S
  have hl : lv_has ls 3 [(0, .ref y), (1, .int v1)] := hl
  have hn := hM.n
  refine lv_aload_n hx hb dX3_kindOf_0 rfl (lv_at hl 0 rfl) ?_
  refine lv_iload_n hx hb dX3_kindOf_1 rfl (lv_at hl 1 rfl) ?_
  refine vp_callSi (va_Run.run (runV (As := [.int v1]) (rest := []) (Bh := RdM D y a n d th A) S (c_X3_standing l v1) (gw_V wk_470 wk_472 wp_31 wk_4 wk_473) rfl rfl 1 rfl (by decide +kernel) (by decide) ⟨Nat.le_refl _, Nat.le_refl _⟩ (fun _ _ _ h q => RdM.mv h q) hM.recv hM hl.1 (Nat.le_of_ble_eq_true rfl) dX3_kindOf_2)) (fun r hr => ?_)
  rcases hr with ⟨j_2, hj_2, hs_2, hm_2, rfl⟩ | ⟨hno_2, rfl⟩
  · refine lv_istore_n (lv' := [(2, .int (nI j_2)), (0, .ref y), (1, .int v1)]) hx hb dX3_kindOf_5 rfl hl (by decide) rfl (fun ls hl => ?_)
    refine lv_iload_n hx hb dX3_kindOf_6 rfl (lv_at hl 0 rfl) ?_
    refine lv_if_ge (tgt := 23) hx hb dX3_kindOf_7 (by decide) (fun c_7 => ?_) (fun c_7 => ?_)
    · refine lv_aload_n hx hb dX3_kindOf_23 rfl (lv_at hl 1 rfl) ?_
      refine rM_doneKinds S hM dX3_kindOf_24 ?_
      refine lv_iload_n hx hb dX3_kindOf_27 rfl (lv_at hl 0 rfl) ?_
      refine rM_ald S hM 6 (by decide) (by show _ < 1024; omega) dX3_kindOf_28 ?_
      exact W.iret (v := (A 6 j_2)) hx hb hr (fun t9 ht9 _ => ⟨_, rfl, Or.inl ⟨j_2, hj_2, hs_2, hm_2, rfl⟩, ht9⟩) (fun _ h => nomatch h) dX3_kindOf_29
    · exact absurd (nI_pos' (by omega)) c_7
  · refine lv_istore_n (lv' := [(2, .int (-1)), (0, .ref y), (1, .int v1)]) hx hb dX3_kindOf_5 rfl hl (by decide) rfl (fun ls hl => ?_)
    refine lv_iload_n hx hb dX3_kindOf_6 rfl (lv_at hl 0 rfl) ?_
    refine lv_if_ge (tgt := 23) hx hb dX3_kindOf_7 (by decide) (fun c_7 => ?_) (fun c_7 => ?_)
    · exact absurd (show _ from c_7) (by decide)
    · refine lv_aload_n hx hb dX3_kindOf_10 rfl (lv_at hl 1 rfl) ?_
      refine rM_kinds S hM dX3_kindOf_11 ?_
      refine lv_aload_n hx hb dX3_kindOf_14 rfl (lv_at hl 1 rfl) ?_
      refine lv_iload_n hx hb dX3_kindOf_15 rfl (lv_at hl 2 rfl) ?_
      refine vp_callSi (va_Run.run (runV (As := [.int v1]) (rest := [.ref (a 2)]) (Bh := RdM D y a n d th A) S (c_X3_placeOf l v1) (gw_V wk_410 wk_412 wp_22 wk_4 wk_413) rfl rfl 1 rfl (by decide +kernel) (by decide) ⟨Nat.le_refl _, Nat.le_refl _⟩ (fun _ _ _ h q => RdM.mv h q) hM.recv hM hl.1 (Nat.le_of_ble_eq_true rfl) dX3_kindOf_16)) (fun r hr => ?_)
      rcases hr with ⟨k_16, hk_16, he_16, hf_16, rfl⟩ | ⟨hn_16, rfl⟩
      · refine rM_ald S hM 2 (by decide) (by show _ < 512; omega) dX3_kindOf_19 ?_
        refine lv_goto (tgt := 29) hx hb dX3_kindOf_20 (by decide) ?_
        exact W.iret (v := (A 2 k_16)) hx hb hr (fun t9 ht9 _ => ⟨_, rfl, Or.inr ⟨hno_2, k_16, hk_16, he_16, rfl⟩, ht9⟩) (fun _ h => nomatch h) dX3_kindOf_29
      · obtain ⟨k9, hk9, he9⟩ := hv
        exact absurd he9 (hn_16 k9 hk9)
set_option maxHeartbeats 4000000 in
set_option maxRecDepth 100000 in
theorem c_X3_valueOf (l : Launch) {D : va_G} {y : Nat} {a : Nat → Nat} {n d : Nat} {th : Int32} {A : Nat → Nat → Int32} (v1 : Int32) (hv : ∃ k, k < n ∧ A 0 k = v1) : Met l yX3_valueOf (gws yX3_valueOf cX3_valueOf 3 (some .int)) { frames := 1, cells := 0, slots := 0, locals := 24 } (va_Pc [.ref y, .int v1] (fun U => RdM D y a n d th A U U.heap)) (vp_Si (fun r => OfM A n d v1 3 7 r)) 0 0 (fun _ => False) := by
  refine met_go (by decide) (Nat.le_of_ble_eq_true rfl) ?_
  intro p e s m below meth c ls S hr hlocks hnm hM hl
  obtain ⟨hx, hb, hml, hown, hg⟩ := id S
  have hl : lv_has ls 3 [(0, .ref y), (1, .int v1)] := hl
  have hn := hM.n
  refine lv_aload_n hx hb dX3_valueOf_0 rfl (lv_at hl 0 rfl) ?_
  refine lv_iload_n hx hb dX3_valueOf_1 rfl (lv_at hl 1 rfl) ?_
  refine vp_callSi (va_Run.run (runV (As := [.int v1]) (rest := []) (Bh := RdM D y a n d th A) S (c_X3_standing l v1) (gw_V wk_470 wk_472 wp_31 wk_4 wk_473) rfl rfl 1 rfl (by decide +kernel) (by decide) ⟨Nat.le_refl _, Nat.le_refl _⟩ (fun _ _ _ h q => RdM.mv h q) hM.recv hM hl.1 (Nat.le_of_ble_eq_true rfl) dX3_valueOf_2)) (fun r hr => ?_)
  rcases hr with ⟨j_2, hj_2, hs_2, hm_2, rfl⟩ | ⟨hno_2, rfl⟩
  · refine lv_istore_n (lv' := [(2, .int (nI j_2)), (0, .ref y), (1, .int v1)]) hx hb dX3_valueOf_5 rfl hl (by decide) rfl (fun ls hl => ?_)
    refine lv_iload_n hx hb dX3_valueOf_6 rfl (lv_at hl 0 rfl) ?_
    refine lv_if_ge (tgt := 23) hx hb dX3_valueOf_7 (by decide) (fun c_7 => ?_) (fun c_7 => ?_)
    · refine lv_aload_n hx hb dX3_valueOf_23 rfl (lv_at hl 1 rfl) ?_
      refine rM_doneValues S hM dX3_valueOf_24 ?_
      refine lv_iload_n hx hb dX3_valueOf_27 rfl (lv_at hl 0 rfl) ?_
      refine rM_ald S hM 7 (by decide) (by show _ < 1024; omega) dX3_valueOf_28 ?_
      exact W.iret (v := (A 7 j_2)) hx hb hr (fun t9 ht9 _ => ⟨_, rfl, Or.inl ⟨j_2, hj_2, hs_2, hm_2, rfl⟩, ht9⟩) (fun _ h => nomatch h) dX3_valueOf_29
    · exact absurd (nI_pos' (by omega)) c_7
  · refine lv_istore_n (lv' := [(2, .int (-1)), (0, .ref y), (1, .int v1)]) hx hb dX3_valueOf_5 rfl hl (by decide) rfl (fun ls hl => ?_)
    refine lv_iload_n hx hb dX3_valueOf_6 rfl (lv_at hl 0 rfl) ?_
    refine lv_if_ge (tgt := 23) hx hb dX3_valueOf_7 (by decide) (fun c_7 => ?_) (fun c_7 => ?_)
    · exact absurd (show _ from c_7) (by decide)
    · refine lv_aload_n hx hb dX3_valueOf_10 rfl (lv_at hl 1 rfl) ?_
      refine rM_values S hM dX3_valueOf_11 ?_
      refine lv_aload_n hx hb dX3_valueOf_14 rfl (lv_at hl 1 rfl) ?_
      refine lv_iload_n hx hb dX3_valueOf_15 rfl (lv_at hl 2 rfl) ?_
      refine vp_callSi (va_Run.run (runV (As := [.int v1]) (rest := [.ref (a 3)]) (Bh := RdM D y a n d th A) S (c_X3_placeOf l v1) (gw_V wk_410 wk_412 wp_22 wk_4 wk_413) rfl rfl 1 rfl (by decide +kernel) (by decide) ⟨Nat.le_refl _, Nat.le_refl _⟩ (fun _ _ _ h q => RdM.mv h q) hM.recv hM hl.1 (Nat.le_of_ble_eq_true rfl) dX3_valueOf_16)) (fun r hr => ?_)
      rcases hr with ⟨k_16, hk_16, he_16, hf_16, rfl⟩ | ⟨hn_16, rfl⟩
      · refine rM_ald S hM 3 (by decide) (by show _ < 512; omega) dX3_valueOf_19 ?_
        refine lv_goto (tgt := 29) hx hb dX3_valueOf_20 (by decide) ?_
        exact W.iret (v := (A 3 k_16)) hx hb hr (fun t9 ht9 _ => ⟨_, rfl, Or.inr ⟨hno_2, k_16, hk_16, he_16, rfl⟩, ht9⟩) (fun _ h => nomatch h) dX3_valueOf_29
      · obtain ⟨k9, hk9, he9⟩ := hv
        exact absurd he9 (hn_16 k9 hk9)
set_option maxHeartbeats 4000000 in
set_option maxRecDepth 100000 in
theorem c_X3_idStanding (l : Launch) {D : va_G} {y : Nat} {a : Nat → Nat} {n d : Nat} {th : Int32} {A : Nat → Nat → Int32} (v1 : Int32) (hv : ∃ k, k < n ∧ A 0 k = v1) : Met l yX3_idStanding (gws yX3_idStanding cX3_idStanding 3 (some .int)) { frames := 1, cells := 0, slots := 0, locals := 24 } (va_Pc [.ref y, .int v1] (fun U => RdM D y a n d th A U U.heap)) (vp_Si (fun r => OfM A n d v1 0 4 r)) 0 0 (fun _ => False) := by
  refine met_go (by decide) (Nat.le_of_ble_eq_true rfl) ?_
  intro p e s m below meth c ls S hr hlocks hnm hM hl
  obtain ⟨hx, hb, hml, hown, hg⟩ := id S
  have hl : lv_has ls 3 [(0, .ref y), (1, .int v1)] := hl
  have hn := hM.n
  refine lv_aload_n hx hb dX3_idStanding_0 rfl (lv_at hl 0 rfl) ?_
  refine lv_iload_n hx hb dX3_idStanding_1 rfl (lv_at hl 1 rfl) ?_
  refine vp_callSi (va_Run.run (runV (As := [.int v1]) (rest := []) (Bh := RdM D y a n d th A) S (c_X3_standing l v1) (gw_V wk_470 wk_472 wp_31 wk_4 wk_473) rfl rfl 1 rfl (by decide +kernel) (by decide) ⟨Nat.le_refl _, Nat.le_refl _⟩ (fun _ _ _ h q => RdM.mv h q) hM.recv hM hl.1 (Nat.le_of_ble_eq_true rfl) dX3_idStanding_2)) (fun r hr => ?_)
  rcases hr with ⟨j_2, hj_2, hs_2, hm_2, rfl⟩ | ⟨hno_2, rfl⟩
  · refine lv_istore_n (lv' := [(2, .int (nI j_2)), (0, .ref y), (1, .int v1)]) hx hb dX3_idStanding_5 rfl hl (by decide) rfl (fun ls hl => ?_)
    refine lv_iload_n hx hb dX3_idStanding_6 rfl (lv_at hl 0 rfl) ?_
    refine lv_if_ge (tgt := 14) hx hb dX3_idStanding_7 (by decide) (fun c_7 => ?_) (fun c_7 => ?_)
    · refine lv_aload_n hx hb dX3_idStanding_14 rfl (lv_at hl 1 rfl) ?_
      refine rM_doneIds S hM dX3_idStanding_15 ?_
      refine lv_iload_n hx hb dX3_idStanding_18 rfl (lv_at hl 0 rfl) ?_
      refine rM_ald S hM 4 (by decide) (by show _ < 1024; omega) dX3_idStanding_19 ?_
      exact W.iret (v := (A 4 j_2)) hx hb hr (fun t9 ht9 _ => ⟨_, rfl, Or.inl ⟨j_2, hj_2, hs_2, hm_2, rfl⟩, ht9⟩) (fun _ h => nomatch h) dX3_idStanding_20
    · exact absurd (nI_pos' (by omega)) c_7
  · refine lv_istore_n (lv' := [(2, .int (-1)), (0, .ref y), (1, .int v1)]) hx hb dX3_idStanding_5 rfl hl (by decide) rfl (fun ls hl => ?_)
    refine lv_iload_n hx hb dX3_idStanding_6 rfl (lv_at hl 0 rfl) ?_
    refine lv_if_ge (tgt := 14) hx hb dX3_idStanding_7 (by decide) (fun c_7 => ?_) (fun c_7 => ?_)
    · exact absurd (show _ from c_7) (by decide)
    · refine lv_iload_n hx hb dX3_idStanding_10 rfl (lv_at hl 2 rfl) ?_
      refine lv_goto (tgt := 20) hx hb dX3_idStanding_11 (by decide) ?_
      exact W.iret (v := v1) hx hb hr (fun t9 ht9 _ => ⟨_, rfl, Or.inr ⟨hno_2, hv.elim (fun k h => ⟨k, h.1, h.2, h.2.symm⟩)⟩, ht9⟩) (fun _ h => nomatch h) dX3_idStanding_20
set_option maxHeartbeats 4000000 in
set_option maxRecDepth 100000 in
theorem c_X3_sizeOf (l : Launch) {D : va_G} {y : Nat} {a : Nat → Nat} {n d : Nat} {th : Int32} {A : Nat → Nat → Int32}   : Met l yX3_sizeOf (gws yX3_sizeOf cX3_sizeOf 3 (some .int)) { frames := 1, cells := 0, slots := 0, locals := 23 } (va_Pc [.ref y] (fun U => RdM D y a n d th A U U.heap)) (vp_Si (fun r => r = nI (cntB (fun k => !remB A (A 0 k) d) n))) 0 0 (fun _ => False) := by
  refine met_go (by decide) (Nat.le_of_ble_eq_true rfl) ?_
  intro p e s m below meth c ls S hr hlocks hnm hM hl
  obtain ⟨hx, hb, hml, hown, hg⟩ := id S
  have hl : lv_has ls 3 [(0, .ref y)] := hl
  have hn := hM.n
  refine lv_iconst (v := nI 0) hx hb dX3_sizeOf_0 (by decide) ?_
  refine lv_istore_n (lv' := [(1, .int (nI 0)), (0, .ref y)]) hx hb dX3_sizeOf_1 rfl hl (by decide) rfl (fun ls hl => ?_)
  refine lv_iconst (v := nI 0) hx hb dX3_sizeOf_2 (by decide) ?_
  refine lv_istore_n (lv' := [(2, .int (nI 0)), (1, .int (nI 0)), (0, .ref y)]) hx hb dX3_sizeOf_3 rfl hl (by decide) rfl (fun ls hl => ?_)
  suffices hloop : ∀ (fuel : Nat) (k q : Nat), k ≤ n → n - k < fuel → q = cntB (fun k => !remB A (A 0 k) d) k → ∀ ls : Array Slot, lv_has ls 3 [(2, .int (nI k)), (1, .int (nI q)), (0, .ref y)] → W p l e { frames := 1, cells := 0, slots := 0, locals := 23 } s m [.ref y].toArray below meth c s.heap [] 0 0 (MQ below (vp_Si (fun r => r = nI (cntB (fun k => !remB A (A 0 k) d) n))) [.ref y].toArray s 0 0 (fun _ => False)) (F0 m 4 ls []) from hloop (n + 1) 0 0 (by omega) (by omega) rfl  ls (lv_sub hl [0, 1, 2] rfl)
  intro fuel
  induction fuel with
  | zero => intro k q hk hf hq; omega
  | succ fuel ih =>
    intro k q hk hf hq  ls hl
    refine lv_iload_n hx hb dX3_sizeOf_4 rfl (lv_at hl 0 rfl) ?_
    refine lv_aload_n hx hb dX3_sizeOf_5 rfl (lv_at hl 2 rfl) ?_
    refine rM_many S hM dX3_sizeOf_6 ?_
    refine lv_icmp_ge (tgt := 39) hx hb dX3_sizeOf_9 (by decide) (fun c_9 => ?_) (fun c_9 => ?_)
    · rw [nI_leI (by omega) (by omega)] at c_9
      refine lv_iload_n hx hb dX3_sizeOf_39 rfl (lv_at hl 1 rfl) ?_
      exact W.iret (v := (nI q)) hx hb hr (fun t9 ht9 _ => ⟨_, rfl, by rw [hq, show k = n by omega], ht9⟩) (fun _ h => nomatch h) dX3_sizeOf_40
    · rw [nI_leI (by omega) (by omega)] at c_9
      refine lv_iload_n hx hb dX3_sizeOf_12 rfl (lv_at hl 1 rfl) ?_
      refine lv_aload_n hx hb dX3_sizeOf_13 rfl (lv_at hl 2 rfl) ?_
      refine lv_aload_n hx hb dX3_sizeOf_14 rfl (lv_at hl 2 rfl) ?_
      refine rM_ids S hM dX3_sizeOf_15 ?_
      refine lv_iload_n hx hb dX3_sizeOf_18 rfl (lv_at hl 0 rfl) ?_
      refine rM_ald S hM 0 (by decide) (by show _ < 512; omega) dX3_sizeOf_19 ?_
      refine vp_callSi (va_Run.run (runV (As := [.int (A 0 k)]) (rest := [.int (nI q)]) (Bh := RdM D y a n d th A) S (c_X3_isRemoved l (A 0 k)) (gw_V wk_446 wk_448 wp_26 wk_4 wk_449) rfl rfl 1 rfl (by decide +kernel) (by decide) ⟨Nat.le_refl _, Nat.le_refl _⟩ (fun _ _ _ h q => RdM.mv h q) hM.recv hM hl.1 (Nat.le_of_ble_eq_true rfl) dX3_sizeOf_20)) (fun r hr => ?_)
      rcases hr with ⟨h_20, rfl⟩ | ⟨h_20, rfl⟩
      · refine lv_if_eq (tgt := 30) hx hb dX3_sizeOf_23 (by decide) (fun c_23 => ?_) (fun c_23 => ?_)
        · exact absurd (show _ from c_23) (by decide)
        · refine lv_iconst (v := nI 0) hx hb dX3_sizeOf_26 (by decide) ?_
          refine lv_goto (tgt := 31) hx hb dX3_sizeOf_27 (by decide) ?_
          refine lv_iadd hx hb dX3_sizeOf_31 ?_
          rw [nI_add, Nat.add_zero]
          refine lv_istore_n (lv' := [(1, .int (nI q)), (2, .int (nI k)), (0, .ref y)]) hx hb dX3_sizeOf_32 rfl hl (by decide) rfl (fun ls hl => ?_)
          refine lv_iinc (v := nI (k + 1)) (lv' := [(2, .int (nI (k + 1))), (1, .int (nI q)), (0, .ref y)]) hx hb dX3_sizeOf_33 hl (k := 1) rfl (nI_1 _) (by decide) rfl (fun ls hl => ?_)
          refine lv_goto (tgt := 4) hx hb dX3_sizeOf_36 (by decide) ?_
          exact ih (k + 1) q (by omega) (by omega) (cntB_n hq (by rw [h_20]; rfl))  ls (lv_sub hl [0, 1, 2] rfl)
      · refine lv_if_eq (tgt := 30) hx hb dX3_sizeOf_23 (by decide) (fun c_23 => ?_) (fun c_23 => ?_)
        · refine lv_iconst (v := nI 1) hx hb dX3_sizeOf_30 (by decide) ?_
          refine lv_iadd hx hb dX3_sizeOf_31 ?_
          rw [nI_add]
          refine lv_istore_n (lv' := [(1, .int (nI (q + 1))), (2, .int (nI k)), (0, .ref y)]) hx hb dX3_sizeOf_32 rfl hl (by decide) rfl (fun ls hl => ?_)
          refine lv_iinc (v := nI (k + 1)) (lv' := [(2, .int (nI (k + 1))), (1, .int (nI (q + 1))), (0, .ref y)]) hx hb dX3_sizeOf_33 hl (k := 1) rfl (nI_1 _) (by decide) rfl (fun ls hl => ?_)
          refine lv_goto (tgt := 4) hx hb dX3_sizeOf_36 (by decide) ?_
          exact ih (k + 1) (q + 1) (by omega) (by omega) (cntB_s hq (by rw [h_20]; rfl))  ls (lv_sub hl [0, 1, 2] rfl)
        · exact absurd (show _ from c_23) (by decide)
set_option maxHeartbeats 4000000 in
set_option maxRecDepth 100000 in
theorem c_X3_rowOf (l : Launch) {D : va_G} {y : Nat} {a : Nat → Nat} {n d : Nat} {th : Int32} {A : Nat → Nat → Int32} (v1 : Int32)  : Met l yX3_rowOf (gws yX3_rowOf cX3_rowOf 4 (some .int)) { frames := 0, cells := 0, slots := 0, locals := 0 } (va_Pc [.ref y, .int v1] (fun U => RdM D y a n d th A U U.heap)) (vp_Si (fun r => PL (A 8) n v1 r 0)) 0 0 (fun _ => False) := by
  refine met_go (by decide) (Nat.le_of_ble_eq_true rfl) ?_
  intro p e s m below meth c ls S hr hlocks hnm hM hl
  obtain ⟨hx, hb, hml, hown, hg⟩ := id S
  have hl : lv_has ls 4 [(0, .ref y), (1, .int v1)] := hl
  have hn := hM.n
  refine lv_iconst (v := 0) hx hb dX3_rowOf_0 (by decide) ?_
  refine lv_istore_n (lv' := [(2, .int 0), (0, .ref y), (1, .int v1)]) hx hb dX3_rowOf_1 rfl hl (by decide) rfl (fun ls hl => ?_)
  refine lv_iconst (v := nI 0) hx hb dX3_rowOf_2 (by decide) ?_
  refine lv_istore_n (lv' := [(3, .int (nI 0)), (2, .int 0), (0, .ref y), (1, .int v1)]) hx hb dX3_rowOf_3 rfl hl (by decide) rfl (fun ls hl => ?_)
  suffices hloop : ∀ (fuel : Nat) (k : Nat) (q : Int32), k ≤ n → n - k < fuel → PL (A 8) k v1 q 0 → ∀ ls : Array Slot, lv_has ls 4 [(3, .int (nI k)), (2, .int q), (0, .ref y), (1, .int v1)] → W p l e { frames := 0, cells := 0, slots := 0, locals := 0 } s m [.ref y, .int v1].toArray below meth c s.heap [] 0 0 (MQ below (vp_Si (fun r => PL (A 8) n v1 r 0)) [.ref y, .int v1].toArray s 0 0 (fun _ => False)) (F0 m 4 ls []) from hloop (n + 1) 0 0 (by omega) (by omega) PL_0  ls (lv_sub hl [0, 1, 2, 3] rfl)
  intro fuel
  induction fuel with
  | zero => intro k q hk hf hI; omega
  | succ fuel ih =>
    intro k q hk hf hI  ls hl
    refine lv_iload_n hx hb dX3_rowOf_4 rfl (lv_at hl 0 rfl) ?_
    refine lv_aload_n hx hb dX3_rowOf_5 rfl (lv_at hl 2 rfl) ?_
    refine rM_many S hM dX3_rowOf_6 ?_
    refine lv_icmp_ge (tgt := 34) hx hb dX3_rowOf_9 (by decide) (fun c_9 => ?_) (fun c_9 => ?_)
    · rw [nI_leI (by omega) (by omega)] at c_9
      refine lv_iload_n hx hb dX3_rowOf_34 rfl (lv_at hl 1 rfl) ?_
      exact W.iret (v := q) hx hb hr (fun t9 ht9 _ => ⟨_, rfl, by rw [show n = k by omega]; exact hI, ht9⟩) (fun _ h => nomatch h) dX3_rowOf_35
    · rw [nI_leI (by omega) (by omega)] at c_9
      refine lv_aload_n hx hb dX3_rowOf_12 rfl (lv_at hl 2 rfl) ?_
      refine rM_order S hM dX3_rowOf_13 ?_
      refine lv_iload_n hx hb dX3_rowOf_16 rfl (lv_at hl 0 rfl) ?_
      refine rM_ald S hM 8 (by decide) (by show _ < 512; omega) dX3_rowOf_17 ?_
      refine lv_iload_n hx hb dX3_rowOf_18 rfl (lv_at hl 3 rfl) ?_
      refine lv_icmp_ne (tgt := 26) hx hb dX3_rowOf_19 (by decide) (fun c_19 => ?_) (fun c_19 => ?_)
      · refine lv_iload_n hx hb dX3_rowOf_26 rfl (lv_at hl 1 rfl) ?_
        refine lv_istore_n (lv' := [(2, .int q), (3, .int (nI k)), (0, .ref y), (1, .int v1)]) hx hb dX3_rowOf_27 rfl hl (by decide) rfl (fun ls hl => ?_)
        refine lv_iinc (v := nI (k + 1)) (lv' := [(3, .int (nI (k + 1))), (2, .int q), (0, .ref y), (1, .int v1)]) hx hb dX3_rowOf_28 hl (k := 1) rfl (nI_1 _) (by decide) rfl (fun ls hl => ?_)
        refine lv_goto (tgt := 4) hx hb dX3_rowOf_31 (by decide) ?_
        exact ih (k + 1) _ (by omega) (by omega) (PL_n c_19 hI)  ls (lv_sub hl [0, 1, 2, 3] rfl)
      · refine lv_iload_n hx hb dX3_rowOf_22 rfl (lv_at hl 0 rfl) ?_
        refine lv_goto (tgt := 27) hx hb dX3_rowOf_23 (by decide) ?_
        refine lv_istore_n (lv' := [(2, .int (nI k)), (3, .int (nI k)), (0, .ref y), (1, .int v1)]) hx hb dX3_rowOf_27 rfl hl (by decide) rfl (fun ls hl => ?_)
        refine lv_iinc (v := nI (k + 1)) (lv' := [(3, .int (nI (k + 1))), (2, .int (nI k)), (0, .ref y), (1, .int v1)]) hx hb dX3_rowOf_28 hl (k := 1) rfl (nI_1 _) (by decide) rfl (fun ls hl => ?_)
        refine lv_goto (tgt := 4) hx hb dX3_rowOf_31 (by decide) ?_
        exact ih (k + 1) _ (by omega) (by omega) (PL_s c_19)  ls (lv_sub hl [0, 1, 2, 3] rfl)
set_option maxHeartbeats 4000000 in
set_option maxRecDepth 100000 in
theorem c_X3_greatest (l : Launch) {D : va_G} {y : Nat} {a : Nat → Nat} {n d : Nat} {th : Int32} {A : Nat → Nat → Int32}   : Met l yX3_greatest (gws yX3_greatest cX3_greatest 3 (some .int)) { frames := 0, cells := 0, slots := 0, locals := 0 } (va_Pc [.ref y] (fun U => RdM D y a n d th A U U.heap)) (vp_Si (fun r => r = mxf (A 4) (mxf (A 0) (-1) n) d)) 0 0 (fun _ => False) := by
  refine met_go (by decide) (Nat.le_of_ble_eq_true rfl) ?_
  intro p e s m below meth c ls S hr hlocks hnm hM hl
  obtain ⟨hx, hb, hml, hown, hg⟩ := id S
  have hl : lv_has ls 3 [(0, .ref y)] := hl
  have hn := hM.n
  refine lv_iconst (v := (-1)) hx hb dX3_greatest_0 (by decide) ?_
  refine lv_istore_n (lv' := [(1, .int (-1)), (0, .ref y)]) hx hb dX3_greatest_1 rfl hl (by decide) rfl (fun ls hl => ?_)
  refine lv_iconst (v := nI 0) hx hb dX3_greatest_2 (by decide) ?_
  refine lv_istore_n (lv' := [(2, .int (nI 0)), (1, .int (-1)), (0, .ref y)]) hx hb dX3_greatest_3 rfl hl (by decide) rfl (fun ls hl => ?_)
  suffices hloop : ∀ (fuel : Nat) (k : Nat) (q : Int32), k ≤ n → n - k < fuel → q = mxf (A 0) (-1) k → ∀ ls : Array Slot, lv_has ls 3 [(2, .int (nI k)), (1, .int q), (0, .ref y)] → W p l e { frames := 0, cells := 0, slots := 0, locals := 0 } s m [.ref y].toArray below meth c s.heap [] 0 0 (MQ below (vp_Si (fun r => r = mxf (A 4) (mxf (A 0) (-1) n) d)) [.ref y].toArray s 0 0 (fun _ => False)) (F0 m 4 ls []) from hloop (n + 1) 0 (-1) (by omega) (by omega) rfl  ls (lv_sub hl [0, 1, 2] rfl)
  intro fuel
  induction fuel with
  | zero => intro k q hk hf hq; omega
  | succ fuel ih =>
    intro k q hk hf hq  ls hl
    refine lv_iload_n hx hb dX3_greatest_4 rfl (lv_at hl 0 rfl) ?_
    refine lv_aload_n hx hb dX3_greatest_5 rfl (lv_at hl 2 rfl) ?_
    refine rM_many S hM dX3_greatest_6 ?_
    refine lv_icmp_ge (tgt := 39) hx hb dX3_greatest_9 (by decide) (fun c_9 => ?_) (fun c_9 => ?_)
    · rw [nI_leI (by omega) (by omega)] at c_9
      refine lv_iconst (v := nI 0) hx hb dX3_greatest_39 (by decide) ?_
      refine lv_istore_n (lv' := [(2, .int (nI 0)), (1, .int q), (0, .ref y)]) hx hb dX3_greatest_40 rfl hl (by decide) rfl (fun ls hl => ?_)
      suffices hloop2 : ∀ (fuel2 : Nat) (k : Nat) (q : Int32), k ≤ d → d - k < fuel2 → q = mxf (A 4) (mxf (A 0) (-1) n) k → ∀ ls : Array Slot, lv_has ls 3 [(2, .int (nI k)), (1, .int q), (0, .ref y)] → W p l e { frames := 0, cells := 0, slots := 0, locals := 0 } s m [.ref y].toArray below meth c s.heap [] 0 0 (MQ below (vp_Si (fun r => r = mxf (A 4) (mxf (A 0) (-1) n) d)) [.ref y].toArray s 0 0 (fun _ => False)) (F0 m 41 ls []) from hloop2 (d + 1) 0 _ (by omega) (by omega) (by rw [hq, show k = n by omega]; rfl)  ls (lv_sub hl [0, 1, 2] rfl)
      intro fuel2
      induction fuel2 with
      | zero => intro k q hk hf hq; omega
      | succ fuel2 ih2 =>
        intro k q hk hf hq  ls hl
        refine lv_iload_n hx hb dX3_greatest_41 rfl (lv_at hl 0 rfl) ?_
        refine lv_aload_n hx hb dX3_greatest_42 rfl (lv_at hl 2 rfl) ?_
        refine rM_done S hM dX3_greatest_43 ?_
        refine lv_icmp_ge (tgt := 76) hx hb dX3_greatest_46 (by decide) (fun c_46 => ?_) (fun c_46 => ?_)
        · rw [nI_leI (by omega) (by omega)] at c_46
          refine lv_iload_n hx hb dX3_greatest_76 rfl (lv_at hl 1 rfl) ?_
          exact W.iret (v := q) hx hb hr (fun t9 ht9 _ => ⟨_, rfl, by rw [hq, show k = d by omega], ht9⟩) (fun _ h => nomatch h) dX3_greatest_77
        · rw [nI_leI (by omega) (by omega)] at c_46
          refine lv_aload_n hx hb dX3_greatest_49 rfl (lv_at hl 2 rfl) ?_
          refine rM_doneIds S hM dX3_greatest_50 ?_
          refine lv_iload_n hx hb dX3_greatest_53 rfl (lv_at hl 0 rfl) ?_
          refine rM_ald S hM 4 (by decide) (by show _ < 1024; omega) dX3_greatest_54 ?_
          refine lv_iload_n hx hb dX3_greatest_55 rfl (lv_at hl 1 rfl) ?_
          refine lv_icmp_le (tgt := 68) hx hb dX3_greatest_56 (by decide) (fun c_56 => ?_) (fun c_56 => ?_)
          · refine lv_iload_n hx hb dX3_greatest_68 rfl (lv_at hl 1 rfl) ?_
            refine lv_istore_n (lv' := [(1, .int q), (2, .int (nI k)), (0, .ref y)]) hx hb dX3_greatest_69 rfl hl (by decide) rfl (fun ls hl => ?_)
            refine lv_iinc (v := nI (k + 1)) (lv' := [(2, .int (nI (k + 1))), (1, .int q), (0, .ref y)]) hx hb dX3_greatest_70 hl (k := 1) rfl (nI_1 _) (by decide) rfl (fun ls hl => ?_)
            refine lv_goto (tgt := 41) hx hb dX3_greatest_73 (by decide) ?_
            exact ih2 (k + 1) _ (by omega) (by omega) (mxf_n hq (i32_nlt.mpr c_56))  ls (lv_sub hl [0, 1, 2] rfl)
          · refine lv_aload_n hx hb dX3_greatest_59 rfl (lv_at hl 2 rfl) ?_
            refine rM_doneIds S hM dX3_greatest_60 ?_
            refine lv_iload_n hx hb dX3_greatest_63 rfl (lv_at hl 0 rfl) ?_
            refine rM_ald S hM 4 (by decide) (by show _ < 1024; omega) dX3_greatest_64 ?_
            refine lv_goto (tgt := 69) hx hb dX3_greatest_65 (by decide) ?_
            refine lv_istore_n (lv' := [(1, .int (A 4 k)), (2, .int (nI k)), (0, .ref y)]) hx hb dX3_greatest_69 rfl hl (by decide) rfl (fun ls hl => ?_)
            refine lv_iinc (v := nI (k + 1)) (lv' := [(2, .int (nI (k + 1))), (1, .int (A 4 k)), (0, .ref y)]) hx hb dX3_greatest_70 hl (k := 1) rfl (nI_1 _) (by decide) rfl (fun ls hl => ?_)
            refine lv_goto (tgt := 41) hx hb dX3_greatest_73 (by decide) ?_
            exact ih2 (k + 1) _ (by omega) (by omega) (mxf_s hq (i32_nle.mp c_56))  ls (lv_sub hl [0, 1, 2] rfl)
    · rw [nI_leI (by omega) (by omega)] at c_9
      refine lv_aload_n hx hb dX3_greatest_12 rfl (lv_at hl 2 rfl) ?_
      refine rM_ids S hM dX3_greatest_13 ?_
      refine lv_iload_n hx hb dX3_greatest_16 rfl (lv_at hl 0 rfl) ?_
      refine rM_ald S hM 0 (by decide) (by show _ < 512; omega) dX3_greatest_17 ?_
      refine lv_iload_n hx hb dX3_greatest_18 rfl (lv_at hl 1 rfl) ?_
      refine lv_icmp_le (tgt := 31) hx hb dX3_greatest_19 (by decide) (fun c_19 => ?_) (fun c_19 => ?_)
      · refine lv_iload_n hx hb dX3_greatest_31 rfl (lv_at hl 1 rfl) ?_
        refine lv_istore_n (lv' := [(1, .int q), (2, .int (nI k)), (0, .ref y)]) hx hb dX3_greatest_32 rfl hl (by decide) rfl (fun ls hl => ?_)
        refine lv_iinc (v := nI (k + 1)) (lv' := [(2, .int (nI (k + 1))), (1, .int q), (0, .ref y)]) hx hb dX3_greatest_33 hl (k := 1) rfl (nI_1 _) (by decide) rfl (fun ls hl => ?_)
        refine lv_goto (tgt := 4) hx hb dX3_greatest_36 (by decide) ?_
        exact ih (k + 1) _ (by omega) (by omega) (mxf_n hq (i32_nlt.mpr c_19))  ls (lv_sub hl [0, 1, 2] rfl)
      · refine lv_aload_n hx hb dX3_greatest_22 rfl (lv_at hl 2 rfl) ?_
        refine rM_ids S hM dX3_greatest_23 ?_
        refine lv_iload_n hx hb dX3_greatest_26 rfl (lv_at hl 0 rfl) ?_
        refine rM_ald S hM 0 (by decide) (by show _ < 512; omega) dX3_greatest_27 ?_
        refine lv_goto (tgt := 32) hx hb dX3_greatest_28 (by decide) ?_
        refine lv_istore_n (lv' := [(1, .int (A 0 k)), (2, .int (nI k)), (0, .ref y)]) hx hb dX3_greatest_32 rfl hl (by decide) rfl (fun ls hl => ?_)
        refine lv_iinc (v := nI (k + 1)) (lv' := [(2, .int (nI (k + 1))), (1, .int (A 0 k)), (0, .ref y)]) hx hb dX3_greatest_33 hl (k := 1) rfl (nI_1 _) (by decide) rfl (fun ls hl => ?_)
        refine lv_goto (tgt := 4) hx hb dX3_greatest_36 (by decide) ?_
        exact ih (k + 1) _ (by omega) (by omega) (mxf_s hq (i32_nle.mp c_19))  ls (lv_sub hl [0, 1, 2] rfl)
