set_option maxHeartbeats 4000000 in
set_option maxRecDepth 100000 in
theorem c_X2_at {l : Launch} (hl9 : l.stackTraces = false) {D : va_G} {x u i g w n cn cnt : Nat} {ids : Nat → Int32} {ad : Nat → Nat} {f : Nat → Nat → Int32} {sz : Nat} (v1 : Int32) (v2 : Int32) : vx_Met l yX2_at (gws yX2_at cX2_at 4 (some .int)) { frames := 6, cells := 1, slots := 6, locals := 82 } (va_Pc [.ref x, .int v1, .int v2] (fun U => (RdC D x u i g w n cn cnt ids ad f U U.heap ∧ EX sz U U.heap))) (va_Qi (fun r (_ : Unit) => ∃ k, k < n ∧ f (ad k) 5 = 0 ∧ nI (vis (fun k => f (ad k) 5) k) = v1 ∧ ((v2 = 0 ∧ r = f (ad k) 0) ∨ (v2 = 1 ∧ r = f (ad k) 7) ∨ (v2 = 2 ∧ r = f (ad k) 8) ∨ (v2 = 3 ∧ r = f (ad k) 6))) (fun _ _ => True) (fun q => sz ≤ q)) (vx_X (fun _ : Unit => (∀ k, k < n → f (ad k) 5 = 0 → ¬ nI (vis (fun k => f (ad k) 5) k) = v1) ∨ (¬ v2 = 0 ∧ ¬ v2 = 1 ∧ ¬ v2 = 2 ∧ ¬ v2 = 3)) (fun E _ _ => E = "java/lang/IndexOutOfBoundsException") (fun q => sz ≤ q)) 1 6 (fun q => sz ≤ q) := by
  refine vx_go (by decide) (Nat.le_of_ble_eq_true rfl) ?_
  intro p e s m below meth c ls S hr hlocks hnt hB hl
  obtain ⟨hC, hE⟩ := hB
  obtain ⟨hx, hb, hml, hown, hg⟩ := id S
  have hl : lv_has ls 4 [(0, .ref x), (1, .int v1), (2, .int v2)] := hl
  have hn := hC.n
  refine lv_aload_n hx hb dX2_at_0 rfl (lv_at hl 0 rfl) ?_
  refine lv_iload_n hx hb dX2_at_1 rfl (lv_at hl 1 rfl) ?_
  refine va_csq (va_Run.run (runV (As := [.int v1]) (rest := []) (Bh := RdC D x u i g w n cn cnt ids ad f) S (c_X2_elementAt l v1) (gw_V wk_224 wk_226 wp_18 wk_1 wk_227) rfl rfl 1 rfl (by decide +kernel) (by decide) ⟨Nat.zero_le _, Nat.zero_le _⟩ (fun _ _ _ h q => RdC.mv h q) hC.recv hC hl.1 (Nat.le_of_ble_eq_true rfl) dX2_at_2)) (fun r hr => ?_)
  rcases hr with ⟨k_2, hk_2, hg_2, he_2, rfl⟩ | ⟨hn_2, rfl⟩
  · show W p l e { frames := 6, cells := 1, slots := 6, locals := 82 } s m [.ref x, .int v1, .int v2].toArray below meth c s.heap [] 0 0 (vx_MQ below (va_Qi (fun r (_ : Unit) => ∃ k, k < n ∧ f (ad k) 5 = 0 ∧ nI (vis (fun k => f (ad k) 5) k) = v1 ∧ ((v2 = 0 ∧ r = f (ad k) 0) ∨ (v2 = 1 ∧ r = f (ad k) 7) ∨ (v2 = 2 ∧ r = f (ad k) 8) ∨ (v2 = 3 ∧ r = f (ad k) 6))) (fun _ _ => True) (fun q => sz ≤ q)) (vx_X (fun _ : Unit => (∀ k, k < n → f (ad k) 5 = 0 → ¬ nI (vis (fun k => f (ad k) 5) k) = v1) ∨ (¬ v2 = 0 ∧ ¬ v2 = 1 ∧ ¬ v2 = 2 ∧ ¬ v2 = 3)) (fun E _ _ => E = "java/lang/IndexOutOfBoundsException") (fun q => sz ≤ q)) [.ref x, .int v1, .int v2].toArray s 1 6 (fun q => sz ≤ q)) (F0 m 5 ls [.ref (ad k_2)])
    refine lv_astore_n (lv' := [(3, .ref (ad k_2)), (0, .ref x), (1, .int v1), (2, .int v2)]) hx hb dX2_at_5 rfl hl (by decide) rfl (fun ls hl => ?_)
    refine lv_aload_n hx hb dX2_at_6 rfl (lv_at hl 0 rfl) ?_
    refine lv_ifnonnull (tgt := 20) hx hb dX2_at_7 (by decide) ?_
    refine lv_iload_n hx hb dX2_at_20 rfl (lv_at hl 3 rfl) ?_
    by_cases w_0 : v2 = 0
    · subst w_0
      refine lv_tableIn (off := 31) (tgt := 52) hx hb dX2_at_21 (by decide) (by decide) rfl (by decide) ?_
      refine lv_aload_n hx hb dX2_at_52 rfl (lv_at hl 0 rfl) ?_
      refine rN_id S (hC.E (Or.inr ⟨_, hk_2, rfl⟩)) hC.nw dX2_at_53 ?_
      refine W.widen (k := 1) (n := 6) (by omega) (by omega) ?_
      refine vx_ret ?_
      exact W.iret (v := (f (ad k_2) 0)) hx hb hr (fun t9 ht9 _ => ⟨⟨_, (), rfl, ⟨k_2, hk_2, hg_2, he_2, Or.inl (⟨rfl, rfl⟩)⟩, trivial⟩, by rw [ht9]; exact Nat.le_refl _, fun q _ _ => by rw [ht9]⟩) (fun _ h => nomatch h) dX2_at_56
    by_cases w_1 : v2 = 1
    · subst w_1
      refine lv_tableIn (off := 36) (tgt := 57) hx hb dX2_at_21 (by decide) (by decide) rfl (by decide) ?_
      refine lv_aload_n hx hb dX2_at_57 rfl (lv_at hl 0 rfl) ?_
      refine rN_kind S (hC.E (Or.inr ⟨_, hk_2, rfl⟩)) hC.nw dX2_at_58 ?_
      refine W.widen (k := 1) (n := 6) (by omega) (by omega) ?_
      refine vx_ret ?_
      exact W.iret (v := (f (ad k_2) 7)) hx hb hr (fun t9 ht9 _ => ⟨⟨_, (), rfl, ⟨k_2, hk_2, hg_2, he_2, Or.inr (Or.inl (⟨rfl, rfl⟩))⟩, trivial⟩, by rw [ht9]; exact Nat.le_refl _, fun q _ _ => by rw [ht9]⟩) (fun _ h => nomatch h) dX2_at_61
    by_cases w_2 : v2 = 2
    · subst w_2
      refine lv_tableIn (off := 41) (tgt := 62) hx hb dX2_at_21 (by decide) (by decide) rfl (by decide) ?_
      refine lv_aload_n hx hb dX2_at_62 rfl (lv_at hl 0 rfl) ?_
      refine rN_value S (hC.E (Or.inr ⟨_, hk_2, rfl⟩)) hC.nw dX2_at_63 ?_
      refine W.widen (k := 1) (n := 6) (by omega) (by omega) ?_
      refine vx_ret ?_
      exact W.iret (v := (f (ad k_2) 8)) hx hb hr (fun t9 ht9 _ => ⟨⟨_, (), rfl, ⟨k_2, hk_2, hg_2, he_2, Or.inr (Or.inr (Or.inl (⟨rfl, rfl⟩)))⟩, trivial⟩, by rw [ht9]; exact Nat.le_refl _, fun q _ _ => by rw [ht9]⟩) (fun _ h => nomatch h) dX2_at_66
    by_cases w_3 : v2 = 3
    · subst w_3
      refine lv_tableIn (off := 46) (tgt := 67) hx hb dX2_at_21 (by decide) (by decide) rfl (by decide) ?_
      refine lv_aload_n hx hb dX2_at_67 rfl (lv_at hl 0 rfl) ?_
      refine rN_standing S (hC.E (Or.inr ⟨_, hk_2, rfl⟩)) hC.nw dX2_at_68 ?_
      refine W.widen (k := 1) (n := 6) (by omega) (by omega) ?_
      refine vx_ret ?_
      exact W.iret (v := (f (ad k_2) 6)) hx hb hr (fun t9 ht9 _ => ⟨⟨_, (), rfl, ⟨k_2, hk_2, hg_2, he_2, Or.inr (Or.inr (Or.inr (⟨rfl, rfl⟩)))⟩, trivial⟩, by rw [ht9]; exact Nat.le_refl _, fun q _ _ => by rw [ht9]⟩) (fun _ h => nomatch h) dX2_at_71
    have z_0 := lv_neT w_0 (show (0 : Int32).toInt = 0 by decide)
    have z_1 := lv_neT w_1 (show (1 : Int32).toInt = 1 by decide)
    have z_2 := lv_neT w_2 (show (2 : Int32).toInt = 2 by decide)
    have z_3 := lv_neT w_3 (show (3 : Int32).toInt = 3 by decide)
    refine lv_tableOut (tgt := 72) hx hb dX2_at_21 (by omega) (by decide) ?_
    exact thrB hl9 S hnt hlocks hE hE.2.2.2.2.2.1 hl.1 dX2_at_72 dX2_at_75 dX2_at_76 dX2_at_78 dX2_at_81 (by decide) (Or.inr ⟨w_0, w_1, w_2, w_3⟩)
  · show W p l e { frames := 6, cells := 1, slots := 6, locals := 82 } s m [.ref x, .int v1, .int v2].toArray below meth c s.heap [] 0 0 (vx_MQ below (va_Qi (fun r (_ : Unit) => ∃ k, k < n ∧ f (ad k) 5 = 0 ∧ nI (vis (fun k => f (ad k) 5) k) = v1 ∧ ((v2 = 0 ∧ r = f (ad k) 0) ∨ (v2 = 1 ∧ r = f (ad k) 7) ∨ (v2 = 2 ∧ r = f (ad k) 8) ∨ (v2 = 3 ∧ r = f (ad k) 6))) (fun _ _ => True) (fun q => sz ≤ q)) (vx_X (fun _ : Unit => (∀ k, k < n → f (ad k) 5 = 0 → ¬ nI (vis (fun k => f (ad k) 5) k) = v1) ∨ (¬ v2 = 0 ∧ ¬ v2 = 1 ∧ ¬ v2 = 2 ∧ ¬ v2 = 3)) (fun E _ _ => E = "java/lang/IndexOutOfBoundsException") (fun q => sz ≤ q)) [.ref x, .int v1, .int v2].toArray s 1 6 (fun q => sz ≤ q)) (F0 m 5 ls [.null])
    refine lv_astore_nN (lv' := [(3, .null), (0, .ref x), (1, .int v1), (2, .int v2)]) hx hb dX2_at_5 rfl hl (by decide) rfl (fun ls hl => ?_)
    refine lv_aload_nN hx hb dX2_at_6 rfl (lv_at hl 0 rfl) ?_
    refine lv_ifnonnullN hx hb dX2_at_7 ?_
    exact thrB hl9 S hnt hlocks hE hE.2.2.2.2.1 hl.1 dX2_at_10 dX2_at_13 dX2_at_14 dX2_at_16 dX2_at_19 (by decide) (Or.inl hn_2)
set_option maxHeartbeats 4000000 in
set_option maxRecDepth 100000 in
theorem c_X2_ahead {l : Launch} (hl9 : l.stackTraces = false) {D : va_G} {x u i g w n cn cnt : Nat} {ids : Nat → Int32} {ad : Nat → Nat} {f : Nat → Nat → Int32} {sz : Nat} (v1 : Int32) : vx_Met l yX2_ahead (gws yX2_ahead cX2_ahead 3 (some .int)) { frames := 6, cells := 1, slots := 6, locals := 82 } (va_Pc [.ref x, .int v1] (fun U => (RdC D x u i g w n cn cnt ids ad f U U.heap ∧ EX sz U U.heap))) (va_Qi (fun r (_ : Unit) => ∃ k, k < n ∧ f (ad k) 0 = v1 ∧ r = nI (vis (fun k => f (ad k) 5) k)) (fun _ _ => True) (fun q => sz ≤ q)) (vx_X (fun _ : Unit => ∀ k, k < n → ¬ f (ad k) 0 = v1) (fun E _ _ => E = "java/lang/IllegalArgumentException") (fun q => sz ≤ q)) 1 6 (fun q => sz ≤ q) := by
  refine vx_go (by decide) (Nat.le_of_ble_eq_true rfl) ?_
  intro p e s m below meth c ls S hr hlocks hnt hB hl
  obtain ⟨hC, hE⟩ := hB
  obtain ⟨hx, hb, hml, hown, hg⟩ := id S
  have hl : lv_has ls 3 [(0, .ref x), (1, .int v1)] := hl
  have hn := hC.n
  refine lv_aload_n hx hb dX2_ahead_0 rfl (lv_at hl 0 rfl) ?_
  refine lv_iload_n hx hb dX2_ahead_1 rfl (lv_at hl 1 rfl) ?_
  refine vp_callSi (va_Run.run (runV (As := [.int v1]) (rest := []) (Bh := RdC D x u i g w n cn cnt ids ad f) S (c_X2_rowOf l v1) (gw_V wk_114 wk_116 wp_3 wk_1 wk_117) rfl rfl 1 rfl (by decide +kernel) (by decide) ⟨Nat.zero_le _, Nat.zero_le _⟩ (fun _ _ _ h q => RdC.mv h q) hC.recv hC hl.1 (Nat.le_of_ble_eq_true rfl) dX2_ahead_2)) (fun r hr => ?_)
  rcases hr with ⟨k_2, hk_2, he_2, hf_2, rfl⟩ | ⟨hn_2, rfl⟩
  · refine lv_istore_n (lv' := [(2, .int (nI k_2)), (0, .ref x), (1, .int v1)]) hx hb dX2_ahead_5 rfl hl (by decide) rfl (fun ls hl => ?_)
    refine lv_iload_n hx hb dX2_ahead_6 rfl (lv_at hl 0 rfl) ?_
    refine lv_iconst (v := (-1)) hx hb dX2_ahead_7 (by decide) ?_
    refine lv_icmp_ne (tgt := 21) hx hb dX2_ahead_8 (by decide) (fun c_8 => ?_) (fun c_8 => ?_)
    · refine lv_aload_n hx hb dX2_ahead_21 rfl (lv_at hl 1 rfl) ?_
      refine lv_iload_n hx hb dX2_ahead_22 rfl (lv_at hl 0 rfl) ?_
      refine vp_callSi (va_Run.run (runV (As := [.int (nI k_2)]) (rest := []) (Bh := RdC D x u i g w n cn cnt ids ad f) S (c_X2_visibleUpTo l k_2 (by omega)) (gw_V wk_185 wk_187 wp_14 wk_1 wk_188) rfl rfl 1 rfl (by decide +kernel) (by decide) ⟨Nat.zero_le _, Nat.zero_le _⟩ (fun _ _ _ h q => RdC.mv h q) hC.recv hC hl.1 (Nat.le_of_ble_eq_true rfl) dX2_ahead_23)) (fun r_23 hr_23 => ?_)
      subst hr_23
      refine W.widen (k := 1) (n := 6) (by omega) (by omega) ?_
      refine vx_ret ?_
      exact W.iret (v := (nI (vis (fun k => f (ad k) 5) k_2))) hx hb hr (fun t9 ht9 _ => ⟨⟨_, (), rfl, ⟨k_2, hk_2, he_2, rfl⟩, trivial⟩, by rw [ht9]; exact Nat.le_refl _, fun q _ _ => by rw [ht9]⟩) (fun _ h => nomatch h) dX2_ahead_26
    · exact absurd c_8 (int_m1_ne _ (by omega))
  · refine lv_istore_n (lv' := [(2, .int (-1)), (0, .ref x), (1, .int v1)]) hx hb dX2_ahead_5 rfl hl (by decide) rfl (fun ls hl => ?_)
    refine lv_iload_n hx hb dX2_ahead_6 rfl (lv_at hl 0 rfl) ?_
    refine lv_iconst (v := (-1)) hx hb dX2_ahead_7 (by decide) ?_
    refine lv_icmp_ne (tgt := 21) hx hb dX2_ahead_8 (by decide) (fun c_8 => ?_) (fun c_8 => ?_)
    · exact absurd (show _ from c_8) (by decide)
    · exact thrA hl9 S hnt hlocks hE hE.2.2.2.2.2.2.1 hl.1 dX2_ahead_11 dX2_ahead_14 dX2_ahead_15 dX2_ahead_17 dX2_ahead_20 (by decide) (hn_2)
set_option maxHeartbeats 4000000 in
set_option maxRecDepth 100000 in
theorem c_X2_before {l : Launch} (hl9 : l.stackTraces = false) {D : va_G} {x u i g w n cn cnt : Nat} {ids : Nat → Int32} {ad : Nat → Nat} {f : Nat → Nat → Int32} {sz : Nat} (v1 : Int32) (v2 : Int32) : vx_Met l yX2_before (gws yX2_before cX2_before 5 (some .boolean)) { frames := 6, cells := 1, slots := 6, locals := 82 } (va_Pc [.ref x, .int v1, .int v2] (fun U => (RdC D x u i g w n cn cnt ids ad f U U.heap ∧ EX sz U U.heap))) (va_Qi (fun r (_ : Unit) => ∃ a b, a < n ∧ b < n ∧ f (ad a) 0 = v1 ∧ f (ad b) 0 = v2 ∧ ((a < b ∧ r = 1) ∨ (¬ a < b ∧ r = 0))) (fun _ _ => True) (fun q => sz ≤ q)) (vx_X (fun _ : Unit => (∀ k, k < n → ¬ f (ad k) 0 = v1) ∨ (∀ k, k < n → ¬ f (ad k) 0 = v2)) (fun E _ _ => E = "java/lang/IllegalArgumentException") (fun q => sz ≤ q)) 1 6 (fun q => sz ≤ q) := by
  refine vx_go (by decide) (Nat.le_of_ble_eq_true rfl) ?_
  intro p e s m below meth c ls S hr hlocks hnt hB hl
  obtain ⟨hC, hE⟩ := hB
  obtain ⟨hx, hb, hml, hown, hg⟩ := id S
  have hl : lv_has ls 5 [(0, .ref x), (1, .int v1), (2, .int v2)] := hl
  have hn := hC.n
  refine lv_aload_n hx hb dX2_before_0 rfl (lv_at hl 0 rfl) ?_
  refine lv_iload_n hx hb dX2_before_1 rfl (lv_at hl 1 rfl) ?_
  refine vp_callSi (va_Run.run (runV (As := [.int v1]) (rest := []) (Bh := RdC D x u i g w n cn cnt ids ad f) S (c_X2_rowOf l v1) (gw_V wk_114 wk_116 wp_3 wk_1 wk_117) rfl rfl 1 rfl (by decide +kernel) (by decide) ⟨Nat.zero_le _, Nat.zero_le _⟩ (fun _ _ _ h q => RdC.mv h q) hC.recv hC hl.1 (Nat.le_of_ble_eq_true rfl) dX2_before_2)) (fun r hr => ?_)
  rcases hr with ⟨k_2, hk_2, he_2, hf_2, rfl⟩ | ⟨hn_2, rfl⟩
  · refine lv_istore_n (lv' := [(3, .int (nI k_2)), (0, .ref x), (1, .int v1), (2, .int v2)]) hx hb dX2_before_5 rfl hl (by decide) rfl (fun ls hl => ?_)
    refine lv_aload_n hx hb dX2_before_6 rfl (lv_at hl 1 rfl) ?_
    refine lv_iload_n hx hb dX2_before_7 rfl (lv_at hl 3 rfl) ?_
    refine vp_callSi (va_Run.run (runV (As := [.int v2]) (rest := []) (Bh := RdC D x u i g w n cn cnt ids ad f) S (c_X2_rowOf l v2) (gw_V wk_114 wk_116 wp_3 wk_1 wk_117) rfl rfl 1 rfl (by decide +kernel) (by decide) ⟨Nat.zero_le _, Nat.zero_le _⟩ (fun _ _ _ h q => RdC.mv h q) hC.recv hC hl.1 (Nat.le_of_ble_eq_true rfl) dX2_before_8)) (fun r hr => ?_)
    rcases hr with ⟨k_8, hk_8, he_8, hf_8, rfl⟩ | ⟨hn_8, rfl⟩
    · refine lv_istore (lv' := [(4, .int (nI k_8)), (3, .int (nI k_2)), (0, .ref x), (1, .int v1), (2, .int v2)]) hx hb dX2_before_11 hl (by decide) rfl (fun ls hl => ?_)
      refine lv_iload_n hx hb dX2_before_13 rfl (lv_at hl 1 rfl) ?_
      refine lv_iconst (v := (-1)) hx hb dX2_before_14 (by decide) ?_
      refine lv_icmp_eq (tgt := 24) hx hb dX2_before_15 (by decide) (fun c_15 => ?_) (fun c_15 => ?_)
      · exact absurd c_15 (int_m1_ne _ (by omega))
      · refine lv_iload hx hb dX2_before_18 (lv_at hl 0 rfl) ?_
        refine lv_iconst (v := (-1)) hx hb dX2_before_20 (by decide) ?_
        refine lv_icmp_ne (tgt := 34) hx hb dX2_before_21 (by decide) (fun c_21 => ?_) (fun c_21 => ?_)
        · refine lv_iload_n hx hb dX2_before_34 rfl (lv_at hl 1 rfl) ?_
          refine lv_iload hx hb dX2_before_35 (lv_at hl 0 rfl) ?_
          refine lv_icmp_ge (tgt := 44) hx hb dX2_before_37 (by decide) (fun c_37 => ?_) (fun c_37 => ?_)
          · rw [nI_leI (by omega) (by omega)] at c_37
            refine lv_iconst (v := 0) hx hb dX2_before_44 (by decide) ?_
            refine W.widen (k := 1) (n := 6) (by omega) (by omega) ?_
            refine vx_ret ?_
            exact W.zret (v := 0) hx hb hr rfl (fun t9 ht9 _ => ⟨⟨_, (), rfl, ⟨k_2, k_8, hk_2, hk_8, he_2, he_8, Or.inr ⟨by omega, rfl⟩⟩, trivial⟩, by rw [ht9]; exact Nat.le_refl _, fun q _ _ => by rw [ht9]⟩) (fun _ h => nomatch h) dX2_before_45
          · rw [nI_leI (by omega) (by omega)] at c_37
            refine lv_iconst (v := 1) hx hb dX2_before_40 (by decide) ?_
            refine lv_goto (tgt := 45) hx hb dX2_before_41 (by decide) ?_
            refine W.widen (k := 1) (n := 6) (by omega) (by omega) ?_
            refine vx_ret ?_
            exact W.zret (v := 1) hx hb hr rfl (fun t9 ht9 _ => ⟨⟨_, (), rfl, ⟨k_2, k_8, hk_2, hk_8, he_2, he_8, Or.inl ⟨by omega, rfl⟩⟩, trivial⟩, by rw [ht9]; exact Nat.le_refl _, fun q _ _ => by rw [ht9]⟩) (fun _ h => nomatch h) dX2_before_45
        · exact absurd c_21 (int_m1_ne _ (by omega))
    · refine lv_istore (lv' := [(4, .int (-1)), (3, .int (nI k_2)), (0, .ref x), (1, .int v1), (2, .int v2)]) hx hb dX2_before_11 hl (by decide) rfl (fun ls hl => ?_)
      refine lv_iload_n hx hb dX2_before_13 rfl (lv_at hl 1 rfl) ?_
      refine lv_iconst (v := (-1)) hx hb dX2_before_14 (by decide) ?_
      refine lv_icmp_eq (tgt := 24) hx hb dX2_before_15 (by decide) (fun c_15 => ?_) (fun c_15 => ?_)
      · exact absurd c_15 (int_m1_ne _ (by omega))
      · refine lv_iload hx hb dX2_before_18 (lv_at hl 0 rfl) ?_
        refine lv_iconst (v := (-1)) hx hb dX2_before_20 (by decide) ?_
        refine lv_icmp_ne (tgt := 34) hx hb dX2_before_21 (by decide) (fun c_21 => ?_) (fun c_21 => ?_)
        · exact absurd (show _ from c_21) (by decide)
        · exact thrA hl9 S hnt hlocks hE hE.2.2.2.2.2.2.1 hl.1 dX2_before_24 dX2_before_27 dX2_before_28 dX2_before_30 dX2_before_33 (by decide) (Or.inr hn_8)
  · refine lv_istore_n (lv' := [(3, .int (-1)), (0, .ref x), (1, .int v1), (2, .int v2)]) hx hb dX2_before_5 rfl hl (by decide) rfl (fun ls hl => ?_)
    refine lv_aload_n hx hb dX2_before_6 rfl (lv_at hl 1 rfl) ?_
    refine lv_iload_n hx hb dX2_before_7 rfl (lv_at hl 3 rfl) ?_
    refine vp_callSi (va_Run.run (runV (As := [.int v2]) (rest := []) (Bh := RdC D x u i g w n cn cnt ids ad f) S (c_X2_rowOf l v2) (gw_V wk_114 wk_116 wp_3 wk_1 wk_117) rfl rfl 1 rfl (by decide +kernel) (by decide) ⟨Nat.zero_le _, Nat.zero_le _⟩ (fun _ _ _ h q => RdC.mv h q) hC.recv hC hl.1 (Nat.le_of_ble_eq_true rfl) dX2_before_8)) (fun r hr => ?_)
    rcases hr with ⟨k_8, hk_8, he_8, hf_8, rfl⟩ | ⟨hn_8, rfl⟩
    · refine lv_istore (lv' := [(4, .int (nI k_8)), (3, .int (-1)), (0, .ref x), (1, .int v1), (2, .int v2)]) hx hb dX2_before_11 hl (by decide) rfl (fun ls hl => ?_)
      refine lv_iload_n hx hb dX2_before_13 rfl (lv_at hl 1 rfl) ?_
      refine lv_iconst (v := (-1)) hx hb dX2_before_14 (by decide) ?_
      refine lv_icmp_eq (tgt := 24) hx hb dX2_before_15 (by decide) (fun c_15 => ?_) (fun c_15 => ?_)
      · exact thrA hl9 S hnt hlocks hE hE.2.2.2.2.2.2.1 hl.1 dX2_before_24 dX2_before_27 dX2_before_28 dX2_before_30 dX2_before_33 (by decide) (Or.inl hn_2)
      · exact absurd (show _ from c_15) (by decide)
    · refine lv_istore (lv' := [(4, .int (-1)), (3, .int (-1)), (0, .ref x), (1, .int v1), (2, .int v2)]) hx hb dX2_before_11 hl (by decide) rfl (fun ls hl => ?_)
      refine lv_iload_n hx hb dX2_before_13 rfl (lv_at hl 1 rfl) ?_
      refine lv_iconst (v := (-1)) hx hb dX2_before_14 (by decide) ?_
      refine lv_icmp_eq (tgt := 24) hx hb dX2_before_15 (by decide) (fun c_15 => ?_) (fun c_15 => ?_)
      · exact thrA hl9 S hnt hlocks hE hE.2.2.2.2.2.2.1 hl.1 dX2_before_24 dX2_before_27 dX2_before_28 dX2_before_30 dX2_before_33 (by decide) (Or.inl hn_2)
      · exact absurd (show _ from c_15) (by decide)
set_option maxHeartbeats 4000000 in
set_option maxRecDepth 100000 in
theorem c_X2_row {l : Launch} (hl9 : l.stackTraces = false) {D : va_G} {x u i g w n cn cnt : Nat} {ids : Nat → Int32} {ad : Nat → Nat} {f : Nat → Nat → Int32} {sz : Nat} (v1 : Int32) : vx_Met l yX2_row (gws yX2_row cX2_row 3 (some .int)) { frames := 6, cells := 1, slots := 6, locals := 82 } (va_Pc [.ref x, .int v1] (fun U => (RdC D x u i g w n cn cnt ids ad f U U.heap ∧ EX sz U U.heap))) (va_Qi (fun r (_ : Unit) => ∃ k, k < n ∧ v1 = nI k ∧ ((f (ad k) 5 = 0 ∧ r = f (ad k) 0) ∨ (¬ f (ad k) 5 = 0 ∧ r = -f (ad k) 0))) (fun _ _ => True) (fun q => sz ≤ q)) (vx_X (fun _ : Unit => v1 < 0 ∨ nI n ≤ v1) (fun E _ _ => E = "java/lang/IndexOutOfBoundsException") (fun q => sz ≤ q)) 1 6 (fun q => sz ≤ q) := by
  refine vx_go (by decide) (Nat.le_of_ble_eq_true rfl) ?_
  intro p e s m below meth c ls S hr hlocks hnt hB hl
  obtain ⟨hC, hE⟩ := hB
  obtain ⟨hx, hb, hml, hown, hg⟩ := id S
  have hl : lv_has ls 3 [(0, .ref x), (1, .int v1)] := hl
  have hn := hC.n
  refine lv_iload_n hx hb dX2_row_0 rfl (lv_at hl 1 rfl) ?_
  refine lv_if_lt (tgt := 12) hx hb dX2_row_1 (by decide) (fun c_1 => ?_) (fun c_1 => ?_)
  · exact thrB hl9 S hnt hlocks hE hE.2.2.2.2.2.2.2.1 hl.1 dX2_row_12 dX2_row_15 dX2_row_16 dX2_row_18 dX2_row_21 (by decide) (Or.inl c_1)
  · refine lv_iload_n hx hb dX2_row_4 rfl (lv_at hl 1 rfl) ?_
    refine lv_aload_n hx hb dX2_row_5 rfl (lv_at hl 0 rfl) ?_
    refine rC_elements S hC dX2_row_6 ?_
    refine lv_icmp_lt (tgt := 22) hx hb dX2_row_9 (by decide) (fun c_9 => ?_) (fun c_9 => ?_)
    · obtain ⟨k, hk31, rfl⟩ := nI_of c_1
      rw [nI_ltI hk31 (by omega)] at c_9
      refine lv_aload_n hx hb dX2_row_22 rfl (lv_at hl 0 rfl) ?_
      refine rC_woven S hC dX2_row_23 ?_
      refine lv_iload_n hx hb dX2_row_26 rfl (lv_at hl 1 rfl) ?_
      refine rC_ald S hC c_9 dX2_row_27 ?_
      refine lv_astore_n (lv' := [(2, .ref (ad k)), (0, .ref x), (1, .int (nI k))]) hx hb dX2_row_28 rfl hl (by decide) rfl (fun ls hl => ?_)
      refine lv_aload_n hx hb dX2_row_29 rfl (lv_at hl 0 rfl) ?_
      refine vp_callSi (va_Run.run (runVN (As := []) (rest := []) (Bh := RdE D (ad k) (f (ad k))) S (c_X0_isVisible l ) (gw_self wk_192) (nk_189 hC.nw) wk_3 wk_191 wp_15 rfl rfl 0 rfl (by decide +kernel) (by decide) ⟨Nat.zero_le _, Nat.zero_le _⟩ (fun _ _ _ h q => RdE.mv h q) (RdE.recv (hC.E (Or.inr ⟨_, c_9, rfl⟩))) (hC.E (Or.inr ⟨_, c_9, rfl⟩)) hl.1 (Nat.le_of_ble_eq_true rfl) dX2_row_30)) (fun r hr => ?_)
      rcases hr with ⟨h_30, rfl⟩ | ⟨h_30, rfl⟩
      · refine lv_if_eq (tgt := 43) hx hb dX2_row_33 (by decide) (fun c_33 => ?_) (fun c_33 => ?_)
        · exact absurd (show _ from c_33) (by decide)
        · refine lv_aload_n hx hb dX2_row_36 rfl (lv_at hl 0 rfl) ?_
          refine rN_id S (hC.E (Or.inr ⟨_, c_9, rfl⟩)) hC.nw dX2_row_37 ?_
          refine lv_goto (tgt := 48) hx hb dX2_row_40 (by decide) ?_
          refine W.widen (k := 1) (n := 6) (by omega) (by omega) ?_
          refine vx_ret ?_
          exact W.iret (v := (f (ad k) 0)) hx hb hr (fun t9 ht9 _ => ⟨⟨_, (), rfl, ⟨k, c_9, rfl, Or.inl ⟨h_30, rfl⟩⟩, trivial⟩, by rw [ht9]; exact Nat.le_refl _, fun q _ _ => by rw [ht9]⟩) (fun _ h => nomatch h) dX2_row_48
      · refine lv_if_eq (tgt := 43) hx hb dX2_row_33 (by decide) (fun c_33 => ?_) (fun c_33 => ?_)
        · refine lv_aload_n hx hb dX2_row_43 rfl (lv_at hl 0 rfl) ?_
          refine rN_id S (hC.E (Or.inr ⟨_, c_9, rfl⟩)) hC.nw dX2_row_44 ?_
          refine lv_ineg hx hb dX2_row_47 ?_
          refine W.widen (k := 1) (n := 6) (by omega) (by omega) ?_
          refine vx_ret ?_
          exact W.iret (v := (-(f (ad k) 0))) hx hb hr (fun t9 ht9 _ => ⟨⟨_, (), rfl, ⟨k, c_9, rfl, Or.inr ⟨h_30, rfl⟩⟩, trivial⟩, by rw [ht9]; exact Nat.le_refl _, fun q _ _ => by rw [ht9]⟩) (fun _ h => nomatch h) dX2_row_48
        · exact absurd (show _ from c_33) (by decide)
    · exact thrB hl9 S hnt hlocks hE hE.2.2.2.2.2.2.2.1 hl.1 dX2_row_12 dX2_row_15 dX2_row_16 dX2_row_18 dX2_row_21 (by decide) (Or.inr (i32_nlt.mp c_9))
set_option maxHeartbeats 4000000 in
set_option maxRecDepth 100000 in
theorem c_X2_of {l : Launch} (hl9 : l.stackTraces = false) {D : va_G} {x u i g w n cn cnt : Nat} {ids : Nat → Int32} {ad : Nat → Nat} {f : Nat → Nat → Int32} {sz : Nat} (v1 : Int32) (v2 : Int32) : vx_Met l yX2_of (gws yX2_of cX2_of 4 (some .int)) { frames := 6, cells := 1, slots := 6, locals := 82 } (va_Pc [.ref x, .int v1, .int v2] (fun U => (RdC D x u i g w n cn cnt ids ad f U U.heap ∧ EX sz U U.heap))) (va_Qi (fun r (_ : Unit) => (v1 = 0 ∧ ((v2 = 0 ∧ r = f g 1) ∨ (v2 = 1 ∧ r = f g 3))) ∨ (¬ v1 = 0 ∧ ∃ k, k < n ∧ f (ad k) 0 = v1 ∧ ((v2 = 0 ∧ r = f (ad k) 1) ∨ (v2 = 1 ∧ r = f (ad k) 3) ∨ (v2 = 2 ∧ r = f (ad k) 4) ∨ (v2 = 3 ∧ r = f (ad k) 5) ∨ (v2 = 4 ∧ r = f (ad k) 6) ∨ (v2 = 5 ∧ r = f (ad k) 7) ∨ (v2 = 6 ∧ r = f (ad k) 8)))) (fun _ _ => True) (fun q => sz ≤ q)) (vx_X (fun _ : Unit => (¬ v1 = 0 ∧ ∀ k, k < n → ¬ f (ad k) 0 = v1) ∨ (v1 = 0 ∧ 1 < v2) ∨ (¬ v2 = 0 ∧ ¬ v2 = 1 ∧ ¬ v2 = 2 ∧ ¬ v2 = 3 ∧ ¬ v2 = 4 ∧ ¬ v2 = 5 ∧ ¬ v2 = 6)) (fun E _ _ => E = "java/lang/IllegalArgumentException") (fun q => sz ≤ q)) 1 6 (fun q => sz ≤ q) := by
  refine vx_go (by decide) (Nat.le_of_ble_eq_true rfl) ?_
  intro p e s m below meth c ls S hr hlocks hnt hB hl
  obtain ⟨hC, hE⟩ := hB
  obtain ⟨hx, hb, hml, hown, hg⟩ := id S
  have hl : lv_has ls 4 [(0, .ref x), (1, .int v1), (2, .int v2)] := hl
  have hn := hC.n
  refine lv_aload_n hx hb dX2_of_0 rfl (lv_at hl 0 rfl) ?_
  refine lv_iload_n hx hb dX2_of_1 rfl (lv_at hl 1 rfl) ?_
  refine va_csq (va_Run.run (runV (As := [.int v1]) (rest := []) (Bh := RdC D x u i g w n cn cnt ids ad f) S (c_X2_elementOrBeginning l v1) (gw_V wk_106 wk_108 wp_1 wk_1 wk_109) rfl rfl 1 rfl (by decide +kernel) (by decide) ⟨Nat.zero_le _, Nat.zero_le _⟩ (fun _ _ _ h q => RdC.mv h q) hC.recv hC hl.1 (Nat.le_of_ble_eq_true rfl) dX2_of_2)) (fun r hr => ?_)
  rcases hr with ⟨h0_2, rfl⟩ | ⟨h0_2, ⟨k_2, hk_2, he_2, rfl⟩ | ⟨hn_2, rfl⟩⟩
  · show W p l e { frames := 6, cells := 1, slots := 6, locals := 82 } s m [.ref x, .int v1, .int v2].toArray below meth c s.heap [] 0 0 (vx_MQ below (va_Qi (fun r (_ : Unit) => (v1 = 0 ∧ ((v2 = 0 ∧ r = f g 1) ∨ (v2 = 1 ∧ r = f g 3))) ∨ (¬ v1 = 0 ∧ ∃ k, k < n ∧ f (ad k) 0 = v1 ∧ ((v2 = 0 ∧ r = f (ad k) 1) ∨ (v2 = 1 ∧ r = f (ad k) 3) ∨ (v2 = 2 ∧ r = f (ad k) 4) ∨ (v2 = 3 ∧ r = f (ad k) 5) ∨ (v2 = 4 ∧ r = f (ad k) 6) ∨ (v2 = 5 ∧ r = f (ad k) 7) ∨ (v2 = 6 ∧ r = f (ad k) 8)))) (fun _ _ => True) (fun q => sz ≤ q)) (vx_X (fun _ : Unit => (¬ v1 = 0 ∧ ∀ k, k < n → ¬ f (ad k) 0 = v1) ∨ (v1 = 0 ∧ 1 < v2) ∨ (¬ v2 = 0 ∧ ¬ v2 = 1 ∧ ¬ v2 = 2 ∧ ¬ v2 = 3 ∧ ¬ v2 = 4 ∧ ¬ v2 = 5 ∧ ¬ v2 = 6)) (fun E _ _ => E = "java/lang/IllegalArgumentException") (fun q => sz ≤ q)) [.ref x, .int v1, .int v2].toArray s 1 6 (fun q => sz ≤ q)) (F0 m 5 ls [.ref g])
    refine lv_astore_n (lv' := [(3, .ref g), (0, .ref x), (1, .int v1), (2, .int v2)]) hx hb dX2_of_5 rfl hl (by decide) rfl (fun ls hl => ?_)
    refine lv_aload_n hx hb dX2_of_6 rfl (lv_at hl 0 rfl) ?_
    refine lv_ifnonnull (tgt := 20) hx hb dX2_of_7 (by decide) ?_
    refine lv_iload_n hx hb dX2_of_20 rfl (lv_at hl 2 rfl) ?_
    refine lv_if_ne (tgt := 39) hx hb dX2_of_21 (by decide) (fun c_21 => ?_) (fun c_21 => ?_)
    · exact absurd h0_2 c_21
    · refine lv_iload_n hx hb dX2_of_24 rfl (lv_at hl 3 rfl) ?_
      refine lv_iconst (v := 1) hx hb dX2_of_25 (by decide) ?_
      refine lv_icmp_le (tgt := 39) hx hb dX2_of_26 (by decide) (fun c_26 => ?_) (fun c_26 => ?_)
      · refine lv_iload_n hx hb dX2_of_39 rfl (lv_at hl 3 rfl) ?_
        by_cases w_0 : v2 = 0
        · subst w_0
          refine lv_tableIn (off := 44) (tgt := 84) hx hb dX2_of_40 (by decide) (by decide) rfl (by decide) ?_
          refine lv_aload_n hx hb dX2_of_84 rfl (lv_at hl 0 rfl) ?_
          refine rN_behind S (hC.E (Or.inl rfl)) hC.nw dX2_of_85 ?_
          refine W.widen (k := 1) (n := 6) (by omega) (by omega) ?_
          refine vx_ret ?_
          exact W.iret (v := (f g 1)) hx hb hr (fun t9 ht9 _ => ⟨⟨_, (), rfl, Or.inl ⟨h0_2, Or.inl (⟨rfl, rfl⟩)⟩, trivial⟩, by rw [ht9]; exact Nat.le_refl _, fun q _ _ => by rw [ht9]⟩) (fun _ h => nomatch h) dX2_of_88
        by_cases w_1 : v2 = 1
        · subst w_1
          refine lv_tableIn (off := 49) (tgt := 89) hx hb dX2_of_40 (by decide) (by decide) rfl (by decide) ?_
          refine lv_aload_n hx hb dX2_of_89 rfl (lv_at hl 0 rfl) ?_
          refine rN_followers S (hC.E (Or.inl rfl)) hC.nw dX2_of_90 ?_
          refine W.widen (k := 1) (n := 6) (by omega) (by omega) ?_
          refine vx_ret ?_
          exact W.iret (v := (f g 3)) hx hb hr (fun t9 ht9 _ => ⟨⟨_, (), rfl, Or.inl ⟨h0_2, Or.inr (⟨rfl, rfl⟩)⟩, trivial⟩, by rw [ht9]; exact Nat.le_refl _, fun q _ _ => by rw [ht9]⟩) (fun _ h => nomatch h) dX2_of_93
        by_cases w_2 : v2 = 2
        · subst w_2
          exact absurd c_26 (by decide)
        by_cases w_3 : v2 = 3
        · subst w_3
          exact absurd c_26 (by decide)
        by_cases w_4 : v2 = 4
        · subst w_4
          exact absurd c_26 (by decide)
        by_cases w_5 : v2 = 5
        · subst w_5
          exact absurd c_26 (by decide)
        by_cases w_6 : v2 = 6
        · subst w_6
          exact absurd c_26 (by decide)
        have z_0 := lv_neT w_0 (show (0 : Int32).toInt = 0 by decide)
        have z_1 := lv_neT w_1 (show (1 : Int32).toInt = 1 by decide)
        have z_2 := lv_neT w_2 (show (2 : Int32).toInt = 2 by decide)
        have z_3 := lv_neT w_3 (show (3 : Int32).toInt = 3 by decide)
        have z_4 := lv_neT w_4 (show (4 : Int32).toInt = 4 by decide)
        have z_5 := lv_neT w_5 (show (5 : Int32).toInt = 5 by decide)
        have z_6 := lv_neT w_6 (show (6 : Int32).toInt = 6 by decide)
        refine lv_tableOut (tgt := 119) hx hb dX2_of_40 (by omega) (by decide) ?_
        exact thrA hl9 S hnt hlocks hE hE.2.2.2.2.2.1 hl.1 dX2_of_119 dX2_of_122 dX2_of_123 dX2_of_125 dX2_of_128 (by decide) (Or.inr (Or.inr ⟨w_0, w_1, w_2, w_3, w_4, w_5, w_6⟩))
      · exact thrA hl9 S hnt hlocks hE hE.2.2.2.2.2.2.2.2 hl.1 dX2_of_29 dX2_of_32 dX2_of_33 dX2_of_35 dX2_of_38 (by decide) (Or.inr (Or.inl ⟨h0_2, i32_nle.mp c_26⟩))
  · show W p l e { frames := 6, cells := 1, slots := 6, locals := 82 } s m [.ref x, .int v1, .int v2].toArray below meth c s.heap [] 0 0 (vx_MQ below (va_Qi (fun r (_ : Unit) => (v1 = 0 ∧ ((v2 = 0 ∧ r = f g 1) ∨ (v2 = 1 ∧ r = f g 3))) ∨ (¬ v1 = 0 ∧ ∃ k, k < n ∧ f (ad k) 0 = v1 ∧ ((v2 = 0 ∧ r = f (ad k) 1) ∨ (v2 = 1 ∧ r = f (ad k) 3) ∨ (v2 = 2 ∧ r = f (ad k) 4) ∨ (v2 = 3 ∧ r = f (ad k) 5) ∨ (v2 = 4 ∧ r = f (ad k) 6) ∨ (v2 = 5 ∧ r = f (ad k) 7) ∨ (v2 = 6 ∧ r = f (ad k) 8)))) (fun _ _ => True) (fun q => sz ≤ q)) (vx_X (fun _ : Unit => (¬ v1 = 0 ∧ ∀ k, k < n → ¬ f (ad k) 0 = v1) ∨ (v1 = 0 ∧ 1 < v2) ∨ (¬ v2 = 0 ∧ ¬ v2 = 1 ∧ ¬ v2 = 2 ∧ ¬ v2 = 3 ∧ ¬ v2 = 4 ∧ ¬ v2 = 5 ∧ ¬ v2 = 6)) (fun E _ _ => E = "java/lang/IllegalArgumentException") (fun q => sz ≤ q)) [.ref x, .int v1, .int v2].toArray s 1 6 (fun q => sz ≤ q)) (F0 m 5 ls [.ref (ad k_2)])
    refine lv_astore_n (lv' := [(3, .ref (ad k_2)), (0, .ref x), (1, .int v1), (2, .int v2)]) hx hb dX2_of_5 rfl hl (by decide) rfl (fun ls hl => ?_)
    refine lv_aload_n hx hb dX2_of_6 rfl (lv_at hl 0 rfl) ?_
    refine lv_ifnonnull (tgt := 20) hx hb dX2_of_7 (by decide) ?_
    refine lv_iload_n hx hb dX2_of_20 rfl (lv_at hl 2 rfl) ?_
    refine lv_if_ne (tgt := 39) hx hb dX2_of_21 (by decide) (fun c_21 => ?_) (fun c_21 => ?_)
    · refine lv_iload_n hx hb dX2_of_39 rfl (lv_at hl 3 rfl) ?_
      by_cases w_0 : v2 = 0
      · subst w_0
        refine lv_tableIn (off := 44) (tgt := 84) hx hb dX2_of_40 (by decide) (by decide) rfl (by decide) ?_
        refine lv_aload_n hx hb dX2_of_84 rfl (lv_at hl 0 rfl) ?_
        refine rN_behind S (hC.E (Or.inr ⟨_, hk_2, rfl⟩)) hC.nw dX2_of_85 ?_
        refine W.widen (k := 1) (n := 6) (by omega) (by omega) ?_
        refine vx_ret ?_
        exact W.iret (v := (f (ad k_2) 1)) hx hb hr (fun t9 ht9 _ => ⟨⟨_, (), rfl, Or.inr ⟨h0_2, k_2, hk_2, he_2, Or.inl (⟨rfl, rfl⟩)⟩, trivial⟩, by rw [ht9]; exact Nat.le_refl _, fun q _ _ => by rw [ht9]⟩) (fun _ h => nomatch h) dX2_of_88
      by_cases w_1 : v2 = 1
      · subst w_1
        refine lv_tableIn (off := 49) (tgt := 89) hx hb dX2_of_40 (by decide) (by decide) rfl (by decide) ?_
        refine lv_aload_n hx hb dX2_of_89 rfl (lv_at hl 0 rfl) ?_
        refine rN_followers S (hC.E (Or.inr ⟨_, hk_2, rfl⟩)) hC.nw dX2_of_90 ?_
        refine W.widen (k := 1) (n := 6) (by omega) (by omega) ?_
        refine vx_ret ?_
        exact W.iret (v := (f (ad k_2) 3)) hx hb hr (fun t9 ht9 _ => ⟨⟨_, (), rfl, Or.inr ⟨h0_2, k_2, hk_2, he_2, Or.inr (Or.inl (⟨rfl, rfl⟩))⟩, trivial⟩, by rw [ht9]; exact Nat.le_refl _, fun q _ _ => by rw [ht9]⟩) (fun _ h => nomatch h) dX2_of_93
      by_cases w_2 : v2 = 2
      · subst w_2
        refine lv_tableIn (off := 54) (tgt := 94) hx hb dX2_of_40 (by decide) (by decide) rfl (by decide) ?_
        refine lv_aload_n hx hb dX2_of_94 rfl (lv_at hl 0 rfl) ?_
        refine rN_sets S (hC.E (Or.inr ⟨_, hk_2, rfl⟩)) hC.nw dX2_of_95 ?_
        refine W.widen (k := 1) (n := 6) (by omega) (by omega) ?_
        refine vx_ret ?_
        exact W.iret (v := (f (ad k_2) 4)) hx hb hr (fun t9 ht9 _ => ⟨⟨_, (), rfl, Or.inr ⟨h0_2, k_2, hk_2, he_2, Or.inr (Or.inr (Or.inl (⟨rfl, rfl⟩)))⟩, trivial⟩, by rw [ht9]; exact Nat.le_refl _, fun q _ _ => by rw [ht9]⟩) (fun _ h => nomatch h) dX2_of_98
      by_cases w_3 : v2 = 3
      · subst w_3
        refine lv_tableIn (off := 59) (tgt := 99) hx hb dX2_of_40 (by decide) (by decide) rfl (by decide) ?_
        refine lv_aload_n hx hb dX2_of_99 rfl (lv_at hl 0 rfl) ?_
        refine rN_removes S (hC.E (Or.inr ⟨_, hk_2, rfl⟩)) hC.nw dX2_of_100 ?_
        refine W.widen (k := 1) (n := 6) (by omega) (by omega) ?_
        refine vx_ret ?_
        exact W.iret (v := (f (ad k_2) 5)) hx hb hr (fun t9 ht9 _ => ⟨⟨_, (), rfl, Or.inr ⟨h0_2, k_2, hk_2, he_2, Or.inr (Or.inr (Or.inr (Or.inl (⟨rfl, rfl⟩))))⟩, trivial⟩, by rw [ht9]; exact Nat.le_refl _, fun q _ _ => by rw [ht9]⟩) (fun _ h => nomatch h) dX2_of_103
      by_cases w_4 : v2 = 4
      · subst w_4
        refine lv_tableIn (off := 64) (tgt := 104) hx hb dX2_of_40 (by decide) (by decide) rfl (by decide) ?_
        refine lv_aload_n hx hb dX2_of_104 rfl (lv_at hl 0 rfl) ?_
        refine rN_standing S (hC.E (Or.inr ⟨_, hk_2, rfl⟩)) hC.nw dX2_of_105 ?_
        refine W.widen (k := 1) (n := 6) (by omega) (by omega) ?_
        refine vx_ret ?_
        exact W.iret (v := (f (ad k_2) 6)) hx hb hr (fun t9 ht9 _ => ⟨⟨_, (), rfl, Or.inr ⟨h0_2, k_2, hk_2, he_2, Or.inr (Or.inr (Or.inr (Or.inr (Or.inl (⟨rfl, rfl⟩)))))⟩, trivial⟩, by rw [ht9]; exact Nat.le_refl _, fun q _ _ => by rw [ht9]⟩) (fun _ h => nomatch h) dX2_of_108
      by_cases w_5 : v2 = 5
      · subst w_5
        refine lv_tableIn (off := 69) (tgt := 109) hx hb dX2_of_40 (by decide) (by decide) rfl (by decide) ?_
        refine lv_aload_n hx hb dX2_of_109 rfl (lv_at hl 0 rfl) ?_
        refine rN_kind S (hC.E (Or.inr ⟨_, hk_2, rfl⟩)) hC.nw dX2_of_110 ?_
        refine W.widen (k := 1) (n := 6) (by omega) (by omega) ?_
        refine vx_ret ?_
        exact W.iret (v := (f (ad k_2) 7)) hx hb hr (fun t9 ht9 _ => ⟨⟨_, (), rfl, Or.inr ⟨h0_2, k_2, hk_2, he_2, Or.inr (Or.inr (Or.inr (Or.inr (Or.inr (Or.inl (⟨rfl, rfl⟩))))))⟩, trivial⟩, by rw [ht9]; exact Nat.le_refl _, fun q _ _ => by rw [ht9]⟩) (fun _ h => nomatch h) dX2_of_113
      by_cases w_6 : v2 = 6
      · subst w_6
        refine lv_tableIn (off := 74) (tgt := 114) hx hb dX2_of_40 (by decide) (by decide) rfl (by decide) ?_
        refine lv_aload_n hx hb dX2_of_114 rfl (lv_at hl 0 rfl) ?_
        refine rN_value S (hC.E (Or.inr ⟨_, hk_2, rfl⟩)) hC.nw dX2_of_115 ?_
        refine W.widen (k := 1) (n := 6) (by omega) (by omega) ?_
        refine vx_ret ?_
        exact W.iret (v := (f (ad k_2) 8)) hx hb hr (fun t9 ht9 _ => ⟨⟨_, (), rfl, Or.inr ⟨h0_2, k_2, hk_2, he_2, Or.inr (Or.inr (Or.inr (Or.inr (Or.inr (Or.inr (⟨rfl, rfl⟩))))))⟩, trivial⟩, by rw [ht9]; exact Nat.le_refl _, fun q _ _ => by rw [ht9]⟩) (fun _ h => nomatch h) dX2_of_118
      have z_0 := lv_neT w_0 (show (0 : Int32).toInt = 0 by decide)
      have z_1 := lv_neT w_1 (show (1 : Int32).toInt = 1 by decide)
      have z_2 := lv_neT w_2 (show (2 : Int32).toInt = 2 by decide)
      have z_3 := lv_neT w_3 (show (3 : Int32).toInt = 3 by decide)
      have z_4 := lv_neT w_4 (show (4 : Int32).toInt = 4 by decide)
      have z_5 := lv_neT w_5 (show (5 : Int32).toInt = 5 by decide)
      have z_6 := lv_neT w_6 (show (6 : Int32).toInt = 6 by decide)
      refine lv_tableOut (tgt := 119) hx hb dX2_of_40 (by omega) (by decide) ?_
      exact thrA hl9 S hnt hlocks hE hE.2.2.2.2.2.1 hl.1 dX2_of_119 dX2_of_122 dX2_of_123 dX2_of_125 dX2_of_128 (by decide) (Or.inr (Or.inr ⟨w_0, w_1, w_2, w_3, w_4, w_5, w_6⟩))
    · exact absurd c_21 h0_2
  · show W p l e { frames := 6, cells := 1, slots := 6, locals := 82 } s m [.ref x, .int v1, .int v2].toArray below meth c s.heap [] 0 0 (vx_MQ below (va_Qi (fun r (_ : Unit) => (v1 = 0 ∧ ((v2 = 0 ∧ r = f g 1) ∨ (v2 = 1 ∧ r = f g 3))) ∨ (¬ v1 = 0 ∧ ∃ k, k < n ∧ f (ad k) 0 = v1 ∧ ((v2 = 0 ∧ r = f (ad k) 1) ∨ (v2 = 1 ∧ r = f (ad k) 3) ∨ (v2 = 2 ∧ r = f (ad k) 4) ∨ (v2 = 3 ∧ r = f (ad k) 5) ∨ (v2 = 4 ∧ r = f (ad k) 6) ∨ (v2 = 5 ∧ r = f (ad k) 7) ∨ (v2 = 6 ∧ r = f (ad k) 8)))) (fun _ _ => True) (fun q => sz ≤ q)) (vx_X (fun _ : Unit => (¬ v1 = 0 ∧ ∀ k, k < n → ¬ f (ad k) 0 = v1) ∨ (v1 = 0 ∧ 1 < v2) ∨ (¬ v2 = 0 ∧ ¬ v2 = 1 ∧ ¬ v2 = 2 ∧ ¬ v2 = 3 ∧ ¬ v2 = 4 ∧ ¬ v2 = 5 ∧ ¬ v2 = 6)) (fun E _ _ => E = "java/lang/IllegalArgumentException") (fun q => sz ≤ q)) [.ref x, .int v1, .int v2].toArray s 1 6 (fun q => sz ≤ q)) (F0 m 5 ls [.null])
    refine lv_astore_nN (lv' := [(3, .null), (0, .ref x), (1, .int v1), (2, .int v2)]) hx hb dX2_of_5 rfl hl (by decide) rfl (fun ls hl => ?_)
    refine lv_aload_nN hx hb dX2_of_6 rfl (lv_at hl 0 rfl) ?_
    refine lv_ifnonnullN hx hb dX2_of_7 ?_
    exact thrA hl9 S hnt hlocks hE hE.2.2.2.2.2.2.1 hl.1 dX2_of_10 dX2_of_13 dX2_of_14 dX2_of_16 dX2_of_19 (by decide) (Or.inl ⟨h0_2, hn_2⟩)
