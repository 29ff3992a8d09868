set_option maxHeartbeats 4000000 in
set_option maxRecDepth 100000 in
theorem c_X2_insert (l : Launch) {D : va_G} {x u i g w : Nat} {cI cW : ClassId} {LP : List Nat} {f : Nat → Nat → Int32} {wv : Nat → Option Nat} {n cn cnt : Nat} {ids : Nat → Int32} {sz : Nat} (v1 v2 v3 v4 : Int32) (hI : CI g f wv n cn cnt ids) : Met l yX2_insert (gws yX2_insert cX2_insert 6 (some .boolean)) { frames := 3, cells := 1, slots := 9, locals := 88 } (va_Pc [.ref x, .int v1, .int v2, .int v3, .int v4] (fun U => CPre D x u i g w cI cW LP f wv n cn cnt ids sz U U.heap)) (va_Qi (fun r (z : CS) => (((v2 = 0 ∨ ∃ k, k < n ∧ f (adv wv k) 0 = v2) ∧ ¬ v1 ≤ v2 ∧ Fre ids cnt v1 ∧ (¬ v3 < 0 ∧ ¬ 7 ≤ v3) ∧ n < 512) ∧ r = 1 ∧ ∃ b T m, Par f (adv wv) n g b T ∧ f b 0 = v2 ∧ WVd LP f wv n cn cnt ids v1 b v3 v4 T m z) ∨ (¬ ((v2 = 0 ∨ ∃ k, k < n ∧ f (adv wv k) 0 = v2) ∧ ¬ v1 ≤ v2 ∧ Fre ids cnt v1 ∧ (¬ v3 < 0 ∧ ¬ 7 ≤ v3) ∧ n < 512) ∧ r = 0 ∧ z = (LP, f, wv, n, cn, cnt, ids))) (CB D x u i g w cI cW (va_A (wC x u i g w cI cW LP f wv n cn cnt ids) sz)) (va_A (wC x u i g w cI cW LP f wv n cn cnt ids) sz)) 1 9 (va_A (wC x u i g w cI cW LP f wv n cn cnt ids) sz) := by
  refine met_cc (QQ := fun AA => va_Qi (fun r (z : CS) => (((v2 = 0 ∨ ∃ k, k < n ∧ f (adv wv k) 0 = v2) ∧ ¬ v1 ≤ v2 ∧ Fre ids cnt v1 ∧ (¬ v3 < 0 ∧ ¬ 7 ≤ v3) ∧ n < 512) ∧ r = 1 ∧ ∃ b T m, Par f (adv wv) n g b T ∧ f b 0 = v2 ∧ WVd LP f wv n cn cnt ids v1 b v3 v4 T m z) ∨ (¬ ((v2 = 0 ∨ ∃ k, k < n ∧ f (adv wv k) 0 = v2) ∧ ¬ v1 ≤ v2 ∧ Fre ids cnt v1 ∧ (¬ v3 < 0 ∧ ¬ 7 ≤ v3) ∧ n < 512) ∧ r = 0 ∧ z = (LP, f, wv, n, cn, cnt, ids))) (CB D x u i g w cI cW AA) AA) (by decide) (Nat.le_of_ble_eq_true rfl) ?_
  intro p e s m below meth c ls AA S hr hlocks hG hl
  obtain ⟨hx, hb, hml, hown, hg⟩ := id S
  have hl : lv_has ls 6 [(0, .ref x), (1, .int v1), (2, .int v2), (3, .int v3), (4, .int v4)] := hl
  suffices key9 : ∀ (H : Heap) (locs : List Loc), CC D x u i g w cI cW LP f wv n cn cnt ids AA s.heap s H locs → W p l e { frames := 3, cells := 1, slots := 9, locals := 88 } s m [.ref x, .int v1, .int v2, .int v3, .int v4].toArray below meth c H locs 0 0 (MQ below ((fun AA : Nat → Prop => va_Qi (fun r (z : CS) => (((v2 = 0 ∨ ∃ k, k < n ∧ f (adv wv k) 0 = v2) ∧ ¬ v1 ≤ v2 ∧ Fre ids cnt v1 ∧ (¬ v3 < 0 ∧ ¬ 7 ≤ v3) ∧ n < 512) ∧ r = 1 ∧ ∃ b T m, Par f (adv wv) n g b T ∧ f b 0 = v2 ∧ WVd LP f wv n cn cnt ids v1 b v3 v4 T m z) ∨ (¬ ((v2 = 0 ∨ ∃ k, k < n ∧ f (adv wv k) 0 = v2) ∧ ¬ v1 ≤ v2 ∧ Fre ids cnt v1 ∧ (¬ v3 < 0 ∧ ¬ 7 ≤ v3) ∧ n < 512) ∧ r = 0 ∧ z = (LP, f, wv, n, cn, cnt, ids))) (CB D x u i g w cI cW AA) AA) AA) [.ref x, .int v1, .int v2, .int v3, .int v4].toArray s 1 9 AA) (F0 m 0 ls []) from key9 _ _ hG
  clear hG
  intro H locs hG
  obtain ⟨ad, had⟩ : ∃ ad, ad = adv wv := ⟨_, rfl⟩
  have hC : RdC D x u i g w n cn cnt ids ad f s H := by rw [had]; exact hG.rd
  have hn := hG.1.2.2
  have hs := hI.1
  have hcn := hI.2.1
  refine lv_aload_n hx hb dX2_insert_0 rfl (lv_at hl 0 rfl) ?_
  refine lv_iload_n hx hb dX2_insert_1 rfl (lv_at hl 2 rfl) ?_
  refine va_csq (va_Run.run (runV (As := [.int v2]) (rest := []) (Bh := RdC D x u i g w n cn cnt ids ad f) S (c_X2_elementOrBeginning l v2) (gw_V wk_106 wk_108 wp_1 wk_1 wk_109) rfl rfl 1 rfl (by decide +kernel) (by decide) (by decide) (fun _ _ _ h q => RdC.mv h q) hC.recv hC hl.1 (Nat.le_of_ble_eq_true rfl) dX2_insert_2)) (fun r hr => ?_)
  rcases hr with ⟨h0_2, rfl⟩ | ⟨h0_2, ⟨k_2, hk_2, he_2, rfl⟩ | ⟨hn_2, rfl⟩⟩
  · show W p l e { frames := 3, cells := 1, slots := 9, locals := 88 } s m [.ref x, .int v1, .int v2, .int v3, .int v4].toArray below meth c H locs 0 0 (MQ below ((fun AA : Nat → Prop => va_Qi (fun r (z : CS) => (((v2 = 0 ∨ ∃ k, k < n ∧ f (adv wv k) 0 = v2) ∧ ¬ v1 ≤ v2 ∧ Fre ids cnt v1 ∧ (¬ v3 < 0 ∧ ¬ 7 ≤ v3) ∧ n < 512) ∧ r = 1 ∧ ∃ b T m, Par f (adv wv) n g b T ∧ f b 0 = v2 ∧ WVd LP f wv n cn cnt ids v1 b v3 v4 T m z) ∨ (¬ ((v2 = 0 ∨ ∃ k, k < n ∧ f (adv wv k) 0 = v2) ∧ ¬ v1 ≤ v2 ∧ Fre ids cnt v1 ∧ (¬ v3 < 0 ∧ ¬ 7 ≤ v3) ∧ n < 512) ∧ r = 0 ∧ z = (LP, f, wv, n, cn, cnt, ids))) (CB D x u i g w cI cW AA) AA) AA) [.ref x, .int v1, .int v2, .int v3, .int v4].toArray s 1 9 AA) (F0 m 5 ls [.ref g])
    refine lv_astore (lv' := [(5, .ref g), (0, .ref x), (1, .int v1), (2, .int v2), (3, .int v3), (4, .int v4)]) hx hb dX2_insert_5 hl (by decide) rfl (fun ls hl => ?_)
    refine lv_aload hx hb dX2_insert_7 (lv_at hl 0 rfl) ?_
    refine lv_ifnull hx hb dX2_insert_9 ?_
    refine lv_iload_n hx hb dX2_insert_12 rfl (lv_at hl 2 rfl) ?_
    refine lv_iload_n hx hb dX2_insert_13 rfl (lv_at hl 3 rfl) ?_
    refine lv_icmp_le (tgt := 42) hx hb dX2_insert_14 (by decide) (fun c_14 => ?_) (fun c_14 => ?_)
    · refine lv_iconst (v := 0) hx hb dX2_insert_42 (by decide) ?_
      refine W.widen (k := 1) (n := 9) (by omega) (by omega) ?_
      exact W.zret (v := 0) hx hb hr rfl (fun t9 ht9 hW9 => ⟨⟨_, (LP, f, wv, n, cn, cnt, ids), rfl, Or.inr ⟨fun y9 => y9.2.1 c_14, rfl, rfl⟩, (hG.out ht9 hW9).1⟩, (hG.out ht9 hW9).2⟩) hG.2.2.S.2.2 dX2_insert_43
    · refine lv_aload_n hx hb dX2_insert_17 rfl (lv_at hl 1 rfl) ?_
      refine lv_iload_n hx hb dX2_insert_18 rfl (lv_at hl 2 rfl) ?_
      refine vp_callSi (va_Run.run (runV (As := [.int v1]) (rest := []) (Bh := RdC D x u i g w n cn cnt ids ad f) S (c_X2_isFree l v1 hs) (gw_V wk_118 wk_120 wp_4 wk_1 wk_121) rfl rfl 1 rfl (by decide +kernel) (by decide) (by decide) (fun _ _ _ h q => RdC.mv h q) hC.recv hC hl.1 (Nat.le_of_ble_eq_true rfl) dX2_insert_19)) (fun r hr => ?_)
      rcases hr with ⟨h_19, rfl⟩ | ⟨h_19, rfl⟩
      · refine lv_if_eq (tgt := 42) hx hb dX2_insert_22 (by decide) (fun c_22 => ?_) (fun c_22 => ?_)
        · exact absurd (show _ from c_22) (by decide)
        · refine lv_iload_n hx hb dX2_insert_25 rfl (lv_at hl 4 rfl) ?_
          refine vp_callSi (va_Run.run (runS (As := [.int v3]) (rest := []) (Bh := (fun _ _ => True)) S (c_X2_isKind l v3) (gw_S wk_131 wk_132 wk_1 wk_133) rfl rfl 1 rfl (by decide +kernel) (by decide) (by decide) (fun _ _ _ _ _ => trivial) trivial hl.1 (Nat.le_of_ble_eq_true rfl) dX2_insert_26)) (fun r hr => ?_)
          rcases hr with ⟨h_26, rfl⟩ | ⟨h_26, rfl⟩
          · refine lv_if_eq (tgt := 42) hx hb dX2_insert_29 (by decide) (fun c_29 => ?_) (fun c_29 => ?_)
            · exact absurd (show _ from c_29) (by decide)
            · refine lv_aload_n hx hb dX2_insert_32 rfl (lv_at hl 1 rfl) ?_
              refine rC_elements S hG.rd dX2_insert_33 ?_
              refine lv_sipush (v := nI 512) hx hb dX2_insert_36 (by decide) ?_
              refine lv_icmp_lt (tgt := 44) hx hb dX2_insert_39 (by decide) (fun c_39 => ?_) (fun c_39 => ?_)
              · rw [nI_ltI (by omega) (by omega)] at c_39
                refine lv_aload_n hx hb dX2_insert_44 rfl (lv_at hl 1 rfl) ?_
                refine lv_iload_n hx hb dX2_insert_45 rfl (lv_at hl 2 rfl) ?_
                refine lv_aload hx hb dX2_insert_46 (lv_at hl 0 rfl) ?_
                refine lv_iload_n hx hb dX2_insert_48 rfl (lv_at hl 4 rfl) ?_
                refine lv_iload hx hb dX2_insert_49 (lv_at hl 5 rfl) ?_
                refine va_callq (runV (As := [.int v1, .ref g, .int v3, .int v4]) (rest := []) (Bh := CPre D x u i g w cI cW LP f wv n cn cnt ids H.size) S (c_X2_weave l v1 g v3 v4 (T := 0) hI.par0 hs (by omega) (by omega)) (gw_V wk_134 wk_136 wp_7 wk_1 wk_137) rfl rfl 4 rfl (by decide +kernel) (by decide) (by decide) (fun _ _ _ h q => CPre.mv h q) hG.rd.recv hG.pre hl.1 (Nat.le_of_ble_eq_true rfl) dX2_insert_51) hG.2.2.S (fun q _ h => hG.2.2.free q h) hG.2.2.free (fun r8 u8 t8 H1 locs1 ht8 hvm8 hp hB8 hz8 hk8 hS8 => ?_)
                have hG_51 := hG.1
                have hG := hG.back ht8 hB8 hS8
                clear hS8 hB8 hz8 hk8 ht8 hvm8
                generalize H1 = H at hG ⊢
                generalize locs1 = locs at hG ⊢
                obtain ⟨m_51, rfl, hW_51⟩ := hp
                refine W.eq (g2 := F0 m 54 ls [.ref m_51]) rfl ?_
                refine lv_pop hx hb dX2_insert_54 rfl ?_
                refine lv_iconst (v := 1) hx hb dX2_insert_55 (by decide) ?_
                refine W.widen (k := 1) (n := 9) (by omega) (by omega) ?_
                exact W.zret (v := 1) hx hb hr rfl (fun t9 ht9 hW9 => ⟨⟨_, (u8.1, u8.2.1, u8.2.2.1, u8.2.2.2.1, u8.2.2.2.2.1, u8.2.2.2.2.2.1, u8.2.2.2.2.2.2), rfl, Or.inl ⟨⟨Or.inl h0_2, c_14, h_19, h_26, by omega⟩, rfl, ⟨g, 0, m_51, hI.par0, by rw [h0_2]; exact hI.2.2.1, hW_51⟩⟩, (hG.out ht9 hW9).1⟩, (hG.out ht9 hW9).2⟩) hG.2.2.S.2.2 dX2_insert_56
              · rw [nI_ltI (by omega) (by omega)] at c_39
                refine lv_iconst (v := 0) hx hb dX2_insert_42 (by decide) ?_
                refine W.widen (k := 1) (n := 9) (by omega) (by omega) ?_
                exact W.zret (v := 0) hx hb hr rfl (fun t9 ht9 hW9 => ⟨⟨_, (LP, f, wv, n, cn, cnt, ids), rfl, Or.inr ⟨fun y9 => absurd y9.2.2.2.2 (by omega), rfl, rfl⟩, (hG.out ht9 hW9).1⟩, (hG.out ht9 hW9).2⟩) hG.2.2.S.2.2 dX2_insert_43
          · refine lv_if_eq (tgt := 42) hx hb dX2_insert_29 (by decide) (fun c_29 => ?_) (fun c_29 => ?_)
            · refine lv_iconst (v := 0) hx hb dX2_insert_42 (by decide) ?_
              refine W.widen (k := 1) (n := 9) (by omega) (by omega) ?_
              exact W.zret (v := 0) hx hb hr rfl (fun t9 ht9 hW9 => ⟨⟨_, (LP, f, wv, n, cn, cnt, ids), rfl, Or.inr ⟨fun y9 => h_26 y9.2.2.2.1, rfl, rfl⟩, (hG.out ht9 hW9).1⟩, (hG.out ht9 hW9).2⟩) hG.2.2.S.2.2 dX2_insert_43
            · exact absurd (show _ from c_29) (by decide)
      · refine lv_if_eq (tgt := 42) hx hb dX2_insert_22 (by decide) (fun c_22 => ?_) (fun c_22 => ?_)
        · refine lv_iconst (v := 0) hx hb dX2_insert_42 (by decide) ?_
          refine W.widen (k := 1) (n := 9) (by omega) (by omega) ?_
          exact W.zret (v := 0) hx hb hr rfl (fun t9 ht9 hW9 => ⟨⟨_, (LP, f, wv, n, cn, cnt, ids), rfl, Or.inr ⟨fun y9 => h_19 y9.2.2.1, rfl, rfl⟩, (hG.out ht9 hW9).1⟩, (hG.out ht9 hW9).2⟩) hG.2.2.S.2.2 dX2_insert_43
        · exact absurd (show _ from c_22) (by decide)
  · show W p l e { frames := 3, cells := 1, slots := 9, locals := 88 } s m [.ref x, .int v1, .int v2, .int v3, .int v4].toArray below meth c H locs 0 0 (MQ below ((fun AA : Nat → Prop => va_Qi (fun r (z : CS) => (((v2 = 0 ∨ ∃ k, k < n ∧ f (adv wv k) 0 = v2) ∧ ¬ v1 ≤ v2 ∧ Fre ids cnt v1 ∧ (¬ v3 < 0 ∧ ¬ 7 ≤ v3) ∧ n < 512) ∧ r = 1 ∧ ∃ b T m, Par f (adv wv) n g b T ∧ f b 0 = v2 ∧ WVd LP f wv n cn cnt ids v1 b v3 v4 T m z) ∨ (¬ ((v2 = 0 ∨ ∃ k, k < n ∧ f (adv wv k) 0 = v2) ∧ ¬ v1 ≤ v2 ∧ Fre ids cnt v1 ∧ (¬ v3 < 0 ∧ ¬ 7 ≤ v3) ∧ n < 512) ∧ r = 0 ∧ z = (LP, f, wv, n, cn, cnt, ids))) (CB D x u i g w cI cW AA) AA) AA) [.ref x, .int v1, .int v2, .int v3, .int v4].toArray s 1 9 AA) (F0 m 5 ls [.ref (ad k_2)])
    refine lv_astore (lv' := [(5, .ref (ad k_2)), (0, .ref x), (1, .int v1), (2, .int v2), (3, .int v3), (4, .int v4)]) hx hb dX2_insert_5 hl (by decide) rfl (fun ls hl => ?_)
    refine lv_aload hx hb dX2_insert_7 (lv_at hl 0 rfl) ?_
    refine lv_ifnull hx hb dX2_insert_9 ?_
    refine lv_iload_n hx hb dX2_insert_12 rfl (lv_at hl 2 rfl) ?_
    refine lv_iload_n hx hb dX2_insert_13 rfl (lv_at hl 3 rfl) ?_
    refine lv_icmp_le (tgt := 42) hx hb dX2_insert_14 (by decide) (fun c_14 => ?_) (fun c_14 => ?_)
    · refine lv_iconst (v := 0) hx hb dX2_insert_42 (by decide) ?_
      refine W.widen (k := 1) (n := 9) (by omega) (by omega) ?_
      exact W.zret (v := 0) hx hb hr rfl (fun t9 ht9 hW9 => ⟨⟨_, (LP, f, wv, n, cn, cnt, ids), rfl, Or.inr ⟨fun y9 => y9.2.1 c_14, rfl, rfl⟩, (hG.out ht9 hW9).1⟩, (hG.out ht9 hW9).2⟩) hG.2.2.S.2.2 dX2_insert_43
    · refine lv_aload_n hx hb dX2_insert_17 rfl (lv_at hl 1 rfl) ?_
      refine lv_iload_n hx hb dX2_insert_18 rfl (lv_at hl 2 rfl) ?_
      refine vp_callSi (va_Run.run (runV (As := [.int v1]) (rest := []) (Bh := RdC D x u i g w n cn cnt ids ad f) S (c_X2_isFree l v1 hs) (gw_V wk_118 wk_120 wp_4 wk_1 wk_121) rfl rfl 1 rfl (by decide +kernel) (by decide) (by decide) (fun _ _ _ h q => RdC.mv h q) hC.recv hC hl.1 (Nat.le_of_ble_eq_true rfl) dX2_insert_19)) (fun r hr => ?_)
      rcases hr with ⟨h_19, rfl⟩ | ⟨h_19, rfl⟩
      · refine lv_if_eq (tgt := 42) hx hb dX2_insert_22 (by decide) (fun c_22 => ?_) (fun c_22 => ?_)
        · exact absurd (show _ from c_22) (by decide)
        · refine lv_iload_n hx hb dX2_insert_25 rfl (lv_at hl 4 rfl) ?_
          refine vp_callSi (va_Run.run (runS (As := [.int v3]) (rest := []) (Bh := (fun _ _ => True)) S (c_X2_isKind l v3) (gw_S wk_131 wk_132 wk_1 wk_133) rfl rfl 1 rfl (by decide +kernel) (by decide) (by decide) (fun _ _ _ _ _ => trivial) trivial hl.1 (Nat.le_of_ble_eq_true rfl) dX2_insert_26)) (fun r hr => ?_)
          rcases hr with ⟨h_26, rfl⟩ | ⟨h_26, rfl⟩
          · refine lv_if_eq (tgt := 42) hx hb dX2_insert_29 (by decide) (fun c_29 => ?_) (fun c_29 => ?_)
            · exact absurd (show _ from c_29) (by decide)
            · refine lv_aload_n hx hb dX2_insert_32 rfl (lv_at hl 1 rfl) ?_
              refine rC_elements S hG.rd dX2_insert_33 ?_
              refine lv_sipush (v := nI 512) hx hb dX2_insert_36 (by decide) ?_
              refine lv_icmp_lt (tgt := 44) hx hb dX2_insert_39 (by decide) (fun c_39 => ?_) (fun c_39 => ?_)
              · rw [nI_ltI (by omega) (by omega)] at c_39
                subst had
                refine lv_aload_n hx hb dX2_insert_44 rfl (lv_at hl 1 rfl) ?_
                refine lv_iload_n hx hb dX2_insert_45 rfl (lv_at hl 2 rfl) ?_
                refine lv_aload hx hb dX2_insert_46 (lv_at hl 0 rfl) ?_
                refine lv_iload_n hx hb dX2_insert_48 rfl (lv_at hl 4 rfl) ?_
                refine lv_iload hx hb dX2_insert_49 (lv_at hl 5 rfl) ?_
                refine va_callq (runV (As := [.int v1, .ref (adv wv k_2), .int v3, .int v4]) (rest := []) (Bh := CPre D x u i g w cI cW LP f wv n cn cnt ids H.size) S (c_X2_weave l v1 (adv wv k_2) v3 v4 (T := k_2 + 1) (hI.par hk_2) hs (by omega) (by omega)) (gw_V wk_134 wk_136 wp_7 wk_1 wk_137) rfl rfl 4 rfl (by decide +kernel) (by decide) (by decide) (fun _ _ _ h q => CPre.mv h q) hG.rd.recv hG.pre hl.1 (Nat.le_of_ble_eq_true rfl) dX2_insert_51) hG.2.2.S (fun q _ h => hG.2.2.free q h) hG.2.2.free (fun r8 u8 t8 H1 locs1 ht8 hvm8 hp hB8 hz8 hk8 hS8 => ?_)
                have hG_51 := hG.1
                have hG := hG.back ht8 hB8 hS8
                clear hS8 hB8 hz8 hk8 ht8 hvm8
                generalize H1 = H at hG ⊢
                generalize locs1 = locs at hG ⊢
                obtain ⟨m_51, rfl, hW_51⟩ := hp
                refine W.eq (g2 := F0 m 54 ls [.ref m_51]) rfl ?_
                refine lv_pop hx hb dX2_insert_54 rfl ?_
                refine lv_iconst (v := 1) hx hb dX2_insert_55 (by decide) ?_
                refine W.widen (k := 1) (n := 9) (by omega) (by omega) ?_
                exact W.zret (v := 1) hx hb hr rfl (fun t9 ht9 hW9 => ⟨⟨_, (u8.1, u8.2.1, u8.2.2.1, u8.2.2.2.1, u8.2.2.2.2.1, u8.2.2.2.2.2.1, u8.2.2.2.2.2.2), rfl, Or.inl ⟨⟨Or.inr ⟨k_2, hk_2, he_2⟩, c_14, h_19, h_26, by omega⟩, rfl, ⟨adv wv k_2, k_2 + 1, m_51, hI.par hk_2, he_2, hW_51⟩⟩, (hG.out ht9 hW9).1⟩, (hG.out ht9 hW9).2⟩) hG.2.2.S.2.2 dX2_insert_56
              · rw [nI_ltI (by omega) (by omega)] at c_39
                refine lv_iconst (v := 0) hx hb dX2_insert_42 (by decide) ?_
                refine W.widen (k := 1) (n := 9) (by omega) (by omega) ?_
                exact W.zret (v := 0) hx hb hr rfl (fun t9 ht9 hW9 => ⟨⟨_, (LP, f, wv, n, cn, cnt, ids), rfl, Or.inr ⟨fun y9 => absurd y9.2.2.2.2 (by omega), rfl, rfl⟩, (hG.out ht9 hW9).1⟩, (hG.out ht9 hW9).2⟩) hG.2.2.S.2.2 dX2_insert_43
          · refine lv_if_eq (tgt := 42) hx hb dX2_insert_29 (by decide) (fun c_29 => ?_) (fun c_29 => ?_)
            · refine lv_iconst (v := 0) hx hb dX2_insert_42 (by decide) ?_
              refine W.widen (k := 1) (n := 9) (by omega) (by omega) ?_
              exact W.zret (v := 0) hx hb hr rfl (fun t9 ht9 hW9 => ⟨⟨_, (LP, f, wv, n, cn, cnt, ids), rfl, Or.inr ⟨fun y9 => h_26 y9.2.2.2.1, rfl, rfl⟩, (hG.out ht9 hW9).1⟩, (hG.out ht9 hW9).2⟩) hG.2.2.S.2.2 dX2_insert_43
            · exact absurd (show _ from c_29) (by decide)
      · refine lv_if_eq (tgt := 42) hx hb dX2_insert_22 (by decide) (fun c_22 => ?_) (fun c_22 => ?_)
        · refine lv_iconst (v := 0) hx hb dX2_insert_42 (by decide) ?_
          refine W.widen (k := 1) (n := 9) (by omega) (by omega) ?_
          exact W.zret (v := 0) hx hb hr rfl (fun t9 ht9 hW9 => ⟨⟨_, (LP, f, wv, n, cn, cnt, ids), rfl, Or.inr ⟨fun y9 => h_19 y9.2.2.1, rfl, rfl⟩, (hG.out ht9 hW9).1⟩, (hG.out ht9 hW9).2⟩) hG.2.2.S.2.2 dX2_insert_43
        · exact absurd (show _ from c_22) (by decide)
  · show W p l e { frames := 3, cells := 1, slots := 9, locals := 88 } s m [.ref x, .int v1, .int v2, .int v3, .int v4].toArray below meth c H locs 0 0 (MQ below ((fun AA : Nat → Prop => va_Qi (fun r (z : CS) => (((v2 = 0 ∨ ∃ k, k < n ∧ f (adv wv k) 0 = v2) ∧ ¬ v1 ≤ v2 ∧ Fre ids cnt v1 ∧ (¬ v3 < 0 ∧ ¬ 7 ≤ v3) ∧ n < 512) ∧ r = 1 ∧ ∃ b T m, Par f (adv wv) n g b T ∧ f b 0 = v2 ∧ WVd LP f wv n cn cnt ids v1 b v3 v4 T m z) ∨ (¬ ((v2 = 0 ∨ ∃ k, k < n ∧ f (adv wv k) 0 = v2) ∧ ¬ v1 ≤ v2 ∧ Fre ids cnt v1 ∧ (¬ v3 < 0 ∧ ¬ 7 ≤ v3) ∧ n < 512) ∧ r = 0 ∧ z = (LP, f, wv, n, cn, cnt, ids))) (CB D x u i g w cI cW AA) AA) AA) [.ref x, .int v1, .int v2, .int v3, .int v4].toArray s 1 9 AA) (F0 m 5 ls [.null])
    refine lv_astoreN (lv' := [(5, .null), (0, .ref x), (1, .int v1), (2, .int v2), (3, .int v3), (4, .int v4)]) hx hb dX2_insert_5 hl (by decide) rfl (fun ls hl => ?_)
    refine lv_aloadN hx hb dX2_insert_7 (lv_at hl 0 rfl) ?_
    refine lv_ifnullN (tgt := 42) hx hb dX2_insert_9 (by decide) ?_
    refine lv_iconst (v := 0) hx hb dX2_insert_42 (by decide) ?_
    refine W.widen (k := 1) (n := 9) (by omega) (by omega) ?_
    exact W.zret (v := 0) hx hb hr rfl (fun t9 ht9 hW9 => ⟨⟨_, (LP, f, wv, n, cn, cnt, ids), rfl, Or.inr ⟨fun y9 => y9.1.elim (fun e9 => h0_2 e9) (fun ⟨k9, g1, g2⟩ => hn_2 k9 g1 (by rw [had]; exact g2)), rfl, rfl⟩, (hG.out ht9 hW9).1⟩, (hG.out ht9 hW9).2⟩) hG.2.2.S.2.2 dX2_insert_43
set_option maxHeartbeats 4000000 in
set_option maxRecDepth 100000 in
theorem c_X2_set (l : Launch) {D : va_G} {x u i g w : Nat} {cI cW : ClassId} {LP : List Nat} {f : Nat → Nat → Int32} {wv : Nat → Option Nat} {n cn cnt : Nat} {ids : Nat → Int32} {sz : Nat} (v1 v2 v3 v4 : Int32) (hI : CI g f wv n cn cnt ids) : Met l yX2_set (gws yX2_set cX2_set 6 (some .boolean)) { frames := 4, cells := 0, slots := 0, locals := 89 } (va_Pc [.ref x, .int v1, .int v2, .int v3, .int v4] (fun U => CPre D x u i g w cI cW LP f wv n cn cnt ids sz U U.heap)) (va_Qi (fun r (z : CS) => (((∃ k, k < n ∧ f (adv wv k) 0 = v2) ∧ (Fre ids cnt v1 ∧ ¬ v1 ≤ v2 ∧ cn < 1024) ∧ (¬ v3 < 0 ∧ ¬ 7 ≤ v3)) ∧ r = 1 ∧ ∃ k q, k < n ∧ f (adv wv k) 0 = v2 ∧ Fnb ids cnt v1 q ∧ z = (LP, va_up f (adv wv k) (ofr (va_up (f (adv wv k)) 4 (f (adv wv k) 4 + 1)) v1 v3 v4), wv, n, cn + 1, cnt + 1, nte ids cnt q v1)) ∨ (¬ ((∃ k, k < n ∧ f (adv wv k) 0 = v2) ∧ (Fre ids cnt v1 ∧ ¬ v1 ≤ v2 ∧ cn < 1024) ∧ (¬ v3 < 0 ∧ ¬ 7 ≤ v3)) ∧ r = 0 ∧ z = (LP, f, wv, n, cn, cnt, ids))) (CB D x u i g w cI cW (va_A (wC x u i g w cI cW LP f wv n cn cnt ids) sz)) (va_A (wC x u i g w cI cW LP f wv n cn cnt ids) sz)) 0 0 (va_A (wC x u i g w cI cW LP f wv n cn cnt ids) sz) := by
  refine met_cc (QQ := fun AA => va_Qi (fun r (z : CS) => (((∃ k, k < n ∧ f (adv wv k) 0 = v2) ∧ (Fre ids cnt v1 ∧ ¬ v1 ≤ v2 ∧ cn < 1024) ∧ (¬ v3 < 0 ∧ ¬ 7 ≤ v3)) ∧ r = 1 ∧ ∃ k q, k < n ∧ f (adv wv k) 0 = v2 ∧ Fnb ids cnt v1 q ∧ z = (LP, va_up f (adv wv k) (ofr (va_up (f (adv wv k)) 4 (f (adv wv k) 4 + 1)) v1 v3 v4), wv, n, cn + 1, cnt + 1, nte ids cnt q v1)) ∨ (¬ ((∃ k, k < n ∧ f (adv wv k) 0 = v2) ∧ (Fre ids cnt v1 ∧ ¬ v1 ≤ v2 ∧ cn < 1024) ∧ (¬ v3 < 0 ∧ ¬ 7 ≤ v3)) ∧ r = 0 ∧ z = (LP, f, wv, n, cn, cnt, ids))) (CB D x u i g w cI cW AA) AA) (by decide) (Nat.le_of_ble_eq_true rfl) ?_
  intro p e s m below meth c ls AA S hr hlocks hG hl
  obtain ⟨hx, hb, hml, hown, hg⟩ := id S
  have hl : lv_has ls 6 [(0, .ref x), (1, .int v1), (2, .int v2), (3, .int v3), (4, .int v4)] := hl
  suffices key9 : ∀ (H : Heap) (locs : List Loc), CC D x u i g w cI cW LP f wv n cn cnt ids AA s.heap s H locs → W p l e { frames := 4, cells := 0, slots := 0, locals := 89 } s m [.ref x, .int v1, .int v2, .int v3, .int v4].toArray below meth c H locs 0 0 (MQ below ((fun AA : Nat → Prop => va_Qi (fun r (z : CS) => (((∃ k, k < n ∧ f (adv wv k) 0 = v2) ∧ (Fre ids cnt v1 ∧ ¬ v1 ≤ v2 ∧ cn < 1024) ∧ (¬ v3 < 0 ∧ ¬ 7 ≤ v3)) ∧ r = 1 ∧ ∃ k q, k < n ∧ f (adv wv k) 0 = v2 ∧ Fnb ids cnt v1 q ∧ z = (LP, va_up f (adv wv k) (ofr (va_up (f (adv wv k)) 4 (f (adv wv k) 4 + 1)) v1 v3 v4), wv, n, cn + 1, cnt + 1, nte ids cnt q v1)) ∨ (¬ ((∃ k, k < n ∧ f (adv wv k) 0 = v2) ∧ (Fre ids cnt v1 ∧ ¬ v1 ≤ v2 ∧ cn < 1024) ∧ (¬ v3 < 0 ∧ ¬ 7 ≤ v3)) ∧ r = 0 ∧ z = (LP, f, wv, n, cn, cnt, ids))) (CB D x u i g w cI cW AA) AA) AA) [.ref x, .int v1, .int v2, .int v3, .int v4].toArray s 0 0 AA) (F0 m 0 ls []) from key9 _ _ hG
  clear hG
  intro H locs hG
  obtain ⟨ad, had⟩ : ∃ ad, ad = adv wv := ⟨_, rfl⟩
  have hC : RdC D x u i g w n cn cnt ids ad f s H := by rw [had]; exact hG.rd
  have hn := hG.1.2.2
  have hs := hI.1
  have hcn := hI.2.1
  refine lv_aload_n hx hb dX2_set_0 rfl (lv_at hl 0 rfl) ?_
  refine lv_iload_n hx hb dX2_set_1 rfl (lv_at hl 2 rfl) ?_
  refine va_csq (va_Run.run (runV (As := [.int v2]) (rest := []) (Bh := RdC D x u i g w n cn cnt ids ad f) S (c_X2_elementOf l v2) (gw_V wk_110 wk_112 wp_2 wk_1 wk_113) rfl rfl 1 rfl (by decide +kernel) (by decide) (by decide) (fun _ _ _ h q => RdC.mv h q) hC.recv hC hl.1 (Nat.le_of_ble_eq_true rfl) dX2_set_2)) (fun r hr => ?_)
  rcases hr with ⟨k_2, hk_2, he_2, rfl⟩ | ⟨hn_2, rfl⟩
  · show W p l e { frames := 4, cells := 0, slots := 0, locals := 89 } s m [.ref x, .int v1, .int v2, .int v3, .int v4].toArray below meth c H locs 0 0 (MQ below ((fun AA : Nat → Prop => va_Qi (fun r (z : CS) => (((∃ k, k < n ∧ f (adv wv k) 0 = v2) ∧ (Fre ids cnt v1 ∧ ¬ v1 ≤ v2 ∧ cn < 1024) ∧ (¬ v3 < 0 ∧ ¬ 7 ≤ v3)) ∧ r = 1 ∧ ∃ k q, k < n ∧ f (adv wv k) 0 = v2 ∧ Fnb ids cnt v1 q ∧ z = (LP, va_up f (adv wv k) (ofr (va_up (f (adv wv k)) 4 (f (adv wv k) 4 + 1)) v1 v3 v4), wv, n, cn + 1, cnt + 1, nte ids cnt q v1)) ∨ (¬ ((∃ k, k < n ∧ f (adv wv k) 0 = v2) ∧ (Fre ids cnt v1 ∧ ¬ v1 ≤ v2 ∧ cn < 1024) ∧ (¬ v3 < 0 ∧ ¬ 7 ≤ v3)) ∧ r = 0 ∧ z = (LP, f, wv, n, cn, cnt, ids))) (CB D x u i g w cI cW AA) AA) AA) [.ref x, .int v1, .int v2, .int v3, .int v4].toArray s 0 0 AA) (F0 m 5 ls [.ref (ad k_2)])
    refine lv_astore (lv' := [(5, .ref (ad k_2)), (0, .ref x), (1, .int v1), (2, .int v2), (3, .int v3), (4, .int v4)]) hx hb dX2_set_5 hl (by decide) rfl (fun ls hl => ?_)
    refine lv_aload hx hb dX2_set_7 (lv_at hl 0 rfl) ?_
    refine lv_ifnull hx hb dX2_set_9 ?_
    refine lv_aload_n hx hb dX2_set_12 rfl (lv_at hl 1 rfl) ?_
    refine lv_iload_n hx hb dX2_set_13 rfl (lv_at hl 2 rfl) ?_
    refine lv_iload_n hx hb dX2_set_14 rfl (lv_at hl 3 rfl) ?_
    refine vp_callSi (va_Run.run (runV (As := [.int v1, .int v2]) (rest := []) (Bh := RdC D x u i g w n cn cnt ids ad f) S (c_X2_mayChange l v1 v2 hs) (gw_V wk_169 wk_171 wp_12 wk_1 wk_172) rfl rfl 2 rfl (by decide +kernel) (by decide) (by decide) (fun _ _ _ h q => RdC.mv h q) hC.recv hC hl.1 (Nat.le_of_ble_eq_true rfl) dX2_set_15)) (fun r hr => ?_)
    rcases hr with ⟨h_15, rfl⟩ | ⟨h_15, rfl⟩
    · refine lv_if_eq (tgt := 28) hx hb dX2_set_18 (by decide) (fun c_18 => ?_) (fun c_18 => ?_)
      · exact absurd (show _ from c_18) (by decide)
      · refine lv_iload_n hx hb dX2_set_21 rfl (lv_at hl 4 rfl) ?_
        refine vp_callSi (va_Run.run (runS (As := [.int v3]) (rest := []) (Bh := (fun _ _ => True)) S (c_X2_isKind l v3) (gw_S wk_131 wk_132 wk_1 wk_133) rfl rfl 1 rfl (by decide +kernel) (by decide) (by decide) (fun _ _ _ _ _ => trivial) trivial hl.1 (Nat.le_of_ble_eq_true rfl) dX2_set_22)) (fun r hr => ?_)
        rcases hr with ⟨h_22, rfl⟩ | ⟨h_22, rfl⟩
        · refine lv_if_ne (tgt := 30) hx hb dX2_set_25 (by decide) (fun c_25 => ?_) (fun c_25 => ?_)
          · subst had
            refine lv_aload_n hx hb dX2_set_30 rfl (lv_at hl 1 rfl) ?_
            refine lv_iload_n hx hb dX2_set_31 rfl (lv_at hl 2 rfl) ?_
            refine va_callv (runV (As := [.int v1]) (rest := []) (Bh := CPre D x u i g w cI cW LP f wv n cn cnt ids H.size) S (c_X2_countChange l v1 hs (by have := h_15.2.2; omega) h_15.2.2) (gw_V wk_173 wk_175 wp_13 wk_1 wk_176) rfl rfl 1 rfl (by decide +kernel) (by decide) (by decide) (fun _ _ _ h q => CPre.mv h q) hG.rd.recv hG.pre hl.1 (Nat.le_of_ble_eq_true rfl) dX2_set_32) hG.2.2.S (fun q _ h => hG.2.2.free q h) hG.2.2.free (fun u8 t8 H1 locs1 ht8 hvm8 hp hB8 hz8 hk8 hS8 => ?_)
            have hG_32 := hG.1
            have hG := hG.back ht8 hB8 hS8
            clear hS8 hB8 hz8 hk8 ht8 hvm8
            generalize H1 = H at hG ⊢
            generalize locs1 = locs at hG ⊢
            obtain ⟨q_32, hF_32, rfl⟩ := hp
            dsimp only at hG
            refine lv_aload hx hb dX2_set_35 (lv_at hl 0 rfl) ?_
            refine lv_dup hx hb dX2_set_37 rfl ?_
            refine rN_sets S (hG.el (hG.1.ad hk_2).2) hG.2.1 dX2_set_38 ?_
            refine lv_iconst (v := 1) hx hb dX2_set_41 (by decide) ?_
            refine lv_iadd hx hb dX2_set_42 ?_
            refine cw_sets S hG (hG.1.ad hk_2).2 dX2_set_43 (fun H locs hG => ?_)
            refine lv_aload hx hb dX2_set_46 (lv_at hl 0 rfl) ?_
            refine lv_iload_n hx hb dX2_set_48 rfl (lv_at hl 2 rfl) ?_
            refine lv_iload_n hx hb dX2_set_49 rfl (lv_at hl 4 rfl) ?_
            refine lv_iload hx hb dX2_set_50 (lv_at hl 5 rfl) ?_
            obtain ⟨q_52, hq_52⟩ := hG.at (hG.1.ad hk_2).2
            refine va_callv (runVN (As := [.int v1, .int v3, .int v4]) (rest := []) (Bh := (fun U H9 => GPre D (wC x u i g w cI cW LP (va_up f (adv wv k_2) (va_up (f (adv wv k_2)) 4 ((f (adv wv k_2) 4) + 1))) wv n (cn + 1) (cnt + 1) (nte ids cnt q_32 v1)) (tC cI cW) H.size U H9 ∧ (fun _ => True) U)) S (c_X0_offer l v1 v3 v4 hq_52) (gw_self wk_145) (nk_142 hG.2.1) wk_3 wk_144 wp_9 rfl rfl 3 rfl (by decide +kernel) (by decide) (by decide) (fun _ _ _ h q => ⟨q.1.mv h, trivial⟩) (hG.el (hG.1.ad hk_2).2).recv ⟨hG.2.2.pre, trivial⟩ hl.1 (Nat.le_of_ble_eq_true rfl) dX2_set_52) hG.2.2.S (fun q _ h => hG.2.2.free q h) hG.2.2.free (fun u8 t8 H1 locs1 ht8 hvm8 hp hB8 hz8 hk8 hS8 => ?_)
            have hG := hG.putE (hG.1.ad hk_2).2 hq_52 ht8 hp hB8 hS8
            clear hp hq_52
            clear hS8 hB8 hz8 hk8 ht8 hvm8
            generalize H1 = H at hG ⊢
            generalize locs1 = locs at hG ⊢
            obtain ⟨f_52, hf_52⟩ : ∃ f9, f9 = va_up (va_up f (adv wv k_2) (va_up (f (adv wv k_2)) 4 ((f (adv wv k_2) 4) + 1))) (adv wv k_2) (ofr ((va_up f (adv wv k_2) (va_up (f (adv wv k_2)) 4 ((f (adv wv k_2) 4) + 1))) (adv wv k_2)) v1 v3 v4) := ⟨_, rfl⟩
            rw [← hf_52] at hG
            refine lv_iconst (v := 1) hx hb dX2_set_55 (by decide) ?_
            exact W.zret (v := 1) hx hb hr rfl (fun t9 ht9 hW9 => ⟨⟨_, (LP, f_52, wv, n, cn + 1, cnt + 1, nte ids cnt q_32 v1), rfl, Or.inl ⟨⟨⟨k_2, hk_2, he_2⟩, h_15, h_22⟩, rfl, k_2, q_32, hk_2, he_2, hF_32, by rw [hf_52, va_uu, va_up_self]⟩, (hG.out ht9 hW9).1⟩, (hG.out ht9 hW9).2⟩) hG.2.2.S.2.2 dX2_set_56
          · exact absurd (show _ from c_25) (by decide)
        · refine lv_if_ne (tgt := 30) hx hb dX2_set_25 (by decide) (fun c_25 => ?_) (fun c_25 => ?_)
          · exact absurd (show _ from c_25) (by decide)
          · refine lv_iconst (v := 0) hx hb dX2_set_28 (by decide) ?_
            exact W.zret (v := 0) hx hb hr rfl (fun t9 ht9 hW9 => ⟨⟨_, (LP, f, wv, n, cn, cnt, ids), rfl, Or.inr ⟨fun y9 => h_22 y9.2.2, rfl, rfl⟩, (hG.out ht9 hW9).1⟩, (hG.out ht9 hW9).2⟩) hG.2.2.S.2.2 dX2_set_29
    · refine lv_if_eq (tgt := 28) hx hb dX2_set_18 (by decide) (fun c_18 => ?_) (fun c_18 => ?_)
      · refine lv_iconst (v := 0) hx hb dX2_set_28 (by decide) ?_
        exact W.zret (v := 0) hx hb hr rfl (fun t9 ht9 hW9 => ⟨⟨_, (LP, f, wv, n, cn, cnt, ids), rfl, Or.inr ⟨fun y9 => h_15 y9.2.1, rfl, rfl⟩, (hG.out ht9 hW9).1⟩, (hG.out ht9 hW9).2⟩) hG.2.2.S.2.2 dX2_set_29
      · exact absurd (show _ from c_18) (by decide)
  · show W p l e { frames := 4, cells := 0, slots := 0, locals := 89 } s m [.ref x, .int v1, .int v2, .int v3, .int v4].toArray below meth c H locs 0 0 (MQ below ((fun AA : Nat → Prop => va_Qi (fun r (z : CS) => (((∃ k, k < n ∧ f (adv wv k) 0 = v2) ∧ (Fre ids cnt v1 ∧ ¬ v1 ≤ v2 ∧ cn < 1024) ∧ (¬ v3 < 0 ∧ ¬ 7 ≤ v3)) ∧ r = 1 ∧ ∃ k q, k < n ∧ f (adv wv k) 0 = v2 ∧ Fnb ids cnt v1 q ∧ z = (LP, va_up f (adv wv k) (ofr (va_up (f (adv wv k)) 4 (f (adv wv k) 4 + 1)) v1 v3 v4), wv, n, cn + 1, cnt + 1, nte ids cnt q v1)) ∨ (¬ ((∃ k, k < n ∧ f (adv wv k) 0 = v2) ∧ (Fre ids cnt v1 ∧ ¬ v1 ≤ v2 ∧ cn < 1024) ∧ (¬ v3 < 0 ∧ ¬ 7 ≤ v3)) ∧ r = 0 ∧ z = (LP, f, wv, n, cn, cnt, ids))) (CB D x u i g w cI cW AA) AA) AA) [.ref x, .int v1, .int v2, .int v3, .int v4].toArray s 0 0 AA) (F0 m 5 ls [.null])
    refine lv_astoreN (lv' := [(5, .null), (0, .ref x), (1, .int v1), (2, .int v2), (3, .int v3), (4, .int v4)]) hx hb dX2_set_5 hl (by decide) rfl (fun ls hl => ?_)
    refine lv_aloadN hx hb dX2_set_7 (lv_at hl 0 rfl) ?_
    refine lv_ifnullN (tgt := 28) hx hb dX2_set_9 (by decide) ?_
    refine lv_iconst (v := 0) hx hb dX2_set_28 (by decide) ?_
    exact W.zret (v := 0) hx hb hr rfl (fun t9 ht9 hW9 => ⟨⟨_, (LP, f, wv, n, cn, cnt, ids), rfl, Or.inr ⟨fun y9 => by obtain ⟨⟨k9, g1, g2⟩, _⟩ := y9; exact hn_2 k9 g1 (by rw [had]; exact g2), rfl, rfl⟩, (hG.out ht9 hW9).1⟩, (hG.out ht9 hW9).2⟩) hG.2.2.S.2.2 dX2_set_29
set_option maxHeartbeats 4000000 in
set_option maxRecDepth 100000 in
theorem c_X2_remove (l : Launch) {D : va_G} {x u i g w : Nat} {cI cW : ClassId} {LP : List Nat} {f : Nat → Nat → Int32} {wv : Nat → Option Nat} {n cn cnt : Nat} {ids : Nat → Int32} {sz : Nat} (v1 v2 : Int32) (hI : CI g f wv n cn cnt ids) : Met l yX2_remove (gws yX2_remove cX2_remove 4 (some .boolean)) { frames := 4, cells := 0, slots := 0, locals := 89 } (va_Pc [.ref x, .int v1, .int v2] (fun U => CPre D x u i g w cI cW LP f wv n cn cnt ids sz U U.heap)) (va_Qi (fun r (z : CS) => (((∃ k, k < n ∧ f (adv wv k) 0 = v2) ∧ (Fre ids cnt v1 ∧ ¬ v1 ≤ v2 ∧ cn < 1024)) ∧ r = 1 ∧ ∃ k q, k < n ∧ f (adv wv k) 0 = v2 ∧ Fnb ids cnt v1 q ∧ z = (LP, va_up f (adv wv k) (va_up (f (adv wv k)) 5 (f (adv wv k) 5 + 1)), wv, n, cn + 1, cnt + 1, nte ids cnt q v1)) ∨ (¬ ((∃ k, k < n ∧ f (adv wv k) 0 = v2) ∧ (Fre ids cnt v1 ∧ ¬ v1 ≤ v2 ∧ cn < 1024)) ∧ r = 0 ∧ z = (LP, f, wv, n, cn, cnt, ids))) (CB D x u i g w cI cW (va_A (wC x u i g w cI cW LP f wv n cn cnt ids) sz)) (va_A (wC x u i g w cI cW LP f wv n cn cnt ids) sz)) 0 0 (va_A (wC x u i g w cI cW LP f wv n cn cnt ids) sz) := by
  refine met_cc (QQ := fun AA => va_Qi (fun r (z : CS) => (((∃ k, k < n ∧ f (adv wv k) 0 = v2) ∧ (Fre ids cnt v1 ∧ ¬ v1 ≤ v2 ∧ cn < 1024)) ∧ r = 1 ∧ ∃ k q, k < n ∧ f (adv wv k) 0 = v2 ∧ Fnb ids cnt v1 q ∧ z = (LP, va_up f (adv wv k) (va_up (f (adv wv k)) 5 (f (adv wv k) 5 + 1)), wv, n, cn + 1, cnt + 1, nte ids cnt q v1)) ∨ (¬ ((∃ k, k < n ∧ f (adv wv k) 0 = v2) ∧ (Fre ids cnt v1 ∧ ¬ v1 ≤ v2 ∧ cn < 1024)) ∧ r = 0 ∧ z = (LP, f, wv, n, cn, cnt, ids))) (CB D x u i g w cI cW AA) AA) (by decide) (Nat.le_of_ble_eq_true rfl) ?_
  intro p e s m below meth c ls AA S hr hlocks hG hl
  obtain ⟨hx, hb, hml, hown, hg⟩ := id S
  have hl : lv_has ls 4 [(0, .ref x), (1, .int v1), (2, .int v2)] := hl
  suffices key9 : ∀ (H : Heap) (locs : List Loc), CC D x u i g w cI cW LP f wv n cn cnt ids AA s.heap s H locs → W p l e { frames := 4, cells := 0, slots := 0, locals := 89 } s m [.ref x, .int v1, .int v2].toArray below meth c H locs 0 0 (MQ below ((fun AA : Nat → Prop => va_Qi (fun r (z : CS) => (((∃ k, k < n ∧ f (adv wv k) 0 = v2) ∧ (Fre ids cnt v1 ∧ ¬ v1 ≤ v2 ∧ cn < 1024)) ∧ r = 1 ∧ ∃ k q, k < n ∧ f (adv wv k) 0 = v2 ∧ Fnb ids cnt v1 q ∧ z = (LP, va_up f (adv wv k) (va_up (f (adv wv k)) 5 (f (adv wv k) 5 + 1)), wv, n, cn + 1, cnt + 1, nte ids cnt q v1)) ∨ (¬ ((∃ k, k < n ∧ f (adv wv k) 0 = v2) ∧ (Fre ids cnt v1 ∧ ¬ v1 ≤ v2 ∧ cn < 1024)) ∧ r = 0 ∧ z = (LP, f, wv, n, cn, cnt, ids))) (CB D x u i g w cI cW AA) AA) AA) [.ref x, .int v1, .int v2].toArray s 0 0 AA) (F0 m 0 ls []) from key9 _ _ hG
  clear hG
  intro H locs hG
  obtain ⟨ad, had⟩ : ∃ ad, ad = adv wv := ⟨_, rfl⟩
  have hC : RdC D x u i g w n cn cnt ids ad f s H := by rw [had]; exact hG.rd
  have hn := hG.1.2.2
  have hs := hI.1
  have hcn := hI.2.1
  refine lv_aload_n hx hb dX2_remove_0 rfl (lv_at hl 0 rfl) ?_
  refine lv_iload_n hx hb dX2_remove_1 rfl (lv_at hl 2 rfl) ?_
  refine va_csq (va_Run.run (runV (As := [.int v2]) (rest := []) (Bh := RdC D x u i g w n cn cnt ids ad f) S (c_X2_elementOf l v2) (gw_V wk_110 wk_112 wp_2 wk_1 wk_113) rfl rfl 1 rfl (by decide +kernel) (by decide) (by decide) (fun _ _ _ h q => RdC.mv h q) hC.recv hC hl.1 (Nat.le_of_ble_eq_true rfl) dX2_remove_2)) (fun r hr => ?_)
  rcases hr with ⟨k_2, hk_2, he_2, rfl⟩ | ⟨hn_2, rfl⟩
  · show W p l e { frames := 4, cells := 0, slots := 0, locals := 89 } s m [.ref x, .int v1, .int v2].toArray below meth c H locs 0 0 (MQ below ((fun AA : Nat → Prop => va_Qi (fun r (z : CS) => (((∃ k, k < n ∧ f (adv wv k) 0 = v2) ∧ (Fre ids cnt v1 ∧ ¬ v1 ≤ v2 ∧ cn < 1024)) ∧ r = 1 ∧ ∃ k q, k < n ∧ f (adv wv k) 0 = v2 ∧ Fnb ids cnt v1 q ∧ z = (LP, va_up f (adv wv k) (va_up (f (adv wv k)) 5 (f (adv wv k) 5 + 1)), wv, n, cn + 1, cnt + 1, nte ids cnt q v1)) ∨ (¬ ((∃ k, k < n ∧ f (adv wv k) 0 = v2) ∧ (Fre ids cnt v1 ∧ ¬ v1 ≤ v2 ∧ cn < 1024)) ∧ r = 0 ∧ z = (LP, f, wv, n, cn, cnt, ids))) (CB D x u i g w cI cW AA) AA) AA) [.ref x, .int v1, .int v2].toArray s 0 0 AA) (F0 m 5 ls [.ref (ad k_2)])
    refine lv_astore_n (lv' := [(3, .ref (ad k_2)), (0, .ref x), (1, .int v1), (2, .int v2)]) hx hb dX2_remove_5 rfl hl (by decide) rfl (fun ls hl => ?_)
    refine lv_aload_n hx hb dX2_remove_6 rfl (lv_at hl 0 rfl) ?_
    refine lv_ifnull hx hb dX2_remove_7 ?_
    refine lv_aload_n hx hb dX2_remove_10 rfl (lv_at hl 1 rfl) ?_
    refine lv_iload_n hx hb dX2_remove_11 rfl (lv_at hl 2 rfl) ?_
    refine lv_iload_n hx hb dX2_remove_12 rfl (lv_at hl 3 rfl) ?_
    refine vp_callSi (va_Run.run (runV (As := [.int v1, .int v2]) (rest := []) (Bh := RdC D x u i g w n cn cnt ids ad f) S (c_X2_mayChange l v1 v2 hs) (gw_V wk_169 wk_171 wp_12 wk_1 wk_172) rfl rfl 2 rfl (by decide +kernel) (by decide) (by decide) (fun _ _ _ h q => RdC.mv h q) hC.recv hC hl.1 (Nat.le_of_ble_eq_true rfl) dX2_remove_13)) (fun r hr => ?_)
    rcases hr with ⟨h_13, rfl⟩ | ⟨h_13, rfl⟩
    · refine lv_if_ne (tgt := 21) hx hb dX2_remove_16 (by decide) (fun c_16 => ?_) (fun c_16 => ?_)
      · subst had
        refine lv_aload_n hx hb dX2_remove_21 rfl (lv_at hl 1 rfl) ?_
        refine lv_iload_n hx hb dX2_remove_22 rfl (lv_at hl 2 rfl) ?_
        refine va_callv (runV (As := [.int v1]) (rest := []) (Bh := CPre D x u i g w cI cW LP f wv n cn cnt ids H.size) S (c_X2_countChange l v1 hs (by have := h_13.2.2; omega) h_13.2.2) (gw_V wk_173 wk_175 wp_13 wk_1 wk_176) rfl rfl 1 rfl (by decide +kernel) (by decide) (by decide) (fun _ _ _ h q => CPre.mv h q) hG.rd.recv hG.pre hl.1 (Nat.le_of_ble_eq_true rfl) dX2_remove_23) hG.2.2.S (fun q _ h => hG.2.2.free q h) hG.2.2.free (fun u8 t8 H1 locs1 ht8 hvm8 hp hB8 hz8 hk8 hS8 => ?_)
        have hG_23 := hG.1
        have hG := hG.back ht8 hB8 hS8
        clear hS8 hB8 hz8 hk8 ht8 hvm8
        generalize H1 = H at hG ⊢
        generalize locs1 = locs at hG ⊢
        obtain ⟨q_23, hF_23, rfl⟩ := hp
        dsimp only at hG
        refine lv_aload_n hx hb dX2_remove_26 rfl (lv_at hl 0 rfl) ?_
        refine lv_dup hx hb dX2_remove_27 rfl ?_
        refine rN_removes S (hG.el (hG.1.ad hk_2).2) hG.2.1 dX2_remove_28 ?_
        refine lv_iconst (v := 1) hx hb dX2_remove_31 (by decide) ?_
        refine lv_iadd hx hb dX2_remove_32 ?_
        refine cw_removes S hG (hG.1.ad hk_2).2 dX2_remove_33 (fun H locs hG => ?_)
        refine lv_iconst (v := 1) hx hb dX2_remove_36 (by decide) ?_
        exact W.zret (v := 1) hx hb hr rfl (fun t9 ht9 hW9 => ⟨⟨_, (LP, va_up f (adv wv k_2) (va_up (f (adv wv k_2)) 5 ((f (adv wv k_2) 5) + 1)), wv, n, cn + 1, cnt + 1, nte ids cnt q_23 v1), rfl, Or.inl ⟨⟨⟨k_2, hk_2, he_2⟩, h_13⟩, rfl, k_2, q_23, hk_2, he_2, hF_23, rfl⟩, (hG.out ht9 hW9).1⟩, (hG.out ht9 hW9).2⟩) hG.2.2.S.2.2 dX2_remove_37
      · exact absurd (show _ from c_16) (by decide)
    · refine lv_if_ne (tgt := 21) hx hb dX2_remove_16 (by decide) (fun c_16 => ?_) (fun c_16 => ?_)
      · exact absurd (show _ from c_16) (by decide)
      · refine lv_iconst (v := 0) hx hb dX2_remove_19 (by decide) ?_
        exact W.zret (v := 0) hx hb hr rfl (fun t9 ht9 hW9 => ⟨⟨_, (LP, f, wv, n, cn, cnt, ids), rfl, Or.inr ⟨fun y9 => h_13 y9.2, rfl, rfl⟩, (hG.out ht9 hW9).1⟩, (hG.out ht9 hW9).2⟩) hG.2.2.S.2.2 dX2_remove_20
  · show W p l e { frames := 4, cells := 0, slots := 0, locals := 89 } s m [.ref x, .int v1, .int v2].toArray below meth c H locs 0 0 (MQ below ((fun AA : Nat → Prop => va_Qi (fun r (z : CS) => (((∃ k, k < n ∧ f (adv wv k) 0 = v2) ∧ (Fre ids cnt v1 ∧ ¬ v1 ≤ v2 ∧ cn < 1024)) ∧ r = 1 ∧ ∃ k q, k < n ∧ f (adv wv k) 0 = v2 ∧ Fnb ids cnt v1 q ∧ z = (LP, va_up f (adv wv k) (va_up (f (adv wv k)) 5 (f (adv wv k) 5 + 1)), wv, n, cn + 1, cnt + 1, nte ids cnt q v1)) ∨ (¬ ((∃ k, k < n ∧ f (adv wv k) 0 = v2) ∧ (Fre ids cnt v1 ∧ ¬ v1 ≤ v2 ∧ cn < 1024)) ∧ r = 0 ∧ z = (LP, f, wv, n, cn, cnt, ids))) (CB D x u i g w cI cW AA) AA) AA) [.ref x, .int v1, .int v2].toArray s 0 0 AA) (F0 m 5 ls [.null])
    refine lv_astore_nN (lv' := [(3, .null), (0, .ref x), (1, .int v1), (2, .int v2)]) hx hb dX2_remove_5 rfl hl (by decide) rfl (fun ls hl => ?_)
    refine lv_aload_nN hx hb dX2_remove_6 rfl (lv_at hl 0 rfl) ?_
    refine lv_ifnullN (tgt := 19) hx hb dX2_remove_7 (by decide) ?_
    refine lv_iconst (v := 0) hx hb dX2_remove_19 (by decide) ?_
    exact W.zret (v := 0) hx hb hr rfl (fun t9 ht9 hW9 => ⟨⟨_, (LP, f, wv, n, cn, cnt, ids), rfl, Or.inr ⟨fun y9 => by obtain ⟨⟨k9, g1, g2⟩, _⟩ := y9; exact hn_2 k9 g1 (by rw [had]; exact g2), rfl, rfl⟩, (hG.out ht9 hW9).1⟩, (hG.out ht9 hW9).2⟩) hG.2.2.S.2.2 dX2_remove_20
set_option maxHeartbeats 4000000 in
set_option maxRecDepth 100000 in
theorem c_X2_run (l : Launch) {D : va_G} {x u i g w : Nat} {cI cW : ClassId} {LP : List Nat} {f : Nat → Nat → Int32} {wv : Nat → Option Nat} {n cn cnt : Nat} {ids : Nat → Int32} {sz : Nat} (v1 v2 v3 : Int32) (v4 : Int64) (hI : CI g f wv n cn cnt ids) : Met l yX2_run (gws yX2_run cX2_run 8 (some .boolean)) { frames := 4, cells := 8, slots := 72, locals := 90 } (va_Pc [.ref x, .int v1, .int v2, .int v3, .long v4] (fun U => CPre D x u i g w cI cW LP f wv n cn cnt ids sz U U.heap)) (va_Qi (fun r (z : CS) => (∃ M9, v3 = nI M9 ∧ (2 ≤ M9 ∧ M9 ≤ 8 ∧ n + M9 ≤ 512 ∧ (v2 = 0 ∨ ∃ k, k < n ∧ f (adv wv k) 0 = v2) ∧ ¬ v1 ≤ v2 ∧ ∀ k, k < M9 → Fre ids cnt (v1 + 8 * nI k)) ∧ r = 1 ∧ ∃ b T last, Par f (adv wv) n g b T ∧ f b 0 = v2 ∧ RnC g (LP, f, wv, n, cn, cnt, ids) v1 b M9 v4 M9 z last) ∨ ((¬ ∃ M9, v3 = nI M9 ∧ (2 ≤ M9 ∧ M9 ≤ 8 ∧ n + M9 ≤ 512 ∧ (v2 = 0 ∨ ∃ k, k < n ∧ f (adv wv k) 0 = v2) ∧ ¬ v1 ≤ v2 ∧ ∀ k, k < M9 → Fre ids cnt (v1 + 8 * nI k))) ∧ r = 0 ∧ z = (LP, f, wv, n, cn, cnt, ids))) (CB D x u i g w cI cW (va_A (wC x u i g w cI cW LP f wv n cn cnt ids) sz)) (va_A (wC x u i g w cI cW LP f wv n cn cnt ids) sz)) 8 72 (va_A (wC x u i g w cI cW LP f wv n cn cnt ids) sz) := by
  refine met_cc (QQ := fun AA => va_Qi (fun r (z : CS) => (∃ M9, v3 = nI M9 ∧ (2 ≤ M9 ∧ M9 ≤ 8 ∧ n + M9 ≤ 512 ∧ (v2 = 0 ∨ ∃ k, k < n ∧ f (adv wv k) 0 = v2) ∧ ¬ v1 ≤ v2 ∧ ∀ k, k < M9 → Fre ids cnt (v1 + 8 * nI k)) ∧ r = 1 ∧ ∃ b T last, Par f (adv wv) n g b T ∧ f b 0 = v2 ∧ RnC g (LP, f, wv, n, cn, cnt, ids) v1 b M9 v4 M9 z last) ∨ ((¬ ∃ M9, v3 = nI M9 ∧ (2 ≤ M9 ∧ M9 ≤ 8 ∧ n + M9 ≤ 512 ∧ (v2 = 0 ∨ ∃ k, k < n ∧ f (adv wv k) 0 = v2) ∧ ¬ v1 ≤ v2 ∧ ∀ k, k < M9 → Fre ids cnt (v1 + 8 * nI k))) ∧ r = 0 ∧ z = (LP, f, wv, n, cn, cnt, ids))) (CB D x u i g w cI cW AA) AA) (by decide) (Nat.le_of_ble_eq_true rfl) ?_
  intro p e s m below meth c ls AA S hr hlocks hG hl
  obtain ⟨hx, hb, hml, hown, hg⟩ := id S
  have hl : lv_has ls 8 [(0, .ref x), (1, .int v1), (2, .int v2), (3, .int v3), (4, .long v4)] := hl
  suffices key9 : ∀ (H : Heap) (locs : List Loc), CC D x u i g w cI cW LP f wv n cn cnt ids AA s.heap s H locs → W p l e { frames := 4, cells := 8, slots := 72, locals := 90 } s m [.ref x, .int v1, .int v2, .int v3, .long v4].toArray below meth c H locs 0 0 (MQ below ((fun AA : Nat → Prop => va_Qi (fun r (z : CS) => (∃ M9, v3 = nI M9 ∧ (2 ≤ M9 ∧ M9 ≤ 8 ∧ n + M9 ≤ 512 ∧ (v2 = 0 ∨ ∃ k, k < n ∧ f (adv wv k) 0 = v2) ∧ ¬ v1 ≤ v2 ∧ ∀ k, k < M9 → Fre ids cnt (v1 + 8 * nI k)) ∧ r = 1 ∧ ∃ b T last, Par f (adv wv) n g b T ∧ f b 0 = v2 ∧ RnC g (LP, f, wv, n, cn, cnt, ids) v1 b M9 v4 M9 z last) ∨ ((¬ ∃ M9, v3 = nI M9 ∧ (2 ≤ M9 ∧ M9 ≤ 8 ∧ n + M9 ≤ 512 ∧ (v2 = 0 ∨ ∃ k, k < n ∧ f (adv wv k) 0 = v2) ∧ ¬ v1 ≤ v2 ∧ ∀ k, k < M9 → Fre ids cnt (v1 + 8 * nI k))) ∧ r = 0 ∧ z = (LP, f, wv, n, cn, cnt, ids))) (CB D x u i g w cI cW AA) AA) AA) [.ref x, .int v1, .int v2, .int v3, .long v4].toArray s 8 72 AA) (F0 m 0 ls []) from key9 _ _ hG
  clear hG
  intro H locs hG
  obtain ⟨ad, had⟩ : ∃ ad, ad = adv wv := ⟨_, rfl⟩
  have hC : RdC D x u i g w n cn cnt ids ad f s H := by rw [had]; exact hG.rd
  have hn := hG.1.2.2
  have hs := hI.1
  have hcn := hI.2.1
  refine lv_iload_n hx hb dX2_run_0 rfl (lv_at hl 3 rfl) ?_
  refine lv_iconst (v := 2) hx hb dX2_run_1 (by decide) ?_
  refine lv_icmp_lt (tgt := 23) hx hb dX2_run_2 (by decide) (fun c_2 => ?_) (fun c_2 => ?_)
  · refine lv_iconst (v := 0) hx hb dX2_run_23 (by decide) ?_
    refine W.widen (k := 8) (n := 72) (by omega) (by omega) ?_
    exact W.zret (v := 0) hx hb hr rfl (fun t9 ht9 hW9 => ⟨⟨_, (LP, f, wv, n, cn, cnt, ids), rfl, Or.inr ⟨fun ⟨M, e, y9⟩ => (rng28' y9.1 y9.2.1).1 (by rw [← e]; exact c_2), rfl, rfl⟩, (hG.out ht9 hW9).1⟩, (hG.out ht9 hW9).2⟩) hG.2.2.S.2.2 dX2_run_24
  · refine lv_iload_n hx hb dX2_run_5 rfl (lv_at hl 3 rfl) ?_
    refine lv_bipush (v := 8) hx hb dX2_run_6 (by decide) ?_
    refine lv_icmp_gt (tgt := 23) hx hb dX2_run_8 (by decide) (fun c_8 => ?_) (fun c_8 => ?_)
    · refine lv_iconst (v := 0) hx hb dX2_run_23 (by decide) ?_
      refine W.widen (k := 8) (n := 72) (by omega) (by omega) ?_
      exact W.zret (v := 0) hx hb hr rfl (fun t9 ht9 hW9 => ⟨⟨_, (LP, f, wv, n, cn, cnt, ids), rfl, Or.inr ⟨fun ⟨M, e, y9⟩ => (rng28' y9.1 y9.2.1).2 (by rw [← e]; exact c_8), rfl, rfl⟩, (hG.out ht9 hW9).1⟩, (hG.out ht9 hW9).2⟩) hG.2.2.S.2.2 dX2_run_24
    · obtain ⟨M, hM2, hM8, rfl⟩ := rng28 c_2 c_8
      refine lv_aload_n hx hb dX2_run_11 rfl (lv_at hl 0 rfl) ?_
      refine rC_elements S hG.rd dX2_run_12 ?_
      refine lv_iload_n hx hb dX2_run_15 rfl (lv_at hl 3 rfl) ?_
      refine lv_iadd hx hb dX2_run_16 ?_
      rw [nI_add]
      refine lv_sipush (v := nI 512) hx hb dX2_run_17 (by decide) ?_
      refine lv_icmp_le (tgt := 25) hx hb dX2_run_20 (by decide) (fun c_20 => ?_) (fun c_20 => ?_)
      · rw [nI_leI (by omega) (by omega)] at c_20
        refine lv_aload_n hx hb dX2_run_25 rfl (lv_at hl 0 rfl) ?_
        refine lv_iload_n hx hb dX2_run_26 rfl (lv_at hl 2 rfl) ?_
        refine va_csq (va_Run.run (runV (As := [.int v2]) (rest := []) (Bh := RdC D x u i g w n cn cnt ids ad f) S (c_X2_elementOrBeginning l v2) (gw_V wk_106 wk_108 wp_1 wk_1 wk_109) rfl rfl 1 rfl (by decide +kernel) (by decide) ⟨by show _ ≤ 8; omega, by show _ ≤ 72; omega⟩ (fun _ _ _ h q => RdC.mv h q) hC.recv hC hl.1 (Nat.le_of_ble_eq_true rfl) dX2_run_27)) (fun r hr => ?_)
        rcases hr with ⟨h0_27, rfl⟩ | ⟨h0_27, ⟨k_27, hk_27, he_27, rfl⟩ | ⟨hn_27, rfl⟩⟩
        · show W p l e { frames := 4, cells := 8, slots := 72, locals := 90 } s m [.ref x, .int v1, .int v2, .int (nI M), .long v4].toArray below meth c H locs 0 0 (MQ below ((fun AA : Nat → Prop => va_Qi (fun r (z : CS) => (∃ M9, nI M = nI M9 ∧ (2 ≤ M9 ∧ M9 ≤ 8 ∧ n + M9 ≤ 512 ∧ (v2 = 0 ∨ ∃ k, k < n ∧ f (adv wv k) 0 = v2) ∧ ¬ v1 ≤ v2 ∧ ∀ k, k < M9 → Fre ids cnt (v1 + 8 * nI k)) ∧ r = 1 ∧ ∃ b T last, Par f (adv wv) n g b T ∧ f b 0 = v2 ∧ RnC g (LP, f, wv, n, cn, cnt, ids) v1 b M9 v4 M9 z last) ∨ ((¬ ∃ M9, nI M = nI M9 ∧ (2 ≤ M9 ∧ M9 ≤ 8 ∧ n + M9 ≤ 512 ∧ (v2 = 0 ∨ ∃ k, k < n ∧ f (adv wv k) 0 = v2) ∧ ¬ v1 ≤ v2 ∧ ∀ k, k < M9 → Fre ids cnt (v1 + 8 * nI k))) ∧ r = 0 ∧ z = (LP, f, wv, n, cn, cnt, ids))) (CB D x u i g w cI cW AA) AA) AA) [.ref x, .int v1, .int v2, .int (nI M), .long v4].toArray s 8 72 AA) (F0 m 30 ls [.ref g])
          refine lv_astore (lv' := [(6, .ref g), (0, .ref x), (1, .int v1), (2, .int v2), (3, .int (nI M)), (4, .long v4)]) hx hb dX2_run_30 hl (by decide) rfl (fun ls hl => ?_)
          refine lv_aload hx hb dX2_run_32 (lv_at hl 0 rfl) ?_
          refine lv_ifnull hx hb dX2_run_34 ?_
          refine lv_iload_n hx hb dX2_run_37 rfl (lv_at hl 2 rfl) ?_
          refine lv_iload_n hx hb dX2_run_38 rfl (lv_at hl 3 rfl) ?_
          refine lv_icmp_le (tgt := 51) hx hb dX2_run_39 (by decide) (fun c_39 => ?_) (fun c_39 => ?_)
          · refine lv_iconst (v := 0) hx hb dX2_run_51 (by decide) ?_
            refine W.widen (k := 8) (n := 72) (by omega) (by omega) ?_
            exact W.zret (v := 0) hx hb hr rfl (fun t9 ht9 hW9 => ⟨⟨_, (LP, f, wv, n, cn, cnt, ids), rfl, Or.inr ⟨fun ⟨M9, e, y9⟩ => by obtain rfl := (nI_eq (by omega) (by have := y9.2.1; omega)).mp e; exact y9.2.2.2.2.1 c_39, rfl, rfl⟩, (hG.out ht9 hW9).1⟩, (hG.out ht9 hW9).2⟩) hG.2.2.S.2.2 dX2_run_52
          · refine lv_aload_n hx hb dX2_run_42 rfl (lv_at hl 1 rfl) ?_
            refine lv_iload_n hx hb dX2_run_43 rfl (lv_at hl 2 rfl) ?_
            refine lv_iload_n hx hb dX2_run_44 rfl (lv_at hl 4 rfl) ?_
            refine vp_callSi (va_Run.run (runV (As := [.int v1, .int (nI M)]) (rest := []) (Bh := RdC D x u i g w n cn cnt ids ad f) S (c_X2_areFree l v1 M hs (by omega)) (gw_V wk_157 wk_159 wp_11 wk_1 wk_160) rfl rfl 2 rfl (by decide +kernel) (by decide) ⟨by show _ ≤ 8; omega, by show _ ≤ 72; omega⟩ (fun _ _ _ h q => RdC.mv h q) hC.recv hC hl.1 (Nat.le_of_ble_eq_true rfl) dX2_run_45)) (fun r hr => ?_)
            rcases hr with ⟨h_45, rfl⟩ | ⟨h_45, rfl⟩
            · refine lv_if_ne (tgt := 53) hx hb dX2_run_48 (by decide) (fun c_48 => ?_) (fun c_48 => ?_)
              · refine lv_iconst (v := nI 0) hx hb dX2_run_53 (by decide) ?_
                refine lv_istore (lv' := [(7, .int (nI 0)), (6, .ref g), (0, .ref x), (1, .int v1), (2, .int v2), (3, .int (nI M)), (4, .long v4)]) hx hb dX2_run_54 hl (by decide) rfl (fun ls hl => ?_)
                suffices hloop : ∀ (fuel : Nat) (k lst : Nat) (z0 : CS), k ≤ M → M - k < fuel → RnC g (LP, f, wv, n, cn, cnt, ids) v1 g M v4 k z0 lst → CI g z0.2.1 z0.2.2.1 z0.2.2.2.1 z0.2.2.2.2.1 z0.2.2.2.2.2.1 z0.2.2.2.2.2.2 → z0.2.2.2.1 = n + k → (∃ T, Par z0.2.1 (adv z0.2.2.1) z0.2.2.2.1 g lst T) → (∀ j, k ≤ j → j < M → Fre z0.2.2.2.2.2.2 z0.2.2.2.2.2.1 (v1 + 8 * nI j)) → ∀ (H : Heap) (locs : List Loc), CC D x u i g w cI cW z0.1 z0.2.1 z0.2.2.1 z0.2.2.2.1 z0.2.2.2.2.1 z0.2.2.2.2.2.1 z0.2.2.2.2.2.2 AA s.heap s H locs → ∀ ls : Array Slot, lv_has ls 8 [(7, .int (nI k)), (6, .ref lst), (0, .ref x), (1, .int v1), (2, .int v2), (3, .int (nI M)), (4, .long v4)] → W p l e { frames := 4, cells := 8, slots := 72, locals := 90 } s m [.ref x, .int v1, .int v2, .int (nI M), .long v4].toArray below meth c H locs k (9 * k) (MQ below ((fun AA : Nat → Prop => va_Qi (fun r (z : CS) => (∃ M9, nI M = nI M9 ∧ (2 ≤ M9 ∧ M9 ≤ 8 ∧ n + M9 ≤ 512 ∧ (v2 = 0 ∨ ∃ k, k < n ∧ f (adv wv k) 0 = v2) ∧ ¬ v1 ≤ v2 ∧ ∀ k, k < M9 → Fre ids cnt (v1 + 8 * nI k)) ∧ r = 1 ∧ ∃ b T last, Par f (adv wv) n g b T ∧ f b 0 = v2 ∧ RnC g (LP, f, wv, n, cn, cnt, ids) v1 b M9 v4 M9 z last) ∨ ((¬ ∃ M9, nI M = nI M9 ∧ (2 ≤ M9 ∧ M9 ≤ 8 ∧ n + M9 ≤ 512 ∧ (v2 = 0 ∨ ∃ k, k < n ∧ f (adv wv k) 0 = v2) ∧ ¬ v1 ≤ v2 ∧ ∀ k, k < M9 → Fre ids cnt (v1 + 8 * nI k))) ∧ r = 0 ∧ z = (LP, f, wv, n, cn, cnt, ids))) (CB D x u i g w cI cW AA) AA) AA) [.ref x, .int v1, .int v2, .int (nI M), .long v4].toArray s 8 72 AA) (F0 m 56 ls []) from hloop (M + 1) 0 g (LP, f, wv, n, cn, cnt, ids) (by omega) (by omega) ⟨rfl, rfl⟩ hI rfl ⟨_, hI.par0⟩ (fun j _ h => h_45 j h) _ _ hG ls (lv_sub hl [0, 1, 2, 3, 4, 5, 6] rfl)
                intro fuel
                induction fuel with
                | zero => intro k lst z0 hk hf9 hR hIz hnz hPz hFr; omega
                | succ fuel ih =>
                  intro k lst z0 hk hf9 hR hIz hnz hPz hFr H locs hG ls hl
                  obtain ⟨T, hPr⟩ := hPz
                  have hcz := hIz.2.1
                  have hdz := hG.1.2.2
                  refine lv_iload hx hb dX2_run_56 (lv_at hl 0 rfl) ?_
                  refine lv_iload_n hx hb dX2_run_58 rfl (lv_at hl 5 rfl) ?_
                  refine lv_icmp_ge (tgt := 95) hx hb dX2_run_59 (by decide) (fun c_59 => ?_) (fun c_59 => ?_)
                  · rw [nI_leI (by omega) (by omega)] at c_59
                    refine lv_iconst (v := 1) hx hb dX2_run_95 (by decide) ?_
                    refine W.widen (k := 8) (n := 72) (by omega) (by omega) ?_
                    exact W.zret (v := 1) hx hb hr rfl (fun t9 ht9 hW9 => ⟨⟨_, (z0.1, z0.2.1, z0.2.2.1, z0.2.2.2.1, z0.2.2.2.2.1, z0.2.2.2.2.2.1, z0.2.2.2.2.2.2), rfl, Or.inl ⟨M, rfl, ⟨hM2, hM8, by omega, Or.inl h0_27, c_39, h_45⟩, rfl, g, 0, lst, hI.par0, by rw [h0_27]; exact hI.2.2.1, by rw [show k = M by omega] at hR; exact hR⟩, (hG.out ht9 hW9).1⟩, (hG.out ht9 hW9).2⟩) hG.2.2.S.2.2 dX2_run_96
                  · rw [nI_leI (by omega) (by omega)] at c_59
                    refine lv_aload_n hx hb dX2_run_62 rfl (lv_at hl 2 rfl) ?_
                    refine lv_iload_n hx hb dX2_run_63 rfl (lv_at hl 3 rfl) ?_
                    refine lv_bipush (v := 8) hx hb dX2_run_64 (by decide) ?_
                    refine lv_iload hx hb dX2_run_66 (lv_at hl 0 rfl) ?_
                    refine lv_imul hx hb dX2_run_68 ?_
                    refine lv_iadd hx hb dX2_run_69 ?_
                    refine lv_aload hx hb dX2_run_70 (lv_at hl 1 rfl) ?_
                    refine lv_iconst (v := 2) hx hb dX2_run_72 (by decide) ?_
                    refine lv_lload hx hb dX2_run_73 (lv_at hl 6 rfl) ?_
                    refine lv_iload_n hx hb dX2_run_75 rfl (lv_at hl 5 rfl) ?_
                    refine lv_iconst (v := 1) hx hb dX2_run_76 (by decide) ?_
                    refine lv_isub hx hb dX2_run_77 ?_
                    refine lv_iload hx hb dX2_run_78 (lv_at hl 0 rfl) ?_
                    refine lv_isub hx hb dX2_run_80 ?_
                    refine vp_callSi (va_Run.run (runS (As := [.long v4, .int (((nI M) - 1) - (nI k))]) (rest := [.int 2, .ref lst, .int (v1 + (8 * (nI k))), .ref x]) (Bh := (fun _ _ => True)) S (c_X2_byteOf l v4 (((nI M) - 1) - (nI k))) (gw_S wk_161 wk_162 wk_1 wk_163) rfl rfl 2 rfl (by decide +kernel) (by decide) ⟨by show _ ≤ 8; omega, by show _ ≤ 72; omega⟩ (fun _ _ _ _ _ => trivial) trivial hl.1 (Nat.le_of_ble_eq_true rfl) dX2_run_81)) (fun r_81 hr_81 => ?_)
                    refine va_callq (runV (As := [.int (v1 + (8 * (nI k))), .ref lst, .int 2, .int r_81]) (rest := []) (Bh := CPre D x u i g w cI cW z0.1 z0.2.1 z0.2.2.1 z0.2.2.2.1 z0.2.2.2.2.1 z0.2.2.2.2.2.1 z0.2.2.2.2.2.2 H.size) S (c_X2_weave l (v1 + (8 * (nI k))) lst 2 r_81 hPr hIz.1 (by omega) (by omega)) (gw_V wk_134 wk_136 wp_7 wk_1 wk_137) rfl rfl 4 rfl (by decide +kernel) (by decide) ⟨by show _ ≤ 8; omega, by show _ ≤ 72; omega⟩ (fun _ _ _ h q => CPre.mv h q) hG.rd.recv hG.pre hl.1 (Nat.le_of_ble_eq_true rfl) dX2_run_84) hG.2.2.S (fun q _ h => hG.2.2.free q h) hG.2.2.free (fun r8 u8 t8 H1 locs1 ht8 hvm8 hp hB8 hz8 hk8 hS8 => ?_)
                    have hG_84 := hG.1
                    have hG := hG.back ht8 hB8 hS8
                    clear hS8 hB8 hz8 hk8 ht8 hvm8
                    generalize H1 = H at hG ⊢
                    generalize locs1 = locs at hG ⊢
                    obtain ⟨m_84, rfl, hW_84⟩ := hp
                    refine W.widen (k := k + 1) (n := 9 * (k + 1)) (by omega) (by omega) ?_
                    refine W.eq (g2 := F0 m 87 ls [.ref m_84]) rfl ?_
                    have hN9 := hIz.weave hG_84 (hPr.mem hG_84) hW_84 (hFr k (Nat.le_refl _) (by omega))
                    refine lv_astore (lv' := [(6, .ref m_84), (7, .int (nI k)), (0, .ref x), (1, .int v1), (2, .int v2), (3, .int (nI M)), (4, .long v4)]) hx hb dX2_run_87 hl (by decide) rfl (fun ls hl => ?_)
                    refine lv_iinc (v := nI (k + 1)) (lv' := [(7, .int (nI (k + 1))), (6, .ref m_84), (0, .ref x), (1, .int v1), (2, .int v2), (3, .int (nI M)), (4, .long v4)]) hx hb dX2_run_89 hl (k := 1) rfl (nI_1 _) (by decide) rfl (fun ls hl => ?_)
                    refine lv_goto (tgt := 56) hx hb dX2_run_92 (by decide) ?_
                    exact ih (k + 1) m_84 u8 (by omega) (by omega) ⟨z0, lst, T, hR, hG_84, hPr, by rw [hr_81] at hW_84; exact hW_84⟩ hN9.1 (by have e9 : u8.2.2.2.1 = z0.2.2.2.1 + 1 := by { obtain ⟨_, _, _, _, _, _, _, _, _, rfl⟩ := hW_84; rfl }; omega) hN9.2.1 (fun j h1 h2 => hN9.2.2 _ (hFr j (by omega) h2) (run_ne (by omega) (by omega) (by omega))) _ _ hG ls (lv_sub hl [0, 1, 2, 3, 4, 5, 6] rfl)
              · exact absurd (show _ from c_48) (by decide)
            · refine lv_if_ne (tgt := 53) hx hb dX2_run_48 (by decide) (fun c_48 => ?_) (fun c_48 => ?_)
              · exact absurd (show _ from c_48) (by decide)
              · refine lv_iconst (v := 0) hx hb dX2_run_51 (by decide) ?_
                refine W.widen (k := 8) (n := 72) (by omega) (by omega) ?_
                exact W.zret (v := 0) hx hb hr rfl (fun t9 ht9 hW9 => ⟨⟨_, (LP, f, wv, n, cn, cnt, ids), rfl, Or.inr ⟨fun ⟨M9, e, y9⟩ => by obtain rfl := (nI_eq (by omega) (by have := y9.2.1; omega)).mp e; exact h_45 y9.2.2.2.2.2, rfl, rfl⟩, (hG.out ht9 hW9).1⟩, (hG.out ht9 hW9).2⟩) hG.2.2.S.2.2 dX2_run_52
        · show W p l e { frames := 4, cells := 8, slots := 72, locals := 90 } s m [.ref x, .int v1, .int v2, .int (nI M), .long v4].toArray below meth c H locs 0 0 (MQ below ((fun AA : Nat → Prop => va_Qi (fun r (z : CS) => (∃ M9, nI M = nI M9 ∧ (2 ≤ M9 ∧ M9 ≤ 8 ∧ n + M9 ≤ 512 ∧ (v2 = 0 ∨ ∃ k, k < n ∧ f (adv wv k) 0 = v2) ∧ ¬ v1 ≤ v2 ∧ ∀ k, k < M9 → Fre ids cnt (v1 + 8 * nI k)) ∧ r = 1 ∧ ∃ b T last, Par f (adv wv) n g b T ∧ f b 0 = v2 ∧ RnC g (LP, f, wv, n, cn, cnt, ids) v1 b M9 v4 M9 z last) ∨ ((¬ ∃ M9, nI M = nI M9 ∧ (2 ≤ M9 ∧ M9 ≤ 8 ∧ n + M9 ≤ 512 ∧ (v2 = 0 ∨ ∃ k, k < n ∧ f (adv wv k) 0 = v2) ∧ ¬ v1 ≤ v2 ∧ ∀ k, k < M9 → Fre ids cnt (v1 + 8 * nI k))) ∧ r = 0 ∧ z = (LP, f, wv, n, cn, cnt, ids))) (CB D x u i g w cI cW AA) AA) AA) [.ref x, .int v1, .int v2, .int (nI M), .long v4].toArray s 8 72 AA) (F0 m 30 ls [.ref (ad k_27)])
          refine lv_astore (lv' := [(6, .ref (ad k_27)), (0, .ref x), (1, .int v1), (2, .int v2), (3, .int (nI M)), (4, .long v4)]) hx hb dX2_run_30 hl (by decide) rfl (fun ls hl => ?_)
          refine lv_aload hx hb dX2_run_32 (lv_at hl 0 rfl) ?_
          refine lv_ifnull hx hb dX2_run_34 ?_
          refine lv_iload_n hx hb dX2_run_37 rfl (lv_at hl 2 rfl) ?_
          refine lv_iload_n hx hb dX2_run_38 rfl (lv_at hl 3 rfl) ?_
          refine lv_icmp_le (tgt := 51) hx hb dX2_run_39 (by decide) (fun c_39 => ?_) (fun c_39 => ?_)
          · refine lv_iconst (v := 0) hx hb dX2_run_51 (by decide) ?_
            refine W.widen (k := 8) (n := 72) (by omega) (by omega) ?_
            exact W.zret (v := 0) hx hb hr rfl (fun t9 ht9 hW9 => ⟨⟨_, (LP, f, wv, n, cn, cnt, ids), rfl, Or.inr ⟨fun ⟨M9, e, y9⟩ => by obtain rfl := (nI_eq (by omega) (by have := y9.2.1; omega)).mp e; exact y9.2.2.2.2.1 c_39, rfl, rfl⟩, (hG.out ht9 hW9).1⟩, (hG.out ht9 hW9).2⟩) hG.2.2.S.2.2 dX2_run_52
          · refine lv_aload_n hx hb dX2_run_42 rfl (lv_at hl 1 rfl) ?_
            refine lv_iload_n hx hb dX2_run_43 rfl (lv_at hl 2 rfl) ?_
            refine lv_iload_n hx hb dX2_run_44 rfl (lv_at hl 4 rfl) ?_
            refine vp_callSi (va_Run.run (runV (As := [.int v1, .int (nI M)]) (rest := []) (Bh := RdC D x u i g w n cn cnt ids ad f) S (c_X2_areFree l v1 M hs (by omega)) (gw_V wk_157 wk_159 wp_11 wk_1 wk_160) rfl rfl 2 rfl (by decide +kernel) (by decide) ⟨by show _ ≤ 8; omega, by show _ ≤ 72; omega⟩ (fun _ _ _ h q => RdC.mv h q) hC.recv hC hl.1 (Nat.le_of_ble_eq_true rfl) dX2_run_45)) (fun r hr => ?_)
            rcases hr with ⟨h_45, rfl⟩ | ⟨h_45, rfl⟩
            · refine lv_if_ne (tgt := 53) hx hb dX2_run_48 (by decide) (fun c_48 => ?_) (fun c_48 => ?_)
              · refine lv_iconst (v := nI 0) hx hb dX2_run_53 (by decide) ?_
                refine lv_istore (lv' := [(7, .int (nI 0)), (6, .ref (ad k_27)), (0, .ref x), (1, .int v1), (2, .int v2), (3, .int (nI M)), (4, .long v4)]) hx hb dX2_run_54 hl (by decide) rfl (fun ls hl => ?_)
                subst had
                suffices hloop : ∀ (fuel : Nat) (k lst : Nat) (z0 : CS), k ≤ M → M - k < fuel → RnC g (LP, f, wv, n, cn, cnt, ids) v1 (adv wv k_27) M v4 k z0 lst → CI g z0.2.1 z0.2.2.1 z0.2.2.2.1 z0.2.2.2.2.1 z0.2.2.2.2.2.1 z0.2.2.2.2.2.2 → z0.2.2.2.1 = n + k → (∃ T, Par z0.2.1 (adv z0.2.2.1) z0.2.2.2.1 g lst T) → (∀ j, k ≤ j → j < M → Fre z0.2.2.2.2.2.2 z0.2.2.2.2.2.1 (v1 + 8 * nI j)) → ∀ (H : Heap) (locs : List Loc), CC D x u i g w cI cW z0.1 z0.2.1 z0.2.2.1 z0.2.2.2.1 z0.2.2.2.2.1 z0.2.2.2.2.2.1 z0.2.2.2.2.2.2 AA s.heap s H locs → ∀ ls : Array Slot, lv_has ls 8 [(7, .int (nI k)), (6, .ref lst), (0, .ref x), (1, .int v1), (2, .int v2), (3, .int (nI M)), (4, .long v4)] → W p l e { frames := 4, cells := 8, slots := 72, locals := 90 } s m [.ref x, .int v1, .int v2, .int (nI M), .long v4].toArray below meth c H locs k (9 * k) (MQ below ((fun AA : Nat → Prop => va_Qi (fun r (z : CS) => (∃ M9, nI M = nI M9 ∧ (2 ≤ M9 ∧ M9 ≤ 8 ∧ n + M9 ≤ 512 ∧ (v2 = 0 ∨ ∃ k, k < n ∧ f (adv wv k) 0 = v2) ∧ ¬ v1 ≤ v2 ∧ ∀ k, k < M9 → Fre ids cnt (v1 + 8 * nI k)) ∧ r = 1 ∧ ∃ b T last, Par f (adv wv) n g b T ∧ f b 0 = v2 ∧ RnC g (LP, f, wv, n, cn, cnt, ids) v1 b M9 v4 M9 z last) ∨ ((¬ ∃ M9, nI M = nI M9 ∧ (2 ≤ M9 ∧ M9 ≤ 8 ∧ n + M9 ≤ 512 ∧ (v2 = 0 ∨ ∃ k, k < n ∧ f (adv wv k) 0 = v2) ∧ ¬ v1 ≤ v2 ∧ ∀ k, k < M9 → Fre ids cnt (v1 + 8 * nI k))) ∧ r = 0 ∧ z = (LP, f, wv, n, cn, cnt, ids))) (CB D x u i g w cI cW AA) AA) AA) [.ref x, .int v1, .int v2, .int (nI M), .long v4].toArray s 8 72 AA) (F0 m 56 ls []) from hloop (M + 1) 0 (adv wv k_27) (LP, f, wv, n, cn, cnt, ids) (by omega) (by omega) ⟨rfl, rfl⟩ hI rfl ⟨_, hI.par hk_27⟩ (fun j _ h => h_45 j h) _ _ hG ls (lv_sub hl [0, 1, 2, 3, 4, 5, 6] rfl)
                intro fuel
                induction fuel with
                | zero => intro k lst z0 hk hf9 hR hIz hnz hPz hFr; omega
                | succ fuel ih =>
                  intro k lst z0 hk hf9 hR hIz hnz hPz hFr H locs hG ls hl
                  obtain ⟨T, hPr⟩ := hPz
                  have hcz := hIz.2.1
                  have hdz := hG.1.2.2
                  refine lv_iload hx hb dX2_run_56 (lv_at hl 0 rfl) ?_
                  refine lv_iload_n hx hb dX2_run_58 rfl (lv_at hl 5 rfl) ?_
                  refine lv_icmp_ge (tgt := 95) hx hb dX2_run_59 (by decide) (fun c_59 => ?_) (fun c_59 => ?_)
                  · rw [nI_leI (by omega) (by omega)] at c_59
                    refine lv_iconst (v := 1) hx hb dX2_run_95 (by decide) ?_
                    refine W.widen (k := 8) (n := 72) (by omega) (by omega) ?_
                    exact W.zret (v := 1) hx hb hr rfl (fun t9 ht9 hW9 => ⟨⟨_, (z0.1, z0.2.1, z0.2.2.1, z0.2.2.2.1, z0.2.2.2.2.1, z0.2.2.2.2.2.1, z0.2.2.2.2.2.2), rfl, Or.inl ⟨M, rfl, ⟨hM2, hM8, by omega, Or.inr ⟨k_27, hk_27, he_27⟩, c_39, h_45⟩, rfl, adv wv k_27, k_27 + 1, lst, hI.par hk_27, he_27, by rw [show k = M by omega] at hR; exact hR⟩, (hG.out ht9 hW9).1⟩, (hG.out ht9 hW9).2⟩) hG.2.2.S.2.2 dX2_run_96
                  · rw [nI_leI (by omega) (by omega)] at c_59
                    refine lv_aload_n hx hb dX2_run_62 rfl (lv_at hl 2 rfl) ?_
                    refine lv_iload_n hx hb dX2_run_63 rfl (lv_at hl 3 rfl) ?_
                    refine lv_bipush (v := 8) hx hb dX2_run_64 (by decide) ?_
                    refine lv_iload hx hb dX2_run_66 (lv_at hl 0 rfl) ?_
                    refine lv_imul hx hb dX2_run_68 ?_
                    refine lv_iadd hx hb dX2_run_69 ?_
                    refine lv_aload hx hb dX2_run_70 (lv_at hl 1 rfl) ?_
                    refine lv_iconst (v := 2) hx hb dX2_run_72 (by decide) ?_
                    refine lv_lload hx hb dX2_run_73 (lv_at hl 6 rfl) ?_
                    refine lv_iload_n hx hb dX2_run_75 rfl (lv_at hl 5 rfl) ?_
                    refine lv_iconst (v := 1) hx hb dX2_run_76 (by decide) ?_
                    refine lv_isub hx hb dX2_run_77 ?_
                    refine lv_iload hx hb dX2_run_78 (lv_at hl 0 rfl) ?_
                    refine lv_isub hx hb dX2_run_80 ?_
                    refine vp_callSi (va_Run.run (runS (As := [.long v4, .int (((nI M) - 1) - (nI k))]) (rest := [.int 2, .ref lst, .int (v1 + (8 * (nI k))), .ref x]) (Bh := (fun _ _ => True)) S (c_X2_byteOf l v4 (((nI M) - 1) - (nI k))) (gw_S wk_161 wk_162 wk_1 wk_163) rfl rfl 2 rfl (by decide +kernel) (by decide) ⟨by show _ ≤ 8; omega, by show _ ≤ 72; omega⟩ (fun _ _ _ _ _ => trivial) trivial hl.1 (Nat.le_of_ble_eq_true rfl) dX2_run_81)) (fun r_81 hr_81 => ?_)
                    refine va_callq (runV (As := [.int (v1 + (8 * (nI k))), .ref lst, .int 2, .int r_81]) (rest := []) (Bh := CPre D x u i g w cI cW z0.1 z0.2.1 z0.2.2.1 z0.2.2.2.1 z0.2.2.2.2.1 z0.2.2.2.2.2.1 z0.2.2.2.2.2.2 H.size) S (c_X2_weave l (v1 + (8 * (nI k))) lst 2 r_81 hPr hIz.1 (by omega) (by omega)) (gw_V wk_134 wk_136 wp_7 wk_1 wk_137) rfl rfl 4 rfl (by decide +kernel) (by decide) ⟨by show _ ≤ 8; omega, by show _ ≤ 72; omega⟩ (fun _ _ _ h q => CPre.mv h q) hG.rd.recv hG.pre hl.1 (Nat.le_of_ble_eq_true rfl) dX2_run_84) hG.2.2.S (fun q _ h => hG.2.2.free q h) hG.2.2.free (fun r8 u8 t8 H1 locs1 ht8 hvm8 hp hB8 hz8 hk8 hS8 => ?_)
                    have hG_84 := hG.1
                    have hG := hG.back ht8 hB8 hS8
                    clear hS8 hB8 hz8 hk8 ht8 hvm8
                    generalize H1 = H at hG ⊢
                    generalize locs1 = locs at hG ⊢
                    obtain ⟨m_84, rfl, hW_84⟩ := hp
                    refine W.widen (k := k + 1) (n := 9 * (k + 1)) (by omega) (by omega) ?_
                    refine W.eq (g2 := F0 m 87 ls [.ref m_84]) rfl ?_
                    have hN9 := hIz.weave hG_84 (hPr.mem hG_84) hW_84 (hFr k (Nat.le_refl _) (by omega))
                    refine lv_astore (lv' := [(6, .ref m_84), (7, .int (nI k)), (0, .ref x), (1, .int v1), (2, .int v2), (3, .int (nI M)), (4, .long v4)]) hx hb dX2_run_87 hl (by decide) rfl (fun ls hl => ?_)
                    refine lv_iinc (v := nI (k + 1)) (lv' := [(7, .int (nI (k + 1))), (6, .ref m_84), (0, .ref x), (1, .int v1), (2, .int v2), (3, .int (nI M)), (4, .long v4)]) hx hb dX2_run_89 hl (k := 1) rfl (nI_1 _) (by decide) rfl (fun ls hl => ?_)
                    refine lv_goto (tgt := 56) hx hb dX2_run_92 (by decide) ?_
                    exact ih (k + 1) m_84 u8 (by omega) (by omega) ⟨z0, lst, T, hR, hG_84, hPr, by rw [hr_81] at hW_84; exact hW_84⟩ hN9.1 (by have e9 : u8.2.2.2.1 = z0.2.2.2.1 + 1 := by { obtain ⟨_, _, _, _, _, _, _, _, _, rfl⟩ := hW_84; rfl }; omega) hN9.2.1 (fun j h1 h2 => hN9.2.2 _ (hFr j (by omega) h2) (run_ne (by omega) (by omega) (by omega))) _ _ hG ls (lv_sub hl [0, 1, 2, 3, 4, 5, 6] rfl)
              · exact absurd (show _ from c_48) (by decide)
            · refine lv_if_ne (tgt := 53) hx hb dX2_run_48 (by decide) (fun c_48 => ?_) (fun c_48 => ?_)
              · exact absurd (show _ from c_48) (by decide)
              · refine lv_iconst (v := 0) hx hb dX2_run_51 (by decide) ?_
                refine W.widen (k := 8) (n := 72) (by omega) (by omega) ?_
                exact W.zret (v := 0) hx hb hr rfl (fun t9 ht9 hW9 => ⟨⟨_, (LP, f, wv, n, cn, cnt, ids), rfl, Or.inr ⟨fun ⟨M9, e, y9⟩ => by obtain rfl := (nI_eq (by omega) (by have := y9.2.1; omega)).mp e; exact h_45 y9.2.2.2.2.2, rfl, rfl⟩, (hG.out ht9 hW9).1⟩, (hG.out ht9 hW9).2⟩) hG.2.2.S.2.2 dX2_run_52
        · show W p l e { frames := 4, cells := 8, slots := 72, locals := 90 } s m [.ref x, .int v1, .int v2, .int (nI M), .long v4].toArray below meth c H locs 0 0 (MQ below ((fun AA : Nat → Prop => va_Qi (fun r (z : CS) => (∃ M9, nI M = nI M9 ∧ (2 ≤ M9 ∧ M9 ≤ 8 ∧ n + M9 ≤ 512 ∧ (v2 = 0 ∨ ∃ k, k < n ∧ f (adv wv k) 0 = v2) ∧ ¬ v1 ≤ v2 ∧ ∀ k, k < M9 → Fre ids cnt (v1 + 8 * nI k)) ∧ r = 1 ∧ ∃ b T last, Par f (adv wv) n g b T ∧ f b 0 = v2 ∧ RnC g (LP, f, wv, n, cn, cnt, ids) v1 b M9 v4 M9 z last) ∨ ((¬ ∃ M9, nI M = nI M9 ∧ (2 ≤ M9 ∧ M9 ≤ 8 ∧ n + M9 ≤ 512 ∧ (v2 = 0 ∨ ∃ k, k < n ∧ f (adv wv k) 0 = v2) ∧ ¬ v1 ≤ v2 ∧ ∀ k, k < M9 → Fre ids cnt (v1 + 8 * nI k))) ∧ r = 0 ∧ z = (LP, f, wv, n, cn, cnt, ids))) (CB D x u i g w cI cW AA) AA) AA) [.ref x, .int v1, .int v2, .int (nI M), .long v4].toArray s 8 72 AA) (F0 m 30 ls [.null])
          refine lv_astoreN (lv' := [(6, .null), (0, .ref x), (1, .int v1), (2, .int v2), (3, .int (nI M)), (4, .long v4)]) hx hb dX2_run_30 hl (by decide) rfl (fun ls hl => ?_)
          refine lv_aloadN hx hb dX2_run_32 (lv_at hl 0 rfl) ?_
          refine lv_ifnullN (tgt := 51) hx hb dX2_run_34 (by decide) ?_
          refine lv_iconst (v := 0) hx hb dX2_run_51 (by decide) ?_
          refine W.widen (k := 8) (n := 72) (by omega) (by omega) ?_
          exact W.zret (v := 0) hx hb hr rfl (fun t9 ht9 hW9 => ⟨⟨_, (LP, f, wv, n, cn, cnt, ids), rfl, Or.inr ⟨fun ⟨M9, e, y9⟩ => by obtain rfl := (nI_eq (by omega) (by have := y9.2.1; omega)).mp e; exact y9.2.2.2.1.elim (fun e9 => h0_27 e9) (fun ⟨k9, g1, g2⟩ => hn_27 k9 g1 (by rw [had]; exact g2)), rfl, rfl⟩, (hG.out ht9 hW9).1⟩, (hG.out ht9 hW9).2⟩) hG.2.2.S.2.2 dX2_run_52
      · rw [nI_leI (by omega) (by omega)] at c_20
        refine lv_iconst (v := 0) hx hb dX2_run_23 (by decide) ?_
        refine W.widen (k := 8) (n := 72) (by omega) (by omega) ?_
        exact W.zret (v := 0) hx hb hr rfl (fun t9 ht9 hW9 => ⟨⟨_, (LP, f, wv, n, cn, cnt, ids), rfl, Or.inr ⟨fun ⟨M9, e, y9⟩ => by obtain rfl := (nI_eq (by omega) (by have := y9.2.1; omega)).mp e; exact absurd y9.2.2.1 (by omega), rfl, rfl⟩, (hG.out ht9 hW9).1⟩, (hG.out ht9 hW9).2⟩) hG.2.2.S.2.2 dX2_run_24
