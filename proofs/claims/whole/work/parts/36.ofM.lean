theorem i32_6 {v : Int32} (h0 : ¬ v < 0) (h1 : ¬ 6 < v) (n0 : ¬ v = 0) (n1 : ¬ v = 1) (n2 : ¬ v = 2) (n3 : ¬ v = 3) (n4 : ¬ v = 4) (n5 : ¬ v = 5) : v = 6 := by
  have e0 : (0 : Int32).toInt = 0 := by decide
  have e6 : (6 : Int32).toInt = 6 := by decide
  rw [Int32.lt_iff_toInt_lt, e0] at h0
  rw [Int32.lt_iff_toInt_lt, e6] at h1
  have m0 := lv_neT n0 (show (0 : Int32).toInt = 0 by decide)
  have m1 := lv_neT n1 (show (1 : Int32).toInt = 1 by decide)
  have m2 := lv_neT n2 (show (2 : Int32).toInt = 2 by decide)
  have m3 := lv_neT n3 (show (3 : Int32).toInt = 3 by decide)
  have m4 := lv_neT n4 (show (4 : Int32).toInt = 4 by decide)
  have m5 := lv_neT n5 (show (5 : Int32).toInt = 5 by decide)
  exact Int32.toInt_inj.mp (by rw [e6]; omega)
theorem i32_not06 {v : Int32} (h : v < 0 ∨ 6 < v) : ¬ v = 0 ∧ ¬ v = 1 ∧ ¬ v = 2 ∧ ¬ v = 3 ∧ ¬ v = 4 ∧ ¬ v = 5 ∧ ¬ v = 6 := by
  refine ⟨fun e => ?_, fun e => ?_, fun e => ?_, fun e => ?_, fun e => ?_, fun e => ?_, fun e => ?_⟩ <;> (subst e; revert h; decide)
theorem i32_2le {v : Int32} (h : 2 ≤ v) : 1 < v := by
  have e1 : (1 : Int32).toInt = 1 := by decide
  have e2 : (2 : Int32).toInt = 2 := by decide
  rw [Int32.le_iff_toInt_le, e2] at h
  rw [Int32.lt_iff_toInt_lt, e1]
  omega
set_option maxHeartbeats 4000000 in
set_option maxRecDepth 100000 in
theorem c_X3_sum (l : Launch) {D : va_G} {y : Nat} {a : Nat → Nat} {cI : ClassId} {n d : Nat} {th : Int32} {A : Nat → Nat → Int32} {sz : Nat} (v1 : Int32) (v2 : Int32) {L : Nat → Int32} {pp : Nat → Nat} {G : Nat → Int32} (hCo : Cor A n d L pp G) {KD VL : Nat → Int32} (hKD : ∀ k, k < n → ∀ r, OfM A n d (L k) 2 6 r → r = KD k) (hVL : ∀ k, k < n → ∀ r, OfM A n d (L k) 3 7 r → r = VL k) : Met l yX3_sum (gws yX3_sum cX3_sum 7 (some .long)) { frames := 2, cells := 0, slots := 0, locals := 49 } (va_Pc [.ref y, .int v1, .int v2] (fun U => MPre D y a cI n d th A sz U U.heap)) (va_Ql (fun r (u : MS) => r = smt G KD VL v1 v2 n ∧ u.1 = n ∧ u.2.1 = d ∧ u.2.2.1 = 0 ∧ Scr A u.2.2.2) (MB D y a cI (va_A (wM y a cI n d th A) sz)) (va_A (wM y a cI n d th A) sz)) 0 0 (va_A (wM y a cI n d th A) sz) := by
  refine met_mm (QQ := fun AA => va_Ql (fun r (u : MS) => r = smt G KD VL v1 v2 n ∧ u.1 = n ∧ u.2.1 = d ∧ u.2.2.1 = 0 ∧ Scr A u.2.2.2) (MB D y a cI AA) AA) (by decide) (Nat.le_of_ble_eq_true rfl) ?_
  intro p e s m below meth c ls AA S hr hlocks hM hl
  obtain ⟨hx, hb, hml, hown, hg⟩ := id S
  have hl : lv_has ls 7 [(0, .ref y), (1, .int v1), (2, .int v2)] := hl
  have hn := hM.bd
  suffices key9 : ∀ (H : Heap) (locs : List Loc), MM D y a cI n d th A AA s.heap s H locs → W p l e { frames := 2, cells := 0, slots := 0, locals := 49 } s m [.ref y, .int v1, .int v2].toArray below meth c H locs 0 0 (MQ below ((fun AA : Nat → Prop => va_Ql (fun r (u : MS) => r = smt G KD VL v1 v2 n ∧ u.1 = n ∧ u.2.1 = d ∧ u.2.2.1 = 0 ∧ Scr A u.2.2.2) (MB D y a cI AA) AA) AA) [.ref y, .int v1, .int v2].toArray s 0 0 AA) (F0 m 0 ls []) from key9 _ _ hM
  clear hM
  intro H locs hM
  refine lv_aload_n hx hb dX3_sum_0 rfl (lv_at hl 0 rfl) ?_
  refine lv_iconst (v := 0) hx hb dX3_sum_1 (by decide) ?_
  refine mw_thrown S hM dX3_sum_2 (fun H locs hM => ?_)
  refine lv_aload_n hx hb dX3_sum_5 rfl (lv_at hl 0 rfl) ?_
  refine va_callv (runV (As := []) (rest := []) (Bh := MPre D y a cI n d 0 A H.size) S (c_X3_weave l hCo.1) (gw_V wk_458 wk_460 wp_28 wk_4 wk_461) rfl rfl 0 rfl (by decide +kernel) (by decide) ⟨Nat.le_refl _, Nat.le_refl _⟩ (fun _ _ _ h q => MPre.mv h q) hM.recv hM.pre hl.1 (Nat.le_of_ble_eq_true rfl) dX3_sum_6) hM.S (fun q _ h => hM.free q h) hM.free (fun u8 t8 H1 locs1 ht8 hvm8 hp hB8 hz8 hk8 hS8 => ?_)
  obtain ⟨n_6, d_6, th_6, A_6⟩ := u8
  have hM := hM.back ht8 hB8 hS8
  generalize H1 = H at hM ⊢
  generalize locs1 = locs at hM ⊢
  dsimp only at hp hM
  obtain ⟨T_6, O_6, hu, hO⟩ := hp
  obtain ⟨rfl, rfl, rfl, hA9⟩ : n = n_6 ∧ d = d_6 ∧ 0 = th_6 ∧ A_6 = va_up (va_up A 9 T_6) 8 O_6 := by have z := hu; simp only [Prod.mk.injEq] at z; exact ⟨z.1.symm, z.2.1.symm, z.2.2.1.symm, z.2.2.2⟩
  have hsc : Scr A A_6 := by rw [hA9]; exact Scr.up A _ _
  have hO : ∀ i, i < n → A_6 8 i = L i := fun i h => by rw [hA9, va_up_self]; exact hO i h
  clear hA9 hu
  refine lv_lconst (v := 0) hx hb dX3_sum_9 (by decide) ?_
  refine lv_lstore_n (lv' := [(3, .long 0), (0, .ref y), (1, .int v1), (2, .int v2)]) hx hb dX3_sum_10 rfl hl (by decide) rfl (fun ls hl => ?_)
  refine lv_iconst (v := nI 0) hx hb dX3_sum_11 (by decide) ?_
  refine lv_istore (lv' := [(5, .int (nI 0)), (3, .long 0), (0, .ref y), (1, .int v1), (2, .int v2)]) hx hb dX3_sum_12 hl (by decide) rfl (fun ls hl => ?_)
  refine lv_iconst (v := nI 0) hx hb dX3_sum_14 (by decide) ?_
  refine lv_istore (lv' := [(6, .int (nI 0)), (5, .int (nI 0)), (3, .long 0), (0, .ref y), (1, .int v1), (2, .int v2)]) hx hb dX3_sum_15 hl (by decide) rfl (fun ls hl => ?_)
  suffices hloop : ∀ (fuel : Nat) (k q : Nat) (t : Int64), k ≤ n → n - k < fuel → q = vis G k → t = smt G KD VL v1 v2 k → ∀ ls : Array Slot, lv_has ls 7 [(6, .int (nI k)), (5, .int (nI q)), (3, .long t), (0, .ref y), (1, .int v1), (2, .int v2)] → W p l e { frames := 2, cells := 0, slots := 0, locals := 49 } s m [.ref y, .int v1, .int v2].toArray below meth c H locs 0 0 (MQ below ((fun AA : Nat → Prop => va_Ql (fun r (u : MS) => r = smt G KD VL v1 v2 n ∧ u.1 = n ∧ u.2.1 = d ∧ u.2.2.1 = 0 ∧ Scr A u.2.2.2) (MB D y a cI AA) AA) AA) [.ref y, .int v1, .int v2].toArray s 0 0 AA) (F0 m 17 ls []) from hloop (n + 1) 0 0 0 (by omega) (by omega) rfl rfl  ls (lv_sub hl [0, 1, 2, 3, 4, 5] rfl)
  intro fuel
  induction fuel with
  | zero => intro k q t hk hf hq ht; omega
  | succ fuel ih =>
    intro k q t hk hf hq ht  ls hl
    refine lv_iload hx hb dX3_sum_17 (lv_at hl 0 rfl) ?_
    refine lv_aload_n hx hb dX3_sum_19 rfl (lv_at hl 3 rfl) ?_
    refine rM_many S hM.rd dX3_sum_20 ?_
    refine lv_icmp_ge (tgt := 95) hx hb dX3_sum_23 (by decide) (fun c_23 => ?_) (fun c_23 => ?_)
    · rw [nI_leI (by omega) (by omega)] at c_23
      refine lv_lload_n hx hb dX3_sum_95 rfl (lv_at hl 2 rfl) ?_
      exact W.lret (v := t) hx hb hr (fun t9 ht9 hW9 => ⟨⟨_, (n, d, 0, A_6), rfl, ⟨by rw [ht, show k = n by omega], ⟨rfl, rfl, rfl, hsc⟩⟩, (hM.out ht9 hW9).1⟩, (hM.out ht9 hW9).2⟩) hM.S.2.2 dX3_sum_96
    · rw [nI_leI (by omega) (by omega)] at c_23
      refine lv_aload_n hx hb dX3_sum_26 rfl (lv_at hl 3 rfl) ?_
      refine lv_aload_n hx hb dX3_sum_27 rfl (lv_at hl 3 rfl) ?_
      refine rM_order S hM.rd dX3_sum_28 ?_
      refine lv_iload hx hb dX3_sum_31 (lv_at hl 0 rfl) ?_
      refine rM_ald S hM.rd 8 (by decide) (by show _ < 512; omega) dX3_sum_33 ?_
      rw [hO k (by omega)]
      refine vp_callSi (va_Run.run (runV (As := [.int (L k)]) (rest := []) (Bh := RdM D y a n d 0 A_6) S (c_X3_isRemoved l (L k)) (gw_V wk_446 wk_448 wp_26 wk_4 wk_449) rfl rfl 1 rfl (by decide +kernel) (by decide) ⟨Nat.le_refl _, Nat.le_refl _⟩ (fun _ _ _ h q => RdM.mv h q) hM.recv hM.rd hl.1 (Nat.le_of_ble_eq_true rfl) dX3_sum_34)) (fun r hr => ?_)
      rw [hsc.rem] at hr
      rcases hr with ⟨h_34, rfl⟩ | ⟨h_34, rfl⟩
      · have g_34 : ¬ G k = 0 := fun z => by rw [(hCo.2.2 _ (by omega)).mp z] at h_34; cases h_34
        refine lv_if_ne (tgt := 89) hx hb dX3_sum_37 (by decide) (fun c_37 => ?_) (fun c_37 => ?_)
        · refine lv_iinc (v := nI (k + 1)) (lv' := [(6, .int (nI (k + 1))), (5, .int (nI q)), (3, .long t), (0, .ref y), (1, .int v1), (2, .int v2)]) hx hb dX3_sum_89 hl (k := 0) rfl (nI_1 _) (by decide) rfl (fun ls hl => ?_)
          refine lv_goto (tgt := 17) hx hb dX3_sum_92 (by decide) ?_
          exact ih (k + 1) q t (by omega) (by omega) (vis_n hq g_34) (smt_n hq ht (fun z => g_34 z.1))  ls (lv_sub hl [0, 1, 2, 3, 4, 5] rfl)
        · exact absurd (show _ from c_37) (by decide)
      · have g_34 : G k = 0 := (hCo.2.2 _ (by omega)).mpr h_34
        refine lv_if_ne (tgt := 89) hx hb dX3_sum_37 (by decide) (fun c_37 => ?_) (fun c_37 => ?_)
        · exact absurd (show _ from c_37) (by decide)
        · refine lv_lload_n hx hb dX3_sum_40 rfl (lv_at hl 2 rfl) ?_
          refine lv_iload hx hb dX3_sum_41 (lv_at hl 1 rfl) ?_
          refine lv_iload_n hx hb dX3_sum_43 rfl (lv_at hl 4 rfl) ?_
          refine lv_icmp_lt (tgt := 83) hx hb dX3_sum_44 (by decide) (fun c_44 => ?_) (fun c_44 => ?_)
          · refine lv_lconst (v := 0) hx hb dX3_sum_83 (by decide) ?_
            refine lv_ladd hx hb dX3_sum_84 ?_
            refine lv_lstore_n (lv' := [(3, .long (t + 0)), (6, .int (nI k)), (5, .int (nI q)), (0, .ref y), (1, .int v1), (2, .int v2)]) hx hb dX3_sum_85 rfl hl (by decide) rfl (fun ls hl => ?_)
            refine lv_iinc (v := nI (q + 1)) (lv' := [(5, .int (nI (q + 1))), (3, .long (t + 0)), (6, .int (nI k)), (0, .ref y), (1, .int v1), (2, .int v2)]) hx hb dX3_sum_86 hl (k := 2) rfl (nI_1 _) (by decide) rfl (fun ls hl => ?_)
            refine lv_iinc (v := nI (k + 1)) (lv' := [(6, .int (nI (k + 1))), (5, .int (nI (q + 1))), (3, .long (t + 0)), (0, .ref y), (1, .int v1), (2, .int v2)]) hx hb dX3_sum_89 hl (k := 2) rfl (nI_1 _) (by decide) rfl (fun ls hl => ?_)
            refine lv_goto (tgt := 17) hx hb dX3_sum_92 (by decide) ?_
            exact ih (k + 1) (q + 1) _ (by omega) (by omega) (vis_s hq g_34) (by rw [i64_z]; exact smt_n hq ht (fun z => absurd z.2.1 (i32_nle.mpr c_44)))  ls (lv_sub hl [0, 1, 2, 3, 4, 5] rfl)
          · refine lv_iload hx hb dX3_sum_47 (lv_at hl 1 rfl) ?_
            refine lv_iload_n hx hb dX3_sum_49 rfl (lv_at hl 5 rfl) ?_
            refine lv_icmp_ge (tgt := 83) hx hb dX3_sum_50 (by decide) (fun c_50 => ?_) (fun c_50 => ?_)
            · refine lv_lconst (v := 0) hx hb dX3_sum_83 (by decide) ?_
              refine lv_ladd hx hb dX3_sum_84 ?_
              refine lv_lstore_n (lv' := [(3, .long (t + 0)), (6, .int (nI k)), (5, .int (nI q)), (0, .ref y), (1, .int v1), (2, .int v2)]) hx hb dX3_sum_85 rfl hl (by decide) rfl (fun ls hl => ?_)
              refine lv_iinc (v := nI (q + 1)) (lv' := [(5, .int (nI (q + 1))), (3, .long (t + 0)), (6, .int (nI k)), (0, .ref y), (1, .int v1), (2, .int v2)]) hx hb dX3_sum_86 hl (k := 2) rfl (nI_1 _) (by decide) rfl (fun ls hl => ?_)
              refine lv_iinc (v := nI (k + 1)) (lv' := [(6, .int (nI (k + 1))), (5, .int (nI (q + 1))), (3, .long (t + 0)), (0, .ref y), (1, .int v1), (2, .int v2)]) hx hb dX3_sum_89 hl (k := 2) rfl (nI_1 _) (by decide) rfl (fun ls hl => ?_)
              refine lv_goto (tgt := 17) hx hb dX3_sum_92 (by decide) ?_
              exact ih (k + 1) (q + 1) _ (by omega) (by omega) (vis_s hq g_34) (by rw [i64_z]; exact smt_n hq ht (fun z => absurd z.2.2.1 (i32_nlt.mpr c_50)))  ls (lv_sub hl [0, 1, 2, 3, 4, 5] rfl)
            · refine lv_aload_n hx hb dX3_sum_53 rfl (lv_at hl 3 rfl) ?_
              refine lv_aload_n hx hb dX3_sum_54 rfl (lv_at hl 3 rfl) ?_
              refine rM_order S hM.rd dX3_sum_55 ?_
              refine lv_iload hx hb dX3_sum_58 (lv_at hl 0 rfl) ?_
              refine rM_ald S hM.rd 8 (by decide) (by show _ < 512; omega) dX3_sum_60 ?_
              rw [hO k (by omega)]
              refine vp_callSi (va_Run.run (runV (As := [.int (L k)]) (rest := [.long t]) (Bh := RdM D y a n d 0 A_6) S (c_X3_kindOf l (L k) (by rw [hsc 0 (by decide)]; exact hCo.ex' (by omega))) (gw_V wk_466 wk_468 wp_30 wk_4 wk_469) rfl rfl 1 rfl (by decide +kernel) (by decide) ⟨Nat.le_refl _, Nat.le_refl _⟩ (fun _ _ _ h q => RdM.mv h q) hM.recv hM.rd hl.1 (Nat.le_of_ble_eq_true rfl) dX3_sum_61)) (fun r_61 hr_61 => ?_)
              refine lv_iconst (v := 2) hx hb dX3_sum_64 (by decide) ?_
              refine lv_icmp_ne (tgt := 83) hx hb dX3_sum_65 (by decide) (fun c_65 => ?_) (fun c_65 => ?_)
              · refine lv_lconst (v := 0) hx hb dX3_sum_83 (by decide) ?_
                refine lv_ladd hx hb dX3_sum_84 ?_
                refine lv_lstore_n (lv' := [(3, .long (t + 0)), (6, .int (nI k)), (5, .int (nI q)), (0, .ref y), (1, .int v1), (2, .int v2)]) hx hb dX3_sum_85 rfl hl (by decide) rfl (fun ls hl => ?_)
                refine lv_iinc (v := nI (q + 1)) (lv' := [(5, .int (nI (q + 1))), (3, .long (t + 0)), (6, .int (nI k)), (0, .ref y), (1, .int v1), (2, .int v2)]) hx hb dX3_sum_86 hl (k := 2) rfl (nI_1 _) (by decide) rfl (fun ls hl => ?_)
                refine lv_iinc (v := nI (k + 1)) (lv' := [(6, .int (nI (k + 1))), (5, .int (nI (q + 1))), (3, .long (t + 0)), (0, .ref y), (1, .int v1), (2, .int v2)]) hx hb dX3_sum_89 hl (k := 2) rfl (nI_1 _) (by decide) rfl (fun ls hl => ?_)
                refine lv_goto (tgt := 17) hx hb dX3_sum_92 (by decide) ?_
                exact ih (k + 1) (q + 1) _ (by omega) (by omega) (vis_s hq g_34) (by rw [i64_z]; exact smt_n hq ht (fun z => c_65 (by rw [hKD k (by omega) _ (hsc.of (by decide) (by decide) hr_61)]; exact z.2.2.2)))  ls (lv_sub hl [0, 1, 2, 3, 4, 5] rfl)
              · refine lv_aload_n hx hb dX3_sum_68 rfl (lv_at hl 3 rfl) ?_
                refine lv_aload_n hx hb dX3_sum_69 rfl (lv_at hl 3 rfl) ?_
                refine rM_order S hM.rd dX3_sum_70 ?_
                refine lv_iload hx hb dX3_sum_73 (lv_at hl 0 rfl) ?_
                refine rM_ald S hM.rd 8 (by decide) (by show _ < 512; omega) dX3_sum_75 ?_
                rw [hO k (by omega)]
                refine vp_callSi (va_Run.run (runV (As := [.int (L k)]) (rest := [.long t]) (Bh := RdM D y a n d 0 A_6) S (c_X3_valueOf l (L k) (by rw [hsc 0 (by decide)]; exact hCo.ex' (by omega))) (gw_V wk_474 wk_476 wp_32 wk_4 wk_477) rfl rfl 1 rfl (by decide +kernel) (by decide) ⟨Nat.le_refl _, Nat.le_refl _⟩ (fun _ _ _ h q => RdM.mv h q) hM.recv hM.rd hl.1 (Nat.le_of_ble_eq_true rfl) dX3_sum_76)) (fun r_76 hr_76 => ?_)
                refine lv_i2l (v := r_76.toInt64) hx hb dX3_sum_79 rfl ?_
                refine lv_goto (tgt := 84) hx hb dX3_sum_80 (by decide) ?_
                refine lv_ladd hx hb dX3_sum_84 ?_
                refine lv_lstore_n (lv' := [(3, .long (t + r_76.toInt64)), (6, .int (nI k)), (5, .int (nI q)), (0, .ref y), (1, .int v1), (2, .int v2)]) hx hb dX3_sum_85 rfl hl (by decide) rfl (fun ls hl => ?_)
                refine lv_iinc (v := nI (q + 1)) (lv' := [(5, .int (nI (q + 1))), (3, .long (t + r_76.toInt64)), (6, .int (nI k)), (0, .ref y), (1, .int v1), (2, .int v2)]) hx hb dX3_sum_86 hl (k := 2) rfl (nI_1 _) (by decide) rfl (fun ls hl => ?_)
                refine lv_iinc (v := nI (k + 1)) (lv' := [(6, .int (nI (k + 1))), (5, .int (nI (q + 1))), (3, .long (t + r_76.toInt64)), (0, .ref y), (1, .int v1), (2, .int v2)]) hx hb dX3_sum_89 hl (k := 2) rfl (nI_1 _) (by decide) rfl (fun ls hl => ?_)
                refine lv_goto (tgt := 17) hx hb dX3_sum_92 (by decide) ?_
                exact ih (k + 1) (q + 1) _ (by omega) (by omega) (vis_s hq g_34) (by rw [hVL k (by omega) _ (hsc.of (by decide) (by decide) hr_76)]; exact smt_s hq ht g_34 (i32_nlt.mp c_44) (i32_nle.mp c_50) (by rw [← hKD k (by omega) _ (hsc.of (by decide) (by decide) hr_61)]; exact c_65))  ls (lv_sub hl [0, 1, 2, 3, 4, 5] rfl)
set_option maxHeartbeats 4000000 in
set_option maxRecDepth 100000 in
theorem c_X3_of (l : Launch) {D : va_G} {y : Nat} {a : Nat → Nat} {cI : ClassId} {n d : Nat} {th : Int32} {A : Nat → Nat → Int32} {sz : Nat} (v1 : Int32) (v2 : Int32) (h0 : ∀ k, k < n → ¬ A 0 k = 0) : Met l yX3_of (gws yX3_of cX3_of 4 (some .int)) { frames := 2, cells := 0, slots := 0, locals := 46 } (va_Pc [.ref y, .int v1, .int v2] (fun U => MPre D y a cI n d th A sz U U.heap)) (va_Qi (fun r (u : MS) => ((u.2.2.1 = 0 ∧ ((v1 = 0 ∧ v2 = 0 ∧ r = 0) ∨ (v1 = 0 ∧ v2 = 1 ∧ r = nI (cntB (fun k => decide (A 1 k = v1)) n)) ∨ (¬ v1 = 0 ∧ ∃ k, k < n ∧ A 0 k = v1 ∧ ((v2 = 0 ∧ r = A 1 k) ∨ (v2 = 1 ∧ r = nI (cntB (fun k => decide (A 1 k = v1)) n)) ∨ (v2 = 2 ∧ r = nI (cntB (fun k => decide (A 5 k = v1) && !decide (A 6 k < 0)) d)) ∨ (v2 = 3 ∧ r = nI (cntB (fun k => decide (A 5 k = v1) && decide (A 6 k < 0)) d)) ∨ (v2 = 4 ∧ OfM A n d v1 0 4 r) ∨ (v2 = 5 ∧ OfM A n d v1 2 6 r) ∨ (v2 = 6 ∧ OfM A n d v1 3 7 r))))) ∨ (u.2.2.1 = 1 ∧ ((¬ v1 = 0 ∧ ∀ k, k < n → ¬ A 0 k = v1) ∨ (v1 = 0 ∧ 1 < v2) ∨ (¬ v2 = 0 ∧ ¬ v2 = 1 ∧ ¬ v2 = 2 ∧ ¬ v2 = 3 ∧ ¬ v2 = 4 ∧ ¬ v2 = 5 ∧ ¬ v2 = 6)))) ∧ u.1 = n ∧ u.2.1 = d ∧ u.2.2.2 = A) (MB D y a cI (va_A (wM y a cI n d th A) sz)) (va_A (wM y a cI n d th A) sz)) 0 0 (va_A (wM y a cI n d th A) sz) := by
  refine met_mm (QQ := fun AA => va_Qi (fun r (u : MS) => ((u.2.2.1 = 0 ∧ ((v1 = 0 ∧ v2 = 0 ∧ r = 0) ∨ (v1 = 0 ∧ v2 = 1 ∧ r = nI (cntB (fun k => decide (A 1 k = v1)) n)) ∨ (¬ v1 = 0 ∧ ∃ k, k < n ∧ A 0 k = v1 ∧ ((v2 = 0 ∧ r = A 1 k) ∨ (v2 = 1 ∧ r = nI (cntB (fun k => decide (A 1 k = v1)) n)) ∨ (v2 = 2 ∧ r = nI (cntB (fun k => decide (A 5 k = v1) && !decide (A 6 k < 0)) d)) ∨ (v2 = 3 ∧ r = nI (cntB (fun k => decide (A 5 k = v1) && decide (A 6 k < 0)) d)) ∨ (v2 = 4 ∧ OfM A n d v1 0 4 r) ∨ (v2 = 5 ∧ OfM A n d v1 2 6 r) ∨ (v2 = 6 ∧ OfM A n d v1 3 7 r))))) ∨ (u.2.2.1 = 1 ∧ ((¬ v1 = 0 ∧ ∀ k, k < n → ¬ A 0 k = v1) ∨ (v1 = 0 ∧ 1 < v2) ∨ (¬ v2 = 0 ∧ ¬ v2 = 1 ∧ ¬ v2 = 2 ∧ ¬ v2 = 3 ∧ ¬ v2 = 4 ∧ ¬ v2 = 5 ∧ ¬ v2 = 6)))) ∧ u.1 = n ∧ u.2.1 = d ∧ u.2.2.2 = A) (MB D y a cI AA) AA) (by decide) (Nat.le_of_ble_eq_true rfl) ?_
  intro p e s m below meth c ls AA S hr hlocks hM hl
  obtain ⟨hx, hb, hml, hown, hg⟩ := id S
  have hl : lv_has ls 4 [(0, .ref y), (1, .int v1), (2, .int v2)] := hl
  have hn := hM.bd
  suffices key9 : ∀ (H : Heap) (locs : List Loc), MM D y a cI n d th A AA s.heap s H locs → W p l e { frames := 2, cells := 0, slots := 0, locals := 46 } s m [.ref y, .int v1, .int v2].toArray below meth c H locs 0 0 (MQ below ((fun AA : Nat → Prop => va_Qi (fun r (u : MS) => ((u.2.2.1 = 0 ∧ ((v1 = 0 ∧ v2 = 0 ∧ r = 0) ∨ (v1 = 0 ∧ v2 = 1 ∧ r = nI (cntB (fun k => decide (A 1 k = v1)) n)) ∨ (¬ v1 = 0 ∧ ∃ k, k < n ∧ A 0 k = v1 ∧ ((v2 = 0 ∧ r = A 1 k) ∨ (v2 = 1 ∧ r = nI (cntB (fun k => decide (A 1 k = v1)) n)) ∨ (v2 = 2 ∧ r = nI (cntB (fun k => decide (A 5 k = v1) && !decide (A 6 k < 0)) d)) ∨ (v2 = 3 ∧ r = nI (cntB (fun k => decide (A 5 k = v1) && decide (A 6 k < 0)) d)) ∨ (v2 = 4 ∧ OfM A n d v1 0 4 r) ∨ (v2 = 5 ∧ OfM A n d v1 2 6 r) ∨ (v2 = 6 ∧ OfM A n d v1 3 7 r))))) ∨ (u.2.2.1 = 1 ∧ ((¬ v1 = 0 ∧ ∀ k, k < n → ¬ A 0 k = v1) ∨ (v1 = 0 ∧ 1 < v2) ∨ (¬ v2 = 0 ∧ ¬ v2 = 1 ∧ ¬ v2 = 2 ∧ ¬ v2 = 3 ∧ ¬ v2 = 4 ∧ ¬ v2 = 5 ∧ ¬ v2 = 6)))) ∧ u.1 = n ∧ u.2.1 = d ∧ u.2.2.2 = A) (MB D y a cI AA) AA) AA) [.ref y, .int v1, .int v2].toArray s 0 0 AA) (F0 m 0 ls []) from key9 _ _ hM
  clear hM
  intro H locs hM
  refine lv_aload_n hx hb dX3_of_0 rfl (lv_at hl 0 rfl) ?_
  refine lv_iload_n hx hb dX3_of_1 rfl (lv_at hl 1 rfl) ?_
  refine vp_callSi (va_Run.run (runV (As := [.int v1]) (rest := []) (Bh := RdM D y a n d th A) S (c_X3_placeOf l v1) (gw_V wk_410 wk_412 wp_22 wk_4 wk_413) rfl rfl 1 rfl (by decide +kernel) (by decide) ⟨Nat.le_refl _, Nat.le_refl _⟩ (fun _ _ _ h q => RdM.mv h q) hM.recv hM.rd hl.1 (Nat.le_of_ble_eq_true rfl) dX3_of_2)) (fun r hr => ?_)
  rcases hr with ⟨k_2, hk_2, he_2, hf_2, rfl⟩ | ⟨hn_2, rfl⟩
  · refine lv_istore_n (lv' := [(3, .int (nI k_2)), (0, .ref y), (1, .int v1), (2, .int v2)]) hx hb dX3_of_5 rfl hl (by decide) rfl (fun ls hl => ?_)
    refine lv_aload_n hx hb dX3_of_6 rfl (lv_at hl 1 rfl) ?_
    refine lv_iload_n hx hb dX3_of_7 rfl (lv_at hl 3 rfl) ?_
    refine lv_if_lt (tgt := 34) hx hb dX3_of_8 (by decide) (fun c_8 => ?_) (fun c_8 => ?_)
    · refine lv_iconst (v := 1) hx hb dX3_of_34 (by decide) ?_
      refine mw_thrown S hM dX3_of_35 (fun H locs hM => ?_)
      refine lv_aload_n hx hb dX3_of_38 rfl (lv_at hl 1 rfl) ?_
      refine rM_thrown S hM.rd dX3_of_39 ?_
      refine lv_if_le (tgt := 47) hx hb dX3_of_42 (by decide) (fun c_42 => ?_) (fun c_42 => ?_)
      · exact absurd (show _ from c_42) (by decide)
      · refine lv_iconst (v := 0) hx hb dX3_of_45 (by decide) ?_
        exact W.iret (v := 0) hx hb hr (fun t9 ht9 hW9 => ⟨⟨_, (n, d, 1, A), rfl, ⟨Or.inr ⟨rfl, Or.inr (Or.inr (i32_not06 (Or.inl c_8)))⟩, rfl, rfl, rfl⟩, (hM.out ht9 hW9).1⟩, (hM.out ht9 hW9).2⟩) hM.S.2.2 dX3_of_46
    · refine lv_iload_n hx hb dX3_of_11 rfl (lv_at hl 3 rfl) ?_
      refine lv_bipush (v := 6) hx hb dX3_of_12 (by decide) ?_
      refine lv_icmp_gt (tgt := 34) hx hb dX3_of_14 (by decide) (fun c_14 => ?_) (fun c_14 => ?_)
      · refine lv_iconst (v := 1) hx hb dX3_of_34 (by decide) ?_
        refine mw_thrown S hM dX3_of_35 (fun H locs hM => ?_)
        refine lv_aload_n hx hb dX3_of_38 rfl (lv_at hl 1 rfl) ?_
        refine rM_thrown S hM.rd dX3_of_39 ?_
        refine lv_if_le (tgt := 47) hx hb dX3_of_42 (by decide) (fun c_42 => ?_) (fun c_42 => ?_)
        · exact absurd (show _ from c_42) (by decide)
        · refine lv_iconst (v := 0) hx hb dX3_of_45 (by decide) ?_
          exact W.iret (v := 0) hx hb hr (fun t9 ht9 hW9 => ⟨⟨_, (n, d, 1, A), rfl, ⟨Or.inr ⟨rfl, Or.inr (Or.inr (i32_not06 (Or.inr c_14)))⟩, rfl, rfl, rfl⟩, (hM.out ht9 hW9).1⟩, (hM.out ht9 hW9).2⟩) hM.S.2.2 dX3_of_46
      · refine lv_iload_n hx hb dX3_of_17 rfl (lv_at hl 0 rfl) ?_
        refine lv_if_ge (tgt := 30) hx hb dX3_of_18 (by decide) (fun c_18 => ?_) (fun c_18 => ?_)
        · refine lv_iconst (v := 0) hx hb dX3_of_30 (by decide) ?_
          refine lv_goto (tgt := 35) hx hb dX3_of_31 (by decide) ?_
          refine mw_thrown S hM dX3_of_35 (fun H locs hM => ?_)
          refine lv_aload_n hx hb dX3_of_38 rfl (lv_at hl 1 rfl) ?_
          refine rM_thrown S hM.rd dX3_of_39 ?_
          refine lv_if_le (tgt := 47) hx hb dX3_of_42 (by decide) (fun c_42 => ?_) (fun c_42 => ?_)
          · refine lv_iload_n hx hb dX3_of_47 rfl (lv_at hl 3 rfl) ?_
            by_cases w_0 : v2 = 0
            · subst w_0
              refine lv_tableIn (off := 40) (tgt := 88) hx hb dX3_of_48 (by decide) (by decide) rfl (by decide) ?_
              refine lv_iload_n hx hb dX3_of_88 rfl (lv_at hl 2 rfl) ?_
              refine lv_if_ne (tgt := 96) hx hb dX3_of_89 (by decide) (fun c_89 => ?_) (fun c_89 => ?_)
              · refine lv_aload_n hx hb dX3_of_96 rfl (lv_at hl 1 rfl) ?_
                refine rM_behinds S hM.rd dX3_of_97 ?_
                refine lv_iload_n hx hb dX3_of_100 rfl (lv_at hl 0 rfl) ?_
                refine rM_ald S hM.rd 1 (by decide) (by show _ < 512; omega) dX3_of_101 ?_
                exact W.iret (v := (A 1 k_2)) hx hb hr (fun t9 ht9 hW9 => ⟨⟨_, (n, d, 0, A), rfl, ⟨Or.inl ⟨rfl, Or.inr (Or.inr ⟨fun z => h0 k_2 hk_2 (he_2.trans z), k_2, hk_2, he_2, Or.inl (⟨rfl, rfl⟩)⟩)⟩, rfl, rfl, rfl⟩, (hM.out ht9 hW9).1⟩, (hM.out ht9 hW9).2⟩) hM.S.2.2 dX3_of_102
              · exact absurd (he_2.trans c_89) (h0 k_2 hk_2)
            by_cases w_1 : v2 = 1
            · subst w_1
              refine lv_tableIn (off := 55) (tgt := 103) hx hb dX3_of_48 (by decide) (by decide) rfl (by decide) ?_
              refine lv_aload_n hx hb dX3_of_103 rfl (lv_at hl 1 rfl) ?_
              refine lv_iload_n hx hb dX3_of_104 rfl (lv_at hl 2 rfl) ?_
              refine lv_iload_n hx hb dX3_of_105 rfl (lv_at hl 3 rfl) ?_
              refine vp_callSi (va_Run.run (runV (As := [.int v1, .int 1]) (rest := []) (Bh := RdM D y a n d 0 A) S (c_X3_counted1 l v1) (gw_V wk_510 wk_512 wp_36 wk_4 wk_513) rfl rfl 2 rfl (by decide +kernel) (by decide) ⟨Nat.le_refl _, Nat.le_refl _⟩ (fun _ _ _ h q => RdM.mv h q) hM.recv hM.rd hl.1 (Nat.le_of_ble_eq_true rfl) dX3_of_106)) (fun r_106 hr_106 => ?_)
              exact W.iret (v := r_106) hx hb hr (fun t9 ht9 hW9 => ⟨⟨_, (n, d, 0, A), rfl, ⟨Or.inl ⟨rfl, Or.inr (Or.inr ⟨fun z => h0 k_2 hk_2 (he_2.trans z), k_2, hk_2, he_2, Or.inr (Or.inl (⟨rfl, hr_106⟩))⟩)⟩, rfl, rfl, rfl⟩, (hM.out ht9 hW9).1⟩, (hM.out ht9 hW9).2⟩) hM.S.2.2 dX3_of_109
            by_cases w_2 : v2 = 2
            · subst w_2
              refine lv_tableIn (off := 55) (tgt := 103) hx hb dX3_of_48 (by decide) (by decide) rfl (by decide) ?_
              refine lv_aload_n hx hb dX3_of_103 rfl (lv_at hl 1 rfl) ?_
              refine lv_iload_n hx hb dX3_of_104 rfl (lv_at hl 2 rfl) ?_
              refine lv_iload_n hx hb dX3_of_105 rfl (lv_at hl 3 rfl) ?_
              refine vp_callSi (va_Run.run (runV (As := [.int v1, .int 2]) (rest := []) (Bh := RdM D y a n d 0 A) S (c_X3_counted2 l v1) (gw_V wk_510 wk_512 wp_36 wk_4 wk_513) rfl rfl 2 rfl (by decide +kernel) (by decide) ⟨Nat.le_refl _, Nat.le_refl _⟩ (fun _ _ _ h q => RdM.mv h q) hM.recv hM.rd hl.1 (Nat.le_of_ble_eq_true rfl) dX3_of_106)) (fun r_106 hr_106 => ?_)
              exact W.iret (v := r_106) hx hb hr (fun t9 ht9 hW9 => ⟨⟨_, (n, d, 0, A), rfl, ⟨Or.inl ⟨rfl, Or.inr (Or.inr ⟨fun z => h0 k_2 hk_2 (he_2.trans z), k_2, hk_2, he_2, Or.inr (Or.inr (Or.inl (⟨rfl, hr_106⟩)))⟩)⟩, rfl, rfl, rfl⟩, (hM.out ht9 hW9).1⟩, (hM.out ht9 hW9).2⟩) hM.S.2.2 dX3_of_109
            by_cases w_3 : v2 = 3
            · subst w_3
              refine lv_tableIn (off := 55) (tgt := 103) hx hb dX3_of_48 (by decide) (by decide) rfl (by decide) ?_
              refine lv_aload_n hx hb dX3_of_103 rfl (lv_at hl 1 rfl) ?_
              refine lv_iload_n hx hb dX3_of_104 rfl (lv_at hl 2 rfl) ?_
              refine lv_iload_n hx hb dX3_of_105 rfl (lv_at hl 3 rfl) ?_
              refine vp_callSi (va_Run.run (runV (As := [.int v1, .int 3]) (rest := []) (Bh := RdM D y a n d 0 A) S (c_X3_counted3 l v1) (gw_V wk_510 wk_512 wp_36 wk_4 wk_513) rfl rfl 2 rfl (by decide +kernel) (by decide) ⟨Nat.le_refl _, Nat.le_refl _⟩ (fun _ _ _ h q => RdM.mv h q) hM.recv hM.rd hl.1 (Nat.le_of_ble_eq_true rfl) dX3_of_106)) (fun r_106 hr_106 => ?_)
              exact W.iret (v := r_106) hx hb hr (fun t9 ht9 hW9 => ⟨⟨_, (n, d, 0, A), rfl, ⟨Or.inl ⟨rfl, Or.inr (Or.inr ⟨fun z => h0 k_2 hk_2 (he_2.trans z), k_2, hk_2, he_2, Or.inr (Or.inr (Or.inr (Or.inl (⟨rfl, hr_106⟩))))⟩)⟩, rfl, rfl, rfl⟩, (hM.out ht9 hW9).1⟩, (hM.out ht9 hW9).2⟩) hM.S.2.2 dX3_of_109
            by_cases w_4 : v2 = 4
            · subst w_4
              refine lv_tableIn (off := 62) (tgt := 110) hx hb dX3_of_48 (by decide) (by decide) rfl (by decide) ?_
              refine lv_aload_n hx hb dX3_of_110 rfl (lv_at hl 1 rfl) ?_
              refine lv_iload_n hx hb dX3_of_111 rfl (lv_at hl 2 rfl) ?_
              refine vp_callSi (va_Run.run (runV (As := [.int v1]) (rest := []) (Bh := RdM D y a n d 0 A) S (c_X3_idStanding l v1 ⟨k_2, hk_2, he_2⟩) (gw_V wk_478 wk_480 wp_33 wk_4 wk_481) rfl rfl 1 rfl (by decide +kernel) (by decide) ⟨Nat.le_refl _, Nat.le_refl _⟩ (fun _ _ _ h q => RdM.mv h q) hM.recv hM.rd hl.1 (Nat.le_of_ble_eq_true rfl) dX3_of_112)) (fun r_112 hr_112 => ?_)
              exact W.iret (v := r_112) hx hb hr (fun t9 ht9 hW9 => ⟨⟨_, (n, d, 0, A), rfl, ⟨Or.inl ⟨rfl, Or.inr (Or.inr ⟨fun z => h0 k_2 hk_2 (he_2.trans z), k_2, hk_2, he_2, Or.inr (Or.inr (Or.inr (Or.inr (Or.inl (⟨rfl, hr_112⟩)))))⟩)⟩, rfl, rfl, rfl⟩, (hM.out ht9 hW9).1⟩, (hM.out ht9 hW9).2⟩) hM.S.2.2 dX3_of_115
            by_cases w_5 : v2 = 5
            · subst w_5
              refine lv_tableIn (off := 68) (tgt := 116) hx hb dX3_of_48 (by decide) (by decide) rfl (by decide) ?_
              refine lv_aload_n hx hb dX3_of_116 rfl (lv_at hl 1 rfl) ?_
              refine lv_iload_n hx hb dX3_of_117 rfl (lv_at hl 2 rfl) ?_
              refine vp_callSi (va_Run.run (runV (As := [.int v1]) (rest := []) (Bh := RdM D y a n d 0 A) S (c_X3_kindOf l v1 ⟨k_2, hk_2, he_2⟩) (gw_V wk_466 wk_468 wp_30 wk_4 wk_469) rfl rfl 1 rfl (by decide +kernel) (by decide) ⟨Nat.le_refl _, Nat.le_refl _⟩ (fun _ _ _ h q => RdM.mv h q) hM.recv hM.rd hl.1 (Nat.le_of_ble_eq_true rfl) dX3_of_118)) (fun r_118 hr_118 => ?_)
              exact W.iret (v := r_118) hx hb hr (fun t9 ht9 hW9 => ⟨⟨_, (n, d, 0, A), rfl, ⟨Or.inl ⟨rfl, Or.inr (Or.inr ⟨fun z => h0 k_2 hk_2 (he_2.trans z), k_2, hk_2, he_2, Or.inr (Or.inr (Or.inr (Or.inr (Or.inr (Or.inl (⟨rfl, hr_118⟩))))))⟩)⟩, rfl, rfl, rfl⟩, (hM.out ht9 hW9).1⟩, (hM.out ht9 hW9).2⟩) hM.S.2.2 dX3_of_121
            have w_6 := i32_6 c_8 c_14 w_0 w_1 w_2 w_3 w_4 w_5
            subst w_6
            refine lv_tableOut (tgt := 122) hx hb dX3_of_48 (by decide) (by decide) ?_
            refine lv_aload_n hx hb dX3_of_122 rfl (lv_at hl 1 rfl) ?_
            refine lv_iload_n hx hb dX3_of_123 rfl (lv_at hl 2 rfl) ?_
            refine vp_callSi (va_Run.run (runV (As := [.int v1]) (rest := []) (Bh := RdM D y a n d 0 A) S (c_X3_valueOf l v1 ⟨k_2, hk_2, he_2⟩) (gw_V wk_474 wk_476 wp_32 wk_4 wk_477) rfl rfl 1 rfl (by decide +kernel) (by decide) ⟨Nat.le_refl _, Nat.le_refl _⟩ (fun _ _ _ h q => RdM.mv h q) hM.recv hM.rd hl.1 (Nat.le_of_ble_eq_true rfl) dX3_of_124)) (fun r_124 hr_124 => ?_)
            exact W.iret (v := r_124) hx hb hr (fun t9 ht9 hW9 => ⟨⟨_, (n, d, 0, A), rfl, ⟨Or.inl ⟨rfl, Or.inr (Or.inr ⟨fun z => h0 k_2 hk_2 (he_2.trans z), k_2, hk_2, he_2, Or.inr (Or.inr (Or.inr (Or.inr (Or.inr (Or.inr (⟨rfl, hr_124⟩))))))⟩)⟩, rfl, rfl, rfl⟩, (hM.out ht9 hW9).1⟩, (hM.out ht9 hW9).2⟩) hM.S.2.2 dX3_of_127
          · exact absurd (show _ from c_42) (by decide)
        · exact absurd (nI_pos' (by omega)) c_18
  · refine lv_istore_n (lv' := [(3, .int (-1)), (0, .ref y), (1, .int v1), (2, .int v2)]) hx hb dX3_of_5 rfl hl (by decide) rfl (fun ls hl => ?_)
    refine lv_aload_n hx hb dX3_of_6 rfl (lv_at hl 1 rfl) ?_
    refine lv_iload_n hx hb dX3_of_7 rfl (lv_at hl 3 rfl) ?_
    refine lv_if_lt (tgt := 34) hx hb dX3_of_8 (by decide) (fun c_8 => ?_) (fun c_8 => ?_)
    · refine lv_iconst (v := 1) hx hb dX3_of_34 (by decide) ?_
      refine mw_thrown S hM dX3_of_35 (fun H locs hM => ?_)
      refine lv_aload_n hx hb dX3_of_38 rfl (lv_at hl 1 rfl) ?_
      refine rM_thrown S hM.rd dX3_of_39 ?_
      refine lv_if_le (tgt := 47) hx hb dX3_of_42 (by decide) (fun c_42 => ?_) (fun c_42 => ?_)
      · exact absurd (show _ from c_42) (by decide)
      · refine lv_iconst (v := 0) hx hb dX3_of_45 (by decide) ?_
        exact W.iret (v := 0) hx hb hr (fun t9 ht9 hW9 => ⟨⟨_, (n, d, 1, A), rfl, ⟨Or.inr ⟨rfl, Or.inr (Or.inr (i32_not06 (Or.inl c_8)))⟩, rfl, rfl, rfl⟩, (hM.out ht9 hW9).1⟩, (hM.out ht9 hW9).2⟩) hM.S.2.2 dX3_of_46
    · refine lv_iload_n hx hb dX3_of_11 rfl (lv_at hl 3 rfl) ?_
      refine lv_bipush (v := 6) hx hb dX3_of_12 (by decide) ?_
      refine lv_icmp_gt (tgt := 34) hx hb dX3_of_14 (by decide) (fun c_14 => ?_) (fun c_14 => ?_)
      · refine lv_iconst (v := 1) hx hb dX3_of_34 (by decide) ?_
        refine mw_thrown S hM dX3_of_35 (fun H locs hM => ?_)
        refine lv_aload_n hx hb dX3_of_38 rfl (lv_at hl 1 rfl) ?_
        refine rM_thrown S hM.rd dX3_of_39 ?_
        refine lv_if_le (tgt := 47) hx hb dX3_of_42 (by decide) (fun c_42 => ?_) (fun c_42 => ?_)
        · exact absurd (show _ from c_42) (by decide)
        · refine lv_iconst (v := 0) hx hb dX3_of_45 (by decide) ?_
          exact W.iret (v := 0) hx hb hr (fun t9 ht9 hW9 => ⟨⟨_, (n, d, 1, A), rfl, ⟨Or.inr ⟨rfl, Or.inr (Or.inr (i32_not06 (Or.inr c_14)))⟩, rfl, rfl, rfl⟩, (hM.out ht9 hW9).1⟩, (hM.out ht9 hW9).2⟩) hM.S.2.2 dX3_of_46
      · refine lv_iload_n hx hb dX3_of_17 rfl (lv_at hl 0 rfl) ?_
        refine lv_if_ge (tgt := 30) hx hb dX3_of_18 (by decide) (fun c_18 => ?_) (fun c_18 => ?_)
        · exact absurd (show _ from c_18) (by decide)
        · refine lv_iload_n hx hb dX3_of_21 rfl (lv_at hl 2 rfl) ?_
          refine lv_if_ne (tgt := 34) hx hb dX3_of_22 (by decide) (fun c_22 => ?_) (fun c_22 => ?_)
          · refine lv_iconst (v := 1) hx hb dX3_of_34 (by decide) ?_
            refine mw_thrown S hM dX3_of_35 (fun H locs hM => ?_)
            refine lv_aload_n hx hb dX3_of_38 rfl (lv_at hl 1 rfl) ?_
            refine rM_thrown S hM.rd dX3_of_39 ?_
            refine lv_if_le (tgt := 47) hx hb dX3_of_42 (by decide) (fun c_42 => ?_) (fun c_42 => ?_)
            · exact absurd (show _ from c_42) (by decide)
            · refine lv_iconst (v := 0) hx hb dX3_of_45 (by decide) ?_
              exact W.iret (v := 0) hx hb hr (fun t9 ht9 hW9 => ⟨⟨_, (n, d, 1, A), rfl, ⟨Or.inr ⟨rfl, Or.inl ⟨c_22, hn_2⟩⟩, rfl, rfl, rfl⟩, (hM.out ht9 hW9).1⟩, (hM.out ht9 hW9).2⟩) hM.S.2.2 dX3_of_46
          · refine lv_iload_n hx hb dX3_of_25 rfl (lv_at hl 3 rfl) ?_
            refine lv_iconst (v := 2) hx hb dX3_of_26 (by decide) ?_
            refine lv_icmp_ge (tgt := 34) hx hb dX3_of_27 (by decide) (fun c_27 => ?_) (fun c_27 => ?_)
            · refine lv_iconst (v := 1) hx hb dX3_of_34 (by decide) ?_
              refine mw_thrown S hM dX3_of_35 (fun H locs hM => ?_)
              refine lv_aload_n hx hb dX3_of_38 rfl (lv_at hl 1 rfl) ?_
              refine rM_thrown S hM.rd dX3_of_39 ?_
              refine lv_if_le (tgt := 47) hx hb dX3_of_42 (by decide) (fun c_42 => ?_) (fun c_42 => ?_)
              · exact absurd (show _ from c_42) (by decide)
              · refine lv_iconst (v := 0) hx hb dX3_of_45 (by decide) ?_
                exact W.iret (v := 0) hx hb hr (fun t9 ht9 hW9 => ⟨⟨_, (n, d, 1, A), rfl, ⟨Or.inr ⟨rfl, Or.inr (Or.inl ⟨c_22, i32_2le c_27⟩)⟩, rfl, rfl, rfl⟩, (hM.out ht9 hW9).1⟩, (hM.out ht9 hW9).2⟩) hM.S.2.2 dX3_of_46
            · refine lv_iconst (v := 0) hx hb dX3_of_30 (by decide) ?_
              refine lv_goto (tgt := 35) hx hb dX3_of_31 (by decide) ?_
              refine mw_thrown S hM dX3_of_35 (fun H locs hM => ?_)
              refine lv_aload_n hx hb dX3_of_38 rfl (lv_at hl 1 rfl) ?_
              refine rM_thrown S hM.rd dX3_of_39 ?_
              refine lv_if_le (tgt := 47) hx hb dX3_of_42 (by decide) (fun c_42 => ?_) (fun c_42 => ?_)
              · refine lv_iload_n hx hb dX3_of_47 rfl (lv_at hl 3 rfl) ?_
                by_cases w_0 : v2 = 0
                · subst w_0
                  refine lv_tableIn (off := 40) (tgt := 88) hx hb dX3_of_48 (by decide) (by decide) rfl (by decide) ?_
                  refine lv_iload_n hx hb dX3_of_88 rfl (lv_at hl 2 rfl) ?_
                  refine lv_if_ne (tgt := 96) hx hb dX3_of_89 (by decide) (fun c_89 => ?_) (fun c_89 => ?_)
                  · exact absurd c_22 c_89
                  · refine lv_iconst (v := 0) hx hb dX3_of_92 (by decide) ?_
                    refine lv_goto (tgt := 102) hx hb dX3_of_93 (by decide) ?_
                    exact W.iret (v := 0) hx hb hr (fun t9 ht9 hW9 => ⟨⟨_, (n, d, 0, A), rfl, ⟨Or.inl ⟨rfl, Or.inl ⟨c_22, rfl, rfl⟩⟩, rfl, rfl, rfl⟩, (hM.out ht9 hW9).1⟩, (hM.out ht9 hW9).2⟩) hM.S.2.2 dX3_of_102
                by_cases w_1 : v2 = 1
                · subst w_1
                  refine lv_tableIn (off := 55) (tgt := 103) hx hb dX3_of_48 (by decide) (by decide) rfl (by decide) ?_
                  refine lv_aload_n hx hb dX3_of_103 rfl (lv_at hl 1 rfl) ?_
                  refine lv_iload_n hx hb dX3_of_104 rfl (lv_at hl 2 rfl) ?_
                  refine lv_iload_n hx hb dX3_of_105 rfl (lv_at hl 3 rfl) ?_
                  refine vp_callSi (va_Run.run (runV (As := [.int v1, .int 1]) (rest := []) (Bh := RdM D y a n d 0 A) S (c_X3_counted1 l v1) (gw_V wk_510 wk_512 wp_36 wk_4 wk_513) rfl rfl 2 rfl (by decide +kernel) (by decide) ⟨Nat.le_refl _, Nat.le_refl _⟩ (fun _ _ _ h q => RdM.mv h q) hM.recv hM.rd hl.1 (Nat.le_of_ble_eq_true rfl) dX3_of_106)) (fun r_106 hr_106 => ?_)
                  exact W.iret (v := r_106) hx hb hr (fun t9 ht9 hW9 => ⟨⟨_, (n, d, 0, A), rfl, ⟨Or.inl ⟨rfl, Or.inr (Or.inl ⟨c_22, rfl, hr_106⟩)⟩, rfl, rfl, rfl⟩, (hM.out ht9 hW9).1⟩, (hM.out ht9 hW9).2⟩) hM.S.2.2 dX3_of_109
                by_cases w_2 : v2 = 2
                · subst w_2
                  exact absurd (by decide) c_27
                by_cases w_3 : v2 = 3
                · subst w_3
                  exact absurd (by decide) c_27
                by_cases w_4 : v2 = 4
                · subst w_4
                  exact absurd (by decide) c_27
                by_cases w_5 : v2 = 5
                · subst w_5
                  exact absurd (by decide) c_27
                have w_6 := i32_6 c_8 c_14 w_0 w_1 w_2 w_3 w_4 w_5
                subst w_6
                exact absurd (by decide) c_27
              · exact absurd (show _ from c_42) (by decide)
