/-- one more INSERT behind the others -/
def kA (A : Nat → Nat → Int32) (n : Nat) (v1 v2 v3 v4 : Int32) : Nat → Nat → Int32 := va_up (va_up (va_up (va_up A 0 (upd (A 0) n v1)) 1 (upd (A 1) n v2)) 2 (upd (A 2) n v3)) 3 (upd (A 3) n v4)
/-- one more SET or REMOVE -/
def dA (A : Nat → Nat → Int32) (d : Nat) (v1 v2 v3 v4 : Int32) : Nat → Nat → Int32 := va_up (va_up (va_up (va_up A 4 (upd (A 4) d v1)) 5 (upd (A 5) d v2)) 6 (upd (A 6) d v3)) 7 (upd (A 7) d v4)
set_option maxHeartbeats 4000000 in
set_option maxRecDepth 100000 in
theorem c_X3_keep (l : Launch) {D : va_G} {y : Nat} {a : Nat → Nat} {cI : ClassId} {n d : Nat} {th : Int32} {A : Nat → Nat → Int32} {sz : Nat} (v1 : Int32) (v2 : Int32) (v3 : Int32) (v4 : Int32) (h5 : n < 512) : Met l yX3_keep (gws yX3_keep cX3_keep 5 none) { frames := 0, cells := 0, slots := 0, locals := 0 } (va_Pc [.ref y, .int v1, .int v2, .int v3, .int v4] (fun U => MPre D y a cI n d th A sz U U.heap)) (va_Qv (fun (u : MS) => u = (n + 1, d, th, kA A n v1 v2 v3 v4)) (MB D y a cI (va_A (wM y a cI n d th A) sz)) (va_A (wM y a cI n d th A) sz)) 0 0 (va_A (wM y a cI n d th A) sz) := by
  refine met_mm (QQ := fun AA => va_Qv (fun (u : MS) => u = (n + 1, d, th, kA A n v1 v2 v3 v4)) (MB D y a cI AA) AA) (by decide) (Nat.le_of_ble_eq_true rfl) ?_
  intro p e s m below meth c ls AA S hr hlocks hM hl
  obtain ⟨hx, hb, hml, hown, hg⟩ := id S
  have hl : lv_has ls 5 [(0, .ref y), (1, .int v1), (2, .int v2), (3, .int v3), (4, .int v4)] := hl
  have hn := hM.bd
  suffices key9 : ∀ (H : Heap) (locs : List Loc), MM D y a cI n d th A AA s.heap s H locs → W p l e { frames := 0, cells := 0, slots := 0, locals := 0 } s m [.ref y, .int v1, .int v2, .int v3, .int v4].toArray below meth c H locs 0 0 (MQ below ((fun AA : Nat → Prop => va_Qv (fun (u : MS) => u = (n + 1, d, th, kA A n v1 v2 v3 v4)) (MB D y a cI AA) AA) AA) [.ref y, .int v1, .int v2, .int v3, .int v4].toArray s 0 0 AA) (F0 m 0 ls []) from key9 _ _ hM
  clear hM
  intro H locs hM
  refine lv_aload_n hx hb dX3_keep_0 rfl (lv_at hl 0 rfl) ?_
  refine rM_ids S hM.rd dX3_keep_1 ?_
  refine lv_aload_n hx hb dX3_keep_4 rfl (lv_at hl 0 rfl) ?_
  refine rM_many S hM.rd dX3_keep_5 ?_
  refine lv_iload_n hx hb dX3_keep_8 rfl (lv_at hl 1 rfl) ?_
  refine mw_ast0 (k := n) S hM (by omega) dX3_keep_9 (fun H locs A_9 hA_9 hM => ?_)
  refine lv_aload_n hx hb dX3_keep_10 rfl (lv_at hl 0 rfl) ?_
  refine rM_behinds S hM.rd dX3_keep_11 ?_
  refine lv_aload_n hx hb dX3_keep_14 rfl (lv_at hl 0 rfl) ?_
  refine rM_many S hM.rd dX3_keep_15 ?_
  refine lv_iload_n hx hb dX3_keep_18 rfl (lv_at hl 2 rfl) ?_
  refine mw_ast1 (k := n) S hM (by omega) dX3_keep_19 (fun H locs A_19 hA_19 hM => ?_)
  refine lv_aload_n hx hb dX3_keep_20 rfl (lv_at hl 0 rfl) ?_
  refine rM_kinds S hM.rd dX3_keep_21 ?_
  refine lv_aload_n hx hb dX3_keep_24 rfl (lv_at hl 0 rfl) ?_
  refine rM_many S hM.rd dX3_keep_25 ?_
  refine lv_iload_n hx hb dX3_keep_28 rfl (lv_at hl 3 rfl) ?_
  refine mw_ast2 (k := n) S hM (by omega) dX3_keep_29 (fun H locs A_29 hA_29 hM => ?_)
  refine lv_aload_n hx hb dX3_keep_30 rfl (lv_at hl 0 rfl) ?_
  refine rM_values S hM.rd dX3_keep_31 ?_
  refine lv_aload_n hx hb dX3_keep_34 rfl (lv_at hl 0 rfl) ?_
  refine rM_many S hM.rd dX3_keep_35 ?_
  refine lv_iload hx hb dX3_keep_38 (lv_at hl 4 rfl) ?_
  refine mw_ast3 (k := n) S hM (by omega) dX3_keep_40 (fun H locs A_40 hA_40 hM => ?_)
  refine lv_aload_n hx hb dX3_keep_41 rfl (lv_at hl 0 rfl) ?_
  refine lv_dup hx hb dX3_keep_42 rfl ?_
  refine rM_many S hM.rd dX3_keep_43 ?_
  refine lv_iconst (v := nI 1) hx hb dX3_keep_46 (by decide) ?_
  refine lv_iadd hx hb dX3_keep_47 ?_
  rw [nI_add]
  refine mw_many (v := (n + 1)) S hM (by omega) dX3_keep_48 (fun H locs hM => ?_)
  exact W.vret hx hb hr (fun t9 ht9 hW9 => ⟨⟨((n + 1), d, th, A_40), rfl, by rw [hA_40, hA_29, hA_19, hA_9]; rfl, (hM.out ht9 hW9).1⟩, (hM.out ht9 hW9).2⟩) hM.S.2.2 dX3_keep_51
set_option maxHeartbeats 4000000 in
set_option maxRecDepth 100000 in
theorem c_X3_clear (l : Launch) {D : va_G} {y : Nat} {a : Nat → Nat} {cI : ClassId} {n d : Nat} {th : Int32} {A : Nat → Nat → Int32} {sz : Nat}   : Met l yX3_clear (gws yX3_clear cX3_clear 1 none) { frames := 0, cells := 0, slots := 0, locals := 0 } (va_Pc [.ref y] (fun U => MPre D y a cI n d th A sz U U.heap)) (va_Qv (fun (u : MS) => u = (0, 0, 0, A)) (MB D y a cI (va_A (wM y a cI n d th A) sz)) (va_A (wM y a cI n d th A) sz)) 0 0 (va_A (wM y a cI n d th A) sz) := by
  refine met_mm (QQ := fun AA => va_Qv (fun (u : MS) => u = (0, 0, 0, A)) (MB D y a cI AA) AA) (by decide) (Nat.le_of_ble_eq_true rfl) ?_
  intro p e s m below meth c ls AA S hr hlocks hM hl
  obtain ⟨hx, hb, hml, hown, hg⟩ := id S
  have hl : lv_has ls 1 [(0, .ref y)] := hl
  have hn := hM.bd
  suffices key9 : ∀ (H : Heap) (locs : List Loc), MM D y a cI n d th A AA s.heap s H locs → W p l e { frames := 0, cells := 0, slots := 0, locals := 0 } s m [.ref y].toArray below meth c H locs 0 0 (MQ below ((fun AA : Nat → Prop => va_Qv (fun (u : MS) => u = (0, 0, 0, A)) (MB D y a cI AA) AA) AA) [.ref y].toArray s 0 0 AA) (F0 m 0 ls []) from key9 _ _ hM
  clear hM
  intro H locs hM
  refine lv_aload_n hx hb dX3_clear_0 rfl (lv_at hl 0 rfl) ?_
  refine lv_iconst (v := 0) hx hb dX3_clear_1 (by decide) ?_
  refine mw_thrown S hM dX3_clear_2 (fun H locs hM => ?_)
  refine lv_aload_n hx hb dX3_clear_5 rfl (lv_at hl 0 rfl) ?_
  refine lv_iconst (v := nI 0) hx hb dX3_clear_6 (by decide) ?_
  refine mw_many (v := 0) S hM (by omega) dX3_clear_7 (fun H locs hM => ?_)
  refine lv_aload_n hx hb dX3_clear_10 rfl (lv_at hl 0 rfl) ?_
  refine lv_iconst (v := nI 0) hx hb dX3_clear_11 (by decide) ?_
  refine mw_done (v := 0) S hM (by omega) dX3_clear_12 (fun H locs hM => ?_)
  exact W.vret hx hb hr (fun t9 ht9 hW9 => ⟨⟨(0, 0, 0, A), rfl, rfl, (hM.out ht9 hW9).1⟩, (hM.out ht9 hW9).2⟩) hM.S.2.2 dX3_clear_15
set_option maxHeartbeats 4000000 in
set_option maxRecDepth 100000 in
theorem c_X3_insert (l : Launch) {D : va_G} {y : Nat} {a : Nat → Nat} {cI : ClassId} {n d : Nat} {th : Int32} {A : Nat → Nat → Int32} {sz : Nat} (v1 : Int32) (v2 : Int32) (v3 : Int32) (v4 : Int32)  : Met l yX3_insert (gws yX3_insert cX3_insert 5 (some .boolean)) { frames := 3, cells := 0, slots := 0, locals := 68 } (va_Pc [.ref y, .int v1, .int v2, .int v3, .int v4] (fun U => MPre D y a cI n d th A sz U U.heap)) (va_Qi (fun r (u : MS) => (((NewM A n d v1 ∧ (v2 = 0 ∨ ∃ k, k < n ∧ A 0 k = v2) ∧ ¬ v1 ≤ v2 ∧ n < 512) ∧ (¬ v3 < 0 ∧ ¬ 6 < v3)) ∧ r = 1 ∧ u = (n + 1, d, 0, kA A n v1 v2 v3 v4)) ∨ ((¬ ((NewM A n d v1 ∧ (v2 = 0 ∨ ∃ k, k < n ∧ A 0 k = v2) ∧ ¬ v1 ≤ v2 ∧ n < 512) ∧ (¬ v3 < 0 ∧ ¬ 6 < v3))) ∧ r = 0 ∧ u = (n, d, 0, A))) (MB D y a cI (va_A (wM y a cI n d th A) sz)) (va_A (wM y a cI n d th A) sz)) 0 0 (va_A (wM y a cI n d th A) sz) := by
  refine met_mm (QQ := fun AA => va_Qi (fun r (u : MS) => (((NewM A n d v1 ∧ (v2 = 0 ∨ ∃ k, k < n ∧ A 0 k = v2) ∧ ¬ v1 ≤ v2 ∧ n < 512) ∧ (¬ v3 < 0 ∧ ¬ 6 < v3)) ∧ r = 1 ∧ u = (n + 1, d, 0, kA A n v1 v2 v3 v4)) ∨ ((¬ ((NewM A n d v1 ∧ (v2 = 0 ∨ ∃ k, k < n ∧ A 0 k = v2) ∧ ¬ v1 ≤ v2 ∧ n < 512) ∧ (¬ v3 < 0 ∧ ¬ 6 < v3))) ∧ r = 0 ∧ u = (n, d, 0, A))) (MB D y a cI AA) AA) (by decide) (Nat.le_of_ble_eq_true rfl) ?_
  intro p e s m below meth c ls AA S hr hlocks hM hl
  obtain ⟨hx, hb, hml, hown, hg⟩ := id S
  have hl : lv_has ls 5 [(0, .ref y), (1, .int v1), (2, .int v2), (3, .int v3), (4, .int v4)] := hl
  have hn := hM.bd
  suffices key9 : ∀ (H : Heap) (locs : List Loc), MM D y a cI n d th A AA s.heap s H locs → W p l e { frames := 3, cells := 0, slots := 0, locals := 68 } s m [.ref y, .int v1, .int v2, .int v3, .int v4].toArray below meth c H locs 0 0 (MQ below ((fun AA : Nat → Prop => va_Qi (fun r (u : MS) => (((NewM A n d v1 ∧ (v2 = 0 ∨ ∃ k, k < n ∧ A 0 k = v2) ∧ ¬ v1 ≤ v2 ∧ n < 512) ∧ (¬ v3 < 0 ∧ ¬ 6 < v3)) ∧ r = 1 ∧ u = (n + 1, d, 0, kA A n v1 v2 v3 v4)) ∨ ((¬ ((NewM A n d v1 ∧ (v2 = 0 ∨ ∃ k, k < n ∧ A 0 k = v2) ∧ ¬ v1 ≤ v2 ∧ n < 512) ∧ (¬ v3 < 0 ∧ ¬ 6 < v3))) ∧ r = 0 ∧ u = (n, d, 0, A))) (MB D y a cI AA) AA) AA) [.ref y, .int v1, .int v2, .int v3, .int v4].toArray s 0 0 AA) (F0 m 0 ls []) from key9 _ _ hM
  clear hM
  intro H locs hM
  refine lv_aload_n hx hb dX3_insert_0 rfl (lv_at hl 0 rfl) ?_
  refine lv_iconst (v := 0) hx hb dX3_insert_1 (by decide) ?_
  refine mw_thrown S hM dX3_insert_2 (fun H locs hM => ?_)
  refine lv_aload_n hx hb dX3_insert_5 rfl (lv_at hl 0 rfl) ?_
  refine lv_iload_n hx hb dX3_insert_6 rfl (lv_at hl 1 rfl) ?_
  refine lv_iload_n hx hb dX3_insert_7 rfl (lv_at hl 2 rfl) ?_
  refine vp_callSi (va_Run.run (runV (As := [.int v1, .int v2]) (rest := []) (Bh := RdM D y a n d 0 A) S (c_X3_canInsert l v1 v2) (gw_V wk_401 wk_403 wp_20 wk_4 wk_404) rfl rfl 2 rfl (by decide +kernel) (by decide) ⟨Nat.le_refl _, Nat.le_refl _⟩ (fun _ _ _ h q => RdM.mv h q) hM.recv hM.rd hl.1 (Nat.le_of_ble_eq_true rfl) dX3_insert_8)) (fun r hr => ?_)
  rcases hr with ⟨h_8, rfl⟩ | ⟨h_8, rfl⟩
  · refine lv_if_eq (tgt := 21) hx hb dX3_insert_11 (by decide) (fun c_11 => ?_) (fun c_11 => ?_)
    · exact absurd (show _ from c_11) (by decide)
    · refine lv_iload_n hx hb dX3_insert_14 rfl (lv_at hl 3 rfl) ?_
      refine vp_callSi (va_Run.run (runS (As := [.int v3]) (rest := []) (Bh := (fun _ _ => True)) S (c_X3_isKind l v3) (gw_S wk_414 wk_415 wk_4 wk_416) rfl rfl 1 rfl (by decide +kernel) (by decide) ⟨Nat.le_refl _, Nat.le_refl _⟩ (fun _ _ _ _ _ => trivial) trivial hl.1 (Nat.le_of_ble_eq_true rfl) dX3_insert_15)) (fun r hr => ?_)
      rcases hr with ⟨h_15, rfl⟩ | ⟨h_15, rfl⟩
      · refine lv_if_ne (tgt := 23) hx hb dX3_insert_18 (by decide) (fun c_18 => ?_) (fun c_18 => ?_)
        · refine lv_aload_n hx hb dX3_insert_23 rfl (lv_at hl 0 rfl) ?_
          refine lv_iload_n hx hb dX3_insert_24 rfl (lv_at hl 1 rfl) ?_
          refine lv_iload_n hx hb dX3_insert_25 rfl (lv_at hl 2 rfl) ?_
          refine lv_iload_n hx hb dX3_insert_26 rfl (lv_at hl 3 rfl) ?_
          refine lv_iload hx hb dX3_insert_27 (lv_at hl 4 rfl) ?_
          refine va_callv (runV (As := [.int v1, .int v2, .int v3, .int v4]) (rest := []) (Bh := MPre D y a cI n d 0 A H.size) S (c_X3_keep l v1 v2 v3 v4 h_8.2.2.2) (gw_V wk_417 wk_419 wp_23 wk_4 wk_420) rfl rfl 4 rfl (by decide +kernel) (by decide) ⟨Nat.le_refl _, Nat.le_refl _⟩ (fun _ _ _ h q => MPre.mv h q) hM.recv hM.pre hl.1 (Nat.le_of_ble_eq_true rfl) dX3_insert_29) hM.S (fun q _ h => hM.free q h) hM.free (fun u8 t8 H1 locs1 ht8 hvm8 hp hB8 hz8 hk8 hS8 => ?_)
          obtain ⟨n_29, d_29, th_29, A_29⟩ := u8
          have hM := hM.back ht8 hB8 hS8
          generalize H1 = H at hM ⊢
          generalize locs1 = locs at hM ⊢
          dsimp only at hp hM
          obtain ⟨rfl, rfl, rfl, rfl⟩ : n + 1 = n_29 ∧ d = d_29 ∧ 0 = th_29 ∧ kA A n v1 v2 v3 v4 = A_29 := by have z := hp; simp only [Prod.mk.injEq] at z; exact ⟨z.1.symm, z.2.1.symm, z.2.2.1.symm, z.2.2.2.symm⟩
          refine lv_iconst (v := 1) hx hb dX3_insert_32 (by decide) ?_
          exact W.zret (v := 1) hx hb hr rfl (fun t9 ht9 hW9 => ⟨⟨_, ((n + 1), d, 0, (kA A n v1 v2 v3 v4)), rfl, Or.inl ⟨⟨h_8, h_15⟩, rfl, rfl⟩, (hM.out ht9 hW9).1⟩, (hM.out ht9 hW9).2⟩) hM.S.2.2 dX3_insert_33
        · exact absurd (show _ from c_18) (by decide)
      · refine lv_if_ne (tgt := 23) hx hb dX3_insert_18 (by decide) (fun c_18 => ?_) (fun c_18 => ?_)
        · exact absurd (show _ from c_18) (by decide)
        · refine lv_iconst (v := 0) hx hb dX3_insert_21 (by decide) ?_
          exact W.zret (v := 0) hx hb hr rfl (fun t9 ht9 hW9 => ⟨⟨_, (n, d, 0, A), rfl, Or.inr ⟨fun z => h_15 z.2, rfl, rfl⟩, (hM.out ht9 hW9).1⟩, (hM.out ht9 hW9).2⟩) hM.S.2.2 dX3_insert_22
  · refine lv_if_eq (tgt := 21) hx hb dX3_insert_11 (by decide) (fun c_11 => ?_) (fun c_11 => ?_)
    · refine lv_iconst (v := 0) hx hb dX3_insert_21 (by decide) ?_
      exact W.zret (v := 0) hx hb hr rfl (fun t9 ht9 hW9 => ⟨⟨_, (n, d, 0, A), rfl, Or.inr ⟨fun z => h_8 z.1, rfl, rfl⟩, (hM.out ht9 hW9).1⟩, (hM.out ht9 hW9).2⟩) hM.S.2.2 dX3_insert_22
    · exact absurd (show _ from c_11) (by decide)
set_option maxHeartbeats 4000000 in
set_option maxRecDepth 100000 in
theorem c_X3_does (l : Launch) {D : va_G} {y : Nat} {a : Nat → Nat} {cI : ClassId} {n d : Nat} {th : Int32} {A : Nat → Nat → Int32} {sz : Nat} (v1 : Int32) (v2 : Int32) (v3 : Int32) (v4 : Int32)  : Met l yX3_does (gws yX3_does cX3_does 5 (some .boolean)) { frames := 2, cells := 0, slots := 0, locals := 46 } (va_Pc [.ref y, .int v1, .int v2, .int v3, .int v4] (fun U => MPre D y a cI n d th A sz U U.heap)) (va_Qi (fun r (u : MS) => ((NewM A n d v1 ∧ (∃ k, k < n ∧ A 0 k = v2) ∧ ¬ v1 ≤ v2 ∧ d < 1024) ∧ r = 1 ∧ u = (n, d + 1, th, dA A d v1 v2 v3 v4)) ∨ ((¬ (NewM A n d v1 ∧ (∃ k, k < n ∧ A 0 k = v2) ∧ ¬ v1 ≤ v2 ∧ d < 1024)) ∧ r = 0 ∧ u = (n, d, th, A))) (MB D y a cI (va_A (wM y a cI n d th A) sz)) (va_A (wM y a cI n d th A) sz)) 0 0 (va_A (wM y a cI n d th A) sz) := by
  refine met_mm (QQ := fun AA => va_Qi (fun r (u : MS) => ((NewM A n d v1 ∧ (∃ k, k < n ∧ A 0 k = v2) ∧ ¬ v1 ≤ v2 ∧ d < 1024) ∧ r = 1 ∧ u = (n, d + 1, th, dA A d v1 v2 v3 v4)) ∨ ((¬ (NewM A n d v1 ∧ (∃ k, k < n ∧ A 0 k = v2) ∧ ¬ v1 ≤ v2 ∧ d < 1024)) ∧ r = 0 ∧ u = (n, d, th, A))) (MB D y a cI AA) AA) (by decide) (Nat.le_of_ble_eq_true rfl) ?_
  intro p e s m below meth c ls AA S hr hlocks hM hl
  obtain ⟨hx, hb, hml, hown, hg⟩ := id S
  have hl : lv_has ls 5 [(0, .ref y), (1, .int v1), (2, .int v2), (3, .int v3), (4, .int v4)] := hl
  have hn := hM.bd
  suffices key9 : ∀ (H : Heap) (locs : List Loc), MM D y a cI n d th A AA s.heap s H locs → W p l e { frames := 2, cells := 0, slots := 0, locals := 46 } s m [.ref y, .int v1, .int v2, .int v3, .int v4].toArray below meth c H locs 0 0 (MQ below ((fun AA : Nat → Prop => va_Qi (fun r (u : MS) => ((NewM A n d v1 ∧ (∃ k, k < n ∧ A 0 k = v2) ∧ ¬ v1 ≤ v2 ∧ d < 1024) ∧ r = 1 ∧ u = (n, d + 1, th, dA A d v1 v2 v3 v4)) ∨ ((¬ (NewM A n d v1 ∧ (∃ k, k < n ∧ A 0 k = v2) ∧ ¬ v1 ≤ v2 ∧ d < 1024)) ∧ r = 0 ∧ u = (n, d, th, A))) (MB D y a cI AA) AA) AA) [.ref y, .int v1, .int v2, .int v3, .int v4].toArray s 0 0 AA) (F0 m 0 ls []) from key9 _ _ hM
  clear hM
  intro H locs hM
  refine lv_aload_n hx hb dX3_does_0 rfl (lv_at hl 0 rfl) ?_
  refine lv_iload_n hx hb dX3_does_1 rfl (lv_at hl 1 rfl) ?_
  refine vp_callSi (va_Run.run (runV (As := [.int v1]) (rest := []) (Bh := RdM D y a n d th A) S (c_X3_isNew l v1) (gw_V wk_405 wk_407 wp_21 wk_4 wk_408) rfl rfl 1 rfl (by decide +kernel) (by decide) ⟨Nat.le_refl _, Nat.le_refl _⟩ (fun _ _ _ h q => RdM.mv h q) hM.recv hM.rd hl.1 (Nat.le_of_ble_eq_true rfl) dX3_does_2)) (fun r hr => ?_)
  rcases hr with ⟨h_2, rfl⟩ | ⟨h_2, rfl⟩
  · refine lv_if_eq (tgt := 31) hx hb dX3_does_5 (by decide) (fun c_5 => ?_) (fun c_5 => ?_)
    · exact absurd (show _ from c_5) (by decide)
    · refine lv_aload_n hx hb dX3_does_8 rfl (lv_at hl 0 rfl) ?_
      refine lv_iload_n hx hb dX3_does_9 rfl (lv_at hl 2 rfl) ?_
      refine vp_callSi (va_Run.run (runV (As := [.int v2]) (rest := []) (Bh := RdM D y a n d th A) S (c_X3_placeOf l v2) (gw_V wk_410 wk_412 wp_22 wk_4 wk_413) rfl rfl 1 rfl (by decide +kernel) (by decide) ⟨Nat.le_refl _, Nat.le_refl _⟩ (fun _ _ _ h q => RdM.mv h q) hM.recv hM.rd hl.1 (Nat.le_of_ble_eq_true rfl) dX3_does_10)) (fun r hr => ?_)
      rcases hr with ⟨k_10, hk_10, he_10, hf_10, rfl⟩ | ⟨hn_10, rfl⟩
      · refine lv_if_lt (tgt := 31) hx hb dX3_does_13 (by decide) (fun c_13 => ?_) (fun c_13 => ?_)
        · exact absurd c_13 (nI_pos (by omega))
        · refine lv_iload_n hx hb dX3_does_16 rfl (lv_at hl 1 rfl) ?_
          refine lv_iload_n hx hb dX3_does_17 rfl (lv_at hl 2 rfl) ?_
          refine lv_icmp_le (tgt := 31) hx hb dX3_does_18 (by decide) (fun c_18 => ?_) (fun c_18 => ?_)
          · refine lv_iconst (v := 0) hx hb dX3_does_31 (by decide) ?_
            exact W.zret (v := 0) hx hb hr rfl (fun t9 ht9 hW9 => ⟨⟨_, (n, d, th, A), rfl, Or.inr ⟨fun z => z.2.2.1 c_18, rfl, rfl⟩, (hM.out ht9 hW9).1⟩, (hM.out ht9 hW9).2⟩) hM.S.2.2 dX3_does_32
          · refine lv_aload_n hx hb dX3_does_21 rfl (lv_at hl 0 rfl) ?_
            refine rM_done S hM.rd dX3_does_22 ?_
            refine lv_sipush (v := nI 1024) hx hb dX3_does_25 (by decide) ?_
            refine lv_icmp_ne (tgt := 33) hx hb dX3_does_28 (by decide) (fun c_28 => ?_) (fun c_28 => ?_)
            · rw [nI_eq (by omega) (by omega)] at c_28
              refine lv_aload_n hx hb dX3_does_33 rfl (lv_at hl 0 rfl) ?_
              refine rM_doneIds S hM.rd dX3_does_34 ?_
              refine lv_aload_n hx hb dX3_does_37 rfl (lv_at hl 0 rfl) ?_
              refine rM_done S hM.rd dX3_does_38 ?_
              refine lv_iload_n hx hb dX3_does_41 rfl (lv_at hl 1 rfl) ?_
              refine mw_ast4 (k := d) S hM (by omega) dX3_does_42 (fun H locs A_42 hA_42 hM => ?_)
              refine lv_aload_n hx hb dX3_does_43 rfl (lv_at hl 0 rfl) ?_
              refine rM_doneOf S hM.rd dX3_does_44 ?_
              refine lv_aload_n hx hb dX3_does_47 rfl (lv_at hl 0 rfl) ?_
              refine rM_done S hM.rd dX3_does_48 ?_
              refine lv_iload_n hx hb dX3_does_51 rfl (lv_at hl 2 rfl) ?_
              refine mw_ast5 (k := d) S hM (by omega) dX3_does_52 (fun H locs A_52 hA_52 hM => ?_)
              refine lv_aload_n hx hb dX3_does_53 rfl (lv_at hl 0 rfl) ?_
              refine rM_doneKinds S hM.rd dX3_does_54 ?_
              refine lv_aload_n hx hb dX3_does_57 rfl (lv_at hl 0 rfl) ?_
              refine rM_done S hM.rd dX3_does_58 ?_
              refine lv_iload_n hx hb dX3_does_61 rfl (lv_at hl 3 rfl) ?_
              refine mw_ast6 (k := d) S hM (by omega) dX3_does_62 (fun H locs A_62 hA_62 hM => ?_)
              refine lv_aload_n hx hb dX3_does_63 rfl (lv_at hl 0 rfl) ?_
              refine rM_doneValues S hM.rd dX3_does_64 ?_
              refine lv_aload_n hx hb dX3_does_67 rfl (lv_at hl 0 rfl) ?_
              refine rM_done S hM.rd dX3_does_68 ?_
              refine lv_iload hx hb dX3_does_71 (lv_at hl 4 rfl) ?_
              refine mw_ast7 (k := d) S hM (by omega) dX3_does_73 (fun H locs A_73 hA_73 hM => ?_)
              refine lv_aload_n hx hb dX3_does_74 rfl (lv_at hl 0 rfl) ?_
              refine lv_dup hx hb dX3_does_75 rfl ?_
              refine rM_done S hM.rd dX3_does_76 ?_
              refine lv_iconst (v := nI 1) hx hb dX3_does_79 (by decide) ?_
              refine lv_iadd hx hb dX3_does_80 ?_
              rw [nI_add]
              refine mw_done (v := (d + 1)) S hM (by omega) dX3_does_81 (fun H locs hM => ?_)
              refine lv_iconst (v := 1) hx hb dX3_does_84 (by decide) ?_
              exact W.zret (v := 1) hx hb hr rfl (fun t9 ht9 hW9 => ⟨⟨_, (n, (d + 1), th, A_73), rfl, Or.inl ⟨⟨h_2, ⟨k_10, hk_10, he_10⟩, c_18, by omega⟩, rfl, by rw [hA_73, hA_62, hA_52, hA_42]; rfl⟩, (hM.out ht9 hW9).1⟩, (hM.out ht9 hW9).2⟩) hM.S.2.2 dX3_does_85
            · rw [nI_eq (by omega) (by omega)] at c_28
              refine lv_iconst (v := 0) hx hb dX3_does_31 (by decide) ?_
              exact W.zret (v := 0) hx hb hr rfl (fun t9 ht9 hW9 => ⟨⟨_, (n, d, th, A), rfl, Or.inr ⟨fun z => absurd z.2.2.2 (by omega), rfl, rfl⟩, (hM.out ht9 hW9).1⟩, (hM.out ht9 hW9).2⟩) hM.S.2.2 dX3_does_32
      · refine lv_if_lt (tgt := 31) hx hb dX3_does_13 (by decide) (fun c_13 => ?_) (fun c_13 => ?_)
        · refine lv_iconst (v := 0) hx hb dX3_does_31 (by decide) ?_
          exact W.zret (v := 0) hx hb hr rfl (fun t9 ht9 hW9 => ⟨⟨_, (n, d, th, A), rfl, Or.inr ⟨fun ⟨_, ⟨k, h1, h2⟩, _⟩ => hn_10 k h1 h2, rfl, rfl⟩, (hM.out ht9 hW9).1⟩, (hM.out ht9 hW9).2⟩) hM.S.2.2 dX3_does_32
        · exact absurd (show _ from c_13) (by decide)
  · refine lv_if_eq (tgt := 31) hx hb dX3_does_5 (by decide) (fun c_5 => ?_) (fun c_5 => ?_)
    · refine lv_iconst (v := 0) hx hb dX3_does_31 (by decide) ?_
      exact W.zret (v := 0) hx hb hr rfl (fun t9 ht9 hW9 => ⟨⟨_, (n, d, th, A), rfl, Or.inr ⟨fun z => h_2 z.1, rfl, rfl⟩, (hM.out ht9 hW9).1⟩, (hM.out ht9 hW9).2⟩) hM.S.2.2 dX3_does_32
    · exact absurd (show _ from c_5) (by decide)
set_option maxHeartbeats 4000000 in
set_option maxRecDepth 100000 in
theorem c_X3_set (l : Launch) {D : va_G} {y : Nat} {a : Nat → Nat} {cI : ClassId} {n d : Nat} {th : Int32} {A : Nat → Nat → Int32} {sz : Nat} (v1 : Int32) (v2 : Int32) (v3 : Int32) (v4 : Int32)  : Met l yX3_set (gws yX3_set cX3_set 5 (some .boolean)) { frames := 3, cells := 0, slots := 0, locals := 70 } (va_Pc [.ref y, .int v1, .int v2, .int v3, .int v4] (fun U => MPre D y a cI n d th A sz U U.heap)) (va_Qi (fun r (u : MS) => (((¬ v3 < 0 ∧ ¬ 6 < v3) ∧ (NewM A n d v1 ∧ (∃ k, k < n ∧ A 0 k = v2) ∧ ¬ v1 ≤ v2 ∧ d < 1024)) ∧ r = 1 ∧ u = (n, d + 1, 0, dA A d v1 v2 v3 v4)) ∨ ((¬ ((¬ v3 < 0 ∧ ¬ 6 < v3) ∧ (NewM A n d v1 ∧ (∃ k, k < n ∧ A 0 k = v2) ∧ ¬ v1 ≤ v2 ∧ d < 1024))) ∧ r = 0 ∧ u = (n, d, 0, A))) (MB D y a cI (va_A (wM y a cI n d th A) sz)) (va_A (wM y a cI n d th A) sz)) 0 0 (va_A (wM y a cI n d th A) sz) := by
  refine met_mm (QQ := fun AA => va_Qi (fun r (u : MS) => (((¬ v3 < 0 ∧ ¬ 6 < v3) ∧ (NewM A n d v1 ∧ (∃ k, k < n ∧ A 0 k = v2) ∧ ¬ v1 ≤ v2 ∧ d < 1024)) ∧ r = 1 ∧ u = (n, d + 1, 0, dA A d v1 v2 v3 v4)) ∨ ((¬ ((¬ v3 < 0 ∧ ¬ 6 < v3) ∧ (NewM A n d v1 ∧ (∃ k, k < n ∧ A 0 k = v2) ∧ ¬ v1 ≤ v2 ∧ d < 1024))) ∧ r = 0 ∧ u = (n, d, 0, A))) (MB D y a cI AA) AA) (by decide) (Nat.le_of_ble_eq_true rfl) ?_
  intro p e s m below meth c ls AA S hr hlocks hM hl
  obtain ⟨hx, hb, hml, hown, hg⟩ := id S
  have hl : lv_has ls 5 [(0, .ref y), (1, .int v1), (2, .int v2), (3, .int v3), (4, .int v4)] := hl
  have hn := hM.bd
  suffices key9 : ∀ (H : Heap) (locs : List Loc), MM D y a cI n d th A AA s.heap s H locs → W p l e { frames := 3, cells := 0, slots := 0, locals := 70 } s m [.ref y, .int v1, .int v2, .int v3, .int v4].toArray below meth c H locs 0 0 (MQ below ((fun AA : Nat → Prop => va_Qi (fun r (u : MS) => (((¬ v3 < 0 ∧ ¬ 6 < v3) ∧ (NewM A n d v1 ∧ (∃ k, k < n ∧ A 0 k = v2) ∧ ¬ v1 ≤ v2 ∧ d < 1024)) ∧ r = 1 ∧ u = (n, d + 1, 0, dA A d v1 v2 v3 v4)) ∨ ((¬ ((¬ v3 < 0 ∧ ¬ 6 < v3) ∧ (NewM A n d v1 ∧ (∃ k, k < n ∧ A 0 k = v2) ∧ ¬ v1 ≤ v2 ∧ d < 1024))) ∧ r = 0 ∧ u = (n, d, 0, A))) (MB D y a cI AA) AA) AA) [.ref y, .int v1, .int v2, .int v3, .int v4].toArray s 0 0 AA) (F0 m 0 ls []) from key9 _ _ hM
  clear hM
  intro H locs hM
  refine lv_aload_n hx hb dX3_set_0 rfl (lv_at hl 0 rfl) ?_
  refine lv_iconst (v := 0) hx hb dX3_set_1 (by decide) ?_
  refine mw_thrown S hM dX3_set_2 (fun H locs hM => ?_)
  refine lv_iload_n hx hb dX3_set_5 rfl (lv_at hl 3 rfl) ?_
  refine vp_callSi (va_Run.run (runS (As := [.int v3]) (rest := []) (Bh := (fun _ _ => True)) S (c_X3_isKind l v3) (gw_S wk_414 wk_415 wk_4 wk_416) rfl rfl 1 rfl (by decide +kernel) (by decide) ⟨Nat.le_refl _, Nat.le_refl _⟩ (fun _ _ _ _ _ => trivial) trivial hl.1 (Nat.le_of_ble_eq_true rfl) dX3_set_6)) (fun r hr => ?_)
  rcases hr with ⟨h_6, rfl⟩ | ⟨h_6, rfl⟩
  · refine lv_if_eq (tgt := 28) hx hb dX3_set_9 (by decide) (fun c_9 => ?_) (fun c_9 => ?_)
    · exact absurd (show _ from c_9) (by decide)
    · refine lv_aload_n hx hb dX3_set_12 rfl (lv_at hl 0 rfl) ?_
      refine lv_iload_n hx hb dX3_set_13 rfl (lv_at hl 1 rfl) ?_
      refine lv_iload_n hx hb dX3_set_14 rfl (lv_at hl 2 rfl) ?_
      refine lv_iload_n hx hb dX3_set_15 rfl (lv_at hl 3 rfl) ?_
      refine lv_iload hx hb dX3_set_16 (lv_at hl 4 rfl) ?_
      refine va_calli (runV (As := [.int v1, .int v2, .int v3, .int v4]) (rest := []) (Bh := MPre D y a cI n d 0 A H.size) S (c_X3_does l v1 v2 v3 v4) (gw_V wk_430 wk_432 wp_24 wk_4 wk_433) rfl rfl 4 rfl (by decide +kernel) (by decide) ⟨Nat.le_refl _, Nat.le_refl _⟩ (fun _ _ _ h q => MPre.mv h q) hM.recv hM.pre hl.1 (Nat.le_of_ble_eq_true rfl) dX3_set_18) hM.S (fun q _ h => hM.free q h) hM.free (fun r_18 u8 t8 H1 locs1 ht8 hvm8 hp hB8 hz8 hk8 hS8 => ?_)
      obtain ⟨n_18, d_18, th_18, A_18⟩ := u8
      have hM := hM.back ht8 hB8 hS8
      generalize H1 = H at hM ⊢
      generalize locs1 = locs at hM ⊢
      dsimp only at hp hM
      rcases hp with ⟨h_18, rfl, hu⟩ | ⟨h_18, rfl, hu⟩
      · obtain ⟨rfl, rfl, rfl, rfl⟩ : n = n_18 ∧ d + 1 = d_18 ∧ 0 = th_18 ∧ dA A d v1 v2 v3 v4 = A_18 := by have z := hu; simp only [Prod.mk.injEq] at z; exact ⟨z.1.symm, z.2.1.symm, z.2.2.1.symm, z.2.2.2.symm⟩
        refine lv_if_eq (tgt := 28) hx hb dX3_set_21 (by decide) (fun c_21 => ?_) (fun c_21 => ?_)
        · exact absurd (show _ from c_21) (by decide)
        · refine lv_iconst (v := 1) hx hb dX3_set_24 (by decide) ?_
          refine lv_goto (tgt := 29) hx hb dX3_set_25 (by decide) ?_
          exact W.zret (v := 1) hx hb hr rfl (fun t9 ht9 hW9 => ⟨⟨_, (n, (d + 1), 0, (dA A d v1 v2 v3 v4)), rfl, Or.inl ⟨⟨h_6, h_18⟩, rfl, rfl⟩, (hM.out ht9 hW9).1⟩, (hM.out ht9 hW9).2⟩) hM.S.2.2 dX3_set_29
      · obtain ⟨rfl, rfl, rfl, rfl⟩ : n = n_18 ∧ d = d_18 ∧ 0 = th_18 ∧ A = A_18 := by have z := hu; simp only [Prod.mk.injEq] at z; exact ⟨z.1.symm, z.2.1.symm, z.2.2.1.symm, z.2.2.2.symm⟩
        refine lv_if_eq (tgt := 28) hx hb dX3_set_21 (by decide) (fun c_21 => ?_) (fun c_21 => ?_)
        · refine lv_iconst (v := 0) hx hb dX3_set_28 (by decide) ?_
          exact W.zret (v := 0) hx hb hr rfl (fun t9 ht9 hW9 => ⟨⟨_, (n, d, 0, A), rfl, Or.inr ⟨fun z => h_18 z.2, rfl, rfl⟩, (hM.out ht9 hW9).1⟩, (hM.out ht9 hW9).2⟩) hM.S.2.2 dX3_set_29
        · exact absurd (show _ from c_21) (by decide)
  · refine lv_if_eq (tgt := 28) hx hb dX3_set_9 (by decide) (fun c_9 => ?_) (fun c_9 => ?_)
    · refine lv_iconst (v := 0) hx hb dX3_set_28 (by decide) ?_
      exact W.zret (v := 0) hx hb hr rfl (fun t9 ht9 hW9 => ⟨⟨_, (n, d, 0, A), rfl, Or.inr ⟨fun z => h_6 z.1, rfl, rfl⟩, (hM.out ht9 hW9).1⟩, (hM.out ht9 hW9).2⟩) hM.S.2.2 dX3_set_29
    · exact absurd (show _ from c_9) (by decide)
set_option maxHeartbeats 4000000 in
set_option maxRecDepth 100000 in
theorem c_X3_remove (l : Launch) {D : va_G} {y : Nat} {a : Nat → Nat} {cI : ClassId} {n d : Nat} {th : Int32} {A : Nat → Nat → Int32} {sz : Nat} (v1 : Int32) (v2 : Int32)  : Met l yX3_remove (gws yX3_remove cX3_remove 3 (some .boolean)) { frames := 3, cells := 0, slots := 0, locals := 70 } (va_Pc [.ref y, .int v1, .int v2] (fun U => MPre D y a cI n d th A sz U U.heap)) (va_Qi (fun r (u : MS) => ((NewM A n d v1 ∧ (∃ k, k < n ∧ A 0 k = v2) ∧ ¬ v1 ≤ v2 ∧ d < 1024) ∧ r = 1 ∧ u = (n, d + 1, 0, dA A d v1 v2 (-1) 0)) ∨ ((¬ (NewM A n d v1 ∧ (∃ k, k < n ∧ A 0 k = v2) ∧ ¬ v1 ≤ v2 ∧ d < 1024)) ∧ r = 0 ∧ u = (n, d, 0, A))) (MB D y a cI (va_A (wM y a cI n d th A) sz)) (va_A (wM y a cI n d th A) sz)) 0 0 (va_A (wM y a cI n d th A) sz) := by
  refine met_mm (QQ := fun AA => va_Qi (fun r (u : MS) => ((NewM A n d v1 ∧ (∃ k, k < n ∧ A 0 k = v2) ∧ ¬ v1 ≤ v2 ∧ d < 1024) ∧ r = 1 ∧ u = (n, d + 1, 0, dA A d v1 v2 (-1) 0)) ∨ ((¬ (NewM A n d v1 ∧ (∃ k, k < n ∧ A 0 k = v2) ∧ ¬ v1 ≤ v2 ∧ d < 1024)) ∧ r = 0 ∧ u = (n, d, 0, A))) (MB D y a cI AA) AA) (by decide) (Nat.le_of_ble_eq_true rfl) ?_
  intro p e s m below meth c ls AA S hr hlocks hM hl
  obtain ⟨hx, hb, hml, hown, hg⟩ := id S
  have hl : lv_has ls 3 [(0, .ref y), (1, .int v1), (2, .int v2)] := hl
  have hn := hM.bd
  suffices key9 : ∀ (H : Heap) (locs : List Loc), MM D y a cI n d th A AA s.heap s H locs → W p l e { frames := 3, cells := 0, slots := 0, locals := 70 } s m [.ref y, .int v1, .int v2].toArray below meth c H locs 0 0 (MQ below ((fun AA : Nat → Prop => va_Qi (fun r (u : MS) => ((NewM A n d v1 ∧ (∃ k, k < n ∧ A 0 k = v2) ∧ ¬ v1 ≤ v2 ∧ d < 1024) ∧ r = 1 ∧ u = (n, d + 1, 0, dA A d v1 v2 (-1) 0)) ∨ ((¬ (NewM A n d v1 ∧ (∃ k, k < n ∧ A 0 k = v2) ∧ ¬ v1 ≤ v2 ∧ d < 1024)) ∧ r = 0 ∧ u = (n, d, 0, A))) (MB D y a cI AA) AA) AA) [.ref y, .int v1, .int v2].toArray s 0 0 AA) (F0 m 0 ls []) from key9 _ _ hM
  clear hM
  intro H locs hM
  refine lv_aload_n hx hb dX3_remove_0 rfl (lv_at hl 0 rfl) ?_
  refine lv_iconst (v := 0) hx hb dX3_remove_1 (by decide) ?_
  refine mw_thrown S hM dX3_remove_2 (fun H locs hM => ?_)
  refine lv_aload_n hx hb dX3_remove_5 rfl (lv_at hl 0 rfl) ?_
  refine lv_iload_n hx hb dX3_remove_6 rfl (lv_at hl 1 rfl) ?_
  refine lv_iload_n hx hb dX3_remove_7 rfl (lv_at hl 2 rfl) ?_
  refine lv_iconst (v := (-1)) hx hb dX3_remove_8 (by decide) ?_
  refine lv_iconst (v := 0) hx hb dX3_remove_9 (by decide) ?_
  refine va_calli (runV (As := [.int v1, .int v2, .int (-1), .int 0]) (rest := []) (Bh := MPre D y a cI n d 0 A H.size) S (c_X3_does l v1 v2 (-1) 0) (gw_V wk_430 wk_432 wp_24 wk_4 wk_433) rfl rfl 4 rfl (by decide +kernel) (by decide) ⟨Nat.le_refl _, Nat.le_refl _⟩ (fun _ _ _ h q => MPre.mv h q) hM.recv hM.pre hl.1 (Nat.le_of_ble_eq_true rfl) dX3_remove_10) hM.S (fun q _ h => hM.free q h) hM.free (fun r_10 u8 t8 H1 locs1 ht8 hvm8 hp hB8 hz8 hk8 hS8 => ?_)
  obtain ⟨n_10, d_10, th_10, A_10⟩ := u8
  have hM := hM.back ht8 hB8 hS8
  generalize H1 = H at hM ⊢
  generalize locs1 = locs at hM ⊢
  dsimp only at hp hM
  rcases hp with ⟨h_10, rfl, hu⟩ | ⟨h_10, rfl, hu⟩
  · obtain ⟨rfl, rfl, rfl, rfl⟩ : n = n_10 ∧ d + 1 = d_10 ∧ 0 = th_10 ∧ dA A d v1 v2 (-1) 0 = A_10 := by have z := hu; simp only [Prod.mk.injEq] at z; exact ⟨z.1.symm, z.2.1.symm, z.2.2.1.symm, z.2.2.2.symm⟩
    exact W.zret (v := 1) hx hb hr rfl (fun t9 ht9 hW9 => ⟨⟨_, (n, (d + 1), 0, (dA A d v1 v2 (-1) 0)), rfl, Or.inl ⟨h_10, rfl, rfl⟩, (hM.out ht9 hW9).1⟩, (hM.out ht9 hW9).2⟩) hM.S.2.2 dX3_remove_13
  · obtain ⟨rfl, rfl, rfl, rfl⟩ : n = n_10 ∧ d = d_10 ∧ 0 = th_10 ∧ A = A_10 := by have z := hu; simp only [Prod.mk.injEq] at z; exact ⟨z.1.symm, z.2.1.symm, z.2.2.1.symm, z.2.2.2.symm⟩
    exact W.zret (v := 0) hx hb hr rfl (fun t9 ht9 hW9 => ⟨⟨_, (n, d, 0, A), rfl, Or.inr ⟨h_10, rfl, rfl⟩, (hM.out ht9 hW9).1⟩, (hM.out ht9 hW9).2⟩) hM.S.2.2 dX3_remove_13
set_option maxHeartbeats 4000000 in
set_option maxRecDepth 100000 in
theorem c_X3_size (l : Launch) {D : va_G} {y : Nat} {a : Nat → Nat} {cI : ClassId} {n d : Nat} {th : Int32} {A : Nat → Nat → Int32} {sz : Nat}   : Met l yX3_size (gws yX3_size cX3_size 1 (some .int)) { frames := 2, cells := 0, slots := 0, locals := 45 } (va_Pc [.ref y] (fun U => MPre D y a cI n d th A sz U U.heap)) (va_Qi (fun r (u : MS) => r = nI (cntB (fun k => !remB A (A 0 k) d) n) ∧ u = (n, d, 0, A)) (MB D y a cI (va_A (wM y a cI n d th A) sz)) (va_A (wM y a cI n d th A) sz)) 0 0 (va_A (wM y a cI n d th A) sz) := by
  refine met_mm (QQ := fun AA => va_Qi (fun r (u : MS) => r = nI (cntB (fun k => !remB A (A 0 k) d) n) ∧ u = (n, d, 0, A)) (MB D y a cI AA) AA) (by decide) (Nat.le_of_ble_eq_true rfl) ?_
  intro p e s m below meth c ls AA S hr hlocks hM hl
  obtain ⟨hx, hb, hml, hown, hg⟩ := id S
  have hl : lv_has ls 1 [(0, .ref y)] := hl
  have hn := hM.bd
  suffices key9 : ∀ (H : Heap) (locs : List Loc), MM D y a cI n d th A AA s.heap s H locs → W p l e { frames := 2, cells := 0, slots := 0, locals := 45 } s m [.ref y].toArray below meth c H locs 0 0 (MQ below ((fun AA : Nat → Prop => va_Qi (fun r (u : MS) => r = nI (cntB (fun k => !remB A (A 0 k) d) n) ∧ u = (n, d, 0, A)) (MB D y a cI AA) AA) AA) [.ref y].toArray s 0 0 AA) (F0 m 0 ls []) from key9 _ _ hM
  clear hM
  intro H locs hM
  refine lv_aload_n hx hb dX3_size_0 rfl (lv_at hl 0 rfl) ?_
  refine lv_iconst (v := 0) hx hb dX3_size_1 (by decide) ?_
  refine mw_thrown S hM dX3_size_2 (fun H locs hM => ?_)
  refine lv_aload_n hx hb dX3_size_5 rfl (lv_at hl 0 rfl) ?_
  refine vp_callSi (va_Run.run (runV (As := []) (rest := []) (Bh := RdM D y a n d 0 A) S (c_X3_sizeOf l ) (gw_V wk_442 wk_444 wp_25 wk_4 wk_445) rfl rfl 0 rfl (by decide +kernel) (by decide) ⟨Nat.le_refl _, Nat.le_refl _⟩ (fun _ _ _ h q => RdM.mv h q) hM.recv hM.rd hl.1 (Nat.le_of_ble_eq_true rfl) dX3_size_6)) (fun r_6 hr_6 => ?_)
  subst hr_6
  exact W.iret (v := (nI (cntB (fun k => !remB A (A 0 k) d) n))) hx hb hr (fun t9 ht9 hW9 => ⟨⟨_, (n, d, 0, A), rfl, ⟨rfl, rfl⟩, (hM.out ht9 hW9).1⟩, (hM.out ht9 hW9).2⟩) hM.S.2.2 dX3_size_9
set_option maxHeartbeats 4000000 in
set_option maxRecDepth 100000 in
theorem c_X3_look (l : Launch) {D : va_G} {y : Nat} {a : Nat → Nat} {cI : ClassId} {n d : Nat} {th : Int32} {A : Nat → Nat → Int32} {sz : Nat} (v1 : Int32) (dep : Int32 → Nat) (hdep : Dep A n dep) : Met l yX3_look (gws yX3_look cX3_look 2 (some .int)) { frames := 2, cells := 0, slots := 0, locals := 47 } (va_Pc [.ref y, .int v1] (fun U => MPre D y a cI n d th A sz U U.heap)) (va_Qi (fun r (u : MS) => ((v1 = 0 ∧ r = nI n) ∨ (v1 = 1 ∧ r = nI (cntB (fun k => !remB A (A 0 k) d) n)) ∨ (v1 = 2 ∧ r = nI d) ∨ (v1 = 3 ∧ r = mxf (A 4) (mxf (A 0) (-1) n) d) ∨ (v1 = 4 ∧ r = mxw (fun k => nI (dep (A 0 k))) n) ∨ (¬ v1 = 0 ∧ ¬ v1 = 1 ∧ ¬ v1 = 2 ∧ ¬ v1 = 3 ∧ ¬ v1 = 4 ∧ r = -1)) ∧ u = (n, d, 0, A)) (MB D y a cI (va_A (wM y a cI n d th A) sz)) (va_A (wM y a cI n d th A) sz)) 0 0 (va_A (wM y a cI n d th A) sz) := by
  refine met_mm (QQ := fun AA => va_Qi (fun r (u : MS) => ((v1 = 0 ∧ r = nI n) ∨ (v1 = 1 ∧ r = nI (cntB (fun k => !remB A (A 0 k) d) n)) ∨ (v1 = 2 ∧ r = nI d) ∨ (v1 = 3 ∧ r = mxf (A 4) (mxf (A 0) (-1) n) d) ∨ (v1 = 4 ∧ r = mxw (fun k => nI (dep (A 0 k))) n) ∨ (¬ v1 = 0 ∧ ¬ v1 = 1 ∧ ¬ v1 = 2 ∧ ¬ v1 = 3 ∧ ¬ v1 = 4 ∧ r = -1)) ∧ u = (n, d, 0, A)) (MB D y a cI AA) AA) (by decide) (Nat.le_of_ble_eq_true rfl) ?_
  intro p e s m below meth c ls AA S hr hlocks hM hl
  obtain ⟨hx, hb, hml, hown, hg⟩ := id S
  have hl : lv_has ls 2 [(0, .ref y), (1, .int v1)] := hl
  have hn := hM.bd
  suffices key9 : ∀ (H : Heap) (locs : List Loc), MM D y a cI n d th A AA s.heap s H locs → W p l e { frames := 2, cells := 0, slots := 0, locals := 47 } s m [.ref y, .int v1].toArray below meth c H locs 0 0 (MQ below ((fun AA : Nat → Prop => va_Qi (fun r (u : MS) => ((v1 = 0 ∧ r = nI n) ∨ (v1 = 1 ∧ r = nI (cntB (fun k => !remB A (A 0 k) d) n)) ∨ (v1 = 2 ∧ r = nI d) ∨ (v1 = 3 ∧ r = mxf (A 4) (mxf (A 0) (-1) n) d) ∨ (v1 = 4 ∧ r = mxw (fun k => nI (dep (A 0 k))) n) ∨ (¬ v1 = 0 ∧ ¬ v1 = 1 ∧ ¬ v1 = 2 ∧ ¬ v1 = 3 ∧ ¬ v1 = 4 ∧ r = -1)) ∧ u = (n, d, 0, A)) (MB D y a cI AA) AA) AA) [.ref y, .int v1].toArray s 0 0 AA) (F0 m 0 ls []) from key9 _ _ hM
  clear hM
  intro H locs hM
  refine lv_aload_n hx hb dX3_look_0 rfl (lv_at hl 0 rfl) ?_
  refine lv_iconst (v := 0) hx hb dX3_look_1 (by decide) ?_
  refine mw_thrown S hM dX3_look_2 (fun H locs hM => ?_)
  refine lv_iload_n hx hb dX3_look_5 rfl (lv_at hl 1 rfl) ?_
  refine lv_if_ne (tgt := 16) hx hb dX3_look_6 (by decide) (fun c_6 => ?_) (fun c_6 => ?_)
  · refine lv_iload_n hx hb dX3_look_16 rfl (lv_at hl 1 rfl) ?_
    refine lv_iconst (v := 1) hx hb dX3_look_17 (by decide) ?_
    refine lv_icmp_ne (tgt := 28) hx hb dX3_look_18 (by decide) (fun c_18 => ?_) (fun c_18 => ?_)
    · refine lv_iload_n hx hb dX3_look_28 rfl (lv_at hl 1 rfl) ?_
      refine lv_iconst (v := 2) hx hb dX3_look_29 (by decide) ?_
      refine lv_icmp_ne (tgt := 40) hx hb dX3_look_30 (by decide) (fun c_30 => ?_) (fun c_30 => ?_)
      · refine lv_iload_n hx hb dX3_look_40 rfl (lv_at hl 1 rfl) ?_
        refine lv_iconst (v := 3) hx hb dX3_look_41 (by decide) ?_
        refine lv_icmp_ne (tgt := 52) hx hb dX3_look_42 (by decide) (fun c_42 => ?_) (fun c_42 => ?_)
        · refine lv_iload_n hx hb dX3_look_52 rfl (lv_at hl 1 rfl) ?_
          refine lv_iconst (v := 4) hx hb dX3_look_53 (by decide) ?_
          refine lv_icmp_ne (tgt := 64) hx hb dX3_look_54 (by decide) (fun c_54 => ?_) (fun c_54 => ?_)
          · refine lv_iconst (v := (-1)) hx hb dX3_look_64 (by decide) ?_
            exact W.iret (v := (-1)) hx hb hr (fun t9 ht9 hW9 => ⟨⟨_, (n, d, 0, A), rfl, ⟨Or.inr (Or.inr (Or.inr (Or.inr (Or.inr (⟨c_6, c_18, c_30, c_42, c_54, rfl⟩))))), rfl⟩, (hM.out ht9 hW9).1⟩, (hM.out ht9 hW9).2⟩) hM.S.2.2 dX3_look_65
          · refine lv_aload_n hx hb dX3_look_57 rfl (lv_at hl 0 rfl) ?_
            refine vp_callSi (va_Run.run (runV (As := []) (rest := []) (Bh := RdM D y a n d 0 A) S (c_X3_deepest l dep hdep) (gw_V wk_526 wk_528 wp_38 wk_4 wk_529) rfl rfl 0 rfl (by decide +kernel) (by decide) ⟨Nat.le_refl _, Nat.le_refl _⟩ (fun _ _ _ h q => RdM.mv h q) hM.recv hM.rd hl.1 (Nat.le_of_ble_eq_true rfl) dX3_look_58)) (fun r_58 hr_58 => ?_)
            subst hr_58
            refine lv_goto (tgt := 65) hx hb dX3_look_61 (by decide) ?_
            exact W.iret (v := (mxw (fun k => nI (dep (A 0 k))) n)) hx hb hr (fun t9 ht9 hW9 => ⟨⟨_, (n, d, 0, A), rfl, ⟨Or.inr (Or.inr (Or.inr (Or.inr (Or.inl (⟨c_54, rfl⟩))))), rfl⟩, (hM.out ht9 hW9).1⟩, (hM.out ht9 hW9).2⟩) hM.S.2.2 dX3_look_65
        · refine lv_aload_n hx hb dX3_look_45 rfl (lv_at hl 0 rfl) ?_
          refine vp_callSi (va_Run.run (runV (As := []) (rest := []) (Bh := RdM D y a n d 0 A) S (c_X3_greatest l ) (gw_V wk_522 wk_524 wp_37 wk_4 wk_525) rfl rfl 0 rfl (by decide +kernel) (by decide) ⟨Nat.le_refl _, Nat.le_refl _⟩ (fun _ _ _ h q => RdM.mv h q) hM.recv hM.rd hl.1 (Nat.le_of_ble_eq_true rfl) dX3_look_46)) (fun r_46 hr_46 => ?_)
          subst hr_46
          refine lv_goto (tgt := 65) hx hb dX3_look_49 (by decide) ?_
          exact W.iret (v := (mxf (A 4) (mxf (A 0) (-1) n) d)) hx hb hr (fun t9 ht9 hW9 => ⟨⟨_, (n, d, 0, A), rfl, ⟨Or.inr (Or.inr (Or.inr (Or.inl (⟨c_42, rfl⟩)))), rfl⟩, (hM.out ht9 hW9).1⟩, (hM.out ht9 hW9).2⟩) hM.S.2.2 dX3_look_65
      · refine lv_aload_n hx hb dX3_look_33 rfl (lv_at hl 0 rfl) ?_
        refine rM_done S hM.rd dX3_look_34 ?_
        refine lv_goto (tgt := 65) hx hb dX3_look_37 (by decide) ?_
        exact W.iret (v := (nI d)) hx hb hr (fun t9 ht9 hW9 => ⟨⟨_, (n, d, 0, A), rfl, ⟨Or.inr (Or.inr (Or.inl (⟨c_30, rfl⟩))), rfl⟩, (hM.out ht9 hW9).1⟩, (hM.out ht9 hW9).2⟩) hM.S.2.2 dX3_look_65
    · refine lv_aload_n hx hb dX3_look_21 rfl (lv_at hl 0 rfl) ?_
      refine vp_callSi (va_Run.run (runV (As := []) (rest := []) (Bh := RdM D y a n d 0 A) S (c_X3_sizeOf l ) (gw_V wk_442 wk_444 wp_25 wk_4 wk_445) rfl rfl 0 rfl (by decide +kernel) (by decide) ⟨Nat.le_refl _, Nat.le_refl _⟩ (fun _ _ _ h q => RdM.mv h q) hM.recv hM.rd hl.1 (Nat.le_of_ble_eq_true rfl) dX3_look_22)) (fun r_22 hr_22 => ?_)
      subst hr_22
      refine lv_goto (tgt := 65) hx hb dX3_look_25 (by decide) ?_
      exact W.iret (v := (nI (cntB (fun k => !remB A (A 0 k) d) n))) hx hb hr (fun t9 ht9 hW9 => ⟨⟨_, (n, d, 0, A), rfl, ⟨Or.inr (Or.inl (⟨c_18, rfl⟩)), rfl⟩, (hM.out ht9 hW9).1⟩, (hM.out ht9 hW9).2⟩) hM.S.2.2 dX3_look_65
  · refine lv_aload_n hx hb dX3_look_9 rfl (lv_at hl 0 rfl) ?_
    refine rM_many S hM.rd dX3_look_10 ?_
    refine lv_goto (tgt := 65) hx hb dX3_look_13 (by decide) ?_
    exact W.iret (v := (nI n)) hx hb hr (fun t9 ht9 hW9 => ⟨⟨_, (n, d, 0, A), rfl, ⟨Or.inl (⟨c_6, rfl⟩), rfl⟩, (hM.out ht9 hW9).1⟩, (hM.out ht9 hW9).2⟩) hM.S.2.2 dX3_look_65
set_option maxHeartbeats 4000000 in
set_option maxRecDepth 100000 in
theorem c_X3_thrown (l : Launch) {D : va_G} {y : Nat} {a : Nat → Nat} {n d : Nat} {th : Int32} {A : Nat → Nat → Int32}   : Met l yX3_thrown (gws yX3_thrown cX3_thrown 1 (some .int)) { frames := 0, cells := 0, slots := 0, locals := 0 } (va_Pc [.ref y] (fun U => RdM D y a n d th A U U.heap)) (vp_Si (fun r => r = th)) 0 0 (fun _ => False) := by
  refine met_go (by decide) (Nat.le_of_ble_eq_true rfl) ?_
  intro p e s m below meth c ls S hr hlocks hnm hM hl
  obtain ⟨hx, hb, hml, hown, hg⟩ := id S
  have hl : lv_has ls 1 [(0, .ref y)] := hl
  have hn := hM.n
  refine lv_aload_n hx hb dX3_thrown_0 rfl (lv_at hl 0 rfl) ?_
  refine rM_thrown S hM dX3_thrown_1 ?_
  exact W.iret (v := th) hx hb hr (fun t9 ht9 _ => ⟨_, rfl, rfl, ht9⟩) (fun _ h => nomatch h) dX3_thrown_4
