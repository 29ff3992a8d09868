def Scr (A A' : Nat → Nat → Int32) : Prop := ∀ j, j < 8 → A' j = A j
theorem Scr.rem {A A' : Nat → Nat → Int32} (h : Scr A A') (v : Int32) : ∀ k, remB A' v k = remB A v k
  | 0 => rfl
  | k + 1 => by rw [remB, remB, h.rem v k, h 5 (by decide), h 6 (by decide)]
theorem Scr.of {A A' : Nat → Nat → Int32} (h : Scr A A') {n d : Nat} {v r : Int32} {a b : Nat} (ha : a < 8) (hb : b < 8) (hO : OfM A' n d v a b r) : OfM A n d v a b r := by
  unfold OfM SetM at hO ⊢
  rw [h 5 (by decide), h 6 (by decide), h 4 (by decide), h 0 (by decide), h a ha, h b hb] at hO
  exact hO
theorem Scr.up (A : Nat → Nat → Int32) (T O : Nat → Int32) : Scr A (va_up (va_up A 9 T) 8 O) := fun j hj => by rw [va_up_ne _ _ (by omega), va_up_ne _ _ (by omega)]
/-- the reference's arrays and the rows: the order, and which are removed -/
def Cor (A : Nat → Nat → Int32) (n d : Nat) (L : Nat → Int32) (pp : Nat → Nat) (G : Nat → Int32) : Prop := Wv A n L pp ∧ (∀ m, m < n → ¬ L m < 0) ∧ ∀ m, m < n → (G m = 0 ↔ remB A (L m) d = false)
theorem Cor.no {A : Nat → Nat → Int32} {n d : Nat} {L : Nat → Int32} {pp : Nat → Nat} {G : Nat → Int32} (h : Cor A n d L pp G) {v : Int32} (hv : ∀ k, k < n → ¬ A 0 k = v) : ∀ m, m < n → ¬ L m = v := fun m hm e => by
  obtain ⟨k, g1, g2, _⟩ := h.1.2.1 m hm
  exact hv k g1 (by rw [g2, e])
theorem Cor.ex {A : Nat → Nat → Int32} {n d : Nat} {L : Nat → Int32} {pp : Nat → Nat} {G : Nat → Int32} (h : Cor A n d L pp G) {v : Int32} {k : Nat} (hk : k < n) (hv : A 0 k = v) : ∃ m, m < n ∧ L m = v := by
  obtain ⟨m, g1, g2, _⟩ := h.1.1 k hk
  exact ⟨m, g1, by rw [g2, hv]⟩
theorem Cor.ex' {A : Nat → Nat → Int32} {n d : Nat} {L : Nat → Int32} {pp : Nat → Nat} {G : Nat → Int32} (h : Cor A n d L pp G) {m : Nat} (hm : m < n) : ∃ k, k < n ∧ A 0 k = L m := by
  obtain ⟨k, g1, g2, _⟩ := h.1.2.1 m hm
  exact ⟨k, g1, g2⟩
theorem sub_dec (v : Int32) (c : Nat) : v - nI c + (-1) = v - nI (c + 1) := by
  rw [nI_succ, Int32.sub_eq_add_neg, Int32.sub_eq_add_neg, Int32.neg_add, Int32.sub_eq_add_neg, Int32.add_assoc]
theorem sub_0 {v : Int32} {c : Nat} (h : v - nI c = 0) : nI c = v := by
  have h2 : v - nI c + nI c = 0 + nI c := by rw [h]
  rw [Int32.sub_add_cancel, Int32.zero_add] at h2
  exact h2.symm
theorem sub_n0 {v : Int32} {c : Nat} (h : ¬ v - nI c = 0) : ¬ nI c = v := fun e => h (by rw [e]; exact Int32.sub_self v)
theorem i32_3 {v : Int32} (h0 : ¬ v < 0) (h1 : v ≤ 3) (n0 : ¬ v = 0) (n1 : ¬ v = 1) (n2 : ¬ v = 2) : v = 3 := by
  have e0 : (0 : Int32).toInt = 0 := by decide
  have e1 : (1 : Int32).toInt = 1 := by decide
  have e2 : (2 : Int32).toInt = 2 := by decide
  have e3 : (3 : Int32).toInt = 3 := by decide
  rw [Int32.lt_iff_toInt_lt, e0] at h0
  rw [Int32.le_iff_toInt_le, e3] at h1
  have m0 : ¬ v.toInt = 0 := fun z => n0 (Int32.toInt_inj.mp (by rw [z, e0]))
  have m1 : ¬ v.toInt = 1 := fun z => n1 (Int32.toInt_inj.mp (by rw [z, e1]))
  have m2 : ¬ v.toInt = 2 := fun z => n2 (Int32.toInt_inj.mp (by rw [z, e2]))
  exact Int32.toInt_inj.mp (by rw [e3]; omega)
theorem i32_not03 {v : Int32} (h : v < 0 ∨ ¬ v ≤ 3) : ¬ v = 0 ∧ ¬ v = 1 ∧ ¬ v = 2 ∧ ¬ v = 3 := by
  refine ⟨fun e => ?_, fun e => ?_, fun e => ?_, fun e => ?_⟩ <;> (subst e; revert h; decide)
set_option maxHeartbeats 4000000 in
set_option maxRecDepth 100000 in
theorem c_X3_elementAt (l : Launch) {D : va_G} {y : Nat} {a : Nat → Nat} {cI : ClassId} {n d : Nat} {th : Int32} {A : Nat → Nat → Int32} {sz : Nat} (v1 : Int32) {L : Nat → Int32} {pp : Nat → Nat} {G : Nat → Int32} (hCo : Cor A n d L pp G) : Met l yX3_elementAt (gws yX3_elementAt cX3_elementAt 4 (some .int)) { frames := 2, cells := 0, slots := 0, locals := 49 } (va_Pc [.ref y, .int v1] (fun U => MPre D y a cI n d th A sz U U.heap)) (va_Qi (fun r (u : MS) => ((∃ k, k < n ∧ G k = 0 ∧ nI (vis G k) = v1 ∧ r = L k) ∨ ((∀ k, k < n → G k = 0 → ¬ nI (vis G k) = v1) ∧ r = -1)) ∧ u.1 = n ∧ u.2.1 = d ∧ u.2.2.1 = th ∧ Scr A u.2.2.2) (MB D y a cI (va_A (wM y a cI n d th A) sz)) (va_A (wM y a cI n d th A) sz)) 0 0 (va_A (wM y a cI n d th A) sz) := by
  refine met_mm (QQ := fun AA => va_Qi (fun r (u : MS) => ((∃ k, k < n ∧ G k = 0 ∧ nI (vis G k) = v1 ∧ r = L k) ∨ ((∀ k, k < n → G k = 0 → ¬ nI (vis G k) = v1) ∧ r = -1)) ∧ u.1 = n ∧ u.2.1 = d ∧ u.2.2.1 = th ∧ Scr A u.2.2.2) (MB D y a cI AA) AA) (by decide) (Nat.le_of_ble_eq_true rfl) ?_
  intro p e s m below meth c ls AA S hr hlocks hM hl
  obtain ⟨hx, hb, hml, hown, hg⟩ := id S
  have hl : lv_has ls 4 [(0, .ref y), (1, .int v1)] := hl
  have hn := hM.bd
  suffices key9 : ∀ (H : Heap) (locs : List Loc), MM D y a cI n d th A AA s.heap s H locs → W p l e { frames := 2, cells := 0, slots := 0, locals := 49 } s m [.ref y, .int v1].toArray below meth c H locs 0 0 (MQ below ((fun AA : Nat → Prop => va_Qi (fun r (u : MS) => ((∃ k, k < n ∧ G k = 0 ∧ nI (vis G k) = v1 ∧ r = L k) ∨ ((∀ k, k < n → G k = 0 → ¬ nI (vis G k) = v1) ∧ r = -1)) ∧ u.1 = n ∧ u.2.1 = d ∧ u.2.2.1 = th ∧ Scr A u.2.2.2) (MB D y a cI AA) AA) AA) [.ref y, .int v1].toArray s 0 0 AA) (F0 m 0 ls []) from key9 _ _ hM
  clear hM
  intro H locs hM
  refine lv_aload_n hx hb dX3_elementAt_0 rfl (lv_at hl 0 rfl) ?_
  refine va_callv (runV (As := []) (rest := []) (Bh := MPre D y a cI n d th A H.size) S (c_X3_weave l hCo.1) (gw_V wk_458 wk_460 wp_28 wk_4 wk_461) rfl rfl 0 rfl (by decide +kernel) (by decide) ⟨Nat.le_refl _, Nat.le_refl _⟩ (fun _ _ _ h q => MPre.mv h q) hM.recv hM.pre hl.1 (Nat.le_of_ble_eq_true rfl) dX3_elementAt_1) hM.S (fun q _ h => hM.free q h) hM.free (fun u8 t8 H1 locs1 ht8 hvm8 hp hB8 hz8 hk8 hS8 => ?_)
  obtain ⟨n_1, d_1, th_1, A_1⟩ := u8
  have hM := hM.back ht8 hB8 hS8
  generalize H1 = H at hM ⊢
  generalize locs1 = locs at hM ⊢
  dsimp only at hp hM
  obtain ⟨T_1, O_1, hu, hO⟩ := hp
  obtain ⟨rfl, rfl, rfl, hA9⟩ : n = n_1 ∧ d = d_1 ∧ th = th_1 ∧ A_1 = va_up (va_up A 9 T_1) 8 O_1 := by have z := hu; simp only [Prod.mk.injEq] at z; exact ⟨z.1.symm, z.2.1.symm, z.2.2.1.symm, z.2.2.2⟩
  have hsc : Scr A A_1 := by rw [hA9]; exact Scr.up A _ _
  have hO : ∀ i, i < n → A_1 8 i = L i := fun i h => by rw [hA9, va_up_self]; exact hO i h
  clear hA9 hu
  refine lv_iload_n hx hb dX3_elementAt_4 rfl (lv_at hl 1 rfl) ?_
  refine lv_istore_n (lv' := [(2, .int v1), (0, .ref y), (1, .int v1)]) hx hb dX3_elementAt_5 rfl hl (by decide) rfl (fun ls hl => ?_)
  refine lv_iconst (v := nI 0) hx hb dX3_elementAt_6 (by decide) ?_
  refine lv_istore_n (lv' := [(3, .int (nI 0)), (2, .int v1), (0, .ref y), (1, .int v1)]) hx hb dX3_elementAt_7 rfl hl (by decide) rfl (fun ls hl => ?_)
  suffices hloop : ∀ (fuel : Nat) (k : Nat) (lf : Int32), k ≤ n → n - k < fuel → lf = v1 - nI (vis G k) → (∀ j, j < k → G j = 0 → ¬ nI (vis G j) = v1) → ∀ ls : Array Slot, lv_has ls 4 [(3, .int (nI k)), (2, .int lf), (0, .ref y), (1, .int v1)] → W p l e { frames := 2, cells := 0, slots := 0, locals := 49 } s m [.ref y, .int v1].toArray below meth c H locs 0 0 (MQ below ((fun AA : Nat → Prop => va_Qi (fun r (u : MS) => ((∃ k, k < n ∧ G k = 0 ∧ nI (vis G k) = v1 ∧ r = L k) ∨ ((∀ k, k < n → G k = 0 → ¬ nI (vis G k) = v1) ∧ r = -1)) ∧ u.1 = n ∧ u.2.1 = d ∧ u.2.2.1 = th ∧ Scr A u.2.2.2) (MB D y a cI AA) AA) AA) [.ref y, .int v1].toArray s 0 0 AA) (F0 m 8 ls []) from hloop (n + 1) 0 v1 (by omega) (by omega) (by rw [vis, show (nI 0 : Int32) = 0 from rfl, Int32.sub_zero]) (fun _ h => absurd h (Nat.not_lt_zero _))  ls (lv_sub hl [0, 1, 2, 3] rfl)
  intro fuel
  induction fuel with
  | zero => intro k lf hk hf hlf hI; omega
  | succ fuel ih =>
    intro k lf hk hf hlf hI  ls hl
    refine lv_iload_n hx hb dX3_elementAt_8 rfl (lv_at hl 0 rfl) ?_
    refine lv_aload_n hx hb dX3_elementAt_9 rfl (lv_at hl 2 rfl) ?_
    refine rM_many S hM.rd dX3_elementAt_10 ?_
    refine lv_icmp_ge (tgt := 53) hx hb dX3_elementAt_13 (by decide) (fun c_13 => ?_) (fun c_13 => ?_)
    · rw [nI_leI (by omega) (by omega)] at c_13
      refine lv_iconst (v := (-1)) hx hb dX3_elementAt_53 (by decide) ?_
      exact W.iret (v := (-1)) hx hb hr (fun t9 ht9 hW9 => ⟨⟨_, (n, d, th, A_1), rfl, ⟨Or.inr ⟨fun j hj => hI j (by omega), rfl⟩, ⟨rfl, rfl, rfl, hsc⟩⟩, (hM.out ht9 hW9).1⟩, (hM.out ht9 hW9).2⟩) hM.S.2.2 dX3_elementAt_54
    · rw [nI_leI (by omega) (by omega)] at c_13
      refine lv_iload_n hx hb dX3_elementAt_16 rfl (lv_at hl 3 rfl) ?_
      refine lv_if_lt (tgt := 53) hx hb dX3_elementAt_17 (by decide) (fun c_17 => ?_) (fun c_17 => ?_)
      · refine lv_iconst (v := (-1)) hx hb dX3_elementAt_53 (by decide) ?_
        exact W.iret (v := (-1)) hx hb hr (fun t9 ht9 hW9 => ⟨⟨_, (n, d, th, A_1), rfl, ⟨Or.inr ⟨fun j hj _ e => nI_pos (n := vis G j) (by have := vis_le G j; omega) (by rw [e]; exact c_17), rfl⟩, ⟨rfl, rfl, rfl, hsc⟩⟩, (hM.out ht9 hW9).1⟩, (hM.out ht9 hW9).2⟩) hM.S.2.2 dX3_elementAt_54
      · refine lv_aload_n hx hb dX3_elementAt_20 rfl (lv_at hl 2 rfl) ?_
        refine lv_aload_n hx hb dX3_elementAt_21 rfl (lv_at hl 2 rfl) ?_
        refine rM_order S hM.rd dX3_elementAt_22 ?_
        refine lv_iload_n hx hb dX3_elementAt_25 rfl (lv_at hl 0 rfl) ?_
        refine rM_ald S hM.rd 8 (by decide) (by show _ < 512; omega) dX3_elementAt_26 ?_
        rw [hO k (by omega)]
        refine vp_callSi (va_Run.run (runV (As := [.int (L k)]) (rest := []) (Bh := RdM D y a n d th A_1) S (c_X3_isRemoved l (L k)) (gw_V wk_446 wk_448 wp_26 wk_4 wk_449) rfl rfl 1 rfl (by decide +kernel) (by decide) ⟨Nat.le_refl _, Nat.le_refl _⟩ (fun _ _ _ h q => RdM.mv h q) hM.recv hM.rd hl.1 (Nat.le_of_ble_eq_true rfl) dX3_elementAt_27)) (fun r hr => ?_)
        rw [hsc.rem] at hr
        rcases hr with ⟨h_27, rfl⟩ | ⟨h_27, rfl⟩
        · have g_27 : ¬ G k = 0 := fun z => by rw [(hCo.2.2 _ (by omega)).mp z] at h_27; cases h_27
          refine lv_if_ne (tgt := 47) hx hb dX3_elementAt_30 (by decide) (fun c_30 => ?_) (fun c_30 => ?_)
          · refine lv_iinc (v := nI (k + 1)) (lv' := [(3, .int (nI (k + 1))), (2, .int lf), (0, .ref y), (1, .int v1)]) hx hb dX3_elementAt_47 hl (k := 0) rfl (nI_1 _) (by decide) rfl (fun ls hl => ?_)
            refine lv_goto (tgt := 8) hx hb dX3_elementAt_50 (by decide) ?_
            exact ih (k + 1) _ (by omega) (by omega) (by rw [hlf, vis, if_neg g_27]; rfl) (lt_s hI (fun z => absurd z g_27))  ls (lv_sub hl [0, 1, 2, 3] rfl)
          · exact absurd (show _ from c_30) (by decide)
        · have g_27 : G k = 0 := (hCo.2.2 _ (by omega)).mpr h_27
          refine lv_if_ne (tgt := 47) hx hb dX3_elementAt_30 (by decide) (fun c_30 => ?_) (fun c_30 => ?_)
          · exact absurd (show _ from c_30) (by decide)
          · refine lv_iload_n hx hb dX3_elementAt_33 rfl (lv_at hl 1 rfl) ?_
            refine lv_if_ne (tgt := 44) hx hb dX3_elementAt_34 (by decide) (fun c_34 => ?_) (fun c_34 => ?_)
            · refine lv_iinc (v := (lf + (-1))) (lv' := [(2, .int (lf + (-1))), (3, .int (nI k)), (0, .ref y), (1, .int v1)]) hx hb dX3_elementAt_44 hl (k := 1) rfl (rfl) (by decide) rfl (fun ls hl => ?_)
              refine lv_iinc (v := nI (k + 1)) (lv' := [(3, .int (nI (k + 1))), (2, .int (lf + (-1))), (0, .ref y), (1, .int v1)]) hx hb dX3_elementAt_47 hl (k := 1) rfl (nI_1 _) (by decide) rfl (fun ls hl => ?_)
              refine lv_goto (tgt := 8) hx hb dX3_elementAt_50 (by decide) ?_
              exact ih (k + 1) _ (by omega) (by omega) (by rw [hlf, vis, if_pos g_27]; exact sub_dec _ _) (lt_s hI (fun _ => sub_n0 (by rw [← hlf]; exact c_34)))  ls (lv_sub hl [0, 1, 2, 3] rfl)
            · refine lv_aload_n hx hb dX3_elementAt_37 rfl (lv_at hl 2 rfl) ?_
              refine rM_order S hM.rd dX3_elementAt_38 ?_
              refine lv_iload_n hx hb dX3_elementAt_41 rfl (lv_at hl 0 rfl) ?_
              refine rM_ald S hM.rd 8 (by decide) (by show _ < 512; omega) dX3_elementAt_42 ?_
              rw [hO k (by omega)]
              exact W.iret (v := (L k)) hx hb hr (fun t9 ht9 hW9 => ⟨⟨_, (n, d, th, A_1), rfl, ⟨Or.inl ⟨k, by omega, g_27, sub_0 (by rw [← hlf]; exact c_34), rfl⟩, ⟨rfl, rfl, rfl, hsc⟩⟩, (hM.out ht9 hW9).1⟩, (hM.out ht9 hW9).2⟩) hM.S.2.2 dX3_elementAt_43
set_option maxHeartbeats 4000000 in
set_option maxRecDepth 100000 in
theorem c_X3_at (l : Launch) {D : va_G} {y : Nat} {a : Nat → Nat} {cI : ClassId} {n d : Nat} {th : Int32} {A : Nat → Nat → Int32} {sz : Nat} (v1 : Int32) (v2 : Int32) {L : Nat → Int32} {pp : Nat → Nat} {G : Nat → Int32} (hCo : Cor A n d L pp G) : Met l yX3_at (gws yX3_at cX3_at 4 (some .int)) { frames := 3, cells := 0, slots := 0, locals := 72 } (va_Pc [.ref y, .int v1, .int v2] (fun U => MPre D y a cI n d th A sz U U.heap)) (va_Qi (fun r (u : MS) => ((∃ k, k < n ∧ G k = 0 ∧ nI (vis G k) = v1 ∧ ((v2 = 0 ∧ r = L k) ∨ (v2 = 1 ∧ OfM A n d (L k) 2 6 r) ∨ (v2 = 2 ∧ OfM A n d (L k) 3 7 r) ∨ (v2 = 3 ∧ OfM A n d (L k) 0 4 r)) ∧ u.2.2.1 = 0) ∨ (((∀ k, k < n → G k = 0 → ¬ nI (vis G k) = v1) ∨ (¬ v2 = 0 ∧ ¬ v2 = 1 ∧ ¬ v2 = 2 ∧ ¬ v2 = 3)) ∧ u.2.2.1 = 1)) ∧ u.1 = n ∧ u.2.1 = d ∧ Scr A u.2.2.2) (MB D y a cI (va_A (wM y a cI n d th A) sz)) (va_A (wM y a cI n d th A) sz)) 0 0 (va_A (wM y a cI n d th A) sz) := by
  refine met_mm (QQ := fun AA => va_Qi (fun r (u : MS) => ((∃ k, k < n ∧ G k = 0 ∧ nI (vis G k) = v1 ∧ ((v2 = 0 ∧ r = L k) ∨ (v2 = 1 ∧ OfM A n d (L k) 2 6 r) ∨ (v2 = 2 ∧ OfM A n d (L k) 3 7 r) ∨ (v2 = 3 ∧ OfM A n d (L k) 0 4 r)) ∧ u.2.2.1 = 0) ∨ (((∀ k, k < n → G k = 0 → ¬ nI (vis G k) = v1) ∨ (¬ v2 = 0 ∧ ¬ v2 = 1 ∧ ¬ v2 = 2 ∧ ¬ v2 = 3)) ∧ u.2.2.1 = 1)) ∧ u.1 = n ∧ u.2.1 = d ∧ Scr A u.2.2.2) (MB D y a cI AA) AA) (by decide) (Nat.le_of_ble_eq_true rfl) ?_
  intro p e s m below meth c ls AA S hr hlocks hM hl
  obtain ⟨hx, hb, hml, hown, hg⟩ := id S
  have hl : lv_has ls 4 [(0, .ref y), (1, .int v1), (2, .int v2)] := hl
  have hn := hM.bd
  suffices key9 : ∀ (H : Heap) (locs : List Loc), MM D y a cI n d th A AA s.heap s H locs → W p l e { frames := 3, cells := 0, slots := 0, locals := 72 } s m [.ref y, .int v1, .int v2].toArray below meth c H locs 0 0 (MQ below ((fun AA : Nat → Prop => va_Qi (fun r (u : MS) => ((∃ k, k < n ∧ G k = 0 ∧ nI (vis G k) = v1 ∧ ((v2 = 0 ∧ r = L k) ∨ (v2 = 1 ∧ OfM A n d (L k) 2 6 r) ∨ (v2 = 2 ∧ OfM A n d (L k) 3 7 r) ∨ (v2 = 3 ∧ OfM A n d (L k) 0 4 r)) ∧ u.2.2.1 = 0) ∨ (((∀ k, k < n → G k = 0 → ¬ nI (vis G k) = v1) ∨ (¬ v2 = 0 ∧ ¬ v2 = 1 ∧ ¬ v2 = 2 ∧ ¬ v2 = 3)) ∧ u.2.2.1 = 1)) ∧ u.1 = n ∧ u.2.1 = d ∧ Scr A u.2.2.2) (MB D y a cI AA) AA) AA) [.ref y, .int v1, .int v2].toArray s 0 0 AA) (F0 m 0 ls []) from key9 _ _ hM
  clear hM
  intro H locs hM
  refine lv_aload_n hx hb dX3_at_0 rfl (lv_at hl 0 rfl) ?_
  refine lv_iload_n hx hb dX3_at_1 rfl (lv_at hl 1 rfl) ?_
  refine va_calli (runV (As := [.int v1]) (rest := []) (Bh := MPre D y a cI n d th A H.size) S (c_X3_elementAt l v1 hCo) (gw_V wk_454 wk_456 wp_27 wk_4 wk_457) rfl rfl 1 rfl (by decide +kernel) (by decide) ⟨Nat.le_refl _, Nat.le_refl _⟩ (fun _ _ _ h q => MPre.mv h q) hM.recv hM.pre hl.1 (Nat.le_of_ble_eq_true rfl) dX3_at_2) hM.S (fun q _ h => hM.free q h) hM.free (fun r_2 u8 t8 H1 locs1 ht8 hvm8 hp hB8 hz8 hk8 hS8 => ?_)
  obtain ⟨n_2, d_2, th_2, A_2⟩ := u8
  have hM := hM.back ht8 hB8 hS8
  generalize H1 = H at hM ⊢
  generalize locs1 = locs at hM ⊢
  dsimp only at hp hM
  obtain ⟨hp, hu1, hu2, hu3, hsc⟩ := hp
  obtain rfl := hu1.symm
  obtain rfl := hu2.symm
  obtain rfl := hu3.symm
  rcases hp with ⟨k_2, hk_2, hg_2, he_2, rfl⟩ | ⟨hn_2, rfl⟩
  · refine lv_istore_n (lv' := [(3, .int (L k_2)), (0, .ref y), (1, .int v1), (2, .int v2)]) hx hb dX3_at_5 rfl hl (by decide) rfl (fun ls hl => ?_)
    refine lv_aload_n hx hb dX3_at_6 rfl (lv_at hl 1 rfl) ?_
    refine lv_iload_n hx hb dX3_at_7 rfl (lv_at hl 0 rfl) ?_
    refine lv_if_lt (tgt := 20) hx hb dX3_at_8 (by decide) (fun c_8 => ?_) (fun c_8 => ?_)
    · exact absurd c_8 (hCo.2.1 _ hk_2)
    · refine lv_iload_n hx hb dX3_at_11 rfl (lv_at hl 3 rfl) ?_
      refine lv_if_lt (tgt := 20) hx hb dX3_at_12 (by decide) (fun c_12 => ?_) (fun c_12 => ?_)
      · refine lv_iconst (v := 1) hx hb dX3_at_20 (by decide) ?_
        refine lv_goto (tgt := 25) hx hb dX3_at_21 (by decide) ?_
        refine mw_thrown S hM dX3_at_25 (fun H locs hM => ?_)
        refine lv_aload_n hx hb dX3_at_28 rfl (lv_at hl 1 rfl) ?_
        refine rM_thrown S hM.rd dX3_at_29 ?_
        refine lv_if_le (tgt := 39) hx hb dX3_at_32 (by decide) (fun c_32 => ?_) (fun c_32 => ?_)
        · exact absurd (show _ from c_32) (by decide)
        · refine lv_iconst (v := 0) hx hb dX3_at_35 (by decide) ?_
          refine lv_goto (tgt := 78) hx hb dX3_at_36 (by decide) ?_
          exact W.iret (v := 0) hx hb hr (fun t9 ht9 hW9 => ⟨⟨_, (n, d, 1, A_2), rfl, ⟨Or.inr ⟨Or.inr (i32_not03 (Or.inl c_12)), rfl⟩, ⟨rfl, rfl, hsc⟩⟩, (hM.out ht9 hW9).1⟩, (hM.out ht9 hW9).2⟩) hM.S.2.2 dX3_at_78
      · refine lv_iload_n hx hb dX3_at_15 rfl (lv_at hl 3 rfl) ?_
        refine lv_iconst (v := 3) hx hb dX3_at_16 (by decide) ?_
        refine lv_icmp_le (tgt := 24) hx hb dX3_at_17 (by decide) (fun c_17 => ?_) (fun c_17 => ?_)
        · refine lv_iconst (v := 0) hx hb dX3_at_24 (by decide) ?_
          refine mw_thrown S hM dX3_at_25 (fun H locs hM => ?_)
          refine lv_aload_n hx hb dX3_at_28 rfl (lv_at hl 1 rfl) ?_
          refine rM_thrown S hM.rd dX3_at_29 ?_
          refine lv_if_le (tgt := 39) hx hb dX3_at_32 (by decide) (fun c_32 => ?_) (fun c_32 => ?_)
          · refine lv_iload_n hx hb dX3_at_39 rfl (lv_at hl 3 rfl) ?_
            refine lv_if_ne (tgt := 47) hx hb dX3_at_40 (by decide) (fun c_40 => ?_) (fun c_40 => ?_)
            · refine lv_iload_n hx hb dX3_at_47 rfl (lv_at hl 3 rfl) ?_
              refine lv_iconst (v := 1) hx hb dX3_at_48 (by decide) ?_
              refine lv_icmp_ne (tgt := 60) hx hb dX3_at_49 (by decide) (fun c_49 => ?_) (fun c_49 => ?_)
              · refine lv_iload_n hx hb dX3_at_60 rfl (lv_at hl 3 rfl) ?_
                refine lv_iconst (v := 2) hx hb dX3_at_61 (by decide) ?_
                refine lv_icmp_ne (tgt := 73) hx hb dX3_at_62 (by decide) (fun c_62 => ?_) (fun c_62 => ?_)
                · refine lv_aload_n hx hb dX3_at_73 rfl (lv_at hl 1 rfl) ?_
                  refine lv_iload_n hx hb dX3_at_74 rfl (lv_at hl 0 rfl) ?_
                  refine vp_callSi (va_Run.run (runV (As := [.int (L k_2)]) (rest := []) (Bh := RdM D y a n d 0 A_2) S (c_X3_idStanding l (L k_2) (by rw [hsc 0 (by decide)]; exact hCo.ex' hk_2)) (gw_V wk_478 wk_480 wp_33 wk_4 wk_481) rfl rfl 1 rfl (by decide +kernel) (by decide) ⟨Nat.le_refl _, Nat.le_refl _⟩ (fun _ _ _ h q => RdM.mv h q) hM.recv hM.rd hl.1 (Nat.le_of_ble_eq_true rfl) dX3_at_75)) (fun r_75 hr_75 => ?_)
                  exact W.iret (v := r_75) hx hb hr (fun t9 ht9 hW9 => ⟨⟨_, (n, d, 0, A_2), rfl, ⟨Or.inl ⟨k_2, hk_2, hg_2, he_2, Or.inr (Or.inr (Or.inr (⟨i32_3 c_12 c_17 c_40 c_49 c_62, hsc.of (by decide) (by decide) hr_75⟩))), rfl⟩, ⟨rfl, rfl, hsc⟩⟩, (hM.out ht9 hW9).1⟩, (hM.out ht9 hW9).2⟩) hM.S.2.2 dX3_at_78
                · refine lv_aload_n hx hb dX3_at_65 rfl (lv_at hl 1 rfl) ?_
                  refine lv_iload_n hx hb dX3_at_66 rfl (lv_at hl 0 rfl) ?_
                  refine vp_callSi (va_Run.run (runV (As := [.int (L k_2)]) (rest := []) (Bh := RdM D y a n d 0 A_2) S (c_X3_valueOf l (L k_2) (by rw [hsc 0 (by decide)]; exact hCo.ex' hk_2)) (gw_V wk_474 wk_476 wp_32 wk_4 wk_477) rfl rfl 1 rfl (by decide +kernel) (by decide) ⟨Nat.le_refl _, Nat.le_refl _⟩ (fun _ _ _ h q => RdM.mv h q) hM.recv hM.rd hl.1 (Nat.le_of_ble_eq_true rfl) dX3_at_67)) (fun r_67 hr_67 => ?_)
                  refine lv_goto (tgt := 78) hx hb dX3_at_70 (by decide) ?_
                  exact W.iret (v := r_67) hx hb hr (fun t9 ht9 hW9 => ⟨⟨_, (n, d, 0, A_2), rfl, ⟨Or.inl ⟨k_2, hk_2, hg_2, he_2, Or.inr (Or.inr (Or.inl (⟨c_62, hsc.of (by decide) (by decide) hr_67⟩))), rfl⟩, ⟨rfl, rfl, hsc⟩⟩, (hM.out ht9 hW9).1⟩, (hM.out ht9 hW9).2⟩) hM.S.2.2 dX3_at_78
              · refine lv_aload_n hx hb dX3_at_52 rfl (lv_at hl 1 rfl) ?_
                refine lv_iload_n hx hb dX3_at_53 rfl (lv_at hl 0 rfl) ?_
                refine vp_callSi (va_Run.run (runV (As := [.int (L k_2)]) (rest := []) (Bh := RdM D y a n d 0 A_2) S (c_X3_kindOf l (L k_2) (by rw [hsc 0 (by decide)]; exact hCo.ex' hk_2)) (gw_V wk_466 wk_468 wp_30 wk_4 wk_469) rfl rfl 1 rfl (by decide +kernel) (by decide) ⟨Nat.le_refl _, Nat.le_refl _⟩ (fun _ _ _ h q => RdM.mv h q) hM.recv hM.rd hl.1 (Nat.le_of_ble_eq_true rfl) dX3_at_54)) (fun r_54 hr_54 => ?_)
                refine lv_goto (tgt := 78) hx hb dX3_at_57 (by decide) ?_
                exact W.iret (v := r_54) hx hb hr (fun t9 ht9 hW9 => ⟨⟨_, (n, d, 0, A_2), rfl, ⟨Or.inl ⟨k_2, hk_2, hg_2, he_2, Or.inr (Or.inl (⟨c_49, hsc.of (by decide) (by decide) hr_54⟩)), rfl⟩, ⟨rfl, rfl, hsc⟩⟩, (hM.out ht9 hW9).1⟩, (hM.out ht9 hW9).2⟩) hM.S.2.2 dX3_at_78
            · refine lv_iload_n hx hb dX3_at_43 rfl (lv_at hl 0 rfl) ?_
              refine lv_goto (tgt := 78) hx hb dX3_at_44 (by decide) ?_
              exact W.iret (v := (L k_2)) hx hb hr (fun t9 ht9 hW9 => ⟨⟨_, (n, d, 0, A_2), rfl, ⟨Or.inl ⟨k_2, hk_2, hg_2, he_2, Or.inl (⟨c_40, rfl⟩), rfl⟩, ⟨rfl, rfl, hsc⟩⟩, (hM.out ht9 hW9).1⟩, (hM.out ht9 hW9).2⟩) hM.S.2.2 dX3_at_78
          · exact absurd (show _ from c_32) (by decide)
        · refine lv_iconst (v := 1) hx hb dX3_at_20 (by decide) ?_
          refine lv_goto (tgt := 25) hx hb dX3_at_21 (by decide) ?_
          refine mw_thrown S hM dX3_at_25 (fun H locs hM => ?_)
          refine lv_aload_n hx hb dX3_at_28 rfl (lv_at hl 1 rfl) ?_
          refine rM_thrown S hM.rd dX3_at_29 ?_
          refine lv_if_le (tgt := 39) hx hb dX3_at_32 (by decide) (fun c_32 => ?_) (fun c_32 => ?_)
          · exact absurd (show _ from c_32) (by decide)
          · refine lv_iconst (v := 0) hx hb dX3_at_35 (by decide) ?_
            refine lv_goto (tgt := 78) hx hb dX3_at_36 (by decide) ?_
            exact W.iret (v := 0) hx hb hr (fun t9 ht9 hW9 => ⟨⟨_, (n, d, 1, A_2), rfl, ⟨Or.inr ⟨Or.inr (i32_not03 (Or.inr c_17)), rfl⟩, ⟨rfl, rfl, hsc⟩⟩, (hM.out ht9 hW9).1⟩, (hM.out ht9 hW9).2⟩) hM.S.2.2 dX3_at_78
  · refine lv_istore_n (lv' := [(3, .int (-1)), (0, .ref y), (1, .int v1), (2, .int v2)]) hx hb dX3_at_5 rfl hl (by decide) rfl (fun ls hl => ?_)
    refine lv_aload_n hx hb dX3_at_6 rfl (lv_at hl 1 rfl) ?_
    refine lv_iload_n hx hb dX3_at_7 rfl (lv_at hl 0 rfl) ?_
    refine lv_if_lt (tgt := 20) hx hb dX3_at_8 (by decide) (fun c_8 => ?_) (fun c_8 => ?_)
    · refine lv_iconst (v := 1) hx hb dX3_at_20 (by decide) ?_
      refine lv_goto (tgt := 25) hx hb dX3_at_21 (by decide) ?_
      refine mw_thrown S hM dX3_at_25 (fun H locs hM => ?_)
      refine lv_aload_n hx hb dX3_at_28 rfl (lv_at hl 1 rfl) ?_
      refine rM_thrown S hM.rd dX3_at_29 ?_
      refine lv_if_le (tgt := 39) hx hb dX3_at_32 (by decide) (fun c_32 => ?_) (fun c_32 => ?_)
      · exact absurd (show _ from c_32) (by decide)
      · refine lv_iconst (v := 0) hx hb dX3_at_35 (by decide) ?_
        refine lv_goto (tgt := 78) hx hb dX3_at_36 (by decide) ?_
        exact W.iret (v := 0) hx hb hr (fun t9 ht9 hW9 => ⟨⟨_, (n, d, 1, A_2), rfl, ⟨Or.inr ⟨Or.inl hn_2, rfl⟩, ⟨rfl, rfl, hsc⟩⟩, (hM.out ht9 hW9).1⟩, (hM.out ht9 hW9).2⟩) hM.S.2.2 dX3_at_78
    · exact absurd (show _ from c_8) (by decide)
set_option maxHeartbeats 4000000 in
set_option maxRecDepth 100000 in
theorem c_X3_aheadOf (l : Launch) {D : va_G} {y : Nat} {a : Nat → Nat} {cI : ClassId} {n d : Nat} {th : Int32} {A : Nat → Nat → Int32} {sz : Nat} (v1 : Int32) {L : Nat → Int32} {pp : Nat → Nat} {G : Nat → Int32} (hCo : Cor A n d L pp G) (hex : ∃ k, k < n ∧ L k = v1) : Met l yX3_aheadOf (gws yX3_aheadOf cX3_aheadOf 4 (some .int)) { frames := 2, cells := 0, slots := 0, locals := 49 } (va_Pc [.ref y, .int v1] (fun U => MPre D y a cI n d th A sz U U.heap)) (va_Qi (fun r (u : MS) => (∃ k, k < n ∧ L k = v1 ∧ r = nI (vis G k)) ∧ u.1 = n ∧ u.2.1 = d ∧ u.2.2.1 = th ∧ Scr A u.2.2.2) (MB D y a cI (va_A (wM y a cI n d th A) sz)) (va_A (wM y a cI n d th A) sz)) 0 0 (va_A (wM y a cI n d th A) sz) := by
  refine met_mm (QQ := fun AA => va_Qi (fun r (u : MS) => (∃ k, k < n ∧ L k = v1 ∧ r = nI (vis G k)) ∧ u.1 = n ∧ u.2.1 = d ∧ u.2.2.1 = th ∧ Scr A u.2.2.2) (MB D y a cI AA) AA) (by decide) (Nat.le_of_ble_eq_true rfl) ?_
  intro p e s m below meth c ls AA S hr hlocks hM hl
  obtain ⟨hx, hb, hml, hown, hg⟩ := id S
  have hl : lv_has ls 4 [(0, .ref y), (1, .int v1)] := hl
  have hn := hM.bd
  suffices key9 : ∀ (H : Heap) (locs : List Loc), MM D y a cI n d th A AA s.heap s H locs → W p l e { frames := 2, cells := 0, slots := 0, locals := 49 } s m [.ref y, .int v1].toArray below meth c H locs 0 0 (MQ below ((fun AA : Nat → Prop => va_Qi (fun r (u : MS) => (∃ k, k < n ∧ L k = v1 ∧ r = nI (vis G k)) ∧ u.1 = n ∧ u.2.1 = d ∧ u.2.2.1 = th ∧ Scr A u.2.2.2) (MB D y a cI AA) AA) AA) [.ref y, .int v1].toArray s 0 0 AA) (F0 m 0 ls []) from key9 _ _ hM
  clear hM
  intro H locs hM
  refine lv_aload_n hx hb dX3_aheadOf_0 rfl (lv_at hl 0 rfl) ?_
  refine va_callv (runV (As := []) (rest := []) (Bh := MPre D y a cI n d th A H.size) S (c_X3_weave l hCo.1) (gw_V wk_458 wk_460 wp_28 wk_4 wk_461) rfl rfl 0 rfl (by decide +kernel) (by decide) ⟨Nat.le_refl _, Nat.le_refl _⟩ (fun _ _ _ h q => MPre.mv h q) hM.recv hM.pre hl.1 (Nat.le_of_ble_eq_true rfl) dX3_aheadOf_1) hM.S (fun q _ h => hM.free q h) hM.free (fun u8 t8 H1 locs1 ht8 hvm8 hp hB8 hz8 hk8 hS8 => ?_)
  obtain ⟨n_1, d_1, th_1, A_1⟩ := u8
  have hM := hM.back ht8 hB8 hS8
  generalize H1 = H at hM ⊢
  generalize locs1 = locs at hM ⊢
  dsimp only at hp hM
  obtain ⟨T_1, O_1, hu, hO⟩ := hp
  obtain ⟨rfl, rfl, rfl, hA9⟩ : n = n_1 ∧ d = d_1 ∧ th = th_1 ∧ A_1 = va_up (va_up A 9 T_1) 8 O_1 := by have z := hu; simp only [Prod.mk.injEq] at z; exact ⟨z.1.symm, z.2.1.symm, z.2.2.1.symm, z.2.2.2⟩
  have hsc : Scr A A_1 := by rw [hA9]; exact Scr.up A _ _
  have hO : ∀ i, i < n → A_1 8 i = L i := fun i h => by rw [hA9, va_up_self]; exact hO i h
  clear hA9 hu
  refine lv_iconst (v := nI 0) hx hb dX3_aheadOf_4 (by decide) ?_
  refine lv_istore_n (lv' := [(2, .int (nI 0)), (0, .ref y), (1, .int v1)]) hx hb dX3_aheadOf_5 rfl hl (by decide) rfl (fun ls hl => ?_)
  refine lv_iconst (v := nI 0) hx hb dX3_aheadOf_6 (by decide) ?_
  refine lv_istore_n (lv' := [(3, .int (nI 0)), (2, .int (nI 0)), (0, .ref y), (1, .int v1)]) hx hb dX3_aheadOf_7 rfl hl (by decide) rfl (fun ls hl => ?_)
  suffices hloop : ∀ (fuel : Nat) (k q : Nat), n - k < fuel → q = vis G k → (∀ j, j < k → ¬ L j = v1) → ∀ ls : Array Slot, lv_has ls 4 [(3, .int (nI k)), (2, .int (nI q)), (0, .ref y), (1, .int v1)] → W p l e { frames := 2, cells := 0, slots := 0, locals := 49 } s m [.ref y, .int v1].toArray below meth c H locs 0 0 (MQ below ((fun AA : Nat → Prop => va_Qi (fun r (u : MS) => (∃ k, k < n ∧ L k = v1 ∧ r = nI (vis G k)) ∧ u.1 = n ∧ u.2.1 = d ∧ u.2.2.1 = th ∧ Scr A u.2.2.2) (MB D y a cI AA) AA) AA) [.ref y, .int v1].toArray s 0 0 AA) (F0 m 8 ls []) from hloop (n + 1) 0 0 (by omega) rfl (fun _ h => absurd h (Nat.not_lt_zero _))  ls (lv_sub hl [0, 1, 2, 3] rfl)
  intro fuel
  induction fuel with
  | zero => intro k q hf hq hI; omega
  | succ fuel ih =>
    intro k q hf hq hI  ls hl
    have hkn : k < n := by
      obtain ⟨k0, h0, e0⟩ := hex
      rcases Nat.lt_or_ge k0 k with y9 | y9
      · exact absurd e0 (hI k0 y9)
      · omega
    refine lv_aload_n hx hb dX3_aheadOf_8 rfl (lv_at hl 2 rfl) ?_
    refine rM_order S hM.rd dX3_aheadOf_9 ?_
    refine lv_iload_n hx hb dX3_aheadOf_12 rfl (lv_at hl 0 rfl) ?_
    refine rM_ald S hM.rd 8 (by decide) (by show _ < 512; omega) dX3_aheadOf_13 ?_
    rw [hO k (by omega)]
    refine lv_iload_n hx hb dX3_aheadOf_14 rfl (lv_at hl 3 rfl) ?_
    refine lv_icmp_eq (tgt := 45) hx hb dX3_aheadOf_15 (by decide) (fun c_15 => ?_) (fun c_15 => ?_)
    · refine lv_iload_n hx hb dX3_aheadOf_45 rfl (lv_at hl 1 rfl) ?_
      exact W.iret (v := (nI q)) hx hb hr (fun t9 ht9 hW9 => ⟨⟨_, (n, d, th, A_1), rfl, ⟨⟨k, hkn, c_15, by rw [hq]⟩, ⟨rfl, rfl, rfl, hsc⟩⟩, (hM.out ht9 hW9).1⟩, (hM.out ht9 hW9).2⟩) hM.S.2.2 dX3_aheadOf_46
    · refine lv_iload_n hx hb dX3_aheadOf_18 rfl (lv_at hl 1 rfl) ?_
      refine lv_aload_n hx hb dX3_aheadOf_19 rfl (lv_at hl 2 rfl) ?_
      refine lv_aload_n hx hb dX3_aheadOf_20 rfl (lv_at hl 2 rfl) ?_
      refine rM_order S hM.rd dX3_aheadOf_21 ?_
      refine lv_iload_n hx hb dX3_aheadOf_24 rfl (lv_at hl 0 rfl) ?_
      refine rM_ald S hM.rd 8 (by decide) (by show _ < 512; omega) dX3_aheadOf_25 ?_
      rw [hO k (by omega)]
      refine vp_callSi (va_Run.run (runV (As := [.int (L k)]) (rest := [.int (nI q)]) (Bh := RdM D y a n d th A_1) S (c_X3_isRemoved l (L k)) (gw_V wk_446 wk_448 wp_26 wk_4 wk_449) rfl rfl 1 rfl (by decide +kernel) (by decide) ⟨Nat.le_refl _, Nat.le_refl _⟩ (fun _ _ _ h q => RdM.mv h q) hM.recv hM.rd hl.1 (Nat.le_of_ble_eq_true rfl) dX3_aheadOf_26)) (fun r hr => ?_)
      rw [hsc.rem] at hr
      rcases hr with ⟨h_26, rfl⟩ | ⟨h_26, rfl⟩
      · have g_26 : ¬ G k = 0 := fun z => by rw [(hCo.2.2 _ (by omega)).mp z] at h_26; cases h_26
        refine lv_if_eq (tgt := 36) hx hb dX3_aheadOf_29 (by decide) (fun c_29 => ?_) (fun c_29 => ?_)
        · exact absurd (show _ from c_29) (by decide)
        · refine lv_iconst (v := nI 0) hx hb dX3_aheadOf_32 (by decide) ?_
          refine lv_goto (tgt := 37) hx hb dX3_aheadOf_33 (by decide) ?_
          refine lv_iadd hx hb dX3_aheadOf_37 ?_
          rw [nI_add, Nat.add_zero]
          refine lv_istore_n (lv' := [(2, .int (nI q)), (3, .int (nI k)), (0, .ref y), (1, .int v1)]) hx hb dX3_aheadOf_38 rfl hl (by decide) rfl (fun ls hl => ?_)
          refine lv_iinc (v := nI (k + 1)) (lv' := [(3, .int (nI (k + 1))), (2, .int (nI q)), (0, .ref y), (1, .int v1)]) hx hb dX3_aheadOf_39 hl (k := 1) rfl (nI_1 _) (by decide) rfl (fun ls hl => ?_)
          refine lv_goto (tgt := 8) hx hb dX3_aheadOf_42 (by decide) ?_
          exact ih (k + 1) q (by omega) (vis_n hq g_26) (lt_s hI c_15)  ls (lv_sub hl [0, 1, 2, 3] rfl)
      · have g_26 : G k = 0 := (hCo.2.2 _ (by omega)).mpr h_26
        refine lv_if_eq (tgt := 36) hx hb dX3_aheadOf_29 (by decide) (fun c_29 => ?_) (fun c_29 => ?_)
        · refine lv_iconst (v := nI 1) hx hb dX3_aheadOf_36 (by decide) ?_
          refine lv_iadd hx hb dX3_aheadOf_37 ?_
          rw [nI_add]
          refine lv_istore_n (lv' := [(2, .int (nI (q + 1))), (3, .int (nI k)), (0, .ref y), (1, .int v1)]) hx hb dX3_aheadOf_38 rfl hl (by decide) rfl (fun ls hl => ?_)
          refine lv_iinc (v := nI (k + 1)) (lv' := [(3, .int (nI (k + 1))), (2, .int (nI (q + 1))), (0, .ref y), (1, .int v1)]) hx hb dX3_aheadOf_39 hl (k := 1) rfl (nI_1 _) (by decide) rfl (fun ls hl => ?_)
          refine lv_goto (tgt := 8) hx hb dX3_aheadOf_42 (by decide) ?_
          exact ih (k + 1) (q + 1) (by omega) (vis_s hq g_26) (lt_s hI c_15)  ls (lv_sub hl [0, 1, 2, 3] rfl)
        · exact absurd (show _ from c_29) (by decide)
set_option maxHeartbeats 4000000 in
set_option maxRecDepth 100000 in
theorem c_X3_place (l : Launch) {D : va_G} {y : Nat} {a : Nat → Nat} {cI : ClassId} {n d : Nat} {th : Int32} {A : Nat → Nat → Int32} {sz : Nat} (v1 : Int32) {L : Nat → Int32} {pp : Nat → Nat} {G : Nat → Int32} (hCo : Cor A n d L pp G) : Met l yX3_place (gws yX3_place cX3_place 2 (some .int)) { frames := 3, cells := 0, slots := 0, locals := 72 } (va_Pc [.ref y, .int v1] (fun U => MPre D y a cI n d th A sz U U.heap)) (va_Qi (fun r (u : MS) => ((∃ k, k < n ∧ L k = v1 ∧ remB A v1 d = false ∧ r = nI (vis G k)) ∨ (((∀ k, k < n → ¬ L k = v1) ∨ remB A v1 d = true) ∧ r = -1)) ∧ u.1 = n ∧ u.2.1 = d ∧ u.2.2.1 = 0 ∧ Scr A u.2.2.2) (MB D y a cI (va_A (wM y a cI n d th A) sz)) (va_A (wM y a cI n d th A) sz)) 0 0 (va_A (wM y a cI n d th A) sz) := by
  refine met_mm (QQ := fun AA => va_Qi (fun r (u : MS) => ((∃ k, k < n ∧ L k = v1 ∧ remB A v1 d = false ∧ r = nI (vis G k)) ∨ (((∀ k, k < n → ¬ L k = v1) ∨ remB A v1 d = true) ∧ r = -1)) ∧ u.1 = n ∧ u.2.1 = d ∧ u.2.2.1 = 0 ∧ Scr A u.2.2.2) (MB D y a cI AA) AA) (by decide) (Nat.le_of_ble_eq_true rfl) ?_
  intro p e s m below meth c ls AA S hr hlocks hM hl
  obtain ⟨hx, hb, hml, hown, hg⟩ := id S
  have hl : lv_has ls 2 [(0, .ref y), (1, .int v1)] := hl
  have hn := hM.bd
  suffices key9 : ∀ (H : Heap) (locs : List Loc), MM D y a cI n d th A AA s.heap s H locs → W p l e { frames := 3, cells := 0, slots := 0, locals := 72 } s m [.ref y, .int v1].toArray below meth c H locs 0 0 (MQ below ((fun AA : Nat → Prop => va_Qi (fun r (u : MS) => ((∃ k, k < n ∧ L k = v1 ∧ remB A v1 d = false ∧ r = nI (vis G k)) ∨ (((∀ k, k < n → ¬ L k = v1) ∨ remB A v1 d = true) ∧ r = -1)) ∧ u.1 = n ∧ u.2.1 = d ∧ u.2.2.1 = 0 ∧ Scr A u.2.2.2) (MB D y a cI AA) AA) AA) [.ref y, .int v1].toArray s 0 0 AA) (F0 m 0 ls []) from key9 _ _ hM
  clear hM
  intro H locs hM
  refine lv_aload_n hx hb dX3_place_0 rfl (lv_at hl 0 rfl) ?_
  refine lv_iconst (v := 0) hx hb dX3_place_1 (by decide) ?_
  refine mw_thrown S hM dX3_place_2 (fun H locs hM => ?_)
  refine lv_aload_n hx hb dX3_place_5 rfl (lv_at hl 0 rfl) ?_
  refine lv_iload_n hx hb dX3_place_6 rfl (lv_at hl 1 rfl) ?_
  refine vp_callSi (va_Run.run (runV (As := [.int v1]) (rest := []) (Bh := RdM D y a n d 0 A) S (c_X3_placeOf l v1) (gw_V wk_410 wk_412 wp_22 wk_4 wk_413) rfl rfl 1 rfl (by decide +kernel) (by decide) ⟨Nat.le_refl _, Nat.le_refl _⟩ (fun _ _ _ h q => RdM.mv h q) hM.recv hM.rd hl.1 (Nat.le_of_ble_eq_true rfl) dX3_place_7)) (fun r hr => ?_)
  rcases hr with ⟨k_7, hk_7, he_7, hf_7, rfl⟩ | ⟨hn_7, rfl⟩
  · refine lv_if_lt (tgt := 21) hx hb dX3_place_10 (by decide) (fun c_10 => ?_) (fun c_10 => ?_)
    · exact absurd c_10 (nI_pos (by omega))
    · refine lv_aload_n hx hb dX3_place_13 rfl (lv_at hl 0 rfl) ?_
      refine lv_iload_n hx hb dX3_place_14 rfl (lv_at hl 1 rfl) ?_
      refine vp_callSi (va_Run.run (runV (As := [.int v1]) (rest := []) (Bh := RdM D y a n d 0 A) S (c_X3_isRemoved l v1) (gw_V wk_446 wk_448 wp_26 wk_4 wk_449) rfl rfl 1 rfl (by decide +kernel) (by decide) ⟨Nat.le_refl _, Nat.le_refl _⟩ (fun _ _ _ h q => RdM.mv h q) hM.recv hM.rd hl.1 (Nat.le_of_ble_eq_true rfl) dX3_place_15)) (fun r hr => ?_)
      rcases hr with ⟨h_15, rfl⟩ | ⟨h_15, rfl⟩
      · refine lv_if_eq (tgt := 25) hx hb dX3_place_18 (by decide) (fun c_18 => ?_) (fun c_18 => ?_)
        · exact absurd (show _ from c_18) (by decide)
        · refine lv_iconst (v := (-1)) hx hb dX3_place_21 (by decide) ?_
          refine lv_goto (tgt := 30) hx hb dX3_place_22 (by decide) ?_
          exact W.iret (v := (-1)) hx hb hr (fun t9 ht9 hW9 => ⟨⟨_, (n, d, 0, A), rfl, ⟨Or.inr ⟨Or.inr h_15, rfl⟩, rfl, rfl, rfl, (fun _ _ => rfl)⟩, (hM.out ht9 hW9).1⟩, (hM.out ht9 hW9).2⟩) hM.S.2.2 dX3_place_30
      · refine lv_if_eq (tgt := 25) hx hb dX3_place_18 (by decide) (fun c_18 => ?_) (fun c_18 => ?_)
        · refine lv_aload_n hx hb dX3_place_25 rfl (lv_at hl 0 rfl) ?_
          refine lv_iload_n hx hb dX3_place_26 rfl (lv_at hl 1 rfl) ?_
          refine va_calli (runV (As := [.int v1]) (rest := []) (Bh := MPre D y a cI n d 0 A H.size) S (c_X3_aheadOf l v1 hCo (hCo.ex hk_7 he_7)) (gw_V wk_486 wk_488 wp_34 wk_4 wk_489) rfl rfl 1 rfl (by decide +kernel) (by decide) ⟨Nat.le_refl _, Nat.le_refl _⟩ (fun _ _ _ h q => MPre.mv h q) hM.recv hM.pre hl.1 (Nat.le_of_ble_eq_true rfl) dX3_place_27) hM.S (fun q _ h => hM.free q h) hM.free (fun r_27 u8 t8 H1 locs1 ht8 hvm8 hp hB8 hz8 hk8 hS8 => ?_)
          obtain ⟨n_27, d_27, th_27, A_27⟩ := u8
          have hM := hM.back ht8 hB8 hS8
          generalize H1 = H at hM ⊢
          generalize locs1 = locs at hM ⊢
          dsimp only at hp hM
          obtain ⟨hp, hu1, hu2, hu3, hsc⟩ := hp
          obtain rfl := hu1.symm
          obtain rfl := hu2.symm
          obtain rfl := hu3.symm
          obtain ⟨k_27, hk_27, he_27, rfl⟩ := hp
          exact W.iret (v := (nI (vis G k_27))) hx hb hr (fun t9 ht9 hW9 => ⟨⟨_, (n, d, 0, A_27), rfl, ⟨Or.inl ⟨k_27, hk_27, he_27, h_15, rfl⟩, ⟨rfl, rfl, rfl, hsc⟩⟩, (hM.out ht9 hW9).1⟩, (hM.out ht9 hW9).2⟩) hM.S.2.2 dX3_place_30
        · exact absurd (show _ from c_18) (by decide)
  · refine lv_if_lt (tgt := 21) hx hb dX3_place_10 (by decide) (fun c_10 => ?_) (fun c_10 => ?_)
    · refine lv_iconst (v := (-1)) hx hb dX3_place_21 (by decide) ?_
      refine lv_goto (tgt := 30) hx hb dX3_place_22 (by decide) ?_
      exact W.iret (v := (-1)) hx hb hr (fun t9 ht9 hW9 => ⟨⟨_, (n, d, 0, A), rfl, ⟨Or.inr ⟨Or.inl (hCo.no hn_7), rfl⟩, rfl, rfl, rfl, (fun _ _ => rfl)⟩, (hM.out ht9 hW9).1⟩, (hM.out ht9 hW9).2⟩) hM.S.2.2 dX3_place_30
    · exact absurd (show _ from c_10) (by decide)
set_option maxHeartbeats 4000000 in
set_option maxRecDepth 100000 in
theorem c_X3_ahead (l : Launch) {D : va_G} {y : Nat} {a : Nat → Nat} {cI : ClassId} {n d : Nat} {th : Int32} {A : Nat → Nat → Int32} {sz : Nat} (v1 : Int32) {L : Nat → Int32} {pp : Nat → Nat} {G : Nat → Int32} (hCo : Cor A n d L pp G) : Met l yX3_ahead (gws yX3_ahead cX3_ahead 2 (some .int)) { frames := 3, cells := 0, slots := 0, locals := 72 } (va_Pc [.ref y, .int v1] (fun U => MPre D y a cI n d th A sz U U.heap)) (va_Qi (fun r (u : MS) => ((∃ k, k < n ∧ L k = v1 ∧ r = nI (vis G k) ∧ u.2.2.1 = 0) ∨ ((∀ k, k < n → ¬ L k = v1) ∧ u.2.2.1 = 1)) ∧ u.1 = n ∧ u.2.1 = d ∧ Scr A u.2.2.2) (MB D y a cI (va_A (wM y a cI n d th A) sz)) (va_A (wM y a cI n d th A) sz)) 0 0 (va_A (wM y a cI n d th A) sz) := by
  refine met_mm (QQ := fun AA => va_Qi (fun r (u : MS) => ((∃ k, k < n ∧ L k = v1 ∧ r = nI (vis G k) ∧ u.2.2.1 = 0) ∨ ((∀ k, k < n → ¬ L k = v1) ∧ u.2.2.1 = 1)) ∧ u.1 = n ∧ u.2.1 = d ∧ Scr A u.2.2.2) (MB D y a cI AA) AA) (by decide) (Nat.le_of_ble_eq_true rfl) ?_
  intro p e s m below meth c ls AA S hr hlocks hM hl
  obtain ⟨hx, hb, hml, hown, hg⟩ := id S
  have hl : lv_has ls 2 [(0, .ref y), (1, .int v1)] := hl
  have hn := hM.bd
  suffices key9 : ∀ (H : Heap) (locs : List Loc), MM D y a cI n d th A AA s.heap s H locs → W p l e { frames := 3, cells := 0, slots := 0, locals := 72 } s m [.ref y, .int v1].toArray below meth c H locs 0 0 (MQ below ((fun AA : Nat → Prop => va_Qi (fun r (u : MS) => ((∃ k, k < n ∧ L k = v1 ∧ r = nI (vis G k) ∧ u.2.2.1 = 0) ∨ ((∀ k, k < n → ¬ L k = v1) ∧ u.2.2.1 = 1)) ∧ u.1 = n ∧ u.2.1 = d ∧ Scr A u.2.2.2) (MB D y a cI AA) AA) AA) [.ref y, .int v1].toArray s 0 0 AA) (F0 m 0 ls []) from key9 _ _ hM
  clear hM
  intro H locs hM
  refine lv_aload_n hx hb dX3_ahead_0 rfl (lv_at hl 0 rfl) ?_
  refine lv_aload_n hx hb dX3_ahead_1 rfl (lv_at hl 0 rfl) ?_
  refine lv_iload_n hx hb dX3_ahead_2 rfl (lv_at hl 1 rfl) ?_
  refine vp_callSi (va_Run.run (runV (As := [.int v1]) (rest := [.ref y]) (Bh := RdM D y a n d th A) S (c_X3_placeOf l v1) (gw_V wk_410 wk_412 wp_22 wk_4 wk_413) rfl rfl 1 rfl (by decide +kernel) (by decide) ⟨Nat.le_refl _, Nat.le_refl _⟩ (fun _ _ _ h q => RdM.mv h q) hM.recv hM.rd hl.1 (Nat.le_of_ble_eq_true rfl) dX3_ahead_3)) (fun r hr => ?_)
  rcases hr with ⟨k_3, hk_3, he_3, hf_3, rfl⟩ | ⟨hn_3, rfl⟩
  · refine lv_if_ge (tgt := 13) hx hb dX3_ahead_6 (by decide) (fun c_6 => ?_) (fun c_6 => ?_)
    · refine lv_iconst (v := 0) hx hb dX3_ahead_13 (by decide) ?_
      refine mw_thrown S hM dX3_ahead_14 (fun H locs hM => ?_)
      refine lv_aload_n hx hb dX3_ahead_17 rfl (lv_at hl 0 rfl) ?_
      refine rM_thrown S hM.rd dX3_ahead_18 ?_
      refine lv_if_le (tgt := 28) hx hb dX3_ahead_21 (by decide) (fun c_21 => ?_) (fun c_21 => ?_)
      · refine lv_aload_n hx hb dX3_ahead_28 rfl (lv_at hl 0 rfl) ?_
        refine lv_iload_n hx hb dX3_ahead_29 rfl (lv_at hl 1 rfl) ?_
        refine va_calli (runV (As := [.int v1]) (rest := []) (Bh := MPre D y a cI n d 0 A H.size) S (c_X3_aheadOf l v1 hCo (hCo.ex hk_3 he_3)) (gw_V wk_486 wk_488 wp_34 wk_4 wk_489) rfl rfl 1 rfl (by decide +kernel) (by decide) ⟨Nat.le_refl _, Nat.le_refl _⟩ (fun _ _ _ h q => MPre.mv h q) hM.recv hM.pre hl.1 (Nat.le_of_ble_eq_true rfl) dX3_ahead_30) hM.S (fun q _ h => hM.free q h) hM.free (fun r_30 u8 t8 H1 locs1 ht8 hvm8 hp hB8 hz8 hk8 hS8 => ?_)
        obtain ⟨n_30, d_30, th_30, A_30⟩ := u8
        have hM := hM.back ht8 hB8 hS8
        generalize H1 = H at hM ⊢
        generalize locs1 = locs at hM ⊢
        dsimp only at hp hM
        obtain ⟨hp, hu1, hu2, hu3, hsc⟩ := hp
        obtain rfl := hu1.symm
        obtain rfl := hu2.symm
        obtain rfl := hu3.symm
        obtain ⟨k_30, hk_30, he_30, rfl⟩ := hp
        exact W.iret (v := (nI (vis G k_30))) hx hb hr (fun t9 ht9 hW9 => ⟨⟨_, (n, d, 0, A_30), rfl, ⟨Or.inl ⟨k_30, hk_30, he_30, rfl, rfl⟩, ⟨rfl, rfl, hsc⟩⟩, (hM.out ht9 hW9).1⟩, (hM.out ht9 hW9).2⟩) hM.S.2.2 dX3_ahead_33
      · exact absurd (show _ from c_21) (by decide)
    · exact absurd (nI_pos' (by omega)) c_6
  · refine lv_if_ge (tgt := 13) hx hb dX3_ahead_6 (by decide) (fun c_6 => ?_) (fun c_6 => ?_)
    · exact absurd (show _ from c_6) (by decide)
    · refine lv_iconst (v := 1) hx hb dX3_ahead_9 (by decide) ?_
      refine lv_goto (tgt := 14) hx hb dX3_ahead_10 (by decide) ?_
      refine mw_thrown S hM dX3_ahead_14 (fun H locs hM => ?_)
      refine lv_aload_n hx hb dX3_ahead_17 rfl (lv_at hl 0 rfl) ?_
      refine rM_thrown S hM.rd dX3_ahead_18 ?_
      refine lv_if_le (tgt := 28) hx hb dX3_ahead_21 (by decide) (fun c_21 => ?_) (fun c_21 => ?_)
      · exact absurd (show _ from c_21) (by decide)
      · refine lv_iconst (v := 0) hx hb dX3_ahead_24 (by decide) ?_
        refine lv_goto (tgt := 33) hx hb dX3_ahead_25 (by decide) ?_
        exact W.iret (v := 0) hx hb hr (fun t9 ht9 hW9 => ⟨⟨_, (n, d, 1, A), rfl, ⟨Or.inr ⟨hCo.no hn_3, rfl⟩, rfl, rfl, (fun _ _ => rfl)⟩, (hM.out ht9 hW9).1⟩, (hM.out ht9 hW9).2⟩) hM.S.2.2 dX3_ahead_33
set_option maxHeartbeats 4000000 in
set_option maxRecDepth 100000 in
theorem c_X3_before (l : Launch) {D : va_G} {y : Nat} {a : Nat → Nat} {cI : ClassId} {n d : Nat} {th : Int32} {A : Nat → Nat → Int32} {sz : Nat} (v1 : Int32) (v2 : Int32) {L : Nat → Int32} {pp : Nat → Nat} {G : Nat → Int32} (hCo : Cor A n d L pp G) : Met l yX3_before (gws yX3_before cX3_before 3 (some .boolean)) { frames := 2, cells := 0, slots := 0, locals := 49 } (va_Pc [.ref y, .int v1, .int v2] (fun U => MPre D y a cI n d th A sz U U.heap)) (va_Qi (fun r (u : MS) => ((∃ a b, a < n ∧ b < n ∧ L a = v1 ∧ L b = v2 ∧ ((a < b ∧ r = 1) ∨ (¬ a < b ∧ r = 0)) ∧ u.2.2.1 = 0) ∨ (((∀ k, k < n → ¬ L k = v1) ∨ (∀ k, k < n → ¬ L k = v2)) ∧ u.2.2.1 = 1)) ∧ u.1 = n ∧ u.2.1 = d ∧ Scr A u.2.2.2) (MB D y a cI (va_A (wM y a cI n d th A) sz)) (va_A (wM y a cI n d th A) sz)) 0 0 (va_A (wM y a cI n d th A) sz) := by
  refine met_mm (QQ := fun AA => va_Qi (fun r (u : MS) => ((∃ a b, a < n ∧ b < n ∧ L a = v1 ∧ L b = v2 ∧ ((a < b ∧ r = 1) ∨ (¬ a < b ∧ r = 0)) ∧ u.2.2.1 = 0) ∨ (((∀ k, k < n → ¬ L k = v1) ∨ (∀ k, k < n → ¬ L k = v2)) ∧ u.2.2.1 = 1)) ∧ u.1 = n ∧ u.2.1 = d ∧ Scr A u.2.2.2) (MB D y a cI AA) AA) (by decide) (Nat.le_of_ble_eq_true rfl) ?_
  intro p e s m below meth c ls AA S hr hlocks hM hl
  obtain ⟨hx, hb, hml, hown, hg⟩ := id S
  have hl : lv_has ls 3 [(0, .ref y), (1, .int v1), (2, .int v2)] := hl
  have hn := hM.bd
  suffices key9 : ∀ (H : Heap) (locs : List Loc), MM D y a cI n d th A AA s.heap s H locs → W p l e { frames := 2, cells := 0, slots := 0, locals := 49 } s m [.ref y, .int v1, .int v2].toArray below meth c H locs 0 0 (MQ below ((fun AA : Nat → Prop => va_Qi (fun r (u : MS) => ((∃ a b, a < n ∧ b < n ∧ L a = v1 ∧ L b = v2 ∧ ((a < b ∧ r = 1) ∨ (¬ a < b ∧ r = 0)) ∧ u.2.2.1 = 0) ∨ (((∀ k, k < n → ¬ L k = v1) ∨ (∀ k, k < n → ¬ L k = v2)) ∧ u.2.2.1 = 1)) ∧ u.1 = n ∧ u.2.1 = d ∧ Scr A u.2.2.2) (MB D y a cI AA) AA) AA) [.ref y, .int v1, .int v2].toArray s 0 0 AA) (F0 m 0 ls []) from key9 _ _ hM
  clear hM
  intro H locs hM
  refine lv_aload_n hx hb dX3_before_0 rfl (lv_at hl 0 rfl) ?_
  refine lv_aload_n hx hb dX3_before_1 rfl (lv_at hl 0 rfl) ?_
  refine lv_iload_n hx hb dX3_before_2 rfl (lv_at hl 1 rfl) ?_
  refine vp_callSi (va_Run.run (runV (As := [.int v1]) (rest := [.ref y]) (Bh := RdM D y a n d th A) S (c_X3_placeOf l v1) (gw_V wk_410 wk_412 wp_22 wk_4 wk_413) rfl rfl 1 rfl (by decide +kernel) (by decide) ⟨Nat.le_refl _, Nat.le_refl _⟩ (fun _ _ _ h q => RdM.mv h q) hM.recv hM.rd hl.1 (Nat.le_of_ble_eq_true rfl) dX3_before_3)) (fun r hr => ?_)
  rcases hr with ⟨k_3, hk_3, he_3, hf_3, rfl⟩ | ⟨hn_3, rfl⟩
  · refine lv_if_lt (tgt := 17) hx hb dX3_before_6 (by decide) (fun c_6 => ?_) (fun c_6 => ?_)
    · exact absurd c_6 (nI_pos (by omega))
    · refine lv_aload_n hx hb dX3_before_9 rfl (lv_at hl 0 rfl) ?_
      refine lv_iload_n hx hb dX3_before_10 rfl (lv_at hl 2 rfl) ?_
      refine vp_callSi (va_Run.run (runV (As := [.int v2]) (rest := [.ref y]) (Bh := RdM D y a n d th A) S (c_X3_placeOf l v2) (gw_V wk_410 wk_412 wp_22 wk_4 wk_413) rfl rfl 1 rfl (by decide +kernel) (by decide) ⟨Nat.le_refl _, Nat.le_refl _⟩ (fun _ _ _ h q => RdM.mv h q) hM.recv hM.rd hl.1 (Nat.le_of_ble_eq_true rfl) dX3_before_11)) (fun r hr => ?_)
      rcases hr with ⟨k_11, hk_11, he_11, hf_11, rfl⟩ | ⟨hn_11, rfl⟩
      · refine lv_if_ge (tgt := 21) hx hb dX3_before_14 (by decide) (fun c_14 => ?_) (fun c_14 => ?_)
        · refine lv_iconst (v := 0) hx hb dX3_before_21 (by decide) ?_
          refine mw_thrown S hM dX3_before_22 (fun H locs hM => ?_)
          refine lv_aload_n hx hb dX3_before_25 rfl (lv_at hl 0 rfl) ?_
          refine rM_thrown S hM.rd dX3_before_26 ?_
          refine lv_if_le (tgt := 34) hx hb dX3_before_29 (by decide) (fun c_29 => ?_) (fun c_29 => ?_)
          · refine lv_aload_n hx hb dX3_before_34 rfl (lv_at hl 0 rfl) ?_
            refine va_callv (runV (As := []) (rest := []) (Bh := MPre D y a cI n d 0 A H.size) S (c_X3_weave l hCo.1) (gw_V wk_458 wk_460 wp_28 wk_4 wk_461) rfl rfl 0 rfl (by decide +kernel) (by decide) ⟨Nat.le_refl _, Nat.le_refl _⟩ (fun _ _ _ h q => MPre.mv h q) hM.recv hM.pre hl.1 (Nat.le_of_ble_eq_true rfl) dX3_before_35) hM.S (fun q _ h => hM.free q h) hM.free (fun u8 t8 H1 locs1 ht8 hvm8 hp hB8 hz8 hk8 hS8 => ?_)
            obtain ⟨n_35, d_35, th_35, A_35⟩ := u8
            have hM := hM.back ht8 hB8 hS8
            generalize H1 = H at hM ⊢
            generalize locs1 = locs at hM ⊢
            dsimp only at hp hM
            obtain ⟨T_35, O_35, hu, hO⟩ := hp
            obtain ⟨rfl, rfl, rfl, hA9⟩ : n = n_35 ∧ d = d_35 ∧ 0 = th_35 ∧ A_35 = va_up (va_up A 9 T_35) 8 O_35 := by have z := hu; simp only [Prod.mk.injEq] at z; exact ⟨z.1.symm, z.2.1.symm, z.2.2.1.symm, z.2.2.2⟩
            have hsc : Scr A A_35 := by rw [hA9]; exact Scr.up A _ _
            have hO : ∀ i, i < n → A_35 8 i = L i := fun i h => by rw [hA9, va_up_self]; exact hO i h
            clear hA9 hu
            refine lv_aload_n hx hb dX3_before_38 rfl (lv_at hl 0 rfl) ?_
            refine lv_iload_n hx hb dX3_before_39 rfl (lv_at hl 1 rfl) ?_
            refine vp_callSi (va_Run.run (runV (As := [.int v1]) (rest := []) (Bh := RdM D y a n d 0 A_35) S (c_X3_rowOf l v1) (gw_V wk_498 wk_500 wp_35 wk_4 wk_501) rfl rfl 1 rfl (by decide +kernel) (by decide) ⟨Nat.le_refl _, Nat.le_refl _⟩ (fun _ _ _ h q => RdM.mv h q) hM.recv hM.rd hl.1 (Nat.le_of_ble_eq_true rfl) dX3_before_40)) (fun r8 hr8 => ?_)
            have hr8 : ∃ k, k < n ∧ L k = v1 ∧ r8 = nI k := by
              obtain ⟨k9, h9, e9⟩ := hCo.ex hk_3 he_3
              rcases hr8 with ⟨k8, a1, a2, a3, a4⟩ | ⟨a1, a2⟩
              · exact ⟨k8, a1, by rw [← hO k8 a1]; exact a2, a4⟩
              · exact absurd (by rw [hO k9 h9]; exact e9) (a1 k9 h9)
            obtain ⟨k_40, hk_40, he_40, rfl⟩ := hr8
            refine lv_aload_n hx hb dX3_before_43 rfl (lv_at hl 0 rfl) ?_
            refine lv_iload_n hx hb dX3_before_44 rfl (lv_at hl 2 rfl) ?_
            refine vp_callSi (va_Run.run (runV (As := [.int v2]) (rest := [.int (nI k_40)]) (Bh := RdM D y a n d 0 A_35) S (c_X3_rowOf l v2) (gw_V wk_498 wk_500 wp_35 wk_4 wk_501) rfl rfl 1 rfl (by decide +kernel) (by decide) ⟨Nat.le_refl _, Nat.le_refl _⟩ (fun _ _ _ h q => RdM.mv h q) hM.recv hM.rd hl.1 (Nat.le_of_ble_eq_true rfl) dX3_before_45)) (fun r8 hr8 => ?_)
            have hr8 : ∃ k, k < n ∧ L k = v2 ∧ r8 = nI k := by
              obtain ⟨k9, h9, e9⟩ := hCo.ex hk_11 he_11
              rcases hr8 with ⟨k8, a1, a2, a3, a4⟩ | ⟨a1, a2⟩
              · exact ⟨k8, a1, by rw [← hO k8 a1]; exact a2, a4⟩
              · exact absurd (by rw [hO k9 h9]; exact e9) (a1 k9 h9)
            obtain ⟨k_45, hk_45, he_45, rfl⟩ := hr8
            refine lv_icmp_ge (tgt := 55) hx hb dX3_before_48 (by decide) (fun c_48 => ?_) (fun c_48 => ?_)
            · rw [nI_leI (by omega) (by omega)] at c_48
              refine lv_iconst (v := 0) hx hb dX3_before_55 (by decide) ?_
              exact W.zret (v := 0) hx hb hr rfl (fun t9 ht9 hW9 => ⟨⟨_, (n, d, 0, A_35), rfl, ⟨Or.inl ⟨k_40, k_45, hk_40, hk_45, he_40, he_45, Or.inr ⟨by omega, rfl⟩, rfl⟩, ⟨rfl, rfl, hsc⟩⟩, (hM.out ht9 hW9).1⟩, (hM.out ht9 hW9).2⟩) hM.S.2.2 dX3_before_56
            · rw [nI_leI (by omega) (by omega)] at c_48
              refine lv_iconst (v := 1) hx hb dX3_before_51 (by decide) ?_
              refine lv_goto (tgt := 56) hx hb dX3_before_52 (by decide) ?_
              exact W.zret (v := 1) hx hb hr rfl (fun t9 ht9 hW9 => ⟨⟨_, (n, d, 0, A_35), rfl, ⟨Or.inl ⟨k_40, k_45, hk_40, hk_45, he_40, he_45, Or.inl ⟨by omega, rfl⟩, rfl⟩, ⟨rfl, rfl, hsc⟩⟩, (hM.out ht9 hW9).1⟩, (hM.out ht9 hW9).2⟩) hM.S.2.2 dX3_before_56
          · exact absurd (show _ from c_29) (by decide)
        · exact absurd (nI_pos' (by omega)) c_14
      · refine lv_if_ge (tgt := 21) hx hb dX3_before_14 (by decide) (fun c_14 => ?_) (fun c_14 => ?_)
        · exact absurd (show _ from c_14) (by decide)
        · refine lv_iconst (v := 1) hx hb dX3_before_17 (by decide) ?_
          refine lv_goto (tgt := 22) hx hb dX3_before_18 (by decide) ?_
          refine mw_thrown S hM dX3_before_22 (fun H locs hM => ?_)
          refine lv_aload_n hx hb dX3_before_25 rfl (lv_at hl 0 rfl) ?_
          refine rM_thrown S hM.rd dX3_before_26 ?_
          refine lv_if_le (tgt := 34) hx hb dX3_before_29 (by decide) (fun c_29 => ?_) (fun c_29 => ?_)
          · exact absurd (show _ from c_29) (by decide)
          · refine lv_iconst (v := 0) hx hb dX3_before_32 (by decide) ?_
            exact W.zret (v := 0) hx hb hr rfl (fun t9 ht9 hW9 => ⟨⟨_, (n, d, 1, A), rfl, ⟨Or.inr ⟨Or.inr (hCo.no hn_11), rfl⟩, rfl, rfl, (fun _ _ => rfl)⟩, (hM.out ht9 hW9).1⟩, (hM.out ht9 hW9).2⟩) hM.S.2.2 dX3_before_33
  · refine lv_if_lt (tgt := 17) hx hb dX3_before_6 (by decide) (fun c_6 => ?_) (fun c_6 => ?_)
    · refine lv_iconst (v := 1) hx hb dX3_before_17 (by decide) ?_
      refine lv_goto (tgt := 22) hx hb dX3_before_18 (by decide) ?_
      refine mw_thrown S hM dX3_before_22 (fun H locs hM => ?_)
      refine lv_aload_n hx hb dX3_before_25 rfl (lv_at hl 0 rfl) ?_
      refine rM_thrown S hM.rd dX3_before_26 ?_
      refine lv_if_le (tgt := 34) hx hb dX3_before_29 (by decide) (fun c_29 => ?_) (fun c_29 => ?_)
      · exact absurd (show _ from c_29) (by decide)
      · refine lv_iconst (v := 0) hx hb dX3_before_32 (by decide) ?_
        exact W.zret (v := 0) hx hb hr rfl (fun t9 ht9 hW9 => ⟨⟨_, (n, d, 1, A), rfl, ⟨Or.inr ⟨Or.inl (hCo.no hn_3), rfl⟩, rfl, rfl, (fun _ _ => rfl)⟩, (hM.out ht9 hW9).1⟩, (hM.out ht9 hW9).2⟩) hM.S.2.2 dX3_before_33
    · exact absurd (show _ from c_6) (by decide)
set_option maxHeartbeats 4000000 in
set_option maxRecDepth 100000 in
theorem c_X3_row (l : Launch) {D : va_G} {y : Nat} {a : Nat → Nat} {cI : ClassId} {n d : Nat} {th : Int32} {A : Nat → Nat → Int32} {sz : Nat} (v1 : Int32) {L : Nat → Int32} {pp : Nat → Nat} {G : Nat → Int32} (hCo : Cor A n d L pp G) : Met l yX3_row (gws yX3_row cX3_row 2 (some .int)) { frames := 2, cells := 0, slots := 0, locals := 49 } (va_Pc [.ref y, .int v1] (fun U => MPre D y a cI n d th A sz U U.heap)) (va_Qi (fun r (u : MS) => ((∃ k, k < n ∧ v1 = nI k ∧ ((G k = 0 ∧ r = L k) ∨ (¬ G k = 0 ∧ r = -L k)) ∧ u.2.2.1 = 0) ∨ ((v1 < 0 ∨ nI n ≤ v1) ∧ u.2.2.1 = 1)) ∧ u.1 = n ∧ u.2.1 = d ∧ Scr A u.2.2.2) (MB D y a cI (va_A (wM y a cI n d th A) sz)) (va_A (wM y a cI n d th A) sz)) 0 0 (va_A (wM y a cI n d th A) sz) := by
  refine met_mm (QQ := fun AA => va_Qi (fun r (u : MS) => ((∃ k, k < n ∧ v1 = nI k ∧ ((G k = 0 ∧ r = L k) ∨ (¬ G k = 0 ∧ r = -L k)) ∧ u.2.2.1 = 0) ∨ ((v1 < 0 ∨ nI n ≤ v1) ∧ u.2.2.1 = 1)) ∧ u.1 = n ∧ u.2.1 = d ∧ Scr A u.2.2.2) (MB D y a cI AA) AA) (by decide) (Nat.le_of_ble_eq_true rfl) ?_
  intro p e s m below meth c ls AA S hr hlocks hM hl
  obtain ⟨hx, hb, hml, hown, hg⟩ := id S
  have hl : lv_has ls 2 [(0, .ref y), (1, .int v1)] := hl
  have hn := hM.bd
  suffices key9 : ∀ (H : Heap) (locs : List Loc), MM D y a cI n d th A AA s.heap s H locs → W p l e { frames := 2, cells := 0, slots := 0, locals := 49 } s m [.ref y, .int v1].toArray below meth c H locs 0 0 (MQ below ((fun AA : Nat → Prop => va_Qi (fun r (u : MS) => ((∃ k, k < n ∧ v1 = nI k ∧ ((G k = 0 ∧ r = L k) ∨ (¬ G k = 0 ∧ r = -L k)) ∧ u.2.2.1 = 0) ∨ ((v1 < 0 ∨ nI n ≤ v1) ∧ u.2.2.1 = 1)) ∧ u.1 = n ∧ u.2.1 = d ∧ Scr A u.2.2.2) (MB D y a cI AA) AA) AA) [.ref y, .int v1].toArray s 0 0 AA) (F0 m 0 ls []) from key9 _ _ hM
  clear hM
  intro H locs hM
  refine lv_aload_n hx hb dX3_row_0 rfl (lv_at hl 0 rfl) ?_
  refine lv_iload_n hx hb dX3_row_1 rfl (lv_at hl 1 rfl) ?_
  refine lv_if_lt (tgt := 13) hx hb dX3_row_2 (by decide) (fun c_2 => ?_) (fun c_2 => ?_)
  · refine lv_iconst (v := 1) hx hb dX3_row_13 (by decide) ?_
    refine lv_goto (tgt := 18) hx hb dX3_row_14 (by decide) ?_
    refine mw_thrown S hM dX3_row_18 (fun H locs hM => ?_)
    refine lv_aload_n hx hb dX3_row_21 rfl (lv_at hl 0 rfl) ?_
    refine rM_thrown S hM.rd dX3_row_22 ?_
    refine lv_if_le (tgt := 30) hx hb dX3_row_25 (by decide) (fun c_25 => ?_) (fun c_25 => ?_)
    · exact absurd (show _ from c_25) (by decide)
    · refine lv_iconst (v := 0) hx hb dX3_row_28 (by decide) ?_
      exact W.iret (v := 0) hx hb hr (fun t9 ht9 hW9 => ⟨⟨_, (n, d, 1, A), rfl, ⟨Or.inr ⟨Or.inl c_2, rfl⟩, rfl, rfl, (fun _ _ => rfl)⟩, (hM.out ht9 hW9).1⟩, (hM.out ht9 hW9).2⟩) hM.S.2.2 dX3_row_29
  · refine lv_iload_n hx hb dX3_row_5 rfl (lv_at hl 1 rfl) ?_
    refine lv_aload_n hx hb dX3_row_6 rfl (lv_at hl 0 rfl) ?_
    refine rM_many S hM.rd dX3_row_7 ?_
    refine lv_icmp_lt (tgt := 17) hx hb dX3_row_10 (by decide) (fun c_10 => ?_) (fun c_10 => ?_)
    · obtain ⟨k, hk31, rfl⟩ := nI_of c_2
      rw [nI_ltI hk31 (by omega)] at c_10
      refine lv_iconst (v := 0) hx hb dX3_row_17 (by decide) ?_
      refine mw_thrown S hM dX3_row_18 (fun H locs hM => ?_)
      refine lv_aload_n hx hb dX3_row_21 rfl (lv_at hl 0 rfl) ?_
      refine rM_thrown S hM.rd dX3_row_22 ?_
      refine lv_if_le (tgt := 30) hx hb dX3_row_25 (by decide) (fun c_25 => ?_) (fun c_25 => ?_)
      · refine lv_aload_n hx hb dX3_row_30 rfl (lv_at hl 0 rfl) ?_
        refine va_callv (runV (As := []) (rest := []) (Bh := MPre D y a cI n d 0 A H.size) S (c_X3_weave l hCo.1) (gw_V wk_458 wk_460 wp_28 wk_4 wk_461) rfl rfl 0 rfl (by decide +kernel) (by decide) ⟨Nat.le_refl _, Nat.le_refl _⟩ (fun _ _ _ h q => MPre.mv h q) hM.recv hM.pre hl.1 (Nat.le_of_ble_eq_true rfl) dX3_row_31) hM.S (fun q _ h => hM.free q h) hM.free (fun u8 t8 H1 locs1 ht8 hvm8 hp hB8 hz8 hk8 hS8 => ?_)
        obtain ⟨n_31, d_31, th_31, A_31⟩ := u8
        have hM := hM.back ht8 hB8 hS8
        generalize H1 = H at hM ⊢
        generalize locs1 = locs at hM ⊢
        dsimp only at hp hM
        obtain ⟨T_31, O_31, hu, hO⟩ := hp
        obtain ⟨rfl, rfl, rfl, hA9⟩ : n = n_31 ∧ d = d_31 ∧ 0 = th_31 ∧ A_31 = va_up (va_up A 9 T_31) 8 O_31 := by have z := hu; simp only [Prod.mk.injEq] at z; exact ⟨z.1.symm, z.2.1.symm, z.2.2.1.symm, z.2.2.2⟩
        have hsc : Scr A A_31 := by rw [hA9]; exact Scr.up A _ _
        have hO : ∀ i, i < n → A_31 8 i = L i := fun i h => by rw [hA9, va_up_self]; exact hO i h
        clear hA9 hu
        refine lv_aload_n hx hb dX3_row_34 rfl (lv_at hl 0 rfl) ?_
        refine lv_aload_n hx hb dX3_row_35 rfl (lv_at hl 0 rfl) ?_
        refine rM_order S hM.rd dX3_row_36 ?_
        refine lv_iload_n hx hb dX3_row_39 rfl (lv_at hl 1 rfl) ?_
        refine rM_ald S hM.rd 8 (by decide) (by show _ < 512; omega) dX3_row_40 ?_
        rw [hO k c_10]
        refine vp_callSi (va_Run.run (runV (As := [.int (L k)]) (rest := []) (Bh := RdM D y a n d 0 A_31) S (c_X3_isRemoved l (L k)) (gw_V wk_446 wk_448 wp_26 wk_4 wk_449) rfl rfl 1 rfl (by decide +kernel) (by decide) ⟨Nat.le_refl _, Nat.le_refl _⟩ (fun _ _ _ h q => RdM.mv h q) hM.recv hM.rd hl.1 (Nat.le_of_ble_eq_true rfl) dX3_row_41)) (fun r hr => ?_)
        rw [hsc.rem] at hr
        rcases hr with ⟨h_41, rfl⟩ | ⟨h_41, rfl⟩
        · have g_41 : ¬ G k = 0 := fun z => by rw [(hCo.2.2 _ c_10).mp z] at h_41; cases h_41
          refine lv_if_eq (tgt := 57) hx hb dX3_row_44 (by decide) (fun c_44 => ?_) (fun c_44 => ?_)
          · exact absurd (show _ from c_44) (by decide)
          · refine lv_aload_n hx hb dX3_row_47 rfl (lv_at hl 0 rfl) ?_
            refine rM_order S hM.rd dX3_row_48 ?_
            refine lv_iload_n hx hb dX3_row_51 rfl (lv_at hl 1 rfl) ?_
            refine rM_ald S hM.rd 8 (by decide) (by show _ < 512; omega) dX3_row_52 ?_
            rw [hO k c_10]
            refine lv_ineg hx hb dX3_row_53 ?_
            refine lv_goto (tgt := 63) hx hb dX3_row_54 (by decide) ?_
            exact W.iret (v := (-(L k))) hx hb hr (fun t9 ht9 hW9 => ⟨⟨_, (n, d, 0, A_31), rfl, ⟨Or.inl ⟨k, c_10, rfl, Or.inr ⟨g_41, rfl⟩, rfl⟩, ⟨rfl, rfl, hsc⟩⟩, (hM.out ht9 hW9).1⟩, (hM.out ht9 hW9).2⟩) hM.S.2.2 dX3_row_63
        · have g_41 : G k = 0 := (hCo.2.2 _ c_10).mpr h_41
          refine lv_if_eq (tgt := 57) hx hb dX3_row_44 (by decide) (fun c_44 => ?_) (fun c_44 => ?_)
          · refine lv_aload_n hx hb dX3_row_57 rfl (lv_at hl 0 rfl) ?_
            refine rM_order S hM.rd dX3_row_58 ?_
            refine lv_iload_n hx hb dX3_row_61 rfl (lv_at hl 1 rfl) ?_
            refine rM_ald S hM.rd 8 (by decide) (by show _ < 512; omega) dX3_row_62 ?_
            rw [hO k c_10]
            exact W.iret (v := (L k)) hx hb hr (fun t9 ht9 hW9 => ⟨⟨_, (n, d, 0, A_31), rfl, ⟨Or.inl ⟨k, c_10, rfl, Or.inl ⟨g_41, rfl⟩, rfl⟩, ⟨rfl, rfl, hsc⟩⟩, (hM.out ht9 hW9).1⟩, (hM.out ht9 hW9).2⟩) hM.S.2.2 dX3_row_63
          · exact absurd (show _ from c_44) (by decide)
      · exact absurd (show _ from c_25) (by decide)
    · refine lv_iconst (v := 1) hx hb dX3_row_13 (by decide) ?_
      refine lv_goto (tgt := 18) hx hb dX3_row_14 (by decide) ?_
      refine mw_thrown S hM dX3_row_18 (fun H locs hM => ?_)
      refine lv_aload_n hx hb dX3_row_21 rfl (lv_at hl 0 rfl) ?_
      refine rM_thrown S hM.rd dX3_row_22 ?_
      refine lv_if_le (tgt := 30) hx hb dX3_row_25 (by decide) (fun c_25 => ?_) (fun c_25 => ?_)
      · exact absurd (show _ from c_25) (by decide)
      · refine lv_iconst (v := 0) hx hb dX3_row_28 (by decide) ?_
        exact W.iret (v := 0) hx hb hr (fun t9 ht9 hW9 => ⟨⟨_, (n, d, 1, A), rfl, ⟨Or.inr ⟨Or.inr (i32_nlt.mp c_10), rfl⟩, rfl, rfl, (fun _ _ => rfl)⟩, (hM.out ht9 hW9).1⟩, (hM.out ht9 hW9).2⟩) hM.S.2.2 dX3_row_29
