/-- what a weaving leaves behind -/
def WVd (LP : List Nat) (f : Nat → Nat → Int32) (wv : Nat → Option Nat) (n cn cnt : Nat) (ids : Nat → Int32) (v1 : Int32) (b : Nat) (v3 v4 : Int32) (T m : Nat) (z : CS) : Prop :=
  ∃ (q q2 : Nat) (wv' : Nat → Option Nat), Lie (fun k => f (adv wv k) 0) n T v1 q ∧ Fnb ids cnt v1 q2 ∧ m ∉ LP ∧ (∀ k, k < q → wv' k = wv k) ∧ wv' q = some m ∧ (∀ k, q < k → k ≤ n → wv' k = wv (k - 1)) ∧
    z = (LP ++ [m], va_up (va_up f m (ofr (ini v1 (f b 0) (f b 2 + 1)) v1 v3 v4)) b (va_up (f b) 3 (f b 3 + 1)), wv', n + 1, cn, cnt + 1, nte ids cnt q2 v1)
theorem va_uu {α : Type} (f : Nat → α) (k : Nat) (v w : α) : va_up (va_up f k v) k w = va_up f k w := by
  funext j
  by_cases h : j = k
  · rw [h, va_up_self, va_up_self]
  · rw [va_up_ne _ _ h, va_up_ne _ _ h, va_up_ne _ _ h]
theorem weave_f {f f1 f3 f4 : Nat → Nat → Int32} {m b : Nat} {v1 v3 v4 : Int32} {z0 : Nat → Int32} (hbm : b ≠ m) (h1 : f1 = va_up f m z0) (h3 : f3 = va_up f1 m (ini v1 (f1 b 0) (f1 b 2 + 1))) (h4 : f4 = va_up f3 m (ofr (f3 m) v1 v3 v4)) : va_up f4 b (va_up (f4 b) 3 (f4 b 3 + 1)) = va_up (va_up f m (ofr (ini v1 (f b 0) (f b 2 + 1)) v1 v3 v4)) b (va_up (f b) 3 (f b 3 + 1)) := by
  have e1 : f1 b = f b := by rw [h1, va_up_ne _ _ hbm]
  have e3 : f3 b = f b := by rw [h3, va_up_ne _ _ hbm, e1]
  have e4 : f4 b = f b := by rw [h4, va_up_ne _ _ hbm, e3]
  rw [e4, h4]
  rw [show f3 m = ini v1 (f1 b 0) (f1 b 2 + 1) by rw [h3, va_up_self], e1, h3, va_uu, h1, va_uu]
section CCU
variable {D : va_G} {x u i g w : Nat} {cI cW : ClassId} {LP : List Nat} {f : Nat → Nat → Int32} {wv : Nat → Option Nat} {n cn cnt : Nat} {ids : Nat → Int32} {AA : Nat → Prop} {H0 : Heap} {s : State} {H : Heap} {locs : List Loc}
theorem CC.noteU (hC : CC D x u i g w cI cW LP f wv n cn cnt ids AA H0 s H locs) {q : Nat} {v : Int32} {z : va_W} {t : State} {H1 : Heap} {locs1 : List Loc} (hc : cnt < 1536) (ht : t.heap = H1) (hz : z = ((wC x u i g w cI cW LP f wv n cn cnt ids).set 1 (u, .inr (1, [.ref i, .int (nI (cnt + 1))]))).set 2 (i, .inl (cI, 1536, .inl (nte ids cnt q v)))) (hB : GB D (tC cI cW) (va_A (wC x u i g w cI cW LP f wv n cn cnt ids) H.size) z t) (hS1 : va_S AA H0 H1 locs1) : CC D x u i g w cI cW LP f wv n cn (cnt + 1) (nte ids cnt q v) AA H0 s H1 locs1 := by
  have hM := hC.2.2.back ht hB hS1 hC.2.2.2.2.1
  subst hz
  exact ⟨⟨hC.1.1, hC.1.2.1, hC.1.2.2.1, hC.1.2.2.2.1, hc⟩, hC.2.1, hM⟩
theorem CC.forget (hC : CC D x u i g w cI cW LP f wv n cn cnt ids AA H0 s H locs) {z : va_W} {t : State} {H1 : Heap} {locs1 : List Loc} (ht : t.heap = H1) (hz : z = ((wC x u i g w cI cW LP f wv n cn cnt ids).set 1 (u, .inr (1, [.ref i, .int (nI 0)]))).set 2 (i, .inl (cI, 1536, .inl ids))) (hB : GB D (tC cI cW) (va_A (wC x u i g w cI cW LP f wv n cn cnt ids) H.size) z t) (hS1 : va_S AA H0 H1 locs1) : CC D x u i g w cI cW LP f wv n cn 0 ids AA H0 s H1 locs1 := by
  have hM := hC.2.2.back ht hB hS1 hC.2.2.2.2.1
  subst hz
  exact ⟨⟨hC.1.1, hC.1.2.1, hC.1.2.2.1, hC.1.2.2.2.1, Nat.zero_le _⟩, hC.2.1, hM⟩
end CCU
theorem Par.mem {f : Nat → Nat → Int32} {g b T : Nat} {LP : List Nat} {wv : Nat → Option Nat} {n cn cnt : Nat} (h : Par f (adv wv) n g b T) (hF : CF g LP wv n cn cnt) : b ∈ LP := by
  rcases h with ⟨h1, _⟩ | ⟨t, h1, h2, _⟩
  · rw [← h1]; exact hF.1
  · rw [← h2]; exact (hF.ad h1).2
set_option maxHeartbeats 4000000 in
set_option maxRecDepth 100000 in
theorem c_X2_clear (l : Launch) {D : va_G} {x u i g w : Nat} {cI cW : ClassId} {LP : List Nat} {f : Nat → Nat → Int32} {wv : Nat → Option Nat} {n cn cnt : Nat} {ids : Nat → Int32} {sz : Nat}   : Met l yX2_clear (gws yX2_clear cX2_clear 1 none) { frames := 1, cells := 0, slots := 0, locals := 20 } (va_Pc [.ref x] (fun U => CPre D x u i g w cI cW LP f wv n cn cnt ids sz U U.heap)) (va_Qv (fun (z : CS) => z = (LP, va_up f g (va_up (f g) 3 0), wv, 0, 0, 0, ids)) (CB D x u i g w cI cW (va_A (wC x u i g w cI cW LP f wv n cn cnt ids) sz)) (va_A (wC x u i g w cI cW LP f wv n cn cnt ids) sz)) 0 0 (va_A (wC x u i g w cI cW LP f wv n cn cnt ids) sz) := by
  refine met_cc (QQ := fun AA => va_Qv (fun (z : CS) => z = (LP, va_up f g (va_up (f g) 3 0), wv, 0, 0, 0, ids)) (CB D x u i g w cI cW AA) AA) (by decide) (Nat.le_of_ble_eq_true rfl) ?_
  intro p e s m below meth c ls AA S hr hlocks hG hl
  obtain ⟨hx, hb, hml, hown, hg⟩ := id S
  have hl : lv_has ls 1 [(0, .ref x)] := hl
  suffices key9 : ∀ (H : Heap) (locs : List Loc), CC D x u i g w cI cW LP f wv n cn cnt ids AA s.heap s H locs → W p l e { frames := 1, cells := 0, slots := 0, locals := 20 } s m [.ref x].toArray below meth c H locs 0 0 (MQ below ((fun AA : Nat → Prop => va_Qv (fun (z : CS) => z = (LP, va_up f g (va_up (f g) 3 0), wv, 0, 0, 0, ids)) (CB D x u i g w cI cW AA) AA) AA) [.ref x].toArray s 0 0 AA) (F0 m 0 ls []) from key9 _ _ hG
  clear hG
  intro H locs hG
  obtain ⟨ad, had⟩ : ∃ ad, ad = adv wv := ⟨_, rfl⟩
  have hC : RdC D x u i g w n cn cnt ids ad f s H := by rw [had]; exact hG.rd
  have hn := hG.1.2.2
  refine lv_aload_n hx hb dX2_clear_0 rfl (lv_at hl 0 rfl) ?_
  refine rC_used S hG.rd dX2_clear_1 ?_
  refine va_callv (runVN (As := []) (rest := []) (Bh := (fun U H9 => GPre D (wC x u i g w cI cW LP f wv n cn cnt ids) (tC cI cW) H.size U H9 ∧ (fun _ => True) U)) S (c_X1_forgetAll l (ku := 1) (ki := 2) (t0 := 0) rfl rfl rfl hG.1.2.2.2.2) (gw_self wk_101) (nk_98 hG.2.1) wk_2 wk_100 wp_0 rfl rfl 0 rfl (by decide +kernel) (by decide) (by decide) (fun _ _ _ h q => ⟨q.1.mv h, trivial⟩) hG.recvU ⟨hG.2.2.pre, trivial⟩ hl.1 (Nat.le_of_ble_eq_true rfl) dX2_clear_4) hG.2.2.S (fun q _ h => hG.2.2.free q h) hG.2.2.free (fun u8 t8 H1 locs1 ht8 hvm8 hp hB8 hz8 hk8 hS8 => ?_)
  have hG := hG.forget ht8 hp hB8 hS8
  clear hp
  clear hS8 hB8 hz8 hk8 ht8 hvm8
  generalize H1 = H at hG ⊢
  generalize locs1 = locs at hG ⊢
  refine lv_aload_n hx hb dX2_clear_7 rfl (lv_at hl 0 rfl) ?_
  refine rC_beginning S hG.rd dX2_clear_8 ?_
  refine lv_iconst (v := 0) hx hb dX2_clear_11 (by decide) ?_
  refine cw_followers S hG hG.1.1 dX2_clear_12 (fun H locs hG => ?_)
  refine lv_aload_n hx hb dX2_clear_15 rfl (lv_at hl 0 rfl) ?_
  refine lv_iconst (v := nI 0) hx hb dX2_clear_16 (by decide) ?_
  refine cw_elements (v := 0) S hG (by omega) (fun _ h => absurd h (Nat.not_lt_zero _)) dX2_clear_17 (fun H locs hG => ?_)
  refine lv_aload_n hx hb dX2_clear_20 rfl (lv_at hl 0 rfl) ?_
  refine lv_iconst (v := nI 0) hx hb dX2_clear_21 (by decide) ?_
  refine cw_changes (v := 0) S hG (by omega) dX2_clear_22 (fun H locs hG => ?_)
  exact W.vret hx hb hr (fun t9 ht9 hW9 => ⟨⟨(LP, va_up f g (va_up (f g) 3 0), wv, 0, 0, 0, ids), rfl, rfl, (hG.out ht9 hW9).1⟩, (hG.out ht9 hW9).2⟩) hG.2.2.S.2.2 dX2_clear_25
set_option maxHeartbeats 4000000 in
set_option maxRecDepth 100000 in
theorem c_X2_countChange (l : Launch) {D : va_G} {x u i g w : Nat} {cI cW : ClassId} {LP : List Nat} {f : Nat → Nat → Int32} {wv : Nat → Option Nat} {n cn cnt : Nat} {ids : Nat → Int32} {sz : Nat} (v1 : Int32) (hs : Srt ids cnt) (hcnt : cnt < 1536) (hcn : cn < 1024) : Met l yX2_countChange (gws yX2_countChange cX2_countChange 2 none) { frames := 2, cells := 0, slots := 0, locals := 62 } (va_Pc [.ref x, .int v1] (fun U => CPre D x u i g w cI cW LP f wv n cn cnt ids sz U U.heap)) (va_Qv (fun (z : CS) => ∃ q, Fnb ids cnt v1 q ∧ z = (LP, f, wv, n, cn + 1, cnt + 1, nte ids cnt q v1)) (CB D x u i g w cI cW (va_A (wC x u i g w cI cW LP f wv n cn cnt ids) sz)) (va_A (wC x u i g w cI cW LP f wv n cn cnt ids) sz)) 0 0 (va_A (wC x u i g w cI cW LP f wv n cn cnt ids) sz) := by
  refine met_cc (QQ := fun AA => va_Qv (fun (z : CS) => ∃ q, Fnb ids cnt v1 q ∧ z = (LP, f, wv, n, cn + 1, cnt + 1, nte ids cnt q v1)) (CB D x u i g w cI cW AA) AA) (by decide) (Nat.le_of_ble_eq_true rfl) ?_
  intro p e s m below meth c ls AA S hr hlocks hG hl
  obtain ⟨hx, hb, hml, hown, hg⟩ := id S
  have hl : lv_has ls 2 [(0, .ref x), (1, .int v1)] := hl
  suffices key9 : ∀ (H : Heap) (locs : List Loc), CC D x u i g w cI cW LP f wv n cn cnt ids AA s.heap s H locs → W p l e { frames := 2, cells := 0, slots := 0, locals := 62 } s m [.ref x, .int v1].toArray below meth c H locs 0 0 (MQ below ((fun AA : Nat → Prop => va_Qv (fun (z : CS) => ∃ q, Fnb ids cnt v1 q ∧ z = (LP, f, wv, n, cn + 1, cnt + 1, nte ids cnt q v1)) (CB D x u i g w cI cW AA) AA) AA) [.ref x, .int v1].toArray s 0 0 AA) (F0 m 0 ls []) from key9 _ _ hG
  clear hG
  intro H locs hG
  obtain ⟨ad, had⟩ : ∃ ad, ad = adv wv := ⟨_, rfl⟩
  have hC : RdC D x u i g w n cn cnt ids ad f s H := by rw [had]; exact hG.rd
  have hn := hG.1.2.2
  refine lv_aload_n hx hb dX2_countChange_0 rfl (lv_at hl 0 rfl) ?_
  refine rC_used S hG.rd dX2_countChange_1 ?_
  refine lv_iload_n hx hb dX2_countChange_4 rfl (lv_at hl 1 rfl) ?_
  refine va_callv (runVN (As := [.int v1]) (rest := []) (Bh := (fun U H9 => GPre D (wC x u i g w cI cW LP f wv n cn cnt ids) (tC cI cW) H.size U H9 ∧ (fun _ => True) U)) S (c_X1_note l (ku := 1) (ki := 2) (t0 := 0) v1 rfl rfl rfl hs hcnt) (gw_self wk_149) (nk_146 hG.2.1) wk_2 wk_148 wp_10 rfl rfl 1 rfl (by decide +kernel) (by decide) (by decide) (fun _ _ _ h q => ⟨q.1.mv h, trivial⟩) hG.recvU ⟨hG.2.2.pre, trivial⟩ hl.1 (Nat.le_of_ble_eq_true rfl) dX2_countChange_5) hG.2.2.S (fun q _ h => hG.2.2.free q h) hG.2.2.free (fun u8 t8 H1 locs1 ht8 hvm8 hp hB8 hz8 hk8 hS8 => ?_)
  obtain ⟨q_5, hF_5, hp⟩ := hp
  have hG := hG.noteU (by omega) ht8 hp hB8 hS8
  clear hp
  clear hS8 hB8 hz8 hk8 ht8 hvm8
  generalize H1 = H at hG ⊢
  generalize locs1 = locs at hG ⊢
  refine lv_aload_n hx hb dX2_countChange_8 rfl (lv_at hl 0 rfl) ?_
  refine lv_dup hx hb dX2_countChange_9 rfl ?_
  refine rC_changes S hG.rd dX2_countChange_10 ?_
  refine lv_iconst (v := nI 1) hx hb dX2_countChange_13 (by decide) ?_
  refine lv_iadd hx hb dX2_countChange_14 ?_
  rw [show nI cn + nI 1 = nI (cn + 1) from nI_add cn 1]
  refine cw_changes (v := (cn + 1)) S hG (by omega) dX2_countChange_15 (fun H locs hG => ?_)
  exact W.vret hx hb hr (fun t9 ht9 hW9 => ⟨⟨(LP, f, wv, n, (cn + 1), cnt + 1, nte ids cnt q_5 v1), rfl, ⟨q_5, hF_5, rfl⟩, (hG.out ht9 hW9).1⟩, (hG.out ht9 hW9).2⟩) hG.2.2.S.2.2 dX2_countChange_18
set_option maxHeartbeats 4000000 in
set_option maxRecDepth 100000 in
theorem c_X2_weave (l : Launch) {D : va_G} {x u i g w : Nat} {cI cW : ClassId} {LP : List Nat} {f : Nat → Nat → Int32} {wv : Nat → Option Nat} {n cn cnt : Nat} {ids : Nat → Int32} {sz : Nat} (v1 : Int32) (b : Nat) (v3 v4 : Int32) {T : Nat} (hbT : Par f (adv wv) n g b T) (hs : Srt ids cnt) (hcnt : cnt < 1536) (hn5 : n < 512) : Met l yX2_weave (gws yX2_weave cX2_weave 7 (some (.object "ListWeave$Element"))) { frames := 2, cells := 1, slots := 9, locals := 62 } (va_Pc [.ref x, .int v1, .ref b, .int v3, .int v4] (fun U => CPre D x u i g w cI cW LP f wv n cn cnt ids sz U U.heap)) (va_Qq (fun r (z : CS) => ∃ m, r = some m ∧ WVd LP f wv n cn cnt ids v1 b v3 v4 T m z) (CB D x u i g w cI cW (va_A (wC x u i g w cI cW LP f wv n cn cnt ids) sz)) (va_A (wC x u i g w cI cW LP f wv n cn cnt ids) sz)) 1 9 (va_A (wC x u i g w cI cW LP f wv n cn cnt ids) sz) := by
  refine met_cc (QQ := fun AA => va_Qq (fun r (z : CS) => ∃ m, r = some m ∧ WVd LP f wv n cn cnt ids v1 b v3 v4 T m z) (CB D x u i g w cI cW AA) AA) (by decide) (Nat.le_of_ble_eq_true rfl) ?_
  intro p e s m below meth c ls AA S hr hlocks hG hl
  obtain ⟨hx, hb, hml, hown, hg⟩ := id S
  have hl : lv_has ls 7 [(0, .ref x), (1, .int v1), (2, .ref b), (3, .int v3), (4, .int v4)] := hl
  suffices key9 : ∀ (H : Heap) (locs : List Loc), CC D x u i g w cI cW LP f wv n cn cnt ids AA s.heap s H locs → W p l e { frames := 2, cells := 1, slots := 9, locals := 62 } s m [.ref x, .int v1, .ref b, .int v3, .int v4].toArray below meth c H locs 0 0 (MQ below ((fun AA : Nat → Prop => va_Qq (fun r (z : CS) => ∃ m, r = some m ∧ WVd LP f wv n cn cnt ids v1 b v3 v4 T m z) (CB D x u i g w cI cW AA) AA) AA) [.ref x, .int v1, .ref b, .int v3, .int v4].toArray s 1 9 AA) (F0 m 0 ls []) from key9 _ _ hG
  clear hG
  intro H locs hG
  obtain ⟨ad, had⟩ : ∃ ad, ad = adv wv := ⟨_, rfl⟩
  have hC : RdC D x u i g w n cn cnt ids ad f s H := by rw [had]; exact hG.rd
  have hn := hG.1.2.2
  have hG0 := hG.1
  refine lv_aload_n hx hb dX2_weave_0 rfl (lv_at hl 0 rfl) ?_
  refine lv_iload_n hx hb dX2_weave_1 rfl (lv_at hl 1 rfl) ?_
  refine lv_aload_n hx hb dX2_weave_2 rfl (lv_at hl 2 rfl) ?_
  refine vp_callSi (va_Run.run (runV (As := [.int v1, .ref b]) (rest := []) (Bh := RdC D x u i g w n cn cnt ids (adv wv) f) S (c_X2_rowForNew l v1 b hbT) (gw_V wk_138 wk_140 wp_8 wk_1 wk_141) rfl rfl 2 rfl (by decide +kernel) (by decide) (by decide) (fun _ _ _ h q => RdC.mv h q) hG.rd.recv hG.rd hl.1 (Nat.le_of_ble_eq_true rfl) dX2_weave_3)) (fun r hr => ?_)
  obtain ⟨q, hq, rfl⟩ := hr
  have hq1 := hq.2.1
  refine lv_istore (lv' := [(5, .int (nI q)), (0, .ref x), (1, .int v1), (2, .ref b), (3, .int v3), (4, .int v4)]) hx hb dX2_weave_6 hl (by decide) rfl (fun ls hl => ?_)
  refine lv_aload_n hx hb dX2_weave_8 rfl (lv_at hl 1 rfl) ?_
  refine rC_elements S hG.rd dX2_weave_9 ?_
  refine lv_istore (lv' := [(6, .int (nI n)), (5, .int (nI q)), (0, .ref x), (1, .int v1), (2, .ref b), (3, .int v3), (4, .int v4)]) hx hb dX2_weave_12 hl (by decide) rfl (fun ls hl => ?_)
  suffices hloop : ∀ (fuel : Nat) (j : Nat) (wv' : Nat → Option Nat), q ≤ j → j ≤ n → j - q < fuel → (∀ k, k ≤ j → wv' k = wv k) → (∀ k, j < k → k ≤ n → wv' k = wv (k - 1)) → ∀ (H : Heap) (locs : List Loc), CC D x u i g w cI cW LP f wv' n cn cnt ids AA s.heap s H locs → ∀ ls : Array Slot, lv_has ls 7 [(6, .int (nI j)), (5, .int (nI q)), (0, .ref x), (1, .int v1), (2, .ref b), (3, .int v3), (4, .int v4)] → W p l e { frames := 2, cells := 1, slots := 9, locals := 62 } s m [.ref x, .int v1, .ref b, .int v3, .int v4].toArray below meth c H locs 0 0 (MQ below ((fun AA : Nat → Prop => va_Qq (fun r (z : CS) => ∃ m, r = some m ∧ WVd LP f wv n cn cnt ids v1 b v3 v4 T m z) (CB D x u i g w cI cW AA) AA) AA) [.ref x, .int v1, .ref b, .int v3, .int v4].toArray s 1 9 AA) (F0 m 14 ls []) from hloop (n + 1) n wv (by omega) (by omega) (by omega) (fun _ _ => rfl) (fun k h1 h2 => absurd h1 (by omega)) _ _ hG ls (lv_sub hl [0, 1, 2, 3, 4, 5, 6] rfl)
  intro fuel
  induction fuel with
  | zero => intro j wv' hj1 hj2 hf9 hw1 hw2; omega
  | succ fuel ih =>
    intro j wv' hj1 hj2 hf9 hw1 hw2 H locs hG ls hl
    have hG9 := hG
    refine lv_iload hx hb dX2_weave_14 (lv_at hl 0 rfl) ?_
    refine lv_iload hx hb dX2_weave_16 (lv_at hl 1 rfl) ?_
    refine lv_icmp_le (tgt := 43) hx hb dX2_weave_18 (by decide) (fun c_18 => ?_) (fun c_18 => ?_)
    · rw [nI_leI (by omega) (by omega)] at c_18
      have hjq : j = q := by omega
      subst hjq
      have hbL := hbT.mem hG0
      refine cw_new (own9 := 0) S hG (by decide) (by decide) dX2_weave_43 (fun m9 H hm9 hG => ?_)
      have hbm : b ≠ m9 := fun e => hm9 (e ▸ hbL)
      obtain ⟨f1, hf1⟩ : ∃ f1, f1 = va_up f m9 (fun _ => 0) := ⟨_, rfl⟩
      rw [← hf1] at hG
      have hl := lv_sub (l' := [(5, .int (nI j)), (0, .ref x), (1, .int v1), (2, .ref b), (3, .int v3), (4, .int v4)]) hl [1, 2, 3, 4, 5, 6] rfl
      refine lv_dup hx hb dX2_weave_46 rfl ?_
      refine lv_iload_n hx hb dX2_weave_47 rfl (lv_at hl 2 rfl) ?_
      refine lv_aload_n hx hb dX2_weave_48 rfl (lv_at hl 3 rfl) ?_
      refine rN_id S (hG.el (List.mem_append_left _ hbL)) hG.2.1 dX2_weave_49 ?_
      refine lv_aload_n hx hb dX2_weave_52 rfl (lv_at hl 3 rfl) ?_
      refine rN_way S (hG.el (List.mem_append_left _ hbL)) hG.2.1 dX2_weave_53 ?_
      refine lv_iconst (v := 1) hx hb dX2_weave_56 (by decide) ?_
      refine lv_iadd hx hb dX2_weave_57 ?_
      obtain ⟨q_58, hq_58⟩ := hG.at (List.mem_append_right _ (List.mem_singleton.mpr rfl))
      refine va_callv (runIN (As := [.int v1, .int (f1 b 0), .int ((f1 b 2) + 1)]) (rest := [.ref m9]) (Bh := (fun U H9 => GPre D (wC x u i g w cI cW (LP ++ [m9]) f1 wv' n cn cnt ids) (tC cI cW) H.size U H9 ∧ (fun _ => True) U)) S (c_X0_init l v1 (f1 b 0) ((f1 b 2) + 1) hq_58) (gw_self wk_38) (nk_36 hG.2.1) wk_3 wk_37 rfl rfl rfl 3 rfl (by decide +kernel) (by decide) (by decide) (fun _ _ _ h q => ⟨q.1.mv h, trivial⟩) ⟨hG.2.2.pre, trivial⟩ hl.1 (Nat.le_of_ble_eq_true rfl) dX2_weave_58) hG.2.2.S (fun q _ h => hG.2.2.free q h) hG.2.2.free (fun u8 t8 H1 locs1 ht8 hvm8 hp hB8 hz8 hk8 hS8 => ?_)
      have hG := hG.putE (List.mem_append_right _ (List.mem_singleton.mpr rfl)) hq_58 ht8 hp hB8 hS8
      clear hp hq_58
      clear hS8 hB8 hz8 hk8 ht8 hvm8
      generalize H1 = H at hG ⊢
      generalize locs1 = locs at hG ⊢
      obtain ⟨f_58, hf_58⟩ : ∃ f9, f9 = va_up f1 m9 (ini v1 (f1 b 0) ((f1 b 2) + 1)) := ⟨_, rfl⟩
      rw [← hf_58] at hG
      refine lv_astore (lv' := [(6, .ref m9), (5, .int (nI j)), (0, .ref x), (1, .int v1), (2, .ref b), (3, .int v3), (4, .int v4)]) hx hb dX2_weave_61 hl (by decide) rfl (fun ls hl => ?_)
      refine lv_aload hx hb dX2_weave_63 (lv_at hl 0 rfl) ?_
      refine lv_iload_n hx hb dX2_weave_65 rfl (lv_at hl 3 rfl) ?_
      refine lv_iload_n hx hb dX2_weave_66 rfl (lv_at hl 5 rfl) ?_
      refine lv_iload hx hb dX2_weave_67 (lv_at hl 6 rfl) ?_
      obtain ⟨q_69, hq_69⟩ := hG.at (List.mem_append_right _ (List.mem_singleton.mpr rfl))
      refine va_callv (runVN (As := [.int v1, .int v3, .int v4]) (rest := []) (Bh := (fun U H9 => GPre D (wC x u i g w cI cW (LP ++ [m9]) f_58 wv' n cn cnt ids) (tC cI cW) H.size U H9 ∧ (fun _ => True) U)) S (c_X0_offer l v1 v3 v4 hq_69) (gw_self wk_145) (nk_142 hG.2.1) wk_3 wk_144 wp_9 rfl rfl 3 rfl (by decide +kernel) (by decide) (by decide) (fun _ _ _ h q => ⟨q.1.mv h, trivial⟩) (hG.el (List.mem_append_right _ (List.mem_singleton.mpr rfl))).recv ⟨hG.2.2.pre, trivial⟩ hl.1 (Nat.le_of_ble_eq_true rfl) dX2_weave_69) hG.2.2.S (fun q _ h => hG.2.2.free q h) hG.2.2.free (fun u8 t8 H1 locs1 ht8 hvm8 hp hB8 hz8 hk8 hS8 => ?_)
      have hG := hG.putE (List.mem_append_right _ (List.mem_singleton.mpr rfl)) hq_69 ht8 hp hB8 hS8
      clear hp hq_69
      clear hS8 hB8 hz8 hk8 ht8 hvm8
      generalize H1 = H at hG ⊢
      generalize locs1 = locs at hG ⊢
      obtain ⟨f_69, hf_69⟩ : ∃ f9, f9 = va_up f_58 m9 (ofr (f_58 m9) v1 v3 v4) := ⟨_, rfl⟩
      rw [← hf_69] at hG
      refine lv_aload_n hx hb dX2_weave_72 rfl (lv_at hl 2 rfl) ?_
      refine rC_woven S hG.rd dX2_weave_73 ?_
      refine lv_iload hx hb dX2_weave_76 (lv_at hl 1 rfl) ?_
      refine lv_aload hx hb dX2_weave_78 (lv_at hl 0 rfl) ?_
      refine cw_ast (k := j) S hG (List.mem_append_right _ (List.mem_singleton.mpr rfl)) (by omega) dX2_weave_80 (fun H locs hG => ?_)
      refine lv_aload_n hx hb dX2_weave_81 rfl (lv_at hl 2 rfl) ?_
      refine lv_dup hx hb dX2_weave_82 rfl ?_
      refine rC_elements S hG.rd dX2_weave_83 ?_
      refine lv_iconst (v := nI 1) hx hb dX2_weave_86 (by decide) ?_
      refine lv_iadd hx hb dX2_weave_87 ?_
      rw [show nI n + nI 1 = nI (n + 1) from nI_add n 1]
      refine cw_elements (v := (n + 1)) S hG (by omega) (fun k hk => if e : k = j then ⟨m9, by rw [e, va_up_self], List.mem_append_right _ (List.mem_singleton.mpr rfl)⟩ else by rw [va_up_ne _ _ e]; exact if h9 : k < j then by obtain ⟨a9, g1, g2⟩ := hG0.2.1 k (by omega); exact ⟨a9, by rw [hw1 k (by omega)]; exact g1, List.mem_append_left _ g2⟩ else by obtain ⟨a9, g1, g2⟩ := hG0.2.1 (k - 1) (by omega); exact ⟨a9, by rw [hw2 k (by omega) (by omega)]; exact g1, List.mem_append_left _ g2⟩) dX2_weave_88 (fun H locs hG => ?_)
      refine lv_aload_n hx hb dX2_weave_91 rfl (lv_at hl 4 rfl) ?_
      refine lv_dup hx hb dX2_weave_92 rfl ?_
      refine rN_followers S (hG.el (List.mem_append_left _ hbL)) hG.2.1 dX2_weave_93 ?_
      refine lv_iconst (v := 1) hx hb dX2_weave_96 (by decide) ?_
      refine lv_iadd hx hb dX2_weave_97 ?_
      refine cw_followers S hG (List.mem_append_left _ hbL) dX2_weave_98 (fun H locs hG => ?_)
      refine lv_aload_n hx hb dX2_weave_101 rfl (lv_at hl 2 rfl) ?_
      refine rC_used S hG.rd dX2_weave_102 ?_
      refine lv_iload_n hx hb dX2_weave_105 rfl (lv_at hl 3 rfl) ?_
      refine va_callv (runVN (As := [.int v1]) (rest := []) (Bh := (fun U H9 => GPre D (wC x u i g w cI cW (LP ++ [m9]) (va_up f_69 b (va_up (f_69 b) 3 ((f_69 b 3) + 1))) (va_up wv' j (some m9)) (n + 1) cn cnt ids) (tC cI cW) H.size U H9 ∧ (fun _ => True) U)) S (c_X1_note l (ku := 1) (ki := 2) (t0 := 0) v1 rfl rfl rfl hs hcnt) (gw_self wk_149) (nk_146 hG.2.1) wk_2 wk_148 wp_10 rfl rfl 1 rfl (by decide +kernel) (by decide) (by decide) (fun _ _ _ h q => ⟨q.1.mv h, trivial⟩) hG.recvU ⟨hG.2.2.pre, trivial⟩ hl.1 (Nat.le_of_ble_eq_true rfl) dX2_weave_106) hG.2.2.S (fun q _ h => hG.2.2.free q h) hG.2.2.free (fun u8 t8 H1 locs1 ht8 hvm8 hp hB8 hz8 hk8 hS8 => ?_)
      obtain ⟨q_106, hF_106, hp⟩ := hp
      have hG := hG.noteU (by omega) ht8 hp hB8 hS8
      clear hp
      clear hS8 hB8 hz8 hk8 ht8 hvm8
      generalize H1 = H at hG ⊢
      generalize locs1 = locs at hG ⊢
      refine lv_aload hx hb dX2_weave_109 (lv_at hl 0 rfl) ?_
      exact W.aret (v := .ref m9) hx hb hr (Or.inl ⟨_, rfl⟩) (Or.inr ⟨_, rfl⟩) (fun t9 ht9 hW9 => ⟨⟨some m9, (LP ++ [m9], va_up f_69 b (va_up (f_69 b) 3 ((f_69 b 3) + 1)), va_up wv' j (some m9), (n + 1), cn, cnt + 1, nte ids cnt q_106 v1), rfl, ⟨m9, rfl, j, q_106, va_up wv' j (some m9), hq, hF_106, hm9, fun k h => by rw [va_up_ne _ _ (by omega)]; exact hw1 k (by omega), va_up_self _ _ _, fun k h1 h2 => by rw [va_up_ne _ _ (by omega)]; exact hw2 k h1 h2, by rw [weave_f hbm hf1 hf_58 hf_69]⟩, (hG.out ht9 hW9).1⟩, (hG.out ht9 hW9).2⟩) hG.2.2.S.2.2 dX2_weave_111
    · rw [nI_leI (by omega) (by omega)] at c_18
      refine lv_aload_n hx hb dX2_weave_21 rfl (lv_at hl 2 rfl) ?_
      refine rC_woven S hG.rd dX2_weave_22 ?_
      refine lv_iload hx hb dX2_weave_25 (lv_at hl 0 rfl) ?_
      refine lv_aload_n hx hb dX2_weave_27 rfl (lv_at hl 2 rfl) ?_
      refine rC_woven S hG.rd dX2_weave_28 ?_
      refine lv_iload hx hb dX2_weave_31 (lv_at hl 0 rfl) ?_
      refine lv_iconst (v := nI 1) hx hb dX2_weave_33 (by decide) ?_
      refine lv_isub hx hb dX2_weave_34 ?_
      rw [show nI j - nI 1 = nI (j - 1) from nI_sub (by omega)]
      refine rC_ald S hG.rd (k := (j - 1)) (by omega) dX2_weave_35 ?_
      refine cw_ast (k := j) S hG (hG.1.ad (k := (j - 1)) (by omega)).2 (by omega) dX2_weave_36 (fun H locs hG => ?_)
      refine lv_iinc (v := nI (j - 1)) (lv' := [(6, .int (nI (j - 1))), (5, .int (nI q)), (0, .ref x), (1, .int v1), (2, .ref b), (3, .int v3), (4, .int v4)]) hx hb dX2_weave_37 hl (k := 0) rfl (by rw [show Int32.ofInt (-1) = - (nI 1) by decide, ← Int32.sub_eq_add_neg]; exact nI_sub (by omega)) (by decide) rfl (fun ls hl => ?_)
      refine lv_goto (tgt := 14) hx hb dX2_weave_40 (by decide) ?_
      exact ih (j - 1) (va_up wv' j (some (adv wv' (j - 1)))) (by omega) (by omega) (by omega) (fun k h => by rw [va_up_ne _ _ (by omega)]; exact hw1 k (by omega)) (fun k h1 h2 => if e : k = j then by rw [e, va_up_self, ← (hG9.1.ad (k := j - 1) (by omega)).1]; exact hw1 (j - 1) (by omega) else by rw [va_up_ne _ _ e]; exact hw2 k (by omega) h2) _ _ hG ls (lv_sub hl [0, 1, 2, 3, 4, 5, 6] rfl)
