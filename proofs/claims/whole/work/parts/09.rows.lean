/-! pure words for the rows -/
def El (L : Nat → Int32) (ad : Nat → Nat) (n : Nat) (v : Int32) (r : Option Nat) : Prop := (∃ k, k < n ∧ L k = v ∧ r = some (ad k)) ∨ ((∀ k, k < n → ¬ L k = v) ∧ r = none)
def Fre (ids : Nat → Int32) (cnt : Nat) (v : Int32) : Prop := ¬ v < 8 ∧ ¬ 800007 < v ∧ ¬ ∃ j, j < cnt ∧ ids j = v
def mxw (g : Nat → Int32) : Nat → Int32
  | 0 => 0
  | k + 1 => if mxw g k < g k then g k else mxw g k
def smt (g kd vl : Nat → Int32) (v1 v2 : Int32) : Nat → Int64
  | 0 => 0
  | k + 1 => smt g kd vl v1 v2 k + (if g k = 0 ∧ v1 ≤ nI (vis g k) ∧ nI (vis g k) < v2 ∧ kd k = 2 then (vl k).toInt64 else 0)
theorem vis_mono (g : Nat → Int32) {a b : Nat} (h : a ≤ b) : vis g a ≤ vis g b := by
  induction b with
  | zero => rw [Nat.le_zero.mp h]; exact Nat.le_refl _
  | succ b ih =>
    rcases Nat.lt_or_eq_of_le h with q | q
    · exact Nat.le_trans (ih (by omega)) (by rw [vis]; omega)
    · rw [q]; exact Nat.le_refl _
theorem i64_z (a : Int64) : a + 0 = a := by simp
theorem smt_stop {g kd vl : Nat → Int32} {v1 v2 : Int32} {a b : Nat} (hab : a ≤ b) (hb : b < 2 ^ 31) (h : v2 ≤ nI (vis g a)) : smt g kd vl v1 v2 b = smt g kd vl v1 v2 a := by
  induction b with
  | zero => rw [Nat.le_zero.mp hab]
  | succ b ih =>
    rcases Nat.lt_or_eq_of_le hab with q | q
    · rw [smt, ih (by omega) (by omega), if_neg, i64_z]
      intro z
      have h1 := vis_mono g (show a ≤ b by omega)
      have h2 := vis_le g b
      have h3 := nI_le h1 (by omega)
      rw [Int32.le_iff_toInt_le] at h h3
      have h4 := z.2.2.1
      rw [Int32.lt_iff_toInt_lt] at h4
      omega
    · rw [q]
theorem vis_s {g : Nat → Int32} {k q : Nat} (hq : q = vis g k) (h : g k = 0) : q + 1 = vis g (k + 1) := by rw [vis, if_pos h, hq]
theorem vis_n {g : Nat → Int32} {k q : Nat} (hq : q = vis g k) (h : ¬ g k = 0) : q = vis g (k + 1) := by rw [vis, if_neg h, hq]; rfl
def At (L g : Nat → Int32) (ad : Nat → Nat) (n : Nat) (v : Int32) (r : Option Nat) : Prop := (∃ k, k < n ∧ g k = 0 ∧ nI (vis g k) = v ∧ r = some (ad k)) ∨ ((∀ k, k < n → g k = 0 → ¬ nI (vis g k) = v) ∧ r = none)
set_option maxHeartbeats 4000000 in
set_option maxRecDepth 100000 in
theorem c_X2_rowOf (l : Launch) {D : va_G} {x u i g w n cn cnt : Nat} {ids : Nat → Int32} {ad : Nat → Nat} {f : Nat → Nat → Int32} (v1 : Int32)  : Met l yX2_rowOf (gws yX2_rowOf cX2_rowOf 3 (some .int)) { frames := 0, cells := 0, slots := 0, locals := 0 } (va_Pc [.ref x, .int v1] (fun U => RdC D x u i g w n cn cnt ids ad f U U.heap)) (vp_Si (fun r => Row (fun k => f (ad k) 0) n v1 r)) 0 0 (fun _ => False) := by
  refine met_go (by decide) (Nat.le_of_ble_eq_true rfl) ?_
  intro p e s m below meth c ls S hr hlocks hnm hC hl
  obtain ⟨hx, hb, hml, hown, hg⟩ := id S
  have hl : lv_has ls 3 [(0, .ref x), (1, .int v1)] := hl
  have hn := hC.n
  refine lv_iconst (v := nI 0) hx hb dX2_rowOf_0 (by decide) ?_
  refine lv_istore_n (lv' := [(2, .int (nI 0)), (0, .ref x), (1, .int v1)]) hx hb dX2_rowOf_1 rfl hl (by decide) rfl (fun ls hl => ?_)
  suffices hloop : ∀ (fuel : Nat) (k : Nat), k ≤ n → n - k < fuel → (∀ j, j < k → ¬ f (ad j) 0 = v1) → ∀ ls : Array Slot, lv_has ls 3 [(2, .int (nI k)), (0, .ref x), (1, .int v1)] → W p l e { frames := 0, cells := 0, slots := 0, locals := 0 } s m [.ref x, .int v1].toArray below meth c s.heap [] 0 0 (MQ below (vp_Si (fun r => Row (fun k => f (ad k) 0) n v1 r)) [.ref x, .int v1].toArray s 0 0 (fun _ => False)) (F0 m 2 ls []) from hloop (n + 1) 0 (by omega) (by omega) (fun _ h => absurd h (Nat.not_lt_zero _))  ls (lv_sub hl [0, 1, 2] rfl)
  intro fuel
  induction fuel with
  | zero => intro k hk hf hI; omega
  | succ fuel ih =>
    intro k hk hf hI  ls hl
    refine lv_iload_n hx hb dX2_rowOf_2 rfl (lv_at hl 0 rfl) ?_
    refine lv_aload_n hx hb dX2_rowOf_3 rfl (lv_at hl 1 rfl) ?_
    refine rC_elements S hC dX2_rowOf_4 ?_
    refine lv_icmp_ge (tgt := 31) hx hb dX2_rowOf_7 (by decide) (fun c_7 => ?_) (fun c_7 => ?_)
    · rw [nI_leI (by omega) (by omega)] at c_7
      refine lv_iconst (v := (-1)) hx hb dX2_rowOf_31 (by decide) ?_
      exact W.iret (v := (-1)) hx hb hr (fun t9 ht9 _ => ⟨_, rfl, Or.inr ⟨fun j hj => hI j (by omega), rfl⟩, ht9⟩) (fun _ h => nomatch h) dX2_rowOf_32
    · rw [nI_leI (by omega) (by omega)] at c_7
      refine lv_aload_n hx hb dX2_rowOf_10 rfl (lv_at hl 1 rfl) ?_
      refine rC_woven S hC dX2_rowOf_11 ?_
      refine lv_iload_n hx hb dX2_rowOf_14 rfl (lv_at hl 0 rfl) ?_
      refine rC_ald S hC (by omega) dX2_rowOf_15 ?_
      refine rN_id S (hC.E (Or.inr ⟨_, (by omega), rfl⟩)) hC.nw dX2_rowOf_16 ?_
      refine lv_iload_n hx hb dX2_rowOf_19 rfl (lv_at hl 2 rfl) ?_
      refine lv_icmp_ne (tgt := 25) hx hb dX2_rowOf_20 (by decide) (fun c_20 => ?_) (fun c_20 => ?_)
      · refine lv_iinc (v := nI (k + 1)) (lv' := [(2, .int (nI (k + 1))), (0, .ref x), (1, .int v1)]) hx hb dX2_rowOf_25 hl (k := 0) rfl (nI_1 _) (by decide) rfl (fun ls hl => ?_)
        refine lv_goto (tgt := 2) hx hb dX2_rowOf_28 (by decide) ?_
        exact ih (k + 1) (by omega) (by omega) (lt_s hI c_20)  ls (lv_sub hl [0, 1, 2] rfl)
      · refine lv_iload_n hx hb dX2_rowOf_23 rfl (lv_at hl 0 rfl) ?_
        exact W.iret (v := (nI k)) hx hb hr (fun t9 ht9 _ => ⟨_, rfl, Or.inl ⟨k, by omega, c_20, hI, rfl⟩, ht9⟩) (fun _ h => nomatch h) dX2_rowOf_24
set_option maxHeartbeats 4000000 in
set_option maxRecDepth 100000 in
theorem c_X2_elementOf (l : Launch) {D : va_G} {x u i g w n cn cnt : Nat} {ids : Nat → Int32} {ad : Nat → Nat} {f : Nat → Nat → Int32} (v1 : Int32)  : Met l yX2_elementOf (gws yX2_elementOf cX2_elementOf 3 (some (.object "ListWeave$Element"))) { frames := 1, cells := 0, slots := 0, locals := 22 } (va_Pc [.ref x, .int v1] (fun U => RdC D x u i g w n cn cnt ids ad f U U.heap)) (va_Sq (fun r => El (fun k => f (ad k) 0) ad n v1 r)) 0 0 (fun _ => False) := by
  refine met_go (by decide) (Nat.le_of_ble_eq_true rfl) ?_
  intro p e s m below meth c ls S hr hlocks hnm hC hl
  obtain ⟨hx, hb, hml, hown, hg⟩ := id S
  have hl : lv_has ls 3 [(0, .ref x), (1, .int v1)] := hl
  have hn := hC.n
  refine lv_aload_n hx hb dX2_elementOf_0 rfl (lv_at hl 0 rfl) ?_
  refine lv_iload_n hx hb dX2_elementOf_1 rfl (lv_at hl 1 rfl) ?_
  refine vp_callSi (va_Run.run (runV (As := [.int v1]) (rest := []) (Bh := RdC D x u i g w n cn cnt ids ad f) S (c_X2_rowOf l v1) (gw_V wk_114 wk_116 wp_3 wk_1 wk_117) rfl rfl 1 rfl (by decide +kernel) (by decide) ⟨Nat.le_refl _, Nat.le_refl _⟩ (fun _ _ _ h q => RdC.mv h q) hC.recv hC hl.1 (Nat.le_of_ble_eq_true rfl) dX2_elementOf_2)) (fun r hr => ?_)
  rcases hr with ⟨k_2, hk_2, he_2, hf_2, rfl⟩ | ⟨hn_2, rfl⟩
  · refine lv_istore_n (lv' := [(2, .int (nI k_2)), (0, .ref x), (1, .int v1)]) hx hb dX2_elementOf_5 rfl hl (by decide) rfl (fun ls hl => ?_)
    refine lv_iload_n hx hb dX2_elementOf_6 rfl (lv_at hl 0 rfl) ?_
    refine lv_iconst (v := (-1)) hx hb dX2_elementOf_7 (by decide) ?_
    refine lv_icmp_ne (tgt := 15) hx hb dX2_elementOf_8 (by decide) (fun c_8 => ?_) (fun c_8 => ?_)
    · refine lv_aload_n hx hb dX2_elementOf_15 rfl (lv_at hl 1 rfl) ?_
      refine rC_woven S hC dX2_elementOf_16 ?_
      refine lv_iload_n hx hb dX2_elementOf_19 rfl (lv_at hl 0 rfl) ?_
      refine rC_ald S hC hk_2 dX2_elementOf_20 ?_
      exact W.aret (v := .ref (ad k_2)) hx hb hr (Or.inl ⟨_, rfl⟩) (Or.inr ⟨_, rfl⟩) (fun t9 ht9 _ => ⟨some (ad k_2), rfl, Or.inl ⟨k_2, hk_2, he_2, rfl⟩, ht9⟩) (fun _ h => nomatch h) dX2_elementOf_21
    · exact absurd c_8 (int_m1_ne _ (by omega))
  · refine lv_istore_n (lv' := [(2, .int (-1)), (0, .ref x), (1, .int v1)]) hx hb dX2_elementOf_5 rfl hl (by decide) rfl (fun ls hl => ?_)
    refine lv_iload_n hx hb dX2_elementOf_6 rfl (lv_at hl 0 rfl) ?_
    refine lv_iconst (v := (-1)) hx hb dX2_elementOf_7 (by decide) ?_
    refine lv_icmp_ne (tgt := 15) hx hb dX2_elementOf_8 (by decide) (fun c_8 => ?_) (fun c_8 => ?_)
    · exact absurd (show _ from c_8) (by decide)
    · refine lv_null hx hb dX2_elementOf_11 ?_
      refine lv_goto (tgt := 21) hx hb dX2_elementOf_12 (by decide) ?_
      exact W.aret (v := .null) hx hb hr (Or.inl ⟨_, rfl⟩) (Or.inl rfl) (fun t9 ht9 _ => ⟨none, rfl, Or.inr ⟨hn_2, rfl⟩, ht9⟩) (fun _ h => nomatch h) dX2_elementOf_21
set_option maxHeartbeats 4000000 in
set_option maxRecDepth 100000 in
theorem c_X2_elementOrBeginning (l : Launch) {D : va_G} {x u i g w n cn cnt : Nat} {ids : Nat → Int32} {ad : Nat → Nat} {f : Nat → Nat → Int32} (v1 : Int32)  : Met l yX2_elementOrBeginning (gws yX2_elementOrBeginning cX2_elementOrBeginning 2 (some (.object "ListWeave$Element"))) { frames := 2, cells := 0, slots := 0, locals := 44 } (va_Pc [.ref x, .int v1] (fun U => RdC D x u i g w n cn cnt ids ad f U U.heap)) (va_Sq (fun r => (v1 = 0 ∧ r = some g) ∨ (¬ v1 = 0 ∧ El (fun k => f (ad k) 0) ad n v1 r))) 0 0 (fun _ => False) := by
  refine met_go (by decide) (Nat.le_of_ble_eq_true rfl) ?_
  intro p e s m below meth c ls S hr hlocks hnm hC hl
  obtain ⟨hx, hb, hml, hown, hg⟩ := id S
  have hl : lv_has ls 2 [(0, .ref x), (1, .int v1)] := hl
  have hn := hC.n
  refine lv_iload_n hx hb dX2_elementOrBeginning_0 rfl (lv_at hl 1 rfl) ?_
  refine lv_if_ne (tgt := 11) hx hb dX2_elementOrBeginning_1 (by decide) (fun c_1 => ?_) (fun c_1 => ?_)
  · refine lv_aload_n hx hb dX2_elementOrBeginning_11 rfl (lv_at hl 0 rfl) ?_
    refine lv_iload_n hx hb dX2_elementOrBeginning_12 rfl (lv_at hl 1 rfl) ?_
    refine va_csq (va_Run.run (runV (As := [.int v1]) (rest := []) (Bh := RdC D x u i g w n cn cnt ids ad f) S (c_X2_elementOf l v1) (gw_V wk_110 wk_112 wp_2 wk_1 wk_113) rfl rfl 1 rfl (by decide +kernel) (by decide) ⟨Nat.le_refl _, Nat.le_refl _⟩ (fun _ _ _ h q => RdC.mv h q) hC.recv hC hl.1 (Nat.le_of_ble_eq_true rfl) dX2_elementOrBeginning_13)) (fun r hr => ?_)
    rcases hr with ⟨k_13, hk_13, he_13, rfl⟩ | ⟨hn_13, rfl⟩
    · show W p l e { frames := 2, cells := 0, slots := 0, locals := 44 } s m [.ref x, .int v1].toArray below meth c s.heap [] 0 0 (MQ below (va_Sq (fun r => (v1 = 0 ∧ r = some g) ∨ (¬ v1 = 0 ∧ El (fun k => f (ad k) 0) ad n v1 r))) [.ref x, .int v1].toArray s 0 0 (fun _ => False)) (F0 m 16 ls [.ref (ad k_13)])
      exact W.aret (v := .ref (ad k_13)) hx hb hr (Or.inl ⟨_, rfl⟩) (Or.inr ⟨_, rfl⟩) (fun t9 ht9 _ => ⟨some (ad k_13), rfl, Or.inr ⟨c_1, Or.inl ⟨k_13, hk_13, he_13, rfl⟩⟩, ht9⟩) (fun _ h => nomatch h) dX2_elementOrBeginning_16
    · show W p l e { frames := 2, cells := 0, slots := 0, locals := 44 } s m [.ref x, .int v1].toArray below meth c s.heap [] 0 0 (MQ below (va_Sq (fun r => (v1 = 0 ∧ r = some g) ∨ (¬ v1 = 0 ∧ El (fun k => f (ad k) 0) ad n v1 r))) [.ref x, .int v1].toArray s 0 0 (fun _ => False)) (F0 m 16 ls [.null])
      exact W.aret (v := .null) hx hb hr (Or.inl ⟨_, rfl⟩) (Or.inl rfl) (fun t9 ht9 _ => ⟨none, rfl, Or.inr ⟨c_1, Or.inr ⟨hn_13, rfl⟩⟩, ht9⟩) (fun _ h => nomatch h) dX2_elementOrBeginning_16
  · refine lv_aload_n hx hb dX2_elementOrBeginning_4 rfl (lv_at hl 0 rfl) ?_
    refine rC_beginning S hC dX2_elementOrBeginning_5 ?_
    refine lv_goto (tgt := 16) hx hb dX2_elementOrBeginning_8 (by decide) ?_
    exact W.aret (v := .ref g) hx hb hr (Or.inl ⟨_, rfl⟩) (Or.inr ⟨_, rfl⟩) (fun t9 ht9 _ => ⟨some g, rfl, Or.inl ⟨c_1, rfl⟩, ht9⟩) (fun _ h => nomatch h) dX2_elementOrBeginning_16
set_option maxHeartbeats 4000000 in
set_option maxRecDepth 100000 in
theorem c_X2_visibleUpTo (l : Launch) {D : va_G} {x u i g w n cn cnt : Nat} {ids : Nat → Int32} {ad : Nat → Nat} {f : Nat → Nat → Int32} (E : Nat) (hE : E ≤ n) : Met l yX2_visibleUpTo (gws yX2_visibleUpTo cX2_visibleUpTo 4 (some .int)) { frames := 1, cells := 0, slots := 0, locals := 20 } (va_Pc [.ref x, .int (nI E)] (fun U => RdC D x u i g w n cn cnt ids ad f U U.heap)) (vp_Si (fun r => r = nI (vis (fun k => f (ad k) 5) E))) 0 0 (fun _ => False) := by
  refine met_go (by decide) (Nat.le_of_ble_eq_true rfl) ?_
  intro p e s m below meth c ls S hr hlocks hnm hC hl
  obtain ⟨hx, hb, hml, hown, hg⟩ := id S
  have hl : lv_has ls 4 [(0, .ref x), (1, .int (nI E))] := hl
  have hn := hC.n
  refine lv_iconst (v := nI 0) hx hb dX2_visibleUpTo_0 (by decide) ?_
  refine lv_istore_n (lv' := [(2, .int (nI 0)), (0, .ref x), (1, .int (nI E))]) hx hb dX2_visibleUpTo_1 rfl hl (by decide) rfl (fun ls hl => ?_)
  refine lv_iconst (v := nI 0) hx hb dX2_visibleUpTo_2 (by decide) ?_
  refine lv_istore_n (lv' := [(3, .int (nI 0)), (2, .int (nI 0)), (0, .ref x), (1, .int (nI E))]) hx hb dX2_visibleUpTo_3 rfl hl (by decide) rfl (fun ls hl => ?_)
  suffices hloop : ∀ (fuel : Nat) (k q : Nat), k ≤ E → E - k < fuel → q = vis (fun k => f (ad k) 5) k → ∀ ls : Array Slot, lv_has ls 4 [(3, .int (nI k)), (2, .int (nI q)), (0, .ref x), (1, .int (nI E))] → W p l e { frames := 1, cells := 0, slots := 0, locals := 20 } s m [.ref x, .int (nI E)].toArray below meth c s.heap [] 0 0 (MQ below (vp_Si (fun r => r = nI (vis (fun k => f (ad k) 5) E))) [.ref x, .int (nI E)].toArray s 0 0 (fun _ => False)) (F0 m 4 ls []) from hloop (E + 1) 0 0 (by omega) (by omega) rfl  ls (lv_sub hl [0, 1, 2, 3] rfl)
  intro fuel
  induction fuel with
  | zero => intro k q hk hf hq; omega
  | succ fuel ih =>
    intro k q hk hf hq  ls hl
    refine lv_iload_n hx hb dX2_visibleUpTo_4 rfl (lv_at hl 0 rfl) ?_
    refine lv_iload_n hx hb dX2_visibleUpTo_5 rfl (lv_at hl 3 rfl) ?_
    refine lv_icmp_ge (tgt := 30) hx hb dX2_visibleUpTo_6 (by decide) (fun c_6 => ?_) (fun c_6 => ?_)
    · rw [nI_leI (by omega) (by omega)] at c_6
      refine lv_iload_n hx hb dX2_visibleUpTo_30 rfl (lv_at hl 1 rfl) ?_
      exact W.iret (v := (nI q)) hx hb hr (fun t9 ht9 _ => ⟨_, rfl, by rw [hq, show k = E by omega], ht9⟩) (fun _ h => nomatch h) dX2_visibleUpTo_31
    · rw [nI_leI (by omega) (by omega)] at c_6
      refine lv_aload_n hx hb dX2_visibleUpTo_9 rfl (lv_at hl 2 rfl) ?_
      refine rC_woven S hC dX2_visibleUpTo_10 ?_
      refine lv_iload_n hx hb dX2_visibleUpTo_13 rfl (lv_at hl 0 rfl) ?_
      refine rC_ald S hC (by omega) dX2_visibleUpTo_14 ?_
      refine vp_callSi (va_Run.run (runVN (As := []) (rest := []) (Bh := RdE D (ad k) (f (ad k))) S (c_X0_isVisible l ) (gw_self wk_192) (nk_189 hC.nw) wk_3 wk_191 wp_15 rfl rfl 0 rfl (by decide +kernel) (by decide) ⟨Nat.le_refl _, Nat.le_refl _⟩ (fun _ _ _ h q => RdE.mv h q) (RdE.recv (hC.E (Or.inr ⟨_, (by omega), rfl⟩))) (hC.E (Or.inr ⟨_, (by omega), rfl⟩)) hl.1 (Nat.le_of_ble_eq_true rfl) dX2_visibleUpTo_15)) (fun r hr => ?_)
      rcases hr with ⟨h_15, rfl⟩ | ⟨h_15, rfl⟩
      · refine lv_if_eq (tgt := 24) hx hb dX2_visibleUpTo_18 (by decide) (fun c_18 => ?_) (fun c_18 => ?_)
        · exact absurd (show _ from c_18) (by decide)
        · refine lv_iinc (v := nI (q + 1)) (lv' := [(2, .int (nI (q + 1))), (3, .int (nI k)), (0, .ref x), (1, .int (nI E))]) hx hb dX2_visibleUpTo_21 hl (k := 1) rfl (nI_1 _) (by decide) rfl (fun ls hl => ?_)
          refine lv_iinc (v := nI (k + 1)) (lv' := [(3, .int (nI (k + 1))), (2, .int (nI (q + 1))), (0, .ref x), (1, .int (nI E))]) hx hb dX2_visibleUpTo_24 hl (k := 1) rfl (nI_1 _) (by decide) rfl (fun ls hl => ?_)
          refine lv_goto (tgt := 4) hx hb dX2_visibleUpTo_27 (by decide) ?_
          exact ih (k + 1) (q + 1) (by omega) (by omega) (vis_s hq h_15)  ls (lv_sub hl [0, 1, 2, 3] rfl)
      · refine lv_if_eq (tgt := 24) hx hb dX2_visibleUpTo_18 (by decide) (fun c_18 => ?_) (fun c_18 => ?_)
        · refine lv_iinc (v := nI (k + 1)) (lv' := [(3, .int (nI (k + 1))), (2, .int (nI q)), (0, .ref x), (1, .int (nI E))]) hx hb dX2_visibleUpTo_24 hl (k := 0) rfl (nI_1 _) (by decide) rfl (fun ls hl => ?_)
          refine lv_goto (tgt := 4) hx hb dX2_visibleUpTo_27 (by decide) ?_
          exact ih (k + 1) q (by omega) (by omega) (vis_n hq h_15)  ls (lv_sub hl [0, 1, 2, 3] rfl)
        · exact absurd (show _ from c_18) (by decide)
set_option maxHeartbeats 4000000 in
set_option maxRecDepth 100000 in
theorem c_X2_longestWay (l : Launch) {D : va_G} {x u i g w n cn cnt : Nat} {ids : Nat → Int32} {ad : Nat → Nat} {f : Nat → Nat → Int32}   : Met l yX2_longestWay (gws yX2_longestWay cX2_longestWay 3 (some .int)) { frames := 1, cells := 0, slots := 0, locals := 24 } (va_Pc [.ref x] (fun U => RdC D x u i g w n cn cnt ids ad f U U.heap)) (vp_Si (fun r => r = mxw (fun k => f (ad k) 2) n)) 0 0 (fun _ => False) := by
  refine met_go (by decide) (Nat.le_of_ble_eq_true rfl) ?_
  intro p e s m below meth c ls S hr hlocks hnm hC hl
  obtain ⟨hx, hb, hml, hown, hg⟩ := id S
  have hl : lv_has ls 3 [(0, .ref x)] := hl
  have hn := hC.n
  refine lv_iconst (v := 0) hx hb dX2_longestWay_0 (by decide) ?_
  refine lv_istore_n (lv' := [(1, .int 0), (0, .ref x)]) hx hb dX2_longestWay_1 rfl hl (by decide) rfl (fun ls hl => ?_)
  refine lv_iconst (v := nI 0) hx hb dX2_longestWay_2 (by decide) ?_
  refine lv_istore_n (lv' := [(2, .int (nI 0)), (1, .int 0), (0, .ref x)]) hx hb dX2_longestWay_3 rfl hl (by decide) rfl (fun ls hl => ?_)
  suffices hloop : ∀ (fuel : Nat) (k : Nat) (q : Int32), k ≤ n → n - k < fuel → q = mxw (fun k => f (ad k) 2) k → ∀ ls : Array Slot, lv_has ls 3 [(2, .int (nI k)), (1, .int q), (0, .ref x)] → W p l e { frames := 1, cells := 0, slots := 0, locals := 24 } s m [.ref x].toArray below meth c s.heap [] 0 0 (MQ below (vp_Si (fun r => r = mxw (fun k => f (ad k) 2) n)) [.ref x].toArray s 0 0 (fun _ => False)) (F0 m 4 ls []) from hloop (n + 1) 0 0 (by omega) (by omega) rfl  ls (lv_sub hl [0, 1, 2] rfl)
  intro fuel
  induction fuel with
  | zero => intro k q hk hf hq; omega
  | succ fuel ih =>
    intro k q hk hf hq  ls hl
    refine lv_iload_n hx hb dX2_longestWay_4 rfl (lv_at hl 0 rfl) ?_
    refine lv_aload_n hx hb dX2_longestWay_5 rfl (lv_at hl 2 rfl) ?_
    refine rC_elements S hC dX2_longestWay_6 ?_
    refine lv_icmp_ge (tgt := 32) hx hb dX2_longestWay_9 (by decide) (fun c_9 => ?_) (fun c_9 => ?_)
    · rw [nI_leI (by omega) (by omega)] at c_9
      refine lv_iload_n hx hb dX2_longestWay_32 rfl (lv_at hl 1 rfl) ?_
      exact W.iret (v := q) hx hb hr (fun t9 ht9 _ => ⟨_, rfl, by rw [hq, show k = n by omega], ht9⟩) (fun _ h => nomatch h) dX2_longestWay_33
    · rw [nI_leI (by omega) (by omega)] at c_9
      refine lv_iload_n hx hb dX2_longestWay_12 rfl (lv_at hl 1 rfl) ?_
      refine lv_aload_n hx hb dX2_longestWay_13 rfl (lv_at hl 2 rfl) ?_
      refine rC_woven S hC dX2_longestWay_14 ?_
      refine lv_iload_n hx hb dX2_longestWay_17 rfl (lv_at hl 0 rfl) ?_
      refine rC_ald S hC (by omega) dX2_longestWay_18 ?_
      refine rN_way S (hC.E (Or.inr ⟨_, (by omega), rfl⟩)) hC.nw dX2_longestWay_19 ?_
      refine va_mmax hx hb (by rw [hml]; exact hl.1.symm) hown (hg _ wk_213) (hg _ wk_214) (hg _ wk_11) (hg _ wk_215) (by decide) (by decide) (Nat.le_refl _) (Nat.le_refl _) dX2_longestWay_22 ?_
      refine lv_istore_n (lv' := [(1, .int (if q < (f (ad k) 2) then (f (ad k) 2) else q)), (2, .int (nI k)), (0, .ref x)]) hx hb dX2_longestWay_25 rfl hl (by decide) rfl (fun ls hl => ?_)
      refine lv_iinc (v := nI (k + 1)) (lv' := [(2, .int (nI (k + 1))), (1, .int (if q < (f (ad k) 2) then (f (ad k) 2) else q)), (0, .ref x)]) hx hb dX2_longestWay_26 hl (k := 1) rfl (nI_1 _) (by decide) rfl (fun ls hl => ?_)
      refine lv_goto (tgt := 4) hx hb dX2_longestWay_29 (by decide) ?_
      exact ih (k + 1) _ (by omega) (by omega) (by rw [mxw, hq])  ls (lv_sub hl [0, 1, 2] rfl)
set_option maxHeartbeats 4000000 in
set_option maxRecDepth 100000 in
theorem c_X2_elementAt (l : Launch) {D : va_G} {x u i g w n cn cnt : Nat} {ids : Nat → Int32} {ad : Nat → Nat} {f : Nat → Nat → Int32} (v1 : Int32)  : Met l yX2_elementAt (gws yX2_elementAt cX2_elementAt 4 (some (.object "ListWeave$Element"))) { frames := 1, cells := 0, slots := 0, locals := 20 } (va_Pc [.ref x, .int v1] (fun U => RdC D x u i g w n cn cnt ids ad f U U.heap)) (va_Sq (fun r => At (fun k => f (ad k) 0) (fun k => f (ad k) 5) ad n v1 r)) 0 0 (fun _ => False) := by
  refine met_go (by decide) (Nat.le_of_ble_eq_true rfl) ?_
  intro p e s m below meth c ls S hr hlocks hnm hC hl
  obtain ⟨hx, hb, hml, hown, hg⟩ := id S
  have hl : lv_has ls 4 [(0, .ref x), (1, .int v1)] := hl
  have hn := hC.n
  refine lv_iconst (v := nI 0) hx hb dX2_elementAt_0 (by decide) ?_
  refine lv_istore_n (lv' := [(2, .int (nI 0)), (0, .ref x), (1, .int v1)]) hx hb dX2_elementAt_1 rfl hl (by decide) rfl (fun ls hl => ?_)
  refine lv_iconst (v := nI 0) hx hb dX2_elementAt_2 (by decide) ?_
  refine lv_istore_n (lv' := [(3, .int (nI 0)), (2, .int (nI 0)), (0, .ref x), (1, .int v1)]) hx hb dX2_elementAt_3 rfl hl (by decide) rfl (fun ls hl => ?_)
  suffices hloop : ∀ (fuel : Nat) (k q : Nat), k ≤ n → n - k < fuel → q = vis (fun k => f (ad k) 5) k → (∀ j, j < k → f (ad j) 5 = 0 → ¬ nI (vis (fun k => f (ad k) 5) j) = v1) → ∀ ls : Array Slot, lv_has ls 4 [(3, .int (nI k)), (2, .int (nI q)), (0, .ref x), (1, .int v1)] → W p l e { frames := 1, cells := 0, slots := 0, locals := 20 } s m [.ref x, .int v1].toArray below meth c s.heap [] 0 0 (MQ below (va_Sq (fun r => At (fun k => f (ad k) 0) (fun k => f (ad k) 5) ad n v1 r)) [.ref x, .int v1].toArray s 0 0 (fun _ => False)) (F0 m 4 ls []) from hloop (n + 1) 0 0 (by omega) (by omega) rfl (fun _ h => absurd h (Nat.not_lt_zero _))  ls (lv_sub hl [0, 1, 2, 3] rfl)
  intro fuel
  induction fuel with
  | zero => intro k q hk hf hq hI; omega
  | succ fuel ih =>
    intro k q hk hf hq hI  ls hl
    refine lv_iload_n hx hb dX2_elementAt_4 rfl (lv_at hl 0 rfl) ?_
    refine lv_aload_n hx hb dX2_elementAt_5 rfl (lv_at hl 2 rfl) ?_
    refine rC_elements S hC dX2_elementAt_6 ?_
    refine lv_icmp_ge (tgt := 48) hx hb dX2_elementAt_9 (by decide) (fun c_9 => ?_) (fun c_9 => ?_)
    · rw [nI_leI (by omega) (by omega)] at c_9
      refine lv_null hx hb dX2_elementAt_48 ?_
      exact W.aret (v := .null) hx hb hr (Or.inl ⟨_, rfl⟩) (Or.inl rfl) (fun t9 ht9 _ => ⟨none, rfl, Or.inr ⟨fun j hj => hI j (by omega), rfl⟩, ht9⟩) (fun _ h => nomatch h) dX2_elementAt_49
    · rw [nI_leI (by omega) (by omega)] at c_9
      refine lv_aload_n hx hb dX2_elementAt_12 rfl (lv_at hl 2 rfl) ?_
      refine rC_woven S hC dX2_elementAt_13 ?_
      refine lv_iload_n hx hb dX2_elementAt_16 rfl (lv_at hl 0 rfl) ?_
      refine rC_ald S hC (by omega) dX2_elementAt_17 ?_
      refine vp_callSi (va_Run.run (runVN (As := []) (rest := []) (Bh := RdE D (ad k) (f (ad k))) S (c_X0_isVisible l ) (gw_self wk_192) (nk_189 hC.nw) wk_3 wk_191 wp_15 rfl rfl 0 rfl (by decide +kernel) (by decide) ⟨Nat.le_refl _, Nat.le_refl _⟩ (fun _ _ _ h q => RdE.mv h q) (RdE.recv (hC.E (Or.inr ⟨_, (by omega), rfl⟩))) (hC.E (Or.inr ⟨_, (by omega), rfl⟩)) hl.1 (Nat.le_of_ble_eq_true rfl) dX2_elementAt_18)) (fun r hr => ?_)
      rcases hr with ⟨h_18, rfl⟩ | ⟨h_18, rfl⟩
      · refine lv_if_ne (tgt := 27) hx hb dX2_elementAt_21 (by decide) (fun c_21 => ?_) (fun c_21 => ?_)
        · refine lv_iload_n hx hb dX2_elementAt_27 rfl (lv_at hl 1 rfl) ?_
          refine lv_iload_n hx hb dX2_elementAt_28 rfl (lv_at hl 3 rfl) ?_
          refine lv_icmp_ne (tgt := 39) hx hb dX2_elementAt_29 (by decide) (fun c_29 => ?_) (fun c_29 => ?_)
          · refine lv_iinc (v := nI (q + 1)) (lv' := [(2, .int (nI (q + 1))), (3, .int (nI k)), (0, .ref x), (1, .int v1)]) hx hb dX2_elementAt_39 hl (k := 1) rfl (nI_1 _) (by decide) rfl (fun ls hl => ?_)
            refine lv_iinc (v := nI (k + 1)) (lv' := [(3, .int (nI (k + 1))), (2, .int (nI (q + 1))), (0, .ref x), (1, .int v1)]) hx hb dX2_elementAt_42 hl (k := 1) rfl (nI_1 _) (by decide) rfl (fun ls hl => ?_)
            refine lv_goto (tgt := 4) hx hb dX2_elementAt_45 (by decide) ?_
            exact ih (k + 1) (q + 1) (by omega) (by omega) (vis_s hq h_18) (lt_s hI (fun _ => by rw [← hq]; exact c_29))  ls (lv_sub hl [0, 1, 2, 3] rfl)
          · refine lv_aload_n hx hb dX2_elementAt_32 rfl (lv_at hl 2 rfl) ?_
            refine rC_woven S hC dX2_elementAt_33 ?_
            refine lv_iload_n hx hb dX2_elementAt_36 rfl (lv_at hl 0 rfl) ?_
            refine rC_ald S hC (by omega) dX2_elementAt_37 ?_
            exact W.aret (v := .ref (ad k)) hx hb hr (Or.inl ⟨_, rfl⟩) (Or.inr ⟨_, rfl⟩) (fun t9 ht9 _ => ⟨some (ad k), rfl, Or.inl ⟨k, by omega, h_18, by rw [← hq]; exact c_29, rfl⟩, ht9⟩) (fun _ h => nomatch h) dX2_elementAt_38
        · exact absurd (show _ from c_21) (by decide)
      · refine lv_if_ne (tgt := 27) hx hb dX2_elementAt_21 (by decide) (fun c_21 => ?_) (fun c_21 => ?_)
        · exact absurd (show _ from c_21) (by decide)
        · refine lv_goto (tgt := 42) hx hb dX2_elementAt_24 (by decide) ?_
          refine lv_iinc (v := nI (k + 1)) (lv' := [(3, .int (nI (k + 1))), (2, .int (nI q)), (0, .ref x), (1, .int v1)]) hx hb dX2_elementAt_42 hl (k := 0) rfl (nI_1 _) (by decide) rfl (fun ls hl => ?_)
          refine lv_goto (tgt := 4) hx hb dX2_elementAt_45 (by decide) ?_
          exact ih (k + 1) q (by omega) (by omega) (vis_n hq h_18) (lt_s hI (fun z => absurd z h_18))  ls (lv_sub hl [0, 1, 2, 3] rfl)
set_option maxHeartbeats 4000000 in
set_option maxRecDepth 100000 in
theorem c_X2_isFree (l : Launch) {D : va_G} {x u i g w n cn cnt : Nat} {ids : Nat → Int32} {ad : Nat → Nat} {f : Nat → Nat → Int32} (v1 : Int32) (hs : Srt ids cnt) : Met l yX2_isFree (gws yX2_isFree cX2_isFree 2 (some .boolean)) { frames := 2, cells := 0, slots := 0, locals := 46 } (va_Pc [.ref x, .int v1] (fun U => RdC D x u i g w n cn cnt ids ad f U U.heap)) (vp_Si (fun r => (Fre ids cnt v1 ∧ r = 1) ∨ (¬ Fre ids cnt v1 ∧ r = 0))) 0 0 (fun _ => False) := by
  refine met_go (by decide) (Nat.le_of_ble_eq_true rfl) ?_
  intro p e s m below meth c ls S hr hlocks hnm hC hl
  obtain ⟨hx, hb, hml, hown, hg⟩ := id S
  have hl : lv_has ls 2 [(0, .ref x), (1, .int v1)] := hl
  have hn := hC.n
  refine lv_iload_n hx hb dX2_isFree_0 rfl (lv_at hl 1 rfl) ?_
  refine lv_bipush (v := 8) hx hb dX2_isFree_1 (by decide) ?_
  refine lv_icmp_lt (tgt := 27) hx hb dX2_isFree_3 (by decide) (fun c_3 => ?_) (fun c_3 => ?_)
  · refine lv_iconst (v := 0) hx hb dX2_isFree_27 (by decide) ?_
    exact W.zret (v := 0) hx hb hr rfl (fun t9 ht9 _ => ⟨_, rfl, Or.inr ⟨fun z => z.1 c_3, rfl⟩, ht9⟩) (fun _ h => nomatch h) dX2_isFree_28
  · refine lv_iload_n hx hb dX2_isFree_6 rfl (lv_at hl 1 rfl) ?_
    refine lv_ldc (v := 800007) hx hb hown (hg _ wk_122) dX2_isFree_7 ?_
    refine lv_icmp_gt (tgt := 27) hx hb dX2_isFree_9 (by decide) (fun c_9 => ?_) (fun c_9 => ?_)
    · refine lv_iconst (v := 0) hx hb dX2_isFree_27 (by decide) ?_
      exact W.zret (v := 0) hx hb hr rfl (fun t9 ht9 _ => ⟨_, rfl, Or.inr ⟨fun z => z.2.1 c_9, rfl⟩, ht9⟩) (fun _ h => nomatch h) dX2_isFree_28
    · refine lv_aload_n hx hb dX2_isFree_12 rfl (lv_at hl 0 rfl) ?_
      refine rC_used S hC dX2_isFree_13 ?_
      refine lv_iload_n hx hb dX2_isFree_16 rfl (lv_at hl 1 rfl) ?_
      refine vp_callSi (va_Run.run (runVN (As := [.int v1]) (rest := []) (Bh := RdU D u i cnt ids) S (c_X1_has l v1 hs) (gw_self wk_126) (nk_123 hC.nw) wk_2 wk_125 wp_5 rfl rfl 1 rfl (by decide +kernel) (by decide) ⟨Nat.le_refl _, Nat.le_refl _⟩ (fun _ _ _ h q => RdU.mv h q) hC.U.recv hC.U hl.1 (Nat.le_of_ble_eq_true rfl) dX2_isFree_17)) (fun r hr => ?_)
      rcases hr with ⟨h_17, rfl⟩ | ⟨h_17, rfl⟩
      · refine lv_if_ne (tgt := 27) hx hb dX2_isFree_20 (by decide) (fun c_20 => ?_) (fun c_20 => ?_)
        · refine lv_iconst (v := 0) hx hb dX2_isFree_27 (by decide) ?_
          exact W.zret (v := 0) hx hb hr rfl (fun t9 ht9 _ => ⟨_, rfl, Or.inr ⟨fun z => z.2.2 h_17, rfl⟩, ht9⟩) (fun _ h => nomatch h) dX2_isFree_28
        · exact absurd (show _ from c_20) (by decide)
      · refine lv_if_ne (tgt := 27) hx hb dX2_isFree_20 (by decide) (fun c_20 => ?_) (fun c_20 => ?_)
        · exact absurd (show _ from c_20) (by decide)
        · refine lv_iconst (v := 1) hx hb dX2_isFree_23 (by decide) ?_
          refine lv_goto (tgt := 28) hx hb dX2_isFree_24 (by decide) ?_
          exact W.zret (v := 1) hx hb hr rfl (fun t9 ht9 _ => ⟨_, rfl, Or.inl ⟨⟨c_3, c_9, h_17⟩, rfl⟩, ht9⟩) (fun _ h => nomatch h) dX2_isFree_28
set_option maxHeartbeats 4000000 in
set_option maxRecDepth 100000 in
theorem c_X2_areFree (l : Launch) {D : va_G} {x u i g w n cn cnt : Nat} {ids : Nat → Int32} {ad : Nat → Nat} {f : Nat → Nat → Int32} (v1 : Int32) (M : Nat) (hs : Srt ids cnt) (hM8 : M ≤ 8) : Met l yX2_areFree (gws yX2_areFree cX2_areFree 4 (some .boolean)) { frames := 3, cells := 0, slots := 0, locals := 67 } (va_Pc [.ref x, .int v1, .int (nI M)] (fun U => RdC D x u i g w n cn cnt ids ad f U U.heap)) (vp_Si (fun r => ((∀ k, k < M → Fre ids cnt (v1 + 8 * nI k)) ∧ r = 1) ∨ ((¬ ∀ k, k < M → Fre ids cnt (v1 + 8 * nI k)) ∧ r = 0))) 0 0 (fun _ => False) := by
  refine met_go (by decide) (Nat.le_of_ble_eq_true rfl) ?_
  intro p e s m below meth c ls S hr hlocks hnm hC hl
  obtain ⟨hx, hb, hml, hown, hg⟩ := id S
  have hl : lv_has ls 4 [(0, .ref x), (1, .int v1), (2, .int (nI M))] := hl
  have hn := hC.n
  refine lv_iconst (v := nI 0) hx hb dX2_areFree_0 (by decide) ?_
  refine lv_istore_n (lv' := [(3, .int (nI 0)), (0, .ref x), (1, .int v1), (2, .int (nI M))]) hx hb dX2_areFree_1 rfl hl (by decide) rfl (fun ls hl => ?_)
  suffices hloop : ∀ (fuel : Nat) (k : Nat), k ≤ M → M - k < fuel → (∀ j, j < k → Fre ids cnt (v1 + 8 * nI j)) → ∀ ls : Array Slot, lv_has ls 4 [(3, .int (nI k)), (0, .ref x), (1, .int v1), (2, .int (nI M))] → W p l e { frames := 3, cells := 0, slots := 0, locals := 67 } s m [.ref x, .int v1, .int (nI M)].toArray below meth c s.heap [] 0 0 (MQ below (vp_Si (fun r => ((∀ k, k < M → Fre ids cnt (v1 + 8 * nI k)) ∧ r = 1) ∨ ((¬ ∀ k, k < M → Fre ids cnt (v1 + 8 * nI k)) ∧ r = 0))) [.ref x, .int v1, .int (nI M)].toArray s 0 0 (fun _ => False)) (F0 m 2 ls []) from hloop (M + 1) 0 (by omega) (by omega) (fun _ h => absurd h (Nat.not_lt_zero _))  ls (lv_sub hl [0, 1, 2, 3] rfl)
  intro fuel
  induction fuel with
  | zero => intro k hk hf hI; omega
  | succ fuel ih =>
    intro k hk hf hI  ls hl
    refine lv_iload_n hx hb dX2_areFree_2 rfl (lv_at hl 0 rfl) ?_
    refine lv_iload_n hx hb dX2_areFree_3 rfl (lv_at hl 3 rfl) ?_
    refine lv_icmp_ge (tgt := 28) hx hb dX2_areFree_4 (by decide) (fun c_4 => ?_) (fun c_4 => ?_)
    · rw [nI_leI (by omega) (by omega)] at c_4
      refine lv_iconst (v := 1) hx hb dX2_areFree_28 (by decide) ?_
      exact W.zret (v := 1) hx hb hr rfl (fun t9 ht9 _ => ⟨_, rfl, Or.inl ⟨fun j hj => hI j (by omega), rfl⟩, ht9⟩) (fun _ h => nomatch h) dX2_areFree_29
    · rw [nI_leI (by omega) (by omega)] at c_4
      refine lv_aload_n hx hb dX2_areFree_7 rfl (lv_at hl 1 rfl) ?_
      refine lv_iload_n hx hb dX2_areFree_8 rfl (lv_at hl 2 rfl) ?_
      refine lv_bipush (v := 8) hx hb dX2_areFree_9 (by decide) ?_
      refine lv_iload_n hx hb dX2_areFree_11 rfl (lv_at hl 0 rfl) ?_
      refine lv_imul hx hb dX2_areFree_12 ?_
      refine lv_iadd hx hb dX2_areFree_13 ?_
      refine vp_callSi (va_Run.run (runV (As := [.int (v1 + (8 * (nI k)))]) (rest := []) (Bh := RdC D x u i g w n cn cnt ids ad f) S (c_X2_isFree l (v1 + (8 * (nI k))) hs) (gw_V wk_118 wk_120 wp_4 wk_1 wk_121) rfl rfl 1 rfl (by decide +kernel) (by decide) ⟨Nat.le_refl _, Nat.le_refl _⟩ (fun _ _ _ h q => RdC.mv h q) hC.recv hC hl.1 (Nat.le_of_ble_eq_true rfl) dX2_areFree_14)) (fun r hr => ?_)
      rcases hr with ⟨h_14, rfl⟩ | ⟨h_14, rfl⟩
      · refine lv_if_ne (tgt := 22) hx hb dX2_areFree_17 (by decide) (fun c_17 => ?_) (fun c_17 => ?_)
        · refine lv_iinc (v := nI (k + 1)) (lv' := [(3, .int (nI (k + 1))), (0, .ref x), (1, .int v1), (2, .int (nI M))]) hx hb dX2_areFree_22 hl (k := 0) rfl (nI_1 _) (by decide) rfl (fun ls hl => ?_)
          refine lv_goto (tgt := 2) hx hb dX2_areFree_25 (by decide) ?_
          exact ih (k + 1) (by omega) (by omega) (lt_s hI h_14)  ls (lv_sub hl [0, 1, 2, 3] rfl)
        · exact absurd (show _ from c_17) (by decide)
      · refine lv_if_ne (tgt := 22) hx hb dX2_areFree_17 (by decide) (fun c_17 => ?_) (fun c_17 => ?_)
        · exact absurd (show _ from c_17) (by decide)
        · refine lv_iconst (v := 0) hx hb dX2_areFree_20 (by decide) ?_
          exact W.zret (v := 0) hx hb hr rfl (fun t9 ht9 _ => ⟨_, rfl, Or.inr ⟨fun z => h_14 (z k (by omega)), rfl⟩, ht9⟩) (fun _ h => nomatch h) dX2_areFree_21
set_option maxHeartbeats 4000000 in
set_option maxRecDepth 100000 in
theorem c_X2_isKind (l : Launch)  (v1 : Int32)  : Met l yX2_isKind (gws yX2_isKind cX2_isKind 1 (some .boolean)) { frames := 0, cells := 0, slots := 0, locals := 0 } (va_Pc [.int v1] (fun _ => True)) (vp_Si (fun r => ((¬ v1 < 0 ∧ ¬ 7 ≤ v1) ∧ r = 1) ∨ ((¬ (¬ v1 < 0 ∧ ¬ 7 ≤ v1)) ∧ r = 0))) 0 0 (fun _ => False) := by
  refine met_go (by decide) (Nat.le_of_ble_eq_true rfl) ?_
  intro p e s m below meth c ls S hr hlocks hnm _hT hl
  obtain ⟨hx, hb, hml, hown, hg⟩ := id S
  have hl : lv_has ls 1 [(0, .int v1)] := hl
  refine lv_iload_n hx hb dX2_isKind_0 rfl (lv_at hl 0 rfl) ?_
  refine lv_if_lt (tgt := 14) hx hb dX2_isKind_1 (by decide) (fun c_1 => ?_) (fun c_1 => ?_)
  · refine lv_iconst (v := 0) hx hb dX2_isKind_14 (by decide) ?_
    exact W.zret (v := 0) hx hb hr rfl (fun t9 ht9 _ => ⟨_, rfl, Or.inr ⟨fun z => z.1 c_1, rfl⟩, ht9⟩) (fun _ h => nomatch h) dX2_isKind_15
  · refine lv_iload_n hx hb dX2_isKind_4 rfl (lv_at hl 0 rfl) ?_
    refine lv_bipush (v := 7) hx hb dX2_isKind_5 (by decide) ?_
    refine lv_icmp_ge (tgt := 14) hx hb dX2_isKind_7 (by decide) (fun c_7 => ?_) (fun c_7 => ?_)
    · refine lv_iconst (v := 0) hx hb dX2_isKind_14 (by decide) ?_
      exact W.zret (v := 0) hx hb hr rfl (fun t9 ht9 _ => ⟨_, rfl, Or.inr ⟨fun z => z.2 c_7, rfl⟩, ht9⟩) (fun _ h => nomatch h) dX2_isKind_15
    · refine lv_iconst (v := 1) hx hb dX2_isKind_10 (by decide) ?_
      refine lv_goto (tgt := 15) hx hb dX2_isKind_11 (by decide) ?_
      exact W.zret (v := 1) hx hb hr rfl (fun t9 ht9 _ => ⟨_, rfl, Or.inl ⟨⟨c_1, c_7⟩, rfl⟩, ht9⟩) (fun _ h => nomatch h) dX2_isKind_15
set_option maxHeartbeats 4000000 in
set_option maxRecDepth 100000 in
theorem c_X2_mayChange (l : Launch) {D : va_G} {x u i g w n cn cnt : Nat} {ids : Nat → Int32} {ad : Nat → Nat} {f : Nat → Nat → Int32} (v1 : Int32) (v2 : Int32) (hs : Srt ids cnt) : Met l yX2_mayChange (gws yX2_mayChange cX2_mayChange 3 (some .boolean)) { frames := 3, cells := 0, slots := 0, locals := 67 } (va_Pc [.ref x, .int v1, .int v2] (fun U => RdC D x u i g w n cn cnt ids ad f U U.heap)) (vp_Si (fun r => ((Fre ids cnt v1 ∧ ¬ v1 ≤ v2 ∧ cn < 1024) ∧ r = 1) ∨ ((¬ (Fre ids cnt v1 ∧ ¬ v1 ≤ v2 ∧ cn < 1024)) ∧ r = 0))) 0 0 (fun _ => False) := by
  refine met_go (by decide) (Nat.le_of_ble_eq_true rfl) ?_
  intro p e s m below meth c ls S hr hlocks hnm hC hl
  obtain ⟨hx, hb, hml, hown, hg⟩ := id S
  have hl : lv_has ls 3 [(0, .ref x), (1, .int v1), (2, .int v2)] := hl
  have hn := hC.n
  refine lv_aload_n hx hb dX2_mayChange_0 rfl (lv_at hl 0 rfl) ?_
  refine lv_iload_n hx hb dX2_mayChange_1 rfl (lv_at hl 1 rfl) ?_
  refine vp_callSi (va_Run.run (runV (As := [.int v1]) (rest := []) (Bh := RdC D x u i g w n cn cnt ids ad f) S (c_X2_isFree l v1 hs) (gw_V wk_118 wk_120 wp_4 wk_1 wk_121) rfl rfl 1 rfl (by decide +kernel) (by decide) ⟨Nat.le_refl _, Nat.le_refl _⟩ (fun _ _ _ h q => RdC.mv h q) hC.recv hC hl.1 (Nat.le_of_ble_eq_true rfl) dX2_mayChange_2)) (fun r hr => ?_)
  rcases hr with ⟨h_2, rfl⟩ | ⟨h_2, rfl⟩
  · refine lv_if_eq (tgt := 27) hx hb dX2_mayChange_5 (by decide) (fun c_5 => ?_) (fun c_5 => ?_)
    · exact absurd (show _ from c_5) (by decide)
    · refine lv_iload_n hx hb dX2_mayChange_8 rfl (lv_at hl 1 rfl) ?_
      refine lv_iload_n hx hb dX2_mayChange_9 rfl (lv_at hl 2 rfl) ?_
      refine lv_icmp_le (tgt := 27) hx hb dX2_mayChange_10 (by decide) (fun c_10 => ?_) (fun c_10 => ?_)
      · refine lv_iconst (v := 0) hx hb dX2_mayChange_27 (by decide) ?_
        exact W.zret (v := 0) hx hb hr rfl (fun t9 ht9 _ => ⟨_, rfl, Or.inr ⟨fun z => z.2.1 c_10, rfl⟩, ht9⟩) (fun _ h => nomatch h) dX2_mayChange_28
      · refine lv_aload_n hx hb dX2_mayChange_13 rfl (lv_at hl 0 rfl) ?_
        refine rC_changes S hC dX2_mayChange_14 ?_
        refine lv_sipush (v := nI 1024) hx hb dX2_mayChange_17 (by decide) ?_
        refine lv_icmp_ge (tgt := 27) hx hb dX2_mayChange_20 (by decide) (fun c_20 => ?_) (fun c_20 => ?_)
        · rw [nI_leI (by omega) (by omega)] at c_20
          refine lv_iconst (v := 0) hx hb dX2_mayChange_27 (by decide) ?_
          exact W.zret (v := 0) hx hb hr rfl (fun t9 ht9 _ => ⟨_, rfl, Or.inr ⟨fun z => absurd z.2.2 (by omega), rfl⟩, ht9⟩) (fun _ h => nomatch h) dX2_mayChange_28
        · rw [nI_leI (by omega) (by omega)] at c_20
          refine lv_iconst (v := 1) hx hb dX2_mayChange_23 (by decide) ?_
          refine lv_goto (tgt := 28) hx hb dX2_mayChange_24 (by decide) ?_
          exact W.zret (v := 1) hx hb hr rfl (fun t9 ht9 _ => ⟨_, rfl, Or.inl ⟨⟨h_2, c_10, by omega⟩, rfl⟩, ht9⟩) (fun _ h => nomatch h) dX2_mayChange_28
  · refine lv_if_eq (tgt := 27) hx hb dX2_mayChange_5 (by decide) (fun c_5 => ?_) (fun c_5 => ?_)
    · refine lv_iconst (v := 0) hx hb dX2_mayChange_27 (by decide) ?_
      exact W.zret (v := 0) hx hb hr rfl (fun t9 ht9 _ => ⟨_, rfl, Or.inr ⟨fun z => h_2 z.1, rfl⟩, ht9⟩) (fun _ h => nomatch h) dX2_mayChange_28
    · exact absurd (show _ from c_5) (by decide)
set_option maxHeartbeats 4000000 in
set_option maxRecDepth 100000 in
theorem c_X2_byteOf (l : Launch)  (v1 : Int64) (v2 : Int32)  : Met l yX2_byteOf (gws yX2_byteOf cX2_byteOf 3 (some .int)) { frames := 0, cells := 0, slots := 0, locals := 0 } (va_Pc [.long v1, .int v2] (fun _ => True)) (vp_Si (fun r => r = ((v1.toUInt64 >>> ((8 * v2).toInt64.toUInt64 &&& Int64.toUInt64 63)).toInt64 &&& 255).toInt32)) 0 0 (fun _ => False) := by
  refine met_go (by decide) (Nat.le_of_ble_eq_true rfl) ?_
  intro p e s m below meth c ls S hr hlocks hnm _hT hl
  obtain ⟨hx, hb, hml, hown, hg⟩ := id S
  have hl : lv_has ls 3 [(0, .long v1), (2, .int v2)] := hl
  refine lv_lload_n hx hb dX2_byteOf_0 rfl (lv_at hl 0 rfl) ?_
  refine lv_bipush (v := 8) hx hb dX2_byteOf_1 (by decide) ?_
  refine lv_iload_n hx hb dX2_byteOf_3 rfl (lv_at hl 1 rfl) ?_
  refine lv_imul hx hb dX2_byteOf_4 ?_
  refine lv_lushr (v := (v1.toUInt64 >>> ((8 * v2).toInt64.toUInt64 &&& Int64.toUInt64 63)).toInt64) hx hb dX2_byteOf_5 rfl ?_
  refine lv_ldc2 (v := 255) hx hb hown (hg _ wk_164) dX2_byteOf_6 ?_
  refine lv_land hx hb dX2_byteOf_9 ?_
  refine lv_l2i (v := (((v1.toUInt64 >>> ((8 * v2).toInt64.toUInt64 &&& Int64.toUInt64 63)).toInt64) &&& 255).toInt32) hx hb dX2_byteOf_10 rfl ?_
  exact W.iret (v := ((((v1.toUInt64 >>> ((8 * v2).toInt64.toUInt64 &&& Int64.toUInt64 63)).toInt64) &&& 255).toInt32)) hx hb hr (fun t9 ht9 _ => ⟨_, rfl, rfl, ht9⟩) (fun _ h => nomatch h) dX2_byteOf_11
set_option maxHeartbeats 4000000 in
set_option maxRecDepth 100000 in
theorem c_X2_size (l : Launch) {D : va_G} {x u i g w n cn cnt : Nat} {ids : Nat → Int32} {ad : Nat → Nat} {f : Nat → Nat → Int32}   : Met l yX2_size (gws yX2_size cX2_size 1 (some .int)) { frames := 2, cells := 0, slots := 0, locals := 43 } (va_Pc [.ref x] (fun U => RdC D x u i g w n cn cnt ids ad f U U.heap)) (vp_Si (fun r => r = nI (vis (fun k => f (ad k) 5) n))) 0 0 (fun _ => False) := by
  refine met_go (by decide) (Nat.le_of_ble_eq_true rfl) ?_
  intro p e s m below meth c ls S hr hlocks hnm hC hl
  obtain ⟨hx, hb, hml, hown, hg⟩ := id S
  have hl : lv_has ls 1 [(0, .ref x)] := hl
  have hn := hC.n
  refine lv_aload_n hx hb dX2_size_0 rfl (lv_at hl 0 rfl) ?_
  refine lv_aload_n hx hb dX2_size_1 rfl (lv_at hl 0 rfl) ?_
  refine rC_elements S hC dX2_size_2 ?_
  refine vp_callSi (va_Run.run (runV (As := [.int (nI n)]) (rest := []) (Bh := RdC D x u i g w n cn cnt ids ad f) S (c_X2_visibleUpTo l n (by omega)) (gw_V wk_185 wk_187 wp_14 wk_1 wk_188) rfl rfl 1 rfl (by decide +kernel) (by decide) ⟨Nat.le_refl _, Nat.le_refl _⟩ (fun _ _ _ h q => RdC.mv h q) hC.recv hC hl.1 (Nat.le_of_ble_eq_true rfl) dX2_size_5)) (fun r_5 hr_5 => ?_)
  subst hr_5
  exact W.iret (v := (nI (vis (fun k => f (ad k) 5) n))) hx hb hr (fun t9 ht9 _ => ⟨_, rfl, rfl, ht9⟩) (fun _ h => nomatch h) dX2_size_8
set_option maxHeartbeats 4000000 in
set_option maxRecDepth 100000 in
theorem c_X2_place (l : Launch) {D : va_G} {x u i g w n cn cnt : Nat} {ids : Nat → Int32} {ad : Nat → Nat} {f : Nat → Nat → Int32} (v1 : Int32)  : Met l yX2_place (gws yX2_place cX2_place 3 (some .int)) { frames := 2, cells := 0, slots := 0, locals := 43 } (va_Pc [.ref x, .int v1] (fun U => RdC D x u i g w n cn cnt ids ad f U U.heap)) (vp_Si (fun r => (∃ k, k < n ∧ f (ad k) 0 = v1 ∧ f (ad k) 5 = 0 ∧ r = nI (vis (fun k => f (ad k) 5) k)) ∨ (((∀ k, k < n → ¬ f (ad k) 0 = v1) ∨ ∃ k, k < n ∧ f (ad k) 0 = v1 ∧ ¬ f (ad k) 5 = 0) ∧ r = -1))) 0 0 (fun _ => False) := by
  refine met_go (by decide) (Nat.le_of_ble_eq_true rfl) ?_
  intro p e s m below meth c ls S hr hlocks hnm hC hl
  obtain ⟨hx, hb, hml, hown, hg⟩ := id S
  have hl : lv_has ls 3 [(0, .ref x), (1, .int v1)] := hl
  have hn := hC.n
  refine lv_aload_n hx hb dX2_place_0 rfl (lv_at hl 0 rfl) ?_
  refine lv_iload_n hx hb dX2_place_1 rfl (lv_at hl 1 rfl) ?_
  refine vp_callSi (va_Run.run (runV (As := [.int v1]) (rest := []) (Bh := RdC D x u i g w n cn cnt ids ad f) S (c_X2_rowOf l v1) (gw_V wk_114 wk_116 wp_3 wk_1 wk_117) rfl rfl 1 rfl (by decide +kernel) (by decide) ⟨Nat.le_refl _, Nat.le_refl _⟩ (fun _ _ _ h q => RdC.mv h q) hC.recv hC hl.1 (Nat.le_of_ble_eq_true rfl) dX2_place_2)) (fun r hr => ?_)
  rcases hr with ⟨k_2, hk_2, he_2, hf_2, rfl⟩ | ⟨hn_2, rfl⟩
  · refine lv_istore_n (lv' := [(2, .int (nI k_2)), (0, .ref x), (1, .int v1)]) hx hb dX2_place_5 rfl hl (by decide) rfl (fun ls hl => ?_)
    refine lv_iload_n hx hb dX2_place_6 rfl (lv_at hl 0 rfl) ?_
    refine lv_iconst (v := (-1)) hx hb dX2_place_7 (by decide) ?_
    refine lv_icmp_eq (tgt := 23) hx hb dX2_place_8 (by decide) (fun c_8 => ?_) (fun c_8 => ?_)
    · exact absurd c_8 (int_m1_ne _ (by omega))
    · refine lv_aload_n hx hb dX2_place_11 rfl (lv_at hl 1 rfl) ?_
      refine rC_woven S hC dX2_place_12 ?_
      refine lv_iload_n hx hb dX2_place_15 rfl (lv_at hl 0 rfl) ?_
      refine rC_ald S hC hk_2 dX2_place_16 ?_
      refine vp_callSi (va_Run.run (runVN (As := []) (rest := []) (Bh := RdE D (ad k_2) (f (ad k_2))) S (c_X0_isVisible l ) (gw_self wk_192) (nk_189 hC.nw) wk_3 wk_191 wp_15 rfl rfl 0 rfl (by decide +kernel) (by decide) ⟨Nat.le_refl _, Nat.le_refl _⟩ (fun _ _ _ h q => RdE.mv h q) (RdE.recv (hC.E (Or.inr ⟨_, hk_2, rfl⟩))) (hC.E (Or.inr ⟨_, hk_2, rfl⟩)) hl.1 (Nat.le_of_ble_eq_true rfl) dX2_place_17)) (fun r hr => ?_)
      rcases hr with ⟨h_17, rfl⟩ | ⟨h_17, rfl⟩
      · refine lv_if_ne (tgt := 25) hx hb dX2_place_20 (by decide) (fun c_20 => ?_) (fun c_20 => ?_)
        · refine lv_aload_n hx hb dX2_place_25 rfl (lv_at hl 1 rfl) ?_
          refine lv_iload_n hx hb dX2_place_26 rfl (lv_at hl 0 rfl) ?_
          refine vp_callSi (va_Run.run (runV (As := [.int (nI k_2)]) (rest := []) (Bh := RdC D x u i g w n cn cnt ids ad f) S (c_X2_visibleUpTo l k_2 (by omega)) (gw_V wk_185 wk_187 wp_14 wk_1 wk_188) rfl rfl 1 rfl (by decide +kernel) (by decide) ⟨Nat.le_refl _, Nat.le_refl _⟩ (fun _ _ _ h q => RdC.mv h q) hC.recv hC hl.1 (Nat.le_of_ble_eq_true rfl) dX2_place_27)) (fun r_27 hr_27 => ?_)
          subst hr_27
          exact W.iret (v := (nI (vis (fun k => f (ad k) 5) k_2))) hx hb hr (fun t9 ht9 _ => ⟨_, rfl, Or.inl ⟨k_2, hk_2, he_2, h_17, rfl⟩, ht9⟩) (fun _ h => nomatch h) dX2_place_30
        · exact absurd (show _ from c_20) (by decide)
      · refine lv_if_ne (tgt := 25) hx hb dX2_place_20 (by decide) (fun c_20 => ?_) (fun c_20 => ?_)
        · exact absurd (show _ from c_20) (by decide)
        · refine lv_iconst (v := (-1)) hx hb dX2_place_23 (by decide) ?_
          exact W.iret (v := (-1)) hx hb hr (fun t9 ht9 _ => ⟨_, rfl, Or.inr ⟨Or.inr ⟨k_2, hk_2, he_2, h_17⟩, rfl⟩, ht9⟩) (fun _ h => nomatch h) dX2_place_24
  · refine lv_istore_n (lv' := [(2, .int (-1)), (0, .ref x), (1, .int v1)]) hx hb dX2_place_5 rfl hl (by decide) rfl (fun ls hl => ?_)
    refine lv_iload_n hx hb dX2_place_6 rfl (lv_at hl 0 rfl) ?_
    refine lv_iconst (v := (-1)) hx hb dX2_place_7 (by decide) ?_
    refine lv_icmp_eq (tgt := 23) hx hb dX2_place_8 (by decide) (fun c_8 => ?_) (fun c_8 => ?_)
    · refine lv_iconst (v := (-1)) hx hb dX2_place_23 (by decide) ?_
      exact W.iret (v := (-1)) hx hb hr (fun t9 ht9 _ => ⟨_, rfl, Or.inr ⟨Or.inl hn_2, rfl⟩, ht9⟩) (fun _ h => nomatch h) dX2_place_24
    · exact absurd (show _ from c_8) (by decide)
