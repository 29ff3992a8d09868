theorem smt_s {g kd vl : Nat → Int32} {v1 v2 : Int32} {k q : Nat} {t : Int64} (hq : q = vis g k) (ht : t = smt g kd vl v1 v2 k) (h : g k = 0) (h1 : v1 ≤ nI q) (h2 : nI q < v2) (h3 : kd k = 2) : t + (vl k).toInt64 = smt g kd vl v1 v2 (k + 1) := by
  rw [smt, if_pos ⟨h, by rw [← hq]; exact h1, by rw [← hq]; exact h2, h3⟩, ht]
theorem smt_n {g kd vl : Nat → Int32} {v1 v2 : Int32} {k q : Nat} {t : Int64} (hq : q = vis g k) (ht : t = smt g kd vl v1 v2 k) (h : ¬ (g k = 0 ∧ v1 ≤ nI q ∧ nI q < v2 ∧ kd k = 2)) : t = smt g kd vl v1 v2 (k + 1) := by
  rw [smt, if_neg (by rw [← hq]; exact h), i64_z, ht]
/-- where the new one's search begins: behind the parent -/
def Par (f : Nat → Nat → Int32) (ad : Nat → Nat) (n g b T : Nat) : Prop := (g = b ∧ f g 0 = 0 ∧ 0 = T) ∨ ∃ t, t < n ∧ ad t = b ∧ t + 1 = T ∧ ¬ f (ad t) 0 = 0 ∧ ∀ k, k < n → f (ad k) 0 = f (ad t) 0 → k = t
def Lie (L : Nat → Int32) (n T : Nat) (v : Int32) (q : Nat) : Prop := T ≤ q ∧ q ≤ n ∧ (∀ j, T ≤ j → j < q → v < L j) ∧ (q < n → ¬ v < L q)
theorem lie_s {L : Nat → Int32} {T k : Nat} {v : Int32} (h : ∀ j, T ≤ j → j < k → v < L j) (hk : v < L k) : ∀ j, T ≤ j → j < k + 1 → v < L j := fun j h1 h2 => by
  rcases Nat.lt_or_eq_of_le (Nat.lt_succ_iff.mp h2) with z | z
  · exact h j h1 z
  · rw [z]; exact hk
set_option maxHeartbeats 4000000 in
set_option maxRecDepth 100000 in
theorem c_X2_sum (l : Launch) {D : va_G} {x u i g w n cn cnt : Nat} {ids : Nat → Int32} {ad : Nat → Nat} {f : Nat → Nat → Int32} (v1 : Int32) (v2 : Int32)  : Met l yX2_sum (gws yX2_sum cX2_sum 8 (some .long)) { frames := 1, cells := 0, slots := 0, locals := 20 } (va_Pc [.ref x, .int v1, .int v2] (fun U => RdC D x u i g w n cn cnt ids ad f U U.heap)) (vp_Sl (fun r => r = smt (fun k => f (ad k) 5) (fun k => f (ad k) 7) (fun k => f (ad k) 8) v1 v2 n)) 0 0 (fun _ => False) := by
  refine met_go (by decide) (Nat.le_of_ble_eq_true rfl) ?_
  intro p e s m below meth c ls S hr hlocks hnm hC hl
  obtain ⟨hx, hb, hml, hown, hg⟩ := id S
  have hl : lv_has ls 8 [(0, .ref x), (1, .int v1), (2, .int v2)] := hl
  have hn := hC.n
  refine lv_lconst (v := 0) hx hb dX2_sum_0 (by decide) ?_
  refine lv_lstore_n (lv' := [(3, .long 0), (0, .ref x), (1, .int v1), (2, .int v2)]) hx hb dX2_sum_1 rfl hl (by decide) rfl (fun ls hl => ?_)
  refine lv_iconst (v := nI 0) hx hb dX2_sum_2 (by decide) ?_
  refine lv_istore (lv' := [(5, .int (nI 0)), (3, .long 0), (0, .ref x), (1, .int v1), (2, .int v2)]) hx hb dX2_sum_3 hl (by decide) rfl (fun ls hl => ?_)
  refine lv_iconst (v := nI 0) hx hb dX2_sum_5 (by decide) ?_
  refine lv_istore (lv' := [(6, .int (nI 0)), (5, .int (nI 0)), (3, .long 0), (0, .ref x), (1, .int v1), (2, .int v2)]) hx hb dX2_sum_6 hl (by decide) rfl (fun ls hl => ?_)
  suffices hloop : ∀ (fuel : Nat) (k q : Nat) (t : Int64), k ≤ n → n - k < fuel → q = vis (fun k => f (ad k) 5) k → t = smt (fun k => f (ad k) 5) (fun k => f (ad k) 7) (fun k => f (ad k) 8) v1 v2 k → ∀ ls : Array Slot, lv_has ls 8 [(6, .int (nI k)), (5, .int (nI q)), (3, .long t), (0, .ref x), (1, .int v1), (2, .int v2)] → W p l e { frames := 1, cells := 0, slots := 0, locals := 20 } s m [.ref x, .int v1, .int v2].toArray below meth c s.heap [] 0 0 (MQ below (vp_Sl (fun r => r = smt (fun k => f (ad k) 5) (fun k => f (ad k) 7) (fun k => f (ad k) 8) v1 v2 n)) [.ref x, .int v1, .int v2].toArray s 0 0 (fun _ => False)) (F0 m 8 ls []) from hloop (n + 1) 0 0 0 (by omega) (by omega) rfl rfl  ls (lv_sub hl [0, 1, 2, 3, 4, 5] rfl)
  intro fuel
  induction fuel with
  | zero => intro k q t hk hf hq ht; omega
  | succ fuel ih =>
    intro k q t hk hf hq ht  ls hl
    refine lv_iload hx hb dX2_sum_8 (lv_at hl 0 rfl) ?_
    refine lv_aload_n hx hb dX2_sum_10 rfl (lv_at hl 3 rfl) ?_
    refine rC_elements S hC dX2_sum_11 ?_
    refine lv_icmp_ge (tgt := 76) hx hb dX2_sum_14 (by decide) (fun c_14 => ?_) (fun c_14 => ?_)
    · rw [nI_leI (by omega) (by omega)] at c_14
      refine lv_lload_n hx hb dX2_sum_76 rfl (lv_at hl 2 rfl) ?_
      exact W.lret (v := t) hx hb hr (fun t9 ht9 _ => ⟨_, rfl, by rw [ht, show k = n by omega], ht9⟩) (fun _ h => nomatch h) dX2_sum_77
    · rw [nI_leI (by omega) (by omega)] at c_14
      refine lv_iload hx hb dX2_sum_17 (lv_at hl 1 rfl) ?_
      refine lv_iload_n hx hb dX2_sum_19 rfl (lv_at hl 5 rfl) ?_
      refine lv_icmp_ge (tgt := 76) hx hb dX2_sum_20 (by decide) (fun c_20 => ?_) (fun c_20 => ?_)
      · refine lv_lload_n hx hb dX2_sum_76 rfl (lv_at hl 2 rfl) ?_
        exact W.lret (v := t) hx hb hr (fun t9 ht9 _ => ⟨_, rfl, by rw [ht]; exact (smt_stop (by omega) (by omega) (by rw [← hq]; exact c_20)).symm, ht9⟩) (fun _ h => nomatch h) dX2_sum_77
      · refine lv_aload_n hx hb dX2_sum_23 rfl (lv_at hl 3 rfl) ?_
        refine rC_woven S hC dX2_sum_24 ?_
        refine lv_iload hx hb dX2_sum_27 (lv_at hl 0 rfl) ?_
        refine rC_ald S hC (by omega) dX2_sum_29 ?_
        refine lv_astore (lv' := [(7, .ref (ad k)), (6, .int (nI k)), (5, .int (nI q)), (3, .long t), (0, .ref x), (1, .int v1), (2, .int v2)]) hx hb dX2_sum_30 hl (by decide) rfl (fun ls hl => ?_)
        refine lv_aload hx hb dX2_sum_32 (lv_at hl 0 rfl) ?_
        refine vp_callSi (va_Run.run (runVN (As := []) (rest := []) (Bh := RdE D (ad k) (f (ad k))) S (c_X0_isVisible l ) (gw_self wk_192) (nk_189 hC.nw) wk_3 wk_191 wp_15 rfl rfl 0 rfl (by decide +kernel) (by decide) ⟨Nat.le_refl _, Nat.le_refl _⟩ (fun _ _ _ h q => RdE.mv h q) (RdE.recv (hC.E (Or.inr ⟨_, (by omega), rfl⟩))) (hC.E (Or.inr ⟨_, (by omega), rfl⟩)) hl.1 (Nat.le_of_ble_eq_true rfl) dX2_sum_34)) (fun r hr => ?_)
        rcases hr with ⟨h_34, rfl⟩ | ⟨h_34, rfl⟩
        · refine lv_if_ne (tgt := 43) hx hb dX2_sum_37 (by decide) (fun c_37 => ?_) (fun c_37 => ?_)
          · refine lv_iload hx hb dX2_sum_43 (lv_at hl 2 rfl) ?_
            refine lv_iload_n hx hb dX2_sum_45 rfl (lv_at hl 5 rfl) ?_
            refine lv_icmp_lt (tgt := 67) hx hb dX2_sum_46 (by decide) (fun c_46 => ?_) (fun c_46 => ?_)
            · refine lv_iinc (v := nI (q + 1)) (lv' := [(5, .int (nI (q + 1))), (7, .ref (ad k)), (6, .int (nI k)), (3, .long t), (0, .ref x), (1, .int v1), (2, .int v2)]) hx hb dX2_sum_67 hl (k := 2) rfl (nI_1 _) (by decide) rfl (fun ls hl => ?_)
              refine lv_iinc (v := nI (k + 1)) (lv' := [(6, .int (nI (k + 1))), (5, .int (nI (q + 1))), (7, .ref (ad k)), (3, .long t), (0, .ref x), (1, .int v1), (2, .int v2)]) hx hb dX2_sum_70 hl (k := 2) rfl (nI_1 _) (by decide) rfl (fun ls hl => ?_)
              refine lv_goto (tgt := 8) hx hb dX2_sum_73 (by decide) ?_
              exact ih (k + 1) (q + 1) _ (by omega) (by omega) (vis_s hq h_34) (smt_n hq ht (fun z => absurd z.2.1 (i32_nle.mpr c_46)))  ls (lv_sub hl [0, 1, 3, 4, 5, 6] rfl)
            · refine lv_aload hx hb dX2_sum_49 (lv_at hl 0 rfl) ?_
              refine rN_kind S (hC.E (Or.inr ⟨_, (by omega), rfl⟩)) hC.nw dX2_sum_51 ?_
              refine lv_iconst (v := 2) hx hb dX2_sum_54 (by decide) ?_
              refine lv_icmp_ne (tgt := 67) hx hb dX2_sum_55 (by decide) (fun c_55 => ?_) (fun c_55 => ?_)
              · refine lv_iinc (v := nI (q + 1)) (lv' := [(5, .int (nI (q + 1))), (7, .ref (ad k)), (6, .int (nI k)), (3, .long t), (0, .ref x), (1, .int v1), (2, .int v2)]) hx hb dX2_sum_67 hl (k := 2) rfl (nI_1 _) (by decide) rfl (fun ls hl => ?_)
                refine lv_iinc (v := nI (k + 1)) (lv' := [(6, .int (nI (k + 1))), (5, .int (nI (q + 1))), (7, .ref (ad k)), (3, .long t), (0, .ref x), (1, .int v1), (2, .int v2)]) hx hb dX2_sum_70 hl (k := 2) rfl (nI_1 _) (by decide) rfl (fun ls hl => ?_)
                refine lv_goto (tgt := 8) hx hb dX2_sum_73 (by decide) ?_
                exact ih (k + 1) (q + 1) _ (by omega) (by omega) (vis_s hq h_34) (smt_n hq ht (fun z => c_55 z.2.2.2))  ls (lv_sub hl [0, 1, 3, 4, 5, 6] rfl)
              · refine lv_lload_n hx hb dX2_sum_58 rfl (lv_at hl 3 rfl) ?_
                refine lv_aload hx hb dX2_sum_59 (lv_at hl 0 rfl) ?_
                refine rN_value S (hC.E (Or.inr ⟨_, (by omega), rfl⟩)) hC.nw dX2_sum_61 ?_
                refine lv_i2l (v := (f (ad k) 8).toInt64) hx hb dX2_sum_64 rfl ?_
                refine lv_ladd hx hb dX2_sum_65 ?_
                refine lv_lstore_n (lv' := [(3, .long (t + ((f (ad k) 8).toInt64))), (7, .ref (ad k)), (6, .int (nI k)), (5, .int (nI q)), (0, .ref x), (1, .int v1), (2, .int v2)]) hx hb dX2_sum_66 rfl hl (by decide) rfl (fun ls hl => ?_)
                refine lv_iinc (v := nI (q + 1)) (lv' := [(5, .int (nI (q + 1))), (3, .long (t + ((f (ad k) 8).toInt64))), (7, .ref (ad k)), (6, .int (nI k)), (0, .ref x), (1, .int v1), (2, .int v2)]) hx hb dX2_sum_67 hl (k := 3) rfl (nI_1 _) (by decide) rfl (fun ls hl => ?_)
                refine lv_iinc (v := nI (k + 1)) (lv' := [(6, .int (nI (k + 1))), (5, .int (nI (q + 1))), (3, .long (t + ((f (ad k) 8).toInt64))), (7, .ref (ad k)), (0, .ref x), (1, .int v1), (2, .int v2)]) hx hb dX2_sum_70 hl (k := 3) rfl (nI_1 _) (by decide) rfl (fun ls hl => ?_)
                refine lv_goto (tgt := 8) hx hb dX2_sum_73 (by decide) ?_
                exact ih (k + 1) (q + 1) _ (by omega) (by omega) (vis_s hq h_34) (smt_s hq ht h_34 (i32_nlt.mp c_46) (i32_nle.mp c_20) c_55)  ls (lv_sub hl [0, 1, 2, 4, 5, 6] rfl)
          · exact absurd (show _ from c_37) (by decide)
        · refine lv_if_ne (tgt := 43) hx hb dX2_sum_37 (by decide) (fun c_37 => ?_) (fun c_37 => ?_)
          · exact absurd (show _ from c_37) (by decide)
          · refine lv_goto (tgt := 70) hx hb dX2_sum_40 (by decide) ?_
            refine lv_iinc (v := nI (k + 1)) (lv' := [(6, .int (nI (k + 1))), (7, .ref (ad k)), (5, .int (nI q)), (3, .long t), (0, .ref x), (1, .int v1), (2, .int v2)]) hx hb dX2_sum_70 hl (k := 1) rfl (nI_1 _) (by decide) rfl (fun ls hl => ?_)
            refine lv_goto (tgt := 8) hx hb dX2_sum_73 (by decide) ?_
            exact ih (k + 1) q _ (by omega) (by omega) (vis_n hq h_34) (smt_n hq ht (fun z => h_34 z.1))  ls (lv_sub hl [0, 2, 3, 4, 5, 6] rfl)
set_option maxHeartbeats 4000000 in
set_option maxRecDepth 100000 in
theorem c_X2_look (l : Launch) {D : va_G} {x u i g w n cn cnt : Nat} {ids : Nat → Int32} {ad : Nat → Nat} {f : Nat → Nat → Int32} (v1 : Int32)  : Met l yX2_look (gws yX2_look cX2_look 2 (some .int)) { frames := 2, cells := 0, slots := 0, locals := 46 } (va_Pc [.ref x, .int v1] (fun U => RdC D x u i g w n cn cnt ids ad f U U.heap)) (vp_Si (fun r => (v1 = 0 ∧ r = nI n) ∨ (v1 = 1 ∧ r = nI (vis (fun k => f (ad k) 5) n)) ∨ (v1 = 2 ∧ r = nI cn) ∨ (v1 = 3 ∧ ((cnt = 0 ∧ r = -1) ∨ (0 < cnt ∧ r = ids (cnt - 1)))) ∨ (v1 = 4 ∧ r = mxw (fun k => f (ad k) 2) n) ∨ (¬ v1 = 0 ∧ ¬ v1 = 1 ∧ ¬ v1 = 2 ∧ ¬ v1 = 3 ∧ ¬ v1 = 4 ∧ r = -1))) 0 0 (fun _ => False) := by
  refine met_go (by decide) (Nat.le_of_ble_eq_true rfl) ?_
  intro p e s m below meth c ls S hr hlocks hnm hC hl
  obtain ⟨hx, hb, hml, hown, hg⟩ := id S
  have hl : lv_has ls 2 [(0, .ref x), (1, .int v1)] := hl
  have hn := hC.n
  refine lv_iload_n hx hb dX2_look_0 rfl (lv_at hl 1 rfl) ?_
  by_cases w_0 : v1 = 0
  · subst w_0
    refine lv_tableIn (off := 35) (tgt := 36) hx hb dX2_look_1 (by decide) (by decide) rfl (by decide) ?_
    refine lv_aload_n hx hb dX2_look_36 rfl (lv_at hl 0 rfl) ?_
    refine rC_elements S hC dX2_look_37 ?_
    exact W.iret (v := (nI n)) hx hb hr (fun t9 ht9 _ => ⟨_, rfl, Or.inl ⟨rfl, rfl⟩, ht9⟩) (fun _ h => nomatch h) dX2_look_40
  by_cases w_1 : v1 = 1
  · subst w_1
    refine lv_tableIn (off := 40) (tgt := 41) hx hb dX2_look_1 (by decide) (by decide) rfl (by decide) ?_
    refine lv_aload_n hx hb dX2_look_41 rfl (lv_at hl 0 rfl) ?_
    refine lv_aload_n hx hb dX2_look_42 rfl (lv_at hl 0 rfl) ?_
    refine rC_elements S hC dX2_look_43 ?_
    refine vp_callSi (va_Run.run (runV (As := [.int (nI n)]) (rest := []) (Bh := RdC D x u i g w n cn cnt ids ad f) S (c_X2_visibleUpTo l n (by omega)) (gw_V wk_185 wk_187 wp_14 wk_1 wk_188) rfl rfl 1 rfl (by decide +kernel) (by decide) ⟨Nat.le_refl _, Nat.le_refl _⟩ (fun _ _ _ h q => RdC.mv h q) hC.recv hC hl.1 (Nat.le_of_ble_eq_true rfl) dX2_look_46)) (fun r_46 hr_46 => ?_)
    subst hr_46
    exact W.iret (v := (nI (vis (fun k => f (ad k) 5) n))) hx hb hr (fun t9 ht9 _ => ⟨_, rfl, Or.inr (Or.inl ⟨rfl, rfl⟩), ht9⟩) (fun _ h => nomatch h) dX2_look_49
  by_cases w_2 : v1 = 2
  · subst w_2
    refine lv_tableIn (off := 49) (tgt := 50) hx hb dX2_look_1 (by decide) (by decide) rfl (by decide) ?_
    refine lv_aload_n hx hb dX2_look_50 rfl (lv_at hl 0 rfl) ?_
    refine rC_changes S hC dX2_look_51 ?_
    exact W.iret (v := (nI cn)) hx hb hr (fun t9 ht9 _ => ⟨_, rfl, Or.inr (Or.inr (Or.inl ⟨rfl, rfl⟩)), ht9⟩) (fun _ h => nomatch h) dX2_look_54
  by_cases w_3 : v1 = 3
  · subst w_3
    refine lv_tableIn (off := 54) (tgt := 55) hx hb dX2_look_1 (by decide) (by decide) rfl (by decide) ?_
    refine lv_aload_n hx hb dX2_look_55 rfl (lv_at hl 0 rfl) ?_
    refine rC_used S hC dX2_look_56 ?_
    refine vp_callSi (va_Run.run (runVN (As := []) (rest := []) (Bh := RdU D u i cnt ids) S (c_X1_greatest l ) (gw_self wk_208) (nk_205 hC.nw) wk_2 wk_207 wp_16 rfl rfl 0 rfl (by decide +kernel) (by decide) ⟨Nat.le_refl _, Nat.le_refl _⟩ (fun _ _ _ h q => RdU.mv h q) hC.U.recv hC.U hl.1 (Nat.le_of_ble_eq_true rfl) dX2_look_59)) (fun r_59 hr_59 => ?_)
    exact W.iret (v := r_59) hx hb hr (fun t9 ht9 _ => ⟨_, rfl, Or.inr (Or.inr (Or.inr (Or.inl ⟨rfl, hr_59⟩))), ht9⟩) (fun _ h => nomatch h) dX2_look_62
  by_cases w_4 : v1 = 4
  · subst w_4
    refine lv_tableIn (off := 62) (tgt := 63) hx hb dX2_look_1 (by decide) (by decide) rfl (by decide) ?_
    refine lv_aload_n hx hb dX2_look_63 rfl (lv_at hl 0 rfl) ?_
    refine vp_callSi (va_Run.run (runV (As := []) (rest := []) (Bh := RdC D x u i g w n cn cnt ids ad f) S (c_X2_longestWay l ) (gw_V wk_209 wk_211 wp_17 wk_1 wk_212) rfl rfl 0 rfl (by decide +kernel) (by decide) ⟨Nat.le_refl _, Nat.le_refl _⟩ (fun _ _ _ h q => RdC.mv h q) hC.recv hC hl.1 (Nat.le_of_ble_eq_true rfl) dX2_look_64)) (fun r_64 hr_64 => ?_)
    subst hr_64
    exact W.iret (v := (mxw (fun k => f (ad k) 2) n)) hx hb hr (fun t9 ht9 _ => ⟨_, rfl, Or.inr (Or.inr (Or.inr (Or.inr (Or.inl ⟨rfl, rfl⟩)))), ht9⟩) (fun _ h => nomatch h) dX2_look_67
  have z_0 := lv_neT w_0 (show (0 : Int32).toInt = 0 by decide)
  have z_1 := lv_neT w_1 (show (1 : Int32).toInt = 1 by decide)
  have z_2 := lv_neT w_2 (show (2 : Int32).toInt = 2 by decide)
  have z_3 := lv_neT w_3 (show (3 : Int32).toInt = 3 by decide)
  have z_4 := lv_neT w_4 (show (4 : Int32).toInt = 4 by decide)
  refine lv_tableOut (tgt := 68) hx hb dX2_look_1 (by omega) (by decide) ?_
  refine lv_iconst (v := (-1)) hx hb dX2_look_68 (by decide) ?_
  exact W.iret (v := (-1)) hx hb hr (fun t9 ht9 _ => ⟨_, rfl, Or.inr (Or.inr (Or.inr (Or.inr (Or.inr ⟨w_0, w_1, w_2, w_3, w_4, rfl⟩)))), ht9⟩) (fun _ h => nomatch h) dX2_look_69
set_option maxHeartbeats 4000000 in
set_option maxRecDepth 100000 in
theorem c_X2_rowForNew (l : Launch) {D : va_G} {x u i g w n cn cnt : Nat} {ids : Nat → Int32} {ad : Nat → Nat} {f : Nat → Nat → Int32} (v1 : Int32) (b : Nat) {T : Nat} (hbT : Par f ad n g b T) : Met l yX2_rowForNew (gws yX2_rowForNew cX2_rowForNew 4 (some .int)) { frames := 1, cells := 0, slots := 0, locals := 22 } (va_Pc [.ref x, .int v1, .ref b] (fun U => RdC D x u i g w n cn cnt ids ad f U U.heap)) (vp_Si (fun r => ∃ q, Lie (fun k => f (ad k) 0) n T v1 q ∧ r = nI q)) 0 0 (fun _ => False) := by
  refine met_go (by decide) (Nat.le_of_ble_eq_true rfl) ?_
  intro p e s m below meth c ls S hr hlocks hnm hC hl
  obtain ⟨hx, hb, hml, hown, hg⟩ := id S
  have hl : lv_has ls 4 [(0, .ref x), (1, .int v1), (2, .ref b)] := hl
  have hn := hC.n
  rcases hbT with ⟨hb9, h0, hT9⟩ | ⟨t, ht, hb9, hT9, h0, hu⟩
  · subst hb9 hT9
    refine lv_aload_n hx hb dX2_rowForNew_0 rfl (lv_at hl 2 rfl) ?_
    refine rN_id S (hC.E (Or.inl rfl)) hC.nw dX2_rowForNew_1 ?_
    refine lv_if_ne (tgt := 11) hx hb dX2_rowForNew_4 (by decide) (fun c_4 => ?_) (fun c_4 => ?_)
    · exact absurd h0 c_4
    · refine lv_iconst (v := nI 0) hx hb dX2_rowForNew_7 (by decide) ?_
      refine lv_goto (tgt := 21) hx hb dX2_rowForNew_8 (by decide) ?_
      refine lv_istore_n (lv' := [(3, .int (nI 0)), (0, .ref x), (1, .int v1), (2, .ref g)]) hx hb dX2_rowForNew_21 rfl hl (by decide) rfl (fun ls hl => ?_)
      suffices hloop : ∀ (fuel : Nat) (k : Nat), 0 ≤ k → k ≤ n → n - k < fuel → (∀ j, 0 ≤ j → j < k → v1 < f (ad j) 0) → ∀ ls : Array Slot, lv_has ls 4 [(3, .int (nI k)), (0, .ref x), (1, .int v1), (2, .ref g)] → W p l e { frames := 1, cells := 0, slots := 0, locals := 22 } s m [.ref x, .int v1, .ref g].toArray below meth c s.heap [] 0 0 (MQ below (vp_Si (fun r => ∃ q, Lie (fun k => f (ad k) 0) n 0 v1 q ∧ r = nI q)) [.ref x, .int v1, .ref g].toArray s 0 0 (fun _ => False)) (F0 m 22 ls []) from hloop (n + 1) 0 (Nat.le_refl _) (by omega) (by omega) (fun j h1 h2 => absurd h1 (by omega))  ls (lv_sub hl [0, 1, 2, 3] rfl)
      intro fuel
      induction fuel with
      | zero => intro k hT hk hf hI; omega
      | succ fuel ih =>
        intro k hT hk hf hI  ls hl
        refine lv_iload_n hx hb dX2_rowForNew_22 rfl (lv_at hl 0 rfl) ?_
        refine lv_aload_n hx hb dX2_rowForNew_23 rfl (lv_at hl 1 rfl) ?_
        refine rC_elements S hC dX2_rowForNew_24 ?_
        refine lv_icmp_ge (tgt := 49) hx hb dX2_rowForNew_27 (by decide) (fun c_27 => ?_) (fun c_27 => ?_)
        · rw [nI_leI (by omega) (by omega)] at c_27
          refine lv_iload_n hx hb dX2_rowForNew_49 rfl (lv_at hl 0 rfl) ?_
          exact W.iret (v := (nI k)) hx hb hr (fun t9 ht9 _ => ⟨_, rfl, ⟨k, ⟨hT, hk, hI, fun z => absurd z (by omega)⟩, rfl⟩, ht9⟩) (fun _ h => nomatch h) dX2_rowForNew_50
        · rw [nI_leI (by omega) (by omega)] at c_27
          refine lv_aload_n hx hb dX2_rowForNew_30 rfl (lv_at hl 1 rfl) ?_
          refine rC_woven S hC dX2_rowForNew_31 ?_
          refine lv_iload_n hx hb dX2_rowForNew_34 rfl (lv_at hl 0 rfl) ?_
          refine rC_ald S hC (by omega) dX2_rowForNew_35 ?_
          refine rN_id S (hC.E (Or.inr ⟨_, (by omega), rfl⟩)) hC.nw dX2_rowForNew_36 ?_
          refine lv_iload_n hx hb dX2_rowForNew_39 rfl (lv_at hl 2 rfl) ?_
          refine lv_icmp_le (tgt := 49) hx hb dX2_rowForNew_40 (by decide) (fun c_40 => ?_) (fun c_40 => ?_)
          · refine lv_iload_n hx hb dX2_rowForNew_49 rfl (lv_at hl 0 rfl) ?_
            exact W.iret (v := (nI k)) hx hb hr (fun t9 ht9 _ => ⟨_, rfl, ⟨k, ⟨hT, hk, hI, fun _ => i32_nlt.mpr c_40⟩, rfl⟩, ht9⟩) (fun _ h => nomatch h) dX2_rowForNew_50
          · refine lv_iinc (v := nI (k + 1)) (lv' := [(3, .int (nI (k + 1))), (0, .ref x), (1, .int v1), (2, .ref g)]) hx hb dX2_rowForNew_43 hl (k := 0) rfl (nI_1 _) (by decide) rfl (fun ls hl => ?_)
            refine lv_goto (tgt := 22) hx hb dX2_rowForNew_46 (by decide) ?_
            exact ih (k + 1) (by omega) (by omega) (by omega) (lie_s hI (i32_nle.mp c_40))  ls (lv_sub hl [0, 1, 2, 3] rfl)
  · subst hb9 hT9
    refine lv_aload_n hx hb dX2_rowForNew_0 rfl (lv_at hl 2 rfl) ?_
    refine rN_id S (hC.E (Or.inr ⟨_, ht, rfl⟩)) hC.nw dX2_rowForNew_1 ?_
    refine lv_if_ne (tgt := 11) hx hb dX2_rowForNew_4 (by decide) (fun c_4 => ?_) (fun c_4 => ?_)
    · refine lv_aload_n hx hb dX2_rowForNew_11 rfl (lv_at hl 0 rfl) ?_
      refine lv_aload_n hx hb dX2_rowForNew_12 rfl (lv_at hl 2 rfl) ?_
      refine rN_id S (hC.E (Or.inr ⟨_, ht, rfl⟩)) hC.nw dX2_rowForNew_13 ?_
      refine vp_callSi (va_Run.run (runV (As := [.int (f (ad t) 0)]) (rest := []) (Bh := RdC D x u i g w n cn cnt ids ad f) S (c_X2_rowOf l (f (ad t) 0)) (gw_V wk_114 wk_116 wp_3 wk_1 wk_117) rfl rfl 1 rfl (by decide +kernel) (by decide) ⟨Nat.le_refl _, Nat.le_refl _⟩ (fun _ _ _ h q => RdC.mv h q) hC.recv hC hl.1 (Nat.le_of_ble_eq_true rfl) dX2_rowForNew_16)) (fun r hr => ?_)
      rcases hr with ⟨k_16, hk_16, he_16, hf_16, rfl⟩ | ⟨hn_16, rfl⟩
      · have hkt := hu k_16 hk_16 he_16
        subst hkt
        refine lv_iconst (v := nI 1) hx hb dX2_rowForNew_19 (by decide) ?_
        refine lv_iadd hx hb dX2_rowForNew_20 ?_
        rw [nI_add]
        refine lv_istore_n (lv' := [(3, .int (nI (k_16 + 1))), (0, .ref x), (1, .int v1), (2, .ref (ad k_16))]) hx hb dX2_rowForNew_21 rfl hl (by decide) rfl (fun ls hl => ?_)
        suffices hloop : ∀ (fuel : Nat) (k : Nat), (k_16 + 1) ≤ k → k ≤ n → n - k < fuel → (∀ j, (k_16 + 1) ≤ j → j < k → v1 < f (ad j) 0) → ∀ ls : Array Slot, lv_has ls 4 [(3, .int (nI k)), (0, .ref x), (1, .int v1), (2, .ref (ad k_16))] → W p l e { frames := 1, cells := 0, slots := 0, locals := 22 } s m [.ref x, .int v1, .ref (ad k_16)].toArray below meth c s.heap [] 0 0 (MQ below (vp_Si (fun r => ∃ q, Lie (fun k => f (ad k) 0) n (k_16 + 1) v1 q ∧ r = nI q)) [.ref x, .int v1, .ref (ad k_16)].toArray s 0 0 (fun _ => False)) (F0 m 22 ls []) from hloop (n + 1) (k_16 + 1) (Nat.le_refl _) (by omega) (by omega) (fun j h1 h2 => absurd h1 (by omega))  ls (lv_sub hl [0, 1, 2, 3] rfl)
        intro fuel
        induction fuel with
        | zero => intro k hT hk hf hI; omega
        | succ fuel ih =>
          intro k hT hk hf hI  ls hl
          refine lv_iload_n hx hb dX2_rowForNew_22 rfl (lv_at hl 0 rfl) ?_
          refine lv_aload_n hx hb dX2_rowForNew_23 rfl (lv_at hl 1 rfl) ?_
          refine rC_elements S hC dX2_rowForNew_24 ?_
          refine lv_icmp_ge (tgt := 49) hx hb dX2_rowForNew_27 (by decide) (fun c_27 => ?_) (fun c_27 => ?_)
          · rw [nI_leI (by omega) (by omega)] at c_27
            refine lv_iload_n hx hb dX2_rowForNew_49 rfl (lv_at hl 0 rfl) ?_
            exact W.iret (v := (nI k)) hx hb hr (fun t9 ht9 _ => ⟨_, rfl, ⟨k, ⟨hT, hk, hI, fun z => absurd z (by omega)⟩, rfl⟩, ht9⟩) (fun _ h => nomatch h) dX2_rowForNew_50
          · rw [nI_leI (by omega) (by omega)] at c_27
            refine lv_aload_n hx hb dX2_rowForNew_30 rfl (lv_at hl 1 rfl) ?_
            refine rC_woven S hC dX2_rowForNew_31 ?_
            refine lv_iload_n hx hb dX2_rowForNew_34 rfl (lv_at hl 0 rfl) ?_
            refine rC_ald S hC (by omega) dX2_rowForNew_35 ?_
            refine rN_id S (hC.E (Or.inr ⟨_, (by omega), rfl⟩)) hC.nw dX2_rowForNew_36 ?_
            refine lv_iload_n hx hb dX2_rowForNew_39 rfl (lv_at hl 2 rfl) ?_
            refine lv_icmp_le (tgt := 49) hx hb dX2_rowForNew_40 (by decide) (fun c_40 => ?_) (fun c_40 => ?_)
            · refine lv_iload_n hx hb dX2_rowForNew_49 rfl (lv_at hl 0 rfl) ?_
              exact W.iret (v := (nI k)) hx hb hr (fun t9 ht9 _ => ⟨_, rfl, ⟨k, ⟨hT, hk, hI, fun _ => i32_nlt.mpr c_40⟩, rfl⟩, ht9⟩) (fun _ h => nomatch h) dX2_rowForNew_50
            · refine lv_iinc (v := nI (k + 1)) (lv' := [(3, .int (nI (k + 1))), (0, .ref x), (1, .int v1), (2, .ref (ad k_16))]) hx hb dX2_rowForNew_43 hl (k := 0) rfl (nI_1 _) (by decide) rfl (fun ls hl => ?_)
              refine lv_goto (tgt := 22) hx hb dX2_rowForNew_46 (by decide) ?_
              exact ih (k + 1) (by omega) (by omega) (by omega) (lie_s hI (i32_nle.mp c_40))  ls (lv_sub hl [0, 1, 2, 3] rfl)
      · exact absurd rfl (hn_16 t ht)
    · exact absurd c_4 h0
