theorem mxw_s {g : Nat → Int32} {q : Int32} {k : Nat} (hq : q = mxw g k) (h : q < g k) : g k = mxw g (k + 1) := by rw [mxw, ← hq, if_pos h]
theorem mxw_n {g : Nat → Int32} {q : Int32} {k : Nat} (hq : q = mxw g k) (h : ¬ q < g k) : q = mxw g (k + 1) := by rw [mxw, ← hq, if_neg h]
set_option maxHeartbeats 4000000 in
set_option maxRecDepth 100000 in
theorem c_X3_counted1 (l : Launch) {D : va_G} {y : Nat} {a : Nat → Nat} {n d : Nat} {th : Int32} {A : Nat → Nat → Int32} (v1 : Int32)  : Met l yX3_counted (gws yX3_counted cX3_counted 5 (some .int)) { frames := 0, cells := 0, slots := 0, locals := 0 } (va_Pc [.ref y, .int v1, .int 1] (fun U => RdM D y a n d th A U U.heap)) (vp_Si (fun r => r = nI (cntB (fun k => decide (A 1 k = v1)) n))) 0 0 (fun _ => False) := by
  refine met_go (by decide) (Nat.le_of_ble_eq_true rfl) ?_
  intro p e s m below meth c ls S hr hlocks hnm hM hl
  obtain ⟨hx, hb, hml, hown, hg⟩ := id S
  have hl : lv_has ls 5 [(0, .ref y), (1, .int v1), (2, .int 1)] := hl
  have hn := hM.n
  refine lv_iconst (v := nI 0) hx hb dX3_counted_0 (by decide) ?_
  refine lv_istore_n (lv' := [(3, .int (nI 0)), (0, .ref y), (1, .int v1), (2, .int 1)]) hx hb dX3_counted_1 rfl hl (by decide) rfl (fun ls hl => ?_)
  refine lv_iconst (v := nI 0) hx hb dX3_counted_2 (by decide) ?_
  refine lv_istore (lv' := [(4, .int (nI 0)), (3, .int (nI 0)), (0, .ref y), (1, .int v1), (2, .int 1)]) hx hb dX3_counted_3 hl (by decide) rfl (fun ls hl => ?_)
  suffices hloop : ∀ (fuel : Nat) (k q : Nat), k ≤ n → n - k < fuel → q = cntB (fun k => decide (A 1 k = v1)) k → ∀ ls : Array Slot, lv_has ls 5 [(4, .int (nI k)), (3, .int (nI q)), (0, .ref y), (1, .int v1), (2, .int 1)] → W p l e { frames := 0, cells := 0, slots := 0, locals := 0 } s m [.ref y, .int v1, .int 1].toArray below meth c s.heap [] 0 0 (MQ below (vp_Si (fun r => r = nI (cntB (fun k => decide (A 1 k = v1)) n))) [.ref y, .int v1, .int 1].toArray s 0 0 (fun _ => False)) (F0 m 5 ls []) from hloop (n + 1) 0 0 (by omega) (by omega) rfl  ls (lv_sub hl [0, 1, 2, 3, 4] rfl)
  intro fuel
  induction fuel with
  | zero => intro k q hk hf hq; omega
  | succ fuel ih =>
    intro k q hk hf hq  ls hl
    refine lv_iload hx hb dX3_counted_5 (lv_at hl 0 rfl) ?_
    refine lv_aload_n hx hb dX3_counted_7 rfl (lv_at hl 2 rfl) ?_
    refine rM_many S hM dX3_counted_8 ?_
    refine lv_icmp_ge (tgt := 44) hx hb dX3_counted_11 (by decide) (fun c_11 => ?_) (fun c_11 => ?_)
    · rw [nI_leI (by omega) (by omega)] at c_11
      refine lv_iconst (v := nI 0) hx hb dX3_counted_44 (by decide) ?_
      refine lv_istore (lv' := [(4, .int (nI 0)), (3, .int (nI q)), (0, .ref y), (1, .int v1), (2, .int 1)]) hx hb dX3_counted_45 hl (by decide) rfl (fun ls hl => ?_)
      refine lv_iload hx hb dX3_counted_47 (lv_at hl 0 rfl) ?_
      refine lv_aload_n hx hb dX3_counted_49 rfl (lv_at hl 2 rfl) ?_
      refine rM_done S hM dX3_counted_50 ?_
      refine lv_icmp_ge (tgt := 114) hx hb dX3_counted_53 (by decide) (fun c_53 => ?_) (fun c_53 => ?_)
      · rw [nI_leI (by omega) (by omega)] at c_53
        refine lv_iload_n hx hb dX3_counted_114 rfl (lv_at hl 1 rfl) ?_
        exact W.iret (v := (nI q)) hx hb hr (fun t9 ht9 _ => ⟨_, rfl, by rw [hq, show k = n by omega], ht9⟩) (fun _ h => nomatch h) dX3_counted_115
      · rw [nI_leI (by omega) (by omega)] at c_53
        refine lv_iload_n hx hb dX3_counted_56 rfl (lv_at hl 4 rfl) ?_
        refine lv_iconst (v := 1) hx hb dX3_counted_57 (by decide) ?_
        refine lv_icmp_le (tgt := 114) hx hb dX3_counted_58 (by decide) (fun c_58 => ?_) (fun c_58 => ?_)
        · refine lv_iload_n hx hb dX3_counted_114 rfl (lv_at hl 1 rfl) ?_
          exact W.iret (v := (nI q)) hx hb hr (fun t9 ht9 _ => ⟨_, rfl, by rw [hq, show k = n by omega], ht9⟩) (fun _ h => nomatch h) dX3_counted_115
        · exact absurd (show _ from c_58) (by decide)
    · rw [nI_leI (by omega) (by omega)] at c_11
      refine lv_iload_n hx hb dX3_counted_14 rfl (lv_at hl 4 rfl) ?_
      refine lv_iconst (v := 1) hx hb dX3_counted_15 (by decide) ?_
      refine lv_icmp_ne (tgt := 44) hx hb dX3_counted_16 (by decide) (fun c_16 => ?_) (fun c_16 => ?_)
      · exact absurd (show _ from c_16) (by decide)
      · refine lv_iload_n hx hb dX3_counted_19 rfl (lv_at hl 1 rfl) ?_
        refine lv_aload_n hx hb dX3_counted_20 rfl (lv_at hl 2 rfl) ?_
        refine rM_behinds S hM dX3_counted_21 ?_
        refine lv_iload hx hb dX3_counted_24 (lv_at hl 0 rfl) ?_
        refine rM_ald S hM 1 (by decide) (by show _ < 512; omega) dX3_counted_26 ?_
        refine lv_iload_n hx hb dX3_counted_27 rfl (lv_at hl 3 rfl) ?_
        refine lv_icmp_ne (tgt := 35) hx hb dX3_counted_28 (by decide) (fun c_28 => ?_) (fun c_28 => ?_)
        · refine lv_iconst (v := nI 0) hx hb dX3_counted_35 (by decide) ?_
          refine lv_iadd hx hb dX3_counted_36 ?_
          rw [nI_add, Nat.add_zero]
          refine lv_istore_n (lv' := [(3, .int (nI q)), (4, .int (nI k)), (0, .ref y), (1, .int v1), (2, .int 1)]) hx hb dX3_counted_37 rfl hl (by decide) rfl (fun ls hl => ?_)
          refine lv_iinc (v := nI (k + 1)) (lv' := [(4, .int (nI (k + 1))), (3, .int (nI q)), (0, .ref y), (1, .int v1), (2, .int 1)]) hx hb dX3_counted_38 hl (k := 1) rfl (nI_1 _) (by decide) rfl (fun ls hl => ?_)
          refine lv_goto (tgt := 5) hx hb dX3_counted_41 (by decide) ?_
          exact ih (k + 1) q (by omega) (by omega) (cntB_n hq (decide_eq_false c_28))  ls (lv_sub hl [0, 1, 2, 3, 4] rfl)
        · refine lv_iconst (v := nI 1) hx hb dX3_counted_31 (by decide) ?_
          refine lv_goto (tgt := 36) hx hb dX3_counted_32 (by decide) ?_
          refine lv_iadd hx hb dX3_counted_36 ?_
          rw [nI_add]
          refine lv_istore_n (lv' := [(3, .int (nI (q + 1))), (4, .int (nI k)), (0, .ref y), (1, .int v1), (2, .int 1)]) hx hb dX3_counted_37 rfl hl (by decide) rfl (fun ls hl => ?_)
          refine lv_iinc (v := nI (k + 1)) (lv' := [(4, .int (nI (k + 1))), (3, .int (nI (q + 1))), (0, .ref y), (1, .int v1), (2, .int 1)]) hx hb dX3_counted_38 hl (k := 1) rfl (nI_1 _) (by decide) rfl (fun ls hl => ?_)
          refine lv_goto (tgt := 5) hx hb dX3_counted_41 (by decide) ?_
          exact ih (k + 1) (q + 1) (by omega) (by omega) (cntB_s hq (decide_eq_true c_28))  ls (lv_sub hl [0, 1, 2, 3, 4] rfl)
set_option maxHeartbeats 4000000 in
set_option maxRecDepth 100000 in
theorem c_X3_counted2 (l : Launch) {D : va_G} {y : Nat} {a : Nat → Nat} {n d : Nat} {th : Int32} {A : Nat → Nat → Int32} (v1 : Int32)  : Met l yX3_counted (gws yX3_counted cX3_counted 5 (some .int)) { frames := 0, cells := 0, slots := 0, locals := 0 } (va_Pc [.ref y, .int v1, .int 2] (fun U => RdM D y a n d th A U U.heap)) (vp_Si (fun r => r = nI (cntB (fun k => decide (A 5 k = v1) && !decide (A 6 k < 0)) d))) 0 0 (fun _ => False) := by
  refine met_go (by decide) (Nat.le_of_ble_eq_true rfl) ?_
  intro p e s m below meth c ls S hr hlocks hnm hM hl
  obtain ⟨hx, hb, hml, hown, hg⟩ := id S
  have hl : lv_has ls 5 [(0, .ref y), (1, .int v1), (2, .int 2)] := hl
  have hn := hM.n
  have hloop : ∀ (fuel : Nat) (k q : Nat), k ≤ d → d - k < fuel → q = cntB (fun k => decide (A 5 k = v1) && !decide (A 6 k < 0)) k → ∀ ls : Array Slot, lv_has ls 5 [(4, .int (nI k)), (3, .int (nI q)), (0, .ref y), (1, .int v1), (2, .int 2)] → W p l e { frames := 0, cells := 0, slots := 0, locals := 0 } s m [.ref y, .int v1, .int 2].toArray below meth c s.heap [] 0 0 (MQ below (vp_Si (fun r => r = nI (cntB (fun k => decide (A 5 k = v1) && !decide (A 6 k < 0)) d))) [.ref y, .int v1, .int 2].toArray s 0 0 (fun _ => False)) (F0 m 47 ls []) := by
    clear hl
    intro fuel
    induction fuel with
    | zero => intro k q hk hf hq; omega
    | succ fuel ih =>
      intro k q hk hf hq  ls hl
      refine lv_iload hx hb dX3_counted_47 (lv_at hl 0 rfl) ?_
      refine lv_aload_n hx hb dX3_counted_49 rfl (lv_at hl 2 rfl) ?_
      refine rM_done S hM dX3_counted_50 ?_
      refine lv_icmp_ge (tgt := 114) hx hb dX3_counted_53 (by decide) (fun c_53 => ?_) (fun c_53 => ?_)
      · rw [nI_leI (by omega) (by omega)] at c_53
        refine lv_iload_n hx hb dX3_counted_114 rfl (lv_at hl 1 rfl) ?_
        exact W.iret (v := (nI q)) hx hb hr (fun t9 ht9 _ => ⟨_, rfl, by rw [hq, show k = d by omega], ht9⟩) (fun _ h => nomatch h) dX3_counted_115
      · rw [nI_leI (by omega) (by omega)] at c_53
        refine lv_iload_n hx hb dX3_counted_56 rfl (lv_at hl 4 rfl) ?_
        refine lv_iconst (v := 1) hx hb dX3_counted_57 (by decide) ?_
        refine lv_icmp_le (tgt := 114) hx hb dX3_counted_58 (by decide) (fun c_58 => ?_) (fun c_58 => ?_)
        · exact absurd (show _ from c_58) (by decide)
        · refine lv_iload_n hx hb dX3_counted_61 rfl (lv_at hl 1 rfl) ?_
          refine lv_aload_n hx hb dX3_counted_62 rfl (lv_at hl 2 rfl) ?_
          refine rM_doneOf S hM dX3_counted_63 ?_
          refine lv_iload hx hb dX3_counted_66 (lv_at hl 0 rfl) ?_
          refine rM_ald S hM 5 (by decide) (by show _ < 1024; omega) dX3_counted_68 ?_
          refine lv_iload_n hx hb dX3_counted_69 rfl (lv_at hl 3 rfl) ?_
          refine lv_icmp_ne (tgt := 105) hx hb dX3_counted_70 (by decide) (fun c_70 => ?_) (fun c_70 => ?_)
          · refine lv_iconst (v := nI 0) hx hb dX3_counted_105 (by decide) ?_
            refine lv_iadd hx hb dX3_counted_106 ?_
            rw [nI_add, Nat.add_zero]
            refine lv_istore_n (lv' := [(3, .int (nI q)), (4, .int (nI k)), (0, .ref y), (1, .int v1), (2, .int 2)]) hx hb dX3_counted_107 rfl hl (by decide) rfl (fun ls hl => ?_)
            refine lv_iinc (v := nI (k + 1)) (lv' := [(4, .int (nI (k + 1))), (3, .int (nI q)), (0, .ref y), (1, .int v1), (2, .int 2)]) hx hb dX3_counted_108 hl (k := 1) rfl (nI_1 _) (by decide) rfl (fun ls hl => ?_)
            refine lv_goto (tgt := 47) hx hb dX3_counted_111 (by decide) ?_
            exact ih (k + 1) q (by omega) (by omega) (cntB_n hq (by simp [c_70]))  ls (lv_sub hl [0, 1, 2, 3, 4] rfl)
          · refine lv_aload_n hx hb dX3_counted_73 rfl (lv_at hl 2 rfl) ?_
            refine rM_doneKinds S hM dX3_counted_74 ?_
            refine lv_iload hx hb dX3_counted_77 (lv_at hl 0 rfl) ?_
            refine rM_ald S hM 6 (by decide) (by show _ < 1024; omega) dX3_counted_79 ?_
            refine lv_if_ge (tgt := 87) hx hb dX3_counted_80 (by decide) (fun c_80 => ?_) (fun c_80 => ?_)
            · have h80 := i32_nlt.mpr c_80
              refine lv_iconst (v := 0) hx hb dX3_counted_87 (by decide) ?_
              refine lv_iload_n hx hb dX3_counted_88 rfl (lv_at hl 4 rfl) ?_
              refine lv_iconst (v := 3) hx hb dX3_counted_89 (by decide) ?_
              refine lv_icmp_ne (tgt := 97) hx hb dX3_counted_90 (by decide) (fun c_90 => ?_) (fun c_90 => ?_)
              · refine lv_iconst (v := 0) hx hb dX3_counted_97 (by decide) ?_
                refine lv_icmp_ne (tgt := 105) hx hb dX3_counted_98 (by decide) (fun c_98 => ?_) (fun c_98 => ?_)
                · exact absurd (show _ from c_98) (by decide)
                · refine lv_iconst (v := nI 1) hx hb dX3_counted_101 (by decide) ?_
                  refine lv_goto (tgt := 106) hx hb dX3_counted_102 (by decide) ?_
                  refine lv_iadd hx hb dX3_counted_106 ?_
                  rw [nI_add]
                  refine lv_istore_n (lv' := [(3, .int (nI (q + 1))), (4, .int (nI k)), (0, .ref y), (1, .int v1), (2, .int 2)]) hx hb dX3_counted_107 rfl hl (by decide) rfl (fun ls hl => ?_)
                  refine lv_iinc (v := nI (k + 1)) (lv' := [(4, .int (nI (k + 1))), (3, .int (nI (q + 1))), (0, .ref y), (1, .int v1), (2, .int 2)]) hx hb dX3_counted_108 hl (k := 1) rfl (nI_1 _) (by decide) rfl (fun ls hl => ?_)
                  refine lv_goto (tgt := 47) hx hb dX3_counted_111 (by decide) ?_
                  exact ih (k + 1) (q + 1) (by omega) (by omega) (cntB_s hq (by simp [c_70, h80]))  ls (lv_sub hl [0, 1, 2, 3, 4] rfl)
              · exact absurd (show _ from c_90) (by decide)
            · have h80 := i32_nle.mp c_80
              refine lv_iconst (v := 1) hx hb dX3_counted_83 (by decide) ?_
              refine lv_goto (tgt := 88) hx hb dX3_counted_84 (by decide) ?_
              refine lv_iload_n hx hb dX3_counted_88 rfl (lv_at hl 4 rfl) ?_
              refine lv_iconst (v := 3) hx hb dX3_counted_89 (by decide) ?_
              refine lv_icmp_ne (tgt := 97) hx hb dX3_counted_90 (by decide) (fun c_90 => ?_) (fun c_90 => ?_)
              · refine lv_iconst (v := 0) hx hb dX3_counted_97 (by decide) ?_
                refine lv_icmp_ne (tgt := 105) hx hb dX3_counted_98 (by decide) (fun c_98 => ?_) (fun c_98 => ?_)
                · refine lv_iconst (v := nI 0) hx hb dX3_counted_105 (by decide) ?_
                  refine lv_iadd hx hb dX3_counted_106 ?_
                  rw [nI_add, Nat.add_zero]
                  refine lv_istore_n (lv' := [(3, .int (nI q)), (4, .int (nI k)), (0, .ref y), (1, .int v1), (2, .int 2)]) hx hb dX3_counted_107 rfl hl (by decide) rfl (fun ls hl => ?_)
                  refine lv_iinc (v := nI (k + 1)) (lv' := [(4, .int (nI (k + 1))), (3, .int (nI q)), (0, .ref y), (1, .int v1), (2, .int 2)]) hx hb dX3_counted_108 hl (k := 1) rfl (nI_1 _) (by decide) rfl (fun ls hl => ?_)
                  refine lv_goto (tgt := 47) hx hb dX3_counted_111 (by decide) ?_
                  exact ih (k + 1) q (by omega) (by omega) (cntB_n hq (by simp [c_70, h80]))  ls (lv_sub hl [0, 1, 2, 3, 4] rfl)
                · exact absurd (show _ from c_98) (by decide)
              · exact absurd (show _ from c_90) (by decide)
  refine lv_iconst (v := nI 0) hx hb dX3_counted_0 (by decide) ?_
  refine lv_istore_n (lv' := [(3, .int (nI 0)), (0, .ref y), (1, .int v1), (2, .int 2)]) hx hb dX3_counted_1 rfl hl (by decide) rfl (fun ls hl => ?_)
  refine lv_iconst (v := nI 0) hx hb dX3_counted_2 (by decide) ?_
  refine lv_istore (lv' := [(4, .int (nI 0)), (3, .int (nI 0)), (0, .ref y), (1, .int v1), (2, .int 2)]) hx hb dX3_counted_3 hl (by decide) rfl (fun ls hl => ?_)
  refine lv_iload hx hb dX3_counted_5 (lv_at hl 0 rfl) ?_
  refine lv_aload_n hx hb dX3_counted_7 rfl (lv_at hl 2 rfl) ?_
  refine rM_many S hM dX3_counted_8 ?_
  refine lv_icmp_ge (tgt := 44) hx hb dX3_counted_11 (by decide) (fun c_11 => ?_) (fun c_11 => ?_)
  · rw [nI_leI (by omega) (by omega)] at c_11
    refine lv_iconst (v := nI 0) hx hb dX3_counted_44 (by decide) ?_
    refine lv_istore (lv' := [(4, .int (nI 0)), (3, .int (nI 0)), (0, .ref y), (1, .int v1), (2, .int 2)]) hx hb dX3_counted_45 hl (by decide) rfl (fun ls hl => ?_)
    exact hloop (d + 1) 0 0 (by omega) (by omega) rfl  ls (lv_sub hl [0, 1, 2, 3, 4] rfl)
  · rw [nI_leI (by omega) (by omega)] at c_11
    refine lv_iload_n hx hb dX3_counted_14 rfl (lv_at hl 4 rfl) ?_
    refine lv_iconst (v := 1) hx hb dX3_counted_15 (by decide) ?_
    refine lv_icmp_ne (tgt := 44) hx hb dX3_counted_16 (by decide) (fun c_16 => ?_) (fun c_16 => ?_)
    · refine lv_iconst (v := nI 0) hx hb dX3_counted_44 (by decide) ?_
      refine lv_istore (lv' := [(4, .int (nI 0)), (3, .int (nI 0)), (0, .ref y), (1, .int v1), (2, .int 2)]) hx hb dX3_counted_45 hl (by decide) rfl (fun ls hl => ?_)
      exact hloop (d + 1) 0 0 (by omega) (by omega) rfl  ls (lv_sub hl [0, 1, 2, 3, 4] rfl)
    · exact absurd (show _ from c_16) (by decide)
set_option maxHeartbeats 4000000 in
set_option maxRecDepth 100000 in
theorem c_X3_counted3 (l : Launch) {D : va_G} {y : Nat} {a : Nat → Nat} {n d : Nat} {th : Int32} {A : Nat → Nat → Int32} (v1 : Int32)  : Met l yX3_counted (gws yX3_counted cX3_counted 5 (some .int)) { frames := 0, cells := 0, slots := 0, locals := 0 } (va_Pc [.ref y, .int v1, .int 3] (fun U => RdM D y a n d th A U U.heap)) (vp_Si (fun r => r = nI (cntB (fun k => decide (A 5 k = v1) && decide (A 6 k < 0)) d))) 0 0 (fun _ => False) := by
  refine met_go (by decide) (Nat.le_of_ble_eq_true rfl) ?_
  intro p e s m below meth c ls S hr hlocks hnm hM hl
  obtain ⟨hx, hb, hml, hown, hg⟩ := id S
  have hl : lv_has ls 5 [(0, .ref y), (1, .int v1), (2, .int 3)] := hl
  have hn := hM.n
  have hloop : ∀ (fuel : Nat) (k q : Nat), k ≤ d → d - k < fuel → q = cntB (fun k => decide (A 5 k = v1) && decide (A 6 k < 0)) k → ∀ ls : Array Slot, lv_has ls 5 [(4, .int (nI k)), (3, .int (nI q)), (0, .ref y), (1, .int v1), (2, .int 3)] → W p l e { frames := 0, cells := 0, slots := 0, locals := 0 } s m [.ref y, .int v1, .int 3].toArray below meth c s.heap [] 0 0 (MQ below (vp_Si (fun r => r = nI (cntB (fun k => decide (A 5 k = v1) && decide (A 6 k < 0)) d))) [.ref y, .int v1, .int 3].toArray s 0 0 (fun _ => False)) (F0 m 47 ls []) := by
    clear hl
    intro fuel
    induction fuel with
    | zero => intro k q hk hf hq; omega
    | succ fuel ih =>
      intro k q hk hf hq  ls hl
      refine lv_iload hx hb dX3_counted_47 (lv_at hl 0 rfl) ?_
      refine lv_aload_n hx hb dX3_counted_49 rfl (lv_at hl 2 rfl) ?_
      refine rM_done S hM dX3_counted_50 ?_
      refine lv_icmp_ge (tgt := 114) hx hb dX3_counted_53 (by decide) (fun c_53 => ?_) (fun c_53 => ?_)
      · rw [nI_leI (by omega) (by omega)] at c_53
        refine lv_iload_n hx hb dX3_counted_114 rfl (lv_at hl 1 rfl) ?_
        exact W.iret (v := (nI q)) hx hb hr (fun t9 ht9 _ => ⟨_, rfl, by rw [hq, show k = d by omega], ht9⟩) (fun _ h => nomatch h) dX3_counted_115
      · rw [nI_leI (by omega) (by omega)] at c_53
        refine lv_iload_n hx hb dX3_counted_56 rfl (lv_at hl 4 rfl) ?_
        refine lv_iconst (v := 1) hx hb dX3_counted_57 (by decide) ?_
        refine lv_icmp_le (tgt := 114) hx hb dX3_counted_58 (by decide) (fun c_58 => ?_) (fun c_58 => ?_)
        · exact absurd (show _ from c_58) (by decide)
        · refine lv_iload_n hx hb dX3_counted_61 rfl (lv_at hl 1 rfl) ?_
          refine lv_aload_n hx hb dX3_counted_62 rfl (lv_at hl 2 rfl) ?_
          refine rM_doneOf S hM dX3_counted_63 ?_
          refine lv_iload hx hb dX3_counted_66 (lv_at hl 0 rfl) ?_
          refine rM_ald S hM 5 (by decide) (by show _ < 1024; omega) dX3_counted_68 ?_
          refine lv_iload_n hx hb dX3_counted_69 rfl (lv_at hl 3 rfl) ?_
          refine lv_icmp_ne (tgt := 105) hx hb dX3_counted_70 (by decide) (fun c_70 => ?_) (fun c_70 => ?_)
          · refine lv_iconst (v := nI 0) hx hb dX3_counted_105 (by decide) ?_
            refine lv_iadd hx hb dX3_counted_106 ?_
            rw [nI_add, Nat.add_zero]
            refine lv_istore_n (lv' := [(3, .int (nI q)), (4, .int (nI k)), (0, .ref y), (1, .int v1), (2, .int 3)]) hx hb dX3_counted_107 rfl hl (by decide) rfl (fun ls hl => ?_)
            refine lv_iinc (v := nI (k + 1)) (lv' := [(4, .int (nI (k + 1))), (3, .int (nI q)), (0, .ref y), (1, .int v1), (2, .int 3)]) hx hb dX3_counted_108 hl (k := 1) rfl (nI_1 _) (by decide) rfl (fun ls hl => ?_)
            refine lv_goto (tgt := 47) hx hb dX3_counted_111 (by decide) ?_
            exact ih (k + 1) q (by omega) (by omega) (cntB_n hq (by simp [c_70]))  ls (lv_sub hl [0, 1, 2, 3, 4] rfl)
          · refine lv_aload_n hx hb dX3_counted_73 rfl (lv_at hl 2 rfl) ?_
            refine rM_doneKinds S hM dX3_counted_74 ?_
            refine lv_iload hx hb dX3_counted_77 (lv_at hl 0 rfl) ?_
            refine rM_ald S hM 6 (by decide) (by show _ < 1024; omega) dX3_counted_79 ?_
            refine lv_if_ge (tgt := 87) hx hb dX3_counted_80 (by decide) (fun c_80 => ?_) (fun c_80 => ?_)
            · have h80 := i32_nlt.mpr c_80
              refine lv_iconst (v := 0) hx hb dX3_counted_87 (by decide) ?_
              refine lv_iload_n hx hb dX3_counted_88 rfl (lv_at hl 4 rfl) ?_
              refine lv_iconst (v := 3) hx hb dX3_counted_89 (by decide) ?_
              refine lv_icmp_ne (tgt := 97) hx hb dX3_counted_90 (by decide) (fun c_90 => ?_) (fun c_90 => ?_)
              · exact absurd (show _ from c_90) (by decide)
              · refine lv_iconst (v := 1) hx hb dX3_counted_93 (by decide) ?_
                refine lv_goto (tgt := 98) hx hb dX3_counted_94 (by decide) ?_
                refine lv_icmp_ne (tgt := 105) hx hb dX3_counted_98 (by decide) (fun c_98 => ?_) (fun c_98 => ?_)
                · refine lv_iconst (v := nI 0) hx hb dX3_counted_105 (by decide) ?_
                  refine lv_iadd hx hb dX3_counted_106 ?_
                  rw [nI_add, Nat.add_zero]
                  refine lv_istore_n (lv' := [(3, .int (nI q)), (4, .int (nI k)), (0, .ref y), (1, .int v1), (2, .int 3)]) hx hb dX3_counted_107 rfl hl (by decide) rfl (fun ls hl => ?_)
                  refine lv_iinc (v := nI (k + 1)) (lv' := [(4, .int (nI (k + 1))), (3, .int (nI q)), (0, .ref y), (1, .int v1), (2, .int 3)]) hx hb dX3_counted_108 hl (k := 1) rfl (nI_1 _) (by decide) rfl (fun ls hl => ?_)
                  refine lv_goto (tgt := 47) hx hb dX3_counted_111 (by decide) ?_
                  exact ih (k + 1) q (by omega) (by omega) (cntB_n hq (by simp [c_70, h80]))  ls (lv_sub hl [0, 1, 2, 3, 4] rfl)
                · exact absurd (show _ from c_98) (by decide)
            · have h80 := i32_nle.mp c_80
              refine lv_iconst (v := 1) hx hb dX3_counted_83 (by decide) ?_
              refine lv_goto (tgt := 88) hx hb dX3_counted_84 (by decide) ?_
              refine lv_iload_n hx hb dX3_counted_88 rfl (lv_at hl 4 rfl) ?_
              refine lv_iconst (v := 3) hx hb dX3_counted_89 (by decide) ?_
              refine lv_icmp_ne (tgt := 97) hx hb dX3_counted_90 (by decide) (fun c_90 => ?_) (fun c_90 => ?_)
              · exact absurd (show _ from c_90) (by decide)
              · refine lv_iconst (v := 1) hx hb dX3_counted_93 (by decide) ?_
                refine lv_goto (tgt := 98) hx hb dX3_counted_94 (by decide) ?_
                refine lv_icmp_ne (tgt := 105) hx hb dX3_counted_98 (by decide) (fun c_98 => ?_) (fun c_98 => ?_)
                · exact absurd (show _ from c_98) (by decide)
                · refine lv_iconst (v := nI 1) hx hb dX3_counted_101 (by decide) ?_
                  refine lv_goto (tgt := 106) hx hb dX3_counted_102 (by decide) ?_
                  refine lv_iadd hx hb dX3_counted_106 ?_
                  rw [nI_add]
                  refine lv_istore_n (lv' := [(3, .int (nI (q + 1))), (4, .int (nI k)), (0, .ref y), (1, .int v1), (2, .int 3)]) hx hb dX3_counted_107 rfl hl (by decide) rfl (fun ls hl => ?_)
                  refine lv_iinc (v := nI (k + 1)) (lv' := [(4, .int (nI (k + 1))), (3, .int (nI (q + 1))), (0, .ref y), (1, .int v1), (2, .int 3)]) hx hb dX3_counted_108 hl (k := 1) rfl (nI_1 _) (by decide) rfl (fun ls hl => ?_)
                  refine lv_goto (tgt := 47) hx hb dX3_counted_111 (by decide) ?_
                  exact ih (k + 1) (q + 1) (by omega) (by omega) (cntB_s hq (by simp [c_70, h80]))  ls (lv_sub hl [0, 1, 2, 3, 4] rfl)
  refine lv_iconst (v := nI 0) hx hb dX3_counted_0 (by decide) ?_
  refine lv_istore_n (lv' := [(3, .int (nI 0)), (0, .ref y), (1, .int v1), (2, .int 3)]) hx hb dX3_counted_1 rfl hl (by decide) rfl (fun ls hl => ?_)
  refine lv_iconst (v := nI 0) hx hb dX3_counted_2 (by decide) ?_
  refine lv_istore (lv' := [(4, .int (nI 0)), (3, .int (nI 0)), (0, .ref y), (1, .int v1), (2, .int 3)]) hx hb dX3_counted_3 hl (by decide) rfl (fun ls hl => ?_)
  refine lv_iload hx hb dX3_counted_5 (lv_at hl 0 rfl) ?_
  refine lv_aload_n hx hb dX3_counted_7 rfl (lv_at hl 2 rfl) ?_
  refine rM_many S hM dX3_counted_8 ?_
  refine lv_icmp_ge (tgt := 44) hx hb dX3_counted_11 (by decide) (fun c_11 => ?_) (fun c_11 => ?_)
  · rw [nI_leI (by omega) (by omega)] at c_11
    refine lv_iconst (v := nI 0) hx hb dX3_counted_44 (by decide) ?_
    refine lv_istore (lv' := [(4, .int (nI 0)), (3, .int (nI 0)), (0, .ref y), (1, .int v1), (2, .int 3)]) hx hb dX3_counted_45 hl (by decide) rfl (fun ls hl => ?_)
    exact hloop (d + 1) 0 0 (by omega) (by omega) rfl  ls (lv_sub hl [0, 1, 2, 3, 4] rfl)
  · rw [nI_leI (by omega) (by omega)] at c_11
    refine lv_iload_n hx hb dX3_counted_14 rfl (lv_at hl 4 rfl) ?_
    refine lv_iconst (v := 1) hx hb dX3_counted_15 (by decide) ?_
    refine lv_icmp_ne (tgt := 44) hx hb dX3_counted_16 (by decide) (fun c_16 => ?_) (fun c_16 => ?_)
    · refine lv_iconst (v := nI 0) hx hb dX3_counted_44 (by decide) ?_
      refine lv_istore (lv' := [(4, .int (nI 0)), (3, .int (nI 0)), (0, .ref y), (1, .int v1), (2, .int 3)]) hx hb dX3_counted_45 hl (by decide) rfl (fun ls hl => ?_)
      exact hloop (d + 1) 0 0 (by omega) (by omega) rfl  ls (lv_sub hl [0, 1, 2, 3, 4] rfl)
    · exact absurd (show _ from c_16) (by decide)
set_option maxHeartbeats 4000000 in
set_option maxRecDepth 100000 in
theorem c_X3_deepest (l : Launch) {D : va_G} {y : Nat} {a : Nat → Nat} {n d : Nat} {th : Int32} {A : Nat → Nat → Int32}  (dep : Int32 → Nat) (hdep : Dep A n dep) : Met l yX3_deepest (gws yX3_deepest cX3_deepest 5 (some .int)) { frames := 1, cells := 0, slots := 0, locals := 23 } (va_Pc [.ref y] (fun U => RdM D y a n d th A U U.heap)) (vp_Si (fun r => r = mxw (fun k => nI (dep (A 0 k))) n)) 0 0 (fun _ => False) := by
  refine met_go (by decide) (Nat.le_of_ble_eq_true rfl) ?_
  intro p e s m below meth c ls S hr hlocks hnm hM hl
  obtain ⟨hx, hb, hml, hown, hg⟩ := id S
  have hl : lv_has ls 5 [(0, .ref y)] := hl
  have hn := hM.n
  refine lv_iconst (v := 0) hx hb dX3_deepest_0 (by decide) ?_
  refine lv_istore_n (lv' := [(1, .int 0), (0, .ref y)]) hx hb dX3_deepest_1 rfl hl (by decide) rfl (fun ls hl => ?_)
  refine lv_iconst (v := nI 0) hx hb dX3_deepest_2 (by decide) ?_
  refine lv_istore_n (lv' := [(2, .int (nI 0)), (1, .int 0), (0, .ref y)]) hx hb dX3_deepest_3 rfl hl (by decide) rfl (fun ls hl => ?_)
  suffices hloop : ∀ (fuel : Nat) (k : Nat) (q : Int32), k ≤ n → n - k < fuel → q = mxw (fun k => nI (dep (A 0 k))) k → ∀ ls : Array Slot, lv_has ls 5 [(2, .int (nI k)), (1, .int q), (0, .ref y)] → W p l e { frames := 1, cells := 0, slots := 0, locals := 23 } s m [.ref y].toArray below meth c s.heap [] 0 0 (MQ below (vp_Si (fun r => r = mxw (fun k => nI (dep (A 0 k))) n)) [.ref y].toArray s 0 0 (fun _ => False)) (F0 m 4 ls []) from hloop (n + 1) 0 0 (by omega) (by omega) rfl  ls (lv_sub hl [0, 1, 2] rfl)
  intro fuel
  induction fuel with
  | zero => intro k q hk hf hq; omega
  | succ fuel ih =>
    intro k q hk hf hq  ls hl
    refine lv_iload_n hx hb dX3_deepest_4 rfl (lv_at hl 0 rfl) ?_
    refine lv_aload_n hx hb dX3_deepest_5 rfl (lv_at hl 2 rfl) ?_
    refine rM_many S hM dX3_deepest_6 ?_
    refine lv_icmp_ge (tgt := 63) hx hb dX3_deepest_9 (by decide) (fun c_9 => ?_) (fun c_9 => ?_)
    · rw [nI_leI (by omega) (by omega)] at c_9
      refine lv_iload_n hx hb dX3_deepest_63 rfl (lv_at hl 1 rfl) ?_
      exact W.iret (v := q) hx hb hr (fun t9 ht9 _ => ⟨_, rfl, by rw [hq, show k = n by omega], ht9⟩) (fun _ h => nomatch h) dX3_deepest_64
    · rw [nI_leI (by omega) (by omega)] at c_9
      refine lv_iconst (v := nI 0) hx hb dX3_deepest_12 (by decide) ?_
      refine lv_istore_n (lv' := [(3, .int (nI 0)), (2, .int (nI k)), (1, .int q), (0, .ref y)]) hx hb dX3_deepest_13 rfl hl (by decide) rfl (fun ls hl => ?_)
      refine lv_aload_n hx hb dX3_deepest_14 rfl (lv_at hl 3 rfl) ?_
      refine rM_ids S hM dX3_deepest_15 ?_
      refine lv_iload_n hx hb dX3_deepest_18 rfl (lv_at hl 1 rfl) ?_
      refine rM_ald S hM 0 (by decide) (by show _ < 512; omega) dX3_deepest_19 ?_
      refine lv_istore (lv' := [(4, .int (A 0 k)), (3, .int (nI 0)), (2, .int (nI k)), (1, .int q), (0, .ref y)]) hx hb dX3_deepest_20 hl (by decide) rfl (fun ls hl => ?_)
      suffices hloop2 : ∀ (fuel2 : Nat) (av : Int32) (dd : Nat), dep av < fuel2 → dd + dep av = dep (A 0 k) → (av = 0 ∨ ∃ j, j < n ∧ A 0 j = av) → ∀ ls : Array Slot, lv_has ls 5 [(4, .int av), (3, .int (nI dd)), (2, .int (nI k)), (1, .int q), (0, .ref y)] → W p l e { frames := 1, cells := 0, slots := 0, locals := 23 } s m [.ref y].toArray below meth c s.heap [] 0 0 (MQ below (vp_Si (fun r => r = mxw (fun k => nI (dep (A 0 k))) n)) [.ref y].toArray s 0 0 (fun _ => False)) (F0 m 22 ls []) from hloop2 513 (A 0 k) 0 (by have := hdep.2.2 (A 0 k); omega) (by omega) (Or.inr ⟨k, by omega, rfl⟩)  ls (lv_sub hl [0, 1, 2, 3, 4] rfl)
      intro fuel2
      induction fuel2 with
      | zero => intro av dd hf2 hde hat; omega
      | succ fuel2 ih2 =>
        intro av dd hf2 hde hat  ls hl
        refine lv_iload hx hb dX3_deepest_22 (lv_at hl 0 rfl) ?_
        refine lv_if_eq (tgt := 46) hx hb dX3_deepest_24 (by decide) (fun c_24 => ?_) (fun c_24 => ?_)
        · have hdd : dd = dep (A 0 k) := by rw [← hde, c_24, hdep.1, Nat.add_zero]
          have hd5 := hdep.2.2 (A 0 k)
          refine lv_iload_n hx hb dX3_deepest_46 rfl (lv_at hl 1 rfl) ?_
          refine lv_iload_n hx hb dX3_deepest_47 rfl (lv_at hl 3 rfl) ?_
          refine lv_icmp_le (tgt := 55) hx hb dX3_deepest_48 (by decide) (fun c_48 => ?_) (fun c_48 => ?_)
          · refine lv_iload_n hx hb dX3_deepest_55 rfl (lv_at hl 3 rfl) ?_
            refine lv_istore_n (lv' := [(1, .int q), (4, .int av), (3, .int (nI dd)), (2, .int (nI k)), (0, .ref y)]) hx hb dX3_deepest_56 rfl hl (by decide) rfl (fun ls hl => ?_)
            refine lv_iinc (v := nI (k + 1)) (lv' := [(2, .int (nI (k + 1))), (1, .int q), (4, .int av), (3, .int (nI dd)), (0, .ref y)]) hx hb dX3_deepest_57 hl (k := 3) rfl (nI_1 _) (by decide) rfl (fun ls hl => ?_)
            refine lv_goto (tgt := 4) hx hb dX3_deepest_60 (by decide) ?_
            exact ih (k + 1) _ (by omega) (by omega) (mxw_n hq (by rw [← hdd]; exact i32_nlt.mpr c_48))  ls (lv_sub hl [0, 1, 4] rfl)
          · refine lv_iload_n hx hb dX3_deepest_51 rfl (lv_at hl 1 rfl) ?_
            refine lv_goto (tgt := 56) hx hb dX3_deepest_52 (by decide) ?_
            refine lv_istore_n (lv' := [(1, .int (nI dd)), (4, .int av), (3, .int (nI dd)), (2, .int (nI k)), (0, .ref y)]) hx hb dX3_deepest_56 rfl hl (by decide) rfl (fun ls hl => ?_)
            refine lv_iinc (v := nI (k + 1)) (lv' := [(2, .int (nI (k + 1))), (1, .int (nI dd)), (4, .int av), (3, .int (nI dd)), (0, .ref y)]) hx hb dX3_deepest_57 hl (k := 3) rfl (nI_1 _) (by decide) rfl (fun ls hl => ?_)
            refine lv_goto (tgt := 4) hx hb dX3_deepest_60 (by decide) ?_
            exact ih (k + 1) _ (by omega) (by omega) (by rw [hdd]; exact mxw_s hq (by rw [← hdd]; exact i32_nle.mp c_48))  ls (lv_sub hl [0, 1, 4] rfl)
        · refine lv_iinc (v := nI (dd + 1)) (lv' := [(3, .int (nI (dd + 1))), (4, .int av), (2, .int (nI k)), (1, .int q), (0, .ref y)]) hx hb dX3_deepest_27 hl (k := 1) rfl (nI_1 _) (by decide) rfl (fun ls hl => ?_)
          refine lv_aload_n hx hb dX3_deepest_30 rfl (lv_at hl 4 rfl) ?_
          refine rM_behinds S hM dX3_deepest_31 ?_
          refine lv_aload_n hx hb dX3_deepest_34 rfl (lv_at hl 4 rfl) ?_
          refine lv_iload hx hb dX3_deepest_35 (lv_at hl 1 rfl) ?_
          refine vp_callSi (va_Run.run (runV (As := [.int av]) (rest := [.ref (a 1)]) (Bh := RdM D y a n d th A) S (c_X3_placeOf l av) (gw_V wk_410 wk_412 wp_22 wk_4 wk_413) rfl rfl 1 rfl (by decide +kernel) (by decide) ⟨Nat.le_refl _, Nat.le_refl _⟩ (fun _ _ _ h q => RdM.mv h q) hM.recv hM hl.1 (Nat.le_of_ble_eq_true rfl) dX3_deepest_37)) (fun r hr => ?_)
          rcases hr with ⟨k_37, hk_37, he_37, hf_37, rfl⟩ | ⟨hn_37, rfl⟩
          · have hd9 := hdep.2.1 k_37 hk_37
            rw [he_37] at hd9
            refine rM_ald S hM 1 (by decide) (by show _ < 512; omega) dX3_deepest_40 ?_
            refine lv_istore (lv' := [(4, .int (A 1 k_37)), (3, .int (nI (dd + 1))), (2, .int (nI k)), (1, .int q), (0, .ref y)]) hx hb dX3_deepest_41 hl (by decide) rfl (fun ls hl => ?_)
            refine lv_goto (tgt := 22) hx hb dX3_deepest_43 (by decide) ?_
            exact ih2 (A 1 k_37) (dd + 1) (by omega) (by omega) hd9.2.2  ls (lv_sub hl [0, 1, 2, 3, 4] rfl)
          · exact (hat.elim c_24 (fun ⟨j, h1, h2⟩ => hn_37 j h1 h2)).elim
