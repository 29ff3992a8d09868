/-- the bytes of a run, as the reference takes them -/
def bM (part : Int64) (M k : Nat) : Int32 := ((part >>> ((8 * ((nI M - 1) - nI k)).toInt64 &&& 63)) &&& 255).toInt32
def rA (A : Nat → Nat → Int32) (n : Nat) (v1 v2 : Int32) (M : Nat) (part : Int64) : Nat → (Nat → Nat → Int32)
  | 0 => A
  | k + 1 => kA (rA A n v1 v2 M part k) (n + k) (v1 + 8 * nI k) (if k = 0 then v2 else v1 + 8 * nI k - 8) 2 (bM part M k)
theorem rng28 {v : Int32} (h1 : ¬ v < 2) (h2 : ¬ 8 < v) : ∃ M, 2 ≤ M ∧ M ≤ 8 ∧ v = nI M := by
  have e2 : (2 : Int32).toInt = 2 := by decide
  have e8 : (8 : Int32).toInt = 8 := by decide
  rw [Int32.lt_iff_toInt_lt, e2] at h1
  rw [Int32.lt_iff_toInt_lt, e8] at h2
  refine ⟨v.toInt.toNat, by omega, by omega, Int32.toInt_inj.mp ?_⟩
  rw [nI_toInt (by omega)]
  omega
theorem rng28' {M : Nat} (h1 : 2 ≤ M) (h2 : M ≤ 8) : ¬ nI M < 2 ∧ ¬ 8 < nI M := by
  have e2 : (2 : Int32).toInt = 2 := by decide
  have e8 : (8 : Int32).toInt = 8 := by decide
  rw [Int32.lt_iff_toInt_lt, Int32.lt_iff_toInt_lt, e2, e8, nI_toInt (by omega)]
  omega
def RunM (A : Nat → Nat → Int32) (n d : Nat) (v1 v2 : Int32) (M : Nat) : Prop := 2 ≤ M ∧ M ≤ 8 ∧ (NewM A n d v1 ∧ (v2 = 0 ∨ ∃ k, k < n ∧ A 0 k = v2) ∧ ¬ v1 ≤ v2 ∧ n < 512) ∧ n + M ≤ 512 ∧ ∀ k, 1 ≤ k → k < M → NewM A n d (v1 + 8 * nI k)
set_option maxHeartbeats 4000000 in
set_option maxRecDepth 100000 in
theorem c_X3_run (l : Launch) {D : va_G} {y : Nat} {a : Nat → Nat} {cI : ClassId} {n d : Nat} {th : Int32} {A : Nat → Nat → Int32} {sz : Nat} (v1 : Int32) (v2 : Int32) (v3 : Int32) (v4 : Int64)  : Met l yX3_run (gws yX3_run cX3_run 7 (some .boolean)) { frames := 3, cells := 0, slots := 0, locals := 68 } (va_Pc [.ref y, .int v1, .int v2, .int v3, .long v4] (fun U => MPre D y a cI n d th A sz U U.heap)) (va_Qi (fun r (u : MS) => (∃ M9, v3 = nI M9 ∧ RunM A n d v1 v2 M9 ∧ r = 1 ∧ u = (n + M9, d, 0, rA A n v1 v2 M9 v4 M9)) ∨ ((¬ ∃ M9, v3 = nI M9 ∧ RunM A n d v1 v2 M9) ∧ r = 0 ∧ u = (n, d, 0, A))) (MB D y a cI (va_A (wM y a cI n d th A) sz)) (va_A (wM y a cI n d th A) sz)) 0 0 (va_A (wM y a cI n d th A) sz) := by
  refine met_mm (QQ := fun AA => va_Qi (fun r (u : MS) => (∃ M9, v3 = nI M9 ∧ RunM A n d v1 v2 M9 ∧ r = 1 ∧ u = (n + M9, d, 0, rA A n v1 v2 M9 v4 M9)) ∨ ((¬ ∃ M9, v3 = nI M9 ∧ RunM A n d v1 v2 M9) ∧ r = 0 ∧ u = (n, d, 0, A))) (MB D y a cI AA) AA) (by decide) (Nat.le_of_ble_eq_true rfl) ?_
  intro p e s m below meth c ls AA S hr hlocks hM hl
  obtain ⟨hx, hb, hml, hown, hg⟩ := id S
  have hl : lv_has ls 7 [(0, .ref y), (1, .int v1), (2, .int v2), (3, .int v3), (4, .long v4)] := hl
  have hn := hM.bd
  suffices key9 : ∀ (H : Heap) (locs : List Loc), MM D y a cI n d th A AA s.heap s H locs → W p l e { frames := 3, cells := 0, slots := 0, locals := 68 } s m [.ref y, .int v1, .int v2, .int v3, .long v4].toArray below meth c H locs 0 0 (MQ below ((fun AA : Nat → Prop => va_Qi (fun r (u : MS) => (∃ M9, v3 = nI M9 ∧ RunM A n d v1 v2 M9 ∧ r = 1 ∧ u = (n + M9, d, 0, rA A n v1 v2 M9 v4 M9)) ∨ ((¬ ∃ M9, v3 = nI M9 ∧ RunM A n d v1 v2 M9) ∧ r = 0 ∧ u = (n, d, 0, A))) (MB D y a cI AA) AA) AA) [.ref y, .int v1, .int v2, .int v3, .long v4].toArray s 0 0 AA) (F0 m 0 ls []) from key9 _ _ hM
  clear hM
  intro H locs hM
  refine lv_aload_n hx hb dX3_run_0 rfl (lv_at hl 0 rfl) ?_
  refine lv_iconst (v := 0) hx hb dX3_run_1 (by decide) ?_
  refine mw_thrown S hM dX3_run_2 (fun H locs hM => ?_)
  refine lv_iload_n hx hb dX3_run_5 rfl (lv_at hl 3 rfl) ?_
  refine lv_iconst (v := 2) hx hb dX3_run_6 (by decide) ?_
  refine lv_icmp_lt (tgt := 37) hx hb dX3_run_7 (by decide) (fun c_7 => ?_) (fun c_7 => ?_)
  · refine lv_iconst (v := 0) hx hb dX3_run_37 (by decide) ?_
    exact W.zret (v := 0) hx hb hr rfl (fun t9 ht9 hW9 => ⟨⟨_, (n, d, 0, A), rfl, Or.inr ⟨fun ⟨M, e, z⟩ => (rng28' z.1 z.2.1).1 (by rw [← e]; exact c_7), rfl, rfl⟩, (hM.out ht9 hW9).1⟩, (hM.out ht9 hW9).2⟩) hM.S.2.2 dX3_run_38
  · refine lv_iload_n hx hb dX3_run_10 rfl (lv_at hl 3 rfl) ?_
    refine lv_bipush (v := 8) hx hb dX3_run_11 (by decide) ?_
    refine lv_icmp_gt (tgt := 37) hx hb dX3_run_13 (by decide) (fun c_13 => ?_) (fun c_13 => ?_)
    · refine lv_iconst (v := 0) hx hb dX3_run_37 (by decide) ?_
      exact W.zret (v := 0) hx hb hr rfl (fun t9 ht9 hW9 => ⟨⟨_, (n, d, 0, A), rfl, Or.inr ⟨fun ⟨M, e, z⟩ => (rng28' z.1 z.2.1).2 (by rw [← e]; exact c_13), rfl, rfl⟩, (hM.out ht9 hW9).1⟩, (hM.out ht9 hW9).2⟩) hM.S.2.2 dX3_run_38
    · obtain ⟨M, hM2, hM8, rfl⟩ := rng28 c_7 c_13
      refine lv_aload_n hx hb dX3_run_16 rfl (lv_at hl 0 rfl) ?_
      refine lv_iload_n hx hb dX3_run_17 rfl (lv_at hl 1 rfl) ?_
      refine lv_iload_n hx hb dX3_run_18 rfl (lv_at hl 2 rfl) ?_
      refine vp_callSi (va_Run.run (runV (As := [.int v1, .int v2]) (rest := []) (Bh := RdM D y a n d 0 A) S (c_X3_canInsert l v1 v2) (gw_V wk_401 wk_403 wp_20 wk_4 wk_404) rfl rfl 2 rfl (by decide +kernel) (by decide) ⟨Nat.le_refl _, Nat.le_refl _⟩ (fun _ _ _ h q => RdM.mv h q) hM.recv hM.rd hl.1 (Nat.le_of_ble_eq_true rfl) dX3_run_19)) (fun r hr => ?_)
      rcases hr with ⟨h_19, rfl⟩ | ⟨h_19, rfl⟩
      · refine lv_if_eq (tgt := 37) hx hb dX3_run_22 (by decide) (fun c_22 => ?_) (fun c_22 => ?_)
        · exact absurd (show _ from c_22) (by decide)
        · refine lv_aload_n hx hb dX3_run_25 rfl (lv_at hl 0 rfl) ?_
          refine rM_many S hM.rd dX3_run_26 ?_
          refine lv_iload_n hx hb dX3_run_29 rfl (lv_at hl 3 rfl) ?_
          refine lv_iadd hx hb dX3_run_30 ?_
          rw [nI_add]
          refine lv_sipush (v := nI 512) hx hb dX3_run_31 (by decide) ?_
          refine lv_icmp_le (tgt := 39) hx hb dX3_run_34 (by decide) (fun c_34 => ?_) (fun c_34 => ?_)
          · rw [nI_leI (by omega) (by omega)] at c_34
            refine lv_iconst (v := nI 1) hx hb dX3_run_39 (by decide) ?_
            refine lv_istore (lv' := [(6, .int (nI 1)), (0, .ref y), (1, .int v1), (2, .int v2), (3, .int (nI M)), (4, .long v4)]) hx hb dX3_run_40 hl (by decide) rfl (fun ls hl => ?_)
            suffices hloop : ∀ (fuel : Nat) (k : Nat), 1 ≤ k → k ≤ M → M - k < fuel → (∀ j, 1 ≤ j → j < M → j < k → NewM A n d (v1 + 8 * nI j)) → ∀ ls : Array Slot, lv_has ls 7 [(6, .int (nI k)), (0, .ref y), (1, .int v1), (2, .int v2), (3, .int (nI M)), (4, .long v4)] → W p l e { frames := 3, cells := 0, slots := 0, locals := 68 } s m [.ref y, .int v1, .int v2, .int (nI M), .long v4].toArray below meth c H locs 0 0 (MQ below ((fun AA : Nat → Prop => va_Qi (fun r (u : MS) => (∃ M9, nI M = nI M9 ∧ RunM A n d v1 v2 M9 ∧ r = 1 ∧ u = (n + M9, d, 0, rA A n v1 v2 M9 v4 M9)) ∨ ((¬ ∃ M9, nI M = nI M9 ∧ RunM A n d v1 v2 M9) ∧ r = 0 ∧ u = (n, d, 0, A))) (MB D y a cI AA) AA) AA) [.ref y, .int v1, .int v2, .int (nI M), .long v4].toArray s 0 0 AA) (F0 m 42 ls []) from hloop (M + 1) 1 (by omega) (by omega) (by omega) (fun j h1 h2 h3 => absurd h3 (by omega))  ls (lv_sub hl [0, 1, 2, 3, 4, 5] rfl)
            intro fuel
            induction fuel with
            | zero => intro k hk1 hk hf hI; omega
            | succ fuel ih =>
              intro k hk1 hk hf hI  ls hl
              refine lv_iload hx hb dX3_run_42 (lv_at hl 0 rfl) ?_
              refine lv_iload_n hx hb dX3_run_44 rfl (lv_at hl 4 rfl) ?_
              refine lv_icmp_ge (tgt := 70) hx hb dX3_run_45 (by decide) (fun c_45 => ?_) (fun c_45 => ?_)
              · rw [nI_leI (by omega) (by omega)] at c_45
                refine lv_iconst (v := nI 0) hx hb dX3_run_70 (by decide) ?_
                refine lv_istore (lv' := [(6, .int (nI 0)), (0, .ref y), (1, .int v1), (2, .int v2), (3, .int (nI M)), (4, .long v4)]) hx hb dX3_run_71 hl (by decide) rfl (fun ls hl => ?_)
                have hI : ∀ j, 1 ≤ j → j < M → NewM A n d (v1 + 8 * nI j) := fun j h1 h2 => hI j h1 h2 (by omega)
                suffices hloop2 : ∀ (fuel2 : Nat) (k : Nat), k ≤ M → M - k < fuel2 → ∀ (H : Heap) (locs : List Loc), MM D y a cI (n + k) d 0 (rA A n v1 v2 M v4 k) AA s.heap s H locs → ∀ ls : Array Slot, lv_has ls 7 [(6, .int (nI k)), (0, .ref y), (1, .int v1), (2, .int v2), (3, .int (nI M)), (4, .long v4)] → W p l e { frames := 3, cells := 0, slots := 0, locals := 68 } s m [.ref y, .int v1, .int v2, .int (nI M), .long v4].toArray below meth c H locs 0 0 (MQ below ((fun AA : Nat → Prop => va_Qi (fun r (u : MS) => (∃ M9, nI M = nI M9 ∧ RunM A n d v1 v2 M9 ∧ r = 1 ∧ u = (n + M9, d, 0, rA A n v1 v2 M9 v4 M9)) ∨ ((¬ ∃ M9, nI M = nI M9 ∧ RunM A n d v1 v2 M9) ∧ r = 0 ∧ u = (n, d, 0, A))) (MB D y a cI AA) AA) AA) [.ref y, .int v1, .int v2, .int (nI M), .long v4].toArray s 0 0 AA) (F0 m 73 ls []) from hloop2 (M + 1) 0 (by omega) (by omega) _ _ hM ls (lv_sub hl [0, 1, 2, 3, 4, 5] rfl)
                intro fuel2
                induction fuel2 with
                | zero => intro k hk hf; omega
                | succ fuel2 ih2 =>
                  intro k hk hf H locs hM ls hl
                  refine lv_iload hx hb dX3_run_73 (lv_at hl 0 rfl) ?_
                  refine lv_iload_n hx hb dX3_run_75 rfl (lv_at hl 4 rfl) ?_
                  refine lv_icmp_ge (tgt := 133) hx hb dX3_run_76 (by decide) (fun c_76 => ?_) (fun c_76 => ?_)
                  · rw [nI_leI (by omega) (by omega)] at c_76
                    refine lv_iconst (v := 1) hx hb dX3_run_133 (by decide) ?_
                    exact W.zret (v := 1) hx hb hr rfl (fun t9 ht9 hW9 => ⟨⟨_, ((n + k), d, 0, (rA A n v1 v2 M v4 k)), rfl, Or.inl ⟨M, rfl, ⟨hM2, hM8, h_19, by omega, hI⟩, rfl, by rw [show k = M by omega]⟩, (hM.out ht9 hW9).1⟩, (hM.out ht9 hW9).2⟩) hM.S.2.2 dX3_run_134
                  · rw [nI_leI (by omega) (by omega)] at c_76
                    refine lv_aload_n hx hb dX3_run_79 rfl (lv_at hl 1 rfl) ?_
                    refine lv_iload_n hx hb dX3_run_80 rfl (lv_at hl 2 rfl) ?_
                    refine lv_bipush (v := 8) hx hb dX3_run_81 (by decide) ?_
                    refine lv_iload hx hb dX3_run_83 (lv_at hl 0 rfl) ?_
                    refine lv_imul hx hb dX3_run_85 ?_
                    refine lv_iadd hx hb dX3_run_86 ?_
                    refine lv_iload hx hb dX3_run_87 (lv_at hl 0 rfl) ?_
                    refine lv_if_ne (tgt := 96) hx hb dX3_run_89 (by decide) (fun c_89 => ?_) (fun c_89 => ?_)
                    · have c_89 : ¬ k = 0 := fun z => c_89 (by rw [z]; rfl)
                      refine lv_iload_n hx hb dX3_run_96 rfl (lv_at hl 2 rfl) ?_
                      refine lv_bipush (v := 8) hx hb dX3_run_97 (by decide) ?_
                      refine lv_iload hx hb dX3_run_99 (lv_at hl 0 rfl) ?_
                      refine lv_imul hx hb dX3_run_101 ?_
                      refine lv_iadd hx hb dX3_run_102 ?_
                      refine lv_bipush (v := 8) hx hb dX3_run_103 (by decide) ?_
                      refine lv_isub hx hb dX3_run_105 ?_
                      refine lv_iconst (v := 2) hx hb dX3_run_106 (by decide) ?_
                      refine lv_lload hx hb dX3_run_107 (lv_at hl 5 rfl) ?_
                      refine lv_bipush (v := 8) hx hb dX3_run_109 (by decide) ?_
                      refine lv_iload_n hx hb dX3_run_111 rfl (lv_at hl 4 rfl) ?_
                      refine lv_iconst (v := 1) hx hb dX3_run_112 (by decide) ?_
                      refine lv_isub hx hb dX3_run_113 ?_
                      refine lv_iload hx hb dX3_run_114 (lv_at hl 0 rfl) ?_
                      refine lv_isub hx hb dX3_run_116 ?_
                      refine lv_imul hx hb dX3_run_117 ?_
                      refine lv_lshr (v := (v4 >>> ((8 * (((nI M) - 1) - (nI k))).toInt64 &&& 63))) hx hb dX3_run_118 rfl ?_
                      refine lv_ldc2 (v := 255) hx hb hown (hg _ wk_425) dX3_run_119 ?_
                      refine lv_land hx hb dX3_run_122 ?_
                      refine lv_l2i (v := ((v4 >>> ((8 * (((nI M) - 1) - (nI k))).toInt64 &&& 63)) &&& 255).toInt32) hx hb dX3_run_123 rfl ?_
                      refine va_callv (runV (As := [.int (v1 + (8 * (nI k))), .int ((v1 + (8 * (nI k))) - 8), .int 2, .int (((v4 >>> ((8 * (((nI M) - 1) - (nI k))).toInt64 &&& 63)) &&& 255).toInt32)]) (rest := []) (Bh := MPre D y a cI (n + k) d 0 (rA A n v1 v2 M v4 k) H.size) S (c_X3_keep l (v1 + (8 * (nI k))) ((v1 + (8 * (nI k))) - 8) 2 (((v4 >>> ((8 * (((nI M) - 1) - (nI k))).toInt64 &&& 63)) &&& 255).toInt32) (by omega)) (gw_V wk_417 wk_419 wp_23 wk_4 wk_420) rfl rfl 4 rfl (by decide +kernel) (by decide) ⟨Nat.le_refl _, Nat.le_refl _⟩ (fun _ _ _ h q => MPre.mv h q) hM.recv hM.pre hl.1 (Nat.le_of_ble_eq_true rfl) dX3_run_124) hM.S (fun q _ h => hM.free q h) hM.free (fun u8 t8 H1 locs1 ht8 hvm8 hp hB8 hz8 hk8 hS8 => ?_)
                      obtain ⟨n_124, d_124, th_124, A_124⟩ := u8
                      have hM := hM.back ht8 hB8 hS8
                      generalize H1 = H at hM ⊢
                      generalize locs1 = locs at hM ⊢
                      dsimp only at hp hM
                      obtain ⟨rfl, rfl, rfl, rfl⟩ : (n + k) + 1 = n_124 ∧ d = d_124 ∧ 0 = th_124 ∧ kA (rA A n v1 v2 M v4 k) (n + k) (v1 + (8 * (nI k))) ((v1 + (8 * (nI k))) - 8) 2 (((v4 >>> ((8 * (((nI M) - 1) - (nI k))).toInt64 &&& 63)) &&& 255).toInt32) = A_124 := by have z := hp; simp only [Prod.mk.injEq] at z; exact ⟨z.1.symm, z.2.1.symm, z.2.2.1.symm, z.2.2.2.symm⟩
                      refine lv_iinc (v := nI (k + 1)) (lv' := [(6, .int (nI (k + 1))), (0, .ref y), (1, .int v1), (2, .int v2), (3, .int (nI M)), (4, .long v4)]) hx hb dX3_run_127 hl (k := 0) rfl (nI_1 _) (by decide) rfl (fun ls hl => ?_)
                      refine lv_goto (tgt := 73) hx hb dX3_run_130 (by decide) ?_
                      exact ih2 (k + 1) (by omega) (by omega) _ _ (by rw [← Nat.add_assoc, rA, if_neg c_89]; exact hM) ls (lv_sub hl [0, 1, 2, 3, 4, 5] rfl)
                    · have c_89 : k = 0 := Nat.eq_zero_of_not_pos (fun z => nI_ne0 z (by omega) c_89)
                      refine lv_iload_n hx hb dX3_run_92 rfl (lv_at hl 3 rfl) ?_
                      refine lv_goto (tgt := 106) hx hb dX3_run_93 (by decide) ?_
                      refine lv_iconst (v := 2) hx hb dX3_run_106 (by decide) ?_
                      refine lv_lload hx hb dX3_run_107 (lv_at hl 5 rfl) ?_
                      refine lv_bipush (v := 8) hx hb dX3_run_109 (by decide) ?_
                      refine lv_iload_n hx hb dX3_run_111 rfl (lv_at hl 4 rfl) ?_
                      refine lv_iconst (v := 1) hx hb dX3_run_112 (by decide) ?_
                      refine lv_isub hx hb dX3_run_113 ?_
                      refine lv_iload hx hb dX3_run_114 (lv_at hl 0 rfl) ?_
                      refine lv_isub hx hb dX3_run_116 ?_
                      refine lv_imul hx hb dX3_run_117 ?_
                      refine lv_lshr (v := (v4 >>> ((8 * (((nI M) - 1) - (nI k))).toInt64 &&& 63))) hx hb dX3_run_118 rfl ?_
                      refine lv_ldc2 (v := 255) hx hb hown (hg _ wk_425) dX3_run_119 ?_
                      refine lv_land hx hb dX3_run_122 ?_
                      refine lv_l2i (v := ((v4 >>> ((8 * (((nI M) - 1) - (nI k))).toInt64 &&& 63)) &&& 255).toInt32) hx hb dX3_run_123 rfl ?_
                      refine va_callv (runV (As := [.int (v1 + (8 * (nI k))), .int v2, .int 2, .int (((v4 >>> ((8 * (((nI M) - 1) - (nI k))).toInt64 &&& 63)) &&& 255).toInt32)]) (rest := []) (Bh := MPre D y a cI (n + k) d 0 (rA A n v1 v2 M v4 k) H.size) S (c_X3_keep l (v1 + (8 * (nI k))) v2 2 (((v4 >>> ((8 * (((nI M) - 1) - (nI k))).toInt64 &&& 63)) &&& 255).toInt32) (by omega)) (gw_V wk_417 wk_419 wp_23 wk_4 wk_420) rfl rfl 4 rfl (by decide +kernel) (by decide) ⟨Nat.le_refl _, Nat.le_refl _⟩ (fun _ _ _ h q => MPre.mv h q) hM.recv hM.pre hl.1 (Nat.le_of_ble_eq_true rfl) dX3_run_124) hM.S (fun q _ h => hM.free q h) hM.free (fun u8 t8 H1 locs1 ht8 hvm8 hp hB8 hz8 hk8 hS8 => ?_)
                      obtain ⟨n_124, d_124, th_124, A_124⟩ := u8
                      have hM := hM.back ht8 hB8 hS8
                      generalize H1 = H at hM ⊢
                      generalize locs1 = locs at hM ⊢
                      dsimp only at hp hM
                      obtain ⟨rfl, rfl, rfl, rfl⟩ : (n + k) + 1 = n_124 ∧ d = d_124 ∧ 0 = th_124 ∧ kA (rA A n v1 v2 M v4 k) (n + k) (v1 + (8 * (nI k))) v2 2 (((v4 >>> ((8 * (((nI M) - 1) - (nI k))).toInt64 &&& 63)) &&& 255).toInt32) = A_124 := by have z := hp; simp only [Prod.mk.injEq] at z; exact ⟨z.1.symm, z.2.1.symm, z.2.2.1.symm, z.2.2.2.symm⟩
                      refine lv_iinc (v := nI (k + 1)) (lv' := [(6, .int (nI (k + 1))), (0, .ref y), (1, .int v1), (2, .int v2), (3, .int (nI M)), (4, .long v4)]) hx hb dX3_run_127 hl (k := 0) rfl (nI_1 _) (by decide) rfl (fun ls hl => ?_)
                      refine lv_goto (tgt := 73) hx hb dX3_run_130 (by decide) ?_
                      exact ih2 (k + 1) (by omega) (by omega) _ _ (by rw [← Nat.add_assoc, rA, if_pos c_89]; exact hM) ls (lv_sub hl [0, 1, 2, 3, 4, 5] rfl)
              · rw [nI_leI (by omega) (by omega)] at c_45
                refine lv_aload_n hx hb dX3_run_48 rfl (lv_at hl 1 rfl) ?_
                refine lv_iload_n hx hb dX3_run_49 rfl (lv_at hl 2 rfl) ?_
                refine lv_bipush (v := 8) hx hb dX3_run_50 (by decide) ?_
                refine lv_iload hx hb dX3_run_52 (lv_at hl 0 rfl) ?_
                refine lv_imul hx hb dX3_run_54 ?_
                refine lv_iadd hx hb dX3_run_55 ?_
                refine vp_callSi (va_Run.run (runV (As := [.int (v1 + (8 * (nI k)))]) (rest := []) (Bh := RdM D y a n d 0 A) S (c_X3_isNew l (v1 + (8 * (nI k)))) (gw_V wk_405 wk_407 wp_21 wk_4 wk_408) rfl rfl 1 rfl (by decide +kernel) (by decide) ⟨Nat.le_refl _, Nat.le_refl _⟩ (fun _ _ _ h q => RdM.mv h q) hM.recv hM.rd hl.1 (Nat.le_of_ble_eq_true rfl) dX3_run_56)) (fun r hr => ?_)
                rcases hr with ⟨h_56, rfl⟩ | ⟨h_56, rfl⟩
                · refine lv_if_ne (tgt := 64) hx hb dX3_run_59 (by decide) (fun c_59 => ?_) (fun c_59 => ?_)
                  · refine lv_iinc (v := nI (k + 1)) (lv' := [(6, .int (nI (k + 1))), (0, .ref y), (1, .int v1), (2, .int v2), (3, .int (nI M)), (4, .long v4)]) hx hb dX3_run_64 hl (k := 0) rfl (nI_1 _) (by decide) rfl (fun ls hl => ?_)
                    refine lv_goto (tgt := 42) hx hb dX3_run_67 (by decide) ?_
                    exact ih (k + 1) (by omega) (by omega) (by omega) (fun j h1 h2 h3 => if e : j = k then by rw [e]; exact h_56 else hI j h1 h2 (by omega))  ls (lv_sub hl [0, 1, 2, 3, 4, 5] rfl)
                  · exact absurd (show _ from c_59) (by decide)
                · refine lv_if_ne (tgt := 64) hx hb dX3_run_59 (by decide) (fun c_59 => ?_) (fun c_59 => ?_)
                  · exact absurd (show _ from c_59) (by decide)
                  · refine lv_iconst (v := 0) hx hb dX3_run_62 (by decide) ?_
                    exact W.zret (v := 0) hx hb hr rfl (fun t9 ht9 hW9 => ⟨⟨_, (n, d, 0, A), rfl, Or.inr ⟨fun ⟨M9, e, z⟩ => by obtain rfl := (nI_eq (by omega) (by have := z.2.1; omega)).mp e; exact h_56 (z.2.2.2.2 k (by omega) (by omega)), rfl, rfl⟩, (hM.out ht9 hW9).1⟩, (hM.out ht9 hW9).2⟩) hM.S.2.2 dX3_run_63
          · rw [nI_leI (by omega) (by omega)] at c_34
            refine lv_iconst (v := 0) hx hb dX3_run_37 (by decide) ?_
            exact W.zret (v := 0) hx hb hr rfl (fun t9 ht9 hW9 => ⟨⟨_, (n, d, 0, A), rfl, Or.inr ⟨fun ⟨M9, e, z⟩ => by obtain rfl := (nI_eq (by omega) (by have := z.2.1; omega)).mp e; exact absurd z.2.2.2.1 (by omega), rfl, rfl⟩, (hM.out ht9 hW9).1⟩, (hM.out ht9 hW9).2⟩) hM.S.2.2 dX3_run_38
      · refine lv_if_eq (tgt := 37) hx hb dX3_run_22 (by decide) (fun c_22 => ?_) (fun c_22 => ?_)
        · refine lv_iconst (v := 0) hx hb dX3_run_37 (by decide) ?_
          exact W.zret (v := 0) hx hb hr rfl (fun t9 ht9 hW9 => ⟨⟨_, (n, d, 0, A), rfl, Or.inr ⟨fun ⟨M9, e, z⟩ => by obtain rfl := (nI_eq (by omega) (by have := z.2.1; omega)).mp e; exact h_19 z.2.2.1, rfl, rfl⟩, (hM.out ht9 hW9).1⟩, (hM.out ht9 hW9).2⟩) hM.S.2.2 dX3_run_38
        · exact absurd (show _ from c_22) (by decide)
