theorem va_up_id {α : Type} (f : Nat → α) (k : Nat) : va_up f k (f k) = f := by
  funext j
  by_cases h : j = k
  · rw [h, va_up_self]
  · rw [va_up_ne _ _ h]
theorem va_up_comm {α : Type} (f : Nat → α) {k j : Nat} (h : k ≠ j) (v w : α) : va_up (va_up f k v) j w = va_up (va_up f j w) k v := by
  funext i
  by_cases h1 : i = j
  · subst h1; rw [va_up_self, va_up_ne _ _ (Ne.symm h), va_up_self]
  · rw [va_up_ne _ _ h1]
    by_cases h2 : i = k
    · subst h2; rw [va_up_self, va_up_self]
    · rw [va_up_ne _ _ h2, va_up_ne _ _ h2, va_up_ne _ _ h1]
/-- the stack never holds more than there are elements -/
theorem cq_cap {pp : Nat → Nat} {t : Nat} : ∀ {m : Nat}, t ≤ m → cq pp t m ≤ m - t
  | 0, h => by rw [cq]; omega
  | m + 1, h => by
    rcases Nat.lt_or_eq_of_le h with z | z
    · have := cq_cap (pp := pp) (t := t) (m := m) (by omega)
      rw [cq]; split <;> omega
    · rw [cq_lo (by omega)]; omega
/-- the reference counts as many children as the rows have -/
theorem wv_cnt {A : Nat → Nat → Int32} {n : Nat} {L : Nat → Int32} {pp : Nat → Nat} (h : Wv A n L pp) {b : Int32} {c : Nat} (hc : ∀ m, m < n → (parL L pp m = b ↔ pp m = c)) : cntB (fun k => decide (A 1 k = b)) n = ch pp c n := by
  obtain ⟨w1, w2, w3, w4, w5, w6⟩ := h
  -- two ways of counting one set: by rows, by places
  have key : ∀ (k : Nat), k ≤ n → ∃ q : Nat → Bool, cntB (fun j => decide (A 1 j = b)) k = cntB q n ∧ ∀ m, m < n → (q m = true ↔ pp m = c ∧ ∃ j, j < k ∧ A 0 j = L m) := by
    intro k
    induction k with
    | zero =>
      intro _
      refine ⟨fun _ => false, ?_, fun m _ => ?_⟩
      · have : ∀ i, cntB (fun _ => false) i = 0 := fun i => by induction i with | zero => rfl | succ i ih => rw [cntB, ih]; rfl
        rw [this]; rfl
      · simp
    | succ k ih =>
      intro hk
      obtain ⟨q, e1, e2⟩ := ih (by omega)
      obtain ⟨m0, f1, f2, f3⟩ := w1 k (by omega)
      by_cases z : A 1 k = b
      · have hp0 : pp m0 = c := (hc m0 f1).mp (by rw [f3, z])
        have hq0 : q m0 = false := by
          cases e : q m0 with
          | false => rfl
          | true =>
            obtain ⟨_, j, g1, g2⟩ := (e2 m0 f1).mp e
            have := w4 j k (by omega) (by omega) (by rw [g2, f2])
            omega
        refine ⟨fun m => if m = m0 then true else q m, ?_, fun m hm => ?_⟩
        · rw [cntB, if_pos (decide_eq_true z), e1]
          have hh : ∀ i, cntB (fun m => if m = m0 then true else q m) i = cntB q i + (if m0 < i then 1 else 0) := by
            intro i
            induction i with
            | zero => rfl
            | succ i ih2 =>
              rw [cntB, cntB, ih2]
              by_cases y : i = m0
              · subst y
                simp [hq0]
              · rw [if_neg y]
                by_cases y2 : m0 < i
                · rw [if_pos y2, if_pos (show m0 < i + 1 by omega)]; omega
                · rw [if_neg y2, if_neg (show ¬ m0 < i + 1 by omega)]; omega
          rw [hh, if_pos f1]
        · by_cases y : m = m0
          · subst y
            simp only [if_true, true_iff]
            exact ⟨hp0, k, by omega, f2.symm⟩
          · show (if m = m0 then true else q m) = true ↔ _
            rw [if_neg y, e2 m hm]
            constructor
            · rintro ⟨g1, j, g2, g3⟩; exact ⟨g1, j, by omega, g3⟩
            · rintro ⟨g1, j, g2, g3⟩
              rcases Nat.lt_or_eq_of_le (Nat.lt_succ_iff.mp g2) with x | x
              · exact ⟨g1, j, x, g3⟩
              · subst x; exact absurd (w3 m m0 hm f1 (by rw [← g3, f2])) y
      · refine ⟨q, ?_, fun m hm => ?_⟩
        · rw [cntB, if_neg (by simp [z]), e1]; rfl
        · rw [e2 m hm]
          constructor
          · rintro ⟨g1, j, g2, g3⟩; exact ⟨g1, j, by omega, g3⟩
          · rintro ⟨g1, j, g2, g3⟩
            rcases Nat.lt_or_eq_of_le (Nat.lt_succ_iff.mp g2) with x | x
            · exact ⟨g1, j, x, g3⟩
            · subst x
              have : m = m0 := w3 m m0 hm f1 (by rw [← g3, f2])
              subst this
              exact absurd (by rw [← f3]; exact (hc m hm).mpr g1) z
  obtain ⟨q, e1, e2⟩ := key n (Nat.le_refl n)
  rw [e1]
  have hh : ∀ i, i ≤ n → cntB q i = ch pp c i := by
    intro i
    induction i with
    | zero => intro _; rfl
    | succ i ih =>
      intro hi
      rw [cntB, ch, ih (by omega)]
      by_cases y : pp i = c
      · obtain ⟨k, g1, g2, _⟩ := w2 i (by omega)
        rw [if_pos y, if_pos ((e2 i (by omega)).mpr ⟨y, k, g1, g2⟩)]
      · rw [if_neg y, if_neg (fun z => y ((e2 i (by omega)).mp z).1)]
  exact hh n (Nat.le_refl n)
theorem wv_cap {A : Nat → Nat → Int32} {n : Nat} {L : Nat → Int32} {pp : Nat → Nat} (h : Wv A n L pp) {t z : Nat} {T : Nat → Int32} (hS : Stk L pp n t z T) (ht : t < n) (hn : n ≤ 512 := by omega) : z - 1 + cntB (fun k => decide (A 1 k = L t)) n ≤ 512 := by
  rw [wv_cnt h (h.ct ht)]
  have h1 := cq_step (pp := pp) (fun m hm => (h.2.2.2.2.2 m hm).1) ht (m := n) (by omega) (Nat.le_refl n)
  have h2 := cq_cap (pp := pp) (t := t + 1) (m := n) (by omega)
  have h3 := hS.1
  omega
set_option maxHeartbeats 4000000 in
set_option maxRecDepth 100000 in
theorem c_X3_push (l : Launch) {D : va_G} {y : Nat} {a : Nat → Nat} {cI : ClassId} {n d : Nat} {th : Int32} {A : Nat → Nat → Int32} {sz : Nat} (v1 : Int32) (Z : Nat) (hcap : Z + cntB (fun k => decide (A 1 k = v1)) n ≤ 512) (hinj : ∀ a b, a < n → b < n → A 0 a = A 0 b → a = b) : Met l yX3_push (gws yX3_push cX3_push 7 (some .int)) { frames := 0, cells := 0, slots := 0, locals := 0 } (va_Pc [.ref y, .int v1, .int (nI Z)] (fun U => MPre D y a cI n d th A sz U U.heap)) (va_Qi (fun r (u : MS) => ∃ T, r = nI (Z + cntB (fun k => decide (A 1 k = v1)) n) ∧ u = (n, d, th, va_up A 9 T) ∧ (∀ i, i < Z → T i = A 9 i) ∧ Seg T (A 0) (A 1) v1 Z (Z + cntB (fun k => decide (A 1 k = v1)) n) n) (MB D y a cI (va_A (wM y a cI n d th A) sz)) (va_A (wM y a cI n d th A) sz)) 0 0 (va_A (wM y a cI n d th A) sz) := by
  refine met_mm (QQ := fun AA => va_Qi (fun r (u : MS) => ∃ T, r = nI (Z + cntB (fun k => decide (A 1 k = v1)) n) ∧ u = (n, d, th, va_up A 9 T) ∧ (∀ i, i < Z → T i = A 9 i) ∧ Seg T (A 0) (A 1) v1 Z (Z + cntB (fun k => decide (A 1 k = v1)) n) n) (MB D y a cI AA) AA) (by decide) (Nat.le_of_ble_eq_true rfl) ?_
  intro p e s m below meth c ls AA S hr hlocks hM hl
  obtain ⟨hx, hb, hml, hown, hg⟩ := id S
  have hl : lv_has ls 7 [(0, .ref y), (1, .int v1), (2, .int (nI Z))] := hl
  have hn := hM.bd
  suffices key9 : ∀ (H : Heap) (locs : List Loc), MM D y a cI n d th A AA s.heap s H locs → W p l e { frames := 0, cells := 0, slots := 0, locals := 0 } s m [.ref y, .int v1, .int (nI Z)].toArray below meth c H locs 0 0 (MQ below ((fun AA : Nat → Prop => va_Qi (fun r (u : MS) => ∃ T, r = nI (Z + cntB (fun k => decide (A 1 k = v1)) n) ∧ u = (n, d, th, va_up A 9 T) ∧ (∀ i, i < Z → T i = A 9 i) ∧ Seg T (A 0) (A 1) v1 Z (Z + cntB (fun k => decide (A 1 k = v1)) n) n) (MB D y a cI AA) AA) AA) [.ref y, .int v1, .int (nI Z)].toArray s 0 0 AA) (F0 m 0 ls []) from key9 _ _ hM
  clear hM
  intro H locs hM
  refine lv_iload_n hx hb dX3_push_0 rfl (lv_at hl 2 rfl) ?_
  refine lv_istore_n (lv' := [(3, .int (nI Z)), (0, .ref y), (1, .int v1), (2, .int (nI Z))]) hx hb dX3_push_1 rfl hl (by decide) rfl (fun ls hl => ?_)
  refine lv_iload_n hx hb dX3_push_2 rfl (lv_at hl 3 rfl) ?_
  refine lv_istore (lv' := [(4, .int (nI Z)), (3, .int (nI Z)), (0, .ref y), (1, .int v1), (2, .int (nI Z))]) hx hb dX3_push_3 hl (by decide) rfl (fun ls hl => ?_)
  refine lv_iconst (v := nI 0) hx hb dX3_push_5 (by decide) ?_
  refine lv_istore (lv' := [(5, .int (nI 0)), (4, .int (nI Z)), (3, .int (nI Z)), (0, .ref y), (1, .int v1), (2, .int (nI Z))]) hx hb dX3_push_6 hl (by decide) rfl (fun ls hl => ?_)
  suffices hloop : ∀ (fuel : Nat) (k q : Nat) (T : Nat → Int32), k ≤ n → n - k < fuel → q = Z + cntB (fun k => decide (A 1 k = v1)) k → (∀ i, i < Z → T i = A 9 i) → Seg T (A 0) (A 1) v1 Z q k → ∀ (H : Heap) (locs : List Loc), MM D y a cI n d th (va_up A 9 T) AA s.heap s H locs → ∀ ls : Array Slot, lv_has ls 7 [(5, .int (nI k)), (4, .int (nI q)), (0, .ref y), (1, .int v1), (2, .int (nI Z)), (3, .int (nI Z))] → W p l e { frames := 0, cells := 0, slots := 0, locals := 0 } s m [.ref y, .int v1, .int (nI Z)].toArray below meth c H locs 0 0 (MQ below ((fun AA : Nat → Prop => va_Qi (fun r (u : MS) => ∃ T, r = nI (Z + cntB (fun k => decide (A 1 k = v1)) n) ∧ u = (n, d, th, va_up A 9 T) ∧ (∀ i, i < Z → T i = A 9 i) ∧ Seg T (A 0) (A 1) v1 Z (Z + cntB (fun k => decide (A 1 k = v1)) n) n) (MB D y a cI AA) AA) AA) [.ref y, .int v1, .int (nI Z)].toArray s 0 0 AA) (F0 m 8 ls []) from hloop (n + 1) 0 Z (A 9) (by omega) (by omega) rfl (fun _ _ => rfl) Seg_0 _ _ (by rw [va_up_id]; exact hM) ls (lv_sub hl [0, 1, 3, 4, 5, 2] rfl)
  intro fuel
  induction fuel with
  | zero => intro k q T hk hf hq hT hSg; omega
  | succ fuel ih =>
    intro k q T hk hf hq hT hSg H locs hM ls hl
    refine lv_iload hx hb dX3_push_8 (lv_at hl 0 rfl) ?_
    refine lv_aload_n hx hb dX3_push_10 rfl (lv_at hl 2 rfl) ?_
    refine rM_many S hM.rd dX3_push_11 ?_
    refine lv_icmp_ge (tgt := 102) hx hb dX3_push_14 (by decide) (fun c_14 => ?_) (fun c_14 => ?_)
    · rw [nI_leI (by omega) (by omega)] at c_14
      refine lv_iload hx hb dX3_push_102 (lv_at hl 1 rfl) ?_
      exact W.iret (v := (nI q)) hx hb hr (fun t9 ht9 hW9 => ⟨⟨_, (n, d, th, (va_up A 9 T)), rfl, ⟨T, by rw [hq, show k = n by omega], rfl, hT, by rw [← show k = n by omega, ← hq]; exact hSg⟩, (hM.out ht9 hW9).1⟩, (hM.out ht9 hW9).2⟩) hM.S.2.2 dX3_push_104
    · rw [nI_leI (by omega) (by omega)] at c_14
      refine lv_aload_n hx hb dX3_push_17 rfl (lv_at hl 2 rfl) ?_
      refine rM_behinds S hM.rd dX3_push_18 ?_
      refine lv_iload hx hb dX3_push_21 (lv_at hl 0 rfl) ?_
      refine rM_ald S hM.rd 1 (by decide) (by show _ < 512; omega) dX3_push_23 ?_
      refine lv_iload_n hx hb dX3_push_24 rfl (lv_at hl 3 rfl) ?_
      refine lv_icmp_ne (tgt := 96) hx hb dX3_push_25 (by decide) (fun c_25 => ?_) (fun c_25 => ?_)
      · refine lv_iinc (v := nI (k + 1)) (lv' := [(5, .int (nI (k + 1))), (4, .int (nI q)), (0, .ref y), (1, .int v1), (2, .int (nI Z)), (3, .int (nI Z))]) hx hb dX3_push_96 hl (k := 0) rfl (nI_1 _) (by decide) rfl (fun ls hl => ?_)
        refine lv_goto (tgt := 8) hx hb dX3_push_99 (by decide) ?_
        exact ih (k + 1) q T (by omega) (by omega) (by rw [← cntB_n (p := (fun k => decide (A 1 k = v1))) (k := k) rfl (decide_eq_false c_25)]; exact hq) hT (Seg_n hSg c_25) _ _ hM ls (lv_sub hl [0, 1, 2, 3, 4, 5] rfl)
      · have hq5 := cntB_lt (p := (fun k => decide (A 1 k = v1))) (show k < n by omega) (decide_eq_true c_25)
        refine lv_iload hx hb dX3_push_28 (lv_at hl 1 rfl) ?_
        refine lv_istore (lv' := [(6, .int (nI q)), (5, .int (nI k)), (4, .int (nI q)), (0, .ref y), (1, .int v1), (2, .int (nI Z)), (3, .int (nI Z))]) hx hb dX3_push_30 hl (by decide) rfl (fun ls hl => ?_)
        suffices hloop2 : ∀ (fuel2 : Nat) (i : Nat) (T' : Nat → Int32), Z ≤ i → i ≤ q → i < fuel2 → Inn T T' i q (A 0 k) → ∀ (H : Heap) (locs : List Loc), MM D y a cI n d th (va_up A 9 T') AA s.heap s H locs → ∀ ls : Array Slot, lv_has ls 7 [(6, .int (nI i)), (5, .int (nI k)), (4, .int (nI q)), (0, .ref y), (1, .int v1), (2, .int (nI Z)), (3, .int (nI Z))] → W p l e { frames := 0, cells := 0, slots := 0, locals := 0 } s m [.ref y, .int v1, .int (nI Z)].toArray below meth c H locs 0 0 (MQ below ((fun AA : Nat → Prop => va_Qi (fun r (u : MS) => ∃ T, r = nI (Z + cntB (fun k => decide (A 1 k = v1)) n) ∧ u = (n, d, th, va_up A 9 T) ∧ (∀ i, i < Z → T i = A 9 i) ∧ Seg T (A 0) (A 1) v1 Z (Z + cntB (fun k => decide (A 1 k = v1)) n) n) (MB D y a cI AA) AA) AA) [.ref y, .int v1, .int (nI Z)].toArray s 0 0 AA) (F0 m 32 ls []) from hloop2 (q + 1) q T (by omega) (by omega) (by omega) Inn_0 _ _ hM ls (lv_sub hl [0, 1, 2, 3, 4, 5, 6] rfl)
        intro fuel2
        induction fuel2 with
        | zero => intro i T' hi1 hi2 hf2 hIn; omega
        | succ fuel2 ih2 =>
          intro i T' hi1 hi2 hf2 hIn H locs hM ls hl
          refine lv_iload hx hb dX3_push_32 (lv_at hl 0 rfl) ?_
          refine lv_iload_n hx hb dX3_push_34 rfl (lv_at hl 6 rfl) ?_
          refine lv_icmp_le (tgt := 79) hx hb dX3_push_35 (by decide) (fun c_35 => ?_) (fun c_35 => ?_)
          · rw [nI_leI (by omega) (by omega)] at c_35
            refine lv_aload_n hx hb dX3_push_79 rfl (lv_at hl 3 rfl) ?_
            refine rM_stack S hM.rd dX3_push_80 ?_
            refine lv_iload hx hb dX3_push_83 (lv_at hl 0 rfl) ?_
            refine lv_aload_n hx hb dX3_push_85 rfl (lv_at hl 3 rfl) ?_
            refine rM_ids S hM.rd dX3_push_86 ?_
            refine lv_iload hx hb dX3_push_89 (lv_at hl 1 rfl) ?_
            refine rM_ald S hM.rd 0 (by decide) (by show _ < 512; omega) dX3_push_91 ?_
            refine mw_ast9 (k := i) S hM (by omega) dX3_push_92 (fun H locs A_92 hA_92 hM => ?_)
            have hE9 : A_92 = va_up A 9 (upd T' i (A 0 k)) := by rw [hA_92, bx_uu, va_up_self] <;> rfl
            subst hE9
            refine lv_iinc (v := nI (q + 1)) (lv' := [(4, .int (nI (q + 1))), (6, .int (nI i)), (5, .int (nI k)), (0, .ref y), (1, .int v1), (2, .int (nI Z)), (3, .int (nI Z))]) hx hb dX3_push_93 hl (k := 2) rfl (nI_1 _) (by decide) rfl (fun ls hl => ?_)
            refine lv_iinc (v := nI (k + 1)) (lv' := [(5, .int (nI (k + 1))), (4, .int (nI (q + 1))), (6, .int (nI i)), (0, .ref y), (1, .int v1), (2, .int (nI Z)), (3, .int (nI Z))]) hx hb dX3_push_96 hl (k := 2) rfl (nI_1 _) (by decide) rfl (fun ls hl => ?_)
            refine lv_goto (tgt := 8) hx hb dX3_push_99 (by decide) ?_
            exact ih (k + 1) (q + 1) _ (by omega) (by omega) (by rw [← cntB_s (p := (fun k => decide (A 1 k = v1))) (k := k) rfl (decide_eq_true c_25)]; omega) (fun i9 h9 => by rw [pk_un (by omega), hIn.1 i9 (by omega)]; exact hT i9 h9) (Seg_s hSg hIn c_25 (by omega) (by omega) (Or.inl (by omega)) (fun j hj e => absurd (hinj j k (by omega) (by omega) e) (by omega))) _ _ hM ls (lv_sub hl [0, 1, 3, 4, 5, 6] rfl)
          · rw [nI_leI (by omega) (by omega)] at c_35
            refine lv_aload_n hx hb dX3_push_38 rfl (lv_at hl 3 rfl) ?_
            refine rM_stack S hM.rd dX3_push_39 ?_
            refine lv_iload hx hb dX3_push_42 (lv_at hl 0 rfl) ?_
            refine lv_iconst (v := nI 1) hx hb dX3_push_44 (by decide) ?_
            refine lv_isub hx hb dX3_push_45 ?_
            rw [pk_sub (by omega)]
            refine rM_ald S hM.rd 9 (by decide) (by show _ < 512; omega) dX3_push_46 ?_
            refine lv_aload_n hx hb dX3_push_47 rfl (lv_at hl 3 rfl) ?_
            refine rM_ids S hM.rd dX3_push_48 ?_
            refine lv_iload hx hb dX3_push_51 (lv_at hl 1 rfl) ?_
            refine rM_ald S hM.rd 0 (by decide) (by show _ < 512; omega) dX3_push_53 ?_
            refine lv_icmp_le (tgt := 79) hx hb dX3_push_54 (by decide) (fun c_54 => ?_) (fun c_54 => ?_)
            · refine lv_aload_n hx hb dX3_push_79 rfl (lv_at hl 3 rfl) ?_
              refine rM_stack S hM.rd dX3_push_80 ?_
              refine lv_iload hx hb dX3_push_83 (lv_at hl 0 rfl) ?_
              refine lv_aload_n hx hb dX3_push_85 rfl (lv_at hl 3 rfl) ?_
              refine rM_ids S hM.rd dX3_push_86 ?_
              refine lv_iload hx hb dX3_push_89 (lv_at hl 1 rfl) ?_
              refine rM_ald S hM.rd 0 (by decide) (by show _ < 512; omega) dX3_push_91 ?_
              refine mw_ast9 (k := i) S hM (by omega) dX3_push_92 (fun H locs A_92 hA_92 hM => ?_)
              have hE9 : A_92 = va_up A 9 (upd T' i (A 0 k)) := by rw [hA_92, bx_uu, va_up_self] <;> rfl
              subst hE9
              refine lv_iinc (v := nI (q + 1)) (lv' := [(4, .int (nI (q + 1))), (6, .int (nI i)), (5, .int (nI k)), (0, .ref y), (1, .int v1), (2, .int (nI Z)), (3, .int (nI Z))]) hx hb dX3_push_93 hl (k := 2) rfl (nI_1 _) (by decide) rfl (fun ls hl => ?_)
              refine lv_iinc (v := nI (k + 1)) (lv' := [(5, .int (nI (k + 1))), (4, .int (nI (q + 1))), (6, .int (nI i)), (0, .ref y), (1, .int v1), (2, .int (nI Z)), (3, .int (nI Z))]) hx hb dX3_push_96 hl (k := 2) rfl (nI_1 _) (by decide) rfl (fun ls hl => ?_)
              refine lv_goto (tgt := 8) hx hb dX3_push_99 (by decide) ?_
              exact ih (k + 1) (q + 1) _ (by omega) (by omega) (by rw [← cntB_s (p := (fun k => decide (A 1 k = v1))) (k := k) rfl (decide_eq_true c_25)]; omega) (fun i9 h9 => by rw [pk_un (by omega), hIn.1 i9 (by omega)]; exact hT i9 h9) (Seg_s hSg hIn c_25 (by omega) (by omega) (Or.inr (i32_nlt.mpr c_54)) (fun j hj e => absurd (hinj j k (by omega) (by omega) e) (by omega))) _ _ hM ls (lv_sub hl [0, 1, 3, 4, 5, 6] rfl)
            · refine lv_aload_n hx hb dX3_push_57 rfl (lv_at hl 3 rfl) ?_
              refine rM_stack S hM.rd dX3_push_58 ?_
              refine lv_iload hx hb dX3_push_61 (lv_at hl 0 rfl) ?_
              refine lv_aload_n hx hb dX3_push_63 rfl (lv_at hl 3 rfl) ?_
              refine rM_stack S hM.rd dX3_push_64 ?_
              refine lv_iload hx hb dX3_push_67 (lv_at hl 0 rfl) ?_
              refine lv_iconst (v := nI 1) hx hb dX3_push_69 (by decide) ?_
              refine lv_isub hx hb dX3_push_70 ?_
              rw [pk_sub (by omega)]
              refine rM_ald S hM.rd 9 (by decide) (by show _ < 512; omega) dX3_push_71 ?_
              refine mw_ast9 (k := i) S hM (by omega) dX3_push_72 (fun H locs A_72 hA_72 hM => ?_)
              have hE9 : A_72 = va_up A 9 (upd T' i (T' (i - 1))) := by rw [hA_72, bx_uu, va_up_self] <;> rfl
              subst hE9
              refine lv_iinc (v := nI (i - 1)) (lv' := [(6, .int (nI (i - 1))), (5, .int (nI k)), (4, .int (nI q)), (0, .ref y), (1, .int v1), (2, .int (nI Z)), (3, .int (nI Z))]) hx hb dX3_push_73 hl (k := 0) rfl (sb_m1 (by omega)) (by decide) rfl (fun ls hl => ?_)
              refine lv_goto (tgt := 32) hx hb dX3_push_76 (by decide) ?_
              exact ih2 (i - 1) _ (by omega) (by omega) (by omega) (Inn_s hIn (by omega) (i32_nle.mp c_54) hi2) _ _ hM ls (lv_sub hl [0, 1, 2, 3, 4, 5, 6] rfl)
set_option maxHeartbeats 4000000 in
set_option maxRecDepth 100000 in
theorem c_X3_weave (l : Launch) {D : va_G} {y : Nat} {a : Nat → Nat} {cI : ClassId} {n d : Nat} {th : Int32} {A : Nat → Nat → Int32} {sz : Nat}  {L : Nat → Int32} {pp : Nat → Nat} (hWv : Wv A n L pp) : Met l yX3_weave (gws yX3_weave cX3_weave 4 none) { frames := 1, cells := 0, slots := 0, locals := 26 } (va_Pc [.ref y] (fun U => MPre D y a cI n d th A sz U U.heap)) (va_Qv (fun (u : MS) => ∃ T O, u = (n, d, th, va_up (va_up A 9 T) 8 O) ∧ ∀ i, i < n → O i = L i) (MB D y a cI (va_A (wM y a cI n d th A) sz)) (va_A (wM y a cI n d th A) sz)) 0 0 (va_A (wM y a cI n d th A) sz) := by
  refine met_mm (QQ := fun AA => va_Qv (fun (u : MS) => ∃ T O, u = (n, d, th, va_up (va_up A 9 T) 8 O) ∧ ∀ i, i < n → O i = L i) (MB D y a cI AA) AA) (by decide) (Nat.le_of_ble_eq_true rfl) ?_
  intro p e s m below meth c ls AA S hr hlocks hM hl
  obtain ⟨hx, hb, hml, hown, hg⟩ := id S
  have hl : lv_has ls 4 [(0, .ref y)] := hl
  have hn := hM.bd
  suffices key9 : ∀ (H : Heap) (locs : List Loc), MM D y a cI n d th A AA s.heap s H locs → W p l e { frames := 1, cells := 0, slots := 0, locals := 26 } s m [.ref y].toArray below meth c H locs 0 0 (MQ below ((fun AA : Nat → Prop => va_Qv (fun (u : MS) => ∃ T O, u = (n, d, th, va_up (va_up A 9 T) 8 O) ∧ ∀ i, i < n → O i = L i) (MB D y a cI AA) AA) AA) [.ref y].toArray s 0 0 AA) (F0 m 0 ls []) from key9 _ _ hM
  clear hM
  intro H locs hM
  refine lv_aload_n hx hb dX3_weave_0 rfl (lv_at hl 0 rfl) ?_
  refine lv_iconst (v := 0) hx hb dX3_weave_1 (by decide) ?_
  refine lv_iconst (v := nI 0) hx hb dX3_weave_2 (by decide) ?_
  refine va_calli (runV (As := [.int 0, .int (nI 0)]) (rest := []) (Bh := MPre D y a cI n d th A H.size) S (c_X3_push l 0 0 (by have := cntB_le (fun k => decide (A 1 k = 0)) n; omega) hWv.2.2.2.1) (gw_V wk_462 wk_464 wp_29 wk_4 wk_465) rfl rfl 2 rfl (by decide +kernel) (by decide) ⟨Nat.le_refl _, Nat.le_refl _⟩ (fun _ _ _ h q => MPre.mv h q) hM.recv hM.pre hl.1 (Nat.le_of_ble_eq_true rfl) dX3_weave_3) hM.S (fun q _ h => hM.free q h) hM.free (fun r_3 u8 t8 H1 locs1 ht8 hvm8 hp hB8 hz8 hk8 hS8 => ?_)
  obtain ⟨n_3, d_3, th_3, A_3⟩ := u8
  have hM := hM.back ht8 hB8 hS8
  generalize H1 = H at hM ⊢
  generalize locs1 = locs at hM ⊢
  dsimp only at hp hM
  obtain ⟨T_3, rfl, hu, hT_3, hS_3⟩ := hp
  obtain ⟨rfl, rfl, rfl, rfl⟩ : n = n_3 ∧ d = d_3 ∧ th = th_3 ∧ va_up A 9 T_3 = A_3 := by have z := hu; simp only [Prod.mk.injEq] at z; exact ⟨z.1.symm, z.2.1.symm, z.2.2.1.symm, z.2.2.2.symm⟩
  have hSt : Stk L pp n 0 (0 + cntB (fun k => decide (A 1 k = 0)) n) T_3 := by rw [Nat.zero_add]; exact Stk.first hWv.2.2.2.2.2 (hWv.rk hWv.c0 hS_3)
  refine lv_istore_n (lv' := [(1, .int (nI (0 + cntB (fun k => decide (A 1 k = 0)) n))), (0, .ref y)]) hx hb dX3_weave_6 rfl hl (by decide) rfl (fun ls hl => ?_)
  refine lv_iconst (v := nI 0) hx hb dX3_weave_7 (by decide) ?_
  refine lv_istore_n (lv' := [(2, .int (nI 0)), (1, .int (nI (0 + cntB (fun k => decide (A 1 k = 0)) n))), (0, .ref y)]) hx hb dX3_weave_8 rfl hl (by decide) rfl (fun ls hl => ?_)
  suffices hloop : ∀ (fuel : Nat) (t z : Nat) (T O : Nat → Int32), t ≤ n → n - t < fuel → z ≤ 512 → Stk L pp n t z T → (∀ i, i < t → O i = L i) → ∀ (H : Heap) (locs : List Loc), MM D y a cI n d th (va_up (va_up A 9 T) 8 O) AA s.heap s H locs → ∀ ls : Array Slot, lv_has ls 4 [(1, .int (nI z)), (2, .int (nI t)), (0, .ref y)] → W p l e { frames := 1, cells := 0, slots := 0, locals := 26 } s m [.ref y].toArray below meth c H locs 0 0 (MQ below ((fun AA : Nat → Prop => va_Qv (fun (u : MS) => ∃ T O, u = (n, d, th, va_up (va_up A 9 T) 8 O) ∧ ∀ i, i < n → O i = L i) (MB D y a cI AA) AA) AA) [.ref y].toArray s 0 0 AA) (F0 m 9 ls []) from hloop (n + 1) 0 _ T_3 (A 8) (by omega) (by omega) (by have := cntB_le (fun k => decide (A 1 k = 0)) n; omega) hSt (fun _ h => absurd h (Nat.not_lt_zero _)) _ _ (by rw [show va_up (va_up A 9 T_3) 8 (A 8) = va_up A 9 T_3 from by rw [← va_up_ne A (k := 9) (j := 8) T_3 (by decide)]; exact va_up_id _ 8]; exact hM) ls (lv_sub hl [1, 0, 2] rfl)
  intro fuel
  induction fuel with
  | zero => intro t z T O ht hf hz5 hSt hO; omega
  | succ fuel ih =>
    intro t z T O ht hf hz5 hSt hO H locs hM ls hl
    refine lv_iload_n hx hb dX3_weave_9 rfl (lv_at hl 0 rfl) ?_
    refine lv_if_le (tgt := 43) hx hb dX3_weave_10 (by decide) (fun c_10 => ?_) (fun c_10 => ?_)
    · have htn9 : n ≤ t := by
        rcases Nat.lt_or_ge t n with y9 | y9
        · exact absurd c_10 (nI_nle (hSt.top hWv.2.2.2.2.2 y9).1 (by omega))
        · exact y9
      exact W.vret hx hb hr (fun t9 ht9 hW9 => ⟨⟨(n, d, th, (va_up (va_up A 9 T) 8 O)), rfl, ⟨T, O, rfl, fun i9 h9 => hO i9 (by omega)⟩, (hM.out ht9 hW9).1⟩, (hM.out ht9 hW9).2⟩) hM.S.2.2 dX3_weave_43
    · have htn : t < n := by
        rcases Nat.lt_or_ge t n with y9 | y9
        · exact y9
        · exact absurd (show nI z ≤ 0 from by rw [hSt.1, cq_lo y9]; exact Int32.le_refl _) c_10
      obtain ⟨hz0, htop⟩ := hSt.top hWv.2.2.2.2.2 htn
      refine lv_iinc (v := nI (z - 1)) (lv' := [(1, .int (nI (z - 1))), (2, .int (nI t)), (0, .ref y)]) hx hb dX3_weave_13 hl (k := 0) rfl (sb_m1 hz0) (by decide) rfl (fun ls hl => ?_)
      refine lv_aload_n hx hb dX3_weave_16 rfl (lv_at hl 2 rfl) ?_
      refine rM_stack S hM.rd dX3_weave_17 ?_
      refine lv_iload_n hx hb dX3_weave_20 rfl (lv_at hl 0 rfl) ?_
      refine rM_ald S hM.rd 9 (by decide) (by show _ < 512; omega) dX3_weave_21 ?_
      rw [show (va_up (va_up A 9 T) 8 O) 9 (z - 1) = L t from htop]
      refine lv_istore_n (lv' := [(3, .int (L t)), (1, .int (nI (z - 1))), (2, .int (nI t)), (0, .ref y)]) hx hb dX3_weave_22 rfl hl (by decide) rfl (fun ls hl => ?_)
      refine lv_aload_n hx hb dX3_weave_23 rfl (lv_at hl 3 rfl) ?_
      refine rM_order S hM.rd dX3_weave_24 ?_
      refine lv_iload_n hx hb dX3_weave_27 rfl (lv_at hl 2 rfl) ?_
      refine lv_iload_n hx hb dX3_weave_28 rfl (lv_at hl 0 rfl) ?_
      refine mw_ast8 (k := t) S hM (by omega) dX3_weave_29 (fun H locs A_29 hA_29 hM => ?_)
      have hE9 : A_29 = va_up (va_up A 9 T) 8 (upd O t (L t)) := by rw [hA_29, bx_uu, va_up_self] <;> rfl
      subst hE9
      refine lv_iinc (v := nI (t + 1)) (lv' := [(2, .int (nI (t + 1))), (3, .int (L t)), (1, .int (nI (z - 1))), (0, .ref y)]) hx hb dX3_weave_30 hl (k := 2) rfl (nI_1 _) (by decide) rfl (fun ls hl => ?_)
      refine lv_aload_n hx hb dX3_weave_33 rfl (lv_at hl 3 rfl) ?_
      refine lv_iload_n hx hb dX3_weave_34 rfl (lv_at hl 1 rfl) ?_
      refine lv_iload_n hx hb dX3_weave_35 rfl (lv_at hl 2 rfl) ?_
      have hcap9 : z - 1 + cntB (fun k => decide (A 1 k = L t)) n ≤ 512 := wv_cap hWv hSt htn
      refine va_calli (runV (As := [.int (L t), .int (nI (z - 1))]) (rest := []) (Bh := MPre D y a cI n d th (va_up (va_up A 9 T) 8 (upd O t (L t))) H.size) S (c_X3_push l (L t) (z - 1) hcap9 hWv.2.2.2.1) (gw_V wk_462 wk_464 wp_29 wk_4 wk_465) rfl rfl 2 rfl (by decide +kernel) (by decide) ⟨Nat.le_refl _, Nat.le_refl _⟩ (fun _ _ _ h q => MPre.mv h q) hM.recv hM.pre hl.1 (Nat.le_of_ble_eq_true rfl) dX3_weave_36) hM.S (fun q _ h => hM.free q h) hM.free (fun r_36 u8 t8 H1 locs1 ht8 hvm8 hp hB8 hz8 hk8 hS8 => ?_)
      obtain ⟨n_36, d_36, th_36, A_36⟩ := u8
      have hM := hM.back ht8 hB8 hS8
      generalize H1 = H at hM ⊢
      generalize locs1 = locs at hM ⊢
      dsimp only at hp hM
      obtain ⟨T_36, rfl, hu, hT_36, hS_36⟩ := hp
      obtain ⟨rfl, rfl, rfl, rfl⟩ : n = n_36 ∧ d = d_36 ∧ th = th_36 ∧ va_up (va_up (va_up A 9 T) 8 (upd O t (L t))) 9 T_36 = A_36 := by have z := hu; simp only [Prod.mk.injEq] at z; exact ⟨z.1.symm, z.2.1.symm, z.2.2.1.symm, z.2.2.2.symm⟩
      rw [va_up_comm _ (by decide), bx_uu] at hM
      refine lv_istore_n (lv' := [(1, .int (nI (z - 1 + cntB (fun k => decide (A 1 k = L t)) n))), (2, .int (nI (t + 1))), (3, .int (L t)), (0, .ref y)]) hx hb dX3_weave_39 rfl hl (by decide) rfl (fun ls hl => ?_)
      refine lv_goto (tgt := 9) hx hb dX3_weave_40 (by decide) ?_
      have hO9 : ∀ i9, i9 < t + 1 → upd O t (L t) i9 = L i9 := fun i9 h9 => by
        by_cases e9 : i9 = t
        · rw [e9, pk_us]
        · rw [pk_un e9]; exact hO i9 (by omega)
      exact ih (t + 1) (z - 1 + cntB (fun k => decide (A 1 k = L t)) n) T_36 _ (by omega) (by omega) hcap9 (hSt.step hWv.2.2.2.2.2 htn hT_36 (hWv.rk (hWv.ct htn) hS_36)) hO9 _ _ hM ls (lv_sub hl [0, 1, 3] rfl)
