/-- the state between the calls: the worlds, and the tie -/
def LI (D : va_G) (y : Nat) (a : Nat → Nat) (cM : ClassId) (o : Nat) (cO : ClassId) (x u i g w : Nat) (cI cW : ClassId) (s : State) (H : Heap) (locs : List Loc) : Prop := ∃ (m : MS) (fO : Nat → Int64) (z : CS), LH D y a cM o cO x u i g w cI cW m fO z s H locs ∧ TIE g z m
theorem law_sum {g : Nat} {LP : List Nat} {f : Nat → Nat → Int32} {wv : Nat → Option Nat} {n d cnt : Nat} {ids : Nat → Int32} {A : Nat → Nat → Int32} {r r' : Int64} {u : MS} {v1 v2 : Int32} (hT : TA (fun k => f (adv wv k)) (f g) n d cnt ids A) (h1 : r = smt (fun k => f (adv wv k) 5) (fun k => f (adv wv k) 7) (fun k => f (adv wv k) 8) v1 v2 n) (h2 : r' = smt (fun k => f (adv wv k) 5) (fun k => f (adv wv k) 7) (fun k => f (adv wv k) 8) v1 v2 n ∧ u.1 = n ∧ u.2.1 = d ∧ u.2.2.1 = 0 ∧ Scr A u.2.2.2) : r = r' ∧ TIE g (LP, f, wv, n, d, cnt, ids) u := by
  obtain ⟨h2, e1, e2, e3, hS⟩ := h2
  obtain ⟨u1, u2, u3, u4⟩ := u
  dsimp only at e1 e2 e3 hS
  subst e1 e2
  exact ⟨h1.trans h2.symm, hT.scr hS, rfl, rfl⟩
theorem law_before2 {f : Nat → Nat → Int32} {wv : Nat → Option Nat} {n d : Nat} {A : Nat → Nat → Int32} {v1 v2 r' : Int32} {u : MS} (h2 : ((∃ a b, a < n ∧ b < n ∧ f (adv wv a) 0 = v1 ∧ f (adv wv b) 0 = v2 ∧ ((a < b ∧ r' = 1) ∨ (¬ a < b ∧ r' = 0)) ∧ u.2.2.1 = 0) ∨ (((∀ k, k < n → ¬ f (adv wv k) 0 = v1) ∨ (∀ k, k < n → ¬ f (adv wv k) 0 = v2)) ∧ u.2.2.1 = 1)) ∧ u.1 = n ∧ u.2.1 = d ∧ Scr A u.2.2.2) (h0 : u.2.2.1 = 0) : r' = 1 ∨ r' = 0 := by
  rcases h2.1 with ⟨a, b, _, _, _, _, h, _⟩ | ⟨_, h⟩
  · exact h.imp (fun z => z.2) (fun z => z.2)
  · rw [h0] at h; exact absurd h (by decide)
theorem TA.A0 {g : Nat} {LP : List Nat} {f : Nat → Nat → Int32} {wv : Nat → Option Nat} {n d cnt : Nat} {ids : Nat → Int32} {A : Nat → Nat → Int32} (hT : TA (fun k => f (adv wv k)) (f g) n d cnt ids A) : ∀ k, k < n → ¬ A 0 k = 0 := fun k hk e => by
  obtain ⟨_, _, ⟨pp, t3, _⟩, _⟩ := hT
  obtain ⟨j, g1, g2, _⟩ := t3.1 k hk
  exact t3.2.2.2.2.1 j g1 (g2.trans e)
theorem cmp_self (v : Int64) : lg_cmp v v = 0 := by
  unfold lg_cmp
  rw [if_neg (by rw [gt_iff_lt, Int64.lt_iff_toInt_lt]; omega), if_pos rfl]
theorem gw_SW {own : String} {idx : Nat} {y : MethodName} {b : ByteArray} {n : Nat} {r : Option FieldType} {hh : List (Nat × Nat × Nat × Nat)} (h1 : Cond.methodLink own idx y ∈ gw) (h2 : Cond.static y ∈ gw) (h4 : Cond.initialized y.cls ∈ gw) (h5 : Cond.codeWith y b n r hh ∈ gw) : GoodIn gw (va_wsS own idx y (Cond.codeWith y b n r hh :: gw)) := fun w hw => by
  have h9 : w ∈ gw := by
    simp only [va_wsS, List.cons_append, List.nil_append, List.mem_cons] at hw
    rcases hw with e | e | e | e | e
    · rw [e]; exact h1
    · rw [e]; exact h2
    · rw [e]; exact h4
    · rw [e]; exact h5
    · exact e
  exact ⟨h9, good_of_word (gw_good w h9)⟩
section CALLSW
variable {p : Program} {l : Launch} {e : Env} {R : Room} {s : State} {m : MethodId} {args : Array Value} {below : List Frame} {meth : Method} {c : Code} {H : Heap} {locs : List Loc} {cells slots : Nat} {Q : State → Prop} {cc : ByteArray} {nL pc : Nat} {ls : Array Slot} {rest : List Value} {y : MethodName} {b9 : ByteArray} {n9 idx : Nat} {r9 : Option FieldType} {hh : List (Nat × Nat × Nat × Nat)} {rm : Room} {Bh : State → Heap → Prop} {own : String} {As : List Value}
theorem runSW {Qc : Array Value → State → Outcome → State → Prop} {mc ms : Nat} {free : Addr → Prop} (S : CallFix p m c cc nL s args gw own) (hM : Met l y (Cond.codeWith y b9 n9 r9 hh :: gw) rm (va_Pc As (fun U => Bh U U.heap)) Qc mc ms free) (hT : GoodIn gw (va_wsS own idx y (Cond.codeWith y b9 n9 r9 hh :: gw))) (hrc : rm.cells = mc) (hrs : rm.slots = ms) (k9 : Nat) (hk9 : As.length = k9)
    (hd : y.cls ≠ "java/lang/invoke/MethodHandle" ∧ y.cls ≠ "java/lang/invoke/VarHandle" ∧ (parseMethodDescriptor y.desc).map (fun d => d.parameters.length) = some k9) (hR : rm.frames + 1 ≤ R.frames ∧ 8 + (n9 + 11) + rm.locals ≤ R.locals) (hf : cells + mc ≤ R.cells ∧ slots + ms ≤ R.slots)
    (hMv : Mv Bh) (hB : Bh s H) (hsize : ls.size = nL) (hW : (rest.map fun v => v.category).sum ≤ 8) (hdg : decode cc pc = .ok (.invokestatic idx, 3)) :
    va_Run p l e R s m args below meth c H locs cells slots mc ms (F0 m pc ls (As.reverse ++ rest)) rest (Qc As.toArray) free :=
  vx_runSW (As := As) (rest := rest) S hM (vx_cwSW k9 S.2.2.2.2 hT rfl hrc hrs hd hR) ⟨hMv.blind, hMv.at hB _⟩ rfl hk9 hsize rfl (lv_room hW) hdg hf
end CALLSW
set_option maxHeartbeats 4000000 in
set_option maxRecDepth 100000 in
theorem law_c0 {p : Program} {l : Launch} {e : Env} {s : State} {m : MethodId} {below : List Frame} {meth : Method} {c : Code} {H : Heap} {locs : List Loc} {cells slots : Nat} {Q : State → Prop} {ls : Array Slot} {b L : Nat} {xs : Nat → Int32} {D : va_G} {y : Nat} {a : Nat → Nat} {cM : ClassId} {o : Nat} {cO : ClassId} {x u i g w : Nat} {cI cW : ClassId} (hLC : LC p l s m c b L xs) {k : Nat} (hk : k + 6 ≤ L) (hc9 : cells + 8 ≤ 601024) (hs9 : slots + 72 ≤ 7293034) (hI : LI D y a cM o cO x u i g w cI cW s H locs) (hl : lv_has ls 7 [(4, .int (nI k)), (0, .ref b), (1, .ref x), (2, .ref y), (3, .ref o)])
    (kk : ∀ (H : Heap) (locs : List Loc) (ls : Array Slot), LI D y a cM o cO x u i g w cI cW s H locs → lv_has ls 7 [(4, .int (nI k)), (0, .ref b), (1, .ref x), (2, .ref y), (3, .ref o)] → W p l e room_1 s m #[Value.ref b] below meth c H locs (cells + 8) (slots + 72) Q (F0 m 799 ls [])) : W p l e room_1 s m #[Value.ref b] below meth c H locs cells slots Q (F0 m 112 ls []) := by
  obtain ⟨S, hX, hbl, hL, hl9, hE0⟩ := id hLC
  obtain ⟨hx, hb, hml, hown, hg⟩ := id S
  obtain ⟨⟨n2, d2, th, A⟩, fO, ⟨LP, f, wv, n, d, cnt, ids⟩, hH, hT, e1, e2⟩ := hI
  dsimp only at e1 e2
  subst e1 e2
  have hF := hH.1
  have hn : n ≤ 512 ∧ d ≤ 1024 ∧ cnt ≤ 1536 := hF.2.2
  refine lv_aload_n hx hb dL_law_112 rfl (lv_at hl 2 rfl) ?_
  refine va_callv (runV (As := []) (rest := []) (Bh := CPre D x u i g w cI cW LP f wv n d cnt ids H.size) S (c_X2_clear l ) (gw_V wk_94 wk_95 wk_96 wk_1 wk_97) rfl rfl 0 rfl (by decide +kernel) (by decide) ⟨by show _ ≤ 601024; omega, by show _ ≤ 7293034; omega⟩ (fun _ _ _ h q => CPre.mv h q) hH.cc.rd.recv hH.cc.pre hl.1 (Nat.le_of_ble_eq_true rfl) dL_law_113) hH.cc.2.2.S (fun q _ h => hH.cc.2.2.free q h) hH.cc.2.2.free (fun z1 t8 H1 locs1 ht8 hvm8 hp1 hB8 hz8 hk8 hS8 => ?_)
  have hH := hH.backC ht8 hB8 hk8 hS8
  clear hS8 hB8 hz8 hk8 ht8 hvm8
  generalize H1 = H at hH ⊢
  generalize locs1 = locs at hH ⊢
  refine lv_aload_n hx hb dL_law_116 rfl (lv_at hl 3 rfl) ?_
  refine va_callv (runV (As := []) (rest := []) (Bh := MPre D y a cM n d th A H.size) S (c_X3_clear l ) (gw_V wk_393 wk_394 wk_395 wk_4 wk_396) rfl rfl 0 rfl (by decide +kernel) (by decide) ⟨by show _ ≤ 601024; omega, by show _ ≤ 7293034; omega⟩ (fun _ _ _ h q => MPre.mv h q) hH.mm.rd.recv hH.mm.pre hl.1 (Nat.le_of_ble_eq_true rfl) dL_law_117) hH.mm.S (fun q _ h => hH.mm.free q h) hH.mm.free (fun m1 t8 H1 locs1 ht8 hvm8 hp2 hB8 hz8 hk8 hS8 => ?_)
  have hH := hH.backM ht8 hB8 hk8 hS8
  clear hS8 hB8 hz8 hk8 ht8 hvm8
  generalize H1 = H at hH ⊢
  generalize locs1 = locs at hH ⊢
  have hTie := law_clear hT hp1 hp2
  refine lv_goto (tgt := 799) hx hb dL_law_120 (by decide) ?_
  refine W.widen (k := cells + 8) (n := slots + 72) (by omega) (by omega) ?_
  exact kk _ _ _ ⟨m1, _, z1, hH, hTie⟩ (lv_sub hl [0, 1, 2, 3, 4] rfl)
set_option maxHeartbeats 4000000 in
set_option maxRecDepth 100000 in
theorem law_c1 {p : Program} {l : Launch} {e : Env} {s : State} {m : MethodId} {below : List Frame} {meth : Method} {c : Code} {H : Heap} {locs : List Loc} {cells slots : Nat} {Q : State → Prop} {ls : Array Slot} {b L : Nat} {xs : Nat → Int32} {D : va_G} {y : Nat} {a : Nat → Nat} {cM : ClassId} {o : Nat} {cO : ClassId} {x u i g w : Nat} {cI cW : ClassId} (hLC : LC p l s m c b L xs) {k : Nat} (hk : k + 6 ≤ L) (hc9 : cells + 8 ≤ 601024) (hs9 : slots + 72 ≤ 7293034) (hI : LI D y a cM o cO x u i g w cI cW s H locs) (hl : lv_has ls 7 [(4, .int (nI k)), (0, .ref b), (1, .ref x), (2, .ref y), (3, .ref o)])
    (kk : ∀ (H : Heap) (locs : List Loc) (ls : Array Slot), LI D y a cM o cO x u i g w cI cW s H locs → lv_has ls 7 [(4, .int (nI k)), (0, .ref b), (1, .ref x), (2, .ref y), (3, .ref o)] → W p l e room_1 s m #[Value.ref b] below meth c H locs (cells + 8) (slots + 72) Q (F0 m 799 ls [])) : W p l e room_1 s m #[Value.ref b] below meth c H locs cells slots Q (F0 m 123 ls []) := by
  obtain ⟨S, hX, hbl, hL, hl9, hE0⟩ := id hLC
  obtain ⟨hx, hb, hml, hown, hg⟩ := id S
  obtain ⟨⟨n2, d2, th, A⟩, fO, ⟨LP, f, wv, n, d, cnt, ids⟩, hH, hT, e1, e2⟩ := hI
  dsimp only at e1 e2
  subst e1 e2
  have hF := hH.1
  have hn : n ≤ 512 ∧ d ≤ 1024 ∧ cnt ≤ 1536 := hF.2.2
  refine lv_aload_n hx hb dL_law_123 rfl (lv_at hl 2 rfl) ?_
  refine lv_aload_n hx hb dL_law_124 rfl (lv_at hl 1 rfl) ?_
  refine lv_iload hx hb dL_law_125 (lv_at hl 0 rfl) ?_
  refine lv_iconst (v := 1) hx hb dL_law_127 (by decide) ?_
  refine lv_iadd hx hb dL_law_128 ?_
  rw [show nI k + 1 = nI (k + 1) from nI_add k 1]
  refine ll_sld (k := k + 1) hLC hH.oo.S (by omega) dL_law_129 ?_
  refine lv_aload_n hx hb dL_law_130 rfl (lv_at hl 1 rfl) ?_
  refine lv_iload hx hb dL_law_131 (lv_at hl 0 rfl) ?_
  refine lv_iconst (v := 2) hx hb dL_law_133 (by decide) ?_
  refine lv_iadd hx hb dL_law_134 ?_
  rw [show nI k + 2 = nI (k + 2) from nI_add k 2]
  refine ll_sld (k := k + 2) hLC hH.oo.S (by omega) dL_law_135 ?_
  refine lv_aload_n hx hb dL_law_136 rfl (lv_at hl 1 rfl) ?_
  refine lv_iload hx hb dL_law_137 (lv_at hl 0 rfl) ?_
  refine lv_iconst (v := 3) hx hb dL_law_139 (by decide) ?_
  refine lv_iadd hx hb dL_law_140 ?_
  rw [show nI k + 3 = nI (k + 3) from nI_add k 3]
  refine ll_sld (k := k + 3) hLC hH.oo.S (by omega) dL_law_141 ?_
  refine lv_aload_n hx hb dL_law_142 rfl (lv_at hl 1 rfl) ?_
  refine lv_iload hx hb dL_law_143 (lv_at hl 0 rfl) ?_
  refine lv_iconst (v := 4) hx hb dL_law_145 (by decide) ?_
  refine lv_iadd hx hb dL_law_146 ?_
  rw [show nI k + 4 = nI (k + 4) from nI_add k 4]
  refine ll_sld (k := k + 4) hLC hH.oo.S (by omega) dL_law_147 ?_
  refine va_calli (runV (As := [.int (xs (k + 1)), .int (xs (k + 2)), .int (xs (k + 3)), .int (xs (k + 4))]) (rest := []) (Bh := CPre D x u i g w cI cW LP f wv n d cnt ids H.size) S (c_X2_insert l (xs (k + 1)) (xs (k + 2)) (xs (k + 3)) (xs (k + 4)) hT.CI) (gw_V wk_102 wk_103 wk_104 wk_1 wk_105) rfl rfl 4 rfl (by decide +kernel) (by decide) ⟨by show _ ≤ 601024; omega, by show _ ≤ 7293034; omega⟩ (fun _ _ _ h q => CPre.mv h q) hH.cc.rd.recv hH.cc.pre hl.1 (Nat.le_of_ble_eq_true rfl) dL_law_148) hH.cc.2.2.S (fun q _ h => hH.cc.2.2.free q h) hH.cc.2.2.free (fun r1 z1 t8 H1 locs1 ht8 hvm8 hp1 hB8 hz8 hk8 hS8 => ?_)
  have hH := hH.backC ht8 hB8 hk8 hS8
  clear hS8 hB8 hz8 hk8 ht8 hvm8
  generalize H1 = H at hH ⊢
  generalize locs1 = locs at hH ⊢
  refine lv_aload_n hx hb dL_law_151 rfl (lv_at hl 3 rfl) ?_
  refine lv_aload_n hx hb dL_law_152 rfl (lv_at hl 1 rfl) ?_
  refine lv_iload hx hb dL_law_153 (lv_at hl 0 rfl) ?_
  refine lv_iconst (v := 1) hx hb dL_law_155 (by decide) ?_
  refine lv_iadd hx hb dL_law_156 ?_
  rw [show nI k + 1 = nI (k + 1) from nI_add k 1]
  refine ll_sld (k := k + 1) hLC hH.oo.S (by omega) dL_law_157 ?_
  refine lv_aload_n hx hb dL_law_158 rfl (lv_at hl 1 rfl) ?_
  refine lv_iload hx hb dL_law_159 (lv_at hl 0 rfl) ?_
  refine lv_iconst (v := 2) hx hb dL_law_161 (by decide) ?_
  refine lv_iadd hx hb dL_law_162 ?_
  rw [show nI k + 2 = nI (k + 2) from nI_add k 2]
  refine ll_sld (k := k + 2) hLC hH.oo.S (by omega) dL_law_163 ?_
  refine lv_aload_n hx hb dL_law_164 rfl (lv_at hl 1 rfl) ?_
  refine lv_iload hx hb dL_law_165 (lv_at hl 0 rfl) ?_
  refine lv_iconst (v := 3) hx hb dL_law_167 (by decide) ?_
  refine lv_iadd hx hb dL_law_168 ?_
  rw [show nI k + 3 = nI (k + 3) from nI_add k 3]
  refine ll_sld (k := k + 3) hLC hH.oo.S (by omega) dL_law_169 ?_
  refine lv_aload_n hx hb dL_law_170 rfl (lv_at hl 1 rfl) ?_
  refine lv_iload hx hb dL_law_171 (lv_at hl 0 rfl) ?_
  refine lv_iconst (v := 4) hx hb dL_law_173 (by decide) ?_
  refine lv_iadd hx hb dL_law_174 ?_
  rw [show nI k + 4 = nI (k + 4) from nI_add k 4]
  refine ll_sld (k := k + 4) hLC hH.oo.S (by omega) dL_law_175 ?_
  refine va_calli (runV (As := [.int (xs (k + 1)), .int (xs (k + 2)), .int (xs (k + 3)), .int (xs (k + 4))]) (rest := [.int r1]) (Bh := MPre D y a cM n d th A H.size) S (c_X3_insert l (xs (k + 1)) (xs (k + 2)) (xs (k + 3)) (xs (k + 4))) (gw_V wk_397 wk_398 wk_399 wk_4 wk_400) rfl rfl 4 rfl (by decide +kernel) (by decide) ⟨by show _ ≤ 601024; omega, by show _ ≤ 7293034; omega⟩ (fun _ _ _ h q => MPre.mv h q) hH.mm.rd.recv hH.mm.pre hl.1 (Nat.le_of_ble_eq_true rfl) dL_law_176) hH.mm.S (fun q _ h => hH.mm.free q h) hH.mm.free (fun r2 m1 t8 H1 locs1 ht8 hvm8 hp2 hB8 hz8 hk8 hS8 => ?_)
  have hH := hH.backM ht8 hB8 hk8 hS8
  clear hS8 hB8 hz8 hk8 ht8 hvm8
  generalize H1 = H at hH ⊢
  generalize locs1 = locs at hH ⊢
  obtain ⟨hq, hTie⟩ := law_insert hT hF hp1 hp2
  subst hq
  refine lv_icmp_eq (tgt := 799) hx hb dL_law_179 (by decide) (fun c_179 => ?_) (fun c_179 => ?_)
  · refine W.widen (k := cells + 8) (n := slots + 72) (by omega) (by omega) ?_
    exact kk _ _ _ ⟨m1, _, z1, hH, hTie⟩ (lv_sub hl [0, 1, 2, 3, 4] rfl)
  · exact absurd rfl c_179
set_option maxHeartbeats 4000000 in
set_option maxRecDepth 100000 in
theorem law_c2 {p : Program} {l : Launch} {e : Env} {s : State} {m : MethodId} {below : List Frame} {meth : Method} {c : Code} {H : Heap} {locs : List Loc} {cells slots : Nat} {Q : State → Prop} {ls : Array Slot} {b L : Nat} {xs : Nat → Int32} {D : va_G} {y : Nat} {a : Nat → Nat} {cM : ClassId} {o : Nat} {cO : ClassId} {x u i g w : Nat} {cI cW : ClassId} (hLC : LC p l s m c b L xs) {k : Nat} (hk : k + 6 ≤ L) (hc9 : cells + 8 ≤ 601024) (hs9 : slots + 72 ≤ 7293034) (hI : LI D y a cM o cO x u i g w cI cW s H locs) (hl : lv_has ls 7 [(4, .int (nI k)), (0, .ref b), (1, .ref x), (2, .ref y), (3, .ref o)])
    (kk : ∀ (H : Heap) (locs : List Loc) (ls : Array Slot), LI D y a cM o cO x u i g w cI cW s H locs → lv_has ls 7 [(4, .int (nI k)), (0, .ref b), (1, .ref x), (2, .ref y), (3, .ref o)] → W p l e room_1 s m #[Value.ref b] below meth c H locs (cells + 8) (slots + 72) Q (F0 m 799 ls [])) : W p l e room_1 s m #[Value.ref b] below meth c H locs cells slots Q (F0 m 184 ls []) := by
  obtain ⟨S, hX, hbl, hL, hl9, hE0⟩ := id hLC
  obtain ⟨hx, hb, hml, hown, hg⟩ := id S
  obtain ⟨⟨n2, d2, th, A⟩, fO, ⟨LP, f, wv, n, d, cnt, ids⟩, hH, hT, e1, e2⟩ := hI
  dsimp only at e1 e2
  subst e1 e2
  have hF := hH.1
  have hn : n ≤ 512 ∧ d ≤ 1024 ∧ cnt ≤ 1536 := hF.2.2
  refine lv_aload_n hx hb dL_law_184 rfl (lv_at hl 2 rfl) ?_
  refine lv_aload_n hx hb dL_law_185 rfl (lv_at hl 1 rfl) ?_
  refine lv_iload hx hb dL_law_186 (lv_at hl 0 rfl) ?_
  refine lv_iconst (v := 1) hx hb dL_law_188 (by decide) ?_
  refine lv_iadd hx hb dL_law_189 ?_
  rw [show nI k + 1 = nI (k + 1) from nI_add k 1]
  refine ll_sld (k := k + 1) hLC hH.oo.S (by omega) dL_law_190 ?_
  refine lv_aload_n hx hb dL_law_191 rfl (lv_at hl 1 rfl) ?_
  refine lv_iload hx hb dL_law_192 (lv_at hl 0 rfl) ?_
  refine lv_iconst (v := 2) hx hb dL_law_194 (by decide) ?_
  refine lv_iadd hx hb dL_law_195 ?_
  rw [show nI k + 2 = nI (k + 2) from nI_add k 2]
  refine ll_sld (k := k + 2) hLC hH.oo.S (by omega) dL_law_196 ?_
  refine lv_aload_n hx hb dL_law_197 rfl (lv_at hl 1 rfl) ?_
  refine lv_iload hx hb dL_law_198 (lv_at hl 0 rfl) ?_
  refine lv_iconst (v := 3) hx hb dL_law_200 (by decide) ?_
  refine lv_iadd hx hb dL_law_201 ?_
  rw [show nI k + 3 = nI (k + 3) from nI_add k 3]
  refine ll_sld (k := k + 3) hLC hH.oo.S (by omega) dL_law_202 ?_
  refine lv_aload_n hx hb dL_law_203 rfl (lv_at hl 1 rfl) ?_
  refine lv_iload hx hb dL_law_204 (lv_at hl 0 rfl) ?_
  refine lv_iconst (v := 4) hx hb dL_law_206 (by decide) ?_
  refine lv_iadd hx hb dL_law_207 ?_
  rw [show nI k + 4 = nI (k + 4) from nI_add k 4]
  refine ll_sld (k := k + 4) hLC hH.oo.S (by omega) dL_law_208 ?_
  refine lv_i2l (v := (xs (k + 4)).toInt64) hx hb dL_law_209 rfl ?_
  refine lv_bipush (v := 32) hx hb dL_law_210 (by decide) ?_
  refine lv_lshl (v := (((xs (k + 4)).toInt64) <<< ((32 : Int32).toInt64 &&& 63))) hx hb dL_law_212 rfl ?_
  refine lv_aload_n hx hb dL_law_213 rfl (lv_at hl 1 rfl) ?_
  refine lv_iload hx hb dL_law_214 (lv_at hl 0 rfl) ?_
  refine lv_iconst (v := 5) hx hb dL_law_216 (by decide) ?_
  refine lv_iadd hx hb dL_law_217 ?_
  rw [show nI k + 5 = nI (k + 5) from nI_add k 5]
  refine ll_sld (k := k + 5) hLC hH.oo.S (by omega) dL_law_218 ?_
  refine lv_i2l (v := (xs (k + 5)).toInt64) hx hb dL_law_219 rfl ?_
  refine lv_ldc2 (v := 4294967295) hx hb hown (hg _ wk_530) dL_law_220 ?_
  refine lv_land hx hb dL_law_223 ?_
  refine lv_lor hx hb dL_law_224 ?_
  refine va_calli (runV (As := [.int (xs (k + 1)), .int (xs (k + 2)), .int (xs (k + 3)), .long ((((xs (k + 4)).toInt64) <<< ((32 : Int32).toInt64 &&& 63)) ||| (((xs (k + 5)).toInt64) &&& 4294967295))]) (rest := []) (Bh := CPre D x u i g w cI cW LP f wv n d cnt ids H.size) S (c_X2_run l (xs (k + 1)) (xs (k + 2)) (xs (k + 3)) ((((xs (k + 4)).toInt64) <<< ((32 : Int32).toInt64 &&& 63)) ||| (((xs (k + 5)).toInt64) &&& 4294967295)) hT.CI) (gw_V wk_153 wk_154 wk_155 wk_1 wk_156) rfl rfl 4 rfl (by decide +kernel) (by decide) ⟨by show _ ≤ 601024; omega, by show _ ≤ 7293034; omega⟩ (fun _ _ _ h q => CPre.mv h q) hH.cc.rd.recv hH.cc.pre hl.1 (Nat.le_of_ble_eq_true rfl) dL_law_225) hH.cc.2.2.S (fun q _ h => hH.cc.2.2.free q h) hH.cc.2.2.free (fun r1 z1 t8 H1 locs1 ht8 hvm8 hp1 hB8 hz8 hk8 hS8 => ?_)
  have hH := hH.backC ht8 hB8 hk8 hS8
  clear hS8 hB8 hz8 hk8 ht8 hvm8
  generalize H1 = H at hH ⊢
  generalize locs1 = locs at hH ⊢
  refine lv_aload_n hx hb dL_law_228 rfl (lv_at hl 3 rfl) ?_
  refine lv_aload_n hx hb dL_law_229 rfl (lv_at hl 1 rfl) ?_
  refine lv_iload hx hb dL_law_230 (lv_at hl 0 rfl) ?_
  refine lv_iconst (v := 1) hx hb dL_law_232 (by decide) ?_
  refine lv_iadd hx hb dL_law_233 ?_
  rw [show nI k + 1 = nI (k + 1) from nI_add k 1]
  refine ll_sld (k := k + 1) hLC hH.oo.S (by omega) dL_law_234 ?_
  refine lv_aload_n hx hb dL_law_235 rfl (lv_at hl 1 rfl) ?_
  refine lv_iload hx hb dL_law_236 (lv_at hl 0 rfl) ?_
  refine lv_iconst (v := 2) hx hb dL_law_238 (by decide) ?_
  refine lv_iadd hx hb dL_law_239 ?_
  rw [show nI k + 2 = nI (k + 2) from nI_add k 2]
  refine ll_sld (k := k + 2) hLC hH.oo.S (by omega) dL_law_240 ?_
  refine lv_aload_n hx hb dL_law_241 rfl (lv_at hl 1 rfl) ?_
  refine lv_iload hx hb dL_law_242 (lv_at hl 0 rfl) ?_
  refine lv_iconst (v := 3) hx hb dL_law_244 (by decide) ?_
  refine lv_iadd hx hb dL_law_245 ?_
  rw [show nI k + 3 = nI (k + 3) from nI_add k 3]
  refine ll_sld (k := k + 3) hLC hH.oo.S (by omega) dL_law_246 ?_
  refine lv_aload_n hx hb dL_law_247 rfl (lv_at hl 1 rfl) ?_
  refine lv_iload hx hb dL_law_248 (lv_at hl 0 rfl) ?_
  refine lv_iconst (v := 4) hx hb dL_law_250 (by decide) ?_
  refine lv_iadd hx hb dL_law_251 ?_
  rw [show nI k + 4 = nI (k + 4) from nI_add k 4]
  refine ll_sld (k := k + 4) hLC hH.oo.S (by omega) dL_law_252 ?_
  refine lv_i2l (v := (xs (k + 4)).toInt64) hx hb dL_law_253 rfl ?_
  refine lv_bipush (v := 32) hx hb dL_law_254 (by decide) ?_
  refine lv_lshl (v := (((xs (k + 4)).toInt64) <<< ((32 : Int32).toInt64 &&& 63))) hx hb dL_law_256 rfl ?_
  refine lv_aload_n hx hb dL_law_257 rfl (lv_at hl 1 rfl) ?_
  refine lv_iload hx hb dL_law_258 (lv_at hl 0 rfl) ?_
  refine lv_iconst (v := 5) hx hb dL_law_260 (by decide) ?_
  refine lv_iadd hx hb dL_law_261 ?_
  rw [show nI k + 5 = nI (k + 5) from nI_add k 5]
  refine ll_sld (k := k + 5) hLC hH.oo.S (by omega) dL_law_262 ?_
  refine lv_i2l (v := (xs (k + 5)).toInt64) hx hb dL_law_263 rfl ?_
  refine lv_ldc2 (v := 4294967295) hx hb hown (hg _ wk_530) dL_law_264 ?_
  refine lv_land hx hb dL_law_267 ?_
  refine lv_lor hx hb dL_law_268 ?_
  refine va_calli (runV (As := [.int (xs (k + 1)), .int (xs (k + 2)), .int (xs (k + 3)), .long ((((xs (k + 4)).toInt64) <<< ((32 : Int32).toInt64 &&& 63)) ||| (((xs (k + 5)).toInt64) &&& 4294967295))]) (rest := [.int r1]) (Bh := MPre D y a cM n d th A H.size) S (c_X3_run l (xs (k + 1)) (xs (k + 2)) (xs (k + 3)) ((((xs (k + 4)).toInt64) <<< ((32 : Int32).toInt64 &&& 63)) ||| (((xs (k + 5)).toInt64) &&& 4294967295))) (gw_V wk_421 wk_422 wk_423 wk_4 wk_424) rfl rfl 4 rfl (by decide +kernel) (by decide) ⟨by show _ ≤ 601024; omega, by show _ ≤ 7293034; omega⟩ (fun _ _ _ h q => MPre.mv h q) hH.mm.rd.recv hH.mm.pre hl.1 (Nat.le_of_ble_eq_true rfl) dL_law_269) hH.mm.S (fun q _ h => hH.mm.free q h) hH.mm.free (fun r2 m1 t8 H1 locs1 ht8 hvm8 hp2 hB8 hz8 hk8 hS8 => ?_)
  have hH := hH.backM ht8 hB8 hk8 hS8
  clear hS8 hB8 hz8 hk8 ht8 hvm8
  generalize H1 = H at hH ⊢
  generalize locs1 = locs at hH ⊢
  obtain ⟨hq, hTie⟩ := law_run hT hp1 hp2
  subst hq
  refine lv_icmp_eq (tgt := 799) hx hb dL_law_272 (by decide) (fun c_272 => ?_) (fun c_272 => ?_)
  · refine W.widen (k := cells + 8) (n := slots + 72) (by omega) (by omega) ?_
    exact kk _ _ _ ⟨m1, _, z1, hH, hTie⟩ (lv_sub hl [0, 1, 2, 3, 4] rfl)
  · exact absurd rfl c_272
set_option maxHeartbeats 4000000 in
set_option maxRecDepth 100000 in
theorem law_c3 {p : Program} {l : Launch} {e : Env} {s : State} {m : MethodId} {below : List Frame} {meth : Method} {c : Code} {H : Heap} {locs : List Loc} {cells slots : Nat} {Q : State → Prop} {ls : Array Slot} {b L : Nat} {xs : Nat → Int32} {D : va_G} {y : Nat} {a : Nat → Nat} {cM : ClassId} {o : Nat} {cO : ClassId} {x u i g w : Nat} {cI cW : ClassId} (hLC : LC p l s m c b L xs) {k : Nat} (hk : k + 6 ≤ L) (hc9 : cells + 8 ≤ 601024) (hs9 : slots + 72 ≤ 7293034) (hI : LI D y a cM o cO x u i g w cI cW s H locs) (hl : lv_has ls 7 [(4, .int (nI k)), (0, .ref b), (1, .ref x), (2, .ref y), (3, .ref o)])
    (kk : ∀ (H : Heap) (locs : List Loc) (ls : Array Slot), LI D y a cM o cO x u i g w cI cW s H locs → lv_has ls 7 [(4, .int (nI k)), (0, .ref b), (1, .ref x), (2, .ref y), (3, .ref o)] → W p l e room_1 s m #[Value.ref b] below meth c H locs (cells + 8) (slots + 72) Q (F0 m 799 ls [])) : W p l e room_1 s m #[Value.ref b] below meth c H locs cells slots Q (F0 m 277 ls []) := by
  obtain ⟨S, hX, hbl, hL, hl9, hE0⟩ := id hLC
  obtain ⟨hx, hb, hml, hown, hg⟩ := id S
  obtain ⟨⟨n2, d2, th, A⟩, fO, ⟨LP, f, wv, n, d, cnt, ids⟩, hH, hT, e1, e2⟩ := hI
  dsimp only at e1 e2
  subst e1 e2
  have hF := hH.1
  have hn : n ≤ 512 ∧ d ≤ 1024 ∧ cnt ≤ 1536 := hF.2.2
  refine lv_aload_n hx hb dL_law_277 rfl (lv_at hl 2 rfl) ?_
  refine lv_aload_n hx hb dL_law_278 rfl (lv_at hl 1 rfl) ?_
  refine lv_iload hx hb dL_law_279 (lv_at hl 0 rfl) ?_
  refine lv_iconst (v := 1) hx hb dL_law_281 (by decide) ?_
  refine lv_iadd hx hb dL_law_282 ?_
  rw [show nI k + 1 = nI (k + 1) from nI_add k 1]
  refine ll_sld (k := k + 1) hLC hH.oo.S (by omega) dL_law_283 ?_
  refine lv_aload_n hx hb dL_law_284 rfl (lv_at hl 1 rfl) ?_
  refine lv_iload hx hb dL_law_285 (lv_at hl 0 rfl) ?_
  refine lv_iconst (v := 2) hx hb dL_law_287 (by decide) ?_
  refine lv_iadd hx hb dL_law_288 ?_
  rw [show nI k + 2 = nI (k + 2) from nI_add k 2]
  refine ll_sld (k := k + 2) hLC hH.oo.S (by omega) dL_law_289 ?_
  refine lv_aload_n hx hb dL_law_290 rfl (lv_at hl 1 rfl) ?_
  refine lv_iload hx hb dL_law_291 (lv_at hl 0 rfl) ?_
  refine lv_iconst (v := 3) hx hb dL_law_293 (by decide) ?_
  refine lv_iadd hx hb dL_law_294 ?_
  rw [show nI k + 3 = nI (k + 3) from nI_add k 3]
  refine ll_sld (k := k + 3) hLC hH.oo.S (by omega) dL_law_295 ?_
  refine lv_aload_n hx hb dL_law_296 rfl (lv_at hl 1 rfl) ?_
  refine lv_iload hx hb dL_law_297 (lv_at hl 0 rfl) ?_
  refine lv_iconst (v := 4) hx hb dL_law_299 (by decide) ?_
  refine lv_iadd hx hb dL_law_300 ?_
  rw [show nI k + 4 = nI (k + 4) from nI_add k 4]
  refine ll_sld (k := k + 4) hLC hH.oo.S (by omega) dL_law_301 ?_
  refine va_calli (runV (As := [.int (xs (k + 1)), .int (xs (k + 2)), .int (xs (k + 3)), .int (xs (k + 4))]) (rest := []) (Bh := CPre D x u i g w cI cW LP f wv n d cnt ids H.size) S (c_X2_set l (xs (k + 1)) (xs (k + 2)) (xs (k + 3)) (xs (k + 4)) hT.CI) (gw_V wk_165 wk_166 wk_167 wk_1 wk_168) rfl rfl 4 rfl (by decide +kernel) (by decide) ⟨by show _ ≤ 601024; omega, by show _ ≤ 7293034; omega⟩ (fun _ _ _ h q => CPre.mv h q) hH.cc.rd.recv hH.cc.pre hl.1 (Nat.le_of_ble_eq_true rfl) dL_law_302) hH.cc.2.2.S (fun q _ h => hH.cc.2.2.free q h) hH.cc.2.2.free (fun r1 z1 t8 H1 locs1 ht8 hvm8 hp1 hB8 hz8 hk8 hS8 => ?_)
  have hH := hH.backC ht8 hB8 hk8 hS8
  clear hS8 hB8 hz8 hk8 ht8 hvm8
  generalize H1 = H at hH ⊢
  generalize locs1 = locs at hH ⊢
  refine lv_aload_n hx hb dL_law_305 rfl (lv_at hl 3 rfl) ?_
  refine lv_aload_n hx hb dL_law_306 rfl (lv_at hl 1 rfl) ?_
  refine lv_iload hx hb dL_law_307 (lv_at hl 0 rfl) ?_
  refine lv_iconst (v := 1) hx hb dL_law_309 (by decide) ?_
  refine lv_iadd hx hb dL_law_310 ?_
  rw [show nI k + 1 = nI (k + 1) from nI_add k 1]
  refine ll_sld (k := k + 1) hLC hH.oo.S (by omega) dL_law_311 ?_
  refine lv_aload_n hx hb dL_law_312 rfl (lv_at hl 1 rfl) ?_
  refine lv_iload hx hb dL_law_313 (lv_at hl 0 rfl) ?_
  refine lv_iconst (v := 2) hx hb dL_law_315 (by decide) ?_
  refine lv_iadd hx hb dL_law_316 ?_
  rw [show nI k + 2 = nI (k + 2) from nI_add k 2]
  refine ll_sld (k := k + 2) hLC hH.oo.S (by omega) dL_law_317 ?_
  refine lv_aload_n hx hb dL_law_318 rfl (lv_at hl 1 rfl) ?_
  refine lv_iload hx hb dL_law_319 (lv_at hl 0 rfl) ?_
  refine lv_iconst (v := 3) hx hb dL_law_321 (by decide) ?_
  refine lv_iadd hx hb dL_law_322 ?_
  rw [show nI k + 3 = nI (k + 3) from nI_add k 3]
  refine ll_sld (k := k + 3) hLC hH.oo.S (by omega) dL_law_323 ?_
  refine lv_aload_n hx hb dL_law_324 rfl (lv_at hl 1 rfl) ?_
  refine lv_iload hx hb dL_law_325 (lv_at hl 0 rfl) ?_
  refine lv_iconst (v := 4) hx hb dL_law_327 (by decide) ?_
  refine lv_iadd hx hb dL_law_328 ?_
  rw [show nI k + 4 = nI (k + 4) from nI_add k 4]
  refine ll_sld (k := k + 4) hLC hH.oo.S (by omega) dL_law_329 ?_
  refine va_calli (runV (As := [.int (xs (k + 1)), .int (xs (k + 2)), .int (xs (k + 3)), .int (xs (k + 4))]) (rest := [.int r1]) (Bh := MPre D y a cM n d th A H.size) S (c_X3_set l (xs (k + 1)) (xs (k + 2)) (xs (k + 3)) (xs (k + 4))) (gw_V wk_426 wk_427 wk_428 wk_4 wk_429) rfl rfl 4 rfl (by decide +kernel) (by decide) ⟨by show _ ≤ 601024; omega, by show _ ≤ 7293034; omega⟩ (fun _ _ _ h q => MPre.mv h q) hH.mm.rd.recv hH.mm.pre hl.1 (Nat.le_of_ble_eq_true rfl) dL_law_330) hH.mm.S (fun q _ h => hH.mm.free q h) hH.mm.free (fun r2 m1 t8 H1 locs1 ht8 hvm8 hp2 hB8 hz8 hk8 hS8 => ?_)
  have hH := hH.backM ht8 hB8 hk8 hS8
  clear hS8 hB8 hz8 hk8 ht8 hvm8
  generalize H1 = H at hH ⊢
  generalize locs1 = locs at hH ⊢
  obtain ⟨hq, hTie⟩ := law_set hT hp1 hp2
  subst hq
  refine lv_icmp_eq (tgt := 799) hx hb dL_law_333 (by decide) (fun c_333 => ?_) (fun c_333 => ?_)
  · refine W.widen (k := cells + 8) (n := slots + 72) (by omega) (by omega) ?_
    exact kk _ _ _ ⟨m1, _, z1, hH, hTie⟩ (lv_sub hl [0, 1, 2, 3, 4] rfl)
  · exact absurd rfl c_333
set_option maxHeartbeats 4000000 in
set_option maxRecDepth 100000 in
theorem law_c4 {p : Program} {l : Launch} {e : Env} {s : State} {m : MethodId} {below : List Frame} {meth : Method} {c : Code} {H : Heap} {locs : List Loc} {cells slots : Nat} {Q : State → Prop} {ls : Array Slot} {b L : Nat} {xs : Nat → Int32} {D : va_G} {y : Nat} {a : Nat → Nat} {cM : ClassId} {o : Nat} {cO : ClassId} {x u i g w : Nat} {cI cW : ClassId} (hLC : LC p l s m c b L xs) {k : Nat} (hk : k + 6 ≤ L) (hc9 : cells + 8 ≤ 601024) (hs9 : slots + 72 ≤ 7293034) (hI : LI D y a cM o cO x u i g w cI cW s H locs) (hl : lv_has ls 7 [(4, .int (nI k)), (0, .ref b), (1, .ref x), (2, .ref y), (3, .ref o)])
    (kk : ∀ (H : Heap) (locs : List Loc) (ls : Array Slot), LI D y a cM o cO x u i g w cI cW s H locs → lv_has ls 7 [(4, .int (nI k)), (0, .ref b), (1, .ref x), (2, .ref y), (3, .ref o)] → W p l e room_1 s m #[Value.ref b] below meth c H locs (cells + 8) (slots + 72) Q (F0 m 799 ls [])) : W p l e room_1 s m #[Value.ref b] below meth c H locs cells slots Q (F0 m 338 ls []) := by
  obtain ⟨S, hX, hbl, hL, hl9, hE0⟩ := id hLC
  obtain ⟨hx, hb, hml, hown, hg⟩ := id S
  obtain ⟨⟨n2, d2, th, A⟩, fO, ⟨LP, f, wv, n, d, cnt, ids⟩, hH, hT, e1, e2⟩ := hI
  dsimp only at e1 e2
  subst e1 e2
  have hF := hH.1
  have hn : n ≤ 512 ∧ d ≤ 1024 ∧ cnt ≤ 1536 := hF.2.2
  refine lv_aload_n hx hb dL_law_338 rfl (lv_at hl 2 rfl) ?_
  refine lv_aload_n hx hb dL_law_339 rfl (lv_at hl 1 rfl) ?_
  refine lv_iload hx hb dL_law_340 (lv_at hl 0 rfl) ?_
  refine lv_iconst (v := 1) hx hb dL_law_342 (by decide) ?_
  refine lv_iadd hx hb dL_law_343 ?_
  rw [show nI k + 1 = nI (k + 1) from nI_add k 1]
  refine ll_sld (k := k + 1) hLC hH.oo.S (by omega) dL_law_344 ?_
  refine lv_aload_n hx hb dL_law_345 rfl (lv_at hl 1 rfl) ?_
  refine lv_iload hx hb dL_law_346 (lv_at hl 0 rfl) ?_
  refine lv_iconst (v := 2) hx hb dL_law_348 (by decide) ?_
  refine lv_iadd hx hb dL_law_349 ?_
  rw [show nI k + 2 = nI (k + 2) from nI_add k 2]
  refine ll_sld (k := k + 2) hLC hH.oo.S (by omega) dL_law_350 ?_
  refine va_calli (runV (As := [.int (xs (k + 1)), .int (xs (k + 2))]) (rest := []) (Bh := CPre D x u i g w cI cW LP f wv n d cnt ids H.size) S (c_X2_remove l (xs (k + 1)) (xs (k + 2)) hT.CI) (gw_V wk_177 wk_178 wk_179 wk_1 wk_180) rfl rfl 2 rfl (by decide +kernel) (by decide) ⟨by show _ ≤ 601024; omega, by show _ ≤ 7293034; omega⟩ (fun _ _ _ h q => CPre.mv h q) hH.cc.rd.recv hH.cc.pre hl.1 (Nat.le_of_ble_eq_true rfl) dL_law_351) hH.cc.2.2.S (fun q _ h => hH.cc.2.2.free q h) hH.cc.2.2.free (fun r1 z1 t8 H1 locs1 ht8 hvm8 hp1 hB8 hz8 hk8 hS8 => ?_)
  have hH := hH.backC ht8 hB8 hk8 hS8
  clear hS8 hB8 hz8 hk8 ht8 hvm8
  generalize H1 = H at hH ⊢
  generalize locs1 = locs at hH ⊢
  refine lv_aload_n hx hb dL_law_354 rfl (lv_at hl 3 rfl) ?_
  refine lv_aload_n hx hb dL_law_355 rfl (lv_at hl 1 rfl) ?_
  refine lv_iload hx hb dL_law_356 (lv_at hl 0 rfl) ?_
  refine lv_iconst (v := 1) hx hb dL_law_358 (by decide) ?_
  refine lv_iadd hx hb dL_law_359 ?_
  rw [show nI k + 1 = nI (k + 1) from nI_add k 1]
  refine ll_sld (k := k + 1) hLC hH.oo.S (by omega) dL_law_360 ?_
  refine lv_aload_n hx hb dL_law_361 rfl (lv_at hl 1 rfl) ?_
  refine lv_iload hx hb dL_law_362 (lv_at hl 0 rfl) ?_
  refine lv_iconst (v := 2) hx hb dL_law_364 (by decide) ?_
  refine lv_iadd hx hb dL_law_365 ?_
  rw [show nI k + 2 = nI (k + 2) from nI_add k 2]
  refine ll_sld (k := k + 2) hLC hH.oo.S (by omega) dL_law_366 ?_
  refine va_calli (runV (As := [.int (xs (k + 1)), .int (xs (k + 2))]) (rest := [.int r1]) (Bh := MPre D y a cM n d th A H.size) S (c_X3_remove l (xs (k + 1)) (xs (k + 2))) (gw_V wk_434 wk_435 wk_436 wk_4 wk_437) rfl rfl 2 rfl (by decide +kernel) (by decide) ⟨by show _ ≤ 601024; omega, by show _ ≤ 7293034; omega⟩ (fun _ _ _ h q => MPre.mv h q) hH.mm.rd.recv hH.mm.pre hl.1 (Nat.le_of_ble_eq_true rfl) dL_law_367) hH.mm.S (fun q _ h => hH.mm.free q h) hH.mm.free (fun r2 m1 t8 H1 locs1 ht8 hvm8 hp2 hB8 hz8 hk8 hS8 => ?_)
  have hH := hH.backM ht8 hB8 hk8 hS8
  clear hS8 hB8 hz8 hk8 ht8 hvm8
  generalize H1 = H at hH ⊢
  generalize locs1 = locs at hH ⊢
  obtain ⟨hq, hTie⟩ := law_remove hT hp1 hp2
  subst hq
  refine lv_icmp_eq (tgt := 799) hx hb dL_law_370 (by decide) (fun c_370 => ?_) (fun c_370 => ?_)
  · refine W.widen (k := cells + 8) (n := slots + 72) (by omega) (by omega) ?_
    exact kk _ _ _ ⟨m1, _, z1, hH, hTie⟩ (lv_sub hl [0, 1, 2, 3, 4] rfl)
  · exact absurd rfl c_370
set_option maxHeartbeats 4000000 in
set_option maxRecDepth 100000 in
theorem law_c5 {p : Program} {l : Launch} {e : Env} {s : State} {m : MethodId} {below : List Frame} {meth : Method} {c : Code} {H : Heap} {locs : List Loc} {cells slots : Nat} {Q : State → Prop} {ls : Array Slot} {b L : Nat} {xs : Nat → Int32} {D : va_G} {y : Nat} {a : Nat → Nat} {cM : ClassId} {o : Nat} {cO : ClassId} {x u i g w : Nat} {cI cW : ClassId} (hLC : LC p l s m c b L xs) {k : Nat} (hk : k + 6 ≤ L) (hc9 : cells + 8 ≤ 601024) (hs9 : slots + 72 ≤ 7293034) (hI : LI D y a cM o cO x u i g w cI cW s H locs) (hl : lv_has ls 7 [(4, .int (nI k)), (0, .ref b), (1, .ref x), (2, .ref y), (3, .ref o)])
    (kk : ∀ (H : Heap) (locs : List Loc) (ls : Array Slot), LI D y a cM o cO x u i g w cI cW s H locs → lv_has ls 7 [(4, .int (nI k)), (0, .ref b), (1, .ref x), (2, .ref y), (3, .ref o)] → W p l e room_1 s m #[Value.ref b] below meth c H locs (cells + 8) (slots + 72) Q (F0 m 799 ls [])) : W p l e room_1 s m #[Value.ref b] below meth c H locs cells slots Q (F0 m 375 ls []) := by
  obtain ⟨S, hX, hbl, hL, hl9, hE0⟩ := id hLC
  obtain ⟨hx, hb, hml, hown, hg⟩ := id S
  obtain ⟨⟨n2, d2, th, A⟩, fO, ⟨LP, f, wv, n, d, cnt, ids⟩, hH, hT, e1, e2⟩ := hI
  dsimp only at e1 e2
  subst e1 e2
  have hF := hH.1
  have hn : n ≤ 512 ∧ d ≤ 1024 ∧ cnt ≤ 1536 := hF.2.2
  refine lv_aload_n hx hb dL_law_375 rfl (lv_at hl 2 rfl) ?_
  refine vp_callSi (va_Run.run (runV (As := []) (rest := []) (Bh := RdC D x u i g w n d cnt ids (adv wv) f) S (c_X2_size l ) (gw_V wk_181 wk_182 wk_183 wk_1 wk_184) rfl rfl 0 rfl (by decide +kernel) (by decide) ⟨by show _ ≤ 601024; omega, by show _ ≤ 7293034; omega⟩ (fun _ _ _ h q => RdC.mv h q) hH.cc.rd.recv hH.cc.rd hl.1 (Nat.le_of_ble_eq_true rfl) dL_law_376)) (fun r1 hp1 => ?_)
  refine lv_aload_n hx hb dL_law_379 rfl (lv_at hl 3 rfl) ?_
  refine va_calli (runV (As := []) (rest := [.int r1]) (Bh := MPre D y a cM n d th A H.size) S (c_X3_size l ) (gw_V wk_438 wk_439 wk_440 wk_4 wk_441) rfl rfl 0 rfl (by decide +kernel) (by decide) ⟨by show _ ≤ 601024; omega, by show _ ≤ 7293034; omega⟩ (fun _ _ _ h q => MPre.mv h q) hH.mm.rd.recv hH.mm.pre hl.1 (Nat.le_of_ble_eq_true rfl) dL_law_380) hH.mm.S (fun q _ h => hH.mm.free q h) hH.mm.free (fun r2 m1 t8 H1 locs1 ht8 hvm8 hp2 hB8 hz8 hk8 hS8 => ?_)
  have hH := hH.backM ht8 hB8 hk8 hS8
  clear hS8 hB8 hz8 hk8 ht8 hvm8
  generalize H1 = H at hH ⊢
  generalize locs1 = locs at hH ⊢
  obtain ⟨hq, hTie⟩ := law_size (LP := LP) hT hn.2.1 hn.1 hp1 hp2
  subst hq
  refine lv_icmp_eq (tgt := 799) hx hb dL_law_383 (by decide) (fun c_383 => ?_) (fun c_383 => ?_)
  · refine W.widen (k := cells + 8) (n := slots + 72) (by omega) (by omega) ?_
    exact kk _ _ _ ⟨m1, _, (LP, f, wv, n, d, cnt, ids), hH, hTie⟩ (lv_sub hl [0, 1, 2, 3, 4] rfl)
  · exact absurd rfl c_383
set_option maxHeartbeats 4000000 in
set_option maxRecDepth 100000 in
theorem law_c6 {p : Program} {l : Launch} {e : Env} {s : State} {m : MethodId} {below : List Frame} {meth : Method} {c : Code} {H : Heap} {locs : List Loc} {cells slots : Nat} {Q : State → Prop} {ls : Array Slot} {b L : Nat} {xs : Nat → Int32} {D : va_G} {y : Nat} {a : Nat → Nat} {cM : ClassId} {o : Nat} {cO : ClassId} {x u i g w : Nat} {cI cW : ClassId} (hLC : LC p l s m c b L xs) {k : Nat} (hk : k + 6 ≤ L) (hc9 : cells + 8 ≤ 601024) (hs9 : slots + 72 ≤ 7293034) (hI : LI D y a cM o cO x u i g w cI cW s H locs) (hl : lv_has ls 7 [(4, .int (nI k)), (0, .ref b), (1, .ref x), (2, .ref y), (3, .ref o)])
    (kk : ∀ (H : Heap) (locs : List Loc) (ls : Array Slot), LI D y a cM o cO x u i g w cI cW s H locs → lv_has ls 7 [(4, .int (nI k)), (0, .ref b), (1, .ref x), (2, .ref y), (3, .ref o)] → W p l e room_1 s m #[Value.ref b] below meth c H locs (cells + 8) (slots + 72) Q (F0 m 799 ls [])) : W p l e room_1 s m #[Value.ref b] below meth c H locs cells slots Q (F0 m 388 ls []) := by
  obtain ⟨S, hX, hbl, hL, hl9, hE0⟩ := id hLC
  obtain ⟨hx, hb, hml, hown, hg⟩ := id S
  obtain ⟨⟨n2, d2, th, A⟩, fO, ⟨LP, f, wv, n, d, cnt, ids⟩, hH, hT, e1, e2⟩ := hI
  dsimp only at e1 e2
  subst e1 e2
  have hF := hH.1
  have hn : n ≤ 512 ∧ d ≤ 1024 ∧ cnt ≤ 1536 := hF.2.2
  refine lv_aload_n hx hb dL_law_388 rfl (lv_at hl 2 rfl) ?_
  refine lv_aload_n hx hb dL_law_389 rfl (lv_at hl 1 rfl) ?_
  refine lv_iload hx hb dL_law_390 (lv_at hl 0 rfl) ?_
  refine lv_iconst (v := 1) hx hb dL_law_392 (by decide) ?_
  refine lv_iadd hx hb dL_law_393 ?_
  rw [show nI k + 1 = nI (k + 1) from nI_add k 1]
  refine ll_sld (k := k + 1) hLC hH.oo.S (by omega) dL_law_394 ?_
  refine lv_aload_n hx hb dL_law_395 rfl (lv_at hl 1 rfl) ?_
  refine lv_iload hx hb dL_law_396 (lv_at hl 0 rfl) ?_
  refine lv_iconst (v := 2) hx hb dL_law_398 (by decide) ?_
  refine lv_iadd hx hb dL_law_399 ?_
  rw [show nI k + 2 = nI (k + 2) from nI_add k 2]
  refine ll_sld (k := k + 2) hLC hH.oo.S (by omega) dL_law_400 ?_
  refine lv_aload_n hx hb dL_law_401 rfl (lv_at hl 4 rfl) ?_
  refine va_calli (runSW (As := [.ref x, .int (xs (k + 1)), .int (xs (k + 2)), .ref o]) (rest := []) (Bh := (fun U H9 => RdC D x u i g w n d cnt ids (adv wv) f U H9 ∧ EX H.size U H9 ∧ GPre D (wO o cO fO) [(cO, .long)] H.size U H9)) S (c_L_at hl9 (xs (k + 1)) (xs (k + 2))) (gw_SW wk_216 wk_217 wk_0 wk_218) rfl rfl 4 rfl (by decide +kernel) (by decide) ⟨by show _ ≤ 601024; omega, by show _ ≤ 7293034; omega⟩ (fun _ _ _ h q => ⟨RdC.mv h q.1, EX.mv h q.2.1, q.2.2.mv h⟩) ⟨hH.cc.rd, hLC.ex hH.oo.S, hH.oo.pre⟩ hl.1 (Nat.le_of_ble_eq_true rfl) dL_law_402) hH.oo.S (fun q _ h => hH.oo.free q h) hH.oo.free (fun r1 fO1 t8 H1 locs1 ht8 hvm8 hp1 hB8 hz8 hk8 hS8 => ?_)
  have hH := hH.backO ht8 hB8 hk8 hS8
  clear hS8 hB8 hz8 hk8 ht8 hvm8
  generalize H1 = H at hH ⊢
  generalize locs1 = locs at hH ⊢
  refine lv_istore (lv' := [(5, .int r1), (4, .int (nI k)), (0, .ref b), (1, .ref x), (2, .ref y), (3, .ref o)]) hx hb dL_law_405 hl (by decide) rfl (fun ls hl => ?_)
  refine lv_aload_n hx hb dL_law_407 rfl (lv_at hl 4 rfl) ?_
  refine lv_aload_n hx hb dL_law_408 rfl (lv_at hl 2 rfl) ?_
  refine lv_iload hx hb dL_law_409 (lv_at hl 1 rfl) ?_
  refine lv_iconst (v := 1) hx hb dL_law_411 (by decide) ?_
  refine lv_iadd hx hb dL_law_412 ?_
  rw [show nI k + 1 = nI (k + 1) from nI_add k 1]
  refine ll_sld (k := k + 1) hLC hH.oo.S (by omega) dL_law_413 ?_
  refine lv_aload_n hx hb dL_law_414 rfl (lv_at hl 2 rfl) ?_
  refine lv_iload hx hb dL_law_415 (lv_at hl 1 rfl) ?_
  refine lv_iconst (v := 2) hx hb dL_law_417 (by decide) ?_
  refine lv_iadd hx hb dL_law_418 ?_
  rw [show nI k + 2 = nI (k + 2) from nI_add k 2]
  refine ll_sld (k := k + 2) hLC hH.oo.S (by omega) dL_law_419 ?_
  obtain ⟨pp, hCo, _⟩ := hT.cor hn.2.1
  refine va_calli (runV (As := [.int (xs (k + 1)), .int (xs (k + 2))]) (rest := []) (Bh := MPre D y a cM n d th A H.size) S (c_X3_at l (xs (k + 1)) (xs (k + 2)) hCo) (gw_V wk_450 wk_451 wk_452 wk_4 wk_453) rfl rfl 2 rfl (by decide +kernel) (by decide) ⟨by show _ ≤ 601024; omega, by show _ ≤ 7293034; omega⟩ (fun _ _ _ h q => MPre.mv h q) hH.mm.rd.recv hH.mm.pre hl.1 (Nat.le_of_ble_eq_true rfl) dL_law_420) hH.mm.S (fun q _ h => hH.mm.free q h) hH.mm.free (fun r2 m1 t8 H1 locs1 ht8 hvm8 hp2 hB8 hz8 hk8 hS8 => ?_)
  have hH := hH.backM ht8 hB8 hk8 hS8
  clear hS8 hB8 hz8 hk8 ht8 hvm8
  generalize H1 = H at hH ⊢
  generalize locs1 = locs at hH ⊢
  obtain ⟨hq, hz0, hTie⟩ := law_at (LP := LP) hT hn.2.1 hn.1 hp1 hp2
  refine lv_istore (lv' := [(6, .int r2), (5, .int r1), (4, .int (nI k)), (0, .ref b), (1, .ref x), (2, .ref y), (3, .ref o)]) hx hb dL_law_423 hl (by decide) rfl (fun ls hl => ?_)
  refine lv_aload_n hx hb dL_law_425 rfl (lv_at hl 5 rfl) ?_
  refine vp_callSi (va_Run.run (runV (As := []) (rest := []) (Bh := RdM D y a m1.1 m1.2.1 m1.2.2.1 m1.2.2.2) S (c_X3_thrown l) (gw_V wk_389 wk_390 wk_391 wk_4 wk_392) rfl rfl 0 rfl (by decide +kernel) (by decide) ⟨by show _ ≤ 601024; omega, by show _ ≤ 7293034; omega⟩ (fun _ _ _ h q => RdM.mv h q) hH.mm.rd.recv hH.mm.rd hl.1 (Nat.le_of_ble_eq_true rfl) dL_law_426)) (fun r3 hp3 => ?_)
  subst hp3
  refine lv_iload hx hb dL_law_429 (lv_at hl 1 rfl) ?_
  refine lv_icmp_eq (tgt := 436) hx hb dL_law_431 (by decide) (fun c_431 => ?_) (fun c_431 => ?_)
  · refine lv_iload hx hb dL_law_436 (lv_at hl 1 rfl) ?_
    refine lv_if_ne (tgt := 453) hx hb dL_law_438 (by decide) (fun c_438 => ?_) (fun c_438 => ?_)
    · refine lv_goto (tgt := 799) hx hb dL_law_453 (by decide) ?_
      refine W.widen (k := cells + 8) (n := slots + 72) (by omega) (by omega) ?_
      exact kk _ _ _ ⟨m1, fO1, (LP, f, wv, n, d, cnt, ids), hH, hTie⟩ (lv_sub hl [2, 3, 4, 5, 6] rfl)
    · have hz1 := hz0 c_438
      refine lv_aload_n hx hb dL_law_441 rfl (lv_at hl 6 rfl) ?_
      refine lv_iconst (v := 0) hx hb dL_law_442 (by decide) ?_
      refine va_lald hx hb hH.oo.2.2.1 hH.oo.1 0 0 rfl rfl (by unfold vp_in; decide) dL_law_443 ?_
      rw [show (0 : Int32).toNatClampNeg = 0 by decide]
      refine lv_iload hx hb dL_law_444 (lv_at hl 0 rfl) ?_
      refine lv_i2l (v := r2.toInt64) hx hb dL_law_446 rfl ?_
      rw [hz1]
      refine W.lcmp hx hb dL_law_447 ?_
      refine lv_if_eq (tgt := 453) hx hb dL_law_448 (by decide) (fun c_448 => ?_) (fun c_448 => ?_)
      · refine lv_goto (tgt := 799) hx hb dL_law_453 (by decide) ?_
        refine W.widen (k := cells + 8) (n := slots + 72) (by omega) (by omega) ?_
        exact kk _ _ _ ⟨m1, fO1, (LP, f, wv, n, d, cnt, ids), hH, hTie⟩ (lv_sub hl [2, 3, 4, 5, 6] rfl)
      · exact absurd (cmp_self _) c_448
  · exact absurd hq c_431
set_option maxHeartbeats 4000000 in
set_option maxRecDepth 100000 in
theorem law_c7 {p : Program} {l : Launch} {e : Env} {s : State} {m : MethodId} {below : List Frame} {meth : Method} {c : Code} {H : Heap} {locs : List Loc} {cells slots : Nat} {Q : State → Prop} {ls : Array Slot} {b L : Nat} {xs : Nat → Int32} {D : va_G} {y : Nat} {a : Nat → Nat} {cM : ClassId} {o : Nat} {cO : ClassId} {x u i g w : Nat} {cI cW : ClassId} (hLC : LC p l s m c b L xs) {k : Nat} (hk : k + 6 ≤ L) (hc9 : cells + 8 ≤ 601024) (hs9 : slots + 72 ≤ 7293034) (hI : LI D y a cM o cO x u i g w cI cW s H locs) (hl : lv_has ls 7 [(4, .int (nI k)), (0, .ref b), (1, .ref x), (2, .ref y), (3, .ref o)])
    (kk : ∀ (H : Heap) (locs : List Loc) (ls : Array Slot), LI D y a cM o cO x u i g w cI cW s H locs → lv_has ls 7 [(4, .int (nI k)), (0, .ref b), (1, .ref x), (2, .ref y), (3, .ref o)] → W p l e room_1 s m #[Value.ref b] below meth c H locs (cells + 8) (slots + 72) Q (F0 m 799 ls [])) : W p l e room_1 s m #[Value.ref b] below meth c H locs cells slots Q (F0 m 456 ls []) := by
  obtain ⟨S, hX, hbl, hL, hl9, hE0⟩ := id hLC
  obtain ⟨hx, hb, hml, hown, hg⟩ := id S
  obtain ⟨⟨n2, d2, th, A⟩, fO, ⟨LP, f, wv, n, d, cnt, ids⟩, hH, hT, e1, e2⟩ := hI
  dsimp only at e1 e2
  subst e1 e2
  have hF := hH.1
  have hn : n ≤ 512 ∧ d ≤ 1024 ∧ cnt ≤ 1536 := hF.2.2
  refine lv_aload_n hx hb dL_law_456 rfl (lv_at hl 2 rfl) ?_
  refine lv_aload_n hx hb dL_law_457 rfl (lv_at hl 1 rfl) ?_
  refine lv_iload hx hb dL_law_458 (lv_at hl 0 rfl) ?_
  refine lv_iconst (v := 1) hx hb dL_law_460 (by decide) ?_
  refine lv_iadd hx hb dL_law_461 ?_
  rw [show nI k + 1 = nI (k + 1) from nI_add k 1]
  refine ll_sld (k := k + 1) hLC hH.oo.S (by omega) dL_law_462 ?_
  refine vp_callSi (va_Run.run (runV (As := [.int (xs (k + 1))]) (rest := []) (Bh := RdC D x u i g w n d cnt ids (adv wv) f) S (c_X2_place l (xs (k + 1))) (gw_V wk_193 wk_194 wk_195 wk_1 wk_196) rfl rfl 1 rfl (by decide +kernel) (by decide) ⟨by show _ ≤ 601024; omega, by show _ ≤ 7293034; omega⟩ (fun _ _ _ h q => RdC.mv h q) hH.cc.rd.recv hH.cc.rd hl.1 (Nat.le_of_ble_eq_true rfl) dL_law_463)) (fun r1 hp1 => ?_)
  refine lv_aload_n hx hb dL_law_466 rfl (lv_at hl 3 rfl) ?_
  refine lv_aload_n hx hb dL_law_467 rfl (lv_at hl 1 rfl) ?_
  refine lv_iload hx hb dL_law_468 (lv_at hl 0 rfl) ?_
  refine lv_iconst (v := 1) hx hb dL_law_470 (by decide) ?_
  refine lv_iadd hx hb dL_law_471 ?_
  rw [show nI k + 1 = nI (k + 1) from nI_add k 1]
  refine ll_sld (k := k + 1) hLC hH.oo.S (by omega) dL_law_472 ?_
  obtain ⟨pp, hCo, _⟩ := hT.cor hn.2.1
  refine va_calli (runV (As := [.int (xs (k + 1))]) (rest := [.int r1]) (Bh := MPre D y a cM n d th A H.size) S (c_X3_place l (xs (k + 1)) hCo) (gw_V wk_482 wk_483 wk_484 wk_4 wk_485) rfl rfl 1 rfl (by decide +kernel) (by decide) ⟨by show _ ≤ 601024; omega, by show _ ≤ 7293034; omega⟩ (fun _ _ _ h q => MPre.mv h q) hH.mm.rd.recv hH.mm.pre hl.1 (Nat.le_of_ble_eq_true rfl) dL_law_473) hH.mm.S (fun q _ h => hH.mm.free q h) hH.mm.free (fun r2 m1 t8 H1 locs1 ht8 hvm8 hp2 hB8 hz8 hk8 hS8 => ?_)
  have hH := hH.backM ht8 hB8 hk8 hS8
  clear hS8 hB8 hz8 hk8 ht8 hvm8
  generalize H1 = H at hH ⊢
  generalize locs1 = locs at hH ⊢
  obtain ⟨hq, hTie⟩ := law_place (LP := LP) hT hn.2.1 hn.1 hp1 hp2
  subst hq
  refine lv_icmp_eq (tgt := 799) hx hb dL_law_476 (by decide) (fun c_476 => ?_) (fun c_476 => ?_)
  · refine W.widen (k := cells + 8) (n := slots + 72) (by omega) (by omega) ?_
    exact kk _ _ _ ⟨m1, _, (LP, f, wv, n, d, cnt, ids), hH, hTie⟩ (lv_sub hl [0, 1, 2, 3, 4] rfl)
  · exact absurd rfl c_476
set_option maxHeartbeats 4000000 in
set_option maxRecDepth 100000 in
theorem law_c8 {p : Program} {l : Launch} {e : Env} {s : State} {m : MethodId} {below : List Frame} {meth : Method} {c : Code} {H : Heap} {locs : List Loc} {cells slots : Nat} {Q : State → Prop} {ls : Array Slot} {b L : Nat} {xs : Nat → Int32} {D : va_G} {y : Nat} {a : Nat → Nat} {cM : ClassId} {o : Nat} {cO : ClassId} {x u i g w : Nat} {cI cW : ClassId} (hLC : LC p l s m c b L xs) {k : Nat} (hk : k + 6 ≤ L) (hc9 : cells + 8 ≤ 601024) (hs9 : slots + 72 ≤ 7293034) (hI : LI D y a cM o cO x u i g w cI cW s H locs) (hl : lv_has ls 7 [(4, .int (nI k)), (0, .ref b), (1, .ref x), (2, .ref y), (3, .ref o)])
    (kk : ∀ (H : Heap) (locs : List Loc) (ls : Array Slot), LI D y a cM o cO x u i g w cI cW s H locs → lv_has ls 7 [(4, .int (nI k)), (0, .ref b), (1, .ref x), (2, .ref y), (3, .ref o)] → W p l e room_1 s m #[Value.ref b] below meth c H locs (cells + 8) (slots + 72) Q (F0 m 799 ls [])) : W p l e room_1 s m #[Value.ref b] below meth c H locs cells slots Q (F0 m 481 ls []) := by
  obtain ⟨S, hX, hbl, hL, hl9, hE0⟩ := id hLC
  obtain ⟨hx, hb, hml, hown, hg⟩ := id S
  obtain ⟨⟨n2, d2, th, A⟩, fO, ⟨LP, f, wv, n, d, cnt, ids⟩, hH, hT, e1, e2⟩ := hI
  dsimp only at e1 e2
  subst e1 e2
  have hF := hH.1
  have hn : n ≤ 512 ∧ d ≤ 1024 ∧ cnt ≤ 1536 := hF.2.2
  refine lv_aload_n hx hb dL_law_481 rfl (lv_at hl 2 rfl) ?_
  refine lv_aload_n hx hb dL_law_482 rfl (lv_at hl 1 rfl) ?_
  refine lv_iload hx hb dL_law_483 (lv_at hl 0 rfl) ?_
  refine lv_iconst (v := 1) hx hb dL_law_485 (by decide) ?_
  refine lv_iadd hx hb dL_law_486 ?_
  rw [show nI k + 1 = nI (k + 1) from nI_add k 1]
  refine ll_sld (k := k + 1) hLC hH.oo.S (by omega) dL_law_487 ?_
  refine lv_aload_n hx hb dL_law_488 rfl (lv_at hl 4 rfl) ?_
  refine va_calli (runSW (As := [.ref x, .int (xs (k + 1)), .ref o]) (rest := []) (Bh := (fun U H9 => RdC D x u i g w n d cnt ids (adv wv) f U H9 ∧ EX H.size U H9 ∧ GPre D (wO o cO fO) [(cO, .long)] H.size U H9)) S (c_L_ahead hl9 (xs (k + 1))) (gw_SW wk_296 wk_297 wk_0 wk_298) rfl rfl 3 rfl (by decide +kernel) (by decide) ⟨by show _ ≤ 601024; omega, by show _ ≤ 7293034; omega⟩ (fun _ _ _ h q => ⟨RdC.mv h q.1, EX.mv h q.2.1, q.2.2.mv h⟩) ⟨hH.cc.rd, hLC.ex hH.oo.S, hH.oo.pre⟩ hl.1 (Nat.le_of_ble_eq_true rfl) dL_law_489) hH.oo.S (fun q _ h => hH.oo.free q h) hH.oo.free (fun r1 fO1 t8 H1 locs1 ht8 hvm8 hp1 hB8 hz8 hk8 hS8 => ?_)
  have hH := hH.backO ht8 hB8 hk8 hS8
  clear hS8 hB8 hz8 hk8 ht8 hvm8
  generalize H1 = H at hH ⊢
  generalize locs1 = locs at hH ⊢
  refine lv_istore (lv' := [(5, .int r1), (4, .int (nI k)), (0, .ref b), (1, .ref x), (2, .ref y), (3, .ref o)]) hx hb dL_law_492 hl (by decide) rfl (fun ls hl => ?_)
  refine lv_aload_n hx hb dL_law_494 rfl (lv_at hl 4 rfl) ?_
  refine lv_aload_n hx hb dL_law_495 rfl (lv_at hl 2 rfl) ?_
  refine lv_iload hx hb dL_law_496 (lv_at hl 1 rfl) ?_
  refine lv_iconst (v := 1) hx hb dL_law_498 (by decide) ?_
  refine lv_iadd hx hb dL_law_499 ?_
  rw [show nI k + 1 = nI (k + 1) from nI_add k 1]
  refine ll_sld (k := k + 1) hLC hH.oo.S (by omega) dL_law_500 ?_
  obtain ⟨pp, hCo, _⟩ := hT.cor hn.2.1
  refine va_calli (runV (As := [.int (xs (k + 1))]) (rest := []) (Bh := MPre D y a cM n d th A H.size) S (c_X3_ahead l (xs (k + 1)) hCo) (gw_V wk_490 wk_491 wk_492 wk_4 wk_493) rfl rfl 1 rfl (by decide +kernel) (by decide) ⟨by show _ ≤ 601024; omega, by show _ ≤ 7293034; omega⟩ (fun _ _ _ h q => MPre.mv h q) hH.mm.rd.recv hH.mm.pre hl.1 (Nat.le_of_ble_eq_true rfl) dL_law_501) hH.mm.S (fun q _ h => hH.mm.free q h) hH.mm.free (fun r2 m1 t8 H1 locs1 ht8 hvm8 hp2 hB8 hz8 hk8 hS8 => ?_)
  have hH := hH.backM ht8 hB8 hk8 hS8
  clear hS8 hB8 hz8 hk8 ht8 hvm8
  generalize H1 = H at hH ⊢
  generalize locs1 = locs at hH ⊢
  obtain ⟨hq, hz0, hTie⟩ := law_ahead (LP := LP) hT hn.2.1 hn.1 hp1 hp2
  refine lv_istore (lv' := [(6, .int r2), (5, .int r1), (4, .int (nI k)), (0, .ref b), (1, .ref x), (2, .ref y), (3, .ref o)]) hx hb dL_law_504 hl (by decide) rfl (fun ls hl => ?_)
  refine lv_aload_n hx hb dL_law_506 rfl (lv_at hl 5 rfl) ?_
  refine vp_callSi (va_Run.run (runV (As := []) (rest := []) (Bh := RdM D y a m1.1 m1.2.1 m1.2.2.1 m1.2.2.2) S (c_X3_thrown l) (gw_V wk_389 wk_390 wk_391 wk_4 wk_392) rfl rfl 0 rfl (by decide +kernel) (by decide) ⟨by show _ ≤ 601024; omega, by show _ ≤ 7293034; omega⟩ (fun _ _ _ h q => RdM.mv h q) hH.mm.rd.recv hH.mm.rd hl.1 (Nat.le_of_ble_eq_true rfl) dL_law_507)) (fun r3 hp3 => ?_)
  subst hp3
  refine lv_iload hx hb dL_law_510 (lv_at hl 1 rfl) ?_
  refine lv_icmp_eq (tgt := 517) hx hb dL_law_512 (by decide) (fun c_512 => ?_) (fun c_512 => ?_)
  · refine lv_iload hx hb dL_law_517 (lv_at hl 1 rfl) ?_
    refine lv_if_ne (tgt := 534) hx hb dL_law_519 (by decide) (fun c_519 => ?_) (fun c_519 => ?_)
    · refine lv_goto (tgt := 799) hx hb dL_law_534 (by decide) ?_
      refine W.widen (k := cells + 8) (n := slots + 72) (by omega) (by omega) ?_
      exact kk _ _ _ ⟨m1, fO1, (LP, f, wv, n, d, cnt, ids), hH, hTie⟩ (lv_sub hl [2, 3, 4, 5, 6] rfl)
    · have hz1 := hz0 c_519
      refine lv_aload_n hx hb dL_law_522 rfl (lv_at hl 6 rfl) ?_
      refine lv_iconst (v := 0) hx hb dL_law_523 (by decide) ?_
      refine va_lald hx hb hH.oo.2.2.1 hH.oo.1 0 0 rfl rfl (by unfold vp_in; decide) dL_law_524 ?_
      rw [show (0 : Int32).toNatClampNeg = 0 by decide]
      refine lv_iload hx hb dL_law_525 (lv_at hl 0 rfl) ?_
      refine lv_i2l (v := r2.toInt64) hx hb dL_law_527 rfl ?_
      rw [hz1]
      refine W.lcmp hx hb dL_law_528 ?_
      refine lv_if_eq (tgt := 534) hx hb dL_law_529 (by decide) (fun c_529 => ?_) (fun c_529 => ?_)
      · refine lv_goto (tgt := 799) hx hb dL_law_534 (by decide) ?_
        refine W.widen (k := cells + 8) (n := slots + 72) (by omega) (by omega) ?_
        exact kk _ _ _ ⟨m1, fO1, (LP, f, wv, n, d, cnt, ids), hH, hTie⟩ (lv_sub hl [2, 3, 4, 5, 6] rfl)
      · exact absurd (cmp_self _) c_529
  · exact absurd hq c_512
set_option maxHeartbeats 4000000 in
set_option maxRecDepth 100000 in
theorem law_c9 {p : Program} {l : Launch} {e : Env} {s : State} {m : MethodId} {below : List Frame} {meth : Method} {c : Code} {H : Heap} {locs : List Loc} {cells slots : Nat} {Q : State → Prop} {ls : Array Slot} {b L : Nat} {xs : Nat → Int32} {D : va_G} {y : Nat} {a : Nat → Nat} {cM : ClassId} {o : Nat} {cO : ClassId} {x u i g w : Nat} {cI cW : ClassId} (hLC : LC p l s m c b L xs) {k : Nat} (hk : k + 6 ≤ L) (hc9 : cells + 8 ≤ 601024) (hs9 : slots + 72 ≤ 7293034) (hI : LI D y a cM o cO x u i g w cI cW s H locs) (hl : lv_has ls 7 [(4, .int (nI k)), (0, .ref b), (1, .ref x), (2, .ref y), (3, .ref o)])
    (kk : ∀ (H : Heap) (locs : List Loc) (ls : Array Slot), LI D y a cM o cO x u i g w cI cW s H locs → lv_has ls 7 [(4, .int (nI k)), (0, .ref b), (1, .ref x), (2, .ref y), (3, .ref o)] → W p l e room_1 s m #[Value.ref b] below meth c H locs (cells + 8) (slots + 72) Q (F0 m 799 ls [])) : W p l e room_1 s m #[Value.ref b] below meth c H locs cells slots Q (F0 m 537 ls []) := by
  obtain ⟨S, hX, hbl, hL, hl9, hE0⟩ := id hLC
  obtain ⟨hx, hb, hml, hown, hg⟩ := id S
  obtain ⟨⟨n2, d2, th, A⟩, fO, ⟨LP, f, wv, n, d, cnt, ids⟩, hH, hT, e1, e2⟩ := hI
  dsimp only at e1 e2
  subst e1 e2
  have hF := hH.1
  have hn : n ≤ 512 ∧ d ≤ 1024 ∧ cnt ≤ 1536 := hF.2.2
  refine lv_aload_n hx hb dL_law_537 rfl (lv_at hl 2 rfl) ?_
  refine lv_aload_n hx hb dL_law_538 rfl (lv_at hl 1 rfl) ?_
  refine lv_iload hx hb dL_law_539 (lv_at hl 0 rfl) ?_
  refine lv_iconst (v := 1) hx hb dL_law_541 (by decide) ?_
  refine lv_iadd hx hb dL_law_542 ?_
  rw [show nI k + 1 = nI (k + 1) from nI_add k 1]
  refine ll_sld (k := k + 1) hLC hH.oo.S (by omega) dL_law_543 ?_
  refine lv_aload_n hx hb dL_law_544 rfl (lv_at hl 1 rfl) ?_
  refine lv_iload hx hb dL_law_545 (lv_at hl 0 rfl) ?_
  refine lv_iconst (v := 2) hx hb dL_law_547 (by decide) ?_
  refine lv_iadd hx hb dL_law_548 ?_
  rw [show nI k + 2 = nI (k + 2) from nI_add k 2]
  refine ll_sld (k := k + 2) hLC hH.oo.S (by omega) dL_law_549 ?_
  refine lv_aload_n hx hb dL_law_550 rfl (lv_at hl 4 rfl) ?_
  refine va_calli (runSW (As := [.ref x, .int (xs (k + 1)), .int (xs (k + 2)), .ref o]) (rest := []) (Bh := (fun U H9 => RdC D x u i g w n d cnt ids (adv wv) f U H9 ∧ EX H.size U H9 ∧ GPre D (wO o cO fO) [(cO, .long)] H.size U H9)) S (c_L_before hl9 (xs (k + 1)) (xs (k + 2))) (gw_SW wk_320 wk_321 wk_0 wk_322) rfl rfl 4 rfl (by decide +kernel) (by decide) ⟨by show _ ≤ 601024; omega, by show _ ≤ 7293034; omega⟩ (fun _ _ _ h q => ⟨RdC.mv h q.1, EX.mv h q.2.1, q.2.2.mv h⟩) ⟨hH.cc.rd, hLC.ex hH.oo.S, hH.oo.pre⟩ hl.1 (Nat.le_of_ble_eq_true rfl) dL_law_551) hH.oo.S (fun q _ h => hH.oo.free q h) hH.oo.free (fun r1 fO1 t8 H1 locs1 ht8 hvm8 hp1 hB8 hz8 hk8 hS8 => ?_)
  have hH := hH.backO ht8 hB8 hk8 hS8
  clear hS8 hB8 hz8 hk8 ht8 hvm8
  generalize H1 = H at hH ⊢
  generalize locs1 = locs at hH ⊢
  refine lv_istore (lv' := [(5, .int r1), (4, .int (nI k)), (0, .ref b), (1, .ref x), (2, .ref y), (3, .ref o)]) hx hb dL_law_554 hl (by decide) rfl (fun ls hl => ?_)
  refine lv_aload_n hx hb dL_law_556 rfl (lv_at hl 4 rfl) ?_
  refine lv_aload_n hx hb dL_law_557 rfl (lv_at hl 2 rfl) ?_
  refine lv_iload hx hb dL_law_558 (lv_at hl 1 rfl) ?_
  refine lv_iconst (v := 1) hx hb dL_law_560 (by decide) ?_
  refine lv_iadd hx hb dL_law_561 ?_
  rw [show nI k + 1 = nI (k + 1) from nI_add k 1]
  refine ll_sld (k := k + 1) hLC hH.oo.S (by omega) dL_law_562 ?_
  refine lv_aload_n hx hb dL_law_563 rfl (lv_at hl 2 rfl) ?_
  refine lv_iload hx hb dL_law_564 (lv_at hl 1 rfl) ?_
  refine lv_iconst (v := 2) hx hb dL_law_566 (by decide) ?_
  refine lv_iadd hx hb dL_law_567 ?_
  rw [show nI k + 2 = nI (k + 2) from nI_add k 2]
  refine ll_sld (k := k + 2) hLC hH.oo.S (by omega) dL_law_568 ?_
  obtain ⟨pp, hCo, _⟩ := hT.cor hn.2.1
  refine va_calli (runV (As := [.int (xs (k + 1)), .int (xs (k + 2))]) (rest := []) (Bh := MPre D y a cM n d th A H.size) S (c_X3_before l (xs (k + 1)) (xs (k + 2)) hCo) (gw_V wk_494 wk_495 wk_496 wk_4 wk_497) rfl rfl 2 rfl (by decide +kernel) (by decide) ⟨by show _ ≤ 601024; omega, by show _ ≤ 7293034; omega⟩ (fun _ _ _ h q => MPre.mv h q) hH.mm.rd.recv hH.mm.pre hl.1 (Nat.le_of_ble_eq_true rfl) dL_law_569) hH.mm.S (fun q _ h => hH.mm.free q h) hH.mm.free (fun r2 m1 t8 H1 locs1 ht8 hvm8 hp2 hB8 hz8 hk8 hS8 => ?_)
  have hH := hH.backM ht8 hB8 hk8 hS8
  clear hS8 hB8 hz8 hk8 ht8 hvm8
  generalize H1 = H at hH ⊢
  generalize locs1 = locs at hH ⊢
  obtain ⟨hq, hz0, hTie⟩ := law_before (LP := LP) hT hn.2.1 hn.1 hp1 hp2
  refine lv_istore (lv' := [(6, .int r2), (5, .int r1), (4, .int (nI k)), (0, .ref b), (1, .ref x), (2, .ref y), (3, .ref o)]) hx hb dL_law_572 hl (by decide) rfl (fun ls hl => ?_)
  refine lv_aload_n hx hb dL_law_574 rfl (lv_at hl 5 rfl) ?_
  refine vp_callSi (va_Run.run (runV (As := []) (rest := []) (Bh := RdM D y a m1.1 m1.2.1 m1.2.2.1 m1.2.2.2) S (c_X3_thrown l) (gw_V wk_389 wk_390 wk_391 wk_4 wk_392) rfl rfl 0 rfl (by decide +kernel) (by decide) ⟨by show _ ≤ 601024; omega, by show _ ≤ 7293034; omega⟩ (fun _ _ _ h q => RdM.mv h q) hH.mm.rd.recv hH.mm.rd hl.1 (Nat.le_of_ble_eq_true rfl) dL_law_575)) (fun r3 hp3 => ?_)
  subst hp3
  refine lv_iload hx hb dL_law_578 (lv_at hl 1 rfl) ?_
  refine lv_icmp_eq (tgt := 585) hx hb dL_law_580 (by decide) (fun c_580 => ?_) (fun c_580 => ?_)
  · refine lv_iload hx hb dL_law_585 (lv_at hl 1 rfl) ?_
    refine lv_if_ne (tgt := 609) hx hb dL_law_587 (by decide) (fun c_587 => ?_) (fun c_587 => ?_)
    · refine lv_goto (tgt := 799) hx hb dL_law_609 (by decide) ?_
      refine W.widen (k := cells + 8) (n := slots + 72) (by omega) (by omega) ?_
      exact kk _ _ _ ⟨m1, fO1, (LP, f, wv, n, d, cnt, ids), hH, hTie⟩ (lv_sub hl [2, 3, 4, 5, 6] rfl)
    · have hz1 := hz0 c_587
      refine lv_aload_n hx hb dL_law_590 rfl (lv_at hl 6 rfl) ?_
      refine lv_iconst (v := 0) hx hb dL_law_591 (by decide) ?_
      refine va_lald hx hb hH.oo.2.2.1 hH.oo.1 0 0 rfl rfl (by unfold vp_in; decide) dL_law_592 ?_
      rw [show (0 : Int32).toNatClampNeg = 0 by decide]
      refine lv_iload hx hb dL_law_593 (lv_at hl 0 rfl) ?_
      refine lv_if_eq (tgt := 602) hx hb dL_law_595 (by decide) (fun c_595 => ?_) (fun c_595 => ?_)
      · rw [c_595] at hz1
        refine lv_lconst (v := 0) hx hb dL_law_602 (by decide) ?_
        rw [hz1]
        refine W.lcmp hx hb dL_law_603 ?_
        refine lv_if_eq (tgt := 609) hx hb dL_law_604 (by decide) (fun c_604 => ?_) (fun c_604 => ?_)
        · refine lv_goto (tgt := 799) hx hb dL_law_609 (by decide) ?_
          refine W.widen (k := cells + 8) (n := slots + 72) (by omega) (by omega) ?_
          exact kk _ _ _ ⟨m1, fO1, (LP, f, wv, n, d, cnt, ids), hH, hTie⟩ (lv_sub hl [2, 3, 4, 5, 6] rfl)
        · exact absurd (show lg_cmp _ _ = 0 by decide) c_604
      · have c_595 : r2 = 1 := (law_before2 hp2 (hq.trans c_587)).resolve_right c_595
        rw [c_595] at hz1
        refine lv_lconst (v := 1) hx hb dL_law_598 (by decide) ?_
        refine lv_goto (tgt := 603) hx hb dL_law_599 (by decide) ?_
        rw [hz1]
        refine W.lcmp hx hb dL_law_603 ?_
        refine lv_if_eq (tgt := 609) hx hb dL_law_604 (by decide) (fun c_604 => ?_) (fun c_604 => ?_)
        · refine lv_goto (tgt := 799) hx hb dL_law_609 (by decide) ?_
          refine W.widen (k := cells + 8) (n := slots + 72) (by omega) (by omega) ?_
          exact kk _ _ _ ⟨m1, fO1, (LP, f, wv, n, d, cnt, ids), hH, hTie⟩ (lv_sub hl [2, 3, 4, 5, 6] rfl)
        · exact absurd (show lg_cmp _ _ = 0 by decide) c_604
  · exact absurd hq c_580
set_option maxHeartbeats 4000000 in
set_option maxRecDepth 100000 in
theorem law_c10 {p : Program} {l : Launch} {e : Env} {s : State} {m : MethodId} {below : List Frame} {meth : Method} {c : Code} {H : Heap} {locs : List Loc} {cells slots : Nat} {Q : State → Prop} {ls : Array Slot} {b L : Nat} {xs : Nat → Int32} {D : va_G} {y : Nat} {a : Nat → Nat} {cM : ClassId} {o : Nat} {cO : ClassId} {x u i g w : Nat} {cI cW : ClassId} (hLC : LC p l s m c b L xs) {k : Nat} (hk : k + 6 ≤ L) (hc9 : cells + 8 ≤ 601024) (hs9 : slots + 72 ≤ 7293034) (hI : LI D y a cM o cO x u i g w cI cW s H locs) (hl : lv_has ls 7 [(4, .int (nI k)), (0, .ref b), (1, .ref x), (2, .ref y), (3, .ref o)])
    (kk : ∀ (H : Heap) (locs : List Loc) (ls : Array Slot), LI D y a cM o cO x u i g w cI cW s H locs → lv_has ls 7 [(4, .int (nI k)), (0, .ref b), (1, .ref x), (2, .ref y), (3, .ref o)] → W p l e room_1 s m #[Value.ref b] below meth c H locs (cells + 8) (slots + 72) Q (F0 m 799 ls [])) : W p l e room_1 s m #[Value.ref b] below meth c H locs cells slots Q (F0 m 612 ls []) := by
  obtain ⟨S, hX, hbl, hL, hl9, hE0⟩ := id hLC
  obtain ⟨hx, hb, hml, hown, hg⟩ := id S
  obtain ⟨⟨n2, d2, th, A⟩, fO, ⟨LP, f, wv, n, d, cnt, ids⟩, hH, hT, e1, e2⟩ := hI
  dsimp only at e1 e2
  subst e1 e2
  have hF := hH.1
  have hn : n ≤ 512 ∧ d ≤ 1024 ∧ cnt ≤ 1536 := hF.2.2
  refine lv_aload_n hx hb dL_law_612 rfl (lv_at hl 2 rfl) ?_
  refine lv_aload_n hx hb dL_law_613 rfl (lv_at hl 1 rfl) ?_
  refine lv_iload hx hb dL_law_614 (lv_at hl 0 rfl) ?_
  refine lv_iconst (v := 1) hx hb dL_law_616 (by decide) ?_
  refine lv_iadd hx hb dL_law_617 ?_
  rw [show nI k + 1 = nI (k + 1) from nI_add k 1]
  refine ll_sld (k := k + 1) hLC hH.oo.S (by omega) dL_law_618 ?_
  refine lv_aload_n hx hb dL_law_619 rfl (lv_at hl 4 rfl) ?_
  refine va_calli (runSW (As := [.ref x, .int (xs (k + 1)), .ref o]) (rest := []) (Bh := (fun U H9 => RdC D x u i g w n d cnt ids (adv wv) f U H9 ∧ EX H.size U H9 ∧ GPre D (wO o cO fO) [(cO, .long)] H.size U H9)) S (c_L_row hl9 (xs (k + 1))) (gw_SW wk_327 wk_328 wk_0 wk_329) rfl rfl 3 rfl (by decide +kernel) (by decide) ⟨by show _ ≤ 601024; omega, by show _ ≤ 7293034; omega⟩ (fun _ _ _ h q => ⟨RdC.mv h q.1, EX.mv h q.2.1, q.2.2.mv h⟩) ⟨hH.cc.rd, hLC.ex hH.oo.S, hH.oo.pre⟩ hl.1 (Nat.le_of_ble_eq_true rfl) dL_law_620) hH.oo.S (fun q _ h => hH.oo.free q h) hH.oo.free (fun r1 fO1 t8 H1 locs1 ht8 hvm8 hp1 hB8 hz8 hk8 hS8 => ?_)
  have hH := hH.backO ht8 hB8 hk8 hS8
  clear hS8 hB8 hz8 hk8 ht8 hvm8
  generalize H1 = H at hH ⊢
  generalize locs1 = locs at hH ⊢
  refine lv_istore (lv' := [(5, .int r1), (4, .int (nI k)), (0, .ref b), (1, .ref x), (2, .ref y), (3, .ref o)]) hx hb dL_law_623 hl (by decide) rfl (fun ls hl => ?_)
  refine lv_aload_n hx hb dL_law_625 rfl (lv_at hl 4 rfl) ?_
  refine lv_aload_n hx hb dL_law_626 rfl (lv_at hl 2 rfl) ?_
  refine lv_iload hx hb dL_law_627 (lv_at hl 1 rfl) ?_
  refine lv_iconst (v := 1) hx hb dL_law_629 (by decide) ?_
  refine lv_iadd hx hb dL_law_630 ?_
  rw [show nI k + 1 = nI (k + 1) from nI_add k 1]
  refine ll_sld (k := k + 1) hLC hH.oo.S (by omega) dL_law_631 ?_
  obtain ⟨pp, hCo, _⟩ := hT.cor hn.2.1
  refine va_calli (runV (As := [.int (xs (k + 1))]) (rest := []) (Bh := MPre D y a cM n d th A H.size) S (c_X3_row l (xs (k + 1)) hCo) (gw_V wk_502 wk_503 wk_504 wk_4 wk_505) rfl rfl 1 rfl (by decide +kernel) (by decide) ⟨by show _ ≤ 601024; omega, by show _ ≤ 7293034; omega⟩ (fun _ _ _ h q => MPre.mv h q) hH.mm.rd.recv hH.mm.pre hl.1 (Nat.le_of_ble_eq_true rfl) dL_law_632) hH.mm.S (fun q _ h => hH.mm.free q h) hH.mm.free (fun r2 m1 t8 H1 locs1 ht8 hvm8 hp2 hB8 hz8 hk8 hS8 => ?_)
  have hH := hH.backM ht8 hB8 hk8 hS8
  clear hS8 hB8 hz8 hk8 ht8 hvm8
  generalize H1 = H at hH ⊢
  generalize locs1 = locs at hH ⊢
  obtain ⟨hq, hz0, hTie⟩ := law_row (LP := LP) hT hn.2.1 hn.1 hp1 hp2
  refine lv_istore (lv' := [(6, .int r2), (5, .int r1), (4, .int (nI k)), (0, .ref b), (1, .ref x), (2, .ref y), (3, .ref o)]) hx hb dL_law_635 hl (by decide) rfl (fun ls hl => ?_)
  refine lv_aload_n hx hb dL_law_637 rfl (lv_at hl 5 rfl) ?_
  refine vp_callSi (va_Run.run (runV (As := []) (rest := []) (Bh := RdM D y a m1.1 m1.2.1 m1.2.2.1 m1.2.2.2) S (c_X3_thrown l) (gw_V wk_389 wk_390 wk_391 wk_4 wk_392) rfl rfl 0 rfl (by decide +kernel) (by decide) ⟨by show _ ≤ 601024; omega, by show _ ≤ 7293034; omega⟩ (fun _ _ _ h q => RdM.mv h q) hH.mm.rd.recv hH.mm.rd hl.1 (Nat.le_of_ble_eq_true rfl) dL_law_638)) (fun r3 hp3 => ?_)
  subst hp3
  refine lv_iload hx hb dL_law_641 (lv_at hl 1 rfl) ?_
  refine lv_icmp_eq (tgt := 648) hx hb dL_law_643 (by decide) (fun c_643 => ?_) (fun c_643 => ?_)
  · refine lv_iload hx hb dL_law_648 (lv_at hl 1 rfl) ?_
    refine lv_if_ne (tgt := 665) hx hb dL_law_650 (by decide) (fun c_650 => ?_) (fun c_650 => ?_)
    · refine lv_goto (tgt := 799) hx hb dL_law_665 (by decide) ?_
      refine W.widen (k := cells + 8) (n := slots + 72) (by omega) (by omega) ?_
      exact kk _ _ _ ⟨m1, fO1, (LP, f, wv, n, d, cnt, ids), hH, hTie⟩ (lv_sub hl [2, 3, 4, 5, 6] rfl)
    · have hz1 := hz0 c_650
      refine lv_aload_n hx hb dL_law_653 rfl (lv_at hl 6 rfl) ?_
      refine lv_iconst (v := 0) hx hb dL_law_654 (by decide) ?_
      refine va_lald hx hb hH.oo.2.2.1 hH.oo.1 0 0 rfl rfl (by unfold vp_in; decide) dL_law_655 ?_
      rw [show (0 : Int32).toNatClampNeg = 0 by decide]
      refine lv_iload hx hb dL_law_656 (lv_at hl 0 rfl) ?_
      refine lv_i2l (v := r2.toInt64) hx hb dL_law_658 rfl ?_
      rw [hz1]
      refine W.lcmp hx hb dL_law_659 ?_
      refine lv_if_eq (tgt := 665) hx hb dL_law_660 (by decide) (fun c_660 => ?_) (fun c_660 => ?_)
      · refine lv_goto (tgt := 799) hx hb dL_law_665 (by decide) ?_
        refine W.widen (k := cells + 8) (n := slots + 72) (by omega) (by omega) ?_
        exact kk _ _ _ ⟨m1, fO1, (LP, f, wv, n, d, cnt, ids), hH, hTie⟩ (lv_sub hl [2, 3, 4, 5, 6] rfl)
      · exact absurd (cmp_self _) c_660
  · exact absurd hq c_643
set_option maxHeartbeats 4000000 in
set_option maxRecDepth 100000 in
theorem law_c11 {p : Program} {l : Launch} {e : Env} {s : State} {m : MethodId} {below : List Frame} {meth : Method} {c : Code} {H : Heap} {locs : List Loc} {cells slots : Nat} {Q : State → Prop} {ls : Array Slot} {b L : Nat} {xs : Nat → Int32} {D : va_G} {y : Nat} {a : Nat → Nat} {cM : ClassId} {o : Nat} {cO : ClassId} {x u i g w : Nat} {cI cW : ClassId} (hLC : LC p l s m c b L xs) {k : Nat} (hk : k + 6 ≤ L) (hc9 : cells + 8 ≤ 601024) (hs9 : slots + 72 ≤ 7293034) (hI : LI D y a cM o cO x u i g w cI cW s H locs) (hl : lv_has ls 7 [(4, .int (nI k)), (0, .ref b), (1, .ref x), (2, .ref y), (3, .ref o)])
    (kk : ∀ (H : Heap) (locs : List Loc) (ls : Array Slot), LI D y a cM o cO x u i g w cI cW s H locs → lv_has ls 7 [(4, .int (nI k)), (0, .ref b), (1, .ref x), (2, .ref y), (3, .ref o)] → W p l e room_1 s m #[Value.ref b] below meth c H locs (cells + 8) (slots + 72) Q (F0 m 799 ls [])) : W p l e room_1 s m #[Value.ref b] below meth c H locs cells slots Q (F0 m 668 ls []) := by
  obtain ⟨S, hX, hbl, hL, hl9, hE0⟩ := id hLC
  obtain ⟨hx, hb, hml, hown, hg⟩ := id S
  obtain ⟨⟨n2, d2, th, A⟩, fO, ⟨LP, f, wv, n, d, cnt, ids⟩, hH, hT, e1, e2⟩ := hI
  dsimp only at e1 e2
  subst e1 e2
  have hF := hH.1
  have hn : n ≤ 512 ∧ d ≤ 1024 ∧ cnt ≤ 1536 := hF.2.2
  refine lv_aload_n hx hb dL_law_668 rfl (lv_at hl 2 rfl) ?_
  refine lv_aload_n hx hb dL_law_669 rfl (lv_at hl 1 rfl) ?_
  refine lv_iload hx hb dL_law_670 (lv_at hl 0 rfl) ?_
  refine lv_iconst (v := 1) hx hb dL_law_672 (by decide) ?_
  refine lv_iadd hx hb dL_law_673 ?_
  rw [show nI k + 1 = nI (k + 1) from nI_add k 1]
  refine ll_sld (k := k + 1) hLC hH.oo.S (by omega) dL_law_674 ?_
  refine lv_aload_n hx hb dL_law_675 rfl (lv_at hl 1 rfl) ?_
  refine lv_iload hx hb dL_law_676 (lv_at hl 0 rfl) ?_
  refine lv_iconst (v := 2) hx hb dL_law_678 (by decide) ?_
  refine lv_iadd hx hb dL_law_679 ?_
  rw [show nI k + 2 = nI (k + 2) from nI_add k 2]
  refine ll_sld (k := k + 2) hLC hH.oo.S (by omega) dL_law_680 ?_
  refine lv_aload_n hx hb dL_law_681 rfl (lv_at hl 4 rfl) ?_
  refine va_calli (runSW (As := [.ref x, .int (xs (k + 1)), .int (xs (k + 2)), .ref o]) (rest := []) (Bh := (fun U H9 => RdC D x u i g w n d cnt ids (adv wv) f U H9 ∧ EX H.size U H9 ∧ GPre D (wO o cO fO) [(cO, .long)] H.size U H9)) S (c_L_of hl9 (xs (k + 1)) (xs (k + 2))) (gw_SW wk_335 wk_336 wk_0 wk_337) rfl rfl 4 rfl (by decide +kernel) (by decide) ⟨by show _ ≤ 601024; omega, by show _ ≤ 7293034; omega⟩ (fun _ _ _ h q => ⟨RdC.mv h q.1, EX.mv h q.2.1, q.2.2.mv h⟩) ⟨hH.cc.rd, hLC.ex hH.oo.S, hH.oo.pre⟩ hl.1 (Nat.le_of_ble_eq_true rfl) dL_law_682) hH.oo.S (fun q _ h => hH.oo.free q h) hH.oo.free (fun r1 fO1 t8 H1 locs1 ht8 hvm8 hp1 hB8 hz8 hk8 hS8 => ?_)
  have hH := hH.backO ht8 hB8 hk8 hS8
  clear hS8 hB8 hz8 hk8 ht8 hvm8
  generalize H1 = H at hH ⊢
  generalize locs1 = locs at hH ⊢
  refine lv_istore (lv' := [(5, .int r1), (4, .int (nI k)), (0, .ref b), (1, .ref x), (2, .ref y), (3, .ref o)]) hx hb dL_law_685 hl (by decide) rfl (fun ls hl => ?_)
  refine lv_aload_n hx hb dL_law_687 rfl (lv_at hl 4 rfl) ?_
  refine lv_aload_n hx hb dL_law_688 rfl (lv_at hl 2 rfl) ?_
  refine lv_iload hx hb dL_law_689 (lv_at hl 1 rfl) ?_
  refine lv_iconst (v := 1) hx hb dL_law_691 (by decide) ?_
  refine lv_iadd hx hb dL_law_692 ?_
  rw [show nI k + 1 = nI (k + 1) from nI_add k 1]
  refine ll_sld (k := k + 1) hLC hH.oo.S (by omega) dL_law_693 ?_
  refine lv_aload_n hx hb dL_law_694 rfl (lv_at hl 2 rfl) ?_
  refine lv_iload hx hb dL_law_695 (lv_at hl 1 rfl) ?_
  refine lv_iconst (v := 2) hx hb dL_law_697 (by decide) ?_
  refine lv_iadd hx hb dL_law_698 ?_
  rw [show nI k + 2 = nI (k + 2) from nI_add k 2]
  refine ll_sld (k := k + 2) hLC hH.oo.S (by omega) dL_law_699 ?_
  refine va_calli (runV (As := [.int (xs (k + 1)), .int (xs (k + 2))]) (rest := []) (Bh := MPre D y a cM n d th A H.size) S (c_X3_of l (xs (k + 1)) (xs (k + 2)) (TA.A0 (LP := LP) hT)) (gw_V wk_506 wk_507 wk_508 wk_4 wk_509) rfl rfl 2 rfl (by decide +kernel) (by decide) ⟨by show _ ≤ 601024; omega, by show _ ≤ 7293034; omega⟩ (fun _ _ _ h q => MPre.mv h q) hH.mm.rd.recv hH.mm.pre hl.1 (Nat.le_of_ble_eq_true rfl) dL_law_700) hH.mm.S (fun q _ h => hH.mm.free q h) hH.mm.free (fun r2 m1 t8 H1 locs1 ht8 hvm8 hp2 hB8 hz8 hk8 hS8 => ?_)
  have hH := hH.backM ht8 hB8 hk8 hS8
  clear hS8 hB8 hz8 hk8 ht8 hvm8
  generalize H1 = H at hH ⊢
  generalize locs1 = locs at hH ⊢
  obtain ⟨hq, hz0, hTie⟩ := law_of (LP := LP) hT hn.2.1 hn.1 hp1 hp2
  refine lv_istore (lv' := [(6, .int r2), (5, .int r1), (4, .int (nI k)), (0, .ref b), (1, .ref x), (2, .ref y), (3, .ref o)]) hx hb dL_law_703 hl (by decide) rfl (fun ls hl => ?_)
  refine lv_aload_n hx hb dL_law_705 rfl (lv_at hl 5 rfl) ?_
  refine vp_callSi (va_Run.run (runV (As := []) (rest := []) (Bh := RdM D y a m1.1 m1.2.1 m1.2.2.1 m1.2.2.2) S (c_X3_thrown l) (gw_V wk_389 wk_390 wk_391 wk_4 wk_392) rfl rfl 0 rfl (by decide +kernel) (by decide) ⟨by show _ ≤ 601024; omega, by show _ ≤ 7293034; omega⟩ (fun _ _ _ h q => RdM.mv h q) hH.mm.rd.recv hH.mm.rd hl.1 (Nat.le_of_ble_eq_true rfl) dL_law_706)) (fun r3 hp3 => ?_)
  subst hp3
  refine lv_iload hx hb dL_law_709 (lv_at hl 1 rfl) ?_
  refine lv_icmp_eq (tgt := 716) hx hb dL_law_711 (by decide) (fun c_711 => ?_) (fun c_711 => ?_)
  · refine lv_iload hx hb dL_law_716 (lv_at hl 1 rfl) ?_
    refine lv_if_ne (tgt := 733) hx hb dL_law_718 (by decide) (fun c_718 => ?_) (fun c_718 => ?_)
    · refine lv_goto (tgt := 799) hx hb dL_law_733 (by decide) ?_
      refine W.widen (k := cells + 8) (n := slots + 72) (by omega) (by omega) ?_
      exact kk _ _ _ ⟨m1, fO1, (LP, f, wv, n, d, cnt, ids), hH, hTie⟩ (lv_sub hl [2, 3, 4, 5, 6] rfl)
    · have hz1 := hz0 c_718
      refine lv_aload_n hx hb dL_law_721 rfl (lv_at hl 6 rfl) ?_
      refine lv_iconst (v := 0) hx hb dL_law_722 (by decide) ?_
      refine va_lald hx hb hH.oo.2.2.1 hH.oo.1 0 0 rfl rfl (by unfold vp_in; decide) dL_law_723 ?_
      rw [show (0 : Int32).toNatClampNeg = 0 by decide]
      refine lv_iload hx hb dL_law_724 (lv_at hl 0 rfl) ?_
      refine lv_i2l (v := r2.toInt64) hx hb dL_law_726 rfl ?_
      rw [hz1]
      refine W.lcmp hx hb dL_law_727 ?_
      refine lv_if_eq (tgt := 733) hx hb dL_law_728 (by decide) (fun c_728 => ?_) (fun c_728 => ?_)
      · refine lv_goto (tgt := 799) hx hb dL_law_733 (by decide) ?_
        refine W.widen (k := cells + 8) (n := slots + 72) (by omega) (by omega) ?_
        exact kk _ _ _ ⟨m1, fO1, (LP, f, wv, n, d, cnt, ids), hH, hTie⟩ (lv_sub hl [2, 3, 4, 5, 6] rfl)
      · exact absurd (cmp_self _) c_728
  · exact absurd hq c_711
set_option maxHeartbeats 4000000 in
set_option maxRecDepth 100000 in
theorem law_c12 {p : Program} {l : Launch} {e : Env} {s : State} {m : MethodId} {below : List Frame} {meth : Method} {c : Code} {H : Heap} {locs : List Loc} {cells slots : Nat} {Q : State → Prop} {ls : Array Slot} {b L : Nat} {xs : Nat → Int32} {D : va_G} {y : Nat} {a : Nat → Nat} {cM : ClassId} {o : Nat} {cO : ClassId} {x u i g w : Nat} {cI cW : ClassId} (hLC : LC p l s m c b L xs) {k : Nat} (hk : k + 6 ≤ L) (hc9 : cells + 8 ≤ 601024) (hs9 : slots + 72 ≤ 7293034) (hI : LI D y a cM o cO x u i g w cI cW s H locs) (hl : lv_has ls 7 [(4, .int (nI k)), (0, .ref b), (1, .ref x), (2, .ref y), (3, .ref o)])
    (kk : ∀ (H : Heap) (locs : List Loc) (ls : Array Slot), LI D y a cM o cO x u i g w cI cW s H locs → lv_has ls 7 [(4, .int (nI k)), (0, .ref b), (1, .ref x), (2, .ref y), (3, .ref o)] → W p l e room_1 s m #[Value.ref b] below meth c H locs (cells + 8) (slots + 72) Q (F0 m 799 ls [])) : W p l e room_1 s m #[Value.ref b] below meth c H locs cells slots Q (F0 m 736 ls []) := by
  obtain ⟨S, hX, hbl, hL, hl9, hE0⟩ := id hLC
  obtain ⟨hx, hb, hml, hown, hg⟩ := id S
  obtain ⟨⟨n2, d2, th, A⟩, fO, ⟨LP, f, wv, n, d, cnt, ids⟩, hH, hT, e1, e2⟩ := hI
  dsimp only at e1 e2
  subst e1 e2
  have hF := hH.1
  have hn : n ≤ 512 ∧ d ≤ 1024 ∧ cnt ≤ 1536 := hF.2.2
  refine lv_aload_n hx hb dL_law_736 rfl (lv_at hl 2 rfl) ?_
  refine lv_aload_n hx hb dL_law_737 rfl (lv_at hl 1 rfl) ?_
  refine lv_iload hx hb dL_law_738 (lv_at hl 0 rfl) ?_
  refine lv_iconst (v := 1) hx hb dL_law_740 (by decide) ?_
  refine lv_iadd hx hb dL_law_741 ?_
  rw [show nI k + 1 = nI (k + 1) from nI_add k 1]
  refine ll_sld (k := k + 1) hLC hH.oo.S (by omega) dL_law_742 ?_
  refine lv_aload_n hx hb dL_law_743 rfl (lv_at hl 1 rfl) ?_
  refine lv_iload hx hb dL_law_744 (lv_at hl 0 rfl) ?_
  refine lv_iconst (v := 2) hx hb dL_law_746 (by decide) ?_
  refine lv_iadd hx hb dL_law_747 ?_
  rw [show nI k + 2 = nI (k + 2) from nI_add k 2]
  refine ll_sld (k := k + 2) hLC hH.oo.S (by omega) dL_law_748 ?_
  refine vp_callSl (va_Run.run (runV (As := [.int (xs (k + 1)), .int (xs (k + 2))]) (rest := []) (Bh := RdC D x u i g w n d cnt ids (adv wv) f) S (c_X2_sum l (xs (k + 1)) (xs (k + 2))) (gw_V wk_197 wk_198 wk_199 wk_1 wk_200) rfl rfl 2 rfl (by decide +kernel) (by decide) ⟨by show _ ≤ 601024; omega, by show _ ≤ 7293034; omega⟩ (fun _ _ _ h q => RdC.mv h q) hH.cc.rd.recv hH.cc.rd hl.1 (Nat.le_of_ble_eq_true rfl) dL_law_749)) (fun r1 hp1 => ?_)
  refine lv_aload_n hx hb dL_law_752 rfl (lv_at hl 3 rfl) ?_
  refine lv_aload_n hx hb dL_law_753 rfl (lv_at hl 1 rfl) ?_
  refine lv_iload hx hb dL_law_754 (lv_at hl 0 rfl) ?_
  refine lv_iconst (v := 1) hx hb dL_law_756 (by decide) ?_
  refine lv_iadd hx hb dL_law_757 ?_
  rw [show nI k + 1 = nI (k + 1) from nI_add k 1]
  refine ll_sld (k := k + 1) hLC hH.oo.S (by omega) dL_law_758 ?_
  refine lv_aload_n hx hb dL_law_759 rfl (lv_at hl 1 rfl) ?_
  refine lv_iload hx hb dL_law_760 (lv_at hl 0 rfl) ?_
  refine lv_iconst (v := 2) hx hb dL_law_762 (by decide) ?_
  refine lv_iadd hx hb dL_law_763 ?_
  rw [show nI k + 2 = nI (k + 2) from nI_add k 2]
  refine ll_sld (k := k + 2) hLC hH.oo.S (by omega) dL_law_764 ?_
  obtain ⟨pp, hCo, _⟩ := hT.cor hn.2.1
  refine va_calll (runV (As := [.int (xs (k + 1)), .int (xs (k + 2))]) (rest := [.long r1]) (Bh := MPre D y a cM n d th A H.size) S (c_X3_sum l (KD := fun k => f (adv wv k) 7) (VL := fun k => f (adv wv k) 8) (xs (k + 1)) (xs (k + 2)) hCo (fun k hk r hr => (hT.of hk).2.1 r hr) (fun k hk r hr => (hT.of hk).2.2 r hr)) (gw_V wk_514 wk_515 wk_516 wk_4 wk_517) rfl rfl 2 rfl (by decide +kernel) (by decide) ⟨by show _ ≤ 601024; omega, by show _ ≤ 7293034; omega⟩ (fun _ _ _ h q => MPre.mv h q) hH.mm.rd.recv hH.mm.pre hl.1 (Nat.le_of_ble_eq_true rfl) dL_law_765) hH.mm.S (fun q _ h => hH.mm.free q h) hH.mm.free (fun r2 m1 t8 H1 locs1 ht8 hvm8 hp2 hB8 hz8 hk8 hS8 => ?_)
  have hH := hH.backM ht8 hB8 hk8 hS8
  clear hS8 hB8 hz8 hk8 ht8 hvm8
  generalize H1 = H at hH ⊢
  generalize locs1 = locs at hH ⊢
  obtain ⟨hq, hTie⟩ := law_sum hT hp1 hp2
  subst hq
  refine W.lcmp hx hb dL_law_768 ?_
  refine lv_if_eq (tgt := 799) hx hb dL_law_769 (by decide) (fun c_769 => ?_) (fun c_769 => ?_)
  · refine W.widen (k := cells + 8) (n := slots + 72) (by omega) (by omega) ?_
    exact kk _ _ _ ⟨m1, _, (LP, f, wv, n, d, cnt, ids), hH, hTie⟩ (lv_sub hl [0, 1, 2, 3, 4] rfl)
  · exact absurd (cmp_self _) c_769
set_option maxHeartbeats 4000000 in
set_option maxRecDepth 100000 in
theorem law_c13 {p : Program} {l : Launch} {e : Env} {s : State} {m : MethodId} {below : List Frame} {meth : Method} {c : Code} {H : Heap} {locs : List Loc} {cells slots : Nat} {Q : State → Prop} {ls : Array Slot} {b L : Nat} {xs : Nat → Int32} {D : va_G} {y : Nat} {a : Nat → Nat} {cM : ClassId} {o : Nat} {cO : ClassId} {x u i g w : Nat} {cI cW : ClassId} (hLC : LC p l s m c b L xs) {k : Nat} (hk : k + 6 ≤ L) (hc9 : cells + 8 ≤ 601024) (hs9 : slots + 72 ≤ 7293034) (hI : LI D y a cM o cO x u i g w cI cW s H locs) (hl : lv_has ls 7 [(4, .int (nI k)), (0, .ref b), (1, .ref x), (2, .ref y), (3, .ref o)])
    (kk : ∀ (H : Heap) (locs : List Loc) (ls : Array Slot), LI D y a cM o cO x u i g w cI cW s H locs → lv_has ls 7 [(4, .int (nI k)), (0, .ref b), (1, .ref x), (2, .ref y), (3, .ref o)] → W p l e room_1 s m #[Value.ref b] below meth c H locs (cells + 8) (slots + 72) Q (F0 m 799 ls [])) : W p l e room_1 s m #[Value.ref b] below meth c H locs cells slots Q (F0 m 774 ls []) := by
  obtain ⟨S, hX, hbl, hL, hl9, hE0⟩ := id hLC
  obtain ⟨hx, hb, hml, hown, hg⟩ := id S
  obtain ⟨⟨n2, d2, th, A⟩, fO, ⟨LP, f, wv, n, d, cnt, ids⟩, hH, hT, e1, e2⟩ := hI
  dsimp only at e1 e2
  subst e1 e2
  have hF := hH.1
  have hn : n ≤ 512 ∧ d ≤ 1024 ∧ cnt ≤ 1536 := hF.2.2
  refine lv_aload_n hx hb dL_law_774 rfl (lv_at hl 2 rfl) ?_
  refine lv_aload_n hx hb dL_law_775 rfl (lv_at hl 1 rfl) ?_
  refine lv_iload hx hb dL_law_776 (lv_at hl 0 rfl) ?_
  refine lv_iconst (v := 1) hx hb dL_law_778 (by decide) ?_
  refine lv_iadd hx hb dL_law_779 ?_
  rw [show nI k + 1 = nI (k + 1) from nI_add k 1]
  refine ll_sld (k := k + 1) hLC hH.oo.S (by omega) dL_law_780 ?_
  refine vp_callSi (va_Run.run (runV (As := [.int (xs (k + 1))]) (rest := []) (Bh := RdC D x u i g w n d cnt ids (adv wv) f) S (c_X2_look l (xs (k + 1))) (gw_V wk_201 wk_202 wk_203 wk_1 wk_204) rfl rfl 1 rfl (by decide +kernel) (by decide) ⟨by show _ ≤ 601024; omega, by show _ ≤ 7293034; omega⟩ (fun _ _ _ h q => RdC.mv h q) hH.cc.rd.recv hH.cc.rd hl.1 (Nat.le_of_ble_eq_true rfl) dL_law_781)) (fun r1 hp1 => ?_)
  refine lv_aload_n hx hb dL_law_784 rfl (lv_at hl 3 rfl) ?_
  refine lv_aload_n hx hb dL_law_785 rfl (lv_at hl 1 rfl) ?_
  refine lv_iload hx hb dL_law_786 (lv_at hl 0 rfl) ?_
  refine lv_iconst (v := 1) hx hb dL_law_788 (by decide) ?_
  refine lv_iadd hx hb dL_law_789 ?_
  rw [show nI k + 1 = nI (k + 1) from nI_add k 1]
  refine ll_sld (k := k + 1) hLC hH.oo.S (by omega) dL_law_790 ?_
  obtain ⟨dep, hdep, hdp⟩ := hT.deep
  refine va_calli (runV (As := [.int (xs (k + 1))]) (rest := [.int r1]) (Bh := MPre D y a cM n d th A H.size) S (c_X3_look l (xs (k + 1)) dep hdep) (gw_V wk_518 wk_519 wk_520 wk_4 wk_521) rfl rfl 1 rfl (by decide +kernel) (by decide) ⟨by show _ ≤ 601024; omega, by show _ ≤ 7293034; omega⟩ (fun _ _ _ h q => MPre.mv h q) hH.mm.rd.recv hH.mm.pre hl.1 (Nat.le_of_ble_eq_true rfl) dL_law_791) hH.mm.S (fun q _ h => hH.mm.free q h) hH.mm.free (fun r2 m1 t8 H1 locs1 ht8 hvm8 hp2 hB8 hz8 hk8 hS8 => ?_)
  have hH := hH.backM ht8 hB8 hk8 hS8
  clear hS8 hB8 hz8 hk8 ht8 hvm8
  generalize H1 = H at hH ⊢
  generalize locs1 = locs at hH ⊢
  obtain ⟨hq, hTie⟩ := law_look (LP := LP) hT hn.2.1 hn.1 hdp hp1 hp2
  subst hq
  refine lv_icmp_eq (tgt := 799) hx hb dL_law_794 (by decide) (fun c_794 => ?_) (fun c_794 => ?_)
  · refine W.widen (k := cells + 8) (n := slots + 72) (by omega) (by omega) ?_
    exact kk _ _ _ ⟨m1, _, (LP, f, wv, n, d, cnt, ids), hH, hTie⟩ (lv_sub hl [0, 1, 2, 3, 4] rfl)
  · exact absurd rfl c_794
