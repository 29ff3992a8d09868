/-! views for reading: what a heap holds of the class and of the reference -/
theorem va_one {D : va_G} {cl : List vw_C} {q : Nat × va_E} {H : Heap} (h : va_at D cl q H) : va_P D cl [q] H := fun k q' hk => by
  match k, hk with
  | 0, hk => cases hk; exact h
  | k + 1, hk => simp at hk
def eF (f : Nat → Int32) : List Value := [.int (f 0), .int (f 1), .int (f 2), .int (f 3), .int (f 4), .int (f 5), .int (f 6), .int (f 7), .int (f 8)]
theorem eF_at (f : Nat → Int32) {j : Nat} (hj : j < 9) : (eF f)[j]? = some (.int (f j)) := by
  match j, hj with
  | 0, _ => rfl
  | 1, _ => rfl
  | 2, _ => rfl
  | 3, _ => rfl
  | 4, _ => rfl
  | 5, _ => rfl
  | 6, _ => rfl
  | 7, _ => rfl
  | 8, _ => rfl
def RdE (D : va_G) (b : Nat) (fv : Nat → Int32) (U : State) (H : Heap) : Prop := va_at D cl_ (b, .inr (0, eF fv)) H ∧ va_K D cl_ [] U
def RdU (D : va_G) (u i cnt : Nat) (ids : Nat → Int32) (U : State) (H : Heap) : Prop :=
  ∃ cI : ClassId, va_at D cl_ (u, .inr (1, [.ref i, .int (nI cnt)])) H ∧ va_at D cl_ (i, .inl (cI, 1536, .inl ids)) H ∧ va_K D cl_ [(cI, .int)] U ∧ cnt ≤ 1536
def RdC (D : va_G) (x u i g w n c cnt : Nat) (ids : Nat → Int32) (ad : Nat → Nat) (f : Nat → Nat → Int32) (U : State) (H : Heap) : Prop :=
  ∃ (cI cW : ClassId) (wv : Nat → Option Nat),
    va_at D cl_ (x, .inr (2, [.ref u, .ref g, .ref w, .int (nI n), .int (nI c)])) H ∧ va_at D cl_ (u, .inr (1, [.ref i, .int (nI cnt)])) H ∧ va_at D cl_ (i, .inl (cI, 1536, .inl ids)) H ∧
    va_at D cl_ (w, .inl (cW, 512, .inr (.inr (.inr (.inr wv))))) H ∧ va_at D cl_ (g, .inr (0, eF (f g))) H ∧ (∀ k, k < n → wv k = some (ad k) ∧ va_at D cl_ (ad k, .inr (0, eF (f (ad k)))) H) ∧
    va_K D cl_ [(cI, .int), (cW, .object RX0)] U ∧ NW U ∧ n ≤ 512 ∧ c ≤ 1024 ∧ cnt ≤ 1536
/-- the sizes of the reference's arrays: ids, behinds, kinds, values; doneIds, doneOf, doneKinds, doneValues; order, stack -/
def szM (j : Nat) : Nat := if 4 ≤ j ∧ j < 8 then 1024 else 512
def fM (a : Nat → Nat) (n d : Nat) (th : Int32) : List Value := [.int th, .int (nI n), .ref (a 0), .ref (a 1), .ref (a 2), .ref (a 3), .int (nI d), .ref (a 4), .ref (a 5), .ref (a 6), .ref (a 7), .ref (a 8), .ref (a 9)]
def RdM (D : va_G) (y : Nat) (a : Nat → Nat) (n d : Nat) (th : Int32) (A : Nat → Nat → Int32) (U : State) (H : Heap) : Prop :=
  ∃ cI : ClassId, va_at D cl_ (y, .inr (3, fM a n d th)) H ∧ (∀ j, j < 10 → va_at D cl_ (a j, .inl (cI, szM j, .inl (A j))) H) ∧ va_K D cl_ [(cI, .int)] U ∧ n ≤ 512 ∧ d ≤ 1024
theorem RdE.mv {D : va_G} {b : Nat} {fv : Nat → Int32} {u U : State} {H : Heap} (hW : u.WarmedH U.vm) (h : RdE D b fv u H) : RdE D b fv U H := ⟨h.1, va_K.moved hW.alike h.2⟩
theorem RdU.mv {D : va_G} {u i cnt : Nat} {ids : Nat → Int32} {t U : State} {H : Heap} (hW : t.WarmedH U.vm) (h : RdU D u i cnt ids t H) : RdU D u i cnt ids U H := by
  obtain ⟨cI, h1, h2, h3, h4⟩ := h
  exact ⟨cI, h1, h2, va_K.moved hW.alike h3, h4⟩
theorem RdC.mv {D : va_G} {x u i g w n c cnt : Nat} {ids : Nat → Int32} {ad : Nat → Nat} {f : Nat → Nat → Int32} {t U : State} {H : Heap} (hW : t.WarmedH U.vm) (h : RdC D x u i g w n c cnt ids ad f t H) : RdC D x u i g w n c cnt ids ad f U H := by
  obtain ⟨cI, cW, wv, h1, h2, h3, h4, h5, h6, h7, h8, h9⟩ := h
  exact ⟨cI, cW, wv, h1, h2, h3, h4, h5, h6, va_K.moved hW.alike h7, NW.warm hW h8, h9⟩
theorem RdM.mv {D : va_G} {y : Nat} {a : Nat → Nat} {n d : Nat} {th : Int32} {A : Nat → Nat → Int32} {t U : State} {H : Heap} (hW : t.WarmedH U.vm) (h : RdM D y a n d th A t H) : RdM D y a n d th A U H := by
  obtain ⟨cI, h1, h2, h3, h4⟩ := h
  exact ⟨cI, h1, h2, va_K.moved hW.alike h3, h4⟩
theorem RdC.U {D : va_G} {x u i g w n c cnt : Nat} {ids : Nat → Int32} {ad : Nat → Nat} {f : Nat → Nat → Int32} {t : State} {H : Heap} (h : RdC D x u i g w n c cnt ids ad f t H) : RdU D u i cnt ids t H := by
  obtain ⟨cI, cW, wv, h1, h2, h3, h4, h5, h6, h7, h8, h9, h10, h11⟩ := h
  exact ⟨cI, h2, h3, h7.sub [0] rfl, h11⟩
theorem RdC.E {D : va_G} {x u i g w n c cnt : Nat} {ids : Nat → Int32} {ad : Nat → Nat} {f : Nat → Nat → Int32} {t : State} {H : Heap} (h : RdC D x u i g w n c cnt ids ad f t H) {b : Nat} (hb : b = g ∨ ∃ k, k < n ∧ b = ad k) : RdE D b (f b) t H := by
  obtain ⟨cI, cW, wv, h1, h2, h3, h4, h5, h6, h7, h8⟩ := h
  rcases hb with rfl | ⟨k, hk, rfl⟩
  · exact ⟨h5, h7.sub [] rfl⟩
  · exact ⟨(h6 k hk).2, h7.sub [] rfl⟩
theorem RdC.n {D : va_G} {x u i g w n c cnt : Nat} {ids : Nat → Int32} {ad : Nat → Nat} {f : Nat → Nat → Int32} {t : State} {H : Heap} (h : RdC D x u i g w n c cnt ids ad f t H) : n ≤ 512 ∧ c ≤ 1024 ∧ cnt ≤ 1536 := by
  obtain ⟨cI, cW, wv, h1, h2, h3, h4, h5, h6, h7, h8, h9⟩ := h
  exact h9
theorem RdM.n {D : va_G} {y : Nat} {a : Nat → Nat} {n d : Nat} {th : Int32} {A : Nat → Nat → Int32} {t : State} {H : Heap} (h : RdM D y a n d th A t H) : n ≤ 512 ∧ d ≤ 1024 := by
  obtain ⟨cI, h1, h2, h3, h4⟩ := h
  exact h4
theorem RdC.recv {D : va_G} {x u i g w n c cnt : Nat} {ids : Nat → Int32} {ad : Nat → Nat} {f : Nat → Nat → Int32} {t : State} {H : Heap} (h : RdC D x u i g w n c cnt ids ad f t H) : ∃ cell : Cell, H[x]? = some cell ∧ cell.vm.isStatics = false ∧ t.vm.findClass RX2 = some cell.cls := by
  obtain ⟨cI, cW, wv, h1, h2, h3, h4, h5, h6, h7, h8⟩ := h
  exact va_recv h7 (va_one h1) (ci := 2) (q0 := 0) rfl rfl
theorem RdU.recv {D : va_G} {u i cnt : Nat} {ids : Nat → Int32} {t : State} {H : Heap} (h : RdU D u i cnt ids t H) : ∃ cell : Cell, H[u]? = some cell ∧ cell.vm.isStatics = false ∧ t.vm.findClass RX1 = some cell.cls := by
  obtain ⟨cI, h1, h2, h3, h4⟩ := h
  exact va_recv h3 (va_one h1) (ci := 1) (q0 := 0) rfl rfl
theorem RdE.recv {D : va_G} {b : Nat} {fv : Nat → Int32} {t : State} {H : Heap} (h : RdE D b fv t H) : ∃ cell : Cell, H[b]? = some cell ∧ cell.vm.isStatics = false ∧ t.vm.findClass RX0 = some cell.cls := va_recv h.2 (va_one h.1) (ci := 0) (q0 := 0) rfl rfl
theorem RdM.recv {D : va_G} {y : Nat} {a : Nat → Nat} {n d : Nat} {th : Int32} {A : Nat → Nat → Int32} {t : State} {H : Heap} (h : RdM D y a n d th A t H) : ∃ cell : Cell, H[y]? = some cell ∧ cell.vm.isStatics = false ∧ t.vm.findClass RX3 = some cell.cls := by
  obtain ⟨cI, h1, h2, h3, h4⟩ := h
  exact va_recv h3 (va_one h1) (ci := 3) (q0 := 0) rfl rfl
section RD
variable {p : Program} {l : Launch} {e : Env} {R : Room} {s : State} {m : MethodId} {args : Array Value} {below : List Frame} {meth : Method} {c : Code} {H : Heap} {locs : List Loc} {cells slots : Nat} {Q : State → Prop} {cc : ByteArray} {nL pc : Nat} {ls : Array Slot} {rest : List Value} {D : va_G}
theorem rC_used (S : CallFix p m c cc nL s args gw RX2) {x u i g w n cn cnt : Nat} {ids : Nat → Int32} {ad : Nat → Nat} {f : Nat → Nat → Int32} (hC : RdC D x u i g w n cn cnt ids ad f s H) (hdg : decode cc pc = .ok (.getfield 10, 3)) (kk : W p l e R s m args below meth c H locs cells slots Q (F0 m (pc + 3) ls (.ref u :: rest))) : W p l e R s m args below meth c H locs cells slots Q (F0 m pc ls (.ref x :: rest)) := by
  obtain ⟨hx, hb, hml, hown, hg⟩ := S
  obtain ⟨cI, cW, wv, h1, h2, h3, h4, h5, h6, hK, h8, h9, h10, h11⟩ := hC
  exact va_get (D := D) (ci := 2) (C := RX2) (T := TX2) (N := 5) hx hb hg inX2 hown hK (va_one h1) 0 rfl rfl 0 (by decide) (hg _ wk_78) (fun _ h9 => h9) rfl hdg kk
theorem rC_beginning (S : CallFix p m c cc nL s args gw RX2) {x u i g w n cn cnt : Nat} {ids : Nat → Int32} {ad : Nat → Nat} {f : Nat → Nat → Int32} (hC : RdC D x u i g w n cn cnt ids ad f s H) (hdg : decode cc pc = .ok (.getfield 21, 3)) (kk : W p l e R s m args below meth c H locs cells slots Q (F0 m (pc + 3) ls (.ref g :: rest))) : W p l e R s m args below meth c H locs cells slots Q (F0 m pc ls (.ref x :: rest)) := by
  obtain ⟨hx, hb, hml, hown, hg⟩ := S
  obtain ⟨cI, cW, wv, h1, h2, h3, h4, h5, h6, hK, h8, h9, h10, h11⟩ := hC
  exact va_get (D := D) (ci := 2) (C := RX2) (T := TX2) (N := 5) hx hb hg inX2 hown hK (va_one h1) 0 rfl rfl 1 (by decide) (hg _ wk_79) (fun _ h9 => h9) rfl hdg kk
theorem rC_woven (S : CallFix p m c cc nL s args gw RX2) {x u i g w n cn cnt : Nat} {ids : Nat → Int32} {ad : Nat → Nat} {f : Nat → Nat → Int32} (hC : RdC D x u i g w n cn cnt ids ad f s H) (hdg : decode cc pc = .ok (.getfield 25, 3)) (kk : W p l e R s m args below meth c H locs cells slots Q (F0 m (pc + 3) ls (.ref w :: rest))) : W p l e R s m args below meth c H locs cells slots Q (F0 m pc ls (.ref x :: rest)) := by
  obtain ⟨hx, hb, hml, hown, hg⟩ := S
  obtain ⟨cI, cW, wv, h1, h2, h3, h4, h5, h6, hK, h8, h9, h10, h11⟩ := hC
  exact va_get (D := D) (ci := 2) (C := RX2) (T := TX2) (N := 5) hx hb hg inX2 hown hK (va_one h1) 0 rfl rfl 2 (by decide) (hg _ wk_80) (fun _ h9 => h9) rfl hdg kk
theorem rC_elements (S : CallFix p m c cc nL s args gw RX2) {x u i g w n cn cnt : Nat} {ids : Nat → Int32} {ad : Nat → Nat} {f : Nat → Nat → Int32} (hC : RdC D x u i g w n cn cnt ids ad f s H) (hdg : decode cc pc = .ok (.getfield 29, 3)) (kk : W p l e R s m args below meth c H locs cells slots Q (F0 m (pc + 3) ls (.int (nI n) :: rest))) : W p l e R s m args below meth c H locs cells slots Q (F0 m pc ls (.ref x :: rest)) := by
  obtain ⟨hx, hb, hml, hown, hg⟩ := S
  obtain ⟨cI, cW, wv, h1, h2, h3, h4, h5, h6, hK, h8, h9, h10, h11⟩ := hC
  exact va_get (D := D) (ci := 2) (C := RX2) (T := TX2) (N := 5) hx hb hg inX2 hown hK (va_one h1) 0 rfl rfl 3 (by decide) (hg _ wk_81) (fun _ h9 => h9) rfl hdg kk
theorem rC_changes (S : CallFix p m c cc nL s args gw RX2) {x u i g w n cn cnt : Nat} {ids : Nat → Int32} {ad : Nat → Nat} {f : Nat → Nat → Int32} (hC : RdC D x u i g w n cn cnt ids ad f s H) (hdg : decode cc pc = .ok (.getfield 33, 3)) (kk : W p l e R s m args below meth c H locs cells slots Q (F0 m (pc + 3) ls (.int (nI cn) :: rest))) : W p l e R s m args below meth c H locs cells slots Q (F0 m pc ls (.ref x :: rest)) := by
  obtain ⟨hx, hb, hml, hown, hg⟩ := S
  obtain ⟨cI, cW, wv, h1, h2, h3, h4, h5, h6, hK, h8, h9, h10, h11⟩ := hC
  exact va_get (D := D) (ci := 2) (C := RX2) (T := TX2) (N := 5) hx hb hg inX2 hown hK (va_one h1) 0 rfl rfl 4 (by decide) (hg _ wk_82) (fun _ h9 => h9) rfl hdg kk
theorem rU_ids (S : CallFix p m c cc nL s args gw RX1) {u i cnt : Nat} {ids : Nat → Int32} (hU : RdU D u i cnt ids s H) (hdg : decode cc pc = .ok (.getfield 9, 3)) (kk : W p l e R s m args below meth c H locs cells slots Q (F0 m (pc + 3) ls (.ref i :: rest))) : W p l e R s m args below meth c H locs cells slots Q (F0 m pc ls (.ref u :: rest)) := by
  obtain ⟨hx, hb, hml, hown, hg⟩ := S
  obtain ⟨cI, h1, h2, hK, h4⟩ := hU
  exact va_get (D := D) (ci := 1) (C := RX1) (T := TX1) (N := 2) hx hb hg inX1 hown hK (va_one h1) 0 rfl rfl 0 (by decide) (hg _ wk_26) (fun _ h9 => h9) rfl hdg kk
theorem rU_count (S : CallFix p m c cc nL s args gw RX1) {u i cnt : Nat} {ids : Nat → Int32} (hU : RdU D u i cnt ids s H) (hdg : decode cc pc = .ok (.getfield 15, 3)) (kk : W p l e R s m args below meth c H locs cells slots Q (F0 m (pc + 3) ls (.int (nI cnt) :: rest))) : W p l e R s m args below meth c H locs cells slots Q (F0 m pc ls (.ref u :: rest)) := by
  obtain ⟨hx, hb, hml, hown, hg⟩ := S
  obtain ⟨cI, h1, h2, hK, h4⟩ := hU
  exact va_get (D := D) (ci := 1) (C := RX1) (T := TX1) (N := 2) hx hb hg inX1 hown hK (va_one h1) 0 rfl rfl 1 (by decide) (hg _ wk_27) (fun _ h9 => h9) rfl hdg kk
theorem rE_removes (S : CallFix p m c cc nL s args gw RX0) {b : Nat} {fv : Nat → Int32} (hE : RdE D b fv s H) (hdg : decode cc pc = .ok (.getfield 27, 3)) (kk : W p l e R s m args below meth c H locs cells slots Q (F0 m (pc + 3) ls (.int (fv 5) :: rest))) : W p l e R s m args below meth c H locs cells slots Q (F0 m pc ls (.ref b :: rest)) := by
  obtain ⟨hx, hb, hml, hown, hg⟩ := S
  obtain ⟨h1, hK⟩ := hE
  exact va_get (D := D) (ci := 0) (C := RX0) (T := TX0) (N := 9) hx hb hg inX0 hown hK (va_one h1) 0 rfl rfl 5 (by decide) (hg _ wk_50) (fun _ h9 => h9) rfl hdg kk
theorem rE_standing (S : CallFix p m c cc nL s args gw RX0) {b : Nat} {fv : Nat → Int32} (hE : RdE D b fv s H) (hdg : decode cc pc = .ok (.getfield 30, 3)) (kk : W p l e R s m args below meth c H locs cells slots Q (F0 m (pc + 3) ls (.int (fv 6) :: rest))) : W p l e R s m args below meth c H locs cells slots Q (F0 m pc ls (.ref b :: rest)) := by
  obtain ⟨hx, hb, hml, hown, hg⟩ := S
  obtain ⟨h1, hK⟩ := hE
  exact va_get (D := D) (ci := 0) (C := RX0) (T := TX0) (N := 9) hx hb hg inX0 hown hK (va_one h1) 0 rfl rfl 6 (by decide) (hg _ wk_52) (fun _ h9 => h9) rfl hdg kk
theorem rE_kind (S : CallFix p m c cc nL s args gw RX0) {b : Nat} {fv : Nat → Int32} (hE : RdE D b fv s H) (hdg : decode cc pc = .ok (.getfield 33, 3)) (kk : W p l e R s m args below meth c H locs cells slots Q (F0 m (pc + 3) ls (.int (fv 7) :: rest))) : W p l e R s m args below meth c H locs cells slots Q (F0 m pc ls (.ref b :: rest)) := by
  obtain ⟨hx, hb, hml, hown, hg⟩ := S
  obtain ⟨h1, hK⟩ := hE
  exact va_get (D := D) (ci := 0) (C := RX0) (T := TX0) (N := 9) hx hb hg inX0 hown hK (va_one h1) 0 rfl rfl 7 (by decide) (hg _ wk_54) (fun _ h9 => h9) rfl hdg kk
theorem rE_value (S : CallFix p m c cc nL s args gw RX0) {b : Nat} {fv : Nat → Int32} (hE : RdE D b fv s H) (hdg : decode cc pc = .ok (.getfield 36, 3)) (kk : W p l e R s m args below meth c H locs cells slots Q (F0 m (pc + 3) ls (.int (fv 8) :: rest))) : W p l e R s m args below meth c H locs cells slots Q (F0 m pc ls (.ref b :: rest)) := by
  obtain ⟨hx, hb, hml, hown, hg⟩ := S
  obtain ⟨h1, hK⟩ := hE
  exact va_get (D := D) (ci := 0) (C := RX0) (T := TX0) (N := 9) hx hb hg inX0 hown hK (va_one h1) 0 rfl rfl 8 (by decide) (hg _ wk_56) (fun _ h9 => h9) rfl hdg kk
theorem rN_id (S : CallFix p m c cc nL s args gw RX2) {b : Nat} {fv : Nat → Int32} (hE : RdE D b fv s H) (hN : NW s) (hdg : decode cc pc = .ok (.getfield 98, 3)) (kk : W p l e R s m args below meth c H locs cells slots Q (F0 m (pc + 3) ls (.int (fv 0) :: rest))) : W p l e R s m args below meth c H locs cells slots Q (F0 m pc ls (.ref b :: rest)) := by
  obtain ⟨hx, hb, hml, hown, hg⟩ := S
  obtain ⟨h1, hK⟩ := hE
  exact va_getN (D := D) (ci := 0) (C := RX0) (T := TX0) (N := 9) hx hb hg inX0 hown hK (va_one h1) 0 rfl rfl 0 (by decide) (va_Nw.use rfl (nk_41 hN)) (fun _ h9 => h9) rfl hdg kk
theorem rN_behind (S : CallFix p m c cc nL s args gw RX2) {b : Nat} {fv : Nat → Int32} (hE : RdE D b fv s H) (hN : NW s) (hdg : decode cc pc = .ok (.getfield 128, 3)) (kk : W p l e R s m args below meth c H locs cells slots Q (F0 m (pc + 3) ls (.int (fv 1) :: rest))) : W p l e R s m args below meth c H locs cells slots Q (F0 m pc ls (.ref b :: rest)) := by
  obtain ⟨hx, hb, hml, hown, hg⟩ := S
  obtain ⟨h1, hK⟩ := hE
  exact va_getN (D := D) (ci := 0) (C := RX0) (T := TX0) (N := 9) hx hb hg inX0 hown hK (va_one h1) 0 rfl rfl 1 (by decide) (va_Nw.use rfl (nk_43 hN)) (fun _ h9 => h9) rfl hdg kk
theorem rN_way (S : CallFix p m c cc nL s args gw RX2) {b : Nat} {fv : Nat → Int32} (hE : RdE D b fv s H) (hN : NW s) (hdg : decode cc pc = .ok (.getfield 151, 3)) (kk : W p l e R s m args below meth c H locs cells slots Q (F0 m (pc + 3) ls (.int (fv 2) :: rest))) : W p l e R s m args below meth c H locs cells slots Q (F0 m pc ls (.ref b :: rest)) := by
  obtain ⟨hx, hb, hml, hown, hg⟩ := S
  obtain ⟨h1, hK⟩ := hE
  exact va_getN (D := D) (ci := 0) (C := RX0) (T := TX0) (N := 9) hx hb hg inX0 hown hK (va_one h1) 0 rfl rfl 2 (by decide) (va_Nw.use rfl (nk_45 hN)) (fun _ h9 => h9) rfl hdg kk
theorem rN_followers (S : CallFix p m c cc nL s args gw RX2) {b : Nat} {fv : Nat → Int32} (hE : RdE D b fv s H) (hN : NW s) (hdg : decode cc pc = .ok (.getfield 39, 3)) (kk : W p l e R s m args below meth c H locs cells slots Q (F0 m (pc + 3) ls (.int (fv 3) :: rest))) : W p l e R s m args below meth c H locs cells slots Q (F0 m pc ls (.ref b :: rest)) := by
  obtain ⟨hx, hb, hml, hown, hg⟩ := S
  obtain ⟨h1, hK⟩ := hE
  exact va_getN (D := D) (ci := 0) (C := RX0) (T := TX0) (N := 9) hx hb hg inX0 hown hK (va_one h1) 0 rfl rfl 3 (by decide) (va_Nw.use rfl (nk_47 hN)) (fun _ h9 => h9) rfl hdg kk
theorem rN_sets (S : CallFix p m c cc nL s args gw RX2) {b : Nat} {fv : Nat → Int32} (hE : RdE D b fv s H) (hN : NW s) (hdg : decode cc pc = .ok (.getfield 75, 3)) (kk : W p l e R s m args below meth c H locs cells slots Q (F0 m (pc + 3) ls (.int (fv 4) :: rest))) : W p l e R s m args below meth c H locs cells slots Q (F0 m pc ls (.ref b :: rest)) := by
  obtain ⟨hx, hb, hml, hown, hg⟩ := S
  obtain ⟨h1, hK⟩ := hE
  exact va_getN (D := D) (ci := 0) (C := RX0) (T := TX0) (N := 9) hx hb hg inX0 hown hK (va_one h1) 0 rfl rfl 4 (by decide) (va_Nw.use rfl (nk_49 hN)) (fun _ h9 => h9) rfl hdg kk
theorem rN_removes (S : CallFix p m c cc nL s args gw RX2) {b : Nat} {fv : Nat → Int32} (hE : RdE D b fv s H) (hN : NW s) (hdg : decode cc pc = .ok (.getfield 81, 3)) (kk : W p l e R s m args below meth c H locs cells slots Q (F0 m (pc + 3) ls (.int (fv 5) :: rest))) : W p l e R s m args below meth c H locs cells slots Q (F0 m pc ls (.ref b :: rest)) := by
  obtain ⟨hx, hb, hml, hown, hg⟩ := S
  obtain ⟨h1, hK⟩ := hE
  exact va_getN (D := D) (ci := 0) (C := RX0) (T := TX0) (N := 9) hx hb hg inX0 hown hK (va_one h1) 0 rfl rfl 5 (by decide) (va_Nw.use rfl (nk_51 hN)) (fun _ h9 => h9) rfl hdg kk
theorem rN_standing (S : CallFix p m c cc nL s args gw RX2) {b : Nat} {fv : Nat → Int32} (hE : RdE D b fv s H) (hN : NW s) (hdg : decode cc pc = .ok (.getfield 107, 3)) (kk : W p l e R s m args below meth c H locs cells slots Q (F0 m (pc + 3) ls (.int (fv 6) :: rest))) : W p l e R s m args below meth c H locs cells slots Q (F0 m pc ls (.ref b :: rest)) := by
  obtain ⟨hx, hb, hml, hown, hg⟩ := S
  obtain ⟨h1, hK⟩ := hE
  exact va_getN (D := D) (ci := 0) (C := RX0) (T := TX0) (N := 9) hx hb hg inX0 hown hK (va_one h1) 0 rfl rfl 6 (by decide) (va_Nw.use rfl (nk_53 hN)) (fun _ h9 => h9) rfl hdg kk
theorem rN_kind (S : CallFix p m c cc nL s args gw RX2) {b : Nat} {fv : Nat → Int32} (hE : RdE D b fv s H) (hN : NW s) (hdg : decode cc pc = .ok (.getfield 101, 3)) (kk : W p l e R s m args below meth c H locs cells slots Q (F0 m (pc + 3) ls (.int (fv 7) :: rest))) : W p l e R s m args below meth c H locs cells slots Q (F0 m pc ls (.ref b :: rest)) := by
  obtain ⟨hx, hb, hml, hown, hg⟩ := S
  obtain ⟨h1, hK⟩ := hE
  exact va_getN (D := D) (ci := 0) (C := RX0) (T := TX0) (N := 9) hx hb hg inX0 hown hK (va_one h1) 0 rfl rfl 7 (by decide) (va_Nw.use rfl (nk_55 hN)) (fun _ h9 => h9) rfl hdg kk
theorem rN_value (S : CallFix p m c cc nL s args gw RX2) {b : Nat} {fv : Nat → Int32} (hE : RdE D b fv s H) (hN : NW s) (hdg : decode cc pc = .ok (.getfield 104, 3)) (kk : W p l e R s m args below meth c H locs cells slots Q (F0 m (pc + 3) ls (.int (fv 8) :: rest))) : W p l e R s m args below meth c H locs cells slots Q (F0 m pc ls (.ref b :: rest)) := by
  obtain ⟨hx, hb, hml, hown, hg⟩ := S
  obtain ⟨h1, hK⟩ := hE
  exact va_getN (D := D) (ci := 0) (C := RX0) (T := TX0) (N := 9) hx hb hg inX0 hown hK (va_one h1) 0 rfl rfl 8 (by decide) (va_Nw.use rfl (nk_57 hN)) (fun _ h9 => h9) rfl hdg kk
theorem RdC.nw {x u i g w n cn cnt : Nat} {ids : Nat → Int32} {ad : Nat → Nat} {f : Nat → Nat → Int32} (hC : RdC D x u i g w n cn cnt ids ad f s H) : NW s := by
  obtain ⟨cI, cW, wv, h1, h2, h3, h4, h5, h6, hK, h8, h9⟩ := hC
  exact h8
theorem rC_ald (S : CallFix p m c cc nL s args gw RX2) {x u i g w n cn cnt : Nat} {ids : Nat → Int32} {ad : Nat → Nat} {f : Nat → Nat → Int32} (hC : RdC D x u i g w n cn cnt ids ad f s H) {k : Nat} (hk : k < n) (hdg : decode cc pc = .ok (.aaload, 1)) (kk : W p l e R s m args below meth c H locs cells slots Q (F0 m (pc + 1) ls (.ref (ad k) :: rest))) : W p l e R s m args below meth c H locs cells slots Q (F0 m pc ls (.int (nI k) :: .ref w :: rest)) := by
  obtain ⟨hx, hb, hml, hown, hg⟩ := S
  obtain ⟨cI, cW, wv, h1, h2, h3, h4, h5, h6, hK, h8, h9, h10, h11⟩ := hC
  refine va_aldq (D := D) hx hb hK (va_one h4) 0 1 rfl rfl (vp_in_nI (by omega) (by omega)) hdg ?_
  rw [nI_clamp (by omega), (h6 k hk).1]
  exact kk
theorem rU_ald (S : CallFix p m c cc nL s args gw RX1) {u i cnt : Nat} {ids : Nat → Int32} (hU : RdU D u i cnt ids s H) {k : Nat} (hk : k < 1536) (hdg : decode cc pc = .ok (.iaload, 1)) (kk : W p l e R s m args below meth c H locs cells slots Q (F0 m (pc + 1) ls (.int (ids k) :: rest))) : W p l e R s m args below meth c H locs cells slots Q (F0 m pc ls (.int (nI k) :: .ref i :: rest)) := by
  obtain ⟨hx, hb, hml, hown, hg⟩ := S
  obtain ⟨cI, h1, h2, hK, h4⟩ := hU
  refine va_iald (D := D) hx hb hK (va_one h2) 0 0 rfl rfl (vp_in_nI hk (by omega)) hdg ?_
  rw [nI_clamp (by omega)]
  exact kk
theorem rM_thrown (S : CallFix p m c cc nL s args gw RX3) {y : Nat} {a : Nat → Nat} {n d : Nat} {th : Int32} {A : Nat → Nat → Int32} (hM : RdM D y a n d th A s H) (hdg : decode cc pc = .ok (.getfield 40, 3)) (kk : W p l e R s m args below meth c H locs cells slots Q (F0 m (pc + 3) ls (.int th :: rest))) : W p l e R s m args below meth c H locs cells slots Q (F0 m pc ls (.ref y :: rest)) := by
  obtain ⟨hx, hb, hml, hown, hg⟩ := S
  obtain ⟨cI, h1, h2, hK, h4⟩ := hM
  exact va_get (D := D) (ci := 3) (C := RX3) (T := TX3) (N := 13) hx hb hg inX3 hown hK (va_one h1) 0 rfl rfl 0 (by decide) (hg _ wk_349) (fun _ h9 => h9) rfl hdg kk
theorem rM_many (S : CallFix p m c cc nL s args gw RX3) {y : Nat} {a : Nat → Nat} {n d : Nat} {th : Int32} {A : Nat → Nat → Int32} (hM : RdM D y a n d th A s H) (hdg : decode cc pc = .ok (.getfield 44, 3)) (kk : W p l e R s m args below meth c H locs cells slots Q (F0 m (pc + 3) ls (.int (nI n) :: rest))) : W p l e R s m args below meth c H locs cells slots Q (F0 m pc ls (.ref y :: rest)) := by
  obtain ⟨hx, hb, hml, hown, hg⟩ := S
  obtain ⟨cI, h1, h2, hK, h4⟩ := hM
  exact va_get (D := D) (ci := 3) (C := RX3) (T := TX3) (N := 13) hx hb hg inX3 hown hK (va_one h1) 0 rfl rfl 1 (by decide) (hg _ wk_350) (fun _ h9 => h9) rfl hdg kk
theorem rM_ids (S : CallFix p m c cc nL s args gw RX3) {y : Nat} {a : Nat → Nat} {n d : Nat} {th : Int32} {A : Nat → Nat → Int32} (hM : RdM D y a n d th A s H) (hdg : decode cc pc = .ok (.getfield 7, 3)) (kk : W p l e R s m args below meth c H locs cells slots Q (F0 m (pc + 3) ls (.ref (a 0) :: rest))) : W p l e R s m args below meth c H locs cells slots Q (F0 m pc ls (.ref y :: rest)) := by
  obtain ⟨hx, hb, hml, hown, hg⟩ := S
  obtain ⟨cI, h1, h2, hK, h4⟩ := hM
  exact va_get (D := D) (ci := 3) (C := RX3) (T := TX3) (N := 13) hx hb hg inX3 hown hK (va_one h1) 0 rfl rfl 2 (by decide) (hg _ wk_351) (fun _ h9 => h9) rfl hdg kk
theorem rM_behinds (S : CallFix p m c cc nL s args gw RX3) {y : Nat} {a : Nat → Nat} {n d : Nat} {th : Int32} {A : Nat → Nat → Int32} (hM : RdM D y a n d th A s H) (hdg : decode cc pc = .ok (.getfield 13, 3)) (kk : W p l e R s m args below meth c H locs cells slots Q (F0 m (pc + 3) ls (.ref (a 1) :: rest))) : W p l e R s m args below meth c H locs cells slots Q (F0 m pc ls (.ref y :: rest)) := by
  obtain ⟨hx, hb, hml, hown, hg⟩ := S
  obtain ⟨cI, h1, h2, hK, h4⟩ := hM
  exact va_get (D := D) (ci := 3) (C := RX3) (T := TX3) (N := 13) hx hb hg inX3 hown hK (va_one h1) 0 rfl rfl 3 (by decide) (hg _ wk_352) (fun _ h9 => h9) rfl hdg kk
theorem rM_kinds (S : CallFix p m c cc nL s args gw RX3) {y : Nat} {a : Nat → Nat} {n d : Nat} {th : Int32} {A : Nat → Nat → Int32} (hM : RdM D y a n d th A s H) (hdg : decode cc pc = .ok (.getfield 16, 3)) (kk : W p l e R s m args below meth c H locs cells slots Q (F0 m (pc + 3) ls (.ref (a 2) :: rest))) : W p l e R s m args below meth c H locs cells slots Q (F0 m pc ls (.ref y :: rest)) := by
  obtain ⟨hx, hb, hml, hown, hg⟩ := S
  obtain ⟨cI, h1, h2, hK, h4⟩ := hM
  exact va_get (D := D) (ci := 3) (C := RX3) (T := TX3) (N := 13) hx hb hg inX3 hown hK (va_one h1) 0 rfl rfl 4 (by decide) (hg _ wk_353) (fun _ h9 => h9) rfl hdg kk
theorem rM_values (S : CallFix p m c cc nL s args gw RX3) {y : Nat} {a : Nat → Nat} {n d : Nat} {th : Int32} {A : Nat → Nat → Int32} (hM : RdM D y a n d th A s H) (hdg : decode cc pc = .ok (.getfield 19, 3)) (kk : W p l e R s m args below meth c H locs cells slots Q (F0 m (pc + 3) ls (.ref (a 3) :: rest))) : W p l e R s m args below meth c H locs cells slots Q (F0 m pc ls (.ref y :: rest)) := by
  obtain ⟨hx, hb, hml, hown, hg⟩ := S
  obtain ⟨cI, h1, h2, hK, h4⟩ := hM
  exact va_get (D := D) (ci := 3) (C := RX3) (T := TX3) (N := 13) hx hb hg inX3 hown hK (va_one h1) 0 rfl rfl 5 (by decide) (hg _ wk_354) (fun _ h9 => h9) rfl hdg kk
theorem rM_done (S : CallFix p m c cc nL s args gw RX3) {y : Nat} {a : Nat → Nat} {n d : Nat} {th : Int32} {A : Nat → Nat → Int32} (hM : RdM D y a n d th A s H) (hdg : decode cc pc = .ok (.getfield 52, 3)) (kk : W p l e R s m args below meth c H locs cells slots Q (F0 m (pc + 3) ls (.int (nI d) :: rest))) : W p l e R s m args below meth c H locs cells slots Q (F0 m pc ls (.ref y :: rest)) := by
  obtain ⟨hx, hb, hml, hown, hg⟩ := S
  obtain ⟨cI, h1, h2, hK, h4⟩ := hM
  exact va_get (D := D) (ci := 3) (C := RX3) (T := TX3) (N := 13) hx hb hg inX3 hown hK (va_one h1) 0 rfl rfl 6 (by decide) (hg _ wk_355) (fun _ h9 => h9) rfl hdg kk
theorem rM_doneIds (S : CallFix p m c cc nL s args gw RX3) {y : Nat} {a : Nat → Nat} {n d : Nat} {th : Int32} {A : Nat → Nat → Int32} (hM : RdM D y a n d th A s H) (hdg : decode cc pc = .ok (.getfield 22, 3)) (kk : W p l e R s m args below meth c H locs cells slots Q (F0 m (pc + 3) ls (.ref (a 4) :: rest))) : W p l e R s m args below meth c H locs cells slots Q (F0 m pc ls (.ref y :: rest)) := by
  obtain ⟨hx, hb, hml, hown, hg⟩ := S
  obtain ⟨cI, h1, h2, hK, h4⟩ := hM
  exact va_get (D := D) (ci := 3) (C := RX3) (T := TX3) (N := 13) hx hb hg inX3 hown hK (va_one h1) 0 rfl rfl 7 (by decide) (hg _ wk_356) (fun _ h9 => h9) rfl hdg kk
theorem rM_doneOf (S : CallFix p m c cc nL s args gw RX3) {y : Nat} {a : Nat → Nat} {n d : Nat} {th : Int32} {A : Nat → Nat → Int32} (hM : RdM D y a n d th A s H) (hdg : decode cc pc = .ok (.getfield 25, 3)) (kk : W p l e R s m args below meth c H locs cells slots Q (F0 m (pc + 3) ls (.ref (a 5) :: rest))) : W p l e R s m args below meth c H locs cells slots Q (F0 m pc ls (.ref y :: rest)) := by
  obtain ⟨hx, hb, hml, hown, hg⟩ := S
  obtain ⟨cI, h1, h2, hK, h4⟩ := hM
  exact va_get (D := D) (ci := 3) (C := RX3) (T := TX3) (N := 13) hx hb hg inX3 hown hK (va_one h1) 0 rfl rfl 8 (by decide) (hg _ wk_357) (fun _ h9 => h9) rfl hdg kk
theorem rM_doneKinds (S : CallFix p m c cc nL s args gw RX3) {y : Nat} {a : Nat → Nat} {n d : Nat} {th : Int32} {A : Nat → Nat → Int32} (hM : RdM D y a n d th A s H) (hdg : decode cc pc = .ok (.getfield 28, 3)) (kk : W p l e R s m args below meth c H locs cells slots Q (F0 m (pc + 3) ls (.ref (a 6) :: rest))) : W p l e R s m args below meth c H locs cells slots Q (F0 m pc ls (.ref y :: rest)) := by
  obtain ⟨hx, hb, hml, hown, hg⟩ := S
  obtain ⟨cI, h1, h2, hK, h4⟩ := hM
  exact va_get (D := D) (ci := 3) (C := RX3) (T := TX3) (N := 13) hx hb hg inX3 hown hK (va_one h1) 0 rfl rfl 9 (by decide) (hg _ wk_358) (fun _ h9 => h9) rfl hdg kk
theorem rM_doneValues (S : CallFix p m c cc nL s args gw RX3) {y : Nat} {a : Nat → Nat} {n d : Nat} {th : Int32} {A : Nat → Nat → Int32} (hM : RdM D y a n d th A s H) (hdg : decode cc pc = .ok (.getfield 31, 3)) (kk : W p l e R s m args below meth c H locs cells slots Q (F0 m (pc + 3) ls (.ref (a 7) :: rest))) : W p l e R s m args below meth c H locs cells slots Q (F0 m pc ls (.ref y :: rest)) := by
  obtain ⟨hx, hb, hml, hown, hg⟩ := S
  obtain ⟨cI, h1, h2, hK, h4⟩ := hM
  exact va_get (D := D) (ci := 3) (C := RX3) (T := TX3) (N := 13) hx hb hg inX3 hown hK (va_one h1) 0 rfl rfl 10 (by decide) (hg _ wk_359) (fun _ h9 => h9) rfl hdg kk
theorem rM_order (S : CallFix p m c cc nL s args gw RX3) {y : Nat} {a : Nat → Nat} {n d : Nat} {th : Int32} {A : Nat → Nat → Int32} (hM : RdM D y a n d th A s H) (hdg : decode cc pc = .ok (.getfield 34, 3)) (kk : W p l e R s m args below meth c H locs cells slots Q (F0 m (pc + 3) ls (.ref (a 8) :: rest))) : W p l e R s m args below meth c H locs cells slots Q (F0 m pc ls (.ref y :: rest)) := by
  obtain ⟨hx, hb, hml, hown, hg⟩ := S
  obtain ⟨cI, h1, h2, hK, h4⟩ := hM
  exact va_get (D := D) (ci := 3) (C := RX3) (T := TX3) (N := 13) hx hb hg inX3 hown hK (va_one h1) 0 rfl rfl 11 (by decide) (hg _ wk_360) (fun _ h9 => h9) rfl hdg kk
theorem rM_stack (S : CallFix p m c cc nL s args gw RX3) {y : Nat} {a : Nat → Nat} {n d : Nat} {th : Int32} {A : Nat → Nat → Int32} (hM : RdM D y a n d th A s H) (hdg : decode cc pc = .ok (.getfield 37, 3)) (kk : W p l e R s m args below meth c H locs cells slots Q (F0 m (pc + 3) ls (.ref (a 9) :: rest))) : W p l e R s m args below meth c H locs cells slots Q (F0 m pc ls (.ref y :: rest)) := by
  obtain ⟨hx, hb, hml, hown, hg⟩ := S
  obtain ⟨cI, h1, h2, hK, h4⟩ := hM
  exact va_get (D := D) (ci := 3) (C := RX3) (T := TX3) (N := 13) hx hb hg inX3 hown hK (va_one h1) 0 rfl rfl 12 (by decide) (hg _ wk_361) (fun _ h9 => h9) rfl hdg kk
theorem rM_ald (S : CallFix p m c cc nL s args gw RX3) {y : Nat} {a : Nat → Nat} {n d : Nat} {th : Int32} {A : Nat → Nat → Int32} (hM : RdM D y a n d th A s H) (j : Nat) {k : Nat} (hj : j < 10) (hk : k < szM j) (hdg : decode cc pc = .ok (.iaload, 1)) (kk : W p l e R s m args below meth c H locs cells slots Q (F0 m (pc + 1) ls (.int (A j k) :: rest))) : W p l e R s m args below meth c H locs cells slots Q (F0 m pc ls (.int (nI k) :: .ref (a j) :: rest)) := by
  obtain ⟨hx, hb, hml, hown, hg⟩ := S
  obtain ⟨cI, h1, h2, hK, h4⟩ := hM
  have h31 : szM j < 2 ^ 31 := by unfold szM; split <;> decide
  refine va_iald (D := D) hx hb hK (va_one (h2 j hj)) 0 0 rfl rfl (vp_in_nI hk h31) hdg ?_
  rw [nI_clamp (by omega)]
  exact kk
end RD
/-- the head of a method that returns -/
theorem met_go {l : Launch} {y : MethodName} {cc : ByteArray} {maxL : Nat} {ret : Option FieldType} {rm : Room} {av : List Value} {B : State → Prop} {Qc : Array Value → State → Outcome → State → Prop} {mc ms : Nat} {free : Addr → Prop}
    (hy : plainName y.cls = true) (hn : (lg_sl av).length ≤ maxL)
    (body : ∀ (p : Program) (e : Env) (s : State) (m : MethodId) (below : List Frame) (meth : Method) (c : Code) (ls : Array Slot), CallFix p m c cc maxL s av.toArray gw y.cls → meth.sig.returnType = ret → meth.locks = false → meth.name = y.name → B s → lv_has ls maxL (lv_args 0 av) →
      W p l e rm s m av.toArray below meth c s.heap [] 0 0 (MQ below Qc av.toArray s mc ms free) (F0 m 0 ls [])) : Met l y (gws y cc maxL ret) rm (va_Pc av B) Qc mc ms free := by
  refine Met.ofW (cc := cc) (maxL := maxL) (ret := ret) hy rfl ?_
  intro p e s m args below meth c s₁ B9 hml hv
  obtain ⟨rfl, hB⟩ := hv
  have hts := atoms_spec (ws := gws y cc maxL ret) B9.pre
  have hg : ∀ w ∈ gw, w.before av.toArray s = true := fun w h => hts w (List.mem_cons_of_mem _ h)
  have hl := lv_entry av (n := maxL) hn
  rw [lg_entry_eq]
  generalize (lg_sl av ++ List.replicate (maxL - (lg_sl av).length) Slot.unset).toArray = ls at hl ⊢
  exact body p e s m below meth c ls ⟨B9.exec, B9.bytes, hml, findClass_of_methodNamed B9.named, hg⟩ B9.returns B9.notSynchronized (name_of_methodNamed B9.named B9.method).1 hB hl
/-- views that stay when the tables grow warm -/
def Mv (Bh : State → Heap → Prop) : Prop := ∀ (u U : State) (H : Heap), u.WarmedH U.vm → Bh u H → Bh U H
theorem Mv.blind {Bh : State → Heap → Prop} {av : List Value} (h : Mv Bh) : FrameBlind (va_Pc av (fun U => Bh U U.heap)) := fun a U g mk q => ⟨q.1, h U (U.calling g mk a) U.heap (State.WarmedH.refl U) q.2⟩
theorem Mv.at {Bh : State → Heap → Prop} {s : State} {H : Heap} (h : Mv Bh) (hB : Bh s H) (av : List Value) : ∀ U : State, U.heap = H → s.WarmedH U.vm → va_Pc av (fun U => Bh U U.heap) av.toArray U := fun U hU hW => ⟨rfl, by show Bh U U.heap; rw [hU]; exact h s U H hW hB⟩
section CALLS
variable {p : Program} {l : Launch} {e : Env} {R : Room} {s : State} {m : MethodId} {args : Array Value} {below : List Frame} {meth : Method} {c : Code} {H : Heap} {locs : List Loc} {cells slots : Nat} {Q : State → Prop} {cc : ByteArray} {nL pc : Nat} {ls : Array Slot} {rest : List Value} {y : MethodName} {b9 : ByteArray} {n9 idx : Nat} {r9 : Option FieldType} {rm : Room} {Bh : State → Heap → Prop} {own C host : String} {o9 : Nat} {As : List Value}
theorem runV {Qc : Array Value → State → Outcome → State → Prop} {mc ms : Nat} {free : Addr → Prop} (S : CallFix p m c cc nL s args gw own) (hM : Met l y (gws y b9 n9 r9) rm (va_Pc (.ref o9 :: As) (fun U => Bh U U.heap)) Qc mc ms free) (hT : GoodIn gw (wsV own idx C y (gws y b9 n9 r9))) (hrc : rm.cells = mc) (hrs : rm.slots = ms) (k9 : Nat) (hk9 : As.length = k9)
    (hd : y.cls = C ∧ y.cls ≠ "java/lang/invoke/MethodHandle" ∧ y.cls ≠ "java/lang/invoke/VarHandle" ∧ (parseMethodDescriptor y.desc).map (fun d => d.parameters.length) = some k9) (hR : rm.frames + 1 ≤ R.frames ∧ 8 + (n9 + 11) + rm.locals ≤ R.locals) (hf : cells + mc ≤ R.cells ∧ slots + ms ≤ R.slots)
    (hMv : Mv Bh) (hrecv : ∃ cell : Cell, H[o9]? = some cell ∧ cell.vm.isStatics = false ∧ s.vm.findClass C = some cell.cls) (hB : Bh s H) (hsize : ls.size = nL) (hW : (rest.map fun v => v.category).sum ≤ 8) (hdg : decode cc pc = .ok (.invokevirtual idx, 3)) :
    va_Run p l e R s m args below meth c H locs cells slots mc ms (F0 m pc ls (As.reverse ++ .ref o9 :: rest)) rest (Qc (.ref o9 :: As).toArray) free :=
  va_runV (As := As) (rest := rest) S hM (cwV k9 S.2.2.2.2 hT rfl hrc hrs hd hR) ⟨hMv.blind, hrecv, hMv.at hB _⟩ rfl hk9 hsize rfl (lv_room hW) hdg hf
theorem runVN {Qc : Array Value → State → Outcome → State → Prop} {mc ms : Nat} {free : Addr → Prop} (S : CallFix p m c cc nL s args gw own) (hM : Met l y (gws y b9 n9 r9) rm (va_Pc (.ref o9 :: As) (fun U => Bh U U.heap)) Qc mc ms free) (hT : GoodIn gw (gws y b9 n9 r9)) (hl : va_Nw (.methodLinkNest own idx y host) s) (hini : Cond.initialized y.cls ∈ gw) (hin : Cond.instanceMethod y ∈ gw) (hse : Cond.selects C y y ∈ gw) (hrc : rm.cells = mc) (hrs : rm.slots = ms) (k9 : Nat) (hk9 : As.length = k9)
    (hd : y.cls ≠ "java/lang/invoke/MethodHandle" ∧ y.cls ≠ "java/lang/invoke/VarHandle" ∧ (parseMethodDescriptor y.desc).map (fun d => d.parameters.length) = some k9) (hR : rm.frames + 1 ≤ R.frames ∧ 8 + (n9 + 11) + rm.locals ≤ R.locals) (hf : cells + mc ≤ R.cells ∧ slots + ms ≤ R.slots)
    (hMv : Mv Bh) (hrecv : ∃ cell : Cell, H[o9]? = some cell ∧ cell.vm.isStatics = false ∧ s.vm.findClass C = some cell.cls) (hB : Bh s H) (hsize : ls.size = nL) (hW : (rest.map fun v => v.category).sum ≤ 8) (hdg : decode cc pc = .ok (.invokevirtual idx, 3)) :
    va_Run p l e R s m args below meth c H locs cells slots mc ms (F0 m pc ls (As.reverse ++ .ref o9 :: rest)) rest (Qc (.ref o9 :: As).toArray) free :=
  va_runVN (As := As) (rest := rest) S hM ⟨va_cnB k9 S.2.2.2.2 hT rfl hrc hrs hl (S.2.2.2.2 _ hini) hd hR, S.2.2.2.2 _ hin, S.2.2.2.2 _ hse⟩ ⟨hMv.blind, hrecv, hMv.at hB _⟩ rfl hk9 hsize rfl (lv_room hW) hdg hf
theorem runS {Qc : Array Value → State → Outcome → State → Prop} {mc ms : Nat} {free : Addr → Prop} (S : CallFix p m c cc nL s args gw own) (hM : Met l y (gws y b9 n9 r9) rm (va_Pc As (fun U => Bh U U.heap)) Qc mc ms free) (hT : GoodIn gw (wsS own idx y (gws y b9 n9 r9))) (hrc : rm.cells = mc) (hrs : rm.slots = ms) (k9 : Nat) (hk9 : As.length = k9)
    (hd : y.cls = own ∧ y.cls ≠ "java/lang/invoke/MethodHandle" ∧ y.cls ≠ "java/lang/invoke/VarHandle" ∧ (parseMethodDescriptor y.desc).map (fun d => d.parameters.length) = some k9) (hR : rm.frames + 1 ≤ R.frames ∧ 8 + (n9 + 11) + rm.locals ≤ R.locals) (hf : cells + mc ≤ R.cells ∧ slots + ms ≤ R.slots)
    (hMv : Mv Bh) (hB : Bh s H) (hsize : ls.size = nL) (hW : (rest.map fun v => v.category).sum ≤ 8) (hdg : decode cc pc = .ok (.invokestatic idx, 3)) :
    va_Run p l e R s m args below meth c H locs cells slots mc ms (F0 m pc ls (As.reverse ++ rest)) rest (Qc As.toArray) free :=
  va_runS (As := As) (rest := rest) S hM (cwS k9 S.2.2.2.2 hT rfl hrc hrs hd hR) ⟨hMv.blind, hMv.at hB _⟩ rfl hk9 hsize rfl (lv_room hW) hdg hf
end CALLS
