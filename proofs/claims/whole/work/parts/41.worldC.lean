/-! the class's whole world, for writing -/
abbrev CS : Type := List Nat × (Nat → Nat → Int32) × (Nat → Option Nat) × Nat × Nat × Nat × (Nat → Int32)
def wC (x u i g w : Nat) (cI cW : ClassId) (LP : List Nat) (f : Nat → Nat → Int32) (wv : Nat → Option Nat) (n cn cnt : Nat) (ids : Nat → Int32) : va_W := [(x, .inr (2, [.ref u, .ref g, .ref w, .int (nI n), .int (nI cn)])), (u, .inr (1, [.ref i, .int (nI cnt)])), (i, .inl (cI, 1536, .inl ids)), (w, .inl (cW, 512, .inr (.inr (.inr (.inr wv)))))] ++ va_pl LP (fun a => .inr (0, eF (f a)))
abbrev tC (cI cW : ClassId) : List (ClassId × FieldType) := [(cI, .int), (cW, .object RX0)]
def CF (g : Nat) (LP : List Nat) (wv : Nat → Option Nat) (n cn cnt : Nat) : Prop := g ∈ LP ∧ (∀ k, k < n → ∃ a, wv k = some a ∧ a ∈ LP) ∧ n ≤ 512 ∧ cn ≤ 1024 ∧ cnt ≤ 1536
def adv (wv : Nat → Option Nat) (k : Nat) : Nat := (wv k).getD 0
def CC (D : va_G) (x u i g w : Nat) (cI cW : ClassId) (LP : List Nat) (f : Nat → Nat → Int32) (wv : Nat → Option Nat) (n cn cnt : Nat) (ids : Nat → Int32) (AA : Nat → Prop) (H0 : Heap) (s : State) (H : Heap) (locs : List Loc) : Prop := CF g LP wv n cn cnt ∧ NW s ∧ GM D (wC x u i g w cI cW LP f wv n cn cnt ids) (tC cI cW) AA H0 s H locs
def CX (g : Nat) (LP : List Nat) (wv : Nat → Option Nat) (n cn cnt : Nat) (U : State) : Prop := CF g LP wv n cn cnt ∧ NW U
def CPre (D : va_G) (x u i g w : Nat) (cI cW : ClassId) (LP : List Nat) (f : Nat → Nat → Int32) (wv : Nat → Option Nat) (n cn cnt : Nat) (ids : Nat → Int32) (sz : Nat) (U : State) (H : Heap) : Prop := GPre D (wC x u i g w cI cW LP f wv n cn cnt ids) (tC cI cW) sz U H ∧ CX g LP wv n cn cnt U
def CB (D : va_G) (x u i g w : Nat) (cI cW : ClassId) (AA : Nat → Prop) (z : CS) (t : State) : Prop := (CF g z.1 z.2.2.1 z.2.2.2.1 z.2.2.2.2.1 z.2.2.2.2.2.1 ∧ NW t) ∧ GB D (tC cI cW) AA (wC x u i g w cI cW z.1 z.2.1 z.2.2.1 z.2.2.2.1 z.2.2.2.2.1 z.2.2.2.2.2.1 z.2.2.2.2.2.2) t
theorem CPre.mv {D : va_G} {x u i g w : Nat} {cI cW : ClassId} {LP : List Nat} {f : Nat → Nat → Int32} {wv : Nat → Option Nat} {n cn cnt : Nat} {ids : Nat → Int32} {sz : Nat} {t U : State} {H : Heap} (hW : t.WarmedH U.vm) (h : CPre D x u i g w cI cW LP f wv n cn cnt ids sz t H) : CPre D x u i g w cI cW LP f wv n cn cnt ids sz U H := ⟨h.1.mv hW, h.2.1, NW.warm hW h.2.2⟩
theorem CF.ad {g : Nat} {LP : List Nat} {wv : Nat → Option Nat} {n cn cnt : Nat} (h : CF g LP wv n cn cnt) {k : Nat} (hk : k < n) : wv k = some (adv wv k) ∧ adv wv k ∈ LP := by
  obtain ⟨a, h1, h2⟩ := h.2.1 k hk
  unfold adv
  rw [h1]
  exact ⟨rfl, h2⟩
theorem upE (f : Nat → Nat → Int32) (a : Nat) (h : Nat → Int32) : (va_up (fun b => (.inr (0, eF (f b)) : va_E)) a (.inr (0, eF h)) : Nat → va_E) = fun b => .inr (0, eF (va_up f a h b)) := by
  funext b
  unfold va_up
  split <;> rfl
section CCS
variable {D : va_G} {x u i g w : Nat} {cI cW : ClassId} {LP : List Nat} {f : Nat → Nat → Int32} {wv : Nat → Option Nat} {n cn cnt : Nat} {ids : Nat → Int32} {AA : Nat → Prop} {H0 : Heap} {s : State} {H : Heap} {locs : List Loc}
theorem CC.at (h : CC D x u i g w cI cW LP f wv n cn cnt ids AA H0 s H locs) {a : Nat} (ha : a ∈ LP) : ∃ k : Nat, (wC x u i g w cI cW LP f wv n cn cnt ids)[k]? = some ((a, .inr (0, eF (f a))) : Nat × va_E) := by
  unfold wC
  exact va_pl_get (f := fun a => .inr (0, eF (f a))) ha
theorem CC.rd (h : CC D x u i g w cI cW LP f wv n cn cnt ids AA H0 s H locs) : RdC D x u i g w n cn cnt ids (adv wv) f s H := by
  obtain ⟨hF, hN, hP, hD, hK, hS, hA⟩ := h
  have hat : ∀ a, a ∈ LP → va_at D cl_ (a, .inr (0, eF (f a))) H := fun a ha => by
    obtain ⟨k, hk⟩ := va_pl_get (X := [(x, .inr (2, [.ref u, .ref g, .ref w, .int (nI n), .int (nI cn)])), (u, .inr (1, [.ref i, .int (nI cnt)])), (i, .inl (cI, 1536, .inl ids)), (w, .inl (cW, 512, .inr (.inr (.inr (.inr wv)))))]) (f := fun a => .inr (0, eF (f a))) ha
    exact hP k _ hk
  exact ⟨cI, cW, wv, hP 0 _ rfl, hP 1 _ rfl, hP 2 _ rfl, hP 3 _ rfl, hat g hF.1, fun k hk => ⟨(hF.ad hk).1, hat _ (hF.ad hk).2⟩, hK, hN, hF.2.2⟩
theorem CC.el (h : CC D x u i g w cI cW LP f wv n cn cnt ids AA H0 s H locs) {a : Nat} (ha : a ∈ LP) : RdE D a (f a) s H := by
  obtain ⟨hF, hN, hP, hD, hK, hS, hA⟩ := h
  obtain ⟨k, hk⟩ := va_pl_get (X := [(x, .inr (2, [.ref u, .ref g, .ref w, .int (nI n), .int (nI cn)])), (u, .inr (1, [.ref i, .int (nI cnt)])), (i, .inl (cI, 1536, .inl ids)), (w, .inl (cW, 512, .inr (.inr (.inr (.inr wv)))))]) (f := fun a => .inr (0, eF (f a))) ha
  exact ⟨hP k _ hk, hK.nil⟩
theorem CC.pre (h : CC D x u i g w cI cW LP f wv n cn cnt ids AA H0 s H locs) : CPre D x u i g w cI cW LP f wv n cn cnt ids H.size s H := ⟨h.2.2.pre, h.1, h.2.1⟩
theorem CC.out {t : State} (h : CC D x u i g w cI cW LP f wv n cn cnt ids AA s.heap s H locs) (ht : t.heap = H) (hW : s.WarmedH t.vm) : CB D x u i g w cI cW AA (LP, f, wv, n, cn, cnt, ids) t ∧ va_F AA s t := ⟨⟨⟨h.1, NW.warm hW h.2.1⟩, (h.2.2.out ht hW).1⟩, (h.2.2.out ht hW).2⟩
theorem CC.back {z : CS} {t : State} {H1 : Heap} {locs1 : List Loc} (h : CC D x u i g w cI cW LP f wv n cn cnt ids AA H0 s H locs) (ht : t.heap = H1) (hB : CB D x u i g w cI cW (va_A (wC x u i g w cI cW LP f wv n cn cnt ids) H.size) z t) (hS : va_S AA H0 H1 locs1) : CC D x u i g w cI cW z.1 z.2.1 z.2.2.1 z.2.2.2.1 z.2.2.2.2.1 z.2.2.2.2.2.1 z.2.2.2.2.2.2 AA H0 s H1 locs1 := ⟨hB.1.1, h.2.1, h.2.2.back ht hB.2 hS h.2.2.2.2.1⟩
theorem CC.recvU (h : CC D x u i g w cI cW LP f wv n cn cnt ids AA H0 s H locs) : ∃ cell : Cell, H[u]? = some cell ∧ cell.vm.isStatics = false ∧ s.vm.findClass RX1 = some cell.cls := h.rd.U.recv
end CCS
section CCW
variable {p : Program} {l : Launch} {e : Env} {R : Room} {s : State} {m : MethodId} {args : Array Value} {below : List Frame} {meth : Method} {c : Code} {H : Heap} {locs : List Loc} {cells slots : Nat} {Q : State → Prop} {cc : ByteArray} {nL pc : Nat} {ls : Array Slot} {rest : List Value} {D : va_G} {x u i g w : Nat} {cI cW : ClassId} {LP : List Nat} {f : Nat → Nat → Int32} {wv : Nat → Option Nat} {n cn cnt : Nat} {ids : Nat → Int32} {AA : Nat → Prop} {H0 : Heap}
theorem cw_elements (S : CallFix p m c cc nL s args gw RX2) (hC : CC D x u i g w cI cW LP f wv n cn cnt ids AA H0 s H locs) {v : Nat} (hv : v ≤ 512) (hw : ∀ k, k < v → ∃ a, wv k = some a ∧ a ∈ LP) (hdg : decode cc pc = .ok (.putfield 29, 3)) (kk : ∀ (H : Heap) (locs : List Loc), CC D x u i g w cI cW LP f wv v cn cnt ids AA H0 s H locs → W p l e R s m args below meth c H locs cells slots Q (F0 m (pc + 3) ls rest)) : W p l e R s m args below meth c H locs cells slots Q (F0 m pc ls (.int (nI v) :: .ref x :: rest)) := by
  obtain ⟨hx, hb, hml, hown, hg⟩ := S
  obtain ⟨hF, hN, hP, hD, hK, hS, hA⟩ := hC
  exact va_put (D := D) (ci := 2) (v := .int (nI v)) (ty := .int) (C := RX2) (T := TX2) (N := 5) hx hb hg inX2 tyX2 tyX2_ok nmX2 hown hK hP hD hS 0 rfl rfl 3 (by decide) (hg _ wk_81) (fun _ h9 => h9) rfl (by decide +kernel) rfl rfl (Nat.le_of_ble_eq_true rfl) hdg (fun H1 locs1 hP hD hS => kk H1 locs1 ⟨⟨hF.1, hw, hv, hF.2.2.2⟩, hN, hP, hD, hK, hS, hA⟩)
theorem cw_changes (S : CallFix p m c cc nL s args gw RX2) (hC : CC D x u i g w cI cW LP f wv n cn cnt ids AA H0 s H locs) {v : Nat} (hv : v ≤ 1024) (hdg : decode cc pc = .ok (.putfield 33, 3)) (kk : ∀ (H : Heap) (locs : List Loc), CC D x u i g w cI cW LP f wv n v cnt ids AA H0 s H locs → W p l e R s m args below meth c H locs cells slots Q (F0 m (pc + 3) ls rest)) : W p l e R s m args below meth c H locs cells slots Q (F0 m pc ls (.int (nI v) :: .ref x :: rest)) := by
  obtain ⟨hx, hb, hml, hown, hg⟩ := S
  obtain ⟨hF, hN, hP, hD, hK, hS, hA⟩ := hC
  exact va_put (D := D) (ci := 2) (v := .int (nI v)) (ty := .int) (C := RX2) (T := TX2) (N := 5) hx hb hg inX2 tyX2 tyX2_ok nmX2 hown hK hP hD hS 0 rfl rfl 4 (by decide) (hg _ wk_82) (fun _ h9 => h9) rfl (by decide +kernel) rfl rfl (Nat.le_of_ble_eq_true rfl) hdg (fun H1 locs1 hP hD hS => kk H1 locs1 ⟨⟨hF.1, hF.2.1, hF.2.2.1, hv, hF.2.2.2.2⟩, hN, hP, hD, hK, hS, hA⟩)
theorem cw_followers (S : CallFix p m c cc nL s args gw RX2) (hC : CC D x u i g w cI cW LP f wv n cn cnt ids AA H0 s H locs) {b : Nat} {v : Int32} (hbL : b ∈ LP) (hdg : decode cc pc = .ok (.putfield 39, 3)) (kk : ∀ (H : Heap) (locs : List Loc), CC D x u i g w cI cW LP (va_up f b (va_up (f b) 3 v)) wv n cn cnt ids AA H0 s H locs → W p l e R s m args below meth c H locs cells slots Q (F0 m (pc + 3) ls rest)) : W p l e R s m args below meth c H locs cells slots Q (F0 m pc ls (.int v :: .ref b :: rest)) := by
  obtain ⟨hx, hb, hml, hown, hg⟩ := S
  obtain ⟨hF, hN, hP, hD, hK, hS, hA⟩ := hC
  obtain ⟨q, hq⟩ := va_pl_get (X := [(x, .inr (2, [.ref u, .ref g, .ref w, .int (nI n), .int (nI cn)])), (u, .inr (1, [.ref i, .int (nI cnt)])), (i, .inl (cI, 1536, .inl ids)), (w, .inl (cW, 512, .inr (.inr (.inr (.inr wv)))))]) (f := fun a => .inr (0, eF (f a))) hbL
  have e9 : ((wC x u i g w cI cW LP f wv n cn cnt ids).set q (b, .inr (0, (eF (f b)).set 3 (.int v)))) = wC x u i g w cI cW LP (va_up f b (va_up (f b) 3 v)) wv n cn cnt ids := by
    rw [eF_set _ (by decide)]
    exact (va_pl_set hD hbL hq).trans (by rw [upE]; rfl)
  refine va_putN (D := D) (ci := 0) (v := .int v) (ty := .int) (C := RX0) (T := TX0) (N := 9) hx hb hg inX0 tyX0 tyX0_ok nmX0 hown hK hP hD hS q hq rfl 3 (by decide) (va_Nw.use rfl (nk_47 hN)) (fun _ h9 => h9) rfl (by decide +kernel) rfl rfl (Nat.le_of_ble_eq_true rfl) hdg (fun H1 locs1 hP hD hS => kk H1 locs1 ⟨hF, hN, ?_, ?_, hK, hS, hA⟩)
  · rw [e9] at hP; exact hP
  · rw [e9] at hD; exact hD
theorem cw_sets (S : CallFix p m c cc nL s args gw RX2) (hC : CC D x u i g w cI cW LP f wv n cn cnt ids AA H0 s H locs) {b : Nat} {v : Int32} (hbL : b ∈ LP) (hdg : decode cc pc = .ok (.putfield 75, 3)) (kk : ∀ (H : Heap) (locs : List Loc), CC D x u i g w cI cW LP (va_up f b (va_up (f b) 4 v)) wv n cn cnt ids AA H0 s H locs → W p l e R s m args below meth c H locs cells slots Q (F0 m (pc + 3) ls rest)) : W p l e R s m args below meth c H locs cells slots Q (F0 m pc ls (.int v :: .ref b :: rest)) := by
  obtain ⟨hx, hb, hml, hown, hg⟩ := S
  obtain ⟨hF, hN, hP, hD, hK, hS, hA⟩ := hC
  obtain ⟨q, hq⟩ := va_pl_get (X := [(x, .inr (2, [.ref u, .ref g, .ref w, .int (nI n), .int (nI cn)])), (u, .inr (1, [.ref i, .int (nI cnt)])), (i, .inl (cI, 1536, .inl ids)), (w, .inl (cW, 512, .inr (.inr (.inr (.inr wv)))))]) (f := fun a => .inr (0, eF (f a))) hbL
  have e9 : ((wC x u i g w cI cW LP f wv n cn cnt ids).set q (b, .inr (0, (eF (f b)).set 4 (.int v)))) = wC x u i g w cI cW LP (va_up f b (va_up (f b) 4 v)) wv n cn cnt ids := by
    rw [eF_set _ (by decide)]
    exact (va_pl_set hD hbL hq).trans (by rw [upE]; rfl)
  refine va_putN (D := D) (ci := 0) (v := .int v) (ty := .int) (C := RX0) (T := TX0) (N := 9) hx hb hg inX0 tyX0 tyX0_ok nmX0 hown hK hP hD hS q hq rfl 4 (by decide) (va_Nw.use rfl (nk_49 hN)) (fun _ h9 => h9) rfl (by decide +kernel) rfl rfl (Nat.le_of_ble_eq_true rfl) hdg (fun H1 locs1 hP hD hS => kk H1 locs1 ⟨hF, hN, ?_, ?_, hK, hS, hA⟩)
  · rw [e9] at hP; exact hP
  · rw [e9] at hD; exact hD
theorem cw_removes (S : CallFix p m c cc nL s args gw RX2) (hC : CC D x u i g w cI cW LP f wv n cn cnt ids AA H0 s H locs) {b : Nat} {v : Int32} (hbL : b ∈ LP) (hdg : decode cc pc = .ok (.putfield 81, 3)) (kk : ∀ (H : Heap) (locs : List Loc), CC D x u i g w cI cW LP (va_up f b (va_up (f b) 5 v)) wv n cn cnt ids AA H0 s H locs → W p l e R s m args below meth c H locs cells slots Q (F0 m (pc + 3) ls rest)) : W p l e R s m args below meth c H locs cells slots Q (F0 m pc ls (.int v :: .ref b :: rest)) := by
  obtain ⟨hx, hb, hml, hown, hg⟩ := S
  obtain ⟨hF, hN, hP, hD, hK, hS, hA⟩ := hC
  obtain ⟨q, hq⟩ := va_pl_get (X := [(x, .inr (2, [.ref u, .ref g, .ref w, .int (nI n), .int (nI cn)])), (u, .inr (1, [.ref i, .int (nI cnt)])), (i, .inl (cI, 1536, .inl ids)), (w, .inl (cW, 512, .inr (.inr (.inr (.inr wv)))))]) (f := fun a => .inr (0, eF (f a))) hbL
  have e9 : ((wC x u i g w cI cW LP f wv n cn cnt ids).set q (b, .inr (0, (eF (f b)).set 5 (.int v)))) = wC x u i g w cI cW LP (va_up f b (va_up (f b) 5 v)) wv n cn cnt ids := by
    rw [eF_set _ (by decide)]
    exact (va_pl_set hD hbL hq).trans (by rw [upE]; rfl)
  refine va_putN (D := D) (ci := 0) (v := .int v) (ty := .int) (C := RX0) (T := TX0) (N := 9) hx hb hg inX0 tyX0 tyX0_ok nmX0 hown hK hP hD hS q hq rfl 5 (by decide) (va_Nw.use rfl (nk_51 hN)) (fun _ h9 => h9) rfl (by decide +kernel) rfl rfl (Nat.le_of_ble_eq_true rfl) hdg (fun H1 locs1 hP hD hS => kk H1 locs1 ⟨hF, hN, ?_, ?_, hK, hS, hA⟩)
  · rw [e9] at hP; exact hP
  · rw [e9] at hD; exact hD
theorem cw_ast (S : CallFix p m c cc nL s args gw RX2) (hC : CC D x u i g w cI cW LP f wv n cn cnt ids AA H0 s H locs) {b k : Nat} (hbL : b ∈ LP) (hk : k < 512) (hdg : decode cc pc = .ok (.aastore, 1)) (kk : ∀ (H : Heap) (locs : List Loc), CC D x u i g w cI cW LP f (va_up wv k (some b)) n cn cnt ids AA H0 s H locs → W p l e R s m args below meth c H locs cells slots Q (F0 m (pc + 1) ls rest)) : W p l e R s m args below meth c H locs cells slots Q (F0 m pc ls (.ref b :: .int (nI k) :: .ref w :: rest)) := by
  obtain ⟨hx, hb, hml, hown, hg⟩ := S
  obtain ⟨hF, hN, hP, hD, hK, hS, hA⟩ := hC
  obtain ⟨q, hq⟩ := va_pl_get (X := [(x, .inr (2, [.ref u, .ref g, .ref w, .int (nI n), .int (nI cn)])), (u, .inr (1, [.ref i, .int (nI cnt)])), (i, .inl (cI, 1536, .inl ids)), (w, .inl (cW, 512, .inr (.inr (.inr (.inr wv)))))]) (f := fun a => .inr (0, eF (f a))) hbL
  have hF' : CF g LP (va_up wv k (some b)) n cn cnt := ⟨hF.1, fun j hj => if e : j = k then ⟨b, by rw [e, va_up_self], hbL⟩ else by rw [va_up_ne _ _ e]; exact hF.2.1 j hj, hF.2.2⟩
  refine va_astq (D := D) (r := (RX0, TX0, 9)) hx hb hK hP hD hS 3 1 q 0 rfl rfl hq rfl (vp_in_nI hk (by omega)) hdg (fun H1 locs1 hP hD hS => kk H1 locs1 ⟨hF', hN, ?_, ?_, hK, hS, hA⟩)
  · rw [nI_clamp (by omega)] at hP; exact hP
  · rw [nI_clamp (by omega)] at hD; exact hD
theorem cw_new {own9 : Nat} (S : CallFix p m c cc nL s args gw RX2) (hC : CC D x u i g w cI cW LP f wv n cn cnt ids AA H0 s H locs) (h1 : cells + 1 ≤ R.cells) (h2 : slots + 9 ≤ R.slots) (hdg : decode cc pc = .ok (.new 16, 3)) (kk : ∀ (q : Nat) (H1 : Heap), q ∉ LP → CC D x u i g w cI cW (LP ++ [q]) (va_up f q (fun _ => 0)) wv n cn cnt ids AA H0 s H1 locs → W p l e R s m args below meth c H1 locs (cells + 1) (slots + 9) Q (F0 m (pc + 3) ls (.ref q :: rest))) : W p l e R s m args below meth c H locs cells slots Q (F0 m pc ls rest) := by
  obtain ⟨hx, hb, hml, hown, hg⟩ := S
  obtain ⟨hF, hN, hP, hD, hK, hS, hA⟩ := hC
  refine va_new (D := D) (ci := 0) (C := RX0) (T := TX0) (N := 9) (fs := eF (fun _ => 0)) hx hb hg inX0 tyX0 tyX0_ok hown (hg _ wk_34) (hg _ wk_35) (hg _ wk_3) hK hP hD hS hA rfl (by decide) h1 h2 hdg (fun q H1 hP hD hS => ?_)
  have hq : q ∉ LP := va_pl_fresh2 hD
  have e9 : (wC x u i g w cI cW LP f wv n cn cnt ids ++ [(q, .inr (0, eF (fun _ => 0)))] : va_W) = wC x u i g w cI cW (LP ++ [q]) (va_up f q (fun _ => 0)) wv n cn cnt ids := by
    unfold wC
    rw [List.append_assoc, va_pl_push hq, upE]
  refine kk q H1 hq ⟨⟨List.mem_append_left _ hF.1, fun k hk => ?_, hF.2.2⟩, hN, ?_, ?_, hK, hS, hA⟩
  · obtain ⟨a, h1, h2⟩ := hF.2.1 k hk
    exact ⟨a, h1, List.mem_append_left _ h2⟩
  · rw [← e9]; exact hP
  · rw [← e9]; exact hD
theorem CC.putE (hC : CC D x u i g w cI cW LP f wv n cn cnt ids AA H0 s H locs) {b q : Nat} {h : Nat → Int32} {z : va_W} {t : State} {H1 : Heap} {locs1 : List Loc} (hbL : b ∈ LP) (hq : (wC x u i g w cI cW LP f wv n cn cnt ids)[q]? = some (b, .inr (0, eF (f b)))) (ht : t.heap = H1) (hz : z = (wC x u i g w cI cW LP f wv n cn cnt ids).set q (b, .inr (0, eF h))) (hB : GB D (tC cI cW) (va_A (wC x u i g w cI cW LP f wv n cn cnt ids) H.size) z t) (hS1 : va_S AA H0 H1 locs1) : CC D x u i g w cI cW LP (va_up f b h) wv n cn cnt ids AA H0 s H1 locs1 := by
  have hM := hC.2.2.back ht hB hS1 hC.2.2.2.2.1
  refine ⟨hC.1, hC.2.1, ?_⟩
  have e9 : z = wC x u i g w cI cW LP (va_up f b h) wv n cn cnt ids := hz.trans ((va_pl_set hC.2.2.2.1 hbL hq).trans (by rw [upE]; rfl))
  rw [← e9]
  exact hM
end CCW
section CALLI
variable {p : Program} {l : Launch} {e : Env} {R : Room} {s : State} {m : MethodId} {args : Array Value} {below : List Frame} {meth : Method} {c : Code} {H : Heap} {locs : List Loc} {cells slots : Nat} {Q : State → Prop} {cc : ByteArray} {nL pc : Nat} {ls : Array Slot} {rest : List Value} {y : MethodName} {b9 : ByteArray} {n9 idx : Nat} {rm : Room} {Bh : State → Heap → Prop} {own host : String} {o9 : Nat} {As : List Value}
theorem runIN {Qc : Array Value → State → Outcome → State → Prop} {mc ms : Nat} {free : Addr → Prop} (S : CallFix p m c cc nL s args gw own) (hM : Met l y (gws y b9 n9 none) rm (va_Pc (.ref o9 :: As) (fun U => Bh U U.heap)) Qc mc ms free) (hT : GoodIn gw (gws y b9 n9 none)) (hl : va_Nw (.methodLinkNest own idx y host) s) (hini : Cond.initialized y.cls ∈ gw) (hin : Cond.instanceMethod y ∈ gw) (hnm : y.name = "<init>") (hrc : rm.cells = mc) (hrs : rm.slots = ms) (k9 : Nat) (hk9 : As.length = k9)
    (hd : y.cls ≠ "java/lang/invoke/MethodHandle" ∧ y.cls ≠ "java/lang/invoke/VarHandle" ∧ (parseMethodDescriptor y.desc).map (fun d => d.parameters.length) = some k9) (hR : rm.frames + 1 ≤ R.frames ∧ 8 + (n9 + 11) + rm.locals ≤ R.locals) (hf : cells + mc ≤ R.cells ∧ slots + ms ≤ R.slots)
    (hMv : Mv Bh) (hB : Bh s H) (hsize : ls.size = nL) (hW : (rest.map fun v => v.category).sum ≤ 8) (hdg : decode cc pc = .ok (.invokespecial idx, 3)) :
    va_Run p l e R s m args below meth c H locs cells slots mc ms (F0 m pc ls (As.reverse ++ .ref o9 :: rest)) rest (Qc (.ref o9 :: As).toArray) free :=
  va_runIN (As := As) (rest := rest) S hM ⟨va_cnB k9 S.2.2.2.2 hT rfl hrc hrs hl (S.2.2.2.2 _ hini) hd hR, hnm, S.2.2.2.2 _ hin⟩ ⟨hMv.blind, hMv.at hB _⟩ rfl hk9 hsize rfl (lv_room hW) hdg hf
end CALLI
/-- the head of a method of the class that writes -/
theorem met_cc {l : Launch} {y : MethodName} {cc : ByteArray} {maxL : Nat} {ret : Option FieldType} {rm : Room} {av : List Value} {D : va_G} {x u i g w : Nat} {cI cW : ClassId} {LP : List Nat} {f : Nat → Nat → Int32} {wv : Nat → Option Nat} {n cn cnt : Nat} {ids : Nat → Int32} {sz mc ms : Nat} {QQ : (Nat → Prop) → Array Value → State → Outcome → State → Prop}
    (hy : plainName y.cls = true) (hn : (lg_sl av).length ≤ maxL)
    (body : ∀ (p : Program) (e : Env) (s : State) (m : MethodId) (below : List Frame) (meth : Method) (c : Code) (ls : Array Slot) (AA : Nat → Prop), CallFix p m c cc maxL s av.toArray gw y.cls → meth.sig.returnType = ret → meth.locks = false → CC D x u i g w cI cW LP f wv n cn cnt ids AA s.heap s s.heap [] → lv_has ls maxL (lv_args 0 av) →
      W p l e rm s m av.toArray below meth c s.heap [] 0 0 (MQ below (QQ AA) av.toArray s mc ms AA) (F0 m 0 ls [])) : Met l y (gws y cc maxL ret) rm (va_Pc av (fun U => CPre D x u i g w cI cW LP f wv n cn cnt ids sz U U.heap)) (QQ (va_A (wC x u i g w cI cW LP f wv n cn cnt ids) sz)) mc ms (va_A (wC x u i g w cI cW LP f wv n cn cnt ids) sz) := by
  refine met_gm (X := CX g LP wv n cn cnt) hy hn ?_
  intro p e s m below meth c ls AA S hr hlocks hnm hX hG hl
  exact body p e s m below meth c ls AA S hr hlocks ⟨hX.1, hX.2, hG⟩ hl
