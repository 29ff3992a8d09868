/-! the reference, for writing -/
abbrev MS : Type := Nat × Nat × Int32 × (Nat → Nat → Int32)
def wM (y : Nat) (a : Nat → Nat) (cI : ClassId) (n d : Nat) (th : Int32) (A : Nat → Nat → Int32) : va_W := [(y, .inr (3, fM a n d th)), (a 0, .inl (cI, 512, .inl (A 0))), (a 1, .inl (cI, 512, .inl (A 1))), (a 2, .inl (cI, 512, .inl (A 2))), (a 3, .inl (cI, 512, .inl (A 3))), (a 4, .inl (cI, 1024, .inl (A 4))), (a 5, .inl (cI, 1024, .inl (A 5))), (a 6, .inl (cI, 1024, .inl (A 6))), (a 7, .inl (cI, 1024, .inl (A 7))), (a 8, .inl (cI, 512, .inl (A 8))), (a 9, .inl (cI, 512, .inl (A 9)))]
def MM (D : va_G) (y : Nat) (a : Nat → Nat) (cI : ClassId) (n d : Nat) (th : Int32) (A : Nat → Nat → Int32) (AA : Nat → Prop) (H0 : Heap) (s : State) (H : Heap) (locs : List Loc) : Prop :=
  va_P D cl_ (wM y a cI n d th A) H ∧ va_D AA (wM y a cI n d th A) ∧ va_K D cl_ [(cI, .int)] s ∧ va_S AA H0 H locs ∧ (∀ q, H0.size ≤ q → AA q) ∧ n ≤ 512 ∧ d ≤ 1024
def MPre (D : va_G) (y : Nat) (a : Nat → Nat) (cI : ClassId) (n d : Nat) (th : Int32) (A : Nat → Nat → Int32) (sz : Nat) (U : State) (H : Heap) : Prop := H.size = sz ∧ va_P D cl_ (wM y a cI n d th A) H ∧ va_K D cl_ [(cI, .int)] U ∧ va_D (fun _ => True) (wM y a cI n d th A) ∧ n ≤ 512 ∧ d ≤ 1024
def MB (D : va_G) (y : Nat) (a : Nat → Nat) (cI : ClassId) (AA : Nat → Prop) (u : MS) (t : State) : Prop := va_P D cl_ (wM y a cI u.1 u.2.1 u.2.2.1 u.2.2.2) t.heap ∧ va_K D cl_ [(cI, .int)] t ∧ va_D AA (wM y a cI u.1 u.2.1 u.2.2.1 u.2.2.2) ∧ u.1 ≤ 512 ∧ u.2.1 ≤ 1024
theorem MPre.mv {D : va_G} {y : Nat} {a : Nat → Nat} {cI : ClassId} {n d : Nat} {th : Int32} {A : Nat → Nat → Int32} {sz : Nat} {u U : State} {H : Heap} (hW : u.WarmedH U.vm) (h : MPre D y a cI n d th A sz u H) : MPre D y a cI n d th A sz U H := ⟨h.1, h.2.1, va_K.moved hW.alike h.2.2.1, h.2.2.2⟩
section MMS
variable {D : va_G} {y : Nat} {a : Nat → Nat} {cI : ClassId} {n d : Nat} {th : Int32} {A : Nat → Nat → Int32} {AA : Nat → Prop} {H0 : Heap} {s : State} {H : Heap} {locs : List Loc}
theorem MM.rd (h : MM D y a cI n d th A AA H0 s H locs) : RdM D y a n d th A s H := by
  obtain ⟨hP, hD, hK, hS, hA, h5, h6⟩ := h
  refine ⟨cI, hP 0 _ rfl, fun j hj => ?_, hK, h5, h6⟩
  match j, hj with
  | 0, _ => exact hP 1 _ rfl
  | 1, _ => exact hP 2 _ rfl
  | 2, _ => exact hP 3 _ rfl
  | 3, _ => exact hP 4 _ rfl
  | 4, _ => exact hP 5 _ rfl
  | 5, _ => exact hP 6 _ rfl
  | 6, _ => exact hP 7 _ rfl
  | 7, _ => exact hP 8 _ rfl
  | 8, _ => exact hP 9 _ rfl
  | 9, _ => exact hP 10 _ rfl
theorem MM.recv (h : MM D y a cI n d th A AA H0 s H locs) : ∃ cell : Cell, H[y]? = some cell ∧ cell.vm.isStatics = false ∧ s.vm.findClass RX3 = some cell.cls := h.rd.recv
theorem MM.pre (h : MM D y a cI n d th A AA H0 s H locs) : MPre D y a cI n d th A H.size s H := ⟨rfl, h.1, h.2.2.1, h.2.1.weaken (fun _ _ _ _ => trivial), h.2.2.2.2.2⟩
theorem MM.free (h : MM D y a cI n d th A AA H0 s H locs) : ∀ q, va_A (wM y a cI n d th A) H.size q → AA q := va_free h.2.1 h.2.2.2.1 h.2.2.2.2.1 [0, 1, 2, 3, 4, 5, 6, 7, 8, 9, 10] rfl
theorem MM.S (h : MM D y a cI n d th A AA H0 s H locs) : va_S AA H0 H locs := h.2.2.2.1
theorem MM.bd (h : MM D y a cI n d th A AA H0 s H locs) : n ≤ 512 ∧ d ≤ 1024 := h.2.2.2.2.2
theorem MM.out {t : State} (h : MM D y a cI n d th A AA s.heap s H locs) (ht : t.heap = H) (hW : s.WarmedH t.vm) : MB D y a cI AA (n, d, th, A) t ∧ va_F AA s t := ⟨⟨by rw [ht]; exact h.1, va_K.moved hW.alike h.2.2.1, h.2.1, h.2.2.2.2.2⟩, h.2.2.2.1.F ht⟩
theorem MM.back {u : MS} {t : State} {H1 : Heap} {locs1 : List Loc} (h : MM D y a cI n d th A AA H0 s H locs) (ht : t.heap = H1) (hB : MB D y a cI (va_A (wM y a cI n d th A) H.size) u t) (hS : va_S AA H0 H1 locs1) : MM D y a cI u.1 u.2.1 u.2.2.1 u.2.2.2 AA H0 s H1 locs1 :=
  ⟨by rw [← ht]; exact hB.1, hB.2.2.1.weaken (fun _ q _ hq => h.free q.1 hq), h.2.2.1, hS, h.2.2.2.2.1, hB.2.2.2⟩
end MMS
section MMW
variable {p : Program} {l : Launch} {e : Env} {R : Room} {s : State} {m : MethodId} {args : Array Value} {below : List Frame} {meth : Method} {c : Code} {H : Heap} {locs : List Loc} {cells slots : Nat} {Q : State → Prop} {cc : ByteArray} {nL pc : Nat} {ls : Array Slot} {rest : List Value} {D : va_G} {y : Nat} {a : Nat → Nat} {cI : ClassId} {n d : Nat} {th : Int32} {A : Nat → Nat → Int32} {AA : Nat → Prop} {H0 : Heap}
theorem mw_thrown (S : CallFix p m c cc nL s args gw RX3) (hM : MM D y a cI n d th A AA H0 s H locs) {v : Int32} (hdg : decode cc pc = .ok (.putfield 40, 3)) (kk : ∀ (H : Heap) (locs : List Loc), MM D y a cI n d v A AA H0 s H locs → W p l e R s m args below meth c H locs cells slots Q (F0 m (pc + 3) ls rest)) : W p l e R s m args below meth c H locs cells slots Q (F0 m pc ls (.int (v) :: .ref y :: rest)) := by
  obtain ⟨hx, hb, hml, hown, hg⟩ := S
  obtain ⟨hP, hD, hK, hS, hA, h5, h6⟩ := hM
  exact va_put (D := D) (ci := 3) (v := .int (v)) (ty := .int) (C := RX3) (T := TX3) (N := 13) hx hb hg inX3 tyX3 tyX3_ok nmX3 hown hK hP hD hS 0 rfl rfl 0 (by decide) (hg _ wk_349) (fun _ h9 => h9) rfl (by decide +kernel) rfl rfl (Nat.le_of_ble_eq_true rfl) hdg (fun H1 locs1 hP hD hS => kk H1 locs1 ⟨hP, hD, hK, hS, hA, h5, h6⟩)
theorem mw_many (S : CallFix p m c cc nL s args gw RX3) (hM : MM D y a cI n d th A AA H0 s H locs) {v : Nat} (hv : v ≤ 512) (hdg : decode cc pc = .ok (.putfield 44, 3)) (kk : ∀ (H : Heap) (locs : List Loc), MM D y a cI v d th A AA H0 s H locs → W p l e R s m args below meth c H locs cells slots Q (F0 m (pc + 3) ls rest)) : W p l e R s m args below meth c H locs cells slots Q (F0 m pc ls (.int (nI v) :: .ref y :: rest)) := by
  obtain ⟨hx, hb, hml, hown, hg⟩ := S
  obtain ⟨hP, hD, hK, hS, hA, h5, h6⟩ := hM
  exact va_put (D := D) (ci := 3) (v := .int (nI v)) (ty := .int) (C := RX3) (T := TX3) (N := 13) hx hb hg inX3 tyX3 tyX3_ok nmX3 hown hK hP hD hS 0 rfl rfl 1 (by decide) (hg _ wk_350) (fun _ h9 => h9) rfl (by decide +kernel) rfl rfl (Nat.le_of_ble_eq_true rfl) hdg (fun H1 locs1 hP hD hS => kk H1 locs1 ⟨hP, hD, hK, hS, hA, hv, h6⟩)
theorem mw_done (S : CallFix p m c cc nL s args gw RX3) (hM : MM D y a cI n d th A AA H0 s H locs) {v : Nat} (hv : v ≤ 1024) (hdg : decode cc pc = .ok (.putfield 52, 3)) (kk : ∀ (H : Heap) (locs : List Loc), MM D y a cI n v th A AA H0 s H locs → W p l e R s m args below meth c H locs cells slots Q (F0 m (pc + 3) ls rest)) : W p l e R s m args below meth c H locs cells slots Q (F0 m pc ls (.int (nI v) :: .ref y :: rest)) := by
  obtain ⟨hx, hb, hml, hown, hg⟩ := S
  obtain ⟨hP, hD, hK, hS, hA, h5, h6⟩ := hM
  exact va_put (D := D) (ci := 3) (v := .int (nI v)) (ty := .int) (C := RX3) (T := TX3) (N := 13) hx hb hg inX3 tyX3 tyX3_ok nmX3 hown hK hP hD hS 0 rfl rfl 6 (by decide) (hg _ wk_355) (fun _ h9 => h9) rfl (by decide +kernel) rfl rfl (Nat.le_of_ble_eq_true rfl) hdg (fun H1 locs1 hP hD hS => kk H1 locs1 ⟨hP, hD, hK, hS, hA, h5, hv⟩)
theorem mw_ast0 (S : CallFix p m c cc nL s args gw RX3) (hM : MM D y a cI n d th A AA H0 s H locs) {k : Nat} {v : Int32} (hk : k < 512) (hdg : decode cc pc = .ok (.iastore, 1)) (kk : ∀ (H : Heap) (locs : List Loc) (A1 : Nat → Nat → Int32), A1 = va_up A 0 (upd (A 0) k v) → MM D y a cI n d th A1 AA H0 s H locs → W p l e R s m args below meth c H locs cells slots Q (F0 m (pc + 1) ls rest)) : W p l e R s m args below meth c H locs cells slots Q (F0 m pc ls (.int v :: .int (nI k) :: .ref (a 0) :: rest)) := by
  obtain ⟨hx, hb, hml, hown, hg⟩ := S
  obtain ⟨hP, hD, hK, hS, hA, h5, h6⟩ := hM
  refine va_iast (D := D) hx hb hK hP hD hS 1 0 rfl rfl (vp_in_nI hk (by omega)) hdg (fun H1 locs1 hP hD hS => kk H1 locs1 _ rfl ⟨?_, ?_, hK, hS, hA, h5, h6⟩)
  · rw [nI_clamp (by omega)] at hP; exact hP
  · rw [nI_clamp (by omega)] at hD; exact hD
theorem mw_ast1 (S : CallFix p m c cc nL s args gw RX3) (hM : MM D y a cI n d th A AA H0 s H locs) {k : Nat} {v : Int32} (hk : k < 512) (hdg : decode cc pc = .ok (.iastore, 1)) (kk : ∀ (H : Heap) (locs : List Loc) (A1 : Nat → Nat → Int32), A1 = va_up A 1 (upd (A 1) k v) → MM D y a cI n d th A1 AA H0 s H locs → W p l e R s m args below meth c H locs cells slots Q (F0 m (pc + 1) ls rest)) : W p l e R s m args below meth c H locs cells slots Q (F0 m pc ls (.int v :: .int (nI k) :: .ref (a 1) :: rest)) := by
  obtain ⟨hx, hb, hml, hown, hg⟩ := S
  obtain ⟨hP, hD, hK, hS, hA, h5, h6⟩ := hM
  refine va_iast (D := D) hx hb hK hP hD hS 2 0 rfl rfl (vp_in_nI hk (by omega)) hdg (fun H1 locs1 hP hD hS => kk H1 locs1 _ rfl ⟨?_, ?_, hK, hS, hA, h5, h6⟩)
  · rw [nI_clamp (by omega)] at hP; exact hP
  · rw [nI_clamp (by omega)] at hD; exact hD
theorem mw_ast2 (S : CallFix p m c cc nL s args gw RX3) (hM : MM D y a cI n d th A AA H0 s H locs) {k : Nat} {v : Int32} (hk : k < 512) (hdg : decode cc pc = .ok (.iastore, 1)) (kk : ∀ (H : Heap) (locs : List Loc) (A1 : Nat → Nat → Int32), A1 = va_up A 2 (upd (A 2) k v) → MM D y a cI n d th A1 AA H0 s H locs → W p l e R s m args below meth c H locs cells slots Q (F0 m (pc + 1) ls rest)) : W p l e R s m args below meth c H locs cells slots Q (F0 m pc ls (.int v :: .int (nI k) :: .ref (a 2) :: rest)) := by
  obtain ⟨hx, hb, hml, hown, hg⟩ := S
  obtain ⟨hP, hD, hK, hS, hA, h5, h6⟩ := hM
  refine va_iast (D := D) hx hb hK hP hD hS 3 0 rfl rfl (vp_in_nI hk (by omega)) hdg (fun H1 locs1 hP hD hS => kk H1 locs1 _ rfl ⟨?_, ?_, hK, hS, hA, h5, h6⟩)
  · rw [nI_clamp (by omega)] at hP; exact hP
  · rw [nI_clamp (by omega)] at hD; exact hD
theorem mw_ast3 (S : CallFix p m c cc nL s args gw RX3) (hM : MM D y a cI n d th A AA H0 s H locs) {k : Nat} {v : Int32} (hk : k < 512) (hdg : decode cc pc = .ok (.iastore, 1)) (kk : ∀ (H : Heap) (locs : List Loc) (A1 : Nat → Nat → Int32), A1 = va_up A 3 (upd (A 3) k v) → MM D y a cI n d th A1 AA H0 s H locs → W p l e R s m args below meth c H locs cells slots Q (F0 m (pc + 1) ls rest)) : W p l e R s m args below meth c H locs cells slots Q (F0 m pc ls (.int v :: .int (nI k) :: .ref (a 3) :: rest)) := by
  obtain ⟨hx, hb, hml, hown, hg⟩ := S
  obtain ⟨hP, hD, hK, hS, hA, h5, h6⟩ := hM
  refine va_iast (D := D) hx hb hK hP hD hS 4 0 rfl rfl (vp_in_nI hk (by omega)) hdg (fun H1 locs1 hP hD hS => kk H1 locs1 _ rfl ⟨?_, ?_, hK, hS, hA, h5, h6⟩)
  · rw [nI_clamp (by omega)] at hP; exact hP
  · rw [nI_clamp (by omega)] at hD; exact hD
theorem mw_ast4 (S : CallFix p m c cc nL s args gw RX3) (hM : MM D y a cI n d th A AA H0 s H locs) {k : Nat} {v : Int32} (hk : k < 1024) (hdg : decode cc pc = .ok (.iastore, 1)) (kk : ∀ (H : Heap) (locs : List Loc) (A1 : Nat → Nat → Int32), A1 = va_up A 4 (upd (A 4) k v) → MM D y a cI n d th A1 AA H0 s H locs → W p l e R s m args below meth c H locs cells slots Q (F0 m (pc + 1) ls rest)) : W p l e R s m args below meth c H locs cells slots Q (F0 m pc ls (.int v :: .int (nI k) :: .ref (a 4) :: rest)) := by
  obtain ⟨hx, hb, hml, hown, hg⟩ := S
  obtain ⟨hP, hD, hK, hS, hA, h5, h6⟩ := hM
  refine va_iast (D := D) hx hb hK hP hD hS 5 0 rfl rfl (vp_in_nI hk (by omega)) hdg (fun H1 locs1 hP hD hS => kk H1 locs1 _ rfl ⟨?_, ?_, hK, hS, hA, h5, h6⟩)
  · rw [nI_clamp (by omega)] at hP; exact hP
  · rw [nI_clamp (by omega)] at hD; exact hD
theorem mw_ast5 (S : CallFix p m c cc nL s args gw RX3) (hM : MM D y a cI n d th A AA H0 s H locs) {k : Nat} {v : Int32} (hk : k < 1024) (hdg : decode cc pc = .ok (.iastore, 1)) (kk : ∀ (H : Heap) (locs : List Loc) (A1 : Nat → Nat → Int32), A1 = va_up A 5 (upd (A 5) k v) → MM D y a cI n d th A1 AA H0 s H locs → W p l e R s m args below meth c H locs cells slots Q (F0 m (pc + 1) ls rest)) : W p l e R s m args below meth c H locs cells slots Q (F0 m pc ls (.int v :: .int (nI k) :: .ref (a 5) :: rest)) := by
  obtain ⟨hx, hb, hml, hown, hg⟩ := S
  obtain ⟨hP, hD, hK, hS, hA, h5, h6⟩ := hM
  refine va_iast (D := D) hx hb hK hP hD hS 6 0 rfl rfl (vp_in_nI hk (by omega)) hdg (fun H1 locs1 hP hD hS => kk H1 locs1 _ rfl ⟨?_, ?_, hK, hS, hA, h5, h6⟩)
  · rw [nI_clamp (by omega)] at hP; exact hP
  · rw [nI_clamp (by omega)] at hD; exact hD
theorem mw_ast6 (S : CallFix p m c cc nL s args gw RX3) (hM : MM D y a cI n d th A AA H0 s H locs) {k : Nat} {v : Int32} (hk : k < 1024) (hdg : decode cc pc = .ok (.iastore, 1)) (kk : ∀ (H : Heap) (locs : List Loc) (A1 : Nat → Nat → Int32), A1 = va_up A 6 (upd (A 6) k v) → MM D y a cI n d th A1 AA H0 s H locs → W p l e R s m args below meth c H locs cells slots Q (F0 m (pc + 1) ls rest)) : W p l e R s m args below meth c H locs cells slots Q (F0 m pc ls (.int v :: .int (nI k) :: .ref (a 6) :: rest)) := by
  obtain ⟨hx, hb, hml, hown, hg⟩ := S
  obtain ⟨hP, hD, hK, hS, hA, h5, h6⟩ := hM
  refine va_iast (D := D) hx hb hK hP hD hS 7 0 rfl rfl (vp_in_nI hk (by omega)) hdg (fun H1 locs1 hP hD hS => kk H1 locs1 _ rfl ⟨?_, ?_, hK, hS, hA, h5, h6⟩)
  · rw [nI_clamp (by omega)] at hP; exact hP
  · rw [nI_clamp (by omega)] at hD; exact hD
theorem mw_ast7 (S : CallFix p m c cc nL s args gw RX3) (hM : MM D y a cI n d th A AA H0 s H locs) {k : Nat} {v : Int32} (hk : k < 1024) (hdg : decode cc pc = .ok (.iastore, 1)) (kk : ∀ (H : Heap) (locs : List Loc) (A1 : Nat → Nat → Int32), A1 = va_up A 7 (upd (A 7) k v) → MM D y a cI n d th A1 AA H0 s H locs → W p l e R s m args below meth c H locs cells slots Q (F0 m (pc + 1) ls rest)) : W p l e R s m args below meth c H locs cells slots Q (F0 m pc ls (.int v :: .int (nI k) :: .ref (a 7) :: rest)) := by
  obtain ⟨hx, hb, hml, hown, hg⟩ := S
  obtain ⟨hP, hD, hK, hS, hA, h5, h6⟩ := hM
  refine va_iast (D := D) hx hb hK hP hD hS 8 0 rfl rfl (vp_in_nI hk (by omega)) hdg (fun H1 locs1 hP hD hS => kk H1 locs1 _ rfl ⟨?_, ?_, hK, hS, hA, h5, h6⟩)
  · rw [nI_clamp (by omega)] at hP; exact hP
  · rw [nI_clamp (by omega)] at hD; exact hD
theorem mw_ast8 (S : CallFix p m c cc nL s args gw RX3) (hM : MM D y a cI n d th A AA H0 s H locs) {k : Nat} {v : Int32} (hk : k < 512) (hdg : decode cc pc = .ok (.iastore, 1)) (kk : ∀ (H : Heap) (locs : List Loc) (A1 : Nat → Nat → Int32), A1 = va_up A 8 (upd (A 8) k v) → MM D y a cI n d th A1 AA H0 s H locs → W p l e R s m args below meth c H locs cells slots Q (F0 m (pc + 1) ls rest)) : W p l e R s m args below meth c H locs cells slots Q (F0 m pc ls (.int v :: .int (nI k) :: .ref (a 8) :: rest)) := by
  obtain ⟨hx, hb, hml, hown, hg⟩ := S
  obtain ⟨hP, hD, hK, hS, hA, h5, h6⟩ := hM
  refine va_iast (D := D) hx hb hK hP hD hS 9 0 rfl rfl (vp_in_nI hk (by omega)) hdg (fun H1 locs1 hP hD hS => kk H1 locs1 _ rfl ⟨?_, ?_, hK, hS, hA, h5, h6⟩)
  · rw [nI_clamp (by omega)] at hP; exact hP
  · rw [nI_clamp (by omega)] at hD; exact hD
theorem mw_ast9 (S : CallFix p m c cc nL s args gw RX3) (hM : MM D y a cI n d th A AA H0 s H locs) {k : Nat} {v : Int32} (hk : k < 512) (hdg : decode cc pc = .ok (.iastore, 1)) (kk : ∀ (H : Heap) (locs : List Loc) (A1 : Nat → Nat → Int32), A1 = va_up A 9 (upd (A 9) k v) → MM D y a cI n d th A1 AA H0 s H locs → W p l e R s m args below meth c H locs cells slots Q (F0 m (pc + 1) ls rest)) : W p l e R s m args below meth c H locs cells slots Q (F0 m pc ls (.int v :: .int (nI k) :: .ref (a 9) :: rest)) := by
  obtain ⟨hx, hb, hml, hown, hg⟩ := S
  obtain ⟨hP, hD, hK, hS, hA, h5, h6⟩ := hM
  refine va_iast (D := D) hx hb hK hP hD hS 10 0 rfl rfl (vp_in_nI hk (by omega)) hdg (fun H1 locs1 hP hD hS => kk H1 locs1 _ rfl ⟨?_, ?_, hK, hS, hA, h5, h6⟩)
  · rw [nI_clamp (by omega)] at hP; exact hP
  · rw [nI_clamp (by omega)] at hD; exact hD
end MMW
/-- the head of a method of the reference that writes -/
theorem met_mm {l : Launch} {y : MethodName} {cc : ByteArray} {maxL : Nat} {ret : Option FieldType} {rm : Room} {av : List Value} {D : va_G} {yy : Nat} {a : Nat → Nat} {cI : ClassId} {n d : Nat} {th : Int32} {A : Nat → Nat → Int32} {sz : Nat} {QQ : (Nat → Prop) → Array Value → State → Outcome → State → Prop}
    (hy : plainName y.cls = true) (hn : (lg_sl av).length ≤ maxL)
    (body : ∀ (p : Program) (e : Env) (s : State) (m : MethodId) (below : List Frame) (meth : Method) (c : Code) (ls : Array Slot) (AA : Nat → Prop), CallFix p m c cc maxL s av.toArray gw y.cls → meth.sig.returnType = ret → meth.locks = false → MM D yy a cI n d th A AA s.heap s s.heap [] → lv_has ls maxL (lv_args 0 av) →
      W p l e rm s m av.toArray below meth c s.heap [] 0 0 (MQ below (QQ AA) av.toArray s 0 0 AA) (F0 m 0 ls [])) : Met l y (gws y cc maxL ret) rm (va_Pc av (fun U => MPre D yy a cI n d th A sz U U.heap)) (QQ (va_A (wM yy a cI n d th A) sz)) 0 0 (va_A (wM yy a cI n d th A) sz) := by
  refine met_go hy hn ?_
  intro p e s m below meth c ls S hr hlocks hnm hB hl
  obtain ⟨hsz, hP, hK, hD, h5, h6⟩ := hB
  subst hsz
  exact body p e s m below meth c ls _ S hr hlocks ⟨hP, hD.self, hK, va_S.rf, fun q h => Or.inr h, h5, h6⟩ hl
