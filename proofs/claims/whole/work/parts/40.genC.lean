/-! worlds for writing, in general -/
theorem set_same {α : Type} {l : List α} {k : Nat} {x : α} (h : l[k]? = some x) : l.set k x = l := by
  apply List.ext_getElem?
  intro j
  by_cases hj : j = k
  · subst hj
    rw [List.getElem?_set_self (List.getElem?_eq_some_iff.mp h).1, h]
  · rw [List.getElem?_set_ne (Ne.symm hj)]
def GPre (D : va_G) (ws : va_W) (tys : List (ClassId × FieldType)) (sz : Nat) (U : State) (H : Heap) : Prop := H.size = sz ∧ va_P D cl_ ws H ∧ va_K D cl_ tys U ∧ va_D (fun _ => True) ws
def GB (D : va_G) (tys : List (ClassId × FieldType)) (AA : Nat → Prop) (u : va_W) (t : State) : Prop := va_P D cl_ u t.heap ∧ va_K D cl_ tys t ∧ va_D AA u
def GM (D : va_G) (ws : va_W) (tys : List (ClassId × FieldType)) (AA : Nat → Prop) (H0 : Heap) (s : State) (H : Heap) (locs : List Loc) : Prop := va_P D cl_ ws H ∧ va_D AA ws ∧ va_K D cl_ tys s ∧ va_S AA H0 H locs ∧ ∀ q, H0.size ≤ q → AA q
theorem GPre.mv {D : va_G} {ws : va_W} {tys : List (ClassId × FieldType)} {sz : Nat} {u U : State} {H : Heap} (hW : u.WarmedH U.vm) (h : GPre D ws tys sz u H) : GPre D ws tys sz U H := ⟨h.1, h.2.1, va_K.moved hW.alike h.2.2.1, h.2.2.2⟩
section GMS
variable {D : va_G} {ws : va_W} {tys : List (ClassId × FieldType)} {AA : Nat → Prop} {H0 : Heap} {s : State} {H : Heap} {locs : List Loc}
theorem GM.pre (h : GM D ws tys AA H0 s H locs) : GPre D ws tys H.size s H := ⟨rfl, h.1, h.2.2.1, h.2.1.weaken (fun _ _ _ _ => trivial)⟩
theorem GM.free (h : GM D ws tys AA H0 s H locs) : ∀ q, va_A ws H.size q → AA q := fun q hq => by
  rcases hq with ⟨k, e, hk⟩ | hq
  · exact h.2.1.2 k (q, e) hk
  · exact h.2.2.2.2 q (Nat.le_trans h.2.2.2.1.1 hq)
theorem GM.S (h : GM D ws tys AA H0 s H locs) : va_S AA H0 H locs := h.2.2.2.1
theorem GM.out {t : State} (h : GM D ws tys AA s.heap s H locs) (ht : t.heap = H) (hW : s.WarmedH t.vm) : GB D tys AA ws t ∧ va_F AA s t := ⟨⟨by rw [ht]; exact h.1, va_K.moved hW.alike h.2.2.1, h.2.1⟩, h.2.2.2.1.F ht⟩
theorem GM.back {u : va_W} {tys1 : List (ClassId × FieldType)} {t : State} {H1 : Heap} {locs1 : List Loc} (h : GM D ws tys AA H0 s H locs) (ht : t.heap = H1) (hB : GB D tys1 (va_A ws H.size) u t) (hS : va_S AA H0 H1 locs1) (hK1 : va_K D cl_ tys1 s) : GM D u tys1 AA H0 s H1 locs1 :=
  ⟨by rw [← ht]; exact hB.1, hB.2.2.weaken (fun _ q _ hq => h.free q.1 hq), hK1, hS, h.2.2.2.2⟩
end GMS
theorem met_gm {l : Launch} {y : MethodName} {cc : ByteArray} {maxL : Nat} {ret : Option FieldType} {rm : Room} {av : List Value} {D : va_G} {ws : va_W} {tys : List (ClassId × FieldType)} {sz mc ms : Nat} {X : State → Prop} {QQ : (Nat → Prop) → Array Value → State → Outcome → State → Prop}
    (hy : plainName y.cls = true) (hn : (lg_sl av).length ≤ maxL)
    (body : ∀ (p : Program) (e : Env) (s : State) (m : MethodId) (below : List Frame) (meth : Method) (c : Code) (ls : Array Slot) (AA : Nat → Prop), CallFix p m c cc maxL s av.toArray gw y.cls → meth.sig.returnType = ret → meth.locks = false → meth.name = y.name → X s → GM D ws tys AA s.heap s s.heap [] → lv_has ls maxL (lv_args 0 av) →
      W p l e rm s m av.toArray below meth c s.heap [] 0 0 (MQ below (QQ AA) av.toArray s mc ms AA) (F0 m 0 ls [])) : Met l y (gws y cc maxL ret) rm (va_Pc av (fun U => GPre D ws tys sz U U.heap ∧ X U)) (QQ (va_A ws sz)) mc ms (va_A ws sz) := by
  refine met_go hy hn ?_
  intro p e s m below meth c ls S hr hlocks hnm hB hl
  obtain ⟨⟨hsz, hP, hK, hD⟩, hX⟩ := hB
  subst hsz
  exact body p e s m below meth c ls _ S hr hlocks hnm hX ⟨hP, hD.self, hK, va_S.rf, fun q h => Or.inr h⟩ hl
/-! an element among other cells -/
theorem eF_set (f : Nat → Int32) {j : Nat} (hj : j < 9) (v : Int32) : (eF f).set j (.int v) = eF (va_up f j v) := by
  match j, hj with
  | 0, _ => rfl
  | 1, _ => rfl
  | 2, _ => rfl
  | 3, _ => rfl
  | 4, _ => rfl
  | 5, _ => rfl
  | 6, _ => rfl
  | 7, _ => rfl
  | 8, _ => rfl
def GE (D : va_G) (ws : va_W) (k b : Nat) (fv : Nat → Int32) (tys : List (ClassId × FieldType)) (AA : Nat → Prop) (H0 : Heap) (s : State) (H : Heap) (locs : List Loc) : Prop := k < ws.length ∧ GM D (ws.set k (b, .inr (0, eF fv))) tys AA H0 s H locs
theorem va_K.nil {D : va_G} {cl : List vw_C} {tys : List (ClassId × FieldType)} {U : State} (h : va_K D cl tys U) : va_K D cl [] U := ⟨h.1, fun k q hk => by simp at hk⟩
theorem va_K.one {D : va_G} {cl : List vw_C} {tys : List (ClassId × FieldType)} {U : State} {t0 : Nat} {x : ClassId × FieldType} (h : va_K D cl tys U) (ht : tys[t0]? = some x) : va_K D cl [x] U := ⟨h.1, fun k q hk => by
  match k, hk with
  | 0, hk => cases hk; exact h.2 t0 _ ht
  | k + 1, hk => simp at hk⟩
theorem GE.rd {D : va_G} {ws : va_W} {k b : Nat} {fv : Nat → Int32} {tys : List (ClassId × FieldType)} {AA : Nat → Prop} {H0 : Heap} {s : State} {H : Heap} {locs : List Loc} (h : GE D ws k b fv tys AA H0 s H locs) : RdE D b fv s H := ⟨h.2.1 k _ (List.getElem?_set_self h.1), h.2.2.2.1.nil⟩
theorem GE.st {D : va_G} {ws : va_W} {k b : Nat} {fv : Nat → Int32} {tys : List (ClassId × FieldType)} {AA : Nat → Prop} {H0 : Heap} {s : State} {H : Heap} {locs : List Loc} (h : GM D ws tys AA H0 s H locs) (hk : ws[k]? = some (b, .inr (0, eF fv))) : GE D ws k b fv tys AA H0 s H locs := ⟨(List.getElem?_eq_some_iff.mp hk).1, by rw [set_same hk]; exact h⟩
section GER
variable {p : Program} {l : Launch} {e : Env} {R : Room} {s : State} {m : MethodId} {args : Array Value} {below : List Frame} {meth : Method} {c : Code} {H : Heap} {locs : List Loc} {cells slots : Nat} {Q : State → Prop} {cc : ByteArray} {nL pc : Nat} {ls : Array Slot} {rest : List Value} {D : va_G} {ws : va_W} {k b : Nat} {fv : Nat → Int32} {tys : List (ClassId × FieldType)} {AA : Nat → Prop} {H0 : Heap}
theorem gE_id (S : CallFix p m c cc nL s args gw RX0) (hG : GE D ws k b fv tys AA H0 s H locs) (hnm : meth.name = "<init>") {v : Int32} (hdg : decode cc pc = .ok (.putfield 9, 3)) (kk : ∀ (H : Heap) (locs : List Loc), GE D ws k b (va_up fv 0 v) tys AA H0 s H locs → W p l e R s m args below meth c H locs cells slots Q (F0 m (pc + 3) ls rest)) : W p l e R s m args below meth c H locs cells slots Q (F0 m pc ls (.int v :: .ref b :: rest)) := by
  obtain ⟨hx, hb, hml, hown, hg⟩ := S
  obtain ⟨hk, hP, hD, hK, hS, hA⟩ := hG
  refine va_putF (D := D) (ci := 0) (v := .int v) (ty := .int) (C := RX0) (T := TX0) (N := 9) hx hb hg inX0 tyX0 tyX0_ok nmX0 hown hK hP hD hS k (List.getElem?_set_self hk) rfl 0 (by decide) (hg _ wk_40) (fun _ h9 => h9) rfl hnm rfl (by decide +kernel) rfl rfl (Nat.le_of_ble_eq_true rfl) hdg (fun H1 locs1 hP hD hS => kk H1 locs1 ⟨hk, ?_, ?_, hK, hS, hA⟩)
  · rw [List.set_set, eF_set _ (by decide)] at hP; exact hP
  · rw [List.set_set, eF_set _ (by decide)] at hD; exact hD
theorem gE_behind (S : CallFix p m c cc nL s args gw RX0) (hG : GE D ws k b fv tys AA H0 s H locs) (hnm : meth.name = "<init>") {v : Int32} (hdg : decode cc pc = .ok (.putfield 15, 3)) (kk : ∀ (H : Heap) (locs : List Loc), GE D ws k b (va_up fv 1 v) tys AA H0 s H locs → W p l e R s m args below meth c H locs cells slots Q (F0 m (pc + 3) ls rest)) : W p l e R s m args below meth c H locs cells slots Q (F0 m pc ls (.int v :: .ref b :: rest)) := by
  obtain ⟨hx, hb, hml, hown, hg⟩ := S
  obtain ⟨hk, hP, hD, hK, hS, hA⟩ := hG
  refine va_putF (D := D) (ci := 0) (v := .int v) (ty := .int) (C := RX0) (T := TX0) (N := 9) hx hb hg inX0 tyX0 tyX0_ok nmX0 hown hK hP hD hS k (List.getElem?_set_self hk) rfl 1 (by decide) (hg _ wk_42) (fun _ h9 => h9) rfl hnm rfl (by decide +kernel) rfl rfl (Nat.le_of_ble_eq_true rfl) hdg (fun H1 locs1 hP hD hS => kk H1 locs1 ⟨hk, ?_, ?_, hK, hS, hA⟩)
  · rw [List.set_set, eF_set _ (by decide)] at hP; exact hP
  · rw [List.set_set, eF_set _ (by decide)] at hD; exact hD
theorem gE_way (S : CallFix p m c cc nL s args gw RX0) (hG : GE D ws k b fv tys AA H0 s H locs) (hnm : meth.name = "<init>") {v : Int32} (hdg : decode cc pc = .ok (.putfield 18, 3)) (kk : ∀ (H : Heap) (locs : List Loc), GE D ws k b (va_up fv 2 v) tys AA H0 s H locs → W p l e R s m args below meth c H locs cells slots Q (F0 m (pc + 3) ls rest)) : W p l e R s m args below meth c H locs cells slots Q (F0 m pc ls (.int v :: .ref b :: rest)) := by
  obtain ⟨hx, hb, hml, hown, hg⟩ := S
  obtain ⟨hk, hP, hD, hK, hS, hA⟩ := hG
  refine va_putF (D := D) (ci := 0) (v := .int v) (ty := .int) (C := RX0) (T := TX0) (N := 9) hx hb hg inX0 tyX0 tyX0_ok nmX0 hown hK hP hD hS k (List.getElem?_set_self hk) rfl 2 (by decide) (hg _ wk_44) (fun _ h9 => h9) rfl hnm rfl (by decide +kernel) rfl rfl (Nat.le_of_ble_eq_true rfl) hdg (fun H1 locs1 hP hD hS => kk H1 locs1 ⟨hk, ?_, ?_, hK, hS, hA⟩)
  · rw [List.set_set, eF_set _ (by decide)] at hP; exact hP
  · rw [List.set_set, eF_set _ (by decide)] at hD; exact hD
theorem gE_followers (S : CallFix p m c cc nL s args gw RX0) (hG : GE D ws k b fv tys AA H0 s H locs) {v : Int32} (hdg : decode cc pc = .ok (.putfield 21, 3)) (kk : ∀ (H : Heap) (locs : List Loc), GE D ws k b (va_up fv 3 v) tys AA H0 s H locs → W p l e R s m args below meth c H locs cells slots Q (F0 m (pc + 3) ls rest)) : W p l e R s m args below meth c H locs cells slots Q (F0 m pc ls (.int v :: .ref b :: rest)) := by
  obtain ⟨hx, hb, hml, hown, hg⟩ := S
  obtain ⟨hk, hP, hD, hK, hS, hA⟩ := hG
  refine va_put (D := D) (ci := 0) (v := .int v) (ty := .int) (C := RX0) (T := TX0) (N := 9) hx hb hg inX0 tyX0 tyX0_ok nmX0 hown hK hP hD hS k (List.getElem?_set_self hk) rfl 3 (by decide) (hg _ wk_46) (fun _ h9 => h9) rfl (by decide +kernel) rfl rfl (Nat.le_of_ble_eq_true rfl) hdg (fun H1 locs1 hP hD hS => kk H1 locs1 ⟨hk, ?_, ?_, hK, hS, hA⟩)
  · rw [List.set_set, eF_set _ (by decide)] at hP; exact hP
  · rw [List.set_set, eF_set _ (by decide)] at hD; exact hD
theorem gE_sets (S : CallFix p m c cc nL s args gw RX0) (hG : GE D ws k b fv tys AA H0 s H locs) {v : Int32} (hdg : decode cc pc = .ok (.putfield 24, 3)) (kk : ∀ (H : Heap) (locs : List Loc), GE D ws k b (va_up fv 4 v) tys AA H0 s H locs → W p l e R s m args below meth c H locs cells slots Q (F0 m (pc + 3) ls rest)) : W p l e R s m args below meth c H locs cells slots Q (F0 m pc ls (.int v :: .ref b :: rest)) := by
  obtain ⟨hx, hb, hml, hown, hg⟩ := S
  obtain ⟨hk, hP, hD, hK, hS, hA⟩ := hG
  refine va_put (D := D) (ci := 0) (v := .int v) (ty := .int) (C := RX0) (T := TX0) (N := 9) hx hb hg inX0 tyX0 tyX0_ok nmX0 hown hK hP hD hS k (List.getElem?_set_self hk) rfl 4 (by decide) (hg _ wk_48) (fun _ h9 => h9) rfl (by decide +kernel) rfl rfl (Nat.le_of_ble_eq_true rfl) hdg (fun H1 locs1 hP hD hS => kk H1 locs1 ⟨hk, ?_, ?_, hK, hS, hA⟩)
  · rw [List.set_set, eF_set _ (by decide)] at hP; exact hP
  · rw [List.set_set, eF_set _ (by decide)] at hD; exact hD
theorem gE_removes (S : CallFix p m c cc nL s args gw RX0) (hG : GE D ws k b fv tys AA H0 s H locs) {v : Int32} (hdg : decode cc pc = .ok (.putfield 27, 3)) (kk : ∀ (H : Heap) (locs : List Loc), GE D ws k b (va_up fv 5 v) tys AA H0 s H locs → W p l e R s m args below meth c H locs cells slots Q (F0 m (pc + 3) ls rest)) : W p l e R s m args below meth c H locs cells slots Q (F0 m pc ls (.int v :: .ref b :: rest)) := by
  obtain ⟨hx, hb, hml, hown, hg⟩ := S
  obtain ⟨hk, hP, hD, hK, hS, hA⟩ := hG
  refine va_put (D := D) (ci := 0) (v := .int v) (ty := .int) (C := RX0) (T := TX0) (N := 9) hx hb hg inX0 tyX0 tyX0_ok nmX0 hown hK hP hD hS k (List.getElem?_set_self hk) rfl 5 (by decide) (hg _ wk_50) (fun _ h9 => h9) rfl (by decide +kernel) rfl rfl (Nat.le_of_ble_eq_true rfl) hdg (fun H1 locs1 hP hD hS => kk H1 locs1 ⟨hk, ?_, ?_, hK, hS, hA⟩)
  · rw [List.set_set, eF_set _ (by decide)] at hP; exact hP
  · rw [List.set_set, eF_set _ (by decide)] at hD; exact hD
theorem gE_standing (S : CallFix p m c cc nL s args gw RX0) (hG : GE D ws k b fv tys AA H0 s H locs) {v : Int32} (hdg : decode cc pc = .ok (.putfield 30, 3)) (kk : ∀ (H : Heap) (locs : List Loc), GE D ws k b (va_up fv 6 v) tys AA H0 s H locs → W p l e R s m args below meth c H locs cells slots Q (F0 m (pc + 3) ls rest)) : W p l e R s m args below meth c H locs cells slots Q (F0 m pc ls (.int v :: .ref b :: rest)) := by
  obtain ⟨hx, hb, hml, hown, hg⟩ := S
  obtain ⟨hk, hP, hD, hK, hS, hA⟩ := hG
  refine va_put (D := D) (ci := 0) (v := .int v) (ty := .int) (C := RX0) (T := TX0) (N := 9) hx hb hg inX0 tyX0 tyX0_ok nmX0 hown hK hP hD hS k (List.getElem?_set_self hk) rfl 6 (by decide) (hg _ wk_52) (fun _ h9 => h9) rfl (by decide +kernel) rfl rfl (Nat.le_of_ble_eq_true rfl) hdg (fun H1 locs1 hP hD hS => kk H1 locs1 ⟨hk, ?_, ?_, hK, hS, hA⟩)
  · rw [List.set_set, eF_set _ (by decide)] at hP; exact hP
  · rw [List.set_set, eF_set _ (by decide)] at hD; exact hD
theorem gE_kind (S : CallFix p m c cc nL s args gw RX0) (hG : GE D ws k b fv tys AA H0 s H locs) {v : Int32} (hdg : decode cc pc = .ok (.putfield 33, 3)) (kk : ∀ (H : Heap) (locs : List Loc), GE D ws k b (va_up fv 7 v) tys AA H0 s H locs → W p l e R s m args below meth c H locs cells slots Q (F0 m (pc + 3) ls rest)) : W p l e R s m args below meth c H locs cells slots Q (F0 m pc ls (.int v :: .ref b :: rest)) := by
  obtain ⟨hx, hb, hml, hown, hg⟩ := S
  obtain ⟨hk, hP, hD, hK, hS, hA⟩ := hG
  refine va_put (D := D) (ci := 0) (v := .int v) (ty := .int) (C := RX0) (T := TX0) (N := 9) hx hb hg inX0 tyX0 tyX0_ok nmX0 hown hK hP hD hS k (List.getElem?_set_self hk) rfl 7 (by decide) (hg _ wk_54) (fun _ h9 => h9) rfl (by decide +kernel) rfl rfl (Nat.le_of_ble_eq_true rfl) hdg (fun H1 locs1 hP hD hS => kk H1 locs1 ⟨hk, ?_, ?_, hK, hS, hA⟩)
  · rw [List.set_set, eF_set _ (by decide)] at hP; exact hP
  · rw [List.set_set, eF_set _ (by decide)] at hD; exact hD
theorem gE_value (S : CallFix p m c cc nL s args gw RX0) (hG : GE D ws k b fv tys AA H0 s H locs) {v : Int32} (hdg : decode cc pc = .ok (.putfield 36, 3)) (kk : ∀ (H : Heap) (locs : List Loc), GE D ws k b (va_up fv 8 v) tys AA H0 s H locs → W p l e R s m args below meth c H locs cells slots Q (F0 m (pc + 3) ls rest)) : W p l e R s m args below meth c H locs cells slots Q (F0 m pc ls (.int v :: .ref b :: rest)) := by
  obtain ⟨hx, hb, hml, hown, hg⟩ := S
  obtain ⟨hk, hP, hD, hK, hS, hA⟩ := hG
  refine va_put (D := D) (ci := 0) (v := .int v) (ty := .int) (C := RX0) (T := TX0) (N := 9) hx hb hg inX0 tyX0 tyX0_ok nmX0 hown hK hP hD hS k (List.getElem?_set_self hk) rfl 8 (by decide) (hg _ wk_56) (fun _ h9 => h9) rfl (by decide +kernel) rfl rfl (Nat.le_of_ble_eq_true rfl) hdg (fun H1 locs1 hP hD hS => kk H1 locs1 ⟨hk, ?_, ?_, hK, hS, hA⟩)
  · rw [List.set_set, eF_set _ (by decide)] at hP; exact hP
  · rw [List.set_set, eF_set _ (by decide)] at hD; exact hD
end GER
def ini (v1 v2 v3 : Int32) : Nat → Int32 := fun j => if j = 0 then v1 else if j = 1 then v2 else if j = 2 then v3 else if j = 6 then -1 else 0
def ofr (fv : Nat → Int32) (v1 v2 v3 : Int32) : Nat → Int32 := if fv 6 < v1 then va_up (va_up (va_up fv 6 v1) 7 v2) 8 v3 else fv
/-! the used ids among other cells -/
def GU (D : va_G) (ws : va_W) (ku ki t0 u i : Nat) (cI : ClassId) (cnt : Nat) (ids : Nat → Int32) (tys : List (ClassId × FieldType)) (AA : Nat → Prop) (H0 : Heap) (s : State) (H : Heap) (locs : List Loc) : Prop := ku < ws.length ∧ ki < ws.length ∧ ku ≠ ki ∧ tys[t0]? = some (cI, .int) ∧ cnt ≤ 1536 ∧ GM D ((ws.set ku (u, .inr (1, [.ref i, .int (nI cnt)]))).set ki (i, .inl (cI, 1536, .inl ids))) tys AA H0 s H locs
theorem GU.atu {D : va_G} {ws : va_W} {ku ki t0 u i : Nat} {cI : ClassId} {cnt : Nat} {ids : Nat → Int32} {tys : List (ClassId × FieldType)} {AA : Nat → Prop} {H0 : Heap} {s : State} {H : Heap} {locs : List Loc} (h : GU D ws ku ki t0 u i cI cnt ids tys AA H0 s H locs) : ((ws.set ku (u, .inr (1, [.ref i, .int (nI cnt)]))).set ki (i, .inl (cI, 1536, .inl ids)) : va_W)[ku]? = some (u, .inr (1, [.ref i, .int (nI cnt)])) := by
  rw [List.getElem?_set_ne (Ne.symm h.2.2.1), List.getElem?_set_self h.1]
theorem GU.ati {D : va_G} {ws : va_W} {ku ki t0 u i : Nat} {cI : ClassId} {cnt : Nat} {ids : Nat → Int32} {tys : List (ClassId × FieldType)} {AA : Nat → Prop} {H0 : Heap} {s : State} {H : Heap} {locs : List Loc} (h : GU D ws ku ki t0 u i cI cnt ids tys AA H0 s H locs) : ((ws.set ku (u, .inr (1, [.ref i, .int (nI cnt)]))).set ki (i, .inl (cI, 1536, .inl ids)) : va_W)[ki]? = some (i, .inl (cI, 1536, .inl ids)) := List.getElem?_set_self (by rw [List.length_set]; exact h.2.1)
theorem GU.rd {D : va_G} {ws : va_W} {ku ki t0 u i : Nat} {cI : ClassId} {cnt : Nat} {ids : Nat → Int32} {tys : List (ClassId × FieldType)} {AA : Nat → Prop} {H0 : Heap} {s : State} {H : Heap} {locs : List Loc} (h : GU D ws ku ki t0 u i cI cnt ids tys AA H0 s H locs) : RdU D u i cnt ids s H := ⟨cI, h.2.2.2.2.2.1 ku _ h.atu, h.2.2.2.2.2.1 ki _ h.ati, h.2.2.2.2.2.2.2.1.one h.2.2.2.1, h.2.2.2.2.1⟩
theorem GU.st {D : va_G} {ws : va_W} {ku ki t0 u i : Nat} {cI : ClassId} {cnt : Nat} {ids : Nat → Int32} {tys : List (ClassId × FieldType)} {AA : Nat → Prop} {H0 : Heap} {s : State} {H : Heap} {locs : List Loc} (h : GM D ws tys AA H0 s H locs) (hu : ws[ku]? = some (u, .inr (1, [.ref i, .int (nI cnt)]))) (hi : ws[ki]? = some (i, .inl (cI, 1536, .inl ids))) (ht : tys[t0]? = some (cI, .int)) (hc : cnt ≤ 1536) : GU D ws ku ki t0 u i cI cnt ids tys AA H0 s H locs := by
  refine ⟨(List.getElem?_eq_some_iff.mp hu).1, (List.getElem?_eq_some_iff.mp hi).1, fun e => ?_, ht, hc, ?_⟩
  · subst e; rw [hu] at hi; cases hi
  · rw [set_same hu, set_same hi]; exact h
section GUR
variable {p : Program} {l : Launch} {e : Env} {R : Room} {s : State} {m : MethodId} {args : Array Value} {below : List Frame} {meth : Method} {c : Code} {H : Heap} {locs : List Loc} {cells slots : Nat} {Q : State → Prop} {cc : ByteArray} {nL pc : Nat} {ls : Array Slot} {rest : List Value} {D : va_G} {ws : va_W} {ku ki t0 u i : Nat} {cI : ClassId} {cnt : Nat} {ids : Nat → Int32} {tys : List (ClassId × FieldType)} {AA : Nat → Prop} {H0 : Heap}
theorem gU_count (S : CallFix p m c cc nL s args gw RX1) (hG : GU D ws ku ki t0 u i cI cnt ids tys AA H0 s H locs) {v : Nat} (hv : v ≤ 1536) (hdg : decode cc pc = .ok (.putfield 15, 3)) (kk : ∀ (H : Heap) (locs : List Loc), GU D ws ku ki t0 u i cI v ids tys AA H0 s H locs → W p l e R s m args below meth c H locs cells slots Q (F0 m (pc + 3) ls rest)) : W p l e R s m args below meth c H locs cells slots Q (F0 m pc ls (.int (nI v) :: .ref u :: rest)) := by
  have hu := GU.atu hG
  obtain ⟨hx, hb, hml, hown, hg⟩ := S
  obtain ⟨h1, h2, h3, h4, h5, hP, hD, hK, hS, hA⟩ := hG
  have e9 : ∀ X : Nat × va_E, (((ws.set ku (u, .inr (1, [.ref i, .int (nI cnt)]))).set ki (i, .inl (cI, 1536, .inl ids))).set ku X : va_W) = (ws.set ku X).set ki (i, .inl (cI, 1536, .inl ids)) := fun X => by rw [List.set_comm _ _ (Ne.symm h3), List.set_set]
  refine va_put (D := D) (ci := 1) (v := .int (nI v)) (ty := .int) (C := RX1) (T := TX1) (N := 2) hx hb hg inX1 tyX1 tyX1_ok nmX1 hown hK hP hD hS ku hu rfl 1 (by decide) (hg _ wk_27) (fun _ h9 => h9) rfl (by decide +kernel) rfl rfl (Nat.le_of_ble_eq_true rfl) hdg (fun H1 locs1 hP hD hS => kk H1 locs1 ⟨h1, h2, h3, h4, hv, ?_, ?_, hK, hS, hA⟩)
  · rw [e9] at hP; exact hP
  · rw [e9] at hD; exact hD
theorem gU_ast (S : CallFix p m c cc nL s args gw RX1) (hG : GU D ws ku ki t0 u i cI cnt ids tys AA H0 s H locs) {k : Nat} {v : Int32} (hk : k < 1536) (hdg : decode cc pc = .ok (.iastore, 1)) (kk : ∀ (H : Heap) (locs : List Loc), GU D ws ku ki t0 u i cI cnt (upd ids k v) tys AA H0 s H locs → W p l e R s m args below meth c H locs cells slots Q (F0 m (pc + 1) ls rest)) : W p l e R s m args below meth c H locs cells slots Q (F0 m pc ls (.int v :: .int (nI k) :: .ref i :: rest)) := by
  have hi := GU.ati hG
  obtain ⟨hx, hb, hml, hown, hg⟩ := S
  obtain ⟨h1, h2, h3, h4, h5, hP, hD, hK, hS, hA⟩ := hG
  refine va_iast (D := D) hx hb hK hP hD hS ki t0 hi h4 (vp_in_nI hk (by omega)) hdg (fun H1 locs1 hP hD hS => kk H1 locs1 ⟨h1, h2, h3, h4, h5, ?_, ?_, hK, hS, hA⟩)
  · rw [nI_clamp (by omega), List.set_set] at hP; exact hP
  · rw [nI_clamp (by omega), List.set_set] at hD; exact hD
theorem gU_cpy (S : CallFix p m c cc nL s args gw RX1) (hG : GU D ws ku ki t0 u i cI cnt ids tys AA H0 s H locs) {q : Nat} (hq : q ≤ cnt) (hc : cnt < 1536) (hfr : 1 ≤ R.frames) (hlo : (rest.map fun v => v.category).sum + (nativeFrameWords "java/lang/System" "arraycopy" 5 + 11) ≤ R.locals) (hsz : ls.size = nL) (hdg : decode cc pc = .ok (.invokestatic 23, 3)) (kk : ∀ (H : Heap) (locs : List Loc), GU D ws ku ki t0 u i cI cnt (va_cpy ids ids q (q + 1) (cnt - q)) tys AA H0 s H locs → W p l e R s m args below meth c H locs cells slots Q (F0 m (pc + 3) ls rest)) : W p l e R s m args below meth c H locs cells slots Q (F0 m pc ls (.int (nI (cnt - q)) :: .int (nI (q + 1)) :: .ref i :: .int (nI q) :: .ref i :: rest)) := by
  have hi := GU.ati hG
  obtain ⟨hx, hb, hml, hown, hg⟩ := S
  obtain ⟨h1, h2, h3, h4, h5, hP, hD, hK, hS, hA⟩ := hG
  have z1 := nI_clamp (n := q) (by omega)
  have z2 := nI_clamp (n := q + 1) (by omega)
  have z3 := nI_clamp (n := cnt - q) (by omega)
  refine va_copyi (D := D) (ty := .int) hx hb (by rw [hml]; exact hsz.symm) hown (hg _ wk_150) (hg _ wk_152) (hg _ wk_151) (hg _ wk_5) hK hP hD hS ki ki t0 t0 hi hi h4 h4 rfl (nI_pos (by omega)) (nI_pos (by omega)) (nI_pos (by omega)) (by rw [z1, z3]; omega) (by rw [z2, z3]; omega) (fun _ _ => rfl) hfr hlo hdg (fun H1 locs1 hP hD hS => kk H1 locs1 ⟨h1, h2, h3, h4, h5, ?_, ?_, hK, hS, hA⟩)
  · rw [z1, z2, z3, List.set_set] at hP; exact hP
  · rw [z1, z2, z3, List.set_set] at hD; exact hD
end GUR
def nte (ids : Nat → Int32) (cnt q : Nat) (v : Int32) : Nat → Int32 := upd (va_cpy ids ids q (q + 1) (cnt - q)) q v
theorem nI_sub {a b : Nat} (h : b ≤ a) : nI a - nI b = nI (a - b) := by
  have e : nI a = nI (a - b) + nI b := by rw [nI_add, Nat.sub_add_cancel h]
  rw [e, Int32.add_sub_cancel]
set_option maxHeartbeats 4000000 in
set_option maxRecDepth 100000 in
theorem c_X0_init (l : Launch) {D : va_G} {ws : va_W} {tys : List (ClassId × FieldType)} {sz k b : Nat} {fv : Nat → Int32} (v1 v2 v3 : Int32) (hk : ws[k]? = some (b, .inr (0, eF fv))) : Met l yX0_init (gws yX0_init cX0_init 4 none) { frames := 1, cells := 0, slots := 0, locals := 20 } (va_Pc [.ref b, .int v1, .int v2, .int v3] (fun U => GPre D ws tys sz U U.heap ∧ (fun _ => True) U)) (va_Qv (fun (w9 : va_W) => w9 = ws.set k (b, .inr (0, eF (ini v1 v2 v3)))) (GB D tys (va_A ws sz)) (va_A ws sz)) 0 0 (va_A ws sz) := by
  refine met_gm (QQ := fun AA => va_Qv (fun (w9 : va_W) => w9 = ws.set k (b, .inr (0, eF (ini v1 v2 v3)))) (GB D tys AA) AA) (X := fun _ => True) (by decide) (Nat.le_of_ble_eq_true rfl) ?_
  intro p e s m below meth c ls AA S hr hlocks hnm hX hG hl
  obtain ⟨hx, hb, hml, hown, hg⟩ := id S
  have hl : lv_has ls 4 [(0, .ref b), (1, .int v1), (2, .int v2), (3, .int v3)] := hl
  have hG := GE.st hG hk
  clear hk
  suffices key9 : ∀ (H : Heap) (locs : List Loc), GE D ws k b fv tys AA s.heap s H locs → W p l e { frames := 1, cells := 0, slots := 0, locals := 20 } s m [.ref b, .int v1, .int v2, .int v3].toArray below meth c H locs 0 0 (MQ below ((fun AA : Nat → Prop => va_Qv (fun (w9 : va_W) => w9 = ws.set k (b, .inr (0, eF (ini v1 v2 v3)))) (GB D tys AA) AA) AA) [.ref b, .int v1, .int v2, .int v3].toArray s 0 0 AA) (F0 m 0 ls []) from key9 _ _ hG
  clear hG
  intro H locs hG
  refine lv_aload_n hx hb dX0_init_0 rfl (lv_at hl 0 rfl) ?_
  refine W.objInit hx hb hown (hg _ wk_39) (hg _ wk_18) (hg _ wk_19) rfl (by rw [hml]; exact hl.1) rfl dX0_init_1 (Nat.le_of_ble_eq_true rfl) (Nat.le_of_ble_eq_true rfl) ?_
  refine W.eq (g2 := F0 m 4 ls []) rfl ?_
  refine lv_aload_n hx hb dX0_init_4 rfl (lv_at hl 0 rfl) ?_
  refine lv_iload_n hx hb dX0_init_5 rfl (lv_at hl 1 rfl) ?_
  refine gE_id S hG hnm dX0_init_6 (fun H locs hG => ?_)
  refine lv_aload_n hx hb dX0_init_9 rfl (lv_at hl 0 rfl) ?_
  refine lv_iload_n hx hb dX0_init_10 rfl (lv_at hl 2 rfl) ?_
  refine gE_behind S hG hnm dX0_init_11 (fun H locs hG => ?_)
  refine lv_aload_n hx hb dX0_init_14 rfl (lv_at hl 0 rfl) ?_
  refine lv_iload_n hx hb dX0_init_15 rfl (lv_at hl 3 rfl) ?_
  refine gE_way S hG hnm dX0_init_16 (fun H locs hG => ?_)
  refine lv_aload_n hx hb dX0_init_19 rfl (lv_at hl 0 rfl) ?_
  refine lv_iconst (v := 0) hx hb dX0_init_20 (by decide) ?_
  refine gE_followers S hG dX0_init_21 (fun H locs hG => ?_)
  refine lv_aload_n hx hb dX0_init_24 rfl (lv_at hl 0 rfl) ?_
  refine lv_iconst (v := 0) hx hb dX0_init_25 (by decide) ?_
  refine gE_sets S hG dX0_init_26 (fun H locs hG => ?_)
  refine lv_aload_n hx hb dX0_init_29 rfl (lv_at hl 0 rfl) ?_
  refine lv_iconst (v := 0) hx hb dX0_init_30 (by decide) ?_
  refine gE_removes S hG dX0_init_31 (fun H locs hG => ?_)
  refine lv_aload_n hx hb dX0_init_34 rfl (lv_at hl 0 rfl) ?_
  refine lv_iconst (v := (-1)) hx hb dX0_init_35 (by decide) ?_
  refine gE_standing S hG dX0_init_36 (fun H locs hG => ?_)
  refine lv_aload_n hx hb dX0_init_39 rfl (lv_at hl 0 rfl) ?_
  refine lv_iconst (v := 0) hx hb dX0_init_40 (by decide) ?_
  refine gE_kind S hG dX0_init_41 (fun H locs hG => ?_)
  refine lv_aload_n hx hb dX0_init_44 rfl (lv_at hl 0 rfl) ?_
  refine lv_iconst (v := 0) hx hb dX0_init_45 (by decide) ?_
  refine gE_value S hG dX0_init_46 (fun H locs hG => ?_)
  exact W.vret hx hb hr (fun t9 ht9 hW9 => ⟨⟨_, rfl, rfl, (hG.2.out ht9 hW9).1⟩, (hG.2.out ht9 hW9).2⟩) hG.2.S.2.2 dX0_init_49
set_option maxHeartbeats 4000000 in
set_option maxRecDepth 100000 in
theorem c_X0_offer (l : Launch) {D : va_G} {ws : va_W} {tys : List (ClassId × FieldType)} {sz k b : Nat} {fv : Nat → Int32} (v1 v2 v3 : Int32) (hk : ws[k]? = some (b, .inr (0, eF fv))) : Met l yX0_offer (gws yX0_offer cX0_offer 4 none) { frames := 0, cells := 0, slots := 0, locals := 0 } (va_Pc [.ref b, .int v1, .int v2, .int v3] (fun U => GPre D ws tys sz U U.heap ∧ (fun _ => True) U)) (va_Qv (fun (w9 : va_W) => w9 = ws.set k (b, .inr (0, eF (ofr fv v1 v2 v3)))) (GB D tys (va_A ws sz)) (va_A ws sz)) 0 0 (va_A ws sz) := by
  refine met_gm (QQ := fun AA => va_Qv (fun (w9 : va_W) => w9 = ws.set k (b, .inr (0, eF (ofr fv v1 v2 v3)))) (GB D tys AA) AA) (X := fun _ => True) (by decide) (Nat.le_of_ble_eq_true rfl) ?_
  intro p e s m below meth c ls AA S hr hlocks hnm hX hG hl
  obtain ⟨hx, hb, hml, hown, hg⟩ := id S
  have hl : lv_has ls 4 [(0, .ref b), (1, .int v1), (2, .int v2), (3, .int v3)] := hl
  have hG := GE.st hG hk
  clear hk
  suffices key9 : ∀ (H : Heap) (locs : List Loc), GE D ws k b fv tys AA s.heap s H locs → W p l e { frames := 0, cells := 0, slots := 0, locals := 0 } s m [.ref b, .int v1, .int v2, .int v3].toArray below meth c H locs 0 0 (MQ below ((fun AA : Nat → Prop => va_Qv (fun (w9 : va_W) => w9 = ws.set k (b, .inr (0, eF (ofr fv v1 v2 v3)))) (GB D tys AA) AA) AA) [.ref b, .int v1, .int v2, .int v3].toArray s 0 0 AA) (F0 m 0 ls []) from key9 _ _ hG
  clear hG
  intro H locs hG
  refine lv_iload_n hx hb dX0_offer_0 rfl (lv_at hl 1 rfl) ?_
  refine lv_aload_n hx hb dX0_offer_1 rfl (lv_at hl 0 rfl) ?_
  refine rE_standing S hG.rd dX0_offer_2 ?_
  refine lv_icmp_le (tgt := 23) hx hb dX0_offer_5 (by decide) (fun c_5 => ?_) (fun c_5 => ?_)
  · exact W.vret hx hb hr (fun t9 ht9 hW9 => ⟨⟨_, rfl, by rw [ofr, if_neg (i32_nlt.mpr c_5)], (hG.2.out ht9 hW9).1⟩, (hG.2.out ht9 hW9).2⟩) hG.2.S.2.2 dX0_offer_23
  · refine lv_aload_n hx hb dX0_offer_8 rfl (lv_at hl 0 rfl) ?_
    refine lv_iload_n hx hb dX0_offer_9 rfl (lv_at hl 1 rfl) ?_
    refine gE_standing S hG dX0_offer_10 (fun H locs hG => ?_)
    refine lv_aload_n hx hb dX0_offer_13 rfl (lv_at hl 0 rfl) ?_
    refine lv_iload_n hx hb dX0_offer_14 rfl (lv_at hl 2 rfl) ?_
    refine gE_kind S hG dX0_offer_15 (fun H locs hG => ?_)
    refine lv_aload_n hx hb dX0_offer_18 rfl (lv_at hl 0 rfl) ?_
    refine lv_iload_n hx hb dX0_offer_19 rfl (lv_at hl 3 rfl) ?_
    refine gE_value S hG dX0_offer_20 (fun H locs hG => ?_)
    exact W.vret hx hb hr (fun t9 ht9 hW9 => ⟨⟨_, rfl, by rw [ofr, if_pos (i32_nle.mp c_5)], (hG.2.out ht9 hW9).1⟩, (hG.2.out ht9 hW9).2⟩) hG.2.S.2.2 dX0_offer_23
set_option maxHeartbeats 4000000 in
set_option maxRecDepth 100000 in
theorem c_X1_forgetAll (l : Launch) {D : va_G} {ws : va_W} {tys : List (ClassId × FieldType)} {sz ku ki t0 u i : Nat} {cI : ClassId} {cnt : Nat} {ids : Nat → Int32}  (hu9 : ws[ku]? = some (u, .inr (1, [.ref i, .int (nI cnt)]))) (hi9 : ws[ki]? = some (i, .inl (cI, 1536, .inl ids))) (ht9 : tys[t0]? = some (cI, .int)) (hc9 : cnt ≤ 1536) : Met l yX1_forgetAll (gws yX1_forgetAll cX1_forgetAll 1 none) { frames := 0, cells := 0, slots := 0, locals := 0 } (va_Pc [.ref u] (fun U => GPre D ws tys sz U U.heap ∧ (fun _ => True) U)) (va_Qv (fun (w9 : va_W) => w9 = (ws.set ku (u, .inr (1, [.ref i, .int (nI 0)]))).set ki (i, .inl (cI, 1536, .inl ids))) (GB D tys (va_A ws sz)) (va_A ws sz)) 0 0 (va_A ws sz) := by
  refine met_gm (QQ := fun AA => va_Qv (fun (w9 : va_W) => w9 = (ws.set ku (u, .inr (1, [.ref i, .int (nI 0)]))).set ki (i, .inl (cI, 1536, .inl ids))) (GB D tys AA) AA) (X := fun _ => True) (by decide) (Nat.le_of_ble_eq_true rfl) ?_
  intro p e s m below meth c ls AA S hr hlocks hnm hX hG hl
  obtain ⟨hx, hb, hml, hown, hg⟩ := id S
  have hl : lv_has ls 1 [(0, .ref u)] := hl
  have hG := GU.st hG hu9 hi9 ht9 hc9
  clear hu9 hi9 ht9
  suffices key9 : ∀ (H : Heap) (locs : List Loc), GU D ws ku ki t0 u i cI cnt ids tys AA s.heap s H locs → W p l e { frames := 0, cells := 0, slots := 0, locals := 0 } s m [.ref u].toArray below meth c H locs 0 0 (MQ below ((fun AA : Nat → Prop => va_Qv (fun (w9 : va_W) => w9 = (ws.set ku (u, .inr (1, [.ref i, .int (nI 0)]))).set ki (i, .inl (cI, 1536, .inl ids))) (GB D tys AA) AA) AA) [.ref u].toArray s 0 0 AA) (F0 m 0 ls []) from key9 _ _ hG
  clear hG
  intro H locs hG
  refine lv_aload_n hx hb dX1_forgetAll_0 rfl (lv_at hl 0 rfl) ?_
  refine lv_iconst (v := nI 0) hx hb dX1_forgetAll_1 (by decide) ?_
  refine gU_count (v := 0) S hG (by omega) dX1_forgetAll_2 (fun H locs hG => ?_)
  exact W.vret hx hb hr (fun t9 ht9 hW9 => ⟨⟨_, rfl, rfl, (hG.2.2.2.2.2.out ht9 hW9).1⟩, (hG.2.2.2.2.2.out ht9 hW9).2⟩) hG.2.2.2.2.2.S.2.2 dX1_forgetAll_5
set_option maxHeartbeats 4000000 in
set_option maxRecDepth 100000 in
theorem c_X1_note (l : Launch) {D : va_G} {ws : va_W} {tys : List (ClassId × FieldType)} {sz ku ki t0 u i : Nat} {cI : ClassId} {cnt : Nat} {ids : Nat → Int32} (v1 : Int32) (hu9 : ws[ku]? = some (u, .inr (1, [.ref i, .int (nI cnt)]))) (hi9 : ws[ki]? = some (i, .inl (cI, 1536, .inl ids))) (ht9 : tys[t0]? = some (cI, .int)) (hs : Srt ids cnt) (hcnt : cnt < 1536) : Met l yX1_note (gws yX1_note cX1_note 3 none) { frames := 1, cells := 0, slots := 0, locals := 40 } (va_Pc [.ref u, .int v1] (fun U => GPre D ws tys sz U U.heap ∧ (fun _ => True) U)) (va_Qv (fun (w9 : va_W) => ∃ q, Fnb ids cnt v1 q ∧ w9 = (ws.set ku (u, .inr (1, [.ref i, .int (nI (cnt + 1))]))).set ki (i, .inl (cI, 1536, .inl (nte ids cnt q v1)))) (GB D tys (va_A ws sz)) (va_A ws sz)) 0 0 (va_A ws sz) := by
  refine met_gm (QQ := fun AA => va_Qv (fun (w9 : va_W) => ∃ q, Fnb ids cnt v1 q ∧ w9 = (ws.set ku (u, .inr (1, [.ref i, .int (nI (cnt + 1))]))).set ki (i, .inl (cI, 1536, .inl (nte ids cnt q v1)))) (GB D tys AA) AA) (X := fun _ => True) (by decide) (Nat.le_of_ble_eq_true rfl) ?_
  intro p e s m below meth c ls AA S hr hlocks hnm hX hG hl
  obtain ⟨hx, hb, hml, hown, hg⟩ := id S
  have hl : lv_has ls 3 [(0, .ref u), (1, .int v1)] := hl
  have hG := GU.st hG hu9 hi9 ht9 (by omega)
  clear hu9 hi9 ht9
  suffices key9 : ∀ (H : Heap) (locs : List Loc), GU D ws ku ki t0 u i cI cnt ids tys AA s.heap s H locs → W p l e { frames := 1, cells := 0, slots := 0, locals := 40 } s m [.ref u, .int v1].toArray below meth c H locs 0 0 (MQ below ((fun AA : Nat → Prop => va_Qv (fun (w9 : va_W) => ∃ q, Fnb ids cnt v1 q ∧ w9 = (ws.set ku (u, .inr (1, [.ref i, .int (nI (cnt + 1))]))).set ki (i, .inl (cI, 1536, .inl (nte ids cnt q v1)))) (GB D tys AA) AA) AA) [.ref u, .int v1].toArray s 0 0 AA) (F0 m 0 ls []) from key9 _ _ hG
  clear hG
  intro H locs hG
  refine lv_aload_n hx hb dX1_note_0 rfl (lv_at hl 0 rfl) ?_
  refine rU_count S hG.rd dX1_note_1 ?_
  refine lv_aload_n hx hb dX1_note_4 rfl (lv_at hl 0 rfl) ?_
  refine rU_ids S hG.rd dX1_note_5 ?_
  refine va_alen (v := nI 1536) hx hb hG.2.2.2.2.2.2.2.1 hG.2.2.2.2.2.1 ki t0 hG.ati hG.2.2.2.1 rfl dX1_note_8 ?_
  refine lv_icmp_lt (tgt := 13) hx hb dX1_note_9 (by decide) (fun c_9 => ?_) (fun c_9 => ?_)
  · rw [nI_ltI (by omega) (by omega)] at c_9
    refine lv_aload_n hx hb dX1_note_13 rfl (lv_at hl 0 rfl) ?_
    refine lv_iload_n hx hb dX1_note_14 rfl (lv_at hl 1 rfl) ?_
    refine vp_callSi (va_Run.run (runV (As := [.int v1]) (rest := []) (Bh := RdU D u i cnt ids) S (c_X1_firstNotBelow l v1 hs) (gw_V wk_127 wk_129 wp_6 wk_2 wk_130) rfl rfl 1 rfl (by decide +kernel) (by decide) ⟨Nat.le_refl _, Nat.le_refl _⟩ (fun _ _ _ h q => RdU.mv h q) hG.rd.recv hG.rd hl.1 (Nat.le_of_ble_eq_true rfl) dX1_note_15)) (fun r hr => ?_)
    obtain ⟨q_15, h_15, rfl⟩ := hr
    have hq8 := h_15.1
    refine lv_istore_n (lv' := [(2, .int (nI q_15)), (0, .ref u), (1, .int v1)]) hx hb dX1_note_18 rfl hl (by decide) rfl (fun ls hl => ?_)
    refine lv_aload_n hx hb dX1_note_19 rfl (lv_at hl 1 rfl) ?_
    refine rU_ids S hG.rd dX1_note_20 ?_
    refine lv_iload_n hx hb dX1_note_23 rfl (lv_at hl 0 rfl) ?_
    refine lv_aload_n hx hb dX1_note_24 rfl (lv_at hl 1 rfl) ?_
    refine rU_ids S hG.rd dX1_note_25 ?_
    refine lv_iload_n hx hb dX1_note_28 rfl (lv_at hl 0 rfl) ?_
    refine lv_iconst (v := nI 1) hx hb dX1_note_29 (by decide) ?_
    refine lv_iadd hx hb dX1_note_30 ?_
    refine lv_aload_n hx hb dX1_note_31 rfl (lv_at hl 1 rfl) ?_
    refine rU_count S hG.rd dX1_note_32 ?_
    refine lv_iload_n hx hb dX1_note_35 rfl (lv_at hl 0 rfl) ?_
    refine lv_isub hx hb dX1_note_36 ?_
    have hq9 := h_15.1
    have z9 := nI_sub hq9
    rw [show nI q_15 + nI 1 = nI (q_15 + 1) from nI_add q_15 1, z9]
    refine gU_cpy S hG hq9 hcnt (Nat.le_of_ble_eq_true rfl) (Nat.le_of_ble_eq_true rfl) hl.1 dX1_note_37 (fun H locs hG => ?_)
    refine lv_aload_n hx hb dX1_note_40 rfl (lv_at hl 1 rfl) ?_
    refine rU_ids S hG.rd dX1_note_41 ?_
    refine lv_iload_n hx hb dX1_note_44 rfl (lv_at hl 0 rfl) ?_
    refine lv_iload_n hx hb dX1_note_45 rfl (lv_at hl 2 rfl) ?_
    refine gU_ast S hG (by omega) dX1_note_46 (fun H locs hG => ?_)
    refine lv_aload_n hx hb dX1_note_47 rfl (lv_at hl 1 rfl) ?_
    refine lv_dup hx hb dX1_note_48 rfl ?_
    refine rU_count S hG.rd dX1_note_49 ?_
    refine lv_iconst (v := nI 1) hx hb dX1_note_52 (by decide) ?_
    refine lv_iadd hx hb dX1_note_53 ?_
    rw [show nI cnt + nI 1 = nI (cnt + 1) from nI_add cnt 1]
    refine gU_count (v := (cnt + 1)) S hG (by omega) dX1_note_54 (fun H locs hG => ?_)
    exact W.vret hx hb hr (fun t9 ht9 hW9 => ⟨⟨_, rfl, ⟨q_15, h_15, rfl⟩, (hG.2.2.2.2.2.out ht9 hW9).1⟩, (hG.2.2.2.2.2.out ht9 hW9).2⟩) hG.2.2.2.2.2.S.2.2 dX1_note_57
  · rw [nI_ltI (by omega) (by omega)] at c_9
    exact absurd hcnt c_9
