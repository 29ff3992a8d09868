/-! the law's world: the reference, the out cell, the class -/
abbrev tL (cM cO cI cW : ClassId) : List (ClassId × FieldType) := [(cM, .int), (cO, .long), (cI, .int), (cW, .object RX0)]
def fixC (x u i g w : Nat) (cI cW : ClassId) (z : CS) : va_W := [(x, .inr (2, [.ref u, .ref g, .ref w, .int (nI z.2.2.2.1), .int (nI z.2.2.2.2.1)])), (u, .inr (1, [.ref i, .int (nI z.2.2.2.2.2.1)])), (i, .inl (cI, 1536, .inl z.2.2.2.2.2.2)), (w, .inl (cW, 512, .inr (.inr (.inr (.inr z.2.2.1)))))]
def fixL (y : Nat) (a : Nat → Nat) (cM : ClassId) (o : Nat) (cO : ClassId) (x u i g w : Nat) (cI cW : ClassId) (m : MS) (fO : Nat → Int64) (z : CS) : va_W := wM y a cM m.1 m.2.1 m.2.2.1 m.2.2.2 ++ (wO o cO fO ++ fixC x u i g w cI cW z)
abbrev pool (z : CS) : va_W := va_pl z.1 (fun a => .inr (0, eF (z.2.1 a)))
def LH (D : va_G) (y : Nat) (a : Nat → Nat) (cM : ClassId) (o : Nat) (cO : ClassId) (x u i g w : Nat) (cI cW : ClassId) (m : MS) (fO : Nat → Int64) (z : CS) (s : State) (H : Heap) (locs : List Loc) : Prop :=
  CF g z.1 z.2.2.1 z.2.2.2.1 z.2.2.2.2.1 z.2.2.2.2.2.1 ∧ NW s ∧ (m.1 ≤ 512 ∧ m.2.1 ≤ 1024) ∧ GM D (fixL y a cM o cO x u i g w cI cW m fO z ++ pool z) (tL cM cO cI cW) (fun q => s.heap.size ≤ q) s.heap s H locs
theorem P_left {D : va_G} {cl : List vw_C} {X pl : va_W} {H : Heap} (h : va_P D cl (X ++ pl) H) : va_P D cl X H := h.by id (fun k q hk => by
  show (X ++ pl)[k]? = some q
  rw [List.getElem?_append_left (List.getElem?_eq_some_iff.mp hk).1]; exact hk)
theorem D_left {A : Nat → Prop} {X pl : va_W} (h : va_D A (X ++ pl)) : va_D A X := h.by id (fun k q hk => by
  show (X ++ pl)[k]? = some q
  rw [List.getElem?_append_left (List.getElem?_eq_some_iff.mp hk).1]; exact hk) (fun i j _ _ e => e)
section LHS
variable {D : va_G} {y : Nat} {a : Nat → Nat} {cM : ClassId} {o : Nat} {cO : ClassId} {x u i g w : Nat} {cI cW : ClassId} {m : MS} {fO : Nat → Int64} {z : CS} {s : State} {H : Heap} {locs : List Loc}
theorem LH.cc (h : LH D y a cM o cO x u i g w cI cW m fO z s H locs) : CC D x u i g w cI cW z.1 z.2.1 z.2.2.1 z.2.2.2.1 z.2.2.2.2.1 z.2.2.2.2.2.1 z.2.2.2.2.2.2 (fun q => s.heap.size ≤ q) s.heap s H locs := by
  obtain ⟨h1, h2, h3, hP, hD, hK, hS, hA⟩ := h
  exact ⟨h1, h2, hP.part [12, 13, 14, 15] rfl, hD.part [12, 13, 14, 15] (by decide) rfl, hK.sub [2, 3] rfl, hS, hA⟩
theorem LH.mm (h : LH D y a cM o cO x u i g w cI cW m fO z s H locs) : MM D y a cM m.1 m.2.1 m.2.2.1 m.2.2.2 (fun q => s.heap.size ≤ q) s.heap s H locs := by
  obtain ⟨h1, h2, h3, hP, hD, hK, hS, hA⟩ := h
  exact ⟨(P_left hP).sub [0, 1, 2, 3, 4, 5, 6, 7, 8, 9, 10] rfl, (D_left hD).sub [0, 1, 2, 3, 4, 5, 6, 7, 8, 9, 10] (by decide) rfl, hK.sub [0] rfl, hS, hA, h3⟩
theorem LH.oo (h : LH D y a cM o cO x u i g w cI cW m fO z s H locs) : GM D (wO o cO fO) [(cO, .long)] (fun q => s.heap.size ≤ q) s.heap s H locs := by
  obtain ⟨h1, h2, h3, hP, hD, hK, hS, hA⟩ := h
  exact ⟨(P_left hP).sub [11] rfl, (D_left hD).sub [11] (by decide) rfl, hK.sub [1] rfl, hS, hA⟩
theorem LH.backC {z' : CS} {t : State} {H1 : Heap} {locs1 : List Loc} (h : LH D y a cM o cO x u i g w cI cW m fO z s H locs) (ht : t.heap = H1) (hB : CB D x u i g w cI cW (va_A (wC x u i g w cI cW z.1 z.2.1 z.2.2.1 z.2.2.2.1 z.2.2.2.2.1 z.2.2.2.2.2.1 z.2.2.2.2.2.2) H.size) z' t)
    (hk : ∀ q : Nat, q < H.size → ¬ va_A (wC x u i g w cI cW z.1 z.2.1 z.2.2.1 z.2.2.2.1 z.2.2.2.2.1 z.2.2.2.2.2.1 z.2.2.2.2.2.2) H.size q → H1[q]? = H[q]?) (hS1 : va_S (fun q => s.heap.size ≤ q) s.heap H1 locs1) : LH D y a cM o cO x u i g w cI cW m fO z' s H1 locs1 := by
  have hF := h.cc.2.2.free
  obtain ⟨h1, h2, h3, hP, hD, hK, hS, hA⟩ := h
  obtain ⟨⟨b1, b2⟩, b3, b4, b5⟩ := hB
  have j := va_joinP (cx := fixC x u i g w cI cW z) (rx := fixC x u i g w cI cW z') (pl1 := pool z') (wr := wM y a cM m.1 m.2.1 m.2.2.1 m.2.2.2 ++ wO o cO fO) hP hD [12, 13, 14, 15] [0, 1, 2, 3, 4, 5, 6, 7, 8, 9, 10, 11] rfl rfl (by decide) (by decide) hk hF (by rw [← ht]; exact b3) b5
  exact ⟨b1, h2, h3, j.1, j.2, hK, hS1, hA⟩
theorem LH.backM {m' : MS} {t : State} {H1 : Heap} {locs1 : List Loc} (h : LH D y a cM o cO x u i g w cI cW m fO z s H locs) (ht : t.heap = H1) (hB : MB D y a cM (va_A (wM y a cM m.1 m.2.1 m.2.2.1 m.2.2.2) H.size) m' t)
    (hk : ∀ q : Nat, q < H.size → ¬ va_A (wM y a cM m.1 m.2.1 m.2.2.1 m.2.2.2) H.size q → H1[q]? = H[q]?) (hS1 : va_S (fun q => s.heap.size ≤ q) s.heap H1 locs1) : LH D y a cM o cO x u i g w cI cW m' fO z s H1 locs1 := by
  have hF := h.mm.free
  obtain ⟨h1, h2, h3, hP, hD, hK, hS, hA⟩ := h
  obtain ⟨b1, b2, b3, b4⟩ := hB
  have j := va_joinQ (cx := wM y a cM m.1 m.2.1 m.2.2.1 m.2.2.2) (w1 := wM y a cM m'.1 m'.2.1 m'.2.2.1 m'.2.2.2) (wr := wO o cO fO ++ fixC x u i g w cI cW z) hP hD [0, 1, 2, 3, 4, 5, 6, 7, 8, 9, 10] [11, 12, 13, 14, 15] rfl rfl (by decide) (by decide) hk hF (by rw [← ht]; exact b1) b3
  exact ⟨h1, h2, b4, j.1.part [5, 6, 7, 8, 9, 10, 11, 12, 13, 14, 15, 0, 1, 2, 3, 4] rfl, j.2.part [5, 6, 7, 8, 9, 10, 11, 12, 13, 14, 15, 0, 1, 2, 3, 4] (by decide) rfl, hK, hS1, hA⟩
theorem LH.backO {fO' : Nat → Int64} {t : State} {H1 : Heap} {locs1 : List Loc} (h : LH D y a cM o cO x u i g w cI cW m fO z s H locs) (ht : t.heap = H1) (hB : GB D [(cO, .long)] (va_A (wO o cO fO) H.size) (wO o cO fO') t)
    (hk : ∀ q : Nat, q < H.size → ¬ va_A (wO o cO fO) H.size q → H1[q]? = H[q]?) (hS1 : va_S (fun q => s.heap.size ≤ q) s.heap H1 locs1) : LH D y a cM o cO x u i g w cI cW m fO' z s H1 locs1 := by
  have hF := h.oo.free
  obtain ⟨h1, h2, h3, hP, hD, hK, hS, hA⟩ := h
  obtain ⟨b1, b2, b3⟩ := hB
  have j := va_joinQ (cx := wO o cO fO) (w1 := wO o cO fO') (wr := wM y a cM m.1 m.2.1 m.2.2.1 m.2.2.2 ++ fixC x u i g w cI cW z) hP hD [11] [0, 1, 2, 3, 4, 5, 6, 7, 8, 9, 10, 12, 13, 14, 15] rfl rfl (by decide) (by decide) hk hF (by rw [← ht]; exact b1) b3
  exact ⟨h1, h2, h3, j.1.part [0, 1, 2, 3, 4, 5, 6, 7, 8, 9, 10, 15, 11, 12, 13, 14] rfl, j.2.part [0, 1, 2, 3, 4, 5, 6, 7, 8, 9, 10, 15, 11, 12, 13, 14] (by decide) rfl, hK, hS1, hA⟩
end LHS
/-- what stands for the whole walk of the law: its frame, its script, the statics that a Throwable reads -/
def LC (p : Program) (l : Launch) (s : State) (m : MethodId) (c : Code) (b L : Nat) (xs : Nat → Int32) : Prop :=
  CallFix p m c code 7 s #[Value.ref b] gw RL ∧ va_X b L xs s s.heap ∧ b < s.heap.size ∧ L ≤ 3072 ∧ l.stackTraces = false ∧ EX s.heap.size s s.heap
theorem LC.ex {p : Program} {l : Launch} {s : State} {m : MethodId} {c : Code} {b L : Nat} {xs : Nat → Int32} (h : LC p l s m c b L xs) {H : Heap} {locs : List Loc} (hS : va_S (fun q => s.heap.size ≤ q) s.heap H locs) : EX H.size s H := by
  obtain ⟨_, _, _, _, _, e1, e2, e3, e4, e5⟩ := h
  exact ⟨rfl, (e2.kept hS.2.1).narrow (fun q hq => Nat.le_trans hS.1 hq), (e3.kept hS.2.1).narrow (fun q hq => Nat.le_trans hS.1 hq), e4, e5⟩
section LAWR
variable {p : Program} {l : Launch} {e : Env} {R : Room} {s : State} {m : MethodId} {below : List Frame} {meth : Method} {c : Code} {H : Heap} {locs : List Loc} {cells slots : Nat} {Q : State → Prop} {pc : Nat} {ls : Array Slot} {rest : List Value} {b L : Nat} {xs : Nat → Int32}
theorem ll_sld (hLC : LC p l s m c b L xs) (hS : va_S (fun q => s.heap.size ≤ q) s.heap H locs) {k : Nat} (hk : k < L) (hdg : decode code pc = .ok (.iaload, 1)) (kk : W p l e R s m #[Value.ref b] below meth c H locs cells slots Q (F0 m (pc + 1) ls (.int (xs k) :: rest))) : W p l e R s m #[Value.ref b] below meth c H locs cells slots Q (F0 m pc ls (.int (nI k) :: .ref b :: rest)) := by
  obtain ⟨S, hX, hbl, hL, _⟩ := hLC
  refine va_sld (A := fun q => s.heap.size ≤ q) S.1 S.2.1 hX hbl (by omega) hS (vp_in_nI hk (by omega)) hdg ?_
  rw [nI_clamp (by omega)]
  exact kk
theorem ll_len (hLC : LC p l s m c b L xs) (hS : va_S (fun q => s.heap.size ≤ q) s.heap H locs) (hdg : decode code pc = .ok (.arraylength, 1)) (kk : W p l e R s m #[Value.ref b] below meth c H locs cells slots Q (F0 m (pc + 1) ls (.int (nI L) :: rest))) : W p l e R s m #[Value.ref b] below meth c H locs cells slots Q (F0 m pc ls (.ref b :: rest)) := by
  obtain ⟨S, hX, hbl, hL, _⟩ := hLC
  exact va_slen (A := fun q => s.heap.size ≤ q) S.1 S.2.1 hX hbl (by omega) hS hdg kk
end LAWR
theorem ll_more {k L : Nat} (hL : L ≤ 3072) (hk : k < 2 ^ 31) : (nI L - 6 < nI k) ↔ L < k + 6 := by
  rcases Nat.lt_or_ge L 6 with h | h
  · have : nI L - 6 < 0 := by
      match L, h with
      | 0, _ => decide
      | 1, _ => decide
      | 2, _ => decide
      | 3, _ => decide
      | 4, _ => decide
      | 5, _ => decide
    constructor
    · intro _; omega
    · intro _
      have h2 := nI_pos' hk
      rw [Int32.lt_iff_toInt_lt] at this ⊢
      rw [Int32.le_iff_toInt_le] at h2
      omega
  · rw [show (6 : Int32) = nI 6 from rfl, nI_sub h, nI_ltI (by omega) hk]
    omega
