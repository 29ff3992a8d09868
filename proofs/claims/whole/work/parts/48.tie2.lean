theorem cnt_dn {A A' : Nat → Nat → Int32} {d : Nat} (hD : Dn A A' d) (x : Int32) (F : Int32 → Bool) : cntB (fun k => decide (A' 5 k = x) && F (A' 6 k)) (d + 1) = cntB (fun k => decide (A 5 k = x) && F (A 6 k)) d + (if (decide (A' 5 d = x) && F (A' 6 d)) = true then 1 else 0) := by
  rw [cntB, cntB_congr (p' := fun k => decide (A 5 k = x) && F (A 6 k)) (fun k hk => by rw [hD.2 5 (by decide) (by decide) k hk, hD.2 6 (by decide) (by decide) k hk])]
theorem RowT.other {A A' : Nat → Nat → Int32} {n d : Nat} {r : Nat → Int32} (hD : Dn A A' d) (h : RowT A n d r) (hne : ¬ A' 5 d = r 0) : RowT A' n (d + 1) r := by
  obtain ⟨a1, a2, a3, a4, a5, a6⟩ := h
  have hs : ¬ SetM A' (r 0) d := fun z => hne z.1
  refine ⟨by rw [hD.1 1 (by decide)]; exact a1, ?_, ?_, a4.keep hD (by decide) (by decide) hs, a5.keep hD (by decide) (by decide) hs, a6.keep hD (by decide) (by decide) hs⟩
  · rw [a2, cnt_dn hD (r 0) (fun v => !decide (v < 0)), decide_eq_false hne]; simp
  · rw [a3, cnt_dn hD (r 0) (fun v => decide (v < 0)), decide_eq_false hne]; simp
theorem RowT.set {A : Nat → Nat → Int32} {n d : Nat} {r r' : Nat → Int32} {v1 v2 v3 v4 : Int32} (h : RowT A n d r) (h0 : r 0 = v2) (hlt : v2 < v1) (h3 : ¬ v3 < 0) (hr : r' = ofr (va_up r 4 (r 4 + 1)) v1 v3 v4) : RowT (dA A d v1 v2 v3 v4) n (d + 1) r' := by
  obtain ⟨a1, a2, a3, a4, a5, a6⟩ := h
  have hD := dA_dn (A := A) (d := d) (v1 := v1) (v2 := v2) (v3 := v3) (v4 := v4)
  obtain ⟨e4, e5, e6, e7⟩ := dA_d (A := A) (d := d) (v1 := v1) (v2 := v2) (v3 := v3) (v4 := v4)
  have z0 : r' 0 = r 0 := by rw [hr, ofr_lo (by decide), va_up_ne _ _ (by decide)]
  have z3 : r' 3 = r 3 := by rw [hr, ofr_lo (by decide), va_up_ne _ _ (by decide)]
  have z4 : r' 4 = r 4 + 1 := by rw [hr, ofr_lo (by decide), va_up_self]
  have z5 : r' 5 = r 5 := by rw [hr, ofr_lo (by decide), va_up_ne _ _ (by decide)]
  have hs : SetM (dA A d v1 v2 v3 v4) (r 0) d := ⟨by rw [e5, h0], by rw [e6]; exact h3⟩
  have q6 : (va_up r 4 (r 4 + 1)) 6 = r 6 := va_up_ne _ _ (by decide)
  unfold RowT
  rw [z0, z3, z4, z5]
  refine ⟨by rw [hD.1 1 (by decide)]; exact a1, ?_, ?_, ?_⟩
  · rw [a2, cnt_dn hD (r 0) (fun v => !decide (v < 0)), e5, e6, h0, decide_eq_true rfl, decide_eq_false h3]
    simp only [Bool.not_false, Bool.and_self, if_true]
    exact nI_1 _
  · rw [a3, cnt_dn hD (r 0) (fun v => decide (v < 0)), e5, e6, h0, decide_eq_false h3]; simp
  · by_cases hc : r 6 < v1
    · have z6 : r' 6 = v1 := by rw [hr, ofr, q6, if_pos hc]; rfl
      have z7 : r' 7 = v3 := by rw [hr, ofr, q6, if_pos hc]; rfl
      have z8 : r' 8 = v4 := by rw [hr, ofr, q6, if_pos hc]; rfl
      rw [z6, z7, z8]
      have hg : r 6 < dA A d v1 v2 v3 v4 4 d := by rw [e4]; exact hc
      have k6 := OfM.new (a := 0) (b := 4) hD hs a4 hg
      have k7 := OfM.new (a := 2) (b := 6) hD hs a4 hg
      have k8 := OfM.new (a := 3) (b := 7) hD hs a4 hg
      rw [e4] at k6
      rw [e6] at k7
      rw [e7] at k8
      exact ⟨k6, k7, k8⟩
    · have z6 : r' 6 = r 6 := by rw [hr, ofr, q6, if_neg hc, va_up_ne _ _ (by decide)]
      have z7 : r' 7 = r 7 := by rw [hr, ofr, q6, if_neg hc, va_up_ne _ _ (by decide)]
      have z8 : r' 8 = r 8 := by rw [hr, ofr, q6, if_neg hc, va_up_ne _ _ (by decide)]
      rw [z6, z7, z8]
      have hv : r 0 < dA A d v1 v2 v3 v4 4 d := by rw [e4, h0]; exact hlt
      have hg : ¬ r 6 < dA A d v1 v2 v3 v4 4 d := by rw [e4]; exact hc
      exact ⟨OfM.old hD (by decide) (by decide) a4 hv hg a4, OfM.old hD (by decide) (by decide) a4 hv hg a5, OfM.old hD (by decide) (by decide) a4 hv hg a6⟩
theorem RowT.rem {A : Nat → Nat → Int32} {n d : Nat} {r r' : Nat → Int32} {v1 v2 v4 : Int32} (h : RowT A n d r) (h0 : r 0 = v2) (hr : r' = va_up r 5 (r 5 + 1)) : RowT (dA A d v1 v2 (-1) v4) n (d + 1) r' := by
  obtain ⟨a1, a2, a3, a4, a5, a6⟩ := h
  have hD := dA_dn (A := A) (d := d) (v1 := v1) (v2 := v2) (v3 := -1) (v4 := v4)
  obtain ⟨e4, e5, e6, e7⟩ := dA_d (A := A) (d := d) (v1 := v1) (v2 := v2) (v3 := -1) (v4 := v4)
  have zz : ∀ j, ¬ j = 5 → r' j = r j := fun j hj => by rw [hr, va_up_ne _ _ hj]
  have z5 : r' 5 = r 5 + 1 := by rw [hr, va_up_self]
  have hm : (-1 : Int32) < 0 := by decide
  have hs : ¬ SetM (dA A d v1 v2 (-1) v4) (r 0) d := fun z => z.2 (by rw [e6]; exact hm)
  unfold RowT
  rw [zz 0 (by decide), zz 3 (by decide), zz 4 (by decide), z5, zz 6 (by decide), zz 7 (by decide), zz 8 (by decide)]
  refine ⟨by rw [hD.1 1 (by decide)]; exact a1, ?_, ?_, a4.keep hD (by decide) (by decide) hs, a5.keep hD (by decide) (by decide) hs, a6.keep hD (by decide) (by decide) hs⟩
  · rw [a2, cnt_dn hD (r 0) (fun v => !decide (v < 0)), e5, e6, h0, decide_eq_true hm]; simp
  · rw [a3, cnt_dn hD (r 0) (fun v => decide (v < 0)), e5, e6, h0, decide_eq_true hm, decide_eq_true rfl]
    simp only [Bool.and_self, if_true]
    exact nI_1 _
/-- the tie behind a change of row t -/
theorem TA.done {E E' : Nat → Nat → Int32} {B : Nat → Int32} {n d cnt : Nat} {ids : Nat → Int32} {A : Nat → Nat → Int32} {q2 t : Nat} {v1 v2 v3 v4 : Int32} (h : TA E B n d cnt ids A) (hf : Fre ids cnt v1) (hF : Fnb ids cnt v1 q2) (ht : t < n) (et : E t 0 = v2) (e0 : ∀ k j, j < 3 → E' k j = E k j) (ek : ∀ k, k < n → ¬ k = t → E' k = E k)
    (hr : RowT (dA A d v1 v2 v3 v4) n (d + 1) (E' t)) : TA E' B n (d + 1) (cnt + 1) (nte ids cnt q2 v1) (dA A d v1 v2 v3 v4) := by
  have hnew := (TA.new h v1).mp hf
  have hex := (TA.ex h v2).mp ⟨t, ht, et⟩
  obtain ⟨t1, t2, ⟨pp, t3, t3b⟩, ⟨dep, t4, t4b, t4c⟩, t5, t6, t7, t8, t9, t10⟩ := h
  have hD := dA_dn (A := A) (d := d) (v1 := v1) (v2 := v2) (v3 := v3) (v4 := v4)
  obtain ⟨e4, e5, e6, e7⟩ := dA_d (A := A) (d := d) (v1 := v1) (v2 := v2) (v3 := v3) (v4 := v4)
  have eL : (fun k => E' k 0) = fun k => E k 0 := funext (fun k => e0 k 0 (by decide))
  refine ⟨nte_srt t1 hF hf.2.2, by omega, ⟨pp, by rw [eL]; exact t3, fun k hk => by rw [eL, e0 k 1 (by decide)]; exact t3b k hk⟩, ⟨dep, t4, t4b, fun k hk => by rw [e0 k 2 (by decide), e0 k 0 (by decide)]; exact t4c k hk⟩, t5, fun k hk => ?_, fun v => ?_, fun a b ha hb e => ?_, fun k hk => ?_, fun k hk => by rw [e0 k 0 (by decide)]; exact t10 k hk⟩
  · by_cases c : k = t
    · rw [c]; exact hr
    · rw [ek k hk c]
      exact (t6 k hk).other hD (by rw [e5]; exact fun e => c (t3.2.2.1 k t hk ht (show E k 0 = E t 0 by rw [et, e])))
  · rw [nte_in hF.1, t7 v]
    constructor
    · rintro ((⟨k, g1, g2⟩ | ⟨k, g1, g2⟩) | e)
      · exact Or.inl ⟨k, g1, g2⟩
      · exact Or.inr ⟨k, by omega, by rw [hD.2 4 (by decide) (by decide) k g1]; exact g2⟩
      · exact Or.inr ⟨d, by omega, by rw [e4]; exact e.symm⟩
    · rintro (⟨k, g1, g2⟩ | ⟨k, g1, g2⟩)
      · exact Or.inl (Or.inl ⟨k, g1, g2⟩)
      · by_cases c : k = d
        · subst c; rw [e4] at g2; exact Or.inr g2.symm
        · rw [hD.2 4 (by decide) (by decide) k (by omega)] at g2; exact Or.inl (Or.inr ⟨k, by omega, g2⟩)
  · by_cases c : a = d <;> by_cases c2 : b = d
    · omega
    · subst c; rw [e4, hD.2 4 (by decide) (by decide) b (by omega)] at e; exact absurd e.symm (hnew.2.2.2 b (by omega))
    · subst c2; rw [e4, hD.2 4 (by decide) (by decide) a (by omega)] at e; exact absurd e (hnew.2.2.2 a (by omega))
    · rw [hD.2 4 (by decide) (by decide) a (by omega), hD.2 4 (by decide) (by decide) b (by omega)] at e
      exact t8 a b (by omega) (by omega) e
  · by_cases c : k = d
    · subst c; rw [e5]; exact hex
    · rw [hD.2 5 (by decide) (by decide) k (by omega)]; exact t9 k (by omega)
/-! what both answer -/
theorem TA.cor {E : Nat → Nat → Int32} {B : Nat → Int32} {n d cnt : Nat} {ids : Nat → Int32} {A : Nat → Nat → Int32} (h : TA E B n d cnt ids A) (hd : d ≤ 1024) : ∃ pp, Cor A n d (fun k => E k 0) pp (fun k => E k 5) ∧ ∀ k, k < n → E k 1 = parL (fun k => E k 0) pp k := by
  obtain ⟨_, _, ⟨pp, t3, t3b⟩, _, _, t6, _, _, _, t10⟩ := h
  refine ⟨pp, ⟨t3, fun k hk => (i32_8 (t10 k hk)).2, fun k hk => ?_⟩, t3b⟩
  have hc := cntB_le (fun j => decide (A 5 j = E k 0) && decide (A 6 j < 0)) d
  show E k 5 = 0 ↔ remB A (E k 0) d = false
  rw [(t6 k hk).2.2.1, nI_z (by omega)]
  constructor
  · intro e
    rw [Bool.eq_false_iff]
    intro z
    obtain ⟨j, g1, g2, g3⟩ := remB_iff.mp z
    have := cntB_pos (p := fun j => decide (A 5 j = E k 0) && decide (A 6 j < 0)) g1 (by rw [decide_eq_true g2, decide_eq_true g3]; rfl)
    omega
  · intro e
    refine Nat.eq_zero_of_not_pos (fun z => ?_)
    obtain ⟨j, g1, g2⟩ := cntB_ex z
    have g3 := Bool.and_eq_true_iff.mp g2
    exact Bool.false_ne_true (e.symm.trans (remB_iff.mpr ⟨j, g1, of_decide_eq_true g3.1, of_decide_eq_true g3.2⟩))
theorem TA.of {E : Nat → Nat → Int32} {B : Nat → Int32} {n d cnt : Nat} {ids : Nat → Int32} {A : Nat → Nat → Int32} (h : TA E B n d cnt ids A) {k : Nat} (hk : k < n) : (∀ r, OfM A n d (E k 0) 0 4 r → r = E k 6) ∧ (∀ r, OfM A n d (E k 0) 2 6 r → r = E k 7) ∧ ∀ r, OfM A n d (E k 0) 3 7 r → r = E k 8 := by
  obtain ⟨_, _, ⟨pp, t3, t3b⟩, _, _, t6, _, t8, _, _⟩ := h
  obtain ⟨_, _, _, a4, a5, a6⟩ := t6 k hk
  exact ⟨fun r hr => hr.det t8 t3.2.2.2.1 a4, fun r hr => hr.det t8 t3.2.2.2.1 a5, fun r hr => hr.det t8 t3.2.2.2.1 a6⟩
theorem TA.size {E : Nat → Nat → Int32} {B : Nat → Int32} {n d cnt : Nat} {ids : Nat → Int32} {A : Nat → Nat → Int32} (h : TA E B n d cnt ids A) (hd : d ≤ 1024) : vis (fun k => E k 5) n = cntB (fun k => !remB A (A 0 k) d) n := by
  obtain ⟨pp, hc, _⟩ := h.cor hd
  rw [vis_cnt]
  have e1 : cntB (fun k => decide (E k 5 = 0)) n = cntB (fun k => !remB A (E k 0) d) n := cntB_congr (fun k hk => by
    by_cases z : E k 5 = 0
    · rw [decide_eq_true z, (hc.2.2 k hk).mp z]; rfl
    · have : ¬ remB A (E k 0) d = false := fun y => z ((hc.2.2 k hk).mpr y)
      rw [decide_eq_false z, Bool.not_eq_false _ |>.mp this]; rfl)
  rw [e1]
  exact cnt_perm (fun v => !remB A v d) (L := fun k => E k 0) (M := A 0) hc.1.2.2.1 hc.1.2.2.2.1 (fun k hk => by obtain ⟨j, g1, g2, _⟩ := hc.1.2.1 k hk; exact ⟨j, g1, g2⟩) (fun k hk => by obtain ⟨j, g1, g2, _⟩ := hc.1.1 k hk; exact ⟨j, g1, g2⟩)
theorem TA.deep {E : Nat → Nat → Int32} {B : Nat → Int32} {n d cnt : Nat} {ids : Nat → Int32} {A : Nat → Nat → Int32} (h : TA E B n d cnt ids A) : ∃ dep, Dep A n dep ∧ mxw (fun k => E k 2) n = mxw (fun k => nI (dep (A 0 k))) n := by
  obtain ⟨_, _, ⟨pp, t3, _⟩, ⟨dep, t4, _, t4c⟩, _⟩ := h
  refine ⟨dep, t4, ?_⟩
  rw [mxw_f, mxw_f]
  refine mxf_perm (fun k hk => ?_) (fun k hk => ?_)
  · obtain ⟨j, g1, g2, _⟩ := t3.2.1 k hk
    exact ⟨j, g1, by rw [t4c k hk, g2]⟩
  · obtain ⟨j, g1, g2, _⟩ := t3.1 k hk
    exact ⟨j, g1, by rw [t4c j g1, show E j 0 = A 0 k from g2]⟩
theorem i32_m1 {v : Int32} (h : ¬ v < 8) : ¬ v < -1 ∧ -1 < v := by
  have e8 : (8 : Int32).toInt = 8 := by decide
  have e1 : (-1 : Int32).toInt = -1 := by decide
  rw [Int32.lt_iff_toInt_lt, e8] at h
  rw [Int32.lt_iff_toInt_lt, Int32.lt_iff_toInt_lt, e1]
  omega
