/-! what the law compares -/
def TIE (g : Nat) (z : CS) (u : MS) : Prop := TA (fun k => z.2.1 (adv z.2.2.1 k)) (z.2.1 g) u.1 u.2.1 z.2.2.2.2.2.1 z.2.2.2.2.2.2 u.2.2.2 ∧ z.2.2.2.1 = u.1 ∧ z.2.2.2.2.1 = u.2.1
section LAWP
variable {g : Nat} {LP : List Nat} {f : Nat → Nat → Int32} {wv : Nat → Option Nat} {n d cnt : Nat} {ids : Nat → Int32} {A : Nat → Nat → Int32}
theorem law_clear {z : CS} {u : MS} (hT : TA (fun k => f (adv wv k)) (f g) n d cnt ids A) (h1 : z = (LP, va_up f g (va_up (f g) 3 0), wv, 0, 0, 0, ids)) (h2 : u = (0, 0, 0, A)) : TIE g z u := by
  subst h1 h2
  obtain ⟨b0, b1, b2, _⟩ := hT.2.2.2.2.1
  have e : va_up f g (va_up (f g) 3 0) g = va_up (f g) 3 0 := va_up_self _ _ _
  refine ⟨TA.nil ?_, rfl, rfl⟩
  show va_up f g (va_up (f g) 3 0) g 0 = 0 ∧ va_up f g (va_up (f g) 3 0) g 1 = 0 ∧ va_up f g (va_up (f g) 3 0) g 2 = 0 ∧ va_up f g (va_up (f g) 3 0) g 3 = 0
  rw [e]
  exact ⟨b0, b1, b2, rfl⟩
theorem law_insert {v1 v2 v3 v4 r r' : Int32} {z : CS} {u : MS} (hT : TA (fun k => f (adv wv k)) (f g) n d cnt ids A) (hF : CF g LP wv n d cnt) (h1 : (((v2 = 0 ∨ ∃ k, k < n ∧ f (adv wv k) 0 = v2) ∧ ¬ v1 ≤ v2 ∧ Fre ids cnt v1 ∧ (¬ v3 < 0 ∧ ¬ 7 ≤ v3) ∧ n < 512) ∧ r = 1 ∧ ∃ b T m, Par f (adv wv) n g b T ∧ f b 0 = v2 ∧ WVd LP f wv n d cnt ids v1 b v3 v4 T m z) ∨ (¬ ((v2 = 0 ∨ ∃ k, k < n ∧ f (adv wv k) 0 = v2) ∧ ¬ v1 ≤ v2 ∧ Fre ids cnt v1 ∧ (¬ v3 < 0 ∧ ¬ 7 ≤ v3) ∧ n < 512) ∧ r = 0 ∧ z = (LP, f, wv, n, d, cnt, ids))) (h2 : (((NewM A n d v1 ∧ (v2 = 0 ∨ ∃ k, k < n ∧ A 0 k = v2) ∧ ¬ v1 ≤ v2 ∧ n < 512) ∧ (¬ v3 < 0 ∧ ¬ 6 < v3)) ∧ r' = 1 ∧ u = (n + 1, d, 0, kA A n v1 v2 v3 v4)) ∨ ((¬ ((NewM A n d v1 ∧ (v2 = 0 ∨ ∃ k, k < n ∧ A 0 k = v2) ∧ ¬ v1 ≤ v2 ∧ n < 512) ∧ (¬ v3 < 0 ∧ ¬ 6 < v3))) ∧ r' = 0 ∧ u = (n, d, 0, A))) : r = r' ∧ TIE g z u := by
  have hx := hT.ex v2
  have hN := hT.new v1
  have hk := kind_iff v3
  rcases h1 with ⟨c1, rfl, b, T, m, hP, hb, hW⟩ | ⟨c1, rfl, rfl⟩ <;> rcases h2 with ⟨c2, rfl, rfl⟩ | ⟨c2, rfl, rfl⟩
  · obtain ⟨w1, w2, w3, w4⟩ := hT.weave hF hP hW c1.2.2.2.2 c1.2.2.1 (by rw [hb]; exact i32_nle.mp c1.2.1)
    rw [hb] at w1
    exact ⟨rfl, by rw [w4]; exact w1, w2, w3⟩
  · exact absurd ⟨⟨hN.mp c1.2.2.1, c1.1.imp id hx.mp, c1.2.1, c1.2.2.2.2⟩, hk.mp c1.2.2.2.1⟩ c2
  · exact absurd ⟨c2.1.2.1.imp id hx.mpr, c2.1.2.2.1, hN.mpr c2.1.1, hk.mpr c2.2, c2.1.2.2.2⟩ c1
  · exact ⟨rfl, hT, rfl, rfl⟩
theorem law_run {v1 v2 v3 r r' : Int32} {v4 : Int64} {z : CS} {u : MS} (hT : TA (fun k => f (adv wv k)) (f g) n d cnt ids A) (h1 : (∃ M9, v3 = nI M9 ∧ (2 ≤ M9 ∧ M9 ≤ 8 ∧ n + M9 ≤ 512 ∧ (v2 = 0 ∨ ∃ k, k < n ∧ f (adv wv k) 0 = v2) ∧ ¬ v1 ≤ v2 ∧ ∀ k, k < M9 → Fre ids cnt (v1 + 8 * nI k)) ∧ r = 1 ∧ ∃ b T last, Par f (adv wv) n g b T ∧ f b 0 = v2 ∧ RnC g (LP, f, wv, n, d, cnt, ids) v1 b M9 v4 M9 z last) ∨ ((¬ ∃ M9, v3 = nI M9 ∧ (2 ≤ M9 ∧ M9 ≤ 8 ∧ n + M9 ≤ 512 ∧ (v2 = 0 ∨ ∃ k, k < n ∧ f (adv wv k) 0 = v2) ∧ ¬ v1 ≤ v2 ∧ ∀ k, k < M9 → Fre ids cnt (v1 + 8 * nI k))) ∧ r = 0 ∧ z = (LP, f, wv, n, d, cnt, ids))) (h2 : (∃ M9, v3 = nI M9 ∧ RunM A n d v1 v2 M9 ∧ r' = 1 ∧ u = (n + M9, d, 0, rA A n v1 v2 M9 v4 M9)) ∨ ((¬ ∃ M9, v3 = nI M9 ∧ RunM A n d v1 v2 M9) ∧ r' = 0 ∧ u = (n, d, 0, A))) : r = r' ∧ TIE g z u := by
  have hx := hT.ex v2
  have e0 : v1 + 8 * nI 0 = v1 := by rw [show (8 : Int32) * nI 0 = 0 by decide, Int32.add_zero]
  have iff : ∀ M, (2 ≤ M ∧ M ≤ 8 ∧ n + M ≤ 512 ∧ (v2 = 0 ∨ ∃ k, k < n ∧ f (adv wv k) 0 = v2) ∧ ¬ v1 ≤ v2 ∧ ∀ k, k < M → Fre ids cnt (v1 + 8 * nI k)) ↔ RunM A n d v1 v2 M := fun M => by
    constructor
    · rintro ⟨a1, a2, a3, a4, a5, a6⟩
      have z0 := a6 0 (by omega)
      rw [e0] at z0
      exact ⟨a1, a2, ⟨(hT.new v1).mp z0, a4.imp id hx.mp, a5, by omega⟩, a3, fun k g1 g2 => (hT.new _).mp (a6 k g2)⟩
    · rintro ⟨a1, a2, ⟨a3, a4, a5, _⟩, a6, a7⟩
      refine ⟨a1, a2, a6, a4.imp id hx.mpr, a5, fun k hk => ?_⟩
      by_cases c : k = 0
      · subst c; rw [e0]; exact (hT.new v1).mpr a3
      · exact (hT.new _).mpr (a7 k (by omega) hk)
  rcases h1 with ⟨M1, e1, c1, rfl, b, T, last, hP, hb, hR⟩ | ⟨c1, rfl, rfl⟩ <;> rcases h2 with ⟨M2, e2, c2, rfl, rfl⟩ | ⟨c2, rfl, rfl⟩
  · obtain rfl : M1 = M2 := (nI_eq (by have := c1.2.1; omega) (by have := c2.2.1; omega)).mp (e1.symm.trans e2)
    obtain ⟨w1, w2, w3, w4, _⟩ := TA.run (A := A) hT hb (i32_nle.mp c1.2.2.2.2.1) c1.2.1 c1.2.2.1 c1.2.2.2.2.2 M1 z last (Nat.le_refl _) hR
    exact ⟨rfl, by rw [w4]; exact w1, w2, w3⟩
  · exact absurd ⟨M1, e1, (iff M1).mp c1⟩ c2
  · exact absurd ⟨M2, e2, (iff M2).mpr c2⟩ c1
  · exact ⟨rfl, hT, rfl, rfl⟩
theorem law_set {v1 v2 v3 v4 r r' : Int32} {z : CS} {u : MS} (hT : TA (fun k => f (adv wv k)) (f g) n d cnt ids A) (h1 : (((∃ k, k < n ∧ f (adv wv k) 0 = v2) ∧ (Fre ids cnt v1 ∧ ¬ v1 ≤ v2 ∧ d < 1024) ∧ (¬ v3 < 0 ∧ ¬ 7 ≤ v3)) ∧ r = 1 ∧ ∃ k q, k < n ∧ f (adv wv k) 0 = v2 ∧ Fnb ids cnt v1 q ∧ z = (LP, va_up f (adv wv k) (ofr (va_up (f (adv wv k)) 4 (f (adv wv k) 4 + 1)) v1 v3 v4), wv, n, d + 1, cnt + 1, nte ids cnt q v1)) ∨ (¬ ((∃ k, k < n ∧ f (adv wv k) 0 = v2) ∧ (Fre ids cnt v1 ∧ ¬ v1 ≤ v2 ∧ d < 1024) ∧ (¬ v3 < 0 ∧ ¬ 7 ≤ v3)) ∧ r = 0 ∧ z = (LP, f, wv, n, d, cnt, ids))) (h2 : (((¬ v3 < 0 ∧ ¬ 6 < v3) ∧ (NewM A n d v1 ∧ (∃ k, k < n ∧ A 0 k = v2) ∧ ¬ v1 ≤ v2 ∧ d < 1024)) ∧ r' = 1 ∧ u = (n, d + 1, 0, dA A d v1 v2 v3 v4)) ∨ ((¬ ((¬ v3 < 0 ∧ ¬ 6 < v3) ∧ (NewM A n d v1 ∧ (∃ k, k < n ∧ A 0 k = v2) ∧ ¬ v1 ≤ v2 ∧ d < 1024))) ∧ r' = 0 ∧ u = (n, d, 0, A))) : r = r' ∧ TIE g z u := by
  have hx := hT.ex v2
  have hN := hT.new v1
  have hk := kind_iff v3
  rcases h1 with ⟨c1, rfl, t, q, ht, et, hFn, rfl⟩ | ⟨c1, rfl, rfl⟩ <;> rcases h2 with ⟨c2, rfl, rfl⟩ | ⟨c2, rfl, rfl⟩
  · exact ⟨rfl, hT.setC c1.2.1.1 hFn (i32_nle.mp c1.2.1.2.1) c1.2.2.1 ht et, rfl, rfl⟩
  · exact absurd ⟨hk.mp c1.2.2, hN.mp c1.2.1.1, hx.mp c1.1, c1.2.1.2.1, c1.2.1.2.2⟩ c2
  · exact absurd ⟨hx.mpr c2.2.2.1, ⟨hN.mpr c2.2.1, c2.2.2.2.1, c2.2.2.2.2⟩, hk.mpr c2.1⟩ c1
  · exact ⟨rfl, hT, rfl, rfl⟩
theorem law_remove {v1 v2 r r' : Int32} {z : CS} {u : MS} (hT : TA (fun k => f (adv wv k)) (f g) n d cnt ids A) (h1 : (((∃ k, k < n ∧ f (adv wv k) 0 = v2) ∧ (Fre ids cnt v1 ∧ ¬ v1 ≤ v2 ∧ d < 1024)) ∧ r = 1 ∧ ∃ k q, k < n ∧ f (adv wv k) 0 = v2 ∧ Fnb ids cnt v1 q ∧ z = (LP, va_up f (adv wv k) (va_up (f (adv wv k)) 5 (f (adv wv k) 5 + 1)), wv, n, d + 1, cnt + 1, nte ids cnt q v1)) ∨ (¬ ((∃ k, k < n ∧ f (adv wv k) 0 = v2) ∧ (Fre ids cnt v1 ∧ ¬ v1 ≤ v2 ∧ d < 1024)) ∧ r = 0 ∧ z = (LP, f, wv, n, d, cnt, ids))) (h2 : ((NewM A n d v1 ∧ (∃ k, k < n ∧ A 0 k = v2) ∧ ¬ v1 ≤ v2 ∧ d < 1024) ∧ r' = 1 ∧ u = (n, d + 1, 0, dA A d v1 v2 (-1) 0)) ∨ ((¬ (NewM A n d v1 ∧ (∃ k, k < n ∧ A 0 k = v2) ∧ ¬ v1 ≤ v2 ∧ d < 1024)) ∧ r' = 0 ∧ u = (n, d, 0, A))) : r = r' ∧ TIE g z u := by
  have hx := hT.ex v2
  have hN := hT.new v1
  rcases h1 with ⟨c1, rfl, t, q, ht, et, hFn, rfl⟩ | ⟨c1, rfl, rfl⟩ <;> rcases h2 with ⟨c2, rfl, rfl⟩ | ⟨c2, rfl, rfl⟩
  · exact ⟨rfl, hT.remC c1.2.1 hFn ht et, rfl, rfl⟩
  · exact absurd ⟨hN.mp c1.2.1, hx.mp c1.1, c1.2.2.1, c1.2.2.2⟩ c2
  · exact absurd ⟨hx.mpr c2.2.1, hN.mpr c2.1, c2.2.2.1, c2.2.2.2⟩ c1
  · exact ⟨rfl, hT, rfl, rfl⟩
theorem TA.id1 (hT : TA (fun k => f (adv wv k)) (f g) n d cnt ids A) {j k : Nat} (hj : j < n) (hk : k < n) (e : f (adv wv j) 0 = f (adv wv k) 0) : j = k := by
  obtain ⟨_, _, ⟨pp, t3, _⟩, _⟩ := hT
  exact t3.2.2.1 j k hj hk e
theorem vis_inj {G : Nat → Int32} {j k : Nat} (hj : G j = 0) (hk : G k = 0) (e : vis G j = vis G k) : j = k := by
  rcases Nat.lt_trichotomy j k with c | c | c
  · have h1 := vis_s (g := G) (k := j) rfl hj
    have h2 := vis_mono G (show j + 1 ≤ k by omega)
    omega
  · exact c
  · have h1 := vis_s (g := G) (k := k) rfl hk
    have h2 := vis_mono G (show k + 1 ≤ j by omega)
    omega
theorem law_size {r r' : Int32} {u : MS} (hT : TA (fun k => f (adv wv k)) (f g) n d cnt ids A) (hd : d ≤ 1024) (hn : n ≤ 512) (h1 : r = nI (vis (fun k => f (adv wv k) 5) n)) (h2 : r' = nI (cntB (fun k => !remB A (A 0 k) d) n) ∧ u = (n, d, 0, A)) : r = r' ∧ TIE g (LP, f, wv, n, d, cnt, ids) u := by
  obtain ⟨h2, rfl⟩ := h2
  exact ⟨by rw [h1, h2, ← hT.size hd], hT, rfl, rfl⟩
theorem law_place {v1 r r' : Int32} {u : MS} (hT : TA (fun k => f (adv wv k)) (f g) n d cnt ids A) (hd : d ≤ 1024) (hn : n ≤ 512) (h1 : (∃ k, k < n ∧ f (adv wv k) 0 = v1 ∧ f (adv wv k) 5 = 0 ∧ r = nI (vis (fun k => f (adv wv k) 5) k)) ∨ (((∀ k, k < n → ¬ f (adv wv k) 0 = v1) ∨ ∃ k, k < n ∧ f (adv wv k) 0 = v1 ∧ ¬ f (adv wv k) 5 = 0) ∧ r = -1)) (h2 : ((∃ k, k < n ∧ f (adv wv k) 0 = v1 ∧ remB A v1 d = false ∧ r' = nI (vis (fun k => f (adv wv k) 5) k)) ∨ (((∀ k, k < n → ¬ f (adv wv k) 0 = v1) ∨ remB A v1 d = true) ∧ r' = -1)) ∧ u.1 = n ∧ u.2.1 = d ∧ u.2.2.1 = 0 ∧ Scr A u.2.2.2) : r = r' ∧ TIE g (LP, f, wv, n, d, cnt, ids) u := by
  obtain ⟨h2, e1, e2, e3, hS⟩ := h2
  obtain ⟨u1, u2, u3, u4⟩ := u
  dsimp only at e1 e2 e3 hS
  subst e1 e2
  refine ⟨?_, hT.scr hS, rfl, rfl⟩
  obtain ⟨pp, hc, _⟩ := hT.cor hd
  rcases h1 with ⟨k, a1, a2, a3, rfl⟩ | ⟨a1, rfl⟩ <;> rcases h2 with ⟨k', b1, b2, b3, rfl⟩ | ⟨b1, rfl⟩
  · obtain rfl := hT.id1 a1 b1 (a2.trans b2.symm)
    rfl
  · rcases b1 with b1 | b1
    · exact absurd a2 (b1 k a1)
    · have := (hc.2.2 k a1).mp a3
      dsimp only at this
      rw [a2, b1] at this; exact absurd this (by decide)
  · rcases a1 with a1 | ⟨k, a1, a2, a3⟩
    · exact absurd b2 (a1 k' b1)
    · exact absurd ((hc.2.2 k a1).mpr (by rw [show (fun k => f (adv wv k) 0) k = v1 from a2]; exact b3)) a3
  · rfl
theorem law_look {v1 r r' : Int32} {u : MS} {dep : Int32 → Nat} (hT : TA (fun k => f (adv wv k)) (f g) n d cnt ids A) (hd : d ≤ 1024) (hn : n ≤ 512) (hdp : mxw (fun k => f (adv wv k) 2) n = mxw (fun k => nI (dep (A 0 k))) n) (h1 : (v1 = 0 ∧ r = nI n) ∨ (v1 = 1 ∧ r = nI (vis (fun k => f (adv wv k) 5) n)) ∨ (v1 = 2 ∧ r = nI d) ∨ (v1 = 3 ∧ ((cnt = 0 ∧ r = -1) ∨ (0 < cnt ∧ r = ids (cnt - 1)))) ∨ (v1 = 4 ∧ r = mxw (fun k => f (adv wv k) 2) n) ∨ (¬ v1 = 0 ∧ ¬ v1 = 1 ∧ ¬ v1 = 2 ∧ ¬ v1 = 3 ∧ ¬ v1 = 4 ∧ r = -1)) (h2 : ((v1 = 0 ∧ r' = nI n) ∨ (v1 = 1 ∧ r' = nI (cntB (fun k => !remB A (A 0 k) d) n)) ∨ (v1 = 2 ∧ r' = nI d) ∨ (v1 = 3 ∧ r' = mxf (A 4) (mxf (A 0) (-1) n) d) ∨ (v1 = 4 ∧ r' = mxw (fun k => nI (dep (A 0 k))) n) ∨ (¬ v1 = 0 ∧ ¬ v1 = 1 ∧ ¬ v1 = 2 ∧ ¬ v1 = 3 ∧ ¬ v1 = 4 ∧ r' = -1)) ∧ u = (n, d, 0, A)) : r = r' ∧ TIE g (LP, f, wv, n, d, cnt, ids) u := by
  obtain ⟨h2, rfl⟩ := h2
  refine ⟨?_, hT, rfl, rfl⟩
  rcases h1 with ⟨rfl, rfl⟩ | ⟨rfl, rfl⟩ | ⟨rfl, rfl⟩ | ⟨rfl, h⟩ | ⟨rfl, rfl⟩ | ⟨n0, n1, n2, n3, n4, rfl⟩
  all_goals (rcases h2 with ⟨e, h2⟩ | ⟨e, h2⟩ | ⟨e, h2⟩ | ⟨e, h2⟩ | ⟨e, h2⟩ | ⟨m0, m1, m2, m3, m4, h2⟩)
  all_goals first | (exact absurd e (by decide)) | (exact absurd rfl ‹_›) | (exact absurd e ‹_›) | skip
  all_goals first | (exact h2.symm) | (rw [h2, ← hT.size hd]) | (rw [h2]; exact hT.great h) | (rw [h2, ← hdp])
theorem law_ahead {v1 r r' : Int32} {z : Nat → Int64} {u : MS} (hT : TA (fun k => f (adv wv k)) (f g) n d cnt ids A) (hd : d ≤ 1024) (hn : n ≤ 512) (h1 : (r = 0 ∧ ∃ r0, (fun r : Int32 => ∃ k, k < n ∧ f (adv wv k) 0 = v1 ∧ r = nI (vis (fun k => f (adv wv k) 5) k)) r0 ∧ z 0 = r0.toInt64) ∨ (r = 1 ∧ (∀ k, k < n → ¬ f (adv wv k) 0 = v1))) (h2 : ((∃ k, k < n ∧ f (adv wv k) 0 = v1 ∧ r' = nI (vis (fun k => f (adv wv k) 5) k) ∧ u.2.2.1 = 0) ∨ ((∀ k, k < n → ¬ f (adv wv k) 0 = v1) ∧ u.2.2.1 = 1)) ∧ u.1 = n ∧ u.2.1 = d ∧ Scr A u.2.2.2) : u.2.2.1 = r ∧ (r = 0 → z 0 = r'.toInt64) ∧ TIE g (LP, f, wv, n, d, cnt, ids) u := by
  obtain ⟨h2, e1, e2, hS⟩ := h2
  obtain ⟨u1, u2, u3, u4⟩ := u
  dsimp only at e1 e2 hS h2
  subst e1 e2
  refine and_assoc.mp ⟨?_, hT.scr hS, rfl, rfl⟩
  dsimp only
  rcases h1 with ⟨rfl, r0, ⟨k, a1, a2, rfl⟩, hz⟩ | ⟨rfl, a1⟩ <;> rcases h2 with ⟨k', b1, b2, rfl, e⟩ | ⟨b1, e⟩
  · obtain rfl := hT.id1 a1 b1 (a2.trans b2.symm)
    exact ⟨e, fun _ => hz⟩
  · exact absurd a2 (b1 k a1)
  · exact absurd b2 (a1 k' b1)
  · exact ⟨e, fun z => absurd z (by decide)⟩
theorem law_before {v1 v2 r r' : Int32} {z : Nat → Int64} {u : MS} (hT : TA (fun k => f (adv wv k)) (f g) n d cnt ids A) (hd : d ≤ 1024) (hn : n ≤ 512) (h1 : (r = 0 ∧ ∃ r0, (fun r : Int32 => ∃ a b, a < n ∧ b < n ∧ f (adv wv a) 0 = v1 ∧ f (adv wv b) 0 = v2 ∧ ((a < b ∧ r = 1) ∨ (¬ a < b ∧ r = 0))) r0 ∧ z 0 = r0.toInt64) ∨ (r = 1 ∧ ((∀ k, k < n → ¬ f (adv wv k) 0 = v1) ∨ (∀ k, k < n → ¬ f (adv wv k) 0 = v2)))) (h2 : ((∃ a b, a < n ∧ b < n ∧ f (adv wv a) 0 = v1 ∧ f (adv wv b) 0 = v2 ∧ ((a < b ∧ r' = 1) ∨ (¬ a < b ∧ r' = 0)) ∧ u.2.2.1 = 0) ∨ (((∀ k, k < n → ¬ f (adv wv k) 0 = v1) ∨ (∀ k, k < n → ¬ f (adv wv k) 0 = v2)) ∧ u.2.2.1 = 1)) ∧ u.1 = n ∧ u.2.1 = d ∧ Scr A u.2.2.2) : u.2.2.1 = r ∧ (r = 0 → z 0 = r'.toInt64) ∧ TIE g (LP, f, wv, n, d, cnt, ids) u := by
  obtain ⟨h2, e1, e2, hS⟩ := h2
  obtain ⟨u1, u2, u3, u4⟩ := u
  dsimp only at e1 e2 hS h2
  subst e1 e2
  refine and_assoc.mp ⟨?_, hT.scr hS, rfl, rfl⟩
  dsimp only
  rcases h1 with ⟨rfl, r0, ⟨a, b, a1, a2, a3, a4, a5⟩, hz⟩ | ⟨rfl, a1⟩ <;> rcases h2 with ⟨a', b', b1, b2, b3, b4, b5, e⟩ | ⟨b1, e⟩
  · obtain rfl := hT.id1 a1 b1 (a3.trans b3.symm)
    obtain rfl := hT.id1 a2 b2 (a4.trans b4.symm)
    refine ⟨e, fun _ => ?_⟩
    rw [hz]
    rcases a5 with ⟨c1, rfl⟩ | ⟨c1, rfl⟩ <;> rcases b5 with ⟨c2, rfl⟩ | ⟨c2, rfl⟩
    · rfl
    · exact absurd c1 c2
    · exact absurd c2 c1
    · rfl
  · rcases b1 with b1 | b1
    · exact absurd a3 (b1 a a1)
    · exact absurd a4 (b1 b a2)
  · rcases a1 with a1 | a1
    · exact absurd b3 (a1 a' b1)
    · exact absurd b4 (a1 b' b2)
  · exact ⟨e, fun z => absurd z (by decide)⟩
theorem law_row {v1 r r' : Int32} {z : Nat → Int64} {u : MS} (hT : TA (fun k => f (adv wv k)) (f g) n d cnt ids A) (hd : d ≤ 1024) (hn : n ≤ 512) (h1 : (r = 0 ∧ ∃ r0, (fun r : Int32 => ∃ k, k < n ∧ v1 = nI k ∧ ((f (adv wv k) 5 = 0 ∧ r = f (adv wv k) 0) ∨ (¬ f (adv wv k) 5 = 0 ∧ r = -f (adv wv k) 0))) r0 ∧ z 0 = r0.toInt64) ∨ (r = 1 ∧ (v1 < 0 ∨ nI n ≤ v1))) (h2 : ((∃ k, k < n ∧ v1 = nI k ∧ ((f (adv wv k) 5 = 0 ∧ r' = f (adv wv k) 0) ∨ (¬ f (adv wv k) 5 = 0 ∧ r' = -f (adv wv k) 0)) ∧ u.2.2.1 = 0) ∨ ((v1 < 0 ∨ nI n ≤ v1) ∧ u.2.2.1 = 1)) ∧ u.1 = n ∧ u.2.1 = d ∧ Scr A u.2.2.2) : u.2.2.1 = r ∧ (r = 0 → z 0 = r'.toInt64) ∧ TIE g (LP, f, wv, n, d, cnt, ids) u := by
  obtain ⟨h2, e1, e2, hS⟩ := h2
  obtain ⟨u1, u2, u3, u4⟩ := u
  dsimp only at e1 e2 hS h2
  subst e1 e2
  refine and_assoc.mp ⟨?_, hT.scr hS, rfl, rfl⟩
  dsimp only
  have no : ∀ k, k < u1 → ¬ (nI k < 0 ∨ nI u1 ≤ nI k) := fun k hk z => z.elim (fun z => nI_pos (by omega) z) (fun z => nI_ge hk (by omega) z)
  rcases h1 with ⟨rfl, r0, ⟨k, a1, a2, a3⟩, hz⟩ | ⟨rfl, a1⟩ <;> rcases h2 with ⟨k', b1, b2, b3, e⟩ | ⟨b1, e⟩
  · obtain rfl : k = k' := (nI_eq (by omega) (by omega)).mp (a2.symm.trans b2)
    refine ⟨e, fun _ => ?_⟩
    rw [hz]
    rcases a3 with ⟨c1, rfl⟩ | ⟨c1, rfl⟩ <;> rcases b3 with ⟨c2, rfl⟩ | ⟨c2, rfl⟩
    · rfl
    · exact absurd c1 c2
    · exact absurd c2 c1
    · rfl
  · rw [a2] at b1; exact absurd b1 (no k a1)
  · rw [b2] at a1; exact absurd a1 (no k' b1)
  · exact ⟨e, fun z => absurd z (by decide)⟩
theorem law_at {v1 v2 r r' : Int32} {z : Nat → Int64} {u : MS} (hT : TA (fun k => f (adv wv k)) (f g) n d cnt ids A) (hd : d ≤ 1024) (hn : n ≤ 512) (h1 : (r = 0 ∧ ∃ r0, (fun r : Int32 => ∃ k, k < n ∧ f (adv wv k) 5 = 0 ∧ nI (vis (fun k => f (adv wv k) 5) k) = v1 ∧ ((v2 = 0 ∧ r = f (adv wv k) 0) ∨ (v2 = 1 ∧ r = f (adv wv k) 7) ∨ (v2 = 2 ∧ r = f (adv wv k) 8) ∨ (v2 = 3 ∧ r = f (adv wv k) 6))) r0 ∧ z 0 = r0.toInt64) ∨ (r = 1 ∧ ((∀ k, k < n → f (adv wv k) 5 = 0 → ¬ nI (vis (fun k => f (adv wv k) 5) k) = v1) ∨ (¬ v2 = 0 ∧ ¬ v2 = 1 ∧ ¬ v2 = 2 ∧ ¬ v2 = 3)))) (h2 : ((∃ k, k < n ∧ f (adv wv k) 5 = 0 ∧ nI (vis (fun k => f (adv wv k) 5) k) = v1 ∧ ((v2 = 0 ∧ r' = f (adv wv k) 0) ∨ (v2 = 1 ∧ OfM A n d (f (adv wv k) 0) 2 6 r') ∨ (v2 = 2 ∧ OfM A n d (f (adv wv k) 0) 3 7 r') ∨ (v2 = 3 ∧ OfM A n d (f (adv wv k) 0) 0 4 r')) ∧ u.2.2.1 = 0) ∨ (((∀ k, k < n → f (adv wv k) 5 = 0 → ¬ nI (vis (fun k => f (adv wv k) 5) k) = v1) ∨ (¬ v2 = 0 ∧ ¬ v2 = 1 ∧ ¬ v2 = 2 ∧ ¬ v2 = 3)) ∧ u.2.2.1 = 1)) ∧ u.1 = n ∧ u.2.1 = d ∧ Scr A u.2.2.2) : u.2.2.1 = r ∧ (r = 0 → z 0 = r'.toInt64) ∧ TIE g (LP, f, wv, n, d, cnt, ids) u := by
  obtain ⟨h2, e1, e2, hS⟩ := h2
  obtain ⟨u1, u2, u3, u4⟩ := u
  dsimp only at e1 e2 hS h2
  subst e1 e2
  refine and_assoc.mp ⟨?_, hT.scr hS, rfl, rfl⟩
  dsimp only
  rcases h1 with ⟨rfl, r0, ⟨k, a1, a2, a3, a4⟩, hz⟩ | ⟨rfl, a1⟩ <;> rcases h2 with ⟨k', b1, b2, b3, b4, e⟩ | ⟨b1, e⟩
  · have l1 := vis_le (fun k => f (adv wv k) 5) k
    have l2 := vis_le (fun k => f (adv wv k) 5) k'
    obtain rfl : k = k' := vis_inj (G := fun k => f (adv wv k) 5) a2 b2 ((nI_eq (by omega) (by omega)).mp (a3.trans b3.symm))
    refine ⟨e, fun _ => ?_⟩
    obtain ⟨o6, o7, o8⟩ := hT.of a1
    rw [hz]
    rcases a4 with ⟨rfl, rfl⟩ | ⟨rfl, rfl⟩ | ⟨rfl, rfl⟩ | ⟨rfl, rfl⟩ <;> rcases b4 with ⟨q, b4⟩ | ⟨q, b4⟩ | ⟨q, b4⟩ | ⟨q, b4⟩
    all_goals first | (exact absurd q (by decide)) | skip
    · rw [b4]
    · rw [o7 _ b4]
    · rw [o8 _ b4]
    · rw [o6 _ b4]
  · rcases b1 with b1 | ⟨b0, b1, b2, b3⟩
    · exact absurd a3 (b1 k a1 a2)
    · rcases a4 with ⟨q, _⟩ | ⟨q, _⟩ | ⟨q, _⟩ | ⟨q, _⟩
      · exact absurd q b0
      · exact absurd q b1
      · exact absurd q b2
      · exact absurd q b3
  · rcases a1 with a1 | ⟨a0, a1, a2, a3⟩
    · exact absurd b3 (a1 k' b1 b2)
    · rcases b4 with ⟨q, _⟩ | ⟨q, _⟩ | ⟨q, _⟩ | ⟨q, _⟩
      · exact absurd q a0
      · exact absurd q a1
      · exact absurd q a2
      · exact absurd q a3
  · exact ⟨e, fun z => absurd z (by decide)⟩
theorem law_of {v1 v2 r r' : Int32} {z : Nat → Int64} {u : MS} (hT : TA (fun k => f (adv wv k)) (f g) n d cnt ids A) (hd : d ≤ 1024) (hn : n ≤ 512) (h1 : (r = 0 ∧ ∃ r0, (fun r : Int32 => (v1 = 0 ∧ ((v2 = 0 ∧ r = f g 1) ∨ (v2 = 1 ∧ r = f g 3))) ∨ (¬ v1 = 0 ∧ ∃ k, k < n ∧ f (adv wv k) 0 = v1 ∧ ((v2 = 0 ∧ r = f (adv wv k) 1) ∨ (v2 = 1 ∧ r = f (adv wv k) 3) ∨ (v2 = 2 ∧ r = f (adv wv k) 4) ∨ (v2 = 3 ∧ r = f (adv wv k) 5) ∨ (v2 = 4 ∧ r = f (adv wv k) 6) ∨ (v2 = 5 ∧ r = f (adv wv k) 7) ∨ (v2 = 6 ∧ r = f (adv wv k) 8)))) r0 ∧ z 0 = r0.toInt64) ∨ (r = 1 ∧ ((¬ v1 = 0 ∧ ∀ k, k < n → ¬ f (adv wv k) 0 = v1) ∨ (v1 = 0 ∧ 1 < v2) ∨ (¬ v2 = 0 ∧ ¬ v2 = 1 ∧ ¬ v2 = 2 ∧ ¬ v2 = 3 ∧ ¬ v2 = 4 ∧ ¬ v2 = 5 ∧ ¬ v2 = 6)))) (h2 : ((u.2.2.1 = 0 ∧ ((v1 = 0 ∧ v2 = 0 ∧ r' = 0) ∨ (v1 = 0 ∧ v2 = 1 ∧ r' = nI (cntB (fun k => decide (A 1 k = v1)) n)) ∨ (¬ v1 = 0 ∧ ∃ k, k < n ∧ A 0 k = v1 ∧ ((v2 = 0 ∧ r' = A 1 k) ∨ (v2 = 1 ∧ r' = nI (cntB (fun k => decide (A 1 k = v1)) n)) ∨ (v2 = 2 ∧ r' = nI (cntB (fun k => decide (A 5 k = v1) && !decide (A 6 k < 0)) d)) ∨ (v2 = 3 ∧ r' = nI (cntB (fun k => decide (A 5 k = v1) && decide (A 6 k < 0)) d)) ∨ (v2 = 4 ∧ OfM A n d v1 0 4 r') ∨ (v2 = 5 ∧ OfM A n d v1 2 6 r') ∨ (v2 = 6 ∧ OfM A n d v1 3 7 r'))))) ∨ (u.2.2.1 = 1 ∧ ((¬ v1 = 0 ∧ ∀ k, k < n → ¬ A 0 k = v1) ∨ (v1 = 0 ∧ 1 < v2) ∨ (¬ v2 = 0 ∧ ¬ v2 = 1 ∧ ¬ v2 = 2 ∧ ¬ v2 = 3 ∧ ¬ v2 = 4 ∧ ¬ v2 = 5 ∧ ¬ v2 = 6)))) ∧ u.1 = n ∧ u.2.1 = d ∧ u.2.2.2 = A) : u.2.2.1 = r ∧ (r = 0 → z 0 = r'.toInt64) ∧ TIE g (LP, f, wv, n, d, cnt, ids) u := by
  obtain ⟨h2, e1, e2, e3⟩ := h2
  obtain ⟨u1, u2, u3, u4⟩ := u
  dsimp only at e1 e2 e3 h2
  subst e1 e2 e3
  refine and_assoc.mp ⟨?_, hT, rfl, rfl⟩
  dsimp only
  obtain ⟨pp, hc, hbh⟩ := hT.cor hd
  obtain ⟨B0, B1, B2, B3⟩ := hT.2.2.2.2.1
  rcases h1 with ⟨rfl, r0, a1, hz⟩ | ⟨rfl, a1⟩ <;> rcases h2 with ⟨e, b1⟩ | ⟨e, b1⟩
  · refine ⟨e, fun _ => ?_⟩
    rw [hz]
    congr 1
    rcases a1 with ⟨rfl, a1⟩ | ⟨n0, k, a1, a2, a3⟩ <;> rcases b1 with ⟨q, q2, b1⟩ | ⟨q, q2, b1⟩ | ⟨q, k', b1, b2, b3⟩
    · rcases a1 with ⟨rfl, rfl⟩ | ⟨rfl, rfl⟩
      · rw [b1, B1]
      · exact absurd q2 (by decide)
    · rcases a1 with ⟨rfl, rfl⟩ | ⟨rfl, rfl⟩
      · exact absurd q2 (by decide)
      · rw [b1, B3]
    · exact absurd rfl q
    · exact absurd q n0
    · exact absurd q n0
    · obtain ⟨j, c1, c2, c3⟩ := hc.1.2.1 k a1
      obtain rfl : j = k' := hc.1.2.2.2.1 j k' c1 b1 (by rw [c2, b2]; exact a2)
      obtain ⟨o6, o7, o8⟩ := hT.of a1
      obtain ⟨r3, r4, r5, _, _, _⟩ := hT.2.2.2.2.2.1 k a1
      subst a2
      rcases a3 with ⟨rfl, rfl⟩ | ⟨rfl, rfl⟩ | ⟨rfl, rfl⟩ | ⟨rfl, rfl⟩ | ⟨rfl, rfl⟩ | ⟨rfl, rfl⟩ | ⟨rfl, rfl⟩ <;> rcases b3 with ⟨q, b3⟩ | ⟨q, b3⟩ | ⟨q, b3⟩ | ⟨q, b3⟩ | ⟨q, b3⟩ | ⟨q, b3⟩ | ⟨q, b3⟩
      all_goals first | (exact absurd q (by decide)) | skip
      · rw [b3, c3]; exact hbh k a1
      · rw [b3]; exact r3
      · rw [b3]; exact r4
      · rw [b3]; exact r5
      · rw [o6 _ b3]
      · rw [o7 _ b3]
      · rw [o8 _ b3]
  · exfalso
    rcases a1 with ⟨rfl, a1⟩ | ⟨n0, k, a1, a2, a3⟩ <;> rcases b1 with ⟨q, b1⟩ | ⟨q, b1⟩ | ⟨b0, b1, b2, b3, b4, b5, b6⟩
    · exact q rfl
    · rcases a1 with ⟨rfl, _⟩ | ⟨rfl, _⟩ <;> exact absurd b1 (by decide)
    · rcases a1 with ⟨q, _⟩ | ⟨q, _⟩
      · exact b0 q
      · exact b1 q
    · obtain ⟨j, c1, c2, _⟩ := hc.1.2.1 k a1
      exact b1 j c1 (by rw [c2]; exact a2)
    · exact n0 q
    · rcases a3 with ⟨q, _⟩ | ⟨q, _⟩ | ⟨q, _⟩ | ⟨q, _⟩ | ⟨q, _⟩ | ⟨q, _⟩ | ⟨q, _⟩
      · exact b0 q
      · exact b1 q
      · exact b2 q
      · exact b3 q
      · exact b4 q
      · exact b5 q
      · exact b6 q
  · exfalso
    rcases b1 with ⟨rfl, q2, _⟩ | ⟨rfl, q2, _⟩ | ⟨q, k', b1, b2, b3⟩ <;> rcases a1 with ⟨q, a1⟩ | ⟨q, a1⟩ | ⟨a0, a1, a2, a3, a4, a5, a6⟩
    · exact q rfl
    · subst q2; exact absurd a1 (by decide)
    · exact a0 q2
    · exact q rfl
    · subst q2; exact absurd a1 (by decide)
    · exact a1 q2
    · obtain ⟨j, c1, c2, _⟩ := hc.1.1 k' b1
      exact a1 j c1 (c2.trans b2)
    · exact absurd q ‹_›
    · rcases b3 with ⟨q, _⟩ | ⟨q, _⟩ | ⟨q, _⟩ | ⟨q, _⟩ | ⟨q, _⟩ | ⟨q, _⟩ | ⟨q, _⟩
      · exact a0 q
      · exact a1 q
      · exact a2 q
      · exact a3 q
      · exact a4 q
      · exact a5 q
      · exact a6 q
  · exact ⟨e, fun z => absurd z (by decide)⟩
end LAWP
