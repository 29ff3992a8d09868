theorem TA.great {E : Nat → Nat → Int32} {B : Nat → Int32} {n d cnt : Nat} {ids : Nat → Int32} {A : Nat → Nat → Int32} {r : Int32} (h : TA E B n d cnt ids A) (hr : (cnt = 0 ∧ r = -1) ∨ (0 < cnt ∧ r = ids (cnt - 1))) : r = mxf (A 4) (mxf (A 0) (-1) n) d := by
  obtain ⟨t1, t2, ⟨pp, t3, _⟩, _, _, _, t7, _, t9, t10⟩ := h
  rcases hr with ⟨h1, rfl⟩ | ⟨h1, rfl⟩
  · obtain rfl : n = 0 := by omega
    obtain rfl : d = 0 := by omega
    rfl
  · have hn : 0 < n := Nat.pos_of_ne_zero (fun e => by
      subst e
      obtain ⟨j, g1, _⟩ := t9 0 (by omega)
      omega)
    have up := mxf_ge (A 4) (mxf (A 0) (-1) n) d
    have up0 := mxf_ge (A 0) (-1) n
    have top : ∀ v, ((∃ k, k < n ∧ A 0 k = v) ∨ ∃ k, k < d ∧ A 4 k = v) → ¬ ids (cnt - 1) < v := fun v hv => by
      obtain ⟨j, g1, g2⟩ := (t7 v).mpr hv
      rw [← g2]
      exact t1.le (by omega) (by omega)
    refine i32_eq (fun z => ?_) (fun z => ?_)
    · rcases mxf_at (A 4) (mxf (A 0) (-1) n) d with e | ⟨k, g1, e⟩
      · rw [e] at z
        rcases mxf_at (A 0) (-1) n with e2 | ⟨k, g1, e2⟩
        · rw [e2] at z
          obtain ⟨k, g1, g2, _⟩ := t3.2.1 0 hn
          have z1 := top (A 0 k) (Or.inl ⟨k, g1, rfl⟩)
          have z2 : ¬ A 0 k < 8 := by rw [g2]; exact t10 0 hn
          exact z1 (i32_trans z (i32_m1 z2).2)
        · rw [e2] at z; exact top _ (Or.inl ⟨k, g1, rfl⟩) z
      · rw [e] at z; exact top _ (Or.inr ⟨k, g1, rfl⟩) z
    · rcases (t7 (ids (cnt - 1))).mp ⟨cnt - 1, by omega, rfl⟩ with ⟨k, g1, g2⟩ | ⟨k, g1, g2⟩
      · rw [← g2] at z
        rcases mxf_at (A 4) (mxf (A 0) (-1) n) d with e | ⟨k', g3, e⟩
        · rw [e] at z; exact up0.2 k g1 z
        · have y1 := up.1
          have y2 := up0.2 k g1
          refine y2 ?_
          exact Classical.byContradiction (fun y3 => y1 (by
            rw [Int32.lt_iff_toInt_lt] at z y3 ⊢
            omega))
      · rw [← g2] at z; exact up.2 k g1 z
theorem byte_eq (part : Int64) {M k : Nat} (hk : k < M) (hM : M ≤ 8) : byC part M k = bM part M k := by
  obtain ⟨s, hs, e⟩ : ∃ s, s < 8 ∧ nI M - 1 - nI k = nI s := ⟨M - 1 - k, by omega, by rw [show (1 : Int32) = nI 1 from rfl, nI_sub (by omega), nI_sub (by omega)]⟩
  unfold byC bM
  rw [e]
  congr 1
  have key : ∀ c : Nat, c < 57 → ∀ x : BitVec 64, (x.sshiftRight c) &&& 255#64 = (x >>> c) &&& 255#64 := fun c hc x => by
    apply BitVec.eq_of_getLsbD_eq
    intro i hi
    rw [BitVec.getLsbD_and, BitVec.getLsbD_and, BitVec.getLsbD_sshiftRight, BitVec.getLsbD_ushiftRight]
    by_cases h8 : i < 8
    · rw [if_pos (by omega)]
      simp only [show decide (64 ≤ i) = false from decide_eq_false (by omega), Bool.not_false, Bool.true_and]
    · have : (255#64).getLsbD i = false := by
        rw [BitVec.getLsbD_ofNat]
        have : Nat.testBit 255 i = false := Nat.testBit_lt_two_pow (Nat.lt_of_lt_of_le (by decide : 255 < 2 ^ 8) (Nat.pow_le_pow_right (by decide) (by omega)))
        rw [this, Bool.and_false]
      rw [this, Bool.and_false, Bool.and_false]
  apply Int64.toBitVec_inj.mp
  match s, hs with
  | 0, _ => exact (key 0 (by decide) part.toBitVec).symm
  | 1, _ => exact (key 8 (by decide) part.toBitVec).symm
  | 2, _ => exact (key 16 (by decide) part.toBitVec).symm
  | 3, _ => exact (key 24 (by decide) part.toBitVec).symm
  | 4, _ => exact (key 32 (by decide) part.toBitVec).symm
  | 5, _ => exact (key 40 (by decide) part.toBitVec).symm
  | 6, _ => exact (key 48 (by decide) part.toBitVec).symm
  | 7, _ => exact (key 56 (by decide) part.toBitVec).symm
/-! the class's states -/
theorem par_iff {g b T : Nat} {f : Nat → Nat → Int32} {wv : Nat → Option Nat} {n cn cnt : Nat} {ids : Nat → Int32} (hI : CI g f wv n cn cnt ids) (hP : Par f (adv wv) n g b T) : (∀ k, k < n → (adv wv k = b ↔ T = k + 1)) ∧ (g = b ↔ T = 0) := by
  obtain ⟨_, _, i3, i4, i5, _⟩ := hI
  rcases hP with ⟨h1, h2, h3⟩ | ⟨t, h1, h2, h3, h4, h5⟩
  · subst h1 h3
    refine ⟨fun k hk => ⟨fun e => ?_, fun e => ?_⟩, ⟨fun _ => rfl, fun _ => rfl⟩⟩
    · have := (i32_8 (i4 k hk)).1
      rw [e] at this; exact absurd h2 this
    · omega
  · subst h2 h3
    refine ⟨fun k hk => ⟨fun e => ?_, fun e => ?_⟩, ⟨fun e => ?_, fun e => ?_⟩⟩
    · rw [i5 k t hk h1 (by rw [e])]
    · rw [show k = t by omega]
    · rw [e] at i3; exact absurd i3 h4
    · omega
theorem TA.weave {g b T m : Nat} {LP : List Nat} {f : Nat → Nat → Int32} {wv : Nat → Option Nat} {n cn cnt : Nat} {ids : Nat → Int32} {v1 v3 v4 : Int32} {z : CS} {A : Nat → Nat → Int32} (hT : TA (fun k => f (adv wv k)) (f g) n cn cnt ids A) (hF : CF g LP wv n cn cnt) (hP : Par f (adv wv) n g b T) (hW : WVd LP f wv n cn cnt ids v1 b v3 v4 T m z) (hn : n < 512) (hf : Fre ids cnt v1) (hlt : f b 0 < v1) :
    TA (fun k => z.2.1 (adv z.2.2.1 k)) (z.2.1 g) (n + 1) cn (cnt + 1) z.2.2.2.2.2.2 (kA A n v1 (f b 0) v3 v4) ∧ z.2.2.2.1 = n + 1 ∧ z.2.2.2.2.1 = cn ∧ z.2.2.2.2.2.1 = cnt + 1 := by
  obtain ⟨pi1, pi2⟩ := par_iff hT.CI hP
  obtain ⟨q, q2, h1, h2, h3, h4, h5, h6, h7, h8⟩ := hW.rows hF (hP.mem hF)
  have b3 : ∀ a (X : Prop) [Decidable X], (a = b ↔ X) → bump f b a 3 = if X then f a 3 + 1 else f a 3 := fun a X _ hx => by
    unfold bump
    by_cases c : X
    · rw [if_pos c, if_pos (hx.mpr c), va_up_self, hx.mpr c]
    · rw [if_neg c, if_neg (fun e => c (hx.mp e))]
  rw [h8]
  refine ⟨TA.ins (q := q) (q2 := q2) (T := T) hT hn hf hlt h1 ?_ h2 (fun k hk => ?_) (f b 2) ?_ ?_ (fun k g1 g2 => ?_) ?_, rfl, rfl, rfl⟩
  · rcases hP with ⟨e1, e2, e3⟩ | ⟨t, e1, e2, e3, _⟩
    · exact Or.inl ⟨e3.symm, by rw [← e1]; exact e2⟩
    · exact Or.inr ⟨t, e1, e3.symm, by rw [← e2]⟩
  · rw [h3 k hk]
    exact ⟨fun j hj => bump_ne hj, b3 _ _ (pi1 k (by have := h1.2.1; omega))⟩
  · rcases hP with ⟨e1, e2, e3⟩ | ⟨t, e1, e2, e3, _⟩
    · exact Or.inl ⟨e3.symm, by rw [← e1]⟩
    · exact Or.inr ⟨t, e3.symm, by rw [← e2]⟩
  · rw [h4, h5]
  · rw [h6 k g1 g2]
    refine ⟨fun j hj => bump_ne hj, b3 _ _ ?_⟩
    have := pi1 (k - 1) (by omega)
    rw [show k - 1 + 1 = k by omega] at this
    exact this
  · rw [h7]
    exact ⟨fun j hj => bump_ne hj, b3 _ _ pi2⟩
theorem i32_s8 {x : Int32} (h : ¬ x < 8) : x - 8 < x := by
  obtain ⟨j, hj, rfl⟩ := nI_of (i32_8 h).2
  have h8 : ¬ j < 8 := fun z => h (nI_lt z (by decide))
  rw [show (8 : Int32) = nI 8 from rfl, nI_sub (by omega)]
  exact nI_lt (by omega) hj
theorem run_pre {v1 : Int32} (k : Nat) : v1 + 8 * nI (k + 1) - 8 = v1 + 8 * nI k := by
  rw [nI_succ, Int32.mul_add, Int32.mul_one, ← Int32.add_assoc, Int32.add_sub_cancel]
theorem TA.run {g b M : Nat} {LP : List Nat} {f : Nat → Nat → Int32} {wv : Nat → Option Nat} {n cn cnt : Nat} {ids : Nat → Int32} {v1 v2 : Int32} {part : Int64} {A : Nat → Nat → Int32} (hT : TA (fun k => f (adv wv k)) (f g) n cn cnt ids A) (hb : f b 0 = v2) (hlt : v2 < v1) (hM : M ≤ 8) (hn : n + M ≤ 512) (hfr : ∀ k, k < M → Fre ids cnt (v1 + 8 * nI k)) :
    ∀ (k : Nat) (z : CS) (last : Nat), k ≤ M → RnC g (LP, f, wv, n, cn, cnt, ids) v1 b M part k z last → TA (fun k => z.2.1 (adv z.2.2.1 k)) (z.2.1 g) (n + k) cn (cnt + k) z.2.2.2.2.2.2 (rA A n v1 v2 M part k) ∧ z.2.2.2.1 = n + k ∧ z.2.2.2.2.1 = cn ∧ z.2.2.2.2.2.1 = cnt + k ∧ (∀ j, k ≤ j → j < M → Fre z.2.2.2.2.2.2 z.2.2.2.2.2.1 (v1 + 8 * nI j)) ∧ z.2.1 last 0 = (if k = 0 then v2 else v1 + 8 * nI k - 8)
  | 0, z, last, _, hR => by
    obtain ⟨rfl, rfl⟩ := hR
    exact ⟨hT, rfl, rfl, rfl, fun j _ h => hfr j h, hb⟩
  | k + 1, z, last, hk, hR => by
    obtain ⟨z1, l1, T, h1, h2, h3, h4⟩ := hR
    obtain ⟨i1, i2, i3, i4, i5, i6⟩ := TA.run hT hb hlt hM hn hfr k z1 l1 (by omega) h1
    rw [i2, i3, i4] at h2
    rw [i2] at h3
    rw [i2, i3, i4] at h4
    rw [i4] at i5
    have hfk := i5 k (Nat.le_refl _) (by omega)
    have hl : z1.2.1 l1 0 < v1 + 8 * nI k := by
      rw [i6]
      by_cases c : k = 0
      · subst c
        rw [if_pos rfl, show (8 : Int32) * nI 0 = 0 by decide, Int32.add_zero]
        exact hlt
      · rw [if_neg c]
        exact i32_s8 hfk.1
    obtain ⟨w1, w2, w3, w4⟩ := i1.weave h2 h3 h4 (by omega) hfk hl
    obtain ⟨c1, _, c3⟩ := i1.CI.weave h2 (h3.mem h2) h4 hfk
    obtain ⟨q, _, e2, _, e4, _⟩ := h4.ids h2 (h3.mem h2)
    refine ⟨?_, w2, w3, w4, fun j g1 g2 => c3 _ (i5 j (by omega) g2) (run_ne (by omega) (by omega) (by omega)), ?_⟩
    · rw [byte_eq part (by omega) hM, i6] at w1
      exact w1
    · rw [if_neg (by omega), run_pre, ← e2]
      exact e4
theorem up_row {f : Nat → Nat → Int32} {a : Nat} {h : Nat → Int32} (hh : ∀ j, j < 3 → h j = f a j) (b j : Nat) (hj : j < 3) : va_up f a h b j = f b j := by
  by_cases c : b = a
  · rw [c, va_up_self]; exact hh j hj
  · rw [va_up_ne _ _ c]
theorem TA.chg {g t q2 : Nat} {f : Nat → Nat → Int32} {wv : Nat → Option Nat} {n cn cnt : Nat} {ids : Nat → Int32} {v1 v2 v3 v4 : Int32} {A : Nat → Nat → Int32} {h : Nat → Int32} (hT : TA (fun k => f (adv wv k)) (f g) n cn cnt ids A) (hf : Fre ids cnt v1) (hF : Fnb ids cnt v1 q2) (ht : t < n) (et : f (adv wv t) 0 = v2) (hh : ∀ j, j < 3 → h j = f (adv wv t) j)
    (hr : RowT (dA A cn v1 v2 v3 v4) n (cn + 1) h) : TA (fun k => va_up f (adv wv t) h (adv wv k)) (va_up f (adv wv t) h g) n (cn + 1) (cnt + 1) (nte ids cnt q2 v1) (dA A cn v1 v2 v3 v4) := by
  have hI := hT.CI
  have hne : ∀ k, k < n → ¬ k = t → adv wv k ≠ adv wv t := fun k hk c e => c (hI.2.2.2.2.1 k t hk ht (by rw [e]))
  have hg : g ≠ adv wv t := fun e => by
    have := (i32_8 (hI.2.2.2.1 t ht)).1
    rw [← e] at this
    exact this hI.2.2.1
  rw [va_up_ne _ _ hg]
  exact TA.done hT hf hF ht et (fun k j hj => up_row hh _ j hj) (fun k hk c => by rw [va_up_ne _ _ (hne k hk c)]) (by rw [va_up_self]; exact hr)
theorem TA.setC {g t q2 : Nat} {f : Nat → Nat → Int32} {wv : Nat → Option Nat} {n cn cnt : Nat} {ids : Nat → Int32} {v1 v2 v3 v4 : Int32} {A : Nat → Nat → Int32} (hT : TA (fun k => f (adv wv k)) (f g) n cn cnt ids A) (hf : Fre ids cnt v1) (hF : Fnb ids cnt v1 q2) (hlt : v2 < v1) (h3 : ¬ v3 < 0) (ht : t < n) (et : f (adv wv t) 0 = v2) :
    TA (fun k => va_up f (adv wv t) (ofr (va_up (f (adv wv t)) 4 (f (adv wv t) 4 + 1)) v1 v3 v4) (adv wv k)) (va_up f (adv wv t) (ofr (va_up (f (adv wv t)) 4 (f (adv wv t) 4 + 1)) v1 v3 v4) g) n (cn + 1) (cnt + 1) (nte ids cnt q2 v1) (dA A cn v1 v2 v3 v4) :=
  hT.chg hf hF ht et (fun j hj => by rw [ofr_lo (by omega), va_up_ne _ _ (by omega)]) ((hT.2.2.2.2.2.1 t ht).set et hlt h3 rfl)
theorem TA.remC {g t q2 : Nat} {f : Nat → Nat → Int32} {wv : Nat → Option Nat} {n cn cnt : Nat} {ids : Nat → Int32} {v1 v2 v4 : Int32} {A : Nat → Nat → Int32} (hT : TA (fun k => f (adv wv k)) (f g) n cn cnt ids A) (hf : Fre ids cnt v1) (hF : Fnb ids cnt v1 q2) (ht : t < n) (et : f (adv wv t) 0 = v2) :
    TA (fun k => va_up f (adv wv t) (va_up (f (adv wv t)) 5 (f (adv wv t) 5 + 1)) (adv wv k)) (va_up f (adv wv t) (va_up (f (adv wv t)) 5 (f (adv wv t) 5 + 1)) g) n (cn + 1) (cnt + 1) (nte ids cnt q2 v1) (dA A cn v1 v2 (-1) v4) :=
  hT.chg hf hF ht et (fun j hj => by rw [va_up_ne _ _ (by omega)]) ((hT.2.2.2.2.2.1 t ht).rem et rfl)
theorem kind_iff (v : Int32) : (¬ v < 0 ∧ ¬ 7 ≤ v) ↔ (¬ v < 0 ∧ ¬ 6 < v) := by
  have e7 : (7 : Int32).toInt = 7 := by decide
  have e6 : (6 : Int32).toInt = 6 := by decide
  refine and_congr Iff.rfl (not_congr ?_)
  rw [Int32.lt_iff_toInt_lt, Int32.le_iff_toInt_le, e7, e6]
  omega
