/-! the class's own invariant -/
theorem upd_self {f : Nat → Int32} {k : Nat} {v : Int32} : upd f k v k = v := by simp [upd]
theorem upd_ne {f : Nat → Int32} {k j : Nat} {v : Int32} (h : ¬ j = k) : upd f k v j = f j := by simp [upd, h]
theorem nte_lt {ids : Nat → Int32} {cnt q j : Nat} {v : Int32} (h : j < q) : nte ids cnt q v j = ids j := by
  unfold nte
  rw [upd_ne (by omega), va_cpy, if_neg (by omega)]
theorem nte_eq {ids : Nat → Int32} {cnt q : Nat} {v : Int32} : nte ids cnt q v q = v := upd_self
theorem nte_gt {ids : Nat → Int32} {cnt q j : Nat} {v : Int32} (h : q < j) (h2 : j ≤ cnt) : nte ids cnt q v j = ids (j - 1) := by
  unfold nte
  rw [upd_ne (by omega), va_cpy, if_pos (by omega), show q + (j - (q + 1)) = j - 1 by omega]
theorem nte_in {ids : Nat → Int32} {cnt q : Nat} {v e : Int32} (hq : q ≤ cnt) : (∃ j, j < cnt + 1 ∧ nte ids cnt q v j = e) ↔ (∃ j, j < cnt ∧ ids j = e) ∨ e = v := by
  constructor
  · rintro ⟨j, hj, he⟩
    rcases Nat.lt_trichotomy j q with h | h | h
    · rw [nte_lt h] at he; exact Or.inl ⟨j, by omega, he⟩
    · subst h; rw [nte_eq] at he; exact Or.inr he.symm
    · rw [nte_gt h (by omega)] at he; exact Or.inl ⟨j - 1, by omega, he⟩
  · rintro (⟨j, hj, he⟩ | he)
    · rcases Nat.lt_or_ge j q with h | h
      · exact ⟨j, by omega, by rw [nte_lt h]; exact he⟩
      · exact ⟨j + 1, by omega, by rw [nte_gt (by omega) (by omega)]; exact he⟩
    · exact ⟨q, by omega, by rw [nte_eq]; exact he.symm⟩
theorem nte_srt {ids : Nat → Int32} {cnt q : Nat} {v : Int32} (hs : Srt ids cnt) (hf : Fnb ids cnt v q) (hv : ¬ ∃ j, j < cnt ∧ ids j = v) : Srt (nte ids cnt q v) (cnt + 1) := by
  obtain ⟨h1, h2, h3⟩ := hf
  have h4 : ∀ j, q ≤ j → j < cnt → v < ids j := fun j g1 g2 => by
    have z1 := h3 j g1 g2
    exact i32_tri z1 (fun e => hv ⟨j, g2, e⟩)
  intro a b hab hb
  rcases Nat.lt_trichotomy a q with ha | ha | ha
  · rw [nte_lt ha]
    rcases Nat.lt_trichotomy b q with h | h | h
    · rw [nte_lt h]; exact hs a b hab (by omega)
    · subst h; rw [nte_eq]; exact h2 a ha
    · rw [nte_gt h (by omega)]
      rcases Nat.lt_or_ge a (b - 1) with g | g
      · exact hs a (b - 1) g (by omega)
      · omega
  · subst ha
    rw [nte_eq, nte_gt hab (by omega)]
    exact h4 (b - 1) (by omega) (by omega)
  · rw [nte_gt ha (by omega), nte_gt (by omega) (by omega)]
    exact hs (a - 1) (b - 1) (by omega) (by omega)
/-- the class's invariant: used ids sorted and counted, rows' ids apart and used -/
def CI (g : Nat) (f : Nat → Nat → Int32) (wv : Nat → Option Nat) (n cn cnt : Nat) (ids : Nat → Int32) : Prop :=
  Srt ids cnt ∧ cnt = n + cn ∧ f g 0 = 0 ∧ (∀ k, k < n → ¬ f (adv wv k) 0 < 8) ∧ (∀ j k, j < n → k < n → f (adv wv j) 0 = f (adv wv k) 0 → j = k) ∧ ∀ k, k < n → ∃ j, j < cnt ∧ ids j = f (adv wv k) 0
theorem i32_8 {v : Int32} (h : ¬ v < 8) : ¬ v = 0 ∧ ¬ v < 0 := by
  have e8 : (8 : Int32).toInt = 8 := by decide
  have e0 : (0 : Int32).toInt = 0 := by decide
  rw [Int32.lt_iff_toInt_lt, e8] at h
  refine ⟨fun e => ?_, fun e => ?_⟩
  · rw [e, e0] at h; omega
  · rw [Int32.lt_iff_toInt_lt, e0] at e; omega
/-- the rows behind a weaving -/
def bump (f : Nat → Nat → Int32) (b a : Nat) : Nat → Int32 := if a = b then va_up (f b) 3 (f b 3 + 1) else f a
theorem bump_ne {f : Nat → Nat → Int32} {b a j : Nat} (hj : ¬ j = 3) : bump f b a j = f a j := by
  unfold bump
  split
  · rename_i h; rw [va_up_ne _ _ hj, h]
  · rfl
theorem ofr_lo {fv : Nat → Int32} {a b c : Int32} {j : Nat} (hj : j < 6) : ofr fv a b c j = fv j := by
  unfold ofr
  split
  · rw [va_up_ne _ _ (by omega), va_up_ne _ _ (by omega), va_up_ne _ _ (by omega)]
  · rfl
theorem WVd.rows {g b T m : Nat} {LP : List Nat} {f : Nat → Nat → Int32} {wv : Nat → Option Nat} {n cn cnt : Nat} {ids : Nat → Int32} {v1 v3 v4 : Int32} {z : CS} (hF : CF g LP wv n cn cnt) (hb : b ∈ LP) (h : WVd LP f wv n cn cnt ids v1 b v3 v4 T m z) :
    ∃ q q2, Lie (fun k => f (adv wv k) 0) n T v1 q ∧ Fnb ids cnt v1 q2 ∧ (∀ k, k < q → z.2.1 (adv z.2.2.1 k) = bump f b (adv wv k)) ∧ adv z.2.2.1 q = m ∧ z.2.1 m = ofr (ini v1 (f b 0) (f b 2 + 1)) v1 v3 v4 ∧ (∀ k, q < k → k ≤ n → z.2.1 (adv z.2.2.1 k) = bump f b (adv wv (k - 1))) ∧ z.2.1 g = bump f b g ∧ z.2.2.2 = (n + 1, cn, cnt + 1, nte ids cnt q2 v1) := by
  obtain ⟨q, q2, wv', h1, h2, h3, h4, h5, h6, rfl⟩ := h
  have hbm : m ≠ b := fun e => h3 (e ▸ hb)
  have ha : ∀ a, a ∈ LP → (va_up (va_up f m (ofr (ini v1 (f b 0) (f b 2 + 1)) v1 v3 v4)) b (va_up (f b) 3 (f b 3 + 1))) a = bump f b a := fun a haL => by
    unfold bump
    split
    · rename_i e; rw [e, va_up_self]
    · rename_i e; rw [va_up_ne _ _ e, va_up_ne _ _ (show a ≠ m from fun e2 => h3 (by rw [← e2]; exact haL))]
  refine ⟨q, q2, h1, h2, fun k hk => ?_, ?_, ?_, fun k g1 g2 => ?_, ha g hF.1, rfl⟩
  · have e : adv wv' k = adv wv k := by unfold adv; rw [h4 k hk]
    dsimp only
    rw [e]
    exact ha _ (hF.ad (by have := h1.2.1; omega)).2
  · show adv wv' q = m
    unfold adv; rw [h5]; rfl
  · dsimp only
    rw [va_up_ne _ _ hbm, va_up_self]
  · have e : adv wv' k = adv wv (k - 1) := by unfold adv; rw [h6 k g1 g2]
    dsimp only
    rw [e]
    exact ha _ (hF.ad (by omega)).2
/-- the ids of the rows behind a weaving -/
theorem WVd.ids {g b T m : Nat} {LP : List Nat} {f : Nat → Nat → Int32} {wv : Nat → Option Nat} {n cn cnt : Nat} {ids : Nat → Int32} {v1 v3 v4 : Int32} {z : CS} (hF : CF g LP wv n cn cnt) (hb : b ∈ LP) (h : WVd LP f wv n cn cnt ids v1 b v3 v4 T m z) :
    ∃ q, Lie (fun k => f (adv wv k) 0) n T v1 q ∧ adv z.2.2.1 q = m ∧ (∀ k, k < q → z.2.1 (adv z.2.2.1 k) 0 = f (adv wv k) 0) ∧ z.2.1 (adv z.2.2.1 q) 0 = v1 ∧ (∀ k, q < k → k ≤ n → z.2.1 (adv z.2.2.1 k) 0 = f (adv wv (k - 1)) 0) ∧ z.2.1 g 0 = f g 0 := by
  obtain ⟨q, q2, h1, h2, h3, h4, h5, h6, h7, h8⟩ := h.rows hF hb
  refine ⟨q, h1, h4, fun k hk => ?_, ?_, fun k g1 g2 => ?_, ?_⟩
  · rw [h3 k hk, bump_ne (by decide)]
  · rw [h4, h5, ofr_lo (by decide)]; rfl
  · rw [h6 k g1 g2, bump_ne (by decide)]
  · rw [h7, bump_ne (by decide)]
theorem CI.weave {g b T m : Nat} {LP : List Nat} {f : Nat → Nat → Int32} {wv : Nat → Option Nat} {n cn cnt : Nat} {ids : Nat → Int32} {v1 v3 v4 : Int32} {z : CS} (hI : CI g f wv n cn cnt ids) (hF : CF g LP wv n cn cnt) (hb : b ∈ LP) (h : WVd LP f wv n cn cnt ids v1 b v3 v4 T m z) (hv : Fre ids cnt v1) :
    CI g z.2.1 z.2.2.1 z.2.2.2.1 z.2.2.2.2.1 z.2.2.2.2.2.1 z.2.2.2.2.2.2 ∧ (∃ T', Par z.2.1 (adv z.2.2.1) z.2.2.2.1 g m T') ∧ ∀ e, Fre ids cnt e → ¬ e = v1 → Fre z.2.2.2.2.2.2 z.2.2.2.2.2.1 e := by
  obtain ⟨q9, q2, hL, hFn, _, _, _, _, _, h8⟩ := h.rows hF hb
  obtain ⟨q, hL, h2, h3, h4, h5, h6⟩ := h.ids hF hb
  have hqn := hL.2.1
  rw [h8]
  dsimp only
  obtain ⟨i1, i2, i3, i4, i5, i6⟩ := hI
  have hnew : ∀ k, k < n → ¬ f (adv wv k) 0 = v1 := fun k hk e => by
    obtain ⟨j, g1, g2⟩ := i6 k hk
    exact hv.2.2 ⟨j, g1, by rw [g2, e]⟩
  have r8 : ∀ k, k < n + 1 → ¬ z.2.1 (adv z.2.2.1 k) 0 < 8 := fun k hk => by
    rcases Nat.lt_trichotomy k q with c | c | c
    · rw [h3 k c]; exact i4 k (by omega)
    · subst c; rw [h4]; exact hv.1
    · rw [h5 k c (by omega)]; exact i4 (k - 1) (by omega)
  have inj : ∀ j k, j < n + 1 → k < n + 1 → z.2.1 (adv z.2.2.1 j) 0 = z.2.1 (adv z.2.2.1 k) 0 → j = k := by
    intro j k hj hk e
    rcases Nat.lt_trichotomy j q with c | c | c <;> rcases Nat.lt_trichotomy k q with c2 | c2 | c2
    · rw [h3 j c, h3 k c2] at e; exact i5 j k (by omega) (by omega) e
    · subst c2; rw [h3 j c, h4] at e; exact absurd e (hnew j (by omega))
    · rw [h3 j c, h5 k c2 (by omega)] at e; have := i5 j (k - 1) (by omega) (by omega) e; omega
    · subst c; rw [h3 k c2, h4] at e; exact absurd e.symm (hnew k (by omega))
    · omega
    · subst c; rw [h5 k c2 (by omega), h4] at e; exact absurd e.symm (hnew (k - 1) (by omega))
    · rw [h5 j c (by omega), h3 k c2] at e; have := i5 (j - 1) k (by omega) (by omega) e; omega
    · subst c2; rw [h5 j c (by omega), h4] at e; exact absurd e (hnew (j - 1) (by omega))
    · rw [h5 j c (by omega), h5 k c2 (by omega)] at e; have := i5 (j - 1) (k - 1) (by omega) (by omega) e; omega
  refine ⟨⟨nte_srt i1 hFn hv.2.2, by omega, by rw [h6]; exact i3, r8, inj, fun k hk => ?_⟩, ⟨q + 1, Or.inr ⟨q, by omega, h2, rfl, ?_, fun k hk e => inj k q hk (by omega) e⟩⟩, fun e he hne => ⟨he.1, he.2.1, fun z9 => ?_⟩⟩
  · refine (nte_in hFn.1).mpr ?_
    rcases Nat.lt_trichotomy k q with c | c | c
    · rw [h3 k c]; exact Or.inl (i6 k (by omega))
    · subst c; rw [h4]; exact Or.inr rfl
    · rw [h5 k c (by omega)]; exact Or.inl (i6 (k - 1) (by omega))
  · exact (i32_8 (r8 q (by omega))).1
  · rcases (nte_in hFn.1).mp z9 with g1 | g1
    · exact he.2.2 g1
    · exact hne g1
theorem CI.par0 {g : Nat} {f : Nat → Nat → Int32} {wv : Nat → Option Nat} {n cn cnt : Nat} {ids : Nat → Int32} (hI : CI g f wv n cn cnt ids) : Par f (adv wv) n g g 0 := Or.inl ⟨rfl, hI.2.2.1, rfl⟩
theorem CI.par {g : Nat} {f : Nat → Nat → Int32} {wv : Nat → Option Nat} {n cn cnt : Nat} {ids : Nat → Int32} (hI : CI g f wv n cn cnt ids) {k : Nat} (hk : k < n) : Par f (adv wv) n g (adv wv k) (k + 1) := Or.inr ⟨k, hk, rfl, rfl, (i32_8 (hI.2.2.2.1 k hk)).1, fun j hj e => hI.2.2.2.2.1 j k hj hk e⟩
/-- the ids of a run -/
def byC (part : Int64) (M k : Nat) : Int32 := ((part.toUInt64 >>> ((8 * ((nI M - 1) - nI k)).toInt64.toUInt64 &&& Int64.toUInt64 63)).toInt64 &&& 255).toInt32
def RnC (g : Nat) (c : CS) (v1 : Int32) (b M : Nat) (part : Int64) : Nat → CS → Nat → Prop
  | 0, z, last => z = c ∧ last = b
  | k + 1, z, last => ∃ (z1 : CS) (l1 T : Nat), RnC g c v1 b M part k z1 l1 ∧ CF g z1.1 z1.2.2.1 z1.2.2.2.1 z1.2.2.2.2.1 z1.2.2.2.2.2.1 ∧ Par z1.2.1 (adv z1.2.2.1) z1.2.2.2.1 g l1 T ∧ WVd z1.1 z1.2.1 z1.2.2.1 z1.2.2.2.1 z1.2.2.2.2.1 z1.2.2.2.2.2.1 z1.2.2.2.2.2.2 (v1 + 8 * nI k) l1 2 (byC part M k) T last z
theorem run_ne {v1 : Int32} {j k : Nat} (hj : j < 8) (hk : k < 8) (h : ¬ j = k) : ¬ v1 + 8 * nI j = v1 + 8 * nI k := fun e => by
  have e8 : (8 : Int32) = nI 8 := by decide
  have h1 : 8 * nI j = 8 * nI k := by
    have := congrArg (fun z => z - v1) e
    simpa [Int32.add_comm v1, Int32.add_sub_cancel] using this
  have e2 : ∀ a : Nat, (8 : Int32) * nI a = nI (8 * a) := fun a => by rw [e8]; exact (Int32.ofNat_mul 8 a).symm
  rw [e2, e2, nI_eq (by omega) (by omega)] at h1
  omega
