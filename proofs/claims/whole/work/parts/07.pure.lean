/-! pure words -/
/-- how many of the first k are 0 -/
def vis (g : Nat → Int32) : Nat → Nat
  | 0 => 0
  | k + 1 => vis g k + (if g k = 0 then 1 else 0)
theorem vis_le (g : Nat → Int32) : ∀ k, vis g k ≤ k
  | 0 => Nat.le_refl 0
  | k + 1 => by
    have := vis_le g k
    unfold vis
    split <;> omega
/-- sorted, each once -/
def Srt (ids : Nat → Int32) (cnt : Nat) : Prop := ∀ a b, a < b → b < cnt → ids a < ids b
/-- where id is, or would be -/
def Fnb (ids : Nat → Int32) (cnt : Nat) (v1 : Int32) (q : Nat) : Prop := q ≤ cnt ∧ (∀ j, j < q → ids j < v1) ∧ ∀ j, q ≤ j → j < cnt → ¬ ids j < v1
theorem i32_tri {a b : Int32} (h1 : ¬ a < b) (h2 : ¬ a = b) : b < a := by
  rw [Int32.lt_iff_toInt_lt] at h1 ⊢
  have h3 : a.toInt ≠ b.toInt := fun h => h2 (Int32.toInt_inj.mp h)
  omega
theorem i32_irr {a b : Int32} (h : a < b) : ¬ a = b := fun e => by
  rw [e, Int32.lt_iff_toInt_lt] at h
  omega
theorem i32_asym {a b : Int32} (h : a < b) : ¬ b < a := by
  rw [Int32.lt_iff_toInt_lt] at h ⊢
  omega
theorem i32_trans {a b c : Int32} (h : a < b) (h2 : b < c) : a < c := by
  rw [Int32.lt_iff_toInt_lt] at h h2 ⊢
  omega
theorem i32_nle {a b : Int32} : ¬ a ≤ b ↔ b < a := by
  rw [Int32.lt_iff_toInt_lt, Int32.le_iff_toInt_le]
  omega
theorem i32_nlt {a b : Int32} : ¬ a < b ↔ b ≤ a := by
  rw [Int32.lt_iff_toInt_lt, Int32.le_iff_toInt_le]
  omega
theorem Srt.le {ids : Nat → Int32} {cnt a b : Nat} (h : Srt ids cnt) (hab : a ≤ b) (hb : b < cnt) : ¬ ids b < ids a := by
  rcases Nat.lt_or_eq_of_le hab with q | q
  · exact i32_asym (h a b q hb)
  · subst q
    exact fun z => i32_irr z rfl
/-- the id is among the sorted ones just where it would be -/
theorem Fnb.has {ids : Nat → Int32} {cnt q : Nat} {v1 : Int32} (h : Fnb ids cnt v1 q) : (∃ j, j < cnt ∧ ids j = v1) → Srt ids cnt → q < cnt ∧ ids q = v1 := by
  intro ⟨j, hj, e⟩ hs
  obtain ⟨h1, h2, h3⟩ := h
  have hq : q ≤ j := by
    rcases Nat.lt_or_ge j q with z | z
    · exact absurd e (i32_irr (h2 j z))
    · exact z
  rcases Nat.lt_or_eq_of_le hq with z | z
  · have z1 := h3 q (Nat.le_refl q) (by omega)
    have z2 := hs q j z hj
    rw [e] at z2
    exact absurd z2 z1
  · subst z
    exact ⟨hj, e⟩
theorem half_lt {a b : Nat} (h : a < b) : a ≤ (a + b) / 2 ∧ (a + b) / 2 < b := by omega
theorem int_m1_ne (k : Nat) (h : k < 2 ^ 31) : ¬ nI k = -1 := fun e => by
  have h1 := nI_toInt h
  rw [e] at h1
  have h2 : (-1 : Int32).toInt = -1 := by decide
  rw [h2] at h1
  omega
theorem Srt.dn {ids : Nat → Int32} {cnt q : Nat} {v : Int32} (hs : Srt ids cnt) (hq : q < cnt) (h : ids q < v) : ∀ j, j < q + 1 → ids j < v := fun j hj => by
  rcases Nat.lt_or_eq_of_le (Nat.lt_succ_iff.mp hj) with z | z
  · exact i32_trans (hs j q z hq) h
  · rw [z]; exact h
theorem Srt.up {ids : Nat → Int32} {cnt q : Nat} {v : Int32} (hs : Srt ids cnt) (h : ¬ ids q < v) : ∀ j, q ≤ j → j < cnt → ¬ ids j < v := fun j hj hj2 z => by
  rcases Nat.lt_or_eq_of_le hj with y | y
  · exact h (i32_trans (hs q j y hj2) z)
  · rw [y] at h; exact h z
/-- the row of an element -/
def Row (L : Nat → Int32) (n : Nat) (e : Int32) (r : Int32) : Prop := (∃ k, k < n ∧ L k = e ∧ (∀ j, j < k → ¬ L j = e) ∧ r = nI k) ∨ ((∀ k, k < n → ¬ L k = e) ∧ r = -1)
