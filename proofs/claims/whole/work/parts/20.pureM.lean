/-! pure words of the reference -/
def PL (L : Nat → Int32) (n : Nat) (v r z : Int32) : Prop := (∃ k, k < n ∧ L k = v ∧ (∀ j, k < j → j < n → ¬ L j = v) ∧ r = nI k) ∨ ((∀ k, k < n → ¬ L k = v) ∧ r = z)
theorem PL_0 {L : Nat → Int32} {v z : Int32} : PL L 0 v z z := Or.inr ⟨fun _ h => absurd h (Nat.not_lt_zero _), rfl⟩
theorem PL_s {L : Nat → Int32} {k : Nat} {v z : Int32} (h : L k = v) : PL L (k + 1) v (nI k) z := Or.inl ⟨k, Nat.lt_succ_self k, h, fun j h1 h2 => absurd h1 (by omega), rfl⟩
theorem PL_n {L : Nat → Int32} {k : Nat} {v r z : Int32} (h : ¬ L k = v) (hp : PL L k v r z) : PL L (k + 1) v r z := by
  rcases hp with ⟨j, h1, h2, h3, h4⟩ | ⟨h1, h2⟩
  · exact Or.inl ⟨j, by omega, h2, fun i h5 h6 => if e : i = k then by rw [e]; exact h else h3 i h5 (by omega), h4⟩
  · exact Or.inr ⟨lt_s h1 h, h2⟩
def NewM (A : Nat → Nat → Int32) (n k : Nat) (v : Int32) : Prop := ¬ v < 8 ∧ ¬ 800007 < v ∧ (∀ j, j < n → ¬ A 0 j = v) ∧ ∀ j, j < k → ¬ A 4 j = v
def remB (A : Nat → Nat → Int32) (v : Int32) : Nat → Bool
  | 0 => false
  | k + 1 => remB A v k || (decide (A 5 k = v) && decide (A 6 k < 0))
theorem remB_y {A : Nat → Nat → Int32} {v : Int32} {k : Nat} (h : remB A v k = true) : remB A v (k + 1) = true := by simp [remB, h]
theorem remB_s {A : Nat → Nat → Int32} {v : Int32} {k : Nat} (h1 : A 5 k = v) (h2 : A 6 k < 0) : remB A v (k + 1) = true := by simp [remB, h1, h2]
theorem remB_n {A : Nat → Nat → Int32} {v : Int32} {k : Nat} (h : remB A v k = false) (h1 : ¬ (A 5 k = v ∧ A 6 k < 0)) : remB A v (k + 1) = false := by
  rw [remB, h, Bool.false_or, Bool.and_eq_false_imp]
  intro h2
  exact decide_eq_false (fun h3 => h1 ⟨of_decide_eq_true h2, h3⟩)
theorem remB_iff {A : Nat → Nat → Int32} {v : Int32} : ∀ {k : Nat}, remB A v k = true ↔ ∃ j, j < k ∧ A 5 j = v ∧ A 6 j < 0
  | 0 => by simp [remB]
  | k + 1 => by
    rw [remB, Bool.or_eq_true, Bool.and_eq_true, decide_eq_true_eq, decide_eq_true_eq, remB_iff]
    constructor
    · rintro (⟨j, h1, h2⟩ | h)
      · exact ⟨j, by omega, h2⟩
      · exact ⟨k, by omega, h⟩
    · rintro ⟨j, h1, h2⟩
      rcases Nat.lt_or_eq_of_le (Nat.lt_succ_iff.mp h1) with q | q
      · exact Or.inl ⟨j, q, h2⟩
      · subst q; exact Or.inr h2
def SetM (A : Nat → Nat → Int32) (v : Int32) (k : Nat) : Prop := A 5 k = v ∧ ¬ A 6 k < 0
def StM (A : Nat → Nat → Int32) (d : Nat) (v r : Int32) : Prop := (∃ k, k < d ∧ SetM A v k ∧ (∀ j, j < d → SetM A v j → ¬ A 4 k < A 4 j) ∧ r = nI k) ∨ ((∀ k, k < d → ¬ SetM A v k) ∧ r = -1)
theorem StM_n {A : Nat → Nat → Int32} {k : Nat} {v r : Int32} (h : ¬ SetM A v k) (hp : StM A k v r) : StM A (k + 1) v r := by
  rcases hp with ⟨j, h1, h2, h3, h4⟩ | ⟨h1, h2⟩
  · exact Or.inl ⟨j, by omega, h2, lt_s h3 (fun z => absurd z h), h4⟩
  · exact Or.inr ⟨lt_s h1 h, h2⟩
theorem StM_f {A : Nat → Nat → Int32} {k : Nat} {v : Int32} (h : SetM A v k) (hp : ∀ j, j < k → ¬ SetM A v j) : StM A (k + 1) v (nI k) :=
  Or.inl ⟨k, Nat.lt_succ_self k, h, lt_s (fun j hj z => absurd z (hp j hj)) (fun _ z => i32_irr z rfl), rfl⟩
theorem StM_g {A : Nat → Nat → Int32} {k j : Nat} {v : Int32} (h : SetM A v k) (hm : ∀ i, i < k → SetM A v i → ¬ A 4 j < A 4 i) (hg : A 4 j < A 4 k) : StM A (k + 1) v (nI k) :=
  Or.inl ⟨k, Nat.lt_succ_self k, h, lt_s (fun i hi z z2 => hm i hi z (i32_trans hg z2)) (fun _ z => i32_irr z rfl), rfl⟩
theorem StM_l {A : Nat → Nat → Int32} {k j : Nat} {v : Int32} (hj : j < k) (hs : SetM A v j) (hm : ∀ i, i < k → SetM A v i → ¬ A 4 j < A 4 i) (hg : ¬ A 4 j < A 4 k) : StM A (k + 1) v (nI j) :=
  Or.inl ⟨j, by omega, hs, lt_s hm (fun _ => hg), rfl⟩
/-- what stands: of the SETs the greatest, else the INSERT -/
def OfM (A : Nat → Nat → Int32) (n d : Nat) (v : Int32) (a b : Nat) (r : Int32) : Prop := (∃ k, k < d ∧ SetM A v k ∧ (∀ j, j < d → SetM A v j → ¬ A 4 k < A 4 j) ∧ r = A b k) ∨ ((∀ k, k < d → ¬ SetM A v k) ∧ ∃ k, k < n ∧ A 0 k = v ∧ r = A a k)
def cntB (p : Nat → Bool) : Nat → Nat
  | 0 => 0
  | k + 1 => cntB p k + (if p k = true then 1 else 0)
theorem cntB_le (p : Nat → Bool) : ∀ k, cntB p k ≤ k
  | 0 => Nat.le_refl 0
  | k + 1 => by
    have := cntB_le p k
    rw [cntB]
    split <;> omega
theorem cntB_s {p : Nat → Bool} {k q : Nat} (hq : q = cntB p k) (h : p k = true) : q + 1 = cntB p (k + 1) := by rw [cntB, if_pos h, hq]
theorem cntB_n {p : Nat → Bool} {k q : Nat} (hq : q = cntB p k) (h : p k = false) : q = cntB p (k + 1) := by rw [cntB, h, hq]; simp
def mxf (g : Nat → Int32) (z : Int32) : Nat → Int32
  | 0 => z
  | k + 1 => if mxf g z k < g k then g k else mxf g z k
theorem mxf_s {g : Nat → Int32} {z q : Int32} {k : Nat} (hq : q = mxf g z k) (h : q < g k) : g k = mxf g z (k + 1) := by rw [mxf, ← hq, if_pos h]
theorem mxf_n {g : Nat → Int32} {z q : Int32} {k : Nat} (hq : q = mxf g z k) (h : ¬ q < g k) : q = mxf g z (k + 1) := by rw [mxf, ← hq, if_neg h]
/-- the way back to the beginning, counted -/
def Dep (A : Nat → Nat → Int32) (n : Nat) (dep : Int32 → Nat) : Prop := dep 0 = 0 ∧ (∀ k, k < n → ¬ A 0 k = 0 ∧ dep (A 0 k) = dep (A 1 k) + 1 ∧ (A 1 k = 0 ∨ ∃ j, j < n ∧ A 0 j = A 1 k)) ∧ ∀ v, dep v ≤ 512
