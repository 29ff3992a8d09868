/-! counting -/
theorem cntB_congr {p p' : Nat → Bool} : ∀ {n : Nat}, (∀ k, k < n → p k = p' k) → cntB p n = cntB p' n
  | 0, _ => rfl
  | n + 1, h => by rw [cntB, cntB, cntB_congr (fun k hk => h k (by omega)), h n (by omega)]
theorem cntB_0 {p : Nat → Bool} {n : Nat} (h : ∀ k, k < n → p k = false) : cntB p n = 0 := by
  induction n with
  | zero => rfl
  | succ n ih => rw [cntB, ih (fun k hk => h k (by omega)), h n (by omega)]; rfl
theorem cntB_pos {p : Nat → Bool} {k : Nat} : ∀ {n : Nat}, k < n → p k = true → 0 < cntB p n
  | n + 1, hk, hp => by
    rw [cntB]
    rcases Nat.lt_or_eq_of_le (Nat.lt_succ_iff.mp hk) with q | q
    · have := cntB_pos q hp; omega
    · subst q; rw [if_pos hp]; omega
theorem cntB_ex {p : Nat → Bool} : ∀ {n : Nat}, 0 < cntB p n → ∃ k, k < n ∧ p k = true
  | n + 1, h => by
    rw [cntB] at h
    by_cases hp : p n = true
    · exact ⟨n, by omega, hp⟩
    · rw [if_neg hp] at h
      obtain ⟨k, h1, h2⟩ := cntB_ex h
      exact ⟨k, by omega, h2⟩
/-- one place taken out -/
def del {α : Type} (M : Nat → α) (j : Nat) : Nat → α := fun i => if i < j then M i else M (i + 1)
theorem cnt_del (p : Nat → Bool) (j : Nat) : ∀ {m : Nat}, j < m + 1 → cntB p (m + 1) = cntB (del p j) m + (if p j = true then 1 else 0)
  | 0, h => by
    obtain rfl : j = 0 := by omega
    rfl
  | m + 1, h => by
    by_cases hj : j = m + 1
    · subst hj
      rw [cntB]
      congr 1
      exact cntB_congr (fun k hk => by unfold del; rw [if_pos hk])
    · have ih := cnt_del p j (m := m) (by omega)
      rw [cntB, ih]
      conv => rhs; rw [cntB]
      rw [show del p j m = p (m + 1) by unfold del; rw [if_neg (by omega)]]
      omega
theorem cnt_le (p : Int32 → Bool) : ∀ (n : Nat) (L : Nat → Int32) (m : Nat) (M : Nat → Int32), (∀ a b, a < n → b < n → L a = L b → a = b) → (∀ k, k < n → ∃ j, j < m ∧ M j = L k) → cntB (fun k => p (L k)) n ≤ cntB (fun k => p (M k)) m
  | 0, _, _, _, _, _ => Nat.zero_le _
  | n + 1, L, m, M, hi, hx => by
    obtain ⟨j, hj, e⟩ := hx n (by omega)
    obtain ⟨m', rfl⟩ : ∃ m', m = m' + 1 := ⟨m - 1, by omega⟩
    have ih := cnt_le p n L m' (del M j) (fun a b ha hb => hi a b (by omega) (by omega)) (fun k hk => by
      obtain ⟨i, h1, h2⟩ := hx k (by omega)
      have hne : ¬ i = j := fun q => by
        subst q
        have := hi k n (by omega) (by omega) (by rw [← h2, e])
        omega
      rcases Nat.lt_or_ge i j with q | q
      · exact ⟨i, by omega, by unfold del; rw [if_pos q]; exact h2⟩
      · exact ⟨i - 1, by omega, by unfold del; rw [if_neg (by omega), show i - 1 + 1 = i by omega]; exact h2⟩)
    rw [cntB, cnt_del (fun k => p (M k)) j hj, e]
    have : cntB (del (fun k => p (M k)) j) m' = cntB (fun k => p (del M j k)) m' := cntB_congr (fun k _ => by unfold del; split <;> rfl)
    omega
theorem cnt_perm (p : Int32 → Bool) {n : Nat} {L M : Nat → Int32} (h1 : ∀ a b, a < n → b < n → L a = L b → a = b) (h2 : ∀ a b, a < n → b < n → M a = M b → a = b) (h3 : ∀ k, k < n → ∃ j, j < n ∧ M j = L k) (h4 : ∀ k, k < n → ∃ j, j < n ∧ L j = M k) : cntB (fun k => p (L k)) n = cntB (fun k => p (M k)) n :=
  Nat.le_antisymm (cnt_le p n L n M h1 h3) (cnt_le p n M n L h2 h4)
theorem vis_cnt (g : Nat → Int32) : ∀ n, vis g n = cntB (fun k => decide (g k = 0)) n
  | 0 => rfl
  | n + 1 => by rw [vis, cntB, vis_cnt g n]; simp
/-! the greatest -/
theorem mxf_ge (g : Nat → Int32) (z : Int32) : ∀ n, ¬ mxf g z n < z ∧ ∀ k, k < n → ¬ mxf g z n < g k
  | 0 => ⟨fun h => i32_irr h rfl, fun _ h => absurd h (Nat.not_lt_zero _)⟩
  | n + 1 => by
    obtain ⟨h1, h2⟩ := mxf_ge g z n
    rw [mxf]
    split
    · rename_i hc
      refine ⟨fun h => h1 (i32_trans hc h), fun k hk h => ?_⟩
      rcases Nat.lt_or_eq_of_le (Nat.lt_succ_iff.mp hk) with q | q
      · exact h2 k q (i32_trans hc h)
      · subst q; exact i32_irr h rfl
    · rename_i hc
      refine ⟨h1, fun k hk h => ?_⟩
      rcases Nat.lt_or_eq_of_le (Nat.lt_succ_iff.mp hk) with q | q
      · exact h2 k q h
      · subst q; exact hc h
theorem mxf_at (g : Nat → Int32) (z : Int32) : ∀ n, mxf g z n = z ∨ ∃ k, k < n ∧ mxf g z n = g k
  | 0 => Or.inl rfl
  | n + 1 => by
    rw [mxf]
    split
    · exact Or.inr ⟨n, by omega, rfl⟩
    · rcases mxf_at g z n with h | ⟨k, h1, h2⟩
      · exact Or.inl h
      · exact Or.inr ⟨k, by omega, h2⟩
theorem mxw_f (g : Nat → Int32) : ∀ n, mxw g n = mxf g 0 n
  | 0 => rfl
  | n + 1 => by rw [mxw, mxf, mxw_f g n]
theorem i32_eq {a b : Int32} (h1 : ¬ a < b) (h2 : ¬ b < a) : a = b := by
  rw [Int32.lt_iff_toInt_lt] at h1 h2
  exact Int32.toInt_inj.mp (by omega)
theorem mxf_le {g h : Nat → Int32} {z : Int32} {n m : Nat} (hx : ∀ k, k < n → ∃ j, j < m ∧ h j = g k) : ¬ mxf h z m < mxf g z n := fun q => by
  rcases mxf_at g z n with e | ⟨k, h1, e⟩
  · rw [e] at q; exact (mxf_ge h z m).1 q
  · obtain ⟨j, h2, h3⟩ := hx k h1
    rw [e, ← h3] at q
    exact (mxf_ge h z m).2 j h2 q
theorem mxf_perm {g h : Nat → Int32} {z : Int32} {n m : Nat} (h1 : ∀ k, k < n → ∃ j, j < m ∧ h j = g k) (h2 : ∀ k, k < m → ∃ j, j < n ∧ g j = h k) : mxf g z n = mxf h z m := i32_eq (mxf_le h2) (mxf_le h1)
/-! what stands -/
theorem OfM.det {A : Nat → Nat → Int32} {n d : Nat} {v : Int32} {a b : Nat} {r r' : Int32} (hi : ∀ j k, j < d → k < d → A 4 j = A 4 k → j = k) (h0 : ∀ j k, j < n → k < n → A 0 j = A 0 k → j = k) (h : OfM A n d v a b r) (h' : OfM A n d v a b r') : r = r' := by
  rcases h with ⟨k, h1, h2, h3, rfl⟩ | ⟨h1, k, h2, h3, rfl⟩ <;> rcases h' with ⟨k', g1, g2, g3, rfl⟩ | ⟨g1, k', g2, g3, rfl⟩
  · obtain rfl := hi k k' h1 g1 (i32_eq (h3 k' g1 g2) (g3 k h1 h2))
    rfl
  · exact absurd h2 (g1 k h1)
  · exact absurd g2 (h1 k' g1)
  · obtain rfl := h0 k k' h2 g2 (by rw [h3, g3])
    rfl
/-- arrays that agree below d where an operation was added -/
def Dn (A A' : Nat → Nat → Int32) (d : Nat) : Prop := (∀ j, j < 4 → A' j = A j) ∧ ∀ j, 4 ≤ j → j < 8 → ∀ k, k < d → A' j k = A j k
theorem Dn.set {A A' : Nat → Nat → Int32} {d : Nat} (h : Dn A A' d) (v : Int32) {k : Nat} (hk : k < d) : SetM A' v k ↔ SetM A v k := by
  unfold SetM
  rw [h.2 5 (by decide) (by decide) k hk, h.2 6 (by decide) (by decide) k hk]
theorem dA_dn {A : Nat → Nat → Int32} {d : Nat} {v1 v2 v3 v4 : Int32} : Dn A (dA A d v1 v2 v3 v4) d := by
  refine ⟨fun j hj => ?_, fun j h4 h8 k hk => ?_⟩
  · unfold dA
    rw [va_up_ne _ _ (by omega), va_up_ne _ _ (by omega), va_up_ne _ _ (by omega), va_up_ne _ _ (by omega)]
  · match j, h4, h8 with
    | 4, _, _ => exact upd_ne (by omega)
    | 5, _, _ => exact upd_ne (by omega)
    | 6, _, _ => exact upd_ne (by omega)
    | 7, _, _ => exact upd_ne (by omega)
theorem dA_d {A : Nat → Nat → Int32} {d : Nat} {v1 v2 v3 v4 : Int32} : dA A d v1 v2 v3 v4 4 d = v1 ∧ dA A d v1 v2 v3 v4 5 d = v2 ∧ dA A d v1 v2 v3 v4 6 d = v3 ∧ dA A d v1 v2 v3 v4 7 d = v4 := ⟨upd_self, upd_self, upd_self, upd_self⟩
/-- an operation that sets nothing of v's -/
theorem OfM.keep {A A' : Nat → Nat → Int32} {n d : Nat} {v : Int32} {a b : Nat} {r : Int32} (hD : Dn A A' d) (ha : a < 4) (hb : 4 ≤ b ∧ b < 8) (hn : ¬ SetM A' v d) (h : OfM A n d v a b r) : OfM A' n (d + 1) v a b r := by
  rcases h with ⟨k, h1, h2, h3, rfl⟩ | ⟨h1, k, h2, h3, rfl⟩
  · refine Or.inl ⟨k, by omega, (hD.set v h1).mpr h2, fun j hj hs => ?_, (hD.2 b hb.1 hb.2 k h1).symm⟩
    rcases Nat.lt_or_eq_of_le (Nat.lt_succ_iff.mp hj) with q | q
    · rw [hD.2 4 (by decide) (by decide) k h1, hD.2 4 (by decide) (by decide) j q]
      exact h3 j q ((hD.set v q).mp hs)
    · subst q; exact absurd hs hn
  · refine Or.inr ⟨fun j hj hs => ?_, k, h2, by rw [hD.1 0 (by decide)]; exact h3, by rw [hD.1 a ha]⟩
    rcases Nat.lt_or_eq_of_le (Nat.lt_succ_iff.mp hj) with q | q
    · exact h1 j q ((hD.set v q).mp hs)
    · subst q; exact hn hs
/-- a greater SET -/
theorem OfM.new {A A' : Nat → Nat → Int32} {n d : Nat} {v : Int32} {a b : Nat} {s6 : Int32} (hD : Dn A A' d) (hs : SetM A' v d) (h : OfM A n d v 0 4 s6) (hg : s6 < A' 4 d) : OfM A' n (d + 1) v a b (A' b d) := by
  refine Or.inl ⟨d, by omega, hs, fun j hj hsj => ?_, rfl⟩
  rcases Nat.lt_or_eq_of_le (Nat.lt_succ_iff.mp hj) with q | q
  · have z1 := (hD.set v q).mp hsj
    rw [hD.2 4 (by decide) (by decide) j q]
    rcases h with ⟨k, h1, h2, h3, rfl⟩ | ⟨h1, _⟩
    · exact fun z => h3 j q z1 (i32_trans hg z)
    · exact absurd z1 (h1 j q)
  · subst q; exact fun z => i32_irr z rfl
/-- a lesser SET -/
theorem OfM.old {A A' : Nat → Nat → Int32} {n d : Nat} {v : Int32} {a b : Nat} {r s6 : Int32} (hD : Dn A A' d) (ha : a < 4) (hb : 4 ≤ b ∧ b < 8) (h6 : OfM A n d v 0 4 s6) (hv : v < A' 4 d) (hg : ¬ s6 < A' 4 d) (h : OfM A n d v a b r) : OfM A' n (d + 1) v a b r := by
  rcases h6 with ⟨k6, g1, g2, g3, rfl⟩ | ⟨g1, k6, g2, g3, rfl⟩
  · rcases h with ⟨k, h1, h2, h3, rfl⟩ | ⟨h1, _⟩
    · refine Or.inl ⟨k, by omega, (hD.set v h1).mpr h2, fun j hj hs => ?_, (hD.2 b hb.1 hb.2 k h1).symm⟩
      rcases Nat.lt_or_eq_of_le (Nat.lt_succ_iff.mp hj) with q | q
      · rw [hD.2 4 (by decide) (by decide) k h1, hD.2 4 (by decide) (by decide) j q]
        exact h3 j q ((hD.set v q).mp hs)
      · subst q
        rw [hD.2 4 (by decide) (by decide) k h1]
        exact fun z => hg (by
          have e : A 4 k = A 4 k6 := i32_eq (h3 k6 g1 g2) (g3 k h1 h2)
          rw [← e]; exact z)
    · exact absurd g2 (h1 k6 g1)
  · exact absurd (by rw [g3]; exact hv) hg
