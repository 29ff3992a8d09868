/-! the weaving, as numbers alone -/
def parL (L : Nat → Int32) (pp : Nat → Nat) (m : Nat) : Int32 := match pp m with
  | 0 => 0
  | t + 1 => L t
/-- each hangs on the nearest before it that is less -/
def Tr (L : Nat → Int32) (pp : Nat → Nat) (n : Nat) : Prop := ∀ m, m < n → pp m ≤ m ∧ (∀ t, pp m ≤ t → t < m → L m < L t) ∧ ∀ t, pp m = t + 1 → L t < L m
def Wv (A : Nat → Nat → Int32) (n : Nat) (L : Nat → Int32) (pp : Nat → Nat) : Prop :=
  (∀ k, k < n → ∃ m, m < n ∧ L m = A 0 k ∧ parL L pp m = A 1 k) ∧ (∀ m, m < n → ∃ k, k < n ∧ A 0 k = L m ∧ A 1 k = parL L pp m) ∧ (∀ a b, a < n → b < n → L a = L b → a = b) ∧ (∀ a b, a < n → b < n → A 0 a = A 0 b → a = b) ∧ (∀ m, m < n → ¬ L m = 0) ∧ Tr L pp n
def Seg (T ids bh : Nat → Int32) (b : Int32) (s0 m k : Nat) : Prop :=
  (∀ i, s0 ≤ i → i + 1 < m → T i < T (i + 1)) ∧ (∀ i, s0 ≤ i → i < m → ∃ j, j < k ∧ bh j = b ∧ ids j = T i) ∧ ∀ j, j < k → bh j = b → ∃ i, s0 ≤ i ∧ i < m ∧ T i = ids j
def Inn (T T' : Nat → Int32) (i q : Nat) (v : Int32) : Prop := (∀ j, j < i → T' j = T j) ∧ (∀ j, i < j → j ≤ q → T' j = T (j - 1)) ∧ ∀ j, i ≤ j → j < q → v < T j
theorem Seg_0 {T ids bh : Nat → Int32} {b : Int32} {s0 : Nat} : Seg T ids bh b s0 s0 0 := ⟨fun i h1 h2 => absurd h2 (by omega), fun i h1 h2 => absurd h2 (by omega), fun j h => absurd h (Nat.not_lt_zero _)⟩
theorem Seg_n {T ids bh : Nat → Int32} {b : Int32} {s0 m k : Nat} (h : Seg T ids bh b s0 m k) (hk : ¬ bh k = b) : Seg T ids bh b s0 m (k + 1) := by
  refine ⟨h.1, fun i h1 h2 => ?_, fun j hj hb => ?_⟩
  · obtain ⟨j, h3, h4⟩ := h.2.1 i h1 h2
    exact ⟨j, by omega, h4⟩
  · rcases Nat.lt_or_eq_of_le (Nat.lt_succ_iff.mp hj) with z | z
    · exact h.2.2 j z hb
    · rw [z] at hb; exact absurd hb hk
theorem Inn_0 {T : Nat → Int32} {q : Nat} {v : Int32} : Inn T T q q v := ⟨fun _ _ => rfl, fun j h1 h2 => absurd h1 (by omega), fun j h1 h2 => absurd h2 (by omega)⟩
theorem Inn_s {T T' : Nat → Int32} {i q : Nat} {v : Int32} (h : Inn T T' i q v) (h0 : 0 < i) (hv : v < T' (i - 1)) (hq : i ≤ q) : Inn T (upd T' i (T' (i - 1))) (i - 1) q v := by
  obtain ⟨h1, h2, h3⟩ := h
  have e := h1 (i - 1) (by omega)
  refine ⟨fun j hj => ?_, fun j hj hq2 => ?_, fun j hj hq2 => ?_⟩
  · rw [pk_un (by omega)]; exact h1 j (by omega)
  · by_cases z : j = i
    · subst z; rw [pk_us, e]
    · rw [pk_un z]; exact h2 j (by omega) hq2
  · by_cases z : j = i - 1
    · subst z; rw [← e]; exact hv
    · exact h3 j (by omega) hq2
theorem Seg_s {T T' ids bh : Nat → Int32} {b : Int32} {s0 q k i : Nat} (h : Seg T ids bh b s0 q k) (hI : Inn T T' i q (ids k)) (hb : bh k = b) (hi : s0 ≤ i) (hq : i ≤ q) (hl : i = s0 ∨ ¬ ids k < T' (i - 1)) (hd : ∀ j, j < k → ¬ ids j = ids k) : Seg (upd T' i (ids k)) ids bh b s0 (q + 1) (k + 1) := by
  obtain ⟨g1, g2, g3⟩ := h
  obtain ⟨h1, h2, h3⟩ := hI
  have val : ∀ j, upd T' i (ids k) j = if j < i then T j else if j = i then ids k else upd T' i (ids k) j := by
    intro j
    by_cases z : j < i
    · rw [if_pos z, pk_un (by omega), h1 j z]
    · rw [if_neg z]
      by_cases z2 : j = i
      · rw [if_pos z2, z2, pk_us]
      · rw [if_neg z2]
  have vlo : ∀ j, j < i → upd T' i (ids k) j = T j := fun j z => by rw [val, if_pos z]
  have vat : upd T' i (ids k) i = ids k := pk_us
  have vhi : ∀ j, i < j → j ≤ q → upd T' i (ids k) j = T (j - 1) := fun j z z2 => by rw [pk_un (by omega), h2 j z z2]
  refine ⟨fun j hj hj2 => ?_, fun j hj hj2 => ?_, fun j hj hb2 => ?_⟩
  · by_cases z : j + 1 < i
    · rw [vlo j (by omega), vlo (j + 1) z]; exact g1 j hj (by omega)
    · by_cases z2 : j + 1 = i
      · rw [vlo j (by omega), z2, vat]
        rcases hl with z3 | z3
        · omega
        · rw [h1 (i - 1) (by omega), show i - 1 = j by omega] at z3
          obtain ⟨j3, h5, h6, h7⟩ := g2 j hj (by omega)
          exact i32_tri z3 (fun e => hd j3 h5 (by rw [h7, e]))
      · by_cases z3 : j = i
        · rw [z3, vat, vhi (i + 1) (by omega) (by omega)]; exact h3 i (by omega) (by omega)
        · rw [vhi j (by omega) (by omega), vhi (j + 1) (by omega) (by omega)]
          have := g1 (j - 1) (by omega) (by omega)
          rw [show j - 1 + 1 = j by omega] at this
          exact this
  · by_cases z : j < i
    · rw [vlo j z]
      obtain ⟨j3, h5, h6⟩ := g2 j hj (by omega)
      exact ⟨j3, by omega, h6⟩
    · by_cases z2 : j = i
      · exact ⟨k, by omega, hb, by rw [z2, vat]⟩
      · rw [vhi j (by omega) (by omega)]
        obtain ⟨j3, h5, h6⟩ := g2 (j - 1) (by omega) (by omega)
        exact ⟨j3, by omega, h6⟩
  · rcases Nat.lt_or_eq_of_le (Nat.lt_succ_iff.mp hj) with z | z
    · obtain ⟨i3, h5, h6, h7⟩ := g3 j z hb2
      by_cases z2 : i3 < i
      · exact ⟨i3, h5, by omega, by rw [vlo i3 z2, h7]⟩
      · exact ⟨i3 + 1, by omega, by omega, by rw [vhi (i3 + 1) (by omega) (by omega), show i3 + 1 - 1 = i3 by omega, h7]⟩
    · exact ⟨i, hi, by omega, by rw [vat, z]⟩
theorem cntB_lt {p : Nat → Bool} {k : Nat} : ∀ {n : Nat}, k < n → p k = true → cntB p k + 1 ≤ cntB p n
  | 0, h, _ => absurd h (Nat.not_lt_zero _)
  | n + 1, h, hp => by
    rw [cntB]
    rcases Nat.lt_or_eq_of_le (Nat.lt_succ_iff.mp h) with z | z
    · have := cntB_lt z hp; omega
    · subst z; rw [if_pos hp]; exact Nat.le_refl _
def ch (pp : Nat → Nat) (c : Nat) : Nat → Nat
  | 0 => 0
  | m + 1 => ch pp c m + (if pp m = c then 1 else 0)
theorem ch_lt {pp : Nat → Nat} {c m : Nat} : ∀ {m2 : Nat}, m < m2 → pp m = c → ch pp c m < ch pp c m2
  | 0, h, _ => absurd h (Nat.not_lt_zero _)
  | m2 + 1, h, hp => by
    rw [ch]
    rcases Nat.lt_or_eq_of_le (Nat.lt_succ_iff.mp h) with z | z
    · have := ch_lt z hp; omega
    · subst z; rw [if_pos hp]; omega
theorem ch_le {pp : Nat → Nat} {c m : Nat} : ∀ {m2 : Nat}, m ≤ m2 → ch pp c m ≤ ch pp c m2
  | 0, h => by rw [Nat.le_zero.mp h]; exact Nat.le_refl _
  | m2 + 1, h => by
    rcases Nat.lt_or_eq_of_le h with z | z
    · have := ch_le (pp := pp) (c := c) (Nat.lt_succ_iff.mp z)
      rw [ch]; omega
    · rw [z]; exact Nat.le_refl _
theorem ch_ex {pp : Nat → Nat} {c j : Nat} : ∀ {m : Nat}, j < ch pp c m → ∃ m', m' < m ∧ pp m' = c ∧ ch pp c m' = j
  | 0, h => absurd h (Nat.not_lt_zero _)
  | m + 1, h => by
    rw [ch] at h
    by_cases z : j < ch pp c m
    · obtain ⟨m', h1, h2⟩ := ch_ex z
      exact ⟨m', by omega, h2⟩
    · by_cases z2 : pp m = c
      · rw [if_pos z2] at h
        exact ⟨m, by omega, z2, by omega⟩
      · rw [if_neg z2] at h; omega
theorem ch_eq {pp : Nat → Nat} {c m : Nat} : ∀ {m2 : Nat}, m ≤ m2 → (∀ j, m ≤ j → j < m2 → ¬ pp j = c) → ch pp c m2 = ch pp c m
  | 0, h, _ => by rw [Nat.le_zero.mp h]
  | m2 + 1, h, hn => by
    rcases Nat.lt_or_eq_of_le h with z | z
    · rw [ch, if_neg (hn m2 (by omega) (by omega)), ch_eq (by omega) (fun j h1 h2 => hn j h1 (by omega))]; rfl
    · rw [z]
theorem asc {T : Nat → Int32} {z1 N : Nat} (hs : ∀ i, z1 ≤ i → i + 1 < z1 + N → T i < T (i + 1)) : ∀ (i j : Nat), z1 ≤ i → i < j → j < z1 + N → T i < T j := by
  intro i j h1 h2 h3
  induction j with
  | zero => omega
  | succ j ih =>
    rcases Nat.lt_or_eq_of_le (Nat.lt_succ_iff.mp h2) with z | z
    · exact i32_trans (ih z (by omega)) (hs j (by omega) h3)
    · subst z; exact hs i h1 h3
theorem asc_inj {T : Nat → Int32} {z1 N : Nat} (hs : ∀ i, z1 ≤ i → i + 1 < z1 + N → T i < T (i + 1)) {i j : Nat} (hi : z1 ≤ i) (hi2 : i < z1 + N) (hj : z1 ≤ j) (hj2 : j < z1 + N) (e : T i = T j) : i = j := by
  rcases Nat.lt_trichotomy i j with z | z | z
  · exact absurd e (i32_irr (asc hs i j hi z hj2))
  · exact z
  · exact absurd e.symm (i32_irr (asc hs j i hj z hi2))
/-- the children, sorted, lie in the order of their rows, the first one on top -/
theorem rank {T L : Nat → Int32} {pp : Nat → Nat} {c z1 N n : Nat} (hs : ∀ i, z1 ≤ i → i + 1 < z1 + N → T i < T (i + 1)) (h2 : ∀ i, z1 ≤ i → i < z1 + N → ∃ m, m < n ∧ pp m = c ∧ L m = T i) (h3 : ∀ m, m < n → pp m = c → ∃ i, z1 ≤ i ∧ i < z1 + N ∧ T i = L m)
    (inj : ∀ a b, a < n → b < n → L a = L b → a = b) (hD : ∀ m m2, m < m2 → m2 < n → pp m = c → pp m2 = c → L m2 < L m) : (∀ m, m < n → pp m = c → ch pp c m < N ∧ T (z1 + N - 1 - ch pp c m) = L m) ∧ ch pp c n = N := by
  have key : ∀ (b m : Nat), m < b → m < n → pp m = c → ch pp c m < N ∧ T (z1 + N - 1 - ch pp c m) = L m := by
    intro b
    induction b with
    | zero => intro m h; omega
    | succ b ih =>
      intro m hb hm hc
      obtain ⟨i, hi1, hi2, hi3⟩ := h3 m hm hc
      have ih' : ∀ m', m' < m → pp m' = c → ch pp c m' < N ∧ T (z1 + N - 1 - ch pp c m') = L m' := fun m' h1 h4 => ih m' (by omega) (by omega) h4
      rcases Nat.lt_trichotomy (z1 + N - 1 - i) (ch pp c m) with z | z | z
      · obtain ⟨m', g1, g2, g3⟩ := ch_ex z
        have g4 := (ih' m' g1 g2).2
        rw [g3, show z1 + N - 1 - (z1 + N - 1 - i) = i by omega, hi3] at g4
        have := inj m m' hm (by omega) g4
        omega
      · exact ⟨by omega, by rw [← z, show z1 + N - 1 - (z1 + N - 1 - i) = i by omega]; exact hi3⟩
      · have hlt := asc hs i (z1 + N - 1 - ch pp c m) hi1 (by omega) (by omega)
        obtain ⟨m2, g1, g2, g3⟩ := h2 (z1 + N - 1 - ch pp c m) (by omega) (by omega)
        rw [hi3, ← g3] at hlt
        have hm2 : m2 < m := by
          rcases Nat.lt_trichotomy m2 m with y | y | y
          · exact y
          · subst y; exact absurd rfl (i32_irr hlt)
          · exact absurd hlt (i32_asym (hD m m2 y g1 hc g2))
        obtain ⟨g4, g5⟩ := ih' m2 hm2 g2
        rw [g3] at g5
        have g6 := asc_inj hs (by omega) (by omega) (by omega) (by omega) g5
        have g7 := ch_lt hm2 g2
        omega
  have key' : ∀ m, m < n → pp m = c → ch pp c m < N ∧ T (z1 + N - 1 - ch pp c m) = L m := fun m h1 h4 => key (m + 1) m (by omega) h1 h4
  refine ⟨key', ?_⟩
  rcases Nat.lt_trichotomy (ch pp c n) N with z | z | z
  · obtain ⟨m2, g1, g2, g3⟩ := h2 (z1 + N - 1 - ch pp c n) (by omega) (by omega)
    obtain ⟨g4, g5⟩ := key' m2 g1 g2
    rw [g3] at g5
    have g6 := asc_inj hs (by omega) (by omega) (by omega) (by omega) g5
    have g7 := ch_lt g1 g2
    omega
  · exact z
  · obtain ⟨m', g1, g2, g3⟩ := ch_ex z
    have := (key' m' g1 g2).1
    omega
/-- how many lie open: from row t on, hanging on what was told -/
def cq (pp : Nat → Nat) (t : Nat) : Nat → Nat
  | 0 => 0
  | m + 1 => cq pp t m + (if t ≤ m ∧ pp m ≤ t then 1 else 0)
theorem cq_lo {pp : Nat → Nat} {t : Nat} : ∀ {m : Nat}, m ≤ t → cq pp t m = 0
  | 0, _ => rfl
  | m + 1, h => by rw [cq, cq_lo (by omega), if_neg (by omega)]
theorem cq_le {pp : Nat → Nat} {t m : Nat} : ∀ {m2 : Nat}, m ≤ m2 → cq pp t m ≤ cq pp t m2
  | 0, h => by rw [Nat.le_zero.mp h]; exact Nat.le_refl _
  | m2 + 1, h => by
    rcases Nat.lt_or_eq_of_le h with z | z
    · have := cq_le (pp := pp) (t := t) (Nat.lt_succ_iff.mp z)
      rw [cq]; omega
    · rw [z]; exact Nat.le_refl _
theorem cq_t {pp : Nat → Nat} {t : Nat} (h : pp t ≤ t) : cq pp t (t + 1) = 1 := by rw [cq, cq_lo (Nat.le_refl t), if_pos ⟨Nat.le_refl t, h⟩]
theorem cq_eq {pp : Nat → Nat} {t m : Nat} : ∀ {m2 : Nat}, m ≤ m2 → (∀ j, m ≤ j → j < m2 → ¬ pp j ≤ t) → cq pp t m2 = cq pp t m
  | 0, h, _ => by rw [Nat.le_zero.mp h]
  | m2 + 1, h, hn => by
    rcases Nat.lt_or_eq_of_le h with z | z
    · rw [cq, if_neg (fun y => hn m2 (by omega) (by omega) y.2), cq_eq (by omega) (fun j h1 h2 => hn j h1 (by omega))]; rfl
    · rw [z]
theorem cq_step {pp : Nat → Nat} {t n : Nat} (hp : ∀ m, m < n → pp m ≤ m) (ht : t < n) : ∀ {m : Nat}, t + 1 ≤ m → m ≤ n → cq pp (t + 1) m + 1 = cq pp t m + ch pp (t + 1) m
  | 0, h, _ => by omega
  | m + 1, h, hn => by
    rcases Nat.lt_or_eq_of_le h with z | z
    · have ih := cq_step (pp := pp) hp ht (m := m) (by omega) (by omega)
      rw [cq, cq, ch]
      by_cases z1 : pp m ≤ t
      · rw [if_pos ⟨by omega, by omega⟩, if_pos ⟨by omega, z1⟩, if_neg (by omega)]; omega
      · by_cases z2 : pp m = t + 1
        · rw [if_pos ⟨by omega, by omega⟩, if_neg (fun y => z1 y.2), if_pos z2]; omega
        · rw [if_neg (fun y => by omega), if_neg (fun y => z1 y.2), if_neg z2]; omega
    · have e : m = t := by omega
      subst e
      rw [cq_lo (Nat.le_refl _), cq_t (hp m ht)]
      have : ch pp (m + 1) (m + 1) = 0 := by
        have h0 := ch_eq (pp := pp) (c := m + 1) (m := 0) (m2 := m + 1) (Nat.zero_le _) (fun j _ h2 h3 => by have := hp j (by omega); omega)
        rw [h0]; rfl
      omega
theorem Tr.nest {L : Nat → Int32} {pp : Nat → Nat} {n : Nat} (h : Tr L pp n) {m1 m2 : Nat} (h1 : m1 < m2) (h2 : m2 < n) (h3 : pp m2 ≤ m1) : pp m2 ≤ pp m1 := by
  rcases Nat.lt_or_ge (pp m1) (pp m2) with z | z
  · obtain ⟨s, hs⟩ : ∃ s, pp m2 = s + 1 := ⟨pp m2 - 1, by omega⟩
    have a1 := (h m1 (by omega)).2.1 s (by omega) (by omega)
    have a2 := (h m2 h2).2.1 m1 h3 h1
    have a3 := (h m2 h2).2.2 s hs
    exact absurd (i32_trans a2 a1) (i32_asym a3)
  · exact z
def Stk (L : Nat → Int32) (pp : Nat → Nat) (n t z : Nat) (T : Nat → Int32) : Prop := z = cq pp t n ∧ ∀ m, t ≤ m → m < n → pp m ≤ t → T (z - 1 - cq pp t m) = L m
theorem Stk.top {L : Nat → Int32} {pp : Nat → Nat} {n t z : Nat} {T : Nat → Int32} (h : Stk L pp n t z T) (hT : Tr L pp n) (ht : t < n) : 0 < z ∧ T (z - 1) = L t := by
  have hp := (hT t ht).1
  have h1 := cq_le (pp := pp) (t := t) (show t + 1 ≤ n by omega)
  rw [cq_t hp] at h1
  have h2 := h.2 t (Nat.le_refl t) ht hp
  rw [cq_lo (Nat.le_refl t)] at h2
  exact ⟨by rw [h.1]; omega, h2⟩
theorem Stk.step {L : Nat → Int32} {pp : Nat → Nat} {n t z N : Nat} {T T' : Nat → Int32} (h : Stk L pp n t z T) (hT : Tr L pp n) (ht : t < n) (hk : ∀ i, i < z - 1 → T' i = T i)
    (hr : (∀ m, m < n → pp m = t + 1 → ch pp (t + 1) m < N ∧ T' (z - 1 + N - 1 - ch pp (t + 1) m) = L m) ∧ ch pp (t + 1) n = N) : Stk L pp n (t + 1) (z - 1 + N) T' := by
  have hp : ∀ m, m < n → pp m ≤ m := fun m hm => (hT m hm).1
  have hz := (h.top hT ht).1
  have hn := cq_step (pp := pp) hp ht (m := n) (by omega) (Nat.le_refl n)
  have hz' := h.1
  refine ⟨by have := hr.2; omega, fun m h1 h2 h3 => ?_⟩
  have hm := cq_step (pp := pp) hp ht (m := m) h1 (by omega)
  by_cases z1 : pp m ≤ t
  · have e : ch pp (t + 1) m = N := by
      rw [← hr.2]
      exact (ch_eq (by omega) (fun j g1 g2 g3 => by
        rcases Nat.lt_or_eq_of_le g1 with y | y
        · have := hT.nest y g2 (by omega); omega
        · subst y; omega)).symm
    have g := h.2 m (by omega) h2 z1
    have g1 := cq_le (pp := pp) (t := t) (show t + 1 ≤ m by omega)
    rw [cq_t (hp t ht)] at g1
    have g2 : cq pp t m < cq pp t n := by
      have := cq_le (pp := pp) (t := t) (show m + 1 ≤ n by omega)
      rw [cq, if_pos ⟨by omega, z1⟩] at this
      omega
    rw [show z - 1 + N - 1 - cq pp (t + 1) m = z - 1 - cq pp t m by omega, hk _ (by omega)]
    exact g
  · have z2 : pp m = t + 1 := by omega
    have e : cq pp t m = 1 := by
      rw [← cq_t (pp := pp) (hp t ht)]
      exact cq_eq h1 (fun j g1 g2 g3 => by have := hT.nest g2 h2 (by omega); omega)
    obtain ⟨g1, g2⟩ := hr.1 m h2 z2
    rw [show z - 1 + N - 1 - cq pp (t + 1) m = z - 1 + N - 1 - ch pp (t + 1) m by omega]
    exact g2
theorem Stk.first {L : Nat → Int32} {pp : Nat → Nat} {n N : Nat} {T' : Nat → Int32} (hT : Tr L pp n) (hr : (∀ m, m < n → pp m = 0 → ch pp 0 m < N ∧ T' (0 + N - 1 - ch pp 0 m) = L m) ∧ ch pp 0 n = N) : Stk L pp n 0 N T' := by
  have e : ∀ m, cq pp 0 m = ch pp 0 m := by
    intro m
    induction m with
    | zero => rfl
    | succ m ih =>
      rw [cq, ch, ih]
      by_cases z : pp m = 0
      · rw [if_pos z, if_pos ⟨Nat.zero_le _, by omega⟩]
      · rw [if_neg z, if_neg (fun y => z (by omega))]
  refine ⟨by rw [e]; exact hr.2.symm, fun m _ h2 h3 => ?_⟩
  have := (hr.1 m h2 (by omega)).2
  rw [e]
  rw [Nat.zero_add] at this
  exact this
/-- the sorted children of what is told, as the rows have them -/
theorem Wv.rk {A : Nat → Nat → Int32} {n : Nat} {L : Nat → Int32} {pp : Nat → Nat} (h : Wv A n L pp) {T : Nat → Int32} {b : Int32} {c z1 N : Nat} (hc : ∀ m, m < n → (parL L pp m = b ↔ pp m = c)) (hs : Seg T (A 0) (A 1) b z1 (z1 + N) n) :
    (∀ m, m < n → pp m = c → ch pp c m < N ∧ T (z1 + N - 1 - ch pp c m) = L m) ∧ ch pp c n = N := by
  obtain ⟨w1, w2, w3, w4, w5, w6⟩ := h
  obtain ⟨s1, s2, s3⟩ := hs
  refine rank s1 (fun i h1 h2 => ?_) (fun m h1 h2 => ?_) w3 (fun m m2 h1 h2 h3 h4 => ?_)
  · obtain ⟨j, g1, g2, g3⟩ := s2 i h1 h2
    obtain ⟨m, f1, f2, f3⟩ := w1 j g1
    exact ⟨m, f1, (hc m f1).mp (by rw [f3, g2]), by rw [f2, g3]⟩
  · obtain ⟨k, g1, g2, g3⟩ := w2 m h1
    obtain ⟨i, f1, f2, f3⟩ := s3 k g1 (by rw [g3]; exact (hc m h1).mpr h2)
    exact ⟨i, f1, f2, by rw [f3, g2]⟩
  · have hm := (w6 m (by omega)).1
    exact (w6 m2 h2).2.1 m (by omega) h1
theorem Wv.c0 {A : Nat → Nat → Int32} {n : Nat} {L : Nat → Int32} {pp : Nat → Nat} (h : Wv A n L pp) : ∀ m, m < n → (parL L pp m = 0 ↔ pp m = 0) := fun m hm => by
  unfold parL
  have hp := (h.2.2.2.2.2 m hm).1
  cases e : pp m with
  | zero => simp
  | succ t =>
    simp only [Nat.succ_ne_zero, iff_false, Nat.add_eq_zero_iff, Nat.one_ne_zero, and_false]
    exact h.2.2.2.2.1 t (by omega)
theorem Wv.ct {A : Nat → Nat → Int32} {n : Nat} {L : Nat → Int32} {pp : Nat → Nat} (h : Wv A n L pp) {t : Nat} (ht : t < n) : ∀ m, m < n → (parL L pp m = L t ↔ pp m = t + 1) := fun m hm => by
  unfold parL
  have hp := (h.2.2.2.2.2 m hm).1
  cases e : pp m with
  | zero => simp only [Nat.zero_ne_add_one, iff_false]; exact fun z => h.2.2.2.2.1 t ht z.symm
  | succ u =>
    simp only [Nat.add_right_cancel_iff]
    exact ⟨fun z => h.2.2.1 u t (by omega) ht z, fun z => by rw [z]⟩
