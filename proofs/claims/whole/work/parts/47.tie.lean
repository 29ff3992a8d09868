/-! the tie -/
def RowT (A : Nat → Nat → Int32) (n d : Nat) (r : Nat → Int32) : Prop :=
  r 3 = nI (cntB (fun k => decide (A 1 k = r 0)) n) ∧ r 4 = nI (cntB (fun k => decide (A 5 k = r 0) && !decide (A 6 k < 0)) d) ∧ r 5 = nI (cntB (fun k => decide (A 5 k = r 0) && decide (A 6 k < 0)) d) ∧ OfM A n d (r 0) 0 4 (r 6) ∧ OfM A n d (r 0) 2 6 (r 7) ∧ OfM A n d (r 0) 3 7 (r 8)
/-- E: the rows' fields; B: the beginning's -/
def TA (E : Nat → Nat → Int32) (B : Nat → Int32) (n d cnt : Nat) (ids : Nat → Int32) (A : Nat → Nat → Int32) : Prop :=
  Srt ids cnt ∧ cnt = n + d ∧ (∃ pp, Wv A n (fun k => E k 0) pp ∧ ∀ k, k < n → E k 1 = parL (fun k => E k 0) pp k) ∧ (∃ dep, Dep A n dep ∧ (∀ v, dep v ≤ n) ∧ ∀ k, k < n → E k 2 = nI (dep (E k 0))) ∧
  (B 0 = 0 ∧ B 1 = 0 ∧ B 2 = 0 ∧ B 3 = nI (cntB (fun k => decide (A 1 k = 0)) n)) ∧ (∀ k, k < n → RowT A n d (E k)) ∧
  (∀ v, (∃ j, j < cnt ∧ ids j = v) ↔ (∃ k, k < n ∧ A 0 k = v) ∨ ∃ k, k < d ∧ A 4 k = v) ∧ (∀ a b, a < d → b < d → A 4 a = A 4 b → a = b) ∧ (∀ k, k < d → ∃ j, j < n ∧ A 0 j = A 5 k) ∧ ∀ k, k < n → ¬ E k 0 < 8
theorem TA.nil {E : Nat → Nat → Int32} {B : Nat → Int32} {ids : Nat → Int32} {A : Nat → Nat → Int32} (h : B 0 = 0 ∧ B 1 = 0 ∧ B 2 = 0 ∧ B 3 = 0) : TA E B 0 0 0 ids A := by
  have nz : ∀ {k : Nat} {X : Prop}, k < 0 → X := fun h => absurd h (Nat.not_lt_zero _)
  exact ⟨fun a b _ h => nz h, rfl, ⟨fun _ => 0, ⟨fun k h => nz h, fun k h => nz h, fun a b h => nz h, fun a b h => nz h, fun k h => nz h, fun k h => nz h⟩, fun k h => nz h⟩, ⟨fun _ => 0, ⟨rfl, fun k h => nz h, fun _ => Nat.zero_le _⟩, fun _ => Nat.le_refl _, fun k h => nz h⟩, ⟨h.1, h.2.1, h.2.2.1, by rw [h.2.2.2]; rfl⟩, fun k h => nz h, fun v => ⟨fun ⟨j, h, _⟩ => nz h, fun h => h.elim (fun ⟨j, h, _⟩ => nz h) (fun ⟨j, h, _⟩ => nz h)⟩, fun a b h => nz h, fun k h => nz h, fun k h => nz h⟩
theorem TA.scr {E : Nat → Nat → Int32} {B : Nat → Int32} {n d cnt : Nat} {ids : Nat → Int32} {A A' : Nat → Nat → Int32} (hS : Scr A A') (h : TA E B n d cnt ids A) : TA E B n d cnt ids A' := by
  unfold TA RowT OfM SetM Wv Dep at h ⊢
  rw [hS 0 (by decide), hS 1 (by decide), hS 2 (by decide), hS 3 (by decide), hS 4 (by decide), hS 5 (by decide), hS 6 (by decide), hS 7 (by decide)]
  exact h
theorem TA.new {E : Nat → Nat → Int32} {B : Nat → Int32} {n d cnt : Nat} {ids : Nat → Int32} {A : Nat → Nat → Int32} (h : TA E B n d cnt ids A) (v : Int32) : Fre ids cnt v ↔ NewM A n d v := by
  obtain ⟨_, _, _, _, _, _, h7, _⟩ := h
  unfold Fre NewM
  rw [h7 v]
  constructor
  · exact fun ⟨a, b, c⟩ => ⟨a, b, fun j hj e => c (Or.inl ⟨j, hj, e⟩), fun j hj e => c (Or.inr ⟨j, hj, e⟩)⟩
  · exact fun ⟨a, b, c, c2⟩ => ⟨a, b, fun z => z.elim (fun ⟨j, hj, e⟩ => c j hj e) (fun ⟨j, hj, e⟩ => c2 j hj e)⟩
theorem TA.CI {g : Nat} {f : Nat → Nat → Int32} {wv : Nat → Option Nat} {n d cnt : Nat} {ids : Nat → Int32} {A : Nat → Nat → Int32} (h : TA (fun k => f (adv wv k)) (f g) n d cnt ids A) : CI g f wv n d cnt ids := by
  obtain ⟨h1, h2, ⟨pp, h3, _⟩, _, h5, _, h7, _, _, h10⟩ := h
  refine ⟨h1, h2, h5.1, h10, fun j k hj hk e => h3.2.2.1 j k hj hk e, fun k hk => ?_⟩
  obtain ⟨j, g1, g2, _⟩ := h3.2.1 k hk
  exact (h7 _).mpr (Or.inl ⟨j, g1, g2⟩)
theorem nI_z {a : Nat} (h : a < 2 ^ 31) : nI a = 0 ↔ a = 0 := by
  constructor
  · intro e
    exact Nat.eq_zero_of_not_pos (fun z => nI_ne0 z h e)
  · intro e; rw [e]; rfl
theorem TA.ex {E : Nat → Nat → Int32} {B : Nat → Int32} {n d cnt : Nat} {ids : Nat → Int32} {A : Nat → Nat → Int32} (h : TA E B n d cnt ids A) (v : Int32) : (∃ k, k < n ∧ E k 0 = v) ↔ ∃ k, k < n ∧ A 0 k = v := by
  obtain ⟨_, _, ⟨pp, h3, _⟩, _⟩ := h
  constructor
  · rintro ⟨k, hk, e⟩
    obtain ⟨j, g1, g2, _⟩ := h3.2.1 k hk
    exact ⟨j, g1, by rw [g2]; exact e⟩
  · rintro ⟨k, hk, e⟩
    obtain ⟨j, g1, g2, _⟩ := h3.1 k hk
    exact ⟨j, g1, by rw [show E j 0 = A 0 k from g2]; exact e⟩
/-! a new element -/
theorem kA_up {A : Nat → Nat → Int32} {n : Nat} {v1 v2 v3 v4 : Int32} : kA A n v1 v2 v3 v4 0 = upd (A 0) n v1 ∧ kA A n v1 v2 v3 v4 1 = upd (A 1) n v2 ∧ kA A n v1 v2 v3 v4 2 = upd (A 2) n v3 ∧ kA A n v1 v2 v3 v4 3 = upd (A 3) n v4 ∧ kA A n v1 v2 v3 v4 4 = A 4 ∧ kA A n v1 v2 v3 v4 5 = A 5 ∧ kA A n v1 v2 v3 v4 6 = A 6 ∧ kA A n v1 v2 v3 v4 7 = A 7 := ⟨rfl, rfl, rfl, rfl, rfl, rfl, rfl, rfl⟩
def ppI (pp : Nat → Nat) (q T : Nat) : Nat → Nat := fun k => if k < q then pp k else if k = q then T else if pp (k - 1) ≤ q then pp (k - 1) else pp (k - 1) + 1
theorem wv_ins {A : Nat → Nat → Int32} {n : Nat} {L L' : Nat → Int32} {pp : Nat → Nat} {q T : Nat} {v1 v2 v3 v4 : Int32} (hW : Wv A n L pp) (hL : Lie L n T v1 q) (hT : (T = 0 ∧ v2 = 0) ∨ ∃ t, t < n ∧ T = t + 1 ∧ L t = v2) (hlt : v2 < v1) (h0 : ¬ v1 = 0) (hv : ∀ k, k < n → ¬ A 0 k = v1)
    (e1 : ∀ k, k < q → L' k = L k) (e2 : L' q = v1) (e3 : ∀ k, q < k → k ≤ n → L' k = L (k - 1)) :
    Wv (kA A n v1 v2 v3 v4) (n + 1) L' (ppI pp q T) ∧ (∀ k, k < q → parL L' (ppI pp q T) k = parL L pp k) ∧ parL L' (ppI pp q T) q = v2 ∧ ∀ k, q < k → k ≤ n → parL L' (ppI pp q T) k = parL L pp (k - 1) := by
  obtain ⟨w1, w2, w3, w4, w5, w6⟩ := hW
  obtain ⟨l1, l2, l3, l4⟩ := hL
  have hvL : ∀ k, k < n → ¬ L k = v1 := fun k hk e => by
    obtain ⟨j, g1, g2, _⟩ := w2 k hk
    exact hv j g1 (by rw [g2, e])
  have p1 : ∀ k, k < q → parL L' (ppI pp q T) k = parL L pp k := fun k hk => by
    have hp := (w6 k (by omega)).1
    unfold parL ppI
    rw [if_pos hk]
    split
    · rfl
    · rename_i t ht; exact e1 t (by omega)
  have p2 : parL L' (ppI pp q T) q = v2 := by
    unfold parL ppI
    rw [if_neg (by omega), if_pos rfl]
    rcases hT with ⟨rfl, rfl⟩ | ⟨t, h1, rfl, h2⟩
    · rfl
    · show L' t = v2
      rw [e1 t (by omega)]; exact h2
  have p3 : ∀ k, q < k → k ≤ n → parL L' (ppI pp q T) k = parL L pp (k - 1) := fun k h1 h2 => by
    have hp := (w6 (k - 1) (by omega)).1
    unfold parL ppI
    rw [if_neg (by omega), if_neg (by omega)]
    by_cases hc : pp (k - 1) ≤ q
    · rw [if_pos hc]
      split
      · rfl
      · rename_i t ht; exact e1 t (by omega)
    · rw [if_neg hc]
      show L' (pp (k - 1)) = _
      rw [e3 _ (by omega) (by omega)]
      split
      · omega
      · rename_i t ht; rw [ht]; rfl
  have hq : ∀ m', q ≤ m' → m' < n → pp m' ≤ q → L m' < v1 := fun m' g1 g2 g3 => by
    have z1 : q < n := by omega
    have z2 : L q < v1 := i32_tri (l4 z1) (fun e => hvL q z1 e.symm)
    rcases Nat.lt_or_eq_of_le g1 with z | z
    · exact i32_trans ((w6 m' g2).2.1 q g3 z) z2
    · rw [← z]; exact z2
  have tr : Tr L' (ppI pp q T) (n + 1) := by
    intro m hm
    rcases Nat.lt_trichotomy m q with c | c | c
    · have hp := w6 m (by omega)
      have ep : ppI pp q T m = pp m := by unfold ppI; rw [if_pos c]
      rw [ep, e1 m c]
      exact ⟨hp.1, fun t g1 g2 => by rw [e1 t (by omega)]; exact hp.2.1 t g1 g2, fun t g1 => by have := hp.1; rw [e1 t (by omega)]; exact hp.2.2 t g1⟩
    · subst c
      have ep : ppI pp m T m = T := by unfold ppI; rw [if_neg (by omega), if_pos rfl]
      rw [ep, e2]
      refine ⟨l1, fun t g1 g2 => by rw [e1 t g2]; exact l3 t g1 g2, fun t g1 => ?_⟩
      rw [e1 t (by omega)]
      rcases hT with ⟨g2, _⟩ | ⟨t', g2, g3, g4⟩
      · omega
      · obtain rfl : t = t' := by omega
        rw [g4]; exact hlt
    · have hp := w6 (m - 1) (by omega)
      rw [e3 m c (by omega)]
      by_cases hc : pp (m - 1) ≤ q
      · have ep : ppI pp q T m = pp (m - 1) := by unfold ppI; rw [if_neg (by omega), if_neg (by omega), if_pos hc]
        rw [ep]
        refine ⟨by omega, fun t g1 g2 => ?_, fun t g1 => ?_⟩
        · rcases Nat.lt_trichotomy t q with z | z | z
          · rw [e1 t z]; exact hp.2.1 t g1 (by omega)
          · subst z; rw [e2]; exact hq (m - 1) (by omega) (by omega) hc
          · rw [e3 t z (by omega)]; exact hp.2.1 (t - 1) (by omega) (by omega)
        · rw [e1 t (by omega)]; exact hp.2.2 t g1
      · have ep : ppI pp q T m = pp (m - 1) + 1 := by unfold ppI; rw [if_neg (by omega), if_neg (by omega), if_neg hc]
        rw [ep]
        have hp1 := hp.1
        refine ⟨by omega, fun t g1 g2 => ?_, fun t g1 => ?_⟩
        · rw [e3 t (by omega) (by omega)]; exact hp.2.1 (t - 1) (by omega) (by omega)
        · rw [e3 t (by omega) (by omega)]; exact hp.2.2 (t - 1) (by omega)
  refine ⟨⟨fun k hk => ?_, fun m hm => ?_, fun a b ha hb e => ?_, fun a b ha hb e => ?_, fun m hm => ?_, tr⟩, p1, p2, p3⟩
  · rw [kA_up.1, kA_up.2.1]
    by_cases hkn : k = n
    · subst hkn
      exact ⟨q, by omega, by rw [upd_self]; exact e2, by rw [upd_self]; exact p2⟩
    · rw [upd_ne hkn, upd_ne hkn]
      obtain ⟨m, g1, g2, g3⟩ := w1 k (by omega)
      rcases Nat.lt_or_ge m q with c | c
      · exact ⟨m, by omega, by rw [e1 m c]; exact g2, by rw [p1 m c]; exact g3⟩
      · exact ⟨m + 1, by omega, by rw [e3 (m + 1) (by omega) (by omega)]; exact g2, by rw [p3 (m + 1) (by omega) (by omega)]; exact g3⟩
  · rw [kA_up.1, kA_up.2.1]
    rcases Nat.lt_trichotomy m q with c | c | c
    · obtain ⟨k, g1, g2, g3⟩ := w2 m (by omega)
      exact ⟨k, by omega, by rw [upd_ne (by omega), e1 m c]; exact g2, by rw [upd_ne (by omega), p1 m c]; exact g3⟩
    · subst c
      exact ⟨n, by omega, by rw [upd_self, e2], by rw [upd_self, p2]⟩
    · obtain ⟨k, g1, g2, g3⟩ := w2 (m - 1) (by omega)
      exact ⟨k, by omega, by rw [upd_ne (by omega), e3 m c (by omega)]; exact g2, by rw [upd_ne (by omega), p3 m c (by omega)]; exact g3⟩
  · rcases Nat.lt_trichotomy a q with c | c | c <;> rcases Nat.lt_trichotomy b q with c2 | c2 | c2
    · rw [e1 a c, e1 b c2] at e; exact w3 a b (by omega) (by omega) e
    · subst c2; rw [e1 a c, e2] at e; exact absurd e (hvL a (by omega))
    · rw [e1 a c, e3 b c2 (by omega)] at e; have := w3 a (b - 1) (by omega) (by omega) e; omega
    · subst c; rw [e1 b c2, e2] at e; exact absurd e.symm (hvL b (by omega))
    · omega
    · subst c; rw [e3 b c2 (by omega), e2] at e; exact absurd e.symm (hvL (b - 1) (by omega))
    · rw [e3 a c (by omega), e1 b c2] at e; have := w3 (a - 1) b (by omega) (by omega) e; omega
    · subst c2; rw [e3 a c (by omega), e2] at e; exact absurd e (hvL (a - 1) (by omega))
    · rw [e3 a c (by omega), e3 b c2 (by omega)] at e; have := w3 (a - 1) (b - 1) (by omega) (by omega) e; omega
  · rw [kA_up.1] at e
    by_cases c : a = n <;> by_cases c2 : b = n
    · omega
    · subst c; rw [upd_self, upd_ne c2] at e; exact absurd e.symm (hv b (by omega))
    · subst c2; rw [upd_self, upd_ne c] at e; exact absurd e (hv a (by omega))
    · rw [upd_ne c, upd_ne c2] at e; exact w4 a b (by omega) (by omega) e
  · rcases Nat.lt_trichotomy m q with c | c | c
    · rw [e1 m c]; exact w5 m (by omega)
    · subst c; rw [e2]; exact h0
    · rw [e3 m c (by omega)]; exact w5 (m - 1) (by omega)
theorem dep_ins {A : Nat → Nat → Int32} {n : Nat} {dep : Int32 → Nat} {v1 v2 v3 v4 : Int32} (hD : Dep A n dep) (hb : ∀ v, dep v ≤ n) (h2 : v2 = 0 ∨ ∃ k, k < n ∧ A 0 k = v2) (hn : n < 512) (h0 : ¬ v1 = 0) (hv : ∀ k, k < n → ¬ A 0 k = v1) (h21 : ¬ v2 = v1) :
    Dep (kA A n v1 v2 v3 v4) (n + 1) (fun v => if v = v1 then dep v2 + 1 else dep v) ∧ ∀ v, (if v = v1 then dep v2 + 1 else dep v) ≤ n + 1 := by
  obtain ⟨d1, d2, d3⟩ := hD
  have hb' : ∀ v, (if v = v1 then dep v2 + 1 else dep v) ≤ n + 1 := fun v => by
    have z1 := hb v
    have z2 := hb v2
    split <;> omega
  refine ⟨⟨by dsimp only; rw [if_neg (fun e => h0 e.symm)]; exact d1, fun k hk => ?_, fun v => Nat.le_trans (hb' v) (by omega)⟩, hb'⟩
  rw [kA_up.1, kA_up.2.1]
  dsimp only
  by_cases hkn : k = n
  · subst hkn
    rw [upd_self, upd_self, if_pos rfl, if_neg h21]
    refine ⟨h0, rfl, h2.imp id (fun ⟨j, g1, g2⟩ => ⟨j, by omega, by rw [upd_ne (by omega)]; exact g2⟩)⟩
  · obtain ⟨g1, g2, g3⟩ := d2 k (by omega)
    rw [upd_ne hkn, upd_ne hkn, if_neg (hv k (by omega)), if_neg (show ¬ A 1 k = v1 from fun e => ?_)]
    · exact ⟨g1, g2, g3.imp id (fun ⟨j, z1, z2⟩ => ⟨j, by omega, by rw [upd_ne (by omega)]; exact z2⟩)⟩
    · rcases g3 with z | ⟨j, z1, z2⟩
      · rw [z] at e; exact h0 e.symm
      · exact hv j z1 (by rw [z2, e])
theorem OfM.ins {A : Nat → Nat → Int32} {n d : Nat} {v v1 v2 v3 v4 : Int32} {a b : Nat} {r : Int32} (ha : a < 4) (hb : 4 ≤ b ∧ b < 8) (h : OfM A n d v a b r) : OfM (kA A n v1 v2 v3 v4) (n + 1) d v a b r := by
  have eb : kA A n v1 v2 v3 v4 b = A b := by
    unfold kA
    rw [va_up_ne _ _ (by omega), va_up_ne _ _ (by omega), va_up_ne _ _ (by omega), va_up_ne _ _ (by omega)]
  rcases h with ⟨k, h1, h2, h3, h4⟩ | ⟨h1, k, h2, h3, h4⟩
  · exact Or.inl ⟨k, h1, h2, h3, by rw [eb]; exact h4⟩
  · refine Or.inr ⟨h1, k, by omega, by rw [kA_up.1, upd_ne (by omega)]; exact h3, ?_⟩
    rw [h4]
    match a, ha with
    | 0, _ => exact (upd_ne (by omega)).symm
    | 1, _ => exact (upd_ne (by omega)).symm
    | 2, _ => exact (upd_ne (by omega)).symm
    | 3, _ => exact (upd_ne (by omega)).symm
theorem cnt_ins {A1 : Nat → Int32} {n : Nat} {v2 x : Int32} : cntB (fun k => decide (upd A1 n v2 k = x)) (n + 1) = cntB (fun k => decide (A1 k = x)) n + (if v2 = x then 1 else 0) := by
  rw [cntB, upd_self, cntB_congr (p' := fun k => decide (A1 k = x)) (fun k hk => by rw [upd_ne (by omega)])]
  simp
/-- the tie behind a weaving: E' are the new rows -/
theorem TA.ins {E E' : Nat → Nat → Int32} {B B' : Nat → Int32} {n d cnt : Nat} {ids : Nat → Int32} {A : Nat → Nat → Int32} {q q2 T : Nat} {v1 v2 v3 v4 : Int32} (h : TA E B n d cnt ids A) (hn : n < 512) (hf : Fre ids cnt v1) (hlt : v2 < v1) (hL : Lie (fun k => E k 0) n T v1 q) (hT : (T = 0 ∧ v2 = 0) ∨ ∃ t, t < n ∧ T = t + 1 ∧ E t 0 = v2) (hF : Fnb ids cnt v1 q2)
    (b1 : ∀ k, k < q → (∀ j, ¬ j = 3 → E' k j = E k j) ∧ E' k 3 = if T = k + 1 then E k 3 + 1 else E k 3) (w9 : Int32) (hw9 : (T = 0 ∧ w9 = B 2) ∨ ∃ t, T = t + 1 ∧ w9 = E t 2) (b2 : E' q = ofr (ini v1 v2 (w9 + 1)) v1 v3 v4)
    (b3 : ∀ k, q < k → k ≤ n → (∀ j, ¬ j = 3 → E' k j = E (k - 1) j) ∧ E' k 3 = if T = k then E (k - 1) 3 + 1 else E (k - 1) 3) (b4 : (∀ j, ¬ j = 3 → B' j = B j) ∧ B' 3 = if T = 0 then B 3 + 1 else B 3) :
    TA E' B' (n + 1) d (cnt + 1) (nte ids cnt q2 v1) (kA A n v1 v2 v3 v4) := by
  have hnew := (TA.new h v1).mp hf
  have hex := TA.ex h v2
  obtain ⟨t1, t2, ⟨pp, t3, t3b⟩, ⟨dep, t4, t4b, t4c⟩, t5, t6, t7, t8, t9, t10⟩ := h
  have h0 : ¬ v1 = 0 := (i32_8 hf.1).1
  have h21 : ¬ v2 = v1 := i32_irr hlt
  have hqn := hL.2.1
  have hTq := hL.1
  have h2x : v2 = 0 ∨ ∃ k, k < n ∧ A 0 k = v2 := hT.imp (fun z => z.2) (fun ⟨t, z1, _, z3⟩ => hex.mp ⟨t, z1, z3⟩)
  -- which row is the parent
  have hpar : ∀ k, k < n → (T = k + 1 ↔ v2 = E k 0) := fun k hk => by
    constructor
    · intro e
      rcases hT with ⟨z, _⟩ | ⟨t, z1, z2, z3⟩
      · omega
      · obtain rfl : t = k := by omega
        exact z3.symm
    · intro e
      rcases hT with ⟨_, z⟩ | ⟨t, z1, z2, z3⟩
      · exact absurd (e.symm.trans z) (i32_8 (t10 k hk)).1
      · have := t3.2.2.1 t k z1 hk (show E t 0 = E k 0 by rw [z3, e])
        omega
  have r0 : E' q 0 = v1 := by rw [b2, ofr_lo (by decide)]; rfl
  obtain ⟨nw, np1, np2, np3⟩ := wv_ins (v3 := v3) (v4 := v4) (L' := fun k => E' k 0) t3 hL hT hlt h0 hnew.2.2.1 (fun k hk => (b1 k hk).1 0 (by decide)) r0 (fun k g1 g2 => (b3 k g1 g2).1 0 (by decide))
  obtain ⟨nd, nb⟩ := dep_ins (v3 := v3) (v4 := v4) t4 t4b h2x hn h0 hnew.2.2.1 h21
  have hold : ∀ k, k < n → ¬ E k 0 = v1 := fun k hk e => by
    obtain ⟨j, g1, g2⟩ := (TA.ex (B := B) (cnt := cnt) (ids := ids) (d := d) ⟨t1, t2, ⟨pp, t3, t3b⟩, ⟨dep, t4, t4b, t4c⟩, t5, t6, t7, t8, t9, t10⟩ v1).mp ⟨k, hk, e⟩
    exact hnew.2.2.1 j g1 g2
  -- an old row, wherever it lies now
  have old : ∀ (k : Nat) (r : Nat → Int32), k < n → (∀ j, ¬ j = 3 → r j = E k j) → (r 3 = if T = k + 1 then E k 3 + 1 else E k 3) → RowT (kA A n v1 v2 v3 v4) (n + 1) d r := fun k r hk g1 g2 => by
    obtain ⟨a1, a2, a3, a4, a5, a6⟩ := t6 k hk
    unfold RowT
    rw [g1 0 (by decide), g1 4 (by decide), g1 5 (by decide), g1 6 (by decide), g1 7 (by decide), g1 8 (by decide)]
    refine ⟨?_, a2, a3, a4.ins (by decide) (by decide), a5.ins (by decide) (by decide), a6.ins (by decide) (by decide)⟩
    rw [g2, kA_up.2.1, cnt_ins, a1]
    by_cases hc : T = k + 1
    · rw [if_pos hc, if_pos ((hpar k hk).mp hc)]; exact nI_1 _
    · rw [if_neg hc, if_neg (fun e => hc ((hpar k hk).mpr e))]; rfl
  refine ⟨nte_srt t1 hF hf.2.2, by omega, ⟨ppI pp q T, nw, fun k hk => ?_⟩, ⟨_, nd, nb, fun k hk => ?_⟩, ⟨by rw [b4.1 0 (by decide)]; exact t5.1, by rw [b4.1 1 (by decide)]; exact t5.2.1, by rw [b4.1 2 (by decide)]; exact t5.2.2.1, ?_⟩, fun k hk => ?_, fun v => ?_, t8, fun k hk => ?_, fun k hk => ?_⟩
  · rcases Nat.lt_trichotomy k q with c | c | c
    · rw [np1 k c, (b1 k c).1 1 (by decide)]; exact t3b k (by omega)
    · subst c; rw [np2, b2, ofr_lo (by decide)]; rfl
    · rw [np3 k c (by omega), (b3 k c (by omega)).1 1 (by decide)]; exact t3b (k - 1) (by omega)
  · rcases Nat.lt_trichotomy k q with c | c | c
    · rw [(b1 k c).1 2 (by decide), (b1 k c).1 0 (by decide), if_neg (hold k (by omega))]; exact t4c k (by omega)
    · subst c
      rw [r0, if_pos rfl, b2, ofr_lo (by decide)]
      show w9 + 1 = _
      rw [← nI_1]
      congr 1
      rcases hw9 with ⟨z1, z2⟩ | ⟨t, z1, z2⟩
      · rcases hT with ⟨_, y⟩ | ⟨t, _, y, _⟩
        · rw [z2, t5.2.2.1, y, t4.1]; rfl
        · omega
      · rcases hT with ⟨y, _⟩ | ⟨t', y1, y2, y3⟩
        · omega
        · obtain rfl : t = t' := by omega
          rw [z2, t4c t y1, y3]
    · rw [(b3 k c (by omega)).1 2 (by decide), (b3 k c (by omega)).1 0 (by decide), if_neg (hold (k - 1) (by omega))]; exact t4c (k - 1) (by omega)
  · rw [b4.2, kA_up.2.1, cnt_ins, t5.2.2.2]
    by_cases hc : T = 0
    · rcases hT with ⟨_, y⟩ | ⟨t, _, y, _⟩
      · rw [if_pos hc, if_pos y]; exact nI_1 _
      · omega
    · rcases hT with ⟨y, _⟩ | ⟨t, y1, y2, y3⟩
      · omega
      · rw [if_neg hc, if_neg (show ¬ v2 = 0 from fun e => (i32_8 (t10 t y1)).1 (y3.trans e))]; rfl
  · rcases Nat.lt_trichotomy k q with c | c | c
    · exact old k _ (by omega) (b1 k c).1 (b1 k c).2
    · subst c
      have s6 : ofr (ini v1 v2 (w9 + 1)) v1 v3 v4 = va_up (va_up (va_up (ini v1 v2 (w9 + 1)) 6 v1) 7 v3) 8 v4 := by
        unfold ofr
        rw [if_pos]
        show (-1 : Int32) < v1
        have e1 : (-1 : Int32).toInt = -1 := by decide
        have e8 : (8 : Int32).toInt = 8 := by decide
        have := hf.1
        rw [Int32.lt_iff_toInt_lt, e8] at this
        rw [Int32.lt_iff_toInt_lt, e1]
        omega
      have ns : ∀ j, j < d → ¬ A 5 j = v1 := fun j hj e => by
        obtain ⟨i, g1, g2⟩ := t9 j hj
        exact hnew.2.2.1 i g1 (by rw [g2, e])
      have z3 : E' k 3 = 0 := by rw [b2, s6]; rfl
      have z4 : E' k 4 = 0 := by rw [b2, s6]; rfl
      have z5 : E' k 5 = 0 := by rw [b2, s6]; rfl
      have z6 : E' k 6 = v1 := by rw [b2, s6]; rfl
      have z7 : E' k 7 = v3 := by rw [b2, s6]; rfl
      have z8 : E' k 8 = v4 := by rw [b2, s6]; rfl
      unfold RowT
      rw [z3, z4, z5, z6, z7, z8, r0]
      have nosets : ∀ j, j < d → ¬ SetM (kA A n v1 v2 v3 v4) v1 j := fun j hj hs => ns j hj hs.1
      have hu0 : kA A n v1 v2 v3 v4 0 n = v1 := upd_self
      refine ⟨?_, ?_, ?_, Or.inr ⟨nosets, n, by omega, hu0, hu0.symm⟩, Or.inr ⟨nosets, n, by omega, hu0, (show kA A n v1 v2 v3 v4 2 n = v3 from upd_self).symm⟩, Or.inr ⟨nosets, n, by omega, hu0, (show kA A n v1 v2 v3 v4 3 n = v4 from upd_self).symm⟩⟩
      · rw [kA_up.2.1, cnt_ins, if_neg h21, cntB_0 (fun j hj => decide_eq_false (fun e => ?_))]
        · rfl
        · rcases (t4.2.1 j hj).2.2 with z | ⟨i, z1, z2⟩
          · rw [z] at e; exact h0 e.symm
          · exact hnew.2.2.1 i z1 (by rw [z2, e])
      · rw [cntB_0 (fun j hj => by rw [show decide (kA A n v1 v2 v3 v4 5 j = v1) = false from decide_eq_false (ns j hj)]; rfl)]; rfl
      · rw [cntB_0 (fun j hj => by rw [show decide (kA A n v1 v2 v3 v4 5 j = v1) = false from decide_eq_false (ns j hj)]; rfl)]; rfl
    · exact old (k - 1) _ (by omega) (b3 k c (by omega)).1 (by rw [(b3 k c (by omega)).2, show k - 1 + 1 = k by omega])
  · rw [nte_in hF.1, t7 v, kA_up.1]
    constructor
    · rintro ((⟨k, g1, g2⟩ | ⟨k, g1, g2⟩) | e)
      · exact Or.inl ⟨k, by omega, by rw [upd_ne (by omega)]; exact g2⟩
      · exact Or.inr ⟨k, g1, g2⟩
      · exact Or.inl ⟨n, by omega, by rw [upd_self]; exact e.symm⟩
    · rintro (⟨k, g1, g2⟩ | ⟨k, g1, g2⟩)
      · by_cases c : k = n
        · subst c; rw [upd_self] at g2; exact Or.inr g2.symm
        · rw [upd_ne c] at g2; exact Or.inl (Or.inl ⟨k, by omega, g2⟩)
      · exact Or.inl (Or.inr ⟨k, g1, g2⟩)
  · obtain ⟨j, g1, g2⟩ := t9 k hk
    exact ⟨j, by omega, by rw [kA_up.1, upd_ne (by omega)]; exact g2⟩
  · rcases Nat.lt_trichotomy k q with c | c | c
    · rw [(b1 k c).1 0 (by decide)]; exact t10 k (by omega)
    · subst c; rw [r0]; exact hf.1
    · rw [(b3 k c (by omega)).1 0 (by decide)]; exact t10 (k - 1) (by omega)
