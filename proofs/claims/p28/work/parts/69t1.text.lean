/-! THE TEXT AND THE RULES: what can stand where -/
abbrev isL (c : Int) : Prop := (97 ≤ c ∧ c ≤ 122) ∨ (65 ≤ c ∧ c ≤ 90)
abbrev isD (c : Int) : Prop := 48 ≤ c ∧ c ≤ 57
abbrev isS (c : Int) : Prop := 97 ≤ c ∧ c ≤ 122
/-- a run of P from i on ends at e -/
def RE (P : Int → Prop) (b : Int → Int) (n i e : Int) : Prop := i ≤ e ∧ e ≤ n ∧ (∀ k, i ≤ k → k < e → P (b k)) ∧ (e < n → ¬ P (b e))
theorem RE_u {P : Int → Prop} {b : Int → Int} {n i e e' : Int} (h : RE P b n i e) (h' : RE P b n i e') : e = e' := by
  obtain ⟨h1, h2, h3, h4⟩ := h
  obtain ⟨k1, k2, k3, k4⟩ := h'
  rcases Int.lt_trichotomy e e' with q | q | q
  · exact absurd (k3 e h1 q) (h4 (by omega))
  · exact q
  · exact absurd (h3 e' k1 q) (k4 (by omega))
/-- the class's token that begins at j ends at e -/
def CE (b : Int → Int) (n j e : Int) : Prop := (isL (b j) ∧ RE isL b n (j + 1) e) ∨ (¬ isL (b j) ∧ isD (b j) ∧ RE isD b n (j + 1) e) ∨ (¬ isL (b j) ∧ ¬ isD (b j) ∧ e = j + 1)
theorem CE_r {b : Int → Int} {n j e : Int} (h : CE b n j e) (hj : j < n) : j < e ∧ e ≤ n := by
  rcases h with ⟨-, h⟩ | ⟨-, -, h⟩ | ⟨-, -, h⟩
  · have := h.1
    have := h.2.1
    omega
  · have := h.1
    have := h.2.1
    omega
  · omega
def dv (b : Int → Int) (j : Int) : Nat → Int
  | 0 => 0
  | k + 1 => dv b j k * 10 + (b (j + k) - 48)
def okN (b : Int → Int) (j e : Int) : Prop := isD (b j) ∧ ¬ (b j = 48 ∧ 1 < e - j) ∧ e - j ≤ 3
def NUM (b : Int → Int) (j e v : Int) : Prop := okN b j e ∧ v = dv b j (e - j).toNat
def qch (k : Nat) (a : Int) : Int := qi2c (qand (((qsl.getD (k - 10) []).getD a.toNat 0).toInt) 255)
def qln (k : Nat) : Int := ((qsl.getD (k - 10) []).length : Int)
/-- the token is the k-th of the fixed ones -/
def FX (b : Int → Int) (j e : Int) (k : Nat) : Prop := qln k = e - j ∧ ∀ i, 0 ≤ i → i < qln k → b (j + i) = qch k i
def fxk (slot : Int) : Nat := if slot = 0 then 10 else if slot = 2 then 11 else if slot = 4 then 12 else if slot = 6 then 13 else if slot = 8 then 14 else 15
def evn (slot : Int) : Prop := slot = 0 ∨ slot = 2 ∨ slot = 4 ∨ slot = 6 ∨ slot = 8 ∨ slot = 10
def lo (slot size : Int) (A : qM) : Int := if slot = 1 then (if size = 0 then 0 else q32 (A 0 (q32 (size - 1)) + 1)) else if slot = 3 ∨ slot = 5 then 0 else 1
def hi (slot : Int) : Int := if slot = 1 then 200 else if slot = 3 ∨ slot = 5 then 99 else 20
def CAN (b : Int → Int) (slot size : Int) (A : qM) (j e v : Int) : Prop := size < 6 ∧ ((evn slot ∧ FX b j e (fxk slot)) ∨ (¬ evn slot ∧ NUM b j e v ∧ lo slot size A ≤ v ∧ v ≤ hi slot))
def TK (b : Int → Int) (n p j e : Int) : Prop := p ≤ j ∧ (∀ k, p ≤ k → k < j → b k = 32) ∧ j < n ∧ ¬ b j = 32 ∧ CE b n j e
def EN (b : Int → Int) (n p : Int) : Prop := ∀ k, p ≤ k → k < n → b k = 32
def PZ (b : Int → Int) (n : Int) (R : Int → qM → Prop) (F : Prop) : Nat → Int → Int → Int → qM → Prop
  | 0, p, slot, size, A => (EN b n p ∧ slot = 0 ∧ R size A) ∨ (EN b n p ∧ ¬ slot = 0 ∧ F) ∨ (∃ j e, TK b n p j e ∧ (∀ v, ¬ CAN b slot size A j e v) ∧ F)
  | k + 1, p, slot, size, A => ∃ j e v, TK b n p j e ∧ CAN b slot size A j e v ∧ ((slot = 10 ∧ PZ b n R F k e 0 (size + 1) A) ∨ (¬ slot = 10 ∧ evn slot ∧ PZ b n R F k e (slot + 1) size A) ∨ (¬ evn slot ∧ PZ b n R F k e (slot + 1) size (qu A ((slot - 1) / 2) size v)))
theorem TK_sk {b : Int → Int} {n p j e : Int} (h : b p = 32) (t : TK b n (p + 1) j e) : TK b n p j e := by
  obtain ⟨h1, h2, h3, h4, h5⟩ := t
  refine ⟨by omega, fun k q1 q2 => ?_, h3, h4, h5⟩
  by_cases q : k = p
  · rw [q]
    exact h
  · exact h2 k (by omega) q2
theorem EN_sk {b : Int → Int} {n p : Int} (h : b p = 32) (t : EN b n (p + 1)) : EN b n p := fun k q1 q2 => by
  by_cases q : k = p
  · rw [q]
    exact h
  · exact t k (by omega) q2
theorem PZ_sk {b : Int → Int} {n p slot size : Int} {R : Int → qM → Prop} {F : Prop} {A : qM} (h : b p = 32) : ∀ k, PZ b n R F k (p + 1) slot size A → PZ b n R F k p slot size A
  | 0, t => by
    rcases t with ⟨q1, q2, q3⟩ | ⟨q1, q2, q3⟩ | ⟨j, e, q1, q2, q3⟩
    · exact Or.inl ⟨EN_sk h q1, q2, q3⟩
    · exact Or.inr (Or.inl ⟨EN_sk h q1, q2, q3⟩)
    · exact Or.inr (Or.inr ⟨j, e, TK_sk h q1, q2, q3⟩)
  | k + 1, t => by
    obtain ⟨j, e, v, q1, q2, q3⟩ := t
    exact ⟨j, e, v, TK_sk h q1, q2, q3⟩
/-! the class's side -/
theorem x55 {d : Nat} {Q : qV → qM → Prop} {μ : qM} {a1 : Int} (h0 : 0 ≤ a1) (h1 : a1 < 300) (hQ : ∀ a, (isL (μ 2 a1) ∧ a = 1) ∨ (¬ isL (μ 2 a1) ∧ a = 0) → Q (.inl a) μ) : qmw (d + 1) 55 [(.inr (.inr (.inl (1)))), (.inl (a1))] μ Q := by
  have y : isL (μ 2 a1) → Q (.inl 1) μ := fun q => hQ 1 (Or.inl ⟨q, rfl⟩)
  have n : ¬ isL (μ 2 a1) → Q (.inl 0) μ := fun q => hQ 0 (Or.inr ⟨q, rfl⟩)
  clear hQ
  rw [e55, g55_0]
  simp only [qb11, qb00, true_and]
  exact ⟨⟨h0, h1⟩, fun q1 => ⟨fun q2 => n (by clear y n; omega), fun q2 => ⟨fun q3 => n (by clear y n; omega), fun q3 => y (by clear y n; omega)⟩⟩, fun q1 => ⟨fun q2 => y (by clear y n; omega), fun q2 => ⟨fun q3 => n (by clear y n; omega), fun q3 => ⟨fun q4 => n (by clear y n; omega), fun q4 => y (by clear y n; omega)⟩⟩⟩⟩
theorem x56 {d : Nat} {Q : qV → qM → Prop} {μ : qM} {a1 : Int} (h0 : 0 ≤ a1) (h1 : a1 < 300) (hQ : ∀ a, (isD (μ 2 a1) ∧ a = 1) ∨ (¬ isD (μ 2 a1) ∧ a = 0) → Q (.inl a) μ) : qmw (d + 1) 56 [(.inr (.inr (.inl (1)))), (.inl (a1))] μ Q := by
  have y : isD (μ 2 a1) → Q (.inl 1) μ := fun q => hQ 1 (Or.inl ⟨q, rfl⟩)
  have n : ¬ isD (μ 2 a1) → Q (.inl 0) μ := fun q => hQ 0 (Or.inr ⟨q, rfl⟩)
  clear hQ
  rw [e56, g56_0]
  simp only [qb11, qb00, true_and]
  exact ⟨⟨h0, h1⟩, fun q1 => n (by clear y n; omega), fun q1 => ⟨⟨h0, h1⟩, fun q2 => n (by clear y n; omega), fun q2 => y (by clear y n; omega)⟩⟩
theorem x54 {d : Nat} {Q : qV → qM → Prop} {μ : qM} {a1 : Int} (hS : Safe μ) (h0 : 0 ≤ a1) (h1 : a1 < μ 1 2) (hQ : ∀ e, CE (μ 2) (μ 1 2) a1 e → Q (.inl e) μ) : qmw (d + 2) 54 [(.inr (.inr (.inl (1)))), (.inl (a1))] μ Q := by
  have hl := sa_len hS
  rw [e54, g54_0]
  refine x55 h0 (by omega) (fun a ha => ?_)
  rw [g54_9, q32_id (z := a1 + 1) (by omega) (by omega)]
  refine ⟨fun q0 => ?_, fun q0 => ?_⟩
  · have nl : ¬ isL (μ 2 a1) := by
      rcases ha with ⟨-, q⟩ | ⟨q, -⟩
      · omega
      · exact q
    refine x56 h0 (by omega) (fun b hb => ?_)
    rw [g54_39]
    refine ⟨fun q1 => hQ _ (Or.inr (Or.inr ⟨nl, ?_, rfl⟩)), fun q1 => ?_⟩
    · rcases hb with ⟨-, q⟩ | ⟨q, -⟩
      · omega
      · exact q
    · have dd : isD (μ 2 a1) := by
        rcases hb with ⟨q, -⟩ | ⟨-, q⟩
        · exact q
        · omega
      refine qup (μ 1 2) (P := fun i => a1 < i → (∀ k, a1 + 1 ≤ k → k < i → isD (μ 2 k)) → qW (d + 1) 54 Q 42 [some (.inr (.inr (.inl (1)))), some (.inl (a1)), some (.inl (i))] [] μ) (fun i ih hB h3 hk => ?_) _ (by omega) (by omega) (fun k q1 q2 => by omega)
      rw [g54_42]
      refine ⟨fun q2 => hQ _ (Or.inr (Or.inl ⟨nl, dd, by omega, hB, hk, fun q3 => by omega⟩)), fun q2 => x56 (by omega) (by omega) (fun e he => ?_)⟩
      rw [g54_55, q32_id (by omega) (by omega)]
      rcases he with ⟨he, rfl⟩ | ⟨he, rfl⟩
      · refine ⟨fun q => absurd q (by decide), fun _ => ih _ (by omega) (by omega) (by omega) (fun k q3 q4 => ?_)⟩
        by_cases e9 : k = i
        · rw [e9]
          exact he
        · exact hk k q3 (by omega)
      · exact ⟨fun _ => hQ _ (Or.inr (Or.inl ⟨nl, dd, by omega, hB, hk, fun _ => he⟩)), fun q => absurd rfl q⟩
  · have ll : isL (μ 2 a1) := by
      rcases ha with ⟨q, -⟩ | ⟨-, q⟩
      · exact q
      · omega
    refine qup (μ 1 2) (P := fun i => a1 < i → (∀ k, a1 + 1 ≤ k → k < i → isL (μ 2 k)) → qW (d + 1) 54 Q 12 [some (.inr (.inr (.inl (1)))), some (.inl (a1)), some (.inl (i))] [] μ) (fun i ih hB h3 hk => ?_) _ (by omega) (by omega) (fun k q1 q2 => by omega)
    rw [g54_12]
    refine ⟨fun q2 => hQ _ (Or.inl ⟨ll, by omega, hB, hk, fun q3 => by omega⟩), fun q2 => x55 (by omega) (by omega) (fun e he => ?_)⟩
    rw [g54_25, q32_id (by omega) (by omega)]
    rcases he with ⟨he, rfl⟩ | ⟨he, rfl⟩
    · refine ⟨fun q => absurd q (by decide), fun _ => ih _ (by omega) (by omega) (by omega) (fun k q3 q4 => ?_)⟩
      by_cases e9 : k = i
      · rw [e9]
        exact he
      · exact hk k q3 (by omega)
    · exact ⟨fun _ => hQ _ (Or.inl ⟨ll, by omega, hB, hk, fun _ => he⟩), fun q => absurd rfl q⟩
theorem CE_dig {b : Int → Int} {n j e : Int} (h : CE b n j e) (hd : isD (b j)) : ∀ k, j ≤ k → k < e → isD (b k) := by
  intro k q1 q2
  by_cases e9 : k = j
  · rw [e9]
    exact hd
  · rcases h with ⟨h, -⟩ | ⟨-, -, h⟩ | ⟨-, h, -⟩
    · omega
    · exact h.2.2.1 k (by omega) q2
    · exact absurd hd h
theorem dv_r {b : Int → Int} {j : Int} : ∀ (k : Nat), (∀ i : Int, j ≤ i → i < j + k → isD (b i)) → 0 ≤ dv b j k ∧ dv b j k < 10 ^ k
  | 0, _ => by
    rw [dv]
    exact ⟨by decide, by decide⟩
  | k + 1, h => by
    have ih := dv_r k (fun i q1 q2 => h i q1 (by omega))
    have hk := h (j + k) (by omega) (by omega)
    rw [dv]
    have e : ((10 : Int) ^ (k + 1)) = 10 ^ k * 10 := Int.pow_succ 10 k
    rw [e]
    omega
theorem dv_3 {b : Int → Int} {j : Int} {k : Nat} (hk : k ≤ 3) (h : ∀ i : Int, j ≤ i → i < j + k → isD (b i)) : 0 ≤ dv b j k ∧ dv b j k ≤ 999 := by
  have h2 := dv_r k h
  rcases (show k = 0 ∨ k = 1 ∨ k = 2 ∨ k = 3 by omega) with rfl | rfl | rfl | rfl
  · have : ((10 : Int) ^ 0) = 1 := by decide
    omega
  · have : ((10 : Int) ^ 1) = 10 := by decide
    omega
  · have : ((10 : Int) ^ 2) = 100 := by decide
    omega
  · have : ((10 : Int) ^ 3) = 1000 := by decide
    omega
theorem x59 {d : Nat} {Q : qV → qM → Prop} {μ : qM} {a1 a2 : Int} (h0 : 0 ≤ a1) (h1 : a1 < a2) (h2 : a2 ≤ 300) (hd : isD (μ 2 a1) → ∀ k, a1 ≤ k → k < a2 → isD (μ 2 k)) (hQ : ∀ v, ((okN (μ 2) a1 a2 ∧ v = dv (μ 2) a1 (a2 - a1).toNat) ∨ (¬ okN (μ 2) a1 a2 ∧ v = -1)) → Q (.inl v) μ) : qmw (d + 2) 59 [(.inr (.inr (.inl (1)))), (.inl (a1)), (.inl (a2))] μ Q := by
  have key : ∀ (a3 b : Int), ((isD (μ 2 a1) ∧ b = 1) ∨ (¬ isD (μ 2 a1) ∧ b = 0)) → ((¬ a3 = 0) ↔ (μ 2 a1 = 48 ∧ 1 < a2 - a1)) → qW (d + 1) 59 Q 29 [some (.inr (.inr (.inl (1)))), some (.inl (a1)), some (.inl (a2)), some (.inl (a3)), none, none] [(.inl (b))] μ := fun a3 b hb ha => by
    rw [g59_29, q32_id (z := a2 - a1) (by omega) (by omega)]
    refine ⟨fun q => hQ _ (Or.inr ⟨fun k => ?_, rfl⟩), fun q => ⟨fun q2 => hQ _ (Or.inr ⟨fun k => k.2.1 (ha.mp q2), rfl⟩), fun q2 => ⟨fun q3 => ?_, fun q3 => hQ _ (Or.inr ⟨fun k => ?_, rfl⟩)⟩⟩⟩
    · rcases hb with ⟨-, q9⟩ | ⟨q9, -⟩
      · omega
      · exact q9 k.1
    · have dd : isD (μ 2 a1) := by
        rcases hb with ⟨q9, -⟩ | ⟨-, q9⟩
        · exact q9
        · omega
      have ok : okN (μ 2) a1 a2 := ⟨dd, fun q9 => (ha.mpr q9) q2, q3⟩
      have hd := hd dd
      refine qup a2 (P := fun i => ∀ a4, a1 ≤ i → a4 = dv (μ 2) a1 (i - a1).toNat → qW (d + 1) 59 Q 51 [some (.inr (.inr (.inl (1)))), some (.inl (a1)), some (.inl (a2)), some (.inl (a3)), some (.inl (a4)), some (.inl (i))] [] μ) (fun i ih hB a4 h3 e4 => ?_) _ (by omega) _ (by omega) (by rw [Int.sub_self]; rfl)
      have hr : 0 ≤ a4 ∧ a4 ≤ 999 := by
        rw [e4]
        exact dv_3 (by omega) (fun i' q5 q6 => hd i' q5 (by omega))
      rw [g59_51]
      refine ⟨fun q5 => hQ _ (Or.inl ⟨ok, ?_⟩), fun q5 => ⟨by omega, ?_⟩⟩
      · rw [e4, show i = a2 by omega]
      · have hi := hd i h3 q5
        rw [q32_id (z := a4 * 10) (by omega) (by omega), q32_id (z := μ 2 i - 48) (by omega) (by omega), q32_id (z := a4 * 10 + (μ 2 i - 48)) (by omega) (by omega), q32_id (z := i + 1) (by omega) (by omega)]
        refine ih _ (by omega) (by omega) _ (by omega) ?_
        rw [show (i + 1 - a1).toNat = (i - a1).toNat + 1 by omega, dv, ← e4, show a1 + ((i - a1).toNat : Int) = i by omega]
    · have := k.2.2
      omega
  rw [e59, g59_0, q32_id (z := a2 - a1) (by omega) (by omega)]
  refine ⟨by omega, fun q => x56 h0 (by omega) (fun b hb => key _ _ hb ?_), fun q => ⟨fun q2 => x56 h0 (by omega) (fun b hb => key _ _ hb ?_), fun q2 => x56 h0 (by omega) (fun b hb => key _ _ hb ?_)⟩⟩
  · exact ⟨fun q3 => absurd rfl q3, fun q3 => absurd q3.1 q⟩
  · exact ⟨fun q3 => absurd rfl q3, fun q3 => absurd q3.2 (by omega)⟩
  · exact ⟨fun _ => ⟨q, q2⟩, fun _ => by decide⟩
theorem x61 {d : Nat} {Q : qV → qM → Prop} {μ : qM} {k : Nat} {a2 a3 : Int} (hk1 : 10 ≤ k) (hk2 : k < 16) (h0 : 0 ≤ a2) (h1 : a2 < a3) (h2 : a3 ≤ 300) (hQ : ∀ a, ((FX (μ 2) a2 a3 k ∧ a = 1) ∨ (¬ FX (μ 2) a2 a3 k ∧ a = 0)) → Q (.inl a) μ) : qmw (d + 5) 61 [(.inr (.inr (.inl (1)))), (.inr (.inr (.inr k))), (.inl (a2)), (.inl (a3))] μ Q := by
  have h3 : ¬ k = 3 := by omega
  rw [e61, g61_0, E183 hk1 hk2]
  refine ⟨h3, ?_⟩
  rw [g61_4, q32_id (by omega) (by omega)]
  simp only [qb00, true_and]
  refine ⟨fun h4 => ?_, fun h4 => hQ _ (Or.inr ⟨fun q => h4 q.1, rfl⟩)⟩
  refine qup a3 (P := fun i => a2 ≤ i → (∀ j, 0 ≤ j → j < i - a2 → μ 2 (a2 + j) = qch k j) → qW (d + 4) 61 Q 15 [some (.inr (.inr (.inl (1)))), some (.inr (.inr (.inr k))), some (.inl (a2)), some (.inl (a3)), some (.inl (i))] [] μ) (fun i ih hB h5 hj => ?_) _ (by omega) (by omega) (fun j q1 q2 => by omega)
  rw [g61_15]
  simp only [qb11, true_and]
  refine ⟨fun q => hQ _ (Or.inl ⟨⟨h4, fun j q1 q2 => hj j q1 (by have : qln k = a3 - a2 := h4; omega)⟩, rfl⟩), fun h6 => ⟨by omega, h3, ?_⟩⟩
  rw [q32_id (by omega) (by omega), E184 hk1 hk2 (by omega) (by omega), g61_36, q32_id (by omega) (by omega)]
  simp only [qb00, true_and]
  refine ⟨fun q => ih _ (by omega) (by omega) (by omega) (fun j q1 q2 => ?_), fun q => hQ _ (Or.inr ⟨fun q2 => q ?_, rfl⟩)⟩
  · by_cases e9 : j = i - a2
    · rw [e9, show a2 + (i - a2) = i by omega]
      exact q
    · exact hj j q1 (by omega)
  · have := q2.2 (i - a2) (by omega) (by have := q2.1; omega)
    rw [show a2 + (i - a2) = i by omega] at this
    exact this
