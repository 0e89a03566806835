/-! THE TEXT, reference: its tokens -/
theorem q64_id {z : Int} (h1 : -9223372036854775808 ≤ z) (h2 : z ≤ 9223372036854775807) : q64 z = z := by
  unfold q64
  rw [Int64.toInt_ofInt, show Int64.size = 18446744073709551616 from rfl]
  exact Int.bmod_eq_of_le (by omega) (by omega)
def BT (b : Int → Int) (n : Int) (μ : qM) : Prop := μ 170 3 = n ∧ ∀ i, 0 ≤ i → i < n → qand (μ 171 i) 255 = b i ∧ 0 ≤ b i ∧ (b i < 128 → μ 171 i = b i)
theorem BT_fr {b : Int → Int} {n : Int} {μ μ' : qM} (h : BT b n μ) (h1 : μ' 170 3 = μ 170 3) (h2 : ∀ i, μ' 171 i = μ 171 i) : BT b n μ' := by
  refine ⟨h1.trans h.1, fun i q1 q2 => ?_⟩
  rw [h2]
  exact h.2 i q1 q2
theorem x120 {b : Int → Int} {n : Int} {d : Nat} {Q : qV → qM → Prop} {μ : qM} (hS : Safe μ) (B : BT b n μ) (h0 : 0 ≤ μ 170 10) (hQ : ∀ a, ((n ≤ μ 170 10 ∧ a = -1) ∨ (μ 170 10 < n ∧ a = b (μ 170 10) ∧ 0 ≤ a)) → Q (.inl a) μ) : qmw (d + 1) 120 [(.inr (.inr (.inl (170))))] μ Q := by
  have ht := sa_typed hS
  have e := B.1
  rw [e120, g120_0]
  refine ⟨fun q => hQ _ (Or.inl ⟨by omega, rfl⟩), fun q => ⟨by omega, ?_⟩⟩
  have hb := B.2 (μ 170 10) h0 (by omega)
  rw [hb.1]
  exact hQ _ (Or.inr ⟨by omega, rfl, hb.2.1⟩)
def cv (b : Int → Int) (j : Int) : Nat → Int
  | 0 => 0
  | k + 1 => cv b j k * 27 + (b (j + k) - 96)
theorem cv_r {b : Int → Int} {j : Int} : ∀ (k : Nat), (∀ i : Int, j ≤ i → i < j + k → isS (b i)) → 0 ≤ cv b j k ∧ cv b j k < 27 ^ k
  | 0, _ => by
    rw [cv]
    exact ⟨by decide, by decide⟩
  | k + 1, h => by
    have ih := cv_r k (fun i q1 q2 => h i q1 (by omega))
    have hk := h (j + k) (by omega) (by omega)
    rw [cv]
    have e : ((27 : Int) ^ (k + 1)) = 27 ^ k * 27 := Int.pow_succ 27 k
    rw [e]
    omega
theorem cv_5 {b : Int → Int} {j : Int} {k : Nat} (hk : k ≤ 5) (h : ∀ i : Int, j ≤ i → i < j + k → isS (b i)) : 0 ≤ cv b j k ∧ cv b j k ≤ 14348907 := by
  have h2 := cv_r k h
  rcases (show k = 0 ∨ k = 1 ∨ k = 2 ∨ k = 3 ∨ k = 4 ∨ k = 5 by omega) with rfl | rfl | rfl | rfl | rfl | rfl
  · have : ((27 : Int) ^ 0) = 1 := by decide
    omega
  · have : ((27 : Int) ^ 1) = 27 := by decide
    omega
  · have : ((27 : Int) ^ 2) = 729 := by decide
    omega
  · have : ((27 : Int) ^ 3) = 19683 := by decide
    omega
  · have : ((27 : Int) ^ 4) = 531441 := by decide
    omega
  · have : ((27 : Int) ^ 5) = 14348907 := by decide
    omega
theorem cv_4 {b : Int → Int} {j : Int} : cv b j 4 = (((b j - 96) * 27 + (b (j + 1) - 96)) * 27 + (b (j + 2) - 96)) * 27 + (b (j + 3) - 96) := by
  have e0 : j + ((0 : Nat) : Int) = j := by omega
  have e1 : j + ((1 : Nat) : Int) = j + 1 := by omega
  have e2 : j + ((2 : Nat) : Int) = j + 2 := by omega
  have e3 : j + ((3 : Nat) : Int) = j + 3 := by omega
  rw [cv, cv, cv, cv, cv, e0, e1, e2, e3]
  omega
theorem q_rw {Q : qV → qM → Prop} {μ : qM} {x y : Int} (h : x = y) : Q (.inr (.inl x)) μ = Q (.inr (.inl y)) μ := by rw [h]
theorem E122a {d : Nat} {Q : qV → qM → Prop} {μ : qM} : qmw (d + 2) 122 [(.inl (102)), (.inl (114)), (.inl (111)), (.inl (109))] μ Q = Q ((.inr (.inl (131638)))) μ := by
  simp only [e122, g122_0, e121, g121_0, g122_5, g122_9, g122_13, g122_17]
  exact q_rw (by decide +kernel)
theorem E122b {d : Nat} {Q : qV → qM → Prop} {μ : qM} : qmw (d + 2) 122 [(.inl (98)), (.inl (97)), (.inl (115)), (.inl (101))] μ Q = Q ((.inr (.inl (40613)))) μ := by
  simp only [e122, g122_0, e121, g121_0, g122_5, g122_9, g122_13, g122_17]
  exact q_rw (by decide +kernel)
theorem E122c {d : Nat} {Q : qV → qM → Prop} {μ : qM} : qmw (d + 2) 122 [(.inl (102)), (.inl (114)), (.inl (101)), (.inl (101))] μ Q = Q ((.inr (.inl (131360)))) μ := by
  simp only [e122, g122_0, e121, g121_0, g122_5, g122_9, g122_13, g122_17]
  exact q_rw (by decide +kernel)
theorem E122d {d : Nat} {Q : qV → qM → Prop} {μ : qM} : qmw (d + 2) 122 [(.inl (116)), (.inl (97)), (.inl (107)), (.inl (101))] μ Q = Q ((.inr (.inl (394691)))) μ := by
  simp only [e122, g122_0, e121, g121_0, g122_5, g122_9, g122_13, g122_17]
  exact q_rw (by decide +kernel)
theorem qlcmp_0 {a b : Int} : qlcmp a b = 0 ↔ a = b := by
  unfold qlcmp
  by_cases h1 : b < a
  · rw [if_pos h1]
    omega
  · rw [if_neg h1]
    by_cases h2 : a = b
    · rw [if_pos h2]
      omega
    · rw [if_neg h2]
      omega
/-- the four words -/
theorem FX_w {b : Int → Int} {j e : Int} {k : Nat} (hl : qln k = 4) : FX b j e k ↔ (e - j = 4 ∧ b j = qch k 0 ∧ b (j + 1) = qch k 1 ∧ b (j + 2) = qch k 2 ∧ b (j + 3) = qch k 3) := by
  unfold FX
  rw [hl]
  constructor
  · intro h
    have h0 := h.2 0 (by decide) (by decide)
    rw [Int.add_zero] at h0
    exact ⟨h.1.symm, h0, h.2 1 (by decide) (by decide), h.2 2 (by decide) (by decide), h.2 3 (by decide) (by decide)⟩
  · intro h
    refine ⟨h.1.symm, fun i q1 q2 => ?_⟩
    rcases (show i = 0 ∨ i = 1 ∨ i = 2 ∨ i = 3 by omega) with rfl | rfl | rfl | rfl
    · rw [Int.add_zero]
      exact h.2.1
    · exact h.2.2.1
    · exact h.2.2.2.1
    · exact h.2.2.2.2
theorem FX_s {b : Int → Int} {j e : Int} {k : Nat} (hl : qln k = 1) : FX b j e k ↔ (e - j = 1 ∧ b j = qch k 0) := by
  unfold FX
  rw [hl]
  constructor
  · intro h
    have h0 := h.2 0 (by decide) (by decide)
    rw [Int.add_zero] at h0
    exact ⟨h.1.symm, h0⟩
  · intro h
    refine ⟨h.1.symm, fun i q1 q2 => ?_⟩
    rw [show i = 0 by omega, Int.add_zero]
    exact h.2
theorem FX_10 {b : Int → Int} {j e : Int} : FX b j e 10 ↔ (e - j = 4 ∧ b j = 102 ∧ b (j + 1) = 114 ∧ b (j + 2) = 111 ∧ b (j + 3) = 109) := by
  rw [FX_w (by decide +kernel), show qch 10 0 = 102 by decide +kernel, show qch 10 1 = 114 by decide +kernel, show qch 10 2 = 111 by decide +kernel, show qch 10 3 = 109 by decide +kernel]
theorem FX_11 {b : Int → Int} {j e : Int} : FX b j e 11 ↔ (e - j = 4 ∧ b j = 98 ∧ b (j + 1) = 97 ∧ b (j + 2) = 115 ∧ b (j + 3) = 101) := by
  rw [FX_w (by decide +kernel), show qch 11 0 = 98 by decide +kernel, show qch 11 1 = 97 by decide +kernel, show qch 11 2 = 115 by decide +kernel, show qch 11 3 = 101 by decide +kernel]
theorem FX_12 {b : Int → Int} {j e : Int} : FX b j e 12 ↔ (e - j = 4 ∧ b j = 102 ∧ b (j + 1) = 114 ∧ b (j + 2) = 101 ∧ b (j + 3) = 101) := by
  rw [FX_w (by decide +kernel), show qch 12 0 = 102 by decide +kernel, show qch 12 1 = 114 by decide +kernel, show qch 12 2 = 101 by decide +kernel, show qch 12 3 = 101 by decide +kernel]
theorem FX_13 {b : Int → Int} {j e : Int} : FX b j e 13 ↔ (e - j = 4 ∧ b j = 116 ∧ b (j + 1) = 97 ∧ b (j + 2) = 107 ∧ b (j + 3) = 101) := by
  rw [FX_w (by decide +kernel), show qch 13 0 = 116 by decide +kernel, show qch 13 1 = 97 by decide +kernel, show qch 13 2 = 107 by decide +kernel, show qch 13 3 = 101 by decide +kernel]
theorem FX_14 {b : Int → Int} {j e : Int} : FX b j e 14 ↔ (e - j = 1 ∧ b j = 47) := by
  rw [FX_s (by decide +kernel), show qch 14 0 = 47 by decide +kernel]
theorem FX_15 {b : Int → Int} {j e : Int} : FX b j e 15 ↔ (e - j = 1 ∧ b j = 59) := by
  rw [FX_s (by decide +kernel), show qch 15 0 = 59 by decide +kernel]
def WO (b : Int → Int) (j e a : Int) : Prop := (a = 0 ∧ FX b j e 10) ∨ (a = 1 ∧ FX b j e 11) ∨ (a = 2 ∧ FX b j e 12) ∨ (a = 3 ∧ FX b j e 13) ∨ (a = -9 ∧ ¬ FX b j e 10 ∧ ¬ FX b j e 11 ∧ ¬ FX b j e 12 ∧ ¬ FX b j e 13)
theorem x123 {b : Int → Int} {n : Int} {d : Nat} {Q : qV → qM → Prop} {μ : qM} {a1 a2 : Int} (B : BT b n μ) (h0 : 0 ≤ a1) (h1 : a1 ≤ a2) (h2 : a2 ≤ n) (hn : n ≤ 300) (hs : ∀ k, a1 ≤ k → k < a2 → isS (b k)) (hQ : ∀ a, WO b a1 a2 a → Q (.inl a) μ) : qmw (d + 3) 123 [(.inr (.inr (.inl (170)))), (.inl (a1)), (.inl (a2))] μ Q := by
  rw [e123, g123_0]
  have key : ∀ w3, (a2 - a1 = 4 → w3 = cv b a1 4) → qmw (d + 2) 122 [(.inl (102)), (.inl (114)), (.inl (111)), (.inl (109))] μ (fun v ν => qW (d + 2) 123 Q 53 [some (.inr (.inr (.inl (170)))), some (.inl (a1)), some (.inl (a2)), some (.inr (.inl (w3))), none, some (.inl (-9))] (v :: [(.inr (.inl (w3)))]) ν) := fun w3 hw => by
    simp only [E122a, g123_53, E122b, g123_77, E122c, g123_101, E122d, g123_125, qlcmp_0]
    rw [q32_id (z := a2 - a1) (by omega) (by omega)]
    by_cases h4 : a2 - a1 = 4
    · have b0 := hs a1 (by omega) (by omega)
      have b1 := hs (a1 + 1) (by omega) (by omega)
      have b2 := hs (a1 + 2) (by omega) (by omega)
      have b3 := hs (a1 + 3) (by omega) (by omega)
      have w := hw h4
      rw [cv_4] at w
      have c0 : (w3 = 131638) ↔ FX b a1 a2 10 := by
        rw [FX_10]
        omega
      have c1 : (w3 = 40613) ↔ FX b a1 a2 11 := by
        rw [FX_11]
        omega
      have c2 : (w3 = 131360) ↔ FX b a1 a2 12 := by
        rw [FX_12]
        omega
      have c3 : (w3 = 394691) ↔ FX b a1 a2 13 := by
        rw [FX_13]
        omega
      have y0 : w3 = 131638 → Q (.inl 0) μ := fun q => hQ _ (Or.inl ⟨rfl, c0.mp q⟩)
      have y1 : w3 = 40613 → Q (.inl 1) μ := fun q => hQ _ (Or.inr (Or.inl ⟨rfl, c1.mp q⟩))
      have y2 : w3 = 131360 → Q (.inl 2) μ := fun q => hQ _ (Or.inr (Or.inr (Or.inl ⟨rfl, c2.mp q⟩)))
      have y3 : w3 = 394691 → Q (.inl 3) μ := fun q => hQ _ (Or.inr (Or.inr (Or.inr (Or.inl ⟨rfl, c3.mp q⟩))))
      have y4 : ¬ w3 = 131638 → ¬ w3 = 40613 → ¬ w3 = 131360 → ¬ w3 = 394691 → Q (.inl (-9)) μ := fun q0 q1 q2 q3 => hQ _ (Or.inr (Or.inr (Or.inr (Or.inr ⟨rfl, fun q => q0 (c0.mpr q), fun q => q1 (c1.mpr q), fun q => q2 (c2.mpr q), fun q => q3 (c3.mpr q)⟩))))
      clear c0 c1 c2 c3 w hw hQ b0 b1 b2 b3 hs
      refine ⟨fun q0 => ⟨fun q1 => ⟨fun q2 => ⟨fun q3 => ⟨fun q => absurd h4 q, fun _ => y4 q0 q1 q2 q3⟩, fun q3 => ⟨fun q => absurd h4 q, fun _ => y3 q3⟩⟩, fun q2 => ⟨fun q3 => ⟨fun q => absurd h4 q, fun _ => y2 q2⟩, fun q3 => ⟨fun q => absurd h4 q, fun _ => y3 q3⟩⟩⟩, fun q1 => ⟨fun q2 => ⟨fun q3 => ⟨fun q => absurd h4 q, fun _ => y1 q1⟩, fun q3 => ⟨fun q => absurd h4 q, fun _ => y3 q3⟩⟩, fun q2 => ⟨fun q3 => ⟨fun q => absurd h4 q, fun _ => y2 q2⟩, fun q3 => ⟨fun q => absurd h4 q, fun _ => y3 q3⟩⟩⟩⟩, fun q0 => ⟨fun q1 => ⟨fun q2 => ⟨fun q3 => ⟨fun q => absurd h4 q, fun _ => y0 q0⟩, fun q3 => ⟨fun q => absurd h4 q, fun _ => y3 q3⟩⟩, fun q2 => ⟨fun q3 => ⟨fun q => absurd h4 q, fun _ => y2 q2⟩, fun q3 => ⟨fun q => absurd h4 q, fun _ => y3 q3⟩⟩⟩, fun q1 => ⟨fun q2 => ⟨fun q3 => ⟨fun q => absurd h4 q, fun _ => y1 q1⟩, fun q3 => ⟨fun q => absurd h4 q, fun _ => y3 q3⟩⟩, fun q2 => ⟨fun q3 => ⟨fun q => absurd h4 q, fun _ => y2 q2⟩, fun q3 => ⟨fun q => absurd h4 q, fun _ => y3 q3⟩⟩⟩⟩⟩
    · have y : Q (.inl (-9)) μ := hQ _ (Or.inr (Or.inr (Or.inr (Or.inr ⟨rfl, fun q => h4 (FX_10.mp q).1, fun q => h4 (FX_11.mp q).1, fun q => h4 (FX_12.mp q).1, fun q => h4 (FX_13.mp q).1⟩))))
      have z : ∀ x, (¬ a2 - a1 = 4 → Q (.inl (-9)) μ) ∧ (a2 - a1 = 4 → Q (.inl x) μ) := fun x => ⟨fun _ => y, fun q => absurd q h4⟩
      clear y hQ hw hs
      exact ⟨fun _ => ⟨fun _ => ⟨fun _ => ⟨fun _ => z _, fun _ => z _⟩, fun _ => ⟨fun _ => z _, fun _ => z _⟩⟩, fun _ => ⟨fun _ => ⟨fun _ => z _, fun _ => z _⟩, fun _ => ⟨fun _ => z _, fun _ => z _⟩⟩⟩, fun _ => ⟨fun _ => ⟨fun _ => ⟨fun _ => z _, fun _ => z _⟩, fun _ => ⟨fun _ => z _, fun _ => z _⟩⟩, fun _ => ⟨fun _ => ⟨fun _ => z _, fun _ => z _⟩, fun _ => ⟨fun _ => z _, fun _ => z _⟩⟩⟩⟩
  refine qup a2 (P := fun a5 => ∀ w3, a1 ≤ a5 → a5 ≤ a1 + 5 → w3 = cv b a1 (a5 - a1).toNat → qW (d + 2) 123 Q 5 [some (.inr (.inr (.inl (170)))), some (.inl (a1)), some (.inl (a2)), some (.inr (.inl (w3))), none, some (.inl (a5))] [] μ) (fun a5 ih hB w3 h5 h6 e3 => ?_) _ h1 0 (by omega) (by omega) (by rw [Int.sub_self]; rfl)
  have hr : 0 ≤ w3 ∧ w3 ≤ 14348907 := by
    rw [e3]
    exact cv_5 (by omega) (fun i q1 q2 => hs i q1 (by omega))
  rw [g123_5, e121, g121_0, g123_30, q32_id (z := a1 + 5) (by omega) (by omega)]
  refine ⟨fun q => key _ (fun q4 => ?_), fun q => ⟨fun q2 => key _ (fun q4 => by omega), fun q2 => ⟨by omega, ?_⟩⟩⟩
  · rw [e3, show (a5 - a1).toNat = 4 by omega]
  · have hb := hs a5 h5 q
    have e5 := (B.2 a5 (by omega) (by omega)).2.2 (by omega)
    rw [e5, q32_id (z := a5 + 1) (by omega) (by omega), q64_id (z := w3 * 27) (by omega) (by omega), q64_id (z := w3 * 27 + b a5) (by omega) (by omega), q64_id (z := w3 * 27 + b a5 - 97) (by omega) (by omega), q64_id (z := w3 * 27 + b a5 - 97 + 1) (by omega) (by omega)]
    refine ih _ (by omega) (by omega) _ (by omega) (by omega) ?_
    rw [show (a5 + 1 - a1).toNat = (a5 - a1).toNat + 1 by omega, cv, ← e3, show a1 + ((a5 - a1).toNat : Int) = a5 by omega]
    omega
/-- the reference's number as far as it reads on -/
def mv (b : Int → Int) (j : Int) : Nat → Int
  | 0 => 0
  | k + 1 => if 999 < mv b j k then mv b j k else 10 * mv b j k + (b (j + k) - 48)
theorem mv_dv {b : Int → Int} {j : Int} : ∀ (k : Nat), k ≤ 3 → (∀ i : Int, j ≤ i → i < j + k → isD (b i)) → mv b j k = dv b j k
  | 0, _, _ => rfl
  | k + 1, hk, h => by
    have ih := mv_dv k (by omega) (fun i q1 q2 => h i q1 (by omega))
    have hr := dv_3 (k := k) (by omega) (fun i q1 q2 => h i q1 (by omega))
    rw [mv, dv, ih, if_neg (by omega)]
    omega
theorem mv_r {b : Int → Int} {j : Int} : ∀ (k : Nat), (∀ i : Int, j ≤ i → i < j + k → isD (b i)) → 0 ≤ mv b j k ∧ mv b j k ≤ 9999
  | 0, _ => by
    rw [mv]
    exact ⟨by decide, by decide⟩
  | k + 1, h => by
    have ih := mv_r k (fun i q1 q2 => h i q1 (by omega))
    have hk := h (j + k) (by omega) (by omega)
    rw [mv]
    split
    · exact ih
    · omega
theorem mv_4 {b : Int → Int} {j : Int} (h0 : ¬ b j = 48) : ∀ (k : Nat), (∀ i : Int, j ≤ i → i < j + (k + 4 : Nat) → isD (b i)) → 999 < mv b j (k + 4)
  | 0, h => by
    have e0 : j + ((0 : Nat) : Int) = j := by omega
    have d0 := h j (by omega) (by omega)
    have d1 := h (j + 1) (by omega) (by omega)
    have d2 := h (j + 2) (by omega) (by omega)
    have d3 := h (j + 3) (by omega) (by omega)
    have m3 := mv_dv 3 (by decide) (fun i q1 q2 => h i q1 (by omega))
    have e1 : j + ((1 : Nat) : Int) = j + 1 := by omega
    have e2 : j + ((2 : Nat) : Int) = j + 2 := by omega
    have e3 : j + ((3 : Nat) : Int) = j + 3 := by omega
    rw [dv, dv, dv, dv, e0, e1, e2] at m3
    show 999 < mv b j (3 + 1)
    rw [mv, m3, e3]
    split <;> omega
  | k + 1, h => by
    have ih := mv_4 h0 k (fun i q1 q2 => h i q1 (by omega))
    show 999 < mv b j (k + 4 + 1)
    rw [mv, if_pos ih]
    exact ih
def MTK (b : Int → Int) (n p st at_ so va : Int) : Prop := (p ≤ st ∧ st ≤ n ∧ ∀ k, p ≤ k → k < st → b k = 32) ∧ ((st = n ∧ at_ = n ∧ so = 0) ∨ (st < n ∧ ¬ b st = 32 ∧ ((isS (b st) ∧ RE isS b n st at_ ∧ WO b st at_ va ∧ ((so = 1 ∧ ¬ va = -9) ∨ (so = 4 ∧ va = -9))) ∨ (isD (b st) ∧ RE isD b n st at_ ∧ ((so = 2 ∧ okN b st at_ ∧ va = dv b st (at_ - st).toNat) ∨ (so = 4 ∧ ¬ okN b st at_))) ∨ (¬ isS (b st) ∧ ¬ isD (b st) ∧ at_ = st + 1 ∧ va = b st ∧ ((so = 3 ∧ (va = 47 ∨ va = 59)) ∨ (so = 4 ∧ ¬ va = 47 ∧ ¬ va = 59))))))
theorem x124 {b : Int → Int} {n p : Int} {μ0 : qM} {d : Nat} {Q : qV → qM → Prop} {μ : qM} (h : Sx μ0 μ) (B : BT b n μ0) (hp0 : 0 ≤ p) (hpn : p ≤ n) (hp : μ 170 10 = p) (hQ : ∀ μ', Sx μ0 μ' → 0 ≤ μ' 170 11 → MTK b n p (μ' 170 11) (μ' 170 10) (μ' 170 12) (μ' 170 13) → Q (.inl 0) μ') : qmw (d + 5) 124 [(.inr (.inr (.inl (170))))] μ Q := by
  have ht : 0 ≤ n ∧ n ≤ 300 := by
    have q := sa_typed h.1.1
    rw [Sx_3 h, B.1] at q
    exact q
  have Bt : ∀ {ν}, Sx μ0 ν → BT b n ν := fun hm => BT_fr B (Sx_3 hm) (fun i => hm.1.2 _ _ (by omega))
  have hat : ∀ {ν}, Sx μ0 ν → 0 ≤ ν 170 10 ∧ ν 170 10 ≤ n := fun hm => by
    have q := hm.2.2
    rw [B.1] at q
    exact q
  rw [e124]
  -- the words
  have kw : ∀ (a1 st m : Int), p ≤ st → st < n → (∀ k, p ≤ k → k < st → b k = 32) → ¬ b st = 32 → isS (b st) → st ≤ m → m ≤ n → (∀ k, st ≤ k → k < m → isS (b k)) → ∀ ν, Sx μ0 ν → ν 170 11 = st → ν 170 10 = m → qW (d + 4) 124 Q 63 [some (.inr (.inr (.inl (170)))), some (.inl (a1))] [] ν := fun a1 st m z1 z2 z3 z4 z5 z6 z7 z8 => by
    refine qup n (P := fun m => st ≤ m → (∀ k, st ≤ k → k < m → isS (b k)) → ∀ ν, Sx μ0 ν → ν 170 11 = st → ν 170 10 = m → qW (d + 4) 124 Q 63 [some (.inr (.inr (.inl (170)))), some (.inl (a1))] [] ν) (fun m ih hB z6 z8 ν hm e11 e10 => ?_) m z7 z6 z8
    rw [g124_63]
    refine x120 hm.1.1 (Bt hm) (hat hm).1 (fun a ha => ?_)
    rw [e10] at ha
    rw [g124_67, E117, g124_74, qbr2]
    refine ⟨fun q => ?_, fun q => ?_⟩
    · rw [e11, e10]
      have re : RE isS b n st m := ⟨z6, hB, z8, fun q9 q10 => by
        rcases ha with ⟨q11, -⟩ | ⟨-, q11, -⟩
        · omega
        · exact q (by rw [q11]; exact q10)⟩
      refine x123 (Bt hm) (by omega) z6 hB (by omega) z8 (fun w hw => ?_)
      rw [g124_103]
      have s9 : ∀ so, (so = 1 ∧ ¬ w = -9) ∨ (so = 4 ∧ w = -9) → Q (.inl 0) (qu (qu ν 170 13 w) 170 12 so) := fun so hso => by
        refine hQ _ (Sx_u (Sx_u hm (by omega) (by omega)) (by omega) (by omega)) (by rw [qu_ne (by omega), qu_ne (by omega), e11]; omega) ?_
        rw [qu_same, qu_ne (i' := 11) (by omega), qu_ne (i' := 11) (by omega), qu_ne (i' := 10) (by omega), qu_ne (i' := 10) (by omega), qu_ne (i' := 13) (by omega), qu_same, e11, e10]
        exact ⟨⟨z1, by omega, z3⟩, Or.inr ⟨z2, z4, Or.inl ⟨z5, re, hw, hso⟩⟩⟩
      exact ⟨fun q9 => s9 _ (Or.inl ⟨rfl, q9⟩), fun q9 => s9 _ (Or.inr ⟨rfl, q9⟩)⟩
    · have q10 : m < n ∧ isS (b m) := by
        rcases ha with ⟨-, q11⟩ | ⟨q9, q11, -⟩
        · omega
        · rw [q11] at q
          exact ⟨q9, q⟩
      rw [q32_id (by omega) (by omega), e10]
      refine ih (m + 1) (by omega) (by omega) (by omega) (fun k q1 q2 => ?_) _ (Sx_at hm (by omega) (by rw [B.1]; omega)) (by rw [qu_ne (by omega)]; exact e11) (by rw [qu_same])
      by_cases e9 : k = m
      · rw [e9]
        exact q10.2
      · exact z8 k q1 (by omega)
  -- the numbers
  have kn : ∀ (st m : Int), p ≤ st → st < n → (∀ k, p ≤ k → k < st → b k = 32) → ¬ b st = 32 → isD (b st) → st ≤ m → m ≤ n → (∀ k, st ≤ k → k < m → isD (b k)) → ∀ ν, Sx μ0 ν → ν 170 11 = st → ν 170 10 = m → ν 170 13 = mv b st (m - st).toNat → qW (d + 4) 124 Q 138 [some (.inr (.inr (.inl (170)))), some (.inl (b st))] [] ν := fun st m z1 z2 z3 z4 z5 z6 z7 z8 => by
    refine qup n (P := fun m => st ≤ m → (∀ k, st ≤ k → k < m → isD (b k)) → ∀ ν, Sx μ0 ν → ν 170 11 = st → ν 170 10 = m → ν 170 13 = mv b st (m - st).toNat → qW (d + 4) 124 Q 138 [some (.inr (.inr (.inl (170)))), some (.inl (b st))] [] ν) (fun m ih hB z6 z8 ν hm e11 e10 e13 => ?_) m z7 z6 z8
    have hv := mv_r (m - st).toNat (fun i q1 q2 => z8 i q1 (by omega))
    rw [g124_138]
    refine x120 hm.1.1 (Bt hm) (hat hm).1 (fun a ha => ?_)
    rw [e10] at ha
    rw [g124_142, E117, g124_149, qbr2, e13, e10, e11, q32_id (z := m - st) (by omega) (by omega), q32_id (z := 10 * mv b st (m - st).toNat) (by omega) (by omega)]
    refine ⟨fun q => ?_, fun q => ?_⟩
    · clear ih
      have ne : ¬ m = st := fun q9 => by
        rcases ha with ⟨q11, -⟩ | ⟨-, q11, -⟩
        · omega
        · rw [q9] at q11
          rw [q11] at q
          exact q z5
      have re : RE isD b n st m := ⟨z6, hB, z8, fun q9 q10 => by
        rcases ha with ⟨q11, -⟩ | ⟨-, q11, -⟩
        · omega
        · exact q (by rw [q11]; exact q10)⟩
      have s9 : ∀ so, ((so = 2 ∧ okN b st m ∧ mv b st (m - st).toNat = dv b st (m - st).toNat) ∨ (so = 4 ∧ ¬ okN b st m)) → Q (.inl 0) (qu ν 170 12 so) := fun so hso => by
        refine hQ _ (Sx_u hm (by omega) (by omega)) (by rw [qu_ne (by omega), e11]; omega) ?_
        rw [qu_same, qu_ne (i' := 11) (by omega), qu_ne (i' := 10) (by omega), qu_ne (i' := 13) (by omega), e11, e10, e13]
        exact ⟨⟨z1, by omega, z3⟩, Or.inr ⟨z2, z4, Or.inr (Or.inl ⟨z5, re, hso⟩)⟩⟩
      have md : m - st ≤ 3 → mv b st (m - st).toNat = dv b st (m - st).toNat := fun q9 => mv_dv _ (by omega) (fun i q1 q2 => z8 i q1 (by omega))
      have m3 : m - st ≤ 3 → mv b st (m - st).toNat ≤ 999 := fun q9 => by
        rw [md q9]
        exact (dv_3 (by omega) (fun i q1 q2 => z8 i q1 (by omega))).2
      have m4 : 3 < m - st → ¬ b st = 48 → 999 < mv b st (m - st).toNat := fun q9 q10 => by
        have e9 : (m - st).toNat = (m - st - 4).toNat + 4 := by omega
        rw [e9]
        exact mv_4 q10 _ (fun i q1 q2 => z8 i q1 (by omega))
      refine ⟨fun q1 => s9 4 (Or.inr ⟨rfl, fun ok => ?_⟩), fun q1 => ⟨fun q2 => s9 2 (Or.inl ⟨rfl, ?_⟩), fun q2 => ⟨fun q3 => s9 2 (Or.inl ⟨rfl, ?_⟩), fun q3 => s9 4 (Or.inr ⟨rfl, fun ok => ok.2.1 ⟨q2, q3⟩⟩)⟩⟩⟩
      · have := m3 ok.2.2
        omega
      · have l3 : m - st ≤ 3 := by
          by_cases q9 : m - st ≤ 3
          · exact q9
          · have := m4 (by omega) q2
            omega
        exact ⟨⟨z5, fun q9 => q2 q9.1, l3⟩, md l3⟩
      · exact ⟨⟨z5, fun q9 => absurd q9.2 (by omega), by omega⟩, md (by omega)⟩
    · have q10 : m < n ∧ isD (b m) := by
        rcases ha with ⟨-, q11⟩ | ⟨q9, q11, -⟩
        · omega
        · rw [q11] at q
          exact ⟨q9, q⟩
      have nx : ∀ x, x = mv b st (m + 1 - st).toNat → qW (d + 4) 124 Q 138 [some (.inr (.inr (.inl (170)))), some (.inl (b st))] [] (qu (qu ν 170 13 x) 170 10 (m + 1)) := fun x hx => by
        refine ih (m + 1) (by omega) (by omega) (by omega) (fun k q1 q2 => ?_) _ (Sx_at (Sx_u hm (by omega) (by omega)) (by omega) (by rw [B.1]; omega)) (by rw [qu_ne (by omega), qu_ne (by omega)]; exact e11) (by rw [qu_same]) (by rw [qu_ne (by omega), qu_same]; exact hx)
        by_cases e9 : k = m
        · rw [e9]
          exact q10.2
        · exact z8 k q1 (by omega)
      have em : mv b st (m + 1 - st).toNat = if 999 < mv b st (m - st).toNat then mv b st (m - st).toNat else 10 * mv b st (m - st).toNat + (b m - 48) := by
        rw [show (m + 1 - st).toNat = (m - st).toNat + 1 by omega, mv, show st + ((m - st).toNat : Int) = m by omega]
      clear ih
      rw [q32_id (z := m + 1) (by omega) (by omega)]
      refine ⟨fun q1 => x120 hm.1.1 (Bt hm) (hat hm).1 (fun c hc => ?_), fun q1 => nx _ (by rw [em, if_pos q1])⟩
      rw [e10] at hc
      have ec : c = b m := by
        rcases hc with ⟨q9, -⟩ | ⟨-, q9, -⟩
        · omega
        · exact q9
      rw [g124_181, e10, ec, q32_id (z := m + 1) (by omega) (by omega), q32_id (z := 10 * mv b st (m - st).toNat + b m) (by omega) (by omega), q32_id (z := 10 * mv b st (m - st).toNat + b m - 48) (by omega) (by omega)]
      exact nx _ (by rw [em, if_neg (by omega)]; omega)
  refine qup n (P := fun m => p ≤ m → (∀ k, p ≤ k → k < m → b k = 32) → ∀ ν, Sx μ0 ν → ν 170 10 = m → qW (d + 4) 124 Q 0 [some (.inr (.inr (.inl (170)))), none] [] ν) (fun m ih hB hm0 hbl ν hm e10 => ?_) p hpn (by omega) (fun k q1 q2 => by omega) _ h hp
  rw [g124_0]
  refine x120 hm.1.1 (Bt hm) (hat hm).1 (fun a ha => ?_)
  rw [e10] at ha
  rw [g124_4]
  refine ⟨fun q => ?_, fun q => ?_⟩
  · clear ih
    have hm2 : Sx μ0 (qu (qu ν 170 11 (ν 170 10)) 170 13 0) := Sx_u (Sx_u hm (by omega) (by omega)) (by omega) (by omega)
    have f11 : (qu (qu ν 170 11 (ν 170 10)) 170 13 0) 170 11 = m := by
      rw [qu_ne (by omega), qu_same]
      exact e10
    have f10 : (qu (qu ν 170 11 (ν 170 10)) 170 13 0) 170 10 = m := by
      rw [qu_ne (by omega), qu_ne (by omega)]
      exact e10
    have f13 : (qu (qu ν 170 11 (ν 170 10)) 170 13 0) 170 13 = 0 := by
      rw [qu_same]
    generalize qu (qu ν 170 11 (ν 170 10)) 170 13 0 = ν2 at hm2 f11 f10 f13
    refine x120 hm2.1.1 (Bt hm2) (hat hm2).1 (fun c hc => ?_)
    rw [f10] at hc
    rw [g124_39]
    refine ⟨fun q2 => ?_, fun q2 => ?_⟩
    · have hc2 : m < n ∧ c = b m := by
        rcases hc with ⟨-, q9⟩ | ⟨q9, q10, -⟩
        · omega
        · exact ⟨q9, q10⟩
      have hb32 : ¬ b m = 32 := by
        rcases ha with ⟨q9, -⟩ | ⟨-, q9, -⟩
        · omega
        · rw [← q9]
          exact q
      rw [hc2.2, E117, g124_60, qbr2]
      refine ⟨fun q3 => ?_, fun q3 => kw _ m m hm0 hc2.1 hbl hb32 q3 (by omega) hB (fun k q1 q2 => by omega) _ hm2 f11 f10⟩
      rw [E117, g124_135, qbr2, f10, q32_id (by omega) (by omega)]
      refine ⟨fun q4 => ?_, fun q4 => kn m m hm0 hc2.1 hbl hb32 q4 (by omega) hB (fun k q1 q2 => by omega) _ hm2 f11 f10 (by rw [f13, Int.sub_self]; rfl)⟩
      have s9 : ∀ so, ((so = 3 ∧ (b m = 47 ∨ b m = 59)) ∨ (so = 4 ∧ ¬ b m = 47 ∧ ¬ b m = 59)) → Q (.inl 0) (qu (qu (qu ν2 170 10 (m + 1)) 170 13 (b m)) 170 12 so) := fun so hso => by
        refine hQ _ (Sx_u (Sx_u (Sx_at hm2 (by omega) (by rw [B.1]; omega)) (by omega) (by omega)) (by omega) (by omega)) (by rw [qu_ne (by omega), qu_ne (by omega), qu_ne (by omega), f11]; omega) ?_
        rw [qu_same, qu_ne (i' := 11) (by omega), qu_ne (i' := 11) (by omega), qu_ne (i' := 11) (by omega), qu_ne (i' := 10) (by omega), qu_ne (i' := 10) (by omega), qu_same, qu_ne (i' := 13) (by omega), qu_same, f11]
        exact ⟨⟨hm0, hB, hbl⟩, Or.inr ⟨hc2.1, hb32, Or.inr (Or.inr ⟨q3, q4, rfl, rfl, hso⟩)⟩⟩
      exact ⟨fun q5 => s9 3 (Or.inl ⟨rfl, Or.inl q5⟩), fun q5 => ⟨fun q6 => s9 4 (Or.inr ⟨rfl, q5, q6⟩), fun q6 => s9 3 (Or.inl ⟨rfl, Or.inr q6⟩)⟩⟩
    · have hc2 : m = n := by
        rcases hc with ⟨q9, -⟩ | ⟨-, -, q9⟩
        · omega
        · omega
      refine hQ _ (Sx_u hm2 (by omega) (by omega)) (by rw [qu_ne (by omega), f11]; omega) ?_
      rw [qu_same, qu_ne (i' := 11) (by omega), qu_ne (i' := 10) (by omega), qu_ne (i' := 13) (by omega), f11, f10]
      exact ⟨⟨hm0, hB, hbl⟩, Or.inl ⟨hc2, hc2, rfl⟩⟩
  · have hb32 : m < n ∧ b m = 32 := by
      rcases ha with ⟨-, q9⟩ | ⟨q8, q9, -⟩
      · omega
      · exact ⟨q8, by rw [← q9]; exact q⟩
    rw [q32_id (by omega) (by omega), e10]
    refine ih (m + 1) (by omega) (by omega) (by omega) (fun k q1 q2 => ?_) _ (Sx_at hm (by omega) (by rw [B.1]; omega)) (by rw [qu_same])
    by_cases e9 : k = m
    · rw [e9]
      exact hb32.2
    · exact hbl k q1 (by omega)
