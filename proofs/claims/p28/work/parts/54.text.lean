/-! THE TEXT (class): the cells 1 .. 8 -/
def St (μ0 μ : qM) : Prop := Safe μ ∧ ∀ c i, (c < 1 ∨ 8 < c) → μ c i = μ0 c i
theorem St_u {μ0 μ : qM} {c i v : Int} (h : St μ0 μ) (h1 : 1 ≤ c) (h2 : c ≤ 8) (h3 : c = 1 → i = 2 → 0 ≤ v ∧ v ≤ 300) (h4 : c = 3 → i = 5 → 0 ≤ v ∧ v ≤ 6) : St μ0 (qu μ c i v) := by
  refine ⟨Safe_u h.1 ?_ (by omega) (by omega) (by omega) (by omega), fun c' i' hc => by rw [qu_cell (by omega)]; exact h.2 c' i' hc⟩
  unfold sf
  refine ⟨?_, ?_, ?_, ?_, ?_, ?_, ?_, ?_, ?_, ?_, ?_, ?_, ?_, ?_, ?_, ?_, ?_, ?_, ?_, ?_, ?_, ?_, ?_, ?_, ?_, ?_, ?_, ?_, ?_, ?_, ?_⟩ <;> intros <;> omega
theorem qi2c_r (a : Int) : 0 ≤ qi2c a ∧ qi2c a ≤ 65535 := by
  unfold qi2c
  have h1 : ((Int32.ofInt a).toUInt32 % 65536).toInt32.toBitVec.toNat < 65536 := by
    show ((Int32.ofInt a).toUInt32 % 65536).toNat < 65536
    rw [UInt32.toNat_mod]
    exact Nat.mod_lt _ (by decide)
  rw [q_ti (by omega)]
  omega
theorem qi2b_r (a : Int) : -128 ≤ qi2b a ∧ qi2b a ≤ 127 := by
  unfold qi2b
  rw [Int8.toInt_toInt32]
  have h1 := Int8.le_toInt (Int32.ofInt a).toInt8
  have h2 := Int8.toInt_lt (Int32.ofInt a).toInt8
  omega
theorem s52 {μ0 : qM} {d : Nat} {Q : qV → qM → Prop} {μ : qM} {w n : Int} (h : St μ0 μ) (h1 : 1 ≤ n) (h2 : n ≤ 8) (hQ : ∀ μ', St μ0 μ' → Q (.inl 0) μ') : qmw (d + 1) 52 [(.inr (.inr (.inl (1)))), (.inr (.inl (w))), (.inl (n))] μ Q := by
  rw [e52, g52_0, q32_id (by omega) (by omega)]
  refine qdn (-1) (P := fun i => ∀ μ, St μ0 μ → i < 8 → qW d 52 Q 5 [some (.inr (.inr (.inl (1)))), some (.inr (.inl (w))), none, some (.inl (n)), some (.inl (i))] [] μ) (fun i ih hB μ hm h0 => ?_) _ (by omega) _ h (by omega)
  have hl := sa_len hm.1
  rw [g52_5]
  refine ⟨fun _ => hQ _ hm, fun _ => ⟨fun _ => hQ _ hm, fun _ => ⟨qi2c_r _, by omega, ?_⟩⟩⟩
  rw [q32_id (z := i + -1) (by omega) (by omega), q32_id (z := μ 1 2 + 1) (by omega) (by omega)]
  refine ih _ (by omega) (by omega) _ ?_ (by omega)
  refine St_u (St_u hm (by omega) (by omega) (by intros; omega) (by intros; omega)) (by omega) (by omega) (by intros; omega) (by intros; omega)
theorem s55 {d : Nat} {Q : qV → qM → Prop} {μ : qM} {a1 : Int} (h0 : 0 ≤ a1) (h1 : a1 < 300) (hQ : ∀ a, Q (.inl a) μ) : qmw (d + 1) 55 [(.inr (.inr (.inl (1)))), (.inl (a1))] μ Q := by
  rw [e55, g55_0]
  simp only [qb11, qb00, true_and]
  (repeat' with_reducible (first | apply And.intro | intro _))
  all_goals first | omega | exact hQ _
theorem s56 {d : Nat} {Q : qV → qM → Prop} {μ : qM} {a1 : Int} (h0 : 0 ≤ a1) (h1 : a1 < 300) (hQ : ∀ a, Q (.inl a) μ) : qmw (d + 1) 56 [(.inr (.inr (.inl (1)))), (.inl (a1))] μ Q := by
  rw [e56, g56_0]
  simp only [qb11, qb00, true_and]
  (repeat' with_reducible (first | apply And.intro | intro _))
  all_goals first | omega | exact hQ _
theorem s54 {d : Nat} {Q : qV → qM → Prop} {μ : qM} {a1 : Int} (hS : Safe μ) (h0 : 0 ≤ a1) (h1 : a1 < μ 1 2) (hQ : ∀ a, a1 < a → a ≤ μ 1 2 → Q (.inl a) μ) : qmw (d + 2) 54 [(.inr (.inr (.inl (1)))), (.inl (a1))] μ Q := by
  have hl := sa_len hS
  rw [e54, g54_0]
  refine s55 h0 (by omega) (fun a => ?_)
  rw [g54_9, q32_id (z := a1 + 1) (by omega) (by omega)]
  refine ⟨fun _ => s56 h0 (by omega) (fun b => ?_), fun _ => ?_⟩
  · rw [g54_39]
    refine ⟨fun _ => hQ _ (by omega) (by omega), fun _ => ?_⟩
    refine qup (μ 1 2) (P := fun i => a1 < i → qW (d + 1) 54 Q 42 [some (.inr (.inr (.inl (1)))), some (.inl (a1)), some (.inl (i))] [] μ) (fun i ih hB h3 => ?_) _ (by omega) (by omega)
    rw [g54_42]
    refine ⟨fun _ => hQ _ (by omega) (by omega), fun _ => s56 (by omega) (by omega) (fun e => ?_)⟩
    rw [g54_55, q32_id (by omega) (by omega)]
    exact ⟨fun _ => hQ _ (by omega) (by omega), fun _ => ih _ (by omega) (by omega) (by omega)⟩
  · refine qup (μ 1 2) (P := fun i => a1 < i → qW (d + 1) 54 Q 12 [some (.inr (.inr (.inl (1)))), some (.inl (a1)), some (.inl (i))] [] μ) (fun i ih hB h3 => ?_) _ (by omega) (by omega)
    rw [g54_12]
    refine ⟨fun _ => hQ _ (by omega) (by omega), fun _ => s55 (by omega) (by omega) (fun e => ?_)⟩
    rw [g54_25, q32_id (by omega) (by omega)]
    exact ⟨fun _ => hQ _ (by omega) (by omega), fun _ => ih _ (by omega) (by omega) (by omega)⟩
theorem s59 {d : Nat} {Q : qV → qM → Prop} {μ : qM} {a1 a2 : Int} (h0 : 0 ≤ a1) (h1 : a1 < a2) (h2 : a2 ≤ 300) (hQ : ∀ a, Q (.inl a) μ) : qmw (d + 2) 59 [(.inr (.inr (.inl (1)))), (.inl (a1)), (.inl (a2))] μ Q := by
  have key : ∀ (a3 b : Int), qW (d + 1) 59 Q 29 [some (.inr (.inr (.inl (1)))), some (.inl (a1)), some (.inl (a2)), some (.inl (a3)), none, none] [(.inl (b))] μ := fun a3 b => by
    rw [g59_29]
    refine ⟨fun _ => hQ _, fun _ => ⟨fun _ => hQ _, fun _ => ⟨fun _ => ?_, fun _ => hQ _⟩⟩⟩
    refine qup a2 (P := fun i => ∀ a4, a1 ≤ i → qW (d + 1) 59 Q 51 [some (.inr (.inr (.inl (1)))), some (.inl (a1)), some (.inl (a2)), some (.inl (a3)), some (.inl (a4)), some (.inl (i))] [] μ) (fun i ih hB a4 h3 => ?_) _ (by omega) _ (by omega)
    rw [g59_51, q32_id (z := i + 1) (by omega) (by omega)]
    exact ⟨fun _ => hQ _, fun _ => ⟨by omega, ih _ (by omega) (by omega) _ (by omega)⟩⟩
  rw [e59, g59_0]
  exact ⟨by omega, fun _ => s56 h0 (by omega) (fun b => key _ _), fun _ => ⟨fun _ => s56 h0 (by omega) (fun b => key _ _), fun _ => s56 h0 (by omega) (fun b => key _ _)⟩⟩
theorem s58 {μ0 : qM} {d : Nat} {Q : qV → qM → Prop} {μ : qM} {c a2 a3 a4 a5 : Int} (h : St μ0 μ) (hc1 : 4 ≤ c) (hc2 : c ≤ 8) (h0 : 0 ≤ a2) (h1 : a2 < a3) (h2 : a3 ≤ 300) (hQ : ∀ a μ', St μ0 μ' → 0 ≤ a → a ≤ 1 → μ' 3 5 = μ 3 5 → μ' 1 2 = μ 1 2 → Q (.inl a) μ') : qmw (d + 3) 58 [(.inr (.inr (.inl (1)))), (.inr (.inr (.inl (c)))), (.inl (a2)), (.inl (a3)), (.inl (a4)), (.inl (a5))] μ Q := by
  have hq : qty c = 100 ∧ qal c = 6 := by
    rcases (show c = 4 ∨ c = 5 ∨ c = 6 ∨ c = 7 ∨ c = 8 by omega) with rfl | rfl | rfl | rfl | rfl <;> decide +kernel
  have hd := sa_dsz h.1
  rw [e58, g58_0]
  refine s59 h0 h1 h2 (fun v => ?_)
  rw [g58_6, E104, g58_22, qbr]
  simp only [hq, qif_r, qb11, qb00, true_and]
  refine ⟨fun _ => hQ _ _ h (by omega) (by omega) rfl rfl, fun _ => ⟨fun _ => hQ _ _ h (by omega) (by omega) rfl rfl, fun _ => ?_⟩⟩
  refine (qif_t (by decide)).mpr ⟨fun _ => ⟨by omega, hQ _ _ ?_ (by omega) (by omega) (qu_cell (by omega) _) (qu_cell (by omega) _)⟩, fun _ => hQ _ _ h (by omega) (by omega) rfl rfl⟩
  exact St_u h (by omega) (by omega) (by intros; omega) (by intros; omega)
/-! Strings -/
theorem qsl4 : ∀ i, i < 6 → qshr ((qsl.getD i []).length : Int) 0 = ((qsl.getD i []).length : Int) := by decide +kernel
theorem E183 {d : Nat} {Q : qV → qM → Prop} {μ : qM} {k : Nat} (h1 : 10 ≤ k) (h2 : k < 16) : qmw (d + 2) 183 [(.inr (.inr (.inr k)))] μ Q = Q (.inl ((qsl.getD (k - 10) []).length : Int)) μ := by
  have h3 : ¬ k = 3 := by omega
  have h4 : k + 10 - 20 = k - 10 := by omega
  have h5 : 20 ≤ k + 10 ∧ k + 10 < 26 := by omega
  have e1 : ((1 : Int) = 0) = False := by simp
  rw [e183 ⟨h1, h2⟩, g183_0, e185 ⟨h1, h2⟩, g185_0]
  simp only [h3, h4, h5, h1, h2, g183_9, qsl4 (k - 10) (by omega)]
  simp
theorem E188 {d : Nat} {Q : qV → qM → Prop} {μ : qM} {k : Nat} {a : Int} (h1 : 20 ≤ k) (h2 : k < 26) (h3 : 0 ≤ a) (h4 : a < ((qsl.getD (k - 20) []).length : Int)) : qmw (d + 3) 188 [(.inr (.inr (.inr k))), (.inl (a))] μ Q = Q (.inl (qi2c (qand (((qsl.getD (k - 20) []).getD a.toNat 0).toInt) 255))) μ := by
  have h5 : ¬ k = 3 := by omega
  have h6 : ¬ k = 0 := by omega
  have h7 := qi2c_r (qand (((qsl.getD (k - 20) []).getD a.toNat 0).toInt) 255)
  have h8 : ¬ a < 0 := by omega
  have h9 : ¬ ((qsl.getD (k - 20) []).length : Int) ≤ a := by omega
  rw [e188, g188_0, e187, g187_0, e189, g189_0]
  simp only [g187_8, g188_6, h1, h2, h3, h4, h5, h6, h7, h8, h9, and_self, true_and, false_and, false_or, not_false_eq_true, forall_const, false_implies, and_true, true_implies]
theorem E184 {d : Nat} {Q : qV → qM → Prop} {μ : qM} {k : Nat} {a : Int} (h1 : 10 ≤ k) (h2 : k < 16) (h3 : 0 ≤ a) (h4 : a < ((qsl.getD (k - 10) []).length : Int)) : qmw (d + 4) 184 [(.inr (.inr (.inr k))), (.inl (a))] μ Q = Q (.inl (qi2c (qand (((qsl.getD (k - 10) []).getD a.toNat 0).toInt) 255))) μ := by
  have h5 : ¬ k = 3 := by omega
  have e1 : k + 10 - 20 = k - 10 := by omega
  have h7 := qi2c_r (qand (((qsl.getD (k - 10) []).getD a.toNat 0).toInt) 255)
  have e10 : ((1 : Int) = 0) = False := by simp
  have e00 : ((0 : Int) = 0) = True := by simp
  have h8 := E188 (d := d) (Q := fun v ν => qW (d + 3) 184 Q 15 [some (.inr (.inr (.inr k))), some (.inl (a))] (v :: []) ν) (μ := μ) (k := k + 10) (a := a) (by omega) (by omega) h3 (by rw [e1]; exact h4)
  rw [e184 ⟨h1, h2⟩, g184_0, e186 ⟨h1, h2⟩, g186_0]
  simp only [g184_4, h1, h2, h5, qb11, qb00, e10, e00, h8, g184_15, e1, h7, not_false_eq_true, not_true_eq_false, true_and, and_self, false_implies, true_implies, forall_const, implies_true, and_true]
theorem s61 {d : Nat} {Q : qV → qM → Prop} {μ : qM} {k : Nat} {a2 a3 : Int} (hk1 : 10 ≤ k) (hk2 : k < 16) (h0 : 0 ≤ a2) (h1 : a2 < a3) (h2 : a3 ≤ 300) (hQ : ∀ a, 0 ≤ a → a ≤ 1 → Q (.inl a) μ) : qmw (d + 5) 61 [(.inr (.inr (.inl (1)))), (.inr (.inr (.inr k))), (.inl (a2)), (.inl (a3))] μ Q := by
  have h3 : ¬ k = 3 := by omega
  rw [e61, g61_0, E183 hk1 hk2]
  refine ⟨h3, ?_⟩
  rw [g61_4, q32_id (by omega) (by omega)]
  simp only [qb00, true_and]
  refine ⟨fun h4 => ?_, fun _ => hQ _ (by omega) (by omega)⟩
  refine qup a3 (P := fun i => a2 ≤ i → qW (d + 4) 61 Q 15 [some (.inr (.inr (.inl (1)))), some (.inr (.inr (.inr k))), some (.inl (a2)), some (.inl (a3)), some (.inl (i))] [] μ) (fun i ih hB h5 => ?_) _ (by omega) (by omega)
  rw [g61_15]
  simp only [qb11, true_and]
  refine ⟨fun _ => hQ _ (by omega) (by omega), fun h6 => ⟨by omega, h3, ?_⟩⟩
  rw [q32_id (by omega) (by omega), E184 hk1 hk2 (by omega) (by omega), g61_36, q32_id (by omega) (by omega)]
  simp only [qb00, true_and]
  exact ⟨fun _ => ih _ (by omega) (by omega) (by omega), fun _ => hQ _ (by omega) (by omega)⟩
theorem s60 {d : Nat} {Q : qV → qM → Prop} {μ : qM} {a0 : Int} (hQ : ∀ k : Nat, 10 ≤ k → k < 16 → Q (.inr (.inr (.inr k))) μ) : qmw (d + 1) 60 [(.inl (a0))] μ Q := by
  rw [e60, g60_0]
  (repeat' with_reducible (first | apply And.intro | intro _))
  all_goals first | decide | exact hQ _ (by decide) (by decide) | trivial
theorem s57 {μ0 : qM} {d : Nat} {Q : qV → qM → Prop} {μ : qM} {a1 a2 a3 : Int} (h : St μ0 μ) (h0 : 0 ≤ a2) (h1 : a2 < a3) (h2 : a3 ≤ 300) (hQ : ∀ a μ', St μ0 μ' → μ' 3 5 = μ 3 5 → μ' 1 2 = μ 1 2 → (¬ a = 0 → μ 3 5 < 6) → Q (.inl a) μ') : qmw (d + 6) 57 [(.inr (.inr (.inl (1)))), (.inl (a1)), (.inl (a2)), (.inl (a3))] μ Q := by
  have hd := sa_dsz h.1
  have key : μ 3 5 < 6 → qmw (d + 5) 60 [(.inl (a1))] μ (fun v ν => qW (d + 5) 57 Q 181 [some (.inr (.inr (.inl (1)))), some (.inl (a1)), some (.inl (a2)), some (.inl (a3)), some (.inl (μ 3 5))] (v :: [(.inr (.inr (.inl (1))))]) ν) := fun h3 => by
    refine s60 (fun k hk1 hk2 => ?_)
    rw [g57_181]
    refine s61 hk1 hk2 h0 h1 h2 (fun a ha1 ha2 => ?_)
    rw [g57_186]
    exact ⟨⟨ha1, ha2⟩, hQ _ _ h rfl rfl (fun _ => h3)⟩
  rw [e57, g57_0]
  simp only [qb00, true_and]
  refine ⟨fun h3 => ⟨fun _ => key h3, fun _ => ⟨fun _ => ⟨by rw [q32_id (by omega) (by omega)]; omega, s58 h (by omega) (by omega) h0 h1 h2 (fun a μ' hm ha1 ha2 e1 e2 => ?_)⟩, fun _ => s58 h (by omega) (by omega) h0 h1 h2 (fun a μ' hm ha1 ha2 e1 e2 => ?_)⟩, fun _ => key h3, fun _ => s58 h (by omega) (by omega) h0 h1 h2 (fun a μ' hm ha1 ha2 e1 e2 => ?_), fun _ => key h3, fun _ => s58 h (by omega) (by omega) h0 h1 h2 (fun a μ' hm ha1 ha2 e1 e2 => ?_), fun _ => key h3, fun _ => s58 h (by omega) (by omega) h0 h1 h2 (fun a μ' hm ha1 ha2 e1 e2 => ?_), fun _ => key h3, fun _ => s58 h (by omega) (by omega) h0 h1 h2 (fun a μ' hm ha1 ha2 e1 e2 => ?_), trivial⟩, fun _ => hQ _ _ h rfl rfl (fun h9 => absurd rfl h9)⟩
  all_goals
    first | rw [g57_107] | rw [g57_124] | rw [g57_141] | rw [g57_158] | rw [g57_175]
    exact ⟨⟨ha1, ha2⟩, hQ _ _ hm e1 e2 (fun _ => h3)⟩
theorem s53 {μ0 : qM} {d : Nat} {Q : qV → qM → Prop} {μ : qM} (h : St μ0 μ) (hQ : ∀ a μ', St μ0 μ' → μ' 1 2 = μ 1 2 → Q (.inl a) μ') : qmw (d + 7) 53 [(.inr (.inr (.inl (1))))] μ Q := by
  have hl := sa_len h.1
  rw [e53, g53_0]
  refine qup (μ 1 2) (P := fun i => ∀ (a1 a2 : Int) (ν : qM), St μ0 ν → ν 1 2 = μ 1 2 → 0 ≤ i → qW (d + 6) 53 Q 14 [some (.inr (.inr (.inl (1)))), some (.inl (a1)), some (.inl (a2)), some (.inl (i))] [] ν) (fun i ih hB a1 a2 ν hm e1 h0 => ?_) 0 (by omega) _ _ _ (St_u h (by omega) (by omega) (by intros; omega) (by intros; omega)) (qu_cell (by omega) _) (by omega)
  have hd := sa_dsz hm.1
  rw [g53_14]
  refine ⟨fun _ => ⟨fun _ => hQ _ _ hm e1, fun _ => hQ _ _ hm e1⟩, fun h3 => ⟨fun _ => ?_, fun _ => ⟨by omega, fun _ => s54 hm.1 h0 h3 (fun e he1 he2 => ?_), fun _ => ?_⟩⟩⟩
  · rw [q32_id (by omega) (by omega)]
    exact ih _ (by omega) (by omega) _ _ _ hm e1 (by omega)
  · rw [g53_46]
    refine s57 hm h0 he1 (by omega) (fun v μ' hm' e2 e3 hv => ?_)
    rw [g53_54, q32_id (z := i + 1) (by omega) (by omega)]
    refine ⟨fun h5 => ⟨fun _ => ih _ (by omega) (by omega) _ _ _ hm' (by omega) (by omega), fun _ => ?_⟩, fun _ => hQ _ _ hm' (by omega)⟩
    have := hv h5
    rw [q32_id (z := μ' 3 5 + 1) (by omega) (by omega)]
    exact ih _ (by omega) (by omega) _ _ _ (St_u hm' (by omega) (by omega) (by intros; omega) (by intros; omega)) (by rw [qu_cell (by omega)]; omega) (by omega)
  · rw [q32_id (by omega) (by omega)]
    exact ih _ (by omega) (by omega) _ _ _ hm e1 (by omega)
