/-! THE REFERENCE: text and rules -/
theorem s122 {d : Nat} {Q : qV → qM → Prop} {μ : qM} {a0 a1 a2 a3 : Int} (hQ : ∀ w, Q (.inr (.inl w)) μ) : qmw (d + 2) 122 [(.inl (a0)), (.inl (a1)), (.inl (a2)), (.inl (a3))] μ Q := by
  simp only [e122, g122_0, e121, g121_0, g122_5, g122_9, g122_13, g122_17]
  exact hQ _
theorem s123 {d : Nat} {Q : qV → qM → Prop} {μ : qM} {a1 a2 : Int} (h0 : 0 ≤ a1) (h1 : a2 ≤ 300) (hQ : ∀ a, Q (.inl a) μ) : qmw (d + 3) 123 [(.inr (.inr (.inl (170)))), (.inl (a1)), (.inl (a2))] μ Q := by
  rw [e123, g123_0]
  have key : ∀ w3 a5, qmw (d + 2) 122 [(.inl (102)), (.inl (114)), (.inl (111)), (.inl (109))] μ (fun v ν => qW (d + 2) 123 Q 53 [some (.inr (.inr (.inl (170)))), some (.inl (a1)), some (.inl (a2)), some (.inr (.inl (w3))), none, some (.inl (a5))] (v :: [(.inr (.inl (w3)))]) ν) := fun w3 a5 => by
    have k4 : ∀ a5, qmw (d + 2) 122 [(.inl (116)), (.inl (97)), (.inl (107)), (.inl (101))] μ (fun v ν => qW (d + 2) 123 Q 125 [some (.inr (.inr (.inl (170)))), some (.inl (a1)), some (.inl (a2)), some (.inr (.inl (w3))), none, some (.inl (a5))] (v :: [(.inr (.inl (w3)))]) ν) := fun a5 => s122 (fun w => by
      rw [g123_125]
      exact ⟨fun _ => ⟨fun _ => hQ _, fun _ => hQ _⟩, fun _ => ⟨fun _ => hQ _, fun _ => hQ _⟩⟩)
    have k3 : ∀ a5, qmw (d + 2) 122 [(.inl (102)), (.inl (114)), (.inl (101)), (.inl (101))] μ (fun v ν => qW (d + 2) 123 Q 101 [some (.inr (.inr (.inl (170)))), some (.inl (a1)), some (.inl (a2)), some (.inr (.inl (w3))), none, some (.inl (a5))] (v :: [(.inr (.inl (w3)))]) ν) := fun a5 => s122 (fun w => by
      rw [g123_101]
      exact ⟨fun _ => k4 _, fun _ => k4 _⟩)
    have k2 : ∀ a5, qmw (d + 2) 122 [(.inl (98)), (.inl (97)), (.inl (115)), (.inl (101))] μ (fun v ν => qW (d + 2) 123 Q 77 [some (.inr (.inr (.inl (170)))), some (.inl (a1)), some (.inl (a2)), some (.inr (.inl (w3))), none, some (.inl (a5))] (v :: [(.inr (.inl (w3)))]) ν) := fun a5 => s122 (fun w => by
      rw [g123_77]
      exact ⟨fun _ => k3 _, fun _ => k3 _⟩)
    refine s122 (fun w => ?_)
    rw [g123_53]
    exact ⟨fun _ => k2 _, fun _ => k2 _⟩
  by_cases hc : a1 ≤ a2
  · refine qup a2 (P := fun a5 => ∀ w3, a1 ≤ a5 → qW (d + 2) 123 Q 5 [some (.inr (.inr (.inl (170)))), some (.inl (a1)), some (.inl (a2)), some (.inr (.inl (w3))), none, some (.inl (a5))] [] μ) (fun a5 ih hB w3 h5 => ?_) _ hc _ (by omega)
    rw [g123_5, e121, g121_0, g123_30, q32_id (z := a5 + 1) (by omega) (by omega)]
    exact ⟨fun _ => key _ _, fun _ => ⟨fun _ => key _ _, fun _ => ⟨by omega, ih _ (by omega) (by omega) _ (by omega)⟩⟩⟩
  · rw [g123_5]
    exact ⟨fun _ => key _ _, fun q => absurd q (by omega)⟩
theorem s120 {d : Nat} {Q : qV → qM → Prop} {μ : qM} (hS : Safe μ) (h0 : 0 ≤ μ 170 10) (hQ : ∀ a, (a = -1 ∨ μ 170 10 < μ 170 3) → Q (.inl a) μ) : qmw (d + 1) 120 [(.inr (.inr (.inl (170))))] μ Q := by
  have ht := sa_typed hS
  rw [e120, g120_0]
  exact ⟨fun _ => hQ _ (Or.inl rfl), fun q => ⟨by omega, hQ _ (Or.inr q)⟩⟩
/-- while the text is read -/
def Sx (μ0 μ : qM) : Prop := Sm μ0 μ ∧ μ 170 14 = μ0 170 14 ∧ 0 ≤ μ 170 10 ∧ μ 170 10 ≤ μ0 170 3
theorem Sx_3 {μ0 μ : qM} (h : Sx μ0 μ) : μ 170 3 = μ0 170 3 := h.1.2 _ _ (by omega)
theorem Sx_u {μ0 μ : qM} {i v : Int} (h : Sx μ0 μ) (h1 : 11 ≤ i) (h2 : i ≤ 13) : Sx μ0 (qu μ 170 i v) := by
  refine ⟨Sm_u h.1 (by omega) (by omega), ?_, ?_⟩
  · rw [qu_ne (by omega)]
    exact h.2.1
  · rw [qu_ne (by omega)]
    exact h.2.2
theorem Sx_at {μ0 μ : qM} {v : Int} (h : Sx μ0 μ) (h1 : 0 ≤ v) (h2 : v ≤ μ0 170 3) : Sx μ0 (qu μ 170 10 v) := by
  refine ⟨Sm_u h.1 (by omega) (by omega), ?_, ?_⟩
  · rw [qu_ne (by omega)]
    exact h.2.1
  · rw [qu_same]
    exact ⟨h1, h2⟩
theorem s124 {μ0 : qM} {d : Nat} {Q : qV → qM → Prop} {μ : qM} (h : Sx μ0 μ) (hQ : ∀ a μ', Sx μ0 μ' → 0 ≤ μ' 170 11 → Q (.inl a) μ') : qmw (d + 5) 124 [(.inr (.inr (.inl (170))))] μ Q := by
  have ht : 0 ≤ μ0 170 3 ∧ μ0 170 3 ≤ 300 := by
    have q := sa_typed h.1.1
    rw [Sx_3 h] at q
    exact q
  rw [e124]
  -- the words
  have kw : ∀ (a1 n : Int), 0 ≤ n → n ≤ μ0 170 3 → ∀ ν, Sx μ0 ν → 0 ≤ ν 170 11 → ν 170 10 = n → qW (d + 4) 124 Q 63 [some (.inr (.inr (.inl (170)))), some (.inl (a1))] [] ν := fun a1 n hn0 hn => by
    refine qup (μ0 170 3) (P := fun n => 0 ≤ n → ∀ ν, Sx μ0 ν → 0 ≤ ν 170 11 → ν 170 10 = n → qW (d + 4) 124 Q 63 [some (.inr (.inr (.inl (170)))), some (.inl (a1))] [] ν) (fun n ih hB hn0 ν hm hs e => ?_) n hn hn0
    have e3 := Sx_3 hm
    have ha := hm.2.2
    rw [g124_63]
    refine s120 hm.1.1 ha.1 (fun a hc => ?_)
    rw [g124_67, E117, g124_74, qbr2]
    refine ⟨fun _ => s123 hs (by omega) (fun b => ?_), fun q => ?_⟩
    · rw [g124_103]
      have w : ∀ x, Q (.inl 0) (qu (qu ν 170 13 b) 170 12 x) := fun x => hQ _ _ (Sx_u (Sx_u hm (by omega) (by omega)) (by omega) (by omega)) (by rw [qu_ne (by omega), qu_ne (by omega)]; exact hs)
      exact ⟨fun _ => w _, fun _ => w _⟩
    · rw [q32_id (by omega) (by omega)]
      exact ih (ν 170 10 + 1) (by omega) (by omega) (by omega) _ (Sx_at hm (by omega) (by omega)) (by rw [qu_ne (by omega)]; exact hs) (by rw [qu_same])
  -- the numbers
  have kn : ∀ (a1 n : Int), 0 ≤ n → n ≤ μ0 170 3 → ∀ ν, Sx μ0 ν → 0 ≤ ν 170 11 → ν 170 10 = n → qW (d + 4) 124 Q 138 [some (.inr (.inr (.inl (170)))), some (.inl (a1))] [] ν := fun a1 n hn0 hn => by
    refine qup (μ0 170 3) (P := fun n => 0 ≤ n → ∀ ν, Sx μ0 ν → 0 ≤ ν 170 11 → ν 170 10 = n → qW (d + 4) 124 Q 138 [some (.inr (.inr (.inl (170)))), some (.inl (a1))] [] ν) (fun n ih hB hn0 ν hm hs e => ?_) n hn hn0
    have e3 := Sx_3 hm
    have ha := hm.2.2
    rw [g124_138]
    refine s120 hm.1.1 ha.1 (fun a hc => ?_)
    have w : ∀ x, Q (.inl 0) (qu ν 170 12 x) := fun x => hQ _ _ (Sx_u hm (by omega) (by omega)) (by rw [qu_ne (by omega)]; exact hs)
    have nx : ∀ x, ν 170 10 < ν 170 3 → qW (d + 4) 124 Q 138 [some (.inr (.inr (.inl (170)))), some (.inl (a1))] [] (qu (qu ν 170 13 x) 170 10 (q32 (ν 170 10 + 1))) := fun x q => by
      rw [q32_id (by omega) (by omega)]
      exact ih (ν 170 10 + 1) (by omega) (by omega) (by omega) _ (Sx_at (Sx_u hm (by omega) (by omega)) (by omega) (by omega)) (by rw [qu_ne (by omega), qu_ne (by omega)]; exact hs) (by rw [qu_same])
    clear ih
    rw [g124_142, E117, g124_149, qbr2]
    refine ⟨fun _ => ⟨fun _ => w _, fun _ => ⟨fun _ => w _, fun _ => ⟨fun _ => w _, fun _ => w _⟩⟩⟩, fun q => ?_⟩
    have q2 : ν 170 10 < ν 170 3 := by omega
    refine ⟨fun _ => s120 hm.1.1 ha.1 (fun b _ => ?_), fun _ => nx _ q2⟩
    rw [g124_181]
    exact nx _ q2
  have key : ∀ n, 0 ≤ n → n ≤ μ0 170 3 → ∀ ν, Sx μ0 ν → ν 170 10 = n → qW (d + 4) 124 Q 0 [some (.inr (.inr (.inl (170)))), none] [] ν := fun n hn0 hn => by
    refine qup (μ0 170 3) (P := fun n => 0 ≤ n → ∀ ν, Sx μ0 ν → ν 170 10 = n → qW (d + 4) 124 Q 0 [some (.inr (.inr (.inl (170)))), none] [] ν) (fun n ih hB hn0 ν hm e => ?_) n hn hn0
    have e3 := Sx_3 hm
    have ha := hm.2.2
    rw [g124_0]
    refine s120 hm.1.1 ha.1 (fun a hc => ?_)
    rw [g124_4]
    refine ⟨fun _ => ?_, fun q => ?_⟩
    · clear ih
      have hm2 : Sx μ0 (qu (qu ν 170 11 (ν 170 10)) 170 13 0) := Sx_u (Sx_u hm (by omega) (by omega)) (by omega) (by omega)
      have hs2 : 0 ≤ (qu (qu ν 170 11 (ν 170 10)) 170 13 0) 170 11 := by
        rw [qu_ne (by omega), qu_same]
        exact ha.1
      generalize qu (qu ν 170 11 (ν 170 10)) 170 13 0 = ν2 at hm2 hs2
      have e32 := Sx_3 hm2
      have ha2 := hm2.2.2
      refine s120 hm2.1.1 ha2.1 (fun b hc2 => ?_)
      rw [g124_39]
      refine ⟨fun q => ?_, fun _ => hQ _ _ (Sx_u hm2 (by omega) (by omega)) (by rw [qu_ne (by omega)]; exact hs2)⟩
      rw [E117, g124_60, qbr2]
      refine ⟨fun _ => ?_, fun _ => kw _ _ ha2.1 ha2.2 _ hm2 hs2 rfl⟩
      rw [E117, g124_135, qbr2, q32_id (by omega) (by omega)]
      have w : ∀ x y, Q (.inl 0) (qu (qu (qu ν2 170 10 (ν2 170 10 + 1)) 170 13 x) 170 12 y) := fun x y => hQ _ _ (Sx_u (Sx_u (Sx_at hm2 (by omega) (by omega)) (by omega) (by omega)) (by omega) (by omega)) (by rw [qu_ne (by omega), qu_ne (by omega), qu_ne (by omega)]; exact hs2)
      exact ⟨fun _ => ⟨fun _ => w _ _, fun _ => ⟨fun _ => w _ _, fun _ => w _ _⟩⟩, fun _ => kn _ _ ha2.1 ha2.2 _ hm2 hs2 rfl⟩
    · rw [q32_id (by omega) (by omega)]
      exact ih (ν 170 10 + 1) (by omega) (by omega) (by omega) _ (Sx_at hm (by omega) (by omega)) (by rw [qu_same])
  exact key _ h.2.2.1 h.2.2.2 _ h rfl
/-- between words: what has been read, and where the first fault is -/
def Sy (μ0 μ : qM) : Prop := Sm μ0 μ ∧ (0 ≤ μ 170 10 ∧ μ 170 10 ≤ μ0 170 3) ∧ 0 ≤ μ 170 11
theorem Sy_x {μ0 μ μ' : qM} (h : Sm μ0 μ) (h2 : Sx μ μ') (h3 : 0 ≤ μ' 170 11) : Sy μ0 μ' := ⟨Sm_tr h h2.1, by rw [← h.2 170 3 (by omega)]; exact h2.2.2, h3⟩
theorem s125 {μ0 : qM} {d : Nat} {Q : qV → qM → Prop} {μ : qM} {a1 : Int} (h : Sy μ0 μ) (hQ : ∀ μ', Sy μ0 μ' → (μ' 170 14 = -9 → μ 170 14 = -9 ∧ ¬ a1 = 0) → Q (.inl (μ 170 13)) μ') : qmw (d + 6) 125 [(.inr (.inr (.inl (170)))), (.inl (a1))] μ Q := by
  rw [e125, g125_0]
  have e3 : μ 170 3 = μ0 170 3 := h.1.2 _ _ (by omega)
  refine ⟨fun q => hQ _ h (fun q2 => absurd q2 q), fun q => ⟨fun _ => hQ _ ?_ ?_, fun q3 => s124 (μ0 := μ) ⟨Sm_rf h.1.1, rfl, by rw [e3]; exact h.2.1⟩ (fun a μ1 h1 hs => ?_)⟩⟩
  · refine ⟨Sm_u h.1 (by omega) (by omega), ?_, ?_⟩
    · rw [qu_ne (by omega)]
      exact h.2.1
    · rw [qu_ne (by omega)]
      exact h.2.2
  · intro q2
    rw [qu_same] at q2
    have := h.2.2
    omega
  · rw [g125_22]
    exact hQ _ (Sy_x h.1 h1 hs) (fun _ => ⟨q, q3⟩)
theorem s126 {μ0 : qM} {d : Nat} {Q : qV → qM → Prop} {μ : qM} {a1 a2 : Int} (h : Sy μ0 μ) (hQ : ∀ a μ', Sy μ0 μ' → (μ' 170 14 = -9 → μ 170 14 = -9 ∧ a1 ≤ a ∧ a ≤ a2) → Q (.inl a) μ') : qmw (d + 7) 126 [(.inr (.inr (.inl (170)))), (.inl (a1)), (.inl (a2))] μ Q := by
  have bad : ∀ (st : List qV), qmw (d + 6) 125 [(.inr (.inr (.inl (170)))), (.inl (0))] μ (fun v ν => qW (d + 6) 126 Q 29 [some (.inr (.inr (.inl (170)))), some (.inl (a1)), some (.inl (a2))] (v :: []) ν) := fun _ => s125 h (fun μ1 h1 f => by
    rw [g126_29]
    exact hQ _ _ h1 (fun q => absurd rfl (f q).2))
  rw [e126, g126_0, E117, g126_18, qbr2]
  refine ⟨fun _ => bad [], fun _ => ⟨fun _ => bad [], fun q => s125 h (fun μ1 h1 f => ?_)⟩⟩
  rw [g126_29]
  exact hQ _ _ h1 (fun q2 => ⟨(f q2).1, q⟩)
theorem s127 {μ0 : qM} {d : Nat} {Q : qV → qM → Prop} {μ : qM} {a1 : Int} (h : Sy μ0 μ) (hQ : ∀ μ', Sy μ0 μ' → (μ' 170 14 = -9 → μ 170 14 = -9) → Q (.inl 0) μ') : qmw (d + 7) 127 [(.inr (.inr (.inl (170)))), (.inl (a1))] μ Q := by
  have k : ∀ x, qmw (d + 6) 125 [(.inr (.inr (.inl (170)))), (.inl (x))] μ (fun v ν => qW (d + 6) 127 Q 25 [some (.inr (.inr (.inl (170)))), some (.inl (a1))] (v :: []) ν) := fun x => s125 h (fun μ1 h1 f => by
    rw [g127_25]
    exact hQ _ h1 (fun q => (f q).1))
  rw [e127, g127_0]
  exact ⟨fun _ => k _, fun _ => ⟨fun _ => k _, fun _ => k _⟩⟩
theorem s128 {μ0 : qM} {d : Nat} {Q : qV → qM → Prop} {μ : qM} {a1 : Int} (h : Sy μ0 μ) (hQ : ∀ μ', Sy μ0 μ' → (μ' 170 14 = -9 → μ 170 14 = -9) → Q (.inl 0) μ') : qmw (d + 7) 128 [(.inr (.inr (.inl (170)))), (.inl (a1))] μ Q := by
  have k : ∀ x, qmw (d + 6) 125 [(.inr (.inr (.inl (170)))), (.inl (x))] μ (fun v ν => qW (d + 6) 128 Q 25 [some (.inr (.inr (.inl (170)))), some (.inl (a1))] (v :: []) ν) := fun x => s125 h (fun μ1 h1 f => by
    rw [g128_25]
    exact hQ _ h1 (fun q => (f q).1))
  rw [e128, g128_0]
  exact ⟨fun _ => k _, fun _ => ⟨fun _ => k _, fun _ => k _⟩⟩
