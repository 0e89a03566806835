/-! THE REFERENCE: debts, letters, counts -/
theorem E159 {d : Nat} {Q : qV → qM → Prop} {μ : qM} {a1 : Int} : qmw (d + 2) 159 [(.inr (.inr (.inl (170)))), (.inl (a1))] μ Q = Q (.inl (if 0 ≤ a1 ∧ a1 ≤ q32 (μ 191 0 - 1) then 1 else 0)) μ := by
  rw [e159, g159_0, E117, g159_13, qb01]
  simp
theorem s160 {μ0 : qM} {d : Nat} {Q : qV → qM → Prop} {μ : qM} {a1 a2 : Int} (h : Sn μ0 μ) (hQ : ∀ a μ', Sn μ0 μ' → Q (.inl a) μ') : qmw (d + 7) 160 [(.inr (.inr (.inl (170)))), (.inl (a1)), (.inl (a2))] μ Q := by
  rw [e160, g160_0, E133, g160_4, qbr2]
  simp only [E117, g160_13, qbr]
  refine ⟨fun _ => hQ _ _ h, fun _ => ⟨fun _ => s148 (Sm_rf h.1) (by omega) (by omega) (fun a μ1 hm => ?_), fun _ => hQ _ _ h⟩⟩
  have h1 := Sn_m h hm
  have hd := sa_mdebts h1.1 0
  rw [g160_28, q32_id (z := μ1 191 0 + 1) (by omega) (by omega)]
  refine ⟨fun _ => ⟨by omega, fun _ => ⟨by omega, by omega, by omega, by omega, by omega, by omega, by omega, by omega, by omega, by omega, by omega, hQ _ _ ?_⟩, fun _ => hQ _ _ h1⟩, fun _ => hQ _ _ h1⟩
  refine Sn_x (Sn_x (Sn_x (Sn_x (Sn_x (Sn_x (Sn_x (Sn_x (Sn_x h1 ?_ ?_ ?_ ?_ ?_ ?_ ?_) ?_ ?_ ?_ ?_ ?_ ?_ ?_) ?_ ?_ ?_ ?_ ?_ ?_ ?_) ?_ ?_ ?_ ?_ ?_ ?_ ?_) ?_ ?_ ?_ ?_ ?_ ?_ ?_) ?_ ?_ ?_ ?_ ?_ ?_ ?_) ?_ ?_ ?_ ?_ ?_ ?_ ?_) ?_ ?_ ?_ ?_ ?_ ?_ ?_) ?_ ?_ ?_ ?_ ?_ ?_ ?_ <;> intros <;> omega
theorem s161 {d : Nat} {Q : qV → qM → Prop} {μ : qM} {a1 a2 a3 : Int} (h0 : 0 ≤ a1) (h1 : a1 < 6) (h2 : 0 ≤ a2) (h3 : a2 < 2) (h4 : 0 ≤ a3) (h5 : a3 ≤ 200) (hQ : ∀ a, Q (.inl a) μ) : qmw (d + 1) 161 [(.inr (.inr (.inl (170)))), (.inl (a1)), (.inl (a2)), (.inl (a3))] μ Q := by
  rw [e161, g161_0, q32_id (z := 2 * a1) (by omega) (by omega), q32_id (z := 2 * a1 + a2) (by omega) (by omega), q32_id (z := 201 * (2 * a1 + a2)) (by omega) (by omega), q32_id (z := 201 * (2 * a1 + a2) + a3) (by omega) (by omega)]
  exact ⟨by omega, hQ _⟩
theorem s163 {μ0 : qM} {d : Nat} {Q : qV → qM → Prop} {μ : qM} {a1 : Int} (h : Sn μ0 μ) (hQ : ∀ a μ', Sn μ0 μ' → Q (.inl a) μ') : qmw (d + 3) 163 [(.inr (.inr (.inl (170)))), (.inl (a1))] μ Q := by
  have hd := sa_mdebts h.1 0
  have hl := sa_mletters h.1 0
  have ht := sa_mtoday h.1
  have hp := sa_mdp h.1 a1
  rw [e163, g163_0, E159, g163_5, qbr, q32_id (z := μ 191 0 - 1) (by omega) (by omega)]
  refine ⟨fun _ => ⟨by omega, fun _ => ⟨by omega, by omega, by omega, by omega, s161 (by omega) (by omega) (by omega) (by omega) (by omega) (by omega) (fun a => ?_)⟩, fun _ => hQ _ _ h⟩, fun _ => hQ _ _ h⟩
  rw [g163_68]
  refine ⟨by omega, by omega, by omega, hQ _ _ ?_⟩
  have e1 : (qu (qu μ 204 (μ 192 0) a1) 205 (μ 192 0) (μ 170 1)) 192 0 = μ 192 0 := by rw [qu_cell (by omega), qu_cell (by omega)]
  rw [e1, q32_id (z := μ 192 0 + 1) (by omega) (by omega)]
  refine Sn_x (Sn_x (Sn_x (Sn_x h ?_ ?_ ?_ ?_ ?_ ?_ ?_) ?_ ?_ ?_ ?_ ?_ ?_ ?_) ?_ ?_ ?_ ?_ ?_ ?_ ?_) ?_ ?_ ?_ ?_ ?_ ?_ ?_ <;> intros <;> omega
theorem s164 {d : Nat} {Q : qV → qM → Prop} {μ : qM} {a1 : Int} (hS : Safe μ) (h0 : 0 ≤ a1) (h1 : a1 < 30) (hQ : ∀ a, Q (.inl a) μ) : qmw (d + 2) 164 [(.inr (.inr (.inl (170)))), (.inl (a1))] μ Q := by
  have ht := sa_mtoday hS
  have hs := sa_msent hS a1
  have hl := sa_mld hS a1
  have hp := sa_mdp hS (μ 204 a1)
  rw [e164, g164_0, q32_id (z := μ 205 a1 + 2) (by omega) (by omega)]
  refine ⟨by omega, fun _ => ⟨by omega, by omega, s161 (by omega) (by omega) (by omega) (by omega) (by omega) (by omega) (fun a => ?_)⟩, fun _ => hQ _⟩
  rw [g164_36]
  exact ⟨by omega, fun _ => hQ _, fun _ => hQ _⟩
theorem s165 {μ0 : qM} {d : Nat} {Q : qV → qM → Prop} {μ : qM} {a1 a2 : Int} (h : Sn μ0 μ) (hQ : ∀ a μ', Sn μ0 μ' → Q (.inl a) μ') : qmw (d + 3) 165 [(.inr (.inr (.inl (170)))), (.inl (a1)), (.inl (a2))] μ Q := by
  have hl := sa_mletters h.1 0
  rw [e165, g165_0, E117, g165_13, qbr2, q32_id (z := μ 192 0 - 1) (by omega) (by omega)]
  simp only [E117, g165_22, qbr, g165_73]
  refine ⟨by omega, fun _ => hQ _ _ h, fun _ => ⟨fun _ => ⟨fun _ => ⟨fun _ => ⟨fun _ => s164 h.1 (by omega) (by omega) (fun a => ?_), fun _ => ⟨by omega, hQ _ _ h⟩⟩, fun _ => ⟨by omega, hQ _ _ h⟩⟩, fun _ => ⟨by omega, hQ _ _ h⟩⟩, fun _ => hQ _ _ h⟩⟩
  rw [g165_73]
  exact hQ _ _ h
theorem s166 {d : Nat} {Q : qV → qM → Prop} {μ : qM} {a1 : Int} (hS : Safe μ) (hQ : ∀ a, Q (.inl a) μ) : qmw (d + 3) 166 [(.inr (.inr (.inl (170)))), (.inl (a1))] μ Q := by
  have hl := sa_mletters hS 0
  rw [e166, g166_0]
  refine qup (μ 192 0) (P := fun a3 => ∀ a2, 0 ≤ a3 → 0 ≤ a2 → a2 ≤ 1 → qW (d + 2) 166 Q 4 [some (.inr (.inr (.inl (170)))), some (.inl (a1)), some (.inl (a2)), some (.inl (a3))] [] μ) (fun a3 ih hB a2 h0 h1 h2 => ?_) 0 (by omega) _ (by omega) (by omega) (by omega)
  rw [g166_4]
  refine ⟨by omega, fun _ => ⟨by omega, hQ _⟩, fun h3 => ?_⟩
  have st : ∀ a2, 0 ≤ a2 → a2 ≤ 1 → qW (d + 2) 166 Q 4 [some (.inr (.inr (.inl (170)))), some (.inl (a1)), some (.inl (a2)), some (.inl (q32 (a3 + 1)))] [] μ := fun a2 q1 q2 => by
    rw [q32_id (z := a3 + 1) (by omega) (by omega)]
    exact ih _ (by omega) (by omega) _ (by omega) q1 q2
  clear ih
  refine ⟨fun _ => st _ (by decide) (by decide), fun _ => ⟨by omega, fun _ => st _ (by decide) (by decide), fun _ => ⟨by omega, fun _ => st _ (by decide) (by decide), fun _ => s164 hS (by omega) (by omega) (fun a => ?_)⟩⟩⟩
  rw [g166_49]
  exact ⟨fun _ => st _ (by decide) (by decide), fun _ => st _ (by decide) (by decide)⟩
theorem s167 {μ0 : qM} {d : Nat} {Q : qV → qM → Prop} {μ : qM} {a1 a2 a3 a4 : Int} (h : Sn μ0 μ) (hQ : ∀ a μ', Sn μ0 μ' → Q (.inl a) μ') : qmw (d + 4) 167 [(.inr (.inr (.inl (170)))), (.inl (a1)), (.inl (a2)), (.inl (a3)), (.inl (a4))] μ Q := by
  have hd := sa_mdebts h.1 0
  rw [e167, g167_0, E133, g167_4, qbr2]
  simp only [E117, g167_15, g167_25, g167_36, qbr2, qbr]
  refine ⟨fun _ => hQ _ _ h, fun _ => ⟨fun _ => hQ _ _ h, fun _ => ⟨fun _ => hQ _ _ h, fun _ => ⟨fun _ => ⟨by omega, ?_⟩, fun _ => hQ _ _ h⟩⟩⟩⟩
  generalize qidiv (q32 (a2 * a3)) a4 = sh
  refine qup (μ 191 0) (P := fun a7 => ∀ (a5 a6 : Int) (o8 : Option qV) (ν : qM), 0 ≤ a7 → Sn μ0 ν → ν 191 0 = μ 191 0 → qW (d + 3) 167 Q 55 [some (.inr (.inr (.inl (170)))), some (.inl (a1)), some (.inl (a2)), some (.inl (a3)), some (.inl (a4)), some (.inl (a5)), some (.inl (a6)), some (.inl (a7)), o8] [] ν) (fun a7 ih hB a5 a6 o8 ν h0 hm e => ?_) 0 (by omega) _ _ _ _ (by omega) h rfl
  rw [g167_55, e]
  refine ⟨by omega, fun _ => hQ _ _ hm, fun h3 => ?_⟩
  have st : ∀ (a5 a6 : Int) (o8 : Option qV) (ν : qM), Sn μ0 ν → ν 191 0 = μ 191 0 → qW (d + 3) 167 Q 55 [some (.inr (.inr (.inl (170)))), some (.inl (a1)), some (.inl (a2)), some (.inl (a3)), some (.inl (a4)), some (.inl (a5)), some (.inl (a6)), some (.inl (q32 (a7 + 1))), o8] [] ν := fun _ _ _ _ q1 q2 => by
    rw [q32_id (z := a7 + 1) (by omega) (by omega)]
    exact ih _ (by omega) (by omega) _ _ _ _ (by omega) q1 q2
  clear ih
  have w : ∀ x y z, Sn μ0 (qu (qu (qu ν 198 a7 x) 199 a7 y) 202 a7 z) := fun x y z => by
    refine Sn_x (Sn_x (Sn_x hm ?_ ?_ ?_ ?_ ?_ ?_ ?_) ?_ ?_ ?_ ?_ ?_ ?_ ?_) ?_ ?_ ?_ ?_ ?_ ?_ ?_ <;> intros <;> omega
  have we : ∀ x y z, (qu (qu (qu ν 198 a7 x) 199 a7 y) 202 a7 z) 191 0 = μ 191 0 := fun x y z => by
    rw [qu_cell (by omega), qu_cell (by omega), qu_cell (by omega)]
    exact e
  refine ⟨by omega, fun _ => st _ _ _ _ hm e, fun _ => s166 hm.1 (fun a => ?_)⟩
  rw [g167_83]
  refine ⟨fun _ => st _ _ _ _ hm e, fun _ => ⟨by omega, fun _ => ⟨by omega, by omega, by omega, by omega, by omega, by omega, by omega, by omega, st _ _ _ _ (w _ _ _) (we _ _ _)⟩, fun _ => ⟨by omega, by omega, by omega, by omega, by omega, by omega, by omega, st _ _ _ _ (w _ _ _) (we _ _ _)⟩⟩⟩
theorem s168 {μ0 : qM} {d : Nat} {Q : qV → qM → Prop} {μ : qM} {a1 : Int} (h : Sn μ0 μ) (hQ : ∀ a μ', Sn μ0 μ' → Q (.inl a) μ') : qmw (d + 3) 168 [(.inr (.inr (.inl (170)))), (.inl (a1))] μ Q := by
  have hd := sa_mdebts h.1 0
  rw [e168, g168_0, E159, g168_5, qbr, q32_id (z := μ 191 0 - 1) (by omega) (by omega)]
  refine ⟨fun _ => ⟨by omega, fun _ => ⟨by omega, by omega, by omega, by omega, by omega, by omega, by omega, by omega, by omega, hQ _ _ ?_⟩, fun _ => hQ _ _ h⟩, fun _ => hQ _ _ h⟩
  refine Sn_x (Sn_x (Sn_x (Sn_x (Sn_x h ?_ ?_ ?_ ?_ ?_ ?_ ?_) ?_ ?_ ?_ ?_ ?_ ?_ ?_) ?_ ?_ ?_ ?_ ?_ ?_ ?_) ?_ ?_ ?_ ?_ ?_ ?_ ?_) ?_ ?_ ?_ ?_ ?_ ?_ ?_ <;> intros <;> omega
theorem s169 {μ0 : qM} {d : Nat} {Q : qV → qM → Prop} {μ : qM} {a1 a2 : Int} (h : Sn μ0 μ) (hQ : ∀ a μ', Sn μ0 μ' → Q (.inl a) μ') : qmw (d + 3) 169 [(.inr (.inr (.inl (170)))), (.inl (a1)), (.inl (a2))] μ Q := by
  have hd := sa_mdebts h.1 0
  rw [e169, g169_0, E159, g169_5, qbr, q32_id (z := μ 191 0 - 1) (by omega) (by omega)]
  refine ⟨fun q => ?_, fun _ => hQ _ _ h⟩
  have hx : 0 ≤ a1 ∧ a1 < 60 := by omega
  exact ⟨fun _ => hQ _ _ h, fun _ => ⟨hx, hQ _ _ h⟩, fun _ => ⟨hx, hQ _ _ h⟩, fun _ => ⟨hx, hQ _ _ h⟩, fun _ => ⟨hx, hQ _ _ h⟩, fun _ => ⟨hx, hQ _ _ h⟩, fun _ => ⟨hx, hQ _ _ h⟩, fun _ => ⟨hx, hQ _ _ h⟩, trivial⟩
theorem s170 {μ0 : qM} {d : Nat} {Q : qV → qM → Prop} {μ : qM} {a1 a2 : Int} (h : Sn μ0 μ) (hQ : ∀ a μ', Sn μ0 μ' → Q (.inl a) μ') : qmw (d + 6) 170 [(.inr (.inr (.inl (170)))), (.inl (a1)), (.inl (a2))] μ Q := by
  have hd := sa_mdebts h.1 0
  have hp := sa_mdp h.1 a1
  rw [e170, g170_0, E159, g170_5, qbr2, q32_id (z := μ 191 0 - 1) (by omega) (by omega)]
  simp only [E130, g170_12, qbr]
  refine ⟨fun _ => hQ _ _ h, fun _ => ⟨fun _ => ⟨by omega, s144 (Sm_rf h.1) (by omega) (by omega) (fun a μ1 hm => ?_)⟩, fun _ => hQ _ _ h⟩⟩
  have h1 := Sn_m h hm
  rw [g170_28, E142, g170_41]
  simp only [E142, g170_61]
  exact ⟨by omega, fun _ => ⟨by omega, fun _ => hQ _ _ h1, fun _ => hQ _ _ h1⟩, fun _ => hQ _ _ h1⟩
theorem s179 {μ0 : qM} {d : Nat} {Q : qV → qM → Prop} {μ : qM} {a1 : Int} (h : Sn μ0 μ) (hQ : ∀ a μ', Sn μ0 μ' → Q (.inl a) μ') : qmw (d + 1) 179 [(.inr (.inr (.inl (170)))), (.inl (a1))] μ Q := by
  have hd := sa_mdebts h.1 0
  have k1 : qW d 179 Q 67 [some (.inr (.inr (.inl (170)))), some (.inl (a1)), some (.inl (0)), some (.inl (0))] [] μ := by
    refine qup 6 (P := fun a3 => ∀ a2, 0 ≤ a3 → qW d 179 Q 67 [some (.inr (.inr (.inl (170)))), some (.inl (a1)), some (.inl (a2)), some (.inl (a3))] [] μ) (fun a3 ih hB a2 h0 => ?_) 0 (by omega) _ (by omega)
    rw [g179_67, q32_id (z := a3 + 1) (by omega) (by omega)]
    exact ⟨fun _ => hQ _ _ h, fun _ => ⟨by omega, ih _ (by omega) (by omega) _ (by omega)⟩⟩
  have k2 : qW d 179 Q 92 [some (.inr (.inr (.inl (170)))), some (.inl (a1)), some (.inl (0)), some (.inl (0))] [] μ := by
    refine qup 60 (P := fun a3 => ∀ a2, 0 ≤ a3 → qW d 179 Q 92 [some (.inr (.inr (.inl (170)))), some (.inl (a1)), some (.inl (a2)), some (.inl (a3))] [] μ) (fun a3 ih hB a2 h0 => ?_) 0 (by omega) _ (by omega)
    rw [g179_92, q32_id (z := a3 + 1) (by omega) (by omega)]
    exact ⟨fun _ => hQ _ _ h, fun _ => ⟨by omega, fun _ => ih _ (by omega) (by omega) _ (by omega), fun _ => ih _ (by omega) (by omega) _ (by omega)⟩⟩
  have k3 : qW d 179 Q 158 [some (.inr (.inr (.inl (170)))), some (.inl (a1)), some (.inl (0)), some (.inl (0))] [] μ := by
    refine qup (μ 191 0) (P := fun a3 => ∀ a2, 0 ≤ a3 → qW d 179 Q 158 [some (.inr (.inr (.inl (170)))), some (.inl (a1)), some (.inl (a2)), some (.inl (a3))] [] μ) (fun a3 ih hB a2 h0 => ?_) 0 (by omega) _ (by omega)
    rw [g179_158, q32_id (z := a3 + 1) (by omega) (by omega)]
    exact ⟨by omega, fun _ => hQ _ _ h, fun _ => ⟨by omega, ih _ (by omega) (by omega) _ (by omega)⟩⟩
  have k4 : qW d 179 Q 187 [some (.inr (.inr (.inl (170)))), some (.inl (a1)), some (.inl (0)), some (.inl (0))] [] μ := by
    refine qup (μ 191 0) (P := fun a3 => ∀ a2, 0 ≤ a3 → qW d 179 Q 187 [some (.inr (.inr (.inl (170)))), some (.inl (a1)), some (.inl (a2)), some (.inl (a3))] [] μ) (fun a3 ih hB a2 h0 => ?_) 0 (by omega) _ (by omega)
    rw [g179_187, q32_id (z := a3 + 1) (by omega) (by omega)]
    exact ⟨by omega, fun _ => hQ _ _ h, fun _ => ⟨by omega, ih _ (by omega) (by omega) _ (by omega)⟩⟩
  rw [e179, g179_0]
  exact ⟨fun _ => hQ _ _ h, fun _ => hQ _ _ h, fun _ => k1, fun _ => k2, fun _ => ⟨by omega, hQ _ _ h⟩, fun _ => ⟨by omega, hQ _ _ h⟩, fun _ => ⟨by omega, hQ _ _ h⟩, fun _ => hQ _ _ h, fun _ => hQ _ _ h, fun _ => k3, fun _ => k4, fun _ => ⟨by omega, hQ _ _ h⟩, trivial⟩
