/-! THE REFERENCE: what it writes on the way (cells 186 .. 190, and the fields of 170 from the tenth on) -/
def Sm (μ0 μ : qM) : Prop := Safe μ ∧ ∀ c i, ¬ ((186 ≤ c ∧ c ≤ 190) ∨ (c = 170 ∧ 10 ≤ i)) → μ c i = μ0 c i
theorem Sm_rf {μ : qM} (h : Safe μ) : Sm μ μ := ⟨h, fun _ _ _ => rfl⟩
theorem Sm_u {μ0 μ : qM} {c i v : Int} (h : Sm μ0 μ) (hc : (186 ≤ c ∧ c ≤ 190) ∨ (c = 170 ∧ 10 ≤ i)) (hv : c = 186 → v = -9 ∨ (0 ≤ v ∧ v ≤ 20)) : Sm μ0 (qu μ c i v) := by
  refine ⟨Safe_u h.1 ?_ (by omega) (by omega) (by omega) (by omega), fun c' i' q => ?_⟩
  · unfold sf
    refine ⟨?_, ?_, ?_, ?_, ?_, ?_, ?_, ?_, ?_, ?_, ?_, ?_, ?_, ?_, ?_, ?_, fun q => hv ?_, ?_, ?_, ?_, ?_, ?_, ?_, ?_, ?_, ?_, ?_, ?_, ?_, ?_, ?_⟩
    all_goals
      clear hv
      intros
      omega
  · rw [qu_ne (by omega)]
    exact h.2 c' i' q
theorem Sr_m {μ0 μ μ' : qM} (h : Sr μ0 μ) (h2 : Sm μ μ') : Sr μ0 μ' := ⟨h2.1, fun c i hc => by
  rw [h2.2 c i (by unfold relv at hc; omega)]
  exact h.2 c i hc⟩
def Sn (μ0 μ : qM) : Prop := Safe μ ∧ ∀ c i, (c < 170 ∨ relv c i) → μ c i = μ0 c i
theorem Sn_rf {μ : qM} (h : Safe μ) : Sn μ μ := ⟨h, fun _ _ _ => rfl⟩
theorem Sn_r {μ0 μ : qM} (h : Sn μ0 μ) : Sr μ0 μ := ⟨h.1, fun c i q => h.2 c i (Or.inr q)⟩
theorem Sn_m {μ0 μ μ' : qM} (h : Sn μ0 μ) (h2 : Sm μ μ') : Sn μ0 μ' := ⟨h2.1, fun c i hc => by
  rw [h2.2 c i (by unfold relv at hc; omega)]
  exact h.2 c i hc⟩
theorem Sn_u {μ0 μ : qM} {c i v : Int} (h : Sn μ0 μ) (hn : ¬ (c < 170 ∨ relv c i)) (hv : sf c i v) (h1 : ¬ c = 182) (h2 : ¬ c = 183) (h3 : ¬ (c = 170 ∧ i = 4)) (h4 : ¬ c = 176) : Sn μ0 (qu μ c i v) := ⟨Safe_u h.1 hv h1 h2 h3 h4, fun c' i' hc => by
  rw [qu_ne (fun q => hn (by rw [← q.1, ← q.2]; exact hc))]
  exact h.2 c' i' hc⟩
theorem Sr0_m {μ0 μ μ' : qM} (h : Sr0 μ0 μ) (h2 : Sm μ μ') : Sr0 μ0 μ' := ⟨h2.1, fun c i hc => by
  rw [h2.2 c i (by unfold relv0 at hc; omega)]
  exact h.2 c i hc⟩
theorem Sr1_m {μ0 μ μ' : qM} (h : Sr1 μ0 μ) (h2 : Sm μ μ') : Sr1 μ0 μ' := ⟨h2.1, fun c i hc => by
  rw [h2.2 c i (by unfold relv1 at hc; omega)]
  exact h.2 c i hc⟩
theorem Sm_tr {μ0 μ μ' : qM} (h : Sm μ0 μ) (h2 : Sm μ μ') : Sm μ0 μ' := ⟨h2.1, fun c i hc => by
  rw [h2.2 c i hc]
  exact h.2 c i hc⟩
theorem E117 {d : Nat} {Q : qV → qM → Prop} {μ : qM} {a0 a1 a2 : Int} : qmw (d + 1) 117 [(.inl (a0)), (.inl (a1)), (.inl (a2))] μ Q = Q (.inl (if a1 ≤ a0 ∧ a0 ≤ a2 then 1 else 0)) μ := by
  rw [e117, g117_0]
  simp only [qb11, qb00, true_and]
  by_cases h1 : a0 < a1
  · simp [h1, Int.not_le.mpr h1]
  · by_cases h2 : a2 < a0
    · simp [h1, h2, Int.not_lt.mp h1, Int.not_le.mpr h2]
    · simp [h1, h2, Int.not_lt.mp h1, Int.not_lt.mp h2]
theorem E130 {d : Nat} {Q : qV → qM → Prop} {μ : qM} {a0 : Int} : qmw (d + 2) 130 [(.inl (a0))] μ Q = Q (.inl (if 0 ≤ a0 ∧ a0 ≤ 200 then 1 else 0)) μ := by
  simp only [e130, g130_0, E117, g130_8, qb01, true_and]
theorem E133 {d : Nat} {Q : qV → qM → Prop} {μ : qM} {a0 : Int} : qmw (d + 2) 133 [(.inl (a0))] μ Q = Q (.inl (if 0 ≤ a0 ∧ a0 ≤ 5 then 1 else 0)) μ := by
  simp only [e133, g133_0, E117, g133_6, qb01, true_and]
theorem E134 {d : Nat} {Q : qV → qM → Prop} {μ : qM} {a0 : Int} : qmw (d + 2) 134 [(.inl (a0))] μ Q = Q (.inl (if 0 ≤ a0 ∧ a0 ≤ 9 then 1 else 0)) μ := by
  simp only [e134, g134_0, E117, g134_7, qb01, true_and]
theorem s136 {d : Nat} {Q : qV → qM → Prop} {μ : qM} {a1 a2 a3 : Int} (hS : Safe μ) (h0 : 0 ≤ a1) (h1 : a1 < 6) (hQ : ∀ a, (a = -9 ∨ (3 * a1 ≤ a ∧ a < 3 * a1 + μ 181 a1)) → Q (.inl a) μ) : qmw (d + 2) 136 [(.inr (.inr (.inl (170)))), (.inl (a1)), (.inl (a2)), (.inl (a3))] μ Q := by
  have hf := sa_mfirms hS a1
  rw [e136, g136_0, q32_id (by omega) (by omega)]
  refine qup (3 * a1 + μ 181 a1) (P := fun i => 3 * a1 ≤ i → qW (d + 1) 136 Q 5 [some (.inr (.inr (.inl (170)))), some (.inl (a1)), some (.inl (a2)), some (.inl (a3)), some (.inl (i))] [] μ) (fun i ih hB hi => ?_) _ (by omega) (by omega)
  have st : i < 3 * a1 + μ 181 a1 → qW (d + 1) 136 Q 5 [some (.inr (.inr (.inl (170)))), some (.inl (a1)), some (.inl (a2)), some (.inl (a3)), some (.inl (i + 1))] [] μ := fun q => ih _ (by omega) (by omega) (by omega)
  clear ih
  rw [g136_5, q32_id (z := 3 * a1) (by omega) (by omega), q32_id (z := 3 * a1 + μ 181 a1) (by omega) (by omega)]
  refine ⟨by omega, fun _ => hQ _ (Or.inl rfl), fun h3 => ?_⟩
  have st2 := st h3
  have q1 := hQ i (Or.inr ⟨hi, h3⟩)
  clear st hQ
  rw [E117, g136_49, q32_id (z := i + 1) (by omega) (by omega)]
  refine ⟨by omega, fun _ => st2, fun _ => ⟨by omega, by omega, fun _ => st2, fun _ => q1⟩⟩
theorem s131 {d : Nat} {Q : qV → qM → Prop} {μ : qM} {a1 a2 : Int} (hS : Safe μ) (hQ : ∀ a, Q (.inl a) μ) : qmw (d + 1) 131 [(.inr (.inr (.inl (170)))), (.inl (a1)), (.inl (a2))] μ Q := by
  have hr := sa_rules hS
  rw [e131, g131_0]
  refine qup (μ 170 4) (P := fun i => ∀ a3, 0 ≤ i → (a3 = -9 ∨ (0 ≤ a3 ∧ a3 < μ 170 4)) → qW d 131 Q 6 [some (.inr (.inr (.inl (170)))), some (.inl (a1)), some (.inl (a2)), some (.inl (a3)), some (.inl (i)), none] [] μ) (fun i ih hB a3 hi h3 => ?_) 0 (by omega) _ (by omega) (Or.inl rfl)
  have st : ∀ b, (b = -9 ∨ (0 ≤ b ∧ b < μ 170 4)) → i < μ 170 4 → qW d 131 Q 6 [some (.inr (.inr (.inl (170)))), some (.inl (a1)), some (.inl (a2)), some (.inl (b)), some (.inl (i + 1)), none] [] μ := fun b hb q => ih _ (by omega) (by omega) _ (by omega) hb
  have hb : ¬ a3 = -9 → 1 ≤ μ 176 a3 := fun q => hS.2.2 a3 (by omega) (by omega)
  clear ih
  rw [g131_6, q32_id (z := i + 1) (by omega) (by omega)]
  refine ⟨fun _ => ⟨fun h4 => ?_, fun _ => hQ _⟩, fun h4 => ⟨by omega, fun _ => st _ h3 h4, fun _ => st _ (Or.inr ⟨hi, h4⟩) h4⟩⟩
  have hb2 := hb h4
  clear hb st
  refine ⟨by omega, fun _ => ⟨by omega, by omega, by omega, by omega, fun _ => hQ _, fun _ => hQ _⟩, fun _ => ⟨by omega, by omega, by omega, by omega, by omega, fun _ => hQ _, fun _ => hQ _⟩⟩
theorem s139 {d : Nat} {Q : qV → qM → Prop} {μ : qM} {a1 a2 a3 : Int} (hS : Safe μ) (h0 : 0 ≤ a1) (h1 : a1 < 6) (h2 : 0 ≤ a2) (h3 : a2 < 10) (hQ : ∀ a, Q (.inl a) μ) : qmw (d + 2) 139 [(.inr (.inr (.inl (170)))), (.inl (a1)), (.inl (a2)), (.inl (a3))] μ Q := by
  rw [e139, g139_0, q32_id (z := 10 * a1) (by omega) (by omega), q32_id (z := 10 * a1 + a2) (by omega) (by omega)]
  refine ⟨by omega, s131 hS (fun a => ?_)⟩
  rw [g139_16]
  exact hQ _
theorem s138 {μ0 : qM} {d : Nat} {Q : qV → qM → Prop} {μ : qM} {a1 a2 : Int} (h : Sm μ0 μ) (h0 : 0 ≤ a1) (h1 : a1 < 6) (hQ : ∀ a μ', Sm μ0 μ' → Q (.inl a) μ') : qmw (d + 3) 138 [(.inr (.inr (.inl (170)))), (.inl (a1)), (.inl (a2))] μ Q := by
  rw [e138, g138_0]
  refine qup 10 (P := fun i => ∀ (o4 : Option qV) (ν : qM), 0 ≤ i → Sm μ0 ν → qW (d + 2) 138 Q 2 [some (.inr (.inr (.inl (170)))), some (.inl (a1)), some (.inl (a2)), some (.inl (i)), o4] [] ν) (fun i ih hB o4 ν hi hm => ?_) 0 (by omega) _ _ (by omega) h
  rw [g138_2, q32_id (z := 10 * a1) (by omega) (by omega), q32_id (z := 10 * a1 + i) (by omega) (by omega), q32_id (z := i + 1) (by omega) (by omega)]
  refine ⟨fun _ => hQ _ _ hm, fun h3 => ⟨by omega, fun _ => ⟨by omega, ?_⟩, fun _ => ⟨by omega, fun _ => ⟨by omega, ?_⟩, fun _ => s136 hm.1 h0 h1 (fun a ha => ?_)⟩⟩⟩
  · exact ih _ (by omega) (by omega) _ _ (by omega) (Sm_u hm (by omega) (by omega))
  · exact ih _ (by omega) (by omega) _ _ (by omega) (Sm_u hm (by omega) (by omega))
  · have hs := sa_slip hm.1 (10 * a1 + i)
    rw [g138_51, q32_id (z := i + 1) (by omega) (by omega)]
    refine ⟨fun _ => ⟨by omega, ?_⟩, fun _ => ⟨by omega, by omega, ?_⟩⟩
    · exact ih _ (by omega) (by omega) _ _ (by omega) (Sm_u hm (by omega) (by omega))
    · exact ih _ (by omega) (by omega) _ _ (by omega) (Sm_u hm (by omega) (fun _ => hs))
theorem s140 {μ0 : qM} {d : Nat} {Q : qV → qM → Prop} {μ : qM} {a1 a2 a3 a4 : Int} (h : Sm μ0 μ) (h0 : 0 ≤ a1) (h1 : a1 < 6) (h2 : 0 ≤ a2) (h3 : a2 < 10) (h4 : 0 ≤ a4) (h5 : a4 ≤ 200) (hQ : ∀ a μ', Sm μ0 μ' → Q (.inl a) μ') : qmw (d + 3) 140 [(.inr (.inr (.inl (170)))), (.inl (a1)), (.inl (a2)), (.inl (a3)), (.inl (a4))] μ Q := by
  have hh := sa_mheld h.1 a2
  have key : ∀ a5 a6, 0 ≤ a5 → a5 ≤ 20 → a6 ≤ 20 → qmw (d + 2) 139 [(.inr (.inr (.inl (170)))), (.inl (a1)), (.inl (a2)), (.inl (a3))] μ (fun v ν => qW (d + 2) 140 Q 54 [some (.inr (.inr (.inl (170)))), some (.inl (a1)), some (.inl (a2)), some (.inl (a3)), some (.inl (a4)), some (.inl (a5)), some (.inl (a6)), none, none, none, none, none, none, none, none, none] (v :: []) ν) := fun a5 a6 h6 h7 h8 => by
    refine s139 h.1 h0 h1 h2 h3 (fun a7 => ?_)
    rw [g140_54]
    refine qdn (-1) (P := fun a8 => ∀ (o9 o11 o12 o13 o14 o15 : Option qV) (ν : qM), a8 ≤ 200 → Sm μ0 ν → qW (d + 2) 140 Q 60 [some (.inr (.inr (.inl (170)))), some (.inl (a1)), some (.inl (a2)), some (.inl (a3)), some (.inl (a4)), some (.inl (a5)), some (.inl (a6)), some (.inl (a7)), some (.inl (a8)), o9, none, o11, o12, o13, o14, o15] [] ν) (fun a8 ih hB o9 o11 o12 o13 o14 o15 ν h9 hm => ?_) a4 (by omega) _ _ _ _ _ _ _ h5 h
    have st : ∀ (o9 o11 o12 o13 o14 o15 : Option qV) (ν : qM), 0 ≤ a8 → Sm μ0 ν → qW (d + 2) 140 Q 60 [some (.inr (.inr (.inl (170)))), some (.inl (a1)), some (.inl (a2)), some (.inl (a3)), some (.inl (a4)), some (.inl (a5)), some (.inl (a6)), some (.inl (a7)), some (.inl (a8 + (-1))), o9, none, o11, o12, o13, o14, o15] [] ν := fun _ _ _ _ _ _ _ h10 hn => ih _ (by omega) (by omega) _ _ _ _ _ _ _ (by omega) hn
    clear ih
    rw [g140_60]
    refine ⟨fun _ => hQ _ _ hm, fun h10 => ?_⟩
    refine qup 21 (P := fun a14 => ∀ (w9 a11 a12 a13 : Int) (o15 : Option qV), 0 ≤ a14 → 0 ≤ a13 → a13 ≤ 1 → qW (d + 2) 140 Q 81 [some (.inr (.inr (.inl (170)))), some (.inl (a1)), some (.inl (a2)), some (.inl (a3)), some (.inl (a4)), some (.inl (a5)), some (.inl (a6)), some (.inl (a7)), some (.inl (a8)), some (.inr (.inl (w9))), none, some (.inl (a11)), some (.inl (a12)), some (.inl (a13)), some (.inl (a14)), o15] [] ν) (fun a14 ih2 hB2 w9 a11 a12 a13 o15 h11 h12 h13 => ?_) a5 (by omega) _ _ _ _ _ h6 (by omega) (by omega)
    have st2 : ∀ (w9 a11 a12 a13 : Int) (o15 : Option qV), a14 ≤ 20 → 0 ≤ a13 → a13 ≤ 1 → qW (d + 2) 140 Q 81 [some (.inr (.inr (.inl (170)))), some (.inl (a1)), some (.inl (a2)), some (.inl (a3)), some (.inl (a4)), some (.inl (a5)), some (.inl (a6)), some (.inl (a7)), some (.inl (a8)), some (.inr (.inl (w9))), none, some (.inl (a11)), some (.inl (a12)), some (.inl (a13)), some (.inl (a14 + 1)), o15] [] ν := fun _ _ _ _ _ q1 q2 q3 => ih2 _ (by omega) (by omega) _ _ _ _ _ (by omega) q2 q3
    have st3 : ∀ (w9 a11 a12 a13 a14 : Int) (o15 : Option qV), qW (d + 2) 140 Q 60 [some (.inr (.inr (.inl (170)))), some (.inl (a1)), some (.inl (a2)), some (.inl (a3)), some (.inl (a4)), some (.inl (a5)), some (.inl (a6)), some (.inl (a7)), some (.inl (a8 + (-1))), some (.inr (.inl (w9))), none, some (.inl (a11)), some (.inl (a12)), some (.inl (a13)), some (.inl (a14)), o15] [] (qu (qu (qu (qu ν 187 a8 (qlrem w9 1000000007)) 188 a8 a11) 189 a8 a12) 190 a8 a13) := fun _ _ _ _ _ _ => st _ _ _ _ _ _ _ h10 (Sm_u (Sm_u (Sm_u (Sm_u hm (by omega) (by omega)) (by omega) (by omega)) (by omega) (by omega)) (by omega) (by omega))
    clear ih2 st
    rw [g140_81, q32_id (z := a8 + (-1)) (by omega) (by omega), q32_id (z := a14 + 1) (by omega) (by omega)]
    refine ⟨fun _ => ⟨by omega, by omega, by omega, by omega, by omega, by omega, st3 _ _ _ _ _ _⟩, fun q1 => ⟨fun _ => ⟨by omega, by omega, by omega, by omega, by omega, by omega, st3 _ _ _ _ _ _⟩, fun q2 => ?_⟩⟩
    have e1 : q32 (a8 - a14) = a8 - a14 := q32_id (by omega) (by omega)
    rw [e1]
    refine ⟨by omega, fun _ => st2 _ _ _ _ _ (by omega) h12 h13, fun _ => s131 hm.1 (fun a => ?_)⟩
    rw [g140_117, e1, q32_id (z := a14 + 1) (by omega) (by omega)]
    have st4 := fun w9 a11 a12 a13 o15 => st2 w9 a11 a12 a13 o15 (by omega)
    have hx : 0 ≤ a8 - a14 ∧ a8 - a14 < 201 := by omega
    clear st2 st3 hQ
    (repeat' with_reducible (first | apply And.intro | intro _))
    all_goals first | exact hx.1 | exact hx.2 | exact st4 _ _ _ _ _ (by decide) (by decide)
  rw [e140, g140_0]
  refine ⟨by omega, fun q1 => ⟨by omega, by omega, fun _ => ⟨by omega, ?_⟩, fun _ => ?_⟩, fun q1 => ⟨by omega, fun _ => ⟨by omega, ?_⟩, fun _ => ?_⟩⟩
  · exact key _ _ (by omega) (by omega) (by omega)
  · exact key _ _ (by omega) (by omega) (by omega)
  · exact key _ _ (by omega) (by omega) (by omega)
  · exact key _ _ (by omega) (by omega) (by omega)
