theorem s1 {μ0 : qM} {d : Nat} {Q : qV → qM → Prop} {μ : qM} {c1 a2 : Int} (h : Sv μ0 μ) (hc : isP c1) (hQ : ∀ μ', Sv μ0 μ' → Q (.inl 0) μ') : qmw (d + 4) 1 [(.inr (.inr (.inl (15)))), (.inr (.inr (.inl (c1)))), (.inl (a2))] μ Q := by
  have hp := pf hc
  have h2 : Sv μ0 (qu (qu (qu μ 15 4 0) 15 5 0) 15 6 0) := by
    refine Sv_u ?_ (by omega) (by omega) (by intros; omega) (by intros; omega) (by intros; omega)
    refine Sv_u ?_ (by omega) (by omega) (by intros; omega) (by intros; omega) (by intros; omega)
    refine Sv_u ?_ (by omega) (by omega) (by intros; omega) (by intros; omega) (by intros; omega)
    exact h
  rw [e1, g1_0]
  -- the second loop
  have l2 : ∀ i, i ≤ 10 → ∀ (o4 : Option qV) (μ : qM), Sv μ0 μ → 0 ≤ i → qW (d + 3) 1 Q 106 [some (.inr (.inr (.inl (15)))), some (.inr (.inr (.inl (c1)))), some (.inl (a2)), some (.inl (i)), o4] [] μ := by
    refine qup 10 (fun i ih hB o4 μ hm h0 => ?_)
    rw [g1_106]
    refine ⟨fun _ => hQ _ hm, fun h3 => s44 hm.1 hc (fun a ha1 ha2 => ?_)⟩
    have hfi := sa_firms hm.1 hc
    rw [g1_123]
    have hm1 : Sv μ0 (qu μ 54 i a) := by
      refine Sv_u ?_ (by omega) (by omega) (by intros; omega) (by intros; omega) (by intros; omega)
      exact hm
    refine ⟨by omega, by omega, fun _ => ?_, fun _ => ?_⟩
    · rw [g1_187, q32_id (by omega) (by omega)]
      exact ih _ (by omega) (by omega) _ _ hm1 (by omega)
    · simp only [hp, qif_r]
      refine ⟨by omega, ?_⟩
      rw [E65, g1_151]
      have hl := sa_ls hm1.1
      have e9 : qu μ 54 i a 15 4 = μ 15 4 := qu_cell (by omega) _
      have hb := qset1 (a := qu μ 54 i a 15 4) (f := i) (by omega) (by omega) (by omega) (by omega)
      have hm2 : Sv μ0 (qu (qu (qu μ 54 i a) 15 5 (q32 (μ 15 5 + if qu μ 54 i a (c1 + 1) i < 0 ∨ 20 < qu μ 54 i a (c1 + 1) i then 0 else qu μ 54 i a 17 (qu μ 54 i a (c1 + 1) i)))) 15 4 (qior (qu μ 54 i a 15 4) (qshl 1 i))) := by
        refine Sv_u ?_ (by omega) (by omega) (by intros; omega) (by intros; omega) (by intros; omega)
        refine Sv_u ?_ (by omega) (by omega) (by intros; omega) (by intros; omega) (by intros; omega)
        exact hm1
      refine s45 hc (by omega) (by omega) (fun b => ?_)
      rw [g1_173]
      refine ⟨fun _ => ?_, fun _ => ?_⟩
      · rw [g1_187, q32_id (by omega) (by omega)]
        exact ih _ (by omega) (by omega) _ _ hm2 (by omega)
      · simp only [hp, qif_r]
        refine ⟨by omega, s4 hm2 (by omega) (by omega) (fun μ' hm3 => ?_)⟩
        rw [g1_187, q32_id (by omega) (by omega)]
        exact ih _ (by omega) (by omega) _ _ hm3 (by omega)
  refine qup 3 (P := fun i => ∀ (o4 : Option qV) (μ : qM), Sv μ0 μ → 0 ≤ i → qW (d + 3) 1 Q 17 [some (.inr (.inr (.inl (15)))), some (.inr (.inr (.inl (c1)))), some (.inl (a2)), some (.inl (i)), o4] [] μ) (fun i ih hB o4 μ hm h0 => ?_) 0 (by omega) _ _ h2 (by omega)
  have hfi := sa_firms hm.1 hc
  rw [g1_17]
  simp only [hp, qif_r]
  (repeat' with_reducible (first | apply And.intro | intro _))
  all_goals first | omega | exact l2 _ (by omega) _ _ hm (by omega) | skip
  all_goals
    rw [q32_id (by omega) (by omega)]
    refine ih _ (by omega) (by omega) _ _ ?_ (by omega)
    refine Sv_u ?_ (by omega) (by omega) (by intros; omega) (by intros; omega) (by intros; omega)
    refine Sv_u ?_ (by omega) (by omega) (by intros; omega) (by intros; omega) (by intros; omega)
    exact hm
theorem qmax0 (x : Int) : 0 ≤ qmax 0 x := by
  unfold qmax
  split <;> omega
theorem s6 {d : Nat} {Q : qV → qM → Prop} {μ : qM} {c1 a2 : Int} (hS : Safe μ) (hc : isP c1) (h0 : 0 ≤ a2) (h1 : a2 < 10) (hQ : ∀ a, -1 ≤ a → Q (.inl a) μ) : qmw (d + 2) 6 [(.inr (.inr (.inl (15)))), (.inr (.inr (.inl (c1)))), (.inl (a2))] μ Q := by
  have hp := pf hc
  have hf := sa_fo hS a2
  have hs := sa_sp hS hc a2
  have hq := fun x => Int.le_trans (by omega : (-1 : Int) ≤ 0) (qmax0 x)
  rw [e6, g6_0, E3, g6_5]
  simp only [hp, qif_r]
  (repeat' with_reducible (first | apply And.intro | intro _))
  all_goals first | omega | exact hQ _ (hq _) | exact hQ _ (by omega)
theorem s7 {d : Nat} {Q : qV → qM → Prop} {μ : qM} {c1 a2 : Int} (hS : Safe μ) (hc : isP c1) (h0 : 0 ≤ a2) (h1 : a2 < 10) (hQ : ∀ a, a ≤ 20 → Q (.inl a) μ) : qmw (d + 2) 7 [(.inr (.inr (.inl (15)))), (.inr (.inr (.inl (c1)))), (.inl (a2))] μ Q := by
  have hp := pf hc
  have hf := sa_fo hS a2
  have hs := sa_sp hS hc a2
  have hq : ∀ x, qmin 20 x ≤ 20 := fun x => by unfold qmin; split <;> omega
  rw [e7, g7_0, E3, g7_5]
  simp only [hp, qif_r]
  (repeat' with_reducible (first | apply And.intro | intro _))
  all_goals first | omega | exact hQ _ (hq _) | exact hQ _ (by omega)
theorem E71 {d : Nat} {Q : qV → qM → Prop} {μ : qM} {a0 a1 a2 : Int} : qmw (d + 1) 71 [(.inl (a0)), (.inl (a1)), (.inl (a2))] μ Q = Q (.inl (if 0 ≤ a0 ∧ a0 < a2 ∧ 0 ≤ a1 ∧ a1 ≤ q32 (20 * a0) then 1 else 0)) μ := by
  rw [e71, g71_0]
  simp only [qb11, qb00, true_and]
  by_cases h1 : 0 ≤ a0
  · by_cases h2 : a0 < a2
    · by_cases h3 : 0 ≤ a1
      · by_cases h4 : a1 ≤ q32 (20 * a0)
        · simp [h1, h2, h3, h4, Int.not_lt.mpr h1, Int.not_le.mpr h2, Int.not_lt.mpr h3, Int.not_lt.mpr h4]
        · simp [h1, h2, h3, h4, Int.not_lt.mpr h1, Int.not_le.mpr h2, Int.not_lt.mpr h3, Int.not_le.mp h4]
      · simp [h1, h2, h3, Int.not_lt.mpr h1, Int.not_le.mpr h2, Int.not_le.mp h3]
    · simp [h1, h2, Int.not_lt.mpr h1, Int.not_lt.mp h2]
  · simp [h1, Int.not_le.mp h1]
theorem s68 {d : Nat} {Q : qV → qM → Prop} {μ : qM} {a1 a2 : Int} (hS : Safe μ) (hQ : ∀ a, Q (.inl a) μ) : qmw (d + 2) 68 [(.inr (.inr (.inl (16)))), (.inl (a1)), (.inl (a2))] μ Q := by
  have hd := sa_dr hS
  rw [e68, g68_0, E71, g68_9, qbr2]
  refine ⟨fun _ => hQ _, fun h => ?_⟩
  have hr := qra18 (k := a1) (by omega) (by omega)
  have h2 := h.2.2.2
  rw [q32_id (by omega) (by omega)] at h2
  simp only [hr, qif_r]
  exact ⟨by omega, by omega, hQ _⟩
theorem s69 {d : Nat} {Q : qV → qM → Prop} {μ : qM} {a1 a2 : Int} (hS : Safe μ) (hQ : ∀ a, Q (.inl a) μ) : qmw (d + 2) 69 [(.inr (.inr (.inl (16)))), (.inl (a1)), (.inl (a2))] μ Q := by
  have hd := sa_dr hS
  rw [e69, g69_0, E71, g69_9, qbr2]
  refine ⟨fun _ => hQ _, fun h => ?_⟩
  have hr := qra30 (k := a1) (by omega) (by omega)
  have h2 := h.2.2.2
  rw [q32_id (by omega) (by omega)] at h2
  simp only [hr, qif_r]
  exact ⟨by omega, by omega, hQ _⟩
theorem s70 {d : Nat} {Q : qV → qM → Prop} {μ : qM} {a1 a2 : Int} (hS : Safe μ) (hQ : ∀ a, Q (.inl a) μ) : qmw (d + 2) 70 [(.inr (.inr (.inl (16)))), (.inl (a1)), (.inl (a2))] μ Q := by
  have hd := sa_wr hS
  rw [e70, g70_0, E71, g70_9, qbr2]
  refine ⟨fun _ => hQ _, fun h => ?_⟩
  have hr := qra42 (k := a1) (by omega) (by omega)
  have h2 := h.2.2.2
  rw [q32_id (by omega) (by omega)] at h2
  simp only [hr, qif_r]
  exact ⟨by omega, by omega, hQ _⟩
theorem s10 {d : Nat} {Q : qV → qM → Prop} {μ : qM} (hS : Safe μ) (hQ : ∀ a, Q (.inl a) μ) : qmw (d + 3) 10 [(.inr (.inr (.inl (15))))] μ Q := by
  rw [e10, g10_0]
  refine qup 3 (P := fun i => ∀ a1, 0 ≤ i → qW (d + 2) 10 Q 7 [some (.inr (.inr (.inl (15)))), some (.inl (a1)), some (.inl (i))] [] μ) (fun i ih hB a1 h0 => ?_) 0 (by omega) _ (by omega)
  rw [g10_7]
  refine ⟨fun _ => hQ _, fun _ => ⟨by omega, by omega, s69 hS (fun a => ?_)⟩⟩
  rw [g10_32, q32_id (z := i + 1) (by omega) (by omega)]
  exact ih _ (by omega) (by omega) _ (by omega)
theorem s11 {d : Nat} {Q : qV → qM → Prop} {μ : qM} (hS : Safe μ) (hQ : ∀ a, Q (.inl a) μ) : qmw (d + 3) 11 [(.inr (.inr (.inl (15))))] μ Q := by
  rw [e11, g11_0]
  refine qup 3 (P := fun i => ∀ a1, 0 ≤ i → qW (d + 2) 11 Q 7 [some (.inr (.inr (.inl (15)))), some (.inl (a1)), some (.inl (i))] [] μ) (fun i ih hB a1 h0 => ?_) 0 (by omega) _ (by omega)
  rw [g11_7]
  refine ⟨fun _ => hQ _, fun _ => ⟨by omega, by omega, s68 hS (fun a => ?_)⟩⟩
  rw [g11_32, q32_id (z := i + 1) (by omega) (by omega)]
  exact ih _ (by omega) (by omega) _ (by omega)
theorem s12 {d : Nat} {Q : qV → qM → Prop} {μ : qM} (hS : Safe μ) (hQ : ∀ a, Q (.inl a) μ) : qmw (d + 4) 12 [(.inr (.inr (.inl (15))))] μ Q := by
  rw [e12, g12_0]
  refine s11 hS (fun a => ?_)
  rw [g12_4]
  refine s10 hS (fun b => ?_)
  rw [g12_8]
  exact hQ _
theorem s13 {d : Nat} {Q : qV → qM → Prop} {μ : qM} {c1 a2 : Int} (hS : Safe μ) (hc : isP c1) (hQ : ∀ a, Q (.inl a) μ) : qmw (d + 4) 13 [(.inr (.inr (.inl (15)))), (.inr (.inr (.inl (c1)))), (.inl (a2))] μ Q := by
  have hp := pf hc
  rw [e13, g13_0]
  refine ⟨fun _ => ⟨fun _ => ?_, fun _ => s11 hS (fun a => ?_)⟩, fun _ => s10 hS (fun a => ?_)⟩
  · refine qup 10 (P := fun i => ∀ (a3 : Int) (o5 : Option qV), 0 ≤ i → qW (d + 3) 13 Q 25 [some (.inr (.inr (.inl (15)))), some (.inr (.inr (.inl (c1)))), some (.inl (a2)), some (.inl (a3)), some (.inl (i)), o5] [] μ) (fun i ih hB a3 o5 h0 => ?_) 0 (by omega) _ _ (by omega)
    have hf := sa_fo hS i
    rw [g13_25]
    simp only [hp, qif_r, E65, g13_81]
    (repeat' with_reducible (first | apply And.intro | intro _))
    all_goals first | omega | exact hQ _ | (rw [q32_id (z := i + 1) (by omega) (by omega)]; exact ih _ (by omega) (by omega) _ _ (by omega)) | skip
    refine s46 hc (by omega) (by omega) (fun b => ?_)
    rw [g13_59, E65, g13_81, q32_id (z := i + 1) (by omega) (by omega)]
    exact ih _ (by omega) (by omega) _ _ (by omega)
  · rw [g13_19]
    exact hQ _
  · rw [g13_9]
    exact hQ _
theorem s15 {d : Nat} {Q : qV → qM → Prop} {μ : qM} {a1 c2 : Int} (ht : qty c2 = 100) (hl : 10 ≤ qal c2) (hQ : ∀ a, Q (.inl a) μ) : qmw (d + 2) 15 [(.inr (.inr (.inl (15)))), (.inl (a1)), (.inr (.inr (.inl (c2))))] μ Q := by
  rw [e15, g15_0]
  refine qup 10 (P := fun i => ∀ (a3 : Int), 0 ≤ i → qW (d + 1) 15 Q 5 [some (.inr (.inr (.inl (15)))), some (.inl (a1)), some (.inr (.inr (.inl (c2)))), some (.inl (a3)), some (.inl (i))] [] μ) (fun i ih hB a3 h0 => ?_) 0 (by omega) _ (by omega)
  rw [g15_5]
  simp only [E3, g15_29, ht, qif_r]
  (repeat' with_reducible (first | apply And.intro | intro _))
  all_goals first | omega | exact hQ _ | (rw [q32_id (z := i + 1) (by omega) (by omega)]; exact ih _ (by omega) (by omega) _ (by omega))
theorem E2 {d : Nat} {Q : qV → qM → Prop} {μ : qM} {a1 : Int} (h0 : 0 ≤ a1) (h1 : a1 < 10) : qmw (d + 1) 2 [(.inr (.inr (.inl (15)))), (.inl (a1))] μ Q = Q (.inl (if 0 ≤ μ 54 a1 then 1 else 0)) μ := by
  rw [e2, g2_0]
  simp only [qb11, qb00, true_and]
  by_cases h : 0 ≤ μ 54 a1
  · simp [h, h0, h1, Int.not_lt.mpr h]
  · simp [h, h0, h1, Int.not_le.mp h]
theorem s14 {d : Nat} {Q : qV → qM → Prop} {μ : qM} {c1 c2 : Int} (hc : isP c1) (ht : qty c2 = 100) (hl : 10 ≤ qal c2) (hQ : ∀ a, Q (.inl a) μ) : qmw (d + 3) 14 [(.inr (.inr (.inl (15)))), (.inr (.inr (.inl (c1)))), (.inr (.inr (.inl (c2))))] μ Q := by
  have hp := pf hc
  rw [e14, g14_0]
  have l2 : ∀ i, i ≤ 3 → 0 ≤ i → qW (d + 2) 14 Q 46 [some (.inr (.inr (.inl (15)))), some (.inr (.inr (.inl (c1)))), some (.inr (.inr (.inl (c2)))), some (.inl (i))] [] μ := by
    refine qup 3 (fun i ih hB h0 => ?_)
    rw [g14_46]
    simp only [qb11, true_and]
    refine ⟨fun _ => hQ _, fun _ => s15 ht hl (fun a => ?_)⟩
    rw [g14_57]
    simp only [qb00, true_and]
    refine ⟨by omega, fun _ => ?_, fun _ => hQ _⟩
    rw [q32_id (by omega) (by omega)]
    exact ih _ (by omega) (by omega) (by omega)
  refine qup 10 (P := fun i => 0 ≤ i → qW (d + 2) 14 Q 2 [some (.inr (.inr (.inl (15)))), some (.inr (.inr (.inl (c1)))), some (.inr (.inr (.inl (c2)))), some (.inl (i))] [] μ) (fun i ih hB h0 => ?_) 0 (by omega) (by omega)
  rw [g14_2]
  refine ⟨fun _ => l2 _ (by omega) (by omega), fun h3 => ?_⟩
  rw [E2 (by omega) (by omega), g14_13]
  simp only [E3, g14_21, hp, ht, qif_r, qb00, true_and]
  (repeat' with_reducible (first | apply And.intro | intro _))
  all_goals first | omega | exact hQ _ | (rw [q32_id (by omega) (by omega)]; exact ih _ (by omega) (by omega) (by omega))
theorem s20 {d : Nat} {Q : qV → qM → Prop} {μ : qM} {c1 a2 : Int} (hS : Safe μ) (hc : isP c1) (h0 : 0 ≤ a2) (h1 : a2 < 10) (hQ : ∀ a, Q (.inl a) μ) : qmw (d + 1) 20 [(.inr (.inr (.inl (15)))), (.inr (.inr (.inl (c1)))), (.inl (a2))] μ Q := by
  have hp := pf hc
  have hf := sa_fo hS a2
  rw [e20, g20_0]
  simp only [hp, qif_r]
  (repeat' with_reducible (first | apply And.intro | intro _))
  all_goals first | omega | exact hQ _
theorem s21 {d : Nat} {Q : qV → qM → Prop} {μ : qM} {c1 a2 : Int} (hS : Safe μ) (hc : isP c1) (h0 : 0 ≤ a2) (h1 : a2 < 10) (hQ : ∀ a, Q (.inl a) μ) : qmw (d + 3) 21 [(.inr (.inr (.inl (15)))), (.inr (.inr (.inl (c1)))), (.inl (a2))] μ Q := by
  have hp := pf hc
  have hf := sa_fo hS a2
  rw [e21, g21_0]
  simp only [hp, qif_r, E65, g21_26]
  (repeat' with_reducible (first | apply And.intro | intro _))
  all_goals first | omega | exact hQ _ | skip
  refine s46 hc (by omega) (by omega) (fun b => ?_)
  rw [g21_41, E65, g21_44]
  exact hQ _
