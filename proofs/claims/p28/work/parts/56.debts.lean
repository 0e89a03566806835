theorem s25 {μ0 : qM} {d : Nat} {Q : qV → qM → Prop} {μ : qM} {a1 a2 a3 : Int} (h : Sd μ0 μ) (h0 : 0 ≤ a1) (h1 : a1 < 6) (hQ : ∀ a μ', Sd μ0 μ' → Q (.inl a) μ') : qmw (d + 1) 25 [(.inr (.inr (.inl (59)))), (.inl (a1)), (.inl (a2)), (.inl (a3))] μ Q := by
  have hd := sa_debts h.1
  rw [e25, g25_0]
  refine ⟨fun h3 => ⟨by omega, by omega, by omega, by omega, by omega, by omega, by omega, hQ _ _ ?_⟩, fun _ => hQ _ _ h⟩
  rw [q32_id (by omega) (by omega)]
  refine Sd_w (Sd_w (Sd_w (Sd_w (Sd_w (Sd_w (Sd_w (Sd_w h ?_ ?_ ?_ ?_ ?_ ?_ ?_ ?_) ?_ ?_ ?_ ?_ ?_ ?_ ?_ ?_) ?_ ?_ ?_ ?_ ?_ ?_ ?_ ?_) ?_ ?_ ?_ ?_ ?_ ?_ ?_ ?_) ?_ ?_ ?_ ?_ ?_ ?_ ?_ ?_) ?_ ?_ ?_ ?_ ?_ ?_ ?_ ?_) ?_ ?_ ?_ ?_ ?_ ?_ ?_ ?_) ?_ ?_ ?_ ?_ ?_ ?_ ?_ ?_ <;> intros <;> omega
theorem s26 {μ0 : qM} {d : Nat} {Q : qV → qM → Prop} {μ : qM} {a1 a2 : Int} (h : Sd μ0 μ) (h0 : 0 ≤ a1) (h1 : a1 < 20) (hQ : ∀ a μ', Sd μ0 μ' → μ' 59 7 = μ 59 7 → Q (.inl a) μ') : qmw (d + 1) 26 [(.inr (.inr (.inl (59)))), (.inl (a1)), (.inl (a2))] μ Q := by
  rw [e26, g26_0]
  refine ⟨by omega, by omega, by omega, by omega, by omega, by omega, by decide, by omega, hQ _ _ ?_ (by rw [qu_cell (by omega), qu_cell (by omega), qu_cell (by omega)])⟩
  refine Sd_w (Sd_w (Sd_w h ?_ ?_ ?_ ?_ ?_ ?_ ?_ ?_) ?_ ?_ ?_ ?_ ?_ ?_ ?_ ?_) ?_ ?_ ?_ ?_ ?_ ?_ ?_ ?_ <;> intros <;> omega
theorem s110 {d : Nat} {Q : qV → qM → Prop} {μ : qM} {a1 : Int} (hS : Safe μ) (h0 : 0 ≤ a1) (h1 : a1 < 30) (hQ : ∀ a, Q (.inl a) μ) : qmw (d + 1) 110 [(.inr (.inr (.inl (0)))), (.inl (a1))] μ Q := by
  have ht := sa_today hS
  have hs := sa_sent hS a1
  have hl := sa_ld hS a1
  have hd := sa_dp hS (μ 68 a1)
  have hp := pf (isP57 (p := μ 60 (μ 68 a1)) (by omega) (by omega))
  rw [e110, g110_0, q32_id (by omega) (by omega)]
  simp only [hp, qif_r]
  (repeat' with_reducible (first | apply And.intro | intro _))
  all_goals first | omega | exact hQ _
theorem s111 {d : Nat} {Q : qV → qM → Prop} {μ : qM} {a1 : Int} (hS : Safe μ) (hQ : ∀ a, Q (.inl a) μ) : qmw (d + 2) 111 [(.inr (.inr (.inl (0)))), (.inl (a1))] μ Q := by
  have hl := sa_letters hS
  rw [e111, g111_0]
  refine qup (μ 67 3) (P := fun i => ∀ o3, 0 ≤ i → qW (d + 1) 111 Q 2 [some (.inr (.inr (.inl (0)))), some (.inl (a1)), some (.inl (i)), o3] [] μ) (fun i ih hB o3 h0 => ?_) 0 (by omega) _ (by omega)
  have key : ∀ x, i < μ 67 3 → qmw (d + 1) 110 [(.inr (.inr (.inl (0)))), (.inl (i))] μ (fun v ν => qW (d + 1) 111 Q 74 [some (.inr (.inr (.inl (0)))), some (.inl (a1)), some (.inl (i)), some (.inl (x))] (v :: []) ν) := fun x hx => by
    refine s110 hS h0 (by omega) (fun a => ?_)
    rw [g111_74, q32_id (by omega) (by omega)]
    simp only [qb11, true_and]
    exact ⟨fun _ => ih _ (by omega) (by omega) _ (by omega), fun _ => hQ _⟩
  rw [g111_2]
  simp only [qb00, true_and]
  (repeat' with_reducible (first | apply And.intro | intro _))
  all_goals first | omega | exact hQ _ | exact key _ (by omega) | (rw [q32_id (z := i + 1) (by omega) (by omega)]; exact ih _ (by omega) (by omega) _ (by omega))
theorem s89 {μ0 : qM} {d : Nat} {Q : qV → qM → Prop} {μ : qM} {a1 a2 : Int} (h : Sr μ0 μ) (hQ : ∀ a μ', Sr μ0 μ' → Q (.inl a) μ') : qmw (d + 7) 89 [(.inr (.inr (.inl (0)))), (.inl (a1)), (.inl (a2))] μ Q := by
  rw [e89, g89_0, E105, g89_4, qbr]
  simp only [E104, g89_13, qbr2]
  refine ⟨fun _ => hQ _ _ h, fun _ => ⟨fun _ => s109 (Sv_rf h.1) (by omega) (by omega) (fun μ1 hm => ?_), fun _ => hQ _ _ h⟩⟩
  have h1 := Sr_v h hm
  rw [g89_30]
  refine ⟨by omega, s13 hm.1 (isP57 (by omega) (by omega)) (fun a => ?_)⟩
  rw [g89_44]
  refine ⟨fun _ => s25 (Sd_rf hm.1) (by omega) (by omega) (fun b μ2 h2 => ?_), fun _ => hQ _ _ h1⟩
  rw [g89_71]
  exact hQ _ _ (Sr_d h1 h2)
theorem s90 {μ0 : qM} {d : Nat} {Q : qV → qM → Prop} {μ : qM} {a1 a2 a3 a4 : Int} (h : Sd μ0 μ) (hQ : ∀ a μ', Sd μ0 μ' → Q (.inl a) μ') : qmw (d + 3) 90 [(.inr (.inr (.inl (0)))), (.inl (a1)), (.inl (a2)), (.inl (a3)), (.inl (a4))] μ Q := by
  have hd := sa_debts h.1
  rw [e90, g90_0, E105, g90_4, qbr]
  simp only [E104, g90_15, g90_27, g90_38, qbr2, qbr]
  refine ⟨fun _ => hQ _ _ h, fun _ => ⟨fun _ => ⟨fun _ => hQ _ _ h, fun _ => ⟨fun _ => hQ _ _ h, fun _ => ⟨fun _ => ⟨by omega, ?_⟩, fun _ => hQ _ _ h⟩⟩⟩, fun _ => hQ _ _ h⟩⟩
  generalize qidiv (q32 (a2 * a3)) a4 = sh
  refine qup (μ 59 7) (P := fun i => ∀ (a6 : Int) (ν : qM), Sd μ0 ν → ν 59 7 = μ 59 7 → 0 ≤ i → qW (d + 2) 90 Q 63 [some (.inr (.inr (.inl (0)))), some (.inl (a1)), some (.inl (a2)), some (.inl (a3)), some (.inl (a4)), some (.inl (sh)), some (.inl (a6)), some (.inl (i))] [] ν) (fun i ih hB a6 ν hm e1 h0 => ?_) 0 (by omega) _ _ h rfl (by omega)
  rw [g90_63]
  refine ⟨fun _ => hQ _ _ hm, fun _ => ⟨by omega, fun _ => ?_, fun _ => s111 hm.1 (fun a => ?_)⟩⟩
  · rw [q32_id (by omega) (by omega)]
    exact ih _ (by omega) (by omega) _ _ hm e1 (by omega)
  · rw [g90_101]
    refine ⟨fun _ => ?_, fun _ => s26 hm h0 (by omega) (fun b μ2 hm2 e2 => ?_)⟩
    · rw [q32_id (by omega) (by omega)]
      exact ih _ (by omega) (by omega) _ _ hm e1 (by omega)
    · rw [g90_123, q32_id (z := i + 1) (by omega) (by omega)]
      exact ih _ (by omega) (by omega) _ _ hm2 (by omega) (by omega)
theorem s27 {d : Nat} {Q : qV → qM → Prop} {μ : qM} {a1 : Int} (h0 : 0 ≤ a1) (h1 : a1 < 20) (hQ : ∀ a, Q (.inl a) μ) : qmw (d + 1) 27 [(.inr (.inr (.inl (59)))), (.inl (a1))] μ Q := by
  rw [e27, g27_0]
  simp only [qb11, qb00, true_and]
  exact ⟨by omega, fun _ => hQ _, fun _ => hQ _⟩
theorem s91 {μ0 : qM} {d : Nat} {Q : qV → qM → Prop} {μ : qM} {a1 : Int} (h : Sd μ0 μ) (hQ : ∀ a μ', Sd μ0 μ' → Q (.inl a) μ') : qmw (d + 3) 91 [(.inr (.inr (.inl (0)))), (.inl (a1))] μ Q := by
  have hd := sa_debts h.1
  rw [e91, g91_0, E107, g91_5, qbr2, q32_id (by omega) (by omega)]
  refine ⟨fun _ => s27 (by omega) (by omega) (fun a => ?_), fun _ => hQ _ _ h⟩
  rw [g91_21]
  refine ⟨fun _ => ?_, fun _ => hQ _ _ h⟩
  rw [e28, g28_0]
  refine ⟨by omega, by omega, by omega, by omega, by omega, ?_⟩
  rw [g91_38]
  refine hQ _ _ (Sd_w (Sd_w (Sd_w h ?_ ?_ ?_ ?_ ?_ ?_ ?_ ?_) ?_ ?_ ?_ ?_ ?_ ?_ ?_ ?_) ?_ ?_ ?_ ?_ ?_ ?_ ?_ ?_) <;> intros <;> omega
theorem s29 {d : Nat} {Q : qV → qM → Prop} {μ : qM} {a1 a2 : Int} (h0 : 0 ≤ a1) (h1 : a1 < 20) (hQ : ∀ a, Q (.inl a) μ) : qmw (d + 1) 29 [(.inr (.inr (.inl (59)))), (.inl (a1)), (.inl (a2))] μ Q := by
  rw [e29, g29_0]
  (repeat' with_reducible (first | apply And.intro | intro _))
  all_goals first | omega | exact hQ _ | trivial
theorem s92 {μ0 : qM} {d : Nat} {Q : qV → qM → Prop} {μ : qM} {a1 a2 : Int} (h : Sd μ0 μ) (hQ : ∀ a μ', Sd μ0 μ' → Q (.inl a) μ') : qmw (d + 3) 92 [(.inr (.inr (.inl (0)))), (.inl (a1)), (.inl (a2))] μ Q := by
  have hd := sa_debts h.1
  rw [e92, g92_0, E107, g92_5, qbr, q32_id (by omega) (by omega)]
  simp only [E104, g92_15, qbr2]
  refine ⟨fun _ => hQ _ _ h, fun _ => ⟨fun _ => s29 (by omega) (by omega) (fun a => ?_), fun _ => hQ _ _ h⟩⟩
  rw [g92_32]
  exact hQ _ _ h
theorem s93 {μ0 : qM} {d : Nat} {Q : qV → qM → Prop} {μ : qM} {a1 a2 : Int} (h : Sr μ0 μ) (hQ : ∀ a μ', Sr μ0 μ' → Q (.inl a) μ') : qmw (d + 7) 93 [(.inr (.inr (.inl (0)))), (.inl (a1)), (.inl (a2))] μ Q := by
  have hd := sa_debts h.1
  have hp := sa_dp h.1 a1
  rw [e93, g93_0, E107, g93_5, qbr, q32_id (by omega) (by omega)]
  simp only [E104, g93_16, qbr2]
  refine ⟨fun _ => hQ _ _ h, fun _ => ⟨fun _ => ⟨by omega, s109 (Sv_rf h.1) (by omega) (by omega) (fun μ1 hm => ?_)⟩, fun _ => hQ _ _ h⟩⟩
  have h1 := Sr_v h hm
  rw [g93_38]
  refine ⟨by omega, s11 hm.1 (fun a => ?_)⟩
  rw [g93_59]
  refine ⟨fun _ => s10 hm.1 (fun b => ?_), fun _ => hQ _ _ h1⟩
  rw [g93_72]
  exact ⟨fun _ => hQ _ _ h1, fun _ => hQ _ _ h1⟩
theorem s35 {μ0 : qM} {d : Nat} {Q : qV → qM → Prop} {μ : qM} {a1 a2 a3 : Int} (h : Sd μ0 μ) (h0 : 0 ≤ a1) (h1 : a1 < 20) (h2 : 0 ≤ a2) (h3 : a2 ≤ 200) (hQ : ∀ a μ', Sd μ0 μ' → Q (.inl a) μ') : qmw (d + 1) 35 [(.inr (.inr (.inl (67)))), (.inl (a1)), (.inl (a2)), (.inl (a3))] μ Q := by
  have hd := sa_letters h.1
  rw [e35, g35_0]
  refine ⟨fun h3 => ⟨by omega, by omega, by omega, hQ _ _ ?_⟩, fun _ => hQ _ _ h⟩
  rw [q32_id (by omega) (by omega)]
  refine Sd_w (Sd_w (Sd_w (Sd_w h ?_ ?_ ?_ ?_ ?_ ?_ ?_ ?_) ?_ ?_ ?_ ?_ ?_ ?_ ?_ ?_) ?_ ?_ ?_ ?_ ?_ ?_ ?_ ?_) ?_ ?_ ?_ ?_ ?_ ?_ ?_ ?_ <;> intros <;> omega
theorem s95 {μ0 : qM} {d : Nat} {Q : qV → qM → Prop} {μ : qM} {a1 : Int} (h : Sd μ0 μ) (hQ : ∀ a μ', Sd μ0 μ' → Q (.inl a) μ') : qmw (d + 3) 95 [(.inr (.inr (.inl (0)))), (.inl (a1))] μ Q := by
  have hd := sa_debts h.1
  have hpd := sa_dp h.1 a1
  have ht := sa_today h.1
  have hp := pf (isP57 (p := μ 60 a1) (by omega) (by omega))
  rw [e95, g95_0, E107, g95_5, qbr2, q32_id (by omega) (by omega)]
  simp only [hp, qif_r]
  refine ⟨fun _ => ⟨by omega, by omega, by omega, s35 h (by omega) (by omega) (by omega) (by omega) (fun a μ1 h1 => ?_)⟩, fun _ => hQ _ _ h⟩
  rw [g95_58]
  exact hQ _ _ h1
theorem s96 {μ0 : qM} {d : Nat} {Q : qV → qM → Prop} {μ : qM} {a1 a2 : Int} (h : Sd μ0 μ) (hQ : ∀ a μ', Sd μ0 μ' → Q (.inl a) μ') : qmw (d + 2) 96 [(.inr (.inr (.inl (0)))), (.inl (a1)), (.inl (a2))] μ Q := by
  have hl := sa_letters h.1
  rw [e96, g96_0, E104, g96_17, qbr, q32_id (by omega) (by omega)]
  simp only [E104, g96_26, qbr2]
  refine ⟨fun _ => hQ _ _ h, fun _ => ⟨fun _ => ⟨fun _ => s110 h.1 (by omega) (by omega) (fun a => ?_), fun _ => ⟨by omega, hQ _ _ h⟩, fun _ => ⟨by omega, hQ _ _ h⟩, fun _ => ⟨by omega, hQ _ _ h⟩, trivial⟩, fun _ => hQ _ _ h⟩⟩
  rw [g96_104]
  exact hQ _ _ h
theorem s113 {d : Nat} {Q : qV → qM → Prop} {μ : qM} (hQ : ∀ a, Q (.inl a) μ) : qmw (d + 1) 113 [(.inr (.inr (.inl (0))))] μ Q := by
  rw [e113, g113_0]
  refine qup 6 (P := fun i => ∀ a1, 0 ≤ i → qW d 113 Q 4 [some (.inr (.inr (.inl (0)))), some (.inl (a1)), some (.inl (i))] [] μ) (fun i ih hB a1 h0 => ?_) 0 (by omega) _ (by omega)
  rw [g113_4]
  refine ⟨fun _ => hQ _, fun h3 => ⟨by omega, ?_⟩⟩
  have hp := pf (isP57 (p := i) (by omega) (by omega))
  simp only [hp, qif_r]
  rw [q32_id (z := i + 1) (by omega) (by omega)]
  exact ih _ (by omega) (by omega) _ (by omega)
theorem s114 {d : Nat} {Q : qV → qM → Prop} {μ : qM} (hQ : ∀ a, Q (.inl a) μ) : qmw (d + 2) 114 [(.inr (.inr (.inl (0))))] μ Q := by
  rw [e114, g114_0]
  refine qup 6 (P := fun i => ∀ (a1 : Int) (o3 : Option qV), 0 ≤ i → qW (d + 1) 114 Q 4 [some (.inr (.inr (.inl (0)))), some (.inl (a1)), some (.inl (i)), o3] [] μ) (fun i ih hB a1 o3 h0 => ?_) 0 (by omega) _ _ (by omega)
  rw [g114_4]
  refine ⟨fun _ => hQ _, fun h3 => ?_⟩
  refine qup 10 (P := fun f => ∀ (a1 : Int), 0 ≤ f → qW (d + 1) 114 Q 12 [some (.inr (.inr (.inl (0)))), some (.inl (a1)), some (.inl (i)), some (.inl (f))] [] μ) (fun f ih2 hB2 a1 h1 => ?_) 0 (by omega) _ (by omega)
  rw [g114_12]
  refine ⟨fun _ => ?_, fun _ => ⟨by omega, s45 (isP57 (by omega) (by omega)) h1 (by omega) (fun a => ?_)⟩⟩
  · rw [q32_id (z := i + 1) (by omega) (by omega)]
    exact ih _ (by omega) (by omega) _ _ (by omega)
  · rw [g114_31, q32_id (z := f + 1) (by omega) (by omega)]
    exact ⟨fun _ => ih2 _ (by omega) (by omega) _ (by omega), fun _ => ih2 _ (by omega) (by omega) _ (by omega)⟩
theorem s30 {d : Nat} {Q : qV → qM → Prop} {μ : qM} (hS : Safe μ) (hQ : ∀ a, Q (.inl a) μ) : qmw (d + 1) 30 [(.inr (.inr (.inl (59))))] μ Q := by
  have hd := sa_debts hS
  rw [e30, g30_0]
  refine qup (μ 59 7) (P := fun i => ∀ a1, 0 ≤ i → qW d 30 Q 4 [some (.inr (.inr (.inl (59)))), some (.inl (a1)), some (.inl (i))] [] μ) (fun i ih hB a1 h0 => ?_) 0 (by omega) _ (by omega)
  rw [g30_4, q32_id (z := i + 1) (by omega) (by omega)]
  exact ⟨fun _ => hQ _, fun _ => ⟨by omega, ih _ (by omega) (by omega) _ (by omega)⟩⟩
theorem s31 {d : Nat} {Q : qV → qM → Prop} {μ : qM} (hS : Safe μ) (hQ : ∀ a, Q (.inl a) μ) : qmw (d + 1) 31 [(.inr (.inr (.inl (59))))] μ Q := by
  have hd := sa_debts hS
  rw [e31, g31_0]
  refine qup (μ 59 7) (P := fun i => ∀ a1, 0 ≤ i → qW d 31 Q 4 [some (.inr (.inr (.inl (59)))), some (.inl (a1)), some (.inl (i))] [] μ) (fun i ih hB a1 h0 => ?_) 0 (by omega) _ (by omega)
  rw [g31_4, q32_id (z := i + 1) (by omega) (by omega)]
  exact ⟨fun _ => hQ _, fun _ => ⟨by omega, ih _ (by omega) (by omega) _ (by omega)⟩⟩
theorem s32 {d : Nat} {Q : qV → qM → Prop} {μ : qM} (hS : Safe μ) (hQ : ∀ a, Q (.inl a) μ) : qmw (d + 2) 32 [(.inr (.inr (.inl (59))))] μ Q := by
  have hd := sa_debts hS
  rw [e32, g32_0]
  refine qup (μ 59 7) (P := fun i => ∀ a1, 0 ≤ i → qW (d + 1) 32 Q 4 [some (.inr (.inr (.inl (59)))), some (.inl (a1)), some (.inl (i))] [] μ) (fun i ih hB a1 h0 => ?_) 0 (by omega) _ (by omega)
  rw [g32_4]
  refine ⟨fun _ => hQ _, fun _ => s27 (by omega) (by omega) (fun a => ?_)⟩
  rw [g32_18, q32_id (z := i + 1) (by omega) (by omega)]
  exact ⟨fun _ => ih _ (by omega) (by omega) _ (by omega), fun _ => ⟨by omega, ih _ (by omega) (by omega) _ (by omega)⟩⟩
theorem s102 {μ0 : qM} {d : Nat} {Q : qV → qM → Prop} {μ : qM} {a1 : Int} (h : Sd μ0 μ) (hQ : ∀ a μ', Sd μ0 μ' → Q (.inl a) μ') : qmw (d + 3) 102 [(.inr (.inr (.inl (0)))), (.inl (a1))] μ Q := by
  rw [e102, g102_0]
  refine ⟨fun _ => hQ _ _ h, fun _ => hQ _ _ h, fun _ => s113 (fun a => ?_), fun _ => s114 (fun a => ?_), fun _ => hQ _ _ h, fun _ => hQ _ _ h, fun _ => hQ _ _ h, fun _ => hQ _ _ h, fun _ => hQ _ _ h, fun _ => s30 h.1 (fun a => ?_), fun _ => s31 h.1 (fun a => ?_), fun _ => s32 h.1 (fun a => ?_), trivial⟩
  · rw [g102_72]
    exact hQ _ _ h
  · rw [g102_77]
    exact hQ _ _ h
  · rw [g102_137]
    exact hQ _ _ h
  · rw [g102_148]
    exact hQ _ _ h
  · rw [g102_159]
    exact hQ _ _ h
