/-! THE VIEW: it is safe, and changes its own cells alone -/
theorem s44 {d : Nat} {Q : qV → qM → Prop} {μ : qM} {c0 a1 a2 : Int} (hS : Safe μ) (hc : isP c0) (hQ : ∀ a, -1 ≤ a → a < μ c0 10 → Q (.inl a) μ) : qmw (d + 1) 44 [(.inr (.inr (.inl (c0)))), (.inl (a1)), (.inl (a2))] μ Q := by
  have hp := pf hc
  have hf := sa_firms hS hc
  rw [e44 hp.1, g44_0]
  refine qup (μ c0 10) (P := fun i => 0 ≤ i → qW d 44 Q 2 [some (.inr (.inr (.inl (c0)))), some (.inl (a1)), some (.inl (a2)), some (.inl (i))] [] μ) (fun i ih hB h0 => ?_) 0 (by omega) (by omega)
  rw [g44_2]
  simp only [hp, qif_r]
  (repeat' with_reducible (first | apply And.intro | intro _))
  all_goals first | omega | exact hQ _ (by omega) (by omega) | (rw [q32_id (by omega) (by omega)]; exact ih _ (by omega) (by omega) (by omega))
theorem s45 {d : Nat} {Q : qV → qM → Prop} {μ : qM} {c0 a1 a2 : Int} (hc : isP c0) (h0 : 0 ≤ a1) (h1 : a1 < 10) (hQ : ∀ a, Q (.inl a) μ) : qmw (d + 1) 45 [(.inr (.inr (.inl (c0)))), (.inl (a1)), (.inl (a2))] μ Q := by
  have hp := pf hc
  rw [e45 hp.1, g45_0]
  simp only [hp, qif_r, qb11, qb00, true_and]
  (repeat' with_reducible (first | apply And.intro | intro _))
  all_goals first | omega | exact hQ _
theorem s46 {d : Nat} {Q : qV → qM → Prop} {μ : qM} {c0 a1 a2 : Int} (hc : isP c0) (h0 : 0 ≤ a1) (h1 : a1 < 3) (hQ : ∀ a, Q (.inl a) μ) : qmw (d + 1) 46 [(.inr (.inr (.inl (c0)))), (.inl (a1)), (.inl (a2))] μ Q := by
  have hp := pf hc
  rw [e46 hp.1, g46_0]
  simp only [hp, qif_r]
  (repeat' with_reducible (first | apply And.intro | intro _))
  all_goals first | omega | exact hQ _
theorem s48 {d : Nat} {Q : qV → qM → Prop} {μ : qM} {a1 : Int} (hS : Safe μ) (hQ : ∀ a, -1 ≤ a → a < μ 9 5 → Q (.inl a) μ) : qmw (d + 1) 48 [(.inr (.inr (.inl (9)))), (.inl (a1))] μ Q := by
  have hb := sa_bsz hS
  rw [e48, g48_0, q32_id (by omega) (by omega)]
  refine qdn (-1) (P := fun i => i < μ 9 5 → qW d 48 Q 7 [some (.inr (.inr (.inl (9)))), some (.inl (a1)), some (.inl (i))] [] μ) (fun i ih hB h0 => ?_) _ (by omega) (by omega)
  rw [g48_7]
  (repeat' with_reducible (first | apply And.intro | intro _))
  all_goals first | omega | exact hQ _ (by omega) (by omega) | (rw [q32_id (by omega) (by omega)]; exact ih _ (by omega) (by omega) (by omega))
theorem s49 {d : Nat} {Q : qV → qM → Prop} {μ : qM} {a1 a2 : Int} (hS : Safe μ) (hQ : ∀ a, Q (.inl a) μ) : qmw (d + 1) 49 [(.inr (.inr (.inl (9)))), (.inl (a1)), (.inl (a2))] μ Q := by
  have hb := sa_bsz hS
  rw [e49, g49_0]
  (repeat' with_reducible (first | apply And.intro | intro _))
  all_goals first | omega | exact hQ _
theorem s8 {d : Nat} {Q : qV → qM → Prop} {μ : qM} (hQ : ∀ a, Q (.inl a) μ) : qmw (d + 1) 8 [(.inr (.inr (.inl (15))))] μ Q := by
  rw [e8, g8_0]
  refine qup 3 (P := fun i => ∀ a1, 0 ≤ i → qW d 8 Q 4 [some (.inr (.inr (.inl (15)))), some (.inl (a1)), some (.inl (i))] [] μ) (fun i ih hB a1 h0 => ?_) 0 (by omega) 0 (by omega)
  rw [g8_4]
  (repeat' with_reducible (first | apply And.intro | intro _))
  all_goals first | omega | exact hQ _ | (rw [q32_id (by omega) (by omega)]; exact ih _ (by omega) (by omega) _ (by omega))
theorem s64 {μ0 : qM} {d : Nat} {Q : qV → qM → Prop} {μ : qM} {a2 : Int} (h : Sv μ0 μ) (hQ : ∀ μ', Sv μ0 μ' → Q (.inl 0) μ') : qmw (d + 2) 64 [(.inr (.inr (.inl (16)))), (.inr (.inr (.inl (9)))), (.inl (a2))] μ Q := by
  rw [e64, g64_0]
  refine ⟨fun _ => ?_, fun _ => hQ _ h⟩
  have h2 : Sv μ0 (qu (qu μ 16 4 a2) 16 5 1) := by
    refine Sv_u ?_ (by omega) (by omega) (by intros; omega) (by intros; omega) (by intros; omega)
    refine Sv_u ?_ (by omega) (by omega) (by intros; omega) (by intros; omega) (by intros; omega)
    exact h
  refine qup 21 (P := fun i => ∀ μ, Sv μ0 μ → 0 ≤ i → qW (d + 1) 64 Q 21 [some (.inr (.inr (.inl (16)))), some (.inr (.inr (.inl (9)))), some (.inl (a2)), some (.inl (i))] [] μ) (fun i ih hB μ hm h0 => ?_) 0 (by omega) _ h2 (by omega)
  rw [g64_21]
  refine ⟨fun _ => hQ _ hm, fun h3 => s49 hm.1 (fun a => ?_)⟩
  rw [g64_38]
  refine ⟨by omega, ?_⟩
  rw [q32_id (by omega) (by omega)]
  refine ih _ (by omega) (by omega) _ ?_ (by omega)
  refine Sv_u ?_ (by omega) (by omega) (by intros; omega) (by intros; omega) (by intros; omega)
  exact hm
theorem s4 {μ0 : qM} {d : Nat} {Q : qV → qM → Prop} {μ : qM} {a1 a2 : Int} (h : Sv μ0 μ) (h0 : 0 ≤ a1) (h1 : a1 < 10) (hQ : ∀ μ', Sv μ0 μ' → Q (.inl 0) μ') : qmw (d + 3) 4 [(.inr (.inr (.inl (15)))), (.inl (a1)), (.inl (a2))] μ Q := by
  have hf := sa_fo h.1 a1
  have hl := sa_ls h.1
  rw [e4, g4_0]
  simp only [E65, g4_44]
  (repeat' with_reducible (first | apply And.intro | intro _))
  all_goals first | omega | skip
  · exact hQ _ h
  · refine hQ _ ?_
    have hb : 0 ≤ qand (μ 15 4) (qxor (qshl 1 a1) (-1)) ∧ qand (μ 15 4) (qxor (qshl 1 a1) (-1)) ≤ μ 15 4 := qand_le (by omega) (by omega)
    have e9 : (qu (qu μ 55 (μ 54 a1) (q32 ((μ 55 (μ 54 a1)) - a2))) 56 (μ 54 a1) (q32 ((μ 56 (μ 54 a1)) - 1))) 15 4 = μ 15 4 := by rw [qu_cell (by omega), qu_cell (by omega)]
    rw [e9]
    refine Sv_u ?_ (by omega) (by omega) (by intros; omega) (by intros; omega) (by intros; omega)
    refine Sv_u ?_ (by omega) (by omega) (by intros; omega) (by intros; omega) (by intros; omega)
    refine Sv_u ?_ (by omega) (by omega) (by intros; omega) (by intros; omega) (by intros; omega)
    refine Sv_u ?_ (by omega) (by omega) (by intros; omega) (by intros; omega) (by intros; omega)
    exact h
theorem s5 {μ0 : qM} {d : Nat} {Q : qV → qM → Prop} {μ : qM} {a1 a2 : Int} (h : Sv μ0 μ) (h0 : 0 ≤ a1) (h1 : a1 < 10) (hQ : ∀ μ', Sv μ0 μ' → Q (.inl 0) μ') : qmw (d + 3) 5 [(.inr (.inr (.inl (15)))), (.inl (a1)), (.inl (a2))] μ Q := by
  have hf := sa_fo h.1 a1
  have hl := sa_ls h.1
  rw [e5, g5_0]
  simp only [E65, g5_44]
  (repeat' with_reducible (first | apply And.intro | intro _))
  all_goals first | omega | skip
  · exact hQ _ h
  · refine hQ _ ?_
    have hb := qset1 (a := μ 15 4) (f := a1) (by omega) (by omega) h0 h1
    have e9 : (qu (qu μ 55 (μ 54 a1) (q32 ((μ 55 (μ 54 a1)) + a2))) 56 (μ 54 a1) (q32 ((μ 56 (μ 54 a1)) + 1))) 15 4 = μ 15 4 := by rw [qu_cell (by omega), qu_cell (by omega)]
    rw [e9]
    refine Sv_u ?_ (by omega) (by omega) (by intros; omega) (by intros; omega) (by intros; omega)
    refine Sv_u ?_ (by omega) (by omega) (by intros; omega) (by intros; omega) (by intros; omega)
    refine Sv_u ?_ (by omega) (by omega) (by intros; omega) (by intros; omega) (by intros; omega)
    refine Sv_u ?_ (by omega) (by omega) (by intros; omega) (by intros; omega) (by intros; omega)
    exact h
