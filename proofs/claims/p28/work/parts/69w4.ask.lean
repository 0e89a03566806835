/-! QUESTIONS: the pairs of owed, stands, span -/
section AK4
variable {μ : qM}
/-- isOne -/
theorem y150 {d : Nat} {Q : qV → qM → Prop} (hQ : ∀ a, ((qmax 0 (μ 170 29) = qmax 0 (μ 170 30) ∧ a = 1) ∨ (¬ qmax 0 (μ 170 29) = qmax 0 (μ 170 30) ∧ a = 0)) → Q (.inl a) μ) : qmw (d + 2) 150 [(.inr (.inr (.inl (170))))] μ Q := by
  rw [e150, g150_0, E142, g150_7, E142, g150_14]
  simp only [over_q, qb11, qb00, true_and]
  exact ⟨fun q3 => hQ _ (Or.inr ⟨q3, rfl⟩), fun q3 => hQ _ (Or.inl ⟨q3, rfl⟩)⟩
theorem OW_sv {μ μ1 : qM} (hm : Sv μ μ1) {p day what : Int} (h0 : 0 ≤ p) (h1 : p ≤ 5) : OW μ1 p day what = OW μ p day what := by
  have cf := CF hm (p := p) (day := day) h0 h1
  have k : ∀ j i, 0 ≤ j → j ≤ 10 → μ1 (74 + 11 * p + j) i = μ (74 + 11 * p + j) i := fun j i _ _ => hm.2 _ _ (by omega)
  have e2 : μ1 (74 + 11 * p + 2) = μ (74 + 11 * p + 2) := by
    funext i
    exact k 2 i (by decide) (by decide)
  have ea : avC μ1 (74 + 11 * p) day = avC μ (74 + 11 * p) day := by
    funext f
    unfold avC
    rw [cf.1, k 5 _ (by decide) (by decide), k 6 _ (by decide) (by decide), k 7 _ (by decide) (by decide)]
  unfold OW
  have e1 : FoC μ1 p day = FoC μ p day := cf.1
  rw [e1, cf.2.1, cf.2.2.1, cf.2.2.2.1, cf.2.2.2.2, e2, ea]
theorem q84 {a1 a2 a3 : Int} (h : RC μ) : PE (Qr μ) 84 149 [(.inl (a1)), (.inl (a2)), (.inl (a3))] μ := by
  have hm0 : ∀ {μ1 : qM}, RC μ1 → qmw 20 149 [(.inr (.inr (.inl (170)))), (.inl (a1)), (.inl (a2)), (.inl (a3))] μ1 (fun w μ2 => ((0 ≤ a1 ∧ a1 ≤ 5 ∧ 0 ≤ a2 ∧ a2 ≤ 200 ∧ 0 ≤ a3 ∧ a3 ≤ 3) ∧ w = .inl (OW μ1 a1 a2 a3) ∧ Sm μ1 μ2) ∨ (¬ (0 ≤ a1 ∧ a1 ≤ 5 ∧ 0 ≤ a2 ∧ a2 ≤ 200 ∧ 0 ≤ a3 ∧ a3 ≤ 3) ∧ w = .inl (-1) ∧ μ2 = μ1)) := fun {μ1} hc => by
    rw [e149, g149_0, E133, g149_4, qbr2]
    simp only [E130, E117, g149_11, g149_20, qbr2]
    refine ⟨fun q => Or.inr ⟨by omega, by first | rfl | trivial, by first | rfl | trivial⟩, fun q => ⟨fun q2 => Or.inr ⟨by omega, by first | rfl | trivial, by first | rfl | trivial⟩, fun q2 => ⟨fun q3 => Or.inr ⟨by omega, by first | rfl | trivial, by first | rfl | trivial⟩, fun q3 => x148 (Sm_rf hc.1) hc q.1 q.2 q2.2 q3 (fun μ2 s1 => ?_)⟩⟩⟩
    rw [g149_30]
    exact Or.inl ⟨⟨q.1, q.2, q2.1, q2.2, q3.1, q3.2⟩, rfl, s1⟩
  have no : ¬ (0 ≤ a1 ∧ a1 ≤ 5 ∧ 0 ≤ a2 ∧ a2 ≤ 200 ∧ 0 ≤ a3 ∧ a3 ≤ 3) → ∃ a : Int, (.inl (-1) : qV) = .inl a ∧ qmw 20 149 [(.inr (.inr (.inl (170)))), (.inl (a1)), (.inl (a2)), (.inl (a3))] μ (fun w μ2 => w = .inl a ∧ Qr μ μ2) := fun q => ⟨_, rfl, qmw_cm 20 _ _ _ _ _ (fun w μ2 z => by
    rcases z with ⟨z, -⟩ | ⟨-, z2, z3⟩
    · exact absurd z q
    · rw [z3]
      exact ⟨z2, Qr_rf h⟩) (hm0 h)⟩
  unfold PE
  rw [e84, g84_0, E105, g84_4, qbr]
  simp only [E104, g84_15, g84_24, qbr2, qbr]
  refine ⟨fun q => no (by omega), fun q => ⟨fun q2 => no (by omega), fun q2 => ⟨fun q3 => y109 h (by omega) (by omega) (fun μ1 lb ht => ?_), fun q3 => no (by omega)⟩⟩⟩
  clear no
  rw [g84_35, qra57 (by omega) (by omega)]
  refine ⟨by omega, x13 h (by omega) (by omega) (by omega) lb (by omega) ?_⟩
  rw [g84_49]
  refine ⟨_, rfl, qmw_cm 20 _ _ _ _ _ (fun w μ2 z => ?_) (hm0 (RC_sv h lb.1 ht))⟩
  rcases z with ⟨-, z2, z3⟩ | ⟨z, -⟩
  · rw [OW_sv lb.1 (by omega) (by omega)] at z2
    exact ⟨z2, Qr_of lb.1 ht z3⟩
  · omega
theorem q85 {a1 a2 : Int} (h : RC μ) : PE (Qr μ) 85 151 [(.inl (a1)), (.inl (a2))] μ := by
  have hm0 : ∀ {μ1 : qM}, RC μ1 → qmw 20 151 [(.inr (.inr (.inl (170)))), (.inl (a1)), (.inl (a2))] μ1 (fun w μ2 => ((0 ≤ a1 ∧ a1 ≤ 5 ∧ 0 ≤ a2 ∧ a2 ≤ 200) ∧ w = .inl (if OW μ1 a1 a2 1 = OW μ1 a1 a2 2 then 1 else 0) ∧ Sm μ1 μ2) ∨ (¬ (0 ≤ a1 ∧ a1 ≤ 5 ∧ 0 ≤ a2 ∧ a2 ≤ 200) ∧ w = .inl (-1) ∧ μ2 = μ1)) := fun {μ1} hc => by
    rw [e151, g151_0, E133, g151_4, qbr2]
    simp only [E130, g151_11, qbr]
    refine ⟨fun q => Or.inr ⟨by omega, by first | rfl | trivial, by first | rfl | trivial⟩, fun q => ⟨fun q2 => y144 (Sm_rf hc.1) hc q.1 q.2 q2.2 (fun μ2 s1 s2 => ?_), fun q2 => Or.inr ⟨by omega, by first | rfl | trivial, by first | rfl | trivial⟩⟩⟩
    have g := GT_1 s2
    have o1 : OW μ1 a1 a2 1 = qmax 0 (μ2 170 29) := by
      unfold OW
      rw [if_pos rfl]
      exact g.2.2.1.symm
    have o2 : OW μ1 a1 a2 2 = qmax 0 (μ2 170 30) := by
      unfold OW
      rw [if_neg (by decide), if_pos rfl]
      exact g.2.2.2.symm
    rw [g151_22]
    refine y150 (fun a ha => ?_)
    rw [g151_26, o1, o2]
    rcases ha with ⟨w1, w2⟩ | ⟨w1, w2⟩
    · exact ⟨fun z => by omega, fun _ => Or.inl ⟨⟨q.1, q.2, q2.1, q2.2⟩, by rw [if_pos w1], s1⟩⟩
    · exact ⟨fun _ => Or.inl ⟨⟨q.1, q.2, q2.1, q2.2⟩, by rw [if_neg w1], s1⟩, fun z => absurd w2 z⟩
  have no : ¬ (0 ≤ a1 ∧ a1 ≤ 5 ∧ 0 ≤ a2 ∧ a2 ≤ 200) → ∃ a : Int, (.inl (-1) : qV) = .inl a ∧ qmw 20 151 [(.inr (.inr (.inl (170)))), (.inl (a1)), (.inl (a2))] μ (fun w μ2 => w = .inl a ∧ Qr μ μ2) := fun q => ⟨_, rfl, qmw_cm 20 _ _ _ _ _ (fun w μ2 z => by
    rcases z with ⟨z, -⟩ | ⟨-, z2, z3⟩
    · exact absurd z q
    · rw [z3]
      exact ⟨z2, Qr_rf h⟩) (hm0 h)⟩
  unfold PE
  rw [e85, g85_0, E105, g85_4, qbr]
  simp only [E104, g85_15, qbr2]
  refine ⟨fun q => no (by omega), fun q => ⟨fun q2 => y109 h (by omega) (by omega) (fun μ1 lb ht => ?_), fun q2 => no (by omega)⟩⟩
  clear no
  have hc : isP (74 + 11 * a1) := ⟨a1, by omega, by omega, rfl⟩
  have ok := okP_of h.2.1 h.2.2.2.2.1 (p := a1) (by omega) (by omega)
  have fe := FE_day h.1 h.2.2.2.2.1 h.2.2.2.2.2.1 (p := a1) (day := a2) (by omega) (by omega) (by omega)
  have fin : ∀ a : Int, a = (if OW μ a1 a2 1 = OW μ a1 a2 2 then 1 else 0) → ∃ b : Int, (.inl a : qV) = .inl b ∧ qmw 20 151 [(.inr (.inr (.inl (170)))), (.inl (a1)), (.inl (a2))] μ1 (fun w μ2 => w = .inl b ∧ Qr μ μ2) := fun a ea => ⟨_, rfl, qmw_cm 20 _ _ _ _ _ (fun w μ2 z => by
    rcases z with ⟨-, z2, z3⟩ | ⟨z, -⟩
    · rw [OW_sv lb.1 (by omega) (by omega), OW_sv lb.1 (by omega) (by omega), ← ea] at z2
      exact ⟨z2, Qr_of lb.1 ht z3⟩
    · omega) (hm0 (RC_sv h lb.1 ht))⟩
  have o1 : OW μ a1 a2 1 = LE (FoC μ a1 a2) (SxC μ (74 + 11 * a1) a2) (duC μ a2) (μ (74 + 11 * a1 + 1)) (hC μ (74 + 11 * a1) a2) := by
    unfold OW
    rw [if_pos rfl]
  have o2 : OW μ a1 a2 2 = MO (FoC μ a1 a2) (SxC μ (74 + 11 * a1) a2) (duC μ a2) (μ (74 + 11 * a1 + 1)) (hC μ (74 + 11 * a1) a2) := by
    unfold OW
    rw [if_neg (by decide), if_pos rfl]
  rw [g85_26]
  refine x12 lb.1.1 lb.2.2.2 fe (hC_ok h.1 hc) ok.1 ?_
  rw [g85_33, ← o1, ← o2]
  exact ⟨fun q3 => fin 0 (by rw [if_neg (by omega)]), fun q3 => fin 1 (by rw [if_pos (by omega)])⟩
end AK4
