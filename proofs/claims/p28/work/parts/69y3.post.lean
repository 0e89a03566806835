/-! about, letters, set aside -/
theorem nn_r (c : Int) : (c ≤ 194 → nn c = 1) ∧ (196 ≤ c → c ≤ 203 → nn c = 20) ∧ (204 ≤ c → c ≤ 206 → nn c = 30) := by
  unfold nn
  refine ⟨fun q => if_pos q, fun q q2 => ?_, fun q q2 => ?_⟩
  · rw [if_neg (by omega), if_pos q2]
  · rw [if_neg (by omega), if_neg (by omega), if_pos q2]
section DL
variable {μ : qM}
theorem dl_n (h : RDL μ) : μ 59 7 = μ 191 0 := h.1.1.1
theorem dl_c (h : RDL μ) {k i : Int} (q1 : 0 ≤ k) (q2 : k ≤ 6) (q3 : 0 ≤ i) (q4 : i ≤ 19) : μ (60 + k) i = μ (196 + k) i := by
  have z := h.1.1.2.1 k i q1 q2 q3 q4
  rw [show (20 : Int) * 0 + i = i by omega] at z
  exact z
theorem dl_k (h : RDL μ) {i : Int} (q1 : 0 ≤ i) (q2 : i < μ 191 0) : dok (μ 197 i) (μ 198 i) (μ 199 i) (μ 200 i) (μ 202 i) (μ 203 i) := by
  have z := h.1.1.2.2.1 i q1 q2
  rw [show (20 : Int) * 0 + i = i by omega] at z
  exact z
theorem dl_ln (h : RDL μ) : μ 67 3 = μ 192 0 := h.1.2.1
theorem dl_lc (h : RDL μ) {k i : Int} (q1 : 0 ≤ k) (q2 : k ≤ 2) (q3 : 0 ≤ i) (q4 : i ≤ 29) : μ (68 + k) i = μ (204 + k) i := by
  have z := h.1.2.2 k i q1 q2 q3 q4
  rw [show (30 : Int) * 0 + i = i by omega] at z
  exact z
/-! about -/
theorem x92 {d : Nat} {Q : qV → qM → Prop} {a1 a2 : Int} (hS : Safe μ) (hQ : Q (.inl (if (0 ≤ a1 ∧ a1 < μ 59 7) ∧ 0 ≤ a2 ∧ a2 ≤ 6 then μ (60 + a2) a1 else -1)) μ) : qmw (d + 3) 92 [(.inr (.inr (.inl (0)))), (.inl (a1)), (.inl (a2))] μ Q := by
  have hd := sa_debts hS
  have no : ¬ ((0 ≤ a1 ∧ a1 < μ 59 7) ∧ 0 ≤ a2 ∧ a2 ≤ 6) → Q (.inl (-1)) μ := fun q => by
    rw [if_neg q] at hQ
    exact hQ
  rw [e92, g92_0, E107, g92_5, qbr, q32_id (by omega) (by omega)]
  simp only [E104, g92_15, qbr2]
  refine ⟨fun q => no (by clear hQ no; omega), fun q => ⟨fun q2 => ?_, fun q2 => no (by clear hQ no; omega)⟩⟩
  have hx : 0 ≤ a1 ∧ a1 < 20 := by
    clear hQ no
    omega
  have hy : (0 ≤ a1 ∧ a1 < μ 59 7) ∧ 0 ≤ a2 ∧ a2 ≤ 6 := by
    clear hQ no
    omega
  rw [if_pos hy] at hQ
  clear no
  rw [e29, g29_0]
  simp only [g92_32]
  refine ⟨fun q3 => ⟨hx, ?_⟩, fun q3 => ⟨hx, ?_⟩, fun q3 => ⟨hx, ?_⟩, fun q3 => ⟨hx, ?_⟩, fun q3 => ⟨hx, ?_⟩, fun q3 => ⟨hx, ?_⟩, fun q3 => ⟨hx, ?_⟩, trivial⟩
  · have e : a2 = 6 := by
      clear hQ
      omega
    rw [e] at hQ
    exact hQ
  all_goals
    rw [q3] at hQ
    exact hQ
theorem x169 {d : Nat} {Q : qV → qM → Prop} {a1 a2 : Int} (hS : Safe μ) (hQ : Q (.inl (if (0 ≤ a1 ∧ a1 < μ 191 0) ∧ 0 ≤ a2 ∧ a2 ≤ 6 then μ (196 + a2) a1 else -1)) μ) : qmw (d + 3) 169 [(.inr (.inr (.inl (170)))), (.inl (a1)), (.inl (a2))] μ Q := by
  have hd := sa_mdebts hS 0
  have no : ¬ ((0 ≤ a1 ∧ a1 < μ 191 0) ∧ 0 ≤ a2 ∧ a2 ≤ 6) → Q (.inl (-1)) μ := fun q => by
    rw [if_neg q] at hQ
    exact hQ
  rw [e169, g169_0, E159, g169_5, qbr, q32_id (z := μ 191 0 - 1) (by omega) (by omega)]
  refine ⟨fun q => ?_, fun q => no (by clear hQ no; omega)⟩
  have hx : 0 ≤ a1 ∧ a1 < 60 := by
    clear hQ no
    omega
  have yes : 0 ≤ a2 ∧ a2 ≤ 6 → Q (.inl (μ (196 + a2) a1)) μ := fun q2 => by
    rw [if_pos (by clear hQ no; omega)] at hQ
    exact hQ
  clear hQ
  refine ⟨fun q3 => no (by clear yes no; omega), fun q3 => ⟨hx, ?_⟩, fun q3 => ⟨hx, ?_⟩, fun q3 => ⟨hx, ?_⟩, fun q3 => ⟨hx, ?_⟩, fun q3 => ⟨hx, ?_⟩, fun q3 => ⟨hx, ?_⟩, fun q3 => ⟨hx, ?_⟩, trivial⟩
  all_goals
    have Y := yes (by clear yes no; omega)
    rw [q3] at Y
    exact Y
theorem pd92 {a1 a2 : Int} (h : R4 μ) : PE R4 92 169 [(.inl (a1)), (.inl (a2))] μ := by
  have hS := h.1.1.1.1
  have hd := sa_debts hS
  refine x92 hS ⟨_, rfl, x169 hS ⟨?_, h⟩⟩
  rw [← dl_n h.2]
  by_cases q : (0 ≤ a1 ∧ a1 < μ 59 7) ∧ 0 ≤ a2 ∧ a2 ≤ 6
  · rw [if_pos q, if_pos q, dl_c h.2 q.2.1 q.2.2 q.1.1 (by omega)]
  · rw [if_neg q, if_neg q]
/-! letters -/
def stC (μ : qM) (l : Int) : Int := if μ 58 3 < μ 69 l + 2 then 0 else if μ (74 + 11 * μ 60 (μ 68 l) + 9) (μ 69 l + 2) = μ 70 l then 1 else 2
def stM (μ : qM) (l : Int) : Int := if μ 170 1 < μ 205 l + 2 then 0 else if μ 208 (201 * (2 * μ 196 (μ 204 l) + 0) + (μ 205 l + 2)) = μ 206 l then 1 else 2
theorem st_eq (h : R4 μ) {l : Int} (q1 : 0 ≤ l) (q2 : l ≤ 29) : stC μ l = stM μ l := by
  have hS := h.1.1.1.1
  have hT := h.1.1.1.2.1
  have hP := h.1.1.1.2.2.2.1
  have ht := sa_today hS
  have e0 : μ 68 l = μ 204 l := dl_lc h.2 (k := 0) (by decide) (by decide) q1 q2
  have e1 : μ 69 l = μ 205 l := dl_lc h.2 (k := 1) (by decide) (by decide) q1 q2
  have e2 : μ 70 l = μ 206 l := dl_lc h.2 (k := 2) (by decide) (by decide) q1 q2
  have hl := sa_ld hS l
  have hs := sa_sent hS l
  have e3 : μ 60 (μ 68 l) = μ 196 (μ 68 l) := dl_c h.2 (k := 0) (by decide) (by decide) hl.1 hl.2
  have hp := sa_dp hS (μ 68 l)
  unfold stC stM
  rw [hT.1, ← e0, ← e1, ← e2, ← e3, ← hT.1]
  by_cases q : μ 58 3 < μ 69 l + 2
  · rw [if_pos q, if_pos q]
  · have z : μ (74 + 11 * μ 60 (μ 68 l) + 9) (μ 69 l + 2) = μ 208 (201 * (2 * μ 60 (μ 68 l) + 0) + (μ 69 l + 2)) := hP (μ 60 (μ 68 l)) 0 (μ 69 l + 2) hp.1 hp.2 (by decide) (by decide) (by omega) (by omega)
    rw [if_neg q, if_neg q, z]
theorem x110 {d : Nat} {Q : qV → qM → Prop} {a1 : Int} (hS : Safe μ) (h0 : 0 ≤ a1) (h1 : a1 < 30) (hQ : Q (.inl (stC μ a1)) μ) : qmw (d + 1) 110 [(.inr (.inr (.inl (0)))), (.inl (a1))] μ Q := by
  have ht := sa_today hS
  have hs := sa_sent hS a1
  have hl := sa_ld hS a1
  have hd := sa_dp hS (μ 68 a1)
  have hp := pf (c := 74 + 11 * μ 60 (μ 68 a1)) ⟨_, hd.1, by omega, rfl⟩
  rw [e110, g110_0, q32_id (by omega) (by omega), qra57 hd.1 (by omega)]
  simp only [hp, qif_r]
  clear hp
  unfold stC at hQ
  refine ⟨⟨h0, h1⟩, fun q => ?_, fun q => ⟨fun q2 => ⟨⟨h0, h1⟩, ⟨hl.1, by omega⟩, ⟨hd.1, by omega⟩, ⟨by omega, by omega⟩, ⟨h0, h1⟩, fun q3 => ?_, fun q3 => ?_⟩, fun q2 => absurd q2 (by omega)⟩⟩
  · rw [if_pos q] at hQ
    exact hQ
  · rw [if_neg (Int.not_lt.mpr q), if_neg q3] at hQ
    exact hQ
  · rw [if_neg (Int.not_lt.mpr q), if_pos q3] at hQ
    exact hQ
theorem y161 {d : Nat} {Q : qV → qM → Prop} {a1 a2 a3 : Int} (h0 : 0 ≤ a1) (h1 : a1 < 6) (h2 : 0 ≤ a2) (h3 : a2 < 2) (h4 : 0 ≤ a3) (h5 : a3 ≤ 200) (hQ : Q (.inl (μ 208 (201 * (2 * a1 + a2) + a3))) μ) : qmw (d + 1) 161 [(.inr (.inr (.inl (170)))), (.inl (a1)), (.inl (a2)), (.inl (a3))] μ Q := by
  rw [e161, g161_0, q32_id (z := 2 * a1) (by omega) (by omega), q32_id (z := 2 * a1 + a2) (by omega) (by omega), q32_id (z := 201 * (2 * a1 + a2)) (by omega) (by omega), q32_id (z := 201 * (2 * a1 + a2) + a3) (by omega) (by omega)]
  exact ⟨by omega, hQ⟩
theorem x164 {d : Nat} {Q : qV → qM → Prop} {a1 : Int} (hS : Safe μ) (h0 : 0 ≤ a1) (h1 : a1 < 30) (hQ : Q (.inl (stM μ a1)) μ) : qmw (d + 2) 164 [(.inr (.inr (.inl (170)))), (.inl (a1))] μ Q := by
  have ht := sa_mtoday hS
  have hs := sa_msent hS a1
  have hl := sa_mld hS a1
  have hp := sa_mdp hS (μ 204 a1)
  unfold stM at hQ
  rw [e164, g164_0, q32_id (z := μ 205 a1 + 2) (by omega) (by omega)]
  refine ⟨by omega, fun q => ⟨by omega, by omega, y161 (by omega) (by omega) (by omega) (by omega) (by omega) (by omega) ?_⟩, fun q => ?_⟩
  · rw [g164_36]
    rw [if_neg (Int.not_lt.mpr q)] at hQ
    refine ⟨by omega, fun q3 => ?_, fun q3 => ?_⟩
    · rw [if_neg q3] at hQ
      exact hQ
    · rw [if_pos q3] at hQ
      exact hQ
  · rw [if_pos q] at hQ
    exact hQ
theorem x96 {d : Nat} {Q : qV → qM → Prop} {a1 a2 : Int} (hS : Safe μ) (hQ : Q (.inl (if (0 ≤ a1 ∧ a1 < μ 67 3) ∧ 0 ≤ a2 ∧ a2 ≤ 3 then (if a2 = 3 then stC μ a1 else μ (68 + a2) a1) else -1)) μ) : qmw (d + 2) 96 [(.inr (.inr (.inl (0)))), (.inl (a1)), (.inl (a2))] μ Q := by
  have hl := sa_letters hS
  have no : ¬ ((0 ≤ a1 ∧ a1 < μ 67 3) ∧ 0 ≤ a2 ∧ a2 ≤ 3) → Q (.inl (-1)) μ := fun q => by
    rw [if_neg q] at hQ
    exact hQ
  rw [e96, g96_0, E104, g96_17, qbr, q32_id (by omega) (by omega)]
  simp only [E104, g96_26, qbr2]
  refine ⟨fun q => no (by clear hQ no; omega), fun q => ⟨fun q2 => ?_, fun q2 => no (by clear hQ no; omega)⟩⟩
  have hx : 0 ≤ a1 ∧ a1 < 30 := by
    clear hQ no
    omega
  have hy : (0 ≤ a1 ∧ a1 < μ 67 3) ∧ 0 ≤ a2 ∧ a2 ≤ 3 := by
    clear hQ no
    omega
  rw [if_pos hy] at hQ
  clear no
  refine ⟨fun q3 => x110 hS hx.1 hx.2 ?_, fun q3 => ⟨hx, ?_⟩, fun q3 => ⟨hx, ?_⟩, fun q3 => ⟨hx, ?_⟩, trivial⟩
  · rw [if_pos (by clear hQ; omega)] at hQ
    rw [g96_104]
    exact hQ
  all_goals
    rw [if_neg (by clear hQ; omega), q3] at hQ
    exact hQ
theorem x165 {d : Nat} {Q : qV → qM → Prop} {a1 a2 : Int} (hS : Safe μ) (hQ : Q (.inl (if (0 ≤ a1 ∧ a1 < μ 192 0) ∧ 0 ≤ a2 ∧ a2 ≤ 3 then (if a2 = 3 then stM μ a1 else μ (204 + a2) a1) else -1)) μ) : qmw (d + 3) 165 [(.inr (.inr (.inl (170)))), (.inl (a1)), (.inl (a2))] μ Q := by
  have hl := sa_mletters hS 0
  have no : ¬ ((0 ≤ a1 ∧ a1 < μ 192 0) ∧ 0 ≤ a2 ∧ a2 ≤ 3) → Q (.inl (-1)) μ := fun q => by
    rw [if_neg q] at hQ
    exact hQ
  rw [e165, g165_0, E117, g165_13, qbr2, q32_id (z := μ 192 0 - 1) (by omega) (by omega)]
  simp only [E117, g165_22, qbr, g165_73]
  refine ⟨by omega, fun q => no (by clear hQ no; omega), fun q => ⟨fun q2 => ?_, fun q2 => no (by clear hQ no; omega)⟩⟩
  have hx : 0 ≤ a1 ∧ a1 < 90 := by
    clear hQ no
    omega
  have hx3 : a1 < 30 := by
    clear hQ no
    omega
  have hy : (0 ≤ a1 ∧ a1 < μ 192 0) ∧ 0 ≤ a2 ∧ a2 ≤ 3 := by
    clear hQ no
    omega
  rw [if_pos hy] at hQ
  clear no
  refine ⟨fun q3 => ⟨fun q4 => ⟨fun q5 => x164 hS hx.1 hx3 ?_, fun q5 => ⟨hx, ?_⟩⟩, fun q4 => ⟨hx, ?_⟩⟩, fun q3 => ⟨hx, ?_⟩⟩
  · rw [if_pos (by clear hQ; omega)] at hQ
    rw [g165_73]
    exact hQ
  · rw [if_neg (by clear hQ; omega), q5] at hQ
    exact hQ
  · rw [if_neg (by clear hQ; omega), q4] at hQ
    exact hQ
  · rw [if_neg (by clear hQ; omega), q3] at hQ
    exact hQ
theorem pd96 {a1 a2 : Int} (h : R4 μ) : PE R4 96 165 [(.inl (a1)), (.inl (a2))] μ := by
  have hS := h.1.1.1.1
  have hd := sa_letters hS
  refine x96 hS ⟨_, rfl, x165 hS ⟨?_, h⟩⟩
  rw [← dl_ln h.2]
  by_cases q : (0 ≤ a1 ∧ a1 < μ 67 3) ∧ 0 ≤ a2 ∧ a2 ≤ 3
  · rw [if_pos q, if_pos q]
    by_cases q3 : a2 = 3
    · rw [if_pos q3, if_pos q3, st_eq h q.1.1 (by omega)]
    · rw [if_neg q3, if_neg q3, dl_lc h.2 q.2.1 (by omega) q.1.1 (by omega)]
  · rw [if_neg q, if_neg q]
/-! a new letter -/
theorem x95 {d : Nat} {Q : qV → qM → Prop} {a1 : Int} (hS : Safe μ) (hQ : ∀ a μ', ((¬ (0 ≤ a1 ∧ a1 < μ 59 7) ∧ a = -1 ∧ μ' = μ) ∨ ((0 ≤ a1 ∧ a1 < μ 59 7) ∧ 30 ≤ μ 67 3 ∧ a = -3 ∧ μ' = μ) ∨ ((0 ≤ a1 ∧ a1 < μ 59 7) ∧ μ 67 3 < 30 ∧ a = μ 67 3 ∧ Sd μ μ' ∧ μ' = qu (qu (qu (qu μ 68 (μ 67 3) a1) 69 (μ 67 3) (μ 58 3)) 70 (μ 67 3) (μ (74 + 11 * μ 60 a1 + 10) (μ 58 3))) 67 3 (μ 67 3 + 1))) → Q (.inl a) μ') : qmw (d + 3) 95 [(.inr (.inr (.inl (0)))), (.inl (a1))] μ Q := by
  have hd := sa_debts hS
  have hl := sa_letters hS
  have hpd := sa_dp hS a1
  have ht := sa_today hS
  have hp := pf (c := 74 + 11 * μ 60 a1) ⟨_, hpd.1, by omega, rfl⟩
  rw [e95, g95_0, E107, g95_5, qbr2, q32_id (by omega) (by omega), qra57 hpd.1 (by omega)]
  simp only [hp, qif_r]
  clear hp
  refine ⟨fun q => ⟨by omega, by omega, by omega, ?_⟩, fun q => hQ _ _ (Or.inl ⟨by omega, rfl, rfl⟩)⟩
  rw [e35, g35_0, q32_id (z := μ 67 3 + 1) (by omega) (by omega), q32_id (z := μ 67 3 + 1 - 1) (by omega) (by omega), show μ 67 3 + 1 - 1 = μ 67 3 by omega]
  have hq : 0 ≤ a1 ∧ a1 < μ 59 7 := by omega
  refine ⟨fun q2 => ⟨by omega, by omega, by omega, ?_⟩, fun q2 => ?_⟩
  · rw [g95_58]
    refine hQ _ _ (Or.inr (Or.inr ⟨hq, q2, rfl, ?_, rfl⟩))
    clear hQ
    refine Sd_w (Sd_w (Sd_w (Sd_w (Sd_rf hS) ?_ ?_ ?_ ?_ ?_ ?_ ?_ ?_) ?_ ?_ ?_ ?_ ?_ ?_ ?_ ?_) ?_ ?_ ?_ ?_ ?_ ?_ ?_ ?_) ?_ ?_ ?_ ?_ ?_ ?_ ?_ ?_ <;> intros <;> omega
  · rw [g95_58]
    exact hQ _ _ (Or.inr (Or.inl ⟨hq, q2, rfl, rfl⟩))
theorem x163 {d : Nat} {Q : qV → qM → Prop} {a1 : Int} (hS : Safe μ) (hQ : ∀ a μ', ((¬ (0 ≤ a1 ∧ a1 < μ 191 0) ∧ a = -1 ∧ μ' = μ) ∨ ((0 ≤ a1 ∧ a1 < μ 191 0) ∧ 30 ≤ μ 192 0 ∧ a = -3 ∧ μ' = μ) ∨ ((0 ≤ a1 ∧ a1 < μ 191 0) ∧ μ 192 0 < 30 ∧ a = μ 192 0 ∧ Sn μ μ' ∧ μ' = qu (qu (qu (qu μ 204 (μ 192 0) a1) 205 (μ 192 0) (μ 170 1)) 206 (μ 192 0) (μ 208 (201 * (2 * μ 196 a1 + 1) + μ 170 1))) 192 0 (μ 192 0 + 1))) → Q (.inl a) μ') : qmw (d + 3) 163 [(.inr (.inr (.inl (170)))), (.inl (a1))] μ Q := by
  have hd := sa_mdebts hS 0
  have hl := sa_mletters hS 0
  have ht := sa_mtoday hS
  have hp := sa_mdp hS a1
  rw [e163, g163_0, E159, g163_5, qbr, q32_id (z := μ 191 0 - 1) (by omega) (by omega)]
  refine ⟨fun q => ⟨by omega, fun q2 => ⟨by omega, by omega, by omega, by omega, y161 (by omega) (by omega) (by omega) (by omega) (by omega) (by omega) ?_⟩, fun q2 => hQ _ _ (Or.inr (Or.inl ⟨by omega, by omega, rfl, rfl⟩))⟩, fun q => hQ _ _ (Or.inl ⟨by omega, rfl, rfl⟩)⟩
  have e1 : (qu (qu μ 204 (μ 192 0) a1) 205 (μ 192 0) (μ 170 1)) 192 0 = μ 192 0 := by rw [qu_cell (by omega), qu_cell (by omega)]
  have e2 : ∀ i, (qu (qu μ 204 (μ 192 0) a1) 205 (μ 192 0) (μ 170 1)) 208 i = μ 208 i := fun i => by rw [qu_cell (by omega), qu_cell (by omega)]
  have hq : 0 ≤ a1 ∧ a1 < μ 191 0 := by omega
  have hl3 : μ 192 0 < 30 := by omega
  rw [g163_68, e2]
  refine ⟨by omega, by omega, by omega, ?_⟩
  rw [e1, q32_id (z := μ 192 0 + 1) (by omega) (by omega)]
  refine hQ _ _ (Or.inr (Or.inr ⟨hq, hl3, rfl, ?_, rfl⟩))
  clear hQ e2 e1
  refine Sn_x (Sn_x (Sn_x (Sn_x (Sn_rf hS) ?_ ?_ ?_ ?_ ?_ ?_ ?_) ?_ ?_ ?_ ?_ ?_ ?_ ?_) ?_ ?_ ?_ ?_ ?_ ?_ ?_) ?_ ?_ ?_ ?_ ?_ ?_ ?_ <;> intros <;> omega
theorem pd95 {a1 : Int} (h : R4 μ) : PE R4 95 163 [(.inl (a1))] μ := by
  have hS := h.1.1.1.1
  have en := dl_n h.2
  have el := dl_ln h.2
  have hd := sa_debts hS
  have hl := sa_letters hS
  have ht := sa_today hS
  have hT := h.1.1.1.2.1.1
  have hPl := h.1.1.1.2.2.2.1
  refine x95 hS (fun a μ1 z => ⟨a, rfl, ?_⟩)
  rcases z with ⟨q, ea, m1⟩ | ⟨q, q2, ea, m1⟩ | ⟨q, q2, ea, r1, m1⟩
  · subst m1
    refine x163 hS (fun b μ2 y => ?_)
    rcases y with ⟨-, eb, m2⟩ | ⟨y, -⟩ | ⟨y, -⟩
    · rw [m2]
      exact ⟨by rw [eb, ea], h⟩
    · exact absurd y (by rw [← en]; exact q)
    · exact absurd y (by rw [← en]; exact q)
  · subst m1
    refine x163 hS (fun b μ2 y => ?_)
    rcases y with ⟨y, -⟩ | ⟨-, -, eb, m2⟩ | ⟨-, y, -⟩
    · exact absurd q (by rw [en]; exact y)
    · rw [m2]
      exact ⟨by rw [eb, ea], h⟩
    · omega
  · have F1 : ∀ c i, ¬ (59 ≤ c ∧ c ≤ 70) → μ1 c i = μ c i := r1.2
    have k191 := F1 191 0 (by decide)
    have k192 := F1 192 0 (by decide)
    refine x163 r1.1 (fun b μ2 y => ?_)
    rw [k191, k192, ← en, ← el] at y
    rcases y with ⟨y, -⟩ | ⟨-, y, -⟩ | ⟨-, -, eb, r2, m2⟩
    · exact absurd q y
    · omega
    · have e170 : μ1 170 1 = μ 58 3 := (F1 170 1 (by decide)).trans hT.symm
      have e196 : μ1 196 a1 = μ 60 a1 := (F1 196 a1 (by decide)).trans (dl_c h.2 (k := 0) (by decide) (by decide) q.1 (by omega)).symm
      have hpd := sa_dp hS a1
      have e208 : μ1 208 (201 * (2 * μ 60 a1 + 1) + μ 58 3) = μ (74 + 11 * μ 60 a1 + 10) (μ 58 3) := (F1 208 _ (by decide)).trans (hPl (μ 60 a1) 1 (μ 58 3) hpd.1 hpd.2 (by decide) (by decide) ht.1 ht.2).symm
      rw [e170, e196, e208] at m2
      have R3' := R3_n (R3_d h.1 r1) r2
      refine ⟨by rw [eb, ea], R3', RDL_w hS h.2 (fun c i k1 k2 => ?_) (fun c i k1 k2 k3 => ?_) ⟨RDb_cp h.2.1.1 (sa_mdebts hS 0).2 ?_ (fun k i k1 k2 => ?_) ?_ (fun m i k1 k2 k3 k4 => ?_) ?_, ?_, fun k i k1 k2 k3 k4 => ?_⟩⟩
      · rw [r2.2 c i (Or.inl (by omega)), F1 c i (by omega)]
      · have n := nn_r c
        rw [m2, qu_ne (by omega), qu_ne (by omega), qu_ne (by omega), qu_ne (by omega), F1 c i (by omega)]
      · show μ2 59 7 = μ 59 7
        rw [r2.2 59 7 (Or.inl (by decide)), m1, qu_cell (by decide), qu_cell (by decide), qu_cell (by decide), qu_cell (by decide)]
      · rw [r2.2 _ i (Or.inl (by omega)), m1, qu_cell (by omega), qu_cell (by omega), qu_cell (by omega), qu_cell (by omega)]
      · rw [m2, qu_cell (by decide), qu_cell (by decide), qu_cell (by decide), qu_cell (by decide), k191]
      · rw [m2, qu_cell (by omega), qu_cell (by omega), qu_cell (by omega), qu_cell (by omega), F1 m _ (by omega)]
      · rw [m2, qu_cell (by decide), qu_cell (by decide), qu_cell (by decide), qu_cell (by decide), F1 194 0 (by decide)]
      · show μ2 67 3 = μ2 192 0
        rw [r2.2 67 3 (Or.inl (by decide)), m1, qu_same, m2, qu_same]
      · rw [show (30 : Int) * 0 + i = i by omega, r2.2 _ i (Or.inl (by omega)), m1, m2, qu_cell (c := 67) (by omega), qu_cell (c := 192) (by omega)]
        have old := dl_lc h.2 k1 k2 k3 k4
        rcases (show k = 0 ∨ k = 1 ∨ k = 2 by omega) with rfl | rfl | rfl
        · show (qu (qu (qu μ 68 (μ 67 3) a1) 69 (μ 67 3) (μ 58 3)) 70 (μ 67 3) (μ (74 + 11 * μ 60 a1 + 10) (μ 58 3))) 68 i = (qu (qu (qu μ1 204 (μ 67 3) a1) 205 (μ 67 3) (μ 58 3)) 206 (μ 67 3) (μ (74 + 11 * μ 60 a1 + 10) (μ 58 3))) 204 i
          rw [qu_cell (c := 70) (by decide), qu_cell (c := 69) (by decide), qu_cell (c := 206) (by decide), qu_cell (c := 205) (by decide)]
          by_cases e : i = μ 67 3
          · rw [e, qu_same, qu_same]
          · rw [qu_ne (c := 68) (by omega), qu_ne (c := 204) (by omega), F1 204 i (by decide)]
            exact old
        · show (qu (qu (qu μ 68 (μ 67 3) a1) 69 (μ 67 3) (μ 58 3)) 70 (μ 67 3) (μ (74 + 11 * μ 60 a1 + 10) (μ 58 3))) 69 i = (qu (qu (qu μ1 204 (μ 67 3) a1) 205 (μ 67 3) (μ 58 3)) 206 (μ 67 3) (μ (74 + 11 * μ 60 a1 + 10) (μ 58 3))) 205 i
          rw [qu_cell (c := 70) (by decide), qu_cell (c := 206) (by decide)]
          by_cases e : i = μ 67 3
          · rw [e, qu_same, qu_same]
          · rw [qu_ne (c := 69) (by omega), qu_ne (c := 205) (by omega), qu_cell (c := 68) (by decide), qu_cell (c := 204) (by decide), F1 205 i (by decide)]
            exact old
        · show (qu (qu (qu μ 68 (μ 67 3) a1) 69 (μ 67 3) (μ 58 3)) 70 (μ 67 3) (μ (74 + 11 * μ 60 a1 + 10) (μ 58 3))) 70 i = (qu (qu (qu μ1 204 (μ 67 3) a1) 205 (μ 67 3) (μ 58 3)) 206 (μ 67 3) (μ (74 + 11 * μ 60 a1 + 10) (μ 58 3))) 206 i
          by_cases e : i = μ 67 3
          · rw [e, qu_same, qu_same]
          · rw [qu_ne (c := 70) (by omega), qu_ne (c := 206) (by omega), qu_cell (c := 69) (by decide), qu_cell (c := 205) (by decide), qu_cell (c := 68) (by decide), qu_cell (c := 204) (by decide), F1 206 i (by decide)]
            exact old
end DL
