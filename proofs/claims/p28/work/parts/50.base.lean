/-! PURE LEAN FROM HERE ON: ranges of the memory, rules for loops, plain methods -/
theorem q32_id {z : Int} (h1 : -2147483648 ≤ z) (h2 : z ≤ 2147483647) : q32 z = z := fb_ofI h1 (by omega)
theorem qup (B : Int) {P : Int → Prop} (h : ∀ i, (∀ j, i < j → j ≤ B → P j) → i ≤ B → P i) : ∀ i, i ≤ B → P i := by
  have key : ∀ (n : Nat) (i : Int), B - i < n → i ≤ B → P i := by
    intro n
    induction n with
    | zero => intro i h1 h2; omega
    | succ n ih => intro i h1 h2; exact h i (fun j hj hB => ih j (by omega) hB) h2
  intro i hi
  exact key ((B - i).toNat + 1) i (by omega) hi
theorem qdn (B : Int) {P : Int → Prop} (h : ∀ i, (∀ j, j < i → B ≤ j → P j) → B ≤ i → P i) : ∀ i, B ≤ i → P i := by
  have key : ∀ (n : Nat) (i : Int), i - B < n → B ≤ i → P i := by
    intro n
    induction n with
    | zero => intro i h1 h2; omega
    | succ n ih => intro i h1 h2; exact h i (fun j hj hB => ih j (by omega) hB) h2
  intro i hi
  exact key ((i - B).toNat + 1) i (by omega) hi
theorem qif_r {n : Nat} {P : Prop} : qif (Nat.beq n n) P = P := qif_e rfl
theorem qb01 {p : Prop} [Decidable p] : (0 ≤ (if p then (1 : Int) else 0) ∧ (if p then (1 : Int) else 0) ≤ 1) = True := by
  by_cases h : p
  · simp [h]
  · simp [h]
theorem qb11 : (0 ≤ (1 : Int) ∧ (1 : Int) ≤ 1) = True := by simp
theorem qb00 : (0 ≤ (0 : Int) ∧ (0 : Int) ≤ 1) = True := by simp
/-- a branch on what a test answers -/
theorem qbr {p : Prop} [Decidable p] {A B : Prop} : ((¬ (if p then (1 : Int) else 0) = 0 → A) ∧ ((if p then (1 : Int) else 0) = 0 → B)) = ((p → A) ∧ (¬ p → B)) := by
  by_cases h : p
  · simp [h]
  · simp [h]
theorem qbr2 {p : Prop} [Decidable p] {A B : Prop} : (((if p then (1 : Int) else 0) = 0 → A) ∧ (¬ (if p then (1 : Int) else 0) = 0 → B)) = ((¬ p → A) ∧ (p → B)) := by
  by_cases h : p
  · simp [h]
  · simp [h]
/-! persons -/
def isP (c : Int) : Prop := ∃ p : Int, 0 ≤ p ∧ p < 6 ∧ c = 74 + 11 * p
theorem pf {c : Int} (h : isP c) : qty c = 5 ∧ (qrf c 0 = c + 1 ∧ qrf c 1 = c + 2 ∧ qrf c 2 = c + 3 ∧ qrf c 3 = c + 4 ∧ qrf c 4 = c + 5 ∧ qrf c 5 = c + 6 ∧ qrf c 6 = c + 7 ∧ qrf c 7 = c + 8 ∧ qrf c 8 = c + 9 ∧ qrf c 9 = c + 10) ∧ (qty (c + 1) = 100 ∧ qty (c + 2) = 100 ∧ qty (c + 3) = 100 ∧ qty (c + 4) = 100 ∧ qty (c + 5) = 100 ∧ qty (c + 6) = 100 ∧ qty (c + 7) = 100 ∧ qty (c + 8) = 100 ∧ qty (c + 9) = 100 ∧ qty (c + 10) = 100) ∧ (qal (c + 1) = 10 ∧ qal (c + 2) = 10 ∧ qal (c + 3) = 10 ∧ qal (c + 4) = 10 ∧ qal (c + 5) = 3 ∧ qal (c + 6) = 3 ∧ qal (c + 7) = 3 ∧ qal (c + 8) = 3 ∧ qal (c + 9) = 201 ∧ qal (c + 10) = 201) := by
  obtain ⟨p, h0, h1, rfl⟩ := h
  rcases (show p = 0 ∨ p = 1 ∨ p = 2 ∨ p = 3 ∨ p = 4 ∨ p = 5 by omega) with rfl | rfl | rfl | rfl | rfl | rfl <;> decide +kernel
theorem qra57 {p : Int} (h0 : 0 ≤ p) (h1 : p < 6) : qra 57 p = 74 + 11 * p := by
  rcases (show p = 0 ∨ p = 1 ∨ p = 2 ∨ p = 3 ∨ p = 4 ∨ p = 5 by omega) with rfl | rfl | rfl | rfl | rfl | rfl <;> decide +kernel
theorem isP57 {p : Int} (h0 : 0 ≤ p) (h1 : p < 6) : isP (qra 57 p) := ⟨p, h0, h1, qra57 h0 h1⟩
/-! ranges -/
def sf (c i v : Int) : Prop :=
  ((c = 1 ∧ i = 2) → 0 ≤ v ∧ v ≤ 300) ∧
  (((c = 3 ∨ c = 9) ∧ i = 5) → 0 ≤ v ∧ v ≤ 6) ∧
  ((c = 16 ∧ (i = 5 ∨ i = 6)) → 1 ≤ v ∧ v ≤ 11) ∧
  (c = 54 → -1 ≤ v ∧ v ≤ 2) ∧
  ((74 ≤ c ∧ c < 140 ∧ (c - 74) % 11 = 0 ∧ i = 10) → 0 ≤ v ∧ v ≤ 3) ∧
  (((c = 58 ∨ c = 140 ∨ c = 155) ∧ i = 3) → 0 ≤ v ∧ v ≤ 200) ∧
  (((c = 59 ∨ c = 141 ∨ c = 156) ∧ i = 7) → 0 ≤ v ∧ v ≤ 20) ∧
  ((c = 60 ∨ c = 142 ∨ c = 157) → 0 ≤ v ∧ v ≤ 5) ∧
  (((c = 67 ∨ c = 149 ∨ c = 164) ∧ i = 3) → 0 ≤ v ∧ v ≤ 30) ∧
  ((c = 68 ∨ c = 150 ∨ c = 165) → 0 ≤ v ∧ v ≤ 19) ∧
  ((c = 69 ∨ c = 151 ∨ c = 166) → 0 ≤ v ∧ v ≤ 200) ∧
  (((c = 71 ∨ c = 153 ∨ c = 168) ∧ i = 1) → 0 ≤ v ∧ v ≤ 40) ∧
  ((c = 170 ∧ i = 1) → 0 ≤ v ∧ v ≤ 200) ∧
  ((c = 170 ∧ i = 3) → 0 ≤ v ∧ v ≤ 300) ∧
  ((c = 170 ∧ i = 4) → 0 ≤ v ∧ v ≤ 6) ∧
  (c = 178 → 0 ≤ v ∧ v ≤ 20) ∧
  ((c = 179 ∨ c = 186) → v = -9 ∨ (0 ≤ v ∧ v ≤ 20)) ∧
  (c = 181 → 0 ≤ v ∧ v ≤ 3) ∧
  ((c = 182 ∨ c = 183) → 0 ≤ v ∧ v ≤ 9) ∧
  (c = 184 → 0 ≤ v ∧ v ≤ 200) ∧
  (c = 191 → 0 ≤ v ∧ v ≤ 20) ∧
  (c = 192 → 0 ≤ v ∧ v ≤ 30) ∧
  (c = 193 → 0 ≤ v ∧ v ≤ 40) ∧
  (c = 195 → 0 ≤ v ∧ v ≤ 200) ∧
  (c = 196 → 0 ≤ v ∧ v ≤ 5) ∧
  (c = 204 → 0 ≤ v ∧ v ≤ 19) ∧
  (c = 205 → 0 ≤ v ∧ v ≤ 200) ∧
  (c = 207 → 0 ≤ v ∧ v ≤ 60) ∧
  ((c = 58 ∨ c = 140 ∨ c = 155) → i = 4 → 0 ≤ v ∧ v ≤ 1) ∧
  ((c = 15 ∧ i = 4) → 0 ≤ v ∧ v ≤ 1023) ∧
  ((74 ≤ c ∧ c < 140 ∧ (c - 74) % 11 = 3) → -1 ≤ v ∧ v ≤ 20)
def Safe (μ : qM) : Prop := (∀ c i, sf c i (μ c i)) ∧ (∀ k, μ 182 k ≤ μ 183 k) ∧ (∀ k, 0 ≤ k → k < μ 170 4 → 1 ≤ μ 176 k)
theorem Safe_u {μ : qM} {c i v : Int} (h : Safe μ) (hv : sf c i v) (h1 : ¬ c = 182) (h2 : ¬ c = 183) (h3 : ¬ (c = 170 ∧ i = 4)) (h4 : ¬ c = 176) : Safe (qu μ c i v) := by
  refine ⟨fun c' i' => ?_, fun k => ?_, fun k h5 h6 => ?_⟩
  · by_cases e : c' = c ∧ i' = i
    · obtain ⟨rfl, rfl⟩ := e
      rw [qu_same]
      exact hv
    · rw [qu_ne e]
      exact h.1 c' i'
  · rw [qu_cell (by omega), qu_cell (by omega)]
    exact h.2.1 k
  · rw [qu_cell (by omega)]
    rw [qu_ne (by omega)] at h6
    exact h.2.2 k h5 h6
/-! accessors -/
section SA
variable {μ : qM} (h : Safe μ)
theorem sa_len (h : Safe μ) : 0 ≤ μ 1 2 ∧ μ 1 2 ≤ 300 := (h.1 1 2).1 ⟨rfl, rfl⟩
theorem sa_dsz (h : Safe μ) : 0 ≤ μ 3 5 ∧ μ 3 5 ≤ 6 := (h.1 3 5).2.1 ⟨Or.inl rfl, rfl⟩
theorem sa_bsz (h : Safe μ) : 0 ≤ μ 9 5 ∧ μ 9 5 ≤ 6 := (h.1 9 5).2.1 ⟨Or.inr rfl, rfl⟩
theorem sa_dr (h : Safe μ) : 1 ≤ μ 16 5 ∧ μ 16 5 ≤ 11 := (h.1 16 5).2.2.1 ⟨rfl, Or.inl rfl⟩
theorem sa_wr (h : Safe μ) : 1 ≤ μ 16 6 ∧ μ 16 6 ≤ 11 := (h.1 16 6).2.2.1 ⟨rfl, Or.inr rfl⟩
theorem sa_fo (h : Safe μ) (i : Int) : -1 ≤ μ 54 i ∧ μ 54 i ≤ 2 := (h.1 54 i).2.2.2.1 rfl
theorem sa_firms (h : Safe μ) {c : Int} (hc : isP c) : 0 ≤ μ c 10 ∧ μ c 10 ≤ 3 := by
  obtain ⟨p, h0, h1, rfl⟩ := hc
  exact (h.1 _ 10).2.2.2.2.1 ⟨by omega, by omega, by omega, rfl⟩
theorem sa_today (h : Safe μ) : 0 ≤ μ 58 3 ∧ μ 58 3 ≤ 200 := (h.1 58 3).2.2.2.2.2.1 ⟨Or.inl rfl, rfl⟩
theorem sa_debts (h : Safe μ) : 0 ≤ μ 59 7 ∧ μ 59 7 ≤ 20 := (h.1 59 7).2.2.2.2.2.2.1 ⟨Or.inl rfl, rfl⟩
theorem sa_dp (h : Safe μ) (i : Int) : 0 ≤ μ 60 i ∧ μ 60 i ≤ 5 := (h.1 60 i).2.2.2.2.2.2.2.1 (Or.inl rfl)
theorem sa_letters (h : Safe μ) : 0 ≤ μ 67 3 ∧ μ 67 3 ≤ 30 := (h.1 67 3).2.2.2.2.2.2.2.2.1 ⟨Or.inl rfl, rfl⟩
theorem sa_ld (h : Safe μ) (i : Int) : 0 ≤ μ 68 i ∧ μ 68 i ≤ 19 := (h.1 68 i).2.2.2.2.2.2.2.2.2.1 (Or.inl rfl)
theorem sa_sent (h : Safe μ) (i : Int) : 0 ≤ μ 69 i ∧ μ 69 i ≤ 200 := (h.1 69 i).2.2.2.2.2.2.2.2.2.2.1 (Or.inl rfl)
theorem sa_line (h : Safe μ) : 0 ≤ μ 71 1 ∧ μ 71 1 ≤ 40 := (h.1 71 1).2.2.2.2.2.2.2.2.2.2.2.1 ⟨Or.inl rfl, rfl⟩
theorem sa_mtoday (h : Safe μ) : 0 ≤ μ 170 1 ∧ μ 170 1 ≤ 200 := (h.1 170 1).2.2.2.2.2.2.2.2.2.2.2.2.1 ⟨rfl, rfl⟩
theorem sa_typed (h : Safe μ) : 0 ≤ μ 170 3 ∧ μ 170 3 ≤ 300 := (h.1 170 3).2.2.2.2.2.2.2.2.2.2.2.2.2.1 ⟨rfl, rfl⟩
theorem sa_rules (h : Safe μ) : 0 ≤ μ 170 4 ∧ μ 170 4 ≤ 6 := (h.1 170 4).2.2.2.2.2.2.2.2.2.2.2.2.2.2.1 ⟨rfl, rfl⟩
theorem sa_truth (h : Safe μ) (i : Int) : 0 ≤ μ 178 i ∧ μ 178 i ≤ 20 := (h.1 178 i).2.2.2.2.2.2.2.2.2.2.2.2.2.2.2.1 rfl
theorem sa_slip (h : Safe μ) (i : Int) : μ 179 i = -9 ∨ (0 ≤ μ 179 i ∧ μ 179 i ≤ 20) := (h.1 179 i).2.2.2.2.2.2.2.2.2.2.2.2.2.2.2.2.1 (Or.inl rfl)
theorem sa_mheld (h : Safe μ) (i : Int) : μ 186 i = -9 ∨ (0 ≤ μ 186 i ∧ μ 186 i ≤ 20) := (h.1 186 i).2.2.2.2.2.2.2.2.2.2.2.2.2.2.2.2.1 (Or.inr rfl)
theorem sa_mfirms (h : Safe μ) (i : Int) : 0 ≤ μ 181 i ∧ μ 181 i ≤ 3 := (h.1 181 i).2.2.2.2.2.2.2.2.2.2.2.2.2.2.2.2.2.1 rfl
theorem sa_mfrom (h : Safe μ) (i : Int) : 0 ≤ μ 182 i ∧ μ 182 i ≤ 9 := (h.1 182 i).2.2.2.2.2.2.2.2.2.2.2.2.2.2.2.2.2.2.1 (Or.inl rfl)
theorem sa_mto (h : Safe μ) (i : Int) : 0 ≤ μ 183 i ∧ μ 183 i ≤ 9 := (h.1 183 i).2.2.2.2.2.2.2.2.2.2.2.2.2.2.2.2.2.2.1 (Or.inr rfl)
theorem sa_msum (h : Safe μ) (i : Int) : 0 ≤ μ 184 i ∧ μ 184 i ≤ 200 := (h.1 184 i).2.2.2.2.2.2.2.2.2.2.2.2.2.2.2.2.2.2.2.1 rfl
theorem sa_mdebts (h : Safe μ) (i : Int) : 0 ≤ μ 191 i ∧ μ 191 i ≤ 20 := (h.1 191 i).2.2.2.2.2.2.2.2.2.2.2.2.2.2.2.2.2.2.2.2.1 rfl
theorem sa_mletters (h : Safe μ) (i : Int) : 0 ≤ μ 192 i ∧ μ 192 i ≤ 30 := (h.1 192 i).2.2.2.2.2.2.2.2.2.2.2.2.2.2.2.2.2.2.2.2.2.1 rfl
theorem sa_mcalls (h : Safe μ) (i : Int) : 0 ≤ μ 193 i ∧ μ 193 i ≤ 40 := (h.1 193 i).2.2.2.2.2.2.2.2.2.2.2.2.2.2.2.2.2.2.2.2.2.2.1 rfl
theorem sa_mdays (h : Safe μ) (i : Int) : 0 ≤ μ 195 i ∧ μ 195 i ≤ 200 := (h.1 195 i).2.2.2.2.2.2.2.2.2.2.2.2.2.2.2.2.2.2.2.2.2.2.2.1 rfl
theorem sa_mdp (h : Safe μ) (i : Int) : 0 ≤ μ 196 i ∧ μ 196 i ≤ 5 := (h.1 196 i).2.2.2.2.2.2.2.2.2.2.2.2.2.2.2.2.2.2.2.2.2.2.2.2.1 rfl
theorem sa_mld (h : Safe μ) (i : Int) : 0 ≤ μ 204 i ∧ μ 204 i ≤ 19 := (h.1 204 i).2.2.2.2.2.2.2.2.2.2.2.2.2.2.2.2.2.2.2.2.2.2.2.2.2.1 rfl
theorem sa_msent (h : Safe μ) (i : Int) : 0 ≤ μ 205 i ∧ μ 205 i ≤ 200 := (h.1 205 i).2.2.2.2.2.2.2.2.2.2.2.2.2.2.2.2.2.2.2.2.2.2.2.2.2.2.1 rfl
theorem sa_mmin (h : Safe μ) (i : Int) : 0 ≤ μ 207 i ∧ μ 207 i ≤ 60 := (h.1 207 i).2.2.2.2.2.2.2.2.2.2.2.2.2.2.2.2.2.2.2.2.2.2.2.2.2.2.2.1 rfl
theorem sa_kept (h : Safe μ) : 0 ≤ μ 58 4 ∧ μ 58 4 ≤ 1 := (h.1 58 4).2.2.2.2.2.2.2.2.2.2.2.2.2.2.2.2.2.2.2.2.2.2.2.2.2.2.2.2.1 (Or.inl rfl) rfl
theorem sa_ls (h : Safe μ) : 0 ≤ μ 15 4 ∧ μ 15 4 ≤ 1023 := (h.1 15 4).2.2.2.2.2.2.2.2.2.2.2.2.2.2.2.2.2.2.2.2.2.2.2.2.2.2.2.2.2.1 ⟨rfl, rfl⟩
theorem sa_sp (h : Safe μ) {c : Int} (hc : isP c) (i : Int) : -1 ≤ μ (c + 3) i ∧ μ (c + 3) i ≤ 20 := by
  obtain ⟨p, h0, h1, rfl⟩ := hc
  exact (h.1 _ i).2.2.2.2.2.2.2.2.2.2.2.2.2.2.2.2.2.2.2.2.2.2.2.2.2.2.2.2.2.2 ⟨by omega, by omega, by omega⟩
end SA
/-! the view: only the cells 15 .. 56 change -/
def Sv (μ0 μ : qM) : Prop := Safe μ ∧ ∀ c i, (c < 15 ∨ 56 < c) → μ c i = μ0 c i
theorem Sv_rf {μ : qM} (h : Safe μ) : Sv μ μ := ⟨h, fun _ _ _ => rfl⟩
theorem Sv_u {μ0 μ : qM} {c i v : Int} (h : Sv μ0 μ) (h1 : 15 ≤ c) (h2 : c ≤ 56) (h3 : c = 16 → (i = 5 ∨ i = 6) → 1 ≤ v ∧ v ≤ 11) (h4 : c = 54 → -1 ≤ v ∧ v ≤ 2) (h5 : c = 15 → i = 4 → 0 ≤ v ∧ v ≤ 1023) : Sv μ0 (qu μ c i v) := by
  refine ⟨Safe_u h.1 ?_ (by omega) (by omega) (by omega) (by omega), fun c' i' hc => by rw [qu_cell (by omega)]; exact h.2 c' i' hc⟩
  unfold sf
  refine ⟨?_, ?_, ?_, ?_, ?_, ?_, ?_, ?_, ?_, ?_, ?_, ?_, ?_, ?_, ?_, ?_, ?_, ?_, ?_, ?_, ?_, ?_, ?_, ?_, ?_, ?_, ?_, ?_, ?_, ?_, ?_⟩ <;> intros <;> omega
/-! plain tests -/
theorem E104 {d : Nat} {Q : qV → qM → Prop} {μ : qM} {a0 a1 a2 : Int} : qmw (d + 1) 104 [(.inl a0), (.inl a1), (.inl a2)] μ Q = Q (.inl (if a0 < a1 ∨ a2 < a0 then 1 else 0)) μ := by
  rw [e104, g104_0]
  simp only [qb11, qb00, true_and]
  by_cases h1 : a0 < a1
  · simp [h1, Int.not_le.mpr h1]
  · by_cases h2 : a2 < a0
    · simp [h1, h2, Int.not_lt.mp h1, Int.not_le.mpr h2]
    · simp [h1, h2, Int.not_lt.mp h1, Int.not_lt.mp h2]
theorem E105 {d : Nat} {Q : qV → qM → Prop} {μ : qM} {a0 : Int} : qmw (d + 2) 105 [(.inl a0)] μ Q = Q (.inl (if a0 < 0 ∨ 5 < a0 then 1 else 0)) μ := by
  simp only [e105, g105_0, E104, g105_6, qb01, true_and]
theorem E106 {d : Nat} {Q : qV → qM → Prop} {μ : qM} {a0 : Int} : qmw (d + 2) 106 [(.inl a0)] μ Q = Q (.inl (if a0 < 0 ∨ 9 < a0 then 1 else 0)) μ := by
  simp only [e106, g106_0, E104, g106_7, qb01, true_and]
theorem E107 {d : Nat} {Q : qV → qM → Prop} {μ : qM} {a1 : Int} : qmw (d + 2) 107 [(.inr (.inr (.inl 0))), (.inl a1)] μ Q = Q (.inl (if a1 < 0 ∨ q32 (μ 59 7 - 1) < a1 then 1 else 0)) μ := by
  simp only [e107, g107_0, E104, g107_17, qb01, true_and]
theorem E65 {d : Nat} {Q : qV → qM → Prop} {μ : qM} {a1 : Int} : qmw (d + 2) 65 [(.inr (.inr (.inl 16))), (.inl a1)] μ Q = Q (.inl (if a1 < 0 ∨ 20 < a1 then 0 else μ 17 a1)) μ := by
  simp only [e65, g65_0, E104, g65_7, qbr2]
  by_cases h : a1 < 0 ∨ 20 < a1
  · simp [h]
  · have h1 : 0 ≤ a1 := by omega
    have h2 : a1 < 21 := by omega
    simp [h, h1, h2]
theorem E3 {d : Nat} {Q : qV → qM → Prop} {μ : qM} {a1 : Int} : qmw (d + 1) 3 [(.inr (.inr (.inl 15))), (.inl a1)] μ Q = Q (.inl (if qand (qshr (μ 15 4) a1) 1 = 1 then 1 else 0)) μ := by
  simp only [e3, g3_0, qb11, qb00, true_and]
  by_cases h : qand (qshr (μ 15 4) a1) 1 = 1
  · simp [h]
  · simp [h]
/-! bits -/
theorem q_tn {a : Int} (h0 : 0 ≤ a) (h1 : a < 2147483648) : (Int32.ofInt a).toBitVec.toNat = a.toNat := by
  show (BitVec.ofInt 32 a).toNat = _
  rw [BitVec.toNat_ofInt]
  omega
theorem q_ti {x : Int32} (h : x.toBitVec.toNat < 2147483648) : x.toInt = x.toBitVec.toNat := by
  show x.toBitVec.toInt = _
  exact BitVec.toInt_eq_toNat_of_lt (by omega)
theorem qand_le {a b : Int} (h0 : 0 ≤ a) (h1 : a < 2147483648) : 0 ≤ qand a b ∧ qand a b ≤ a := by
  unfold qand
  have h2 : (Int32.ofInt a &&& Int32.ofInt b).toBitVec.toNat ≤ a.toNat := by
    rw [Int32.toBitVec_and, BitVec.toNat_and, q_tn h0 h1]
    exact Nat.and_le_left
  rw [q_ti (by omega)]
  omega
theorem qior_lt {a b : Int} (h0 : 0 ≤ a) (h1 : a < 1024) (h2 : 0 ≤ b) (h3 : b < 1024) : 0 ≤ qior a b ∧ qior a b < 1024 := by
  unfold qior
  have h4 : (Int32.ofInt a ||| Int32.ofInt b).toBitVec.toNat < 2 ^ 10 := by
    rw [Int32.toBitVec_or, BitVec.toNat_or, q_tn h0 (by omega), q_tn h2 (by omega)]
    exact Nat.or_lt_two_pow (by omega) (by omega)
  rw [q_ti (by omega)]
  omega
theorem qshl1 {f : Int} (h0 : 0 ≤ f) (h1 : f < 10) : 0 ≤ qshl 1 f ∧ qshl 1 f < 1024 := by
  rcases (show f = 0 ∨ f = 1 ∨ f = 2 ∨ f = 3 ∨ f = 4 ∨ f = 5 ∨ f = 6 ∨ f = 7 ∨ f = 8 ∨ f = 9 by omega) with rfl | rfl | rfl | rfl | rfl | rfl | rfl | rfl | rfl | rfl <;> decide +kernel
theorem qset1 {a f : Int} (h0 : 0 ≤ a) (h1 : a ≤ 1023) (h2 : 0 ≤ f) (h3 : f < 10) : 0 ≤ qior a (qshl 1 f) ∧ qior a (qshl 1 f) ≤ 1023 := by
  have h4 := qshl1 h2 h3
  have h5 := qior_lt h0 (by omega) h4.1 h4.2
  omega
/-! the tables' rows -/
theorem qra18 {k : Int} (h0 : 0 ≤ k) (h1 : k < 11) : qra 18 k = 19 + k ∧ qty (19 + k) = 100 ∧ qal (19 + k) = 201 := by
  rcases (show k = 0 ∨ k = 1 ∨ k = 2 ∨ k = 3 ∨ k = 4 ∨ k = 5 ∨ k = 6 ∨ k = 7 ∨ k = 8 ∨ k = 9 ∨ k = 10 by omega) with rfl | rfl | rfl | rfl | rfl | rfl | rfl | rfl | rfl | rfl | rfl <;> decide +kernel
theorem qra30 {k : Int} (h0 : 0 ≤ k) (h1 : k < 11) : qra 30 k = 31 + k ∧ qty (31 + k) = 100 ∧ qal (31 + k) = 201 := by
  rcases (show k = 0 ∨ k = 1 ∨ k = 2 ∨ k = 3 ∨ k = 4 ∨ k = 5 ∨ k = 6 ∨ k = 7 ∨ k = 8 ∨ k = 9 ∨ k = 10 by omega) with rfl | rfl | rfl | rfl | rfl | rfl | rfl | rfl | rfl | rfl | rfl <;> decide +kernel
theorem qra42 {k : Int} (h0 : 0 ≤ k) (h1 : k < 11) : qra 42 k = 43 + k ∧ qty (43 + k) = 100 ∧ qal (43 + k) = 201 := by
  rcases (show k = 0 ∨ k = 1 ∨ k = 2 ∨ k = 3 ∨ k = 4 ∨ k = 5 ∨ k = 6 ∨ k = 7 ∨ k = 8 ∨ k = 9 ∨ k = 10 by omega) with rfl | rfl | rfl | rfl | rfl | rfl | rfl | rfl | rfl | rfl | rfl <;> decide +kernel
