/-- a write into a cell of the reference that the relation doesn't speak of -/
theorem Sn_x {μ0 μ : qM} {c i v : Int} (h : Sn μ0 μ) (hc : (c = 170 ∧ 10 ≤ i) ∨ c = 191 ∨ c = 192 ∨ c = 194 ∨ (196 ≤ c ∧ c ≤ 206)) (h3 : c = 170 → i = 3 → 0 ≤ v ∧ v ≤ 300) (h191 : c = 191 → 0 ≤ v ∧ v ≤ 20) (h192 : c = 192 → 0 ≤ v ∧ v ≤ 30) (h196 : c = 196 → 0 ≤ v ∧ v ≤ 5) (h204 : c = 204 → 0 ≤ v ∧ v ≤ 19) (h205 : c = 205 → 0 ≤ v ∧ v ≤ 200) : Sn μ0 (qu μ c i v) := by
  have n1 : ¬ (c < 170 ∨ relv c i) := by
    clear h3 h191 h192 h196 h204 h205
    unfold relv
    omega
  have n2 : ¬ c = 182 ∧ ¬ c = 183 ∧ ¬ (c = 170 ∧ i = 4) ∧ ¬ c = 176 := by
    clear h3 h191 h192 h196 h204 h205
    omega
  refine Sn_u h n1 ?_ n2.1 n2.2.1 n2.2.2.1 n2.2.2.2
  unfold sf
  refine ⟨?_, ?_, ?_, ?_, ?_, ?_, ?_, ?_, ?_, ?_, ?_, ?_, ?_, fun q => h3 q.1 q.2, ?_, ?_, ?_, ?_, ?_, ?_, h191, h192, ?_, ?_, h196, h204, h205, ?_, ?_, ?_, ?_⟩
  all_goals
    clear h3 h191 h192 h196 h204 h205
    intros
    omega
theorem Sr0_x {μ0 μ : qM} {c i v : Int} (h : Sr0 μ0 μ) (hc : (171 ≤ c ∧ c ≤ 175) ∨ (c = 170 ∧ 3 ≤ i ∧ ¬ i = 4) ∨ c = 191 ∨ c = 192 ∨ c = 194 ∨ (196 ≤ c ∧ c ≤ 206)) (h3 : c = 170 → i = 3 → 0 ≤ v ∧ v ≤ 300) (h191 : c = 191 → 0 ≤ v ∧ v ≤ 20) (h192 : c = 192 → 0 ≤ v ∧ v ≤ 30) (h196 : c = 196 → 0 ≤ v ∧ v ≤ 5) (h204 : c = 204 → 0 ≤ v ∧ v ≤ 19) (h205 : c = 205 → 0 ≤ v ∧ v ≤ 200) : Sr0 μ0 (qu μ c i v) := by
  have n1 : ¬ relv0 c i := by
    clear h3 h191 h192 h196 h204 h205
    unfold relv0
    omega
  have n2 : ¬ c = 182 ∧ ¬ c = 183 ∧ ¬ (c = 170 ∧ i = 4) ∧ ¬ c = 176 := by
    clear h3 h191 h192 h196 h204 h205
    omega
  refine Sr0_u h n1 ?_ n2.1 n2.2.1 n2.2.2.1 n2.2.2.2
  unfold sf
  refine ⟨?_, ?_, ?_, ?_, ?_, ?_, ?_, ?_, ?_, ?_, ?_, ?_, ?_, fun q => h3 q.1 q.2, ?_, ?_, ?_, ?_, ?_, ?_, h191, h192, ?_, ?_, h196, h204, h205, ?_, ?_, ?_, ?_⟩
  all_goals
    clear h3 h191 h192 h196 h204 h205
    intros
    omega
theorem Sr0_176 {μ0 μ : qM} {i v : Int} (h : Sr0 μ0 μ) (hi : 6 ≤ i) : Sr0 μ0 (qu μ 176 i v) := by
  have hr := sa_rules h.1
  refine ⟨⟨fun c' i' => ?_, fun k => ?_, fun k h5 h6 => ?_⟩, fun c' i' hc => ?_⟩
  · by_cases e : c' = 176 ∧ i' = i
    · obtain ⟨rfl, rfl⟩ := e
      unfold sf
      refine ⟨?_, ?_, ?_, ?_, ?_, ?_, ?_, ?_, ?_, ?_, ?_, ?_, ?_, ?_, ?_, ?_, ?_, ?_, ?_, ?_, ?_, ?_, ?_, ?_, ?_, ?_, ?_, ?_, ?_, ?_, ?_⟩ <;> intros <;> omega
    · rw [qu_ne e]
      exact h.1.1 c' i'
  · rw [qu_cell (by omega), qu_cell (by omega)]
    exact h.1.2.1 k
  · rw [qu_cell (c := 176) (by omega)] at h6
    rw [qu_ne (by omega)]
    exact h.1.2.2 k h5 h6
  · rw [qu_cell (by unfold relv0 at hc; omega)]
    exact h.2 c' i' hc
def Inv (μ0 ν : qM) (a : Int) : Prop := Sr0 μ0 ν ∧ (0 ≤ ν 170 10 ∧ ν 170 10 ≤ ν 170 3) ∧ 0 ≤ ν 170 11 ∧ (ν 170 14 = -9 → ∀ k, 0 ≤ k → k < a → 1 ≤ ν 176 (6 + k))
theorem Inv_sy {μ0 ν : qM} {a : Int} (h : Inv μ0 ν a) : Sy ν ν := ⟨Sm_rf h.1.1, h.2.1, h.2.2.1⟩
theorem Inv_y {μ0 ν ν' : qM} {a : Int} (h : Inv μ0 ν a) (h2 : Sy ν ν') (h3 : ν' 170 14 = -9 → ν 170 14 = -9) : Inv μ0 ν' a := by
  refine ⟨Sr0_m h.1 h2.1, ?_, h2.2.2, fun q k h4 h5 => ?_⟩
  · rw [h2.1.2 170 3 (by omega)]
    exact h2.2.1
  · rw [h2.1.2 176 _ (by omega)]
    exact h.2.2.2 (h3 q) k h4 h5
theorem Inv_w {μ0 ν : qM} {a c i v : Int} (h : Inv μ0 ν a) (h1 : 172 ≤ c) (h2 : c ≤ 175) : Inv μ0 (qu ν c i v) a := by
  refine ⟨Sr0_x h.1 (by omega) (by intros; omega) (by intros; omega) (by intros; omega) (by intros; omega) (by intros; omega) (by intros; omega), ?_, ?_, ?_⟩
  · rw [qu_cell (by omega), qu_cell (by omega)]
    exact h.2.1
  · rw [qu_cell (by omega)]
    exact h.2.2.1
  · rw [qu_cell (by omega)]
    intro q k h4 h5
    rw [qu_cell (by omega)]
    exact h.2.2.2 q k h4 h5
theorem Inv_b {μ0 ν : qM} {a v : Int} (h : Inv μ0 ν a) (h0 : 0 ≤ a) (hv : ν 170 14 = -9 → 1 ≤ v) : Inv μ0 (qu ν 176 (6 + a) v) (a + 1) := by
  refine ⟨Sr0_176 h.1 (by omega), ?_, ?_, ?_⟩
  · rw [qu_cell (by omega), qu_cell (by omega)]
    exact h.2.1
  · rw [qu_cell (by omega)]
    exact h.2.2.1
  · rw [qu_cell (by omega)]
    intro q k h4 h5
    by_cases e : k = a
    · rw [e, qu_same]
      exact hv q
    · rw [qu_ne (by omega)]
      exact h.2.2.2 q k h4 (by omega)
/-- while the new rules are put in -/
def Sq (μ0 μ : qM) : Prop := (∀ c i, sf c i (μ c i)) ∧ (∀ k, μ 182 k ≤ μ 183 k) ∧ ∀ c i, relv0 c i → μ c i = μ0 c i
theorem Sq_u {μ0 μ : qM} {c i v : Int} (h : Sq μ0 μ) (h1 : 172 ≤ c) (h2 : c ≤ 176) : Sq μ0 (qu μ c i v) := by
  refine ⟨fun c' i' => ?_, fun k => ?_, fun c' i' hc => ?_⟩
  · by_cases e : c' = c ∧ i' = i
    · obtain ⟨rfl, rfl⟩ := e
      unfold sf
      refine ⟨?_, ?_, ?_, ?_, ?_, ?_, ?_, ?_, ?_, ?_, ?_, ?_, ?_, ?_, ?_, ?_, ?_, ?_, ?_, ?_, ?_, ?_, ?_, ?_, ?_, ?_, ?_, ?_, ?_, ?_, ?_⟩ <;> intros <;> omega
    · rw [qu_ne e]
      exact h.1 c' i'
  · rw [qu_cell (by omega), qu_cell (by omega)]
    exact h.2.1 k
  · rw [qu_cell (by unfold relv0 at hc; omega)]
    exact h.2.2 c' i' hc
theorem Sq_end {μ0 μ : qM} {a : Int} (h : Sq μ0 μ) (h0 : 0 ≤ a) (h1 : a ≤ 6) (hb : ∀ k, 0 ≤ k → k < a → 1 ≤ μ 176 k) : Sr0 μ0 (qu (qu μ 170 4 a) 170 3 0) := by
  refine ⟨⟨fun c' i' => ?_, fun k => ?_, fun k h5 h6 => ?_⟩, fun c' i' hc => ?_⟩
  · by_cases e : c' = 170 ∧ i' = 3
    · obtain ⟨rfl, rfl⟩ := e
      rw [qu_same]
      unfold sf
      refine ⟨?_, ?_, ?_, ?_, ?_, ?_, ?_, ?_, ?_, ?_, ?_, ?_, ?_, ?_, ?_, ?_, ?_, ?_, ?_, ?_, ?_, ?_, ?_, ?_, ?_, ?_, ?_, ?_, ?_, ?_, ?_⟩ <;> intros <;> omega
    · rw [qu_ne e]
      by_cases e2 : c' = 170 ∧ i' = 4
      · obtain ⟨rfl, rfl⟩ := e2
        rw [qu_same]
        unfold sf
        refine ⟨?_, ?_, ?_, ?_, ?_, ?_, ?_, ?_, ?_, ?_, ?_, ?_, ?_, ?_, ?_, ?_, ?_, ?_, ?_, ?_, ?_, ?_, ?_, ?_, ?_, ?_, ?_, ?_, ?_, ?_, ?_⟩ <;> intros <;> omega
      · rw [qu_ne e2]
        exact h.1 c' i'
  · rw [qu_cell (by omega), qu_cell (by omega), qu_cell (by omega), qu_cell (by omega)]
    exact h.2.1 k
  · rw [qu_ne (by omega), qu_same] at h6
    rw [qu_cell (by omega), qu_cell (by omega)]
    exact hb k h5 h6
  · rw [qu_ne (by unfold relv0 at hc; omega), qu_ne (by unfold relv0 at hc; omega)]
    exact h.2.2 c' i' hc
theorem s132 {μ0 : qM} {d : Nat} {Q : qV → qM → Prop} {μ : qM} {a1 a2 : Int} (h : Sn μ0 μ) (hQ : ∀ a μ', Sn μ0 μ' → Q (.inl a) μ') : qmw (d + 3) 132 [(.inr (.inr (.inl (170)))), (.inl (a1)), (.inl (a2))] μ Q := by
  rw [e132, g132_0, E117, g132_7, qbr2]
  simp only [E130, g132_14, qbr2]
  refine ⟨fun _ => hQ _ _ h, fun _ => ⟨fun _ => hQ _ _ h, fun _ => s131 h.1 (fun a => ?_)⟩⟩
  rw [g132_23]
  exact hQ _ _ h
