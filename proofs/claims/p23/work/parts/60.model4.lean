/-- a write into a cell of the reference that the relation doesn't speak of -/
theorem Sr_x {μ0 μ : qM} {c i v : Int} (h : Sr μ0 μ) (hc : (171 ≤ c ∧ c ≤ 175) ∨ (c = 170 ∧ 3 ≤ i ∧ ¬ i = 4) ∨ c = 191 ∨ c = 192 ∨ c = 194 ∨ (196 ≤ c ∧ c ≤ 206)) (h3 : c = 170 → i = 3 → 0 ≤ v ∧ v ≤ 300) (h191 : c = 191 → 0 ≤ v ∧ v ≤ 20) (h192 : c = 192 → 0 ≤ v ∧ v ≤ 30) (h196 : c = 196 → 0 ≤ v ∧ v ≤ 5) (h204 : c = 204 → 0 ≤ v ∧ v ≤ 19) (h205 : c = 205 → 0 ≤ v ∧ v ≤ 200) : Sr μ0 (qu μ c i v) := by
  have n1 : ¬ relv c i := by
    clear h3 h191 h192 h196 h204 h205
    unfold relv
    omega
  have n2 : ¬ c = 182 ∧ ¬ c = 183 ∧ ¬ (c = 170 ∧ i = 4) ∧ ¬ c = 176 := by
    clear h3 h191 h192 h196 h204 h205
    omega
  refine Sr_u h n1 ?_ n2.1 n2.2.1 n2.2.2.1 n2.2.2.2
  unfold sf
  refine ⟨?_, ?_, ?_, ?_, ?_, ?_, ?_, ?_, ?_, ?_, ?_, ?_, ?_, fun q => h3 q.1 q.2, ?_, ?_, ?_, ?_, ?_, ?_, h191, h192, ?_, ?_, h196, h204, h205, ?_, ?_, ?_, ?_⟩
  all_goals
    clear h3 h191 h192 h196 h204 h205
    intros
    omega
theorem Sr_176 {μ0 μ : qM} {i v : Int} (h : Sr μ0 μ) (hi : 6 ≤ i) : Sr μ0 (qu μ 176 i v) := by
  have hr := sa_rules h.1
  refine ⟨⟨fun c' i' => ?_, fun k => ?_, fun k h5 h6 => ?_⟩, fun c' i' hc => ?_⟩
  · by_cases e : c' = 176 ∧ i' = i
    · obtain ⟨rfl, rfl⟩ := e
      unfold sf
      refine ⟨?_, ?_, ?_, ?_, ?_, ?_, ?_, ?_, ?_, ?_, ?_, ?_, ?_, ?_, ?_, ?_, ?_, ?_, ?_, ?_, ?_, ?_, ?_, ?_, ?_, ?_, ?_, ?_, ?_, ?_, ?_⟩ <;> intros <;> omega
    · rw [qu_ne e]
      exact h.1.1 c' i'
  · rw [qu_cell (by omega), qu_cell (by omega)]
    exact h.1.2.1 k
  · rw [qu_cell (c := 176) (by omega)] at h6
    rw [qu_ne (by omega)]
    exact h.1.2.2 k h5 h6
  · rw [qu_cell (by unfold relv at hc; omega)]
    exact h.2 c' i' hc
def Inv (μ0 ν : qM) (a : Int) : Prop := Sr μ0 ν ∧ (0 ≤ ν 170 10 ∧ ν 170 10 ≤ ν 170 3) ∧ 0 ≤ ν 170 11 ∧ (ν 170 14 = -9 → ∀ k, 0 ≤ k → k < a → 1 ≤ ν 176 (6 + k))
theorem Inv_sy {μ0 ν : qM} {a : Int} (h : Inv μ0 ν a) : Sy ν ν := ⟨Sm_rf h.1.1, h.2.1, h.2.2.1⟩
theorem Inv_y {μ0 ν ν' : qM} {a : Int} (h : Inv μ0 ν a) (h2 : Sy ν ν') (h3 : ν' 170 14 = -9 → ν 170 14 = -9) : Inv μ0 ν' a := by
  refine ⟨Sr_m h.1 h2.1, ?_, h2.2.2, fun q k h4 h5 => ?_⟩
  · rw [h2.1.2 170 3 (by omega)]
    exact h2.2.1
  · rw [h2.1.2 176 _ (by omega)]
    exact h.2.2.2 (h3 q) k h4 h5
theorem Inv_w {μ0 ν : qM} {a c i v : Int} (h : Inv μ0 ν a) (h1 : 172 ≤ c) (h2 : c ≤ 175) : Inv μ0 (qu ν c i v) a := by
  refine ⟨Sr_x h.1 (by omega) (by intros; omega) (by intros; omega) (by intros; omega) (by intros; omega) (by intros; omega) (by intros; omega), ?_, ?_, ?_⟩
  · rw [qu_cell (by omega), qu_cell (by omega)]
    exact h.2.1
  · rw [qu_cell (by omega)]
    exact h.2.2.1
  · rw [qu_cell (by omega)]
    intro q k h4 h5
    rw [qu_cell (by omega)]
    exact h.2.2.2 q k h4 h5
theorem Inv_b {μ0 ν : qM} {a v : Int} (h : Inv μ0 ν a) (h0 : 0 ≤ a) (hv : ν 170 14 = -9 → 1 ≤ v) : Inv μ0 (qu ν 176 (6 + a) v) (a + 1) := by
  refine ⟨Sr_176 h.1 (by omega), ?_, ?_, ?_⟩
  · rw [qu_cell (by omega), qu_cell (by omega)]
    exact h.2.1
  · rw [qu_cell (by omega)]
    exact h.2.2.1
  · rw [qu_cell (by omega)]
    intro q k h4 h5
    by_cases e : k = a
    · rw [e, qu_same]
      exact hv q
    · rw [qu_ne (by omega)]
      exact h.2.2.2 q k h4 (by omega)
/-- while the new rules are put in -/
def Sq (μ0 μ : qM) : Prop := (∀ c i, sf c i (μ c i)) ∧ (∀ k, μ 182 k ≤ μ 183 k) ∧ ∀ c i, relv c i → μ c i = μ0 c i
theorem Sq_u {μ0 μ : qM} {c i v : Int} (h : Sq μ0 μ) (h1 : 172 ≤ c) (h2 : c ≤ 176) : Sq μ0 (qu μ c i v) := by
  refine ⟨fun c' i' => ?_, fun k => ?_, fun c' i' hc => ?_⟩
  · by_cases e : c' = c ∧ i' = i
    · obtain ⟨rfl, rfl⟩ := e
      unfold sf
      refine ⟨?_, ?_, ?_, ?_, ?_, ?_, ?_, ?_, ?_, ?_, ?_, ?_, ?_, ?_, ?_, ?_, ?_, ?_, ?_, ?_, ?_, ?_, ?_, ?_, ?_, ?_, ?_, ?_, ?_, ?_, ?_⟩ <;> intros <;> omega
    · rw [qu_ne e]
      exact h.1 c' i'
  · rw [qu_cell (by omega), qu_cell (by omega)]
    exact h.2.1 k
  · rw [qu_cell (by unfold relv at hc; omega)]
    exact h.2.2 c' i' hc
theorem Sq_end {μ0 μ : qM} {a : Int} (h : Sq μ0 μ) (h0 : 0 ≤ a) (h1 : a ≤ 6) (hb : ∀ k, 0 ≤ k → k < a → 1 ≤ μ 176 k) : Sr μ0 (qu (qu μ 170 4 a) 170 3 0) := by
  refine ⟨⟨fun c' i' => ?_, fun k => ?_, fun k h5 h6 => ?_⟩, fun c' i' hc => ?_⟩
  · by_cases e : c' = 170 ∧ i' = 3
    · obtain ⟨rfl, rfl⟩ := e
      rw [qu_same]
      unfold sf
      refine ⟨?_, ?_, ?_, ?_, ?_, ?_, ?_, ?_, ?_, ?_, ?_, ?_, ?_, ?_, ?_, ?_, ?_, ?_, ?_, ?_, ?_, ?_, ?_, ?_, ?_, ?_, ?_, ?_, ?_, ?_, ?_⟩ <;> intros <;> omega
    · rw [qu_ne e]
      by_cases e2 : c' = 170 ∧ i' = 4
      · obtain ⟨rfl, rfl⟩ := e2
        rw [qu_same]
        unfold sf
        refine ⟨?_, ?_, ?_, ?_, ?_, ?_, ?_, ?_, ?_, ?_, ?_, ?_, ?_, ?_, ?_, ?_, ?_, ?_, ?_, ?_, ?_, ?_, ?_, ?_, ?_, ?_, ?_, ?_, ?_, ?_, ?_⟩ <;> intros <;> omega
      · rw [qu_ne e2]
        exact h.1 c' i'
  · rw [qu_cell (by omega), qu_cell (by omega), qu_cell (by omega), qu_cell (by omega)]
    exact h.2.1 k
  · rw [qu_ne (by omega), qu_same] at h6
    rw [qu_cell (by omega), qu_cell (by omega)]
    exact hb k h5 h6
  · rw [qu_ne (by unfold relv at hc; omega), qu_ne (by unfold relv at hc; omega)]
    exact h.2.2 c' i' hc
theorem s129c {μ0 : qM} {d : Nat} {Q : qV → qM → Prop} {μ : qM} {a1 : Int} (h0 : 0 ≤ a1) (h1 : a1 ≤ 6) (h : Sq μ0 μ) (hb : ∀ k, 0 ≤ k → k < a1 → 1 ≤ μ 176 (6 + k)) (hQ : ∀ a μ', Sr μ0 μ' → Q (.inl a) μ') : qW d 129 Q 213 [some (.inr (.inr (.inl (170)))), some (.inl (a1)), some (.inl (0))] [] μ := by
  refine qup 6 (P := fun a2 => ∀ ν, 0 ≤ a2 → Sq μ0 ν → (∀ k, 0 ≤ k → k < a1 → 1 ≤ ν 176 (6 + k)) → (∀ k, 0 ≤ k → k < a2 → k < a1 → 1 ≤ ν 176 k) → qW d 129 Q 213 [some (.inr (.inr (.inl (170)))), some (.inl (a1)), some (.inl (a2))] [] ν) (fun a2 ih hB ν h2 hm hb1 hb2 => ?_) 0 (by omega) _ (by omega) h hb (fun k q1 q2 q3 => by omega)
  rw [g129_213, q32_id (z := 6 + a2) (by omega) (by omega), q32_id (z := a2 + 1) (by omega) (by omega)]
  refine ⟨fun q => hQ _ _ (Sq_end hm h0 h1 (fun k q1 q2 => hb2 k q1 (by omega) q2)), fun q => ?_⟩
  have hx : 0 ≤ 6 + a2 ∧ 6 + a2 < 12 := ⟨by omega, by omega⟩
  have hy : 0 ≤ a2 ∧ a2 < 12 := ⟨by omega, by omega⟩
  refine ⟨hx, hy, hx, hy, hx, hy, hx, hy, hx, hy, ih _ (by omega) (by omega) _ (by omega) (Sq_u (Sq_u (Sq_u (Sq_u (Sq_u hm (by omega) (by omega)) (by omega) (by omega)) (by omega) (by omega)) (by omega) (by omega)) (by omega) (by omega)) (fun k q1 q2 => ?_) (fun k q1 q2 q3 => ?_)⟩
  · rw [qu_ne (by omega), qu_cell (by omega), qu_cell (by omega), qu_cell (by omega), qu_cell (by omega)]
    exact hb1 k q1 q2
  · by_cases e : k = a2
    · rw [e, qu_same]
      exact hb1 a2 (by omega) (by omega)
    · rw [qu_ne (by omega), qu_cell (by omega), qu_cell (by omega), qu_cell (by omega), qu_cell (by omega)]
      exact hb2 k q1 (by omega) q3
theorem s129 {μ0 : qM} {d : Nat} {Q : qV → qM → Prop} {μ : qM} (h : Sr μ0 μ) (hQ : ∀ a μ', Sr μ0 μ' → Q (.inl a) μ') : qmw (d + 8) 129 [(.inr (.inr (.inl (170))))] μ Q := by
  have ht := sa_typed h.1
  have fin : ∀ (a1 : Int) (o2 : Option qV) (ν : qM), Sr μ0 ν → ¬ ν 170 14 = -9 → qW (d + 7) 129 Q 17 [some (.inr (.inr (.inl (170)))), some (.inl (a1)), o2] [] ν := fun a1 o2 ν hm q => by
    rw [g129_17]
    exact ⟨fun _ => ⟨fun q2 => absurd q2 q, fun _ => hQ _ _ hm⟩, fun q2 => absurd q2 q⟩
  have hm0 : Sm μ (qu (qu μ 170 10 0) 170 14 (-9)) := Sm_u (Sm_u (Sm_rf h.1) (by omega) (by omega)) (by omega) (by omega)
  have h1 := Sr_m h hm0
  have e10 : (qu (qu μ 170 10 0) 170 14 (-9)) 170 10 = 0 := by rw [qu_ne (by omega), qu_same]
  have e3 := hm0.2 170 3 (by omega)
  rw [e129, g129_0]
  generalize qu (qu μ 170 10 0) 170 14 (-9) = μ1 at hm0 h1 e10 e3
  refine s124 (μ0 := μ1) ⟨Sm_rf h1.1, rfl, by omega, by omega⟩ (fun a μ2 hx hs => ?_)
  have hI : Inv μ0 μ2 0 := ⟨Sr_m h1 hx.1, by rw [Sx_3 hx]; exact hx.2.2, hs, fun _ k q1 q2 => by omega⟩
  refine qup 6 (P := fun a1 => ∀ (o2 : Option qV) (ν : qM), 0 ≤ a1 → Inv μ0 ν a1 → qW (d + 7) 129 Q 17 [some (.inr (.inr (.inl (170)))), some (.inl (a1)), o2] [] ν) (fun a1 ih hB o2 ν h0 hI => ?_) 0 (by omega) _ _ (by omega) hI
  have bad : qmw (d + 7) 125 [(.inr (.inr (.inl (170)))), (.inl (0))] ν (fun v ν => qW (d + 7) 129 Q 68 [some (.inr (.inr (.inl (170)))), some (.inl (a1)), some (.inl (q32 (6 + a1)))] (v :: []) ν) := s125 (Inv_sy hI) (fun μ3 h3 f => by
    have q : ¬ μ3 170 14 = -9 := fun q => (f q).2 rfl
    rw [g129_68]
    exact ⟨fun _ => fin _ _ _ (Inv_y hI h3 (fun q2 => (f q2).1)).1 q, fun q2 => absurd q2 q⟩)
  rw [g129_17]
  refine ⟨fun q => ⟨fun q2 => absurd q2 q, fun _ => hQ _ _ hI.1⟩, fun q => ⟨fun _ => ⟨fun _ => ?_, fun q2 => absurd q q2⟩, fun _ => ⟨fun _ => bad, fun h6 => ⟨fun _ => bad, fun _ => ⟨fun _ => bad, fun _ => s125 (Inv_sy hI) (fun μ3 h3 f => ?_)⟩⟩⟩⟩⟩
  · exact s129c h0 hB ⟨hI.1.1.1, hI.1.1.2.1, hI.1.2⟩ (hI.2.2.2 q) hQ
  have hI3 := Inv_y hI h3 (fun q2 => (f q2).1)
  rw [g129_68, q32_id (z := 6 + a1) (by omega) (by omega)]
  have k : ∀ lo hi, qmw (d + 7) 126 [(.inr (.inr (.inl (170)))), (.inl (lo)), (.inl (hi))] μ3 (fun v ν => qW (d + 7) 129 Q 108 [some (.inr (.inr (.inl (170)))), some (.inl (a1)), some (.inl (6 + a1))] (v :: [(.inl (6 + a1)), (.inr (.inr (.inl (172))))]) ν) := fun lo hi => by
    refine s126 (Inv_sy hI3) (fun v1 μ4 h4 f4 => ?_)
    have hI4 := Inv_w (c := 172) (i := 6 + a1) (v := v1) (Inv_y hI3 h4 (fun q2 => (f4 q2).1)) (by omega) (by omega)
    rw [g129_108]
    refine ⟨by omega, s127 (Inv_sy hI4) (fun μ5 h5 f5 => ?_)⟩
    have hI5 := Inv_y hI4 h5 f5
    rw [g129_114]
    refine s126 (Inv_sy hI5) (fun v2 μ6 h6 f6 => ?_)
    have hI6 := Inv_w (c := 173) (i := 6 + a1) (v := v2) (Inv_y hI5 h6 (fun q2 => (f6 q2).1)) (by omega) (by omega)
    rw [g129_126]
    refine ⟨by omega, s127 (Inv_sy hI6) (fun μ7 h7 f7 => ?_)⟩
    have hI7 := Inv_y hI6 h7 f7
    rw [g129_132]
    refine s126 (Inv_sy hI7) (fun v3 μ8 h8 f8 => ?_)
    have hI8 := Inv_w (c := 174) (i := 6 + a1) (v := v3) (Inv_y hI7 h8 (fun q2 => (f8 q2).1)) (by omega) (by omega)
    rw [g129_144]
    refine ⟨by omega, s127 (Inv_sy hI8) (fun μ9 h9 f9 => ?_)⟩
    have hI9 := Inv_y hI8 h9 f9
    rw [g129_150]
    refine s126 (Inv_sy hI9) (fun v4 μ10 h10 f10 => ?_)
    have hI10 := Inv_w (c := 175) (i := 6 + a1) (v := v4) (Inv_y hI9 h10 (fun q2 => (f10 q2).1)) (by omega) (by omega)
    rw [g129_162]
    refine ⟨by omega, s128 (Inv_sy hI10) (fun μ11 h11 f11 => ?_)⟩
    have hI11 := Inv_y hI10 h11 f11
    rw [g129_169]
    refine s126 (Inv_sy hI11) (fun v5 μ12 h12 f12 => ?_)
    have hI12 := Inv_b (v := v5) (Inv_y hI11 h12 (fun q2 => (f12 q2).1)) h0 (fun q2 => (f12 q2).2.1)
    rw [g129_181]
    refine ⟨by omega, s128 (Inv_sy hI12) (fun μ13 h13 f13 => ?_)⟩
    have hI13 := Inv_y hI12 h13 f13
    rw [g129_188, q32_id (z := a1 + 1) (by omega) (by omega)]
    exact ih _ (by omega) (by omega) _ _ (by omega) hI13
  refine ⟨fun q2 => fin _ _ _ hI3.1 q2, fun _ => ⟨fun _ => ⟨?_, k _ _⟩, fun _ => k _ _⟩⟩
  rw [q32_id (by omega) (by omega)]
  omega
theorem s118 {μ0 : qM} {d : Nat} {Q : qV → qM → Prop} {μ : qM} {w n : Int} (h : Sr μ0 μ) (hQ : ∀ a μ', Sr μ0 μ' → Q (.inl a) μ') : qmw (d + 2) 118 [(.inr (.inr (.inl (170)))), (.inr (.inl (w))), (.inl (n))] μ Q := by
  have ht := sa_typed h.1
  rw [e118, g118_0, E117, g118_7, qbr]
  refine ⟨fun q => ?_, fun _ => hQ _ _ h⟩
  rw [q32_id (z := μ 170 3 + n) (by omega) (by omega), q32_id (z := n - 1) (by omega) (by omega)]
  refine ⟨fun q2 => ?_, fun _ => hQ _ _ h⟩
  refine qdn (-1) (P := fun i => ∀ ν, Sr μ0 ν → ν 170 3 + i + 1 ≤ 300 → i < 8 → qW (d + 1) 118 Q 32 [some (.inr (.inr (.inl (170)))), some (.inr (.inl (w))), none, some (.inl (n)), some (.inl (i))] [] ν) (fun i ih hB ν hm h1 h2 => ?_) _ (by omega) _ h (by omega) (by omega)
  have ht2 := sa_typed hm.1
  rw [g118_32]
  refine ⟨fun _ => hQ _ _ hm, fun _ => ⟨qi2b_r _, by omega, ?_⟩⟩
  rw [q32_id (z := i + -1) (by omega) (by omega), q32_id (z := ν 170 3 + 1) (by omega) (by omega)]
  refine ih _ (by omega) (by omega) _ ?_ (by rw [qu_same]; omega) (by omega)
  refine Sr_x (Sr_x hm ?_ ?_ ?_ ?_ ?_ ?_ ?_) ?_ ?_ ?_ ?_ ?_ ?_ ?_ <;> intros <;> omega
theorem s119 {μ0 : qM} {d : Nat} {Q : qV → qM → Prop} {μ : qM} (h : Sr μ0 μ) (hQ : ∀ a μ', Sr μ0 μ' → Q (.inl a) μ') : qmw (d + 1) 119 [(.inr (.inr (.inl (170))))] μ Q := by
  rw [e119, g119_0]
  refine hQ _ _ (Sr_x h ?_ ?_ ?_ ?_ ?_ ?_ ?_) <;> intros <;> omega
theorem s132 {μ0 : qM} {d : Nat} {Q : qV → qM → Prop} {μ : qM} {a1 a2 : Int} (h : Sr μ0 μ) (hQ : ∀ a μ', Sr μ0 μ' → Q (.inl a) μ') : qmw (d + 3) 132 [(.inr (.inr (.inl (170)))), (.inl (a1)), (.inl (a2))] μ Q := by
  rw [e132, g132_0, E117, g132_7, qbr2]
  simp only [E130, g132_14, qbr2]
  refine ⟨fun _ => hQ _ _ h, fun _ => ⟨fun _ => hQ _ _ h, fun _ => s131 h.1 (fun a => ?_)⟩⟩
  rw [g132_23]
  exact hQ _ _ h
