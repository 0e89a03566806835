/-- a person's rows: told, truth, firms, addresses -/
theorem Sg_p {μ0 μ : qM} {p k i v : Int} (h : Sg μ0 μ) (h0 : 0 ≤ p) (h1 : p < 6) (hk : 1 ≤ k) (hk2 : k ≤ 10) (hk3 : ¬ k = 3) : Sg μ0 (qu μ (74 + 11 * p + k) i v) := by
  refine Sg_u h ?_ (by omega) (by omega) (by omega) (by omega) (by omega) (by omega)
  unfold sf
  refine ⟨?_, ?_, ?_, ?_, ?_, ?_, ?_, ?_, ?_, ?_, ?_, ?_, ?_, ?_, ?_, ?_, ?_, ?_, ?_, ?_, ?_, ?_, ?_, ?_, ?_, ?_, ?_, ?_, ?_, ?_, ?_⟩ <;> intros <;> omega
theorem Sg_pf {μ0 μ : qM} {p v : Int} (h : Sg μ0 μ) (h0 : 0 ≤ p) (h1 : p < 6) (hv : 0 ≤ v) (hv2 : v ≤ 3) : Sg μ0 (qu μ (74 + 11 * p) 10 v) := by
  refine Sg_u h ?_ (by omega) (by omega) (by omega) (by omega) (by omega) (by omega)
  unfold sf
  refine ⟨?_, ?_, ?_, ?_, ?_, ?_, ?_, ?_, ?_, ?_, ?_, ?_, ?_, ?_, ?_, ?_, ?_, ?_, ?_, ?_, ?_, ?_, ?_, ?_, ?_, ?_, ?_, ?_, ?_, ?_, ?_⟩ <;> intros <;> omega
/-- the reference's rows -/
theorem Sg_m {μ0 μ : qM} {c i v : Int} (h : Sg μ0 μ) (hc : c = 177 ∨ c = 178 ∨ c = 181 ∨ c = 184 ∨ c = 185 ∨ c = 193 ∨ c = 195 ∨ c = 207 ∨ c = 208 ∨ c = 209 ∨ (c = 170 ∧ i = 1) ∨ (c = 58 ∧ i = 3) ∨ c = 71 ∨ c = 72) (h178 : c = 178 → 0 ≤ v ∧ v ≤ 20) (h181 : c = 181 → 0 ≤ v ∧ v ≤ 3) (h184 : c = 184 → 0 ≤ v ∧ v ≤ 200) (h193 : (c = 193 ∨ c = 71) → 0 ≤ v ∧ v ≤ 40) (h195 : (c = 195 ∨ c = 170 ∨ c = 58) → 0 ≤ v ∧ v ≤ 200) (h207 : c = 207 → 0 ≤ v ∧ v ≤ 60) : Sg μ0 (qu μ c i v) := by
  have n : ¬ c = 0 ∧ ¬ (c = 170 ∧ i = 0) ∧ ¬ c = 182 ∧ ¬ c = 183 ∧ ¬ (c = 170 ∧ i = 4) ∧ ¬ c = 176 := by
    clear h178 h181 h184 h193 h195 h207
    omega
  refine Sg_u h ?_ n.1 n.2.1 n.2.2.1 n.2.2.2.1 n.2.2.2.2.1 n.2.2.2.2.2
  clear n
  unfold sf
  refine ⟨?_, ?_, ?_, ?_, ?_, fun q => h195 ?_, ?_, ?_, ?_, ?_, ?_, fun q => h193 ?_, fun q => h195 ?_, ?_, ?_, fun q => h178 q, ?_, fun q => h181 q, ?_, fun q => h184 q, ?_, ?_, fun q => h193 ?_, fun q => h195 ?_, ?_, ?_, ?_, fun q => h207 q, ?_, ?_, ?_⟩
  all_goals
    clear h178 h181 h184 h193 h195 h207
    intros
    omega
/-- a firm sum -/
theorem Sg_f {μ0 μ : qM} {k a b s t : Int} (h : Sg μ0 μ) (h0 : 0 ≤ a) (h1 : a ≤ b) (h2 : b ≤ 9) (h3 : 0 ≤ s) (h4 : s ≤ 200) : Sg μ0 (qu (qu (qu (qu μ 182 k a) 183 k b) 184 k s) 185 k t) := by
  have hx : Sg μ0 (qu (qu μ 182 k a) 183 k b) := by
    refine ⟨⟨fun c i => ?_, fun j => ?_, fun j h5 h6 => ?_⟩, ?_, ?_⟩
    · by_cases e : c = 183 ∧ i = k
      · obtain ⟨rfl, rfl⟩ := e
        rw [qu_same]
        unfold sf
        refine ⟨?_, ?_, ?_, ?_, ?_, ?_, ?_, ?_, ?_, ?_, ?_, ?_, ?_, ?_, ?_, ?_, ?_, ?_, ?_, ?_, ?_, ?_, ?_, ?_, ?_, ?_, ?_, ?_, ?_, ?_, ?_⟩ <;> intros <;> omega
      · rw [qu_ne e]
        by_cases e2 : c = 182 ∧ i = k
        · obtain ⟨rfl, rfl⟩ := e2
          rw [qu_same]
          unfold sf
          refine ⟨?_, ?_, ?_, ?_, ?_, ?_, ?_, ?_, ?_, ?_, ?_, ?_, ?_, ?_, ?_, ?_, ?_, ?_, ?_, ?_, ?_, ?_, ?_, ?_, ?_, ?_, ?_, ?_, ?_, ?_, ?_⟩ <;> intros <;> omega
        · rw [qu_ne e2]
          exact h.1.1 c i
    · by_cases e : j = k
      · rw [e, qu_same, qu_cell (by omega), qu_same]
        exact h1
      · rw [qu_ne (by omega), qu_ne (by omega), qu_ne (by omega), qu_ne (by omega)]
        exact h.1.2.1 j
    · rw [qu_cell (by omega), qu_cell (by omega)] at h6
      rw [qu_cell (by omega), qu_cell (by omega)]
      exact h.1.2.2 j h5 h6
    · rw [qu_cell (by omega), qu_cell (by omega)]
      exact h.2.1
    · rw [qu_cell (by omega), qu_cell (by omega)]
      exact h.2.2
  refine Sg_m (Sg_m hx ?_ ?_ ?_ ?_ ?_ ?_ ?_) ?_ ?_ ?_ ?_ ?_ ?_ ?_ <;> intros <;> omega
theorem s80 {μ0 : qM} {d : Nat} {Q : qV → qM → Prop} {μ : qM} {a1 a2 a3 a4 : Int} (h : Sg μ0 μ) (hQ : ∀ a μ', Sg μ0 μ' → Q (.inl a) μ') : qmw (d + 3) 80 [(.inr (.inr (.inl (0)))), (.inl (a1)), (.inl (a2)), (.inl (a3)), (.inl (a4))] μ Q := by
  rw [e80, g80_0, E105, g80_4, qbr]
  simp only [E104, E106, g80_11, g80_20, g80_31, qbr2, qbr]
  refine ⟨fun _ => hQ _ _ h, fun _ => ⟨fun _ => hQ _ _ h, fun _ => ⟨fun _ => hQ _ _ h, fun _ => ⟨fun _ => ?_, fun _ => hQ _ _ h⟩⟩⟩⟩
  have hx : 0 ≤ a1 ∧ a1 < 6 := by omega
  have hy : 0 ≤ a2 ∧ a2 < 10 := by omega
  have hp := pf (isP57 hx.1 hx.2)
  simp only [hp, qif_r]
  rw [qra57 hx.1 hx.2]
  exact ⟨fun _ => ⟨hx, hy, hy, hQ _ _ (Sg_p h hx.1 hx.2 (by decide) (by decide) (by decide))⟩, fun _ => ⟨hx, hy, hy, hQ _ _ (Sg_p h hx.1 hx.2 (by decide) (by decide) (by decide))⟩⟩
theorem s135 {μ0 : qM} {d : Nat} {Q : qV → qM → Prop} {μ : qM} {a1 a2 a3 a4 : Int} (h : Sg μ0 μ) (hQ : ∀ a μ', Sg μ0 μ' → Q (.inl a) μ') : qmw (d + 3) 135 [(.inr (.inr (.inl (170)))), (.inl (a1)), (.inl (a2)), (.inl (a3)), (.inl (a4))] μ Q := by
  rw [e135, g135_0, E133, g135_4, qbr2]
  simp only [E134, E117, g135_11, g135_20, g135_31, qbr2, qbr]
  refine ⟨fun _ => hQ _ _ h, fun _ => ⟨fun _ => hQ _ _ h, fun _ => ⟨fun _ => hQ _ _ h, fun _ => ⟨fun _ => ?_, fun _ => hQ _ _ h⟩⟩⟩⟩
  rw [q32_id (z := 10 * a1) (by omega) (by omega), q32_id (z := 10 * a1 + a2) (by omega) (by omega)]
  have hy : 0 ≤ 10 * a1 + a2 ∧ 10 * a1 + a2 < 60 := by omega
  have m1 : Sg μ0 (qu μ 178 (10 * a1 + a2) a4) := by
    refine Sg_m h ?_ ?_ ?_ ?_ ?_ ?_ ?_ <;> intros <;> omega
  have m2 : Sg μ0 (qu μ 177 (10 * a1 + a2) a4) := by
    refine Sg_m h ?_ ?_ ?_ ?_ ?_ ?_ ?_ <;> intros <;> omega
  exact ⟨fun _ => ⟨hy, fun _ => ⟨hy, hQ _ _ m1⟩, fun _ => ⟨hy, hQ _ _ m2⟩⟩, fun _ => ⟨hy, fun _ => ⟨hy, hQ _ _ m1⟩, fun _ => ⟨hy, hQ _ _ m2⟩⟩⟩
theorem s43 {μ0 : qM} {d : Nat} {Q : qV → qM → Prop} {μ : qM} {p a1 a2 a3 a4 : Int} (h : Sg μ0 μ) (h0 : 0 ≤ p) (h1 : p < 6) (hQ : ∀ a μ', Sg μ0 μ' → Q (.inl a) μ') : qmw (d + 1) 43 [(.inr (.inr (.inl (74 + 11 * p)))), (.inl (a1)), (.inl (a2)), (.inl (a3)), (.inl (a4))] μ Q := by
  have hc : isP (74 + 11 * p) := ⟨p, h0, h1, rfl⟩
  have hf := sa_firms h.1 hc
  have fr : ∀ {ν : qM} {k i v : Int}, 1 ≤ k → (qu ν (74 + 11 * p + k) i v) (74 + 11 * p) 10 = ν (74 + 11 * p) 10 := fun q => qu_cell (by omega) _
  have hp := pf hc
  rw [e43 hp.1, g43_0]
  simp only [hp, qif_r]
  simp only [fr (k := 5) (by decide), fr (k := 6) (by decide), fr (k := 7) (by decide), fr (k := 8) (by decide)]
  clear hp
  refine ⟨fun q => ?_, fun _ => hQ _ _ h⟩
  have hx : 0 ≤ μ (74 + 11 * p) 10 ∧ μ (74 + 11 * p) 10 < 3 := ⟨hf.1, q⟩
  refine ⟨hx, hx, hx, hx, hQ _ _ ?_⟩
  rw [q32_id (by omega) (by omega)]
  exact Sg_pf (Sg_p (Sg_p (Sg_p (Sg_p h h0 h1 (by decide) (by decide) (by decide)) h0 h1 (by decide) (by decide) (by decide)) h0 h1 (by decide) (by decide) (by decide)) h0 h1 (by decide) (by decide) (by decide)) h0 h1 (by omega) (by omega)
theorem s81 {μ0 : qM} {d : Nat} {Q : qV → qM → Prop} {μ : qM} {a1 a2 a3 a4 : Int} (h : Sg μ0 μ) (hQ : ∀ a μ', Sg μ0 μ' → Q (.inl a) μ') : qmw (d + 3) 81 [(.inr (.inr (.inl (0)))), (.inl (a1)), (.inl (a2)), (.inl (a3)), (.inl (a4))] μ Q := by
  rw [e81, g81_0, E105, g81_4, qbr]
  simp only [E106, E104, g81_11, g81_18, g81_42, qbr2, qbr]
  refine ⟨fun _ => hQ _ _ h, fun _ => ⟨fun _ => hQ _ _ h, fun _ => ⟨fun _ => hQ _ _ h, fun _ => ⟨fun _ => ⟨fun _ => ⟨by omega, ?_⟩, fun _ => hQ _ _ h⟩, fun _ => hQ _ _ h⟩⟩⟩⟩
  rw [qra57 (by omega) (by omega)]
  refine qup 10 (P := fun i => 0 ≤ i → qW (d + 2) 81 Q 58 [some (.inr (.inr (.inl (0)))), some (.inl (a1)), some (.inl (a2)), some (.inl (a3)), some (.inl (a4)), some (.inr (.inr (.inl (74 + 11 * a1)))), some (.inl (i))] [] μ) (fun i ih hB hi => ?_) a2 (by omega) (by omega)
  rw [g81_58]
  refine ⟨fun _ => s43 h (by omega) (by omega) (fun a μ1 h1 => ?_), fun _ => s44 h.1 ⟨a1, by omega, by omega, rfl⟩ (fun a _ _ => ?_)⟩
  · rw [g81_102]
    exact hQ _ _ h1
  · rw [g81_74, q32_id (z := i + 1) (by omega) (by omega)]
    exact ⟨fun _ => ih _ (by omega) (by omega) (by omega), fun _ => hQ _ _ h⟩
theorem s137 {μ0 : qM} {d : Nat} {Q : qV → qM → Prop} {μ : qM} {a1 a2 a3 a4 : Int} (h : Sg μ0 μ) (hQ : ∀ a μ', Sg μ0 μ' → Q (.inl a) μ') : qmw (d + 3) 137 [(.inr (.inr (.inl (170)))), (.inl (a1)), (.inl (a2)), (.inl (a3)), (.inl (a4))] μ Q := by
  rw [e137, g137_0, E133, g137_4, qbr2]
  simp only [E134, E117, g137_11, g137_21, g137_38, qbr2, qbr]
  refine ⟨fun _ => hQ _ _ h, fun _ => ⟨fun _ => hQ _ _ h, fun _ => ⟨fun _ => hQ _ _ h, fun _ => ⟨fun q => ?_, fun _ => hQ _ _ h⟩⟩⟩⟩
  rw [q32_id (z := a3 - a2) (by omega) (by omega), q32_id (z := a3 - a2 + 1) (by omega) (by omega), q32_id (z := 20 * (a3 - a2 + 1)) (by omega) (by omega)] at q
  have hf := sa_mfirms h.1 a1
  refine qup 10 (P := fun i => 0 ≤ i → qW (d + 2) 137 Q 46 [some (.inr (.inr (.inl (170)))), some (.inl (a1)), some (.inl (a2)), some (.inl (a3)), some (.inl (a4)), some (.inl (i))] [] μ) (fun i ih hB hi => ?_) a2 (by omega) (by omega)
  rw [g137_46]
  refine ⟨fun _ => ?_, fun _ => s136 h.1 (by omega) (by omega) (fun a _ => ?_)⟩
  · clear ih
    refine ⟨by omega, fun _ => ?_, fun _ => hQ _ _ h⟩
    rw [q32_id (z := 3 * a1) (by omega) (by omega), q32_id (z := 3 * a1 + μ 181 a1) (by omega) (by omega), q32_id (z := μ 181 a1 + 1) (by omega) (by omega)]
    have hy : 0 ≤ 3 * a1 + μ 181 a1 ∧ 3 * a1 + μ 181 a1 < 18 := by omega
    have hx : 0 ≤ a1 ∧ a1 < 6 := by omega
    refine ⟨hx, hy, hy, hy, hy, hx, hx, hx, hQ _ _ ?_⟩
    have m := Sg_f (k := 3 * a1 + μ 181 a1) (a := a2) (b := a3) (s := a4) (t := μ 170 1) h (by omega) (by omega) (by omega) (by omega) (by omega)
    refine Sg_m m ?_ ?_ ?_ ?_ ?_ ?_ ?_ <;> intros <;> omega
  · rw [g137_62, q32_id (z := i + 1) (by omega) (by omega)]
    exact ⟨fun _ => ih _ (by omega) (by omega) (by omega), fun _ => hQ _ _ h⟩
theorem s94 {μ0 : qM} {d : Nat} {Q : qV → qM → Prop} {μ : qM} {a1 a2 a3 : Int} (h : Sg μ0 μ) (hQ : ∀ a μ', Sg μ0 μ' → Q (.inl a) μ') : qmw (d + 3) 94 [(.inr (.inr (.inl (0)))), (.inl (a1)), (.inl (a2)), (.inl (a3))] μ Q := by
  have ht := sa_today h.1
  rw [e94, g94_0, E105, g94_4, qbr]
  simp only [E104, g94_13, g94_23, qbr2, qbr]
  refine ⟨fun _ => hQ _ _ h, fun _ => ⟨fun _ => hQ _ _ h, fun _ => ⟨fun _ => ?_, fun _ => hQ _ _ h⟩⟩⟩
  have hx : 0 ≤ a1 ∧ a1 < 6 := by omega
  have hy : 0 ≤ μ 58 3 ∧ μ 58 3 < 201 := by omega
  have key : ∀ (k a5 : Int), (k = 9 ∨ k = 10) → qty (74 + 11 * a1 + k) = 100 → qal (74 + 11 * a1 + k) = 201 → qW (d + 2) 94 Q 76 [some (.inr (.inr (.inl (0)))), some (.inl (a1)), some (.inl (a2)), some (.inl (a3)), some (.inr (.inr (.inl (74 + 11 * a1 + k)))), some (.inl (a5)), some (.inl (μ 58 3))] [] μ := fun k a5 hk e1 e2 => by
    refine qup 201 (P := fun i => ∀ ν, 0 ≤ i → Sg μ0 ν → qW (d + 2) 94 Q 76 [some (.inr (.inr (.inl (0)))), some (.inl (a1)), some (.inl (a2)), some (.inl (a3)), some (.inr (.inr (.inl (74 + 11 * a1 + k)))), some (.inl (a5)), some (.inl (i))] [] ν) (fun i ih hB ν hi hm => ?_) _ (by omega) _ hy.1 h
    rw [g94_76, e1, e2, qif_r, q32_id (z := i + 1) (by omega) (by omega)]
    exact ⟨fun _ => hQ _ _ hm, fun _ => ⟨by omega, ih _ (by omega) (by omega) _ (by omega) (Sg_p hm hx.1 hx.2 (by omega) (by omega) (by omega))⟩⟩
  have hp := pf (isP57 hx.1 hx.2)
  simp only [hp, qif_r]
  rw [qra57 hx.1 hx.2] at hp ⊢
  exact ⟨fun _ => ⟨hx, hy, key 10 _ (by decide) hp.2.2.1.2.2.2.2.2.2.2.2.2 hp.2.2.2.2.2.2.2.2.2.2.2.2⟩, fun _ => ⟨hx, hy, key 9 _ (by decide) hp.2.2.1.2.2.2.2.2.2.2.2.1 hp.2.2.2.2.2.2.2.2.2.2.2.1⟩⟩
theorem s162 {μ0 : qM} {d : Nat} {Q : qV → qM → Prop} {μ : qM} {a1 a2 a3 : Int} (h : Sg μ0 μ) (hQ : ∀ a μ', Sg μ0 μ' → Q (.inl a) μ') : qmw (d + 3) 162 [(.inr (.inr (.inl (170)))), (.inl (a1)), (.inl (a2)), (.inl (a3))] μ Q := by
  have ht := sa_mtoday h.1
  rw [e162, g162_0, E133, g162_4, qbr2]
  simp only [E117, g162_13, g162_23, qbr2, qbr]
  refine ⟨fun _ => hQ _ _ h, fun _ => ⟨fun _ => hQ _ _ h, fun _ => ⟨fun _ => s161 (by omega) (by omega) (by omega) (by omega) (by omega) (by omega) (fun a => ?_), fun _ => hQ _ _ h⟩⟩⟩
  rw [g162_38]
  refine qup 201 (P := fun i => ∀ ν, 0 ≤ i → Sg μ0 ν → qW (d + 2) 162 Q 46 [some (.inr (.inr (.inl (170)))), some (.inl (a1)), some (.inl (a2)), some (.inl (a3)), some (.inl (a)), some (.inl (i))] [] ν) (fun i ih hB ν hi hm => ?_) _ (by omega) _ ht.1 h
  rw [g162_46, q32_id (z := 2 * a1) (by omega) (by omega), q32_id (z := 2 * a1 + a2) (by omega) (by omega), q32_id (z := 201 * (2 * a1 + a2)) (by omega) (by omega), q32_id (z := 201 * (2 * a1 + a2) + i) (by omega) (by omega), q32_id (z := i + 1) (by omega) (by omega)]
  refine ⟨fun _ => hQ _ _ hm, fun _ => ⟨by omega, ih _ (by omega) (by omega) _ (by omega) ?_⟩⟩
  clear ih
  refine Sg_m hm ?_ ?_ ?_ ?_ ?_ ?_ ?_ <;> intros <;> omega
theorem s97 {μ0 : qM} {d : Nat} {Q : qV → qM → Prop} {μ : qM} {a1 a2 : Int} (h : Sg μ0 μ) (hQ : ∀ a μ', Sg μ0 μ' → Q (.inl a) μ') : qmw (d + 3) 97 [(.inr (.inr (.inl (0)))), (.inl (a1)), (.inl (a2))] μ Q := by
  have hl := sa_line h.1
  rw [e97, g97_0, E105, g97_4, qbr]
  simp only [E104, g97_14, qbr2]
  refine ⟨fun _ => hQ _ _ h, fun _ => ⟨fun _ => ?_, fun _ => hQ _ _ h⟩⟩
  rw [e38, g38_0, q32_id (z := μ 71 1 + 1) (by omega) (by omega), g97_30, g97_30]
  refine ⟨fun _ => ⟨by omega, by omega, fun _ => ?_, fun q => absurd q (by decide)⟩, fun _ => ⟨by omega, fun q => absurd rfl q, fun _ => hQ _ _ h⟩⟩
  have m : Sg μ0 (qu (qu μ 72 (μ 71 1) a2) 71 1 (μ 71 1 + 1)) := by
    refine Sg_m (Sg_m h ?_ ?_ ?_ ?_ ?_ ?_ ?_) ?_ ?_ ?_ ?_ ?_ ?_ ?_ <;> intros <;> omega
  generalize qu (qu μ 72 (μ 71 1) a2) 71 1 (μ 71 1 + 1) = μ1 at m
  have hl1 := sa_line m.1
  rw [e39, g39_0]
  refine qup (μ1 71 1) (P := fun i => ∀ x y, 0 ≤ i → qW (d + 1) 39 (fun v ν => qW (d + 2) 97 Q 46 [some (.inr (.inr (.inl (0)))), some (.inl (a1)), some (.inl (a2))] (v :: []) ν) 6 [some (.inr (.inr (.inl (71)))), some (.inl (x)), some (.inl (y)), some (.inl (i))] [] μ1) (fun i ih hB x y hi => ?_) 0 (by omega) _ _ (by omega)
  rw [g39_6, g97_46, q32_id (z := i + 1) (by omega) (by omega)]
  exact ⟨fun _ => hQ _ _ m, fun _ => ⟨by omega, fun _ => ih _ (by omega) (by omega) _ _ (by omega), fun _ => ⟨by omega, ih _ (by omega) (by omega) _ _ (by omega)⟩⟩⟩
theorem s171 {d : Nat} {Q : qV → qM → Prop} {μ : qM} {a1 : Int} (hS : Safe μ) (h0 : 0 ≤ a1) (h1 : a1 ≤ μ 193 0) (hQ : ∀ a, 0 ≤ a → a1 + a ≤ μ 193 0 → (a1 < μ 193 0 → 1 ≤ a) → Q (.inl a) μ) : qmw (d + 1) 171 [(.inr (.inr (.inl (170)))), (.inl (a1))] μ Q := by
  have hc := sa_mcalls hS 0
  rw [e171, g171_0]
  refine qup (μ 193 0 - a1) (P := fun n => ∀ s, 0 ≤ n → 0 ≤ s → s ≤ 60 → (n = 0 → s = 0) → qW d 171 Q 4 [some (.inr (.inr (.inl (170)))), some (.inl (a1)), some (.inl (n)), some (.inl (s))] [] μ) (fun n ih hB s hn hs hs2 hz => ?_) 0 (by omega) _ (by omega) (by omega) (by omega) (fun _ => rfl)
  have hm := sa_mmin hS (a1 + n)
  rw [g171_4, q32_id (z := a1 + n) (by omega) (by omega), q32_id (z := s + μ 207 (a1 + n)) (by omega) (by omega), q32_id (z := n + 1) (by omega) (by omega)]
  refine ⟨by omega, fun q => hQ _ hn (by omega) (fun _ => by omega), fun q => ⟨by omega, fun q2 => hQ _ hn (by omega) (fun _ => ?_), fun q2 => ⟨by omega, ih _ (by omega) (by omega) _ (by omega) (by omega) (by omega) (fun q3 => by omega)⟩⟩⟩
  by_cases e : n = 0
  · have e2 := hz e
    omega
  · omega
theorem s172 {μ0 : qM} {d : Nat} {Q : qV → qM → Prop} {μ : qM} {a1 a2 : Int} (h : Sg μ0 μ) (hQ : ∀ a μ', Sg μ0 μ' → Q (.inl a) μ') : qmw (d + 3) 172 [(.inr (.inr (.inl (170)))), (.inl (a1)), (.inl (a2))] μ Q := by
  have hc := sa_mcalls h.1 0
  rw [e172, g172_0, E133, g172_4, qbr2]
  simp only [E117, g172_14, qbr]
  refine ⟨fun _ => hQ _ _ h, fun _ => ⟨fun _ => ⟨by omega, fun _ => ?_, fun _ => hQ _ _ h⟩, fun _ => hQ _ _ h⟩⟩
  rw [q32_id (z := μ 193 0 + 1) (by omega) (by omega)]
  have m : Sg μ0 (qu (qu μ 207 (μ 193 0) a2) 193 0 (μ 193 0 + 1)) := by
    refine Sg_m (Sg_m h ?_ ?_ ?_ ?_ ?_ ?_ ?_) ?_ ?_ ?_ ?_ ?_ ?_ ?_ <;> intros <;> omega
  refine ⟨by omega, by omega, by omega, by omega, ?_⟩
  generalize qu (qu μ 207 (μ 193 0) a2) 193 0 (μ 193 0 + 1) = μ1 at m
  have hc1 := sa_mcalls m.1 0
  refine s171 m.1 (by omega) hc1.1 (fun a ha hb _ => ?_)
  rw [g172_62]
  refine qup (μ1 193 0) (P := fun i => ∀ x, 0 ≤ i → qW (d + 2) 172 Q 64 [some (.inr (.inr (.inl (170)))), some (.inl (a1)), some (.inl (a2)), some (.inl (x)), some (.inl (i))] [] μ1) (fun i ih hB x hi => ?_) a (by omega) _ ha
  rw [g172_64]
  refine ⟨by omega, fun _ => hQ _ _ m, fun q => s171 m.1 hi hB (fun b hb1 hb2 hb3 => ?_)⟩
  have hb4 := hb3 q
  rw [g172_83, q32_id (z := i + b) (by omega) (by omega)]
  exact ih _ (by omega) hb2 _ (by omega)
theorem s98 {μ0 : qM} {d : Nat} {Q : qV → qM → Prop} {μ : qM} (h : Sg μ0 μ) (hQ : ∀ a μ', Sg μ0 μ' → Q (.inl a) μ') : qmw (d + 2) 98 [(.inr (.inr (.inl (0))))] μ Q := by
  have ht := sa_today h.1
  rw [e98, g98_0, q32_id (z := μ 58 3 + 1) (by omega) (by omega)]
  refine ⟨fun _ => ?_, fun _ => hQ _ _ h⟩
  have m : Sg μ0 (qu μ 58 3 (μ 58 3 + 1)) := by
    refine Sg_m h ?_ ?_ ?_ ?_ ?_ ?_ ?_ <;> intros <;> omega
  generalize qu μ 58 3 (μ 58 3 + 1) = μ1 at m
  have hl := sa_line m.1
  rw [e40, g40_0]
  have key : ∀ (n s : Int), 0 ≤ n → n ≤ μ1 71 1 → qW d 40 (fun v ν => qW (d + 1) 98 Q 39 [some (.inr (.inr (.inl (0))))] (v :: []) ν) 42 [some (.inr (.inr (.inl (71)))), some (.inl (n)), some (.inl (s)), some (.inl (n))] [] μ1 := fun n s hn hn2 => by
    refine qup (μ1 71 1) (P := fun i => ∀ ν, n ≤ i → Sg μ0 ν → ν 71 1 = μ1 71 1 → qW d 40 (fun v ν => qW (d + 1) 98 Q 39 [some (.inr (.inr (.inl (0))))] (v :: []) ν) 42 [some (.inr (.inr (.inl (71)))), some (.inl (n)), some (.inl (s)), some (.inl (i))] [] ν) (fun i ih hB ν hi hm e => ?_) n hn2 _ (by omega) m rfl
    rw [g40_42, g98_39, e, q32_id (z := i - n) (by omega) (by omega), q32_id (z := i + 1) (by omega) (by omega), q32_id (z := μ1 71 1 - n) (by omega) (by omega)]
    refine ⟨fun _ => hQ _ _ ?_, fun _ => ⟨by omega, by omega, ih _ (by omega) (by omega) _ (by omega) ?_ (by rw [qu_cell (by omega)]; exact e)⟩⟩
    · clear ih
      refine Sg_m hm ?_ ?_ ?_ ?_ ?_ ?_ ?_ <;> intros <;> omega
    · clear ih
      refine Sg_m hm ?_ ?_ ?_ ?_ ?_ ?_ ?_ <;> intros <;> omega
  refine qup (μ1 71 1) (P := fun n => ∀ s, 0 ≤ n → qW d 40 (fun v ν => qW (d + 1) 98 Q 39 [some (.inr (.inr (.inl (0))))] (v :: []) ν) 4 [some (.inr (.inr (.inl (71)))), some (.inl (n)), some (.inl (s)), none] [] μ1) (fun n ih hB s hn => ?_) 0 (by omega) _ (by omega)
  rw [g40_4, q32_id (z := n + 1) (by omega) (by omega)]
  exact ⟨fun _ => key _ _ hn hB, fun _ => ⟨by omega, fun _ => key _ _ hn hB, fun _ => ⟨by omega, ih _ (by omega) (by omega) _ (by omega)⟩⟩⟩
theorem s173 {μ0 : qM} {d : Nat} {Q : qV → qM → Prop} {μ : qM} (h : Sg μ0 μ) (hQ : ∀ a μ', Sg μ0 μ' → Q (.inl a) μ') : qmw (d + 2) 173 [(.inr (.inr (.inl (170))))] μ Q := by
  have ht := sa_mtoday h.1
  have hc := sa_mcalls h.1 0
  rw [e173, g173_0]
  refine ⟨fun _ => s171 h.1 (by omega) hc.1 (fun n hn hn2 _ => ?_), fun _ => hQ _ _ h⟩
  rw [g173_18]
  refine qup (μ 193 0) (P := fun i => ∀ ν, n ≤ i → Sg μ0 ν → ν 193 0 = μ 193 0 → ν 170 1 = μ 170 1 → qW (d + 1) 173 Q 21 [some (.inr (.inr (.inl (170)))), some (.inl (n)), some (.inl (i))] [] ν) (fun i ih hB ν hi hm e e1 => ?_) n (by omega) _ (by omega) h rfl rfl
  have hw := sa_mmin hm.1 i
  rw [g173_21, e, e1, q32_id (z := i - n) (by omega) (by omega), q32_id (z := i + 1) (by omega) (by omega), q32_id (z := μ 193 0 - n) (by omega) (by omega), q32_id (z := μ 170 1 + 1) (by omega) (by omega)]
  refine ⟨by omega, fun _ => ⟨by omega, by omega, hQ _ _ ?_⟩, fun _ => ⟨by omega, by omega, ih _ (by omega) (by omega) _ (by omega) ?_ (by rw [qu_cell (by omega)]; exact e) (by rw [qu_cell (by omega)]; exact e1)⟩⟩
  · clear ih
    refine Sg_m (Sg_m hm ?_ ?_ ?_ ?_ ?_ ?_ ?_) ?_ ?_ ?_ ?_ ?_ ?_ ?_ <;> intros <;> omega
  · clear ih
    refine Sg_m hm ?_ ?_ ?_ ?_ ?_ ?_ ?_ <;> intros <;> omega
