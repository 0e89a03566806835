/-! DAYS AND IMAGES -/
def rk (c i : Int) : Prop := (c = 58 ∧ i = 3) ∨ ((c = 140 ∨ c = 155) ∧ (i = 3 ∨ i = 4)) ∨ (c = 170 ∧ i = 1) ∨ c = 195 ∨ c = 209
def Sh (μ0 μ : qM) : Prop := Safe μ ∧ ∀ c i, rk c i → μ c i = μ0 c i
theorem Sh_rf {μ : qM} (h : Safe μ) : Sh μ μ := ⟨h, fun _ _ _ => rfl⟩
theorem rk_relv {c i : Int} (h : rk c i) : relv c i := by
  unfold rk at h
  unfold relv
  rcases h with h | h | h | h | h <;> (first | exact Or.inl (by omega) | exact Or.inr (Or.inl (by omega)) | exact Or.inr (Or.inr (Or.inl (by omega))) | exact Or.inr (Or.inr (Or.inr (Or.inl (by omega)))) | exact Or.inr (Or.inr (Or.inr (Or.inr (Or.inl (by omega))))) | exact Or.inr (Or.inr (Or.inr (Or.inr (Or.inr (Or.inl (by omega)))))) | exact Or.inr (Or.inr (Or.inr (Or.inr (Or.inr (Or.inr (Or.inl (by omega))))))) | exact Or.inr (Or.inr (Or.inr (Or.inr (Or.inr (Or.inr (Or.inr (Or.inl (by omega)))))))) | exact Or.inr (Or.inr (Or.inr (Or.inr (Or.inr (Or.inr (Or.inr (Or.inr (Or.inl (by omega))))))))) | exact Or.inr (Or.inr (Or.inr (Or.inr (Or.inr (Or.inr (Or.inr (Or.inr (Or.inr (Or.inl (by omega)))))))))) | exact Or.inr (Or.inr (Or.inr (Or.inr (Or.inr (Or.inr (Or.inr (Or.inr (Or.inr (Or.inr (Or.inl (by omega))))))))))) | exact Or.inr (Or.inr (Or.inr (Or.inr (Or.inr (Or.inr (Or.inr (Or.inr (Or.inr (Or.inr (Or.inr (Or.inl (by omega)))))))))))) | exact Or.inr (Or.inr (Or.inr (Or.inr (Or.inr (Or.inr (Or.inr (Or.inr (Or.inr (Or.inr (Or.inr (Or.inr (Or.inl (by omega))))))))))))) | exact Or.inr (Or.inr (Or.inr (Or.inr (Or.inr (Or.inr (Or.inr (Or.inr (Or.inr (Or.inr (Or.inr (Or.inr (Or.inr (Or.inl (by omega)))))))))))))) | exact Or.inr (Or.inr (Or.inr (Or.inr (Or.inr (Or.inr (Or.inr (Or.inr (Or.inr (Or.inr (Or.inr (Or.inr (Or.inr (Or.inr (Or.inl (by omega))))))))))))))) | exact Or.inr (Or.inr (Or.inr (Or.inr (Or.inr (Or.inr (Or.inr (Or.inr (Or.inr (Or.inr (Or.inr (Or.inr (Or.inr (Or.inr (Or.inr (Or.inl (by omega)))))))))))))))) | exact Or.inr (Or.inr (Or.inr (Or.inr (Or.inr (Or.inr (Or.inr (Or.inr (Or.inr (Or.inr (Or.inr (Or.inr (Or.inr (Or.inr (Or.inr (Or.inr (Or.inl (by omega))))))))))))))))) | exact Or.inr (Or.inr (Or.inr (Or.inr (Or.inr (Or.inr (Or.inr (Or.inr (Or.inr (Or.inr (Or.inr (Or.inr (Or.inr (Or.inr (Or.inr (Or.inr (Or.inr (Or.inl (by omega)))))))))))))))))) | exact Or.inr (Or.inr (Or.inr (Or.inr (Or.inr (Or.inr (Or.inr (Or.inr (Or.inr (Or.inr (Or.inr (Or.inr (Or.inr (Or.inr (Or.inr (Or.inr (Or.inr (Or.inr (Or.inl (by omega))))))))))))))))))) | exact Or.inr (Or.inr (Or.inr (Or.inr (Or.inr (Or.inr (Or.inr (Or.inr (Or.inr (Or.inr (Or.inr (Or.inr (Or.inr (Or.inr (Or.inr (Or.inr (Or.inr (Or.inr (Or.inr (Or.inl (by omega)))))))))))))))))))) | exact Or.inr (Or.inr (Or.inr (Or.inr (Or.inr (Or.inr (Or.inr (Or.inr (Or.inr (Or.inr (Or.inr (Or.inr (Or.inr (Or.inr (Or.inr (Or.inr (Or.inr (Or.inr (Or.inr (Or.inr (Or.inl (by omega))))))))))))))))))))) | exact Or.inr (Or.inr (Or.inr (Or.inr (Or.inr (Or.inr (Or.inr (Or.inr (Or.inr (Or.inr (Or.inr (Or.inr (Or.inr (Or.inr (Or.inr (Or.inr (Or.inr (Or.inr (Or.inr (Or.inr (Or.inr (Or.inl (by omega)))))))))))))))))))))) | exact Or.inr (Or.inr (Or.inr (Or.inr (Or.inr (Or.inr (Or.inr (Or.inr (Or.inr (Or.inr (Or.inr (Or.inr (Or.inr (Or.inr (Or.inr (Or.inr (Or.inr (Or.inr (Or.inr (Or.inr (Or.inr (Or.inr (Or.inl (by omega))))))))))))))))))))))) | exact Or.inr (Or.inr (Or.inr (Or.inr (Or.inr (Or.inr (Or.inr (Or.inr (Or.inr (Or.inr (Or.inr (Or.inr (Or.inr (Or.inr (Or.inr (Or.inr (Or.inr (Or.inr (Or.inr (Or.inr (Or.inr (Or.inr (Or.inr (Or.inl (by omega)))))))))))))))))))))))) | exact Or.inr (Or.inr (Or.inr (Or.inr (Or.inr (Or.inr (Or.inr (Or.inr (Or.inr (Or.inr (Or.inr (Or.inr (Or.inr (Or.inr (Or.inr (Or.inr (Or.inr (Or.inr (Or.inr (Or.inr (Or.inr (Or.inr (Or.inr (Or.inr (Or.inl (by omega))))))))))))))))))))))))) | exact Or.inr (Or.inr (Or.inr (Or.inr (Or.inr (Or.inr (Or.inr (Or.inr (Or.inr (Or.inr (Or.inr (Or.inr (Or.inr (Or.inr (Or.inr (Or.inr (Or.inr (Or.inr (Or.inr (Or.inr (Or.inr (Or.inr (Or.inr (Or.inr (Or.inr (by omega))))))))))))))))))))))))))
theorem rk_relv0 {c i : Int} (h : rk c i) : relv0 c i := by
  unfold rk at h
  unfold relv0
  rcases h with h | h | h | h | h <;> (first | exact Or.inl (by omega) | exact Or.inr (Or.inl (by omega)) | exact Or.inr (Or.inr (Or.inl (by omega))) | exact Or.inr (Or.inr (Or.inr (Or.inl (by omega)))) | exact Or.inr (Or.inr (Or.inr (Or.inr (Or.inl (by omega))))) | exact Or.inr (Or.inr (Or.inr (Or.inr (Or.inr (Or.inl (by omega)))))) | exact Or.inr (Or.inr (Or.inr (Or.inr (Or.inr (Or.inr (Or.inl (by omega))))))) | exact Or.inr (Or.inr (Or.inr (Or.inr (Or.inr (Or.inr (Or.inr (Or.inl (by omega)))))))) | exact Or.inr (Or.inr (Or.inr (Or.inr (Or.inr (Or.inr (Or.inr (Or.inr (Or.inl (by omega))))))))) | exact Or.inr (Or.inr (Or.inr (Or.inr (Or.inr (Or.inr (Or.inr (Or.inr (Or.inr (Or.inl (by omega)))))))))) | exact Or.inr (Or.inr (Or.inr (Or.inr (Or.inr (Or.inr (Or.inr (Or.inr (Or.inr (Or.inr (Or.inl (by omega))))))))))) | exact Or.inr (Or.inr (Or.inr (Or.inr (Or.inr (Or.inr (Or.inr (Or.inr (Or.inr (Or.inr (Or.inr (Or.inl (by omega)))))))))))) | exact Or.inr (Or.inr (Or.inr (Or.inr (Or.inr (Or.inr (Or.inr (Or.inr (Or.inr (Or.inr (Or.inr (Or.inr (Or.inl (by omega))))))))))))) | exact Or.inr (Or.inr (Or.inr (Or.inr (Or.inr (Or.inr (Or.inr (Or.inr (Or.inr (Or.inr (Or.inr (Or.inr (Or.inr (Or.inl (by omega)))))))))))))) | exact Or.inr (Or.inr (Or.inr (Or.inr (Or.inr (Or.inr (Or.inr (Or.inr (Or.inr (Or.inr (Or.inr (Or.inr (Or.inr (Or.inr (Or.inl (by omega))))))))))))))) | exact Or.inr (Or.inr (Or.inr (Or.inr (Or.inr (Or.inr (Or.inr (Or.inr (Or.inr (Or.inr (Or.inr (Or.inr (Or.inr (Or.inr (Or.inr (Or.inl (by omega)))))))))))))))) | exact Or.inr (Or.inr (Or.inr (Or.inr (Or.inr (Or.inr (Or.inr (Or.inr (Or.inr (Or.inr (Or.inr (Or.inr (Or.inr (Or.inr (Or.inr (Or.inr (Or.inl (by omega))))))))))))))))) | exact Or.inr (Or.inr (Or.inr (Or.inr (Or.inr (Or.inr (Or.inr (Or.inr (Or.inr (Or.inr (Or.inr (Or.inr (Or.inr (Or.inr (Or.inr (Or.inr (Or.inr (Or.inl (by omega)))))))))))))))))) | exact Or.inr (Or.inr (Or.inr (Or.inr (Or.inr (Or.inr (Or.inr (Or.inr (Or.inr (Or.inr (Or.inr (Or.inr (Or.inr (Or.inr (Or.inr (Or.inr (Or.inr (Or.inr (by omega)))))))))))))))))))
theorem Sh_r {μ0 μ : qM} (h : Sr μ0 μ) : Sh μ0 μ := ⟨h.1, fun c i q => h.2 c i (rk_relv q)⟩
theorem Sh_u {μ0 μ : qM} {c i v : Int} (h : Sh μ0 μ) (hv : sf c i v) (h0 : ¬ rk c i) (h1 : ¬ c = 182) (h2 : ¬ c = 183) (h3 : ¬ (c = 170 ∧ i = 4)) (h4 : ¬ c = 176) : Sh μ0 (qu μ c i v) := ⟨Safe_u h.1 hv h1 h2 h3 h4, fun c' i' q => by
  rw [qu_ne (fun e => h0 (by rw [← e.1, ← e.2]; exact q))]
  exact h.2 c' i' q⟩
theorem Sh_cp {μ0 μ : qM} {a b : Int} (h : Sh μ0 μ) (hs : ∀ i v, sf a i v → sf b i v) (h0 : ∀ i, ¬ rk b i) (h1 : ¬ b = 182) (h2 : ¬ b = 183) (h3 : ¬ b = 170) (h4 : ¬ b = 176) : Sh μ0 (qcp μ a b) := ⟨Safe_cp h.1 hs h1 h2 h3 h4, fun c i q => by
  unfold qcp
  rw [if_neg (fun e => h0 i (by rw [← e]; exact q))]
  exact h.2 c i q⟩
theorem Sh_icp {μ0 μ : qM} {c0 c1 k : Int} (hm : Sh μ0 μ) (h0 : c0 = 58 ∨ c0 = 140 ∨ c0 = 155) (h1 : c1 = 58 ∨ c1 = 140 ∨ c1 = 155) (q1 : 2 ≤ k) (q2 : k ≤ 14) : Sh μ0 (qcp μ (c1 + k) (c0 + k)) := Sh_cp hm (fun i v q => sf_im h0 h1 (by omega) (by omega) q) (fun i => by unfold rk; omega) (by omega) (by omega) (by omega) (by omega)
theorem Sh_iu {μ0 μ : qM} {c0 c1 k i : Int} (hm : Sh μ0 μ) (h0 : c0 = 58 ∨ c0 = 140 ∨ c0 = 155) (h1 : c1 = 58 ∨ c1 = 140 ∨ c1 = 155) (q1 : 1 ≤ k) (q2 : k ≤ 14) : Sh μ0 (qu μ (c0 + k) i (μ (c1 + k) i)) := Sh_u hm (sf_im h0 h1 (by omega) q2 (hm.1.1 _ _)) (by unfold rk; omega) (by omega) (by omega) (by omega) (by omega)
theorem Sh_p {μ0 μ : qM} {p k i v : Int} (h : Sh μ0 μ) (h0 : 0 ≤ p) (h1 : p < 6) (hk : 1 ≤ k) (hk2 : k ≤ 10) (hk3 : ¬ k = 3) : Sh μ0 (qu μ (74 + 11 * p + k) i v) := by
  refine Sh_u h ?_ (by unfold rk; omega) (by omega) (by omega) (by omega) (by omega)
  unfold sf
  refine ⟨?_, ?_, ?_, ?_, ?_, ?_, ?_, ?_, ?_, ?_, ?_, ?_, ?_, ?_, ?_, ?_, ?_, ?_, ?_, ?_, ?_, ?_, ?_, ?_, ?_, ?_, ?_, ?_, ?_, ?_, ?_⟩ <;> intros <;> omega
theorem Sh_pf {μ0 μ : qM} {p v : Int} (h : Sh μ0 μ) (h0 : 0 ≤ p) (h1 : p < 6) (hv : 0 ≤ v) (hv2 : v ≤ 3) : Sh μ0 (qu μ (74 + 11 * p) 10 v) := by
  refine Sh_u h ?_ (by unfold rk; omega) (by omega) (by omega) (by omega) (by omega)
  unfold sf
  refine ⟨?_, ?_, ?_, ?_, ?_, ?_, ?_, ?_, ?_, ?_, ?_, ?_, ?_, ?_, ?_, ?_, ?_, ?_, ?_, ?_, ?_, ?_, ?_, ?_, ?_, ?_, ?_, ?_, ?_, ?_, ?_⟩ <;> intros <;> omega
theorem Sh_m {μ0 μ : qM} {c i v : Int} (h : Sh μ0 μ) (hc : c = 177 ∨ c = 178 ∨ c = 181 ∨ c = 184 ∨ c = 185 ∨ c = 193 ∨ c = 207 ∨ c = 208 ∨ c = 71 ∨ c = 72) (h178 : c = 178 → 0 ≤ v ∧ v ≤ 20) (h181 : c = 181 → 0 ≤ v ∧ v ≤ 3) (h184 : c = 184 → 0 ≤ v ∧ v ≤ 200) (h193 : (c = 193 ∨ c = 71) → 0 ≤ v ∧ v ≤ 40) (h195 : (c = 195 ∨ c = 170 ∨ c = 58) → 0 ≤ v ∧ v ≤ 200) (h207 : c = 207 → 0 ≤ v ∧ v ≤ 60) : Sh μ0 (qu μ c i v) := by
  have n : ¬ rk c i ∧ ¬ c = 182 ∧ ¬ c = 183 ∧ ¬ (c = 170 ∧ i = 4) ∧ ¬ c = 176 := by
    clear h178 h181 h184 h193 h195 h207
    unfold rk
    omega
  refine Sh_u h ?_ n.1 n.2.1 n.2.2.1 n.2.2.2.1 n.2.2.2.2
  clear n
  unfold sf
  refine ⟨?_, ?_, ?_, ?_, ?_, fun q => h195 ?_, ?_, ?_, ?_, ?_, ?_, fun q => h193 ?_, fun q => h195 ?_, ?_, ?_, fun q => h178 q, ?_, fun q => h181 q, ?_, fun q => h184 q, ?_, ?_, fun q => h193 ?_, fun q => h195 ?_, ?_, ?_, ?_, fun q => h207 q, ?_, ?_, ?_⟩
  all_goals
    clear h178 h181 h184 h193 h195 h207
    intros
    omega
theorem Sh_f {μ0 μ : qM} {k a b s t : Int} (h : Sh μ0 μ) (h0 : 0 ≤ a) (h1 : a ≤ b) (h2 : b ≤ 9) (h3 : 0 ≤ s) (h4 : s ≤ 200) : Sh μ0 (qu (qu (qu (qu μ 182 k a) 183 k b) 184 k s) 185 k t) := by
  have hx : Sh μ0 (qu (qu μ 182 k a) 183 k b) := by
    refine ⟨⟨fun c i => ?_, fun j => ?_, fun j h5 h6 => ?_⟩, fun c9 i9 q9 => ?_⟩
    · by_cases e : c = 183 ∧ i = k
      · obtain ⟨rfl, rfl⟩ := e
        rw [qu_same]
        unfold sf
        refine ⟨?_, ?_, ?_, ?_, ?_, ?_, ?_, ?_, ?_, ?_, ?_, ?_, ?_, ?_, ?_, ?_, ?_, ?_, ?_, ?_, ?_, ?_, ?_, ?_, ?_, ?_, ?_, ?_, ?_, ?_, ?_⟩ <;> intros <;> omega
      · rw [qu_ne e]
        by_cases e2 : c = 182 ∧ i = k
        · obtain ⟨rfl, rfl⟩ := e2
          rw [qu_same]
          unfold sf
          refine ⟨?_, ?_, ?_, ?_, ?_, ?_, ?_, ?_, ?_, ?_, ?_, ?_, ?_, ?_, ?_, ?_, ?_, ?_, ?_, ?_, ?_, ?_, ?_, ?_, ?_, ?_, ?_, ?_, ?_, ?_, ?_⟩ <;> intros <;> omega
        · rw [qu_ne e2]
          exact h.1.1 c i
    · by_cases e : j = k
      · rw [e, qu_same, qu_cell (by omega), qu_same]
        exact h1
      · rw [qu_ne (by omega), qu_ne (by omega), qu_ne (by omega), qu_ne (by omega)]
        exact h.1.2.1 j
    · rw [qu_cell (by omega), qu_cell (by omega)] at h6
      rw [qu_cell (by omega), qu_cell (by omega)]
      exact h.1.2.2 j h5 h6
    · rw [qu_cell (by unfold rk at q9; omega), qu_cell (by unfold rk at q9; omega)]
      exact h.2 c9 i9 q9
  refine Sh_m (Sh_m hx ?_ ?_ ?_ ?_ ?_ ?_ ?_) ?_ ?_ ?_ ?_ ?_ ?_ ?_ <;> intros <;> omega
theorem h80 {μ0 : qM} {d : Nat} {Q : qV → qM → Prop} {μ : qM} {a1 a2 a3 a4 : Int} (h : Sh μ0 μ) (hQ : ∀ a μ', Sh μ0 μ' → Q (.inl a) μ') : qmw (d + 3) 80 [(.inr (.inr (.inl (0)))), (.inl (a1)), (.inl (a2)), (.inl (a3)), (.inl (a4))] μ Q := by
  rw [e80, g80_0, E105, g80_4, qbr]
  simp only [E104, E106, g80_11, g80_20, g80_31, qbr2, qbr]
  refine ⟨fun _ => hQ _ _ h, fun _ => ⟨fun _ => hQ _ _ h, fun _ => ⟨fun _ => hQ _ _ h, fun _ => ⟨fun _ => ?_, fun _ => hQ _ _ h⟩⟩⟩⟩
  have hx : 0 ≤ a1 ∧ a1 < 6 := by omega
  have hy : 0 ≤ a2 ∧ a2 < 10 := by omega
  have hp := pf (isP57 hx.1 hx.2)
  simp only [hp, qif_r]
  rw [qra57 hx.1 hx.2]
  exact ⟨fun _ => ⟨hx, hy, hy, hQ _ _ (Sh_p h hx.1 hx.2 (by decide) (by decide) (by decide))⟩, fun _ => ⟨hx, hy, hy, hQ _ _ (Sh_p h hx.1 hx.2 (by decide) (by decide) (by decide))⟩⟩
theorem h135 {μ0 : qM} {d : Nat} {Q : qV → qM → Prop} {μ : qM} {a1 a2 a3 a4 : Int} (h : Sh μ0 μ) (hQ : ∀ a μ', Sh μ0 μ' → Q (.inl a) μ') : qmw (d + 3) 135 [(.inr (.inr (.inl (170)))), (.inl (a1)), (.inl (a2)), (.inl (a3)), (.inl (a4))] μ Q := by
  rw [e135, g135_0, E133, g135_4, qbr2]
  simp only [E134, E117, g135_11, g135_20, g135_31, qbr2, qbr]
  refine ⟨fun _ => hQ _ _ h, fun _ => ⟨fun _ => hQ _ _ h, fun _ => ⟨fun _ => hQ _ _ h, fun _ => ⟨fun _ => ?_, fun _ => hQ _ _ h⟩⟩⟩⟩
  rw [q32_id (z := 10 * a1) (by omega) (by omega), q32_id (z := 10 * a1 + a2) (by omega) (by omega)]
  have hy : 0 ≤ 10 * a1 + a2 ∧ 10 * a1 + a2 < 60 := by omega
  have m1 : Sh μ0 (qu μ 178 (10 * a1 + a2) a4) := by
    refine Sh_m h ?_ ?_ ?_ ?_ ?_ ?_ ?_ <;> intros <;> omega
  have m2 : Sh μ0 (qu μ 177 (10 * a1 + a2) a4) := by
    refine Sh_m h ?_ ?_ ?_ ?_ ?_ ?_ ?_ <;> intros <;> omega
  exact ⟨fun _ => ⟨hy, fun _ => ⟨hy, hQ _ _ m1⟩, fun _ => ⟨hy, hQ _ _ m2⟩⟩, fun _ => ⟨hy, fun _ => ⟨hy, hQ _ _ m1⟩, fun _ => ⟨hy, hQ _ _ m2⟩⟩⟩
theorem h43 {μ0 : qM} {d : Nat} {Q : qV → qM → Prop} {μ : qM} {p a1 a2 a3 a4 : Int} (h : Sh μ0 μ) (h0 : 0 ≤ p) (h1 : p < 6) (hQ : ∀ a μ', Sh μ0 μ' → Q (.inl a) μ') : qmw (d + 1) 43 [(.inr (.inr (.inl (74 + 11 * p)))), (.inl (a1)), (.inl (a2)), (.inl (a3)), (.inl (a4))] μ Q := by
  have hc : isP (74 + 11 * p) := ⟨p, h0, h1, rfl⟩
  have hf := sa_firms h.1 hc
  have fr : ∀ {ν : qM} {k i v : Int}, 1 ≤ k → (qu ν (74 + 11 * p + k) i v) (74 + 11 * p) 10 = ν (74 + 11 * p) 10 := fun q => qu_cell (by omega) _
  have hp := pf hc
  rw [e43 hp.1, g43_0]
  simp only [hp, qif_r]
  simp only [fr (k := 5) (by decide), fr (k := 6) (by decide), fr (k := 7) (by decide), fr (k := 8) (by decide)]
  clear hp
  refine ⟨fun q => ?_, fun _ => hQ _ _ h⟩
  have hx : 0 ≤ μ (74 + 11 * p) 10 ∧ μ (74 + 11 * p) 10 < 3 := ⟨hf.1, q⟩
  refine ⟨hx, hx, hx, hx, hQ _ _ ?_⟩
  rw [q32_id (by omega) (by omega)]
  exact Sh_pf (Sh_p (Sh_p (Sh_p (Sh_p h h0 h1 (by decide) (by decide) (by decide)) h0 h1 (by decide) (by decide) (by decide)) h0 h1 (by decide) (by decide) (by decide)) h0 h1 (by decide) (by decide) (by decide)) h0 h1 (by omega) (by omega)
theorem h81 {μ0 : qM} {d : Nat} {Q : qV → qM → Prop} {μ : qM} {a1 a2 a3 a4 : Int} (h : Sh μ0 μ) (hQ : ∀ a μ', Sh μ0 μ' → Q (.inl a) μ') : qmw (d + 3) 81 [(.inr (.inr (.inl (0)))), (.inl (a1)), (.inl (a2)), (.inl (a3)), (.inl (a4))] μ Q := by
  rw [e81, g81_0, E105, g81_4, qbr]
  simp only [E106, E104, g81_11, g81_18, g81_42, qbr2, qbr]
  refine ⟨fun _ => hQ _ _ h, fun _ => ⟨fun _ => hQ _ _ h, fun _ => ⟨fun _ => hQ _ _ h, fun _ => ⟨fun _ => ⟨fun _ => ⟨by omega, ?_⟩, fun _ => hQ _ _ h⟩, fun _ => hQ _ _ h⟩⟩⟩⟩
  rw [qra57 (by omega) (by omega)]
  refine qup 10 (P := fun i => 0 ≤ i → qW (d + 2) 81 Q 58 [some (.inr (.inr (.inl (0)))), some (.inl (a1)), some (.inl (a2)), some (.inl (a3)), some (.inl (a4)), some (.inr (.inr (.inl (74 + 11 * a1)))), some (.inl (i))] [] μ) (fun i ih hB hi => ?_) a2 (by omega) (by omega)
  rw [g81_58]
  refine ⟨fun _ => h43 h (by omega) (by omega) (fun a μ1 h1 => ?_), fun _ => s44 h.1 ⟨a1, by omega, by omega, rfl⟩ (fun a _ _ => ?_)⟩
  · rw [g81_102]
    exact hQ _ _ h1
  · rw [g81_74, q32_id (z := i + 1) (by omega) (by omega)]
    exact ⟨fun _ => ih _ (by omega) (by omega) (by omega), fun _ => hQ _ _ h⟩
theorem h137 {μ0 : qM} {d : Nat} {Q : qV → qM → Prop} {μ : qM} {a1 a2 a3 a4 : Int} (h : Sh μ0 μ) (hQ : ∀ a μ', Sh μ0 μ' → Q (.inl a) μ') : qmw (d + 3) 137 [(.inr (.inr (.inl (170)))), (.inl (a1)), (.inl (a2)), (.inl (a3)), (.inl (a4))] μ Q := by
  rw [e137, g137_0, E133, g137_4, qbr2]
  simp only [E134, E117, g137_11, g137_21, g137_38, qbr2, qbr]
  refine ⟨fun _ => hQ _ _ h, fun _ => ⟨fun _ => hQ _ _ h, fun _ => ⟨fun _ => hQ _ _ h, fun _ => ⟨fun q => ?_, fun _ => hQ _ _ h⟩⟩⟩⟩
  rw [q32_id (z := a3 - a2) (by omega) (by omega), q32_id (z := a3 - a2 + 1) (by omega) (by omega), q32_id (z := 20 * (a3 - a2 + 1)) (by omega) (by omega)] at q
  have hf := sa_mfirms h.1 a1
  refine qup 10 (P := fun i => 0 ≤ i → qW (d + 2) 137 Q 46 [some (.inr (.inr (.inl (170)))), some (.inl (a1)), some (.inl (a2)), some (.inl (a3)), some (.inl (a4)), some (.inl (i))] [] μ) (fun i ih hB hi => ?_) a2 (by omega) (by omega)
  rw [g137_46]
  refine ⟨fun _ => ?_, fun _ => s136 h.1 (by omega) (by omega) (fun a _ => ?_)⟩
  · clear ih
    refine ⟨by omega, fun _ => ?_, fun _ => hQ _ _ h⟩
    rw [q32_id (z := 3 * a1) (by omega) (by omega), q32_id (z := 3 * a1 + μ 181 a1) (by omega) (by omega), q32_id (z := μ 181 a1 + 1) (by omega) (by omega)]
    have hy : 0 ≤ 3 * a1 + μ 181 a1 ∧ 3 * a1 + μ 181 a1 < 18 := by omega
    have hx : 0 ≤ a1 ∧ a1 < 6 := by omega
    refine ⟨hx, hy, hy, hy, hy, hx, hx, hx, hQ _ _ ?_⟩
    have m := Sh_f (k := 3 * a1 + μ 181 a1) (a := a2) (b := a3) (s := a4) (t := μ 170 1) h (by omega) (by omega) (by omega) (by omega) (by omega)
    refine Sh_m m ?_ ?_ ?_ ?_ ?_ ?_ ?_ <;> intros <;> omega
  · rw [g137_62, q32_id (z := i + 1) (by omega) (by omega)]
    exact ⟨fun _ => ih _ (by omega) (by omega) (by omega), fun _ => hQ _ _ h⟩
theorem h94 {μ0 : qM} {d : Nat} {Q : qV → qM → Prop} {μ : qM} {a1 a2 a3 : Int} (h : Sh μ0 μ) (hQ : ∀ a μ', Sh μ0 μ' → Q (.inl a) μ') : qmw (d + 3) 94 [(.inr (.inr (.inl (0)))), (.inl (a1)), (.inl (a2)), (.inl (a3))] μ Q := by
  have ht := sa_today h.1
  rw [e94, g94_0, E105, g94_4, qbr]
  simp only [E104, g94_13, g94_23, qbr2, qbr]
  refine ⟨fun _ => hQ _ _ h, fun _ => ⟨fun _ => hQ _ _ h, fun _ => ⟨fun _ => ?_, fun _ => hQ _ _ h⟩⟩⟩
  have hx : 0 ≤ a1 ∧ a1 < 6 := by omega
  have hy : 0 ≤ μ 58 3 ∧ μ 58 3 < 201 := by omega
  have key : ∀ (k a5 : Int), (k = 9 ∨ k = 10) → qty (74 + 11 * a1 + k) = 100 → qal (74 + 11 * a1 + k) = 201 → qW (d + 2) 94 Q 76 [some (.inr (.inr (.inl (0)))), some (.inl (a1)), some (.inl (a2)), some (.inl (a3)), some (.inr (.inr (.inl (74 + 11 * a1 + k)))), some (.inl (a5)), some (.inl (μ 58 3))] [] μ := fun k a5 hk e1 e2 => by
    refine qup 201 (P := fun i => ∀ ν, 0 ≤ i → Sh μ0 ν → qW (d + 2) 94 Q 76 [some (.inr (.inr (.inl (0)))), some (.inl (a1)), some (.inl (a2)), some (.inl (a3)), some (.inr (.inr (.inl (74 + 11 * a1 + k)))), some (.inl (a5)), some (.inl (i))] [] ν) (fun i ih hB ν hi hm => ?_) _ (by omega) _ hy.1 h
    rw [g94_76, e1, e2, qif_r, q32_id (z := i + 1) (by omega) (by omega)]
    exact ⟨fun _ => hQ _ _ hm, fun _ => ⟨by omega, ih _ (by omega) (by omega) _ (by omega) (Sh_p hm hx.1 hx.2 (by omega) (by omega) (by omega))⟩⟩
  have hp := pf (isP57 hx.1 hx.2)
  simp only [hp, qif_r]
  rw [qra57 hx.1 hx.2] at hp ⊢
  exact ⟨fun _ => ⟨hx, hy, key 10 _ (by decide) hp.2.2.1.2.2.2.2.2.2.2.2.2 hp.2.2.2.2.2.2.2.2.2.2.2.2⟩, fun _ => ⟨hx, hy, key 9 _ (by decide) hp.2.2.1.2.2.2.2.2.2.2.2.1 hp.2.2.2.2.2.2.2.2.2.2.2.1⟩⟩
theorem h162 {μ0 : qM} {d : Nat} {Q : qV → qM → Prop} {μ : qM} {a1 a2 a3 : Int} (h : Sh μ0 μ) (hQ : ∀ a μ', Sh μ0 μ' → Q (.inl a) μ') : qmw (d + 3) 162 [(.inr (.inr (.inl (170)))), (.inl (a1)), (.inl (a2)), (.inl (a3))] μ Q := by
  have ht := sa_mtoday h.1
  rw [e162, g162_0, E133, g162_4, qbr2]
  simp only [E117, g162_13, g162_23, qbr2, qbr]
  refine ⟨fun _ => hQ _ _ h, fun _ => ⟨fun _ => hQ _ _ h, fun _ => ⟨fun _ => s161 (by omega) (by omega) (by omega) (by omega) (by omega) (by omega) (fun a => ?_), fun _ => hQ _ _ h⟩⟩⟩
  rw [g162_38]
  refine qup 201 (P := fun i => ∀ ν, 0 ≤ i → Sh μ0 ν → qW (d + 2) 162 Q 46 [some (.inr (.inr (.inl (170)))), some (.inl (a1)), some (.inl (a2)), some (.inl (a3)), some (.inl (a)), some (.inl (i))] [] ν) (fun i ih hB ν hi hm => ?_) _ (by omega) _ ht.1 h
  rw [g162_46, q32_id (z := 2 * a1) (by omega) (by omega), q32_id (z := 2 * a1 + a2) (by omega) (by omega), q32_id (z := 201 * (2 * a1 + a2)) (by omega) (by omega), q32_id (z := 201 * (2 * a1 + a2) + i) (by omega) (by omega), q32_id (z := i + 1) (by omega) (by omega)]
  refine ⟨fun _ => hQ _ _ hm, fun _ => ⟨by omega, ih _ (by omega) (by omega) _ (by omega) ?_⟩⟩
  clear ih
  refine Sh_m hm ?_ ?_ ?_ ?_ ?_ ?_ ?_ <;> intros <;> omega
theorem h97 {μ0 : qM} {d : Nat} {Q : qV → qM → Prop} {μ : qM} {a1 a2 : Int} (h : Sh μ0 μ) (hQ : ∀ a μ', Sh μ0 μ' → Q (.inl a) μ') : qmw (d + 3) 97 [(.inr (.inr (.inl (0)))), (.inl (a1)), (.inl (a2))] μ Q := by
  have hl := sa_line h.1
  rw [e97, g97_0, E105, g97_4, qbr]
  simp only [E104, g97_14, qbr2]
  refine ⟨fun _ => hQ _ _ h, fun _ => ⟨fun _ => ?_, fun _ => hQ _ _ h⟩⟩
  rw [e38, g38_0, q32_id (z := μ 71 1 + 1) (by omega) (by omega), g97_30, g97_30]
  refine ⟨fun _ => ⟨by omega, by omega, fun _ => ?_, fun q => absurd q (by decide)⟩, fun _ => ⟨by omega, fun q => absurd rfl q, fun _ => hQ _ _ h⟩⟩
  have m : Sh μ0 (qu (qu μ 72 (μ 71 1) a2) 71 1 (μ 71 1 + 1)) := by
    refine Sh_m (Sh_m h ?_ ?_ ?_ ?_ ?_ ?_ ?_) ?_ ?_ ?_ ?_ ?_ ?_ ?_ <;> intros <;> omega
  generalize qu (qu μ 72 (μ 71 1) a2) 71 1 (μ 71 1 + 1) = μ1 at m
  have hl1 := sa_line m.1
  rw [e39, g39_0]
  refine qup (μ1 71 1) (P := fun i => ∀ x y, 0 ≤ i → qW (d + 1) 39 (fun v ν => qW (d + 2) 97 Q 46 [some (.inr (.inr (.inl (0)))), some (.inl (a1)), some (.inl (a2))] (v :: []) ν) 6 [some (.inr (.inr (.inl (71)))), some (.inl (x)), some (.inl (y)), some (.inl (i))] [] μ1) (fun i ih hB x y hi => ?_) 0 (by omega) _ _ (by omega)
  rw [g39_6, g97_46, q32_id (z := i + 1) (by omega) (by omega)]
  exact ⟨fun _ => hQ _ _ m, fun _ => ⟨by omega, fun _ => ih _ (by omega) (by omega) _ _ (by omega), fun _ => ⟨by omega, ih _ (by omega) (by omega) _ _ (by omega)⟩⟩⟩
theorem h172 {μ0 : qM} {d : Nat} {Q : qV → qM → Prop} {μ : qM} {a1 a2 : Int} (h : Sh μ0 μ) (hQ : ∀ a μ', Sh μ0 μ' → Q (.inl a) μ') : qmw (d + 3) 172 [(.inr (.inr (.inl (170)))), (.inl (a1)), (.inl (a2))] μ Q := by
  have hc := sa_mcalls h.1 0
  rw [e172, g172_0, E133, g172_4, qbr2]
  simp only [E117, g172_14, qbr]
  refine ⟨fun _ => hQ _ _ h, fun _ => ⟨fun _ => ⟨by omega, fun _ => ?_, fun _ => hQ _ _ h⟩, fun _ => hQ _ _ h⟩⟩
  rw [q32_id (z := μ 193 0 + 1) (by omega) (by omega)]
  have m : Sh μ0 (qu (qu μ 207 (μ 193 0) a2) 193 0 (μ 193 0 + 1)) := by
    refine Sh_m (Sh_m h ?_ ?_ ?_ ?_ ?_ ?_ ?_) ?_ ?_ ?_ ?_ ?_ ?_ ?_ <;> intros <;> omega
  refine ⟨by omega, by omega, by omega, by omega, ?_⟩
  generalize qu (qu μ 207 (μ 193 0) a2) 193 0 (μ 193 0 + 1) = μ1 at m
  have hc1 := sa_mcalls m.1 0
  refine s171 m.1 (by omega) hc1.1 (fun a ha hb _ => ?_)
  rw [g172_62]
  refine qup (μ1 193 0) (P := fun i => ∀ x, 0 ≤ i → qW (d + 2) 172 Q 64 [some (.inr (.inr (.inl (170)))), some (.inl (a1)), some (.inl (a2)), some (.inl (x)), some (.inl (i))] [] μ1) (fun i ih hB x hi => ?_) a (by omega) _ ha
  rw [g172_64]
  refine ⟨by omega, fun _ => hQ _ _ m, fun q => s171 m.1 hi hB (fun b hb1 hb2 hb3 => ?_)⟩
  have hb4 := hb3 q
  rw [g172_83, q32_id (z := i + b) (by omega) (by omega)]
  exact ih _ (by omega) hb2 _ (by omega)
theorem h23 {μ0 : qM} {d : Nat} {Q : qV → qM → Prop} {μ : qM} {c0 c1 : Int} (h : Sh μ0 μ) (h0 : c0 = 58 ∨ c0 = 140 ∨ c0 = 155) (h1 : c1 = 58 ∨ c1 = 140 ∨ c1 = 155) (hQ : ∀ μ', Sh μ0 μ' → Q (.inl 0) (qu μ' c0 3 (μ' c1 3))) : qmw (d + 3) 23 [(.inr (.inr (.inl (c0)))), (.inr (.inr (.inl (c1))))] μ Q := by
  have cp : ∀ {ν : qM} (k : Int), 2 ≤ k → k ≤ 14 → Sh μ0 ν → Sh μ0 (qcp ν (c1 + k) (c0 + k)) := fun k q1 q2 hm => Sh_icp hm h0 h1 q1 q2
  have u : ∀ {ν : qM} (k i : Int), 1 ≤ k → k ≤ 14 → Sh μ0 ν → Sh μ0 (qu ν (c0 + k) i (ν (c1 + k) i)) := fun k i q1 q2 hm => Sh_iu hm h0 h1 q1 q2
  have f0 := imf h0
  have f1 := imf h1
  have a0 := fun k hk => ima (k := k) h0 hk
  have a1 := fun k hk => ima (k := k) h1 hk
  have b0 := fun k hk => imb (k := k) h0 hk
  have b1 := fun k hk => imb (k := k) h1 hk
  have g0 := imc h0
  have g1 := imc h1
  have ea : ∀ {D : Nat} {R : qV → qM → Prop} {ν : qM} (k : Int), (k = 2 ∨ k = 3 ∨ k = 4 ∨ k = 5 ∨ k = 6 ∨ k = 7 ∨ k = 8) → qmw (D + 1) 115 [(.inr (.inr (.inl (c1 + k)))), (.inr (.inr (.inl (c0 + k))))] ν R = R (.inl 0) (qcp ν (c1 + k) (c0 + k)) := fun k hk => E115 (a1 k hk).1 (a0 k hk).1 (by rw [(a0 k hk).2, (a1 k hk).2])
  have eb : ∀ {D : Nat} {R : qV → qM → Prop} {ν : qM} (k : Int), (k = 10 ∨ k = 11 ∨ k = 12) → qmw (D + 1) 115 [(.inr (.inr (.inl (c1 + k)))), (.inr (.inr (.inl (c0 + k))))] ν R = R (.inl 0) (qcp ν (c1 + k) (c0 + k)) := fun k hk => E115 (b1 k hk).1 (b0 k hk).1 (by rw [(b0 k hk).2, (b1 k hk).2])
  have ec : ∀ {D : Nat} {R : qV → qM → Prop} {ν : qM}, qmw (D + 1) 115 [(.inr (.inr (.inl (c1 + 14)))), (.inr (.inr (.inl (c0 + 14))))] ν R = R (.inl 0) (qcp ν (c1 + 14) (c0 + 14)) := E115 g1.1 g0.1 (by rw [g0.2, g1.2])
  rw [e23 f0.1, g23_0]
  simp only [f0, f1, qif_r]
  rw [e33 f0.2.2.2.2.1.1, g33_0]
  simp only [f0, f1, qif_r]
  rw [ea 2 (by decide), g33_19]
  simp only [f0, f1, qif_r]
  rw [ea 3 (by decide), g33_30]
  simp only [f0, f1, qif_r]
  rw [ea 4 (by decide), g33_41]
  simp only [f0, f1, qif_r]
  rw [ea 5 (by decide), g33_52]
  simp only [f0, f1, qif_r]
  rw [ea 6 (by decide), g33_63]
  simp only [f0, f1, qif_r]
  rw [ea 7 (by decide), g33_74]
  simp only [f0, f1, qif_r]
  rw [ea 8 (by decide), g33_85, g23_11]
  simp only [f0, f1, qif_r]
  have m1 := cp 8 (by decide) (by decide) (cp 7 (by decide) (by decide) (cp 6 (by decide) (by decide) (cp 5 (by decide) (by decide) (cp 4 (by decide) (by decide) (cp 3 (by decide) (by decide) (cp 2 (by decide) (by decide) (u 1 7 (by decide) (by decide) h)))))))
  generalize qcp (qcp (qcp (qcp (qcp (qcp (qcp (qu μ (c0 + 1) 7 (μ (c1 + 1) 7)) (c1 + 2) (c0 + 2)) (c1 + 3) (c0 + 3)) (c1 + 4) (c0 + 4)) (c1 + 5) (c0 + 5)) (c1 + 6) (c0 + 6)) (c1 + 7) (c0 + 7)) (c1 + 8) (c0 + 8) = μ1 at m1
  rw [e36 f0.2.2.2.2.2.1.1, g36_0]
  simp only [f0, f1, qif_r]
  rw [eb 10 (by decide), g36_19]
  simp only [f0, f1, qif_r]
  rw [eb 11 (by decide), g36_30]
  simp only [f0, f1, qif_r]
  rw [eb 12 (by decide), g36_41, g23_22]
  simp only [f0, f1, qif_r]
  have m2 := cp 12 (by decide) (by decide) (cp 11 (by decide) (by decide) (cp 10 (by decide) (by decide) (u 9 3 (by decide) (by decide) m1)))
  generalize qcp (qcp (qcp (qu μ1 (c0 + 9) 3 (μ1 (c1 + 9) 3)) (c1 + 10) (c0 + 10)) (c1 + 11) (c0 + 11)) (c1 + 12) (c0 + 12) = μ2 at m2
  rw [e41 f0.2.2.2.2.2.2.1, g41_0]
  simp only [f0, f1, qif_r]
  rw [ec, g41_19, g23_33]
  simp only [f0, f1, qif_r]
  have m3 := cp 14 (by decide) (by decide) (u 13 1 (by decide) (by decide) m2)
  exact hQ _ m3
theorem sf_t {c c' v : Int} (h0 : c = 58 ∨ c = 140 ∨ c = 155) (h1 : c' = 58 ∨ c' = 140 ∨ c' = 155) (h : sf c 3 v) : sf c' 3 v := by
  have := sf_im (c0 := c') (c1 := c) (k := 0) (i := 3) (v := v) h1 h0 (by decide) (by decide) (by rw [Int.add_zero]; exact h)
  rw [Int.add_zero] at this
  exact this
/-- keep: the image's day is today's, and it is kept -/
theorem h100 {d : Nat} {Q : qV → qM → Prop} {μ : qM} {a1 : Int} (hS : Safe μ) (hQ : ∀ μ', (a1 = 0 ∨ a1 = 1) → Safe μ' → (∀ c i, rk c i → ¬ c = qra 73 a1 → μ' c i = μ c i) → μ' (qra 73 a1) 3 = μ 58 3 → μ' (qra 73 a1) 4 = 1 → Q (.inl (μ 58 3)) μ') (hN : ¬ (a1 = 0 ∨ a1 = 1) → Q (.inl (-1)) μ) : qmw (d + 4) 100 [(.inr (.inr (.inl (0)))), (.inl (a1))] μ Q := by
  rw [e100, g100_0, E104, g100_6, qbr2]
  refine ⟨fun q => ⟨by omega, ?_⟩, fun _ => hN (by omega)⟩
  have h7 := qra73 (k := a1) (by omega) (by omega)
  have hx : 0 ≤ a1 ∧ a1 < 2 := by omega
  have h01 : a1 = 0 ∨ a1 = 1 := by omega
  refine h23 (Sh_rf hS) (by omega) (by omega) (fun μ1 h1 => ?_)
  have s2 : Safe (qu (qu μ1 (qra 73 a1) 3 (μ1 58 3)) (qra 73 a1) 4 1) := Safe_u (Safe_u h1.1 (sf_t (Or.inl rfl) (by omega) (h1.1.1 58 3)) (by omega) (by omega) (by omega) (by omega)) (sf_k h7 (by decide) (by decide)) (by omega) (by omega) (by omega) (by omega)
  have e58 : μ1 58 3 = μ 58 3 := h1.2 58 3 (Or.inl ⟨rfl, rfl⟩)
  have e59 : (qu (qu μ1 (qra 73 a1) 3 (μ1 58 3)) (qra 73 a1) 4 1) 58 3 = μ 58 3 := by
    rw [qu_cell (by omega), qu_cell (by omega)]
    exact e58
  have fr : ∀ c i, rk c i → ¬ c = qra 73 a1 → (qu (qu μ1 (qra 73 a1) 3 (μ1 58 3)) (qra 73 a1) 4 1) c i = μ c i := fun c i q1 q2 => by
    rw [qu_cell q2, qu_cell q2]
    exact h1.2 c i q1
  have f := imf (c := qra 73 a1) (by omega)
  rw [g100_24]
  simp only [f, qif_r]
  refine ⟨hx, by decide, ?_⟩
  rw [e59]
  exact hQ _ h01 s2 fr (by rw [qu_ne (by omega), qu_same]; exact e58) (by rw [qu_same])
/-- back: today is the image's day -/
theorem h101 {d : Nat} {Q : qV → qM → Prop} {μ : qM} {a1 : Int} (hS : Safe μ) (hQ : ∀ μ', (a1 = 0 ∨ a1 = 1) → ¬ μ (qra 73 a1) 4 = 0 → Safe μ' → (∀ c i, rk c i → ¬ c = 58 → μ' c i = μ c i) → μ' 58 3 = μ (qra 73 a1) 3 → Q (.inl (μ (qra 73 a1) 3)) μ') (hK : (a1 = 0 ∨ a1 = 1) → μ (qra 73 a1) 4 = 0 → Q (.inl (-2)) μ) (hN : ¬ (a1 = 0 ∨ a1 = 1) → Q (.inl (-1)) μ) : qmw (d + 4) 101 [(.inr (.inr (.inl (0)))), (.inl (a1))] μ Q := by
  rw [e101, g101_0, E104, g101_6, qbr2]
  refine ⟨fun q => ⟨by omega, ?_⟩, fun _ => hN (by omega)⟩
  have h7 := qra73 (k := a1) (by omega) (by omega)
  have hx : 0 ≤ a1 ∧ a1 < 2 := by omega
  have h01 : a1 = 0 ∨ a1 = 1 := by omega
  have h8 : qra 73 a1 = 58 ∨ qra 73 a1 = 140 ∨ qra 73 a1 = 155 := by omega
  have hr : rk (qra 73 a1) 3 := Or.inr (Or.inl ⟨h7, Or.inl rfl⟩)
  have ne : ¬ qra 73 a1 = 58 := by omega
  have f := imf (c := qra 73 a1) (by omega)
  simp only [f, qif_r]
  refine ⟨fun hk => ⟨hx, h23 (Sh_rf hS) (Or.inl rfl) h8 (fun μ1 h1 => ?_)⟩, fun hk => hK h01 hk⟩
  clear f
  have e1 : μ1 (qra 73 a1) 3 = μ (qra 73 a1) 3 := h1.2 _ _ hr
  rw [g101_39, qu_same, e1]
  exact hQ _ h01 hk (Safe_u h1.1 (sf_t h8 (Or.inl rfl) (by rw [← e1]; exact h1.1.1 _ 3)) (by omega) (by omega) (by omega) (by omega)) (fun c i q1 q2 => by rw [qu_cell q2]; exact h1.2 c i q1) (by rw [qu_same])
