theorem E74 {d : Nat} {Q : qV → qM → Prop} {μ : qM} {a0 a1 : Int} : qmw (d + 1) 74 [(.inl (a0)), (.inl (a1))] μ Q = Q (.inl (qmax 0 (q32 (a1 - q32 (20 * q32 (a0 - 1)))))) μ := by
  rw [e74, g74_0]
/-- the least that the last of k may have -/
theorem qlow {k s : Int} (h1 : 1 ≤ k) (h2 : k ≤ 10) (h3 : 0 ≤ s) (h4 : s ≤ 20 * k) : 0 ≤ qmax 0 (q32 (s - q32 (20 * q32 (k - 1)))) ∧ qmax 0 (q32 (s - q32 (20 * q32 (k - 1)))) ≤ 20 ∧ qmax 0 (q32 (s - q32 (20 * q32 (k - 1)))) ≤ s ∧ s - qmax 0 (q32 (s - q32 (20 * q32 (k - 1)))) ≤ 20 * (k - 1) := by
  rw [q32_id (z := k - 1) (by omega) (by omega), q32_id (z := 20 * (k - 1)) (by omega) (by omega), q32_id (by omega) (by omega)]
  unfold qmax
  split <;> omega
theorem qmin20 (s : Int) : qmin 20 s ≤ 20 ∧ qmin 20 s ≤ s ∧ (qmin 20 s = 20 ∨ qmin 20 s = s) := by
  unfold qmin
  split <;> omega
theorem s72 {μ0 : qM} {d : Nat} {Q : qV → qM → Prop} {μ : qM} {k : Int} (h : Sv μ0 μ) (h1 : 1 ≤ k) (h2 : k ≤ 10) (hQ : ∀ μ', Sv μ0 μ' → μ' 16 5 = μ 16 5 → μ' 16 6 = μ 16 6 → Q (.inl 0) μ') : qmw (d + 2) 72 [(.inr (.inr (.inl (16)))), (.inl (k))] μ Q := by
  have hr := qra42 (k := k) (by omega) (by omega)
  have hr1 := qra42 (k := k - 1) (by omega) (by omega)
  rw [e72, g72_0]
  refine qup (20 * k + 1) (P := fun s => ∀ (o3 o5 o6 : Option qV) (ν : qM), Sv μ0 ν → ν 16 5 = μ 16 5 → ν 16 6 = μ 16 6 → 0 ≤ s → qW (d + 1) 72 Q 2 [some (.inr (.inr (.inl (16)))), some (.inl (k)), some (.inl (s)), o3, none, o5, o6] [] ν) (fun s ih hB o3 o5 o6 ν hm hd hw h0 => ?_) 0 (by omega) _ _ _ _ h rfl rfl (by omega)
  rw [g72_2, q32_id (z := 20 * k) (by omega) (by omega)]
  refine ⟨fun _ => hQ _ hm hd hw, fun h3 => ?_⟩
  have hlow := qlow h1 h2 h0 h3
  have hmin := qmin20 s
  rw [E74, g72_25]
  generalize qmax 0 (q32 (s - q32 (20 * q32 (k - 1)))) = lo at hlow ⊢
  generalize qmin 20 s = top at hmin ⊢
  have key : ∀ p, p ≤ 21 → ∀ (w : Int), lo ≤ p → qW (d + 1) 72 Q 27 [some (.inr (.inr (.inl (16)))), some (.inl (k)), some (.inl (s)), some (.inr (.inl (w))), none, some (.inl (top)), some (.inl (p))] [] ν := by
    refine qup 21 (fun p ih2 hB2 w h5 => ?_)
    rw [g72_27]
    refine ⟨fun _ => ?_, fun h6 => ?_⟩
    · simp only [hr, qif_r]
      refine ⟨by omega, by decide, by omega, ?_⟩
      rw [q32_id (z := s + 1) (by omega) (by omega)]
      refine ih _ (by omega) (by omega) _ _ _ _ ?_ ?_ ?_ (by omega)
      · refine Sv_u ?_ (by omega) (by omega) (by intros; omega) (by intros; omega) (by intros; omega)
        exact hm
      · rw [qu_cell (by omega)]
        exact hd
      · rw [qu_cell (by omega)]
        exact hw
    · rw [q32_id (z := k - 1) (by omega) (by omega), q32_id (z := s - p) (by omega) (by omega)]
      simp only [hr1, qif_r]
      refine ⟨by omega, by omega, ?_⟩
      rw [q32_id (z := p + 1) (by omega) (by omega)]
      exact ih2 _ (by omega) (by omega) _ (by omega)
  exact key lo (by omega) 0 (by omega)
theorem s73 {μ0 : qM} {d : Nat} {Q : qV → qM → Prop} {μ : qM} {k : Int} (h : Sv μ0 μ) (h1 : 1 ≤ k) (h2 : k ≤ 10) (hQ : ∀ μ', Sv μ0 μ' → μ' 16 5 = μ 16 5 → μ' 16 6 = μ 16 6 → Q (.inl 0) μ') : qmw (d + 2) 73 [(.inr (.inr (.inl (16)))), (.inl (k))] μ Q := by
  have hr := qra18 (k := k) (by omega) (by omega)
  have hr1 := qra18 (k := k - 1) (by omega) (by omega)
  have ht := qra30 (k := k) (by omega) (by omega)
  have ht1 := qra30 (k := k - 1) (by omega) (by omega)
  rw [e73, g73_0]
  refine qup (20 * k + 1) (P := fun s => ∀ (o3 o4 o5 o6 o7 : Option qV) (ν : qM), Sv μ0 ν → ν 16 5 = μ 16 5 → ν 16 6 = μ 16 6 → 0 ≤ s → qW (d + 1) 73 Q 2 [some (.inr (.inr (.inl (16)))), some (.inl (k)), some (.inl (s)), o3, o4, o5, o6, o7] [] ν) (fun s ih hB o3 o4 o5 o6 o7 ν hm hd hw h0 => ?_) 0 (by omega) _ _ _ _ _ _ h rfl rfl (by omega)
  rw [g73_2, q32_id (z := 20 * k) (by omega) (by omega)]
  refine ⟨fun _ => hQ _ hm hd hw, fun h3 => ?_⟩
  have hlow := qlow h1 h2 h0 h3
  have hmin := qmin20 s
  rw [E74, g73_22]
  generalize qmax 0 (q32 (s - q32 (20 * q32 (k - 1)))) = lo at hlow ⊢
  generalize qmin 20 s = top at hmin ⊢
  have key : ∀ p, p ≤ 21 → ∀ (x y : Int), lo ≤ p → qW (d + 1) 73 Q 76 [some (.inr (.inr (.inl (16)))), some (.inl (k)), some (.inl (s)), some (.inl (top)), some (.inl (lo)), some (.inl (x)), some (.inl (y)), some (.inl (p))] [] ν := by
    refine qup 21 (fun p ih2 hB2 x y h5 => ?_)
    rw [g73_76]
    refine ⟨fun _ => ?_, fun h6 => ?_⟩
    · simp only [hr, ht, qif_r]
      refine ⟨by omega, by omega, by omega, by omega, ?_⟩
      rw [q32_id (z := s + 1) (by omega) (by omega)]
      refine ih _ (by omega) (by omega) _ _ _ _ _ _ ?_ ?_ ?_ (by omega)
      · refine Sv_u ?_ (by omega) (by omega) (by intros; omega) (by intros; omega) (by intros; omega)
        refine Sv_u ?_ (by omega) (by omega) (by intros; omega) (by intros; omega) (by intros; omega)
        exact hm
      · rw [qu_cell (by omega), qu_cell (by omega)]
        exact hd
      · rw [qu_cell (by omega), qu_cell (by omega)]
        exact hw
    · rw [q32_id (z := k - 1) (by omega) (by omega), q32_id (z := s - p) (by omega) (by omega)]
      simp only [hr1, ht1, qif_r]
      refine ⟨by omega, by omega, by omega, by omega, by omega, by omega, ?_⟩
      rw [q32_id (z := p + 1) (by omega) (by omega)]
      exact ih2 _ (by omega) (by omega) _ _ (by omega)
  rw [q32_id (z := k - 1) (by omega) (by omega), q32_id (z := s - lo) (by omega) (by omega)]
  simp only [hr1, ht1, qif_r]
  refine ⟨by omega, by omega, by omega, by omega, by omega, by omega, ?_⟩
  rw [q32_id (z := lo + 1) (by omega) (by omega)]
  exact key _ (by omega) _ _ (by omega)
theorem s66 {μ0 : qM} {d : Nat} {Q : qV → qM → Prop} {μ : qM} {a1 : Int} (h : Sv μ0 μ) (hQ : ∀ μ', Sv μ0 μ' → Q (.inl 0) μ') : qmw (d + 3) 66 [(.inr (.inr (.inl (16)))), (.inl (a1))] μ Q := by
  rw [e66]
  have key : ∀ r, r ≤ 11 → ∀ μ, Sv μ0 μ → μ 16 5 = r → qW (d + 2) 66 Q 0 [some (.inr (.inr (.inl (16)))), some (.inl (a1))] [] μ := by
    refine qup 11 (fun r ih hB μ hm hr => ?_)
    have hd := sa_dr hm.1
    rw [g66_0]
    refine ⟨fun _ => hQ _ hm, fun _ => ⟨fun _ => hQ _ hm, fun _ => s73 hm (by omega) (by omega) (fun μ' hm' e1 e2 => ?_)⟩⟩
    rw [g66_25]
    have e3 : q32 (μ' 16 5 + 1) = r + 1 := by rw [e1, hr]; exact q32_id (by omega) (by omega)
    rw [e3]
    refine ih (r + 1) (by omega) (by omega) _ ?_ (qu_same _ _ _ _)
    refine Sv_u ?_ (by omega) (by omega) (by intros; omega) (by intros; omega) (by intros; omega)
    exact hm'
  exact key _ (sa_dr h.1).2 _ h rfl
theorem s67 {μ0 : qM} {d : Nat} {Q : qV → qM → Prop} {μ : qM} {a1 : Int} (h : Sv μ0 μ) (hQ : ∀ μ', Sv μ0 μ' → Q (.inl 0) μ') : qmw (d + 3) 67 [(.inr (.inr (.inl (16)))), (.inl (a1))] μ Q := by
  rw [e67]
  have key : ∀ r, r ≤ 11 → ∀ μ, Sv μ0 μ → μ 16 6 = r → qW (d + 2) 67 Q 0 [some (.inr (.inr (.inl (16)))), some (.inl (a1))] [] μ := by
    refine qup 11 (fun r ih hB μ hm hr => ?_)
    have hd := sa_wr hm.1
    rw [g67_0]
    refine ⟨fun _ => hQ _ hm, fun _ => ⟨fun _ => hQ _ hm, fun _ => s72 hm (by omega) (by omega) (fun μ' hm' e1 e2 => ?_)⟩⟩
    rw [g67_25]
    have e3 : q32 (μ' 16 6 + 1) = r + 1 := by rw [e2, hr]; exact q32_id (by omega) (by omega)
    rw [e3]
    refine ih (r + 1) (by omega) (by omega) _ ?_ (qu_same _ _ _ _)
    refine Sv_u ?_ (by omega) (by omega) (by intros; omega) (by intros; omega) (by intros; omega)
    exact hm'
  exact key _ (sa_wr h.1).2 _ h rfl
theorem s9 {μ0 : qM} {d : Nat} {Q : qV → qM → Prop} {μ : qM} (h : Sv μ0 μ) (hQ : ∀ a μ', Sv μ0 μ' → Q (.inl a) μ') : qmw (d + 4) 9 [(.inr (.inr (.inl (15))))] μ Q := by
  rw [e9, g9_0]
  refine s8 (fun a => ?_)
  rw [g9_8]
  refine s67 h (fun μ' hm => ?_)
  rw [g9_11]
  refine qup 3 (P := fun i => ∀ (w : Int), 0 ≤ i → qW (d + 3) 9 Q 15 [some (.inr (.inr (.inl (15)))), some (.inr (.inl (w))), none, some (.inl (i))] [] μ') (fun i ih hB w h0 => ?_) 0 (by omega) _ (by omega)
  rw [g9_15]
  refine ⟨fun _ => hQ _ _ hm, fun _ => ⟨by omega, by omega, s70 hm.1 (fun b => ?_)⟩⟩
  rw [g9_40]
  refine ⟨by decide, ?_⟩
  rw [q32_id (z := i + 1) (by omega) (by omega)]
  exact ih _ (by omega) (by omega) _ (by omega)
theorem s17 {μ0 : qM} {d : Nat} {Q : qV → qM → Prop} {μ : qM} {a1 c2 : Int} (h : Sv μ0 μ) (ht : qty c2 = 100) (hl : 10 ≤ qal c2) (hQ : ∀ a μ', Sv μ0 μ' → Q (.inl a) μ') : qmw (d + 5) 17 [(.inr (.inr (.inl (15)))), (.inl (a1)), (.inr (.inr (.inl (c2))))] μ Q := by
  rw [e17, g17_0]
  have l2 : ∀ i, i ≤ 10 → ∀ (a3 : Int) (μ : qM), Sv μ0 μ → 0 ≤ a3 → a3 ≤ 1 → 0 ≤ i → qW (d + 4) 17 Q 47 [some (.inr (.inr (.inl (15)))), some (.inl (a1)), some (.inr (.inr (.inl (c2)))), some (.inl (a3)), some (.inl (i))] [] μ := by
    refine qup 10 (fun i ih hB a3 μ hm h1 h2 h0 => ?_)
    rw [g17_47]
    simp only [ht, qif_r]
    refine ⟨fun _ => ⟨⟨h1, h2⟩, hQ _ _ hm⟩, fun _ => ⟨fun _ => ?_, fun _ => ⟨by omega, s5 hm (by omega) (by omega) (fun μ' hm' => ?_)⟩⟩⟩
    · rw [g17_74, q32_id (by omega) (by omega)]
      exact ih _ (by omega) (by omega) _ _ hm h1 h2 (by omega)
    · rw [g17_74, q32_id (by omega) (by omega)]
      exact ih _ (by omega) (by omega) _ _ hm' h1 h2 (by omega)
  refine qup 10 (P := fun i => ∀ (μ : qM), Sv μ0 μ → 0 ≤ i → qW (d + 4) 17 Q 2 [some (.inr (.inr (.inl (15)))), some (.inl (a1)), some (.inr (.inr (.inl (c2)))), some (.inl (i)), none] [] μ) (fun i ih hB μ hm h0 => ?_) 0 (by omega) _ h (by omega)
  rw [g17_2]
  simp only [ht, qif_r]
  refine ⟨fun _ => s12 hm.1 (fun a => ?_), fun _ => ⟨fun _ => ?_, fun _ => ⟨by omega, s4 hm (by omega) (by omega) (fun μ' hm' => ?_)⟩⟩⟩
  · rw [g17_35]
    exact ⟨fun _ => l2 _ (by omega) _ _ hm (by omega) (by omega) (by omega), fun _ => l2 _ (by omega) _ _ hm (by omega) (by omega) (by omega)⟩
  · rw [g17_25, q32_id (by omega) (by omega)]
    exact ih _ (by omega) (by omega) _ hm (by omega)
  · rw [g17_25, q32_id (by omega) (by omega)]
    exact ih _ (by omega) (by omega) _ hm' (by omega)
theorem s182 {d : Nat} {Q : qV → qM → Prop} {μ : qM} {a0 : Int} (hQ : ∀ a, Q (.inl a) μ) : qmw (d + 1) 182 [(.inl (a0))] μ Q := by
  rw [e182, g182_0]
  exact hQ _
theorem s16 {μ0 : qM} {d : Nat} {Q : qV → qM → Prop} {μ : qM} {c1 : Int} (h : Sv μ0 μ) (ht : qty c1 = 100) (hl : 10 ≤ qal c1) (hQ : ∀ a μ', Sv μ0 μ' → Q (.inl a) μ') : qmw (d + 6) 16 [(.inr (.inr (.inl (15)))), (.inr (.inr (.inl (c1))))] μ Q := by
  have hls := sa_ls h.1
  rw [e16, g16_0]
  generalize μ 15 4 = free at hls ⊢
  refine qup 10 (P := fun i => ∀ (o4 : Option qV) (μ : qM), Sv μ0 μ → 0 ≤ i → qW (d + 5) 16 Q 7 [some (.inr (.inr (.inl (15)))), some (.inr (.inr (.inl (c1)))), some (.inl (free)), some (.inl (i)), o4] [] μ) (fun i ih hB o4 μ hm h0 => ?_) 0 (by omega) _ _ h (by omega)
  rw [g16_7]
  refine ⟨fun _ => hQ _ _ hm, fun h3 => ?_⟩
  refine qup (free + 1) (P := fun b => ∀ (μ : qM), Sv μ0 μ → 0 ≤ b → qW (d + 5) 16 Q 16 [some (.inr (.inr (.inl (15)))), some (.inr (.inr (.inl (c1)))), some (.inl (free)), some (.inl (i)), some (.inl (b))] [] μ) (fun b ih2 hB2 μ hm h4 => ?_) 0 (by omega) _ hm (by omega)
  rw [g16_16]
  refine ⟨fun _ => ?_, fun h5 => ⟨fun _ => ?_, fun _ => s182 (fun a => ?_)⟩⟩
  · rw [q32_id (z := i + 1) (by omega) (by omega)]
    exact ih _ (by omega) (by omega) _ _ hm (by omega)
  · rw [q32_id (z := b + 1) (by omega) (by omega)]
    exact ih2 _ (by omega) (by omega) _ hm (by omega)
  · rw [g16_36]
    refine ⟨fun _ => ?_, fun _ => s17 hm ht hl (fun v μ' hm' => ?_)⟩
    · rw [q32_id (z := b + 1) (by omega) (by omega)]
      exact ih2 _ (by omega) (by omega) _ hm (by omega)
    · rw [g16_47]
      refine ⟨fun _ => ?_, fun _ => hQ _ _ hm'⟩
      rw [q32_id (z := b + 1) (by omega) (by omega)]
      exact ih2 _ (by omega) (by omega) _ hm' (by omega)
theorem s19 {μ0 : qM} {d : Nat} {Q : qV → qM → Prop} {μ : qM} {c1 a2 : Int} (h : Sv μ0 μ) (hc : isP c1) (h0 : 0 ≤ a2) (h1 : a2 < 10) (hQ : ∀ a μ', Sv μ0 μ' → Q (.inl a) μ') : qmw (d + 5) 19 [(.inr (.inr (.inl (15)))), (.inr (.inr (.inl (c1)))), (.inl (a2))] μ Q := by
  rw [e19, g19_0]
  refine s7 h.1 hc h0 h1 (fun top htop => ?_)
  rw [g19_8]
  refine s6 h.1 hc h0 h1 (fun lo hlo1 => ?_)
  rw [g19_16]
  by_cases hlo : lo ≤ 21
  · refine qup 21 (P := fun p => ∀ (a3 : Int) (μ : qM), Sv μ0 μ → -1 ≤ p → qW (d + 4) 19 Q 18 [some (.inr (.inr (.inl (15)))), some (.inr (.inr (.inl (c1)))), some (.inl (a2)), some (.inl (a3)), some (.inl (top)), some (.inl (p))] [] μ) (fun p ih hB a3 μ hm hp => ?_) lo hlo _ _ h hlo1
    rw [g19_18]
    refine ⟨fun _ => hQ _ _ hm, fun h3 => s4 hm h0 h1 (fun μ1 hm1 => ?_)⟩
    rw [g19_32]
    refine s12 hm1.1 (fun b => ?_)
    rw [g19_37]
    refine s5 hm1 h0 h1 (fun μ2 hm2 => ?_)
    rw [g19_48, q32_id (by omega) (by omega)]
    exact ih _ (by omega) (by omega) _ _ hm2 (by omega)
  · rw [g19_18]
    exact ⟨fun _ => hQ _ _ h, fun h3 => by omega⟩
theorem s18 {μ0 : qM} {d : Nat} {Q : qV → qM → Prop} {μ : qM} {c1 : Int} (h : Sv μ0 μ) (hc : isP c1) (hQ : ∀ a μ', Sv μ0 μ' → Q (.inl a) μ') : qmw (d + 6) 18 [(.inr (.inr (.inl (15)))), (.inr (.inr (.inl (c1))))] μ Q := by
  rw [e18, g18_0]
  refine qup 10 (P := fun i => ∀ (a2 a3 : Int) (o5 : Option qV) (μ : qM), Sv μ0 μ → 0 ≤ i → qW (d + 5) 18 Q 8 [some (.inr (.inr (.inl (15)))), some (.inr (.inr (.inl (c1)))), some (.inl (a2)), some (.inl (a3)), some (.inl (i)), o5] [] μ) (fun i ih hB a2 a3 o5 μ hm h0 => ?_) 0 (by omega) _ _ _ _ h (by omega)
  rw [g18_8]
  refine ⟨fun _ => hQ _ _ hm, fun h3 => ?_⟩
  rw [E3, g18_21]
  refine ⟨fun _ => ?_, fun _ => s19 hm hc h0 (by omega) (fun v μ' hm' => ?_)⟩
  · rw [q32_id (by omega) (by omega)]
    exact ih _ (by omega) (by omega) _ _ _ _ hm (by omega)
  · rw [g18_31, q32_id (by omega) (by omega)]
    exact ⟨fun _ => ih _ (by omega) (by omega) _ _ _ _ hm' (by omega), fun _ => ⟨fun _ => ih _ (by omega) (by omega) _ _ _ _ hm' (by omega), fun _ => ih _ (by omega) (by omega) _ _ _ _ hm' (by omega)⟩⟩
theorem s108 {μ0 : qM} {d : Nat} {Q : qV → qM → Prop} {μ : qM} {a1 a2 : Int} (h : Sv μ0 μ) (h0 : 0 ≤ a1) (h1 : a1 < 6) (hQ : ∀ μ', Sv μ0 μ' → Q (.inl 0) μ') : qmw (d + 5) 108 [(.inr (.inr (.inl (0)))), (.inl (a1)), (.inl (a2))] μ Q := by
  rw [e108, g108_0]
  refine s48 h.1 (fun a _ _ => ?_)
  rw [g108_19]
  refine s64 h (fun μ1 hm1 => ?_)
  rw [g108_22]
  refine ⟨by omega, s1 hm1 (isP57 h0 h1) (fun μ2 hm2 => ?_)⟩
  rw [g108_36]
  exact hQ _ hm2
theorem s109 {μ0 : qM} {d : Nat} {Q : qV → qM → Prop} {μ : qM} {a1 a2 : Int} (h : Sv μ0 μ) (h0 : 0 ≤ a1) (h1 : a1 < 6) (hQ : ∀ μ', Sv μ0 μ' → Q (.inl 0) μ') : qmw (d + 6) 109 [(.inr (.inr (.inl (0)))), (.inl (a1)), (.inl (a2))] μ Q := by
  rw [e109, g109_0]
  refine s108 h h0 h1 (fun μ1 hm1 => ?_)
  rw [g109_6]
  refine s8 (fun a => ?_)
  rw [g109_20]
  refine s66 hm1 (fun μ2 hm2 => ?_)
  rw [g109_23]
  exact hQ _ hm2
