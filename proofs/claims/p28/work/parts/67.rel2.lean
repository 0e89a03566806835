theorem h175 {μ0 : qM} {d : Nat} {Q : qV → qM → Prop} {μ : qM} {c n a b : Int} (h : Sh μ0 μ) (hc : 191 ≤ c) (hc2 : c ≤ 207) (hc3 : ¬ c = 195) (e1 : qty c = 100) (e2 : qal c = 3 * n) (h1 : 1 ≤ n) (h2 : n ≤ 40) (ha : 0 ≤ a) (ha2 : a ≤ 2) (hb : 0 ≤ b) (hb2 : b ≤ 2) (hQ : ∀ μ', Sh μ0 μ' → Q (.inl 0) μ') : qmw (d + 1) 175 [(.inr (.inr (.inl (c)))), (.inl (n)), (.inl (a)), (.inl (b))] μ Q := by
  have na : 0 ≤ n * a ∧ n * a ≤ 2 * n := by
    rcases (show a = 0 ∨ a = 1 ∨ a = 2 by omega) with rfl | rfl | rfl <;> omega
  have nb : 0 ≤ n * b ∧ n * b ≤ 2 * n := by
    rcases (show b = 0 ∨ b = 1 ∨ b = 2 by omega) with rfl | rfl | rfl <;> omega
  rw [e175, g175_0]
  refine qup n (P := fun i => ∀ ν, 0 ≤ i → Sh μ0 ν → qW d 175 Q 3 [some (.inr (.inr (.inl (c)))), some (.inl (n)), some (.inl (a)), some (.inl (b)), some (.inl (i))] [] ν) (fun i ih hB ν hi hm => ?_) 0 (by omega) _ (by omega) h
  generalize hA : n * a = A at na
  generalize hB2 : n * b = B at nb
  rw [g175_3, e1, e2, qif_r, qif_r, hA, hB2, q32_id (z := A) (by omega) (by omega), q32_id (z := B) (by omega) (by omega), q32_id (z := A + i) (by omega) (by omega), q32_id (z := B + i) (by omega) (by omega), q32_id (z := i + 1) (by omega) (by omega)]
  exact ⟨fun _ => hQ _ hm, fun _ => ⟨by omega, by omega, ih _ (by omega) (by omega) _ (by omega) (Sh_u hm (sf_ix (by omega) (hm.1.1 c (A + i))) (by unfold rk; omega) (by omega) (by omega) (by omega) (by omega))⟩⟩
theorem h176 {μ0 : qM} {d : Nat} {Q : qV → qM → Prop} {μ : qM} {a b : Int} (h : Sh μ0 μ) (ha : 0 ≤ a) (ha2 : a ≤ 2) (hb : 0 ≤ b) (hb2 : b ≤ 2) (hQ : ∀ μ', Sh μ0 μ' → Q (.inl 0) μ') : qmw (d + 2) 176 [(.inr (.inr (.inl (170)))), (.inl (a)), (.inl (b))] μ Q := by
  rw [e176, g176_0]
  refine h175 h (by decide) (by decide) (by decide) (by decide +kernel) (by decide +kernel) (by decide) (by decide) ha ha2 hb hb2 (fun μ1 h1 => ?_)
  rw [g176_10]
  refine h175 h1 (by decide) (by decide) (by decide) (by decide +kernel) (by decide +kernel) (by decide) (by decide) ha ha2 hb hb2 (fun μ2 h2 => ?_)
  rw [g176_20]
  refine h175 h2 (by decide) (by decide) (by decide) (by decide +kernel) (by decide +kernel) (by decide) (by decide) ha ha2 hb hb2 (fun μ3 h3 => ?_)
  rw [g176_30]
  refine h175 h3 (by decide) (by decide) (by decide) (by decide +kernel) (by decide +kernel) (by decide) (by decide) ha ha2 hb hb2 (fun μ4 h4 => ?_)
  rw [g176_40]
  refine h175 h4 (by decide) (by decide) (by decide) (by decide +kernel) (by decide +kernel) (by decide) (by decide) ha ha2 hb hb2 (fun μ5 h5 => ?_)
  rw [g176_51]
  refine h175 h5 (by decide) (by decide) (by decide) (by decide +kernel) (by decide +kernel) (by decide) (by decide) ha ha2 hb hb2 (fun μ6 h6 => ?_)
  rw [g176_62]
  refine h175 h6 (by decide) (by decide) (by decide) (by decide +kernel) (by decide +kernel) (by decide) (by decide) ha ha2 hb hb2 (fun μ7 h7 => ?_)
  rw [g176_73]
  refine h175 h7 (by decide) (by decide) (by decide) (by decide +kernel) (by decide +kernel) (by decide) (by decide) ha ha2 hb hb2 (fun μ8 h8 => ?_)
  rw [g176_84]
  refine h175 h8 (by decide) (by decide) (by decide) (by decide +kernel) (by decide +kernel) (by decide) (by decide) ha ha2 hb hb2 (fun μ9 h9 => ?_)
  rw [g176_95]
  refine h175 h9 (by decide) (by decide) (by decide) (by decide +kernel) (by decide +kernel) (by decide) (by decide) ha ha2 hb hb2 (fun μ10 h10 => ?_)
  rw [g176_106]
  refine h175 h10 (by decide) (by decide) (by decide) (by decide +kernel) (by decide +kernel) (by decide) (by decide) ha ha2 hb hb2 (fun μ11 h11 => ?_)
  rw [g176_117]
  refine h175 h11 (by decide) (by decide) (by decide) (by decide +kernel) (by decide +kernel) (by decide) (by decide) ha ha2 hb hb2 (fun μ12 h12 => ?_)
  rw [g176_128]
  refine h175 h12 (by decide) (by decide) (by decide) (by decide +kernel) (by decide +kernel) (by decide) (by decide) ha ha2 hb hb2 (fun μ13 h13 => ?_)
  rw [g176_139]
  refine h175 h13 (by decide) (by decide) (by decide) (by decide +kernel) (by decide +kernel) (by decide) (by decide) ha ha2 hb hb2 (fun μ14 h14 => ?_)
  rw [g176_150]
  refine h175 h14 (by decide) (by decide) (by decide) (by decide +kernel) (by decide +kernel) (by decide) (by decide) ha ha2 hb hb2 (fun μ15 h15 => ?_)
  rw [g176_161]
  refine h175 h15 (by decide) (by decide) (by decide) (by decide +kernel) (by decide +kernel) (by decide) (by decide) ha ha2 hb hb2 (fun μ16 h16 => ?_)
  rw [g176_172]
  exact hQ _ h16
theorem sf_170 {v : Int} (h0 : 0 ≤ v) (h1 : v ≤ 200) : sf 170 1 v ∧ (∀ i, sf 195 i v) ∧ ∀ i w, sf 209 i w := by
  refine ⟨?_, fun i => ?_, fun i w => ?_⟩
  all_goals
    unfold sf
    refine ⟨?_, ?_, ?_, ?_, ?_, ?_, ?_, ?_, ?_, ?_, ?_, ?_, ?_, ?_, ?_, ?_, ?_, ?_, ?_, ?_, ?_, ?_, ?_, ?_, ?_, ?_, ?_, ?_, ?_, ?_, ?_⟩ <;> intros <;> omega
theorem h177 {d : Nat} {Q : qV → qM → Prop} {μ : qM} {a1 : Int} (hS : Safe μ) (hQ : ∀ μ', (a1 = 0 ∨ a1 = 1) → Safe μ' → (∀ c i, rk c i → ¬ (c = 195 ∧ i = 1 + a1) → ¬ (c = 209 ∧ i = a1) → μ' c i = μ c i) → μ' 195 (1 + a1) = μ 170 1 → μ' 209 a1 = 1 → Q (.inl (μ 170 1)) μ') (hN : ¬ (a1 = 0 ∨ a1 = 1) → Q (.inl (-1)) μ) : qmw (d + 3) 177 [(.inr (.inr (.inl (170)))), (.inl (a1))] μ Q := by
  rw [e177, g177_0, E117, g177_6, qbr]
  refine ⟨fun q => ?_, fun _ => hN (by omega)⟩
  rw [q32_id (z := 1 + a1) (by omega) (by omega)]
  refine h176 (Sh_rf hS) (by omega) (by omega) (by omega) (by omega) (fun μ1 h1 => ?_)
  have ht := sa_mtoday h1.1
  have e1 : μ1 170 1 = μ 170 1 := h1.2 170 1 (by unfold rk; omega)
  have hs := sf_170 ht.1 ht.2
  rw [g177_19, q32_id (z := 1 + a1) (by omega) (by omega), e1]
  rw [e1] at hs
  exact ⟨by omega, by omega, by omega, hQ _ (by omega) (Safe_u (Safe_u h1.1 (hs.2.1 _) (by omega) (by omega) (by omega) (by omega)) (hs.2.2 _ _) (by omega) (by omega) (by omega) (by omega)) (fun c i q1 q2 q3 => by rw [qu_ne q3, qu_ne q2]; exact h1.2 c i q1) (by rw [qu_cell (by omega), qu_same]) (by rw [qu_same])⟩
theorem h178 {d : Nat} {Q : qV → qM → Prop} {μ : qM} {a1 : Int} (hS : Safe μ) (hQ : ∀ μ', (a1 = 0 ∨ a1 = 1) → ¬ μ 209 a1 = 0 → Safe μ' → (∀ c i, rk c i → ¬ c = 170 → μ' c i = μ c i) → μ' 170 1 = μ 195 (1 + a1) → Q (.inl (μ 195 (1 + a1))) μ') (hK : (a1 = 0 ∨ a1 = 1) → μ 209 a1 = 0 → Q (.inl (-2)) μ) (hN : ¬ (a1 = 0 ∨ a1 = 1) → Q (.inl (-1)) μ) : qmw (d + 3) 178 [(.inr (.inr (.inl (170)))), (.inl (a1))] μ Q := by
  rw [e178, g178_0, E117, g178_6, qbr]
  refine ⟨fun q => ⟨by omega, fun hk => ?_, fun hk => hK (by omega) hk⟩, fun _ => hN (by omega)⟩
  rw [q32_id (z := 1 + a1) (by omega) (by omega)]
  refine h176 (Sh_rf hS) (by omega) (by omega) (by omega) (by omega) (fun μ1 h1 => ?_)
  have ht := sa_mdays h1.1 (1 + a1)
  have e1 : μ1 195 (1 + a1) = μ 195 (1 + a1) := h1.2 195 _ (by unfold rk; omega)
  have hs := sf_170 ht.1 ht.2
  rw [g178_31, q32_id (z := 1 + a1) (by omega) (by omega), e1]
  rw [e1] at hs
  exact ⟨by omega, hQ _ (by omega) hk (Safe_u h1.1 hs.1 (by omega) (by omega) (by omega) (by omega)) (fun c i q1 q2 => by rw [qu_cell q2]; exact h1.2 c i q1) (by rw [qu_same])⟩
/-- day: today and no other day -/
theorem h98 {d : Nat} {Q : qV → qM → Prop} {μ : qM} (hS : Safe μ) (hQ : ∀ a μ', μ 58 3 < 200 → Safe μ' → (∀ c i, rk c i → ¬ c = 58 → μ' c i = μ c i) → μ' 58 3 = μ 58 3 + 1 → Q (.inl a) μ') (hN : ¬ μ 58 3 < 200 → Q (.inl (-2)) μ) : qmw (d + 2) 98 [(.inr (.inr (.inl (0))))] μ Q := by
  have ht := sa_today hS
  rw [e98, g98_0, q32_id (z := μ 58 3 + 1) (by omega) (by omega)]
  refine ⟨fun q0 => ?_, fun _ => hN (by omega)⟩
  have m0 : Safe (qu μ 58 3 (μ 58 3 + 1)) := by
    refine (Sg_m (Sg_rf hS) ?_ ?_ ?_ ?_ ?_ ?_ ?_).1 <;> intros <;> omega
  have k9 : ∀ a μ', Sh (qu μ 58 3 (μ 58 3 + 1)) μ' → Q (.inl a) μ' := fun a μ' h => hQ a μ' q0 h.1 (fun c i q1 q2 => by rw [h.2 c i q1, qu_cell q2]) (by rw [h.2 58 3 (Or.inl ⟨rfl, rfl⟩), qu_same])
  have m := Sh_rf m0
  clear hQ hN
  generalize qu μ 58 3 (μ 58 3 + 1) = μ1 at m m0 k9
  have hl := sa_line m.1
  rw [e40, g40_0]
  have key : ∀ (n s : Int), 0 ≤ n → n ≤ μ1 71 1 → qW d 40 (fun v ν => qW (d + 1) 98 Q 39 [some (.inr (.inr (.inl (0))))] (v :: []) ν) 42 [some (.inr (.inr (.inl (71)))), some (.inl (n)), some (.inl (s)), some (.inl (n))] [] μ1 := fun n s hn hn2 => by
    refine qup (μ1 71 1) (P := fun i => ∀ ν, n ≤ i → Sh μ1 ν → ν 71 1 = μ1 71 1 → qW d 40 (fun v ν => qW (d + 1) 98 Q 39 [some (.inr (.inr (.inl (0))))] (v :: []) ν) 42 [some (.inr (.inr (.inl (71)))), some (.inl (n)), some (.inl (s)), some (.inl (i))] [] ν) (fun i ih hB ν hi hm e => ?_) n hn2 _ (by omega) m rfl
    rw [g40_42, g98_39, e, q32_id (z := i - n) (by omega) (by omega), q32_id (z := i + 1) (by omega) (by omega), q32_id (z := μ1 71 1 - n) (by omega) (by omega)]
    refine ⟨fun _ => k9 _ _ ?_, fun _ => ⟨by omega, by omega, ih _ (by omega) (by omega) _ (by omega) ?_ (by rw [qu_cell (by omega)]; exact e)⟩⟩
    · clear ih k9
      refine Sh_m hm ?_ ?_ ?_ ?_ ?_ ?_ ?_ <;> intros <;> omega
    · clear ih k9
      refine Sh_m hm ?_ ?_ ?_ ?_ ?_ ?_ ?_ <;> intros <;> omega
  refine qup (μ1 71 1) (P := fun n => ∀ s, 0 ≤ n → qW d 40 (fun v ν => qW (d + 1) 98 Q 39 [some (.inr (.inr (.inl (0))))] (v :: []) ν) 4 [some (.inr (.inr (.inl (71)))), some (.inl (n)), some (.inl (s)), none] [] μ1) (fun n ih hB s hn => ?_) 0 (by omega) _ (by omega)
  rw [g40_4, q32_id (z := n + 1) (by omega) (by omega)]
  exact ⟨fun _ => key _ _ hn hB, fun _ => ⟨by omega, fun _ => key _ _ hn hB, fun _ => ⟨by omega, ih _ (by omega) (by omega) _ (by omega)⟩⟩⟩
theorem h173 {d : Nat} {Q : qV → qM → Prop} {μ : qM} (hS : Safe μ) (hQ : ∀ a μ', ¬ μ 170 1 = 200 → Safe μ' → (∀ c i, rk c i → ¬ c = 170 → μ' c i = μ c i) → μ' 170 1 = μ 170 1 + 1 → Q (.inl a) μ') (hN : μ 170 1 = 200 → Q (.inl (-2)) μ) : qmw (d + 2) 173 [(.inr (.inr (.inl (170))))] μ Q := by
  have ht := sa_mtoday hS
  have hc := sa_mcalls hS 0
  rw [e173, g173_0]
  refine ⟨fun q0 => s171 hS (by omega) hc.1 (fun n hn hn2 _ => ?_), fun q => hN q⟩
  rw [g173_18]
  have k9 : ∀ ν v, Sh μ ν → 0 ≤ v → v ≤ 40 → Q (.inl n) (qu (qu ν 193 0 v) 170 1 (μ 170 1 + 1)) := fun ν v h hv hv2 => by
    refine hQ _ _ q0 (Sg_m (Sg_m (Sg_rf h.1) ?_ ?_ ?_ ?_ ?_ ?_ ?_) ?_ ?_ ?_ ?_ ?_ ?_ ?_).1 (fun c i q1 q2 => ?_) (by rw [qu_same])
    all_goals first | (rw [qu_cell q2, qu_cell (by unfold rk at q1; omega)]; exact h.2 c i q1) | (clear hQ hN; intros; omega)
  clear hQ hN
  refine qup (μ 193 0) (P := fun i => ∀ ν, n ≤ i → Sh μ ν → ν 193 0 = μ 193 0 → qW (d + 1) 173 Q 21 [some (.inr (.inr (.inl (170)))), some (.inl (n)), some (.inl (i))] [] ν) (fun i ih hB ν hi hm e => ?_) n (by omega) _ (by omega) (Sh_rf hS) rfl
  have hw := sa_mmin hm.1 i
  have e1 : ν 170 1 = μ 170 1 := hm.2 170 1 (by unfold rk; omega)
  rw [g173_21, e, e1, q32_id (z := i - n) (by omega) (by omega), q32_id (z := i + 1) (by omega) (by omega), q32_id (z := μ 193 0 - n) (by omega) (by omega), q32_id (z := μ 170 1 + 1) (by omega) (by omega)]
  refine ⟨by omega, fun _ => ⟨by omega, by omega, k9 _ _ hm (by omega) (by omega)⟩, fun _ => ⟨by omega, by omega, ih _ (by omega) (by omega) _ (by omega) ?_ (by rw [qu_cell (by omega)]; exact e)⟩⟩
  clear ih k9
  refine Sh_m hm ?_ ?_ ?_ ?_ ?_ ?_ ?_ <;> intros <;> omega
theorem h99 {μ0 : qM} {d : Nat} {Q : qV → qM → Prop} {μ : qM} {a1 a2 a3 : Int} (h : Sh μ0 μ) (hQ : ∀ a μ', Sh μ0 μ' → Q (.inl a) μ') : qmw (d + 6) 99 [(.inr (.inr (.inl (0)))), (.inl (a1)), (.inl (a2)), (.inl (a3))] μ Q := by
  rw [e99, g99_0, E104, g99_7, qbr]
  simp only [E105, E106, g99_14, g99_21, qbr2, qbr]
  refine ⟨fun _ => hQ _ _ h, fun _ => ⟨fun _ => hQ _ _ h, fun _ => ⟨fun _ => s108 (Sv_rf h.1) (by omega) (by omega) (fun μ1 hm => ?_), fun _ => hQ _ _ h⟩⟩⟩
  rw [g99_38]
  refine ⟨by omega, s112 (by omega) (by omega) hm.1 (isP57 (by omega) (by omega)) (by omega) (by omega) (fun a μ2 h2 e fr => ?_)⟩
  rw [g99_50]
  refine hQ _ _ ⟨h2, fun c i q => ?_⟩
  rw [fr c i (by unfold rk at q; omega), hm.2 c i (by unfold rk at q; omega)]
  exact h.2 c i q
theorem h174 {μ0 : qM} {d : Nat} {Q : qV → qM → Prop} {μ : qM} {a1 a2 a3 : Int} (h : Sh μ0 μ) (hQ : ∀ a μ', Sh μ0 μ' → Q (.inl a) μ') : qmw (d + 4) 174 [(.inr (.inr (.inl (170)))), (.inl (a1)), (.inl (a2)), (.inl (a3))] μ Q := by
  rw [e174, g174_0, E117, g174_7, qbr2]
  simp only [E133, E134, g174_14, g174_21, qbr2, qbr]
  refine ⟨fun _ => hQ _ _ h, fun _ => ⟨fun _ => hQ _ _ h, fun _ => ⟨fun _ => s136 h.1 (by omega) (by omega) (fun a ha => ?_), fun _ => hQ _ _ h⟩⟩⟩
  have hf := sa_mfirms h.1 a2
  rw [g174_36, q32_id (z := 10 * a2) (by omega) (by omega), q32_id (z := 10 * a2 + a3) (by omega) (by omega)]
  have q : ∀ b, Q (.inl b) (qu μ 170 0 (q64 (μ 170 0 + wT a1))) := fun b => hQ _ _ ⟨Safe_170 h.1, fun c i q => by
    rw [qu_ne (by unfold rk at q; omega)]
    exact h.2 c i q⟩
  clear hQ
  have k1 : ∀ a4 a6 b c, qW (d + 3) 174 Q 111 [some (.inr (.inr (.inl (170)))), some (.inl (a1)), some (.inl (a2)), some (.inl (a3)), some (.inl (a4)), some (.inl (10 * a2 + a3)), some (.inl (a6)), none, none] [(.inl (b)), (.inl (c))] μ := fun a4 a6 b c => k174 (by omega) (by omega) (by omega) (by omega) q
  have k2 : ∀ a6, ¬ a = -9 → qmw (d + 3) 139 [(.inr (.inr (.inl (170)))), (.inl (a2)), (.inl (a3)), (.inl (μ 170 1))] μ (fun v ν => qW (d + 3) 174 Q 92 [some (.inr (.inr (.inl (170)))), some (.inl (a1)), some (.inl (a2)), some (.inl (a3)), some (.inl (a)), some (.inl (10 * a2 + a3)), some (.inl (a6)), none, none] (v :: [(.inl (1))]) ν) := fun a6 h9 => by
    refine s139 h.1 (by omega) (by omega) (by omega) (by omega) (fun b => ?_)
    rw [g174_92]
    refine s146 h.1 (by omega) (by omega) (fun c => ?_)
    rw [g174_100]
    refine s131 h.1 (fun e => ?_)
    rw [g174_107, E142]
    exact k1 _ _ _ _
  exact ⟨fun h9 => ⟨by omega, fun h9 => k2 _ h9, fun _ => k1 _ _ _ _⟩, fun _ => ⟨fun h9 => k2 _ h9, fun _ => k1 _ _ _ _⟩⟩
