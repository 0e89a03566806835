/-! EXACT: images -/
def Cpy (μ : qM) (c0 c1 : Int) (D : Int → Int → Prop) (ν : qM) : Prop := Safe ν ∧ (∀ c i, ¬ (c0 ≤ c ∧ c ≤ c0 + 14) → ν c i = μ c i) ∧ ∀ k i, 0 ≤ k → k ≤ 14 → (D k i → ν (c0 + k) i = μ (c1 + k) i) ∧ (¬ D k i → ν (c0 + k) i = μ (c0 + k) i)
theorem Cpy_0 {μ : qM} {c0 c1 : Int} (h : Safe μ) : Cpy μ c0 c1 (fun _ _ => (0 : Int) = 1) μ := ⟨h, fun _ _ _ => rfl, fun _ _ _ _ => ⟨fun q => absurd (show (0 : Int) = 1 from q) (by decide), fun _ => rfl⟩⟩
theorem Cpy_w {μ ν : qM} {c0 c1 : Int} {D D' : Int → Int → Prop} (h : Cpy μ c0 c1 D ν) (e : ∀ k i, D k i ↔ D' k i) : Cpy μ c0 c1 D' ν := ⟨h.1, h.2.1, fun k i q1 q2 => ⟨fun q => (h.2.2 k i q1 q2).1 ((e k i).mpr q), fun q => (h.2.2 k i q1 q2).2 (fun q3 => q ((e k i).mp q3))⟩⟩
theorem Cpy_cp {μ ν : qM} {c0 c1 : Int} {D : Int → Int → Prop} (k : Int) (h0 : c0 = 58 ∨ c0 = 140 ∨ c0 = 155) (h1 : c1 = 58 ∨ c1 = 140 ∨ c1 = 155) (hd : ¬ c0 = c1) (q1 : 2 ≤ k) (q2 : k ≤ 14) (h : Cpy μ c0 c1 D ν) : Cpy μ c0 c1 (fun k' i' => D k' i' ∨ k' = k) (qcp ν (c1 + k) (c0 + k)) := by
  refine ⟨(Sg_icp (Sg_rf h.1) h0 h1 q1 q2).1, fun c i q => ?_, fun k' i q3 q4 => ⟨fun q => ?_, fun q => ?_⟩⟩
  · rw [qcp_ne (by omega)]
    exact h.2.1 c i q
  · by_cases e : k' = k
    · rw [e, qcp_same]
      exact h.2.1 _ _ (by omega)
    · rw [qcp_ne (by omega)]
      exact (h.2.2 k' i q3 q4).1 (q.resolve_right e)
  · rw [qcp_ne (fun e => q (Or.inr (by omega)))]
    exact (h.2.2 k' i q3 q4).2 (fun q5 => q (Or.inl q5))
theorem Cpy_u {μ ν : qM} {c0 c1 : Int} {D : Int → Int → Prop} (k i : Int) (h0 : c0 = 58 ∨ c0 = 140 ∨ c0 = 155) (h1 : c1 = 58 ∨ c1 = 140 ∨ c1 = 155) (hd : ¬ c0 = c1) (q1 : 0 ≤ k) (q2 : k ≤ 14) (h : Cpy μ c0 c1 D ν) : Cpy μ c0 c1 (fun k' i' => D k' i' ∨ (k' = k ∧ i' = i)) (qu ν (c0 + k) i (ν (c1 + k) i)) := by
  refine ⟨(Sg_iu (Sg_rf h.1) h0 h1 q1 q2).1, fun c i q => ?_, fun k' i' q3 q4 => ⟨fun q => ?_, fun q => ?_⟩⟩
  · rw [qu_cell (by omega)]
    exact h.2.1 c i q
  · by_cases e : k' = k ∧ i' = i
    · rw [e.1, e.2, qu_same]
      exact h.2.1 _ _ (by omega)
    · rw [qu_ne (by omega)]
      exact (h.2.2 k' i' q3 q4).1 (q.resolve_right e)
  · rw [qu_ne (fun e => q (Or.inr ⟨by omega, e.2⟩))]
    exact (h.2.2 k' i' q3 q4).2 (fun q5 => q (Or.inl q5))
/-- what an image takes over -/
def DI (k i : Int) : Prop := (2 ≤ k ∧ k ≤ 8) ∨ (10 ≤ k ∧ k ≤ 12) ∨ k = 14 ∨ (k = 1 ∧ i = 7) ∨ (k = 9 ∧ i = 3) ∨ (k = 13 ∧ i = 1) ∨ (k = 0 ∧ i = 3)
theorem x23 {d : Nat} {Q : qV → qM → Prop} {μ : qM} {c0 c1 : Int} (hS : Safe μ) (h0 : c0 = 58 ∨ c0 = 140 ∨ c0 = 155) (h1 : c1 = 58 ∨ c1 = 140 ∨ c1 = 155) (hd : ¬ c0 = c1) (hQ : ∀ μ', Cpy μ c0 c1 DI μ' → Q (.inl 0) μ') : qmw (d + 3) 23 [(.inr (.inr (.inl (c0)))), (.inr (.inr (.inl (c1))))] μ Q := by
  have f0 := imf h0
  have f1 := imf h1
  have a0 := fun k hk => ima (k := k) h0 hk
  have a1 := fun k hk => ima (k := k) h1 hk
  have b0 := fun k hk => imb (k := k) h0 hk
  have b1 := fun k hk => imb (k := k) h1 hk
  have g0 := imc h0
  have g1 := imc h1
  have ea : ∀ {D : Nat} {R : qV → qM → Prop} {ν : qM} (k : Int), (k = 2 ∨ k = 3 ∨ k = 4 ∨ k = 5 ∨ k = 6 ∨ k = 7 ∨ k = 8) → qmw (D + 1) 115 [(.inr (.inr (.inl (c1 + k)))), (.inr (.inr (.inl (c0 + k))))] ν R = R (.inl 0) (qcp ν (c1 + k) (c0 + k)) := fun k hk => E115 (a1 k hk).1 (a0 k hk).1 (by rw [(a0 k hk).2, (a1 k hk).2])
  have eb : ∀ {D : Nat} {R : qV → qM → Prop} {ν : qM} (k : Int), (k = 10 ∨ k = 11 ∨ k = 12) → qmw (D + 1) 115 [(.inr (.inr (.inl (c1 + k)))), (.inr (.inr (.inl (c0 + k))))] ν R = R (.inl 0) (qcp ν (c1 + k) (c0 + k)) := fun k hk => E115 (b1 k hk).1 (b0 k hk).1 (by rw [(b0 k hk).2, (b1 k hk).2])
  have ec : ∀ {D : Nat} {R : qV → qM → Prop} {ν : qM}, qmw (D + 1) 115 [(.inr (.inr (.inl (c1 + 14)))), (.inr (.inr (.inl (c0 + 14))))] ν R = R (.inl 0) (qcp ν (c1 + 14) (c0 + 14)) := E115 g1.1 g0.1 (by rw [g0.2, g1.2])
  rw [e23 f0.1, g23_0]
  simp only [f0, f1, qif_r]
  rw [e33 f0.2.2.2.2.1.1, g33_0]
  simp only [f0, f1, qif_r]
  rw [ea 2 (by decide), g33_19]
  simp only [f0, f1, qif_r]
  rw [ea 3 (by decide), g33_30]
  simp only [f0, f1, qif_r]
  rw [ea 4 (by decide), g33_41]
  simp only [f0, f1, qif_r]
  rw [ea 5 (by decide), g33_52]
  simp only [f0, f1, qif_r]
  rw [ea 6 (by decide), g33_63]
  simp only [f0, f1, qif_r]
  rw [ea 7 (by decide), g33_74]
  simp only [f0, f1, qif_r]
  rw [ea 8 (by decide), g33_85, g23_11]
  simp only [f0, f1, qif_r]
  have m1 := Cpy_cp 8 h0 h1 hd (by decide) (by decide) (Cpy_cp 7 h0 h1 hd (by decide) (by decide) (Cpy_cp 6 h0 h1 hd (by decide) (by decide) (Cpy_cp 5 h0 h1 hd (by decide) (by decide) (Cpy_cp 4 h0 h1 hd (by decide) (by decide) (Cpy_cp 3 h0 h1 hd (by decide) (by decide) (Cpy_cp 2 h0 h1 hd (by decide) (by decide) (Cpy_u 1 7 h0 h1 hd (by decide) (by decide) (Cpy_0 hS))))))))
  generalize qcp (qcp (qcp (qcp (qcp (qcp (qcp (qu μ (c0 + 1) 7 (μ (c1 + 1) 7)) (c1 + 2) (c0 + 2)) (c1 + 3) (c0 + 3)) (c1 + 4) (c0 + 4)) (c1 + 5) (c0 + 5)) (c1 + 6) (c0 + 6)) (c1 + 7) (c0 + 7)) (c1 + 8) (c0 + 8) = μ1 at m1
  rw [e36 f0.2.2.2.2.2.1.1, g36_0]
  simp only [f0, f1, qif_r]
  rw [eb 10 (by decide), g36_19]
  simp only [f0, f1, qif_r]
  rw [eb 11 (by decide), g36_30]
  simp only [f0, f1, qif_r]
  rw [eb 12 (by decide), g36_41, g23_22]
  simp only [f0, f1, qif_r]
  have m2 := Cpy_cp 12 h0 h1 hd (by decide) (by decide) (Cpy_cp 11 h0 h1 hd (by decide) (by decide) (Cpy_cp 10 h0 h1 hd (by decide) (by decide) (Cpy_u 9 3 h0 h1 hd (by decide) (by decide) m1)))
  generalize qcp (qcp (qcp (qu μ1 (c0 + 9) 3 (μ1 (c1 + 9) 3)) (c1 + 10) (c0 + 10)) (c1 + 11) (c0 + 11)) (c1 + 12) (c0 + 12) = μ2 at m2
  rw [e41 f0.2.2.2.2.2.2.1, g41_0]
  simp only [f0, f1, qif_r]
  rw [ec, g41_19, g23_33]
  simp only [f0, f1, qif_r]
  have m3 := Cpy_u 0 3 h0 h1 hd (by decide) (by decide) (Cpy_cp 14 h0 h1 hd (by decide) (by decide) (Cpy_u 13 1 h0 h1 hd (by decide) (by decide) m2))
  rw [Int.add_zero, Int.add_zero] at m3
  refine hQ _ (Cpy_w m3 (fun k i => ?_))
  clear m3 m2 m1 f0 f1 g0 g1 ea eb ec
  dsimp only [DI]
  omega
theorem x100 {d : Nat} {Q : qV → qM → Prop} {μ : qM} {a1 : Int} (hS : Safe μ) (hQ : ∀ a μ', (((a1 = 0 ∨ a1 = 1) ∧ a = μ 58 3 ∧ ∃ ν, Cpy μ (qra 73 a1) 58 DI ν ∧ Safe μ' ∧ μ' = qu ν (qra 73 a1) 4 1) ∨ (¬ (a1 = 0 ∨ a1 = 1) ∧ a = -1 ∧ μ' = μ)) → Q (.inl a) μ') : qmw (d + 4) 100 [(.inr (.inr (.inl (0)))), (.inl (a1))] μ Q := by
  rw [e100, g100_0, E104, g100_6, qbr2]
  refine ⟨fun q => ⟨by omega, ?_⟩, fun q => hQ _ _ (Or.inr ⟨by omega, rfl, rfl⟩)⟩
  have h7 := qra73 (k := a1) (by omega) (by omega)
  have hx : 0 ≤ a1 ∧ a1 < 2 := by omega
  have h01 : a1 = 0 ∨ a1 = 1 := by omega
  refine x23 hS (by omega) (by omega) (by omega) (fun μ1 h1 => ?_)
  have e58 : (qu μ1 (qra 73 a1) 4 1) 58 3 = μ 58 3 := by
    rw [qu_cell (by omega)]
    exact h1.2.1 58 3 (by omega)
  have s2 : Safe (qu μ1 (qra 73 a1) 4 1) := Safe_u h1.1 (sf_k h7 (by decide) (by decide)) (by omega) (by omega) (by omega) (by omega)
  have f := imf (c := qra 73 a1) (by omega)
  rw [g100_24]
  simp only [f, qif_r]
  refine ⟨hx, by decide, ?_⟩
  rw [e58]
  exact hQ _ _ (Or.inl ⟨h01, rfl, μ1, h1, s2, rfl⟩)
theorem x101 {d : Nat} {Q : qV → qM → Prop} {μ : qM} {a1 : Int} (hS : Safe μ) (hQ : ∀ a μ', (((a1 = 0 ∨ a1 = 1) ∧ ¬ μ (qra 73 a1) 4 = 0 ∧ a = μ (qra 73 a1) 3 ∧ Cpy μ 58 (qra 73 a1) DI μ') ∨ ((a1 = 0 ∨ a1 = 1) ∧ μ (qra 73 a1) 4 = 0 ∧ a = -2 ∧ μ' = μ) ∨ (¬ (a1 = 0 ∨ a1 = 1) ∧ a = -1 ∧ μ' = μ)) → Q (.inl a) μ') : qmw (d + 4) 101 [(.inr (.inr (.inl (0)))), (.inl (a1))] μ Q := by
  rw [e101, g101_0, E104, g101_6, qbr2]
  refine ⟨fun q => ⟨by omega, ?_⟩, fun q => hQ _ _ (Or.inr (Or.inr ⟨by omega, rfl, rfl⟩))⟩
  have h7 := qra73 (k := a1) (by omega) (by omega)
  have hx : 0 ≤ a1 ∧ a1 < 2 := by omega
  have h01 : a1 = 0 ∨ a1 = 1 := by omega
  have h8 : qra 73 a1 = 58 ∨ qra 73 a1 = 140 ∨ qra 73 a1 = 155 := by omega
  have h9 : ¬ (58 : Int) = qra 73 a1 := by omega
  have f := imf (c := qra 73 a1) (by omega)
  simp only [f, qif_r]
  refine ⟨fun hk => ⟨hx, x23 hS (Or.inl rfl) h8 h9 (fun μ1 h1 => ?_)⟩, fun hk => hQ _ _ (Or.inr (Or.inl ⟨h01, hk, rfl, rfl⟩))⟩
  clear f
  have e1 := (h1.2.2 0 3 (by decide) (by decide)).1 (by unfold DI; omega)
  rw [Int.add_zero, Int.add_zero] at e1
  rw [g101_39, e1]
  exact hQ _ _ (Or.inl ⟨h01, hk, rfl, h1⟩)
/-! the reference's rows: three blocks of nn -/
def nn (c : Int) : Int := if c ≤ 194 then 1 else if c ≤ 203 then 20 else if c ≤ 206 then 30 else 40
def Mov (μ : qM) (a b : Int) (D : Int → Prop) (ν : qM) : Prop := Safe ν ∧ ∀ c, (D c → ∀ i, 0 ≤ i → i < nn c → ν c (nn c * b + i) = μ c (nn c * a + i)) ∧ (D c → ∀ i, ¬ (nn c * b ≤ i ∧ i < nn c * b + nn c) → ν c i = μ c i) ∧ (¬ D c → ∀ i, ν c i = μ c i)
theorem Mov_0 {μ : qM} {a b : Int} (h : Safe μ) : Mov μ a b (fun _ => (0 : Int) = 1) μ := ⟨h, fun _ => ⟨fun q => absurd (show (0 : Int) = 1 from q) (by decide), fun q => absurd (show (0 : Int) = 1 from q) (by decide), fun _ _ => rfl⟩⟩
theorem Mov_w {μ ν : qM} {a b : Int} {D D' : Int → Prop} (h : Mov μ a b D ν) (e : ∀ c, D c ↔ D' c) : Mov μ a b D' ν := ⟨h.1, fun c => ⟨fun q => (h.2 c).1 ((e c).mpr q), fun q => (h.2 c).2.1 ((e c).mpr q), fun q => (h.2 c).2.2 (fun q2 => q ((e c).mp q2))⟩⟩
theorem x175 {d : Nat} {Q : qV → qM → Prop} {μ : qM} {μ0 : qM} {D : Int → Prop} {c n a b : Int} (hn : n = nn c) (h : Mov μ0 a b D μ) (hD : ¬ D c) (hc : 191 ≤ c) (hc2 : c ≤ 207) (hc3 : ¬ c = 195) (e1 : qty c = 100) (e2 : qal c = 3 * n) (h1 : 1 ≤ n) (h2 : n ≤ 40) (ha : 0 ≤ a) (ha2 : a ≤ 2) (hb : 0 ≤ b) (hb2 : b ≤ 2) (hab : ¬ a = b) (hQ : ∀ μ', Mov μ0 a b (fun c' => D c' ∨ c' = c) μ' → Q (.inl 0) μ') : qmw (d + 1) 175 [(.inr (.inr (.inl (c)))), (.inl (n)), (.inl (a)), (.inl (b))] μ Q := by
  have na : 0 ≤ n * a ∧ n * a ≤ 2 * n := by
    rcases (show a = 0 ∨ a = 1 ∨ a = 2 by omega) with rfl | rfl | rfl <;> omega
  have nb : 0 ≤ n * b ∧ n * b ≤ 2 * n := by
    rcases (show b = 0 ∨ b = 1 ∨ b = 2 by omega) with rfl | rfl | rfl <;> omega
  have nab : n * a + n ≤ n * b ∨ n * b + n ≤ n * a := by
    rcases (show (a = 0 ∧ b = 1) ∨ (a = 0 ∧ b = 2) ∨ (a = 1 ∧ b = 0) ∨ (a = 1 ∧ b = 2) ∨ (a = 2 ∧ b = 0) ∨ (a = 2 ∧ b = 1) by omega) with ⟨rfl, rfl⟩ | ⟨rfl, rfl⟩ | ⟨rfl, rfl⟩ | ⟨rfl, rfl⟩ | ⟨rfl, rfl⟩ | ⟨rfl, rfl⟩ <;> omega
  generalize hA : n * a = A at na nab
  generalize hB2 : n * b = B at nb nab
  have K : ∀ ν, Safe ν → (∀ c' i, ¬ (c' = c ∧ B ≤ i ∧ i < B + n) → ν c' i = μ c' i) → (∀ j, 0 ≤ j → j < n → ν c (B + j) = μ c (A + j)) → Q (.inl 0) ν := fun ν hs q1 q2 => by
    refine hQ _ ⟨hs, fun c' => ⟨fun q i h5 h6 => ?_, fun q i h5 => ?_, fun q i => ?_⟩⟩
    · by_cases e : c' = c
      · subst e
        rw [← hn] at h6 ⊢
        rw [hA, hB2, q2 i h5 h6]
        exact (h.2 c').2.2 hD _
      · rw [q1 _ _ (fun q3 => e q3.1)]
        exact (h.2 c').1 (q.resolve_right e) i h5 h6
    · by_cases e : c' = c
      · subst e
        rw [← hn, hB2] at h5
        rw [q1 _ _ (fun q3 => h5 q3.2)]
        exact (h.2 c').2.2 hD _
      · rw [q1 _ _ (fun q3 => e q3.1)]
        exact (h.2 c').2.1 (q.resolve_right e) i h5
    · rw [q1 _ _ (fun q3 => q (Or.inr q3.1))]
      exact (h.2 c').2.2 (fun q3 => q (Or.inl q3)) i
  clear hQ
  rw [e175, g175_0]
  refine qup n (P := fun i => ∀ ν, 0 ≤ i → Safe ν → (∀ c' i', ¬ (c' = c ∧ B ≤ i' ∧ i' < B + i) → ν c' i' = μ c' i') → (∀ j, 0 ≤ j → j < i → ν c (B + j) = μ c (A + j)) → qW d 175 Q 3 [some (.inr (.inr (.inl (c)))), some (.inl (n)), some (.inl (a)), some (.inl (b)), some (.inl (i))] [] ν) (fun i ih hB ν hi hs q1 q2 => ?_) 0 (by omega) _ (by omega) h.1 (fun _ _ _ => rfl) (fun j q1 q2 => by omega)
  rw [g175_3, e1, e2, qif_r, qif_r, hA, hB2, q32_id (z := A) (by omega) (by omega), q32_id (z := B) (by omega) (by omega), q32_id (z := A + i) (by omega) (by omega), q32_id (z := B + i) (by omega) (by omega), q32_id (z := i + 1) (by omega) (by omega)]
  refine ⟨fun q => K _ hs ?_ ?_, fun q => ⟨by omega, by omega, ih _ (by omega) (by omega) _ (by omega) ?_ ?_ ?_⟩⟩
  · rw [show n = i by omega]
    exact q1
  · rw [show n = i by omega]
    exact q2
  · exact Safe_u hs (sf_ix (by omega) (hs.1 c (A + i))) (by omega) (by omega) (by omega) (by omega)
  · intro c' i' q3
    rw [qu_ne (by omega)]
    exact q1 _ _ (by omega)
  · intro j q3 q4
    by_cases e : j = i
    · rw [e, qu_same]
      exact q1 _ _ (by omega)
    · rw [qu_ne (by omega)]
      exact q2 j q3 (by omega)
/-- all but the days -/
def DM (c : Int) : Prop := 191 ≤ c ∧ c ≤ 207 ∧ ¬ c = 195
theorem x176 {d : Nat} {Q : qV → qM → Prop} {μ : qM} {a b : Int} (hS : Safe μ) (ha : 0 ≤ a) (ha2 : a ≤ 2) (hb : 0 ≤ b) (hb2 : b ≤ 2) (hab : ¬ a = b) (hQ : ∀ μ', Mov μ a b DM μ' → Q (.inl 0) μ') : qmw (d + 2) 176 [(.inr (.inr (.inl (170)))), (.inl (a)), (.inl (b))] μ Q := by
  rw [e176, g176_0]
  refine x175 (by decide) (Mov_0 hS) (by decide) (by decide) (by decide) (by decide) (by decide +kernel) (by decide +kernel) (by decide) (by decide) ha ha2 hb hb2 hab (fun μ1 h1 => ?_)
  rw [g176_10]
  refine x175 (by decide) h1 (by omega) (by decide) (by decide) (by decide) (by decide +kernel) (by decide +kernel) (by decide) (by decide) ha ha2 hb hb2 hab (fun μ2 h2 => ?_)
  rw [g176_20]
  refine x175 (by decide) h2 (by omega) (by decide) (by decide) (by decide) (by decide +kernel) (by decide +kernel) (by decide) (by decide) ha ha2 hb hb2 hab (fun μ3 h3 => ?_)
  rw [g176_30]
  refine x175 (by decide) h3 (by omega) (by decide) (by decide) (by decide) (by decide +kernel) (by decide +kernel) (by decide) (by decide) ha ha2 hb hb2 hab (fun μ4 h4 => ?_)
  rw [g176_40]
  refine x175 (by decide) h4 (by omega) (by decide) (by decide) (by decide) (by decide +kernel) (by decide +kernel) (by decide) (by decide) ha ha2 hb hb2 hab (fun μ5 h5 => ?_)
  rw [g176_51]
  refine x175 (by decide) h5 (by omega) (by decide) (by decide) (by decide) (by decide +kernel) (by decide +kernel) (by decide) (by decide) ha ha2 hb hb2 hab (fun μ6 h6 => ?_)
  rw [g176_62]
  refine x175 (by decide) h6 (by omega) (by decide) (by decide) (by decide) (by decide +kernel) (by decide +kernel) (by decide) (by decide) ha ha2 hb hb2 hab (fun μ7 h7 => ?_)
  rw [g176_73]
  refine x175 (by decide) h7 (by omega) (by decide) (by decide) (by decide) (by decide +kernel) (by decide +kernel) (by decide) (by decide) ha ha2 hb hb2 hab (fun μ8 h8 => ?_)
  rw [g176_84]
  refine x175 (by decide) h8 (by omega) (by decide) (by decide) (by decide) (by decide +kernel) (by decide +kernel) (by decide) (by decide) ha ha2 hb hb2 hab (fun μ9 h9 => ?_)
  rw [g176_95]
  refine x175 (by decide) h9 (by omega) (by decide) (by decide) (by decide) (by decide +kernel) (by decide +kernel) (by decide) (by decide) ha ha2 hb hb2 hab (fun μ10 h10 => ?_)
  rw [g176_106]
  refine x175 (by decide) h10 (by omega) (by decide) (by decide) (by decide) (by decide +kernel) (by decide +kernel) (by decide) (by decide) ha ha2 hb hb2 hab (fun μ11 h11 => ?_)
  rw [g176_117]
  refine x175 (by decide) h11 (by omega) (by decide) (by decide) (by decide) (by decide +kernel) (by decide +kernel) (by decide) (by decide) ha ha2 hb hb2 hab (fun μ12 h12 => ?_)
  rw [g176_128]
  refine x175 (by decide) h12 (by omega) (by decide) (by decide) (by decide) (by decide +kernel) (by decide +kernel) (by decide) (by decide) ha ha2 hb hb2 hab (fun μ13 h13 => ?_)
  rw [g176_139]
  refine x175 (by decide) h13 (by omega) (by decide) (by decide) (by decide) (by decide +kernel) (by decide +kernel) (by decide) (by decide) ha ha2 hb hb2 hab (fun μ14 h14 => ?_)
  rw [g176_150]
  refine x175 (by decide) h14 (by omega) (by decide) (by decide) (by decide) (by decide +kernel) (by decide +kernel) (by decide) (by decide) ha ha2 hb hb2 hab (fun μ15 h15 => ?_)
  rw [g176_161]
  refine x175 (by decide) h15 (by omega) (by decide) (by decide) (by decide) (by decide +kernel) (by decide +kernel) (by decide) (by decide) ha ha2 hb hb2 hab (fun μ16 h16 => ?_)
  rw [g176_172]
  refine hQ _ (Mov_w h16 (fun c => ?_))
  dsimp only [DM]
  omega
theorem x177 {d : Nat} {Q : qV → qM → Prop} {μ : qM} {a1 : Int} (hS : Safe μ) (hQ : ∀ a μ', (((a1 = 0 ∨ a1 = 1) ∧ a = μ 170 1 ∧ ∃ ν, Mov μ 0 (1 + a1) DM ν ∧ Safe μ' ∧ μ' = qu (qu ν 195 (1 + a1) (μ 170 1)) 209 a1 1) ∨ (¬ (a1 = 0 ∨ a1 = 1) ∧ a = -1 ∧ μ' = μ)) → Q (.inl a) μ') : qmw (d + 3) 177 [(.inr (.inr (.inl (170)))), (.inl (a1))] μ Q := by
  rw [e177, g177_0, E117, g177_6, qbr]
  refine ⟨fun q => ?_, fun q => hQ _ _ (Or.inr ⟨by omega, rfl, rfl⟩)⟩
  rw [q32_id (z := 1 + a1) (by omega) (by omega)]
  refine x176 hS (by omega) (by omega) (by omega) (by omega) (by omega) (fun μ1 h1 => ?_)
  have ht := sa_mtoday hS
  have e1 : μ1 170 1 = μ 170 1 := (h1.2 170).2.2 (by unfold DM; omega) 1
  have hs := sf_170 ht.1 ht.2
  rw [g177_19, q32_id (z := 1 + a1) (by omega) (by omega), e1]
  exact ⟨by omega, by omega, by omega, hQ _ _ (Or.inl ⟨by omega, rfl, μ1, h1, Safe_u (Safe_u h1.1 (hs.2.1 _) (by omega) (by omega) (by omega) (by omega)) (hs.2.2 _ _) (by omega) (by omega) (by omega) (by omega), rfl⟩)⟩
theorem x178 {d : Nat} {Q : qV → qM → Prop} {μ : qM} {a1 : Int} (hS : Safe μ) (hQ : ∀ a μ', (((a1 = 0 ∨ a1 = 1) ∧ ¬ μ 209 a1 = 0 ∧ a = μ 195 (1 + a1) ∧ ∃ ν, Mov μ (1 + a1) 0 DM ν ∧ Safe μ' ∧ μ' = qu ν 170 1 (μ 195 (1 + a1))) ∨ ((a1 = 0 ∨ a1 = 1) ∧ μ 209 a1 = 0 ∧ a = -2 ∧ μ' = μ) ∨ (¬ (a1 = 0 ∨ a1 = 1) ∧ a = -1 ∧ μ' = μ)) → Q (.inl a) μ') : qmw (d + 3) 178 [(.inr (.inr (.inl (170)))), (.inl (a1))] μ Q := by
  rw [e178, g178_0, E117, g178_6, qbr]
  refine ⟨fun q => ⟨by omega, fun hk => ?_, fun hk => hQ _ _ (Or.inr (Or.inl ⟨by omega, hk, rfl, rfl⟩))⟩, fun q => hQ _ _ (Or.inr (Or.inr ⟨by omega, rfl, rfl⟩))⟩
  rw [q32_id (z := 1 + a1) (by omega) (by omega)]
  refine x176 hS (by omega) (by omega) (by omega) (by omega) (by omega) (fun μ1 h1 => ?_)
  have ht := sa_mdays hS (1 + a1)
  have e1 : μ1 195 (1 + a1) = μ 195 (1 + a1) := (h1.2 195).2.2 (by unfold DM; omega) _
  have hs := sf_170 ht.1 ht.2
  rw [g178_31, q32_id (z := 1 + a1) (by omega) (by omega), e1]
  exact ⟨by omega, hQ _ _ (Or.inl ⟨by omega, hk, rfl, μ1, h1, Safe_u h1.1 hs.1 (by omega) (by omega) (by omega) (by omega), rfl⟩)⟩
