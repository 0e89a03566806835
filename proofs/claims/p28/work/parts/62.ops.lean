/-! EVERY CALL KEEPS THE RANGES AND, WEIGHT ASIDE, BOTH TRACES -/
def Sg (μ0 μ : qM) : Prop := Safe μ ∧ μ 0 6 = μ0 0 6 ∧ μ 170 0 = μ0 170 0
theorem Sg_rf {μ : qM} (h : Safe μ) : Sg μ μ := ⟨h, rfl, rfl⟩
theorem Sg_r {μ0 μ : qM} (h : Sr μ0 μ) : Sg μ0 μ := ⟨h.1, h.2 0 6 (Or.inl rfl), h.2 170 0 (by unfold relv; omega)⟩
theorem Sg_tr {μ0 μ μ' : qM} (h : Sg μ0 μ) (h2 : Sg μ μ') : Sg μ0 μ' := ⟨h2.1, h2.2.1.trans h.2.1, h2.2.2.trans h.2.2⟩
theorem Sg_u {μ0 μ : qM} {c i v : Int} (h : Sg μ0 μ) (hv : sf c i v) (h0 : ¬ c = 0) (h7 : ¬ (c = 170 ∧ i = 0)) (h1 : ¬ c = 182) (h2 : ¬ c = 183) (h3 : ¬ (c = 170 ∧ i = 4)) (h4 : ¬ c = 176) : Sg μ0 (qu μ c i v) := by
  refine ⟨Safe_u h.1 hv h1 h2 h3 h4, ?_, ?_⟩
  · rw [qu_cell (by omega)]
    exact h.2.1
  · rw [qu_ne (by omega)]
    exact h.2.2
theorem Sg_cp {μ0 μ : qM} {a b : Int} (h : Sg μ0 μ) (hs : ∀ i v, sf a i v → sf b i v) (h0 : ¬ b = 0) (h1 : ¬ b = 182) (h2 : ¬ b = 183) (h3 : ¬ b = 170) (h4 : ¬ b = 176) : Sg μ0 (qcp μ a b) := by
  refine ⟨Safe_cp h.1 hs h1 h2 h3 h4, ?_, ?_⟩
  · unfold qcp
    rw [if_neg (by omega)]
    exact h.2.1
  · unfold qcp
    rw [if_neg (by omega)]
    exact h.2.2
/-- the three images: the same places -/
theorem sf_im {c0 c1 k i v : Int} (h0 : c0 = 58 ∨ c0 = 140 ∨ c0 = 155) (h1 : c1 = 58 ∨ c1 = 140 ∨ c1 = 155) (hk : 0 ≤ k) (hk2 : k ≤ 14) (h : sf (c1 + k) i v) : sf (c0 + k) i v := by
  unfold sf at h ⊢
  obtain ⟨j1, j2, j3, j4, j5, j6, j7, j8, j9, j10, j11, j12, j13, j14, j15, j16, j17, j18, j19, j20, j21, j22, j23, j24, j25, j26, j27, j28, j29, j30, j31⟩ := h
  refine ⟨fun q => j1 ?_, fun q => j2 ?_, fun q => j3 ?_, fun q => j4 ?_, fun q => j5 ?_, fun q => j6 ?_, fun q => j7 ?_, fun q => j8 ?_, fun q => j9 ?_, fun q => j10 ?_, fun q => j11 ?_, fun q => j12 ?_, fun q => j13 ?_, fun q => j14 ?_, fun q => j15 ?_, fun q => j16 ?_, fun q => j17 ?_, fun q => j18 ?_, fun q => j19 ?_, fun q => j20 ?_, fun q => j21 ?_, fun q => j22 ?_, fun q => j23 ?_, fun q => j24 ?_, fun q => j25 ?_, fun q => j26 ?_, fun q => j27 ?_, fun q => j28 ?_, fun q => j29 ?_, fun q => j30 ?_, fun q => j31 ?_⟩
  all_goals
    clear j1 j2 j3 j4 j5 j6 j7 j8 j9 j10 j11 j12 j13 j14 j15 j16 j17 j18 j19 j20 j21 j22 j23 j24 j25 j26 j27 j28 j29 j30 j31
    omega
theorem imf {c : Int} (h : c = 58 ∨ c = 140 ∨ c = 155) : qty c = 1 ∧ qrf c 0 = c + 1 ∧ qrf c 1 = c + 9 ∧ qrf c 2 = c + 13 ∧ (qty (c + 1) = 2 ∧ qrf (c + 1) 0 = c + 2 ∧ qrf (c + 1) 1 = c + 3 ∧ qrf (c + 1) 2 = c + 4 ∧ qrf (c + 1) 3 = c + 5 ∧ qrf (c + 1) 4 = c + 6 ∧ qrf (c + 1) 5 = c + 7 ∧ qrf (c + 1) 6 = c + 8) ∧ (qty (c + 9) = 3 ∧ qrf (c + 9) 0 = c + 10 ∧ qrf (c + 9) 1 = c + 11 ∧ qrf (c + 9) 2 = c + 12) ∧ (qty (c + 13) = 4 ∧ qrf (c + 13) 0 = c + 14) := by
  rcases h with rfl | rfl | rfl <;> decide +kernel
theorem ima {c k : Int} (h : c = 58 ∨ c = 140 ∨ c = 155) (hk : k = 2 ∨ k = 3 ∨ k = 4 ∨ k = 5 ∨ k = 6 ∨ k = 7 ∨ k = 8) : qty (c + k) = 100 ∧ qal (c + k) = 20 := by
  rcases h with rfl | rfl | rfl <;> rcases hk with rfl | rfl | rfl | rfl | rfl | rfl | rfl <;> decide +kernel
theorem imb {c k : Int} (h : c = 58 ∨ c = 140 ∨ c = 155) (hk : k = 10 ∨ k = 11 ∨ k = 12) : qty (c + k) = 100 ∧ qal (c + k) = 30 := by
  rcases h with rfl | rfl | rfl <;> rcases hk with rfl | rfl | rfl <;> decide +kernel
theorem imc {c : Int} (h : c = 58 ∨ c = 140 ∨ c = 155) : qty (c + 14) = 100 ∧ qal (c + 14) = 40 := by
  rcases h with rfl | rfl | rfl <;> decide +kernel
theorem Sg_icp {μ0 μ : qM} {c0 c1 k : Int} (hm : Sg μ0 μ) (h0 : c0 = 58 ∨ c0 = 140 ∨ c0 = 155) (h1 : c1 = 58 ∨ c1 = 140 ∨ c1 = 155) (q1 : 2 ≤ k) (q2 : k ≤ 14) : Sg μ0 (qcp μ (c1 + k) (c0 + k)) := Sg_cp hm (fun i v q => sf_im h0 h1 (by omega) (by omega) q) (by omega) (by omega) (by omega) (by omega) (by omega)
theorem Sg_iu {μ0 μ : qM} {c0 c1 k i : Int} (hm : Sg μ0 μ) (h0 : c0 = 58 ∨ c0 = 140 ∨ c0 = 155) (h1 : c1 = 58 ∨ c1 = 140 ∨ c1 = 155) (q1 : 0 ≤ k) (q2 : k ≤ 14) : Sg μ0 (qu μ (c0 + k) i (μ (c1 + k) i)) := Sg_u hm (sf_im h0 h1 q1 q2 (hm.1.1 _ _)) (by omega) (by omega) (by omega) (by omega) (by omega) (by omega)
theorem s23 {μ0 : qM} {d : Nat} {Q : qV → qM → Prop} {μ : qM} {c0 c1 : Int} (h : Sg μ0 μ) (h0 : c0 = 58 ∨ c0 = 140 ∨ c0 = 155) (h1 : c1 = 58 ∨ c1 = 140 ∨ c1 = 155) (hQ : ∀ μ', Sg μ0 μ' → Q (.inl 0) μ') : qmw (d + 3) 23 [(.inr (.inr (.inl (c0)))), (.inr (.inr (.inl (c1))))] μ Q := by
  have cp : ∀ {ν : qM} (k : Int), 2 ≤ k → k ≤ 14 → Sg μ0 ν → Sg μ0 (qcp ν (c1 + k) (c0 + k)) := fun k q1 q2 hm => Sg_icp hm h0 h1 q1 q2
  have u : ∀ {ν : qM} (k i : Int), 0 ≤ k → k ≤ 14 → Sg μ0 ν → Sg μ0 (qu ν (c0 + k) i (ν (c1 + k) i)) := fun k i q1 q2 hm => Sg_iu hm h0 h1 q1 q2
  have f0 := imf h0
  have f1 := imf h1
  have a0 := fun k hk => ima (k := k) h0 hk
  have a1 := fun k hk => ima (k := k) h1 hk
  have b0 := fun k hk => imb (k := k) h0 hk
  have b1 := fun k hk => imb (k := k) h1 hk
  have g0 := imc h0
  have g1 := imc h1
  have ea : ∀ {D : Nat} {R : qV → qM → Prop} {ν : qM} (k : Int), (k = 2 ∨ k = 3 ∨ k = 4 ∨ k = 5 ∨ k = 6 ∨ k = 7 ∨ k = 8) → qmw (D + 1) 115 [(.inr (.inr (.inl (c1 + k)))), (.inr (.inr (.inl (c0 + k))))] ν R = R (.inl 0) (qcp ν (c1 + k) (c0 + k)) := fun k hk => E115 (a1 k hk).1 (a0 k hk).1 (by rw [(a0 k hk).2, (a1 k hk).2])
  have eb : ∀ {D : Nat} {R : qV → qM → Prop} {ν : qM} (k : Int), (k = 10 ∨ k = 11 ∨ k = 12) → qmw (D + 1) 115 [(.inr (.inr (.inl (c1 + k)))), (.inr (.inr (.inl (c0 + k))))] ν R = R (.inl 0) (qcp ν (c1 + k) (c0 + k)) := fun k hk => E115 (b1 k hk).1 (b0 k hk).1 (by rw [(b0 k hk).2, (b1 k hk).2])
  have ec : ∀ {D : Nat} {R : qV → qM → Prop} {ν : qM}, qmw (D + 1) 115 [(.inr (.inr (.inl (c1 + 14)))), (.inr (.inr (.inl (c0 + 14))))] ν R = R (.inl 0) (qcp ν (c1 + 14) (c0 + 14)) := E115 g1.1 g0.1 (by rw [g0.2, g1.2])
  rw [e23 f0.1, g23_0]
  simp only [f0, f1, qif_r]
  rw [e33 f0.2.2.2.2.1.1, g33_0]
  simp only [f0, f1, qif_r]
  rw [ea 2 (by decide), g33_19]
  simp only [f0, f1, qif_r]
  rw [ea 3 (by decide), g33_30]
  simp only [f0, f1, qif_r]
  rw [ea 4 (by decide), g33_41]
  simp only [f0, f1, qif_r]
  rw [ea 5 (by decide), g33_52]
  simp only [f0, f1, qif_r]
  rw [ea 6 (by decide), g33_63]
  simp only [f0, f1, qif_r]
  rw [ea 7 (by decide), g33_74]
  simp only [f0, f1, qif_r]
  rw [ea 8 (by decide), g33_85, g23_11]
  simp only [f0, f1, qif_r]
  have m1 := cp 8 (by decide) (by decide) (cp 7 (by decide) (by decide) (cp 6 (by decide) (by decide) (cp 5 (by decide) (by decide) (cp 4 (by decide) (by decide) (cp 3 (by decide) (by decide) (cp 2 (by decide) (by decide) (u 1 7 (by decide) (by decide) h)))))))
  generalize qcp (qcp (qcp (qcp (qcp (qcp (qcp (qu μ (c0 + 1) 7 (μ (c1 + 1) 7)) (c1 + 2) (c0 + 2)) (c1 + 3) (c0 + 3)) (c1 + 4) (c0 + 4)) (c1 + 5) (c0 + 5)) (c1 + 6) (c0 + 6)) (c1 + 7) (c0 + 7)) (c1 + 8) (c0 + 8) = μ1 at m1
  rw [e36 f0.2.2.2.2.2.1.1, g36_0]
  simp only [f0, f1, qif_r]
  rw [eb 10 (by decide), g36_19]
  simp only [f0, f1, qif_r]
  rw [eb 11 (by decide), g36_30]
  simp only [f0, f1, qif_r]
  rw [eb 12 (by decide), g36_41, g23_22]
  simp only [f0, f1, qif_r]
  have m2 := cp 12 (by decide) (by decide) (cp 11 (by decide) (by decide) (cp 10 (by decide) (by decide) (u 9 3 (by decide) (by decide) m1)))
  generalize qcp (qcp (qcp (qu μ1 (c0 + 9) 3 (μ1 (c1 + 9) 3)) (c1 + 10) (c0 + 10)) (c1 + 11) (c0 + 11)) (c1 + 12) (c0 + 12) = μ2 at m2
  rw [e41 f0.2.2.2.2.2.2.1, g41_0]
  simp only [f0, f1, qif_r]
  rw [ec, g41_19, g23_33]
  simp only [f0, f1, qif_r]
  have m3 := u 0 3 (by decide) (by decide) (cp 14 (by decide) (by decide) (u 13 1 (by decide) (by decide) m2))
  rw [Int.add_zero, Int.add_zero] at m3
  exact hQ _ m3
theorem qra73 {k : Int} (h0 : 0 ≤ k) (h1 : k < 2) : qra 73 k = 140 ∨ qra 73 k = 155 := by
  rcases (show k = 0 ∨ k = 1 by omega) with rfl | rfl <;> decide +kernel
theorem sf_k {c v : Int} (h : c = 140 ∨ c = 155) (h0 : 0 ≤ v) (h1 : v ≤ 1) : sf c 4 v := by
  unfold sf
  refine ⟨?_, ?_, ?_, ?_, ?_, ?_, ?_, ?_, ?_, ?_, ?_, ?_, ?_, ?_, ?_, ?_, ?_, ?_, ?_, ?_, ?_, ?_, ?_, ?_, ?_, ?_, ?_, ?_, ?_, ?_, ?_⟩ <;> intros <;> omega
theorem s100 {μ0 : qM} {d : Nat} {Q : qV → qM → Prop} {μ : qM} {a1 : Int} (h : Sg μ0 μ) (hQ : ∀ a μ', Sg μ0 μ' → Q (.inl a) μ') : qmw (d + 4) 100 [(.inr (.inr (.inl (0)))), (.inl (a1))] μ Q := by
  rw [e100, g100_0, E104, g100_6, qbr2]
  refine ⟨fun q => ⟨by omega, ?_⟩, fun _ => hQ _ _ h⟩
  have h7 := qra73 (k := a1) (by omega) (by omega)
  refine s23 h (by omega) (by omega) (fun μ1 h1 => ?_)
  have hy := Sg_u h1 (sf_k h7 (v := 1) (by decide) (by decide)) (by omega) (by omega) (by omega) (by omega) (by omega) (by omega)
  have hx : 0 ≤ a1 ∧ a1 < 2 := by omega
  have f := imf (c := qra 73 a1) (by omega)
  rw [g100_24]
  simp only [f, qif_r]
  exact ⟨hx, by decide, hQ _ _ hy⟩
theorem s101 {μ0 : qM} {d : Nat} {Q : qV → qM → Prop} {μ : qM} {a1 : Int} (h : Sg μ0 μ) (hQ : ∀ a μ', Sg μ0 μ' → Q (.inl a) μ') : qmw (d + 4) 101 [(.inr (.inr (.inl (0)))), (.inl (a1))] μ Q := by
  rw [e101, g101_0, E104, g101_6, qbr2]
  refine ⟨fun q => ⟨by omega, ?_⟩, fun _ => hQ _ _ h⟩
  have h7 := qra73 (k := a1) (by omega) (by omega)
  have hx : 0 ≤ a1 ∧ a1 < 2 := by omega
  have h8 : qra 73 a1 = 58 ∨ qra 73 a1 = 140 ∨ qra 73 a1 = 155 := by omega
  have f := imf (c := qra 73 a1) (by omega)
  simp only [f, qif_r]
  refine ⟨fun _ => ⟨hx, s23 h (Or.inl rfl) h8 (fun μ1 h1 => ?_)⟩, fun _ => hQ _ _ h⟩
  rw [g101_39]
  exact hQ _ _ h1
