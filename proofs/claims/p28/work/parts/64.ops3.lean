theorem q64_2 (x a b : Int) : q64 (q64 (x + a) + b) = q64 (x + (a + b)) := by
  unfold q64
  rw [Int64.ofInt_add (a := (Int64.ofInt (x + a)).toInt), Int64.ofInt_toInt, ← Int64.ofInt_add, Int.add_assoc]
def wT (k : Int) : Int := [1, 11, 101, 1101, 10001, 110001, 1000001, 10010001].getD k.toNat 0
theorem Safe_06 {μ : qM} {v : Int} (h : Safe μ) : Safe (qu μ 0 6 v) := by
  refine Safe_u h ?_ (by omega) (by omega) (by omega) (by omega)
  unfold sf
  refine ⟨?_, ?_, ?_, ?_, ?_, ?_, ?_, ?_, ?_, ?_, ?_, ?_, ?_, ?_, ?_, ?_, ?_, ?_, ?_, ?_, ?_, ?_, ?_, ?_, ?_, ?_, ?_, ?_, ?_, ?_, ?_⟩ <;> intros <;> omega
theorem Safe_170 {μ : qM} {v : Int} (h : Safe μ) : Safe (qu μ 170 0 v) := by
  refine Safe_u h ?_ (by omega) (by omega) (by omega) (by omega)
  unfold sf
  refine ⟨?_, ?_, ?_, ?_, ?_, ?_, ?_, ?_, ?_, ?_, ?_, ?_, ?_, ?_, ?_, ?_, ?_, ?_, ?_, ?_, ?_, ?_, ?_, ?_, ?_, ?_, ?_, ?_, ?_, ?_, ?_⟩ <;> intros <;> omega
theorem k112 {d : Nat} {Q : qV → qM → Prop} {μ : qM} {a1 c2 a3 a4 b : Int} (hS : Safe μ) (hc : isP c2) (h0 : 0 ≤ a3) (h1 : a3 < 10) (hQ : ∀ a, Q (.inl a) μ) : qW (d + 3) 112 Q 41 [some (.inr (.inr (.inl (0)))), some (.inl (a1)), some (.inr (.inr (.inl (c2)))), some (.inl (a3)), some (.inl (a4)), none] [(.inl (b))] μ := by
  have hy : 0 ≤ a3 ∧ a3 < 10 := ⟨h0, h1⟩
  have hp := pf hc
  rw [g112_41]
  simp only [hp, qif_r]
  refine ⟨fun _ => hQ _, fun _ => hQ _, fun _ => ⟨hy, hQ _⟩, fun _ => s20 hS hc h0 h1 (fun a => ?_), fun _ => ⟨by decide, hQ _⟩, fun _ => s21 hS hc h0 h1 (fun a => ?_), fun _ => hQ _, fun _ => s45 hc h0 h1 (fun a => ?_), trivial⟩
  · rw [g112_116]
    exact hQ _
  · rw [g112_135]
    exact hQ _
  · rw [g112_154]
    exact ⟨fun _ => hQ _, fun _ => hQ _⟩
theorem w0 {d : Nat} {Q : qV → qM → Prop} {μ : qM} {c2 a3 : Int} (hS : Safe μ) (hQ : ∀ a μ', Safe μ' → μ' 0 6 = q64 (μ 0 6 + 1) → (∀ c i, ¬ c = 0 → μ' c i = μ c i) → Q (.inl a) μ') : qmw (d + 1) 112 [(.inr (.inr (.inl (0)))), (.inl (0)), (.inr (.inr (.inl (c2)))), (.inl (a3))] μ Q := by
  have e0 : (ztb 0).getD (0 : Int).toNat 0 = -1 := by decide +kernel
  have e1 : (ztb 1).getD (0 : Int).toNat 0 = 1 := by decide +kernel
  rw [e112, g112_0, e0, e1]
  refine ⟨by decide, by decide, fun _ => ⟨fun q => absurd q (by decide), fun _ => hQ _ _ (Safe_06 hS) (by rw [qu_same]) (fun c i q => qu_cell q _), fun q => absurd q (by decide), fun q => absurd q (by decide), fun q => absurd q (by decide), fun q => absurd q (by decide), fun q => absurd q (by decide), fun q => absurd q (by decide), trivial⟩, fun q => absurd q (by decide)⟩
theorem u112 {d : Nat} {Q : qV → qM → Prop} {μ : qM} {a1 c2 a3 p m t : Int} (h0 : 0 ≤ a1) (h1 : a1 < 8) (hp : (ztb 0).getD a1.toNat 0 = p) (hm : (ztb 1).getD a1.toNat 0 = m) (hp0 : 0 ≤ p) (hp1 : p < a1) (par : ∀ {R : qV → qM → Prop} {ν : qM}, Safe ν → (∀ a ν', Safe ν' → ν' 0 6 = q64 (ν 0 6 + t) → (∀ c i, ¬ c = 0 → ν' c i = ν c i) → R (.inl a) ν') → qmw (d + 3) 112 [(.inr (.inr (.inl (0)))), (.inl (p)), (.inr (.inr (.inl (c2)))), (.inl (a3))] ν R) (hS : Safe μ) (hc : isP c2) (h2 : 0 ≤ a3) (h3 : a3 < 10) (hQ : ∀ a μ', Safe μ' → μ' 0 6 = q64 (μ 0 6 + (m + t)) → (∀ c i, ¬ c = 0 → μ' c i = μ c i) → Q (.inl a) μ') : qmw (d + 4) 112 [(.inr (.inr (.inl (0)))), (.inl (a1)), (.inr (.inr (.inl (c2)))), (.inl (a3))] μ Q := by
  rw [e112, g112_0, hp, hm]
  refine ⟨⟨h0, h1⟩, ⟨h0, h1⟩, fun q => absurd q (by omega), fun _ => ⟨fun q => absurd q (by omega), fun _ => par (Safe_06 hS) (fun a ν hν e fr => k112 hν hc h2 h3 (fun b => hQ _ _ hν ?_ (fun c i q => ?_)))⟩⟩
  · rw [e, qu_same, q64_2]
  · rw [fr c i q, qu_cell q]
theorem w1 {d : Nat} {Q : qV → qM → Prop} {μ : qM} {c2 a3 : Int} (hS : Safe μ) (hc : isP c2) (h2 : 0 ≤ a3) (h3 : a3 < 10) (hQ : ∀ a μ', Safe μ' → μ' 0 6 = q64 (μ 0 6 + 11) → (∀ c i, ¬ c = 0 → μ' c i = μ c i) → Q (.inl a) μ') : qmw (d + 4) 112 [(.inr (.inr (.inl (0)))), (.inl (1)), (.inr (.inr (.inl (c2)))), (.inl (a3))] μ Q :=
  u112 (d := d) (p := 0) (m := 10) (t := 1) (by decide) (by decide) (by decide +kernel) (by decide +kernel) (by decide) (by decide) (fun hm hR => w0 hm hR) hS hc h2 h3 hQ
theorem w2 {d : Nat} {Q : qV → qM → Prop} {μ : qM} {c2 a3 : Int} (hS : Safe μ) (hc : isP c2) (h2 : 0 ≤ a3) (h3 : a3 < 10) (hQ : ∀ a μ', Safe μ' → μ' 0 6 = q64 (μ 0 6 + 101) → (∀ c i, ¬ c = 0 → μ' c i = μ c i) → Q (.inl a) μ') : qmw (d + 4) 112 [(.inr (.inr (.inl (0)))), (.inl (2)), (.inr (.inr (.inl (c2)))), (.inl (a3))] μ Q :=
  u112 (d := d) (p := 0) (m := 100) (t := 1) (by decide) (by decide) (by decide +kernel) (by decide +kernel) (by decide) (by decide) (fun hm hR => w0 hm hR) hS hc h2 h3 hQ
theorem w4 {d : Nat} {Q : qV → qM → Prop} {μ : qM} {c2 a3 : Int} (hS : Safe μ) (hc : isP c2) (h2 : 0 ≤ a3) (h3 : a3 < 10) (hQ : ∀ a μ', Safe μ' → μ' 0 6 = q64 (μ 0 6 + 10001) → (∀ c i, ¬ c = 0 → μ' c i = μ c i) → Q (.inl a) μ') : qmw (d + 4) 112 [(.inr (.inr (.inl (0)))), (.inl (4)), (.inr (.inr (.inl (c2)))), (.inl (a3))] μ Q :=
  u112 (d := d) (p := 0) (m := 10000) (t := 1) (by decide) (by decide) (by decide +kernel) (by decide +kernel) (by decide) (by decide) (fun hm hR => w0 hm hR) hS hc h2 h3 hQ
theorem w6 {d : Nat} {Q : qV → qM → Prop} {μ : qM} {c2 a3 : Int} (hS : Safe μ) (hc : isP c2) (h2 : 0 ≤ a3) (h3 : a3 < 10) (hQ : ∀ a μ', Safe μ' → μ' 0 6 = q64 (μ 0 6 + 1000001) → (∀ c i, ¬ c = 0 → μ' c i = μ c i) → Q (.inl a) μ') : qmw (d + 4) 112 [(.inr (.inr (.inl (0)))), (.inl (6)), (.inr (.inr (.inl (c2)))), (.inl (a3))] μ Q :=
  u112 (d := d) (p := 0) (m := 1000000) (t := 1) (by decide) (by decide) (by decide +kernel) (by decide +kernel) (by decide) (by decide) (fun hm hR => w0 hm hR) hS hc h2 h3 hQ
theorem w3 {d : Nat} {Q : qV → qM → Prop} {μ : qM} {c2 a3 : Int} (hS : Safe μ) (hc : isP c2) (h2 : 0 ≤ a3) (h3 : a3 < 10) (hQ : ∀ a μ', Safe μ' → μ' 0 6 = q64 (μ 0 6 + 1101) → (∀ c i, ¬ c = 0 → μ' c i = μ c i) → Q (.inl a) μ') : qmw (d + 5) 112 [(.inr (.inr (.inl (0)))), (.inl (3)), (.inr (.inr (.inl (c2)))), (.inl (a3))] μ Q :=
  u112 (d := d + 1) (p := 2) (m := 1000) (t := 101) (by decide) (by decide) (by decide +kernel) (by decide +kernel) (by decide) (by decide) (fun hm hR => w2 hm hc h2 h3 hR) hS hc h2 h3 hQ
theorem w5 {d : Nat} {Q : qV → qM → Prop} {μ : qM} {c2 a3 : Int} (hS : Safe μ) (hc : isP c2) (h2 : 0 ≤ a3) (h3 : a3 < 10) (hQ : ∀ a μ', Safe μ' → μ' 0 6 = q64 (μ 0 6 + 110001) → (∀ c i, ¬ c = 0 → μ' c i = μ c i) → Q (.inl a) μ') : qmw (d + 5) 112 [(.inr (.inr (.inl (0)))), (.inl (5)), (.inr (.inr (.inl (c2)))), (.inl (a3))] μ Q :=
  u112 (d := d + 1) (p := 4) (m := 100000) (t := 10001) (by decide) (by decide) (by decide +kernel) (by decide +kernel) (by decide) (by decide) (fun hm hR => w4 hm hc h2 h3 hR) hS hc h2 h3 hQ
theorem w7 {d : Nat} {Q : qV → qM → Prop} {μ : qM} {c2 a3 : Int} (hS : Safe μ) (hc : isP c2) (h2 : 0 ≤ a3) (h3 : a3 < 10) (hQ : ∀ a μ', Safe μ' → μ' 0 6 = q64 (μ 0 6 + 10010001) → (∀ c i, ¬ c = 0 → μ' c i = μ c i) → Q (.inl a) μ') : qmw (d + 5) 112 [(.inr (.inr (.inl (0)))), (.inl (7)), (.inr (.inr (.inl (c2)))), (.inl (a3))] μ Q :=
  u112 (d := d + 1) (p := 4) (m := 10000000) (t := 10001) (by decide) (by decide) (by decide +kernel) (by decide +kernel) (by decide) (by decide) (fun hm hR => w4 hm hc h2 h3 hR) hS hc h2 h3 hQ
theorem s112 {d : Nat} {Q : qV → qM → Prop} {μ : qM} {a1 c2 a3 : Int} (h0 : 0 ≤ a1) (h1 : a1 < 8) (hS : Safe μ) (hc : isP c2) (h2 : 0 ≤ a3) (h3 : a3 < 10) (hQ : ∀ a μ', Safe μ' → μ' 0 6 = q64 (μ 0 6 + wT a1) → (∀ c i, ¬ c = 0 → μ' c i = μ c i) → Q (.inl a) μ') : qmw (d + 5) 112 [(.inr (.inr (.inl (0)))), (.inl (a1)), (.inr (.inr (.inl (c2)))), (.inl (a3))] μ Q := by
  rcases (show a1 = 0 ∨ a1 = 1 ∨ a1 = 2 ∨ a1 = 3 ∨ a1 = 4 ∨ a1 = 5 ∨ a1 = 6 ∨ a1 = 7 by omega) with rfl | rfl | rfl | rfl | rfl | rfl | rfl | rfl
  · exact w0 hS hQ
  · exact w1 hS hc h2 h3 hQ
  · exact w2 hS hc h2 h3 hQ
  · exact w3 hS hc h2 h3 hQ
  · exact w4 hS hc h2 h3 hQ
  · exact w5 hS hc h2 h3 hQ
  · exact w6 hS hc h2 h3 hQ
  · exact w7 hS hc h2 h3 hQ
def wok (a1 a2 a3 : Int) : Prop := 0 ≤ a1 ∧ a1 ≤ 7 ∧ 0 ≤ a2 ∧ a2 ≤ 5 ∧ 0 ≤ a3 ∧ a3 ≤ 9
theorem s99 {d : Nat} {Q : qV → qM → Prop} {μ : qM} {a1 a2 a3 : Int} (hS : Safe μ) (hQ : ∀ a μ', wok a1 a2 a3 → Safe μ' → μ' 0 6 = q64 (μ 0 6 + wT a1) → μ' 170 0 = μ 170 0 → Q (.inl a) μ') (hN : ¬ wok a1 a2 a3 → Q (.inl (-1)) μ) : qmw (d + 6) 99 [(.inr (.inr (.inl (0)))), (.inl (a1)), (.inl (a2)), (.inl (a3))] μ Q := by
  rw [e99, g99_0, E104, g99_7, qbr]
  simp only [E105, E106, g99_14, g99_21, qbr2, qbr]
  refine ⟨fun _ => hN (by unfold wok; omega), fun _ => ⟨fun _ => hN (by unfold wok; omega), fun _ => ⟨fun _ => s108 (Sv_rf hS) (by omega) (by omega) (fun μ1 hm => ?_), fun _ => hN (by unfold wok; omega)⟩⟩⟩
  rw [g99_38]
  refine ⟨by omega, s112 (by omega) (by omega) hm.1 (isP57 (by omega) (by omega)) (by omega) (by omega) (fun a μ2 h2 e fr => ?_)⟩
  rw [g99_50]
  refine hQ _ _ (by unfold wok; omega) h2 ?_ ?_
  · rw [e, hm.2 0 6 (by omega)]
  · rw [fr 170 0 (by omega), hm.2 170 0 (by omega)]
theorem k174 {d : Nat} {Q : qV → qM → Prop} {μ : qM} {a1 a2 a3 a4 a5 a6 b c : Int} (h0 : 0 ≤ a1) (h1 : a1 < 8) (h2 : 0 ≤ a5) (h3 : a5 < 60) (hQ : ∀ a, Q (.inl a) (qu μ 170 0 (q64 (μ 170 0 + wT a1)))) : qW (d + 1) 174 Q 111 [some (.inr (.inr (.inl (170)))), some (.inl (a1)), some (.inl (a2)), some (.inl (a3)), some (.inl (a4)), some (.inl (a5)), some (.inl (a6)), none, none] [(.inl (b)), (.inl (c))] μ := by
  have hy : 0 ≤ a5 ∧ a5 < 60 := ⟨h2, h3⟩
  rw [g174_111]
  simp only [E142, g174_333]
  rcases (show a1 = 0 ∨ a1 = 1 ∨ a1 = 2 ∨ a1 = 3 ∨ a1 = 4 ∨ a1 = 5 ∨ a1 = 6 ∨ a1 = 7 by omega) with rfl | rfl | rfl | rfl | rfl | rfl | rfl | rfl
  all_goals
    ((repeat' with_reducible (first | apply And.intro | intro _)))
    all_goals first | exact hy.1 | exact hy.2 | trivial | decide | exact hQ _ | (exfalso; omega)
theorem s174 {d : Nat} {Q : qV → qM → Prop} {μ : qM} {a1 a2 a3 : Int} (hS : Safe μ) (hQ : ∀ a μ', wok a1 a2 a3 → Safe μ' → μ' 170 0 = q64 (μ 170 0 + wT a1) → μ' 0 6 = μ 0 6 → Q (.inl a) μ') (hN : ¬ wok a1 a2 a3 → Q (.inl (-1)) μ) : qmw (d + 4) 174 [(.inr (.inr (.inl (170)))), (.inl (a1)), (.inl (a2)), (.inl (a3))] μ Q := by
  rw [e174, g174_0, E117, g174_7, qbr2]
  simp only [E133, E134, g174_14, g174_21, qbr2, qbr]
  refine ⟨fun _ => hN (by unfold wok; omega), fun _ => ⟨fun _ => hN (by unfold wok; omega), fun _ => ⟨fun _ => s136 hS (by omega) (by omega) (fun a ha => ?_), fun _ => hN (by unfold wok; omega)⟩⟩⟩
  have hf := sa_mfirms hS a2
  have w : wok a1 a2 a3 := by
    unfold wok
    omega
  clear hN
  rw [g174_36, q32_id (z := 10 * a2) (by omega) (by omega), q32_id (z := 10 * a2 + a3) (by omega) (by omega)]
  have q : ∀ b, Q (.inl b) (qu μ 170 0 (q64 (μ 170 0 + wT a1))) := fun b => hQ _ _ w (Safe_170 hS) (by rw [qu_same]) (by rw [qu_cell (by omega)])
  clear hQ
  have k1 : ∀ a4 a6 b c, qW (d + 3) 174 Q 111 [some (.inr (.inr (.inl (170)))), some (.inl (a1)), some (.inl (a2)), some (.inl (a3)), some (.inl (a4)), some (.inl (10 * a2 + a3)), some (.inl (a6)), none, none] [(.inl (b)), (.inl (c))] μ := fun a4 a6 b c => k174 (by omega) (by omega) (by omega) (by omega) q
  have k2 : ∀ a6, ¬ a = -9 → qmw (d + 3) 139 [(.inr (.inr (.inl (170)))), (.inl (a2)), (.inl (a3)), (.inl (μ 170 1))] μ (fun v ν => qW (d + 3) 174 Q 92 [some (.inr (.inr (.inl (170)))), some (.inl (a1)), some (.inl (a2)), some (.inl (a3)), some (.inl (a)), some (.inl (10 * a2 + a3)), some (.inl (a6)), none, none] (v :: [(.inl (1))]) ν) := fun a6 h9 => by
    refine s139 hS (by omega) (by omega) (by omega) (by omega) (fun b => ?_)
    rw [g174_92]
    refine s146 hS (by omega) (by omega) (fun c => ?_)
    rw [g174_100]
    refine s131 hS (fun e => ?_)
    rw [g174_107, E142]
    exact k1 _ _ _ _
  exact ⟨fun h9 => ⟨by omega, fun h9 => k2 _ h9, fun _ => k1 _ _ _ _⟩, fun _ => ⟨fun h9 => k2 _ h9, fun _ => k1 _ _ _ _⟩⟩
theorem sf_ix {c i j v : Int} (hc : 171 ≤ c) (h : sf c i v) : sf c j v := by
  unfold sf at h ⊢
  obtain ⟨j1, j2, j3, j4, j5, j6, j7, j8, j9, j10, j11, j12, j13, j14, j15, j16, j17, j18, j19, j20, j21, j22, j23, j24, j25, j26, j27, j28, j29, j30, j31⟩ := h
  refine ⟨fun q => absurd q ?_, fun q => absurd q ?_, fun q => absurd q ?_, j4, fun q => absurd q ?_, fun q => absurd q ?_, fun q => absurd q ?_, j8, fun q => absurd q ?_, j10, j11, fun q => absurd q ?_, fun q => absurd q ?_, fun q => absurd q ?_, fun q => absurd q ?_, j16, j17, j18, j19, j20, j21, j22, j23, j24, j25, j26, j27, j28, fun q => absurd q ?_, fun q => absurd q ?_, j31⟩
  all_goals
    clear j1 j2 j3 j4 j5 j6 j7 j8 j9 j10 j11 j12 j13 j14 j15 j16 j17 j18 j19 j20 j21 j22 j23 j24 j25 j26 j27 j28 j29 j30 j31
    omega
theorem s175 {μ0 : qM} {d : Nat} {Q : qV → qM → Prop} {μ : qM} {c n a b : Int} (h : Sg μ0 μ) (hc : 191 ≤ c) (e1 : qty c = 100) (e2 : qal c = 3 * n) (h1 : 1 ≤ n) (h2 : n ≤ 40) (ha : 0 ≤ a) (ha2 : a ≤ 2) (hb : 0 ≤ b) (hb2 : b ≤ 2) (hQ : ∀ μ', Sg μ0 μ' → Q (.inl 0) μ') : qmw (d + 1) 175 [(.inr (.inr (.inl (c)))), (.inl (n)), (.inl (a)), (.inl (b))] μ Q := by
  have na : 0 ≤ n * a ∧ n * a ≤ 2 * n := by
    rcases (show a = 0 ∨ a = 1 ∨ a = 2 by omega) with rfl | rfl | rfl <;> omega
  have nb : 0 ≤ n * b ∧ n * b ≤ 2 * n := by
    rcases (show b = 0 ∨ b = 1 ∨ b = 2 by omega) with rfl | rfl | rfl <;> omega
  rw [e175, g175_0]
  refine qup n (P := fun i => ∀ ν, 0 ≤ i → Sg μ0 ν → qW d 175 Q 3 [some (.inr (.inr (.inl (c)))), some (.inl (n)), some (.inl (a)), some (.inl (b)), some (.inl (i))] [] ν) (fun i ih hB ν hi hm => ?_) 0 (by omega) _ (by omega) h
  generalize hA : n * a = A at na
  generalize hB2 : n * b = B at nb
  rw [g175_3, e1, e2, qif_r, qif_r, hA, hB2, q32_id (z := A) (by omega) (by omega), q32_id (z := B) (by omega) (by omega), q32_id (z := A + i) (by omega) (by omega), q32_id (z := B + i) (by omega) (by omega), q32_id (z := i + 1) (by omega) (by omega)]
  exact ⟨fun _ => hQ _ hm, fun _ => ⟨by omega, by omega, ih _ (by omega) (by omega) _ (by omega) (Sg_u hm (sf_ix (by omega) (hm.1.1 c (A + i))) (by omega) (by omega) (by omega) (by omega) (by omega) (by omega))⟩⟩
theorem s176 {μ0 : qM} {d : Nat} {Q : qV → qM → Prop} {μ : qM} {a b : Int} (h : Sg μ0 μ) (ha : 0 ≤ a) (ha2 : a ≤ 2) (hb : 0 ≤ b) (hb2 : b ≤ 2) (hQ : ∀ μ', Sg μ0 μ' → Q (.inl 0) μ') : qmw (d + 2) 176 [(.inr (.inr (.inl (170)))), (.inl (a)), (.inl (b))] μ Q := by
  rw [e176, g176_0]
  refine s175 h (by decide) (by decide +kernel) (by decide +kernel) (by decide) (by decide) ha ha2 hb hb2 (fun μ1 h1 => ?_)
  rw [g176_10]
  refine s175 h1 (by decide) (by decide +kernel) (by decide +kernel) (by decide) (by decide) ha ha2 hb hb2 (fun μ2 h2 => ?_)
  rw [g176_20]
  refine s175 h2 (by decide) (by decide +kernel) (by decide +kernel) (by decide) (by decide) ha ha2 hb hb2 (fun μ3 h3 => ?_)
  rw [g176_30]
  refine s175 h3 (by decide) (by decide +kernel) (by decide +kernel) (by decide) (by decide) ha ha2 hb hb2 (fun μ4 h4 => ?_)
  rw [g176_40]
  refine s175 h4 (by decide) (by decide +kernel) (by decide +kernel) (by decide) (by decide) ha ha2 hb hb2 (fun μ5 h5 => ?_)
  rw [g176_51]
  refine s175 h5 (by decide) (by decide +kernel) (by decide +kernel) (by decide) (by decide) ha ha2 hb hb2 (fun μ6 h6 => ?_)
  rw [g176_62]
  refine s175 h6 (by decide) (by decide +kernel) (by decide +kernel) (by decide) (by decide) ha ha2 hb hb2 (fun μ7 h7 => ?_)
  rw [g176_73]
  refine s175 h7 (by decide) (by decide +kernel) (by decide +kernel) (by decide) (by decide) ha ha2 hb hb2 (fun μ8 h8 => ?_)
  rw [g176_84]
  refine s175 h8 (by decide) (by decide +kernel) (by decide +kernel) (by decide) (by decide) ha ha2 hb hb2 (fun μ9 h9 => ?_)
  rw [g176_95]
  refine s175 h9 (by decide) (by decide +kernel) (by decide +kernel) (by decide) (by decide) ha ha2 hb hb2 (fun μ10 h10 => ?_)
  rw [g176_106]
  refine s175 h10 (by decide) (by decide +kernel) (by decide +kernel) (by decide) (by decide) ha ha2 hb hb2 (fun μ11 h11 => ?_)
  rw [g176_117]
  refine s175 h11 (by decide) (by decide +kernel) (by decide +kernel) (by decide) (by decide) ha ha2 hb hb2 (fun μ12 h12 => ?_)
  rw [g176_128]
  refine s175 h12 (by decide) (by decide +kernel) (by decide +kernel) (by decide) (by decide) ha ha2 hb hb2 (fun μ13 h13 => ?_)
  rw [g176_139]
  refine s175 h13 (by decide) (by decide +kernel) (by decide +kernel) (by decide) (by decide) ha ha2 hb hb2 (fun μ14 h14 => ?_)
  rw [g176_150]
  refine s175 h14 (by decide) (by decide +kernel) (by decide +kernel) (by decide) (by decide) ha ha2 hb hb2 (fun μ15 h15 => ?_)
  rw [g176_161]
  refine s175 h15 (by decide) (by decide +kernel) (by decide +kernel) (by decide) (by decide) ha ha2 hb hb2 (fun μ16 h16 => ?_)
  rw [g176_172]
  exact hQ _ h16
theorem s177 {μ0 : qM} {d : Nat} {Q : qV → qM → Prop} {μ : qM} {a1 : Int} (h : Sg μ0 μ) (hQ : ∀ a μ', Sg μ0 μ' → Q (.inl a) μ') : qmw (d + 3) 177 [(.inr (.inr (.inl (170)))), (.inl (a1))] μ Q := by
  rw [e177, g177_0, E117, g177_6, qbr]
  refine ⟨fun q => ?_, fun _ => hQ _ _ h⟩
  rw [q32_id (z := 1 + a1) (by omega) (by omega)]
  refine s176 h (by omega) (by omega) (by omega) (by omega) (fun μ1 h1 => ?_)
  have ht := sa_mtoday h1.1
  rw [g177_19, q32_id (z := 1 + a1) (by omega) (by omega)]
  refine ⟨by omega, by omega, by omega, hQ _ _ ?_⟩
  refine Sg_m (Sg_m h1 ?_ ?_ ?_ ?_ ?_ ?_ ?_) ?_ ?_ ?_ ?_ ?_ ?_ ?_ <;> intros <;> omega
theorem s178 {μ0 : qM} {d : Nat} {Q : qV → qM → Prop} {μ : qM} {a1 : Int} (h : Sg μ0 μ) (hQ : ∀ a μ', Sg μ0 μ' → Q (.inl a) μ') : qmw (d + 3) 178 [(.inr (.inr (.inl (170)))), (.inl (a1))] μ Q := by
  rw [e178, g178_0, E117, g178_6, qbr]
  refine ⟨fun q => ⟨by omega, fun _ => ?_, fun _ => hQ _ _ h⟩, fun _ => hQ _ _ h⟩
  rw [q32_id (z := 1 + a1) (by omega) (by omega)]
  refine s176 h (by omega) (by omega) (by omega) (by omega) (fun μ1 h1 => ?_)
  have ht := sa_mdays h1.1 (1 + a1)
  rw [g178_31, q32_id (z := 1 + a1) (by omega) (by omega)]
  refine ⟨by omega, hQ _ _ ?_⟩
  refine Sg_m h1 ?_ ?_ ?_ ?_ ?_ ?_ ?_ <;> intros <;> omega
