/-! THE TABLES: exact -/
theorem qra42k {k : Nat} (h : k ≤ 10) : qra 42 k = 43 + k ∧ qty (43 + (k : Int)) = 100 ∧ qal (43 + (k : Int)) = 201 := qra42 (by omega) (by omega)
theorem qra18k {k : Nat} (h : k ≤ 10) : qra 18 k = 19 + k ∧ qty (19 + (k : Int)) = 100 ∧ qal (19 + (k : Int)) = 201 := qra18 (by omega) (by omega)
theorem qra30k {k : Nat} (h : k ≤ 10) : qra 30 k = 31 + k ∧ qty (31 + (k : Int)) = 100 ∧ qal (31 + (k : Int)) = 201 := qra30 (by omega) (by omega)
theorem x72 {μ0 : qM} {d : Nat} {Q : qV → qM → Prop} {μ : qM} {kk : Nat} (hk : kk ≤ 9) (h : Sv μ0 μ) (hr : ∀ s : Int, 0 ≤ s → s ≤ 20 * kk → μ (43 + kk) s = Wm kk s) (hQ : ∀ μ', Sv μ0 μ' → (∀ c i : Int, ¬ c = 44 + kk → μ' c i = μ c i) → (∀ s : Int, 0 ≤ s → s ≤ 20 * (kk + 1 : Nat) → μ' (44 + kk) s = Wm (kk + 1) s) → Q (.inl 0) μ') : qmw (d + 2) 72 [(.inr (.inr (.inl (16)))), (.inl ((kk : Int) + 1))] μ Q := by
  have t1 := qra42k (k := kk) (by omega)
  have t2 := qra42k (k := kk + 1) (by omega)
  have e1 : (((kk + 1 : Nat) : Int)) = (kk : Int) + 1 := by omega
  rw [e1, show (43 : Int) + ((kk : Int) + 1) = 44 + kk by omega] at t2
  rw [e72, g72_0]
  refine qup (20 * (kk + 1) + 1) (P := fun s => ∀ (o3 o5 o6 : Option qV) (ν : qM), 0 ≤ s → Sv μ0 ν → (∀ c i : Int, ¬ c = 44 + kk → ν c i = μ c i) → (∀ t : Int, 0 ≤ t → t < s → ν (44 + kk) t = Wm (kk + 1) t) → qW (d + 1) 72 Q 2 [some (.inr (.inr (.inl (16)))), some (.inl ((kk : Int) + 1)), some (.inl (s)), o3, none, o5, o6] [] ν) (fun s ih hB o3 o5 o6 ν h0 hm fr hw => ?_) 0 (by omega) _ _ _ _ (by omega) h (fun _ _ _ => rfl) (fun t q1 q2 => by omega)
  rw [g72_2, q32_id (z := 20 * ((kk : Int) + 1)) (by omega) (by omega)]
  refine ⟨fun q => hQ _ hm fr (fun t q1 q2 => hw t q1 (by omega)), fun q => ?_⟩
  have tt := lw_tp (k := kk) h0 (by omega)
  have el : qmax 0 (q32 (s - q32 (20 * q32 ((kk : Int) + 1 - 1)))) = lw kk s := by
    rw [q32_id (z := (kk : Int) + 1 - 1) (by omega) (by omega), show (kk : Int) + 1 - 1 = kk by omega, q32_id (z := 20 * (kk : Int)) (by omega) (by omega), q32_id (z := s - 20 * (kk : Int)) (by omega) (by omega)]
    rfl
  rw [E74, g72_25, el]
  have st : ∀ (o3 o5 o6 : Option qV) (ν' : qM), Sv μ0 ν' → (∀ c i : Int, ¬ c = 44 + kk → ν' c i = μ c i) → (∀ t : Int, 0 ≤ t → t < s + 1 → ν' (44 + kk) t = Wm (kk + 1) t) → qW (d + 1) 72 Q 2 [some (.inr (.inr (.inl (16)))), some (.inl ((kk : Int) + 1)), some (.inl (s + 1)), o3, none, o5, o6] [] ν' := fun o3 o5 o6 ν' k1 k2 k3 => ih _ (by omega) (by omega) _ _ _ _ (by omega) k1 k2 k3
  clear ih
  refine qup (tp s + 1) (P := fun p => ∀ w3, lw kk s ≤ p → w3 = smF (fun p => Wm kk (s - p)) (lw kk s) (p - lw kk s).toNat → qW (d + 1) 72 Q 27 [some (.inr (.inr (.inl (16)))), some (.inl ((kk : Int) + 1)), some (.inl (s)), some (.inr (.inl (w3))), none, some (.inl (qmin 20 s)), some (.inl (p))] [] ν) (fun p ih hB2 w3 hp ew => ?_) _ (by omega) 0 (by omega) (by rw [Int.sub_self]; rfl)
  have hw3 : 0 ≤ w3 ∧ w3 ≤ 21 * 1000000007 := by
    rw [ew]
    have := smF_r (g := fun p => Wm kk (s - p)) (lo := lw kk s) (B := 1000000007) (p - lw kk s).toNat (fun i _ _ => by
      have := Wm_r kk (s - i)
      omega)
    have h9 : (((p - lw kk s).toNat : Nat) : Int) * 1000000007 ≤ 21 * 1000000007 := by omega
    omega
  rw [g72_27]
  refine ⟨fun q2 => ⟨by omega, by decide, ?_⟩, fun q2 => ⟨by rw [q32_id (by omega) (by omega)]; omega, ?_⟩⟩
  · have hp2 : p = tp s + 1 := by
      have : tp s < p := q2
      omega
    rw [t2.1, t2.2.1, t2.2.2, qif_r, q32_id (z := s + 1) (by omega) (by omega), qlrem_p hw3.1 (by omega) (by decide) (by decide), q32_id (z := w3 % 1000000007) (by omega) (by omega)]
    refine ⟨by omega, st _ _ _ _ ?_ (fun c i k1 => ?_) (fun t k1 k2 => ?_)⟩
    · refine Sv_u hm (by omega) (by omega) (by intros; omega) (by intros; omega) (by intros; omega)
    · rw [qu_cell k1]
      exact fr c i k1
    · by_cases e9 : t = s
      · rw [e9, qu_same, Wm, ew, hp2, show tp s + 1 - lw kk s = tp s - lw kk s + 1 by omega]
      · rw [qu_ne (by omega)]
        exact hw t k1 (by omega)
  · have q2 : p ≤ tp s := q2
    rw [q32_id (z := (kk : Int) + 1 - 1) (by omega) (by omega), show (kk : Int) + 1 - 1 = kk by omega, t1.1, t1.2.1, t1.2.2, qif_r, q32_id (z := s - p) (by omega) (by omega), q32_id (z := p + 1) (by omega) (by omega)]
    refine ⟨by omega, ?_⟩
    rw [fr (43 + kk) (s - p) (by omega), hr (s - p) (by omega) (by omega)]
    have hW := Wm_r kk (s - p)
    rw [q64_id (by omega) (by omega)]
    refine ih _ (by omega) (by omega) _ (by omega) ?_
    rw [show (p + 1 - lw kk s).toNat = (p - lw kk s).toNat + 1 by omega, smF, ← ew, show lw kk s + (((p - lw kk s).toNat : Nat) : Int) = p by omega]
theorem x73 {μ0 : qM} {d : Nat} {Q : qV → qM → Prop} {μ : qM} {kk : Nat} (hk : kk ≤ 9) (h : Sv μ0 μ) (hd : ∀ p : Int, 0 ≤ p → p ≤ 20 → 0 ≤ μ 17 p ∧ μ 17 p ≤ 99) (hr : ∀ s : Int, 0 ≤ s → s ≤ 20 * kk → μ (19 + kk) s = mnD (μ 17) kk s ∧ μ (31 + kk) s = mxD (μ 17) kk s) (hQ : ∀ μ', Sv μ0 μ' → (∀ c i : Int, ¬ c = 20 + kk → ¬ c = 32 + kk → μ' c i = μ c i) → (∀ s : Int, 0 ≤ s → s ≤ 20 * (kk + 1 : Nat) → μ' (20 + kk) s = mnD (μ 17) (kk + 1) s ∧ μ' (32 + kk) s = mxD (μ 17) (kk + 1) s) → Q (.inl 0) μ') : qmw (d + 2) 73 [(.inr (.inr (.inl (16)))), (.inl ((kk : Int) + 1))] μ Q := by
  have t1 := qra18k (k := kk) (by omega)
  have t2 := qra18k (k := kk + 1) (by omega)
  have u1 := qra30k (k := kk) (by omega)
  have u2 := qra30k (k := kk + 1) (by omega)
  have e1 : (((kk + 1 : Nat) : Int)) = (kk : Int) + 1 := by omega
  rw [e1, show (19 : Int) + ((kk : Int) + 1) = 20 + kk by omega] at t2
  rw [e1, show (31 : Int) + ((kk : Int) + 1) = 32 + kk by omega] at u2
  have ek : q32 ((kk : Int) + 1 - 1) = kk := by
    rw [q32_id (by omega) (by omega)]
    omega
  rw [e73, g73_0]
  refine qup (20 * (kk + 1) + 1) (P := fun s => ∀ (o3 o4 o5 o6 o7 : Option qV) (ν : qM), 0 ≤ s → Sv μ0 ν → (∀ c i : Int, ¬ c = 20 + kk → ¬ c = 32 + kk → ν c i = μ c i) → (∀ t : Int, 0 ≤ t → t < s → ν (20 + kk) t = mnD (μ 17) (kk + 1) t ∧ ν (32 + kk) t = mxD (μ 17) (kk + 1) t) → qW (d + 1) 73 Q 2 [some (.inr (.inr (.inl (16)))), some (.inl ((kk : Int) + 1)), some (.inl (s)), o3, o4, o5, o6, o7] [] ν) (fun s ih hB o3 o4 o5 o6 o7 ν h0 hm fr hw => ?_) 0 (by omega) _ _ _ _ _ _ (by omega) h (fun _ _ _ _ => rfl) (fun t q1 q2 => by omega)
  rw [g73_2, q32_id (z := 20 * ((kk : Int) + 1)) (by omega) (by omega)]
  refine ⟨fun q => hQ _ hm fr (fun t q1 q2 => hw t q1 (by omega)), fun q => ?_⟩
  have tt := lw_tp (k := kk) h0 (by omega)
  have el : qmax 0 (q32 (s - q32 (20 * q32 ((kk : Int) + 1 - 1)))) = lw kk s := by
    rw [ek, q32_id (z := 20 * (kk : Int)) (by omega) (by omega), q32_id (z := s - 20 * (kk : Int)) (by omega) (by omega)]
    rfl
  have st : ∀ (o3 o4 o5 o6 o7 : Option qV) (ν' : qM), Sv μ0 ν' → (∀ c i : Int, ¬ c = 20 + kk → ¬ c = 32 + kk → ν' c i = μ c i) → (∀ t : Int, 0 ≤ t → t < s + 1 → ν' (20 + kk) t = mnD (μ 17) (kk + 1) t ∧ ν' (32 + kk) t = mxD (μ 17) (kk + 1) t) → qW (d + 1) 73 Q 2 [some (.inr (.inr (.inl (16)))), some (.inl ((kk : Int) + 1)), some (.inl (s + 1)), o3, o4, o5, o6, o7] [] ν' := fun o3 o4 o5 o6 o7 ν' k1 k2 k3 => ih _ (by omega) (by omega) _ _ _ _ _ _ (by omega) k1 k2 k3
  clear ih
  have val : ∀ p, lw kk s ≤ p → p ≤ tp s → (ν (19 + kk) (s - p) = mnD (μ 17) kk (s - p) ∧ ν (31 + kk) (s - p) = mxD (μ 17) kk (s - p) ∧ ν 17 p = μ 17 p) ∧ (0 ≤ mnD (μ 17) kk (s - p) ∧ mnD (μ 17) kk (s - p) ≤ 990) ∧ (0 ≤ mxD (μ 17) kk (s - p) ∧ mxD (μ 17) kk (s - p) ≤ 990) ∧ (0 ≤ μ 17 p ∧ μ 17 p ≤ 99) := fun p q1 q2 => by
    have z := hr (s - p) (by omega) (by omega)
    have z2 := mnD_r hd kk (s - p) (by omega) (by omega)
    have z3 := mxD_r hd kk (s - p) (by omega) (by omega)
    refine ⟨⟨?_, ?_, fr _ _ (by omega) (by omega)⟩, by omega, by omega, hd p (by omega) (by omega)⟩
    · rw [fr _ _ (by omega) (by omega)]
      exact z.1
    · rw [fr _ _ (by omega) (by omega)]
      exact z.2
  have v0 := val (lw kk s) (by omega) (by omega)
  rw [E74, g73_22, el, ek, t1.1, t1.2.1, t1.2.2, u1.1, u1.2.1, u1.2.2, qif_r, qif_r, q32_id (z := s - lw kk s) (by omega) (by omega), q32_id (z := lw kk s + 1) (by omega) (by omega), v0.1.1, v0.1.2.1, v0.1.2.2, q32_id (z := mnD (μ 17) kk (s - lw kk s) + μ 17 (lw kk s)) (by omega) (by omega), q32_id (z := mxD (μ 17) kk (s - lw kk s) + μ 17 (lw kk s)) (by omega) (by omega)]
  refine ⟨by omega, by omega, by omega, by omega, by omega, by omega, ?_⟩
  refine qup (tp s + 1) (P := fun p => ∀ a5 a6, lw kk s + 1 ≤ p → a5 = mnF (fun p => mnD (μ 17) kk (s - p) + μ 17 p) (lw kk s) (p - 1 - lw kk s).toNat → a6 = mxF (fun p => mxD (μ 17) kk (s - p) + μ 17 p) (lw kk s) (p - 1 - lw kk s).toNat → qW (d + 1) 73 Q 76 [some (.inr (.inr (.inl (16)))), some (.inl ((kk : Int) + 1)), some (.inl (s)), some (.inl (qmin 20 s)), some (.inl (lw kk s)), some (.inl (a5)), some (.inl (a6)), some (.inl (p))] [] ν) (fun p ih hB2 a5 a6 hp ea eb => ?_) _ (by omega) _ _ (by omega) (by rw [show lw kk s + 1 - 1 - lw kk s = 0 by omega]; rfl) (by rw [show lw kk s + 1 - 1 - lw kk s = 0 by omega]; rfl)
  rw [g73_76]
  refine ⟨fun q2 => ⟨by omega, ?_⟩, fun q2 => ⟨by rw [ek]; omega, ?_⟩⟩
  · have hp2 : p = tp s + 1 := by
      have : tp s < p := q2
      omega
    rw [t2.1, t2.2.1, t2.2.2, u2.1, u2.2.1, u2.2.2, qif_r, qif_r, q32_id (z := s + 1) (by omega) (by omega)]
    refine ⟨by omega, by omega, by omega, st _ _ _ _ _ _ ?_ (fun c i k1 k2 => ?_) (fun t k1 k2 => ?_)⟩
    · refine Sv_u (Sv_u hm (by omega) (by omega) (by intros; omega) (by intros; omega) (by intros; omega)) (by omega) (by omega) (by intros; omega) (by intros; omega) (by intros; omega)
    · rw [qu_cell k2, qu_cell k1]
      exact fr c i k1 k2
    · rw [qu_cell (c' := 20 + (kk : Int)) (by omega)]
      by_cases e9 : t = s
      · rw [e9, qu_same, qu_same, mnD, mxD, ea, eb, hp2, show tp s + 1 - 1 - lw kk s = tp s - lw kk s by omega]
        exact ⟨rfl, rfl⟩
      · rw [qu_ne (c' := 20 + (kk : Int)) (by omega), qu_ne (c' := 32 + (kk : Int)) (by omega), qu_cell (c' := 32 + (kk : Int)) (by omega)]
        exact hw t k1 (by omega)
  · have q2 : p ≤ tp s := q2
    have v := val p (by omega) q2
    rw [ek, t1.1, t1.2.1, t1.2.2, u1.1, u1.2.1, u1.2.2, qif_r, qif_r, q32_id (z := s - p) (by omega) (by omega), q32_id (z := p + 1) (by omega) (by omega), v.1.1, v.1.2.1, v.1.2.2, q32_id (z := mnD (μ 17) kk (s - p) + μ 17 p) (by omega) (by omega), q32_id (z := mxD (μ 17) kk (s - p) + μ 17 p) (by omega) (by omega)]
    refine ⟨by omega, by omega, by omega, by omega, by omega, ih _ (by omega) (by omega) _ _ (by omega) ?_ ?_⟩
    · rw [show (p + 1 - 1 - lw kk s).toNat = (p - 1 - lw kk s).toNat + 1 by omega, mnF, ← ea, show lw kk s + (((p - 1 - lw kk s).toNat + 1 : Nat) : Int) = p by omega]
    · rw [show (p + 1 - 1 - lw kk s).toNat = (p - 1 - lw kk s).toNat + 1 by omega, mxF, ← eb, show lw kk s + (((p - 1 - lw kk s).toNat + 1 : Nat) : Int) = p by omega]
/-- the rows of ways that are made are right -/
def TW (μ : qM) : Prop := ∀ k : Nat, (k : Int) < μ 16 6 → ∀ s : Int, 0 ≤ s → s ≤ 20 * k → μ (43 + k) s = Wm k s
/-- the rows of dues that are made are right -/
def TD (μ : qM) : Prop := (∀ p : Int, 0 ≤ p → p ≤ 20 → 0 ≤ μ 17 p ∧ μ 17 p ≤ 99) ∧ ∀ k : Nat, (k : Int) < μ 16 5 → ∀ s : Int, 0 ≤ s → s ≤ 20 * k → μ (19 + k) s = mnD (μ 17) k s ∧ μ (31 + k) s = mxD (μ 17) k s
theorem x67 {μ0 : qM} {d : Nat} {Q : qV → qM → Prop} {μ : qM} {a1 : Int} (ha : a1 ≤ 10) (h : Sv μ0 μ) (hw : TW μ) (hQ : ∀ μ', Sv μ0 μ' → (∀ c i, ¬ (c = 16 ∧ i = 6) → ¬ (43 ≤ c ∧ c ≤ 53) → μ' c i = μ c i) → TW μ' → a1 < μ' 16 6 → Q (.inl 0) μ') : qmw (d + 3) 67 [(.inr (.inr (.inl (16)))), (.inl (a1))] μ Q := by
  have hr0 := sa_wr h.1
  rw [e67]
  refine qup 11 (P := fun k => ∀ ν, ν 16 6 = k → Sv μ0 ν → (∀ c i, ¬ (c = 16 ∧ i = 6) → ¬ (43 ≤ c ∧ c ≤ 53) → ν c i = μ c i) → TW ν → qW (d + 2) 67 Q 0 [some (.inr (.inr (.inl (16)))), some (.inl (a1))] [] ν) (fun k ih hB ν ek hm fr tw => ?_) _ hr0.2 _ rfl h (fun _ _ _ _ => rfl) hw
  have hr := sa_wr hm.1
  rw [g67_0, ek]
  refine ⟨fun q => hQ _ hm fr tw (by rw [ek]; exact q), fun q => ⟨fun q2 => by omega, fun q2 => ?_⟩⟩
  have e9 : k = (((k - 1).toNat : Nat) : Int) + 1 := by omega
  have key : qmw (d + 2) 72 [(.inr (.inr (.inl (16)))), (.inl ((((k - 1).toNat : Nat) : Int) + 1))] ν (fun _ ν => qW (d + 2) 67 Q 25 [some (.inr (.inr (.inl (16)))), some (.inl (a1))] [] ν) := by
    refine x72 (kk := (k - 1).toNat) (by omega) hm (fun s q3 q4 => tw (k - 1).toNat (by omega) s q3 q4) (fun μ' k1 k2 k3 => ?_)
    have e16 : μ' 16 6 = k := by
      rw [k2 _ _ (by omega)]
      exact ek
    rw [g67_25, e16, q32_id (z := k + 1) (by omega) (by omega)]
    refine ih (k + 1) (by omega) (by omega) _ (by rw [qu_same]) (Sv_u k1 (by omega) (by omega) (by intros; omega) (by intros; omega) (by intros; omega)) (fun c i q5 q6 => ?_) (fun j q5 s q6 q7 => ?_)
    · rw [qu_ne q5, k2 _ _ (by omega)]
      exact fr c i q5 q6
    · rw [qu_same] at q5
      rw [qu_cell (by omega)]
      by_cases e8 : j = (k - 1).toNat + 1
      · subst e8
        rw [show (43 : Int) + (((k - 1).toNat + 1 : Nat) : Int) = 44 + (((k - 1).toNat : Nat) : Int) by omega]
        exact k3 s q6 q7
      · rw [k2 _ _ (by omega)]
        exact tw j (by omega) s q6 q7
  rw [← e9] at key
  exact key
theorem x66 {μ0 : qM} {d : Nat} {Q : qV → qM → Prop} {μ : qM} {a1 : Int} (ha : a1 ≤ 10) (h : Sv μ0 μ) (hw : TD μ) (hQ : ∀ μ', Sv μ0 μ' → (∀ c i, ¬ (c = 16 ∧ i = 5) → ¬ (19 ≤ c ∧ c ≤ 41) → μ' c i = μ c i) → TD μ' → a1 < μ' 16 5 → Q (.inl 0) μ') : qmw (d + 3) 66 [(.inr (.inr (.inl (16)))), (.inl (a1))] μ Q := by
  have hr0 := sa_dr h.1
  rw [e66]
  refine qup 11 (P := fun k => ∀ ν, ν 16 5 = k → Sv μ0 ν → (∀ c i, ¬ (c = 16 ∧ i = 5) → ¬ (19 ≤ c ∧ c ≤ 41) → ν c i = μ c i) → TD ν → qW (d + 2) 66 Q 0 [some (.inr (.inr (.inl (16)))), some (.inl (a1))] [] ν) (fun k ih hB ν ek hm fr tw => ?_) _ hr0.2 _ rfl h (fun _ _ _ _ => rfl) hw
  have hr := sa_dr hm.1
  rw [g66_0, ek]
  refine ⟨fun q => hQ _ hm fr tw (by rw [ek]; exact q), fun q => ⟨fun q2 => by omega, fun q2 => ?_⟩⟩
  have e9 : k = (((k - 1).toNat : Nat) : Int) + 1 := by omega
  have key : qmw (d + 2) 73 [(.inr (.inr (.inl (16)))), (.inl ((((k - 1).toNat : Nat) : Int) + 1))] ν (fun _ ν => qW (d + 2) 66 Q 25 [some (.inr (.inr (.inl (16)))), some (.inl (a1))] [] ν) := by
    refine x73 (kk := (k - 1).toNat) (by omega) hm tw.1 (fun s q3 q4 => tw.2 (k - 1).toNat (by omega) s q3 q4) (fun μ' k1 k2 k3 => ?_)
    have e16 : μ' 16 5 = k := by
      rw [k2 _ _ (by omega) (by omega)]
      exact ek
    have e17 : ∀ v, (qu μ' 16 5 v) 17 = ν 17 := fun v => by
      funext i
      rw [qu_cell (by decide), k2 _ _ (by omega) (by omega)]
    rw [g66_25, e16, q32_id (z := k + 1) (by omega) (by omega)]
    refine ih (k + 1) (by omega) (by omega) _ (by rw [qu_same]) (Sv_u k1 (by omega) (by omega) (by intros; omega) (by intros; omega) (by intros; omega)) (fun c i q5 q6 => ?_) ⟨?_, fun j q5 s q6 q7 => ?_⟩
    · rw [qu_ne q5, k2 _ _ (by omega) (by omega)]
      exact fr c i q5 q6
    · rw [e17]
      exact tw.1
    · rw [qu_same] at q5
      rw [e17, qu_cell (by omega), qu_cell (by omega)]
      by_cases e8 : j = (k - 1).toNat + 1
      · subst e8
        rw [show (19 : Int) + (((k - 1).toNat + 1 : Nat) : Int) = 20 + (((k - 1).toNat : Nat) : Int) by omega, show (31 : Int) + (((k - 1).toNat + 1 : Nat) : Int) = 32 + (((k - 1).toNat : Nat) : Int) by omega]
        exact k3 s q6 q7
      · rw [k2 _ _ (by omega) (by omega), k2 _ _ (by omega) (by omega)]
        exact tw.2 j (by omega) s q6 q7
  rw [← e9] at key
  exact key
/-- the tables, whatever they were last used for -/
def RTab (μ : qM) : Prop := TW μ ∧ (μ 19 0 = 0 ∧ μ 31 0 = 0) ∧ (μ 16 4 = -2 ∨ (-1 ≤ μ 16 4 ∧ μ 16 4 < μ 9 5 ∧ (∀ p : Int, 0 ≤ p → p ≤ 20 → μ 17 p = dueB (bC μ) (μ 16 4) p) ∧ TD μ))
/-- the tables are those of the rule r -/
def TU (μ : qM) (r : Int) : Prop := TW μ ∧ (μ 19 0 = 0 ∧ μ 31 0 = 0) ∧ μ 16 4 = r ∧ (∀ p : Int, 0 ≤ p → p ≤ 20 → μ 17 p = dueB (bC μ) r p) ∧ TD μ
theorem x64 {μ0 : qM} {d : Nat} {Q : qV → qM → Prop} {μ : qM} {a2 : Int} (h : Sv μ0 μ) (hb : ∀ i, 0 ≤ i → i < μ 9 5 → RGf (bC μ) i) (hT : RTab μ) (h1 : -1 ≤ a2) (h2 : a2 < μ 9 5) (hQ : ∀ μ', Sv μ0 μ' → (∀ c i, ¬ c = 16 → ¬ c = 17 → μ' c i = μ c i) → TU μ' a2 → Q (.inl 0) μ') : qmw (d + 2) 64 [(.inr (.inr (.inl (16)))), (.inr (.inr (.inl (9)))), (.inl (a2))] μ Q := by
  obtain ⟨tw, tz, tr⟩ := hT
  rw [e64, g64_0]
  refine ⟨fun q => ?_, fun q => ?_⟩
  · have h2' : Sv μ0 (qu (qu μ 16 4 a2) 16 5 1) := by
      refine Sv_u ?_ (by omega) (by omega) (by intros; omega) (by intros; omega) (by intros; omega)
      refine Sv_u ?_ (by omega) (by omega) (by intros; omega) (by intros; omega) (by intros; omega)
      exact h
    refine qup 21 (P := fun i => ∀ ν, Sv μ0 ν → 0 ≤ i → (∀ c j, ¬ (c = 16 ∧ (j = 4 ∨ j = 5)) → ¬ c = 17 → ν c j = μ c j) → ν 16 4 = a2 → ν 16 5 = 1 → (∀ p : Int, 0 ≤ p → p < i → ν 17 p = dueB (bC μ) a2 p) → qW (d + 1) 64 Q 21 [some (.inr (.inr (.inl (16)))), some (.inr (.inr (.inl (9)))), some (.inl (a2)), some (.inl (i))] [] ν) (fun i ih hB ν hm h0 fr e4 e5 hp => ?_) 0 (by omega) _ h2' (by omega) (fun c j k1 k2 => by rw [qu_ne (by omega), qu_ne (by omega)]) (by rw [qu_ne (by omega), qu_same]) (by rw [qu_same]) (fun p q1 q2 => by omega)
    have bE : ∀ c j, 0 ≤ c → c ≤ 4 → bC ν c j = bC μ c j := fun c j k1 k2 => fr _ _ (by omega) (by omega)
    have dE : ∀ p, dueB (bC ν) a2 p = dueB (bC μ) a2 p := fun p => by
      unfold dueB
      rw [bE 1 _ (by decide) (by decide), bE 2 _ (by decide) (by decide), bE 3 _ (by decide) (by decide), bE 4 _ (by decide) (by decide)]
    have e95 : ν 9 5 = μ 9 5 := fr _ _ (by omega) (by omega)
    have hbν : ∀ i, 0 ≤ i → i < ν 9 5 → RGf (bC ν) i := fun i k1 k2 => by
      unfold RGf
      rw [bE 0 _ (by decide) (by decide), bE 1 _ (by decide) (by decide), bE 2 _ (by decide) (by decide), bE 3 _ (by decide) (by decide), bE 4 _ (by decide) (by decide)]
      exact hb i k1 (by omega)
    rw [g64_21]
    refine ⟨fun q3 => hQ _ hm (fun c j k1 k2 => fr c j (by omega) k2) ⟨fun k k1 s k2 k3 => ?_, ⟨?_, ?_⟩, e4, fun p k1 k2 => ?_, fun p k1 k2 => ?_, fun k k1 s k2 k3 => ?_⟩, fun q3 => x49 hm.1 h1 (by omega) hbν ?_⟩
    · rw [fr 16 6 (by omega) (by omega)] at k1
      rw [fr _ _ (by omega) (by omega)]
      exact tw k k1 s k2 k3
    · rw [fr _ _ (by omega) (by omega)]
      exact tz.1
    · rw [fr _ _ (by omega) (by omega)]
      exact tz.2
    · rw [dE, hp p k1 (by omega)]
    · rw [hp p k1 (by omega)]
      exact dueB_r (fun k3 => hb a2 k3 h2) k1 (by omega)
    · have ek : k = 0 := by omega
      subst ek
      have es : s = 0 := by omega
      subst es
      refine ⟨?_, ?_⟩
      · show ν 19 0 = _
        rw [fr _ _ (by omega) (by omega), mnD]
        exact tz.1
      · show ν 31 0 = _
        rw [fr _ _ (by omega) (by omega), mxD]
        exact tz.2
    · rw [g64_38, dE, q32_id (z := i + 1) (by omega) (by omega)]
      refine ⟨by omega, ih _ (by omega) (by omega) _ ?_ (by omega) (fun c j k1 k2 => ?_) ?_ ?_ (fun p k1 k2 => ?_)⟩
      · refine Sv_u ?_ (by omega) (by omega) (by intros; omega) (by intros; omega) (by intros; omega)
        exact hm
      · rw [qu_cell k2]
        exact fr c j k1 k2
      · rw [qu_cell (by decide)]
        exact e4
      · rw [qu_cell (by decide)]
        exact e5
      · by_cases e9 : p = i
        · rw [e9, qu_same]
        · rw [qu_ne (by omega)]
          exact hp p k1 (by omega)
  · rcases tr with tr | ⟨t1, t2, t3, t4⟩
    · omega
    · rw [q] at t3
      exact hQ _ h (fun _ _ _ _ => rfl) ⟨tw, tz, q, t3, t4⟩
theorem x68 {d : Nat} {Q : qV → qM → Prop} {μ : qM} {a1 a2 : Int} (hd : a1 < μ 16 5) (hd2 : μ 16 5 ≤ 11) (h0 : 0 ≤ a1) (h1 : 0 ≤ a2) (h2 : a2 ≤ 20 * a1) (hT : TD μ) (hQ : Q (.inl (mnD (μ 17) a1.toNat a2)) μ) : qmw (d + 2) 68 [(.inr (.inr (.inl (16)))), (.inl (a1)), (.inl (a2))] μ Q := by
  have t := qra18 (k := a1) h0 (by omega)
  have v := (hT.2 a1.toNat (by omega) a2 h1 (by omega)).1
  rw [show ((a1.toNat : Nat) : Int) = a1 by omega] at v
  rw [e68, g68_0, E71, g68_9, q32_id (z := 20 * a1) (by omega) (by omega), if_pos (by omega), t.1, t.2.1, t.2.2, qif_r, v]
  exact ⟨fun q => absurd q (by decide), fun _ => ⟨by omega, by omega, hQ⟩⟩
theorem x69 {d : Nat} {Q : qV → qM → Prop} {μ : qM} {a1 a2 : Int} (hd : a1 < μ 16 5) (hd2 : μ 16 5 ≤ 11) (h0 : 0 ≤ a1) (h1 : 0 ≤ a2) (h2 : a2 ≤ 20 * a1) (hT : TD μ) (hQ : Q (.inl (mxD (μ 17) a1.toNat a2)) μ) : qmw (d + 2) 69 [(.inr (.inr (.inl (16)))), (.inl (a1)), (.inl (a2))] μ Q := by
  have t := qra30 (k := a1) h0 (by omega)
  have v := (hT.2 a1.toNat (by omega) a2 h1 (by omega)).2
  rw [show ((a1.toNat : Nat) : Int) = a1 by omega] at v
  rw [e69, g69_0, E71, g69_9, q32_id (z := 20 * a1) (by omega) (by omega), if_pos (by omega), t.1, t.2.1, t.2.2, qif_r, v]
  exact ⟨fun q => absurd q (by decide), fun _ => ⟨by omega, by omega, hQ⟩⟩
theorem x70 {d : Nat} {Q : qV → qM → Prop} {μ : qM} {a1 a2 : Int} (hd : a1 < μ 16 6) (hd2 : μ 16 6 ≤ 11) (h0 : 0 ≤ a1) (h1 : 0 ≤ a2) (h2 : a2 ≤ 20 * a1) (hT : TW μ) (hQ : Q (.inl (Wm a1.toNat a2)) μ) : qmw (d + 2) 70 [(.inr (.inr (.inl (16)))), (.inl (a1)), (.inl (a2))] μ Q := by
  have t := qra42 (k := a1) h0 (by omega)
  have v := hT a1.toNat (by omega) a2 h1 (by omega)
  rw [show ((a1.toNat : Nat) : Int) = a1 by omega] at v
  rw [e70, g70_0, E71, g70_9, q32_id (z := 20 * a1) (by omega) (by omega), if_pos (by omega), t.1, t.2.1, t.2.2, qif_r, v]
  exact ⟨fun q => absurd q (by decide), fun _ => ⟨by omega, by omega, hQ⟩⟩
