/-! EXACT: the line of calls, a day -/
def cwt (m : Int → Int) : Nat → Int → Int → Int
  | 0, _, _ => 0
  | k + 1, i, s => if s + m i ≤ 60 then cwt m k (i + 1) (s + m i) else 1 + cwt m k (i + 1) (m i)
def hrd (m : Int → Int) : Nat → Int → Int → Int
  | 0, i, _ => i
  | k + 1, i, s => if s + m i ≤ 60 then hrd m k (i + 1) (s + m i) else i
def mwt (m : Int → Int) (sz i : Int) : Int := match (sz - i).toNat with
  | 0 => 0
  | k + 1 => 1 + cwt m k (i + 1) (m i)
theorem mwt_0 {m : Int → Int} {sz i : Int} (h : sz ≤ i) : mwt m sz i = 0 := by
  unfold mwt
  rw [show (sz - i).toNat = 0 by omega]
theorem mwt_s {m : Int → Int} {sz i : Int} {k : Nat} (h : (sz - i).toNat = k + 1) : mwt m sz i = 1 + cwt m k (i + 1) (m i) := by
  unfold mwt
  rw [h]
theorem cwt_mwt (m : Int → Int) (sz : Int) : ∀ (k : Nat) (i s : Int), (sz - i).toNat = k → cwt m k i s = mwt m sz (hrd m k i s) := by
  intro k
  induction k with
  | zero =>
    intro i s h
    rw [cwt, hrd, mwt_0 (by omega)]
  | succ k ih =>
    intro i s h
    by_cases q : s + m i ≤ 60
    · rw [cwt, hrd, if_pos q, if_pos q]
      exact ih _ _ (by omega)
    · rw [cwt, hrd, if_neg q, if_neg q, mwt_s h]
theorem hrd_r (m : Int → Int) : ∀ (k : Nat) (i s : Int), i ≤ hrd m k i s ∧ hrd m k i s ≤ i + k := by
  intro k
  induction k with
  | zero =>
    intro i s
    rw [hrd]
    omega
  | succ k ih =>
    intro i s
    by_cases q : s + m i ≤ 60
    · rw [hrd, if_pos q]
      have := ih (i + 1) (s + m i)
      omega
    · rw [hrd, if_neg q]
      omega
theorem hrd_cg {m m' : Int → Int} : ∀ (k : Nat) (i s : Int), (∀ j, i ≤ j → j < i + k → m j = m' j) → hrd m k i s = hrd m' k i s := by
  intro k
  induction k with
  | zero =>
    intro i s _
    rw [hrd, hrd]
  | succ k ih =>
    intro i s h
    rw [hrd, hrd, h i (by omega) (by omega), ih (i + 1) (s + m' i) (fun j q1 q2 => h j (by omega) (by omega))]
theorem cwt_cg {m m' : Int → Int} : ∀ (k : Nat) (i s : Int), (∀ j, i ≤ j → j < i + k → m j = m' j) → cwt m k i s = cwt m' k i s := by
  intro k
  induction k with
  | zero =>
    intro i s _
    rw [cwt, cwt]
  | succ k ih =>
    intro i s h
    rw [cwt, cwt, h i (by omega) (by omega), ih (i + 1) (s + m' i) (fun j q1 q2 => h j (by omega) (by omega)), ih (i + 1) (m' i) (fun j q1 q2 => h j (by omega) (by omega))]
theorem x39 {d : Nat} {Q : qV → qM → Prop} {μ : qM} (hn : 0 ≤ μ 71 1) (hn2 : μ 71 1 ≤ 40) (hm : ∀ i, 0 ≤ i → i < μ 71 1 → 1 ≤ μ 72 i ∧ μ 72 i ≤ 60) (hQ : Q (.inl (cwt (μ 72) (μ 71 1).toNat 0 0)) μ) : qmw (d + 1) 39 [(.inr (.inr (.inl (71))))] μ Q := by
  rw [e39, g39_0]
  refine qup (μ 71 1) (P := fun i => ∀ x s, 0 ≤ i → 0 ≤ x → x ≤ i → 0 ≤ s → s ≤ 60 → x + cwt (μ 72) (μ 71 1 - i).toNat i s = cwt (μ 72) (μ 71 1).toNat 0 0 → qW d 39 Q 6 [some (.inr (.inr (.inl (71)))), some (.inl (x)), some (.inl (s)), some (.inl (i))] [] μ) (fun i ih hB x s h0 hx hx2 hs hs2 e => ?_) 0 hn 0 0 (by omega) (by omega) (by omega) (by omega) (by omega) (by rw [Int.sub_zero, Int.zero_add])
  rw [g39_6]
  refine ⟨fun q => ?_, fun q => ?_⟩
  · rw [show (μ 71 1 - i).toNat = 0 by omega, cwt, Int.add_zero] at e
    rw [e]
    exact hQ
  · have hmi := hm i h0 q
    rw [q32_id (z := s + μ 72 i) (by omega) (by omega), q32_id (z := x + 1) (by omega) (by omega), q32_id (z := i + 1) (by omega) (by omega)]
    have ek : (μ 71 1 - i).toNat = (μ 71 1 - (i + 1)).toNat + 1 := by omega
    rw [ek, cwt] at e
    refine ⟨⟨h0, by omega⟩, fun q2 => ih _ (by omega) (by omega) _ _ (by omega) hx (by omega) (by omega) q2 ?_, fun q2 => ⟨⟨h0, by omega⟩, ih _ (by omega) (by omega) _ _ (by omega) (by omega) (by omega) (by omega) (by omega) ?_⟩⟩
    · rw [if_pos q2] at e
      exact e
    · rw [if_neg (by omega)] at e
      rw [← e]
      omega
def okCa (a1 a2 : Int) : Prop := 0 ≤ a1 ∧ a1 ≤ 5 ∧ 1 ≤ a2 ∧ a2 ≤ 60
theorem x97 {d : Nat} {Q : qV → qM → Prop} {μ : qM} {a1 a2 : Int} (hS : Safe μ) (hm : ∀ i, 0 ≤ i → i < μ 71 1 → 1 ≤ μ 72 i ∧ μ 72 i ≤ 60) (hQ : ∀ a μ', ((¬ okCa a1 a2 ∧ a = -1 ∧ μ' = μ) ∨ (okCa a1 a2 ∧ 40 ≤ μ 71 1 ∧ a = -3 ∧ μ' = μ) ∨ (okCa a1 a2 ∧ μ 71 1 < 40 ∧ a = cwt (μ' 72) (μ 71 1 + 1).toNat 0 0 ∧ μ' = qu (qu μ 72 (μ 71 1) a2) 71 1 (μ 71 1 + 1))) → Q (.inl a) μ') : qmw (d + 3) 97 [(.inr (.inr (.inl (0)))), (.inl (a1)), (.inl (a2))] μ Q := by
  have hl := sa_line hS
  have no : ¬ okCa a1 a2 → Q (.inl (-1)) μ := fun q => hQ _ _ (Or.inl ⟨q, rfl, rfl⟩)
  unfold okCa at no
  rw [e97, g97_0, E105, g97_4, qbr]
  simp only [E104, g97_14, qbr2]
  refine ⟨fun q => no (by clear no; omega), fun q => ⟨fun q2 => ?_, fun q2 => no (by clear no; omega)⟩⟩
  clear no
  have ok : okCa a1 a2 := by
    unfold okCa
    omega
  rw [e38, g38_0, q32_id (z := μ 71 1 + 1) (by omega) (by omega), g97_30, g97_30]
  refine ⟨fun q3 => ⟨by omega, by omega, fun _ => ?_, fun q => absurd q (by decide)⟩, fun q3 => ⟨by omega, fun q => absurd rfl q, fun _ => hQ _ _ (Or.inr (Or.inl ⟨ok, q3, rfl, rfl⟩))⟩⟩
  have Y := hQ _ _ (Or.inr (Or.inr ⟨ok, q3, rfl, rfl⟩))
  clear hQ
  have e1 : (qu (qu μ 72 (μ 71 1) a2) 71 1 (μ 71 1 + 1)) 71 1 = μ 71 1 + 1 := qu_same _ _ _ _
  have e2 : ∀ i, (qu (qu μ 72 (μ 71 1) a2) 71 1 (μ 71 1 + 1)) 72 i = (qu μ 72 (μ 71 1) a2) 72 i := fun i => qu_cell (by decide) i
  refine x39 (by rw [e1]; omega) (by rw [e1]; omega) (fun i q4 q5 => ?_) ?_
  · rw [e1] at q5
    rw [e2]
    by_cases e : i = μ 71 1
    · rw [e, qu_same]
      omega
    · rw [qu_ne (by omega)]
      exact hm i q4 (by omega)
  · rw [g97_46, e1]
    exact Y
theorem x171 {d : Nat} {Q : qV → qM → Prop} {μ : qM} {a1 : Int} (hS : Safe μ) (h0 : 0 ≤ a1) (h1 : a1 ≤ μ 193 0) (hQ : Q (.inl (hrd (μ 207) (μ 193 0 - a1).toNat a1 0 - a1)) μ) : qmw (d + 1) 171 [(.inr (.inr (.inl (170)))), (.inl (a1))] μ Q := by
  have hc := sa_mcalls hS 0
  rw [e171, g171_0]
  refine qup (μ 193 0 - a1) (P := fun n => ∀ s, 0 ≤ n → 0 ≤ s → s ≤ 60 → hrd (μ 207) (μ 193 0 - (a1 + n)).toNat (a1 + n) s = hrd (μ 207) (μ 193 0 - a1).toNat a1 0 → qW d 171 Q 4 [some (.inr (.inr (.inl (170)))), some (.inl (a1)), some (.inl (n)), some (.inl (s))] [] μ) (fun n ih hB s hn hs hs2 e => ?_) 0 (by omega) _ (by omega) (by omega) (by omega) (by rw [Int.add_zero])
  have hm := sa_mmin hS (a1 + n)
  have end_ : hrd (μ 207) (μ 193 0 - (a1 + n)).toNat (a1 + n) s = a1 + n → Q (.inl n) μ := fun q => by
    rw [← e, q, show a1 + n - a1 = n by omega] at hQ
    exact hQ
  rw [g171_4, q32_id (z := a1 + n) (by omega) (by omega), q32_id (z := s + μ 207 (a1 + n)) (by omega) (by omega), q32_id (z := n + 1) (by omega) (by omega)]
  refine ⟨by omega, fun q => end_ ?_, fun q => ?_⟩
  · rw [show (μ 193 0 - (a1 + n)).toNat = 0 by omega, hrd]
  · have ek : (μ 193 0 - (a1 + n)).toNat = (μ 193 0 - (a1 + (n + 1))).toNat + 1 := by omega
    rw [ek, hrd] at e end_
    refine ⟨⟨by omega, by omega⟩, fun q2 => end_ (by rw [if_neg (by omega)]), fun q2 => ⟨⟨by omega, by omega⟩, ih _ (by omega) (by omega) _ (by omega) (by omega) q2 ?_⟩⟩
    rw [if_pos q2, Int.add_assoc] at e
    exact e
theorem x172 {d : Nat} {Q : qV → qM → Prop} {μ : qM} {a1 a2 : Int} (hS : Safe μ) (hQ : ∀ a μ', ((¬ okCa a1 a2 ∧ a = -1 ∧ μ' = μ) ∨ (okCa a1 a2 ∧ 40 ≤ μ 193 0 ∧ a = -3 ∧ μ' = μ) ∨ (okCa a1 a2 ∧ μ 193 0 < 40 ∧ a = cwt (μ' 207) (μ 193 0 + 1).toNat 0 0 ∧ μ' = qu (qu μ 207 (μ 193 0) a2) 193 0 (μ 193 0 + 1))) → Q (.inl a) μ') (hm : ∀ i, 0 ≤ i → i < μ 193 0 → 1 ≤ μ 207 i) : qmw (d + 3) 172 [(.inr (.inr (.inl (170)))), (.inl (a1)), (.inl (a2))] μ Q := by
  have hc := sa_mcalls hS 0
  have no : ¬ okCa a1 a2 → Q (.inl (-1)) μ := fun q => hQ _ _ (Or.inl ⟨q, rfl, rfl⟩)
  unfold okCa at no
  rw [e172, g172_0, E133, g172_4, qbr2]
  simp only [E117, g172_14, qbr]
  refine ⟨fun q => no (by clear no; omega), fun q => ⟨fun q2 => ?_, fun q2 => no (by clear no; omega)⟩⟩
  clear no
  have ok : okCa a1 a2 := by
    unfold okCa
    omega
  rw [q32_id (z := μ 193 0 + 1) (by omega) (by omega)]
  refine ⟨by omega, fun q3 => ?_, fun q3 => hQ _ _ (Or.inr (Or.inl ⟨ok, by omega, rfl, rfl⟩))⟩
  have Y := hQ _ _ (Or.inr (Or.inr ⟨ok, by omega, rfl, rfl⟩))
  clear hQ
  have m : Sg μ (qu (qu μ 207 (μ 193 0) a2) 193 0 (μ 193 0 + 1)) := by
    refine Sg_m (Sg_m (Sg_rf hS) ?_ ?_ ?_ ?_ ?_ ?_ ?_) ?_ ?_ ?_ ?_ ?_ ?_ ?_ <;> intros <;> omega
  have e1 : (qu (qu μ 207 (μ 193 0) a2) 193 0 (μ 193 0 + 1)) 193 0 = μ 193 0 + 1 := qu_same _ _ _ _
  have hm1 : ∀ i, 0 ≤ i → i < (qu (qu μ 207 (μ 193 0) a2) 193 0 (μ 193 0 + 1)) 193 0 → 1 ≤ (qu (qu μ 207 (μ 193 0) a2) 193 0 (μ 193 0 + 1)) 207 i := fun i q4 q5 => by
    rw [e1] at q5
    rw [qu_cell (by decide)]
    by_cases e : i = μ 193 0
    · rw [e, qu_same]
      omega
    · rw [qu_ne (by omega)]
      exact hm i q4 (by omega)
  have Y2 : Q (.inl (cwt ((qu (qu μ 207 (μ 193 0) a2) 193 0 (μ 193 0 + 1)) 207) ((qu (qu μ 207 (μ 193 0) a2) 193 0 (μ 193 0 + 1)) 193 0).toNat 0 0)) (qu (qu μ 207 (μ 193 0) a2) 193 0 (μ 193 0 + 1)) := by
    rw [e1]
    exact Y
  clear Y
  have Y := Y2
  clear Y2
  refine ⟨by omega, by omega, by omega, by omega, ?_⟩
  clear hm e1
  generalize qu (qu μ 207 (μ 193 0) a2) 193 0 (μ 193 0 + 1) = μ1 at m hm1 Y
  have hc1 := sa_mcalls m.1 0
  refine x171 m.1 (by omega) hc1.1 ?_
  rw [g172_62, Int.sub_zero, Int.sub_zero]
  have hr := hrd_r (μ1 207) (μ1 193 0).toNat 0 0
  rw [cwt_mwt (μ1 207) (μ1 193 0) (μ1 193 0).toNat 0 0 (by omega)] at Y
  refine qup (μ1 193 0) (P := fun i => ∀ x, 0 ≤ i → 0 ≤ x → x ≤ i → x + mwt (μ1 207) (μ1 193 0) i = mwt (μ1 207) (μ1 193 0) (hrd (μ1 207) (μ1 193 0).toNat 0 0) → qW (d + 2) 172 Q 64 [some (.inr (.inr (.inl (170)))), some (.inl (a1)), some (.inl (a2)), some (.inl (x)), some (.inl (i))] [] μ1) (fun i ih hB x hi hx hx2 e => ?_) (hrd (μ1 207) (μ1 193 0).toNat 0 0) (by omega) 0 (by omega) (by omega) (by omega) (by omega)
  rw [g172_64]
  refine ⟨by omega, fun q4 => ?_, fun q4 => x171 m.1 hi hB ?_⟩
  · rw [mwt_0 q4, Int.add_zero] at e
    rw [e]
    exact Y
  · have ek : (μ1 193 0 - i).toNat = (μ1 193 0 - (i + 1)).toNat + 1 := by omega
    have hr2 := hrd_r (μ1 207) (μ1 193 0 - (i + 1)).toNat (i + 1) (μ1 207 i)
    have hmm := sa_mmin m.1 i
    have hm2 := hm1 i hi q4
    have eh : hrd (μ1 207) (μ1 193 0 - i).toNat i 0 = hrd (μ1 207) (μ1 193 0 - (i + 1)).toNat (i + 1) (μ1 207 i) := by
      rw [ek, hrd, if_pos (by omega), Int.zero_add]
    rw [eh, g172_83]
    rw [mwt_s ek, cwt_mwt (μ1 207) (μ1 193 0) _ _ _ rfl] at e
    clear Y hm1
    generalize hrd (μ1 207) (μ1 193 0 - (i + 1)).toNat (i + 1) (μ1 207 i) = z at *
    rw [show i + (z - i) = z by omega, q32_id (z := z) (by omega) (by omega), q32_id (z := x + 1) (by omega) (by omega)]
    exact ih _ (by omega) (by omega) _ (by omega) (by omega) (by omega) (by omega)
/-- a row whose first h elements are gone: n are left -/
def qsf (μ : qM) (c h n : Int) : qM := fun c' i' => if c' = c ∧ 0 ≤ i' ∧ i' < n then μ c (i' + h) else μ c' i'
theorem qsf_ne {μ : qM} {c h n c' : Int} (q : ¬ c' = c) (i : Int) : qsf μ c h n c' i = μ c' i := by
  unfold qsf
  rw [if_neg (fun e => q e.1)]
theorem qsf_in {μ : qM} {c h n i : Int} (q : 0 ≤ i) (q2 : i < n) : qsf μ c h n c i = μ c (i + h) := by
  unfold qsf
  rw [if_pos ⟨rfl, q, q2⟩]
theorem qsf_out {μ : qM} {c h n i : Int} (q : ¬ (0 ≤ i ∧ i < n)) : qsf μ c h n c i = μ c i := by
  unfold qsf
  rw [if_neg (fun e => q e.2)]
theorem qsf_0 {μ : qM} {c h n : Int} (q : n ≤ 0) : qsf μ c h n = μ := by
  funext c' i'
  unfold qsf
  rw [if_neg (by omega)]
theorem qsf_s {μ : qM} {c h i : Int} (q : h ≤ i) (q0 : 0 ≤ h) : qu (qsf μ c h (i - h)) c (i - h) (qsf μ c h (i - h) c i) = qsf μ c h (i + 1 - h) := by
  rw [qsf_out (by omega)]
  funext c' i'
  by_cases e : c' = c ∧ i' = i - h
  · rw [e.1, e.2, qu_same, qsf_in (by omega) (by omega), show i - h + h = i by omega]
  · rw [qu_ne e]
    unfold qsf
    by_cases e2 : c' = c ∧ 0 ≤ i' ∧ i' < i - h
    · rw [if_pos e2, if_pos (by omega)]
    · rw [if_neg e2, if_neg (by omega)]
theorem x40 {d : Nat} {Q : qV → qM → Prop} {μ : qM} (hn : 0 ≤ μ 71 1) (hn2 : μ 71 1 ≤ 40) (hm : ∀ i, 0 ≤ i → i < μ 71 1 → 1 ≤ μ 72 i ∧ μ 72 i ≤ 60) (hQ : ∀ h, h = hrd (μ 72) (μ 71 1).toNat 0 0 → Q (.inl h) (qu (qsf μ 72 h (μ 71 1 - h)) 71 1 (μ 71 1 - h))) : qmw (d + 1) 40 [(.inr (.inr (.inl (71))))] μ Q := by
  rw [e40, g40_0]
  have hr := hrd_r (μ 72) (μ 71 1).toNat 0 0
  have key : ∀ s, qW d 40 Q 42 [some (.inr (.inr (.inl (71)))), some (.inl (hrd (μ 72) (μ 71 1).toNat 0 0)), some (.inl (s)), some (.inl (hrd (μ 72) (μ 71 1).toNat 0 0))] [] μ := fun s => by
    have Y := hQ _ rfl
    clear hQ
    generalize hrd (μ 72) (μ 71 1).toNat 0 0 = h at *
    refine qup (μ 71 1) (P := fun i => ∀ ν, h ≤ i → ν = qsf μ 72 h (i - h) → qW d 40 Q 42 [some (.inr (.inr (.inl (71)))), some (.inl (h)), some (.inl (s)), some (.inl (i))] [] ν) (fun i ih hB ν hi hm => ?_) h (by omega) _ (by omega) (qsf_0 (by omega)).symm
    have e1 : ν 71 1 = μ 71 1 := by
      rw [hm, qsf_ne (by decide)]
    rw [g40_42, e1, q32_id (z := i - h) (by omega) (by omega), q32_id (z := i + 1) (by omega) (by omega), q32_id (z := μ 71 1 - h) (by omega) (by omega)]
    refine ⟨fun q => ?_, fun q => ⟨by omega, by omega, ih _ (by omega) (by omega) _ (by omega) ?_⟩⟩
    · rw [hm, show i = μ 71 1 by omega]
      exact Y
    · rw [hm]
      exact qsf_s hi (by omega)
  clear hQ
  refine qup (μ 71 1) (P := fun n => ∀ s, 0 ≤ n → 0 ≤ s → s ≤ 60 → hrd (μ 72) (μ 71 1 - n).toNat n s = hrd (μ 72) (μ 71 1).toNat 0 0 → qW d 40 Q 4 [some (.inr (.inr (.inl (71)))), some (.inl (n)), some (.inl (s)), none] [] μ) (fun n ih hB s hn hs hs2 e => ?_) 0 (by omega) _ (by omega) (by omega) (by omega) (by rw [Int.sub_zero])
  rw [g40_4]
  have fin : hrd (μ 72) (μ 71 1 - n).toNat n s = n → qW d 40 Q 42 [some (.inr (.inr (.inl (71)))), some (.inl (n)), some (.inl (s)), some (.inl (n))] [] μ := fun q => by
    have k := key s
    rw [← e, q] at k
    exact k
  refine ⟨fun q => fin ?_, fun q => ?_⟩
  · rw [show (μ 71 1 - n).toNat = 0 by omega, hrd]
  · have hmi := hm n hn q
    rw [q32_id (z := n + 1) (by omega) (by omega), q32_id (z := s + μ 72 n) (by omega) (by omega)]
    have ek : (μ 71 1 - n).toNat = (μ 71 1 - (n + 1)).toNat + 1 := by omega
    rw [ek, hrd] at e fin
    refine ⟨⟨hn, by omega⟩, fun q2 => fin (by rw [if_neg (by omega)]), fun q2 => ⟨⟨hn, by omega⟩, ih _ (by omega) (by omega) _ (by omega) (by omega) q2 ?_⟩⟩
    rw [if_pos q2] at e
    exact e
theorem x98 {d : Nat} {Q : qV → qM → Prop} {μ : qM} (hS : Safe μ) (hm : ∀ i, 0 ≤ i → i < μ 71 1 → 1 ≤ μ 72 i ∧ μ 72 i ≤ 60) (hQ : ∀ a μ', ((μ 58 3 < 200 ∧ a = hrd (μ 72) (μ 71 1).toNat 0 0 ∧ μ' = qu (qsf (qu μ 58 3 (μ 58 3 + 1)) 72 a (μ 71 1 - a)) 71 1 (μ 71 1 - a)) ∨ (200 ≤ μ 58 3 ∧ a = -2 ∧ μ' = μ)) → Q (.inl a) μ') : qmw (d + 2) 98 [(.inr (.inr (.inl (0))))] μ Q := by
  have ht := sa_today hS
  have hl := sa_line hS
  rw [e98, g98_0, q32_id (z := μ 58 3 + 1) (by omega) (by omega)]
  refine ⟨fun q => x40 ?_ ?_ ?_ (fun h e => ?_), fun q => hQ _ _ (Or.inr ⟨q, rfl, rfl⟩)⟩
  · rw [qu_cell (by decide)]
    exact hl.1
  · rw [qu_cell (by decide)]
    exact hl.2
  · intro i q1 q2
    rw [qu_cell (by decide)] at q2 ⊢
    exact hm i q1 q2
  · have e2 : (qu μ 58 3 (μ 58 3 + 1)) 71 1 = μ 71 1 := qu_cell (by decide) _
    have e3 : (qu μ 58 3 (μ 58 3 + 1)) 72 = μ 72 := by
      funext i
      exact qu_cell (by decide) _
    rw [e2, e3] at e
    rw [g98_39, e2]
    exact hQ _ _ (Or.inl ⟨q, e, rfl⟩)
theorem x173 {d : Nat} {Q : qV → qM → Prop} {μ : qM} (hS : Safe μ) (hQ : ∀ a μ', ((μ 170 1 < 200 ∧ a = hrd (μ 207) (μ 193 0).toNat 0 0 ∧ μ' = qu (qu (qsf μ 207 a (μ 193 0 - a)) 193 0 (μ 193 0 - a)) 170 1 (μ 170 1 + 1)) ∨ (200 ≤ μ 170 1 ∧ a = -2 ∧ μ' = μ)) → Q (.inl a) μ') : qmw (d + 2) 173 [(.inr (.inr (.inl (170))))] μ Q := by
  have ht := sa_mtoday hS
  have hc := sa_mcalls hS 0
  rw [e173, g173_0]
  refine ⟨fun q => x171 hS (by omega) hc.1 ?_, fun q => hQ _ _ (Or.inr ⟨by omega, rfl, rfl⟩)⟩
  have hr := hrd_r (μ 207) (μ 193 0).toNat 0 0
  have Y := hQ _ _ (Or.inl ⟨by omega, rfl, rfl⟩)
  clear hQ
  rw [g173_18, Int.sub_zero, Int.sub_zero]
  generalize hrd (μ 207) (μ 193 0).toNat 0 0 = h at *
  refine qup (μ 193 0) (P := fun i => ∀ ν, h ≤ i → ν = qsf μ 207 h (i - h) → qW (d + 1) 173 Q 21 [some (.inr (.inr (.inl (170)))), some (.inl (h)), some (.inl (i))] [] ν) (fun i ih hB ν hi hm => ?_) h (by omega) _ (by omega) (qsf_0 (by omega)).symm
  have e1 : ν 193 0 = μ 193 0 := by
    rw [hm, qsf_ne (by decide)]
  have e2 : ν 170 1 = μ 170 1 := by
    rw [hm, qsf_ne (by decide)]
  rw [g173_21, e1, e2, q32_id (z := i - h) (by omega) (by omega), q32_id (z := i + 1) (by omega) (by omega), q32_id (z := μ 193 0 - h) (by omega) (by omega), q32_id (z := μ 170 1 + 1) (by omega) (by omega)]
  refine ⟨by omega, fun q3 => ⟨by omega, by omega, ?_⟩, fun q3 => ⟨by omega, by omega, ih _ (by omega) (by omega) _ (by omega) ?_⟩⟩
  · rw [hm, show i = μ 193 0 by omega]
    exact Y
  · rw [hm]
    exact qsf_s hi (by omega)
