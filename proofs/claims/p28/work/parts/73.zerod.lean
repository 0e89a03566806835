theorem qμi_0 {c : Int} (i : Int) (h1 : ¬ c = 16) (h2 : ¬ c = 43) (h3 : ¬ (74 ≤ c ∧ c < 140 ∧ (c - 74) % 11 = 3)) (h4 : ¬ c = 179) : qμi c i = 0 := by
  unfold qμi
  rw [if_neg (fun q => h1 q.1), if_neg (fun q => h1 q.1), if_neg (fun q => h2 q.1), if_neg h3, if_neg h4]
theorem RA_0 : RA qμi := by
  have ln : ∀ c b, (c = 58 ∨ c = 140 ∨ c = 155) → RLn qμi c b := fun c b q => by
    refine ⟨?_, fun i _ _ => ?_, fun i _ q2 => ?_⟩
    · rw [qμi_0 _ (by omega) (by omega) (by omega) (by omega), qμi_0 _ (by omega) (by omega) (by omega) (by omega)]
    · rw [qμi_0 _ (by omega) (by omega) (by omega) (by omega), qμi_0 _ (by omega) (by omega) (by omega) (by omega)]
    · rw [qμi_0 _ (by omega) (by omega) (by omega) (by omega)] at q2
      omega
  refine ⟨qμi_safe, by unfold RToday; decide, fun p f a q1 q2 q3 q4 q5 q6 => ?_, fun p a i q1 q2 q3 q4 q5 q6 => ?_, fun p q1 q2 => ⟨?_, fun k q3 q4 => ⟨?_, ?_, ?_, ?_⟩⟩, ln 58 0 (by decide), ln 140 1 (by decide), ln 155 2 (by decide)⟩
  · rw [qμi_0 _ (by omega) (by omega) (by omega) (by omega), qμi_0 _ (by omega) (by omega) (by omega) (by omega)]
    decide
  · rw [qμi_0 _ (by omega) (by omega) (by omega) (by omega), qμi_0 _ (by omega) (by omega) (by omega) (by omega)]
  all_goals rw [qμi_0 _ (by omega) (by omega) (by omega) (by omega), qμi_0 _ (by omega) (by omega) (by omega) (by omega)]
theorem R2_0 : R2 qμi := by
  refine ⟨RA_0, ⟨?_, fun i q1 q2 => ?_⟩, ?_, fun c i q1 q2 q3 q4 => ?_, fun i q1 q2 => ?_⟩
  · rw [qμi_0 _ (by omega) (by omega) (by omega) (by omega), qμi_0 _ (by omega) (by omega) (by omega) (by omega)]
  · rw [qμi_0 _ (by omega) (by omega) (by omega) (by omega)] at q2
    omega
  · rw [qμi_0 _ (by omega) (by omega) (by omega) (by omega), qμi_0 _ (by omega) (by omega) (by omega) (by omega)]
  · rw [qμi_0 _ (by omega) (by omega) (by omega) (by omega)] at q4
    omega
  · rw [qμi_0 _ (by omega) (by omega) (by omega) (by omega)] at q2
    omega
theorem qμi_sl {c : Int} (i : Int) (h : 74 ≤ c ∧ c < 140 ∧ (c - 74) % 11 = 3) : qμi c i = -1 := by
  unfold qμi
  rw [if_neg (by omega), if_neg (by omega), if_neg (by omega), if_pos h]
theorem qμi_179 (i : Int) : qμi 179 i = -9 := by
  unfold qμi
  rw [if_neg (by omega), if_neg (by omega), if_neg (by omega), if_neg (by omega), if_pos rfl]
theorem R3_0 : R3 qμi := by
  have n0 : ∀ p, 0 ≤ p → p ≤ 5 → qμi (74 + 11 * p) 10 = 0 := fun p q1 q2 => qμi_0 _ (by omega) (by omega) (by omega) (by omega)
  have fo : ∀ p f, 0 ≤ p → p ≤ 5 → ∀ i, 0 ≤ i → ¬ foC qμi (74 + 11 * p) 200 f = i := fun p f q1 q2 i qi => fo_no qμi_safe q1 q2 qi (fun y => by rw [n0 p q1 q2] at y; omega)
  refine ⟨R2_0, fun p f q1 q2 q3 q4 => ⟨Or.inl ⟨qμi_sl _ (by omega), qμi_179 _⟩, ?_, ?_⟩, fun p q1 q2 => ⟨fun i q3 q4 => ?_, fun i j q3 q4 q5 => ?_⟩, fun p q1 q2 => ⟨fun i q3 q4 => ?_, fun f q3 q4 q5 => ?_⟩, fun k q1 s q2 q3 => ?_, by decide, Or.inl (by decide)⟩
  · rw [qμi_0 _ (by omega) (by omega) (by omega) (by omega), qμi_0 _ (by omega) (by omega) (by omega) (by omega)]
  · rw [qμi_0 _ (by omega) (by omega) (by omega) (by omega)]
    decide
  · rw [n0 p q1 q2] at q4
    omega
  · rw [n0 p q1 q2] at q5
    omega
  · have nn := no_i (fo := foC qμi (74 + 11 * p) 200) (h := hC qμi (74 + 11 * p) 200) (du := fun x => x) (told := fun x => x) (i := i) (fun f _ _ => fo p f q1 q2 i q3)
    have es : SxC qμi (74 + 11 * p) 200 i = 0 := by
      unfold SxC
      rw [if_neg (fun y => by rw [n0 p q1 q2] at y; omega)]
    rw [nn.1, nn.2.1, es]
    exact ⟨by decide, by decide⟩
  · rw [qμi_sl _ (by omega)] at q5
    exact absurd q5 (by decide)
  · have e6 : qμi 16 6 = 1 := by decide
    rw [e6] at q1
    have ek : k = 0 := by omega
    subst ek
    have es : s = 0 := by omega
    subst es
    decide
theorem R4_0 : R4 qμi := by
  have z : ∀ c' i, ((59 ≤ c' ∧ c' ≤ 70) ∨ (141 ≤ c' ∧ c' ≤ 152) ∨ (156 ≤ c' ∧ c' ≤ 167) ∨ (191 ≤ c' ∧ c' ≤ 206)) → qμi c' i = 0 := fun c' i q => qμi_0 _ (by omega) (by omega) (by omega) (by omega)
  have blk : ∀ c b, (c = 58 ∨ c = 140 ∨ c = 155) → RDb qμi c b ∧ RLb qμi c b := fun c b q => by
    refine ⟨⟨?_, fun k i q1 q2 q3 q4 => ?_, fun i q1 q2 => ?_, ?_⟩, ?_, fun k i q1 q2 q3 q4 => ?_⟩
    · rw [z (c + 1) 7 (by omega), z 191 b (by omega)]
    · rw [z (c + 2 + k) i (by omega), z (196 + k) _ (by omega)]
    · rw [z 191 b (by omega)] at q2
      omega
    · rw [z 194 b (by omega), z 191 b (by omega)]
      rfl
    · rw [z (c + 9) 3 (by omega), z 192 b (by omega)]
    · rw [z (c + 10 + k) i (by omega), z (204 + k) _ (by omega)]
  exact ⟨R3_0, blk 58 0 (by decide), blk 140 1 (by decide), blk 155 2 (by decide)⟩
theorem LT_0 : R4 qμi := R4_0
