theorem qμi_0 {c : Int} (i : Int) (h1 : ¬ c = 16) (h2 : ¬ c = 43) (h3 : ¬ (74 ≤ c ∧ c < 140 ∧ (c - 74) % 11 = 3)) (h4 : ¬ c = 179) : qμi c i = 0 := by
  unfold qμi
  rw [if_neg (fun q => h1 q.1), if_neg (fun q => h1 q.1), if_neg (fun q => h2 q.1), if_neg h3, if_neg h4]
theorem RA_0 : RA qμi := by
  have ln : ∀ c b, (c = 58 ∨ c = 140 ∨ c = 155) → RLn qμi c b := fun c b q => by
    refine ⟨?_, fun i _ _ => ?_, fun i _ q2 => ?_⟩
    · rw [qμi_0 _ (by omega) (by omega) (by omega) (by omega), qμi_0 _ (by omega) (by omega) (by omega) (by omega)]
    · rw [qμi_0 _ (by omega) (by omega) (by omega) (by omega), qμi_0 _ (by omega) (by omega) (by omega) (by omega)]
    · rw [qμi_0 _ (by omega) (by omega) (by omega) (by omega)] at q2
      omega
  refine ⟨qμi_safe, by unfold RToday; decide, fun p f a q1 q2 q3 q4 q5 q6 => ?_, fun p a i q1 q2 q3 q4 q5 q6 => ?_, fun p q1 q2 => ⟨?_, fun k q3 q4 => ⟨?_, ?_, ?_, ?_⟩⟩, ln 58 0 (by decide), ln 140 1 (by decide), ln 155 2 (by decide)⟩
  · rw [qμi_0 _ (by omega) (by omega) (by omega) (by omega), qμi_0 _ (by omega) (by omega) (by omega) (by omega)]
    decide
  · rw [qμi_0 _ (by omega) (by omega) (by omega) (by omega), qμi_0 _ (by omega) (by omega) (by omega) (by omega)]
  all_goals rw [qμi_0 _ (by omega) (by omega) (by omega) (by omega), qμi_0 _ (by omega) (by omega) (by omega) (by omega)]
theorem R2_0 : R2 qμi := by
  refine ⟨RA_0, ⟨?_, fun i q1 q2 => ?_⟩, ?_, fun c i q1 q2 q3 q4 => ?_, fun i q1 q2 => ?_⟩
  · rw [qμi_0 _ (by omega) (by omega) (by omega) (by omega), qμi_0 _ (by omega) (by omega) (by omega) (by omega)]
  · rw [qμi_0 _ (by omega) (by omega) (by omega) (by omega)] at q2
    omega
  · rw [qμi_0 _ (by omega) (by omega) (by omega) (by omega), qμi_0 _ (by omega) (by omega) (by omega) (by omega)]
  · rw [qμi_0 _ (by omega) (by omega) (by omega) (by omega)] at q4
    omega
  · rw [qμi_0 _ (by omega) (by omega) (by omega) (by omega)] at q2
    omega
theorem LT_0 : R2 qμi := R2_0
