/-! THE FOURTH RELATION: debts and letters, now and in the images -/
/-- one debt: its amount, open, held, aside, fee, whether it is aside -/
def dok (A O H X F Z : Int) : Prop := (1 ≤ A ∧ A ≤ 990) ∧ (0 ≤ O ∧ 0 ≤ H ∧ 0 ≤ F ∧ F + O ≤ A) ∧ ((Z = 0 ∧ X = 0 ∧ O + H = A) ∨ (Z = 1 ∧ X = A ∧ O = 0 ∧ H = 0))
def lsF (μ : qM) (b : Int) : Int → Int := fun i => if μ 203 (20 * b + i) = 1 then μ 202 (20 * b + i) else 0
def RDb (μ : qM) (c b : Int) : Prop := μ (c + 1) 7 = μ 191 b ∧ (∀ k i, 0 ≤ k → k ≤ 6 → 0 ≤ i → i ≤ 19 → μ (c + 2 + k) i = μ (196 + k) (20 * b + i)) ∧ (∀ i, 0 ≤ i → i < μ 191 b → dok (μ 197 (20 * b + i)) (μ 198 (20 * b + i)) (μ 199 (20 * b + i)) (μ 200 (20 * b + i)) (μ 202 (20 * b + i)) (μ 203 (20 * b + i))) ∧ μ 194 b = smF (lsF μ b) 0 (μ 191 b).toNat
def RLb (μ : qM) (c b : Int) : Prop := μ (c + 9) 3 = μ 192 b ∧ ∀ k i, 0 ≤ k → k ≤ 2 → 0 ≤ i → i ≤ 29 → μ (c + 10 + k) i = μ (204 + k) (30 * b + i)
theorem RDb_cp {μ μ' : qM} {c b c' b' : Int} (h : RDb μ c b) (hs : μ 191 b ≤ 20) (e1 : μ' (c' + 1) 7 = μ (c + 1) 7) (e2 : ∀ k i, 0 ≤ k → k ≤ 6 → μ' (c' + 2 + k) i = μ (c + 2 + k) i) (e3 : μ' 191 b' = μ 191 b) (e4 : ∀ m i, 196 ≤ m → m ≤ 203 → 0 ≤ i → i < 20 → μ' m (20 * b' + i) = μ m (20 * b + i)) (e5 : μ' 194 b' = μ 194 b) : RDb μ' c' b' := by
  obtain ⟨h1, h2, h3, h4⟩ := h
  refine ⟨by rw [e1, e3]; exact h1, fun k i q1 q2 q3 q4 => ?_, fun i q1 q2 => ?_, ?_⟩
  · rw [e2 k i q1 q2, e4 (196 + k) i (by omega) (by omega) q3 (by omega)]
    exact h2 k i q1 q2 q3 q4
  · rw [e3] at q2
    rw [e4 197 i (by decide) (by decide) q1 (by omega), e4 198 i (by decide) (by decide) q1 (by omega), e4 199 i (by decide) (by decide) q1 (by omega), e4 200 i (by decide) (by decide) q1 (by omega), e4 202 i (by decide) (by decide) q1 (by omega), e4 203 i (by decide) (by decide) q1 (by omega)]
    exact h3 i q1 q2
  · rw [e5, e3, h4]
    refine smF_cg _ (fun i q1 q2 => ?_)
    unfold lsF
    rw [e4 202 i (by decide) (by decide) q1 (by omega), e4 203 i (by decide) (by decide) q1 (by omega)]
theorem RLb_cp {μ μ' : qM} {c b c' b' : Int} (h : RLb μ c b) (e1 : μ' (c' + 9) 3 = μ (c + 9) 3) (e2 : ∀ k i, 0 ≤ k → k ≤ 2 → μ' (c' + 10 + k) i = μ (c + 10 + k) i) (e3 : μ' 192 b' = μ 192 b) (e4 : ∀ m i, 204 ≤ m → m ≤ 206 → 0 ≤ i → i < 30 → μ' m (30 * b' + i) = μ m (30 * b + i)) : RLb μ' c' b' := by
  obtain ⟨h1, h2⟩ := h
  refine ⟨by rw [e1, e3]; exact h1, fun k i q1 q2 q3 q4 => ?_⟩
  rw [e2 k i q1 q2, e4 (204 + k) i (by omega) (by omega) q3 (by omega)]
  exact h2 k i q1 q2 q3 q4
def fD (c : Int) : Prop := (59 ≤ c ∧ c ≤ 70) ∨ (141 ≤ c ∧ c ≤ 152) ∨ (156 ≤ c ∧ c ≤ 167) ∨ c = 191 ∨ c = 192 ∨ c = 194 ∨ (196 ≤ c ∧ c ≤ 206)
def RDL (μ : qM) : Prop := (RDb μ 58 0 ∧ RLb μ 58 0) ∧ (RDb μ 140 1 ∧ RLb μ 140 1) ∧ RDb μ 155 2 ∧ RLb μ 155 2
def R4 (μ : qM) : Prop := R3 μ ∧ RDL μ
/-- a block whose cells are as they were -/
theorem RB_fr {μ μ' : qM} {c b : Int} (hS : Safe μ) (h : RDb μ c b ∧ RLb μ c b) (k1 : ∀ j i, 1 ≤ j → j ≤ 12 → μ' (c + j) i = μ (c + j) i) (k2 : ∀ m i, (m = 191 ∨ m = 192 ∨ m = 194) → i = b → μ' m i = μ m i) (k3 : ∀ m i, 196 ≤ m → m ≤ 203 → 20 * b ≤ i → i < 20 * b + 20 → μ' m i = μ m i) (k4 : ∀ m i, 204 ≤ m → m ≤ 206 → 30 * b ≤ i → i < 30 * b + 30 → μ' m i = μ m i) : RDb μ' c b ∧ RLb μ' c b := by
  refine ⟨RDb_cp h.1 (sa_mdebts hS b).2 (k1 1 7 (by decide) (by decide)) (fun k i q1 q2 => ?_) (k2 191 b (by decide) rfl) (fun m i q1 q2 q3 q4 => k3 m _ q1 q2 (by omega) (by omega)) (k2 194 b (by decide) rfl), RLb_cp h.2 (k1 9 3 (by decide) (by decide)) (fun k i q1 q2 => ?_) (k2 192 b (by decide) rfl) (fun m i q1 q2 q3 q4 => k4 m _ q1 q2 (by omega) (by omega))⟩
  · have z := k1 (2 + k) i (by omega) (by omega)
    rw [← Int.add_assoc] at z
    exact z
  · have z := k1 (10 + k) i (by omega) (by omega)
    rw [← Int.add_assoc] at z
    exact z
theorem RDL_fr {μ μ2 : qM} (hS : Safe μ) (h : RDL μ) (k : ∀ c i, fD c → μ2 c i = μ c i) : RDL μ2 := by
  refine ⟨RB_fr hS h.1 ?_ ?_ ?_ ?_, RB_fr hS h.2.1 ?_ ?_ ?_ ?_, RB_fr hS h.2.2 ?_ ?_ ?_ ?_⟩
  all_goals
    intros
    exact k _ _ (by unfold fD; omega)
/-- what the calls write is in the first block -/
theorem RDL_w {μ μ2 : qM} (hS : Safe μ) (h : RDL μ) (k1 : ∀ c i, 140 ≤ c → c < 170 → μ2 c i = μ c i) (k2 : ∀ c i, 191 ≤ c → c ≤ 206 → nn c ≤ i → μ2 c i = μ c i) (new : RDb μ2 58 0 ∧ RLb μ2 58 0) : RDL μ2 := by
  have n1 : ∀ m : Int, m ≤ 194 → nn m = 1 := fun m q => by
    unfold nn
    rw [if_pos q]
  have n2 : ∀ m : Int, 196 ≤ m → m ≤ 203 → nn m = 20 := fun m q q2 => by
    unfold nn
    rw [if_neg (by omega), if_pos q2]
  have n3 : ∀ m : Int, 204 ≤ m → m ≤ 206 → nn m = 30 := fun m q q2 => by
    unfold nn
    rw [if_neg (by omega), if_neg (by omega), if_pos q2]
  refine ⟨new, RB_fr hS h.2.1 ?_ ?_ ?_ ?_, RB_fr hS h.2.2 ?_ ?_ ?_ ?_⟩
  · intro j i q1 q2
    exact k1 _ _ (by omega) (by omega)
  · intro m i q1 q2
    exact k2 _ _ (by omega) (by omega) (by rw [n1 m (by omega)]; omega)
  · intro m i q1 q2 q3 q4
    exact k2 _ _ (by omega) (by omega) (by rw [n2 m q1 q2]; omega)
  · intro m i q1 q2 q3 q4
    exact k2 _ _ (by omega) (by omega) (by rw [n3 m q1 q2]; omega)
  · intro j i q1 q2
    exact k1 _ _ (by omega) (by omega)
  · intro m i q1 q2
    exact k2 _ _ (by omega) (by omega) (by rw [n1 m (by omega)]; omega)
  · intro m i q1 q2 q3 q4
    exact k2 _ _ (by omega) (by omega) (by rw [n2 m q1 q2]; omega)
  · intro m i q1 q2 q3 q4
    exact k2 _ _ (by omega) (by omega) (by rw [n3 m q1 q2]; omega)
/-! images -/
theorem RDL_keep {μ μ2 : qM} {C a : Int} (hS : Safe μ) (h : RDL μ) (hC : (C = 140 ∧ a = 0) ∨ (C = 155 ∧ a = 1)) (K : Kp μ μ2 C a) : RDL μ2 := by
  obtain ⟨K1, K2, K3, K4, K5, K6, K7, K8, K9⟩ := K
  have n1 : ∀ m : Int, m ≤ 194 → nn m = 1 := fun m q => by
    unfold nn
    rw [if_pos q]
  have n2 : ∀ m : Int, 196 ≤ m → m ≤ 203 → nn m = 20 := fun m q q2 => by
    unfold nn
    rw [if_neg (by omega), if_pos q2]
  have n3 : ∀ m : Int, 204 ≤ m → m ≤ 206 → nn m = 30 := fun m q q2 => by
    unfold nn
    rw [if_neg (by omega), if_neg (by omega), if_pos q2]
  have s1 : ∀ m : Int, (m = 191 ∨ m = 192 ∨ m = 194) → μ2 m (1 + a) = μ m 0 := fun m q => by
    have z := K4 m (by unfold DM; omega) 0 (by decide) (by rw [n1 m (by omega)]; decide)
    rw [n1 m (by omega), show (1 : Int) * (1 + a) + 0 = 1 + a by omega] at z
    exact z
  have im : RDb μ2 C (1 + a) ∧ RLb μ2 C (1 + a) := by
    refine ⟨RDb_cp h.1.1 (sa_mdebts hS 0).2 (K2 1 7 (by decide) (by decide) (by unfold DI; omega)) (fun k i q1 q2 => ?_) (s1 191 (by decide)) (fun m i q1 q2 q3 q4 => ?_) (s1 194 (by decide)), RLb_cp h.1.2 (K2 9 3 (by decide) (by decide) (by unfold DI; omega)) (fun k i q1 q2 => ?_) (s1 192 (by decide)) (fun m i q1 q2 q3 q4 => ?_)⟩
    · have z := K2 (2 + k) i (by omega) (by omega) (by unfold DI; omega)
      rw [← Int.add_assoc, ← Int.add_assoc] at z
      exact z
    · have z := K4 m (by unfold DM; omega) i q3 (by rw [n2 m q1 q2]; exact q4)
      rw [n2 m q1 q2] at z
      exact z
    · have z := K2 (10 + k) i (by omega) (by omega) (by unfold DI; omega)
      rw [← Int.add_assoc, ← Int.add_assoc] at z
      exact z
    · have z := K4 m (by unfold DM; omega) i q3 (by rw [n3 m q1 q2]; exact q4)
      rw [n3 m q1 q2] at z
      exact z
  have ot : ∀ c b, RDb μ c b ∧ RLb μ c b → (c = 58 ∨ c = 140 ∨ c = 155) → ¬ c = C → (b = 0 ∨ b = 1 ∨ b = 2) → ¬ b = 1 + a → RDb μ2 c b ∧ RLb μ2 c b := fun c b hh q1 q2 q3 q4 => by
    refine RB_fr hS hh (fun j i k1 k2 => K1 _ _ (by omega) (by omega) (by omega)) (fun m i k1 k2 => K5 m (by unfold DM; omega) _ (by rw [n1 m (by omega)]; omega)) (fun m i k1 k2 k3 k4 => K5 m (by unfold DM; omega) _ (by rw [n2 m k1 k2]; omega)) (fun m i k1 k2 k3 k4 => K5 m (by unfold DM; omega) _ (by rw [n3 m k1 k2]; omega))
  rcases hC with ⟨rfl, rfl⟩ | ⟨rfl, rfl⟩
  · exact ⟨ot 58 0 h.1 (by decide) (by decide) (by decide) (by decide), im, ot 155 2 h.2.2 (by decide) (by decide) (by decide) (by decide)⟩
  · exact ⟨ot 58 0 h.1 (by decide) (by decide) (by decide) (by decide), ot 140 1 h.2.1 (by decide) (by decide) (by decide) (by decide), im⟩
theorem RDL_back {μ μ2 : qM} {C a : Int} (hS : Safe μ) (h : RDL μ) (hC : (C = 140 ∧ a = 0) ∨ (C = 155 ∧ a = 1)) (K : Bk μ μ2 C a) : RDL μ2 := by
  obtain ⟨K1, K2, K4, K5, K6⟩ := K
  have n1 : ∀ m : Int, m ≤ 194 → nn m = 1 := fun m q => by
    unfold nn
    rw [if_pos q]
  have n2 : ∀ m : Int, 196 ≤ m → m ≤ 203 → nn m = 20 := fun m q q2 => by
    unfold nn
    rw [if_neg (by omega), if_pos q2]
  have n3 : ∀ m : Int, 204 ≤ m → m ≤ 206 → nn m = 30 := fun m q q2 => by
    unfold nn
    rw [if_neg (by omega), if_neg (by omega), if_pos q2]
  have hI : RDb μ C (1 + a) ∧ RLb μ C (1 + a) := by
    rcases hC with ⟨rfl, rfl⟩ | ⟨rfl, rfl⟩
    · exact h.2.1
    · exact h.2.2
  have s1 : ∀ m : Int, (m = 191 ∨ m = 192 ∨ m = 194) → μ2 m 0 = μ m (1 + a) := fun m q => by
    have z := K4 m (by unfold DM; omega) 0 (by decide) (by rw [n1 m (by omega)]; decide)
    rw [n1 m (by omega), show (1 : Int) * (1 + a) + 0 = 1 + a by omega] at z
    exact z
  have im : RDb μ2 58 0 ∧ RLb μ2 58 0 := by
    refine ⟨RDb_cp hI.1 (sa_mdebts hS _).2 (K2 1 7 (by decide) (by decide) (by unfold DI; omega)) (fun k i q1 q2 => ?_) (s1 191 (by decide)) (fun m i q1 q2 q3 q4 => ?_) (s1 194 (by decide)), RLb_cp hI.2 (K2 9 3 (by decide) (by decide) (by unfold DI; omega)) (fun k i q1 q2 => ?_) (s1 192 (by decide)) (fun m i q1 q2 q3 q4 => ?_)⟩
    · have z := K2 (2 + k) i (by omega) (by omega) (by unfold DI; omega)
      rw [← Int.add_assoc, ← Int.add_assoc] at z
      exact z
    · have z := K4 m (by unfold DM; omega) i q3 (by rw [n2 m q1 q2]; exact q4)
      rw [n2 m q1 q2] at z
      exact z
    · have z := K2 (10 + k) i (by omega) (by omega) (by unfold DI; omega)
      rw [← Int.add_assoc, ← Int.add_assoc] at z
      exact z
    · have z := K4 m (by unfold DM; omega) i q3 (by rw [n3 m q1 q2]; exact q4)
      rw [n3 m q1 q2] at z
      exact z
  have ot : ∀ c b, RDb μ c b ∧ RLb μ c b → (c = 140 ∨ c = 155) → (b = 1 ∨ b = 2) → RDb μ2 c b ∧ RLb μ2 c b := fun c b hh q1 q3 => by
    refine RB_fr hS hh (fun j i k1 k2 => K1 _ _ (by omega) (by omega) (by omega)) (fun m i k1 k2 => K5 m (by unfold DM; omega) _ (by rw [n1 m (by omega)]; omega)) (fun m i k1 k2 k3 k4 => K5 m (by unfold DM; omega) _ (by rw [n2 m k1 k2]; omega)) (fun m i k1 k2 k3 k4 => K5 m (by unfold DM; omega) _ (by rw [n3 m k1 k2]; omega))
  exact ⟨im, ot 140 1 h.2.1 (by decide) (by decide), ot 155 2 h.2.2 (by decide) (by decide)⟩
