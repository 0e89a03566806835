/-! THE RELATION, first half: days, pays, places, firms, lines -/
def RToday (μ : qM) : Prop := μ 58 3 = μ 170 1 ∧ μ 140 3 = μ 195 1 ∧ μ 155 3 = μ 195 2 ∧ μ 140 4 = μ 209 0 ∧ μ 155 4 = μ 209 1
theorem RToday_fr {μ μ' : qM} (h : RToday μ) (k : ∀ c i, rk c i → μ' c i = μ c i) : RToday μ' := by
  unfold RToday
  rw [k 58 3 (by unfold rk; omega), k 170 1 (by unfold rk; omega), k 140 3 (by unfold rk; omega), k 195 1 (by unfold rk; omega), k 155 3 (by unfold rk; omega), k 195 2 (by unfold rk; omega), k 140 4 (by unfold rk; omega), k 209 0 (by unfold rk; omega), k 155 4 (by unfold rk; omega), k 209 1 (by unfold rk; omega)]
  exact h
def fPay (c : Int) : Prop := (74 ≤ c ∧ c < 140 ∧ ((c - 74) % 11 = 1 ∨ (c - 74) % 11 = 2)) ∨ c = 177 ∨ c = 178
def RPay (μ : qM) : Prop := ∀ p f a, 0 ≤ p → p ≤ 5 → 0 ≤ f → f ≤ 9 → 0 ≤ a → a ≤ 1 → μ (74 + 11 * p + (1 + a)) f = μ (177 + a) (10 * p + f) ∧ 0 ≤ μ (177 + a) (10 * p + f) ∧ μ (177 + a) (10 * p + f) ≤ 20
theorem RPay_fr {μ μ' : qM} (h : RPay μ) (k : ∀ c i, fPay c → μ' c i = μ c i) : RPay μ' := fun p f a h1 h2 h3 h4 h5 h6 => by
  rw [k (74 + 11 * p + (1 + a)) f (by unfold fPay; omega), k (177 + a) (10 * p + f) (by unfold fPay; omega)]
  exact h p f a h1 h2 h3 h4 h5 h6
def fPlace (c : Int) : Prop := (74 ≤ c ∧ c < 140 ∧ ((c - 74) % 11 = 9 ∨ (c - 74) % 11 = 10)) ∨ c = 208
def RPlace (μ : qM) : Prop := ∀ p a i, 0 ≤ p → p ≤ 5 → 0 ≤ a → a ≤ 1 → 0 ≤ i → i ≤ 200 → μ (74 + 11 * p + (9 + a)) i = μ 208 (201 * (2 * p + a) + i)
theorem RPlace_fr {μ μ' : qM} (h : RPlace μ) (k : ∀ c i, fPlace c → μ' c i = μ c i) : RPlace μ' := fun p a i h1 h2 h3 h4 h5 h6 => by
  rw [k (74 + 11 * p + (9 + a)) i (by unfold fPlace; omega), k 208 _ (by unfold fPlace; omega)]
  exact h p a i h1 h2 h3 h4 h5 h6
def fFirm (c i : Int) : Prop := (74 ≤ c ∧ c < 140 ∧ (((c - 74) % 11 = 0 ∧ i = 10) ∨ (5 ≤ (c - 74) % 11 ∧ (c - 74) % 11 ≤ 8))) ∨ (181 ≤ c ∧ c ≤ 185)
def RFirm (μ : qM) : Prop := ∀ p, 0 ≤ p → p ≤ 5 → μ (74 + 11 * p) 10 = μ 181 p ∧ ∀ k, 0 ≤ k → k ≤ 2 → μ (74 + 11 * p + 5) k = μ 182 (3 * p + k) ∧ μ (74 + 11 * p + 6) k = μ 183 (3 * p + k) ∧ μ (74 + 11 * p + 7) k = μ 184 (3 * p + k) ∧ μ (74 + 11 * p + 8) k = μ 185 (3 * p + k)
theorem RFirm_fr {μ μ' : qM} (h : RFirm μ) (k : ∀ c i, fFirm c i → μ' c i = μ c i) : RFirm μ' := fun p h1 h2 => by
  rw [k (74 + 11 * p) 10 (by unfold fFirm; omega), k 181 p (by unfold fFirm; omega)]
  refine ⟨(h p h1 h2).1, fun j h3 h4 => ?_⟩
  rw [k (74 + 11 * p + 5) j (by unfold fFirm; omega), k (74 + 11 * p + 6) j (by unfold fFirm; omega), k (74 + 11 * p + 7) j (by unfold fFirm; omega), k (74 + 11 * p + 8) j (by unfold fFirm; omega), k 182 _ (by unfold fFirm; omega), k 183 _ (by unfold fFirm; omega), k 184 _ (by unfold fFirm; omega), k 185 _ (by unfold fFirm; omega)]
  exact (h p h1 h2).2 j h3 h4
theorem RFirm_fw {μ : qM} (h : RFirm μ) {p f day : Int} (h1 : 0 ≤ p) (h2 : p ≤ 5) : cfw μ (74 + 11 * p) f day = mfw μ p f day := by
  unfold cfw mfw
  rw [(h p h1 h2).1]
  exact fw_cg (fun i q1 q2 => ((h p h1 h2).2 i q1 q2).1) (fun i q1 q2 => ((h p h1 h2).2 i q1 q2).2.1) (fun i q1 q2 => ((h p h1 h2).2 i q1 q2).2.2.2)
def fLine (c : Int) : Prop := c = 71 ∨ c = 72 ∨ c = 153 ∨ c = 154 ∨ c = 168 ∨ c = 169 ∨ c = 193 ∨ c = 207
def RLn (μ : qM) (c b : Int) : Prop := μ (c + 13) 1 = μ 193 b ∧ (∀ i, 0 ≤ i → i ≤ 39 → μ (c + 14) i = μ 207 (40 * b + i)) ∧ ∀ i, 0 ≤ i → i < μ 193 b → 1 ≤ μ 207 (40 * b + i)
theorem RLn_cp {μ μ' : qM} {c b c' b' : Int} (h : RLn μ c b) (hs : μ 193 b ≤ 40) (e1 : μ' (c' + 13) 1 = μ (c + 13) 1) (e2 : ∀ i, μ' (c' + 14) i = μ (c + 14) i) (e3 : μ' 193 b' = μ 193 b) (e4 : ∀ i, 0 ≤ i → i < 40 → μ' 207 (40 * b' + i) = μ 207 (40 * b + i)) : RLn μ' c' b' := by
  refine ⟨by rw [e1, e3]; exact h.1, fun i q1 q2 => ?_, fun i q1 q2 => ?_⟩
  · rw [e2, e4 i q1 (by omega)]
    exact h.2.1 i q1 q2
  · rw [e3] at q2
    rw [e4 i q1 (by omega)]
    exact h.2.2 i q1 q2
def RLine (μ : qM) : Prop := RLn μ 58 0 ∧ RLn μ 140 1 ∧ RLn μ 155 2
theorem RLine_fr {μ μ' : qM} (hS : Safe μ) (h : RLine μ) (k : ∀ c i, fLine c → μ' c i = μ c i) : RLine μ' := by
  refine ⟨RLn_cp h.1 (sa_mcalls hS 0).2 (k _ _ (by unfold fLine; omega)) (fun i => k _ _ (by unfold fLine; omega)) (k _ _ (by unfold fLine; omega)) (fun i _ _ => k _ _ (by unfold fLine; omega)), RLn_cp h.2.1 (sa_mcalls hS 1).2 (k _ _ (by unfold fLine; omega)) (fun i => k _ _ (by unfold fLine; omega)) (k _ _ (by unfold fLine; omega)) (fun i _ _ => k _ _ (by unfold fLine; omega)), RLn_cp h.2.2 (sa_mcalls hS 2).2 (k _ _ (by unfold fLine; omega)) (fun i => k _ _ (by unfold fLine; omega)) (k _ _ (by unfold fLine; omega)) (fun i _ _ => k _ _ (by unfold fLine; omega))⟩
def RA (μ : qM) : Prop := Safe μ ∧ RToday μ ∧ RPay μ ∧ RPlace μ ∧ RFirm μ ∧ RLine μ
theorem RA_fr {μ μ' : qM} (h : RA μ) (hS : Safe μ') (k : ∀ c i, relv0 c i → ¬ c = 0 → ¬ (c = 170 ∧ i = 0) → μ' c i = μ c i) : RA μ' := ⟨hS, RToday_fr h.2.1 (fun c i q => k c i (rk_relv0 q) (by unfold rk at q; omega) (by unfold rk at q; omega)), RPay_fr h.2.2.1 (fun c i q => k c i (by unfold fPay at q; unfold relv0; rcases q with q | q | q <;> (first | exact Or.inl (by omega) | exact Or.inr (Or.inl (by omega)) | exact Or.inr (Or.inr (Or.inl (by omega))) | exact Or.inr (Or.inr (Or.inr (Or.inl (by omega)))) | exact Or.inr (Or.inr (Or.inr (Or.inr (Or.inl (by omega))))) | exact Or.inr (Or.inr (Or.inr (Or.inr (Or.inr (Or.inl (by omega)))))) | exact Or.inr (Or.inr (Or.inr (Or.inr (Or.inr (Or.inr (Or.inl (by omega))))))) | exact Or.inr (Or.inr (Or.inr (Or.inr (Or.inr (Or.inr (Or.inr (Or.inl (by omega)))))))) | exact Or.inr (Or.inr (Or.inr (Or.inr (Or.inr (Or.inr (Or.inr (Or.inr (Or.inl (by omega))))))))) | exact Or.inr (Or.inr (Or.inr (Or.inr (Or.inr (Or.inr (Or.inr (Or.inr (Or.inr (Or.inl (by omega)))))))))) | exact Or.inr (Or.inr (Or.inr (Or.inr (Or.inr (Or.inr (Or.inr (Or.inr (Or.inr (Or.inr (Or.inl (by omega))))))))))) | exact Or.inr (Or.inr (Or.inr (Or.inr (Or.inr (Or.inr (Or.inr (Or.inr (Or.inr (Or.inr (Or.inr (Or.inl (by omega)))))))))))) | exact Or.inr (Or.inr (Or.inr (Or.inr (Or.inr (Or.inr (Or.inr (Or.inr (Or.inr (Or.inr (Or.inr (Or.inr (Or.inl (by omega))))))))))))) | exact Or.inr (Or.inr (Or.inr (Or.inr (Or.inr (Or.inr (Or.inr (Or.inr (Or.inr (Or.inr (Or.inr (Or.inr (Or.inr (Or.inl (by omega)))))))))))))) | exact Or.inr (Or.inr (Or.inr (Or.inr (Or.inr (Or.inr (Or.inr (Or.inr (Or.inr (Or.inr (Or.inr (Or.inr (Or.inr (Or.inr (Or.inl (by omega))))))))))))))) | exact Or.inr (Or.inr (Or.inr (Or.inr (Or.inr (Or.inr (Or.inr (Or.inr (Or.inr (Or.inr (Or.inr (Or.inr (Or.inr (Or.inr (Or.inr (Or.inl (by omega)))))))))))))))) | exact Or.inr (Or.inr (Or.inr (Or.inr (Or.inr (Or.inr (Or.inr (Or.inr (Or.inr (Or.inr (Or.inr (Or.inr (Or.inr (Or.inr (Or.inr (Or.inr (Or.inl (by omega))))))))))))))))) | exact Or.inr (Or.inr (Or.inr (Or.inr (Or.inr (Or.inr (Or.inr (Or.inr (Or.inr (Or.inr (Or.inr (Or.inr (Or.inr (Or.inr (Or.inr (Or.inr (Or.inr (Or.inl (by omega)))))))))))))))))) | exact Or.inr (Or.inr (Or.inr (Or.inr (Or.inr (Or.inr (Or.inr (Or.inr (Or.inr (Or.inr (Or.inr (Or.inr (Or.inr (Or.inr (Or.inr (Or.inr (Or.inr (Or.inr (by omega)))))))))))))))))))) (by unfold fPay at q; omega) (by unfold fPay at q; omega)), RPlace_fr h.2.2.2.1 (fun c i q => k c i (by unfold fPlace at q; unfold relv0; rcases q with q | q <;> (first | exact Or.inl (by omega) | exact Or.inr (Or.inl (by omega)) | exact Or.inr (Or.inr (Or.inl (by omega))) | exact Or.inr (Or.inr (Or.inr (Or.inl (by omega)))) | exact Or.inr (Or.inr (Or.inr (Or.inr (Or.inl (by omega))))) | exact Or.inr (Or.inr (Or.inr (Or.inr (Or.inr (Or.inl (by omega)))))) | exact Or.inr (Or.inr (Or.inr (Or.inr (Or.inr (Or.inr (Or.inl (by omega))))))) | exact Or.inr (Or.inr (Or.inr (Or.inr (Or.inr (Or.inr (Or.inr (Or.inl (by omega)))))))) | exact Or.inr (Or.inr (Or.inr (Or.inr (Or.inr (Or.inr (Or.inr (Or.inr (Or.inl (by omega))))))))) | exact Or.inr (Or.inr (Or.inr (Or.inr (Or.inr (Or.inr (Or.inr (Or.inr (Or.inr (Or.inl (by omega)))))))))) | exact Or.inr (Or.inr (Or.inr (Or.inr (Or.inr (Or.inr (Or.inr (Or.inr (Or.inr (Or.inr (Or.inl (by omega))))))))))) | exact Or.inr (Or.inr (Or.inr (Or.inr (Or.inr (Or.inr (Or.inr (Or.inr (Or.inr (Or.inr (Or.inr (Or.inl (by omega)))))))))))) | exact Or.inr (Or.inr (Or.inr (Or.inr (Or.inr (Or.inr (Or.inr (Or.inr (Or.inr (Or.inr (Or.inr (Or.inr (Or.inl (by omega))))))))))))) | exact Or.inr (Or.inr (Or.inr (Or.inr (Or.inr (Or.inr (Or.inr (Or.inr (Or.inr (Or.inr (Or.inr (Or.inr (Or.inr (Or.inl (by omega)))))))))))))) | exact Or.inr (Or.inr (Or.inr (Or.inr (Or.inr (Or.inr (Or.inr (Or.inr (Or.inr (Or.inr (Or.inr (Or.inr (Or.inr (Or.inr (Or.inl (by omega))))))))))))))) | exact Or.inr (Or.inr (Or.inr (Or.inr (Or.inr (Or.inr (Or.inr (Or.inr (Or.inr (Or.inr (Or.inr (Or.inr (Or.inr (Or.inr (Or.inr (Or.inl (by omega)))))))))))))))) | exact Or.inr (Or.inr (Or.inr (Or.inr (Or.inr (Or.inr (Or.inr (Or.inr (Or.inr (Or.inr (Or.inr (Or.inr (Or.inr (Or.inr (Or.inr (Or.inr (Or.inl (by omega))))))))))))))))) | exact Or.inr (Or.inr (Or.inr (Or.inr (Or.inr (Or.inr (Or.inr (Or.inr (Or.inr (Or.inr (Or.inr (Or.inr (Or.inr (Or.inr (Or.inr (Or.inr (Or.inr (Or.inl (by omega)))))))))))))))))) | exact Or.inr (Or.inr (Or.inr (Or.inr (Or.inr (Or.inr (Or.inr (Or.inr (Or.inr (Or.inr (Or.inr (Or.inr (Or.inr (Or.inr (Or.inr (Or.inr (Or.inr (Or.inr (by omega)))))))))))))))))))) (by unfold fPlace at q; omega) (by unfold fPlace at q; omega)), RFirm_fr h.2.2.2.2.1 (fun c i q => k c i (by unfold fFirm at q; unfold relv0; rcases q with q | q <;> (first | exact Or.inl (by omega) | exact Or.inr (Or.inl (by omega)) | exact Or.inr (Or.inr (Or.inl (by omega))) | exact Or.inr (Or.inr (Or.inr (Or.inl (by omega)))) | exact Or.inr (Or.inr (Or.inr (Or.inr (Or.inl (by omega))))) | exact Or.inr (Or.inr (Or.inr (Or.inr (Or.inr (Or.inl (by omega)))))) | exact Or.inr (Or.inr (Or.inr (Or.inr (Or.inr (Or.inr (Or.inl (by omega))))))) | exact Or.inr (Or.inr (Or.inr (Or.inr (Or.inr (Or.inr (Or.inr (Or.inl (by omega)))))))) | exact Or.inr (Or.inr (Or.inr (Or.inr (Or.inr (Or.inr (Or.inr (Or.inr (Or.inl (by omega))))))))) | exact Or.inr (Or.inr (Or.inr (Or.inr (Or.inr (Or.inr (Or.inr (Or.inr (Or.inr (Or.inl (by omega)))))))))) | exact Or.inr (Or.inr (Or.inr (Or.inr (Or.inr (Or.inr (Or.inr (Or.inr (Or.inr (Or.inr (Or.inl (by omega))))))))))) | exact Or.inr (Or.inr (Or.inr (Or.inr (Or.inr (Or.inr (Or.inr (Or.inr (Or.inr (Or.inr (Or.inr (Or.inl (by omega)))))))))))) | exact Or.inr (Or.inr (Or.inr (Or.inr (Or.inr (Or.inr (Or.inr (Or.inr (Or.inr (Or.inr (Or.inr (Or.inr (Or.inl (by omega))))))))))))) | exact Or.inr (Or.inr (Or.inr (Or.inr (Or.inr (Or.inr (Or.inr (Or.inr (Or.inr (Or.inr (Or.inr (Or.inr (Or.inr (Or.inl (by omega)))))))))))))) | exact Or.inr (Or.inr (Or.inr (Or.inr (Or.inr (Or.inr (Or.inr (Or.inr (Or.inr (Or.inr (Or.inr (Or.inr (Or.inr (Or.inr (Or.inl (by omega))))))))))))))) | exact Or.inr (Or.inr (Or.inr (Or.inr (Or.inr (Or.inr (Or.inr (Or.inr (Or.inr (Or.inr (Or.inr (Or.inr (Or.inr (Or.inr (Or.inr (Or.inl (by omega)))))))))))))))) | exact Or.inr (Or.inr (Or.inr (Or.inr (Or.inr (Or.inr (Or.inr (Or.inr (Or.inr (Or.inr (Or.inr (Or.inr (Or.inr (Or.inr (Or.inr (Or.inr (Or.inl (by omega))))))))))))))))) | exact Or.inr (Or.inr (Or.inr (Or.inr (Or.inr (Or.inr (Or.inr (Or.inr (Or.inr (Or.inr (Or.inr (Or.inr (Or.inr (Or.inr (Or.inr (Or.inr (Or.inr (Or.inl (by omega)))))))))))))))))) | exact Or.inr (Or.inr (Or.inr (Or.inr (Or.inr (Or.inr (Or.inr (Or.inr (Or.inr (Or.inr (Or.inr (Or.inr (Or.inr (Or.inr (Or.inr (Or.inr (Or.inr (Or.inr (by omega)))))))))))))))))))) (by unfold fFirm at q; omega) (by unfold fFirm at q; omega)), RLine_fr h.1 h.2.2.2.2.2 (fun c i q => k c i (by unfold fLine at q; unfold relv0; rcases q with q | q | q | q | q | q | q | q <;> (first | exact Or.inl (by omega) | exact Or.inr (Or.inl (by omega)) | exact Or.inr (Or.inr (Or.inl (by omega))) | exact Or.inr (Or.inr (Or.inr (Or.inl (by omega)))) | exact Or.inr (Or.inr (Or.inr (Or.inr (Or.inl (by omega))))) | exact Or.inr (Or.inr (Or.inr (Or.inr (Or.inr (Or.inl (by omega)))))) | exact Or.inr (Or.inr (Or.inr (Or.inr (Or.inr (Or.inr (Or.inl (by omega))))))) | exact Or.inr (Or.inr (Or.inr (Or.inr (Or.inr (Or.inr (Or.inr (Or.inl (by omega)))))))) | exact Or.inr (Or.inr (Or.inr (Or.inr (Or.inr (Or.inr (Or.inr (Or.inr (Or.inl (by omega))))))))) | exact Or.inr (Or.inr (Or.inr (Or.inr (Or.inr (Or.inr (Or.inr (Or.inr (Or.inr (Or.inl (by omega)))))))))) | exact Or.inr (Or.inr (Or.inr (Or.inr (Or.inr (Or.inr (Or.inr (Or.inr (Or.inr (Or.inr (Or.inl (by omega))))))))))) | exact Or.inr (Or.inr (Or.inr (Or.inr (Or.inr (Or.inr (Or.inr (Or.inr (Or.inr (Or.inr (Or.inr (Or.inl (by omega)))))))))))) | exact Or.inr (Or.inr (Or.inr (Or.inr (Or.inr (Or.inr (Or.inr (Or.inr (Or.inr (Or.inr (Or.inr (Or.inr (Or.inl (by omega))))))))))))) | exact Or.inr (Or.inr (Or.inr (Or.inr (Or.inr (Or.inr (Or.inr (Or.inr (Or.inr (Or.inr (Or.inr (Or.inr (Or.inr (Or.inl (by omega)))))))))))))) | exact Or.inr (Or.inr (Or.inr (Or.inr (Or.inr (Or.inr (Or.inr (Or.inr (Or.inr (Or.inr (Or.inr (Or.inr (Or.inr (Or.inr (Or.inl (by omega))))))))))))))) | exact Or.inr (Or.inr (Or.inr (Or.inr (Or.inr (Or.inr (Or.inr (Or.inr (Or.inr (Or.inr (Or.inr (Or.inr (Or.inr (Or.inr (Or.inr (Or.inl (by omega)))))))))))))))) | exact Or.inr (Or.inr (Or.inr (Or.inr (Or.inr (Or.inr (Or.inr (Or.inr (Or.inr (Or.inr (Or.inr (Or.inr (Or.inr (Or.inr (Or.inr (Or.inr (Or.inl (by omega))))))))))))))))) | exact Or.inr (Or.inr (Or.inr (Or.inr (Or.inr (Or.inr (Or.inr (Or.inr (Or.inr (Or.inr (Or.inr (Or.inr (Or.inr (Or.inr (Or.inr (Or.inr (Or.inr (Or.inl (by omega)))))))))))))))))) | exact Or.inr (Or.inr (Or.inr (Or.inr (Or.inr (Or.inr (Or.inr (Or.inr (Or.inr (Or.inr (Or.inr (Or.inr (Or.inr (Or.inr (Or.inr (Or.inr (Or.inr (Or.inr (by omega)))))))))))))))))))) (by unfold fLine at q; omega) (by unfold fLine at q; omega))⟩
theorem r0_r {c i : Int} (h : relv0 c i) : relv c i := by
  unfold relv0 at h
  unfold relv
  rcases h with h | h | h | h | h | h | h | h | h | h | h | h | h | h | h | h | h | h | h
  · exact Or.inl h
  · exact Or.inr (Or.inl h)
  · exact Or.inr (Or.inr (Or.inl h))
  · exact Or.inr (Or.inr (Or.inr (Or.inl h)))
  · exact Or.inr (Or.inr (Or.inr (Or.inr (Or.inl h))))
  · exact Or.inr (Or.inr (Or.inr (Or.inr (Or.inr (Or.inl h)))))
  · exact Or.inr (Or.inr (Or.inr (Or.inr (Or.inr (Or.inr (Or.inl h))))))
  · exact Or.inr (Or.inr (Or.inr (Or.inr (Or.inr (Or.inr (Or.inr (Or.inl h)))))))
  · exact Or.inr (Or.inr (Or.inr (Or.inr (Or.inr (Or.inr (Or.inr (Or.inr (Or.inl h))))))))
  · exact Or.inr (Or.inr (Or.inr (Or.inr (Or.inr (Or.inr (Or.inr (Or.inr (Or.inr (Or.inl ⟨h.1, h.2.1⟩)))))))))
  · exact Or.inr (Or.inr (Or.inr (Or.inr (Or.inr (Or.inr (Or.inr (Or.inr (Or.inr (Or.inr (Or.inl h))))))))))
  · exact Or.inr (Or.inr (Or.inr (Or.inr (Or.inr (Or.inr (Or.inr (Or.inr (Or.inr (Or.inr (Or.inr (Or.inl h)))))))))))
  · exact Or.inr (Or.inr (Or.inr (Or.inr (Or.inr (Or.inr (Or.inr (Or.inr (Or.inr (Or.inr (Or.inr (Or.inr (Or.inl h))))))))))))
  · exact Or.inr (Or.inr (Or.inr (Or.inr (Or.inr (Or.inr (Or.inr (Or.inr (Or.inr (Or.inr (Or.inr (Or.inr (Or.inr (Or.inl h)))))))))))))
  · exact Or.inr (Or.inr (Or.inr (Or.inr (Or.inr (Or.inr (Or.inr (Or.inr (Or.inr (Or.inr (Or.inr (Or.inr (Or.inr (Or.inr (Or.inl h))))))))))))))
  · exact Or.inr (Or.inr (Or.inr (Or.inr (Or.inr (Or.inr (Or.inr (Or.inr (Or.inr (Or.inr (Or.inr (Or.inr (Or.inr (Or.inr (Or.inr (Or.inl h)))))))))))))))
  · exact Or.inr (Or.inr (Or.inr (Or.inr (Or.inr (Or.inr (Or.inr (Or.inr (Or.inr (Or.inr (Or.inr (Or.inr (Or.inr (Or.inr (Or.inr (Or.inr (Or.inl h))))))))))))))))
  · exact Or.inr (Or.inr (Or.inr (Or.inr (Or.inr (Or.inr (Or.inr (Or.inr (Or.inr (Or.inr (Or.inr (Or.inr (Or.inr (Or.inr (Or.inr (Or.inr (Or.inr (Or.inl h)))))))))))))))))
  · exact Or.inr (Or.inr (Or.inr (Or.inr (Or.inr (Or.inr (Or.inr (Or.inr (Or.inr (Or.inr (Or.inr (Or.inr (Or.inr (Or.inr (Or.inr (Or.inr (Or.inr (Or.inr (Or.inl h))))))))))))))))))
theorem r0_1 {c i : Int} (h : relv0 c i) : relv1 c i := by
  unfold relv0 at h
  unfold relv1
  rcases h with h | h | h | h | h | h | h | h | h | h | h | h | h | h | h | h | h | h | h
  · exact Or.inl h
  · exact Or.inr (Or.inl h)
  · exact Or.inr (Or.inr (Or.inl h))
  · exact Or.inr (Or.inr (Or.inr (Or.inl h)))
  · exact Or.inr (Or.inr (Or.inr (Or.inr (Or.inl h))))
  · exact Or.inr (Or.inr (Or.inr (Or.inr (Or.inr (Or.inl h)))))
  · exact Or.inr (Or.inr (Or.inr (Or.inr (Or.inr (Or.inr (Or.inl h))))))
  · exact Or.inr (Or.inr (Or.inr (Or.inr (Or.inr (Or.inr (Or.inr (Or.inl h)))))))
  · exact Or.inr (Or.inr (Or.inr (Or.inr (Or.inr (Or.inr (Or.inr (Or.inr (Or.inl h))))))))
  · exact Or.inr (Or.inr (Or.inr (Or.inr (Or.inr (Or.inr (Or.inr (Or.inr (Or.inr (Or.inl h)))))))))
  · exact Or.inr (Or.inr (Or.inr (Or.inr (Or.inr (Or.inr (Or.inr (Or.inr (Or.inr (Or.inr (Or.inl h))))))))))
  · exact Or.inr (Or.inr (Or.inr (Or.inr (Or.inr (Or.inr (Or.inr (Or.inr (Or.inr (Or.inr (Or.inr (Or.inl h)))))))))))
  · exact Or.inr (Or.inr (Or.inr (Or.inr (Or.inr (Or.inr (Or.inr (Or.inr (Or.inr (Or.inr (Or.inr (Or.inr (Or.inl h))))))))))))
  · exact Or.inr (Or.inr (Or.inr (Or.inr (Or.inr (Or.inr (Or.inr (Or.inr (Or.inr (Or.inr (Or.inr (Or.inr (Or.inr (Or.inl h)))))))))))))
  · exact Or.inr (Or.inr (Or.inr (Or.inr (Or.inr (Or.inr (Or.inr (Or.inr (Or.inr (Or.inr (Or.inr (Or.inr (Or.inr (Or.inr (Or.inl h))))))))))))))
  · exact Or.inr (Or.inr (Or.inr (Or.inr (Or.inr (Or.inr (Or.inr (Or.inr (Or.inr (Or.inr (Or.inr (Or.inr (Or.inr (Or.inr (Or.inr (Or.inl h)))))))))))))))
  · exact Or.inr (Or.inr (Or.inr (Or.inr (Or.inr (Or.inr (Or.inr (Or.inr (Or.inr (Or.inr (Or.inr (Or.inr (Or.inr (Or.inr (Or.inr (Or.inr (Or.inl h))))))))))))))))
  · exact Or.inr (Or.inr (Or.inr (Or.inr (Or.inr (Or.inr (Or.inr (Or.inr (Or.inr (Or.inr (Or.inr (Or.inr (Or.inr (Or.inr (Or.inr (Or.inr (Or.inr (Or.inl h)))))))))))))))))
  · exact Or.inr (Or.inr (Or.inr (Or.inr (Or.inr (Or.inr (Or.inr (Or.inr (Or.inr (Or.inr (Or.inr (Or.inr (Or.inr (Or.inr (Or.inr (Or.inr (Or.inr (Or.inr (Or.inl h))))))))))))))))))
theorem RA_r {μ μ' : qM} (h : RA μ) (r : Sr μ μ') : RA μ' := RA_fr h r.1 (fun c i q _ _ => r.2 c i (r0_r q))
theorem RA_r1 {μ μ' : qM} (h : RA μ) (r : Sr1 μ μ') : RA μ' := RA_fr h r.1 (fun c i q _ _ => r.2 c i (r0_1 q))
/-- what pays, places, firms, calls and days write -/
def W80 (c _i : Int) : Prop := fPay c
def W94 (c _i : Int) : Prop := fPlace c
def W81 (c i : Int) : Prop := fFirm c i ∨ (74 ≤ c ∧ c < 140 ∧ (c - 74) % 11 = 0)
def W97 (c _i : Int) : Prop := fLine c
def W98 (c i : Int) : Prop := fLine c ∨ rk c i
def Rf (W : Int → Int → Prop) (μ μ2 : qM) : Prop := RA μ2 ∧ ∀ c i, ¬ W c i → μ2 c i = μ c i
/-- a new firm, in the class's cells -/
def NF (μ μ2 : qM) : Prop := (∀ c i, 74 ≤ c → c < 140 → μ2 c i = μ c i) ∨ ∃ p a b s, (0 ≤ p ∧ p ≤ 5) ∧ (0 ≤ a ∧ a ≤ b ∧ b ≤ 9) ∧ (0 ≤ s ∧ s ≤ 20 * (b - a + 1)) ∧ (∀ f, a ≤ f → f ≤ b → cfw μ (74 + 11 * p) f 200 = -1) ∧ μ (74 + 11 * p) 10 < 3 ∧ (∀ c i, 74 ≤ c → c < 140 → ¬ (c = 74 + 11 * p ∧ i = 10) → ¬ (74 + 11 * p + 5 ≤ c ∧ c ≤ 74 + 11 * p + 8 ∧ i = μ (74 + 11 * p) 10) → μ2 c i = μ c i) ∧ μ2 (74 + 11 * p) 10 = μ (74 + 11 * p) 10 + 1 ∧ μ2 (74 + 11 * p + 5) (μ (74 + 11 * p) 10) = a ∧ μ2 (74 + 11 * p + 6) (μ (74 + 11 * p) 10) = b ∧ μ2 (74 + 11 * p + 7) (μ (74 + 11 * p) 10) = s ∧ μ2 (74 + 11 * p + 8) (μ (74 + 11 * p) 10) ≤ 200
/-! pairs of calls -/
def PE (R : qM → Prop) (j1 j2 : Nat) (as : List qV) (μ : qM) : Prop := qmw 20 j1 ((.inr (.inr (.inl (0)))) :: as) μ (fun v μ1 => ∃ a : Int, v = .inl a ∧ qmw 20 j2 ((.inr (.inr (.inl (170)))) :: as) μ1 (fun w μ2 => w = .inl a ∧ R μ2))
def PW (R : qM → Prop) (j1 j2 : Nat) (as : List qV) (μ : qM) : Prop := qmw 20 j1 ((.inr (.inr (.inl (0)))) :: as) μ (fun v μ1 => ∃ a : Int, v = .inl a ∧ qmw 20 j2 ((.inr (.inr (.inl (170)))) :: as) μ1 (fun w μ2 => ∃ b : Int, w = .inl b ∧ R μ2))
theorem PW_E {R : qM → Prop} {j1 j2 : Nat} {as : List qV} {μ : qM} (h : PE R j1 j2 as μ) : PW R j1 j2 as μ := qmw_cm 20 _ _ _ _ _ (fun v ν q => by
  obtain ⟨a, e, q⟩ := q
  exact ⟨a, e, qmw_cm 20 _ _ _ _ _ (fun w ν2 q2 => ⟨a, q2.1, q2.2⟩) q⟩) h
section WA
variable {μ : qM} (h : RA μ)
end WA
theorem y99 {d : Nat} {Q : qV → qM → Prop} {μ : qM} {a1 a2 a3 : Int} (h : Safe μ) (hQ : ∀ a μ', Safe μ' → (∀ c i, ¬ c = 0 → ¬ (15 ≤ c ∧ c ≤ 56) → μ' c i = μ c i) → Q (.inl a) μ') : qmw (d + 6) 99 [(.inr (.inr (.inl (0)))), (.inl (a1)), (.inl (a2)), (.inl (a3))] μ Q := by
  rw [e99, g99_0, E104, g99_7, qbr]
  simp only [E105, E106, g99_14, g99_21, qbr2, qbr]
  refine ⟨fun _ => hQ _ _ h (fun _ _ _ _ => rfl), fun _ => ⟨fun _ => hQ _ _ h (fun _ _ _ _ => rfl), fun _ => ⟨fun _ => s108 (Sv_rf h) (by omega) (by omega) (fun μ1 hm => ?_), fun _ => hQ _ _ h (fun _ _ _ _ => rfl)⟩⟩⟩
  rw [g99_38]
  refine ⟨by omega, s112 (by omega) (by omega) hm.1 (isP57 (by omega) (by omega)) (by omega) (by omega) (fun a μ2 h2 e fr => ?_)⟩
  rw [g99_50]
  refine hQ _ _ h2 (fun c i q1 q2 => ?_)
  rw [fr c i q1, hm.2 c i (by omega)]
theorem y174 {d : Nat} {Q : qV → qM → Prop} {μ : qM} {a1 a2 a3 : Int} (h : Safe μ) (hQ : ∀ a μ', Safe μ' → (∀ c i, ¬ (c = 170 ∧ i = 0) → μ' c i = μ c i) → Q (.inl a) μ') : qmw (d + 4) 174 [(.inr (.inr (.inl (170)))), (.inl (a1)), (.inl (a2)), (.inl (a3))] μ Q := by
  rw [e174, g174_0, E117, g174_7, qbr2]
  simp only [E133, E134, g174_14, g174_21, qbr2, qbr]
  refine ⟨fun _ => hQ _ _ h (fun _ _ _ => rfl), fun _ => ⟨fun _ => hQ _ _ h (fun _ _ _ => rfl), fun _ => ⟨fun _ => s136 h (by omega) (by omega) (fun a ha => ?_), fun _ => hQ _ _ h (fun _ _ _ => rfl)⟩⟩⟩
  have hf := sa_mfirms h a2
  rw [g174_36, q32_id (z := 10 * a2) (by omega) (by omega), q32_id (z := 10 * a2 + a3) (by omega) (by omega)]
  have q : ∀ b, Q (.inl b) (qu μ 170 0 (q64 (μ 170 0 + wT a1))) := fun b => hQ _ _ (Safe_170 h) (fun c i q => qu_ne q)
  clear hQ
  have k1 : ∀ a4 a6 b c, qW (d + 3) 174 Q 111 [some (.inr (.inr (.inl (170)))), some (.inl (a1)), some (.inl (a2)), some (.inl (a3)), some (.inl (a4)), some (.inl (10 * a2 + a3)), some (.inl (a6)), none, none] [(.inl (b)), (.inl (c))] μ := fun a4 a6 b c => k174 (by omega) (by omega) (by omega) (by omega) q
  have k2 : ∀ a6, ¬ a = -9 → qmw (d + 3) 139 [(.inr (.inr (.inl (170)))), (.inl (a2)), (.inl (a3)), (.inl (μ 170 1))] μ (fun v ν => qW (d + 3) 174 Q 92 [some (.inr (.inr (.inl (170)))), some (.inl (a1)), some (.inl (a2)), some (.inl (a3)), some (.inl (a)), some (.inl (10 * a2 + a3)), some (.inl (a6)), none, none] (v :: [(.inl (1))]) ν) := fun a6 h9 => by
    refine s139 h (by omega) (by omega) (by omega) (by omega) (fun b => ?_)
    rw [g174_92]
    refine s146 h (by omega) (by omega) (fun c => ?_)
    rw [g174_100]
    refine s131 h (fun e => ?_)
    rw [g174_107, E142]
    exact k1 _ _ _ _
  exact ⟨fun h9 => ⟨by omega, fun h9 => k2 _ h9, fun _ => k1 _ _ _ _⟩, fun _ => ⟨fun h9 => k2 _ h9, fun _ => k1 _ _ _ _⟩⟩
