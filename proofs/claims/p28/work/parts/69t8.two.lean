/-! TEXT AND RULES IN THE RELATION: type, clear, rules, due -/
def RText (μ : qM) : Prop := BT (μ 2) (μ 1 2) μ
def RRules (μ : qM) : Prop := μ 9 5 = μ 170 4 ∧ (∀ c i, 0 ≤ c → c ≤ 4 → 0 ≤ i → i < μ 9 5 → μ (10 + c) i = μ (172 + c) i) ∧ ∀ i, 0 ≤ i → i < μ 9 5 → RGf (bC μ) i
def ft (c i : Int) : Prop := (c = 1 ∧ i = 2) ∨ c = 2 ∨ (9 ≤ c ∧ c ≤ 14) ∨ (c = 170 ∧ (i = 3 ∨ i = 4)) ∨ (171 ≤ c ∧ c ≤ 176)
def R2 (μ : qM) : Prop := RA μ ∧ RText μ ∧ RRules μ
theorem RText_fr {μ μ' : qM} (h : RText μ) (k : ∀ c i, ((c = 1 ∧ i = 2) ∨ c = 2 ∨ (c = 170 ∧ i = 3) ∨ c = 171) → μ' c i = μ c i) : RText μ' := by
  have e2 : μ' 2 = μ 2 := by
    funext i
    exact k _ _ (by omega)
  unfold RText BT
  rw [k 1 2 (by omega), k 170 3 (by omega), e2]
  refine ⟨h.1, fun i q1 q2 => ?_⟩
  rw [k 171 i (by omega)]
  exact h.2 i q1 q2
theorem RRules_fr {μ μ' : qM} (hS : Safe μ) (h : RRules μ) (k : ∀ c i, ((9 ≤ c ∧ c ≤ 14) ∨ (c = 170 ∧ i = 4) ∨ (172 ≤ c ∧ c ≤ 176 ∧ i < 6)) → μ' c i = μ c i) : RRules μ' := by
  have hz := sa_bsz hS
  refine ⟨?_, fun c i q1 q2 q3 q4 => ?_, fun i q1 q2 => ?_⟩
  · rw [k 9 5 (by omega), k 170 4 (by omega)]
    exact h.1
  · rw [k 9 5 (by omega)] at q4
    rw [k _ _ (by omega), k _ _ (by omega)]
    exact h.2.1 c i q1 q2 q3 q4
  · rw [k 9 5 (by omega)] at q2
    have bE : ∀ c j, 0 ≤ c → c ≤ 4 → bC μ' c j = bC μ c j := fun c j k1 k2 => k _ _ (by omega)
    unfold RGf
    rw [bE 0 _ (by decide) (by decide), bE 1 _ (by decide) (by decide), bE 2 _ (by decide) (by decide), bE 3 _ (by decide) (by decide), bE 4 _ (by decide) (by decide)]
    exact h.2.2 i q1 q2
theorem R2_fr {μ μ' : qM} (h : R2 μ) (hA : RA μ') (k : ∀ c i, ft c i → μ' c i = μ c i) : R2 μ' := ⟨hA, RText_fr h.2.1 (fun c i q => k c i (by unfold ft; omega)), RRules_fr h.1.1 h.2.2 (fun c i q => k c i (by unfold ft; omega))⟩
theorem R2_r {μ μ' : qM} (h : R2 μ) (r : Sr μ μ') : R2 μ' := R2_fr h (RA_r h.1 r) (fun c i q => r.2 c i (by unfold ft at q; unfold relv; rcases q with q | q | q | q | q <;> (first | exact Or.inl (by omega) | exact Or.inr (Or.inl (by omega)) | exact Or.inr (Or.inr (Or.inl (by omega))) | exact Or.inr (Or.inr (Or.inr (Or.inl (by omega)))) | exact Or.inr (Or.inr (Or.inr (Or.inr (Or.inl (by omega))))) | exact Or.inr (Or.inr (Or.inr (Or.inr (Or.inr (Or.inl (by omega)))))) | exact Or.inr (Or.inr (Or.inr (Or.inr (Or.inr (Or.inr (Or.inl (by omega))))))) | exact Or.inr (Or.inr (Or.inr (Or.inr (Or.inr (Or.inr (Or.inr (Or.inl (by omega)))))))) | exact Or.inr (Or.inr (Or.inr (Or.inr (Or.inr (Or.inr (Or.inr (Or.inr (Or.inl (by omega))))))))) | exact Or.inr (Or.inr (Or.inr (Or.inr (Or.inr (Or.inr (Or.inr (Or.inr (Or.inr (Or.inl (by omega)))))))))) | exact Or.inr (Or.inr (Or.inr (Or.inr (Or.inr (Or.inr (Or.inr (Or.inr (Or.inr (Or.inr (Or.inl (by omega))))))))))) | exact Or.inr (Or.inr (Or.inr (Or.inr (Or.inr (Or.inr (Or.inr (Or.inr (Or.inr (Or.inr (Or.inr (Or.inl (by omega)))))))))))) | exact Or.inr (Or.inr (Or.inr (Or.inr (Or.inr (Or.inr (Or.inr (Or.inr (Or.inr (Or.inr (Or.inr (Or.inr (Or.inl (by omega))))))))))))) | exact Or.inr (Or.inr (Or.inr (Or.inr (Or.inr (Or.inr (Or.inr (Or.inr (Or.inr (Or.inr (Or.inr (Or.inr (Or.inr (Or.inl (by omega)))))))))))))) | exact Or.inr (Or.inr (Or.inr (Or.inr (Or.inr (Or.inr (Or.inr (Or.inr (Or.inr (Or.inr (Or.inr (Or.inr (Or.inr (Or.inr (Or.inl (by omega))))))))))))))) | exact Or.inr (Or.inr (Or.inr (Or.inr (Or.inr (Or.inr (Or.inr (Or.inr (Or.inr (Or.inr (Or.inr (Or.inr (Or.inr (Or.inr (Or.inr (Or.inl (by omega)))))))))))))))) | exact Or.inr (Or.inr (Or.inr (Or.inr (Or.inr (Or.inr (Or.inr (Or.inr (Or.inr (Or.inr (Or.inr (Or.inr (Or.inr (Or.inr (Or.inr (Or.inr (Or.inl (by omega))))))))))))))))) | exact Or.inr (Or.inr (Or.inr (Or.inr (Or.inr (Or.inr (Or.inr (Or.inr (Or.inr (Or.inr (Or.inr (Or.inr (Or.inr (Or.inr (Or.inr (Or.inr (Or.inr (Or.inl (by omega)))))))))))))))))) | exact Or.inr (Or.inr (Or.inr (Or.inr (Or.inr (Or.inr (Or.inr (Or.inr (Or.inr (Or.inr (Or.inr (Or.inr (Or.inr (Or.inr (Or.inr (Or.inr (Or.inr (Or.inr (Or.inl (by omega))))))))))))))))))) | exact Or.inr (Or.inr (Or.inr (Or.inr (Or.inr (Or.inr (Or.inr (Or.inr (Or.inr (Or.inr (Or.inr (Or.inr (Or.inr (Or.inr (Or.inr (Or.inr (Or.inr (Or.inr (Or.inr (Or.inl (by omega)))))))))))))))))))) | exact Or.inr (Or.inr (Or.inr (Or.inr (Or.inr (Or.inr (Or.inr (Or.inr (Or.inr (Or.inr (Or.inr (Or.inr (Or.inr (Or.inr (Or.inr (Or.inr (Or.inr (Or.inr (Or.inr (Or.inr (Or.inl (by omega))))))))))))))))))))) | exact Or.inr (Or.inr (Or.inr (Or.inr (Or.inr (Or.inr (Or.inr (Or.inr (Or.inr (Or.inr (Or.inr (Or.inr (Or.inr (Or.inr (Or.inr (Or.inr (Or.inr (Or.inr (Or.inr (Or.inr (Or.inr (Or.inl (by omega)))))))))))))))))))))) | exact Or.inr (Or.inr (Or.inr (Or.inr (Or.inr (Or.inr (Or.inr (Or.inr (Or.inr (Or.inr (Or.inr (Or.inr (Or.inr (Or.inr (Or.inr (Or.inr (Or.inr (Or.inr (Or.inr (Or.inr (Or.inr (Or.inr (Or.inl (by omega))))))))))))))))))))))) | exact Or.inr (Or.inr (Or.inr (Or.inr (Or.inr (Or.inr (Or.inr (Or.inr (Or.inr (Or.inr (Or.inr (Or.inr (Or.inr (Or.inr (Or.inr (Or.inr (Or.inr (Or.inr (Or.inr (Or.inr (Or.inr (Or.inr (Or.inr (Or.inl (by omega)))))))))))))))))))))))) | exact Or.inr (Or.inr (Or.inr (Or.inr (Or.inr (Or.inr (Or.inr (Or.inr (Or.inr (Or.inr (Or.inr (Or.inr (Or.inr (Or.inr (Or.inr (Or.inr (Or.inr (Or.inr (Or.inr (Or.inr (Or.inr (Or.inr (Or.inr (Or.inr (Or.inl (by omega))))))))))))))))))))))))) | exact Or.inr (Or.inr (Or.inr (Or.inr (Or.inr (Or.inr (Or.inr (Or.inr (Or.inr (Or.inr (Or.inr (Or.inr (Or.inr (Or.inr (Or.inr (Or.inr (Or.inr (Or.inr (Or.inr (Or.inr (Or.inr (Or.inr (Or.inr (Or.inr (Or.inr (by omega))))))))))))))))))))))))))))
theorem R2_d {μ μ' : qM} (h : R2 μ) (r : Sd μ μ') : R2 μ' := R2_fr h (RA_fr h.1 r.1 (fun c i q _ _ => r.2 c i (by unfold relv0 at q; omega))) (fun c i q => r.2 c i (by unfold ft at q; omega))
theorem R2_r1 {μ μ' : qM} (h : R2 μ) (r : Sr1 μ μ') : R2 μ' := R2_fr h (RA_r1 h.1 r) (fun c i q => r.2 c i (by unfold ft at q; unfold relv1; rcases q with q | q | q | q | q <;> (first | exact Or.inl (by omega) | exact Or.inr (Or.inl (by omega)) | exact Or.inr (Or.inr (Or.inl (by omega))) | exact Or.inr (Or.inr (Or.inr (Or.inl (by omega)))) | exact Or.inr (Or.inr (Or.inr (Or.inr (Or.inl (by omega))))) | exact Or.inr (Or.inr (Or.inr (Or.inr (Or.inr (Or.inl (by omega)))))) | exact Or.inr (Or.inr (Or.inr (Or.inr (Or.inr (Or.inr (Or.inl (by omega))))))) | exact Or.inr (Or.inr (Or.inr (Or.inr (Or.inr (Or.inr (Or.inr (Or.inl (by omega)))))))) | exact Or.inr (Or.inr (Or.inr (Or.inr (Or.inr (Or.inr (Or.inr (Or.inr (Or.inl (by omega))))))))) | exact Or.inr (Or.inr (Or.inr (Or.inr (Or.inr (Or.inr (Or.inr (Or.inr (Or.inr (Or.inl (by omega)))))))))) | exact Or.inr (Or.inr (Or.inr (Or.inr (Or.inr (Or.inr (Or.inr (Or.inr (Or.inr (Or.inr (Or.inl (by omega))))))))))) | exact Or.inr (Or.inr (Or.inr (Or.inr (Or.inr (Or.inr (Or.inr (Or.inr (Or.inr (Or.inr (Or.inr (Or.inl (by omega)))))))))))) | exact Or.inr (Or.inr (Or.inr (Or.inr (Or.inr (Or.inr (Or.inr (Or.inr (Or.inr (Or.inr (Or.inr (Or.inr (Or.inl (by omega))))))))))))) | exact Or.inr (Or.inr (Or.inr (Or.inr (Or.inr (Or.inr (Or.inr (Or.inr (Or.inr (Or.inr (Or.inr (Or.inr (Or.inr (Or.inl (by omega)))))))))))))) | exact Or.inr (Or.inr (Or.inr (Or.inr (Or.inr (Or.inr (Or.inr (Or.inr (Or.inr (Or.inr (Or.inr (Or.inr (Or.inr (Or.inr (Or.inl (by omega))))))))))))))) | exact Or.inr (Or.inr (Or.inr (Or.inr (Or.inr (Or.inr (Or.inr (Or.inr (Or.inr (Or.inr (Or.inr (Or.inr (Or.inr (Or.inr (Or.inr (Or.inl (by omega)))))))))))))))) | exact Or.inr (Or.inr (Or.inr (Or.inr (Or.inr (Or.inr (Or.inr (Or.inr (Or.inr (Or.inr (Or.inr (Or.inr (Or.inr (Or.inr (Or.inr (Or.inr (Or.inl (by omega))))))))))))))))) | exact Or.inr (Or.inr (Or.inr (Or.inr (Or.inr (Or.inr (Or.inr (Or.inr (Or.inr (Or.inr (Or.inr (Or.inr (Or.inr (Or.inr (Or.inr (Or.inr (Or.inr (Or.inl (by omega)))))))))))))))))) | exact Or.inr (Or.inr (Or.inr (Or.inr (Or.inr (Or.inr (Or.inr (Or.inr (Or.inr (Or.inr (Or.inr (Or.inr (Or.inr (Or.inr (Or.inr (Or.inr (Or.inr (Or.inr (Or.inl (by omega))))))))))))))))))) | exact Or.inr (Or.inr (Or.inr (Or.inr (Or.inr (Or.inr (Or.inr (Or.inr (Or.inr (Or.inr (Or.inr (Or.inr (Or.inr (Or.inr (Or.inr (Or.inr (Or.inr (Or.inr (Or.inr (Or.inl (by omega)))))))))))))))))))) | exact Or.inr (Or.inr (Or.inr (Or.inr (Or.inr (Or.inr (Or.inr (Or.inr (Or.inr (Or.inr (Or.inr (Or.inr (Or.inr (Or.inr (Or.inr (Or.inr (Or.inr (Or.inr (Or.inr (Or.inr (Or.inl (by omega))))))))))))))))))))) | exact Or.inr (Or.inr (Or.inr (Or.inr (Or.inr (Or.inr (Or.inr (Or.inr (Or.inr (Or.inr (Or.inr (Or.inr (Or.inr (Or.inr (Or.inr (Or.inr (Or.inr (Or.inr (Or.inr (Or.inr (Or.inr (Or.inl (by omega)))))))))))))))))))))) | exact Or.inr (Or.inr (Or.inr (Or.inr (Or.inr (Or.inr (Or.inr (Or.inr (Or.inr (Or.inr (Or.inr (Or.inr (Or.inr (Or.inr (Or.inr (Or.inr (Or.inr (Or.inr (Or.inr (Or.inr (Or.inr (Or.inr (Or.inl (by omega))))))))))))))))))))))) | exact Or.inr (Or.inr (Or.inr (Or.inr (Or.inr (Or.inr (Or.inr (Or.inr (Or.inr (Or.inr (Or.inr (Or.inr (Or.inr (Or.inr (Or.inr (Or.inr (Or.inr (Or.inr (Or.inr (Or.inr (Or.inr (Or.inr (Or.inr (by omega))))))))))))))))))))))))))
theorem R2_f {W : Int → Int → Prop} {μ μ' : qM} (h : R2 μ) (hW : ∀ c i, ft c i → ¬ W c i) (r : Rf W μ μ') : R2 μ' := R2_fr h r.1 (fun c i q => r.2 c i (hW c i q))
theorem PE_m {R R' : qM → Prop} {j1 j2 : Nat} {as : List qV} {μ : qM} (h : PE R j1 j2 as μ) (k : ∀ μ2, R μ2 → R' μ2) : PE R' j1 j2 as μ := qmw_cm 20 _ _ _ _ _ (fun v μ1 z => by
  obtain ⟨a, ea, z⟩ := z
  exact ⟨a, ea, qmw_cm 20 _ _ _ _ _ (fun w μ2 y => ⟨y.1, k μ2 y.2⟩) z⟩) h
/-- what type and clear leave alone; what rules leaves alone -/
def Ft (μ μ2 : qM) : Prop := ∀ c i, ¬ ((c = 1 ∧ i = 2) ∨ c = 2 ∨ (c = 170 ∧ i = 3) ∨ c = 171) → μ2 c i = μ c i
def Fu (μ μ2 : qM) : Prop := (∀ c i, ¬ (1 ≤ c ∧ c ≤ 14) → ¬ (c = 16 ∧ i = 4) → ¬ (c = 170 ∧ (i = 3 ∨ i = 4 ∨ 10 ≤ i)) → ¬ (172 ≤ c ∧ c ≤ 176) → ¬ (186 ≤ c ∧ c ≤ 190) → μ2 c i = μ c i) ∧ (μ2 16 4 = -2 ∨ ((∀ c i, 9 ≤ c → c ≤ 14 → μ2 c i = μ c i) ∧ μ2 16 4 = μ 16 4))
theorem PW_m {R R' : qM → Prop} {j1 j2 : Nat} {as : List qV} {μ : qM} (h : PW R j1 j2 as μ) (k : ∀ μ2, R μ2 → R' μ2) : PW R' j1 j2 as μ := qmw_cm 20 _ _ _ _ _ (fun v μ1 z => by
  obtain ⟨a, ea, z⟩ := z
  exact ⟨a, ea, qmw_cm 20 _ _ _ _ _ (fun w μ2 y => by
    obtain ⟨b, eb, y⟩ := y
    exact ⟨b, eb, k μ2 y⟩) z⟩) h
section PB
variable {μ : qM}
theorem wb83 {a1 a2 : Int} (h : R2 μ) : PW R2 83 145 [(.inl (a1)), (.inl (a2))] μ := s83 (Sr_rf h.1.1) (fun a μ1 r1 => ⟨a, rfl, s145 (Sn_rf r1.1) (fun b μ2 r2 => ⟨b, rfl, R2_r (R2_r h r1) (Sn_r r2)⟩)⟩)
theorem wb84 {a1 a2 a3 : Int} (h : R2 μ) : PW R2 84 149 [(.inl (a1)), (.inl (a2)), (.inl (a3))] μ := s84 (Sr_rf h.1.1) (fun a μ1 r1 => ⟨a, rfl, s149 (Sn_rf r1.1) (fun b μ2 r2 => ⟨b, rfl, R2_r (R2_r h r1) (Sn_r r2)⟩)⟩)
theorem wb85 {a1 a2 : Int} (h : R2 μ) : PW R2 85 151 [(.inl (a1)), (.inl (a2))] μ := s85 (Sr_rf h.1.1) (fun a μ1 r1 => ⟨a, rfl, s151 (Sn_rf r1.1) (fun b μ2 r2 => ⟨b, rfl, R2_r (R2_r h r1) (Sn_r r2)⟩)⟩)
theorem wb86 {a1 a2 a3 a4 : Int} (h : R2 μ) : PW R2 86 152 [(.inl (a1)), (.inl (a2)), (.inl (a3)), (.inl (a4))] μ := s86 (Sr_rf h.1.1) (fun a μ1 r1 => ⟨a, rfl, s152 (Sn_rf r1.1) (fun b μ2 r2 => ⟨b, rfl, R2_r (R2_r h r1) (Sn_r r2)⟩)⟩)
theorem wb87 {a1 a2 a3 : Int} (h : R2 μ) : PW R2 87 157 [(.inl (a1)), (.inl (a2)), (.inl (a3))] μ := s87 (Sr_rf h.1.1) (fun a μ1 r1 => ⟨a, rfl, s157 (Sn_rf r1.1) (fun b μ2 r2 => ⟨b, rfl, R2_r (R2_r h r1) (Sn_r r2)⟩)⟩)
theorem wb88 {a1 a2 : Int} (h : R2 μ) : PW R2 88 158 [(.inl (a1)), (.inl (a2))] μ := s88 (Sr_rf h.1.1) (fun a μ1 r1 => ⟨a, rfl, s158 (Sn_rf r1.1) (fun b μ2 r2 => ⟨b, rfl, R2_r (R2_r h r1) (Sn_r r2)⟩)⟩)
theorem wb89 {a1 a2 : Int} (h : R2 μ) : PW R2 89 160 [(.inl (a1)), (.inl (a2))] μ := s89 (Sr_rf h.1.1) (fun a μ1 r1 => ⟨a, rfl, s160 (Sn_rf r1.1) (fun b μ2 r2 => ⟨b, rfl, R2_r (R2_r h r1) (Sn_r r2)⟩)⟩)
theorem wb90 {a1 a2 a3 a4 : Int} (h : R2 μ) : PW R2 90 167 [(.inl (a1)), (.inl (a2)), (.inl (a3)), (.inl (a4))] μ := s90 (Sd_rf h.1.1) (fun a μ1 r1 => ⟨a, rfl, s167 (Sn_rf r1.1) (fun b μ2 r2 => ⟨b, rfl, R2_r (R2_d h r1) (Sn_r r2)⟩)⟩)
theorem wb91 {a1 : Int} (h : R2 μ) : PW R2 91 168 [(.inl (a1))] μ := s91 (Sd_rf h.1.1) (fun a μ1 r1 => ⟨a, rfl, s168 (Sn_rf r1.1) (fun b μ2 r2 => ⟨b, rfl, R2_r (R2_d h r1) (Sn_r r2)⟩)⟩)
theorem wb92 {a1 a2 : Int} (h : R2 μ) : PW R2 92 169 [(.inl (a1)), (.inl (a2))] μ := s92 (Sd_rf h.1.1) (fun a μ1 r1 => ⟨a, rfl, s169 (Sn_rf r1.1) (fun b μ2 r2 => ⟨b, rfl, R2_r (R2_d h r1) (Sn_r r2)⟩)⟩)
theorem wb93 {a1 a2 : Int} (h : R2 μ) : PW R2 93 170 [(.inl (a1)), (.inl (a2))] μ := s93 (Sr_rf h.1.1) (fun a μ1 r1 => ⟨a, rfl, s170 (Sn_rf r1.1) (fun b μ2 r2 => ⟨b, rfl, R2_r (R2_r h r1) (Sn_r r2)⟩)⟩)
theorem wb95 {a1 : Int} (h : R2 μ) : PW R2 95 163 [(.inl (a1))] μ := s95 (Sd_rf h.1.1) (fun a μ1 r1 => ⟨a, rfl, s163 (Sn_rf r1.1) (fun b μ2 r2 => ⟨b, rfl, R2_r (R2_d h r1) (Sn_r r2)⟩)⟩)
theorem wb96 {a1 a2 : Int} (h : R2 μ) : PW R2 96 165 [(.inl (a1)), (.inl (a2))] μ := s96 (Sd_rf h.1.1) (fun a μ1 r1 => ⟨a, rfl, s165 (Sn_rf r1.1) (fun b μ2 r2 => ⟨b, rfl, R2_r (R2_d h r1) (Sn_r r2)⟩)⟩)
theorem wb102 {a1 : Int} (h : R2 μ) : PW R2 102 179 [(.inl (a1))] μ := s102 (Sd_rf h.1.1) (fun a μ1 r1 => ⟨a, rfl, s179 (Sn_rf r1.1) (fun b μ2 r2 => ⟨b, rfl, R2_r (R2_d h r1) (Sn_r r2)⟩)⟩)
theorem wb82 {a1 a2 a3 : Int} (h : R2 μ) : PW R2 82 143 [(.inl (a1)), (.inl (a2)), (.inl (a3))] μ := s82 (Sr1_rf h.1.1) (fun a μ1 r1 => ⟨a, rfl, s143 (Sr1_rf r1.1) (fun b μ2 r2 => ⟨b, rfl, R2_r1 (R2_r1 h r1) r2⟩)⟩)
theorem wb99 {a1 a2 a3 : Int} (h : R2 μ) : PW R2 99 174 [(.inl (a1)), (.inl (a2)), (.inl (a3))] μ := y99 h.1.1 (fun a μ1 s1 f1 => ⟨a, rfl, y174 s1 (fun b μ2 s2 f2 => ⟨b, rfl, by
  have h1 : R2 μ1 := R2_fr h (RA_fr h.1 s1 (fun c i q q1 q2 => f1 c i q1 (by unfold relv0 at q; omega))) (fun c i q => f1 c i (by unfold ft at q; omega) (by unfold ft at q; omega))
  exact R2_fr h1 (RA_fr h1.1 s2 (fun c i q q1 q2 => f2 c i q2)) (fun c i q => f2 c i (by unfold ft at q; omega))⟩)⟩)
theorem pb80 {a1 a2 a3 a4 : Int} (h : R2 μ) : PE R2 80 135 [(.inl (a1)), (.inl (a2)), (.inl (a3)), (.inl (a4))] μ := PE_m (pa80 h.1) (fun _ r => R2_f h (fun c i q => by unfold ft at q; unfold W80 fPay; omega) r)
theorem pb94 {a1 a2 a3 : Int} (h : R2 μ) : PE R2 94 162 [(.inl (a1)), (.inl (a2)), (.inl (a3))] μ := PE_m (pa94 h.1) (fun _ r => R2_f h (fun c i q => by unfold ft at q; unfold W94 fPlace; omega) r)
theorem pb81 {a1 a2 a3 a4 : Int} (h : R2 μ) : PE R2 81 137 [(.inl (a1)), (.inl (a2)), (.inl (a3)), (.inl (a4))] μ := PE_m (pa81 h.1) (fun _ r => R2_f h (fun c i q => by unfold ft at q; unfold W81 fFirm; omega) r.1)
theorem pb97 {a1 a2 : Int} (h : R2 μ) : PE R2 97 172 [(.inl (a1)), (.inl (a2))] μ := PE_m (pa97 h.1) (fun _ r => R2_f h (fun c i q => by unfold ft at q; unfold W97 fLine; omega) r)
theorem pb98 (h : R2 μ) : PE R2 98 173 [] μ := PE_m (pa98 h.1) (fun _ r => R2_f h (fun c i q => by unfold ft at q; unfold W98 fLine rk; omega) r)
theorem pb100 {a1 : Int} (h : R2 μ) : PE R2 100 177 [(.inl (a1))] μ := p100_g h.1 h (fun C _ hC s K => R2_fr h (RA_keep h.1 hC s K) (fun c i q => K.1 c i (by unfold ft at q; omega) (by unfold ft at q; omega) (by unfold ft at q; omega)))
theorem pb101 {a1 : Int} (h : R2 μ) : PE R2 101 178 [(.inl (a1))] μ := p101_g h.1 h (fun C _ hC s K => R2_fr h (RA_back h.1 hC s K) (fun c i q => K.1 c i (by unfold ft at q; omega) (by unfold ft at q; omega) (by unfold ft at q; omega)))
/-- due -/
theorem p79f {a1 a2 : Int} (h : R2 μ) : PE (fun μ2 => μ2 = μ) 79 132 [(.inl (a1)), (.inl (a2))] μ := by
  obtain ⟨hA, hT, r1, r2, r3⟩ := id h
  have hS := hA.1
  have hz := sa_bsz hS
  have bM' : ∀ i, 0 ≤ i → i < μ 170 4 → RGf (bM μ) i := fun i q1 q2 => by
    have z := r3 i q1 (by omega)
    have b : ∀ c, 0 ≤ c → c ≤ 4 → bM μ c i = bC μ c i := fun c k1 k2 => (r2 c i k1 k2 q1 (by omega)).symm
    unfold RGf
    rw [b 0 (by decide) (by decide), b 1 (by decide) (by decide), b 2 (by decide) (by decide), b 3 (by decide) (by decide), b 4 (by decide) (by decide)]
    exact z
  have no : ¬ (0 ≤ a1 ∧ a1 ≤ 20 ∧ 0 ≤ a2 ∧ a2 ≤ 200) → ∃ a : Int, (.inl (-1) : qV) = .inl a ∧ qmw 20 132 [(.inr (.inr (.inl (170)))), (.inl (a1)), (.inl (a2))] μ (fun w μ2 => w = .inl a ∧ μ2 = μ) := fun q => ⟨_, rfl, by
    rw [e132, g132_0, E117, g132_7, qbr2]
    simp only [E130, g132_14, qbr2]
    exact ⟨fun _ => ⟨trivial, trivial⟩, fun q1 => ⟨fun _ => ⟨trivial, trivial⟩, fun q2 => absurd ⟨q1.1, q1.2, q2.1, q2.2⟩ q⟩⟩⟩
  unfold PE
  rw [e79, g79_0, E104, g79_7, qbr]
  simp only [E104, g79_18, qbr2]
  refine ⟨fun q => no (by omega), fun q => ⟨fun q2 => x48 hS ?_, fun q2 => no (by omega)⟩⟩
  have lr := lfn_r (μ 10) a2 (μ 9 5).toNat
  rw [g79_35]
  refine x49 hS lr.1 (by omega) r3 ?_
  rw [g79_39]
  refine ⟨_, rfl, ?_⟩
  rw [e132, g132_0, E117, g132_7, qbr2]
  simp only [E130, g132_14, qbr2]
  refine ⟨fun z => absurd ⟨by omega, by omega⟩ z, fun _ => ⟨fun z => absurd ⟨by omega, by omega⟩ z, fun _ => x131 hS (by omega) (by omega) bM' ?_⟩⟩
  rw [g132_23]
  refine ⟨?_, rfl⟩
  have e1 : lfn (μ 172) a2 (μ 170 4).toNat = lfn (μ 10) a2 (μ 9 5).toNat := by
    rw [← r1]
    exact lfn_cg _ (fun i q1 q2 => by
      have := r2 0 i (by decide) (by decide) q1 (by omega)
      exact this.symm)
  have e2 : dueB (bM μ) (lfn (μ 10) a2 (μ 9 5).toNat) a1 = dueB (bC μ) (lfn (μ 10) a2 (μ 9 5).toNat) a1 := by
    unfold dueB
    by_cases q5 : lfn (μ 10) a2 (μ 9 5).toNat < 0
    · rw [if_pos q5, if_pos q5]
    · have b : ∀ c, 1 ≤ c → c ≤ 4 → bM μ c (lfn (μ 10) a2 (μ 9 5).toNat) = bC μ c (lfn (μ 10) a2 (μ 9 5).toNat) := fun c k1 k2 => (r2 c _ (by omega) k2 (by omega) (by omega)).symm
      rw [if_neg q5, if_neg q5, b 1 (by decide) (by decide), b 2 (by decide) (by decide), b 3 (by decide) (by decide), b 4 (by decide) (by decide)]
  rw [e1, e2]
theorem pb79 {a1 a2 : Int} (h : R2 μ) : PE R2 79 132 [(.inl (a1)), (.inl (a2))] μ := PE_m (p79f h) (fun _ e => by rw [e]; exact h)
/-- clear -/
theorem p77f (h : R2 μ) : PE (fun μ2 => R2 μ2 ∧ Ft μ μ2) 77 119 [] μ := by
  obtain ⟨hA, hT, hR⟩ := id h
  have hS := hA.1
  have s1 : Safe (qu μ 1 2 0) := by
    refine Safe_u hS ?_ (by omega) (by omega) (by omega) (by omega)
    unfold sf
    refine ⟨?_, ?_, ?_, ?_, ?_, ?_, ?_, ?_, ?_, ?_, ?_, ?_, ?_, ?_, ?_, ?_, ?_, ?_, ?_, ?_, ?_, ?_, ?_, ?_, ?_, ?_, ?_, ?_, ?_, ?_, ?_⟩ <;> intros <;> omega
  have s2 : Safe (qu (qu μ 1 2 0) 170 3 0) := by
    refine Safe_u s1 ?_ (by omega) (by omega) (by omega) (by omega)
    unfold sf
    refine ⟨?_, ?_, ?_, ?_, ?_, ?_, ?_, ?_, ?_, ?_, ?_, ?_, ?_, ?_, ?_, ?_, ?_, ?_, ?_, ?_, ?_, ?_, ?_, ?_, ?_, ?_, ?_, ?_, ?_, ?_, ?_⟩ <;> intros <;> omega
  have F : ∀ c i, ¬ (c = 1 ∧ i = 2) → ¬ (c = 170 ∧ i = 3) → qu (qu μ 1 2 0) 170 3 0 c i = μ c i := fun c i q1 q2 => by
    rw [qu_ne q2, qu_ne q1]
  unfold PE
  rw [e77, g77_0]
  refine ⟨_, rfl, ?_⟩
  rw [e119, g119_0, qu_ne (μ := μ) (by omega), hT.1]
  refine ⟨rfl, ⟨RA_fr hA s2 (fun c i q _ _ => F c i (by unfold relv0 at q; omega) (by unfold relv0 at q; omega)), ⟨?_, fun i q1 q2 => ?_⟩, RRules_fr hS hR (fun c i q => F c i (by omega) (by omega))⟩, fun c i q => F c i (by omega) (by omega)⟩
  · rw [qu_same, qu_ne (by omega), qu_same]
  · rw [qu_ne (by omega), qu_same] at q2
    omega
theorem pb77 (h : R2 μ) : PE R2 77 119 [] μ := PE_m (p77f h) (fun _ r => r.1)
/-- type -/
theorem p76f {w n : Int} (h : R2 μ) : PE (fun μ2 => R2 μ2 ∧ Ft μ μ2) 76 118 [(.inr (.inl (w))), (.inl (n))] μ := by
  obtain ⟨hA, hT, hR⟩ := id h
  have hS := hA.1
  have hl := sa_len hS
  have e3 : μ 170 3 = μ 1 2 := hT.1
  unfold PE
  rw [e76, g76_0, E104, g76_7, qbr2]
  refine ⟨fun q => ?_, fun q => ⟨_, rfl, x118 hS (fun a μ2 z => ?_)⟩⟩
  · rw [q32_id (z := μ 1 2 + n) (by omega) (by omega)]
    refine ⟨fun q2 => x52 ⟨hS, fun _ _ _ => rfl⟩ (by omega) (by omega) q2 (fun μ1 s1 e1 f1 b1 => ?_), fun q2 => ⟨_, rfl, x118 hS (fun a μ2 z => ?_)⟩⟩
    · rw [g76_39]
      have e13 : μ1 170 3 = μ 1 2 := by
        rw [f1 _ _ (by omega) (by omega), e3]
      refine ⟨_, rfl, x118 s1.1 (fun a μ2 z => ?_)⟩
      rcases z with ⟨z, -⟩ | ⟨-, z, -⟩ | ⟨-, -, z1, z2, z3, z4, z5⟩
      · omega
      · omega
      · rw [e13] at z1 z3 z4 z5
        have F : ∀ c i, ¬ (c = 1 ∧ i = 2) → ¬ c = 2 → ¬ (c = 170 ∧ i = 3) → ¬ c = 171 → μ2 c i = μ c i := fun c i q1 q2 q3 q4 => by
          rw [z4 c i q3 (by omega)]
          exact f1 c i q1 (by omega)
        have g12 : μ2 1 2 = μ 1 2 + n := by
          rw [z4 1 2 (by omega) (by omega), e1]
        refine ⟨by rw [z1, e1], ⟨RA_fr hA z2 (fun c i q _ _ => F c i (by unfold relv0 at q; omega) (by unfold relv0 at q; omega) (by unfold relv0 at q; omega) (by unfold relv0 at q; omega)), ⟨?_, fun i q1 q2 => ?_⟩, RRules_fr hS hR (fun c i q => F c i (by omega) (by omega) (by omega) (by omega))⟩, fun c i q => F c i (by omega) (by omega) (by omega) (by omega)⟩
        · rw [g12, z3]
        · rw [g12] at q2
          by_cases q3 : i < μ 1 2
          · rw [z4 171 i (by omega) (by omega), z4 2 i (by omega) (by omega), f1 171 i (by omega) (by omega), f1 2 i (by omega) (by omega)]
            exact hT.2 i q1 q3
          · have y1 := z5 (i - μ 1 2) (by omega) (by omega)
            have y2 := b1 (i - μ 1 2) (by omega) (by omega)
            rw [show μ 1 2 + (i - μ 1 2) = i by omega] at y1 y2
            have br := by8_r w (n - 1 - (i - μ 1 2))
            have y := q_by2 br.1 br.2
            rw [y1, z4 2 i (by omega) (by omega), y2]
            exact ⟨y.2.1, br.1, y.2.2⟩
    · rcases z with ⟨z, -⟩ | ⟨-, -, z1, z2⟩ | ⟨-, z, -⟩
      · omega
      · rw [z1, z2]
        exact ⟨rfl, h, fun _ _ _ => rfl⟩
      · omega
  · rcases z with ⟨-, z1, z2⟩ | ⟨z, -⟩ | ⟨z, -⟩
    · rw [z1, z2]
      exact ⟨rfl, h, fun _ _ _ => rfl⟩
    · omega
    · omega
theorem pb76 {w n : Int} (h : R2 μ) : PE R2 76 118 [(.inr (.inl (w))), (.inl (n))] μ := PE_m (p76f h) (fun _ r => r.1)
/-- the rules read go into the book -/
theorem qcp_s (μ : qM) (a b i : Int) : qcp μ a b b i = μ a i := if_pos rfl
theorem qcp_n {μ : qM} {a b c : Int} (q : ¬ c = b) (i : Int) : qcp μ a b c i = μ c i := if_neg q
theorem x50 {d : Nat} {Q : qV → qM → Prop} (hS : Safe μ) (hQ : ∀ μ', Safe μ' → (∀ c i, ¬ (9 ≤ c ∧ c ≤ 14) → μ' c i = μ c i) → μ' 9 5 = μ 3 5 → (∀ c i, 0 ≤ c → c ≤ 4 → μ' (10 + c) i = μ (4 + c) i) → Q (.inl 0) μ') : qmw (d + 2) 50 [(.inr (.inr (.inl (9)))), (.inr (.inr (.inl (3))))] μ Q := by
  have hd := sa_dsz hS
  have f1 : qty 9 = 6 ∧ qty 3 = 6 ∧ (qrf 9 0 = 10 ∧ qrf 9 1 = 11 ∧ qrf 9 2 = 12 ∧ qrf 9 3 = 13 ∧ qrf 9 4 = 14) ∧ (qrf 3 0 = 4 ∧ qrf 3 1 = 5 ∧ qrf 3 2 = 6 ∧ qrf 3 3 = 7 ∧ qrf 3 4 = 8) := by decide +kernel
  have cp : ∀ {ν : qM} (k : Int), 4 ≤ k → k ≤ 8 → Safe ν → Safe (qcp ν k (k + 6)) := fun k h1 h2 hm => Safe_cp hm (fun i v _ => sf_no (by omega)) (by omega) (by omega) (by omega) (by omega)
  rw [e50 f1.1, g50_0]
  simp only [f1, qif_r]
  rw [E115 (by decide +kernel) (by decide +kernel) (by decide +kernel), g50_19]
  simp only [f1, qif_r]
  rw [E115 (by decide +kernel) (by decide +kernel) (by decide +kernel), g50_30]
  simp only [f1, qif_r]
  rw [E115 (by decide +kernel) (by decide +kernel) (by decide +kernel), g50_41]
  simp only [f1, qif_r]
  rw [E115 (by decide +kernel) (by decide +kernel) (by decide +kernel), g50_52]
  simp only [f1, qif_r]
  rw [E115 (by decide +kernel) (by decide +kernel) (by decide +kernel), g50_63]
  have s0 : Safe (qu μ 9 5 (μ 3 5)) := by
    refine Safe_u hS ?_ (by omega) (by omega) (by omega) (by omega)
    unfold sf
    refine ⟨?_, ?_, ?_, ?_, ?_, ?_, ?_, ?_, ?_, ?_, ?_, ?_, ?_, ?_, ?_, ?_, ?_, ?_, ?_, ?_, ?_, ?_, ?_, ?_, ?_, ?_, ?_, ?_, ?_, ?_, ?_⟩ <;> intros <;> omega
  refine hQ _ (cp 8 (by omega) (by omega) (cp 7 (by omega) (by omega) (cp 6 (by omega) (by omega) (cp 5 (by omega) (by omega) (cp 4 (by omega) (by omega) s0))))) (fun c i q => ?_) ?_ (fun c i q1 q2 => ?_)
  · rw [qcp_n (by omega), qcp_n (by omega), qcp_n (by omega), qcp_n (by omega), qcp_n (by omega), qu_cell (by omega)]
  · rw [qcp_n (by decide), qcp_n (by decide), qcp_n (by decide), qcp_n (by decide), qcp_n (by decide), qu_same]
  · rcases (show c = 0 ∨ c = 1 ∨ c = 2 ∨ c = 3 ∨ c = 4 by omega) with e | e | e | e | e
    · rw [e]
      show qcp (qcp (qcp (qcp (qcp (qu μ 9 5 (μ 3 5)) 4 10) 5 11) 6 12) 7 13) 8 14 10 i = μ 4 i
      rw [qcp_n (by decide), qcp_n (by decide), qcp_n (by decide), qcp_n (by decide), qcp_s, qu_cell (by decide)]
    · rw [e]
      show qcp (qcp (qcp (qcp (qcp (qu μ 9 5 (μ 3 5)) 4 10) 5 11) 6 12) 7 13) 8 14 11 i = μ 5 i
      rw [qcp_n (by decide), qcp_n (by decide), qcp_n (by decide), qcp_s, qcp_n (by decide), qu_cell (by decide)]
    · rw [e]
      show qcp (qcp (qcp (qcp (qcp (qu μ 9 5 (μ 3 5)) 4 10) 5 11) 6 12) 7 13) 8 14 12 i = μ 6 i
      rw [qcp_n (by decide), qcp_n (by decide), qcp_s, qcp_n (by decide), qcp_n (by decide), qu_cell (by decide)]
    · rw [e]
      show qcp (qcp (qcp (qcp (qcp (qu μ 9 5 (μ 3 5)) 4 10) 5 11) 6 12) 7 13) 8 14 13 i = μ 7 i
      rw [qcp_n (by decide), qcp_s, qcp_n (by decide), qcp_n (by decide), qcp_n (by decide), qu_cell (by decide)]
    · rw [e]
      show qcp (qcp (qcp (qcp (qcp (qu μ 9 5 (μ 3 5)) 4 10) 5 11) 6 12) 7 13) 8 14 14 i = μ 8 i
      rw [qcp_s, qcp_n (by decide), qcp_n (by decide), qcp_n (by decide), qcp_n (by decide), qu_cell (by decide)]
theorem BT_f2 {b : Int → Int} {n : Int} {μ' : qM} (h : BT b n μ) (k1 : μ' 170 3 = μ 170 3) (k2 : ∀ i, μ' 171 i = μ 171 i) : BT b n μ' := by
  unfold BT
  rw [k1]
  refine ⟨h.1, fun i q1 q2 => ?_⟩
  rw [k2 i]
  exact h.2 i q1 q2
/-- rules: taken or refused on both sides, and the same rules (answers: any) -/
theorem w78f (h : R2 μ) : PW (fun μ2 => R2 μ2 ∧ Fu μ μ2) 78 129 [] μ := by
  obtain ⟨hA, hT, hR⟩ := id h
  have hS := hA.1
  have hl := sa_len hS
  unfold PW
  rw [e78, g78_0]
  refine x53 ⟨hS, fun _ _ _ => rfl⟩ (fun a μ1 s1 e12 e2 ha rg pz => ?_)
  obtain ⟨k0, pz⟩ := pz
  have hd := sa_dsz s1.1
  have hRr : ∀ (r : Int) (A : qM), (a = -1 ∧ r = μ1 3 5 ∧ A = cA μ1) → 0 ≤ r ∧ r ≤ 6 ∧ ∀ i, 0 ≤ i → i < r → 1 ≤ A 4 i := fun r A z => by
    obtain ⟨z1, z2, z3⟩ := z
    refine ⟨by omega, by omega, fun i q1 q2 => ?_⟩
    rcases rg with rg | rg
    · rw [z3]
      exact (rg.1 i q1 (by omega)).2.2.2.2.1
    · exact absurd z1 rg
  rw [g78_7]
  refine ⟨fun q => ?_, fun q => ?_⟩
  · have ea : a = -1 := by omega
    refine x50 s1.1 (fun μ2 s2 f2 e25 b2 => ?_)
    rw [g78_31, e63, g63_0, g78_41]
    have s3 : Safe (qu μ2 16 4 (-2)) := by
      refine Safe_u s2 ?_ (by omega) (by omega) (by omega) (by omega)
      unfold sf
      refine ⟨?_, ?_, ?_, ?_, ?_, ?_, ?_, ?_, ?_, ?_, ?_, ?_, ?_, ?_, ?_, ?_, ?_, ?_, ?_, ?_, ?_, ?_, ?_, ?_, ?_, ?_, ?_, ?_, ?_, ?_, ?_⟩ <;> intros <;> omega
    have s4 : Safe (qu (qu μ2 16 4 (-2)) 1 2 0) := by
      refine Safe_u s3 ?_ (by omega) (by omega) (by omega) (by omega)
      unfold sf
      refine ⟨?_, ?_, ?_, ?_, ?_, ?_, ?_, ?_, ?_, ?_, ?_, ?_, ?_, ?_, ?_, ?_, ?_, ?_, ?_, ?_, ?_, ?_, ?_, ?_, ?_, ?_, ?_, ?_, ?_, ?_, ?_⟩ <;> intros <;> omega
    have g3 : ∀ c i, ¬ (c = 16 ∧ i = 4) → ¬ (c = 1 ∧ i = 2) → qu (qu μ2 16 4 (-2)) 1 2 0 c i = μ2 c i := fun c i q1 q2 => by
      rw [qu_ne q2, qu_ne q1]
    have g12 : qu (qu μ2 16 4 (-2)) 1 2 0 1 2 = 0 := qu_same _ _ _ _
    have g164 : qu (qu μ2 16 4 (-2)) 1 2 0 16 4 = -2 := by
      rw [qu_cell (by decide), qu_same]
    generalize qu (qu μ2 16 4 (-2)) 1 2 0 = μ3 at *
    have F3 : ∀ c i, (c < 1 ∨ 14 < c) → ¬ (c = 16 ∧ i = 4) → μ3 c i = μ c i := fun c i q1 q2 => by
      rw [g3 c i q2 (by omega), f2 c i (by omega)]
      exact s1.2 c i (by omega)
    refine ⟨_, rfl, x129 (b := μ 2) (n := μ 1 2) s4 (BT_f2 hT (F3 _ _ (by omega) (by omega)) (fun i => F3 _ _ (by omega) (by omega))) hl.2 hRr pz (fun r μ4 t1 t2 t3 => ⟨_, rfl, ?_⟩)⟩
    rcases t3 with ⟨t3, -⟩ | ⟨A, ⟨-, t3, t4⟩, t5, t6, t7⟩
    · omega
    · have F4 : ∀ c i, (c < 1 ∨ 14 < c) → ¬ (c = 16 ∧ i = 4) → ¬ (c = 170 ∧ (i = 3 ∨ i = 4 ∨ 10 ≤ i)) → ¬ (172 ≤ c ∧ c ≤ 176) → ¬ (186 ≤ c ∧ c ≤ 190) → μ4 c i = μ c i := fun c i q1 q2 q3 q4 q5 => by
        rw [t2 c i q3 q4 q5]
        exact F3 c i q1 q2
      have b4 : ∀ c i, 0 ≤ c → c ≤ 4 → μ4 (10 + c) i = μ1 (4 + c) i := fun c i q1 q2 => by
        rw [t2 _ _ (by omega) (by omega) (by omega), g3 _ _ (by omega) (by omega)]
        exact b2 c i q1 q2
      have cE : ∀ c i, 0 ≤ c → c ≤ 4 → cA μ1 c i = μ1 (4 + c) i := fun c i q1 q2 => by
        unfold cA
        rw [if_pos ⟨q1, q2⟩]
      have e95 : μ4 9 5 = μ1 3 5 := by
        rw [t2 _ _ (by omega) (by omega) (by omega), g3 _ _ (by omega) (by omega), e25]
      refine ⟨⟨RA_fr hA t1 (fun c i z _ _ => F4 c i (by unfold relv0 at z; omega) (by unfold relv0 at z; omega) (by unfold relv0 at z; omega) (by unfold relv0 at z; omega) (by unfold relv0 at z; omega)), ⟨?_, fun i q1 q2 => ?_⟩, ?_, fun c i q1 q2 q3 q4 => ?_, fun i q1 q2 => ?_⟩, fun c i q1 q2 q3 q4 q5 => F4 c i (by omega) q2 q3 q4 q5, Or.inl ?_⟩
      · rw [t5, t2 1 2 (by omega) (by omega) (by omega), g12]
      · rw [t2 1 2 (by omega) (by omega) (by omega), g12] at q2
        omega
      · rw [e95, t6, t3]
      · rw [e95] at q4
        rw [b4 c i q1 q2, t7 c i q1 q2 q3 (by omega), t4, cE c i q1 q2]
      · rw [e95] at q2
        rcases rg with rg | rg
        · have z := rg.1 i q1 q2
          have bE : ∀ c, 0 ≤ c → c ≤ 4 → bC μ4 c i = cA μ1 c i := fun c k1 k2 => by
            rw [cE c i k1 k2]
            exact b4 c i k1 k2
          unfold RGf
          rw [bE 0 (by decide) (by decide), bE 1 (by decide) (by decide), bE 2 (by decide) (by decide), bE 3 (by decide) (by decide), bE 4 (by decide) (by decide)]
          exact z
        · exact absurd ea rg
      · rw [t2 16 4 (by omega) (by omega) (by omega)]
        exact g164
  · refine ⟨_, rfl, x129 (b := μ 2) (n := μ 1 2) s1.1 (BT_f2 hT (s1.2 _ _ (by omega)) (fun i => s1.2 _ _ (by omega))) hl.2 hRr pz (fun r μ4 t1 t2 t3 => ⟨_, rfl, ?_⟩)⟩
    rcases t3 with ⟨-, t3, t4, t5⟩ | ⟨A, ⟨t3, -⟩, -⟩
    · have F4 : ∀ c i, (c < 1 ∨ 8 < c) → ¬ (c = 170 ∧ (i = 3 ∨ i = 4 ∨ 10 ≤ i)) → ¬ (172 ≤ c ∧ c ≤ 176) → ¬ (186 ≤ c ∧ c ≤ 190) → μ4 c i = μ c i := fun c i q1 q3 q4 q5 => by
        rw [t2 c i q3 q4 q5]
        exact s1.2 c i q1
      refine ⟨⟨RA_fr hA t1 (fun c i z _ _ => F4 c i (by unfold relv0 at z; omega) (by unfold relv0 at z; omega) (by unfold relv0 at z; omega) (by unfold relv0 at z; omega)), RText_fr hT (fun c i z => ?_), RRules_fr hS hR (fun c i z => ?_)⟩, fun c i q1 q2 q3 q4 q5 => F4 c i (by omega) q3 q4 q5, Or.inr ⟨fun c i q1 q2 => F4 c i (by omega) (by omega) (by omega) (by omega), F4 16 4 (by omega) (by omega) (by omega) (by omega)⟩⟩
      · rcases z with z | z | z | z
        · rw [z.1, z.2, t2 1 2 (by omega) (by omega) (by omega), e12]
        · rw [z, t2 2 i (by omega) (by omega) (by omega), e2 i]
        · rw [z.1, z.2, t3]
          exact s1.2 170 3 (by omega)
        · exact F4 c i (by omega) (by omega) (by omega) (by omega)
      · rcases z with z | z | z
        · exact F4 c i (by omega) (by omega) (by omega) (by omega)
        · rw [z.1, z.2, t4]
          exact s1.2 170 4 (by omega)
        · rw [t5 c i z.1 z.2.1 z.2.2]
          exact s1.2 c i (by omega)
    · omega
theorem wb78 (h : R2 μ) : PW R2 78 129 [] μ := PW_m (w78f h) (fun _ r => r.1)
end PB
