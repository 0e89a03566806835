/-! calls, days, images -/
theorem sf_ln {c i v : Int} (h : c = 72 ∨ c = 154 ∨ c = 169) : sf c i v := by
  unfold sf
  refine ⟨?_, ?_, ?_, ?_, ?_, ?_, ?_, ?_, ?_, ?_, ?_, ?_, ?_, ?_, ?_, ?_, ?_, ?_, ?_, ?_, ?_, ?_, ?_, ?_, ?_, ?_, ?_, ?_, ?_, ?_, ?_⟩ <;> intros <;> omega
theorem pa97 {μ : qM} {a1 a2 : Int} (h : RA μ) : PE (Rf W97 μ) 97 172 [(.inl (a1)), (.inl (a2))] μ := by
  obtain ⟨hS, hT, hP, hPl, hF, hL⟩ := id h
  obtain ⟨⟨l1, l2, l3⟩, hL1, hL2⟩ := id hL
  have hc := sa_mcalls hS 0
  have l1 : μ 71 1 = μ 193 0 := l1
  have l2 : ∀ i, 0 ≤ i → i ≤ 39 → μ 72 i = μ 207 i := fun i q1 q2 => by
    have := l2 i q1 q2
    rw [show (40 : Int) * 0 + i = i by omega] at this
    exact this
  have l3 : ∀ i, 0 ≤ i → i < μ 193 0 → 1 ≤ μ 207 i := fun i q1 q2 => by
    have := l3 i q1 q2
    rw [show (40 : Int) * 0 + i = i by omega] at this
    exact this
  have hm : ∀ i, 0 ≤ i → i < μ 71 1 → 1 ≤ μ 72 i ∧ μ 72 i ≤ 60 := fun i q1 q2 => by
    rw [l2 i q1 (by omega)]
    exact ⟨l3 i q1 (by omega), (sa_mmin hS i).2⟩
  refine x97 hS hm (fun a μ1 h1 => ⟨a, rfl, ?_⟩)
  rcases h1 with ⟨ok, e1, m1⟩ | ⟨ok, n1, e1, m1⟩ | ⟨ok, n1, e1, m1⟩
  · subst m1
    refine x172 hS (fun b μ2 h2 => ?_) l3
    rcases h2 with ⟨-, e2, m2⟩ | ⟨ok2, -⟩ | ⟨ok2, -⟩
    · subst m2
      exact ⟨by rw [e2, e1], h, fun _ _ _ => rfl⟩
    · exact absurd ok2 ok
    · exact absurd ok2 ok
  · subst m1
    refine x172 hS (fun b μ2 h2 => ?_) l3
    rcases h2 with ⟨ok2, -⟩ | ⟨-, -, e2, m2⟩ | ⟨-, n2, -⟩
    · exact absurd ok ok2
    · subst m2
      exact ⟨by rw [e2, e1], h, fun _ _ _ => rfl⟩
    · exact absurd n2 (by omega)
  · obtain ⟨k1, k2, k3, k4⟩ := id ok
    have g1 : ∀ c i, ¬ c = 71 → ¬ c = 72 → μ1 c i = μ c i := fun c i q1 q2 => by
      rw [m1, qu_cell q1, qu_cell q2]
    have s1 : Safe μ1 := by
      rw [m1]
      refine (Sg_m (Sg_m (Sg_rf hS) ?_ ?_ ?_ ?_ ?_ ?_ ?_) ?_ ?_ ?_ ?_ ?_ ?_ ?_).1 <;> intros <;> omega
    have e193 : μ1 193 0 = μ 193 0 := g1 _ _ (by decide) (by decide)
    refine x172 s1 (fun b μ2 h2 => ?_) (fun i q1 q2 => by
      rw [e193] at q2
      rw [g1 _ _ (by decide) (by decide)]
      exact l3 i q1 q2)
    rw [e193] at h2
    rcases h2 with ⟨ok2, -⟩ | ⟨-, n2, -⟩ | ⟨-, n2, e2, m2⟩
    · exact absurd ok ok2
    · exact absurd n2 (by omega)
    · have s2 : Safe μ2 := by
        rw [m2]
        refine (Sg_m (Sg_m (Sg_rf s1) ?_ ?_ ?_ ?_ ?_ ?_ ?_) ?_ ?_ ?_ ?_ ?_ ?_ ?_).1 <;> intros <;> omega
      have g2 : ∀ c i, ¬ c = 193 → ¬ c = 207 → μ2 c i = μ1 c i := fun c i q1 q2 => by
        rw [m2, qu_cell q1, qu_cell q2]
      have F : ∀ c i, ¬ c = 71 → ¬ c = 72 → ¬ c = 193 → ¬ c = 207 → μ2 c i = μ c i := fun c i q1 q2 q3 q4 => by
        rw [g2 c i q3 q4, g1 c i q1 q2]
      have A : ∀ i, 0 ≤ i → i ≤ 39 → μ1 72 i = μ2 207 i := fun i q1 q2 => by
        rw [m2, qu_cell (c := 193) (c' := 207) (by decide), m1, qu_cell (c := 71) (c' := 72) (by decide), ← m1]
        by_cases e : i = μ 71 1
        · rw [e, qu_same, l1, qu_same]
        · rw [qu_ne (by omega), qu_ne (by omega), g1 _ _ (by decide) (by decide)]
          exact l2 i q1 q2
      have o193 : ∀ b, ¬ b = 0 → μ2 193 b = μ 193 b := fun b q => by
        rw [m2, qu_ne (by omega), qu_cell (by decide)]
        exact g1 _ _ (by decide) (by decide)
      have o207 : ∀ i, 40 ≤ i → μ2 207 i = μ 207 i := fun i q => by
        rw [m2, qu_cell (by decide), qu_ne (by omega)]
        exact g1 _ _ (by decide) (by decide)
      refine ⟨?_, ⟨s2, RToday_fr hT (fun c i q => F c i (by unfold rk at q; omega) (by unfold rk at q; omega) (by unfold rk at q; omega) (by unfold rk at q; omega)), RPay_fr hP (fun c i q => F c i (by unfold fPay at q; omega) (by unfold fPay at q; omega) (by unfold fPay at q; omega) (by unfold fPay at q; omega)), RPlace_fr hPl (fun c i q => F c i (by unfold fPlace at q; omega) (by unfold fPlace at q; omega) (by unfold fPlace at q; omega) (by unfold fPlace at q; omega)), RFirm_fr hF (fun c i q => F c i (by unfold fFirm at q; omega) (by unfold fFirm at q; omega) (by unfold fFirm at q; omega) (by unfold fFirm at q; omega)), ⟨?_, ?_, ?_⟩, ?_, ?_⟩, fun c i q => F c i (by unfold W97 fLine at q; omega) (by unfold W97 fLine at q; omega) (by unfold W97 fLine at q; omega) (by unfold W97 fLine at q; omega)⟩
      · rw [e2, e1, l1, cwt_cg _ 0 0 (fun j q1 q2 => A j q1 (by omega))]
      · show μ2 71 1 = μ2 193 0
        rw [g2 71 1 (by decide) (by decide), m1, qu_same, m2, qu_same, l1]
      · intro i q1 q2
        show μ2 72 i = μ2 207 (40 * 0 + i)
        rw [show (40 : Int) * 0 + i = i by omega, g2 72 i (by decide) (by decide)]
        exact A i q1 q2
      · intro i q1 q2
        rw [show (40 : Int) * 0 + i = i by omega]
        rw [m2, qu_same] at q2
        rw [m2, qu_cell (by decide)]
        by_cases e : i = μ 193 0
        · rw [e, qu_same]
          exact k3
        · rw [qu_ne (by omega), g1 _ _ (by decide) (by decide)]
          exact l3 i q1 (by omega)
      · exact RLn_cp hL1 (sa_mcalls hS 1).2 (F _ _ (by decide) (by decide) (by decide) (by decide)) (fun i => F _ _ (by decide) (by decide) (by decide) (by decide)) (o193 1 (by decide)) (fun i _ _ => o207 _ (by omega))
      · exact RLn_cp hL2 (sa_mcalls hS 2).2 (F _ _ (by decide) (by decide) (by decide) (by decide)) (fun i => F _ _ (by decide) (by decide) (by decide) (by decide)) (o193 2 (by decide)) (fun i _ _ => o207 _ (by omega))
theorem Safe_sf {μ : qM} {c h n : Int} (hS : Safe μ) (hv : ∀ i j, sf c i (μ c i) → sf c j (μ c i)) (h1 : ¬ c = 182) (h2 : ¬ c = 183) (h3 : ¬ c = 170) (h4 : ¬ c = 176) : Safe (qsf μ c h n) := Safe_ch (c0 := c) hS (fun c' i q => qsf_ne q i) (fun i => by
  unfold qsf
  split
  · exact hv _ _ (hS.1 c _)
  · exact hS.1 c i) h1 h2 h3 h4
theorem pa98 {μ : qM} (h : RA μ) : PE (Rf W98 μ) 98 173 [] μ := by
  obtain ⟨hS, hT, hP, hPl, hF, hL⟩ := id h
  obtain ⟨⟨l1, l2, l3⟩, hL1, hL2⟩ := id hL
  have hc := sa_mcalls hS 0
  have ht := sa_today hS
  have l1 : μ 71 1 = μ 193 0 := l1
  have l2 : ∀ i, 0 ≤ i → i ≤ 39 → μ 72 i = μ 207 i := fun i q1 q2 => by
    have := l2 i q1 q2
    rw [show (40 : Int) * 0 + i = i by omega] at this
    exact this
  have l3 : ∀ i, 0 ≤ i → i < μ 193 0 → 1 ≤ μ 207 i := fun i q1 q2 => by
    have := l3 i q1 q2
    rw [show (40 : Int) * 0 + i = i by omega] at this
    exact this
  have hm : ∀ i, 0 ≤ i → i < μ 71 1 → 1 ≤ μ 72 i ∧ μ 72 i ≤ 60 := fun i q1 q2 => by
    rw [l2 i q1 (by omega)]
    exact ⟨l3 i q1 (by omega), (sa_mmin hS i).2⟩
  refine x98 hS hm (fun a μ1 h1 => ⟨a, rfl, ?_⟩)
  rcases h1 with ⟨n1, e1, m1⟩ | ⟨n1, e1, m1⟩
  · have hr := hrd_r (μ 72) (μ 71 1).toNat 0 0
    rw [← e1] at hr
    have g1 : ∀ c i, ¬ c = 71 → ¬ c = 72 → ¬ (c = 58 ∧ i = 3) → μ1 c i = μ c i := fun c i q1 q2 q3 => by
      rw [m1, qu_cell q1, qsf_ne q2, qu_ne q3]
    have s1 : Safe μ1 := by
      have s0 : Safe (qu μ 58 3 (μ 58 3 + 1)) := by
        refine (Sg_m (Sg_rf hS) ?_ ?_ ?_ ?_ ?_ ?_ ?_).1 <;> intros <;> omega
      have s01 : Safe (qsf (qu μ 58 3 (μ 58 3 + 1)) 72 a (μ 71 1 - a)) := Safe_sf s0 (fun i j _ => sf_ln (Or.inl rfl)) (by decide) (by decide) (by decide) (by decide)
      rw [m1]
      refine (Sg_m (Sg_rf s01) ?_ ?_ ?_ ?_ ?_ ?_ ?_).1 <;> intros <;> omega
    have e193 : μ1 193 0 = μ 71 1 := by
      rw [g1 _ _ (by decide) (by decide) (by decide)]
      exact l1.symm
    have e207 : μ1 207 = μ 207 := by
      funext i
      exact g1 _ _ (by decide) (by decide) (by omega)
    have e170 : μ1 170 1 = μ 58 3 := by
      rw [g1 _ _ (by decide) (by decide) (by decide)]
      exact hT.1.symm
    refine x173 s1 (fun b μ2 h2 => ?_)
    rw [e193, e207, e170] at h2
    rcases h2 with ⟨n2, e2, m2⟩ | ⟨n2, -⟩
    · have eab : b = a := by
        rw [e2, e1]
        exact (hrd_cg _ 0 0 (fun j q1 q2 => l2 j q1 (by omega))).symm
      subst eab
      have g2 : ∀ c i, ¬ c = 193 → ¬ c = 207 → ¬ (c = 170 ∧ i = 1) → μ2 c i = μ1 c i := fun c i q1 q2 q3 => by
        rw [m2, qu_ne q3, qu_cell q1, qsf_ne q2]
      have s2 : Safe μ2 := by
        have s01 : Safe (qsf μ1 207 b (μ 71 1 - b)) := Safe_sf s1 (fun i j q => sf_ix (by decide) q) (by decide) (by decide) (by decide) (by decide)
        rw [m2]
        refine (Sg_m (Sg_m (Sg_rf s01) ?_ ?_ ?_ ?_ ?_ ?_ ?_) ?_ ?_ ?_ ?_ ?_ ?_ ?_).1 <;> intros <;> omega
      have F : ∀ c i, ¬ c = 71 → ¬ c = 72 → ¬ c = 193 → ¬ c = 207 → ¬ (c = 58 ∧ i = 3) → ¬ (c = 170 ∧ i = 1) → μ2 c i = μ c i := fun c i q1 q2 q3 q4 q5 q6 => by
        rw [g2 c i q3 q4 q6, g1 c i q1 q2 q5]
      have o193 : ∀ d, ¬ d = 0 → μ2 193 d = μ 193 d := fun d q => by
        rw [m2, qu_cell (by decide), qu_ne (by omega), qsf_ne (by decide)]
        exact g1 _ _ (by decide) (by decide) (by omega)
      have o207 : ∀ i, 40 ≤ i → μ2 207 i = μ 207 i := fun i q => by
        rw [m2, qu_cell (by decide), qu_cell (by decide), qsf_out (by omega), e207]
      refine ⟨rfl, ⟨s2, ⟨?_, ?_⟩, RPay_fr hP (fun c i q => F c i (by unfold fPay at q; omega) (by unfold fPay at q; omega) (by unfold fPay at q; omega) (by unfold fPay at q; omega) (by unfold fPay at q; omega) (by unfold fPay at q; omega)), RPlace_fr hPl (fun c i q => F c i (by unfold fPlace at q; omega) (by unfold fPlace at q; omega) (by unfold fPlace at q; omega) (by unfold fPlace at q; omega) (by unfold fPlace at q; omega) (by unfold fPlace at q; omega)), RFirm_fr hF (fun c i q => F c i (by unfold fFirm at q; omega) (by unfold fFirm at q; omega) (by unfold fFirm at q; omega) (by unfold fFirm at q; omega) (by unfold fFirm at q; omega) (by unfold fFirm at q; omega)), ⟨?_, ?_, ?_⟩, ?_, ?_⟩, fun c i q => F c i (by unfold W98 fLine rk at q; omega) (by unfold W98 fLine rk at q; omega) (by unfold W98 fLine rk at q; omega) (by unfold W98 fLine rk at q; omega) (by unfold W98 fLine rk at q; omega) (by unfold W98 fLine rk at q; omega)⟩
      · rw [g2 58 3 (by decide) (by decide) (by decide), m1, qu_cell (by decide), qsf_ne (by decide), qu_same, m2, qu_same]
      · rw [F 140 3 (by decide) (by decide) (by decide) (by decide) (by decide) (by decide), F 195 1 (by decide) (by decide) (by decide) (by decide) (by decide) (by decide), F 155 3 (by decide) (by decide) (by decide) (by decide) (by decide) (by decide), F 195 2 (by decide) (by decide) (by decide) (by decide) (by decide) (by decide), F 140 4 (by decide) (by decide) (by decide) (by decide) (by decide) (by decide), F 209 0 (by decide) (by decide) (by decide) (by decide) (by decide) (by decide), F 155 4 (by decide) (by decide) (by decide) (by decide) (by decide) (by decide), F 209 1 (by decide) (by decide) (by decide) (by decide) (by decide) (by decide)]
        exact hT.2
      · show μ2 71 1 = μ2 193 0
        rw [g2 71 1 (by decide) (by decide) (by decide), m1, qu_same, m2, qu_cell (by decide), qu_same]
      · intro i q1 q2
        show μ2 72 i = μ2 207 (40 * 0 + i)
        rw [show (40 : Int) * 0 + i = i by omega, g2 72 i (by decide) (by decide) (by omega), m2, qu_cell (c := 170) (c' := 207) (by decide), qu_cell (c := 193) (c' := 207) (by decide), m1, qu_cell (c := 71) (c' := 72) (by decide), ← m1]
        by_cases e : i < μ 71 1 - b
        · rw [qsf_in q1 e, qsf_in q1 e, qu_cell (c := 58) (c' := 72) (by decide), e207]
          exact l2 _ (by omega) (by omega)
        · rw [qsf_out (c := 72) (by omega), qsf_out (c := 207) (by omega), qu_cell (c := 58) (c' := 72) (by decide), e207]
          exact l2 _ q1 q2
      · intro i q1 q2
        rw [show (40 : Int) * 0 + i = i by omega]
        rw [m2, qu_cell (by decide), qu_same] at q2
        rw [m2, qu_cell (by decide), qu_cell (by decide), qsf_in q1 q2, e207]
        exact l3 _ (by omega) (by omega)
      · exact RLn_cp hL1 (sa_mcalls hS 1).2 (F _ _ (by decide) (by decide) (by decide) (by decide) (by decide) (by decide)) (fun i => F _ _ (by decide) (by decide) (by decide) (by decide) (by omega) (by omega)) (o193 1 (by decide)) (fun i _ _ => o207 _ (by omega))
      · exact RLn_cp hL2 (sa_mcalls hS 2).2 (F _ _ (by decide) (by decide) (by decide) (by decide) (by decide) (by decide)) (fun i => F _ _ (by decide) (by decide) (by decide) (by decide) (by omega) (by omega)) (o193 2 (by decide)) (fun i _ _ => o207 _ (by omega))
    · exact absurd n2 (by omega)
  · subst m1
    refine x173 hS (fun b μ2 h2 => ?_)
    rcases h2 with ⟨n2, -⟩ | ⟨-, e2, m2⟩
    · exact absurd n2 (by rw [← hT.1]; omega)
    · subst m2
      exact ⟨by rw [e2, e1], h, fun _ _ _ => rfl⟩
theorem q73_0 : qra 73 0 = 140 := by decide +kernel
theorem q73_1 : qra 73 1 = 155 := by decide +kernel
/-- what keep leaves: the image, and the rest -/
def Kp (μ μ2 : qM) (C a : Int) : Prop := (∀ c i, ¬ (C ≤ c ∧ c ≤ C + 14) → ¬ (191 ≤ c ∧ c ≤ 207) → ¬ c = 209 → μ2 c i = μ c i) ∧ (∀ k i, 0 ≤ k → k ≤ 14 → DI k i → μ2 (C + k) i = μ (58 + k) i) ∧ μ2 C 4 = 1 ∧ (∀ c, DM c → ∀ i, 0 ≤ i → i < nn c → μ2 c (nn c * (1 + a) + i) = μ c (nn c * 0 + i)) ∧ (∀ c, DM c → ∀ i, ¬ (nn c * (1 + a) ≤ i ∧ i < nn c * (1 + a) + nn c) → μ2 c i = μ c i) ∧ μ2 195 (1 + a) = μ 170 1 ∧ (∀ i, ¬ i = 1 + a → μ2 195 i = μ 195 i) ∧ μ2 209 a = 1 ∧ (∀ i, ¬ i = a → μ2 209 i = μ 209 i)
theorem Kp_of {μ ν ν' : qM} {C a : Int} (hC : C = 140 ∨ C = 155) (Y : Cpy μ C 58 DI ν) (M : Mov (qu ν C 4 1) 0 (1 + a) DM ν') : Kp μ (qu (qu ν' 195 (1 + a) ((qu ν C 4 1) 170 1)) 209 a 1) C a := by
  have f1 : ∀ c i, ¬ (C ≤ c ∧ c ≤ C + 14) → (qu ν C 4 1) c i = μ c i := fun c i q => by
    rw [qu_cell (by omega)]
    exact Y.2.1 c i q
  refine ⟨fun c i q1 q2 q3 => ?_, fun k i q1 q2 q3 => ?_, ?_, fun c q i q1 q2 => ?_, fun c q i q1 => ?_, ?_, fun i q => ?_, ?_, fun i q => ?_⟩
  · rw [qu_cell (by omega), qu_cell (by omega), (M.2 c).2.2 (by unfold DM; omega)]
    exact f1 c i q1
  · rw [qu_cell (by omega), qu_cell (by omega), (M.2 _).2.2 (by unfold DM; omega), qu_ne (by unfold DI at q3; omega)]
    exact (Y.2.2 k i q1 q2).1 q3
  · rw [qu_cell (by omega), qu_cell (by omega), (M.2 _).2.2 (by unfold DM; omega), qu_same]
  · rw [qu_cell (by unfold DM at q; omega), qu_cell (by unfold DM at q; omega), (M.2 c).1 q i q1 q2]
    exact f1 _ _ (by unfold DM at q; omega)
  · rw [qu_cell (by unfold DM at q; omega), qu_cell (by unfold DM at q; omega), (M.2 c).2.1 q i q1]
    exact f1 _ _ (by unfold DM at q; omega)
  · rw [qu_cell (by decide), qu_same]
    exact f1 _ _ (by omega)
  · rw [qu_cell (by decide), qu_ne (by omega), (M.2 _).2.2 (by unfold DM; omega)]
    exact f1 _ _ (by omega)
  · rw [qu_same]
  · rw [qu_ne (by omega), qu_cell (by decide), (M.2 _).2.2 (by unfold DM; omega)]
    exact f1 _ _ (by omega)
/-- what back leaves -/
def Bk (μ μ2 : qM) (C a : Int) : Prop := (∀ c i, ¬ (58 ≤ c ∧ c ≤ 72) → ¬ (191 ≤ c ∧ c ≤ 207 ∧ ¬ c = 195) → ¬ (c = 170 ∧ i = 1) → μ2 c i = μ c i) ∧ (∀ k i, 0 ≤ k → k ≤ 14 → DI k i → μ2 (58 + k) i = μ (C + k) i) ∧ (∀ c, DM c → ∀ i, 0 ≤ i → i < nn c → μ2 c (nn c * 0 + i) = μ c (nn c * (1 + a) + i)) ∧ (∀ c, DM c → ∀ i, ¬ (nn c * 0 ≤ i ∧ i < nn c * 0 + nn c) → μ2 c i = μ c i) ∧ μ2 170 1 = μ 195 (1 + a)
theorem Bk_of {μ μ1 ν' : qM} {C a : Int} (Y : Cpy μ 58 C DI μ1) (M : Mov μ1 (1 + a) 0 DM ν') : Bk μ (qu ν' 170 1 (μ1 195 (1 + a))) C a := by
  have f1 : ∀ c i, ¬ (58 ≤ c ∧ c ≤ 72) → μ1 c i = μ c i := fun c i q => Y.2.1 c i (by omega)
  refine ⟨fun c i q1 q2 q3 => ?_, fun k i q1 q2 q3 => ?_, fun c q i q1 q2 => ?_, fun c q i q1 => ?_, ?_⟩
  · rw [qu_ne q3, (M.2 c).2.2 (by unfold DM; omega)]
    exact f1 c i q1
  · rw [qu_cell (by omega), (M.2 _).2.2 (by unfold DM; omega)]
    exact (Y.2.2 k i q1 q2).1 q3
  · rw [qu_cell (by unfold DM at q; omega), (M.2 c).1 q i q1 q2]
    exact f1 _ _ (by unfold DM at q; omega)
  · rw [qu_cell (by unfold DM at q; omega), (M.2 c).2.1 q i q1]
    exact f1 _ _ (by unfold DM at q; omega)
  · rw [qu_same]
    exact f1 _ _ (by omega)
theorem RA_keep {μ μ2 : qM} {C a : Int} (h : RA μ) (hC : (C = 140 ∧ a = 0) ∨ (C = 155 ∧ a = 1)) (s2 : Safe μ2) (K : Kp μ μ2 C a) : RA μ2 := by
  obtain ⟨hS, hT, hP, hPl, hF, hL⟩ := h
  obtain ⟨K1, K2, K3, K4, K5, K6, K7, K8, K9⟩ := K
  have n1 : nn 193 = 1 := by decide
  have n2 : nn 207 = 40 := by decide
  have d1 : DM 193 := by unfold DM; omega
  have d2 : DM 207 := by unfold DM; omega
  have im : RLn μ2 C (1 + a) := by
    refine RLn_cp hL.1 (sa_mcalls hS 0).2 (K2 13 1 (by decide) (by decide) (by unfold DI; omega)) (fun i => K2 14 i (by decide) (by decide) (by unfold DI; omega)) ?_ (fun i q1 q2 => ?_)
    · have := K4 193 d1 0 (by decide) (by decide)
      rw [n1, show (1 : Int) * (1 + a) + 0 = 1 + a by omega] at this
      exact this
    · have := K4 207 d2 i q1 q2
      rw [n2] at this
      exact this
  have ot : ∀ c b, RLn μ c b → (c = 58 ∨ c = 140 ∨ c = 155) → ¬ c = C → (b = 0 ∨ b = 1 ∨ b = 2) → ¬ b = 1 + a → RLn μ2 c b := fun c b hh q1 q2 q3 q4 => by
    refine RLn_cp hh (sa_mcalls hS b).2 (K1 _ _ (by omega) (by omega) (by omega)) (fun i => K1 _ _ (by omega) (by omega) (by omega)) ?_ (fun i q5 q6 => ?_)
    · exact K5 193 d1 b (by rw [n1]; omega)
    · exact K5 207 d2 _ (by rw [n2]; omega)
  refine ⟨s2, ?_, RPay_fr hP (fun c i q => K1 c i (by unfold fPay at q; omega) (by unfold fPay at q; omega) (by unfold fPay at q; omega)), RPlace_fr hPl (fun c i q => K1 c i (by unfold fPlace at q; omega) (by unfold fPlace at q; omega) (by unfold fPlace at q; omega)), RFirm_fr hF (fun c i q => K1 c i (by unfold fFirm at q; omega) (by unfold fFirm at q; omega) (by unfold fFirm at q; omega)), ?_⟩
  · have z := K2 0 3 (by decide) (by decide) (by unfold DI; omega)
    obtain ⟨t1, t2, t3, t4, t5⟩ := hT
    rcases hC with ⟨rfl, rfl⟩ | ⟨rfl, rfl⟩
    · refine ⟨?_, ?_, ?_, ?_, ?_⟩
      · rw [K1 58 3 (by decide) (by decide) (by decide), K1 170 1 (by decide) (by decide) (by decide)]
        exact t1
      · exact z.trans (t1.trans K6.symm)
      · rw [K1 155 3 (by decide) (by decide) (by decide), K7 2 (by decide)]
        exact t3
      · rw [K3, K8]
      · rw [K1 155 4 (by decide) (by decide) (by decide), K9 1 (by decide)]
        exact t5
    · refine ⟨?_, ?_, ?_, ?_, ?_⟩
      · rw [K1 58 3 (by decide) (by decide) (by decide), K1 170 1 (by decide) (by decide) (by decide)]
        exact t1
      · rw [K1 140 3 (by decide) (by decide) (by decide), K7 1 (by decide)]
        exact t2
      · exact z.trans (t1.trans K6.symm)
      · rw [K1 140 4 (by decide) (by decide) (by decide), K9 0 (by decide)]
        exact t4
      · rw [K3, K8]
  · rcases hC with ⟨rfl, rfl⟩ | ⟨rfl, rfl⟩
    · exact ⟨ot 58 0 hL.1 (by decide) (by decide) (by decide) (by decide), im, ot 155 2 hL.2.2 (by decide) (by decide) (by decide) (by decide)⟩
    · exact ⟨ot 58 0 hL.1 (by decide) (by decide) (by decide) (by decide), ot 140 1 hL.2.1 (by decide) (by decide) (by decide) (by decide), im⟩
theorem RA_back {μ μ2 : qM} {C a : Int} (h : RA μ) (hC : (C = 140 ∧ a = 0) ∨ (C = 155 ∧ a = 1)) (s2 : Safe μ2) (K : Bk μ μ2 C a) : RA μ2 := by
  obtain ⟨hS, hT, hP, hPl, hF, hL⟩ := h
  obtain ⟨K1, K2, K4, K5, K6⟩ := K
  have n1 : nn 193 = 1 := by decide
  have n2 : nn 207 = 40 := by decide
  have d1 : DM 193 := by unfold DM; omega
  have d2 : DM 207 := by unfold DM; omega
  have hI : RLn μ C (1 + a) := by
    rcases hC with ⟨rfl, rfl⟩ | ⟨rfl, rfl⟩
    · exact hL.2.1
    · exact hL.2.2
  have im : RLn μ2 58 0 := by
    refine RLn_cp hI (sa_mcalls hS _).2 (K2 13 1 (by decide) (by decide) (by unfold DI; omega)) (fun i => K2 14 i (by decide) (by decide) (by unfold DI; omega)) ?_ (fun i q1 q2 => ?_)
    · have := K4 193 d1 0 (by decide) (by decide)
      rw [n1, show (1 : Int) * (1 + a) + 0 = 1 + a by omega] at this
      exact this
    · have := K4 207 d2 i q1 q2
      rw [n2] at this
      exact this
  have ot : ∀ c b, RLn μ c b → (c = 140 ∨ c = 155) → (b = 1 ∨ b = 2) → RLn μ2 c b := fun c b hh q1 q3 => by
    refine RLn_cp hh (sa_mcalls hS b).2 (K1 _ _ (by omega) (by omega) (by omega)) (fun i => K1 _ _ (by omega) (by omega) (by omega)) ?_ (fun i q5 q6 => ?_)
    · exact K5 193 d1 b (by rw [n1]; omega)
    · exact K5 207 d2 _ (by rw [n2]; omega)
  refine ⟨s2, ?_, RPay_fr hP (fun c i q => K1 c i (by unfold fPay at q; omega) (by unfold fPay at q; omega) (by unfold fPay at q; omega)), RPlace_fr hPl (fun c i q => K1 c i (by unfold fPlace at q; omega) (by unfold fPlace at q; omega) (by unfold fPlace at q; omega)), RFirm_fr hF (fun c i q => K1 c i (by unfold fFirm at q; omega) (by unfold fFirm at q; omega) (by unfold fFirm at q; omega)), im, ot 140 1 hL.2.1 (by decide) (by decide), ot 155 2 hL.2.2 (by decide) (by decide)⟩
  have z := K2 0 3 (by decide) (by decide) (by unfold DI; omega)
  obtain ⟨t1, t2, t3, t4, t5⟩ := hT
  refine ⟨?_, ?_⟩
  · rcases hC with ⟨rfl, rfl⟩ | ⟨rfl, rfl⟩
    · exact z.trans (t2.trans K6.symm)
    · exact z.trans (t3.trans K6.symm)
  · rw [K1 140 3 (by decide) (by decide) (by decide), K1 195 1 (by decide) (by decide) (by decide), K1 155 3 (by decide) (by decide) (by decide), K1 195 2 (by decide) (by decide) (by decide), K1 140 4 (by decide) (by decide) (by decide), K1 209 0 (by decide) (by decide) (by decide), K1 155 4 (by decide) (by decide) (by decide), K1 209 1 (by decide) (by decide) (by decide)]
    exact ⟨t2, t3, t4, t5⟩
/-- keep and back, for any relation that they keep -/
theorem p100_g {R : qM → Prop} {μ : qM} {a1 : Int} (h : RA μ) (hR : R μ) (hK : ∀ C μ2, ((C = 140 ∧ a1 = 0) ∨ (C = 155 ∧ a1 = 1)) → Safe μ2 → Kp μ μ2 C a1 → R μ2) : PE R 100 177 [(.inl (a1))] μ := by
  obtain ⟨hS, hT, -⟩ := id h
  refine x100 hS (fun a μ1 h1 => ⟨a, rfl, ?_⟩)
  rcases h1 with ⟨ok, e1, ν, Y, s1, m1⟩ | ⟨ok, e1, m1⟩
  · have h7 := qra73 (k := a1) (by omega) (by omega)
    have hC : (qra 73 a1 = 140 ∧ a1 = 0) ∨ (qra 73 a1 = 155 ∧ a1 = 1) := by
      rcases ok with rfl | rfl
      · exact Or.inl ⟨q73_0, rfl⟩
      · exact Or.inr ⟨q73_1, rfl⟩
    have e170 : μ1 170 1 = μ 58 3 := by
      rw [m1, qu_cell (by omega), Y.2.1 _ _ (by omega)]
      exact hT.1.symm
    refine x177 s1 (fun b μ2 h2 => ?_)
    rcases h2 with ⟨-, e2, ν', M, s2, m2⟩ | ⟨ok2, -⟩
    · refine ⟨by rw [e2, e1, e170], hK _ _ hC s2 ?_⟩
      subst m1 m2
      exact Kp_of h7 Y M
    · exact absurd ok ok2
  · subst m1
    refine x177 hS (fun b μ2 h2 => ?_)
    rcases h2 with ⟨ok2, -⟩ | ⟨-, e2, m2⟩
    · exact absurd ok2 ok
    · subst m2
      exact ⟨by rw [e2, e1], hR⟩
theorem p101_g {R : qM → Prop} {μ : qM} {a1 : Int} (h : RA μ) (hR : R μ) (hK : ∀ C μ2, ((C = 140 ∧ a1 = 0) ∨ (C = 155 ∧ a1 = 1)) → Safe μ2 → Bk μ μ2 C a1 → R μ2) : PE R 101 178 [(.inl (a1))] μ := by
  obtain ⟨hS, ⟨t1, t2, t3, t4, t5⟩, -⟩ := id h
  have J : (a1 = 0 ∨ a1 = 1) → μ (qra 73 a1) 4 = μ 209 a1 ∧ μ (qra 73 a1) 3 = μ 195 (1 + a1) := fun ok => by
    rcases ok with rfl | rfl
    · rw [q73_0]
      exact ⟨t4, t2⟩
    · rw [q73_1]
      exact ⟨t5, t3⟩
  refine x101 hS (fun a μ1 h1 => ⟨a, rfl, ?_⟩)
  rcases h1 with ⟨ok, kk, e1, Y⟩ | ⟨ok, kk, e1, m1⟩ | ⟨ok, e1, m1⟩
  · have h7 := qra73 (k := a1) (by omega) (by omega)
    have hC : (qra 73 a1 = 140 ∧ a1 = 0) ∨ (qra 73 a1 = 155 ∧ a1 = 1) := by
      rcases ok with rfl | rfl
      · exact Or.inl ⟨q73_0, rfl⟩
      · exact Or.inr ⟨q73_1, rfl⟩
    have j := J ok
    refine x178 Y.1 (fun b μ2 h2 => ?_)
    rw [Y.2.1 209 a1 (by omega), Y.2.1 195 (1 + a1) (by omega)] at h2
    rcases h2 with ⟨-, k2, e2, ν', M, s2, m2⟩ | ⟨-, k2, -⟩ | ⟨ok2, -⟩
    · refine ⟨by rw [e2, e1, j.2], hK _ _ hC s2 ?_⟩
      have B := Bk_of Y M
      rw [Y.2.1 195 (1 + a1) (by omega), ← m2] at B
      exact B
    · exact absurd (j.1.trans k2) kk
    · exact absurd ok ok2
  · subst m1
    refine x178 hS (fun b μ2 h2 => ?_)
    rcases h2 with ⟨-, k2, -⟩ | ⟨-, -, e2, m2⟩ | ⟨ok2, -⟩
    · exact absurd ((J ok).1.symm.trans kk) k2
    · subst m2
      exact ⟨by rw [e2, e1], hR⟩
    · exact absurd ok ok2
  · subst m1
    refine x178 hS (fun b μ2 h2 => ?_)
    rcases h2 with ⟨ok2, -⟩ | ⟨ok2, -⟩ | ⟨-, e2, m2⟩
    · exact absurd ok2 ok
    · exact absurd ok2 ok
    · subst m2
      exact ⟨by rw [e2, e1], hR⟩
theorem pa100 {μ : qM} {a1 : Int} (h : RA μ) : PE RA 100 177 [(.inl (a1))] μ := p100_g h h (fun _ _ hC s K => RA_keep h hC s K)
theorem pa101 {μ : qM} {a1 : Int} (h : RA μ) : PE RA 101 178 [(.inl (a1))] μ := p101_g h h (fun _ _ hC s K => RA_back h hC s K)
