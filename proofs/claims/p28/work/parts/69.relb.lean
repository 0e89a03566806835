/-! pay, place, firm, line, images: the relation is kept, and the answers are the same -/
theorem pa80 {μ : qM} {a1 a2 a3 a4 : Int} (h : RA μ) : PE (Rf W80 μ) 80 135 [(.inl (a1)), (.inl (a2)), (.inl (a3)), (.inl (a4))] μ := by
  obtain ⟨hS, hT, hP, hPl, hF, hL⟩ := id h
  refine x80 (fun a μ1 h1 => ⟨a, rfl, x135 (fun b μ2 h2 => ?_)⟩)
  rcases h1 with ⟨ok, e1, m1⟩ | ⟨ok, e1, m1⟩
  · rcases h2 with ⟨-, e2, m2⟩ | ⟨ok2, e2, m2⟩
    · obtain ⟨k1, k2, k3, k4, k5, k6, k7, k8⟩ := ok
      subst m1 m2
      refine ⟨by rw [e2, e1, qu_cell (by omega), (hP a1 a2 a3 k1 k2 k3 k4 k5 k6).1], ?_⟩
      have s1 : Safe (qu μ (74 + 11 * a1 + (1 + a3)) a2 a4) := (Sg_p (Sg_rf hS) k1 (by omega) (by omega) (by omega) (by omega)).1
      have s2 : Safe (qu (qu μ (74 + 11 * a1 + (1 + a3)) a2 a4) (177 + a3) (10 * a1 + a2) a4) := by
        refine (Sg_m (Sg_rf s1) ?_ ?_ ?_ ?_ ?_ ?_ ?_).1 <;> intros <;> omega
      have F : ∀ c i, ¬ c = 74 + 11 * a1 + (1 + a3) → ¬ c = 177 + a3 → (qu (qu μ (74 + 11 * a1 + (1 + a3)) a2 a4) (177 + a3) (10 * a1 + a2) a4) c i = μ c i := fun c i q1 q2 => by
        rw [qu_cell q2, qu_cell q1]
      refine ⟨⟨s2, RToday_fr hT (fun c i q => F c i (by unfold rk at q; omega) (by unfold rk at q; omega)), fun p f a q1 q2 q3 q4 q5 q6 => ?_, RPlace_fr hPl (fun c i q => F c i (by unfold fPlace at q; omega) (by unfold fPlace at q; omega)), RFirm_fr hF (fun c i q => F c i (by unfold fFirm at q; omega) (by unfold fFirm at q; omega)), RLine_fr hS hL (fun c i q => F c i (by unfold fLine at q; omega) (by unfold fLine at q; omega))⟩, fun c i q => F c i (by unfold W80 fPay at q; omega) (by unfold W80 fPay at q; omega)⟩
      rw [qu_cell (c' := 74 + 11 * p + (1 + a)) (by omega)]
      by_cases e : p = a1 ∧ f = a2 ∧ a = a3
      · obtain ⟨rfl, rfl, rfl⟩ := e
        rw [qu_same, qu_same]
        exact ⟨rfl, k7, k8⟩
      · rw [qu_ne (c' := 74 + 11 * p + (1 + a)) (by omega), qu_ne (c' := 177 + a) (by omega), qu_cell (c' := 177 + a) (by omega)]
        exact hP p f a q1 q2 q3 q4 q5 q6
    · exact absurd ok ok2
  · rcases h2 with ⟨ok2, e2, m2⟩ | ⟨ok2, e2, m2⟩
    · exact absurd ok2 ok
    · subst m1 m2
      exact ⟨by rw [e2, e1], h, fun _ _ _ => rfl⟩
theorem Safe_fl {μ : qM} {c lo hi v : Int} (h : Safe μ) (hv : ∀ i, sf c i v) (h1 : ¬ c = 182) (h2 : ¬ c = 183) (h3 : ¬ c = 170) (h4 : ¬ c = 176) : Safe (qfl μ c lo hi v) := Safe_ch (c0 := c) h (fun c' i q => qfl_ne q i) (fun i => by
  unfold qfl
  split
  · exact hv i
  · exact h.1 c i) h1 h2 h3 h4
theorem sf_pl {c i v : Int} (h : (74 ≤ c ∧ c < 140 ∧ ((c - 74) % 11 = 9 ∨ (c - 74) % 11 = 10)) ∨ c = 208) : sf c i v := by
  unfold sf
  refine ⟨?_, ?_, ?_, ?_, ?_, ?_, ?_, ?_, ?_, ?_, ?_, ?_, ?_, ?_, ?_, ?_, ?_, ?_, ?_, ?_, ?_, ?_, ?_, ?_, ?_, ?_, ?_, ?_, ?_, ?_, ?_⟩ <;> intros <;> omega
theorem pa94 {μ : qM} {a1 a2 a3 : Int} (h : RA μ) : PE (Rf W94 μ) 94 162 [(.inl (a1)), (.inl (a2)), (.inl (a3))] μ := by
  obtain ⟨hS, hT, hP, hPl, hF, hL⟩ := id h
  have ht := sa_today hS
  refine x94 hS (fun a μ1 h1 => ⟨a, rfl, ?_⟩)
  rcases h1 with ⟨ok, e1, m1⟩ | ⟨ok, e1, m1⟩
  · obtain ⟨k1, k2, k3, k4, k5, k6⟩ := id ok
    have s1 : Safe μ1 := by
      rw [m1]
      exact Safe_fl hS (fun i => sf_pl (by omega)) (by omega) (by omega) (by omega) (by omega)
    refine x162 s1 (fun b μ2 h2 => ?_)
    rcases h2 with ⟨-, e2, m2⟩ | ⟨ok2, e2, m2⟩
    · have g1 : ∀ c i, ¬ c = 74 + 11 * a1 + (9 + a2) → μ1 c i = μ c i := fun c i q => by
        rw [m1]
        exact qfl_ne q i
      have t1 : μ1 170 1 = μ 58 3 := by
        rw [g1 _ _ (by omega)]
        exact hT.1.symm
      rw [t1] at e2 m2
      have g2 : ∀ c i, ¬ c = 208 → μ2 c i = μ1 c i := fun c i q => by
        rw [m2]
        exact qfl_ne q i
      have F : ∀ c i, ¬ c = 74 + 11 * a1 + (9 + a2) → ¬ c = 208 → μ2 c i = μ c i := fun c i q1 q2 => by
        rw [g2 c i q2, g1 c i q1]
      have s2 : Safe μ2 := by
        rw [m2]
        exact Safe_fl s1 (fun i => sf_pl (by omega)) (by omega) (by omega) (by omega) (by omega)
      refine ⟨?_, ⟨s2, RToday_fr hT (fun c i q => F c i (by unfold rk at q; omega) (by unfold rk at q; omega)), RPay_fr hP (fun c i q => F c i (by unfold fPay at q; omega) (by unfold fPay at q; omega)), fun p a i q1 q2 q3 q4 q5 q6 => ?_, RFirm_fr hF (fun c i q => F c i (by unfold fFirm at q; omega) (by unfold fFirm at q; omega)), RLine_fr hS hL (fun c i q => F c i (by unfold fLine at q; omega) (by unfold fLine at q; omega))⟩, fun c i q => F c i (by unfold W94 fPlace at q; omega) (by unfold W94 fPlace at q; omega)⟩
      · rw [e2, e1, g1 _ _ (by omega), hPl a1 a2 (μ 58 3) k1 k2 k3 k4 ht.1 ht.2]
      · have hh := hPl p a i q1 q2 q3 q4 q5 q6
        rw [g2 _ _ (by omega), m1, m2]
        unfold qfl
        by_cases e : p = a1 ∧ a = a2 ∧ μ 58 3 ≤ i
        · rw [if_pos (by omega), if_pos (by omega)]
        · rw [if_neg (by omega), if_neg (by omega), g1 _ _ (by omega)]
          exact hh
    · exact absurd ok ok2
  · subst m1
    refine x162 hS (fun b μ2 h2 => ?_)
    rcases h2 with ⟨ok2, e2, m2⟩ | ⟨ok2, e2, m2⟩
    · exact absurd ok2 ok
    · subst m2
      exact ⟨by rw [e2, e1], h, fun _ _ _ => rfl⟩
theorem pa81 {μ : qM} {a1 a2 a3 a4 : Int} (h : RA μ) : PE (fun μ2 => Rf W81 μ μ2 ∧ NF μ μ2) 81 137 [(.inl (a1)), (.inl (a2)), (.inl (a3)), (.inl (a4))] μ := by
  obtain ⟨hS, hT, hP, hPl, hF, hL⟩ := id h
  refine x81 hS (fun a μ1 h1 => ⟨a, rfl, ?_⟩)
  rcases h1 with ⟨ok, e1, m1⟩ | ⟨ok, ⟨f, f1, f2, f3⟩, e1, m1⟩ | ⟨ok, fr, h1⟩
  · subst m1
    refine x137 hS (fun b μ2 h2 => ?_)
    rcases h2 with ⟨ok2, e2, m2⟩ | ⟨ok2, -⟩ | ⟨ok2, -⟩
    · subst m2
      exact ⟨by rw [e2, e1], ⟨h, fun _ _ _ => rfl⟩, Or.inl (fun _ _ _ _ => rfl)⟩
    · exact absurd ok2 ok
    · exact absurd ok2 ok
  · subst m1
    refine x137 hS (fun b μ2 h2 => ?_)
    rcases h2 with ⟨ok2, -⟩ | ⟨ok2, -, e2, m2⟩ | ⟨ok2, fr2, -⟩
    · exact absurd ok ok2
    · subst m2
      exact ⟨by rw [e2, e1], ⟨h, fun _ _ _ => rfl⟩, Or.inl (fun _ _ _ _ => rfl)⟩
    · exact absurd ((RFirm_fw hF ok.1 ok.2.1).trans (fr2 f f1 f2)) f3
  · obtain ⟨k1, k2, k3, k4, k5, k6, k7⟩ := id ok
    have hn := (hF a1 k1 k2).1
    rcases h1 with ⟨n3, e1, m1⟩ | ⟨n3, e1, m1⟩
    · have hq : isP (74 + 11 * a1) := ⟨a1, k1, by omega, rfl⟩
      have hf := sa_firms hS hq
      have s1 : Safe μ1 := by
        rw [m1]
        exact (Sg_pf (Sg_p (Sg_p (Sg_p (Sg_p (Sg_rf hS) k1 (by omega) (by decide) (by decide) (by decide)) k1 (by omega) (by decide) (by decide) (by decide)) k1 (by omega) (by decide) (by decide) (by decide)) k1 (by omega) (by decide) (by decide) (by decide)) k1 (by omega) (by omega) (by omega)).1
      have g1 : ∀ c i, ¬ (74 + 11 * a1 ≤ c ∧ c ≤ 74 + 11 * a1 + 8) → μ1 c i = μ c i := fun c i q => by
        rw [m1, qu_cell (by omega), qu_cell (by omega), qu_cell (by omega), qu_cell (by omega), qu_cell (by omega)]
      have w1 : ∀ f day, mfw μ1 a1 f day = mfw μ a1 f day := fun f day => by
        unfold mfw
        rw [g1 _ _ (by omega)]
        exact fw_cg (fun i _ _ => g1 _ _ (by omega)) (fun i _ _ => g1 _ _ (by omega)) (fun i _ _ => g1 _ _ (by omega))
      refine x137 s1 (fun b μ2 h2 => ?_)
      rcases h2 with ⟨ok2, -⟩ | ⟨ok2, ⟨f, f1, f2, f3⟩, -⟩ | ⟨ok2, fr2, h2⟩
      · exact absurd ok ok2
      · exact absurd ((w1 f 200).trans ((RFirm_fw hF k1 k2).symm.trans (fr f f1 f2))) f3
      · have e181 : μ1 181 a1 = μ (74 + 11 * a1) 10 := by
          rw [g1 _ _ (by omega), hn]
        have e170 : μ1 170 1 = μ 58 3 := by
          rw [g1 _ _ (by omega)]
          exact hT.1.symm
        rw [e181, e170] at h2
        rcases h2 with ⟨n32, e2, m2⟩ | ⟨n32, -⟩
        · have s2 : Safe μ2 := by
            rw [m2]
            have m := Sg_f (k := 3 * a1 + μ (74 + 11 * a1) 10) (a := a2) (b := a3) (s := a4) (t := μ 58 3) (Sg_rf s1) k3 k4 (by omega) k6 (by omega)
            refine (Sg_m m ?_ ?_ ?_ ?_ ?_ ?_ ?_).1 <;> intros <;> omega
          have g2 : ∀ c i, ¬ (181 ≤ c ∧ c ≤ 185) → μ2 c i = μ1 c i := fun c i q => by
            rw [m2, qu_cell (by omega), qu_cell (by omega), qu_cell (by omega), qu_cell (by omega), qu_cell (by omega)]
          have F : ∀ c i, ¬ (74 + 11 * a1 ≤ c ∧ c ≤ 74 + 11 * a1 + 8) → ¬ (181 ≤ c ∧ c ≤ 185) → μ2 c i = μ c i := fun c i q1 q2 => by
            rw [g2 c i q2, g1 c i q1]
          have F2 : ∀ k i, 1 ≤ k ∧ k ≤ 4 → μ2 (74 + 11 * a1 + k) i = μ (74 + 11 * a1 + k) i := fun k i q => by
            rw [g2 _ _ (by omega), m1, qu_cell (by omega), qu_cell (by omega), qu_cell (by omega), qu_cell (by omega), qu_cell (by omega)]
          refine ⟨by rw [e2, e1], ⟨⟨s2, RToday_fr hT (fun c i q => F c i (by unfold rk at q; omega) (by unfold rk at q; omega)), RPay_fr hP (fun c i q => ?_), RPlace_fr hPl (fun c i q => F c i (by unfold fPlace at q; omega) (by unfold fPlace at q; omega)), fun p q1 q2 => ?_, RLine_fr hS hL (fun c i q => F c i (by unfold fLine at q; omega) (by unfold fLine at q; omega))⟩, fun c i q => ?_⟩, Or.inr ⟨a1, a2, a3, a4, ⟨k1, k2⟩, ⟨k3, k4, k5⟩, ⟨k6, k7⟩, fr, n3, fun c i q1 q2 q3 q4 => ?_, ?_, ?_, ?_, ?_, ?_⟩⟩
          · by_cases e : 74 + 11 * a1 ≤ c ∧ c ≤ 74 + 11 * a1 + 8
            · have := F2 (c - (74 + 11 * a1)) i (by unfold fPay at q; omega)
              rw [show 74 + 11 * a1 + (c - (74 + 11 * a1)) = c by omega] at this
              exact this
            · exact F c i e (by unfold fPay at q; omega)
          · by_cases e : p = a1
            · subst e
              have j1 : ∀ k, 0 ≤ k → k ≤ 2 → μ2 (74 + 11 * p + 5) k = μ2 182 (3 * p + k) ∧ μ2 (74 + 11 * p + 6) k = μ2 183 (3 * p + k) ∧ μ2 (74 + 11 * p + 7) k = μ2 184 (3 * p + k) ∧ μ2 (74 + 11 * p + 8) k = μ2 185 (3 * p + k) := fun k q3 q4 => by
                have hk := (hF p k1 k2).2 k q3 q4
                rw [g2 (74 + 11 * p + 5) k (by omega), g2 (74 + 11 * p + 6) k (by omega), g2 (74 + 11 * p + 7) k (by omega), g2 (74 + 11 * p + 8) k (by omega), m2, m1]
                rw [qu_cell (c := 74 + 11 * p) (c' := 74 + 11 * p + 5) (by omega), qu_cell (c := 74 + 11 * p) (c' := 74 + 11 * p + 6) (by omega), qu_cell (c := 74 + 11 * p) (c' := 74 + 11 * p + 7) (by omega), qu_cell (c := 74 + 11 * p) (c' := 74 + 11 * p + 8) (by omega)]
                rw [qu_cell (c := 74 + 11 * p + 8) (c' := 74 + 11 * p + 5) (by omega), qu_cell (c := 74 + 11 * p + 8) (c' := 74 + 11 * p + 6) (by omega), qu_cell (c := 74 + 11 * p + 8) (c' := 74 + 11 * p + 7) (by omega)]
                rw [qu_cell (c := 74 + 11 * p + 7) (c' := 74 + 11 * p + 5) (by omega), qu_cell (c := 74 + 11 * p + 7) (c' := 74 + 11 * p + 6) (by omega)]
                rw [qu_cell (c := 74 + 11 * p + 6) (c' := 74 + 11 * p + 5) (by omega)]
                rw [qu_cell (c := 181) (c' := 182) (by decide), qu_cell (c := 181) (c' := 183) (by decide), qu_cell (c := 181) (c' := 184) (by decide), qu_cell (c := 181) (c' := 185) (by decide)]
                rw [qu_cell (c := 185) (c' := 182) (by decide), qu_cell (c := 185) (c' := 183) (by decide), qu_cell (c := 185) (c' := 184) (by decide)]
                rw [qu_cell (c := 184) (c' := 182) (by decide), qu_cell (c := 184) (c' := 183) (by decide)]
                rw [qu_cell (c := 183) (c' := 182) (by decide)]
                by_cases e : k = μ (74 + 11 * p) 10
                · rw [← e, qu_same, qu_same, qu_same, qu_same, qu_same, qu_same, qu_same, qu_same]
                  exact ⟨rfl, rfl, rfl, rfl⟩
                · rw [qu_ne (c' := 182) (by omega), qu_ne (c' := 183) (by omega), qu_ne (c' := 184) (by omega), qu_ne (c' := 185) (by omega), qu_ne (c' := 74 + 11 * p + 5) (by omega), qu_ne (c' := 74 + 11 * p + 6) (by omega), qu_ne (c' := 74 + 11 * p + 7) (by omega), qu_ne (c' := 74 + 11 * p + 8) (by omega)]
                  rw [qu_cell (c' := 74 + 11 * p + 6) (by omega), qu_cell (c' := 74 + 11 * p + 7) (by omega), qu_cell (c' := 74 + 11 * p + 7) (by omega), qu_cell (c' := 74 + 11 * p + 8) (by omega), qu_cell (c' := 74 + 11 * p + 8) (by omega), qu_cell (c' := 74 + 11 * p + 8) (by omega)]
                  rw [qu_cell (c' := 183) (by decide), qu_cell (c' := 184) (by decide), qu_cell (c' := 184) (by decide), qu_cell (c' := 185) (by decide), qu_cell (c' := 185) (by decide), qu_cell (c' := 185) (by decide)]
                  rw [← m1, g1 182 _ (by omega), g1 183 _ (by omega), g1 184 _ (by omega), g1 185 _ (by omega)]
                  exact hk
              refine ⟨?_, j1⟩
              rw [g2 _ _ (by omega), m1, qu_same, m2, qu_same]
            · have hp := hF p q1 q2
              have J : ∀ k i, 0 ≤ k → k ≤ 8 → μ2 (74 + 11 * p + k) i = μ (74 + 11 * p + k) i := fun k i q3 q4 => F _ _ (by omega) (by omega)
              have J0 := J 0 10 (by decide) (by decide)
              rw [Int.add_zero] at J0
              refine ⟨?_, fun k q3 q4 => ?_⟩
              · rw [J0, m2, qu_ne (by omega), qu_cell (by decide), qu_cell (by decide), qu_cell (by decide), qu_cell (by decide), g1 _ _ (by omega)]
                exact hp.1
              · have hk := hp.2 k q3 q4
                have z : ∀ c, (c = 182 ∨ c = 183 ∨ c = 184 ∨ c = 185) → μ2 c (3 * p + k) = μ c (3 * p + k) := fun c q5 => by
                  rw [m2, qu_cell (by omega), qu_ne (by omega), qu_ne (by omega), qu_ne (by omega), qu_ne (by omega), g1 _ _ (by omega)]
                rw [J 5 k (by decide) (by decide), J 6 k (by decide) (by decide), J 7 k (by decide) (by decide), J 8 k (by decide) (by decide), z 182 (by decide), z 183 (by decide), z 184 (by decide), z 185 (by decide)]
                exact hk
          · by_cases e : 74 + 11 * a1 ≤ c ∧ c ≤ 74 + 11 * a1 + 8
            · have := F2 (c - (74 + 11 * a1)) i (by unfold W81 fFirm at q; omega)
              rw [show 74 + 11 * a1 + (c - (74 + 11 * a1)) = c by omega] at this
              exact this
            · exact F c i e (by unfold W81 fFirm at q; omega)
          · rw [g2 c i (by omega), m1, qu_ne (by omega), qu_ne (by omega), qu_ne (by omega), qu_ne (by omega), qu_ne (by omega)]
          · rw [g2 _ _ (by omega), m1, qu_same]
          · rw [g2 _ _ (by omega), m1, qu_cell (by omega), qu_cell (by omega), qu_cell (by omega), qu_cell (by omega), qu_same]
          · rw [g2 _ _ (by omega), m1, qu_cell (by omega), qu_cell (by omega), qu_cell (by omega), qu_same]
          · rw [g2 _ _ (by omega), m1, qu_cell (by omega), qu_cell (by omega), qu_same]
          · rw [g2 _ _ (by omega), m1, qu_cell (by omega), qu_same]
            exact (sa_today hS).2
        · exact absurd n32 (by omega)
    · subst m1
      refine x137 hS (fun b μ2 h2 => ?_)
      rcases h2 with ⟨ok2, -⟩ | ⟨ok2, ⟨f, f1, f2, f3⟩, -⟩ | ⟨ok2, fr2, h2⟩
      · exact absurd ok ok2
      · exact absurd ((RFirm_fw hF k1 k2).symm.trans (fr f f1 f2)) f3
      · rcases h2 with ⟨n32, -⟩ | ⟨n32, e2, m2⟩
        · exact absurd n32 (by omega)
        · subst m2
          exact ⟨by rw [e2, e1], ⟨h, fun _ _ _ => rfl⟩, Or.inl (fun _ _ _ _ => rfl)⟩
