/-! a debt is set aside -/
theorem smF_up {g g' : Int → Int} {a v : Int} (h0 : 0 ≤ a) (hne : ∀ i, ¬ i = a → g' i = g i) (hv : g' a = g a + v) : ∀ n : Nat, smF g' 0 n = smF g 0 n + (if a < n then v else 0)
  | 0 => by
    rw [smF, smF, if_neg (by omega)]
    rfl
  | n + 1 => by
    rw [smF, smF, smF_up h0 hne hv n]
    by_cases e : (0 : Int) + n = a
    · rw [e, hv, if_neg (by omega), if_pos (by omega)]
      omega
    · rw [hne _ e]
      by_cases q : a < n
      · rw [if_pos q, if_pos (by omega)]
        omega
      · rw [if_neg q, if_neg (by omega)]
        omega
section DS
variable {μ : qM}
theorem ls_r (h : RDL μ) (hS : Safe μ) : 0 ≤ μ 194 0 ∧ μ 194 0 ≤ 19800 := by
  have hn := sa_mdebts hS 0
  have z := h.1.1.2.2.2
  have r := smF_r (g := lsF μ 0) (lo := 0) (B := 990) (μ 191 0).toNat (fun i q1 q2 => by
    have k := dl_k h (i := i) q1 (by omega)
    unfold dok at k
    unfold lsF
    rw [show (20 : Int) * 0 + i = i by omega]
    split <;> omega)
  rw [z]
  have hb : ((μ 191 0).toNat : Int) * 990 ≤ 19800 := by omega
  omega
theorem x91 {d : Nat} {Q : qV → qM → Prop} {a1 : Int} (hS : Safe μ) (hQ : ∀ a μ', ((¬ (0 ≤ a1 ∧ a1 < μ 59 7) ∧ a = -1 ∧ μ' = μ) ∨ ((0 ≤ a1 ∧ a1 < μ 59 7) ∧ 0 < μ 64 a1 ∧ a = -2 ∧ μ' = μ) ∨ ((0 ≤ a1 ∧ a1 < μ 59 7) ∧ μ 64 a1 ≤ 0 ∧ a = μ 63 a1 ∧ Sd μ μ' ∧ μ' = qu (qu (qu μ 64 a1 (μ 61 a1)) 62 a1 0) 63 a1 0)) → Q (.inl a) μ') : qmw (d + 3) 91 [(.inr (.inr (.inl (0)))), (.inl (a1))] μ Q := by
  have hd := sa_debts hS
  rw [e91, g91_0, E107, g91_5, qbr2, q32_id (by omega) (by omega)]
  refine ⟨fun q => ?_, fun q => hQ _ _ (Or.inl ⟨by omega, rfl, rfl⟩)⟩
  have hq : 0 ≤ a1 ∧ a1 < μ 59 7 := by omega
  have hx : 0 ≤ a1 ∧ a1 < 20 := by omega
  rw [e27, g27_0]
  refine ⟨hx, fun q2 => ⟨by decide, ?_⟩, fun q2 => ⟨by decide, ?_⟩⟩
  · rw [g91_21]
    refine ⟨fun _ => ?_, fun z => absurd rfl z⟩
    rw [e28, g28_0]
    refine ⟨hx, hx, hx, hx, hx, ?_⟩
    rw [g91_38]
    refine hQ _ _ (Or.inr (Or.inr ⟨hq, q2, rfl, ?_, rfl⟩))
    clear hQ
    refine Sd_w (Sd_w (Sd_w (Sd_rf hS) ?_ ?_ ?_ ?_ ?_ ?_ ?_ ?_) ?_ ?_ ?_ ?_ ?_ ?_ ?_ ?_) ?_ ?_ ?_ ?_ ?_ ?_ ?_ ?_ <;> intros <;> omega
  · rw [g91_21]
    exact ⟨fun z => absurd z (by decide), fun _ => hQ _ _ (Or.inr (Or.inl ⟨hq, q2, rfl, rfl⟩))⟩
theorem x168 {d : Nat} {Q : qV → qM → Prop} {a1 : Int} (hS : Safe μ) (hQ : ∀ a μ', ((¬ (0 ≤ a1 ∧ a1 < μ 191 0) ∧ a = -1 ∧ μ' = μ) ∨ ((0 ≤ a1 ∧ a1 < μ 191 0) ∧ μ 203 a1 = 1 ∧ a = -2 ∧ μ' = μ) ∨ ((0 ≤ a1 ∧ a1 < μ 191 0) ∧ ¬ μ 203 a1 = 1 ∧ a = μ 199 a1 ∧ Sn μ μ' ∧ μ' = qu (qu (qu (qu (qu μ 200 a1 (q32 (μ 198 a1 + μ 199 a1))) 198 a1 0) 199 a1 0) 203 a1 1) 194 0 (q32 (μ 194 0 + μ 202 a1)))) → Q (.inl a) μ') : qmw (d + 3) 168 [(.inr (.inr (.inl (170)))), (.inl (a1))] μ Q := by
  have hd := sa_mdebts hS 0
  rw [e168, g168_0, E159, g168_5, qbr, q32_id (z := μ 191 0 - 1) (by omega) (by omega)]
  refine ⟨fun q => ?_, fun q => hQ _ _ (Or.inl ⟨by omega, rfl, rfl⟩)⟩
  have hq : 0 ≤ a1 ∧ a1 < μ 191 0 := by omega
  have hx : 0 ≤ a1 ∧ a1 < 60 := by omega
  refine ⟨hx, fun q2 => ⟨hx, hx, hx, hx, hx, hx, by decide, hx, by decide, hQ _ _ (Or.inr (Or.inr ⟨hq, q2, rfl, ?_, rfl⟩))⟩, fun q2 => hQ _ _ (Or.inr (Or.inl ⟨hq, q2, rfl, rfl⟩))⟩
  clear hQ
  refine Sn_x (Sn_x (Sn_x (Sn_x (Sn_x (Sn_rf hS) ?_ ?_ ?_ ?_ ?_ ?_ ?_) ?_ ?_ ?_ ?_ ?_ ?_ ?_) ?_ ?_ ?_ ?_ ?_ ?_ ?_) ?_ ?_ ?_ ?_ ?_ ?_ ?_) ?_ ?_ ?_ ?_ ?_ ?_ ?_ <;> intros <;> omega
theorem pd91 {a1 : Int} (h : R4 μ) : PE R4 91 168 [(.inl (a1))] μ := by
  have hS := h.1.1.1.1
  have en := dl_n h.2
  have hd := sa_debts hS
  refine x91 hS (fun a μ1 z => ⟨a, rfl, ?_⟩)
  have col : ∀ k, 0 ≤ k → k ≤ 6 → (0 ≤ a1 ∧ a1 < μ 59 7) → μ (60 + k) a1 = μ (196 + k) a1 := fun k q1 q2 q => dl_c h.2 q1 q2 q.1 (by omega)
  have dk : (0 ≤ a1 ∧ a1 < μ 59 7) → dok (μ 197 a1) (μ 198 a1) (μ 199 a1) (μ 200 a1) (μ 202 a1) (μ 203 a1) := fun q => dl_k h.2 q.1 (by rw [← en]; exact q.2)
  rcases z with ⟨q, ea, m1⟩ | ⟨q, q2, ea, m1⟩ | ⟨q, q2, ea, r1, m1⟩
  · rw [m1]
    refine x168 hS (fun b μ2 y => ?_)
    rw [← en] at y
    rcases y with ⟨-, eb, m2⟩ | ⟨y, -⟩ | ⟨y, -⟩
    · rw [m2]
      exact ⟨by rw [eb, ea], h⟩
    · exact absurd y q
    · exact absurd y q
  · rw [m1]
    have c4 : μ 64 a1 = μ 200 a1 := col 4 (by decide) (by decide) q
    have k := dk q
    unfold dok at k
    refine x168 hS (fun b μ2 y => ?_)
    rw [← en] at y
    rcases y with ⟨y, -⟩ | ⟨-, -, eb, m2⟩ | ⟨-, y, -⟩
    · exact absurd q y
    · rw [m2]
      exact ⟨by rw [eb, ea], h⟩
    · omega
  · have F1 : ∀ c i, ¬ (59 ≤ c ∧ c ≤ 70) → μ1 c i = μ c i := r1.2
    have c1 : μ 61 a1 = μ 197 a1 := col 1 (by decide) (by decide) q
    have c3 : μ 63 a1 = μ 199 a1 := col 3 (by decide) (by decide) q
    have c4 : μ 64 a1 = μ 200 a1 := col 4 (by decide) (by decide) q
    have k := dk q
    unfold dok at k
    have lr := ls_r h.2 hS
    refine x168 r1.1 (fun b μ2 y => ?_)
    rw [F1 191 0 (by decide), ← en, F1 203 a1 (by decide), F1 199 a1 (by decide), F1 198 a1 (by decide), F1 194 0 (by decide), F1 202 a1 (by decide), q32_id (z := μ 198 a1 + μ 199 a1) (by omega) (by omega), q32_id (z := μ 194 0 + μ 202 a1) (by omega) (by omega), show μ 198 a1 + μ 199 a1 = μ 61 a1 by omega] at y
    rcases y with ⟨y, -⟩ | ⟨-, y, -⟩ | ⟨-, y, eb, r2, m2⟩
    · exact absurd q y
    · omega
    · have R3' := R3_n (R3_d h.1 r1) r2
      have g1 : ∀ c i, ¬ ((c = 62 ∨ c = 63 ∨ c = 64) ∧ i = a1) → μ1 c i = μ c i := fun c i q3 => by
        rw [m1, qu_ne (by omega), qu_ne (by omega), qu_ne (by omega)]
      have g2 : ∀ c i, ¬ ((c = 198 ∨ c = 199 ∨ c = 200 ∨ c = 203) ∧ i = a1) → ¬ (c = 194 ∧ i = 0) → μ2 c i = μ1 c i := fun c i q3 q4 => by
        rw [m2, qu_ne (by omega), qu_ne (by omega), qu_ne (by omega), qu_ne (by omega), qu_ne (by omega)]
      have F : ∀ c i, ¬ ((c = 62 ∨ c = 63 ∨ c = 64 ∨ c = 198 ∨ c = 199 ∨ c = 200 ∨ c = 203) ∧ i = a1) → ¬ (c = 194 ∧ i = 0) → μ2 c i = μ c i := fun c i q3 q4 => by
        rw [g2 c i (by omega) q4, g1 c i (by omega)]
      have v62 : μ2 62 a1 = 0 := by
        rw [g2 62 a1 (by omega) (by omega), m1, qu_cell (by decide), qu_same]
      have v63 : μ2 63 a1 = 0 := by
        rw [g2 63 a1 (by omega) (by omega), m1, qu_same]
      have v64 : μ2 64 a1 = μ 61 a1 := by
        rw [g2 64 a1 (by omega) (by omega), m1, qu_cell (by decide), qu_cell (by decide), qu_same]
      have v198 : μ2 198 a1 = 0 := by
        rw [m2, qu_cell (by decide), qu_cell (by decide), qu_cell (by decide), qu_same]
      have v199 : μ2 199 a1 = 0 := by
        rw [m2, qu_cell (by decide), qu_cell (by decide), qu_same]
      have v200 : μ2 200 a1 = μ 61 a1 := by
        rw [m2, qu_cell (by decide), qu_cell (by decide), qu_cell (by decide), qu_cell (by decide), qu_same]
      have v203 : μ2 203 a1 = 1 := by
        rw [m2, qu_cell (by decide), qu_same]
      have v194 : μ2 194 0 = μ 194 0 + μ 202 a1 := by
        rw [m2, qu_same]
      have v191 : μ2 191 0 = μ 191 0 := F 191 0 (by omega) (by omega)
      refine ⟨by rw [eb, ea, c3], R3', RDL_w hS h.2 (fun c i k1 k2 => F c i (by omega) (by omega)) (fun c i k1 k2 k3 => ?_) ⟨⟨?_, fun k i k1 k2 k3 k4 => ?_, fun i k1 k2 => ?_, ?_⟩, RLb_cp h.2.1.2 (F _ _ (by omega) (by omega)) (fun k i k1 k2 => F _ _ (by omega) (by omega)) (F _ _ (by omega) (by omega)) (fun m i k1 k2 k3 k4 => F _ _ (by omega) (by omega))⟩⟩
      · have n := nn_r c
        exact F c i (by omega) (by omega)
      · show μ2 59 7 = μ2 191 0
        rw [v191, F 59 7 (by omega) (by omega)]
        exact en
      · rw [show (20 : Int) * 0 + i = i by omega]
        have old := dl_c h.2 k1 k2 k3 k4
        by_cases e : i = a1
        · rw [e] at old ⊢
          rcases (show k = 2 ∨ k = 3 ∨ k = 4 ∨ (¬ k = 2 ∧ ¬ k = 3 ∧ ¬ k = 4) by omega) with rfl | rfl | rfl | hk
          · show μ2 62 a1 = μ2 198 a1
            rw [v62, v198]
          · show μ2 63 a1 = μ2 199 a1
            rw [v63, v199]
          · show μ2 64 a1 = μ2 200 a1
            rw [v64, v200]
          · rw [F (58 + 2 + k) a1 (by omega) (by omega), F (196 + k) a1 (by omega) (by omega)]
            exact old
        · rw [F (58 + 2 + k) i (by omega) (by omega), F (196 + k) i (by omega) (by omega)]
          exact old
      · rw [v191] at k2
        rw [show (20 : Int) * 0 + i = i by omega]
        have old := dl_k h.2 k1 k2
        by_cases e : i = a1
        · rw [e, v198, v199, v200, v203, F 197 a1 (by omega) (by omega), F 202 a1 (by omega) (by omega)]
          unfold dok
          omega
        · rw [F 197 i (by omega) (by omega), F 198 i (by omega) (by omega), F 199 i (by omega) (by omega), F 200 i (by omega) (by omega), F 202 i (by omega) (by omega), F 203 i (by omega) (by omega)]
          exact old
      · have hn := sa_mdebts hS 0
        rw [v194, v191, h.2.1.1.2.2.2, smF_up (g := lsF μ 0) (g' := lsF μ2 0) (a := a1) (v := μ 202 a1) q.1 (fun i e => ?_) ?_ (μ 191 0).toNat, if_pos (by omega)]
        · unfold lsF
          rw [show (20 : Int) * 0 + a1 = a1 by omega, v203, if_pos rfl, if_neg y, F 202 a1 (by omega) (by omega), Int.zero_add]
        · unfold lsF
          rw [show (20 : Int) * 0 + i = i by omega, F 202 i (by omega) (by omega), F 203 i (by omega) (by omega)]
end DS
