/-! a debt is made; whether it is right -/
section DB
variable {μ : qM}
theorem pd_n {fo du told : Int → Int} (ht : ∀ f, 0 ≤ f → f ≤ 9 → 0 ≤ fo f → 0 ≤ told f ∧ told f ≤ 20) (hd : okD du) : 0 ≤ pd fo du told := by
  have r := smF_r (g := fun f => if 0 ≤ fo f then du (told f) else 0) (lo := 0) (B := 99) 10 (fun f q1 q2 => by
    by_cases q : 0 ≤ fo f
    · have t := ht f q1 (by omega) q
      have := hd _ t.1 t.2
      rw [if_pos q]
      exact this
    · rw [if_neg q]
      exact ⟨by decide, by decide⟩)
  exact r.1
theorem OW_r (h : RC μ) {p day what : Int} (h0 : 0 ≤ p) (h1 : p ≤ 5) (hday : day ≤ 200) (hw : 0 ≤ what ∧ what ≤ 2) : 0 ≤ OW μ p day what ∧ OW μ p day what ≤ 990 := by
  obtain ⟨hS, hP, hF, hL, hR, hC', hU, hT⟩ := id h
  have hc : isP (74 + 11 * p) := ⟨p, h0, by omega, rfl⟩
  have ok := okP_of hP hR h0 h1
  have fe := FE_day hS hR hC' h0 h1 hday
  have hh := hC_ok (day := day) hS hc
  have hd := okD_C hS hU.2.2 day
  unfold OW
  by_cases w1 : what = 1
  · rw [if_pos w1]
    exact LE_r hh hd ok.1 fe
  · rw [if_neg w1]
    by_cases w2 : what = 2
    · rw [if_pos w2]
      exact MO_r hh hd ok.1 fe
    · rw [if_neg w2, if_pos (by omega)]
      have a := pd_r (fo := FoC μ p day) (du := duC μ day) (told := μ (74 + 11 * p + 1)) ok.1 hd
      have b := pd_n (fo := FoC μ p day) (du := duC μ day) (told := avC μ (74 + 11 * p) day) (fun f q1 q2 q3 => by
        have hit := fo_hit hS h0 h1 q3
        have sp := (hR p h0 h1).1 _ q3 hit.1
        exact avg_r sp.1.1 hit.2.2.1 hit.2.2.2 sp.1.2.2 sp.2.1.1 sp.2.1.2) hd
      unfold qmax
      split <;> omega
/-- a debt of v coins: the class's cells, the reference's -/
def nC (μ : qM) (n p v t : Int) : qM := qu (qu (qu (qu (qu (qu (qu (qu μ 60 n p) 61 n v) 62 n v) 63 n 0) 64 n 0) 65 n t) 66 n 0) 59 7 (n + 1)
def nM (μ : qM) (n p v t : Int) : qM := qu (qu (qu (qu (qu (qu (qu (qu (qu μ 196 n p) 197 n v) 198 n v) 199 n 0) 200 n 0) 201 n t) 202 n 0) 203 n 0) 191 0 (n + 1)
theorem x25 {d : Nat} {Q : qV → qM → Prop} {a1 a2 a3 : Int} (hS : Safe μ) (h0 : 0 ≤ a1) (h1 : a1 < 6) (hQ : ∀ a μ', ((20 ≤ μ 59 7 ∧ a = -3 ∧ μ' = μ) ∨ (μ 59 7 < 20 ∧ a = μ 59 7 ∧ Sd μ μ' ∧ μ' = nC μ (μ 59 7) a1 a2 a3)) → Q (.inl a) μ') : qmw (d + 1) 25 [(.inr (.inr (.inl (59)))), (.inl (a1)), (.inl (a2)), (.inl (a3))] μ Q := by
  have hd := sa_debts hS
  rw [e25, g25_0, q32_id (z := μ 59 7 + 1) (by omega) (by omega), q32_id (z := μ 59 7 + 1 - 1) (by omega) (by omega), show μ 59 7 + 1 - 1 = μ 59 7 by omega]
  refine ⟨fun q => ?_, fun q => hQ _ _ (Or.inl ⟨q, rfl, rfl⟩)⟩
  have hx : 0 ≤ μ 59 7 ∧ μ 59 7 < 20 := ⟨hd.1, q⟩
  refine ⟨hx, hx, hx, hx, hx, hx, hx, hQ _ _ (Or.inr ⟨q, rfl, ?_, rfl⟩)⟩
  clear hQ
  refine Sd_w (Sd_w (Sd_w (Sd_w (Sd_w (Sd_w (Sd_w (Sd_w (Sd_rf hS) ?_ ?_ ?_ ?_ ?_ ?_ ?_ ?_) ?_ ?_ ?_ ?_ ?_ ?_ ?_ ?_) ?_ ?_ ?_ ?_ ?_ ?_ ?_ ?_) ?_ ?_ ?_ ?_ ?_ ?_ ?_ ?_) ?_ ?_ ?_ ?_ ?_ ?_ ?_ ?_) ?_ ?_ ?_ ?_ ?_ ?_ ?_ ?_) ?_ ?_ ?_ ?_ ?_ ?_ ?_ ?_) ?_ ?_ ?_ ?_ ?_ ?_ ?_ ?_ <;> intros <;> omega
theorem x160 {d : Nat} {Q : qV → qM → Prop} {a1 a2 : Int} (h : RC μ) (hQ : ∀ a μ', ((¬ (0 ≤ a1 ∧ a1 ≤ 5 ∧ 0 ≤ a2 ∧ a2 ≤ 2) ∧ a = -1 ∧ μ' = μ) ∨ ((0 ≤ a1 ∧ a1 ≤ 5 ∧ 0 ≤ a2 ∧ a2 ≤ 2) ∧ ∃ ν, Sm μ ν ∧ ((OW μ a1 (μ 170 1) a2 = 0 ∧ a = -2 ∧ μ' = ν) ∨ (¬ OW μ a1 (μ 170 1) a2 = 0 ∧ 20 ≤ μ 191 0 ∧ a = -3 ∧ μ' = ν) ∨ (¬ OW μ a1 (μ 170 1) a2 = 0 ∧ μ 191 0 < 20 ∧ a = μ 191 0 ∧ Sn μ μ' ∧ μ' = nM ν (μ 191 0) a1 (OW μ a1 (μ 170 1) a2) (μ 170 1))))) → Q (.inl a) μ') : qmw (d + 7) 160 [(.inr (.inr (.inl (170)))), (.inl (a1)), (.inl (a2))] μ Q := by
  have ht := sa_mtoday h.1
  have hd := sa_mdebts h.1 0
  rw [e160, g160_0, E133, g160_4, qbr2]
  simp only [E117, g160_13, qbr]
  refine ⟨fun q => hQ _ _ (Or.inl ⟨by omega, rfl, rfl⟩), fun q => ⟨fun q2 => x148 (Sm_rf h.1) h q.1 q.2 ht.2 (by omega) (fun ν hm => ?_), fun q2 => hQ _ _ (Or.inl ⟨by omega, rfl, rfl⟩)⟩⟩
  have ok : 0 ≤ a1 ∧ a1 ≤ 5 ∧ 0 ≤ a2 ∧ a2 ≤ 2 := by omega
  have e191 : ν 191 0 = μ 191 0 := hm.2 191 0 (by omega)
  have e170 : ν 170 1 = μ 170 1 := hm.2 170 1 (by omega)
  rw [g160_28, e191, e170, q32_id (z := μ 191 0 + 1) (by omega) (by omega)]
  refine ⟨fun q3 => ⟨by decide, fun q4 => ?_, fun q4 => hQ _ _ (Or.inr ⟨ok, ν, hm, Or.inr (Or.inl ⟨q3, by omega, rfl, rfl⟩)⟩)⟩, fun q3 => hQ _ _ (Or.inr ⟨ok, ν, hm, Or.inl ⟨q3, rfl, rfl⟩⟩)⟩
  have hx : 0 ≤ μ 191 0 ∧ μ 191 0 < 60 := by omega
  have hl : μ 191 0 < 20 := by omega
  refine ⟨by decide, hx, hx, hx, hx, hx, hx, hx, hx, by decide, by decide, hQ _ _ (Or.inr ⟨ok, ν, hm, Or.inr (Or.inr ⟨q3, hl, rfl, ?_, rfl⟩)⟩)⟩
  clear hQ
  have h1 := Sn_m (Sn_rf h.1) hm
  refine Sn_x (Sn_x (Sn_x (Sn_x (Sn_x (Sn_x (Sn_x (Sn_x (Sn_x h1 ?_ ?_ ?_ ?_ ?_ ?_ ?_) ?_ ?_ ?_ ?_ ?_ ?_ ?_) ?_ ?_ ?_ ?_ ?_ ?_ ?_) ?_ ?_ ?_ ?_ ?_ ?_ ?_) ?_ ?_ ?_ ?_ ?_ ?_ ?_) ?_ ?_ ?_ ?_ ?_ ?_ ?_) ?_ ?_ ?_ ?_ ?_ ?_ ?_) ?_ ?_ ?_ ?_ ?_ ?_ ?_) ?_ ?_ ?_ ?_ ?_ ?_ ?_ <;> intros <;> omega
/-- the relation behind a new debt -/
theorem R4_new {μ1 μ2 ν : qM} {p v t : Int} (h : R4 μ) (hn : μ 59 7 < 20) (hv : 1 ≤ v ∧ v ≤ 990) (r1 : Sd μ μ1) (m1 : μ1 = nC μ (μ 59 7) p v t) (hm : Sm μ1 ν) (r2 : Sn μ1 μ2) (m2 : μ2 = nM ν (μ 59 7) p v t) : R4 μ2 := by
  have hS := h.1.1.1.1
  have en := dl_n h.2
  have hd := sa_debts hS
  have R3' := R3_n (R3_d h.1 r1) r2
  have g1 : ∀ c i, ¬ ((60 ≤ c ∧ c ≤ 66) ∧ i = μ 59 7) → ¬ (c = 59 ∧ i = 7) → μ1 c i = μ c i := fun c i q1 q2 => by
    rw [m1]
    unfold nC
    rw [qu_ne (by omega), qu_ne (by omega), qu_ne (by omega), qu_ne (by omega), qu_ne (by omega), qu_ne (by omega), qu_ne (by omega), qu_ne (by omega)]
  have g2 : ∀ c i, ¬ ((196 ≤ c ∧ c ≤ 203) ∧ i = μ 59 7) → ¬ (c = 191 ∧ i = 0) → μ2 c i = ν c i := fun c i q1 q2 => by
    rw [m2]
    unfold nM
    rw [qu_ne (by omega), qu_ne (by omega), qu_ne (by omega), qu_ne (by omega), qu_ne (by omega), qu_ne (by omega), qu_ne (by omega), qu_ne (by omega), qu_ne (by omega)]
  have F : ∀ c i, ¬ (186 ≤ c ∧ c ≤ 190) → ¬ c = 170 → ¬ (((60 ≤ c ∧ c ≤ 66) ∨ (196 ≤ c ∧ c ≤ 203)) ∧ i = μ 59 7) → ¬ (c = 59 ∧ i = 7) → ¬ (c = 191 ∧ i = 0) → μ2 c i = μ c i := fun c i q1 q2 q3 q4 q5 => by
    rw [g2 c i (by omega) q5, hm.2 c i (by omega), g1 c i (by omega) q4]
  have cC : ∀ c, 59 ≤ c → c ≤ 66 → ∀ i, μ2 c i = μ1 c i := fun c q1 q2 i => by
    rw [g2 c i (by omega) (by omega), hm.2 c i (by omega)]
  have v59 : μ2 59 7 = μ 59 7 + 1 := by
    rw [cC 59 (by decide) (by decide), m1]
    unfold nC
    rw [qu_same]
  have v191 : μ2 191 0 = μ 59 7 + 1 := by
    rw [m2]
    unfold nM
    rw [qu_same]
  have c60 : μ2 60 (μ 59 7) = p := by
    rw [cC 60 (by decide) (by decide), m1]
    unfold nC
    rw [qu_cell (by decide), qu_cell (by decide), qu_cell (by decide), qu_cell (by decide), qu_cell (by decide), qu_cell (by decide), qu_cell (by decide), qu_same]
  have c61 : μ2 61 (μ 59 7) = v := by
    rw [cC 61 (by decide) (by decide), m1]
    unfold nC
    rw [qu_cell (by decide), qu_cell (by decide), qu_cell (by decide), qu_cell (by decide), qu_cell (by decide), qu_cell (by decide), qu_same]
  have c62 : μ2 62 (μ 59 7) = v := by
    rw [cC 62 (by decide) (by decide), m1]
    unfold nC
    rw [qu_cell (by decide), qu_cell (by decide), qu_cell (by decide), qu_cell (by decide), qu_cell (by decide), qu_same]
  have c63 : μ2 63 (μ 59 7) = 0 := by
    rw [cC 63 (by decide) (by decide), m1]
    unfold nC
    rw [qu_cell (by decide), qu_cell (by decide), qu_cell (by decide), qu_cell (by decide), qu_same]
  have c64 : μ2 64 (μ 59 7) = 0 := by
    rw [cC 64 (by decide) (by decide), m1]
    unfold nC
    rw [qu_cell (by decide), qu_cell (by decide), qu_cell (by decide), qu_same]
  have c65 : μ2 65 (μ 59 7) = t := by
    rw [cC 65 (by decide) (by decide), m1]
    unfold nC
    rw [qu_cell (by decide), qu_cell (by decide), qu_same]
  have c66 : μ2 66 (μ 59 7) = 0 := by
    rw [cC 66 (by decide) (by decide), m1]
    unfold nC
    rw [qu_cell (by decide), qu_same]
  have c196 : μ2 196 (μ 59 7) = p := by
    rw [m2]
    unfold nM
    rw [qu_cell (by decide), qu_cell (by decide), qu_cell (by decide), qu_cell (by decide), qu_cell (by decide), qu_cell (by decide), qu_cell (by decide), qu_cell (by decide), qu_same]
  have c197 : μ2 197 (μ 59 7) = v := by
    rw [m2]
    unfold nM
    rw [qu_cell (by decide), qu_cell (by decide), qu_cell (by decide), qu_cell (by decide), qu_cell (by decide), qu_cell (by decide), qu_cell (by decide), qu_same]
  have c198 : μ2 198 (μ 59 7) = v := by
    rw [m2]
    unfold nM
    rw [qu_cell (by decide), qu_cell (by decide), qu_cell (by decide), qu_cell (by decide), qu_cell (by decide), qu_cell (by decide), qu_same]
  have c199 : μ2 199 (μ 59 7) = 0 := by
    rw [m2]
    unfold nM
    rw [qu_cell (by decide), qu_cell (by decide), qu_cell (by decide), qu_cell (by decide), qu_cell (by decide), qu_same]
  have c200 : μ2 200 (μ 59 7) = 0 := by
    rw [m2]
    unfold nM
    rw [qu_cell (by decide), qu_cell (by decide), qu_cell (by decide), qu_cell (by decide), qu_same]
  have c201 : μ2 201 (μ 59 7) = t := by
    rw [m2]
    unfold nM
    rw [qu_cell (by decide), qu_cell (by decide), qu_cell (by decide), qu_same]
  have c202 : μ2 202 (μ 59 7) = 0 := by
    rw [m2]
    unfold nM
    rw [qu_cell (by decide), qu_cell (by decide), qu_same]
  have c203 : μ2 203 (μ 59 7) = 0 := by
    rw [m2]
    unfold nM
    rw [qu_cell (by decide), qu_same]
  refine ⟨R3', RDL_w hS h.2 (fun c i k1 k2 => F c i (by omega) (by omega) (by omega) (by omega) (by omega)) (fun c i k1 k2 k3 => ?_) ⟨⟨?_, fun k i k1 k2 k3 k4 => ?_, fun i k1 k2 => ?_, ?_⟩, RLb_cp h.2.1.2 (F _ _ (by omega) (by omega) (by omega) (by omega) (by omega)) (fun k i k1 k2 => F _ _ (by omega) (by omega) (by omega) (by omega) (by omega)) (F _ _ (by omega) (by omega) (by omega) (by omega) (by omega)) (fun m i k1 k2 k3 k4 => F _ _ (by omega) (by omega) (by omega) (by omega) (by omega))⟩⟩
  · have n := nn_r c
    exact F c i (by omega) (by omega) (by omega) (by omega) (by omega)
  · show μ2 59 7 = μ2 191 0
    rw [v59, v191]
  · rw [show (20 : Int) * 0 + i = i by omega]
    by_cases e : i = μ 59 7
    · rw [e]
      rcases (show k = 0 ∨ k = 1 ∨ k = 2 ∨ k = 3 ∨ k = 4 ∨ k = 5 ∨ k = 6 by omega) with rfl | rfl | rfl | rfl | rfl | rfl | rfl
      · exact c60.trans c196.symm
      · exact c61.trans c197.symm
      · exact c62.trans c198.symm
      · exact c63.trans c199.symm
      · exact c64.trans c200.symm
      · exact c65.trans c201.symm
      · exact c66.trans c202.symm
    · rw [F (58 + 2 + k) i (by omega) (by omega) (by omega) (by omega) (by omega), F (196 + k) i (by omega) (by omega) (by omega) (by omega) (by omega)]
      exact dl_c h.2 k1 k2 k3 k4
  · rw [v191] at k2
    rw [show (20 : Int) * 0 + i = i by omega]
    by_cases e : i = μ 59 7
    · rw [e, c197, c198, c199, c200, c202, c203]
      unfold dok
      omega
    · have old := dl_k h.2 (i := i) k1 (by omega)
      rw [F 197 i (by omega) (by omega) (by omega) (by omega) (by omega), F 198 i (by omega) (by omega) (by omega) (by omega) (by omega), F 199 i (by omega) (by omega) (by omega) (by omega) (by omega), F 200 i (by omega) (by omega) (by omega) (by omega) (by omega), F 202 i (by omega) (by omega) (by omega) (by omega) (by omega), F 203 i (by omega) (by omega) (by omega) (by omega) (by omega)]
      exact old
  · rw [F 194 0 (by omega) (by omega) (by omega) (by omega) (by omega), v191, h.2.1.1.2.2.2, ← en, show (μ 59 7 + 1).toNat = (μ 59 7).toNat + 1 by omega, smF, show (0 : Int) + (((μ 59 7).toNat : Nat) : Int) = μ 59 7 by omega]
    have z : lsF μ2 0 (μ 59 7) = 0 := by
      unfold lsF
      rw [show (20 : Int) * 0 + μ 59 7 = μ 59 7 by omega, c203, if_neg (by decide)]
    rw [z, Int.add_zero]
    refine smF_cg _ (fun i q1 q2 => ?_)
    unfold lsF
    rw [show (20 : Int) * 0 + i = i by omega, F 202 i (by omega) (by omega) (by omega) (by omega) (by omega), F 203 i (by omega) (by omega) (by omega) (by omega) (by omega)]
theorem OW_fr {μ1 : qM} {p day what : Int} (h0 : 0 ≤ p) (h1 : p ≤ 5) (k : ∀ c i, (9 ≤ c ∧ c ≤ 14) ∨ (74 ≤ c ∧ c < 140) → μ1 c i = μ c i) : OW μ1 p day what = OW μ p day what := by
  have kp : ∀ j i, 0 ≤ j → j ≤ 10 → μ1 (74 + 11 * p + j) i = μ (74 + 11 * p + j) i := fun j i _ _ => k _ _ (by omega)
  have z := foC_fr (day := day) kp
  have e0 : FoC μ1 p day = FoC μ p day := z.1
  have ed := (duC_fr (μ := μ) (μ1 := μ1) (fun c i q1 q2 => k c i (by omega)) day).1
  have e1 : μ1 (74 + 11 * p + 1) = μ (74 + 11 * p + 1) := funext (fun i => kp 1 i (by decide) (by decide))
  have e2 : μ1 (74 + 11 * p + 2) = μ (74 + 11 * p + 2) := funext (fun i => kp 2 i (by decide) (by decide))
  have ea : avC μ1 (74 + 11 * p) day = avC μ (74 + 11 * p) day := by
    funext f
    unfold avC
    rw [z.1, kp 5 _ (by decide) (by decide), kp 6 _ (by decide) (by decide), kp 7 _ (by decide) (by decide)]
  unfold OW
  rw [e0, z.2.1, z.2.2.2, ed, e1, e2, ea]
theorem pd89 {a1 a2 : Int} (h : R4 μ) : PE R4 89 160 [(.inl (a1)), (.inl (a2))] μ := by
  have hS := h.1.1.1.1
  have en := dl_n h.2
  have hT := h.1.1.1.2.1.1
  have hC := R3_c h.1
  have ht := sa_today hS
  have no : ¬ (0 ≤ a1 ∧ a1 ≤ 5 ∧ 0 ≤ a2 ∧ a2 ≤ 2) → ∃ a : Int, (.inl (-1) : qV) = .inl a ∧ qmw 20 160 [(.inr (.inr (.inl (170)))), (.inl (a1)), (.inl (a2))] μ (fun w μ2 => w = .inl a ∧ R4 μ2) := fun q => ⟨_, rfl, x160 hC (fun b μ2 y => by
    rcases y with ⟨-, eb, m2⟩ | ⟨y, -⟩
    · rw [eb, m2]
      exact ⟨rfl, h⟩
    · exact absurd y q)⟩
  unfold PE
  rw [e89, g89_0, E105, g89_4, qbr]
  simp only [E104, g89_13, qbr2]
  refine ⟨fun q => no (by omega), fun q => ⟨fun q2 => y109 hC (by omega) (by omega) (fun μ1 lb ht2 => ?_), fun q2 => no (by omega)⟩⟩
  clear no
  have ok : 0 ≤ a1 ∧ a1 ≤ 5 ∧ 0 ≤ a2 ∧ a2 ≤ 2 := by omega
  have h1 := R4_v h lb.1 ht2
  have hS1 := h1.1.1.1.1
  have hC1 := R3_c h1.1
  have oe : OW μ1 a1 (μ 58 3) a2 = OW μ a1 (μ 58 3) a2 := OW_sv lb.1 ok.1 ok.2.1
  have orr := OW_r hC (p := a1) (day := μ 58 3) (what := a2) ok.1 ok.2.1 ht.2 ok.2.2
  have t1 : μ1 58 3 = μ 58 3 := lb.1.2 58 3 (by omega)
  have t2 : μ1 170 1 = μ 58 3 := (lb.1.2 170 1 (by omega)).trans hT.symm
  have n1 : μ1 59 7 = μ 59 7 := lb.1.2 59 7 (by omega)
  have n2 : μ1 191 0 = μ 59 7 := (lb.1.2 191 0 (by omega)).trans en.symm
  rw [g89_30, qra57 (by omega) (by omega)]
  refine ⟨by omega, x13 hC ok.1 ok.2.1 ht.2 lb (by omega) ?_⟩
  rw [g89_44, t1]
  refine ⟨fun q3 => x25 hS1 ok.1 (by omega) (fun a μ2 z => ?_), fun q3 => ⟨_, rfl, x160 hC1 (fun b μ3 y => ?_)⟩⟩
  · rw [n1] at z
    rw [g89_71]
    rcases z with ⟨f, ea, m1⟩ | ⟨f, ea, r1, m1⟩
    · rw [m1]
      refine ⟨a, rfl, x160 hC1 (fun b μ3 y => ?_)⟩
      rw [t2, oe, n2] at y
      rcases y with ⟨y, -⟩ | ⟨-, ν, hm, y⟩
      · exact absurd ok y
      · rcases y with ⟨y, -⟩ | ⟨-, -, eb, m3⟩ | ⟨-, y, -⟩
        · omega
        · rw [m3, eb, ea]
          exact ⟨rfl, R4_m h1 hm⟩
        · omega
    · have hCC : RC μ2 := R3_c (R3_d h1.1 r1)
      have o2 : OW μ2 a1 (μ 58 3) a2 = OW μ a1 (μ 58 3) a2 := (OW_fr ok.1 ok.2.1 (fun c i q => r1.2 c i (by omega))).trans oe
      have t3 : μ2 170 1 = μ 58 3 := (r1.2 170 1 (by omega)).trans t2
      have n3 : μ2 191 0 = μ 59 7 := (r1.2 191 0 (by omega)).trans n2
      refine ⟨a, rfl, x160 hCC (fun b μ3 y => ?_)⟩
      rw [t3, o2, n3] at y
      rcases y with ⟨y, -⟩ | ⟨-, ν, hm, y⟩
      · exact absurd ok y
      · rcases y with ⟨y, -⟩ | ⟨-, y, -⟩ | ⟨-, -, eb, r2, m3⟩
        · omega
        · omega
        · refine ⟨by rw [eb, ea], R4_new (p := a1) (v := OW μ a1 (μ 58 3) a2) (t := μ 58 3) h1 (by omega) ⟨by omega, orr.2⟩ r1 ?_ hm r2 ?_⟩
          · rw [n1]
            exact m1
          · rw [n1]
            exact m3
  · rw [t2, oe, n2] at y
    rcases y with ⟨y, -⟩ | ⟨-, ν, hm, y⟩
    · exact absurd ok y
    · rcases y with ⟨-, eb, m3⟩ | ⟨y, -⟩ | ⟨y, -⟩
      · rw [m3, eb]
        exact ⟨rfl, R4_m h1 hm⟩
      · omega
      · omega
/-! right -/
theorem x170 {d : Nat} {Q : qV → qM → Prop} {a1 a2 : Int} (h : RC μ) (hQ : ∀ a μ', ((¬ ((0 ≤ a1 ∧ a1 < μ 191 0) ∧ 0 ≤ a2 ∧ a2 ≤ 200) ∧ a = -1 ∧ μ' = μ) ∨ (((0 ≤ a1 ∧ a1 < μ 191 0) ∧ 0 ≤ a2 ∧ a2 ≤ 200) ∧ Sm μ μ' ∧ a = (if OW μ (μ 196 a1) a2 2 < μ 197 a1 then 2 else if OW μ (μ 196 a1) a2 1 < μ 197 a1 then 1 else 0))) → Q (.inl a) μ') : qmw (d + 6) 170 [(.inr (.inr (.inl (170)))), (.inl (a1)), (.inl (a2))] μ Q := by
  have hd := sa_mdebts h.1 0
  have hp := sa_mdp h.1 a1
  rw [e170, g170_0, E159, g170_5, qbr2, q32_id (z := μ 191 0 - 1) (by omega) (by omega)]
  simp only [E130, g170_12, qbr]
  refine ⟨fun q => hQ _ _ (Or.inl ⟨by omega, rfl, rfl⟩), fun q => ⟨fun q2 => ⟨by omega, y144 (Sm_rf h.1) h hp.1 hp.2 q2.2 (fun μ2 s1 s2 => ?_)⟩, fun q2 => hQ _ _ (Or.inl ⟨by omega, rfl, rfl⟩)⟩⟩
  have g := GT_1 s2
  have o1 : OW μ (μ 196 a1) a2 1 = qmax 0 (μ2 170 29) := by
    unfold OW
    rw [if_pos rfl]
    exact g.2.2.1.symm
  have o2 : OW μ (μ 196 a1) a2 2 = qmax 0 (μ2 170 30) := by
    unfold OW
    rw [if_neg (by decide), if_pos rfl]
    exact g.2.2.2.symm
  have e197 : μ2 197 a1 = μ 197 a1 := s1.2 197 a1 (by omega)
  rw [o1, o2] at hQ
  have hx : 0 ≤ a1 ∧ a1 < 60 := by omega
  have ok : (0 ≤ a1 ∧ a1 < μ 191 0) ∧ 0 ≤ a2 ∧ a2 ≤ 200 := by omega
  rw [g170_28, E142, g170_41]
  simp only [E142, g170_61, over_q, e197]
  refine ⟨hx, fun q3 => ⟨hx, fun q4 => hQ _ _ (Or.inr ⟨ok, s1, ?_⟩), fun q4 => hQ _ _ (Or.inr ⟨ok, s1, ?_⟩)⟩, fun q3 => hQ _ _ (Or.inr ⟨ok, s1, ?_⟩)⟩
  · rw [if_neg (Int.not_lt.mpr q3), if_neg (Int.not_lt.mpr q4)]
  · rw [if_neg (Int.not_lt.mpr q3), if_pos q4]
  · rw [if_pos q3]
theorem pd93 {a1 a2 : Int} (h : R4 μ) : PE R4 93 170 [(.inl (a1)), (.inl (a2))] μ := by
  have hS := h.1.1.1.1
  have en := dl_n h.2
  have hC' := R3_c h.1
  have hd := sa_debts hS
  have hp := sa_dp hS a1
  have no : ¬ ((0 ≤ a1 ∧ a1 < μ 191 0) ∧ 0 ≤ a2 ∧ a2 ≤ 200) → ∃ a : Int, (.inl (-1) : qV) = .inl a ∧ qmw 20 170 [(.inr (.inr (.inl (170)))), (.inl (a1)), (.inl (a2))] μ (fun w μ2 => w = .inl a ∧ R4 μ2) := fun q => ⟨_, rfl, x170 hC' (fun b μ2 y => by
    rcases y with ⟨-, eb, m2⟩ | ⟨y, -⟩
    · rw [eb, m2]
      exact ⟨rfl, h⟩
    · exact absurd y q)⟩
  unfold PE
  rw [e93, g93_0, E107, g93_5, qbr, q32_id (by omega) (by omega)]
  simp only [E104, g93_16, qbr2]
  refine ⟨fun q => no (by omega), fun q => ⟨fun q2 => ⟨by omega, y109 hC' hp.1 hp.2 (fun μ1 lb ht2 => ?_)⟩, fun q2 => no (by omega)⟩⟩
  clear no
  have ok : (0 ≤ a1 ∧ a1 < μ 191 0) ∧ 0 ≤ a2 ∧ a2 ≤ 200 := by omega
  have h1 := R4_v h lb.1 ht2
  have hC1 := R3_c h1.1
  have c0 : μ 60 a1 = μ 196 a1 := dl_c h.2 (k := 0) (by decide) (by decide) ok.1.1 (by omega)
  have c1 : μ 61 a1 = μ 197 a1 := dl_c h.2 (k := 1) (by decide) (by decide) ok.1.1 (by omega)
  have e61 : μ1 61 a1 = μ 61 a1 := lb.1.2 61 a1 (by omega)
  have e197 : μ1 197 a1 = μ 61 a1 := (lb.1.2 197 a1 (by omega)).trans c1.symm
  have e196 : μ1 196 a1 = μ 60 a1 := (lb.1.2 196 a1 (by omega)).trans c0.symm
  have n2 : μ1 191 0 = μ 191 0 := lb.1.2 191 0 (by omega)
  have ow : ∀ w, OW μ1 (μ 60 a1) a2 w = OW μ (μ 60 a1) a2 w := fun w => OW_sv lb.1 hp.1 hp.2
  have hc : isP (74 + 11 * μ 60 a1) := ⟨_, hp.1, by omega, rfl⟩
  have okk := okP_of hC'.2.1 hC'.2.2.2.2.1 hp.1 hp.2
  have fe := FE_day hC'.1 hC'.2.2.2.2.1 hC'.2.2.2.2.2.1 (day := a2) hp.1 hp.2 (by omega)
  have o1 : OW μ (μ 60 a1) a2 1 = LE (FoC μ (μ 60 a1) a2) (SxC μ (74 + 11 * μ 60 a1) a2) (duC μ a2) (μ (74 + 11 * μ 60 a1 + 1)) (hC μ (74 + 11 * μ 60 a1) a2) := by
    unfold OW
    rw [if_pos rfl]
  have o2 : OW μ (μ 60 a1) a2 2 = MO (FoC μ (μ 60 a1) a2) (SxC μ (74 + 11 * μ 60 a1) a2) (duC μ a2) (μ (74 + 11 * μ 60 a1 + 1)) (hC μ (74 + 11 * μ 60 a1) a2) := by
    unfold OW
    rw [if_neg (by decide), if_pos rfl]
  have fin : ∀ a : Int, a = (if OW μ (μ 60 a1) a2 2 < μ 61 a1 then 2 else if OW μ (μ 60 a1) a2 1 < μ 61 a1 then 1 else 0) → ∃ b : Int, (.inl a : qV) = .inl b ∧ qmw 20 170 [(.inr (.inr (.inl (170)))), (.inl (a1)), (.inl (a2))] μ1 (fun w μ2 => w = .inl b ∧ R4 μ2) := fun a ea => ⟨_, rfl, x170 hC1 (fun b μ2 y => by
    rw [n2, e196, e197, ow, ow, ← ea] at y
    rcases y with ⟨y, -⟩ | ⟨-, s1, eb⟩
    · exact absurd ok y
    · rw [eb]
      exact ⟨rfl, R4_m h1 s1⟩)⟩
  rw [g93_38, e61]
  refine ⟨by omega, x11 lb.1.1 lb.2.2.2 fe (hC_ok hS hc) okk.1 ?_⟩
  rw [g93_59]
  refine ⟨fun q3 => x10 lb.1.1 lb.2.2.2 fe (hC_ok hS hc) okk.1 ?_, fun q3 => fin 2 ?_⟩
  · rw [g93_72]
    refine ⟨fun q4 => fin 0 ?_, fun q4 => fin 1 ?_⟩
    · rw [o1, o2, if_neg (Int.not_lt.mpr q3), if_neg (Int.not_lt.mpr q4)]
    · rw [o1, o2, if_neg (Int.not_lt.mpr q3), if_pos q4]
  · rw [o2, if_pos q3]
end DB
