/-! EXACT: pay, place, firm -/
theorem qcp_same (μ : qM) (a b i : Int) : qcp μ a b b i = μ a i := by
  unfold qcp
  rw [if_pos rfl]
theorem qcp_ne {μ : qM} {a b c : Int} (h : ¬ c = b) (i : Int) : qcp μ a b c i = μ c i := by
  unfold qcp
  rw [if_neg h]
/-- a memory that differs in one cell -/
theorem Safe_ch {μ μ' : qM} {c0 : Int} (h : Safe μ) (hf : ∀ c i, ¬ c = c0 → μ' c i = μ c i) (hv : ∀ i, sf c0 i (μ' c0 i)) (h1 : ¬ c0 = 182) (h2 : ¬ c0 = 183) (h3 : ¬ c0 = 170) (h4 : ¬ c0 = 176) : Safe μ' := by
  refine ⟨fun c i => ?_, fun k => ?_, fun k h5 h6 => ?_⟩
  · by_cases e : c = c0
    · rw [e]
      exact hv i
    · rw [hf c i e]
      exact h.1 c i
  · rw [hf _ _ (by omega), hf _ _ (by omega)]
    exact h.2.1 k
  · rw [hf _ _ (by omega)] at h6 ⊢
    exact h.2.2 k h5 h6
/-- a row filled with v from lo to hi -/
def qfl (μ : qM) (c lo hi v : Int) : qM := fun c' i' => if c' = c ∧ lo ≤ i' ∧ i' ≤ hi then v else μ c' i'
theorem qfl_ne {μ : qM} {c lo hi v c' : Int} (h : ¬ c' = c) (i : Int) : qfl μ c lo hi v c' i = μ c' i := by
  unfold qfl
  rw [if_neg (fun q => h q.1)]
theorem qfl_0 {μ : qM} {c lo hi v : Int} (h : hi < lo) : qfl μ c lo hi v = μ := by
  funext c' i'
  unfold qfl
  rw [if_neg (by omega)]
theorem qfl_s {μ : qM} {c lo i v : Int} (h : lo ≤ i) : qu (qfl μ c lo (i - 1) v) c i v = qfl μ c lo i v := by
  funext c' i'
  by_cases e : c' = c ∧ i' = i
  · rw [e.1, e.2, qu_same]
    unfold qfl
    rw [if_pos ⟨rfl, h, Int.le_refl i⟩]
  · rw [qu_ne e]
    unfold qfl
    by_cases e2 : c' = c ∧ lo ≤ i' ∧ i' ≤ i
    · rw [if_pos e2, if_pos (by omega)]
    · rw [if_neg e2, if_neg (by omega)]
def okPay (a1 a2 a3 a4 : Int) : Prop := 0 ≤ a1 ∧ a1 ≤ 5 ∧ 0 ≤ a2 ∧ a2 ≤ 9 ∧ 0 ≤ a3 ∧ a3 ≤ 1 ∧ 0 ≤ a4 ∧ a4 ≤ 20
theorem x80 {d : Nat} {Q : qV → qM → Prop} {μ : qM} {a1 a2 a3 a4 : Int} (hQ : ∀ a μ', ((okPay a1 a2 a3 a4 ∧ a = μ (74 + 11 * a1 + (1 + a3)) a2 ∧ μ' = qu μ (74 + 11 * a1 + (1 + a3)) a2 a4) ∨ (¬ okPay a1 a2 a3 a4 ∧ a = -1 ∧ μ' = μ)) → Q (.inl a) μ') : qmw (d + 3) 80 [(.inr (.inr (.inl (0)))), (.inl (a1)), (.inl (a2)), (.inl (a3)), (.inl (a4))] μ Q := by
  have no : ¬ okPay a1 a2 a3 a4 → Q (.inl (-1)) μ := fun q => hQ _ _ (Or.inr ⟨q, rfl, rfl⟩)
  have ye := fun q : okPay a1 a2 a3 a4 => hQ _ _ (Or.inl ⟨q, rfl, rfl⟩)
  unfold okPay at no ye
  rw [e80, g80_0, E105, g80_4, qbr]
  simp only [E104, E106, g80_11, g80_20, g80_31, qbr2, qbr]
  refine ⟨fun q => no (by clear no ye; omega), fun q => ⟨fun q2 => no (by clear no ye; omega), fun q2 => ⟨fun q3 => no (by clear no ye; omega), fun q3 => ⟨fun q4 => ?_, fun q4 => no (by clear no ye; omega)⟩⟩⟩⟩
  have Y := ye (by clear no ye; omega)
  clear no ye hQ
  have hx : 0 ≤ a1 ∧ a1 < 6 := by omega
  have hy : 0 ≤ a2 ∧ a2 < 10 := by omega
  have h3 : a3 = 0 ∨ a3 = 1 := by omega
  have hp := pf (isP57 hx.1 hx.2)
  simp only [hp, qif_r]
  rw [qra57 hx.1 hx.2]
  clear hp
  rcases h3 with rfl | rfl
  · exact ⟨fun q => absurd rfl q, fun _ => ⟨hx, hy, hy, Y⟩⟩
  · exact ⟨fun _ => ⟨hx, hy, hy, Y⟩, fun q => absurd q (by decide)⟩
theorem x135 {d : Nat} {Q : qV → qM → Prop} {μ : qM} {a1 a2 a3 a4 : Int} (hQ : ∀ a μ', ((okPay a1 a2 a3 a4 ∧ a = μ (177 + a3) (10 * a1 + a2) ∧ μ' = qu μ (177 + a3) (10 * a1 + a2) a4) ∨ (¬ okPay a1 a2 a3 a4 ∧ a = -1 ∧ μ' = μ)) → Q (.inl a) μ') : qmw (d + 3) 135 [(.inr (.inr (.inl (170)))), (.inl (a1)), (.inl (a2)), (.inl (a3)), (.inl (a4))] μ Q := by
  have no : ¬ okPay a1 a2 a3 a4 → Q (.inl (-1)) μ := fun q => hQ _ _ (Or.inr ⟨q, rfl, rfl⟩)
  have ye := fun q : okPay a1 a2 a3 a4 => hQ _ _ (Or.inl ⟨q, rfl, rfl⟩)
  unfold okPay at no ye
  rw [e135, g135_0, E133, g135_4, qbr2]
  simp only [E134, E117, g135_11, g135_20, g135_31, qbr2, qbr]
  refine ⟨fun q => no (by clear no ye; omega), fun q => ⟨fun q2 => no (by clear no ye; omega), fun q2 => ⟨fun q3 => no (by clear no ye; omega), fun q3 => ⟨fun q4 => ?_, fun q4 => no (by clear no ye; omega)⟩⟩⟩⟩
  have Y := ye (by clear no ye; omega)
  clear no ye hQ
  rw [q32_id (z := 10 * a1) (by omega) (by omega), q32_id (z := 10 * a1 + a2) (by omega) (by omega)]
  have hy : 0 ≤ 10 * a1 + a2 ∧ 10 * a1 + a2 < 60 := by omega
  have h3 : a3 = 0 ∨ a3 = 1 := by omega
  rcases h3 with rfl | rfl
  · exact ⟨fun q => absurd rfl q, fun _ => ⟨hy, fun q => absurd rfl q, fun _ => ⟨hy, Y⟩⟩⟩
  · exact ⟨fun _ => ⟨hy, fun _ => ⟨hy, Y⟩, fun q => absurd q (by decide)⟩, fun q => absurd q (by decide)⟩
def okPl (a1 a2 a3 : Int) : Prop := 0 ≤ a1 ∧ a1 ≤ 5 ∧ 0 ≤ a2 ∧ a2 ≤ 1 ∧ 0 ≤ a3 ∧ a3 ≤ 99
theorem x94 {d : Nat} {Q : qV → qM → Prop} {μ : qM} {a1 a2 a3 : Int} (hS : Safe μ) (hQ : ∀ a μ', ((okPl a1 a2 a3 ∧ a = μ (74 + 11 * a1 + (9 + a2)) (μ 58 3) ∧ μ' = qfl μ (74 + 11 * a1 + (9 + a2)) (μ 58 3) 200 a3) ∨ (¬ okPl a1 a2 a3 ∧ a = -1 ∧ μ' = μ)) → Q (.inl a) μ') : qmw (d + 3) 94 [(.inr (.inr (.inl (0)))), (.inl (a1)), (.inl (a2)), (.inl (a3))] μ Q := by
  have ht := sa_today hS
  have no : ¬ okPl a1 a2 a3 → Q (.inl (-1)) μ := fun q => hQ _ _ (Or.inr ⟨q, rfl, rfl⟩)
  have ye := fun q : okPl a1 a2 a3 => hQ _ _ (Or.inl ⟨q, rfl, rfl⟩)
  unfold okPl at no ye
  rw [e94, g94_0, E105, g94_4, qbr]
  simp only [E104, g94_13, g94_23, qbr2, qbr]
  refine ⟨fun q => no (by clear no ye; omega), fun q => ⟨fun q2 => no (by clear no ye; omega), fun q2 => ⟨fun q3 => ?_, fun q3 => no (by clear no ye; omega)⟩⟩⟩
  have Y := ye (by clear no ye; omega)
  clear no ye hQ
  have hx : 0 ≤ a1 ∧ a1 < 6 := by omega
  have hy : 0 ≤ μ 58 3 ∧ μ 58 3 < 201 := by omega
  have key : ∀ (k : Int) (a5 : Int), Q (.inl a5) (qfl μ (74 + 11 * a1 + k) (μ 58 3) 200 a3) → qty (74 + 11 * a1 + k) = 100 → qal (74 + 11 * a1 + k) = 201 → qW (d + 2) 94 Q 76 [some (.inr (.inr (.inl (0)))), some (.inl (a1)), some (.inl (a2)), some (.inl (a3)), some (.inr (.inr (.inl (74 + 11 * a1 + k)))), some (.inl (a5)), some (.inl (μ 58 3))] [] μ := fun k a5 Y e1 e2 => by
    refine qup 201 (P := fun i => ∀ ν, μ 58 3 ≤ i → ν = qfl μ (74 + 11 * a1 + k) (μ 58 3) (i - 1) a3 → qW (d + 2) 94 Q 76 [some (.inr (.inr (.inl (0)))), some (.inl (a1)), some (.inl (a2)), some (.inl (a3)), some (.inr (.inr (.inl (74 + 11 * a1 + k)))), some (.inl (a5)), some (.inl (i))] [] ν) (fun i ih hB ν hi hm => ?_) _ (by omega) _ (by omega) (qfl_0 (by omega)).symm
    rw [g94_76, e1, e2, qif_r, q32_id (z := i + 1) (by omega) (by omega)]
    refine ⟨fun q => ?_, fun q => ⟨by omega, ih _ (by omega) (by omega) _ (by omega) ?_⟩⟩
    · rw [hm, show i - 1 = 200 by omega]
      exact Y
    · rw [hm, qfl_s hi, show i + 1 - 1 = i by omega]
  have hp := pf (isP57 hx.1 hx.2)
  have h3 : a2 = 0 ∨ a2 = 1 := by omega
  simp only [hp, qif_r]
  rw [qra57 hx.1 hx.2] at hp ⊢
  rcases h3 with rfl | rfl
  · exact ⟨fun q => absurd rfl q, fun _ => ⟨hx, hy, key 9 _ Y hp.2.2.1.2.2.2.2.2.2.2.2.1 hp.2.2.2.2.2.2.2.2.2.2.2.1⟩⟩
  · exact ⟨fun _ => ⟨hx, hy, key 10 _ Y hp.2.2.1.2.2.2.2.2.2.2.2.2 hp.2.2.2.2.2.2.2.2.2.2.2.2⟩, fun q => absurd q (by decide)⟩
theorem x162 {d : Nat} {Q : qV → qM → Prop} {μ : qM} {a1 a2 a3 : Int} (hS : Safe μ) (hQ : ∀ a μ', ((okPl a1 a2 a3 ∧ a = μ 208 (201 * (2 * a1 + a2) + μ 170 1) ∧ μ' = qfl μ 208 (201 * (2 * a1 + a2) + μ 170 1) (201 * (2 * a1 + a2) + 200) a3) ∨ (¬ okPl a1 a2 a3 ∧ a = -1 ∧ μ' = μ)) → Q (.inl a) μ') : qmw (d + 3) 162 [(.inr (.inr (.inl (170)))), (.inl (a1)), (.inl (a2)), (.inl (a3))] μ Q := by
  have ht := sa_mtoday hS
  have no : ¬ okPl a1 a2 a3 → Q (.inl (-1)) μ := fun q => hQ _ _ (Or.inr ⟨q, rfl, rfl⟩)
  have ye := fun q : okPl a1 a2 a3 => hQ _ _ (Or.inl ⟨q, rfl, rfl⟩)
  unfold okPl at no ye
  rw [e162, g162_0, E133, g162_4, qbr2]
  simp only [E117, g162_13, g162_23, qbr2, qbr]
  refine ⟨fun q => no (by clear no ye; omega), fun q => ⟨fun q2 => no (by clear no ye; omega), fun q2 => ⟨fun q3 => ?_, fun q3 => no (by clear no ye; omega)⟩⟩⟩
  have Y := ye (by clear no ye; omega)
  clear no ye hQ
  rw [e161, g161_0, g162_38, q32_id (z := 2 * a1) (by omega) (by omega), q32_id (z := 2 * a1 + a2) (by omega) (by omega), q32_id (z := 201 * (2 * a1 + a2)) (by omega) (by omega), q32_id (z := 201 * (2 * a1 + a2) + μ 170 1) (by omega) (by omega)]
  refine ⟨by omega, ?_⟩
  refine qup 201 (P := fun i => ∀ ν, μ 170 1 ≤ i → ν = qfl μ 208 (201 * (2 * a1 + a2) + μ 170 1) (201 * (2 * a1 + a2) + i - 1) a3 → qW (d + 2) 162 Q 46 [some (.inr (.inr (.inl (170)))), some (.inl (a1)), some (.inl (a2)), some (.inl (a3)), some (.inl (μ 208 (201 * (2 * a1 + a2) + μ 170 1))), some (.inl (i))] [] ν) (fun i ih hB ν hi hm => ?_) _ (by omega) _ (by omega) (qfl_0 (by omega)).symm
  rw [g162_46, q32_id (z := 2 * a1) (by omega) (by omega), q32_id (z := 2 * a1 + a2) (by omega) (by omega), q32_id (z := 201 * (2 * a1 + a2)) (by omega) (by omega), q32_id (z := 201 * (2 * a1 + a2) + i) (by omega) (by omega), q32_id (z := i + 1) (by omega) (by omega)]
  refine ⟨fun q => ?_, fun q => ⟨by omega, ih _ (by omega) (by omega) _ (by omega) ?_⟩⟩
  · rw [hm, show 201 * (2 * a1 + a2) + i - 1 = 201 * (2 * a1 + a2) + 200 by omega]
    exact Y
  · rw [hm, qfl_s (by omega), show 201 * (2 * a1 + a2) + (i + 1) - 1 = 201 * (2 * a1 + a2) + i by omega]
/-! the firm in whose span a fortnight is -/
abbrev hit (F T D : Int → Int) (f day i : Int) : Prop := D i ≤ day ∧ F i ≤ f ∧ f ≤ T i
def FW (n : Int) (F T D : Int → Int) (f day r : Int) : Prop := (r = -1 ∧ ∀ i, 0 ≤ i → i < n → ¬ hit F T D f day i) ∨ (0 ≤ r ∧ r < n ∧ hit F T D f day r ∧ ∀ i, 0 ≤ i → i < r → ¬ hit F T D f day i)
def fw (n : Int) (F T D : Int → Int) (f day : Int) : Int := if 0 < n ∧ hit F T D f day 0 then 0 else if 1 < n ∧ hit F T D f day 1 then 1 else if 2 < n ∧ hit F T D f day 2 then 2 else -1
theorem FW_eq {n : Int} {F T D : Int → Int} {f day r : Int} (hn : n ≤ 3) (h : FW n F T D f day r) : r = fw n F T D f day := by
  unfold fw
  rcases h with ⟨rfl, h⟩ | ⟨h0, h1, h2, h3⟩
  · rw [if_neg (fun q => h 0 (by decide) q.1 q.2), if_neg (fun q => h 1 (by decide) q.1 q.2), if_neg (fun q => h 2 (by decide) q.1 q.2)]
  · have e : r = 0 ∨ r = 1 ∨ r = 2 := by
      clear h3
      omega
    rcases e with rfl | rfl | rfl
    · rw [if_pos ⟨h1, h2⟩]
    · rw [if_neg (fun q => h3 0 (by decide) (by decide) q.2), if_pos ⟨h1, h2⟩]
    · rw [if_neg (fun q => h3 0 (by decide) (by decide) q.2), if_neg (fun q => h3 1 (by decide) (by decide) q.2), if_pos ⟨h1, h2⟩]
theorem fw_FW {n : Int} {F T D : Int → Int} {f day : Int} (hn : n ≤ 3) : FW n F T D f day (fw n F T D f day) := by
  unfold fw
  by_cases e0 : 0 < n ∧ hit F T D f day 0
  · rw [if_pos e0]
    exact Or.inr ⟨by decide, e0.1, e0.2, fun i q1 q2 => by omega⟩
  · rw [if_neg e0]
    have n0 : 0 < n → ¬ hit F T D f day 0 := fun q1 q2 => e0 ⟨q1, q2⟩
    by_cases e1 : 1 < n ∧ hit F T D f day 1
    · rw [if_pos e1]
      refine Or.inr ⟨by decide, e1.1, e1.2, fun i q1 q2 => ?_⟩
      have : i = 0 := by clear n0 e0; omega
      rw [this]
      exact n0 (by have := e1.1; clear n0 e0; omega)
    · rw [if_neg e1]
      have n1 : 1 < n → ¬ hit F T D f day 1 := fun q1 q2 => e1 ⟨q1, q2⟩
      by_cases e2 : 2 < n ∧ hit F T D f day 2
      · rw [if_pos e2]
        refine Or.inr ⟨by decide, e2.1, e2.2, fun i q1 q2 => ?_⟩
        have q3 := e2.1
        have : i = 0 ∨ i = 1 := by clear n0 e0 n1 e1; omega
        rcases this with rfl | rfl
        · exact n0 (by clear n0 e0 n1 e1; omega)
        · exact n1 (by clear n0 e0 n1 e1; omega)
      · rw [if_neg e2]
        refine Or.inl ⟨rfl, fun i q1 q2 => ?_⟩
        have : i = 0 ∨ i = 1 ∨ i = 2 := by clear n0 e0 n1 e1 e2; omega
        rcases this with rfl | rfl | rfl
        · exact n0 q2
        · exact n1 q2
        · exact fun q3 => e2 ⟨q2, q3⟩
theorem fw_r {n : Int} {F T D : Int → Int} {f day : Int} (hn : n ≤ 3) (h0 : 0 ≤ n) : -1 ≤ fw n F T D f day ∧ fw n F T D f day < n ∧ fw n F T D f day ≤ 2 := by
  rcases fw_FW (F := F) (T := T) (D := D) (f := f) (day := day) hn with h | h
  · rw [h.1]
    omega
  · have h1 := h.1
    have h2 := h.2.1
    omega
theorem fw_cg {n : Int} {F T D F' T' D' : Int → Int} {f day : Int} (hF : ∀ i, 0 ≤ i → i ≤ 2 → F i = F' i) (hT : ∀ i, 0 ≤ i → i ≤ 2 → T i = T' i) (hD : ∀ i, 0 ≤ i → i ≤ 2 → D i = D' i) : fw n F T D f day = fw n F' T' D' f day := by
  unfold fw hit
  rw [hF 0 (by decide) (by decide), hF 1 (by decide) (by decide), hF 2 (by decide) (by decide), hT 0 (by decide) (by decide), hT 1 (by decide) (by decide), hT 2 (by decide) (by decide), hD 0 (by decide) (by decide), hD 1 (by decide) (by decide), hD 2 (by decide) (by decide)]
/-- the class's -/
abbrev cfw (μ : qM) (c f day : Int) : Int := fw (μ c 10) (μ (c + 5)) (μ (c + 6)) (μ (c + 8)) f day
/-- the reference's -/
abbrev mfw (μ : qM) (p f day : Int) : Int := fw (μ 181 p) (fun i => μ 182 (3 * p + i)) (fun i => μ 183 (3 * p + i)) (fun i => μ 185 (3 * p + i)) f day
theorem x44 {d : Nat} {Q : qV → qM → Prop} {μ : qM} {c0 a1 a2 : Int} (hS : Safe μ) (hc : isP c0) (hQ : Q (.inl (cfw μ c0 a1 a2)) μ) : qmw (d + 1) 44 [(.inr (.inr (.inl (c0)))), (.inl (a1)), (.inl (a2))] μ Q := by
  have hp := pf hc
  have hf := sa_firms hS hc
  have K : ∀ r, FW (μ c0 10) (μ (c0 + 5)) (μ (c0 + 6)) (μ (c0 + 8)) a1 a2 r → Q (.inl r) μ := fun r h => by
    rw [FW_eq hf.2 h]
    exact hQ
  clear hQ
  rw [e44 hp.1, g44_0]
  refine qup (μ c0 10) (P := fun i => 0 ≤ i → (∀ j, 0 ≤ j → j < i → ¬ hit (μ (c0 + 5)) (μ (c0 + 6)) (μ (c0 + 8)) a1 a2 j) → qW d 44 Q 2 [some (.inr (.inr (.inl (c0)))), some (.inl (a1)), some (.inl (a2)), some (.inl (i))] [] μ) (fun i ih hB h0 hj => ?_) 0 (by omega) (by omega) (fun j q1 q2 => by omega)
  have st : i < μ c0 10 → ¬ hit (μ (c0 + 5)) (μ (c0 + 6)) (μ (c0 + 8)) a1 a2 i → qW d 44 Q 2 [some (.inr (.inr (.inl (c0)))), some (.inl (a1)), some (.inl (a2)), some (.inl (i + 1))] [] μ := fun q1 q2 => ih _ (by omega) (by omega) (by omega) (fun j q3 q4 => by
    by_cases e : j = i
    · rw [e]
      exact q2
    · exact hj j q3 (by omega))
  have hi : i < μ c0 10 → 0 ≤ i ∧ i < 3 := fun q => by
    clear st ih
    omega
  have e1 : q32 (i + 1) = i + 1 := q32_id (by omega) (by omega)
  clear ih
  rw [g44_2]
  simp only [hp, qif_r]
  rw [e1]
  refine ⟨fun q => K _ (Or.inl ⟨rfl, fun j q1 q2 => hj j q1 (by omega)⟩), fun q => ⟨hi q, fun q1 => st q (fun h => absurd h.1 (Int.not_le.mpr q1)), fun q1 => ⟨hi q, fun q2 => st q (fun h => absurd h.2.1 (Int.not_le.mpr q2)), fun q2 => ⟨hi q, fun q3 => st q (fun h => absurd h.2.2 (Int.not_le.mpr q3)), fun q3 => K _ (Or.inr ⟨h0, q, ⟨q1, q2, q3⟩, hj⟩)⟩⟩⟩⟩
theorem x136 {d : Nat} {Q : qV → qM → Prop} {μ : qM} {a1 a2 a3 : Int} (hS : Safe μ) (h0 : 0 ≤ a1) (h1 : a1 < 6) (hQ : Q (.inl (if mfw μ a1 a2 a3 = -1 then -9 else 3 * a1 + mfw μ a1 a2 a3)) μ) : qmw (d + 2) 136 [(.inr (.inr (.inl (170)))), (.inl (a1)), (.inl (a2)), (.inl (a3))] μ Q := by
  have hf := sa_mfirms hS a1
  have K : ∀ r, FW (μ 181 a1) (fun i => μ 182 (3 * a1 + i)) (fun i => μ 183 (3 * a1 + i)) (fun i => μ 185 (3 * a1 + i)) a2 a3 r → Q (.inl (if r = -1 then -9 else 3 * a1 + r)) μ := fun r h => by
    rw [FW_eq hf.2 h]
    exact hQ
  clear hQ
  rw [e136, g136_0, q32_id (by omega) (by omega)]
  have key0 : qW (d + 1) 136 Q 5 [some (.inr (.inr (.inl (170)))), some (.inl (a1)), some (.inl (a2)), some (.inl (a3)), some (.inl (3 * a1 + 0))] [] μ → qW (d + 1) 136 Q 5 [some (.inr (.inr (.inl (170)))), some (.inl (a1)), some (.inl (a2)), some (.inl (a3)), some (.inl (3 * a1))] [] μ := fun q => by
    rw [Int.add_zero] at q
    exact q
  refine key0 ?_
  clear key0
  refine qup (μ 181 a1) (P := fun i => 0 ≤ i → (∀ j, 0 ≤ j → j < i → ¬ hit (fun i => μ 182 (3 * a1 + i)) (fun i => μ 183 (3 * a1 + i)) (fun i => μ 185 (3 * a1 + i)) a2 a3 j) → qW (d + 1) 136 Q 5 [some (.inr (.inr (.inl (170)))), some (.inl (a1)), some (.inl (a2)), some (.inl (a3)), some (.inl (3 * a1 + i))] [] μ) (fun i ih hB hi hj => ?_) 0 (by omega) (by omega) (fun j q1 q2 => by omega)
  have st : i < μ 181 a1 → ¬ hit (fun i => μ 182 (3 * a1 + i)) (fun i => μ 183 (3 * a1 + i)) (fun i => μ 185 (3 * a1 + i)) a2 a3 i → qW (d + 1) 136 Q 5 [some (.inr (.inr (.inl (170)))), some (.inl (a1)), some (.inl (a2)), some (.inl (a3)), some (.inl (3 * a1 + i + 1))] [] μ := fun q1 q2 => by
    rw [Int.add_assoc]
    exact ih _ (by omega) (by omega) (by omega) (fun j q3 q4 => by
      by_cases e : j = i
      · rw [e]
        exact q2
      · exact hj j q3 (by omega))
  have hb : i < μ 181 a1 → 0 ≤ 3 * a1 + i ∧ 3 * a1 + i < 18 := fun q => by
    clear st ih
    omega
  have e1 : q32 (3 * a1 + i + 1) = 3 * a1 + i + 1 := q32_id (by omega) (by omega)
  clear ih
  rw [g136_5, q32_id (z := 3 * a1) (by omega) (by omega), q32_id (z := 3 * a1 + μ 181 a1) (by omega) (by omega), E117, g136_49, e1]
  refine ⟨⟨h0, h1⟩, fun q => ?_, fun q => ?_⟩
  · have k := K (-1) (Or.inl ⟨rfl, fun j q1 q2 => hj j q1 (by omega)⟩)
    rw [if_pos rfl] at k
    exact k
  · have q : i < μ 181 a1 := by
      clear st hb
      omega
    refine ⟨hb q, fun q1 => st q (fun h => absurd h.1 (Int.not_le.mpr q1)), fun q1 => ⟨hb q, hb q, fun q2 => st q (fun h => ?_), fun q2 => ?_⟩⟩
    · rw [if_pos h.2] at q2
      exact absurd q2 (by decide)
    · by_cases e : μ 182 (3 * a1 + i) ≤ a2 ∧ a2 ≤ μ 183 (3 * a1 + i)
      · have k := K i (Or.inr ⟨hi, q, ⟨q1, e⟩, hj⟩)
        rw [if_neg (by clear st hb K; omega)] at k
        exact k
      · rw [if_neg e] at q2
        exact absurd rfl q2
/-! firm -/
def okFm (a1 a2 a3 a4 : Int) : Prop := 0 ≤ a1 ∧ a1 ≤ 5 ∧ 0 ≤ a2 ∧ a2 ≤ a3 ∧ a3 ≤ 9 ∧ 0 ≤ a4 ∧ a4 ≤ 20 * (a3 - a2 + 1)
theorem x43 {d : Nat} {Q : qV → qM → Prop} {μ : qM} {p a1 a2 a3 a4 : Int} (hS : Safe μ) (h0 : 0 ≤ p) (h1 : p < 6) (hQ : ∀ a μ', ((μ (74 + 11 * p) 10 < 3 ∧ a = μ (74 + 11 * p) 10 + 1 ∧ μ' = qu (qu (qu (qu (qu μ (74 + 11 * p + 5) (μ (74 + 11 * p) 10) a1) (74 + 11 * p + 6) (μ (74 + 11 * p) 10) a2) (74 + 11 * p + 7) (μ (74 + 11 * p) 10) a3) (74 + 11 * p + 8) (μ (74 + 11 * p) 10) a4) (74 + 11 * p) 10 (μ (74 + 11 * p) 10 + 1)) ∨ (3 ≤ μ (74 + 11 * p) 10 ∧ a = -3 ∧ μ' = μ)) → Q (.inl a) μ') : qmw (d + 1) 43 [(.inr (.inr (.inl (74 + 11 * p)))), (.inl (a1)), (.inl (a2)), (.inl (a3)), (.inl (a4))] μ Q := by
  have hc : isP (74 + 11 * p) := ⟨p, h0, h1, rfl⟩
  have hf := sa_firms hS hc
  have fr : ∀ {ν : qM} {k i v : Int}, 1 ≤ k → (qu ν (74 + 11 * p + k) i v) (74 + 11 * p) 10 = ν (74 + 11 * p) 10 := fun q => qu_cell (by omega) _
  have hp := pf hc
  rw [e43 hp.1, g43_0]
  simp only [hp, qif_r]
  simp only [fr (k := 5) (by decide), fr (k := 6) (by decide), fr (k := 7) (by decide), fr (k := 8) (by decide)]
  clear hp
  rw [qu_same, q32_id (z := μ (74 + 11 * p) 10 + 1) (by omega) (by omega)]
  refine ⟨fun q => ?_, fun q => hQ _ _ (Or.inr ⟨q, rfl, rfl⟩)⟩
  have hx : 0 ≤ μ (74 + 11 * p) 10 ∧ μ (74 + 11 * p) 10 < 3 := ⟨hf.1, q⟩
  exact ⟨hx, hx, hx, hx, hQ _ _ (Or.inl ⟨q, rfl, rfl⟩)⟩
theorem x81 {d : Nat} {Q : qV → qM → Prop} {μ : qM} {a1 a2 a3 a4 : Int} (hS : Safe μ) (hQ : ∀ a μ', ((¬ okFm a1 a2 a3 a4 ∧ a = -1 ∧ μ' = μ) ∨ (okFm a1 a2 a3 a4 ∧ (∃ f, a2 ≤ f ∧ f ≤ a3 ∧ ¬ cfw μ (74 + 11 * a1) f 200 = -1) ∧ a = -2 ∧ μ' = μ) ∨ (okFm a1 a2 a3 a4 ∧ (∀ f, a2 ≤ f → f ≤ a3 → cfw μ (74 + 11 * a1) f 200 = -1) ∧ ((μ (74 + 11 * a1) 10 < 3 ∧ a = μ (74 + 11 * a1) 10 + 1 ∧ μ' = qu (qu (qu (qu (qu μ (74 + 11 * a1 + 5) (μ (74 + 11 * a1) 10) a2) (74 + 11 * a1 + 6) (μ (74 + 11 * a1) 10) a3) (74 + 11 * a1 + 7) (μ (74 + 11 * a1) 10) a4) (74 + 11 * a1 + 8) (μ (74 + 11 * a1) 10) (μ 58 3)) (74 + 11 * a1) 10 (μ (74 + 11 * a1) 10 + 1)) ∨ (3 ≤ μ (74 + 11 * a1) 10 ∧ a = -3 ∧ μ' = μ)))) → Q (.inl a) μ') : qmw (d + 3) 81 [(.inr (.inr (.inl (0)))), (.inl (a1)), (.inl (a2)), (.inl (a3)), (.inl (a4))] μ Q := by
  have no : ¬ okFm a1 a2 a3 a4 → Q (.inl (-1)) μ := fun q => hQ _ _ (Or.inl ⟨q, rfl, rfl⟩)
  unfold okFm at no
  rw [e81, g81_0, E105, g81_4, qbr]
  simp only [E106, E104, g81_11, g81_18, g81_42, qbr2, qbr]
  refine ⟨fun q => no (by clear no; omega), fun q => ⟨fun q2 => no (by clear no; omega), fun q2 => ⟨fun q3 => no (by clear no; omega), fun q3 => ⟨fun q4 => ?_, fun q4 => no (by clear no; omega)⟩⟩⟩⟩
  rw [q32_id (z := a3 - a2) (by clear no; omega) (by clear no; omega), q32_id (z := a3 - a2 + 1) (by clear no; omega) (by clear no; omega), q32_id (z := 20 * (a3 - a2 + 1)) (by clear no; omega) (by clear no; omega)]
  refine ⟨fun q5 => ⟨by clear no; omega, ?_⟩, fun q5 => no (by clear no; omega)⟩
  have ok : okFm a1 a2 a3 a4 := by
    unfold okFm
    clear no
    omega
  clear no
  have hc : isP (74 + 11 * a1) := ⟨a1, by omega, by omega, rfl⟩
  have hf := sa_firms hS hc
  rw [qra57 (by omega) (by omega)]
  refine qup 10 (P := fun i => a2 ≤ i → (∀ f, a2 ≤ f → f < i → cfw μ (74 + 11 * a1) f 200 = -1) → qW (d + 2) 81 Q 58 [some (.inr (.inr (.inl (0)))), some (.inl (a1)), some (.inl (a2)), some (.inl (a3)), some (.inl (a4)), some (.inr (.inr (.inl (74 + 11 * a1)))), some (.inl (i))] [] μ) (fun i ih hB hi hj => ?_) a2 (by omega) (by omega) (fun f q1 q2 => by omega)
  rw [g81_58]
  refine ⟨fun q6 => x43 hS (by omega) (by omega) (fun a μ1 h1 => ?_), fun q6 => x44 hS hc ?_⟩
  · rw [g81_102]
    exact hQ _ _ (Or.inr (Or.inr ⟨ok, fun f q7 q8 => hj f q7 (by omega), h1⟩))
  · have r : -1 ≤ cfw μ (74 + 11 * a1) i 200 ∧ cfw μ (74 + 11 * a1) i 200 < μ (74 + 11 * a1) 10 ∧ cfw μ (74 + 11 * a1) i 200 ≤ 2 := fw_r hf.2 hf.1
    rw [g81_74, q32_id (z := i + 1) (by omega) (by omega)]
    refine ⟨fun q7 => ih _ (by omega) (by omega) (by omega) (fun f q8 q9 => ?_), fun q7 => hQ _ _ (Or.inr (Or.inl ⟨ok, ⟨i, hi, q6, by omega⟩, rfl, rfl⟩))⟩
    by_cases e : f = i
    · rw [e]
      omega
    · exact hj f q8 (by omega)
theorem x137 {d : Nat} {Q : qV → qM → Prop} {μ : qM} {a1 a2 a3 a4 : Int} (hS : Safe μ) (hQ : ∀ a μ', ((¬ okFm a1 a2 a3 a4 ∧ a = -1 ∧ μ' = μ) ∨ (okFm a1 a2 a3 a4 ∧ (∃ f, a2 ≤ f ∧ f ≤ a3 ∧ ¬ mfw μ a1 f 200 = -1) ∧ a = -2 ∧ μ' = μ) ∨ (okFm a1 a2 a3 a4 ∧ (∀ f, a2 ≤ f → f ≤ a3 → mfw μ a1 f 200 = -1) ∧ ((μ 181 a1 < 3 ∧ a = μ 181 a1 + 1 ∧ μ' = qu (qu (qu (qu (qu μ 182 (3 * a1 + μ 181 a1) a2) 183 (3 * a1 + μ 181 a1) a3) 184 (3 * a1 + μ 181 a1) a4) 185 (3 * a1 + μ 181 a1) (μ 170 1)) 181 a1 (μ 181 a1 + 1)) ∨ (3 ≤ μ 181 a1 ∧ a = -3 ∧ μ' = μ)))) → Q (.inl a) μ') : qmw (d + 3) 137 [(.inr (.inr (.inl (170)))), (.inl (a1)), (.inl (a2)), (.inl (a3)), (.inl (a4))] μ Q := by
  have no : ¬ okFm a1 a2 a3 a4 → Q (.inl (-1)) μ := fun q => hQ _ _ (Or.inl ⟨q, rfl, rfl⟩)
  unfold okFm at no
  rw [e137, g137_0, E133, g137_4, qbr2]
  simp only [E134, E117, g137_11, g137_21, g137_38, qbr2, qbr]
  refine ⟨fun q => no (by clear no; omega), fun q => ⟨fun q2 => no (by clear no; omega), fun q2 => ⟨fun q3 => no (by clear no; omega), fun q3 => ?_⟩⟩⟩
  rw [q32_id (z := a3 - a2) (by clear no; omega) (by clear no; omega), q32_id (z := a3 - a2 + 1) (by clear no; omega) (by clear no; omega), q32_id (z := 20 * (a3 - a2 + 1)) (by clear no; omega) (by clear no; omega)]
  refine ⟨fun q4 => ?_, fun q4 => no (by clear no; omega)⟩
  have ok : okFm a1 a2 a3 a4 := by
    unfold okFm
    clear no
    omega
  clear no
  have hf := sa_mfirms hS a1
  refine qup 10 (P := fun i => a2 ≤ i → (∀ f, a2 ≤ f → f < i → mfw μ a1 f 200 = -1) → qW (d + 2) 137 Q 46 [some (.inr (.inr (.inl (170)))), some (.inl (a1)), some (.inl (a2)), some (.inl (a3)), some (.inl (a4)), some (.inl (i))] [] μ) (fun i ih hB hi hj => ?_) a2 (by omega) (by omega) (fun f q1 q2 => by omega)
  rw [g137_46]
  refine ⟨fun q5 => ?_, fun q5 => x136 hS (by omega) (by omega) ?_⟩
  · rw [q32_id (z := 3 * a1) (by omega) (by omega), q32_id (z := 3 * a1 + μ 181 a1) (by omega) (by omega), q32_id (z := μ 181 a1 + 1) (by omega) (by omega), qu_same]
    have hfr : ∀ f, a2 ≤ f → f ≤ a3 → mfw μ a1 f 200 = -1 := fun f q7 q8 => hj f q7 (by omega)
    refine ⟨by omega, fun q6 => ?_, fun q6 => hQ _ _ (Or.inr (Or.inr ⟨ok, hfr, Or.inr ⟨by omega, rfl, rfl⟩⟩))⟩
    have hy : 0 ≤ 3 * a1 + μ 181 a1 ∧ 3 * a1 + μ 181 a1 < 18 := by omega
    have hx : 0 ≤ a1 ∧ a1 < 6 := by omega
    exact ⟨hx, hy, hy, hy, hy, hx, hx, hx, hQ _ _ (Or.inr (Or.inr ⟨ok, hfr, Or.inl ⟨by omega, rfl, rfl⟩⟩))⟩
  · have r : -1 ≤ mfw μ a1 i 200 ∧ mfw μ a1 i 200 < μ 181 a1 ∧ mfw μ a1 i 200 ≤ 2 := fw_r hf.2 hf.1
    rw [g137_62, q32_id (z := i + 1) (by omega) (by omega)]
    refine ⟨fun q7 => ih _ (by omega) (by omega) (by omega) (fun f q8 q9 => ?_), fun q7 => hQ _ _ (Or.inr (Or.inl ⟨ok, ⟨i, hi, q5, fun e => q7 (by rw [if_pos e])⟩, rfl, rfl⟩))⟩
    by_cases e : f = i
    · rw [e]
      by_cases e2 : mfw μ a1 i 200 = -1
      · exact e2
      · rw [if_neg e2] at q7
        omega
    · exact hj f q8 (by omega)
