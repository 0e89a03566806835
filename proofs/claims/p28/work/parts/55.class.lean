/-! WHAT THE RELATION OF THE TWO SIDES SPEAKS OF -/
def relv (c i : Int) : Prop := c = 0 ∨ (c = 58 ∧ i = 3) ∨ ((c = 140 ∨ c = 155) ∧ (i = 3 ∨ i = 4)) ∨ c = 71 ∨ c = 72 ∨ c = 153 ∨ c = 154 ∨ c = 168 ∨ c = 169 ∨ (74 ≤ c ∧ c < 140) ∨ (c = 170 ∧ (i = 0 ∨ i = 1)) ∨ c = 195 ∨ c = 209 ∨ c = 177 ∨ c = 178 ∨ c = 208 ∨ (181 ≤ c ∧ c ≤ 185) ∨ c = 193 ∨ c = 207 ∨ (c = 1 ∧ i = 2) ∨ c = 2 ∨ (9 ≤ c ∧ c ≤ 14) ∨ (c = 170 ∧ (i = 3 ∨ i = 4)) ∨ (171 ≤ c ∧ c ≤ 176) ∨ c = 179 ∨ c = 180
def relv0 (c i : Int) : Prop := c = 0 ∨ (c = 58 ∧ i = 3) ∨ ((c = 140 ∨ c = 155) ∧ (i = 3 ∨ i = 4)) ∨ c = 71 ∨ c = 72 ∨ c = 153 ∨ c = 154 ∨ c = 168 ∨ c = 169 ∨ (74 ≤ c ∧ c < 140 ∧ ¬ (c - 74) % 11 = 3 ∧ ¬ (c - 74) % 11 = 4) ∨ (c = 170 ∧ (i = 0 ∨ i = 1)) ∨ c = 195 ∨ c = 209 ∨ c = 177 ∨ c = 178 ∨ c = 208 ∨ (181 ≤ c ∧ c ≤ 185) ∨ c = 193 ∨ c = 207
def relv1 (c i : Int) : Prop := c = 0 ∨ (c = 58 ∧ i = 3) ∨ ((c = 140 ∨ c = 155) ∧ (i = 3 ∨ i = 4)) ∨ c = 71 ∨ c = 72 ∨ c = 153 ∨ c = 154 ∨ c = 168 ∨ c = 169 ∨ (74 ≤ c ∧ c < 140 ∧ ¬ (c - 74) % 11 = 3 ∧ ¬ (c - 74) % 11 = 4) ∨ (c = 170 ∧ (i = 0 ∨ i = 1)) ∨ c = 195 ∨ c = 209 ∨ c = 177 ∨ c = 178 ∨ c = 208 ∨ (181 ≤ c ∧ c ≤ 185) ∨ c = 193 ∨ c = 207 ∨ (c = 1 ∧ i = 2) ∨ c = 2 ∨ (9 ≤ c ∧ c ≤ 14) ∨ (c = 170 ∧ (i = 3 ∨ i = 4)) ∨ (171 ≤ c ∧ c ≤ 176)
def Sr (μ0 μ : qM) : Prop := Safe μ ∧ ∀ c i, relv c i → μ c i = μ0 c i
theorem Sr_rf {μ : qM} (h : Safe μ) : Sr μ μ := ⟨h, fun _ _ _ => rfl⟩
theorem Sr_v {μ0 μ μ' : qM} (h : Sr μ0 μ) (h2 : Sv μ μ') : Sr μ0 μ' := ⟨h2.1, fun c i hc => by
  rw [h2.2 c i (by unfold relv at hc; omega)]
  exact h.2 c i hc⟩
theorem Sr_u {μ0 μ : qM} {c i v : Int} (h : Sr μ0 μ) (hn : ¬ relv c i) (hv : sf c i v) (h1 : ¬ c = 182) (h2 : ¬ c = 183) (h3 : ¬ (c = 170 ∧ i = 4)) (h4 : ¬ c = 176) : Sr μ0 (qu μ c i v) := ⟨Safe_u h.1 hv h1 h2 h3 h4, fun c' i' hc => by
  rw [qu_ne (fun q => hn (by rw [← q.1, ← q.2]; exact hc))]
  exact h.2 c' i' hc⟩
def Sr0 (μ0 μ : qM) : Prop := Safe μ ∧ ∀ c i, relv0 c i → μ c i = μ0 c i
def Sr1 (μ0 μ : qM) : Prop := Safe μ ∧ ∀ c i, relv1 c i → μ c i = μ0 c i
theorem Sr0_rf {μ : qM} (h : Safe μ) : Sr0 μ μ := ⟨h, fun _ _ _ => rfl⟩
theorem Sr0_u {μ0 μ : qM} {c i v : Int} (h : Sr0 μ0 μ) (hn : ¬ relv0 c i) (hv : sf c i v) (h1 : ¬ c = 182) (h2 : ¬ c = 183) (h3 : ¬ (c = 170 ∧ i = 4)) (h4 : ¬ c = 176) : Sr0 μ0 (qu μ c i v) := ⟨Safe_u h.1 hv h1 h2 h3 h4, fun c' i' hc => by
  rw [qu_ne (fun q => hn (by rw [← q.1, ← q.2]; exact hc))]
  exact h.2 c' i' hc⟩
theorem Sr1_rf {μ : qM} (h : Safe μ) : Sr1 μ μ := ⟨h, fun _ _ _ => rfl⟩
theorem Sr1_v {μ0 μ μ' : qM} (h : Sr1 μ0 μ) (h2 : Sv μ μ') : Sr1 μ0 μ' := ⟨h2.1, fun c i hc => by
  rw [h2.2 c i (by unfold relv1 at hc; omega)]
  exact h.2 c i hc⟩
theorem Sr1_u {μ0 μ : qM} {c i v : Int} (h : Sr1 μ0 μ) (hn : ¬ relv1 c i) (hv : sf c i v) (h1 : ¬ c = 182) (h2 : ¬ c = 183) (h3 : ¬ (c = 170 ∧ i = 4)) (h4 : ¬ c = 176) : Sr1 μ0 (qu μ c i v) := ⟨Safe_u h.1 hv h1 h2 h3 h4, fun c' i' hc => by
  rw [qu_ne (fun q => hn (by rw [← q.1, ← q.2]; exact hc))]
  exact h.2 c' i' hc⟩
/-- a copy of a row -/
theorem Safe_cp {μ : qM} {a b : Int} (h : Safe μ) (hs : ∀ i v, sf a i v → sf b i v) (h1 : ¬ b = 182) (h2 : ¬ b = 183) (h3 : ¬ b = 170) (h4 : ¬ b = 176) : Safe (qcp μ a b) := by
  refine ⟨fun c i => ?_, fun k => ?_, fun k h5 h6 => ?_⟩
  · unfold qcp
    split
    · rename_i e
      rw [e]
      exact hs i _ (h.1 a i)
    · exact h.1 c i
  · unfold qcp
    rw [if_neg (by omega), if_neg (by omega)]
    exact h.2.1 k
  · unfold qcp at h6 ⊢
    rw [if_neg (by omega)] at h6
    rw [if_neg (by omega)]
    exact h.2.2 k h5 h6
theorem Sr_cp {μ0 μ : qM} {a b : Int} (h : Sr μ0 μ) (hn : ∀ i, ¬ relv b i) (hs : ∀ i v, sf a i v → sf b i v) (h1 : ¬ b = 182) (h2 : ¬ b = 183) (h3 : ¬ b = 170) (h4 : ¬ b = 176) : Sr μ0 (qcp μ a b) := ⟨Safe_cp h.1 hs h1 h2 h3 h4, fun c i hc => by
  unfold qcp
  rw [if_neg (fun q => hn i (by rw [← q]; exact hc))]
  exact h.2 c i hc⟩
theorem E115 {d : Nat} {Q : qV → qM → Prop} {μ : qM} {a b : Int} (h1 : qty a = 100) (h2 : qty b = 100) (h3 : qal b = qal a) : qmw (d + 1) 115 [(.inr (.inr (.inl (a)))), (.inr (.inr (.inl (b))))] μ Q = Q (.inl 0) (qcp μ a b) := by
  rw [e115, g115_0]
  have e1 : qmin (qal a) (qal a) = qal a := by unfold qmin; simp
  simp only [h1, h2, h3, e1, and_self, true_and]
  rfl
theorem sf_no {c i v : Int} (h : (10 ≤ c ∧ c ≤ 14) ∨ (61 ≤ c ∧ c ≤ 66) ∨ c = 70 ∨ c = 2 ∨ (4 ≤ c ∧ c ≤ 8)) : sf c i v := by
  unfold sf
  refine ⟨?_, ?_, ?_, ?_, ?_, ?_, ?_, ?_, ?_, ?_, ?_, ?_, ?_, ?_, ?_, ?_, ?_, ?_, ?_, ?_, ?_, ?_, ?_, ?_, ?_, ?_, ?_, ?_, ?_, ?_, ?_⟩ <;> intros <;> omega
theorem sf_by {c i v : Int} (h9 : (c = 3 ∨ c = 9) → i = 5 → 0 ≤ v ∧ v ≤ 6) (h59 : c = 59 → i = 7 → 0 ≤ v ∧ v ≤ 20) (h60 : c = 60 → 0 ≤ v ∧ v ≤ 5) (h67 : c = 67 → i = 3 → 0 ≤ v ∧ v ≤ 30) (h68 : c = 68 → 0 ≤ v ∧ v ≤ 19) (h69 : c = 69 → 0 ≤ v ∧ v ≤ 200) (h1 : c = 1 → i = 2 → 0 ≤ v ∧ v ≤ 300) (h : (1 ≤ c ∧ c ≤ 14) ∨ (59 ≤ c ∧ c ≤ 70) ∨ (c = 16 ∧ i = 4)) : sf c i v := by
  unfold sf
  refine ⟨fun q => h1 q.1 q.2, fun q => h9 q.1 q.2, ?_, ?_, ?_, ?_, fun q => h59 ?_ q.2, fun q => h60 ?_, fun q => h67 ?_ q.2, fun q => h68 ?_, fun q => h69 ?_, ?_, ?_, ?_, ?_, ?_, ?_, ?_, ?_, ?_, ?_, ?_, ?_, ?_, ?_, ?_, ?_, ?_, ?_, ?_, ?_⟩
  all_goals
    clear h9 h59 h60 h67 h68 h69 h1
    intros
    omega
theorem nrel_w {c i : Int} (hc : (3 ≤ c ∧ c ≤ 8) ∨ (59 ≤ c ∧ c ≤ 70) ∨ (c = 16 ∧ i = 4)) : ¬ relv c i ∧ ¬ c = 182 ∧ ¬ c = 183 ∧ ¬ (c = 170 ∧ i = 4) ∧ ¬ c = 176 := by
  refine ⟨?_, by omega, by omega, by omega, by omega⟩
  unfold relv
  omega
/-- a write into a cell of the text, the rules, the debts or the letters -/
theorem Sr_w {μ0 μ : qM} {c i v : Int} (h : Sr μ0 μ) (hc : (3 ≤ c ∧ c ≤ 8) ∨ (59 ≤ c ∧ c ≤ 70) ∨ (c = 16 ∧ i = 4)) (h9 : (c = 3 ∨ c = 9) → i = 5 → 0 ≤ v ∧ v ≤ 6) (h59 : c = 59 → i = 7 → 0 ≤ v ∧ v ≤ 20) (h60 : c = 60 → 0 ≤ v ∧ v ≤ 5) (h67 : c = 67 → i = 3 → 0 ≤ v ∧ v ≤ 30) (h68 : c = 68 → 0 ≤ v ∧ v ≤ 19) (h69 : c = 69 → 0 ≤ v ∧ v ≤ 200) (h1 : c = 1 → i = 2 → 0 ≤ v ∧ v ≤ 300) : Sr μ0 (qu μ c i v) := Sr_u h (nrel_w hc).1 (sf_by h9 h59 h60 h67 h68 h69 h1 (by clear h9 h59 h60 h67 h68 h69 h1; omega)) (nrel_w hc).2.1 (nrel_w hc).2.2.1 (nrel_w hc).2.2.2.1 (nrel_w hc).2.2.2.2
def Sd (μ0 μ : qM) : Prop := Safe μ ∧ ∀ c i, ¬ (59 ≤ c ∧ c ≤ 70) → μ c i = μ0 c i
theorem Sd_rf {μ : qM} (h : Safe μ) : Sd μ μ := ⟨h, fun _ _ _ => rfl⟩
theorem Sr_d {μ0 μ μ' : qM} (h : Sr μ0 μ) (h2 : Sd μ μ') : Sr μ0 μ' := ⟨h2.1, fun c i hc => by
  rw [h2.2 c i (by unfold relv at hc; omega)]
  exact h.2 c i hc⟩
theorem Sd_w {μ0 μ : qM} {c i v : Int} (h : Sd μ0 μ) (hc : 59 ≤ c ∧ c ≤ 70) (h9 : (c = 3 ∨ c = 9) → i = 5 → 0 ≤ v ∧ v ≤ 6) (h59 : c = 59 → i = 7 → 0 ≤ v ∧ v ≤ 20) (h60 : c = 60 → 0 ≤ v ∧ v ≤ 5) (h67 : c = 67 → i = 3 → 0 ≤ v ∧ v ≤ 30) (h68 : c = 68 → 0 ≤ v ∧ v ≤ 19) (h69 : c = 69 → 0 ≤ v ∧ v ≤ 200) (h1 : c = 1 → i = 2 → 0 ≤ v ∧ v ≤ 300) : Sd μ0 (qu μ c i v) := by
  have hr := nrel_w (c := c) (i := i) (by clear h9 h59 h60 h67 h68 h69 h1; omega)
  refine ⟨Safe_u h.1 (sf_by h9 h59 h60 h67 h68 h69 h1 (by clear h9 h59 h60 h67 h68 h69 h1; omega)) hr.2.1 hr.2.2.1 hr.2.2.2.1 hr.2.2.2.2, fun c' i' q => ?_⟩
  clear h9 h59 h60 h67 h68 h69 h1
  rw [qu_ne (by omega)]
  exact h.2 c' i' q
theorem s79 {μ0 : qM} {d : Nat} {Q : qV → qM → Prop} {μ : qM} {a1 a2 : Int} (h : Sr μ0 μ) (hQ : ∀ a μ', Sr μ0 μ' → Q (.inl a) μ') : qmw (d + 2) 79 [(.inr (.inr (.inl (0)))), (.inl (a1)), (.inl (a2))] μ Q := by
  rw [e79, g79_0, E104, g79_7, qbr]
  simp only [E104, g79_18, qbr2]
  refine ⟨fun _ => hQ _ _ h, fun _ => ⟨fun _ => s48 h.1 (fun a _ _ => ?_), fun _ => hQ _ _ h⟩⟩
  rw [g79_35]
  refine s49 h.1 (fun b => ?_)
  rw [g79_39]
  exact hQ _ _ h
theorem s83 {μ0 : qM} {d : Nat} {Q : qV → qM → Prop} {μ : qM} {a1 a2 : Int} (h : Sr μ0 μ) (hQ : ∀ a μ', Sr μ0 μ' → Q (.inl a) μ') : qmw (d + 6) 83 [(.inr (.inr (.inl (0)))), (.inl (a1)), (.inl (a2))] μ Q := by
  rw [e83, g83_0, E105, g83_4, qbr]
  simp only [E104, g83_15, qbr2]
  refine ⟨fun _ => hQ _ _ h, fun _ => ⟨fun _ => s108 (Sv_rf h.1) (by omega) (by omega) (fun μ1 hm => ?_), fun _ => hQ _ _ h⟩⟩
  rw [g83_26]
  refine s9 hm (fun a μ2 hm2 => ?_)
  rw [g83_33]
  exact hQ _ _ (Sr_v h hm2)
theorem s84 {μ0 : qM} {d : Nat} {Q : qV → qM → Prop} {μ : qM} {a1 a2 a3 : Int} (h : Sr μ0 μ) (hQ : ∀ a μ', Sr μ0 μ' → Q (.inl a) μ') : qmw (d + 7) 84 [(.inr (.inr (.inl (0)))), (.inl (a1)), (.inl (a2)), (.inl (a3))] μ Q := by
  rw [e84, g84_0, E105, g84_4, qbr]
  simp only [E104, g84_15, g84_24, qbr2, qbr]
  refine ⟨fun _ => hQ _ _ h, fun _ => ⟨fun _ => hQ _ _ h, fun _ => ⟨fun _ => s109 (Sv_rf h.1) (by omega) (by omega) (fun μ1 hm => ?_), fun _ => hQ _ _ h⟩⟩⟩
  rw [g84_35]
  refine ⟨by omega, s13 hm.1 (isP57 (by omega) (by omega)) (fun a => ?_)⟩
  rw [g84_49]
  exact hQ _ _ (Sr_v h hm)
theorem s85 {μ0 : qM} {d : Nat} {Q : qV → qM → Prop} {μ : qM} {a1 a2 : Int} (h : Sr μ0 μ) (hQ : ∀ a μ', Sr μ0 μ' → Q (.inl a) μ') : qmw (d + 7) 85 [(.inr (.inr (.inl (0)))), (.inl (a1)), (.inl (a2))] μ Q := by
  rw [e85, g85_0, E105, g85_4, qbr]
  simp only [E104, g85_15, qbr2]
  refine ⟨fun _ => hQ _ _ h, fun _ => ⟨fun _ => s109 (Sv_rf h.1) (by omega) (by omega) (fun μ1 hm => ?_), fun _ => hQ _ _ h⟩⟩
  rw [g85_26]
  refine s12 hm.1 (fun a => ?_)
  rw [g85_33]
  exact ⟨fun _ => hQ _ _ (Sr_v h hm), fun _ => hQ _ _ (Sr_v h hm)⟩
theorem s86 {μ0 : qM} {d : Nat} {Q : qV → qM → Prop} {μ : qM} {a1 a2 a3 a4 : Int} (h : Sr μ0 μ) (hQ : ∀ a μ', Sr μ0 μ' → Q (.inl a) μ') : qmw (d + 6) 86 [(.inr (.inr (.inl (0)))), (.inl (a1)), (.inl (a2)), (.inl (a3)), (.inl (a4))] μ Q := by
  rw [e86, g86_0, E105, g86_4, qbr]
  simp only [E104, E106, g86_15, g86_22, g86_32, qbr2, qbr]
  refine ⟨fun _ => hQ _ _ h, fun _ => ⟨fun _ => hQ _ _ h, fun _ => ⟨fun _ => hQ _ _ h, fun _ => ⟨fun _ => s108 (Sv_rf h.1) (by omega) (by omega) (fun μ1 hm => ?_), fun _ => hQ _ _ h⟩⟩⟩⟩
  have h1 := Sr_v h hm
  rw [g86_43, E2 (by omega) (by omega), g86_51, qbr]
  refine ⟨fun _ => ⟨by omega, fun _ => s7 hm.1 (isP57 (by omega) (by omega)) (by omega) (by omega) (fun a _ => ?_), fun _ => s6 hm.1 (isP57 (by omega) (by omega)) (by omega) (by omega) (fun a _ => ?_)⟩, fun _ => hQ _ _ h1⟩
  · rw [g86_93]
    exact hQ _ _ h1
  · rw [g86_80, g86_93]
    exact hQ _ _ h1
theorem s87 {μ0 : qM} {d : Nat} {Q : qV → qM → Prop} {μ : qM} {a1 a2 a3 : Int} (h : Sr μ0 μ) (hQ : ∀ a μ', Sr μ0 μ' → Q (.inl a) μ') : qmw (d + 7) 87 [(.inr (.inr (.inl (0)))), (.inl (a1)), (.inl (a2)), (.inl (a3))] μ Q := by
  rw [e87, g87_0, E105, g87_4, qbr]
  simp only [E104, g87_15, g87_24, qbr2, qbr]
  refine ⟨fun _ => hQ _ _ h, fun _ => ⟨fun _ => hQ _ _ h, fun _ => ⟨fun _ => s109 (Sv_rf h.1) (by omega) (by omega) (fun μ1 hm => ?_), fun _ => hQ _ _ h⟩⟩⟩
  have hP := isP57 (p := a1) (by omega) (by omega)
  have hp := pf hP
  rw [g87_35]
  simp only [hp, qif_r]
  refine ⟨by omega, s14 hP hp.2.2.1.2.1 (by rw [hp.2.2.2.2.1]; omega) (fun a => ?_)⟩
  rw [g87_57]
  simp only [hp, qif_r]
  refine ⟨fun _ => s16 hm hp.2.2.1.2.1 (by rw [hp.2.2.2.2.1]; omega) (fun b μ2 hm2 => ?_), fun _ => hQ _ _ (Sr_v h hm)⟩
  rw [g87_75]
  refine ⟨fun _ => hQ _ _ (Sr_v h hm2), fun _ => s182 (fun v => ?_)⟩
  rw [g87_86]
  exact hQ _ _ (Sr_v h hm2)
theorem s88 {μ0 : qM} {d : Nat} {Q : qV → qM → Prop} {μ : qM} {a1 a2 : Int} (h : Sr μ0 μ) (hQ : ∀ a μ', Sr μ0 μ' → Q (.inl a) μ') : qmw (d + 7) 88 [(.inr (.inr (.inl (0)))), (.inl (a1)), (.inl (a2))] μ Q := by
  rw [e88, g88_0, E105, g88_4, qbr]
  simp only [E104, g88_15, qbr2]
  refine ⟨fun _ => hQ _ _ h, fun _ => ⟨fun _ => s109 (Sv_rf h.1) (by omega) (by omega) (fun μ1 hm => ?_), fun _ => hQ _ _ h⟩⟩
  rw [g88_26]
  refine ⟨by omega, s18 hm (isP57 (by omega) (by omega)) (fun a μ2 hm2 => ?_)⟩
  rw [g88_39]
  exact hQ _ _ (Sr_v h hm2)
theorem s82 {μ0 : qM} {d : Nat} {Q : qV → qM → Prop} {μ : qM} {a1 a2 a3 : Int} (h : Sr1 μ0 μ) (hQ : ∀ a μ', Sr1 μ0 μ' → Q (.inl a) μ') : qmw (d + 6) 82 [(.inr (.inr (.inl (0)))), (.inl (a1)), (.inl (a2)), (.inl (a3))] μ Q := by
  rw [e82, g82_0, E105, g82_4, qbr]
  simp only [E104, E106, g82_11, g82_21, qbr2, qbr]
  refine ⟨fun _ => hQ _ _ h, fun _ => ⟨fun _ => hQ _ _ h, fun _ => ⟨fun _ => ⟨by omega, s108 (Sv_rf h.1) (by omega) (by omega) (fun μ1 hm => ?_)⟩, fun _ => hQ _ _ h⟩⟩⟩
  have h1 := Sr1_v h hm
  have hP := isP57 (p := a1) (by omega) (by omega)
  have hp := pf hP
  rw [g82_42, E3, g82_50, qbr2]
  refine ⟨fun _ => hQ _ _ h1, fun _ => s6 hm.1 hP (by omega) (by omega) (fun lo _ => ?_)⟩
  rw [g82_64]
  refine ⟨fun _ => hQ _ _ h1, fun _ => s7 hm.1 hP (by omega) (by omega) (fun hi _ => ?_)⟩
  rw [g82_78]
  simp only [hp, qif_r]
  refine ⟨fun _ => ⟨by omega, by omega, ?_⟩, fun _ => hQ _ _ h1⟩
  obtain ⟨p, hp0, hp1, hpe⟩ := id hP
  rw [hpe]
  have h3 : Sr1 μ0 (qu μ1 (74 + 11 * p + 3) a2 a3) := by
    refine Sr1_u h1 (by unfold relv1; omega) ?_ (by omega) (by omega) (by omega) (by omega)
    unfold sf
    refine ⟨?_, ?_, ?_, ?_, ?_, ?_, ?_, ?_, ?_, ?_, ?_, ?_, ?_, ?_, ?_, ?_, ?_, ?_, ?_, ?_, ?_, ?_, ?_, ?_, ?_, ?_, ?_, ?_, ?_, ?_, ?_⟩ <;> intros <;> omega
  have h4 : ∀ v, Sr1 μ0 (qu (qu μ1 (74 + 11 * p + 3) a2 a3) (74 + 11 * p + 4) a2 v) := fun v => by
    refine Sr1_u h3 (by unfold relv1; omega) ?_ (by omega) (by omega) (by omega) (by omega)
    unfold sf
    refine ⟨?_, ?_, ?_, ?_, ?_, ?_, ?_, ?_, ?_, ?_, ?_, ?_, ?_, ?_, ?_, ?_, ?_, ?_, ?_, ?_, ?_, ?_, ?_, ?_, ?_, ?_, ?_, ?_, ?_, ?_, ?_⟩ <;> intros <;> omega
  refine s108 (Sv_rf (h4 _).1) (by omega) (by omega) (fun μ2 hm2 => ?_)
  rw [g82_118]
  refine s9 hm2 (fun a μ3 hm3 => ?_)
  rw [g82_125]
  exact hQ _ _ (Sr1_v (h4 _) hm3)
