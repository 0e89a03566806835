theorem s141 {μ0 : qM} {d : Nat} {Q : qV → qM → Prop} {μ : qM} {a1 a2 : Int} (h : Sm μ0 μ) (h0 : 0 ≤ a1) (h1 : a1 < 6) (hQ : ∀ a μ', Sm μ0 μ' → Q (.inl a) μ') : qmw (d + 4) 141 [(.inr (.inr (.inl (170)))), (.inl (a1)), (.inl (a2))] μ Q := by
  have hf := sa_mfirms h.1 a1
  have fr : ∀ {ν : qM} {c i : Int}, Sm μ0 ν → (181 ≤ c ∧ c ≤ 185) → ν c i = μ0 c i := fun hm hc => hm.2 _ _ (by omega)
  rw [fr h (by omega)] at hf
  rw [e141, g141_0, q32_id (z := 3 * a1) (by omega) (by omega)]
  refine qup (3 * a1 + μ0 181 a1) (P := fun a4 => ∀ (a3 : Int) (o5 o6 : Option qV) (ν : qM), 3 * a1 ≤ a4 → (a3 = 0 ∨ a3 = 1) → Sm μ0 ν → qW (d + 3) 141 Q 22 [some (.inr (.inr (.inl (170)))), some (.inl (a1)), some (.inl (a2)), some (.inl (a3)), some (.inl (a4)), o5, o6] [] ν) (fun a4 ih hB a3 o5 o6 ν h2 h3 hm => ?_) _ (by omega) _ _ _ _ (by omega) (Or.inr rfl) (Sm_u (Sm_u (Sm_u h (by omega) (by omega)) (by omega) (by omega)) (by omega) (by omega))
  have e1 : ν 181 a1 = μ0 181 a1 := fr hm (by omega)
  rw [g141_22, e1, q32_id (z := 3 * a1) (by omega) (by omega), q32_id (z := 3 * a1 + μ0 181 a1) (by omega) (by omega)]
  refine ⟨by omega, fun _ => ⟨by omega, hQ _ _ hm⟩, fun h4 => ?_⟩
  have st : ∀ (a3 : Int) (o5 o6 : Option qV) (ν : qM), (a3 = 0 ∨ a3 = 1) → Sm μ0 ν → qW (d + 3) 141 Q 22 [some (.inr (.inr (.inl (170)))), some (.inl (a1)), some (.inl (a2)), some (.inl (a3)), some (.inl (q32 (a4 + 1))), o5, o6] [] ν := fun a3 o5 o6 ν' q1 q2 => by
    rw [q32_id (z := a4 + 1) (by omega) (by omega)]
    exact ih _ (by omega) (by omega) _ _ _ _ (by omega) q1 q2
  clear ih
  refine ⟨by omega, fun _ => st _ _ _ _ h3 hm, fun _ => ⟨by omega, ?_⟩⟩
  have hs := sa_msum hm.1 a4
  generalize ν 184 a4 = a5 at hs
  refine qup 201 (P := fun a6 => ∀ (ν : qM), 0 ≤ a6 → Sm μ0 ν → qW (d + 3) 141 Q 60 [some (.inr (.inr (.inl (170)))), some (.inl (a1)), some (.inl (a2)), some (.inl (a3)), some (.inl (a4)), some (.inl (a5)), some (.inl (a6))] [] ν) (fun a6 ih2 hB2 ν h6 hm => ?_) 0 (by omega) _ (by omega) hm
  have st2 : ∀ (ν : qM), a6 ≤ 200 → Sm μ0 ν → qW (d + 3) 141 Q 60 [some (.inr (.inr (.inl (170)))), some (.inl (a1)), some (.inl (a2)), some (.inl (a3)), some (.inl (a4)), some (.inl (a5)), some (.inl (q32 (a6 + 1)))] [] ν := fun ν' q1 q2 => by
    rw [q32_id (z := a6 + 1) (by omega) (by omega)]
    exact ih2 _ (by omega) (by omega) _ (by omega) q2
  clear ih2
  have key : qW (d + 3) 141 Q 132 [some (.inr (.inr (.inl (170)))), some (.inl (a1)), some (.inl (a2)), some (.inl (a3)), some (.inl (a4)), some (.inl (a5)), some (.inl (ν 182 a4))] [] ν := by
    have hfr := sa_mfrom hm.1 a4
    have hto := sa_mto hm.1 a4
    rw [fr hm (by omega)] at hto
    refine qup 10 (P := fun a6 => ∀ (ν : qM), 0 ≤ a6 → Sm μ0 ν → qW (d + 3) 141 Q 132 [some (.inr (.inr (.inl (170)))), some (.inl (a1)), some (.inl (a2)), some (.inl (a3)), some (.inl (a4)), some (.inl (a5)), some (.inl (a6))] [] ν) (fun a6 ih3 hB3 ν h7 hm => ?_) _ (by omega) _ (by omega) hm
    have w : ∀ x y z, Sm μ0 (qu (qu (qu ν 170 28 x) 170 29 y) 170 30 z) := fun x y z => Sm_u (Sm_u (Sm_u hm (by omega) (by omega)) (by omega) (by omega)) (by omega) (by omega)
    rw [g141_132, fr hm (c := 183) (by omega)]
    refine ⟨by omega, fun _ => ⟨fun _ => ⟨by omega, by omega, by omega, by omega, st _ _ _ _ (Or.inl rfl) (w _ _ _)⟩, fun _ => ⟨by omega, fun _ => ⟨by omega, by omega, by omega, by omega, st _ _ _ _ (Or.inl rfl) (w _ _ _)⟩, fun _ => ⟨by omega, by omega, by omega, by omega, st _ _ _ _ (Or.inr rfl) (w _ _ _)⟩⟩⟩, fun _ => s140 hm h0 h1 (by omega) (by omega) hs.1 hs.2 (fun a μ1 hm1 => ?_)⟩
    rw [g141_154, q32_id (z := a6 + 1) (by omega) (by omega)]
    exact ih3 _ (by omega) (by omega) _ (by omega) hm1
  have w : ∀ x y z u, Sm μ0 (qu (qu (qu (qu ν 190 a6 x) 187 a6 y) 188 a6 z) 189 a6 u) := fun x y z u => Sm_u (Sm_u (Sm_u (Sm_u hm (by omega) (by omega)) (by omega) (by omega)) (by omega) (by omega)) (by omega) (by omega)
  rw [g141_60]
  simp only [qb11, qb00, true_and]
  refine ⟨fun _ => ⟨by omega, key⟩, fun q => ⟨fun _ => ⟨by omega, fun _ => ⟨by omega, by omega, by omega, st2 _ (by omega) (w _ _ _ _)⟩, fun _ => ⟨by omega, by omega, by omega, st2 _ (by omega) (w _ _ _ _)⟩⟩, fun _ => ⟨by omega, fun _ => ⟨by omega, by omega, by omega, st2 _ (by omega) (w _ _ _ _)⟩, fun _ => ⟨by omega, by omega, by omega, st2 _ (by omega) (w _ _ _ _)⟩⟩⟩⟩
theorem E142 {d : Nat} {Q : qV → qM → Prop} {μ : qM} {a0 : Int} : qmw (d + 1) 142 [(.inl (a0))] μ Q = Q (.inl (if 0 ≤ a0 then a0 else 0)) μ := by
  rw [e142, g142_0]
  by_cases h : 0 ≤ a0
  · simp [h, Int.not_lt.mpr h]
  · simp [h, Int.not_le.mp h]
theorem Sr1_179 {μ0 μ : qM} {i v w : Int} (h : Sr1 μ0 μ) (hv : 0 ≤ v) (hv2 : v ≤ 20) : Sr1 μ0 (qu (qu μ 179 i v) 180 i w) := by
  refine Sr1_u (Sr1_u h (by unfold relv1; omega) ?_ (by omega) (by omega) (by omega) (by omega)) (by unfold relv1; omega) ?_ (by omega) (by omega) (by omega) (by omega)
  · unfold sf
    refine ⟨?_, ?_, ?_, ?_, ?_, ?_, ?_, ?_, ?_, ?_, ?_, ?_, ?_, ?_, ?_, ?_, ?_, ?_, ?_, ?_, ?_, ?_, ?_, ?_, ?_, ?_, ?_, ?_, ?_, ?_, ?_⟩ <;> intros <;> omega
  · unfold sf
    refine ⟨?_, ?_, ?_, ?_, ?_, ?_, ?_, ?_, ?_, ?_, ?_, ?_, ?_, ?_, ?_, ?_, ?_, ?_, ?_, ?_, ?_, ?_, ?_, ?_, ?_, ?_, ?_, ?_, ?_, ?_, ?_⟩ <;> intros <;> omega
theorem s143 {μ0 : qM} {d : Nat} {Q : qV → qM → Prop} {μ : qM} {a1 a2 a3 : Int} (h : Sr1 μ0 μ) (hQ : ∀ a μ', Sr1 μ0 μ' → Q (.inl a) μ') : qmw (d + 5) 143 [(.inr (.inr (.inl (170)))), (.inl (a1)), (.inl (a2)), (.inl (a3))] μ Q := by
  rw [e143, g143_0, E133, g143_4, qbr2]
  simp only [E134, E117, g143_11, g143_21, qbr, qbr2]
  refine ⟨fun _ => hQ _ _ h, fun _ => ⟨fun _ => hQ _ _ h, fun _ => ⟨fun _ => s136 h.1 (by omega) (by omega) (fun a ha => ?_), fun _ => hQ _ _ h⟩⟩⟩
  rw [g143_43, q32_id (z := 10 * a1) (by omega) (by omega), q32_id (z := 10 * a1 + a2) (by omega) (by omega)]
  refine ⟨fun _ => hQ _ _ h, fun _ => ⟨by omega, fun _ => s138 (Sm_rf h.1) (by omega) (by omega) (fun b μ1 hm1 => ?_), fun _ => hQ _ _ h⟩⟩
  rw [g143_71]
  have h1 := Sr1_m h hm1
  refine ⟨by omega, s141 (Sm_rf (Sm_u hm1 (c := 186) (i := a2) (v := a3) (by omega) (by omega)).1) (by omega) (by omega) (fun b2 μ2 hm2 => ?_)⟩
  have h2 := Sr1_m h (Sm_tr (Sm_u hm1 (c := 186) (i := a2) (v := a3) (by omega) (by omega)) hm2)
  rw [g143_86]
  refine ⟨fun _ => ⟨by omega, by omega, ?_⟩, fun _ => hQ _ _ h2⟩
  have h3 := Sr1_179 (i := 10 * a1 + a2) (v := a3) (w := μ2 170 1) h2 (by omega) (by omega)
  refine s138 (Sm_rf h3.1) (by omega) (by omega) (fun b3 μ3 hm3 => ?_)
  have h4 := Sr1_m h3 hm3
  rw [g143_120]
  refine s141 (Sm_rf h4.1) (by omega) (by omega) (fun b4 μ4 hm4 => ?_)
  rw [g143_129]
  exact hQ _ _ (Sr1_m h4 hm4)
theorem s144 {μ0 : qM} {d : Nat} {Q : qV → qM → Prop} {μ : qM} {a1 a2 : Int} (h : Sm μ0 μ) (h0 : 0 ≤ a1) (h1 : a1 < 6) (hQ : ∀ a μ', Sm μ0 μ' → Q (.inl a) μ') : qmw (d + 5) 144 [(.inr (.inr (.inl (170)))), (.inl (a1)), (.inl (a2))] μ Q := by
  rw [e144, g144_0]
  refine s138 h h0 h1 (fun a μ1 hm1 => ?_)
  rw [g144_6]
  refine s141 hm1 h0 h1 (fun b μ2 hm2 => ?_)
  rw [g144_12]
  exact hQ _ _ hm2
theorem s145 {μ0 : qM} {d : Nat} {Q : qV → qM → Prop} {μ : qM} {a1 a2 : Int} (h : Sn μ0 μ) (hQ : ∀ a μ', Sn μ0 μ' → Q (.inl a) μ') : qmw (d + 6) 145 [(.inr (.inr (.inl (170)))), (.inl (a1)), (.inl (a2))] μ Q := by
  rw [e145, g145_0, E133, g145_4, qbr2]
  simp only [E130, g145_11, qbr]
  refine ⟨fun _ => hQ _ _ h, fun _ => ⟨fun _ => s144 (Sm_rf h.1) (by omega) (by omega) (fun a μ1 hm1 => ?_), fun _ => hQ _ _ h⟩⟩
  rw [g145_22]
  exact hQ _ _ (Sn_m h hm1)
theorem s146 {d : Nat} {Q : qV → qM → Prop} {μ : qM} {a1 a2 : Int} (hS : Safe μ) (h0 : 0 ≤ a1) (h1 : a1 < 18) (hQ : ∀ a, Q (.inl a) μ) : qmw (d + 1) 146 [(.inr (.inr (.inl (170)))), (.inl (a1)), (.inl (a2))] μ Q := by
  have hf := sa_mfrom hS a1
  have ht := sa_mto hS a1
  have hl := hS.2.1 a1
  rw [e146, g146_0, q32_id (z := μ 183 a1 - μ 182 a1) (by omega) (by omega), q32_id (z := μ 183 a1 - μ 182 a1 + 1) (by omega) (by omega)]
  exact ⟨by omega, by omega, by omega, by omega, by omega, by omega, by omega, fun _ => hQ _, fun _ => hQ _⟩
theorem s147 {d : Nat} {Q : qV → qM → Prop} {μ : qM} {a1 a2 a3 : Int} (hS : Safe μ) (h0 : 0 ≤ a1) (h1 : a1 < 6) (hQ : ∀ a, Q (.inl a) μ) : qmw (d + 3) 147 [(.inr (.inr (.inl (170)))), (.inl (a1)), (.inl (a2)), (.inl (a3))] μ Q := by
  have hf := sa_mfirms hS a1
  rw [e147, g147_0]
  refine qup 10 (P := fun a5 => ∀ (a4 : Int) (o6 : Option qV), 0 ≤ a5 → qW (d + 2) 147 Q 6 [some (.inr (.inr (.inl (170)))), some (.inl (a1)), some (.inl (a2)), some (.inl (a3)), some (.inl (a4)), some (.inl (a5)), o6] [] μ) (fun a5 ih hB a4 o6 h5 => ?_) 0 (by omega) _ _ (by omega)
  have st : ∀ (a4 : Int) (o6 : Option qV), a5 < 10 → qW (d + 2) 147 Q 6 [some (.inr (.inr (.inl (170)))), some (.inl (a1)), some (.inl (a2)), some (.inl (a3)), some (.inl (a4)), some (.inl (q32 (a5 + 1))), o6] [] μ := fun a4 o6 q => by
    rw [q32_id (z := a5 + 1) (by omega) (by omega)]
    exact ih _ (by omega) (by omega) _ _ (by omega)
  clear ih
  rw [g147_6, E142, g147_87]
  refine ⟨fun _ => hQ _, fun h6 => s136 hS h0 h1 (fun f hf2 => ?_)⟩
  have st2 := fun a4 o6 => st a4 o6 h6
  rw [g147_21]
  refine ⟨fun _ => st2 _ _, fun _ => s139 hS h0 h1 h5 h6 (fun b => ?_)⟩
  rw [g147_40, q32_id (z := 10 * a1) (by omega) (by omega), q32_id (z := 10 * a1 + a5) (by omega) (by omega)]
  refine ⟨fun _ => ⟨by omega, s131 hS (fun c => ?_)⟩, fun _ => s146 hS (by omega) (by omega) (fun c => ?_)⟩
  · rw [g147_72]
    exact st2 _ _
  · rw [g147_53]
    refine s131 hS (fun e => ?_)
    rw [g147_72]
    exact st2 _ _
theorem s148 {μ0 : qM} {d : Nat} {Q : qV → qM → Prop} {μ : qM} {a1 a2 a3 : Int} (h : Sm μ0 μ) (h0 : 0 ≤ a1) (h1 : a1 < 6) (hQ : ∀ a μ', Sm μ0 μ' → Q (.inl a) μ') : qmw (d + 6) 148 [(.inr (.inr (.inl (170)))), (.inl (a1)), (.inl (a2)), (.inl (a3))] μ Q := by
  have key : ∀ x, qmw (d + 5) 147 [(.inr (.inr (.inl (170)))), (.inl (a1)), (.inl (a2)), (.inl (x))] μ (fun v ν => qW (d + 5) 148 Q 24 [some (.inr (.inr (.inl (170)))), some (.inl (a1)), some (.inl (a2)), some (.inl (a3))] (v :: []) ν) := fun x => s147 h.1 h0 h1 (fun a => by
    rw [g148_24]
    exact hQ _ _ h)
  rw [e148, g148_0]
  refine ⟨fun _ => ⟨fun _ => key _, fun _ => key _⟩, fun _ => ⟨fun _ => s144 h h0 h1 (fun a μ1 hm1 => ?_), fun _ => ⟨fun _ => key _, fun _ => key _⟩⟩⟩
  rw [g148_31]
  simp only [E142, g148_50]
  exact ⟨fun _ => hQ _ _ hm1, fun _ => hQ _ _ hm1⟩
theorem s149 {μ0 : qM} {d : Nat} {Q : qV → qM → Prop} {μ : qM} {a1 a2 a3 : Int} (h : Sn μ0 μ) (hQ : ∀ a μ', Sn μ0 μ' → Q (.inl a) μ') : qmw (d + 7) 149 [(.inr (.inr (.inl (170)))), (.inl (a1)), (.inl (a2)), (.inl (a3))] μ Q := by
  rw [e149, g149_0, E133, g149_4, qbr2]
  simp only [E130, E117, g149_11, g149_20, qbr2]
  refine ⟨fun _ => hQ _ _ h, fun _ => ⟨fun _ => hQ _ _ h, fun _ => ⟨fun _ => hQ _ _ h, fun _ => s148 (Sm_rf h.1) (by omega) (by omega) (fun a μ1 hm1 => ?_)⟩⟩⟩
  rw [g149_30]
  exact hQ _ _ (Sn_m h hm1)
theorem s150 {d : Nat} {Q : qV → qM → Prop} {μ : qM} (hQ : ∀ a, 0 ≤ a → a ≤ 1 → Q (.inl a) μ) : qmw (d + 2) 150 [(.inr (.inr (.inl (170))))] μ Q := by
  rw [e150, g150_0, E142, g150_7, E142, g150_14]
  exact ⟨fun _ => ⟨by decide, hQ _ (by decide) (by decide)⟩, fun _ => ⟨by decide, hQ _ (by decide) (by decide)⟩⟩
theorem s151 {μ0 : qM} {d : Nat} {Q : qV → qM → Prop} {μ : qM} {a1 a2 : Int} (h : Sn μ0 μ) (hQ : ∀ a μ', Sn μ0 μ' → Q (.inl a) μ') : qmw (d + 6) 151 [(.inr (.inr (.inl (170)))), (.inl (a1)), (.inl (a2))] μ Q := by
  rw [e151, g151_0, E133, g151_4, qbr2]
  simp only [E130, g151_11, qbr]
  refine ⟨fun _ => hQ _ _ h, fun _ => ⟨fun _ => s144 (Sm_rf h.1) (by omega) (by omega) (fun a μ1 hm1 => ?_), fun _ => hQ _ _ h⟩⟩
  rw [g151_22]
  refine s150 (fun b _ _ => ?_)
  rw [g151_26]
  exact ⟨fun _ => hQ _ _ (Sn_m h hm1), fun _ => hQ _ _ (Sn_m h hm1)⟩
theorem s152 {μ0 : qM} {d : Nat} {Q : qV → qM → Prop} {μ : qM} {a1 a2 a3 a4 : Int} (h : Sn μ0 μ) (hQ : ∀ a μ', Sn μ0 μ' → Q (.inl a) μ') : qmw (d + 4) 152 [(.inr (.inr (.inl (170)))), (.inl (a1)), (.inl (a2)), (.inl (a3)), (.inl (a4))] μ Q := by
  rw [e152, g152_0, E133, g152_4, qbr2]
  simp only [E130, E134, E117, g152_11, g152_18, g152_28, qbr2, qbr]
  refine ⟨fun _ => hQ _ _ h, fun _ => ⟨fun _ => hQ _ _ h, fun _ => ⟨fun _ => hQ _ _ h, fun _ => ⟨fun _ => s136 h.1 (by omega) (by omega) (fun a5 ha => ?_), fun _ => hQ _ _ h⟩⟩⟩⟩
  have hf := sa_mfirms h.1 a1
  rw [g152_40]
  refine ⟨fun _ => s138 (Sm_rf h.1) (by omega) (by omega) (fun b μ1 hm1 => ?_), fun _ => hQ _ _ h⟩
  have h1 := Sn_m h hm1
  have hx := sa_mfrom h1.1 a5
  have hy := sa_mto h1.1 a5
  rw [g152_58]
  refine ⟨by omega, fun _ => ⟨by omega, by omega, ?_⟩, fun _ => ⟨by omega, hQ _ _ h1⟩⟩
  have q := hQ
  clear hQ
  refine qup 10 (P := fun a8 => ∀ (a6 a7 : Int), 0 ≤ a8 → qW (d + 3) 152 Q 97 [some (.inr (.inr (.inl (170)))), some (.inl (a1)), some (.inl (a2)), some (.inl (a3)), some (.inl (a4)), some (.inl (a5)), some (.inl (a6)), some (.inl (a7)), some (.inl (a8))] [] μ1) (fun a8 ih hB a6 a7 h8 => ?_) _ (by omega) _ _ (by omega)
  have st : ∀ (a6 a7 : Int), a8 ≤ μ1 183 a5 → qW (d + 3) 152 Q 97 [some (.inr (.inr (.inl (170)))), some (.inl (a1)), some (.inl (a2)), some (.inl (a3)), some (.inl (a4)), some (.inl (a5)), some (.inl (a6)), some (.inl (a7)), some (.inl (q32 (a8 + 1)))] [] μ1 := fun a6 a7 q1 => by
    rw [q32_id (z := a8 + 1) (by omega) (by omega)]
    exact ih _ (by omega) (by omega) _ _ (by omega)
  clear ih
  rw [g152_97, E142, g152_187]
  refine ⟨by omega, fun _ => ⟨fun _ => ⟨fun _ => q _ _ h1, fun _ => q _ _ h1⟩, fun _ => q _ _ h1⟩, fun h9 => ?_⟩
  have st2 := fun a6 a7 => st a6 a7 h9
  have hz : 0 ≤ a8 ∧ a8 < 10 := by omega
  clear st q
  (repeat' with_reducible (first | apply And.intro | intro _))
  all_goals first | exact hz.1 | exact hz.2 | exact st2 _ _
theorem s153 {d : Nat} {Q : qV → qM → Prop} {μ : qM} {a0 : Int} (hQ : ∀ a, Q (.inl a) μ) : qmw (d + 1) 153 [(.inl (a0))] μ Q := by
  rw [e153, g153_0]
  refine qup 10 (P := fun a2 => ∀ (a1 : Int), 0 ≤ a2 → qW d 153 Q 4 [some (.inl (a0)), some (.inl (a1)), some (.inl (a2))] [] μ) (fun a2 ih hB a1 h2 => ?_) _ (by omega) _ (by omega)
  rw [g153_4, q32_id (z := a2 + 1) (by omega) (by omega)]
  exact ⟨fun _ => hQ _, fun _ => ih _ (by omega) (by omega) _ (by omega)⟩
theorem s154 {d : Nat} {Q : qV → qM → Prop} {μ : qM} {a1 a2 : Int} (hS : Safe μ) (h0 : 0 ≤ a1) (h1 : a1 < 6) (hQ : ∀ a, Q (.inl a) μ) : qmw (d + 3) 154 [(.inr (.inr (.inl (170)))), (.inl (a1)), (.inl (a2))] μ Q := by
  rw [e154, g154_0]
  refine qup 10 (P := fun a4 => ∀ (a3 : Int), 0 ≤ a4 → qW (d + 2) 154 Q 5 [some (.inr (.inr (.inl (170)))), some (.inl (a1)), some (.inl (a2)), some (.inl (a3)), some (.inl (a4))] [] μ) (fun a4 ih hB a3 h4 => ?_) _ (by omega) _ (by omega)
  rw [g154_5]
  refine ⟨fun _ => hQ _, fun h5 => s136 hS h0 h1 (fun a _ => ?_)⟩
  rw [g154_21, q32_id (z := a4 + 1) (by omega) (by omega)]
  exact ⟨fun _ => ih _ (by omega) (by omega) _ (by omega), fun _ => ih _ (by omega) (by omega) _ (by omega)⟩
theorem s155 {μ0 : qM} {d : Nat} {Q : qV → qM → Prop} {μ : qM} {a1 a2 a3 : Int} (h : Sm μ0 μ) (h0 : 0 ≤ a1) (h1 : a1 < 6) (hQ : ∀ a μ', Sm μ0 μ' → Q (.inl a) μ') : qmw (d + 5) 155 [(.inr (.inr (.inl (170)))), (.inl (a1)), (.inl (a2)), (.inl (a3))] μ Q := by
  rw [e155, g155_0]
  refine s138 h h0 h1 (fun a μ1 hm1 => ?_)
  rw [g155_6]
  refine qup 10 (P := fun a5 => ∀ (a4 : Int) (o6 : Option qV) (ν : qM), 0 ≤ a5 → Sm μ0 ν → qW (d + 4) 155 Q 12 [some (.inr (.inr (.inl (170)))), some (.inl (a1)), some (.inl (a2)), some (.inl (a3)), some (.inl (a4)), some (.inl (a5)), o6] [] ν) (fun a5 ih hB a4 o6 ν h5 hm => ?_) _ (by omega) _ _ _ (by omega) hm1
  have st : ∀ (a4 : Int) (o6 : Option qV) (ν : qM), a5 < 10 → Sm μ0 ν → qW (d + 4) 155 Q 12 [some (.inr (.inr (.inl (170)))), some (.inl (a1)), some (.inl (a2)), some (.inl (a3)), some (.inl (a4)), some (.inl (q32 (a5 + 1))), o6] [] ν := fun a4 o6 ν' q1 q2 => by
    rw [q32_id (z := a5 + 1) (by omega) (by omega)]
    exact ih _ (by omega) (by omega) _ _ _ (by omega) q2
  clear ih
  have ht := sa_truth hm.1 (10 * a1 + a5)
  rw [g155_12]
  refine ⟨fun _ => ⟨fun _ => ⟨by decide, hQ _ _ hm⟩, fun _ => s141 hm h0 h1 (fun b μ2 hm2 => ?_)⟩, fun h6 => ?_⟩
  · rw [g155_105]
    exact ⟨fun _ => ⟨by decide, hQ _ _ hm2⟩, fun _ => ⟨by decide, hQ _ _ hm2⟩⟩
  · rw [q32_id (z := 10 * a1) (by omega) (by omega), q32_id (z := 10 * a1 + a5) (by omega) (by omega)]
    have hz : 0 ≤ a5 ∧ a5 < 10 := by omega
    have hy : 0 ≤ 10 * a1 + a5 ∧ 10 * a1 + a5 < 60 := by omega
    have hn := Sm_u hm (c := 186) (i := a5) (v := ν 178 (10 * a1 + a5)) (by omega) (by omega)
    have st2 := fun a4 o6 ν => st a4 o6 ν h6
    clear st hQ
    (repeat' with_reducible (first | apply And.intro | intro _))
    all_goals first | exact hz.1 | exact hz.2 | exact hy.1 | exact hy.2 | exact st2 _ _ _ hm | exact st2 _ _ _ hn
theorem s156 {μ0 : qM} {d : Nat} {Q : qV → qM → Prop} {μ : qM} {a1 a2 : Int} (h : Sm μ0 μ) (h0 : 0 ≤ a1) (h1 : a1 < 6) (hQ : ∀ a μ', Sm μ0 μ' → Q (.inl a) μ') : qmw (d + 6) 156 [(.inr (.inr (.inl (170)))), (.inl (a1)), (.inl (a2))] μ Q := by
  rw [e156, g156_0]
  refine s154 h.1 h0 h1 (fun a3 => ?_)
  rw [g156_6]
  refine s155 h h0 h1 (fun b μ1 hm1 => ?_)
  rw [g156_14]
  refine ⟨fun _ => ?_, fun _ => hQ _ _ hm1⟩
  refine qup 11 (P := fun a4 => ∀ (o5 : Option qV) (ν : qM), 0 ≤ a4 → Sm μ0 ν → qW (d + 5) 156 Q 23 [some (.inr (.inr (.inl (170)))), some (.inl (a1)), some (.inl (a2)), some (.inl (a3)), some (.inl (a4)), o5] [] ν) (fun a4 ih hB o5 ν h4 hm => ?_) _ (by omega) _ _ (by omega) hm1
  rw [g156_23]
  refine ⟨fun _ => hQ _ _ hm, fun h5 => ?_⟩
  refine qup 1024 (P := fun a5 => ∀ (ν : qM), 0 ≤ a5 → Sm μ0 ν → qW (d + 5) 156 Q 33 [some (.inr (.inr (.inl (170)))), some (.inl (a1)), some (.inl (a2)), some (.inl (a3)), some (.inl (a4)), some (.inl (a5))] [] ν) (fun a5 ih2 hB2 ν h6 hm => ?_) _ (by omega) _ (by omega) hm
  have st : ∀ (ν : qM), a5 < 1024 → Sm μ0 ν → qW (d + 5) 156 Q 33 [some (.inr (.inr (.inl (170)))), some (.inl (a1)), some (.inl (a2)), some (.inl (a3)), some (.inl (a4)), some (.inl (q32 (a5 + 1)))] [] ν := fun ν' q1 q2 => by
    rw [q32_id (z := a5 + 1) (by omega) (by omega)]
    exact ih2 _ (by omega) (by omega) _ (by omega) q2
  clear ih2
  rw [g156_33]
  refine ⟨fun _ => ?_, fun h7 => ⟨fun _ => st _ h7 hm, fun _ => s153 (fun c => ?_)⟩⟩
  · rw [q32_id (z := a4 + 1) (by omega) (by omega)]
    exact ih _ (by omega) (by omega) _ _ (by omega) hm
  · rw [g156_55]
    refine ⟨fun _ => st _ h7 hm, fun _ => s155 hm h0 h1 (fun e μ2 hm2 => ?_)⟩
    rw [g156_68]
    refine ⟨fun _ => st _ h7 hm2, fun _ => s150 (fun f _ _ => ?_)⟩
    rw [g156_75]
    exact ⟨fun _ => st _ h7 hm2, fun _ => hQ _ _ hm2⟩
theorem s157 {μ0 : qM} {d : Nat} {Q : qV → qM → Prop} {μ : qM} {a1 a2 a3 : Int} (h : Sn μ0 μ) (hQ : ∀ a μ', Sn μ0 μ' → Q (.inl a) μ') : qmw (d + 7) 157 [(.inr (.inr (.inl (170)))), (.inl (a1)), (.inl (a2)), (.inl (a3))] μ Q := by
  rw [e157, g157_0, E133, g157_4, qbr2]
  simp only [E130, E117, g157_11, g157_20, qbr2, qbr]
  refine ⟨fun _ => hQ _ _ h, fun _ => ⟨fun _ => hQ _ _ h, fun _ => ⟨fun _ => s156 (Sm_rf h.1) (by omega) (by omega) (fun a μ1 hm1 => ?_), fun _ => hQ _ _ h⟩⟩⟩
  have h1 := Sn_m h hm1
  rw [g157_31]
  refine ⟨fun _ => ?_, fun _ => ⟨fun _ => s153 (fun b => ?_), fun _ => ?_⟩⟩
  · rw [g157_55]
    exact hQ _ _ h1
  · rw [g157_55]
    exact hQ _ _ h1
  · rw [g157_55]
    exact hQ _ _ h1
theorem s158 {μ0 : qM} {d : Nat} {Q : qV → qM → Prop} {μ : qM} {a1 a2 : Int} (h : Sn μ0 μ) (hQ : ∀ a μ', Sn μ0 μ' → Q (.inl a) μ') : qmw (d + 5) 158 [(.inr (.inr (.inl (170)))), (.inl (a1)), (.inl (a2))] μ Q := by
  rw [e158, g158_0, E133, g158_4, qbr2]
  simp only [E130, g158_11, qbr]
  refine ⟨fun _ => hQ _ _ h, fun _ => ⟨fun _ => ?_, fun _ => hQ _ _ h⟩⟩
  refine qup 10 (P := fun a5 => ∀ (a3 a4 : Int) (o6 o7 o8 : Option qV) (ν : qM), 0 ≤ a5 → Sn μ0 ν → qW (d + 4) 158 Q 25 [some (.inr (.inr (.inl (170)))), some (.inl (a1)), some (.inl (a2)), some (.inl (a3)), some (.inl (a4)), some (.inl (a5)), o6, o7, o8] [] ν) (fun a5 ih hB a3 a4 o6 o7 o8 ν h5 hm => ?_) _ (by omega) _ _ _ _ _ _ (by omega) h
  rw [g158_25]
  refine ⟨fun _ => hQ _ _ hm, fun h6 => ?_⟩
  have st : ∀ (a3 a4 : Int) (o6 o7 o8 : Option qV) (ν : qM), Sn μ0 ν → qW (d + 4) 158 Q 25 [some (.inr (.inr (.inl (170)))), some (.inl (a1)), some (.inl (a2)), some (.inl (a3)), some (.inl (a4)), some (.inl (q32 (a5 + 1))), o6, o7, o8] [] ν := fun _ _ _ _ _ _ q => by
    rw [q32_id (z := a5 + 1) (by omega) (by omega)]
    exact ih _ (by omega) (by omega) _ _ _ _ _ _ (by omega) q
  clear ih
  refine s138 (Sm_rf hm.1) (by omega) (by omega) (fun b μ1 hm1 => ?_)
  have h1 := Sn_m hm hm1
  rw [g158_38]
  refine s136 h1.1 (by omega) (by omega) (fun a ha => ?_)
  rw [g158_46]
  refine ⟨fun _ => st _ _ _ _ _ _ h1, fun _ => ⟨by omega, fun _ => st _ _ _ _ _ _ h1, fun _ => ?_⟩⟩
  refine qup 21 (P := fun a7 => ∀ (a6 : Int) (o8 : Option qV) (ν : qM), 0 ≤ a7 → Sn μ0 ν → qW (d + 4) 158 Q 69 [some (.inr (.inr (.inl (170)))), some (.inl (a1)), some (.inl (a2)), some (.inl (a3)), some (.inl (a4)), some (.inl (a5)), some (.inl (a6)), some (.inl (a7)), o8] [] ν) (fun a7 ih2 hB2 a6 o8 ν h7 hm => ?_) _ (by omega) _ _ _ (by omega) h1
  have st2 : ∀ (a6 : Int) (o8 : Option qV) (ν : qM), a7 ≤ 20 → Sn μ0 ν → qW (d + 4) 158 Q 69 [some (.inr (.inr (.inl (170)))), some (.inl (a1)), some (.inl (a2)), some (.inl (a3)), some (.inl (a4)), some (.inl (a5)), some (.inl (a6)), some (.inl (q32 (a7 + 1))), o8] [] ν := fun _ _ _ q1 q2 => by
    rw [q32_id (z := a7 + 1) (by omega) (by omega)]
    exact ih2 _ (by omega) (by omega) _ _ _ (by omega) q2
  clear ih2
  rw [g158_69]
  refine ⟨fun _ => ⟨fun _ => st _ _ _ _ _ _ hm, fun _ => ⟨fun _ => st _ _ _ _ _ _ hm, fun _ => st _ _ _ _ _ _ hm⟩⟩, fun h8 => ⟨by omega, ?_⟩⟩
  have hn := Sm_u (Sm_rf hm.1) (c := 186) (i := a5) (v := a7) (by omega) (by omega)
  refine s141 hn (by omega) (by omega) (fun c μ2 hm2 => ?_)
  have h2 := Sn_m hm hm2
  rw [g158_91]
  refine ⟨fun _ => st2 _ _ _ h8 h2, fun _ => ?_⟩
  rw [E142, g158_101, E142, g158_108]
  exact ⟨fun _ => st2 _ _ _ h8 h2, fun _ => st2 _ _ _ h8 h2⟩
