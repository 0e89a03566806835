/-! SPAN: the least and the most that a fortnight could be; what showing one does -/
def lp (fo Sx h : Int → Int) (f : Int) : Int := qmax 0 (Sx (fo f) - sh fo h (fo f) - 20 * (nl fo h (fo f) - 1))
def mp (fo Sx h : Int → Int) (f : Int) : Int := qmin 20 (Sx (fo f) - sh fo h (fo f))
theorem nl_u {fo h : Int → Int} {i a1 a2 : Int} (h0 : 0 ≤ a1) (h1 : a1 ≤ 9) (h2 : 0 ≤ a2) (h9 : h a1 = -9) : nl fo (hup h a1 a2) i = nl fo h i - (if fo a1 = i then 1 else 0) := by
  have a := nl_ns (fo := fo) (h := h) (i := i)
  have b := nl_ns (fo := fo) (h := hup h a1 a2) (i := i)
  rw [ns_u h0 h1 h2 h9] at b
  rw [← b, ← a]
  split <;> omega
theorem FE_u {fo Sx h : Int → Int} {f v : Int} (fe : FE fo Sx h) (h0 : 0 ≤ f) (h1 : f ≤ 9) (hf : 0 ≤ fo f) (hf2 : fo f ≤ 2) (h9 : h f = -9) (hv : 0 ≤ v) (hv2 : v ≤ 20) : FE fo Sx (hup h f v) ↔ (lp fo Sx h f ≤ v ∧ v ≤ mp fo Sx h f) := by
  constructor
  · intro fe2
    have z := fe2 (fo f) hf hf2
    rw [sh_u h0 h1 hv h9, nl_u h0 h1 hv h9, if_pos rfl, if_pos rfl] at z
    unfold lp mp qmax qmin
    split <;> split <;> omega
  · intro q i q1 q2
    rw [sh_u h0 h1 hv h9, nl_u h0 h1 hv h9]
    have z := fe i q1 q2
    by_cases e : fo f = i
    · rw [if_pos e, if_pos e]
      unfold lp mp qmax qmin at q
      rw [e] at q
      split at q <;> split at q <;> omega
    · rw [if_neg e, if_neg e]
      omega
section SP5
variable {μ : qM}
theorem x6 {d : Nat} {Q : qV → qM → Prop} {fo Sx N du told h : Int → Int} {c1 a2 : Int} (hc : isP c1) (h0 : 0 ≤ a2) (h1 : a2 ≤ 9) (e54 : μ 54 a2 = fo a2) (hf : 0 ≤ fo a2) (hf2 : fo a2 ≤ 2) (v : VW μ fo Sx N du told h) (hN : ∀ i, 0 ≤ i → i ≤ 2 → N i = nf fo i) (hh : okH h) (hS2 : ∀ i, 0 ≤ i → i ≤ 2 → 0 ≤ Sx i ∧ Sx i ≤ 200) (hQ : ∀ a, ((h a2 = -9 ∧ a = lp fo Sx h a2) ∨ (¬ h a2 = -9 ∧ a = μ (c1 + 3) a2)) → Q (.inl a) μ) : qmw (d + 2) 6 [(.inr (.inr (.inl (15)))), (.inr (.inr (.inl (c1)))), (.inl (a2))] μ Q := by
  have hp := pf hc
  obtain ⟨v1, -, -, v4⟩ := v
  have w := v1 (fo a2) hf hf2
  have n1 := nl_ns (fo := fo) (h := h) (i := fo a2)
  have r1 := sh_r (fo := fo) (i := fo a2) hh
  have r2 := nl_r (fo := fo) (h := h) (i := fo a2)
  have s1 := hS2 (fo a2) hf hf2
  have b := v4 a2 h0 h1
  have hb : 0 ≤ a2 ∧ a2 < 10 := by omega
  have hx : 0 ≤ fo a2 ∧ fo a2 < 3 := by omega
  rw [hN _ hf hf2, n1] at w
  rw [e6, g6_0, e3, g3_0]
  refine ⟨fun q => ⟨by decide, ?_⟩, fun q => ⟨by decide, ?_⟩⟩
  · rw [g6_5]
    refine ⟨fun z => absurd rfl z, fun _ => ?_⟩
    simp only [hp, qif_r]
    exact ⟨hb, hQ _ (Or.inr ⟨fun z => q (b.mpr ⟨hf, z⟩), rfl⟩)⟩
  · rw [g6_5, e54]
    refine ⟨fun _ => ⟨hb, fun _ => ?_, fun z => absurd hf (Int.not_le.mpr z)⟩, fun z => absurd z (by decide)⟩
    rw [w.1, w.2, q32_id (z := nl fo h (fo a2) - 1) (by omega) (by omega), q32_id (z := 20 * (nl fo h (fo a2) - 1)) (by omega) (by omega), q32_id (z := Sx (fo a2) - sh fo h (fo a2) - 20 * (nl fo h (fo a2) - 1)) (by omega) (by omega)]
    exact ⟨hx, hx, hQ _ (Or.inl ⟨(b.mp q).2, rfl⟩)⟩
theorem x7 {d : Nat} {Q : qV → qM → Prop} {fo Sx N du told h : Int → Int} {c1 a2 : Int} (hc : isP c1) (h0 : 0 ≤ a2) (h1 : a2 ≤ 9) (e54 : μ 54 a2 = fo a2) (hf : 0 ≤ fo a2) (hf2 : fo a2 ≤ 2) (v : VW μ fo Sx N du told h) (hQ : ∀ a, ((h a2 = -9 ∧ a = mp fo Sx h a2) ∨ (¬ h a2 = -9 ∧ a = μ (c1 + 3) a2)) → Q (.inl a) μ) : qmw (d + 2) 7 [(.inr (.inr (.inl (15)))), (.inr (.inr (.inl (c1)))), (.inl (a2))] μ Q := by
  have hp := pf hc
  obtain ⟨v1, -, -, v4⟩ := v
  have w := v1 (fo a2) hf hf2
  have b := v4 a2 h0 h1
  have hb : 0 ≤ a2 ∧ a2 < 10 := by omega
  have hx : 0 ≤ fo a2 ∧ fo a2 < 3 := by omega
  rw [e7, g7_0, e3, g3_0]
  refine ⟨fun q => ⟨by decide, ?_⟩, fun q => ⟨by decide, ?_⟩⟩
  · rw [g7_5]
    refine ⟨fun z => absurd rfl z, fun _ => ?_⟩
    simp only [hp, qif_r]
    exact ⟨hb, hQ _ (Or.inr ⟨fun z => q (b.mpr ⟨hf, z⟩), rfl⟩)⟩
  · rw [g7_5, e54]
    refine ⟨fun _ => ⟨hb, fun _ => ?_, fun z => absurd hf (Int.not_le.mpr z)⟩, fun z => absurd z (by decide)⟩
    rw [w.1]
    exact ⟨hx, hQ _ (Or.inl ⟨(b.mp q).2, rfl⟩)⟩
/-- the reference's walk over a span -/
theorem k152 {d : Nat} {Q : qV → qM → Prop} {a1 a2 a3 a4 a5 S : Int} {h : Int → Int} (h5 : 0 ≤ a5 ∧ a5 < 18) (hr : 0 ≤ μ 182 a5 ∧ μ 182 a5 ≤ μ 183 a5 ∧ μ 183 a5 ≤ 9) (hh : okH h) (e186 : ∀ f, 0 ≤ f → f ≤ 9 → μ 186 f = h f) (hS : 0 ≤ S ∧ S ≤ 200) (h3 : μ 182 a5 ≤ a3 ∧ a3 ≤ μ 183 a5) (h9 : h a3 = -9) (hQ : ∀ H n, H = smF (fun f => if h f = -9 then 0 else h f) (μ 182 a5) (μ 183 a5 - μ 182 a5 + 1).toNat → n = smF (fun f => if h f = -9 then 1 else 0) (μ 182 a5) (μ 183 a5 - μ 182 a5 + 1).toNat → (¬ a4 = 0 → Q (.inl (qmin 20 (S - H))) μ) ∧ (a4 = 0 → Q (.inl (qmax 0 (S - H - 20 * (n - 1)))) μ)) : qW (d + 1) 152 Q 97 [some (.inr (.inr (.inl (170)))), some (.inl (a1)), some (.inl (a2)), some (.inl (a3)), some (.inl (a4)), some (.inl (a5)), some (.inl (S)), some (.inl (0)), some (.inl (μ 182 a5))] [] μ := by
  refine qup (μ 183 a5 + 1) (P := fun g => ∀ (a6 a7 : Int), μ 182 a5 ≤ g → a6 = S - smF (fun f => if h f = -9 then 0 else h f) (μ 182 a5) (g - μ 182 a5).toNat → ((a3 < g ∧ a7 + 1 = smF (fun f => if h f = -9 then 1 else 0) (μ 182 a5) (g - μ 182 a5).toNat) ∨ (g ≤ a3 ∧ a7 = smF (fun f => if h f = -9 then 1 else 0) (μ 182 a5) (g - μ 182 a5).toNat)) → qW (d + 1) 152 Q 97 [some (.inr (.inr (.inl (170)))), some (.inl (a1)), some (.inl (a2)), some (.inl (a3)), some (.inl (a4)), some (.inl (a5)), some (.inl (a6)), some (.inl (a7)), some (.inl (g))] [] μ) (fun g ih hB a6 a7 hg e6 e7 => ?_) _ (by omega) _ _ (Int.le_refl _) (by rw [Int.sub_self]; exact (Int.sub_zero S).symm) (Or.inr ⟨h3.1, by rw [Int.sub_self]; rfl⟩)
  have b1 := smF_r (g := fun f => if h f = -9 then 1 else 0) (lo := μ 182 a5) (B := 1) (g - μ 182 a5).toNat (fun f' _ _ => by split <;> omega)
  have b2 := smF_r (g := fun f => if h f = -9 then 0 else h f) (lo := μ 182 a5) (B := 20) (g - μ 182 a5).toNat (fun f' k1 k2 => by
    have := hh f' (by omega) (by omega)
    split <;> omega)
  rw [g152_97]
  refine ⟨h5, fun q => ?_, fun q => ?_⟩
  · clear ih
    have eg : g - μ 182 a5 = μ 183 a5 - μ 182 a5 + 1 := by omega
    rw [eg] at e6 e7 b1 b2
    have e7' : a7 + 1 = smF (fun f => if h f = -9 then 1 else 0) (μ 182 a5) (μ 183 a5 - μ 182 a5 + 1).toNat := by
      rcases e7 with e7 | e7
      · exact e7.2
      · omega
    have z := hQ _ _ rfl e7'
    rw [← e6] at z
    refine ⟨fun q2 => ?_, fun q2 => ?_⟩
    · have y := z.1 q2
      unfold qmin at y
      refine ⟨fun q3 => ?_, fun q3 => ?_⟩
      · rw [if_neg (by omega)] at y
        exact y
      · rw [if_pos q3] at y
        exact y
    · have y := z.2 q2
      have e : a6 - 20 * (a7 + 1 - 1) = a6 - 20 * a7 := by omega
      rw [e] at y
      rw [E142, g152_187, over_q, q32_id (z := 20 * a7) (by omega) (by omega), q32_id (z := a6 - 20 * a7) (by omega) (by omega)]
      exact y
  · have hb : 0 ≤ g ∧ g < 10 := by omega
    have et : (g + 1 - μ 182 a5).toNat = (g - μ 182 a5).toNat + 1 := by omega
    have el : μ 182 a5 + (((g - μ 182 a5).toNat : Nat) : Int) = g := by omega
    have st := fun (a6' a7' : Int) (z1 : a6' = S - (smF (fun f => if h f = -9 then 0 else h f) (μ 182 a5) (g - μ 182 a5).toNat + (if h g = -9 then 0 else h g))) (z2 : (a3 < g + 1 ∧ a7' + 1 = smF (fun f => if h f = -9 then 1 else 0) (μ 182 a5) (g - μ 182 a5).toNat + (if h g = -9 then 1 else 0)) ∨ (g + 1 ≤ a3 ∧ a7' = smF (fun f => if h f = -9 then 1 else 0) (μ 182 a5) (g - μ 182 a5).toNat + (if h g = -9 then 1 else 0))) => ih (g + 1) (by omega) (by omega) a6' a7' (by omega) (by rw [et, smF, el]; exact z1) (by rw [et, smF, el]; exact z2)
    clear ih
    rw [e186 g (by omega) (by omega)]
    have hg9 := hh g (by omega) (by omega)
    refine ⟨hb, fun q2 => ⟨hb, hb, fun _ => ?_, fun z => absurd z q2⟩, fun q2 => ⟨hb, fun z => absurd q2 z, fun _ => ⟨fun q3 => ?_, fun q3 => ?_⟩⟩⟩
    · rw [q32_id (z := a6 - h g) (by omega) (by omega), q32_id (z := a7 + 0) (by omega) (by omega), q32_id (z := g + 1) (by omega) (by omega)]
      rw [if_neg q2, if_neg q2] at st
      refine st _ _ (by omega) ?_
      have ne : ¬ g = a3 := fun e => q2 (by rw [e]; exact h9)
      omega
    · rw [q32_id (z := a6 - 0) (by omega) (by omega), q32_id (z := a7 + 0) (by omega) (by omega), q32_id (z := g + 1) (by omega) (by omega)]
      rw [if_pos q2, if_pos q2] at st
      exact st _ _ (by omega) (by omega)
    · rw [q32_id (z := a6 - 0) (by omega) (by omega), q32_id (z := a7 + 1) (by omega) (by omega), q32_id (z := g + 1) (by omega) (by omega)]
      rw [if_pos q2, if_pos q2] at st
      exact st _ _ (by omega) (by omega)
def SPv (μ : qM) (p day f w : Int) : Int := if FoC μ p day f < 0 then -2 else if ¬ hC μ (74 + 11 * p) day f = -9 then hC μ (74 + 11 * p) day f else if w = 0 then lp (FoC μ p day) (SxC μ (74 + 11 * p) day) (hC μ (74 + 11 * p) day) f else mp (FoC μ p day) (SxC μ (74 + 11 * p) day) (hC μ (74 + 11 * p) day) f
theorem SPv_sv {μ μ1 : qM} (hm : Sv μ μ1) {p day f w : Int} (h0 : 0 ≤ p) (h1 : p ≤ 5) : SPv μ1 p day f w = SPv μ p day f w := by
  have cf := CF hm (p := p) (day := day) h0 h1
  have e1 : FoC μ1 p day = FoC μ p day := cf.1
  unfold SPv
  rw [e1, cf.2.1, cf.2.2.1]
theorem SxC_r (hR : RSpan μ) {p day : Int} (h0 : 0 ≤ p) (h1 : p ≤ 5) : ∀ i, 0 ≤ i → i ≤ 2 → 0 ≤ SxC μ (74 + 11 * p) day i ∧ SxC μ (74 + 11 * p) day i ≤ 200 := fun i q1 q2 => by
  unfold SxC
  by_cases q : i < μ (74 + 11 * p) 10 ∧ μ (74 + 11 * p + 8) i ≤ day
  · have z := (hR p h0 h1).1 i q1 q.1
    rw [if_pos q]
    omega
  · rw [if_neg q]
    omega
/-- sums over a span are sums over the fortnights of a firm -/
theorem in_sp {fo h : Int → Int} {i F T : Int} (h0 : 0 ≤ F) (h1 : F ≤ T) (h2 : T ≤ 9) (hi : ∀ f, 0 ≤ f → f ≤ 9 → (fo f = i ↔ (F ≤ f ∧ f ≤ T))) : sh fo h i = smF (fun f => if h f = -9 then 0 else h f) F (T - F + 1).toNat ∧ nl fo h i = smF (fun f => if h f = -9 then 1 else 0) F (T - F + 1).toNat := by
  have ein : ∀ x : Int → Int, smF (fun f => if fo f = i then x f else 0) 0 10 = smF x F (T - F + 1).toNat := fun x => by
    rw [← smF_in h0 h1 h2]
    refine smF_cg _ (fun f k1 k2 => ?_)
    have z := hi f k1 (by omega)
    by_cases k3 : fo f = i
    · rw [if_pos k3, if_pos (z.mp k3)]
    · rw [if_neg k3, if_neg (fun y => k3 (z.mpr y))]
  refine ⟨?_, ?_⟩
  · rw [← ein]
    refine smF_cg _ (fun f k1 k2 => ?_)
    by_cases k3 : fo f = i
    · by_cases k4 : h f = -9
      · rw [if_neg (fun y => y.2 k4), if_pos k3, if_pos k4]
      · rw [if_pos ⟨k3, k4⟩, if_pos k3, if_neg k4]
    · rw [if_neg (fun y => k3 y.1), if_neg k3]
  · rw [← ein]
    refine smF_cg _ (fun f k1 k2 => ?_)
    by_cases k3 : fo f = i
    · by_cases k4 : h f = -9
      · rw [if_pos ⟨k3, k4⟩, if_pos k3, if_pos k4]
      · rw [if_neg (fun y => k4 y.2), if_pos k3, if_neg k4]
    · rw [if_neg (fun y => k3 y.1), if_neg k3]
theorem Fo_r (hS : Safe μ) {p f day : Int} (h0 : 0 ≤ p) (h1 : p ≤ 5) : -1 ≤ FoC μ p day f ∧ FoC μ p day f < μ (74 + 11 * p) 10 ∧ FoC μ p day f ≤ 2 := fo_r hS h0 h1
/-- the reference's firmOf -/
theorem y136 {d : Nat} {Q : qV → qM → Prop} {μ0 : qM} {a1 a2 a3 : Int} (hm : Sm μ0 μ) (h : RC μ0) (h0 : 0 ≤ a1) (h1 : a1 ≤ 5) (hQ : ∀ a, ((FoC μ0 a1 a3 a2 = -1 ∧ a = -9) ∨ (0 ≤ FoC μ0 a1 a3 a2 ∧ a = 3 * a1 + FoC μ0 a1 a3 a2)) → Q (.inl a) μ) : qmw (d + 2) 136 [(.inr (.inr (.inl (170)))), (.inl (a1)), (.inl (a2)), (.inl (a3))] μ Q := by
  refine x136 hm.1 h0 (by omega) (hQ _ ?_)
  have hc1 := RC_sm h hm
  have e : mfw μ a1 a2 a3 = FoC μ a1 a3 a2 := (RFirm_fw hc1.2.2.1 h0 h1).symm
  have k : ∀ j i, 0 ≤ j → j ≤ 10 → μ (74 + 11 * a1 + j) i = μ0 (74 + 11 * a1 + j) i := fun j i _ _ => hm.2 _ _ (by omega)
  have e2 : FoC μ a1 a3 = FoC μ0 a1 a3 := (foC_fr (day := a3) k).1
  have r := Fo_r h.1 (f := a2) (day := a3) h0 h1
  rw [e, e2]
  by_cases q : FoC μ0 a1 a3 a2 = -1
  · rw [if_pos q]
    exact Or.inl ⟨q, rfl⟩
  · rw [if_neg q]
    exact Or.inr ⟨by omega, rfl⟩
theorem q86 {a1 a2 a3 a4 : Int} (h : RC μ) : PE (Qr μ) 86 152 [(.inl (a1)), (.inl (a2)), (.inl (a3)), (.inl (a4))] μ := by
  have hm0 : ∀ {μ1 : qM}, RC μ1 → qmw 20 152 [(.inr (.inr (.inl (170)))), (.inl (a1)), (.inl (a2)), (.inl (a3)), (.inl (a4))] μ1 (fun w μ2 => ((0 ≤ a1 ∧ a1 ≤ 5 ∧ 0 ≤ a2 ∧ a2 ≤ 200 ∧ 0 ≤ a3 ∧ a3 ≤ 9 ∧ 0 ≤ a4 ∧ a4 ≤ 1) ∧ w = .inl (SPv μ1 a1 a2 a3 a4) ∧ Sm μ1 μ2) ∨ (¬ (0 ≤ a1 ∧ a1 ≤ 5 ∧ 0 ≤ a2 ∧ a2 ≤ 200 ∧ 0 ≤ a3 ∧ a3 ≤ 9 ∧ 0 ≤ a4 ∧ a4 ≤ 1) ∧ w = .inl (-1) ∧ μ2 = μ1)) := fun {μ1} hc => by
    rw [e152, g152_0, E133, g152_4, qbr2]
    simp only [E130, E134, E117, g152_11, g152_18, g152_28, qbr2, qbr]
    refine ⟨fun q => Or.inr ⟨by omega, by first | rfl | trivial, by first | rfl | trivial⟩, fun q => ⟨fun q2 => Or.inr ⟨by omega, by first | rfl | trivial, by first | rfl | trivial⟩, fun q2 => ⟨fun q3 => Or.inr ⟨by omega, by first | rfl | trivial, by first | rfl | trivial⟩, fun q3 => ⟨fun q4 => ?_, fun q4 => Or.inr ⟨by omega, by first | rfl | trivial, by first | rfl | trivial⟩⟩⟩⟩⟩
    have ok : 0 ≤ a1 ∧ a1 ≤ 5 ∧ 0 ≤ a2 ∧ a2 ≤ 200 ∧ 0 ≤ a3 ∧ a3 ≤ 9 ∧ 0 ≤ a4 ∧ a4 ≤ 1 := ⟨q.1, q.2, q2.1, q2.2, q3.1, q3.2, q4.1, q4.2⟩
    refine y136 (Sm_rf hc.1) hc q.1 q.2 (fun a ha => ?_)
    have r := Fo_r hc.1 (f := a3) (day := a2) q.1 q.2
    rw [g152_40]
    rcases ha with ⟨u1, u2⟩ | ⟨u1, u2⟩
    · refine ⟨fun z => absurd u2 z, fun _ => Or.inl ⟨ok, ?_, Sm_rf hc.1⟩⟩
      unfold SPv
      rw [u1, if_pos (by decide)]
    · refine ⟨fun _ => ?_, fun z => by omega⟩
      have np : ¬ FoC μ1 a1 a2 a3 < 0 := by omega
      refine y138 (Sm_rf hc.1) hc q.1 q.2 (fun μ2 s1 s2 s3 => ?_)
      obtain ⟨hS, hP, hF, hL, hR, hC', hU, hT⟩ := hc
      have hcp : isP (74 + 11 * a1) := ⟨a1, q.1, by omega, rfl⟩
      have hit := fo_hit hS q.1 q.2 u1
      have sp := okS_of hS hF hR (day := a2) q.1 q.2 (FoC μ1 a1 a2 a3) u1
      have z := hF a1 q.1 q.2
      have y := z.2 (FoC μ1 a1 a2 a3) u1 r.2.2
      have sp2 := sp (by rw [← z.1]; exact hit.1) (by rw [← y.2.2.2]; exact hit.2.1)
      rw [foM_C hF q.1 q.2] at sp2
      have eS : SxC μ1 (74 + 11 * a1) a2 (FoC μ1 a1 a2 a3) = μ1 184 (3 * a1 + FoC μ1 a1 a2 a3) := by
        unfold SxC
        rw [if_pos ⟨hit.1, hit.2.1⟩]
        exact y.2.2.1
      have sr := SxC_r hR (day := a2) q.1 q.2 (FoC μ1 a1 a2 a3) u1 r.2.2
      have sums := in_sp (h := hC μ1 (74 + 11 * a1) a2) sp2.1.1 sp2.1.2.1 sp2.1.2.2 sp2.2
      rw [u2, g152_58, s3 a3 q3.1 q3.2]
      have h18 : 0 ≤ 3 * a1 + FoC μ1 a1 a2 a3 ∧ 3 * a1 + FoC μ1 a1 a2 a3 < 18 := by omega
      refine ⟨by omega, fun q5 => ⟨h18, h18, ?_⟩, fun q5 => ⟨by omega, Or.inl ⟨ok, ?_, s1⟩⟩⟩
      · have e182 : μ2 182 (3 * a1 + FoC μ1 a1 a2 a3) = μ1 182 (3 * a1 + FoC μ1 a1 a2 a3) := s1.2 _ _ (by omega)
        have e183 : μ2 183 (3 * a1 + FoC μ1 a1 a2 a3) = μ1 183 (3 * a1 + FoC μ1 a1 a2 a3) := s1.2 _ _ (by omega)
        have e184 : μ2 184 (3 * a1 + FoC μ1 a1 a2 a3) = μ1 184 (3 * a1 + FoC μ1 a1 a2 a3) := s1.2 _ _ (by omega)
        rw [e184, ← eS]
        refine k152 (h := hC μ1 (74 + 11 * a1) a2) h18 (by rw [e182, e183]; exact sp2.1) (hC_ok hS hcp) s3 sr (by rw [e182, e183]; exact (sp2.2 a3 q3.1 q3.2).mp rfl) q5 (fun H n eH en => ?_)
        rw [e182, e183, ← sums.1] at eH
        rw [e182, e183, ← sums.2] at en
        rw [eH, en]
        refine ⟨fun q6 => Or.inl ⟨ok, ?_, s1⟩, fun q6 => Or.inl ⟨ok, ?_, s1⟩⟩
        · unfold SPv
          rw [if_neg np, if_neg (fun z => z q5), if_neg q6]
          rfl
        · unfold SPv
          rw [if_neg np, if_neg (fun z => z q5), if_pos q6]
          rfl
      · unfold SPv
        rw [if_neg np, if_pos q5]
  have no : ¬ (0 ≤ a1 ∧ a1 ≤ 5 ∧ 0 ≤ a2 ∧ a2 ≤ 200 ∧ 0 ≤ a3 ∧ a3 ≤ 9 ∧ 0 ≤ a4 ∧ a4 ≤ 1) → ∃ a : Int, (.inl (-1) : qV) = .inl a ∧ qmw 20 152 [(.inr (.inr (.inl (170)))), (.inl (a1)), (.inl (a2)), (.inl (a3)), (.inl (a4))] μ (fun w μ2 => w = .inl a ∧ Qr μ μ2) := fun q => ⟨_, rfl, qmw_cm 20 _ _ _ _ _ (fun w μ2 z => by
    rcases z with ⟨z, -⟩ | ⟨-, z2, z3⟩
    · exact absurd z q
    · rw [z3]
      exact ⟨z2, Qr_rf h⟩) (hm0 h)⟩
  unfold PE
  rw [e86, g86_0, E105, g86_4, qbr]
  simp only [E104, E106, g86_15, g86_22, g86_32, qbr2, qbr]
  refine ⟨fun q => no (by omega), fun q => ⟨fun q2 => no (by omega), fun q2 => ⟨fun q3 => no (by omega), fun q3 => ⟨fun q4 => y108 h (by omega) (by omega) (fun μ1 lk ht => ?_), fun q4 => no (by omega)⟩⟩⟩⟩
  clear no
  have h0 : 0 ≤ a1 := by omega
  have h1 : a1 ≤ 5 := by omega
  have hcp : isP (74 + 11 * a1) := ⟨a1, h0, by omega, rfl⟩
  have r := Fo_r h.1 (f := a3) (day := a2) h0 h1
  have fin : ∀ a : Int, a = SPv μ a1 a2 a3 a4 → ∃ b : Int, (.inl a : qV) = .inl b ∧ qmw 20 152 [(.inr (.inr (.inl (170)))), (.inl (a1)), (.inl (a2)), (.inl (a3)), (.inl (a4))] μ1 (fun w μ2 => w = .inl b ∧ Qr μ μ2) := fun a ea => ⟨_, rfl, qmw_cm 20 _ _ _ _ _ (fun w μ2 z => by
    rcases z with ⟨-, z2, z3⟩ | ⟨z, -⟩
    · rw [SPv_sv lk.1 h0 h1, ← ea] at z2
      exact ⟨z2, Qr_of lk.1 ht z3⟩
    · omega) (hm0 (RC_sv h lk.1 ht))⟩
  clear hm0
  have e54 := lk.2.2.1 a3 (by omega) (by omega)
  have hN : ∀ i, 0 ≤ i → i ≤ 2 → NC μ (74 + 11 * a1) a2 i = nf (foC μ (74 + 11 * a1) a2) i := fun i q1 q2 => NC_nf h.1 h.2.2.2.2.1 h0 h1 q1
  have e3 : μ1 (74 + 11 * a1 + 3) a3 = μ (74 + 11 * a1 + 3) a3 := lk.1.2 _ _ (by omega)
  have hv : ¬ hC μ (74 + 11 * a1) a2 a3 = -9 → hC μ (74 + 11 * a1) a2 a3 = μ (74 + 11 * a1 + 3) a3 := fun z => by
    unfold hC at z ⊢
    by_cases y : 0 ≤ foC μ (74 + 11 * a1) a2 a3 ∧ 0 ≤ μ (74 + 11 * a1 + 3) a3 ∧ μ (74 + 11 * a1 + 4) a3 ≤ a2
    · rw [if_pos y]
    · rw [if_neg y] at z
      exact absurd rfl z
  rw [g86_43, E2 (by omega) (by omega), g86_51, qbr, e54, qra57 h0 (by omega)]
  refine ⟨fun q5 => ⟨by omega, fun q6 => ?_, fun q6 => ?_⟩, fun q5 => fin _ ?_⟩
  · refine x7 hcp (by omega) (by omega) e54 q5 r.2.2 lk.2.2.2 (fun a ha => ?_)
    rw [g86_93]
    refine fin a ?_
    unfold SPv
    rw [if_neg (show ¬ FoC μ a1 a2 a3 < 0 from Int.not_lt.mpr q5)]
    rcases ha with ⟨u1, u2⟩ | ⟨u1, u2⟩
    · rw [if_neg (fun z => z u1), if_neg q6]
      exact u2
    · rw [if_pos u1, hv u1, u2, e3]
  · refine x6 hcp (by omega) (by omega) e54 q5 r.2.2 lk.2.2.2 hN (hC_ok h.1 hcp) (SxC_r h.2.2.2.2.1 h0 h1) (fun a ha => ?_)
    rw [g86_80, g86_93]
    refine fin a ?_
    unfold SPv
    rw [if_neg (show ¬ FoC μ a1 a2 a3 < 0 from Int.not_lt.mpr q5)]
    rcases ha with ⟨u1, u2⟩ | ⟨u1, u2⟩
    · rw [if_neg (fun z => z u1), if_pos q6]
      exact u2
    · rw [if_pos u1, hv u1, u2, e3]
  · unfold SPv
    rw [if_pos (show FoC μ a1 a2 a3 < 0 from Int.not_le.mp q5)]
end SP5
