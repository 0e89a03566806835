/-! THE VIEW: a look at a person as of a day -/
def foC (μ : qM) (c day : Int) : Int → Int := fun f => cfw μ c f day
def SxC (μ : qM) (c day : Int) : Int → Int := fun i => if i < μ c 10 ∧ μ (c + 8) i ≤ day then μ (c + 7) i else 0
def NC (μ : qM) (c day : Int) : Int → Int := fun i => if i < μ c 10 ∧ μ (c + 8) i ≤ day then μ (c + 6) i - μ (c + 5) i + 1 else 0
def hC (μ : qM) (c day : Int) : Int → Int := fun f => if 0 ≤ foC μ c day f ∧ 0 ≤ μ (c + 3) f ∧ μ (c + 4) f ≤ day then μ (c + 3) f else -9
theorem VW_cg {μ : qM} {fo fo' Sx Sx' N N' du du' told told' h h' : Int → Int} (v : VW μ fo Sx N du told h) (k1 : ∀ f, 0 ≤ f → f ≤ 9 → fo f = fo' f) (k2 : ∀ f, 0 ≤ f → f ≤ 9 → h f = h' f) (k3 : ∀ i, 0 ≤ i → i ≤ 2 → Sx i = Sx' i ∧ N i = N' i) (k4 : ∀ p, 0 ≤ p → p ≤ 20 → du p = du' p) (k5 : ∀ f, 0 ≤ f → f ≤ 9 → told f = told' f ∧ 0 ≤ told f ∧ told f ≤ 20) (hh : okH h) : VW μ fo' Sx' N' du' told' h' := by
  obtain ⟨v1, v2, v3, v4⟩ := v
  refine ⟨fun i q1 q2 => ?_, ?_, ?_, fun f q1 q2 => ?_⟩
  · have e1 : sh fo' h' i = sh fo h i := smF_cg _ (fun f z1 z2 => by rw [← k1 f z1 (by omega), ← k2 f z1 (by omega)])
    have e2 : ns fo' h' i = ns fo h i := smF_cg _ (fun f z1 z2 => by rw [← k1 f z1 (by omega), ← k2 f z1 (by omega)])
    rw [e1, e2, ← (k3 i q1 q2).1, ← (k3 i q1 q2).2]
    exact v1 i q1 q2
  · rw [v2]
    refine smF_cg _ (fun f z1 z2 => ?_)
    have t := k5 f z1 (by omega)
    rw [k1 f z1 (by omega), ← t.1, k4 _ t.2.1 t.2.2]
  · rw [v3]
    refine smF_cg _ (fun f z1 z2 => ?_)
    have t := hh f z1 (by omega)
    rw [← k1 f z1 (by omega), ← k2 f z1 (by omega)]
    by_cases q : 0 ≤ fo f ∧ ¬ h f = -9
    · rw [if_pos q, if_pos q, k4 _ (by omega) (by omega)]
    · rw [if_neg q, if_neg q]
  · rw [← k1 f q1 q2, ← k2 f q1 q2]
    exact v4 f q1 q2
/-- a fortnight comes in -/
theorem VW_en {μ : qM} {fo Sx N du told h : Int → Int} {j v : Int} (w : VW μ fo Sx N du told h) (h0 : 0 ≤ j) (h1 : j ≤ 9) (hv : 0 ≤ v) (h9 : h j = -9) (hf : fo j = -1) : VW (qu (qu μ 15 5 (pd fo du told + du (told j))) 15 4 (qior (μ 15 4) (qshl 1 j))) (hup fo j v) Sx N du told h := by
  obtain ⟨v1, v2, v3, v4⟩ := w
  refine ⟨fun i q1 q2 => ?_, ?_, ?_, fun f q1 q2 => ?_⟩
  · have e1 : sh (hup fo j v) h i = sh fo h i := smF_cg _ (fun f z1 z2 => by
      by_cases q : f = j
      · rw [q, h9, if_neg (fun z => z.2 rfl), if_neg (fun z => z.2 rfl)]
      · rw [hup_n q])
    have e2 : ns (hup fo j v) h i = ns fo h i := smF_cg _ (fun f z1 z2 => by
      by_cases q : f = j
      · rw [q, h9, if_neg (fun z => z.2 rfl), if_neg (fun z => z.2 rfl)]
      · rw [hup_n q])
    rw [e1, e2, qu_cell (by decide), qu_cell (by decide), qu_cell (by decide), qu_cell (by decide)]
    exact v1 i q1 q2
  · rw [qu_ne (by omega), qu_same]
    unfold pd
    rw [smF_1 (j := j) (g := fun f => if 0 ≤ fo f then du (told f) else 0) (g' := fun f => if 0 ≤ hup fo j v f then du (told f) else 0) h0 h1 (fun f q => by rw [hup_n q])]
    rw [hup_s, hf, if_pos hv, if_neg (by decide)]
    omega
  · rw [qu_ne (by omega), qu_ne (by omega), v3]
    refine smF_cg _ (fun f z1 z2 => ?_)
    by_cases q : f = j
    · rw [q, h9, if_neg (fun z => z.2 rfl), if_neg (fun z => z.2 rfl)]
    · rw [hup_n q]
  · rw [qu_same, bit_set h0 h1 q1 q2, v4 f q1 q2]
    by_cases q : f = j
    · subst q
      rw [hup_s, h9]
      exact ⟨fun _ => ⟨hv, rfl⟩, fun _ => Or.inr rfl⟩
    · rw [hup_n q]
      exact ⟨fun z => z.resolve_right q, fun z => Or.inl z⟩
theorem x45 {d : Nat} {Q : qV → qM → Prop} {μ : qM} {c0 a1 a2 : Int} (hc : isP c0) (h0 : 0 ≤ a1) (h1 : a1 ≤ 9) (hQ : ∀ a, ((0 ≤ μ (c0 + 3) a1 ∧ μ (c0 + 4) a1 ≤ a2) ∧ a = 1) ∨ (¬ (0 ≤ μ (c0 + 3) a1 ∧ μ (c0 + 4) a1 ≤ a2) ∧ a = 0) → Q (.inl a) μ) : qmw (d + 1) 45 [(.inr (.inr (.inl (c0)))), (.inl (a1)), (.inl (a2))] μ Q := by
  have hp := pf hc
  have hb : 0 ≤ a1 ∧ a1 < 10 := by omega
  rw [e45 hp.1, g45_0]
  simp only [hp, qif_r, qb11, qb00, true_and]
  clear hp
  exact ⟨hb, fun q => hQ _ (Or.inr ⟨fun z => absurd z.1 (Int.not_le.mpr q), rfl⟩), fun q => ⟨hb, fun q2 => hQ _ (Or.inr ⟨fun z => absurd z.2 (Int.not_le.mpr q2), rfl⟩), fun q2 => hQ _ (Or.inl ⟨⟨q, q2⟩, rfl⟩)⟩⟩
theorem cfw_sv {μ0 μ : qM} (h : Sv μ0 μ) {c : Int} (hc : isP c) (f day : Int) : cfw μ c f day = cfw μ0 c f day := by
  obtain ⟨p, h0, h1, rfl⟩ := hc
  unfold cfw
  rw [h.2 _ 10 (by omega)]
  exact fw_cg (fun i _ _ => h.2 _ _ (by omega)) (fun i _ _ => h.2 _ _ (by omega)) (fun i _ _ => h.2 _ _ (by omega))
def okP (μ : qM) (c : Int) : Prop := (∀ f, 0 ≤ f → f ≤ 9 → 0 ≤ μ (c + 1) f ∧ μ (c + 1) f ≤ 20) ∧ (∀ i, 0 ≤ i → i < μ c 10 → (0 ≤ μ (c + 5) i ∧ μ (c + 5) i ≤ μ (c + 6) i ∧ μ (c + 6) i ≤ 9) ∧ 0 ≤ μ (c + 7) i ∧ μ (c + 7) i ≤ 200)
theorem hC_ok {μ : qM} (hS : Safe μ) {c day : Int} (hc : isP c) : okH (hC μ c day) := fun f q1 q2 => by
  have := sa_sp hS hc f
  unfold hC
  split
  · omega
  · exact Or.inl rfl
theorem x1 {μ0 : qM} {d : Nat} {Q : qV → qM → Prop} {μ : qM} {c1 a2 : Int} (h : Sv μ0 μ) (hc : isP c1) (ok : okP μ0 c1) (hd : okD (μ 17)) (hQ : ∀ μ', Sv μ0 μ' → (∀ c i, ¬ c = 15 → ¬ (54 ≤ c ∧ c ≤ 56) → μ' c i = μ c i) → (∀ f, 0 ≤ f → f ≤ 9 → μ' 54 f = foC μ0 c1 a2 f) → VW μ' (foC μ0 c1 a2) (SxC μ0 c1 a2) (NC μ0 c1 a2) (μ 17) (μ0 (c1 + 1)) (hC μ0 c1 a2) → Q (.inl 0) μ') : qmw (d + 4) 1 [(.inr (.inr (.inl (15)))), (.inr (.inr (.inl (c1)))), (.inl (a2))] μ Q := by
  have hp := pf hc
  obtain ⟨p, hp0, hp1, hpe⟩ := id hc
  have fro : ∀ {ν : qM}, Sv μ0 ν → ∀ k i, 0 ≤ k → k ≤ 10 → ν (c1 + k) i = μ0 (c1 + k) i := fun hm k i q1 q2 => hm.2 _ _ (by omega)
  have hS0 : ∀ i, 0 ≤ i → i ≤ 2 → 0 ≤ SxC μ0 c1 a2 i ∧ SxC μ0 c1 a2 i ≤ 200 := fun i q1 q2 => by
    unfold SxC
    split
    · rename_i z
      exact (ok.2 i q1 z.1).2
    · exact ⟨by decide, by decide⟩
  have hN0 : ∀ i, 0 ≤ i → i ≤ 2 → 0 ≤ NC μ0 c1 a2 i ∧ NC μ0 c1 a2 i ≤ 10 := fun i q1 q2 => by
    unfold NC
    split
    · rename_i z
      have := (ok.2 i q1 z.1).1
      omega
    · exact ⟨by decide, by decide⟩
  have h2 : Sv μ0 (qu (qu (qu μ 15 4 0) 15 5 0) 15 6 0) := by
    refine Sv_u ?_ (by omega) (by omega) (by intros; omega) (by intros; omega) (by intros; omega)
    refine Sv_u ?_ (by omega) (by omega) (by intros; omega) (by intros; omega) (by intros; omega)
    refine Sv_u ?_ (by omega) (by omega) (by intros; omega) (by intros; omega) (by intros; omega)
    exact h
  have hf0 := sa_firms h.1 hc
  have e10 : ∀ {ν : qM}, Sv μ0 ν → ν c1 10 = μ0 c1 10 := fun hm => by
    have := fro hm 0 10 (by decide) (by decide)
    rw [Int.add_zero] at this
    exact this
  rw [e10 h] at hf0
  have hfr : ∀ f day, -1 ≤ cfw μ0 c1 f day ∧ cfw μ0 c1 f day < μ0 c1 10 ∧ cfw μ0 c1 f day ≤ 2 := fun f day => fw_r hf0.2 hf0.1
  have hsp : ∀ f, -1 ≤ μ0 (c1 + 3) f ∧ μ0 (c1 + 3) f ≤ 20 := fun f => by
    have := sa_sp h.1 hc f
    rw [fro h 3 f (by decide) (by decide)] at this
    exact this
  have hHok : okH (hC μ0 c1 a2) := fun f q1 q2 => by
    have := hsp f
    unfold hC
    split
    · omega
    · exact Or.inl rfl
  rw [e1, g1_0]
  -- the second loop
  have l2 : ∀ j, j ≤ 10 → ∀ (o4 : Option qV) (ν : qM), 0 ≤ j → Sv μ0 ν → (∀ c i, ¬ c = 15 → ¬ (54 ≤ c ∧ c ≤ 56) → ν c i = μ c i) → (∀ f, 0 ≤ f → f < j → ν 54 f = foC μ0 c1 a2 f) → VW ν (fun f => if f < j then foC μ0 c1 a2 f else -1) (SxC μ0 c1 a2) (NC μ0 c1 a2) (μ 17) (μ0 (c1 + 1)) (fun f => if f < j then hC μ0 c1 a2 f else -9) → qW (d + 3) 1 Q 106 [some (.inr (.inr (.inl (15)))), some (.inr (.inr (.inl (c1)))), some (.inl (a2)), some (.inl (j)), o4] [] ν := by
    refine qup 10 (fun j ih hB o4 ν h0 hm fr e54 vw => ?_)
    rw [g1_106]
    refine ⟨fun q => ?_, fun q => x44 hm.1 hc ?_⟩
    · have : j = 10 := by omega
      subst this
      refine hQ _ hm fr (fun f q1 q2 => e54 f q1 (by omega)) (VW_cg vw (fun f q1 q2 => if_pos (by omega)) (fun f q1 q2 => if_pos (by omega)) (fun _ _ _ => ⟨rfl, rfl⟩) (fun _ _ _ => rfl) (fun f q1 q2 => ⟨rfl, ok.1 f q1 q2⟩) (fun f q1 q2 => ?_))
      show (if f < 10 then hC μ0 c1 a2 f else -9) = -9 ∨ _
      rw [if_pos (by omega)]
      exact hHok f q1 q2
    · rw [cfw_sv hm hc]
      have hr := hfr j a2
      have hok : okH (fun f => if f < j then hC μ0 c1 a2 f else -9) := fun f q1 q2 => by
        show (if f < j then hC μ0 c1 a2 f else -9) = -9 ∨ (0 ≤ (if f < j then hC μ0 c1 a2 f else -9) ∧ (if f < j then hC μ0 c1 a2 f else -9) ≤ 20)
        split
        · exact hHok f q1 q2
        · exact Or.inl rfl
      have e9 : (fun f => if f < j then hC μ0 c1 a2 f else -9) j = -9 := if_neg (by omega)
      have ef : (fun f => if f < j then foC μ0 c1 a2 f else -1) j = -1 := if_neg (by omega)
      have hm1 : Sv μ0 (qu ν 54 j (cfw μ0 c1 j a2)) := by
        refine Sv_u hm (by omega) (by omega) (by intros; omega) (by intros; omega) (by intros; omega)
      have e541 : ∀ f, 0 ≤ f → f < j + 1 → (qu ν 54 j (cfw μ0 c1 j a2)) 54 f = foC μ0 c1 a2 f := fun f q1 q2 => by
        by_cases q3 : f = j
        · rw [q3, qu_same]
          rfl
        · rw [qu_ne (by omega)]
          exact e54 f q1 (by omega)
      have vw1 : VW (qu ν 54 j (cfw μ0 c1 j a2)) (fun f => if f < j then foC μ0 c1 a2 f else -1) (SxC μ0 c1 a2) (NC μ0 c1 a2) (μ 17) (μ0 (c1 + 1)) (fun f => if f < j then hC μ0 c1 a2 f else -9) := VW_fr vw (fun c i q => qu_cell (by omega) _)
      rw [g1_123, qu_same]
      refine ⟨by omega, by omega, fun qn => ?_, fun qp => ?_⟩
      · rw [g1_187, q32_id (by omega) (by omega)]
        refine ih _ (by omega) (by omega) _ _ (by omega) hm1 (fun c i q1 q2 => by rw [qu_cell (by omega)]; exact fr c i q1 q2) e541 (VW_cg vw1 (fun f q1 q2 => ?_) (fun f q1 q2 => ?_) (fun _ _ _ => ⟨rfl, rfl⟩) (fun _ _ _ => rfl) (fun f q1 q2 => ⟨rfl, ok.1 f q1 q2⟩) hok)
        · by_cases q3 : f = j
          · rw [q3, if_neg (by omega), if_pos (by omega)]
            show -1 = cfw μ0 c1 j a2
            omega
          · by_cases q4 : f < j
            · rw [if_pos q4, if_pos (by omega)]
            · rw [if_neg q4, if_neg (by omega)]
        · by_cases q3 : f = j
          · rw [q3, if_neg (by omega), if_pos (by omega)]
            unfold hC
            rw [if_neg (fun z => absurd z.1 (Int.not_le.mpr qn))]
          · by_cases q4 : f < j
            · rw [if_pos q4, if_pos (by omega)]
            · rw [if_neg q4, if_neg (by omega)]
      · have et : (qu ν 54 j (cfw μ0 c1 j a2)) (c1 + 1) j = μ0 (c1 + 1) j := fro hm1 1 j (by decide) (by decide)
        have htj := ok.1 j h0 (by omega)
        have e17 : (qu ν 54 j (cfw μ0 c1 j a2)) 17 (μ0 (c1 + 1) j) = μ 17 (μ0 (c1 + 1) j) := by
          rw [qu_cell (by decide)]
          exact fr _ _ (by decide) (by decide)
        have hdj := hd (μ0 (c1 + 1) j) htj.1 htj.2
        have hpd := pd_r (fo := fun f => if f < j then foC μ0 c1 a2 f else -1) (told := μ0 (c1 + 1)) ok.1 hd
        have hl := sa_ls hm1.1
        have e15 : (qu ν 54 j (cfw μ0 c1 j a2)) 15 4 = ν 15 4 := qu_cell (by decide) _
        have hb := qset1 (a := ν 15 4) (f := j) (by omega) (by omega) h0 (by omega)
        have vw2 := VW_en (v := cfw μ0 c1 j a2) vw1 h0 (by omega) qp e9 ef
        rw [e15] at vw2
        simp only [hp, qif_r]
        refine ⟨by omega, ?_⟩
        rw [E65, g1_151, et, if_neg (by omega), e17, e15, vw.2.1, q32_id (by omega) (by omega)]
        have hm2 : Sv μ0 (qu (qu (qu ν 54 j (cfw μ0 c1 j a2)) 15 5 (pd (fun f => if f < j then foC μ0 c1 a2 f else -1) (μ 17) (μ0 (c1 + 1)) + μ 17 (μ0 (c1 + 1) j))) 15 4 (qior (ν 15 4) (qshl 1 j))) := by
          refine Sv_u ?_ (by omega) (by omega) (by intros; omega) (by intros; omega) (by intros; omega)
          refine Sv_u ?_ (by omega) (by omega) (by intros; omega) (by intros; omega) (by intros; omega)
          exact hm1
        have fr2 : ∀ c i, ¬ c = 15 → ¬ (54 ≤ c ∧ c ≤ 56) → (qu (qu (qu ν 54 j (cfw μ0 c1 j a2)) 15 5 (pd (fun f => if f < j then foC μ0 c1 a2 f else -1) (μ 17) (μ0 (c1 + 1)) + μ 17 (μ0 (c1 + 1) j))) 15 4 (qior (ν 15 4) (qshl 1 j))) c i = μ c i := fun c i q1 q2 => by
          rw [qu_cell q1, qu_cell q1, qu_cell (by omega)]
          exact fr c i q1 q2
        have e542 : ∀ f, 0 ≤ f → f < j + 1 → (qu (qu (qu ν 54 j (cfw μ0 c1 j a2)) 15 5 (pd (fun f => if f < j then foC μ0 c1 a2 f else -1) (μ 17) (μ0 (c1 + 1)) + μ 17 (μ0 (c1 + 1) j))) 15 4 (qior (ν 15 4) (qshl 1 j))) 54 f = foC μ0 c1 a2 f := fun f q1 q2 => by
          rw [qu_cell (by decide), qu_cell (by decide)]
          exact e541 f q1 q2
        have fc : ∀ f, 0 ≤ f → f ≤ 9 → hup (fun f => if f < j then foC μ0 c1 a2 f else -1) j (cfw μ0 c1 j a2) f = if f < j + 1 then foC μ0 c1 a2 f else -1 := fun f q1 q2 => by
          by_cases q3 : f = j
          · rw [q3, hup_s, if_pos (by omega)]
            rfl
          · rw [hup_n q3]
            by_cases q4 : f < j
            · rw [if_pos q4, if_pos (by omega)]
            · rw [if_neg q4, if_neg (by omega)]
        generalize qu (qu (qu ν 54 j (cfw μ0 c1 j a2)) 15 5 (pd (fun f => if f < j then foC μ0 c1 a2 f else -1) (μ 17) (μ0 (c1 + 1)) + μ 17 (μ0 (c1 + 1) j))) 15 4 (qior (ν 15 4) (qshl 1 j)) = ν2 at vw2 hm2 fr2 e542
        refine x45 hc h0 (by omega) (fun b hb => ?_)
        rw [fro hm2 3 j (by decide) (by decide), fro hm2 4 j (by decide) (by decide)] at hb
        rw [g1_173]
        rcases hb with ⟨hs, rfl⟩ | ⟨hs, rfl⟩
        · refine ⟨fun q => absurd q (by decide), fun _ => ?_⟩
          simp only [hp, qif_r]
          have hs20 := hsp j
          refine ⟨by omega, ?_⟩
          rw [fro hm2 3 j (by decide) (by decide)]
          have e174 : ∀ p, 0 ≤ p → p ≤ 20 → ν2 17 p = μ 17 p := fun p _ _ => fr2 _ _ (by decide) (by decide)
          refine x4 hm2.1 h0 (by omega) hs.1 hs20.2 (by rw [hup_s]; exact qp) (by rw [hup_s]; exact hr.2.2) (by rw [hup_s]; exact e542 j h0 (by omega)) hok e9 hd e174 hS0 hN0 vw2 (fun μ' s1 s2 s3 => ?_)
          have hm3 : Sv μ0 μ' := ⟨s1, fun c i q1 => by rw [s2 _ _ (by omega) (by omega) (by omega)]; exact hm2.2 c i q1⟩
          rw [g1_187, q32_id (by omega) (by omega)]
          refine ih _ (by omega) (by omega) _ _ (by omega) hm3 (fun c i q1 q2 => by rw [s2 _ _ q1 (by omega) (by omega)]; exact fr2 c i q1 q2) (fun f q1 q2 => by rw [s2 _ _ (by omega) (by omega) (by omega)]; exact e542 f q1 q2) (VW_cg s3 fc (fun f q1 q2 => ?_) (fun _ _ _ => ⟨rfl, rfl⟩) (fun _ _ _ => rfl) (fun f q1 q2 => ⟨rfl, ok.1 f q1 q2⟩) (okH_u hok (Or.inr ⟨hs.1, hs20.2⟩)))
          by_cases q3 : f = j
          · rw [q3, hup_s, if_pos (by omega)]
            unfold hC
            rw [if_pos ⟨qp, hs⟩]
          · rw [hup_n q3]
            by_cases q4 : f < j
            · rw [if_pos q4, if_pos (by omega)]
            · rw [if_neg q4, if_neg (by omega)]
        · refine ⟨fun _ => ?_, fun q => absurd rfl q⟩
          rw [g1_187, q32_id (by omega) (by omega)]
          refine ih _ (by omega) (by omega) _ _ (by omega) hm2 fr2 e542 (VW_cg vw2 fc (fun f q1 q2 => ?_) (fun _ _ _ => ⟨rfl, rfl⟩) (fun _ _ _ => rfl) (fun f q1 q2 => ⟨rfl, ok.1 f q1 q2⟩) hok)
          by_cases q3 : f = j
          · rw [q3, if_neg (by omega), if_pos (by omega)]
            unfold hC
            rw [if_neg (fun z => hs z.2)]
          · by_cases q4 : f < j
            · rw [if_pos q4, if_pos (by omega)]
            · rw [if_neg q4, if_neg (by omega)]
  -- the first loop
  refine qup 3 (P := fun i => ∀ (o4 : Option qV) (ν : qM), 0 ≤ i → Sv μ0 ν → (∀ c k, ¬ c = 15 → ¬ (54 ≤ c ∧ c ≤ 56) → ν c k = μ c k) → ν 15 4 = 0 → ν 15 5 = 0 → ν 15 6 = 0 → (∀ k, 0 ≤ k → k < i → ν 55 k = SxC μ0 c1 a2 k ∧ ν 56 k = NC μ0 c1 a2 k) → qW (d + 3) 1 Q 17 [some (.inr (.inr (.inl (15)))), some (.inr (.inr (.inl (c1)))), some (.inl (a2)), some (.inl (i)), o4] [] ν) (fun i ih hB o4 ν h0 hm fr z4 z5 z6 hk => ?_) 0 (by omega) _ _ (by omega) h2 (fun c k q1 q2 => by rw [qu_cell q1, qu_cell q1, qu_cell q1]) (by rw [qu_ne (by omega), qu_ne (by omega), qu_same]) (by rw [qu_ne (by omega), qu_same]) (by rw [qu_same]) (fun k q1 q2 => by omega)
  have st : i < 3 → ∀ (o4 : Option qV) (x y : Int), x = SxC μ0 c1 a2 i → y = NC μ0 c1 a2 i → qW (d + 3) 1 Q 17 [some (.inr (.inr (.inl (15)))), some (.inr (.inr (.inl (c1)))), some (.inl (a2)), some (.inl (q32 (i + 1))), o4] [] (qu (qu ν 55 i x) 56 i y) := fun hi o4 x y ex ey => by
    rw [q32_id (by omega) (by omega)]
    refine ih _ (by omega) (by omega) _ _ (by omega) ?_ (fun c k q1 q2 => ?_) ?_ ?_ ?_ (fun k q1 q2 => ?_)
    · refine Sv_u ?_ (by omega) (by omega) (by intros; omega) (by intros; omega) (by intros; omega)
      refine Sv_u ?_ (by omega) (by omega) (by intros; omega) (by intros; omega) (by intros; omega)
      exact hm
    · rw [qu_cell (by omega), qu_cell (by omega)]
      exact fr c k q1 q2
    · rw [qu_cell (by decide), qu_cell (by decide)]
      exact z4
    · rw [qu_cell (by decide), qu_cell (by decide)]
      exact z5
    · rw [qu_cell (by decide), qu_cell (by decide)]
      exact z6
    · by_cases q3 : k = i
      · rw [q3, qu_cell (c := 56) (c' := 55) (by decide), qu_same, qu_same]
        exact ⟨ex, ey⟩
      · rw [qu_cell (c := 56) (c' := 55) (by decide), qu_ne (c' := 55) (by omega), qu_ne (c' := 56) (by omega), qu_cell (c := 55) (c' := 56) (by decide)]
        exact hk k q1 (by omega)
  have e00 : ((0 : Int) = 0) = True := by simp
  have e10' : ((1 : Int) = 0) = False := by simp
  have n0 : ¬ (i < μ0 c1 10 ∧ μ0 (c1 + 8) i ≤ a2) → SxC μ0 c1 a2 i = 0 ∧ NC μ0 c1 a2 i = 0 := fun q => by
    unfold SxC NC
    rw [if_neg q, if_neg q]
    exact ⟨rfl, rfl⟩
  have n1 : (i < μ0 c1 10 ∧ μ0 (c1 + 8) i ≤ a2) → SxC μ0 c1 a2 i = μ0 (c1 + 7) i ∧ NC μ0 c1 a2 i = μ0 (c1 + 6) i - μ0 (c1 + 5) i + 1 := fun q => by
    unfold SxC NC
    rw [if_pos q, if_pos q]
    exact ⟨rfl, rfl⟩
  have en := e10 hm
  have e5' := fro hm 5 i (by decide) (by decide)
  have e6' := fro hm 6 i (by decide) (by decide)
  have e7' := fro hm 7 i (by decide) (by decide)
  have e8' := fro hm 8 i (by decide) (by decide)
  have ranges : i < μ0 c1 10 → (0 ≤ μ0 (c1 + 5) i ∧ μ0 (c1 + 5) i ≤ μ0 (c1 + 6) i ∧ μ0 (c1 + 6) i ≤ 9) := fun q => (ok.2 i h0 q).1
  have cu : ∀ x k, (k = 5 ∨ k = 6) → (qu ν 55 i x) (c1 + k) i = μ0 (c1 + k) i := fun x k q => by
    rw [qu_cell (by omega)]
    exact fro hm k i (by omega) (by omega)
  clear ih
  rw [g1_17]
  simp only [hp, qif_r, e00, e10', true_implies, false_implies, not_true_eq_false, not_false_eq_true, and_true, true_and]
  rw [en, e8', e7', cu _ 6 (by decide), cu _ 5 (by decide)]
  have hx : i < 3 → 0 ≤ i ∧ i < 3 := fun q => ⟨h0, q⟩
  refine ⟨fun q => ?_, fun q => ⟨fun q1 => ⟨hx q, hx q, st q _ _ _ (n0 (fun z => absurd z.1 (Int.not_lt.mpr q1))).1.symm (n0 (fun z => absurd z.1 (Int.not_lt.mpr q1))).2.symm⟩, fun q1 => ⟨hx q, fun q2 => ⟨hx q, hx q, st q _ _ _ (n0 (fun z => absurd z.2 (Int.not_le.mpr q2))).1.symm (n0 (fun z => absurd z.2 (Int.not_le.mpr q2))).2.symm⟩, fun q2 => ?_⟩⟩⟩
  · have i3 : i = 3 := by omega
    subst i3
    refine l2 0 (by decide) _ _ (Int.le_refl 0) hm fr (fun f q1 q2 => by omega) ⟨fun k q1 q2 => ?_, ?_, ?_, fun f q1 q2 => ?_⟩
    · have a1 : sh (fun f => if f < 0 then foC μ0 c1 a2 f else -1) (fun f => if f < 0 then hC μ0 c1 a2 f else -9) k = 0 := smF_0 _ (fun f z1 z2 => if_neg (fun z => z.2 (if_neg (by omega))))
      have a2' : ns (fun f => if f < 0 then foC μ0 c1 a2 f else -1) (fun f => if f < 0 then hC μ0 c1 a2 f else -9) k = 0 := smF_0 _ (fun f z1 z2 => if_neg (fun z => z.2 (if_neg (by omega))))
      rw [a1, a2', Int.sub_zero, Int.sub_zero]
      exact hk k q1 (by omega)
    · rw [z5]
      exact (smF_0 _ (fun f z1 z2 => by
        show (if 0 ≤ (if f < 0 then foC μ0 c1 a2 f else -1) then _ else 0) = 0
        rw [if_neg (c := f < 0) (by omega)]
        exact if_neg (by decide))).symm
    · rw [z6]
      exact (smF_0 _ (fun f z1 z2 => if_neg (fun z => z.2 (if_neg (by omega))))).symm
    · rw [z4]
      refine ⟨fun z => absurd z (bit_0 f q1 q2), fun z => ?_⟩
      have z1 : 0 ≤ (if f < 0 then foC μ0 c1 a2 f else -1) := z.1
      rw [if_neg (by omega)] at z1
      omega
  · have rg := ranges q1
    have nn1 := n1 ⟨q1, q2⟩
    refine ⟨hx q, hx q, hx q, hx q, hx q, st q _ _ _ nn1.1.symm ?_⟩
    rw [nn1.2, q32_id (z := μ0 (c1 + 6) i - μ0 (c1 + 5) i) (by omega) (by omega), q32_id (by omega) (by omega)]
