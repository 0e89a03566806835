/-! QUESTIONS THAT CHANGE NOTHING: the core of the relation, looks of both sides -/
def RC (μ : qM) : Prop := Safe μ ∧ RPay μ ∧ RFirm μ ∧ RSlip μ ∧ RSpan μ ∧ RCan μ ∧ RRules μ ∧ RTab μ
def Qr (μ μ2 : qM) : Prop := Safe μ2 ∧ RTab μ2 ∧ ∀ c i, ¬ (15 ≤ c ∧ c ≤ 56) → ¬ (186 ≤ c ∧ c ≤ 190) → ¬ (c = 170 ∧ 10 ≤ i) → μ2 c i = μ c i
theorem foC_fr {μ μ1 : qM} {c day : Int} (k : ∀ j i, 0 ≤ j → j ≤ 10 → μ1 (c + j) i = μ (c + j) i) : foC μ1 c day = foC μ c day ∧ SxC μ1 c day = SxC μ c day ∧ NC μ1 c day = NC μ c day ∧ hC μ1 c day = hC μ c day := by
  have k0 : ∀ i, μ1 c i = μ c i := fun i => by
    have := k 0 i (by decide) (by decide)
    rw [Int.add_zero] at this
    exact this
  have e : foC μ1 c day = foC μ c day := by
    funext f
    show cfw μ1 c f day = cfw μ c f day
    unfold cfw
    rw [k0 10]
    exact fw_cg (fun i _ _ => k 5 i (by decide) (by decide)) (fun i _ _ => k 6 i (by decide) (by decide)) (fun i _ _ => k 8 i (by decide) (by decide))
  refine ⟨e, ?_, ?_, ?_⟩
  · funext i
    unfold SxC
    rw [k0 10, k 8 i (by decide) (by decide), k 7 i (by decide) (by decide)]
  · funext i
    unfold NC
    rw [k0 10, k 8 i (by decide) (by decide), k 6 i (by decide) (by decide), k 5 i (by decide) (by decide)]
  · funext f
    unfold hC
    rw [e, k 3 f (by decide) (by decide), k 4 f (by decide) (by decide)]
theorem duC_fr {μ μ1 : qM} (k : ∀ c i, 9 ≤ c → c ≤ 14 → μ1 c i = μ c i) (day : Int) : duC μ1 day = duC μ day ∧ rD μ1 day = rD μ day := by
  have e10 : μ1 10 = μ 10 := by
    funext i
    exact k 10 i (by decide) (by decide)
  have e : rD μ1 day = rD μ day := by
    unfold rD
    rw [e10, k 9 5 (by decide) (by decide)]
  refine ⟨?_, e⟩
  funext p
  have bE : ∀ c j, 0 ≤ c → c ≤ 4 → bC μ1 c j = bC μ c j := fun c j k1 k2 => k _ _ (by omega) (by omega)
  unfold duC dueB
  rw [e, bE 1 _ (by decide) (by decide), bE 2 _ (by decide) (by decide), bE 3 _ (by decide) (by decide), bE 4 _ (by decide) (by decide)]
/-- the relation's core holds where its cells are the same -/
def fCore (c i : Int) : Prop := (9 ≤ c ∧ c ≤ 14) ∨ (74 ≤ c ∧ c < 140 ∧ ¬ (9 ≤ (c - 74) % 11)) ∨ (c = 170 ∧ i = 4) ∨ (172 ≤ c ∧ c ≤ 185)
theorem RC_fr {μ μ1 : qM} (h : RC μ) (hS : Safe μ1) (hT : RTab μ1) (k : ∀ c i, fCore c i → μ1 c i = μ c i) : RC μ1 := by
  obtain ⟨h1, h2, h3, h4, h5, h6, h7, h8⟩ := h
  have kp : ∀ p j i, 0 ≤ p → p ≤ 5 → 0 ≤ j → j ≤ 8 → μ1 (74 + 11 * p + j) i = μ (74 + 11 * p + j) i := fun p j i q1 q2 q3 q4 => k _ _ (by unfold fCore; omega)
  have k0 : ∀ p i, 0 ≤ p → p ≤ 5 → μ1 (74 + 11 * p) i = μ (74 + 11 * p) i := fun p i q1 q2 => k _ _ (by unfold fCore; omega)
  have fE : ∀ p day, 0 ≤ p → p ≤ 5 → foC μ1 (74 + 11 * p) day = foC μ (74 + 11 * p) day ∧ SxC μ1 (74 + 11 * p) day = SxC μ (74 + 11 * p) day ∧ hC μ1 (74 + 11 * p) day = hC μ (74 + 11 * p) day := fun p day q1 q2 => by
    have e : foC μ1 (74 + 11 * p) day = foC μ (74 + 11 * p) day := by
      funext f
      show cfw μ1 (74 + 11 * p) f day = cfw μ (74 + 11 * p) f day
      unfold cfw
      rw [k0 p 10 q1 q2]
      exact fw_cg (fun i _ _ => kp p 5 i q1 q2 (by decide) (by decide)) (fun i _ _ => kp p 6 i q1 q2 (by decide) (by decide)) (fun i _ _ => kp p 8 i q1 q2 (by decide) (by decide))
    refine ⟨e, ?_, ?_⟩
    · funext i
      unfold SxC
      rw [k0 p 10 q1 q2, kp p 8 i q1 q2 (by decide) (by decide), kp p 7 i q1 q2 (by decide) (by decide)]
    · funext f
      unfold hC
      rw [e, kp p 3 f q1 q2 (by decide) (by decide), kp p 4 f q1 q2 (by decide) (by decide)]
  refine ⟨hS, RPay_fr h2 (fun c i q => k c i (by unfold fPay at q; unfold fCore; omega)), RFirm_fr h3 (fun c i q => k c i (by unfold fFirm at q; unfold fCore; omega)), fun p f q1 q2 q3 q4 => ?_, fun p q1 q2 => ⟨fun i q3 q4 => ?_, fun i j q3 q4 q5 => ?_⟩, fun p q1 q2 => ⟨?_, fun f q3 q4 q5 => ?_⟩, ⟨?_, fun c i q1 q2 q3 q4 => ?_, fun i q1 q2 => ?_⟩, hT⟩
  · rw [kp p 3 f q1 q2 (by decide) (by decide), kp p 4 f q1 q2 (by decide) (by decide), k 179 _ (by unfold fCore; omega), k 180 _ (by unfold fCore; omega)]
    exact h4 p f q1 q2 q3 q4
  · rw [k0 p 10 q1 q2] at q4
    rw [kp p 5 i q1 q2 (by decide) (by decide), kp p 6 i q1 q2 (by decide) (by decide), kp p 7 i q1 q2 (by decide) (by decide), kp p 8 i q1 q2 (by decide) (by decide)]
    exact (h5 p q1 q2).1 i q3 q4
  · rw [k0 p 10 q1 q2] at q5
    rw [kp p 5 i q1 q2 (by decide) (by decide), kp p 6 i q1 q2 (by decide) (by decide), kp p 5 j q1 q2 (by decide) (by decide), kp p 6 j q1 q2 (by decide) (by decide)]
    exact (h5 p q1 q2).2 i j q3 q4 q5
  · have e := fE p 200 q1 q2
    rw [e.1, e.2.1, e.2.2]
    exact (h6 p q1 q2).1
  · rw [kp p 3 f q1 q2 (by decide) (by decide)] at q5
    rw [(fE p 200 q1 q2).1]
    exact (h6 p q1 q2).2 f q3 q4 q5
  · rw [k 9 5 (by unfold fCore; omega), k 170 4 (by unfold fCore; omega)]
    exact h7.1
  · rw [k 9 5 (by unfold fCore; omega)] at q4
    rw [k _ _ (by unfold fCore; omega), k _ _ (by unfold fCore; omega)]
    exact h7.2.1 c i q1 q2 q3 q4
  · rw [k 9 5 (by unfold fCore; omega)] at q2
    have bE : ∀ c j, 0 ≤ c → c ≤ 4 → bC μ1 c j = bC μ c j := fun c j k1 k2 => k _ _ (by unfold fCore; omega)
    unfold RGf
    rw [bE 0 _ (by decide) (by decide), bE 1 _ (by decide) (by decide), bE 2 _ (by decide) (by decide), bE 3 _ (by decide) (by decide), bE 4 _ (by decide) (by decide)]
    exact h7.2.2 i q1 q2
theorem RTab_fr {μ μ' : qM} (hS : Safe μ) (h : RTab μ) (k : ∀ c i, (9 ≤ c ∧ c ≤ 53 ∧ ¬ c = 15) → μ' c i = μ c i) : RTab μ' := by
  obtain ⟨h1, h2, h3⟩ := h
  have w1 := sa_wr hS
  have w2 := sa_dr hS
  have e17 : μ' 17 = μ 17 := by
    funext i
    exact k _ _ (by omega)
  have dE : ∀ r p, dueB (bC μ') r p = dueB (bC μ) r p := fun r p => by
    have bE : ∀ c j, 0 ≤ c → c ≤ 4 → bC μ' c j = bC μ c j := fun c j k1 k2 => k _ _ (by omega)
    unfold dueB
    rw [bE 1 _ (by decide) (by decide), bE 2 _ (by decide) (by decide), bE 3 _ (by decide) (by decide), bE 4 _ (by decide) (by decide)]
  refine ⟨fun j q1 s q2 q3 => ?_, ⟨?_, ?_⟩, ?_⟩
  · rw [k 16 6 (by omega)] at q1
    rw [k _ _ (by omega)]
    exact h1 j q1 s q2 q3
  · rw [k _ _ (by omega)]
    exact h2.1
  · rw [k _ _ (by omega)]
    exact h2.2
  · rw [k 16 4 (by omega), k 9 5 (by omega), e17]
    rcases h3 with h3 | ⟨t1, t2, t3, t4, t5⟩
    · exact Or.inl h3
    · refine Or.inr ⟨t1, t2, fun p q1 q2 => by rw [dE]; exact t3 p q1 q2, ?_, fun j q1 s q2 q3 => ?_⟩
      · rw [e17]
        exact t4
      · rw [k 16 5 (by omega)] at q1
        rw [e17, k _ _ (by omega), k _ _ (by omega)]
        exact t5 j q1 s q2 q3
theorem RC_sv {μ μ1 : qM} (h : RC μ) (hm : Sv μ μ1) (hT : RTab μ1) : RC μ1 := RC_fr h hm.1 hT (fun c i q => hm.2 c i (by unfold fCore at q; omega))
theorem RC_sm {μ μ1 : qM} (h : RC μ) (hm : Sm μ μ1) : RC μ1 := RC_fr h hm.1 (RTab_fr h.1 h.2.2.2.2.2.2.2 (fun c i q => hm.2 c i (by omega))) (fun c i q => hm.2 c i (by unfold fCore at q; omega))
theorem Qr_of {μ μ1 μ2 : qM} (hm : Sv μ μ1) (hT : RTab μ1) (h2 : Sm μ1 μ2) : Qr μ μ2 := ⟨h2.1, RTab_fr hm.1 hT (fun c i q => h2.2 c i (by omega)), fun c i q1 q2 q3 => by
  rw [h2.2 c i (by omega)]
  exact hm.2 c i (by omega)⟩
theorem Qr_rf {μ : qM} (h : RC μ) : Qr μ μ := ⟨h.1, h.2.2.2.2.2.2.2, fun _ _ _ _ _ => rfl⟩
section AK
variable {μ : qM}
abbrev FoC (μ : qM) (p day : Int) : Int → Int := foC μ (74 + 11 * p) day
/-- lookAt, lookAtBounds of the class -/
theorem y108 {d : Nat} {Q : qV → qM → Prop} {a1 a2 : Int} (h : RC μ) (h0 : 0 ≤ a1) (h1 : a1 ≤ 5) (hQ : ∀ μ', LK μ μ' (74 + 11 * a1) a2 → RTab μ' → Q (.inl 0) μ') : qmw (d + 5) 108 [(.inr (.inr (.inl (0)))), (.inl (a1)), (.inl (a2))] μ Q := by
  obtain ⟨hS, hP, hF, hL, hR, hC', hU, hT⟩ := h
  have hr := rD_r hS a2
  refine x108 hS h0 h1 hU.2.2 hT (okP_of hP hR h0 h1) (fun μ' lk => hQ _ lk (TU_tab lk.2.1 hr.1 ?_))
  rw [lk.1.2 9 5 (by omega)]
  exact hr.2
theorem y109 {d : Nat} {Q : qV → qM → Prop} {a1 a2 : Int} (h : RC μ) (h0 : 0 ≤ a1) (h1 : a1 ≤ 5) (hQ : ∀ μ', LB μ μ' (74 + 11 * a1) a2 → RTab μ' → Q (.inl 0) μ') : qmw (d + 6) 109 [(.inr (.inr (.inl (0)))), (.inl (a1)), (.inl (a2))] μ Q := by
  obtain ⟨hS, hP, hF, hL, hR, hC', hU, hT⟩ := h
  have hr := rD_r hS a2
  refine x109 hS h0 h1 hU.2.2 hT (okP_of hP hR h0 h1) (fun i q1 q2 => NC_nf hS hR h0 h1 q1) (fun μ' lk => hQ _ lk (TU_tab lk.2.1 hr.1 ?_))
  rw [lk.1.2 9 5 (by omega)]
  exact hr.2
/-- findHeld and goThrough of the reference, with what is held -/
theorem y138 {d : Nat} {Q : qV → qM → Prop} {μ0 : qM} {a1 a2 : Int} (hm : Sm μ0 μ) (h : RC μ0) (h0 : 0 ≤ a1) (h1 : a1 ≤ 5) (hQ : ∀ μ', Sm μ0 μ' → (∀ c i, ¬ c = 186 → μ' c i = μ c i) → (∀ f, 0 ≤ f → f ≤ 9 → μ' 186 f = hC μ0 (74 + 11 * a1) a2 f) → Q (.inl 0) μ') : qmw (d + 3) 138 [(.inr (.inr (.inl (170)))), (.inl (a1)), (.inl (a2))] μ Q := by
  refine x138 hm h0 h1 (fun μ' s1 s2 s3 => hQ _ s1 s2 (fun f q1 q2 => ?_))
  rw [s3 f q1 q2]
  exact hM_C h.2.2.1 h.2.2.2.1 h0 h1 q1 q2 h.1
/-- what goThrough leaves, held being h -/
def GT (μ0 μ' : qM) (p day : Int) (h : Int → Int) (a : Int) : Prop := (FE (FoC μ0 p day) (SxC μ0 (74 + 11 * p) day) h ∧ a = 1 ∧ μ' 170 28 = WY (FoC μ0 p day) (SxC μ0 (74 + 11 * p) day) h ∧ μ' 170 29 = pd (FoC μ0 p day) (duC μ0 day) (μ0 (74 + 11 * p + 1)) - (sd (FoC μ0 p day) (duC μ0 day) h + mxS (FoC μ0 p day) (SxC μ0 (74 + 11 * p) day) (duC μ0 day) h) ∧ μ' 170 30 = pd (FoC μ0 p day) (duC μ0 day) (μ0 (74 + 11 * p + 1)) - (sd (FoC μ0 p day) (duC μ0 day) h + mnS (FoC μ0 p day) (SxC μ0 (74 + 11 * p) day) (duC μ0 day) h)) ∨ (¬ FE (FoC μ0 p day) (SxC μ0 (74 + 11 * p) day) h ∧ a = 0)
theorem y141 {d : Nat} {Q : qV → qM → Prop} {μ0 : qM} {a1 a2 : Int} {h : Int → Int} (hm : Sm μ0 μ) (hc : RC μ0) (h0 : 0 ≤ a1) (h1 : a1 ≤ 5) (hh : ∀ f, 0 ≤ f → f ≤ 9 → μ 186 f = h f) (hQ : ∀ a μ', Sm μ0 μ' → (∀ f, μ' 186 f = μ 186 f) → GT μ0 μ' a1 a2 h a → Q (.inl a) μ') : qmw (d + 4) 141 [(.inr (.inr (.inl (170)))), (.inl (a1)), (.inl (a2))] μ Q := by
  obtain ⟨hS, hP, hF, hL, hR, hC', hU, hT⟩ := hc
  refine x141 hm (okR_of hU) h0 h1 (okS_of hS hF hR h0 h1) (fun f q1 q2 => (tM_C hP h0 h1 q1 q2).2) (fun a μ' s1 s2 s3 => hQ a μ' s1 s2 ?_)
  rw [foM_C hF h0 h1, duM_C hS hU] at s3
  have e3 : ∀ i, 0 ≤ i → i ≤ 2 → SxM μ0 a1 a2 i = SxC μ0 (74 + 11 * a1) a2 i := fun i q1 q2 => SxM_C hF h0 h1 q1 q2
  have ef : ∀ f : Int, 0 ≤ f → f ≤ 9 → foC μ0 (74 + 11 * a1) a2 f = foC μ0 (74 + 11 * a1) a2 f := fun _ _ _ => rfl
  have et : ∀ f, 0 ≤ f → f ≤ 9 → (fun f => μ0 177 (10 * a1 + f)) f = μ0 (74 + 11 * a1 + 1) f := fun f q1 q2 => (tM_C hP h0 h1 q1 q2).1.symm
  rcases s3 with ⟨t1, t2, t3, t4, t5⟩ | ⟨t1, t2⟩
  · rw [WY_cg ef hh e3] at t3
    rw [pd_cg ef et, sd_cg ef hh, (mxS_cg ef hh e3).1] at t4
    rw [pd_cg ef et, sd_cg ef hh, (mxS_cg ef hh e3).2] at t5
    exact Or.inl ⟨FE_cg t1 ef hh e3, t2, t3, t4, t5⟩
  · exact Or.inr ⟨fun fe => t1 (FE_cg fe ef (fun f q1 q2 => (hh f q1 q2).symm) (fun i q1 q2 => (e3 i q1 q2).symm)), t2⟩
theorem y144 {d : Nat} {Q : qV → qM → Prop} {μ0 : qM} {a1 a2 : Int} (hm : Sm μ0 μ) (hc : RC μ0) (h0 : 0 ≤ a1) (h1 : a1 ≤ 5) (h2 : a2 ≤ 200) (hQ : ∀ μ', Sm μ0 μ' → GT μ0 μ' a1 a2 (hC μ0 (74 + 11 * a1) a2) 1 → Q (.inl 0) μ') : qmw (d + 5) 144 [(.inr (.inr (.inl (170)))), (.inl (a1)), (.inl (a2))] μ Q := by
  rw [e144, g144_0]
  refine y138 hm hc h0 h1 (fun μ1 s1 s2 s3 => ?_)
  rw [g144_6]
  refine y141 s1 hc h0 h1 s3 (fun a μ2 t1 t2 t3 => ?_)
  rw [g144_12]
  refine hQ _ t1 ?_
  rcases t3 with t3 | ⟨t3, -⟩
  · rw [t3.2.1] at t3
    exact Or.inl t3
  · exact absurd (FE_day hc.1 hc.2.2.2.2.1 hc.2.2.2.2.2.1 h0 h1 h2) t3
theorem GT_1 {μ0 μ' : qM} {p day : Int} {h : Int → Int} (g : GT μ0 μ' p day h 1) : FE (FoC μ0 p day) (SxC μ0 (74 + 11 * p) day) h ∧ μ' 170 28 = WY (FoC μ0 p day) (SxC μ0 (74 + 11 * p) day) h ∧ qmax 0 (μ' 170 29) = LE (FoC μ0 p day) (SxC μ0 (74 + 11 * p) day) (duC μ0 day) (μ0 (74 + 11 * p + 1)) h ∧ qmax 0 (μ' 170 30) = MO (FoC μ0 p day) (SxC μ0 (74 + 11 * p) day) (duC μ0 day) (μ0 (74 + 11 * p + 1)) h := by
  rcases g with ⟨t1, -, t3, t4, t5⟩ | ⟨-, t⟩
  · unfold LE MO
    rw [t4, t5]
    exact ⟨t1, t3, rfl, rfl⟩
  · exact absurd t (by decide)
theorem over_q {a : Int} : (if 0 ≤ a then a else 0) = qmax 0 a := by
  unfold qmax
  by_cases q : 0 ≤ a
  · rw [if_pos q]
    by_cases q2 : 0 < a
    · rw [if_pos q2]
    · rw [if_neg q2]
      omega
  · rw [if_neg q, if_neg (by omega)]
/-- C-functions at two memories that agree on the person and the rules -/
theorem CF {μ μ1 : qM} (hm : Sv μ μ1) {p day : Int} (h0 : 0 ≤ p) (h1 : p ≤ 5) : foC μ1 (74 + 11 * p) day = foC μ (74 + 11 * p) day ∧ SxC μ1 (74 + 11 * p) day = SxC μ (74 + 11 * p) day ∧ hC μ1 (74 + 11 * p) day = hC μ (74 + 11 * p) day ∧ duC μ1 day = duC μ day ∧ μ1 (74 + 11 * p + 1) = μ (74 + 11 * p + 1) := by
  have k : ∀ j i, 0 ≤ j → j ≤ 10 → μ1 (74 + 11 * p + j) i = μ (74 + 11 * p + j) i := fun j i _ _ => hm.2 _ _ (by omega)
  have z := foC_fr (day := day) k
  refine ⟨z.1, z.2.1, z.2.2.2, (duC_fr (fun c i _ _ => hm.2 _ _ (by omega)) day).1, ?_⟩
  funext i
  exact k 1 i (by decide) (by decide)
/-- could -/
theorem q83 {a1 a2 : Int} (h : RC μ) : PE (Qr μ) 83 145 [(.inl (a1)), (.inl (a2))] μ := by
  have hm0 : ∀ {μ1 : qM}, RC μ1 → qmw 20 145 [(.inr (.inr (.inl (170)))), (.inl (a1)), (.inl (a2))] μ1 (fun w μ2 => ((0 ≤ a1 ∧ a1 ≤ 5 ∧ 0 ≤ a2 ∧ a2 ≤ 200) ∧ w = .inl (WY (FoC μ1 a1 a2) (SxC μ1 (74 + 11 * a1) a2) (hC μ1 (74 + 11 * a1) a2)) ∧ Sm μ1 μ2) ∨ (¬ (0 ≤ a1 ∧ a1 ≤ 5 ∧ 0 ≤ a2 ∧ a2 ≤ 200) ∧ w = .inl (-1) ∧ μ2 = μ1)) := fun {μ1} hc => by
    rw [e145, g145_0, E133, g145_4, qbr2]
    simp only [E130, g145_11, qbr]
    refine ⟨fun q => Or.inr ⟨by omega, by first | rfl | trivial, by first | rfl | trivial⟩, fun q => ⟨fun q2 => y144 (Sm_rf hc.1) hc q.1 q.2 q2.2 (fun μ2 s1 s2 => ?_), fun q2 => Or.inr ⟨by omega, by first | rfl | trivial, by first | rfl | trivial⟩⟩⟩
    rw [g145_22]
    have g := GT_1 s2
    have r := pw_r (fun i => Wm (nl (FoC μ1 a1 a2) (hC μ1 (74 + 11 * a1) a2) i).toNat (SxC μ1 (74 + 11 * a1) a2 i - sh (FoC μ1 a1 a2) (hC μ1 (74 + 11 * a1) a2) i)) 3
    have r2 : 0 ≤ WY (FoC μ1 a1 a2) (SxC μ1 (74 + 11 * a1) a2) (hC μ1 (74 + 11 * a1) a2) ∧ WY (FoC μ1 a1 a2) (SxC μ1 (74 + 11 * a1) a2) (hC μ1 (74 + 11 * a1) a2) < 1000000007 := r
    rw [g.2.1, q32_id (by omega) (by omega)]
    exact Or.inl ⟨⟨q.1, q.2, q2.1, q2.2⟩, rfl, s1⟩
  unfold PE
  rw [e83, g83_0, E105, g83_4, qbr]
  simp only [E104, g83_15, qbr2]
  refine ⟨fun q => ⟨_, rfl, qmw_cm 20 _ _ _ _ _ (fun w μ2 z => ?_) (hm0 h)⟩, fun q => ⟨fun q2 => y108 h (by omega) (by omega) (fun μ1 lk ht => ?_), fun q2 => ⟨_, rfl, qmw_cm 20 _ _ _ _ _ (fun w μ2 z => ?_) (hm0 h)⟩⟩⟩
  · rcases z with ⟨z, -⟩ | ⟨-, z2, z3⟩
    · omega
    · rw [z3]
      exact ⟨z2, Qr_rf h⟩
  · rw [g83_26]
    have hN : ∀ i, 0 ≤ i → i ≤ 2 → NC μ (74 + 11 * a1) a2 i = nf (foC μ (74 + 11 * a1) a2) i := fun i q1 q2 => NC_nf h.1 h.2.2.2.2.1 (by omega) (by omega) q1
    have fe := FE_day h.1 h.2.2.2.2.1 h.2.2.2.2.2.1 (p := a1) (day := a2) (by omega) (by omega) (by omega)
    refine x9 lk.1 lk.2.2.2 hN fe lk.2.1 (fun μ1' s1 s2 s3 => ?_)
    rw [g83_33]
    have hr := rD_r h.1 a2
    have ht2 : RTab μ1' := TU_tab s3 hr.1 (by rw [s1.2 9 5 (by omega)]; exact hr.2)
    refine ⟨_, rfl, qmw_cm 20 _ _ _ _ _ (fun w μ2 z => ?_) (hm0 (RC_sv h s1 ht2))⟩
    have cf := CF s1 (p := a1) (day := a2) (by omega) (by omega)
    rcases z with ⟨-, z2, z3⟩ | ⟨z, -⟩
    · have e : FoC μ1' a1 a2 = FoC μ a1 a2 := cf.1
      rw [e, cf.2.1, cf.2.2.1] at z2
      exact ⟨z2, Qr_of s1 ht2 z3⟩
    · omega
  · rcases z with ⟨z, -⟩ | ⟨-, z2, z3⟩
    · omega
    · rw [z3]
      exact ⟨z2, Qr_rf h⟩
end AK
