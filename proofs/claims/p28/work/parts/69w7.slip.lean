/-! SLIP -/
def MK (μc μ : qM) : Prop := ∀ c i, ((171 ≤ c ∧ c ≤ 185) ∨ (c = 170 ∧ 1 ≤ i ∧ i ≤ 9)) → μ c i = μc c i
section SL
variable {μc μ0 μ : qM} {d : Nat} {Q : qV → qM → Prop}
theorem MK_sm (k : MK μc μ0) (h : Sm μ0 μ) : MK μc μ := fun c i q => by
  rw [h.2 c i (by omega)]
  exact k c i q
theorem mfw_mk (k : MK μc μ) (p f day : Int) : mfw μ p f day = mfw μc p f day := by
  unfold mfw
  rw [k 181 p (by omega)]
  exact fw_cg (fun i _ _ => k _ _ (by omega)) (fun i _ _ => k _ _ (by omega)) (fun i _ _ => k _ _ (by omega))
theorem y136k {a1 a2 a3 : Int} (k : MK μc μ) (hS : Safe μ) (h : RC μc) (h0 : 0 ≤ a1) (h1 : a1 ≤ 5) (hQ : ∀ a, ((FoC μc a1 a3 a2 = -1 ∧ a = -9) ∨ (0 ≤ FoC μc a1 a3 a2 ∧ a = 3 * a1 + FoC μc a1 a3 a2)) → Q (.inl a) μ) : qmw (d + 2) 136 [(.inr (.inr (.inl (170)))), (.inl (a1)), (.inl (a2)), (.inl (a3))] μ Q := by
  refine x136 hS h0 (by omega) (hQ _ ?_)
  have e : mfw μ a1 a2 a3 = FoC μc a1 a3 a2 := (mfw_mk k a1 a2 a3).trans (RFirm_fw h.2.2.1 h0 h1).symm
  have r := Fo_r h.1 (f := a2) (day := a3) h0 h1
  rw [e]
  by_cases q : FoC μc a1 a3 a2 = -1
  · rw [if_pos q]
    exact Or.inl ⟨q, rfl⟩
  · rw [if_neg q]
    exact Or.inr ⟨by omega, rfl⟩
theorem y138k {a1 a2 : Int} (k : MK μc μ0) (hm : Sm μ0 μ) (h : RC μc) (h0 : 0 ≤ a1) (h1 : a1 ≤ 5) (hQ : ∀ μ', Sm μ0 μ' → (∀ c i, ¬ c = 186 → μ' c i = μ c i) → (∀ f, 0 ≤ f → f ≤ 9 → μ' 186 f = hC μc (74 + 11 * a1) a2 f) → Q (.inl 0) μ') : qmw (d + 3) 138 [(.inr (.inr (.inl (170)))), (.inl (a1)), (.inl (a2))] μ Q := by
  refine x138 hm h0 h1 (fun μ' s1 s2 s3 => hQ _ s1 s2 (fun f q1 q2 => ?_))
  have e : hM μ0 a1 a2 f = hM μc a1 a2 f := by
    unfold hM
    rw [mfw_mk k, k 179 _ (by omega), k 180 _ (by omega)]
  rw [s3 f q1 q2, e]
  exact hM_C h.2.2.1 h.2.2.2.1 h0 h1 q1 q2 h.1
theorem okR_mk (k : MK μc μ) (h : okR μc) : okR μ := fun i q1 q2 => by
  rw [k 170 4 (by omega)] at q2
  have b : ∀ c, 0 ≤ c → c ≤ 4 → bM μ c i = bM μc c i := fun c k1 k2 => k _ _ (by omega)
  unfold RGf
  rw [b 0 (by decide) (by decide), b 1 (by decide) (by decide), b 2 (by decide) (by decide), b 3 (by decide) (by decide), b 4 (by decide) (by decide)]
  exact h i q1 q2
theorem okS_mk {p day : Int} (k : MK μc μ) (h : okS μc p day) : okS μ p day := fun i q1 q2 q3 => by
  rw [k 181 _ (by omega)] at q2
  rw [k 185 _ (by omega)] at q3
  rw [k 182 _ (by omega), k 183 _ (by omega)]
  have z := h i q1 q2 q3
  refine ⟨z.1, fun f f1 f2 => ?_⟩
  show mfw μ p f day = i ↔ _
  rw [mfw_mk k]
  exact z.2 f f1 f2
theorem y141k {a1 a2 : Int} {h : Int → Int} (k : MK μc μ0) (hm : Sm μ0 μ) (hc : RC μc) (h0 : 0 ≤ a1) (h1 : a1 ≤ 5) (hh : ∀ f, 0 ≤ f → f ≤ 9 → μ 186 f = h f) (hQ : ∀ a μ', Sm μ0 μ' → (∀ f, μ' 186 f = μ 186 f) → GT μc μ' a1 a2 h a → Q (.inl a) μ') : qmw (d + 4) 141 [(.inr (.inr (.inl (170)))), (.inl (a1)), (.inl (a2))] μ Q := by
  obtain ⟨hS, hP, hF, hL, hR, hC', hU, hT⟩ := hc
  have e1 : foM μ0 a1 a2 = foC μc (74 + 11 * a1) a2 := by
    rw [← foM_C hF h0 h1]
    funext f
    exact mfw_mk k a1 f a2
  have e2 : duM μ0 a2 = duC μc a2 := by
    rw [← duM_C hS hU]
    have e172 : μ0 172 = μc 172 := by
      funext i
      exact k _ _ (by omega)
    funext p
    have b : ∀ c j, 0 ≤ c → c ≤ 4 → bM μ0 c j = bM μc c j := fun c j k1 k2 => k _ _ (by omega)
    unfold duM dueB
    rw [e172, k 170 4 (by omega), b 1 _ (by decide) (by decide), b 2 _ (by decide) (by decide), b 3 _ (by decide) (by decide), b 4 _ (by decide) (by decide)]
  refine x141 hm (okR_mk k (okR_of hU)) h0 h1 (okS_mk k (okS_of hS hF hR h0 h1)) (fun f q1 q2 => by rw [k 177 _ (by omega)]; exact (tM_C hP h0 h1 q1 q2).2) (fun a μ' s1 s2 s3 => hQ a μ' s1 s2 ?_)
  rw [e1, e2] at s3
  have e3 : ∀ i, 0 ≤ i → i ≤ 2 → SxM μ0 a1 a2 i = SxC μc (74 + 11 * a1) a2 i := fun i q1 q2 => by
    rw [← SxM_C hF h0 h1 q1 q2]
    unfold SxM
    rw [k 181 _ (by omega), k 185 _ (by omega), k 184 _ (by omega)]
  have ef : ∀ f : Int, 0 ≤ f → f ≤ 9 → foC μc (74 + 11 * a1) a2 f = foC μc (74 + 11 * a1) a2 f := fun _ _ _ => rfl
  have et : ∀ f, 0 ≤ f → f ≤ 9 → (fun f => μ0 177 (10 * a1 + f)) f = μc (74 + 11 * a1 + 1) f := fun f q1 q2 => by
    show μ0 177 (10 * a1 + f) = _
    rw [k 177 _ (by omega)]
    exact (tM_C hP h0 h1 q1 q2).1.symm
  rcases s3 with ⟨t1, t2, t3, t4, t5⟩ | ⟨t1, t2⟩
  · rw [WY_cg ef hh e3] at t3
    rw [pd_cg ef et, sd_cg ef hh, (mxS_cg ef hh e3).1] at t4
    rw [pd_cg ef et, sd_cg ef hh, (mxS_cg ef hh e3).2] at t5
    exact Or.inl ⟨FE_cg t1 ef hh e3, t2, t3, t4, t5⟩
  · exact Or.inr ⟨fun fe => t1 (FE_cg fe ef (fun f q1 q2 => (hh f q1 q2).symm) (fun i q1 q2 => (e3 i q1 q2).symm)), t2⟩
theorem hC_179 (hc : RC μ) {p f : Int} (h0 : 0 ≤ p) (h1 : p ≤ 5) (h2 : 0 ≤ f) (h3 : f ≤ 9) (hf : 0 ≤ FoC μ p 200 f) : μ 179 (10 * p + f) = -9 ↔ hC μ (74 + 11 * p) 200 f = -9 := by
  have z := hc.2.2.2.1 p f h0 h1 h2 h3
  unfold hC
  rcases z with ⟨⟨z1, z2⟩ | ⟨z1, z2, z3⟩, z4, z5⟩
  · rw [if_neg (fun y => by omega)]
    exact ⟨fun _ => rfl, fun _ => z2⟩
  · rw [if_pos ⟨hf, z1, z5⟩]
    omega
/-- what the reference's slip asks -/
def AC (μ : qM) (p f v : Int) : Prop := (0 ≤ FoC μ p 200 f ∧ hC μ (74 + 11 * p) 200 f = -9) ∧ lp (FoC μ p 200) (SxC μ (74 + 11 * p) 200) (hC μ (74 + 11 * p) 200) f ≤ v ∧ v ≤ mp (FoC μ p 200) (SxC μ (74 + 11 * p) 200) (hC μ (74 + 11 * p) 200) f
theorem k143 {a1 a2 a3 : Int} (k : MK μc μ) (hS : Safe μ) (hc : RC μc) (h0 : 0 ≤ a1) (h1 : a1 ≤ 5) (h2 : 0 ≤ a2) (h3 : a2 ≤ 9) (h4 : 0 ≤ a3) (h5 : a3 ≤ 20) (no : ¬ AC μc a1 a2 a3 → ∀ ν, Sm μ ν → Q (.inl (-2)) ν) (yes : AC μc a1 a2 a3 → ∀ ν, Sm μ ν → qmw (d + 6) 138 [(.inr (.inr (.inl (170)))), (.inl (a1)), (.inl (ν 170 1))] (qu (qu ν 179 (10 * a1 + a2) a3) 180 (10 * a1 + a2) (ν 170 1)) (fun _ ν => qW (d + 6) 143 Q 120 [some (.inr (.inr (.inl (170)))), some (.inl (a1)), some (.inl (a2)), some (.inl (a3)), some (.inl (10 * a1 + a2))] [] ν)) : qmw (d + 7) 143 [(.inr (.inr (.inl (170)))), (.inl (a1)), (.inl (a2)), (.inl (a3))] μ Q := by
  rw [e143, g143_0, E133, g143_4, qbr2]
  simp only [E134, E117, g143_11, g143_21, qbr2, qbr]
  refine ⟨fun q => absurd ⟨h0, h1⟩ q, fun _ => ⟨fun q => absurd ⟨h2, h3⟩ q, fun _ => ⟨fun _ => ?_, fun q => absurd ⟨h4, h5⟩ q⟩⟩⟩
  have r := Fo_r hc.1 (f := a2) (day := 200) h0 h1
  refine y136k k hS hc h0 h1 (fun a ha => ?_)
  rw [q32_id (z := 10 * a1) (by omega) (by omega), q32_id (z := 10 * a1 + a2) (by omega) (by omega), g143_43, k 179 _ (by omega)]
  rcases ha with ⟨u1, u2⟩ | ⟨u1, u2⟩
  · exact ⟨fun _ => no (fun z => by
      have := z.1.1
      omega) _ (Sm_rf hS), fun z => absurd u2 z⟩
  · refine ⟨fun z => by omega, fun _ => ⟨by omega, fun q => ?_, fun q => no (fun z => q ((hC_179 hc h0 h1 h2 h3 u1).mpr z.1.2)) _ (Sm_rf hS)⟩⟩
    have q9 := (hC_179 hc h0 h1 h2 h3 u1).mp q
    refine y138k k (Sm_rf hS) hc h0 h1 (fun ν1 s1 s2 s3 => ?_)
    rw [g143_71]
    refine ⟨by omega, y141k (h := hup (hC μc (74 + 11 * a1) 200) a2 a3) k (Sm_u s1 (by omega) (by omega)) hc h0 h1 (fun g g1 g2 => ?_) (fun a ν2 t1 t2 gt => ?_)⟩
    · by_cases eg : g = a2
      · rw [eg, qu_same, hup_s]
      · rw [qu_ne (by omega), hup_n eg]
        exact s3 g g1 g2
    · have feu := FE_u (FE_day hc.1 hc.2.2.2.2.1 hc.2.2.2.2.2.1 (day := 200) h0 h1 (by decide)) h2 h3 u1 r.2.2 q9 (v := a3) h4 h5
      rw [g143_86]
      rcases gt with gt | gt
      · exact ⟨fun _ => ⟨by omega, by omega, yes ⟨⟨u1, q9⟩, feu.mp gt.1⟩ ν2 t1⟩, fun z => by
          have := gt.2.1
          omega⟩
      · exact ⟨fun z => absurd gt.2 z, fun _ => no (fun z => gt.1 (feu.mpr z.2)) _ t1⟩
end SL
section SL2
variable {μ : qM}
theorem foC_fr2 {μ μ1 : qM} {c day : Int} (k0 : μ1 c 10 = μ c 10) (k : ∀ j i, 5 ≤ j → j ≤ 8 → μ1 (c + j) i = μ (c + j) i) : foC μ1 c day = foC μ c day ∧ SxC μ1 c day = SxC μ c day := by
  refine ⟨?_, ?_⟩
  · funext f
    show cfw μ1 c f day = cfw μ c f day
    unfold cfw
    rw [k0]
    exact fw_cg (fun i _ _ => k 5 i (by decide) (by decide)) (fun i _ _ => k 6 i (by decide) (by decide)) (fun i _ _ => k 8 i (by decide) (by decide))
  · funext i
    unfold SxC
    rw [k0, k 8 i (by decide) (by decide), k 7 i (by decide) (by decide)]
theorem RSpan_fr {μ1 : qM} (h : RSpan μ) (k0 : ∀ p, 0 ≤ p → p ≤ 5 → μ1 (74 + 11 * p) 10 = μ (74 + 11 * p) 10) (k : ∀ p j i, 0 ≤ p → p ≤ 5 → 5 ≤ j → j ≤ 8 → μ1 (74 + 11 * p + j) i = μ (74 + 11 * p + j) i) : RSpan μ1 := fun p q1 q2 => by
  refine ⟨fun i q3 q4 => ?_, fun i j q3 q4 q5 => ?_⟩
  · rw [k0 p q1 q2] at q4
    rw [k p 5 i q1 q2 (by decide) (by decide), k p 6 i q1 q2 (by decide) (by decide), k p 7 i q1 q2 (by decide) (by decide), k p 8 i q1 q2 (by decide) (by decide)]
    exact (h p q1 q2).1 i q3 q4
  · rw [k0 p q1 q2] at q5
    rw [k p 5 i q1 q2 (by decide) (by decide), k p 6 i q1 q2 (by decide) (by decide), k p 5 j q1 q2 (by decide) (by decide), k p 6 j q1 q2 (by decide) (by decide)]
    exact (h p q1 q2).2 i j q3 q4 q5
/-- a slip that is taken leaves what can be -/
theorem RCan_u {μs : qM} {a1 a2 a3 T : Int} (h : RC μ) (h0 : 0 ≤ a1) (h1 : a1 ≤ 5) (h2 : 0 ≤ a2) (h3 : a2 ≤ 9) (h4 : 0 ≤ a3) (h5 : a3 ≤ 20) (ac : AC μ a1 a2 a3) (fr : ∀ c i, 74 ≤ c → c < 140 → ¬ (c = 74 + 11 * a1 + 3 ∧ i = a2) → ¬ (c = 74 + 11 * a1 + 4 ∧ i = a2) → μs c i = μ c i) (e3 : μs (74 + 11 * a1 + 3) a2 = a3) (e4 : μs (74 + 11 * a1 + 4) a2 = T) (hT : T ≤ 200) : RCan μs := fun p p0 p1 => by
  have k0 : μs (74 + 11 * p) 10 = μ (74 + 11 * p) 10 := fr _ _ (by omega) (by omega) (by omega) (by omega)
  have k : ∀ j i, 5 ≤ j → j ≤ 8 → μs (74 + 11 * p + j) i = μ (74 + 11 * p + j) i := fun j i q1 q2 => fr _ _ (by omega) (by omega) (by omega) (by omega)
  have e := foC_fr2 (day := 200) k0 k
  have z := h.2.2.2.2.2.1 p p0 p1
  rw [e.1, e.2]
  by_cases ep : p = a1
  · subst ep
    have r := Fo_r h.1 (f := a2) (day := 200) p0 p1
    have eh : hC μs (74 + 11 * p) 200 = hup (hC μ (74 + 11 * p) 200) a2 a3 := by
      funext f
      unfold hC
      rw [e.1]
      by_cases ef : f = a2
      · rw [ef, hup_s, e3, e4, if_pos ⟨ac.1.1, h4, hT⟩]
      · rw [hup_n ef, fr (74 + 11 * p + 3) f (by omega) (by omega) (by omega) (by omega), fr (74 + 11 * p + 4) f (by omega) (by omega) (by omega) (by omega)]
    rw [eh]
    refine ⟨(FE_u z.1 h2 h3 ac.1.1 r.2.2 ac.1.2 h4 h5).mpr ac.2, fun f f1 f2 f3 => ?_⟩
    by_cases ef : f = a2
    · rw [ef]
      exact ac.1.1
    · rw [fr (74 + 11 * p + 3) f (by omega) (by omega) (by omega) (by omega)] at f3
      exact z.2 f f1 f2 f3
  · have k9 : ∀ j i, 0 ≤ j → j ≤ 10 → μs (74 + 11 * p + j) i = μ (74 + 11 * p + j) i := fun j i q1 q2 => fr _ _ (by omega) (by omega) (by omega) (by omega)
    rw [(foC_fr (day := 200) k9).2.2.2]
    refine ⟨z.1, fun f f1 f2 f3 => ?_⟩
    rw [k9 3 f (by decide) (by decide)] at f3
    exact z.2 f f1 f2 f3
def Qs (μ μ2 : qM) : Prop := RC μ2 ∧ ∀ c i, ¬ (15 ≤ c ∧ c ≤ 56) → ¬ (186 ≤ c ∧ c ≤ 190) → ¬ (c = 170 ∧ 10 ≤ i) → ¬ (74 ≤ c ∧ c < 140 ∧ ((c - 74) % 11 = 3 ∨ (c - 74) % 11 = 4)) → ¬ (c = 179 ∨ c = 180) → μ2 c i = μ c i
theorem RC_qr {μ2 : qM} (h : RC μ) (q : Qr μ μ2) : RC μ2 := RC_fr h q.1 q.2.1 (fun c i z => q.2.2 c i (by unfold fCore at z; omega) (by unfold fCore at z; omega) (by unfold fCore at z; omega))
theorem Qs_of {μ2 : qM} (h : RC μ) (q : Qr μ μ2) : Qs μ μ2 := ⟨RC_qr h q, fun c i k1 k2 k3 _ _ => q.2.2 c i k1 k2 k3⟩
theorem Safe_sl {p f v : Int} (hS : Safe μ) (h0 : 0 ≤ p) (h1 : p ≤ 5) (h4 : 0 ≤ v) (h5 : v ≤ 20) (w : Int) : Safe (qu (qu μ (74 + 11 * p + 3) f v) (74 + 11 * p + 4) f w) := by
  have h3 : Safe (qu μ (74 + 11 * p + 3) f v) := by
    refine Safe_u hS ?_ (by omega) (by omega) (by omega) (by omega)
    unfold sf
    refine ⟨?_, ?_, ?_, ?_, ?_, ?_, ?_, ?_, ?_, ?_, ?_, ?_, ?_, ?_, ?_, ?_, ?_, ?_, ?_, ?_, ?_, ?_, ?_, ?_, ?_, ?_, ?_, ?_, ?_, ?_, ?_⟩ <;> intros <;> omega
  refine Safe_u h3 ?_ (by omega) (by omega) (by omega) (by omega)
  unfold sf
  refine ⟨?_, ?_, ?_, ?_, ?_, ?_, ?_, ?_, ?_, ?_, ?_, ?_, ?_, ?_, ?_, ?_, ?_, ?_, ?_, ?_, ?_, ?_, ?_, ?_, ?_, ?_, ?_, ?_, ?_, ?_, ?_⟩ <;> intros <;> omega
theorem q82 {a1 a2 a3 : Int} (h : RC μ) (hd : μ 58 3 = μ 170 1) : PE (Qs μ) 82 143 [(.inl (a1)), (.inl (a2)), (.inl (a3))] μ := by
  have bad : ¬ (0 ≤ a1 ∧ a1 ≤ 5 ∧ 0 ≤ a2 ∧ a2 ≤ 9 ∧ 0 ≤ a3 ∧ a3 ≤ 20) → ∃ a : Int, (.inl (-1) : qV) = .inl a ∧ qmw 20 143 [(.inr (.inr (.inl (170)))), (.inl (a1)), (.inl (a2)), (.inl (a3))] μ (fun w μ2 => w = .inl a ∧ Qs μ μ2) := fun q => ⟨_, rfl, by
    rw [e143, g143_0, E133, g143_4, qbr2]
    simp only [E134, E117, g143_11, g143_21, qbr2, qbr]
    exact ⟨fun _ => ⟨trivial, Qs_of h (Qr_rf h)⟩, fun q1 => ⟨fun _ => ⟨trivial, Qs_of h (Qr_rf h)⟩, fun q2 => ⟨fun q3 => absurd ⟨q1.1, q1.2, q2.1, q2.2, q3.1, q3.2⟩ q, fun _ => ⟨trivial, Qs_of h (Qr_rf h)⟩⟩⟩⟩⟩
  have ht3 := sa_today h.1
  unfold PE
  rw [e82, g82_0, E105, g82_4, qbr]
  simp only [E104, E106, g82_11, g82_21, qbr2, qbr]
  refine ⟨fun q => bad (by omega), fun q => ⟨fun q2 => bad (by omega), fun q2 => ⟨fun q3 => ⟨by omega, y108 h (by omega) (by omega) (fun μ1 lk ht => ?_)⟩, fun q3 => bad (by omega)⟩⟩⟩
  clear bad
  have h0 : 0 ≤ a1 := by omega
  have h1 : a1 ≤ 5 := by omega
  have h2 : 0 ≤ a2 := by omega
  have h3 : a2 ≤ 9 := by omega
  have h4 : 0 ≤ a3 := by omega
  have h5 : a3 ≤ 20 := by omega
  have hcp : isP (74 + 11 * a1) := ⟨a1, h0, by omega, rfl⟩
  have hp := pf hcp
  have r := Fo_r h.1 (f := a2) (day := 200) h0 h1
  have mk : MK μ μ1 := fun c i q => lk.1.2 c i (by omega)
  have refu : ¬ AC μ a1 a2 a3 → ∃ a : Int, (.inl (-2) : qV) = .inl a ∧ qmw 20 143 [(.inr (.inr (.inl (170)))), (.inl (a1)), (.inl (a2)), (.inl (a3))] μ1 (fun w μ2 => w = .inl a ∧ Qs μ μ2) := fun q => ⟨_, rfl, k143 mk lk.1.1 h h0 h1 h2 h3 h4 h5 (fun _ ν s => ⟨rfl, Qs_of h (Qr_of lk.1 ht s)⟩) (fun z => absurd z q)⟩
  have v4 := lk.2.2.2.2.2.2 a2 h2 h3
  have e54 := lk.2.2.1 a2 h2 h3
  have hN : ∀ i, 0 ≤ i → i ≤ 2 → NC μ (74 + 11 * a1) 200 i = nf (foC μ (74 + 11 * a1) 200) i := fun i q1 q2 => NC_nf h.1 h.2.2.2.2.1 h0 h1 q1
  rw [qra57 h0 (by omega), g82_42, E3, g82_50, qbr2]
  refine ⟨fun q4 => refu (fun z => q4 (v4.mpr z.1)), fun q4 => ?_⟩
  have lo := v4.mp q4
  refine x6 hcp h2 h3 e54 lo.1 r.2.2 lk.2.2.2 hN (hC_ok h.1 hcp) (SxC_r h.2.2.2.2.1 h0 h1) (fun a ha => ?_)
  have ea : a = lp (FoC μ a1 200) (SxC μ (74 + 11 * a1) 200) (hC μ (74 + 11 * a1) 200) a2 := by
    rcases ha with z | z
    · exact z.2
    · exact absurd lo.2 z.1
  rw [g82_64, ea]
  refine ⟨fun q5 => refu (fun z => absurd z.2.1 (Int.not_le.mpr q5)), fun q5 => ?_⟩
  refine x7 hcp h2 h3 e54 lo.1 r.2.2 lk.2.2.2 (fun a' ha' => ?_)
  have ea' : a' = mp (FoC μ a1 200) (SxC μ (74 + 11 * a1) 200) (hC μ (74 + 11 * a1) 200) a2 := by
    rcases ha' with z | z
    · exact z.2
    · exact absurd lo.2 z.1
  rw [g82_78, ea']
  refine ⟨fun q6 => ?_, fun q6 => refu (fun z => absurd z.2.2 (Int.not_le.mpr q6))⟩
  clear refu
  simp only [hp, qif_r]
  clear hp
  have hb : 0 ≤ a2 ∧ a2 < 10 := by omega
  refine ⟨hb, hb, ?_⟩
  have ac : AC μ a1 a2 a3 := ⟨lo, q5, q6⟩
  have e58 : ∀ v, qu μ1 (74 + 11 * a1 + 3) a2 v 58 3 = μ 58 3 := fun v => by
    rw [qu_ne (by omega)]
    exact lk.1.2 _ _ (by omega)
  rw [e58]
  have e58' : qu (qu μ1 (74 + 11 * a1 + 3) a2 a3) (74 + 11 * a1 + 4) a2 (μ 58 3) 58 3 = μ 58 3 := by
    rw [qu_ne (by omega)]
    exact e58 a3
  rw [e58']
  have hSs := Safe_sl (f := a2) lk.1.1 h0 h1 h4 h5 (μ 58 3)
  -- the class's memory with the slip
  have frs : ∀ c i, ¬ (15 ≤ c ∧ c ≤ 56) → ¬ (c = 74 + 11 * a1 + 3 ∧ i = a2) → ¬ (c = 74 + 11 * a1 + 4 ∧ i = a2) → qu (qu μ1 (74 + 11 * a1 + 3) a2 a3) (74 + 11 * a1 + 4) a2 (μ 58 3) c i = μ c i := fun c i k1 k2 k3 => by
    rw [qu_ne k3, qu_ne k2]
    exact lk.1.2 c i (by omega)
  have s3 : qu (qu μ1 (74 + 11 * a1 + 3) a2 a3) (74 + 11 * a1 + 4) a2 (μ 58 3) (74 + 11 * a1 + 3) a2 = a3 := by
    rw [qu_ne (by omega), qu_same]
  have s4 : qu (qu μ1 (74 + 11 * a1 + 3) a2 a3) (74 + 11 * a1 + 4) a2 (μ 58 3) (74 + 11 * a1 + 4) a2 = μ 58 3 := qu_same _ _ _ _
  have hTs : RTab (qu (qu μ1 (74 + 11 * a1 + 3) a2 a3) (74 + 11 * a1 + 4) a2 (μ 58 3)) := RTab_fr lk.1.1 ht (fun c i q => by rw [qu_ne (by omega), qu_ne (by omega)])
  generalize qu (qu μ1 (74 + 11 * a1 + 3) a2 a3) (74 + 11 * a1 + 4) a2 (μ 58 3) = μs at *
  have hRs : RSpan μs := RSpan_fr h.2.2.2.2.1 (fun p q1 q2 => frs _ _ (by omega) (by omega) (by omega)) (fun p j i q1 q2 q3 q4 => frs _ _ (by omega) (by omega) (by omega))
  have hCs : RCan μs := RCan_u h h0 h1 h2 h3 h4 h5 ac (fun c i k1 k2 k3 k4 => frs c i (by omega) k3 k4) s3 s4 (by omega)
  have hbs : ∀ i, 0 ≤ i → i < μs 9 5 → RGf (bC μs) i := fun i q1 q2 => by
    rw [frs 9 5 (by omega) (by omega) (by omega)] at q2
    have bE : ∀ c j, 0 ≤ c → c ≤ 4 → bC μs c j = bC μ c j := fun c j k1 k2 => frs _ _ (by omega) (by omega) (by omega)
    unfold RGf
    rw [bE 0 _ (by decide) (by decide), bE 1 _ (by decide) (by decide), bE 2 _ (by decide) (by decide), bE 3 _ (by decide) (by decide), bE 4 _ (by decide) (by decide)]
    exact h.2.2.2.2.2.2.1.2.2 i q1 q2
  have okp : okP μs (74 + 11 * a1) := by
    have z := okP_of h.2.1 h.2.2.2.2.1 h0 h1
    refine ⟨fun f q1 q2 => ?_, fun i q1 q2 => ?_⟩
    · rw [frs _ _ (by omega) (by omega) (by omega)]
      exact z.1 f q1 q2
    · rw [frs (74 + 11 * a1) 10 (by omega) (by omega) (by omega)] at q2
      rw [frs (74 + 11 * a1 + 5) i (by omega) (by omega) (by omega), frs (74 + 11 * a1 + 6) i (by omega) (by omega) (by omega), frs (74 + 11 * a1 + 7) i (by omega) (by omega) (by omega)]
      exact z.2 i q1 q2
  refine x108 hSs h0 h1 hbs hTs okp (fun μ2 lk2 => ?_)
  have fes := FE_day hSs hRs hCs (day := μ 58 3) h0 h1 (by omega)
  rw [g82_118]
  refine x9 lk2.1 lk2.2.2.2 (fun i q1 q2 => NC_nf hSs hRs h0 h1 q1) fes lk2.2.1 (fun μ3 t1 t2 t3 => ?_)
  rw [g82_125]
  have hr := rD_r hSs (μ 58 3)
  have hT3 : RTab μ3 := TU_tab t3 hr.1 (by rw [t1.2 9 5 (by omega)]; exact hr.2)
  have mk3 : MK μ μ3 := fun c i q => by
    rw [t1.2 c i (by omega)]
    exact frs c i (by omega) (by omega) (by omega)
  refine ⟨_, rfl, k143 mk3 t1.1 h h0 h1 h2 h3 h4 h5 (fun z => absurd ac z) (fun _ ν sm => ?_)⟩
  have e1 : ν 170 1 = μ 58 3 := by
    rw [sm.2 170 1 (by omega), mk3 170 1 (by omega), hd]
  rw [e1]
  have hS4 : Safe (qu (qu ν 179 (10 * a1 + a2) a3) 180 (10 * a1 + a2) (μ 58 3)) := (Sr1_179 (Sr1_rf sm.1) h4 h5).1
  have f4 : ∀ c i, ¬ (15 ≤ c ∧ c ≤ 56) → ¬ (186 ≤ c ∧ c ≤ 190) → ¬ (c = 170 ∧ 10 ≤ i) → ¬ (c = 179 ∧ i = 10 * a1 + a2) → ¬ (c = 180 ∧ i = 10 * a1 + a2) → qu (qu ν 179 (10 * a1 + a2) a3) 180 (10 * a1 + a2) (μ 58 3) c i = μs c i := fun c i k1 k2 k3 k4 k5 => by
    rw [qu_ne k5, qu_ne k4, sm.2 c i (by omega)]
    exact t1.2 c i (by omega)
  have u1 : qu (qu ν 179 (10 * a1 + a2) a3) 180 (10 * a1 + a2) (μ 58 3) 179 (10 * a1 + a2) = a3 := by
    rw [qu_ne (by omega), qu_same]
  have u2 : qu (qu ν 179 (10 * a1 + a2) a3) 180 (10 * a1 + a2) (μ 58 3) 180 (10 * a1 + a2) = μ 58 3 := qu_same _ _ _ _
  have hT4 : RTab (qu (qu ν 179 (10 * a1 + a2) a3) 180 (10 * a1 + a2) (μ 58 3)) := RTab_fr t1.1 hT3 (fun c i q => by rw [qu_ne (by omega), qu_ne (by omega)]; exact sm.2 c i (by omega))
  generalize qu (qu ν 179 (10 * a1 + a2) a3) 180 (10 * a1 + a2) (μ 58 3) = μ4 at *
  have f5 : ∀ c i, ¬ (15 ≤ c ∧ c ≤ 56) → ¬ (186 ≤ c ∧ c ≤ 190) → ¬ (c = 170 ∧ 10 ≤ i) → ¬ (c = 74 + 11 * a1 + 3 ∧ i = a2) → ¬ (c = 74 + 11 * a1 + 4 ∧ i = a2) → ¬ (c = 179 ∧ i = 10 * a1 + a2) → ¬ (c = 180 ∧ i = 10 * a1 + a2) → μ4 c i = μ c i := fun c i k1 k2 k3 k4 k5 k6 k7 => by
    rw [f4 c i k1 k2 k3 k6 k7]
    exact frs c i k1 k4 k5
  have hRC : RC μ4 := by
    refine ⟨hS4, RPay_fr h.2.1 (fun c i q => ?_), RFirm_fr h.2.2.1 (fun c i q => ?_), fun p f p0 p1 g0 g1 => ?_, RSpan_fr h.2.2.2.2.1 (fun p q1 q2 => f5 _ _ (by omega) (by omega) (by omega) (by omega) (by omega) (by omega) (by omega)) (fun p j i q1 q2 q3 q4 => f5 _ _ (by omega) (by omega) (by omega) (by omega) (by omega) (by omega) (by omega)), RCan_u (T := μ 58 3) h h0 h1 h2 h3 h4 h5 ac (fun c i k1 k2 k3 k4 => f5 c i (by omega) (by omega) (by omega) k3 k4 (by omega) (by omega)) (by rw [f4 _ _ (by omega) (by omega) (by omega) (by omega) (by omega)]; exact s3) (by rw [f4 _ _ (by omega) (by omega) (by omega) (by omega) (by omega)]; exact s4) (by omega), ⟨?_, fun c i q1 q2 q3 q4 => ?_, fun i q1 q2 => ?_⟩, hT4⟩
    · unfold fPay at q
      exact f5 c i (by omega) (by omega) (by omega) (by omega) (by omega) (by omega) (by omega)
    · unfold fFirm at q
      exact f5 c i (by omega) (by omega) (by omega) (by omega) (by omega) (by omega) (by omega)
    · by_cases e : p = a1 ∧ f = a2
      · obtain ⟨e1, e2⟩ := e
        subst e1
        subst e2
        rw [f4 (74 + 11 * p + 3) f (by omega) (by omega) (by omega) (by omega) (by omega), f4 (74 + 11 * p + 4) f (by omega) (by omega) (by omega) (by omega) (by omega), s3, s4, u1, u2]
        exact ⟨Or.inr ⟨h4, h5, rfl⟩, rfl, by omega⟩
      · rw [f5 (74 + 11 * p + 3) f (by omega) (by omega) (by omega) (by omega) (by omega) (by omega) (by omega), f5 (74 + 11 * p + 4) f (by omega) (by omega) (by omega) (by omega) (by omega) (by omega) (by omega), f5 179 (10 * p + f) (by omega) (by omega) (by omega) (by omega) (by omega) (by omega) (by omega), f5 180 (10 * p + f) (by omega) (by omega) (by omega) (by omega) (by omega) (by omega) (by omega)]
        exact h.2.2.2.1 p f p0 p1 g0 g1
    · rw [f5 9 5 (by omega) (by omega) (by omega) (by omega) (by omega) (by omega) (by omega), f5 170 4 (by omega) (by omega) (by omega) (by omega) (by omega) (by omega) (by omega)]
      exact h.2.2.2.2.2.2.1.1
    · rw [f5 9 5 (by omega) (by omega) (by omega) (by omega) (by omega) (by omega) (by omega)] at q4
      rw [f5 _ _ (by omega) (by omega) (by omega) (by omega) (by omega) (by omega) (by omega), f5 _ _ (by omega) (by omega) (by omega) (by omega) (by omega) (by omega) (by omega)]
      exact h.2.2.2.2.2.2.1.2.1 c i q1 q2 q3 q4
    · rw [f5 9 5 (by omega) (by omega) (by omega) (by omega) (by omega) (by omega) (by omega)] at q2
      have bE : ∀ c j, 0 ≤ c → c ≤ 4 → bC μ4 c j = bC μ c j := fun c j k1 k2 => f5 _ _ (by omega) (by omega) (by omega) (by omega) (by omega) (by omega) (by omega)
      unfold RGf
      rw [bE 0 _ (by decide) (by decide), bE 1 _ (by decide) (by decide), bE 2 _ (by decide) (by decide), bE 3 _ (by decide) (by decide), bE 4 _ (by decide) (by decide)]
      exact h.2.2.2.2.2.2.1.2.2 i q1 q2
  refine y138 (Sm_rf hS4) hRC h0 h1 (fun ν5 w1 w2 w3 => ?_)
  have e5 : ν5 170 1 = μ 58 3 := by
    rw [w1.2 170 1 (by omega), f5 170 1 (by omega) (by omega) (by omega) (by omega) (by omega) (by omega) (by omega), hd]
  rw [g143_120, e5]
  refine y141 w1 hRC h0 h1 w3 (fun a5 ν6 w4 w5 gt => ?_)
  rw [g143_129]
  have cf := foC_fr (μ := μs) (μ1 := μ4) (c := 74 + 11 * a1) (day := μ 58 3) (fun j i q1 q2 => f4 _ _ (by omega) (by omega) (by omega) (by omega) (by omega))
  have pr := pw_r (fun i => Wm (nl (FoC μs a1 (μ 58 3)) (hC μs (74 + 11 * a1) (μ 58 3)) i).toNat (SxC μs (74 + 11 * a1) (μ 58 3) i - sh (FoC μs a1 (μ 58 3)) (hC μs (74 + 11 * a1) (μ 58 3)) i)) 3
  have pr2 : 0 ≤ WY (FoC μs a1 (μ 58 3)) (SxC μs (74 + 11 * a1) (μ 58 3)) (hC μs (74 + 11 * a1) (μ 58 3)) ∧ WY (FoC μs a1 (μ 58 3)) (SxC μs (74 + 11 * a1) (μ 58 3)) (hC μs (74 + 11 * a1) (μ 58 3)) < 1000000007 := pr
  have ef : FoC μ4 a1 (μ 58 3) = FoC μs a1 (μ 58 3) := cf.1
  rcases gt with gt | gt
  · have g28 := gt.2.2.1
    rw [ef, cf.2.1, cf.2.2.2] at g28
    rw [g28, q32_id (by omega) (by omega)]
    refine ⟨rfl, RC_sm hRC w4, fun c i k1 k2 k3 k4 k5 => ?_⟩
    rw [w4.2 c i (by omega)]
    exact f5 c i k1 k2 k3 (by omega) (by omega) (by omega) (by omega)
  · refine absurd ?_ gt.1
    rw [ef, cf.2.1, cf.2.2.2]
    exact fes
end SL2
