/-! THE REFERENCE: goThrough -/
def SxM (μ : qM) (p day : Int) : Int → Int := fun i => if i < μ 181 p ∧ μ 185 (3 * p + i) ≤ day then μ 184 (3 * p + i) else 0
/-- spans don't meet -/
def okS (μ : qM) (p day : Int) : Prop := ∀ i, 0 ≤ i → i < μ 181 p → μ 185 (3 * p + i) ≤ day → (0 ≤ μ 182 (3 * p + i) ∧ μ 182 (3 * p + i) ≤ μ 183 (3 * p + i) ∧ μ 183 (3 * p + i) ≤ 9) ∧ ∀ f, 0 ≤ f → f ≤ 9 → (foM μ p day f = i ↔ (μ 182 (3 * p + i) ≤ f ∧ f ≤ μ 183 (3 * p + i)))
def cP (fo du told : Int → Int) (i : Int) : Int := smF (fun f => if fo f = i then du (told f) else 0) 0 10
def cD (fo du h : Int → Int) (i : Int) : Int := smF (fun f => if fo f = i ∧ ¬ h f = -9 then du (h f) else 0) 0 10
theorem cP_3 {fo du told : Int → Int} (hf : ∀ f, 0 ≤ f → f ≤ 9 → -1 ≤ fo f ∧ fo f ≤ 2) : smF (cP fo du told) 0 3 = pd fo du told := by
  have e : smF (cP fo du told) 0 3 = cP fo du told 0 + cP fo du told 1 + cP fo du told 2 := by
    show 0 + cP fo du told (0 + ((0 : Nat) : Int)) + cP fo du told (0 + ((1 : Nat) : Int)) + cP fo du told (0 + ((2 : Nat) : Int)) = _
    rw [show (0 : Int) + ((0 : Nat) : Int) = 0 by omega, show (0 : Int) + ((1 : Nat) : Int) = 1 by omega, show (0 : Int) + ((2 : Nat) : Int) = 2 by omega]
    omega
  rw [e]
  unfold cP pd
  rw [← smF_pl, ← smF_pl]
  refine smF_cg _ (fun f q1 q2 => ?_)
  have r := hf f q1 (by omega)
  rcases (show fo f = -1 ∨ fo f = 0 ∨ fo f = 1 ∨ fo f = 2 by omega) with e | e | e | e
  · rw [e, if_neg (by decide), if_neg (by decide), if_neg (by decide), if_neg (by decide)]
    rfl
  · rw [e, if_pos rfl, if_neg (by decide), if_neg (by decide), if_pos (by decide)]
    omega
  · rw [e, if_neg (by decide), if_pos rfl, if_neg (by decide), if_pos (by decide)]
    omega
  · rw [e, if_neg (by decide), if_neg (by decide), if_pos rfl, if_pos (by decide)]
    omega
theorem cD_3 {fo du h : Int → Int} (hf : ∀ f, 0 ≤ f → f ≤ 9 → -1 ≤ fo f ∧ fo f ≤ 2) : smF (cD fo du h) 0 3 = sd fo du h := by
  have e : smF (cD fo du h) 0 3 = cD fo du h 0 + cD fo du h 1 + cD fo du h 2 := by
    show 0 + cD fo du h (0 + ((0 : Nat) : Int)) + cD fo du h (0 + ((1 : Nat) : Int)) + cD fo du h (0 + ((2 : Nat) : Int)) = _
    rw [show (0 : Int) + ((0 : Nat) : Int) = 0 by omega, show (0 : Int) + ((1 : Nat) : Int) = 1 by omega, show (0 : Int) + ((2 : Nat) : Int) = 2 by omega]
    omega
  rw [e]
  unfold cD sd
  rw [← smF_pl, ← smF_pl]
  refine smF_cg _ (fun f q1 q2 => ?_)
  have r := hf f q1 (by omega)
  by_cases h9 : h f = -9
  · rw [if_neg (fun z => z.2 h9), if_neg (fun z => z.2 h9), if_neg (fun z => z.2 h9), if_neg (fun z => z.2 h9)]
    rfl
  · rcases (show fo f = -1 ∨ fo f = 0 ∨ fo f = 1 ∨ fo f = 2 by omega) with e | e | e | e
    · rw [e, if_neg (fun z => absurd z.1 (by decide)), if_neg (fun z => absurd z.1 (by decide)), if_neg (fun z => absurd z.1 (by decide)), if_neg (fun z => absurd z.1 (by decide))]
      rfl
    · rw [e, if_pos ⟨rfl, h9⟩, if_neg (fun z => absurd z.1 (by decide)), if_neg (fun z => absurd z.1 (by decide)), if_pos ⟨by decide, h9⟩]
      omega
    · rw [e, if_neg (fun z => absurd z.1 (by decide)), if_pos ⟨rfl, h9⟩, if_neg (fun z => absurd z.1 (by decide)), if_pos ⟨by decide, h9⟩]
      omega
    · rw [e, if_neg (fun z => absurd z.1 (by decide)), if_neg (fun z => absurd z.1 (by decide)), if_pos ⟨rfl, h9⟩, if_pos ⟨by decide, h9⟩]
      omega
/-- a firm that doesn't count has no fortnight -/
theorem no_i {fo h du told : Int → Int} {i : Int} (hn : ∀ f, 0 ≤ f → f ≤ 9 → ¬ fo f = i) : nl fo h i = 0 ∧ sh fo h i = 0 ∧ cP fo du told i = 0 ∧ cD fo du h i = 0 := ⟨smF_0 _ (fun f q1 q2 => if_neg (fun z => hn f q1 (by omega) z.1)), smF_0 _ (fun f q1 q2 => if_neg (fun z => hn f q1 (by omega) z.1)), smF_0 _ (fun f q1 q2 => if_neg (fun z => hn f q1 (by omega) z)), smF_0 _ (fun f q1 q2 => if_neg (fun z => hn f q1 (by omega) z.1))⟩
theorem x141 {μ0 : qM} {d : Nat} {Q : qV → qM → Prop} {μ : qM} {a1 a2 : Int} (h : Sm μ0 μ) (hb : okR μ0) (h0 : 0 ≤ a1) (h1 : a1 ≤ 5) (hs : okS μ0 a1 a2) (ht : ∀ f, 0 ≤ f → f ≤ 9 → 0 ≤ μ0 177 (10 * a1 + f) ∧ μ0 177 (10 * a1 + f) ≤ 20) (hQ : ∀ a μ', Sm μ0 μ' → (∀ f, μ' 186 f = μ 186 f) → ((FE (foM μ0 a1 a2) (SxM μ0 a1 a2) (μ 186) ∧ a = 1 ∧ μ' 170 28 = WY (foM μ0 a1 a2) (SxM μ0 a1 a2) (μ 186) ∧ μ' 170 29 = pd (foM μ0 a1 a2) (duM μ0 a2) (fun f => μ0 177 (10 * a1 + f)) - (sd (foM μ0 a1 a2) (duM μ0 a2) (μ 186) + mxS (foM μ0 a1 a2) (SxM μ0 a1 a2) (duM μ0 a2) (μ 186)) ∧ μ' 170 30 = pd (foM μ0 a1 a2) (duM μ0 a2) (fun f => μ0 177 (10 * a1 + f)) - (sd (foM μ0 a1 a2) (duM μ0 a2) (μ 186) + mnS (foM μ0 a1 a2) (SxM μ0 a1 a2) (duM μ0 a2) (μ 186))) ∨ (¬ FE (foM μ0 a1 a2) (SxM μ0 a1 a2) (μ 186) ∧ a = 0)) → Q (.inl a) μ') : qmw (d + 4) 141 [(.inr (.inr (.inl (170)))), (.inl (a1)), (.inl (a2))] μ Q := by
  have hf := sa_mfirms h.1 a1
  rw [h.2 181 a1 (by omega)] at hf
  have fr : ∀ {ν : qM} {c i : Int}, Sm μ0 ν → (181 ≤ c ∧ c ≤ 185) → ν c i = μ0 c i := fun hm hc => hm.2 _ _ (by omega)
  have hh : okH (μ 186) := fun f _ _ => sa_mheld h.1 f
  have hd : okD (duM μ0 a2) := fun p q1 q2 => by
    have z := okD_M h.1 (fun i z1 z2 => by
      rw [h.2 170 4 (by omega)] at z2
      have bE : ∀ c j, 0 ≤ c → c ≤ 4 → bM μ c j = bM μ0 c j := fun c j k1 k2 => h.2 _ _ (by omega)
      unfold RGf
      rw [bE 0 _ (by decide) (by decide), bE 1 _ (by decide) (by decide), bE 2 _ (by decide) (by decide), bE 3 _ (by decide) (by decide), bE 4 _ (by decide) (by decide)]
      exact hb i z1 z2) a2 p q1 q2
    rw [duM_sm h] at z
    exact z
  have hfo : ∀ f, 0 ≤ f → f ≤ 9 → -1 ≤ foM μ0 a1 a2 f ∧ foM μ0 a1 a2 f ≤ 2 := fun f _ _ => by
    have := fw_r (F := fun i => μ0 182 (3 * a1 + i)) (T := fun i => μ0 183 (3 * a1 + i)) (D := fun i => μ0 185 (3 * a1 + i)) (f := f) (day := a2) hf.2 hf.1
    exact ⟨this.1, this.2.2⟩
  have hno : ∀ i, 0 ≤ i → ¬ (i < μ0 181 a1 ∧ μ0 185 (3 * a1 + i) ≤ a2) → ∀ f, 0 ≤ f → f ≤ 9 → ¬ foM μ0 a1 a2 f = i := fun i q0 q f _ _ e => by
    rcases fw_FW (F := fun i => μ0 182 (3 * a1 + i)) (T := fun i => μ0 183 (3 * a1 + i)) (D := fun i => μ0 185 (3 * a1 + i)) (f := f) (day := a2) hf.2 with z | z
    · have : foM μ0 a1 a2 f = -1 := z.1
      omega
    · have e2 : fw (μ0 181 a1) (fun i => μ0 182 (3 * a1 + i)) (fun i => μ0 183 (3 * a1 + i)) (fun i => μ0 185 (3 * a1 + i)) f a2 = i := e
      rw [e2] at z
      exact q ⟨z.2.1, z.2.2.1.1⟩
  -- names
  unfold okS at hs
  generalize hfoE : foM μ0 a1 a2 = fo at *
  generalize hduE : duM μ0 a2 = du at *
  have hSx : ∀ i, ¬ (i < μ0 181 a1 ∧ μ0 185 (3 * a1 + i) ≤ a2) → SxM μ0 a1 a2 i = 0 := fun i q => by
    unfold SxM
    rw [if_neg q]
  have hSx2 : ∀ i, (i < μ0 181 a1 ∧ μ0 185 (3 * a1 + i) ≤ a2) → SxM μ0 a1 a2 i = μ0 184 (3 * a1 + i) := fun i q => by
    unfold SxM
    rw [if_pos q]
  generalize SxM μ0 a1 a2 = Sx at *
  generalize hhE : μ 186 = hh' at *
  have G : ∀ i, 0 ≤ i → ¬ (i < μ0 181 a1 ∧ μ0 185 (3 * a1 + i) ≤ a2) → (nl fo hh' i = 0 ∧ sh fo hh' i = 0 ∧ cP fo du (fun f => μ0 177 (10 * a1 + f)) i = 0 ∧ cD fo du hh' i = 0) ∧ Sx i = 0 := fun i q0 q => ⟨no_i (hno i q0 q), hSx i q⟩
  -- the values by firms
  have key : ∀ (any : Int) (ν : qM), Sm μ0 ν → (∀ f, ν 186 f = hh' f) → ∀ i, 0 ≤ i → i ≤ μ0 181 a1 → ((((∀ j, 0 ≤ j → j < i → 0 ≤ Sx j - sh fo hh' j ∧ Sx j - sh fo hh' j ≤ 20 * nl fo hh' j)) ∧ any = 1 ∧ ν 170 28 = pw (fun i => Wm (nl fo hh' i).toNat (Sx i - sh fo hh' i)) i.toNat ∧ ν 170 29 = smF (fun i => cP fo du (fun f => μ0 177 (10 * a1 + f)) i - cD fo du hh' i - mxD du (nl fo hh' i).toNat (Sx i - sh fo hh' i)) 0 i.toNat ∧ ν 170 30 = smF (fun i => cP fo du (fun f => μ0 177 (10 * a1 + f)) i - cD fo du hh' i - mnD du (nl fo hh' i).toNat (Sx i - sh fo hh' i)) 0 i.toNat) ∨ ((∃ j, 0 ≤ j ∧ j < i ∧ ¬ (0 ≤ Sx j - sh fo hh' j ∧ Sx j - sh fo hh' j ≤ 20 * nl fo hh' j)) ∧ any = 0)) → i = μ0 181 a1 → (0 ≤ any ∧ any ≤ 1) ∧ Q (.inl any) ν := fun any ν hm e186 i q0 q1 st ei => by
    subst ei
    rcases st with ⟨s1, s2, s3, s4, s5⟩ | ⟨⟨j, j1, j2, j3⟩, s2⟩
    · refine ⟨by omega, hQ _ _ hm e186 (Or.inl ⟨fun j k1 k2 => ?_, s2, ?_, ?_, ?_⟩)⟩
      · by_cases k3 : j < μ0 181 a1
        · exact s1 j k1 k3
        · have g := G j k1 (fun z => k3 z.1)
          rw [g.1.1, g.1.2.1, g.2]
          exact ⟨by decide, by decide⟩
      · rw [s3]
        have ext : ∀ k : Nat, (μ0 181 a1).toNat + k ≤ 3 → pw (fun i => Wm (nl fo hh' i).toNat (Sx i - sh fo hh' i)) ((μ0 181 a1).toNat + k) = pw (fun i => Wm (nl fo hh' i).toNat (Sx i - sh fo hh' i)) (μ0 181 a1).toNat := fun k => by
          induction k with
          | zero => intro _; rfl
          | succ k ih =>
            intro hk
            have g := G (((μ0 181 a1).toNat + k : Nat) : Int) (by omega) (fun z => by omega)
            show pw _ ((μ0 181 a1).toNat + k + 1) = _
            rw [pw, ih (by omega), g.1.1, g.1.2.1, g.2]
            show _ * Wm 0 (0 - 0) % 1000000007 = _
            have w1 : Wm 0 (0 - 0) = 1 := by decide
            have r := pw_r (fun i => Wm (nl fo hh' i).toNat (Sx i - sh fo hh' i)) (μ0 181 a1).toNat
            rw [w1, Int.mul_one]
            exact Int.emod_eq_of_lt r.1 r.2
        have z := ext (3 - (μ0 181 a1).toNat) (by omega)
        rw [show (μ0 181 a1).toNat + (3 - (μ0 181 a1).toNat) = 3 by omega] at z
        exact z.symm
      · have z : smF (fun i => cP fo du (fun f => μ0 177 (10 * a1 + f)) i - cD fo du hh' i - mxD du (nl fo hh' i).toNat (Sx i - sh fo hh' i)) 0 3 = smF (fun i => cP fo du (fun f => μ0 177 (10 * a1 + f)) i - cD fo du hh' i - mxD du (nl fo hh' i).toNat (Sx i - sh fo hh' i)) 0 (μ0 181 a1).toNat := by
          rw [show 3 = (μ0 181 a1).toNat + (3 - (μ0 181 a1).toNat) by omega, smF_ad, smF_0 (3 - (μ0 181 a1).toNat) (fun j k1 k2 => ?_), Int.add_zero]
          have g := G j (by omega) (fun z => by omega)
          rw [g.1.1, g.1.2.1, g.1.2.2.1, g.1.2.2.2, g.2]
          rfl
        rw [s4, ← z, ← cP_3 hfo, ← cD_3 hfo]
        have lin : ∀ x y w : Int → Int, smF (fun i => x i - y i - w i) 0 3 = smF x 0 3 - (smF y 0 3 + smF w 0 3) := fun x y w => by
          show 0 + (x _ - y _ - w _) + (x _ - y _ - w _) + (x _ - y _ - w _) = (0 + x _ + x _ + x _) - ((0 + y _ + y _ + y _) + (0 + w _ + w _ + w _))
          omega
        exact lin _ _ _
      · have z : smF (fun i => cP fo du (fun f => μ0 177 (10 * a1 + f)) i - cD fo du hh' i - mnD du (nl fo hh' i).toNat (Sx i - sh fo hh' i)) 0 3 = smF (fun i => cP fo du (fun f => μ0 177 (10 * a1 + f)) i - cD fo du hh' i - mnD du (nl fo hh' i).toNat (Sx i - sh fo hh' i)) 0 (μ0 181 a1).toNat := by
          rw [show 3 = (μ0 181 a1).toNat + (3 - (μ0 181 a1).toNat) by omega, smF_ad, smF_0 (3 - (μ0 181 a1).toNat) (fun j k1 k2 => ?_), Int.add_zero]
          have g := G j (by omega) (fun z => by omega)
          rw [g.1.1, g.1.2.1, g.1.2.2.1, g.1.2.2.2, g.2]
          rfl
        rw [s5, ← z, ← cP_3 hfo, ← cD_3 hfo]
        have lin : ∀ x y w : Int → Int, smF (fun i => x i - y i - w i) 0 3 = smF x 0 3 - (smF y 0 3 + smF w 0 3) := fun x y w => by
          show 0 + (x _ - y _ - w _) + (x _ - y _ - w _) + (x _ - y _ - w _) = (0 + x _ + x _ + x _) - ((0 + y _ + y _ + y _) + (0 + w _ + w _ + w _))
          omega
        exact lin _ _ _
    · exact ⟨by omega, hQ _ _ hm e186 (Or.inr ⟨fun fe => j3 (fe j j1 (by omega)), s2⟩)⟩
  rw [e141, g141_0, q32_id (z := 3 * a1) (by omega) (by omega)]
  have k0 : qW (d + 3) 141 Q 22 [some (.inr (.inr (.inl (170)))), some (.inl (a1)), some (.inl (a2)), some (.inl (1)), some (.inl (3 * a1 + 0)), none, none] [] (qu (qu (qu μ 170 28 1) 170 29 0) 170 30 0) → qW (d + 3) 141 Q 22 [some (.inr (.inr (.inl (170)))), some (.inl (a1)), some (.inl (a2)), some (.inl (1)), some (.inl (3 * a1)), none, none] [] (qu (qu (qu μ 170 28 1) 170 29 0) 170 30 0) := fun z => by
    rw [Int.add_zero] at z
    exact z
  refine k0 ?_
  clear k0 hQ
  refine qup (μ0 181 a1) (P := fun i => ∀ (any : Int) (o5 o6 : Option qV) (ν : qM), 0 ≤ i → Sm μ0 ν → (∀ f, ν 186 f = hh' f) → ((((∀ j, 0 ≤ j → j < i → 0 ≤ Sx j - sh fo hh' j ∧ Sx j - sh fo hh' j ≤ 20 * nl fo hh' j)) ∧ any = 1 ∧ ν 170 28 = pw (fun i => Wm (nl fo hh' i).toNat (Sx i - sh fo hh' i)) i.toNat ∧ ν 170 29 = smF (fun i => cP fo du (fun f => μ0 177 (10 * a1 + f)) i - cD fo du hh' i - mxD du (nl fo hh' i).toNat (Sx i - sh fo hh' i)) 0 i.toNat ∧ ν 170 30 = smF (fun i => cP fo du (fun f => μ0 177 (10 * a1 + f)) i - cD fo du hh' i - mnD du (nl fo hh' i).toNat (Sx i - sh fo hh' i)) 0 i.toNat) ∨ ((∃ j, 0 ≤ j ∧ j < i ∧ ¬ (0 ≤ Sx j - sh fo hh' j ∧ Sx j - sh fo hh' j ≤ 20 * nl fo hh' j)) ∧ any = 0)) → qW (d + 3) 141 Q 22 [some (.inr (.inr (.inl (170)))), some (.inl (a1)), some (.inl (a2)), some (.inl (any)), some (.inl (3 * a1 + i)), o5, o6] [] ν) (fun i ih hB any o5 o6 ν hi hm e186 st => ?_) 0 (by omega) _ _ _ _ (by omega) (Sm_u (Sm_u (Sm_u h (by omega) (by omega)) (by omega) (by omega)) (by omega) (by omega)) (fun f => by rw [qu_cell (by decide), qu_cell (by decide), qu_cell (by decide), ← hhE]) (Or.inl ⟨fun j q1 q2 => by omega, rfl, by rw [qu_ne (by omega), qu_ne (by omega), qu_same]; rfl, by rw [qu_ne (by omega), qu_same]; rfl, by rw [qu_same]; rfl⟩)
  have e181 : ν 181 a1 = μ0 181 a1 := fr hm (by omega)
  have e185 : ν 185 (3 * a1 + i) = μ0 185 (3 * a1 + i) := fr hm (by omega)
  have e184 : ν 184 (3 * a1 + i) = μ0 184 (3 * a1 + i) := fr hm (by omega)
  have h01 : any = 0 ∨ any = 1 := by
    rcases st with ⟨-, z, -⟩ | ⟨-, z⟩
    · exact Or.inr z
    · exact Or.inl z
  rw [g141_22, e181, e185, e184, q32_id (z := 3 * a1) (by omega) (by omega), q32_id (z := 3 * a1 + μ0 181 a1) (by omega) (by omega)]
  refine ⟨by omega, fun q => key any ν hm e186 i hi hB st (by omega), fun q => ⟨by omega, fun q1 => ?_, fun q1 => ⟨by omega, ?_⟩⟩⟩
  · -- doesn't count
    have g := G i hi (fun z => absurd z.2 (Int.not_le.mpr q1))
    rw [q32_id (by omega) (by omega), Int.add_assoc]
    refine ih _ (by omega) (by omega) _ _ _ _ (by omega) hm e186 ?_
    rcases st with ⟨s1, s2, s3, s4, s5⟩ | ⟨⟨j, j1, j2, j3⟩, s2⟩
    · refine Or.inl ⟨fun j k1 k2 => ?_, s2, ?_, ?_, ?_⟩
      · by_cases k3 : j = i
        · rw [k3, g.1.1, g.1.2.1, g.2]
          exact ⟨by decide, by decide⟩
        · exact s1 j k1 (by omega)
      · rw [show (i + 1).toNat = i.toNat + 1 by omega, pw, show ((i.toNat : Nat) : Int) = i by omega, g.1.1, g.1.2.1, g.2, ← s3]
        have w1 : Wm (0 : Int).toNat (0 - 0) = 1 := by decide
        have r := pw_r (fun i => Wm (nl fo hh' i).toNat (Sx i - sh fo hh' i)) i.toNat
        rw [← s3] at r
        rw [w1, Int.mul_one]
        exact (Int.emod_eq_of_lt r.1 r.2).symm
      · rw [show (i + 1).toNat = i.toNat + 1 by omega, smF, show (0 : Int) + ((i.toNat : Nat) : Int) = i by omega, g.1.1, g.1.2.1, g.1.2.2.1, g.1.2.2.2, g.2, ← s4]
        show _ = _ + ((0 : Int) - 0 - mxD du (0 : Int).toNat (0 - 0))
        have : mxD du (0 : Int).toNat (0 - 0) = 0 := rfl
        omega
      · rw [show (i + 1).toNat = i.toNat + 1 by omega, smF, show (0 : Int) + ((i.toNat : Nat) : Int) = i by omega, g.1.1, g.1.2.1, g.1.2.2.1, g.1.2.2.2, g.2, ← s5]
        show _ = _ + ((0 : Int) - 0 - mnD du (0 : Int).toNat (0 - 0))
        have : mnD du (0 : Int).toNat (0 - 0) = 0 := rfl
        omega
    · exact Or.inr ⟨⟨j, j1, by omega, j3⟩, s2⟩
  · -- counts
    have cnt : i < μ0 181 a1 ∧ μ0 185 (3 * a1 + i) ≤ a2 := ⟨by omega, q1⟩
    have sp := hs i hi cnt.1 cnt.2
    have eS := hSx2 i cnt
    have hsum := sa_msum hm.1 (3 * a1 + i)
    rw [e184] at hsum
    -- sums over the span
    have ein : ∀ x : Int → Int, smF (fun f => if fo f = i then x f else 0) 0 10 = smF x (μ0 182 (3 * a1 + i)) (μ0 183 (3 * a1 + i) - μ0 182 (3 * a1 + i) + 1).toNat := fun x => by
      rw [← smF_in sp.1.1 sp.1.2.1 sp.1.2.2]
      refine smF_cg _ (fun f k1 k2 => ?_)
      have z := sp.2 f k1 (by omega)
      by_cases k3 : fo f = i
      · rw [if_pos k3, if_pos (z.mp k3)]
      · rw [if_neg k3, if_neg (fun y => k3 (z.mpr y))]
    have enl : nl fo hh' i = smF (fun f => if hh' f = -9 then 1 else 0) (μ0 182 (3 * a1 + i)) (μ0 183 (3 * a1 + i) - μ0 182 (3 * a1 + i) + 1).toNat := by
      rw [← ein]
      refine smF_cg _ (fun f k1 k2 => ?_)
      by_cases k3 : fo f = i
      · by_cases k4 : hh' f = -9
        · rw [if_pos ⟨k3, k4⟩, if_pos k3, if_pos k4]
        · rw [if_neg (fun y => k4 y.2), if_pos k3, if_neg k4]
      · rw [if_neg (fun y => k3 y.1), if_neg k3]
    have esh : sh fo hh' i = smF (fun f => if hh' f = -9 then 0 else hh' f) (μ0 182 (3 * a1 + i)) (μ0 183 (3 * a1 + i) - μ0 182 (3 * a1 + i) + 1).toNat := by
      rw [← ein]
      refine smF_cg _ (fun f k1 k2 => ?_)
      by_cases k3 : fo f = i
      · by_cases k4 : hh' f = -9
        · rw [if_neg (fun y => y.2 k4), if_pos k3, if_pos k4]
        · rw [if_pos ⟨k3, k4⟩, if_pos k3, if_neg k4]
      · rw [if_neg (fun y => k3 y.1), if_neg k3]
    have ecc : cP fo du (fun f => μ0 177 (10 * a1 + f)) i - cD fo du hh' i = smF (fun f => du (μ0 177 (10 * a1 + f)) - (if hh' f = -9 then 0 else du (hh' f))) (μ0 182 (3 * a1 + i)) (μ0 183 (3 * a1 + i) - μ0 182 (3 * a1 + i) + 1).toNat := by
      rw [← ein]
      have z : cP fo du (fun f => μ0 177 (10 * a1 + f)) i = smF (fun f => if fo f = i then du (μ0 177 (10 * a1 + f)) - (if hh' f = -9 then 0 else du (hh' f)) else 0) 0 10 + cD fo du hh' i := by
        unfold cP cD
        rw [← smF_pl]
        refine smF_cg _ (fun f k1 k2 => ?_)
        by_cases k3 : fo f = i
        · by_cases k4 : hh' f = -9
          · rw [if_pos k3, if_pos k3, if_pos k4, if_neg (fun y => y.2 k4)]
            dsimp only
            omega
          · rw [if_pos k3, if_pos k3, if_neg k4, if_pos ⟨k3, k4⟩]
            dsimp only
            omega
        · rw [if_neg k3, if_neg k3, if_neg (fun y => k3 y.1)]
          rfl
      omega
    -- the row at first
    have row : ∀ (ν2 : qM), Sm μ0 ν2 → (∀ f, ν2 186 f = hh' f) → (∀ k, 28 ≤ k → k ≤ 30 → ν2 170 k = ν 170 k) → (∀ s, 0 ≤ s → s ≤ μ0 184 (3 * a1 + i) → DPs ν2 du 0 0 0 s) → qW (d + 3) 141 Q 132 [some (.inr (.inr (.inl (170)))), some (.inl (a1)), some (.inl (a2)), some (.inl (any)), some (.inl (3 * a1 + i)), some (.inl (μ0 184 (3 * a1 + i))), some (.inl (μ0 182 (3 * a1 + i)))] [] ν2 := fun ν2 hm2 e2 f2 dp => by
      refine qup (μ0 183 (3 * a1 + i) + 1) (P := fun f => ∀ (ν2 : qM), μ0 182 (3 * a1 + i) ≤ f → Sm μ0 ν2 → (∀ f, ν2 186 f = hh' f) → (∀ k, 28 ≤ k → k ≤ 30 → ν2 170 k = ν 170 k) → (∀ s, 0 ≤ s → s ≤ μ0 184 (3 * a1 + i) → DPs ν2 du (smF (fun f => if hh' f = -9 then 1 else 0) (μ0 182 (3 * a1 + i)) (f - μ0 182 (3 * a1 + i)).toNat).toNat (smF (fun f => if hh' f = -9 then 0 else hh' f) (μ0 182 (3 * a1 + i)) (f - μ0 182 (3 * a1 + i)).toNat) (smF (fun f => du (μ0 177 (10 * a1 + f)) - (if hh' f = -9 then 0 else du (hh' f))) (μ0 182 (3 * a1 + i)) (f - μ0 182 (3 * a1 + i)).toNat) s) → qW (d + 3) 141 Q 132 [some (.inr (.inr (.inl (170)))), some (.inl (a1)), some (.inl (a2)), some (.inl (any)), some (.inl (3 * a1 + i)), some (.inl (μ0 184 (3 * a1 + i))), some (.inl (f))] [] ν2) (fun f ih2 hB2 ν2 hf1 hm2 e2 f2 dp => ?_) _ (by omega) ν2 (Int.le_refl _) hm2 e2 f2 (by rw [Int.sub_self]; exact dp)
      have e183 : ν2 183 (3 * a1 + i) = μ0 183 (3 * a1 + i) := fr hm2 (by omega)
      have b1 := smF_r (g := fun f => if hh' f = -9 then 1 else 0) (lo := μ0 182 (3 * a1 + i)) (B := 1) (f - μ0 182 (3 * a1 + i)).toNat (fun f' _ _ => by split <;> omega)
      rw [g141_132, e183]
      refine ⟨by omega, fun k1 => ?_, fun k1 => ?_⟩
      · -- the end of a span
        have ef : f - μ0 182 (3 * a1 + i) = μ0 183 (3 * a1 + i) - μ0 182 (3 * a1 + i) + 1 := by omega
        rw [ef, ← enl, ← esh, ← ecc, ← eS] at dp
        have dps := dp (Sx i) (by rw [eS]; exact hsum.1) (Int.le_refl _)
        rw [← eS, f2 28 (by decide) (by decide), f2 29 (by decide) (by decide), f2 30 (by decide) (by decide)]
        have hx : 0 ≤ Sx i ∧ Sx i < 201 := by
          rw [eS]
          omega
        have nr := nl_r (fo := fo) (h := hh') (i := i)
        have nx : ∀ (any' : Int) (x y z : Int), (∀ any'', any'' = any' → ((((∀ j, 0 ≤ j → j < i + 1 → 0 ≤ Sx j - sh fo hh' j ∧ Sx j - sh fo hh' j ≤ 20 * nl fo hh' j)) ∧ any'' = 1 ∧ x = pw (fun i => Wm (nl fo hh' i).toNat (Sx i - sh fo hh' i)) (i + 1).toNat ∧ y = smF (fun i => cP fo du (fun f => μ0 177 (10 * a1 + f)) i - cD fo du hh' i - mxD du (nl fo hh' i).toNat (Sx i - sh fo hh' i)) 0 (i + 1).toNat ∧ z = smF (fun i => cP fo du (fun f => μ0 177 (10 * a1 + f)) i - cD fo du hh' i - mnD du (nl fo hh' i).toNat (Sx i - sh fo hh' i)) 0 (i + 1).toNat) ∨ ((∃ j, 0 ≤ j ∧ j < i + 1 ∧ ¬ (0 ≤ Sx j - sh fo hh' j ∧ Sx j - sh fo hh' j ≤ 20 * nl fo hh' j)) ∧ any'' = 0))) → qW (d + 3) 141 Q 22 [some (.inr (.inr (.inl (170)))), some (.inl (a1)), some (.inl (a2)), some (.inl (any')), some (.inl (q32 (3 * a1 + i + 1))), some (.inl (Sx i)), some (.inl (f))] [] (qu (qu (qu ν2 170 28 x) 170 29 y) 170 30 z) := fun any' x y z hh9 => by
          rw [q32_id (by omega) (by omega), Int.add_assoc]
          refine ih _ (by omega) (by omega) _ _ _ _ (by omega) (Sm_u (Sm_u (Sm_u hm2 (by omega) (by omega)) (by omega) (by omega)) (by omega) (by omega)) (fun f => by rw [qu_cell (by decide), qu_cell (by decide), qu_cell (by decide)]; exact e2 f) ?_
          rw [qu_ne (c' := 170) (i' := 28) (by omega), qu_ne (c' := 170) (i' := 28) (by omega), qu_same, qu_ne (c' := 170) (i' := 29) (by omega), qu_same, qu_same]
          exact hh9 any' rfl
        clear ih ih2 key dp
        rcases st with ⟨s1, s2, s3, s4, s5⟩ | ⟨⟨j, j1, j2, j3⟩, s2⟩
        · refine ⟨fun q2 => by omega, fun q2 => ⟨hx, fun q3 => ⟨hx, by decide, hx, hx, nx 0 _ _ _ (fun a'' ea => Or.inr ⟨⟨i, hi, by omega, ?_⟩, ea⟩)⟩, fun q3 => ⟨hx, by decide, hx, hx, nx 1 _ _ _ (fun a'' ea => ?_)⟩⟩⟩
          · rcases dps with ⟨-, z, -⟩ | ⟨z, -⟩
            · exact absurd q3 z
            · omega
          · rcases dps with ⟨z, -, z1, z2, z3⟩ | ⟨-, z⟩
            · have zf : 0 ≤ Sx i - sh fo hh' i ∧ Sx i - sh fo hh' i ≤ 20 * nl fo hh' i := by omega
              have hW := Wm_r (nl fo hh' i).toNat (Sx i - sh fo hh' i)
              have r := pw_r (fun i => Wm (nl fo hh' i).toNat (Sx i - sh fo hh' i)) i.toNat
              rw [← s3] at r
              have hp : 0 ≤ ν 170 28 * Wm (nl fo hh' i).toNat (Sx i - sh fo hh' i) := Int.mul_nonneg r.1 hW.1
              have hp2 : ν 170 28 * Wm (nl fo hh' i).toNat (Sx i - sh fo hh' i) ≤ 1000000007 * 1000000007 := Int.mul_le_mul (by omega) (by omega) hW.1 (by decide)
              have mr := mxD_r hd (nl fo hh' i).toNat (Sx i - sh fo hh' i) zf.1 (by omega)
              have mr2 := mnD_r hd (nl fo hh' i).toNat (Sx i - sh fo hh' i) zf.1 (by omega)
              have bnd : ∀ j, 0 ≤ j → j ≤ i → (-990 ≤ cP fo du (fun f => μ0 177 (10 * a1 + f)) j - cD fo du hh' j ∧ cP fo du (fun f => μ0 177 (10 * a1 + f)) j - cD fo du hh' j ≤ 990) := fun j _ _ => by
                have y1 := smF_r (g := fun f => if fo f = j then du (μ0 177 (10 * a1 + f)) else 0) (lo := 0) (B := 99) 10 (fun f' k5 k6 => by
                  have := ht f' k5 (by omega)
                  have := hd _ this.1 this.2
                  split <;> omega)
                have y2 := smF_r (g := fun f => if fo f = j ∧ ¬ hh' f = -9 then du (hh' f) else 0) (lo := 0) (B := 99) 10 (fun f' k5 k6 => by
                  have z9 := hh f' k5 (by omega)
                  split
                  · exact hd _ (by omega) (by omega)
                  · omega)
                have y1' : 0 ≤ cP fo du (fun f => μ0 177 (10 * a1 + f)) j ∧ cP fo du (fun f => μ0 177 (10 * a1 + f)) j ≤ 990 := y1
                have y2' : 0 ≤ cD fo du hh' j ∧ cD fo du hh' j ≤ 990 := y2
                omega
              have bi := bnd i hi (Int.le_refl i)
              have sb : ∀ (g : Int → Int) (n : Nat), (∀ j : Int, 0 ≤ j → j < n → -2000 ≤ g j ∧ g j ≤ 2000) → -2000 * (n : Int) ≤ smF g 0 n ∧ smF g 0 n ≤ 2000 * (n : Int) := fun g n => by
                induction n with
                | zero =>
                  intro _
                  rw [smF]
                  omega
                | succ n ihn =>
                  intro hg
                  have a := ihn (fun j y1 y2 => hg j y1 (by omega))
                  have b := hg n (by omega) (by omega)
                  rw [smF, show (0 : Int) + (n : Int) = n by omega]
                  omega
              have b29 := sb (fun i => cP fo du (fun f => μ0 177 (10 * a1 + f)) i - cD fo du hh' i - mxD du (nl fo hh' i).toNat (Sx i - sh fo hh' i)) i.toNat (fun j y1 y2 => by
                have y3 := bnd j y1 (by omega)
                have y4 := s1 j y1 (by omega)
                have y6 := nl_r (fo := fo) (h := hh') (i := j)
                have y5 := mxD_r hd (nl fo hh' j).toNat (Sx j - sh fo hh' j) y4.1 (by omega)
                omega)
              have b30 := sb (fun i => cP fo du (fun f => μ0 177 (10 * a1 + f)) i - cD fo du hh' i - mnD du (nl fo hh' i).toNat (Sx i - sh fo hh' i)) i.toNat (fun j y1 y2 => by
                have y3 := bnd j y1 (by omega)
                have y4 := s1 j y1 (by omega)
                have y6 := nl_r (fo := fo) (h := hh') (i := j)
                have y5 := mnD_r hd (nl fo hh' j).toNat (Sx j - sh fo hh' j) y4.1 (by omega)
                omega)
              rw [← s4] at b29
              rw [← s5] at b30
              refine Or.inl ⟨fun j k5 k6 => ?_, ea, ?_, ?_, ?_⟩
              · by_cases k7 : j = i
                · rw [k7]
                  exact zf
                · exact s1 j k5 (by omega)
              · rw [z1, q64_id (by omega) (by omega), qlrem_p hp (by omega) (by decide) (by decide), show (i + 1).toNat = i.toNat + 1 by omega, pw, ← s3, show ((i.toNat : Nat) : Int) = i by omega]
              · rw [z2, q32_id (by omega) (by omega), show (i + 1).toNat = i.toNat + 1 by omega, smF, ← s4, show (0 : Int) + ((i.toNat : Nat) : Int) = i by omega]
              · rw [z3, q32_id (by omega) (by omega), show (i + 1).toNat = i.toNat + 1 by omega, smF, ← s5, show (0 : Int) + ((i.toNat : Nat) : Int) = i by omega]
            · exact absurd z q3
        · exact ⟨fun q2 => ⟨hx, by decide, hx, hx, nx 0 _ _ _ (fun a'' ea => Or.inr ⟨⟨j, j1, by omega, j3⟩, ea⟩)⟩, fun q2 => absurd s2 q2⟩
      · -- one fortnight
        have b2 := smF_r (g := fun f => if hh' f = -9 then 0 else hh' f) (lo := μ0 182 (3 * a1 + i)) (B := 20) (f - μ0 182 (3 * a1 + i)).toNat (fun f' k5 k6 => by
          have z9 := hh f' (by omega) (by omega)
          split <;> omega)
        have b3 : ∀ n : Nat, (n : Int) ≤ 10 - μ0 182 (3 * a1 + i) → -99 * (n : Int) ≤ smF (fun f => du (μ0 177 (10 * a1 + f)) - (if hh' f = -9 then 0 else du (hh' f))) (μ0 182 (3 * a1 + i)) n ∧ smF (fun f => du (μ0 177 (10 * a1 + f)) - (if hh' f = -9 then 0 else du (hh' f))) (μ0 182 (3 * a1 + i)) n ≤ 99 * (n : Int) := fun n => by
          induction n with
          | zero =>
            intro _
            rw [smF]
            omega
          | succ n ihn =>
            intro hn
            have a := ihn (by omega)
            have t1 := ht (μ0 182 (3 * a1 + i) + n) (by omega) (by omega)
            have t2 := hd _ t1.1 t1.2
            have z9 := hh (μ0 182 (3 * a1 + i) + n) (by omega) (by omega)
            rw [smF]
            by_cases k5 : hh' (μ0 182 (3 * a1 + i) + n) = -9
            · rw [if_pos k5]
              omega
            · have t3 := hd (hh' (μ0 182 (3 * a1 + i) + n)) (by omega) (by omega)
              rw [if_neg k5]
              omega
        have b3' := b3 (f - μ0 182 (3 * a1 + i)).toNat (by omega)
        refine x140 (H := smF (fun f => if hh' f = -9 then 0 else hh' f) (μ0 182 (3 * a1 + i)) (f - μ0 182 (3 * a1 + i)).toNat) (C := smF (fun f => du (μ0 177 (10 * a1 + f)) - (if hh' f = -9 then 0 else du (hh' f))) (μ0 182 (3 * a1 + i)) (f - μ0 182 (3 * a1 + i)).toNat) (l := (smF (fun f => if hh' f = -9 then 1 else 0) (μ0 182 (3 * a1 + i)) (f - μ0 182 (3 * a1 + i)).toNat).toNat) (told := μ0 177 (10 * a1 + f)) hm2 hb h0 h1 (by omega) (by omega) hsum.1 hsum.2 rfl (ht f (by omega) (by omega)) (by omega) (by omega) (by omega) (by rw [hduE]; exact dp) (fun ν3 t1 t2 t3 => ?_)
        rw [hduE] at t3
        rw [g141_154, q32_id (z := f + 1) (by omega) (by omega)]
        refine ih2 _ (by omega) (by omega) _ (by omega) t1 (fun f' => by rw [t2 _ _ (by omega)]; exact e2 f') (fun k k5 k6 => by rw [t2 _ _ (by omega)]; exact f2 k k5 k6) (fun s k5 k6 => ?_)
        rw [show (f + 1 - μ0 182 (3 * a1 + i)).toNat = (f - μ0 182 (3 * a1 + i)).toNat + 1 by omega, smF, smF, smF, show μ0 182 (3 * a1 + i) + (((f - μ0 182 (3 * a1 + i)).toNat : Nat) : Int) = f by omega]
        rw [e2 f] at t3
        rcases t3 with ⟨u1, u2⟩ | ⟨u1, u2⟩
        · rw [if_pos u1, if_pos u1, if_pos u1, Int.add_zero, Int.sub_zero]
          have z := u2 s k5 k6
          rw [show (smF (fun f => if hh' f = -9 then 1 else 0) (μ0 182 (3 * a1 + i)) (f - μ0 182 (3 * a1 + i)).toNat + 1).toNat = (smF (fun f => if hh' f = -9 then 1 else 0) (μ0 182 (3 * a1 + i)) (f - μ0 182 (3 * a1 + i)).toNat).toNat + 1 by omega]
          exact z
        · rw [if_neg u1, if_neg u1, if_neg u1, Int.add_zero, ← Int.add_sub_assoc]
          exact u2 s k5 k6
    clear ih key
    refine qup 201 (P := fun s => ∀ (ν2 : qM), 0 ≤ s → s ≤ μ0 184 (3 * a1 + i) + 1 → Sm μ0 ν2 → (∀ f, ν2 186 f = hh' f) → (∀ k, 28 ≤ k → k ≤ 30 → ν2 170 k = ν 170 k) → (∀ t, 0 ≤ t → t < s → DPs ν2 du 0 0 0 t) → qW (d + 3) 141 Q 60 [some (.inr (.inr (.inl (170)))), some (.inl (a1)), some (.inl (a2)), some (.inl (any)), some (.inl (3 * a1 + i)), some (.inl (μ0 184 (3 * a1 + i))), some (.inl (s))] [] ν2) (fun s ih2 hB2 ν2 hs0 hs1 hm2 e2 f2 dp => ?_) 0 (by omega) _ (by omega) (by omega) hm e186 (fun _ _ _ => rfl) (fun t k1 k2 => by omega)
    have e182 : ν2 182 (3 * a1 + i) = μ0 182 (3 * a1 + i) := fr hm2 (by omega)
    have w : ∀ x y, ((s = 0 ∧ x = 1 ∧ y = 1) ∨ (¬ s = 0 ∧ x = 0)) → s ≤ μ0 184 (3 * a1 + i) → qW (d + 3) 141 Q 60 [some (.inr (.inr (.inl (170)))), some (.inl (a1)), some (.inl (a2)), some (.inl (any)), some (.inl (3 * a1 + i)), some (.inl (μ0 184 (3 * a1 + i))), some (.inl (q32 (s + 1)))] [] (qu (qu (qu (qu ν2 190 s x) 187 s y) 188 s 0) 189 s 0) := fun x y hxy hle => by
      rw [q32_id (by omega) (by omega)]
      refine ih2 _ (by omega) (by omega) _ (by omega) (by omega) (Sm_u (Sm_u (Sm_u (Sm_u hm2 (by omega) (by omega)) (by omega) (by omega)) (by omega) (by omega)) (by omega) (by omega)) (fun f => by rw [qu_cell (by decide), qu_cell (by decide), qu_cell (by decide), qu_cell (by decide)]; exact e2 f) (fun k k5 k6 => by rw [qu_cell (by decide), qu_cell (by decide), qu_cell (by decide), qu_cell (by decide)]; exact f2 k k5 k6) (fun t k5 k6 => ?_)
      by_cases k7 : t = s
      · subst k7
        unfold DPs
        rw [qu_cell (c := 189) (c' := 190) (by decide), qu_cell (c := 188) (c' := 190) (by decide), qu_cell (c := 187) (c' := 190) (by decide), qu_same, qu_cell (c := 189) (c' := 187) (by decide), qu_cell (c := 188) (c' := 187) (by decide), qu_same, qu_cell (c := 189) (c' := 188) (by decide), qu_same, qu_same]
        rcases hxy with ⟨y1, y2, y3⟩ | ⟨y1, y2⟩
        · subst y1
          exact Or.inl ⟨⟨by decide, by decide⟩, by omega, by rw [y3]; decide, rfl, rfl⟩
        · exact Or.inr ⟨by omega, y2⟩
      · exact DPs_fr (dp t k5 (by omega)) (fun c z1 z2 => by rw [qu_ne (by omega), qu_ne (by omega), qu_ne (by omega), qu_ne (by omega)])
    clear ih2
    rw [g141_60, e182]
    simp only [qb11, qb00, true_and]
    have hx : s ≤ μ0 184 (3 * a1 + i) → 0 ≤ s ∧ s < 201 := fun k => by omega
    refine ⟨fun k1 => ⟨by omega, row ν2 hm2 e2 f2 (fun t k5 k6 => dp t k5 (by omega))⟩, fun k1 => ⟨fun k2 => ⟨hx k1, fun _ => ⟨hx k1, hx k1, hx k1, w _ _ (Or.inr ⟨k2, rfl⟩) k1⟩, fun k3 => absurd k3 k2⟩, fun k2 => ⟨hx k1, fun k3 => absurd k2 k3, fun _ => ⟨hx k1, hx k1, hx k1, w _ _ (Or.inl ⟨k2, rfl, rfl⟩) k1⟩⟩⟩⟩
