/-! THE REFERENCE: what is held, a fortnight's row -/
def duM (μ : qM) (day : Int) : Int → Int := fun p => dueB (bM μ) (lfn (μ 172) day (μ 170 4).toNat) p
def okR (μ : qM) : Prop := ∀ i, 0 ≤ i → i < μ 170 4 → RGf (bM μ) i
theorem okD_M {μ : qM} (hS : Safe μ) (hb : okR μ) (day : Int) : okD (duM μ day) := fun p q1 q2 => dueB_r (fun q => hb _ q (by
  have h := lfn_r (μ 172) day (μ 170 4).toNat
  have hz := sa_rules hS
  omega)) q1 (by omega)
theorem duM_sm {μ0 μ : qM} (h : Sm μ0 μ) (day p : Int) : duM μ day p = duM μ0 day p := by
  have e1 : μ 172 = μ0 172 := by
    funext i
    exact h.2 _ _ (by omega)
  have bE : ∀ c j, 0 ≤ c → c ≤ 4 → bM μ c j = bM μ0 c j := fun c j k1 k2 => h.2 _ _ (by omega)
  unfold duM dueB
  rw [e1, h.2 170 4 (by omega), bE 1 _ (by decide) (by decide), bE 2 _ (by decide) (by decide), bE 3 _ (by decide) (by decide), bE 4 _ (by decide) (by decide)]
theorem x131m {μ0 : qM} {d : Nat} {Q : qV → qM → Prop} {μ : qM} {a1 a2 : Int} (h : Sm μ0 μ) (hb : okR μ0) (h1 : 0 ≤ a1) (h2 : a1 ≤ 1000) (hQ : Q (.inl (duM μ0 a2 a1)) μ) : qmw (d + 1) 131 [(.inr (.inr (.inl (170)))), (.inl (a1)), (.inl (a2))] μ Q := by
  refine x131 h.1 h1 h2 (fun i q1 q2 => ?_) ?_
  · rw [h.2 170 4 (by omega)] at q2
    have bE : ∀ c j, 0 ≤ c → c ≤ 4 → bM μ c j = bM μ0 c j := fun c j k1 k2 => h.2 _ _ (by omega)
    unfold RGf
    rw [bE 0 _ (by decide) (by decide), bE 1 _ (by decide) (by decide), bE 2 _ (by decide) (by decide), bE 3 _ (by decide) (by decide), bE 4 _ (by decide) (by decide)]
    exact hb i q1 q2
  · have e : dueB (bM μ) (lfn (μ 172) a2 (μ 170 4).toNat) a1 = duM μ0 a2 a1 := duM_sm h a2 a1
    rw [e]
    exact hQ
theorem x139m {μ0 : qM} {d : Nat} {Q : qV → qM → Prop} {μ : qM} {a1 a2 a3 : Int} (h : Sm μ0 μ) (hb : okR μ0) (h0 : 0 ≤ a1) (h1 : a1 ≤ 5) (h2 : 0 ≤ a2) (h3 : a2 ≤ 9) (ht : 0 ≤ μ0 177 (10 * a1 + a2) ∧ μ0 177 (10 * a1 + a2) ≤ 20) (hQ : Q (.inl (duM μ0 a3 (μ0 177 (10 * a1 + a2)))) μ) : qmw (d + 2) 139 [(.inr (.inr (.inl (170)))), (.inl (a1)), (.inl (a2)), (.inl (a3))] μ Q := by
  rw [e139, g139_0, q32_id (z := 10 * a1) (by omega) (by omega), q32_id (z := 10 * a1 + a2) (by omega) (by omega), h.2 177 _ (by omega)]
  refine ⟨by omega, x131m h hb ht.1 (by omega) ?_⟩
  rw [g139_16]
  exact hQ
def foM (μ : qM) (p day : Int) : Int → Int := fun f => mfw μ p f day
def hM (μ : qM) (p day : Int) : Int → Int := fun f => if ¬ μ 179 (10 * p + f) = -9 ∧ μ 180 (10 * p + f) ≤ day ∧ ¬ mfw μ p f day = -1 then μ 179 (10 * p + f) else -9
theorem mfw_sm {μ0 μ : qM} (h : Sm μ0 μ) (p f day : Int) : mfw μ p f day = mfw μ0 p f day := by
  unfold mfw
  rw [h.2 181 p (by omega)]
  exact fw_cg (fun i _ _ => h.2 _ _ (by omega)) (fun i _ _ => h.2 _ _ (by omega)) (fun i _ _ => h.2 _ _ (by omega))
theorem x138 {μ0 : qM} {d : Nat} {Q : qV → qM → Prop} {μ : qM} {a1 a2 : Int} (h : Sm μ0 μ) (h0 : 0 ≤ a1) (h1 : a1 ≤ 5) (hQ : ∀ μ', Sm μ0 μ' → (∀ c i, ¬ c = 186 → μ' c i = μ c i) → (∀ f, 0 ≤ f → f ≤ 9 → μ' 186 f = hM μ0 a1 a2 f) → Q (.inl 0) μ') : qmw (d + 3) 138 [(.inr (.inr (.inl (170)))), (.inl (a1)), (.inl (a2))] μ Q := by
  rw [e138, g138_0]
  refine qup 10 (P := fun i => ∀ (o4 : Option qV) (ν : qM), 0 ≤ i → Sm μ0 ν → (∀ c j, ¬ c = 186 → ν c j = μ c j) → (∀ f, 0 ≤ f → f < i → ν 186 f = hM μ0 a1 a2 f) → qW (d + 2) 138 Q 2 [some (.inr (.inr (.inl (170)))), some (.inl (a1)), some (.inl (a2)), some (.inl (i)), o4] [] ν) (fun i ih hB o4 ν hi hm fr hf => ?_) 0 (by omega) _ _ (by omega) h (fun _ _ _ => rfl) (fun f q1 q2 => by omega)
  have st : ∀ (o4 : Option qV) (v : Int), i < 10 → (v = -9 ∨ (0 ≤ v ∧ v ≤ 20)) → v = hM μ0 a1 a2 i → qW (d + 2) 138 Q 2 [some (.inr (.inr (.inl (170)))), some (.inl (a1)), some (.inl (a2)), some (.inl (i + 1)), o4] [] (qu ν 186 i v) := fun o4 v q1 q2 q3 => by
    refine ih _ (by omega) (by omega) _ _ (by omega) (Sm_u hm (by omega) (fun _ => q2)) (fun c j q4 => by rw [qu_cell q4]; exact fr c j q4) (fun f q4 q5 => ?_)
    by_cases e : f = i
    · rw [e, qu_same]
      exact q3
    · rw [qu_ne (by omega)]
      exact hf f q4 (by omega)
  clear ih
  have e179 : ν 179 (10 * a1 + i) = μ0 179 (10 * a1 + i) := hm.2 _ _ (by omega)
  have e180 : ν 180 (10 * a1 + i) = μ0 180 (10 * a1 + i) := hm.2 _ _ (by omega)
  have hs := sa_slip hm.1 (10 * a1 + i)
  rw [e179] at hs
  rw [g138_2, q32_id (z := 10 * a1) (by omega) (by omega), q32_id (z := 10 * a1 + i) (by omega) (by omega), q32_id (z := i + 1) (by omega) (by omega), e179, e180]
  refine ⟨fun q => hQ _ hm fr (fun f q1 q2 => hf f q1 (by omega)), fun q => ⟨by omega, fun q1 => ⟨by omega, st _ _ q (Or.inl rfl) ?_⟩, fun q1 => ⟨by omega, fun q2 => ⟨by omega, st _ _ q (Or.inl rfl) ?_⟩, fun q2 => x136 hm.1 h0 (by omega) ?_⟩⟩⟩
  · unfold hM
    rw [if_neg (fun z => z.1 q1)]
  · unfold hM
    rw [if_neg (fun z => absurd z.2.1 (Int.not_le.mpr q2))]
  · have r : -1 ≤ mfw μ0 a1 i a2 := by
      have hf3 := sa_mfirms hm.1 a1
      rw [hm.2 181 a1 (by omega)] at hf3
      exact (fw_r hf3.2 hf3.1).1
    rw [mfw_sm hm, g138_51, q32_id (z := i + 1) (by omega) (by omega), e179]
    refine ⟨fun q3 => ⟨by omega, st _ _ q (Or.inl rfl) ?_⟩, fun q3 => ⟨by omega, by omega, st _ _ q hs ?_⟩⟩
    · have e9 : mfw μ0 a1 i a2 = -1 := by
        by_cases z : mfw μ0 a1 i a2 = -1
        · exact z
        · rw [if_neg z] at q3
          omega
      unfold hM
      rw [if_neg (fun z => z.2.2 e9)]
    · have e9 : ¬ mfw μ0 a1 i a2 = -1 := fun z => q3 (by rw [if_pos z])
      unfold hM
      rw [if_pos ⟨q1, q2, e9⟩]
/-- one place of the reference's rows: l loose ones, H shown, C what is paid less what is due of the shown -/
def DPs (ν : qM) (du : Int → Int) (l : Nat) (H C s : Int) : Prop := ((0 ≤ s - H ∧ s - H ≤ 20 * l) ∧ ¬ ν 190 s = 0 ∧ ν 187 s = Wm l (s - H) ∧ ν 188 s = C - mxD du l (s - H) ∧ ν 189 s = C - mnD du l (s - H)) ∨ (¬ (0 ≤ s - H ∧ s - H ≤ 20 * l) ∧ ν 190 s = 0)
theorem DPs_fr {ν ν' : qM} {du : Int → Int} {l : Nat} {H C s : Int} (h : DPs ν du l H C s) (k : ∀ c, 187 ≤ c → c ≤ 190 → ν' c s = ν c s) : DPs ν' du l H C s := by
  unfold DPs
  rw [k 190 (by decide) (by decide), k 187 (by decide) (by decide), k 188 (by decide) (by decide), k 189 (by decide) (by decide)]
  exact h
theorem k117 {d : Nat} {Q : qV → qM → Prop} {μ : qM} {a1 a2 a3 a4 a5 a6 a7 s w9 a11 a12 a13 v dd : Int} {o15 : Option qV} (hx : 0 ≤ s - v ∧ s - v < 201) (hv : v ≤ 200) (h13 : a13 = 0 ∨ a13 = 1) (h : ∀ x y, ((a13 = 0 ∧ x = q32 (μ 188 (s - v) + q32 (a7 - dd)) ∧ y = q32 (μ 189 (s - v) + q32 (a7 - dd))) ∨ (a13 = 1 ∧ x = qmin a11 (q32 (μ 188 (s - v) + q32 (a7 - dd))) ∧ y = qmax a12 (q32 (μ 189 (s - v) + q32 (a7 - dd))))) → ∀ o15, qW d 140 Q 81 [some (.inr (.inr (.inl (170)))), some (.inl (a1)), some (.inl (a2)), some (.inl (a3)), some (.inl (a4)), some (.inl (a5)), some (.inl (a6)), some (.inl (a7)), some (.inl (s)), some (.inr (.inl (q64 (w9 + μ 187 (s - v))))), none, some (.inl (x)), some (.inl (y)), some (.inl (1)), some (.inl (q32 (v + 1))), o15] [] μ) : qW d 140 Q 117 [some (.inr (.inr (.inl (170)))), some (.inl (a1)), some (.inl (a2)), some (.inl (a3)), some (.inl (a4)), some (.inl (a5)), some (.inl (a6)), some (.inl (a7)), some (.inl (s)), some (.inr (.inl (w9))), none, some (.inl (a11)), some (.inl (a12)), some (.inl (a13)), some (.inl (v)), o15] [(.inl (dd)), (.inl (a7))] μ := by
  have e1 : q32 (s - v) = s - v := q32_id (by omega) (by omega)
  rw [g140_117, e1]
  refine ⟨hx, fun q => ⟨hx, fun _ => ⟨hx, h _ _ (Or.inl ⟨q, rfl, rfl⟩) _⟩, fun q2 => absurd q q2⟩, fun q => ⟨hx, fun q2 => ⟨fun q3 => absurd q3 q, fun _ => ⟨hx, fun q4 => h _ _ (Or.inr ⟨by omega, ?_, ?_⟩) _, fun q4 => ⟨hx, h _ _ (Or.inr ⟨by omega, ?_, ?_⟩) _⟩⟩⟩, fun q2 => ⟨hx, fun q3 => absurd q3 q, fun _ => ⟨hx, fun q4 => h _ _ (Or.inr ⟨by omega, ?_, ?_⟩) _, fun q4 => ⟨hx, h _ _ (Or.inr ⟨by omega, ?_, ?_⟩) _⟩⟩⟩⟩⟩
  all_goals first
    | (unfold qmin; rw [if_neg (Int.not_lt.mpr q2)])
    | (unfold qmin; rw [if_pos q2])
    | (unfold qmax; rw [if_neg (Int.not_lt.mpr q4)])
    | (unfold qmax; rw [if_pos q4])
theorem x140 {μ0 : qM} {d : Nat} {Q : qV → qM → Prop} {μ : qM} {a1 a2 a3 a4 H C : Int} {l : Nat} {told : Int} (h : Sm μ0 μ) (hb : okR μ0) (h0 : 0 ≤ a1) (h1 : a1 ≤ 5) (h2 : 0 ≤ a2) (h3 : a2 ≤ 9) (h4 : 0 ≤ a4) (h5 : a4 ≤ 200) (et : told = μ0 177 (10 * a1 + a2)) (ht : 0 ≤ told ∧ told ≤ 20) (hl : l ≤ 9) (hH : 0 ≤ H ∧ H ≤ 200) (hC : -5000 ≤ C ∧ C ≤ 5000) (hr : ∀ s, 0 ≤ s → s ≤ a4 → DPs μ (duM μ0 a3) l H C s) (hQ : ∀ μ', Sm μ0 μ' → (∀ c i, ¬ (187 ≤ c ∧ c ≤ 190) → μ' c i = μ c i) → ((μ 186 a2 = -9 ∧ ∀ s, 0 ≤ s → s ≤ a4 → DPs μ' (duM μ0 a3) (l + 1) H (C + duM μ0 a3 told) s) ∨ (¬ μ 186 a2 = -9 ∧ ∀ s, 0 ≤ s → s ≤ a4 → DPs μ' (duM μ0 a3) l (H + μ 186 a2) (C + duM μ0 a3 told - duM μ0 a3 (μ 186 a2)) s)) → Q (.inl 0) μ') : qmw (d + 3) 140 [(.inr (.inr (.inl (170)))), (.inl (a1)), (.inl (a2)), (.inl (a3)), (.inl (a4))] μ Q := by
  have hh := sa_mheld h.1 a2
  have hd : okD (duM μ0 a3) := fun p q1 q2 => by
    have z := okD_M h.1 (fun i z1 z2 => by
      rw [h.2 170 4 (by omega)] at z2
      have bE : ∀ c j, 0 ≤ c → c ≤ 4 → bM μ c j = bM μ0 c j := fun c j k1 k2 => h.2 _ _ (by omega)
      unfold RGf
      rw [bE 0 _ (by decide) (by decide), bE 1 _ (by decide) (by decide), bE 2 _ (by decide) (by decide), bE 3 _ (by decide) (by decide), bE 4 _ (by decide) (by decide)]
      exact hb i z1 z2) a3 p q1 q2
    rw [duM_sm h] at z
    exact z
  have hdt := hd told ht.1 ht.2
  -- what a place holds, for one that is read
  have rd : ∀ {ν : qM} {s v : Int}, (∀ c j, 187 ≤ c → c ≤ 190 → j ≤ s → ν c j = μ c j) → 0 ≤ v → v ≤ s → s ≤ a4 → DPs ν (duM μ0 a3) l H C (s - v) := fun {ν s v} fr q1 q2 q3 => DPs_fr (hr (s - v) (by omega) (by omega)) (fun c k1 k2 => fr c _ k1 k2 (by omega))
  have key : ∀ (l' : Nat) (H' C' a5 a6 : Int), (∀ μ', Sm μ0 μ' → (∀ c i, ¬ (187 ≤ c ∧ c ≤ 190) → μ' c i = μ c i) → (∀ s, 0 ≤ s → s ≤ a4 → DPs μ' (duM μ0 a3) l' H' C' s) → Q (.inl 0) μ') → (∀ (s : Int) (ν : qM) (o15 : Option qV), 0 ≤ s → s ≤ a4 → Sm μ0 ν → (∀ c j, 187 ≤ c → c ≤ 190 → j ≤ s → ν c j = μ c j) → (∀ (w9 a11 a12 a13 v : Int) (o15 : Option qV), ((0 ≤ w9 ∧ w9 ≤ 30000000000) ∧ (a13 = 0 ∨ a13 = 1)) → (((0 ≤ s - H' ∧ s - H' ≤ 20 * l') ∧ a13 = 1 ∧ w9 % 1000000007 = Wm l' (s - H') ∧ a11 = C' - mxD (duM μ0 a3) l' (s - H') ∧ a12 = C' - mnD (duM μ0 a3) l' (s - H')) ∨ (¬ (0 ≤ s - H' ∧ s - H' ≤ 20 * l') ∧ a13 = 0)) → qW (d + 2) 140 Q 60 [some (.inr (.inr (.inl (170)))), some (.inl (a1)), some (.inl (a2)), some (.inl (a3)), some (.inl (a4)), some (.inl (a5)), some (.inl (a6)), some (.inl (duM μ0 a3 told)), some (.inl (q32 (s + -1))), some (.inr (.inl (w9))), none, some (.inl (a11)), some (.inl (a12)), some (.inl (a13)), some (.inl (v)), o15] [] (qu (qu (qu (qu ν 187 s (qlrem w9 1000000007)) 188 s a11) 189 s a12) 190 s a13)) → qW (d + 2) 140 Q 81 [some (.inr (.inr (.inl (170)))), some (.inl (a1)), some (.inl (a2)), some (.inl (a3)), some (.inl (a4)), some (.inl (a5)), some (.inl (a6)), some (.inl (duM μ0 a3 told)), some (.inl (s)), some (.inr (.inl (0))), none, some (.inl (0)), some (.inl (0)), some (.inl (0)), some (.inl (a5)), o15] [] ν) → qmw (d + 2) 139 [(.inr (.inr (.inl (170)))), (.inl (a1)), (.inl (a2)), (.inl (a3))] μ (fun v ν => qW (d + 2) 140 Q 54 [some (.inr (.inr (.inl (170)))), some (.inl (a1)), some (.inl (a2)), some (.inl (a3)), some (.inl (a4)), some (.inl (a5)), some (.inl (a6)), none, none, none, none, none, none, none, none, none] (v :: []) ν) := fun l' H' C' a5 a6 hQ' inner => by
    refine x139m h hb h0 h1 h2 h3 (by rw [← et]; exact ht) ?_
    rw [← et, g140_54]
    refine qdn (-1) (P := fun s => ∀ (o9 o11 o12 o13 o14 o15 : Option qV) (ν : qM), s ≤ a4 → Sm μ0 ν → (∀ c i, ¬ (187 ≤ c ∧ c ≤ 190) → ν c i = μ c i) → (∀ c j, 187 ≤ c → c ≤ 190 → j ≤ s → ν c j = μ c j) → (∀ t, 0 ≤ t → s < t → t ≤ a4 → DPs ν (duM μ0 a3) l' H' C' t) → qW (d + 2) 140 Q 60 [some (.inr (.inr (.inl (170)))), some (.inl (a1)), some (.inl (a2)), some (.inl (a3)), some (.inl (a4)), some (.inl (a5)), some (.inl (a6)), some (.inl (duM μ0 a3 told)), some (.inl (s)), o9, none, o11, o12, o13, o14, o15] [] ν) (fun s ih hB o9 o11 o12 o13 o14 o15 ν hs hm fo fr hn => ?_) a4 (by omega) _ _ _ _ _ _ _ (Int.le_refl a4) h (fun _ _ _ => rfl) (fun _ _ _ _ _ => rfl) (fun t q1 q2 q3 => by omega)
    rw [g140_60]
    refine ⟨fun q => hQ' _ hm fo (fun t q1 q2 => hn t q1 (by omega) q2), fun q => inner s ν o15 q hs hm fr (fun w9 a11 a12 a13 v o15 hw hres => ?_)⟩
    rw [q32_id (z := s + -1) (by omega) (by omega), qlrem_p hw.1.1 (by omega) (by decide) (by decide)]
    refine ih _ (by omega) (by omega) _ _ _ _ _ _ _ (by omega) (Sm_u (Sm_u (Sm_u (Sm_u hm (by omega) (by omega)) (by omega) (by omega)) (by omega) (by omega)) (by omega) (by omega)) (fun c i k1 => ?_) (fun c j k1 k2 k3 => ?_) (fun t k1 k2 k3 => ?_)
    · rw [qu_cell (by omega), qu_cell (by omega), qu_cell (by omega), qu_cell (by omega)]
      exact fo c i k1
    · rw [qu_ne (by omega), qu_ne (by omega), qu_ne (by omega), qu_ne (by omega)]
      exact fr c j k1 k2 (by omega)
    · by_cases e : t = s
      · subst e
        unfold DPs
        rw [qu_same, qu_cell (c := 190) (c' := 187) (by decide), qu_cell (c := 189) (c' := 187) (by decide), qu_cell (c := 188) (c' := 187) (by decide), qu_same, qu_cell (c := 190) (c' := 188) (by decide), qu_cell (c := 189) (c' := 188) (by decide), qu_same, qu_cell (c := 190) (c' := 189) (by decide), qu_same]
        rcases hres with ⟨r1, r2, r3, r4, r5⟩ | ⟨r1, r2⟩
        · exact Or.inl ⟨r1, by omega, r3, r4, r5⟩
        · exact Or.inr ⟨r1, r2⟩
      · exact DPs_fr (hn t k1 (by omega) k3) (fun c z1 z2 => by rw [qu_ne (by omega), qu_ne (by omega), qu_ne (by omega), qu_ne (by omega)])
  rw [e140, g140_0]
  by_cases h9 : μ 186 a2 = -9
  · -- a loose one
    have k := key (l + 1) H (C + duM μ0 a3 told) 0 20 (fun μ' s1 s2 s3 => hQ μ' s1 s2 (Or.inl ⟨h9, s3⟩)) (fun s ν o15 hs0 hs hm fr fin => ?_)
    · exact ⟨by omega, fun q => absurd h9 q, fun _ => ⟨by omega, fun q => absurd h9 q, fun _ => k⟩⟩
    · by_cases fs : 0 ≤ s - H ∧ s - H ≤ 20 * (l + 1 : Nat)
      · have tt := lw_tp (k := l) fs.1 fs.2
        have fin2 : ∀ (w9 a11 a12 v : Int) (o15 : Option qV), w9 = smF (fun p => Wm l (s - H - p)) (lw l (s - H)) (tp (s - H) - lw l (s - H) + 1).toNat → a11 = mnF (fun v => (C + duM μ0 a3 told) - (mxD (duM μ0 a3) l (s - H - v) + duM μ0 a3 v)) (lw l (s - H)) (tp (s - H) - lw l (s - H)).toNat → a12 = mxF (fun v => (C + duM μ0 a3 told) - (mnD (duM μ0 a3) l (s - H - v) + duM μ0 a3 v)) (lw l (s - H)) (tp (s - H) - lw l (s - H)).toNat → 0 ≤ w9 ∧ w9 ≤ 30000000000 → qW (d + 2) 140 Q 60 [some (.inr (.inr (.inl (170)))), some (.inl (a1)), some (.inl (a2)), some (.inl (a3)), some (.inl (a4)), some (.inl (0)), some (.inl (20)), some (.inl (duM μ0 a3 told)), some (.inl (q32 (s + -1))), some (.inr (.inl (w9))), none, some (.inl (a11)), some (.inl (a12)), some (.inl (1)), some (.inl (v)), o15] [] (qu (qu (qu (qu ν 187 s (qlrem w9 1000000007)) 188 s a11) 189 s a12) 190 s 1) := fun w9 a11 a12 v o15 e1 e2 e3 e4 => fin w9 a11 a12 1 v o15 ⟨e4, Or.inr rfl⟩ (Or.inl ⟨fs, rfl, by rw [e1, Wm], by rw [e2, mnF_neg, mxD], by rw [e3, mxF_neg, mnD]⟩)
        clear fin
        refine qup 21 (P := fun v => ∀ (w9 a11 a12 a13 : Int) (o15 : Option qV), 0 ≤ v → ((v ≤ lw l (s - H) ∧ w9 = 0 ∧ a13 = 0) ∨ (lw l (s - H) < v ∧ a13 = 1 ∧ ∃ m, lw l (s - H) ≤ m ∧ m ≤ tp (s - H) ∧ (v = m + 1 ∨ (m = tp (s - H) ∧ m + 1 < v)) ∧ w9 = smF (fun p => Wm l (s - H - p)) (lw l (s - H)) (m - lw l (s - H) + 1).toNat ∧ a11 = mnF (fun v => (C + duM μ0 a3 told) - (mxD (duM μ0 a3) l (s - H - v) + duM μ0 a3 v)) (lw l (s - H)) (m - lw l (s - H)).toNat ∧ a12 = mxF (fun v => (C + duM μ0 a3 told) - (mnD (duM μ0 a3) l (s - H - v) + duM μ0 a3 v)) (lw l (s - H)) (m - lw l (s - H)).toNat)) → qW (d + 2) 140 Q 81 [some (.inr (.inr (.inl (170)))), some (.inl (a1)), some (.inl (a2)), some (.inl (a3)), some (.inl (a4)), some (.inl (0)), some (.inl (20)), some (.inl (duM μ0 a3 told)), some (.inl (s)), some (.inr (.inl (w9))), none, some (.inl (a11)), some (.inl (a12)), some (.inl (a13)), some (.inl (v)), o15] [] ν) (fun v ih hB w9 a11 a12 a13 o15 hv st => ?_) 0 (by omega) _ _ _ _ _ (by omega) (Or.inl ⟨by omega, rfl, rfl⟩)
        have hw9 : 0 ≤ w9 ∧ w9 ≤ 25000000000 := by
          rcases st with ⟨-, e, -⟩ | ⟨-, -, m, m1, m2, m3, e, -⟩
          · omega
          · rw [e]
            have := smF_r (g := fun p => Wm l (s - H - p)) (lo := lw l (s - H)) (B := 1000000007) (m - lw l (s - H) + 1).toNat (fun i _ _ => by
              have := Wm_r l (s - H - i)
              omega)
            have z : (((m - lw l (s - H) + 1).toNat : Nat) : Int) * 1000000007 ≤ 21 * 1000000007 := by omega
            omega
        have en : (20 < v ∨ s < v) → qW (d + 2) 140 Q 60 [some (.inr (.inr (.inl (170)))), some (.inl (a1)), some (.inl (a2)), some (.inl (a3)), some (.inl (a4)), some (.inl (0)), some (.inl (20)), some (.inl (duM μ0 a3 told)), some (.inl (q32 (s + -1))), some (.inr (.inl (w9))), none, some (.inl (a11)), some (.inl (a12)), some (.inl (a13)), some (.inl (v)), o15] [] (qu (qu (qu (qu ν 187 s (qlrem w9 1000000007)) 188 s a11) 189 s a12) 190 s a13) := fun q => by
          rcases st with ⟨q1, -⟩ | ⟨q1, e13, m, m1, m2, m3, e1, e2, e3⟩
          · omega
          · have em : m = tp (s - H) := by omega
            rw [em] at e1 e2 e3
            rw [e13]
            exact fin2 _ _ _ _ _ e1 e2 e3 (by omega)
        have h13 : a13 = 0 ∨ a13 = 1 := by
          rcases st with ⟨-, -, z⟩ | ⟨-, z, -⟩
          · exact Or.inl z
          · exact Or.inr z
        have hx : 0 ≤ s ∧ s < 201 := by omega
        rw [g140_81]
        refine ⟨fun q => ⟨by decide, hx, hx, hx, by omega, hx, en (Or.inl q)⟩, fun q => ⟨fun q2 => ⟨by decide, hx, hx, hx, by omega, hx, en (Or.inr q2)⟩, fun q2 => ?_⟩⟩
        clear en fin2
        rw [q32_id (z := s - v) (by omega) (by omega), q32_id (z := v + 1) (by omega) (by omega)]
        have dp := rd fr hv q2 hs
        refine ⟨by omega, fun q3 => ih _ (by omega) (by omega) _ _ _ _ _ (by omega) ?_, fun q3 => x131m hm hb hv (by omega) (k117 (by omega) (by omega) h13 (fun x y hxy o => ?_))⟩
        · rcases dp with ⟨-, z, -⟩ | ⟨z, -⟩
          · exact absurd q3 z
          · rcases st with ⟨s1, s2, s3⟩ | ⟨s1, s2, m, m1, m2, m3, e1, e2, e3⟩
            · refine Or.inl ⟨?_, s2, s3⟩
              omega
            · refine Or.inr ⟨by omega, s2, m, m1, m2, ?_, e1, e2, e3⟩
              omega
        · rcases dp with ⟨z1, -, z2, z3, z4⟩ | ⟨-, z⟩
          · have hdv := hd v hv q
            have mr := mxD_r hd l (s - v - H) z1.1 z1.2
            have nr := mnD_r hd l (s - v - H) z1.1 z1.2
            have hW := Wm_r l (s - v - H)
            rw [z3, z4, q32_id (z := duM μ0 a3 told - duM μ0 a3 v) (by omega) (by omega), q32_id (z := C - mxD (duM μ0 a3) l (s - v - H) + (duM μ0 a3 told - duM μ0 a3 v)) (by omega) (by omega), q32_id (z := C - mnD (duM μ0 a3) l (s - v - H) + (duM μ0 a3 told - duM μ0 a3 v)) (by omega) (by omega)] at hxy
            rw [z2, q64_id (by omega) (by omega), q32_id (z := v + 1) (by omega) (by omega)]
            rw [show s - v - H = s - H - v by omega] at hxy z1 ⊢
            have hlv : lw l (s - H) ≤ v := by
              clear st hxy ih
              omega
            have hvt : v ≤ tp (s - H) := by
              clear st hxy ih
              omega
            have hlt : lw l (s - H) < v + 1 := by
              clear st hxy ih
              omega
            have hv1 : 0 ≤ v + 1 := by
              clear st hxy ih
              omega
            refine ih (v + 1) (by clear st hxy; omega) (by clear st hxy; omega) _ _ _ _ _ hv1 (Or.inr ⟨hlt, rfl, v, hlv, hvt, Or.inl rfl, ?_, ?_, ?_⟩)
            · rcases st with ⟨s1, s2, s3⟩ | ⟨s1, s2, m, m1, m2, m3, e1, e2, e3⟩
              · have ev : v = lw l (s - H) := by omega
                rw [show (v - lw l (s - H) + 1).toNat = 0 + 1 by omega, smF, smF, s2, ← ev, show v + ((0 : Nat) : Int) = v by omega]
              · have ev : v = m + 1 := by omega
                rw [show (v - lw l (s - H) + 1).toNat = (m - lw l (s - H) + 1).toNat + 1 by omega, smF, ← e1, show lw l (s - H) + (((m - lw l (s - H) + 1).toNat : Nat) : Int) = v by omega]
            · rcases st with ⟨s1, s2, s3⟩ | ⟨s1, s2, m, m1, m2, m3, e1, e2, e3⟩
              · have ev : v = lw l (s - H) := by omega
                rcases hxy with ⟨-, x1, -⟩ | ⟨x0, -⟩
                · rw [show (v - lw l (s - H)).toNat = 0 by omega, mnF, x1, ← ev]
                  omega
                · omega
              · have ev : v = m + 1 := by omega
                rcases hxy with ⟨x0, -⟩ | ⟨-, x1, -⟩
                · omega
                · rw [show (v - lw l (s - H)).toNat = (m - lw l (s - H)).toNat + 1 by omega, mnF, ← e2, show lw l (s - H) + (((m - lw l (s - H)).toNat + 1 : Nat) : Int) = v by omega, x1]
                  congr 1
                  omega
            · rcases st with ⟨s1, s2, s3⟩ | ⟨s1, s2, m, m1, m2, m3, e1, e2, e3⟩
              · have ev : v = lw l (s - H) := by omega
                rcases hxy with ⟨-, -, x1⟩ | ⟨x0, -⟩
                · rw [show (v - lw l (s - H)).toNat = 0 by omega, mxF, x1, ← ev]
                  omega
                · omega
              · have ev : v = m + 1 := by omega
                rcases hxy with ⟨x0, -⟩ | ⟨-, -, x1⟩
                · omega
                · rw [show (v - lw l (s - H)).toNat = (m - lw l (s - H)).toNat + 1 by omega, mxF, ← e3, show lw l (s - H) + (((m - lw l (s - H)).toNat + 1 : Nat) : Int) = v by omega, x1]
                  congr 1
                  omega
          · exact absurd z q3
      · -- no way
        refine qup 21 (P := fun v => ∀ (w9 a11 a12 : Int) (o15 : Option qV), 0 ≤ v → w9 = 0 → qW (d + 2) 140 Q 81 [some (.inr (.inr (.inl (170)))), some (.inl (a1)), some (.inl (a2)), some (.inl (a3)), some (.inl (a4)), some (.inl (0)), some (.inl (20)), some (.inl (duM μ0 a3 told)), some (.inl (s)), some (.inr (.inl (w9))), none, some (.inl (a11)), some (.inl (a12)), some (.inl (0)), some (.inl (v)), o15] [] ν) (fun v ih hB w9 a11 a12 o15 hv e9 => ?_) 0 (by omega) _ _ _ _ (by omega) rfl
        have en := fin w9 a11 a12 0 v o15 ⟨by omega, Or.inl rfl⟩ (Or.inr ⟨fs, rfl⟩)
        clear fin
        have hx : 0 ≤ s ∧ s < 201 := by omega
        rw [g140_81]
        refine ⟨fun q => ⟨by decide, hx, hx, hx, by decide, hx, en⟩, fun q => ⟨fun q2 => ⟨by decide, hx, hx, hx, by decide, hx, en⟩, fun q2 => ?_⟩⟩
        rw [q32_id (z := s - v) (by omega) (by omega), q32_id (z := v + 1) (by omega) (by omega)]
        have dp := rd fr hv q2 hs
        refine ⟨by omega, fun q3 => ih _ (by omega) (by omega) _ _ _ _ (by omega) e9, fun q3 => ?_⟩
        rcases dp with ⟨z, -⟩ | ⟨-, z⟩
        · exact absurd (by omega) fs
        · exact absurd z q3
  · -- one that is shown
    have hv0 : 0 ≤ μ 186 a2 ∧ μ 186 a2 ≤ 20 := hh.resolve_left h9
    have k := key l (H + μ 186 a2) (C + duM μ0 a3 told - duM μ0 a3 (μ 186 a2)) (μ 186 a2) (μ 186 a2) (fun μ' s1 s2 s3 => hQ μ' s1 s2 (Or.inr ⟨h9, s3⟩)) (fun s ν o15 hs0 hs hm fr fin => ?_)
    · exact ⟨by omega, fun _ => ⟨by omega, by omega, fun _ => ⟨by omega, k⟩, fun q => absurd q h9⟩, fun q => absurd q h9⟩
    · generalize μ 186 a2 = v at *
      have hdv := hd v hv0.1 hv0.2
      have hx : 0 ≤ s ∧ s < 201 := by omega
      rw [g140_81]
      refine ⟨fun q => by omega, fun q => ⟨fun q2 => ⟨by decide, hx, hx, hx, by decide, hx, fin _ _ _ _ _ _ ⟨by decide, Or.inl rfl⟩ (Or.inr ⟨by omega, rfl⟩)⟩, fun q2 => ?_⟩⟩
      rw [q32_id (z := s - v) (by omega) (by omega), q32_id (z := v + 1) (by omega) (by omega)]
      have dp := rd fr hv0.1 q2 hs
      have ex : ∀ (w9 a11 a12 a13 : Int) (o15 : Option qV), ((0 ≤ w9 ∧ w9 ≤ 30000000000) ∧ (a13 = 0 ∨ a13 = 1)) → (((0 ≤ s - (H + v) ∧ s - (H + v) ≤ 20 * l) ∧ a13 = 1 ∧ w9 % 1000000007 = Wm l (s - (H + v)) ∧ a11 = (C + duM μ0 a3 told - duM μ0 a3 v) - mxD (duM μ0 a3) l (s - (H + v)) ∧ a12 = (C + duM μ0 a3 told - duM μ0 a3 v) - mnD (duM μ0 a3) l (s - (H + v))) ∨ (¬ (0 ≤ s - (H + v) ∧ s - (H + v) ≤ 20 * l) ∧ a13 = 0)) → qW (d + 2) 140 Q 81 [some (.inr (.inr (.inl (170)))), some (.inl (a1)), some (.inl (a2)), some (.inl (a3)), some (.inl (a4)), some (.inl (v)), some (.inl (v)), some (.inl (duM μ0 a3 told)), some (.inl (s)), some (.inr (.inl (w9))), none, some (.inl (a11)), some (.inl (a12)), some (.inl (a13)), some (.inl (v + 1)), o15] [] ν := fun w9 a11 a12 a13 o15 r1 r2 => by
        rw [g140_81]
        exact ⟨fun _ => ⟨by decide, hx, hx, hx, by omega, hx, fin _ _ _ _ _ _ r1 r2⟩, fun q => by omega⟩
      refine ⟨by omega, fun q3 => ex _ _ _ _ _ ⟨by decide, Or.inl rfl⟩ (Or.inr ⟨?_, rfl⟩), fun q3 => x131m hm hb hv0.1 (by omega) (k117 (by omega) (by omega) (Or.inl rfl) (fun x y hxy o => ?_))⟩
      · rcases dp with ⟨-, z, -⟩ | ⟨z, -⟩
        · exact absurd q3 z
        · omega
      · rcases dp with ⟨z1, -, z2, z3, z4⟩ | ⟨-, z⟩
        · have mr := mxD_r hd l (s - v - H) z1.1 z1.2
          have nr := mnD_r hd l (s - v - H) z1.1 z1.2
          have hW := Wm_r l (s - v - H)
          rw [z3, z4, q32_id (z := duM μ0 a3 told - duM μ0 a3 v) (by omega) (by omega), q32_id (z := C - mxD (duM μ0 a3) l (s - v - H) + (duM μ0 a3 told - duM μ0 a3 v)) (by omega) (by omega), q32_id (z := C - mnD (duM μ0 a3) l (s - v - H) + (duM μ0 a3 told - duM μ0 a3 v)) (by omega) (by omega)] at hxy
          rw [z2, q64_id (by omega) (by omega), q32_id (z := v + 1) (by omega) (by omega), Int.zero_add]
          rw [show s - v - H = s - (H + v) by omega] at hxy z1 hW ⊢
          rcases hxy with ⟨-, x1, y1⟩ | ⟨x0, -⟩
          · exact ex _ _ _ _ _ ⟨⟨hW.1, by omega⟩, Or.inr rfl⟩ (Or.inl ⟨z1, rfl, Int.emod_eq_of_lt hW.1 hW.2, by omega, by omega⟩)
          · omega
        · exact absurd z q3
