/-! TELLS: showing one after the other; the worst that stays; the fortnight that tells most -/
def SW (μb μ : qM) (fo Sx N du told h : Int → Int) : Prop := Safe μ ∧ (∀ c i, ¬ c = 15 → ¬ c = 55 → ¬ c = 56 → μ c i = μb c i) ∧ VW μ fo Sx N du told h
def BS (μb : qM) (fo Sx N du told hb : Int → Int) : Prop := Safe μb ∧ RD μb fo Sx N du told hb ∧ okH hb ∧ (∀ f, 0 ≤ f → f ≤ 9 → μb 54 f = fo f ∧ -1 ≤ fo f ∧ fo f ≤ 2) ∧ (∀ i, 0 ≤ i → i ≤ 2 → 0 ≤ Sx i ∧ Sx i ≤ 200) ∧ (∀ f, 0 ≤ f → f ≤ 9 → 0 ≤ told f ∧ told f ≤ 20) ∧ FE fo Sx hb
def wF (fo Sx du told h : Int → Int) (f : Int) : Nat → Int
  | 0 => 0
  | n + 1 => if lp fo Sx h f ≤ (n : Int) ∧ (n : Int) ≤ mp fo Sx h f then qmax (wF fo Sx du told h f n) (MO fo Sx du told (hup h f n) - LE fo Sx du told (hup h f n)) else wF fo Sx du told h f n
theorem wF_no {fo Sx du told h : Int → Int} {f : Int} {m : Nat} : ∀ n : Nat, (∀ k : Nat, m ≤ k → k < m + n → ¬ (lp fo Sx h f ≤ (k : Int) ∧ (k : Int) ≤ mp fo Sx h f)) → wF fo Sx du told h f (m + n) = wF fo Sx du told h f m
  | 0, _ => rfl
  | n + 1, q => by
    show wF fo Sx du told h f (m + n + 1) = _
    rw [wF, if_neg (q (m + n) (by omega) (by omega))]
    exact wF_no n (fun k k1 k2 => q k k1 (by omega))
def tl (fo Sx du told h : Int → Int) : Nat → Int × Int
  | 0 => (-9, 0)
  | n + 1 => if 0 ≤ fo n ∧ h n = -9 then (if (tl fo Sx du told h n).1 = -9 then ((n : Int), wF fo Sx du told h n 21) else if (tl fo Sx du told h n).2 ≤ wF fo Sx du told h n 21 then tl fo Sx du told h n else ((n : Int), wF fo Sx du told h n 21)) else tl fo Sx du told h n
section TE
variable {μb μ : qM} {fo Sx N du told hb h : Int → Int} {d : Nat} {Q : qV → qM → Prop}
theorem SW_rd (b : BS μb fo Sx N du told hb) (s : SW μb μ fo Sx N du told h) (hn : ∀ i, 0 ≤ i → i ≤ 2 → nl fo h i ≤ nl fo hb i) : RD μ fo Sx N du told h := by
  obtain ⟨b1, ⟨-, r2, r3, r4, r5⟩, -⟩ := b
  obtain ⟨s1, s2, s3⟩ := s
  have e17 : μ 17 = μb 17 := by
    funext i
    exact s2 _ _ (by decide) (by decide) (by decide)
  have w2 := sa_dr b1
  refine ⟨s3, r2, ⟨?_, fun k q1 x q2 q3 => ?_⟩, fun p q1 q2 => by rw [e17]; exact r4 p q1 q2, fun i q1 q2 => ?_⟩
  · rw [e17]
    exact r3.1
  · rw [s2 16 5 (by decide) (by decide) (by decide)] at q1
    rw [e17, s2 _ _ (by omega) (by omega) (by omega), s2 _ _ (by omega) (by omega) (by omega)]
    exact r3.2 k q1 x q2 q3
  · have a := hn i q1 q2
    have c := r5 i q1 q2
    rw [s2 16 5 (by decide) (by decide) (by decide)]
    omega
theorem SW_b (b : BS μb fo Sx N du told hb) : SW μb μb fo Sx N du told hb := ⟨b.1, fun _ _ _ _ _ => rfl, b.2.1.1⟩
theorem z4 {f v : Int} (b : BS μb fo Sx N du told hb) (s : SW μb μ fo Sx N du told h) (hh : okH h) (h0 : 0 ≤ f) (h1 : f ≤ 9) (h2 : 0 ≤ v) (h3 : v ≤ 20) (hf : 0 ≤ fo f) (h9 : h f = -9) (hQ : ∀ μ', SW μb μ' fo Sx N du told (hup h f v) → Q (.inl 0) μ') : qmw (d + 3) 4 [(.inr (.inr (.inl (15)))), (.inl (f)), (.inl (v))] μ Q := by
  obtain ⟨b1, b2, b3, b4, b5, b6, b7⟩ := b
  obtain ⟨s1, s2, s3⟩ := s
  have hd := RD_d b2
  obtain ⟨r1, r2, r3, r4, r5⟩ := b2
  refine x4 s1 h0 h1 h2 h3 hf (b4 f h0 h1).2.2 (by rw [s2 54 f (by decide) (by decide) (by decide)]; exact (b4 f h0 h1).1) hh h9 hd (fun p q1 q2 => by rw [s2 17 p (by decide) (by decide) (by decide)]; exact r4 p q1 q2) b5 (fun i q1 q2 => by rw [r2 i q1 q2]; exact nf_r) s3 (fun μ' t1 t2 t3 => hQ μ' ⟨t1, fun c i k1 k2 k3 => by rw [t2 c i k1 k2 k3]; exact s2 c i k1 k2 k3, t3⟩)
theorem z5 {f v : Int} (b : BS μb fo Sx N du told hb) (s : SW μb μ fo Sx N du told (hup h f v)) (hh : okH h) (h0 : 0 ≤ f) (h1 : f ≤ 9) (h2 : 0 ≤ v) (h3 : v ≤ 20) (hf : 0 ≤ fo f) (h9 : h f = -9) (hQ : ∀ μ', SW μb μ' fo Sx N du told h → Q (.inl 0) μ') : qmw (d + 3) 5 [(.inr (.inr (.inl (15)))), (.inl (f)), (.inl (v))] μ Q := by
  obtain ⟨b1, b2, b3, b4, b5, b6, b7⟩ := b
  obtain ⟨s1, s2, s3⟩ := s
  have hd := RD_d b2
  obtain ⟨r1, r2, r3, r4, r5⟩ := b2
  refine x5 s1 h0 h1 h2 h3 hf (b4 f h0 h1).2.2 (by rw [s2 54 f (by decide) (by decide) (by decide)]; exact (b4 f h0 h1).1) hh h9 hd (fun p q1 q2 => by rw [s2 17 p (by decide) (by decide) (by decide)]; exact r4 p q1 q2) b5 (fun i q1 q2 => by rw [r2 i q1 q2]; exact nf_r) s3 (fun μ' t1 t2 t3 => hQ μ' ⟨t1, fun c i k1 k2 k3 => by rw [t2 c i k1 k2 k3]; exact s2 c i k1 k2 k3, t3⟩)
theorem z12 (b : BS μb fo Sx N du told hb) (s : SW μb μ fo Sx N du told h) (hn : ∀ i, 0 ≤ i → i ≤ 2 → nl fo h i ≤ nl fo hb i) (hh : okH h) (fe : FE fo Sx h) (hQ : Q (.inl (MO fo Sx du told h - LE fo Sx du told h)) μ) : qmw (d + 4) 12 [(.inr (.inr (.inl (15))))] μ Q := x12 s.1 (SW_rd b s hn) fe hh b.2.2.2.2.2.1 hQ
theorem nl_le {i f v : Int} (h0 : 0 ≤ f) (h1 : f ≤ 9) (hv : 0 ≤ v) (h9 : h f = -9) : nl fo (hup h f v) i ≤ nl fo h i := by
  rw [nl_u h0 h1 hv h9]
  split <;> omega
theorem lp_r {f : Int} (fe : FE fo Sx h) (hf : 0 ≤ fo f) (hf2 : fo f ≤ 2) : 0 ≤ lp fo Sx h f ∧ lp fo Sx h f ≤ 20 ∧ 0 ≤ mp fo Sx h f ∧ mp fo Sx h f ≤ 20 := by
  have z := fe (fo f) hf hf2
  unfold lp mp qmax qmin
  split <;> split <;> omega
theorem wF_r {f : Int} (b : BS μb fo Sx N du told hb) (h0 : 0 ≤ f) (h1 : f ≤ 9) (hf : 0 ≤ fo f) (h9 : hb f = -9) : ∀ n : Nat, n ≤ 21 → 0 ≤ wF fo Sx du told hb f n ∧ wF fo Sx du told hb f n ≤ 990
  | 0, _ => by
    rw [wF]
    omega
  | n + 1, hn => by
    have ih := wF_r b h0 h1 hf h9 n (by omega)
    have b4 := b.2.2.2.1 f h0 h1
    rw [wF]
    by_cases q : lp fo Sx hb f ≤ (n : Int) ∧ (n : Int) ≤ mp fo Sx hb f
    · rw [if_pos q]
      have fe := (FE_u b.2.2.2.2.2.2 h0 h1 hf b4.2.2 h9 (v := (n : Int)) (by omega) (by omega)).mpr q
      have hh := okH_u b.2.2.1 (j := f) (v := (n : Int)) (Or.inr ⟨by omega, by omega⟩)
      have a := LE_r (told := told) hh (RD_d b.2.1) b.2.2.2.2.2.1 fe
      have c := MO_r (told := told) hh (RD_d b.2.1) b.2.2.2.2.2.1 fe
      unfold qmax
      split <;> omega
    · rw [if_neg q]
      exact ih
/-- the class's worstSpread -/
theorem z19 {c1 f : Int} (b : BS μb fo Sx N du told hb) (s : SW μb μ fo Sx N du told hb) (hc : isP c1) (h0 : 0 ≤ f) (h1 : f ≤ 9) (hf : 0 ≤ fo f) (h9 : hb f = -9) (hQ : ∀ μ', SW μb μ' fo Sx N du told hb → Q (.inl (wF fo Sx du told hb f 21)) μ') : qmw (d + 6) 19 [(.inr (.inr (.inl (15)))), (.inr (.inr (.inl (c1)))), (.inl (f))] μ Q := by
  have b4 := b.2.2.2.1 f h0 h1
  have fe := b.2.2.2.2.2.2
  have e54 : ∀ {ν : qM}, SW μb ν fo Sx N du told hb → ν 54 f = fo f := fun t => by
    rw [t.2.1 54 f (by decide) (by decide) (by decide)]
    exact b4.1
  have lr := lp_r fe hf b4.2.2
  rw [e19, g19_0]
  refine x7 hc h0 h1 (e54 s) hf b4.2.2 s.2.2 (fun a ha => ?_)
  have ea : a = mp fo Sx hb f := by
    rcases ha with z | z
    · exact z.2
    · exact absurd h9 z.1
  rw [g19_8]
  refine x6 hc h0 h1 (e54 s) hf b4.2.2 s.2.2 b.2.1.2.1 b.2.2.1 b.2.2.2.2.1 (fun a' ha' => ?_)
  have ea' : a' = lp fo Sx hb f := by
    rcases ha' with z | z
    · exact z.2
    · exact absurd h9 z.1
  rw [g19_16, ea, ea']
  have w0 : (0 : Int) = wF fo Sx du told hb f (lp fo Sx hb f).toNat := by
    have z := wF_no (fo := fo) (Sx := Sx) (du := du) (told := told) (h := hb) (f := f) (m := 0) (lp fo Sx hb f).toNat (fun k k1 k2 => by omega)
    rw [Nat.zero_add] at z
    rw [z]
    rfl
  refine qup 21 (P := fun v => ∀ (a3 : Int) (ν : qM), SW μb ν fo Sx N du told hb → lp fo Sx hb f ≤ v → a3 = wF fo Sx du told hb f v.toNat → qW (d + 5) 19 Q 18 [some (.inr (.inr (.inl (15)))), some (.inr (.inr (.inl (c1)))), some (.inl (f)), some (.inl (a3)), some (.inl (mp fo Sx hb f)), some (.inl (v))] [] ν) (fun v ih hB a3 ν t hv e3 => ?_) _ (by omega) _ _ s (Int.le_refl _) w0
  rw [g19_18]
  refine ⟨fun q => ?_, fun q => ?_⟩
  · have z := wF_no (fo := fo) (Sx := Sx) (du := du) (told := told) (h := hb) (f := f) (m := v.toNat) (21 - v.toNat) (fun k k1 k2 => by omega)
    rw [show v.toNat + (21 - v.toNat) = 21 by omega] at z
    rw [e3, ← z]
    exact hQ _ t
  · have ok : lp fo Sx hb f ≤ v ∧ v ≤ mp fo Sx hb f := ⟨hv, q⟩
    have fe2 := (FE_u fe h0 h1 hf b4.2.2 h9 (v := v) (by omega) (by omega)).mpr ok
    have hh2 := okH_u b.2.2.1 (j := f) (v := v) (Or.inr ⟨by omega, by omega⟩)
    refine z4 b t b.2.2.1 h0 h1 (by omega) (by omega) hf h9 (fun ν1 t1 => ?_)
    rw [g19_32]
    refine z12 b t1 (fun i _ _ => nl_le h0 h1 (by omega) h9) hh2 fe2 ?_
    rw [g19_37]
    refine z5 b t1 b.2.2.1 h0 h1 (by omega) (by omega) hf h9 (fun ν2 t2 => ?_)
    rw [g19_48, q32_id (z := v + 1) (by omega) (by omega)]
    refine ih (v + 1) (by omega) (by omega) _ _ t2 (by omega) ?_
    have en : ((v.toNat : Nat) : Int) = v := by omega
    rw [show (v + 1).toNat = v.toNat + 1 by omega, wF, en, if_pos ok, ← e3]
/-- the class's tellingMost -/
theorem z18 {c1 : Int} (b : BS μb fo Sx N du told hb) (hc : isP c1) (hQ : ∀ μ', SW μb μ' fo Sx N du told hb → Q (.inl (tl fo Sx du told hb 10).1) μ') : qmw (d + 7) 18 [(.inr (.inr (.inl (15)))), (.inr (.inr (.inl (c1))))] μb Q := by
  rw [e18, g18_0]
  refine qup 10 (P := fun f => ∀ (a2 a3 : Int) (o5 : Option qV) (ν : qM), SW μb ν fo Sx N du told hb → 0 ≤ f → (a2 = (tl fo Sx du told hb f.toNat).1 ∧ a3 = (tl fo Sx du told hb f.toNat).2) → qW (d + 6) 18 Q 8 [some (.inr (.inr (.inl (15)))), some (.inr (.inr (.inl (c1)))), some (.inl (a2)), some (.inl (a3)), some (.inl (f)), o5] [] ν) (fun f ih hB a2 a3 o5 ν t hf e => ?_) 0 (by omega) _ _ _ _ (SW_b b) (by omega) ⟨rfl, rfl⟩
  rw [g18_8]
  refine ⟨fun q => ?_, fun q => ?_⟩
  · have ef : f = 10 := by omega
    rw [e.1, ef]
    exact hQ _ t
  · have v4 := t.2.2.2.2.2 f hf (by omega)
    have en : ((f.toNat : Nat) : Int) = f := by omega
    have et : (f + 1).toNat = f.toNat + 1 := by omega
    have nx := fun (a2' a3' : Int) (o5' : Option qV) (ν' : qM) (t' : SW μb ν' fo Sx N du told hb) (e' : a2' = (tl fo Sx du told hb (f.toNat + 1)).1 ∧ a3' = (tl fo Sx du told hb (f.toNat + 1)).2) => ih (f + 1) (by omega) (by omega) a2' a3' o5' ν' t' (by omega) (by rw [et]; exact e')
    clear ih
    rw [e3, g3_0]
    refine ⟨fun q2 => ⟨by decide, ?_⟩, fun q2 => ⟨by decide, ?_⟩⟩
    · rw [g18_21]
      refine ⟨fun _ => ?_, fun z => absurd rfl z⟩
      rw [q32_id (by omega) (by omega)]
      refine nx _ _ _ _ t ?_
      rw [tl, en, if_neg (fun z => q2 (v4.mpr z))]
      exact e
    · have lo := v4.mp q2
      rw [g18_21]
      refine ⟨fun z => absurd z (by decide), fun _ => z19 b t hc hf (by omega) lo.1 lo.2 (fun ν2 t2 => ?_)⟩
      rw [g18_31, q32_id (z := f + 1) (by omega) (by omega)]
      refine ⟨fun q3 => nx _ _ _ _ t2 ?_, fun q3 => ⟨fun q4 => nx _ _ _ _ t2 ?_, fun q4 => nx _ _ _ _ t2 ?_⟩⟩
      · rw [tl, en, if_pos lo, ← e.1, if_pos q3]
        exact ⟨rfl, rfl⟩
      · rw [tl, en, if_pos lo, ← e.1, if_neg q3, ← e.2, if_pos q4]
        exact e
      · rw [tl, en, if_pos lo, ← e.1, if_neg q3, ← e.2, if_neg (Int.not_le.mpr q4)]
        exact ⟨rfl, rfl⟩
end TE
section TE2
variable {μ : qM}
theorem BS_of {μ1 : qM} {p day : Int} (h : RC μ) (h0 : 0 ≤ p) (h1 : p ≤ 5) (hd : day ≤ 200) (lb : LB μ μ1 (74 + 11 * p) day) : BS μ1 (FoC μ p day) (SxC μ (74 + 11 * p) day) (NC μ (74 + 11 * p) day) (duC μ day) (μ (74 + 11 * p + 1)) (hC μ (74 + 11 * p) day) := by
  have hc : isP (74 + 11 * p) := ⟨p, h0, by omega, rfl⟩
  refine ⟨lb.1.1, lb.2.2.2, hC_ok h.1 hc, fun f q1 q2 => ⟨lb.2.2.1 f q1 q2, ?_⟩, SxC_r h.2.2.2.2.1 h0 h1, (okP_of h.2.1 h.2.2.2.2.1 h0 h1).1, FE_day h.1 h.2.2.2.2.1 h.2.2.2.2.2.1 h0 h1 hd⟩
  have r := Fo_r h.1 (f := f) (day := day) h0 h1
  exact ⟨r.1, r.2.2⟩
theorem SW_sv {μb μ1 : qM} {r : Int} {fo Sx N du told h : Int → Int} (hm : Sv μ μb) (hT : TU μb r) (s : SW μb μ1 fo Sx N du told h) : Sv μ μ1 ∧ TU μ1 r := by
  refine ⟨⟨s.1, fun c i q => ?_⟩, TU_fr hm.1 hT (fun c i q => s.2.1 c i (by omega) (by omega) (by omega))⟩
  rw [s.2.1 c i (by omega) (by omega) (by omega)]
  exact hm.2 c i q
abbrev TLv (μ : qM) (p day : Int) (n : Nat) : Int × Int := tl (FoC μ p day) (SxC μ (74 + 11 * p) day) (duC μ day) (μ (74 + 11 * p + 1)) (hC μ (74 + 11 * p) day) n
/-- the reference's tells -/
theorem y158 {d : Nat} {Q : qV → qM → Prop} {a1 a2 : Int} (hc : RC μ) (h0 : 0 ≤ a1) (h1 : a1 ≤ 5) (h2 : a2 ≤ 200) (hQ : ∀ μ', Sm μ μ' → Q (.inl (tl (FoC μ a1 a2) (SxC μ (74 + 11 * a1) a2) (duC μ a2) (μ (74 + 11 * a1 + 1)) (hC μ (74 + 11 * a1) a2) 10).1) μ') : qW (d + 5) 158 Q 25 [some (.inr (.inr (.inl (170)))), some (.inl (a1)), some (.inl (a2)), some (.inl (-9)), some (.inl (0)), some (.inl (0)), none, none, none] [] μ := by
  have hcp : isP (74 + 11 * a1) := ⟨a1, h0, by omega, rfl⟩
  have fe := FE_day hc.1 hc.2.2.2.2.1 hc.2.2.2.2.2.1 (day := a2) h0 h1 h2
  have hok := hC_ok hc.1 hcp (day := a2)
  have hd : okD (duC μ a2) := okD_C hc.1 hc.2.2.2.2.2.2.1.2.2 a2
  have ht := (okP_of hc.2.1 hc.2.2.2.2.1 h0 h1).1
  refine qup 10 (P := fun f => ∀ (a3 a4 : Int) (o6 o7 o8 : Option qV) (ν : qM), Sm μ ν → 0 ≤ f → (a3 = (tl (FoC μ a1 a2) (SxC μ (74 + 11 * a1) a2) (duC μ a2) (μ (74 + 11 * a1 + 1)) (hC μ (74 + 11 * a1) a2) f.toNat).1 ∧ a4 = (tl (FoC μ a1 a2) (SxC μ (74 + 11 * a1) a2) (duC μ a2) (μ (74 + 11 * a1 + 1)) (hC μ (74 + 11 * a1) a2) f.toNat).2) → qW (d + 5) 158 Q 25 [some (.inr (.inr (.inl (170)))), some (.inl (a1)), some (.inl (a2)), some (.inl (a3)), some (.inl (a4)), some (.inl (f)), o6, o7, o8] [] ν) (fun f ih hB a3 a4 o6 o7 o8 ν t hf e => ?_) 0 (by omega) _ _ _ _ _ _ (Sm_rf hc.1) (by omega) ⟨rfl, rfl⟩
  rw [g158_25]
  refine ⟨fun q => ?_, fun q => y138 t hc h0 h1 (fun ν1 s1 s2 s3 => ?_)⟩
  · have ef : f = 10 := by omega
    rw [e.1, ef]
    exact hQ _ t
  · have en : ((f.toNat : Nat) : Int) = f := by omega
    have et : (f + 1).toNat = f.toNat + 1 := by omega
    have nx := fun (a2' a3' : Int) (o6' o7' o8' : Option qV) (ν' : qM) (t' : Sm μ ν') (e' : a2' = (tl (FoC μ a1 a2) (SxC μ (74 + 11 * a1) a2) (duC μ a2) (μ (74 + 11 * a1 + 1)) (hC μ (74 + 11 * a1) a2) (f.toNat + 1)).1 ∧ a3' = (tl (FoC μ a1 a2) (SxC μ (74 + 11 * a1) a2) (duC μ a2) (μ (74 + 11 * a1 + 1)) (hC μ (74 + 11 * a1) a2) (f.toNat + 1)).2) => ih (f + 1) (by omega) (by omega) a2' a3' o6' o7' o8' ν' t' (by omega) (by rw [et]; exact e')
    clear ih
    have r := Fo_r hc.1 (f := f) (day := a2) h0 h1
    rw [g158_38]
    refine y136 s1 hc h0 h1 (fun a ha => ?_)
    rw [g158_46, q32_id (z := f + 1) (by omega) (by omega), s3 f hf (by omega)]
    rcases ha with ⟨u1, u2⟩ | ⟨u1, u2⟩
    · refine ⟨fun _ => nx _ _ _ _ _ _ s1 ?_, fun z => absurd u2 z⟩
      rw [tl, en, if_neg (fun z => by omega)]
      exact e
    · refine ⟨fun z => by omega, fun _ => ⟨by omega, fun q2 => nx _ _ _ _ _ _ s1 ?_, fun q2 => ?_⟩⟩
      · rw [tl, en, if_neg (fun z => q2 z.2)]
        exact e
      · have lo : 0 ≤ FoC μ a1 a2 f ∧ hC μ (74 + 11 * a1) a2 f = -9 := ⟨u1, q2⟩
        have lr := lp_r fe u1 r.2.2
        refine qup 21 (P := fun v => ∀ (a6 : Int) (o8 : Option qV) (ν : qM), Sm μ ν → 0 ≤ v → (∀ g, 0 ≤ g → g ≤ 9 → ¬ g = f → ν 186 g = hC μ (74 + 11 * a1) a2 g) → (0 ≤ a6 ∧ a6 ≤ 990) → a6 = wF (FoC μ a1 a2) (SxC μ (74 + 11 * a1) a2) (duC μ a2) (μ (74 + 11 * a1 + 1)) (hC μ (74 + 11 * a1) a2) f v.toNat → qW (d + 5) 158 Q 69 [some (.inr (.inr (.inl (170)))), some (.inl (a1)), some (.inl (a2)), some (.inl (a3)), some (.inl (a4)), some (.inl (f)), some (.inl (a6)), some (.inl (v)), o8] [] ν) (fun v ih hB2 a6 o8 ν2 t2 hv k6 b6 e6 => ?_) 0 (by omega) _ _ _ s1 (by omega) (fun g g1 g2 _ => s3 g g1 g2) (by omega) rfl
        rw [g158_69, q32_id (z := f + 1) (by omega) (by omega)]
        refine ⟨fun q3 => ?_, fun q3 => ⟨by omega, ?_⟩⟩
        · have ev : v = 21 := by omega
          rw [ev] at e6
          have e6' : a6 = wF (FoC μ a1 a2) (SxC μ (74 + 11 * a1) a2) (duC μ a2) (μ (74 + 11 * a1 + 1)) (hC μ (74 + 11 * a1) a2) f 21 := e6
          refine ⟨fun q4 => nx _ _ _ _ _ _ t2 ?_, fun q4 => ⟨fun q5 => nx _ _ _ _ _ _ t2 ?_, fun q5 => nx _ _ _ _ _ _ t2 ?_⟩⟩
          · rw [tl, en, if_pos lo, ← e.1, if_pos q4, e6']
            exact ⟨rfl, rfl⟩
          · rw [tl, en, if_pos lo, ← e.1, if_neg q4, ← e.2, ← e6', if_pos q5]
            exact e
          · rw [tl, en, if_pos lo, ← e.1, if_neg q4, ← e.2, ← e6', if_neg (Int.not_le.mpr q5)]
            exact ⟨rfl, rfl⟩
        · have feu := FE_u fe hf (by omega) u1 r.2.2 q2 (v := v) hv q3
          have hh2 := okH_u hok (j := f) (v := v) (Or.inr ⟨hv, q3⟩)
          have ev : ((v.toNat : Nat) : Int) = v := by omega
          have wE : wF (FoC μ a1 a2) (SxC μ (74 + 11 * a1) a2) (duC μ a2) (μ (74 + 11 * a1 + 1)) (hC μ (74 + 11 * a1) a2) f (v + 1).toNat = if lp (FoC μ a1 a2) (SxC μ (74 + 11 * a1) a2) (hC μ (74 + 11 * a1) a2) f ≤ v ∧ v ≤ mp (FoC μ a1 a2) (SxC μ (74 + 11 * a1) a2) (hC μ (74 + 11 * a1) a2) f then qmax a6 (MO (FoC μ a1 a2) (SxC μ (74 + 11 * a1) a2) (duC μ a2) (μ (74 + 11 * a1 + 1)) (hup (hC μ (74 + 11 * a1) a2) f v) - LE (FoC μ a1 a2) (SxC μ (74 + 11 * a1) a2) (duC μ a2) (μ (74 + 11 * a1 + 1)) (hup (hC μ (74 + 11 * a1) a2) f v)) else a6 := by
            rw [show (v + 1).toNat = v.toNat + 1 by omega, wF, ev, ← e6]
          refine y141 (h := hup (hC μ (74 + 11 * a1) a2) f v) (Sm_u t2 (by omega) (by omega)) hc h0 h1 (fun g g1 g2 => ?_) (fun a ν3 t3 k3 gt => ?_)
          · by_cases eg : g = f
            · rw [eg, qu_same, hup_s]
            · rw [qu_ne (by omega), hup_n eg]
              exact k6 g g1 g2 eg
          · have k7 : ∀ g, 0 ≤ g → g ≤ 9 → ¬ g = f → ν3 186 g = hC μ (74 + 11 * a1) a2 g := fun g g1 g2 g3 => by
              rw [k3 g, qu_ne (by omega)]
              exact k6 g g1 g2 g3
            have nv := fun (a6' : Int) (o8' : Option qV) (b6' : 0 ≤ a6' ∧ a6' ≤ 990) (e6' : a6' = wF (FoC μ a1 a2) (SxC μ (74 + 11 * a1) a2) (duC μ a2) (μ (74 + 11 * a1 + 1)) (hC μ (74 + 11 * a1) a2) f (v + 1).toNat) => ih (v + 1) (by omega) (by omega) a6' o8' ν3 t3 (by omega) k7 b6' e6'
            clear ih nx
            rw [g158_91, q32_id (z := v + 1) (by omega) (by omega)]
            rcases gt with gt | ⟨gt1, gt2⟩
            · have ea : a = 1 := gt.2.1
              have g1 := GT_1 (μ0 := μ) (μ' := ν3) (p := a1) (day := a2) (Or.inl ⟨gt.1, rfl, gt.2.2⟩)
              have lo2 := feu.mp gt.1
              have bl := LE_r (told := μ (74 + 11 * a1 + 1)) hh2 hd ht gt.1
              have bm := MO_r (told := μ (74 + 11 * a1 + 1)) hh2 hd ht gt.1
              refine ⟨fun z => by omega, fun _ => ?_⟩
              rw [E142, g158_101, E142, g158_108, over_q, over_q, g1.2.2.1, g1.2.2.2, q32_id (z := MO (FoC μ a1 a2) (SxC μ (74 + 11 * a1) a2) (duC μ a2) (μ (74 + 11 * a1 + 1)) (hup (hC μ (74 + 11 * a1) a2) f v) - LE (FoC μ a1 a2) (SxC μ (74 + 11 * a1) a2) (duC μ a2) (μ (74 + 11 * a1 + 1)) (hup (hC μ (74 + 11 * a1) a2) f v)) (by omega) (by omega), q32_id (z := v + 1) (by omega) (by omega)]
              rw [if_pos lo2] at wE
              unfold qmax at wE
              refine ⟨fun q4 => nv _ _ b6 ?_, fun q4 => nv _ _ (by omega) ?_⟩
              · rw [wE, if_neg (Int.not_lt.mpr q4)]
              · rw [wE, if_pos q4]
            · refine ⟨fun _ => nv _ _ b6 ?_, fun z => absurd gt2 z⟩
              rw [wE, if_neg (fun z => gt1 (feu.mpr z))]
theorem q88 {a1 a2 : Int} (h : RC μ) : PE (Qr μ) 88 158 [(.inl (a1)), (.inl (a2))] μ := by
  have hm0 : ∀ {μ1 : qM}, RC μ1 → qmw 20 158 [(.inr (.inr (.inl (170)))), (.inl (a1)), (.inl (a2))] μ1 (fun w μ2 => ((0 ≤ a1 ∧ a1 ≤ 5 ∧ 0 ≤ a2 ∧ a2 ≤ 200) ∧ w = .inl (TLv μ1 a1 a2 10).1 ∧ Sm μ1 μ2) ∨ (¬ (0 ≤ a1 ∧ a1 ≤ 5 ∧ 0 ≤ a2 ∧ a2 ≤ 200) ∧ w = .inl (-1) ∧ μ2 = μ1)) := fun {μ1} hc => by
    rw [e158, g158_0, E133, g158_4, qbr2]
    simp only [E130, g158_11, qbr]
    exact ⟨fun q => Or.inr ⟨by omega, by first | rfl | trivial, by first | rfl | trivial⟩, fun q => ⟨fun q2 => y158 hc q.1 q.2 q2.2 (fun μ2 s1 => Or.inl ⟨⟨q.1, q.2, q2.1, q2.2⟩, rfl, s1⟩), fun q2 => Or.inr ⟨by omega, by first | rfl | trivial, by first | rfl | trivial⟩⟩⟩
  have no : ¬ (0 ≤ a1 ∧ a1 ≤ 5 ∧ 0 ≤ a2 ∧ a2 ≤ 200) → ∃ a : Int, (.inl (-1) : qV) = .inl a ∧ qmw 20 158 [(.inr (.inr (.inl (170)))), (.inl (a1)), (.inl (a2))] μ (fun w μ2 => w = .inl a ∧ Qr μ μ2) := fun q => ⟨_, rfl, qmw_cm 20 _ _ _ _ _ (fun w μ2 z => by
    rcases z with ⟨z, -⟩ | ⟨-, z2, z3⟩
    · exact absurd z q
    · rw [z3]
      exact ⟨z2, Qr_rf h⟩) (hm0 h)⟩
  unfold PE
  rw [e88, g88_0, E105, g88_4, qbr]
  simp only [E104, g88_15, qbr2]
  refine ⟨fun q => no (by omega), fun q => ⟨fun q2 => y109 h (by omega) (by omega) (fun μ1 lb ht => ?_), fun q2 => no (by omega)⟩⟩
  clear no
  have h0 : 0 ≤ a1 := by omega
  have h1 : a1 ≤ 5 := by omega
  have hcp : isP (74 + 11 * a1) := ⟨a1, h0, by omega, rfl⟩
  rw [g88_26, qra57 h0 (by omega)]
  refine ⟨by omega, z18 (BS_of h h0 h1 (by omega) lb) hcp (fun μ1' s => ?_)⟩
  rw [g88_39]
  have sv := SW_sv lb.1 lb.2.1 s
  have hr := rD_r h.1 a2
  have ht2 : RTab μ1' := TU_tab sv.2 hr.1 (by rw [sv.1.2 9 5 (by omega)]; exact hr.2)
  refine ⟨_, rfl, qmw_cm 20 _ _ _ _ _ (fun w μ2 z => ?_) (hm0 (RC_sv h sv.1 ht2))⟩
  have cf := CF sv.1 (p := a1) (day := a2) h0 h1
  rcases z with ⟨-, z2, z3⟩ | ⟨z, -⟩
  · have e : FoC μ1' a1 a2 = FoC μ a1 a2 := cf.1
    unfold TLv at z2
    rw [e, cf.2.1, cf.2.2.1, cf.2.2.2.1, cf.2.2.2.2] at z2
    exact ⟨z2, Qr_of sv.1 ht2 z3⟩
  · omega
end TE2
