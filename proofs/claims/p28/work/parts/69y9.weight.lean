/-! weights -/
def EZ (μ ν : qM) : Prop := ∀ c i, ¬ c = 0 → ν c i = μ c i
theorem EZ_u {μ ν : qM} {i v : Int} (h : EZ μ ν) : EZ μ (qu ν 0 i v) := fun c j q => by
  rw [qu_cell q]
  exact h c j q
def sW (μ : qM) (p day f : Int) : Int := if 0 ≤ FoC μ p day f then μ (74 + 11 * p + 7) (FoC μ p day f) else 0
def tW (μ : qM) (p day f : Int) : Int := if 0 ≤ FoC μ p day f then qmax 0 (duC μ day (μ (74 + 11 * p + 1) f) - duC μ day (avC μ (74 + 11 * p) day f)) else 0
def bW (μ : qM) (p day f : Int) : Int := if 0 ≤ μ (74 + 11 * p + 3) f ∧ μ (74 + 11 * p + 4) f ≤ day then 1 else 0
def WV (k s t b tl : Int) : Int := if k = 0 then 1 else if k = 1 then 1 + tl else if k = 2 then 1 + 2 * s else if k = 3 then (1 + 2 * s) / 2 else if k = 4 then 1 + t else if k = 5 then 3 * (1 + t) else if k = 6 then (if b = 0 then 1 else 51) else qmax 0 (1 + t - 5)
section WE
variable {μ : qM}
theorem W_r (h : RC μ) {p day f : Int} (h0 : 0 ≤ p) (h1 : p ≤ 5) (h2 : 0 ≤ f) (h3 : f ≤ 9) : (0 ≤ sW μ p day f ∧ sW μ p day f ≤ 200) ∧ (0 ≤ tW μ p day f ∧ tW μ p day f ≤ 99) := by
  obtain ⟨hS, hP, hF, hL, hR, hC', hU, hT⟩ := id h
  have ok := okP_of hP hR h0 h1
  have hd := okD_C hS hU.2.2 day
  unfold sW tW
  by_cases q : 0 ≤ FoC μ p day f
  · have hit := fo_hit hS h0 h1 q
    have sp := (hR p h0 h1).1 _ q hit.1
    have av : 0 ≤ avC μ (74 + 11 * p) day f ∧ avC μ (74 + 11 * p) day f ≤ 20 := avg_r sp.1.1 hit.2.2.1 hit.2.2.2 sp.1.2.2 sp.2.1.1 sp.2.1.2
    have t1 := ok.1 f h2 h3
    have d1 := hd _ t1.1 t1.2
    have d2 := hd _ av.1 av.2
    have sp7 : 0 ≤ μ (74 + 11 * p + 7) (FoC μ p day f) ∧ μ (74 + 11 * p + 7) (FoC μ p day f) ≤ 200 := ⟨sp.2.1.1, by omega⟩
    rw [if_pos q, if_pos q]
    refine ⟨sp7, ?_⟩
    unfold qmax
    split <;> omega
  · rw [if_neg q, if_neg q]
    exact ⟨⟨by decide, by decide⟩, ⟨by decide, by decide⟩⟩
theorem tu_du {μ1 : qM} {day : Int} (hm : Sv μ μ1) (tu : TU μ1 (rD μ day)) {p : Int} (h0 : 0 ≤ p) (h1 : p ≤ 20) : μ1 17 p = duC μ day p := by
  have bE : ∀ c j, 0 ≤ c → c ≤ 4 → bC μ1 c j = bC μ c j := fun c j k1 k2 => hm.2 _ _ (by omega)
  rw [tu.2.2.2.1 p h0 h1]
  unfold duC dueB
  rw [bE 1 _ (by decide) (by decide), bE 2 _ (by decide) (by decide), bE 3 _ (by decide) (by decide), bE 4 _ (by decide) (by decide)]
theorem y20 {d : Nat} {R : qV → qM → Prop} {μ1 ν : qM} {p day f : Int} (h : RC μ) (h0 : 0 ≤ p) (h1 : p ≤ 5) (h2 : 0 ≤ f) (h3 : f ≤ 9) (lk : LK μ μ1 (74 + 11 * p) day) (E : EZ μ1 ν) (hR : R (.inl (sW μ p day f)) ν) : qmw (d + 1) 20 [(.inr (.inr (.inl (15)))), (.inr (.inr (.inl (74 + 11 * p)))), (.inl (f))] ν R := by
  have e54 : ν 54 f = FoC μ p day f := (E 54 f (by decide)).trans (lk.2.2.1 f h2 h3)
  have fr : FoC μ p day f ≤ 2 := (fo_r h.1 (p := p) (f := f) (day := day) h0 h1).2.2
  have hp := pf (c := 74 + 11 * p) ⟨p, h0, by omega, rfl⟩
  have hx : 0 ≤ f ∧ f < 10 := ⟨h2, by omega⟩
  unfold sW at hR
  rw [e20, g20_0, e54]
  simp only [hp, qif_r]
  clear hp
  refine ⟨hx, fun q => ⟨⟨q, by omega⟩, ?_⟩, fun q => ?_⟩
  · rw [if_pos q] at hR
    rw [E (74 + 11 * p + 7) _ (by omega), lk.1.2 (74 + 11 * p + 7) _ (by omega)]
    exact hR
  · rw [if_neg (by omega)] at hR
    exact hR
theorem y21 {d : Nat} {R : qV → qM → Prop} {μ1 ν : qM} {p day f : Int} (h : RC μ) (h0 : 0 ≤ p) (h1 : p ≤ 5) (h2 : 0 ≤ f) (h3 : f ≤ 9) (lk : LK μ μ1 (74 + 11 * p) day) (E : EZ μ1 ν) (hR : R (.inl (tW μ p day f)) ν) : qmw (d + 3) 21 [(.inr (.inr (.inl (15)))), (.inr (.inr (.inl (74 + 11 * p)))), (.inl (f))] ν R := by
  obtain ⟨hS, hP, hF, hL, hRs, hC', hU, hT⟩ := id h
  have e54 : ν 54 f = FoC μ p day f := (E 54 f (by decide)).trans (lk.2.2.1 f h2 h3)
  have fr : FoC μ p day f ≤ 2 := (fo_r h.1 (p := p) (f := f) (day := day) h0 h1).2.2
  have kp : ∀ j i, 0 ≤ j → j ≤ 10 → ν (74 + 11 * p + j) i = μ (74 + 11 * p + j) i := fun j i q1 q2 => by
    rw [E (74 + 11 * p + j) i (by omega), lk.1.2 (74 + 11 * p + j) i (by omega)]
  have hc : isP (74 + 11 * p) := ⟨p, h0, by omega, rfl⟩
  have hp := pf hc
  have hx : 0 ≤ f ∧ f < 10 := ⟨h2, by omega⟩
  have ok := okP_of hP hRs h0 h1
  have hd := okD_C hS hU.2.2 day
  have t1 := ok.1 f h2 h3
  have du : ∀ x, 0 ≤ x → x ≤ 20 → ν 17 x = duC μ day x := fun x q1 q2 => (E 17 x (by decide)).trans (tu_du lk.1 lk.2.1 q1 q2)
  unfold tW at hR
  rw [e21, g21_0, e54]
  simp only [hp, qif_r]
  clear hp
  refine ⟨hx, fun q => ⟨hx, ?_⟩, fun q => ?_⟩
  · have hit := fo_hit hS (p := p) (f := f) (day := day) h0 h1 q
    have sp := (hRs p h0 h1).1 _ q hit.1
    have av : 0 ≤ avg (μ (74 + 11 * p + 7) (FoC μ p day f)) (μ (74 + 11 * p + 5) (FoC μ p day f)) (μ (74 + 11 * p + 6) (FoC μ p day f)) f ∧ avg (μ (74 + 11 * p + 7) (FoC μ p day f)) (μ (74 + 11 * p + 5) (FoC μ p day f)) (μ (74 + 11 * p + 6) (FoC μ p day f)) f ≤ 20 := avg_r sp.1.1 hit.2.2.1 hit.2.2.2 sp.1.2.2 sp.2.1.1 sp.2.1.2
    have d1 := hd _ t1.1 t1.2
    have d2 := hd _ av.1 av.2
    rw [if_pos q] at hR
    rw [kp 1 f (by decide) (by decide), E65, if_neg (by omega), du _ t1.1 t1.2, g21_26]
    refine x46 hc q fr (by rw [kp 5 _ (by decide) (by decide), kp 6 _ (by decide) (by decide)]; exact sp.1) (by rw [kp 5 _ (by decide) (by decide)]; exact hit.2.2.1) h3 (by rw [kp 7 _ (by decide) (by decide)]; exact ⟨sp.2.1.1, by omega⟩) ?_
    rw [kp 5 _ (by decide) (by decide), kp 6 _ (by decide) (by decide), kp 7 _ (by decide) (by decide), g21_41, E65, if_neg (by omega), du _ av.1 av.2, g21_44, q32_id (by omega) (by omega)]
    exact hR
  · rw [if_neg (by omega)] at hR
    exact hR
theorem v0 {d : Nat} {R : qV → qM → Prop} {ν : qM} {c2 a3 : Int} (E : EZ μ ν) (hR : ∀ ν', EZ μ ν' → R (.inl 1) ν') : qmw (d + 1) 112 [(.inr (.inr (.inl (0)))), (.inl (0)), (.inr (.inr (.inl (c2)))), (.inl (a3))] ν R := by
  have e0 : (ztb 0).getD (0 : Int).toNat 0 = -1 := by decide +kernel
  have e1 : (ztb 1).getD (0 : Int).toNat 0 = 1 := by decide +kernel
  rw [e112, g112_0, e0, e1]
  refine ⟨by decide, by decide, fun _ => ⟨fun q => absurd q (by decide), fun _ => hR _ (EZ_u E), fun q => absurd q (by decide), fun q => absurd q (by decide), fun q => absurd q (by decide), fun q => absurd q (by decide), fun q => absurd q (by decide), fun q => absurd q (by decide), trivial⟩, fun q => absurd q (by decide)⟩
theorem v112 {d : Nat} {R : qV → qM → Prop} {ν : qM} {a1 c2 a3 p m u : Int} (h0 : 0 ≤ a1) (h1 : a1 < 8) (hp : (ztb 0).getD a1.toNat 0 = p) (hm : (ztb 1).getD a1.toNat 0 = m) (hp0 : 0 ≤ p) (hp1 : p < a1) (par : ∀ {T : qV → qM → Prop} {ν' : qM}, EZ μ ν' → (∀ ν2, EZ μ ν2 → T (.inl u) ν2) → qmw (d + 4) 112 [(.inr (.inr (.inl (0)))), (.inl (p)), (.inr (.inr (.inl (c2)))), (.inl (a3))] ν' T) (E : EZ μ ν) (k : ∀ ν', EZ μ ν' → qW (d + 4) 112 R 41 [some (.inr (.inr (.inl (0)))), some (.inl (a1)), some (.inr (.inr (.inl (c2)))), some (.inl (a3)), some (.inl (p)), none] [(.inl (u))] ν') : qmw (d + 5) 112 [(.inr (.inr (.inl (0)))), (.inl (a1)), (.inr (.inr (.inl (c2)))), (.inl (a3))] ν R := by
  rw [e112, g112_0, hp, hm]
  exact ⟨⟨h0, h1⟩, ⟨h0, h1⟩, fun q => absurd q (by omega), fun _ => ⟨fun q => absurd q (by omega), fun _ => par (EZ_u E) (fun ν' fr => k ν' fr)⟩⟩
theorem k41 {d : Nat} {R : qV → qM → Prop} {μ1 ν : qM} {a1 a4 p day f u : Int} (h : RC μ) (h0 : 0 ≤ p) (h1 : p ≤ 5) (h2 : 0 ≤ f) (h3 : f ≤ 9) (lk : LK μ μ1 (74 + 11 * p) day) (hday : day = μ 58 3) (E : EZ μ1 ν) (hu : -300 ≤ u ∧ u ≤ 600) (hR : R (.inl (if a1 = 0 then 1 else if a1 = 1 then u + μ (74 + 11 * p + 1) f else if a1 = 2 then u + 2 * sW μ p day f else if a1 = 3 then qidiv u 2 else if a1 = 4 then u + tW μ p day f else if a1 = 5 then 3 * u else if a1 = 6 then (if bW μ p day f = 0 then u else u + 50) else qmax 0 (u - 5))) ν) : qW (d + 3) 112 R 41 [some (.inr (.inr (.inl (0)))), some (.inl (a1)), some (.inr (.inr (.inl (74 + 11 * p)))), some (.inl (f)), some (.inl (a4)), none] [(.inl (u))] ν := by
  have w := W_r h (p := p) (day := day) (f := f) h0 h1 h2 h3
  have kp : ∀ j i, 0 ≤ j → j ≤ 10 → ν (74 + 11 * p + j) i = μ (74 + 11 * p + j) i := fun j i q1 q2 => by
    rw [E (74 + 11 * p + j) i (by omega), lk.1.2 (74 + 11 * p + j) i (by omega)]
  have e58 : ν 58 3 = day := by
    rw [E 58 3 (by decide), lk.1.2 58 3 (by omega), hday]
  have hc : isP (74 + 11 * p) := ⟨p, h0, by omega, rfl⟩
  have hp := pf hc
  have hx : 0 ≤ f ∧ f < 10 := ⟨h2, by omega⟩
  have t1 := (okP_of h.2.1 h.2.2.2.2.1 h0 h1).1 f h2 h3
  rw [g112_41, e58]
  simp only [hp, qif_r]
  clear hp
  refine ⟨fun q => ?_, fun q => ?_, fun q => ⟨hx, ?_⟩, fun q => y20 h h0 h1 h2 h3 lk E ?_, fun q => ⟨by decide, ?_⟩, fun q => y21 h h0 h1 h2 h3 lk E ?_, fun q => ?_, fun q => x45 hc h2 h3 (fun a ha => ?_), trivial⟩
  · by_cases q0 : a1 < 0
    · rw [if_neg (by omega), if_neg (by omega), if_neg (by omega), if_neg (by omega), if_neg (by omega), if_neg (by omega), if_neg (by omega)] at hR
      rw [q32_id (by omega) (by omega)]
      exact hR
    · rw [if_neg (by omega), if_neg (by omega), if_neg (by omega), if_neg (by omega), if_neg (by omega), if_neg (by omega), if_neg (by omega)] at hR
      rw [q32_id (by omega) (by omega)]
      exact hR
  · rw [if_pos q] at hR
    exact hR
  · rw [if_neg (by omega), if_pos q] at hR
    rw [kp 1 f (by decide) (by decide), q32_id (by omega) (by omega)]
    exact hR
  · rw [if_neg (by omega), if_neg (by omega), if_pos q] at hR
    rw [g112_116, q32_id (z := 2 * sW μ p day f) (by omega) (by omega), q32_id (by omega) (by omega)]
    exact hR
  · rw [if_neg (by omega), if_neg (by omega), if_neg (by omega), if_pos q] at hR
    exact hR
  · rw [if_neg (by omega), if_neg (by omega), if_neg (by omega), if_neg (by omega), if_pos q] at hR
    rw [g112_135, q32_id (by omega) (by omega)]
    exact hR
  · rw [if_neg (by omega), if_neg (by omega), if_neg (by omega), if_neg (by omega), if_neg (by omega), if_pos q] at hR
    rw [q32_id (by omega) (by omega)]
    exact hR
  · rw [if_neg (by omega), if_neg (by omega), if_neg (by omega), if_neg (by omega), if_neg (by omega), if_neg (by omega), if_pos q] at hR
    rw [kp 3 f (by decide) (by decide), kp 4 f (by decide) (by decide)] at ha
    unfold bW at hR
    rw [g112_154, q32_id (z := u + 50) (by omega) (by omega)]
    rcases ha with ⟨z, ea⟩ | ⟨z, ea⟩
    · rw [if_pos z, if_neg (by decide)] at hR
      exact ⟨fun y => by omega, fun _ => hR⟩
    · rw [if_neg z, if_pos rfl] at hR
      exact ⟨fun _ => hR, fun y => absurd ea y⟩
/-- weigh -/
theorem x112 {d : Nat} {R : qV → qM → Prop} {μ1 ν : qM} {a1 p day f : Int} (h : RC μ) (h0 : 0 ≤ p) (h1 : p ≤ 5) (h2 : 0 ≤ f) (h3 : f ≤ 9) (lk : LK μ μ1 (74 + 11 * p) day) (hday : day = μ 58 3) (ha : 0 ≤ a1) (ha2 : a1 ≤ 7) (E : EZ μ1 ν) (hR : ∀ ν', EZ μ1 ν' → R (.inl (WV a1 (sW μ p day f) (tW μ p day f) (bW μ p day f) (μ (74 + 11 * p + 1) f))) ν') : qmw (d + 6) 112 [(.inr (.inr (.inl (0)))), (.inl (a1)), (.inr (.inr (.inl (74 + 11 * p)))), (.inl (f))] ν R := by
  have w := W_r h (p := p) (day := day) (f := f) h0 h1 h2 h3
  have V2 : ∀ {D : Nat} {T : qV → qM → Prop} {ν' : qM}, EZ μ1 ν' → (∀ ν2, EZ μ1 ν2 → T (.inl (1 + 2 * sW μ p day f)) ν2) → qmw (D + 5) 112 [(.inr (.inr (.inl (0)))), (.inl (2)), (.inr (.inr (.inl (74 + 11 * p)))), (.inl (f))] ν' T := fun {D} {T} {ν'} e k => v112 (μ := μ1) (p := 0) (m := 100) (u := 1) (by decide) (by decide) (by decide +kernel) (by decide +kernel) (by decide) (by decide) (fun e2 k2 => v0 e2 k2) e (fun ν2 e2 => k41 (d := D + 1) h h0 h1 h2 h3 lk hday e2 (by decide) (by rw [if_neg (by decide), if_neg (by decide), if_pos rfl]; exact k ν2 e2))
  have V4 : ∀ {D : Nat} {T : qV → qM → Prop} {ν' : qM}, EZ μ1 ν' → (∀ ν2, EZ μ1 ν2 → T (.inl (1 + tW μ p day f)) ν2) → qmw (D + 5) 112 [(.inr (.inr (.inl (0)))), (.inl (4)), (.inr (.inr (.inl (74 + 11 * p)))), (.inl (f))] ν' T := fun {D} {T} {ν'} e k => v112 (μ := μ1) (p := 0) (m := 10000) (u := 1) (by decide) (by decide) (by decide +kernel) (by decide +kernel) (by decide) (by decide) (fun e2 k2 => v0 e2 k2) e (fun ν2 e2 => k41 (d := D + 1) h h0 h1 h2 h3 lk hday e2 (by decide) (by rw [if_neg (by decide), if_neg (by decide), if_neg (by decide), if_neg (by decide), if_pos rfl]; exact k ν2 e2))
  unfold WV at hR
  rcases (show a1 = 0 ∨ a1 = 1 ∨ a1 = 2 ∨ a1 = 3 ∨ a1 = 4 ∨ a1 = 5 ∨ a1 = 6 ∨ a1 = 7 by omega) with rfl | rfl | rfl | rfl | rfl | rfl | rfl | rfl
  · exact v0 (μ := μ1) E (fun ν' e => by
      have Y := hR ν' e
      rw [if_pos rfl] at Y
      exact Y)
  · exact v112 (d := d + 1) (μ := μ1) (p := 0) (m := 10) (u := 1) (by decide) (by decide) (by decide +kernel) (by decide +kernel) (by decide) (by decide) (fun e2 k2 => v0 e2 k2) E (fun ν2 e2 => k41 (d := d + 2) h h0 h1 h2 h3 lk hday e2 (by decide) (by
      have Y := hR ν2 e2
      rw [if_neg (by decide), if_pos rfl] at Y
      rw [if_neg (by decide), if_pos rfl]
      exact Y))
  · exact V2 E (fun ν2 e2 => by
      have Y := hR ν2 e2
      rw [if_neg (by decide), if_neg (by decide), if_pos rfl] at Y
      exact Y)
  · exact v112 (d := d + 1) (μ := μ1) (p := 2) (m := 1000) (u := 1 + 2 * sW μ p day f) (by decide) (by decide) (by decide +kernel) (by decide +kernel) (by decide) (by decide) (fun e2 k2 => V2 e2 k2) E (fun ν2 e2 => k41 (d := d + 2) h h0 h1 h2 h3 lk hday e2 (by omega) (by
      have Y := hR ν2 e2
      rw [if_neg (by decide), if_neg (by decide), if_neg (by decide), if_pos rfl] at Y
      rw [if_neg (by decide), if_neg (by decide), if_neg (by decide), if_pos rfl, qidiv_p (by omega) (by omega) (by decide) (by decide)]
      exact Y))
  · exact V4 E (fun ν2 e2 => by
      have Y := hR ν2 e2
      rw [if_neg (by decide), if_neg (by decide), if_neg (by decide), if_neg (by decide), if_pos rfl] at Y
      exact Y)
  · exact v112 (d := d + 1) (μ := μ1) (p := 4) (m := 100000) (u := 1 + tW μ p day f) (by decide) (by decide) (by decide +kernel) (by decide +kernel) (by decide) (by decide) (fun e2 k2 => V4 e2 k2) E (fun ν2 e2 => k41 (d := d + 2) h h0 h1 h2 h3 lk hday e2 (by omega) (by
      have Y := hR ν2 e2
      rw [if_neg (by decide), if_neg (by decide), if_neg (by decide), if_neg (by decide), if_neg (by decide), if_pos rfl] at Y
      rw [if_neg (by decide), if_neg (by decide), if_neg (by decide), if_neg (by decide), if_neg (by decide), if_pos rfl]
      exact Y))
  · exact v112 (d := d + 1) (μ := μ1) (p := 0) (m := 1000000) (u := 1) (by decide) (by decide) (by decide +kernel) (by decide +kernel) (by decide) (by decide) (fun e2 k2 => v0 e2 k2) E (fun ν2 e2 => k41 (d := d + 2) h h0 h1 h2 h3 lk hday e2 (by decide) (by
      have Y := hR ν2 e2
      rw [if_neg (by decide), if_neg (by decide), if_neg (by decide), if_neg (by decide), if_neg (by decide), if_neg (by decide), if_pos rfl] at Y
      rw [if_neg (by decide), if_neg (by decide), if_neg (by decide), if_neg (by decide), if_neg (by decide), if_neg (by decide), if_pos rfl]
      exact Y))
  · exact v112 (d := d + 1) (μ := μ1) (p := 4) (m := 10000000) (u := 1 + tW μ p day f) (by decide) (by decide) (by decide +kernel) (by decide +kernel) (by decide) (by decide) (fun e2 k2 => V4 e2 k2) E (fun ν2 e2 => k41 (d := d + 2) h h0 h1 h2 h3 lk hday e2 (by omega) (by
      have Y := hR ν2 e2
      rw [if_neg (by decide), if_neg (by decide), if_neg (by decide), if_neg (by decide), if_neg (by decide), if_neg (by decide), if_neg (by decide)] at Y
      rw [if_neg (by decide), if_neg (by decide), if_neg (by decide), if_neg (by decide), if_neg (by decide), if_neg (by decide), if_neg (by decide)]
      exact Y))
/-! the reference's -/
theorem j174 {d : Nat} {Q : qV → qM → Prop} {a1 a2 a3 a4 a5 a6 b c : Int} (h0 : 0 ≤ a1) (h1 : a1 < 8) (h2 : 0 ≤ a5) (h3 : a5 < 60) (k0 : a1 = 0 → Q (.inl 1) (qu μ 170 0 (q64 (μ 170 0 + wT a1)))) (k1 : a1 = 1 → Q (.inl (q32 (1 + μ 177 a5))) (qu μ 170 0 (q64 (μ 170 0 + wT a1)))) (k2 : a1 = 2 → Q (.inl a6) (qu μ 170 0 (q64 (μ 170 0 + wT a1)))) (k3 : a1 = 3 → Q (.inl (qidiv a6 2)) (qu μ 170 0 (q64 (μ 170 0 + wT a1)))) (k4 : a1 = 4 → Q (.inl (q32 (c + b))) (qu μ 170 0 (q64 (μ 170 0 + wT a1)))) (k5 : a1 = 5 → Q (.inl (q32 (3 * q32 (c + b)))) (qu μ 170 0 (q64 (μ 170 0 + wT a1)))) (k6 : a1 = 6 → (μ 179 a5 = -9 ∨ μ 170 1 < μ 180 a5) → Q (.inl 1) (qu μ 170 0 (q64 (μ 170 0 + wT a1)))) (k7 : a1 = 6 → (¬ μ 179 a5 = -9 ∧ μ 180 a5 ≤ μ 170 1) → Q (.inl 51) (qu μ 170 0 (q64 (μ 170 0 + wT a1)))) (k8 : a1 = 7 → Q (.inl (if 0 ≤ q32 (q32 (c + b) - 5) then q32 (q32 (c + b) - 5) else 0)) (qu μ 170 0 (q64 (μ 170 0 + wT a1)))) : qW (d + 1) 174 Q 111 [some (.inr (.inr (.inl (170)))), some (.inl (a1)), some (.inl (a2)), some (.inl (a3)), some (.inl (a4)), some (.inl (a5)), some (.inl (a6)), none, none] [(.inl (b)), (.inl (c))] μ := by
  have hy : 0 ≤ a5 ∧ a5 < 60 := ⟨h2, h3⟩
  rw [g174_111]
  simp only [E142, g174_333]
  rcases (show a1 = 0 ∨ a1 = 1 ∨ a1 = 2 ∨ a1 = 3 ∨ a1 = 4 ∨ a1 = 5 ∨ a1 = 6 ∨ a1 = 7 by clear k0 k1 k2 k3 k4 k5 k6 k7 k8; omega) with rfl | rfl | rfl | rfl | rfl | rfl | rfl | rfl
  · have Y := k0 rfl
    clear k0 k1 k2 k3 k4 k5 k6 k7 k8
    (repeat' with_reducible (first | apply And.intro | intro _))
    all_goals first | exact hy.1 | exact hy.2 | exact Y | trivial | decide | (clear Y; exfalso; omega)
  · have Y := k1 rfl
    clear k0 k1 k2 k3 k4 k5 k6 k7 k8
    (repeat' with_reducible (first | apply And.intro | intro _))
    all_goals first | exact hy.1 | exact hy.2 | exact Y | trivial | decide | (clear Y; exfalso; omega)
  · have Y := k2 rfl
    clear k0 k1 k2 k3 k4 k5 k6 k7 k8
    (repeat' with_reducible (first | apply And.intro | intro _))
    all_goals first | exact hy.1 | exact hy.2 | exact Y | trivial | decide | (clear Y; exfalso; omega)
  · have Y := k3 rfl
    clear k0 k1 k2 k3 k4 k5 k6 k7 k8
    (repeat' with_reducible (first | apply And.intro | intro _))
    all_goals first | exact hy.1 | exact hy.2 | exact Y | trivial | decide | (clear Y; exfalso; omega)
  · have Y := k4 rfl
    clear k0 k1 k2 k3 k4 k5 k6 k7 k8
    (repeat' with_reducible (first | apply And.intro | intro _))
    all_goals first | exact hy.1 | exact hy.2 | exact Y | trivial | decide | (clear Y; exfalso; omega)
  · have Y := k5 rfl
    clear k0 k1 k2 k3 k4 k5 k6 k7 k8
    (repeat' with_reducible (first | apply And.intro | intro _))
    all_goals first | exact hy.1 | exact hy.2 | exact Y | trivial | decide | (clear Y; exfalso; omega)
  · have Y := k6 rfl
    have Z := k7 rfl
    clear k0 k1 k2 k3 k4 k5 k6 k7 k8
    (repeat' with_reducible (first | apply And.intro | intro _))
    all_goals first | exact hy.1 | exact hy.2 | exact Y (by omega) | exact Z (by omega) | trivial | decide | (clear Y Z; exfalso; omega)
  · have Y := k8 rfl
    clear k0 k1 k2 k3 k4 k5 k6 k7 k8
    (repeat' with_reducible (first | apply And.intro | intro _))
    all_goals first | exact hy.1 | exact hy.2 | exact Y | trivial | decide | (clear Y; exfalso; omega)
theorem x174 {d : Nat} {Q : qV → qM → Prop} {a1 a2 a3 : Int} (h : RC μ) (hQ : wok a1 a2 a3 → ∀ μ', Safe μ' → (∀ c i, ¬ (c = 170 ∧ i = 0) → μ' c i = μ c i) → Q (.inl (WV a1 (sW μ a2 (μ 170 1) a3) (tW μ a2 (μ 170 1) a3) (bW μ a2 (μ 170 1) a3) (μ (74 + 11 * a2 + 1) a3))) μ') (hN : ¬ wok a1 a2 a3 → Q (.inl (-1)) μ) : qmw (d + 4) 174 [(.inr (.inr (.inl (170)))), (.inl (a1)), (.inl (a2)), (.inl (a3))] μ Q := by
  obtain ⟨hS, hP, hF, hL, hR, hC', hU, hT⟩ := id h
  unfold wok at hQ hN
  rw [e174, g174_0, E117, g174_7, qbr2]
  simp only [E133, E134, g174_14, g174_21, qbr2, qbr]
  refine ⟨fun q => hN (by clear hQ hN; omega), fun q => ⟨fun q2 => hN (by clear hQ hN; omega), fun q2 => ⟨fun q3 => x136 hS q2.1 (by omega) ?_, fun q3 => hN (by clear hQ hN; omega)⟩⟩⟩
  have Y := hQ (by clear hQ hN; omega)
  clear hQ hN
  have w := W_r h (p := a2) (day := μ 170 1) (f := a3) q2.1 q2.2 q3.1 q3.2
  have ok := okP_of hP hR q2.1 q2.2
  have hd := okD_C hS hU.2.2 (μ 170 1)
  have t1 := ok.1 a3 q3.1 q3.2
  have tt := tM_C hP (p := a2) (f := a3) q2.1 q2.2 q3.1 q3.2
  have sl := hL a2 a3 q2.1 q2.2 q3.1 q3.2
  have em : mfw μ a2 a3 (μ 170 1) = FoC μ a2 (μ 170 1) a3 := (RFirm_fw hF q2.1 q2.2).symm
  have fr : -1 ≤ FoC μ a2 (μ 170 1) a3 ∧ FoC μ a2 (μ 170 1) a3 < μ (74 + 11 * a2) 10 ∧ FoC μ a2 (μ 170 1) a3 ≤ 2 := fo_r hS (p := a2) (f := a3) (day := μ 170 1) q2.1 q2.2
  have M : ∀ v, v = WV a1 (sW μ a2 (μ 170 1) a3) (tW μ a2 (μ 170 1) a3) (bW μ a2 (μ 170 1) a3) (μ (74 + 11 * a2 + 1) a3) → Q (.inl v) (qu μ 170 0 (q64 (μ 170 0 + wT a1))) := fun v e => by
    rw [e]
    exact Y _ (Safe_170 hS) (fun c i q => qu_ne q)
  clear Y
  have key : ∀ a4 a6 : Int, a6 = 1 + 2 * sW μ a2 (μ 170 1) a3 → qW (d + 3) 174 Q 111 [some (.inr (.inr (.inl (170)))), some (.inl (a1)), some (.inl (a2)), some (.inl (a3)), some (.inl (a4)), some (.inl (10 * a2 + a3)), some (.inl (a6)), none, none] [(.inl (tW μ a2 (μ 170 1) a3)), (.inl (1))] μ := fun a4 a6 e6 => by
    unfold WV at M
    have qc : q32 (1 + tW μ a2 (μ 170 1) a3) = 1 + tW μ a2 (μ 170 1) a3 := q32_id (by omega) (by omega)
    refine j174 (d := d + 2) q.1 (by omega) (by omega) (by omega) (fun e => M _ ?_) (fun e => M _ ?_) (fun e => M _ ?_) (fun e => M _ ?_) (fun e => M _ ?_) (fun e => M _ ?_) (fun e z => M _ ?_) (fun e z => M _ ?_) (fun e => M _ ?_)
    · rw [if_pos e]
    · rw [if_neg (by omega), if_pos e, ← tt.1, q32_id (by omega) (by omega)]
    · rw [if_neg (by omega), if_neg (by omega), if_pos e, e6]
    · rw [if_neg (by omega), if_neg (by omega), if_neg (by omega), if_pos e, e6, qidiv_p (by omega) (by omega) (by decide) (by decide)]
    · rw [if_neg (by omega), if_neg (by omega), if_neg (by omega), if_neg (by omega), if_pos e, qc]
    · rw [if_neg (by omega), if_neg (by omega), if_neg (by omega), if_neg (by omega), if_neg (by omega), if_pos e, qc, q32_id (by omega) (by omega)]
    · rw [if_neg (by omega), if_neg (by omega), if_neg (by omega), if_neg (by omega), if_neg (by omega), if_neg (by omega), if_pos e]
      have c : ¬ (0 ≤ μ (74 + 11 * a2 + 3) a3 ∧ μ (74 + 11 * a2 + 4) a3 ≤ μ 170 1) := by omega
      unfold bW
      rw [if_neg c, if_pos rfl]
    · rw [if_neg (by omega), if_neg (by omega), if_neg (by omega), if_neg (by omega), if_neg (by omega), if_neg (by omega), if_pos e]
      have c : 0 ≤ μ (74 + 11 * a2 + 3) a3 ∧ μ (74 + 11 * a2 + 4) a3 ≤ μ 170 1 := by omega
      unfold bW
      rw [if_pos c, if_neg (by decide)]
    · rw [qc, q32_id (z := 1 + tW μ a2 (μ 170 1) a3 - 5) (by omega) (by omega), over_q, if_neg (by omega), if_neg (by omega), if_neg (by omega), if_neg (by omega), if_neg (by omega), if_neg (by omega), if_neg (by omega)]
  clear M
  rw [em, g174_36, q32_id (z := 10 * a2) (by omega) (by omega), q32_id (z := 10 * a2 + a3) (by omega) (by omega)]
  by_cases n9 : FoC μ a2 (μ 170 1) a3 = -1
  · rw [if_pos n9]
    have s0 : sW μ a2 (μ 170 1) a3 = 0 := by
      unfold sW
      rw [if_neg (by omega)]
    have t0 : tW μ a2 (μ 170 1) a3 = 0 := by
      unfold tW
      rw [if_neg (by omega)]
    rw [s0, t0] at key
    refine ⟨fun z => absurd rfl z, fun _ => ⟨fun z => absurd rfl z, fun _ => key _ _ ?_⟩⟩
    exact (q32_id (by decide) (by decide)).trans (by decide)
  · rw [if_neg n9]
    have q5 : 0 ≤ FoC μ a2 (μ 170 1) a3 := by omega
    have hit := fo_hit hS (p := a2) (f := a3) (day := μ 170 1) q2.1 q2.2 q5
    have sp := (hR a2 q2.1 q2.2).1 _ q5 hit.1
    have av : 0 ≤ avC μ (74 + 11 * a2) (μ 170 1) a3 ∧ avC μ (74 + 11 * a2) (μ 170 1) a3 ≤ 20 := avg_r sp.1.1 hit.2.2.1 hit.2.2.2 sp.1.2.2 sp.2.1.1 sp.2.1.2
    have d1 := hd _ t1.1 t1.2
    have d2 := hd _ av.1 av.2
    have fi := (hF a2 q2.1 q2.2).2 (FoC μ a2 (μ 170 1) a3) q5 fr.2.2
    have s1 : sW μ a2 (μ 170 1) a3 = μ 184 (3 * a2 + FoC μ a2 (μ 170 1) a3) := by
      unfold sW
      rw [if_pos q5]
      exact fi.2.2.1
    have t2 : tW μ a2 (μ 170 1) a3 = qmax 0 (duC μ (μ 170 1) (μ (74 + 11 * a2 + 1) a3) - duC μ (μ 170 1) (avC μ (74 + 11 * a2) (μ 170 1) a3)) := by
      unfold tW
      rw [if_pos q5]
    have go : ∀ a6, a6 = 1 + 2 * sW μ a2 (μ 170 1) a3 → qmw (d + 3) 139 [(.inr (.inr (.inl (170)))), (.inl (a2)), (.inl (a3)), (.inl (μ 170 1))] μ (fun v ν => qW (d + 3) 174 Q 92 [some (.inr (.inr (.inl (170)))), some (.inl (a1)), some (.inl (a2)), some (.inl (a3)), some (.inl (3 * a2 + FoC μ a2 (μ 170 1) a3)), some (.inl (10 * a2 + a3)), some (.inl (a6)), none, none] (v :: [(.inl (1))]) ν) := fun a6 e6 => by
      refine x139m (Sm_rf hS) (okR_of hU) q2.1 q2.2 q3.1 q3.2 tt.2 ?_
      rw [duM_C hS hU, ← tt.1, g174_92]
      refine x146 (by omega) (by omega) (by rw [← fi.1, ← fi.2.1]; exact sp.1) (by rw [← fi.1]; exact hit.2.2.1) q3.2 (by rw [← fi.2.2.1]; exact ⟨sp.2.1.1, by omega⟩) ?_
      rw [← fi.1, ← fi.2.1, ← fi.2.2.1, g174_100]
      have er : avg (μ (74 + 11 * a2 + 7) (FoC μ a2 (μ 170 1) a3)) (μ (74 + 11 * a2 + 5) (FoC μ a2 (μ 170 1) a3)) (μ (74 + 11 * a2 + 6) (FoC μ a2 (μ 170 1) a3)) a3 = avC μ (74 + 11 * a2) (μ 170 1) a3 := rfl
      rw [er]
      refine x131m (Sm_rf hS) (okR_of hU) av.1 (by omega) ?_
      rw [duM_C hS hU, g174_107, E142, over_q, q32_id (by omega) (by omega), ← t2]
      exact key _ _ e6
    refine ⟨fun z => ⟨by omega, fun _ => go _ ?_, fun y => absurd y z⟩, fun z => absurd z (by omega)⟩
    rw [← s1, q32_id (z := 2 * sW μ a2 (μ 170 1) a3) (by omega) (by omega), q32_id (by omega) (by omega)]
theorem W_sv {μ1 : qM} (hm : EZ μ μ1 ∨ Sv μ μ1) {p day f : Int} (h0 : 0 ≤ p) (h1 : p ≤ 5) : sW μ1 p day f = sW μ p day f ∧ tW μ1 p day f = tW μ p day f ∧ bW μ1 p day f = bW μ p day f ∧ μ1 (74 + 11 * p + 1) f = μ (74 + 11 * p + 1) f := by
  have k : ∀ c i, (9 ≤ c ∧ c ≤ 14) ∨ (74 ≤ c ∧ c < 140) → μ1 c i = μ c i := fun c i q => by
    rcases hm with e | e
    · exact e c i (by omega)
    · exact e.2 c i (by omega)
  have kp : ∀ j i, 0 ≤ j → j ≤ 10 → μ1 (74 + 11 * p + j) i = μ (74 + 11 * p + j) i := fun j i _ _ => k _ _ (by omega)
  have z := foC_fr (day := day) kp
  have e0 : FoC μ1 p day = FoC μ p day := z.1
  have ed := (duC_fr (μ := μ) (μ1 := μ1) (fun c i q1 q2 => k c i (by omega)) day).1
  have ea : avC μ1 (74 + 11 * p) day f = avC μ (74 + 11 * p) day f := by
    unfold avC
    rw [z.1, kp 5 _ (by decide) (by decide), kp 6 _ (by decide) (by decide), kp 7 _ (by decide) (by decide)]
  unfold sW tW bW
  rw [e0, ed, ea, kp 1 f (by decide) (by decide), kp 3 f (by decide) (by decide), kp 4 f (by decide) (by decide), kp 7 _ (by decide) (by decide)]
  exact ⟨rfl, rfl, rfl, rfl⟩
theorem R4_z {μ1 : qM} (h : R4 μ) (hS : Safe μ1) (E : EZ μ μ1) : R4 μ1 := ⟨R3_fr h.1 (R2_fr h.1.1 (RA_fr h.1.1.1 hS (fun c i q q1 q2 => E c i q1)) (fun c i q => E c i (by unfold ft at q; omega))) (RTab_fr h.1.1.1.1 h.1.2.2.2.2 (fun c i q => E c i (by omega))) (fun c i q => E c i (by unfold fS3 at q; omega)), RDL_fr h.1.1.1.1 h.2 (fun c i q => E c i (by unfold fD at q; omega))⟩
theorem R4_z2 {μ1 : qM} (h : R4 μ) (hS : Safe μ1) (E : ∀ c i, ¬ (c = 170 ∧ i = 0) → μ1 c i = μ c i) : R4 μ1 := ⟨R3_fr h.1 (R2_fr h.1.1 (RA_fr h.1.1.1 hS (fun c i q q1 q2 => E c i q2)) (fun c i q => E c i (by unfold ft at q; omega))) (RTab_fr h.1.1.1.1 h.1.2.2.2.2 (fun c i q => E c i (by omega))) (fun c i q => E c i (by unfold fS3 at q; omega)), RDL_fr h.1.1.1.1 h.2 (fun c i q => E c i (by unfold fD at q; omega))⟩
theorem EZ_safe {μ1 : qM} (hS : Safe μ) (E : EZ μ μ1) : Safe μ1 := by
  have s : ∀ i v, sf 0 i v := fun i v => by
    unfold sf
    refine ⟨?_, ?_, ?_, ?_, ?_, ?_, ?_, ?_, ?_, ?_, ?_, ?_, ?_, ?_, ?_, ?_, ?_, ?_, ?_, ?_, ?_, ?_, ?_, ?_, ?_, ?_, ?_, ?_, ?_, ?_, ?_⟩ <;> intros <;> omega
  exact Safe_ch (c0 := 0) hS (fun c i q => E c i q) (fun i => s i _) (by decide) (by decide) (by decide) (by decide)
theorem pd99 {a1 a2 a3 : Int} (h : R4 μ) : PE R4 99 174 [(.inl (a1)), (.inl (a2)), (.inl (a3))] μ := by
  have hS := h.1.1.1.1
  have hT := h.1.1.1.2.1.1
  have hC' := R3_c h.1
  have no : ¬ wok a1 a2 a3 → ∃ a : Int, (.inl (-1) : qV) = .inl a ∧ qmw 20 174 [(.inr (.inr (.inl (170)))), (.inl (a1)), (.inl (a2)), (.inl (a3))] μ (fun w μ2 => w = .inl a ∧ R4 μ2) := fun q => ⟨_, rfl, x174 hC' (fun y => absurd y q) (fun _ => ⟨rfl, h⟩)⟩
  unfold PE
  rw [e99, g99_0, E104, g99_7, qbr]
  simp only [E105, E106, g99_14, g99_21, qbr2, qbr]
  refine ⟨fun q => no (by unfold wok; omega), fun q => ⟨fun q2 => no (by unfold wok; omega), fun q2 => ⟨fun q3 => y108 hC' (by omega) (by omega) (fun μ1 lk ht => ?_), fun q3 => no (by unfold wok; omega)⟩⟩⟩
  clear no
  have wk : wok a1 a2 a3 := by
    unfold wok
    omega
  obtain ⟨k1, k2, k3, k4, k5, k6⟩ := id wk
  have h1 := R4_v h lk.1 ht
  have t1 : μ1 170 1 = μ 58 3 := (lk.1.2 170 1 (by omega)).trans hT.symm
  rw [g99_38, qra57 k3 (by omega)]
  refine ⟨by omega, x112 hC' k3 k4 k5 k6 lk rfl k1 k2 (fun _ _ _ => rfl) (fun ν E => ?_)⟩
  rw [g99_50]
  have hν := R4_z h1 (EZ_safe h1.1.1.1.1 E) E
  have t2 : ν 170 1 = μ 58 3 := (E 170 1 (by decide)).trans t1
  have a := W_sv (Or.inr lk.1) (day := μ 58 3) (f := a3) k3 k4
  have b := W_sv (Or.inl E) (day := μ 58 3) (f := a3) k3 k4
  refine ⟨_, rfl, x174 (R3_c hν.1) (fun _ μ2 s2 f2 => ⟨?_, R4_z2 hν s2 f2⟩) (fun y => absurd wk y)⟩
  rw [t2, b.1, b.2.1, b.2.2.1, b.2.2.2, a.1, a.2.1, a.2.2.1, a.2.2.2]
end WE
