/-! QUESTIONS: stands, owed -/
def avg (S F T f : Int) : Int := S / (T - F + 1) + (if f - F < S % (T - F + 1) then 1 else 0)
theorem avg_r {S F T f : Int} (h0 : 0 ≤ F) (h1 : F ≤ f) (h2 : f ≤ T) (h3 : T ≤ 9) (h4 : 0 ≤ S) (h5 : S ≤ 20 * (T - F + 1)) : 0 ≤ avg S F T f ∧ avg S F T f ≤ 20 := by
  unfold avg
  generalize hn : T - F + 1 = n at *
  have hn1 : 1 ≤ n ∧ n ≤ 10 := by omega
  rcases (show n = 1 ∨ n = 2 ∨ n = 3 ∨ n = 4 ∨ n = 5 ∨ n = 6 ∨ n = 7 ∨ n = 8 ∨ n = 9 ∨ n = 10 by omega) with rfl | rfl | rfl | rfl | rfl | rfl | rfl | rfl | rfl | rfl
  all_goals
    split <;> omega
section OWD
variable {μ : qM}
def avC (μ : qM) (c day : Int) : Int → Int := fun f => avg (μ (c + 7) (foC μ c day f)) (μ (c + 5) (foC μ c day f)) (μ (c + 6) (foC μ c day f)) f
/-- what is owed: by the average, least, most, by true pays -/
def OW (μ : qM) (p day what : Int) : Int := if what = 1 then LE (FoC μ p day) (SxC μ (74 + 11 * p) day) (duC μ day) (μ (74 + 11 * p + 1)) (hC μ (74 + 11 * p) day) else if what = 2 then MO (FoC μ p day) (SxC μ (74 + 11 * p) day) (duC μ day) (μ (74 + 11 * p + 1)) (hC μ (74 + 11 * p) day) else if what = 0 then qmax 0 (pd (FoC μ p day) (duC μ day) (μ (74 + 11 * p + 1)) - pd (FoC μ p day) (duC μ day) (avC μ (74 + 11 * p) day)) else qmax 0 (pd (FoC μ p day) (duC μ day) (μ (74 + 11 * p + 1)) - pd (FoC μ p day) (duC μ day) (μ (74 + 11 * p + 2)))
theorem x46 {d : Nat} {Q : qV → qM → Prop} {c0 a1 a2 : Int} (hc : isP c0) (h0 : 0 ≤ a1) (h1 : a1 ≤ 2) (hr : 0 ≤ μ (c0 + 5) a1 ∧ μ (c0 + 5) a1 ≤ μ (c0 + 6) a1 ∧ μ (c0 + 6) a1 ≤ 9) (h2 : μ (c0 + 5) a1 ≤ a2) (h3 : a2 ≤ 9) (hs : 0 ≤ μ (c0 + 7) a1 ∧ μ (c0 + 7) a1 ≤ 200) (hQ : Q (.inl (avg (μ (c0 + 7) a1) (μ (c0 + 5) a1) (μ (c0 + 6) a1) a2)) μ) : qmw (d + 1) 46 [(.inr (.inr (.inl (c0)))), (.inl (a1)), (.inl (a2))] μ Q := by
  have hb : 0 ≤ a1 ∧ a1 < 3 := by omega
  have e1 : q32 (μ (c0 + 6) a1 - μ (c0 + 5) a1) = μ (c0 + 6) a1 - μ (c0 + 5) a1 := q32_id (by omega) (by omega)
  have e2 : q32 (μ (c0 + 6) a1 - μ (c0 + 5) a1 + 1) = μ (c0 + 6) a1 - μ (c0 + 5) a1 + 1 := q32_id (by omega) (by omega)
  have e3 : q32 (a2 - μ (c0 + 5) a1) = a2 - μ (c0 + 5) a1 := q32_id (by omega) (by omega)
  have n1 : 0 < μ (c0 + 6) a1 - μ (c0 + 5) a1 + 1 := by omega
  have nz : ¬ μ (c0 + 6) a1 - μ (c0 + 5) a1 + 1 = 0 := by omega
  have e4 := qidiv_p (a := μ (c0 + 7) a1) (b := μ (c0 + 6) a1 - μ (c0 + 5) a1 + 1) hs.1 (by omega) (by omega) (by omega)
  have e5 := qirem_p (a := μ (c0 + 7) a1) (b := μ (c0 + 6) a1 - μ (c0 + 5) a1 + 1) hs.1 (by omega) (by omega) (by omega)
  have d1 : 0 ≤ μ (c0 + 7) a1 / (μ (c0 + 6) a1 - μ (c0 + 5) a1 + 1) := Int.ediv_nonneg hs.1 (by omega)
  have d2 : μ (c0 + 7) a1 / (μ (c0 + 6) a1 - μ (c0 + 5) a1 + 1) ≤ μ (c0 + 7) a1 := Int.ediv_le_self _ hs.1
  have e6 : q32 (μ (c0 + 7) a1 / (μ (c0 + 6) a1 - μ (c0 + 5) a1 + 1) + 0) = μ (c0 + 7) a1 / (μ (c0 + 6) a1 - μ (c0 + 5) a1 + 1) + 0 := q32_id (by omega) (by omega)
  have e7 : q32 (μ (c0 + 7) a1 / (μ (c0 + 6) a1 - μ (c0 + 5) a1 + 1) + 1) = μ (c0 + 7) a1 / (μ (c0 + 6) a1 - μ (c0 + 5) a1 + 1) + 1 := q32_id (by omega) (by omega)
  unfold avg at hQ
  have hp := pf hc
  rw [e46 hp.1, g46_0]
  simp only [hp, qif_r, e1, e2, e3, e4, e5, e6, e7]
  clear hp
  refine ⟨hb, hb, fun _ => ⟨hb, hb, nz, fun q => ⟨hb, nz, ?_⟩, fun q => ⟨hb, nz, ?_⟩⟩, fun q => absurd n1 (Int.not_lt.mpr q)⟩
  · rw [if_neg (Int.not_lt.mpr q)] at hQ
    exact hQ
  · rw [if_pos q] at hQ
    exact hQ
theorem x146 {d : Nat} {Q : qV → qM → Prop} {a1 a2 : Int} (h0 : 0 ≤ a1) (h1 : a1 < 18) (hr : 0 ≤ μ 182 a1 ∧ μ 182 a1 ≤ μ 183 a1 ∧ μ 183 a1 ≤ 9) (h2 : μ 182 a1 ≤ a2) (h3 : a2 ≤ 9) (hs : 0 ≤ μ 184 a1 ∧ μ 184 a1 ≤ 200) (hQ : Q (.inl (avg (μ 184 a1) (μ 182 a1) (μ 183 a1) a2)) μ) : qmw (d + 1) 146 [(.inr (.inr (.inl (170)))), (.inl (a1)), (.inl (a2))] μ Q := by
  have hb : 0 ≤ a1 ∧ a1 < 18 := ⟨h0, h1⟩
  have nz : ¬ μ 183 a1 - μ 182 a1 + 1 = 0 := by omega
  have d1 : 0 ≤ μ 184 a1 / (μ 183 a1 - μ 182 a1 + 1) := Int.ediv_nonneg hs.1 (by omega)
  have d2 : μ 184 a1 / (μ 183 a1 - μ 182 a1 + 1) ≤ μ 184 a1 := Int.ediv_le_self _ hs.1
  unfold avg at hQ
  rw [e146, g146_0, q32_id (z := μ 183 a1 - μ 182 a1) (by omega) (by omega), q32_id (z := μ 183 a1 - μ 182 a1 + 1) (by omega) (by omega), q32_id (z := a2 - μ 182 a1) (by omega) (by omega), qidiv_p hs.1 (by omega) (by omega) (by omega), qirem_p hs.1 (by omega) (by omega) (by omega), q32_id (z := μ 184 a1 / (μ 183 a1 - μ 182 a1 + 1) + 0) (by omega) (by omega), q32_id (z := μ 184 a1 / (μ 183 a1 - μ 182 a1 + 1) + 1) (by omega) (by omega)]
  refine ⟨hb, hb, hb, nz, hb, hb, nz, fun q => ?_, fun q => ?_⟩
  · rw [if_neg (Int.not_lt.mpr q)] at hQ
    exact hQ
  · rw [if_pos q] at hQ
    exact hQ
/-- the class's owedBy -/
theorem x13 {d : Nat} {Q : qV → qM → Prop} {μ0 : qM} {p day a2 : Int} (h : RC μ0) (h0 : 0 ≤ p) (h1 : p ≤ 5) (hday : day ≤ 200) (lb : LB μ0 μ (74 + 11 * p) day) (hw : 0 ≤ a2 ∧ a2 ≤ 3) (hQ : Q (.inl (OW μ0 p day a2)) μ) : qmw (d + 4) 13 [(.inr (.inr (.inl (15)))), (.inr (.inr (.inl (74 + 11 * p)))), (.inl (a2))] μ Q := by
  obtain ⟨hS, hP, hF, hL, hR, hC', hU, hT⟩ := id h
  obtain ⟨l1, l2, l3, l4⟩ := lb
  have hc : isP (74 + 11 * p) := ⟨p, h0, by omega, rfl⟩
  have ok := okP_of hP hR h0 h1
  have fe := FE_day hS hR hC' h0 h1 hday
  have hh := hC_ok (day := day) hS hc
  have hd := okD_C hS hU.2.2 day
  have hp := pf hc
  unfold OW at hQ
  rw [e13, g13_0]
  have key : ∀ row : Int → Int, (∀ f, 0 ≤ f → f ≤ 9 → 0 ≤ foC μ0 (74 + 11 * p) day f → 0 ≤ row f ∧ row f ≤ 20) → (∀ f x (o5 : Option qV), 0 ≤ f → f < 10 → 0 ≤ foC μ0 (74 + 11 * p) day f → (∀ o5, qW (d + 3) 13 Q 25 [some (.inr (.inr (.inl (15)))), some (.inr (.inr (.inl (74 + 11 * p)))), some (.inl (a2)), some (.inl (x + duC μ0 day (row f))), some (.inl (f + 1)), o5] [] μ) → (0 ≤ x ∧ x ≤ 990) → (¬ a2 = 0 → (qif (Nat.beq (qty (74 + 11 * p)) 5) (qif (Nat.beq (qty (qrf (74 + 11 * p) 1)) 100) ((0 ≤ f ∧ f < qal (qrf (74 + 11 * p) 1)) ∧ (qmw (d + 3) 65 [(.inr (.inr (.inl (16)))), (.inl (μ (qrf (74 + 11 * p) 1) f))] μ (fun v ν => qW (d + 3) 13 Q 81 [some (.inr (.inr (.inl (15)))), some (.inr (.inr (.inl (74 + 11 * p)))), some (.inl (a2)), some (.inl (x)), some (.inl (f)), some (.inl (μ (qrf (74 + 11 * p) 1) f))] (v :: [(.inl (x))]) ν)))))) ∧ (a2 = 0 → ((0 ≤ f ∧ f < 10) ∧ (qmw (d + 3) 46 [(.inr (.inr (.inl (74 + 11 * p)))), (.inl (μ 54 f)), (.inl (f))] μ (fun v ν => qW (d + 3) 13 Q 59 [some (.inr (.inr (.inl (15)))), some (.inr (.inr (.inl (74 + 11 * p)))), some (.inl (a2)), some (.inl (x)), some (.inl (f)), o5] (v :: []) ν))))) → Q (.inl (qmax 0 (pd (FoC μ0 p day) (duC μ0 day) (μ0 (74 + 11 * p + 1)) - pd (FoC μ0 p day) (duC μ0 day) row))) μ → qW (d + 3) 13 Q 25 [some (.inr (.inr (.inl (15)))), some (.inr (.inr (.inl (74 + 11 * p)))), some (.inl (a2)), some (.inl (0)), some (.inl (0)), none] [] μ := fun row hrow br Y => by
    have pr := pd_r (fo := FoC μ0 p day) (du := duC μ0 day) (told := μ0 (74 + 11 * p + 1)) ok.1 hd
    refine qup 10 (P := fun f => ∀ x (o5 : Option qV), 0 ≤ f → x = smF (fun f => if 0 ≤ FoC μ0 p day f then duC μ0 day (row f) else 0) 0 f.toNat → qW (d + 3) 13 Q 25 [some (.inr (.inr (.inl (15)))), some (.inr (.inr (.inl (74 + 11 * p)))), some (.inl (a2)), some (.inl (x)), some (.inl (f)), o5] [] μ) (fun f ih hB x o5 hf ex => ?_) 0 (by omega) _ _ (by omega) rfl
    have hx : 0 ≤ x ∧ x ≤ 990 := by
      have := smF_r (g := fun f => if 0 ≤ FoC μ0 p day f then duC μ0 day (row f) else 0) (lo := 0) (B := 99) f.toNat (fun f' q1 q2 => by
        split
        · rename_i q3
          have r := hrow f' q1 (by omega) q3
          exact hd _ r.1 r.2
        · omega)
      rw [ex]
      omega
    rw [g13_25]
    refine ⟨fun q => ?_, fun q => ⟨by omega, fun q1 => ?_, fun q1 => ?_⟩⟩
    · have f10 : f = 10 := by omega
      subst f10
      have ex' : x = pd (FoC μ0 p day) (duC μ0 day) row := ex
      have pr' : 0 ≤ pd (foC μ0 (74 + 11 * p) day) (duC μ0 day) (μ0 (74 + 11 * p + 1)) ∧ pd (foC μ0 (74 + 11 * p) day) (duC μ0 day) (μ0 (74 + 11 * p + 1)) ≤ 990 := pr
      rw [l4.1.2.1, q32_id (by omega) (by omega), ex']
      exact Y
    · rw [l3 f hf (by omega)] at q1
      rw [q32_id (by omega) (by omega)]
      refine ih _ (by omega) (by omega) _ _ (by omega) ?_
      rw [show (f + 1).toNat = f.toNat + 1 by omega, smF, ← ex, show (0 : Int) + ((f.toNat : Nat) : Int) = f by omega, if_neg (Int.not_le.mpr q1), Int.add_zero]
    · rw [l3 f hf (by omega)] at q1
      refine br f x o5 hf q q1 (fun o5 => ih _ (by omega) (by omega) _ _ (by omega) ?_) hx
      rw [show (f + 1).toNat = f.toNat + 1 by omega, smF, ← ex, show (0 : Int) + ((f.toNat : Nat) : Int) = f by omega, if_pos q1]
  have kp : ∀ j i, 0 ≤ j → j ≤ 10 → μ (74 + 11 * p + j) i = μ0 (74 + 11 * p + j) i := fun j i _ _ => l1.2 _ _ (by omega)
  refine ⟨fun w1 => ⟨fun w2 => ?_, fun w2 => ?_⟩, fun w1 => ?_⟩
  · rw [if_neg w1, if_neg w2] at hQ
    by_cases w0 : a2 = 0
    · rw [if_pos w0] at hQ
      refine key (avC μ0 (74 + 11 * p) day) (fun f q1 q2 q3 => ?_) (fun f x o5 q1 q2 q3 nx hx => ⟨fun z => absurd w0 z, fun _ => ⟨by omega, ?_⟩⟩) hQ
      · have hit := fo_hit hS h0 h1 q3
        have sp := (hR p h0 h1).1 _ q3 hit.1
        exact avg_r sp.1.1 hit.2.2.1 hit.2.2.2 sp.1.2.2 sp.2.1.1 sp.2.1.2
      · have hit := fo_hit hS h0 h1 q3
        have fr := fo_r hS (p := p) (f := f) (day := day) h0 h1
        have sp := (hR p h0 h1).1 _ q3 hit.1
        have av := avg_r sp.1.1 hit.2.2.1 hit.2.2.2 sp.1.2.2 sp.2.1.1 sp.2.1.2
        have dv := hd _ av.1 av.2
        rw [l3 f q1 (by omega)]
        refine x46 hc q3 fr.2.2 (by rw [kp 5 _ (by decide) (by decide), kp 6 _ (by decide) (by decide)]; exact sp.1) (by rw [kp 5 _ (by decide) (by decide)]; exact hit.2.2.1) (by omega) (by rw [kp 7 _ (by decide) (by decide)]; exact ⟨sp.2.1.1, by omega⟩) ?_
        rw [kp 5 _ (by decide) (by decide), kp 6 _ (by decide) (by decide), kp 7 _ (by decide) (by decide), g13_59, E65, if_neg (by omega), l4.2.2.2.1 _ av.1 av.2, g13_81, q32_id (z := f + 1) (by omega) (by omega), q32_id (by omega) (by omega)]
        exact nx _
    · rw [if_neg w0] at hQ
      have tr : ∀ f, 0 ≤ f → f ≤ 9 → 0 ≤ μ0 (74 + 11 * p + 2) f ∧ μ0 (74 + 11 * p + 2) f ≤ 20 := fun f q1 q2 => by
        have z := hP p f 1 h0 h1 q1 q2 (by decide) (by decide)
        have z1 : μ0 (74 + 11 * p + 2) f = μ0 178 (10 * p + f) := z.1
        have z2 : 0 ≤ μ0 178 (10 * p + f) ∧ μ0 178 (10 * p + f) ≤ 20 := z.2
        omega
      refine key (μ0 (74 + 11 * p + 2)) (fun f q1 q2 _ => tr f q1 q2) (fun f x o5 q1 q2 q3 nx hx => ⟨fun _ => ?_, fun z => absurd z w0⟩) hQ
      have t := tr f q1 (by omega)
      have dv := hd _ t.1 t.2
      simp only [hp, qif_r]
      refine ⟨by omega, ?_⟩
      rw [kp 2 _ (by decide) (by decide), E65, if_neg (by omega), l4.2.2.2.1 _ t.1 t.2, g13_81, q32_id (z := f + 1) (by omega) (by omega), q32_id (by omega) (by omega)]
      exact nx _
  · rw [if_neg w1, if_pos w2] at hQ
    refine x11 l1.1 l4 fe hh ok.1 ?_
    rw [g13_19]
    exact hQ
  · rw [if_pos w1] at hQ
    refine x10 l1.1 l4 fe hh ok.1 ?_
    rw [g13_9]
    exact hQ
/-- the reference's owedOf -/
theorem x148 {d : Nat} {Q : qV → qM → Prop} {μ0 : qM} {p day a3 : Int} (hm : Sm μ0 μ) (h : RC μ0) (h0 : 0 ≤ p) (h1 : p ≤ 5) (hday : day ≤ 200) (hw : 0 ≤ a3 ∧ a3 ≤ 3) (hQ : ∀ μ', Sm μ0 μ' → Q (.inl (OW μ0 p day a3)) μ') : qmw (d + 6) 148 [(.inr (.inr (.inl (170)))), (.inl (p)), (.inl (day)), (.inl (a3))] μ Q := by
  obtain ⟨hS, hP, hF, hL, hR, hC', hU, hT⟩ := id h
  have hd := okD_C hS hU.2.2 day
  have ok := okP_of hP hR h0 h1
  unfold OW at hQ
  have row : ∀ (b : Int) (r : Int → Int), ((¬ b = 0 ∧ r = avC μ0 (74 + 11 * p) day) ∨ (b = 0 ∧ r = μ0 (74 + 11 * p + 2))) → (∀ f, 0 ≤ f → f ≤ 9 → 0 ≤ FoC μ0 p day f → 0 ≤ r f ∧ r f ≤ 20) → Q (.inl (qmax 0 (pd (FoC μ0 p day) (duC μ0 day) (μ0 (74 + 11 * p + 1)) - pd (FoC μ0 p day) (duC μ0 day) r))) μ → qmw (d + 5) 147 [(.inr (.inr (.inl (170)))), (.inl (p)), (.inl (day)), (.inl (b))] μ (fun v ν => qW (d + 5) 148 Q 24 [some (.inr (.inr (.inl (170)))), some (.inl (p)), some (.inl (day)), some (.inl (a3))] (v :: []) ν) := fun b r hb hr Y => by
    have hpd := pd_r (fo := FoC μ0 p day) (du := duC μ0 day) (told := μ0 (74 + 11 * p + 1)) ok.1 hd
    rw [e147, g147_0]
    refine qup 10 (P := fun f => ∀ x (o6 : Option qV), 0 ≤ f → x = smF (fun f => if 0 ≤ FoC μ0 p day f then duC μ0 day (μ0 (74 + 11 * p + 1) f) - duC μ0 day (r f) else 0) 0 f.toNat → qW (d + 4) 147 (fun v ν => qW (d + 5) 148 Q 24 [some (.inr (.inr (.inl (170)))), some (.inl (p)), some (.inl (day)), some (.inl (a3))] (v :: []) ν) 6 [some (.inr (.inr (.inl (170)))), some (.inl (p)), some (.inl (day)), some (.inl (b)), some (.inl (x)), some (.inl (f)), o6] [] μ) (fun f ih hB x o6 hf ex => ?_) 0 (by omega) _ _ (by omega) rfl
    have sb : ∀ n : Nat, n ≤ 10 → -99 * (n : Int) ≤ smF (fun f => if 0 ≤ FoC μ0 p day f then duC μ0 day (μ0 (74 + 11 * p + 1) f) - duC μ0 day (r f) else 0) 0 n ∧ smF (fun f => if 0 ≤ FoC μ0 p day f then duC μ0 day (μ0 (74 + 11 * p + 1) f) - duC μ0 day (r f) else 0) 0 n ≤ 99 * (n : Int) := fun n => by
      induction n with
      | zero =>
        intro _
        rw [smF]
        omega
      | succ n ihn =>
        intro hn
        have a := ihn (by omega)
        rw [smF, show (0 : Int) + (n : Int) = n by omega]
        by_cases q : 0 ≤ FoC μ0 p day n
        · have t1 := ok.1 n (by omega) (by omega)
          have t2 := hd _ t1.1 t1.2
          have t3 := hr n (by omega) (by omega) q
          have t4 := hd _ t3.1 t3.2
          rw [if_pos q]
          omega
        · rw [if_neg q]
          omega
    rw [g147_6]
    refine ⟨fun q => ?_, fun q => x136 hm.1 h0 (by omega) ?_⟩
    · have f10 : f = 10 := by omega
      subst f10
      have e1 : x = pd (FoC μ0 p day) (duC μ0 day) (μ0 (74 + 11 * p + 1)) - pd (FoC μ0 p day) (duC μ0 day) r := by
        have e2 : pd (FoC μ0 p day) (duC μ0 day) (μ0 (74 + 11 * p + 1)) = smF (fun f => if 0 ≤ FoC μ0 p day f then duC μ0 day (μ0 (74 + 11 * p + 1) f) - duC μ0 day (r f) else 0) 0 10 + pd (FoC μ0 p day) (duC μ0 day) r := by
          unfold pd
          rw [← smF_pl]
          refine smF_cg _ (fun f _ _ => ?_)
          by_cases q : 0 ≤ FoC μ0 p day f
          · rw [if_pos q, if_pos q, if_pos q]
            omega
          · rw [if_neg q, if_neg q, if_neg q]
            rfl
        have e3 : x = smF (fun f => if 0 ≤ FoC μ0 p day f then duC μ0 day (μ0 (74 + 11 * p + 1) f) - duC μ0 day (r f) else 0) 0 10 := ex
        omega
      rw [E142, g147_87, over_q, e1, g148_24]
      exact Y
    · have em : mfw μ p f day = FoC μ0 p day f := (mfw_sm hm p f day).trans (RFirm_fw hF h0 h1).symm
      have fr := fo_r hS (p := p) (f := f) (day := day) h0 h1
      have fr : -1 ≤ FoC μ0 p day f ∧ FoC μ0 p day f < μ0 (74 + 11 * p) 10 ∧ FoC μ0 p day f ≤ 2 := fr
      have bx := sb f.toNat (by omega)
      rw [← ex] at bx
      rw [em, g147_21]
      refine ⟨fun q1 => ?_, fun q1 => ?_⟩
      · have e9 : FoC μ0 p day f = -1 := by
          by_cases z : FoC μ0 p day f = -1
          · exact z
          · rw [if_neg z] at q1
            omega
        rw [q32_id (by omega) (by omega)]
        refine ih _ (by omega) (by omega) _ _ (by omega) ?_
        rw [show (f + 1).toNat = f.toNat + 1 by omega, smF, ← ex, show (0 : Int) + ((f.toNat : Nat) : Int) = f by omega, if_neg (by omega), Int.add_zero]
      · have n9 : ¬ FoC μ0 p day f = -1 := fun z => q1 (by rw [if_pos z])
        have q3 : 0 ≤ FoC μ0 p day f := by omega
        have hit := fo_hit hS (p := p) (f := f) (day := day) h0 h1 q3
        have sp := (hR p h0 h1).1 _ q3 hit.1
        have t1 := ok.1 f hf (by omega)
        have t2 := hd _ t1.1 t1.2
        have t3 := hr f hf (by omega) q3
        have t4 := hd _ t3.1 t3.2
        have tt := tM_C hP (p := p) (f := f) h0 h1 hf (by omega)
        rw [if_neg n9]
        refine x139m hm (okR_of hU) h0 h1 hf (by omega) tt.2 ?_
        rw [duM_C hS hU, ← tt.1, g147_40, q32_id (z := 10 * p) (by omega) (by omega), q32_id (z := 10 * p + f) (by omega) (by omega)]
        have nx : qW (d + 4) 147 (fun v ν => qW (d + 5) 148 Q 24 [some (.inr (.inr (.inl (170)))), some (.inl (p)), some (.inl (day)), some (.inl (a3))] (v :: []) ν) 72 [some (.inr (.inr (.inl (170)))), some (.inl (p)), some (.inl (day)), some (.inl (b)), some (.inl (x)), some (.inl (f)), some (.inl (3 * p + FoC μ0 p day f))] [(.inl (duC μ0 day (r f))), (.inl (duC μ0 day (μ0 (74 + 11 * p + 1) f))), (.inl (x))] μ := by
          rw [g147_72, q32_id (z := f + 1) (by omega) (by omega), q32_id (z := duC μ0 day (μ0 (74 + 11 * p + 1) f) - duC μ0 day (r f)) (by omega) (by omega), q32_id (by omega) (by omega)]
          refine ih _ (by omega) (by omega) _ _ (by omega) ?_
          rw [show (f + 1).toNat = f.toNat + 1 by omega, smF, ← ex, show (0 : Int) + ((f.toNat : Nat) : Int) = f by omega, if_pos q3]
        refine ⟨fun qb => ⟨by omega, ?_⟩, fun qb => ?_⟩
        · rcases hb with ⟨z, -⟩ | ⟨-, z⟩
          · exact absurd qb z
          · have tz := hP p f 1 h0 h1 hf (by omega) (by decide) (by decide)
            have tz1 : μ0 (74 + 11 * p + 2) f = μ0 178 (10 * p + f) := tz.1
            have er : μ 178 (10 * p + f) = r f := by
              rw [hm.2 178 _ (by omega), z, tz1]
            rw [er]
            refine x131m hm (okR_of hU) t3.1 (by omega) ?_
            rw [duM_C hS hU]
            exact nx
        · rcases hb with ⟨-, z⟩ | ⟨z, -⟩
          · have fi := (hF p h0 h1).2 (FoC μ0 p day f) q3 fr.2.2
            have m2 : μ 182 (3 * p + FoC μ0 p day f) = μ0 (74 + 11 * p + 5) (FoC μ0 p day f) := (hm.2 182 _ (by omega)).trans fi.1.symm
            have m3 : μ 183 (3 * p + FoC μ0 p day f) = μ0 (74 + 11 * p + 6) (FoC μ0 p day f) := (hm.2 183 _ (by omega)).trans fi.2.1.symm
            have m4 : μ 184 (3 * p + FoC μ0 p day f) = μ0 (74 + 11 * p + 7) (FoC μ0 p day f) := (hm.2 184 _ (by omega)).trans fi.2.2.1.symm
            refine x146 (by omega) (by omega) (by rw [m2, m3]; exact sp.1) (by rw [m2]; exact hit.2.2.1) (by omega) (by rw [m4]; exact ⟨sp.2.1.1, by omega⟩) ?_
            rw [m2, m3, m4, g147_53]
            have er : avg (μ0 (74 + 11 * p + 7) (FoC μ0 p day f)) (μ0 (74 + 11 * p + 5) (FoC μ0 p day f)) (μ0 (74 + 11 * p + 6) (FoC μ0 p day f)) f = r f := by
              rw [z]
              rfl
            rw [er]
            refine x131m hm (okR_of hU) t3.1 (by omega) ?_
            rw [duM_C hS hU]
            exact nx
          · exact absurd z qb
  have rav : ∀ f, 0 ≤ f → f ≤ 9 → 0 ≤ FoC μ0 p day f → 0 ≤ avC μ0 (74 + 11 * p) day f ∧ avC μ0 (74 + 11 * p) day f ≤ 20 := fun f q1 q2 q3 => by
    have hit := fo_hit hS h0 h1 q3
    have sp := (hR p h0 h1).1 _ q3 hit.1
    exact avg_r sp.1.1 hit.2.2.1 hit.2.2.2 sp.1.2.2 sp.2.1.1 sp.2.1.2
  have rtr : ∀ f, 0 ≤ f → f ≤ 9 → 0 ≤ FoC μ0 p day f → 0 ≤ μ0 (74 + 11 * p + 2) f ∧ μ0 (74 + 11 * p + 2) f ≤ 20 := fun f q1 q2 _ => by
    have z := hP p f 1 h0 h1 q1 q2 (by decide) (by decide)
    have z1 : μ0 (74 + 11 * p + 2) f = μ0 178 (10 * p + f) := z.1
    have z2 : 0 ≤ μ0 178 (10 * p + f) ∧ μ0 178 (10 * p + f) ≤ 20 := z.2
    omega
  rw [e148, g148_0]
  refine ⟨fun q => ⟨fun q2 => absurd q q2, fun _ => ?_⟩, fun q => ⟨fun q2 => y144 hm h h0 h1 hday (fun μ' s1 s2 => ?_), fun q2 => ⟨fun _ => ?_, fun q3 => absurd q3 q⟩⟩⟩
  · have Y := hQ μ hm
    rw [if_neg (by omega), if_neg (by omega), if_pos q] at Y
    exact row 1 _ (Or.inl ⟨by decide, rfl⟩) rav Y
  · have g := GT_1 s2
    have Y := hQ μ' s1
    rw [g148_31]
    simp only [E142, g148_50, over_q]
    refine ⟨fun q3 => ?_, fun q3 => ?_⟩
    · rw [if_neg q3, if_pos (by omega)] at Y
      rw [g.2.2.2]
      exact Y
    · rw [if_pos q3] at Y
      rw [g.2.2.1]
      exact Y
  · have Y := hQ μ hm
    rw [if_neg (by omega), if_neg (by omega), if_neg q] at Y
    exact row 0 _ (Or.inr ⟨rfl, rfl⟩) rtr Y
end OWD
