/-! SETTLES: both sides -/
/-- with the set b shown, least and most are the same -/
def Pb (fo Sx du told hb tr : Int → Int) (b : Int) : Prop := MO fo Sx du told (hs hb tr b 10) = LE fo Sx du told (hs hb tr b 10)
section SE
variable {μb μ : qM} {fo Sx N du told hb tr : Int → Int} {d : Nat} {Q : qV → qM → Prop} {c2 : Int}
/-- looseSum -/
theorem z15 {i : Int} (b : BS μb fo Sx N du told hb) (h0 : 0 ≤ i) (hc : qty c2 = 100 ∧ qal c2 = 10) (ht : ∀ f, 0 ≤ f → f ≤ 9 → μb c2 f = tr f ∧ 0 ≤ tr f ∧ tr f ≤ 20) (hQ : Q (.inl (Lx fo hb tr i)) μb) : qmw (d + 2) 15 [(.inr (.inr (.inl (15)))), (.inl (i)), (.inr (.inr (.inl (c2))))] μb Q := by
  rw [e15, g15_0]
  refine qup 10 (P := fun f => ∀ a3 : Int, 0 ≤ f → a3 = smF (fun f => if fo f = i ∧ hb f = -9 then tr f else 0) 0 f.toNat → qW (d + 1) 15 Q 5 [some (.inr (.inr (.inl (15)))), some (.inl (i)), some (.inr (.inr (.inl (c2)))), some (.inl (a3)), some (.inl (f))] [] μb) (fun f ih hB a3 hf e => ?_) 0 (by omega) _ (by omega) rfl
  rw [g15_5]
  refine ⟨fun q => ?_, fun q => ⟨by omega, ?_⟩⟩
  · have ef : f = 10 := by omega
    rw [e, ef]
    exact hQ
  · have r := smF_r (g := fun f => if fo f = i ∧ hb f = -9 then tr f else 0) (lo := 0) (B := 20) f.toNat (fun g q1 q2 => by
      have := ht g q1 (by omega)
      split
      · exact this.2
      · omega)
    have nx := fun (a3' : Int) (e' : a3' = smF (fun f => if fo f = i ∧ hb f = -9 then tr f else 0) 0 f.toNat + (if fo f = i ∧ hb f = -9 then tr f else 0)) => ih (f + 1) (by omega) (by omega) a3' (by omega) (by rw [show (f + 1).toNat = f.toNat + 1 by omega, smF, show (0 : Int) + ((f.toNat : Nat) : Int) = f by omega]; exact e')
    clear ih
    have t := ht f hf (by omega)
    rw [(b.2.2.2.1 f hf (by omega)).1, q32_id (z := f + 1) (by omega) (by omega)]
    have v4 := b.2.1.1.2.2.2 f hf (by omega)
    refine ⟨fun q2 => nx _ ?_, fun q2 => ?_⟩
    · rw [if_neg (fun z => q2 z.1), Int.add_zero]
      exact e
    · rw [e3, g3_0]
      refine ⟨fun q3 => ⟨by decide, ?_⟩, fun q3 => ⟨by decide, ?_⟩⟩
      · rw [g15_29, q32_id (z := f + 1) (by omega) (by omega)]
        refine ⟨fun _ => nx _ ?_, fun z => absurd rfl z⟩
        rw [if_neg (fun z => q3 (v4.mpr ⟨by omega, z.2⟩)), Int.add_zero]
        exact e
      · rw [g15_29, q32_id (z := f + 1) (by omega) (by omega)]
        refine ⟨fun z => absurd z (by decide), fun _ => ?_⟩
        simp only [hc, qif_r]
        refine ⟨by omega, ?_⟩
        rw [t.1, q32_id (z := a3 + tr f) (by omega) (by omega)]
        refine nx _ ?_
        rw [if_pos ⟨q2, (v4.mp q3).2⟩, e]
/-- couldBe -/
theorem z14 {c1 : Int} (b : BS μb fo Sx N du told hb) (hp : isP c1) (h9 : ∀ f, 0 ≤ f → f ≤ 9 → ¬ hb f = -9 → hb f = μb (c1 + 3) f) (hc : qty c2 = 100 ∧ qal c2 = 10) (ht : ∀ f, 0 ≤ f → f ≤ 9 → μb c2 f = tr f ∧ 0 ≤ tr f ∧ tr f ≤ 20) (hQ : ∀ a, ((CB fo Sx hb tr ∧ a = 1) ∨ (¬ CB fo Sx hb tr ∧ a = 0)) → Q (.inl a) μb) : qmw (d + 3) 14 [(.inr (.inr (.inl (15)))), (.inr (.inr (.inl (c1)))), (.inr (.inr (.inl (c2))))] μb Q := by
  have hpf := pf hp
  have yes := hQ 1
  have no := fun (q : ¬ CB fo Sx hb tr) => hQ 0 (Or.inr ⟨q, rfl⟩)
  clear hQ
  have two : (∀ f, 0 ≤ f → f ≤ 9 → 0 ≤ fo f → ¬ hb f = -9 → tr f = hb f) → qW (d + 2) 14 Q 46 [some (.inr (.inr (.inl (15)))), some (.inr (.inr (.inl (c1)))), some (.inr (.inr (.inl (c2)))), some (.inl (0))] [] μb := fun c1' => by
    refine qup 3 (P := fun i => 0 ≤ i → (∀ j, 0 ≤ j → j < i → Lx fo hb tr j = Sx j - sh fo hb j) → qW (d + 2) 14 Q 46 [some (.inr (.inr (.inl (15)))), some (.inr (.inr (.inl (c1)))), some (.inr (.inr (.inl (c2)))), some (.inl (i))] [] μb) (fun i ih hB hi st => ?_) 0 (by omega) (by omega) (fun j q1 q2 => by omega)
    rw [g14_46]
    refine ⟨fun q => ⟨by decide, yes (Or.inl ⟨⟨c1', fun j q1 q2 => st j q1 (by omega)⟩, rfl⟩)⟩, fun q => z15 b hi hc ht ?_⟩
    have w := (b.2.1.1.1 i hi (by omega)).1
    rw [g14_57, w]
    refine ⟨by omega, fun q2 => ?_, fun q2 => ⟨by decide, no (fun z => q2 (z.2 i hi (by omega)))⟩⟩
    rw [q32_id (by omega) (by omega)]
    refine ih _ (by omega) (by omega) (by omega) (fun j q3 q4 => ?_)
    by_cases e : j = i
    · rw [e]
      exact q2
    · exact st j q3 (by omega)
  rw [e14, g14_0]
  refine qup 10 (P := fun f => 0 ≤ f → (∀ g, 0 ≤ g → g < f → 0 ≤ fo g → ¬ hb g = -9 → tr g = hb g) → qW (d + 2) 14 Q 2 [some (.inr (.inr (.inl (15)))), some (.inr (.inr (.inl (c1)))), some (.inr (.inr (.inl (c2)))), some (.inl (f))] [] μb) (fun f ih hB hf st => ?_) 0 (by omega) (by omega) (fun j q1 q2 => by omega)
  rw [g14_2]
  refine ⟨fun q => two (fun g q1 q2 => st g q1 (by omega)), fun q => ?_⟩
  clear two yes
  have nx := fun (st' : 0 ≤ fo f → ¬ hb f = -9 → tr f = hb f) => ih (f + 1) (by omega) (by omega) (by omega) (fun g q3 q4 => by
    by_cases e : g = f
    · rw [e]
      exact st'
    · exact st g q3 (by omega))
  clear ih
  have b4 := b.2.2.2.1 f hf (by omega)
  have v4 := b.2.1.1.2.2.2 f hf (by omega)
  have t := ht f hf (by omega)
  rw [E2 hf (by omega), b4.1, g14_13, qbr2]
  refine ⟨fun q2 => ?_, fun q2 => ?_⟩
  · rw [q32_id (by omega) (by omega)]
    exact nx (fun z => absurd z q2)
  · rw [E3, g14_21, qbr]
    refine ⟨fun q3 => ?_, fun q3 => ?_⟩
    · rw [q32_id (by omega) (by omega)]
      exact nx (fun _ z => absurd (v4.mp q3).2 z)
    · have n9 : ¬ hb f = -9 := fun z => q3 (v4.mpr ⟨q2, z⟩)
      simp only [hc, hpf, qif_r]
      refine ⟨by omega, by omega, ?_⟩
      rw [t.1, ← h9 f hf (by omega) n9, q32_id (by omega) (by omega)]
      exact ⟨fun q4 => nx (fun _ _ => q4), fun q4 => ⟨by decide, no (fun z => q4 (z.1 f hf (by omega) q2 n9))⟩⟩
/-- settlesBy -/
theorem z17 {s : Int} (b : BS μb fo Sx N du told hb) (w : SW μb μ fo Sx N du told hb) (cb : CB fo Sx hb tr) (sl : ∀ f, 0 ≤ f → f ≤ 9 → bit s f → 0 ≤ fo f ∧ hb f = -9) (hc : qty c2 = 100 ∧ qal c2 = 10) (hc3 : ¬ c2 = 15 ∧ ¬ c2 = 55 ∧ ¬ c2 = 56) (ht : ∀ f, 0 ≤ f → f ≤ 9 → μb c2 f = tr f ∧ 0 ≤ tr f ∧ tr f ≤ 20) (hQ : ∀ a μ', SW μb μ' fo Sx N du told hb → ((Pb fo Sx du told hb tr s ∧ a = 1) ∨ (¬ Pb fo Sx du told hb tr s ∧ a = 0)) → Q (.inl a) μ') : qmw (d + 5) 17 [(.inr (.inr (.inl (15)))), (.inl (s)), (.inr (.inr (.inl (c2))))] μ Q := by
  have ht' : ∀ f, 0 ≤ f → f ≤ 9 → 0 ≤ tr f ∧ tr f ≤ 20 := fun f q1 q2 => (ht f q1 q2).2
  have sb : ∀ f, 0 ≤ f → f ≤ 9 → bit s f → 0 ≤ fo f := fun f q1 q2 q3 => (sl f q1 q2 q3).1
  have ads : ∀ k, AD hb tr (hs hb tr s k) := fun k => ad_hs cb sb
  have adu : ∀ k, AD hb tr (hu hb tr s k) := fun k => ad_hu cb sb
  have rt : ∀ {ν : qM} {h : Int → Int} {f : Int}, SW μb ν fo Sx N du told h → 0 ≤ f → f ≤ 9 → ν c2 f = tr f := fun t q1 q2 => by
    rw [t.2.1 c2 _ hc3.1 hc3.2.1 hc3.2.2]
    exact (ht _ q1 q2).1
  -- the second walk
  have two : ∀ (a3 : Int) (ν : qM), (0 ≤ a3 ∧ a3 ≤ 1) → ((Pb fo Sx du told hb tr s ∧ a3 = 1) ∨ (¬ Pb fo Sx du told hb tr s ∧ a3 = 0)) → SW μb ν fo Sx N du told (hu hb tr s 0) → qW (d + 4) 17 Q 47 [some (.inr (.inr (.inl (15)))), some (.inl (s)), some (.inr (.inr (.inl (c2)))), some (.inl (a3)), some (.inl (0))] [] ν := fun a3 ν r3 p3 t => by
    refine qup 10 (P := fun f => ∀ (ν : qM), 0 ≤ f → SW μb ν fo Sx N du told (hu hb tr s f) → qW (d + 4) 17 Q 47 [some (.inr (.inr (.inl (15)))), some (.inl (s)), some (.inr (.inr (.inl (c2)))), some (.inl (a3)), some (.inl (f))] [] ν) (fun f ih hB ν hf t => ?_) 0 (by omega) _ (by omega) t
    rw [g17_47]
    refine ⟨fun q => ⟨r3, ?_⟩, fun q => ?_⟩
    · have ef : f = 10 := by omega
      rw [ef, hu_10] at t
      exact hQ _ _ t p3
    · refine ⟨fun q2 => ?_, fun q2 => ?_⟩
      · rw [g17_74, q32_id (by omega) (by omega)]
        rw [hu_n q2] at t
        exact ih _ (by omega) (by omega) _ (by omega) t
      · simp only [hc, qif_r]
        refine ⟨by omega, ?_⟩
        have sf' := sl f hf (by omega) q2
        have tt := ht' f hf (by omega)
        rw [rt t hf (by omega)]
        rw [hu_s q q2] at t
        refine z5 b t (okH_ad b.2.2.1 ht' (adu (f + 1))) hf (by omega) tt.1 tt.2 sf'.1 ?_ (fun ν2 t2 => ?_)
        · unfold hu
          rw [if_neg (fun y => by omega)]
          exact sf'.2
        · rw [g17_74, q32_id (by omega) (by omega)]
          exact ih _ (by omega) (by omega) _ (by omega) t2
  clear hQ
  rw [e17, g17_0]
  rw [← hs_0 (hb := hb) (tr := tr) (b := s)] at w
  refine qup 10 (P := fun f => ∀ (ν : qM), 0 ≤ f → SW μb ν fo Sx N du told (hs hb tr s f) → qW (d + 4) 17 Q 2 [some (.inr (.inr (.inl (15)))), some (.inl (s)), some (.inr (.inr (.inl (c2)))), some (.inl (f)), none] [] ν) (fun f ih hB ν hf t => ?_) 0 (by omega) _ (by omega) w
  rw [g17_2]
  refine ⟨fun q => ?_, fun q => ?_⟩
  · have ef : f = 10 := by omega
    rw [ef] at t
    refine z12 b t (fun i _ _ => nl_ad ht' (ads 10) i) (okH_ad b.2.2.1 ht' (ads 10)) (FE_ad ht' cb (ads 10)) ?_
    rw [g17_35]
    rw [hs_hu] at t
    refine ⟨fun q2 => two 0 ν (by decide) (Or.inr ⟨fun z => ?_, rfl⟩) t, fun q2 => two 1 ν (by decide) (Or.inl ⟨?_, rfl⟩) t⟩
    · unfold Pb at z
      omega
    · unfold Pb
      omega
  · clear two
    refine ⟨fun q2 => ?_, fun q2 => ?_⟩
    · rw [g17_25, q32_id (by omega) (by omega)]
      rw [hs_n q2] at t
      exact ih _ (by omega) (by omega) _ (by omega) t
    · simp only [hc, qif_r]
      refine ⟨by omega, ?_⟩
      have sf' := sl f hf (by omega) q2
      have tt := ht' f hf (by omega)
      rw [rt t hf (by omega)]
      refine z4 b t (okH_ad b.2.2.1 ht' (ads f)) hf (by omega) tt.1 tt.2 sf'.1 ?_ (fun ν2 t2 => ?_)
      · unfold hs
        rw [if_neg (fun y => by omega)]
        exact sf'.2
      · rw [g17_25, q32_id (by omega) (by omega)]
        rw [hs_s hf q2] at t2
        exact ih _ (by omega) (by omega) _ (by omega) t2
def CR (P : Int → Prop) (ls r : Int) : Prop := (sub r ls ∧ 0 ≤ r ∧ r ≤ 1023 ∧ P r ∧ ∀ b, 0 ≤ b → b ≤ 1023 → sub b ls → P b → cnt r < cnt b ∨ (cnt r = cnt b ∧ r ≤ b)) ∨ (r = ls ∧ ∀ b, 0 ≤ b → b ≤ 1023 → sub b ls → P b → 10 ≤ cnt b)
/-- settlingSet -/
theorem z16 (b : BS μb fo Sx N du told hb) (cb : CB fo Sx hb tr) (hc : qty c2 = 100 ∧ qal c2 = 10) (hc3 : ¬ c2 = 15 ∧ ¬ c2 = 55 ∧ ¬ c2 = 56) (ht : ∀ f, 0 ≤ f → f ≤ 9 → μb c2 f = tr f ∧ 0 ≤ tr f ∧ tr f ≤ 20) (hQ : ∀ a μ', SW μb μ' fo Sx N du told hb → CR (Pb fo Sx du told hb tr) (μb 15 4) a → Q (.inl a) μ') : qmw (d + 6) 16 [(.inr (.inr (.inl (15)))), (.inr (.inr (.inl (c2))))] μb Q := by
  have hl := sa_ls b.1
  have v4 := b.2.1.1.2.2.2
  generalize hP : Pb fo Sx du told hb tr = P at *
  rw [e16, g16_0]
  generalize μb 15 4 = ls at *
  refine qup 10 (P := fun n => ∀ (o4 : Option qV) (ν : qM), 0 ≤ n → SW μb ν fo Sx N du told hb → (∀ s, 0 ≤ s → s ≤ 1023 → sub s ls → P s → n ≤ cnt s) → qW (d + 5) 16 Q 7 [some (.inr (.inr (.inl (15)))), some (.inr (.inr (.inl (c2)))), some (.inl (ls)), some (.inl (n)), o4] [] ν) (fun n ih hB o4 ν hn t st => ?_) 0 (by omega) _ _ (by omega) (SW_b b) (fun s _ _ _ _ => (cnt_r s).1)
  rw [g16_7]
  refine ⟨fun q => hQ _ _ t (Or.inr ⟨rfl, fun s q1 q2 q3 q4 => ?_⟩), fun q => ?_⟩
  · have := st s q1 q2 q3 q4
    omega
  · refine qup 1024 (P := fun s => ∀ (ν : qM), 0 ≤ s → SW μb ν fo Sx N du told hb → (∀ s', 0 ≤ s' → s' < s → s' ≤ 1023 → sub s' ls → P s' → n < cnt s') → s ≤ ls + 1 → qW (d + 5) 16 Q 16 [some (.inr (.inr (.inl (15)))), some (.inr (.inr (.inl (c2)))), some (.inl (ls)), some (.inl (n)), some (.inl (s))] [] ν) (fun s ih2 hB2 ν hs0 t st2 hle => ?_) 0 (by omega) _ (by omega) t (fun s' q1 q2 => by omega) (by omega)
    rw [g16_16]
    refine ⟨fun q2 => ?_, fun q2 => ?_⟩
    · rw [q32_id (by omega) (by omega)]
      refine ih _ (by omega) (by omega) _ _ (by omega) t (fun s' q3 q4 q5 q6 => ?_)
      have l := sub_le hl.1 hl.2 q3 q4 q5
      have := st2 s' q3 (by omega) q4 q5 q6
      omega
    · clear ih
      have nx := fun (ν' : qM) (t' : SW μb ν' fo Sx N du told hb) (z : sub s ls → P s → n < cnt s) => ih2 (s + 1) (by omega) (by omega) ν' (by omega) t' (fun s' q3 q4 q5 q6 q7 => by
        by_cases e : s' = s
        · rw [e] at q6 q7 ⊢
          exact z q6 q7
        · exact st2 s' q3 (by omega) q5 q6 q7) (by omega)
      clear ih2
      refine ⟨fun q3 => ?_, fun q3 => ?_⟩
      · rw [q32_id (by omega) (by omega)]
        exact nx _ t (fun z => absurd ((sub_q hs0 (by omega)).mpr z) q3)
      · have sb := (sub_q hs0 (by omega)).mp q3
        rw [E182 hs0 (by omega), g16_36, q32_id (z := s + 1) (by omega) (by omega)]
        refine ⟨fun q4 => nx _ t (fun _ z => ?_), fun q4 => ?_⟩
        · have := st s hs0 (by omega) sb z
          omega
        · refine z17 b t cb (fun f q5 q6 q7 => (v4 f q5 q6).mp (sb f q5 q6 q7)) hc hc3 ht (fun a ν2 t2 z => ?_)
          rw [hP] at z
          rw [g16_47, q32_id (z := s + 1) (by omega) (by omega)]
          rcases z with ⟨z1, z2⟩ | ⟨z1, z2⟩
          · refine ⟨fun y => by omega, fun _ => hQ _ _ t2 (Or.inl ⟨sb, hs0, by omega, z1, fun s' q5 q6 q7 q8 => ?_⟩)⟩
            have y1 := st s' q5 q6 q7 q8
            by_cases e : s ≤ s'
            · omega
            · have y2 := st2 s' q5 (by omega) q6 q7 q8
              omega
          · exact ⟨fun _ => nx _ t2 (fun _ y => absurd y z1), fun y => absurd z2 y⟩
end SE
def MR (P : Int → Prop) (al r : Int) : Prop := (sub r al ∧ 0 ≤ r ∧ r ≤ 1023 ∧ P r ∧ ∀ b, 0 ≤ b → b ≤ 1023 → sub b al → P b → cnt r < cnt b ∨ (cnt r = cnt b ∧ r ≤ b)) ∨ (r = -9 ∧ ∀ b, 0 ≤ b → b ≤ 1023 → sub b al → ¬ P b)
/-- the two searches find the same set -/
theorem CR_MR {P : Int → Prop} {ls al r r' : Int} (l0 : 0 ≤ ls) (l1 : ls ≤ 1023) (sa : sub ls al) (pl : P ls) (pp : ∀ b, 0 ≤ b → b ≤ 1023 → sub b al → P b → P (qand b ls)) (c : CR P ls r) (m : MR P al r') : r = r' := by
  rcases m with ⟨m1, m2, m3, m4, m5⟩ | ⟨-, m⟩
  · have q := qand_le (b := ls) m2 (by omega)
    have sq : sub (qand r' ls) r' := fun f q1 q2 q3 => ((bit_and q1 q2).mp q3).1
    have sq2 : sub (qand r' ls) ls := fun f q1 q2 q3 => ((bit_and q1 q2).mp q3).2
    have sl : sub r' ls := fun f q1 q2 q3 => by
      by_cases z : bit ls f
      · exact z
      · have y := cnt_lt sq q1 q2 q3 (fun x => z ((bit_and q1 q2).mp x).2)
        have x := m5 (qand r' ls) q.1 (by omega) (fun g g1 g2 g3 => m1 g g1 g2 (sq g g1 g2 g3)) (pp r' m2 m3 m1 m4)
        omega
    rcases c with ⟨c1, c2, c3, c4, c5⟩ | ⟨c1, c2⟩
    · have x := m5 r c2 c3 (fun g g1 g2 g3 => sa g g1 g2 (c1 g g1 g2 g3)) c4
      have y := c5 r' m2 m3 sl m4
      omega
    · have y := c2 r' m2 m3 sl m4
      rw [c1]
      refine bit_ext l0 l1 m2 m3 (fun f q1 q2 => ⟨fun z => ?_, fun z => sl f q1 q2 z⟩)
      by_cases w : bit r' f
      · exact w
      · have u := cnt_lt sl q1 q2 z w
        have v := cnt_r ls
        omega
  · exact absurd pl (m ls l0 l1 sa)
section SM
variable {μ0 μ : qM} {d : Nat} {Q : qV → qM → Prop}
abbrev trC (μ : qM) (p : Int) : Int → Int := μ (74 + 11 * p + 2)
theorem tr_C (h : RPay μ) {p f : Int} (h0 : 0 ≤ p) (h1 : p ≤ 5) (h2 : 0 ≤ f) (h3 : f ≤ 9) : trC μ p f = μ 178 (10 * p + f) ∧ 0 ≤ trC μ p f ∧ trC μ p f ≤ 20 := by
  have z := h p f 1 h0 h1 h2 h3 (by decide) (by decide)
  have z1 : trC μ p f = μ 178 (10 * p + f) := z.1
  have z2 : 0 ≤ μ 178 (10 * p + f) ∧ μ 178 (10 * p + f) ≤ 20 := z.2
  rw [z1]
  exact ⟨rfl, z2⟩
/-- inSpans -/
theorem y154 {p day : Int} (hm : Sm μ0 μ) (hc : RC μ0) (h0 : 0 ≤ p) (h1 : p ≤ 5) (hQ : ∀ al, 0 ≤ al → al ≤ 1023 → (∀ f, 0 ≤ f → f ≤ 9 → (bit al f ↔ 0 ≤ FoC μ0 p day f)) → Q (.inl al) μ) : qmw (d + 3) 154 [(.inr (.inr (.inl (170)))), (.inl (p)), (.inl (day))] μ Q := by
  rw [e154, g154_0]
  refine qup 10 (P := fun f => ∀ a3 : Int, 0 ≤ f → (0 ≤ a3 ∧ a3 ≤ 1023) → (∀ g, 0 ≤ g → g ≤ 9 → (bit a3 g ↔ (g < f ∧ 0 ≤ FoC μ0 p day g))) → qW (d + 2) 154 Q 5 [some (.inr (.inr (.inl (170)))), some (.inl (p)), some (.inl (day)), some (.inl (a3)), some (.inl (f))] [] μ) (fun f ih hB a3 hf r st => ?_) 0 (by omega) _ (by omega) (by decide) (fun g q1 q2 => ⟨fun z => absurd z (bit_0 g q1 q2), fun z => by omega⟩)
  rw [g154_5]
  refine ⟨fun q => hQ _ r.1 r.2 (fun g q1 q2 => ⟨fun z => ((st g q1 q2).mp z).2, fun z => (st g q1 q2).mpr ⟨by omega, z⟩⟩), fun q => y136 hm hc h0 h1 (fun a ha => ?_)⟩
  rw [g154_21, q32_id (z := f + 1) (by omega) (by omega)]
  rcases ha with ⟨u1, u2⟩ | ⟨u1, u2⟩
  · refine ⟨fun z => absurd u2 z, fun _ => ?_⟩
    have e0 : ∀ n : Nat, n < 1024 → qior n 0 = n := by decide +kernel
    have e := e0 a3.toNat (by omega)
    rw [show ((a3.toNat : Nat) : Int) = a3 by omega] at e
    rw [e]
    refine ih _ (by omega) (by omega) _ (by omega) r (fun g q1 q2 => ?_)
    rw [st g q1 q2]
    refine ⟨fun z => ⟨by omega, z.2⟩, fun z => ⟨?_, z.2⟩⟩
    by_cases e : g = f
    · rw [e] at z
      omega
    · omega
  · have fr := Fo_r hc.1 (f := f) (day := day) h0 h1
    refine ⟨fun _ => ?_, fun z => by omega⟩
    refine ih _ (by omega) (by omega) _ (by omega) (qset1 r.1 r.2 hf (by omega)) (fun g q1 q2 => ?_)
    rw [bit_set hf (by omega) q1 q2, st g q1 q2]
    refine ⟨fun z => ?_, fun z => ?_⟩
    · rcases z with z | z
      · exact ⟨by omega, z.2⟩
      · rw [z]
        exact ⟨by omega, u1⟩
    · by_cases e : g = f
      · exact Or.inr e
      · exact Or.inl ⟨by omega, z.2⟩
def OKs (hb tr : Int → Int) (s : Int) : Prop := ∀ f, 0 ≤ f → f ≤ 9 → bit s f → hb f = -9 ∨ hb f = tr f
/-- showing -/
theorem y155 {p day s : Int} (hm : Sm μ0 μ) (hc : RC μ0) (h0 : 0 ≤ p) (h1 : p ≤ 5) (hQ : ∀ a μ', Sm μ0 μ' → ((¬ OKs (hC μ0 (74 + 11 * p) day) (trC μ0 p) s ∧ a = 0) ∨ (OKs (hC μ0 (74 + 11 * p) day) (trC μ0 p) s ∧ GT μ0 μ' p day (hs (hC μ0 (74 + 11 * p) day) (trC μ0 p) s 10) a)) → Q (.inl a) μ') : qmw (d + 5) 155 [(.inr (.inr (.inl (170)))), (.inl (p)), (.inl (day)), (.inl (s))] μ Q := by
  rw [e155, g155_0]
  refine y138 hm hc h0 h1 (fun μ1 s1 s2 s3 => ?_)
  rw [g155_6]
  refine qup 10 (P := fun f => ∀ (a4 : Int) (o6 : Option qV) (ν : qM), 0 ≤ f → Sm μ0 ν → (∀ g, 0 ≤ g → g ≤ 9 → ν 186 g = hs (hC μ0 (74 + 11 * p) day) (trC μ0 p) s f g) → ((a4 = 1 ∧ ∀ g, 0 ≤ g → g < f → bit s g → hC μ0 (74 + 11 * p) day g = -9 ∨ hC μ0 (74 + 11 * p) day g = trC μ0 p g) ∨ (a4 = 0 ∧ ¬ OKs (hC μ0 (74 + 11 * p) day) (trC μ0 p) s)) → qW (d + 4) 155 Q 12 [some (.inr (.inr (.inl (170)))), some (.inl (p)), some (.inl (day)), some (.inl (s)), some (.inl (a4)), some (.inl (f)), o6] [] ν) (fun f ih hB a4 o6 ν hf t e6 st => ?_) 0 (by omega) _ _ _ (by omega) s1 (fun g q1 q2 => by rw [hs_0]; exact s3 g q1 q2) (Or.inl ⟨rfl, fun g q1 q2 => by omega⟩)
  rw [g155_12, q32_id (z := 10 * p) (by omega) (by omega)]
  refine ⟨fun q => ?_, fun q => ?_⟩
  · have ef : f = 10 := by omega
    rw [ef] at e6 st
    rcases st with ⟨st1, st2⟩ | ⟨st1, st2⟩
    · have ok : OKs (hC μ0 (74 + 11 * p) day) (trC μ0 p) s := fun g q1 q2 q3 => st2 g q1 (by omega) q3
      refine ⟨fun z => by omega, fun _ => y141 t hc h0 h1 e6 (fun a ν2 t2 _ gt => ?_)⟩
      rw [g155_105]
      have ga : a = 0 ∨ a = 1 := by
        rcases gt with gt | gt
        · exact Or.inr gt.2.1
        · exact Or.inl gt.2
      refine ⟨fun z => ⟨by decide, hQ _ _ t2 (Or.inr ⟨ok, by rw [z] at gt; exact gt⟩)⟩, fun z => ⟨by decide, hQ _ _ t2 (Or.inr ⟨ok, ?_⟩)⟩⟩
      have e1 : a = 1 := by omega
      rw [e1] at gt
      exact gt
    · exact ⟨fun _ => ⟨by decide, hQ _ _ t (Or.inl ⟨st2, rfl⟩)⟩, fun z => absurd st1 z⟩
  · rw [q32_id (z := 10 * p + f) (by omega) (by omega), q32_id (z := f + 1) (by omega) (by omega), e6 f hf (by omega)]
    have hx : 0 ≤ f ∧ f < 10 := by omega
    have tc := tr_C hc.2.1 h0 h1 hf (f := f) (by omega)
    have e178 : ν 178 (10 * p + f) = trC μ0 p f := by
      rw [t.2 178 _ (by omega)]
      exact tc.1.symm
    have ev : hs (hC μ0 (74 + 11 * p) day) (trC μ0 p) s f f = hC μ0 (74 + 11 * p) day f := if_neg (fun y => by omega)
    rw [e178, ev]
    refine ⟨by omega, fun q2 => ?_, fun q2 => ?_⟩
    · refine ih _ (by omega) (by omega) _ _ _ (by omega) t (fun g q3 q4 => by rw [← hs_n q2]; exact e6 g q3 q4) ?_
      rcases st with ⟨st1, st2⟩ | st
      · refine Or.inl ⟨st1, fun g q3 q4 q5 => ?_⟩
        by_cases e : g = f
        · rw [e] at q5
          exact absurd q5 q2
        · exact st2 g q3 (by omega) q5
      · exact Or.inr st
    · have nx := fun (a4' : Int) (o6' : Option qV) (z : (a4' = 1 ∧ ∀ g, 0 ≤ g → g < f + 1 → bit s g → hC μ0 (74 + 11 * p) day g = -9 ∨ hC μ0 (74 + 11 * p) day g = trC μ0 p g) ∨ (a4' = 0 ∧ ¬ OKs (hC μ0 (74 + 11 * p) day) (trC μ0 p) s)) => ih (f + 1) (by omega) (by omega) a4' o6' (qu ν 186 f (trC μ0 p f)) (by omega) (Sm_u t (by omega) (fun _ => Or.inr tc.2)) (fun g q3 q4 => by
        rw [← hs_s hf q2]
        by_cases e : g = f
        · rw [e, qu_same, hup_s]
        · rw [qu_ne (by omega), hup_n e]
          exact e6 g q3 q4) z
      clear ih
      have ok1 : ∀ {P : Prop}, (hC μ0 (74 + 11 * p) day f = -9 ∨ hC μ0 (74 + 11 * p) day f = trC μ0 p f) → (∀ g, 0 ≤ g → g < f → bit s g → hC μ0 (74 + 11 * p) day g = -9 ∨ hC μ0 (74 + 11 * p) day g = trC μ0 p g) → ∀ g, 0 ≤ g → g < f + 1 → bit s g → hC μ0 (74 + 11 * p) day g = -9 ∨ hC μ0 (74 + 11 * p) day g = trC μ0 p g := fun {_} y1 y2 g q3 q4 q5 => by
        by_cases e : g = f
        · rw [e]
          exact y1
        · exact y2 g q3 (by omega) q5
      rcases st with ⟨st1, st2⟩ | ⟨st1, st2⟩
      · refine ⟨fun z => by omega, fun _ => ⟨hx, fun q3 => ⟨hx, nx _ _ (Or.inl ⟨rfl, ok1 (P := True) (Or.inl q3) st2⟩)⟩, fun q3 => ⟨hx, fun q4 => ⟨hx, nx _ _ (Or.inr ⟨rfl, fun y => ?_⟩)⟩, fun q4 => ⟨hx, nx _ _ (Or.inl ⟨rfl, ok1 (P := True) (Or.inr q4) st2⟩)⟩⟩⟩⟩
        rcases y f hf (by omega) q2 with y | y
        · exact q3 y
        · exact q4 y
      · exact ⟨fun _ => ⟨hx, nx _ _ (Or.inr ⟨rfl, st2⟩)⟩, fun z => absurd st1 z⟩
abbrev Pc (μ : qM) (p day : Int) : Int → Prop := Pb (FoC μ p day) (SxC μ (74 + 11 * p) day) (duC μ day) (μ (74 + 11 * p + 1)) (hC μ (74 + 11 * p) day) (trC μ p)
abbrev CBc (μ : qM) (p day : Int) : Prop := CB (FoC μ p day) (SxC μ (74 + 11 * p) day) (hC μ (74 + 11 * p) day) (trC μ p)
/-- settling -/
theorem y156 {p day : Int} (hm : Sm μ0 μ) (hc : RC μ0) (h0 : 0 ≤ p) (h1 : p ≤ 5) (hd : day ≤ 200) (hQ : ∀ a μ', Sm μ0 μ' → ((¬ CBc μ0 p day ∧ a = -9) ∨ (CBc μ0 p day ∧ ∃ al, (∀ f, 0 ≤ f → f ≤ 9 → (bit al f ↔ 0 ≤ FoC μ0 p day f)) ∧ MR (Pc μ0 p day) al a)) → Q (.inl a) μ') : qmw (d + 6) 156 [(.inr (.inr (.inl (170)))), (.inl (p)), (.inl (day))] μ Q := by
  have ht : ∀ f, 0 ≤ f → f ≤ 9 → 0 ≤ trC μ0 p f ∧ trC μ0 p f ≤ 20 := fun f q1 q2 => (tr_C hc.2.1 h0 h1 q1 q2).2
  rw [e156, g156_0]
  refine y154 hm hc h0 h1 (fun al a0 a1 ab => ?_)
  rw [g156_6]
  refine y155 hm hc h0 h1 (fun a ν t z => ?_)
  have cbI : CBc μ0 p day ↔ ¬ a = 0 := by
    rcases z with ⟨z1, z2⟩ | ⟨z1, z2⟩
    · refine ⟨fun cb => absurd (fun f q1 q2 q3 => ?_) z1, fun y => absurd z2 y⟩
      by_cases y : hC μ0 (74 + 11 * p) day f = -9
      · exact Or.inl y
      · exact Or.inr (cb.1 f q1 q2 ((ab f q1 q2).mp q3) y).symm
    · have c1 : ∀ f, 0 ≤ f → f ≤ 9 → 0 ≤ FoC μ0 p day f → ¬ hC μ0 (74 + 11 * p) day f = -9 → trC μ0 p f = hC μ0 (74 + 11 * p) day f := fun f q1 q2 q3 q4 => by
        rcases z1 f q1 q2 ((ab f q1 q2).mpr q3) with y | y
        · exact absurd y q4
        · exact y.symm
      have ad : AD (hC μ0 (74 + 11 * p) day) (trC μ0 p) (hs (hC μ0 (74 + 11 * p) day) (trC μ0 p) al 10) := fun f q1 q2 => by
        unfold hs
        by_cases y : 0 ≤ f ∧ f < 10 ∧ bit al f
        · rw [if_pos y]
          rcases z1 f q1 q2 y.2.2 with x | x
          · exact Or.inr ⟨x, rfl⟩
          · exact Or.inl x.symm
        · rw [if_neg y]
          exact Or.inl rfl
      have zero : ∀ i, 0 ≤ i → nl (FoC μ0 p day) (hs (hC μ0 (74 + 11 * p) day) (trC μ0 p) al 10) i = 0 ∧ Lx (FoC μ0 p day) (hs (hC μ0 (74 + 11 * p) day) (trC μ0 p) al 10) (trC μ0 p) i = 0 := fun i qi => by
        have nn : ∀ f, 0 ≤ f → f < 0 + ((10 : Nat) : Int) → ¬ (FoC μ0 p day f = i ∧ hs (hC μ0 (74 + 11 * p) day) (trC μ0 p) al 10 f = -9) := fun f q1 q2 y => by
          have x := (ab f q1 (by omega)).mpr (by omega)
          have w := y.2
          unfold hs at w
          rw [if_pos ⟨q1, by omega, x⟩] at w
          have := ht f q1 (by omega)
          omega
        exact ⟨smF_0 _ (fun f q1 q2 => if_neg (nn f q1 q2)), smF_0 _ (fun f q1 q2 => if_neg (nn f q1 q2))⟩
      constructor
      · intro cb
        have fe := FE_ad ht cb ad
        rcases z2 with z2 | z2
        · rw [z2.2.1]
          decide
        · exact absurd fe z2.1
      · intro y
        rcases z2 with z2 | z2
        · refine ⟨c1, fun i q1 q2 => ?_⟩
          have fe := z2.1 i q1 q2
          have s := sh_L (fo := FoC μ0 p day) ht ad i
          have zr := zero i q1
          omega
        · exact absurd z2.2 y
  clear z
  rw [g156_14]
  refine ⟨fun q => ?_, fun q => hQ _ _ t (Or.inl ⟨fun y => (cbI.mp y) q, rfl⟩)⟩
  have cb := cbI.mpr q
  have fin := fun (a' : Int) (ν' : qM) (t' : Sm μ0 ν') (m : MR (Pc μ0 p day) al a') => hQ a' ν' t' (Or.inr ⟨cb, al, ab, m⟩)
  clear hQ cbI
  refine qup 11 (P := fun n => ∀ (o5 : Option qV) (ν : qM), 0 ≤ n → Sm μ0 ν → (∀ s, 0 ≤ s → s ≤ 1023 → sub s al → Pc μ0 p day s → n ≤ cnt s) → qW (d + 5) 156 Q 23 [some (.inr (.inr (.inl (170)))), some (.inl (p)), some (.inl (day)), some (.inl (al)), some (.inl (n)), o5] [] ν) (fun n ih hB o5 ν hn t st => ?_) 0 (by omega) _ _ (by omega) t (fun s _ _ _ _ => (cnt_r s).1)
  rw [g156_23]
  refine ⟨fun q2 => fin _ _ t (Or.inr ⟨rfl, fun s q3 q4 q5 q6 => ?_⟩), fun q2 => ?_⟩
  · have x := st s q3 q4 q5 q6
    have y := cnt_r s
    omega
  · refine qup 1024 (P := fun s => ∀ (ν : qM), 0 ≤ s → Sm μ0 ν → (∀ s', 0 ≤ s' → s' < s → sub s' al → Pc μ0 p day s' → n < cnt s') → qW (d + 5) 156 Q 33 [some (.inr (.inr (.inl (170)))), some (.inl (p)), some (.inl (day)), some (.inl (al)), some (.inl (n)), some (.inl (s))] [] ν) (fun s ih2 hB2 ν hs0 t st2 => ?_) 0 (by omega) _ (by omega) t (fun s' q1 q2 => by omega)
    rw [g156_33]
    refine ⟨fun q3 => ?_, fun q3 => ?_⟩
    · rw [q32_id (by omega) (by omega)]
      refine ih _ (by omega) (by omega) _ _ (by omega) t (fun s' q4 q5 q6 q7 => ?_)
      have := st2 s' q4 (by omega) q6 q7
      omega
    · clear ih
      have nx := fun (ν' : qM) (t' : Sm μ0 ν') (z : sub s al → Pc μ0 p day s → n < cnt s) => ih2 (s + 1) (by omega) (by omega) ν' (by omega) t' (fun s' q4 q5 q6 q7 => by
        by_cases e : s' = s
        · rw [e] at q6 q7 ⊢
          exact z q6 q7
        · exact st2 s' q4 (by omega) q6 q7)
      clear ih2
      rw [q32_id (z := s + 1) (by omega) (by omega)]
      refine ⟨fun q4 => nx _ t (fun z => absurd ((sub_q hs0 (by omega)).mpr z) q4), fun q4 => x153 hs0 (by omega) ?_⟩
      have sb := (sub_q hs0 (by omega)).mp q4
      rw [g156_55, q32_id (z := s + 1) (by omega) (by omega)]
      refine ⟨fun q5 => nx _ t (fun _ z => ?_), fun q5 => y155 t hc h0 h1 (fun a2 ν2 t2 z => ?_)⟩
      · have := st s hs0 (by omega) sb z
        omega
      · have sbo : ∀ f, 0 ≤ f → f ≤ 9 → bit s f → 0 ≤ FoC μ0 p day f := fun f q6 q7 q8 => (ab f q6 q7).mp (sb f q6 q7 q8)
        have gt : GT μ0 ν2 p day (hs (hC μ0 (74 + 11 * p) day) (trC μ0 p) s 10) 1 ∧ a2 = 1 := by
          rcases z with ⟨z, -⟩ | ⟨-, z⟩
          · refine absurd (fun f q6 q7 q8 => ?_) z
            by_cases y : hC μ0 (74 + 11 * p) day f = -9
            · exact Or.inl y
            · exact Or.inr (cb.1 f q6 q7 (sbo f q6 q7 q8) y).symm
          · have fe : FE (FoC μ0 p day) (SxC μ0 (74 + 11 * p) day) (hs (hC μ0 (74 + 11 * p) day) (trC μ0 p) s 10) := FE_ad ht cb (ad_hs cb sbo)
            rcases z with z | z
            · have e1 := z.2.1
              rw [e1] at z
              exact ⟨Or.inl z, e1⟩
            · exact absurd fe z.1
        have g1 := GT_1 gt.1
        rw [g156_68, gt.2]
        refine ⟨fun y => absurd y (by decide), fun _ => y150 (fun a3 h3 => ?_)⟩
        rw [g1.2.2.1, g1.2.2.2] at h3
        rw [g156_75, q32_id (z := s + 1) (by omega) (by omega)]
        rcases h3 with ⟨w1, w2⟩ | ⟨w1, w2⟩
        · refine ⟨fun y => by omega, fun _ => fin _ _ t2 (Or.inl ⟨sb, hs0, by omega, w1.symm, fun s' q6 q7 q8 q9 => ?_⟩)⟩
          have y1 := st s' q6 q7 q8 q9
          by_cases e : s ≤ s'
          · omega
          · have y2 := st2 s' q6 (by omega) q8 q9
            omega
        · exact ⟨fun _ => nx _ t2 (fun _ y => absurd y.symm w1), fun y => absurd w2 y⟩
end SM
section SQ
variable {μ : qM}
/-- all loose ones shown: nothing is left open -/
theorem Pb_all {fo Sx du told hb tr : Int → Int} {ls : Int} (ht : ∀ f, 0 ≤ f → f ≤ 9 → 0 ≤ tr f ∧ tr f ≤ 20) (hf : ∀ f, 0 ≤ f → f ≤ 9 → -1 ≤ fo f) (v4 : ∀ f, 0 ≤ f → f ≤ 9 → (bit ls f ↔ (0 ≤ fo f ∧ hb f = -9))) : Pb fo Sx du told hb tr ls := by
  have nz : ∀ i, 0 ≤ i → nl fo (hs hb tr ls 10) i = 0 := fun i qi => smF_0 _ (fun f q1 q2 => if_neg (fun y => by
    have w := y.2
    unfold hs at w
    by_cases x : 0 ≤ f ∧ f < 10 ∧ bit ls f
    · rw [if_pos x] at w
      have := ht f q1 (by omega)
      omega
    · rw [if_neg x] at w
      exact x ⟨q1, by omega, (v4 f q1 (by omega)).mpr ⟨by omega, w⟩⟩))
  have e : mxS fo Sx du (hs hb tr ls 10) = mnS fo Sx du (hs hb tr ls 10) := smF_cg _ (fun i q1 q2 => by
    rw [nz i q1]
    rfl)
  unfold Pb MO LE
  rw [e]
theorem Pb_and {fo Sx du told hb tr : Int → Int} {al ls b : Int} (cb : CB fo Sx hb tr) (ab : ∀ f, 0 ≤ f → f ≤ 9 → (bit al f ↔ 0 ≤ fo f)) (v4 : ∀ f, 0 ≤ f → f ≤ 9 → (bit ls f ↔ (0 ≤ fo f ∧ hb f = -9))) (s : sub b al) (h : Pb fo Sx du told hb tr b) : Pb fo Sx du told hb tr (qand b ls) := by
  have e : ∀ f, 0 ≤ f → f ≤ 9 → hs hb tr b 10 f = hs hb tr (qand b ls) 10 f := fun f q1 q2 => by
    unfold hs
    by_cases y : 0 ≤ f ∧ f < 10 ∧ bit b f
    · rw [if_pos y]
      by_cases x : bit ls f
      · rw [if_pos ⟨y.1, y.2.1, (bit_and q1 q2).mpr ⟨y.2.2, x⟩⟩]
      · rw [if_neg (fun z => x ((bit_and q1 q2).mp z.2.2).2)]
        have fo0 := (ab f q1 q2).mp (s f q1 q2 y.2.2)
        exact cb.1 f q1 q2 fo0 (fun z => x ((v4 f q1 q2).mpr ⟨fo0, z⟩))
    · rw [if_neg y, if_neg (fun z => y ⟨z.1, z.2.1, ((bit_and q1 q2).mp z.2.2).1⟩)]
  have z := LE_cg (fo := fo) (fo' := fo) (Sx := Sx) (Sx' := Sx) (du := du) (told := told) (told' := told) (fun _ _ _ => rfl) e (fun _ _ _ => rfl) (fun _ _ _ => rfl)
  unfold Pb at h ⊢
  rw [← z.1, ← z.2]
  exact h
theorem q87 {a1 a2 a3 : Int} (h : RC μ) : PE (Qr μ) 87 157 [(.inl (a1)), (.inl (a2)), (.inl (a3))] μ := by
  -- the reference, where the class has looked
  have hm0 : ∀ {μ1 : qM}, RC μ1 → qmw 20 157 [(.inr (.inr (.inl (170)))), (.inl (a1)), (.inl (a2)), (.inl (a3))] μ1 (fun w μ2 => ((0 ≤ a1 ∧ a1 ≤ 5 ∧ 0 ≤ a2 ∧ a2 ≤ 200 ∧ 0 ≤ a3 ∧ a3 ≤ 1) ∧ (∃ r, w = .inl r ∧ ((¬ CBc μ1 a1 a2 ∧ r = -9) ∨ (CBc μ1 a1 a2 ∧ ∃ al s, (∀ f, 0 ≤ f → f ≤ 9 → (bit al f ↔ 0 ≤ FoC μ1 a1 a2 f)) ∧ MR (Pc μ1 a1 a2) al s ∧ ((s = -9 ∧ r = -9) ∨ (a3 = 1 ∧ r = s) ∨ (a3 = 0 ∧ r = cnt s))))) ∧ Sm μ1 μ2) ∨ (¬ (0 ≤ a1 ∧ a1 ≤ 5 ∧ 0 ≤ a2 ∧ a2 ≤ 200 ∧ 0 ≤ a3 ∧ a3 ≤ 1) ∧ w = .inl (-1) ∧ μ2 = μ1)) := fun {μ1} hc => by
    rw [e157, g157_0, E133, g157_4, qbr2]
    simp only [E130, E117, g157_11, g157_20, qbr2, qbr]
    refine ⟨fun q => Or.inr ⟨by omega, by first | rfl | trivial, by first | rfl | trivial⟩, fun q => ⟨fun q2 => Or.inr ⟨by omega, by first | rfl | trivial, by first | rfl | trivial⟩, fun q2 => ⟨fun q3 => y156 (Sm_rf hc.1) hc q.1 q.2 q2.2 (fun a μ2 s1 z => ?_), fun q3 => Or.inr ⟨by omega, by first | rfl | trivial, by first | rfl | trivial⟩⟩⟩⟩
    have ok : 0 ≤ a1 ∧ a1 ≤ 5 ∧ 0 ≤ a2 ∧ a2 ≤ 200 ∧ 0 ≤ a3 ∧ a3 ≤ 1 := ⟨q.1, q.2, q2.1, q2.2, q3.1, q3.2⟩
    rw [g157_31, g157_55]
    rcases z with ⟨z1, z2⟩ | ⟨z1, al, z2, z3⟩
    · exact ⟨fun _ => Or.inl ⟨ok, ⟨_, rfl, Or.inl ⟨z1, z2⟩⟩, s1⟩, fun y => absurd z2 y⟩
    · refine ⟨fun y => Or.inl ⟨ok, ⟨_, rfl, Or.inr ⟨z1, al, a, z2, z3, Or.inl ⟨y, y⟩⟩⟩, s1⟩, fun y => ⟨fun y2 => ?_, fun y2 => Or.inl ⟨ok, ⟨_, rfl, Or.inr ⟨z1, al, a, z2, z3, Or.inr (Or.inl ⟨y2, rfl⟩)⟩⟩, s1⟩⟩⟩
      have ra : 0 ≤ a ∧ a ≤ 1023 := by
        rcases z3 with z3 | z3
        · exact ⟨z3.2.1, z3.2.2.1⟩
        · exact absurd z3.1 y
      refine x153 ra.1 ra.2 ?_
      rw [g157_55]
      exact Or.inl ⟨ok, ⟨_, rfl, Or.inr ⟨z1, al, a, z2, z3, Or.inr (Or.inr ⟨by omega, rfl⟩)⟩⟩, s1⟩
  have no : ¬ (0 ≤ a1 ∧ a1 ≤ 5 ∧ 0 ≤ a2 ∧ a2 ≤ 200 ∧ 0 ≤ a3 ∧ a3 ≤ 1) → ∃ a : Int, (.inl (-1) : qV) = .inl a ∧ qmw 20 157 [(.inr (.inr (.inl (170)))), (.inl (a1)), (.inl (a2)), (.inl (a3))] μ (fun w μ2 => w = .inl a ∧ Qr μ μ2) := fun q => ⟨_, rfl, qmw_cm 20 _ _ _ _ _ (fun w μ2 z => by
    rcases z with ⟨z, -⟩ | ⟨-, z2, z3⟩
    · exact absurd z q
    · rw [z3]
      exact ⟨z2, Qr_rf h⟩) (hm0 h)⟩
  unfold PE
  rw [e87, g87_0, E105, g87_4, qbr]
  simp only [E104, g87_15, g87_24, qbr2, qbr]
  refine ⟨fun q => no (by omega), fun q => ⟨fun q2 => no (by omega), fun q2 => ⟨fun q3 => y109 h (by omega) (by omega) (fun μ1 lb ht => ?_), fun q3 => no (by omega)⟩⟩⟩
  clear no
  have h0 : 0 ≤ a1 := by omega
  have h1 : a1 ≤ 5 := by omega
  have hcp : isP (74 + 11 * a1) := ⟨a1, h0, by omega, rfl⟩
  have hp := pf hcp
  have b := BS_of h h0 h1 (by omega) lb
  have hr := rD_r h.1 a2
  have tr0 : ∀ f, 0 ≤ f → f ≤ 9 → μ1 (74 + 11 * a1 + 2) f = trC μ a1 f ∧ 0 ≤ trC μ a1 f ∧ trC μ a1 f ≤ 20 := fun f q5 q6 => ⟨lb.1.2 _ _ (by omega), (tr_C h.2.1 h0 h1 q5 q6).2⟩
  have h9 : ∀ f, 0 ≤ f → f ≤ 9 → ¬ hC μ (74 + 11 * a1) a2 f = -9 → hC μ (74 + 11 * a1) a2 f = μ1 (74 + 11 * a1 + 3) f := fun f q5 q6 z => by
    rw [lb.1.2 (74 + 11 * a1 + 3) f (by omega)]
    unfold hC at z ⊢
    by_cases y : 0 ≤ foC μ (74 + 11 * a1) a2 f ∧ 0 ≤ μ (74 + 11 * a1 + 3) f ∧ μ (74 + 11 * a1 + 4) f ≤ a2
    · rw [if_pos y]
    · rw [if_neg y] at z
      exact absurd rfl z
  have hc2 : qty (74 + 11 * a1 + 2) = 100 ∧ qal (74 + 11 * a1 + 2) = 10 := ⟨hp.2.2.1.2.1, hp.2.2.2.2.1⟩
  have v4 := b.2.1.1.2.2.2
  -- what the reference answers, behind the class
  have fin : ∀ (a : Int) (μ' : qM), SW μ1 μ' (FoC μ a1 a2) (SxC μ (74 + 11 * a1) a2) (NC μ (74 + 11 * a1) a2) (duC μ a2) (μ (74 + 11 * a1 + 1)) (hC μ (74 + 11 * a1) a2) → (∀ r, ((¬ CBc μ a1 a2 ∧ r = -9) ∨ (CBc μ a1 a2 ∧ ∃ al s, (∀ f, 0 ≤ f → f ≤ 9 → (bit al f ↔ 0 ≤ FoC μ a1 a2 f)) ∧ MR (Pc μ a1 a2) al s ∧ ((s = -9 ∧ r = -9) ∨ (a3 = 1 ∧ r = s) ∨ (a3 = 0 ∧ r = cnt s)))) → r = a) → ∃ b : Int, (.inl a : qV) = .inl b ∧ qmw 20 157 [(.inr (.inr (.inl (170)))), (.inl (a1)), (.inl (a2)), (.inl (a3))] μ' (fun w μ2 => w = .inl b ∧ Qr μ μ2) := fun a μ' s ua => by
    have sv := SW_sv lb.1 lb.2.1 s
    have ht2 : RTab μ' := TU_tab sv.2 hr.1 (by rw [sv.1.2 9 5 (by omega)]; exact hr.2)
    refine ⟨_, rfl, qmw_cm 20 _ _ _ _ _ (fun w μ2 z => ?_) (hm0 (RC_sv h sv.1 ht2))⟩
    have cf := CF sv.1 (p := a1) (day := a2) h0 h1
    have e1 : FoC μ' a1 a2 = FoC μ a1 a2 := cf.1
    have e2 : trC μ' a1 = trC μ a1 := by
      funext f
      exact sv.1.2 _ _ (by omega)
    rcases z with ⟨-, ⟨r, z1, z2⟩, z3⟩ | ⟨z, -⟩
    · unfold CBc Pc at z2
      rw [e1, e2, cf.2.1, cf.2.2.1, cf.2.2.2.1, cf.2.2.2.2] at z2
      rw [z1, ua r z2]
      exact ⟨rfl, Qr_of sv.1 ht2 z3⟩
    · omega
  clear hm0
  rw [g87_35, qra57 h0 (by omega)]
  simp only [hp, qif_r]
  refine ⟨by omega, z14 b hcp h9 hc2 tr0 (fun a ha => ?_)⟩
  rw [g87_57]
  rcases ha with ⟨cb, ea⟩ | ⟨ncb, ea⟩
  · refine ⟨fun _ => ?_, fun z => by omega⟩
    simp only [hp, qif_r]
    refine z16 b cb hc2 ⟨by omega, by omega, by omega⟩ tr0 (fun s μ' w cr => ?_)
    have ht' : ∀ f, 0 ≤ f → f ≤ 9 → 0 ≤ trC μ a1 f ∧ trC μ a1 f ≤ 20 := fun f q5 q6 => (tr0 f q5 q6).2
    have hl := sa_ls b.1
    have uni : ∀ al s', (∀ f, 0 ≤ f → f ≤ 9 → (bit al f ↔ 0 ≤ FoC μ a1 a2 f)) → MR (Pc μ a1 a2) al s' → s = s' := fun al s' ab m => CR_MR hl.1 hl.2 (fun f q5 q6 q7 => (ab f q5 q6).mpr ((v4 f q5 q6).mp q7).1) (Pb_all ht' (fun f q5 q6 => (b.2.2.2.1 f q5 q6).2.1) v4) (fun b' q5 q6 q7 q8 => Pb_and cb ab v4 q7 q8) cr m
    have rs : 0 ≤ s ∧ s ≤ 1023 := by
      rcases cr with cr | cr
      · exact ⟨cr.2.1, cr.2.2.1⟩
      · rw [cr.1]
        exact hl
    rw [g87_75]
    refine ⟨fun q5 => fin s μ' w (fun r z => ?_), fun q5 => ?_⟩
    · rcases z with ⟨z, -⟩ | ⟨-, al, s', z1, z2, z3⟩
      · exact absurd cb z
      · have u := uni al s' z1 z2
        omega
    · rw [E182 rs.1 rs.2, g87_86]
      refine fin _ μ' w (fun r z => ?_)
      rcases z with ⟨z, -⟩ | ⟨-, al, s', z1, z2, z3⟩
      · exact absurd cb z
      · have u := uni al s' z1 z2
        rcases z3 with z3 | z3 | z3
        · omega
        · omega
        · rw [z3.2, u]
  · refine ⟨fun z => absurd ea z, fun _ => fin _ μ1 (SW_b b) (fun r z => ?_)⟩
    rcases z with ⟨-, z⟩ | ⟨z, -⟩
    · exact z
    · exact absurd z ncb
end SQ
