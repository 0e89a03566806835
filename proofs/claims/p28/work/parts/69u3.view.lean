/-! BITS -/
abbrev bit (x f : Int) : Prop := qand (qshr x f) 1 = 1
theorem bv_and1 (x : BitVec 32) : (x &&& 1#32).toInt = 1 ↔ x.getLsbD 0 = true := by
  have e : x &&& 1#32 = if x.getLsbD 0 = true then 1#32 else 0#32 := by
    apply BitVec.eq_of_getLsbD_eq
    intro i hi
    rw [BitVec.getLsbD_and]
    by_cases h0 : i = 0
    · subst h0
      by_cases hx : x.getLsbD 0 = true
      · rw [if_pos hx, hx]
        rfl
      · rw [if_neg hx]
        simp only [Bool.not_eq_true] at hx
        rw [hx]
        rfl
    · have e1 : (1#32).getLsbD i = false := by
        rw [BitVec.getLsbD_one]
        simp [h0]
      rw [e1, Bool.and_false]
      split
      · exact e1.symm
      · rw [BitVec.getLsbD_zero]
  rw [e]
  by_cases hx : x.getLsbD 0 = true
  · rw [if_pos hx]
    exact ⟨fun _ => hx, fun _ => by decide⟩
  · rw [if_neg hx]
    exact ⟨fun q => absurd q (by decide), fun q => absurd q hx⟩
theorem bit_g {a f : Int} (h0 : 0 ≤ f) (h1 : f ≤ 9) : bit a f ↔ (Int32.ofInt a).toBitVec.getLsbD f.toNat = true := by
  unfold bit qand qshr
  rw [fb_asI]
  have key : ∀ n : Nat, n ≤ 9 → ∀ s : Int32, s = Int32.ofNat n → ((Int32.ofInt a >>> s &&& Int32.ofInt 1).toInt = 1 ↔ (Int32.ofInt a).toBitVec.getLsbD n = true) := fun n hn s hs => by
    have hsm : (BitVec.smod s.toBitVec 32).toNat = n := by
      rw [hs]
      have : ∀ m : Nat, m < 10 → (BitVec.smod (Int32.ofNat m).toBitVec 32).toNat = m := by decide +kernel
      exact this n (by omega)
    have e1 : (Int32.ofInt a >>> s).toBitVec = (Int32.ofInt a).toBitVec.sshiftRight n := by
      rw [Int32.toBitVec_shiftRight, BitVec.sshiftRight', hsm]
    show ((Int32.ofInt a >>> s &&& Int32.ofInt 1).toBitVec.toInt = 1) ↔ _
    rw [Int32.toBitVec_and, e1]
    have e2 : (Int32.ofInt 1).toBitVec = 1#32 := rfl
    rw [e2, bv_and1, BitVec.getLsbD_sshiftRight]
    have h3 : n < 32 := by omega
    have h4 : ¬ 32 ≤ n := by omega
    simp [h3, h4]
  rcases (show f = 0 ∨ f = 1 ∨ f = 2 ∨ f = 3 ∨ f = 4 ∨ f = 5 ∨ f = 6 ∨ f = 7 ∨ f = 8 ∨ f = 9 by omega) with rfl | rfl | rfl | rfl | rfl | rfl | rfl | rfl | rfl | rfl
  · exact key 0 (by decide) _ (by decide +kernel)
  · exact key 1 (by decide) _ (by decide +kernel)
  · exact key 2 (by decide) _ (by decide +kernel)
  · exact key 3 (by decide) _ (by decide +kernel)
  · exact key 4 (by decide) _ (by decide +kernel)
  · exact key 5 (by decide) _ (by decide +kernel)
  · exact key 6 (by decide) _ (by decide +kernel)
  · exact key 7 (by decide) _ (by decide +kernel)
  · exact key 8 (by decide) _ (by decide +kernel)
  · exact key 9 (by decide) _ (by decide +kernel)
theorem bit_1 : ∀ f : Nat, f < 10 → ∀ g : Nat, g < 10 → (Int32.ofInt (qshl 1 f)).toBitVec.getLsbD g = decide (g = f) := by decide +kernel
theorem bit_m : ∀ g : Nat, g < 10 → (Int32.ofInt (-1)).toBitVec.getLsbD g = true := by decide +kernel
theorem bit_set {a f g : Int} (h0 : 0 ≤ f) (h1 : f ≤ 9) (h2 : 0 ≤ g) (h3 : g ≤ 9) : bit (qior a (qshl 1 f)) g ↔ (bit a g ∨ g = f) := by
  rw [bit_g h2 h3, bit_g h2 h3]
  unfold qior
  rw [fb_asI, Int32.toBitVec_or, BitVec.getLsbD_or]
  have e := bit_1 f.toNat (by omega) g.toNat (by omega)
  rw [show ((f.toNat : Nat) : Int) = f by omega] at e
  rw [e]
  simp only [Bool.or_eq_true, decide_eq_true_eq]
  constructor
  · intro q
    exact q.imp id (fun q => by omega)
  · intro q
    exact q.imp id (fun q => by omega)
theorem bit_clr {a f g : Int} (h0 : 0 ≤ f) (h1 : f ≤ 9) (h2 : 0 ≤ g) (h3 : g ≤ 9) : bit (qand a (qxor (qshl 1 f) (-1))) g ↔ (bit a g ∧ ¬ g = f) := by
  rw [bit_g h2 h3, bit_g h2 h3]
  unfold qand qxor
  rw [fb_asI, fb_asI, Int32.toBitVec_and, BitVec.getLsbD_and, Int32.toBitVec_xor, BitVec.getLsbD_xor, bit_m g.toNat (by omega)]
  have e := bit_1 f.toNat (by omega) g.toNat (by omega)
  rw [show ((f.toNat : Nat) : Int) = f by omega] at e
  rw [e]
  by_cases q : g = f
  · subst q
    simp
  · have q2 : ¬ g.toNat = f.toNat := by omega
    simp [q2, q]
theorem bit_0 : ∀ f : Int, 0 ≤ f → f ≤ 9 → ¬ bit 0 f := fun f h0 h1 => by
  rw [bit_g h0 h1]
  have : ∀ g : Nat, g < 10 → ¬ (Int32.ofInt 0).toBitVec.getLsbD g = true := by decide +kernel
  exact this f.toNat (by omega)
/-! THE VIEW: sums over the fortnights -/
def hup (h : Int → Int) (j v : Int) : Int → Int := fun f => if f = j then v else h f
theorem hup_s {h : Int → Int} {j v : Int} : hup h j v j = v := if_pos rfl
theorem hup_n {h : Int → Int} {j v f : Int} (q : ¬ f = j) : hup h j v f = h f := if_neg q
theorem smF_1 {g g' : Int → Int} {j : Int} (h0 : 0 ≤ j) (h1 : j ≤ 9) (h : ∀ f, ¬ f = j → g' f = g f) : smF g' 0 10 = smF g 0 10 + (g' j - g j) := by
  have e : (10 : Nat) = j.toNat + (1 + (9 - j).toNat) := by omega
  rw [e, smF_ad, smF_ad, smF_ad, smF_ad, smF_cg (g := g') (g' := g) j.toNat (fun i q1 q2 => h i (by omega)), smF_cg (g := g') (g' := g) (lo := 0 + (j.toNat : Int) + ((1 : Nat) : Int)) (9 - j).toNat (fun i q1 q2 => h i (by omega))]
  have s1 : ∀ x : Int → Int, smF x (0 + (j.toNat : Int)) 1 = x j := fun x => by
    rw [smF, smF, Int.zero_add, show 0 + (j.toNat : Int) + ((0 : Nat) : Int) = j by omega]
  rw [s1, s1]
  omega
def sh (fo h : Int → Int) (i : Int) : Int := smF (fun f => if fo f = i ∧ ¬ h f = -9 then h f else 0) 0 10
def ns (fo h : Int → Int) (i : Int) : Int := smF (fun f => if fo f = i ∧ ¬ h f = -9 then 1 else 0) 0 10
def nl (fo h : Int → Int) (i : Int) : Int := smF (fun f => if fo f = i ∧ h f = -9 then 1 else 0) 0 10
def nf (fo : Int → Int) (i : Int) : Int := smF (fun f => if fo f = i then 1 else 0) 0 10
def sd (fo du h : Int → Int) : Int := smF (fun f => if 0 ≤ fo f ∧ ¬ h f = -9 then du (h f) else 0) 0 10
def pd (fo du told : Int → Int) : Int := smF (fun f => if 0 ≤ fo f then du (told f) else 0) 0 10
theorem nl_ns {fo h : Int → Int} {i : Int} : nf fo i - ns fo h i = nl fo h i := by
  have e : nf fo i = ns fo h i + nl fo h i := by
    unfold nf ns nl
    rw [← smF_pl]
    refine smF_cg _ (fun f _ _ => ?_)
    by_cases q : fo f = i
    · by_cases q2 : h f = -9
      · rw [if_pos q, if_neg (fun z => z.2 q2), if_pos ⟨q, q2⟩]
        rfl
      · rw [if_pos q, if_pos ⟨q, q2⟩, if_neg (fun z => q2 z.2)]
        rfl
    · rw [if_neg q, if_neg (fun z => q z.1), if_neg (fun z => q z.1)]
      rfl
  omega
def okH (h : Int → Int) : Prop := ∀ f, 0 ≤ f → f ≤ 9 → h f = -9 ∨ (0 ≤ h f ∧ h f ≤ 20)
theorem sh_r {fo h : Int → Int} {i : Int} (hh : okH h) : 0 ≤ sh fo h i ∧ sh fo h i ≤ 200 := by
  have := smF_r (g := fun f => if fo f = i ∧ ¬ h f = -9 then h f else 0) (lo := 0) (B := 20) 10 (fun f q1 q2 => by
    have hf := hh f q1 (by omega)
    split
    · omega
    · omega)
  unfold sh
  omega
theorem ns_r {fo h : Int → Int} {i : Int} : 0 ≤ ns fo h i ∧ ns fo h i ≤ 10 := by
  have := smF_r (g := fun f => if fo f = i ∧ ¬ h f = -9 then 1 else 0) (lo := 0) (B := 1) 10 (fun f q1 q2 => by
    split <;> omega)
  unfold ns
  omega
theorem nl_r {fo h : Int → Int} {i : Int} : 0 ≤ nl fo h i ∧ nl fo h i ≤ 10 := by
  have := smF_r (g := fun f => if fo f = i ∧ h f = -9 then 1 else 0) (lo := 0) (B := 1) 10 (fun f q1 q2 => by
    split <;> omega)
  unfold nl
  omega
theorem nf_r {fo : Int → Int} {i : Int} : 0 ≤ nf fo i ∧ nf fo i ≤ 10 := by
  have := smF_r (g := fun f => if fo f = i then 1 else 0) (lo := 0) (B := 1) 10 (fun f q1 q2 => by
    split <;> omega)
  unfold nf
  omega
def okD (du : Int → Int) : Prop := ∀ p, 0 ≤ p → p ≤ 20 → 0 ≤ du p ∧ du p ≤ 99
theorem sd_r {fo du h : Int → Int} (hh : okH h) (hd : okD du) : 0 ≤ sd fo du h ∧ sd fo du h ≤ 990 := by
  have := smF_r (g := fun f => if 0 ≤ fo f ∧ ¬ h f = -9 then du (h f) else 0) (lo := 0) (B := 99) 10 (fun f q1 q2 => by
    have hf := hh f q1 (by omega)
    split
    · exact hd _ (by omega) (by omega)
    · omega)
  unfold sd
  omega
theorem pd_r {fo du told : Int → Int} (ht : ∀ f, 0 ≤ f → f ≤ 9 → 0 ≤ told f ∧ told f ≤ 20) (hd : okD du) : 0 ≤ pd fo du told ∧ pd fo du told ≤ 990 := by
  have := smF_r (g := fun f => if 0 ≤ fo f then du (told f) else 0) (lo := 0) (B := 99) 10 (fun f q1 q2 => by
    have hf := ht f q1 (by omega)
    split
    · exact hd _ (by omega) (by omega)
    · omega)
  unfold pd
  omega
/-- the view's cells: left, loose, paid, due of what is shown, which are loose -/
def VW (μ : qM) (fo Sx N du told h : Int → Int) : Prop := (∀ i, 0 ≤ i → i ≤ 2 → μ 55 i = Sx i - sh fo h i ∧ μ 56 i = N i - ns fo h i) ∧ μ 15 5 = pd fo du told ∧ μ 15 6 = sd fo du h ∧ ∀ f, 0 ≤ f → f ≤ 9 → (bit (μ 15 4) f ↔ (0 ≤ fo f ∧ h f = -9))
theorem VW_fr {μ μ' : qM} {fo Sx N du told h : Int → Int} (v : VW μ fo Sx N du told h) (k : ∀ c i, c = 15 ∨ c = 55 ∨ c = 56 → μ' c i = μ c i) : VW μ' fo Sx N du told h := by
  refine ⟨fun i q1 q2 => ?_, ?_, ?_, fun f q1 q2 => ?_⟩
  · rw [k _ _ (by omega), k _ _ (by omega)]
    exact v.1 i q1 q2
  · rw [k _ _ (by omega)]
    exact v.2.1
  · rw [k _ _ (by omega)]
    exact v.2.2.1
  · rw [k _ _ (by omega)]
    exact v.2.2.2 f q1 q2
theorem sh_u {fo h : Int → Int} {i a1 a2 : Int} (h0 : 0 ≤ a1) (h1 : a1 ≤ 9) (h2 : 0 ≤ a2) (h9 : h a1 = -9) : sh fo (hup h a1 a2) i = sh fo h i + (if fo a1 = i then a2 else 0) := by
  unfold sh
  rw [smF_1 (j := a1) (g := fun f => if fo f = i ∧ ¬ h f = -9 then h f else 0) h0 h1 (fun f q => by rw [hup_n q])]
  rw [hup_s, h9]
  by_cases q : fo a1 = i
  · rw [if_pos ⟨q, by omega⟩, if_neg (fun z => z.2 rfl), if_pos q]
    omega
  · rw [if_neg (fun z => q z.1), if_neg (fun z => q z.1), if_neg q]
    omega
theorem ns_u {fo h : Int → Int} {i a1 a2 : Int} (h0 : 0 ≤ a1) (h1 : a1 ≤ 9) (h2 : 0 ≤ a2) (h9 : h a1 = -9) : ns fo (hup h a1 a2) i = ns fo h i + (if fo a1 = i then 1 else 0) := by
  unfold ns
  rw [smF_1 (j := a1) (g := fun f => if fo f = i ∧ ¬ h f = -9 then 1 else 0) h0 h1 (fun f q => by rw [hup_n q])]
  rw [hup_s, h9]
  by_cases q : fo a1 = i
  · rw [if_pos ⟨q, by omega⟩, if_neg (fun z => z.2 rfl), if_pos q]
    omega
  · rw [if_neg (fun z => q z.1), if_neg (fun z => q z.1), if_neg q]
    omega
theorem sd_u {fo du h : Int → Int} {a1 a2 : Int} (h0 : 0 ≤ a1) (h1 : a1 ≤ 9) (h2 : 0 ≤ a2) (hf : 0 ≤ fo a1) (h9 : h a1 = -9) : sd fo du (hup h a1 a2) = sd fo du h + du a2 := by
  unfold sd
  rw [smF_1 (j := a1) (g := fun f => if 0 ≤ fo f ∧ ¬ h f = -9 then du (h f) else 0) (g' := fun f => if 0 ≤ fo f ∧ ¬ hup h a1 a2 f = -9 then du (hup h a1 a2 f) else 0) h0 h1 (fun f q => by rw [hup_n q])]
  rw [hup_s, h9, if_pos ⟨hf, by omega⟩, if_neg (fun z => z.2 rfl)]
  omega
theorem x4 {d : Nat} {Q : qV → qM → Prop} {μ : qM} {fo Sx N du told h : Int → Int} {a1 a2 : Int} (hS : Safe μ) (h0 : 0 ≤ a1) (h1 : a1 ≤ 9) (h2 : 0 ≤ a2) (h3 : a2 ≤ 20) (hf : 0 ≤ fo a1) (hf2 : fo a1 ≤ 2) (e54 : μ 54 a1 = fo a1) (hh : okH h) (h9 : h a1 = -9) (hd : okD du) (e17 : ∀ p, 0 ≤ p → p ≤ 20 → μ 17 p = du p) (hS2 : ∀ i, 0 ≤ i → i ≤ 2 → 0 ≤ Sx i ∧ Sx i ≤ 200) (hN : ∀ i, 0 ≤ i → i ≤ 2 → 0 ≤ N i ∧ N i ≤ 10) (v : VW μ fo Sx N du told h) (hQ : ∀ μ', Safe μ' → (∀ c i, ¬ c = 15 → ¬ c = 55 → ¬ c = 56 → μ' c i = μ c i) → VW μ' fo Sx N du told (hup h a1 a2) → Q (.inl 0) μ') : qmw (d + 3) 4 [(.inr (.inr (.inl (15)))), (.inl (a1)), (.inl (a2))] μ Q := by
  obtain ⟨v1, v2, v3, v4⟩ := v
  have hl := sa_ls hS
  have r1 := sh_r (fo := fo) (i := fo a1) hh
  have r2 := ns_r (fo := fo) (h := h) (i := fo a1)
  have r3 := sd_r (fo := fo) hh hd
  have r4 := hd a2 h2 h3
  have w := v1 (fo a1) hf hf2
  have s1 := hS2 (fo a1) hf hf2
  have n1 := hN (fo a1) hf hf2
  rw [e4, g4_0]
  simp only [E65, g4_44]
  rw [e54]
  have hx : 0 ≤ fo a1 ∧ fo a1 < 3 := by omega
  refine ⟨by omega, fun q => by omega, fun _ => ⟨hx, hx, hx, hx, ?_⟩⟩
  rw [if_neg (by omega), qu_cell (c := 56) (c' := 17) (by decide), qu_cell (c := 55) (c' := 17) (by decide), e17 a2 h2 h3, qu_cell (c := 56) (c' := 15) (by decide), qu_cell (c := 55) (c' := 15) (by decide), w.1, w.2, v3, q32_id (z := Sx (fo a1) - sh fo h (fo a1) - a2) (by omega) (by omega), q32_id (z := N (fo a1) - ns fo h (fo a1) - 1) (by omega) (by omega), q32_id (z := sd fo du h + du a2) (by omega) (by omega)]
  have hb : 0 ≤ qand (μ 15 4) (qxor (qshl 1 a1) (-1)) ∧ qand (μ 15 4) (qxor (qshl 1 a1) (-1)) ≤ μ 15 4 := qand_le (by omega) (by omega)
  refine hQ _ ?_ (fun c i q1 q2 q3 => ?_) ⟨fun i q1 q2 => ?_, ?_, ?_, fun f q1 q2 => ?_⟩
  · have z : Sv μ (qu (qu (qu (qu μ 55 (fo a1) (Sx (fo a1) - sh fo h (fo a1) - a2)) 56 (fo a1) (N (fo a1) - ns fo h (fo a1) - 1)) 15 6 (sd fo du h + du a2)) 15 4 (qand (μ 15 4) (qxor (qshl 1 a1) (-1)))) := by
      refine Sv_u ?_ (by omega) (by omega) (by intros; omega) (by intros; omega) (by intros; omega)
      refine Sv_u ?_ (by omega) (by omega) (by intros; omega) (by intros; omega) (by intros; omega)
      refine Sv_u ?_ (by omega) (by omega) (by intros; omega) (by intros; omega) (by intros; omega)
      refine Sv_u ?_ (by omega) (by omega) (by intros; omega) (by intros; omega) (by intros; omega)
      exact Sv_rf hS
    exact z.1
  · rw [qu_cell q1, qu_cell q1, qu_cell q3, qu_cell q2]
  · rw [qu_cell (c := 15) (c' := 55) (by decide), qu_cell (c := 15) (c' := 55) (by decide), qu_cell (c := 56) (c' := 55) (by decide), qu_cell (c := 15) (c' := 56) (by decide), qu_cell (c := 15) (c' := 56) (by decide)]
    have es : sh fo (hup h a1 a2) i = sh fo h i + (if fo a1 = i then a2 else 0) := sh_u h0 h1 h2 h9
    have en : ns fo (hup h a1 a2) i = ns fo h i + (if fo a1 = i then 1 else 0) := ns_u h0 h1 h2 h9
    rw [es, en]
    by_cases q : i = fo a1
    · rw [q, qu_same, qu_same, if_pos rfl, if_pos rfl]
      omega
    · rw [qu_ne (c' := 55) (by omega), qu_ne (c' := 56) (by omega), qu_cell (c := 55) (c' := 56) (by decide), if_neg (fun z => q z.symm), if_neg (fun z => q z.symm), Int.add_zero, Int.add_zero]
      exact v1 i q1 q2
  · rw [qu_ne (by omega), qu_ne (by omega), qu_cell (by decide), qu_cell (by decide)]
    exact v2
  · rw [qu_ne (by omega), qu_same]
    exact (sd_u h0 h1 h2 hf h9).symm
  · rw [qu_same, bit_clr h0 h1 q1 q2, v4 f q1 q2]
    by_cases q : f = a1
    · subst q
      rw [hup_s]
      exact ⟨fun z => absurd rfl z.2, fun z => by omega⟩
    · rw [hup_n q]
      exact ⟨fun z => z.1, fun z => ⟨z, q⟩⟩
theorem hup_b {h : Int → Int} {j v : Int} (h9 : h j = -9) : hup (hup h j v) j (-9) = h := by
  funext f
  by_cases q : f = j
  · rw [q, hup_s, h9]
  · rw [hup_n q, hup_n q]
theorem okH_u {h : Int → Int} {j v : Int} (hh : okH h) (hv : v = -9 ∨ (0 ≤ v ∧ v ≤ 20)) : okH (hup h j v) := fun f q1 q2 => by
  by_cases q : f = j
  · rw [q, hup_s]
    exact hv
  · rw [hup_n q]
    exact hh f q1 q2
theorem x5 {d : Nat} {Q : qV → qM → Prop} {μ : qM} {fo Sx N du told h : Int → Int} {a1 a2 : Int} (hS : Safe μ) (h0 : 0 ≤ a1) (h1 : a1 ≤ 9) (h2 : 0 ≤ a2) (h3 : a2 ≤ 20) (hf : 0 ≤ fo a1) (hf2 : fo a1 ≤ 2) (e54 : μ 54 a1 = fo a1) (hh : okH h) (h9 : h a1 = -9) (hd : okD du) (e17 : ∀ p, 0 ≤ p → p ≤ 20 → μ 17 p = du p) (hS2 : ∀ i, 0 ≤ i → i ≤ 2 → 0 ≤ Sx i ∧ Sx i ≤ 200) (hN : ∀ i, 0 ≤ i → i ≤ 2 → 0 ≤ N i ∧ N i ≤ 10) (v : VW μ fo Sx N du told (hup h a1 a2)) (hQ : ∀ μ', Safe μ' → (∀ c i, ¬ c = 15 → ¬ c = 55 → ¬ c = 56 → μ' c i = μ c i) → VW μ' fo Sx N du told h → Q (.inl 0) μ') : qmw (d + 3) 5 [(.inr (.inr (.inl (15)))), (.inl (a1)), (.inl (a2))] μ Q := by
  obtain ⟨v1, v2, v3, v4⟩ := v
  have hl := sa_ls hS
  have r1 := sh_r (fo := fo) (i := fo a1) (okH_u (j := a1) (v := a2) hh (Or.inr ⟨h2, h3⟩))
  have r2 := ns_r (fo := fo) (h := hup h a1 a2) (i := fo a1)
  have r3 := sd_r (fo := fo) (okH_u (j := a1) (v := a2) hh (Or.inr ⟨h2, h3⟩)) hd
  have r4 := hd a2 h2 h3
  have w := v1 (fo a1) hf hf2
  have s1 := hS2 (fo a1) hf hf2
  have n1 := hN (fo a1) hf hf2
  rw [e5, g5_0]
  simp only [E65, g5_44]
  rw [e54]
  have hx : 0 ≤ fo a1 ∧ fo a1 < 3 := by omega
  refine ⟨by omega, fun q => by omega, fun _ => ⟨hx, hx, hx, hx, ?_⟩⟩
  rw [if_neg (by omega), qu_cell (c := 56) (c' := 17) (by decide), qu_cell (c := 55) (c' := 17) (by decide), e17 a2 h2 h3, qu_cell (c := 56) (c' := 15) (by decide), qu_cell (c := 55) (c' := 15) (by decide), w.1, w.2, v3, q32_id (z := Sx (fo a1) - sh fo (hup h a1 a2) (fo a1) + a2) (by omega) (by omega), q32_id (z := N (fo a1) - ns fo (hup h a1 a2) (fo a1) + 1) (by omega) (by omega), q32_id (z := sd fo du (hup h a1 a2) - du a2) (by omega) (by omega)]
  have hb := qset1 (a := μ 15 4) (f := a1) (by omega) (by omega) h0 (by omega)
  refine hQ _ ?_ (fun c i q1 q2 q3 => ?_) ⟨fun i q1 q2 => ?_, ?_, ?_, fun f q1 q2 => ?_⟩
  · have z : Sv μ (qu (qu (qu (qu μ 55 (fo a1) (Sx (fo a1) - sh fo (hup h a1 a2) (fo a1) + a2)) 56 (fo a1) (N (fo a1) - ns fo (hup h a1 a2) (fo a1) + 1)) 15 6 (sd fo du (hup h a1 a2) - du a2)) 15 4 (qior (μ 15 4) (qshl 1 a1))) := by
      refine Sv_u ?_ (by omega) (by omega) (by intros; omega) (by intros; omega) (by intros; omega)
      refine Sv_u ?_ (by omega) (by omega) (by intros; omega) (by intros; omega) (by intros; omega)
      refine Sv_u ?_ (by omega) (by omega) (by intros; omega) (by intros; omega) (by intros; omega)
      refine Sv_u ?_ (by omega) (by omega) (by intros; omega) (by intros; omega) (by intros; omega)
      exact Sv_rf hS
    exact z.1
  · rw [qu_cell q1, qu_cell q1, qu_cell q3, qu_cell q2]
  · rw [qu_cell (c := 15) (c' := 55) (by decide), qu_cell (c := 15) (c' := 55) (by decide), qu_cell (c := 56) (c' := 55) (by decide), qu_cell (c := 15) (c' := 56) (by decide), qu_cell (c := 15) (c' := 56) (by decide)]
    have es : sh fo (hup h a1 a2) i = sh fo h i + (if fo a1 = i then a2 else 0) := sh_u h0 h1 h2 h9
    have en : ns fo (hup h a1 a2) i = ns fo h i + (if fo a1 = i then 1 else 0) := ns_u h0 h1 h2 h9
    by_cases q : i = fo a1
    · rw [if_pos q.symm] at es en
      rw [← q, qu_same, qu_same, es, en]
      omega
    · rw [if_neg (fun z => q z.symm)] at es en
      have v1i := v1 i q1 q2
      rw [es, en] at v1i
      rw [qu_ne (c' := 55) (by omega), qu_ne (c' := 56) (by omega), qu_cell (c := 55) (c' := 56) (by decide)]
      omega
  · rw [qu_ne (by omega), qu_ne (by omega), qu_cell (by decide), qu_cell (by decide)]
    exact v2
  · rw [qu_ne (by omega), qu_same]
    have esd : sd fo du (hup h a1 a2) = sd fo du h + du a2 := sd_u h0 h1 h2 hf h9
    omega
  · rw [qu_same, bit_set h0 h1 q1 q2, v4 f q1 q2]
    by_cases q : f = a1
    · subst q
      rw [h9]
      exact ⟨fun _ => ⟨hf, rfl⟩, fun _ => Or.inr rfl⟩
    · rw [hup_n q]
      exact ⟨fun z => z.resolve_right q, fun z => Or.inl z⟩
