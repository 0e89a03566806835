/-! SETTLES: sets of fortnights -/
theorem bit_and {a b g : Int} (h2 : 0 ≤ g) (h3 : g ≤ 9) : bit (qand a b) g ↔ (bit a g ∧ bit b g) := by
  rw [bit_g h2 h3, bit_g h2 h3, bit_g h2 h3]
  unfold qand
  rw [fb_asI, Int32.toBitVec_and, BitVec.getLsbD_and, Bool.and_eq_true]
theorem bit_not {a g : Int} (h2 : 0 ≤ g) (h3 : g ≤ 9) : bit (qxor a (-1)) g ↔ ¬ bit a g := by
  rw [bit_g h2 h3, bit_g h2 h3]
  unfold qxor
  rw [fb_asI, Int32.toBitVec_xor, BitVec.getLsbD_xor, bit_m g.toNat (by omega)]
  generalize (Int32.ofInt a).toBitVec.getLsbD g.toNat = x
  cases x <;> decide
def bv (b f : Int) : Int := if bit b f then 1 else 0
theorem bsum : ∀ n : Nat, n < 1024 → bv n 0 + 2 * bv n 1 + 4 * bv n 2 + 8 * bv n 3 + 16 * bv n 4 + 32 * bv n 5 + 64 * bv n 6 + 128 * bv n 7 + 256 * bv n 8 + 512 * bv n 9 = n := by decide +kernel
theorem bv_cg {a b f : Int} (h : bit a f ↔ bit b f) : bv a f = bv b f := by
  unfold bv
  by_cases z : bit a f
  · rw [if_pos z, if_pos (h.mp z)]
  · rw [if_neg z, if_neg (fun y => z (h.mpr y))]
theorem bit_ext {a b : Int} (a0 : 0 ≤ a) (a1 : a ≤ 1023) (b0 : 0 ≤ b) (b1 : b ≤ 1023) (h : ∀ f, 0 ≤ f → f ≤ 9 → (bit a f ↔ bit b f)) : a = b := by
  have ha := bsum a.toNat (by omega)
  have hb := bsum b.toNat (by omega)
  rw [show ((a.toNat : Nat) : Int) = a by omega] at ha
  rw [show ((b.toNat : Nat) : Int) = b by omega] at hb
  rw [bv_cg (h 0 (by decide) (by decide)), bv_cg (h 1 (by decide) (by decide)), bv_cg (h 2 (by decide) (by decide)), bv_cg (h 3 (by decide) (by decide)), bv_cg (h 4 (by decide) (by decide)), bv_cg (h 5 (by decide) (by decide)), bv_cg (h 6 (by decide) (by decide)), bv_cg (h 7 (by decide) (by decide)), bv_cg (h 8 (by decide) (by decide)), bv_cg (h 9 (by decide) (by decide))] at ha
  exact ha.symm.trans hb
def cnt (b : Int) : Int := smF (bv b) 0 10
def sub (b a : Int) : Prop := ∀ f, 0 ≤ f → f ≤ 9 → bit b f → bit a f
theorem sub_q {a b : Int} (h0 : 0 ≤ b) (h1 : b ≤ 1023) : qand b (qxor a (-1)) = 0 ↔ sub b a := by
  constructor
  · intro e f q1 q2 q3
    by_cases z : bit a f
    · exact z
    · have y : bit (qand b (qxor a (-1))) f := (bit_and q1 q2).mpr ⟨q3, (bit_not q1 q2).mpr z⟩
      rw [e] at y
      exact absurd y (bit_0 f q1 q2)
  · intro s
    have r := qand_le (b := qxor a (-1)) h0 (by omega)
    refine bit_ext r.1 (by omega) (by decide) (by decide) (fun f q1 q2 => ?_)
    rw [bit_and q1 q2, bit_not q1 q2]
    exact ⟨fun z => absurd (s f q1 q2 z.1) z.2, fun z => absurd z (bit_0 f q1 q2)⟩
theorem sub_le {a b : Int} (a0 : 0 ≤ a) (a1 : a ≤ 1023) (b0 : 0 ≤ b) (b1 : b ≤ 1023) (s : sub b a) : b ≤ a := by
  have r := qand_le (b := b) a0 (by omega)
  have e : qand a b = b := bit_ext r.1 (by omega) b0 b1 (fun f q1 q2 => by
    rw [bit_and q1 q2]
    exact ⟨fun z => z.2, fun z => ⟨s f q1 q2 z, z⟩⟩)
  omega
theorem bv_r (b f : Int) : 0 ≤ bv b f ∧ bv b f ≤ 1 := by
  unfold bv
  split <;> omega
theorem cnt_r (b : Int) : 0 ≤ cnt b ∧ cnt b ≤ 10 := by
  have := smF_r (g := bv b) (lo := 0) (B := 1) 10 (fun f _ _ => bv_r b f)
  unfold cnt
  omega
theorem cnt_le {a b : Int} (s : sub b a) : cnt b ≤ cnt a := smF_le _ (fun f q1 q2 => by
  unfold bv
  by_cases z : bit b f
  · rw [if_pos z, if_pos (s f q1 (by omega) z)]
    exact Int.le_refl 1
  · rw [if_neg z]
    split <;> decide)
theorem cnt_lt {a b g : Int} (s : sub b a) (h0 : 0 ≤ g) (h1 : g ≤ 9) (ha : bit a g) (hb : ¬ bit b g) : cnt b + 1 ≤ cnt a := by
  have e := smF_1 (g := bv b) (g' := fun f => if f = g then 1 else bv b f) (j := g) h0 h1 (fun f q => if_neg q)
  have l : smF (fun f => if f = g then 1 else bv b f) 0 10 ≤ smF (bv a) 0 10 := smF_le _ (fun f q1 q2 => by
    by_cases q : f = g
    · rw [if_pos q, q]
      unfold bv
      rw [if_pos ha]
      exact Int.le_refl 1
    · rw [if_neg q]
      unfold bv
      by_cases z : bit b f
      · rw [if_pos z, if_pos (s f q1 (by omega) z)]
        exact Int.le_refl 1
      · rw [if_neg z]
        split <;> decide)
  have z : bv b g = 0 := by
    unfold bv
    rw [if_neg hb]
  have e2 : smF (fun f => if f = g then 1 else bv b f) 0 10 = smF (bv b) 0 10 + 1 := by
    rw [e, z, if_pos rfl]
    rfl
  unfold cnt
  omega
def pop (a0 : Int) : Int := (qand (q32 ((q32 ((qand (q32 ((q32 ((qand (q32 (a0 - (qand (qushr a0 1) 1431655765))) 858993459) + (qand (qushr (q32 (a0 - (qand (qushr a0 1) 1431655765))) 2) 858993459))) + (qushr (q32 ((qand (q32 (a0 - (qand (qushr a0 1) 1431655765))) 858993459) + (qand (qushr (q32 (a0 - (qand (qushr a0 1) 1431655765))) 2) 858993459))) 4))) 252645135) + (qushr (qand (q32 ((q32 ((qand (q32 (a0 - (qand (qushr a0 1) 1431655765))) 858993459) + (qand (qushr (q32 (a0 - (qand (qushr a0 1) 1431655765))) 2) 858993459))) + (qushr (q32 ((qand (q32 (a0 - (qand (qushr a0 1) 1431655765))) 858993459) + (qand (qushr (q32 (a0 - (qand (qushr a0 1) 1431655765))) 2) 858993459))) 4))) 252645135) 8))) + (qushr (q32 ((qand (q32 ((q32 ((qand (q32 (a0 - (qand (qushr a0 1) 1431655765))) 858993459) + (qand (qushr (q32 (a0 - (qand (qushr a0 1) 1431655765))) 2) 858993459))) + (qushr (q32 ((qand (q32 (a0 - (qand (qushr a0 1) 1431655765))) 858993459) + (qand (qushr (q32 (a0 - (qand (qushr a0 1) 1431655765))) 2) 858993459))) 4))) 252645135) + (qushr (qand (q32 ((q32 ((qand (q32 (a0 - (qand (qushr a0 1) 1431655765))) 858993459) + (qand (qushr (q32 (a0 - (qand (qushr a0 1) 1431655765))) 2) 858993459))) + (qushr (q32 ((qand (q32 (a0 - (qand (qushr a0 1) 1431655765))) 858993459) + (qand (qushr (q32 (a0 - (qand (qushr a0 1) 1431655765))) 2) 858993459))) 4))) 252645135) 8))) 16))) 63)
theorem pop_c : ∀ n : Nat, n < 1024 → pop n = cnt n := by decide +kernel
theorem pop_cnt {b : Int} (h0 : 0 ≤ b) (h1 : b ≤ 1023) : pop b = cnt b := by
  have h := pop_c b.toNat (by omega)
  rw [show ((b.toNat : Nat) : Int) = b by omega] at h
  exact h
theorem bit01 : ∀ n : Nat, n < 1024 → ∀ f : Nat, f < 10 → qand (qshr n f) 1 = bv n f := by decide +kernel
section BI
variable {μ : qM} {d : Nat} {Q : qV → qM → Prop}
theorem E182 {a0 : Int} (h0 : 0 ≤ a0) (h1 : a0 ≤ 1023) : qmw (d + 1) 182 [(.inl (a0))] μ Q = Q (.inl (cnt a0)) μ := by
  rw [e182, g182_0, ← pop_cnt h0 h1]
  rfl
theorem x153 {a0 : Int} (h0 : 0 ≤ a0) (h1 : a0 ≤ 1023) (hQ : Q (.inl (cnt a0)) μ) : qmw (d + 1) 153 [(.inl (a0))] μ Q := by
  rw [e153, g153_0]
  refine qup 10 (P := fun f => ∀ a1 : Int, 0 ≤ f → a1 = smF (bv a0) 0 f.toNat → qW d 153 Q 4 [some (.inl (a0)), some (.inl (a1)), some (.inl (f))] [] μ) (fun f ih hB a1 hf e => ?_) 0 (by omega) _ (by omega) rfl
  rw [g153_4]
  refine ⟨fun q => ?_, fun q => ?_⟩
  · have ef : f = 10 := by omega
    rw [e, ef]
    exact hQ
  · have z := bit01 a0.toNat (by omega) f.toNat (by omega)
    rw [show ((a0.toNat : Nat) : Int) = a0 by omega, show ((f.toNat : Nat) : Int) = f by omega] at z
    have r := smF_r (g := bv a0) (lo := 0) (B := 1) f.toNat (fun f _ _ => bv_r a0 f)
    have r2 := bv_r a0 f
    rw [z, q32_id (z := a1 + bv a0 f) (by omega) (by omega), q32_id (z := f + 1) (by omega) (by omega)]
    refine ih _ (by omega) (by omega) _ (by omega) ?_
    rw [show (f + 1).toNat = f.toNat + 1 by omega, smF, ← e, show (0 : Int) + ((f.toNat : Nat) : Int) = f by omega]
end BI
/-! what is known when a set is shown -/
def hs (hb tr : Int → Int) (b k : Int) : Int → Int := fun f => if 0 ≤ f ∧ f < k ∧ bit b f then tr f else hb f
def hu (hb tr : Int → Int) (b k : Int) : Int → Int := fun f => if k ≤ f ∧ f < 10 ∧ bit b f then tr f else hb f
def Lx (fo h tr : Int → Int) (i : Int) : Int := smF (fun f => if fo f = i ∧ h f = -9 then tr f else 0) 0 10
def CB (fo Sx hb tr : Int → Int) : Prop := (∀ f, 0 ≤ f → f ≤ 9 → 0 ≤ fo f → ¬ hb f = -9 → tr f = hb f) ∧ ∀ i, 0 ≤ i → i ≤ 2 → Lx fo hb tr i = Sx i - sh fo hb i
def AD (hb tr h : Int → Int) : Prop := ∀ f, 0 ≤ f → f ≤ 9 → h f = hb f ∨ (hb f = -9 ∧ h f = tr f)
section HS
variable {fo Sx hb tr h : Int → Int} {b k : Int}
theorem hs_s (h0 : 0 ≤ k) (q : bit b k) : hup (hs hb tr b k) k (tr k) = hs hb tr b (k + 1) := by
  funext f
  by_cases e : f = k
  · rw [e, hup_s]
    unfold hs
    rw [if_pos ⟨h0, by omega, q⟩]
  · rw [hup_n e]
    unfold hs
    by_cases z : 0 ≤ f ∧ f < k ∧ bit b f
    · rw [if_pos z, if_pos ⟨z.1, by omega, z.2.2⟩]
    · rw [if_neg z, if_neg (fun y => z ⟨y.1, by omega, y.2.2⟩)]
theorem hs_n (q : ¬ bit b k) : hs hb tr b k = hs hb tr b (k + 1) := by
  funext f
  unfold hs
  by_cases z : 0 ≤ f ∧ f < k ∧ bit b f
  · rw [if_pos z, if_pos ⟨z.1, by omega, z.2.2⟩]
  · refine (if_neg z).trans (if_neg (fun y => ?_)).symm
    by_cases e : f = k
    · rw [e] at y
      exact q y.2.2
    · exact z ⟨y.1, by omega, y.2.2⟩
theorem hs_0 : hs hb tr b 0 = hb := by
  funext f
  unfold hs
  rw [if_neg (fun y => by omega)]
theorem hu_s (h1 : k < 10) (q : bit b k) : hu hb tr b k = hup (hu hb tr b (k + 1)) k (tr k) := by
  funext f
  by_cases e : f = k
  · rw [e, hup_s]
    unfold hu
    rw [if_pos ⟨by omega, h1, q⟩]
  · rw [hup_n e]
    unfold hu
    by_cases z : k ≤ f ∧ f < 10 ∧ bit b f
    · rw [if_pos z, if_pos ⟨by omega, z.2⟩]
    · rw [if_neg z, if_neg (fun y => z ⟨by omega, y.2⟩)]
theorem hu_n (q : ¬ bit b k) : hu hb tr b k = hu hb tr b (k + 1) := by
  funext f
  unfold hu
  by_cases z : k + 1 ≤ f ∧ f < 10 ∧ bit b f
  · rw [if_pos z, if_pos ⟨by omega, z.2⟩]
  · refine (if_neg (fun y => ?_)).trans (if_neg z).symm
    by_cases e : f = k
    · rw [e] at y
      exact q y.2.2
    · exact z ⟨by omega, y.2⟩
theorem hu_10 : hu hb tr b 10 = hb := by
  funext f
  unfold hu
  rw [if_neg (fun y => by omega)]
theorem hs_hu : hs hb tr b 10 = hu hb tr b 0 := rfl
theorem ad_hs (cb : CB fo Sx hb tr) (sb : ∀ f, 0 ≤ f → f ≤ 9 → bit b f → 0 ≤ fo f) : AD hb tr (hs hb tr b k) := fun f q1 q2 => by
  unfold hs
  by_cases z : 0 ≤ f ∧ f < k ∧ bit b f
  · rw [if_pos z]
    by_cases y : hb f = -9
    · exact Or.inr ⟨y, rfl⟩
    · exact Or.inl (cb.1 f q1 q2 (sb f q1 q2 z.2.2) y)
  · rw [if_neg z]
    exact Or.inl rfl
theorem ad_hu (cb : CB fo Sx hb tr) (sb : ∀ f, 0 ≤ f → f ≤ 9 → bit b f → 0 ≤ fo f) : AD hb tr (hu hb tr b k) := fun f q1 q2 => by
  unfold hu
  by_cases z : k ≤ f ∧ f < 10 ∧ bit b f
  · rw [if_pos z]
    by_cases y : hb f = -9
    · exact Or.inr ⟨y, rfl⟩
    · exact Or.inl (cb.1 f q1 q2 (sb f q1 q2 z.2.2) y)
  · rw [if_neg z]
    exact Or.inl rfl
theorem okH_ad (hh : okH hb) (ht : ∀ f, 0 ≤ f → f ≤ 9 → 0 ≤ tr f ∧ tr f ≤ 20) (ad : AD hb tr h) : okH h := fun f q1 q2 => by
  rcases ad f q1 q2 with e | ⟨-, e⟩
  · rw [e]
    exact hh f q1 q2
  · rw [e]
    exact Or.inr (ht f q1 q2)
theorem nl_ad (ht : ∀ f, 0 ≤ f → f ≤ 9 → 0 ≤ tr f ∧ tr f ≤ 20) (ad : AD hb tr h) (i : Int) : nl fo h i ≤ nl fo hb i := smF_le _ (fun f q1 q2 => by
  by_cases z : fo f = i ∧ h f = -9
  · rw [if_pos z]
    rcases ad f q1 (by omega) with e | ⟨-, e⟩
    · rw [if_pos ⟨z.1, by rw [← e]; exact z.2⟩]
      exact Int.le_refl 1
    · have := ht f q1 (by omega)
      omega
  · rw [if_neg z]
    split <;> decide)
theorem sh_L (ht : ∀ f, 0 ≤ f → f ≤ 9 → 0 ≤ tr f ∧ tr f ≤ 20) (ad : AD hb tr h) (i : Int) : sh fo h i + Lx fo h tr i = sh fo hb i + Lx fo hb tr i := by
  unfold sh Lx
  rw [← smF_pl, ← smF_pl]
  refine smF_cg _ (fun f q1 q2 => ?_)
  by_cases z : fo f = i
  · rcases ad f q1 (by omega) with e | ⟨e1, e2⟩
    · rw [e]
    · have := ht f q1 (by omega)
      rw [e2, if_pos ⟨z, by omega⟩, if_neg (fun y => by omega), e1, if_neg (fun y => absurd rfl y.2), if_pos ⟨z, rfl⟩]
      omega
  · rw [if_neg (fun y => z y.1), if_neg (fun y => z y.1), if_neg (fun y => z y.1), if_neg (fun y => z y.1)]
theorem Lx_r (ht : ∀ f, 0 ≤ f → f ≤ 9 → 0 ≤ tr f ∧ tr f ≤ 20) (i : Int) : 0 ≤ Lx fo h tr i ∧ Lx fo h tr i ≤ 20 * nl fo h i := by
  have r := smF_r (g := fun f => if fo f = i ∧ h f = -9 then tr f else 0) (lo := 0) (B := 20) 10 (fun f q1 q2 => by
    have := ht f q1 (by omega)
    split
    · exact this
    · omega)
  refine ⟨r.1, ?_⟩
  unfold Lx nl
  rw [← smF_mul]
  refine smF_le _ (fun f q1 q2 => ?_)
  have := ht f q1 (by omega)
  by_cases z : fo f = i ∧ h f = -9
  · rw [if_pos z, if_pos z]
    omega
  · rw [if_neg z, if_neg z]
    decide
theorem FE_ad (ht : ∀ f, 0 ≤ f → f ≤ 9 → 0 ≤ tr f ∧ tr f ≤ 20) (cb : CB fo Sx hb tr) (ad : AD hb tr h) : FE fo Sx h := fun i q1 q2 => by
  have a := sh_L (fo := fo) ht ad i
  have b := cb.2 i q1 q2
  have c := Lx_r (fo := fo) (h := h) ht i
  omega
end HS
