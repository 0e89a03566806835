/-! THE TOTAL RELATION: slips, spans, what could be; both sides' sums are the same -/
def RSlip (μ : qM) : Prop := ∀ p f, 0 ≤ p → p ≤ 5 → 0 ≤ f → f ≤ 9 → ((μ (74 + 11 * p + 3) f = -1 ∧ μ 179 (10 * p + f) = -9) ∨ (0 ≤ μ (74 + 11 * p + 3) f ∧ μ (74 + 11 * p + 3) f ≤ 20 ∧ μ 179 (10 * p + f) = μ (74 + 11 * p + 3) f)) ∧ μ (74 + 11 * p + 4) f = μ 180 (10 * p + f) ∧ μ (74 + 11 * p + 4) f ≤ 200
def RSpan (μ : qM) : Prop := ∀ p, 0 ≤ p → p ≤ 5 → (∀ i, 0 ≤ i → i < μ (74 + 11 * p) 10 → (0 ≤ μ (74 + 11 * p + 5) i ∧ μ (74 + 11 * p + 5) i ≤ μ (74 + 11 * p + 6) i ∧ μ (74 + 11 * p + 6) i ≤ 9) ∧ (0 ≤ μ (74 + 11 * p + 7) i ∧ μ (74 + 11 * p + 7) i ≤ 20 * (μ (74 + 11 * p + 6) i - μ (74 + 11 * p + 5) i + 1)) ∧ μ (74 + 11 * p + 8) i ≤ 200) ∧ ∀ i j, 0 ≤ i → i < j → j < μ (74 + 11 * p) 10 → μ (74 + 11 * p + 6) i < μ (74 + 11 * p + 5) j ∨ μ (74 + 11 * p + 6) j < μ (74 + 11 * p + 5) i
def RCan (μ : qM) : Prop := ∀ p, 0 ≤ p → p ≤ 5 → FE (foC μ (74 + 11 * p) 200) (SxC μ (74 + 11 * p) 200) (hC μ (74 + 11 * p) 200) ∧ ∀ f, 0 ≤ f → f ≤ 9 → 0 ≤ μ (74 + 11 * p + 3) f → 0 ≤ foC μ (74 + 11 * p) 200 f
theorem smF_le {g g' : Int → Int} {lo : Int} : ∀ n : Nat, (∀ i, lo ≤ i → i < lo + n → g i ≤ g' i) → smF g lo n ≤ smF g' lo n
  | 0, _ => by
    rw [smF, smF]
    exact Int.le_refl 0
  | n + 1, h => by
    have ih := smF_le n (fun i q1 q2 => h i q1 (by omega))
    have hk := h (lo + n) (by omega) (by omega)
    rw [smF, smF]
    omega
theorem smF_one {lo : Int} : ∀ n : Nat, smF (fun _ => 1) lo n = n
  | 0 => rfl
  | n + 1 => by
    rw [smF, smF_one n]
    omega
theorem smF_mul {g : Int → Int} {lo k : Int} : ∀ n : Nat, smF (fun i => k * g i) lo n = k * smF g lo n
  | 0 => by
    rw [smF, smF, Int.mul_zero]
  | n + 1 => by
    rw [smF, smF, smF_mul n, Int.mul_add]
def us (fo h : Int → Int) (i : Int) : Int := smF (fun f => if fo f = i then (if h f = -9 then 20 else h f) else 0) 0 10
theorem us_eq {fo h : Int → Int} {i : Int} : us fo h i = 20 * nl fo h i + sh fo h i := by
  unfold us nl sh
  rw [← smF_mul, ← smF_pl]
  refine smF_cg _ (fun f _ _ => ?_)
  by_cases q : fo f = i
  · by_cases q2 : h f = -9
    · rw [if_pos q, if_pos q2, if_pos ⟨q, q2⟩, if_neg (fun z => z.2 q2)]
      rfl
    · rw [if_pos q, if_neg q2, if_neg (fun z => q2 z.2), if_pos ⟨q, q2⟩]
      omega
  · rw [if_neg q, if_neg (fun z => q z.1), if_neg (fun z => q z.1)]
    rfl
section SP
variable {μ : qM}
theorem fo_r (hS : Safe μ) {p f day : Int} (h0 : 0 ≤ p) (h1 : p ≤ 5) : -1 ≤ foC μ (74 + 11 * p) day f ∧ foC μ (74 + 11 * p) day f < μ (74 + 11 * p) 10 ∧ foC μ (74 + 11 * p) day f ≤ 2 := by
  have hf := sa_firms hS ⟨p, h0, by omega, rfl⟩
  exact fw_r hf.2 hf.1
theorem fo_hit (hS : Safe μ) {p f day : Int} (h0 : 0 ≤ p) (h1 : p ≤ 5) (h : 0 ≤ foC μ (74 + 11 * p) day f) : foC μ (74 + 11 * p) day f < μ (74 + 11 * p) 10 ∧ μ (74 + 11 * p + 8) (foC μ (74 + 11 * p) day f) ≤ day ∧ μ (74 + 11 * p + 5) (foC μ (74 + 11 * p) day f) ≤ f ∧ f ≤ μ (74 + 11 * p + 6) (foC μ (74 + 11 * p) day f) := by
  have hf := sa_firms hS ⟨p, h0, by omega, rfl⟩
  rcases fw_FW (F := μ (74 + 11 * p + 5)) (T := μ (74 + 11 * p + 6)) (D := μ (74 + 11 * p + 8)) (f := f) (day := day) hf.2 with z | z
  · have z1 : foC μ (74 + 11 * p) day f = -1 := z.1
    omega
  · exact ⟨z.2.1, z.2.2.1.1, z.2.2.1.2.1, z.2.2.1.2.2⟩
theorem fo_iff (hS : Safe μ) (hR : RSpan μ) {p f day i : Int} (h0 : 0 ≤ p) (h1 : p ≤ 5) (hi : 0 ≤ i) (hn : i < μ (74 + 11 * p) 10) (hd : μ (74 + 11 * p + 8) i ≤ day) : foC μ (74 + 11 * p) day f = i ↔ (μ (74 + 11 * p + 5) i ≤ f ∧ f ≤ μ (74 + 11 * p + 6) i) := by
  have hf := sa_firms hS ⟨p, h0, by omega, rfl⟩
  have ap := (hR p h0 h1).2
  constructor
  · intro e
    have z := fo_hit hS h0 h1 (f := f) (day := day) (by omega)
    rw [e] at z
    exact z.2.2
  · intro e
    rcases fw_FW (F := μ (74 + 11 * p + 5)) (T := μ (74 + 11 * p + 6)) (D := μ (74 + 11 * p + 8)) (f := f) (day := day) hf.2 with z | z
    · exact absurd ⟨hd, e⟩ (z.2 i hi hn)
    · have z0 : 0 ≤ foC μ (74 + 11 * p) day f := z.1
      have zh := fo_hit hS h0 h1 z0
      rcases Int.lt_trichotomy (foC μ (74 + 11 * p) day f) i with q | q | q
      · have := ap _ i z0 q hn
        omega
      · exact q
      · have := ap i _ hi q zh.1
        omega
theorem fo_no (hS : Safe μ) {p f day i : Int} (h0 : 0 ≤ p) (h1 : p ≤ 5) (hi : 0 ≤ i) (hn : ¬ (i < μ (74 + 11 * p) 10 ∧ μ (74 + 11 * p + 8) i ≤ day)) : ¬ foC μ (74 + 11 * p) day f = i := fun e => by
  have z := fo_hit hS h0 h1 (f := f) (day := day) (by omega)
  rw [e] at z
  exact hn ⟨z.1, z.2.1⟩
theorem NC_nf (hS : Safe μ) (hR : RSpan μ) {p day i : Int} (h0 : 0 ≤ p) (h1 : p ≤ 5) (hi : 0 ≤ i) : NC μ (74 + 11 * p) day i = nf (foC μ (74 + 11 * p) day) i := by
  unfold NC nf
  by_cases q : i < μ (74 + 11 * p) 10 ∧ μ (74 + 11 * p + 8) i ≤ day
  · have r := ((hR p h0 h1).1 i hi q.1).1
    rw [if_pos q, smF_cg (g' := fun f => if μ (74 + 11 * p + 5) i ≤ f ∧ f ≤ μ (74 + 11 * p + 6) i then 1 else 0) 10 (fun f _ _ => ?_), smF_in (x := fun _ => 1) r.1 r.2.1 r.2.2, smF_one]
    · omega
    · have z := fo_iff hS hR (f := f) h0 h1 hi q.1 q.2
      by_cases y : foC μ (74 + 11 * p) day f = i
      · rw [if_pos y, if_pos (z.mp y)]
      · rw [if_neg y, if_neg (fun x => y (z.mpr x))]
  · rw [if_neg q]
    exact (smF_0 _ (fun f _ _ => if_neg (fo_no hS h0 h1 hi q))).symm
theorem FE_day (hS : Safe μ) (hR : RSpan μ) (hC' : RCan μ) {p day : Int} (h0 : 0 ≤ p) (h1 : p ≤ 5) (hd : day ≤ 200) : FE (foC μ (74 + 11 * p) day) (SxC μ (74 + 11 * p) day) (hC μ (74 + 11 * p) day) := fun i hi hi2 => by
  by_cases q : i < μ (74 + 11 * p) 10 ∧ μ (74 + 11 * p + 8) i ≤ day
  · have q2 : i < μ (74 + 11 * p) 10 ∧ μ (74 + 11 * p + 8) i ≤ 200 := ⟨q.1, by omega⟩
    have fe := (hC' p h0 h1).1 i hi hi2
    have e1 : SxC μ (74 + 11 * p) day i = SxC μ (74 + 11 * p) 200 i := by
      unfold SxC
      rw [if_pos q, if_pos q2]
    have eq : ∀ f, foC μ (74 + 11 * p) day f = i ↔ foC μ (74 + 11 * p) 200 f = i := fun f => (fo_iff hS hR h0 h1 hi q.1 q.2).trans (fo_iff hS hR h0 h1 hi q2.1 q2.2).symm
    have hh : ∀ f, foC μ (74 + 11 * p) day f = i → hC μ (74 + 11 * p) day f = hC μ (74 + 11 * p) 200 f ∨ (hC μ (74 + 11 * p) day f = -9 ∧ 0 ≤ hC μ (74 + 11 * p) 200 f ∧ hC μ (74 + 11 * p) 200 f ≤ 20) := fun f e => by
      have e2 := (eq f).mp e
      have sp := sa_sp hS ⟨p, h0, by omega, rfl⟩ f
      unfold hC
      rw [e, e2]
      by_cases z : 0 ≤ i ∧ 0 ≤ μ (74 + 11 * p + 3) f ∧ μ (74 + 11 * p + 4) f ≤ day
      · rw [if_pos z, if_pos ⟨z.1, z.2.1, by omega⟩]
        exact Or.inl rfl
      · rw [if_neg z]
        by_cases z2 : 0 ≤ i ∧ 0 ≤ μ (74 + 11 * p + 3) f ∧ μ (74 + 11 * p + 4) f ≤ 200
        · rw [if_pos z2]
          exact Or.inr ⟨rfl, z2.2.1, sp.2⟩
        · rw [if_neg z2]
          exact Or.inl rfl
    have l1 : sh (foC μ (74 + 11 * p) day) (hC μ (74 + 11 * p) day) i ≤ sh (foC μ (74 + 11 * p) 200) (hC μ (74 + 11 * p) 200) i := smF_le _ (fun f k1 k2 => by
      by_cases y : foC μ (74 + 11 * p) day f = i
      · have y2 := (eq f).mp y
        rcases hh f y with z | ⟨z1, z2, z3⟩
        · rw [z, y, y2]
          exact Int.le_refl _
        · rw [if_neg (fun x => x.2 z1), if_pos ⟨y2, by omega⟩]
          exact z2
      · rw [if_neg (fun x => y x.1), if_neg (fun x => y ((eq f).mpr x.1))]
        exact Int.le_refl _)
    have l2 : us (foC μ (74 + 11 * p) 200) (hC μ (74 + 11 * p) 200) i ≤ us (foC μ (74 + 11 * p) day) (hC μ (74 + 11 * p) day) i := smF_le _ (fun f k1 k2 => by
      by_cases y : foC μ (74 + 11 * p) day f = i
      · have y2 := (eq f).mp y
        rw [if_pos y, if_pos y2]
        rcases hh f y with z | ⟨z1, z2, z3⟩
        · rw [z]
          exact Int.le_refl _
        · rw [if_pos z1, if_neg (by omega)]
          exact z3
      · rw [if_neg y, if_neg (fun x => y ((eq f).mpr x))]
        exact Int.le_refl _)
    rw [us_eq, us_eq] at l2
    rw [e1]
    omega
  · have n := no_i (h := hC μ (74 + 11 * p) day) (du := fun x => x) (told := fun x => x) (fun f _ _ => fo_no hS (f := f) h0 h1 hi q)
    have e1 : SxC μ (74 + 11 * p) day i = 0 := by
      unfold SxC
      rw [if_neg q]
    rw [n.1, n.2.1, e1]
    exact ⟨by decide, by decide⟩
theorem okP_of (hP : RPay μ) (hR : RSpan μ) {p : Int} (h0 : 0 ≤ p) (h1 : p ≤ 5) : okP μ (74 + 11 * p) := by
  refine ⟨fun f q1 q2 => ?_, fun i q1 q2 => ?_⟩
  · have z := hP p f 0 h0 h1 q1 q2 (by decide) (by decide)
    rw [Int.add_zero, Int.add_zero] at z
    omega
  · have z := (hR p h0 h1).1 i q1 q2
    exact ⟨z.1, z.2.1.1, by omega⟩
/-! the reference's, under the relation -/
theorem foM_C (hF : RFirm μ) {p day : Int} (h0 : 0 ≤ p) (h1 : p ≤ 5) : foM μ p day = foC μ (74 + 11 * p) day := by
  funext f
  exact (RFirm_fw hF h0 h1).symm
theorem SxM_C (hF : RFirm μ) {p day i : Int} (h0 : 0 ≤ p) (h1 : p ≤ 5) (hi : 0 ≤ i) (hi2 : i ≤ 2) : SxM μ p day i = SxC μ (74 + 11 * p) day i := by
  have z := hF p h0 h1
  have y := z.2 i hi hi2
  unfold SxM SxC
  rw [z.1, y.2.2.1, y.2.2.2]
theorem hM_C (hF : RFirm μ) (hL : RSlip μ) {p day f : Int} (h0 : 0 ≤ p) (h1 : p ≤ 5) (h2 : 0 ≤ f) (h3 : f ≤ 9) (hS : Safe μ) : hM μ p day f = hC μ (74 + 11 * p) day f := by
  have z := hL p f h0 h1 h2 h3
  have e : mfw μ p f day = foC μ (74 + 11 * p) day f := (RFirm_fw hF h0 h1).symm
  have r := fo_r hS (f := f) (day := day) h0 h1
  unfold hM hC
  rw [e, ← z.2.1]
  rcases z.1 with ⟨y1, y2⟩ | ⟨y1, y2, y3⟩
  · rw [y1, y2, if_neg (fun x => x.1 rfl), if_neg (fun x => absurd x.2.1 (by decide))]
  · rw [y3]
    by_cases q : 0 ≤ foC μ (74 + 11 * p) day f ∧ μ (74 + 11 * p + 4) f ≤ day
    · rw [if_pos ⟨by omega, q.2, by omega⟩, if_pos ⟨q.1, y1, q.2⟩]
    · rw [if_neg (fun x => q ⟨by omega, x.2.1⟩), if_neg (fun x => q ⟨x.1, x.2.2⟩)]
theorem duM_C (hS : Safe μ) (hR : RRules μ) (day : Int) : duM μ day = duC μ day := by
  funext p
  obtain ⟨r1, r2, r3⟩ := hR
  have hz := sa_bsz hS
  have e1 : lfn (μ 172) day (μ 170 4).toNat = rD μ day := by
    unfold rD
    rw [← r1]
    exact lfn_cg _ (fun i q1 q2 => by
      have := r2 0 i (by decide) (by decide) q1 (by omega)
      exact this.symm)
  have r := rD_r hS day
  unfold duM duC
  rw [e1]
  unfold dueB
  by_cases q : rD μ day < 0
  · rw [if_pos q, if_pos q]
  · rw [if_neg q, if_neg q]
    have b : ∀ c, 1 ≤ c → c ≤ 4 → bM μ c (rD μ day) = bC μ c (rD μ day) := fun c k1 k2 => (r2 c (rD μ day) (by omega) k2 (by omega) r.2).symm
    rw [b 1 (by decide) (by decide), b 2 (by decide) (by decide), b 3 (by decide) (by decide), b 4 (by decide) (by decide)]
theorem okR_of (hR : RRules μ) : okR μ := fun i q1 q2 => by
  obtain ⟨r1, r2, r3⟩ := hR
  have z := r3 i q1 (by omega)
  have b : ∀ c, 0 ≤ c → c ≤ 4 → bM μ c i = bC μ c i := fun c k1 k2 => (r2 c i k1 k2 q1 (by omega)).symm
  unfold RGf
  rw [b 0 (by decide) (by decide), b 1 (by decide) (by decide), b 2 (by decide) (by decide), b 3 (by decide) (by decide), b 4 (by decide) (by decide)]
  exact z
theorem okS_of (hS : Safe μ) (hF : RFirm μ) (hR : RSpan μ) {p day : Int} (h0 : 0 ≤ p) (h1 : p ≤ 5) : okS μ p day := fun i q1 q2 q3 => by
  have hf := sa_firms hS ⟨p, h0, by omega, rfl⟩
  have z := hF p h0 h1
  rw [← z.1] at q2
  have y := z.2 i q1 (by omega)
  rw [← y.2.2.2] at q3
  rw [← y.1, ← y.2.1, foM_C hF h0 h1]
  exact ⟨((hR p h0 h1).1 i q1 q2).1, fun f _ _ => fo_iff hS hR h0 h1 q1 q2 q3⟩
theorem tM_C (hP : RPay μ) {p f : Int} (h0 : 0 ≤ p) (h1 : p ≤ 5) (h2 : 0 ≤ f) (h3 : f ≤ 9) : μ (74 + 11 * p + 1) f = μ 177 (10 * p + f) ∧ 0 ≤ μ 177 (10 * p + f) ∧ μ 177 (10 * p + f) ≤ 20 := by
  have z := hP p f 0 h0 h1 h2 h3 (by decide) (by decide)
  rw [Int.add_zero, Int.add_zero] at z
  exact z
end SP
/-! sums of equal things -/
theorem sh_cg {fo fo' h h' : Int → Int} {i : Int} (k1 : ∀ f, 0 ≤ f → f ≤ 9 → fo f = fo' f) (k2 : ∀ f, 0 ≤ f → f ≤ 9 → h f = h' f) : sh fo h i = sh fo' h' i ∧ nl fo h i = nl fo' h' i := ⟨smF_cg _ (fun f z1 z2 => by rw [k1 f z1 (by omega), k2 f z1 (by omega)]), smF_cg _ (fun f z1 z2 => by rw [k1 f z1 (by omega), k2 f z1 (by omega)])⟩
theorem FE_cg {fo fo' Sx Sx' h h' : Int → Int} (fe : FE fo Sx h) (k1 : ∀ f, 0 ≤ f → f ≤ 9 → fo f = fo' f) (k2 : ∀ f, 0 ≤ f → f ≤ 9 → h f = h' f) (k3 : ∀ i, 0 ≤ i → i ≤ 2 → Sx i = Sx' i) : FE fo' Sx' h' := fun i q1 q2 => by
  have z := sh_cg (i := i) k1 k2
  rw [← z.1, ← z.2, ← k3 i q1 q2]
  exact fe i q1 q2
theorem pw_cg {w w' : Int → Int} : ∀ k : Nat, (∀ i : Int, 0 ≤ i → i < k → w i = w' i) → pw w k = pw w' k
  | 0, _ => rfl
  | k + 1, h => by
    rw [pw, pw, pw_cg k (fun i q1 q2 => h i q1 (by omega)), h k (by omega) (by omega)]
theorem WY_cg {fo fo' Sx Sx' h h' : Int → Int} (k1 : ∀ f, 0 ≤ f → f ≤ 9 → fo f = fo' f) (k2 : ∀ f, 0 ≤ f → f ≤ 9 → h f = h' f) (k3 : ∀ i, 0 ≤ i → i ≤ 2 → Sx i = Sx' i) : WY fo Sx h = WY fo' Sx' h' := pw_cg 3 (fun i q1 q2 => by
  have z := sh_cg (i := i) k1 k2
  rw [z.1, z.2, k3 i q1 (by omega)])
theorem mxS_cg {fo fo' Sx Sx' du h h' : Int → Int} (k1 : ∀ f, 0 ≤ f → f ≤ 9 → fo f = fo' f) (k2 : ∀ f, 0 ≤ f → f ≤ 9 → h f = h' f) (k3 : ∀ i, 0 ≤ i → i ≤ 2 → Sx i = Sx' i) : mxS fo Sx du h = mxS fo' Sx' du h' ∧ mnS fo Sx du h = mnS fo' Sx' du h' := ⟨smF_cg _ (fun i q1 q2 => by
  have z := sh_cg (i := i) k1 k2
  rw [z.1, z.2, k3 i q1 (by omega)]), smF_cg _ (fun i q1 q2 => by
  have z := sh_cg (i := i) k1 k2
  rw [z.1, z.2, k3 i q1 (by omega)])⟩
theorem sd_cg {fo fo' du h h' : Int → Int} (k1 : ∀ f, 0 ≤ f → f ≤ 9 → fo f = fo' f) (k2 : ∀ f, 0 ≤ f → f ≤ 9 → h f = h' f) : sd fo du h = sd fo' du h' := smF_cg _ (fun f z1 z2 => by rw [k1 f z1 (by omega), k2 f z1 (by omega)])
theorem pd_cg {fo fo' du told told' : Int → Int} (k1 : ∀ f, 0 ≤ f → f ≤ 9 → fo f = fo' f) (k2 : ∀ f, 0 ≤ f → f ≤ 9 → told f = told' f) : pd fo du told = pd fo' du told' := smF_cg _ (fun f z1 z2 => by rw [k1 f z1 (by omega), k2 f z1 (by omega)])
theorem LE_cg {fo fo' Sx Sx' du told told' h h' : Int → Int} (k1 : ∀ f, 0 ≤ f → f ≤ 9 → fo f = fo' f) (k2 : ∀ f, 0 ≤ f → f ≤ 9 → h f = h' f) (k3 : ∀ i, 0 ≤ i → i ≤ 2 → Sx i = Sx' i) (k4 : ∀ f, 0 ≤ f → f ≤ 9 → told f = told' f) : LE fo Sx du told h = LE fo' Sx' du told' h' ∧ MO fo Sx du told h = MO fo' Sx' du told' h' := by
  unfold LE MO
  rw [pd_cg k1 k4, sd_cg k1 k2, (mxS_cg k1 k2 k3).1, (mxS_cg k1 k2 k3).2]
  exact ⟨rfl, rfl⟩
