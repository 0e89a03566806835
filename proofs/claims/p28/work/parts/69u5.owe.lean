/-! THE VIEW: ways, least and most -/
def FE (fo Sx h : Int → Int) : Prop := ∀ i, 0 ≤ i → i ≤ 2 → 0 ≤ Sx i - sh fo h i ∧ Sx i - sh fo h i ≤ 20 * nl fo h i
def mxS (fo Sx du h : Int → Int) : Int := smF (fun i => mxD du (nl fo h i).toNat (Sx i - sh fo h i)) 0 3
def mnS (fo Sx du h : Int → Int) : Int := smF (fun i => mnD du (nl fo h i).toNat (Sx i - sh fo h i)) 0 3
def LE (fo Sx du told h : Int → Int) : Int := qmax 0 (pd fo du told - (sd fo du h + mxS fo Sx du h))
def MO (fo Sx du told h : Int → Int) : Int := qmax 0 (pd fo du told - (sd fo du h + mnS fo Sx du h))
def pw (w : Int → Int) : Nat → Int
  | 0 => 1
  | k + 1 => pw w k * w k % 1000000007
def WY (fo Sx h : Int → Int) : Int := pw (fun i => Wm (nl fo h i).toNat (Sx i - sh fo h i)) 3
theorem pw_r (w : Int → Int) (k : Nat) : 0 ≤ pw w k ∧ pw w k < 1000000007 := by
  cases k with
  | zero =>
    rw [pw]
    omega
  | succ k =>
    rw [pw]
    omega
theorem mxS_r {fo Sx du h : Int → Int} (hd : okD du) (fe : FE fo Sx h) : 0 ≤ mxS fo Sx du h ∧ mxS fo Sx du h ≤ 2970 := by
  have := smF_r (g := fun i => mxD du (nl fo h i).toNat (Sx i - sh fo h i)) (lo := 0) (B := 990) 3 (fun i q1 q2 => by
    have f := fe i q1 (by omega)
    have n := nl_r (fo := fo) (h := h) (i := i)
    have := mxD_r hd (nl fo h i).toNat (Sx i - sh fo h i) f.1 (by omega)
    omega)
  unfold mxS
  omega
theorem mnS_r {fo Sx du h : Int → Int} (hd : okD du) (fe : FE fo Sx h) : 0 ≤ mnS fo Sx du h ∧ mnS fo Sx du h ≤ 2970 := by
  have := smF_r (g := fun i => mnD du (nl fo h i).toNat (Sx i - sh fo h i)) (lo := 0) (B := 990) 3 (fun i q1 q2 => by
    have f := fe i q1 (by omega)
    have n := nl_r (fo := fo) (h := h) (i := i)
    have := mnD_r hd (nl fo h i).toNat (Sx i - sh fo h i) f.1 (by omega)
    omega)
  unfold mnS
  omega
theorem LE_r {fo Sx du told h : Int → Int} (hh : okH h) (hd : okD du) (ht : ∀ f, 0 ≤ f → f ≤ 9 → 0 ≤ told f ∧ told f ≤ 20) (fe : FE fo Sx h) : 0 ≤ LE fo Sx du told h ∧ LE fo Sx du told h ≤ 990 := by
  have a := mxS_r hd fe
  have b := sd_r (fo := fo) hh hd
  have c := pd_r (fo := fo) ht hd
  unfold LE qmax
  split <;> omega
theorem MO_r {fo Sx du told h : Int → Int} (hh : okH h) (hd : okD du) (ht : ∀ f, 0 ≤ f → f ≤ 9 → 0 ≤ told f ∧ told f ≤ 20) (fe : FE fo Sx h) : 0 ≤ MO fo Sx du told h ∧ MO fo Sx du told h ≤ 990 := by
  have a := mnS_r hd fe
  have b := sd_r (fo := fo) hh hd
  have c := pd_r (fo := fo) ht hd
  unfold MO qmax
  split <;> omega
/-- what the tables and the view must hold for least and most -/
def RD (μ : qM) (fo Sx N du told h : Int → Int) : Prop := VW μ fo Sx N du told h ∧ (∀ i, 0 ≤ i → i ≤ 2 → N i = nf fo i) ∧ TD μ ∧ (∀ p, 0 ≤ p → p ≤ 20 → μ 17 p = du p) ∧ (∀ i, 0 ≤ i → i ≤ 2 → nl fo h i < μ 16 5)
theorem RD_d {μ : qM} {fo Sx N du told h : Int → Int} (v : RD μ fo Sx N du told h) : okD du := fun p q1 q2 => by
  rw [← v.2.2.2.1 p q1 q2]
  exact v.2.2.1.1 p q1 q2
theorem RD_i {μ : qM} {fo Sx N du told h : Int → Int} (v : RD μ fo Sx N du told h) {i : Int} (q1 : 0 ≤ i) (q2 : i ≤ 2) : μ 55 i = Sx i - sh fo h i ∧ μ 56 i = nl fo h i := by
  have w := v.1.1 i q1 q2
  rw [v.2.1 i q1 q2, nl_ns] at w
  exact w
theorem x10 {d : Nat} {Q : qV → qM → Prop} {μ : qM} {fo Sx N du told h : Int → Int} (hS : Safe μ) (v : RD μ fo Sx N du told h) (fe : FE fo Sx h) (hh : okH h) (ht : ∀ f, 0 ≤ f → f ≤ 9 → 0 ≤ told f ∧ told f ≤ 20) (hQ : Q (.inl (LE fo Sx du told h)) μ) : qmw (d + 3) 10 [(.inr (.inr (.inl (15))))] μ Q := by
  have hd := RD_d v
  have hdr := sa_dr hS
  have a := mxS_r hd fe
  have b := sd_r (fo := fo) hh hd
  have c := pd_r (fo := fo) ht hd
  rw [e10, g10_0]
  refine qup 3 (P := fun i => ∀ x, 0 ≤ i → x = sd fo du h + smF (fun i => mxD du (nl fo h i).toNat (Sx i - sh fo h i)) 0 i.toNat → qW (d + 2) 10 Q 7 [some (.inr (.inr (.inl (15)))), some (.inl (x)), some (.inl (i))] [] μ) (fun i ih hB x h0 ex => ?_) 0 (by omega) _ (by omega) (by rw [v.1.2.2.1]; show sd fo du h = sd fo du h + 0; omega)
  rw [g10_7]
  refine ⟨fun q => ?_, fun q => ⟨by omega, by omega, ?_⟩⟩
  · have i3 : i = 3 := by omega
    subst i3
    have ex : x = sd fo du h + mxS fo Sx du h := ex
    rw [v.1.2.1, ex, q32_id (by omega) (by omega)]
    exact hQ
  · have w := RD_i v h0 (by omega)
    have f := fe i h0 (by omega)
    have n := nl_r (fo := fo) (h := h) (i := i)
    rw [w.1, w.2]
    refine x69 (v.2.2.2.2 i h0 (by omega)) hdr.2 n.1 f.1 f.2 v.2.2.1 ?_
    rw [mxD_cg v.2.2.2.1 _ _ f.1 (by omega), g10_32, q32_id (z := i + 1) (by omega) (by omega)]
    have m := mxD_r hd (nl fo h i).toNat (Sx i - sh fo h i) f.1 (by omega)
    have sm := smF_r (g := fun i => mxD du (nl fo h i).toNat (Sx i - sh fo h i)) (lo := 0) (B := 990) i.toNat (fun i' q1 q2 => by
      have f := fe i' q1 (by omega)
      have n := nl_r (fo := fo) (h := h) (i := i')
      have := mxD_r hd (nl fo h i').toNat (Sx i' - sh fo h i') f.1 (by omega)
      omega)
    rw [q32_id (z := x + mxD du (nl fo h i).toNat (Sx i - sh fo h i)) (by omega) (by omega)]
    refine ih _ (by omega) (by omega) _ (by omega) ?_
    rw [show (i + 1).toNat = i.toNat + 1 by omega, smF, ex, show (0 : Int) + ((i.toNat : Nat) : Int) = i by omega]
    omega
theorem x11 {d : Nat} {Q : qV → qM → Prop} {μ : qM} {fo Sx N du told h : Int → Int} (hS : Safe μ) (v : RD μ fo Sx N du told h) (fe : FE fo Sx h) (hh : okH h) (ht : ∀ f, 0 ≤ f → f ≤ 9 → 0 ≤ told f ∧ told f ≤ 20) (hQ : Q (.inl (MO fo Sx du told h)) μ) : qmw (d + 3) 11 [(.inr (.inr (.inl (15))))] μ Q := by
  have hd := RD_d v
  have hdr := sa_dr hS
  have a := mnS_r hd fe
  have b := sd_r (fo := fo) hh hd
  have c := pd_r (fo := fo) ht hd
  rw [e11, g11_0]
  refine qup 3 (P := fun i => ∀ x, 0 ≤ i → x = sd fo du h + smF (fun i => mnD du (nl fo h i).toNat (Sx i - sh fo h i)) 0 i.toNat → qW (d + 2) 11 Q 7 [some (.inr (.inr (.inl (15)))), some (.inl (x)), some (.inl (i))] [] μ) (fun i ih hB x h0 ex => ?_) 0 (by omega) _ (by omega) (by rw [v.1.2.2.1]; show sd fo du h = sd fo du h + 0; omega)
  rw [g11_7]
  refine ⟨fun q => ?_, fun q => ⟨by omega, by omega, ?_⟩⟩
  · have i3 : i = 3 := by omega
    subst i3
    have ex : x = sd fo du h + mnS fo Sx du h := ex
    rw [v.1.2.1, ex, q32_id (by omega) (by omega)]
    exact hQ
  · have w := RD_i v h0 (by omega)
    have f := fe i h0 (by omega)
    have n := nl_r (fo := fo) (h := h) (i := i)
    rw [w.1, w.2]
    refine x68 (v.2.2.2.2 i h0 (by omega)) hdr.2 n.1 f.1 f.2 v.2.2.1 ?_
    rw [mnD_cg v.2.2.2.1 _ _ f.1 (by omega), g11_32, q32_id (z := i + 1) (by omega) (by omega)]
    have m := mnD_r hd (nl fo h i).toNat (Sx i - sh fo h i) f.1 (by omega)
    have sm := smF_r (g := fun i => mnD du (nl fo h i).toNat (Sx i - sh fo h i)) (lo := 0) (B := 990) i.toNat (fun i' q1 q2 => by
      have f := fe i' q1 (by omega)
      have n := nl_r (fo := fo) (h := h) (i := i')
      have := mnD_r hd (nl fo h i').toNat (Sx i' - sh fo h i') f.1 (by omega)
      omega)
    rw [q32_id (z := x + mnD du (nl fo h i).toNat (Sx i - sh fo h i)) (by omega) (by omega)]
    refine ih _ (by omega) (by omega) _ (by omega) ?_
    rw [show (i + 1).toNat = i.toNat + 1 by omega, smF, ex, show (0 : Int) + ((i.toNat : Nat) : Int) = i by omega]
    omega
theorem x12 {d : Nat} {Q : qV → qM → Prop} {μ : qM} {fo Sx N du told h : Int → Int} (hS : Safe μ) (v : RD μ fo Sx N du told h) (fe : FE fo Sx h) (hh : okH h) (ht : ∀ f, 0 ≤ f → f ≤ 9 → 0 ≤ told f ∧ told f ≤ 20) (hQ : Q (.inl (MO fo Sx du told h - LE fo Sx du told h)) μ) : qmw (d + 4) 12 [(.inr (.inr (.inl (15))))] μ Q := by
  have a := LE_r (told := told) hh (RD_d v) ht fe
  have b := MO_r (told := told) hh (RD_d v) ht fe
  rw [e12, g12_0]
  refine x11 hS v fe hh ht ?_
  rw [g12_4]
  refine x10 hS v fe hh ht ?_
  rw [g12_8, q32_id (by omega) (by omega)]
  exact hQ
theorem x8 {d : Nat} {Q : qV → qM → Prop} {μ : qM} (hn : ∀ i, 0 ≤ i → i ≤ 2 → 0 ≤ μ 56 i ∧ μ 56 i ≤ 10) (hQ : ∀ m, 0 ≤ m → m ≤ 10 → (∀ i, 0 ≤ i → i ≤ 2 → μ 56 i ≤ m) → Q (.inl m) μ) : qmw (d + 1) 8 [(.inr (.inr (.inl (15))))] μ Q := by
  rw [e8, g8_0]
  refine qup 3 (P := fun i => ∀ m, 0 ≤ i → 0 ≤ m → m ≤ 10 → (∀ k, 0 ≤ k → k < i → μ 56 k ≤ m) → qW d 8 Q 4 [some (.inr (.inr (.inl (15)))), some (.inl (m)), some (.inl (i))] [] μ) (fun i ih hB m h0 h1 h2 hk => ?_) 0 (by omega) 0 (by omega) (by omega) (by omega) (fun k q1 q2 => by omega)
  rw [g8_4]
  refine ⟨fun q => hQ m h1 h2 (fun k q1 q2 => hk k q1 (by omega)), fun q => ⟨by omega, ?_⟩⟩
  have hi := hn i h0 (by omega)
  have z := qmax_le (a := m) (b := μ 56 i)
  rw [q32_id (by omega) (by omega)]
  refine ih _ (by omega) (by omega) _ (by omega) (by omega) (by omega) (fun k q1 q2 => ?_)
  by_cases e : k = i
  · rw [e]
    exact z.2.1
  · have := hk k q1 (by omega)
    omega
theorem TU_fr {μ μ' : qM} {r : Int} (hS : Safe μ) (h : TU μ r) (k : ∀ c i, (9 ≤ c ∧ c ≤ 53 ∧ ¬ c = 15) → μ' c i = μ c i) : TU μ' r := by
  obtain ⟨h1, h2, h3, h4, h5, h6⟩ := h
  have e17 : μ' 17 = μ 17 := by
    funext i
    exact k _ _ (by omega)
  have dE : ∀ p, dueB (bC μ') r p = dueB (bC μ) r p := fun p => by
    have bE : ∀ c j, 0 ≤ c → c ≤ 4 → bC μ' c j = bC μ c j := fun c j k1 k2 => k _ _ (by omega)
    unfold dueB
    rw [bE 1 _ (by decide) (by decide), bE 2 _ (by decide) (by decide), bE 3 _ (by decide) (by decide), bE 4 _ (by decide) (by decide)]
  refine ⟨fun j q1 s q2 q3 => ?_, ⟨?_, ?_⟩, ?_, fun p q1 q2 => ?_, ?_, fun j q1 s q2 q3 => ?_⟩
  · rw [k 16 6 (by omega)] at q1
    have h9 := sa_wr hS
    rw [k _ _ (by omega)]
    exact h1 j q1 s q2 q3
  · rw [k _ _ (by omega)]
    exact h2.1
  · rw [k _ _ (by omega)]
    exact h2.2
  · rw [k _ _ (by omega)]
    exact h3
  · rw [e17, dE]
    exact h4 p q1 q2
  · rw [e17]
    exact h5
  · rw [k 16 5 (by omega)] at q1
    have h9 := sa_dr hS
    rw [e17, k _ _ (by omega), k _ _ (by omega)]
    exact h6 j q1 s q2 q3
theorem TU_tab {μ : qM} {r : Int} (h : TU μ r) (h1 : -1 ≤ r) (h2 : r < μ 9 5) : RTab μ := by
  obtain ⟨k1, k2, k3, k4, k5⟩ := h
  exact ⟨k1, k2, Or.inr ⟨by omega, by omega, by rw [k3]; exact k4, k5⟩⟩
theorem x9 {μ0 : qM} {d : Nat} {Q : qV → qM → Prop} {μ : qM} {fo Sx N du told h : Int → Int} {r : Int} (hm : Sv μ0 μ) (v : VW μ fo Sx N du told h) (hN : ∀ i, 0 ≤ i → i ≤ 2 → N i = nf fo i) (fe : FE fo Sx h) (hT : TU μ r) (hQ : ∀ μ', Sv μ0 μ' → (∀ c i, ¬ (c = 16 ∧ i = 6) → ¬ (43 ≤ c ∧ c ≤ 53) → μ' c i = μ c i) → TU μ' r → Q (.inl (WY fo Sx h)) μ') : qmw (d + 4) 9 [(.inr (.inr (.inl (15))))] μ Q := by
  have w : ∀ i, 0 ≤ i → i ≤ 2 → μ 55 i = Sx i - sh fo h i ∧ μ 56 i = nl fo h i := fun i q1 q2 => by
    have w := v.1 i q1 q2
    rw [hN i q1 q2, nl_ns] at w
    exact w
  rw [e9, g9_0]
  refine x8 (fun i q1 q2 => by rw [(w i q1 q2).2]; exact nl_r) (fun m m0 m1 mm => ?_)
  rw [g9_8]
  refine x67 m1 hm hT.1 (fun μ' s1 s2 s3 s4 => ?_)
  have hwr := sa_wr s1.1
  have e17 : μ' 17 = μ 17 := by
    funext i
    exact s2 _ _ (by omega) (by omega)
  have tu : TU μ' r := by
    obtain ⟨t1, t2, t3, t4, t5, t6⟩ := hT
    have dE : ∀ p, dueB (bC μ') r p = dueB (bC μ) r p := fun p => by
      have bE : ∀ c j, 0 ≤ c → c ≤ 4 → bC μ' c j = bC μ c j := fun c j k1 k2 => s2 _ _ (by omega) (by omega)
      unfold dueB
      rw [bE 1 _ (by decide) (by decide), bE 2 _ (by decide) (by decide), bE 3 _ (by decide) (by decide), bE 4 _ (by decide) (by decide)]
    have hdr := sa_dr hm.1
    refine ⟨s3, ⟨?_, ?_⟩, ?_, fun p q1 q2 => ?_, ?_, fun j q1 s q2 q3 => ?_⟩
    · rw [s2 _ _ (by omega) (by omega)]
      exact t2.1
    · rw [s2 _ _ (by omega) (by omega)]
      exact t2.2
    · rw [s2 _ _ (by omega) (by omega)]
      exact t3
    · rw [e17, dE]
      exact t4 p q1 q2
    · rw [e17]
      exact t5
    · rw [s2 16 5 (by omega) (by omega)] at q1
      rw [e17, s2 _ _ (by omega) (by omega), s2 _ _ (by omega) (by omega)]
      exact t6 j q1 s q2 q3
  have Y := hQ _ s1 s2 tu
  clear hQ
  rw [g9_11]
  refine qup 3 (P := fun i => ∀ x, 0 ≤ i → x = pw (fun i => Wm (nl fo h i).toNat (Sx i - sh fo h i)) i.toNat → qW (d + 3) 9 Q 15 [some (.inr (.inr (.inl (15)))), some (.inr (.inl (x))), none, some (.inl (i))] [] μ') (fun i ih hB x h0 ex => ?_) 0 (by omega) _ (by omega) rfl
  have hx := pw_r (fun i => Wm (nl fo h i).toNat (Sx i - sh fo h i)) i.toNat
  rw [← ex] at hx
  rw [g9_15]
  refine ⟨fun q => ?_, fun q => ⟨by omega, by omega, ?_⟩⟩
  · have i3 : i = 3 := by omega
    subst i3
    have ex : x = WY fo Sx h := ex
    rw [q32_id (by omega) (by omega), ex]
    exact Y
  · have wi := w i h0 (by omega)
    have f := fe i h0 (by omega)
    have n := nl_r (fo := fo) (h := h) (i := i)
    have mi := mm i h0 (by omega)
    rw [s2 55 i (by omega) (by omega), s2 56 i (by omega) (by omega), wi.1, wi.2]
    rw [wi.2] at mi
    refine x70 (by omega) hwr.2 n.1 f.1 f.2 s3 ?_
    have hW := Wm_r (nl fo h i).toNat (Sx i - sh fo h i)
    have hp : 0 ≤ x * Wm (nl fo h i).toNat (Sx i - sh fo h i) := Int.mul_nonneg hx.1 hW.1
    have hp2 : x * Wm (nl fo h i).toNat (Sx i - sh fo h i) ≤ 1000000007 * 1000000007 := Int.mul_le_mul (by omega) (by omega) hW.1 (by decide)
    rw [g9_40, q32_id (z := i + 1) (by omega) (by omega), q64_id (by omega) (by omega), qlrem_p hp (by omega) (by decide) (by decide)]
    refine ⟨by decide, ih _ (by omega) (by omega) _ (by omega) ?_⟩
    rw [show (i + 1).toNat = i.toNat + 1 by omega, pw, ← ex, show ((i.toNat : Nat) : Int) = i by omega]
/-- the rule as of a day -/
def rD (μ : qM) (day : Int) : Int := lfn (μ 10) day (μ 9 5).toNat
def duC (μ : qM) (day : Int) : Int → Int := fun p => dueB (bC μ) (rD μ day) p
theorem rD_r {μ : qM} (hS : Safe μ) (day : Int) : -1 ≤ rD μ day ∧ rD μ day < μ 9 5 := by
  have h := lfn_r (μ 10) day (μ 9 5).toNat
  have hz := sa_bsz hS
  unfold rD
  omega
/-- what lookAt leaves -/
def LK (μ μ' : qM) (c day : Int) : Prop := Sv μ μ' ∧ TU μ' (rD μ day) ∧ (∀ f, 0 ≤ f → f ≤ 9 → μ' 54 f = foC μ c day f) ∧ VW μ' (foC μ c day) (SxC μ c day) (NC μ c day) (duC μ day) (μ (c + 1)) (hC μ c day)
theorem okD_C {μ : qM} (hS : Safe μ) (hb : ∀ i, 0 ≤ i → i < μ 9 5 → RGf (bC μ) i) (day : Int) : okD (duC μ day) := fun p q1 q2 => dueB_r (fun q => hb _ q (rD_r hS day).2) q1 (by omega)
theorem x108 {d : Nat} {Q : qV → qM → Prop} {μ : qM} {a1 a2 : Int} (hS : Safe μ) (h0 : 0 ≤ a1) (h1 : a1 ≤ 5) (hb : ∀ i, 0 ≤ i → i < μ 9 5 → RGf (bC μ) i) (hT : RTab μ) (ok : okP μ (74 + 11 * a1)) (hQ : ∀ μ', LK μ μ' (74 + 11 * a1) a2 → Q (.inl 0) μ') : qmw (d + 5) 108 [(.inr (.inr (.inl (0)))), (.inl (a1)), (.inl (a2))] μ Q := by
  have hr := rD_r hS a2
  have hc : isP (74 + 11 * a1) := ⟨a1, h0, by omega, rfl⟩
  rw [e108, g108_0]
  refine x48 hS ?_
  rw [g108_19]
  refine x64 (Sv_rf hS) hb hT hr.1 hr.2 (fun ν hm fr tu => ?_)
  have dE : ∀ p, dueB (bC ν) (rD μ a2) p = dueB (bC μ) (rD μ a2) p := fun p => by
    have bE : ∀ c j, 0 ≤ c → c ≤ 4 → bC ν c j = bC μ c j := fun c j k1 k2 => fr _ _ (by omega) (by omega)
    unfold dueB
    rw [bE 1 _ (by decide) (by decide), bE 2 _ (by decide) (by decide), bE 3 _ (by decide) (by decide), bE 4 _ (by decide) (by decide)]
  rw [g108_22, qra57 h0 (by omega)]
  refine ⟨by omega, x1 hm hc ok tu.2.2.2.2.1 (fun μ' s1 s2 s3 s4 => ?_)⟩
  rw [g108_36]
  refine hQ _ ⟨s1, TU_fr hm.1 tu (fun c i q => s2 c i (by omega) (by omega)), s3, VW_cg s4 (fun _ _ _ => rfl) (fun _ _ _ => rfl) (fun _ _ _ => ⟨rfl, rfl⟩) (fun p q1 q2 => ?_) (fun f q1 q2 => ⟨rfl, ok.1 f q1 q2⟩) (hC_ok hS hc)⟩
  rw [tu.2.2.2.1 p q1 q2]
  exact dE p
/-- what lookAtBounds leaves -/
def LB (μ μ' : qM) (c day : Int) : Prop := Sv μ μ' ∧ TU μ' (rD μ day) ∧ (∀ f, 0 ≤ f → f ≤ 9 → μ' 54 f = foC μ c day f) ∧ RD μ' (foC μ c day) (SxC μ c day) (NC μ c day) (duC μ day) (μ (c + 1)) (hC μ c day)
theorem x109 {d : Nat} {Q : qV → qM → Prop} {μ : qM} {a1 a2 : Int} (hS : Safe μ) (h0 : 0 ≤ a1) (h1 : a1 ≤ 5) (hb : ∀ i, 0 ≤ i → i < μ 9 5 → RGf (bC μ) i) (hT : RTab μ) (ok : okP μ (74 + 11 * a1)) (hN : ∀ i, 0 ≤ i → i ≤ 2 → NC μ (74 + 11 * a1) a2 i = nf (foC μ (74 + 11 * a1) a2) i) (hQ : ∀ μ', LB μ μ' (74 + 11 * a1) a2 → Q (.inl 0) μ') : qmw (d + 6) 109 [(.inr (.inr (.inl (0)))), (.inl (a1)), (.inl (a2))] μ Q := by
  rw [e109, g109_0]
  refine x108 hS h0 h1 hb hT ok (fun μ1 lk => ?_)
  obtain ⟨l1, l2, l3, l4⟩ := lk
  have w : ∀ i, 0 ≤ i → i ≤ 2 → μ1 56 i = nl (foC μ (74 + 11 * a1) a2) (hC μ (74 + 11 * a1) a2) i := fun i q1 q2 => by
    have w := (l4.1 i q1 q2).2
    rw [hN i q1 q2, nl_ns] at w
    exact w
  rw [g109_6]
  refine x8 (fun i q1 q2 => by rw [w i q1 q2]; exact nl_r) (fun m m0 m1 mm => ?_)
  rw [g109_20]
  obtain ⟨t1, t2, t3, t4, t5⟩ := id l2
  refine x66 m1 l1 t5 (fun μ' s1 s2 s3 s4 => ?_)
  rw [g109_23]
  have e17 : μ' 17 = μ1 17 := by
    funext i
    exact s2 _ _ (by omega) (by omega)
  have dE : ∀ p, dueB (bC μ') (rD μ a2) p = dueB (bC μ1) (rD μ a2) p := fun p => by
    have bE : ∀ c j, 0 ≤ c → c ≤ 4 → bC μ' c j = bC μ1 c j := fun c j k1 k2 => s2 _ _ (by omega) (by omega)
    unfold dueB
    rw [bE 1 _ (by decide) (by decide), bE 2 _ (by decide) (by decide), bE 3 _ (by decide) (by decide), bE 4 _ (by decide) (by decide)]
  have dE1 : ∀ p, dueB (bC μ1) (rD μ a2) p = dueB (bC μ) (rD μ a2) p := fun p => by
    have bE : ∀ c j, 0 ≤ c → c ≤ 4 → bC μ1 c j = bC μ c j := fun c j k1 k2 => l1.2 _ _ (by omega)
    unfold dueB
    rw [bE 1 _ (by decide) (by decide), bE 2 _ (by decide) (by decide), bE 3 _ (by decide) (by decide), bE 4 _ (by decide) (by decide)]
  have hz0 := sa_wr l1.1
  refine hQ _ ⟨s1, ⟨fun j q1 s q2 q3 => ?_, ⟨?_, ?_⟩, ?_, fun p q1 q2 => ?_, s3⟩, fun f q1 q2 => ?_, VW_fr l4 (fun c i q => s2 _ _ (by omega) (by omega)), hN, s3, fun p q1 q2 => ?_, fun i q1 q2 => ?_⟩
  · rw [s2 16 6 (by omega) (by omega)] at q1
    rw [s2 _ _ (by omega) (by omega)]
    exact t1 j q1 s q2 q3
  · have := (s3.2 0 (by have := sa_dr s1.1; omega) 0 (by decide) (by decide)).1
    exact this
  · have := (s3.2 0 (by have := sa_dr s1.1; omega) 0 (by decide) (by decide)).2
    exact this
  · rw [s2 _ _ (by omega) (by omega)]
    exact t3
  · rw [e17, dE]
    exact t4 p q1 q2
  · rw [s2 _ _ (by omega) (by omega)]
    exact l3 f q1 q2
  · rw [e17, t4 p q1 q2, dE1]
    rfl
  · have := mm i q1 q2
    rw [w i q1 q2] at this
    omega
