/-! coins are held back -/
/-- may be held: some letter is there for long -/
def mhF (t : Int) (ld sn st : Int → Int) (dd : Int) : Nat → Int
  | 0 => 0
  | k + 1 => if mhF t ld sn st dd k = 1 then 1 else if ld k = dd ∧ sn k + 9 ≤ t ∧ st k = 1 then 1 else 0
theorem mhF_01 (t : Int) (ld sn st : Int → Int) (dd : Int) (k : Nat) : mhF t ld sn st dd k = 0 ∨ mhF t ld sn st dd k = 1 := by
  cases k with
  | zero => exact Or.inl rfl
  | succ k =>
    rw [mhF]
    split
    · exact Or.inr rfl
    · split
      · exact Or.inr rfl
      · exact Or.inl rfl
theorem mhF_up {t : Int} {ld sn st : Int → Int} {dd : Int} {k : Nat} (h : mhF t ld sn st dd k = 1) : ∀ j : Nat, mhF t ld sn st dd (k + j) = 1
  | 0 => h
  | j + 1 => by
    rw [← Nat.add_assoc, mhF, if_pos (mhF_up h j)]
theorem mhF_cg {t : Int} {ld sn st ld' sn' st' : Int → Int} {dd : Int} : ∀ k : Nat, (∀ i : Int, 0 ≤ i → i < k → ld i = ld' i ∧ sn i = sn' i ∧ st i = st' i) → mhF t ld sn st dd k = mhF t ld' sn' st' dd k
  | 0, _ => rfl
  | k + 1, h => by
    have z := h k (by omega) (by omega)
    rw [mhF, mhF, mhF_cg k (fun i q1 q2 => h i q1 (by omega)), z.1, z.2.1, z.2.2]
/-- what is held in all behind k debts; e: what of each is open and may be held -/
def hT (e : Int → Int) (s : Int) : Nat → Int
  | 0 => 0
  | k + 1 => hT e s k + qmax 0 (qmin (e k) (s - hT e s k))
theorem hq_l {x y : Int} (h : x ≤ y) : qmin x y = x := by
  unfold qmin
  rw [if_neg (by omega)]
theorem hq_r {x y : Int} (h : y < x) : qmin x y = y := by
  unfold qmin
  rw [if_pos h]
theorem hq_p {x : Int} (h : 0 ≤ x) : qmax 0 x = x := by
  unfold qmax
  by_cases q : 0 < x
  · rw [if_pos q]
  · rw [if_neg q]
    omega
theorem hq_n {x : Int} (h : x ≤ 0) : qmax 0 x = 0 := by
  unfold qmax
  rw [if_neg (by omega)]
theorem mm_r {x y : Int} (hx : 0 ≤ x) (hy : 0 ≤ y) : 0 ≤ qmax 0 (qmin x y) ∧ qmax 0 (qmin x y) ≤ x ∧ qmax 0 (qmin x y) ≤ y := by
  by_cases q : x ≤ y
  · rw [hq_l q, hq_p hx]
    omega
  · rw [hq_r (by omega), hq_p hy]
    omega
theorem hT_r {e : Int → Int} {s : Int} (hs : 0 ≤ s) : ∀ k : Nat, (∀ i : Int, 0 ≤ i → i < k → 0 ≤ e i) → 0 ≤ hT e s k ∧ hT e s k ≤ s
  | 0, _ => by
    rw [hT]
    omega
  | k + 1, h => by
    have a := hT_r hs k (fun i q1 q2 => h i q1 (by omega))
    have b := mm_r (x := e k) (y := s - hT e s k) (h k (by omega) (by omega)) (by omega)
    rw [hT]
    omega
theorem hT_cg {e e' : Int → Int} {s : Int} : ∀ k : Nat, (∀ i : Int, 0 ≤ i → i < k → e i = e' i) → hT e s k = hT e' s k
  | 0, _ => rfl
  | k + 1, h => by
    rw [hT, hT, hT_cg k (fun i q1 q2 => h i q1 (by omega)), h k (by omega) (by omega)]
/-- the coins of debt i -/
def co (e : Int → Int) (s i : Int) : Int := qmax 0 (qmin (e i) (s - hT e s i.toNat))
theorem hT_s {e : Int → Int} {s i : Int} (h : 0 ≤ i) : hT e s (i + 1).toNat = hT e s i.toNat + co e s i := by
  rw [show (i + 1).toNat = i.toNat + 1 by omega, hT]
  unfold co
  rw [show ((i.toNat : Nat) : Int) = i by omega]
theorem co_cg {e e' : Int → Int} {s i n : Int} (h : ∀ j : Int, 0 ≤ j → j < n → e j = e' j) (h0 : 0 ≤ i) (h1 : i < n) : co e s i = co e' s i := by
  unfold co
  rw [hT_cg i.toNat (fun j q1 q2 => h j q1 (by omega)), h i h0 h1]
theorem co_r {e : Int → Int} {s i : Int} (hs : 0 ≤ s) (h0 : 0 ≤ i) (he : ∀ j : Int, 0 ≤ j → j ≤ i → 0 ≤ e j) : 0 ≤ co e s i ∧ co e s i ≤ e i ∧ co e s i ≤ s := by
  have a := hT_r hs i.toNat (fun j q1 q2 => he j q1 (by omega))
  have b := mm_r (x := e i) (y := s - hT e s i.toNat) (he i h0 (Int.le_refl _)) (by omega)
  unfold co
  omega
/-- memory behind n debts -/
def Hd (μ μ' : qM) (cO cH cF : Int) (e : Int → Int) (s n : Int) : Prop := (∀ c i, ¬ (c = cO ∨ c = cH ∨ c = cF) → μ' c i = μ c i) ∧ (∀ c i, ¬ (0 ≤ i ∧ i < n) → μ' c i = μ c i) ∧ ∀ i, 0 ≤ i → i < n → μ' cO i = μ cO i - co e s i ∧ μ' cH i = μ cH i + co e s i ∧ μ' cF i = μ cF i + (co e s i + 9) / 10
theorem Hd_0 {μ : qM} {cO cH cF s : Int} {e : Int → Int} : Hd μ μ cO cH cF e s 0 := ⟨fun _ _ _ => rfl, fun _ _ _ => rfl, fun i q1 q2 => by omega⟩
theorem Hd_n {μ ν : qM} {cO cH cF s i : Int} {e : Int → Int} (h : Hd μ ν cO cH cF e s i) (h0 : co e s i = 0) : Hd μ ν cO cH cF e s (i + 1) := by
  refine ⟨h.1, fun c j q => h.2.1 c j (by omega), fun j q1 q2 => ?_⟩
  by_cases ej : j = i
  · rw [ej, h0, h.2.1 cO i (by omega), h.2.1 cH i (by omega), h.2.1 cF i (by omega)]
    omega
  · exact h.2.2 j q1 (by omega)
theorem Hd_s {μ ν : qM} {cO cH cF s i x y z : Int} {e : Int → Int} (h : Hd μ ν cO cH cF e s i) (hn : ¬ cO = cH ∧ ¬ cO = cF ∧ ¬ cH = cF) (h0 : 0 ≤ i) (ex : x = μ cO i - co e s i) (ey : y = μ cH i + co e s i) (ez : z = μ cF i + (co e s i + 9) / 10) : Hd μ (qu (qu (qu ν cO i x) cH i y) cF i z) cO cH cF e s (i + 1) := by
  refine ⟨fun c j q => ?_, fun c j q => ?_, fun j q1 q2 => ?_⟩
  · rw [qu_cell (fun w => q (Or.inr (Or.inr w))), qu_cell (fun w => q (Or.inr (Or.inl w))), qu_cell (fun w => q (Or.inl w))]
    exact h.1 c j q
  · rw [qu_ne (by omega), qu_ne (by omega), qu_ne (by omega)]
    exact h.2.1 c j (by omega)
  · by_cases ej : j = i
    · subst ej
      rw [qu_cell (c := cF) (c' := cO) hn.2.1, qu_cell (c := cH) (c' := cO) hn.1, qu_same, qu_cell (c := cF) (c' := cH) hn.2.2, qu_same, qu_same]
      exact ⟨ex, ey, ez⟩
    · rw [qu_ne (c' := cO) (by omega), qu_ne (c' := cO) (by omega), qu_ne (c' := cO) (by omega), qu_ne (c' := cH) (by omega), qu_ne (c' := cH) (by omega), qu_ne (c' := cH) (by omega), qu_ne (c' := cF) (by omega), qu_ne (c' := cF) (by omega), qu_ne (c' := cF) (by omega)]
      exact h.2.2 j q1 (by omega)
/-- what the columns must hold so that nothing runs over -/
def HO (μ : qM) (cO cH cF n : Int) : Prop := ∀ i, 0 ≤ i → i < n → 0 ≤ μ cO i ∧ 0 ≤ μ cH i ∧ μ cO i + μ cH i ≤ 990 ∧ 0 ≤ μ cF i ∧ μ cF i + μ cO i ≤ 990
section HD
variable {μ : qM}
def mhC (μ : qM) (dd : Int) : Int := mhF (μ 58 3) (μ 68) (μ 69) (stC μ) dd (μ 67 3).toNat
def mhM (μ : qM) (dd : Int) : Int := mhF (μ 170 1) (μ 204) (μ 205) (stM μ) dd (μ 192 0).toNat
def eC (μ : qM) (p : Int) : Int → Int := fun i => if μ 60 i = p ∧ mhC μ i = 1 then μ 62 i else 0
def eM (μ : qM) (p : Int) : Int → Int := fun i => if μ 196 i = p ∧ mhM μ i = 1 then μ 198 i else 0
theorem x111 {d : Nat} {Q : qV → qM → Prop} {a1 : Int} (hS : Safe μ) (hQ : Q (.inl (mhC μ a1)) μ) : qmw (d + 2) 111 [(.inr (.inr (.inl (0)))), (.inl (a1))] μ Q := by
  have hl := sa_letters hS
  unfold mhC at hQ
  rw [e111, g111_0]
  refine qup (μ 67 3) (P := fun i => ∀ o3, 0 ≤ i → mhF (μ 58 3) (μ 68) (μ 69) (stC μ) a1 i.toNat = 0 → qW (d + 1) 111 Q 2 [some (.inr (.inr (.inl (0)))), some (.inl (a1)), some (.inl (i)), o3] [] μ) (fun i ih hB o3 h0 hz => ?_) 0 (by omega) _ (by omega) rfl
  have hs := sa_sent hS i
  have nx : ∀ o, i < μ 67 3 → ¬ (μ 68 i = a1 ∧ μ 69 i + 9 ≤ μ 58 3 ∧ stC μ i = 1) → qW (d + 1) 111 Q 2 [some (.inr (.inr (.inl (0)))), some (.inl (a1)), some (.inl (q32 (i + 1))), o] [] μ := fun o q1 q2 => by
    rw [q32_id (z := i + 1) (by omega) (by omega)]
    refine ih _ (by omega) (by omega) _ (by omega) ?_
    rw [show (i + 1).toNat = i.toNat + 1 by omega, mhF, hz, if_neg (by decide), show ((i.toNat : Nat) : Int) = i by omega, if_neg q2]
  clear ih
  have key : ∀ x, i < μ 67 3 → μ 68 i = a1 → μ 69 i + 9 ≤ μ 58 3 → qmw (d + 1) 110 [(.inr (.inr (.inl (0)))), (.inl (i))] μ (fun v ν => qW (d + 1) 111 Q 74 [some (.inr (.inr (.inl (0)))), some (.inl (a1)), some (.inl (i)), some (.inl (x))] (v :: []) ν) := fun x hx hx2 hx3 => by
    refine x110 hS h0 (by omega) ?_
    rw [g111_74]
    refine ⟨fun q => nx _ hx (fun w => q w.2.2), fun q => ⟨by decide, ?_⟩⟩
    have one : mhF (μ 58 3) (μ 68) (μ 69) (stC μ) a1 (i.toNat + 1) = 1 := by
      rw [mhF, hz, if_neg (by decide), show ((i.toNat : Nat) : Int) = i by omega, if_pos ⟨hx2, hx3, q⟩]
    have up := mhF_up one ((μ 67 3).toNat - (i.toNat + 1))
    rw [show i.toNat + 1 + ((μ 67 3).toNat - (i.toNat + 1)) = (μ 67 3).toNat by omega] at up
    rw [up] at hQ
    exact hQ
  rw [g111_2, q32_id (z := μ 69 i + 2) (by omega) (by omega), q32_id (z := μ 69 i + 2 + 7) (by omega) (by omega)]
  refine ⟨fun q => ⟨by decide, ?_⟩, fun q => ⟨⟨h0, by omega⟩, fun q2 => ⟨⟨h0, by omega⟩, fun q3 => nx _ q (fun w => q3 w.1), fun q3 => ⟨fun _ => nx _ q (by omega), fun w => absurd rfl w⟩⟩, fun q2 => ⟨⟨h0, by omega⟩, fun q3 => nx _ q (fun w => q3 w.1), fun q3 => ⟨fun w => absurd w (by decide), fun _ => key _ q q3 (by omega)⟩⟩⟩⟩
  rw [show (μ 67 3).toNat = i.toNat by omega, hz] at hQ
  exact hQ
theorem x166 {d : Nat} {Q : qV → qM → Prop} {a1 : Int} (hS : Safe μ) (hQ : Q (.inl (mhM μ a1)) μ) : qmw (d + 3) 166 [(.inr (.inr (.inl (170)))), (.inl (a1))] μ Q := by
  have hl := sa_mletters hS 0
  unfold mhM at hQ
  rw [e166, g166_0]
  refine qup (μ 192 0) (P := fun a3 => ∀ a2, 0 ≤ a3 → a2 = mhF (μ 170 1) (μ 204) (μ 205) (stM μ) a1 a3.toNat → qW (d + 2) 166 Q 4 [some (.inr (.inr (.inl (170)))), some (.inl (a1)), some (.inl (a2)), some (.inl (a3))] [] μ) (fun a3 ih hB a2 h0 hz => ?_) 0 (by omega) _ (by omega) rfl
  have hs := sa_msent hS a3
  have h01 := mhF_01 (μ 170 1) (μ 204) (μ 205) (stM μ) a1 a3.toNat
  rw [← hz] at h01
  have nx : ∀ a2', a3 < μ 192 0 → a2' = (if a2 = 1 then 1 else if μ 204 a3 = a1 ∧ μ 205 a3 + 9 ≤ μ 170 1 ∧ stM μ a3 = 1 then 1 else 0) → qW (d + 2) 166 Q 4 [some (.inr (.inr (.inl (170)))), some (.inl (a1)), some (.inl (a2')), some (.inl (q32 (a3 + 1)))] [] μ := fun a2' q1 q2 => by
    rw [q32_id (z := a3 + 1) (by omega) (by omega)]
    refine ih _ (by omega) (by omega) _ (by omega) ?_
    rw [show (a3 + 1).toNat = a3.toNat + 1 by omega, mhF, ← hz, show ((a3.toNat : Nat) : Int) = a3 by omega]
    exact q2
  clear ih
  rw [g166_4, q32_id (z := μ 205 a3 + 9) (by omega) (by omega)]
  refine ⟨by decide, fun q => ⟨by omega, ?_⟩, fun q => ⟨fun q2 => nx _ q ?_, fun q2 => ⟨by omega, fun q3 => nx _ q ?_, fun q3 => ⟨by omega, fun q4 => nx _ q ?_, fun q4 => x164 hS h0 (by omega) ?_⟩⟩⟩⟩
  · rw [show (μ 192 0).toNat = a3.toNat by omega, ← hz] at hQ
    exact hQ
  · rw [if_pos (by omega)]
  · rw [if_neg (by omega), if_neg (fun w => q3 w.1)]
  · rw [if_neg (by omega), if_neg (by omega)]
  · rw [g166_49]
    refine ⟨fun q5 => nx _ q ?_, fun q5 => nx _ q ?_⟩
    · rw [if_neg (by omega), if_neg (fun w => q5 w.2.2)]
    · rw [if_neg (by omega), if_pos ⟨q3, q4, q5⟩]
/-- what mayBeHeld reads is as it was -/
theorem stC_fr {ν : qM} (k : ∀ c i, ¬ (c = 62 ∨ c = 63 ∨ c = 66) → ν c i = μ c i) (hS : Safe μ) : stC ν = stC μ ∧ mhC ν = mhC μ := by
  have e : stC ν = stC μ := by
    funext l
    have hd := sa_dp hS (μ 68 l)
    unfold stC
    rw [k 58 3 (by decide), k 69 l (by decide), k 68 l (by decide), k 70 l (by decide), k 60 _ (by decide), k (74 + 11 * μ 60 (μ 68 l) + 9) _ (by omega)]
  refine ⟨e, ?_⟩
  funext dd
  have e8 : ν 68 = μ 68 := funext (fun i => k 68 i (by decide))
  have e9 : ν 69 = μ 69 := funext (fun i => k 69 i (by decide))
  unfold mhC
  rw [e, e8, e9, k 58 3 (by decide), k 67 3 (by decide)]
theorem stM_fr {ν : qM} (k : ∀ c i, ¬ (c = 198 ∨ c = 199 ∨ c = 202) → ν c i = μ c i) : stM ν = stM μ ∧ mhM ν = mhM μ := by
  have e : stM ν = stM μ := by
    funext l
    unfold stM
    rw [k 170 1 (by decide), k 205 l (by decide), k 204 l (by decide), k 206 l (by decide), k 196 _ (by decide), k 208 _ (by decide)]
  refine ⟨e, ?_⟩
  funext dd
  have e8 : ν 204 = μ 204 := funext (fun i => k 204 i (by decide))
  have e9 : ν 205 = μ 205 := funext (fun i => k 205 i (by decide))
  unfold mhM
  rw [e, e8, e9, k 170 1 (by decide), k 192 0 (by decide)]
def okHo (a1 a2 a3 a4 : Int) : Prop := (0 ≤ a1 ∧ a1 ≤ 5) ∧ (0 ≤ a2 ∧ a2 ≤ 999) ∧ (1 ≤ a3 ∧ a3 ≤ a4 ∧ a4 ≤ 20)
theorem shr_r {a2 a3 a4 : Int} (h2 : 0 ≤ a2 ∧ a2 ≤ 999) (h3 : 1 ≤ a3 ∧ a3 ≤ a4 ∧ a4 ≤ 20) : 0 ≤ qidiv (q32 (a2 * a3)) a4 ∧ qidiv (q32 (a2 * a3)) a4 ≤ 19980 := by
  have m0 : 0 ≤ a2 * a3 := Int.mul_nonneg h2.1 (by omega)
  have m1 : a2 * a3 ≤ 999 * 20 := Int.mul_le_mul h2.2 (by omega) (by omega) (by decide)
  rw [q32_id (by omega) (by omega), qidiv_p m0 (by omega) (by omega) (by omega)]
  have d1 : 0 ≤ a2 * a3 / a4 := Int.ediv_nonneg m0 (by omega)
  have d2 : a2 * a3 / a4 ≤ a2 * a3 := Int.ediv_le_self _ m0
  omega
end HD
