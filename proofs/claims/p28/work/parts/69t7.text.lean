/-! THE TEXT AND THE RULES: type, clear, rules, due of both sides -/
theorem q_by : ∀ n : Nat, n < 256 → qi2c (q32 n) = n ∧ qand (qi2b (q32 n)) 255 = n ∧ (n < 128 → qi2b (q32 n) = n) := by decide +kernel
theorem q_by2 {x : Int} (h0 : 0 ≤ x) (h1 : x ≤ 255) : qi2c (q32 x) = x ∧ qand (qi2b (q32 x)) 255 = x ∧ (x < 128 → qi2b (q32 x) = x) := by
  have h := q_by x.toNat (by omega)
  rw [show ((x.toNat : Nat) : Int) = x by omega] at h
  exact ⟨h.1, h.2.1, fun q => h.2.2 (by omega)⟩
theorem q_255 (x : Int64) : 0 ≤ (x &&& 255).toInt ∧ (x &&& 255).toInt ≤ 255 := by
  have h : (x &&& 255).toBitVec.toNat ≤ 255 := by
    rw [Int64.toBitVec_and, BitVec.toNat_and]
    exact Nat.and_le_right
  have h2 : (x &&& 255).toInt = ((x &&& 255).toBitVec.toNat : Int) := BitVec.toInt_eq_toNat_of_lt (by omega)
  omega
theorem q_bv (x : BitVec 64) (n : Nat) (hn : n ≤ 56) : (x >>> n) &&& 255#64 = (x.sshiftRight n) &&& 255#64 := by
  apply BitVec.eq_of_getLsbD_eq
  intro i hi
  rw [BitVec.getLsbD_and, BitVec.getLsbD_and]
  by_cases h8 : i < 8
  · have e : (x >>> n).getLsbD i = (x.sshiftRight n).getLsbD i := by
      rw [BitVec.getLsbD_ushiftRight, BitVec.getLsbD_sshiftRight]
      have h1 : ¬ 64 ≤ i := by omega
      have h2 : n + i < 64 := by omega
      simp [h1, h2]
    rw [e]
  · have e : (255#64).getLsbD i = false := by
      rw [BitVec.getLsbD_ofNat]
      have : Nat.testBit 255 i = false := Nat.testBit_lt_two_pow (Nat.lt_of_lt_of_le (show 255 < 2 ^ 8 by decide) (Nat.pow_le_pow_right (by decide) (by omega)))
      rw [this]
      simp
    rw [e, Bool.and_false, Bool.and_false]
def by8 (w k : Int) : Int := qland (qlushr w (q32 (8 * k))) 255
theorem by8_r (w k : Int) : 0 ≤ by8 w k ∧ by8 w k ≤ 255 := q_255 _
theorem by8_e {w k : Int} (h0 : 0 ≤ k) (h1 : k ≤ 7) : qland (qlshr w (q32 (8 * k))) 255 = by8 w k := by
  unfold by8 qland qlushr qlshr
  rw [fb_asL, fb_asL]
  congr 1
  have key : ∀ n : Nat, n ≤ 56 → ∀ (s : Int64), s = Int64.ofNat n → (Int64.ofInt w >>> s &&& Int64.ofInt 255) = (((Int64.ofInt w).toUInt64 >>> s.toUInt64).toInt64 &&& Int64.ofInt 255) := fun n hn s hs => by
    apply Int64.toBitVec_inj.mp
    rw [Int64.toBitVec_and, Int64.toBitVec_and]
    have hm : s.toBitVec.toNat = n := by
      rw [hs]
      show (BitVec.ofInt 64 (n : Int)).toNat = n
      rw [BitVec.toNat_ofInt]
      omega
    have hsm : (BitVec.smod s.toBitVec 64).toNat = n := by
      rw [hs]
      rcases (show n ≤ 56 from hn) with _
      have : ∀ m : Nat, m < 57 → (BitVec.smod (Int64.ofNat m).toBitVec 64).toNat = m := by decide +kernel
      exact this n (by omega)
    have hum : s.toUInt64.toBitVec.toNat % 64 = n := by
      show s.toBitVec.toNat % 64 = n
      omega
    have e1 : (Int64.ofInt w >>> s).toBitVec = (Int64.ofInt w).toBitVec.sshiftRight n := by
      rw [Int64.toBitVec_shiftRight, BitVec.sshiftRight', hsm]
    have e2 : (((Int64.ofInt w).toUInt64 >>> s.toUInt64).toInt64).toBitVec = (Int64.ofInt w).toBitVec >>> n := by
      show ((Int64.ofInt w).toUInt64 >>> s.toUInt64).toBitVec = _
      rw [UInt64.toBitVec_shiftRight]
      show (Int64.ofInt w).toBitVec >>> (s.toUInt64.toBitVec % 64) = _
      rw [BitVec.ushiftRight_eq', BitVec.toNat_umod]
      rw [show (64 : BitVec 64).toNat = 64 from rfl, hum]
    rw [e1, e2]
    exact (q_bv _ n hn).symm
  rcases (show k = 0 ∨ k = 1 ∨ k = 2 ∨ k = 3 ∨ k = 4 ∨ k = 5 ∨ k = 6 ∨ k = 7 by omega) with rfl | rfl | rfl | rfl | rfl | rfl | rfl | rfl
  · exact key 0 (by decide) _ (by decide +kernel)
  · exact key 8 (by decide) _ (by decide +kernel)
  · exact key 16 (by decide) _ (by decide +kernel)
  · exact key 24 (by decide) _ (by decide +kernel)
  · exact key 32 (by decide) _ (by decide +kernel)
  · exact key 40 (by decide) _ (by decide +kernel)
  · exact key 48 (by decide) _ (by decide +kernel)
  · exact key 56 (by decide) _ (by decide +kernel)
theorem x52 {μ0 : qM} {d : Nat} {Q : qV → qM → Prop} {μ : qM} {w n : Int} (hS : St μ0 μ) (h1 : 1 ≤ n) (h2 : n ≤ 8) (h3 : μ 1 2 + n ≤ 300) (hQ : ∀ μ', St μ0 μ' → μ' 1 2 = μ 1 2 + n → (∀ c i, ¬ (c = 1 ∧ i = 2) → ¬ (c = 2 ∧ μ 1 2 ≤ i) → μ' c i = μ c i) → (∀ m, 0 ≤ m → m < n → μ' 2 (μ 1 2 + m) = by8 w (n - 1 - m)) → Q (.inl 0) μ') : qmw (d + 1) 52 [(.inr (.inr (.inl (1)))), (.inr (.inl (w))), (.inl (n))] μ Q := by
  have hl0 := sa_len hS.1
  rw [e52, g52_0, q32_id (by omega) (by omega)]
  refine qdn (-1) (P := fun i => ∀ ν, i < n → St μ0 ν → ν 1 2 = μ 1 2 + (n - 1 - i) → (∀ c j, ¬ (c = 1 ∧ j = 2) → ¬ (c = 2 ∧ μ 1 2 ≤ j) → ν c j = μ c j) → (∀ m, 0 ≤ m → m < n - 1 - i → ν 2 (μ 1 2 + m) = by8 w (n - 1 - m)) → qW d 52 Q 5 [some (.inr (.inr (.inl (1)))), some (.inr (.inl (w))), none, some (.inl (n)), some (.inl (i))] [] ν) (fun i ih hB ν hi hm e1 fr hb => ?_) _ (by omega) _ (by omega) hS (by omega) (fun _ _ _ _ => rfl) (fun m q1 q2 => by omega)
  have hr := by8_r w i
  have hx := q_by2 hr.1 hr.2
  rw [g52_5]
  refine ⟨fun q => ?_, fun q => ⟨fun q2 => by omega, fun q2 => ⟨qi2c_r _, by omega, ?_⟩⟩⟩
  · have : i = -1 := by omega
    subst this
    exact hQ _ hm (by omega) fr (fun m q1 q2 => hb m q1 (by omega))
  · have ex : qi2c (q32 (qland (qlushr w (q32 (8 * i))) 255)) = by8 w i := hx.1
    rw [q32_id (z := i + -1) (by omega) (by omega), q32_id (z := ν 1 2 + 1) (by omega) (by omega), ex]
    refine ih _ (by omega) (by omega) _ (by omega) ?_ (by rw [qu_same]; omega) (fun c j k1 k2 => ?_) (fun m q3 q4 => ?_)
    · refine St_u (St_u hm (by omega) (by omega) (by intros; omega) (by intros; omega)) (by omega) (by omega) (by intros; omega) (by intros; omega)
    · rw [qu_ne k1, qu_ne (by omega)]
      exact fr c j k1 k2
    · rw [qu_cell (by decide)]
      by_cases e9 : m = n - 1 - i
      · rw [e9, e1, qu_same, show n - 1 - (n - 1 - i) = i by omega]
      · rw [qu_ne (by omega)]
        exact hb m q3 (by omega)
theorem x118 {d : Nat} {Q : qV → qM → Prop} {μ : qM} {w n : Int} (hS : Safe μ) (hQ : ∀ a μ', ((¬ (1 ≤ n ∧ n ≤ 8) ∧ a = -1 ∧ μ' = μ) ∨ ((1 ≤ n ∧ n ≤ 8) ∧ 300 < μ 170 3 + n ∧ a = -3 ∧ μ' = μ) ∨ ((1 ≤ n ∧ n ≤ 8) ∧ μ 170 3 + n ≤ 300 ∧ a = μ 170 3 + n ∧ Safe μ' ∧ μ' 170 3 = μ 170 3 + n ∧ (∀ c i, ¬ (c = 170 ∧ i = 3) → ¬ (c = 171 ∧ μ 170 3 ≤ i) → μ' c i = μ c i) ∧ (∀ m, 0 ≤ m → m < n → μ' 171 (μ 170 3 + m) = qi2b (q32 (by8 w (n - 1 - m)))))) → Q (.inl a) μ') : qmw (d + 2) 118 [(.inr (.inr (.inl (170)))), (.inr (.inl (w))), (.inl (n))] μ Q := by
  have ht := sa_typed hS
  rw [e118, g118_0, E117, g118_7, qbr]
  refine ⟨fun q => ?_, fun q => hQ _ _ (Or.inl ⟨q, rfl, rfl⟩)⟩
  rw [q32_id (z := μ 170 3 + n) (by omega) (by omega), q32_id (z := n - 1) (by omega) (by omega)]
  refine ⟨fun q2 => ?_, fun q2 => hQ _ _ (Or.inr (Or.inl ⟨q, q2, rfl, rfl⟩))⟩
  refine qdn (-1) (P := fun i => ∀ ν, i < n → Sr0 μ ν → ν 170 3 = μ 170 3 + (n - 1 - i) → (∀ c j, ¬ (c = 170 ∧ j = 3) → ¬ (c = 171 ∧ μ 170 3 ≤ j) → ν c j = μ c j) → (∀ m, 0 ≤ m → m < n - 1 - i → ν 171 (μ 170 3 + m) = qi2b (q32 (by8 w (n - 1 - m)))) → qW (d + 1) 118 Q 32 [some (.inr (.inr (.inl (170)))), some (.inr (.inl (w))), none, some (.inl (n)), some (.inl (i))] [] ν) (fun i ih hB ν hi hm e1 fr hb => ?_) _ (by omega) _ (by omega) (Sr0_rf hS) (by omega) (fun _ _ _ _ => rfl) (fun m q1 q2 => by omega)
  have ht2 := sa_typed hm.1
  rw [g118_32]
  refine ⟨fun q3 => ?_, fun q3 => ⟨qi2b_r _, by omega, ?_⟩⟩
  · have : i = -1 := by omega
    subst this
    exact hQ _ _ (Or.inr (Or.inr ⟨q, q2, by omega, hm.1, by omega, fr, fun m q4 q5 => hb m q4 (by omega)⟩))
  · rw [by8_e q3 (by omega), q32_id (z := i + -1) (by omega) (by omega), q32_id (z := ν 170 3 + 1) (by omega) (by omega)]
    refine ih _ (by omega) (by omega) _ (by omega) ?_ (by rw [qu_same]; omega) (fun c j k1 k2 => ?_) (fun m q4 q5 => ?_)
    · refine Sr0_x (Sr0_x hm ?_ ?_ ?_ ?_ ?_ ?_ ?_) ?_ ?_ ?_ ?_ ?_ ?_ ?_ <;> intros <;> omega
    · rw [qu_ne k1, qu_ne (by omega)]
      exact fr c j k1 k2
    · rw [qu_cell (by decide)]
      by_cases e9 : m = n - 1 - i
      · rw [e9, e1, qu_same, show n - 1 - (n - 1 - i) = i by omega]
      · rw [qu_ne (by omega)]
        exact hb m q4 (by omega)
/-! due -/
def lfn (F : Int → Int) (day : Int) : Nat → Int
  | 0 => -1
  | k + 1 => if F k ≤ day then k else lfn F day k
theorem lfn_r (F : Int → Int) (day : Int) : ∀ k : Nat, -1 ≤ lfn F day k ∧ lfn F day k < k
  | 0 => by
    rw [lfn]
    omega
  | k + 1 => by
    have ih := lfn_r F day k
    rw [lfn]
    split <;> omega
theorem lfn_cg {F F' : Int → Int} {day : Int} : ∀ k : Nat, (∀ i : Int, 0 ≤ i → i < k → F i = F' i) → lfn F day k = lfn F' day k
  | 0, _ => rfl
  | k + 1, h => by
    rw [lfn, lfn, lfn_cg k (fun i q1 q2 => h i q1 (by omega)), h k (by omega) (by omega)]
def dueV (ba fr ta by_ pay : Int) : Int := qmax 0 (q32 (ba - qidiv (q32 (ta * qmax 0 (q32 (pay - fr)))) by_))
def dueB (B : qM) (r pay : Int) : Int := if r < 0 then 0 else dueV (B 1 r) (B 2 r) (B 3 r) (B 4 r) pay
/-- the class's rules, the reference's -/
def bC (μ : qM) : qM := fun c i => μ (10 + c) i
def bM (μ : qM) : qM := fun c i => μ (172 + c) i
theorem x48 {d : Nat} {Q : qV → qM → Prop} {μ : qM} {a1 : Int} (hS : Safe μ) (hQ : Q (.inl (lfn (μ 10) a1 (μ 9 5).toNat)) μ) : qmw (d + 1) 48 [(.inr (.inr (.inl (9)))), (.inl (a1))] μ Q := by
  have hb := sa_bsz hS
  rw [e48, g48_0, q32_id (by omega) (by omega)]
  refine qdn (-1) (P := fun i => i < μ 9 5 → lfn (μ 10) a1 (i + 1).toNat = lfn (μ 10) a1 (μ 9 5).toNat → qW d 48 Q 7 [some (.inr (.inr (.inl (9)))), some (.inl (a1)), some (.inl (i))] [] μ) (fun i ih hB h0 e => ?_) _ (by omega) (by omega) (by rw [show μ 9 5 - 1 + 1 = μ 9 5 by omega])
  rw [g48_7]
  refine ⟨fun q => ?_, fun q => ⟨by omega, fun q2 => ?_, fun q2 => ?_⟩⟩
  · rw [show (i + 1).toNat = 0 by omega, lfn] at e
    rw [e]
    exact hQ
  · rw [q32_id (by omega) (by omega)]
    refine ih _ (by omega) (by omega) (by omega) ?_
    rw [show (i + 1).toNat = (i + -1 + 1).toNat + 1 by omega, lfn, show (((i + -1 + 1).toNat : Nat) : Int) = i by omega, if_neg (by omega)] at e
    exact e
  · rw [show (i + 1).toNat = i.toNat + 1 by omega, lfn, show ((i.toNat : Nat) : Int) = i by omega, if_pos q2] at e
    rw [e]
    exact hQ
theorem x49 {d : Nat} {Q : qV → qM → Prop} {μ : qM} {a1 a2 : Int} (hS : Safe μ) (h1 : -1 ≤ a1) (h2 : a1 < μ 9 5) (hb : ∀ i, 0 ≤ i → i < μ 9 5 → RGf (bC μ) i) (hQ : Q (.inl (dueB (bC μ) a1 a2)) μ) : qmw (d + 1) 49 [(.inr (.inr (.inl (9)))), (.inl (a1)), (.inl (a2))] μ Q := by
  have hz := sa_bsz hS
  rw [e49, g49_0]
  unfold dueB at hQ
  refine ⟨fun q => by rw [if_pos q] at hQ; exact hQ, fun q => ⟨fun q2 => by omega, fun q2 => ⟨by omega, fun q3 => ?_, fun q3 => ?_⟩⟩⟩
  · rw [if_neg (by omega)] at hQ
    exact ⟨by omega, by omega, by omega, by omega, by omega, hQ⟩
  · have h9 := (hb a1 q q2).2.2.2.2.1
    have h10 : 1 ≤ μ 14 a1 := h9
    omega
theorem qmax_0 {a : Int} (h : a ≤ 0) : qmax 0 a = 0 := by
  unfold qmax
  rw [if_neg (by omega)]
theorem qmax_p {a : Int} (h : 0 ≤ a) : qmax 0 a = a := by
  unfold qmax
  by_cases q : 0 < a
  · rw [if_pos q]
  · rw [if_neg q]
    omega
theorem x131 {d : Nat} {Q : qV → qM → Prop} {μ : qM} {a1 a2 : Int} (hS : Safe μ) (h1 : 0 ≤ a1) (h2 : a1 ≤ 1000) (hb : ∀ i, 0 ≤ i → i < μ 170 4 → RGf (bM μ) i) (hQ : Q (.inl (dueB (bM μ) (lfn (μ 172) a2 (μ 170 4).toNat) a1)) μ) : qmw (d + 1) 131 [(.inr (.inr (.inl (170)))), (.inl (a1)), (.inl (a2))] μ Q := by
  have hr := sa_rules hS
  rw [e131, g131_0]
  refine qup (μ 170 4) (P := fun i => ∀ a3, 0 ≤ i → ((a3 = -9 ∧ lfn (μ 172) a2 i.toNat = -1) ∨ (0 ≤ a3 ∧ a3 < i ∧ lfn (μ 172) a2 i.toNat = a3)) → qW d 131 Q 6 [some (.inr (.inr (.inl (170)))), some (.inl (a1)), some (.inl (a2)), some (.inl (a3)), some (.inl (i)), none] [] μ) (fun i ih hB a3 hi h3 => ?_) 0 (by omega) _ (by omega) (Or.inl ⟨rfl, rfl⟩)
  have ei : i < μ 170 4 → lfn (μ 172) a2 (i + 1).toNat = if μ 172 i ≤ a2 then i else lfn (μ 172) a2 i.toNat := fun _ => by
    rw [show (i + 1).toNat = i.toNat + 1 by omega, lfn, show ((i.toNat : Nat) : Int) = i by omega]
  rw [g131_6, q32_id (z := i + 1) (by omega) (by omega)]
  refine ⟨fun q => ?_, fun q => ⟨by omega, fun q2 => ih _ (by omega) (by omega) _ (by omega) ?_, fun q2 => ih _ (by omega) (by omega) _ (by omega) (Or.inr ⟨hi, by omega, by rw [ei q, if_pos q2]⟩)⟩⟩
  · clear ih
    have e9 : i = μ 170 4 := by omega
    subst e9
    refine ⟨fun q4 => ?_, fun q4 => ?_⟩
    · have h3 := h3.resolve_left (fun z => q4 z.1)
      rw [h3.2.2] at hQ
      unfold dueB at hQ
      rw [if_neg (by omega)] at hQ
      have g := hb a3 h3.1 h3.2.1
      obtain ⟨-, g1, g2, g3, g4⟩ := g
      have g1 : 0 ≤ μ 173 a3 ∧ μ 173 a3 ≤ 99 := g1
      have g2 : 0 ≤ μ 174 a3 ∧ μ 174 a3 ≤ 99 := g2
      have g3 : 1 ≤ μ 175 a3 ∧ μ 175 a3 ≤ 20 := g3
      have g4 : 1 ≤ μ 176 a3 ∧ μ 176 a3 ≤ 20 := g4
      have hQ : Q (.inl (qmax 0 (q32 (μ 173 a3 - qidiv (q32 (μ 175 a3 * qmax 0 (q32 (a1 - μ 174 a3)))) (μ 176 a3))))) μ := hQ
      have hx : 0 ≤ a3 ∧ a3 < 12 := by omega
      have nz : ¬ μ 176 a3 = 0 := by omega
      rw [q32_id (z := a1 - μ 174 a3) (by omega) (by omega)] at hQ ⊢
      refine ⟨hx, fun q5 => ⟨hx, hx, hx, nz, ?_⟩, fun q5 => ⟨hx, hx, hx, hx, nz, ?_⟩⟩
      · rw [qmax_0 (a := a1 - μ 174 a3) (by omega)] at hQ
        generalize q32 (μ 173 a3 - qidiv (q32 (μ 175 a3 * 0)) (μ 176 a3)) = z at hQ
        exact ⟨fun q6 => by rw [qmax_p q6] at hQ; exact hQ, fun q6 => by rw [qmax_0 (by omega)] at hQ; exact hQ⟩
      · rw [qmax_p (a := a1 - μ 174 a3) (by omega)] at hQ
        generalize q32 (μ 173 a3 - qidiv (q32 (μ 175 a3 * (a1 - μ 174 a3))) (μ 176 a3)) = z at hQ
        exact ⟨fun q6 => by rw [qmax_p q6] at hQ; exact hQ, fun q6 => by rw [qmax_0 (by omega)] at hQ; exact hQ⟩
    · rcases h3 with ⟨-, h3⟩ | ⟨h3, -⟩
      · rw [h3] at hQ
        exact hQ
      · omega
  · rw [ei q, if_neg (by omega)]
    rcases h3 with h3 | ⟨h3, h4, h5⟩
    · exact Or.inl h3
    · exact Or.inr ⟨h3, by omega, h5⟩
