/-! SUMS, LEAST AND MOST; the rows of ways and dues -/
def smF (g : Int → Int) (lo : Int) : Nat → Int
  | 0 => 0
  | n + 1 => smF g lo n + g (lo + n)
def mnF (g : Int → Int) (lo : Int) : Nat → Int
  | 0 => g lo
  | n + 1 => qmin (mnF g lo n) (g (lo + (n + 1 : Nat)))
def mxF (g : Int → Int) (lo : Int) : Nat → Int
  | 0 => g lo
  | n + 1 => qmax (mxF g lo n) (g (lo + (n + 1 : Nat)))
theorem qmin_le {a b : Int} : qmin a b ≤ a ∧ qmin a b ≤ b ∧ (qmin a b = a ∨ qmin a b = b) := by
  unfold qmin
  split <;> omega
theorem qmax_le {a b : Int} : a ≤ qmax a b ∧ b ≤ qmax a b ∧ (qmax a b = a ∨ qmax a b = b) := by
  unfold qmax
  split <;> omega
theorem smF_cg {g g' : Int → Int} {lo : Int} : ∀ n : Nat, (∀ i, lo ≤ i → i < lo + n → g i = g' i) → smF g lo n = smF g' lo n
  | 0, _ => rfl
  | n + 1, h => by
    rw [smF, smF, smF_cg n (fun i q1 q2 => h i q1 (by omega)), h (lo + n) (by omega) (by omega)]
theorem mnF_cg {g g' : Int → Int} {lo : Int} : ∀ n : Nat, (∀ i, lo ≤ i → i ≤ lo + n → g i = g' i) → mnF g lo n = mnF g' lo n
  | 0, h => by
    rw [mnF, mnF]
    exact h lo (by omega) (by omega)
  | n + 1, h => by
    rw [mnF, mnF, mnF_cg n (fun i q1 q2 => h i q1 (by omega)), h _ (by omega) (by omega)]
theorem mxF_cg {g g' : Int → Int} {lo : Int} : ∀ n : Nat, (∀ i, lo ≤ i → i ≤ lo + n → g i = g' i) → mxF g lo n = mxF g' lo n
  | 0, h => by
    rw [mxF, mxF]
    exact h lo (by omega) (by omega)
  | n + 1, h => by
    rw [mxF, mxF, mxF_cg n (fun i q1 q2 => h i q1 (by omega)), h _ (by omega) (by omega)]
theorem smF_0 {g : Int → Int} {lo : Int} : ∀ n : Nat, (∀ i, lo ≤ i → i < lo + n → g i = 0) → smF g lo n = 0
  | 0, _ => rfl
  | n + 1, h => by
    rw [smF, smF_0 n (fun i q1 q2 => h i q1 (by omega)), h (lo + n) (by omega) (by omega)]
    rfl
theorem smF_ad {g : Int → Int} {lo : Int} (m : Nat) : ∀ n : Nat, smF g lo (m + n) = smF g lo m + smF g (lo + m) n
  | 0 => by
    rw [Nat.add_zero, smF, Int.add_zero]
  | n + 1 => by
    show smF g lo (m + n + 1) = _
    rw [smF, smF, smF_ad m n, show lo + ((m + n : Nat) : Int) = lo + m + n by omega]
    omega
theorem smF_pl {g g' : Int → Int} {lo : Int} : ∀ n : Nat, smF (fun i => g i + g' i) lo n = smF g lo n + smF g' lo n
  | 0 => rfl
  | n + 1 => by
    rw [smF, smF, smF, smF_pl n]
    omega
theorem smF_r {g : Int → Int} {lo B : Int} : ∀ n : Nat, (∀ i, lo ≤ i → i < lo + n → 0 ≤ g i ∧ g i ≤ B) → 0 ≤ smF g lo n ∧ smF g lo n ≤ n * B
  | 0, _ => by
    rw [smF]
    omega
  | n + 1, h => by
    have ih := smF_r n (fun i q1 q2 => h i q1 (by omega))
    have hk := h (lo + n) (by omega) (by omega)
    rw [smF, show ((n + 1 : Nat) : Int) * B = n * B + B by rw [Int.natCast_succ, Int.add_mul, Int.one_mul]]
    omega
theorem mnF_r {g : Int → Int} {lo A B : Int} : ∀ n : Nat, (∀ i, lo ≤ i → i ≤ lo + n → A ≤ g i ∧ g i ≤ B) → A ≤ mnF g lo n ∧ mnF g lo n ≤ B
  | 0, h => by
    rw [mnF]
    exact h lo (by omega) (by omega)
  | n + 1, h => by
    have ih := mnF_r n (fun i q1 q2 => h i q1 (by omega))
    have hk := h (lo + (n + 1 : Nat)) (by omega) (by omega)
    rw [mnF]
    rcases (qmin_le (a := mnF g lo n) (b := g (lo + (n + 1 : Nat)))).2.2 with q | q
    · rw [q]
      exact ih
    · rw [q]
      exact hk
theorem mxF_r {g : Int → Int} {lo A B : Int} : ∀ n : Nat, (∀ i, lo ≤ i → i ≤ lo + n → A ≤ g i ∧ g i ≤ B) → A ≤ mxF g lo n ∧ mxF g lo n ≤ B
  | 0, h => by
    rw [mxF]
    exact h lo (by omega) (by omega)
  | n + 1, h => by
    have ih := mxF_r n (fun i q1 q2 => h i q1 (by omega))
    have hk := h (lo + (n + 1 : Nat)) (by omega) (by omega)
    rw [mxF]
    rcases (qmax_le (a := mxF g lo n) (b := g (lo + (n + 1 : Nat)))).2.2 with q | q
    · rw [q]
      exact ih
    · rw [q]
      exact hk
theorem mnF_neg {g : Int → Int} {lo C : Int} : ∀ n : Nat, mnF (fun v => C - g v) lo n = C - mxF g lo n
  | 0 => rfl
  | n + 1 => by
    rw [mnF, mxF, mnF_neg n]
    unfold qmin qmax
    by_cases q : mxF g lo n < g (lo + (n + 1 : Nat))
    · rw [if_pos (by omega), if_pos q]
    · rw [if_neg (by omega), if_neg q]
theorem mxF_neg {g : Int → Int} {lo C : Int} : ∀ n : Nat, mxF (fun v => C - g v) lo n = C - mnF g lo n
  | 0 => rfl
  | n + 1 => by
    rw [mnF, mxF, mxF_neg n]
    unfold qmin qmax
    by_cases q : g (lo + (n + 1 : Nat)) < mnF g lo n
    · rw [if_pos (by omega), if_pos q]
    · rw [if_neg (by omega), if_neg q]
/-- least and most pay of one, where k others have 0 .. 20 each and all together s -/
def lw (k : Nat) (s : Int) : Int := qmax 0 (s - 20 * k)
def tp (s : Int) : Int := qmin 20 s
theorem lw_tp {k : Nat} {s : Int} (h0 : 0 ≤ s) (h1 : s ≤ 20 * (k + 1 : Nat)) : 0 ≤ lw k s ∧ lw k s ≤ tp s ∧ tp s ≤ 20 ∧ tp s ≤ s ∧ s - 20 * k ≤ lw k s ∧ (lw k s = 0 ∨ lw k s = s - 20 * k) ∧ (tp s = 20 ∨ tp s = s) := by
  unfold lw tp qmax qmin
  split <;> split <;> omega
def Wm : Nat → Int → Int
  | 0, s => if s = 0 then 1 else 0
  | k + 1, s => smF (fun p => Wm k (s - p)) (lw k s) (tp s - lw k s + 1).toNat % 1000000007
def mnD (dv : Int → Int) : Nat → Int → Int
  | 0, _ => 0
  | k + 1, s => mnF (fun p => mnD dv k (s - p) + dv p) (lw k s) (tp s - lw k s).toNat
def mxD (dv : Int → Int) : Nat → Int → Int
  | 0, _ => 0
  | k + 1, s => mxF (fun p => mxD dv k (s - p) + dv p) (lw k s) (tp s - lw k s).toNat
theorem Wm_r (k : Nat) (s : Int) : 0 ≤ Wm k s ∧ Wm k s < 1000000007 := by
  cases k with
  | zero =>
    rw [Wm]
    split <;> omega
  | succ k =>
    rw [Wm]
    omega
theorem mnD_r {dv : Int → Int} (hd : ∀ p, 0 ≤ p → p ≤ 20 → 0 ≤ dv p ∧ dv p ≤ 99) : ∀ (k : Nat) (s : Int), 0 ≤ s → s ≤ 20 * k → 0 ≤ mnD dv k s ∧ mnD dv k s ≤ 99 * k
  | 0, s, _, _ => by
    rw [mnD]
    omega
  | k + 1, s, h0, h1 => by
    have t := lw_tp h0 h1
    rw [mnD]
    refine mnF_r (A := 0) (B := 99 * (k + 1 : Nat)) _ (fun i q1 q2 => ?_)
    have ih := mnD_r hd k (s - i) (by omega) (by omega)
    have hp := hd i (by omega) (by omega)
    omega
theorem mxD_r {dv : Int → Int} (hd : ∀ p, 0 ≤ p → p ≤ 20 → 0 ≤ dv p ∧ dv p ≤ 99) : ∀ (k : Nat) (s : Int), 0 ≤ s → s ≤ 20 * k → 0 ≤ mxD dv k s ∧ mxD dv k s ≤ 99 * k
  | 0, s, _, _ => by
    rw [mxD]
    omega
  | k + 1, s, h0, h1 => by
    have t := lw_tp h0 h1
    rw [mxD]
    refine mxF_r (A := 0) (B := 99 * (k + 1 : Nat)) _ (fun i q1 q2 => ?_)
    have ih := mxD_r hd k (s - i) (by omega) (by omega)
    have hp := hd i (by omega) (by omega)
    omega
theorem mnD_cg {dv dv' : Int → Int} (hd : ∀ p, 0 ≤ p → p ≤ 20 → dv p = dv' p) : ∀ (k : Nat) (s : Int), 0 ≤ s → s ≤ 20 * k → mnD dv k s = mnD dv' k s
  | 0, s, _, _ => rfl
  | k + 1, s, h0, h1 => by
    have t := lw_tp h0 h1
    rw [mnD, mnD]
    refine mnF_cg _ (fun i q1 q2 => ?_)
    rw [mnD_cg hd k (s - i) (by omega) (by omega), hd i (by omega) (by omega)]
theorem mxD_cg {dv dv' : Int → Int} (hd : ∀ p, 0 ≤ p → p ≤ 20 → dv p = dv' p) : ∀ (k : Nat) (s : Int), 0 ≤ s → s ≤ 20 * k → mxD dv k s = mxD dv' k s
  | 0, s, _, _ => rfl
  | k + 1, s, h0, h1 => by
    have t := lw_tp h0 h1
    rw [mxD, mxD]
    refine mxF_cg _ (fun i q1 q2 => ?_)
    rw [mxD_cg hd k (s - i) (by omega) (by omega), hd i (by omega) (by omega)]
/-! sums over the fortnights: those of a span -/
theorem smF_in {x : Int → Int} {F T : Int} (h0 : 0 ≤ F) (h1 : F ≤ T) (h2 : T ≤ 9) : smF (fun f => if F ≤ f ∧ f ≤ T then x f else 0) 0 10 = smF x F (T - F + 1).toNat := by
  have e : (10 : Nat) = F.toNat + ((T - F + 1).toNat + (9 - T).toNat) := by omega
  rw [e, smF_ad, smF_ad, smF_0 F.toNat (fun i q1 q2 => if_neg (by omega)), smF_0 (9 - T).toNat (fun i q1 q2 => if_neg (by omega)), Int.zero_add, Int.add_zero, show (0 : Int) + (F.toNat : Int) = F by omega]
  exact smF_cg _ (fun i q1 q2 => if_pos (by omega))
/-! quotients and remainders that the machine makes -/
theorem qidiv_p {a b : Int} (h0 : 0 ≤ a) (h1 : a ≤ 2147483647) (h2 : 1 ≤ b) (h3 : b ≤ 2147483647) : qidiv a b = a / b := by
  unfold qidiv
  rw [Int32.toInt_div, fb_ofI (by omega) (by omega), fb_ofI (by omega) (by omega), Int.tdiv_eq_ediv_of_nonneg h0]
  have h4 : 0 ≤ a / b := Int.ediv_nonneg h0 (by omega)
  have h5 : a / b ≤ a := Int.ediv_le_self b h0
  exact Int.bmod_eq_of_le (by omega) (by omega)
theorem qirem_p {a b : Int} (h0 : 0 ≤ a) (h1 : a ≤ 2147483647) (h2 : 1 ≤ b) (h3 : b ≤ 2147483647) : qirem a b = a % b := by
  have e : qirem a b = q32 (a - q32 (qidiv a b * b)) := by
    unfold qirem qidiv q32
    rw [Int32.toInt_sub, Int32.toInt_mul, fb_ofI (z := a) (by omega) (by omega), fb_ofI (z := b) (by omega) (by omega), Int32.toInt_ofInt, Int32.toInt_ofInt]
  have h6 := Int.mul_ediv_add_emod a b
  have h7 : 0 ≤ a % b := Int.emod_nonneg a (by omega)
  have h8 : a % b < b := Int.emod_lt_of_pos a (by omega)
  rw [e, qidiv_p h0 h1 h2 h3, Int.mul_comm, q32_id (z := b * (a / b)) (by omega) (by omega), q32_id (by omega) (by omega)]
  omega
theorem qlrem_p {a b : Int} (h0 : 0 ≤ a) (h1 : a ≤ 9223372036854775807) (h2 : 1 ≤ b) (h3 : b ≤ 9223372036854775807) : qlrem a b = a % b := by
  have e : qlrem a b = q64 (a - q64 ((Int64.ofInt a / Int64.ofInt b).toInt * b)) := by
    unfold qlrem q64
    rw [Int64.toInt_sub, Int64.toInt_mul, Int64.toInt_ofInt, Int64.toInt_ofInt, Int64.toInt_ofInt, Int64.toInt_ofInt]
    have ea : a.bmod (2 ^ 64) = a := Int.bmod_eq_of_le (by omega) (by omega)
    have eb : b.bmod (2 ^ 64) = b := Int.bmod_eq_of_le (by omega) (by omega)
    rw [ea, eb]
  have ed : (Int64.ofInt a / Int64.ofInt b).toInt = a / b := by
    rw [Int64.toInt_div, Int64.toInt_ofInt, Int64.toInt_ofInt]
    have ea : a.bmod (2 ^ 64) = a := Int.bmod_eq_of_le (by omega) (by omega)
    have eb : b.bmod (2 ^ 64) = b := Int.bmod_eq_of_le (by omega) (by omega)
    rw [ea, eb, Int.tdiv_eq_ediv_of_nonneg h0]
    have h4 : 0 ≤ a / b := Int.ediv_nonneg h0 (by omega)
    have h5 : a / b ≤ a := Int.ediv_le_self b h0
    exact Int.bmod_eq_of_le (by omega) (by omega)
  have h6 := Int.mul_ediv_add_emod a b
  have h7 : 0 ≤ a % b := Int.emod_nonneg a (by omega)
  have h8 : a % b < b := Int.emod_lt_of_pos a (by omega)
  rw [e, ed, Int.mul_comm, q64_id (z := b * (a / b)) (by omega) (by omega), q64_id (by omega) (by omega)]
  omega
/-- DUE is in its range -/
theorem dueV_r {ba fr ta by_ pay : Int} (h1 : 0 ≤ ba ∧ ba ≤ 99) (h2 : 0 ≤ fr ∧ fr ≤ 99) (h3 : 1 ≤ ta ∧ ta ≤ 20) (h4 : 1 ≤ by_ ∧ by_ ≤ 20) (h5 : 0 ≤ pay) (h6 : pay ≤ 1000) : 0 ≤ dueV ba fr ta by_ pay ∧ dueV ba fr ta by_ pay ≤ 99 := by
  unfold dueV
  rw [q32_id (z := pay - fr) (by omega) (by omega)]
  have hm : 0 ≤ qmax 0 (pay - fr) ∧ qmax 0 (pay - fr) ≤ 1000 := by
    unfold qmax
    split <;> omega
  generalize qmax 0 (pay - fr) = x at hm
  have hx : 0 ≤ ta * x := Int.mul_nonneg (by omega) hm.1
  have hx2 : ta * x ≤ 20 * 1000 := Int.mul_le_mul h3.2 hm.2 hm.1 (by decide)
  rw [q32_id (z := ta * x) (by omega) (by omega), qidiv_p hx (by omega) h4.1 (by omega)]
  have h7 : 0 ≤ ta * x / by_ := Int.ediv_nonneg hx (by omega)
  have h8 : ta * x / by_ ≤ ta * x := Int.ediv_le_self by_ hx
  rw [q32_id (by omega) (by omega)]
  unfold qmax
  split <;> omega
theorem dueB_r {B : qM} {r pay : Int} (hb : 0 ≤ r → RGf B r) (h5 : 0 ≤ pay) (h6 : pay ≤ 1000) : 0 ≤ dueB B r pay ∧ dueB B r pay ≤ 99 := by
  unfold dueB
  split
  · exact ⟨by decide, by decide⟩
  · obtain ⟨-, g1, g2, g3, g4⟩ := hb (by omega)
    exact dueV_r g1 g2 g3 g4 h5 h6
