/-! plain facts on numbers (begun from kit/laws) -/
theorem fa_lt (a b : Int32) : a < b ↔ a.toInt < b.toInt := Int32.lt_iff_toInt_lt
theorem fa_le (a b : Int32) : a ≤ b ↔ a.toInt ≤ b.toInt := Int32.le_iff_toInt_le
theorem fa_eq (a b : Int32) : a = b ↔ a.toInt = b.toInt := Int32.toInt_inj.symm
theorem fa_lt64 (a b : Int64) : a < b ↔ a.toInt < b.toInt := Int64.lt_iff_toInt_lt
theorem fa_eq64 (a b : Int64) : a = b ↔ a.toInt = b.toInt := Int64.toInt_inj.symm
theorem fb_rng (x : Int32) : -2147483648 ≤ x.toInt ∧ x.toInt < 2147483648 := by
  have h1 := Int32.le_toInt x
  have h2 := Int32.toInt_lt x
  omega
theorem fb_bmod {z : Int} (h1 : -2147483648 ≤ z) (h2 : z < 2147483648) : z.bmod (2 ^ 32) = z := by
  rw [Int.bmod_eq_of_le (by omega) (by omega)]
theorem fb_addI {x y : Int32} (h1 : -2147483648 ≤ x.toInt + y.toInt) (h2 : x.toInt + y.toInt < 2147483648) : (x + y).toInt = x.toInt + y.toInt := by
  rw [Int32.toInt_add, fb_bmod h1 h2]
theorem fb_subI {x y : Int32} (h1 : -2147483648 ≤ x.toInt - y.toInt) (h2 : x.toInt - y.toInt < 2147483648) : (x - y).toInt = x.toInt - y.toInt := by
  rw [Int32.toInt_sub, fb_bmod h1 h2]
theorem fb_ofI {z : Int} (h1 : -2147483648 ≤ z) (h2 : z < 2147483648) : (Int32.ofInt z).toInt = z := by
  rw [Int32.toInt_ofInt, fb_bmod h1 h2]
theorem fb_asI (x : Int32) : Int32.ofInt x.toInt = x := Int32.ofInt_toInt x
theorem fb_asL (x : Int64) : Int64.ofInt x.toInt = x := Int64.ofInt_toInt x
/-! WHAT ABSTRACT VALUES, CELLS, HEAPS SAY -/
/-- the script's cell, the static tables' cells, the variables' values -/
abbrev zG : Type := Nat × (Nat → Nat) × (Nat → Int32)
def zV (g : zG) (ad : List Nat) : zA → Value → Prop
  | .inl p, v => ∃ x : Int32, v = .int x ∧ p.1 ≤ x.toInt ∧ x.toInt ≤ p.2
  | .inr (.inl k), v => v = .int (g.2.2 k)
  | .inr (.inr (.inl o)), v => ∃ x : Int64, v = .long x ∧ ∀ c, o = some c → x.toInt = c
  | .inr (.inr (.inr (.inl none))), v => v = .null
  | .inr (.inr (.inr (.inl (some i)))), v => ∃ q, ad[i]? = some q ∧ v = .ref q
  | .inr (.inr (.inr (.inr 0))), v => v = .ref g.1
  | .inr (.inr (.inr (.inr (k + 1)))), v => v = .ref (g.2.1 k)
def zEv (g : zG) (E : zE) : Prop := (∀ k p, znt E k = some p → p.1 ≤ (g.2.2 k).toInt ∧ (g.2.2 k).toInt ≤ p.2) ∧ g.2.2 5 = g.2.2 0 &&& 31
theorem zV_grow {g : zG} {ad : List Nat} (l : List Nat) : ∀ {a : zA} {v : Value}, zV g ad a v → zV g (ad ++ l) a v
  | .inl _, _, h => h
  | .inr (.inl _), _, h => h
  | .inr (.inr (.inl _)), _, h => h
  | .inr (.inr (.inr (.inl none))), _, h => h
  | .inr (.inr (.inr (.inl (some i)))), _, h => by
    obtain ⟨q, h1, h2⟩ := h
    exact ⟨q, by rw [List.getElem?_append_left (List.getElem?_eq_some_iff.mp h1).1]; exact h1, h2⟩
  | .inr (.inr (.inr (.inr 0))), _, h => h
  | .inr (.inr (.inr (.inr (_ + 1)))), _, h => h
theorem zV_int {g : zG} {ad : List Nat} : ∀ {a : zA} {v : Value}, zint a = true → zV g ad a v → ∃ x : Int32, v = .int x
  | .inl _, _, _, h => ⟨h.choose, h.choose_spec.1⟩
  | .inr (.inl k), _, _, h => ⟨g.2.2 k, h⟩
  | .inr (.inr _), _, h, _ => by cases h
theorem zV_iv {g : zG} {ad : List Nat} {E : zE} (hE : zEv g E) : ∀ {a : zA} {v : Value} {p : Int × Int}, ziv E a = some p → zV g ad a v → ∃ x : Int32, v = .int x ∧ p.1 ≤ x.toInt ∧ x.toInt ≤ p.2
  | .inl _, _, _, e, h => by
    cases e
    exact h
  | .inr (.inl k), _, _, e, h => ⟨g.2.2 k, h, hE.1 k _ e⟩
  | .inr (.inr _), _, _, e, _ => by cases e
theorem zV_cn {g : zG} {ad : List Nat} {E : zE} (hE : zEv g E) {a : zA} {v : Value} {c : Int} (e : zcn E a = some c) (h : zV g ad a v) : ∃ x : Int32, v = .int x ∧ x.toInt = c := by
  unfold zcn at e
  split at e
  · rename_i lo hi hp
    obtain ⟨x, h1, h2, h3⟩ := zV_iv hE hp h
    cases hq : zeq lo hi with
    | false => rw [hq] at e; cases e
    | true =>
      rw [hq] at e
      cases e
      have := zeq_iff.mp hq
      exact ⟨x, h1, by simp only at h2 h3; omega⟩
  · cases e
theorem zV_k {g : zG} {ad : List Nat} {x : Int32} {c : Int} (h : x.toInt = c) : zV g ad (zk c) (.int x) := ⟨x, rfl, by show c ≤ _; omega, by show _ ≤ c; omega⟩
theorem zV_z {g : zG} {ad : List Nat} (x : Int32) : zV g ad (.inl zz) (.int x) := ⟨x, rfl, by have := fb_rng x; show (-2147483648 : Int) ≤ _; omega, by have := fb_rng x; show _ ≤ (2147483647 : Int); omega⟩
theorem zV_lg {g : zG} {ad : List Nat} {o : Option Int} {x : Int64} (h : ∀ c, o = some c → x.toInt = c) : zV g ad (zlg o) (.long x) := ⟨x, rfl, h⟩
/-- two ints, out of two values, of which the intervals are known -/
theorem zV_ad {g : zG} {ad : List Nat} {E : zE} (hE : zEv g E) {a b r : zA} {n : Bool} {v w : Value} (e : zad E a b n = .inl r) (h : zV g ad a v) (h2 : zV g ad b w) : ∃ x y : Int32, v = .int x ∧ w = .int y ∧ zV g ad r (.int (bif n then x - y else x + y)) := by
  unfold zad at e
  split at e
  · rename_i p q hp hq
    cases e
    obtain ⟨x, rfl, h3, h4⟩ := zV_iv hE hp h
    obtain ⟨y, rfl, h5, h6⟩ := zV_iv hE hq h2
    refine ⟨x, y, rfl, rfl, ?_⟩
    have hx := fb_rng x
    have hy := fb_rng y
    cases n with
    | false =>
      show zV g ad (.inl (znm (p.1 + q.1, p.2 + q.2))) (.int (x + y))
      unfold znm
      cases hz : (zle (-2147483648) (p.1 + q.1) && zle (p.2 + q.2) 2147483647) with
      | false => exact zV_z _
      | true =>
        simp only [Bool.and_eq_true, zle_iff] at hz
        have e1 : (x + y).toInt = x.toInt + y.toInt := fb_addI (by omega) (by omega)
        exact ⟨_, rfl, by rw [e1]; show p.1 + q.1 ≤ _; omega, by rw [e1]; show _ ≤ p.2 + q.2; omega⟩
    | true =>
      show zV g ad (.inl (znm (p.1 - q.2, p.2 - q.1))) (.int (x - y))
      unfold znm
      cases hz : (zle (-2147483648) (p.1 - q.2) && zle (p.2 - q.1) 2147483647) with
      | false => exact zV_z _
      | true =>
        simp only [Bool.and_eq_true, zle_iff] at hz
        have e1 : (x - y).toInt = x.toInt - y.toInt := fb_subI (by omega) (by omega)
        exact ⟨_, rfl, by rw [e1]; show p.1 - q.2 ≤ _; omega, by rw [e1]; show _ ≤ p.2 - q.1; omega⟩
  · cases e
theorem zV_o2 {g : zG} {ad : List Nat} {E : zE} (hE : zEv g E) {f : Int32 → Int32 → Int32} {a b r : zA} {v w : Value} (e : zo2 E f a b = .inl r) (h : zV g ad a v) (h2 : zV g ad b w) : ∃ x y : Int32, v = .int x ∧ w = .int y ∧ zV g ad r (.int (f x y)) := by
  unfold zo2 at e
  split at e
  · rename_i p q hp hq
    obtain ⟨x, rfl, h3, h4⟩ := zV_iv hE hp h
    obtain ⟨y, rfl, h5, h6⟩ := zV_iv hE hq h2
    refine ⟨x, y, rfl, rfl, ?_⟩
    cases hz : (zeq p.1 p.2 && zeq q.1 q.2) with
    | false =>
      rw [hz] at e
      cases e
      exact zV_z _
    | true =>
      rw [hz] at e
      cases e
      simp only [Bool.and_eq_true, zeq_iff] at hz
      have e1 : x.toInt = p.1 := by omega
      have e2 : y.toInt = q.1 := by omega
      exact zV_k (by rw [← e1, ← e2, fb_asI, fb_asI])
  · cases e
theorem zV_sr {g : zG} {ad : List Nat} {E : zE} (hE : zEv g E) {a b r : zA} {v w : Value} (e : zsr E a b = .inl r) (h : zV g ad a v) (h2 : zV g ad b w) : ∃ x y : Int32, v = .int x ∧ w = .int y ∧ zV g ad r (.int (x >>> (y &&& 31))) := by
  unfold zsr at e
  split at e
  · rename_i c hc
    cases hz : (zeq c 0 && zint b) with
    | false =>
      rw [hz] at e
      exact zV_o2 hE (f := fun x y => x >>> (y &&& 31)) e h h2
    | true =>
      rw [hz] at e
      cases e
      simp only [Bool.and_eq_true, zeq_iff] at hz
      obtain ⟨x, rfl, h3⟩ := zV_cn hE hc h
      obtain ⟨y, rfl⟩ := zV_int hz.2 h2
      have hx : x = 0 := (fa_eq _ _).mpr (by rw [h3, hz.1]; rfl)
      refine ⟨x, y, rfl, rfl, zV_k ?_⟩
      rw [hx]
      have : (0 : Int32) >>> (y &&& 31) = 0 := by simp
      rw [this]
      rfl
  · exact zV_o2 hE (f := fun x y => x >>> (y &&& 31)) e h h2
theorem zV_an {g : zG} {ad : List Nat} {E : zE} (hE : zEv g E) {a b r : zA} {v w : Value} (e : zan E a b = .inl r) (h : zV g ad a v) (h2 : zV g ad b w) : ∃ x y : Int32, v = .int x ∧ w = .int y ∧ zV g ad r (.int (x &&& y)) := by
  unfold zan at e
  split at e
  · rename_i c hc
    cases hz : zeq c 31 with
    | false =>
      rw [hz] at e
      exact zV_o2 hE (f := (· &&& ·)) e h h2
    | true =>
      rw [hz] at e
      cases e
      obtain ⟨y, rfl, h3⟩ := zV_cn hE hc h2
      have hy : y = 31 := (fa_eq _ _).mpr (by rw [h3, zeq_iff.mp hz]; rfl)
      refine ⟨g.2.2 0, y, h, rfl, ?_⟩
      show _ = _
      rw [hy, hE.2]
  · exact zV_o2 hE (f := (· &&& ·)) e h h2
theorem zV_dv {g : zG} {ad : List Nat} {E : zE} (hE : zEv g E) {f : Int32 → Int32 → Int32} {a b r : zA} {v w : Value} (e : zdv E f a b = .inl r) (h : zV g ad a v) (h2 : zV g ad b w) : ∃ x y : Int32, v = .int x ∧ w = .int y ∧ ¬ y = 0 ∧ zV g ad r (.int (f x y)) := by
  unfold zdv at e
  split at e
  · rename_i q hq
    cases hz : (zlt 0 q.1 || zlt q.2 0) with
    | false => rw [hz] at e; cases e
    | true =>
      rw [hz] at e
      obtain ⟨x, y, rfl, rfl, h3⟩ := zV_o2 hE (f := f) e h h2
      refine ⟨x, y, rfl, rfl, fun h0 => ?_, h3⟩
      obtain ⟨y', e', h5, h6⟩ := zV_iv hE hq h2
      cases e'
      simp only [Bool.or_eq_true, zlt_iff] at hz
      rw [h0] at h5 h6
      have : (0 : Int32).toInt = 0 := rfl
      omega
  · cases e
def zrel (k : Jvm.ClassFile.Cond) (x y : Int32) : Prop := match k with
  | .eq => x = y
  | .ne => ¬ x = y
  | .lt => x < y
  | .ge => y ≤ x
  | .gt => y < x
  | .le => x ≤ y
theorem zlts_ok {p q : Int × Int} {r : Bool} {x y : Int} (e : zlts p q = some r) (h1 : p.1 ≤ x) (h2 : x ≤ p.2) (h3 : q.1 ≤ y) (h4 : y ≤ q.2) : r = true ↔ x < y := by
  unfold zlts at e
  cases hz : zlt p.2 q.1 with
  | true =>
    rw [hz] at e
    cases e
    have := zlt_iff.mp hz
    simp only [true_iff]
    omega
  | false =>
    rw [hz] at e
    cases hz2 : zle q.2 p.1 with
    | true =>
      rw [hz2] at e
      cases e
      have := zle_iff.mp hz2
      simp only [Bool.false_eq_true, false_iff]
      omega
    | false => rw [hz2] at e; cases e
theorem zles_ok {p q : Int × Int} {r : Bool} {x y : Int} (e : zles p q = some r) (h1 : p.1 ≤ x) (h2 : x ≤ p.2) (h3 : q.1 ≤ y) (h4 : y ≤ q.2) : r = true ↔ x ≤ y := by
  unfold zles at e
  cases hz : zle p.2 q.1 with
  | true =>
    rw [hz] at e
    cases e
    have := zle_iff.mp hz
    simp only [true_iff]
    omega
  | false =>
    rw [hz] at e
    cases hz2 : zlt q.2 p.1 with
    | true =>
      rw [hz2] at e
      cases e
      have := zlt_iff.mp hz2
      simp only [Bool.false_eq_true, false_iff]
      omega
    | false => rw [hz2] at e; cases e
theorem zeqs_ok {p q : Int × Int} {r : Bool} {x y : Int} (e : zeqs p q = some r) (h1 : p.1 ≤ x) (h2 : x ≤ p.2) (h3 : q.1 ≤ y) (h4 : y ≤ q.2) : r = true ↔ x = y := by
  unfold zeqs at e
  cases hz : (zlt p.2 q.1 || zlt q.2 p.1) with
  | true =>
    rw [hz] at e
    cases e
    simp only [Bool.or_eq_true, zlt_iff] at hz
    simp only [Bool.false_eq_true, false_iff]
    omega
  | false =>
    rw [hz] at e
    cases hz2 : (zeq p.1 p.2 && (zeq q.1 q.2 && zeq p.1 q.1)) with
    | true =>
      rw [hz2] at e
      cases e
      simp only [Bool.and_eq_true, zeq_iff] at hz2
      simp only [true_iff]
      omega
    | false => rw [hz2] at e; cases e
theorem zcr_ok {k : Jvm.ClassFile.Cond} {p q : Int × Int} {r : Bool} {x y : Int32} (e : zcr k p q = some r) (h1 : p.1 ≤ x.toInt) (h2 : x.toInt ≤ p.2) (h3 : q.1 ≤ y.toInt) (h4 : y.toInt ≤ q.2) : r = true ↔ zrel k x y := by
  cases k with
  | eq => exact (zeqs_ok e h1 h2 h3 h4).trans (fa_eq x y).symm
  | ne =>
    have e : (zeqs p q).map (!·) = some r := e
    cases hz : zeqs p q with
    | none => rw [hz] at e; cases e
    | some r0 =>
      rw [hz] at e
      cases e
      have := zeqs_ok hz h1 h2 h3 h4
      show (!r0) = true ↔ ¬ x = y
      rw [fa_eq x y, ← this]
      simp
  | lt => exact (zlts_ok e h1 h2 h3 h4).trans (fa_lt x y).symm
  | ge => exact (zles_ok e h3 h4 h1 h2).trans (fa_le y x).symm
  | gt => exact (zlts_ok e h3 h4 h1 h2).trans (fa_lt y x).symm
  | le => exact (zles_ok e h1 h2 h3 h4).trans (fa_le x y).symm
theorem zcm_ok {g : zG} {ad : List Nat} {E : zE} (hE : zEv g E) {k : Jvm.ClassFile.Cond} {a b : zA} {r : Bool} {v w : Value} (e : zcm E k a b = .inl r) (h : zV g ad a v) (h2 : zV g ad b w) : ∃ x y : Int32, v = .int x ∧ w = .int y ∧ (r = true ↔ zrel k x y) := by
  unfold zcm at e
  split at e
  · rename_i p q hp hq
    obtain ⟨x, rfl, h3, h4⟩ := zV_iv hE hp h
    obtain ⟨y, rfl, h5, h6⟩ := zV_iv hE hq h2
    split at e
    · rename_i r' hr
      cases e
      exact ⟨x, y, rfl, rfl, zcr_ok hr h3 h4 h5 h6⟩
    · cases e
  · cases e
theorem zix_ok {g : zG} {ad : List Nat} {E : zE} (hE : zEv g E) {a : zA} {n j : Nat} {v : Value} (e : zix E a n = .inl j) (h : zV g ad a v) : ∃ x : Int32, v = .int x ∧ x.toInt = j ∧ j < n := by
  unfold zix at e
  split at e
  · rename_i i hi
    obtain ⟨x, h1, h2⟩ := zV_cn hE hi h
    cases hz : Nat.blt i n with
    | false => rw [hz] at e; cases e
    | true =>
      rw [hz] at e
      cases e
      exact ⟨x, h1, h2, Nat.le_of_ble_eq_true hz⟩
  · cases e
  · cases e
theorem zir_ok {g : zG} {ad : List Nat} {E : zE} (hE : zEv g E) {a : zA} {n l m : Nat} {v : Value} (e : zir E a n = some (l, m)) (h : zV g ad a v) : ∃ (x : Int32) (j : Nat), v = .int x ∧ x.toInt = j ∧ j < n ∧ l ≤ j ∧ j < l + m := by
  unfold zir at e
  split at e
  · rename_i l0 u0 hp
    obtain ⟨x, h1, h2, h3⟩ := zV_iv hE hp h
    cases hz : (Nat.blt l0 u0 && Nat.blt u0 n) with
    | false => rw [hz] at e; cases e
    | true =>
      rw [hz] at e
      cases e
      simp only [Bool.and_eq_true] at hz
      have hz2 : u0 < n := Nat.le_of_ble_eq_true hz.2
      have hz1 : l < u0 := Nat.le_of_ble_eq_true hz.1
      have h2 : ((l : Nat) : Int) ≤ x.toInt := h2
      have h3 : x.toInt ≤ ((u0 : Nat) : Int) := h3
      refine ⟨x, x.toInt.toNat, h1, by omega, by omega, by omega, by omega⟩
  · cases e
theorem zvin {x : Int32} {j n : Nat} (h : x.toInt = j) (hj : j < n) : vp_in x n := vp_in_iff.mpr ⟨by omega, by omega⟩
theorem zclamp {x : Int32} {j : Nat} (h : x.toInt = j) : x.toNatClampNeg = j := by
  show x.toInt.toNat = j
  omega
/-! lists of values -/
def zVs (g : zG) (ad : List Nat) : List zA → List Value → Prop
  | [], [] => True
  | a :: as, v :: vs => zV g ad a v ∧ zVs g ad as vs
  | _, _ => False
theorem zVs_nil {g : zG} {ad : List Nat} {vs : List Value} (h : zVs g ad [] vs) : vs = [] := by
  cases vs with
  | nil => rfl
  | cons _ _ => exact h.elim
theorem zVs_cons {g : zG} {ad : List Nat} {a : zA} {as : List zA} {vs : List Value} (h : zVs g ad (a :: as) vs) : ∃ v ws, vs = v :: ws ∧ zV g ad a v ∧ zVs g ad as ws := by
  cases vs with
  | nil => exact h.elim
  | cons v ws => exact ⟨v, ws, rfl, h.1, h.2⟩
theorem zVs_grow {g : zG} {ad : List Nat} (l : List Nat) : ∀ {as : List zA} {vs : List Value}, zVs g ad as vs → zVs g (ad ++ l) as vs
  | [], [], _ => trivial
  | [], _ :: _, h => h.elim
  | _ :: _, [], h => h.elim
  | _ :: _, _ :: _, h => ⟨zV_grow l h.1, zVs_grow l h.2⟩
theorem zV_cat {g : zG} {ad : List Nat} : ∀ {a : zA} {v : Value}, zV g ad a v → v.category = zca a
  | .inl _, _, h => by
    obtain ⟨x, rfl, -⟩ := h
    rfl
  | .inr (.inl _), _, h => by
    have h : _ = _ := h
    subst h
    rfl
  | .inr (.inr (.inl _)), _, h => by
    obtain ⟨x, rfl, -⟩ := h
    rfl
  | .inr (.inr (.inr (.inl none))), _, h => by
    have h : _ = _ := h
    subst h
    rfl
  | .inr (.inr (.inr (.inl (some i)))), _, h => by
    obtain ⟨q, -, rfl⟩ := h
    rfl
  | .inr (.inr (.inr (.inr 0))), _, h => by
    have h : _ = _ := h
    subst h
    rfl
  | .inr (.inr (.inr (.inr (_ + 1)))), _, h => by
    have h : _ = _ := h
    subst h
    rfl
theorem zVs_cat {g : zG} {ad : List Nat} : ∀ {as : List zA} {vs : List Value}, zVs g ad as vs → vs.map (fun v => v.category) = as.map zca
  | [], [], _ => rfl
  | [], _ :: _, h => h.elim
  | _ :: _, [], h => h.elim
  | a :: as, v :: vs, h => by
    rw [List.map_cons, List.map_cons, zV_cat h.1, zVs_cat h.2]
/-! locals -/
def zLs (g : zG) (ad : List Nat) : zL → List (Nat × Value) → Prop
  | [], [] => True
  | a :: as, v :: vs => (a.1 = v.1 ∧ zV g ad a.2 v.2) ∧ zLs g ad as vs
  | _, _ => False
theorem zLs_grow {g : zG} {ad : List Nat} (l : List Nat) : ∀ {as : zL} {vs : List (Nat × Value)}, zLs g ad as vs → zLs g (ad ++ l) as vs
  | [], [], _ => trivial
  | [], _ :: _, h => h.elim
  | _ :: _, [], h => h.elim
  | _ :: _, _ :: _, h => ⟨⟨h.1.1, zV_grow l h.1.2⟩, zLs_grow l h.2⟩
theorem zlk_cons {α : Type} (q : Nat × α) (r : List (Nat × α)) (i : Nat) : zlk (q :: r) i = bif Nat.beq q.1 i then some q.2 else zlk r i := rfl
theorem zrm_cons {α : Type} (q : Nat × α) (r : List (Nat × α)) (i : Nat) : zrm (q :: r) i = bif Nat.beq q.1 i then zrm r i else q :: zrm r i := rfl
theorem zrl_cons (q : Nat × zA) (r : zL) (i : Nat) : zrl (q :: r) i = bif Nat.beq q.1 i then zrl r i else bif Nat.beq (q.1 + 1) i && Nat.beq (zca q.2) 2 then zrl r i else q :: zrl r i := rfl
theorem zlk_ok {g : zG} {ad : List Nat} {i : Nat} {a : zA} : ∀ {al : zL} {lv : List (Nat × Value)}, zLs g ad al lv → zlk al i = some a → ∃ v, (i, v) ∈ lv ∧ zV g ad a v
  | [], [], _, e => by cases e
  | [], _ :: _, h, _ => h.elim
  | _ :: _, [], h, _ => h.elim
  | q :: al, r :: lv, h, e => by
    rw [zlk_cons] at e
    cases hz : Nat.beq q.1 i with
    | true =>
      rw [hz] at e
      cases e
      have := Nat.eq_of_beq_eq_true hz
      refine ⟨r.2, ?_, h.1.2⟩
      have e2 : r.1 = i := by rw [← h.1.1, this]
      rw [← e2]
      exact List.mem_cons_self
    | false =>
      rw [hz] at e
      obtain ⟨v, h1, h2⟩ := zlk_ok h.2 e
      exact ⟨v, List.mem_cons_of_mem _ h1, h2⟩
theorem zbeq (a b : Nat) : (a == b) = Nat.beq a b := by
  by_cases h : a = b
  · subst h
    simp
  · have h1 : (a == b) = false := by simp [h]
    have h2 : Nat.beq a b = false := by
      cases hz : Nat.beq a b with
      | false => rfl
      | true => exact absurd (Nat.eq_of_beq_eq_true hz) h
    rw [h1, h2]
theorem zrl_ok {g : zG} {ad : List Nat} {i : Nat} : ∀ {al : zL} {lv : List (Nat × Value)}, zLs g ad al lv → zLs g ad (zrl al i) (lv.filter (fun q => !(q.1 == i) && !(q.1 + 1 == i && q.2.category == 2)))
  | [], [], _ => trivial
  | [], _ :: _, h => h.elim
  | _ :: _, [], h => h.elim
  | q :: al, r :: lv, h => by
    have ih := zrl_ok (i := i) h.2
    rw [zrl_cons, List.filter_cons]
    have e1 : r.1 = q.1 := h.1.1.symm
    have e2 : r.2.category = zca q.2 := zV_cat h.1.2
    simp only [zbeq] at ih ⊢
    rw [e1, e2]
    cases h1 : Nat.beq q.1 i with
    | true => exact ih
    | false =>
      cases h2 : (Nat.beq (q.1 + 1) i && Nat.beq (zca q.2) 2) with
      | true => exact ih
      | false => exact ⟨⟨h.1.1, h.1.2⟩, ih⟩
theorem zrl2_ok {g : zG} {ad : List Nat} {i : Nat} : ∀ {al : zL} {lv : List (Nat × Value)}, zLs g ad al lv → zLs g ad (zrl (zrm al (i + 1)) i) (lv.filter (fun q => !(q.1 == i) && (!(q.1 == i + 1) && !(q.1 + 1 == i && q.2.category == 2))))
  | [], [], _ => trivial
  | [], _ :: _, h => h.elim
  | _ :: _, [], h => h.elim
  | q :: al, r :: lv, h => by
    have ih := zrl2_ok (i := i) h.2
    rw [zrm_cons, List.filter_cons]
    have e1 : r.1 = q.1 := h.1.1.symm
    have e2 : r.2.category = zca q.2 := zV_cat h.1.2
    simp only [zbeq] at ih ⊢
    rw [e1, e2]
    cases h0 : Nat.beq q.1 (i + 1) with
    | true =>
      have : (!Nat.beq q.1 i && (!true && !(Nat.beq (q.1 + 1) i && Nat.beq (zca q.2) 2))) = false := by simp
      rw [this]
      exact ih
    | false =>
      show zLs g ad (zrl (q :: zrm al (i + 1)) i) _
      rw [zrl_cons]
      cases h1 : Nat.beq q.1 i with
      | true => exact ih
      | false =>
        cases h2 : (Nat.beq (q.1 + 1) i && Nat.beq (zca q.2) 2) with
        | true => exact ih
        | false => exact ⟨⟨h.1.1, h.1.2⟩, ih⟩
/-! tables -/
theorem zlk_rm_same {α : Type} (i : Nat) : ∀ (l : List (Nat × α)), zlk (zrm l i) i = none
  | [] => rfl
  | q :: r => by
    rw [zrm_cons]
    cases h : Nat.beq q.1 i with
    | true => exact zlk_rm_same i r
    | false =>
      show zlk (q :: zrm r i) i = none
      rw [zlk_cons, h]
      exact zlk_rm_same i r
theorem zlk_rm_ne {α : Type} {i j : Nat} (hj : j ≠ i) : ∀ (l : List (Nat × α)), zlk (zrm l i) j = zlk l j
  | [] => rfl
  | q :: r => by
    rw [zrm_cons, zlk_cons]
    cases h : Nat.beq q.1 i with
    | true =>
      have h2 : Nat.beq q.1 j = false := by
        cases hz : Nat.beq q.1 j with
        | false => rfl
        | true => exact absurd ((Nat.eq_of_beq_eq_true hz).symm.trans (Nat.eq_of_beq_eq_true h)) hj
      rw [h2]
      exact zlk_rm_ne hj r
    | false =>
      show zlk (q :: zrm r i) j = _
      rw [zlk_cons, zlk_rm_ne hj r]
theorem zbeq_self (i : Nat) : Nat.beq i i = true := Nat.beq_refl i
theorem zbeq_ne {i j : Nat} (h : i ≠ j) : Nat.beq i j = false := by
  cases hz : Nat.beq i j with
  | false => rfl
  | true => exact absurd (Nat.eq_of_beq_eq_true hz) h
theorem zg_same {α : Type} (t : zT α) (i : Nat) (c : α) : zg (zu t i c) i = some c := by
  unfold zg zu
  simp only [zlk_cons, zbeq_self, cond_true]
theorem zg_ne {α : Type} (t : zT α) {i j : Nat} (c : α) (h : j ≠ i) : zg (zu t i c) j = zg t j := by
  unfold zg zu
  simp only [zlk_cons, zbeq_ne (Ne.symm h), cond_false, zlk_rm_ne h]
theorem zag_cons (d : zA) (ov : List (Nat × zA)) (i : Nat) (a : zA) (j : Nat) : zag d ((i, a) :: ov) j = if j = i then a else zag d ov j := by
  unfold zag
  rw [zlk_cons]
  by_cases h : j = i
  · subst h
    simp only [zbeq_self, cond_true, if_true]
  · simp only [zbeq_ne (Ne.symm h), cond_false, if_neg h]
