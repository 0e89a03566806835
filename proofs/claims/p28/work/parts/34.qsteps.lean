theorem fa_i2b {x : Int32} (h1 : -128 ≤ x.toInt) (h2 : x.toInt ≤ 127) : x.toInt8.toInt32 = x := by
  apply Int32.toInt_inj.mp
  rw [Int8.toInt_toInt32, Int32.toInt_toInt8]
  rw [Int.bmod_eq_of_le (by omega) (by omega)]
theorem fa_i2c {x : Int32} (h1 : 0 ≤ x.toInt) (h2 : x.toInt ≤ 65535) : x.toUInt32.toUInt16.toUInt32.toInt32 = x := by
  have hx : x.toUInt32.toNat = x.toInt.toNat := by
    have h3 : (x.toUInt32.toNat : Int) = x.toInt := by
      have h4 : x.toInt = (x.toUInt32.toNat : Int).bmod (2 ^ 32) := by
        rw [← Int32.toInt_toBitVec, BitVec.toInt_eq_toNat_bmod]
        rfl
      have h5 := x.toUInt32.toNat_lt
      rw [Int.bmod_def] at h4
      have h6 : ((x.toUInt32.toNat : Int) % ((2 ^ 32 : Nat) : Int)) = x.toUInt32.toNat := Int.emod_eq_of_lt (by omega) (by omega)
      rw [h6] at h4
      split at h4 <;> omega
    omega
  have e1 : x.toUInt32.toUInt16.toUInt32 = x.toUInt32 := by
    apply UInt32.toNat_inj.mp
    rw [UInt16.toNat_toUInt32, UInt32.toNat_toUInt16, hx]
    exact Nat.mod_eq_of_lt (by omega)
  rw [e1]
  rfl
theorem q32_add (x y : Int32) : (x + y).toInt = q32 (x.toInt + y.toInt) := by
  unfold q32
  rw [Int32.ofInt_add, fb_asI, fb_asI]
theorem q32_sub (x y : Int32) : (x - y).toInt = q32 (x.toInt - y.toInt) := by
  unfold q32
  rw [Int32.ofInt_sub, fb_asI, fb_asI]
theorem q32_mul (x y : Int32) : (x * y).toInt = q32 (x.toInt * y.toInt) := by
  unfold q32
  rw [Int32.ofInt_mul, fb_asI, fb_asI]
theorem q64_add (x y : Int64) : (x + y).toInt = q64 (x.toInt + y.toInt) := by
  unfold q64
  rw [Int64.ofInt_add, fb_asL, fb_asL]
theorem q64_sub (x y : Int64) : (x - y).toInt = q64 (x.toInt - y.toInt) := by
  unfold q64
  rw [Int64.ofInt_sub, fb_asL, fb_asL]
theorem q64_mul (x y : Int64) : (x * y).toInt = q64 (x.toInt * y.toInt) := by
  unfold q64
  rw [Int64.ofInt_mul, fb_asL, fb_asL]
theorem q32_l2i (x : Int64) : x.toInt32.toInt = q32 x.toInt := by
  unfold q32
  rw [Int64.toInt_toInt32, Int32.toInt_ofInt]
theorem qlcmp_ok (x y : Int64) : (lg_cmp x y).toInt = qlcmp x.toInt y.toInt := by
  unfold lg_cmp qlcmp
  by_cases h1 : y < x
  · have h3 := (fa_lt64 _ _).mp h1
    simp only [h1, h3, if_true]
    rfl
  · have h3 : ¬ y.toInt < x.toInt := fun q => h1 ((fa_lt64 _ _).mpr q)
    by_cases h2 : x = y
    · subst h2
      simp only [h1, h3, if_true, if_false]
      first | rfl | (simp; done)
    · have h4 : ¬ x.toInt = y.toInt := fun q => h2 ((fa_eq64 _ _).mpr q)
      simp only [h1, h3, h2, h4, if_false]
      first | rfl | (simp; done)
theorem qrel_ok (k : Jvm.ClassFile.Cond) (x y : Int32) : zrel k x y ↔ qrel k x.toInt y.toInt := by
  cases k with
  | eq => exact fa_eq x y
  | ne => exact not_congr (fa_eq x y)
  | lt => exact fa_lt x y
  | ge => exact fa_le y x
  | gt => exact fa_lt y x
  | le => exact fa_le x y
theorem qneg_ok (k : Jvm.ClassFile.Cond) (a b : Int) : ¬ qrel k a b → qneg k a b := by
  cases k <;> simp only [qrel, qneg] <;> omega
def qlen : List Nat := [4, 4, 4, 4, 1, 1]
def qsi : List Nat := [81, 82, 83, 84, 85, 87]
def qtx : List String := ["from", "base", "free", "take", "/", ";"]
/-- what is known of things outside -/
def qX (g : qG) (A : Nat → Prop) (U : State) (H : Heap) : Prop := (∀ w ∈ zNs, va_Nw w U) ∧
  (va_Z "LetterDebts" "ABOVE" "[I" (.ref (g.1 1)) A U H ∧ va_T .int (g.1 1) 8 (fun j => .int (Int32.ofInt ((ztb 0).getD j 0))) A U H) ∧
  (va_Z "LetterDebts" "MARKS" "[I" (.ref (g.1 2)) A U H ∧ va_T .int (g.1 2) 8 (fun j => .int (Int32.ofInt ((ztb 1).getD j 0))) A U H) ∧
  va_Z "java/lang/String" "COMPACT_STRINGS" "Z" (.int 1) A U H ∧
  (va_Z "jdk/internal/util/Preconditions" "SIOOBE_FORMATTER" "Ljava/util/function/BiFunction;" g.2 A U H ∧ g.2.category = 1) ∧
  vk_S 6 qlen qsl (fun i => g.1 (10 + i)) (fun i => g.1 (20 + i)) A U H ∧
  ∀ i, i < 6 → vk_R RX7 (qsi.getD i 0) (qtx.getD i "") (g.1 (10 + i)) U
def qCx (p : Program) (s : State) (m : MethodId) (args : Array Value) (meth : Method) (c : Code) (cc : ByteArray) (nL : Nat) (own : String) (D : va_G) (kk : Nat → ClassId) (A : Nat → Prop) (g : qG) (t : qT) : Prop :=
  p.tables.exec = Jvm.exec ∧ c.code = cc ∧ c.maxLocals = nL ∧ s.vm.findClass own = some m.cls ∧ (∀ w ∈ zW, w.before args s = true) ∧ va_K D vwCl (zKs kk) s ∧ (∀ q, s.heap.size ≤ q → A q) ∧ qX g A s s.heap ∧ (∀ x, t = some x → ∃ (L : Nat) (xs : Nat → Int32), x.1 = L ∧ L ≤ 100000 ∧ (∀ j : Nat, j < L → x.2 j = (xs j).toInt) ∧ va_X (g.1 0) L xs s s.heap ∧ g.1 0 < s.heap.size ∧ ¬ A (g.1 0))
def qSt (s : State) (D : va_G) (kk : Nat → ClassId) (A : Nat → Prop) (g : qG) (ad : List Nat) (nL : Nat) (ls : qL) (st : List qV) (μ : qM) (ar : Array Slot) (sv : List Value) (H : Heap) (locs : List Loc) : Prop :=
  ∃ (ws : va_W) (lv : List (Nat × Value)), qHr ad kk μ ws ∧ lv_has ar nL lv ∧ qLr g ad ls lv ∧ qVs g ad st sv ∧ va_P D vwCl ws H ∧ va_D A ws ∧ va_S A s.heap H locs
/-- from every state of the machine that the q-layer's state says the truth of, the machine comes to Q -/
def qWn (p : Program) (l : Launch) (e : Env) (R : Room) (s : State) (m : MethodId) (args : Array Value) (below : List Frame) (meth : Method) (c : Code) (Q : State → Prop) (D : va_G) (kk : Nat → ClassId) (A : Nat → Prop) (g : qG) (ad : List Nat) (nL nc ns : Nat) : qK := fun pc ls st μ =>
  ∀ (ar : Array Slot) (sv : List Value) (H : Heap) (locs : List Loc), qSt s D kk A g ad nL ls st μ ar sv H locs → W p l e R s m args below meth c H locs nc ns Q (F0 m pc ar sv)
theorem qCr_congr {ad : List Nat} {kk : Nat → ClassId} {μ μ' : qM} {i : Nat} (h : ∀ j : Int, μ' i j = μ i j) : ∀ {c : qS} {e : va_E}, qCr ad kk μ i c e → qCr ad kk μ' i c e
  | .inl (ci, fs), e, hc => by
    obtain ⟨vs, h1, h2, h3⟩ := hc
    refine ⟨vs, h1, h2, fun k o hk => ?_⟩
    obtain ⟨v, h4, h5⟩ := h3 k o hk
    refine ⟨v, h4, ?_⟩
    unfold qFr at h5 ⊢
    split at h5
    · obtain ⟨x, h6, h7⟩ := h5
      exact ⟨x, h6, by rw [h]; exact h7⟩
    · exact h5
    · obtain ⟨x, h6, h7⟩ := h5
      exact ⟨x, h6, by rw [h]; exact h7⟩
  | .inr (k, n, l), e, hc => by
    rcases hc with ⟨h1, f, h2, h3⟩ | ⟨h1, f, h2, h3⟩ | ⟨h1, h1b, f, h2, h3⟩
    · exact Or.inl ⟨h1, f, h2, fun j hj => by rw [h]; exact h3 j hj⟩
    · exact Or.inr (Or.inl ⟨h1, f, h2, fun j hj => by rw [h]; exact h3 j hj⟩)
    · exact Or.inr (Or.inr ⟨h1, h1b, f, h2, h3⟩)
theorem qHr_set {ad : List Nat} {kk : Nat → ClassId} {μ μ' : qM} {i q : Nat} {e0 e1 : va_E} {c1 : qS} {ws : va_W} (hh : qHr ad kk μ ws) (h1 : ws[i]? = some (q, e0)) (hc : qsh[i]? = some c1) (hμ : ∀ c : Int, c ≠ (i : Int) → ∀ j, μ' c j = μ c j) (h2 : qCr ad kk μ' i c1 e1) : qHr ad kk μ' (ws.set i (q, e1)) := by
  refine ⟨by rw [zmap_set h1]; exact hh.1, fun j c0 hj => ?_⟩
  by_cases e : j = i
  · subst e
    rw [hc] at hj
    cases hj
    exact ⟨q, e1, by rw [List.getElem?_set]; simp [(List.getElem?_eq_some_iff.mp h1).1], h2⟩
  · obtain ⟨q1, e2, h3, h4⟩ := hh.2 j c0 hj
    exact ⟨q1, e2, by rw [List.getElem?_set]; simp [Ne.symm e, h3], qCr_congr (fun k => hμ j (by omega) k) h4⟩
theorem qat_ad {ad : List Nat} {kk : Nat → ClassId} {μ : qM} {ws : va_W} {i q q' : Nat} {e : va_E} (hh : qHr ad kk μ ws) (h1 : ad[i]? = some q) (h2 : ws[i]? = some (q', e)) : q' = q := by
  rw [← hh.1] at h1
  exact zat h1 h2
theorem qu_same (μ : qM) (c i v : Int) : qu μ c i v c i = v := by
  unfold qu
  simp
theorem qu_ne {μ : qM} {c i v c' i' : Int} (h : ¬ (c' = c ∧ i' = i)) : qu μ c i v c' i' = μ c' i' := by
  unfold qu
  rw [if_neg h]
theorem qu_cell {μ : qM} {c i v c' : Int} (h : c' ≠ c) (j : Int) : qu μ c i v c' j = μ c' j := qu_ne (fun q => h q.1)
section QH
variable {p : Program} {l : Launch} {e : Env} {R : Room} {s : State} {m : MethodId} {args : Array Value} {below : List Frame} {meth : Method} {c : Code} {Q : State → Prop} {D : va_G} {kk : Nat → ClassId} {A : Nat → Prop} {g : qG} {ad : List Nat} {nL nc ns : Nat} {cc : ByteArray} {own : String} {t : qT} {pc : Nat} {ls : qL} {st : List qV} {μ : qM}
theorem qh_iload_n (hC : qCx p s m args meth c cc nL own D kk A g t) {n : Fin 4} (hd : decode cc pc = .ok (.iload_n n, 1)) (hs : qs_iload n (qWn p l e R s m args below meth c Q D kk A g ad nL nc ns (pc + 1)) ls st μ) : qWn p l e R s m args below meth c Q D kk A g ad nL nc ns pc ls st μ := by
  unfold qs_iload at hs
  split at hs
  · rename_i a ha
    intro ar sv H locs ⟨ws, lv, hh, hl, hL, hF, hP, hD, hS⟩
    obtain ⟨w, hw, x, rfl, rfl⟩ := hL _ _ ha
    exact lv_iload_n hC.1 hC.2.1 hd rfl (hl.2.2 _ hw) (hs ar _ H locs ⟨ws, lv, hh, hl, hL, ⟨⟨x, rfl, rfl⟩, hF⟩, hP, hD, hS⟩)
  · exact hs.elim
theorem qh_iload (hC : qCx p s m args meth c cc nL own D kk A g t) {n : Nat} (hd : decode cc pc = .ok (.iload n, 2)) (hs : qs_iload n (qWn p l e R s m args below meth c Q D kk A g ad nL nc ns (pc + 2)) ls st μ) : qWn p l e R s m args below meth c Q D kk A g ad nL nc ns pc ls st μ := by
  unfold qs_iload at hs
  split at hs
  · rename_i a ha
    intro ar sv H locs ⟨ws, lv, hh, hl, hL, hF, hP, hD, hS⟩
    obtain ⟨w, hw, x, rfl, rfl⟩ := hL _ _ ha
    exact lv_iload hC.1 hC.2.1 hd (hl.2.2 _ hw) (hs ar _ H locs ⟨ws, lv, hh, hl, hL, ⟨⟨x, rfl, rfl⟩, hF⟩, hP, hD, hS⟩)
  · exact hs.elim
theorem qh_lload_n (hC : qCx p s m args meth c cc nL own D kk A g t) {n : Fin 4} (hd : decode cc pc = .ok (.lload_n n, 1)) (hs : qs_lload n (qWn p l e R s m args below meth c Q D kk A g ad nL nc ns (pc + 1)) ls st μ) : qWn p l e R s m args below meth c Q D kk A g ad nL nc ns pc ls st μ := by
  unfold qs_lload at hs
  split at hs
  · rename_i a ha
    intro ar sv H locs ⟨ws, lv, hh, hl, hL, hF, hP, hD, hS⟩
    obtain ⟨w, hw, x, rfl, rfl⟩ := hL _ _ ha
    exact lv_lload_n hC.1 hC.2.1 hd rfl (hl.2.2 _ hw) (hs ar _ H locs ⟨ws, lv, hh, hl, hL, ⟨⟨x, rfl, rfl⟩, hF⟩, hP, hD, hS⟩)
  · exact hs.elim
theorem qh_lload (hC : qCx p s m args meth c cc nL own D kk A g t) {n : Nat} (hd : decode cc pc = .ok (.lload n, 2)) (hs : qs_lload n (qWn p l e R s m args below meth c Q D kk A g ad nL nc ns (pc + 2)) ls st μ) : qWn p l e R s m args below meth c Q D kk A g ad nL nc ns pc ls st μ := by
  unfold qs_lload at hs
  split at hs
  · rename_i a ha
    intro ar sv H locs ⟨ws, lv, hh, hl, hL, hF, hP, hD, hS⟩
    obtain ⟨w, hw, x, rfl, rfl⟩ := hL _ _ ha
    exact lv_lload hC.1 hC.2.1 hd (hl.2.2 _ hw) (hs ar _ H locs ⟨ws, lv, hh, hl, hL, ⟨⟨x, rfl, rfl⟩, hF⟩, hP, hD, hS⟩)
  · exact hs.elim
theorem qh_aload_n (hC : qCx p s m args meth c cc nL own D kk A g t) {n : Fin 4} (hd : decode cc pc = .ok (.aload_n n, 1)) (hs : qs_aload n (qWn p l e R s m args below meth c Q D kk A g ad nL nc ns (pc + 1)) ls st μ) : qWn p l e R s m args below meth c Q D kk A g ad nL nc ns pc ls st μ := by
  unfold qs_aload at hs
  split at hs
  · rename_i a ha
    intro ar sv H locs ⟨ws, lv, hh, hl, hL, hF, hP, hD, hS⟩
    obtain ⟨w, hw, q, h1, rfl, h2⟩ := hL _ _ ha
    exact lv_aload_n hC.1 hC.2.1 hd rfl (hl.2.2 _ hw) (hs ar _ H locs ⟨ws, lv, hh, hl, hL, ⟨⟨q, h1, rfl, h2⟩, hF⟩, hP, hD, hS⟩)
  · rename_i a ha
    intro ar sv H locs ⟨ws, lv, hh, hl, hL, hF, hP, hD, hS⟩
    obtain ⟨w, hw, hV⟩ := hL _ _ ha
    rcases id hV with ⟨h1, -⟩ | ⟨-, rfl⟩
    · exact absurd h1 hs.1
    · exact lv_aload_n hC.1 hC.2.1 hd rfl (hl.2.2 _ hw) (hs.2 ar _ H locs ⟨ws, lv, hh, hl, hL, ⟨hV, hF⟩, hP, hD, hS⟩)
  · exact hs.elim
theorem qh_aload (hC : qCx p s m args meth c cc nL own D kk A g t) {n : Nat} (hd : decode cc pc = .ok (.aload n, 2)) (hs : qs_aload n (qWn p l e R s m args below meth c Q D kk A g ad nL nc ns (pc + 2)) ls st μ) : qWn p l e R s m args below meth c Q D kk A g ad nL nc ns pc ls st μ := by
  unfold qs_aload at hs
  split at hs
  · rename_i a ha
    intro ar sv H locs ⟨ws, lv, hh, hl, hL, hF, hP, hD, hS⟩
    obtain ⟨w, hw, q, h1, rfl, h2⟩ := hL _ _ ha
    exact lv_aload hC.1 hC.2.1 hd (hl.2.2 _ hw) (hs ar _ H locs ⟨ws, lv, hh, hl, hL, ⟨⟨q, h1, rfl, h2⟩, hF⟩, hP, hD, hS⟩)
  · rename_i a ha
    intro ar sv H locs ⟨ws, lv, hh, hl, hL, hF, hP, hD, hS⟩
    obtain ⟨w, hw, hV⟩ := hL _ _ ha
    rcases id hV with ⟨h1, -⟩ | ⟨-, rfl⟩
    · exact absurd h1 hs.1
    · exact lv_aload hC.1 hC.2.1 hd (hl.2.2 _ hw) (hs.2 ar _ H locs ⟨ws, lv, hh, hl, hL, ⟨hV, hF⟩, hP, hD, hS⟩)
  · exact hs.elim
theorem qh_istore_n (hC : qCx p s m args meth c cc nL own D kk A g t) {n : Fin 4} (hn : (n : Nat) < nL) (hd : decode cc pc = .ok (.istore_n n, 1)) (hs : qs_istore n (qWn p l e R s m args below meth c Q D kk A g ad nL nc ns (pc + 1)) ls st μ) : qWn p l e R s m args below meth c Q D kk A g ad nL nc ns pc ls st μ := by
  unfold qs_istore at hs
  split at hs
  · rename_i a st0
    intro ar sv H locs ⟨ws, lv, hh, hl, hL, hF, hP, hD, hS⟩
    obtain ⟨v, vs, rfl, hV, hF1⟩ := qVs_cons hF
    obtain ⟨x, rfl, rfl⟩ := id hV
    exact lv_istore_n hC.1 hC.2.1 hd rfl hl hn rfl (fun ar' hl' => hs ar' _ H locs ⟨ws, _, hh, hl', qLr_set hL hV, hF1, hP, hD, hS⟩)
  · exact hs.elim
theorem qh_istore (hC : qCx p s m args meth c cc nL own D kk A g t) {n : Nat} (hn : n < nL) (hd : decode cc pc = .ok (.istore n, 2)) (hs : qs_istore n (qWn p l e R s m args below meth c Q D kk A g ad nL nc ns (pc + 2)) ls st μ) : qWn p l e R s m args below meth c Q D kk A g ad nL nc ns pc ls st μ := by
  unfold qs_istore at hs
  split at hs
  · rename_i a st0
    intro ar sv H locs ⟨ws, lv, hh, hl, hL, hF, hP, hD, hS⟩
    obtain ⟨v, vs, rfl, hV, hF1⟩ := qVs_cons hF
    obtain ⟨x, rfl, rfl⟩ := id hV
    exact lv_istore hC.1 hC.2.1 hd hl hn rfl (fun ar' hl' => hs ar' _ H locs ⟨ws, _, hh, hl', qLr_set hL hV, hF1, hP, hD, hS⟩)
  · exact hs.elim
theorem qh_astore_n (hC : qCx p s m args meth c cc nL own D kk A g t) {n : Fin 4} (hn : (n : Nat) < nL) (hd : decode cc pc = .ok (.astore_n n, 1)) (hs : qs_astore n (qWn p l e R s m args below meth c Q D kk A g ad nL nc ns (pc + 1)) ls st μ) : qWn p l e R s m args below meth c Q D kk A g ad nL nc ns pc ls st μ := by
  unfold qs_astore at hs
  split at hs
  · rename_i a st0
    intro ar sv H locs ⟨ws, lv, hh, hl, hL, hF, hP, hD, hS⟩
    obtain ⟨v, vs, rfl, hV, hF1⟩ := qVs_cons hF
    obtain ⟨q, h1, rfl, h2⟩ := id hV
    exact lv_astore_n hC.1 hC.2.1 hd rfl hl hn rfl (fun ar' hl' => hs ar' _ H locs ⟨ws, _, hh, hl', qLr_set hL hV, hF1, hP, hD, hS⟩)
  · exact hs.elim
theorem qh_astore (hC : qCx p s m args meth c cc nL own D kk A g t) {n : Nat} (hn : n < nL) (hd : decode cc pc = .ok (.astore n, 2)) (hs : qs_astore n (qWn p l e R s m args below meth c Q D kk A g ad nL nc ns (pc + 2)) ls st μ) : qWn p l e R s m args below meth c Q D kk A g ad nL nc ns pc ls st μ := by
  unfold qs_astore at hs
  split at hs
  · rename_i a st0
    intro ar sv H locs ⟨ws, lv, hh, hl, hL, hF, hP, hD, hS⟩
    obtain ⟨v, vs, rfl, hV, hF1⟩ := qVs_cons hF
    obtain ⟨q, h1, rfl, h2⟩ := id hV
    exact lv_astore hC.1 hC.2.1 hd hl hn rfl (fun ar' hl' => hs ar' _ H locs ⟨ws, _, hh, hl', qLr_set hL hV, hF1, hP, hD, hS⟩)
  · exact hs.elim
theorem qh_lstore_n (hC : qCx p s m args meth c cc nL own D kk A g t) {n : Fin 4} (hn : (n : Nat) + 1 < nL) (hd : decode cc pc = .ok (.lstore_n n, 1)) (hs : qs_lstore n (qWn p l e R s m args below meth c Q D kk A g ad nL nc ns (pc + 1)) ls st μ) : qWn p l e R s m args below meth c Q D kk A g ad nL nc ns pc ls st μ := by
  unfold qs_lstore at hs
  split at hs
  · rename_i a st0
    intro ar sv H locs ⟨ws, lv, hh, hl, hL, hF, hP, hD, hS⟩
    obtain ⟨v, vs, rfl, hV, hF1⟩ := qVs_cons hF
    obtain ⟨x, rfl, rfl⟩ := id hV
    exact lv_lstore_n hC.1 hC.2.1 hd rfl hl hn rfl (fun ar' hl' => hs ar' _ H locs ⟨ws, _, hh, hl', qLr_set2 hL hV, hF1, hP, hD, hS⟩)
  · exact hs.elim
theorem qh_lstore (hC : qCx p s m args meth c cc nL own D kk A g t) {n : Nat} (hn : n + 1 < nL) (hd : decode cc pc = .ok (.lstore n, 2)) (hs : qs_lstore n (qWn p l e R s m args below meth c Q D kk A g ad nL nc ns (pc + 2)) ls st μ) : qWn p l e R s m args below meth c Q D kk A g ad nL nc ns pc ls st μ := by
  unfold qs_lstore at hs
  split at hs
  · rename_i a st0
    intro ar sv H locs ⟨ws, lv, hh, hl, hL, hF, hP, hD, hS⟩
    obtain ⟨v, vs, rfl, hV, hF1⟩ := qVs_cons hF
    obtain ⟨x, rfl, rfl⟩ := id hV
    exact lv_lstore hC.1 hC.2.1 hd hl hn rfl (fun ar' hl' => hs ar' _ H locs ⟨ws, _, hh, hl', qLr_set2 hL hV, hF1, hP, hD, hS⟩)
  · exact hs.elim
theorem qh_iconst (hC : qCx p s m args meth c cc nL own D kk A g t) {n : Int} (hr : -2147483648 ≤ n ∧ n < 2147483648) (hd : decode cc pc = .ok (.iconst n, 1)) (hs : qs_push (.inl n) (qWn p l e R s m args below meth c Q D kk A g ad nL nc ns (pc + 1)) ls st μ) : qWn p l e R s m args below meth c Q D kk A g ad nL nc ns pc ls st μ := by
  intro ar sv H locs ⟨ws, lv, hh, hl, hL, hF, hP, hD, hS⟩
  exact lv_iconst (v := Int32.ofInt n) hC.1 hC.2.1 hd rfl (hs ar _ H locs ⟨ws, lv, hh, hl, hL, ⟨⟨_, rfl, fb_ofI hr.1 hr.2⟩, hF⟩, hP, hD, hS⟩)
theorem qh_bipush (hC : qCx p s m args meth c cc nL own D kk A g t) {n : Int} (hr : -2147483648 ≤ n ∧ n < 2147483648) (hb : (Int8.ofInt n).toInt32 = Int32.ofInt n) (hd : decode cc pc = .ok (.bipush n, 2)) (hs : qs_push (.inl n) (qWn p l e R s m args below meth c Q D kk A g ad nL nc ns (pc + 2)) ls st μ) : qWn p l e R s m args below meth c Q D kk A g ad nL nc ns pc ls st μ := by
  intro ar sv H locs ⟨ws, lv, hh, hl, hL, hF, hP, hD, hS⟩
  exact lv_bipush (v := Int32.ofInt n) hC.1 hC.2.1 hd hb (hs ar _ H locs ⟨ws, lv, hh, hl, hL, ⟨⟨_, rfl, fb_ofI hr.1 hr.2⟩, hF⟩, hP, hD, hS⟩)
theorem qh_sipush (hC : qCx p s m args meth c cc nL own D kk A g t) {n : Int} (hr : -2147483648 ≤ n ∧ n < 2147483648) (hb : (Int16.ofInt n).toInt32 = Int32.ofInt n) (hd : decode cc pc = .ok (.sipush n, 3)) (hs : qs_push (.inl n) (qWn p l e R s m args below meth c Q D kk A g ad nL nc ns (pc + 3)) ls st μ) : qWn p l e R s m args below meth c Q D kk A g ad nL nc ns pc ls st μ := by
  intro ar sv H locs ⟨ws, lv, hh, hl, hL, hF, hP, hD, hS⟩
  exact lv_sipush (v := Int32.ofInt n) hC.1 hC.2.1 hd hb (hs ar _ H locs ⟨ws, lv, hh, hl, hL, ⟨⟨_, rfl, fb_ofI hr.1 hr.2⟩, hF⟩, hP, hD, hS⟩)
theorem qh_lconst (hC : qCx p s m args meth c cc nL own D kk A g t) {n : Fin 2} (hd : decode cc pc = .ok (.lconst n, 1)) (hs : qs_push (.inr (.inl ((n : Nat) : Int))) (qWn p l e R s m args below meth c Q D kk A g ad nL nc ns (pc + 1)) ls st μ) : qWn p l e R s m args below meth c Q D kk A g ad nL nc ns pc ls st μ := by
  intro ar sv H locs ⟨ws, lv, hh, hl, hL, hF, hP, hD, hS⟩
  refine lv_lconst (v := Int64.ofNat (n : Nat)) hC.1 hC.2.1 hd rfl (hs ar _ H locs ⟨ws, lv, hh, hl, hL, ⟨⟨_, rfl, ?_⟩, hF⟩, hP, hD, hS⟩)
  rcases n with ⟨n, hn⟩
  rcases (show n = 0 ∨ n = 1 by omega) with rfl | rfl <;> rfl
theorem qh_ldc_w (hC : qCx p s m args meth c cc nL own D kk A g t) {i : Nat} {v : Int32} (hw : Jvm.Cond.constant own i v ∈ zW) (hd : decode cc pc = .ok (.ldc_w i, 3)) (hs : qs_push (.inl v.toInt) (qWn p l e R s m args below meth c Q D kk A g ad nL nc ns (pc + 3)) ls st μ) : qWn p l e R s m args below meth c Q D kk A g ad nL nc ns pc ls st μ := by
  intro ar sv H locs ⟨ws, lv, hh, hl, hL, hF, hP, hD, hS⟩
  exact lv_ldcw hC.1 hC.2.1 hC.2.2.2.1 (hC.2.2.2.2.1 _ hw) hd (hs ar _ H locs ⟨ws, lv, hh, hl, hL, ⟨⟨_, rfl, rfl⟩, hF⟩, hP, hD, hS⟩)
theorem qh_ldc2_w (hC : qCx p s m args meth c cc nL own D kk A g t) {i : Nat} {v : Int64} (hw : Jvm.Cond.constantLong own i v ∈ zW) (hd : decode cc pc = .ok (.ldc2_w i, 3)) (hs : qs_push (.inr (.inl v.toInt)) (qWn p l e R s m args below meth c Q D kk A g ad nL nc ns (pc + 3)) ls st μ) : qWn p l e R s m args below meth c Q D kk A g ad nL nc ns pc ls st μ := by
  intro ar sv H locs ⟨ws, lv, hh, hl, hL, hF, hP, hD, hS⟩
  exact lv_ldc2 hC.1 hC.2.1 hC.2.2.2.1 (hC.2.2.2.2.1 _ hw) hd (hs ar _ H locs ⟨ws, lv, hh, hl, hL, ⟨⟨_, rfl, rfl⟩, hF⟩, hP, hD, hS⟩)
theorem qh_ldc (hC : qCx p s m args meth c cc nL own D kk A g t) {i r1 : Nat} (ho : own = RX7) (hr1 : r1 < 6) (hi : qsi.getD r1 0 = i) (hd : decode cc pc = .ok (.ldc i, 2)) (hs : qs_push (.inr (.inr (.inr (10 + r1)))) (qWn p l e R s m args below meth c Q D kk A g ad nL nc ns (pc + 2)) ls st μ) : qWn p l e R s m args below meth c Q D kk A g ad nL nc ns pc ls st μ := by
  intro ar sv H locs ⟨ws, lv, hh, hl, hL, hF, hP, hD, hS⟩
  have h1 := hC.2.2.2.2.2.2.2.1.2.2.2.2.2.2 r1 hr1
  rw [hi, ← ho] at h1
  exact va_ldcS hC.1 hC.2.1 hC.2.2.2.1 h1 hd (hs ar _ H locs ⟨ws, lv, hh, hl, hL, ⟨Or.inr ⟨by omega, rfl⟩, hF⟩, hP, hD, hS⟩)
theorem qh_iadd (hC : qCx p s m args meth c cc nL own D kk A g t)  (hd : decode cc pc = .ok (.iadd, 1)) (hs : qs_b (fun a b => q32 (a + b)) (qWn p l e R s m args below meth c Q D kk A g ad nL nc ns (pc + 1)) ls st μ) : qWn p l e R s m args below meth c Q D kk A g ad nL nc ns pc ls st μ := by
  unfold qs_b at hs
  split at hs
  · rename_i b0 a0 st0
    intro ar sv H locs ⟨ws, lv, hh, hl, hL, hF, hP, hD, hS⟩
    obtain ⟨v2, vs, rfl, ⟨y, rfl, rfl⟩, hF1⟩ := qVs_cons hF
    obtain ⟨v1, vs, rfl, ⟨x, rfl, rfl⟩, hF2⟩ := qVs_cons hF1
    exact lv_iadd hC.1 hC.2.1 hd (hs ar _ H locs ⟨ws, lv, hh, hl, hL, ⟨⟨_, rfl, q32_add x y⟩, hF2⟩, hP, hD, hS⟩)
  · exact hs.elim
theorem qh_isub (hC : qCx p s m args meth c cc nL own D kk A g t)  (hd : decode cc pc = .ok (.isub, 1)) (hs : qs_b (fun a b => q32 (a - b)) (qWn p l e R s m args below meth c Q D kk A g ad nL nc ns (pc + 1)) ls st μ) : qWn p l e R s m args below meth c Q D kk A g ad nL nc ns pc ls st μ := by
  unfold qs_b at hs
  split at hs
  · rename_i b0 a0 st0
    intro ar sv H locs ⟨ws, lv, hh, hl, hL, hF, hP, hD, hS⟩
    obtain ⟨v2, vs, rfl, ⟨y, rfl, rfl⟩, hF1⟩ := qVs_cons hF
    obtain ⟨v1, vs, rfl, ⟨x, rfl, rfl⟩, hF2⟩ := qVs_cons hF1
    exact lv_isub hC.1 hC.2.1 hd (hs ar _ H locs ⟨ws, lv, hh, hl, hL, ⟨⟨_, rfl, q32_sub x y⟩, hF2⟩, hP, hD, hS⟩)
  · exact hs.elim
theorem qh_imul (hC : qCx p s m args meth c cc nL own D kk A g t)  (hd : decode cc pc = .ok (.imul, 1)) (hs : qs_b (fun a b => q32 (a * b)) (qWn p l e R s m args below meth c Q D kk A g ad nL nc ns (pc + 1)) ls st μ) : qWn p l e R s m args below meth c Q D kk A g ad nL nc ns pc ls st μ := by
  unfold qs_b at hs
  split at hs
  · rename_i b0 a0 st0
    intro ar sv H locs ⟨ws, lv, hh, hl, hL, hF, hP, hD, hS⟩
    obtain ⟨v2, vs, rfl, ⟨y, rfl, rfl⟩, hF1⟩ := qVs_cons hF
    obtain ⟨v1, vs, rfl, ⟨x, rfl, rfl⟩, hF2⟩ := qVs_cons hF1
    exact lv_imul hC.1 hC.2.1 hd (hs ar _ H locs ⟨ws, lv, hh, hl, hL, ⟨⟨_, rfl, q32_mul x y⟩, hF2⟩, hP, hD, hS⟩)
  · exact hs.elim
theorem qh_iand (hC : qCx p s m args meth c cc nL own D kk A g t)  (hd : decode cc pc = .ok (.iand, 1)) (hs : qs_b qand (qWn p l e R s m args below meth c Q D kk A g ad nL nc ns (pc + 1)) ls st μ) : qWn p l e R s m args below meth c Q D kk A g ad nL nc ns pc ls st μ := by
  unfold qs_b at hs
  split at hs
  · rename_i b0 a0 st0
    intro ar sv H locs ⟨ws, lv, hh, hl, hL, hF, hP, hD, hS⟩
    obtain ⟨v2, vs, rfl, ⟨y, rfl, rfl⟩, hF1⟩ := qVs_cons hF
    obtain ⟨v1, vs, rfl, ⟨x, rfl, rfl⟩, hF2⟩ := qVs_cons hF1
    exact lv_iand hC.1 hC.2.1 hd (hs ar _ H locs ⟨ws, lv, hh, hl, hL, ⟨⟨_, rfl, by unfold qand; rw [fb_asI, fb_asI]⟩, hF2⟩, hP, hD, hS⟩)
  · exact hs.elim
theorem qh_ior (hC : qCx p s m args meth c cc nL own D kk A g t)  (hd : decode cc pc = .ok (.ior, 1)) (hs : qs_b qior (qWn p l e R s m args below meth c Q D kk A g ad nL nc ns (pc + 1)) ls st μ) : qWn p l e R s m args below meth c Q D kk A g ad nL nc ns pc ls st μ := by
  unfold qs_b at hs
  split at hs
  · rename_i b0 a0 st0
    intro ar sv H locs ⟨ws, lv, hh, hl, hL, hF, hP, hD, hS⟩
    obtain ⟨v2, vs, rfl, ⟨y, rfl, rfl⟩, hF1⟩ := qVs_cons hF
    obtain ⟨v1, vs, rfl, ⟨x, rfl, rfl⟩, hF2⟩ := qVs_cons hF1
    exact lv_ior hC.1 hC.2.1 hd (hs ar _ H locs ⟨ws, lv, hh, hl, hL, ⟨⟨_, rfl, by unfold qior; rw [fb_asI, fb_asI]⟩, hF2⟩, hP, hD, hS⟩)
  · exact hs.elim
theorem qh_ixor (hC : qCx p s m args meth c cc nL own D kk A g t)  (hd : decode cc pc = .ok (.ixor, 1)) (hs : qs_b qxor (qWn p l e R s m args below meth c Q D kk A g ad nL nc ns (pc + 1)) ls st μ) : qWn p l e R s m args below meth c Q D kk A g ad nL nc ns pc ls st μ := by
  unfold qs_b at hs
  split at hs
  · rename_i b0 a0 st0
    intro ar sv H locs ⟨ws, lv, hh, hl, hL, hF, hP, hD, hS⟩
    obtain ⟨v2, vs, rfl, ⟨y, rfl, rfl⟩, hF1⟩ := qVs_cons hF
    obtain ⟨v1, vs, rfl, ⟨x, rfl, rfl⟩, hF2⟩ := qVs_cons hF1
    exact lv_ixor hC.1 hC.2.1 hd (hs ar _ H locs ⟨ws, lv, hh, hl, hL, ⟨⟨_, rfl, by unfold qxor; rw [fb_asI, fb_asI]⟩, hF2⟩, hP, hD, hS⟩)
  · exact hs.elim
theorem qh_ishl (hC : qCx p s m args meth c cc nL own D kk A g t)  (hd : decode cc pc = .ok (.ishl, 1)) (hs : qs_b qshl (qWn p l e R s m args below meth c Q D kk A g ad nL nc ns (pc + 1)) ls st μ) : qWn p l e R s m args below meth c Q D kk A g ad nL nc ns pc ls st μ := by
  unfold qs_b at hs
  split at hs
  · rename_i b0 a0 st0
    intro ar sv H locs ⟨ws, lv, hh, hl, hL, hF, hP, hD, hS⟩
    obtain ⟨v2, vs, rfl, ⟨y, rfl, rfl⟩, hF1⟩ := qVs_cons hF
    obtain ⟨v1, vs, rfl, ⟨x, rfl, rfl⟩, hF2⟩ := qVs_cons hF1
    exact lv_ishl hC.1 hC.2.1 hd (hs ar _ H locs ⟨ws, lv, hh, hl, hL, ⟨⟨_, rfl, by unfold qshl; rw [fb_asI, fb_asI]⟩, hF2⟩, hP, hD, hS⟩)
  · exact hs.elim
theorem qh_ishr (hC : qCx p s m args meth c cc nL own D kk A g t)  (hd : decode cc pc = .ok (.ishr, 1)) (hs : qs_b qshr (qWn p l e R s m args below meth c Q D kk A g ad nL nc ns (pc + 1)) ls st μ) : qWn p l e R s m args below meth c Q D kk A g ad nL nc ns pc ls st μ := by
  unfold qs_b at hs
  split at hs
  · rename_i b0 a0 st0
    intro ar sv H locs ⟨ws, lv, hh, hl, hL, hF, hP, hD, hS⟩
    obtain ⟨v2, vs, rfl, ⟨y, rfl, rfl⟩, hF1⟩ := qVs_cons hF
    obtain ⟨v1, vs, rfl, ⟨x, rfl, rfl⟩, hF2⟩ := qVs_cons hF1
    exact lv_ishr hC.1 hC.2.1 hd (hs ar _ H locs ⟨ws, lv, hh, hl, hL, ⟨⟨_, rfl, by unfold qshr; rw [fb_asI, fb_asI]⟩, hF2⟩, hP, hD, hS⟩)
  · exact hs.elim
theorem qh_iushr (hC : qCx p s m args meth c cc nL own D kk A g t)  (hd : decode cc pc = .ok (.iushr, 1)) (hs : qs_b qushr (qWn p l e R s m args below meth c Q D kk A g ad nL nc ns (pc + 1)) ls st μ) : qWn p l e R s m args below meth c Q D kk A g ad nL nc ns pc ls st μ := by
  unfold qs_b at hs
  split at hs
  · rename_i b0 a0 st0
    intro ar sv H locs ⟨ws, lv, hh, hl, hL, hF, hP, hD, hS⟩
    obtain ⟨v2, vs, rfl, ⟨y, rfl, rfl⟩, hF1⟩ := qVs_cons hF
    obtain ⟨v1, vs, rfl, ⟨x, rfl, rfl⟩, hF2⟩ := qVs_cons hF1
    exact lv_iushr hC.1 hC.2.1 hd rfl (hs ar _ H locs ⟨ws, lv, hh, hl, hL, ⟨⟨_, rfl, by unfold qushr; rw [fb_asI, fb_asI]⟩, hF2⟩, hP, hD, hS⟩)
  · exact hs.elim
theorem qh_idiv (hC : qCx p s m args meth c cc nL own D kk A g t)  (hd : decode cc pc = .ok (.idiv, 1)) (hs : qs_bd qidiv (qWn p l e R s m args below meth c Q D kk A g ad nL nc ns (pc + 1)) ls st μ) : qWn p l e R s m args below meth c Q D kk A g ad nL nc ns pc ls st μ := by
  unfold qs_bd at hs
  split at hs
  · rename_i b0 a0 st0
    intro ar sv H locs ⟨ws, lv, hh, hl, hL, hF, hP, hD, hS⟩
    obtain ⟨v2, vs, rfl, ⟨y, rfl, rfl⟩, hF1⟩ := qVs_cons hF
    obtain ⟨v1, vs, rfl, ⟨x, rfl, rfl⟩, hF2⟩ := qVs_cons hF1
    exact lv_idiv hC.1 hC.2.1 hd (fun q => hs.1 (by rw [q]; rfl)) (hs.2 ar _ H locs ⟨ws, lv, hh, hl, hL, ⟨⟨_, rfl, by unfold qidiv; rw [fb_asI, fb_asI]⟩, hF2⟩, hP, hD, hS⟩)
  · exact hs.elim
theorem qh_irem (hC : qCx p s m args meth c cc nL own D kk A g t)  (hd : decode cc pc = .ok (.irem, 1)) (hs : qs_bd qirem (qWn p l e R s m args below meth c Q D kk A g ad nL nc ns (pc + 1)) ls st μ) : qWn p l e R s m args below meth c Q D kk A g ad nL nc ns pc ls st μ := by
  unfold qs_bd at hs
  split at hs
  · rename_i b0 a0 st0
    intro ar sv H locs ⟨ws, lv, hh, hl, hL, hF, hP, hD, hS⟩
    obtain ⟨v2, vs, rfl, ⟨y, rfl, rfl⟩, hF1⟩ := qVs_cons hF
    obtain ⟨v1, vs, rfl, ⟨x, rfl, rfl⟩, hF2⟩ := qVs_cons hF1
    exact lv_irem hC.1 hC.2.1 hd (fun q => hs.1 (by rw [q]; rfl)) (hs.2 ar _ H locs ⟨ws, lv, hh, hl, hL, ⟨⟨_, rfl, by unfold qirem; rw [fb_asI, fb_asI]⟩, hF2⟩, hP, hD, hS⟩)
  · exact hs.elim
theorem qh_ladd (hC : qCx p s m args meth c cc nL own D kk A g t)  (hd : decode cc pc = .ok (.ladd, 1)) (hs : qs_l (fun a b => q64 (a + b)) (qWn p l e R s m args below meth c Q D kk A g ad nL nc ns (pc + 1)) ls st μ) : qWn p l e R s m args below meth c Q D kk A g ad nL nc ns pc ls st μ := by
  unfold qs_l at hs
  split at hs
  · rename_i b0 a0 st0
    intro ar sv H locs ⟨ws, lv, hh, hl, hL, hF, hP, hD, hS⟩
    obtain ⟨v2, vs, rfl, ⟨y, rfl, rfl⟩, hF1⟩ := qVs_cons hF
    obtain ⟨v1, vs, rfl, ⟨x, rfl, rfl⟩, hF2⟩ := qVs_cons hF1
    exact lv_ladd hC.1 hC.2.1 hd (hs ar _ H locs ⟨ws, lv, hh, hl, hL, ⟨⟨_, rfl, q64_add x y⟩, hF2⟩, hP, hD, hS⟩)
  · exact hs.elim
theorem qh_lsub (hC : qCx p s m args meth c cc nL own D kk A g t)  (hd : decode cc pc = .ok (.lsub, 1)) (hs : qs_l (fun a b => q64 (a - b)) (qWn p l e R s m args below meth c Q D kk A g ad nL nc ns (pc + 1)) ls st μ) : qWn p l e R s m args below meth c Q D kk A g ad nL nc ns pc ls st μ := by
  unfold qs_l at hs
  split at hs
  · rename_i b0 a0 st0
    intro ar sv H locs ⟨ws, lv, hh, hl, hL, hF, hP, hD, hS⟩
    obtain ⟨v2, vs, rfl, ⟨y, rfl, rfl⟩, hF1⟩ := qVs_cons hF
    obtain ⟨v1, vs, rfl, ⟨x, rfl, rfl⟩, hF2⟩ := qVs_cons hF1
    exact lv_lsub hC.1 hC.2.1 hd (hs ar _ H locs ⟨ws, lv, hh, hl, hL, ⟨⟨_, rfl, q64_sub x y⟩, hF2⟩, hP, hD, hS⟩)
  · exact hs.elim
theorem qh_lmul (hC : qCx p s m args meth c cc nL own D kk A g t)  (hd : decode cc pc = .ok (.lmul, 1)) (hs : qs_l (fun a b => q64 (a * b)) (qWn p l e R s m args below meth c Q D kk A g ad nL nc ns (pc + 1)) ls st μ) : qWn p l e R s m args below meth c Q D kk A g ad nL nc ns pc ls st μ := by
  unfold qs_l at hs
  split at hs
  · rename_i b0 a0 st0
    intro ar sv H locs ⟨ws, lv, hh, hl, hL, hF, hP, hD, hS⟩
    obtain ⟨v2, vs, rfl, ⟨y, rfl, rfl⟩, hF1⟩ := qVs_cons hF
    obtain ⟨v1, vs, rfl, ⟨x, rfl, rfl⟩, hF2⟩ := qVs_cons hF1
    exact lv_lmul hC.1 hC.2.1 hd (hs ar _ H locs ⟨ws, lv, hh, hl, hL, ⟨⟨_, rfl, q64_mul x y⟩, hF2⟩, hP, hD, hS⟩)
  · exact hs.elim
theorem qh_land (hC : qCx p s m args meth c cc nL own D kk A g t)  (hd : decode cc pc = .ok (.land, 1)) (hs : qs_l qland (qWn p l e R s m args below meth c Q D kk A g ad nL nc ns (pc + 1)) ls st μ) : qWn p l e R s m args below meth c Q D kk A g ad nL nc ns pc ls st μ := by
  unfold qs_l at hs
  split at hs
  · rename_i b0 a0 st0
    intro ar sv H locs ⟨ws, lv, hh, hl, hL, hF, hP, hD, hS⟩
    obtain ⟨v2, vs, rfl, ⟨y, rfl, rfl⟩, hF1⟩ := qVs_cons hF
    obtain ⟨v1, vs, rfl, ⟨x, rfl, rfl⟩, hF2⟩ := qVs_cons hF1
    exact lv_land hC.1 hC.2.1 hd (hs ar _ H locs ⟨ws, lv, hh, hl, hL, ⟨⟨_, rfl, by unfold qland; rw [fb_asL, fb_asL]⟩, hF2⟩, hP, hD, hS⟩)
  · exact hs.elim
theorem qh_lor (hC : qCx p s m args meth c cc nL own D kk A g t)  (hd : decode cc pc = .ok (.lor, 1)) (hs : qs_l qlor (qWn p l e R s m args below meth c Q D kk A g ad nL nc ns (pc + 1)) ls st μ) : qWn p l e R s m args below meth c Q D kk A g ad nL nc ns pc ls st μ := by
  unfold qs_l at hs
  split at hs
  · rename_i b0 a0 st0
    intro ar sv H locs ⟨ws, lv, hh, hl, hL, hF, hP, hD, hS⟩
    obtain ⟨v2, vs, rfl, ⟨y, rfl, rfl⟩, hF1⟩ := qVs_cons hF
    obtain ⟨v1, vs, rfl, ⟨x, rfl, rfl⟩, hF2⟩ := qVs_cons hF1
    exact lv_lor hC.1 hC.2.1 hd (hs ar _ H locs ⟨ws, lv, hh, hl, hL, ⟨⟨_, rfl, by unfold qlor; rw [fb_asL, fb_asL]⟩, hF2⟩, hP, hD, hS⟩)
  · exact hs.elim
theorem qh_lrem (hC : qCx p s m args meth c cc nL own D kk A g t)  (hd : decode cc pc = .ok (.lrem, 1)) (hs : qs_ld qlrem (qWn p l e R s m args below meth c Q D kk A g ad nL nc ns (pc + 1)) ls st μ) : qWn p l e R s m args below meth c Q D kk A g ad nL nc ns pc ls st μ := by
  unfold qs_ld at hs
  split at hs
  · rename_i b0 a0 st0
    intro ar sv H locs ⟨ws, lv, hh, hl, hL, hF, hP, hD, hS⟩
    obtain ⟨v2, vs, rfl, ⟨y, rfl, rfl⟩, hF1⟩ := qVs_cons hF
    obtain ⟨v1, vs, rfl, ⟨x, rfl, rfl⟩, hF2⟩ := qVs_cons hF1
    exact lv_lrem hC.1 hC.2.1 hd (fun q => hs.1 (by rw [q]; rfl)) (hs.2 ar _ H locs ⟨ws, lv, hh, hl, hL, ⟨⟨_, rfl, by unfold qlrem; rw [fb_asL, fb_asL]⟩, hF2⟩, hP, hD, hS⟩)
  · exact hs.elim
theorem qh_lshl (hC : qCx p s m args meth c cc nL own D kk A g t)  (hd : decode cc pc = .ok (.lshl, 1)) (hs : qs_lsh qlshl (qWn p l e R s m args below meth c Q D kk A g ad nL nc ns (pc + 1)) ls st μ) : qWn p l e R s m args below meth c Q D kk A g ad nL nc ns pc ls st μ := by
  unfold qs_lsh at hs
  split at hs
  · rename_i b0 a0 st0
    intro ar sv H locs ⟨ws, lv, hh, hl, hL, hF, hP, hD, hS⟩
    obtain ⟨v2, vs, rfl, ⟨y, rfl, rfl⟩, hF1⟩ := qVs_cons hF
    obtain ⟨v1, vs, rfl, ⟨x, rfl, rfl⟩, hF2⟩ := qVs_cons hF1
    exact lv_lshl hC.1 hC.2.1 hd rfl (hs ar _ H locs ⟨ws, lv, hh, hl, hL, ⟨⟨_, rfl, by unfold qlshl; rw [fb_asL, fb_asI]⟩, hF2⟩, hP, hD, hS⟩)
  · exact hs.elim
theorem qh_lshr (hC : qCx p s m args meth c cc nL own D kk A g t)  (hd : decode cc pc = .ok (.lshr, 1)) (hs : qs_lsh qlshr (qWn p l e R s m args below meth c Q D kk A g ad nL nc ns (pc + 1)) ls st μ) : qWn p l e R s m args below meth c Q D kk A g ad nL nc ns pc ls st μ := by
  unfold qs_lsh at hs
  split at hs
  · rename_i b0 a0 st0
    intro ar sv H locs ⟨ws, lv, hh, hl, hL, hF, hP, hD, hS⟩
    obtain ⟨v2, vs, rfl, ⟨y, rfl, rfl⟩, hF1⟩ := qVs_cons hF
    obtain ⟨v1, vs, rfl, ⟨x, rfl, rfl⟩, hF2⟩ := qVs_cons hF1
    exact lv_lshr hC.1 hC.2.1 hd rfl (hs ar _ H locs ⟨ws, lv, hh, hl, hL, ⟨⟨_, rfl, by unfold qlshr; rw [fb_asL, fb_asI]⟩, hF2⟩, hP, hD, hS⟩)
  · exact hs.elim
theorem qh_lushr (hC : qCx p s m args meth c cc nL own D kk A g t)  (hd : decode cc pc = .ok (.lushr, 1)) (hs : qs_lsh qlushr (qWn p l e R s m args below meth c Q D kk A g ad nL nc ns (pc + 1)) ls st μ) : qWn p l e R s m args below meth c Q D kk A g ad nL nc ns pc ls st μ := by
  unfold qs_lsh at hs
  split at hs
  · rename_i b0 a0 st0
    intro ar sv H locs ⟨ws, lv, hh, hl, hL, hF, hP, hD, hS⟩
    obtain ⟨v2, vs, rfl, ⟨y, rfl, rfl⟩, hF1⟩ := qVs_cons hF
    obtain ⟨v1, vs, rfl, ⟨x, rfl, rfl⟩, hF2⟩ := qVs_cons hF1
    exact lv_lushr hC.1 hC.2.1 hd rfl (hs ar _ H locs ⟨ws, lv, hh, hl, hL, ⟨⟨_, rfl, by unfold qlushr; rw [fb_asL, fb_asI]⟩, hF2⟩, hP, hD, hS⟩)
  · exact hs.elim
theorem qh_i2l (hC : qCx p s m args meth c cc nL own D kk A g t)  (hd : decode cc pc = .ok (.i2l, 1)) (hs : qs_i2l (qWn p l e R s m args below meth c Q D kk A g ad nL nc ns (pc + 1)) ls st μ) : qWn p l e R s m args below meth c Q D kk A g ad nL nc ns pc ls st μ := by
  unfold qs_i2l at hs
  split at hs
  · rename_i a0 st0
    intro ar sv H locs ⟨ws, lv, hh, hl, hL, hF, hP, hD, hS⟩
    obtain ⟨v1, vs, rfl, ⟨x, rfl, rfl⟩, hF1⟩ := qVs_cons hF
    exact lv_i2l hC.1 hC.2.1 hd rfl (hs ar _ H locs ⟨ws, lv, hh, hl, hL, ⟨⟨_, rfl, Int32.toInt_toInt64 x⟩, hF1⟩, hP, hD, hS⟩)
  · exact hs.elim
theorem qh_l2i (hC : qCx p s m args meth c cc nL own D kk A g t)  (hd : decode cc pc = .ok (.l2i, 1)) (hs : qs_l2i (qWn p l e R s m args below meth c Q D kk A g ad nL nc ns (pc + 1)) ls st μ) : qWn p l e R s m args below meth c Q D kk A g ad nL nc ns pc ls st μ := by
  unfold qs_l2i at hs
  split at hs
  · rename_i a0 st0
    intro ar sv H locs ⟨ws, lv, hh, hl, hL, hF, hP, hD, hS⟩
    obtain ⟨v1, vs, rfl, ⟨x, rfl, rfl⟩, hF1⟩ := qVs_cons hF
    exact lv_l2i hC.1 hC.2.1 hd rfl (hs ar _ H locs ⟨ws, lv, hh, hl, hL, ⟨⟨_, rfl, q32_l2i x⟩, hF1⟩, hP, hD, hS⟩)
  · exact hs.elim
theorem qh_i2b (hC : qCx p s m args meth c cc nL own D kk A g t)  (hd : decode cc pc = .ok (.i2b, 1)) (hs : qs_u qi2b (qWn p l e R s m args below meth c Q D kk A g ad nL nc ns (pc + 1)) ls st μ) : qWn p l e R s m args below meth c Q D kk A g ad nL nc ns pc ls st μ := by
  unfold qs_u at hs
  split at hs
  · rename_i a0 st0
    intro ar sv H locs ⟨ws, lv, hh, hl, hL, hF, hP, hD, hS⟩
    obtain ⟨v1, vs, rfl, ⟨x, rfl, rfl⟩, hF1⟩ := qVs_cons hF
    exact lv_i2b hC.1 hC.2.1 hd rfl (hs ar _ H locs ⟨ws, lv, hh, hl, hL, ⟨⟨_, rfl, by unfold qi2b; rw [fb_asI]⟩, hF1⟩, hP, hD, hS⟩)
  · exact hs.elim
theorem qh_i2c (hC : qCx p s m args meth c cc nL own D kk A g t)  (hd : decode cc pc = .ok (.i2c, 1)) (hs : qs_u qi2c (qWn p l e R s m args below meth c Q D kk A g ad nL nc ns (pc + 1)) ls st μ) : qWn p l e R s m args below meth c Q D kk A g ad nL nc ns pc ls st μ := by
  unfold qs_u at hs
  split at hs
  · rename_i a0 st0
    intro ar sv H locs ⟨ws, lv, hh, hl, hL, hF, hP, hD, hS⟩
    obtain ⟨v1, vs, rfl, ⟨x, rfl, rfl⟩, hF1⟩ := qVs_cons hF
    exact lv_i2c hC.1 hC.2.1 hd rfl (hs ar _ H locs ⟨ws, lv, hh, hl, hL, ⟨⟨_, rfl, by unfold qi2c; rw [fb_asI]⟩, hF1⟩, hP, hD, hS⟩)
  · exact hs.elim
theorem qh_lcmp (hC : qCx p s m args meth c cc nL own D kk A g t)  (hd : decode cc pc = .ok (.lcmp, 1)) (hs : qs_lcmp (qWn p l e R s m args below meth c Q D kk A g ad nL nc ns (pc + 1)) ls st μ) : qWn p l e R s m args below meth c Q D kk A g ad nL nc ns pc ls st μ := by
  unfold qs_lcmp at hs
  split at hs
  · rename_i b0 a0 st0
    intro ar sv H locs ⟨ws, lv, hh, hl, hL, hF, hP, hD, hS⟩
    obtain ⟨v2, vs, rfl, ⟨y, rfl, rfl⟩, hF1⟩ := qVs_cons hF
    obtain ⟨v1, vs, rfl, ⟨x, rfl, rfl⟩, hF2⟩ := qVs_cons hF1
    exact W.lcmp hC.1 hC.2.1 hd (hs ar _ H locs ⟨ws, lv, hh, hl, hL, ⟨⟨_, rfl, qlcmp_ok x y⟩, hF2⟩, hP, hD, hS⟩)
  · exact hs.elim
theorem qh_iinc (hC : qCx p s m args meth c cc nL own D kk A g t) {i : Nat} {n : Int} (hr : -2147483648 ≤ n ∧ n < 2147483648) (hn : i < nL) (hd : decode cc pc = .ok (.iinc i n, 3)) (hs : qs_iinc i n (qWn p l e R s m args below meth c Q D kk A g ad nL nc ns (pc + 3)) ls st μ) : qWn p l e R s m args below meth c Q D kk A g ad nL nc ns pc ls st μ := by
  unfold qs_iinc at hs
  split at hs
  · rename_i a ha
    intro ar sv H locs ⟨ws, lv, hh, hl, hL, hF, hP, hD, hS⟩
    obtain ⟨w, hw, x, rfl, rfl⟩ := hL _ _ ha
    obtain ⟨k0, hk0⟩ := List.getElem?_of_mem hw
    have e1 : (x + Int32.ofInt n).toInt = q32 (x.toInt + n) := by rw [q32_add, fb_ofI hr.1 hr.2]
    exact lv_iinc hC.1 hC.2.1 hd hl hk0 rfl hn rfl (fun ar' hl' => hs ar' _ H locs ⟨ws, _, hh, hl', qLr_set hL ⟨_, rfl, e1⟩, hF, hP, hD, hS⟩)
  · exact hs.elim
theorem qh_dup (hC : qCx p s m args meth c cc nL own D kk A g t)  (hd : decode cc pc = .ok (.dup, 1)) (hs : qs_dup (qWn p l e R s m args below meth c Q D kk A g ad nL nc ns (pc + 1)) ls st μ) : qWn p l e R s m args below meth c Q D kk A g ad nL nc ns pc ls st μ := by
  unfold qs_dup at hs
  split at hs
  · rename_i a st0
    intro ar sv H locs ⟨ws, lv, hh, hl, hL, hF, hP, hD, hS⟩
    obtain ⟨v, vs, rfl, hV, hF1⟩ := qVs_cons hF
    exact lv_dup hC.1 hC.2.1 hd (qVr_cat hV) (hs ar _ H locs ⟨ws, lv, hh, hl, hL, ⟨hV, hV, hF1⟩, hP, hD, hS⟩)
  · rename_i a st0
    intro ar sv H locs ⟨ws, lv, hh, hl, hL, hF, hP, hD, hS⟩
    obtain ⟨v, vs, rfl, hV, hF1⟩ := qVs_cons hF
    exact lv_dup hC.1 hC.2.1 hd (qVr_cat hV) (hs ar _ H locs ⟨ws, lv, hh, hl, hL, ⟨hV, hV, hF1⟩, hP, hD, hS⟩)
  · exact hs.elim
theorem qh_dup2 (hC : qCx p s m args meth c cc nL own D kk A g t)  (hd : decode cc pc = .ok (.dup2, 1)) (hs : qs_dup2 (qWn p l e R s m args below meth c Q D kk A g ad nL nc ns (pc + 1)) ls st μ) : qWn p l e R s m args below meth c Q D kk A g ad nL nc ns pc ls st μ := by
  unfold qs_dup2 at hs
  split at hs
  · rename_i a b st0
    intro ar sv H locs ⟨ws, lv, hh, hl, hL, hF, hP, hD, hS⟩
    obtain ⟨v, vs, rfl, hV, hF1⟩ := qVs_cons hF
    obtain ⟨w, vs, rfl, hV2, hF2⟩ := qVs_cons hF1
    exact lv_dup2_11 hC.1 hC.2.1 hd (qVr_cat hV) (qVr_cat hV2) (hs ar _ H locs ⟨ws, lv, hh, hl, hL, ⟨hV, hV2, hV, hV2, hF2⟩, hP, hD, hS⟩)
  · exact hs.elim
theorem qh_pop (hC : qCx p s m args meth c cc nL own D kk A g t)  (hd : decode cc pc = .ok (.pop, 1)) (hs : qs_pop (qWn p l e R s m args below meth c Q D kk A g ad nL nc ns (pc + 1)) ls st μ) : qWn p l e R s m args below meth c Q D kk A g ad nL nc ns pc ls st μ := by
  unfold qs_pop at hs
  split at hs
  · rename_i a st0
    intro ar sv H locs ⟨ws, lv, hh, hl, hL, hF, hP, hD, hS⟩
    obtain ⟨v, vs, rfl, hV, hF1⟩ := qVs_cons hF
    exact lv_pop hC.1 hC.2.1 hd (qVr_cat hV) (hs ar _ H locs ⟨ws, lv, hh, hl, hL, hF1, hP, hD, hS⟩)
  · exact hs.elim
theorem qh_pop2 (hC : qCx p s m args meth c cc nL own D kk A g t)  (hd : decode cc pc = .ok (.pop2, 1)) (hs : qs_pop2 (qWn p l e R s m args below meth c Q D kk A g ad nL nc ns (pc + 1)) ls st μ) : qWn p l e R s m args below meth c Q D kk A g ad nL nc ns pc ls st μ := by
  unfold qs_pop2 at hs
  split at hs
  · rename_i a st0
    intro ar sv H locs ⟨ws, lv, hh, hl, hL, hF, hP, hD, hS⟩
    obtain ⟨v, vs, rfl, hV, hF1⟩ := qVs_cons hF
    exact lv_pop2_2 hC.1 hC.2.1 hd (qVr_cat hV) (hs ar _ H locs ⟨ws, lv, hh, hl, hL, hF1, hP, hD, hS⟩)
  · exact hs.elim
theorem qh_goto (hC : qCx p s m args meth c cc nL own D kk A g t) {off : Int} {r1 : Nat} (ht : (pc : Int) + off = (r1 : Int)) (hd : decode cc pc = .ok (.goto off, 3)) (hs : qs_goto (qWn p l e R s m args below meth c Q D kk A g ad nL nc ns r1) ls st μ) : qWn p l e R s m args below meth c Q D kk A g ad nL nc ns pc ls st μ := by
  intro ar sv H locs ⟨ws, lv, hh, hl, hL, hF, hP, hD, hS⟩
  exact lv_goto hC.1 hC.2.1 hd ht (hs ar _ H locs ⟨ws, lv, hh, hl, hL, hF, hP, hD, hS⟩)
theorem qh_icmp (hC : qCx p s m args meth c cc nL own D kk A g t) {k : Jvm.ClassFile.Cond} {off : Int} {r1 : Nat} (ht : (pc : Int) + off = (r1 : Int)) (hd : decode cc pc = .ok (.if_icmp k off, 3)) (hs : qs_icmp k (qWn p l e R s m args below meth c Q D kk A g ad nL nc ns r1) (qWn p l e R s m args below meth c Q D kk A g ad nL nc ns (pc + 3)) ls st μ) : qWn p l e R s m args below meth c Q D kk A g ad nL nc ns pc ls st μ := by
  unfold qs_icmp at hs
  split at hs
  · rename_i b0 a0 st0
    intro ar sv H locs ⟨ws, lv, hh, hl, hL, hF, hP, hD, hS⟩
    obtain ⟨v2, vs, rfl, ⟨y, rfl, rfl⟩, hF1⟩ := qVs_cons hF
    obtain ⟨v1, vs, rfl, ⟨x, rfl, rfl⟩, hF2⟩ := qVs_cons hF1
    exact zi_icmp hC.1 hC.2.1 hd ht (fun q => hs.1 ((qrel_ok k x y).mp q) ar _ H locs ⟨ws, lv, hh, hl, hL, hF2, hP, hD, hS⟩) (fun q => hs.2 (qneg_ok _ _ _ (fun w => q ((qrel_ok k x y).mpr w))) ar _ H locs ⟨ws, lv, hh, hl, hL, hF2, hP, hD, hS⟩)
  · exact hs.elim
theorem qh_if (hC : qCx p s m args meth c cc nL own D kk A g t) {k : Jvm.ClassFile.Cond} {off : Int} {r1 : Nat} (ht : (pc : Int) + off = (r1 : Int)) (hd : decode cc pc = .ok (.ifCond k off, 3)) (hs : qs_if k (qWn p l e R s m args below meth c Q D kk A g ad nL nc ns r1) (qWn p l e R s m args below meth c Q D kk A g ad nL nc ns (pc + 3)) ls st μ) : qWn p l e R s m args below meth c Q D kk A g ad nL nc ns pc ls st μ := by
  unfold qs_if at hs
  split at hs
  · rename_i a0 st0
    intro ar sv H locs ⟨ws, lv, hh, hl, hL, hF, hP, hD, hS⟩
    obtain ⟨v1, vs, rfl, ⟨x, rfl, rfl⟩, hF1⟩ := qVs_cons hF
    exact zi_if hC.1 hC.2.1 hd ht (fun q => hs.1 ((qrel_ok k x 0).mp q) ar _ H locs ⟨ws, lv, hh, hl, hL, hF1, hP, hD, hS⟩) (fun q => hs.2 (qneg_ok _ _ _ (fun w => q ((qrel_ok k x 0).mpr w))) ar _ H locs ⟨ws, lv, hh, hl, hL, hF1, hP, hD, hS⟩)
  · exact hs.elim
theorem qtab_at {a : Int} {X : qK} {f : Int → Nat} : ∀ (l : List Int) (i : Int) (n : Nat) (o : Int), a = i + n → l[n]? = some o → qtab a i (l.map fun o => X (f o)) ls st μ → X (f o) ls st μ
  | [], _, _, _, _, h, _ => by cases h
  | b :: l, i, 0, o, h1, h2, h => by
    have h2 : some b = some o := h2
    cases h2
    exact h.1 (by omega)
  | _ :: l, i, n + 1, o, h1, h2, h => qtab_at l (i + 1) n o (by omega) h2 h.2
theorem qh_table (hC : qCx p s m args meth c cc nL own D kk A g t) {df lo hi : Int} {offs : Array Int} {len : Nat} (hz : 0 ≤ (pc : Int) + df ∧ (∀ o ∈ offs.toList, 0 ≤ (pc : Int) + o) ∧ (offs.size : Int) = hi - lo + 1) (hd : decode cc pc = .ok (.tableswitch df lo hi offs, len)) (hs : qs_table lo hi (qWn p l e R s m args below meth c Q D kk A g ad nL nc ns ((pc : Int) + df).toNat) (offs.toList.map fun o => qWn p l e R s m args below meth c Q D kk A g ad nL nc ns ((pc : Int) + o).toNat)   ls st μ) : qWn p l e R s m args below meth c Q D kk A g ad nL nc ns pc ls st μ := by
  unfold qs_table at hs
  split at hs
  · rename_i a0 st0
    intro ar sv H locs ⟨ws, lv, hh, hl, hL, hF, hP, hD, hS⟩
    obtain ⟨v1, vs, rfl, ⟨x, rfl, rfl⟩, hF1⟩ := qVs_cons hF
    by_cases hout : x.toInt < lo ∨ hi < x.toInt
    · exact lv_tableOut hC.1 hC.2.1 hd hout (by omega) (hs.1 hout ar _ H locs ⟨ws, lv, hh, hl, hL, hF1, hP, hD, hS⟩)
    · have hlt : (x.toInt - lo).toNat < offs.size := by omega
      have ho : offs[(x.toInt - lo).toNat]? = some offs[(x.toInt - lo).toNat] := Array.getElem?_eq_getElem hlt
      have ho2 : offs.toList[(x.toInt - lo).toNat]? = some offs[(x.toInt - lo).toNat] := by rw [Array.getElem?_toList]; exact ho
      have hm := hz.2.1 _ (List.mem_of_getElem? ho2)
      have hk := qtab_at (X := qWn p l e R s m args below meth c Q D kk A g ad nL nc ns) (f := fun o => ((pc : Int) + o).toNat) offs.toList lo _ _ (by omega) ho2 hs.2
      exact lv_tableIn hC.1 hC.2.1 hd (by omega) (by omega) ho (by omega) (hk ar _ H locs ⟨ws, lv, hh, hl, hL, hF1, hP, hD, hS⟩)
  · exact hs.elim
theorem qsh_len {n r : Nat} {fs : List (Option Nat)} (h : qsh[n]? = some (.inl (r, fs))) : fs.length = zN r := by
  have h1 : ∀ y ∈ qsh, (match y with
    | .inl x => decide (x.2.length = zN x.1)
    | .inr _ => true) = true := by decide +kernel
  exact of_decide_eq_true (h1 _ (List.mem_of_getElem? h))
theorem qh_gi (hC : qCx p s m args meth c cc nL own D kk A g t) {C : String} {T : u_T} {N i r1 r2 : Nat} (hr1 : r1 < 100) (hcl : zCl r1 C T N) (hk : r2 < N) (hw : Jvm.Cond.fieldLink own i (T r2).1 (T r2).2.1 (T r2).2.2.1 ∈ zW) (hfk : qfk (zty r1 r2) = 0) (hd : decode cc pc = .ok (.getfield i, 3)) (hs : qs_gi r1 r2 (qWn p l e R s m args below meth c Q D kk A g ad nL nc ns (pc + 3)) ls st μ) : qWn p l e R s m args below meth c Q D kk A g ad nL nc ns pc ls st μ := by
  unfold qs_gi at hs
  split at hs
  · rename_i o0 st0
    replace hs := qif_eq hs
    intro ar sv H locs ⟨ws, lv, hh, hl, hL, hF, hP, hD, hS⟩
    obtain ⟨v1, vs, rfl, hV, hF1⟩ := qVs_cons hF
    obtain ⟨q, hq, rfl, h0⟩ := hV
    obtain ⟨n, fs, rfl, hn, hrf⟩ := qty_obj hs.1 hr1
    obtain ⟨q1, e1, hw1, hc1⟩ := hh.2 _ _ hn
    have hq : ad[n]? = some q := hq
    cases qat_ad hh hq hw1
    obtain ⟨vs1, rfl, hlen, hfs⟩ := hc1
    have hfl : r2 < fs.length := by rw [qsh_len hn]; rw [← hcl.2.1]; exact hk
    obtain ⟨v, hv1, hv2⟩ := hfs r2 fs[r2] (List.getElem?_eq_getElem hfl)
    unfold qFr at hv2
    rw [hfk] at hv2
    have hv3 : qVr g ad (.inl (μ n r2)) v := hv2
    exact va_get (D := D) (ci := r1) (v := v) (C := C) (T := T) (N := N) hC.1 hC.2.1 hC.2.2.2.2.1 hcl.2.2.1 hC.2.2.2.1 hC.2.2.2.2.2.1 hP _ hw1 hcl.1 r2 hk (hC.2.2.2.2.1 _ hw) (fun _ h9 => h9) hv1 hd (hs.2 ar _ H locs ⟨ws, lv, hh, hl, hL, ⟨hv3, hF1⟩, hP, hD, hS⟩)
  · exact hs.elim
theorem qh_gb (hC : qCx p s m args meth c cc nL own D kk A g t) {C : String} {T : u_T} {N i r1 r2 : Nat} (hr1 : r1 < 100) (hcl : zCl r1 C T N) (hk : r2 < N) (hw : Jvm.Cond.fieldLink own i (T r2).1 (T r2).2.1 (T r2).2.2.1 ∈ zW) (hfk : qfk (zty r1 r2) = 1) (hd : decode cc pc = .ok (.getfield i, 3)) (hs : qs_gi r1 r2 (qWn p l e R s m args below meth c Q D kk A g ad nL nc ns (pc + 3)) ls st μ) : qWn p l e R s m args below meth c Q D kk A g ad nL nc ns pc ls st μ := by
  unfold qs_gi at hs
  split at hs
  · rename_i o0 st0
    replace hs := qif_eq hs
    intro ar sv H locs ⟨ws, lv, hh, hl, hL, hF, hP, hD, hS⟩
    obtain ⟨v1, vs, rfl, hV, hF1⟩ := qVs_cons hF
    obtain ⟨q, hq, rfl, h0⟩ := hV
    obtain ⟨n, fs, rfl, hn, hrf⟩ := qty_obj hs.1 hr1
    obtain ⟨q1, e1, hw1, hc1⟩ := hh.2 _ _ hn
    have hq : ad[n]? = some q := hq
    cases qat_ad hh hq hw1
    obtain ⟨vs1, rfl, hlen, hfs⟩ := hc1
    have hfl : r2 < fs.length := by rw [qsh_len hn]; rw [← hcl.2.1]; exact hk
    obtain ⟨v, hv1, hv2⟩ := hfs r2 fs[r2] (List.getElem?_eq_getElem hfl)
    unfold qFr at hv2
    rw [hfk] at hv2
    have hv3 : qVr g ad (.inl (μ n r2)) v := hv2
    exact va_get (D := D) (ci := r1) (v := v) (C := C) (T := T) (N := N) hC.1 hC.2.1 hC.2.2.2.2.1 hcl.2.2.1 hC.2.2.2.1 hC.2.2.2.2.2.1 hP _ hw1 hcl.1 r2 hk (hC.2.2.2.2.1 _ hw) (fun _ h9 => h9) hv1 hd (hs.2 ar _ H locs ⟨ws, lv, hh, hl, hL, ⟨hv3, hF1⟩, hP, hD, hS⟩)
  · exact hs.elim
theorem qh_gl (hC : qCx p s m args meth c cc nL own D kk A g t) {C : String} {T : u_T} {N i r1 r2 : Nat} (hr1 : r1 < 100) (hcl : zCl r1 C T N) (hk : r2 < N) (hw : Jvm.Cond.fieldLink own i (T r2).1 (T r2).2.1 (T r2).2.2.1 ∈ zW) (hfk : qfk (zty r1 r2) = 2) (hd : decode cc pc = .ok (.getfield i, 3)) (hs : qs_gl r1 r2 (qWn p l e R s m args below meth c Q D kk A g ad nL nc ns (pc + 3)) ls st μ) : qWn p l e R s m args below meth c Q D kk A g ad nL nc ns pc ls st μ := by
  unfold qs_gl at hs
  split at hs
  · rename_i o0 st0
    replace hs := qif_eq hs
    intro ar sv H locs ⟨ws, lv, hh, hl, hL, hF, hP, hD, hS⟩
    obtain ⟨v1, vs, rfl, hV, hF1⟩ := qVs_cons hF
    obtain ⟨q, hq, rfl, h0⟩ := hV
    obtain ⟨n, fs, rfl, hn, hrf⟩ := qty_obj hs.1 hr1
    obtain ⟨q1, e1, hw1, hc1⟩ := hh.2 _ _ hn
    have hq : ad[n]? = some q := hq
    cases qat_ad hh hq hw1
    obtain ⟨vs1, rfl, hlen, hfs⟩ := hc1
    have hfl : r2 < fs.length := by rw [qsh_len hn]; rw [← hcl.2.1]; exact hk
    obtain ⟨v, hv1, hv2⟩ := hfs r2 fs[r2] (List.getElem?_eq_getElem hfl)
    unfold qFr at hv2
    rw [hfk] at hv2
    have hv3 : qVr g ad (.inr (.inl (μ n r2))) v := hv2
    exact va_get (D := D) (ci := r1) (v := v) (C := C) (T := T) (N := N) hC.1 hC.2.1 hC.2.2.2.2.1 hcl.2.2.1 hC.2.2.2.1 hC.2.2.2.2.2.1 hP _ hw1 hcl.1 r2 hk (hC.2.2.2.2.1 _ hw) (fun _ h9 => h9) hv1 hd (hs.2 ar _ H locs ⟨ws, lv, hh, hl, hL, ⟨hv3, hF1⟩, hP, hD, hS⟩)
  · exact hs.elim
theorem qh_gr (hC : qCx p s m args meth c cc nL own D kk A g t) {C : String} {T : u_T} {N i r1 r2 : Nat} (hr1 : r1 < 100) (hcl : zCl r1 C T N) (hk : r2 < N) (hw : Jvm.Cond.fieldLink own i (T r2).1 (T r2).2.1 (T r2).2.2.1 ∈ zW) (hfk : qfk (zty r1 r2) = 3) (hd : decode cc pc = .ok (.getfield i, 3)) (hs : qs_gr r1 r2 (qWn p l e R s m args below meth c Q D kk A g ad nL nc ns (pc + 3)) ls st μ) : qWn p l e R s m args below meth c Q D kk A g ad nL nc ns pc ls st μ := by
  unfold qs_gr at hs
  split at hs
  · rename_i o0 st0
    replace hs := qif_eq hs
    intro ar sv H locs ⟨ws, lv, hh, hl, hL, hF, hP, hD, hS⟩
    obtain ⟨v1, vs, rfl, hV, hF1⟩ := qVs_cons hF
    obtain ⟨q, hq, rfl, h0⟩ := hV
    obtain ⟨n, fs, rfl, hn, hrf⟩ := qty_obj hs.1 hr1
    obtain ⟨q1, e1, hw1, hc1⟩ := hh.2 _ _ hn
    have hq : ad[n]? = some q := hq
    cases qat_ad hh hq hw1
    obtain ⟨vs1, rfl, hlen, hfs⟩ := hc1
    have hfl : r2 < fs.length := by rw [qsh_len hn]; rw [← hcl.2.1]; exact hk
    obtain ⟨v, hv1, hv2⟩ := hfs r2 fs[r2] (List.getElem?_eq_getElem hfl)
    unfold qFr at hv2
    rw [hfk] at hv2
    obtain ⟨j9, q9, hj9, hq9, rfl⟩ := hv2
    have ej : qrf (n : Int) r2 = (j9 : Int) := by
      rw [hrf, List.getD_eq_getElem?_getD, List.getElem?_eq_getElem hfl, hj9]
      rfl
    have hv3 : qVr g ad (.inr (.inr (.inl (qrf (n : Int) r2)))) (.ref q9) := ⟨q9, by rw [ej]; exact hq9, rfl, by rw [ej]; omega⟩
    exact va_get (D := D) (ci := r1) (v := .ref q9) (C := C) (T := T) (N := N) hC.1 hC.2.1 hC.2.2.2.2.1 hcl.2.2.1 hC.2.2.2.1 hC.2.2.2.2.2.1 hP _ hw1 hcl.1 r2 hk (hC.2.2.2.2.1 _ hw) (fun _ h9 => h9) hv1 hd (hs.2 ar _ H locs ⟨ws, lv, hh, hl, hL, ⟨hv3, hF1⟩, hP, hD, hS⟩)
  · exact hs.elim
theorem qh_pi (hC : qCx p s m args meth c cc nL own D kk A g t) {C : String} {T : u_T} {N i r1 r2 : Nat} (hr1 : r1 < 100) (hcl : zCl r1 C T N) (hk : r2 < N) (hw : Jvm.Cond.fieldLink own i (T r2).1 (T r2).2.1 (T r2).2.2.1 ∈ zW) (hfn : (T r2).2.2.2 = false) (hty : zty r1 r2 = .int) (hfk : qfk (zty r1 r2) = 0) (hd : decode cc pc = .ok (.putfield i, 3)) (hs : qs_pi r1 r2 (qWn p l e R s m args below meth c Q D kk A g ad nL nc ns (pc + 3)) ls st μ) : qWn p l e R s m args below meth c Q D kk A g ad nL nc ns pc ls st μ := by
  unfold qs_pi at hs
  split at hs
  · rename_i a0 o0 st0
    replace hs := qif_eq hs
    intro ar sv H locs ⟨ws, lv, hh, hl, hL, hF, hP, hD, hS⟩
    obtain ⟨v0, vs, rfl, hV2, hF1⟩ := qVs_cons hF
    obtain ⟨v1, vs, rfl, hV, hF2⟩ := qVs_cons hF1
    obtain ⟨q, hq, rfl, h0⟩ := hV
    obtain ⟨n, fs, rfl, hn, hrf⟩ := qty_obj hs.1 hr1
    obtain ⟨q1, e1, hw1, hc1⟩ := hh.2 _ _ hn
    have hq : ad[n]? = some q := hq
    cases qat_ad hh hq hw1
    obtain ⟨vs1, rfl, hlen, hfs⟩ := hc1
    obtain ⟨x, rfl, rfl⟩ := hV2
    have hl2 : r2 < vs1.length := by rw [hlen, ← hcl.2.1]; exact hk
    have hcr : qCr ad kk (qu μ n r2 x.toInt) n (.inl (r1, fs)) (.inr (r1, vs1.set r2 (.int x))) := ⟨vs1.set r2 (.int x), rfl, by rw [List.length_set]; exact hlen, fun k0 o9 hk0 => by
      by_cases e9 : k0 = r2
      · subst e9
        refine ⟨.int x, by rw [List.getElem?_set]; simp [hl2], ?_⟩
        unfold qFr
        rw [hfk]
        exact ⟨x, rfl, (qu_same _ _ _ _).symm⟩
      · obtain ⟨v9, h8, h9⟩ := hfs k0 o9 hk0
        refine ⟨v9, by rw [List.getElem?_set]; simp [Ne.symm e9, h8], ?_⟩
        unfold qFr at h9 ⊢
        rw [qu_ne (fun q => e9 (by omega))]
        exact h9⟩
    exact va_put (D := D) (ci := r1) (v := .int x) (ty := zty r1 r2) (C := C) (T := T) (N := N) hC.1 hC.2.1 hC.2.2.2.2.1 hcl.2.2.1 (zty r1) hcl.2.2.2.1 hcl.2.2.2.2.1 hC.2.2.2.1 hC.2.2.2.2.2.1 hP hD hS _ hw1 hcl.1 r2 hk (hC.2.2.2.2.1 _ hw) (fun _ h9 => h9) hfn (hcl.2.2.2.1 r2 hk) (by rw [hty]; rfl) (by rw [hty]; rfl) hl2 hd (fun H1 locs1 hP1 hD1 hS1 => hs.2 ar _ H1 locs1 ⟨_, lv, qHr_set hh hw1 hn (fun c hc j => qu_cell hc j) hcr, hl, hL, hF2, hP1, hD1, hS1⟩)
  · exact hs.elim
theorem qh_pl (hC : qCx p s m args meth c cc nL own D kk A g t) {C : String} {T : u_T} {N i r1 r2 : Nat} (hr1 : r1 < 100) (hcl : zCl r1 C T N) (hk : r2 < N) (hw : Jvm.Cond.fieldLink own i (T r2).1 (T r2).2.1 (T r2).2.2.1 ∈ zW) (hfn : (T r2).2.2.2 = false) (hty : zty r1 r2 = .long) (hfk : qfk (zty r1 r2) = 2) (hd : decode cc pc = .ok (.putfield i, 3)) (hs : qs_pl r1 r2 (qWn p l e R s m args below meth c Q D kk A g ad nL nc ns (pc + 3)) ls st μ) : qWn p l e R s m args below meth c Q D kk A g ad nL nc ns pc ls st μ := by
  unfold qs_pl at hs
  split at hs
  · rename_i a0 o0 st0
    replace hs := qif_eq hs
    intro ar sv H locs ⟨ws, lv, hh, hl, hL, hF, hP, hD, hS⟩
    obtain ⟨v0, vs, rfl, hV2, hF1⟩ := qVs_cons hF
    obtain ⟨v1, vs, rfl, hV, hF2⟩ := qVs_cons hF1
    obtain ⟨q, hq, rfl, h0⟩ := hV
    obtain ⟨n, fs, rfl, hn, hrf⟩ := qty_obj hs.1 hr1
    obtain ⟨q1, e1, hw1, hc1⟩ := hh.2 _ _ hn
    have hq : ad[n]? = some q := hq
    cases qat_ad hh hq hw1
    obtain ⟨vs1, rfl, hlen, hfs⟩ := hc1
    obtain ⟨x, rfl, rfl⟩ := hV2
    have hl2 : r2 < vs1.length := by rw [hlen, ← hcl.2.1]; exact hk
    have hcr : qCr ad kk (qu μ n r2 x.toInt) n (.inl (r1, fs)) (.inr (r1, vs1.set r2 (.long x))) := ⟨vs1.set r2 (.long x), rfl, by rw [List.length_set]; exact hlen, fun k0 o9 hk0 => by
      by_cases e9 : k0 = r2
      · subst e9
        refine ⟨.long x, by rw [List.getElem?_set]; simp [hl2], ?_⟩
        unfold qFr
        rw [hfk]
        exact ⟨x, rfl, (qu_same _ _ _ _).symm⟩
      · obtain ⟨v9, h8, h9⟩ := hfs k0 o9 hk0
        refine ⟨v9, by rw [List.getElem?_set]; simp [Ne.symm e9, h8], ?_⟩
        unfold qFr at h9 ⊢
        rw [qu_ne (fun q => e9 (by omega))]
        exact h9⟩
    exact va_put (D := D) (ci := r1) (v := .long x) (ty := zty r1 r2) (C := C) (T := T) (N := N) hC.1 hC.2.1 hC.2.2.2.2.1 hcl.2.2.1 (zty r1) hcl.2.2.2.1 hcl.2.2.2.2.1 hC.2.2.2.1 hC.2.2.2.2.2.1 hP hD hS _ hw1 hcl.1 r2 hk (hC.2.2.2.2.1 _ hw) (fun _ h9 => h9) hfn (hcl.2.2.2.1 r2 hk) (by rw [hty]; rfl) (by rw [hty]; rfl) hl2 hd (fun H1 locs1 hP1 hD1 hS1 => hs.2 ar _ H1 locs1 ⟨_, lv, qHr_set hh hw1 hn (fun c hc j => qu_cell hc j) hcr, hl, hL, hF2, hP1, hD1, hS1⟩)
  · exact hs.elim
theorem qbool {x : Int32} (h1 : 0 ≤ x.toInt) (h2 : x.toInt ≤ 1) : x = 0 ∨ x = 1 := by
  have e0 : (0 : Int32).toInt = 0 := rfl
  have e1 : (1 : Int32).toInt = 1 := rfl
  rcases (show x.toInt = 0 ∨ x.toInt = 1 by omega) with w | w
  · exact Or.inl ((fa_eq _ _).mpr (by rw [w, e0]))
  · exact Or.inr ((fa_eq _ _).mpr (by rw [w, e1]))
theorem qbool_n {x : Int32} (h1 : 0 ≤ x.toInt) (h2 : x.toInt ≤ 1) : narrow .boolean (.int x) = .int x ∧ fits .boolean (.int x) = true := by
  rcases qbool h1 h2 with rfl | rfl
  · exact ⟨by decide, by decide⟩
  · exact ⟨by decide, by decide⟩
theorem qh_pb (hC : qCx p s m args meth c cc nL own D kk A g t) {C : String} {T : u_T} {N i r1 r2 : Nat} (hr1 : r1 < 100) (hcl : zCl r1 C T N) (hk : r2 < N) (hw : Jvm.Cond.fieldLink own i (T r2).1 (T r2).2.1 (T r2).2.2.1 ∈ zW) (hfn : (T r2).2.2.2 = false) (hty : zty r1 r2 = .boolean) (hfk : qfk (zty r1 r2) = 1) (hd : decode cc pc = .ok (.putfield i, 3)) (hs : qs_pb r1 r2 (qWn p l e R s m args below meth c Q D kk A g ad nL nc ns (pc + 3)) ls st μ) : qWn p l e R s m args below meth c Q D kk A g ad nL nc ns pc ls st μ := by
  unfold qs_pb at hs
  split at hs
  · rename_i a0 o0 st0
    replace hs := qif_eq hs
    intro ar sv H locs ⟨ws, lv, hh, hl, hL, hF, hP, hD, hS⟩
    obtain ⟨v0, vs, rfl, hV2, hF1⟩ := qVs_cons hF
    obtain ⟨v1, vs, rfl, hV, hF2⟩ := qVs_cons hF1
    obtain ⟨q, hq, rfl, h0⟩ := hV
    obtain ⟨n, fs, rfl, hn, hrf⟩ := qty_obj hs.1 hr1
    obtain ⟨q1, e1, hw1, hc1⟩ := hh.2 _ _ hn
    have hq : ad[n]? = some q := hq
    cases qat_ad hh hq hw1
    obtain ⟨vs1, rfl, hlen, hfs⟩ := hc1
    obtain ⟨x, rfl, rfl⟩ := hV2
    have hl2 : r2 < vs1.length := by rw [hlen, ← hcl.2.1]; exact hk
    have hcr : qCr ad kk (qu μ n r2 x.toInt) n (.inl (r1, fs)) (.inr (r1, vs1.set r2 (.int x))) := ⟨vs1.set r2 (.int x), rfl, by rw [List.length_set]; exact hlen, fun k0 o9 hk0 => by
      by_cases e9 : k0 = r2
      · subst e9
        refine ⟨.int x, by rw [List.getElem?_set]; simp [hl2], ?_⟩
        unfold qFr
        rw [hfk]
        exact ⟨x, rfl, (qu_same _ _ _ _).symm⟩
      · obtain ⟨v9, h8, h9⟩ := hfs k0 o9 hk0
        refine ⟨v9, by rw [List.getElem?_set]; simp [Ne.symm e9, h8], ?_⟩
        unfold qFr at h9 ⊢
        rw [qu_ne (fun q => e9 (by omega))]
        exact h9⟩
    exact va_put (D := D) (ci := r1) (v := .int x) (ty := zty r1 r2) (C := C) (T := T) (N := N) hC.1 hC.2.1 hC.2.2.2.2.1 hcl.2.2.1 (zty r1) hcl.2.2.2.1 hcl.2.2.2.2.1 hC.2.2.2.1 hC.2.2.2.2.2.1 hP hD hS _ hw1 hcl.1 r2 hk (hC.2.2.2.2.1 _ hw) (fun _ h9 => h9) hfn (hcl.2.2.2.1 r2 hk) (by rw [hty]; exact (qbool_n hs.2.1.1 hs.2.1.2).1) (by rw [hty]; exact (qbool_n hs.2.1.1 hs.2.1.2).2) hl2 hd (fun H1 locs1 hP1 hD1 hS1 => hs.2.2 ar _ H1 locs1 ⟨_, lv, qHr_set hh hw1 hn (fun c hc j => qu_cell hc j) hcr, hl, hL, hF2, hP1, hD1, hS1⟩)
  · exact hs.elim
theorem qh_gsc (hC : qCx p s m args meth c cc nL own D kk A g t) {i : Nat} (hw : Jvm.Cond.fieldLink own i "java/lang/String" "coder" "B" ∈ zW) (hd : decode cc pc = .ok (.getfield i, 3)) (hs : qs_gsc (qWn p l e R s m args below meth c Q D kk A g ad nL nc ns (pc + 3)) ls st μ) : qWn p l e R s m args below meth c Q D kk A g ad nL nc ns pc ls st μ := by
  unfold qs_gsc at hs
  split at hs
  · rename_i k0 st0
    intro ar sv H locs ⟨ws, lv, hh, hl, hL, hF, hP, hD, hS⟩
    obtain ⟨v1, vs, rfl, hV, hF1⟩ := qVs_cons hF
    rcases hV with ⟨h1, -⟩ | ⟨-, rfl⟩
    · omega
    · obtain ⟨i9, rfl⟩ : ∃ i9, k0 = 10 + i9 := ⟨k0 - 10, by omega⟩
      have hSt := hC.2.2.2.2.2.2.2.1.2.2.2.2.2.1.1 i9 (by omega)
      exact vk_getf hC.1 hC.2.1 hSt.2.1 hS hC.2.2.2.1 (hC.2.2.2.2.1 _ hw) (fun _ h9 => h9) hd (hs.2 ar _ H locs ⟨ws, lv, hh, hl, hL, ⟨⟨0, rfl, rfl⟩, hF1⟩, hP, hD, hS⟩)
  · exact hs.elim
theorem qh_gsv (hC : qCx p s m args meth c cc nL own D kk A g t) {i : Nat} (hw : Jvm.Cond.fieldLink own i "java/lang/String" "value" "[B" ∈ zW) (hd : decode cc pc = .ok (.getfield i, 3)) (hs : qs_gsv (qWn p l e R s m args below meth c Q D kk A g ad nL nc ns (pc + 3)) ls st μ) : qWn p l e R s m args below meth c Q D kk A g ad nL nc ns pc ls st μ := by
  unfold qs_gsv at hs
  split at hs
  · rename_i k0 st0
    intro ar sv H locs ⟨ws, lv, hh, hl, hL, hF, hP, hD, hS⟩
    obtain ⟨v1, vs, rfl, hV, hF1⟩ := qVs_cons hF
    rcases hV with ⟨h1, -⟩ | ⟨-, rfl⟩
    · omega
    · obtain ⟨i9, rfl⟩ : ∃ i9, k0 = 10 + i9 := ⟨k0 - 10, by omega⟩
      have hSt := hC.2.2.2.2.2.2.2.1.2.2.2.2.2.1.1 i9 (by omega)
      exact vk_getf hC.1 hC.2.1 hSt.2.2.1 hS hC.2.2.2.1 (hC.2.2.2.2.1 _ hw) (fun _ h9 => h9) hd (hs.2 ar _ H locs ⟨ws, lv, hh, hl, hL, ⟨Or.inr ⟨by omega, by rw [show 10 + i9 + 10 = 20 + i9 by omega]⟩, hF1⟩, hP, hD, hS⟩)
  · exact hs.elim
theorem qh_gets (hC : qCx p s m args meth c cc nL own D kk A g t) {i r1 : Nat} (hw : (r1 = 0 ∧ Jvm.Cond.fieldLink own i "LetterDebts" "ABOVE" "[I" ∈ zW) ∨ (r1 = 1 ∧ Jvm.Cond.fieldLink own i "LetterDebts" "MARKS" "[I" ∈ zW) ∨ (r1 = 2 ∧ Jvm.Cond.fieldLink own i "java/lang/String" "COMPACT_STRINGS" "Z" ∈ zW) ∨ (r1 = 3 ∧ Jvm.Cond.fieldLink own i "jdk/internal/util/Preconditions" "SIOOBE_FORMATTER" "Ljava/util/function/BiFunction;" ∈ zW)) (hd : decode cc pc = .ok (.getstatic i, 3)) (hs : qs_push (qstat r1) (qWn p l e R s m args below meth c Q D kk A g ad nL nc ns (pc + 3)) ls st μ) : qWn p l e R s m args below meth c Q D kk A g ad nL nc ns pc ls st μ := by
  intro ar sv H locs ⟨ws, lv, hh, hl, hL, hF, hP, hD, hS⟩
  obtain ⟨-, hX1, hX2, hX3, hX4, -⟩ := hC.2.2.2.2.2.2.2.1
  rcases hw with ⟨rfl, hw⟩ | ⟨rfl, hw⟩ | ⟨rfl, hw⟩ | ⟨rfl, hw⟩
  · exact va_gets hC.1 hC.2.1 hX1.1 hS hC.2.2.2.1 (hC.2.2.2.2.1 _ hw) (fun _ h9 => h9) hd (hs ar _ H locs ⟨ws, lv, hh, hl, hL, ⟨Or.inr ⟨by decide, rfl⟩, hF⟩, hP, hD, hS⟩)
  · exact va_gets hC.1 hC.2.1 hX2.1 hS hC.2.2.2.1 (hC.2.2.2.2.1 _ hw) (fun _ h9 => h9) hd (hs ar _ H locs ⟨ws, lv, hh, hl, hL, ⟨Or.inr ⟨by decide, rfl⟩, hF⟩, hP, hD, hS⟩)
  · exact va_gets hC.1 hC.2.1 hX3 hS hC.2.2.2.1 (hC.2.2.2.2.1 _ hw) (fun _ h9 => h9) hd (hs ar _ H locs ⟨ws, lv, hh, hl, hL, ⟨⟨1, rfl, rfl⟩, hF⟩, hP, hD, hS⟩)
  · exact va_gets hC.1 hC.2.1 hX4.1 hS hC.2.2.2.1 (hC.2.2.2.2.1 _ hw) (fun _ h9 => h9) hd (hs ar _ H locs ⟨ws, lv, hh, hl, hL, ⟨Or.inl ⟨rfl, rfl, hX4.2⟩, hF⟩, hP, hD, hS⟩)
end QH
