/-! THE LAW FROM ITS ENTRY -/
section ZQ
variable {p : Program} {l : Launch} {e : Env} {s : State} {m : MethodId} {below : List Frame} {meth : Method} {c : Code} {a9 : Array Value}
theorem zarrP {ty : FieldType} (h : (Jvm.Cond.arrayClass ty).before a9 s = true) (ht : ∀ C, ty ≠ .object C) : ∃ cA, ArrOfT s cA ty ∧ va_RA s cA ty := by
  obtain ⟨cA, k, comp, h1, h2, h3⟩ := Cond.arrayClass_spec h
  refine ⟨cA, fun n z => ⟨(fun q hq => by cases hq), k, h2, comp, h3⟩, ?_⟩
  cases ty with
  | object C => exact absurd rfl (ht C)
  | _ => exact h1
theorem zarrO {C : String} (h : (Jvm.Cond.arrayOver (.object C)).before a9 s = true) : ∃ cA, ArrOfT s cA (.object C) ∧ va_RA s cA (.object C) := by
  obtain ⟨comp, cA, k, h1, -, h2, h3, h4⟩ := Cond.arrayOver_spec h
  exact ⟨cA, fun n z => ⟨(fun q hq => by cases hq), k, h2, comp, h3⟩, k, comp, h2, h3, h1, h4⟩
theorem zarrA (h : (Jvm.Cond.arrayOver (.array .int)).before a9 s = true) : ∃ cA, ArrOfT s cA (.array .int) ∧ va_RA s cA (.array .int) := by
  simp only [Cond.before, Cond.holds, Cond.value, beq_iff_eq, Option.bind_eq_some_iff, Option.map_eq_some_iff] at h
  obtain ⟨_, -, cA, -, k, hk, hd⟩ := h
  split at hd
  · rename_i cc ty hz
    rw [Bool.and_eq_true, decide_eq_true_eq, decide_eq_true_eq] at hd
    refine ⟨cA, fun n z => ⟨(fun q hq => by cases hq), k, hk, cc, ?_⟩, hd.2⟩
    rw [hz, hd.1]
  · cases hd
set_option maxRecDepth 100000 in
set_option maxHeartbeats 4000000 in
theorem zk_start {b : Nat} (hts : ∀ w ∈ lw_tbl, w.before #[Value.ref b] s = true) : ∃ (D : va_G) (kk : Nat → ClassId), va_K D vwCl (zKs kk) s := by
  obtain ⟨c0, i0, k0⟩ := u_known (C := RX0) (T := TX0) (N := 7) (n := 7) hts inX0 (hts (.instantiable RX0 7) (by decide +kernel))
  obtain ⟨c1, i1, k1⟩ := u_known (C := RX1) (T := TX1) (N := 5) (n := 5) hts inX1 (hts (.instantiable RX1 5) (by decide +kernel))
  obtain ⟨c2, i2, k2⟩ := u_known (C := RX2) (T := TX2) (N := 8) (n := 8) hts inX2 (hts (.instantiable RX2 8) (by decide +kernel))
  obtain ⟨c3, i3, k3⟩ := u_known (C := RX3) (T := TX3) (N := 4) (n := 4) hts inX3 (hts (.instantiable RX3 4) (by decide +kernel))
  obtain ⟨c4, i4, k4⟩ := u_known (C := RX4) (T := TX4) (N := 2) (n := 2) hts inX4 (hts (.instantiable RX4 2) (by decide +kernel))
  obtain ⟨c5, i5, k5⟩ := u_known (C := RX5) (T := TX5) (N := 11) (n := 11) hts inX5 (hts (.instantiable RX5 11) (by decide +kernel))
  obtain ⟨c6, i6, k6⟩ := u_known (C := RX6) (T := TX6) (N := 6) (n := 6) hts inX6 (hts (.instantiable RX6 6) (by decide +kernel))
  obtain ⟨c7, i7, k7⟩ := u_known (C := RX7) (T := TX7) (N := 3) (n := 3) hts inX7 (hts (.instantiable RX7 3) (by decide +kernel))
  obtain ⟨c8, i8, k8⟩ := u_known (C := RX8) (T := TX8) (N := 7) (n := 7) hts inX8 (hts (.instantiable RX8 7) (by decide +kernel))
  obtain ⟨c9, i9, k9⟩ := u_known (C := RX9) (T := TX9) (N := 7) (n := 7) hts inX9 (hts (.instantiable RX9 7) (by decide +kernel))
  obtain ⟨c10, i10, k10⟩ := u_known (C := RX10) (T := TX10) (N := 51) (n := 51) hts inX10 (hts (.instantiable RX10 51) (by decide +kernel))
  obtain ⟨q0, r0⟩ := zarrP (ty := .int) (hts (.arrayClass .int) (by decide +kernel)) (fun C h => by cases h)
  obtain ⟨q1, r1⟩ := zarrP (ty := .byte) (hts (.arrayClass .byte) (by decide +kernel)) (fun C h => by cases h)
  obtain ⟨q2, r2⟩ := zarrP (ty := .char) (hts (.arrayClass .char) (by decide +kernel)) (fun C h => by cases h)
  obtain ⟨q3, r3⟩ := zarrP (ty := .boolean) (hts (.arrayClass .boolean) (by decide +kernel)) (fun C h => by cases h)
  obtain ⟨q4, r4⟩ := zarrP (ty := .long) (hts (.arrayClass .long) (by decide +kernel)) (fun C h => by cases h)
  obtain ⟨q5, r5⟩ := zarrO (C := RX5) (hts (.arrayOver (.object RX5)) (by decide +kernel))
  obtain ⟨q6, r6⟩ := zarrO (C := RX1) (hts (.arrayOver (.object RX1)) (by decide +kernel))
  obtain ⟨q7, r7⟩ := zarrA (hts (.arrayOver (.array .int)) (by decide +kernel))
  refine ⟨(fun k => match k with | 0 => c0 | 1 => c1 | 2 => c2 | 3 => c3 | 4 => c4 | 5 => c5 | 6 => c6 | 7 => c7 | 8 => c8 | 9 => c9 | _ => c10, fun k => match k with | 0 => i0 | 1 => i1 | 2 => i2 | 3 => i3 | 4 => i4 | 5 => i5 | 6 => i6 | 7 => i7 | 8 => i8 | 9 => i9 | _ => i10), fun k => match k with | 0 => q0 | 1 => q1 | 2 => q2 | 3 => q3 | 4 => q4 | 5 => q5 | 6 => q6 | _ => q7, fun k q hq => ?_, fun k q hq => ?_⟩
  · match k, hq with
    | 0, hq => cases hq; exact k0
    | 1, hq => cases hq; exact k1
    | 2, hq => cases hq; exact k2
    | 3, hq => cases hq; exact k3
    | 4, hq => cases hq; exact k4
    | 5, hq => cases hq; exact k5
    | 6, hq => cases hq; exact k6
    | 7, hq => cases hq; exact k7
    | 8, hq => cases hq; exact k8
    | 9, hq => cases hq; exact k9
    | 10, hq => cases hq; exact k10
    | k + 11, hq => cases hq
  · match k, hq with
    | 0, hq => cases hq; exact r0
    | 1, hq => cases hq; exact r1
    | 2, hq => cases hq; exact r2
    | 3, hq => cases hq; exact r3
    | 4, hq => cases hq; exact r4
    | 5, hq => cases hq; exact r5
    | 6, hq => cases hq; exact r6
    | 7, hq => cases hq; exact r7
    | k + 8, hq => cases hq
set_option maxRecDepth 100000 in
set_option maxHeartbeats 4000000 in
theorem zx_start {b : Nat} (hts : ∀ w ∈ lw_tbl, w.before #[Value.ref b] s = true) (hgv : (Jvm.Cond.and given_1 narrow_1).before #[Value.ref b] s = true) : ∃ tz : Nat → Nat, ∀ xs, zX (b, tz, xs) (fun q : Nat => s.heap.size ≤ q) s s.heap := by
  have hs := flat_of_before _ hgv
  have hA : ∀ a : Nat, a < s.heap.size → ¬ (fun q : Nat => s.heap.size ≤ q) a := fun a h => Nat.not_le.mpr h
  obtain ⟨t0, ht0, hT0⟩ := va_Tof (tm := .static "LetterDebts" "ABOVE" "[I") (ty := .int) (N := 8) (f := fun j => .int (Int32.ofInt ((ztb 0).getD j 0))) (A := fun q : Nat => s.heap.size ≤ q) (by decide) (hs _ (by decide +kernel)) (va_eqt (z := 8) (hs _ (by decide +kernel))) (fun j hj => by
    rcases (show j = 0 ∨ j = 1 ∨ j = 2 ∨ j = 3 ∨ j = 4 ∨ j = 5 ∨ j = 6 ∨ j = 7 by omega) with rfl | rfl | rfl | rfl | rfl | rfl | rfl | rfl
    · exact va_eqt (z := (-1)) (hs _ (by decide +kernel))
    · exact va_eqt (z := 0) (hs _ (by decide +kernel))
    · exact va_eqt (z := 0) (hs _ (by decide +kernel))
    · exact va_eqt (z := 2) (hs _ (by decide +kernel))
    · exact va_eqt (z := 0) (hs _ (by decide +kernel))
    · exact va_eqt (z := 4) (hs _ (by decide +kernel))
    · exact va_eqt (z := 0) (hs _ (by decide +kernel))
    · exact va_eqt (z := 4) (hs _ (by decide +kernel))) hA
  have hZ0 := va_Zref (A := fun q : Nat => s.heap.size ≤ q) (hts (.laysStatic "LetterDebts" "ABOVE" "[I") (by decide +kernel)) (hts (.initialized "LetterDebts") (by decide +kernel)) ht0 hA
  obtain ⟨t1, ht1, hT1⟩ := va_Tof (tm := .static "LetterDebts" "MARKS" "[I") (ty := .int) (N := 8) (f := fun j => .int (Int32.ofInt ((ztb 1).getD j 0))) (A := fun q : Nat => s.heap.size ≤ q) (by decide) (hs _ (by decide +kernel)) (va_eqt (z := 8) (hs _ (by decide +kernel))) (fun j hj => by
    rcases (show j = 0 ∨ j = 1 ∨ j = 2 ∨ j = 3 ∨ j = 4 ∨ j = 5 ∨ j = 6 ∨ j = 7 by omega) with rfl | rfl | rfl | rfl | rfl | rfl | rfl | rfl
    · exact va_eqt (z := 1) (hs _ (by decide +kernel))
    · exact va_eqt (z := 10) (hs _ (by decide +kernel))
    · exact va_eqt (z := 100) (hs _ (by decide +kernel))
    · exact va_eqt (z := 1000) (hs _ (by decide +kernel))
    · exact va_eqt (z := 10000) (hs _ (by decide +kernel))
    · exact va_eqt (z := 100000) (hs _ (by decide +kernel))
    · exact va_eqt (z := 1000000) (hs _ (by decide +kernel))
    · exact va_eqt (z := 10000000) (hs _ (by decide +kernel))) hA
  have hZ1 := va_Zref (A := fun q : Nat => s.heap.size ≤ q) (hts (.laysStatic "LetterDebts" "MARKS" "[I") (by decide +kernel)) (hts (.initialized "LetterDebts") (by decide +kernel)) ht1 hA
  refine ⟨fun k => match k with | 0 => t0 | _ => t1, fun xs => ⟨⟨va_AO.of (hts (.arrayOver (.object RX5)) (by decide +kernel)), fun w hw => ?_⟩, va_AO.of (hts (.arrayOver (.object RX1)) (by decide +kernel)), va_AOA.of (hts (.arrayOver (.array .int)) (by decide +kernel)), ⟨hZ0, hT0⟩, hZ1, hT1⟩⟩
  have h1 := List.mem_filter.mp hw
  have h2 := h1.2
  have h3 := hts w h1.1
  unfold zisN at h2
  split at h2
  · exact va_Nw.of rfl h3
  · cases h2
set_option maxRecDepth 100000 in
set_option maxHeartbeats 4000000 in
theorem qx_start {b : Nat} (hts : ∀ w ∈ lw_tbl, w.before #[Value.ref b] s = true) (hgv : (Jvm.Cond.and given_1 narrow_1).before #[Value.ref b] s = true) : ∃ (tz : Nat → Nat) (g : qG), (∀ xs, zX (b, tz, xs) (fun q : Nat => s.heap.size ≤ q) s s.heap) ∧ g.1 0 = b ∧ qX g (fun q : Nat => s.heap.size ≤ q) s s.heap := by
  obtain ⟨tz, hZ⟩ := zx_start hts hgv
  have hs := flat_of_before _ hgv
  have hA : ∀ a : Nat, a < s.heap.size → ¬ (fun q : Nat => s.heap.size ≤ q) a := fun a h => Nat.not_le.mpr h
  obtain ⟨adK, adV, hS, hE⟩ := vk_Sof (args := #[Value.ref b]) (s := s) (N := 6) (tm := fun i => .string RX7 (qsi.getD i 0)) (len := qlen) (byt := qsl) (A := fun q : Nat => s.heap.size ≤ q)
    (fun i hi => by
      rcases (show i = 0 ∨ i = 1 ∨ i = 2 ∨ i = 3 ∨ i = 4 ∨ i = 5 by omega) with rfl | rfl | rfl | rfl | rfl | rfl
      all_goals decide)
    (fun i hi => by
      rcases (show i = 0 ∨ i = 1 ∨ i = 2 ∨ i = 3 ∨ i = 4 ∨ i = 5 by omega) with rfl | rfl | rfl | rfl | rfl | rfl
      all_goals exact hs _ (by decide +kernel))
    (fun i hi => by
      rcases (show i = 0 ∨ i = 1 ∨ i = 2 ∨ i = 3 ∨ i = 4 ∨ i = 5 by omega) with rfl | rfl | rfl | rfl | rfl | rfl
      all_goals exact hs _ (by decide +kernel))
    (fun i hi => by
      rcases (show i = 0 ∨ i = 1 ∨ i = 2 ∨ i = 3 ∨ i = 4 ∨ i = 5 by omega) with rfl | rfl | rfl | rfl | rfl | rfl
      all_goals exact hs _ (by decide +kernel))
    (fun i hi => by
      rcases (show i = 0 ∨ i = 1 ∨ i = 2 ∨ i = 3 ∨ i = 4 ∨ i = 5 by omega) with rfl | rfl | rfl | rfl | rfl | rfl
      all_goals exact hs _ (by decide +kernel))
    (fun i hi j hj => by
      rcases (show i = 0 ∨ i = 1 ∨ i = 2 ∨ i = 3 ∨ i = 4 ∨ i = 5 by omega) with rfl | rfl | rfl | rfl | rfl | rfl
      · have hj : j < 4 := hj
        rcases (show j = 0 ∨ j = 1 ∨ j = 2 ∨ j = 3 by omega) with rfl | rfl | rfl | rfl
        all_goals exact hs _ (by decide +kernel)
      · have hj : j < 4 := hj
        rcases (show j = 0 ∨ j = 1 ∨ j = 2 ∨ j = 3 by omega) with rfl | rfl | rfl | rfl
        all_goals exact hs _ (by decide +kernel)
      · have hj : j < 4 := hj
        rcases (show j = 0 ∨ j = 1 ∨ j = 2 ∨ j = 3 by omega) with rfl | rfl | rfl | rfl
        all_goals exact hs _ (by decide +kernel)
      · have hj : j < 4 := hj
        rcases (show j = 0 ∨ j = 1 ∨ j = 2 ∨ j = 3 by omega) with rfl | rfl | rfl | rfl
        all_goals exact hs _ (by decide +kernel)
      · have hj : j < 1 := hj
        rcases (show j = 0 by omega) with rfl
        exact hs _ (by decide +kernel)
      · have hj : j < 1 := hj
        rcases (show j = 0 by omega) with rfl
        exact hs _ (by decide +kernel))
    (fun i j hi hj hij => by
      rcases (show i = 0 ∨ i = 1 ∨ i = 2 ∨ i = 3 ∨ i = 4 ∨ i = 5 by omega) with rfl | rfl | rfl | rfl | rfl | rfl
      all_goals (rcases (show j = 0 ∨ j = 1 ∨ j = 2 ∨ j = 3 ∨ j = 4 ∨ j = 5 by omega) with rfl | rfl | rfl | rfl | rfl | rfl)
      all_goals first | exact absurd rfl hij | exact Or.inl (hs _ (by decide +kernel)) | exact Or.inr (hs _ (by decide +kernel)))
    hA
  have hco := va_Zof (A := fun q : Nat => s.heap.size ≤ q) (hts (.laysStatic "java/lang/String" "COMPACT_STRINGS" "Z") (by decide +kernel)) (hts (.initialized "java/lang/String") (by decide +kernel)) (va_eqt (z := 1) (hs (.eq (.static "java/lang/String" "COMPACT_STRINGS" "Z") (.int 1)) (by decide +kernel))) hA
  have hfo := va_Zqof (A := fun q : Nat => s.heap.size ≤ q) (hts (.laysStatic "jdk/internal/util/Preconditions" "SIOOBE_FORMATTER" "Ljava/util/function/BiFunction;") (by decide +kernel)) (hts (.initialized "jdk/internal/util/Preconditions") (by decide +kernel)) (hs (.isRef (.static "jdk/internal/util/Preconditions" "SIOOBE_FORMATTER" "Ljava/util/function/BiFunction;")) (by decide +kernel)) hA
  obtain ⟨v, hv, hvc⟩ : ∃ v : Value, va_Z "jdk/internal/util/Preconditions" "SIOOBE_FORMATTER" "Ljava/util/function/BiFunction;" v (fun q : Nat => s.heap.size ≤ q) s s.heap ∧ v.category = 1 := by
    rcases hfo with h | ⟨t, h⟩
    · exact ⟨_, h, rfl⟩
    · exact ⟨_, h, rfl⟩
  have hR : ∀ i, i < 6 → vk_R RX7 (qsi.getD i 0) (qtx.getD i "") (adK i) s := fun i hi => by
    refine vk_R.of (A := #[Value.ref b]) ?_ (hE i hi)
    rcases (show i = 0 ∨ i = 1 ∨ i = 2 ∨ i = 3 ∨ i = 4 ∨ i = 5 by omega) with rfl | rfl | rfl | rfl | rfl | rfl
    all_goals exact hts _ (by decide +kernel)
  obtain ⟨gf, hgf⟩ : ∃ gf : Nat → Nat, gf = fun k => if k = 0 then b else if k = 1 then tz 0 else if k = 2 then tz 1 else if k < 20 then adK (k - 10) else adV (k - 20) := ⟨_, rfl⟩
  have g0 : gf 0 = b := by rw [hgf]; rfl
  have g1 : gf 1 = tz 0 := by rw [hgf]; rfl
  have g2 : gf 2 = tz 1 := by rw [hgf]; rfl
  have gK : ∀ i, i < 6 → gf (10 + i) = adK i := fun i hi => by
    rw [hgf]
    show (if 10 + i = 0 then b else if 10 + i = 1 then tz 0 else if 10 + i = 2 then tz 1 else if 10 + i < 20 then adK (10 + i - 10) else adV (10 + i - 20)) = _
    rw [if_neg (by omega), if_neg (by omega), if_neg (by omega), if_pos (by omega), Nat.add_sub_cancel_left]
  have gV : ∀ i, i < 6 → gf (20 + i) = adV i := fun i hi => by
    rw [hgf]
    show (if 20 + i = 0 then b else if 20 + i = 1 then tz 0 else if 20 + i = 2 then tz 1 else if 20 + i < 20 then adK (20 + i - 10) else adV (20 + i - 20)) = _
    rw [if_neg (by omega), if_neg (by omega), if_neg (by omega), if_neg (by omega), Nat.add_sub_cancel_left]
  have hZ0 := hZ (fun _ => 0)
  refine ⟨tz, (gf, v), hZ, g0, hZ0.1.2, ?_, ?_, hco, ⟨hv, hvc⟩, ⟨fun i hi => ?_, fun i j hi hj e9 => ?_⟩, fun i hi => ?_⟩
  · show va_Z _ _ _ (.ref (gf 1)) _ _ _ ∧ va_T .int (gf 1) 8 _ _ _ _
    rw [g1]
    exact hZ0.2.2.2.1
  · show va_Z _ _ _ (.ref (gf 2)) _ _ _ ∧ va_T .int (gf 2) 8 _ _ _ _
    rw [g2]
    exact hZ0.2.2.2.2
  · show va_O "java/lang/String" (gf (10 + i)) _ s s.heap ∧ va_OF "java/lang/String" "coder" "B" (.int 0) (gf (10 + i)) _ s s.heap ∧ va_OF "java/lang/String" "value" "[B" (.ref (gf (20 + i))) (gf (10 + i)) _ s s.heap ∧ va_T .byte (gf (20 + i)) _ _ _ s s.heap
    rw [gK i hi, gV i hi]
    exact hS.1 i hi
  · have e9 : gf (10 + i) = gf (10 + j) := e9
    rw [gK i hi, gK j hj] at e9
    exact hS.2 i j hi hj e9
  · show vk_R RX7 _ _ (gf (10 + i)) s
    rw [gK i hi]
    exact hR i hi
end ZQ
