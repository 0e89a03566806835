/-! THE LAW FROM ITS ENTRY -/
section ZQ
variable {p : Program} {l : Launch} {e : Env} {s : State} {m : MethodId} {below : List Frame} {meth : Method} {c : Code} {a9 : Array Value}
theorem zarrP {ty : FieldType} (h : (Jvm.Cond.arrayClass ty).before a9 s = true) (ht : ∀ C, ty ≠ .object C) : ∃ cA, ArrOfT s cA ty ∧ va_RA s cA ty := by
  obtain ⟨cA, k, comp, h1, h2, h3⟩ := Cond.arrayClass_spec h
  refine ⟨cA, fun n z => ⟨(fun q hq => by cases hq), k, h2, comp, h3⟩, ?_⟩
  cases ty with
  | object C => exact absurd rfl (ht C)
  | _ => exact h1
theorem zarrO {C : String} (h : (Jvm.Cond.arrayOver (.object C)).before a9 s = true) : ∃ cA, ArrOfT s cA (.object C) ∧ va_RA s cA (.object C) := by
  obtain ⟨comp, cA, k, h1, -, h2, h3, h4⟩ := Cond.arrayOver_spec h
  exact ⟨cA, fun n z => ⟨(fun q hq => by cases hq), k, h2, comp, h3⟩, k, comp, h2, h3, h1, h4⟩
theorem zarrA (h : (Jvm.Cond.arrayOver (.array .int)).before a9 s = true) : ∃ cA, ArrOfT s cA (.array .int) ∧ va_RA s cA (.array .int) := by
  simp only [Cond.before, Cond.holds, Cond.value, beq_iff_eq, Option.bind_eq_some_iff, Option.map_eq_some_iff] at h
  obtain ⟨_, -, cA, -, k, hk, hd⟩ := h
  split at hd
  · rename_i cc ty hz
    rw [Bool.and_eq_true, decide_eq_true_eq, decide_eq_true_eq] at hd
    refine ⟨cA, fun n z => ⟨(fun q hq => by cases hq), k, hk, cc, ?_⟩, hd.2⟩
    rw [hz, hd.1]
  · cases hd
set_option maxRecDepth 100000 in
set_option maxHeartbeats 4000000 in
theorem zk_start {b : Nat} (hts : ∀ w ∈ lw_tbl, w.before #[Value.ref b] s = true) : ∃ (D : va_G) (kk : Nat → ClassId), va_K D vwCl (zKs kk) s := by
  obtain ⟨c0, i0, k0⟩ := u_known (C := RX0) (T := TX0) (N := 7) (n := 7) hts inX0 (hts (.instantiable RX0 7) (by decide +kernel))
  obtain ⟨c1, i1, k1⟩ := u_known (C := RX1) (T := TX1) (N := 5) (n := 5) hts inX1 (hts (.instantiable RX1 5) (by decide +kernel))
  obtain ⟨c2, i2, k2⟩ := u_known (C := RX2) (T := TX2) (N := 8) (n := 8) hts inX2 (hts (.instantiable RX2 8) (by decide +kernel))
  obtain ⟨c3, i3, k3⟩ := u_known (C := RX3) (T := TX3) (N := 4) (n := 4) hts inX3 (hts (.instantiable RX3 4) (by decide +kernel))
  obtain ⟨c4, i4, k4⟩ := u_known (C := RX4) (T := TX4) (N := 2) (n := 2) hts inX4 (hts (.instantiable RX4 2) (by decide +kernel))
  obtain ⟨c5, i5, k5⟩ := u_known (C := RX5) (T := TX5) (N := 11) (n := 11) hts inX5 (hts (.instantiable RX5 11) (by decide +kernel))
  obtain ⟨c6, i6, k6⟩ := u_known (C := RX6) (T := TX6) (N := 6) (n := 6) hts inX6 (hts (.instantiable RX6 6) (by decide +kernel))
  obtain ⟨c7, i7, k7⟩ := u_known (C := RX7) (T := TX7) (N := 3) (n := 3) hts inX7 (hts (.instantiable RX7 3) (by decide +kernel))
  obtain ⟨c8, i8, k8⟩ := u_known (C := RX8) (T := TX8) (N := 7) (n := 7) hts inX8 (hts (.instantiable RX8 7) (by decide +kernel))
  obtain ⟨c9, i9, k9⟩ := u_known (C := RX9) (T := TX9) (N := 7) (n := 7) hts inX9 (hts (.instantiable RX9 7) (by decide +kernel))
  obtain ⟨c10, i10, k10⟩ := u_known (C := RX10) (T := TX10) (N := 51) (n := 51) hts inX10 (hts (.instantiable RX10 51) (by decide +kernel))
  obtain ⟨q0, r0⟩ := zarrP (ty := .int) (hts (.arrayClass .int) (by decide +kernel)) (fun C h => by cases h)
  obtain ⟨q1, r1⟩ := zarrP (ty := .byte) (hts (.arrayClass .byte) (by decide +kernel)) (fun C h => by cases h)
  obtain ⟨q2, r2⟩ := zarrP (ty := .char) (hts (.arrayClass .char) (by decide +kernel)) (fun C h => by cases h)
  obtain ⟨q3, r3⟩ := zarrP (ty := .boolean) (hts (.arrayClass .boolean) (by decide +kernel)) (fun C h => by cases h)
  obtain ⟨q4, r4⟩ := zarrP (ty := .long) (hts (.arrayClass .long) (by decide +kernel)) (fun C h => by cases h)
  obtain ⟨q5, r5⟩ := zarrO (C := RX5) (hts (.arrayOver (.object RX5)) (by decide +kernel))
  obtain ⟨q6, r6⟩ := zarrO (C := RX1) (hts (.arrayOver (.object RX1)) (by decide +kernel))
  obtain ⟨q7, r7⟩ := zarrA (hts (.arrayOver (.array .int)) (by decide +kernel))
  refine ⟨(fun k => match k with | 0 => c0 | 1 => c1 | 2 => c2 | 3 => c3 | 4 => c4 | 5 => c5 | 6 => c6 | 7 => c7 | 8 => c8 | 9 => c9 | _ => c10, fun k => match k with | 0 => i0 | 1 => i1 | 2 => i2 | 3 => i3 | 4 => i4 | 5 => i5 | 6 => i6 | 7 => i7 | 8 => i8 | 9 => i9 | _ => i10), fun k => match k with | 0 => q0 | 1 => q1 | 2 => q2 | 3 => q3 | 4 => q4 | 5 => q5 | 6 => q6 | _ => q7, fun k q hq => ?_, fun k q hq => ?_⟩
  · match k, hq with
    | 0, hq => cases hq; exact k0
    | 1, hq => cases hq; exact k1
    | 2, hq => cases hq; exact k2
    | 3, hq => cases hq; exact k3
    | 4, hq => cases hq; exact k4
    | 5, hq => cases hq; exact k5
    | 6, hq => cases hq; exact k6
    | 7, hq => cases hq; exact k7
    | 8, hq => cases hq; exact k8
    | 9, hq => cases hq; exact k9
    | 10, hq => cases hq; exact k10
    | k + 11, hq => cases hq
  · match k, hq with
    | 0, hq => cases hq; exact r0
    | 1, hq => cases hq; exact r1
    | 2, hq => cases hq; exact r2
    | 3, hq => cases hq; exact r3
    | 4, hq => cases hq; exact r4
    | 5, hq => cases hq; exact r5
    | 6, hq => cases hq; exact r6
    | 7, hq => cases hq; exact r7
    | k + 8, hq => cases hq
set_option maxRecDepth 100000 in
set_option maxHeartbeats 4000000 in
theorem zx_start {b : Nat} (hts : ∀ w ∈ lw_tbl, w.before #[Value.ref b] s = true) (hgv : (Jvm.Cond.and given_1 narrow_1).before #[Value.ref b] s = true) : ∃ tz : Nat → Nat, ∀ xs, zX (b, tz, xs) (fun q : Nat => s.heap.size ≤ q) s s.heap := by
  have hs := flat_of_before _ hgv
  have hA : ∀ a : Nat, a < s.heap.size → ¬ (fun q : Nat => s.heap.size ≤ q) a := fun a h => Nat.not_le.mpr h
  obtain ⟨t0, ht0, hT0⟩ := va_Tof (tm := .static "LetterDebts" "ABOVE" "[I") (ty := .int) (N := 8) (f := fun j => .int (Int32.ofInt ((ztb 0).getD j 0))) (A := fun q : Nat => s.heap.size ≤ q) (by decide) (hs _ (by decide +kernel)) (va_eqt (z := 8) (hs _ (by decide +kernel))) (fun j hj => by
    rcases (show j = 0 ∨ j = 1 ∨ j = 2 ∨ j = 3 ∨ j = 4 ∨ j = 5 ∨ j = 6 ∨ j = 7 by omega) with rfl | rfl | rfl | rfl | rfl | rfl | rfl | rfl
    · exact va_eqt (z := (-1)) (hs _ (by decide +kernel))
    · exact va_eqt (z := 0) (hs _ (by decide +kernel))
    · exact va_eqt (z := 0) (hs _ (by decide +kernel))
    · exact va_eqt (z := 2) (hs _ (by decide +kernel))
    · exact va_eqt (z := 0) (hs _ (by decide +kernel))
    · exact va_eqt (z := 4) (hs _ (by decide +kernel))
    · exact va_eqt (z := 0) (hs _ (by decide +kernel))
    · exact va_eqt (z := 4) (hs _ (by decide +kernel))) hA
  have hZ0 := va_Zref (A := fun q : Nat => s.heap.size ≤ q) (hts (.laysStatic "LetterDebts" "ABOVE" "[I") (by decide +kernel)) (hts (.initialized "LetterDebts") (by decide +kernel)) ht0 hA
  obtain ⟨t1, ht1, hT1⟩ := va_Tof (tm := .static "LetterDebts" "MARKS" "[I") (ty := .int) (N := 8) (f := fun j => .int (Int32.ofInt ((ztb 1).getD j 0))) (A := fun q : Nat => s.heap.size ≤ q) (by decide) (hs _ (by decide +kernel)) (va_eqt (z := 8) (hs _ (by decide +kernel))) (fun j hj => by
    rcases (show j = 0 ∨ j = 1 ∨ j = 2 ∨ j = 3 ∨ j = 4 ∨ j = 5 ∨ j = 6 ∨ j = 7 by omega) with rfl | rfl | rfl | rfl | rfl | rfl | rfl | rfl
    · exact va_eqt (z := 1) (hs _ (by decide +kernel))
    · exact va_eqt (z := 10) (hs _ (by decide +kernel))
    · exact va_eqt (z := 100) (hs _ (by decide +kernel))
    · exact va_eqt (z := 1000) (hs _ (by decide +kernel))
    · exact va_eqt (z := 10000) (hs _ (by decide +kernel))
    · exact va_eqt (z := 100000) (hs _ (by decide +kernel))
    · exact va_eqt (z := 1000000) (hs _ (by decide +kernel))
    · exact va_eqt (z := 10000000) (hs _ (by decide +kernel))) hA
  have hZ1 := va_Zref (A := fun q : Nat => s.heap.size ≤ q) (hts (.laysStatic "LetterDebts" "MARKS" "[I") (by decide +kernel)) (hts (.initialized "LetterDebts") (by decide +kernel)) ht1 hA
  refine ⟨fun k => match k with | 0 => t0 | _ => t1, fun xs => ⟨⟨va_AO.of (hts (.arrayOver (.object RX5)) (by decide +kernel)), fun w hw => ?_⟩, va_AO.of (hts (.arrayOver (.object RX1)) (by decide +kernel)), va_AOA.of (hts (.arrayOver (.array .int)) (by decide +kernel)), ⟨hZ0, hT0⟩, hZ1, hT1⟩⟩
  have h1 := List.mem_filter.mp hw
  have h2 := h1.2
  have h3 := hts w h1.1
  unfold zisN at h2
  split at h2
  · exact va_Nw.of rfl h3
  · cases h2
theorem zEv_bx {g : zG} {a b i : Int} (h1 : a ≤ (g.2.2 1).toInt) (h2 : (g.2.2 1).toInt ≤ b) (h3 : (g.2.2 5).toInt = i) (hm : g.2.2 5 = g.2.2 0 &&& 31) : zEv g (zbx a b i) := by
  have full : ∀ x : Int32, (-2147483648 : Int) ≤ x.toInt ∧ x.toInt ≤ 2147483647 := fun x => by have := fb_rng x; omega
  refine ⟨fun k q hk => ?_, hm⟩
  match k, hk with
  | 0, hk => cases (show some _ = some q from hk); exact full _
  | 1, hk => cases (show some _ = some q from hk); exact ⟨h1, h2⟩
  | 2, hk => cases (show some _ = some q from hk); exact full _
  | 3, hk => cases (show some _ = some q from hk); exact full _
  | 4, hk => cases (show some _ = some q from hk); exact full _
  | 5, hk => cases (show some _ = some q from hk); exact ⟨by show i ≤ _; omega, by show _ ≤ i; omega⟩
  | k + 6, hk => cases hk
/-- every script of five ints -/
theorem zall {g : zG} {D : va_G} {kk : Nat → ClassId} {A : Nat → Prop} {ad0 : List Nat} (hC : zCx p s m #[Value.ref g.1] meth c code 4 RL D kk A g false true) (hA : ∀ q, A q → s.heap.size ≤ q) (hlk : meth.locks = false) (hr : meth.sig.returnType = ret) (hm : g.2.2 5 = g.2.2 0 &&& 31) : zWn p l e room_1 s m #[Value.ref g.1] below meth c (lw_Z below #[Value.ref g.1] s) D kk A g ad0 4 0 0 18 zLM [] zh0 := by
  obtain ⟨j, hj, ej⟩ := pk_andE (g.2.2 0) (m := 31) 5 (by decide)
  have hj : j < 32 := hj
  have e5 : (g.2.2 5).toInt = (j : Int) := by rw [hm, ej]; exact nI_toInt (by omega)
  have full := fb_rng (g.2.2 1)
  rcases (show j = 0 ∨ j = 1 ∨ j = 2 ∨ j = 3 ∨ j = 4 ∨ j = 5 ∨ j = 6 ∨ j = 7 ∨ j = 8 ∨ j = 9 ∨ j = 10 ∨ j = 11 ∨ j = 12 ∨ j = 13 ∨ j = 14 ∨ j = 15 ∨ j = 16 ∨ j = 17 ∨ j = 18 ∨ j = 19 ∨ j = 20 ∨ j = 21 ∨ j = 22 ∨ j = 23 ∨ j = 24 ∨ j = 25 ∨ j = 26 ∨ j = 27 ∨ j = 28 ∨ j = 29 ∨ j = 30 ∨ j = 31 by omega) with rfl | rfl | rfl | rfl | rfl | rfl | rfl | rfl | rfl | rfl | rfl | rfl | rfl | rfl | rfl | rfl | rfl | rfl | rfl | rfl | rfl | rfl | rfl | rfl | rfl | rfl | rfl | rfl | rfl | rfl | rfl | rfl
  · exact zck_ok hC hA hlk hr 200 _ zpo0 (zEv_bx (by omega) (by omega) e5 hm)
  · exact zck_ok hC hA hlk hr 200 _ zpo1 (zEv_bx (by omega) (by omega) e5 hm)
  · exact zck_ok hC hA hlk hr 200 _ zpo2 (zEv_bx (by omega) (by omega) e5 hm)
  · exact zck_ok hC hA hlk hr 200 _ zpo3 (zEv_bx (by omega) (by omega) e5 hm)
  · exact zck_ok hC hA hlk hr 200 _ zpo4 (zEv_bx (by omega) (by omega) e5 hm)
  · rcases (show (g.2.2 1).toInt ≤ -1 ∨ 6 ≤ (g.2.2 1).toInt ∨ (g.2.2 1).toInt = 0 ∨ (g.2.2 1).toInt = 1 ∨ (g.2.2 1).toInt = 2 ∨ (g.2.2 1).toInt = 3 ∨ (g.2.2 1).toInt = 4 ∨ (g.2.2 1).toInt = 5 by omega) with w | w | w | w | w | w | w | w
    · exact zck_ok hC hA hlk hr 200 _ zpo5_l (zEv_bx (by omega) (by omega) e5 hm)
    · exact zck_ok hC hA hlk hr 200 _ zpo5_h (zEv_bx (by omega) (by omega) e5 hm)
    · exact zck_ok hC hA hlk hr 200 _ zpo5_0 (zEv_bx (by omega) (by omega) e5 hm)
    · exact zck_ok hC hA hlk hr 200 _ zpo5_1 (zEv_bx (by omega) (by omega) e5 hm)
    · exact zck_ok hC hA hlk hr 200 _ zpo5_2 (zEv_bx (by omega) (by omega) e5 hm)
    · exact zck_ok hC hA hlk hr 200 _ zpo5_3 (zEv_bx (by omega) (by omega) e5 hm)
    · exact zck_ok hC hA hlk hr 200 _ zpo5_4 (zEv_bx (by omega) (by omega) e5 hm)
    · exact zck_ok hC hA hlk hr 200 _ zpo5_5 (zEv_bx (by omega) (by omega) e5 hm)
  · rcases (show (g.2.2 1).toInt ≤ -1 ∨ 6 ≤ (g.2.2 1).toInt ∨ (g.2.2 1).toInt = 0 ∨ (g.2.2 1).toInt = 1 ∨ (g.2.2 1).toInt = 2 ∨ (g.2.2 1).toInt = 3 ∨ (g.2.2 1).toInt = 4 ∨ (g.2.2 1).toInt = 5 by omega) with w | w | w | w | w | w | w | w
    · exact zck_ok hC hA hlk hr 200 _ zpo6_l (zEv_bx (by omega) (by omega) e5 hm)
    · exact zck_ok hC hA hlk hr 200 _ zpo6_h (zEv_bx (by omega) (by omega) e5 hm)
    · exact zck_ok hC hA hlk hr 200 _ zpo6_0 (zEv_bx (by omega) (by omega) e5 hm)
    · exact zck_ok hC hA hlk hr 200 _ zpo6_1 (zEv_bx (by omega) (by omega) e5 hm)
    · exact zck_ok hC hA hlk hr 200 _ zpo6_2 (zEv_bx (by omega) (by omega) e5 hm)
    · exact zck_ok hC hA hlk hr 200 _ zpo6_3 (zEv_bx (by omega) (by omega) e5 hm)
    · exact zck_ok hC hA hlk hr 200 _ zpo6_4 (zEv_bx (by omega) (by omega) e5 hm)
    · exact zck_ok hC hA hlk hr 200 _ zpo6_5 (zEv_bx (by omega) (by omega) e5 hm)
  · rcases (show (g.2.2 1).toInt ≤ -1 ∨ 6 ≤ (g.2.2 1).toInt ∨ (g.2.2 1).toInt = 0 ∨ (g.2.2 1).toInt = 1 ∨ (g.2.2 1).toInt = 2 ∨ (g.2.2 1).toInt = 3 ∨ (g.2.2 1).toInt = 4 ∨ (g.2.2 1).toInt = 5 by omega) with w | w | w | w | w | w | w | w
    · exact zck_ok hC hA hlk hr 200 _ zpo7_l (zEv_bx (by omega) (by omega) e5 hm)
    · exact zck_ok hC hA hlk hr 200 _ zpo7_h (zEv_bx (by omega) (by omega) e5 hm)
    · exact zck_ok hC hA hlk hr 200 _ zpo7_0 (zEv_bx (by omega) (by omega) e5 hm)
    · exact zck_ok hC hA hlk hr 200 _ zpo7_1 (zEv_bx (by omega) (by omega) e5 hm)
    · exact zck_ok hC hA hlk hr 200 _ zpo7_2 (zEv_bx (by omega) (by omega) e5 hm)
    · exact zck_ok hC hA hlk hr 200 _ zpo7_3 (zEv_bx (by omega) (by omega) e5 hm)
    · exact zck_ok hC hA hlk hr 200 _ zpo7_4 (zEv_bx (by omega) (by omega) e5 hm)
    · exact zck_ok hC hA hlk hr 200 _ zpo7_5 (zEv_bx (by omega) (by omega) e5 hm)
  · rcases (show (g.2.2 1).toInt ≤ -1 ∨ 6 ≤ (g.2.2 1).toInt ∨ (g.2.2 1).toInt = 0 ∨ (g.2.2 1).toInt = 1 ∨ (g.2.2 1).toInt = 2 ∨ (g.2.2 1).toInt = 3 ∨ (g.2.2 1).toInt = 4 ∨ (g.2.2 1).toInt = 5 by omega) with w | w | w | w | w | w | w | w
    · exact zck_ok hC hA hlk hr 200 _ zpo8_l (zEv_bx (by omega) (by omega) e5 hm)
    · exact zck_ok hC hA hlk hr 200 _ zpo8_h (zEv_bx (by omega) (by omega) e5 hm)
    · exact zck_ok hC hA hlk hr 200 _ zpo8_0 (zEv_bx (by omega) (by omega) e5 hm)
    · exact zck_ok hC hA hlk hr 200 _ zpo8_1 (zEv_bx (by omega) (by omega) e5 hm)
    · exact zck_ok hC hA hlk hr 200 _ zpo8_2 (zEv_bx (by omega) (by omega) e5 hm)
    · exact zck_ok hC hA hlk hr 200 _ zpo8_3 (zEv_bx (by omega) (by omega) e5 hm)
    · exact zck_ok hC hA hlk hr 200 _ zpo8_4 (zEv_bx (by omega) (by omega) e5 hm)
    · exact zck_ok hC hA hlk hr 200 _ zpo8_5 (zEv_bx (by omega) (by omega) e5 hm)
  · rcases (show (g.2.2 1).toInt ≤ -1 ∨ 6 ≤ (g.2.2 1).toInt ∨ (g.2.2 1).toInt = 0 ∨ (g.2.2 1).toInt = 1 ∨ (g.2.2 1).toInt = 2 ∨ (g.2.2 1).toInt = 3 ∨ (g.2.2 1).toInt = 4 ∨ (g.2.2 1).toInt = 5 by omega) with w | w | w | w | w | w | w | w
    · exact zck_ok hC hA hlk hr 200 _ zpo9_l (zEv_bx (by omega) (by omega) e5 hm)
    · exact zck_ok hC hA hlk hr 200 _ zpo9_h (zEv_bx (by omega) (by omega) e5 hm)
    · exact zck_ok hC hA hlk hr 200 _ zpo9_0 (zEv_bx (by omega) (by omega) e5 hm)
    · exact zck_ok hC hA hlk hr 200 _ zpo9_1 (zEv_bx (by omega) (by omega) e5 hm)
    · exact zck_ok hC hA hlk hr 200 _ zpo9_2 (zEv_bx (by omega) (by omega) e5 hm)
    · exact zck_ok hC hA hlk hr 200 _ zpo9_3 (zEv_bx (by omega) (by omega) e5 hm)
    · exact zck_ok hC hA hlk hr 200 _ zpo9_4 (zEv_bx (by omega) (by omega) e5 hm)
    · exact zck_ok hC hA hlk hr 200 _ zpo9_5 (zEv_bx (by omega) (by omega) e5 hm)
  · rcases (show (g.2.2 1).toInt ≤ -1 ∨ 6 ≤ (g.2.2 1).toInt ∨ (g.2.2 1).toInt = 0 ∨ (g.2.2 1).toInt = 1 ∨ (g.2.2 1).toInt = 2 ∨ (g.2.2 1).toInt = 3 ∨ (g.2.2 1).toInt = 4 ∨ (g.2.2 1).toInt = 5 by omega) with w | w | w | w | w | w | w | w
    · exact zck_ok hC hA hlk hr 200 _ zpo10_l (zEv_bx (by omega) (by omega) e5 hm)
    · exact zck_ok hC hA hlk hr 200 _ zpo10_h (zEv_bx (by omega) (by omega) e5 hm)
    · exact zck_ok hC hA hlk hr 200 _ zpo10_0 (zEv_bx (by omega) (by omega) e5 hm)
    · exact zck_ok hC hA hlk hr 200 _ zpo10_1 (zEv_bx (by omega) (by omega) e5 hm)
    · exact zck_ok hC hA hlk hr 200 _ zpo10_2 (zEv_bx (by omega) (by omega) e5 hm)
    · exact zck_ok hC hA hlk hr 200 _ zpo10_3 (zEv_bx (by omega) (by omega) e5 hm)
    · exact zck_ok hC hA hlk hr 200 _ zpo10_4 (zEv_bx (by omega) (by omega) e5 hm)
    · exact zck_ok hC hA hlk hr 200 _ zpo10_5 (zEv_bx (by omega) (by omega) e5 hm)
  · rcases (show (g.2.2 1).toInt ≤ -1 ∨ 6 ≤ (g.2.2 1).toInt ∨ (g.2.2 1).toInt = 0 ∨ (g.2.2 1).toInt = 1 ∨ (g.2.2 1).toInt = 2 ∨ (g.2.2 1).toInt = 3 ∨ (g.2.2 1).toInt = 4 ∨ (g.2.2 1).toInt = 5 by omega) with w | w | w | w | w | w | w | w
    · exact zck_ok hC hA hlk hr 200 _ zpo11_l (zEv_bx (by omega) (by omega) e5 hm)
    · exact zck_ok hC hA hlk hr 200 _ zpo11_h (zEv_bx (by omega) (by omega) e5 hm)
    · exact zck_ok hC hA hlk hr 200 _ zpo11_0 (zEv_bx (by omega) (by omega) e5 hm)
    · exact zck_ok hC hA hlk hr 200 _ zpo11_1 (zEv_bx (by omega) (by omega) e5 hm)
    · exact zck_ok hC hA hlk hr 200 _ zpo11_2 (zEv_bx (by omega) (by omega) e5 hm)
    · exact zck_ok hC hA hlk hr 200 _ zpo11_3 (zEv_bx (by omega) (by omega) e5 hm)
    · exact zck_ok hC hA hlk hr 200 _ zpo11_4 (zEv_bx (by omega) (by omega) e5 hm)
    · exact zck_ok hC hA hlk hr 200 _ zpo11_5 (zEv_bx (by omega) (by omega) e5 hm)
  · rcases (show (g.2.2 1).toInt ≤ -1 ∨ 6 ≤ (g.2.2 1).toInt ∨ (g.2.2 1).toInt = 0 ∨ (g.2.2 1).toInt = 1 ∨ (g.2.2 1).toInt = 2 ∨ (g.2.2 1).toInt = 3 ∨ (g.2.2 1).toInt = 4 ∨ (g.2.2 1).toInt = 5 by omega) with w | w | w | w | w | w | w | w
    · exact zck_ok hC hA hlk hr 200 _ zpo12_l (zEv_bx (by omega) (by omega) e5 hm)
    · exact zck_ok hC hA hlk hr 200 _ zpo12_h (zEv_bx (by omega) (by omega) e5 hm)
    · exact zck_ok hC hA hlk hr 200 _ zpo12_0 (zEv_bx (by omega) (by omega) e5 hm)
    · exact zck_ok hC hA hlk hr 200 _ zpo12_1 (zEv_bx (by omega) (by omega) e5 hm)
    · exact zck_ok hC hA hlk hr 200 _ zpo12_2 (zEv_bx (by omega) (by omega) e5 hm)
    · exact zck_ok hC hA hlk hr 200 _ zpo12_3 (zEv_bx (by omega) (by omega) e5 hm)
    · exact zck_ok hC hA hlk hr 200 _ zpo12_4 (zEv_bx (by omega) (by omega) e5 hm)
    · exact zck_ok hC hA hlk hr 200 _ zpo12_5 (zEv_bx (by omega) (by omega) e5 hm)
  · rcases (show (g.2.2 1).toInt ≤ -1 ∨ 6 ≤ (g.2.2 1).toInt ∨ (g.2.2 1).toInt = 0 ∨ (g.2.2 1).toInt = 1 ∨ (g.2.2 1).toInt = 2 ∨ (g.2.2 1).toInt = 3 ∨ (g.2.2 1).toInt = 4 ∨ (g.2.2 1).toInt = 5 by omega) with w | w | w | w | w | w | w | w
    · exact zck_ok hC hA hlk hr 200 _ zpo13_l (zEv_bx (by omega) (by omega) e5 hm)
    · exact zck_ok hC hA hlk hr 200 _ zpo13_h (zEv_bx (by omega) (by omega) e5 hm)
    · exact zck_ok hC hA hlk hr 200 _ zpo13_0 (zEv_bx (by omega) (by omega) e5 hm)
    · exact zck_ok hC hA hlk hr 200 _ zpo13_1 (zEv_bx (by omega) (by omega) e5 hm)
    · exact zck_ok hC hA hlk hr 200 _ zpo13_2 (zEv_bx (by omega) (by omega) e5 hm)
    · exact zck_ok hC hA hlk hr 200 _ zpo13_3 (zEv_bx (by omega) (by omega) e5 hm)
    · exact zck_ok hC hA hlk hr 200 _ zpo13_4 (zEv_bx (by omega) (by omega) e5 hm)
    · exact zck_ok hC hA hlk hr 200 _ zpo13_5 (zEv_bx (by omega) (by omega) e5 hm)
  · exact zck_ok hC hA hlk hr 200 _ zpo14 (zEv_bx (by omega) (by omega) e5 hm)
  · exact zck_ok hC hA hlk hr 200 _ zpo15 (zEv_bx (by omega) (by omega) e5 hm)
  · exact zck_ok hC hA hlk hr 200 _ zpo16 (zEv_bx (by omega) (by omega) e5 hm)
  · exact zck_ok hC hA hlk hr 200 _ zpo17 (zEv_bx (by omega) (by omega) e5 hm)
  · rcases (show (g.2.2 1).toInt ≤ -1 ∨ 6 ≤ (g.2.2 1).toInt ∨ (g.2.2 1).toInt = 0 ∨ (g.2.2 1).toInt = 1 ∨ (g.2.2 1).toInt = 2 ∨ (g.2.2 1).toInt = 3 ∨ (g.2.2 1).toInt = 4 ∨ (g.2.2 1).toInt = 5 by omega) with w | w | w | w | w | w | w | w
    · exact zck_ok hC hA hlk hr 200 _ zpo18_l (zEv_bx (by omega) (by omega) e5 hm)
    · exact zck_ok hC hA hlk hr 200 _ zpo18_h (zEv_bx (by omega) (by omega) e5 hm)
    · exact zck_ok hC hA hlk hr 200 _ zpo18_0 (zEv_bx (by omega) (by omega) e5 hm)
    · exact zck_ok hC hA hlk hr 200 _ zpo18_1 (zEv_bx (by omega) (by omega) e5 hm)
    · exact zck_ok hC hA hlk hr 200 _ zpo18_2 (zEv_bx (by omega) (by omega) e5 hm)
    · exact zck_ok hC hA hlk hr 200 _ zpo18_3 (zEv_bx (by omega) (by omega) e5 hm)
    · exact zck_ok hC hA hlk hr 200 _ zpo18_4 (zEv_bx (by omega) (by omega) e5 hm)
    · exact zck_ok hC hA hlk hr 200 _ zpo18_5 (zEv_bx (by omega) (by omega) e5 hm)
  · exact zck_ok hC hA hlk hr 200 _ zpo19 (zEv_bx (by omega) (by omega) e5 hm)
  · exact zck_ok hC hA hlk hr 200 _ zpo20 (zEv_bx (by omega) (by omega) e5 hm)
  · exact zck_ok hC hA hlk hr 200 _ zpo21 (zEv_bx (by omega) (by omega) e5 hm)
  · exact zck_ok hC hA hlk hr 200 _ zpo22 (zEv_bx (by omega) (by omega) e5 hm)
  · rcases (show (g.2.2 1).toInt ≤ -1 ∨ 8 ≤ (g.2.2 1).toInt ∨ (g.2.2 1).toInt = 0 ∨ (g.2.2 1).toInt = 1 ∨ (g.2.2 1).toInt = 2 ∨ (g.2.2 1).toInt = 3 ∨ (g.2.2 1).toInt = 4 ∨ (g.2.2 1).toInt = 5 ∨ (g.2.2 1).toInt = 6 ∨ (g.2.2 1).toInt = 7 by omega) with w | w | w | w | w | w | w | w | w | w
    · exact zck_ok hC hA hlk hr 200 _ zpo23_l (zEv_bx (by omega) (by omega) e5 hm)
    · exact zck_ok hC hA hlk hr 200 _ zpo23_h (zEv_bx (by omega) (by omega) e5 hm)
    · exact zck_ok hC hA hlk hr 200 _ zpo23_0 (zEv_bx (by omega) (by omega) e5 hm)
    · exact zck_ok hC hA hlk hr 200 _ zpo23_1 (zEv_bx (by omega) (by omega) e5 hm)
    · exact zck_ok hC hA hlk hr 200 _ zpo23_2 (zEv_bx (by omega) (by omega) e5 hm)
    · exact zck_ok hC hA hlk hr 200 _ zpo23_3 (zEv_bx (by omega) (by omega) e5 hm)
    · exact zck_ok hC hA hlk hr 200 _ zpo23_4 (zEv_bx (by omega) (by omega) e5 hm)
    · exact zck_ok hC hA hlk hr 200 _ zpo23_5 (zEv_bx (by omega) (by omega) e5 hm)
    · exact zck_ok hC hA hlk hr 200 _ zpo23_6 (zEv_bx (by omega) (by omega) e5 hm)
    · exact zck_ok hC hA hlk hr 200 _ zpo23_7 (zEv_bx (by omega) (by omega) e5 hm)
  · exact zck_ok hC hA hlk hr 200 _ zpo24 (zEv_bx (by omega) (by omega) e5 hm)
  · exact zck_ok hC hA hlk hr 200 _ zpo25 (zEv_bx (by omega) (by omega) e5 hm)
  · exact zck_ok hC hA hlk hr 200 _ zpo26 (zEv_bx (by omega) (by omega) e5 hm)
  · exact zck_ok hC hA hlk hr 200 _ zpo27 (zEv_bx (by omega) (by omega) e5 hm)
  · exact zck_ok hC hA hlk hr 200 _ zpo28 (zEv_bx (by omega) (by omega) e5 hm)
  · exact zck_ok hC hA hlk hr 200 _ zpo29 (zEv_bx (by omega) (by omega) e5 hm)
  · exact zck_ok hC hA hlk hr 200 _ zpo30 (zEv_bx (by omega) (by omega) e5 hm)
  · exact zck_ok hC hA hlk hr 200 _ zpo31 (zEv_bx (by omega) (by omega) e5 hm)
end ZQ
