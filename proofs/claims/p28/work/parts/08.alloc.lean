section ZN
variable {p : Program} {l : Launch} {e : Env} {R : Room} {s : State} {m : MethodId} {args : Array Value} {below : List Frame} {meth : Method} {c : Code} {Q : State → Prop} {D : va_G} {kk : Nat → ClassId} {A : Nat → Prop} {g : zG} {ad0 : List Nat} {nL n0 m0 : Nat} {cc : ByteArray} {own : String} {ini top : Bool} {E : zE} {pc : Nat} {al al' : zL} {st st' : List zA} {h h' : zH}
/-- types that the classes' fields have -/
noncomputable def ztok : FieldType → Bool
  | .int => true
  | .boolean => true
  | .long => true
  | .object _ => true
  | .array _ => true
  | _ => false
noncomputable def zfsk (ci k : Nat) : Bool := ztok (zty ci k) && (match zg (zfs ci, []) k with
  | some a => zqA a (zdf (zty ci k))
  | none => false)
set_option maxRecDepth 100000 in
theorem zfsk_ok : ∀ ci, ci < 11 → ∀ k, k < zN ci → zfsk ci k = true := by decide +kernel
theorem zdf_ok {ad : List Nat} : ∀ {t : FieldType}, ztok t = true → zV g ad (zdf t) (defaultValue t)
  | .int, _ => zV_k rfl
  | .boolean, _ => zV_k rfl
  | .long, _ => zV_lg (fun c hc => by cases hc; rfl)
  | .object _, _ => rfl
  | .array _, _ => rfl
  | .byte, h => by cases h
  | .char, h => by cases h
  | .short, h => by cases h
  | .float, h => by cases h
  | .double, h => by cases h
theorem zfs_ok {ad : List Nat} {ci k : Nat} {a : zA} (hci : ci < 11) (hk : k < zN ci) (ha : zg (zfs ci, []) k = some a) : zV g ad a (defaultValue (zty ci k)) := by
  have h := zfsk_ok ci hci k hk
  unfold zfsk at h
  rw [ha, Bool.and_eq_true] at h
  have e : a = zdf (zty ci k) := zqA_eq h.2
  rw [e]
  exact zdf_ok h.1
theorem zSt_push {q n : Nat} {e1 : va_E} {c1 : zC} {ws : va_W} {lv : List (Nat × Value)} {ls : Array Slot} {sv : List Value} {H1 : Heap} {locs1 : List Loc} (hh : zHr g kk ad0 h ws) (hl : lv_has ls nL lv) (hL : zLs g (ws.map (·.1)) al lv) (hF : zVs g (ws.map (·.1)) st sv) (h2 : zCr g ((ws ++ [(q, e1)]).map (·.1)) kk c1 e1) (hP : va_P D vwCl (ws ++ [(q, e1)]) H1) (hD : va_D A (ws ++ [(q, e1)])) (hS : va_S A s.heap H1 locs1) : zSt s D kk A g ad0 nL al (zrf h.1.1 :: st) (zph h c1 n) ls (.ref q :: sv) H1 locs1 :=
  ⟨ws ++ [(q, e1)], lv, zHr_push hh h2, hl, by rw [List.map_append]; exact zLs_grow _ hL, ⟨⟨q, by rw [← hh.1.1, List.map_append, List.getElem?_append_right (by rw [List.length_map]; exact Nat.le_refl _)]; simp, rfl⟩, by rw [List.map_append]; exact zVs_grow _ hF⟩, hP, hD, hS⟩
theorem zh_new (hC : zCx p s m args meth c cc nL own D kk A g ini top) (hE : zEv g E) {C : String} {T : u_T} {N i r1 : Nat} (hcl : zCl r1 C T N) (hw : Jvm.Cond.classLink own i C ∈ zW) (h0 : n0 ≤ h.1.1) (h1 : m0 ≤ h.1.2) (hr1 : h'.1.1 - n0 ≤ R.cells) (hr2 : h'.1.2 - m0 ≤ R.slots) (hd : decode cc pc = .ok (.new i, 3)) (hs : zs_new r1 E top al st h = .inl (al', st', h')) (k : zWn p l e R s m args below meth c Q D kk A g ad0 nL n0 m0 (pc + 3) al' st' h') : zWn p l e R s m args below meth c Q D kk A g ad0 nL n0 m0 pc al st h := by
  unfold zs_new at hs
  cases hz : Nat.ble r1 10 with
  | false => rw [hz] at hs; cases hs
  | true =>
    rw [hz] at hs
    cases hs
    have hci : r1 < 11 := by
      have : r1 ≤ 10 := Nat.le_of_ble_eq_true hz
      omega
    have e1 : (zph h (.inl (r1, zfs r1, [])) (zN r1)).1.1 - n0 = h.1.1 - n0 + 1 := by show h.1.1 + 1 - n0 = _; omega
    have e2 : (zph h (.inl (r1, zfs r1, [])) (zN r1)).1.2 - m0 = h.1.2 - m0 + N := by show h.1.2 + zN r1 - m0 = _; rw [hcl.2.1]; omega
    rw [e1] at hr1
    rw [e2] at hr2
    intro ls sv H locs ⟨ws, lv, hh, hl, hL, hF, hP, hD, hS⟩
    refine va_new (ci := r1) (fs := (List.range N).map (fun j => defaultValue (zty r1 j))) (C := C) (T := T) (N := N) hC.1 hC.2.1 hC.2.2.2.2.1 hcl.2.2.1 (zty r1) hcl.2.2.2.1 hC.2.2.2.1 (hC.2.2.2.2.1 _ hw) (hC.2.2.2.2.1 _ hcl.2.2.2.2.2.1) (hC.2.2.2.2.1 _ hcl.2.2.2.2.2.2) hC.2.2.2.2.2.1 hP hD hS hC.2.2.2.2.2.2.1 hcl.1 (fun j hj => ?_) hr1 hr2 hd (fun q H1 hP1 hD1 hS1 => ?_)
    · unfold vp_V
      rw [List.getD_eq_getElem?_getD, List.getElem?_map, List.getElem?_range hj]
      rfl
    · have := k ls (.ref q :: sv) H1 locs (zSt_push (n := zN r1) hh hl hL hF ⟨_, rfl, by rw [List.length_map, List.length_range, hcl.2.1], fun k0 a0 hk0 ha0 => ⟨defaultValue (zty r1 k0), by rw [List.getElem?_map, List.getElem?_range (by rw [hcl.2.1]; exact hk0)]; rfl, zfs_ok hci hk0 ha0⟩⟩ hP1 hD1 hS1)
      rw [e1, e2] at this
      exact this
theorem zRA {a b : ClassId} {ty : FieldType} {U : State} (ht : ty = .int ∨ ty = .byte ∨ ty = .char ∨ ty = .boolean ∨ ty = .long ∨ ty = .array .int) (h1 : va_RA U a ty) (h2 : va_RA U b ty) : a = b := by
  rcases ht with rfl | rfl | rfl | rfl | rfl | rfl <;> exact Option.some.inj (h1.symm.trans h2)
theorem zRO {a b : ClassId} {C : String} {U : State} (h1 : va_RA U a (.object C)) (h2 : va_RA U b (.object C)) : a = b := by
  obtain ⟨_, _, _, _, _, h3⟩ := h1
  obtain ⟨_, _, _, _, _, h4⟩ := h2
  exact Option.some.inj (h3.symm.trans h4)
theorem zag_nil (d : zA) (j : Nat) : zag d [] j = d := rfl
theorem zh_newa (hC : zCx p s m args meth c cc nL own D kk A g ini top) (hE : zEv g E) {t : ArrayType} (hw : ∀ ty : FieldType, (ty = .int ∨ ty = .byte ∨ ty = .char ∨ ty = .boolean ∨ ty = .long) → Jvm.Cond.arrayClass ty ∈ zW) (h0 : n0 ≤ h.1.1) (h1 : m0 ≤ h.1.2) (hr1 : h'.1.1 - n0 ≤ R.cells) (hr2 : h'.1.2 - m0 ≤ R.slots) (hd : decode cc pc = .ok (.newarray t, 2)) (hs : zs_newa t E top al st h = .inl (al', st', h')) (k : zWn p l e R s m args below meth c Q D kk A g ad0 nL n0 m0 (pc + 2) al' st' h') : zWn p l e R s m args below meth c Q D kk A g ad0 nL n0 m0 pc al st h := by
  unfold zs_newa at hs
  split at hs
  · rename_i a0 st0
    split at hs
    · rename_i n9 k9 hn hk
      cases hz : Nat.ble n9 1000000 with
      | false => rw [hz] at hs; cases hs
      | true =>
      rw [hz] at hs
      cases hs
      have hn9 : n9 ≤ 1000000 := Nat.le_of_ble_eq_true hz
      have e1 : h.1.1 + 1 - n0 = h.1.1 - n0 + 1 := by omega
      have e2 : h.1.2 + n9 - m0 = h.1.2 - m0 + n9 := by omega
      have hR1 : h.1.1 - n0 + 1 ≤ R.cells := by rw [← e1]; exact hr1
      have hR2 : h.1.2 - m0 + n9 ≤ R.slots := by rw [← e2]; exact hr2
      have k : zWn p l e R s m args below meth c Q D kk A g ad0 nL n0 m0 (pc + 2) al (zrf h.1.1 :: st0) (zph h (.inr (k9, n9, (bif Nat.beq k9 4 then zlg (some 0) else zk 0), [])) n9) := k
      unfold zWn at k
      simp only [zph] at k
      cases t with
      | int =>
        cases hk
        intro ls sv H locs ⟨ws, lv, hh, hl, hL, hF, hP, hD, hS⟩
        obtain ⟨w, vs, rfl, hVi, hF1⟩ := zVs_cons hF
        obtain ⟨x, rfl, hx⟩ := zV_cn hE hn hVi
        refine va_newa (atype := .int) (ty := .int) (a0 := (n9, .inl (fun _ => 0))) hC.1 hC.2.1 (hC.2.2.2.2.1 _ (hw .int (by decide))) rfl hC.2.2.2.2.2.1 hP hD hS hC.2.2.2.2.2.2.1 (fun _ => rfl) (fun h9 => by have := (fa_lt _ _).mp h9; have e0 : (0 : Int32).toInt = 0 := rfl; have hx : x.toInt = ((n9 : Nat) : Int) := hx; omega) (zclamp hx) (by show n9 * _ ≤ _; simp only [componentBytes]; omega) hR1 hR2 hd (fun q cA H1 hK1 hP1 hD1 hS1 => ?_)
        have ec : cA = kk 0 := zRA (ty := .int) (by decide) (hK1.2 8 (cA, .int) rfl).2 (hC.2.2.2.2.2.1.2 0 _ rfl).2
        subst ec
        have := k ls _ H1 locs (zSt_push (n := n9) hh hl hL hF1 (Or.inl ⟨by decide, _, rfl, fun j hj => zV_k rfl⟩) hP1 hD1 hS1)
        rw [e1, e2] at this
        exact this
      | byte =>
        cases hk
        intro ls sv H locs ⟨ws, lv, hh, hl, hL, hF, hP, hD, hS⟩
        obtain ⟨w, vs, rfl, hVi, hF1⟩ := zVs_cons hF
        obtain ⟨x, rfl, hx⟩ := zV_cn hE hn hVi
        refine va_newa (atype := .byte) (ty := .byte) (a0 := (n9, .inl (fun _ => 0))) hC.1 hC.2.1 (hC.2.2.2.2.1 _ (hw .byte (by decide))) rfl hC.2.2.2.2.2.1 hP hD hS hC.2.2.2.2.2.2.1 (fun _ => rfl) (fun h9 => by have := (fa_lt _ _).mp h9; have e0 : (0 : Int32).toInt = 0 := rfl; have hx : x.toInt = ((n9 : Nat) : Int) := hx; omega) (zclamp hx) (by show n9 * _ ≤ _; simp only [componentBytes]; omega) hR1 hR2 hd (fun q cA H1 hK1 hP1 hD1 hS1 => ?_)
        have ec : cA = kk 1 := zRA (ty := .byte) (by decide) (hK1.2 8 (cA, .byte) rfl).2 (hC.2.2.2.2.2.1.2 1 _ rfl).2
        subst ec
        have := k ls _ H1 locs (zSt_push (n := n9) hh hl hL hF1 (Or.inl ⟨by decide, _, rfl, fun j hj => zV_k rfl⟩) hP1 hD1 hS1)
        rw [e1, e2] at this
        exact this
      | char =>
        cases hk
        intro ls sv H locs ⟨ws, lv, hh, hl, hL, hF, hP, hD, hS⟩
        obtain ⟨w, vs, rfl, hVi, hF1⟩ := zVs_cons hF
        obtain ⟨x, rfl, hx⟩ := zV_cn hE hn hVi
        refine va_newa (atype := .char) (ty := .char) (a0 := (n9, .inl (fun _ => 0))) hC.1 hC.2.1 (hC.2.2.2.2.1 _ (hw .char (by decide))) rfl hC.2.2.2.2.2.1 hP hD hS hC.2.2.2.2.2.2.1 (fun _ => rfl) (fun h9 => by have := (fa_lt _ _).mp h9; have e0 : (0 : Int32).toInt = 0 := rfl; have hx : x.toInt = ((n9 : Nat) : Int) := hx; omega) (zclamp hx) (by show n9 * _ ≤ _; simp only [componentBytes]; omega) hR1 hR2 hd (fun q cA H1 hK1 hP1 hD1 hS1 => ?_)
        have ec : cA = kk 2 := zRA (ty := .char) (by decide) (hK1.2 8 (cA, .char) rfl).2 (hC.2.2.2.2.2.1.2 2 _ rfl).2
        subst ec
        have := k ls _ H1 locs (zSt_push (n := n9) hh hl hL hF1 (Or.inl ⟨by decide, _, rfl, fun j hj => zV_k rfl⟩) hP1 hD1 hS1)
        rw [e1, e2] at this
        exact this
      | boolean =>
        cases hk
        intro ls sv H locs ⟨ws, lv, hh, hl, hL, hF, hP, hD, hS⟩
        obtain ⟨w, vs, rfl, hVi, hF1⟩ := zVs_cons hF
        obtain ⟨x, rfl, hx⟩ := zV_cn hE hn hVi
        refine va_newa (atype := .boolean) (ty := .boolean) (a0 := (n9, .inl (fun _ => 0))) hC.1 hC.2.1 (hC.2.2.2.2.1 _ (hw .boolean (by decide))) rfl hC.2.2.2.2.2.1 hP hD hS hC.2.2.2.2.2.2.1 (fun _ => rfl) (fun h9 => by have := (fa_lt _ _).mp h9; have e0 : (0 : Int32).toInt = 0 := rfl; have hx : x.toInt = ((n9 : Nat) : Int) := hx; omega) (zclamp hx) (by show n9 * _ ≤ _; simp only [componentBytes]; omega) hR1 hR2 hd (fun q cA H1 hK1 hP1 hD1 hS1 => ?_)
        have ec : cA = kk 3 := zRA (ty := .boolean) (by decide) (hK1.2 8 (cA, .boolean) rfl).2 (hC.2.2.2.2.2.1.2 3 _ rfl).2
        subst ec
        have := k ls _ H1 locs (zSt_push (n := n9) hh hl hL hF1 (Or.inl ⟨by decide, _, rfl, fun j hj => zV_k rfl⟩) hP1 hD1 hS1)
        rw [e1, e2] at this
        exact this
      | long =>
        cases hk
        intro ls sv H locs ⟨ws, lv, hh, hl, hL, hF, hP, hD, hS⟩
        obtain ⟨w, vs, rfl, hVi, hF1⟩ := zVs_cons hF
        obtain ⟨x, rfl, hx⟩ := zV_cn hE hn hVi
        refine va_newa (atype := .long) (ty := .long) (a0 := (n9, .inr (.inl (fun _ => 0)))) hC.1 hC.2.1 (hC.2.2.2.2.1 _ (hw .long (by decide))) rfl hC.2.2.2.2.2.1 hP hD hS hC.2.2.2.2.2.2.1 (fun _ => rfl) (fun h9 => by have := (fa_lt _ _).mp h9; have e0 : (0 : Int32).toInt = 0 := rfl; have hx : x.toInt = ((n9 : Nat) : Int) := hx; omega) (zclamp hx) (by show n9 * _ ≤ _; simp only [componentBytes]; omega) hR1 hR2 hd (fun q cA H1 hK1 hP1 hD1 hS1 => ?_)
        have ec : cA = kk 4 := zRA (ty := .long) (by decide) (hK1.2 8 (cA, .long) rfl).2 (hC.2.2.2.2.2.1.2 4 _ rfl).2
        subst ec
        have := k ls _ H1 locs (zSt_push (n := n9) hh hl hL hF1 (Or.inr (Or.inl ⟨rfl, _, rfl, fun j hj => zV_lg (fun _ hc => by cases hc; rfl)⟩)) hP1 hD1 hS1)
        rw [e1, e2] at this
        exact this
      | float => cases hk
      | double => cases hk
      | short => cases hk
    · cases hs
  · cases hs
theorem zh_newq (hC : zCx p s m args meth c cc nL own D kk A g ini top) (hE : zEv g E) {i r1 : Nat} {C : String} (hi : (r1 = 5 ∧ C = RX5) ∨ (r1 = 6 ∧ C = RX1)) (hw : Jvm.Cond.classLink own i C ∈ zW) (h0 : n0 ≤ h.1.1) (h1 : m0 ≤ h.1.2) (hr1 : h'.1.1 - n0 ≤ R.cells) (hr2 : h'.1.2 - m0 ≤ R.slots) (hd : decode cc pc = .ok (.anewarray i, 3)) (hs : zs_newq r1 E top al st h = .inl (al', st', h')) (k : zWn p l e R s m args below meth c Q D kk A g ad0 nL n0 m0 (pc + 3) al' st' h') : zWn p l e R s m args below meth c Q D kk A g ad0 nL n0 m0 pc al st h := by
  unfold zs_newq at hs
  split at hs
  · rename_i a0 st0
    split at hs
    · rename_i n9 hn
      cases hz : (Nat.ble n9 1000000 && (Nat.beq r1 5 || Nat.beq r1 6)) with
      | false => rw [hz] at hs; cases hs
      | true =>
      rw [hz] at hs
      cases hs
      rw [Bool.and_eq_true] at hz
      have hn9 : n9 ≤ 1000000 := Nat.le_of_ble_eq_true hz.1
      have e1 : h.1.1 + 1 - n0 = h.1.1 - n0 + 1 := by omega
      have e2 : h.1.2 + n9 - m0 = h.1.2 - m0 + n9 := by omega
      have hR1 : h.1.1 - n0 + 1 ≤ R.cells := by rw [← e1]; exact hr1
      have hR2 : h.1.2 - m0 + n9 ≤ R.slots := by rw [← e2]; exact hr2
      unfold zWn at k
      simp only [zph] at k
      intro ls sv H locs ⟨ws, lv, hh, hl, hL, hF, hP, hD, hS⟩
      obtain ⟨w, vs, rfl, hVi, hF1⟩ := zVs_cons hF
      obtain ⟨x, rfl, hx⟩ := zV_cn hE hn hVi
      have hAO : va_AO C s := by
        rcases hi with ⟨-, rfl⟩ | ⟨-, rfl⟩
        · exact hC.2.2.2.2.2.2.2.1.1.1
        · exact hC.2.2.2.2.2.2.2.1.2.1
      refine va_newq (C := C) hC.1 hC.2.1 hC.2.2.2.1 (hC.2.2.2.2.1 _ hw) hAO hC.2.2.2.2.2.1 hP hD hS hC.2.2.2.2.2.2.1 (fun h9 => by have := (fa_lt _ _).mp h9; have e0 : (0 : Int32).toInt = 0 := rfl; have hx : x.toInt = ((n9 : Nat) : Int) := hx; omega) (zclamp hx) (by omega) hR1 hR2 hd (fun q cA H1 hK1 hP1 hD1 hS1 => ?_)
      have ec : cA = kk r1 := by
        rcases hi with ⟨rfl, rfl⟩ | ⟨rfl, rfl⟩
        · exact zRO (hK1.2 8 (cA, .object RX5) rfl).2 (hC.2.2.2.2.2.1.2 5 _ rfl).2
        · exact zRO (hK1.2 8 (cA, .object RX1) rfl).2 (hC.2.2.2.2.2.1.2 6 _ rfl).2
      subst ec
      have := k ls _ H1 locs (zSt_push (n := n9) hh hl hL hF1 (Or.inr (Or.inr ⟨by omega, by omega, fun _ => none, rfl, fun j hj => rfl⟩)) hP1 hD1 hS1)
      rw [e1, e2] at this
      exact this
    · cases hs
  · cases hs
theorem zh_obj (hC : zCx p s m args meth c cc nL own D kk A g ini top) (hE : zEv g E) {i : Nat} (hw1 : Jvm.Cond.methodLink own i objectInit ∈ zW) (hw2 : Jvm.Cond.instanceMethod objectInit ∈ zW) (hw3 : Jvm.Cond.code objectInit ⟨#[0xb1]⟩ 1 none ∈ zW) (hRf : 1 ≤ R.frames) (hRl : 60 ≤ R.locals) (hd : decode cc pc = .ok (.invokespecial i, 3)) (hs : zs_obj E top al st h = .inl (al', st', h')) (k : zWn p l e R s m args below meth c Q D kk A g ad0 nL n0 m0 (pc + 3) al' st' h') : zWn p l e R s m args below meth c Q D kk A g ad0 nL n0 m0 pc al st h := by
  unfold zs_obj at hs
  split at hs
  · rename_i o
    cases hs
    intro ls sv H locs ⟨ws, lv, hh, hl, hL, hF, hP, hD, hS⟩
    obtain ⟨v, vs, rfl, hV, hF1⟩ := zVs_cons hF
    obtain ⟨q, hq, rfl⟩ := hV
    have e1 := zVs_nil hF1
    subst e1
    refine W.objInit hC.1 hC.2.1 hC.2.2.2.1 (hC.2.2.2.2.1 _ hw1) (hC.2.2.2.2.1 _ hw2) (hC.2.2.2.2.1 _ hw3) rfl (by rw [hC.2.2.1]; exact hl.1) rfl hd hRf (Nat.le_trans (Nat.le_of_ble_eq_true rfl) hRl) ?_
    exact k ls [] H locs ⟨ws, lv, hh, hl, hL, trivial, hP, hD, hS⟩
  · cases hs
theorem zh_copy (hC : zCx p s m args meth c cc nL own D kk A g ini top) (hE : zEv g E) {i : Nat} (hw1 : Jvm.Cond.methodLink own i arraycopyName ∈ zW) (hw2 : Jvm.Cond.native arraycopyName ∈ zW) (hw3 : Jvm.Cond.static arraycopyName ∈ zW) (hw4 : Jvm.Cond.initialized "java/lang/System" ∈ zW) (hRf : 1 ≤ R.frames) (hRl : 60 ≤ R.locals) (hd : decode cc pc = .ok (.invokestatic i, 3)) (hs : zs_copy E top al st h = .inl (al', st', h')) (k : zWn p l e R s m args below meth c Q D kk A g ad0 nL n0 m0 (pc + 3) al' st' h') : zWn p l e R s m args below meth c Q D kk A g ad0 nL n0 m0 pc al st h := by
  unfold zs_copy at hs
  split at hs
  · rename_i n dp r sp q0
    split at hs
    · rename_i k1 n1 d1 ov1 k2 n2 d2 ov2 hg1 hg2
      cases hz : (zc3 E n dp sp n1 && ((Nat.beq k1 0 && Nat.beq k2 0) && (Nat.beq n1 n2 && Nat.ble n1 1000000))) with
      | false => rw [hz] at hs; cases hs
      | true =>
        rw [hz] at hs
        cases hs
        simp only [Bool.and_eq_true] at hz
        obtain ⟨hz1, ⟨hk1, hk2⟩, hn12, hn1⟩ := hz
        have e1 := Nat.eq_of_beq_eq_true hk1
        have e2 := Nat.eq_of_beq_eq_true hk2
        have e3 := Nat.eq_of_beq_eq_true hn12
        have hn1 : n1 ≤ 1000000 := Nat.le_of_ble_eq_true hn1
        subst e1
        subst e2
        subst e3
        unfold zc3 at hz1
        split at hz1
        · rename_i b9 c9 d9 hb hc hdd
          simp only [Bool.and_eq_true, zeq_iff] at hz1
          obtain ⟨e4, e5, e6⟩ := hz1
          subst e4
          subst e5
          subst e6
          intro ls sv H locs ⟨ws, lv, hh, hl, hL, hF, hP, hD, hS⟩
          obtain ⟨v1, vs, rfl, hV1, hF1⟩ := zVs_cons hF
          obtain ⟨v2, vs, rfl, hV2, hF2⟩ := zVs_cons hF1
          obtain ⟨v3, vs, rfl, hV3, hF3⟩ := zVs_cons hF2
          obtain ⟨v4, vs, rfl, hV4, hF4⟩ := zVs_cons hF3
          obtain ⟨v5, vs, rfl, hV5, hF5⟩ := zVs_cons hF4
          have e7 := zVs_nil hF5
          subst e7
          obtain ⟨x, rfl, hx⟩ := zV_cn hE hb hV1
          obtain ⟨y, rfl, hy⟩ := zV_cn hE hc hV2
          obtain ⟨w, rfl, hw⟩ := zV_cn hE hdd hV4
          obtain ⟨q3, hq3, rfl⟩ := hV3
          obtain ⟨q5, hq5, rfl⟩ := hV5
          obtain ⟨a1, ee1, hwa, hca⟩ := hh.2 _ _ hg1
          obtain ⟨a2, ee2, hwb, hcb⟩ := hh.2 _ _ hg2
          cases zat hq5 hwa
          cases zat hq3 hwb
          have z0 : (0 : Int32).toInt = 0 := rfl
          rcases hca with ⟨h3, f, rfl, hf⟩ | ⟨h3, f, rfl, hf⟩ | ⟨h3, h3b, f, rfl, hf⟩
          · rcases hcb with ⟨h4, f2, rfl, hf2⟩ | ⟨h4, f2, rfl, hf2⟩ | ⟨h4, h4b, f2, rfl, hf2⟩
            · have cx : x.toNatClampNeg = n1 := zclamp hx
              have cy : y.toNatClampNeg = 0 := zclamp (j := 0) hy
              have cw : w.toNatClampNeg = 0 := zclamp (j := 0) hw
              refine va_copyi hC.1 hC.2.1 (by rw [hC.2.2.1]; exact hl.1.symm) hC.2.2.2.1 (hC.2.2.2.2.1 _ hw1) (hC.2.2.2.2.1 _ hw2) (hC.2.2.2.2.1 _ hw3) (hC.2.2.2.2.1 _ hw4) hC.2.2.2.2.2.1 hP hD hS _ _ 0 0 hwa hwb rfl rfl rfl (fun h9 => by have := (fa_lt _ _).mp h9; omega) (fun h9 => by have := (fa_lt _ _).mp h9; omega) (fun h9 => by have := (fa_lt _ _).mp h9; omega) (by rw [cx, cw]; omega) (by rw [cx, cy]; omega) (fun _ _ => rfl) hRf (Nat.le_trans (by decide) hRl) hd (fun H1 locs1 hP1 hD1 hS1 => k ls [] H1 locs1 (zSt_set (st := []) hh hl hL trivial hwb (Or.inl ⟨h4, _, rfl, fun j hj => ?_⟩) hP1 hD1 hS1))
              rw [cx, cy, cw, pk_cpy_in (by omega) (by omega)]
              have := hf j hj
              rw [show 0 + (j - 0) = j by omega]
              exact this
            · omega
            · omega
          · omega
          · omega
        · cases hz1
    · cases hs
  · cases hs
end ZN
