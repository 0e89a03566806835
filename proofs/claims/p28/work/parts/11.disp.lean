section ZD
variable {p : Program} {l : Launch} {e : Env} {R : Room} {s : State} {m : MethodId} {args : Array Value} {below : List Frame} {meth : Method} {c : Code} {Q : State → Prop} {D : va_G} {kk : Nat → ClassId} {A : Nat → Prop} {g : zG} {ad0 : List Nat} {nL n0 m0 : Nat} {cc : ByteArray} {own : String} {ini top : Bool} {E : zE} {pc : Nat} {al al' : zL} {st st' : List zA} {h h' : zH}
theorem zi32_ok {n : Int} (h : zi32 n = true) : -2147483648 ≤ n ∧ n < 2147483648 := by
  unfold zi32 at h
  simp only [Bool.and_eq_true, zle_iff] at h
  omega
set_option maxRecDepth 100000 in
theorem zaw_b : (zin (.arrayClass .int) && (zin (.arrayClass .byte) && (zin (.arrayClass .char) && (zin (.arrayClass .boolean) && zin (.arrayClass .long))))) = true := by decide +kernel
theorem zaw_ok : ∀ ty : FieldType, (ty = .int ∨ ty = .byte ∨ ty = .char ∨ ty = .boolean ∨ ty = .long) → Jvm.Cond.arrayClass ty ∈ zW := fun ty h => by
  have hb := zaw_b
  simp only [Bool.and_eq_true] at hb
  rcases h with rfl | rfl | rfl | rfl | rfl
  · exact zin_ok hb.1
  · exact zin_ok hb.2.1
  · exact zin_ok hb.2.2.1
  · exact zin_ok hb.2.2.2.1
  · exact zin_ok hb.2.2.2.2
set_option maxRecDepth 100000 in
theorem zcw_b : (zin (.native arraycopyName) && (zin (.static arraycopyName) && (zin (.initialized "java/lang/System") && (zin (.instanceMethod objectInit) && zin (.code objectInit ⟨#[0xb1]⟩ 1 none))))) = true := by decide +kernel
theorem zcw_ok : Jvm.Cond.native arraycopyName ∈ zW ∧ Jvm.Cond.static arraycopyName ∈ zW ∧ Jvm.Cond.initialized "java/lang/System" ∈ zW ∧ Jvm.Cond.instanceMethod objectInit ∈ zW ∧ Jvm.Cond.code objectInit ⟨#[0xb1]⟩ 1 none ∈ zW := by
  have hb := zcw_b
  simp only [Bool.and_eq_true] at hb
  exact ⟨zin_ok hb.1, zin_ok hb.2.1, zin_ok hb.2.2.1, zin_ok hb.2.2.2.1, zin_ok hb.2.2.2.2⟩
set_option maxRecDepth 100000 in
theorem zmw_b : (zin (.static Lib.Math.max.name) && (zin (.code Lib.Math.max.name Lib.Math.max.code 2 (some .int)) && (zin (.static Lib.Math.min.name) && (zin (.code Lib.Math.min.name Lib.Math.min.code 2 (some .int)) && zin (.initialized "java/lang/Math"))))) = true := by decide +kernel
theorem zmw_ok : (Jvm.Cond.static Lib.Math.max.name ∈ zW ∧ Jvm.Cond.code Lib.Math.max.name Lib.Math.max.code 2 (some .int) ∈ zW) ∧ (Jvm.Cond.static Lib.Math.min.name ∈ zW ∧ Jvm.Cond.code Lib.Math.min.name Lib.Math.min.code 2 (some .int) ∈ zW) ∧ Jvm.Cond.initialized "java/lang/Math" ∈ zW := by
  have hb := zmw_b
  simp only [Bool.and_eq_true] at hb
  exact ⟨⟨zin_ok hb.1, zin_ok hb.2.1⟩, ⟨zin_ok hb.2.2.1, zin_ok hb.2.2.2.1⟩, zin_ok hb.2.2.2.2⟩
theorem ztable_no {df lo hi : Int} {offs : Array Int} (hs : zs_table pc df lo hi offs E top al st h = .inl (al', st', h')) : False := by
  unfold zs_table at hs
  split at hs
  · split at hs
    · rename_i q hq
      cases h1 : (zlt q.2 lo || zlt hi q.1) with
      | true => rw [h1] at hs; exact zgj_no hs
      | false =>
        rw [h1] at hs
        cases h4 : zeq q.1 q.2 with
        | true =>
          rw [h4] at hs
          simp only [cond_true, cond_false] at hs
          split at hs
          · exact zgj_no hs
          · cases hs
        | false =>
          rw [h4] at hs
          cases h5 : zlt q.1 lo with
          | true => rw [h5] at hs; cases hs
          | false =>
            rw [h5] at hs
            cases h6 : zlt hi q.2 with
            | true => rw [h6] at hs; cases hs
            | false => rw [h6] at hs; cases hs
    · cases hs
  · cases hs
theorem zinv_no {r1 r2 : Nat} (hs : zs_inv r1 r2 E top al st h = .inl (al', st', h')) : False := by
  unfold zs_inv at hs
  split at hs <;> cases hs
theorem zins_no {r1 r2 : Nat} (hs : zs_ins r1 r2 E top al st h = .inl (al', st', h')) : False := by
  unfold zs_ins at hs
  split at hs
  rename_i as st0 he
  cases hz : Nat.beq as.length r2 with
  | true => rw [hz] at hs; cases hs
  | false => rw [hz] at hs; cases hs
theorem ziret_no (hs : zs_iret E top al st h = .inl (al', st', h')) : False := by
  unfold zs_iret at hs
  split at hs
  · rename_i a
    cases hz : zint a with
    | true => rw [hz] at hs; cases hs
    | false => rw [hz] at hs; cases hs
  · cases hs
theorem zlret_no (hs : zs_lret E top al st h = .inl (al', st', h')) : False := by
  unfold zs_lret at hs
  split at hs <;> cases hs
theorem zvret_no (hs : zs_vret E top al st h = .inl (al', st', h')) : False := by
  unfold zs_vret at hs
  split at hs <;> cases hs
set_option maxHeartbeats 4000000 in
theorem zgo_ok {ins : Instr} {len r1 : Nat} {r2 : Int} (hC : zCx p s m args meth c cc nL own D kk A g ini top) (hE : zEv g E) (hb : zfB own nL ini len r1 r2 pc ins = true) (hd : decode cc pc = .ok (ins, len)) (hRf : 1 ≤ R.frames) (hRl : 60 ≤ R.locals) (h0 : n0 ≤ h.1.1) (h1 : m0 ≤ h.1.2) (hr1 : h'.1.1 - n0 ≤ R.cells) (hr2 : h'.1.2 - m0 ≤ R.slots) (hs : zsel pc r1 r2 ins E top al st h = .inl (al', st', h')) (k : zWn p l e R s m args below meth c Q D kk A g ad0 nL n0 m0 (pc + len) al' st' h') : zWn p l e R s m args below meth c Q D kk A g ad0 nL n0 m0 pc al st h := by
  unfold zsel at hs
  split at hs
  · rename_i k0
    have hl : len = 1 := Nat.eq_of_beq_eq_true hb
    subst hl
    exact zh_iload_n hC hE hd hs k
  · rename_i k0
    have hl : len = 2 := Nat.eq_of_beq_eq_true hb
    subst hl
    exact zh_iload hC hE hd hs k
  · rename_i k0
    have hl : len = 1 := Nat.eq_of_beq_eq_true hb
    subst hl
    exact zh_aload_n hC hE hd hs k
  · rename_i k0
    have hl : len = 2 := Nat.eq_of_beq_eq_true hb
    subst hl
    exact zh_aload hC hE hd hs k
  · rename_i k0
    have hl : len = 1 := Nat.eq_of_beq_eq_true hb
    subst hl
    exact zh_lload_n hC hE hd hs k
  · rename_i k0
    have hb1 := (Bool.and_eq_true _ _).mp hb
    have hl : len = 1 := Nat.eq_of_beq_eq_true hb1.1
    subst hl
    exact zh_istore_n hC hE (Nat.le_of_ble_eq_true hb1.2) hd hs k
  · rename_i k0
    have hb1 := (Bool.and_eq_true _ _).mp hb
    have hl : len = 2 := Nat.eq_of_beq_eq_true hb1.1
    subst hl
    exact zh_istore hC hE (Nat.le_of_ble_eq_true hb1.2) hd hs k
  · rename_i k0
    have hb1 := (Bool.and_eq_true _ _).mp hb
    have hl : len = 1 := Nat.eq_of_beq_eq_true hb1.1
    subst hl
    exact zh_astore_n hC hE (Nat.le_of_ble_eq_true hb1.2) hd hs k
  · rename_i k0
    have hb1 := (Bool.and_eq_true _ _).mp hb
    have hl : len = 2 := Nat.eq_of_beq_eq_true hb1.1
    subst hl
    exact zh_astore hC hE (Nat.le_of_ble_eq_true hb1.2) hd hs k
  · rename_i k0
    have hb1 := (Bool.and_eq_true _ _).mp hb
    have hl : len = 1 := Nat.eq_of_beq_eq_true hb1.1
    subst hl
    exact zh_lstore_n hC hE (Nat.le_of_ble_eq_true hb1.2) hd hs k
  · rename_i n
    have hb1 := (Bool.and_eq_true _ _).mp hb
    have hl : len = 1 := Nat.eq_of_beq_eq_true hb1.1
    subst hl
    exact zh_iconst hC hE (zi32_ok hb1.2) hd hs k
  · rename_i n
    have hb1 := (Bool.and_eq_true _ _).mp hb
    have hl : len = 2 := Nat.eq_of_beq_eq_true hb1.1
    subst hl
    have hb2 := (Bool.and_eq_true _ _).mp hb1.2
    exact zh_bipush hC hE (zi32_ok hb2.1) (of_decide_eq_true hb2.2) hd hs k
  · rename_i n
    have hb1 := (Bool.and_eq_true _ _).mp hb
    have hl : len = 3 := Nat.eq_of_beq_eq_true hb1.1
    subst hl
    have hb2 := (Bool.and_eq_true _ _).mp hb1.2
    exact zh_sipush hC hE (zi32_ok hb2.1) (of_decide_eq_true hb2.2) hd hs k
  · rename_i n
    have hl : len = 1 := Nat.eq_of_beq_eq_true hb
    subst hl
    exact zh_lconst hC hE hd hs k
  · rename_i i
    have hb1 := (Bool.and_eq_true _ _).mp hb
    have hb2 := (Bool.and_eq_true _ _).mp hb1.2
    have hl : len = 3 := Nat.eq_of_beq_eq_true hb1.1
    subst hl
    have hz := zi32_ok hb2.1
    have e9 : (Int32.ofInt r2).toInt = r2 := fb_ofI hz.1 hz.2
    rw [← e9] at hs
    exact zh_ldc_w hC hE (zin_ok hb2.2) hd hs k
  · rename_i i
    have hb1 := (Bool.and_eq_true _ _).mp hb
    have hb2 := (Bool.and_eq_true _ _).mp hb1.2
    have hl : len = 3 := Nat.eq_of_beq_eq_true hb1.1
    subst hl
    have e9 : (Int64.ofInt r2).toInt = r2 := zeq_iff.mp hb2.1
    rw [← e9] at hs
    exact zh_ldc2_w hC hE (zin_ok hb2.2) hd hs k
  · have hl : len = 1 := Nat.eq_of_beq_eq_true hb
    subst hl
    exact zh_iadd hC hE hd hs k
  · have hl : len = 1 := Nat.eq_of_beq_eq_true hb
    subst hl
    exact zh_isub hC hE hd hs k
  · have hl : len = 1 := Nat.eq_of_beq_eq_true hb
    subst hl
    exact zh_imul hC hE hd hs k
  · have hl : len = 1 := Nat.eq_of_beq_eq_true hb
    subst hl
    exact zh_idiv hC hE hd hs k
  · have hl : len = 1 := Nat.eq_of_beq_eq_true hb
    subst hl
    exact zh_irem hC hE hd hs k
  · have hl : len = 1 := Nat.eq_of_beq_eq_true hb
    subst hl
    exact zh_iand hC hE hd hs k
  · have hl : len = 1 := Nat.eq_of_beq_eq_true hb
    subst hl
    exact zh_ior hC hE hd hs k
  · have hl : len = 1 := Nat.eq_of_beq_eq_true hb
    subst hl
    exact zh_ixor hC hE hd hs k
  · have hl : len = 1 := Nat.eq_of_beq_eq_true hb
    subst hl
    exact zh_ishl hC hE hd hs k
  · have hl : len = 1 := Nat.eq_of_beq_eq_true hb
    subst hl
    exact zh_ishr hC hE hd hs k
  · have hl : len = 1 := Nat.eq_of_beq_eq_true hb
    subst hl
    exact zh_iushr hC hE hd hs k
  · rename_i k0 n
    have hb1 := (Bool.and_eq_true _ _).mp hb
    have hl : len = 3 := Nat.eq_of_beq_eq_true hb1.1
    subst hl
    have hb2 := (Bool.and_eq_true _ _).mp hb1.2
    exact zh_iinc hC hE (zi32_ok hb2.2) (Nat.le_of_ble_eq_true hb2.1) hd hs k
  · have hl : len = 1 := Nat.eq_of_beq_eq_true hb
    subst hl
    exact zh_ladd hC hE hd hs k
  · have hl : len = 1 := Nat.eq_of_beq_eq_true hb
    subst hl
    exact zh_lmul hC hE hd hs k
  · have hl : len = 1 := Nat.eq_of_beq_eq_true hb
    subst hl
    exact zh_lrem hC hE hd hs k
  · have hl : len = 1 := Nat.eq_of_beq_eq_true hb
    subst hl
    exact zh_land hC hE hd hs k
  · have hl : len = 1 := Nat.eq_of_beq_eq_true hb
    subst hl
    exact zh_lor hC hE hd hs k
  · have hl : len = 1 := Nat.eq_of_beq_eq_true hb
    subst hl
    exact zh_lshl hC hE hd hs k
  · have hl : len = 1 := Nat.eq_of_beq_eq_true hb
    subst hl
    exact zh_lshr hC hE hd hs k
  · have hl : len = 1 := Nat.eq_of_beq_eq_true hb
    subst hl
    exact zh_lushr hC hE hd hs k
  · have hl : len = 1 := Nat.eq_of_beq_eq_true hb
    subst hl
    exact zh_i2l hC hE hd hs k
  · have hl : len = 1 := Nat.eq_of_beq_eq_true hb
    subst hl
    exact zh_l2i hC hE hd hs k
  · have hl : len = 1 := Nat.eq_of_beq_eq_true hb
    subst hl
    exact zh_i2b hC hE hd hs k
  · have hl : len = 1 := Nat.eq_of_beq_eq_true hb
    subst hl
    exact zh_i2c hC hE hd hs k
  · have hl : len = 1 := Nat.eq_of_beq_eq_true hb
    subst hl
    exact zh_lcmp hC hE hd hs k
  · have hl : len = 1 := Nat.eq_of_beq_eq_true hb
    subst hl
    exact zh_dup hC hE hd hs k
  · have hl : len = 1 := Nat.eq_of_beq_eq_true hb
    subst hl
    exact zh_dup2 hC hE hd hs k
  · have hl : len = 1 := Nat.eq_of_beq_eq_true hb
    subst hl
    exact zh_pop hC hE hd hs k
  · rename_i off
    exact (zgj_no hs).elim
  · rename_i q off
    have hb1 := (Bool.and_eq_true _ _).mp hb
    have hl : len = 3 := Nat.eq_of_beq_eq_true hb1.1
    subst hl
    have hp := zle_iff.mp hb1.2
    exact zh_icmp hC hE (t := ((pc : Int) + off).toNat) (by omega) hd hs k
  · rename_i q off
    have hb1 := (Bool.and_eq_true _ _).mp hb
    have hl : len = 3 := Nat.eq_of_beq_eq_true hb1.1
    subst hl
    have hp := zle_iff.mp hb1.2
    exact zh_if hC hE (t := ((pc : Int) + off).toNat) (by omega) hd hs k
  · rename_i df lo hi offs
    exact (ztable_no hs).elim
  · rename_i i
    have hb1 := (Bool.and_eq_true _ _).mp hb
    have hb2 := (Bool.and_eq_true _ _).mp hb1.2
    have hb3 := (Bool.and_eq_true _ _).mp hb2.2
    have hl : len = 3 := Nat.eq_of_beq_eq_true hb1.1
    subst hl
    exact zh_getf hC hE (zcl_ok r1 (Nat.le_of_ble_eq_true hb2.1)) (Nat.le_of_ble_eq_true hb3.1) (zin_ok hb3.2) hd hs k
  · rename_i i
    have hb1 := (Bool.and_eq_true _ _).mp hb
    have hb2 := (Bool.and_eq_true _ _).mp hb1.2
    have hb3 := (Bool.and_eq_true _ _).mp hb2.2
    have hb4 := (Bool.and_eq_true _ _).mp hb3.2
    have hl : len = 3 := Nat.eq_of_beq_eq_true hb1.1
    subst hl
    refine zh_putf hC hE (zcl_ok r1 (Nat.le_of_ble_eq_true hb2.1)) (Nat.le_of_ble_eq_true hb3.1) (zin_ok hb4.1) ?_ hd hs k
    cases hfin : (zTn r1 r2.toNat).2.2.2 with
    | false => exact Or.inl rfl
    | true =>
      have h5 := hb4.2
      rw [hfin] at h5
      have h6 := (Bool.and_eq_true _ _).mp h5
      exact Or.inr ⟨rfl, h6.1, of_decide_eq_true h6.2⟩
  · rename_i i
    have hb1 := (Bool.and_eq_true _ _).mp hb
    have hl : len = 3 := Nat.eq_of_beq_eq_true hb1.1
    subst hl
    have h2 := hb1.2
    cases hz : Nat.beq r1 0 with
    | true =>
      rw [hz] at h2
      exact zh_gets hC hE (Or.inl ⟨Nat.eq_of_beq_eq_true hz, rfl⟩) (zin_ok h2) hd hs k
    | false =>
      rw [hz] at h2
      have h3 := (Bool.and_eq_true _ _).mp h2
      exact zh_gets hC hE (Or.inr ⟨Nat.eq_of_beq_eq_true h3.1, rfl⟩) (zin_ok h3.2) hd hs k
  · have hl : len = 1 := Nat.eq_of_beq_eq_true hb
    subst hl
    exact zh_iaload hC hE hd hs k
  · have hl : len = 1 := Nat.eq_of_beq_eq_true hb
    subst hl
    exact zh_baload hC hE hd hs k
  · have hl : len = 1 := Nat.eq_of_beq_eq_true hb
    subst hl
    exact zh_caload hC hE hd hs k
  · have hl : len = 1 := Nat.eq_of_beq_eq_true hb
    subst hl
    exact zh_aaload hC hE hd hs k
  · have hl : len = 1 := Nat.eq_of_beq_eq_true hb
    subst hl
    exact zh_iastore hC hE hd hs k
  · have hl : len = 1 := Nat.eq_of_beq_eq_true hb
    subst hl
    exact zh_bastore hC hE hd hs k
  · have hl : len = 1 := Nat.eq_of_beq_eq_true hb
    subst hl
    exact zh_castore hC hE hd hs k
  · have hl : len = 1 := Nat.eq_of_beq_eq_true hb
    subst hl
    exact zh_aastore hC hE hd hs k
  · have hl : len = 1 := Nat.eq_of_beq_eq_true hb
    subst hl
    exact zh_alen hC hE hd hs k
  · rename_i i
    have hb1 := (Bool.and_eq_true _ _).mp hb
    have hb2 := (Bool.and_eq_true _ _).mp hb1.2
    have hl : len = 3 := Nat.eq_of_beq_eq_true hb1.1
    subst hl
    exact zh_new hC hE (zcl_ok r1 (Nat.le_of_ble_eq_true hb2.1)) (zin_ok hb2.2) h0 h1 hr1 hr2 hd hs k
  · rename_i t
    have hl : len = 2 := Nat.eq_of_beq_eq_true hb
    subst hl
    exact zh_newa hC hE zaw_ok h0 h1 hr1 hr2 hd hs k
  · rename_i i
    have hb1 := (Bool.and_eq_true _ _).mp hb
    have hl : len = 3 := Nat.eq_of_beq_eq_true hb1.1
    subst hl
    have h2 := hb1.2
    cases hz : Nat.beq r1 5 with
    | true =>
      rw [hz] at h2
      exact zh_newq hC hE (Or.inl ⟨Nat.eq_of_beq_eq_true hz, rfl⟩) (zin_ok h2) h0 h1 hr1 hr2 hd hs k
    | false =>
      rw [hz] at h2
      have h3 := (Bool.and_eq_true _ _).mp h2
      exact zh_newq hC hE (Or.inr ⟨Nat.eq_of_beq_eq_true h3.1, rfl⟩) (zin_ok h3.2) h0 h1 hr1 hr2 hd hs k
  · rename_i i dm
    have hb1 := (Bool.and_eq_true _ _).mp hb
    have hb2 := (Bool.and_eq_true _ _).mp hb1.2
    have hl : len = 4 := Nat.eq_of_beq_eq_true hb1.1
    subst hl
    have e9 : dm = 2 := Nat.eq_of_beq_eq_true hb2.1
    subst e9
    exact zh_mna hC hE (zin_ok hb2.2) (zaw_ok .int (Or.inl rfl)) h0 h1 hr1 hr2 hd hs k
  · rename_i i
    exact (zinv_no hs).elim
  · rename_i i
    have hb1 := (Bool.and_eq_true _ _).mp hb
    have hl : len = 3 := Nat.eq_of_beq_eq_true hb1.1
    subst hl
    have h2 := hb1.2
    cases hz : Nat.beq r1 1001 with
    | true =>
      rw [hz] at h2 hs
      exact zh_copy hC hE (zin_ok h2) zcw_ok.1 zcw_ok.2.1 zcw_ok.2.2.1 hRf hRl hd hs k
    | false =>
      rw [hz] at hs h2
      cases hz2 : Nat.beq r1 1002 with
      | true =>
        rw [hz2] at hs h2
        exact zh_mmax hC hE (zin_ok h2) zmw_ok.1.1 zmw_ok.2.2 zmw_ok.1.2 hRf hRl hr1 hr2 hd hs k
      | false =>
        rw [hz2] at hs h2
        cases hz3 : Nat.beq r1 1003 with
        | true =>
          rw [hz3] at hs h2
          exact zh_mmin hC hE (zin_ok h2) zmw_ok.2.1.1 zmw_ok.2.2 zmw_ok.2.1.2 hRf hRl hr1 hr2 hd hs k
        | false =>
          rw [hz3] at hs
          have hs : zs_ins r1 r2.toNat E top al st h = .inl (al', st', h') := hs
          exact (zins_no hs).elim
  · rename_i i
    have hb1 := (Bool.and_eq_true _ _).mp hb
    have hl : len = 3 := Nat.eq_of_beq_eq_true hb1.1
    subst hl
    have h2 := hb1.2
    cases hz : Nat.beq r1 1000 with
    | true =>
      rw [hz] at h2 hs
      exact zh_obj hC hE (zin_ok h2) zcw_ok.2.2.2.1 zcw_ok.2.2.2.2 hRf hRl hd hs k
    | false =>
      rw [hz] at hs
      have hs : zs_inv r1 r2.toNat E top al st h = .inl (al', st', h') := hs
      exact (zinv_no hs).elim
  · exact (ziret_no hs).elim
  · exact (zlret_no hs).elim
  · exact (zvret_no hs).elim
  · cases hs
theorem zjp_ok {ins : Instr} {len r1 t j : Nat} {r2 : Int} {b : Bool} (hC : zCx p s m args meth c cc nL own D kk A g ini top) (hE : zEv g E) (hb : zfB own nL ini len r1 r2 pc ins = true) (hd : decode cc pc = .ok (ins, len)) (hj : zisj ins = true) (hs : zsel pc r1 r2 ins E top al st h = .inr (.inl (t, b, j, st'))) (k : zWn p l e R s m args below meth c Q D kk A g ad0 nL n0 m0 t al st' h) : zWn p l e R s m args below meth c Q D kk A g ad0 nL n0 m0 pc al st h := by
  unfold zisj at hj
  split at hj
  · rename_i off
    have hl : len = 3 := Nat.eq_of_beq_eq_true hb
    subst hl
    exact zj_goto hC hE hd hs k
  · rename_i q off
    have hb1 := (Bool.and_eq_true _ _).mp hb
    have hl : len = 3 := Nat.eq_of_beq_eq_true hb1.1
    subst hl
    exact zj_icmp hC hE hd hs k
  · rename_i q off
    have hb1 := (Bool.and_eq_true _ _).mp hb
    have hl : len = 3 := Nat.eq_of_beq_eq_true hb1.1
    subst hl
    exact zj_if hC hE hd hs k
  · exact zj_table hC hE hd hs k
  · cases hj
end ZD
