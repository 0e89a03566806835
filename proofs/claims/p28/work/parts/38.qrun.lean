section QR
variable {p : Program} {l : Launch} {e : Env} {R : Room} {s : State} {m : MethodId} {args : Array Value} {below : List Frame} {meth : Method} {c : Code} {Q : State → Prop} {D : va_G} {kk : Nat → ClassId} {A : Nat → Prop} {g : qG} {ad : List Nat} {nL nc ns : Nat} {cc : ByteArray} {own : String} {t : qT} {pc : Nat} {ls : qL} {st : List qV} {μ : qM}
theorem qfk_all (t : FieldType) : qfk t = 0 ∨ qfk t = 1 ∨ qfk t = 2 ∨ qfk t = 3 := by
  unfold qfk
  split
  · exact Or.inr (Or.inl rfl)
  · exact Or.inr (Or.inr (Or.inl rfl))
  · exact Or.inr (Or.inr (Or.inr rfl))
  · exact Or.inr (Or.inr (Or.inr rfl))
  · exact Or.inl rfl
theorem zx_w1 : zin (.native arraycopyName) = true := by decide +kernel
theorem zx_w2 : zin (.static arraycopyName) = true := by decide +kernel
theorem zx_w3 : zin (.initialized "java/lang/System") = true := by decide +kernel
theorem zx_w4 : zin (.static Lib.Math.max.name) = true := by decide +kernel
theorem zx_w5 : zin (.static Lib.Math.min.name) = true := by decide +kernel
theorem zx_w6 : zin (.initialized "java/lang/Math") = true := by decide +kernel
theorem zx_w7 : zin (.code Lib.Math.max.name Lib.Math.max.code 2 (some .int)) = true := by decide +kernel
theorem zx_w8 : zin (.code Lib.Math.min.name Lib.Math.min.code 2 (some .int)) = true := by decide +kernel
set_option maxHeartbeats 4000000 in
/-- every step of the q-layer but a return is a step of the machine -/
theorem qh_all {ins : Instr} {len r1 r2 d rk : Nat} {k9 : Int} {Rt : qV → qM → Prop} (hC : qCx p s m args meth c cc nL own D kk A g t) (hM : ∀ j M, qmt j = some M → qmB M = true) (hb : qfB own nL len r1 r2 k9 pc ins = true) (hd : decode cc pc = .ok (ins, len)) (hco : ∀ j as μ Q, qmw d j as μ Q → qCo l g D kk ad d j as μ Q) (hRf : d + 1 ≤ R.frames) (hRl : 60 * d + 60 ≤ R.locals) (hr1 : nc ≤ R.cells) (hr2 : ns ≤ R.slots)
    (hret : ∀ ls st μ, (ins = .ireturn ∧ qs_iret rk Rt ls st μ) ∨ (ins = .lreturn ∧ qs_lret rk Rt ls st μ) ∨ (ins = .areturn ∧ qs_aret rk Rt ls st μ) ∨ (ins = .return_ ∧ qs_vret rk Rt ls st μ) → qWn p l e R s m args below meth c Q D kk A g ad nL nc ns pc ls st μ)
    (hs : qsel (qmw d) t rk Rt (qWn p l e R s m args below meth c Q D kk A g ad nL nc ns) pc ins len r1 r2 k9 ls st μ) : qWn p l e R s m args below meth c Q D kk A g ad nL nc ns pc ls st μ := by
  cases ins
  case iload_n k =>
    have hlen : len = 1 := Nat.eq_of_beq_eq_true hb
    subst hlen
    exact qh_iload_n hC hd hs
  case iload k =>
    have hlen : len = 2 := Nat.eq_of_beq_eq_true hb
    subst hlen
    exact qh_iload hC hd hs
  case aload_n k =>
    have hlen : len = 1 := Nat.eq_of_beq_eq_true hb
    subst hlen
    exact qh_aload_n hC hd hs
  case aload k =>
    have hlen : len = 2 := Nat.eq_of_beq_eq_true hb
    subst hlen
    exact qh_aload hC hd hs
  case lload_n k =>
    have hlen : len = 1 := Nat.eq_of_beq_eq_true hb
    subst hlen
    exact qh_lload_n hC hd hs
  case lload k =>
    have hlen : len = 2 := Nat.eq_of_beq_eq_true hb
    subst hlen
    exact qh_lload hC hd hs
  case istore_n k =>
    have hb := (Bool.and_eq_true _ _).mp hb
    have hlen : len = 1 := Nat.eq_of_beq_eq_true hb.1
    subst hlen
    exact qh_istore_n hC (Nat.le_of_ble_eq_true hb.2) hd hs
  case istore k =>
    have hb := (Bool.and_eq_true _ _).mp hb
    have hlen : len = 2 := Nat.eq_of_beq_eq_true hb.1
    subst hlen
    exact qh_istore hC (Nat.le_of_ble_eq_true hb.2) hd hs
  case astore_n k =>
    have hb := (Bool.and_eq_true _ _).mp hb
    have hlen : len = 1 := Nat.eq_of_beq_eq_true hb.1
    subst hlen
    exact qh_astore_n hC (Nat.le_of_ble_eq_true hb.2) hd hs
  case astore k =>
    have hb := (Bool.and_eq_true _ _).mp hb
    have hlen : len = 2 := Nat.eq_of_beq_eq_true hb.1
    subst hlen
    exact qh_astore hC (Nat.le_of_ble_eq_true hb.2) hd hs
  case lstore_n k =>
    have hb := (Bool.and_eq_true _ _).mp hb
    have hlen : len = 1 := Nat.eq_of_beq_eq_true hb.1
    subst hlen
    exact qh_lstore_n hC (Nat.le_of_ble_eq_true hb.2) hd hs
  case lstore k =>
    have hb := (Bool.and_eq_true _ _).mp hb
    have hlen : len = 2 := Nat.eq_of_beq_eq_true hb.1
    subst hlen
    exact qh_lstore hC (Nat.le_of_ble_eq_true hb.2) hd hs
  case iconst n =>
    have hb := (Bool.and_eq_true _ _).mp hb
    have hlen : len = 1 := Nat.eq_of_beq_eq_true hb.1
    subst hlen
    exact qh_iconst hC (zi32_ok hb.2) hd hs
  case bipush n =>
    have hb := (Bool.and_eq_true _ _).mp hb
    have hlen : len = 2 := Nat.eq_of_beq_eq_true hb.1
    subst hlen
    have hb2 := (Bool.and_eq_true _ _).mp hb.2
    exact qh_bipush hC (zi32_ok hb2.1) (of_decide_eq_true hb2.2) hd hs
  case sipush n =>
    have hb := (Bool.and_eq_true _ _).mp hb
    have hlen : len = 3 := Nat.eq_of_beq_eq_true hb.1
    subst hlen
    have hb2 := (Bool.and_eq_true _ _).mp hb.2
    exact qh_sipush hC (zi32_ok hb2.1) (of_decide_eq_true hb2.2) hd hs
  case lconst n =>
    have hlen : len = 1 := Nat.eq_of_beq_eq_true hb
    subst hlen
    exact qh_lconst hC hd hs
  case ldc i =>
    simp only [qfB, qfG, Bool.and_eq_true] at hb
    have hlen : len = 2 := Nat.eq_of_beq_eq_true hb.1
    subst hlen
    exact qh_ldc hC (of_decide_eq_true hb.2.1) (Nat.le_of_ble_eq_true hb.2.2.1) (Nat.eq_of_beq_eq_true hb.2.2.2) hd hs
  case ldc_w i =>
    simp only [qfB, qfG, Bool.and_eq_true] at hb
    have hlen : len = 3 := Nat.eq_of_beq_eq_true hb.1
    subst hlen
    have hr := zi32_ok hb.2.1
    have hs : qs_push (.inl k9) (qWn p l e R s m args below meth c Q D kk A g ad nL nc ns (pc + 3)) ls st μ := hs
    rw [← fb_ofI hr.1 hr.2] at hs
    exact qh_ldc_w hC (zin_ok hb.2.2) hd hs
  case ldc2_w i =>
    simp only [qfB, qfG, Bool.and_eq_true] at hb
    have hlen : len = 3 := Nat.eq_of_beq_eq_true hb.1
    subst hlen
    have hr := zeq_iff.mp hb.2.1
    have hs : qs_push (.inr (.inl k9)) (qWn p l e R s m args below meth c Q D kk A g ad nL nc ns (pc + 3)) ls st μ := hs
    rw [← hr] at hs
    exact qh_ldc2_w hC (zin_ok hb.2.2) hd hs
  case iadd =>
    have hlen : len = 1 := Nat.eq_of_beq_eq_true hb
    subst hlen
    exact qh_iadd hC hd hs
  case isub =>
    have hlen : len = 1 := Nat.eq_of_beq_eq_true hb
    subst hlen
    exact qh_isub hC hd hs
  case imul =>
    have hlen : len = 1 := Nat.eq_of_beq_eq_true hb
    subst hlen
    exact qh_imul hC hd hs
  case idiv =>
    have hlen : len = 1 := Nat.eq_of_beq_eq_true hb
    subst hlen
    exact qh_idiv hC hd hs
  case irem =>
    have hlen : len = 1 := Nat.eq_of_beq_eq_true hb
    subst hlen
    exact qh_irem hC hd hs
  case iand =>
    have hlen : len = 1 := Nat.eq_of_beq_eq_true hb
    subst hlen
    exact qh_iand hC hd hs
  case ior =>
    have hlen : len = 1 := Nat.eq_of_beq_eq_true hb
    subst hlen
    exact qh_ior hC hd hs
  case ixor =>
    have hlen : len = 1 := Nat.eq_of_beq_eq_true hb
    subst hlen
    exact qh_ixor hC hd hs
  case ishl =>
    have hlen : len = 1 := Nat.eq_of_beq_eq_true hb
    subst hlen
    exact qh_ishl hC hd hs
  case ishr =>
    have hlen : len = 1 := Nat.eq_of_beq_eq_true hb
    subst hlen
    exact qh_ishr hC hd hs
  case iushr =>
    have hlen : len = 1 := Nat.eq_of_beq_eq_true hb
    subst hlen
    exact qh_iushr hC hd hs
  case ladd =>
    have hlen : len = 1 := Nat.eq_of_beq_eq_true hb
    subst hlen
    exact qh_ladd hC hd hs
  case lsub =>
    have hlen : len = 1 := Nat.eq_of_beq_eq_true hb
    subst hlen
    exact qh_lsub hC hd hs
  case lmul =>
    have hlen : len = 1 := Nat.eq_of_beq_eq_true hb
    subst hlen
    exact qh_lmul hC hd hs
  case lrem =>
    have hlen : len = 1 := Nat.eq_of_beq_eq_true hb
    subst hlen
    exact qh_lrem hC hd hs
  case land =>
    have hlen : len = 1 := Nat.eq_of_beq_eq_true hb
    subst hlen
    exact qh_land hC hd hs
  case lor =>
    have hlen : len = 1 := Nat.eq_of_beq_eq_true hb
    subst hlen
    exact qh_lor hC hd hs
  case lshl =>
    have hlen : len = 1 := Nat.eq_of_beq_eq_true hb
    subst hlen
    exact qh_lshl hC hd hs
  case lshr =>
    have hlen : len = 1 := Nat.eq_of_beq_eq_true hb
    subst hlen
    exact qh_lshr hC hd hs
  case lushr =>
    have hlen : len = 1 := Nat.eq_of_beq_eq_true hb
    subst hlen
    exact qh_lushr hC hd hs
  case i2l =>
    have hlen : len = 1 := Nat.eq_of_beq_eq_true hb
    subst hlen
    exact qh_i2l hC hd hs
  case l2i =>
    have hlen : len = 1 := Nat.eq_of_beq_eq_true hb
    subst hlen
    exact qh_l2i hC hd hs
  case i2b =>
    have hlen : len = 1 := Nat.eq_of_beq_eq_true hb
    subst hlen
    exact qh_i2b hC hd hs
  case i2c =>
    have hlen : len = 1 := Nat.eq_of_beq_eq_true hb
    subst hlen
    exact qh_i2c hC hd hs
  case lcmp =>
    have hlen : len = 1 := Nat.eq_of_beq_eq_true hb
    subst hlen
    exact qh_lcmp hC hd hs
  case dup =>
    have hlen : len = 1 := Nat.eq_of_beq_eq_true hb
    subst hlen
    exact qh_dup hC hd hs
  case dup2 =>
    have hlen : len = 1 := Nat.eq_of_beq_eq_true hb
    subst hlen
    exact qh_dup2 hC hd hs
  case pop =>
    have hlen : len = 1 := Nat.eq_of_beq_eq_true hb
    subst hlen
    exact qh_pop hC hd hs
  case pop2 =>
    have hlen : len = 1 := Nat.eq_of_beq_eq_true hb
    subst hlen
    exact qh_pop2 hC hd hs
  case iaload =>
    have hlen : len = 1 := Nat.eq_of_beq_eq_true hb
    subst hlen
    exact qh_iaload hC hd hs
  case baload =>
    have hlen : len = 1 := Nat.eq_of_beq_eq_true hb
    subst hlen
    exact qh_baload hC hd hs
  case caload =>
    have hlen : len = 1 := Nat.eq_of_beq_eq_true hb
    subst hlen
    exact qh_caload hC hd hs
  case laload =>
    have hlen : len = 1 := Nat.eq_of_beq_eq_true hb
    subst hlen
    exact qh_laload hC hd hs
  case aaload =>
    have hlen : len = 1 := Nat.eq_of_beq_eq_true hb
    subst hlen
    exact qh_aaload hC hd hs
  case iastore =>
    have hlen : len = 1 := Nat.eq_of_beq_eq_true hb
    subst hlen
    exact qh_iastore hC hd hs
  case bastore =>
    have hlen : len = 1 := Nat.eq_of_beq_eq_true hb
    subst hlen
    exact qh_bastore hC hd hs
  case castore =>
    have hlen : len = 1 := Nat.eq_of_beq_eq_true hb
    subst hlen
    exact qh_castore hC hd hs
  case lastore =>
    have hlen : len = 1 := Nat.eq_of_beq_eq_true hb
    subst hlen
    exact qh_lastore hC hd hs
  case arraylength =>
    have hlen : len = 1 := Nat.eq_of_beq_eq_true hb
    subst hlen
    exact qh_alen hC hd hs
  case iinc k n =>
    simp only [qfB, qfG, Bool.and_eq_true] at hb
    have hlen : len = 3 := Nat.eq_of_beq_eq_true hb.1
    subst hlen
    exact qh_iinc hC (zi32_ok hb.2.2) (Nat.le_of_ble_eq_true hb.2.1) hd hs
  case goto off =>
    have hb := (Bool.and_eq_true _ _).mp hb
    have hlen : len = 3 := Nat.eq_of_beq_eq_true hb.1
    subst hlen
    exact qh_goto hC (zeq_iff.mp hb.2) hd hs
  case if_icmp k off =>
    have hb := (Bool.and_eq_true _ _).mp hb
    have hlen : len = 3 := Nat.eq_of_beq_eq_true hb.1
    subst hlen
    exact qh_icmp hC (zeq_iff.mp hb.2) hd hs
  case ifCond k off =>
    have hb := (Bool.and_eq_true _ _).mp hb
    have hlen : len = 3 := Nat.eq_of_beq_eq_true hb.1
    subst hlen
    exact qh_if hC (zeq_iff.mp hb.2) hd hs
  case tableswitch df lo hi offs =>
    simp only [qfB, qfG, Bool.and_eq_true] at hb
    exact qh_table hC ⟨zle_iff.mp hb.1, fun o ho => zle_iff.mp (List.all_eq_true.mp hb.2.1 o ho), zeq_iff.mp hb.2.2⟩ hd hs
  case getfield i =>
    have hb := (Bool.and_eq_true _ _).mp hb
    have hlen : len = 3 := Nat.eq_of_beq_eq_true hb.1
    subst hlen
    have hb2 := hb.2
    have hs : qgf r1 r2 (qWn p l e R s m args below meth c Q D kk A g ad nL nc ns (pc + 3)) ls st μ := hs
    unfold qgf at hs
    cases hz : Nat.beq r1 20 with
    | true =>
      rw [hz] at hs hb2
      exact qh_gsc hC (zin_ok hb2) hd hs
    | false =>
      rw [hz] at hs hb2
      cases hz2 : Nat.beq r1 21 with
      | true =>
        rw [hz2] at hs hb2
        exact qh_gsv hC (zin_ok hb2) hd hs
      | false =>
        rw [hz2] at hs hb2
        replace hb2 : (Nat.blt r1 11 && (Nat.blt r2 (zN r1) && zin (.fieldLink own i (zTn r1 r2).1 (zTn r1 r2).2.1 (zTn r1 r2).2.2.1))) = true := hb2
        simp only [Bool.and_eq_true] at hb2
        have hlt : r1 < 11 := Nat.le_of_ble_eq_true hb2.1
        have hcl := zcl_ok r1 hlt
        have hk : r2 < zN r1 := Nat.le_of_ble_eq_true hb2.2.1
        replace hs : (match qfk (zty r1 r2) with
          | 2 => qs_gl r1 r2 (qWn p l e R s m args below meth c Q D kk A g ad nL nc ns (pc + 3))
          | 3 => qs_gr r1 r2 (qWn p l e R s m args below meth c Q D kk A g ad nL nc ns (pc + 3))
          | _ => qs_gi r1 r2 (qWn p l e R s m args below meth c Q D kk A g ad nL nc ns (pc + 3))) ls st μ := hs
        rcases qfk_all (zty r1 r2) with h9 | h9 | h9 | h9
        · rw [h9] at hs
          exact qh_gi hC (by omega) hcl hk (zin_ok hb2.2.2) h9 hd hs
        · rw [h9] at hs
          exact qh_gb hC (by omega) hcl hk (zin_ok hb2.2.2) h9 hd hs
        · rw [h9] at hs
          exact qh_gl hC (by omega) hcl hk (zin_ok hb2.2.2) h9 hd hs
        · rw [h9] at hs
          exact qh_gr hC (by omega) hcl hk (zin_ok hb2.2.2) h9 hd hs
  case putfield i =>
    have hb := (Bool.and_eq_true _ _).mp hb
    have hlen : len = 3 := Nat.eq_of_beq_eq_true hb.1
    subst hlen
    have hb2 := hb.2
    simp only [Bool.and_eq_true] at hb2
    have hlt : r1 < 11 := Nat.le_of_ble_eq_true hb2.1
    have hcl := zcl_ok r1 hlt
    have hk : r2 < zN r1 := Nat.le_of_ble_eq_true hb2.2.1
    have hfn : (zTn r1 r2).2.2.2 = false := by
      have := hb2.2.2.2.1
      cases hz : (zTn r1 r2).2.2.2 with
      | false => rfl
      | true => rw [hz] at this; cases this
    have hpt := hb2.2.2.2.2
    have hs : qpf r1 r2 (qWn p l e R s m args below meth c Q D kk A g ad nL nc ns (pc + 3)) ls st μ := hs
    unfold qpf at hs
    unfold qpt at hpt
    split at hpt
    · rename_i h9
      have h8 : qfk (zty r1 r2) = 0 := by rw [h9]; rfl
      rw [h8] at hs
      exact qh_pi hC (by omega) hcl hk (zin_ok hb2.2.2.1) hfn h9 h8 hd hs
    · rename_i h9
      have h8 : qfk (zty r1 r2) = 1 := by rw [h9]; rfl
      rw [h8] at hs
      exact qh_pb hC (by omega) hcl hk (zin_ok hb2.2.2.1) hfn h9 h8 hd hs
    · rename_i h9
      have h8 : qfk (zty r1 r2) = 2 := by rw [h9]; rfl
      rw [h8] at hs
      exact qh_pl hC (by omega) hcl hk (zin_ok hb2.2.2.1) hfn h9 h8 hd hs
    · cases hpt
  case getstatic i =>
    have hb := (Bool.and_eq_true _ _).mp hb
    have hlen : len = 3 := Nat.eq_of_beq_eq_true hb.1
    subst hlen
    have hb2 := hb.2
    refine qh_gets hC ?_ hd hs
    cases hz : Nat.beq r1 0 with
    | true =>
      rw [hz] at hb2
      exact Or.inl ⟨Nat.eq_of_beq_eq_true hz, zin_ok hb2⟩
    | false =>
      rw [hz] at hb2
      cases hz1 : Nat.beq r1 1 with
      | true =>
        rw [hz1] at hb2
        exact Or.inr (Or.inl ⟨Nat.eq_of_beq_eq_true hz1, zin_ok hb2⟩)
      | false =>
        rw [hz1] at hb2
        cases hz2 : Nat.beq r1 2 with
        | true =>
          rw [hz2] at hb2
          exact Or.inr (Or.inr (Or.inl ⟨Nat.eq_of_beq_eq_true hz2, zin_ok hb2⟩))
        | false =>
          rw [hz2] at hb2
          have hb3 := (Bool.and_eq_true _ _).mp hb2
          exact Or.inr (Or.inr (Or.inr ⟨Nat.eq_of_beq_eq_true hb3.1, zin_ok hb3.2⟩))
  case invokevirtual i =>
    have hb := (Bool.and_eq_true _ _).mp hb
    have hlen : len = 3 := Nat.eq_of_beq_eq_true hb.1
    subst hlen
    have hb2 := hb.2
    split at hb2
    · rename_i M hMj
      simp only [Bool.and_eq_true] at hb2
      obtain ⟨hkn, hnin, hlk, hpar⟩ := hb2
      have hs : qinv (qmw d) r1 r2 (qWn p l e R s m args below meth c Q D kk A g ad nL nc ns (pc + 3)) ls st μ := hs
      unfold qinv at hs
      cases hz9 : Nat.ble 100 r2 with
      | true =>
        rw [hz9] at hs hpar
        replace hs : qs_cv (qmw d) r1 (r2 - 100) (qWn p l e R s m args below meth c Q D kk A g ad nL nc ns (pc + 3)) ls st μ := hs
        unfold qs_cv at hs
        split at hs
        · rename_i as st' htk
          replace hs := qif_ok hs
          obtain ⟨M1, hM1, hrc, hMet⟩ := hco _ _ _ _ hs.2
          rw [hMj] at hM1
          cases hM1
          replace hpar : (decide (zpar M.1 = some (r2 - 101)) && (Nat.beq (qrk M.2.2.2.1) 0 && Nat.ble 101 r2)) = true := hpar
          simp only [Bool.and_eq_true] at hpar
          have h101 : 101 ≤ r2 := Nat.le_of_ble_eq_true hpar.2.2
          exact qcallV hC (hM _ _ hMj) hkn hlk (by rw [of_decide_eq_true hpar.1]; congr 1) (by omega) hd htk hs.1 hrc hMet hRf hRl hr1 hr2 (fun v μ1 h9 => by rw [hpar.2.1]; exact h9)
        · exact hs.elim
      | false =>
        rw [hz9] at hs hpar
        replace hs : qs_cr (qmw d) r1 r2 (qWn p l e R s m args below meth c Q D kk A g ad nL nc ns (pc + 3)) ls st μ := hs
        unfold qs_cr at hs
        split at hs
        · rename_i as st' htk
          replace hs := qif_ok hs
          obtain ⟨M1, hM1, hrc, hMet⟩ := hco _ _ _ _ hs.2
          rw [hMj] at hM1
          cases hM1
          replace hpar : (decide (zpar M.1 = some (r2 - 1)) && (!(Nat.beq (qrk M.2.2.2.1) 0) && Nat.ble 1 r2)) = true := hpar
          simp only [Bool.and_eq_true] at hpar
          have h101 : 1 ≤ r2 := Nat.le_of_ble_eq_true hpar.2.2
          have hnz : Nat.beq (qrk M.2.2.2.1) 0 = false := by
            cases hz : Nat.beq (qrk M.2.2.2.1) 0 with
            | false => rfl
            | true => rw [hz] at hpar; cases hpar.2.1
          exact qcallV hC (hM _ _ hMj) hkn hlk (of_decide_eq_true hpar.1) h101 hd htk hs.1 hrc hMet hRf hRl hr1 hr2 (fun v μ1 h9 => by rw [hnz]; exact h9)
        · exact hs.elim
    · cases hb2
  case invokestatic i =>
    have hb := (Bool.and_eq_true _ _).mp hb
    have hlen : len = 3 := Nat.eq_of_beq_eq_true hb.1
    subst hlen
    have hb2 := hb.2
    replace hs : (bif Nat.beq r1 1001 then qs_copy (qWn p l e R s m args below meth c Q D kk A g ad nL nc ns (pc + 3)) else bif Nat.beq r1 1002 then qs_mm qmax (qWn p l e R s m args below meth c Q D kk A g ad nL nc ns (pc + 3)) else bif Nat.beq r1 1003 then qs_mm qmin (qWn p l e R s m args below meth c Q D kk A g ad nL nc ns (pc + 3)) else qinv (qmw d) r1 r2 (qWn p l e R s m args below meth c Q D kk A g ad nL nc ns (pc + 3))) ls st μ := hs
    cases hz1 : Nat.beq r1 1001 with
    | true =>
      rw [hz1] at hs hb2
      exact qh_copy hC (zin_ok hb2) (zin_ok zx_w1) (zin_ok zx_w2) (zin_ok zx_w3) (by omega) (by omega) hd hs
    | false =>
     rw [hz1] at hs hb2
     cases hz2 : Nat.beq r1 1002 with
     | true =>
       rw [hz2] at hs hb2
       exact qh_mmax hC (zin_ok hb2) (zin_ok zx_w4) (zin_ok zx_w6) (zin_ok zx_w7) (by omega) (by omega) hr1 hr2 hd hs
     | false =>
      rw [hz2] at hs hb2
      cases hz3 : Nat.beq r1 1003 with
      | true =>
        rw [hz3] at hs hb2
        exact qh_mmin hC (zin_ok hb2) (zin_ok zx_w5) (zin_ok zx_w6) (zin_ok zx_w8) (by omega) (by omega) hr1 hr2 hd hs
      | false =>
       rw [hz3] at hs hb2
       replace hb2 : (match qmt r1 with
         | some M => Nat.beq M.2.2.2.2.1 0 && (zlk2 zin own i M.1 && ((bif Nat.ble 100 r2 then decide (zpar M.1 = some (r2 - 100)) && Nat.beq (qrk M.2.2.2.1) 0 else decide (zpar M.1 = some r2) && !(Nat.beq (qrk M.2.2.2.1) 0))))
         | none => false) = true := hb2
       split at hb2
       · rename_i M hMj
         simp only [Bool.and_eq_true] at hb2
         obtain ⟨hkn, hlk, hpar⟩ := hb2
         have hs : qinv (qmw d) r1 r2 (qWn p l e R s m args below meth c Q D kk A g ad nL nc ns (pc + 3)) ls st μ := hs
         unfold qinv at hs
         cases hz9 : Nat.ble 100 r2 with
         | true =>
           rw [hz9] at hs hpar
           replace hs : qs_cv (qmw d) r1 (r2 - 100) (qWn p l e R s m args below meth c Q D kk A g ad nL nc ns (pc + 3)) ls st μ := hs
           unfold qs_cv at hs
           split at hs
           · rename_i as st' htk
             replace hs := qif_ok hs
             obtain ⟨M1, hM1, hrc, hMet⟩ := hco _ _ _ _ hs.2
             rw [hMj] at hM1
             cases hM1
             replace hpar : (decide (zpar M.1 = some (r2 - 100)) && Nat.beq (qrk M.2.2.2.1) 0) = true := hpar
             simp only [Bool.and_eq_true] at hpar
             exact qcallS hC (hM _ _ hMj) hkn hlk (of_decide_eq_true hpar.1) hd htk hs.1 hMet hRf hRl hr1 hr2 (fun v μ1 h9 => by rw [hpar.2]; exact h9)
           · exact hs.elim
         | false =>
           rw [hz9] at hs hpar
           replace hs : qs_cr (qmw d) r1 r2 (qWn p l e R s m args below meth c Q D kk A g ad nL nc ns (pc + 3)) ls st μ := hs
           unfold qs_cr at hs
           split at hs
           · rename_i as st' htk
             replace hs := qif_ok hs
             obtain ⟨M1, hM1, hrc, hMet⟩ := hco _ _ _ _ hs.2
             rw [hMj] at hM1
             cases hM1
             replace hpar : (decide (zpar M.1 = some r2) && !(Nat.beq (qrk M.2.2.2.1) 0)) = true := hpar
             simp only [Bool.and_eq_true] at hpar
             have hnz : Nat.beq (qrk M.2.2.2.1) 0 = false := by
               cases hz : Nat.beq (qrk M.2.2.2.1) 0 with
               | false => rfl
               | true => rw [hz] at hpar; cases hpar.2
             exact qcallS hC (hM _ _ hMj) hkn hlk (of_decide_eq_true hpar.1) hd htk hs.1 hMet hRf hRl hr1 hr2 (fun v μ1 h9 => by rw [hnz]; exact h9)
           · exact hs.elim
       · cases hb2
  case ireturn => exact hret _ _ _ (Or.inl ⟨rfl, hs⟩)
  case lreturn => exact hret _ _ _ (Or.inr (Or.inl ⟨rfl, hs⟩))
  case areturn => exact hret _ _ _ (Or.inr (Or.inr (Or.inl ⟨rfl, hs⟩)))
  case return_ => exact hret _ _ _ (Or.inr (Or.inr (Or.inr ⟨rfl, hs⟩)))
  all_goals exact hs.elim
theorem qrk_0 {r : Option FieldType} (h : qrk r = 0) : r = none := by
  unfold qrk at h
  split at h <;> first | rfl | cases h
theorem qrk_1 {r : Option FieldType} (h : qrk r = 1) : r = some .int := by
  unfold qrk at h
  split at h <;> first | rfl | cases h
theorem qrk_2 {r : Option FieldType} (h : qrk r = 2) : r = some .boolean := by
  unfold qrk at h
  split at h <;> first | rfl | cases h
theorem qrk_3 {r : Option FieldType} (h : qrk r = 3) : r = some .long := by
  unfold qrk at h
  split at h <;> first | rfl | cases h
theorem qrk_4 {r : Option FieldType} (h : qrk r = 4) : r = some .char := by
  unfold qrk at h
  split at h <;> first | rfl | cases h
theorem qrk_6 {r : Option FieldType} (h : qrk r = 6) : ∃ n, r = some (.object n) := by
  unfold qrk at h
  split at h <;> first | exact ⟨_, rfl⟩ | cases h
theorem qrk_5 {r : Option FieldType} (h : qrk r = 5) : r = some .byte := by
  unfold qrk at h
  split at h <;> first | rfl | cases h
theorem qent_ok {g : qG} {ad : List Nat} : ∀ {as : List qV} {As : List Value} (n i : Nat), qVs g ad as As → ∀ k v, qg (qent as n) k = some v → ∃ w, (i + k, w) ∈ lv_args i As ∧ qVr g ad v w
  | [], [], n, i, _, k, v, hk => by
    exfalso
    have h0 : ∀ (n k : Nat), qg (qrep n) k = none := by
      intro n
      induction n with
      | zero => intro k; rfl
      | succ n ih =>
        intro k
        cases k with
        | zero => rfl
        | succ k => exact ih k
    have hk : qg (qrep n) k = some v := hk
    rw [h0] at hk
    cases hk
  | [], _ :: _, _, _, h, _, _, _ => h.elim
  | _ :: _, [], _, _, h, _, _, _ => h.elim
  | a :: as, w :: ws, n, i, h, k, v, hk => by
    have hcat := qVr_cat h.1
    have e9 : lv_args i (w :: ws) = (i, w) :: lv_args (if w.category = 2 then i + 2 else i + 1) ws := rfl
    rw [e9]
    by_cases h2 : qca a = 2
    · obtain ⟨z, rfl⟩ : ∃ z, a = .inr (.inl z) := by
        unfold qca at h2
        split at h2
        · exact ⟨_, rfl⟩
        · cases h2
      rw [if_pos (hcat.trans h2)]
      match k, hk with
      | 0, hk =>
        have hk : some (Sum.inr (Sum.inl z)) = some v := hk
        cases hk
        exact ⟨w, List.mem_cons_self, h.1⟩
      | 1, hk =>
        have hk : (none : Option qV) = some v := hk
        cases hk
      | k + 2, hk =>
        have hk : qg (qent as (n - 2)) k = some v := hk
        obtain ⟨w2, h3, h4⟩ := qent_ok (n - 2) (i + 2) h.2 k v hk
        exact ⟨w2, List.mem_cons_of_mem _ (by rw [show i + (k + 2) = i + 2 + k by omega]; exact h3), h4⟩
    · rw [if_neg (fun q => h2 (by rw [← hcat]; exact q))]
      have e8 : qent (a :: as) n = some a :: qent as (n - 1) := by
        match a, h2 with
        | .inl _, _ => rfl
        | .inr (.inl _), h2 => exact absurd rfl h2
        | .inr (.inr _), _ => rfl
      rw [e8] at hk
      match k, hk with
      | 0, hk =>
        have hk : some a = some v := hk
        cases hk
        exact ⟨w, List.mem_cons_self, h.1⟩
      | k + 1, hk =>
        have hk : qg (qent as (n - 1)) k = some v := hk
        obtain ⟨w2, h3, h4⟩ := qent_ok (n - 1) (i + 1) h.2 k v hk
        exact ⟨w2, List.mem_cons_of_mem _ (by rw [show i + (k + 1) = i + 1 + k by omega]; exact h3), h4⟩
theorem qsl_len {g : qG} {ad : List Nat} : ∀ {as : List qV} {As : List Value}, qVs g ad as As → (lg_sl As).length = qars as
  | [], [], _ => rfl
  | [], _ :: _, h => h.elim
  | _ :: _, [], h => h.elim
  | a :: as, v :: vs, h => by
    have e9 : lg_sl (v :: vs) = (if v.category = 2 then [.val v, .second] else [.val v]) ++ lg_sl vs := rfl
    rw [e9, List.length_append, qsl_len h.2]
    show _ = qca a + qars as
    rw [qVr_cat h.1]
    unfold qca
    split
    · rfl
    · rfl
/-- a method's own end -/
theorem qret_ok {ws : va_W} {M : qMt} {ins : Instr} {len r1 r2 : Nat} {k9 : Int} {Rt : qV → qM → Prop} (hC : qCx p s m args meth c cc nL own D kk (va_A ws s.heap.size) g t) (hlk : meth.locks = false) (hsig : meth.sig.returnType = M.2.2.2.1) (hb : qfB own nL len r1 r2 k9 pc ins = true) (hd : decode cc pc = .ok (ins, len))
    (hj : (ins = .ireturn ∧ qs_iret (qrk M.2.2.2.1) Rt ls st μ) ∨ (ins = .lreturn ∧ qs_lret (qrk M.2.2.2.1) Rt ls st μ) ∨ (ins = .areturn ∧ qs_aret (qrk M.2.2.2.1) Rt ls st μ) ∨ (ins = .return_ ∧ qs_vret (qrk M.2.2.2.1) Rt ls st μ)) :
    qWn p l e R s m args below meth c (MQ below (qQc M.2.2.2.1 g D kk ad Rt ws s.heap.size) args s 0 0 (va_A ws s.heap.size)) D kk (va_A ws s.heap.size) g ad nL 0 0 pc ls st μ := by
  have hK := hC.2.2.2.2.2.1
  rcases hj with ⟨rfl, hs⟩ | ⟨rfl, hs⟩ | ⟨rfl, hs⟩ | ⟨rfl, hs⟩
  · have hlen : len = 1 := Nat.eq_of_beq_eq_true hb
    subst hlen
    unfold qs_iret at hs
    split at hs
    · rename_i a0
      intro ar sv H locs ⟨w, lv, hh, hl, hL, hF, hP, hD, hS⟩
      obtain ⟨v, vs, rfl, ⟨y, rfl, rfl⟩, hF1⟩ := qVs_cons hF
      have e1 := qVs_nil hF1
      subst e1
      split at hs
      · rename_i h9
        have hr : M.2.2.2.1 = some .int := qrk_1 h9
        have hq : qQc M.2.2.2.1 g D kk ad Rt ws s.heap.size = va_Qi (fun (x : Int32) (w : va_W) => qPo ad kk Rt (.inl x.toInt) w) (qB D kk ws s.heap.size) (va_A ws s.heap.size) := by
          unfold qQc
          rw [h9]
          rfl
        rw [hq]
        exact W.iret (v := y) hC.1 hC.2.1 (hsig.trans hr) (fun t ht hW => ⟨⟨y, w, rfl, ⟨μ, hh, hs⟩, by rw [ht]; exact hP, va_K.moved hW.alike hK, hD⟩, hS.F ht⟩) hS.2.2 hd hlk
      · rename_i h9
        have hr : M.2.2.2.1 = some .boolean := qrk_2 h9
        have hq : qQc M.2.2.2.1 g D kk ad Rt ws s.heap.size = va_Qi (fun (x : Int32) (w : va_W) => qPo ad kk Rt (.inl x.toInt) w) (qB D kk ws s.heap.size) (va_A ws s.heap.size) := by
          unfold qQc
          rw [h9]
          rfl
        rw [hq]
        exact W.zret (v := y) (ty := .boolean) hC.1 hC.2.1 (hsig.trans hr) ((qbool_n hs.1.1 hs.1.2).1) (fun t ht hW => ⟨⟨y, w, rfl, ⟨μ, hh, hs.2⟩, by rw [ht]; exact hP, va_K.moved hW.alike hK, hD⟩, hS.F ht⟩) hS.2.2 hd hlk
      · rename_i h9
        have hr : M.2.2.2.1 = some .char := qrk_4 h9
        have hq : qQc M.2.2.2.1 g D kk ad Rt ws s.heap.size = va_Qi (fun (x : Int32) (w : va_W) => qPo ad kk Rt (.inl x.toInt) w) (qB D kk ws s.heap.size) (va_A ws s.heap.size) := by
          unfold qQc
          rw [h9]
          rfl
        rw [hq]
        exact W.zret (v := y) (ty := .char) hC.1 hC.2.1 (hsig.trans hr) (by show Value.int _ = _; rw [fa_i2c hs.1.1 hs.1.2]) (fun t ht hW => ⟨⟨y, w, rfl, ⟨μ, hh, hs.2⟩, by rw [ht]; exact hP, va_K.moved hW.alike hK, hD⟩, hS.F ht⟩) hS.2.2 hd hlk
      · rename_i h9
        have hr : M.2.2.2.1 = some .byte := qrk_5 h9
        have hq : qQc M.2.2.2.1 g D kk ad Rt ws s.heap.size = va_Qi (fun (x : Int32) (w : va_W) => qPo ad kk Rt (.inl x.toInt) w) (qB D kk ws s.heap.size) (va_A ws s.heap.size) := by
          unfold qQc
          rw [h9]
          rfl
        rw [hq]
        exact W.zret (v := y) (ty := .byte) hC.1 hC.2.1 (hsig.trans hr) (by show Value.int _ = _; rw [fa_i2b hs.1.1 hs.1.2]) (fun t ht hW => ⟨⟨y, w, rfl, ⟨μ, hh, hs.2⟩, by rw [ht]; exact hP, va_K.moved hW.alike hK, hD⟩, hS.F ht⟩) hS.2.2 hd hlk
      · exact hs.elim
    · exact hs.elim
  · have hlen : len = 1 := Nat.eq_of_beq_eq_true hb
    subst hlen
    unfold qs_lret at hs
    split at hs
    · rename_i a0
      intro ar sv H locs ⟨w, lv, hh, hl, hL, hF, hP, hD, hS⟩
      obtain ⟨v, vs, rfl, ⟨y, rfl, rfl⟩, hF1⟩ := qVs_cons hF
      have e1 := qVs_nil hF1
      subst e1
      split at hs
      · rename_i h9
        have hr : M.2.2.2.1 = some .long := qrk_3 h9
        have hq : qQc M.2.2.2.1 g D kk ad Rt ws s.heap.size = va_Ql (fun (x : Int64) (w : va_W) => qPo ad kk Rt (.inr (.inl x.toInt)) w) (qB D kk ws s.heap.size) (va_A ws s.heap.size) := by
          unfold qQc
          rw [h9]
          rfl
        rw [hq]
        exact W.lret (v := y) hC.1 hC.2.1 (hsig.trans hr) (fun t ht hW => ⟨⟨y, w, rfl, ⟨μ, hh, hs⟩, by rw [ht]; exact hP, va_K.moved hW.alike hK, hD⟩, hS.F ht⟩) hS.2.2 hd hlk
      · exact hs.elim
    · exact hs.elim
  · have hlen : len = 1 := Nat.eq_of_beq_eq_true hb
    subst hlen
    unfold qs_aret at hs
    split at hs
    · rename_i k0
      intro ar sv H locs ⟨w, lv, hh, hl, hL, hF, hP, hD, hS⟩
      obtain ⟨v, vs, rfl, hV, hF1⟩ := qVs_cons hF
      have e1 := qVs_nil hF1
      subst e1
      split at hs
      · rename_i h9
        rcases hV with ⟨h1, -⟩ | ⟨-, rfl⟩
        · omega
        · have hq : qQc M.2.2.2.1 g D kk ad Rt ws s.heap.size = va_Qr (fun u : Nat × va_W => (10 ≤ u.1 ∧ u.1 < 16) ∧ qPo ad kk Rt (.inr (.inr (.inr u.1))) u.2) (fun u a t => a = g.1 u.1 ∧ qB D kk ws s.heap.size u.2 t) (va_A ws s.heap.size) := by
            unfold qQc
            rw [h9]
            rfl
          rw [hq]
          obtain ⟨rt, hr⟩ := qrk_6 h9
          exact W.aret (v := .ref (g.1 k0)) hC.1 hC.2.1 (hsig.trans hr) (Or.inl ⟨rt, rfl⟩) (Or.inr ⟨_, rfl⟩) (fun t ht hW => ⟨⟨(k0, w), g.1 k0, rfl, ⟨hs.1, μ, hh, hs.2⟩, rfl, by rw [ht]; exact hP, va_K.moved hW.alike hK, hD⟩, hS.F ht⟩) hS.2.2 hd hlk
      · exact hs.elim
    · exact hs.elim
  · have hlen : len = 1 := Nat.eq_of_beq_eq_true hb
    subst hlen
    unfold qs_vret at hs
    split at hs
    · intro ar sv H locs ⟨w, lv, hh, hl, hL, hF, hP, hD, hS⟩
      have e1 := qVs_nil hF
      subst e1
      split at hs
      · rename_i h9
        have hr : M.2.2.2.1 = none := qrk_0 h9
        have hq : qQc M.2.2.2.1 g D kk ad Rt ws s.heap.size = va_Qv (fun w : va_W => qPo ad kk Rt (.inl 0) w) (qB D kk ws s.heap.size) (va_A ws s.heap.size) := by
          unfold qQc
          rw [h9]
          rfl
        rw [hq]
        exact W.vret hC.1 hC.2.1 (hsig.trans hr) (fun t ht hW => ⟨⟨w, rfl, ⟨μ, hh, hs⟩, by rw [ht]; exact hP, va_K.moved hW.alike hK, hD⟩, hS.F ht⟩) hS.2.2 hd hlk
      · exact hs.elim
    · exact hs.elim
/-- every method does on the machine what the q-layer says -/
theorem qmw_ok {g : qG} {D : va_G} {kk : Nat → ClassId} {ad : List Nat} (hM : ∀ j M, qmt j = some M → qmB M = true) (hF : ∀ j M, qmt j = some M → qfM M.1.cls M.2.2.1 M.2.1 M.2.2.2.2.2 = true) : ∀ (d j : Nat) (as : List qV) (μ : qM) (Q : qV → qM → Prop), qmw d j as μ Q → qCo l g D kk ad d j as μ Q := by
  intro d
  induction d with
  | zero => intro j as μ Q h; exact h.elim
  | succ d ih =>
    intro j as μ Q h
    have h : (match qmt j with
      | some M => (qrc M.2.2.2.2.1 as ∧ qars as ≤ M.2.2.1) ∧ qw (qmw d) none (qrk M.2.2.2.1) (qlk M.2.2.2.2.2) Q 0 (qent as M.2.2.1) [] μ
      | none => False) := h
    split at h
    · rename_i M hMj
      have hB := hM j M hMj
      obtain ⟨wc, wi, wk, wm, wp, wn, ws4⟩ := qmem hB
      have hfit := List.all_eq_true.mp (hF j M hMj)
      refine ⟨M, hMj, h.1.1, fun ws As sz hh hAs => ?_⟩
      refine Met.ofW (cc := M.2.1) (maxL := M.2.2.1) (ret := M.2.2.2.1) wp rfl ?_
      intro p e s m args below meth c s₁ B hml hv
      obtain ⟨rfl, hsz, hP, hK, hD0, hX⟩ := hv
      subst hsz
      have hts := atoms_spec (ws := Jvm.Cond.code M.1 M.2.1 M.2.2.1 M.2.2.2.1 :: zW) B.pre
      have hown : s.vm.findClass M.1.cls = some m.cls := findClass_of_methodNamed B.named
      have hC : qCx p s m As.toArray meth c M.2.1 M.2.2.1 M.1.cls D kk (va_A ws s.heap.size) g none := ⟨B.exec, B.bytes, hml, hown, fun w hw => hts w (List.mem_cons_of_mem _ hw), hK, fun q h9 => Or.inr h9, hX, fun x h9 => by cases h9⟩
      have hl := lv_entry As (n := M.2.2.1) (by rw [qsl_len hAs]; exact h.1.2)
      rw [lg_entry_eq]
      have hW := h.2 (qWn p l e (qRm (d + 1)) s m As.toArray below meth c (MQ below (qQc M.2.2.2.1 g D kk ad Q ws s.heap.size) As.toArray s 0 0 (va_A ws s.heap.size)) D kk (va_A ws s.heap.size) g ad M.2.2.1 0 0) (fun pc ls st μ hst => by
        unfold qstep at hst
        split at hst
        · rename_i x hx
          obtain ⟨hmem, hpc⟩ := qlk_mem hx
          have h9 := hfit x hmem
          rw [Bool.and_eq_true] at h9
          have hdec := of_decide_eq_true h9.1
          have hfb := h9.2
          rw [hpc] at hdec hfb
          exact qh_all hC hM hfb hdec ih (Nat.le_refl _) (by show 60 * d + 60 ≤ 60 * (d + 1); omega) (Nat.le_refl _) (Nat.le_refl _) (fun ls st μ hj => qret_ok hC B.notSynchronized B.returns hfb hdec hj) hst
        · exact hst.elim)
      exact hW _ [] s.heap [] ⟨ws, lv_args 0 As, hh, hl, fun k v hk => by
        obtain ⟨w, h3, h4⟩ := qent_ok M.2.2.1 0 hAs k v hk
        rw [Nat.zero_add] at h3
        exact ⟨w, h3, h4⟩, trivial, hP, hD0.self, va_S.rf⟩
    · exact h.elim
end QR
