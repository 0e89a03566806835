section QA
variable {p : Program} {l : Launch} {e : Env} {R : Room} {s : State} {m : MethodId} {args : Array Value} {below : List Frame} {meth : Method} {c : Code} {Q : State → Prop} {D : va_G} {kk : Nat → ClassId} {A : Nat → Prop} {g : qG} {ad : List Nat} {nL nc ns : Nat} {cc : ByteArray} {own : String} {t : qT} {pc : Nat} {ls : qL} {st : List qV} {μ : qM}
theorem qix {x : Int32} {n : Nat} (h1 : 0 ≤ x.toInt) (h2 : x.toInt < n) : x.toNatClampNeg < n ∧ ((x.toNatClampNeg : Nat) : Int) = x.toInt ∧ vp_in x n := by
  have e : x.toNatClampNeg = x.toInt.toNat := rfl
  exact ⟨by rw [e]; omega, by rw [e]; omega, zvin (j := x.toInt.toNat) (by omega) (by omega)⟩
theorem qh_caload (hC : qCx p s m args meth c cc nL own D kk A g t)  (hd : decode cc pc = .ok (.caload, 1)) (hs : qs_cald (qWn p l e R s m args below meth c Q D kk A g ad nL nc ns (pc + 1)) ls st μ) : qWn p l e R s m args below meth c Q D kk A g ad nL nc ns pc ls st μ := by
  unfold qs_cald at hs
  split at hs
  · rename_i i0 c0 st0
    replace hs := qif_eq hs
    intro ar sv H locs ⟨ws, lv, hh, hl, hL, hF, hP, hD, hS⟩
    obtain ⟨vi, vs, rfl, ⟨x, rfl, rfl⟩, hF1⟩ := qVs_cons hF
    obtain ⟨vr, vs, rfl, ⟨q, hq, rfl, h0⟩, hF2⟩ := qVs_cons hF1
    obtain ⟨n, len, l0, rfl, hn, hal, hra⟩ := qty_arr (r := 2) hs.1 (by omega)
    obtain ⟨q1, e1, hw1, hc1⟩ := hh.2 _ _ hn
    have hq : ad[n]? = some q := hq
    cases qat_ad hh hq hw1
    rw [hal] at hs
    obtain ⟨hj, ej, hin⟩ := qix hs.2.1.1 hs.2.1.2
    rcases hc1 with ⟨h1, f, rfl, hf⟩ | ⟨h1, f, rfl, hf⟩ | ⟨h1, h1b, f, rfl, hf⟩
    · exact va_cald hC.1 hC.2.1 hC.2.2.2.2.2.1 hP _ 2 hw1 rfl hin hd (hs.2.2 ar _ H locs ⟨ws, lv, hh, hl, hL, ⟨⟨_, rfl, by rw [hf _ hj, ej]⟩, hF2⟩, hP, hD, hS⟩)
    · omega
    · omega
  · exact hs.elim
theorem qh_laload (hC : qCx p s m args meth c cc nL own D kk A g t)  (hd : decode cc pc = .ok (.laload, 1)) (hs : qs_lald (qWn p l e R s m args below meth c Q D kk A g ad nL nc ns (pc + 1)) ls st μ) : qWn p l e R s m args below meth c Q D kk A g ad nL nc ns pc ls st μ := by
  unfold qs_lald at hs
  split at hs
  · rename_i i0 c0 st0
    replace hs := qif_eq hs
    intro ar sv H locs ⟨ws, lv, hh, hl, hL, hF, hP, hD, hS⟩
    obtain ⟨vi, vs, rfl, ⟨x, rfl, rfl⟩, hF1⟩ := qVs_cons hF
    obtain ⟨vr, vs, rfl, ⟨q, hq, rfl, h0⟩, hF2⟩ := qVs_cons hF1
    obtain ⟨n, len, l0, rfl, hn, hal, hra⟩ := qty_arr (r := 4) hs.1 (by omega)
    obtain ⟨q1, e1, hw1, hc1⟩ := hh.2 _ _ hn
    have hq : ad[n]? = some q := hq
    cases qat_ad hh hq hw1
    rw [hal] at hs
    obtain ⟨hj, ej, hin⟩ := qix hs.2.1.1 hs.2.1.2
    rcases hc1 with ⟨h1, f, rfl, hf⟩ | ⟨h1, f, rfl, hf⟩ | ⟨h1, h1b, f, rfl, hf⟩
    · omega
    · exact va_lald hC.1 hC.2.1 hC.2.2.2.2.2.1 hP _ 4 hw1 rfl hin hd (hs.2.2 ar _ H locs ⟨ws, lv, hh, hl, hL, ⟨⟨_, rfl, by rw [hf _ hj, ej]⟩, hF2⟩, hP, hD, hS⟩)
    · omega
  · exact hs.elim
theorem qh_iaload (hC : qCx p s m args meth c cc nL own D kk A g t)  (hd : decode cc pc = .ok (.iaload, 1)) (hs : qs_iald t (qWn p l e R s m args below meth c Q D kk A g ad nL nc ns (pc + 1)) ls st μ) : qWn p l e R s m args below meth c Q D kk A g ad nL nc ns pc ls st μ := by
  unfold qs_iald at hs
  split at hs
  · rename_i i0 c0 st0
    replace hs := qif_eq hs
    intro ar sv H locs ⟨ws, lv, hh, hl, hL, hF, hP, hD, hS⟩
    obtain ⟨vi, vs, rfl, ⟨x, rfl, rfl⟩, hF1⟩ := qVs_cons hF
    obtain ⟨vr, vs, rfl, ⟨q, hq, rfl, h0⟩, hF2⟩ := qVs_cons hF1
    obtain ⟨n, len, l0, rfl, hn, hal, hra⟩ := qty_arr (r := 0) hs.1 (by omega)
    obtain ⟨q1, e1, hw1, hc1⟩ := hh.2 _ _ hn
    have hq : ad[n]? = some q := hq
    cases qat_ad hh hq hw1
    rw [hal] at hs
    obtain ⟨hj, ej, hin⟩ := qix hs.2.1.1 hs.2.1.2
    rcases hc1 with ⟨h1, f, rfl, hf⟩ | ⟨h1, f, rfl, hf⟩ | ⟨h1, h1b, f, rfl, hf⟩
    · exact va_iald hC.1 hC.2.1 hC.2.2.2.2.2.1 hP _ 0 hw1 rfl hin hd (hs.2.2 ar _ H locs ⟨ws, lv, hh, hl, hL, ⟨⟨_, rfl, by rw [hf _ hj, ej]⟩, hF2⟩, hP, hD, hS⟩)
    · omega
    · omega
  · rename_i i0 st0
    split at hs
    · rename_i tt
      intro ar sv H locs ⟨ws, lv, hh, hl, hL, hF, hP, hD, hS⟩
      obtain ⟨vi, vs, rfl, ⟨x, rfl, rfl⟩, hF1⟩ := qVs_cons hF
      obtain ⟨vr, vs, rfl, hV, hF2⟩ := qVs_cons hF1
      rcases hV with ⟨h1, -⟩ | ⟨-, rfl⟩
      · cases h1
      · obtain ⟨L, xs, eL, hLb, hxs, hX, hbl, hbA⟩ := hC.2.2.2.2.2.2.2.2 tt rfl
        rw [eL] at hs
        obtain ⟨hj, ej, hin⟩ := qix hs.1.1 hs.1.2
        exact va_sld hC.1 hC.2.1 hX hbl hbA hS hin hd (hs.2 ar _ H locs ⟨ws, lv, hh, hl, hL, ⟨⟨_, rfl, by rw [← hxs _ hj, ej]⟩, hF2⟩, hP, hD, hS⟩)
    · exact hs.elim
  · rename_i i0 st0
    intro ar sv H locs ⟨ws, lv, hh, hl, hL, hF, hP, hD, hS⟩
    obtain ⟨vi, vs, rfl, ⟨x, rfl, rfl⟩, hF1⟩ := qVs_cons hF
    obtain ⟨vr, vs, rfl, hV, hF2⟩ := qVs_cons hF1
    rcases hV with ⟨h1, -⟩ | ⟨-, rfl⟩
    · cases h1
    · obtain ⟨hj, ej, hin⟩ := qix (n := 8) hs.1.1 hs.1.2
      obtain ⟨-, hX1, hX2, -⟩ := hC.2.2.2.2.2.2.2.1
      exact va_ti hC.1 hC.2.1 hX1.2 hS hin rfl hd (hs.2 ar _ H locs ⟨ws, lv, hh, hl, hL, ⟨⟨_, rfl, ztb_rng 0 (Or.inl rfl) hj⟩, hF2⟩, hP, hD, hS⟩)
  · rename_i i0 st0
    intro ar sv H locs ⟨ws, lv, hh, hl, hL, hF, hP, hD, hS⟩
    obtain ⟨vi, vs, rfl, ⟨x, rfl, rfl⟩, hF1⟩ := qVs_cons hF
    obtain ⟨vr, vs, rfl, hV, hF2⟩ := qVs_cons hF1
    rcases hV with ⟨h1, -⟩ | ⟨-, rfl⟩
    · cases h1
    · obtain ⟨hj, ej, hin⟩ := qix (n := 8) hs.1.1 hs.1.2
      obtain ⟨-, hX1, hX2, -⟩ := hC.2.2.2.2.2.2.2.1
      exact va_ti hC.1 hC.2.1 hX2.2 hS hin rfl hd (hs.2 ar _ H locs ⟨ws, lv, hh, hl, hL, ⟨⟨_, rfl, ztb_rng 1 (Or.inr rfl) hj⟩, hF2⟩, hP, hD, hS⟩)
  · exact hs.elim
theorem qlen_ok : ∀ i, i < 6 → qlen.getD i 0 = (qsl.getD i []).length := by decide
theorem qlen_le : ∀ i, i < 6 → (qsl.getD i []).length ≤ 4 := by decide
theorem qh_baload (hC : qCx p s m args meth c cc nL own D kk A g t)  (hd : decode cc pc = .ok (.baload, 1)) (hs : qs_bald (qWn p l e R s m args below meth c Q D kk A g ad nL nc ns (pc + 1)) ls st μ) : qWn p l e R s m args below meth c Q D kk A g ad nL nc ns pc ls st μ := by
  unfold qs_bald at hs
  split at hs
  · rename_i i0 c0 st0
    obtain ⟨hk, hs⟩ := qif_ok hs
    rw [Bool.or_eq_true] at hk
    intro ar sv H locs ⟨ws, lv, hh, hl, hL, hF, hP, hD, hS⟩
    obtain ⟨vi, vs, rfl, ⟨x, rfl, rfl⟩, hF1⟩ := qVs_cons hF
    obtain ⟨vr, vs, rfl, ⟨q, hq, rfl, h0⟩, hF2⟩ := qVs_cons hF1
    rcases hk with hk | hk
    · obtain ⟨n, len, l0, rfl, hn, hal, hra⟩ := qty_arr (r := 1) (Nat.eq_of_beq_eq_true hk) (by omega)
      obtain ⟨q1, e1, hw1, hc1⟩ := hh.2 _ _ hn
      have hq : ad[n]? = some q := hq
      cases qat_ad hh hq hw1
      rw [hal] at hs
      obtain ⟨hj, ej, hin⟩ := qix hs.1.1 hs.1.2
      rcases hc1 with ⟨h1, f, rfl, hf⟩ | ⟨h1, f, rfl, hf⟩ | ⟨h1, h1b, f, rfl, hf⟩
      · exact va_bald hC.1 hC.2.1 hC.2.2.2.2.2.1 hP _ 1 hw1 rfl hin hd (hs.2 ar _ H locs ⟨ws, lv, hh, hl, hL, ⟨⟨_, rfl, by rw [hf _ hj, ej]⟩, hF2⟩, hP, hD, hS⟩)
      · omega
      · omega
    · obtain ⟨n, len, l0, rfl, hn, hal, hra⟩ := qty_arr (r := 3) (Nat.eq_of_beq_eq_true hk) (by omega)
      obtain ⟨q1, e1, hw1, hc1⟩ := hh.2 _ _ hn
      have hq : ad[n]? = some q := hq
      cases qat_ad hh hq hw1
      rw [hal] at hs
      obtain ⟨hj, ej, hin⟩ := qix hs.1.1 hs.1.2
      rcases hc1 with ⟨h1, f, rfl, hf⟩ | ⟨h1, f, rfl, hf⟩ | ⟨h1, h1b, f, rfl, hf⟩
      · exact va_zald hC.1 hC.2.1 hC.2.2.2.2.2.1 hP _ 3 hw1 rfl hin hd (hs.2 ar _ H locs ⟨ws, lv, hh, hl, hL, ⟨⟨_, rfl, by rw [hf _ hj, ej]⟩, hF2⟩, hP, hD, hS⟩)
      · omega
      · omega
  · rename_i i0 k0 st0
    intro ar sv H locs ⟨ws, lv, hh, hl, hL, hF, hP, hD, hS⟩
    obtain ⟨vi, vs, rfl, ⟨x, rfl, rfl⟩, hF1⟩ := qVs_cons hF
    obtain ⟨vr, vs, rfl, hV, hF2⟩ := qVs_cons hF1
    rcases hV with ⟨h1, -⟩ | ⟨-, rfl⟩
    · omega
    · obtain ⟨i9, rfl⟩ : ∃ i9, k0 = 20 + i9 := ⟨k0 - 20, by omega⟩
      have hi9 : i9 < 6 := by omega
      rw [show 20 + i9 - 20 = i9 by omega] at hs
      have hSt := hC.2.2.2.2.2.2.2.1.2.2.2.2.2.1.1 i9 hi9
      obtain ⟨hj, ej, hin⟩ := qix hs.2.1.1 hs.2.1.2
      have hT := hSt.2.2.2
      rw [qlen_ok i9 hi9] at hT
      exact va_tb hC.1 hC.2.1 hT hS hin rfl hd (hs.2.2 ar _ H locs ⟨ws, lv, hh, hl, hL, ⟨⟨_, rfl, rfl⟩, hF2⟩, hP, hD, hS⟩)
  · exact hs.elim
theorem qh_aaload (hC : qCx p s m args meth c cc nL own D kk A g t)  (hd : decode cc pc = .ok (.aaload, 1)) (hs : qs_aald (qWn p l e R s m args below meth c Q D kk A g ad nL nc ns (pc + 1)) ls st μ) : qWn p l e R s m args below meth c Q D kk A g ad nL nc ns pc ls st μ := by
  unfold qs_aald at hs
  split at hs
  · rename_i i0 c0 st0
    obtain ⟨hk, hs⟩ := qif_ok hs
    rw [Bool.and_eq_true] at hk
    have hk1 : 105 ≤ qty c0 := Nat.le_of_ble_eq_true hk.1
    have hk2 : qty c0 ≤ 107 := Nat.le_of_ble_eq_true hk.2
    replace hs := And.intro hk1 hs
    intro ar sv H locs ⟨ws, lv, hh, hl, hL, hF, hP, hD, hS⟩
    obtain ⟨vi, vs, rfl, ⟨x, rfl, rfl⟩, hF1⟩ := qVs_cons hF
    obtain ⟨vr, vs, rfl, ⟨q, hq, rfl, h0⟩, hF2⟩ := qVs_cons hF1
    obtain ⟨k9, hk9⟩ : ∃ k9, qty c0 = 100 + k9 := ⟨qty c0 - 100, by omega⟩
    obtain ⟨n, len, l0, rfl, hn, hal, hra⟩ := qty_arr hk9 (by omega)
    obtain ⟨q1, e1, hw1, hc1⟩ := hh.2 _ _ hn
    have hq : ad[n]? = some q := hq
    cases qat_ad hh hq hw1
    rw [hal] at hs
    obtain ⟨hj, ej, hin⟩ := qix hs.2.1.1 hs.2.1.2
    rcases hc1 with ⟨h1, f, rfl, hf⟩ | ⟨h1, f, rfl, hf⟩ | ⟨h1, h1b, f, rfl, hf⟩
    · omega
    · omega
    · obtain ⟨ty, hAr, hrt⟩ : ∃ ty : FieldType, ArrOfT s (kk k9) ty ∧ ty.isReference = true := by
        rcases (show k9 = 5 ∨ k9 = 6 ∨ k9 = 7 by omega) with rfl | rfl | rfl
        · exact ⟨_, (hC.2.2.2.2.2.1.2 5 _ rfl).1, rfl⟩
        · exact ⟨_, (hC.2.2.2.2.2.1.2 6 _ rfl).1, rfl⟩
        · exact ⟨_, (hC.2.2.2.2.2.1.2 7 _ rfl).1, rfl⟩
      obtain ⟨q9, hq9, hf9⟩ := hf _ hj
      have eT : x.toInt.toNat = x.toNatClampNeg := rfl
      refine za_ald hC.1 hC.2.1 hAr hrt hP _ hw1 hin hd (hs.2.2 ar _ H locs ⟨ws, lv, hh, hl, hL, ⟨⟨q9, ?_, by rw [hf9]; rfl, ?_⟩, hF2⟩, hP, hD, hS⟩)
      · rw [hra, eT]
        exact hq9
      · rw [hra]
        omega
  · exact hs.elim
theorem qupd {f : Nat → Int32} {n i : Nat} {x : Int32} {z : Int32} (hf : ∀ j : Nat, j < n → (f j).toInt = μ i j) (hx : ((x.toNatClampNeg : Nat) : Int) = x.toInt) : ∀ j : Nat, j < n → (upd f x.toNatClampNeg z j).toInt = qu μ i x.toInt z.toInt i j := fun j hj => by
  rw [zupd]
  by_cases e9 : j = x.toNatClampNeg
  · rw [if_pos e9, e9, hx, qu_same]
  · rw [if_neg e9, qu_ne (fun q => e9 (by omega))]
    exact hf j hj
theorem qupdL {f : Nat → Int64} {n i : Nat} {x : Int32} {z : Int64} (hf : ∀ j : Nat, j < n → (f j).toInt = μ i j) (hx : ((x.toNatClampNeg : Nat) : Int) = x.toInt) : ∀ j : Nat, j < n → (vp_updL f x.toNatClampNeg z j).toInt = qu μ i x.toInt z.toInt i j := fun j hj => by
  unfold vp_updL
  by_cases e9 : j = x.toNatClampNeg
  · rw [if_pos e9, e9, hx, qu_same]
  · rw [if_neg e9, qu_ne (fun q => e9 (by omega))]
    exact hf j hj
theorem qnar_b {x : Int32} (h1 : -128 ≤ x.toInt) (h2 : x.toInt ≤ 127) : vp_nar .byte x = x := fa_i2b h1 h2
theorem qnar_c {x : Int32} (h1 : 0 ≤ x.toInt) (h2 : x.toInt ≤ 65535) : vp_nar .char x = x := fa_i2c h1 h2
theorem qnar_z {x : Int32} (h1 : 0 ≤ x.toInt) (h2 : x.toInt ≤ 1) : vp_nar .boolean x = x := by
  rcases qbool h1 h2 with rfl | rfl
  · rfl
  · rfl
theorem qh_iastore (hC : qCx p s m args meth c cc nL own D kk A g t)  (hd : decode cc pc = .ok (.iastore, 1)) (hs : qs_iast (qWn p l e R s m args below meth c Q D kk A g ad nL nc ns (pc + 1)) ls st μ) : qWn p l e R s m args below meth c Q D kk A g ad nL nc ns pc ls st μ := by
  unfold qs_iast at hs
  split at hs
  · rename_i v0 i0 c0 st0
    replace hs := qif_eq hs
    intro ar sv H locs ⟨ws, lv, hh, hl, hL, hF, hP, hD, hS⟩
    obtain ⟨vv, vs, rfl, ⟨y, rfl, rfl⟩, hF0⟩ := qVs_cons hF
    obtain ⟨vi, vs, rfl, ⟨x, rfl, rfl⟩, hF1⟩ := qVs_cons hF0
    obtain ⟨vr, vs, rfl, ⟨q, hq, rfl, h0⟩, hF2⟩ := qVs_cons hF1
    obtain ⟨n, len, l0, rfl, hn, hal, hra⟩ := qty_arr (r := 0) hs.1 (by omega)
    obtain ⟨q1, e1, hw1, hc1⟩ := hh.2 _ _ hn
    have hq : ad[n]? = some q := hq
    cases qat_ad hh hq hw1
    rw [hal] at hs
    obtain ⟨hj, ej, hin⟩ := qix hs.2.1.1 hs.2.1.2
    rcases hc1 with ⟨h1, f, rfl, hf⟩ | ⟨h1, f, rfl, hf⟩ | ⟨h1, h1b, f, rfl, hf⟩
    · exact va_iast hC.1 hC.2.1 hC.2.2.2.2.2.1 hP hD hS _ 0 hw1 rfl hin hd (fun H1 locs1 hP1 hD1 hS1 => hs.2.2 ar _ H1 locs1 ⟨_, lv, qHr_set hh hw1 hn (fun c hc j => qu_cell hc j) (Or.inl ⟨h1, _, rfl, qupd hf ej⟩), hl, hL, hF2, hP1, hD1, hS1⟩)
    · omega
    · omega
  · exact hs.elim
theorem qh_lastore (hC : qCx p s m args meth c cc nL own D kk A g t)  (hd : decode cc pc = .ok (.lastore, 1)) (hs : qs_last (qWn p l e R s m args below meth c Q D kk A g ad nL nc ns (pc + 1)) ls st μ) : qWn p l e R s m args below meth c Q D kk A g ad nL nc ns pc ls st μ := by
  unfold qs_last at hs
  split at hs
  · rename_i v0 i0 c0 st0
    replace hs := qif_eq hs
    intro ar sv H locs ⟨ws, lv, hh, hl, hL, hF, hP, hD, hS⟩
    obtain ⟨vv, vs, rfl, ⟨y, rfl, rfl⟩, hF0⟩ := qVs_cons hF
    obtain ⟨vi, vs, rfl, ⟨x, rfl, rfl⟩, hF1⟩ := qVs_cons hF0
    obtain ⟨vr, vs, rfl, ⟨q, hq, rfl, h0⟩, hF2⟩ := qVs_cons hF1
    obtain ⟨n, len, l0, rfl, hn, hal, hra⟩ := qty_arr (r := 4) hs.1 (by omega)
    obtain ⟨q1, e1, hw1, hc1⟩ := hh.2 _ _ hn
    have hq : ad[n]? = some q := hq
    cases qat_ad hh hq hw1
    rw [hal] at hs
    obtain ⟨hj, ej, hin⟩ := qix hs.2.1.1 hs.2.1.2
    rcases hc1 with ⟨h1, f, rfl, hf⟩ | ⟨h1, f, rfl, hf⟩ | ⟨h1, h1b, f, rfl, hf⟩
    · omega
    · exact va_last hC.1 hC.2.1 hC.2.2.2.2.2.1 hP hD hS _ 4 hw1 rfl hin hd (fun H1 locs1 hP1 hD1 hS1 => hs.2.2 ar _ H1 locs1 ⟨_, lv, qHr_set hh hw1 hn (fun c hc j => qu_cell hc j) (Or.inr (Or.inl ⟨h1, _, rfl, qupdL hf ej⟩)), hl, hL, hF2, hP1, hD1, hS1⟩)
    · omega
  · exact hs.elim
theorem qh_castore (hC : qCx p s m args meth c cc nL own D kk A g t)  (hd : decode cc pc = .ok (.castore, 1)) (hs : qs_cast (qWn p l e R s m args below meth c Q D kk A g ad nL nc ns (pc + 1)) ls st μ) : qWn p l e R s m args below meth c Q D kk A g ad nL nc ns pc ls st μ := by
  unfold qs_cast at hs
  split at hs
  · rename_i v0 i0 c0 st0
    replace hs := qif_eq hs
    replace hs := And.intro (And.intro hs.1 hs.2.1) hs.2.2
    intro ar sv H locs ⟨ws, lv, hh, hl, hL, hF, hP, hD, hS⟩
    obtain ⟨vv, vs, rfl, ⟨y, rfl, rfl⟩, hF0⟩ := qVs_cons hF
    obtain ⟨vi, vs, rfl, ⟨x, rfl, rfl⟩, hF1⟩ := qVs_cons hF0
    obtain ⟨vr, vs, rfl, ⟨q, hq, rfl, h0⟩, hF2⟩ := qVs_cons hF1
    obtain ⟨n, len, l0, rfl, hn, hal, hra⟩ := qty_arr (r := 2) hs.1.1 (by omega)
    obtain ⟨q1, e1, hw1, hc1⟩ := hh.2 _ _ hn
    have hq : ad[n]? = some q := hq
    cases qat_ad hh hq hw1
    rw [hal] at hs
    obtain ⟨hj, ej, hin⟩ := qix hs.2.1.1 hs.2.1.2
    rcases hc1 with ⟨h1, f, rfl, hf⟩ | ⟨h1, f, rfl, hf⟩ | ⟨h1, h1b, f, rfl, hf⟩
    · exact va_cast hC.1 hC.2.1 hC.2.2.2.2.2.1 hP hD hS _ 2 hw1 rfl hin hd (fun H1 locs1 hP1 hD1 hS1 => hs.2.2 ar _ H1 locs1 ⟨_, lv, qHr_set hh hw1 hn (fun c hc j => qu_cell hc j) (Or.inl ⟨h1, _, rfl, by rw [qnar_c hs.1.2.1 hs.1.2.2]; exact qupd hf ej⟩), hl, hL, hF2, hP1, hD1, hS1⟩)
    · omega
    · omega
  · exact hs.elim
theorem qh_bastore (hC : qCx p s m args meth c cc nL own D kk A g t)  (hd : decode cc pc = .ok (.bastore, 1)) (hs : qs_bast (qWn p l e R s m args below meth c Q D kk A g ad nL nc ns (pc + 1)) ls st μ) : qWn p l e R s m args below meth c Q D kk A g ad nL nc ns pc ls st μ := by
  unfold qs_bast at hs
  split at hs
  · rename_i v0 i0 c0 st0
    obtain ⟨hk0, hs⟩ := qif_ok hs
    rw [Bool.or_eq_true] at hk0
    have hk : (qty c0 = 101 ∧ -128 ≤ v0 ∧ v0 ≤ 127) ∨ (qty c0 = 103 ∧ 0 ≤ v0 ∧ v0 ≤ 1) := by
      have hr := hs.1
      cases hz : Nat.beq (qty c0) 101 with
      | true =>
        rw [hz] at hr
        exact Or.inl ⟨Nat.eq_of_beq_eq_true hz, hr⟩
      | false =>
        rw [hz] at hr hk0
        rcases hk0 with w | w
        · cases w
        · exact Or.inr ⟨Nat.eq_of_beq_eq_true w, hr⟩
    replace hs := hs.2
    intro ar sv H locs ⟨ws, lv, hh, hl, hL, hF, hP, hD, hS⟩
    obtain ⟨vv, vs, rfl, ⟨y, rfl, rfl⟩, hF0⟩ := qVs_cons hF
    obtain ⟨vi, vs, rfl, ⟨x, rfl, rfl⟩, hF1⟩ := qVs_cons hF0
    obtain ⟨vr, vs, rfl, ⟨q, hq, rfl, h0⟩, hF2⟩ := qVs_cons hF1
    rcases hk with hk | hk
    · obtain ⟨n, len, l0, rfl, hn, hal, hra⟩ := qty_arr (r := 1) hk.1 (by omega)
      obtain ⟨q1, e1, hw1, hc1⟩ := hh.2 _ _ hn
      have hq : ad[n]? = some q := hq
      cases qat_ad hh hq hw1
      rw [hal] at hs
      obtain ⟨hj, ej, hin⟩ := qix hs.1.1 hs.1.2
      rcases hc1 with ⟨h1, f, rfl, hf⟩ | ⟨h1, f, rfl, hf⟩ | ⟨h1, h1b, f, rfl, hf⟩
      · exact va_bast hC.1 hC.2.1 hC.2.2.2.2.2.1 hP hD hS _ 1 hw1 rfl hin hd (fun H1 locs1 hP1 hD1 hS1 => hs.2 ar _ H1 locs1 ⟨_, lv, qHr_set hh hw1 hn (fun c hc j => qu_cell hc j) (Or.inl ⟨h1, _, rfl, by rw [qnar_b hk.2.1 hk.2.2]; exact qupd hf ej⟩), hl, hL, hF2, hP1, hD1, hS1⟩)
      · omega
      · omega
    · obtain ⟨n, len, l0, rfl, hn, hal, hra⟩ := qty_arr (r := 3) hk.1 (by omega)
      obtain ⟨q1, e1, hw1, hc1⟩ := hh.2 _ _ hn
      have hq : ad[n]? = some q := hq
      cases qat_ad hh hq hw1
      rw [hal] at hs
      obtain ⟨hj, ej, hin⟩ := qix hs.1.1 hs.1.2
      rcases hc1 with ⟨h1, f, rfl, hf⟩ | ⟨h1, f, rfl, hf⟩ | ⟨h1, h1b, f, rfl, hf⟩
      · exact va_zast hC.1 hC.2.1 hC.2.2.2.2.2.1 hP hD hS _ 3 hw1 rfl hin hd (fun H1 locs1 hP1 hD1 hS1 => hs.2 ar _ H1 locs1 ⟨_, lv, qHr_set hh hw1 hn (fun c hc j => qu_cell hc j) (Or.inl ⟨h1, _, rfl, by rw [qnar_z hk.2.1 hk.2.2]; exact qupd hf ej⟩), hl, hL, hF2, hP1, hD1, hS1⟩)
      · omega
      · omega
  · exact hs.elim
theorem qsh_alen {n r len : Nat} {l0 : List Nat} (h : qsh[n]? = some (.inr (r, len, l0))) : len ≤ 1000000 := by
  have h1 : ∀ y ∈ qsh, (match y with
    | .inl _ => true
    | .inr x => decide (x.2.1 ≤ 1000000)) = true := by decide +kernel
  exact of_decide_eq_true (h1 _ (List.mem_of_getElem? h))
theorem qh_alen (hC : qCx p s m args meth c cc nL own D kk A g t)  (hd : decode cc pc = .ok (.arraylength, 1)) (hs : qs_alen t (qWn p l e R s m args below meth c Q D kk A g ad nL nc ns (pc + 1)) ls st μ) : qWn p l e R s m args below meth c Q D kk A g ad nL nc ns pc ls st μ := by
  unfold qs_alen at hs
  split at hs
  · rename_i c0 st0
    obtain ⟨hk, hs⟩ := qif_ok hs
    rw [Bool.and_eq_true] at hk
    have hk1 : 100 ≤ qty c0 := Nat.le_of_ble_eq_true hk.1
    have hk2 : qty c0 ≤ 107 := Nat.le_of_ble_eq_true hk.2
    replace hs := And.intro hk1 hs
    intro ar sv H locs ⟨ws, lv, hh, hl, hL, hF, hP, hD, hS⟩
    obtain ⟨vr, vs, rfl, ⟨q, hq, rfl, h0⟩, hF1⟩ := qVs_cons hF
    obtain ⟨k9, hk9⟩ : ∃ k9, qty c0 = 100 + k9 := ⟨qty c0 - 100, by omega⟩
    obtain ⟨n, len, l0, rfl, hn, hal, hra⟩ := qty_arr hk9 (by omega)
    obtain ⟨q1, e1, hw1, hc1⟩ := hh.2 _ _ hn
    have hq : ad[n]? = some q := hq
    cases qat_ad hh hq hw1
    have hlen : len ≤ 1000000 := qsh_alen hn
    have hv9 : (Int32.ofNat len).toInt = len := nI_toInt (by omega)
    have hty : ∀ k, k ≤ 7 → ∃ ty, (zKs kk)[k]? = some (kk k, ty) := fun k hk => by
      rcases (show k = 0 ∨ k = 1 ∨ k = 2 ∨ k = 3 ∨ k = 4 ∨ k = 5 ∨ k = 6 ∨ k = 7 by omega) with rfl | rfl | rfl | rfl | rfl | rfl | rfl | rfl <;> exact ⟨_, rfl⟩
    obtain ⟨ty, hty⟩ := hty k9 (by omega)
    rcases hc1 with ⟨h1, f, rfl, hf⟩ | ⟨h1, f, rfl, hf⟩ | ⟨h1, h1b, f, rfl, hf⟩
    · exact va_alen hC.1 hC.2.1 hC.2.2.2.2.2.1 hP _ k9 hw1 hty rfl hd (hs.2 ar _ H locs ⟨ws, lv, hh, hl, hL, ⟨⟨_, rfl, by rw [hal]; exact hv9⟩, hF1⟩, hP, hD, hS⟩)
    · exact va_alen hC.1 hC.2.1 hC.2.2.2.2.2.1 hP _ k9 hw1 hty rfl hd (hs.2 ar _ H locs ⟨ws, lv, hh, hl, hL, ⟨⟨_, rfl, by rw [hal]; exact hv9⟩, hF1⟩, hP, hD, hS⟩)
    · exact va_alen hC.1 hC.2.1 hC.2.2.2.2.2.1 hP _ k9 hw1 hty rfl hd (hs.2 ar _ H locs ⟨ws, lv, hh, hl, hL, ⟨⟨_, rfl, by rw [hal]; exact hv9⟩, hF1⟩, hP, hD, hS⟩)
  · rename_i k0 st0
    rcases hs with ⟨rfl, hs⟩ | ⟨hk, hs⟩
    · split at hs
      · rename_i tt
        intro ar sv H locs ⟨ws, lv, hh, hl, hL, hF, hP, hD, hS⟩
        obtain ⟨vr, vs, rfl, hV, hF1⟩ := qVs_cons hF
        rcases hV with ⟨h1, -⟩ | ⟨-, rfl⟩
        · cases h1
        · obtain ⟨L, xs, eL, hLb, hxs, hX, hbl, hbA⟩ := hC.2.2.2.2.2.2.2.2 tt rfl
          exact va_slen hC.1 hC.2.1 hX hbl hbA hS hd (hs ar _ H locs ⟨ws, lv, hh, hl, hL, ⟨⟨_, rfl, by rw [eL]; exact nI_toInt (by omega)⟩, hF1⟩, hP, hD, hS⟩)
      · exact hs.elim
    · intro ar sv H locs ⟨ws, lv, hh, hl, hL, hF, hP, hD, hS⟩
      obtain ⟨vr, vs, rfl, hV, hF1⟩ := qVs_cons hF
      rcases hV with ⟨h1, -⟩ | ⟨-, rfl⟩
      · omega
      · obtain ⟨i9, rfl⟩ : ∃ i9, k0 = 20 + i9 := ⟨k0 - 20, by omega⟩
        have hi9 : i9 < 6 := by omega
        rw [show 20 + i9 - 20 = i9 by omega] at hs
        have hSt := hC.2.2.2.2.2.2.2.1.2.2.2.2.2.1.1 i9 hi9
        have hT := hSt.2.2.2
        rw [qlen_ok i9 hi9] at hT
        have := qlen_le i9 hi9
        exact va_tlen hC.1 hC.2.1 hT hS rfl hd (hs ar _ H locs ⟨ws, lv, hh, hl, hL, ⟨⟨_, rfl, nI_toInt (by omega)⟩, hF1⟩, hP, hD, hS⟩)
  · exact hs.elim
theorem qh_copy (hC : qCx p s m args meth c cc nL own D kk A g t) {i : Nat} (hw1 : Jvm.Cond.methodLink own i arraycopyName ∈ zW) (hw2 : Jvm.Cond.native arraycopyName ∈ zW) (hw3 : Jvm.Cond.static arraycopyName ∈ zW) (hw4 : Jvm.Cond.initialized "java/lang/System" ∈ zW) (hRf : 1 ≤ R.frames) (hRl : 60 ≤ R.locals) (hd : decode cc pc = .ok (.invokestatic i, 3)) (hs : qs_copy (qWn p l e R s m args below meth c Q D kk A g ad nL nc ns (pc + 3)) ls st μ) : qWn p l e R s m args below meth c Q D kk A g ad nL nc ns pc ls st μ := by
  unfold qs_copy at hs
  split at hs
  · rename_i n0 dp r0 sp q0
    obtain ⟨hk0, hs8⟩ := qif_ok hs
    rw [Bool.and_eq_true] at hk0
    have hk1 := Nat.eq_of_beq_eq_true hk0.1
    have hk2 := Nat.eq_of_beq_eq_true hk0.2
    obtain ⟨⟨⟨hn1, hn2⟩, hdp, hsp⟩, hs9⟩ := hs8
    intro ar sv H locs ⟨ws, lv, hh, hl, hL, hF, hP, hD, hS⟩
    obtain ⟨v1, vs, rfl, ⟨x, rfl, rfl⟩, hF1⟩ := qVs_cons hF
    obtain ⟨v2, vs, rfl, ⟨y, rfl, rfl⟩, hF2⟩ := qVs_cons hF1
    obtain ⟨v3, vs, rfl, ⟨q3, hq3, rfl, h03⟩, hF3⟩ := qVs_cons hF2
    obtain ⟨v4, vs, rfl, ⟨w, rfl, rfl⟩, hF4⟩ := qVs_cons hF3
    obtain ⟨v5, vs, rfl, ⟨q5, hq5, rfl, h05⟩, hF5⟩ := qVs_cons hF4
    have e7 := qVs_nil hF5
    subst e7
    obtain ⟨na, la, l1, rfl, hna, hala, -⟩ := qty_arr (r := 0) hk1 (by omega)
    obtain ⟨nb, lb, l2, rfl, hnb, halb, -⟩ := qty_arr (r := 0) hk2 (by omega)
    obtain ⟨a1, ee1, hwa, hca⟩ := hh.2 _ _ hna
    obtain ⟨a2, ee2, hwb, hcb⟩ := hh.2 _ _ hnb
    have hq5 : ad[na]? = some q5 := hq5
    have hq3 : ad[nb]? = some q3 := hq3
    cases qat_ad hh hq5 hwa
    cases qat_ad hh hq3 hwb
    have hla : la ≤ 1000000 := qsh_alen hna
    rw [hala] at hn1 hn2
    rw [halb] at hn2
    have eLab : lb = la := by omega
    subst eLab
    have z0 : (0 : Int32).toInt = 0 := rfl
    rcases hca with ⟨h3, f, rfl, hf⟩ | ⟨h3, f, rfl, hf⟩ | ⟨h3, h3b, f, rfl, hf⟩
    · rcases hcb with ⟨h4, f2, rfl, hf2⟩ | ⟨h4, f2, rfl, hf2⟩ | ⟨h4, h4b, f2, rfl, hf2⟩
      · have cx : x.toNatClampNeg = lb := zclamp hn1
        have cy : y.toNatClampNeg = 0 := zclamp (j := 0) hdp
        have cw : w.toNatClampNeg = 0 := zclamp (j := 0) hsp
        refine va_copyi hC.1 hC.2.1 (by rw [hC.2.2.1]; exact hl.1.symm) hC.2.2.2.1 (hC.2.2.2.2.1 _ hw1) (hC.2.2.2.2.1 _ hw2) (hC.2.2.2.2.1 _ hw3) (hC.2.2.2.2.1 _ hw4) hC.2.2.2.2.2.1 hP hD hS _ _ 0 0 hwa hwb rfl rfl rfl (fun h9 => by have := (fa_lt _ _).mp h9; omega) (fun h9 => by have := (fa_lt _ _).mp h9; omega) (fun h9 => by have := (fa_lt _ _).mp h9; omega) (by rw [cx, cw]; omega) (by rw [cx, cy]; omega) (fun _ _ => rfl) hRf (Nat.le_trans (by decide) hRl) hd (fun H1 locs1 hP1 hD1 hS1 => hs9 ar [] H1 locs1 ⟨_, lv, qHr_set (μ' := qcp μ na nb) hh hwb hnb (fun c hc j => ?_) (Or.inl ⟨h4, _, rfl, fun j hj => ?_⟩), hl, hL, trivial, hP1, hD1, hS1⟩)
        · unfold qcp
          rw [if_neg hc]
        · rw [cx, cy, cw, pk_cpy_in (by omega) (by omega)]
          unfold qcp
          rw [if_pos rfl, show 0 + (j - 0) = j by omega]
          exact hf j hj
      · omega
      · omega
    · omega
    · omega
  · exact hs.elim
theorem qh_mmax (hC : qCx p s m args meth c cc nL own D kk A g t) {i : Nat} (hw1 : Jvm.Cond.methodLink own i Lib.Math.max.name ∈ zW) (hw2 : Jvm.Cond.static Lib.Math.max.name ∈ zW) (hw3 : Jvm.Cond.initialized "java/lang/Math" ∈ zW) (hw4 : Jvm.Cond.code Lib.Math.max.name Lib.Math.max.code 2 (some .int) ∈ zW) (hRf : 1 ≤ R.frames) (hRl : 60 ≤ R.locals) (hr1 : nc ≤ R.cells) (hr2 : ns ≤ R.slots) (hd : decode cc pc = .ok (.invokestatic i, 3)) (hs : qs_mm qmax (qWn p l e R s m args below meth c Q D kk A g ad nL nc ns (pc + 3)) ls st μ) : qWn p l e R s m args below meth c Q D kk A g ad nL nc ns pc ls st μ := by
  unfold qs_mm at hs
  split at hs
  · rename_i b0 a0 st0
    replace hs := qif_ok hs
    intro ar sv H locs ⟨ws, lv, hh, hl, hL, hF, hP, hD, hS⟩
    obtain ⟨v2, vs, rfl, ⟨y, rfl, rfl⟩, hF1⟩ := qVs_cons hF
    obtain ⟨v1, vs, rfl, ⟨x, rfl, rfl⟩, hF2⟩ := qVs_cons hF1
    have hsum := qle4_sum hs.1 hF2
    have hv : (if x < y then y else x : Int32).toInt = qmax x.toInt y.toInt := by
      unfold qmax
      by_cases hc : x < y
      · have := (fa_lt _ _).mp hc
        rw [if_pos hc, if_pos this]
      · have : ¬ x.toInt < y.toInt := fun q => hc ((fa_lt _ _).mpr q)
        rw [if_neg hc, if_neg this]
    exact va_mmax hC.1 hC.2.1 (by rw [hC.2.2.1]; exact hl.1.symm) hC.2.2.2.1 (hC.2.2.2.2.1 _ hw1) (hC.2.2.2.2.1 _ hw2) (hC.2.2.2.2.1 _ hw3) (hC.2.2.2.2.1 _ hw4) hRf (by omega) hr1 hr2 hd (hs.2 ar _ H locs ⟨ws, lv, hh, hl, hL, ⟨⟨_, rfl, hv⟩, hF2⟩, hP, hD, hS⟩)
  · exact hs.elim
theorem qh_mmin (hC : qCx p s m args meth c cc nL own D kk A g t) {i : Nat} (hw1 : Jvm.Cond.methodLink own i Lib.Math.min.name ∈ zW) (hw2 : Jvm.Cond.static Lib.Math.min.name ∈ zW) (hw3 : Jvm.Cond.initialized "java/lang/Math" ∈ zW) (hw4 : Jvm.Cond.code Lib.Math.min.name Lib.Math.min.code 2 (some .int) ∈ zW) (hRf : 1 ≤ R.frames) (hRl : 60 ≤ R.locals) (hr1 : nc ≤ R.cells) (hr2 : ns ≤ R.slots) (hd : decode cc pc = .ok (.invokestatic i, 3)) (hs : qs_mm qmin (qWn p l e R s m args below meth c Q D kk A g ad nL nc ns (pc + 3)) ls st μ) : qWn p l e R s m args below meth c Q D kk A g ad nL nc ns pc ls st μ := by
  unfold qs_mm at hs
  split at hs
  · rename_i b0 a0 st0
    replace hs := qif_ok hs
    intro ar sv H locs ⟨ws, lv, hh, hl, hL, hF, hP, hD, hS⟩
    obtain ⟨v2, vs, rfl, ⟨y, rfl, rfl⟩, hF1⟩ := qVs_cons hF
    obtain ⟨v1, vs, rfl, ⟨x, rfl, rfl⟩, hF2⟩ := qVs_cons hF1
    have hsum := qle4_sum hs.1 hF2
    have hv : (if y < x then y else x : Int32).toInt = qmin x.toInt y.toInt := by
      unfold qmin
      by_cases hc : y < x
      · have := (fa_lt _ _).mp hc
        rw [if_pos hc, if_pos this]
      · have : ¬ y.toInt < x.toInt := fun q => hc ((fa_lt _ _).mpr q)
        rw [if_neg hc, if_neg this]
    exact va_mmin hC.1 hC.2.1 (by rw [hC.2.2.1]; exact hl.1.symm) hC.2.2.2.1 (hC.2.2.2.2.1 _ hw1) (hC.2.2.2.2.1 _ hw2) (hC.2.2.2.2.1 _ hw3) (hC.2.2.2.2.1 _ hw4) hRf (by omega) hr1 hr2 hd (hs.2 ar _ H locs ⟨ws, lv, hh, hl, hL, ⟨⟨_, rfl, hv⟩, hF2⟩, hP, hD, hS⟩)
  · exact hs.elim
end QA
