section ZX
variable {p : Program} {l : Launch} {e : Env} {R : Room} {s : State} {m : MethodId} {args : Array Value} {below : List Frame} {meth : Method} {c : Code} {Q : State → Prop} {D : va_G} {kk : Nat → ClassId} {A : Nat → Prop} {g : zG} {ad0 : List Nat} {nL n0 m0 : Nat} {cc : ByteArray} {own : String} {ini top : Bool} {E : zE} {pc : Nat} {al al' : zL} {st st' : List zA} {h h' : zH}
theorem zsk_mem {t k : Nat} {b : Bool} {cd tl : List zI} (h : ∀ x ∈ tl, x ∈ cd) : ∀ x ∈ zsk t b k cd tl, x ∈ cd := fun x hx => by
  unfold zsk at hx
  cases b with
  | true => exact h x (List.mem_of_mem_drop hx)
  | false =>
    cases hz : Nat.beq k 0 with
    | true =>
      rw [hz] at hx
      exact (List.dropWhile_sublist _).subset hx
    | false =>
      rw [hz] at hx
      exact List.mem_of_mem_drop hx
theorem zmo_ok {h1 : zH} (e9 : zmo h h1 = true) : h.1.1 ≤ h1.1.1 ∧ h.1.2 ≤ h1.1.2 := by
  unfold zmo at e9
  rw [Bool.and_eq_true] at e9
  exact ⟨Nat.le_of_ble_eq_true e9.1, Nat.le_of_ble_eq_true e9.2⟩
set_option maxHeartbeats 4000000 in
theorem zrun_ok {cd : List zI} {call : Nat → List zA → zH → zO} {d : Nat} (hC : zCx p s m args meth c cc nL own D kk A g ini top) (hE : zEv g E) (hM : ∀ j M, zmt j = some M → zmB M = true ∧ zmV M = true) (hInit : ∀ j M, zmt j = some M → M.1.name = "<init>" → M.2.2.2.1 = none)
    (hfit : ∀ x ∈ cd, decode cc x.1 = .ok (x.2.1, x.2.2.1) ∧ zfB own nL ini x.2.2.1 x.2.2.2.1 x.2.2.2.2 x.1 x.2.1 = true) (hcall : ∀ j as h r h1, call j as h = .inl (r, h1) → zCo l g D kk d j as h r h1) (hRf : d + 1 ≤ R.frames) (hRl : 60 * d + 60 ≤ R.locals) {r : Option zA}
    (hret : ∀ (x : zI) (al : zL) (st : List zA), x ∈ cd → zisr x.2.1 = true → zsel x.1 x.2.2.2.1 x.2.2.2.2 x.2.1 E top al st h' = .inr (.inr (.inr (.inl r))) → zWn p l e R s m args below meth c Q D kk A g ad0 nL n0 m0 x.1 al st h') (hr1 : h'.1.1 - n0 ≤ R.cells) (hr2 : h'.1.2 - m0 ≤ R.slots) :
    ∀ (n : Nat) (rest : List zI) (pc : Nat) (al : zL) (st : List zA) (h : zH), (∀ x ∈ rest, x ∈ cd) → zrun E top cd call n rest pc al st h = .inl (r, h') → h.1.1 ≤ h'.1.1 ∧ h.1.2 ≤ h'.1.2 ∧ (n0 ≤ h.1.1 → m0 ≤ h.1.2 → zWn p l e R s m args below meth c Q D kk A g ad0 nL n0 m0 pc al st h) := by
  intro n
  induction n with
  | zero =>
    intro rest pc al st h _ e9
    replace e9 : (.inr (990, 0) : zO) = .inl (r, h') := e9
    cases e9
  | succ n ih =>
    intro rest pc al st h hmem e9
    replace e9 : zr1 E top cd call (zrun E top cd call n) rest pc al st h = .inl (r, h') := e9
    cases rest with
    | nil => cases e9
    | cons x tl =>
      replace e9 : (bif Nat.beq x.1 pc then zr2 cd call (zrun E top cd call n) x tl al h (zsel x.1 x.2.2.2.1 x.2.2.2.2 x.2.1 E top al st h) else .inr (993, 0)) = .inl (r, h') := e9
      have hx : x ∈ cd := hmem x List.mem_cons_self
      have htl : ∀ y ∈ tl, y ∈ cd := fun y hy => hmem y (List.mem_cons_of_mem _ hy)
      obtain ⟨hd, hb⟩ := hfit x hx
      cases hz : Nat.beq x.1 pc with
      | false => rw [hz] at e9; cases e9
      | true =>
        rw [hz] at e9
        have epc := Nat.eq_of_beq_eq_true hz
        subst epc
        replace e9 : zr2 cd call (zrun E top cd call n) x tl al h (zsel x.1 x.2.2.2.1 x.2.2.2.2 x.2.1 E top al st h) = .inl (r, h') := e9
        cases hsel : zsel x.1 x.2.2.2.1 x.2.2.2.2 x.2.1 E top al st h with
        | inl q =>
          rw [hsel] at e9
          obtain ⟨al1, st1, h1⟩ := q
          replace e9 : (bif zmo h h1 then zrun E top cd call n tl (x.1 + x.2.2.1) al1 st1 h1 else .inr (988, 0)) = .inl (r, h') := e9
          cases hmo : zmo h h1 with
          | false => rw [hmo] at e9; cases e9
          | true =>
            rw [hmo] at e9
            have hm := zmo_ok hmo
            obtain ⟨i1, i2, i3⟩ := ih tl (x.1 + x.2.2.1) al1 st1 h1 htl e9
            refine ⟨Nat.le_trans hm.1 i1, Nat.le_trans hm.2 i2, fun h0 h01 => ?_⟩
            exact zgo_ok hC hE hb hd (by omega) (by omega) h0 h01 (by omega) (by omega) hsel (i3 (by omega) (by omega))
        | inr q =>
          cases q with
          | inl q =>
            rw [hsel] at e9
            replace e9 : (bif zisj x.2.1 then zrun E top cd call n (zsk q.1 q.2.1 q.2.2.1 cd tl) q.1 al q.2.2.2 h else .inr (987, 0)) = .inl (r, h') := e9
            cases hj : zisj x.2.1 with
            | false => rw [hj] at e9; cases e9
            | true =>
              rw [hj] at e9
              obtain ⟨i1, i2, i3⟩ := ih (zsk q.1 q.2.1 q.2.2.1 cd tl) q.1 al q.2.2.2 h (zsk_mem htl) e9
              exact ⟨i1, i2, fun h0 h01 => zjp_ok hC hE hb hd hj hsel (i3 h0 h01)⟩
          | inr q =>
            cases q with
            | inl q =>
              rw [hsel] at e9
              replace e9 : (bif zisc x.2.1 && Nat.ble ((q.2.2.map zca).sum) 8 then zr3 (zrun E top cd call n) tl (x.1 + x.2.2.1) al q.2.2 h (call q.1 q.2.1 h) else .inr (994, 0)) = .inl (r, h') := e9
              cases hj : (zisc x.2.1 && Nat.ble ((q.2.2.map zca).sum) 8) with
              | false => rw [hj] at e9; cases e9
              | true =>
                rw [hj] at e9
                rw [Bool.and_eq_true] at hj
                replace e9 : zr3 (zrun E top cd call n) tl (x.1 + x.2.2.1) al q.2.2 h (call q.1 q.2.1 h) = .inl (r, h') := e9
                cases hcr : call q.1 q.2.1 h with
                | inr q2 => rw [hcr] at e9; cases e9
                | inl q2 =>
                  rw [hcr] at e9
                  replace e9 : (bif zmo h q2.2 then (match q2.1 with
                    | some v => zrun E top cd call n tl (x.1 + x.2.2.1) al (v :: q.2.2) q2.2
                    | none => zrun E top cd call n tl (x.1 + x.2.2.1) al q.2.2 q2.2) else .inr (989, 0)) = .inl (r, h') := e9
                  cases hmo : zmo h q2.2 with
                  | false => rw [hmo] at e9; cases e9
                  | true =>
                    rw [hmo] at e9
                    have hm := zmo_ok hmo
                    replace e9 : zrun E top cd call n tl (x.1 + x.2.2.1) al (zps q2.1 q.2.2) q2.2 = .inl (r, h') := by
                      cases hq2 : q2.1 with
                      | none => rw [hq2] at e9; exact e9
                      | some v => rw [hq2] at e9; exact e9
                    obtain ⟨i1, i2, i3⟩ := ih tl (x.1 + x.2.2.1) al (zps q2.1 q.2.2) q2.2 htl e9
                    refine ⟨Nat.le_trans hm.1 i1, Nat.le_trans hm.2 i2, fun h0 h01 => ?_⟩
                    exact zcall_ok hC hM hInit hb hd hj.1 hsel (Nat.le_of_ble_eq_true hj.2) (hcall _ _ _ _ _ hcr) hm.1 hm.2 hRf hRl h0 h01 (by omega) (by omega) (i3 (by omega) (by omega))
            | inr q =>
              cases q with
              | inl q =>
                rw [hsel] at e9
                replace e9 : (bif zisr x.2.1 then .inl (q, h) else .inr (986, 0)) = (.inl (r, h') : zO) := e9
                cases hj : zisr x.2.1 with
                | false => rw [hj] at e9; cases e9
                | true =>
                  rw [hj] at e9
                  cases e9
                  exact ⟨Nat.le_refl _, Nat.le_refl _, fun _ _ => hret x al st hx hj hsel⟩
              | inr q =>
                rw [hsel] at e9
                cases e9
theorem zent_ok {ad : List Nat} : ∀ {as : List zA} {As : List Value} (i : Nat), zVs g ad as As → zLs g ad (zent i as) (lv_args i As)
  | [], [], _, _ => trivial
  | [], _ :: _, _, h => h.elim
  | _ :: _, [], _, h => h.elim
  | a :: as, v :: vs, i, h => by
    have e9 : (if v.category = 2 then i + 2 else i + 1) = i + zca a := by
      rw [zV_cat h.1]
      unfold zca
      split
      · rfl
      · rfl
    refine ⟨⟨rfl, h.1⟩, ?_⟩
    show zLs g ad (zent (i + zca a) as) (lv_args (if v.category = 2 then i + 2 else i + 1) vs)
    rw [e9]
    exact zent_ok (i + zca a) h.2
theorem zsl_len {ad : List Nat} : ∀ {as : List zA} {As : List Value}, zVs g ad as As → (lg_sl As).length = (as.map zca).sum
  | [], [], _ => rfl
  | [], _ :: _, h => h.elim
  | _ :: _, [], h => h.elim
  | a :: as, v :: vs, h => by
    have e9 : lg_sl (v :: vs) = (if v.category = 2 then [.val v, .second] else [.val v]) ++ lg_sl vs := rfl
    rw [e9, List.length_append, zsl_len h.2, List.map_cons, List.sum_cons, zV_cat h.1]
    unfold zca
    split
    · rfl
    · rfl
/-- the method's own end -/
theorem zret_ok {ws : va_W} {r : Option zA} {M : zM} {h1 : zH} {x : zI} (hC : zCx p s m args meth c cc nL own D kk (va_A ws s.heap.size) g ini top) (hlk : meth.locks = false) (hsig : meth.sig.returnType = M.2.2.2.1) (hrk : zrk M.2.2.2.1 r = true) (hd : decode cc x.1 = .ok (x.2.1, x.2.2.1)) (hb : zfB own nL ini x.2.2.1 x.2.2.2.1 x.2.2.2.2 x.1 x.2.1 = true) (hj : zisr x.2.1 = true) (hs : zsel x.1 x.2.2.2.1 x.2.2.2.2 x.2.1 E top al st h1 = .inr (.inr (.inr (.inl r)))) :
    zWn p l e R s m args below meth c (MQ below (zQc M.2.2.2.1 g D kk r h1 ws s.heap.size) args s (h1.1.1 - n0) (h1.1.2 - m0) (va_A ws s.heap.size)) D kk (va_A ws s.heap.size) g (ws.map (·.1)) nL n0 m0 x.1 al st h1 := by
  obtain ⟨pc, ins, len, r1, r2⟩ := x
  simp only at hd hb hj hs ⊢
  have hK := hC.2.2.2.2.2.1
  unfold zisr at hj
  split at hj
  · have hlen : len = 1 := Nat.eq_of_beq_eq_true hb
    subst hlen
    replace hs : zs_iret E top al st h1 = .inr (.inr (.inr (.inl r))) := hs
    unfold zs_iret at hs
    split at hs
    · rename_i a
      cases hz : zint a with
      | false => rw [hz] at hs; cases hs
      | true =>
        rw [hz] at hs
        cases hs
        intro ls sv H locs ⟨w, lv, hh, hl, hL, hF, hP, hD, hS⟩
        obtain ⟨v, vs, rfl, hV, hF1⟩ := zVs_cons hF
        have e1 := zVs_nil hF1
        subst e1
        obtain ⟨y, rfl⟩ := zV_int hz hV
        unfold zrk at hrk
        split at hrk
        · rename_i heq1 heq2
          cases heq2
        · rename_i a0 heq1 heq2
          rw [heq1] at hsig ⊢
          exact W.iret (v := y) hC.1 hC.2.1 hsig (fun t ht hW => ⟨⟨y, w, rfl, ⟨hh, hV⟩, by rw [ht]; exact hP, va_K.moved hW.alike hK, hD⟩, hS.F ht⟩) hS.2.2 hd hlk
        · rename_i q0 heq1 heq2
          rw [heq1] at hsig ⊢
          cases heq2
          have hn : narrow .boolean (.int y) = .int y := (zfit_ok (E := E) (t := .boolean) (a := .inl q0) hrk hV).1
          exact W.zret (v := y) (ty := .boolean) hC.1 hC.2.1 hsig hn (fun t ht hW => ⟨⟨y, w, rfl, ⟨hh, hV⟩, by rw [ht]; exact hP, va_K.moved hW.alike hK, hD⟩, hS.F ht⟩) hS.2.2 hd hlk
        · rename_i o0 heq1 heq2
          cases heq2
          cases hz
        · cases hrk
    · cases hs
  · have hlen : len = 1 := Nat.eq_of_beq_eq_true hb
    subst hlen
    replace hs : zs_lret E top al st h1 = .inr (.inr (.inr (.inl r))) := hs
    unfold zs_lret at hs
    split at hs
    · rename_i o
      cases hs
      intro ls sv H locs ⟨w, lv, hh, hl, hL, hF, hP, hD, hS⟩
      obtain ⟨v, vs, rfl, hV, hF1⟩ := zVs_cons hF
      have e1 := zVs_nil hF1
      subst e1
      obtain ⟨y, rfl, hy⟩ := id hV
      unfold zrk at hrk
      split at hrk
      · rename_i heq1 heq2
        cases heq2
      · rename_i a0 heq1 heq2
        cases heq2
        cases hrk
      · rename_i q0 heq1 heq2
        cases heq2
      · rename_i o0 heq1 heq2
        rw [heq1] at hsig ⊢
        exact W.lret (v := y) hC.1 hC.2.1 hsig (fun t ht hW => ⟨⟨y, w, rfl, ⟨hh, hV⟩, by rw [ht]; exact hP, va_K.moved hW.alike hK, hD⟩, hS.F ht⟩) hS.2.2 hd hlk
      · cases hrk
    · cases hs
  · have hlen : len = 1 := Nat.eq_of_beq_eq_true hb
    subst hlen
    replace hs : zs_vret E top al st h1 = .inr (.inr (.inr (.inl r))) := hs
    unfold zs_vret at hs
    split at hs
    · cases hs
      intro ls sv H locs ⟨w, lv, hh, hl, hL, hF, hP, hD, hS⟩
      have e1 := zVs_nil hF
      subst e1
      unfold zrk at hrk
      split at hrk
      · rename_i heq1 heq2
        rw [heq1] at hsig ⊢
        exact W.vret hC.1 hC.2.1 hsig (fun t ht hW => ⟨⟨w, rfl, ⟨hh, trivial⟩, by rw [ht]; exact hP, va_K.moved hW.alike hK, hD⟩, hS.F ht⟩) hS.2.2 hd hlk
      · rename_i a0 heq1 heq2
        cases heq2
      · rename_i q0 heq1 heq2
        cases heq2
      · rename_i o0 heq1 heq2
        cases heq2
      · cases hrk
    · cases hs
  · cases hj
/-- every method of the table does on the machine what the engine's run of it says -/
theorem zx_ok (hE : zEv g E) (hM : ∀ j M, zmt j = some M → zmB M = true ∧ zmV M = true) (hInit : ∀ j M, zmt j = some M → M.1.name = "<init>" → M.2.2.2.1 = none) (hF : ∀ j M, zmt j = some M → zfM M.1.cls M.2.2.1 (decide (M.1.name = "<init>")) M.2.1 M.2.2.2.2.2 = true) :
    ∀ (d j : Nat) (as : List zA) (h : zH) (r : Option zA) (h1 : zH), zx E d j as h = .inl (r, h1) → zCo l g D kk d j as h r h1 := by
  intro d
  induction d with
  | zero =>
    intro j as h r h1 e9
    replace e9 : (.inr (995, 0) : zO) = .inl (r, h1) := e9
    cases e9
  | succ d ih =>
    intro j as h r h1 e9
    have e9 : zx1 E (zx E d) as h (zmt j) = .inl (r, h1) := e9
    cases hj : zmt j with
    | none => rw [hj] at e9; cases e9
    | some M =>
      rw [hj] at e9
      replace e9 : (bif zrc M.2.2.2.2.1 as h && Nat.ble ((as.map zca).sum) M.2.2.1 then zx2 M.2.2.2.1 (zrun E false M.2.2.2.2.2 (zx E d) 100000 M.2.2.2.2.2 0 (zent 0 as) [] h) else .inr (998, 0)) = .inl (r, h1) := e9
      cases hz : (zrc M.2.2.2.2.1 as h && Nat.ble ((as.map zca).sum) M.2.2.1) with
      | false => rw [hz] at e9; cases e9
      | true =>
        rw [hz] at e9
        rw [Bool.and_eq_true] at hz
        have e9 : zx2 M.2.2.2.1 (zrun E false M.2.2.2.2.2 (zx E d) 100000 M.2.2.2.2.2 0 (zent 0 as) [] h) = .inl (r, h1) := e9
        cases hrun : zrun E false M.2.2.2.2.2 (zx E d) 100000 M.2.2.2.2.2 0 (zent 0 as) [] h with
        | inr q => rw [hrun] at e9; cases e9
        | inl q =>
          rw [hrun] at e9
          replace e9 : (bif zrk M.2.2.2.1 q.1 then .inl q else .inr (996, 0)) = (.inl (r, h1) : zO) := e9
          cases hk : zrk M.2.2.2.1 q.1 with
          | false => rw [hk] at e9; cases e9
          | true =>
            rw [hk] at e9
            have e8 : q = (r, h1) := Sum.inl.inj e9
            subst e8
            obtain ⟨hB, hV⟩ := hM j M hj
            obtain ⟨wc, wi, wk, wm, wp, wn⟩ := zmem hB
            have hfit := List.all_eq_true.mp (hF j M hj)
            refine ⟨M, hj, hk, hz.1, fun ws As sz ad0 hh hAs => ?_⟩
            refine Met.ofW (cc := M.2.1) (maxL := M.2.2.1) (ret := M.2.2.2.1) wp rfl ?_
            intro p e s m args below meth c s₁ B hml hv
            obtain ⟨rfl, hsz, hP, hK, hD0, hX⟩ := hv
            subst hsz
            have hts := atoms_spec (ws := Jvm.Cond.code M.1 M.2.1 M.2.2.1 M.2.2.2.1 :: zW) B.pre
            have hown : s.vm.findClass M.1.cls = some m.cls := findClass_of_methodNamed B.named
            have hin : meth.name = M.1.name := (name_of_methodNamed B.named B.method).1
            have hC : zCx p s m As.toArray meth c M.2.1 M.2.2.1 M.1.cls D kk (va_A ws s.heap.size) g (decide (M.1.name = "<init>")) false := ⟨B.exec, B.bytes, hml, hown, fun w hw => hts w (List.mem_cons_of_mem _ hw), hK, fun q h9 => Or.inr h9, hX, fun h9 => hin.trans (of_decide_eq_true h9), fun h9 => by cases h9⟩
            have hall : ∀ x ∈ M.2.2.2.2.2, decode M.2.1 x.1 = .ok (x.2.1, x.2.2.1) ∧ zfB M.1.cls M.2.2.1 (decide (M.1.name = "<init>")) x.2.2.1 x.2.2.2.1 x.2.2.2.2 x.1 x.2.1 = true := fun x hx => by
              have := hfit x hx
              rw [Bool.and_eq_true] at this
              exact ⟨of_decide_eq_true this.1, this.2⟩
            have hl := lv_entry As (n := M.2.2.1) (by rw [zsl_len hAs]; exact Nat.le_of_ble_eq_true hz.2)
            rw [lg_entry_eq]
            obtain ⟨-, -, hW⟩ := zrun_ok (R := zRm (d + 1) h h1) (l := l) (e := e) (below := below) (Q := MQ below (zQc M.2.2.2.1 g D kk r h1 ws s.heap.size) As.toArray s (h1.1.1 - h.1.1) (h1.1.2 - h.1.2) (va_A ws s.heap.size)) (ad0 := ws.map (·.1)) (n0 := h.1.1) (m0 := h.1.2) hC hE hM hInit hall ih (Nat.le_refl _) (by show 60 * d + 60 ≤ 60 * (d + 1); omega) (fun x al st hx hjr hs => zret_ok hC B.notSynchronized B.returns hk (hall x hx).1 (hall x hx).2 hjr hs) (Nat.le_refl _) (Nat.le_refl _) 100000 M.2.2.2.2.2 0 (zent 0 as) [] h (fun _ hx => hx) hrun
            have := hW (Nat.le_refl _) (Nat.le_refl _) _ [] s.heap [] ⟨ws, lv_args 0 As, ⟨⟨hh.1.1, [], (List.append_nil _).symm⟩, hh.2⟩, hl, zent_ok 0 hAs, trivial, hP, hD0.self, va_S.rf⟩
            rw [Nat.sub_self, Nat.sub_self] at this
            exact this
end ZX
