section QC
variable {p : Program} {l : Launch} {e : Env} {R : Room} {s : State} {m : MethodId} {args : Array Value} {below : List Frame} {meth : Method} {c : Code} {Q : State → Prop} {D : va_G} {kk : Nat → ClassId} {A : Nat → Prop} {g : qG} {ad : List Nat} {nL nc ns : Nat} {cc : ByteArray} {own : String} {t : qT} {pc : Nat} {ls : qL} {st : List qV} {μ : qM}
/-! CALLS -/
def qB (D : va_G) (kk : Nat → ClassId) (ws : va_W) (sz : Nat) (w : va_W) (t : State) : Prop := va_P D vwCl w t.heap ∧ va_K D vwCl (zKs kk) t ∧ va_D (va_A ws sz) w
def qPo (ad : List Nat) (kk : Nat → ClassId) (Q : qV → qM → Prop) (v : qV) (w : va_W) : Prop := ∃ μ, qHr ad kk μ w ∧ Q v μ
def qQc (ret : Option FieldType) (g : qG) (D : va_G) (kk : Nat → ClassId) (ad : List Nat) (Q : qV → qM → Prop) (ws : va_W) (sz : Nat) : Array Value → State → Outcome → State → Prop := match qrk ret with
  | 0 => va_Qv (fun w : va_W => qPo ad kk Q (.inl 0) w) (qB D kk ws sz) (va_A ws sz)
  | 3 => va_Ql (fun (x : Int64) (w : va_W) => qPo ad kk Q (.inr (.inl x.toInt)) w) (qB D kk ws sz) (va_A ws sz)
  | 6 => va_Qr (fun u : Nat × va_W => (10 ≤ u.1 ∧ u.1 < 16) ∧ qPo ad kk Q (.inr (.inr (.inr u.1))) u.2) (fun u a t => a = g.1 u.1 ∧ qB D kk ws sz u.2 t) (va_A ws sz)
  | _ => va_Qi (fun (x : Int32) (w : va_W) => qPo ad kk Q (.inl x.toInt) w) (qB D kk ws sz) (va_A ws sz)
def qPc (g : qG) (D : va_G) (kk : Nat → ClassId) (ws : va_W) (As : List Value) (sz : Nat) : Array Value → State → Prop := va_Pc As (fun U => U.heap.size = sz ∧ va_P D vwCl ws U.heap ∧ va_K D vwCl (zKs kk) U ∧ va_D (fun _ => True) ws ∧ qX g (va_A ws sz) U U.heap)
abbrev qRm (d : Nat) : Room := { frames := d, cells := 0, slots := 0, locals := 60 * d }
def qCo (l : Launch) (g : qG) (D : va_G) (kk : Nat → ClassId) (ad : List Nat) (d j : Nat) (as : List qV) (μ : qM) (Q : qV → qM → Prop) : Prop := ∃ M, qmt j = some M ∧ qrc M.2.2.2.2.1 as ∧ ∀ (ws : va_W) (As : List Value) (sz : Nat), qHr ad kk μ ws → qVs g ad as As →
  Met l M.1 (.code M.1 M.2.1 M.2.2.1 M.2.2.2.1 :: zW) (qRm d) (qPc g D kk ws As sz) (qQc M.2.2.2.1 g D kk ad Q ws sz) 0 0 (va_A ws sz)
theorem qX_moved {u U : State} {H : Heap} (hvm : u.vm.Alike U.vm) (hN : (∀ w ∈ zNs, va_Nw w u) → ∀ w ∈ zNs, va_Nw w U) (hR : ∀ own k tx a, vk_R own k tx a u → vk_R own k tx a U) (h : qX g A u H) : qX g A U H :=
  ⟨hN h.1, ⟨h.2.1.1.moved hvm, h.2.1.2.moved hvm⟩, ⟨h.2.2.1.1.moved hvm, h.2.2.1.2.moved hvm⟩, h.2.2.2.1.moved hvm, ⟨h.2.2.2.2.1.1.moved hvm, h.2.2.2.2.1.2⟩, h.2.2.2.2.2.1.moved hvm, fun i hi => hR _ _ _ _ (h.2.2.2.2.2.2 i hi)⟩
theorem qX_call {u : State} {H : Heap} {B : Nat → Prop} {locs : List Loc} (h : qX g A u u.heap) (hS : va_S A u.heap H locs) (hB : ∀ q, B q → A q) : qX g B u H :=
  ⟨h.1, ⟨(h.2.1.1.kept hS.2.1).narrow hB, (h.2.1.2.kept hS.2.1).narrow hB⟩, ⟨(h.2.2.1.1.kept hS.2.1).narrow hB, (h.2.2.1.2.kept hS.2.1).narrow hB⟩, (h.2.2.2.1.kept hS.2.1).narrow hB, ⟨(h.2.2.2.2.1.1.kept hS.2.1).narrow hB, h.2.2.2.2.1.2⟩, (h.2.2.2.2.2.1.kept hS.2.1).narrow hB, h.2.2.2.2.2.2⟩
theorem qPc_blind {ws : va_W} {As : List Value} {sz : Nat} : FrameBlind (qPc g D kk ws As sz) := fun a U f mk q => by
  obtain ⟨q0, q1, qP, qK, qD, qX⟩ := q
  exact ⟨q0, q1, qP, va_K.moved (u := U) (U := U.calling f mk a) (Vm.Alike.refl U.vm) qK, qD, qX_moved (u := U) (U := U.calling f mk a) (Vm.Alike.refl U.vm) (zN_same rfl) (fun _ _ _ _ h9 => vk_R.same rfl h9) qX⟩
theorem qPc_at {ws : va_W} {As : List Value} {H : Heap} {locs : List Loc} (hK : va_K D vwCl (zKs kk) s) (hX : qX g A s s.heap) (hP : va_P D vwCl ws H) (hD : va_D A ws) (hS : va_S A s.heap H locs) (hF : ∀ q, va_A ws H.size q → A q) : ∀ U : State, U.heap = H → s.WarmedH U.vm → qPc g D kk ws As H.size As.toArray U := fun U hU hW => by
  refine ⟨rfl, by rw [hU], by rw [hU]; exact hP, va_K.moved hW.alike hK, hD.weaken (fun _ _ _ _ => trivial), ?_⟩
  rw [hU]
  exact qX_moved hW.alike (zN_warm hW) (fun _ _ _ _ h9 => vk_R.warm hW h9) (qX_call hX hS hF)
/-- what stands on the stack behind a call -/
def qRes (g : qG) (ad : List Nat) (rk : Nat) (v : qV) (vs : List Value) : Prop := match rk with
  | 0 => vs = []
  | _ => ∃ x, vs = [x] ∧ qVr g ad v x
theorem qcall_core {ret : Option FieldType} {Q0 : qV → qM → Prop} {ws : va_W} {H : Heap} {locs : List Loc} {cells slots : Nat} {ar : Array Slot} {sv rest : List Value} {a9 : Array Value}
    (hr : va_Run p l e R s m args below meth c H locs cells slots 0 0 (F0 m pc ar sv) rest (qQc ret g D kk ad Q0 ws H.size a9) (va_A ws H.size)) (hS : va_S A s.heap H locs) (hF : ∀ q, va_A ws H.size q → A q)
    (kw : ∀ (w : va_W) (H1 : Heap) (locs1 : List Loc) (vs : List Value) (v : qV) (μ1 : qM), qHr ad kk μ1 w → Q0 v μ1 → va_P D vwCl w H1 → va_D A w → va_S A s.heap H1 locs1 → qRes g ad (qrk ret) v vs → W p l e R s m args below meth c H1 locs1 (cells + 0) (slots + 0) Q (F0 m (pc + 3) ar (vs ++ rest))) : W p l e R s m args below meth c H locs cells slots Q (F0 m pc ar sv) := by
  unfold qQc at hr
  generalize qrk ret = n at hr kw
  rcases n with _ | _ | _ | _ | _ | _ | _ | n
  · refine va_callv (a := a9) hr hS (fun q _ h => hF q h) hF (fun u t H1 locs1 ht hvm hw hB hz1 hk1 hS1 => ?_)
    obtain ⟨hP1, hK1, hD1⟩ := hB
    rw [ht] at hP1
    obtain ⟨μ1, h1, h2⟩ := hw
    exact kw u H1 locs1 [] _ μ1 h1 h2 hP1 (hD1.weaken (fun _ _ _ h => hF _ h)) hS1 rfl
  · refine va_calli (a := a9) hr hS (fun q _ h => hF q h) hF (fun x u t H1 locs1 ht hvm hw hB hz1 hk1 hS1 => ?_)
    obtain ⟨hP1, hK1, hD1⟩ := hB
    rw [ht] at hP1
    obtain ⟨μ1, h1, h2⟩ := hw
    exact kw u H1 locs1 [.int x] _ μ1 h1 h2 hP1 (hD1.weaken (fun _ _ _ h => hF _ h)) hS1 ⟨_, rfl, x, rfl, rfl⟩
  · refine va_calli (a := a9) hr hS (fun q _ h => hF q h) hF (fun x u t H1 locs1 ht hvm hw hB hz1 hk1 hS1 => ?_)
    obtain ⟨hP1, hK1, hD1⟩ := hB
    rw [ht] at hP1
    obtain ⟨μ1, h1, h2⟩ := hw
    exact kw u H1 locs1 [.int x] _ μ1 h1 h2 hP1 (hD1.weaken (fun _ _ _ h => hF _ h)) hS1 ⟨_, rfl, x, rfl, rfl⟩
  · refine va_calll (a := a9) hr hS (fun q _ h => hF q h) hF (fun x u t H1 locs1 ht hvm hw hB hz1 hk1 hS1 => ?_)
    obtain ⟨hP1, hK1, hD1⟩ := hB
    rw [ht] at hP1
    obtain ⟨μ1, h1, h2⟩ := hw
    exact kw u H1 locs1 [.long x] _ μ1 h1 h2 hP1 (hD1.weaken (fun _ _ _ h => hF _ h)) hS1 ⟨_, rfl, x, rfl, rfl⟩
  · refine va_calli (a := a9) hr hS (fun q _ h => hF q h) hF (fun x u t H1 locs1 ht hvm hw hB hz1 hk1 hS1 => ?_)
    obtain ⟨hP1, hK1, hD1⟩ := hB
    rw [ht] at hP1
    obtain ⟨μ1, h1, h2⟩ := hw
    exact kw u H1 locs1 [.int x] _ μ1 h1 h2 hP1 (hD1.weaken (fun _ _ _ h => hF _ h)) hS1 ⟨_, rfl, x, rfl, rfl⟩
  · refine va_calli (a := a9) hr hS (fun q _ h => hF q h) hF (fun x u t H1 locs1 ht hvm hw hB hz1 hk1 hS1 => ?_)
    obtain ⟨hP1, hK1, hD1⟩ := hB
    rw [ht] at hP1
    obtain ⟨μ1, h1, h2⟩ := hw
    exact kw u H1 locs1 [.int x] _ μ1 h1 h2 hP1 (hD1.weaken (fun _ _ _ h => hF _ h)) hS1 ⟨_, rfl, x, rfl, rfl⟩
  · refine va_callr (a := a9) hr hS (fun q _ h => hF q h) hF (fun u b t H1 locs1 ht hvm hw hB hz1 hk1 hS1 => ?_)
    obtain ⟨rfl, hP1, hK1, hD1⟩ := hB
    rw [ht] at hP1
    obtain ⟨hu, μ1, h1, h2⟩ := hw
    exact kw u.2 H1 locs1 [.ref (g.1 u.1)] _ μ1 h1 h2 hP1 (hD1.weaken (fun _ _ _ h => hF _ h)) hS1 ⟨_, rfl, Or.inr ⟨by omega, rfl⟩⟩
  · refine va_calli (a := a9) hr hS (fun q _ h => hF q h) hF (fun x u t H1 locs1 ht hvm hw hB hz1 hk1 hS1 => ?_)
    obtain ⟨hP1, hK1, hD1⟩ := hB
    rw [ht] at hP1
    obtain ⟨μ1, h1, h2⟩ := hw
    exact kw u H1 locs1 [.int x] _ μ1 h1 h2 hP1 (hD1.weaken (fun _ _ _ h => hF _ h)) hS1 ⟨_, rfl, x, rfl, rfl⟩
theorem qrc_inv {ci : Nat} : ∀ {as : List qV}, qrc (ci + 1) as → (∃ c t, as = .inr (.inr (.inl c)) :: t ∧ qty c = ci) ∨ (∃ k t, as = .inr (.inr (.inr k)) :: t ∧ ci = 20 ∧ 10 ≤ k ∧ k < 16)
  | [], h => h.elim
  | .inl _ :: _, h => h.elim
  | .inr (.inl _) :: _, h => h.elim
  | .inr (.inr (.inl c)) :: t, h => Or.inl ⟨c, t, rfl, h⟩
  | .inr (.inr (.inr k)) :: t, h => Or.inr ⟨k, t, rfl, h⟩
theorem qtk_ok {ad : List Nat} : ∀ (n : Nat) {st acc : List qV} {sv av : List Value} {as st' : List qV}, qVs g ad st sv → qVs g ad acc av → qtk n st acc = some (as, st') → ∃ As rest, sv = As.reverse ++ (rest : List Value) ∧ qVs g ad as (As ++ av) ∧ qVs g ad st' rest ∧ As.length = n
  | 0, st, acc, sv, av, as, st', h1, h2, e9 => by
    have e9 : some (acc, st) = some (as, st') := e9
    cases e9
    exact ⟨[], sv, rfl, h2, h1, rfl⟩
  | n + 1, [], acc, sv, av, as, st', h1, h2, e9 => by
    have e9 : (none : Option (List qV × List qV)) = some (as, st') := e9
    cases e9
  | n + 1, a :: st, acc, sv, av, as, st', h1, h2, e9 => by
    obtain ⟨v, vs, rfl, hV, hF⟩ := qVs_cons h1
    have e9 : qtk n st (a :: acc) = some (as, st') := e9
    obtain ⟨As, rest, e1, h3, h4, h5⟩ := qtk_ok n hF (show qVs g ad (a :: acc) (v :: av) from ⟨hV, h2⟩) e9
    refine ⟨As ++ [v], rest, ?_, by rw [List.append_assoc]; exact h3, h4, by rw [List.length_append, h5]; rfl⟩
    rw [List.reverse_append, e1]
    rfl
theorem qmem {M : qMt} (hB : qmB M = true) : Jvm.Cond.code M.1 M.2.1 M.2.2.1 M.2.2.2.1 ∈ zW ∧ Jvm.Cond.initialized M.1.cls ∈ zW ∧ (bif Nat.beq M.2.2.2.2.1 0 then zin (.static M.1) else zin (.instanceMethod M.1)) = true ∧ M.2.2.1 ≤ 40 ∧ plainName M.1.cls = true ∧ (M.1.cls ≠ "java/lang/invoke/MethodHandle" ∧ M.1.cls ≠ "java/lang/invoke/VarHandle") ∧ (match M.2.2.2.2.1 with
  | 0 => true
  | ci + 1 => (bif Nat.beq ci 20 then decide (M.1.cls = "java/lang/String") else Nat.blt ci 11 && decide (zRn ci = M.1.cls)) && zin (.selects M.1.cls M.1 M.1)) = true := by
  unfold qmB qmG at hB
  simp only [Bool.and_eq_true] at hB
  exact ⟨zin_ok hB.1, zin_ok hB.2.1, hB.2.2.1, Nat.le_of_ble_eq_true hB.2.2.2.1, of_decide_eq_true hB.2.2.2.2.1, of_decide_eq_true hB.2.2.2.2.2.1, hB.2.2.2.2.2.2⟩
/-- a call, once its words are known: virtual -/
theorem qcallV {M : qMt} {i n d : Nat} {as st' : List qV} {Q0 : qV → qM → Prop} (hC : qCx p s m args meth c cc nL own D kk A g t) (hB : qmB M = true) (hkn : (!(Nat.beq M.2.2.2.2.1 0)) = true) (hlk : zin (.methodLink own i M.1) = true) (hpar : zpar M.1 = some (n - 1)) (hn : 1 ≤ n) (hd : decode cc pc = .ok (.invokevirtual i, 3)) (htk : qtk n st [] = some (as, st')) (h4 : qle4 st' = true) (hrc : qrc M.2.2.2.2.1 as)
    (hMet : ∀ (ws : va_W) (As : List Value) (sz : Nat), qHr ad kk μ ws → qVs g ad as As → Met l M.1 (.code M.1 M.2.1 M.2.2.1 M.2.2.2.1 :: zW) (qRm d) (qPc g D kk ws As sz) (qQc M.2.2.2.1 g D kk ad Q0 ws sz) 0 0 (va_A ws sz))
    (hRf : d + 1 ≤ R.frames) (hRl : 60 * d + 60 ≤ R.locals) (hr1 : nc ≤ R.cells) (hr2 : ns ≤ R.slots)
    (kw : ∀ v μ1, Q0 v μ1 → qWn p l e R s m args below meth c Q D kk A g ad nL nc ns (pc + 3) ls (bif Nat.beq (qrk M.2.2.2.1) 0 then st' else v :: st') μ1) : qWn p l e R s m args below meth c Q D kk A g ad nL nc ns pc ls st μ := by
  obtain ⟨wc, wi, wk, wm, wp, wn, ws4⟩ := qmem hB
  have hts := hC.2.2.2.2.1
  have hroom : (qRm d).frames + 1 ≤ R.frames ∧ 8 + (M.2.2.1 + 11) + (qRm d).locals ≤ R.locals := ⟨hRf, by show 8 + (M.2.2.1 + 11) + 60 * d ≤ _; omega⟩
  intro ar sv H locs ⟨ws, lv, hh, hl, hL, hF, hP, hD, hS⟩
  obtain ⟨As, rest, rfl, hAs, hrest, hAl⟩ := qtk_ok n hF (show qVs g ad [] [] from trivial) htk
  rw [List.append_nil] at hAs
  have hFr := zfree hC.2.2.2.2.2.2.1 hD hS
  obtain ⟨ci, hci⟩ : ∃ ci, M.2.2.2.2.1 = ci + 1 := by
    cases hz : M.2.2.2.2.1 with
    | zero => rw [hz] at hkn; cases hkn
    | succ ci => exact ⟨ci, rfl⟩
  rw [hci] at hrc wk ws4
  have ws4 : ((bif Nat.beq ci 20 then decide (M.1.cls = "java/lang/String") else Nat.blt ci 11 && decide (zRn ci = M.1.cls)) && zin (.selects M.1.cls M.1 M.1)) = true := ws4
  rw [Bool.and_eq_true] at ws4
  have hrecv : ∃ q Ps, As = .ref q :: Ps ∧ ∃ cell : Cell, H[q]? = some cell ∧ cell.vm.isStatics = false ∧ s.vm.findClass M.1.cls = some cell.cls := by
    rcases qrc_inv hrc with ⟨c0, as0, rfl, hrc⟩ | ⟨k0, as0, rfl, hrc⟩
    · obtain ⟨vo, Ps, rfl, ⟨q, hq, rfl, h0⟩, hPs⟩ := qVs_cons hAs
      refine ⟨q, Ps, rfl, ?_⟩
      have hne : Nat.beq ci 20 = false := by
        cases hz : Nat.beq ci 20 with
        | false => rfl
        | true =>
          have e9 := Nat.eq_of_beq_eq_true hz
          subst e9
          obtain ⟨n9, fs9, -, hn9, -⟩ := qty_obj hrc (by decide)
          have h9 : ∀ y ∈ qsh, (match y with
            | .inl x => decide (x.1 < 11)
            | .inr _ => true) = true := by decide +kernel
          have h7 : (20 : Nat) < 11 := of_decide_eq_true (h9 _ (List.mem_of_getElem? hn9))
          omega
      rw [hne] at ws4
      have w5 := ws4.1
      replace w5 : (Nat.blt ci 11 && decide (zRn ci = M.1.cls)) = true := w5
      rw [Bool.and_eq_true] at w5
      have hlt : ci < 11 := Nat.le_of_ble_eq_true w5.1
      have hcl := zcl_ok ci hlt
      obtain ⟨n9, fs9, rfl, hn9, -⟩ := qty_obj hrc (by omega)
      obtain ⟨q1, e1, hw1, hc1⟩ := hh.2 _ _ hn9
      have hq : ad[n9]? = some q := hq
      cases qat_ad hh hq hw1
      obtain ⟨vs1, rfl, -, -⟩ := hc1
      rw [← of_decide_eq_true w5.2]
      exact va_recv hC.2.2.2.2.2.1 hP (ci := ci) (q := (zRn ci, zTn ci, zN ci)) hcl.1 hw1
    · obtain ⟨vo, Ps, rfl, hV, hPs⟩ := qVs_cons hAs
      obtain ⟨rfl, hk1, hk2⟩ := hrc
      rcases hV with ⟨h1, -⟩ | ⟨-, rfl⟩
      · omega
      · refine ⟨_, Ps, rfl, ?_⟩
        have w5 : M.1.cls = "java/lang/String" := of_decide_eq_true ws4.1
        obtain ⟨i9, rfl⟩ : ∃ i9, k0 = 10 + i9 := ⟨k0 - 10, by omega⟩
        rw [w5]
        have h7 := vk_recv (i := i9) hC.2.2.2.2.2.2.2.1.2.2.2.2.2.1 (by omega) hS
        exact h7
  obtain ⟨q, Ps, rfl, hcell⟩ := hrecv
  have hmet := hMet ws (.ref q :: Ps) H.size hh hAs
  have hPl : Ps.length = n - 1 := by
    rw [List.length_cons] at hAl
    omega
  have hsv : (Value.ref q :: Ps).reverse ++ rest = Ps.reverse ++ .ref q :: rest := by
    rw [List.reverse_cons, List.append_assoc]
    rfl
  rw [hsv]
  refine qcall_core (a9 := (Value.ref q :: Ps).toArray) (va_runV (C := M.1.cls) (As := Ps) (rest := rest) (n := n - 1) (maxL := M.2.2.1) (ret := M.2.2.2.1) (bytes := M.2.1) ⟨hC.1, hC.2.1, hC.2.2.1, hC.2.2.2.1, hts⟩ hmet ⟨callB_of (n - 1) hts (zgood wc) rfl rfl rfl (hts _ wi) (hts _ (zin_ok hlk)) ⟨wn.1, wn.2, hpar⟩ hroom, hts _ (zin_ok wk), hts _ (zin_ok ws4.2)⟩ ⟨qPc_blind, hcell, qPc_at hC.2.2.2.2.2.1 hC.2.2.2.2.2.2.2.1 hP hD hS hFr⟩ rfl hPl hl.1 rfl (lv_room (qle4_sum h4 hrest)) hd ⟨by omega, by omega⟩) hS hFr (fun w H1 locs1 vs v μ1 hh1 hQ hP1 hD1 hS1 hres => ?_)
  have hk := kw v μ1 hQ
  cases hz : Nat.beq (qrk M.2.2.2.1) 0 with
  | true =>
    rw [hz] at hk
    have e9 := Nat.eq_of_beq_eq_true hz
    rw [e9] at hres
    have hres : vs = [] := hres
    subst hres
    exact hk ar _ H1 locs1 ⟨w, lv, hh1, hl, hL, hrest, hP1, hD1, hS1⟩
  | false =>
    rw [hz] at hk
    obtain ⟨x, rfl, hx⟩ : ∃ x, vs = [x] ∧ qVr g ad v x := by
      unfold qRes at hres
      split at hres
      · rename_i h9
        rw [h9] at hz
        cases hz
      · exact hres
    exact hk ar _ H1 locs1 ⟨w, lv, hh1, hl, hL, ⟨hx, hrest⟩, hP1, hD1, hS1⟩
/-- and static -/
theorem qcallS {M : qMt} {i n d : Nat} {as st' : List qV} {Q0 : qV → qM → Prop} (hC : qCx p s m args meth c cc nL own D kk A g t) (hB : qmB M = true) (hkn : Nat.beq M.2.2.2.2.1 0 = true) (hlk : zlk2 zin own i M.1 = true) (hpar : zpar M.1 = some n) (hd : decode cc pc = .ok (.invokestatic i, 3)) (htk : qtk n st [] = some (as, st')) (h4 : qle4 st' = true)
    (hMet : ∀ (ws : va_W) (As : List Value) (sz : Nat), qHr ad kk μ ws → qVs g ad as As → Met l M.1 (.code M.1 M.2.1 M.2.2.1 M.2.2.2.1 :: zW) (qRm d) (qPc g D kk ws As sz) (qQc M.2.2.2.1 g D kk ad Q0 ws sz) 0 0 (va_A ws sz))
    (hRf : d + 1 ≤ R.frames) (hRl : 60 * d + 60 ≤ R.locals) (hr1 : nc ≤ R.cells) (hr2 : ns ≤ R.slots)
    (kw : ∀ v μ1, Q0 v μ1 → qWn p l e R s m args below meth c Q D kk A g ad nL nc ns (pc + 3) ls (bif Nat.beq (qrk M.2.2.2.1) 0 then st' else v :: st') μ1) : qWn p l e R s m args below meth c Q D kk A g ad nL nc ns pc ls st μ := by
  obtain ⟨wc, wi, wk, wm, wp, wn, ws4⟩ := qmem hB
  have hts := hC.2.2.2.2.1
  have hroom : (qRm d).frames + 1 ≤ R.frames ∧ 8 + (M.2.2.1 + 11) + (qRm d).locals ≤ R.locals := ⟨hRf, by show 8 + (M.2.2.1 + 11) + 60 * d ≤ _; omega⟩
  rw [hkn] at wk
  intro ar sv H locs ⟨ws, lv, hh, hl, hL, hF, hP, hD, hS⟩
  obtain ⟨As, rest, rfl, hAs, hrest, hAl⟩ := qtk_ok n hF (show qVs g ad [] [] from trivial) htk
  rw [List.append_nil] at hAs
  have hFr := zfree hC.2.2.2.2.2.2.1 hD hS
  have hmet := hMet ws As H.size hh hAs
  have hpre : PreS s H (qPc g D kk ws As H.size) As := ⟨qPc_blind, qPc_at hC.2.2.2.2.2.1 hC.2.2.2.2.2.2.2.1 hP hD hS hFr⟩
  have fin : ∀ (w : va_W) (H1 : Heap) (locs1 : List Loc) (vs : List Value) (v : qV) (μ1 : qM), qHr ad kk μ1 w → Q0 v μ1 → va_P D vwCl w H1 → va_D A w → va_S A s.heap H1 locs1 → qRes g ad (qrk M.2.2.2.1) v vs → W p l e R s m args below meth c H1 locs1 (nc + 0) (ns + 0) Q (F0 m (pc + 3) ar (vs ++ rest)) := fun w H1 locs1 vs v μ1 hh1 hQ hP1 hD1 hS1 hres => by
    have hk := kw v μ1 hQ
    cases hz : Nat.beq (qrk M.2.2.2.1) 0 with
    | true =>
      rw [hz] at hk
      have e9 := Nat.eq_of_beq_eq_true hz
      rw [e9] at hres
      have hres : vs = [] := hres
      subst hres
      exact hk ar _ H1 locs1 ⟨w, lv, hh1, hl, hL, hrest, hP1, hD1, hS1⟩
    | false =>
      rw [hz] at hk
      obtain ⟨x, rfl, hx⟩ : ∃ x, vs = [x] ∧ qVr g ad v x := by
        unfold qRes at hres
        split at hres
        · rename_i h9
          rw [h9] at hz
          cases hz
        · exact hres
      exact hk ar _ H1 locs1 ⟨w, lv, hh1, hl, hL, ⟨hx, hrest⟩, hP1, hD1, hS1⟩
  unfold zlk2 at hlk
  rw [Bool.or_eq_true] at hlk
  rcases hlk with hlk | hlk
  · exact qcall_core (a9 := As.toArray) (va_runS (As := As) (rest := rest) (n := n) (maxL := M.2.2.1) (ret := M.2.2.2.1) (bytes := M.2.1) ⟨hC.1, hC.2.1, hC.2.2.1, hC.2.2.2.1, hts⟩ hmet ⟨callB_of n hts (zgood wc) rfl rfl rfl (hts _ wi) (hts _ (zin_ok hlk)) ⟨wn.1, wn.2, hpar⟩ hroom, hts _ (zin_ok wk)⟩ hpre rfl hAl hl.1 rfl (lv_room (qle4_sum h4 hrest)) hd ⟨by omega, by omega⟩) hS hFr fin
  · exact qcall_core (a9 := As.toArray) (va_runSN (As := As) (rest := rest) (n := n) (maxL := M.2.2.1) (ret := M.2.2.2.1) (bytes := M.2.1) ⟨hC.1, hC.2.1, hC.2.2.1, hC.2.2.2.1, hts⟩ hmet ⟨va_cnB n hts (zgood wc) rfl rfl rfl (hC.2.2.2.2.2.2.2.1.1 _ (zin_nest hlk)) (hts _ wi) ⟨wn.1, wn.2, hpar⟩ hroom, hts _ (zin_ok wk), trivial⟩ hpre rfl hAl hl.1 rfl (lv_room (qle4_sum h4 hrest)) hd ⟨by omega, by omega⟩) hS hFr fin
end QC
