section ZC
variable {p : Program} {l : Launch} {e : Env} {R : Room} {s : State} {m : MethodId} {args : Array Value} {below : List Frame} {meth : Method} {c : Code} {Q : State → Prop} {D : va_G} {kk : Nat → ClassId} {A : Nat → Prop} {g : zG} {ad0 : List Nat} {nL n0 m0 : Nat} {cc : ByteArray} {own : String} {ini top : Bool} {E : zE} {pc : Nat} {al al' : zL} {st st' : List zA} {h h' : zH}
/-! CALLS, AND A WHOLE RUN -/
/-- what a call leaves: the answer, the cells; the old ones where they were -/
def zPo (g : zG) (kk : Nat → ClassId) (r : Option zA) (v : Option Value) (h1 : zH) (ws w : va_W) : Prop := zHr g kk (ws.map (·.1)) h1 w ∧ (match r, v with
  | none, none => True
  | some a, some v => zV g (w.map (·.1)) a v
  | _, _ => False)
def zB (D : va_G) (kk : Nat → ClassId) (ws : va_W) (sz : Nat) (w : va_W) (t : State) : Prop := va_P D vwCl w t.heap ∧ va_K D vwCl (zKs kk) t ∧ va_D (va_A ws sz) w
def zQc (ret : Option FieldType) (g : zG) (D : va_G) (kk : Nat → ClassId) (r : Option zA) (h1 : zH) (ws : va_W) (sz : Nat) : Array Value → State → Outcome → State → Prop := match ret with
  | none => va_Qv (fun w : va_W => zPo g kk r none h1 ws w) (zB D kk ws sz) (va_A ws sz)
  | some .long => va_Ql (fun (x : Int64) (w : va_W) => zPo g kk r (some (.long x)) h1 ws w) (zB D kk ws sz) (va_A ws sz)
  | some _ => va_Qi (fun (x : Int32) (w : va_W) => zPo g kk r (some (.int x)) h1 ws w) (zB D kk ws sz) (va_A ws sz)
def zPc (g : zG) (D : va_G) (kk : Nat → ClassId) (ws : va_W) (As : List Value) (sz : Nat) : Array Value → State → Prop := va_Pc As (fun U => U.heap.size = sz ∧ va_P D vwCl ws U.heap ∧ va_K D vwCl (zKs kk) U ∧ va_D (fun _ => True) ws ∧ zX g (va_A ws sz) U U.heap)
abbrev zRm (d : Nat) (h h1 : zH) : Room := { frames := d, cells := h1.1.1 - h.1.1, slots := h1.1.2 - h.1.2, locals := 60 * d }
def zCo (l : Launch) (g : zG) (D : va_G) (kk : Nat → ClassId) (d j : Nat) (as : List zA) (h : zH) (r : Option zA) (h1 : zH) : Prop := ∃ M, zmt j = some M ∧ zrk M.2.2.2.1 r = true ∧ zrc M.2.2.2.2.1 as h = true ∧ ∀ (ws : va_W) (As : List Value) (sz : Nat) (ad0 : List Nat), zHr g kk ad0 h ws → zVs g (ws.map (·.1)) as As →
  Met l M.1 (.code M.1 M.2.1 M.2.2.1 M.2.2.2.1 :: zW) (zRm d h h1) (zPc g D kk ws As sz) (zQc M.2.2.2.1 g D kk r h1 ws sz) (h1.1.1 - h.1.1) (h1.1.2 - h.1.2) (va_A ws sz)
noncomputable def zps (r : Option zA) (st : List zA) : List zA := match r with
  | some v => v :: st
  | none => st
theorem va_AOA.moved {ty : FieldType} {u U : State} (hvm : u.vm.Alike U.vm) (h : va_AOA ty u) : va_AOA ty U := by
  unfold va_AOA Cond.before Cond.holds at h ⊢
  simp only [Cond.value, beq_iff_eq] at h ⊢
  cases hc : u.vm.findClass (FieldType.array ty).toString with
  | none => simp [hc] at h
  | some comp =>
    simp only [hc, Option.bind_some, Option.bind_eq_some_iff, Option.map_eq_some_iff] at h
    obtain ⟨c9, hi, k, hk, hb⟩ := h
    obtain ⟨k', hk', he⟩ := hvm.2.2 _ _ hk
    have e1 := va_idx_bare U.vm comp
    have e2 := va_idx_bare u.vm comp
    have eb : U.vm.bare = u.vm.bare := by first | exact hvm.bare_eq | exact hvm.bare_eq.symm
    rw [eb] at e1
    have hi' := (e1.symm.trans e2).trans hi
    have f1 : U.vm.findClass (FieldType.array ty).toString = some comp := by rw [hvm.findClass]; exact hc
    simp only [f1, Option.bind_some, Option.bind_eq_some_iff, Option.map_eq_some_iff]
    refine ⟨c9, hi', k', hk', ?_⟩
    have e9 : k'.kind = k.kind := by rw [he]
    rw [e9, hvm.findClass]
    exact hb
theorem zN_warm {u U : State} (hW : u.WarmedH U.vm) (h : ∀ w ∈ zNs, va_Nw w u) : ∀ w ∈ zNs, va_Nw w U := fun w hw => by
  have h1 := (List.mem_filter.mp hw).2
  have h2 := h w hw
  unfold zisN at h1
  split at h1
  · exact va_Nw.warmM hW h2
  · cases h1
theorem zN_same {u U : State} (hv : u.vm = U.vm) (h : ∀ w ∈ zNs, va_Nw w u) : ∀ w ∈ zNs, va_Nw w U := fun w hw => by
  have h1 := (List.mem_filter.mp hw).2
  have h2 := h w hw
  unfold zisN at h1
  split at h1
  · exact va_Nw.same rfl hv h2
  · cases h1
theorem zX_moved {u U : State} {H : Heap} (hvm : u.vm.Alike U.vm) (hN : (∀ w ∈ zNs, va_Nw w u) → ∀ w ∈ zNs, va_Nw w U) (h : zX g A u H) : zX g A U H :=
  ⟨⟨h.1.1.moved hvm, hN h.1.2⟩, h.2.1.moved hvm, h.2.2.1.moved hvm, ⟨h.2.2.2.1.1.moved hvm, h.2.2.2.1.2.moved hvm⟩, h.2.2.2.2.1.moved hvm, h.2.2.2.2.2.moved hvm⟩
theorem zX_call {u : State} {H : Heap} {B : Nat → Prop} {locs : List Loc} (h : zX g A u u.heap) (hS : va_S A u.heap H locs) (hB : ∀ q, B q → A q) : zX g B u H :=
  ⟨h.1, h.2.1, h.2.2.1, ⟨(h.2.2.2.1.1.kept hS.2.1).narrow hB, (h.2.2.2.1.2.kept hS.2.1).narrow hB⟩, (h.2.2.2.2.1.kept hS.2.1).narrow hB, (h.2.2.2.2.2.kept hS.2.1).narrow hB⟩
theorem zPc_blind {ws : va_W} {As : List Value} {sz : Nat} : FrameBlind (zPc g D kk ws As sz) := fun a U f mk q => by
  obtain ⟨q0, q1, qP, qK, qD, qX⟩ := q
  exact ⟨q0, q1, qP, va_K.moved (u := U) (U := U.calling f mk a) (Vm.Alike.refl U.vm) qK, qD, zX_moved (u := U) (U := U.calling f mk a) (Vm.Alike.refl U.vm) (zN_same rfl) qX⟩
theorem zPc_at {ws : va_W} {As : List Value} {H : Heap} {locs : List Loc} (hK : va_K D vwCl (zKs kk) s) (hX : zX g A s s.heap) (hP : va_P D vwCl ws H) (hD : va_D A ws) (hS : va_S A s.heap H locs) (hF : ∀ q, va_A ws H.size q → A q) : ∀ U : State, U.heap = H → s.WarmedH U.vm → zPc g D kk ws As H.size As.toArray U := fun U hU hW => by
  refine ⟨rfl, by rw [hU], by rw [hU]; exact hP, va_K.moved hW.alike hK, hD.weaken (fun _ _ _ _ => trivial), ?_⟩
  rw [hU]
  exact zX_moved hW.alike (zN_warm hW) (zX_call hX hS hF)
theorem zfree {ws : va_W} {H : Heap} {locs : List Loc} (hA : ∀ q, s.heap.size ≤ q → A q) (hD : va_D A ws) (hS : va_S A s.heap H locs) : ∀ q, va_A ws H.size q → A q := fun q hq => by
  rcases hq with ⟨k, e9, hk⟩ | hq
  · exact hD.2 k _ hk
  · exact hA q (Nat.le_trans hS.1 hq)
/-- behind a call: one way for all kinds of answers -/
theorem zcall_core {ret : Option FieldType} {r : Option zA} {h1 : zH} {ws : va_W} {H : Heap} {locs : List Loc} {cells slots mc ms : Nat} {ls : Array Slot} {sv rest : List Value} {a9 : Array Value} (hk : zrk ret r = true)
    (hr : va_Run p l e R s m args below meth c H locs cells slots mc ms (F0 m pc ls sv) rest (zQc ret g D kk r h1 ws H.size a9) (va_A ws H.size)) (hS : va_S A s.heap H locs) (hF : ∀ q, va_A ws H.size q → A q)
    (kw : ∀ (w : va_W) (H1 : Heap) (locs1 : List Loc) (vs : List Value), zHr g kk (ws.map (·.1)) h1 w → va_P D vwCl w H1 → va_D A w → va_S A s.heap H1 locs1 → zVs g (w.map (·.1)) (zps r []) vs → W p l e R s m args below meth c H1 locs1 (cells + mc) (slots + ms) Q (F0 m (pc + 3) ls (vs ++ rest))) : W p l e R s m args below meth c H locs cells slots Q (F0 m pc ls sv) := by
  unfold zrk at hk
  split at hk
  · refine va_callv (a := a9) hr hS (fun q _ h => hF q h) hF (fun u t H1 locs1 ht hvm hw hB hz1 hk1 hS1 => ?_)
    obtain ⟨hP1, hK1, hD1⟩ := hB
    rw [ht] at hP1
    exact kw u H1 locs1 [] hw.1 hP1 (hD1.weaken (fun _ _ _ h => hF _ h)) hS1 trivial
  · rename_i a0
    refine va_calli (a := a9) hr hS (fun q _ h => hF q h) hF (fun x u t H1 locs1 ht hvm hw hB hz1 hk1 hS1 => ?_)
    obtain ⟨hP1, hK1, hD1⟩ := hB
    rw [ht] at hP1
    exact kw u H1 locs1 [.int x] hw.1 hP1 (hD1.weaken (fun _ _ _ h => hF _ h)) hS1 ⟨hw.2, trivial⟩
  · rename_i p0
    refine va_calli (a := a9) hr hS (fun q _ h => hF q h) hF (fun x u t H1 locs1 ht hvm hw hB hz1 hk1 hS1 => ?_)
    obtain ⟨hP1, hK1, hD1⟩ := hB
    rw [ht] at hP1
    exact kw u H1 locs1 [.int x] hw.1 hP1 (hD1.weaken (fun _ _ _ h => hF _ h)) hS1 ⟨hw.2, trivial⟩
  · rename_i o0
    refine va_calll (a := a9) hr hS (fun q _ h => hF q h) hF (fun x u t H1 locs1 ht hvm hw hB hz1 hk1 hS1 => ?_)
    obtain ⟨hP1, hK1, hD1⟩ := hB
    rw [ht] at hP1
    exact kw u H1 locs1 [.long x] hw.1 hP1 (hD1.weaken (fun _ _ _ h => hF _ h)) hS1 ⟨hw.2, trivial⟩
  · cases hk
theorem zgood {w : Jvm.Cond} (h : w ∈ zW) : GoodIn zW (w :: zW) := fun v hv => by
  have hm : v ∈ zW := (List.mem_cons.mp hv).elim (fun e9 => by rw [e9]; exact h) id
  exact ⟨hm, good_of_word (List.mem_filter.mp hm).2⟩
theorem zVs_app {ad : List Nat} : ∀ {as bs : List zA} {vs ws : List Value}, zVs g ad as vs → zVs g ad bs ws → zVs g ad (as ++ bs) (vs ++ ws)
  | [], _, [], _, _, h2 => h2
  | [], _, _ :: _, _, h1, _ => h1.elim
  | _ :: _, _, [], _, h1, _ => h1.elim
  | _ :: _, _, _ :: _, _, h1, h2 => ⟨h1.1, zVs_app h1.2 h2⟩
theorem zVs_len {ad : List Nat} : ∀ {as : List zA} {vs : List Value}, zVs g ad as vs → vs.length = as.length
  | [], [], _ => rfl
  | [], _ :: _, h => h.elim
  | _ :: _, [], h => h.elim
  | _ :: _, _ :: _, h => by rw [List.length_cons, List.length_cons, zVs_len h.2]
/-- the uppermost n of a stack -/
theorem ztk_ok {ad : List Nat} : ∀ (n : Nat) {st acc : List zA} {sv av : List Value} {as st' : List zA}, zVs g ad st sv → zVs g ad acc av → ztk n st acc = (as, st') → (as = [] ∧ st' = [] ∧ 0 < n) ∨ ∃ As rest, sv = As.reverse ++ (rest : List Value) ∧ zVs g ad as (As ++ av) ∧ zVs g ad st' rest ∧ As.length = n
  | 0, st, acc, sv, av, as, st', h1, h2, e9 => by
    have e9 : (acc, st) = (as, st') := e9
    cases e9
    exact Or.inr ⟨[], sv, rfl, h2, h1, rfl⟩
  | n + 1, [], acc, sv, av, as, st', h1, h2, e9 => by
    have e9 : (([], []) : List zA × List zA) = (as, st') := e9
    cases e9
    exact Or.inl ⟨rfl, rfl, Nat.succ_pos n⟩
  | n + 1, a :: st, acc, sv, av, as, st', h1, h2, e9 => by
    obtain ⟨v, vs, rfl, hV, hF⟩ := zVs_cons h1
    have e9 : ztk n st (a :: acc) = (as, st') := e9
    rcases ztk_ok n hF (show zVs g ad (a :: acc) (v :: av) from ⟨hV, h2⟩) e9 with ⟨e1, e2, -⟩ | ⟨As, rest, e1, h3, h4, h5⟩
    · exact Or.inl ⟨e1, e2, Nat.succ_pos n⟩
    · refine Or.inr ⟨As ++ [v], rest, ?_, by rw [List.append_assoc]; exact h3, h4, by rw [List.length_append, h5]; rfl⟩
      rw [List.reverse_append, e1]
      rfl
theorem zmem {M : zM} (hB : zmB M = true) : Jvm.Cond.code M.1 M.2.1 M.2.2.1 M.2.2.2.1 ∈ zW ∧ Jvm.Cond.initialized M.1.cls ∈ zW ∧ (bif Nat.beq M.2.2.2.2.1 0 then zin (.static M.1) else zin (.instanceMethod M.1)) = true ∧ M.2.2.1 ≤ 40 ∧ plainName M.1.cls = true ∧ (M.1.cls ≠ "java/lang/invoke/MethodHandle" ∧ M.1.cls ≠ "java/lang/invoke/VarHandle") := by
  unfold zmB zmG at hB
  simp only [Bool.and_eq_true] at hB
  exact ⟨zin_ok hB.1, zin_ok hB.2.1, hB.2.2.1, Nat.le_of_ble_eq_true hB.2.2.2.1, of_decide_eq_true hB.2.2.2.2.1, of_decide_eq_true hB.2.2.2.2.2⟩
theorem zcopy_no {j : Nat} {as : List zA} (hs : zs_copy E top al st h = .inr (.inr (.inl (j, as, st')))) : False := by
  unfold zs_copy at hs
  split at hs
  · rename_i n dp r sp q0
    split at hs
    · rename_i k1 n1 d1 ov1 k2 n2 d2 ov2 hg1 hg2
      cases hz : (zc3 E n dp sp n1 && ((Nat.beq k1 0 && Nat.beq k2 0) && (Nat.beq n1 n2 && Nat.ble n1 1000000))) with
      | false => rw [hz] at hs; cases hs
      | true => rw [hz] at hs; cases hs
    · cases hs
  · cases hs
theorem zmm_no {f : zE → zA → zA → zA ⊕ (Nat × Int)} {j : Nat} {as : List zA} (hs : zs_mm f E top al st h = .inr (.inr (.inl (j, as, st')))) : False := by
  unfold zs_mm at hs
  split at hs
  · rename_i b0 a0 st0
    cases hz : Nat.ble ((st0.map zca).sum) 8 with
    | false => rw [hz] at hs; cases hs
    | true =>
      rw [hz] at hs
      replace hs : zpu al st0 h (f E a0 b0) = .inr (.inr (.inl (j, as, st'))) := hs
      unfold zpu at hs
      split at hs <;> cases hs
  · cases hs
theorem zobj_no {j : Nat} {as : List zA} (hs : zs_obj E top al st h = .inr (.inr (.inl (j, as, st')))) : False := by
  unfold zs_obj at hs
  split at hs <;> cases hs
set_option maxHeartbeats 4000000 in
theorem zcall_ok {ins : Instr} {len r1 j d : Nat} {r2 : Int} {as : List zA} {r : Option zA} {h1 : zH} (hC : zCx p s m args meth c cc nL own D kk A g ini top) (hM : ∀ j M, zmt j = some M → zmB M = true ∧ zmV M = true) (hInit : ∀ j M, zmt j = some M → M.1.name = "<init>" → M.2.2.2.1 = none) (hb : zfB own nL ini len r1 r2 pc ins = true) (hd : decode cc pc = .ok (ins, len)) (hc : zisc ins = true) (hs : zsel pc r1 r2 ins E top al st h = .inr (.inr (.inl (j, as, st')))) (hsum : (st'.map zca).sum ≤ 8) (hco : zCo l g D kk d j as h r h1) (hm1 : h.1.1 ≤ h1.1.1) (hm2 : h.1.2 ≤ h1.1.2) (hRf : d + 1 ≤ R.frames) (hRl : 60 * d + 60 ≤ R.locals) (h0 : n0 ≤ h.1.1) (h01 : m0 ≤ h.1.2) (hr1 : h1.1.1 - n0 ≤ R.cells) (hr2 : h1.1.2 - m0 ≤ R.slots) (k : zWn p l e R s m args below meth c Q D kk A g ad0 nL n0 m0 (pc + len) al (zps r st') h1) : zWn p l e R s m args below meth c Q D kk A g ad0 nL n0 m0 pc al st h := by
  obtain ⟨M, hMj, hrk, hrc, hMet⟩ := hco
  obtain ⟨hB, hV⟩ := hM j M hMj
  obtain ⟨wc, wi, wk, wm, wp, wn⟩ := zmem hB
  have ec : h.1.1 - n0 + (h1.1.1 - h.1.1) = h1.1.1 - n0 := by omega
  have es : h.1.2 - m0 + (h1.1.2 - h.1.2) = h1.1.2 - m0 := by omega
  have hfit : h.1.1 - n0 + (h1.1.1 - h.1.1) ≤ R.cells ∧ h.1.2 - m0 + (h1.1.2 - h.1.2) ≤ R.slots := ⟨by omega, by omega⟩
  have hts := hC.2.2.2.2.1
  have hroom : (zRm d h h1).frames + 1 ≤ R.frames ∧ 8 + (M.2.2.1 + 11) + (zRm d h h1).locals ≤ R.locals := ⟨hRf, by show 8 + (M.2.2.1 + 11) + 60 * d ≤ _; omega⟩
  -- behind the call
  have fin : ∀ {ls : Array Slot} {H : Heap} {locs : List Loc} {ws : va_W} {lv : List (Nat × Value)} {rest : List Value}, lv_has ls nL lv → zLs g (ws.map (·.1)) al lv → zVs g (ws.map (·.1)) st' rest → zHr g kk ad0 h ws → len = 3 → ∀ (w : va_W) (H1 : Heap) (locs1 : List Loc) (vs : List Value), zHr g kk (ws.map (·.1)) h1 w → va_P D vwCl w H1 → va_D A w → va_S A s.heap H1 locs1 → zVs g (w.map (·.1)) (zps r []) vs → W p l e R s m args below meth c H1 locs1 (h.1.1 - n0 + (h1.1.1 - h.1.1)) (h.1.2 - m0 + (h1.1.2 - h.1.2)) Q (F0 m (pc + 3) ls (vs ++ rest)) := by
    intro ls H locs ws lv rest hl hL hF hh hlen w H1 locs1 vs hh1 hP1 hD1 hS1 hvs
    subst hlen
    rw [ec, es]
    obtain ⟨l0, e0⟩ := hh1.1.2
    obtain ⟨l1, e1⟩ := hh.1.2
    have hrest : zVs g (w.map (·.1)) st' rest := by rw [e0]; exact zVs_grow _ hF
    have hall : zVs g (w.map (·.1)) (zps r st') (vs ++ rest) := by
      have := zVs_app hvs hrest
      cases r with
      | none => exact this
      | some a => exact this
    exact k ls _ H1 locs1 ⟨w, lv, ⟨⟨hh1.1.1, ⟨l1 ++ l0, by rw [e0, e1, List.append_assoc]⟩⟩, hh1.2⟩, hl, by rw [e0]; exact zLs_grow _ hL, hall, hP1, hD1, hS1⟩
  have hwd : ∀ {ws : va_W} {rest : List Value}, zVs g (ws.map (·.1)) st' rest → ∀ ls sv, 2 * (F0 m pc ls sv).monitorRoom + (rest.map fun v => v.category).sum ≤ 8 := fun hF ls sv => by
    refine lv_room ?_
    rw [zVs_cat hF]
    exact hsum
  unfold zisc at hc
  split at hc
  · -- invokevirtual
    rename_i i
    have hb1 := (Bool.and_eq_true _ _).mp hb
    have hlen : len = 3 := Nat.eq_of_beq_eq_true hb1.1
    subst hlen
    have hs : zs_inv r1 r2.toNat E top al st h = .inr (.inr (.inl (j, as, st'))) := hs
    unfold zs_inv at hs
    split at hs
    · rename_i as0 o st0 htk
      cases hs
      have hb2 := hb1.2
      rw [hMj] at hb2
      simp only [Bool.and_eq_true] at hb2
      obtain ⟨hkn, hnin, hlk, hpar⟩ := hb2
      intro ls sv H locs ⟨ws, lv, hh, hl, hL, hF, hP, hD, hS⟩
      rcases ztk_ok r2.toNat hF (show zVs g (ws.map (·.1)) [] [] from trivial) htk with ⟨-, e2, -⟩ | ⟨As, rest0, rfl, hAs, hrest0, hAl⟩
      · cases e2
      · rw [List.append_nil] at hAs
        obtain ⟨vo, rest, rfl, hVo, hrest⟩ := zVs_cons hrest0
        obtain ⟨q, hq, rfl⟩ := id hVo
        have hFr := zfree hC.2.2.2.2.2.2.1 hD hS
        obtain ⟨ci, hci⟩ : ∃ ci, M.2.2.2.2.1 = ci + 1 := by
          cases hz : M.2.2.2.2.1 with
          | zero => rw [hz] at hkn; cases hkn
          | succ ci => exact ⟨ci, rfl⟩
        have hVV := hV
        unfold zmV zmW at hVV
        rw [hci] at hVV hrc wk
        simp only [Bool.and_eq_true] at hVV
        have hcl := zcl_ok ci (Nat.le_of_ble_eq_true hVV.1)
        have hnm : zRn ci = M.1.cls := of_decide_eq_true hVV.2.1
        have hsel : zin (.selects M.1.cls M.1 M.1) = true := by
          have := hVV.2.2
          rw [Bool.or_eq_true] at this
          rcases this with w9 | w9
          · exact absurd (of_decide_eq_true w9) (of_decide_eq_true hnin)
          · exact w9
        have hrecv : ∃ cell : Cell, H[q]? = some cell ∧ cell.vm.isStatics = false ∧ s.vm.findClass M.1.cls = some cell.cls := by
          have hrc : (match zgt h o with | some (.inl (c, _)) => Nat.beq c ci | _ => false) = true := hrc
          split at hrc
          · rename_i c9 fs9 hget
            have e9 := Nat.eq_of_beq_eq_true hrc
            subst e9
            obtain ⟨q1, e1, hw1, hc1⟩ := hh.2 _ _ hget
            cases zat hq hw1
            obtain ⟨vs1, rfl, -, -⟩ := hc1
            rw [← hnm]
            exact va_recv hC.2.2.2.2.2.1 hP (ci := c9) (q := (zRn c9, zTn c9, zN c9)) hcl.1 hw1
          · cases hrc
        have hmet := hMet ws (.ref q :: As) H.size ad0 hh ⟨hVo, hAs⟩
        refine zcall_core (a9 := (Value.ref q :: As).toArray) hrk (va_runV (C := M.1.cls) (As := As) (rest := rest) (n := r2.toNat) (maxL := M.2.2.1) (ret := M.2.2.2.1) (bytes := M.2.1) ⟨hC.1, hC.2.1, hC.2.2.1, hC.2.2.2.1, hts⟩ hmet ⟨callB_of r2.toNat hts (zgood wc) rfl rfl rfl (hts _ wi) (hts _ (zin_ok hlk)) ⟨wn.1, wn.2, of_decide_eq_true hpar⟩ hroom, hts _ (zin_ok wk), hts _ (zin_ok hsel)⟩ ⟨zPc_blind, hrecv, zPc_at hC.2.2.2.2.2.1 hC.2.2.2.2.2.2.2.1 hP hD hS hFr⟩ rfl hAl hl.1 rfl (hwd hrest _ _) hd hfit) hS hFr (fin (H := H) (locs := locs) hl hL hrest hh rfl)
    · cases hs
  · -- invokestatic
    rename_i i
    have hb1 := (Bool.and_eq_true _ _).mp hb
    have hlen : len = 3 := Nat.eq_of_beq_eq_true hb1.1
    subst hlen
    have hb2 := hb1.2
    cases hz1 : Nat.beq r1 1001 with
    | true =>
      replace hs : (bif Nat.beq r1 1001 then zs_copy else bif Nat.beq r1 1002 then zs_mm zmx else bif Nat.beq r1 1003 then zs_mm zmn else zs_ins r1 r2.toNat) E top al st h = .inr (.inr (.inl (j, as, st'))) := hs
      rw [hz1] at hs
      have hs : zs_copy E top al st h = .inr (.inr (.inl (j, as, st'))) := hs
      exact (zcopy_no hs).elim
    | false =>
      replace hs : (bif Nat.beq r1 1001 then zs_copy else bif Nat.beq r1 1002 then zs_mm zmx else bif Nat.beq r1 1003 then zs_mm zmn else zs_ins r1 r2.toNat) E top al st h = .inr (.inr (.inl (j, as, st'))) := hs
      rw [hz1] at hs hb2
      have hq2 : Nat.beq r1 1002 = false := by
        cases hz2 : Nat.beq r1 1002 with
        | false => rfl
        | true =>
          rw [hz2] at hs
          have hs : zs_mm zmx E top al st h = .inr (.inr (.inl (j, as, st'))) := hs
          exact (zmm_no hs).elim
      rw [hq2] at hs hb2
      have hq3 : Nat.beq r1 1003 = false := by
        cases hz2 : Nat.beq r1 1003 with
        | false => rfl
        | true =>
          rw [hz2] at hs
          have hs : zs_mm zmn E top al st h = .inr (.inr (.inl (j, as, st'))) := hs
          exact (zmm_no hs).elim
      rw [hq3] at hs hb2
      replace hs : zs_ins r1 r2.toNat E top al st h = .inr (.inr (.inl (j, as, st'))) := hs
      unfold zs_ins at hs
      split at hs
      rename_i as0 st0 htk
      cases hz2 : Nat.beq as0.length r2.toNat with
      | false => rw [hz2] at hs; cases hs
      | true =>
        rw [hz2] at hs
        cases hs
        have hlen2 := Nat.eq_of_beq_eq_true hz2
        have hb2 : (match zmt r1 with | some M => Nat.beq M.2.2.2.2.1 0 && (zlk2 zin own i M.1 && decide (zpar M.1 = some r2.toNat)) | none => false) = true := hb2
        rw [hMj] at hb2
        simp only [Bool.and_eq_true] at hb2
        obtain ⟨hkn, hlk, hpar⟩ := hb2
        rw [hkn] at wk
        intro ls sv H locs ⟨ws, lv, hh, hl, hL, hF, hP, hD, hS⟩
        rcases ztk_ok r2.toNat hF (show zVs g (ws.map (·.1)) [] [] from trivial) htk with ⟨e1, e2, e3⟩ | ⟨As, rest, rfl, hAs, hrest, hAl⟩
        · rw [e1] at hlen2
          have : (0 : Nat) = r2.toNat := hlen2
          omega
        · rw [List.append_nil] at hAs
          have hFr := zfree hC.2.2.2.2.2.2.1 hD hS
          have hmet := hMet ws As H.size ad0 hh hAs
          have hpre : PreS s H (zPc g D kk ws As H.size) As := ⟨zPc_blind, zPc_at hC.2.2.2.2.2.1 hC.2.2.2.2.2.2.2.1 hP hD hS hFr⟩
          unfold zlk2 at hlk
          rw [Bool.or_eq_true] at hlk
          rcases hlk with hlk | hlk
          · exact zcall_core (a9 := As.toArray) hrk (va_runS (As := As) (rest := rest) (n := r2.toNat) (maxL := M.2.2.1) (ret := M.2.2.2.1) (bytes := M.2.1) ⟨hC.1, hC.2.1, hC.2.2.1, hC.2.2.2.1, hts⟩ hmet ⟨callB_of r2.toNat hts (zgood wc) rfl rfl rfl (hts _ wi) (hts _ (zin_ok hlk)) ⟨wn.1, wn.2, of_decide_eq_true hpar⟩ hroom, hts _ (zin_ok wk)⟩ hpre rfl hAl hl.1 rfl (hwd hrest _ _) hd hfit) hS hFr (fin (H := H) (locs := locs) hl hL hrest hh rfl)
          · exact zcall_core (a9 := As.toArray) hrk (va_runSN (As := As) (rest := rest) (n := r2.toNat) (maxL := M.2.2.1) (ret := M.2.2.2.1) (bytes := M.2.1) ⟨hC.1, hC.2.1, hC.2.2.1, hC.2.2.2.1, hts⟩ hmet ⟨va_cnB r2.toNat hts (zgood wc) rfl rfl rfl (hC.2.2.2.2.2.2.2.1.1.2 _ (zin_nest hlk)) (hts _ wi) ⟨wn.1, wn.2, of_decide_eq_true hpar⟩ hroom, hts _ (zin_ok wk), trivial⟩ hpre rfl hAl hl.1 rfl (hwd hrest _ _) hd hfit) hS hFr (fin (H := H) (locs := locs) hl hL hrest hh rfl)
  · -- invokespecial
    rename_i i
    have hb1 := (Bool.and_eq_true _ _).mp hb
    have hlen : len = 3 := Nat.eq_of_beq_eq_true hb1.1
    subst hlen
    have hb2 := hb1.2
    have hs : (bif Nat.beq r1 1000 then zs_obj else zs_inv r1 r2.toNat) E top al st h = .inr (.inr (.inl (j, as, st'))) := hs
    cases hz1 : Nat.beq r1 1000 with
    | true =>
      rw [hz1] at hs
      have hs : zs_obj E top al st h = .inr (.inr (.inl (j, as, st'))) := hs
      exact (zobj_no hs).elim
    | false =>
      rw [hz1] at hs hb2
      have hs : zs_inv r1 r2.toNat E top al st h = .inr (.inr (.inl (j, as, st'))) := hs
      unfold zs_inv at hs
      split at hs
      · rename_i as0 o st0 htk
        cases hs
        have hb2 : (match zmt r1 with | some M => !(Nat.beq M.2.2.2.2.1 0) && (decide (M.1.name = "<init>") && (zlk2 zin own i M.1 && decide (zpar M.1 = some r2.toNat))) | none => false) = true := hb2
        rw [hMj] at hb2
        simp only [Bool.and_eq_true] at hb2
        obtain ⟨hkn, hin, hlk, hpar⟩ := hb2
        have hin : M.1.name = "<init>" := of_decide_eq_true hin
        have hkn : Nat.beq M.2.2.2.2.1 0 = false := by
          cases hz : Nat.beq M.2.2.2.2.1 0 with
          | false => rfl
          | true => rw [hz] at hkn; cases hkn
        rw [hkn] at wk
        have hret : M.2.2.2.1 = none := hInit _ M hMj hin
        intro ls sv H locs ⟨ws, lv, hh, hl, hL, hF, hP, hD, hS⟩
        rcases ztk_ok r2.toNat hF (show zVs g (ws.map (·.1)) [] [] from trivial) htk with ⟨-, e2, -⟩ | ⟨As, rest0, rfl, hAs, hrest0, hAl⟩
        · cases e2
        · rw [List.append_nil] at hAs
          obtain ⟨vo, rest, rfl, hVo, hrest⟩ := zVs_cons hrest0
          obtain ⟨q, hq, rfl⟩ := id hVo
          have hFr := zfree hC.2.2.2.2.2.2.1 hD hS
          have hmet := hMet ws (.ref q :: As) H.size ad0 hh ⟨hVo, hAs⟩
          have hpre : PreS s H (zPc g D kk ws (.ref q :: As) H.size) (.ref q :: As) := ⟨zPc_blind, zPc_at hC.2.2.2.2.2.1 hC.2.2.2.2.2.2.2.1 hP hD hS hFr⟩
          rw [hret] at hmet hrk wc
          unfold zlk2 at hlk
          rw [Bool.or_eq_true] at hlk
          rcases hlk with hlk | hlk
          · exact zcall_core (ret := none) (a9 := (Value.ref q :: As).toArray) hrk (va_runI (As := As) (rest := rest) (n := r2.toNat) (maxL := M.2.2.1) (bytes := M.2.1) ⟨hC.1, hC.2.1, hC.2.2.1, hC.2.2.2.1, hts⟩ hmet ⟨callB_of r2.toNat hts (zgood wc) rfl rfl rfl (hts _ wi) (hts _ (zin_ok hlk)) ⟨wn.1, wn.2, of_decide_eq_true hpar⟩ hroom, hin, hts _ (zin_ok wk)⟩ hpre rfl hAl hl.1 rfl (hwd hrest _ _) hd hfit) hS hFr (fin (H := H) (locs := locs) hl hL hrest hh rfl)
          · exact zcall_core (ret := none) (a9 := (Value.ref q :: As).toArray) hrk (va_runIN (As := As) (rest := rest) (n := r2.toNat) (maxL := M.2.2.1) (bytes := M.2.1) ⟨hC.1, hC.2.1, hC.2.2.1, hC.2.2.2.1, hts⟩ hmet ⟨va_cnB r2.toNat hts (zgood wc) rfl rfl rfl (hC.2.2.2.2.2.2.2.1.1.2 _ (zin_nest hlk)) (hts _ wi) ⟨wn.1, wn.2, of_decide_eq_true hpar⟩ hroom, hin, hts _ (zin_ok wk)⟩ hpre rfl hAl hl.1 rfl (hwd hrest _ _) hd hfit) hS hFr (fin (H := H) (locs := locs) hl hL hrest hh rfl)
      · cases hs
  · cases hc
end ZC
