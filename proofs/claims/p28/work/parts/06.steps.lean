/-! WHAT AN INSTRUCTION OF THE ENGINE MEANS ON THE MACHINE -/
noncomputable def zW : List Jvm.Cond := lw_tbl.filter goodWord
/-- a word on a link within a nest -/
noncomputable def zisN : Jvm.Cond → Bool
  | .methodLinkNest _ _ _ _ => true
  | _ => false
noncomputable def zNs : List Jvm.Cond := lw_tbl.filter zisN
theorem zW_in {w : Jvm.Cond} (h : w ∈ lw_tbl) (hg : goodWord w = true) : w ∈ zW := List.mem_filter.mpr ⟨h, hg⟩
abbrev zKs (kk : Nat → ClassId) : List (ClassId × FieldType) := [(kk 0, .int), (kk 1, .byte), (kk 2, .char), (kk 3, .boolean), (kk 4, .long), (kk 5, .object RX5), (kk 6, .object RX1), (kk 7, .array .int)]
/-- what is known of things outside: arrays that can be made, the two static tables -/
def zX (g : zG) (A : Nat → Prop) (U : State) (H : Heap) : Prop := (va_AO RX5 U ∧ ∀ w ∈ zNs, va_Nw w U) ∧ va_AO RX1 U ∧ va_AOA .int U ∧
  (va_Z "LetterDebts" "ABOVE" "[I" (.ref (g.2.1 0)) A U H ∧ va_T .int (g.2.1 0) 8 (fun j => .int (Int32.ofInt ((ztb 0).getD j 0))) A U H) ∧
  (va_Z "LetterDebts" "MARKS" "[I" (.ref (g.2.1 1)) A U H ∧ va_T .int (g.2.1 1) 8 (fun j => .int (Int32.ofInt ((ztb 1).getD j 0))) A U H)
def zCr (g : zG) (ad : List Nat) (kk : Nat → ClassId) : zC → va_E → Prop
  | .inl (ci, fs), e => ∃ vs, e = .inr (ci, vs) ∧ vs.length = zN ci ∧ ∀ k a, k < zN ci → zg fs k = some a → ∃ v, vs[k]? = some v ∧ zV g ad a v
  | .inr (k, n, d, ov), e => (k ≤ 3 ∧ ∃ f : Nat → Int32, e = .inl (kk k, n, .inl f) ∧ ∀ j, j < n → zV g ad (zag d ov j) (.int (f j))) ∨
    (k = 4 ∧ ∃ f : Nat → Int64, e = .inl (kk k, n, .inr (.inl f)) ∧ ∀ j, j < n → zV g ad (zag d ov j) (.long (f j))) ∨
    (5 ≤ k ∧ k ≤ 7 ∧ ∃ f : Nat → Option Nat, e = .inl (kk k, n, .inr (.inr (.inr (.inr f)))) ∧ ∀ j, j < n → zV g ad (zag d ov j) (va_rf (f j)))
def zHr (g : zG) (kk : Nat → ClassId) (ad0 : List Nat) (h : zH) (ws : va_W) : Prop := (ws.length = h.1.1 ∧ ∃ l0, ws.map (·.1) = ad0 ++ l0) ∧ ∀ i c, zgt h i = some c → ∃ q e, ws[i]? = some (q, e) ∧ zCr g (ws.map (·.1)) kk c e
def zCx (p : Program) (s : State) (m : MethodId) (args : Array Value) (meth : Method) (c : Code) (cc : ByteArray) (nL : Nat) (own : String) (D : va_G) (kk : Nat → ClassId) (A : Nat → Prop) (g : zG) (ini top : Bool) : Prop :=
  p.tables.exec = Jvm.exec ∧ c.code = cc ∧ c.maxLocals = nL ∧ s.vm.findClass own = some m.cls ∧ (∀ w ∈ zW, w.before args s = true) ∧ va_K D vwCl (zKs kk) s ∧ (∀ q, s.heap.size ≤ q → A q) ∧ zX g A s s.heap ∧ (ini = true → meth.name = "<init>") ∧ (top = true → va_X g.1 5 g.2.2 s s.heap ∧ g.1 < s.heap.size ∧ ¬ A g.1)
def zSt (s : State) (D : va_G) (kk : Nat → ClassId) (A : Nat → Prop) (g : zG) (ad0 : List Nat) (nL : Nat) (al : zL) (st : List zA) (h : zH) (ls : Array Slot) (sv : List Value) (H : Heap) (locs : List Loc) : Prop :=
  ∃ (ws : va_W) (lv : List (Nat × Value)), zHr g kk ad0 h ws ∧ lv_has ls nL lv ∧ zLs g (ws.map (·.1)) al lv ∧ zVs g (ws.map (·.1)) st sv ∧ va_P D vwCl ws H ∧ va_D A ws ∧ va_S A s.heap H locs
/-- from every state of which the engine's says the truth, the machine comes to Q -/
def zWn (p : Program) (l : Launch) (e : Env) (R : Room) (s : State) (m : MethodId) (args : Array Value) (below : List Frame) (meth : Method) (c : Code) (Q : State → Prop) (D : va_G) (kk : Nat → ClassId) (A : Nat → Prop) (g : zG) (ad0 : List Nat) (nL n0 m0 : Nat) (pc : Nat) (al : zL) (st : List zA) (h : zH) : Prop :=
  ∀ (ls : Array Slot) (sv : List Value) (H : Heap) (locs : List Loc), zSt s D kk A g ad0 nL al st h ls sv H locs → W p l e R s m args below meth c H locs (h.1.1 - n0) (h.1.2 - m0) Q (F0 m pc ls sv)
section ZH
variable {p : Program} {l : Launch} {e : Env} {R : Room} {s : State} {m : MethodId} {args : Array Value} {below : List Frame} {meth : Method} {c : Code} {Q : State → Prop} {D : va_G} {kk : Nat → ClassId} {A : Nat → Prop} {g : zG} {ad0 : List Nat} {nL n0 m0 : Nat} {cc : ByteArray} {own : String} {ini top : Bool} {E : zE} {pc : Nat} {al al' : zL} {st st' : List zA} {h h' : zH}
theorem zh_iload_n (hC : zCx p s m args meth c cc nL own D kk A g ini top) (hE : zEv g E) {n : Fin 4} (hd : decode cc pc = .ok (.iload_n n, 1)) (hs : zs_iload n E top al st h = .inl (al', st', h')) (k : zWn p l e R s m args below meth c Q D kk A g ad0 nL n0 m0 (pc + 1) al' st' h') : zWn p l e R s m args below meth c Q D kk A g ad0 nL n0 m0 pc al st h := by
  unfold zs_iload at hs
  split at hs
  · rename_i a ha
    cases hz : zint a with
    | false => rw [hz] at hs; cases hs
    | true =>
      rw [hz] at hs
      cases hs
      intro ls sv H locs ⟨ws, lv, hh, hl, hL, hF, hP, hD, hS⟩
      obtain ⟨v, hv, hV⟩ := zlk_ok hL ha
      obtain ⟨x, rfl⟩ := zV_int hz hV
      exact lv_iload_n hC.1 hC.2.1 hd rfl (hl.2.2 _ hv) (k ls _ H locs ⟨ws, lv, hh, hl, hL, ⟨hV, hF⟩, hP, hD, hS⟩)
  · cases hs
theorem zh_iload (hC : zCx p s m args meth c cc nL own D kk A g ini top) (hE : zEv g E) {n : Nat} (hd : decode cc pc = .ok (.iload n, 2)) (hs : zs_iload n E top al st h = .inl (al', st', h')) (k : zWn p l e R s m args below meth c Q D kk A g ad0 nL n0 m0 (pc + 2) al' st' h') : zWn p l e R s m args below meth c Q D kk A g ad0 nL n0 m0 pc al st h := by
  unfold zs_iload at hs
  split at hs
  · rename_i a ha
    cases hz : zint a with
    | false => rw [hz] at hs; cases hs
    | true =>
      rw [hz] at hs
      cases hs
      intro ls sv H locs ⟨ws, lv, hh, hl, hL, hF, hP, hD, hS⟩
      obtain ⟨v, hv, hV⟩ := zlk_ok hL ha
      obtain ⟨x, rfl⟩ := zV_int hz hV
      exact lv_iload hC.1 hC.2.1 hd (hl.2.2 _ hv) (k ls _ H locs ⟨ws, lv, hh, hl, hL, ⟨hV, hF⟩, hP, hD, hS⟩)
  · cases hs
theorem zh_aload_n (hC : zCx p s m args meth c cc nL own D kk A g ini top) (hE : zEv g E) {n : Fin 4} (hd : decode cc pc = .ok (.aload_n n, 1)) (hs : zs_aload n E top al st h = .inl (al', st', h')) (k : zWn p l e R s m args below meth c Q D kk A g ad0 nL n0 m0 (pc + 1) al' st' h') : zWn p l e R s m args below meth c Q D kk A g ad0 nL n0 m0 pc al st h := by
  unfold zs_aload at hs
  split at hs
  · rename_i i ha
    cases hs
    intro ls sv H locs ⟨ws, lv, hh, hl, hL, hF, hP, hD, hS⟩
    obtain ⟨v, hv, hV⟩ := zlk_ok hL ha
    obtain ⟨q, hq, rfl⟩ := id hV
    exact lv_aload_n hC.1 hC.2.1 hd rfl (hl.2.2 _ hv) (k ls _ H locs ⟨ws, lv, hh, hl, hL, ⟨hV, hF⟩, hP, hD, hS⟩)
  · rename_i i ha
    cases hs
    intro ls sv H locs ⟨ws, lv, hh, hl, hL, hF, hP, hD, hS⟩
    obtain ⟨v, hv, hV⟩ := zlk_ok hL ha
    obtain ⟨q, rfl⟩ : ∃ q, v = .ref q := by
      cases i with
      | zero => exact ⟨_, hV⟩
      | succ i => exact ⟨_, hV⟩
    exact lv_aload_n hC.1 hC.2.1 hd rfl (hl.2.2 _ hv) (k ls _ H locs ⟨ws, lv, hh, hl, hL, ⟨hV, hF⟩, hP, hD, hS⟩)
  · cases hs
theorem zh_aload (hC : zCx p s m args meth c cc nL own D kk A g ini top) (hE : zEv g E) {n : Nat} (hd : decode cc pc = .ok (.aload n, 2)) (hs : zs_aload n E top al st h = .inl (al', st', h')) (k : zWn p l e R s m args below meth c Q D kk A g ad0 nL n0 m0 (pc + 2) al' st' h') : zWn p l e R s m args below meth c Q D kk A g ad0 nL n0 m0 pc al st h := by
  unfold zs_aload at hs
  split at hs
  · rename_i i ha
    cases hs
    intro ls sv H locs ⟨ws, lv, hh, hl, hL, hF, hP, hD, hS⟩
    obtain ⟨v, hv, hV⟩ := zlk_ok hL ha
    obtain ⟨q, hq, rfl⟩ := id hV
    exact lv_aload hC.1 hC.2.1 hd (hl.2.2 _ hv) (k ls _ H locs ⟨ws, lv, hh, hl, hL, ⟨hV, hF⟩, hP, hD, hS⟩)
  · rename_i i ha
    cases hs
    intro ls sv H locs ⟨ws, lv, hh, hl, hL, hF, hP, hD, hS⟩
    obtain ⟨v, hv, hV⟩ := zlk_ok hL ha
    obtain ⟨q, rfl⟩ : ∃ q, v = .ref q := by
      cases i with
      | zero => exact ⟨_, hV⟩
      | succ i => exact ⟨_, hV⟩
    exact lv_aload hC.1 hC.2.1 hd (hl.2.2 _ hv) (k ls _ H locs ⟨ws, lv, hh, hl, hL, ⟨hV, hF⟩, hP, hD, hS⟩)
  · cases hs
theorem zh_lload_n (hC : zCx p s m args meth c cc nL own D kk A g ini top) (hE : zEv g E) {n : Fin 4} (hd : decode cc pc = .ok (.lload_n n, 1)) (hs : zs_lload n E top al st h = .inl (al', st', h')) (k : zWn p l e R s m args below meth c Q D kk A g ad0 nL n0 m0 (pc + 1) al' st' h') : zWn p l e R s m args below meth c Q D kk A g ad0 nL n0 m0 pc al st h := by
  unfold zs_lload at hs
  split at hs
  · rename_i o ha
    cases hs
    intro ls sv H locs ⟨ws, lv, hh, hl, hL, hF, hP, hD, hS⟩
    obtain ⟨v, hv, hV⟩ := zlk_ok hL ha
    obtain ⟨x, rfl, hx⟩ := id hV
    exact lv_lload_n hC.1 hC.2.1 hd rfl (hl.2.2 _ hv) (k ls _ H locs ⟨ws, lv, hh, hl, hL, ⟨hV, hF⟩, hP, hD, hS⟩)
  · cases hs
theorem zh_istore_n (hC : zCx p s m args meth c cc nL own D kk A g ini top) (hE : zEv g E) {n : Fin 4} (hn : (n : Nat) < nL) (hd : decode cc pc = .ok (.istore_n n, 1)) (hs : zs_istore n E top al st h = .inl (al', st', h')) (k : zWn p l e R s m args below meth c Q D kk A g ad0 nL n0 m0 (pc + 1) al' st' h') : zWn p l e R s m args below meth c Q D kk A g ad0 nL n0 m0 pc al st h := by
  unfold zs_istore at hs
  split at hs
  · rename_i a st0
    cases hz : zint a with
    | false => rw [hz] at hs; cases hs
    | true =>
      rw [hz] at hs
      cases hs
      intro ls sv H locs ⟨ws, lv, hh, hl, hL, hF, hP, hD, hS⟩
      obtain ⟨v, vs, rfl, hV, hF1⟩ := zVs_cons hF
      obtain ⟨x, rfl⟩ := zV_int hz hV
      exact lv_istore_n hC.1 hC.2.1 hd rfl hl hn rfl (fun ls' hl' => k ls' _ H locs ⟨ws, _, hh, hl', ⟨⟨rfl, hV⟩, zrl_ok hL⟩, hF1, hP, hD, hS⟩)
  · cases hs
theorem zh_istore (hC : zCx p s m args meth c cc nL own D kk A g ini top) (hE : zEv g E) {n : Nat} (hn : n < nL) (hd : decode cc pc = .ok (.istore n, 2)) (hs : zs_istore n E top al st h = .inl (al', st', h')) (k : zWn p l e R s m args below meth c Q D kk A g ad0 nL n0 m0 (pc + 2) al' st' h') : zWn p l e R s m args below meth c Q D kk A g ad0 nL n0 m0 pc al st h := by
  unfold zs_istore at hs
  split at hs
  · rename_i a st0
    cases hz : zint a with
    | false => rw [hz] at hs; cases hs
    | true =>
      rw [hz] at hs
      cases hs
      intro ls sv H locs ⟨ws, lv, hh, hl, hL, hF, hP, hD, hS⟩
      obtain ⟨v, vs, rfl, hV, hF1⟩ := zVs_cons hF
      obtain ⟨x, rfl⟩ := zV_int hz hV
      exact lv_istore hC.1 hC.2.1 hd hl hn rfl (fun ls' hl' => k ls' _ H locs ⟨ws, _, hh, hl', ⟨⟨rfl, hV⟩, zrl_ok hL⟩, hF1, hP, hD, hS⟩)
  · cases hs
theorem zh_astore_n (hC : zCx p s m args meth c cc nL own D kk A g ini top) (hE : zEv g E) {n : Fin 4} (hn : (n : Nat) < nL) (hd : decode cc pc = .ok (.astore_n n, 1)) (hs : zs_astore n E top al st h = .inl (al', st', h')) (k : zWn p l e R s m args below meth c Q D kk A g ad0 nL n0 m0 (pc + 1) al' st' h') : zWn p l e R s m args below meth c Q D kk A g ad0 nL n0 m0 pc al st h := by
  unfold zs_astore at hs
  split at hs
  · rename_i i st0
    cases hs
    intro ls sv H locs ⟨ws, lv, hh, hl, hL, hF, hP, hD, hS⟩
    obtain ⟨v, vs, rfl, hV, hF1⟩ := zVs_cons hF
    obtain ⟨q, hq, rfl⟩ := id hV
    exact lv_astore_n hC.1 hC.2.1 hd rfl hl hn rfl (fun ls' hl' => k ls' _ H locs ⟨ws, _, hh, hl', ⟨⟨rfl, hV⟩, zrl_ok hL⟩, hF1, hP, hD, hS⟩)
  · rename_i i st0
    cases hs
    intro ls sv H locs ⟨ws, lv, hh, hl, hL, hF, hP, hD, hS⟩
    obtain ⟨v, vs, rfl, hV, hF1⟩ := zVs_cons hF
    obtain ⟨q, rfl⟩ : ∃ q, v = .ref q := by
      cases i with
      | zero => exact ⟨_, hV⟩
      | succ i => exact ⟨_, hV⟩
    exact lv_astore_n hC.1 hC.2.1 hd rfl hl hn rfl (fun ls' hl' => k ls' _ H locs ⟨ws, _, hh, hl', ⟨⟨rfl, hV⟩, zrl_ok hL⟩, hF1, hP, hD, hS⟩)
  · cases hs
theorem zh_astore (hC : zCx p s m args meth c cc nL own D kk A g ini top) (hE : zEv g E) {n : Nat} (hn : n < nL) (hd : decode cc pc = .ok (.astore n, 2)) (hs : zs_astore n E top al st h = .inl (al', st', h')) (k : zWn p l e R s m args below meth c Q D kk A g ad0 nL n0 m0 (pc + 2) al' st' h') : zWn p l e R s m args below meth c Q D kk A g ad0 nL n0 m0 pc al st h := by
  unfold zs_astore at hs
  split at hs
  · rename_i i st0
    cases hs
    intro ls sv H locs ⟨ws, lv, hh, hl, hL, hF, hP, hD, hS⟩
    obtain ⟨v, vs, rfl, hV, hF1⟩ := zVs_cons hF
    obtain ⟨q, hq, rfl⟩ := id hV
    exact lv_astore hC.1 hC.2.1 hd hl hn rfl (fun ls' hl' => k ls' _ H locs ⟨ws, _, hh, hl', ⟨⟨rfl, hV⟩, zrl_ok hL⟩, hF1, hP, hD, hS⟩)
  · rename_i i st0
    cases hs
    intro ls sv H locs ⟨ws, lv, hh, hl, hL, hF, hP, hD, hS⟩
    obtain ⟨v, vs, rfl, hV, hF1⟩ := zVs_cons hF
    obtain ⟨q, rfl⟩ : ∃ q, v = .ref q := by
      cases i with
      | zero => exact ⟨_, hV⟩
      | succ i => exact ⟨_, hV⟩
    exact lv_astore hC.1 hC.2.1 hd hl hn rfl (fun ls' hl' => k ls' _ H locs ⟨ws, _, hh, hl', ⟨⟨rfl, hV⟩, zrl_ok hL⟩, hF1, hP, hD, hS⟩)
  · cases hs
theorem zh_lstore_n (hC : zCx p s m args meth c cc nL own D kk A g ini top) (hE : zEv g E) {n : Fin 4} (hn : (n : Nat) + 1 < nL) (hd : decode cc pc = .ok (.lstore_n n, 1)) (hs : zs_lstore n E top al st h = .inl (al', st', h')) (k : zWn p l e R s m args below meth c Q D kk A g ad0 nL n0 m0 (pc + 1) al' st' h') : zWn p l e R s m args below meth c Q D kk A g ad0 nL n0 m0 pc al st h := by
  unfold zs_lstore at hs
  split at hs
  · rename_i o st0
    cases hs
    intro ls sv H locs ⟨ws, lv, hh, hl, hL, hF, hP, hD, hS⟩
    obtain ⟨v, vs, rfl, hV, hF1⟩ := zVs_cons hF
    obtain ⟨x, rfl, hx⟩ := id hV
    exact lv_lstore_n hC.1 hC.2.1 hd rfl hl hn rfl (fun ls' hl' => k ls' _ H locs ⟨ws, _, hh, hl', ⟨⟨rfl, hV⟩, zrl2_ok hL⟩, hF1, hP, hD, hS⟩)
  · cases hs
theorem zh_iconst (hC : zCx p s m args meth c cc nL own D kk A g ini top) (hE : zEv g E) {n : Int} (hr : -2147483648 ≤ n ∧ n < 2147483648) (hd : decode cc pc = .ok (.iconst n, 1)) (hs : zs_push (zk n) E top al st h = .inl (al', st', h')) (k : zWn p l e R s m args below meth c Q D kk A g ad0 nL n0 m0 (pc + 1) al' st' h') : zWn p l e R s m args below meth c Q D kk A g ad0 nL n0 m0 pc al st h := by
  cases hs
  intro ls sv H locs ⟨ws, lv, hh, hl, hL, hF, hP, hD, hS⟩
  exact lv_iconst (v := Int32.ofInt n) hC.1 hC.2.1 hd rfl (k ls _ H locs ⟨ws, lv, hh, hl, hL, ⟨zV_k (fb_ofI hr.1 hr.2), hF⟩, hP, hD, hS⟩)
theorem zh_bipush (hC : zCx p s m args meth c cc nL own D kk A g ini top) (hE : zEv g E) {n : Int} (hr : -2147483648 ≤ n ∧ n < 2147483648) (hb : (Int8.ofInt n).toInt32 = Int32.ofInt n) (hd : decode cc pc = .ok (.bipush n, 2)) (hs : zs_push (zk n) E top al st h = .inl (al', st', h')) (k : zWn p l e R s m args below meth c Q D kk A g ad0 nL n0 m0 (pc + 2) al' st' h') : zWn p l e R s m args below meth c Q D kk A g ad0 nL n0 m0 pc al st h := by
  cases hs
  intro ls sv H locs ⟨ws, lv, hh, hl, hL, hF, hP, hD, hS⟩
  exact lv_bipush (v := Int32.ofInt n) hC.1 hC.2.1 hd hb (k ls _ H locs ⟨ws, lv, hh, hl, hL, ⟨zV_k (fb_ofI hr.1 hr.2), hF⟩, hP, hD, hS⟩)
theorem zh_sipush (hC : zCx p s m args meth c cc nL own D kk A g ini top) (hE : zEv g E) {n : Int} (hr : -2147483648 ≤ n ∧ n < 2147483648) (hb : (Int16.ofInt n).toInt32 = Int32.ofInt n) (hd : decode cc pc = .ok (.sipush n, 3)) (hs : zs_push (zk n) E top al st h = .inl (al', st', h')) (k : zWn p l e R s m args below meth c Q D kk A g ad0 nL n0 m0 (pc + 3) al' st' h') : zWn p l e R s m args below meth c Q D kk A g ad0 nL n0 m0 pc al st h := by
  cases hs
  intro ls sv H locs ⟨ws, lv, hh, hl, hL, hF, hP, hD, hS⟩
  exact lv_sipush (v := Int32.ofInt n) hC.1 hC.2.1 hd hb (k ls _ H locs ⟨ws, lv, hh, hl, hL, ⟨zV_k (fb_ofI hr.1 hr.2), hF⟩, hP, hD, hS⟩)
theorem zh_lconst (hC : zCx p s m args meth c cc nL own D kk A g ini top) (hE : zEv g E) {n : Fin 2} (hd : decode cc pc = .ok (.lconst n, 1)) (hs : zs_push (zlg (some (n : Nat))) E top al st h = .inl (al', st', h')) (k : zWn p l e R s m args below meth c Q D kk A g ad0 nL n0 m0 (pc + 1) al' st' h') : zWn p l e R s m args below meth c Q D kk A g ad0 nL n0 m0 pc al st h := by
  cases hs
  intro ls sv H locs ⟨ws, lv, hh, hl, hL, hF, hP, hD, hS⟩
  refine lv_lconst (v := Int64.ofNat (n : Nat)) hC.1 hC.2.1 hd rfl (k ls _ H locs ⟨ws, lv, hh, hl, hL, ⟨zV_lg (fun c hc => ?_), hF⟩, hP, hD, hS⟩)
  cases hc
  rcases n with ⟨n, hn⟩
  rcases (show n = 0 ∨ n = 1 by omega) with rfl | rfl <;> rfl
theorem zh_ldc_w (hC : zCx p s m args meth c cc nL own D kk A g ini top) (hE : zEv g E) {i : Nat} {v : Int32} (hw : Jvm.Cond.constant own i v ∈ zW) (hd : decode cc pc = .ok (.ldc_w i, 3)) (hs : zs_push (zk v.toInt) E top al st h = .inl (al', st', h')) (k : zWn p l e R s m args below meth c Q D kk A g ad0 nL n0 m0 (pc + 3) al' st' h') : zWn p l e R s m args below meth c Q D kk A g ad0 nL n0 m0 pc al st h := by
  cases hs
  intro ls sv H locs ⟨ws, lv, hh, hl, hL, hF, hP, hD, hS⟩
  exact lv_ldcw hC.1 hC.2.1 hC.2.2.2.1 (hC.2.2.2.2.1 _ hw) hd (k ls _ H locs ⟨ws, lv, hh, hl, hL, ⟨zV_k rfl, hF⟩, hP, hD, hS⟩)
theorem zh_ldc2_w (hC : zCx p s m args meth c cc nL own D kk A g ini top) (hE : zEv g E) {i : Nat} {v : Int64} (hw : Jvm.Cond.constantLong own i v ∈ zW) (hd : decode cc pc = .ok (.ldc2_w i, 3)) (hs : zs_push (zlg (some v.toInt)) E top al st h = .inl (al', st', h')) (k : zWn p l e R s m args below meth c Q D kk A g ad0 nL n0 m0 (pc + 3) al' st' h') : zWn p l e R s m args below meth c Q D kk A g ad0 nL n0 m0 pc al st h := by
  cases hs
  intro ls sv H locs ⟨ws, lv, hh, hl, hL, hF, hP, hD, hS⟩
  exact lv_ldc2 hC.1 hC.2.1 hC.2.2.2.1 (hC.2.2.2.2.1 _ hw) hd (k ls _ H locs ⟨ws, lv, hh, hl, hL, ⟨zV_lg (fun _ hc => by cases hc; rfl), hF⟩, hP, hD, hS⟩)
theorem zh_iadd (hC : zCx p s m args meth c cc nL own D kk A g ini top) (hE : zEv g E)  (hd : decode cc pc = .ok (.iadd, 1)) (hs : zs_bin (fun E a b => zad E a b false) E top al st h = .inl (al', st', h')) (k : zWn p l e R s m args below meth c Q D kk A g ad0 nL n0 m0 (pc + 1) al' st' h') : zWn p l e R s m args below meth c Q D kk A g ad0 nL n0 m0 pc al st h := by
  unfold zs_bin at hs
  split at hs
  · rename_i b a st0
    unfold zpu at hs
    split at hs
    · rename_i r hr
      cases hs
      intro ls sv H locs ⟨ws, lv, hh, hl, hL, hF, hP, hD, hS⟩
      obtain ⟨w, vs, rfl, hV2, hF1⟩ := zVs_cons hF
      obtain ⟨v, vs, rfl, hV, hF2⟩ := zVs_cons hF1
      obtain ⟨x, y, rfl, rfl, hR⟩ := zV_ad hE hr hV hV2
      exact lv_iadd hC.1 hC.2.1 hd (k ls _ H locs ⟨ws, lv, hh, hl, hL, ⟨hR, hF2⟩, hP, hD, hS⟩)
    · cases hs
  · cases hs
theorem zh_isub (hC : zCx p s m args meth c cc nL own D kk A g ini top) (hE : zEv g E)  (hd : decode cc pc = .ok (.isub, 1)) (hs : zs_bin (fun E a b => zad E a b true) E top al st h = .inl (al', st', h')) (k : zWn p l e R s m args below meth c Q D kk A g ad0 nL n0 m0 (pc + 1) al' st' h') : zWn p l e R s m args below meth c Q D kk A g ad0 nL n0 m0 pc al st h := by
  unfold zs_bin at hs
  split at hs
  · rename_i b a st0
    unfold zpu at hs
    split at hs
    · rename_i r hr
      cases hs
      intro ls sv H locs ⟨ws, lv, hh, hl, hL, hF, hP, hD, hS⟩
      obtain ⟨w, vs, rfl, hV2, hF1⟩ := zVs_cons hF
      obtain ⟨v, vs, rfl, hV, hF2⟩ := zVs_cons hF1
      obtain ⟨x, y, rfl, rfl, hR⟩ := zV_ad hE hr hV hV2
      exact lv_isub hC.1 hC.2.1 hd (k ls _ H locs ⟨ws, lv, hh, hl, hL, ⟨hR, hF2⟩, hP, hD, hS⟩)
    · cases hs
  · cases hs
theorem zh_imul (hC : zCx p s m args meth c cc nL own D kk A g ini top) (hE : zEv g E)  (hd : decode cc pc = .ok (.imul, 1)) (hs : zs_bin (fun E => zo2 E (· * ·)) E top al st h = .inl (al', st', h')) (k : zWn p l e R s m args below meth c Q D kk A g ad0 nL n0 m0 (pc + 1) al' st' h') : zWn p l e R s m args below meth c Q D kk A g ad0 nL n0 m0 pc al st h := by
  unfold zs_bin at hs
  split at hs
  · rename_i b a st0
    unfold zpu at hs
    split at hs
    · rename_i r hr
      cases hs
      intro ls sv H locs ⟨ws, lv, hh, hl, hL, hF, hP, hD, hS⟩
      obtain ⟨w, vs, rfl, hV2, hF1⟩ := zVs_cons hF
      obtain ⟨v, vs, rfl, hV, hF2⟩ := zVs_cons hF1
      obtain ⟨x, y, rfl, rfl, hR⟩ := zV_o2 hE hr hV hV2
      exact lv_imul hC.1 hC.2.1 hd (k ls _ H locs ⟨ws, lv, hh, hl, hL, ⟨hR, hF2⟩, hP, hD, hS⟩)
    · cases hs
  · cases hs
theorem zh_idiv (hC : zCx p s m args meth c cc nL own D kk A g ini top) (hE : zEv g E)  (hd : decode cc pc = .ok (.idiv, 1)) (hs : zs_bin (fun E => zdv E (· / ·)) E top al st h = .inl (al', st', h')) (k : zWn p l e R s m args below meth c Q D kk A g ad0 nL n0 m0 (pc + 1) al' st' h') : zWn p l e R s m args below meth c Q D kk A g ad0 nL n0 m0 pc al st h := by
  unfold zs_bin at hs
  split at hs
  · rename_i b a st0
    unfold zpu at hs
    split at hs
    · rename_i r hr
      cases hs
      intro ls sv H locs ⟨ws, lv, hh, hl, hL, hF, hP, hD, hS⟩
      obtain ⟨w, vs, rfl, hV2, hF1⟩ := zVs_cons hF
      obtain ⟨v, vs, rfl, hV, hF2⟩ := zVs_cons hF1
      obtain ⟨x, y, rfl, rfl, hne, hR⟩ := zV_dv hE hr hV hV2
      exact lv_idiv hC.1 hC.2.1 hd hne (k ls _ H locs ⟨ws, lv, hh, hl, hL, ⟨hR, hF2⟩, hP, hD, hS⟩)
    · cases hs
  · cases hs
theorem zh_irem (hC : zCx p s m args meth c cc nL own D kk A g ini top) (hE : zEv g E)  (hd : decode cc pc = .ok (.irem, 1)) (hs : zs_bin (fun E => zdv E (fun x y => x - x / y * y)) E top al st h = .inl (al', st', h')) (k : zWn p l e R s m args below meth c Q D kk A g ad0 nL n0 m0 (pc + 1) al' st' h') : zWn p l e R s m args below meth c Q D kk A g ad0 nL n0 m0 pc al st h := by
  unfold zs_bin at hs
  split at hs
  · rename_i b a st0
    unfold zpu at hs
    split at hs
    · rename_i r hr
      cases hs
      intro ls sv H locs ⟨ws, lv, hh, hl, hL, hF, hP, hD, hS⟩
      obtain ⟨w, vs, rfl, hV2, hF1⟩ := zVs_cons hF
      obtain ⟨v, vs, rfl, hV, hF2⟩ := zVs_cons hF1
      obtain ⟨x, y, rfl, rfl, hne, hR⟩ := zV_dv hE hr hV hV2
      exact lv_irem hC.1 hC.2.1 hd hne (k ls _ H locs ⟨ws, lv, hh, hl, hL, ⟨hR, hF2⟩, hP, hD, hS⟩)
    · cases hs
  · cases hs
theorem zh_iand (hC : zCx p s m args meth c cc nL own D kk A g ini top) (hE : zEv g E)  (hd : decode cc pc = .ok (.iand, 1)) (hs : zs_bin (zan) E top al st h = .inl (al', st', h')) (k : zWn p l e R s m args below meth c Q D kk A g ad0 nL n0 m0 (pc + 1) al' st' h') : zWn p l e R s m args below meth c Q D kk A g ad0 nL n0 m0 pc al st h := by
  unfold zs_bin at hs
  split at hs
  · rename_i b a st0
    unfold zpu at hs
    split at hs
    · rename_i r hr
      cases hs
      intro ls sv H locs ⟨ws, lv, hh, hl, hL, hF, hP, hD, hS⟩
      obtain ⟨w, vs, rfl, hV2, hF1⟩ := zVs_cons hF
      obtain ⟨v, vs, rfl, hV, hF2⟩ := zVs_cons hF1
      obtain ⟨x, y, rfl, rfl, hR⟩ := zV_an hE hr hV hV2
      exact lv_iand hC.1 hC.2.1 hd (k ls _ H locs ⟨ws, lv, hh, hl, hL, ⟨hR, hF2⟩, hP, hD, hS⟩)
    · cases hs
  · cases hs
theorem zh_ior (hC : zCx p s m args meth c cc nL own D kk A g ini top) (hE : zEv g E)  (hd : decode cc pc = .ok (.ior, 1)) (hs : zs_bin (fun E => zo2 E (· ||| ·)) E top al st h = .inl (al', st', h')) (k : zWn p l e R s m args below meth c Q D kk A g ad0 nL n0 m0 (pc + 1) al' st' h') : zWn p l e R s m args below meth c Q D kk A g ad0 nL n0 m0 pc al st h := by
  unfold zs_bin at hs
  split at hs
  · rename_i b a st0
    unfold zpu at hs
    split at hs
    · rename_i r hr
      cases hs
      intro ls sv H locs ⟨ws, lv, hh, hl, hL, hF, hP, hD, hS⟩
      obtain ⟨w, vs, rfl, hV2, hF1⟩ := zVs_cons hF
      obtain ⟨v, vs, rfl, hV, hF2⟩ := zVs_cons hF1
      obtain ⟨x, y, rfl, rfl, hR⟩ := zV_o2 hE hr hV hV2
      exact lv_ior hC.1 hC.2.1 hd (k ls _ H locs ⟨ws, lv, hh, hl, hL, ⟨hR, hF2⟩, hP, hD, hS⟩)
    · cases hs
  · cases hs
theorem zh_ixor (hC : zCx p s m args meth c cc nL own D kk A g ini top) (hE : zEv g E)  (hd : decode cc pc = .ok (.ixor, 1)) (hs : zs_bin (fun E => zo2 E (· ^^^ ·)) E top al st h = .inl (al', st', h')) (k : zWn p l e R s m args below meth c Q D kk A g ad0 nL n0 m0 (pc + 1) al' st' h') : zWn p l e R s m args below meth c Q D kk A g ad0 nL n0 m0 pc al st h := by
  unfold zs_bin at hs
  split at hs
  · rename_i b a st0
    unfold zpu at hs
    split at hs
    · rename_i r hr
      cases hs
      intro ls sv H locs ⟨ws, lv, hh, hl, hL, hF, hP, hD, hS⟩
      obtain ⟨w, vs, rfl, hV2, hF1⟩ := zVs_cons hF
      obtain ⟨v, vs, rfl, hV, hF2⟩ := zVs_cons hF1
      obtain ⟨x, y, rfl, rfl, hR⟩ := zV_o2 hE hr hV hV2
      exact lv_ixor hC.1 hC.2.1 hd (k ls _ H locs ⟨ws, lv, hh, hl, hL, ⟨hR, hF2⟩, hP, hD, hS⟩)
    · cases hs
  · cases hs
theorem zh_ishl (hC : zCx p s m args meth c cc nL own D kk A g ini top) (hE : zEv g E)  (hd : decode cc pc = .ok (.ishl, 1)) (hs : zs_bin (fun E => zo2 E (fun x y => x <<< (y &&& 31))) E top al st h = .inl (al', st', h')) (k : zWn p l e R s m args below meth c Q D kk A g ad0 nL n0 m0 (pc + 1) al' st' h') : zWn p l e R s m args below meth c Q D kk A g ad0 nL n0 m0 pc al st h := by
  unfold zs_bin at hs
  split at hs
  · rename_i b a st0
    unfold zpu at hs
    split at hs
    · rename_i r hr
      cases hs
      intro ls sv H locs ⟨ws, lv, hh, hl, hL, hF, hP, hD, hS⟩
      obtain ⟨w, vs, rfl, hV2, hF1⟩ := zVs_cons hF
      obtain ⟨v, vs, rfl, hV, hF2⟩ := zVs_cons hF1
      obtain ⟨x, y, rfl, rfl, hR⟩ := zV_o2 hE hr hV hV2
      exact lv_ishl hC.1 hC.2.1 hd (k ls _ H locs ⟨ws, lv, hh, hl, hL, ⟨hR, hF2⟩, hP, hD, hS⟩)
    · cases hs
  · cases hs
theorem zh_ishr (hC : zCx p s m args meth c cc nL own D kk A g ini top) (hE : zEv g E)  (hd : decode cc pc = .ok (.ishr, 1)) (hs : zs_bin (zsr) E top al st h = .inl (al', st', h')) (k : zWn p l e R s m args below meth c Q D kk A g ad0 nL n0 m0 (pc + 1) al' st' h') : zWn p l e R s m args below meth c Q D kk A g ad0 nL n0 m0 pc al st h := by
  unfold zs_bin at hs
  split at hs
  · rename_i b a st0
    unfold zpu at hs
    split at hs
    · rename_i r hr
      cases hs
      intro ls sv H locs ⟨ws, lv, hh, hl, hL, hF, hP, hD, hS⟩
      obtain ⟨w, vs, rfl, hV2, hF1⟩ := zVs_cons hF
      obtain ⟨v, vs, rfl, hV, hF2⟩ := zVs_cons hF1
      obtain ⟨x, y, rfl, rfl, hR⟩ := zV_sr hE hr hV hV2
      exact lv_ishr hC.1 hC.2.1 hd (k ls _ H locs ⟨ws, lv, hh, hl, hL, ⟨hR, hF2⟩, hP, hD, hS⟩)
    · cases hs
  · cases hs
theorem zh_iushr (hC : zCx p s m args meth c cc nL own D kk A g ini top) (hE : zEv g E)  (hd : decode cc pc = .ok (.iushr, 1)) (hs : zs_bin (fun E => zo2 E (fun x y => (x.toUInt32 >>> (y.toUInt32 &&& Int32.toUInt32 31)).toInt32)) E top al st h = .inl (al', st', h')) (k : zWn p l e R s m args below meth c Q D kk A g ad0 nL n0 m0 (pc + 1) al' st' h') : zWn p l e R s m args below meth c Q D kk A g ad0 nL n0 m0 pc al st h := by
  unfold zs_bin at hs
  split at hs
  · rename_i b a st0
    unfold zpu at hs
    split at hs
    · rename_i r hr
      cases hs
      intro ls sv H locs ⟨ws, lv, hh, hl, hL, hF, hP, hD, hS⟩
      obtain ⟨w, vs, rfl, hV2, hF1⟩ := zVs_cons hF
      obtain ⟨v, vs, rfl, hV, hF2⟩ := zVs_cons hF1
      obtain ⟨x, y, rfl, rfl, hR⟩ := zV_o2 hE hr hV hV2
      exact lv_iushr hC.1 hC.2.1 hd rfl (k ls _ H locs ⟨ws, lv, hh, hl, hL, ⟨hR, hF2⟩, hP, hD, hS⟩)
    · cases hs
  · cases hs
theorem zh_iinc (hC : zCx p s m args meth c cc nL own D kk A g ini top) (hE : zEv g E) {i : Nat} {n : Int} (hr : -2147483648 ≤ n ∧ n < 2147483648) (hn : i < nL) (hd : decode cc pc = .ok (.iinc i n, 3)) (hs : zs_iinc i n E top al st h = .inl (al', st', h')) (k : zWn p l e R s m args below meth c Q D kk A g ad0 nL n0 m0 (pc + 3) al' st' h') : zWn p l e R s m args below meth c Q D kk A g ad0 nL n0 m0 pc al st h := by
  unfold zs_iinc at hs
  split at hs
  · rename_i a ha
    cases hz : zint a with
    | false => rw [hz] at hs; cases hs
    | true =>
      rw [hz] at hs
      have hs : (match zad E a (zk n) false with | .inl v => zgo (zst al i v) st h | .inr q => zno q) = .inl (al', st', h') := hs
      split at hs
      · rename_i r hr2
        cases hs
        intro ls sv H locs ⟨ws, lv, hh, hl, hL, hF, hP, hD, hS⟩
        obtain ⟨v, hv, hV⟩ := zlk_ok hL ha
        obtain ⟨x, y, rfl, e2, hR⟩ := zV_ad hE hr2 hV (zV_k (fb_ofI hr.1 hr.2))
        cases e2
        obtain ⟨k0, hk0⟩ := List.getElem?_of_mem hv
        exact lv_iinc hC.1 hC.2.1 hd hl hk0 rfl hn rfl (fun ls' hl' => k ls' _ H locs ⟨ws, _, hh, hl', ⟨⟨rfl, hR⟩, zrl_ok hL⟩, hF, hP, hD, hS⟩)
      · cases hs
  · cases hs
theorem zV_l2 {ad : List Nat} {f : Int64 → Int64 → Int64} {a b : Option Int} {x y : Int64} (hx : ∀ c, a = some c → x.toInt = c) (hy : ∀ c, b = some c → y.toInt = c) : zV g ad (zlg (zl2 f a b)) (.long (f x y)) := by
  refine zV_lg (fun c hc => ?_)
  unfold zl2 at hc
  split at hc
  · rename_i a0 b0
    cases hc
    have e1 := hx _ rfl
    have e2 := hy _ rfl
    rw [← e1, ← e2, fb_asL, fb_asL]
  · cases hc
theorem zh_ladd (hC : zCx p s m args meth c cc nL own D kk A g ini top) (hE : zEv g E)  (hd : decode cc pc = .ok (.ladd, 1)) (hs : zs_l2 (· + ·) E top al st h = .inl (al', st', h')) (k : zWn p l e R s m args below meth c Q D kk A g ad0 nL n0 m0 (pc + 1) al' st' h') : zWn p l e R s m args below meth c Q D kk A g ad0 nL n0 m0 pc al st h := by
  unfold zs_l2 at hs
  split at hs
  · rename_i b a st0
    cases hs
    intro ls sv H locs ⟨ws, lv, hh, hl, hL, hF, hP, hD, hS⟩
    obtain ⟨w, vs, rfl, hV2, hF1⟩ := zVs_cons hF
    obtain ⟨v, vs, rfl, hV, hF2⟩ := zVs_cons hF1
    obtain ⟨y, rfl, hy⟩ := hV2
    obtain ⟨x, rfl, hx⟩ := hV
    exact lv_ladd hC.1 hC.2.1 hd (k ls _ H locs ⟨ws, lv, hh, hl, hL, ⟨zV_l2 hx hy, hF2⟩, hP, hD, hS⟩)
  · cases hs
theorem zh_lmul (hC : zCx p s m args meth c cc nL own D kk A g ini top) (hE : zEv g E)  (hd : decode cc pc = .ok (.lmul, 1)) (hs : zs_l2 (· * ·) E top al st h = .inl (al', st', h')) (k : zWn p l e R s m args below meth c Q D kk A g ad0 nL n0 m0 (pc + 1) al' st' h') : zWn p l e R s m args below meth c Q D kk A g ad0 nL n0 m0 pc al st h := by
  unfold zs_l2 at hs
  split at hs
  · rename_i b a st0
    cases hs
    intro ls sv H locs ⟨ws, lv, hh, hl, hL, hF, hP, hD, hS⟩
    obtain ⟨w, vs, rfl, hV2, hF1⟩ := zVs_cons hF
    obtain ⟨v, vs, rfl, hV, hF2⟩ := zVs_cons hF1
    obtain ⟨y, rfl, hy⟩ := hV2
    obtain ⟨x, rfl, hx⟩ := hV
    exact lv_lmul hC.1 hC.2.1 hd (k ls _ H locs ⟨ws, lv, hh, hl, hL, ⟨zV_l2 hx hy, hF2⟩, hP, hD, hS⟩)
  · cases hs
theorem zh_land (hC : zCx p s m args meth c cc nL own D kk A g ini top) (hE : zEv g E)  (hd : decode cc pc = .ok (.land, 1)) (hs : zs_l2 (· &&& ·) E top al st h = .inl (al', st', h')) (k : zWn p l e R s m args below meth c Q D kk A g ad0 nL n0 m0 (pc + 1) al' st' h') : zWn p l e R s m args below meth c Q D kk A g ad0 nL n0 m0 pc al st h := by
  unfold zs_l2 at hs
  split at hs
  · rename_i b a st0
    cases hs
    intro ls sv H locs ⟨ws, lv, hh, hl, hL, hF, hP, hD, hS⟩
    obtain ⟨w, vs, rfl, hV2, hF1⟩ := zVs_cons hF
    obtain ⟨v, vs, rfl, hV, hF2⟩ := zVs_cons hF1
    obtain ⟨y, rfl, hy⟩ := hV2
    obtain ⟨x, rfl, hx⟩ := hV
    exact lv_land hC.1 hC.2.1 hd (k ls _ H locs ⟨ws, lv, hh, hl, hL, ⟨zV_l2 hx hy, hF2⟩, hP, hD, hS⟩)
  · cases hs
theorem zh_lor (hC : zCx p s m args meth c cc nL own D kk A g ini top) (hE : zEv g E)  (hd : decode cc pc = .ok (.lor, 1)) (hs : zs_l2 (· ||| ·) E top al st h = .inl (al', st', h')) (k : zWn p l e R s m args below meth c Q D kk A g ad0 nL n0 m0 (pc + 1) al' st' h') : zWn p l e R s m args below meth c Q D kk A g ad0 nL n0 m0 pc al st h := by
  unfold zs_l2 at hs
  split at hs
  · rename_i b a st0
    cases hs
    intro ls sv H locs ⟨ws, lv, hh, hl, hL, hF, hP, hD, hS⟩
    obtain ⟨w, vs, rfl, hV2, hF1⟩ := zVs_cons hF
    obtain ⟨v, vs, rfl, hV, hF2⟩ := zVs_cons hF1
    obtain ⟨y, rfl, hy⟩ := hV2
    obtain ⟨x, rfl, hx⟩ := hV
    exact lv_lor hC.1 hC.2.1 hd (k ls _ H locs ⟨ws, lv, hh, hl, hL, ⟨zV_l2 hx hy, hF2⟩, hP, hD, hS⟩)
  · cases hs
theorem zh_lrem (hC : zCx p s m args meth c cc nL own D kk A g ini top) (hE : zEv g E)  (hd : decode cc pc = .ok (.lrem, 1)) (hs : zs_lrem E top al st h = .inl (al', st', h')) (k : zWn p l e R s m args below meth c Q D kk A g ad0 nL n0 m0 (pc + 1) al' st' h') : zWn p l e R s m args below meth c Q D kk A g ad0 nL n0 m0 pc al st h := by
  unfold zs_lrem at hs
  split at hs
  · rename_i b a st0
    cases hz : zeq (Int64.ofInt b).toInt 0 with
    | true => rw [hz] at hs; cases hs
    | false =>
      rw [hz] at hs
      cases hs
      intro ls sv H locs ⟨ws, lv, hh, hl, hL, hF, hP, hD, hS⟩
      obtain ⟨w, vs, rfl, hV2, hF1⟩ := zVs_cons hF
      obtain ⟨v, vs, rfl, hV, hF2⟩ := zVs_cons hF1
      obtain ⟨y, rfl, hy⟩ := hV2
      obtain ⟨x, rfl, hx⟩ := hV
      have hne : ¬ y = 0 := fun h0 => by
        have e1 := hy _ rfl
        rw [← e1, fb_asL, h0] at hz
        exact absurd hz (by decide)
      exact lv_lrem hC.1 hC.2.1 hd hne (k ls _ H locs ⟨ws, lv, hh, hl, hL, ⟨zV_l2 (f := fun x y => x - x / y * y) hx hy, hF2⟩, hP, hD, hS⟩)
  · cases hs
theorem zh_lshl (hC : zCx p s m args meth c cc nL own D kk A g ini top) (hE : zEv g E)  (hd : decode cc pc = .ok (.lshl, 1)) (hs : zs_lsh E top al st h = .inl (al', st', h')) (k : zWn p l e R s m args below meth c Q D kk A g ad0 nL n0 m0 (pc + 1) al' st' h') : zWn p l e R s m args below meth c Q D kk A g ad0 nL n0 m0 pc al st h := by
  unfold zs_lsh at hs
  split at hs
  · rename_i b a st0
    cases hz : zint b with
    | false => rw [hz] at hs; cases hs
    | true =>
      rw [hz] at hs
      cases hs
      intro ls sv H locs ⟨ws, lv, hh, hl, hL, hF, hP, hD, hS⟩
      obtain ⟨w, vs, rfl, hV2, hF1⟩ := zVs_cons hF
      obtain ⟨v, vs, rfl, hV, hF2⟩ := zVs_cons hF1
      obtain ⟨y, rfl⟩ := zV_int hz hV2
      obtain ⟨x, rfl, hx⟩ := hV
      exact lv_lshl hC.1 hC.2.1 hd rfl (k ls _ H locs ⟨ws, lv, hh, hl, hL, ⟨zV_lg (fun _ hc => by cases hc), hF2⟩, hP, hD, hS⟩)
  · cases hs
theorem zh_lshr (hC : zCx p s m args meth c cc nL own D kk A g ini top) (hE : zEv g E)  (hd : decode cc pc = .ok (.lshr, 1)) (hs : zs_lsh E top al st h = .inl (al', st', h')) (k : zWn p l e R s m args below meth c Q D kk A g ad0 nL n0 m0 (pc + 1) al' st' h') : zWn p l e R s m args below meth c Q D kk A g ad0 nL n0 m0 pc al st h := by
  unfold zs_lsh at hs
  split at hs
  · rename_i b a st0
    cases hz : zint b with
    | false => rw [hz] at hs; cases hs
    | true =>
      rw [hz] at hs
      cases hs
      intro ls sv H locs ⟨ws, lv, hh, hl, hL, hF, hP, hD, hS⟩
      obtain ⟨w, vs, rfl, hV2, hF1⟩ := zVs_cons hF
      obtain ⟨v, vs, rfl, hV, hF2⟩ := zVs_cons hF1
      obtain ⟨y, rfl⟩ := zV_int hz hV2
      obtain ⟨x, rfl, hx⟩ := hV
      exact lv_lshr hC.1 hC.2.1 hd rfl (k ls _ H locs ⟨ws, lv, hh, hl, hL, ⟨zV_lg (fun _ hc => by cases hc), hF2⟩, hP, hD, hS⟩)
  · cases hs
theorem zh_lushr (hC : zCx p s m args meth c cc nL own D kk A g ini top) (hE : zEv g E)  (hd : decode cc pc = .ok (.lushr, 1)) (hs : zs_lsh E top al st h = .inl (al', st', h')) (k : zWn p l e R s m args below meth c Q D kk A g ad0 nL n0 m0 (pc + 1) al' st' h') : zWn p l e R s m args below meth c Q D kk A g ad0 nL n0 m0 pc al st h := by
  unfold zs_lsh at hs
  split at hs
  · rename_i b a st0
    cases hz : zint b with
    | false => rw [hz] at hs; cases hs
    | true =>
      rw [hz] at hs
      cases hs
      intro ls sv H locs ⟨ws, lv, hh, hl, hL, hF, hP, hD, hS⟩
      obtain ⟨w, vs, rfl, hV2, hF1⟩ := zVs_cons hF
      obtain ⟨v, vs, rfl, hV, hF2⟩ := zVs_cons hF1
      obtain ⟨y, rfl⟩ := zV_int hz hV2
      obtain ⟨x, rfl, hx⟩ := hV
      exact lv_lushr hC.1 hC.2.1 hd rfl (k ls _ H locs ⟨ws, lv, hh, hl, hL, ⟨zV_lg (fun _ hc => by cases hc), hF2⟩, hP, hD, hS⟩)
  · cases hs
theorem zh_i2l (hC : zCx p s m args meth c cc nL own D kk A g ini top) (hE : zEv g E)  (hd : decode cc pc = .ok (.i2l, 1)) (hs : zs_i2l E top al st h = .inl (al', st', h')) (k : zWn p l e R s m args below meth c Q D kk A g ad0 nL n0 m0 (pc + 1) al' st' h') : zWn p l e R s m args below meth c Q D kk A g ad0 nL n0 m0 pc al st h := by
  unfold zs_i2l at hs
  split at hs
  · rename_i a st0
    cases hz : zint a with
    | false => rw [hz] at hs; cases hs
    | true =>
      rw [hz] at hs
      cases hs
      intro ls sv H locs ⟨ws, lv, hh, hl, hL, hF, hP, hD, hS⟩
      obtain ⟨v, vs, rfl, hV, hF1⟩ := zVs_cons hF
      obtain ⟨x, rfl⟩ := zV_int hz hV
      refine lv_i2l hC.1 hC.2.1 hd rfl (k ls _ H locs ⟨ws, lv, hh, hl, hL, ⟨zV_lg (fun c hc => ?_), hF1⟩, hP, hD, hS⟩)
      obtain ⟨y, e1, e2⟩ := zV_cn hE hc hV
      cases e1
      rw [← e2]
      exact Int32.toInt_toInt64 x
  · cases hs
theorem zh_l2i (hC : zCx p s m args meth c cc nL own D kk A g ini top) (hE : zEv g E)  (hd : decode cc pc = .ok (.l2i, 1)) (hs : zs_l2i E top al st h = .inl (al', st', h')) (k : zWn p l e R s m args below meth c Q D kk A g ad0 nL n0 m0 (pc + 1) al' st' h') : zWn p l e R s m args below meth c Q D kk A g ad0 nL n0 m0 pc al st h := by
  unfold zs_l2i at hs
  split at hs
  · rename_i c0 st0
    cases hs
    intro ls sv H locs ⟨ws, lv, hh, hl, hL, hF, hP, hD, hS⟩
    obtain ⟨v, vs, rfl, hV, hF1⟩ := zVs_cons hF
    obtain ⟨x, rfl, hx⟩ := hV
    refine lv_l2i hC.1 hC.2.1 hd rfl (k ls _ H locs ⟨ws, lv, hh, hl, hL, ⟨zV_k ?_, hF1⟩, hP, hD, hS⟩)
    rw [← hx _ rfl, fb_asL]
  · rename_i st0
    cases hs
    intro ls sv H locs ⟨ws, lv, hh, hl, hL, hF, hP, hD, hS⟩
    obtain ⟨v, vs, rfl, hV, hF1⟩ := zVs_cons hF
    obtain ⟨x, rfl, hx⟩ := hV
    exact lv_l2i hC.1 hC.2.1 hd rfl (k ls _ H locs ⟨ws, lv, hh, hl, hL, ⟨zV_z _, hF1⟩, hP, hD, hS⟩)
  · cases hs
theorem zh_i2b (hC : zCx p s m args meth c cc nL own D kk A g ini top) (hE : zEv g E)  (hd : decode cc pc = .ok (.i2b, 1)) (hs : zs_i2x E top al st h = .inl (al', st', h')) (k : zWn p l e R s m args below meth c Q D kk A g ad0 nL n0 m0 (pc + 1) al' st' h') : zWn p l e R s m args below meth c Q D kk A g ad0 nL n0 m0 pc al st h := by
  unfold zs_i2x at hs
  split at hs
  · rename_i a st0
    cases hz : zint a with
    | false => rw [hz] at hs; cases hs
    | true =>
      rw [hz] at hs
      cases hs
      intro ls sv H locs ⟨ws, lv, hh, hl, hL, hF, hP, hD, hS⟩
      obtain ⟨v, vs, rfl, hV, hF1⟩ := zVs_cons hF
      obtain ⟨x, rfl⟩ := zV_int hz hV
      exact lv_i2b hC.1 hC.2.1 hd rfl (k ls _ H locs ⟨ws, lv, hh, hl, hL, ⟨zV_z _, hF1⟩, hP, hD, hS⟩)
  · cases hs
theorem zh_i2c (hC : zCx p s m args meth c cc nL own D kk A g ini top) (hE : zEv g E)  (hd : decode cc pc = .ok (.i2c, 1)) (hs : zs_i2x E top al st h = .inl (al', st', h')) (k : zWn p l e R s m args below meth c Q D kk A g ad0 nL n0 m0 (pc + 1) al' st' h') : zWn p l e R s m args below meth c Q D kk A g ad0 nL n0 m0 pc al st h := by
  unfold zs_i2x at hs
  split at hs
  · rename_i a st0
    cases hz : zint a with
    | false => rw [hz] at hs; cases hs
    | true =>
      rw [hz] at hs
      cases hs
      intro ls sv H locs ⟨ws, lv, hh, hl, hL, hF, hP, hD, hS⟩
      obtain ⟨v, vs, rfl, hV, hF1⟩ := zVs_cons hF
      obtain ⟨x, rfl⟩ := zV_int hz hV
      exact lv_i2c hC.1 hC.2.1 hd rfl (k ls _ H locs ⟨ws, lv, hh, hl, hL, ⟨zV_z _, hF1⟩, hP, hD, hS⟩)
  · cases hs
theorem zh_lcmp (hC : zCx p s m args meth c cc nL own D kk A g ini top) (hE : zEv g E)  (hd : decode cc pc = .ok (.lcmp, 1)) (hs : zs_lcmp E top al st h = .inl (al', st', h')) (k : zWn p l e R s m args below meth c Q D kk A g ad0 nL n0 m0 (pc + 1) al' st' h') : zWn p l e R s m args below meth c Q D kk A g ad0 nL n0 m0 pc al st h := by
  unfold zs_lcmp at hs
  split at hs
  · rename_i b0 a0 st0
    cases hs
    intro ls sv H locs ⟨ws, lv, hh, hl, hL, hF, hP, hD, hS⟩
    obtain ⟨w, vs, rfl, hV2, hF1⟩ := zVs_cons hF
    obtain ⟨v, vs, rfl, hV, hF2⟩ := zVs_cons hF1
    obtain ⟨y, rfl, hy⟩ := hV2
    obtain ⟨x, rfl, hx⟩ := hV
    refine W.lcmp hC.1 hC.2.1 hd (k ls _ H locs ⟨ws, lv, hh, hl, hL, ⟨zV_k ?_, hF2⟩, hP, hD, hS⟩)
    have e1 := hx _ rfl
    have e2 := hy _ rfl
    unfold lg_cmp
    cases h1 : zlt b0 a0 with
    | true =>
      have := zlt_iff.mp h1
      have h3 : y < x := (fa_lt64 _ _).mpr (by omega)
      simp only [h3, if_true]
      rfl
    | false =>
      have hn : ¬ b0 < a0 := fun q => by rw [zlt_iff.mpr q] at h1; cases h1
      have h3 : ¬ y < x := fun q => hn (by have := (fa_lt64 _ _).mp q; omega)
      cases h2 : zeq a0 b0 with
      | true =>
        have := zeq_iff.mp h2
        have h4 : x = y := (fa_eq64 _ _).mpr (by omega)
        simp only [h3, h4, if_true, if_false]
        first | rfl | (simp; done)
      | false =>
        have hn2 : ¬ a0 = b0 := fun q => by rw [zeq_iff.mpr q] at h2; cases h2
        have h4 : ¬ x = y := fun q => hn2 (by have := (fa_eq64 _ _).mp q; omega)
        simp only [h3, h4, if_false]
        first | rfl | (simp; done)
  · cases hs
theorem zh_dup (hC : zCx p s m args meth c cc nL own D kk A g ini top) (hE : zEv g E)  (hd : decode cc pc = .ok (.dup, 1)) (hs : zs_dup E top al st h = .inl (al', st', h')) (k : zWn p l e R s m args below meth c Q D kk A g ad0 nL n0 m0 (pc + 1) al' st' h') : zWn p l e R s m args below meth c Q D kk A g ad0 nL n0 m0 pc al st h := by
  unfold zs_dup at hs
  split at hs
  · rename_i a st0
    cases hz : Nat.beq (zca a) 1 with
    | false => rw [hz] at hs; cases hs
    | true =>
      rw [hz] at hs
      cases hs
      intro ls sv H locs ⟨ws, lv, hh, hl, hL, hF, hP, hD, hS⟩
      obtain ⟨v, vs, rfl, hV, hF1⟩ := zVs_cons hF
      exact lv_dup hC.1 hC.2.1 hd ((zV_cat hV).trans (Nat.eq_of_beq_eq_true hz)) (k ls _ H locs ⟨ws, lv, hh, hl, hL, ⟨hV, hV, hF1⟩, hP, hD, hS⟩)
  · cases hs
theorem zh_pop (hC : zCx p s m args meth c cc nL own D kk A g ini top) (hE : zEv g E)  (hd : decode cc pc = .ok (.pop, 1)) (hs : zs_pop E top al st h = .inl (al', st', h')) (k : zWn p l e R s m args below meth c Q D kk A g ad0 nL n0 m0 (pc + 1) al' st' h') : zWn p l e R s m args below meth c Q D kk A g ad0 nL n0 m0 pc al st h := by
  unfold zs_pop at hs
  split at hs
  · rename_i a st0
    cases hz : Nat.beq (zca a) 1 with
    | false => rw [hz] at hs; cases hs
    | true =>
      rw [hz] at hs
      cases hs
      intro ls sv H locs ⟨ws, lv, hh, hl, hL, hF, hP, hD, hS⟩
      obtain ⟨v, vs, rfl, hV, hF1⟩ := zVs_cons hF
      exact lv_pop hC.1 hC.2.1 hd ((zV_cat hV).trans (Nat.eq_of_beq_eq_true hz)) (k ls _ H locs ⟨ws, lv, hh, hl, hL, hF1, hP, hD, hS⟩)
  · cases hs
theorem zh_dup2 (hC : zCx p s m args meth c cc nL own D kk A g ini top) (hE : zEv g E)  (hd : decode cc pc = .ok (.dup2, 1)) (hs : zs_dup2 E top al st h = .inl (al', st', h')) (k : zWn p l e R s m args below meth c Q D kk A g ad0 nL n0 m0 (pc + 1) al' st' h') : zWn p l e R s m args below meth c Q D kk A g ad0 nL n0 m0 pc al st h := by
  unfold zs_dup2 at hs
  split at hs
  · rename_i a b st0
    cases hz : (Nat.beq (zca a) 1 && Nat.beq (zca b) 1) with
    | false => rw [hz] at hs; cases hs
    | true =>
      rw [hz] at hs
      cases hs
      rw [Bool.and_eq_true] at hz
      intro ls sv H locs ⟨ws, lv, hh, hl, hL, hF, hP, hD, hS⟩
      obtain ⟨v, vs, rfl, hV, hF1⟩ := zVs_cons hF
      obtain ⟨w, vs, rfl, hV2, hF2⟩ := zVs_cons hF1
      exact lv_dup2_11 hC.1 hC.2.1 hd ((zV_cat hV).trans (Nat.eq_of_beq_eq_true hz.1)) ((zV_cat hV2).trans (Nat.eq_of_beq_eq_true hz.2)) (k ls _ H locs ⟨ws, lv, hh, hl, hL, ⟨hV, hV2, hV, hV2, hF2⟩, hP, hD, hS⟩)
  · cases hs
end ZH
