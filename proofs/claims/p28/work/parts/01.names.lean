/-! ===== BEGIN words of one list among another's, by their places ===== -/
theorem goodIn_r {big : List Cond} (ws : List Cond) (ps : List Nat) (hp : ws = ps.filterMap (fun i => big[i]?)) (h : ws.all goodWord = true) : GoodIn big ws := by
  intro w hw
  have h1 := List.all_eq_true.mp h w hw
  rw [hp] at hw
  obtain ⟨i, -, hi⟩ := List.mem_filterMap.mp hw
  have hm : w ∈ big := by first | exact List.mem_of_getElem? hi | exact List.getElem?_mem hi
  exact ⟨hm, good_of_word h1⟩
theorem goodIn_app {big a b : List Cond} (ha : GoodIn big a) (hb : GoodIn big b) : GoodIn big (a ++ b) := fun w h => (List.mem_append.mp h).elim (ha w) (hb w)
theorem goodIn_ca {big a b : List Cond} {c : Cond} (ha : GoodIn big (c :: a)) (hb : GoodIn big b) : GoodIn big (c :: (a ++ b)) := fun w h => (List.mem_cons.mp h).elim (fun e => ha w (List.mem_cons.mpr (Or.inl e))) (fun h => (List.mem_append.mp h).elim (fun h => ha w (List.mem_cons.mpr (Or.inr h))) (hb w))
theorem goodIn_sub {big ws : List Cond} (hm : ∀ w ∈ ws, w ∈ big) (h : ws.all goodWord = true) : GoodIn big ws := fun w hw => ⟨hm w hw, good_of_word (List.all_eq_true.mp h w hw)⟩
/-! ===== END ===== -/

/-! ===== BEGIN new T[n][m]: the outer array a place, the inner ones among the pooled ===== -/
/-- f, but v at every address of l -/
def vr_up {α : Type} (f : Nat → α) (l : List Nat) (v : α) : Nat → α := fun a => if a ∈ l then v else f a
theorem vr_up_in {α : Type} {f : Nat → α} {l : List Nat} {v : α} {a : Nat} (h : a ∈ l) : vr_up f l v a = v := if_pos h
theorem vr_up_ne {α : Type} {f : Nat → α} {l : List Nat} {v : α} {a : Nat} (h : a ∉ l) : vr_up f l v a = f a := if_neg h
theorem vr_rows {L l : List Nat} {f : Nat → va_E} {e : va_E} (h : ∀ a, a ∈ l → a ∉ L) : va_pl L f ++ l.map (fun a => (a, e)) = va_pl (L ++ l) (vr_up f l e) := by
  unfold va_pl
  rw [List.map_append]
  congr 1
  · apply List.map_congr_left
    intro a ha
    rw [vr_up_ne (fun q => h a q ha)]
  · apply List.map_congr_left
    intro a ha
    rw [vr_up_in ha]
theorem vr_lay {X rows : va_W} {x : Nat × va_E} {pl : va_W} {D : va_G} {cl : List vw_C} {H : Heap} (hP : va_P D cl (((X ++ pl) ++ [x]) ++ rows) H) : va_P D cl ((X ++ [x]) ++ (pl ++ rows)) H := by
  rw [List.append_assoc (X ++ pl)] at hP
  have h := va_P.swap hP
  rw [← List.append_assoc X] at h
  have h2 := va_P.swap h
  rw [List.append_assoc (X ++ [x])] at h2
  exact h2
theorem vr_layD {X rows : va_W} {x : Nat × va_E} {pl : va_W} {A : Nat → Prop} (hD : va_D A (((X ++ pl) ++ [x]) ++ rows)) : va_D A ((X ++ [x]) ++ (pl ++ rows)) := by
  rw [List.append_assoc (X ++ pl)] at hD
  have h := va_D.swap hD
  rw [← List.append_assoc X] at h
  have h2 := va_D.swap h
  rw [List.append_assoc (X ++ [x])] at h2
  exact h2
theorem vr_outer (c : ClassId) (N h0 : Nat) : ∀ i : Nat, Jvm.Free.Multi.outerC c N h0 i = arrV c N (fun j => va_rf (if j < i then some (h0 + 1 + j) else none))
  | 0 => by
    show ({ cls := c, slots := Array.replicate N .null, vm := .none } : Cell) = _
    rw [arrV_new]
    refine congrArg (arrV c N) (funext fun j => ?_)
    simp [va_rf]
  | i + 1 => by
    show (Jvm.Free.Multi.outerC c N h0 i).setSlot i (.ref (h0 + 1 + i)) = _
    rw [vr_outer c N h0 i, arrV_store]
    refine congrArg (arrV c N) (funext fun j => ?_)
    by_cases e : j = i
    · subst e
      simp [updV, va_rf]
    · by_cases h : j < i
      · simp [updV, e, h, Nat.lt_succ_of_lt h]
      · simp [updV, e, h, show ¬ j < i + 1 by omega]
/-- the tables' word on arrays of arrays, without the call's arguments -/
def va_AOA (ty : FieldType) (U : State) : Prop := (Cond.arrayOver (.array ty)).before #[] U = true
theorem va_AOA.of {ty : FieldType} {A : Array Value} {U : State} (h : (Cond.arrayOver (.array ty)).before A U = true) : va_AOA ty U := h
theorem va_AOA.use {ty : FieldType} {A : Array Value} {U : State} (h : va_AOA ty U) : (Cond.arrayOver (.array ty)).before A U = true := h
section VGM
variable {p : Program} {l : Launch} {e : Env} {R : Room} {s : State} {m : MethodId} {args : Array Value} {below : List Frame} {meth : Method} {c : Code} {H : Heap} {locs : List Loc} {cells slots : Nat} {Q : State → Prop}
variable {cc : ByteArray} {pc : Nat} {ls : Array Slot} {rest : List Value} {D : va_G} {cl : List vw_C} {A : Nat → Prop} {a : Nat} {tys : List (ClassId × FieldType)} {ws : va_W} {H0 : Heap}
theorem va_mna {X : va_W} {L : List Nat} {f : Nat → va_E} {cc : ByteArray} (hexec : p.tables.exec = Jvm.exec) (hb : c.code = cc) {own : String} {index : Nat} {ty : FieldType} {cy : ClassId} (hown : s.vm.findClass own = some m.cls) (hclink : (Cond.classLink own index ("[" ++ (FieldType.array ty).toString)).before args s = true) (hover : va_AOA ty s) (harr : (Cond.arrayClass ty).before args s = true) (hcy : s.vm.findClass (FieldType.array ty).toString = some cy)
    (hK : va_K D cl tys s) (hP : va_P D cl (X ++ va_pl L f) H) (hD : va_D A (X ++ va_pl L f)) (hS : va_S A H0 H locs) (hA : ∀ q, H0.size ≤ q → A q) {n k : Int32} {N' K' : Nat} {z : vp_A} (hn : ¬ n < 0) (hk : ¬ k < 0) (hN : n.toNatClampNeg = N') (hM : k.toNatClampNeg = K')
    (hb1 : N' * 4 ≤ 536870912) (hb2 : K' * componentBytes ty ≤ 536870912) (hb3 : K' ≤ 536870912) (hdf : fits ty (defaultValue ty) = true) (hdd : (defaultValue ty).isDefault = true) (hcells : cells + (1 + N') ≤ R.cells) (hslots : slots + (N' + N' * K') ≤ R.slots) (hz : ∀ c : ClassId, Jvm.Free.Multi.innerC c K' (defaultValue ty) = vp_cell c z) (hdg : decode cc pc = .ok (.multianewarray index 2, 4))
    (kk : ∀ (q : Nat) (r : Nat → Nat) (cA : ClassId) (H1 : Heap), (∀ i j : Nat, i < N' → j < N' → r i = r j → i = j) → (∀ i : Nat, i < N' → r i ∉ L) → va_K D cl (tys ++ [(cA, .array ty)]) s →
      va_P D cl ((X ++ [(q, .inl (cA, N', .inr (.inr (.inr (.inr (fun i => if i < N' then some (r i) else none))))))]) ++ va_pl (L ++ (List.range N').map r) (vr_up f ((List.range N').map r) (.inl (cy, z)))) H1 → va_D A ((X ++ [(q, .inl (cA, N', .inr (.inr (.inr (.inr (fun i => if i < N' then some (r i) else none))))))]) ++ va_pl (L ++ (List.range N').map r) (vr_up f ((List.range N').map r) (.inl (cy, z)))) → va_S A H0 H1 locs →
      W p l e R s m args below meth c H1 locs (cells + 1 + N') (slots + N' + N' * K') Q (F0 m (pc + 4) ls (.ref q :: rest))) : W p l e R s m args below meth c H locs cells slots Q (F0 m pc ls (.int k :: .int n :: rest)) := by
  subst hN
  subst hM
  intro T hT Xs
  obtain ⟨vm₁, cA, comp, -, fA, fC, hO, -, X', step⟩ := Xs.multianewarray2F hexec hown hclink (va_AOA.use hover) harr (g := F0 m pc ls (.int k :: .int n :: rest)) rfl (by rw [hb]; exact hdg) rfl hn hk hb1 hb2 hb3 hdf hdd hcells hslots
  have ec : some cy = some comp := hcy.symm.trans fC
  cases ec
  generalize hF : Jvm.Free.Multi.fill (T.setVm vm₁) cA cy n.toNatClampNeg k.toNatClampNeg (defaultValue ty) n.toNatClampNeg = F at X' step
  have hTh : (T.setVm vm₁).heap = H := hT
  obtain ⟨f1, f2, -, -⟩ := Jvm.Free.Multi.fill_facts (T.setVm vm₁) cA cy n.toNatClampNeg k.toNatClampNeg (defaultValue ty) n.toNatClampNeg
  rw [hF, hTh] at f1 f2
  have hold : ∀ x : Nat, x < H.size → F.heap[x]? = H[x]? := fun x hx => by
    have := Jvm.Free.Multi.fill_old (T.setVm vm₁) cA cy n.toNatClampNeg k.toNatClampNeg (defaultValue ty) (a := x) (by rw [hTh]; exact hx) n.toNatClampNeg
    rw [hF, hTh] at this
    exact this
  have hrow : ∀ j : Nat, j < n.toNatClampNeg → F.heap[H.size + 1 + j]? = some (vp_cell cy z) := fun j hj => by
    have := Jvm.Free.Multi.fill_inner (T.setVm vm₁) cA cy n.toNatClampNeg k.toNatClampNeg (defaultValue ty) n.toNatClampNeg j hj
    rw [hF, hTh, hz] at this
    exact this
  have hout : Jvm.Free.Multi.outerC cA n.toNatClampNeg H.size n.toNatClampNeg = vp_cell cA (n.toNatClampNeg, .inr (.inr (.inr (.inr (fun i => if i < n.toNatClampNeg then some (H.size + 1 + i) else none))))) := by
    rw [vp_cell_q]
    exact vr_outer cA n.toNatClampNeg H.size n.toNatClampNeg
  rw [hout] at f2
  have hlt : ∀ a, a ∈ L → a < H.size := fun a ha => by
    obtain ⟨k9, hk9⟩ := va_pl_get (X := X) (f := f) ha
    exact (hP k9 _ hk9).lt
  have hnl : ∀ i : Nat, i < n.toNatClampNeg → H.size + 1 + i ∉ L := fun i _ h => by
    have := hlt _ h
    omega
  have hnm : ∀ a, a ∈ (List.range n.toNatClampNeg).map (fun i => H.size + 1 + i) → a ∉ L := fun a ha h => by
    obtain ⟨i, -, rfl⟩ := List.mem_map.mp ha
    have := hlt _ h
    omega
  have hP0 : va_P D cl (X ++ va_pl L f) F.heap := hP.kept (fun k9 x hx => hold x.1 ((hP k9 x hx).lt))
  have hP1 : va_P D cl ((X ++ va_pl L f) ++ [(H.size, .inl (cA, n.toNatClampNeg, .inr (.inr (.inr (.inr (fun i => if i < n.toNatClampNeg then some (H.size + 1 + i) else none))))))]) F.heap := hP0.app (fun k9 x hx => by
    have h0 : k9 < 1 := (List.getElem?_eq_some_iff.mp hx).1
    rw [show k9 = 0 by omega] at hx
    cases hx
    exact f2)
  have hP2 : va_P D cl (((X ++ va_pl L f) ++ [(H.size, .inl (cA, n.toNatClampNeg, .inr (.inr (.inr (.inr (fun i => if i < n.toNatClampNeg then some (H.size + 1 + i) else none))))))]) ++ ((List.range n.toNatClampNeg).map (fun i => H.size + 1 + i)).map (fun a => (a, .inl (cy, z)))) F.heap := hP1.app (fun k9 x hx => by
    obtain ⟨a, ha, rfl⟩ := List.mem_map.mp (List.mem_of_getElem? hx)
    obtain ⟨i, hi, rfl⟩ := List.mem_map.mp ha
    exact hrow i (List.mem_range.mp hi))
  have hD2 : va_D A (((X ++ va_pl L f) ++ [(H.size, .inl (cA, n.toNatClampNeg, .inr (.inr (.inr (.inr (fun i => if i < n.toNatClampNeg then some (H.size + 1 + i) else none))))))]) ++ ((List.range n.toNatClampNeg).map (fun i => H.size + 1 + i)).map (fun a => (a, .inl (cy, z)))) := by
    have hD1 := hD.push (e := .inl (cA, n.toNatClampNeg, .inr (.inr (.inr (.inr (fun i => if i < n.toNatClampNeg then some (H.size + 1 + i) else none)))))) hP rfl (hA _ hS.1)
    generalize hW1 : (X ++ va_pl L f) ++ [(H.size, .inl (cA, n.toNatClampNeg, .inr (.inr (.inr (.inr (fun i => if i < n.toNatClampNeg then some (H.size + 1 + i) else none))))))] = W1 at hD1 hP1 ⊢
    have hle : ∀ (k9 : Nat) (x : Nat × va_E), W1[k9]? = some x → x.1 ≤ H.size := fun k9 x hx => by
      rw [← hW1] at hx
      by_cases hl : k9 < (X ++ va_pl L f).length
      · rw [List.getElem?_append_left hl] at hx
        exact Nat.le_of_lt ((hP k9 x hx).lt)
      · rw [List.getElem?_append_right (by omega)] at hx
        have h0 : k9 - (X ++ va_pl L f).length < 1 := (List.getElem?_eq_some_iff.mp hx).1
        rw [show k9 - (X ++ va_pl L f).length = 0 by omega] at hx
        cases hx
        exact Nat.le_refl _
    have hr : ∀ (k9 : Nat) (x : Nat × va_E), (((List.range n.toNatClampNeg).map (fun i => H.size + 1 + i)).map (fun a => ((a, .inl (cy, z)) : Nat × va_E)))[k9]? = some x → x.1 = H.size + 1 + k9 := fun k9 x hx => by
      rw [List.getElem?_map, List.getElem?_map] at hx
      by_cases h9 : k9 < n.toNatClampNeg
      · rw [List.getElem?_range h9] at hx
        cases hx
        rfl
      · have hn0 : (List.range n.toNatClampNeg)[k9]? = none := List.getElem?_eq_none (by rw [List.length_range]; omega)
        rw [hn0] at hx
        cases hx
    refine ⟨fun i j x y hi hj hxy => ?_, fun k9 x hx => ?_⟩
    · by_cases h1 : i < W1.length <;> by_cases h2 : j < W1.length
      · rw [List.getElem?_append_left h1] at hi
        rw [List.getElem?_append_left h2] at hj
        exact hD1.1 i j x y hi hj hxy
      · rw [List.getElem?_append_left h1] at hi
        rw [List.getElem?_append_right (by omega)] at hj
        have := hle _ _ hi
        have := hr _ _ hj
        omega
      · rw [List.getElem?_append_right (by omega)] at hi
        rw [List.getElem?_append_left h2] at hj
        have := hle _ _ hj
        have := hr _ _ hi
        omega
      · rw [List.getElem?_append_right (by omega)] at hi hj
        have := hr _ _ hi
        have := hr _ _ hj
        omega
    · by_cases h1 : k9 < W1.length
      · rw [List.getElem?_append_left h1] at hx
        exact hD1.2 k9 x hx
      · rw [List.getElem?_append_right (by omega)] at hx
        have := hr _ _ hx
        exact hA _ (by have := hS.1; omega)
  have hAr : ArrOfT s cA (.array ty) := fun N9 z9 => by
    obtain ⟨-, k9, hk9, cm9, hkk9⟩ := (hO 0 0 0).1
    exact ⟨(fun q hq => by cases hq), k9, hk9, cm9, hkk9⟩
  have hK2 : va_K D cl (tys ++ [(cA, .array ty)]) s := ⟨hK.1, fun k9 x hx => by
    by_cases hl : k9 < tys.length
    · rw [List.getElem?_append_left hl] at hx
      exact hK.2 k9 x hx
    · rw [List.getElem?_append_right (by omega)] at hx
      have h0 : k9 - tys.length < 1 := (List.getElem?_eq_some_iff.mp hx).1
      rw [show k9 - tys.length = 0 by omega] at hx
      cases hx
      exact ⟨hAr, fA⟩⟩
  obtain ⟨t, a1, b1⟩ := kk H.size (fun i => H.size + 1 + i) cA F.heap (fun i j _ _ h => by have h9 : H.size + 1 + i = H.size + 1 + j := h; omega) hnl hK2 (by rw [← vr_rows hnm]; exact vr_lay hP2) (by rw [← vr_rows hnm]; exact vr_layD hD2) ⟨by rw [f1]; have := hS.1; omega, fun x h1 h2 => (hold x (Nat.lt_of_lt_of_le h1 hS.1)).trans (hS.2.1 x h1 h2), hS.2.2⟩ F rfl X'
  refine ⟨t, step t ?_, b1⟩
  have e : T.heap.size = H.size := by rw [hT]
  rw [e]
  exact a1
end VGM
/-! ===== END ===== -/

/-! ===== BEGIN printed: names, fields, word lists, decode rows ===== -/
def RX0 : String := "LetterDebts$AsOf"
def TX0 : u_T := fun k => match k with
  | 0 => ("LetterDebts$AsOf", "tables", "LLetterDebts$Tables;", true)
  | 1 => ("LetterDebts$AsOf", "firmOf", "[I", true)
  | 2 => ("LetterDebts$AsOf", "left", "[I", true)
  | 3 => ("LetterDebts$AsOf", "loose", "[I", true)
  | 4 => ("LetterDebts$AsOf", "looseSet", "I", false)
  | 5 => ("LetterDebts$AsOf", "paid", "I", false)
  | _ => ("LetterDebts$AsOf", "shownDue", "I", false)
def tyX0 : Nat → FieldType := fun k => match k with
  | 0 => .object "LetterDebts$Tables"
  | 1 => .array .int
  | 2 => .array .int
  | 3 => .array .int
  | 4 => .int
  | 5 => .int
  | _ => .int
abbrev wsX00 : List Cond := u_ws RX0 TX0 7
theorem nmX0 : ∀ a, a < 7 → ∀ b, b < 7 → a ≠ b → (TX0 a).2.1 ≠ (TX0 b).2.1 := by decide +kernel
theorem tyX0_ok : ∀ k, k < 7 → parseFieldDescriptor (TX0 k).2.2.1 = some (tyX0 k) := by decide +kernel
abbrev cX0_init : ByteArray := prog_2_method_1_code
def yX0_init : MethodName := ⟨RX0, "<init>", "()V"⟩
abbrev cX0_look : ByteArray := prog_2_method_2_code
def yX0_look : MethodName := ⟨RX0, "look", "(LLetterDebts$Person;I)V"⟩
abbrev cX0_isInSpan : ByteArray := prog_2_method_3_code
def yX0_isInSpan : MethodName := ⟨RX0, "isInSpan", "(I)Z"⟩
abbrev cX0_isLoose : ByteArray := prog_2_method_4_code
def yX0_isLoose : MethodName := ⟨RX0, "isLoose", "(I)Z"⟩
abbrev cX0_show : ByteArray := prog_2_method_5_code
def yX0_show : MethodName := ⟨RX0, "show", "(II)V"⟩
abbrev cX0_unshow : ByteArray := prog_2_method_6_code
def yX0_unshow : MethodName := ⟨RX0, "unshow", "(II)V"⟩
abbrev cX0_leastPay : ByteArray := prog_2_method_7_code
def yX0_leastPay : MethodName := ⟨RX0, "leastPay", "(LLetterDebts$Person;I)I"⟩
abbrev cX0_mostPay : ByteArray := prog_2_method_8_code
def yX0_mostPay : MethodName := ⟨RX0, "mostPay", "(LLetterDebts$Person;I)I"⟩
abbrev cX0_mostLoose : ByteArray := prog_2_method_9_code
def yX0_mostLoose : MethodName := ⟨RX0, "mostLoose", "()I"⟩
abbrev cX0_ways : ByteArray := prog_2_method_10_code
def yX0_ways : MethodName := ⟨RX0, "ways", "()I"⟩
abbrev cX0_leastOwed : ByteArray := prog_2_method_11_code
def yX0_leastOwed : MethodName := ⟨RX0, "leastOwed", "()I"⟩
abbrev cX0_mostOwed : ByteArray := prog_2_method_12_code
def yX0_mostOwed : MethodName := ⟨RX0, "mostOwed", "()I"⟩
abbrev cX0_spread : ByteArray := prog_2_method_13_code
def yX0_spread : MethodName := ⟨RX0, "spread", "()I"⟩
abbrev cX0_owedBy : ByteArray := prog_2_method_14_code
def yX0_owedBy : MethodName := ⟨RX0, "owedBy", "(LLetterDebts$Person;I)I"⟩
abbrev cX0_couldBe : ByteArray := prog_2_method_15_code
def yX0_couldBe : MethodName := ⟨RX0, "couldBe", "(LLetterDebts$Person;[I)Z"⟩
abbrev cX0_looseSum : ByteArray := prog_2_method_16_code
def yX0_looseSum : MethodName := ⟨RX0, "looseSum", "(I[I)I"⟩
abbrev cX0_settlingSet : ByteArray := prog_2_method_17_code
def yX0_settlingSet : MethodName := ⟨RX0, "settlingSet", "([I)I"⟩
abbrev cX0_settlesBy : ByteArray := prog_2_method_18_code
def yX0_settlesBy : MethodName := ⟨RX0, "settlesBy", "(I[I)Z"⟩
abbrev cX0_tellingMost : ByteArray := prog_2_method_19_code
def yX0_tellingMost : MethodName := ⟨RX0, "tellingMost", "(LLetterDebts$Person;)I"⟩
abbrev cX0_worstSpread : ByteArray := prog_2_method_20_code
def yX0_worstSpread : MethodName := ⟨RX0, "worstSpread", "(LLetterDebts$Person;I)I"⟩
abbrev cX0_sumOfSpan : ByteArray := prog_2_method_21_code
def yX0_sumOfSpan : MethodName := ⟨RX0, "sumOfSpan", "(LLetterDebts$Person;I)I"⟩
abbrev cX0_tooMuch : ByteArray := prog_2_method_22_code
def yX0_tooMuch : MethodName := ⟨RX0, "tooMuch", "(LLetterDebts$Person;I)I"⟩
def RX1 : String := "LetterDebts$Books"
def TX1 : u_T := fun k => match k with
  | 0 => ("LetterDebts$Books", "debts", "LLetterDebts$Debts;", true)
  | 1 => ("LetterDebts$Books", "letters", "LLetterDebts$Letters;", true)
  | 2 => ("LetterDebts$Books", "line", "LLetterDebts$Line;", true)
  | 3 => ("LetterDebts$Books", "today", "I", false)
  | _ => ("LetterDebts$Books", "kept", "Z", false)
def tyX1 : Nat → FieldType := fun k => match k with
  | 0 => .object "LetterDebts$Debts"
  | 1 => .object "LetterDebts$Letters"
  | 2 => .object "LetterDebts$Line"
  | 3 => .int
  | _ => .boolean
abbrev wsX10 : List Cond := u_ws RX1 TX1 5
theorem nmX1 : ∀ a, a < 5 → ∀ b, b < 5 → a ≠ b → (TX1 a).2.1 ≠ (TX1 b).2.1 := by decide +kernel
theorem tyX1_ok : ∀ k, k < 5 → parseFieldDescriptor (TX1 k).2.2.1 = some (tyX1 k) := by decide +kernel
abbrev cX1_init : ByteArray := prog_3_method_1_code
def yX1_init : MethodName := ⟨RX1, "<init>", "()V"⟩
abbrev cX1_takeOver : ByteArray := prog_3_method_2_code
def yX1_takeOver : MethodName := ⟨RX1, "takeOver", "(LLetterDebts$Books;)V"⟩
def RX2 : String := "LetterDebts$Debts"
def TX2 : u_T := fun k => match k with
  | 0 => ("LetterDebts$Debts", "person", "[I", true)
  | 1 => ("LetterDebts$Debts", "amount", "[I", true)
  | 2 => ("LetterDebts$Debts", "open", "[I", true)
  | 3 => ("LetterDebts$Debts", "held", "[I", true)
  | 4 => ("LetterDebts$Debts", "aside", "[I", true)
  | 5 => ("LetterDebts$Debts", "made", "[I", true)
  | 6 => ("LetterDebts$Debts", "fee", "[I", true)
  | _ => ("LetterDebts$Debts", "size", "I", false)
def tyX2 : Nat → FieldType := fun k => match k with
  | 0 => .array .int
  | 1 => .array .int
  | 2 => .array .int
  | 3 => .array .int
  | 4 => .array .int
  | 5 => .array .int
  | 6 => .array .int
  | _ => .int
abbrev wsX20 : List Cond := u_ws RX2 TX2 8
theorem nmX2 : ∀ a, a < 8 → ∀ b, b < 8 → a ≠ b → (TX2 a).2.1 ≠ (TX2 b).2.1 := by decide +kernel
theorem tyX2_ok : ∀ k, k < 8 → parseFieldDescriptor (TX2 k).2.2.1 = some (tyX2 k) := by decide +kernel
abbrev cX2_init : ByteArray := prog_4_method_1_code
def yX2_init : MethodName := ⟨RX2, "<init>", "()V"⟩
abbrev cX2_add : ByteArray := prog_4_method_2_code
def yX2_add : MethodName := ⟨RX2, "add", "(III)I"⟩
abbrev cX2_holdOf : ByteArray := prog_4_method_3_code
def yX2_holdOf : MethodName := ⟨RX2, "holdOf", "(II)I"⟩
abbrev cX2_isAside : ByteArray := prog_4_method_4_code
def yX2_isAside : MethodName := ⟨RX2, "isAside", "(I)Z"⟩
abbrev cX2_putAside : ByteArray := prog_4_method_5_code
def yX2_putAside : MethodName := ⟨RX2, "putAside", "(I)I"⟩
abbrev cX2_told : ByteArray := prog_4_method_6_code
def yX2_told : MethodName := ⟨RX2, "told", "(II)I"⟩
abbrev cX2_heldOfAll : ByteArray := prog_4_method_7_code
def yX2_heldOfAll : MethodName := ⟨RX2, "heldOfAll", "()I"⟩
abbrev cX2_feesOfAll : ByteArray := prog_4_method_8_code
def yX2_feesOfAll : MethodName := ⟨RX2, "feesOfAll", "()I"⟩
abbrev cX2_lostOfAll : ByteArray := prog_4_method_9_code
def yX2_lostOfAll : MethodName := ⟨RX2, "lostOfAll", "()I"⟩
abbrev cX2_takeOver : ByteArray := prog_4_method_10_code
def yX2_takeOver : MethodName := ⟨RX2, "takeOver", "(LLetterDebts$Debts;)V"⟩
def RX3 : String := "LetterDebts$Letters"
def TX3 : u_T := fun k => match k with
  | 0 => ("LetterDebts$Letters", "debt", "[I", true)
  | 1 => ("LetterDebts$Letters", "sent", "[I", true)
  | 2 => ("LetterDebts$Letters", "place", "[I", true)
  | _ => ("LetterDebts$Letters", "size", "I", false)
def tyX3 : Nat → FieldType := fun k => match k with
  | 0 => .array .int
  | 1 => .array .int
  | 2 => .array .int
  | _ => .int
abbrev wsX30 : List Cond := u_ws RX3 TX3 4
theorem nmX3 : ∀ a, a < 4 → ∀ b, b < 4 → a ≠ b → (TX3 a).2.1 ≠ (TX3 b).2.1 := by decide +kernel
theorem tyX3_ok : ∀ k, k < 4 → parseFieldDescriptor (TX3 k).2.2.1 = some (tyX3 k) := by decide +kernel
abbrev cX3_init : ByteArray := prog_5_method_1_code
def yX3_init : MethodName := ⟨RX3, "<init>", "()V"⟩
abbrev cX3_add : ByteArray := prog_5_method_2_code
def yX3_add : MethodName := ⟨RX3, "add", "(III)I"⟩
abbrev cX3_takeOver : ByteArray := prog_5_method_3_code
def yX3_takeOver : MethodName := ⟨RX3, "takeOver", "(LLetterDebts$Letters;)V"⟩
def RX4 : String := "LetterDebts$Line"
def TX4 : u_T := fun k => match k with
  | 0 => ("LetterDebts$Line", "minutes", "[I", true)
  | _ => ("LetterDebts$Line", "size", "I", false)
def tyX4 : Nat → FieldType := fun k => match k with
  | 0 => .array .int
  | _ => .int
abbrev wsX40 : List Cond := u_ws RX4 TX4 2
theorem nmX4 : ∀ a, a < 2 → ∀ b, b < 2 → a ≠ b → (TX4 a).2.1 ≠ (TX4 b).2.1 := by decide +kernel
theorem tyX4_ok : ∀ k, k < 2 → parseFieldDescriptor (TX4 k).2.2.1 = some (tyX4 k) := by decide +kernel
abbrev cX4_init : ByteArray := prog_6_method_1_code
def yX4_init : MethodName := ⟨RX4, "<init>", "()V"⟩
abbrev cX4_add : ByteArray := prog_6_method_2_code
def yX4_add : MethodName := ⟨RX4, "add", "(I)Z"⟩
abbrev cX4_waitOfLast : ByteArray := prog_6_method_3_code
def yX4_waitOfLast : MethodName := ⟨RX4, "waitOfLast", "()I"⟩
abbrev cX4_hear : ByteArray := prog_6_method_4_code
def yX4_hear : MethodName := ⟨RX4, "hear", "()I"⟩
abbrev cX4_takeOver : ByteArray := prog_6_method_5_code
def yX4_takeOver : MethodName := ⟨RX4, "takeOver", "(LLetterDebts$Line;)V"⟩
def RX5 : String := "LetterDebts$Person"
def TX5 : u_T := fun k => match k with
  | 0 => ("LetterDebts$Person", "told", "[I", true)
  | 1 => ("LetterDebts$Person", "truth", "[I", true)
  | 2 => ("LetterDebts$Person", "slipPay", "[I", true)
  | 3 => ("LetterDebts$Person", "slipDay", "[I", true)
  | 4 => ("LetterDebts$Person", "firmFrom", "[I", true)
  | 5 => ("LetterDebts$Person", "firmTo", "[I", true)
  | 6 => ("LetterDebts$Person", "firmSum", "[I", true)
  | 7 => ("LetterDebts$Person", "firmDay", "[I", true)
  | 8 => ("LetterDebts$Person", "lives", "[I", true)
  | 9 => ("LetterDebts$Person", "known", "[I", true)
  | _ => ("LetterDebts$Person", "firms", "I", false)
def tyX5 : Nat → FieldType := fun k => match k with
  | 0 => .array .int
  | 1 => .array .int
  | 2 => .array .int
  | 3 => .array .int
  | 4 => .array .int
  | 5 => .array .int
  | 6 => .array .int
  | 7 => .array .int
  | 8 => .array .int
  | 9 => .array .int
  | _ => .int
abbrev wsX50 : List Cond := u_ws RX5 TX5 11
theorem nmX5 : ∀ a, a < 11 → ∀ b, b < 11 → a ≠ b → (TX5 a).2.1 ≠ (TX5 b).2.1 := by decide +kernel
theorem tyX5_ok : ∀ k, k < 11 → parseFieldDescriptor (TX5 k).2.2.1 = some (tyX5 k) := by decide +kernel
abbrev cX5_init : ByteArray := prog_7_method_1_code
def yX5_init : MethodName := ⟨RX5, "<init>", "()V"⟩
abbrev cX5_addFirm : ByteArray := prog_7_method_2_code
def yX5_addFirm : MethodName := ⟨RX5, "addFirm", "(IIII)I"⟩
abbrev cX5_firmWith : ByteArray := prog_7_method_3_code
def yX5_firmWith : MethodName := ⟨RX5, "firmWith", "(II)I"⟩
abbrev cX5_isShown : ByteArray := prog_7_method_4_code
def yX5_isShown : MethodName := ⟨RX5, "isShown", "(II)Z"⟩
abbrev cX5_average : ByteArray := prog_7_method_5_code
def yX5_average : MethodName := ⟨RX5, "average", "(II)I"⟩
def RX6 : String := "LetterDebts$RuleBook"
def TX6 : u_T := fun k => match k with
  | 0 => ("LetterDebts$RuleBook", "from", "[I", true)
  | 1 => ("LetterDebts$RuleBook", "base", "[I", true)
  | 2 => ("LetterDebts$RuleBook", "free", "[I", true)
  | 3 => ("LetterDebts$RuleBook", "take", "[I", true)
  | 4 => ("LetterDebts$RuleBook", "by", "[I", true)
  | _ => ("LetterDebts$RuleBook", "size", "I", false)
def tyX6 : Nat → FieldType := fun k => match k with
  | 0 => .array .int
  | 1 => .array .int
  | 2 => .array .int
  | 3 => .array .int
  | 4 => .array .int
  | _ => .int
abbrev wsX60 : List Cond := u_ws RX6 TX6 6
theorem nmX6 : ∀ a, a < 6 → ∀ b, b < 6 → a ≠ b → (TX6 a).2.1 ≠ (TX6 b).2.1 := by decide +kernel
theorem tyX6_ok : ∀ k, k < 6 → parseFieldDescriptor (TX6 k).2.2.1 = some (tyX6 k) := by decide +kernel
abbrev cX6_init : ByteArray := prog_8_method_1_code
def yX6_init : MethodName := ⟨RX6, "<init>", "()V"⟩
abbrev cX6_inForce : ByteArray := prog_8_method_2_code
def yX6_inForce : MethodName := ⟨RX6, "inForce", "(I)I"⟩
abbrev cX6_dueBy : ByteArray := prog_8_method_3_code
def yX6_dueBy : MethodName := ⟨RX6, "dueBy", "(II)I"⟩
abbrev cX6_takeOver : ByteArray := prog_8_method_4_code
def yX6_takeOver : MethodName := ⟨RX6, "takeOver", "(LLetterDebts$RuleBook;)V"⟩
def RX7 : String := "LetterDebts$RulesText"
def TX7 : u_T := fun k => match k with
  | 0 => ("LetterDebts$RulesText", "bytes", "[C", true)
  | 1 => ("LetterDebts$RulesText", "draft", "LLetterDebts$RuleBook;", true)
  | _ => ("LetterDebts$RulesText", "length", "I", false)
def tyX7 : Nat → FieldType := fun k => match k with
  | 0 => .array .char
  | 1 => .object "LetterDebts$RuleBook"
  | _ => .int
abbrev wsX70 : List Cond := u_ws RX7 TX7 3
theorem nmX7 : ∀ a, a < 3 → ∀ b, b < 3 → a ≠ b → (TX7 a).2.1 ≠ (TX7 b).2.1 := by decide +kernel
theorem tyX7_ok : ∀ k, k < 3 → parseFieldDescriptor (TX7 k).2.2.1 = some (tyX7 k) := by decide +kernel
abbrev cX7_init : ByteArray := prog_9_method_1_code
def yX7_init : MethodName := ⟨RX7, "<init>", "()V"⟩
abbrev cX7_append : ByteArray := prog_9_method_2_code
def yX7_append : MethodName := ⟨RX7, "append", "(JI)V"⟩
abbrev cX7_read : ByteArray := prog_9_method_3_code
def yX7_read : MethodName := ⟨RX7, "read", "()I"⟩
abbrev cX7_endOfToken : ByteArray := prog_9_method_4_code
def yX7_endOfToken : MethodName := ⟨RX7, "endOfToken", "(I)I"⟩
abbrev cX7_isLetter : ByteArray := prog_9_method_5_code
def yX7_isLetter : MethodName := ⟨RX7, "isLetter", "(I)Z"⟩
abbrev cX7_isDigit : ByteArray := prog_9_method_6_code
def yX7_isDigit : MethodName := ⟨RX7, "isDigit", "(I)Z"⟩
abbrev cX7_canStand : ByteArray := prog_9_method_7_code
def yX7_canStand : MethodName := ⟨RX7, "canStand", "(III)Z"⟩
abbrev cX7_putNumber : ByteArray := prog_9_method_8_code
def yX7_putNumber : MethodName := ⟨RX7, "putNumber", "([IIIII)Z"⟩
abbrev cX7_numberAt : ByteArray := prog_9_method_9_code
def yX7_numberAt : MethodName := ⟨RX7, "numberAt", "(II)I"⟩
abbrev cX7_fixedToken : ByteArray := prog_9_method_10_code
def yX7_fixedToken : MethodName := ⟨RX7, "fixedToken", "(I)Ljava/lang/String;"⟩
abbrev cX7_isToken : ByteArray := prog_9_method_11_code
def yX7_isToken : MethodName := ⟨RX7, "isToken", "(Ljava/lang/String;II)Z"⟩
def RX8 : String := "LetterDebts$Tables"
def TX8 : u_T := fun k => match k with
  | 0 => ("LetterDebts$Tables", "dueOf", "[I", true)
  | 1 => ("LetterDebts$Tables", "least", "[[I", true)
  | 2 => ("LetterDebts$Tables", "most", "[[I", true)
  | 3 => ("LetterDebts$Tables", "ways", "[[I", true)
  | 4 => ("LetterDebts$Tables", "rule", "I", false)
  | 5 => ("LetterDebts$Tables", "dueRows", "I", false)
  | _ => ("LetterDebts$Tables", "wayRows", "I", false)
def tyX8 : Nat → FieldType := fun k => match k with
  | 0 => .array .int
  | 1 => .array (.array .int)
  | 2 => .array (.array .int)
  | 3 => .array (.array .int)
  | 4 => .int
  | 5 => .int
  | _ => .int
abbrev wsX80 : List Cond := u_ws RX8 TX8 7
theorem nmX8 : ∀ a, a < 7 → ∀ b, b < 7 → a ≠ b → (TX8 a).2.1 ≠ (TX8 b).2.1 := by decide +kernel
theorem tyX8_ok : ∀ k, k < 7 → parseFieldDescriptor (TX8 k).2.2.1 = some (tyX8 k) := by decide +kernel
abbrev cX8_init : ByteArray := prog_10_method_1_code
def yX8_init : MethodName := ⟨RX8, "<init>", "()V"⟩
abbrev cX8_forget : ByteArray := prog_10_method_2_code
def yX8_forget : MethodName := ⟨RX8, "forget", "()V"⟩
abbrev cX8_use : ByteArray := prog_10_method_3_code
def yX8_use : MethodName := ⟨RX8, "use", "(LLetterDebts$RuleBook;I)V"⟩
abbrev cX8_dueFor : ByteArray := prog_10_method_4_code
def yX8_dueFor : MethodName := ⟨RX8, "dueFor", "(I)I"⟩
abbrev cX8_makeDueRows : ByteArray := prog_10_method_5_code
def yX8_makeDueRows : MethodName := ⟨RX8, "makeDueRows", "(I)V"⟩
abbrev cX8_makeWayRows : ByteArray := prog_10_method_6_code
def yX8_makeWayRows : MethodName := ⟨RX8, "makeWayRows", "(I)V"⟩
abbrev cX8_leastFor : ByteArray := prog_10_method_7_code
def yX8_leastFor : MethodName := ⟨RX8, "leastFor", "(II)I"⟩
abbrev cX8_mostFor : ByteArray := prog_10_method_8_code
def yX8_mostFor : MethodName := ⟨RX8, "mostFor", "(II)I"⟩
abbrev cX8_waysFor : ByteArray := prog_10_method_9_code
def yX8_waysFor : MethodName := ⟨RX8, "waysFor", "(II)I"⟩
abbrev cX8_isMade : ByteArray := prog_10_method_10_code
def yX8_isMade : MethodName := ⟨RX8, "isMade", "(III)Z"⟩
abbrev cX8_makeWayRow : ByteArray := prog_10_method_11_code
def yX8_makeWayRow : MethodName := ⟨RX8, "makeWayRow", "(I)V"⟩
abbrev cX8_makeDueRow : ByteArray := prog_10_method_12_code
def yX8_makeDueRow : MethodName := ⟨RX8, "makeDueRow", "(I)V"⟩
abbrev cX8_lowestLast : ByteArray := prog_10_method_13_code
def yX8_lowestLast : MethodName := ⟨RX8, "lowestLast", "(II)I"⟩
def RX9 : String := "LetterDebts"
def TX9 : u_T := fun k => match k with
  | 0 => ("LetterDebts", "text", "LLetterDebts$RulesText;", true)
  | 1 => ("LetterDebts", "book", "LLetterDebts$RuleBook;", true)
  | 2 => ("LetterDebts", "view", "LLetterDebts$AsOf;", true)
  | 3 => ("LetterDebts", "persons", "[LLetterDebts$Person;", true)
  | 4 => ("LetterDebts", "now", "LLetterDebts$Books;", true)
  | 5 => ("LetterDebts", "images", "[LLetterDebts$Books;", true)
  | _ => ("LetterDebts", "traced", "J", false)
def tyX9 : Nat → FieldType := fun k => match k with
  | 0 => .object "LetterDebts$RulesText"
  | 1 => .object "LetterDebts$RuleBook"
  | 2 => .object "LetterDebts$AsOf"
  | 3 => .array (.object "LetterDebts$Person")
  | 4 => .object "LetterDebts$Books"
  | 5 => .array (.object "LetterDebts$Books")
  | _ => .long
abbrev wsX90 : List Cond := u_ws RX9 TX9 7
theorem nmX9 : ∀ a, a < 7 → ∀ b, b < 7 → a ≠ b → (TX9 a).2.1 ≠ (TX9 b).2.1 := by decide +kernel
theorem tyX9_ok : ∀ k, k < 7 → parseFieldDescriptor (TX9 k).2.2.1 = some (tyX9 k) := by decide +kernel
abbrev cX9_init : ByteArray := prog_1_method_1_code
def yX9_init : MethodName := ⟨RX9, "<init>", "()V"⟩
abbrev cX9_type : ByteArray := prog_1_method_2_code
def yX9_type : MethodName := ⟨RX9, "type", "(JI)I"⟩
abbrev cX9_clear : ByteArray := prog_1_method_3_code
def yX9_clear : MethodName := ⟨RX9, "clear", "()I"⟩
abbrev cX9_rules : ByteArray := prog_1_method_4_code
def yX9_rules : MethodName := ⟨RX9, "rules", "()I"⟩
abbrev cX9_due : ByteArray := prog_1_method_5_code
def yX9_due : MethodName := ⟨RX9, "due", "(II)I"⟩
abbrev cX9_pay : ByteArray := prog_1_method_6_code
def yX9_pay : MethodName := ⟨RX9, "pay", "(IIII)I"⟩
abbrev cX9_firm : ByteArray := prog_1_method_7_code
def yX9_firm : MethodName := ⟨RX9, "firm", "(IIII)I"⟩
abbrev cX9_slip : ByteArray := prog_1_method_8_code
def yX9_slip : MethodName := ⟨RX9, "slip", "(III)I"⟩
abbrev cX9_could : ByteArray := prog_1_method_9_code
def yX9_could : MethodName := ⟨RX9, "could", "(II)I"⟩
abbrev cX9_owed : ByteArray := prog_1_method_10_code
def yX9_owed : MethodName := ⟨RX9, "owed", "(III)I"⟩
abbrev cX9_stands : ByteArray := prog_1_method_11_code
def yX9_stands : MethodName := ⟨RX9, "stands", "(II)I"⟩
abbrev cX9_span : ByteArray := prog_1_method_12_code
def yX9_span : MethodName := ⟨RX9, "span", "(IIII)I"⟩
abbrev cX9_settles : ByteArray := prog_1_method_13_code
def yX9_settles : MethodName := ⟨RX9, "settles", "(III)I"⟩
abbrev cX9_tells : ByteArray := prog_1_method_14_code
def yX9_tells : MethodName := ⟨RX9, "tells", "(II)I"⟩
abbrev cX9_debt : ByteArray := prog_1_method_15_code
def yX9_debt : MethodName := ⟨RX9, "debt", "(II)I"⟩
abbrev cX9_hold : ByteArray := prog_1_method_16_code
def yX9_hold : MethodName := ⟨RX9, "hold", "(IIII)I"⟩
abbrev cX9_set : ByteArray := prog_1_method_17_code
def yX9_set : MethodName := ⟨RX9, "set", "(I)I"⟩
abbrev cX9_about : ByteArray := prog_1_method_18_code
def yX9_about : MethodName := ⟨RX9, "about", "(II)I"⟩
abbrev cX9_right : ByteArray := prog_1_method_19_code
def yX9_right : MethodName := ⟨RX9, "right", "(II)I"⟩
abbrev cX9_place : ByteArray := prog_1_method_20_code
def yX9_place : MethodName := ⟨RX9, "place", "(III)I"⟩
abbrev cX9_letter : ByteArray := prog_1_method_21_code
def yX9_letter : MethodName := ⟨RX9, "letter", "(I)I"⟩
abbrev cX9_post : ByteArray := prog_1_method_22_code
def yX9_post : MethodName := ⟨RX9, "post", "(II)I"⟩
abbrev cX9_call : ByteArray := prog_1_method_23_code
def yX9_call : MethodName := ⟨RX9, "call", "(II)I"⟩
abbrev cX9_day : ByteArray := prog_1_method_24_code
def yX9_day : MethodName := ⟨RX9, "day", "()I"⟩
abbrev cX9_weight : ByteArray := prog_1_method_25_code
def yX9_weight : MethodName := ⟨RX9, "weight", "(III)I"⟩
abbrev cX9_keep : ByteArray := prog_1_method_26_code
def yX9_keep : MethodName := ⟨RX9, "keep", "(I)I"⟩
abbrev cX9_back : ByteArray := prog_1_method_27_code
def yX9_back : MethodName := ⟨RX9, "back", "(I)I"⟩
abbrev cX9_count : ByteArray := prog_1_method_28_code
def yX9_count : MethodName := ⟨RX9, "count", "(I)I"⟩
abbrev cX9_trace : ByteArray := prog_1_method_29_code
def yX9_trace : MethodName := ⟨RX9, "trace", "()J"⟩
abbrev cX9_outside : ByteArray := prog_1_method_30_code
def yX9_outside : MethodName := ⟨RX9, "outside", "(III)Z"⟩
abbrev cX9_noPerson : ByteArray := prog_1_method_31_code
def yX9_noPerson : MethodName := ⟨RX9, "noPerson", "(I)Z"⟩
abbrev cX9_noFortnight : ByteArray := prog_1_method_32_code
def yX9_noFortnight : MethodName := ⟨RX9, "noFortnight", "(I)Z"⟩
abbrev cX9_noDebt : ByteArray := prog_1_method_33_code
def yX9_noDebt : MethodName := ⟨RX9, "noDebt", "(I)Z"⟩
abbrev cX9_lookAt : ByteArray := prog_1_method_34_code
def yX9_lookAt : MethodName := ⟨RX9, "lookAt", "(II)V"⟩
abbrev cX9_lookAtBounds : ByteArray := prog_1_method_35_code
def yX9_lookAtBounds : MethodName := ⟨RX9, "lookAtBounds", "(II)V"⟩
abbrev cX9_howItIs : ByteArray := prog_1_method_36_code
def yX9_howItIs : MethodName := ⟨RX9, "howItIs", "(I)I"⟩
abbrev cX9_mayBeHeld : ByteArray := prog_1_method_37_code
def yX9_mayBeHeld : MethodName := ⟨RX9, "mayBeHeld", "(I)Z"⟩
abbrev cX9_weigh : ByteArray := prog_1_method_38_code
def yX9_weigh : MethodName := ⟨RX9, "weigh", "(ILLetterDebts$Person;I)I"⟩
abbrev cX9_firmsOfAll : ByteArray := prog_1_method_39_code
def yX9_firmsOfAll : MethodName := ⟨RX9, "firmsOfAll", "()I"⟩
abbrev cX9_slipsOfAll : ByteArray := prog_1_method_40_code
def yX9_slipsOfAll : MethodName := ⟨RX9, "slipsOfAll", "()I"⟩
abbrev cX9_copy : ByteArray := prog_1_method_41_code
def yX9_copy : MethodName := ⟨RX9, "copy", "([I[I)V"⟩
def RX10 : String := "LetterDebtsModel"
def TX10 : u_T := fun k => match k with
  | 0 => ("LetterDebtsModel", "trace", "J", false)
  | 1 => ("LetterDebtsModel", "today", "I", false)
  | 2 => ("LetterDebtsModel", "text", "[B", true)
  | 3 => ("LetterDebtsModel", "typed", "I", false)
  | 4 => ("LetterDebtsModel", "rules", "I", false)
  | 5 => ("LetterDebtsModel", "ruleDay", "[I", true)
  | 6 => ("LetterDebtsModel", "base", "[I", true)
  | 7 => ("LetterDebtsModel", "free", "[I", true)
  | 8 => ("LetterDebtsModel", "take", "[I", true)
  | 9 => ("LetterDebtsModel", "by", "[I", true)
  | 10 => ("LetterDebtsModel", "at", "I", false)
  | 11 => ("LetterDebtsModel", "start", "I", false)
  | 12 => ("LetterDebtsModel", "sort", "I", false)
  | 13 => ("LetterDebtsModel", "value", "I", false)
  | 14 => ("LetterDebtsModel", "fault", "I", false)
  | 15 => ("LetterDebtsModel", "told", "[I", true)
  | 16 => ("LetterDebtsModel", "truth", "[I", true)
  | 17 => ("LetterDebtsModel", "slipPay", "[I", true)
  | 18 => ("LetterDebtsModel", "slipDay", "[I", true)
  | 19 => ("LetterDebtsModel", "firms", "[I", true)
  | 20 => ("LetterDebtsModel", "firmFrom", "[I", true)
  | 21 => ("LetterDebtsModel", "firmTo", "[I", true)
  | 22 => ("LetterDebtsModel", "firmSum", "[I", true)
  | 23 => ("LetterDebtsModel", "firmDay", "[I", true)
  | 24 => ("LetterDebtsModel", "held", "[I", true)
  | 25 => ("LetterDebtsModel", "ways", "[J", true)
  | 26 => ("LetterDebtsModel", "low", "[I", true)
  | 27 => ("LetterDebtsModel", "high", "[I", true)
  | 28 => ("LetterDebtsModel", "allWays", "J", false)
  | 29 => ("LetterDebtsModel", "least", "I", false)
  | 30 => ("LetterDebtsModel", "most", "I", false)
  | 31 => ("LetterDebtsModel", "isWay", "[Z", true)
  | 32 => ("LetterDebtsModel", "debts", "[I", true)
  | 33 => ("LetterDebtsModel", "letters", "[I", true)
  | 34 => ("LetterDebtsModel", "calls", "[I", true)
  | 35 => ("LetterDebtsModel", "lost", "[I", true)
  | 36 => ("LetterDebtsModel", "days", "[I", true)
  | 37 => ("LetterDebtsModel", "debtPerson", "[I", true)
  | 38 => ("LetterDebtsModel", "amount", "[I", true)
  | 39 => ("LetterDebtsModel", "open", "[I", true)
  | 40 => ("LetterDebtsModel", "holds", "[I", true)
  | 41 => ("LetterDebtsModel", "aside", "[I", true)
  | 42 => ("LetterDebtsModel", "debtDay", "[I", true)
  | 43 => ("LetterDebtsModel", "kept", "[I", true)
  | 44 => ("LetterDebtsModel", "isAside", "[I", true)
  | 45 => ("LetterDebtsModel", "letterDebt", "[I", true)
  | 46 => ("LetterDebtsModel", "sent", "[I", true)
  | 47 => ("LetterDebtsModel", "letterPlace", "[I", true)
  | 48 => ("LetterDebtsModel", "minutes", "[I", true)
  | 49 => ("LetterDebtsModel", "places", "[I", true)
  | _ => ("LetterDebtsModel", "isKept", "[Z", true)
def tyX10 : Nat → FieldType := fun k => match k with
  | 0 => .long
  | 1 => .int
  | 2 => .array .byte
  | 3 => .int
  | 4 => .int
  | 5 => .array .int
  | 6 => .array .int
  | 7 => .array .int
  | 8 => .array .int
  | 9 => .array .int
  | 10 => .int
  | 11 => .int
  | 12 => .int
  | 13 => .int
  | 14 => .int
  | 15 => .array .int
  | 16 => .array .int
  | 17 => .array .int
  | 18 => .array .int
  | 19 => .array .int
  | 20 => .array .int
  | 21 => .array .int
  | 22 => .array .int
  | 23 => .array .int
  | 24 => .array .int
  | 25 => .array .long
  | 26 => .array .int
  | 27 => .array .int
  | 28 => .long
  | 29 => .int
  | 30 => .int
  | 31 => .array .boolean
  | 32 => .array .int
  | 33 => .array .int
  | 34 => .array .int
  | 35 => .array .int
  | 36 => .array .int
  | 37 => .array .int
  | 38 => .array .int
  | 39 => .array .int
  | 40 => .array .int
  | 41 => .array .int
  | 42 => .array .int
  | 43 => .array .int
  | 44 => .array .int
  | 45 => .array .int
  | 46 => .array .int
  | 47 => .array .int
  | 48 => .array .int
  | 49 => .array .int
  | _ => .array .boolean
abbrev wsX100 : List Cond := u_ws RX10 TX10 51
theorem nmX10 : ∀ a, a < 51 → ∀ b, b < 51 → a ≠ b → (TX10 a).2.1 ≠ (TX10 b).2.1 := by decide +kernel
theorem tyX10_ok : ∀ k, k < 51 → parseFieldDescriptor (TX10 k).2.2.1 = some (tyX10 k) := by decide +kernel
abbrev cX10_init : ByteArray := prog_12_method_1_code
def yX10_init : MethodName := ⟨RX10, "<init>", "()V"⟩
abbrev cX10_in : ByteArray := prog_12_method_3_code
def yX10_in : MethodName := ⟨RX10, "in", "(III)Z"⟩
abbrev cX10_type : ByteArray := prog_12_method_4_code
def yX10_type : MethodName := ⟨RX10, "type", "(JI)I"⟩
abbrev cX10_clear : ByteArray := prog_12_method_5_code
def yX10_clear : MethodName := ⟨RX10, "clear", "()I"⟩
abbrev cX10_here : ByteArray := prog_12_method_6_code
def yX10_here : MethodName := ⟨RX10, "here", "()I"⟩
abbrev cX10_more : ByteArray := prog_12_method_7_code
def yX10_more : MethodName := ⟨RX10, "more", "(JI)J"⟩
abbrev cX10_code : ByteArray := prog_12_method_8_code
def yX10_code : MethodName := ⟨RX10, "code", "(IIII)J"⟩
abbrev cX10_wordOf : ByteArray := prog_12_method_9_code
def yX10_wordOf : MethodName := ⟨RX10, "wordOf", "(II)I"⟩
abbrev cX10_next : ByteArray := prog_12_method_10_code
def yX10_next : MethodName := ⟨RX10, "next", "()V"⟩
abbrev cX10_wants : ByteArray := prog_12_method_11_code
def yX10_wants : MethodName := ⟨RX10, "wants", "(Z)I"⟩
abbrev cX10_number : ByteArray := prog_12_method_12_code
def yX10_number : MethodName := ⟨RX10, "number", "(II)I"⟩
abbrev cX10_word : ByteArray := prog_12_method_13_code
def yX10_word : MethodName := ⟨RX10, "word", "(I)V"⟩
abbrev cX10_sign : ByteArray := prog_12_method_14_code
def yX10_sign : MethodName := ⟨RX10, "sign", "(I)V"⟩
abbrev cX10_rules : ByteArray := prog_12_method_15_code
def yX10_rules : MethodName := ⟨RX10, "rules", "()I"⟩
abbrev cX10_isDay : ByteArray := prog_12_method_16_code
def yX10_isDay : MethodName := ⟨RX10, "isDay", "(I)Z"⟩
abbrev cX10_dueOf : ByteArray := prog_12_method_17_code
def yX10_dueOf : MethodName := ⟨RX10, "dueOf", "(II)I"⟩
abbrev cX10_due : ByteArray := prog_12_method_18_code
def yX10_due : MethodName := ⟨RX10, "due", "(II)I"⟩
abbrev cX10_isPerson : ByteArray := prog_12_method_19_code
def yX10_isPerson : MethodName := ⟨RX10, "isPerson", "(I)Z"⟩
abbrev cX10_isFortnight : ByteArray := prog_12_method_20_code
def yX10_isFortnight : MethodName := ⟨RX10, "isFortnight", "(I)Z"⟩
abbrev cX10_pay : ByteArray := prog_12_method_21_code
def yX10_pay : MethodName := ⟨RX10, "pay", "(IIII)I"⟩
abbrev cX10_firmOf : ByteArray := prog_12_method_22_code
def yX10_firmOf : MethodName := ⟨RX10, "firmOf", "(III)I"⟩
abbrev cX10_firm : ByteArray := prog_12_method_23_code
def yX10_firm : MethodName := ⟨RX10, "firm", "(IIII)I"⟩
abbrev cX10_findHeld : ByteArray := prog_12_method_24_code
def yX10_findHeld : MethodName := ⟨RX10, "findHeld", "(II)V"⟩
abbrev cX10_paid : ByteArray := prog_12_method_25_code
def yX10_paid : MethodName := ⟨RX10, "paid", "(III)I"⟩
abbrev cX10_add : ByteArray := prog_12_method_26_code
def yX10_add : MethodName := ⟨RX10, "add", "(IIII)V"⟩
abbrev cX10_goThrough : ByteArray := prog_12_method_27_code
def yX10_goThrough : MethodName := ⟨RX10, "goThrough", "(II)Z"⟩
abbrev cX10_over : ByteArray := prog_12_method_28_code
def yX10_over : MethodName := ⟨RX10, "over", "(I)I"⟩
abbrev cX10_slip : ByteArray := prog_12_method_29_code
def yX10_slip : MethodName := ⟨RX10, "slip", "(III)I"⟩
abbrev cX10_look : ByteArray := prog_12_method_30_code
def yX10_look : MethodName := ⟨RX10, "look", "(II)V"⟩
abbrev cX10_could : ByteArray := prog_12_method_31_code
def yX10_could : MethodName := ⟨RX10, "could", "(II)I"⟩
abbrev cX10_average : ByteArray := prog_12_method_32_code
def yX10_average : MethodName := ⟨RX10, "average", "(II)I"⟩
abbrev cX10_owedBy : ByteArray := prog_12_method_33_code
def yX10_owedBy : MethodName := ⟨RX10, "owedBy", "(IIZ)I"⟩
abbrev cX10_owedOf : ByteArray := prog_12_method_34_code
def yX10_owedOf : MethodName := ⟨RX10, "owedOf", "(III)I"⟩
abbrev cX10_owed : ByteArray := prog_12_method_35_code
def yX10_owed : MethodName := ⟨RX10, "owed", "(III)I"⟩
abbrev cX10_isOne : ByteArray := prog_12_method_36_code
def yX10_isOne : MethodName := ⟨RX10, "isOne", "()Z"⟩
abbrev cX10_stands : ByteArray := prog_12_method_37_code
def yX10_stands : MethodName := ⟨RX10, "stands", "(II)I"⟩
abbrev cX10_span : ByteArray := prog_12_method_38_code
def yX10_span : MethodName := ⟨RX10, "span", "(IIII)I"⟩
abbrev cX10_bitsIn : ByteArray := prog_12_method_39_code
def yX10_bitsIn : MethodName := ⟨RX10, "bitsIn", "(I)I"⟩
abbrev cX10_inSpans : ByteArray := prog_12_method_40_code
def yX10_inSpans : MethodName := ⟨RX10, "inSpans", "(II)I"⟩
abbrev cX10_showing : ByteArray := prog_12_method_41_code
def yX10_showing : MethodName := ⟨RX10, "showing", "(III)Z"⟩
abbrev cX10_settling : ByteArray := prog_12_method_42_code
def yX10_settling : MethodName := ⟨RX10, "settling", "(II)I"⟩
abbrev cX10_settles : ByteArray := prog_12_method_43_code
def yX10_settles : MethodName := ⟨RX10, "settles", "(III)I"⟩
abbrev cX10_tells : ByteArray := prog_12_method_44_code
def yX10_tells : MethodName := ⟨RX10, "tells", "(II)I"⟩
abbrev cX10_isDebt : ByteArray := prog_12_method_45_code
def yX10_isDebt : MethodName := ⟨RX10, "isDebt", "(I)Z"⟩
abbrev cX10_debt : ByteArray := prog_12_method_46_code
def yX10_debt : MethodName := ⟨RX10, "debt", "(II)I"⟩
abbrev cX10_placeOf : ByteArray := prog_12_method_47_code
def yX10_placeOf : MethodName := ⟨RX10, "placeOf", "(III)I"⟩
abbrev cX10_place : ByteArray := prog_12_method_48_code
def yX10_place : MethodName := ⟨RX10, "place", "(III)I"⟩
abbrev cX10_letter : ByteArray := prog_12_method_49_code
def yX10_letter : MethodName := ⟨RX10, "letter", "(I)I"⟩
abbrev cX10_stateOf : ByteArray := prog_12_method_50_code
def yX10_stateOf : MethodName := ⟨RX10, "stateOf", "(I)I"⟩
abbrev cX10_post : ByteArray := prog_12_method_51_code
def yX10_post : MethodName := ⟨RX10, "post", "(II)I"⟩
abbrev cX10_mayHold : ByteArray := prog_12_method_52_code
def yX10_mayHold : MethodName := ⟨RX10, "mayHold", "(I)Z"⟩
abbrev cX10_hold : ByteArray := prog_12_method_53_code
def yX10_hold : MethodName := ⟨RX10, "hold", "(IIII)I"⟩
abbrev cX10_set : ByteArray := prog_12_method_54_code
def yX10_set : MethodName := ⟨RX10, "set", "(I)I"⟩
abbrev cX10_about : ByteArray := prog_12_method_55_code
def yX10_about : MethodName := ⟨RX10, "about", "(II)I"⟩
abbrev cX10_right : ByteArray := prog_12_method_56_code
def yX10_right : MethodName := ⟨RX10, "right", "(II)I"⟩
abbrev cX10_heardFrom : ByteArray := prog_12_method_57_code
def yX10_heardFrom : MethodName := ⟨RX10, "heardFrom", "(I)I"⟩
abbrev cX10_call : ByteArray := prog_12_method_58_code
def yX10_call : MethodName := ⟨RX10, "call", "(II)I"⟩
abbrev cX10_day : ByteArray := prog_12_method_59_code
def yX10_day : MethodName := ⟨RX10, "day", "()I"⟩
abbrev cX10_weight : ByteArray := prog_12_method_60_code
def yX10_weight : MethodName := ⟨RX10, "weight", "(III)I"⟩
abbrev cX10_move : ByteArray := prog_12_method_61_code
def yX10_move : MethodName := ⟨RX10, "move", "([IIII)V"⟩
abbrev cX10_moveAll : ByteArray := prog_12_method_62_code
def yX10_moveAll : MethodName := ⟨RX10, "moveAll", "(II)V"⟩
abbrev cX10_keep : ByteArray := prog_12_method_63_code
def yX10_keep : MethodName := ⟨RX10, "keep", "(I)I"⟩
abbrev cX10_back : ByteArray := prog_12_method_64_code
def yX10_back : MethodName := ⟨RX10, "back", "(I)I"⟩
abbrev cX10_count : ByteArray := prog_12_method_65_code
def yX10_count : MethodName := ⟨RX10, "count", "(I)I"⟩
abbrev cX10_trace : ByteArray := prog_12_method_66_code
def yX10_trace : MethodName := ⟨RX10, "trace", "()J"⟩
def RJ6 : String := "java/lang/Integer"
def TJ6 : u_T := fun k => match k with
  | _ => ("", "", "", false)
def tyJ6 : Nat → FieldType := fun k => match k with
  | _ => .int
abbrev wsJ60 : List Cond := u_ws RJ6 TJ6 0
theorem nmJ6 : ∀ a, a < 0 → ∀ b, b < 0 → a ≠ b → (TJ6 a).2.1 ≠ (TJ6 b).2.1 := by decide +kernel
theorem tyJ6_ok : ∀ k, k < 0 → parseFieldDescriptor (TJ6 k).2.2.1 = some (tyJ6 k) := by decide +kernel
abbrev cJ6_bitCount_0f7a4 : ByteArray := prog_13_method_49_code
def yJ6_bitCount_0f7a4 : MethodName := ⟨RJ6, "bitCount", "(I)I"⟩
def RJ9 : String := "java/lang/Math"
def TJ9 : u_T := fun k => match k with
  | _ => ("", "", "", false)
def tyJ9 : Nat → FieldType := fun k => match k with
  | _ => .int
abbrev wsJ90 : List Cond := u_ws RJ9 TJ9 0
theorem nmJ9 : ∀ a, a < 0 → ∀ b, b < 0 → a ≠ b → (TJ9 a).2.1 ≠ (TJ9 b).2.1 := by decide +kernel
theorem tyJ9_ok : ∀ k, k < 0 → parseFieldDescriptor (TJ9 k).2.2.1 = some (tyJ9 k) := by decide +kernel
abbrev cJ9_max_7cf53 : ByteArray := prog_14_method_65_code
def yJ9_max_7cf53 : MethodName := ⟨RJ9, "max", "(II)I"⟩
abbrev cJ9_min_7cf53 : ByteArray := prog_14_method_69_code
def yJ9_min_7cf53 : MethodName := ⟨RJ9, "min", "(II)I"⟩
def RJ0 : String := "java/lang/String"
def TJ0 : u_T := fun k => match k with
  | _ => ("", "", "", false)
def tyJ0 : Nat → FieldType := fun k => match k with
  | _ => .int
abbrev wsJ00 : List Cond := u_ws RJ0 TJ0 0
theorem nmJ0 : ∀ a, a < 0 → ∀ b, b < 0 → a ≠ b → (TJ0 a).2.1 ≠ (TJ0 b).2.1 := by decide +kernel
theorem tyJ0_ok : ∀ k, k < 0 → parseFieldDescriptor (TJ0 k).2.2.1 = some (tyJ0 k) := by decide +kernel
abbrev cJ0_length_8abf5 : ByteArray := prog_15_method_54_code
def yJ0_length_8abf5 : MethodName := ⟨RJ0, "length", "()I"⟩
abbrev cJ0_charAt_5068e : ByteArray := prog_15_method_56_code
def yJ0_charAt_5068e : MethodName := ⟨RJ0, "charAt", "(I)C"⟩
abbrev cJ0_coder_7d493 : ByteArray := prog_15_method_152_code
def yJ0_coder_7d493 : MethodName := ⟨RJ0, "coder", "()B"⟩
abbrev cJ0_isLatin1_aae02 : ByteArray := prog_15_method_154_code
def yJ0_isLatin1_aae02 : MethodName := ⟨RJ0, "isLatin1", "()Z"⟩
abbrev cJ0_checkIndex_df160 : ByteArray := prog_15_method_155_code
def yJ0_checkIndex_df160 : MethodName := ⟨RJ0, "checkIndex", "(II)V"⟩
def RJ1 : String := "java/lang/StringLatin1"
def TJ1 : u_T := fun k => match k with
  | _ => ("", "", "", false)
def tyJ1 : Nat → FieldType := fun k => match k with
  | _ => .int
abbrev wsJ10 : List Cond := u_ws RJ1 TJ1 0
theorem nmJ1 : ∀ a, a < 0 → ∀ b, b < 0 → a ≠ b → (TJ1 a).2.1 ≠ (TJ1 b).2.1 := by decide +kernel
theorem tyJ1_ok : ∀ k, k < 0 → parseFieldDescriptor (TJ1 k).2.2.1 = some (tyJ1 k) := by decide +kernel
abbrev cJ1_charAt_3b067 : ByteArray := prog_16_method_2_code
def yJ1_charAt_3b067 : MethodName := ⟨RJ1, "charAt", "([BI)C"⟩
def RJ2 : String := "java/lang/StringUTF16"
def TJ2 : u_T := fun k => match k with
  | _ => ("", "", "", false)
def tyJ2 : Nat → FieldType := fun k => match k with
  | _ => .int
abbrev wsJ20 : List Cond := u_ws RJ2 TJ2 0
theorem nmJ2 : ∀ a, a < 0 → ∀ b, b < 0 → a ≠ b → (TJ2 a).2.1 ≠ (TJ2 b).2.1 := by decide +kernel
theorem tyJ2_ok : ∀ k, k < 0 → parseFieldDescriptor (TJ2 k).2.2.1 = some (tyJ2 k) := by decide +kernel
abbrev cJ2_getChar_3b067 : ByteArray := prog_17_method_5_code
def yJ2_getChar_3b067 : MethodName := ⟨RJ2, "getChar", "([BI)C"⟩
abbrev cJ2_length_9d52b : ByteArray := prog_17_method_6_code
def yJ2_length_9d52b : MethodName := ⟨RJ2, "length", "([B)I"⟩
abbrev cJ2_charAt_3b067 : ByteArray := prog_17_method_83_code
def yJ2_charAt_3b067 : MethodName := ⟨RJ2, "charAt", "([BI)C"⟩
abbrev cJ2_checkIndex_2214a : ByteArray := prog_17_method_91_code
def yJ2_checkIndex_2214a : MethodName := ⟨RJ2, "checkIndex", "(I[B)V"⟩
def RJ10 : String := "java/lang/System"
def TJ10 : u_T := fun k => match k with
  | _ => ("", "", "", false)
def tyJ10 : Nat → FieldType := fun k => match k with
  | _ => .int
abbrev wsJ100 : List Cond := u_ws RJ10 TJ10 0
theorem nmJ10 : ∀ a, a < 0 → ∀ b, b < 0 → a ≠ b → (TJ10 a).2.1 ≠ (TJ10 b).2.1 := by decide +kernel
theorem tyJ10_ok : ∀ k, k < 0 → parseFieldDescriptor (TJ10 k).2.2.1 = some (tyJ10 k) := by decide +kernel
def RJ3 : String := "jdk/internal/util/Preconditions"
def TJ3 : u_T := fun k => match k with
  | _ => ("", "", "", false)
def tyJ3 : Nat → FieldType := fun k => match k with
  | _ => .int
abbrev wsJ30 : List Cond := u_ws RJ3 TJ3 0
theorem nmJ3 : ∀ a, a < 0 → ∀ b, b < 0 → a ≠ b → (TJ3 a).2.1 ≠ (TJ3 b).2.1 := by decide +kernel
theorem tyJ3_ok : ∀ k, k < 0 → parseFieldDescriptor (TJ3 k).2.2.1 = some (tyJ3 k) := by decide +kernel
abbrev cJ3_checkIndex_8e157 : ByteArray := prog_19_method_11_code
def yJ3_checkIndex_8e157 : MethodName := ⟨RJ3, "checkIndex", "(IILjava/util/function/BiFunction;)I"⟩
def RL : String := "LetterDebtsLaw"
abbrev cL_law : ByteArray := code
def yL_law : MethodName := ⟨RL, "law", "([I)Z"⟩
abbrev vwCl : List vw_C := [(RX0, TX0, 7), (RX1, TX1, 5), (RX2, TX2, 8), (RX3, TX3, 4), (RX4, TX4, 2), (RX5, TX5, 11), (RX6, TX6, 6), (RX7, TX7, 3), (RX8, TX8, 7), (RX9, TX9, 7), (RX10, TX10, 51)]
theorem inX0 : ∀ w ∈ wsX00, w ∈ lw_tbl := by decide +kernel
theorem inX1 : ∀ w ∈ wsX10, w ∈ lw_tbl := by decide +kernel
theorem inX2 : ∀ w ∈ wsX20, w ∈ lw_tbl := by decide +kernel
theorem inX3 : ∀ w ∈ wsX30, w ∈ lw_tbl := by decide +kernel
theorem inX4 : ∀ w ∈ wsX40, w ∈ lw_tbl := by decide +kernel
theorem inX5 : ∀ w ∈ wsX50, w ∈ lw_tbl := by decide +kernel
theorem inX6 : ∀ w ∈ wsX60, w ∈ lw_tbl := by decide +kernel
theorem inX7 : ∀ w ∈ wsX70, w ∈ lw_tbl := by decide +kernel
theorem inX8 : ∀ w ∈ wsX80, w ∈ lw_tbl := by decide +kernel
theorem inX9 : ∀ w ∈ wsX90, w ∈ lw_tbl := by decide +kernel
theorem inX10 : ∀ w ∈ wsX100, w ∈ lw_tbl := by decide +kernel
