/-! WHAT THE q-LAYER's VALUES AND MEMORY SAY OF THE MACHINE -/
/-- where things outside lie; the static that holds a formatter -/
abbrev qG : Type := (Nat → Nat) × Value
def qVr (g : qG) (ad : List Nat) : qV → Value → Prop
  | .inl a, v => ∃ x : Int32, v = .int x ∧ x.toInt = a
  | .inr (.inl a), v => ∃ x : Int64, v = .long x ∧ x.toInt = a
  | .inr (.inr (.inl c)), v => ∃ q, ad[c.toNat]? = some q ∧ v = .ref q ∧ 0 ≤ c
  | .inr (.inr (.inr k)), v => (k = 3 ∧ v = g.2 ∧ v.category = 1) ∨ (¬ k = 3 ∧ v = .ref (g.1 k))
theorem qVr_cat {g : qG} {ad : List Nat} : ∀ {a : qV} {v : Value}, qVr g ad a v → v.category = qca a
  | .inl _, _, h => by
    obtain ⟨x, rfl, -⟩ := h
    rfl
  | .inr (.inl _), _, h => by
    obtain ⟨x, rfl, -⟩ := h
    rfl
  | .inr (.inr (.inl _)), _, h => by
    obtain ⟨q, -, rfl, -⟩ := h
    rfl
  | .inr (.inr (.inr k)), _, h => by
    rcases h with ⟨-, -, h⟩ | ⟨-, rfl⟩
    · exact h
    · rfl
def qVs (g : qG) (ad : List Nat) : List qV → List Value → Prop
  | [], [] => True
  | a :: as, v :: vs => qVr g ad a v ∧ qVs g ad as vs
  | _, _ => False
theorem qVs_nil {g : qG} {ad : List Nat} {vs : List Value} (h : qVs g ad [] vs) : vs = [] := by
  cases vs with
  | nil => rfl
  | cons _ _ => exact h.elim
theorem qVs_cons {g : qG} {ad : List Nat} {a : qV} {as : List qV} {vs : List Value} (h : qVs g ad (a :: as) vs) : ∃ v ws, vs = v :: ws ∧ qVr g ad a v ∧ qVs g ad as ws := by
  cases vs with
  | nil => exact h.elim
  | cons v ws => exact ⟨v, ws, rfl, h.1, h.2⟩
theorem qVs_cat {g : qG} {ad : List Nat} : ∀ {as : List qV} {vs : List Value}, qVs g ad as vs → vs.map (fun v => v.category) = as.map qca
  | [], [], _ => rfl
  | [], _ :: _, h => h.elim
  | _ :: _, [], h => h.elim
  | a :: as, v :: vs, h => by
    rw [List.map_cons, List.map_cons, qVr_cat h.1, qVs_cat h.2]
theorem qVs_app {g : qG} {ad : List Nat} : ∀ {as bs : List qV} {vs ws : List Value}, qVs g ad as vs → qVs g ad bs ws → qVs g ad (as ++ bs) (vs ++ ws)
  | [], _, [], _, _, h2 => h2
  | [], _, _ :: _, _, h1, _ => h1.elim
  | _ :: _, _, [], _, h1, _ => h1.elim
  | _ :: _, _, _ :: _, _, h1, h2 => ⟨h1.1, qVs_app h1.2 h2⟩
theorem qVs_len {g : qG} {ad : List Nat} : ∀ {as : List qV} {vs : List Value}, qVs g ad as vs → vs.length = as.length
  | [], [], _ => rfl
  | [], _ :: _, h => h.elim
  | _ :: _, [], h => h.elim
  | _ :: _, _ :: _, h => by rw [List.length_cons, List.length_cons, qVs_len h.2]
theorem qle4_sum {g : qG} {ad : List Nat} {st : List qV} {sv : List Value} (h : qle4 st = true) (hV : qVs g ad st sv) : (sv.map fun v => v.category).sum ≤ 8 := by
  rw [qVs_cat hV]
  have h2 : ∀ a : qV, qca a ≤ 2 := fun a => by
    unfold qca
    split <;> omega
  unfold qle4 at h
  split at h
  · simp
  · rename_i a
    have := h2 a
    simp only [List.map_cons, List.map_nil, List.sum_cons, List.sum_nil]
    omega
  · rename_i a b
    have := h2 a
    have := h2 b
    simp only [List.map_cons, List.map_nil, List.sum_cons, List.sum_nil]
    omega
  · rename_i a b c
    have := h2 a
    have := h2 b
    have := h2 c
    simp only [List.map_cons, List.map_nil, List.sum_cons, List.sum_nil]
    omega
  · rename_i a b c d
    have := h2 a
    have := h2 b
    have := h2 c
    have := h2 d
    simp only [List.map_cons, List.map_nil, List.sum_cons, List.sum_nil]
    omega
  · cases h
/-! locals -/
def qLr (g : qG) (ad : List Nat) (ls : qL) (lv : List (Nat × Value)) : Prop := ∀ k v, qg ls k = some v → ∃ w, (k, w) ∈ lv ∧ qVr g ad v w
theorem qg_set : ∀ {ls : qL} {i k : Nat} {a v : qV}, qg (qset ls i a) k = some v → (k = i ∧ v = a) ∨ (k ≠ i ∧ qg ls k = some v ∧ ¬ (k + 1 = i ∧ qca v = 2))
  | [], i, k, a, v, h => by
    unfold qset at h
    cases h
  | _ :: l, 0, 0, a, v, h => by
    have h : some a = some v := h
    cases h
    exact Or.inl ⟨rfl, rfl⟩
  | _ :: l, 0, k + 1, a, v, h => Or.inr ⟨by omega, h, by omega⟩
  | b :: l, 1, 0, a, v, h => by
    have h : qcl b = some v := h
    refine Or.inr ⟨by omega, ?_, ?_⟩
    · show b = some v
      unfold qcl at h
      split at h
      · cases h
      · exact h
    · rintro ⟨-, h2⟩
      unfold qcl at h
      split at h
      · cases h
      · rename_i hn
        subst h
        unfold qca at h2
        split at h2
        · rename_i z
          exact hn z rfl
        · cases h2
  | b :: [], 1, k + 1, a, v, h => by
    have h : qg [] k = some v := h
    cases h
  | b :: c :: l, 1, 1, a, v, h => by
    have h : some a = some v := h
    cases h
    exact Or.inl ⟨rfl, rfl⟩
  | b :: c :: l, 1, k + 2, a, v, h => Or.inr ⟨by omega, h, by omega⟩
  | b :: l, i + 2, 0, a, v, h => Or.inr ⟨by omega, h, by omega⟩
  | b :: l, i + 2, k + 1, a, v, h => by
    have h : qg (qset l (i + 1) a) k = some v := h
    rcases qg_set h with ⟨h1, h2⟩ | ⟨h1, h2, h3⟩
    · exact Or.inl ⟨by omega, h2⟩
    · exact Or.inr ⟨by omega, h2, fun q => h3 ⟨by omega, q.2⟩⟩
theorem qg_none : ∀ {ls : qL} {i k : Nat} {v : qV}, qg (qnone ls i) k = some v → k ≠ i ∧ qg ls k = some v
  | [], i, k, v, h => by
    unfold qnone at h
    cases h
  | _ :: l, 0, 0, v, h => by
    have h : (none : Option qV) = some v := h
    cases h
  | _ :: l, 0, k + 1, v, h => ⟨by omega, h⟩
  | b :: l, i + 1, 0, v, h => ⟨by omega, h⟩
  | b :: l, i + 1, k + 1, v, h => by
    have h : qg (qnone l i) k = some v := h
    obtain ⟨h1, h2⟩ := qg_none h
    exact ⟨by omega, h2⟩
theorem qLr_set {g : qG} {ad : List Nat} {ls : qL} {lv : List (Nat × Value)} {i : Nat} {a : qV} {w : Value} (h : qLr g ad ls lv) (ha : qVr g ad a w) : qLr g ad (qset ls i a) ((i, w) :: lv.filter (fun q => !(q.1 == i) && !(q.1 + 1 == i && q.2.category == 2))) := fun k v hk => by
  rcases qg_set hk with ⟨rfl, rfl⟩ | ⟨h1, h2, h3⟩
  · exact ⟨w, List.mem_cons_self, ha⟩
  · obtain ⟨w2, h4, h5⟩ := h k v h2
    refine ⟨w2, List.mem_cons_of_mem _ (List.mem_filter.mpr ⟨h4, ?_⟩), h5⟩
    have h6 := qVr_cat h5
    simp only [Bool.and_eq_true, Bool.not_eq_true', beq_eq_false_iff_ne, ne_eq, Bool.and_eq_false_iff]
    refine ⟨h1, ?_⟩
    by_cases e1 : k + 1 = i
    · exact Or.inr (fun q => h3 ⟨e1, by rw [← h6]; exact q⟩)
    · exact Or.inl e1
theorem qLr_set2 {g : qG} {ad : List Nat} {ls : qL} {lv : List (Nat × Value)} {i : Nat} {a : qV} {w : Value} (h : qLr g ad ls lv) (ha : qVr g ad a w) : qLr g ad (qset (qnone ls (i + 1)) i a) ((i, w) :: lv.filter (fun q => !(q.1 == i) && (!(q.1 == i + 1) && !(q.1 + 1 == i && q.2.category == 2)))) := fun k v hk => by
  rcases qg_set hk with ⟨rfl, rfl⟩ | ⟨h1, h2, h3⟩
  · exact ⟨w, List.mem_cons_self, ha⟩
  · obtain ⟨h7, h8⟩ := qg_none h2
    obtain ⟨w2, h4, h5⟩ := h k v h8
    refine ⟨w2, List.mem_cons_of_mem _ (List.mem_filter.mpr ⟨h4, ?_⟩), h5⟩
    have h6 := qVr_cat h5
    simp only [Bool.and_eq_true, Bool.not_eq_true', beq_eq_false_iff_ne, ne_eq, Bool.and_eq_false_iff]
    refine ⟨h1, h7, ?_⟩
    by_cases e1 : k + 1 = i
    · exact Or.inr (fun q => h3 ⟨e1, by rw [← h6]; exact q⟩)
    · exact Or.inl e1
/-! cells -/
def qFr (ad : List Nat) (μ : qM) (i ci k : Nat) (o : Option Nat) (v : Value) : Prop := match qfk (zty ci k) with
  | 2 => ∃ x : Int64, v = .long x ∧ x.toInt = μ i k
  | 3 => ∃ j q, o = some j ∧ ad[j]? = some q ∧ v = .ref q
  | _ => ∃ x : Int32, v = .int x ∧ x.toInt = μ i k
def qCr (ad : List Nat) (kk : Nat → ClassId) (μ : qM) (i : Nat) : qS → va_E → Prop
  | .inl (ci, fs), e => ∃ vs, e = .inr (ci, vs) ∧ vs.length = zN ci ∧ ∀ k o, fs[k]? = some o → ∃ v, vs[k]? = some v ∧ qFr ad μ i ci k o v
  | .inr (k, n, l), e => (k ≤ 3 ∧ ∃ f : Nat → Int32, e = .inl (kk k, n, .inl f) ∧ ∀ j : Nat, j < n → (f j).toInt = μ i j) ∨
    (k = 4 ∧ ∃ f : Nat → Int64, e = .inl (kk k, n, .inr (.inl f)) ∧ ∀ j : Nat, j < n → (f j).toInt = μ i j) ∨
    (5 ≤ k ∧ k ≤ 7 ∧ ∃ f : Nat → Option Nat, e = .inl (kk k, n, .inr (.inr (.inr (.inr f)))) ∧ ∀ j : Nat, j < n → ∃ q, ad[l.getD j 0]? = some q ∧ f j = some q)
def qHr (ad : List Nat) (kk : Nat → ClassId) (μ : qM) (ws : va_W) : Prop := ws.map (·.1) = ad ∧ ∀ i c, qsh[i]? = some c → ∃ q e, ws[i]? = some (q, e) ∧ qCr ad kk μ i c e
theorem qat_some {c : Int} {x : qS} (h : qat c = some x) : ∃ n : Nat, c = n ∧ qsh[n]? = some x := by
  unfold qat at h
  split at h
  · rename_i n
    exact ⟨n, rfl, h⟩
  · cases h
theorem qty_obj {c : Int} {r : Nat} (h : qty c = r) (hr : r < 100) : ∃ (n : Nat) (fs : List (Option Nat)), c = n ∧ qsh[n]? = some (.inl (r, fs)) ∧ ∀ k, qrf c k = (((fs.getD k none).getD 0 : Nat) : Int) := by
  unfold qty at h
  split at h
  · rename_i x hx
    obtain ⟨n, h1, h2⟩ := qat_some hx
    obtain ⟨x1, x2⟩ := x
    have h : x1 = r := h
    subst h
    refine ⟨n, x2, h1, h2, fun k => ?_⟩
    unfold qrf
    rw [hx]
  · omega
  · omega
theorem qty_arr {c : Int} {r : Nat} (h : qty c = 100 + r) (hr : r < 800) : ∃ (n len : Nat) (l : List Nat), c = n ∧ qsh[n]? = some (.inr (r, len, l)) ∧ qal c = len ∧ ∀ j, qra c j = ((l.getD j.toNat 0 : Nat) : Int) := by
  have hC : ∀ (n : Nat) (x : Nat × List (Option Nat)), qsh[n]? = some (.inl x) → x.1 < 100 := fun n x hx => by
    have h1 : ∀ y ∈ qsh, (match y with
      | .inl x => decide (x.1 < 100)
      | .inr _ => true) = true := by decide +kernel
    exact of_decide_eq_true (h1 _ (List.mem_of_getElem? hx))
  unfold qty at h
  split at h
  · rename_i x hx
    obtain ⟨n, h1, h2⟩ := qat_some hx
    have := hC n x h2
    omega
  · rename_i x hx
    obtain ⟨n, h1, h2⟩ := qat_some hx
    obtain ⟨x1, x2, x3⟩ := x
    have h : 100 + x1 = 100 + r := h
    have h : x1 = r := by omega
    subst h
    refine ⟨n, x2, x3, h1, h2, ?_, fun j => ?_⟩
    · unfold qal
      rw [hx]
    · unfold qra
      rw [hx]
  · omega
