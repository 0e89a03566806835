/-! THE MEMORY BEHIND THE CONSTRUCTORS -/
def qμi : qM := fun c i => if c = 16 ∧ i = 4 then -2 else if c = 16 ∧ (i = 5 ∨ i = 6) then 1 else if c = 43 ∧ i = 0 then 1 else if 74 ≤ c ∧ c < 140 ∧ (c - 74) % 11 = 3 then -1 else if c = 179 then -9 else 0
theorem qμi_sf (c i : Int) : sf c i (qμi c i) := by
  unfold qμi
  split
  · unfold sf
    refine ⟨?_, ?_, ?_, ?_, ?_, ?_, ?_, ?_, ?_, ?_, ?_, ?_, ?_, ?_, ?_, ?_, ?_, ?_, ?_, ?_, ?_, ?_, ?_, ?_, ?_, ?_, ?_, ?_, ?_, ?_, ?_⟩ <;> intros <;> omega
  · split
    · unfold sf
      refine ⟨?_, ?_, ?_, ?_, ?_, ?_, ?_, ?_, ?_, ?_, ?_, ?_, ?_, ?_, ?_, ?_, ?_, ?_, ?_, ?_, ?_, ?_, ?_, ?_, ?_, ?_, ?_, ?_, ?_, ?_, ?_⟩ <;> intros <;> omega
    · split
      · unfold sf
        refine ⟨?_, ?_, ?_, ?_, ?_, ?_, ?_, ?_, ?_, ?_, ?_, ?_, ?_, ?_, ?_, ?_, ?_, ?_, ?_, ?_, ?_, ?_, ?_, ?_, ?_, ?_, ?_, ?_, ?_, ?_, ?_⟩ <;> intros <;> omega
      · split
        · unfold sf
          refine ⟨?_, ?_, ?_, ?_, ?_, ?_, ?_, ?_, ?_, ?_, ?_, ?_, ?_, ?_, ?_, ?_, ?_, ?_, ?_, ?_, ?_, ?_, ?_, ?_, ?_, ?_, ?_, ?_, ?_, ?_, ?_⟩ <;> intros <;> omega
        · split
          · unfold sf
            refine ⟨?_, ?_, ?_, ?_, ?_, ?_, ?_, ?_, ?_, ?_, ?_, ?_, ?_, ?_, ?_, ?_, ?_, ?_, ?_, ?_, ?_, ?_, ?_, ?_, ?_, ?_, ?_, ?_, ?_, ?_, ?_⟩ <;> intros <;> omega
          · unfold sf
            refine ⟨?_, ?_, ?_, ?_, ?_, ?_, ?_, ?_, ?_, ?_, ?_, ?_, ?_, ?_, ?_, ?_, ?_, ?_, ?_, ?_, ?_, ?_, ?_, ?_, ?_, ?_, ?_, ?_, ?_, ?_, ?_⟩ <;> intros <;> omega
theorem qμi_safe : Safe qμi := by
  refine ⟨qμi_sf, fun k => ?_, fun k _ h => ?_⟩
  · have e1 : qμi 182 k = 0 := by
      unfold qμi
      rw [if_neg (by omega), if_neg (by omega), if_neg (by omega), if_neg (by omega), if_neg (by omega)]
    have e2 : qμi 183 k = 0 := by
      unfold qμi
      rw [if_neg (by omega), if_neg (by omega), if_neg (by omega), if_neg (by omega), if_neg (by omega)]
    omega
  · have e1 : qμi 170 4 = 0 := by decide
    omega
noncomputable def qz1 (i : Nat) (c : qS) (z : Option zC) : Bool := match c, z with
  | .inl (ci, fs), some (.inl (cj, za)) => Nat.beq ci cj && (Nat.ble fs.length (zN ci) && (List.range fs.length).all fun k => match qfk (zty ci k), zg za k with
    | 2, some (.inr (.inr (.inl (some v)))) => decide (v = qμi i k)
    | 3, some (.inr (.inr (.inr (.inl (some j))))) => (match fs[k]? with
      | some (some j') => Nat.beq j j'
      | _ => false)
    | 2, _ => false
    | 3, _ => false
    | _, some (.inl (a, b)) => decide (a = qμi i k) && decide (b = qμi i k)
    | _, _ => false)
  | .inr (k, n, l), some (.inr (k', n', d, ov)) => Nat.beq k k' && (Nat.beq n n' && (List.range n).all fun j => match zag d ov j with
    | .inl (a, b) => Nat.ble k 3 && (decide (a = qμi i j) && decide (b = qμi i j))
    | .inr (.inr (.inl (some v))) => Nat.beq k 4 && decide (v = qμi i j)
    | .inr (.inr (.inr (.inl (some q)))) => (Nat.ble 5 k && Nat.ble k 7) && Nat.beq q (l.getD j 0)
    | _ => false)
  | _, _ => false
noncomputable def qz (n : Nat) (l : List qS) : Bool := match l with
  | [] => true
  | c :: l => qz1 n c (zgt zh0 n) && qz (n + 1) l
theorem qz_at : ∀ {l : List qS} {n i : Nat} {c : qS}, qz n l = true → l[i]? = some c → qz1 (n + i) c (zgt zh0 (n + i)) = true
  | [], _, _, _, _, h => by cases h
  | c :: l, n, 0, d, h, hi => by
    have h : (qz1 n c (zgt zh0 n) && qz (n + 1) l) = true := h
    rw [Bool.and_eq_true] at h
    have hi : some c = some d := hi
    cases hi
    exact h.1
  | c :: l, n, i + 1, d, h, hi => by
    have h : (qz1 n c (zgt zh0 n) && qz (n + 1) l) = true := h
    rw [Bool.and_eq_true] at h
    have := qz_at (l := l) (n := n + 1) (i := i) (c := d) h.2 hi
    rw [show n + (i + 1) = n + 1 + i by omega]
    exact this
set_option maxRecDepth 100000 in
theorem qz_ok : qz 0 qsh = true := by decide +kernel
theorem qz1_ok {g : zG} {ad : List Nat} {kk : Nat → ClassId} {i : Nat} : ∀ {c : qS} {z : zC} {e : va_E}, qz1 i c (some z) = true → zCr g ad kk z e → qCr ad kk qμi i c e
  | .inl (ci, fs), .inl (cj, za), e, h, hc => by
    have h : (Nat.beq ci cj && (Nat.ble fs.length (zN ci) && (List.range fs.length).all fun k => match qfk (zty ci k), zg za k with
      | 2, some (.inr (.inr (.inl (some v)))) => decide (v = qμi i k)
      | 3, some (.inr (.inr (.inr (.inl (some j))))) => (match fs[k]? with
        | some (some j') => Nat.beq j j'
        | _ => false)
      | 2, _ => false
      | 3, _ => false
      | _, some (.inl (a, b)) => decide (a = qμi i k) && decide (b = qμi i k)
      | _, _ => false)) = true := h
    rw [Bool.and_eq_true, Bool.and_eq_true] at h
    obtain ⟨h1, h2, h3⟩ := h
    have e1 := Nat.eq_of_beq_eq_true h1
    subst e1
    obtain ⟨vs, hv1, hv2, hv3⟩ := hc
    refine ⟨vs, hv1, hv2, fun k o hk => ?_⟩
    have hlt : k < fs.length := (List.getElem?_eq_some_iff.mp hk).1
    have hN : k < zN ci := Nat.lt_of_lt_of_le hlt (Nat.le_of_ble_eq_true h2)
    have h4 := List.all_eq_true.mp h3 k (List.mem_range.mpr hlt)
    unfold qFr
    split at h4
    · rename_i v hq hz
      obtain ⟨w, hw1, x, rfl, hx⟩ := hv3 k _ hN hz
      refine ⟨_, hw1, ?_⟩
      rw [hq]
      exact ⟨x, rfl, (hx v rfl).trans (of_decide_eq_true h4)⟩
    · rename_i j hq hz
      obtain ⟨w, hw1, q, hq1, rfl⟩ := hv3 k _ hN hz
      refine ⟨_, hw1, ?_⟩
      rw [hk] at h4
      rw [hq]
      cases o with
      | none => cases h4
      | some j' =>
        have e2 := Nat.eq_of_beq_eq_true h4
        subst e2
        exact ⟨j, q, rfl, hq1, rfl⟩
    · cases h4
    · cases h4
    · rename_i a b hz hn2 hn3
      rw [Bool.and_eq_true] at h4
      have ha := of_decide_eq_true h4.1
      have hb := of_decide_eq_true h4.2
      obtain ⟨w, hw1, x, rfl, hx1, hx2⟩ := hv3 k _ hN hz
      have hx1 : a ≤ x.toInt := hx1
      have hx2 : x.toInt ≤ b := hx2
      refine ⟨_, hw1, ?_⟩
      have hr : ∃ y : Int32, Value.int x = .int y ∧ y.toInt = qμi i k := ⟨x, rfl, by omega⟩
      rcases qfk_all (zty ci k) with h9 | h9 | h9 | h9
      · rw [h9]
        exact hr
      · rw [h9]
        exact hr
      · exact absurd h9 hn2
      · exact absurd h9 hn3
    · cases h4
  | .inr (k, n, l), .inr (k', n', d, ov), e, h, hc => by
    have h : (Nat.beq k k' && (Nat.beq n n' && (List.range n).all fun j => match zag d ov j with
      | .inl (a, b) => Nat.ble k 3 && (decide (a = qμi i j) && decide (b = qμi i j))
      | .inr (.inr (.inl (some v))) => Nat.beq k 4 && decide (v = qμi i j)
      | .inr (.inr (.inr (.inl (some q)))) => (Nat.ble 5 k && Nat.ble k 7) && Nat.beq q (l.getD j 0)
      | _ => false)) = true := h
    rw [Bool.and_eq_true, Bool.and_eq_true] at h
    obtain ⟨h1, h2, h3⟩ := h
    have e1 := Nat.eq_of_beq_eq_true h1
    have e2 := Nat.eq_of_beq_eq_true h2
    subst e1
    subst e2
    rcases hc with ⟨hk, f, hf, hj⟩ | ⟨hk, f, hf, hj⟩ | ⟨hk, hk2, f, hf, hj⟩
    · refine Or.inl ⟨hk, f, hf, fun j hjn => ?_⟩
      have h4 := List.all_eq_true.mp h3 j (List.mem_range.mpr hjn)
      have h5 := hj j hjn
      split at h4
      · rename_i a b hz
        rw [hz] at h5
        obtain ⟨x, hx, h6, h7⟩ := h5
        have h6 : a ≤ x.toInt := h6
        have h7 : x.toInt ≤ b := h7
        rw [Bool.and_eq_true, Bool.and_eq_true] at h4
        have ha := of_decide_eq_true h4.2.1
        have hb := of_decide_eq_true h4.2.2
        cases hx
        omega
      · rw [Bool.and_eq_true] at h4
        have := Nat.eq_of_beq_eq_true h4.1
        omega
      · rw [Bool.and_eq_true, Bool.and_eq_true] at h4
        have := Nat.le_of_ble_eq_true h4.1.1
        omega
      · cases h4
    · refine Or.inr (Or.inl ⟨hk, f, hf, fun j hjn => ?_⟩)
      have h4 := List.all_eq_true.mp h3 j (List.mem_range.mpr hjn)
      have h5 := hj j hjn
      split at h4
      · rw [Bool.and_eq_true] at h4
        have := Nat.le_of_ble_eq_true h4.1
        omega
      · rename_i v hz
        rw [hz] at h5
        obtain ⟨x, hx, h6⟩ := h5
        rw [Bool.and_eq_true] at h4
        have ha := of_decide_eq_true h4.2
        cases hx
        exact (h6 v rfl).trans ha
      · rw [Bool.and_eq_true, Bool.and_eq_true] at h4
        have := Nat.le_of_ble_eq_true h4.1.1
        omega
      · cases h4
    · refine Or.inr (Or.inr ⟨hk, hk2, f, hf, fun j hjn => ?_⟩)
      have h4 := List.all_eq_true.mp h3 j (List.mem_range.mpr hjn)
      have h5 := hj j hjn
      split at h4
      · rw [Bool.and_eq_true] at h4
        have := Nat.le_of_ble_eq_true h4.1
        omega
      · rw [Bool.and_eq_true] at h4
        have := Nat.eq_of_beq_eq_true h4.1
        omega
      · rename_i q hz
        rw [hz] at h5
        obtain ⟨q2, hx, h6⟩ := h5
        rw [Bool.and_eq_true] at h4
        have ha := Nat.eq_of_beq_eq_true h4.2
        subst ha
        refine ⟨q2, hx, ?_⟩
        unfold va_rf at h6
        split at h6
        · cases h6
        · cases h6
          assumption
      · cases h4
  | .inl _, .inr _, _, h, _ => by cases h
  | .inr _, .inl _, _, h, _ => by cases h
theorem qHr_0 {g : zG} {kk : Nat → ClassId} {ad0 : List Nat} {ws : va_W} (h : zHr g kk ad0 zh0 ws) : qHr (ws.map (·.1)) kk qμi ws := by
  refine ⟨rfl, fun i c hi => ?_⟩
  have h1 := qz_at (n := 0) (i := i) qz_ok hi
  rw [Nat.zero_add] at h1
  cases hz : zgt zh0 i with
  | none =>
    rw [hz] at h1
    obtain ⟨a, b⟩ | ⟨a, b, c⟩ := c <;> cases h1
  | some z =>
    rw [hz] at h1
    obtain ⟨q, e, h2, h3⟩ := h.2 i z hz
    exact ⟨q, e, h2, qz1_ok h1 h3⟩
