/-! FRESH OBJECTS -/
noncomputable def zf1 : zH := zph ((0, 0), [], []) (.inl (9, zfs 9, [])) 7
noncomputable def zf2 (hA : zH) : zH := zph hA (.inl (10, zfs 10, [])) 51
noncomputable def zfr2 : Bool := match zx [] 30 9 [zrf 0] zf1 with
  | .inl (none, hA) => (Nat.beq hA.1.1 170 && zmo zf1 hA) && (match zx [] 30 10 [zrf 170] (zf2 hA) with
    | .inl (none, hB) => zmo (zf2 hA) hB && (zqH zh0 hB && (Nat.ble hB.1.1 600000 && Nat.ble hB.1.2 7302250))
    | _ => false)
  | _ => false
set_option maxRecDepth 100000 in
theorem zfr2_ok : zfr2 = true := by decide +kernel
theorem zfr_ok : ∃ hA hB, zx [] 30 9 [zrf 0] zf1 = .inl (none, hA) ∧ hA.1.1 = 170 ∧ zmo zf1 hA = true ∧ zx [] 30 10 [zrf 170] (zf2 hA) = .inl (none, hB) ∧ zmo (zf2 hA) hB = true ∧ zqH zh0 hB = true ∧ hB.1.1 ≤ 600000 ∧ hB.1.2 ≤ 7302250 := by
  have h := zfr2_ok
  unfold zfr2 at h
  split at h
  · rename_i hA e1
    rw [Bool.and_eq_true, Bool.and_eq_true] at h
    obtain ⟨⟨h1, h2⟩, h3⟩ := h
    split at h3
    · rename_i hB e2
      rw [Bool.and_eq_true, Bool.and_eq_true, Bool.and_eq_true] at h3
      exact ⟨hA, hB, e1, Nat.eq_of_beq_eq_true h1, h2, e2, h3.1, h3.2.1, Nat.le_of_ble_eq_true h3.2.2.1, Nat.le_of_ble_eq_true h3.2.2.2⟩
    · cases h3
  · cases h
section ZL
variable {p : Program} {l : Launch} {e : Env} {s : State} {m : MethodId} {below : List Frame} {meth : Method} {c : Code} {D : va_G} {kk : Nat → ClassId} {A : Nat → Prop} {g : zG} {ad0 : List Nat}
theorem zqC_ok {ad : List Nat} : ∀ {a b : zC} {e9 : va_E}, zqC a b = true → zCr g ad kk b e9 → zCr g ad kk a e9
  | .inl (i, fa), .inl (j, fb), _, h, hc => by
    have h : (Nat.beq i j && (List.range 56).all fun k => match zg fa k with
      | none => true
      | some v => match zg fb k with
        | none => false
        | some w => zqA v w) = true := h
    rw [Bool.and_eq_true] at h
    have e1 := Nat.eq_of_beq_eq_true h.1
    subst e1
    obtain ⟨vs, h1, h2, h3⟩ := hc
    refine ⟨vs, h1, h2, fun k a hk ha => ?_⟩
    have hlt : k < 56 := Nat.lt_of_lt_of_le hk (by
      have : ∀ ci, zN ci ≤ 51 := fun ci => by
        unfold zN
        split <;> decide
      have := this i
      omega)
    have h4 := List.all_eq_true.mp h.2 k (List.mem_range.mpr hlt)
    rw [ha] at h4
    have h4 : (match zg fb k with
        | none => false
        | some w => zqA a w) = true := h4
    split at h4
    · cases h4
    · rename_i w hw
      rw [zqA_eq h4]
      exact h3 k w hk hw
  | .inr (i, n, d, a), .inr (j, m1, e1, b), _, h, hc => by
    have h : (Nat.beq i j && (Nat.beq n m1 && (List.range n).all fun k => zqA (zag d a k) (zag e1 b k))) = true := h
    rw [Bool.and_eq_true, Bool.and_eq_true] at h
    have e2 := Nat.eq_of_beq_eq_true h.1
    have e3 := Nat.eq_of_beq_eq_true h.2.1
    subst e2
    subst e3
    have hq : ∀ k, k < n → zag d a k = zag e1 b k := fun k hk => zqA_eq (List.all_eq_true.mp h.2.2 k (List.mem_range.mpr hk))
    rcases hc with ⟨h1, f, h2, h3⟩ | ⟨h1, f, h2, h3⟩ | ⟨h1, h1b, f, h2, h3⟩
    · exact Or.inl ⟨h1, f, h2, fun k hk => by rw [hq k hk]; exact h3 k hk⟩
    · exact Or.inr (Or.inl ⟨h1, f, h2, fun k hk => by rw [hq k hk]; exact h3 k hk⟩)
    · exact Or.inr (Or.inr ⟨h1, h1b, f, h2, fun k hk => by rw [hq k hk]; exact h3 k hk⟩)
  | .inl _, .inr _, _, h, _ => by cases h
  | .inr _, .inl _, _, h, _ => by cases h
theorem znt_none {α : Type} : ∀ {l : List α} {n : Nat}, l.length ≤ n → znt l n = none
  | [], _, _ => rfl
  | _ :: l, 0, h => absurd h (Nat.not_succ_le_zero _)
  | _ :: l, n + 1, h => znt_none (l := l) (n := n) (Nat.le_of_succ_le_succ h)
theorem zh0_out {i : Nat} (hi : 216 ≤ i) : zgt zh0 i = none := by
  have e1 : znt zh0.2.1 (i / 8) = none := znt_none (by
    have : zh0.2.1.length = 27 := rfl
    omega)
  have e2 : zlk zh0.2.2 i = none := rfl
  unfold zgt zg
  rw [e2]
  simp only [e1]
theorem zHr_q {hB : zH} {ws : va_W} (hq : zqH zh0 hB = true) (hh : zHr g kk ad0 hB ws) : zHr g kk ad0 zh0 ws := by
  unfold zqH at hq
  rw [Bool.and_eq_true, Bool.and_eq_true] at hq
  refine ⟨⟨hh.1.1.trans (Nat.eq_of_beq_eq_true hq.1).symm, hh.1.2⟩, fun i c9 hi => ?_⟩
  by_cases hlt : i < 216
  · have h4 := List.all_eq_true.mp hq.2.2 i (List.mem_range.mpr hlt)
    rw [hi] at h4
    have h4 : (match zgt hB i with
      | some b => zqC c9 b
      | none => false) = true := h4
    split at h4
    · rename_i b9 hb9
      obtain ⟨q, e9, h5, h6⟩ := hh.2 i b9 hb9
      exact ⟨q, e9, h5, zqC_ok h4 h6⟩
    · cases h4
  · rw [zh0_out (Nat.le_of_not_lt hlt)] at hi
    cases hi
abbrev zLM : zL := [(3, zk 0), (2, zrf 170), (1, zrf 0), (0, zpx 0)]
end ZL
