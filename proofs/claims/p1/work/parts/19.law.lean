/-! FRESH OBJECTS -/
noncomputable def zf1 : zH := zph ((0, 0), [], []) (.inl (9, zfs 9, [])) 7
noncomputable def zf2 (hA : zH) : zH := zph hA (.inl (10, zfs 10, [])) 51
noncomputable def zfr2 : Bool := match zx [] 30 75 [zrf 0] zf1 with
  | .inl (none, hA) => (Nat.beq hA.1.1 170 && zmo zf1 hA) && (match zx [] 30 116 [zrf 170] (zf2 hA) with
    | .inl (none, hB) => zmo (zf2 hA) hB && (zqH zh0 hB && (Nat.ble hB.1.1 600000 && Nat.ble hB.1.2 7302250))
    | _ => false)
  | _ => false
set_option maxRecDepth 100000 in
theorem zfr2_ok : zfr2 = true := by decide +kernel
theorem zfr_ok : ∃ hA hB, zx [] 30 75 [zrf 0] zf1 = .inl (none, hA) ∧ hA.1.1 = 170 ∧ zmo zf1 hA = true ∧ zx [] 30 116 [zrf 170] (zf2 hA) = .inl (none, hB) ∧ zmo (zf2 hA) hB = true ∧ zqH zh0 hB = true ∧ hB.1.1 ≤ 600000 ∧ hB.1.2 ≤ 7302250 := by
  have h := zfr2_ok
  unfold zfr2 at h
  split at h
  · rename_i hA e1
    rw [Bool.and_eq_true, Bool.and_eq_true] at h
    obtain ⟨⟨h1, h2⟩, h3⟩ := h
    split at h3
    · rename_i hB e2
      rw [Bool.and_eq_true, Bool.and_eq_true, Bool.and_eq_true] at h3
      exact ⟨hA, hB, e1, Nat.eq_of_beq_eq_true h1, h2, e2, h3.1, h3.2.1, Nat.le_of_ble_eq_true h3.2.2.1, Nat.le_of_ble_eq_true h3.2.2.2⟩
    · cases h3
  · cases h
section ZL
variable {p : Program} {l : Launch} {e : Env} {s : State} {m : MethodId} {below : List Frame} {meth : Method} {c : Code} {D : va_G} {kk : Nat → ClassId} {A : Nat → Prop} {g : zG} {ad0 : List Nat}
theorem zqC_ok {ad : List Nat} : ∀ {a b : zC} {e9 : va_E}, zqC a b = true → zCr g ad kk b e9 → zCr g ad kk a e9
  | .inl (i, fa), .inl (j, fb), _, h, hc => by
    have h : (Nat.beq i j && (List.range 56).all fun k => match zg fa k with
      | none => true
      | some v => match zg fb k with
        | none => false
        | some w => zqA v w) = true := h
    rw [Bool.and_eq_true] at h
    have e1 := Nat.eq_of_beq_eq_true h.1
    subst e1
    obtain ⟨vs, h1, h2, h3⟩ := hc
    refine ⟨vs, h1, h2, fun k a hk ha => ?_⟩
    have hlt : k < 56 := Nat.lt_of_lt_of_le hk (by
      have : ∀ ci, zN ci ≤ 51 := fun ci => by
        unfold zN
        split <;> decide
      have := this i
      omega)
    have h4 := List.all_eq_true.mp h.2 k (List.mem_range.mpr hlt)
    rw [ha] at h4
    have h4 : (match zg fb k with
        | none => false
        | some w => zqA a w) = true := h4
    split at h4
    · cases h4
    · rename_i w hw
      rw [zqA_eq h4]
      exact h3 k w hk hw
  | .inr (i, n, d, a), .inr (j, m1, e1, b), _, h, hc => by
    have h : (Nat.beq i j && (Nat.beq n m1 && (List.range n).all fun k => zqA (zag d a k) (zag e1 b k))) = true := h
    rw [Bool.and_eq_true, Bool.and_eq_true] at h
    have e2 := Nat.eq_of_beq_eq_true h.1
    have e3 := Nat.eq_of_beq_eq_true h.2.1
    subst e2
    subst e3
    have hq : ∀ k, k < n → zag d a k = zag e1 b k := fun k hk => zqA_eq (List.all_eq_true.mp h.2.2 k (List.mem_range.mpr hk))
    rcases hc with ⟨h1, f, h2, h3⟩ | ⟨h1, f, h2, h3⟩ | ⟨h1, h1b, f, h2, h3⟩
    · exact Or.inl ⟨h1, f, h2, fun k hk => by rw [hq k hk]; exact h3 k hk⟩
    · exact Or.inr (Or.inl ⟨h1, f, h2, fun k hk => by rw [hq k hk]; exact h3 k hk⟩)
    · exact Or.inr (Or.inr ⟨h1, h1b, f, h2, fun k hk => by rw [hq k hk]; exact h3 k hk⟩)
  | .inl _, .inr _, _, h, _ => by cases h
  | .inr _, .inl _, _, h, _ => by cases h
theorem znt_none {α : Type} : ∀ {l : List α} {n : Nat}, l.length ≤ n → znt l n = none
  | [], _, _ => rfl
  | _ :: l, 0, h => absurd h (Nat.not_succ_le_zero _)
  | _ :: l, n + 1, h => znt_none (l := l) (n := n) (Nat.le_of_succ_le_succ h)
theorem zh0_out {i : Nat} (hi : 216 ≤ i) : zgt zh0 i = none := by
  have e1 : znt zh0.2.1 (i / 8) = none := znt_none (by
    have : zh0.2.1.length = 27 := rfl
    omega)
  have e2 : zlk zh0.2.2 i = none := rfl
  unfold zgt zg
  rw [e2]
  simp only [e1]
theorem zHr_q {hB : zH} {ws : va_W} (hq : zqH zh0 hB = true) (hh : zHr g kk ad0 hB ws) : zHr g kk ad0 zh0 ws := by
  unfold zqH at hq
  rw [Bool.and_eq_true, Bool.and_eq_true] at hq
  refine ⟨⟨hh.1.1.trans (Nat.eq_of_beq_eq_true hq.1).symm, hh.1.2⟩, fun i c9 hi => ?_⟩
  by_cases hlt : i < 216
  · have h4 := List.all_eq_true.mp hq.2.2 i (List.mem_range.mpr hlt)
    rw [hi] at h4
    have h4 : (match zgt hB i with
      | some b => zqC c9 b
      | none => false) = true := h4
    split at h4
    · rename_i b9 hb9
      obtain ⟨q, e9, h5, h6⟩ := hh.2 i b9 hb9
      exact ⟨q, e9, h5, zqC_ok h4 h6⟩
    · cases h4
  · rw [zh0_out (Nat.le_of_not_lt hlt)] at hi
    cases hi
abbrev zLM : zL := [(3, zk 0), (2, zrf 170), (1, zrf 0), (0, zpx 0)]
/-- one box: the engine's run of the law answers 1, so the machine does -/
theorem zone {E : zE} {h' : zH} (hC : zCx p s m #[Value.ref g.1] meth c code 4 RL D kk A g false true) (hA : ∀ q, A q → s.heap.size ≤ q) (hlk : meth.locks = false) (hr : meth.sig.returnType = ret) (hE : zEv g E) (ho : zop E = .inl (some (zk 1), h')) (hb1 : h'.1.1 ≤ 600000) (hb2 : h'.1.2 ≤ 7302250) : zWn p l e room_1 s m #[Value.ref g.1] below meth c (lw_Z below #[Value.ref g.1] s) D kk A g ad0 4 0 0 18 zLM [] zh0 := by
  have hx := fun d => zx_ok (l := l) (g := g) (D := D) (kk := kk) (E := E) hE (fun j M h => (zma j M h).1) (fun j M h => (zma j M h).2.1) (fun j M h => (zma j M h).2.2) d
  refine (zrun_ok (R := room_1) (n0 := 0) (m0 := 0) (ad0 := ad0) (Q := lw_Z below #[Value.ref g.1] s) hC hE (fun j M h => (zma j M h).1) (fun j M h => (zma j M h).2.1) zlw_ok (hx 30) (by decide) (by decide) (fun x al st hxm hjr hs => ?_) (by show h'.1.1 - 0 ≤ 600000; omega) (by show h'.1.2 - 0 ≤ 7302250; omega) 100000 (zlaw.drop 10) 18 zLM [] zh0 (fun x hx => List.mem_of_mem_drop hx) ho).2.2 (Nat.zero_le _) (Nat.zero_le _)
  obtain ⟨pc, ins, len, r1, r2⟩ := x
  obtain ⟨hd, hb⟩ := zlw_ok _ hxm
  simp only at hd hb hjr hs ⊢
  unfold zisr at hjr
  split at hjr
  · have hlen : len = 1 := Nat.eq_of_beq_eq_true hb
    subst hlen
    replace hs : zs_iret E true al st h' = .inr (.inr (.inr (.inl (some (zk 1))))) := hs
    unfold zs_iret at hs
    split at hs
    · rename_i a
      cases hz : zint a with
      | false => rw [hz] at hs; cases hs
      | true =>
        rw [hz] at hs
        cases hs
        intro ls sv H locs ⟨w, lv, hh, hl, hL, hF, hP, hD, hS⟩
        obtain ⟨v, vs, rfl, hV, hF1⟩ := zVs_cons hF
        have e1 := zVs_nil hF1
        subst e1
        obtain ⟨y, rfl, h1, h2⟩ := hV
        have h1 : (1 : Int) ≤ y.toInt := h1
        have h2 : y.toInt ≤ (1 : Int) := h2
        have ey : y = 1 := (fa_eq _ _).mpr (by
          have : (1 : Int32).toInt = 1 := rfl
          omega)
        subst ey
        refine va_forget (fun q hq => hA _ (hS.2.2 q hq)) ?_
        refine W.widen (k := 600000) (n := 7302250) (by omega) (by omega) ?_
        exact lw_ret hC.1 hC.2.1 hr hlk hd
    · cases hs
  · replace hs : zs_lret E true al st h' = .inr (.inr (.inr (.inl (some (zk 1))))) := hs
    unfold zs_lret at hs
    split at hs <;> cases hs
  · replace hs : zs_vret E true al st h' = .inr (.inr (.inr (.inl (some (zk 1))))) := hs
    unfold zs_vret at hs
    split at hs <;> cases hs
  · cases hjr
theorem znt_set {α : Type} {a : α} : ∀ {l : List α} {k j : Nat} {b : α}, znt (l.set k a) j = some b → (j = k ∧ b = a) ∨ (j ≠ k ∧ znt l j = some b)
  | [], _, _, _, h => by cases h
  | _ :: l, 0, 0, _, h => by
    have h : some a = some _ := h
    cases h
    exact Or.inl ⟨rfl, rfl⟩
  | _ :: l, 0, j + 1, _, h => Or.inr ⟨by omega, h⟩
  | _ :: l, k + 1, 0, _, h => Or.inr ⟨by omega, h⟩
  | _ :: l, k + 1, j + 1, b, h => by
    rcases znt_set (l := l) (k := k) (j := j) (b := b) h with ⟨h1, h2⟩ | ⟨h1, h2⟩
    · exact Or.inl ⟨by omega, h2⟩
    · exact Or.inr ⟨by omega, h2⟩
theorem zEv_set {E : zE} {k : Nat} {l0 u0 : Int} (hE : zEv g E) (h1 : l0 ≤ (g.2.2 k).toInt) (h2 : (g.2.2 k).toInt ≤ u0) : zEv g (E.set k (l0, u0)) := by
  refine ⟨fun j q hj => ?_, hE.2⟩
  rcases znt_set hj with ⟨rfl, rfl⟩ | ⟨h3, h4⟩
  · exact ⟨h1, h2⟩
  · exact hE.1 j q h4
theorem zck_ok (hC : zCx p s m #[Value.ref g.1] meth c code 4 RL D kk A g false true) (hA : ∀ q, A q → s.heap.size ≤ q) (hlk : meth.locks = false) (hr : meth.sig.returnType = ret) : ∀ (n : Nat) (E : zE), zck n E = true → zEv g E → zWn p l e room_1 s m #[Value.ref g.1] below meth c (lw_Z below #[Value.ref g.1] s) D kk A g ad0 4 0 0 18 zLM [] zh0
  | 0, _, h, _ => by cases h
  | n + 1, E, h, hE => by
    unfold zck at h
    split at h
    · rename_i r h' ho
      rw [Bool.and_eq_true, Bool.and_eq_true] at h
      have er := zqA_eq h.1
      subst er
      exact zone hC hA hlk hr hE ho (Nat.le_of_ble_eq_true h.2.1) (Nat.le_of_ble_eq_true h.2.2)
    · cases h
    · rename_i k c9 ho
      split at h
      · rename_i l0 u0 hk
        cases hz : (zlt l0 c9 && zle c9 u0) with
        | false => rw [hz] at h; cases h
        | true =>
          rw [hz] at h
          have h : (zck n (E.set k (l0, c9 - 1)) && zck n (E.set k (c9, u0))) = true := h
          rw [Bool.and_eq_true] at h
          have hb := hE.1 k _ hk
          by_cases hlt : (g.2.2 k).toInt < c9
          · exact zck_ok hC hA hlk hr n _ h.1 (zEv_set hE hb.1 (by omega))
          · exact zck_ok hC hA hlk hr n _ h.2 (zEv_set hE (by omega) hb.2)
      · cases h
end ZL
