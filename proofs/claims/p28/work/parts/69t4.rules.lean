/-! THE RULES, reference: where the two readings agree -/
def IS (slot size : Int) (A : qM) (so va : Int) : Prop := (slot = 0 ∧ so = 1 ∧ va = 0) ∨ (slot = 2 ∧ so = 1 ∧ va = 1) ∨ (slot = 4 ∧ so = 1 ∧ va = 2) ∨ (slot = 6 ∧ so = 1 ∧ va = 3) ∨ (slot = 8 ∧ so = 3 ∧ va = 47) ∨ (slot = 10 ∧ so = 3 ∧ va = 59) ∨ (¬ evn slot ∧ so = 2 ∧ lo slot size A ≤ va ∧ va ≤ hi slot)
theorem MT_en {b : Int → Int} {n p st at_ so va : Int} (M : MTK b n p st at_ so va) (E : EN b n p) : so = 0 := by
  obtain ⟨⟨h1, h2, h3⟩, h4⟩ := M
  rcases h4 with ⟨-, -, h⟩ | ⟨h5, h6, -⟩
  · exact h
  · exact absurd (E st h1 h5) h6
theorem MT_tk {b : Int → Int} {n p st at_ so va j e : Int} (M : MTK b n p st at_ so va) (T : TK b n p j e) : st = j := by
  obtain ⟨⟨h1, h2, h3⟩, h4⟩ := M
  obtain ⟨k1, k2, k3, k4, k5⟩ := T
  rcases Int.lt_trichotomy st j with q | q | q
  · rcases h4 with ⟨h5, -⟩ | ⟨h5, h6, -⟩
    · omega
    · exact absurd (k2 st h1 q) h6
  · exact q
  · exact absurd (h3 j k1 q) k4
theorem MT_no {b : Int → Int} {n p st at_ so va j e : Int} (M : MTK b n p st at_ so va) (T : TK b n p j e) : ¬ so = 0 := by
  have e1 := MT_tk M T
  obtain ⟨-, h4⟩ := M
  obtain ⟨k1, k2, k3, k4, k5⟩ := T
  rcases h4 with ⟨h5, -⟩ | ⟨-, -, h⟩
  · omega
  · rcases h with ⟨-, -, -, h⟩ | ⟨-, -, h⟩ | ⟨-, -, -, -, h⟩
    · rcases h with h | h <;> omega
    · rcases h with h | h <;> omega
    · rcases h with h | h <;> omega
theorem MT_cap {b : Int → Int} {n p st at_ so va : Int} (M : MTK b n p st at_ so va) (hp : p < n) (h1 : 65 ≤ b p) (h2 : b p ≤ 90) : so = 4 := by
  obtain ⟨⟨k1, k2, k3⟩, h4⟩ := M
  have e : st = p := by
    by_cases q : st = p
    · exact q
    · have := k3 p (by omega) (by omega)
      omega
  subst e
  rcases h4 with ⟨h5, -⟩ | ⟨-, -, h⟩
  · omega
  · rcases h with ⟨h, -⟩ | ⟨h, -⟩ | ⟨-, -, -, h5, h⟩
    · omega
    · omega
    · omega
/-- a word of the reference ends where the class's does, if it has small letters alone -/
theorem RE_SL {b : Int → Int} {n j a e : Int} (h1 : RE isS b n j a) (h2 : RE isL b n (j + 1) e) (hs : ∀ k, j ≤ k → k < e → isS (b k)) : a = e := by
  rcases Int.lt_trichotomy a e with q | q | q
  · exact absurd (hs a h1.1 q) (h1.2.2.2 (by have := h2.2.1; omega))
  · exact q
  · have := h1.2.2.1 e (by have := h2.1; omega) q
    exact absurd (Or.inl this) (h2.2.2.2 (by have := h1.2.1; omega))
theorem RE_D {b : Int → Int} {n j e : Int} (hd : isD (b j)) (h : RE isD b n (j + 1) e) : RE isD b n j e := by
  obtain ⟨h1, h2, h3, h4⟩ := h
  refine ⟨by omega, h2, fun k q1 q2 => ?_, h4⟩
  by_cases q : k = j
  · rw [q]
    exact hd
  · exact h3 k (by omega) q2
theorem CE_D {b : Int → Int} {n j e : Int} (h : CE b n j e) (hd : isD (b j)) : RE isD b n j e := by
  rcases h with ⟨h, -⟩ | ⟨-, -, h⟩ | ⟨-, h, -⟩
  · omega
  · exact RE_D hd h
  · exact absurd hd h
theorem CE_L {b : Int → Int} {n j e : Int} (h : CE b n j e) (hd : isS (b j)) : RE isL b n (j + 1) e := by
  rcases h with ⟨-, h⟩ | ⟨h, -⟩ | ⟨h, -⟩
  · exact h
  · exact absurd (Or.inl hd) h
  · exact absurd (Or.inl hd) h
theorem K1w {b : Int → Int} {n p st at_ so va j e : Int} (M : MTK b n p st at_ so va) (T : TK b n p j e) (w : Int) (hs : ∀ k, j ≤ k → k < e → isS (b k)) (hw : ∀ a, WO b j e a → a = w) (hw9 : ¬ w = -9) : so = 1 ∧ va = w ∧ at_ = e := by
  have e1 := MT_tk M T
  subst e1
  obtain ⟨-, h4⟩ := M
  obtain ⟨k1, k2, k3, k4, k5⟩ := T
  have hse := CE_r k5 k3
  have hS := hs st (Int.le_refl st) hse.1
  rcases h4 with ⟨h5, -⟩ | ⟨-, -, h⟩
  · omega
  · rcases h with ⟨-, re, wo, h⟩ | ⟨h, -⟩ | ⟨h, -⟩
    · have ea := RE_SL re (CE_L k5 hS) hs
      subst ea
      have ev := hw va wo
      rcases h with ⟨h, -⟩ | ⟨-, h⟩
      · exact ⟨h, ev, rfl⟩
      · exact absurd (ev.symm.trans h) hw9
    · omega
    · exact absurd hS h
theorem K1 {b : Int → Int} {n p st at_ so va j e slot size v : Int} {A : qM} (M : MTK b n p st at_ so va) (T : TK b n p j e) (C : CAN b slot size A j e v) : IS slot size A so va ∧ at_ = e ∧ (¬ evn slot → va = v) := by
  have e1 := MT_tk M T
  rcases C.2 with ⟨ev, fx⟩ | ⟨ev, nu, l1, l2⟩
  · rcases ev with rfl | rfl | rfl | rfl | rfl | rfl
    · have f : FX b j e 10 := fx
      have g := FX_10.mp f
      have r := K1w M T 0 (fun k q1 q2 => by
        rcases (show k = j ∨ k = j + 1 ∨ k = j + 2 ∨ k = j + 3 by omega) with rfl | rfl | rfl | rfl <;> omega) (fun a ha => by
        rcases ha with h | h | h | h | h
        · exact h.1
        · have := FX_11.mp h.2
          omega
        · have := FX_12.mp h.2
          omega
        · have := FX_13.mp h.2
          omega
        · exact absurd f h.2.1) (by decide)
      exact ⟨Or.inl ⟨rfl, r.1, r.2.1⟩, r.2.2, fun q => absurd (Or.inl rfl) q⟩
    · have f : FX b j e 11 := fx
      have g := FX_11.mp f
      have r := K1w M T 1 (fun k q1 q2 => by
        rcases (show k = j ∨ k = j + 1 ∨ k = j + 2 ∨ k = j + 3 by omega) with rfl | rfl | rfl | rfl <;> omega) (fun a ha => by
        rcases ha with h | h | h | h | h
        · have := FX_10.mp h.2
          omega
        · exact h.1
        · have := FX_12.mp h.2
          omega
        · have := FX_13.mp h.2
          omega
        · exact absurd f h.2.2.1) (by decide)
      exact ⟨Or.inr (Or.inl ⟨rfl, r.1, r.2.1⟩), r.2.2, fun q => absurd (Or.inr (Or.inl rfl)) q⟩
    · have f : FX b j e 12 := fx
      have g := FX_12.mp f
      have r := K1w M T 2 (fun k q1 q2 => by
        rcases (show k = j ∨ k = j + 1 ∨ k = j + 2 ∨ k = j + 3 by omega) with rfl | rfl | rfl | rfl <;> omega) (fun a ha => by
        rcases ha with h | h | h | h | h
        · have := FX_10.mp h.2
          omega
        · have := FX_11.mp h.2
          omega
        · exact h.1
        · have := FX_13.mp h.2
          omega
        · exact absurd f h.2.2.2.1) (by decide)
      exact ⟨Or.inr (Or.inr (Or.inl ⟨rfl, r.1, r.2.1⟩)), r.2.2, fun q => absurd (Or.inr (Or.inr (Or.inl rfl))) q⟩
    · have f : FX b j e 13 := fx
      have g := FX_13.mp f
      have r := K1w M T 3 (fun k q1 q2 => by
        rcases (show k = j ∨ k = j + 1 ∨ k = j + 2 ∨ k = j + 3 by omega) with rfl | rfl | rfl | rfl <;> omega) (fun a ha => by
        rcases ha with h | h | h | h | h
        · have := FX_10.mp h.2
          omega
        · have := FX_11.mp h.2
          omega
        · have := FX_12.mp h.2
          omega
        · exact h.1
        · exact absurd f h.2.2.2.2) (by decide)
      exact ⟨Or.inr (Or.inr (Or.inr (Or.inl ⟨rfl, r.1, r.2.1⟩))), r.2.2, fun q => absurd (Or.inr (Or.inr (Or.inr (Or.inl rfl)))) q⟩
    · have f : FX b j e 14 := fx
      have g := FX_14.mp f
      subst e1
      obtain ⟨-, h4⟩ := M
      obtain ⟨k1, k2, k3, k4, k5⟩ := T
      rcases h4 with ⟨h5, -⟩ | ⟨-, -, h⟩
      · omega
      · rcases h with ⟨h, -⟩ | ⟨h, -⟩ | ⟨-, -, h6, h7, h⟩
        · omega
        · omega
        · rcases h with ⟨h, -⟩ | ⟨-, h, -⟩
          · exact ⟨Or.inr (Or.inr (Or.inr (Or.inr (Or.inl ⟨rfl, h, by omega⟩)))), by omega, fun q => absurd (Or.inr (Or.inr (Or.inr (Or.inr (Or.inl rfl))))) q⟩
          · omega
    · have f : FX b j e 15 := fx
      have g := FX_15.mp f
      subst e1
      obtain ⟨-, h4⟩ := M
      obtain ⟨k1, k2, k3, k4, k5⟩ := T
      rcases h4 with ⟨h5, -⟩ | ⟨-, -, h⟩
      · omega
      · rcases h with ⟨h, -⟩ | ⟨h, -⟩ | ⟨-, -, h6, h7, h⟩
        · omega
        · omega
        · rcases h with ⟨h, -⟩ | ⟨-, -, h⟩
          · exact ⟨Or.inr (Or.inr (Or.inr (Or.inr (Or.inr (Or.inl ⟨rfl, h, by omega⟩))))), by omega, fun q => absurd (Or.inr (Or.inr (Or.inr (Or.inr (Or.inr rfl))))) q⟩
          · omega
  · subst e1
    obtain ⟨-, h4⟩ := M
    obtain ⟨k1, k2, k3, k4, k5⟩ := T
    have hd := nu.1.1
    rcases h4 with ⟨h5, -⟩ | ⟨-, -, h⟩
    · omega
    · rcases h with ⟨h, -⟩ | ⟨-, re, h⟩ | ⟨-, h, -⟩
      · omega
      · have ea := RE_u re (CE_D k5 hd)
        subst ea
        rcases h with ⟨h, -, h2⟩ | ⟨-, h⟩
        · have ev2 : va = v := h2.trans nu.2.symm
          exact ⟨Or.inr (Or.inr (Or.inr (Or.inr (Or.inr (Or.inr ⟨ev, h, by rw [ev2]; exact l1, by rw [ev2]; exact l2⟩))))), rfl, fun _ => ev2⟩
        · exact absurd nu.1 h
      · exact absurd hd h
theorem K2w {b : Int → Int} {n p st at_ so va j e : Int} (M : MTK b n p st at_ so va) (T : TK b n p j e) (k : Nat) (hso : so = 1) (hw : WO b j at_ va → FX b j at_ k) (no : ¬ FX b j e k) : at_ < n ∧ 65 ≤ b at_ ∧ b at_ ≤ 90 := by
  have e1 := MT_tk M T
  subst e1
  obtain ⟨-, h4⟩ := M
  obtain ⟨k1, k2, k3, k4, k5⟩ := T
  rcases h4 with ⟨-, -, h5⟩ | ⟨-, -, h⟩
  · omega
  · rcases h with ⟨hS, re, wo, -⟩ | ⟨-, -, h⟩ | ⟨-, -, -, -, h⟩
    · have fx := hw wo
      have rl := CE_L k5 hS
      have i1 := re.1
      have i2 := re.2.1
      have i3 := rl.1
      have i4 := rl.2.1
      rcases Int.lt_trichotomy at_ e with q | q | q
      · have ns : ¬ at_ = st := fun q9 => by
          have := re.2.2.2 (by omega)
          rw [q9] at this
          exact this hS
        have h8 := rl.2.2.1 at_ (by omega) q
        have h9 := re.2.2.2 (by omega)
        omega
      · rw [q] at fx
        exact absurd fx no
      · have h8 := re.2.2.1 e (by omega) q
        exact absurd (Or.inl h8) (rl.2.2.2 (by omega))
    · rcases h with ⟨h, -⟩ | ⟨h, -⟩ <;> omega
    · rcases h with ⟨h, -⟩ | ⟨h, -⟩ <;> omega
theorem K2 {b : Int → Int} {n p st at_ so va j e slot size : Int} {A : qM} (M : MTK b n p st at_ so va) (T : TK b n p j e) (N : ∀ v, ¬ CAN b slot size A j e v) (hs : size < 6) (I : IS slot size A so va) : (evn slot ∧ slot ≤ 6) ∧ at_ < n ∧ 65 ≤ b at_ ∧ b at_ ≤ 90 := by
  have e1 := MT_tk M T
  have ne : ∀ k, evn slot → fxk slot = k → ¬ FX b j e k := fun k he hk hf => N 0 ⟨hs, Or.inl ⟨he, by rw [hk]; exact hf⟩⟩
  rcases I with ⟨rfl, hso, hva⟩ | ⟨rfl, hso, hva⟩ | ⟨rfl, hso, hva⟩ | ⟨rfl, hso, hva⟩ | ⟨rfl, hso, hva⟩ | ⟨rfl, hso, hva⟩ | ⟨ev, hso, l1, l2⟩
  · refine ⟨⟨Or.inl rfl, by decide⟩, K2w M T 10 hso (fun wo => ?_) (ne 10 (Or.inl rfl) rfl)⟩
    rcases wo with h | h | h | h | h
    · exact h.2
    all_goals omega
  · refine ⟨⟨Or.inr (Or.inl rfl), by decide⟩, K2w M T 11 hso (fun wo => ?_) (ne 11 (Or.inr (Or.inl rfl)) rfl)⟩
    rcases wo with h | h | h | h | h
    · omega
    · exact h.2
    all_goals omega
  · refine ⟨⟨Or.inr (Or.inr (Or.inl rfl)), by decide⟩, K2w M T 12 hso (fun wo => ?_) (ne 12 (Or.inr (Or.inr (Or.inl rfl))) rfl)⟩
    rcases wo with h | h | h | h | h
    · omega
    · omega
    · exact h.2
    all_goals omega
  · refine ⟨⟨Or.inr (Or.inr (Or.inr (Or.inl rfl))), by decide⟩, K2w M T 13 hso (fun wo => ?_) (ne 13 (Or.inr (Or.inr (Or.inr (Or.inl rfl)))) rfl)⟩
    rcases wo with h | h | h | h | h
    · omega
    · omega
    · omega
    · exact h.2
    · omega
  · have nf := ne 14 (Or.inr (Or.inr (Or.inr (Or.inr (Or.inl rfl))))) rfl
    subst e1
    obtain ⟨-, h4⟩ := M
    obtain ⟨k1, k2, k3, k4, k5⟩ := T
    rcases h4 with ⟨-, -, h5⟩ | ⟨-, -, h⟩
    · omega
    · rcases h with ⟨-, -, -, h⟩ | ⟨-, -, h⟩ | ⟨h6, h7, h8, h9, -⟩
      · rcases h with h | h <;> omega
      · rcases h with h | h <;> omega
      · refine absurd (FX_14.mpr ⟨?_, by omega⟩) nf
        rcases k5 with ⟨h, -⟩ | ⟨-, h, -⟩ | ⟨-, -, h⟩ <;> omega
  · have nf := ne 15 (Or.inr (Or.inr (Or.inr (Or.inr (Or.inr rfl))))) rfl
    subst e1
    obtain ⟨-, h4⟩ := M
    obtain ⟨k1, k2, k3, k4, k5⟩ := T
    rcases h4 with ⟨-, -, h5⟩ | ⟨-, -, h⟩
    · omega
    · rcases h with ⟨-, -, -, h⟩ | ⟨-, -, h⟩ | ⟨h6, h7, h8, h9, -⟩
      · rcases h with h | h <;> omega
      · rcases h with h | h <;> omega
      · refine absurd (FX_15.mpr ⟨?_, by omega⟩) nf
        rcases k5 with ⟨h, -⟩ | ⟨-, h, -⟩ | ⟨-, -, h⟩ <;> omega
  · exfalso
    subst e1
    obtain ⟨-, h4⟩ := M
    obtain ⟨k1, k2, k3, k4, k5⟩ := T
    rcases h4 with ⟨-, -, h5⟩ | ⟨-, -, h⟩
    · omega
    · rcases h with ⟨-, -, -, h⟩ | ⟨hd, re, h⟩ | ⟨-, -, -, -, h⟩
      · rcases h with h | h <;> omega
      · have ea := RE_u re (CE_D k5 hd)
        subst ea
        rcases h with ⟨-, ok, h2⟩ | ⟨h, -⟩
        · exact N va ⟨hs, Or.inr ⟨ev, ⟨ok, h2⟩, l1, l2⟩⟩
        · omega
      · rcases h with h | h <;> omega
