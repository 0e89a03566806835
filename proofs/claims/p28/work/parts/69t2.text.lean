/-! THE TEXT, class: what can stand, the reading -/
theorem x58 {d : Nat} {Q : qV → qM → Prop} {μ : qM} {c a2 a3 a4 a5 : Int} (hS : Safe μ) (hc1 : 4 ≤ c) (hc2 : c ≤ 8) (h0 : 0 ≤ a2) (h1 : a2 < a3) (h2 : a3 ≤ 300) (h6 : μ 3 5 < 6) (hd : isD (μ 2 a2) → ∀ k, a2 ≤ k → k < a3 → isD (μ 2 k)) (hQ : ∀ a μ', ((∃ v, NUM (μ 2) a2 a3 v ∧ a4 ≤ v ∧ v ≤ a5 ∧ a = 1 ∧ μ' = qu μ c (μ 3 5) v) ∨ ((∀ v, ¬ (NUM (μ 2) a2 a3 v ∧ a4 ≤ v ∧ v ≤ a5)) ∧ a = 0 ∧ μ' = μ)) → Q (.inl a) μ') : qmw (d + 3) 58 [(.inr (.inr (.inl (1)))), (.inr (.inr (.inl (c)))), (.inl (a2)), (.inl (a3)), (.inl (a4)), (.inl (a5))] μ Q := by
  have hq : qty c = 100 ∧ qal c = 6 := by
    rcases (show c = 4 ∨ c = 5 ∨ c = 6 ∨ c = 7 ∨ c = 8 by omega) with rfl | rfl | rfl | rfl | rfl <;> decide +kernel
  have hz := sa_dsz hS
  rw [e58, g58_0]
  refine x59 h0 h1 h2 hd (fun v hv => ?_)
  rw [g58_6, E104, g58_22, qbr]
  simp only [hq, qif_r, qb11, qb00, true_and]
  rcases hv with ⟨ok, ev⟩ | ⟨no, ev⟩
  · have hr : 0 ≤ v ∧ v ≤ 999 := by
      rw [ev]
      exact dv_3 (by have := ok.2.2; omega) (fun i q1 q2 => hd ok.1 i q1 (by omega))
    refine ⟨fun q => by omega, fun _ => ⟨fun q => hQ _ _ (Or.inr ⟨fun w hw => ?_, rfl, rfl⟩), fun q => ?_⟩⟩
    · have e9 : w = v := hw.1.2.trans ev.symm
      have e10 := hw.2
      rw [e9] at e10
      omega
    · exact (qif_t (by decide)).mpr ⟨fun _ => ⟨⟨hz.1, h6⟩, hQ _ _ (Or.inl ⟨v, ⟨ok, ev⟩, by omega, by omega, rfl, rfl⟩)⟩, fun q9 => absurd h6 (Int.not_lt.mpr q9)⟩
  · refine ⟨fun _ => hQ _ _ (Or.inr ⟨fun w hw => no hw.1.1, rfl, rfl⟩), fun q => by omega⟩
theorem x60 {d : Nat} {Q : qV → qM → Prop} {μ : qM} {a0 : Int} (hQ : ¬ evn a0 ∨ Q (.inr (.inr (.inr (fxk a0)))) μ) (he : evn a0) : qmw (d + 1) 60 [(.inl (a0))] μ Q := by
  have hQ := hQ.resolve_left (fun q => q he)
  rw [e60, g60_0]
  rcases he with rfl | rfl | rfl | rfl | rfl | rfl
  all_goals
    refine ⟨fun q => ?_, fun q => ?_, fun q => ?_, fun q => ?_, fun q => ?_, fun q => ?_, fun q => ?_, fun q => ?_, fun q => ?_, fun q => ?_, trivial⟩
    all_goals first | exact ⟨by decide, hQ⟩ | exact absurd q (by decide)
def cA (μ : qM) : qM := fun c i => if 0 ≤ c ∧ c ≤ 4 then μ (4 + c) i else 0
theorem cA_u {μ : qM} {c i v : Int} (h0 : 0 ≤ c) (h4 : c ≤ 4) : cA (qu μ (4 + c) i v) = qu (cA μ) c i v := by
  funext c' i'
  show (if 0 ≤ c' ∧ c' ≤ 4 then (if 4 + c' = 4 + c ∧ i' = i then v else μ (4 + c') i') else 0) = (if c' = c ∧ i' = i then v else if 0 ≤ c' ∧ c' ≤ 4 then μ (4 + c') i' else 0)
  by_cases e : c' = c ∧ i' = i
  · rw [if_pos e, if_pos (by omega), if_pos (by omega)]
  · rw [if_neg e]
    by_cases e2 : 0 ≤ c' ∧ c' ≤ 4
    · rw [if_pos e2, if_pos e2, if_neg (by omega)]
    · rw [if_neg e2, if_neg e2]
theorem cA_o {μ : qM} {c i v : Int} (h : ¬ (4 ≤ c ∧ c ≤ 8)) : cA (qu μ c i v) = cA μ := by
  funext c' i'
  unfold cA
  by_cases e2 : 0 ≤ c' ∧ c' ≤ 4
  · rw [if_pos e2, if_pos e2, qu_cell (by omega)]
  · rw [if_neg e2, if_neg e2]
theorem cA_0 {μ : qM} {i : Int} : cA μ 0 i = μ 4 i := rfl
/-- canStand -/
theorem x57 {d : Nat} {Q : qV → qM → Prop} {μ : qM} {a1 a2 a3 : Int} (hS : Safe μ) (hs : 0 ≤ a1) (hs2 : a1 ≤ 10) (h0 : 0 ≤ a2) (h1 : a2 < a3) (h2 : a3 ≤ 300) (hd : isD (μ 2 a2) → ∀ k, a2 ≤ k → k < a3 → isD (μ 2 k)) (hQ : ∀ a μ', ((∃ v, CAN (μ 2) a1 (μ 3 5) (cA μ) a2 a3 v ∧ a = 1 ∧ ((evn a1 ∧ μ' = μ) ∨ (¬ evn a1 ∧ NUM (μ 2) a2 a3 v ∧ lo a1 (μ 3 5) (cA μ) ≤ v ∧ v ≤ hi a1 ∧ μ' = qu μ (4 + (a1 - 1) / 2) (μ 3 5) v))) ∨ ((∀ v, ¬ CAN (μ 2) a1 (μ 3 5) (cA μ) a2 a3 v) ∧ a = 0 ∧ μ' = μ)) → Q (.inl a) μ') : qmw (d + 6) 57 [(.inr (.inr (.inl (1)))), (.inl (a1)), (.inl (a2)), (.inl (a3))] μ Q := by
  have hz := sa_dsz hS
  have key : μ 3 5 < 6 → evn a1 → qmw (d + 5) 60 [(.inl (a1))] μ (fun v ν => qW (d + 5) 57 Q 181 [some (.inr (.inr (.inl (1)))), some (.inl (a1)), some (.inl (a2)), some (.inl (a3)), some (.inl (μ 3 5))] (v :: [(.inr (.inr (.inl (1))))]) ν) := fun h3 he => by
    have hk : 10 ≤ fxk a1 ∧ fxk a1 < 16 := by
      rcases he with rfl | rfl | rfl | rfl | rfl | rfl <;> decide
    refine x60 (Or.inr ?_) he
    rw [g57_181]
    refine x61 hk.1 hk.2 h0 h1 h2 (fun a ha => ?_)
    rw [g57_186]
    rcases ha with ⟨ha, rfl⟩ | ⟨ha, rfl⟩
    · exact ⟨by decide, hQ _ _ (Or.inl ⟨0, ⟨h3, Or.inl ⟨he, ha⟩⟩, rfl, Or.inl ⟨he, rfl⟩⟩)⟩
    · refine ⟨by decide, hQ _ _ (Or.inr ⟨fun v hv => ?_, rfl, rfl⟩)⟩
      rcases hv.2 with ⟨-, q⟩ | ⟨q, -⟩
      · exact ha q
      · exact q he
  have num : ∀ (c lo' hi' : Int) (pc : Nat), μ 3 5 < 6 → ¬ evn a1 → c = 4 + (a1 - 1) / 2 → lo' = lo a1 (μ 3 5) (cA μ) → hi' = hi a1 → 4 ≤ c → c ≤ 8 → (∀ v ν, (0 ≤ v ∧ v ≤ 1) → Q (.inl v) ν → qW (d + 5) 57 Q pc [some (.inr (.inr (.inl (1)))), some (.inl (a1)), some (.inl (a2)), some (.inl (a3)), some (.inl (μ 3 5))] [(.inl (v))] ν) → qmw (d + 5) 58 [(.inr (.inr (.inl (1)))), (.inr (.inr (.inl (c)))), (.inl (a2)), (.inl (a3)), (.inl (lo')), (.inl (hi'))] μ (fun v ν => qW (d + 5) 57 Q pc [some (.inr (.inr (.inl (1)))), some (.inl (a1)), some (.inl (a2)), some (.inl (a3)), some (.inl (μ 3 5))] (v :: []) ν) := fun c lo' hi' pc h3 he ec el eh c1 c2 hp => by
    refine x58 hS c1 c2 h0 h1 h2 h3 hd (fun a μ' h => ?_)
    rcases h with ⟨v, q1, q2, q3, rfl, q5⟩ | ⟨q1, rfl, q3⟩
    · rw [el] at q2
      rw [eh] at q3
      rw [ec] at q5
      exact hp _ _ (by decide) (hQ _ _ (Or.inl ⟨v, ⟨h3, Or.inr ⟨he, q1, q2, q3⟩⟩, rfl, Or.inr ⟨he, q1, q2, q3, q5⟩⟩))
    · refine hp _ _ (by decide) (hQ _ _ (Or.inr ⟨fun v hv => ?_, rfl, q3⟩))
      rcases hv.2 with ⟨q, -⟩ | ⟨-, q4, q5, q6⟩
      · exact he q
      · exact q1 v ⟨q4, by rw [el]; exact q5, by rw [eh]; exact q6⟩
  rw [e57, g57_0]
  simp only [qb00, true_and]
  refine ⟨fun h3 => ⟨fun q => key h3 (by unfold evn; omega), fun q => ⟨fun q2 => ⟨by rw [q32_id (by omega) (by omega)]; omega, ?_⟩, fun q2 => ?_⟩, fun q => key h3 (by unfold evn; omega), fun q => ?_, fun q => key h3 (by unfold evn; omega), fun q => ?_, fun q => key h3 (by unfold evn; omega), fun q => ?_, fun q => key h3 (by unfold evn; omega), fun q => ?_, trivial⟩, fun h3 => hQ _ _ (Or.inr ⟨fun v hv => absurd hv.1 (Int.not_lt.mpr h3), rfl, rfl⟩)⟩
  · subst q
    refine num _ _ _ 107 h3 (by unfold evn; omega) (by decide) ?_ (by decide) (by decide) (by decide) (fun v ν q8 q9 => by rw [g57_107]; exact ⟨q8, q9⟩)
    unfold lo
    rw [if_pos rfl, if_neg q2]
    rfl
  · subst q
    refine num _ _ _ 107 h3 (by unfold evn; omega) (by decide) ?_ (by decide) (by decide) (by decide) (fun v ν q8 q9 => by rw [g57_107]; exact ⟨q8, q9⟩)
    unfold lo
    rw [if_pos rfl, if_pos q2]
  · subst q
    exact num _ _ _ 124 h3 (by unfold evn; omega) (by decide) rfl (by decide) (by decide) (by decide) (fun v ν q8 q9 => by rw [g57_124]; exact ⟨q8, q9⟩)
  · subst q
    exact num _ _ _ 141 h3 (by unfold evn; omega) (by decide) rfl (by decide) (by decide) (by decide) (fun v ν q8 q9 => by rw [g57_141]; exact ⟨q8, q9⟩)
  · subst q
    exact num _ _ _ 158 h3 (by unfold evn; omega) (by decide) rfl (by decide) (by decide) (by decide) (fun v ν q8 q9 => by rw [g57_158]; exact ⟨q8, q9⟩)
  · subst q
    exact num _ _ _ 175 h3 (by unfold evn; omega) (by decide) rfl (by decide) (by decide) (by decide) (fun v ν q8 q9 => by rw [g57_175]; exact ⟨q8, q9⟩)
/-- the numbers of the rules are in their ranges, as far as they are read -/
def RGf (A : qM) (i : Int) : Prop := (0 ≤ A 0 i ∧ A 0 i ≤ 200) ∧ (0 ≤ A 1 i ∧ A 1 i ≤ 99) ∧ (0 ≤ A 2 i ∧ A 2 i ≤ 99) ∧ (1 ≤ A 3 i ∧ A 3 i ≤ 20) ∧ (1 ≤ A 4 i ∧ A 4 i ≤ 20)
def RGs (slot size : Int) (A : qM) : Prop := (∀ i, 0 ≤ i → i < size → RGf A i) ∧ (1 < slot → 0 ≤ A 0 size ∧ A 0 size ≤ 200) ∧ (3 < slot → 0 ≤ A 1 size ∧ A 1 size ≤ 99) ∧ (5 < slot → 0 ≤ A 2 size ∧ A 2 size ≤ 99) ∧ (7 < slot → 1 ≤ A 3 size ∧ A 3 size ≤ 20) ∧ (9 < slot → 1 ≤ A 4 size ∧ A 4 size ≤ 20)
theorem RGf_u {A : qM} {c i v j : Int} (h : RGf A j) (hj : ¬ j = i) : RGf (qu A c i v) j := by
  unfold RGf
  rw [qu_ne (by omega), qu_ne (by omega), qu_ne (by omega), qu_ne (by omega), qu_ne (by omega)]
  exact h
theorem RGs_0 {A : qM} : RGs 0 0 A := by
  refine ⟨fun i q1 q2 => by omega, fun q => by omega, fun q => by omega, fun q => by omega, fun q => by omega, fun q => by omega⟩
theorem RGs_e {slot size : Int} {A : qM} (h : RGs slot size A) (he : evn slot) (h10 : ¬ slot = 10) : RGs (slot + 1) size A := by
  obtain ⟨h1, h2, h3, h4, h5, h6⟩ := h
  unfold evn at he
  exact ⟨h1, fun q => h2 (by omega), fun q => h3 (by omega), fun q => h4 (by omega), fun q => h5 (by omega), fun q => h6 (by omega)⟩
theorem RGs_10 {size : Int} {A : qM} (h : RGs 10 size A) : RGs 0 (size + 1) A := by
  obtain ⟨h1, h2, h3, h4, h5, h6⟩ := h
  have f : RGf A size := ⟨h2 (by decide), h3 (by decide), h4 (by decide), h5 (by decide), h6 (by decide)⟩
  refine ⟨fun i q1 q2 => ?_, fun q => by omega, fun q => by omega, fun q => by omega, fun q => by omega, fun q => by omega⟩
  by_cases e : i = size
  · rw [e]
    exact f
  · exact h1 i q1 (by omega)
theorem RGs_n {slot size v : Int} {A : qM} (h : RGs slot size A) (h0 : 0 ≤ slot) (h1 : slot ≤ 10) (he : ¬ evn slot) (hz : 0 ≤ size) (hv : lo slot size A ≤ v) (hv0 : 0 ≤ v) (hv2 : v ≤ hi slot) : RGs (slot + 1) size (qu A ((slot - 1) / 2) size v) := by
  obtain ⟨k1, k2, k3, k4, k5, k6⟩ := h
  have hs : slot = 1 ∨ slot = 3 ∨ slot = 5 ∨ slot = 7 ∨ slot = 9 := by
    unfold evn at he
    omega
  refine ⟨fun i q1 q2 => RGf_u (k1 i q1 q2) (by omega), ?_, ?_, ?_, ?_, ?_⟩
  all_goals
    clear k1
    rcases hs with rfl | rfl | rfl | rfl | rfl
  all_goals first
    | (intro q; exact absurd q (by decide))
    | (intro q; rw [show ((1 : Int) - 1) / 2 = 0 by decide, qu_same]; have h9 : hi 1 = 200 := by decide
       omega)
    | (intro q; rw [show ((3 : Int) - 1) / 2 = 1 by decide, qu_same]; have h9 : hi 3 = 99 := by decide
       omega)
    | (intro q; rw [show ((5 : Int) - 1) / 2 = 2 by decide, qu_same]; have h9 : hi 5 = 99 := by decide
       omega)
    | (intro q; rw [show ((7 : Int) - 1) / 2 = 3 by decide, qu_same]; have h9 : hi 7 = 20 := by decide
       have h8 : lo 7 size A = 1 := rfl
       omega)
    | (intro q; rw [show ((9 : Int) - 1) / 2 = 4 by decide, qu_same]; have h9 : hi 9 = 20 := by decide
       have h8 : lo 9 size A = 1 := rfl
       omega)
    | (intro q; rw [qu_cell (by decide)]; exact k2 (by decide))
    | (intro q; rw [qu_cell (by decide)]; exact k3 (by decide))
    | (intro q; rw [qu_cell (by decide)]; exact k4 (by decide))
    | (intro q; rw [qu_cell (by decide)]; exact k5 (by decide))
    | (intro q; rw [qu_cell (by decide)]; exact k6 (by decide))
theorem x53 {μ0 : qM} {d : Nat} {Q : qV → qM → Prop} {μ : qM} (h : St μ0 μ) (hQ : ∀ a μ', St μ0 μ' → μ' 1 2 = μ 1 2 → (∀ i, μ' 2 i = μ 2 i) → -1 ≤ a → RGs 0 (μ' 3 5) (cA μ') ∨ ¬ a = -1 → (∃ k, PZ (μ 2) (μ 1 2) (fun s A => a = -1 ∧ s = μ' 3 5 ∧ A = cA μ') (0 ≤ a) k 0 0 0 (cA μ)) → Q (.inl a) μ') : qmw (d + 7) 53 [(.inr (.inr (.inl (1))))] μ Q := by
  have hl := sa_len h.1
  rw [e53, g53_0]
  refine qup (μ 1 2) (P := fun i => ∀ (a1 a2 p : Int) (ν : qM), St μ0 ν → ν 1 2 = μ 1 2 → (∀ i, ν 2 i = μ 2 i) → 0 ≤ i → 0 ≤ a1 → a1 ≤ 10 → a2 ≤ μ 1 2 → ((i < a2 ∧ p = a2) ∨ (a2 ≤ i ∧ p = i)) → RGs a1 (ν 3 5) (cA ν) → (∀ (R : Int → qM → Prop) (F : Prop) (k : Nat), PZ (μ 2) (μ 1 2) R F k p a1 (ν 3 5) (cA ν) → ∃ k', PZ (μ 2) (μ 1 2) R F k' 0 0 0 (cA μ)) → qW (d + 6) 53 Q 14 [some (.inr (.inr (.inl (1)))), some (.inl (a1)), some (.inl (a2)), some (.inl (i))] [] ν) (fun i ih hB a1 a2 p ν hm e1 e2 h0 s0 s1 hn hp hg H => ?_) 0 (by omega) 0 0 0 _ (St_u h (by omega) (by omega) (by intros; omega) (by intros; omega)) (qu_cell (by omega) _) (fun i => qu_cell (by omega) _) (by omega) (by omega) (by omega) (by omega) (by omega) ?_ ?_
  · have hz := sa_dsz hm.1
    have eb : ν 2 = μ 2 := by
      funext j
      exact e2 j
    rw [g53_14, e1]
    refine ⟨fun q0 => ?_, fun q0 => ⟨fun q1 => ?_, fun q1 => ⟨by omega, fun q2 => ?_, fun q2 => ?_⟩⟩⟩
    · have en : EN (μ 2) (μ 1 2) p := fun k q3 q4 => by omega
      refine ⟨fun q1 => hQ _ _ hm e1 e2 (by omega) (Or.inr (by omega)) (H _ _ 0 (Or.inr (Or.inl ⟨en, q1, by omega⟩))), fun q1 => hQ _ _ hm e1 e2 (by omega) (Or.inl ?_) (H _ _ 0 (Or.inl ⟨en, q1, rfl, rfl, rfl⟩))⟩
      rw [q1] at hg
      exact hg
    · rw [q32_id (by omega) (by omega)]
      exact ih _ (by omega) (by omega) _ _ p _ hm e1 e2 (by omega) s0 s1 hn (by omega) hg H
    · have pe : p = i := by omega
      subst pe
      refine x54 hm.1 h0 (by rw [e1]; exact q0) (fun e he => ?_)
      rw [e1, eb] at he
      have he2 := CE_r he q0
      have tk : TK (μ 2) (μ 1 2) p p e := ⟨Int.le_refl p, fun k q3 q4 => by omega, q0, by rw [← eb]; exact q2, he⟩
      rw [g53_46]
      refine x57 hm.1 s0 s1 h0 he2.1 (by omega) (by rw [eb]; exact CE_dig he) (fun v μ' hv => ?_)
      rw [g53_54, q32_id (z := a1 + 1) (by omega) (by omega), q32_id (z := p + 1) (by omega) (by omega)]
      rw [eb] at hv
      rcases hv with ⟨w, hw, rfl, hv⟩ | ⟨hv, rfl, rfl⟩
      · refine ⟨fun _ => ⟨fun q10 => ?_, fun q10 => ?_⟩, fun q => absurd q (by decide)⟩
        · rcases hv with ⟨ev, rfl⟩ | ⟨ev, nu, l1, l2, hv⟩
          · exact ih _ (by omega) (by omega) _ _ e _ hm e1 e2 (by omega) (by omega) (by omega) (by omega) (by omega) (RGs_e hg ev (by omega)) (fun R F k hk => H R F (k + 1) ⟨p, e, w, tk, hw, Or.inr (Or.inl ⟨by omega, ev, hk⟩)⟩)
          · have hsl : a1 = 1 ∨ a1 = 3 ∨ a1 = 5 ∨ a1 = 7 ∨ a1 = 9 := by
              unfold evn at ev
              omega
            have w0 : 0 ≤ w := by
              rw [nu.2]
              exact (dv_3 (by have := nu.1.2.2; omega) (fun i' q5 q6 => CE_dig he nu.1.1 i' q5 (by omega))).1
            have hm' : St μ0 (qu ν (4 + (a1 - 1) / 2) (ν 3 5) w) := St_u hm (by omega) (by omega) (by intros; omega) (by intros; omega)
            subst hv
            refine ih _ (by omega) (by omega) _ _ e _ hm' (by rw [qu_cell (by omega)]; exact e1) (fun j => by rw [qu_cell (by omega)]; exact e2 j) (by omega) (by omega) (by omega) (by omega) (by omega) ?_ (fun R F k hk => H R F (k + 1) ⟨p, e, w, tk, hw, Or.inr (Or.inr ⟨ev, ?_⟩)⟩)
            · rw [qu_cell (by omega), cA_u (by omega) (by omega)]
              exact RGs_n hg s0 s1 ev hz.1 l1 w0 l2
            · rw [qu_cell (by omega), cA_u (by omega) (by omega)] at hk
              exact hk
        · have a10 : a1 = 10 := by omega
          subst a10
          rcases hv with ⟨ev, rfl⟩ | ⟨ev, nu, l1, l2, hv⟩
          · have s6 := hw.1
            rw [q32_id (z := μ' 3 5 + 1) (by omega) (by omega)]
            refine ih _ (by omega) (by omega) _ _ e _ (St_u hm (by omega) (by omega) (by intros; omega) (by intros; omega)) (by rw [qu_cell (by omega)]; exact e1) (fun j => by rw [qu_cell (by omega)]; exact e2 j) (by omega) (by omega) (by omega) (by omega) (by omega) ?_ (fun R F k hk => ?_)
            · rw [qu_same, cA_o (by decide)]
              exact RGs_10 hg
            · rw [qu_same, cA_o (by decide)] at hk
              exact H R F (k + 1) ⟨p, e, w, tk, hw, Or.inl ⟨rfl, hk⟩⟩
          · exact absurd (show evn 10 by unfold evn; omega) ev
      · exact ⟨fun q => absurd rfl q, fun _ => hQ _ _ hm e1 e2 (by omega) (Or.inr (by omega)) (H _ _ 0 (Or.inr (Or.inr ⟨p, e, tk, hv, h0⟩)))⟩
    · have pe : p = i := by omega
      subst pe
      rw [q32_id (by omega) (by omega)]
      refine ih _ (by omega) (by omega) _ _ (p + 1) _ hm e1 e2 (by omega) s0 s1 hn (by omega) hg (fun R F k hk => H R F k (PZ_sk ?_ k hk))
      rw [← eb]
      exact q2
  · rw [qu_same]
    exact RGs_0
  · intro R F k hk
    rw [qu_same, cA_o (by decide)] at hk
    exact ⟨k, hk⟩
