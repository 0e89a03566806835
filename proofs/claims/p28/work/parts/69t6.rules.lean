theorem IS_n {s a : Int} {A : qM} {so va : Int} (he : ¬ evn s) : IS s a A so va ↔ (so = 2 ∧ lo s a A ≤ va ∧ va ≤ hi s) := by
  unfold IS
  have h := he
  unfold evn at h
  constructor
  · intro q
    rcases q with ⟨q, -⟩ | ⟨q, -⟩ | ⟨q, -⟩ | ⟨q, -⟩ | ⟨q, -⟩ | ⟨q, -⟩ | ⟨-, q⟩
    · omega
    · omega
    · omega
    · omega
    · omega
    · omega
    · exact q
  · intro q
    exact Or.inr (Or.inr (Or.inr (Or.inr (Or.inr (Or.inr ⟨he, q⟩)))))
theorem x129 {b : Int → Int} {n : Int} {R : Int → qM → Prop} {F : Prop} {A0 : qM} {k0 : Nat} {d : Nat} {Q : qV → qM → Prop} {μ : qM} (hS : Safe μ) (B : BT b n μ) (hn : n ≤ 300) (hR : ∀ a A, R a A → 0 ≤ a ∧ a ≤ 6 ∧ ∀ i, 0 ≤ i → i < a → 1 ≤ A 4 i) (pz : PZ b n R F k0 0 0 0 A0) (hQ : ∀ r μ', Safe μ' → (∀ c i, ¬ (c = 170 ∧ (i = 3 ∨ i = 4 ∨ 10 ≤ i)) → ¬ (172 ≤ c ∧ c ≤ 176) → ¬ (186 ≤ c ∧ c ≤ 190) → μ' c i = μ c i) → ((F ∧ μ' 170 3 = μ 170 3 ∧ μ' 170 4 = μ 170 4 ∧ ∀ c i, 172 ≤ c → c ≤ 176 → i < 6 → μ' c i = μ c i) ∨ (∃ A, R r A ∧ μ' 170 3 = 0 ∧ μ' 170 4 = r ∧ ∀ c i, 0 ≤ c → c ≤ 4 → 0 ≤ i → i < r → μ' (172 + c) i = A c i)) → Q (.inl r) μ') : qmw (d + 8) 129 [(.inr (.inr (.inl (170))))] μ Q := by
  have ht := sa_typed hS
  have fin : ∀ (a1 : Int) (o2 : Option qV) (ν : qM), Safe ν → Fr μ ν → ¬ ν 170 14 = -9 → F → qW (d + 7) 129 Q 17 [some (.inr (.inr (.inl (170)))), some (.inl (a1)), o2] [] ν := fun a1 o2 ν hs hF q hf => by
    rw [g129_17]
    exact ⟨fun _ => ⟨fun q2 => absurd q2 q, fun _ => hQ _ _ hs (fun c i k1 k2 k3 => hF c i (by omega) k3 (by omega)) (Or.inl ⟨hf, hF _ _ (by omega) (by omega) (by omega), hF _ _ (by omega) (by omega) (by omega), fun c i k1 k2 k3 => hF c i (by omega) (by omega) (by omega)⟩)⟩, fun q2 => absurd q2 q⟩
  have hm0 : Sm μ (qu (qu μ 170 10 0) 170 14 (-9)) := Sm_u (Sm_u (Sm_rf hS) (by omega) (by omega)) (by omega) (by omega)
  have h1 := Sr0_m (Sr0_rf hS) hm0
  have e10 : (qu (qu μ 170 10 0) 170 14 (-9)) 170 10 = 0 := by rw [qu_ne (by omega), qu_same]
  have e14 : (qu (qu μ 170 10 0) 170 14 (-9)) 170 14 = -9 := by rw [qu_same]
  have e3 := hm0.2 170 3 (by omega)
  have f0 : Fr μ (qu (qu μ 170 10 0) 170 14 (-9)) := fun c i k1 k2 k3 => by rw [qu_ne (by omega), qu_ne (by omega)]
  rw [e129, g129_0]
  generalize qu (qu μ 170 10 0) 170 14 (-9) = μ1 at hm0 h1 e10 e3 f0 e14
  have n0 : 0 ≤ n := by rw [← B.1]; exact ht.1
  refine x124 (μ0 := μ1) ⟨Sm_rf h1.1, rfl, by omega, by omega⟩ (Fr_BT f0 B) (Int.le_refl 0) n0 e10 (fun μ2 hx hs mt => ?_)
  have hI : Inv μ μ2 0 := ⟨Sr0_m h1 hx.1, by rw [Sx_3 hx]; exact hx.2.2, hs, fun _ k q1 q2 => by omega⟩
  have hF2 : Fr μ μ2 := fun c i k1 k2 k3 => by
    rw [hx.1.2 c i (by omega)]
    exact f0 c i k1 k2 k3
  have g2 : GS b n R F μ2 0 0 := Or.inl ⟨by rw [hx.2.1]; exact e14, k0, 0, A0, Int.le_refl 0, n0, mt, pz, fun c i q1 q2 q3 q4 => by omega, fun c q1 q2 q3 => by omega⟩
  refine qup 6 (P := fun a1 => ∀ (o2 : Option qV) (ν : qM), 0 ≤ a1 → Inv μ ν a1 → Fr μ ν → GS b n R F ν 0 a1 → qW (d + 7) 129 Q 17 [some (.inr (.inr (.inl (170)))), some (.inl (a1)), o2] [] ν) (fun a1 ih hB o2 ν h0 hI hF g => ?_) 0 (by omega) _ _ (by omega) hI hF2 g2
  -- the word from, or a fault
  have gi : ∀ A, AG A ν 0 a1 → ((a1 < 6 ∧ ν 170 12 = 1 ∧ ν 170 13 = 0) ↔ (a1 < 6 ∧ IS 0 a1 A (ν 170 12) (ν 170 13))) := fun A _ => by
    constructor
    · intro q
      exact ⟨q.1, Or.inl ⟨rfl, q.2⟩⟩
    · intro q
      refine ⟨q.1, ?_⟩
      have z := q.2
      unfold IS evn at z
      omega
  have bad : ∀ x, ¬ ν 170 12 = 0 → ((¬ x = 0) ↔ (a1 < 6 ∧ ν 170 12 = 1 ∧ ν 170 13 = 0)) → (∀ μ3, Inv μ μ3 a1 → Fr μ μ3 → GS b n R F μ3 1 a1 → (¬ x = 0 ∨ ¬ μ3 170 14 = -9) → ∀ v, qW (d + 7) 129 Q 68 [some (.inr (.inr (.inl (170)))), some (.inl (a1)), some (.inl (q32 (6 + a1)))] ((.inl (v)) :: []) μ3) → qmw (d + 7) 125 [(.inr (.inr (.inl (170)))), (.inl (x))] ν (fun v ν => qW (d + 7) 129 Q 68 [some (.inr (.inr (.inl (170)))), some (.inl (a1)), some (.inl (q32 (6 + a1)))] (v :: []) ν) := fun x q0 hx h => x125 hI hF B (fun μ3 k1 k2 k3 k4 => h _ k1 k2 (GS_e g (by unfold evn; omega) (by decide) (fun _ => q0) gi k3 (WS_i k4 hx)) (by
    rcases k4 with ⟨-, q9⟩ | ⟨-, -, q9⟩ | ⟨-, q9, -⟩
    · exact Or.inr q9
    · exact Or.inr q9
    · exact Or.inl q9) _)
  have go : ∀ μ3, Inv μ μ3 a1 → Fr μ μ3 → GS b n R F μ3 1 a1 → a1 < 6 ∨ ¬ μ3 170 14 = -9 → ∀ v, qW (d + 7) 129 Q 68 [some (.inr (.inr (.inl (170)))), some (.inl (a1)), some (.inl (q32 (6 + a1)))] ((.inl (v)) :: []) μ3 := fun μ3 hI3 hF3 g3 h6 v0 => by
    rw [g129_68, q32_id (z := 6 + a1) (by omega) (by omega)]
    refine ⟨fun q2 => ?_, fun q2 => ?_⟩
    · refine fin _ _ _ hI3.1.1 hF3 q2 ?_
      rcases g3 with ⟨q, -⟩ | ⟨q, -⟩ | ⟨-, q⟩
      · exact absurd q q2
      · exact absurd q q2
      · exact q
    have h6 : a1 < 6 := h6.resolve_right (fun q => q q2)
    have k : ∀ lo', (∀ A, AG A μ3 1 a1 → lo' = lo 1 a1 A) → qmw (d + 7) 126 [(.inr (.inr (.inl (170)))), (.inl (lo')), (.inl (200))] μ3 (fun v ν => qW (d + 7) 129 Q 108 [some (.inr (.inr (.inl (170)))), some (.inl (a1)), some (.inl (6 + a1))] (v :: [(.inl (6 + a1)), (.inr (.inr (.inl (172))))]) ν) := fun lo' hlo => by
      refine x126 hI3 hF3 B (fun μ4 k1 k2 k3 k4 => ?_)
      have g4 : GS b n R F (qu μ4 172 (6 + a1) (μ3 170 13)) 2 a1 := GS_o (c0 := 0) g3 (by unfold evn; omega) (by decide) (by decide) (by decide) (by decide) (fun q => q.1) (fun A ag => by
        rw [IS_n (by unfold evn; omega), hlo A ag]
        exact ⟨fun q => ⟨h6, q⟩, fun q => q.2⟩) k3 k4
      have hI4 := Inv_w (c := 172) (i := 6 + a1) (v := μ3 170 13) k1 (by omega) (by omega)
      have hF4 := Fr_w (c := 172) (i := 6 + a1) (v := μ3 170 13) k2 (by omega) (by omega) (by omega)
      rw [g129_108]
      refine ⟨by omega, x127 hI4 hF4 B (fun μ5 j1 j2 j3 j4 => ?_)⟩
      have g5 := GS_e g4 (by unfold evn; omega) (by decide) (fun q => absurd q (by decide)) (fun A ag => by
        unfold IS evn
        omega) j3 j4
      clear g4 hI4 hF4 k1 k2 k3 k4
      rw [g129_114]
      refine x126 j1 j2 B (fun μ6 k1 k2 k3 k4 => ?_)
      have g6 : GS b n R F (qu μ6 173 (6 + a1) (μ5 170 13)) 4 a1 := GS_o (c0 := 1) g5 (by unfold evn; omega) (by decide) (by decide) (by decide) (by decide) (fun q => q.1) (fun A ag => by
        rw [IS_n (by unfold evn; omega)]
        exact ⟨fun q => ⟨h6, q⟩, fun q => q.2⟩) k3 k4
      have hI6 := Inv_w (c := 173) (i := 6 + a1) (v := μ5 170 13) k1 (by omega) (by omega)
      have hF6 := Fr_w (c := 173) (i := 6 + a1) (v := μ5 170 13) k2 (by omega) (by omega) (by omega)
      clear g5 j1 j2 j3 j4
      rw [g129_126]
      refine ⟨by omega, x127 hI6 hF6 B (fun μ7 j1 j2 j3 j4 => ?_)⟩
      have g7 := GS_e g6 (by unfold evn; omega) (by decide) (fun q => absurd q (by decide)) (fun A ag => by
        unfold IS evn
        omega) j3 j4
      clear g6 hI6 hF6 k1 k2 k3 k4
      rw [g129_132]
      refine x126 j1 j2 B (fun μ8 k1 k2 k3 k4 => ?_)
      have g8 : GS b n R F (qu μ8 174 (6 + a1) (μ7 170 13)) 6 a1 := GS_o (c0 := 2) g7 (by unfold evn; omega) (by decide) (by decide) (by decide) (by decide) (fun q => q.1) (fun A ag => by
        rw [IS_n (by unfold evn; omega)]
        exact ⟨fun q => ⟨h6, q⟩, fun q => q.2⟩) k3 k4
      have hI8 := Inv_w (c := 174) (i := 6 + a1) (v := μ7 170 13) k1 (by omega) (by omega)
      have hF8 := Fr_w (c := 174) (i := 6 + a1) (v := μ7 170 13) k2 (by omega) (by omega) (by omega)
      clear g7 j1 j2 j3 j4
      rw [g129_144]
      refine ⟨by omega, x127 hI8 hF8 B (fun μ9 j1 j2 j3 j4 => ?_)⟩
      have g9 := GS_e g8 (by unfold evn; omega) (by decide) (fun q => absurd q (by decide)) (fun A ag => by
        unfold IS evn
        omega) j3 j4
      clear g8 hI8 hF8 k1 k2 k3 k4
      rw [g129_150]
      refine x126 j1 j2 B (fun μ10 k1 k2 k3 k4 => ?_)
      have g10 : GS b n R F (qu μ10 175 (6 + a1) (μ9 170 13)) 8 a1 := GS_o (c0 := 3) g9 (by unfold evn; omega) (by decide) (by decide) (by decide) (by decide) (fun q => q.1) (fun A ag => by
        rw [IS_n (by unfold evn; omega)]
        exact ⟨fun q => ⟨h6, q⟩, fun q => q.2⟩) k3 k4
      have hI10 := Inv_w (c := 175) (i := 6 + a1) (v := μ9 170 13) k1 (by omega) (by omega)
      have hF10 := Fr_w (c := 175) (i := 6 + a1) (v := μ9 170 13) k2 (by omega) (by omega) (by omega)
      clear g9 j1 j2 j3 j4
      rw [g129_162]
      refine ⟨by omega, x128 hI10 hF10 B (fun μ11 j1 j2 j3 j4 => ?_)⟩
      have g11 := GS_e g10 (by unfold evn; omega) (by decide) (fun q => absurd q (by decide)) (fun A ag => by
        unfold IS evn
        omega) j3 j4
      clear g10 hI10 hF10 k1 k2 k3 k4
      rw [g129_169]
      refine x126 j1 j2 B (fun μ12 k1 k2 k3 k4 => ?_)
      have g12 : GS b n R F (qu μ12 176 (6 + a1) (μ11 170 13)) 10 a1 := GS_o (c0 := 4) g11 (by unfold evn; omega) (by decide) (by decide) (by decide) (by decide) (fun q => q.1) (fun A ag => by
        rw [IS_n (by unfold evn; omega)]
        exact ⟨fun q => ⟨h6, q⟩, fun q => q.2⟩) k3 k4
      have hI12 : Inv μ (qu μ12 176 (6 + a1) (μ11 170 13)) (a1 + 1) := Inv_b k1 h0 (fun q => by
        rcases k4 with ⟨-, q9⟩ | ⟨-, -, q9⟩ | ⟨-, q9, -⟩
        · exact absurd q q9
        · exact absurd q q9
        · exact q9.2.1)
      have hF12 := Fr_w (c := 176) (i := 6 + a1) (v := μ11 170 13) k2 (by omega) (by omega) (by omega)
      clear g11 j1 j2 j3 j4
      rw [g129_181]
      refine ⟨by omega, x128 hI12 hF12 B (fun μ13 j1 j2 j3 j4 => ?_)⟩
      have g13 := GS_10 g12 (fun A ag => by
        unfold IS evn
        omega) j3 j4
      rw [g129_188, q32_id (z := a1 + 1) (by omega) (by omega)]
      exact ih _ (by omega) (by omega) _ _ (by omega) j1 j2 g13
    refine ⟨fun q3 => ⟨?_, k _ (fun A ag => ?_)⟩, fun q3 => k _ (fun A ag => ?_)⟩
    · rw [q32_id (by omega) (by omega)]
      omega
    · unfold lo
      have z := ag.1 0 (a1 - 1) (by decide) (by decide) (by omega) (by omega)
      have z2 : μ3 172 (6 + (a1 - 1)) = A 0 (a1 - 1) := z
      rw [if_pos rfl, if_neg q3, q32_id (z := a1 - 1) (by omega) (by omega), q32_id (z := 6 + a1 - 1) (by omega) (by omega), ← z2, show 6 + a1 - 1 = 6 + (a1 - 1) by omega]
    · unfold lo
      rw [if_pos rfl, if_pos q3]
  rw [g129_17]
  refine ⟨fun q => ⟨fun q2 => absurd q2 q, fun _ => ?_⟩, fun q => ⟨fun q0 => ⟨fun _ => ?_, fun q2 => absurd q q2⟩, fun q0 => ⟨fun h6 => bad 0 q0 ⟨fun q9 => absurd rfl q9, fun q9 => absurd q9.1 (Int.not_lt.mpr h6)⟩ (fun μ3 k1 k2 k3 k4 v => go μ3 k1 k2 k3 (Or.inr (k4.resolve_left (fun q9 => q9 rfl))) v), fun h6 => ⟨fun q1 => bad 0 q0 ⟨fun q9 => absurd rfl q9, fun q9 => absurd q9.2.1 q1⟩ (fun μ3 k1 k2 k3 _ v => go μ3 k1 k2 k3 (Or.inl h6) v), fun q1 => ⟨fun q2 => bad 0 q0 ⟨fun q9 => absurd rfl q9, fun q9 => absurd q9.2.2 q2⟩ (fun μ3 k1 k2 k3 _ v => go μ3 k1 k2 k3 (Or.inl h6) v), fun q2 => bad 1 q0 ⟨fun _ => ⟨h6, q1, q2⟩, fun _ => by decide⟩ (fun μ3 k1 k2 k3 _ v => go μ3 k1 k2 k3 (Or.inl h6) v)⟩⟩⟩⟩⟩
  · have hf : F := by
      rcases g with ⟨q1, -⟩ | ⟨q1, -⟩ | ⟨-, q1⟩
      · exact absurd q1 q
      · exact absurd q1 q
      · exact q1
    exact hQ _ _ hI.1.1 (fun c i k1 k2 k3 => hF c i (by omega) k3 (by omega)) (Or.inl ⟨hf, hF _ _ (by omega) (by omega) (by omega), hF _ _ (by omega) (by omega) (by omega), fun c i k1 k2 k3 => hF c i (by omega) (by omega) (by omega)⟩)
  · obtain ⟨A, hRA, ag⟩ : ∃ A, R a1 A ∧ AG A ν 0 a1 := by
      rcases g with ⟨-, k, p, A, p0, p1, mt, pz, ag⟩ | ⟨-, q1, -⟩ | ⟨q1, -⟩
      · cases k with
        | zero =>
          rcases pz with ⟨-, -, r⟩ | ⟨-, z, -⟩ | ⟨j, e, tk, -⟩
          · exact ⟨A, r, ag⟩
          · exact absurd rfl z
          · exact absurd q0 (MT_no mt tk)
        | succ k =>
          obtain ⟨j, e, v, tk, -⟩ := pz
          exact absurd q0 (MT_no mt tk)
      · omega
      · exact absurd q q1
    refine x129c h0 hB ⟨hI.1.1.1, hI.1.1.2.1, hI.1.2⟩ (hI.2.2.2 q) (fun μ' s1 s2 s3 s4 s5 => hQ _ _ s1.1 (fun c i k1 k2 k3 => ?_) (Or.inr ⟨A, hRA, s3, s2, fun c i q1 q2 q3 q4 => ?_⟩))
    · rw [s5 c i (by omega) (by omega)]
      exact hF c i (by omega) k3 (by omega)
    · rw [s4 c i q1 q2 q3 (by omega)]
      exact ag.1 c i q1 q2 q3 q4
