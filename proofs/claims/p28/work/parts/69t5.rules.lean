/-! THE RULES, reference: reading them -/
def Fr (μ0 ν : qM) : Prop := ∀ c i, ¬ (c = 170 ∧ 10 ≤ i) → ¬ (186 ≤ c ∧ c ≤ 190) → ¬ (172 ≤ c ∧ c ≤ 176 ∧ 6 ≤ i) → ν c i = μ0 c i
theorem Fr_BT {b : Int → Int} {n : Int} {μ0 ν : qM} (h : Fr μ0 ν) (B : BT b n μ0) : BT b n ν := BT_fr B (h _ _ (by omega) (by omega) (by omega)) (fun i => h _ _ (by omega) (by omega) (by omega))
def WS (b : Int → Int) (n : Int) (μ μ' : qM) (is : Prop) : Prop := (¬ μ 170 14 = -9 ∧ ¬ μ' 170 14 = -9) ∨ (μ 170 14 = -9 ∧ ¬ is ∧ ¬ μ' 170 14 = -9) ∨ (μ 170 14 = -9 ∧ is ∧ μ' 170 14 = -9 ∧ MTK b n (μ 170 10) (μ' 170 11) (μ' 170 10) (μ' 170 12) (μ' 170 13))
theorem WS_i {b : Int → Int} {n : Int} {μ μ' : qM} {p q : Prop} (h : WS b n μ μ' p) (e : p ↔ q) : WS b n μ μ' q := by
  rcases h with h | ⟨h1, h2, h3⟩ | ⟨h1, h2, h3⟩
  · exact Or.inl h
  · exact Or.inr (Or.inl ⟨h1, fun k => h2 (e.mpr k), h3⟩)
  · exact Or.inr (Or.inr ⟨h1, e.mp h2, h3⟩)
theorem x125 {b : Int → Int} {n : Int} {μ0 : qM} {d : Nat} {Q : qV → qM → Prop} {μ : qM} {a a1 : Int} (hI : Inv μ0 μ a) (hF : Fr μ0 μ) (B : BT b n μ0) (hQ : ∀ μ', Inv μ0 μ' a → Fr μ0 μ' → (∀ c i, 172 ≤ c → c ≤ 176 → μ' c i = μ c i) → WS b n μ μ' (¬ a1 = 0) → Q (.inl (μ 170 13)) μ') : qmw (d + 6) 125 [(.inr (.inr (.inl (170)))), (.inl (a1))] μ Q := by
  have Bm := Fr_BT hF B
  have h1 := hI.2.1
  rw [e125, g125_0]
  refine ⟨fun q => hQ _ hI hF (fun _ _ _ _ => rfl) (Or.inl ⟨q, q⟩), fun q => ⟨fun q2 => hQ _ ?_ (fun c i k1 k2 k3 => ?_) (fun c i k1 k2 => qu_cell (by omega) _) (Or.inr (Or.inl ⟨q, fun k => k q2, ?_⟩)), fun q2 => x124 (μ0 := μ) ⟨Sm_rf hI.1.1, rfl, h1⟩ Bm (by omega) (by rw [← Bm.1]; omega) rfl (fun μ1 hx hs mt => ?_)⟩⟩
  · refine Inv_y hI ⟨Sm_u (Sm_rf hI.1.1) (by omega) (by omega), ?_, ?_⟩ (fun q3 => ?_)
    · rw [qu_ne (by omega)]
      exact h1
    · rw [qu_ne (by omega)]
      exact hI.2.2.1
    · exact q
  · rw [qu_ne (by omega)]
    exact hF c i k1 k2 k3
  · rw [qu_same]
    have := hI.2.2.1
    omega
  · rw [g125_22]
    refine hQ _ (Inv_y hI (Sy_x (Sm_rf hI.1.1) hx hs) (fun _ => q)) (fun c i k1 k2 k3 => ?_) (fun c i k1 k2 => hx.1.2 _ _ (by omega)) (Or.inr (Or.inr ⟨q, q2, ?_, mt⟩))
    · rw [hx.1.2 c i (by omega)]
      exact hF c i k1 k2 k3
    · rw [hx.2.1]
      exact q
theorem x126 {b : Int → Int} {n : Int} {μ0 : qM} {d : Nat} {Q : qV → qM → Prop} {μ : qM} {a a1 a2 : Int} (hI : Inv μ0 μ a) (hF : Fr μ0 μ) (B : BT b n μ0) (hQ : ∀ μ', Inv μ0 μ' a → Fr μ0 μ' → (∀ c i, 172 ≤ c → c ≤ 176 → μ' c i = μ c i) → WS b n μ μ' (μ 170 12 = 2 ∧ a1 ≤ μ 170 13 ∧ μ 170 13 ≤ a2) → Q (.inl (μ 170 13)) μ') : qmw (d + 7) 126 [(.inr (.inr (.inl (170)))), (.inl (a1)), (.inl (a2))] μ Q := by
  rw [e126, g126_0, E117, g126_18, qbr2]
  refine ⟨fun q => x125 hI hF B (fun μ' k1 k2 k3 k4 => ?_), fun q => ⟨fun q2 => x125 hI hF B (fun μ' k1 k2 k3 k4 => ?_), fun q2 => x125 hI hF B (fun μ' k1 k2 k3 k4 => ?_)⟩⟩
  · rw [g126_29]
    exact hQ _ k1 k2 k3 (WS_i k4 ⟨fun h => absurd rfl h, fun h => absurd h.1 q⟩)
  · rw [g126_29]
    exact hQ _ k1 k2 k3 (WS_i k4 ⟨fun h => absurd rfl h, fun h => absurd h.2 q2⟩)
  · rw [g126_29]
    exact hQ _ k1 k2 k3 (WS_i k4 ⟨fun _ => ⟨q, q2⟩, fun _ => by decide⟩)
theorem x127 {b : Int → Int} {n : Int} {μ0 : qM} {d : Nat} {Q : qV → qM → Prop} {μ : qM} {a a1 : Int} (hI : Inv μ0 μ a) (hF : Fr μ0 μ) (B : BT b n μ0) (hQ : ∀ μ', Inv μ0 μ' a → Fr μ0 μ' → (∀ c i, 172 ≤ c → c ≤ 176 → μ' c i = μ c i) → WS b n μ μ' (μ 170 12 = 1 ∧ μ 170 13 = a1) → Q (.inl 0) μ') : qmw (d + 7) 127 [(.inr (.inr (.inl (170)))), (.inl (a1))] μ Q := by
  rw [e127, g127_0]
  refine ⟨fun q => x125 hI hF B (fun μ' k1 k2 k3 k4 => ?_), fun q => ⟨fun q2 => x125 hI hF B (fun μ' k1 k2 k3 k4 => ?_), fun q2 => x125 hI hF B (fun μ' k1 k2 k3 k4 => ?_)⟩⟩
  · rw [g127_25]
    exact hQ _ k1 k2 k3 (WS_i k4 ⟨fun h => absurd rfl h, fun h => absurd h.1 q⟩)
  · rw [g127_25]
    exact hQ _ k1 k2 k3 (WS_i k4 ⟨fun h => absurd rfl h, fun h => absurd h.2 q2⟩)
  · rw [g127_25]
    exact hQ _ k1 k2 k3 (WS_i k4 ⟨fun _ => ⟨q, q2⟩, fun _ => by decide⟩)
theorem x128 {b : Int → Int} {n : Int} {μ0 : qM} {d : Nat} {Q : qV → qM → Prop} {μ : qM} {a a1 : Int} (hI : Inv μ0 μ a) (hF : Fr μ0 μ) (B : BT b n μ0) (hQ : ∀ μ', Inv μ0 μ' a → Fr μ0 μ' → (∀ c i, 172 ≤ c → c ≤ 176 → μ' c i = μ c i) → WS b n μ μ' (μ 170 12 = 3 ∧ μ 170 13 = a1) → Q (.inl 0) μ') : qmw (d + 7) 128 [(.inr (.inr (.inl (170)))), (.inl (a1))] μ Q := by
  rw [e128, g128_0]
  refine ⟨fun q => x125 hI hF B (fun μ' k1 k2 k3 k4 => ?_), fun q => ⟨fun q2 => x125 hI hF B (fun μ' k1 k2 k3 k4 => ?_), fun q2 => x125 hI hF B (fun μ' k1 k2 k3 k4 => ?_)⟩⟩
  · rw [g128_25]
    exact hQ _ k1 k2 k3 (WS_i k4 ⟨fun h => absurd rfl h, fun h => absurd h.1 q⟩)
  · rw [g128_25]
    exact hQ _ k1 k2 k3 (WS_i k4 ⟨fun h => absurd rfl h, fun h => absurd h.2 q2⟩)
  · rw [g128_25]
    exact hQ _ k1 k2 k3 (WS_i k4 ⟨fun _ => ⟨q, q2⟩, fun _ => by decide⟩)
/-! where the reading stands -/
def AG (A ν : qM) (s a : Int) : Prop := (∀ c i, 0 ≤ c → c ≤ 4 → 0 ≤ i → i < a → ν (172 + c) (6 + i) = A c i) ∧ ∀ c, 0 ≤ c → c ≤ 4 → 2 * c + 1 < s → ν (172 + c) (6 + a) = A c a
def GG (b : Int → Int) (n : Int) (R : Int → qM → Prop) (F : Prop) (ν : qM) (s a : Int) : Prop := ν 170 14 = -9 ∧ ∃ k p A, 0 ≤ p ∧ p ≤ n ∧ MTK b n p (ν 170 11) (ν 170 10) (ν 170 12) (ν 170 13) ∧ PZ b n R F k p s a A ∧ AG A ν s a
def GS (b : Int → Int) (n : Int) (R : Int → qM → Prop) (F : Prop) (ν : qM) (s a : Int) : Prop := GG b n R F ν s a ∨ (ν 170 14 = -9 ∧ ν 170 12 = 4 ∧ F ∧ ¬ evn s) ∨ (¬ ν 170 14 = -9 ∧ F)
theorem AG_fr {A ν ν' : qM} {s a s' : Int} (h : AG A ν s a) (k : ∀ c i, 172 ≤ c → c ≤ 176 → ν' c i = ν c i) (hs : ∀ c, 0 ≤ c → c ≤ 4 → 2 * c + 1 < s' → 2 * c + 1 < s) : AG A ν' s' a := ⟨fun c i q1 q2 q3 q4 => by rw [k _ _ (by omega) (by omega)]; exact h.1 c i q1 q2 q3 q4, fun c q1 q2 q3 => by rw [k _ _ (by omega) (by omega)]; exact h.2 c q1 q2 (hs c q1 q2 q3)⟩
/-- what the step at a slot leaves, before a number is put in its column -/
theorem GG_st {b : Int → Int} {n : Int} {R : Int → qM → Prop} {F : Prop} {μ μ' : qM} {s a : Int} {is : Prop} (g : GG b n R F μ s a) (hs0 : s = 0 → ¬ μ 170 12 = 0) (hI : ∀ A, AG A μ s a → (is ↔ (a < 6 ∧ IS s a A (μ 170 12) (μ 170 13)))) (w : WS b n μ μ' is) : (μ' 170 14 = -9 ∧ ∃ k e A v, 0 ≤ e ∧ e ≤ n ∧ (¬ evn s → v = μ 170 13) ∧ MTK b n e (μ' 170 11) (μ' 170 10) (μ' 170 12) (μ' 170 13) ∧ AG A μ s a ∧ ((s = 10 ∧ PZ b n R F k e 0 (a + 1) A) ∨ (¬ s = 10 ∧ evn s ∧ PZ b n R F k e (s + 1) a A) ∨ (¬ evn s ∧ PZ b n R F k e (s + 1) a (qu A ((s - 1) / 2) a v)))) ∨ (μ' 170 14 = -9 ∧ μ' 170 12 = 4 ∧ F ∧ evn s ∧ s ≤ 6) ∨ (¬ μ' 170 14 = -9 ∧ F) := by
  obtain ⟨g1, k, p, A, g2, g3, mt, pz, ag⟩ := g
  have hi := hI A ag
  rcases w with ⟨w1, -⟩ | ⟨-, w2, w3⟩ | ⟨-, w2, w3, w4⟩
  · exact absurd g1 w1
  · refine Or.inr (Or.inr ⟨w3, ?_⟩)
    cases k with
    | zero =>
      rcases pz with ⟨p1, p2, -⟩ | ⟨-, -, p3⟩ | ⟨j, e, -, -, p3⟩
      · exact absurd (MT_en mt p1) (hs0 p2)
      · exact p3
      · exact p3
    | succ k =>
      obtain ⟨j, e, v, tk, can, -⟩ := pz
      exact absurd (hi.mpr ⟨can.1, (K1 mt tk can).1⟩) w2
  · have is2 := hi.mp w2
    cases k with
    | zero =>
      rcases pz with ⟨p1, p2, -⟩ | ⟨p1, -, -⟩ | ⟨j, e, tk, no, p3⟩
      · exact absurd (MT_en mt p1) (hs0 p2)
      · have z := MT_en mt p1
        have i3 := is2.2
        rw [z] at i3
        unfold IS at i3
        omega
      · have k2 := K2 mt tk no is2.1 is2.2
        exact Or.inr (Or.inl ⟨w3, MT_cap w4 k2.2.1 k2.2.2.1 k2.2.2.2, p3, k2.1.1, k2.1.2⟩)
    | succ k =>
      obtain ⟨j, e, v, tk, can, nx⟩ := pz
      have k1 := K1 mt tk can
      have r := CE_r tk.2.2.2.2 tk.2.2.1
      have r1 := tk.1
      rw [k1.2.1] at w4
      exact Or.inl ⟨w3, k, e, A, v, by omega, r.2, fun q => (k1.2.2 q).symm, w4, ag, nx⟩
theorem GS_e {b : Int → Int} {n : Int} {R : Int → qM → Prop} {F : Prop} {μ μ' : qM} {s a : Int} {is : Prop} (g : GS b n R F μ s a) (he : evn s) (h10 : ¬ s = 10) (hs0 : s = 0 → ¬ μ 170 12 = 0) (hI : ∀ A, AG A μ s a → (is ↔ (a < 6 ∧ IS s a A (μ 170 12) (μ 170 13)))) (kf : ∀ c i, 172 ≤ c → c ≤ 176 → μ' c i = μ c i) (w : WS b n μ μ' is) : GS b n R F μ' (s + 1) a := by
  have he2 := he
  unfold evn at he2
  rcases g with g | ⟨-, -, -, g⟩ | ⟨g1, g2⟩
  · rcases GG_st g hs0 hI w with ⟨f, k, e, A, v, e0, e1, -, mt, ag, nx⟩ | ⟨h1, h2, h3, h4, h5⟩ | h
    · refine Or.inl ⟨f, k, e, A, e0, e1, mt, ?_, AG_fr ag kf (fun c q1 q2 q3 => by omega)⟩
      rcases nx with ⟨q, -⟩ | ⟨-, -, q⟩ | ⟨q, -⟩
      · exact absurd q h10
      · exact q
      · exact absurd he q
    · exact Or.inr (Or.inl ⟨h1, h2, h3, by unfold evn; omega⟩)
    · exact Or.inr (Or.inr h)
  · exact absurd he g
  · rcases w with ⟨-, w⟩ | ⟨w, -⟩ | ⟨w, -⟩
    · exact Or.inr (Or.inr ⟨w, g2⟩)
    · exact absurd w g1
    · exact absurd w g1
theorem GS_10 {b : Int → Int} {n : Int} {R : Int → qM → Prop} {F : Prop} {μ μ' : qM} {a : Int} {is : Prop} (g : GS b n R F μ 10 a) (hI : ∀ A, AG A μ 10 a → (is ↔ (a < 6 ∧ IS 10 a A (μ 170 12) (μ 170 13)))) (kf : ∀ c i, 172 ≤ c → c ≤ 176 → μ' c i = μ c i) (w : WS b n μ μ' is) : GS b n R F μ' 0 (a + 1) := by
  rcases g with g | ⟨-, -, -, g⟩ | ⟨g1, g2⟩
  · rcases GG_st g (fun q => absurd q (by decide)) hI w with ⟨f, k, e, A, v, e0, e1, -, mt, ag, nx⟩ | ⟨h1, h2, h3, h4, h5⟩ | h
    · refine Or.inl ⟨f, k, e, A, e0, e1, mt, ?_, fun c i q1 q2 q3 q4 => ?_, fun c q1 q2 q3 => by omega⟩
      · rcases nx with ⟨-, q⟩ | ⟨q, -⟩ | ⟨q, -⟩
        · exact q
        · exact absurd rfl q
        · exact absurd (by unfold evn; omega) q
      · rw [kf _ _ (by omega) (by omega)]
        by_cases e9 : i = a
        · rw [e9]
          exact ag.2 c q1 q2 (by omega)
        · exact ag.1 c i q1 q2 q3 (by omega)
    · omega
    · exact Or.inr (Or.inr h)
  · exact absurd (by unfold evn; omega) g
  · rcases w with ⟨-, w⟩ | ⟨w, -⟩ | ⟨w, -⟩
    · exact Or.inr (Or.inr ⟨w, g2⟩)
    · exact absurd w g1
    · exact absurd w g1
theorem GS_o {b : Int → Int} {n : Int} {R : Int → qM → Prop} {F : Prop} {μ μ' : qM} {s a c0 : Int} {is : Prop} (g : GS b n R F μ s a) (he : ¬ evn s) (hc : (s - 1) / 2 = c0) (hc1 : 0 ≤ c0) (hc2 : c0 ≤ 4) (hs : s = 2 * c0 + 1) (h2 : is → μ 170 12 = 2) (hI : ∀ A, AG A μ s a → (is ↔ (a < 6 ∧ IS s a A (μ 170 12) (μ 170 13)))) (kf : ∀ c i, 172 ≤ c → c ≤ 176 → μ' c i = μ c i) (w : WS b n μ μ' is) : GS b n R F (qu μ' (172 + c0) (6 + a) (μ 170 13)) (s + 1) a := by
  have f9 : ∀ i, (qu μ' (172 + c0) (6 + a) (μ 170 13)) 170 i = μ' 170 i := fun i => qu_cell (by omega) i
  unfold GS GG
  rw [f9, f9, f9, f9, f9]
  rcases g with g | ⟨g0, g1, g2, g3⟩ | ⟨g1, g2⟩
  · rcases GG_st g (fun q => by omega) hI w with ⟨f, k, e, A, v, e0, e1, ev, mt, ag, nx⟩ | ⟨h1, h2, h3, h4, h5⟩ | h
    · refine Or.inl ⟨f, k, e, qu A c0 a v, e0, e1, mt, ?_, fun c i q1 q2 q3 q4 => ?_, fun c q1 q2 q3 => ?_⟩
      · rcases nx with ⟨q, -⟩ | ⟨-, q, -⟩ | ⟨-, q⟩
        · omega
        · exact absurd q he
        · rw [hc] at q
          exact q
      · rw [qu_ne (by omega), kf _ _ (by omega) (by omega), qu_ne (by omega)]
        exact ag.1 c i q1 q2 q3 q4
      · by_cases e9 : c = c0
        · rw [e9, qu_same, qu_same]
          exact (ev he).symm
        · rw [qu_ne (by omega), kf _ _ (by omega) (by omega), qu_ne (by omega)]
          exact ag.2 c q1 q2 (by omega)
    · exact absurd h4 he
    · exact Or.inr (Or.inr h)
  · rcases w with ⟨w, -⟩ | ⟨-, -, w⟩ | ⟨-, w, -⟩
    · exact absurd g0 w
    · exact Or.inr (Or.inr ⟨w, g2⟩)
    · have := h2 w
      omega
  · rcases w with ⟨-, w⟩ | ⟨w, -⟩ | ⟨w, -⟩
    · exact Or.inr (Or.inr ⟨w, g2⟩)
    · exact absurd w g1
    · exact absurd w g1
theorem Fr_w {μ0 ν : qM} {c i v : Int} (h : Fr μ0 ν) (h1 : 172 ≤ c) (h2 : c ≤ 176) (h3 : 6 ≤ i) : Fr μ0 (qu ν c i v) := fun c' i' k1 k2 k3 => by
  rw [qu_ne (by omega)]
  exact h c' i' k1 k2 k3
/-- the copy of the rules that were read -/
theorem x129c {μ0 : qM} {d : Nat} {Q : qV → qM → Prop} {μ : qM} {a1 : Int} (h0 : 0 ≤ a1) (h1 : a1 ≤ 6) (h : Sq μ0 μ) (hb : ∀ k, 0 ≤ k → k < a1 → 1 ≤ μ 176 (6 + k)) (hQ : ∀ μ', Sr0 μ0 μ' → μ' 170 4 = a1 → μ' 170 3 = 0 → (∀ c i, 0 ≤ c → c ≤ 4 → 0 ≤ i → i < 6 → μ' (172 + c) i = μ (172 + c) (6 + i)) → (∀ c i, ¬ (c = 170 ∧ (i = 3 ∨ i = 4)) → ¬ (172 ≤ c ∧ c ≤ 176 ∧ 0 ≤ i ∧ i < 6) → μ' c i = μ c i) → Q (.inl a1) μ') : qW d 129 Q 213 [some (.inr (.inr (.inl (170)))), some (.inl (a1)), some (.inl (0))] [] μ := by
  refine qup 6 (P := fun a2 => ∀ ν, 0 ≤ a2 → Sq μ0 ν → (∀ c i, 0 ≤ c → c ≤ 4 → 0 ≤ i → i < a2 → ν (172 + c) i = μ (172 + c) (6 + i)) → (∀ c i, ¬ (172 ≤ c ∧ c ≤ 176 ∧ 0 ≤ i ∧ i < a2) → ν c i = μ c i) → qW d 129 Q 213 [some (.inr (.inr (.inl (170)))), some (.inl (a1)), some (.inl (a2))] [] ν) (fun a2 ih hB ν h2 hm hb1 hb2 => ?_) 0 (by omega) _ (by omega) h (fun c i q1 q2 q3 q4 => by omega) (fun c i q => rfl)
  rw [g129_213, q32_id (z := 6 + a2) (by omega) (by omega), q32_id (z := a2 + 1) (by omega) (by omega)]
  refine ⟨fun q => ?_, fun q => ?_⟩
  · have e6 : a2 = 6 := by omega
    subst e6
    refine hQ _ (Sq_end hm h0 h1 (fun k q1 q2 => ?_)) ?_ ?_ (fun c i q1 q2 q3 q4 => ?_) (fun c i q1 q2 => ?_)
    · have := hb1 4 k (by decide) (by decide) q1 (by omega)
      have e9 : ν 176 k = μ 176 (6 + k) := this
      rw [e9]
      exact hb k q1 q2
    · rw [qu_ne (by omega), qu_same]
    · rw [qu_same]
    · rw [qu_cell (by omega), qu_cell (by omega)]
      exact hb1 c i q1 q2 q3 q4
    · rw [qu_ne (by omega), qu_ne (by omega)]
      exact hb2 c i q2
  · have hx : 0 ≤ 6 + a2 ∧ 6 + a2 < 12 := ⟨by omega, by omega⟩
    have hy : 0 ≤ a2 ∧ a2 < 12 := ⟨by omega, by omega⟩
    refine ⟨hx, hy, hx, hy, hx, hy, hx, hy, hx, hy, ih _ (by omega) (by omega) _ (by omega) (Sq_u (Sq_u (Sq_u (Sq_u (Sq_u hm (by omega) (by omega)) (by omega) (by omega)) (by omega) (by omega)) (by omega) (by omega)) (by omega) (by omega)) (fun c i q1 q2 q3 q4 => ?_) (fun c i q1 => ?_)⟩
    · have u : ∀ c, 172 ≤ c → c ≤ 176 → ν c (6 + a2) = μ c (6 + a2) := fun c q5 q6 => hb2 c _ (by omega)
      by_cases e : i = a2
      · subst e
        rcases (show c = 0 ∨ c = 1 ∨ c = 2 ∨ c = 3 ∨ c = 4 by omega) with rfl | rfl | rfl | rfl | rfl
        · show (qu (qu (qu (qu (qu ν 172 i (ν 172 (6 + i))) 173 i (ν 173 (6 + i))) 174 i (ν 174 (6 + i))) 175 i (ν 175 (6 + i))) 176 i (ν 176 (6 + i))) 172 i = μ 172 (6 + i)
          rw [qu_cell (by decide), qu_cell (by decide), qu_cell (by decide), qu_cell (by decide), qu_same]
          exact u _ (by decide) (by decide)
        · show (qu (qu (qu (qu (qu ν 172 i (ν 172 (6 + i))) 173 i (ν 173 (6 + i))) 174 i (ν 174 (6 + i))) 175 i (ν 175 (6 + i))) 176 i (ν 176 (6 + i))) 173 i = μ 173 (6 + i)
          rw [qu_cell (by decide), qu_cell (by decide), qu_cell (by decide), qu_same]
          exact u _ (by decide) (by decide)
        · show (qu (qu (qu (qu (qu ν 172 i (ν 172 (6 + i))) 173 i (ν 173 (6 + i))) 174 i (ν 174 (6 + i))) 175 i (ν 175 (6 + i))) 176 i (ν 176 (6 + i))) 174 i = μ 174 (6 + i)
          rw [qu_cell (by decide), qu_cell (by decide), qu_same]
          exact u _ (by decide) (by decide)
        · show (qu (qu (qu (qu (qu ν 172 i (ν 172 (6 + i))) 173 i (ν 173 (6 + i))) 174 i (ν 174 (6 + i))) 175 i (ν 175 (6 + i))) 176 i (ν 176 (6 + i))) 175 i = μ 175 (6 + i)
          rw [qu_cell (by decide), qu_same]
          exact u _ (by decide) (by decide)
        · show (qu (qu (qu (qu (qu ν 172 i (ν 172 (6 + i))) 173 i (ν 173 (6 + i))) 174 i (ν 174 (6 + i))) 175 i (ν 175 (6 + i))) 176 i (ν 176 (6 + i))) 176 i = μ 176 (6 + i)
          rw [qu_same]
          exact u _ (by decide) (by decide)
      · rw [qu_ne (by omega), qu_ne (by omega), qu_ne (by omega), qu_ne (by omega), qu_ne (by omega)]
        exact hb1 c i q1 q2 q3 (by omega)
    · rw [qu_ne (by omega), qu_ne (by omega), qu_ne (by omega), qu_ne (by omega), qu_ne (by omega)]
      exact hb2 c i (by omega)
