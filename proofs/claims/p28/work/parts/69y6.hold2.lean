/-! coins are held back: the calls -/
section HE
variable {μ : qM}
theorem co_0 {e : Int → Int} {s i : Int} (h : e i = 0) : co e s i = 0 := by
  unfold co
  rw [h]
  by_cases q : 0 ≤ s - hT e s i.toNat
  · rw [hq_l q, hq_p (Int.le_refl 0)]
  · rw [hq_r (by omega), hq_n (by omega)]
theorem x90 {d : Nat} {Q : qV → qM → Prop} {a1 a2 a3 a4 : Int} (hS : Safe μ) (ho : HO μ 62 63 66 (μ 59 7)) (hQ : ∀ a μ', ((¬ okHo a1 a2 a3 a4 ∧ a = -1 ∧ μ' = μ) ∨ (okHo a1 a2 a3 a4 ∧ Sd μ μ' ∧ Hd μ μ' 62 63 66 (eC μ a1) (qidiv (q32 (a2 * a3)) a4) (μ 59 7) ∧ a = hT (eC μ a1) (qidiv (q32 (a2 * a3)) a4) (μ 59 7).toNat)) → Q (.inl a) μ') : qmw (d + 4) 90 [(.inr (.inr (.inl (0)))), (.inl (a1)), (.inl (a2)), (.inl (a3)), (.inl (a4))] μ Q := by
  have hd := sa_debts hS
  have no : ¬ okHo a1 a2 a3 a4 → Q (.inl (-1)) μ := fun q => hQ _ _ (Or.inl ⟨q, rfl, rfl⟩)
  have yes : okHo a1 a2 a3 a4 → ∀ μ', Sd μ μ' → Hd μ μ' 62 63 66 (eC μ a1) (qidiv (q32 (a2 * a3)) a4) (μ 59 7) → Q (.inl (hT (eC μ a1) (qidiv (q32 (a2 * a3)) a4) (μ 59 7).toNat)) μ' := fun q μ' q2 q3 => hQ _ _ (Or.inr ⟨q, q2, q3, rfl⟩)
  clear hQ
  unfold okHo at no yes
  rw [e90, g90_0, E105, g90_4, qbr]
  simp only [E104, g90_15, g90_27, g90_38, qbr2, qbr]
  refine ⟨fun q => no (by clear no yes; omega), fun q => ⟨fun q2 => ⟨fun q3 => no (by clear no yes; omega), fun q3 => ⟨fun q4 => no (by clear no yes; omega), fun q4 => ⟨fun q5 => ⟨by omega, ?_⟩, fun q5 => no (by clear no yes; omega)⟩⟩⟩, fun q2 => no (by clear no yes; omega)⟩⟩
  have Y := yes (by clear no yes; omega)
  clear yes no
  have sr := shr_r (a2 := a2) (a3 := a3) (a4 := a4) (by omega) (by omega)
  generalize qidiv (q32 (a2 * a3)) a4 = s at Y sr ⊢
  have e0 : ∀ j : Int, 0 ≤ j → j < μ 59 7 → 0 ≤ eC μ a1 j ∧ eC μ a1 j ≤ μ 62 j := fun j q6 q7 => by
    have z := ho j q6 q7
    unfold eC
    split <;> omega
  refine qup (μ 59 7) (P := fun i => ∀ (a6 : Int) (ν : qM), 0 ≤ i → Sd μ ν → Hd μ ν 62 63 66 (eC μ a1) s i → a6 = hT (eC μ a1) s i.toNat → qW (d + 3) 90 Q 63 [some (.inr (.inr (.inl (0)))), some (.inl (a1)), some (.inl (a2)), some (.inl (a3)), some (.inl (a4)), some (.inl (s)), some (.inl (a6)), some (.inl (i))] [] ν) (fun i ih hB a6 ν h0 hm hh ea => ?_) 0 (by omega) _ _ (by omega) (Sd_rf hS) Hd_0 rfl
  have e597 : ν 59 7 = μ 59 7 := hh.1 59 7 (by decide)
  have e60 : ν 60 i = μ 60 i := hh.1 60 i (by decide)
  have fr := stC_fr hh.1 hS
  have nx : co (eC μ a1) s i = 0 → i < μ 59 7 → qW (d + 3) 90 Q 63 [some (.inr (.inr (.inl (0)))), some (.inl (a1)), some (.inl (a2)), some (.inl (a3)), some (.inl (a4)), some (.inl (s)), some (.inl (a6)), some (.inl (q32 (i + 1)))] [] ν := fun q1 q2 => by
    rw [q32_id (z := i + 1) (by omega) (by omega)]
    refine ih _ (by omega) (by omega) _ _ (by omega) hm (Hd_n hh q1) ?_
    rw [hT_s h0, q1, ea, Int.add_zero]
  rw [g90_63, e597, e60]
  refine ⟨fun q6 => ?_, fun q6 => ⟨by omega, fun q7 => nx (co_0 (if_neg (fun w => q7 w.1))) q6, fun q7 => x111 hm.1 ?_⟩⟩
  · have ei : i = μ 59 7 := by omega
    rw [ei] at hh ea
    rw [ea]
    exact Y ν hm hh
  · rw [fr.2, g90_101]
    refine ⟨fun q8 => nx (co_0 (if_neg (fun w => by omega))) q6, fun q8 => ?_⟩
    have m1 : mhC μ i = 1 := by
      have w := mhF_01 (μ 58 3) (μ 68) (μ 69) (stC μ) i (μ 67 3).toNat
      have w2 : mhC μ i = 0 ∨ mhC μ i = 1 := w
      omega
    have ee : eC μ a1 i = μ 62 i := if_pos ⟨q7, m1⟩
    have e62 : ν 62 i = μ 62 i := hh.2.1 62 i (by omega)
    have e63 : ν 63 i = μ 63 i := hh.2.1 63 i (by omega)
    have e66 : ν 66 i = μ 66 i := hh.2.1 66 i (by omega)
    have hr := hT_r (e := eC μ a1) sr.1 i.toNat (fun j q9 q10 => (e0 j q9 (by omega)).1)
    have cr := co_r (e := eC μ a1) sr.1 h0 (fun j q9 q10 => (e0 j q9 (by omega)).1)
    have hoi := ho i h0 q6
    have ec : qmax 0 (qmin (ν 62 i) (s - a6)) = co (eC μ a1) s i := by
      unfold co
      rw [ee, e62, ea]
    rw [← ea] at hr
    rw [ee] at cr
    clear e0 nx Y
    have hx : 0 ≤ i ∧ i < 20 := by omega
    rw [q32_id (z := s - a6) (by omega) (by omega), e26, g26_0, ec]
    refine ⟨hx, hx, hx, hx, hx, hx, by decide, hx, ?_⟩
    rw [g90_123, q32_id (z := a6 + co (eC μ a1) s i) (by omega) (by omega), q32_id (z := i + 1) (by omega) (by omega)]
    refine ih _ (by omega) (by omega) _ _ (by omega) ?_ (Hd_s hh (by decide) h0 ?_ ?_ ?_) ?_
    · refine Sd_w (Sd_w (Sd_w hm ?_ ?_ ?_ ?_ ?_ ?_ ?_ ?_) ?_ ?_ ?_ ?_ ?_ ?_ ?_ ?_) ?_ ?_ ?_ ?_ ?_ ?_ ?_ ?_ <;> intros <;> omega
    · rw [e62, q32_id (by omega) (by omega)]
    · rw [e63, q32_id (by omega) (by omega)]
    · rw [e66, q32_id (z := co (eC μ a1) s i + 9) (by omega) (by omega), qidiv_p (by omega) (by omega) (by decide) (by decide), q32_id (by omega) (by omega)]
    · rw [hT_s h0, ea]
theorem x167 {d : Nat} {Q : qV → qM → Prop} {a1 a2 a3 a4 : Int} (hS : Safe μ) (ho : HO μ 198 199 202 (μ 191 0)) (hQ : ∀ a μ', ((¬ okHo a1 a2 a3 a4 ∧ a = -1 ∧ μ' = μ) ∨ (okHo a1 a2 a3 a4 ∧ Sn μ μ' ∧ Hd μ μ' 198 199 202 (eM μ a1) (qidiv (q32 (a2 * a3)) a4) (μ 191 0) ∧ a = hT (eM μ a1) (qidiv (q32 (a2 * a3)) a4) (μ 191 0).toNat)) → Q (.inl a) μ') : qmw (d + 4) 167 [(.inr (.inr (.inl (170)))), (.inl (a1)), (.inl (a2)), (.inl (a3)), (.inl (a4))] μ Q := by
  have hd := sa_mdebts hS 0
  have no : ¬ okHo a1 a2 a3 a4 → Q (.inl (-1)) μ := fun q => hQ _ _ (Or.inl ⟨q, rfl, rfl⟩)
  have yes : okHo a1 a2 a3 a4 → ∀ μ', Sn μ μ' → Hd μ μ' 198 199 202 (eM μ a1) (qidiv (q32 (a2 * a3)) a4) (μ 191 0) → Q (.inl (hT (eM μ a1) (qidiv (q32 (a2 * a3)) a4) (μ 191 0).toNat)) μ' := fun q μ' q2 q3 => hQ _ _ (Or.inr ⟨q, q2, q3, rfl⟩)
  clear hQ
  unfold okHo at no yes
  rw [e167, g167_0, E133, g167_4, qbr2]
  simp only [E117, g167_15, g167_25, g167_36, qbr2, qbr]
  refine ⟨fun q => no (by clear no yes; omega), fun q => ⟨fun q2 => no (by clear no yes; omega), fun q2 => ⟨fun q3 => no (by clear no yes; omega), fun q3 => ⟨fun q4 => ⟨by omega, ?_⟩, fun q4 => no (by clear no yes; omega)⟩⟩⟩⟩
  have Y := yes (by clear no yes; omega)
  clear yes no
  have sr := shr_r (a2 := a2) (a3 := a3) (a4 := a4) (by omega) (by omega)
  generalize qidiv (q32 (a2 * a3)) a4 = s at Y sr ⊢
  have e0 : ∀ j : Int, 0 ≤ j → j < μ 191 0 → 0 ≤ eM μ a1 j ∧ eM μ a1 j ≤ μ 198 j := fun j q6 q7 => by
    have z := ho j q6 q7
    unfold eM
    split <;> omega
  refine qup (μ 191 0) (P := fun i => ∀ (a5 a6 : Int) (o8 : Option qV) (ν : qM), 0 ≤ i → Sn μ ν → Hd μ ν 198 199 202 (eM μ a1) s i → a6 = hT (eM μ a1) s i.toNat → a5 = s - a6 → qW (d + 3) 167 Q 55 [some (.inr (.inr (.inl (170)))), some (.inl (a1)), some (.inl (a2)), some (.inl (a3)), some (.inl (a4)), some (.inl (a5)), some (.inl (a6)), some (.inl (i)), o8] [] ν) (fun i ih hB a5 a6 o8 ν h0 hm hh ea e5 => ?_) 0 (by omega) _ _ _ _ (by omega) (Sn_rf hS) Hd_0 rfl (by rw [Int.sub_zero])
  have e191 : ν 191 0 = μ 191 0 := hh.1 191 0 (by decide)
  have e196 : ν 196 i = μ 196 i := hh.1 196 i (by decide)
  have fr := stM_fr hh.1
  have nx : co (eM μ a1) s i = 0 → i < μ 191 0 → qW (d + 3) 167 Q 55 [some (.inr (.inr (.inl (170)))), some (.inl (a1)), some (.inl (a2)), some (.inl (a3)), some (.inl (a4)), some (.inl (a5)), some (.inl (a6)), some (.inl (q32 (i + 1))), o8] [] ν := fun q1 q2 => by
    rw [q32_id (z := i + 1) (by omega) (by omega)]
    refine ih _ (by omega) (by omega) _ _ _ _ (by omega) hm (Hd_n hh q1) ?_ e5
    rw [hT_s h0, q1, ea, Int.add_zero]
  rw [g167_55, e191, e196]
  refine ⟨by decide, fun q6 => ?_, fun q6 => ⟨by omega, fun q7 => nx (co_0 (if_neg (fun w => q7 w.1))) q6, fun q7 => x166 hm.1 ?_⟩⟩
  · have ei : i = μ 191 0 := by omega
    rw [ei] at hh ea
    rw [ea]
    exact Y ν hm hh
  · have e198 : ν 198 i = μ 198 i := hh.2.1 198 i (by omega)
    have e199 : ν 199 i = μ 199 i := hh.2.1 199 i (by omega)
    have e202 : ν 202 i = μ 202 i := hh.2.1 202 i (by omega)
    rw [fr.2, g167_83, e198, e199, e202]
    refine ⟨fun q8 => nx (co_0 (if_neg (fun w => by omega))) q6, fun q8 => ?_⟩
    have m1 : mhM μ i = 1 := by
      have w := mhF_01 (μ 170 1) (μ 204) (μ 205) (stM μ) i (μ 192 0).toNat
      have w2 : mhM μ i = 0 ∨ mhM μ i = 1 := w
      omega
    have ee : eM μ a1 i = μ 198 i := if_pos ⟨q7, m1⟩
    have hr := hT_r (e := eM μ a1) sr.1 i.toNat (fun j q9 q10 => (e0 j q9 (by omega)).1)
    have hoi := ho i h0 q6
    have ec : co (eM μ a1) s i = qmax 0 (qmin (μ 198 i) a5) := by
      unfold co
      rw [ee, ← ea, ← e5]
    rw [← ea] at hr
    clear e0 nx Y
    have hx : 0 ≤ i ∧ i < 60 := by omega
    have w : ∀ x y z, Sn μ (qu (qu (qu ν 198 i x) 199 i y) 202 i z) := fun x y z => by
      refine Sn_x (Sn_x (Sn_x hm ?_ ?_ ?_ ?_ ?_ ?_ ?_) ?_ ?_ ?_ ?_ ?_ ?_ ?_) ?_ ?_ ?_ ?_ ?_ ?_ ?_ <;> intros <;> omega
    refine ⟨hx, fun q9 => ⟨hx, hx, hx, hx, hx, hx, by decide, hx, ?_⟩, fun q9 => ⟨hx, hx, hx, hx, hx, by decide, hx, ?_⟩⟩
    · have ec2 : co (eM μ a1) s i = μ 198 i := by
        rw [ec, hq_l q9, hq_p hoi.1]
      rw [q32_id (z := i + 1) (by omega) (by omega), q32_id (z := a5 - μ 198 i) (by omega) (by omega), q32_id (z := a6 + μ 198 i) (by omega) (by omega)]
      refine ih _ (by omega) (by omega) _ _ _ _ (by omega) (w _ _ _) (Hd_s hh (by decide) h0 ?_ ?_ ?_) ?_ (by omega)
      · rw [ec2, q32_id (by omega) (by omega)]
      · rw [ec2, q32_id (by omega) (by omega)]
      · rw [ec2, q32_id (z := μ 198 i + 9) (by omega) (by omega), qidiv_p (by omega) (by omega) (by decide) (by decide), q32_id (by omega) (by omega)]
      · rw [hT_s h0, ec2, ea]
    · have ec2 : co (eM μ a1) s i = a5 := by
        rw [ec, hq_r q9, hq_p (by omega)]
      rw [q32_id (z := i + 1) (by omega) (by omega), q32_id (z := a5 - a5) (by omega) (by omega), q32_id (z := a6 + a5) (by omega) (by omega)]
      refine ih _ (by omega) (by omega) _ _ _ _ (by omega) (w _ _ _) (Hd_s hh (by decide) h0 ?_ ?_ ?_) ?_ (by omega)
      · rw [ec2, q32_id (by omega) (by omega)]
      · rw [ec2, q32_id (by omega) (by omega)]
      · rw [ec2, q32_id (z := a5 + 9) (by omega) (by omega), qidiv_p (by omega) (by omega) (by decide) (by decide), q32_id (by omega) (by omega)]
      · rw [hT_s h0, ec2, ea]
theorem eM_fr {ν : qM} (k : ∀ c i, 170 ≤ c → ν c i = μ c i) (p : Int) : eM ν p = eM μ p := by
  have e : stM ν = stM μ := by
    funext l
    unfold stM
    rw [k 170 1 (by decide), k 205 l (by decide), k 204 l (by decide), k 206 l (by decide), k 196 _ (by decide), k 208 _ (by decide)]
  have e8 : ν 204 = μ 204 := funext (fun i => k 204 i (by decide))
  have e9 : ν 205 = μ 205 := funext (fun i => k 205 i (by decide))
  have m : mhM ν = mhM μ := by
    funext dd
    unfold mhM
    rw [e, e8, e9, k 170 1 (by decide), k 192 0 (by decide)]
  funext i
  unfold eM
  rw [m, k 196 i (by decide), k 198 i (by decide)]
theorem eC_M (h : R4 μ) {p i : Int} (q1 : 0 ≤ i) (q2 : i ≤ 19) : eC μ p i = eM μ p i := by
  have hl := sa_letters h.1.1.1.1
  have m : mhC μ i = mhM μ i := by
    unfold mhC mhM
    rw [← dl_ln h.2, ← h.1.1.1.2.1.1]
    exact mhF_cg _ (fun j q3 q4 => ⟨dl_lc h.2 (k := 0) (by decide) (by decide) q3 (by omega), dl_lc h.2 (k := 1) (by decide) (by decide) q3 (by omega), st_eq h q3 (by omega)⟩)
  have c0 : μ 60 i = μ 196 i := dl_c h.2 (k := 0) (by decide) (by decide) q1 q2
  have c2 : μ 62 i = μ 198 i := dl_c h.2 (k := 2) (by decide) (by decide) q1 q2
  unfold eC eM
  rw [m, c0, c2]
theorem pd90 {a1 a2 a3 a4 : Int} (h : R4 μ) : PE R4 90 167 [(.inl (a1)), (.inl (a2)), (.inl (a3)), (.inl (a4))] μ := by
  have hS := h.1.1.1.1
  have en := dl_n h.2
  have hd := sa_debts hS
  have hoM : HO μ 198 199 202 (μ 191 0) := fun i q1 q2 => by
    have k := dl_k h.2 q1 q2
    unfold dok at k
    omega
  have hoC : HO μ 62 63 66 (μ 59 7) := fun i q1 q2 => by
    have k := hoM i q1 (by omega)
    have c2 : μ 62 i = μ 198 i := dl_c h.2 (k := 2) (by decide) (by decide) q1 (by omega)
    have c3 : μ 63 i = μ 199 i := dl_c h.2 (k := 3) (by decide) (by decide) q1 (by omega)
    have c6 : μ 66 i = μ 202 i := dl_c h.2 (k := 6) (by decide) (by decide) q1 (by omega)
    rw [c2, c3, c6]
    exact k
  refine x90 hS hoC (fun a μ1 z => ⟨a, rfl, ?_⟩)
  rcases z with ⟨no, ea, m1⟩ | ⟨ok, r1, H1, ea⟩
  · rw [m1]
    refine x167 hS hoM (fun b μ2 y => ?_)
    rcases y with ⟨-, eb, m2⟩ | ⟨ok2, -⟩
    · rw [m2]
      exact ⟨by rw [eb, ea], h⟩
    · exact absurd ok2 no
  · have F1 : ∀ c i, ¬ (59 ≤ c ∧ c ≤ 70) → μ1 c i = μ c i := r1.2
    have k191 := F1 191 0 (by decide)
    have hoM1 : HO μ1 198 199 202 (μ1 191 0) := fun i q1 q2 => by
      rw [k191] at q2
      rw [F1 198 i (by decide), F1 199 i (by decide), F1 202 i (by decide)]
      exact hoM i q1 q2
    have sr := shr_r (a2 := a2) (a3 := a3) (a4 := a4) ok.2.1 ok.2.2
    have eE : ∀ j : Int, 0 ≤ j → j < μ 191 0 → eM μ a1 j = eC μ a1 j := fun j q1 q2 => (eC_M h q1 (by omega)).symm
    refine x167 r1.1 hoM1 (fun b μ2 y => ?_)
    rw [k191, eM_fr (μ := μ) (ν := μ1) (fun c i q => F1 c i (by omega)) a1] at y
    rcases y with ⟨no, -⟩ | ⟨-, r2, H2, eb⟩
    · exact absurd ok no
    · have R3' := R3_n (R3_d h.1 r1) r2
      generalize qidiv (q32 (a2 * a3)) a4 = s at H1 ea H2 eb sr
      rw [en] at H1 ea
      have e0 : ∀ j : Int, 0 ≤ j → j < μ 191 0 → 0 ≤ eC μ a1 j ∧ eC μ a1 j ≤ μ 198 j := fun j q1 q2 => by
        have z := hoM j q1 q2
        rw [← eE j q1 q2]
        unfold eM
        split <;> omega
      have cr : ∀ j : Int, 0 ≤ j → j < μ 191 0 → co (eM μ a1) s j = co (eC μ a1) s j ∧ 0 ≤ co (eC μ a1) s j ∧ co (eC μ a1) s j ≤ μ 198 j := fun j q1 q2 => by
        have w := co_r (e := eC μ a1) sr.1 q1 (fun i q3 q4 => (e0 i q3 (by omega)).1)
        have w2 := e0 j q1 q2
        exact ⟨co_cg eE q1 q2, w.1, by omega⟩
      clear e0
      have F : ∀ c i, ¬ (c = 62 ∨ c = 63 ∨ c = 66 ∨ c = 198 ∨ c = 199 ∨ c = 202) → μ2 c i = μ c i := fun c i q => by
        rw [H2.1 c i (by omega), H1.1 c i (by omega)]
      have G : ∀ c i, ¬ (0 ≤ i ∧ i < μ 191 0) → μ2 c i = μ c i := fun c i q => by
        rw [H2.2.1 c i q, H1.2.1 c i q]
      have vC : ∀ i, 0 ≤ i → i < μ 191 0 → μ2 62 i = μ 62 i - co (eC μ a1) s i ∧ μ2 63 i = μ 63 i + co (eC μ a1) s i ∧ μ2 66 i = μ 66 i + (co (eC μ a1) s i + 9) / 10 := fun i q1 q2 => by
        rw [H2.1 62 i (by decide), H2.1 63 i (by decide), H2.1 66 i (by decide)]
        exact H1.2.2 i q1 q2
      have vM : ∀ i, 0 ≤ i → i < μ 191 0 → μ2 198 i = μ 198 i - co (eC μ a1) s i ∧ μ2 199 i = μ 199 i + co (eC μ a1) s i ∧ μ2 202 i = μ 202 i + (co (eC μ a1) s i + 9) / 10 := fun i q1 q2 => by
        have w := H2.2.2 i q1 q2
        rw [(cr i q1 q2).1, F1 198 i (by decide), F1 199 i (by decide), F1 202 i (by decide)] at w
        exact w
      have v191 : μ2 191 0 = μ 191 0 := F 191 0 (by decide)
      refine ⟨?_, R3', RDL_w hS h.2 (fun c i k1 k2 => F c i (by omega)) (fun c i k1 k2 k3 => ?_) ⟨⟨?_, fun k i k1 k2 k3 k4 => ?_, fun i k1 k2 => ?_, ?_⟩, RLb_cp h.2.1.2 (F _ _ (by omega)) (fun k i k1 k2 => F _ _ (by omega)) (F _ _ (by omega)) (fun m i k1 k2 k3 k4 => F _ _ (by omega))⟩⟩
      · rw [eb, ea, hT_cg (μ 191 0).toNat (fun j q1 q2 => eE j q1 (by omega))]
      · have n := nn_r c
        by_cases q : c = 62 ∨ c = 63 ∨ c = 66 ∨ c = 198 ∨ c = 199 ∨ c = 202
        · exact G c i (by omega)
        · exact F c i q
      · show μ2 59 7 = μ2 191 0
        rw [v191, F 59 7 (by decide)]
        exact en
      · rw [show (20 : Int) * 0 + i = i by omega]
        have old := dl_c h.2 k1 k2 k3 k4
        by_cases q : i < μ 191 0
        · have a := vC i k3 q
          have b := vM i k3 q
          rcases (show k = 2 ∨ k = 3 ∨ k = 6 ∨ (¬ k = 2 ∧ ¬ k = 3 ∧ ¬ k = 6) by omega) with rfl | rfl | rfl | hk
          · have old : μ 62 i = μ 198 i := old
            show μ2 62 i = μ2 198 i
            rw [a.1, b.1, old]
          · have old : μ 63 i = μ 199 i := old
            show μ2 63 i = μ2 199 i
            rw [a.2.1, b.2.1, old]
          · have old : μ 66 i = μ 202 i := old
            show μ2 66 i = μ2 202 i
            rw [a.2.2, b.2.2, old]
          · rw [F (58 + 2 + k) i (by omega), F (196 + k) i (by omega)]
            exact old
        · rw [G (58 + 2 + k) i (by omega), G (196 + k) i (by omega)]
          exact old
      · rw [v191] at k2
        rw [show (20 : Int) * 0 + i = i by omega]
        have old := dl_k h.2 k1 k2
        have b := vM i k1 k2
        have c := cr i k1 k2
        rw [b.1, b.2.1, b.2.2, F 197 i (by decide), F 200 i (by decide), F 203 i (by decide)]
        unfold dok at old ⊢
        omega
      · have hn := sa_mdebts hS 0
        rw [F 194 0 (by decide), v191, h.2.1.1.2.2.2]
        refine smF_cg _ (fun i q1 q2 => ?_)
        have q2 : i < μ 191 0 := by omega
        have old := dl_k h.2 q1 q2
        have b := vM i q1 q2
        have c := cr i q1 q2
        unfold dok at old
        unfold lsF
        rw [show (20 : Int) * 0 + i = i by omega, F 203 i (by decide), b.2.2]
        by_cases e : μ 203 i = 1
        · rw [if_pos e, if_pos e]
          omega
        · rw [if_neg e, if_neg e]
end HE
