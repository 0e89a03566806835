/-! counts -/
section CN
variable {μ : qM}
theorem x113 {d : Nat} {Q : qV → qM → Prop} (hS : Safe μ) (hQ : Q (.inl (smF (fun p => μ (74 + 11 * p) 10) 0 6)) μ) : qmw (d + 1) 113 [(.inr (.inr (.inl (0))))] μ Q := by
  have hr : ∀ n : Nat, n ≤ 6 → 0 ≤ smF (fun p => μ (74 + 11 * p) 10) 0 n ∧ smF (fun p => μ (74 + 11 * p) 10) 0 n ≤ n * 3 := fun n hn => smF_r n (fun i q1 q2 => by
    have hf := sa_firms hS (c := 74 + 11 * i) ⟨i, q1, by omega, rfl⟩
    exact ⟨hf.1, hf.2⟩)
  rw [e113, g113_0]
  refine qup 6 (P := fun i => ∀ a1, 0 ≤ i → a1 = smF (fun p => μ (74 + 11 * p) 10) 0 i.toNat → qW d 113 Q 4 [some (.inr (.inr (.inl (0)))), some (.inl (a1)), some (.inl (i))] [] μ) (fun i ih hB a1 h0 ea => ?_) 0 (by omega) _ (by omega) rfl
  rw [g113_4]
  refine ⟨fun q => ?_, fun q => ⟨by omega, ?_⟩⟩
  · have e6 : i = 6 := by omega
    rw [e6] at ea
    rw [ea]
    exact hQ
  · have hp := pf (c := 74 + 11 * i) ⟨i, h0, by omega, rfl⟩
    have hf := sa_firms hS (c := 74 + 11 * i) ⟨i, h0, by omega, rfl⟩
    have r := hr i.toNat (by omega)
    rw [← ea] at r
    rw [qra57 h0 (by omega)]
    simp only [hp, qif_r]
    clear hp
    rw [q32_id (z := i + 1) (by omega) (by omega), q32_id (z := a1 + μ (74 + 11 * i) 10) (by omega) (by omega)]
    refine ih _ (by omega) (by omega) _ (by omega) ?_
    rw [show (i + 1).toNat = i.toNat + 1 by omega, smF, ← ea, show (0 : Int) + ((i.toNat : Nat) : Int) = i by omega]
def slF (μ : qM) : Int → Int := fun k => if 0 ≤ μ (74 + 11 * (k / 10) + 3) (k % 10) ∧ μ (74 + 11 * (k / 10) + 4) (k % 10) ≤ 200 then 1 else 0
theorem x114 {d : Nat} {Q : qV → qM → Prop} (hQ : Q (.inl (smF (slF μ) 0 60)) μ) : qmw (d + 2) 114 [(.inr (.inr (.inl (0))))] μ Q := by
  have hr : ∀ n : Nat, 0 ≤ smF (slF μ) 0 n ∧ smF (slF μ) 0 n ≤ n * 1 := fun n => smF_r n (fun i q1 q2 => by
    unfold slF
    split <;> omega)
  rw [e114, g114_0]
  refine qup 6 (P := fun i => ∀ (a1 : Int) (o3 : Option qV), 0 ≤ i → a1 = smF (slF μ) 0 (10 * i).toNat → qW (d + 1) 114 Q 4 [some (.inr (.inr (.inl (0)))), some (.inl (a1)), some (.inl (i)), o3] [] μ) (fun i ih hB a1 o3 h0 ea => ?_) 0 (by omega) _ _ (by omega) rfl
  rw [g114_4]
  refine ⟨fun q => ?_, fun h3 => ?_⟩
  · have e6 : i = 6 := by omega
    rw [e6] at ea
    rw [ea]
    exact hQ
  · refine qup 10 (P := fun f => ∀ (a1 : Int), 0 ≤ f → a1 = smF (slF μ) 0 (10 * i + f).toNat → qW (d + 1) 114 Q 12 [some (.inr (.inr (.inl (0)))), some (.inl (a1)), some (.inl (i)), some (.inl (f))] [] μ) (fun f ih2 hB2 a1 h1 eb => ?_) 0 (by omega) _ (by omega) (by rw [Int.add_zero]; exact ea)
    rw [g114_12]
    refine ⟨fun q => ?_, fun q => ⟨by omega, ?_⟩⟩
    · rw [q32_id (z := i + 1) (by omega) (by omega)]
      refine ih _ (by omega) (by omega) _ _ (by omega) ?_
      rw [eb, show (10 * i + f).toNat = (10 * (i + 1)).toNat by omega]
    · have r := hr (10 * i + f).toNat
      rw [← eb] at r
      rw [qra57 h0 (by omega)]
      refine x45 ⟨i, h0, by omega, rfl⟩ h1 (by omega) (fun a ha => ?_)
      rw [g114_31, q32_id (z := f + 1) (by omega) (by omega), q32_id (z := a1 + 1) (by omega) (by omega)]
      have st : smF (slF μ) 0 (10 * i + (f + 1)).toNat = a1 + (if 0 ≤ μ (74 + 11 * i + 3) f ∧ μ (74 + 11 * i + 4) f ≤ 200 then 1 else 0) := by
        rw [show (10 * i + (f + 1)).toNat = (10 * i + f).toNat + 1 by omega, smF, ← eb, show (0 : Int) + (((10 * i + f).toNat : Nat) : Int) = 10 * i + f by omega]
        unfold slF
        rw [show (10 * i + f) / 10 = i by omega, show (10 * i + f) % 10 = f by omega]
      refine ⟨fun q2 => ih2 _ (by omega) (by omega) _ (by omega) ?_, fun q2 => ih2 _ (by omega) (by omega) _ (by omega) ?_⟩
      · rcases ha with ⟨-, w⟩ | ⟨w, -⟩
        · omega
        · rw [st, if_neg w, Int.add_zero]
      · rcases ha with ⟨w, -⟩ | ⟨-, w⟩
        · rw [st, if_pos w]
        · exact absurd w q2
theorem sl_eq (h : RSlip μ) : smF (slF μ) 0 60 = smF (fun k => if μ 179 k = -9 then 0 else 1) 0 60 := smF_cg _ (fun k q1 q2 => by
  have z := h (k / 10) (k % 10) (by omega) (by omega) (by omega) (by omega)
  rw [show 10 * (k / 10) + k % 10 = k by omega] at z
  unfold slF
  rcases z.1 with ⟨w1, w2⟩ | ⟨w1, w2, w3⟩
  · rw [if_pos w2, if_neg (by omega)]
  · rw [if_pos ⟨w1, z.2.2⟩, if_neg (by omega)])
theorem x30 {d : Nat} {Q : qV → qM → Prop} (hS : Safe μ) (hb : ∀ i, 0 ≤ i → i < μ 59 7 → 0 ≤ μ 63 i ∧ μ 63 i ≤ 990) (hQ : Q (.inl (smF (μ 63) 0 (μ 59 7).toNat)) μ) : qmw (d + 1) 30 [(.inr (.inr (.inl (59))))] μ Q := by
  have hd := sa_debts hS
  rw [e30, g30_0]
  refine qup (μ 59 7) (P := fun i => ∀ a1, 0 ≤ i → a1 = smF (μ 63) 0 i.toNat → qW d 30 Q 4 [some (.inr (.inr (.inl (59)))), some (.inl (a1)), some (.inl (i))] [] μ) (fun i ih hB a1 h0 ea => ?_) 0 (by omega) _ (by omega) rfl
  have r := smF_r (g := μ 63) (lo := 0) (B := 990) i.toNat (fun j q1 q2 => hb j q1 (by omega))
  rw [← ea] at r
  rw [g30_4, q32_id (z := i + 1) (by omega) (by omega)]
  refine ⟨fun q => ?_, fun q => ⟨by omega, ?_⟩⟩
  · have ei : i = μ 59 7 := by omega
    rw [ei] at ea
    rw [ea]
    exact hQ
  · have z := hb i h0 q
    rw [q32_id (z := a1 + μ 63 i) (by omega) (by omega)]
    refine ih _ (by omega) (by omega) _ (by omega) ?_
    rw [show (i + 1).toNat = i.toNat + 1 by omega, smF, ← ea, show (0 : Int) + ((i.toNat : Nat) : Int) = i by omega]
theorem x31 {d : Nat} {Q : qV → qM → Prop} (hS : Safe μ) (hb : ∀ i, 0 ≤ i → i < μ 59 7 → 0 ≤ μ 66 i ∧ μ 66 i ≤ 990) (hQ : Q (.inl (smF (μ 66) 0 (μ 59 7).toNat)) μ) : qmw (d + 1) 31 [(.inr (.inr (.inl (59))))] μ Q := by
  have hd := sa_debts hS
  rw [e31, g31_0]
  refine qup (μ 59 7) (P := fun i => ∀ a1, 0 ≤ i → a1 = smF (μ 66) 0 i.toNat → qW d 31 Q 4 [some (.inr (.inr (.inl (59)))), some (.inl (a1)), some (.inl (i))] [] μ) (fun i ih hB a1 h0 ea => ?_) 0 (by omega) _ (by omega) rfl
  have r := smF_r (g := μ 66) (lo := 0) (B := 990) i.toNat (fun j q1 q2 => hb j q1 (by omega))
  rw [← ea] at r
  rw [g31_4, q32_id (z := i + 1) (by omega) (by omega)]
  refine ⟨fun q => ?_, fun q => ⟨by omega, ?_⟩⟩
  · have ei : i = μ 59 7 := by omega
    rw [ei] at ea
    rw [ea]
    exact hQ
  · have z := hb i h0 q
    rw [q32_id (z := a1 + μ 66 i) (by omega) (by omega)]
    refine ih _ (by omega) (by omega) _ (by omega) ?_
    rw [show (i + 1).toNat = i.toNat + 1 by omega, smF, ← ea, show (0 : Int) + ((i.toNat : Nat) : Int) = i by omega]
theorem x32 {d : Nat} {Q : qV → qM → Prop} (hS : Safe μ) (hb : ∀ i, 0 ≤ i → i < μ 59 7 → 0 ≤ μ 66 i ∧ μ 66 i ≤ 990) (hQ : Q (.inl (smF (fun i => if 0 < μ 64 i then μ 66 i else 0) 0 (μ 59 7).toNat)) μ) : qmw (d + 2) 32 [(.inr (.inr (.inl (59))))] μ Q := by
  have hd := sa_debts hS
  rw [e32, g32_0]
  refine qup (μ 59 7) (P := fun i => ∀ a1, 0 ≤ i → a1 = smF (fun i => if 0 < μ 64 i then μ 66 i else 0) 0 i.toNat → qW (d + 1) 32 Q 4 [some (.inr (.inr (.inl (59)))), some (.inl (a1)), some (.inl (i))] [] μ) (fun i ih hB a1 h0 ea => ?_) 0 (by omega) _ (by omega) rfl
  have r := smF_r (g := fun i => if 0 < μ 64 i then μ 66 i else 0) (lo := 0) (B := 990) i.toNat (fun j q1 q2 => by
    have := hb j q1 (by omega)
    split <;> omega)
  rw [← ea] at r
  rw [g32_4]
  refine ⟨fun q => ?_, fun q => ?_⟩
  · have ei : i = μ 59 7 := by omega
    rw [ei] at ea
    rw [ea]
    exact hQ
  · have z := hb i h0 q
    have st : smF (fun i => if 0 < μ 64 i then μ 66 i else 0) 0 (i + 1).toNat = a1 + (if 0 < μ 64 i then μ 66 i else 0) := by
      rw [show (i + 1).toNat = i.toNat + 1 by omega, smF, ← ea, show (0 : Int) + ((i.toNat : Nat) : Int) = i by omega]
    rw [e27, g27_0]
    refine ⟨by omega, fun q2 => ⟨by decide, ?_⟩, fun q2 => ⟨by decide, ?_⟩⟩
    · rw [g32_18, q32_id (z := i + 1) (by omega) (by omega), q32_id (z := a1 + 0) (by omega) (by omega)]
      refine ⟨fun _ => ih _ (by omega) (by omega) _ (by omega) ?_, fun w => absurd rfl w⟩
      rw [st, if_neg (by omega)]
    · rw [g32_18, q32_id (z := i + 1) (by omega) (by omega), q32_id (z := a1 + μ 66 i) (by omega) (by omega)]
      refine ⟨fun w => absurd w (by decide), fun _ => ⟨by omega, ih _ (by omega) (by omega) _ (by omega) ?_⟩⟩
      rw [st, if_pos q2]
/-! the reference's sums -/
theorem k179a {d : Nat} {Q : qV → qM → Prop} {a1 : Int} (hS : Safe μ) (hQ : Q (.inl (smF (μ 181) 0 6)) μ) : qW d 179 Q 67 [some (.inr (.inr (.inl (170)))), some (.inl (a1)), some (.inl (0)), some (.inl (0))] [] μ := by
  refine qup 6 (P := fun a3 => ∀ a2, 0 ≤ a3 → a2 = smF (μ 181) 0 a3.toNat → qW d 179 Q 67 [some (.inr (.inr (.inl (170)))), some (.inl (a1)), some (.inl (a2)), some (.inl (a3))] [] μ) (fun a3 ih hB a2 h0 ea => ?_) 0 (by omega) _ (by omega) rfl
  have r := smF_r (g := μ 181) (lo := 0) (B := 3) a3.toNat (fun j q1 q2 => sa_mfirms hS j)
  have z := sa_mfirms hS a3
  rw [← ea] at r
  rw [g179_67, q32_id (z := a3 + 1) (by omega) (by omega), q32_id (z := a2 + μ 181 a3) (by omega) (by omega)]
  refine ⟨fun q => ?_, fun q => ⟨by omega, ih _ (by omega) (by omega) _ (by omega) ?_⟩⟩
  · have e6 : a3 = 6 := by omega
    rw [e6] at ea
    rw [ea]
    exact hQ
  · rw [show (a3 + 1).toNat = a3.toNat + 1 by omega, smF, ← ea, show (0 : Int) + ((a3.toNat : Nat) : Int) = a3 by omega]
theorem k179b {d : Nat} {Q : qV → qM → Prop} {a1 : Int} (hQ : Q (.inl (smF (fun k => if μ 179 k = -9 then 0 else 1) 0 60)) μ) : qW d 179 Q 92 [some (.inr (.inr (.inl (170)))), some (.inl (a1)), some (.inl (0)), some (.inl (0))] [] μ := by
  refine qup 60 (P := fun a3 => ∀ a2, 0 ≤ a3 → a2 = smF (fun k => if μ 179 k = -9 then 0 else 1) 0 a3.toNat → qW d 179 Q 92 [some (.inr (.inr (.inl (170)))), some (.inl (a1)), some (.inl (a2)), some (.inl (a3))] [] μ) (fun a3 ih hB a2 h0 ea => ?_) 0 (by omega) _ (by omega) rfl
  have r := smF_r (g := fun k => if μ 179 k = -9 then 0 else 1) (lo := 0) (B := 1) a3.toNat (fun j q1 q2 => by
    split <;> omega)
  rw [← ea] at r
  have st : smF (fun k => if μ 179 k = -9 then 0 else 1) 0 (a3 + 1).toNat = a2 + (if μ 179 a3 = -9 then 0 else 1) := by
    rw [show (a3 + 1).toNat = a3.toNat + 1 by omega, smF, ← ea, show (0 : Int) + ((a3.toNat : Nat) : Int) = a3 by omega]
  rw [g179_92, q32_id (z := a3 + 1) (by omega) (by omega), q32_id (z := a2 + 1) (by omega) (by omega), q32_id (z := a2 + 0) (by omega) (by omega)]
  refine ⟨fun q => ?_, fun q => ⟨by omega, fun q2 => ih _ (by omega) (by omega) _ (by omega) ?_, fun q2 => ih _ (by omega) (by omega) _ (by omega) ?_⟩⟩
  · have e6 : a3 = 60 := by omega
    rw [e6] at ea
    rw [ea]
    exact hQ
  · rw [st, if_neg q2]
  · rw [st, if_pos q2]
theorem k179c {d : Nat} {Q : qV → qM → Prop} {a1 : Int} (hS : Safe μ) (hb : ∀ i, 0 ≤ i → i < μ 191 0 → 0 ≤ μ 199 i ∧ μ 199 i ≤ 990) (hQ : Q (.inl (smF (μ 199) 0 (μ 191 0).toNat)) μ) : qW d 179 Q 158 [some (.inr (.inr (.inl (170)))), some (.inl (a1)), some (.inl (0)), some (.inl (0))] [] μ := by
  have hd := sa_mdebts hS 0
  refine qup (μ 191 0) (P := fun a3 => ∀ a2, 0 ≤ a3 → a2 = smF (μ 199) 0 a3.toNat → qW d 179 Q 158 [some (.inr (.inr (.inl (170)))), some (.inl (a1)), some (.inl (a2)), some (.inl (a3))] [] μ) (fun a3 ih hB a2 h0 ea => ?_) 0 (by omega) _ (by omega) rfl
  have r := smF_r (g := μ 199) (lo := 0) (B := 990) a3.toNat (fun j q1 q2 => hb j q1 (by omega))
  rw [← ea] at r
  rw [g179_158, q32_id (z := a3 + 1) (by omega) (by omega)]
  refine ⟨by decide, fun q => ?_, fun q => ⟨by omega, ?_⟩⟩
  · have ei : a3 = μ 191 0 := by omega
    rw [ei] at ea
    rw [ea]
    exact hQ
  · have z := hb a3 h0 q
    rw [q32_id (z := a2 + μ 199 a3) (by omega) (by omega)]
    refine ih _ (by omega) (by omega) _ (by omega) ?_
    rw [show (a3 + 1).toNat = a3.toNat + 1 by omega, smF, ← ea, show (0 : Int) + ((a3.toNat : Nat) : Int) = a3 by omega]
theorem k179d {d : Nat} {Q : qV → qM → Prop} {a1 : Int} (hS : Safe μ) (hb : ∀ i, 0 ≤ i → i < μ 191 0 → 0 ≤ μ 202 i ∧ μ 202 i ≤ 990) (hQ : Q (.inl (smF (μ 202) 0 (μ 191 0).toNat)) μ) : qW d 179 Q 187 [some (.inr (.inr (.inl (170)))), some (.inl (a1)), some (.inl (0)), some (.inl (0))] [] μ := by
  have hd := sa_mdebts hS 0
  refine qup (μ 191 0) (P := fun a3 => ∀ a2, 0 ≤ a3 → a2 = smF (μ 202) 0 a3.toNat → qW d 179 Q 187 [some (.inr (.inr (.inl (170)))), some (.inl (a1)), some (.inl (a2)), some (.inl (a3))] [] μ) (fun a3 ih hB a2 h0 ea => ?_) 0 (by omega) _ (by omega) rfl
  have r := smF_r (g := μ 202) (lo := 0) (B := 990) a3.toNat (fun j q1 q2 => hb j q1 (by omega))
  rw [← ea] at r
  rw [g179_187, q32_id (z := a3 + 1) (by omega) (by omega)]
  refine ⟨by decide, fun q => ?_, fun q => ⟨by omega, ?_⟩⟩
  · have ei : a3 = μ 191 0 := by omega
    rw [ei] at ea
    rw [ea]
    exact hQ
  · have z := hb a3 h0 q
    rw [q32_id (z := a2 + μ 202 a3) (by omega) (by omega)]
    refine ih _ (by omega) (by omega) _ (by omega) ?_
    rw [show (a3 + 1).toNat = a3.toNat + 1 by omega, smF, ← ea, show (0 : Int) + ((a3.toNat : Nat) : Int) = a3 by omega]
theorem pd102 {a1 : Int} (h : R4 μ) : PE R4 102 179 [(.inl (a1))] μ := by
  have hS := h.1.1.1.1
  have en := dl_n h.2
  have hd := sa_debts hS
  have hbM : ∀ i, 0 ≤ i → i < μ 191 0 → 0 ≤ μ 199 i ∧ μ 199 i ≤ 990 := fun i q1 q2 => by
    have k := dl_k h.2 q1 q2
    unfold dok at k
    omega
  have hbN : ∀ i, 0 ≤ i → i < μ 191 0 → 0 ≤ μ 202 i ∧ μ 202 i ≤ 990 := fun i q1 q2 => by
    have k := dl_k h.2 q1 q2
    unfold dok at k
    omega
  have c3 : ∀ i, 0 ≤ i → i < μ 59 7 → μ 63 i = μ 199 i := fun i q1 q2 => dl_c h.2 (k := 3) (by decide) (by decide) q1 (by omega)
  have c4 : ∀ i, 0 ≤ i → i < μ 59 7 → μ 64 i = μ 200 i := fun i q1 q2 => dl_c h.2 (k := 4) (by decide) (by decide) q1 (by omega)
  have c6 : ∀ i, 0 ≤ i → i < μ 59 7 → μ 66 i = μ 202 i := fun i q1 q2 => dl_c h.2 (k := 6) (by decide) (by decide) q1 (by omega)
  have hbH : ∀ i, 0 ≤ i → i < μ 59 7 → 0 ≤ μ 63 i ∧ μ 63 i ≤ 990 := fun i q1 q2 => by
    rw [c3 i q1 q2]
    exact hbM i q1 (by rw [← en]; exact q2)
  have hbF : ∀ i, 0 ≤ i → i < μ 59 7 → 0 ≤ μ 66 i ∧ μ 66 i ≤ 990 := fun i q1 q2 => by
    rw [c6 i q1 q2]
    exact hbN i q1 (by rw [← en]; exact q2)
  unfold PE
  rcases (show (a1 < 0 ∨ 10 < a1) ∨ a1 = 0 ∨ a1 = 1 ∨ a1 = 2 ∨ a1 = 3 ∨ a1 = 4 ∨ a1 = 5 ∨ a1 = 6 ∨ a1 = 7 ∨ a1 = 8 ∨ a1 = 9 ∨ a1 = 10 by clear c3 c4 c6 hbM hbN hbH hbF; omega) with hx | rfl | rfl | rfl | rfl | rfl | rfl | rfl | rfl | rfl | rfl | rfl
  · rw [e102, g102_0]
    refine ⟨fun _ => ⟨_, rfl, ?_⟩, fun q => absurd hx (by clear c3 c4 c6 hbM hbN hbH hbF; omega), fun q => absurd hx (by clear c3 c4 c6 hbM hbN hbH hbF; omega), fun q => absurd hx (by clear c3 c4 c6 hbM hbN hbH hbF; omega), fun q => absurd hx (by clear c3 c4 c6 hbM hbN hbH hbF; omega), fun q => absurd hx (by clear c3 c4 c6 hbM hbN hbH hbF; omega), fun q => absurd hx (by clear c3 c4 c6 hbM hbN hbH hbF; omega), fun q => absurd hx (by clear c3 c4 c6 hbM hbN hbH hbF; omega), fun q => absurd hx (by clear c3 c4 c6 hbM hbN hbH hbF; omega), fun q => absurd hx (by clear c3 c4 c6 hbM hbN hbH hbF; omega), fun q => absurd hx (by clear c3 c4 c6 hbM hbN hbH hbF; omega), fun q => absurd hx (by clear c3 c4 c6 hbM hbN hbH hbF; omega), trivial⟩
    rw [e179, g179_0]
    exact ⟨fun _ => ⟨rfl, h⟩, fun q => absurd hx (by clear c3 c4 c6 hbM hbN hbH hbF; omega), fun q => absurd hx (by clear c3 c4 c6 hbM hbN hbH hbF; omega), fun q => absurd hx (by clear c3 c4 c6 hbM hbN hbH hbF; omega), fun q => absurd hx (by clear c3 c4 c6 hbM hbN hbH hbF; omega), fun q => absurd hx (by clear c3 c4 c6 hbM hbN hbH hbF; omega), fun q => absurd hx (by clear c3 c4 c6 hbM hbN hbH hbF; omega), fun q => absurd hx (by clear c3 c4 c6 hbM hbN hbH hbF; omega), fun q => absurd hx (by clear c3 c4 c6 hbM hbN hbH hbF; omega), fun q => absurd hx (by clear c3 c4 c6 hbM hbN hbH hbF; omega), fun q => absurd hx (by clear c3 c4 c6 hbM hbN hbH hbF; omega), fun q => absurd hx (by clear c3 c4 c6 hbM hbN hbH hbF; omega), trivial⟩
  · rw [e102, g102_0]
    refine ⟨fun q => absurd q (by decide), fun _ => ⟨_, rfl, ?_⟩, fun q => absurd q (by decide), fun q => absurd q (by decide), fun q => absurd q (by decide), fun q => absurd q (by decide), fun q => absurd q (by decide), fun q => absurd q (by decide), fun q => absurd q (by decide), fun q => absurd q (by decide), fun q => absurd q (by decide), fun q => absurd q (by decide), trivial⟩
    rw [e179, g179_0]
    refine ⟨fun q => absurd q (by decide), fun _ => ⟨?_, h⟩, fun q => absurd q (by decide), fun q => absurd q (by decide), fun q => absurd q (by decide), fun q => absurd q (by decide), fun q => absurd q (by decide), fun q => absurd q (by decide), fun q => absurd q (by decide), fun q => absurd q (by decide), fun q => absurd q (by decide), fun q => absurd q (by decide), trivial⟩
    refine congrArg Sum.inl ?_
    exact h.1.1.2.2.1.symm
  · rw [e102, g102_0]
    refine ⟨fun q => absurd q (by decide), fun q => absurd q (by decide), fun _ => x113 hS ?_, fun q => absurd q (by decide), fun q => absurd q (by decide), fun q => absurd q (by decide), fun q => absurd q (by decide), fun q => absurd q (by decide), fun q => absurd q (by decide), fun q => absurd q (by decide), fun q => absurd q (by decide), fun q => absurd q (by decide), trivial⟩
    rw [g102_72]
    refine ⟨_, rfl, ?_⟩
    rw [e179, g179_0]
    refine ⟨fun q => absurd q (by decide), fun q => absurd q (by decide), fun _ => k179a hS ⟨?_, h⟩, fun q => absurd q (by decide), fun q => absurd q (by decide), fun q => absurd q (by decide), fun q => absurd q (by decide), fun q => absurd q (by decide), fun q => absurd q (by decide), fun q => absurd q (by decide), fun q => absurd q (by decide), fun q => absurd q (by decide), trivial⟩
    refine congrArg Sum.inl ?_
    exact smF_cg 6 (fun p q1 q2 => (h.1.1.1.2.2.2.2.1 p q1 (by omega)).1.symm)
  · rw [e102, g102_0]
    refine ⟨fun q => absurd q (by decide), fun q => absurd q (by decide), fun q => absurd q (by decide), fun _ => x114 ?_, fun q => absurd q (by decide), fun q => absurd q (by decide), fun q => absurd q (by decide), fun q => absurd q (by decide), fun q => absurd q (by decide), fun q => absurd q (by decide), fun q => absurd q (by decide), fun q => absurd q (by decide), trivial⟩
    rw [g102_77]
    refine ⟨_, rfl, ?_⟩
    rw [e179, g179_0]
    refine ⟨fun q => absurd q (by decide), fun q => absurd q (by decide), fun q => absurd q (by decide), fun _ => k179b ⟨?_, h⟩, fun q => absurd q (by decide), fun q => absurd q (by decide), fun q => absurd q (by decide), fun q => absurd q (by decide), fun q => absurd q (by decide), fun q => absurd q (by decide), fun q => absurd q (by decide), fun q => absurd q (by decide), trivial⟩
    refine congrArg Sum.inl ?_
    exact (sl_eq h.1.2.1).symm
  · rw [e102, g102_0]
    refine ⟨fun q => absurd q (by decide), fun q => absurd q (by decide), fun q => absurd q (by decide), fun q => absurd q (by decide), fun _ => ⟨_, rfl, ?_⟩, fun q => absurd q (by decide), fun q => absurd q (by decide), fun q => absurd q (by decide), fun q => absurd q (by decide), fun q => absurd q (by decide), fun q => absurd q (by decide), fun q => absurd q (by decide), trivial⟩
    rw [e179, g179_0]
    refine ⟨fun q => absurd q (by decide), fun q => absurd q (by decide), fun q => absurd q (by decide), fun q => absurd q (by decide), fun _ => ⟨by decide, ?_, h⟩, fun q => absurd q (by decide), fun q => absurd q (by decide), fun q => absurd q (by decide), fun q => absurd q (by decide), fun q => absurd q (by decide), fun q => absurd q (by decide), fun q => absurd q (by decide), trivial⟩
    refine congrArg Sum.inl ?_
    exact en.symm
  · rw [e102, g102_0]
    refine ⟨fun q => absurd q (by decide), fun q => absurd q (by decide), fun q => absurd q (by decide), fun q => absurd q (by decide), fun q => absurd q (by decide), fun _ => ⟨_, rfl, ?_⟩, fun q => absurd q (by decide), fun q => absurd q (by decide), fun q => absurd q (by decide), fun q => absurd q (by decide), fun q => absurd q (by decide), fun q => absurd q (by decide), trivial⟩
    rw [e179, g179_0]
    refine ⟨fun q => absurd q (by decide), fun q => absurd q (by decide), fun q => absurd q (by decide), fun q => absurd q (by decide), fun q => absurd q (by decide), fun _ => ⟨by decide, ?_, h⟩, fun q => absurd q (by decide), fun q => absurd q (by decide), fun q => absurd q (by decide), fun q => absurd q (by decide), fun q => absurd q (by decide), fun q => absurd q (by decide), trivial⟩
    refine congrArg Sum.inl ?_
    exact (dl_ln h.2).symm
  · rw [e102, g102_0]
    refine ⟨fun q => absurd q (by decide), fun q => absurd q (by decide), fun q => absurd q (by decide), fun q => absurd q (by decide), fun q => absurd q (by decide), fun q => absurd q (by decide), fun _ => ⟨_, rfl, ?_⟩, fun q => absurd q (by decide), fun q => absurd q (by decide), fun q => absurd q (by decide), fun q => absurd q (by decide), fun q => absurd q (by decide), trivial⟩
    rw [e179, g179_0]
    refine ⟨fun q => absurd q (by decide), fun q => absurd q (by decide), fun q => absurd q (by decide), fun q => absurd q (by decide), fun q => absurd q (by decide), fun q => absurd q (by decide), fun _ => ⟨by decide, ?_, h⟩, fun q => absurd q (by decide), fun q => absurd q (by decide), fun q => absurd q (by decide), fun q => absurd q (by decide), fun q => absurd q (by decide), trivial⟩
    refine congrArg Sum.inl ?_
    exact h.1.1.1.2.2.2.2.2.1.1.symm
  · rw [e102, g102_0]
    refine ⟨fun q => absurd q (by decide), fun q => absurd q (by decide), fun q => absurd q (by decide), fun q => absurd q (by decide), fun q => absurd q (by decide), fun q => absurd q (by decide), fun q => absurd q (by decide), fun _ => ⟨_, rfl, ?_⟩, fun q => absurd q (by decide), fun q => absurd q (by decide), fun q => absurd q (by decide), fun q => absurd q (by decide), trivial⟩
    rw [e179, g179_0]
    refine ⟨fun q => absurd q (by decide), fun q => absurd q (by decide), fun q => absurd q (by decide), fun q => absurd q (by decide), fun q => absurd q (by decide), fun q => absurd q (by decide), fun q => absurd q (by decide), fun _ => ⟨?_, h⟩, fun q => absurd q (by decide), fun q => absurd q (by decide), fun q => absurd q (by decide), fun q => absurd q (by decide), trivial⟩
    refine congrArg Sum.inl ?_
    exact h.1.1.1.2.1.1.symm
  · rw [e102, g102_0]
    refine ⟨fun q => absurd q (by decide), fun q => absurd q (by decide), fun q => absurd q (by decide), fun q => absurd q (by decide), fun q => absurd q (by decide), fun q => absurd q (by decide), fun q => absurd q (by decide), fun q => absurd q (by decide), fun _ => ⟨_, rfl, ?_⟩, fun q => absurd q (by decide), fun q => absurd q (by decide), fun q => absurd q (by decide), trivial⟩
    rw [e179, g179_0]
    refine ⟨fun q => absurd q (by decide), fun q => absurd q (by decide), fun q => absurd q (by decide), fun q => absurd q (by decide), fun q => absurd q (by decide), fun q => absurd q (by decide), fun q => absurd q (by decide), fun q => absurd q (by decide), fun _ => ⟨?_, h⟩, fun q => absurd q (by decide), fun q => absurd q (by decide), fun q => absurd q (by decide), trivial⟩
    refine congrArg Sum.inl ?_
    exact h.1.1.2.1.1
  · rw [e102, g102_0]
    refine ⟨fun q => absurd q (by decide), fun q => absurd q (by decide), fun q => absurd q (by decide), fun q => absurd q (by decide), fun q => absurd q (by decide), fun q => absurd q (by decide), fun q => absurd q (by decide), fun q => absurd q (by decide), fun q => absurd q (by decide), fun _ => x30 hS hbH ?_, fun q => absurd q (by decide), fun q => absurd q (by decide), trivial⟩
    rw [g102_137]
    refine ⟨_, rfl, ?_⟩
    rw [e179, g179_0]
    refine ⟨fun q => absurd q (by decide), fun q => absurd q (by decide), fun q => absurd q (by decide), fun q => absurd q (by decide), fun q => absurd q (by decide), fun q => absurd q (by decide), fun q => absurd q (by decide), fun q => absurd q (by decide), fun q => absurd q (by decide), fun _ => k179c hS hbM ⟨?_, h⟩, fun q => absurd q (by decide), fun q => absurd q (by decide), trivial⟩
    refine congrArg Sum.inl ?_
    rw [← en]
    exact (smF_cg _ (fun i q1 q2 => c3 i q1 (by omega))).symm
  · rw [e102, g102_0]
    refine ⟨fun q => absurd q (by decide), fun q => absurd q (by decide), fun q => absurd q (by decide), fun q => absurd q (by decide), fun q => absurd q (by decide), fun q => absurd q (by decide), fun q => absurd q (by decide), fun q => absurd q (by decide), fun q => absurd q (by decide), fun q => absurd q (by decide), fun _ => x31 hS hbF ?_, fun q => absurd q (by decide), trivial⟩
    rw [g102_148]
    refine ⟨_, rfl, ?_⟩
    rw [e179, g179_0]
    refine ⟨fun q => absurd q (by decide), fun q => absurd q (by decide), fun q => absurd q (by decide), fun q => absurd q (by decide), fun q => absurd q (by decide), fun q => absurd q (by decide), fun q => absurd q (by decide), fun q => absurd q (by decide), fun q => absurd q (by decide), fun q => absurd q (by decide), fun _ => k179d hS hbN ⟨?_, h⟩, fun q => absurd q (by decide), trivial⟩
    refine congrArg Sum.inl ?_
    rw [← en]
    exact (smF_cg _ (fun i q1 q2 => c6 i q1 (by omega))).symm
  · rw [e102, g102_0]
    refine ⟨fun q => absurd q (by decide), fun q => absurd q (by decide), fun q => absurd q (by decide), fun q => absurd q (by decide), fun q => absurd q (by decide), fun q => absurd q (by decide), fun q => absurd q (by decide), fun q => absurd q (by decide), fun q => absurd q (by decide), fun q => absurd q (by decide), fun q => absurd q (by decide), fun _ => x32 hS hbF ?_, trivial⟩
    rw [g102_159]
    refine ⟨_, rfl, ?_⟩
    rw [e179, g179_0]
    refine ⟨fun q => absurd q (by decide), fun q => absurd q (by decide), fun q => absurd q (by decide), fun q => absurd q (by decide), fun q => absurd q (by decide), fun q => absurd q (by decide), fun q => absurd q (by decide), fun q => absurd q (by decide), fun q => absurd q (by decide), fun q => absurd q (by decide), fun q => absurd q (by decide), fun _ => ⟨by decide, ?_, h⟩, trivial⟩
    refine congrArg Sum.inl ?_
    rw [h.2.1.1.2.2.2, ← en]
    refine (smF_cg _ (fun i q1 q2 => ?_)).symm
    show (if 0 < μ 64 i then μ 66 i else 0) = lsF μ 0 i
    have q2 : i < μ 59 7 := by omega
    have k := dl_k h.2 (i := i) q1 (by omega)
    unfold dok at k
    unfold lsF
    rw [show (20 : Int) * 0 + i = i by omega, c4 i q1 q2, c6 i q1 q2]
    by_cases e : μ 203 i = 1
    · rw [if_pos e, if_pos (by omega)]
    · rw [if_neg e, if_neg (by omega)]
end CN
