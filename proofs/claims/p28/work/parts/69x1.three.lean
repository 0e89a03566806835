/-! THE THIRD RELATION: slips, spans, what could be, tables -/
def R3 (μ : qM) : Prop := R2 μ ∧ RSlip μ ∧ RSpan μ ∧ RCan μ ∧ RTab μ
section RT
variable {μ μ2 : qM}
theorem R3_c (h : R3 μ) : RC μ := ⟨h.1.1.1, h.1.1.2.2.1, h.1.1.2.2.2.2.1, h.2.1, h.2.2.1, h.2.2.2.1, h.1.2.2, h.2.2.2.2⟩
theorem R3_of (h2 : R2 μ) (c : RC μ) : R3 μ := ⟨h2, c.2.2.2.1, c.2.2.2.2.1, c.2.2.2.2.2.1, c.2.2.2.2.2.2.2⟩
def fS3 (c : Int) : Prop := (74 ≤ c ∧ c < 140 ∧ ((c - 74) % 11 = 0 ∨ (3 ≤ (c - 74) % 11 ∧ (c - 74) % 11 ≤ 8))) ∨ c = 179 ∨ c = 180
theorem R3_fr (h : R3 μ) (h2 : R2 μ2) (hT : RTab μ2) (k : ∀ c i, fS3 c → μ2 c i = μ c i) : R3 μ2 := by
  have kp : ∀ p j i, 0 ≤ p → p ≤ 5 → 3 ≤ j → j ≤ 8 → μ2 (74 + 11 * p + j) i = μ (74 + 11 * p + j) i := fun p j i q1 q2 q3 q4 => k _ _ (by unfold fS3; omega)
  have k0 : ∀ p, 0 ≤ p → p ≤ 5 → μ2 (74 + 11 * p) 10 = μ (74 + 11 * p) 10 := fun p q1 q2 => k _ _ (by unfold fS3; omega)
  refine ⟨h2, fun p f q1 q2 q3 q4 => ?_, RSpan_fr h.2.2.1 k0 (fun p j i q1 q2 q3 q4 => kp p j i q1 q2 (by omega) q4), fun p q1 q2 => ?_, hT⟩
  · rw [kp p 3 f q1 q2 (by decide) (by decide), kp p 4 f q1 q2 (by decide) (by decide), k 179 _ (by unfold fS3; omega), k 180 _ (by unfold fS3; omega)]
    exact h.2.1 p f q1 q2 q3 q4
  · have e := foC_fr2 (day := 200) (k0 p q1 q2) (fun j i q3 q4 => kp p j i q1 q2 (by omega) q4)
    have eh : hC μ2 (74 + 11 * p) 200 = hC μ (74 + 11 * p) 200 := by
      funext f
      unfold hC
      rw [e.1, kp p 3 f q1 q2 (by decide) (by decide), kp p 4 f q1 q2 (by decide) (by decide)]
    have z := h.2.2.2.1 p q1 q2
    rw [e.1, e.2, eh]
    refine ⟨z.1, fun f q3 q4 q5 => ?_⟩
    rw [kp p 3 f q1 q2 (by decide) (by decide)] at q5
    exact z.2 f q3 q4 q5
theorem R3_qr (h : R3 μ) (q : Qr μ μ2) : R3 μ2 := R3_of (R2_fr h.1 (RA_fr h.1.1 q.1 (fun c i z _ _ => q.2.2 c i (by unfold relv0 at z; omega) (by unfold relv0 at z; omega) (by unfold relv0 at z; omega))) (fun c i z => q.2.2 c i (by unfold ft at z; omega) (by unfold ft at z; omega) (by unfold ft at z; omega))) (RC_qr (R3_c h) q)
theorem R3_qs (h : R3 μ) (q : Qs μ μ2) : R3 μ2 := R3_of (R2_fr h.1 (RA_fr h.1.1 q.1.1 (fun c i z _ _ => q.2 c i (by unfold relv0 at z; omega) (by unfold relv0 at z; omega) (by unfold relv0 at z; omega) (by unfold relv0 at z; omega) (by unfold relv0 at z; omega))) (fun c i z => q.2 c i (by unfold ft at z; omega) (by unfold ft at z; omega) (by unfold ft at z; omega) (by unfold ft at z; omega) (by unfold ft at z; omega))) q.1
/-- the reference's other calls; the class's writes into debts and letters -/
theorem R3_n (h : R3 μ) (r : Sn μ μ2) : R3 μ2 := R3_fr h (R2_r h.1 (Sn_r r)) (RTab_fr h.1.1.1 h.2.2.2.2 (fun c i q => r.2 c i (by omega))) (fun c i q => r.2 c i (Or.inr (by unfold fS3 at q; unfold relv; rcases q with q | q | q <;> (first | exact Or.inl (by omega) | exact Or.inr (Or.inl (by omega)) | exact Or.inr (Or.inr (Or.inl (by omega))) | exact Or.inr (Or.inr (Or.inr (Or.inl (by omega)))) | exact Or.inr (Or.inr (Or.inr (Or.inr (Or.inl (by omega))))) | exact Or.inr (Or.inr (Or.inr (Or.inr (Or.inr (Or.inl (by omega)))))) | exact Or.inr (Or.inr (Or.inr (Or.inr (Or.inr (Or.inr (Or.inl (by omega))))))) | exact Or.inr (Or.inr (Or.inr (Or.inr (Or.inr (Or.inr (Or.inr (Or.inl (by omega)))))))) | exact Or.inr (Or.inr (Or.inr (Or.inr (Or.inr (Or.inr (Or.inr (Or.inr (Or.inl (by omega))))))))) | exact Or.inr (Or.inr (Or.inr (Or.inr (Or.inr (Or.inr (Or.inr (Or.inr (Or.inr (Or.inl (by omega)))))))))) | exact Or.inr (Or.inr (Or.inr (Or.inr (Or.inr (Or.inr (Or.inr (Or.inr (Or.inr (Or.inr (Or.inl (by omega))))))))))) | exact Or.inr (Or.inr (Or.inr (Or.inr (Or.inr (Or.inr (Or.inr (Or.inr (Or.inr (Or.inr (Or.inr (Or.inl (by omega)))))))))))) | exact Or.inr (Or.inr (Or.inr (Or.inr (Or.inr (Or.inr (Or.inr (Or.inr (Or.inr (Or.inr (Or.inr (Or.inr (Or.inl (by omega))))))))))))) | exact Or.inr (Or.inr (Or.inr (Or.inr (Or.inr (Or.inr (Or.inr (Or.inr (Or.inr (Or.inr (Or.inr (Or.inr (Or.inr (Or.inl (by omega)))))))))))))) | exact Or.inr (Or.inr (Or.inr (Or.inr (Or.inr (Or.inr (Or.inr (Or.inr (Or.inr (Or.inr (Or.inr (Or.inr (Or.inr (Or.inr (Or.inl (by omega))))))))))))))) | exact Or.inr (Or.inr (Or.inr (Or.inr (Or.inr (Or.inr (Or.inr (Or.inr (Or.inr (Or.inr (Or.inr (Or.inr (Or.inr (Or.inr (Or.inr (Or.inl (by omega)))))))))))))))) | exact Or.inr (Or.inr (Or.inr (Or.inr (Or.inr (Or.inr (Or.inr (Or.inr (Or.inr (Or.inr (Or.inr (Or.inr (Or.inr (Or.inr (Or.inr (Or.inr (Or.inl (by omega))))))))))))))))) | exact Or.inr (Or.inr (Or.inr (Or.inr (Or.inr (Or.inr (Or.inr (Or.inr (Or.inr (Or.inr (Or.inr (Or.inr (Or.inr (Or.inr (Or.inr (Or.inr (Or.inr (Or.inl (by omega)))))))))))))))))) | exact Or.inr (Or.inr (Or.inr (Or.inr (Or.inr (Or.inr (Or.inr (Or.inr (Or.inr (Or.inr (Or.inr (Or.inr (Or.inr (Or.inr (Or.inr (Or.inr (Or.inr (Or.inr (Or.inl (by omega))))))))))))))))))) | exact Or.inr (Or.inr (Or.inr (Or.inr (Or.inr (Or.inr (Or.inr (Or.inr (Or.inr (Or.inr (Or.inr (Or.inr (Or.inr (Or.inr (Or.inr (Or.inr (Or.inr (Or.inr (Or.inr (Or.inl (by omega)))))))))))))))))))) | exact Or.inr (Or.inr (Or.inr (Or.inr (Or.inr (Or.inr (Or.inr (Or.inr (Or.inr (Or.inr (Or.inr (Or.inr (Or.inr (Or.inr (Or.inr (Or.inr (Or.inr (Or.inr (Or.inr (Or.inr (Or.inl (by omega))))))))))))))))))))) | exact Or.inr (Or.inr (Or.inr (Or.inr (Or.inr (Or.inr (Or.inr (Or.inr (Or.inr (Or.inr (Or.inr (Or.inr (Or.inr (Or.inr (Or.inr (Or.inr (Or.inr (Or.inr (Or.inr (Or.inr (Or.inr (Or.inl (by omega)))))))))))))))))))))) | exact Or.inr (Or.inr (Or.inr (Or.inr (Or.inr (Or.inr (Or.inr (Or.inr (Or.inr (Or.inr (Or.inr (Or.inr (Or.inr (Or.inr (Or.inr (Or.inr (Or.inr (Or.inr (Or.inr (Or.inr (Or.inr (Or.inr (Or.inl (by omega))))))))))))))))))))))) | exact Or.inr (Or.inr (Or.inr (Or.inr (Or.inr (Or.inr (Or.inr (Or.inr (Or.inr (Or.inr (Or.inr (Or.inr (Or.inr (Or.inr (Or.inr (Or.inr (Or.inr (Or.inr (Or.inr (Or.inr (Or.inr (Or.inr (Or.inr (Or.inl (by omega)))))))))))))))))))))))) | exact Or.inr (Or.inr (Or.inr (Or.inr (Or.inr (Or.inr (Or.inr (Or.inr (Or.inr (Or.inr (Or.inr (Or.inr (Or.inr (Or.inr (Or.inr (Or.inr (Or.inr (Or.inr (Or.inr (Or.inr (Or.inr (Or.inr (Or.inr (Or.inr (Or.inl (by omega))))))))))))))))))))))))) | exact Or.inr (Or.inr (Or.inr (Or.inr (Or.inr (Or.inr (Or.inr (Or.inr (Or.inr (Or.inr (Or.inr (Or.inr (Or.inr (Or.inr (Or.inr (Or.inr (Or.inr (Or.inr (Or.inr (Or.inr (Or.inr (Or.inr (Or.inr (Or.inr (Or.inr (by omega)))))))))))))))))))))))))))))
theorem R3_d (h : R3 μ) (r : Sd μ μ2) : R3 μ2 := R3_fr h (R2_d h.1 r) (RTab_fr h.1.1.1 h.2.2.2.2 (fun c i q => r.2 c i (by omega))) (fun c i q => r.2 c i (by unfold fS3 at q; omega))
/-- the class has looked -/
theorem R3_v (h : R3 μ) (hm : Sv μ μ2) (hT : RTab μ2) : R3 μ2 := R3_fr h (R2_fr h.1 (RA_fr h.1.1 hm.1 (fun c i z _ _ => hm.2 c i (by unfold relv0 at z; omega))) (fun c i z => hm.2 c i (by unfold ft at z; omega))) hT (fun c i q => hm.2 c i (by unfold fS3 at q; omega))
theorem R3_f {W : Int → Int → Prop} (h : R3 μ) (hW : ∀ c i, (ft c i ∨ fS3 c ∨ (9 ≤ c ∧ c ≤ 53)) → ¬ W c i) (r : Rf W μ μ2) : R3 μ2 := R3_fr h (R2_f h.1 (fun c i q => hW c i (Or.inl q)) r) (RTab_fr h.1.1.1 h.2.2.2.2 (fun c i q => r.2 c i (hW c i (Or.inr (Or.inr (by omega)))))) (fun c i q => r.2 c i (hW c i (Or.inr (Or.inl q))))
theorem RTab_u (hS : Safe μ) (h : RTab μ) (k : ∀ c i, 16 ≤ c → c ≤ 53 → ¬ (c = 16 ∧ i = 4) → μ2 c i = μ c i) (e : μ2 16 4 = -2) : RTab μ2 := by
  have w1 := sa_wr hS
  refine ⟨fun j q1 s q2 q3 => ?_, ⟨?_, ?_⟩, Or.inl e⟩
  · rw [k 16 6 (by omega) (by omega) (by omega)] at q1
    rw [k _ _ (by omega) (by omega) (by omega)]
    exact h.1 j q1 s q2 q3
  · rw [k _ _ (by omega) (by omega) (by omega)]
    exact h.2.1.1
  · rw [k _ _ (by omega) (by omega) (by omega)]
    exact h.2.1.2
theorem R3_u (h : R3 μ) (h2 : R2 μ2) (u : Fu μ μ2) : R3 μ2 := by
  refine R3_fr h h2 ?_ (fun c i q => u.1 c i (by unfold fS3 at q; omega) (by unfold fS3 at q; omega) (by unfold fS3 at q; omega) (by unfold fS3 at q; omega) (by unfold fS3 at q; omega))
  rcases u.2 with e | ⟨e1, e2⟩
  · exact RTab_u h.1.1.1 h.2.2.2.2 (fun c i q1 q2 q3 => u.1 c i (by omega) q3 (by omega) (by omega) (by omega)) e
  · refine RTab_fr h.1.1.1 h.2.2.2.2 (fun c i q => ?_)
    by_cases q2 : c ≤ 14
    · exact e1 c i q.1 q2
    · by_cases q3 : c = 16 ∧ i = 4
      · rw [q3.1, q3.2]
        exact e2
      · exact u.1 c i (by omega) q3 (by omega) (by omega) (by omega)
theorem pc76 {w n : Int} (h : R3 μ) : PE R3 76 118 [(.inr (.inl (w))), (.inl (n))] μ := PE_m (p76f h.1) (fun _ r => R3_fr h r.1 (RTab_fr h.1.1.1 h.2.2.2.2 (fun c i q => r.2 c i (by omega))) (fun c i q => r.2 c i (by unfold fS3 at q; omega)))
theorem pc77 (h : R3 μ) : PE R3 77 119 [] μ := PE_m (p77f h.1) (fun _ r => R3_fr h r.1 (RTab_fr h.1.1.1 h.2.2.2.2 (fun c i q => r.2 c i (by omega))) (fun c i q => r.2 c i (by unfold fS3 at q; omega)))
theorem wc78 (h : R3 μ) : PW R3 78 129 [] μ := PW_m (w78f h.1) (fun _ r => R3_u h r.1 r.2)
theorem pc79 {a1 a2 : Int} (h : R3 μ) : PE R3 79 132 [(.inl (a1)), (.inl (a2))] μ := PE_m (p79f h.1) (fun _ e => by rw [e]; exact h)
theorem pc80 {a1 a2 a3 a4 : Int} (h : R3 μ) : PE R3 80 135 [(.inl (a1)), (.inl (a2)), (.inl (a3)), (.inl (a4))] μ := PE_m (pa80 h.1.1) (fun _ r => R3_f h (fun c i q => by unfold ft fS3 at q; unfold W80 fPay; omega) r)
theorem pc94 {a1 a2 a3 : Int} (h : R3 μ) : PE R3 94 162 [(.inl (a1)), (.inl (a2)), (.inl (a3))] μ := PE_m (pa94 h.1.1) (fun _ r => R3_f h (fun c i q => by unfold ft fS3 at q; unfold W94 fPlace; omega) r)
theorem pc97 {a1 a2 : Int} (h : R3 μ) : PE R3 97 172 [(.inl (a1)), (.inl (a2))] μ := PE_m (pa97 h.1.1) (fun _ r => R3_f h (fun c i q => by unfold ft fS3 at q; unfold W97 fLine; omega) r)
theorem pc98 (h : R3 μ) : PE R3 98 173 [] μ := PE_m (pa98 h.1.1) (fun _ r => R3_f h (fun c i q => by unfold ft fS3 at q; unfold W98 fLine rk; omega) r)
theorem pc100 {a1 : Int} (h : R3 μ) : PE R3 100 177 [(.inl (a1))] μ := p100_g h.1.1 h (fun C _ hC s K => R3_fr h (R2_fr h.1 (RA_keep h.1.1 hC s K) (fun c i q => K.1 c i (by unfold ft at q; omega) (by unfold ft at q; omega) (by unfold ft at q; omega))) (RTab_fr h.1.1.1 h.2.2.2.2 (fun c i q => K.1 c i (by omega) (by omega) (by omega))) (fun c i q => K.1 c i (by unfold fS3 at q; omega) (by unfold fS3 at q; omega) (by unfold fS3 at q; omega)))
theorem pc101 {a1 : Int} (h : R3 μ) : PE R3 101 178 [(.inl (a1))] μ := p101_g h.1.1 h (fun C _ hC s K => R3_fr h (R2_fr h.1 (RA_back h.1.1 hC s K) (fun c i q => K.1 c i (by unfold ft at q; omega) (by unfold ft at q; omega) (by unfold ft at q; omega))) (RTab_fr h.1.1.1 h.2.2.2.2 (fun c i q => K.1 c i (by omega) (by omega) (by omega))) (fun c i q => K.1 c i (by unfold fS3 at q; omega) (by unfold fS3 at q; omega) (by unfold fS3 at q; omega)))
theorem pc82 {a1 a2 a3 : Int} (h : R3 μ) : PE R3 82 143 [(.inl (a1)), (.inl (a2)), (.inl (a3))] μ := PE_m (q82 (R3_c h) h.1.1.2.1.1) (fun _ q => R3_qs h q)
theorem pc83 {a1 a2 : Int} (h : R3 μ) : PE R3 83 145 [(.inl (a1)), (.inl (a2))] μ := PE_m (q83 (R3_c h)) (fun _ q => R3_qr h q)
theorem pc84 {a1 a2 a3 : Int} (h : R3 μ) : PE R3 84 149 [(.inl (a1)), (.inl (a2)), (.inl (a3))] μ := PE_m (q84 (R3_c h)) (fun _ q => R3_qr h q)
theorem pc85 {a1 a2 : Int} (h : R3 μ) : PE R3 85 151 [(.inl (a1)), (.inl (a2))] μ := PE_m (q85 (R3_c h)) (fun _ q => R3_qr h q)
theorem pc86 {a1 a2 a3 a4 : Int} (h : R3 μ) : PE R3 86 152 [(.inl (a1)), (.inl (a2)), (.inl (a3)), (.inl (a4))] μ := PE_m (q86 (R3_c h)) (fun _ q => R3_qr h q)
theorem pc87 {a1 a2 a3 : Int} (h : R3 μ) : PE R3 87 157 [(.inl (a1)), (.inl (a2)), (.inl (a3))] μ := PE_m (q87 (R3_c h)) (fun _ q => R3_qr h q)
theorem pc88 {a1 a2 : Int} (h : R3 μ) : PE R3 88 158 [(.inl (a1)), (.inl (a2))] μ := PE_m (q88 (R3_c h)) (fun _ q => R3_qr h q)
theorem wc90 {a1 a2 a3 a4 : Int} (h : R3 μ) : PW R3 90 167 [(.inl (a1)), (.inl (a2)), (.inl (a3)), (.inl (a4))] μ := s90 (Sd_rf h.1.1.1) (fun a μ1 r1 => ⟨a, rfl, s167 (Sn_rf r1.1) (fun b μ2 r2 => ⟨b, rfl, R3_n (R3_d h r1) r2⟩)⟩)
theorem wc91 {a1 : Int} (h : R3 μ) : PW R3 91 168 [(.inl (a1))] μ := s91 (Sd_rf h.1.1.1) (fun a μ1 r1 => ⟨a, rfl, s168 (Sn_rf r1.1) (fun b μ2 r2 => ⟨b, rfl, R3_n (R3_d h r1) r2⟩)⟩)
theorem wc92 {a1 a2 : Int} (h : R3 μ) : PW R3 92 169 [(.inl (a1)), (.inl (a2))] μ := s92 (Sd_rf h.1.1.1) (fun a μ1 r1 => ⟨a, rfl, s169 (Sn_rf r1.1) (fun b μ2 r2 => ⟨b, rfl, R3_n (R3_d h r1) r2⟩)⟩)
theorem wc95 {a1 : Int} (h : R3 μ) : PW R3 95 163 [(.inl (a1))] μ := s95 (Sd_rf h.1.1.1) (fun a μ1 r1 => ⟨a, rfl, s163 (Sn_rf r1.1) (fun b μ2 r2 => ⟨b, rfl, R3_n (R3_d h r1) r2⟩)⟩)
theorem wc96 {a1 a2 : Int} (h : R3 μ) : PW R3 96 165 [(.inl (a1)), (.inl (a2))] μ := s96 (Sd_rf h.1.1.1) (fun a μ1 r1 => ⟨a, rfl, s165 (Sn_rf r1.1) (fun b μ2 r2 => ⟨b, rfl, R3_n (R3_d h r1) r2⟩)⟩)
theorem wc102 {a1 : Int} (h : R3 μ) : PW R3 102 179 [(.inl (a1))] μ := s102 (Sd_rf h.1.1.1) (fun a μ1 r1 => ⟨a, rfl, s179 (Sn_rf r1.1) (fun b μ2 r2 => ⟨b, rfl, R3_n (R3_d h r1) r2⟩)⟩)
/-- debt, right, weight: they look first -/
theorem wc89 {a1 a2 : Int} (h : R3 μ) : PW R3 89 160 [(.inl (a1)), (.inl (a2))] μ := by
  have fin : ∀ (a : Int) {μ1 : qM}, R3 μ1 → ∃ b : Int, (.inl a : qV) = .inl b ∧ qmw 20 160 [(.inr (.inr (.inl (170)))), (.inl (a1)), (.inl (a2))] μ1 (fun w μ2 => ∃ b : Int, w = .inl b ∧ R3 μ2) := fun a {μ1} h1 => ⟨a, rfl, s160 (Sn_rf h1.1.1.1) (fun b μ2 r2 => ⟨b, rfl, R3_n h1 r2⟩)⟩
  unfold PW
  rw [e89, g89_0, E105, g89_4, qbr]
  simp only [E104, g89_13, qbr2]
  refine ⟨fun _ => fin _ h, fun _ => ⟨fun _ => y109 (R3_c h) (by omega) (by omega) (fun μ1 lb ht => ?_), fun _ => fin _ h⟩⟩
  have h1 := R3_v h lb.1 ht
  rw [g89_30]
  refine ⟨by omega, s13 h1.1.1.1 (isP57 (by omega) (by omega)) (fun a => ?_)⟩
  rw [g89_44]
  refine ⟨fun _ => s25 (Sd_rf h1.1.1.1) (by omega) (by omega) (fun b μ2 h2 => ?_), fun _ => fin _ h1⟩
  rw [g89_71]
  exact fin _ (R3_d h1 h2)
theorem wc93 {a1 a2 : Int} (h : R3 μ) : PW R3 93 170 [(.inl (a1)), (.inl (a2))] μ := by
  have fin : ∀ (a : Int) {μ1 : qM}, R3 μ1 → ∃ b : Int, (.inl a : qV) = .inl b ∧ qmw 20 170 [(.inr (.inr (.inl (170)))), (.inl (a1)), (.inl (a2))] μ1 (fun w μ2 => ∃ b : Int, w = .inl b ∧ R3 μ2) := fun a {μ1} h1 => ⟨a, rfl, s170 (Sn_rf h1.1.1.1) (fun b μ2 r2 => ⟨b, rfl, R3_n h1 r2⟩)⟩
  have hd := sa_debts h.1.1.1
  have hp := sa_dp h.1.1.1 a1
  unfold PW
  rw [e93, g93_0, E107, g93_5, qbr, q32_id (by omega) (by omega)]
  simp only [E104, g93_16, qbr2]
  refine ⟨fun _ => fin _ h, fun _ => ⟨fun _ => ⟨by omega, y109 (R3_c h) (by omega) (by omega) (fun μ1 lb ht => ?_)⟩, fun _ => fin _ h⟩⟩
  have h1 := R3_v h lb.1 ht
  rw [g93_38]
  refine ⟨by omega, s11 h1.1.1.1 (fun a => ?_)⟩
  rw [g93_59]
  refine ⟨fun _ => s10 h1.1.1.1 (fun b => ?_), fun _ => fin _ h1⟩
  rw [g93_72]
  exact ⟨fun _ => fin _ h1, fun _ => fin _ h1⟩
theorem wc99 {a1 a2 a3 : Int} (h : R3 μ) : PW R3 99 174 [(.inl (a1)), (.inl (a2)), (.inl (a3))] μ := by
  have fin : ∀ (a : Int) {μ1 : qM}, R3 μ1 → ∃ b : Int, (.inl a : qV) = .inl b ∧ qmw 20 174 [(.inr (.inr (.inl (170)))), (.inl (a1)), (.inl (a2)), (.inl (a3))] μ1 (fun w μ2 => ∃ b : Int, w = .inl b ∧ R3 μ2) := fun a {μ1} h1 => ⟨a, rfl, y174 h1.1.1.1 (fun b μ2 s2 f2 => ⟨b, rfl, R3_fr h1 (R2_fr h1.1 (RA_fr h1.1.1 s2 (fun c i q q1 q2 => f2 c i q2)) (fun c i q => f2 c i (by unfold ft at q; omega))) (RTab_fr h1.1.1.1 h1.2.2.2.2 (fun c i q => f2 c i (by omega))) (fun c i q => f2 c i (by unfold fS3 at q; omega))⟩)⟩
  unfold PW
  rw [e99, g99_0, E104, g99_7, qbr]
  simp only [E105, E106, g99_14, g99_21, qbr2, qbr]
  refine ⟨fun _ => fin _ h, fun _ => ⟨fun _ => fin _ h, fun _ => ⟨fun _ => y108 (R3_c h) (by omega) (by omega) (fun μ1 lk ht => ?_), fun _ => fin _ h⟩⟩⟩
  have h1 := R3_v h lk.1 ht
  rw [g99_38]
  refine ⟨by omega, s112 (by omega) (by omega) h1.1.1.1 (isP57 (by omega) (by omega)) (by omega) (by omega) (fun a μ2 h2 e fr => ?_)⟩
  rw [g99_50]
  exact fin _ (R3_fr h1 (R2_fr h1.1 (RA_fr h1.1.1 h2 (fun c i q q1 q2 => fr c i q1)) (fun c i q => fr c i (by unfold ft at q; omega))) (RTab_fr h1.1.1.1 h1.2.2.2.2 (fun c i q => fr c i (by omega))) (fun c i q => fr c i (by unfold fS3 at q; omega)))
end RT
