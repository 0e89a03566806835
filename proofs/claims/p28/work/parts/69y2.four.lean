/-! THE FOURTH RELATION: the calls that don't touch debts and letters; images -/
section RY
variable {μ μ2 : qM}
theorem pd76 {w n : Int} (h : R4 μ) : PE R4 76 118 [(.inr (.inl (w))), (.inl (n))] μ := PE_m (p76f h.1.1) (fun _ r => ⟨R3_fr h.1 r.1 (RTab_fr h.1.1.1.1 h.1.2.2.2.2 (fun c i q => r.2 c i (by omega))) (fun c i q => r.2 c i (by unfold fS3 at q; omega)), RDL_fr h.1.1.1.1 h.2 (fun c i q => r.2 c i (by unfold fD at q; omega))⟩)
theorem pd77 (h : R4 μ) : PE R4 77 119 [] μ := PE_m (p77f h.1.1) (fun _ r => ⟨R3_fr h.1 r.1 (RTab_fr h.1.1.1.1 h.1.2.2.2.2 (fun c i q => r.2 c i (by omega))) (fun c i q => r.2 c i (by unfold fS3 at q; omega)), RDL_fr h.1.1.1.1 h.2 (fun c i q => r.2 c i (by unfold fD at q; omega))⟩)
theorem wd78 (h : R4 μ) : PW R4 78 129 [] μ := PW_m (w78f h.1.1) (fun _ r => ⟨R3_u h.1 r.1 r.2, RDL_fr h.1.1.1.1 h.2 (fun c i q => r.2.1 c i (by unfold fD at q; omega) (by unfold fD at q; omega) (by unfold fD at q; omega) (by unfold fD at q; omega) (by unfold fD at q; omega))⟩)
theorem pd79 {a1 a2 : Int} (h : R4 μ) : PE R4 79 132 [(.inl (a1)), (.inl (a2))] μ := PE_m (p79f h.1.1) (fun _ e => by rw [e]; exact h)
theorem R4_f {W : Int → Int → Prop} (h : R4 μ) (h3 : R3 μ2) (hW : ∀ c i, fD c → ¬ W c i) (r : Rf W μ μ2) : R4 μ2 := ⟨h3, RDL_fr h.1.1.1.1 h.2 (fun c i q => r.2 c i (hW c i q))⟩
theorem pd80 {a1 a2 a3 a4 : Int} (h : R4 μ) : PE R4 80 135 [(.inl (a1)), (.inl (a2)), (.inl (a3)), (.inl (a4))] μ := PE_m (pa80 h.1.1.1) (fun _ r => R4_f h (R3_f h.1 (fun c i q => by unfold ft fS3 at q; unfold W80 fPay; omega) r) (fun c i q => by unfold fD at q; unfold W80 fPay; omega) r)
theorem pd94 {a1 a2 a3 : Int} (h : R4 μ) : PE R4 94 162 [(.inl (a1)), (.inl (a2)), (.inl (a3))] μ := PE_m (pa94 h.1.1.1) (fun _ r => R4_f h (R3_f h.1 (fun c i q => by unfold ft fS3 at q; unfold W94 fPlace; omega) r) (fun c i q => by unfold fD at q; unfold W94 fPlace; omega) r)
theorem pd97 {a1 a2 : Int} (h : R4 μ) : PE R4 97 172 [(.inl (a1)), (.inl (a2))] μ := PE_m (pa97 h.1.1.1) (fun _ r => R4_f h (R3_f h.1 (fun c i q => by unfold ft fS3 at q; unfold W97 fLine; omega) r) (fun c i q => by unfold fD at q; unfold W97 fLine; omega) r)
theorem pd98 (h : R4 μ) : PE R4 98 173 [] μ := PE_m (pa98 h.1.1.1) (fun _ r => R4_f h (R3_f h.1 (fun c i q => by unfold ft fS3 at q; unfold W98 fLine rk; omega) r) (fun c i q => by unfold fD at q; unfold W98 fLine rk; omega) r)
theorem pd81 {a1 a2 a3 a4 : Int} (h : R4 μ) : PE R4 81 137 [(.inl (a1)), (.inl (a2)), (.inl (a3)), (.inl (a4))] μ := PE_m (pa81 h.1.1.1) (fun _ r => R4_f h (R3_81 h.1 r.1 r.2) (fun c i q => by unfold fD at q; unfold W81 fFirm; omega) r.1)
theorem R4_qr (h : R4 μ) (q : Qr μ μ2) : R4 μ2 := ⟨R3_qr h.1 q, RDL_fr h.1.1.1.1 h.2 (fun c i z => q.2.2 c i (by unfold fD at z; omega) (by unfold fD at z; omega) (by unfold fD at z; omega))⟩
theorem pd82 {a1 a2 a3 : Int} (h : R4 μ) : PE R4 82 143 [(.inl (a1)), (.inl (a2)), (.inl (a3))] μ := PE_m (q82 (R3_c h.1) h.1.1.1.2.1.1) (fun _ q => ⟨R3_qs h.1 q, RDL_fr h.1.1.1.1 h.2 (fun c i z => q.2 c i (by unfold fD at z; omega) (by unfold fD at z; omega) (by unfold fD at z; omega) (by unfold fD at z; omega) (by unfold fD at z; omega))⟩)
theorem pd83 {a1 a2 : Int} (h : R4 μ) : PE R4 83 145 [(.inl (a1)), (.inl (a2))] μ := PE_m (q83 (R3_c h.1)) (fun _ q => R4_qr h q)
theorem pd84 {a1 a2 a3 : Int} (h : R4 μ) : PE R4 84 149 [(.inl (a1)), (.inl (a2)), (.inl (a3))] μ := PE_m (q84 (R3_c h.1)) (fun _ q => R4_qr h q)
theorem pd85 {a1 a2 : Int} (h : R4 μ) : PE R4 85 151 [(.inl (a1)), (.inl (a2))] μ := PE_m (q85 (R3_c h.1)) (fun _ q => R4_qr h q)
theorem pd86 {a1 a2 a3 a4 : Int} (h : R4 μ) : PE R4 86 152 [(.inl (a1)), (.inl (a2)), (.inl (a3)), (.inl (a4))] μ := PE_m (q86 (R3_c h.1)) (fun _ q => R4_qr h q)
theorem pd87 {a1 a2 a3 : Int} (h : R4 μ) : PE R4 87 157 [(.inl (a1)), (.inl (a2)), (.inl (a3))] μ := PE_m (q87 (R3_c h.1)) (fun _ q => R4_qr h q)
theorem pd88 {a1 a2 : Int} (h : R4 μ) : PE R4 88 158 [(.inl (a1)), (.inl (a2))] μ := PE_m (q88 (R3_c h.1)) (fun _ q => R4_qr h q)
theorem pd100 {a1 : Int} (h : R4 μ) : PE R4 100 177 [(.inl (a1))] μ := p100_g h.1.1.1 h (fun C _ hC s K => ⟨R3_fr h.1 (R2_fr h.1.1 (RA_keep h.1.1.1 hC s K) (fun c i q => K.1 c i (by unfold ft at q; omega) (by unfold ft at q; omega) (by unfold ft at q; omega))) (RTab_fr h.1.1.1.1 h.1.2.2.2.2 (fun c i q => K.1 c i (by omega) (by omega) (by omega))) (fun c i q => K.1 c i (by unfold fS3 at q; omega) (by unfold fS3 at q; omega) (by unfold fS3 at q; omega)), RDL_keep h.1.1.1.1 h.2 hC K⟩)
theorem pd101 {a1 : Int} (h : R4 μ) : PE R4 101 178 [(.inl (a1))] μ := p101_g h.1.1.1 h (fun C _ hC s K => ⟨R3_fr h.1 (R2_fr h.1.1 (RA_back h.1.1.1 hC s K) (fun c i q => K.1 c i (by unfold ft at q; omega) (by unfold ft at q; omega) (by unfold ft at q; omega))) (RTab_fr h.1.1.1.1 h.1.2.2.2.2 (fun c i q => K.1 c i (by omega) (by omega) (by omega))) (fun c i q => K.1 c i (by unfold fS3 at q; omega) (by unfold fS3 at q; omega) (by unfold fS3 at q; omega)), RDL_back h.1.1.1.1 h.2 hC K⟩)
/-- the class has looked; the reference has gone through -/
theorem R4_v (h : R4 μ) (hm : Sv μ μ2) (hT : RTab μ2) : R4 μ2 := ⟨R3_v h.1 hm hT, RDL_fr h.1.1.1.1 h.2 (fun c i q => hm.2 c i (by unfold fD at q; omega))⟩
theorem R4_m (h : R4 μ) (hm : Sm μ μ2) : R4 μ2 := ⟨R3_n h.1 (Sn_m (Sn_rf h.1.1.1.1) hm), RDL_fr h.1.1.1.1 h.2 (fun c i q => hm.2 c i (by unfold fD at q; omega))⟩
end RY
