/-! A NEW FIRM in the third relation -/
section NFs
variable {μ μ2 : qM}
theorem R3_81 (h : R3 μ) (r : Rf W81 μ μ2) (nf' : NF μ μ2) : R3 μ2 := by
  have h2 : R2 μ2 := R2_f h.1 (fun c i q => by unfold ft at q; unfold W81 fFirm; omega) r
  have hT : RTab μ2 := RTab_fr h.1.1.1 h.2.2.2.2 (fun c i q => r.2 c i (by unfold W81 fFirm; omega))
  have e179 : ∀ c i, c = 179 ∨ c = 180 → μ2 c i = μ c i := fun c i q => r.2 c i (by unfold W81 fFirm; omega)
  rcases nf' with same | ⟨p, a, b, s, hp, hab, hs, hfree, hn3, fr, e10, e5, e6, e7, e8⟩
  · refine R3_fr h h2 hT (fun c i q => ?_)
    unfold fS3 at q
    by_cases q2 : c = 179 ∨ c = 180
    · exact e179 c i q2
    · exact same c i (by omega) (by omega)
  · have hS := h.1.1.1
    have hS2 := h2.1.1
    have hcp : isP (74 + 11 * p) := ⟨p, hp.1, by omega, rfl⟩
    have hf := sa_firms hS hcp
    obtain ⟨-, hL, hR, hC', -⟩ := id h
    -- the old firms of this person
    have old : ∀ i, 0 ≤ i → i < μ (74 + 11 * p) 10 → μ2 (74 + 11 * p + 5) i = μ (74 + 11 * p + 5) i ∧ μ2 (74 + 11 * p + 6) i = μ (74 + 11 * p + 6) i ∧ μ2 (74 + 11 * p + 7) i = μ (74 + 11 * p + 7) i ∧ μ2 (74 + 11 * p + 8) i = μ (74 + 11 * p + 8) i := fun i q1 q2 => ⟨fr _ _ (by omega) (by omega) (by omega) (by omega), fr _ _ (by omega) (by omega) (by omega) (by omega), fr _ _ (by omega) (by omega) (by omega) (by omega), fr _ _ (by omega) (by omega) (by omega) (by omega)⟩
    have oth : ∀ q j i, 0 ≤ q → q ≤ 5 → ¬ q = p → 0 ≤ j → j ≤ 10 → μ2 (74 + 11 * q + j) i = μ (74 + 11 * q + j) i := fun q j i q1 q2 q3 q4 q5 => fr _ _ (by omega) (by omega) (by omega) (by omega)
    have oth0 : ∀ q i, 0 ≤ q → q ≤ 5 → ¬ q = p → μ2 (74 + 11 * q) i = μ (74 + 11 * q) i := fun q i q1 q2 q3 => fr _ _ (by omega) (by omega) (by omega) (by omega)
    have sl : ∀ q j f, 0 ≤ q → q ≤ 5 → (j = 3 ∨ j = 4) → μ2 (74 + 11 * q + j) f = μ (74 + 11 * q + j) f := fun q j f q1 q2 q3 => fr _ _ (by omega) (by omega) (by omega) (by omega)
    have apart : ∀ i, 0 ≤ i → i < μ (74 + 11 * p) 10 → μ (74 + 11 * p + 6) i < a ∨ b < μ (74 + 11 * p + 5) i := fun i q1 q2 => by
      have z := (hR p hp.1 hp.2).1 i q1 q2
      by_cases y : μ (74 + 11 * p + 6) i < a ∨ b < μ (74 + 11 * p + 5) i
      · exact y
      · have w : ∃ f, (a ≤ f ∧ f ≤ b) ∧ μ (74 + 11 * p + 5) i ≤ f ∧ f ≤ μ (74 + 11 * p + 6) i := by
          by_cases x : a ≤ μ (74 + 11 * p + 5) i
          · exact ⟨μ (74 + 11 * p + 5) i, by omega, by omega, by omega⟩
          · exact ⟨a, by omega, by omega, by omega⟩
        obtain ⟨f, f1, f2⟩ := w
        have x := (fo_iff hS hR (f := f) (day := 200) hp.1 hp.2 q1 q2 (by omega)).mpr f2
        have x2 : foC μ (74 + 11 * p) 200 f = -1 := hfree f f1.1 f1.2
        omega
    have hR2 : RSpan μ2 := fun q q0 q1 => by
      by_cases e : q = p
      · subst e
        refine ⟨fun i i0 i1 => ?_, fun i j i0 i1 i2 => ?_⟩
        · rw [e10] at i1
          by_cases ei : i = μ (74 + 11 * q) 10
          · rw [ei, e5, e6, e7]
            exact ⟨hab, hs, e8⟩
          · have o := old i i0 (by omega)
            rw [o.1, o.2.1, o.2.2.1, o.2.2.2]
            exact (hR q q0 q1).1 i i0 (by omega)
        · rw [e10] at i2
          have oi := old i i0 (by omega)
          by_cases ej : j = μ (74 + 11 * q) 10
          · rw [ej, e5, e6, oi.1, oi.2.1]
            exact (apart i i0 (by omega)).imp id id
          · have oj := old j (by omega) (by omega)
            rw [oi.1, oi.2.1, oj.1, oj.2.1]
            exact (hR q q0 q1).2 i j i0 i1 (by omega)
      · have z := hR q q0 q1
        refine ⟨fun i i0 i1 => ?_, fun i j i0 i1 i2 => ?_⟩
        · rw [oth0 q 10 q0 q1 e] at i1
          rw [oth q 5 i q0 q1 e (by decide) (by decide), oth q 6 i q0 q1 e (by decide) (by decide), oth q 7 i q0 q1 e (by decide) (by decide), oth q 8 i q0 q1 e (by decide) (by decide)]
          exact z.1 i i0 i1
        · rw [oth0 q 10 q0 q1 e] at i2
          rw [oth q 5 i q0 q1 e (by decide) (by decide), oth q 6 i q0 q1 e (by decide) (by decide), oth q 5 j q0 q1 e (by decide) (by decide), oth q 6 j q0 q1 e (by decide) (by decide)]
          exact z.2 i j i0 i1 i2
    refine ⟨h2, fun q f q0 q1 f0 f1 => ?_, hR2, fun q q0 q1 => ?_, hT⟩
    · rw [sl q 3 f q0 q1 (by decide), sl q 4 f q0 q1 (by decide), e179 179 _ (by decide), e179 180 _ (by decide)]
      exact hL q f q0 q1 f0 f1
    · have z := hC' q q0 q1
      by_cases e : q = p
      · subst e
        have iffo : ∀ i, 0 ≤ i → i < μ (74 + 11 * q) 10 → ∀ f, foC μ2 (74 + 11 * q) 200 f = i ↔ foC μ (74 + 11 * q) 200 f = i := fun i i0 i1 f => by
          have o := old i i0 i1
          have zi := (hR q q0 q1).1 i i0 i1
          have x := fo_iff hS2 hR2 (f := f) (day := 200) q0 q1 i0 (by rw [e10]; omega) (by rw [o.2.2.2]; omega)
          have y := fo_iff hS hR (f := f) (day := 200) q0 q1 i0 i1 (by omega)
          rw [o.1, o.2.1] at x
          exact x.trans y.symm
        have hh : ∀ i, 0 ≤ i → i < μ (74 + 11 * q) 10 → ∀ f, foC μ (74 + 11 * q) 200 f = i → hC μ2 (74 + 11 * q) 200 f = hC μ (74 + 11 * q) 200 f := fun i i0 i1 f ef => by
          have ef2 := (iffo i i0 i1 f).mpr ef
          unfold hC
          rw [ef, ef2, sl q 3 f q0 q1 (by decide), sl q 4 f q0 q1 (by decide)]
        refine ⟨fun i i0 i2 => ?_, fun f f0 f1 f2 => ?_⟩
        · rcases Int.lt_trichotomy i (μ (74 + 11 * q) 10) with li | li | li
          · have o := old i i0 li
            have zi := (hR q q0 q1).1 i i0 li
            have es : SxC μ2 (74 + 11 * q) 200 i = SxC μ (74 + 11 * q) 200 i := by
              unfold SxC
              rw [if_pos ⟨by rw [e10]; omega, by rw [o.2.2.2]; omega⟩, if_pos ⟨li, by omega⟩, o.2.2.1]
            have e1 : sh (foC μ2 (74 + 11 * q) 200) (hC μ2 (74 + 11 * q) 200) i = sh (foC μ (74 + 11 * q) 200) (hC μ (74 + 11 * q) 200) i := smF_cg _ (fun f _ _ => by
              by_cases y : foC μ (74 + 11 * q) 200 f = i
              · rw [hh i i0 li f y, y, (iffo i i0 li f).mpr y]
              · rw [if_neg (fun x => y ((iffo i i0 li f).mp x.1)), if_neg (fun x => y x.1)])
            have e2 : nl (foC μ2 (74 + 11 * q) 200) (hC μ2 (74 + 11 * q) 200) i = nl (foC μ (74 + 11 * q) 200) (hC μ (74 + 11 * q) 200) i := smF_cg _ (fun f _ _ => by
              by_cases y : foC μ (74 + 11 * q) 200 f = i
              · rw [hh i i0 li f y, y, (iffo i i0 li f).mpr y]
              · rw [if_neg (fun x => y ((iffo i i0 li f).mp x.1)), if_neg (fun x => y x.1)])
            rw [es, e1, e2]
            exact z.1 i i0 i2
          · have fi : ∀ f, 0 ≤ f → f ≤ 9 → (foC μ2 (74 + 11 * q) 200 f = i ↔ (a ≤ f ∧ f ≤ b)) := fun f _ _ => by
              have x := fo_iff hS2 hR2 (f := f) (day := 200) (i := i) q0 q1 i0 (by rw [e10]; omega) (by rw [li]; exact e8)
              rw [li, e5, e6, ← li] at x
              exact x
            have n9 : ∀ f, a ≤ f → f ≤ b → hC μ2 (74 + 11 * q) 200 f = -9 := fun f f1 f2 => by
              have x2 : foC μ (74 + 11 * q) 200 f = -1 := hfree f f1 f2
              unfold hC
              rw [sl q 3 f q0 q1 (by decide)]
              refine if_neg (fun y => ?_)
              have := z.2 f (by omega) (by omega) y.2.1
              omega
            have sm := in_sp (h := hC μ2 (74 + 11 * q) 200) hab.1 hab.2.1 hab.2.2 fi
            have e1 : sh (foC μ2 (74 + 11 * q) 200) (hC μ2 (74 + 11 * q) 200) i = 0 := sm.1.trans (smF_0 _ (fun f f1 f2 => if_pos (n9 f f1 (by omega))))
            have e2 : nl (foC μ2 (74 + 11 * q) 200) (hC μ2 (74 + 11 * q) 200) i = b - a + 1 := by
              rw [sm.2, smF_cg (g' := fun _ => 1) _ (fun f f1 f2 => if_pos (n9 f f1 (by omega))), smF_one]
              omega
            have es : SxC μ2 (74 + 11 * q) 200 i = s := by
              unfold SxC
              rw [if_pos ⟨by rw [e10]; omega, by rw [li]; exact e8⟩, li]
              exact e7
            rw [e1, e2, es]
            omega
          · have nn := no_i (fo := foC μ2 (74 + 11 * q) 200) (h := hC μ2 (74 + 11 * q) 200) (du := fun x => x) (told := fun x => x) (i := i) (fun f _ _ => fo_no hS2 (f := f) q0 q1 i0 (fun y => by rw [e10] at y; omega))
            have es : SxC μ2 (74 + 11 * q) 200 i = 0 := by
              unfold SxC
              rw [if_neg (fun y => by rw [e10] at y; omega)]
            rw [nn.1, nn.2.1, es]
            exact ⟨by decide, by decide⟩
        · rw [sl q 3 f q0 q1 (by decide)] at f2
          have y := z.2 f f0 f1 f2
          have w := fo_hit hS q0 q1 y
          rw [(iffo (foC μ (74 + 11 * q) 200 f) y w.1 f).mpr rfl]
          exact y
      · have k9 : ∀ j i, 0 ≤ j → j ≤ 10 → μ2 (74 + 11 * q + j) i = μ (74 + 11 * q + j) i := fun j i j0 j1 => oth q j i q0 q1 e j0 j1
        have c := foC_fr (day := 200) k9
        rw [c.1, c.2.1, c.2.2.2]
        refine ⟨z.1, fun f f0 f1 f2 => ?_⟩
        rw [k9 3 f (by decide) (by decide)] at f2
        exact z.2 f f0 f1 f2
theorem pc81 {a1 a2 a3 a4 : Int} (h : R3 μ) : PE R3 81 137 [(.inl (a1)), (.inl (a2)), (.inl (a3)), (.inl (a4))] μ := PE_m (pa81 h.1.1) (fun _ r => R3_81 h r.1 r.2)
end NFs
