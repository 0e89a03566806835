/-! THE LAW'S LOOP: DAYS AND IMAGES ARE EQUAL -/
def LT (μ : qM) : Prop := Safe μ ∧ (μ 58 3 = μ 170 1 ∧ μ 140 3 = μ 195 1 ∧ μ 155 3 = μ 195 2 ∧ μ 140 4 = μ 209 0 ∧ μ 155 4 = μ 209 1)
theorem LT_h {μ0 μ : qM} (h0 : LT μ0) (h : Sh μ0 μ) : LT μ := by
  refine ⟨h.1, ?_⟩
  rw [h.2 58 3 (by unfold rk; omega), h.2 170 1 (by unfold rk; omega), h.2 140 3 (by unfold rk; omega), h.2 195 1 (by unfold rk; omega), h.2 155 3 (by unfold rk; omega), h.2 195 2 (by unfold rk; omega), h.2 140 4 (by unfold rk; omega), h.2 209 0 (by unfold rk; omega), h.2 155 4 (by unfold rk; omega), h.2 209 1 (by unfold rk; omega)]
  exact h0.2
theorem q73_0 : qra 73 0 = 140 := by decide +kernel
theorem q73_1 : qra 73 1 = 155 := by decide +kernel
section LO
variable {L : Int} {S : Int → Int} {i : Int} {μ : qM} {Q : qV → qM → Prop}
abbrev LWQ : qV → qM → Prop := fun v _ => v = .inl 1
abbrev LNx (L : Int) (S : Int → Int) (i : Int) : Prop := ∀ ν, LT ν → qlw (some (L, S)) LWQ 18 [some (.inr (.inr (.inr 0))), some (.inr (.inr (.inl 0))), some (.inr (.inr (.inl 170))), some (.inl (i + 5))] [] ν
theorem lnx (h0 : 0 ≤ i) (h1 : i + 5 ≤ L) (hL : L ≤ 100000) (nx : LNx L S i) (h : LT μ) : qlw (some (L, S)) LWQ 1114 [some (.inr (.inr (.inr 0))), some (.inr (.inr (.inl 0))), some (.inr (.inr (.inl 170))), some (.inl i)] [] μ := by
  rw [lq_1114, q32_id (by omega) (by omega)]
  exact nx _ h
theorem l160 (h0 : 0 ≤ i) (h1 : i + 5 ≤ L) (hL : L ≤ 100000) (nx : LNx L S i) (h : LT μ) : qlw (some (L, S)) LWQ 160 [some (.inr (.inr (.inr 0))), some (.inr (.inr (.inl 0))), some (.inr (.inr (.inl 170))), some (.inl i)] [] μ := by
  have n3 : ¬ (0 : Nat) = 3 := by decide
  have f : ∀ k : Int, 1 ≤ k → k ≤ 4 → 0 ≤ q32 (i + k) ∧ q32 (i + k) < L := fun k q1 q2 => by
    rw [q32_id (by omega) (by omega)]
    omega
  rw [lq_160]
  refine ⟨n3, f 1 (by omega) (by omega), n3, f 2 (by omega) (by omega), n3, f 3 (by omega) (by omega), s76 (Sr_rf h.1) (fun a1 μ1 r1 => ?_)⟩
  have t1 := LT_h h (Sh_r r1)
  rw [lq_189]
  refine ⟨n3, f 1 (by omega) (by omega), n3, f 2 (by omega) (by omega), n3, f 3 (by omega) (by omega), s118 (Sr_rf t1.1) (fun a2 μ2 r2 => ?_)⟩
  rw [lq_219]
  exact lnx h0 h1 hL nx (LT_h t1 (Sh_r r2))
theorem l223 (h0 : 0 ≤ i) (h1 : i + 5 ≤ L) (hL : L ≤ 100000) (nx : LNx L S i) (h : LT μ) : qlw (some (L, S)) LWQ 223 [some (.inr (.inr (.inr 0))), some (.inr (.inr (.inl 0))), some (.inr (.inr (.inl 170))), some (.inl i)] [] μ := by
  have n3 : ¬ (0 : Nat) = 3 := by decide
  have f : ∀ k : Int, 1 ≤ k → k ≤ 4 → 0 ≤ q32 (i + k) ∧ q32 (i + k) < L := fun k q1 q2 => by
    rw [q32_id (by omega) (by omega)]
    omega
  rw [lq_223]
  refine s77 (Sr_rf h.1) (fun a1 μ1 r1 => ?_)
  have t1 := LT_h h (Sh_r r1)
  rw [lq_227]
  refine s119 (Sr_rf t1.1) (fun a2 μ2 r2 => ?_)
  rw [lq_232]
  exact lnx h0 h1 hL nx (LT_h t1 (Sh_r r2))
theorem l236 (h0 : 0 ≤ i) (h1 : i + 5 ≤ L) (hL : L ≤ 100000) (nx : LNx L S i) (h : LT μ) : qlw (some (L, S)) LWQ 236 [some (.inr (.inr (.inr 0))), some (.inr (.inr (.inl 0))), some (.inr (.inr (.inl 170))), some (.inl i)] [] μ := by
  have n3 : ¬ (0 : Nat) = 3 := by decide
  have f : ∀ k : Int, 1 ≤ k → k ≤ 4 → 0 ≤ q32 (i + k) ∧ q32 (i + k) < L := fun k q1 q2 => by
    rw [q32_id (by omega) (by omega)]
    omega
  rw [lq_236]
  refine s78 (Sr_rf h.1) (fun a1 μ1 r1 => ?_)
  have t1 := LT_h h (Sh_r r1)
  rw [lq_240]
  refine s129 (Sr_rf t1.1) (fun a2 μ2 r2 => ?_)
  rw [lq_245]
  exact lnx h0 h1 hL nx (LT_h t1 (Sh_r r2))
theorem l249 (h0 : 0 ≤ i) (h1 : i + 5 ≤ L) (hL : L ≤ 100000) (nx : LNx L S i) (h : LT μ) : qlw (some (L, S)) LWQ 249 [some (.inr (.inr (.inr 0))), some (.inr (.inr (.inl 0))), some (.inr (.inr (.inl 170))), some (.inl i)] [] μ := by
  have n3 : ¬ (0 : Nat) = 3 := by decide
  have f : ∀ k : Int, 1 ≤ k → k ≤ 4 → 0 ≤ q32 (i + k) ∧ q32 (i + k) < L := fun k q1 q2 => by
    rw [q32_id (by omega) (by omega)]
    omega
  rw [lq_249]
  refine ⟨n3, f 1 (by omega) (by omega), n3, f 2 (by omega) (by omega), s79 (Sr_rf h.1) (fun a1 μ1 r1 => ?_)⟩
  have t1 := LT_h h (Sh_r r1)
  rw [lq_263]
  refine ⟨n3, f 1 (by omega) (by omega), n3, f 2 (by omega) (by omega), s132 (Sr_rf t1.1) (fun a2 μ2 r2 => ?_)⟩
  rw [lq_278]
  exact lnx h0 h1 hL nx (LT_h t1 (Sh_r r2))
theorem l282 (h0 : 0 ≤ i) (h1 : i + 5 ≤ L) (hL : L ≤ 100000) (nx : LNx L S i) (h : LT μ) : qlw (some (L, S)) LWQ 282 [some (.inr (.inr (.inr 0))), some (.inr (.inr (.inl 0))), some (.inr (.inr (.inl 170))), some (.inl i)] [] μ := by
  have n3 : ¬ (0 : Nat) = 3 := by decide
  have f : ∀ k : Int, 1 ≤ k → k ≤ 4 → 0 ≤ q32 (i + k) ∧ q32 (i + k) < L := fun k q1 q2 => by
    rw [q32_id (by omega) (by omega)]
    omega
  rw [lq_282]
  refine ⟨n3, f 1 (by omega) (by omega), n3, f 2 (by omega) (by omega), n3, f 3 (by omega) (by omega), n3, f 4 (by omega) (by omega), h80 (Sh_rf h.1) (fun a1 μ1 r1 => ?_)⟩
  have t1 := LT_h h (r1)
  rw [lq_306]
  refine ⟨n3, f 1 (by omega) (by omega), n3, f 2 (by omega) (by omega), n3, f 3 (by omega) (by omega), n3, f 4 (by omega) (by omega), h135 (Sh_rf t1.1) (fun a2 μ2 r2 => ?_)⟩
  rw [lq_331]
  exact lnx h0 h1 hL nx (LT_h t1 (r2))
theorem l335 (h0 : 0 ≤ i) (h1 : i + 5 ≤ L) (hL : L ≤ 100000) (nx : LNx L S i) (h : LT μ) : qlw (some (L, S)) LWQ 335 [some (.inr (.inr (.inr 0))), some (.inr (.inr (.inl 0))), some (.inr (.inr (.inl 170))), some (.inl i)] [] μ := by
  have n3 : ¬ (0 : Nat) = 3 := by decide
  have f : ∀ k : Int, 1 ≤ k → k ≤ 4 → 0 ≤ q32 (i + k) ∧ q32 (i + k) < L := fun k q1 q2 => by
    rw [q32_id (by omega) (by omega)]
    omega
  rw [lq_335]
  refine ⟨n3, f 1 (by omega) (by omega), n3, f 2 (by omega) (by omega), n3, f 3 (by omega) (by omega), n3, f 4 (by omega) (by omega), h81 (Sh_rf h.1) (fun a1 μ1 r1 => ?_)⟩
  have t1 := LT_h h (r1)
  rw [lq_359]
  refine ⟨n3, f 1 (by omega) (by omega), n3, f 2 (by omega) (by omega), n3, f 3 (by omega) (by omega), n3, f 4 (by omega) (by omega), h137 (Sh_rf t1.1) (fun a2 μ2 r2 => ?_)⟩
  rw [lq_384]
  exact lnx h0 h1 hL nx (LT_h t1 (r2))
theorem l388 (h0 : 0 ≤ i) (h1 : i + 5 ≤ L) (hL : L ≤ 100000) (nx : LNx L S i) (h : LT μ) : qlw (some (L, S)) LWQ 388 [some (.inr (.inr (.inr 0))), some (.inr (.inr (.inl 0))), some (.inr (.inr (.inl 170))), some (.inl i)] [] μ := by
  have n3 : ¬ (0 : Nat) = 3 := by decide
  have f : ∀ k : Int, 1 ≤ k → k ≤ 4 → 0 ≤ q32 (i + k) ∧ q32 (i + k) < L := fun k q1 q2 => by
    rw [q32_id (by omega) (by omega)]
    omega
  rw [lq_388]
  refine ⟨n3, f 1 (by omega) (by omega), n3, f 2 (by omega) (by omega), n3, f 3 (by omega) (by omega), s82 (Sr_rf h.1) (fun a1 μ1 r1 => ?_)⟩
  have t1 := LT_h h (Sh_r r1)
  rw [lq_407]
  refine ⟨n3, f 1 (by omega) (by omega), n3, f 2 (by omega) (by omega), n3, f 3 (by omega) (by omega), s143 (Sr_rf t1.1) (fun a2 μ2 r2 => ?_)⟩
  rw [lq_427]
  exact lnx h0 h1 hL nx (LT_h t1 (Sh_r r2))
theorem l431 (h0 : 0 ≤ i) (h1 : i + 5 ≤ L) (hL : L ≤ 100000) (nx : LNx L S i) (h : LT μ) : qlw (some (L, S)) LWQ 431 [some (.inr (.inr (.inr 0))), some (.inr (.inr (.inl 0))), some (.inr (.inr (.inl 170))), some (.inl i)] [] μ := by
  have n3 : ¬ (0 : Nat) = 3 := by decide
  have f : ∀ k : Int, 1 ≤ k → k ≤ 4 → 0 ≤ q32 (i + k) ∧ q32 (i + k) < L := fun k q1 q2 => by
    rw [q32_id (by omega) (by omega)]
    omega
  rw [lq_431]
  refine ⟨n3, f 1 (by omega) (by omega), n3, f 2 (by omega) (by omega), s83 (Sr_rf h.1) (fun a1 μ1 r1 => ?_)⟩
  have t1 := LT_h h (Sh_r r1)
  rw [lq_445]
  refine ⟨n3, f 1 (by omega) (by omega), n3, f 2 (by omega) (by omega), s145 (Sr_rf t1.1) (fun a2 μ2 r2 => ?_)⟩
  rw [lq_460]
  exact lnx h0 h1 hL nx (LT_h t1 (Sh_r r2))
theorem l464 (h0 : 0 ≤ i) (h1 : i + 5 ≤ L) (hL : L ≤ 100000) (nx : LNx L S i) (h : LT μ) : qlw (some (L, S)) LWQ 464 [some (.inr (.inr (.inr 0))), some (.inr (.inr (.inl 0))), some (.inr (.inr (.inl 170))), some (.inl i)] [] μ := by
  have n3 : ¬ (0 : Nat) = 3 := by decide
  have f : ∀ k : Int, 1 ≤ k → k ≤ 4 → 0 ≤ q32 (i + k) ∧ q32 (i + k) < L := fun k q1 q2 => by
    rw [q32_id (by omega) (by omega)]
    omega
  rw [lq_464]
  refine ⟨n3, f 1 (by omega) (by omega), n3, f 2 (by omega) (by omega), n3, f 3 (by omega) (by omega), s84 (Sr_rf h.1) (fun a1 μ1 r1 => ?_)⟩
  have t1 := LT_h h (Sh_r r1)
  rw [lq_483]
  refine ⟨n3, f 1 (by omega) (by omega), n3, f 2 (by omega) (by omega), n3, f 3 (by omega) (by omega), s149 (Sr_rf t1.1) (fun a2 μ2 r2 => ?_)⟩
  rw [lq_503]
  exact lnx h0 h1 hL nx (LT_h t1 (Sh_r r2))
theorem l507 (h0 : 0 ≤ i) (h1 : i + 5 ≤ L) (hL : L ≤ 100000) (nx : LNx L S i) (h : LT μ) : qlw (some (L, S)) LWQ 507 [some (.inr (.inr (.inr 0))), some (.inr (.inr (.inl 0))), some (.inr (.inr (.inl 170))), some (.inl i)] [] μ := by
  have n3 : ¬ (0 : Nat) = 3 := by decide
  have f : ∀ k : Int, 1 ≤ k → k ≤ 4 → 0 ≤ q32 (i + k) ∧ q32 (i + k) < L := fun k q1 q2 => by
    rw [q32_id (by omega) (by omega)]
    omega
  rw [lq_507]
  refine ⟨n3, f 1 (by omega) (by omega), n3, f 2 (by omega) (by omega), s85 (Sr_rf h.1) (fun a1 μ1 r1 => ?_)⟩
  have t1 := LT_h h (Sh_r r1)
  rw [lq_521]
  refine ⟨n3, f 1 (by omega) (by omega), n3, f 2 (by omega) (by omega), s151 (Sr_rf t1.1) (fun a2 μ2 r2 => ?_)⟩
  rw [lq_536]
  exact lnx h0 h1 hL nx (LT_h t1 (Sh_r r2))
theorem l540 (h0 : 0 ≤ i) (h1 : i + 5 ≤ L) (hL : L ≤ 100000) (nx : LNx L S i) (h : LT μ) : qlw (some (L, S)) LWQ 540 [some (.inr (.inr (.inr 0))), some (.inr (.inr (.inl 0))), some (.inr (.inr (.inl 170))), some (.inl i)] [] μ := by
  have n3 : ¬ (0 : Nat) = 3 := by decide
  have f : ∀ k : Int, 1 ≤ k → k ≤ 4 → 0 ≤ q32 (i + k) ∧ q32 (i + k) < L := fun k q1 q2 => by
    rw [q32_id (by omega) (by omega)]
    omega
  rw [lq_540]
  refine ⟨n3, f 1 (by omega) (by omega), n3, f 2 (by omega) (by omega), n3, f 3 (by omega) (by omega), n3, f 4 (by omega) (by omega), s86 (Sr_rf h.1) (fun a1 μ1 r1 => ?_)⟩
  have t1 := LT_h h (Sh_r r1)
  rw [lq_564]
  refine ⟨n3, f 1 (by omega) (by omega), n3, f 2 (by omega) (by omega), n3, f 3 (by omega) (by omega), n3, f 4 (by omega) (by omega), s152 (Sr_rf t1.1) (fun a2 μ2 r2 => ?_)⟩
  rw [lq_589]
  exact lnx h0 h1 hL nx (LT_h t1 (Sh_r r2))
theorem l593 (h0 : 0 ≤ i) (h1 : i + 5 ≤ L) (hL : L ≤ 100000) (nx : LNx L S i) (h : LT μ) : qlw (some (L, S)) LWQ 593 [some (.inr (.inr (.inr 0))), some (.inr (.inr (.inl 0))), some (.inr (.inr (.inl 170))), some (.inl i)] [] μ := by
  have n3 : ¬ (0 : Nat) = 3 := by decide
  have f : ∀ k : Int, 1 ≤ k → k ≤ 4 → 0 ≤ q32 (i + k) ∧ q32 (i + k) < L := fun k q1 q2 => by
    rw [q32_id (by omega) (by omega)]
    omega
  rw [lq_593]
  refine ⟨n3, f 1 (by omega) (by omega), n3, f 2 (by omega) (by omega), n3, f 3 (by omega) (by omega), s87 (Sr_rf h.1) (fun a1 μ1 r1 => ?_)⟩
  have t1 := LT_h h (Sh_r r1)
  rw [lq_612]
  refine ⟨n3, f 1 (by omega) (by omega), n3, f 2 (by omega) (by omega), n3, f 3 (by omega) (by omega), s157 (Sr_rf t1.1) (fun a2 μ2 r2 => ?_)⟩
  rw [lq_632]
  exact lnx h0 h1 hL nx (LT_h t1 (Sh_r r2))
theorem l636 (h0 : 0 ≤ i) (h1 : i + 5 ≤ L) (hL : L ≤ 100000) (nx : LNx L S i) (h : LT μ) : qlw (some (L, S)) LWQ 636 [some (.inr (.inr (.inr 0))), some (.inr (.inr (.inl 0))), some (.inr (.inr (.inl 170))), some (.inl i)] [] μ := by
  have n3 : ¬ (0 : Nat) = 3 := by decide
  have f : ∀ k : Int, 1 ≤ k → k ≤ 4 → 0 ≤ q32 (i + k) ∧ q32 (i + k) < L := fun k q1 q2 => by
    rw [q32_id (by omega) (by omega)]
    omega
  rw [lq_636]
  refine ⟨n3, f 1 (by omega) (by omega), n3, f 2 (by omega) (by omega), s88 (Sr_rf h.1) (fun a1 μ1 r1 => ?_)⟩
  have t1 := LT_h h (Sh_r r1)
  rw [lq_650]
  refine ⟨n3, f 1 (by omega) (by omega), n3, f 2 (by omega) (by omega), s158 (Sr_rf t1.1) (fun a2 μ2 r2 => ?_)⟩
  rw [lq_665]
  exact lnx h0 h1 hL nx (LT_h t1 (Sh_r r2))
theorem l669 (h0 : 0 ≤ i) (h1 : i + 5 ≤ L) (hL : L ≤ 100000) (nx : LNx L S i) (h : LT μ) : qlw (some (L, S)) LWQ 669 [some (.inr (.inr (.inr 0))), some (.inr (.inr (.inl 0))), some (.inr (.inr (.inl 170))), some (.inl i)] [] μ := by
  have n3 : ¬ (0 : Nat) = 3 := by decide
  have f : ∀ k : Int, 1 ≤ k → k ≤ 4 → 0 ≤ q32 (i + k) ∧ q32 (i + k) < L := fun k q1 q2 => by
    rw [q32_id (by omega) (by omega)]
    omega
  rw [lq_669]
  refine ⟨n3, f 1 (by omega) (by omega), n3, f 2 (by omega) (by omega), s89 (Sr_rf h.1) (fun a1 μ1 r1 => ?_)⟩
  have t1 := LT_h h (Sh_r r1)
  rw [lq_683]
  refine ⟨n3, f 1 (by omega) (by omega), n3, f 2 (by omega) (by omega), s160 (Sr_rf t1.1) (fun a2 μ2 r2 => ?_)⟩
  rw [lq_698]
  exact lnx h0 h1 hL nx (LT_h t1 (Sh_r r2))
theorem l702 (h0 : 0 ≤ i) (h1 : i + 5 ≤ L) (hL : L ≤ 100000) (nx : LNx L S i) (h : LT μ) : qlw (some (L, S)) LWQ 702 [some (.inr (.inr (.inr 0))), some (.inr (.inr (.inl 0))), some (.inr (.inr (.inl 170))), some (.inl i)] [] μ := by
  have n3 : ¬ (0 : Nat) = 3 := by decide
  have f : ∀ k : Int, 1 ≤ k → k ≤ 4 → 0 ≤ q32 (i + k) ∧ q32 (i + k) < L := fun k q1 q2 => by
    rw [q32_id (by omega) (by omega)]
    omega
  rw [lq_702]
  refine ⟨n3, f 1 (by omega) (by omega), n3, f 2 (by omega) (by omega), n3, f 3 (by omega) (by omega), n3, f 4 (by omega) (by omega), s90 (Sr_rf h.1) (fun a1 μ1 r1 => ?_)⟩
  have t1 := LT_h h (Sh_r r1)
  rw [lq_726]
  refine ⟨n3, f 1 (by omega) (by omega), n3, f 2 (by omega) (by omega), n3, f 3 (by omega) (by omega), n3, f 4 (by omega) (by omega), s167 (Sr_rf t1.1) (fun a2 μ2 r2 => ?_)⟩
  rw [lq_751]
  exact lnx h0 h1 hL nx (LT_h t1 (Sh_r r2))
theorem l755 (h0 : 0 ≤ i) (h1 : i + 5 ≤ L) (hL : L ≤ 100000) (nx : LNx L S i) (h : LT μ) : qlw (some (L, S)) LWQ 755 [some (.inr (.inr (.inr 0))), some (.inr (.inr (.inl 0))), some (.inr (.inr (.inl 170))), some (.inl i)] [] μ := by
  have n3 : ¬ (0 : Nat) = 3 := by decide
  have f : ∀ k : Int, 1 ≤ k → k ≤ 4 → 0 ≤ q32 (i + k) ∧ q32 (i + k) < L := fun k q1 q2 => by
    rw [q32_id (by omega) (by omega)]
    omega
  rw [lq_755]
  refine ⟨n3, f 1 (by omega) (by omega), s91 (Sr_rf h.1) (fun a1 μ1 r1 => ?_)⟩
  have t1 := LT_h h (Sh_r r1)
  rw [lq_764]
  refine ⟨n3, f 1 (by omega) (by omega), s168 (Sr_rf t1.1) (fun a2 μ2 r2 => ?_)⟩
  rw [lq_774]
  exact lnx h0 h1 hL nx (LT_h t1 (Sh_r r2))
theorem l778 (h0 : 0 ≤ i) (h1 : i + 5 ≤ L) (hL : L ≤ 100000) (nx : LNx L S i) (h : LT μ) : qlw (some (L, S)) LWQ 778 [some (.inr (.inr (.inr 0))), some (.inr (.inr (.inl 0))), some (.inr (.inr (.inl 170))), some (.inl i)] [] μ := by
  have n3 : ¬ (0 : Nat) = 3 := by decide
  have f : ∀ k : Int, 1 ≤ k → k ≤ 4 → 0 ≤ q32 (i + k) ∧ q32 (i + k) < L := fun k q1 q2 => by
    rw [q32_id (by omega) (by omega)]
    omega
  rw [lq_778]
  refine ⟨n3, f 1 (by omega) (by omega), n3, f 2 (by omega) (by omega), s92 (Sr_rf h.1) (fun a1 μ1 r1 => ?_)⟩
  have t1 := LT_h h (Sh_r r1)
  rw [lq_792]
  refine ⟨n3, f 1 (by omega) (by omega), n3, f 2 (by omega) (by omega), s169 (Sr_rf t1.1) (fun a2 μ2 r2 => ?_)⟩
  rw [lq_807]
  exact lnx h0 h1 hL nx (LT_h t1 (Sh_r r2))
theorem l811 (h0 : 0 ≤ i) (h1 : i + 5 ≤ L) (hL : L ≤ 100000) (nx : LNx L S i) (h : LT μ) : qlw (some (L, S)) LWQ 811 [some (.inr (.inr (.inr 0))), some (.inr (.inr (.inl 0))), some (.inr (.inr (.inl 170))), some (.inl i)] [] μ := by
  have n3 : ¬ (0 : Nat) = 3 := by decide
  have f : ∀ k : Int, 1 ≤ k → k ≤ 4 → 0 ≤ q32 (i + k) ∧ q32 (i + k) < L := fun k q1 q2 => by
    rw [q32_id (by omega) (by omega)]
    omega
  rw [lq_811]
  refine ⟨n3, f 1 (by omega) (by omega), n3, f 2 (by omega) (by omega), s93 (Sr_rf h.1) (fun a1 μ1 r1 => ?_)⟩
  have t1 := LT_h h (Sh_r r1)
  rw [lq_825]
  refine ⟨n3, f 1 (by omega) (by omega), n3, f 2 (by omega) (by omega), s170 (Sr_rf t1.1) (fun a2 μ2 r2 => ?_)⟩
  rw [lq_840]
  exact lnx h0 h1 hL nx (LT_h t1 (Sh_r r2))
theorem l844 (h0 : 0 ≤ i) (h1 : i + 5 ≤ L) (hL : L ≤ 100000) (nx : LNx L S i) (h : LT μ) : qlw (some (L, S)) LWQ 844 [some (.inr (.inr (.inr 0))), some (.inr (.inr (.inl 0))), some (.inr (.inr (.inl 170))), some (.inl i)] [] μ := by
  have n3 : ¬ (0 : Nat) = 3 := by decide
  have f : ∀ k : Int, 1 ≤ k → k ≤ 4 → 0 ≤ q32 (i + k) ∧ q32 (i + k) < L := fun k q1 q2 => by
    rw [q32_id (by omega) (by omega)]
    omega
  rw [lq_844]
  refine ⟨n3, f 1 (by omega) (by omega), n3, f 2 (by omega) (by omega), n3, f 3 (by omega) (by omega), h94 (Sh_rf h.1) (fun a1 μ1 r1 => ?_)⟩
  have t1 := LT_h h (r1)
  rw [lq_863]
  refine ⟨n3, f 1 (by omega) (by omega), n3, f 2 (by omega) (by omega), n3, f 3 (by omega) (by omega), h162 (Sh_rf t1.1) (fun a2 μ2 r2 => ?_)⟩
  rw [lq_883]
  exact lnx h0 h1 hL nx (LT_h t1 (r2))
theorem l887 (h0 : 0 ≤ i) (h1 : i + 5 ≤ L) (hL : L ≤ 100000) (nx : LNx L S i) (h : LT μ) : qlw (some (L, S)) LWQ 887 [some (.inr (.inr (.inr 0))), some (.inr (.inr (.inl 0))), some (.inr (.inr (.inl 170))), some (.inl i)] [] μ := by
  have n3 : ¬ (0 : Nat) = 3 := by decide
  have f : ∀ k : Int, 1 ≤ k → k ≤ 4 → 0 ≤ q32 (i + k) ∧ q32 (i + k) < L := fun k q1 q2 => by
    rw [q32_id (by omega) (by omega)]
    omega
  rw [lq_887]
  refine ⟨n3, f 1 (by omega) (by omega), s95 (Sr_rf h.1) (fun a1 μ1 r1 => ?_)⟩
  have t1 := LT_h h (Sh_r r1)
  rw [lq_896]
  refine ⟨n3, f 1 (by omega) (by omega), s163 (Sr_rf t1.1) (fun a2 μ2 r2 => ?_)⟩
  rw [lq_906]
  exact lnx h0 h1 hL nx (LT_h t1 (Sh_r r2))
theorem l910 (h0 : 0 ≤ i) (h1 : i + 5 ≤ L) (hL : L ≤ 100000) (nx : LNx L S i) (h : LT μ) : qlw (some (L, S)) LWQ 910 [some (.inr (.inr (.inr 0))), some (.inr (.inr (.inl 0))), some (.inr (.inr (.inl 170))), some (.inl i)] [] μ := by
  have n3 : ¬ (0 : Nat) = 3 := by decide
  have f : ∀ k : Int, 1 ≤ k → k ≤ 4 → 0 ≤ q32 (i + k) ∧ q32 (i + k) < L := fun k q1 q2 => by
    rw [q32_id (by omega) (by omega)]
    omega
  rw [lq_910]
  refine ⟨n3, f 1 (by omega) (by omega), n3, f 2 (by omega) (by omega), s96 (Sr_rf h.1) (fun a1 μ1 r1 => ?_)⟩
  have t1 := LT_h h (Sh_r r1)
  rw [lq_924]
  refine ⟨n3, f 1 (by omega) (by omega), n3, f 2 (by omega) (by omega), s165 (Sr_rf t1.1) (fun a2 μ2 r2 => ?_)⟩
  rw [lq_939]
  exact lnx h0 h1 hL nx (LT_h t1 (Sh_r r2))
theorem l943 (h0 : 0 ≤ i) (h1 : i + 5 ≤ L) (hL : L ≤ 100000) (nx : LNx L S i) (h : LT μ) : qlw (some (L, S)) LWQ 943 [some (.inr (.inr (.inr 0))), some (.inr (.inr (.inl 0))), some (.inr (.inr (.inl 170))), some (.inl i)] [] μ := by
  have n3 : ¬ (0 : Nat) = 3 := by decide
  have f : ∀ k : Int, 1 ≤ k → k ≤ 4 → 0 ≤ q32 (i + k) ∧ q32 (i + k) < L := fun k q1 q2 => by
    rw [q32_id (by omega) (by omega)]
    omega
  rw [lq_943]
  refine ⟨n3, f 1 (by omega) (by omega), n3, f 2 (by omega) (by omega), h97 (Sh_rf h.1) (fun a1 μ1 r1 => ?_)⟩
  have t1 := LT_h h (r1)
  rw [lq_957]
  refine ⟨n3, f 1 (by omega) (by omega), n3, f 2 (by omega) (by omega), h172 (Sh_rf t1.1) (fun a2 μ2 r2 => ?_)⟩
  rw [lq_972]
  exact lnx h0 h1 hL nx (LT_h t1 (r2))
theorem l976 (h0 : 0 ≤ i) (h1 : i + 5 ≤ L) (hL : L ≤ 100000) (nx : LNx L S i) (h : LT μ) : qlw (some (L, S)) LWQ 976 [some (.inr (.inr (.inr 0))), some (.inr (.inr (.inl 0))), some (.inr (.inr (.inl 170))), some (.inl i)] [] μ := by
  have n3 : ¬ (0 : Nat) = 3 := by decide
  have f : ∀ k : Int, 1 ≤ k → k ≤ 4 → 0 ≤ q32 (i + k) ∧ q32 (i + k) < L := fun k q1 q2 => by
    rw [q32_id (by omega) (by omega)]
    omega
  obtain ⟨hS, e1, e2, e3, e4, e5⟩ := id h
  have ht := sa_mtoday hS
  rw [lq_976]
  refine h98 hS (fun a μ1 q S1 F1 T1 => ?_) (fun q => ?_)
  · rw [lq_980]
    refine h173 S1 (fun b μ2 q2 S2 F2 T2 => ?_) (fun q2 => absurd q2 (by rw [F1 170 1 (by unfold rk; omega) (by omega)]; omega))
    rw [lq_985]
    exact lnx h0 h1 hL nx ⟨S2, by
      rw [F2 58 3 (by unfold rk; omega) (by omega), F2 140 3 (by unfold rk; omega) (by omega), F2 195 1 (by unfold rk; omega) (by omega), F2 155 3 (by unfold rk; omega) (by omega), F2 195 2 (by unfold rk; omega) (by omega), F2 140 4 (by unfold rk; omega) (by omega), F2 209 0 (by unfold rk; omega) (by omega), F2 155 4 (by unfold rk; omega) (by omega), F2 209 1 (by unfold rk; omega) (by omega), T2]
      rw [F1 170 1 (by unfold rk; omega) (by omega), F1 140 3 (by unfold rk; omega) (by omega), F1 195 1 (by unfold rk; omega) (by omega), F1 155 3 (by unfold rk; omega) (by omega), F1 195 2 (by unfold rk; omega) (by omega), F1 140 4 (by unfold rk; omega) (by omega), F1 209 0 (by unfold rk; omega) (by omega), F1 155 4 (by unfold rk; omega) (by omega), F1 209 1 (by unfold rk; omega) (by omega), T1]
      exact ⟨by omega, e2, e3, e4, e5⟩⟩
  · rw [lq_980]
    refine h173 hS (fun b μ2 q2 S2 F2 T2 => absurd q2 (by omega)) (fun q2 => ?_)
    rw [lq_985]
    exact lnx h0 h1 hL nx h
theorem l989 (h0 : 0 ≤ i) (h1 : i + 5 ≤ L) (hL : L ≤ 100000) (nx : LNx L S i) (h : LT μ) : qlw (some (L, S)) LWQ 989 [some (.inr (.inr (.inr 0))), some (.inr (.inr (.inl 0))), some (.inr (.inr (.inl 170))), some (.inl i)] [] μ := by
  have n3 : ¬ (0 : Nat) = 3 := by decide
  have f : ∀ k : Int, 1 ≤ k → k ≤ 4 → 0 ≤ q32 (i + k) ∧ q32 (i + k) < L := fun k q1 q2 => by
    rw [q32_id (by omega) (by omega)]
    omega
  rw [lq_989]
  refine ⟨n3, f 1 (by omega) (by omega), n3, f 2 (by omega) (by omega), n3, f 3 (by omega) (by omega), h99 (Sh_rf h.1) (fun a1 μ1 r1 => ?_)⟩
  have t1 := LT_h h (r1)
  rw [lq_1008]
  refine ⟨n3, f 1 (by omega) (by omega), n3, f 2 (by omega) (by omega), n3, f 3 (by omega) (by omega), h174 (Sh_rf t1.1) (fun a2 μ2 r2 => ?_)⟩
  rw [lq_1028]
  exact lnx h0 h1 hL nx (LT_h t1 (r2))
theorem l1032 (h0 : 0 ≤ i) (h1 : i + 5 ≤ L) (hL : L ≤ 100000) (nx : LNx L S i) (h : LT μ) : qlw (some (L, S)) LWQ 1032 [some (.inr (.inr (.inr 0))), some (.inr (.inr (.inl 0))), some (.inr (.inr (.inl 170))), some (.inl i)] [] μ := by
  have n3 : ¬ (0 : Nat) = 3 := by decide
  have f : ∀ k : Int, 1 ≤ k → k ≤ 4 → 0 ≤ q32 (i + k) ∧ q32 (i + k) < L := fun k q1 q2 => by
    rw [q32_id (by omega) (by omega)]
    omega
  obtain ⟨hS, e1, e2, e3, e4, e5⟩ := id h
  rw [lq_1032]
  refine ⟨n3, f 1 (by omega) (by omega), h100 hS (fun μ1 w S1 F1 T1 K1 => ?_) (fun w => ?_)⟩
  · rw [lq_1041]
    refine ⟨n3, f 1 (by omega) (by omega), h177 S1 (fun μ2 _ S2 F2 T2 K2 => ?_) (fun w2 => absurd w w2)⟩
    rw [lq_1050]
    have m : LT μ2 := by
      rcases w with w | w
      · rw [w] at F1 T1 K1 F2 T2 K2
        rw [q73_0] at F1 T1 K1
        refine ⟨S2, ?_⟩
        rw [F2 58 3 (by unfold rk; omega) (by omega) (by omega), F2 170 1 (by unfold rk; omega) (by omega) (by omega), F2 140 3 (by unfold rk; omega) (by omega) (by omega), F2 155 3 (by unfold rk; omega) (by omega) (by omega), F2 195 2 (by unfold rk; omega) (by omega) (by omega), F2 140 4 (by unfold rk; omega) (by omega) (by omega), F2 155 4 (by unfold rk; omega) (by omega) (by omega), F2 209 1 (by unfold rk; omega) (by omega) (by omega), K2, F1 58 3 (by unfold rk; omega) (by omega), F1 170 1 (by unfold rk; omega) (by omega), F1 155 3 (by unfold rk; omega) (by omega), F1 195 2 (by unfold rk; omega) (by omega), F1 155 4 (by unfold rk; omega) (by omega), F1 209 1 (by unfold rk; omega) (by omega), T1, K1]
        refine ⟨e1, ?_, e3, rfl, e5⟩
        have T2 : μ2 195 1 = μ1 170 1 := T2
        rw [T2, F1 170 1 (by unfold rk; omega) (by omega)]
        exact e1
      · rw [w] at F1 T1 K1 F2 T2 K2
        rw [q73_1] at F1 T1 K1
        refine ⟨S2, ?_⟩
        rw [F2 58 3 (by unfold rk; omega) (by omega) (by omega), F2 170 1 (by unfold rk; omega) (by omega) (by omega), F2 155 3 (by unfold rk; omega) (by omega) (by omega), F2 140 3 (by unfold rk; omega) (by omega) (by omega), F2 195 1 (by unfold rk; omega) (by omega) (by omega), F2 155 4 (by unfold rk; omega) (by omega) (by omega), F2 140 4 (by unfold rk; omega) (by omega) (by omega), F2 209 0 (by unfold rk; omega) (by omega) (by omega), K2, F1 58 3 (by unfold rk; omega) (by omega), F1 170 1 (by unfold rk; omega) (by omega), F1 140 3 (by unfold rk; omega) (by omega), F1 195 1 (by unfold rk; omega) (by omega), F1 140 4 (by unfold rk; omega) (by omega), F1 209 0 (by unfold rk; omega) (by omega), T1, K1]
        refine ⟨e1, e2, ?_, e4, rfl⟩
        have T2 : μ2 195 2 = μ1 170 1 := T2
        rw [T2, F1 170 1 (by unfold rk; omega) (by omega)]
        exact e1
    have ea : μ 58 3 = μ1 170 1 := by
      have h7 := qra73 (k := S (q32 (i + 1))) (by omega) (by omega)
      rw [F1 170 1 (by unfold rk; omega) (by omega)]
      exact e1
    exact ⟨fun _ => lnx h0 h1 hL nx m, fun q => absurd ea q⟩
  · rw [lq_1041]
    refine ⟨n3, f 1 (by omega) (by omega), h177 hS (fun μ2 w2 _ _ _ _ => absurd w2 w) (fun _ => ?_)⟩
    rw [lq_1050]
    exact ⟨fun _ => lnx h0 h1 hL nx h, fun q => absurd rfl q⟩
theorem l1055 (h0 : 0 ≤ i) (h1 : i + 5 ≤ L) (hL : L ≤ 100000) (nx : LNx L S i) (h : LT μ) : qlw (some (L, S)) LWQ 1055 [some (.inr (.inr (.inr 0))), some (.inr (.inr (.inl 0))), some (.inr (.inr (.inl 170))), some (.inl i)] [] μ := by
  have n3 : ¬ (0 : Nat) = 3 := by decide
  have f : ∀ k : Int, 1 ≤ k → k ≤ 4 → 0 ≤ q32 (i + k) ∧ q32 (i + k) < L := fun k q1 q2 => by
    rw [q32_id (by omega) (by omega)]
    omega
  obtain ⟨hS, e1, e2, e3, e4, e5⟩ := id h
  have k4 : ∀ w : S (q32 (i + 1)) = 0 ∨ S (q32 (i + 1)) = 1, μ (qra 73 (S (q32 (i + 1)))) 4 = μ 209 (S (q32 (i + 1))) ∧ μ (qra 73 (S (q32 (i + 1)))) 3 = μ 195 (1 + S (q32 (i + 1))) := fun w => by
    rcases w with w | w
    · rw [w, q73_0]
      exact ⟨e4, e2⟩
    · rw [w, q73_1]
      exact ⟨e5, e3⟩
  rw [lq_1055]
  refine ⟨n3, f 1 (by omega) (by omega), h101 hS (fun μ1 w kk S1 F1 T1 => ?_) (fun w kk => ?_) (fun w => ?_)⟩
  · rw [lq_1064]
    refine ⟨n3, f 1 (by omega) (by omega), h178 S1 (fun μ2 _ _ S2 F2 T2 => ?_) (fun _ k2 => ?_) (fun w2 => absurd w w2)⟩
    · rw [lq_1074]
      have m : LT μ2 := by
        refine ⟨S2, ?_⟩
        rw [F2 58 3 (by unfold rk; omega) (by omega), F2 140 3 (by unfold rk; omega) (by omega), F2 195 1 (by unfold rk; omega) (by omega), F2 155 3 (by unfold rk; omega) (by omega), F2 195 2 (by unfold rk; omega) (by omega), F2 140 4 (by unfold rk; omega) (by omega), F2 209 0 (by unfold rk; omega) (by omega), F2 155 4 (by unfold rk; omega) (by omega), F2 209 1 (by unfold rk; omega) (by omega), T2]
        rw [F1 195 (1 + S (q32 (i + 1))) (by unfold rk; omega) (by omega), F1 140 3 (by unfold rk; omega) (by omega), F1 195 1 (by unfold rk; omega) (by omega), F1 155 3 (by unfold rk; omega) (by omega), F1 195 2 (by unfold rk; omega) (by omega), F1 140 4 (by unfold rk; omega) (by omega), F1 209 0 (by unfold rk; omega) (by omega), F1 155 4 (by unfold rk; omega) (by omega), F1 209 1 (by unfold rk; omega) (by omega), T1]
        exact ⟨(k4 w).2, e2, e3, e4, e5⟩
      have ea : μ (qra 73 (S (q32 (i + 1)))) 3 = μ1 195 (1 + S (q32 (i + 1))) := by
        rw [F1 195 (1 + S (q32 (i + 1))) (by unfold rk; omega) (by omega)]
        exact (k4 w).2
      exact lnx h0 h1 hL nx m
    · exact absurd ((k4 w).1.trans (by rw [← F1 209 _ (by unfold rk; omega) (by omega)]; exact k2)) kk
  · rw [lq_1064]
    refine ⟨n3, f 1 (by omega) (by omega), h178 hS (fun μ2 _ k2 _ _ _ => absurd ((k4 w).1.symm.trans kk) k2) (fun _ _ => ?_) (fun w2 => absurd w w2)⟩
    rw [lq_1074]
    exact lnx h0 h1 hL nx h
  · rw [lq_1064]
    refine ⟨n3, f 1 (by omega) (by omega), h178 hS (fun μ2 w2 _ _ _ _ => absurd w2 w) (fun w2 _ => absurd w2 w) (fun _ => ?_)⟩
    rw [lq_1074]
    exact lnx h0 h1 hL nx h
theorem l1078 (h0 : 0 ≤ i) (h1 : i + 5 ≤ L) (hL : L ≤ 100000) (nx : LNx L S i) (h : LT μ) : qlw (some (L, S)) LWQ 1078 [some (.inr (.inr (.inr 0))), some (.inr (.inr (.inl 0))), some (.inr (.inr (.inl 170))), some (.inl i)] [] μ := by
  have n3 : ¬ (0 : Nat) = 3 := by decide
  have f : ∀ k : Int, 1 ≤ k → k ≤ 4 → 0 ≤ q32 (i + k) ∧ q32 (i + k) < L := fun k q1 q2 => by
    rw [q32_id (by omega) (by omega)]
    omega
  rw [lq_1078]
  refine ⟨n3, f 1 (by omega) (by omega), s102 (Sr_rf h.1) (fun a1 μ1 r1 => ?_)⟩
  have t1 := LT_h h (Sh_r r1)
  rw [lq_1087]
  refine ⟨n3, f 1 (by omega) (by omega), s179 (Sr_rf t1.1) (fun a2 μ2 r2 => ?_)⟩
  rw [lq_1097]
  exact lnx h0 h1 hL nx (LT_h t1 (Sh_r r2))
theorem l1101 (h0 : 0 ≤ i) (h1 : i + 5 ≤ L) (hL : L ≤ 100000) (nx : LNx L S i) (h : LT μ) : qlw (some (L, S)) LWQ 1101 [some (.inr (.inr (.inr 0))), some (.inr (.inr (.inl 0))), some (.inr (.inr (.inl 170))), some (.inl i)] [] μ := by
  have n3 : ¬ (0 : Nat) = 3 := by decide
  have f : ∀ k : Int, 1 ≤ k → k ≤ 4 → 0 ≤ q32 (i + k) ∧ q32 (i + k) < L := fun k q1 q2 => by
    rw [q32_id (by omega) (by omega)]
    omega
  rw [lq_1101, e103, g103_0, lq_1105, e180, g180_0, lq_1110]
  exact lnx h0 h1 hL nx h
theorem lloop (hL0 : 0 ≤ L) (hL : L ≤ 100000) : ∀ i, i ≤ L → 0 ≤ i → ∀ μ, LT μ → qlw (some (L, S)) LWQ 18 [some (.inr (.inr (.inr 0))), some (.inr (.inr (.inl 0))), some (.inr (.inr (.inl 170))), some (.inl i)] [] μ := by
  refine qup L (fun i ih hB h0 μ h => ?_)
  rw [lq_18]
  refine ⟨by decide, Or.inl ⟨rfl, ?_⟩⟩
  rw [lq_21, q32_id (by omega) (by omega)]
  refine ⟨fun _ => rfl, fun q => ⟨by decide, ⟨h0, by omega⟩, ?_⟩⟩
  have h1 : i + 5 ≤ L := by omega
  have nx : LNx L S i := fun ν hν => ih (i + 5) (by omega) (by omega) (by omega) ν hν
  clear ih
  exact ⟨fun _ => lnx h0 h1 hL nx h, fun _ => l160 h0 h1 hL nx h, fun _ => l223 h0 h1 hL nx h, fun _ => l236 h0 h1 hL nx h, fun _ => l249 h0 h1 hL nx h, fun _ => l282 h0 h1 hL nx h, fun _ => l335 h0 h1 hL nx h, fun _ => l388 h0 h1 hL nx h, fun _ => l431 h0 h1 hL nx h, fun _ => l464 h0 h1 hL nx h, fun _ => l507 h0 h1 hL nx h, fun _ => l540 h0 h1 hL nx h, fun _ => l593 h0 h1 hL nx h, fun _ => l636 h0 h1 hL nx h, fun _ => l669 h0 h1 hL nx h, fun _ => l702 h0 h1 hL nx h, fun _ => l755 h0 h1 hL nx h, fun _ => l778 h0 h1 hL nx h, fun _ => l811 h0 h1 hL nx h, fun _ => l844 h0 h1 hL nx h, fun _ => l887 h0 h1 hL nx h, fun _ => l910 h0 h1 hL nx h, fun _ => l943 h0 h1 hL nx h, fun _ => l976 h0 h1 hL nx h, fun _ => l989 h0 h1 hL nx h, fun _ => l1032 h0 h1 hL nx h, fun _ => l1055 h0 h1 hL nx h, fun _ => l1078 h0 h1 hL nx h, fun _ => l1101 h0 h1 hL nx h, trivial⟩
end LO
