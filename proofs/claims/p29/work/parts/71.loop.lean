/-! THE LAW'S LOOP: THE TRACES ARE EQUAL -/
def LT (μ : qM) : Prop := Safe μ ∧ μ 0 6 = μ 170 0
theorem LT_g {μ0 μ : qM} (h0 : LT μ0) (h : Sg μ0 μ) : LT μ := ⟨h.1, by rw [h.2.1, h.2.2]; exact h0.2⟩
section LO
variable {L : Int} {S : Int → Int} {i : Int} {μ : qM} {Q : qV → qM → Prop}
abbrev LWQ : qV → qM → Prop := fun v _ => v = .inl 1
abbrev LNx (L : Int) (S : Int → Int) (i : Int) : Prop := ∀ ν, LT ν → qlw (some (L, S)) LWQ 18 [some (.inr (.inr (.inr 0))), some (.inr (.inr (.inl 0))), some (.inr (.inr (.inl 170))), some (.inl (i + 5))] [] ν
theorem l1115 (h0 : 0 ≤ i) (h1 : i + 5 ≤ L) (hL : L ≤ 100000) (nx : LNx L S i) (h : LT μ) : qlw (some (L, S)) LWQ 1115 [some (.inr (.inr (.inr 0))), some (.inr (.inr (.inl 0))), some (.inr (.inr (.inl 170))), some (.inl i)] [] μ := by
  rw [lq_1115, q32_id (by omega) (by omega)]
  exact nx _ h
theorem l160 (h0 : 0 ≤ i) (h1 : i + 5 ≤ L) (hL : L ≤ 100000) (nx : LNx L S i) (h : LT μ) : qlw (some (L, S)) LWQ 160 [some (.inr (.inr (.inr 0))), some (.inr (.inr (.inl 0))), some (.inr (.inr (.inl 170))), some (.inl i)] [] μ := by
  have n3 : ¬ (0 : Nat) = 3 := by decide
  have f : ∀ k : Int, 1 ≤ k → k ≤ 4 → 0 ≤ q32 (i + k) ∧ q32 (i + k) < L := fun k q1 q2 => by
    rw [q32_id (by omega) (by omega)]
    omega
  rw [lq_160]
  refine ⟨n3, f 1 (by omega) (by omega), n3, f 2 (by omega) (by omega), n3, f 3 (by omega) (by omega), s76 (Sr_rf h.1) (fun a1 μ1 r1 => ?_)⟩
  have t1 := LT_g h (Sg_r r1)
  rw [lq_189]
  refine ⟨n3, f 1 (by omega) (by omega), n3, f 2 (by omega) (by omega), n3, f 3 (by omega) (by omega), s118 (Sr_rf t1.1) (fun a2 μ2 r2 => ?_)⟩
  rw [lq_219]
  exact l1115 h0 h1 hL nx (LT_g t1 (Sg_r r2))
theorem l223 (h0 : 0 ≤ i) (h1 : i + 5 ≤ L) (hL : L ≤ 100000) (nx : LNx L S i) (h : LT μ) : qlw (some (L, S)) LWQ 223 [some (.inr (.inr (.inr 0))), some (.inr (.inr (.inl 0))), some (.inr (.inr (.inl 170))), some (.inl i)] [] μ := by
  have n3 : ¬ (0 : Nat) = 3 := by decide
  have f : ∀ k : Int, 1 ≤ k → k ≤ 4 → 0 ≤ q32 (i + k) ∧ q32 (i + k) < L := fun k q1 q2 => by
    rw [q32_id (by omega) (by omega)]
    omega
  rw [lq_223]
  refine s77 (Sr_rf h.1) (fun a1 μ1 r1 => ?_)
  have t1 := LT_g h (Sg_r r1)
  rw [lq_227]
  refine s119 (Sr_rf t1.1) (fun a2 μ2 r2 => ?_)
  rw [lq_232]
  exact l1115 h0 h1 hL nx (LT_g t1 (Sg_r r2))
theorem l236 (h0 : 0 ≤ i) (h1 : i + 5 ≤ L) (hL : L ≤ 100000) (nx : LNx L S i) (h : LT μ) : qlw (some (L, S)) LWQ 236 [some (.inr (.inr (.inr 0))), some (.inr (.inr (.inl 0))), some (.inr (.inr (.inl 170))), some (.inl i)] [] μ := by
  have n3 : ¬ (0 : Nat) = 3 := by decide
  have f : ∀ k : Int, 1 ≤ k → k ≤ 4 → 0 ≤ q32 (i + k) ∧ q32 (i + k) < L := fun k q1 q2 => by
    rw [q32_id (by omega) (by omega)]
    omega
  rw [lq_236]
  refine s78 (Sr_rf h.1) (fun a1 μ1 r1 => ?_)
  have t1 := LT_g h (Sg_r r1)
  rw [lq_240]
  refine s129 (Sr_rf t1.1) (fun a2 μ2 r2 => ?_)
  rw [lq_245]
  exact l1115 h0 h1 hL nx (LT_g t1 (Sg_r r2))
theorem l249 (h0 : 0 ≤ i) (h1 : i + 5 ≤ L) (hL : L ≤ 100000) (nx : LNx L S i) (h : LT μ) : qlw (some (L, S)) LWQ 249 [some (.inr (.inr (.inr 0))), some (.inr (.inr (.inl 0))), some (.inr (.inr (.inl 170))), some (.inl i)] [] μ := by
  have n3 : ¬ (0 : Nat) = 3 := by decide
  have f : ∀ k : Int, 1 ≤ k → k ≤ 4 → 0 ≤ q32 (i + k) ∧ q32 (i + k) < L := fun k q1 q2 => by
    rw [q32_id (by omega) (by omega)]
    omega
  rw [lq_249]
  refine ⟨n3, f 1 (by omega) (by omega), n3, f 2 (by omega) (by omega), s79 (Sr_rf h.1) (fun a1 μ1 r1 => ?_)⟩
  have t1 := LT_g h (Sg_r r1)
  rw [lq_263]
  refine ⟨n3, f 1 (by omega) (by omega), n3, f 2 (by omega) (by omega), s132 (Sr_rf t1.1) (fun a2 μ2 r2 => ?_)⟩
  rw [lq_278]
  exact l1115 h0 h1 hL nx (LT_g t1 (Sg_r r2))
theorem l282 (h0 : 0 ≤ i) (h1 : i + 5 ≤ L) (hL : L ≤ 100000) (nx : LNx L S i) (h : LT μ) : qlw (some (L, S)) LWQ 282 [some (.inr (.inr (.inr 0))), some (.inr (.inr (.inl 0))), some (.inr (.inr (.inl 170))), some (.inl i)] [] μ := by
  have n3 : ¬ (0 : Nat) = 3 := by decide
  have f : ∀ k : Int, 1 ≤ k → k ≤ 4 → 0 ≤ q32 (i + k) ∧ q32 (i + k) < L := fun k q1 q2 => by
    rw [q32_id (by omega) (by omega)]
    omega
  rw [lq_282]
  refine ⟨n3, f 1 (by omega) (by omega), n3, f 2 (by omega) (by omega), n3, f 3 (by omega) (by omega), n3, f 4 (by omega) (by omega), s80 (Sg_rf h.1) (fun a1 μ1 r1 => ?_)⟩
  have t1 := LT_g h (r1)
  rw [lq_306]
  refine ⟨n3, f 1 (by omega) (by omega), n3, f 2 (by omega) (by omega), n3, f 3 (by omega) (by omega), n3, f 4 (by omega) (by omega), s135 (Sg_rf t1.1) (fun a2 μ2 r2 => ?_)⟩
  rw [lq_331]
  exact l1115 h0 h1 hL nx (LT_g t1 (r2))
theorem l335 (h0 : 0 ≤ i) (h1 : i + 5 ≤ L) (hL : L ≤ 100000) (nx : LNx L S i) (h : LT μ) : qlw (some (L, S)) LWQ 335 [some (.inr (.inr (.inr 0))), some (.inr (.inr (.inl 0))), some (.inr (.inr (.inl 170))), some (.inl i)] [] μ := by
  have n3 : ¬ (0 : Nat) = 3 := by decide
  have f : ∀ k : Int, 1 ≤ k → k ≤ 4 → 0 ≤ q32 (i + k) ∧ q32 (i + k) < L := fun k q1 q2 => by
    rw [q32_id (by omega) (by omega)]
    omega
  rw [lq_335]
  refine ⟨n3, f 1 (by omega) (by omega), n3, f 2 (by omega) (by omega), n3, f 3 (by omega) (by omega), n3, f 4 (by omega) (by omega), s81 (Sg_rf h.1) (fun a1 μ1 r1 => ?_)⟩
  have t1 := LT_g h (r1)
  rw [lq_359]
  refine ⟨n3, f 1 (by omega) (by omega), n3, f 2 (by omega) (by omega), n3, f 3 (by omega) (by omega), n3, f 4 (by omega) (by omega), s137 (Sg_rf t1.1) (fun a2 μ2 r2 => ?_)⟩
  rw [lq_384]
  exact l1115 h0 h1 hL nx (LT_g t1 (r2))
theorem l388 (h0 : 0 ≤ i) (h1 : i + 5 ≤ L) (hL : L ≤ 100000) (nx : LNx L S i) (h : LT μ) : qlw (some (L, S)) LWQ 388 [some (.inr (.inr (.inr 0))), some (.inr (.inr (.inl 0))), some (.inr (.inr (.inl 170))), some (.inl i)] [] μ := by
  have n3 : ¬ (0 : Nat) = 3 := by decide
  have f : ∀ k : Int, 1 ≤ k → k ≤ 4 → 0 ≤ q32 (i + k) ∧ q32 (i + k) < L := fun k q1 q2 => by
    rw [q32_id (by omega) (by omega)]
    omega
  rw [lq_388]
  refine ⟨n3, f 1 (by omega) (by omega), n3, f 2 (by omega) (by omega), n3, f 3 (by omega) (by omega), s82 (Sr_rf h.1) (fun a1 μ1 r1 => ?_)⟩
  have t1 := LT_g h (Sg_r r1)
  rw [lq_407]
  refine ⟨n3, f 1 (by omega) (by omega), n3, f 2 (by omega) (by omega), n3, f 3 (by omega) (by omega), s143 (Sr_rf t1.1) (fun a2 μ2 r2 => ?_)⟩
  rw [lq_427]
  exact l1115 h0 h1 hL nx (LT_g t1 (Sg_r r2))
theorem l431 (h0 : 0 ≤ i) (h1 : i + 5 ≤ L) (hL : L ≤ 100000) (nx : LNx L S i) (h : LT μ) : qlw (some (L, S)) LWQ 431 [some (.inr (.inr (.inr 0))), some (.inr (.inr (.inl 0))), some (.inr (.inr (.inl 170))), some (.inl i)] [] μ := by
  have n3 : ¬ (0 : Nat) = 3 := by decide
  have f : ∀ k : Int, 1 ≤ k → k ≤ 4 → 0 ≤ q32 (i + k) ∧ q32 (i + k) < L := fun k q1 q2 => by
    rw [q32_id (by omega) (by omega)]
    omega
  rw [lq_431]
  refine ⟨n3, f 1 (by omega) (by omega), n3, f 2 (by omega) (by omega), s83 (Sr_rf h.1) (fun a1 μ1 r1 => ?_)⟩
  have t1 := LT_g h (Sg_r r1)
  rw [lq_445]
  refine ⟨n3, f 1 (by omega) (by omega), n3, f 2 (by omega) (by omega), s145 (Sr_rf t1.1) (fun a2 μ2 r2 => ?_)⟩
  rw [lq_460]
  exact l1115 h0 h1 hL nx (LT_g t1 (Sg_r r2))
theorem l464 (h0 : 0 ≤ i) (h1 : i + 5 ≤ L) (hL : L ≤ 100000) (nx : LNx L S i) (h : LT μ) : qlw (some (L, S)) LWQ 464 [some (.inr (.inr (.inr 0))), some (.inr (.inr (.inl 0))), some (.inr (.inr (.inl 170))), some (.inl i)] [] μ := by
  have n3 : ¬ (0 : Nat) = 3 := by decide
  have f : ∀ k : Int, 1 ≤ k → k ≤ 4 → 0 ≤ q32 (i + k) ∧ q32 (i + k) < L := fun k q1 q2 => by
    rw [q32_id (by omega) (by omega)]
    omega
  rw [lq_464]
  refine ⟨n3, f 1 (by omega) (by omega), n3, f 2 (by omega) (by omega), n3, f 3 (by omega) (by omega), s84 (Sr_rf h.1) (fun a1 μ1 r1 => ?_)⟩
  have t1 := LT_g h (Sg_r r1)
  rw [lq_483]
  refine ⟨n3, f 1 (by omega) (by omega), n3, f 2 (by omega) (by omega), n3, f 3 (by omega) (by omega), s149 (Sr_rf t1.1) (fun a2 μ2 r2 => ?_)⟩
  rw [lq_503]
  exact l1115 h0 h1 hL nx (LT_g t1 (Sg_r r2))
theorem l507 (h0 : 0 ≤ i) (h1 : i + 5 ≤ L) (hL : L ≤ 100000) (nx : LNx L S i) (h : LT μ) : qlw (some (L, S)) LWQ 507 [some (.inr (.inr (.inr 0))), some (.inr (.inr (.inl 0))), some (.inr (.inr (.inl 170))), some (.inl i)] [] μ := by
  have n3 : ¬ (0 : Nat) = 3 := by decide
  have f : ∀ k : Int, 1 ≤ k → k ≤ 4 → 0 ≤ q32 (i + k) ∧ q32 (i + k) < L := fun k q1 q2 => by
    rw [q32_id (by omega) (by omega)]
    omega
  rw [lq_507]
  refine ⟨n3, f 1 (by omega) (by omega), n3, f 2 (by omega) (by omega), s85 (Sr_rf h.1) (fun a1 μ1 r1 => ?_)⟩
  have t1 := LT_g h (Sg_r r1)
  rw [lq_521]
  refine ⟨n3, f 1 (by omega) (by omega), n3, f 2 (by omega) (by omega), s151 (Sr_rf t1.1) (fun a2 μ2 r2 => ?_)⟩
  rw [lq_536]
  exact l1115 h0 h1 hL nx (LT_g t1 (Sg_r r2))
theorem l540 (h0 : 0 ≤ i) (h1 : i + 5 ≤ L) (hL : L ≤ 100000) (nx : LNx L S i) (h : LT μ) : qlw (some (L, S)) LWQ 540 [some (.inr (.inr (.inr 0))), some (.inr (.inr (.inl 0))), some (.inr (.inr (.inl 170))), some (.inl i)] [] μ := by
  have n3 : ¬ (0 : Nat) = 3 := by decide
  have f : ∀ k : Int, 1 ≤ k → k ≤ 4 → 0 ≤ q32 (i + k) ∧ q32 (i + k) < L := fun k q1 q2 => by
    rw [q32_id (by omega) (by omega)]
    omega
  rw [lq_540]
  refine ⟨n3, f 1 (by omega) (by omega), n3, f 2 (by omega) (by omega), n3, f 3 (by omega) (by omega), n3, f 4 (by omega) (by omega), s86 (Sr_rf h.1) (fun a1 μ1 r1 => ?_)⟩
  have t1 := LT_g h (Sg_r r1)
  rw [lq_564]
  refine ⟨n3, f 1 (by omega) (by omega), n3, f 2 (by omega) (by omega), n3, f 3 (by omega) (by omega), n3, f 4 (by omega) (by omega), s152 (Sr_rf t1.1) (fun a2 μ2 r2 => ?_)⟩
  rw [lq_589]
  exact l1115 h0 h1 hL nx (LT_g t1 (Sg_r r2))
theorem l593 (h0 : 0 ≤ i) (h1 : i + 5 ≤ L) (hL : L ≤ 100000) (nx : LNx L S i) (h : LT μ) : qlw (some (L, S)) LWQ 593 [some (.inr (.inr (.inr 0))), some (.inr (.inr (.inl 0))), some (.inr (.inr (.inl 170))), some (.inl i)] [] μ := by
  have n3 : ¬ (0 : Nat) = 3 := by decide
  have f : ∀ k : Int, 1 ≤ k → k ≤ 4 → 0 ≤ q32 (i + k) ∧ q32 (i + k) < L := fun k q1 q2 => by
    rw [q32_id (by omega) (by omega)]
    omega
  rw [lq_593]
  refine ⟨n3, f 1 (by omega) (by omega), n3, f 2 (by omega) (by omega), n3, f 3 (by omega) (by omega), s87 (Sr_rf h.1) (fun a1 μ1 r1 => ?_)⟩
  have t1 := LT_g h (Sg_r r1)
  rw [lq_612]
  refine ⟨n3, f 1 (by omega) (by omega), n3, f 2 (by omega) (by omega), n3, f 3 (by omega) (by omega), s157 (Sr_rf t1.1) (fun a2 μ2 r2 => ?_)⟩
  rw [lq_632]
  exact l1115 h0 h1 hL nx (LT_g t1 (Sg_r r2))
theorem l636 (h0 : 0 ≤ i) (h1 : i + 5 ≤ L) (hL : L ≤ 100000) (nx : LNx L S i) (h : LT μ) : qlw (some (L, S)) LWQ 636 [some (.inr (.inr (.inr 0))), some (.inr (.inr (.inl 0))), some (.inr (.inr (.inl 170))), some (.inl i)] [] μ := by
  have n3 : ¬ (0 : Nat) = 3 := by decide
  have f : ∀ k : Int, 1 ≤ k → k ≤ 4 → 0 ≤ q32 (i + k) ∧ q32 (i + k) < L := fun k q1 q2 => by
    rw [q32_id (by omega) (by omega)]
    omega
  rw [lq_636]
  refine ⟨n3, f 1 (by omega) (by omega), n3, f 2 (by omega) (by omega), s88 (Sr_rf h.1) (fun a1 μ1 r1 => ?_)⟩
  have t1 := LT_g h (Sg_r r1)
  rw [lq_650]
  refine ⟨n3, f 1 (by omega) (by omega), n3, f 2 (by omega) (by omega), s158 (Sr_rf t1.1) (fun a2 μ2 r2 => ?_)⟩
  rw [lq_665]
  exact l1115 h0 h1 hL nx (LT_g t1 (Sg_r r2))
theorem l669 (h0 : 0 ≤ i) (h1 : i + 5 ≤ L) (hL : L ≤ 100000) (nx : LNx L S i) (h : LT μ) : qlw (some (L, S)) LWQ 669 [some (.inr (.inr (.inr 0))), some (.inr (.inr (.inl 0))), some (.inr (.inr (.inl 170))), some (.inl i)] [] μ := by
  have n3 : ¬ (0 : Nat) = 3 := by decide
  have f : ∀ k : Int, 1 ≤ k → k ≤ 4 → 0 ≤ q32 (i + k) ∧ q32 (i + k) < L := fun k q1 q2 => by
    rw [q32_id (by omega) (by omega)]
    omega
  rw [lq_669]
  refine ⟨n3, f 1 (by omega) (by omega), n3, f 2 (by omega) (by omega), s89 (Sr_rf h.1) (fun a1 μ1 r1 => ?_)⟩
  have t1 := LT_g h (Sg_r r1)
  rw [lq_683]
  refine ⟨n3, f 1 (by omega) (by omega), n3, f 2 (by omega) (by omega), s160 (Sr_rf t1.1) (fun a2 μ2 r2 => ?_)⟩
  rw [lq_698]
  exact l1115 h0 h1 hL nx (LT_g t1 (Sg_r r2))
theorem l702 (h0 : 0 ≤ i) (h1 : i + 5 ≤ L) (hL : L ≤ 100000) (nx : LNx L S i) (h : LT μ) : qlw (some (L, S)) LWQ 702 [some (.inr (.inr (.inr 0))), some (.inr (.inr (.inl 0))), some (.inr (.inr (.inl 170))), some (.inl i)] [] μ := by
  have n3 : ¬ (0 : Nat) = 3 := by decide
  have f : ∀ k : Int, 1 ≤ k → k ≤ 4 → 0 ≤ q32 (i + k) ∧ q32 (i + k) < L := fun k q1 q2 => by
    rw [q32_id (by omega) (by omega)]
    omega
  rw [lq_702]
  refine ⟨n3, f 1 (by omega) (by omega), n3, f 2 (by omega) (by omega), n3, f 3 (by omega) (by omega), n3, f 4 (by omega) (by omega), s90 (Sr_rf h.1) (fun a1 μ1 r1 => ?_)⟩
  have t1 := LT_g h (Sg_r r1)
  rw [lq_726]
  refine ⟨n3, f 1 (by omega) (by omega), n3, f 2 (by omega) (by omega), n3, f 3 (by omega) (by omega), n3, f 4 (by omega) (by omega), s167 (Sr_rf t1.1) (fun a2 μ2 r2 => ?_)⟩
  rw [lq_751]
  exact l1115 h0 h1 hL nx (LT_g t1 (Sg_r r2))
theorem l755 (h0 : 0 ≤ i) (h1 : i + 5 ≤ L) (hL : L ≤ 100000) (nx : LNx L S i) (h : LT μ) : qlw (some (L, S)) LWQ 755 [some (.inr (.inr (.inr 0))), some (.inr (.inr (.inl 0))), some (.inr (.inr (.inl 170))), some (.inl i)] [] μ := by
  have n3 : ¬ (0 : Nat) = 3 := by decide
  have f : ∀ k : Int, 1 ≤ k → k ≤ 4 → 0 ≤ q32 (i + k) ∧ q32 (i + k) < L := fun k q1 q2 => by
    rw [q32_id (by omega) (by omega)]
    omega
  rw [lq_755]
  refine ⟨n3, f 1 (by omega) (by omega), s91 (Sr_rf h.1) (fun a1 μ1 r1 => ?_)⟩
  have t1 := LT_g h (Sg_r r1)
  rw [lq_764]
  refine ⟨n3, f 1 (by omega) (by omega), s168 (Sr_rf t1.1) (fun a2 μ2 r2 => ?_)⟩
  rw [lq_774]
  exact l1115 h0 h1 hL nx (LT_g t1 (Sg_r r2))
theorem l778 (h0 : 0 ≤ i) (h1 : i + 5 ≤ L) (hL : L ≤ 100000) (nx : LNx L S i) (h : LT μ) : qlw (some (L, S)) LWQ 778 [some (.inr (.inr (.inr 0))), some (.inr (.inr (.inl 0))), some (.inr (.inr (.inl 170))), some (.inl i)] [] μ := by
  have n3 : ¬ (0 : Nat) = 3 := by decide
  have f : ∀ k : Int, 1 ≤ k → k ≤ 4 → 0 ≤ q32 (i + k) ∧ q32 (i + k) < L := fun k q1 q2 => by
    rw [q32_id (by omega) (by omega)]
    omega
  rw [lq_778]
  refine ⟨n3, f 1 (by omega) (by omega), n3, f 2 (by omega) (by omega), s92 (Sr_rf h.1) (fun a1 μ1 r1 => ?_)⟩
  have t1 := LT_g h (Sg_r r1)
  rw [lq_792]
  refine ⟨n3, f 1 (by omega) (by omega), n3, f 2 (by omega) (by omega), s169 (Sr_rf t1.1) (fun a2 μ2 r2 => ?_)⟩
  rw [lq_807]
  exact l1115 h0 h1 hL nx (LT_g t1 (Sg_r r2))
theorem l811 (h0 : 0 ≤ i) (h1 : i + 5 ≤ L) (hL : L ≤ 100000) (nx : LNx L S i) (h : LT μ) : qlw (some (L, S)) LWQ 811 [some (.inr (.inr (.inr 0))), some (.inr (.inr (.inl 0))), some (.inr (.inr (.inl 170))), some (.inl i)] [] μ := by
  have n3 : ¬ (0 : Nat) = 3 := by decide
  have f : ∀ k : Int, 1 ≤ k → k ≤ 4 → 0 ≤ q32 (i + k) ∧ q32 (i + k) < L := fun k q1 q2 => by
    rw [q32_id (by omega) (by omega)]
    omega
  rw [lq_811]
  refine ⟨n3, f 1 (by omega) (by omega), n3, f 2 (by omega) (by omega), s93 (Sr_rf h.1) (fun a1 μ1 r1 => ?_)⟩
  have t1 := LT_g h (Sg_r r1)
  rw [lq_825]
  refine ⟨n3, f 1 (by omega) (by omega), n3, f 2 (by omega) (by omega), s170 (Sr_rf t1.1) (fun a2 μ2 r2 => ?_)⟩
  rw [lq_840]
  exact l1115 h0 h1 hL nx (LT_g t1 (Sg_r r2))
theorem l844 (h0 : 0 ≤ i) (h1 : i + 5 ≤ L) (hL : L ≤ 100000) (nx : LNx L S i) (h : LT μ) : qlw (some (L, S)) LWQ 844 [some (.inr (.inr (.inr 0))), some (.inr (.inr (.inl 0))), some (.inr (.inr (.inl 170))), some (.inl i)] [] μ := by
  have n3 : ¬ (0 : Nat) = 3 := by decide
  have f : ∀ k : Int, 1 ≤ k → k ≤ 4 → 0 ≤ q32 (i + k) ∧ q32 (i + k) < L := fun k q1 q2 => by
    rw [q32_id (by omega) (by omega)]
    omega
  rw [lq_844]
  refine ⟨n3, f 1 (by omega) (by omega), n3, f 2 (by omega) (by omega), n3, f 3 (by omega) (by omega), s94 (Sg_rf h.1) (fun a1 μ1 r1 => ?_)⟩
  have t1 := LT_g h (r1)
  rw [lq_863]
  refine ⟨n3, f 1 (by omega) (by omega), n3, f 2 (by omega) (by omega), n3, f 3 (by omega) (by omega), s162 (Sg_rf t1.1) (fun a2 μ2 r2 => ?_)⟩
  rw [lq_883]
  exact l1115 h0 h1 hL nx (LT_g t1 (r2))
theorem l887 (h0 : 0 ≤ i) (h1 : i + 5 ≤ L) (hL : L ≤ 100000) (nx : LNx L S i) (h : LT μ) : qlw (some (L, S)) LWQ 887 [some (.inr (.inr (.inr 0))), some (.inr (.inr (.inl 0))), some (.inr (.inr (.inl 170))), some (.inl i)] [] μ := by
  have n3 : ¬ (0 : Nat) = 3 := by decide
  have f : ∀ k : Int, 1 ≤ k → k ≤ 4 → 0 ≤ q32 (i + k) ∧ q32 (i + k) < L := fun k q1 q2 => by
    rw [q32_id (by omega) (by omega)]
    omega
  rw [lq_887]
  refine ⟨n3, f 1 (by omega) (by omega), s95 (Sr_rf h.1) (fun a1 μ1 r1 => ?_)⟩
  have t1 := LT_g h (Sg_r r1)
  rw [lq_896]
  refine ⟨n3, f 1 (by omega) (by omega), s163 (Sr_rf t1.1) (fun a2 μ2 r2 => ?_)⟩
  rw [lq_906]
  exact l1115 h0 h1 hL nx (LT_g t1 (Sg_r r2))
theorem l910 (h0 : 0 ≤ i) (h1 : i + 5 ≤ L) (hL : L ≤ 100000) (nx : LNx L S i) (h : LT μ) : qlw (some (L, S)) LWQ 910 [some (.inr (.inr (.inr 0))), some (.inr (.inr (.inl 0))), some (.inr (.inr (.inl 170))), some (.inl i)] [] μ := by
  have n3 : ¬ (0 : Nat) = 3 := by decide
  have f : ∀ k : Int, 1 ≤ k → k ≤ 4 → 0 ≤ q32 (i + k) ∧ q32 (i + k) < L := fun k q1 q2 => by
    rw [q32_id (by omega) (by omega)]
    omega
  rw [lq_910]
  refine ⟨n3, f 1 (by omega) (by omega), n3, f 2 (by omega) (by omega), s96 (Sr_rf h.1) (fun a1 μ1 r1 => ?_)⟩
  have t1 := LT_g h (Sg_r r1)
  rw [lq_924]
  refine ⟨n3, f 1 (by omega) (by omega), n3, f 2 (by omega) (by omega), s165 (Sr_rf t1.1) (fun a2 μ2 r2 => ?_)⟩
  rw [lq_939]
  exact l1115 h0 h1 hL nx (LT_g t1 (Sg_r r2))
theorem l943 (h0 : 0 ≤ i) (h1 : i + 5 ≤ L) (hL : L ≤ 100000) (nx : LNx L S i) (h : LT μ) : qlw (some (L, S)) LWQ 943 [some (.inr (.inr (.inr 0))), some (.inr (.inr (.inl 0))), some (.inr (.inr (.inl 170))), some (.inl i)] [] μ := by
  have n3 : ¬ (0 : Nat) = 3 := by decide
  have f : ∀ k : Int, 1 ≤ k → k ≤ 4 → 0 ≤ q32 (i + k) ∧ q32 (i + k) < L := fun k q1 q2 => by
    rw [q32_id (by omega) (by omega)]
    omega
  rw [lq_943]
  refine ⟨n3, f 1 (by omega) (by omega), n3, f 2 (by omega) (by omega), s97 (Sg_rf h.1) (fun a1 μ1 r1 => ?_)⟩
  have t1 := LT_g h (r1)
  rw [lq_957]
  refine ⟨n3, f 1 (by omega) (by omega), n3, f 2 (by omega) (by omega), s172 (Sg_rf t1.1) (fun a2 μ2 r2 => ?_)⟩
  rw [lq_972]
  exact l1115 h0 h1 hL nx (LT_g t1 (r2))
theorem l976 (h0 : 0 ≤ i) (h1 : i + 5 ≤ L) (hL : L ≤ 100000) (nx : LNx L S i) (h : LT μ) : qlw (some (L, S)) LWQ 976 [some (.inr (.inr (.inr 0))), some (.inr (.inr (.inl 0))), some (.inr (.inr (.inl 170))), some (.inl i)] [] μ := by
  have n3 : ¬ (0 : Nat) = 3 := by decide
  have f : ∀ k : Int, 1 ≤ k → k ≤ 4 → 0 ≤ q32 (i + k) ∧ q32 (i + k) < L := fun k q1 q2 => by
    rw [q32_id (by omega) (by omega)]
    omega
  rw [lq_976]
  refine s98 (Sg_rf h.1) (fun a1 μ1 r1 => ?_)
  have t1 := LT_g h (r1)
  rw [lq_980]
  refine s173 (Sg_rf t1.1) (fun a2 μ2 r2 => ?_)
  rw [lq_985]
  exact l1115 h0 h1 hL nx (LT_g t1 (r2))
theorem l989 (h0 : 0 ≤ i) (h1 : i + 5 ≤ L) (hL : L ≤ 100000) (nx : LNx L S i) (h : LT μ) : qlw (some (L, S)) LWQ 989 [some (.inr (.inr (.inr 0))), some (.inr (.inr (.inl 0))), some (.inr (.inr (.inl 170))), some (.inl i)] [] μ := by
  have n3 : ¬ (0 : Nat) = 3 := by decide
  have f : ∀ k : Int, 1 ≤ k → k ≤ 4 → 0 ≤ q32 (i + k) ∧ q32 (i + k) < L := fun k q1 q2 => by
    rw [q32_id (by omega) (by omega)]
    omega
  rw [lq_989]
  refine ⟨n3, f 1 (by omega) (by omega), n3, f 2 (by omega) (by omega), n3, f 3 (by omega) (by omega), s99 h.1 (fun a μ1 w hS e1 e2 => ?_) (fun w => ?_)⟩
  · rw [lq_1008]
    refine ⟨n3, f 1 (by omega) (by omega), n3, f 2 (by omega) (by omega), n3, f 3 (by omega) (by omega), s174 hS (fun b μ2 _ hS2 e3 e4 => ?_) (fun w2 => absurd w w2)⟩
    rw [lq_1028]
    exact l1115 h0 h1 hL nx ⟨hS2, by rw [e3, e4, e1, e2, h.2]⟩
  · rw [lq_1008]
    refine ⟨n3, f 1 (by omega) (by omega), n3, f 2 (by omega) (by omega), n3, f 3 (by omega) (by omega), s174 h.1 (fun b μ2 w2 _ _ _ => absurd w2 w) (fun _ => ?_)⟩
    rw [lq_1028]
    exact l1115 h0 h1 hL nx h
theorem l1032 (h0 : 0 ≤ i) (h1 : i + 5 ≤ L) (hL : L ≤ 100000) (nx : LNx L S i) (h : LT μ) : qlw (some (L, S)) LWQ 1032 [some (.inr (.inr (.inr 0))), some (.inr (.inr (.inl 0))), some (.inr (.inr (.inl 170))), some (.inl i)] [] μ := by
  have n3 : ¬ (0 : Nat) = 3 := by decide
  have f : ∀ k : Int, 1 ≤ k → k ≤ 4 → 0 ≤ q32 (i + k) ∧ q32 (i + k) < L := fun k q1 q2 => by
    rw [q32_id (by omega) (by omega)]
    omega
  rw [lq_1032]
  refine ⟨n3, f 1 (by omega) (by omega), s100 (Sg_rf h.1) (fun a1 μ1 r1 => ?_)⟩
  have t1 := LT_g h (r1)
  rw [lq_1041]
  refine ⟨n3, f 1 (by omega) (by omega), s177 (Sg_rf t1.1) (fun a2 μ2 r2 => ?_)⟩
  rw [lq_1051]
  exact l1115 h0 h1 hL nx (LT_g t1 (r2))
theorem l1055 (h0 : 0 ≤ i) (h1 : i + 5 ≤ L) (hL : L ≤ 100000) (nx : LNx L S i) (h : LT μ) : qlw (some (L, S)) LWQ 1055 [some (.inr (.inr (.inr 0))), some (.inr (.inr (.inl 0))), some (.inr (.inr (.inl 170))), some (.inl i)] [] μ := by
  have n3 : ¬ (0 : Nat) = 3 := by decide
  have f : ∀ k : Int, 1 ≤ k → k ≤ 4 → 0 ≤ q32 (i + k) ∧ q32 (i + k) < L := fun k q1 q2 => by
    rw [q32_id (by omega) (by omega)]
    omega
  rw [lq_1055]
  refine ⟨n3, f 1 (by omega) (by omega), s101 (Sg_rf h.1) (fun a1 μ1 r1 => ?_)⟩
  have t1 := LT_g h (r1)
  rw [lq_1064]
  refine ⟨n3, f 1 (by omega) (by omega), s178 (Sg_rf t1.1) (fun a2 μ2 r2 => ?_)⟩
  rw [lq_1074]
  exact l1115 h0 h1 hL nx (LT_g t1 (r2))
theorem l1078 (h0 : 0 ≤ i) (h1 : i + 5 ≤ L) (hL : L ≤ 100000) (nx : LNx L S i) (h : LT μ) : qlw (some (L, S)) LWQ 1078 [some (.inr (.inr (.inr 0))), some (.inr (.inr (.inl 0))), some (.inr (.inr (.inl 170))), some (.inl i)] [] μ := by
  have n3 : ¬ (0 : Nat) = 3 := by decide
  have f : ∀ k : Int, 1 ≤ k → k ≤ 4 → 0 ≤ q32 (i + k) ∧ q32 (i + k) < L := fun k q1 q2 => by
    rw [q32_id (by omega) (by omega)]
    omega
  rw [lq_1078]
  refine ⟨n3, f 1 (by omega) (by omega), s102 (Sr_rf h.1) (fun a1 μ1 r1 => ?_)⟩
  have t1 := LT_g h (Sg_r r1)
  rw [lq_1087]
  refine ⟨n3, f 1 (by omega) (by omega), s179 (Sr_rf t1.1) (fun a2 μ2 r2 => ?_)⟩
  rw [lq_1097]
  exact l1115 h0 h1 hL nx (LT_g t1 (Sg_r r2))
theorem l1101 (h0 : 0 ≤ i) (h1 : i + 5 ≤ L) (hL : L ≤ 100000) (nx : LNx L S i) (h : LT μ) : qlw (some (L, S)) LWQ 1101 [some (.inr (.inr (.inr 0))), some (.inr (.inr (.inl 0))), some (.inr (.inr (.inl 170))), some (.inl i)] [] μ := by
  have n3 : ¬ (0 : Nat) = 3 := by decide
  have f : ∀ k : Int, 1 ≤ k → k ≤ 4 → 0 ≤ q32 (i + k) ∧ q32 (i + k) < L := fun k q1 q2 => by
    rw [q32_id (by omega) (by omega)]
    omega
  rw [lq_1101, e103, g103_0, lq_1105, e180, g180_0, lq_1109]
  have e9 : qlcmp (μ 0 6) (μ 170 0) = 0 := by
    unfold qlcmp
    rw [h.2, if_neg (by omega), if_pos rfl]
  exact ⟨fun _ => l1115 h0 h1 hL nx h, fun q => absurd e9 q⟩
theorem lloop (hL0 : 0 ≤ L) (hL : L ≤ 100000) : ∀ i, i ≤ L → 0 ≤ i → ∀ μ, LT μ → qlw (some (L, S)) LWQ 18 [some (.inr (.inr (.inr 0))), some (.inr (.inr (.inl 0))), some (.inr (.inr (.inl 170))), some (.inl i)] [] μ := by
  refine qup L (fun i ih hB h0 μ h => ?_)
  rw [lq_18]
  refine ⟨by decide, Or.inl ⟨rfl, ?_⟩⟩
  rw [lq_21, q32_id (by omega) (by omega)]
  refine ⟨fun _ => rfl, fun q => ⟨by decide, ⟨h0, by omega⟩, ?_⟩⟩
  have h1 : i + 5 ≤ L := by omega
  have nx : LNx L S i := fun ν hν => ih (i + 5) (by omega) (by omega) (by omega) ν hν
  clear ih
  exact ⟨fun _ => l1115 h0 h1 hL nx h, fun _ => l160 h0 h1 hL nx h, fun _ => l223 h0 h1 hL nx h, fun _ => l236 h0 h1 hL nx h, fun _ => l249 h0 h1 hL nx h, fun _ => l282 h0 h1 hL nx h, fun _ => l335 h0 h1 hL nx h, fun _ => l388 h0 h1 hL nx h, fun _ => l431 h0 h1 hL nx h, fun _ => l464 h0 h1 hL nx h, fun _ => l507 h0 h1 hL nx h, fun _ => l540 h0 h1 hL nx h, fun _ => l593 h0 h1 hL nx h, fun _ => l636 h0 h1 hL nx h, fun _ => l669 h0 h1 hL nx h, fun _ => l702 h0 h1 hL nx h, fun _ => l755 h0 h1 hL nx h, fun _ => l778 h0 h1 hL nx h, fun _ => l811 h0 h1 hL nx h, fun _ => l844 h0 h1 hL nx h, fun _ => l887 h0 h1 hL nx h, fun _ => l910 h0 h1 hL nx h, fun _ => l943 h0 h1 hL nx h, fun _ => l976 h0 h1 hL nx h, fun _ => l989 h0 h1 hL nx h, fun _ => l1032 h0 h1 hL nx h, fun _ => l1055 h0 h1 hL nx h, fun _ => l1078 h0 h1 hL nx h, fun _ => l1101 h0 h1 hL nx h, trivial⟩
end LO
