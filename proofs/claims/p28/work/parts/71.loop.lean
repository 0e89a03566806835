/-! THE LAW'S LOOP -/
section LO
variable {L : Int} {S : Int → Int} {i : Int} {μ : qM} {Q : qV → qM → Prop}
abbrev LWQ : qV → qM → Prop := fun v _ => v = .inl 1
abbrev LNx (L : Int) (S : Int → Int) (i : Int) : Prop := ∀ ν, R4 ν → qlw (some (L, S)) LWQ 18 [some (.inr (.inr (.inr 0))), some (.inr (.inr (.inl 0))), some (.inr (.inr (.inl 170))), some (.inl (i + 5))] [] ν
theorem lnx (h0 : 0 ≤ i) (h1 : i + 5 ≤ L) (hL : L ≤ 100000) (nx : LNx L S i) (h : R4 μ) : qlw (some (L, S)) LWQ 1114 [some (.inr (.inr (.inr 0))), some (.inr (.inr (.inl 0))), some (.inr (.inr (.inl 170))), some (.inl i)] [] μ := by
  rw [lq_1114, q32_id (by omega) (by omega)]
  exact nx _ h
theorem l160 (h0 : 0 ≤ i) (h1 : i + 5 ≤ L) (hL : L ≤ 100000) (nx : LNx L S i) (h : R4 μ) : qlw (some (L, S)) LWQ 160 [some (.inr (.inr (.inr 0))), some (.inr (.inr (.inl 0))), some (.inr (.inr (.inl 170))), some (.inl i)] [] μ := by
  have n3 : ¬ (0 : Nat) = 3 := by decide
  have f : ∀ k : Int, 1 ≤ k → k ≤ 4 → 0 ≤ q32 (i + k) ∧ q32 (i + k) < L := fun k q1 q2 => by
    rw [q32_id (by omega) (by omega)]
    omega
  rw [lq_160]
  refine ⟨n3, f 1 (by omega) (by omega), n3, f 2 (by omega) (by omega), n3, f 3 (by omega) (by omega), qmw_cm 20 _ _ _ _ _ (fun v ν q => ?_) (pd76 h)⟩
  obtain ⟨a, rfl, q⟩ := q
  rw [lq_189]
  refine ⟨n3, f 1 (by omega) (by omega), n3, f 2 (by omega) (by omega), n3, f 3 (by omega) (by omega), qmw_cm 20 _ _ _ _ _ (fun w ν2 q2 => ?_) q⟩
  obtain ⟨rfl, q2⟩ := q2
  rw [lq_219]
  exact lnx h0 h1 hL nx q2
theorem l223 (h0 : 0 ≤ i) (h1 : i + 5 ≤ L) (hL : L ≤ 100000) (nx : LNx L S i) (h : R4 μ) : qlw (some (L, S)) LWQ 223 [some (.inr (.inr (.inr 0))), some (.inr (.inr (.inl 0))), some (.inr (.inr (.inl 170))), some (.inl i)] [] μ := by
  have n3 : ¬ (0 : Nat) = 3 := by decide
  have f : ∀ k : Int, 1 ≤ k → k ≤ 4 → 0 ≤ q32 (i + k) ∧ q32 (i + k) < L := fun k q1 q2 => by
    rw [q32_id (by omega) (by omega)]
    omega
  rw [lq_223]
  refine qmw_cm 20 _ _ _ _ _ (fun v ν q => ?_) (pd77 h)
  obtain ⟨a, rfl, q⟩ := q
  rw [lq_227]
  refine qmw_cm 20 _ _ _ _ _ (fun w ν2 q2 => ?_) q
  obtain ⟨rfl, q2⟩ := q2
  rw [lq_232]
  exact lnx h0 h1 hL nx q2
theorem l236 (h0 : 0 ≤ i) (h1 : i + 5 ≤ L) (hL : L ≤ 100000) (nx : LNx L S i) (h : R4 μ) : qlw (some (L, S)) LWQ 236 [some (.inr (.inr (.inr 0))), some (.inr (.inr (.inl 0))), some (.inr (.inr (.inl 170))), some (.inl i)] [] μ := by
  have n3 : ¬ (0 : Nat) = 3 := by decide
  have f : ∀ k : Int, 1 ≤ k → k ≤ 4 → 0 ≤ q32 (i + k) ∧ q32 (i + k) < L := fun k q1 q2 => by
    rw [q32_id (by omega) (by omega)]
    omega
  rw [lq_236]
  refine qmw_cm 20 _ _ _ _ _ (fun v ν q => ?_) (wd78 h)
  obtain ⟨a, rfl, q⟩ := q
  rw [lq_240]
  refine qmw_cm 20 _ _ _ _ _ (fun w ν2 q2 => ?_) q
  obtain ⟨b, rfl, q2⟩ := q2
  rw [lq_245]
  exact lnx h0 h1 hL nx q2
theorem l249 (h0 : 0 ≤ i) (h1 : i + 5 ≤ L) (hL : L ≤ 100000) (nx : LNx L S i) (h : R4 μ) : qlw (some (L, S)) LWQ 249 [some (.inr (.inr (.inr 0))), some (.inr (.inr (.inl 0))), some (.inr (.inr (.inl 170))), some (.inl i)] [] μ := by
  have n3 : ¬ (0 : Nat) = 3 := by decide
  have f : ∀ k : Int, 1 ≤ k → k ≤ 4 → 0 ≤ q32 (i + k) ∧ q32 (i + k) < L := fun k q1 q2 => by
    rw [q32_id (by omega) (by omega)]
    omega
  rw [lq_249]
  refine ⟨n3, f 1 (by omega) (by omega), n3, f 2 (by omega) (by omega), qmw_cm 20 _ _ _ _ _ (fun v ν q => ?_) (pd79 h)⟩
  obtain ⟨a, rfl, q⟩ := q
  rw [lq_263]
  refine ⟨n3, f 1 (by omega) (by omega), n3, f 2 (by omega) (by omega), qmw_cm 20 _ _ _ _ _ (fun w ν2 q2 => ?_) q⟩
  obtain ⟨rfl, q2⟩ := q2
  rw [lq_278]
  exact lnx h0 h1 hL nx q2
theorem l282 (h0 : 0 ≤ i) (h1 : i + 5 ≤ L) (hL : L ≤ 100000) (nx : LNx L S i) (h : R4 μ) : qlw (some (L, S)) LWQ 282 [some (.inr (.inr (.inr 0))), some (.inr (.inr (.inl 0))), some (.inr (.inr (.inl 170))), some (.inl i)] [] μ := by
  have n3 : ¬ (0 : Nat) = 3 := by decide
  have f : ∀ k : Int, 1 ≤ k → k ≤ 4 → 0 ≤ q32 (i + k) ∧ q32 (i + k) < L := fun k q1 q2 => by
    rw [q32_id (by omega) (by omega)]
    omega
  rw [lq_282]
  refine ⟨n3, f 1 (by omega) (by omega), n3, f 2 (by omega) (by omega), n3, f 3 (by omega) (by omega), n3, f 4 (by omega) (by omega), qmw_cm 20 _ _ _ _ _ (fun v ν q => ?_) (pd80 h)⟩
  obtain ⟨a, rfl, q⟩ := q
  rw [lq_306]
  refine ⟨n3, f 1 (by omega) (by omega), n3, f 2 (by omega) (by omega), n3, f 3 (by omega) (by omega), n3, f 4 (by omega) (by omega), qmw_cm 20 _ _ _ _ _ (fun w ν2 q2 => ?_) q⟩
  obtain ⟨rfl, q2⟩ := q2
  rw [lq_331]
  exact lnx h0 h1 hL nx q2
theorem l335 (h0 : 0 ≤ i) (h1 : i + 5 ≤ L) (hL : L ≤ 100000) (nx : LNx L S i) (h : R4 μ) : qlw (some (L, S)) LWQ 335 [some (.inr (.inr (.inr 0))), some (.inr (.inr (.inl 0))), some (.inr (.inr (.inl 170))), some (.inl i)] [] μ := by
  have n3 : ¬ (0 : Nat) = 3 := by decide
  have f : ∀ k : Int, 1 ≤ k → k ≤ 4 → 0 ≤ q32 (i + k) ∧ q32 (i + k) < L := fun k q1 q2 => by
    rw [q32_id (by omega) (by omega)]
    omega
  rw [lq_335]
  refine ⟨n3, f 1 (by omega) (by omega), n3, f 2 (by omega) (by omega), n3, f 3 (by omega) (by omega), n3, f 4 (by omega) (by omega), qmw_cm 20 _ _ _ _ _ (fun v ν q => ?_) (pd81 h)⟩
  obtain ⟨a, rfl, q⟩ := q
  rw [lq_359]
  refine ⟨n3, f 1 (by omega) (by omega), n3, f 2 (by omega) (by omega), n3, f 3 (by omega) (by omega), n3, f 4 (by omega) (by omega), qmw_cm 20 _ _ _ _ _ (fun w ν2 q2 => ?_) q⟩
  obtain ⟨rfl, q2⟩ := q2
  rw [lq_384]
  exact lnx h0 h1 hL nx q2
theorem l388 (h0 : 0 ≤ i) (h1 : i + 5 ≤ L) (hL : L ≤ 100000) (nx : LNx L S i) (h : R4 μ) : qlw (some (L, S)) LWQ 388 [some (.inr (.inr (.inr 0))), some (.inr (.inr (.inl 0))), some (.inr (.inr (.inl 170))), some (.inl i)] [] μ := by
  have n3 : ¬ (0 : Nat) = 3 := by decide
  have f : ∀ k : Int, 1 ≤ k → k ≤ 4 → 0 ≤ q32 (i + k) ∧ q32 (i + k) < L := fun k q1 q2 => by
    rw [q32_id (by omega) (by omega)]
    omega
  rw [lq_388]
  refine ⟨n3, f 1 (by omega) (by omega), n3, f 2 (by omega) (by omega), n3, f 3 (by omega) (by omega), qmw_cm 20 _ _ _ _ _ (fun v ν q => ?_) (pd82 h)⟩
  obtain ⟨a, rfl, q⟩ := q
  rw [lq_407]
  refine ⟨n3, f 1 (by omega) (by omega), n3, f 2 (by omega) (by omega), n3, f 3 (by omega) (by omega), qmw_cm 20 _ _ _ _ _ (fun w ν2 q2 => ?_) q⟩
  obtain ⟨rfl, q2⟩ := q2
  rw [lq_427]
  exact lnx h0 h1 hL nx q2
theorem l431 (h0 : 0 ≤ i) (h1 : i + 5 ≤ L) (hL : L ≤ 100000) (nx : LNx L S i) (h : R4 μ) : qlw (some (L, S)) LWQ 431 [some (.inr (.inr (.inr 0))), some (.inr (.inr (.inl 0))), some (.inr (.inr (.inl 170))), some (.inl i)] [] μ := by
  have n3 : ¬ (0 : Nat) = 3 := by decide
  have f : ∀ k : Int, 1 ≤ k → k ≤ 4 → 0 ≤ q32 (i + k) ∧ q32 (i + k) < L := fun k q1 q2 => by
    rw [q32_id (by omega) (by omega)]
    omega
  rw [lq_431]
  refine ⟨n3, f 1 (by omega) (by omega), n3, f 2 (by omega) (by omega), qmw_cm 20 _ _ _ _ _ (fun v ν q => ?_) (pd83 h)⟩
  obtain ⟨a, rfl, q⟩ := q
  rw [lq_445]
  refine ⟨n3, f 1 (by omega) (by omega), n3, f 2 (by omega) (by omega), qmw_cm 20 _ _ _ _ _ (fun w ν2 q2 => ?_) q⟩
  obtain ⟨rfl, q2⟩ := q2
  rw [lq_460]
  exact lnx h0 h1 hL nx q2
theorem l464 (h0 : 0 ≤ i) (h1 : i + 5 ≤ L) (hL : L ≤ 100000) (nx : LNx L S i) (h : R4 μ) : qlw (some (L, S)) LWQ 464 [some (.inr (.inr (.inr 0))), some (.inr (.inr (.inl 0))), some (.inr (.inr (.inl 170))), some (.inl i)] [] μ := by
  have n3 : ¬ (0 : Nat) = 3 := by decide
  have f : ∀ k : Int, 1 ≤ k → k ≤ 4 → 0 ≤ q32 (i + k) ∧ q32 (i + k) < L := fun k q1 q2 => by
    rw [q32_id (by omega) (by omega)]
    omega
  rw [lq_464]
  refine ⟨n3, f 1 (by omega) (by omega), n3, f 2 (by omega) (by omega), n3, f 3 (by omega) (by omega), qmw_cm 20 _ _ _ _ _ (fun v ν q => ?_) (pd84 h)⟩
  obtain ⟨a, rfl, q⟩ := q
  rw [lq_483]
  refine ⟨n3, f 1 (by omega) (by omega), n3, f 2 (by omega) (by omega), n3, f 3 (by omega) (by omega), qmw_cm 20 _ _ _ _ _ (fun w ν2 q2 => ?_) q⟩
  obtain ⟨rfl, q2⟩ := q2
  rw [lq_503]
  exact lnx h0 h1 hL nx q2
theorem l507 (h0 : 0 ≤ i) (h1 : i + 5 ≤ L) (hL : L ≤ 100000) (nx : LNx L S i) (h : R4 μ) : qlw (some (L, S)) LWQ 507 [some (.inr (.inr (.inr 0))), some (.inr (.inr (.inl 0))), some (.inr (.inr (.inl 170))), some (.inl i)] [] μ := by
  have n3 : ¬ (0 : Nat) = 3 := by decide
  have f : ∀ k : Int, 1 ≤ k → k ≤ 4 → 0 ≤ q32 (i + k) ∧ q32 (i + k) < L := fun k q1 q2 => by
    rw [q32_id (by omega) (by omega)]
    omega
  rw [lq_507]
  refine ⟨n3, f 1 (by omega) (by omega), n3, f 2 (by omega) (by omega), qmw_cm 20 _ _ _ _ _ (fun v ν q => ?_) (pd85 h)⟩
  obtain ⟨a, rfl, q⟩ := q
  rw [lq_521]
  refine ⟨n3, f 1 (by omega) (by omega), n3, f 2 (by omega) (by omega), qmw_cm 20 _ _ _ _ _ (fun w ν2 q2 => ?_) q⟩
  obtain ⟨rfl, q2⟩ := q2
  rw [lq_536]
  exact lnx h0 h1 hL nx q2
theorem l540 (h0 : 0 ≤ i) (h1 : i + 5 ≤ L) (hL : L ≤ 100000) (nx : LNx L S i) (h : R4 μ) : qlw (some (L, S)) LWQ 540 [some (.inr (.inr (.inr 0))), some (.inr (.inr (.inl 0))), some (.inr (.inr (.inl 170))), some (.inl i)] [] μ := by
  have n3 : ¬ (0 : Nat) = 3 := by decide
  have f : ∀ k : Int, 1 ≤ k → k ≤ 4 → 0 ≤ q32 (i + k) ∧ q32 (i + k) < L := fun k q1 q2 => by
    rw [q32_id (by omega) (by omega)]
    omega
  rw [lq_540]
  refine ⟨n3, f 1 (by omega) (by omega), n3, f 2 (by omega) (by omega), n3, f 3 (by omega) (by omega), n3, f 4 (by omega) (by omega), qmw_cm 20 _ _ _ _ _ (fun v ν q => ?_) (pd86 h)⟩
  obtain ⟨a, rfl, q⟩ := q
  rw [lq_564]
  refine ⟨n3, f 1 (by omega) (by omega), n3, f 2 (by omega) (by omega), n3, f 3 (by omega) (by omega), n3, f 4 (by omega) (by omega), qmw_cm 20 _ _ _ _ _ (fun w ν2 q2 => ?_) q⟩
  obtain ⟨rfl, q2⟩ := q2
  rw [lq_589]
  exact lnx h0 h1 hL nx q2
theorem l593 (h0 : 0 ≤ i) (h1 : i + 5 ≤ L) (hL : L ≤ 100000) (nx : LNx L S i) (h : R4 μ) : qlw (some (L, S)) LWQ 593 [some (.inr (.inr (.inr 0))), some (.inr (.inr (.inl 0))), some (.inr (.inr (.inl 170))), some (.inl i)] [] μ := by
  have n3 : ¬ (0 : Nat) = 3 := by decide
  have f : ∀ k : Int, 1 ≤ k → k ≤ 4 → 0 ≤ q32 (i + k) ∧ q32 (i + k) < L := fun k q1 q2 => by
    rw [q32_id (by omega) (by omega)]
    omega
  rw [lq_593]
  refine ⟨n3, f 1 (by omega) (by omega), n3, f 2 (by omega) (by omega), n3, f 3 (by omega) (by omega), qmw_cm 20 _ _ _ _ _ (fun v ν q => ?_) (pd87 h)⟩
  obtain ⟨a, rfl, q⟩ := q
  rw [lq_612]
  refine ⟨n3, f 1 (by omega) (by omega), n3, f 2 (by omega) (by omega), n3, f 3 (by omega) (by omega), qmw_cm 20 _ _ _ _ _ (fun w ν2 q2 => ?_) q⟩
  obtain ⟨rfl, q2⟩ := q2
  rw [lq_632]
  exact lnx h0 h1 hL nx q2
theorem l636 (h0 : 0 ≤ i) (h1 : i + 5 ≤ L) (hL : L ≤ 100000) (nx : LNx L S i) (h : R4 μ) : qlw (some (L, S)) LWQ 636 [some (.inr (.inr (.inr 0))), some (.inr (.inr (.inl 0))), some (.inr (.inr (.inl 170))), some (.inl i)] [] μ := by
  have n3 : ¬ (0 : Nat) = 3 := by decide
  have f : ∀ k : Int, 1 ≤ k → k ≤ 4 → 0 ≤ q32 (i + k) ∧ q32 (i + k) < L := fun k q1 q2 => by
    rw [q32_id (by omega) (by omega)]
    omega
  rw [lq_636]
  refine ⟨n3, f 1 (by omega) (by omega), n3, f 2 (by omega) (by omega), qmw_cm 20 _ _ _ _ _ (fun v ν q => ?_) (pd88 h)⟩
  obtain ⟨a, rfl, q⟩ := q
  rw [lq_650]
  refine ⟨n3, f 1 (by omega) (by omega), n3, f 2 (by omega) (by omega), qmw_cm 20 _ _ _ _ _ (fun w ν2 q2 => ?_) q⟩
  obtain ⟨rfl, q2⟩ := q2
  rw [lq_665]
  exact lnx h0 h1 hL nx q2
theorem l669 (h0 : 0 ≤ i) (h1 : i + 5 ≤ L) (hL : L ≤ 100000) (nx : LNx L S i) (h : R4 μ) : qlw (some (L, S)) LWQ 669 [some (.inr (.inr (.inr 0))), some (.inr (.inr (.inl 0))), some (.inr (.inr (.inl 170))), some (.inl i)] [] μ := by
  have n3 : ¬ (0 : Nat) = 3 := by decide
  have f : ∀ k : Int, 1 ≤ k → k ≤ 4 → 0 ≤ q32 (i + k) ∧ q32 (i + k) < L := fun k q1 q2 => by
    rw [q32_id (by omega) (by omega)]
    omega
  rw [lq_669]
  refine ⟨n3, f 1 (by omega) (by omega), n3, f 2 (by omega) (by omega), qmw_cm 20 _ _ _ _ _ (fun v ν q => ?_) (pd89 h)⟩
  obtain ⟨a, rfl, q⟩ := q
  rw [lq_683]
  refine ⟨n3, f 1 (by omega) (by omega), n3, f 2 (by omega) (by omega), qmw_cm 20 _ _ _ _ _ (fun w ν2 q2 => ?_) q⟩
  obtain ⟨rfl, q2⟩ := q2
  rw [lq_698]
  exact lnx h0 h1 hL nx q2
theorem l702 (h0 : 0 ≤ i) (h1 : i + 5 ≤ L) (hL : L ≤ 100000) (nx : LNx L S i) (h : R4 μ) : qlw (some (L, S)) LWQ 702 [some (.inr (.inr (.inr 0))), some (.inr (.inr (.inl 0))), some (.inr (.inr (.inl 170))), some (.inl i)] [] μ := by
  have n3 : ¬ (0 : Nat) = 3 := by decide
  have f : ∀ k : Int, 1 ≤ k → k ≤ 4 → 0 ≤ q32 (i + k) ∧ q32 (i + k) < L := fun k q1 q2 => by
    rw [q32_id (by omega) (by omega)]
    omega
  rw [lq_702]
  refine ⟨n3, f 1 (by omega) (by omega), n3, f 2 (by omega) (by omega), n3, f 3 (by omega) (by omega), n3, f 4 (by omega) (by omega), qmw_cm 20 _ _ _ _ _ (fun v ν q => ?_) (pd90 h)⟩
  obtain ⟨a, rfl, q⟩ := q
  rw [lq_726]
  refine ⟨n3, f 1 (by omega) (by omega), n3, f 2 (by omega) (by omega), n3, f 3 (by omega) (by omega), n3, f 4 (by omega) (by omega), qmw_cm 20 _ _ _ _ _ (fun w ν2 q2 => ?_) q⟩
  obtain ⟨rfl, q2⟩ := q2
  rw [lq_751]
  exact lnx h0 h1 hL nx q2
theorem l755 (h0 : 0 ≤ i) (h1 : i + 5 ≤ L) (hL : L ≤ 100000) (nx : LNx L S i) (h : R4 μ) : qlw (some (L, S)) LWQ 755 [some (.inr (.inr (.inr 0))), some (.inr (.inr (.inl 0))), some (.inr (.inr (.inl 170))), some (.inl i)] [] μ := by
  have n3 : ¬ (0 : Nat) = 3 := by decide
  have f : ∀ k : Int, 1 ≤ k → k ≤ 4 → 0 ≤ q32 (i + k) ∧ q32 (i + k) < L := fun k q1 q2 => by
    rw [q32_id (by omega) (by omega)]
    omega
  rw [lq_755]
  refine ⟨n3, f 1 (by omega) (by omega), qmw_cm 20 _ _ _ _ _ (fun v ν q => ?_) (pd91 h)⟩
  obtain ⟨a, rfl, q⟩ := q
  rw [lq_764]
  refine ⟨n3, f 1 (by omega) (by omega), qmw_cm 20 _ _ _ _ _ (fun w ν2 q2 => ?_) q⟩
  obtain ⟨rfl, q2⟩ := q2
  rw [lq_774]
  exact lnx h0 h1 hL nx q2
theorem l778 (h0 : 0 ≤ i) (h1 : i + 5 ≤ L) (hL : L ≤ 100000) (nx : LNx L S i) (h : R4 μ) : qlw (some (L, S)) LWQ 778 [some (.inr (.inr (.inr 0))), some (.inr (.inr (.inl 0))), some (.inr (.inr (.inl 170))), some (.inl i)] [] μ := by
  have n3 : ¬ (0 : Nat) = 3 := by decide
  have f : ∀ k : Int, 1 ≤ k → k ≤ 4 → 0 ≤ q32 (i + k) ∧ q32 (i + k) < L := fun k q1 q2 => by
    rw [q32_id (by omega) (by omega)]
    omega
  rw [lq_778]
  refine ⟨n3, f 1 (by omega) (by omega), n3, f 2 (by omega) (by omega), qmw_cm 20 _ _ _ _ _ (fun v ν q => ?_) (pd92 h)⟩
  obtain ⟨a, rfl, q⟩ := q
  rw [lq_792]
  refine ⟨n3, f 1 (by omega) (by omega), n3, f 2 (by omega) (by omega), qmw_cm 20 _ _ _ _ _ (fun w ν2 q2 => ?_) q⟩
  obtain ⟨rfl, q2⟩ := q2
  rw [lq_807]
  exact lnx h0 h1 hL nx q2
theorem l811 (h0 : 0 ≤ i) (h1 : i + 5 ≤ L) (hL : L ≤ 100000) (nx : LNx L S i) (h : R4 μ) : qlw (some (L, S)) LWQ 811 [some (.inr (.inr (.inr 0))), some (.inr (.inr (.inl 0))), some (.inr (.inr (.inl 170))), some (.inl i)] [] μ := by
  have n3 : ¬ (0 : Nat) = 3 := by decide
  have f : ∀ k : Int, 1 ≤ k → k ≤ 4 → 0 ≤ q32 (i + k) ∧ q32 (i + k) < L := fun k q1 q2 => by
    rw [q32_id (by omega) (by omega)]
    omega
  rw [lq_811]
  refine ⟨n3, f 1 (by omega) (by omega), n3, f 2 (by omega) (by omega), qmw_cm 20 _ _ _ _ _ (fun v ν q => ?_) (pd93 h)⟩
  obtain ⟨a, rfl, q⟩ := q
  rw [lq_825]
  refine ⟨n3, f 1 (by omega) (by omega), n3, f 2 (by omega) (by omega), qmw_cm 20 _ _ _ _ _ (fun w ν2 q2 => ?_) q⟩
  obtain ⟨rfl, q2⟩ := q2
  rw [lq_840]
  exact lnx h0 h1 hL nx q2
theorem l844 (h0 : 0 ≤ i) (h1 : i + 5 ≤ L) (hL : L ≤ 100000) (nx : LNx L S i) (h : R4 μ) : qlw (some (L, S)) LWQ 844 [some (.inr (.inr (.inr 0))), some (.inr (.inr (.inl 0))), some (.inr (.inr (.inl 170))), some (.inl i)] [] μ := by
  have n3 : ¬ (0 : Nat) = 3 := by decide
  have f : ∀ k : Int, 1 ≤ k → k ≤ 4 → 0 ≤ q32 (i + k) ∧ q32 (i + k) < L := fun k q1 q2 => by
    rw [q32_id (by omega) (by omega)]
    omega
  rw [lq_844]
  refine ⟨n3, f 1 (by omega) (by omega), n3, f 2 (by omega) (by omega), n3, f 3 (by omega) (by omega), qmw_cm 20 _ _ _ _ _ (fun v ν q => ?_) (pd94 h)⟩
  obtain ⟨a, rfl, q⟩ := q
  rw [lq_863]
  refine ⟨n3, f 1 (by omega) (by omega), n3, f 2 (by omega) (by omega), n3, f 3 (by omega) (by omega), qmw_cm 20 _ _ _ _ _ (fun w ν2 q2 => ?_) q⟩
  obtain ⟨rfl, q2⟩ := q2
  rw [lq_883]
  exact lnx h0 h1 hL nx q2
theorem l887 (h0 : 0 ≤ i) (h1 : i + 5 ≤ L) (hL : L ≤ 100000) (nx : LNx L S i) (h : R4 μ) : qlw (some (L, S)) LWQ 887 [some (.inr (.inr (.inr 0))), some (.inr (.inr (.inl 0))), some (.inr (.inr (.inl 170))), some (.inl i)] [] μ := by
  have n3 : ¬ (0 : Nat) = 3 := by decide
  have f : ∀ k : Int, 1 ≤ k → k ≤ 4 → 0 ≤ q32 (i + k) ∧ q32 (i + k) < L := fun k q1 q2 => by
    rw [q32_id (by omega) (by omega)]
    omega
  rw [lq_887]
  refine ⟨n3, f 1 (by omega) (by omega), qmw_cm 20 _ _ _ _ _ (fun v ν q => ?_) (pd95 h)⟩
  obtain ⟨a, rfl, q⟩ := q
  rw [lq_896]
  refine ⟨n3, f 1 (by omega) (by omega), qmw_cm 20 _ _ _ _ _ (fun w ν2 q2 => ?_) q⟩
  obtain ⟨rfl, q2⟩ := q2
  rw [lq_906]
  exact lnx h0 h1 hL nx q2
theorem l910 (h0 : 0 ≤ i) (h1 : i + 5 ≤ L) (hL : L ≤ 100000) (nx : LNx L S i) (h : R4 μ) : qlw (some (L, S)) LWQ 910 [some (.inr (.inr (.inr 0))), some (.inr (.inr (.inl 0))), some (.inr (.inr (.inl 170))), some (.inl i)] [] μ := by
  have n3 : ¬ (0 : Nat) = 3 := by decide
  have f : ∀ k : Int, 1 ≤ k → k ≤ 4 → 0 ≤ q32 (i + k) ∧ q32 (i + k) < L := fun k q1 q2 => by
    rw [q32_id (by omega) (by omega)]
    omega
  rw [lq_910]
  refine ⟨n3, f 1 (by omega) (by omega), n3, f 2 (by omega) (by omega), qmw_cm 20 _ _ _ _ _ (fun v ν q => ?_) (pd96 h)⟩
  obtain ⟨a, rfl, q⟩ := q
  rw [lq_924]
  refine ⟨n3, f 1 (by omega) (by omega), n3, f 2 (by omega) (by omega), qmw_cm 20 _ _ _ _ _ (fun w ν2 q2 => ?_) q⟩
  obtain ⟨rfl, q2⟩ := q2
  rw [lq_939]
  exact lnx h0 h1 hL nx q2
theorem l943 (h0 : 0 ≤ i) (h1 : i + 5 ≤ L) (hL : L ≤ 100000) (nx : LNx L S i) (h : R4 μ) : qlw (some (L, S)) LWQ 943 [some (.inr (.inr (.inr 0))), some (.inr (.inr (.inl 0))), some (.inr (.inr (.inl 170))), some (.inl i)] [] μ := by
  have n3 : ¬ (0 : Nat) = 3 := by decide
  have f : ∀ k : Int, 1 ≤ k → k ≤ 4 → 0 ≤ q32 (i + k) ∧ q32 (i + k) < L := fun k q1 q2 => by
    rw [q32_id (by omega) (by omega)]
    omega
  rw [lq_943]
  refine ⟨n3, f 1 (by omega) (by omega), n3, f 2 (by omega) (by omega), qmw_cm 20 _ _ _ _ _ (fun v ν q => ?_) (pd97 h)⟩
  obtain ⟨a, rfl, q⟩ := q
  rw [lq_957]
  refine ⟨n3, f 1 (by omega) (by omega), n3, f 2 (by omega) (by omega), qmw_cm 20 _ _ _ _ _ (fun w ν2 q2 => ?_) q⟩
  obtain ⟨rfl, q2⟩ := q2
  rw [lq_972]
  exact lnx h0 h1 hL nx q2
theorem l976 (h0 : 0 ≤ i) (h1 : i + 5 ≤ L) (hL : L ≤ 100000) (nx : LNx L S i) (h : R4 μ) : qlw (some (L, S)) LWQ 976 [some (.inr (.inr (.inr 0))), some (.inr (.inr (.inl 0))), some (.inr (.inr (.inl 170))), some (.inl i)] [] μ := by
  have n3 : ¬ (0 : Nat) = 3 := by decide
  have f : ∀ k : Int, 1 ≤ k → k ≤ 4 → 0 ≤ q32 (i + k) ∧ q32 (i + k) < L := fun k q1 q2 => by
    rw [q32_id (by omega) (by omega)]
    omega
  rw [lq_976]
  refine qmw_cm 20 _ _ _ _ _ (fun v ν q => ?_) (pd98 h)
  obtain ⟨a, rfl, q⟩ := q
  rw [lq_980]
  refine qmw_cm 20 _ _ _ _ _ (fun w ν2 q2 => ?_) q
  obtain ⟨rfl, q2⟩ := q2
  rw [lq_985]
  exact lnx h0 h1 hL nx q2
theorem l989 (h0 : 0 ≤ i) (h1 : i + 5 ≤ L) (hL : L ≤ 100000) (nx : LNx L S i) (h : R4 μ) : qlw (some (L, S)) LWQ 989 [some (.inr (.inr (.inr 0))), some (.inr (.inr (.inl 0))), some (.inr (.inr (.inl 170))), some (.inl i)] [] μ := by
  have n3 : ¬ (0 : Nat) = 3 := by decide
  have f : ∀ k : Int, 1 ≤ k → k ≤ 4 → 0 ≤ q32 (i + k) ∧ q32 (i + k) < L := fun k q1 q2 => by
    rw [q32_id (by omega) (by omega)]
    omega
  rw [lq_989]
  refine ⟨n3, f 1 (by omega) (by omega), n3, f 2 (by omega) (by omega), n3, f 3 (by omega) (by omega), qmw_cm 20 _ _ _ _ _ (fun v ν q => ?_) (pd99 h)⟩
  obtain ⟨a, rfl, q⟩ := q
  rw [lq_1008]
  refine ⟨n3, f 1 (by omega) (by omega), n3, f 2 (by omega) (by omega), n3, f 3 (by omega) (by omega), qmw_cm 20 _ _ _ _ _ (fun w ν2 q2 => ?_) q⟩
  obtain ⟨rfl, q2⟩ := q2
  rw [lq_1028]
  exact lnx h0 h1 hL nx q2
theorem l1032 (h0 : 0 ≤ i) (h1 : i + 5 ≤ L) (hL : L ≤ 100000) (nx : LNx L S i) (h : R4 μ) : qlw (some (L, S)) LWQ 1032 [some (.inr (.inr (.inr 0))), some (.inr (.inr (.inl 0))), some (.inr (.inr (.inl 170))), some (.inl i)] [] μ := by
  have n3 : ¬ (0 : Nat) = 3 := by decide
  have f : ∀ k : Int, 1 ≤ k → k ≤ 4 → 0 ≤ q32 (i + k) ∧ q32 (i + k) < L := fun k q1 q2 => by
    rw [q32_id (by omega) (by omega)]
    omega
  rw [lq_1032]
  refine ⟨n3, f 1 (by omega) (by omega), qmw_cm 20 _ _ _ _ _ (fun v ν q => ?_) (pd100 h)⟩
  obtain ⟨a, rfl, q⟩ := q
  rw [lq_1041]
  refine ⟨n3, f 1 (by omega) (by omega), qmw_cm 20 _ _ _ _ _ (fun w ν2 q2 => ?_) q⟩
  obtain ⟨rfl, q2⟩ := q2
  rw [lq_1051]
  exact lnx h0 h1 hL nx q2
theorem l1055 (h0 : 0 ≤ i) (h1 : i + 5 ≤ L) (hL : L ≤ 100000) (nx : LNx L S i) (h : R4 μ) : qlw (some (L, S)) LWQ 1055 [some (.inr (.inr (.inr 0))), some (.inr (.inr (.inl 0))), some (.inr (.inr (.inl 170))), some (.inl i)] [] μ := by
  have n3 : ¬ (0 : Nat) = 3 := by decide
  have f : ∀ k : Int, 1 ≤ k → k ≤ 4 → 0 ≤ q32 (i + k) ∧ q32 (i + k) < L := fun k q1 q2 => by
    rw [q32_id (by omega) (by omega)]
    omega
  rw [lq_1055]
  refine ⟨n3, f 1 (by omega) (by omega), qmw_cm 20 _ _ _ _ _ (fun v ν q => ?_) (pd101 h)⟩
  obtain ⟨a, rfl, q⟩ := q
  rw [lq_1064]
  refine ⟨n3, f 1 (by omega) (by omega), qmw_cm 20 _ _ _ _ _ (fun w ν2 q2 => ?_) q⟩
  obtain ⟨rfl, q2⟩ := q2
  rw [lq_1074]
  exact lnx h0 h1 hL nx q2
theorem l1078 (h0 : 0 ≤ i) (h1 : i + 5 ≤ L) (hL : L ≤ 100000) (nx : LNx L S i) (h : R4 μ) : qlw (some (L, S)) LWQ 1078 [some (.inr (.inr (.inr 0))), some (.inr (.inr (.inl 0))), some (.inr (.inr (.inl 170))), some (.inl i)] [] μ := by
  have n3 : ¬ (0 : Nat) = 3 := by decide
  have f : ∀ k : Int, 1 ≤ k → k ≤ 4 → 0 ≤ q32 (i + k) ∧ q32 (i + k) < L := fun k q1 q2 => by
    rw [q32_id (by omega) (by omega)]
    omega
  rw [lq_1078]
  refine ⟨n3, f 1 (by omega) (by omega), qmw_cm 20 _ _ _ _ _ (fun v ν q => ?_) (pd102 h)⟩
  obtain ⟨a, rfl, q⟩ := q
  rw [lq_1087]
  refine ⟨n3, f 1 (by omega) (by omega), qmw_cm 20 _ _ _ _ _ (fun w ν2 q2 => ?_) q⟩
  obtain ⟨rfl, q2⟩ := q2
  rw [lq_1096]
  exact ⟨fun _ => lnx h0 h1 hL nx q2, fun q => absurd rfl q⟩
theorem l1101 (h0 : 0 ≤ i) (h1 : i + 5 ≤ L) (hL : L ≤ 100000) (nx : LNx L S i) (h : R4 μ) : qlw (some (L, S)) LWQ 1101 [some (.inr (.inr (.inr 0))), some (.inr (.inr (.inl 0))), some (.inr (.inr (.inl 170))), some (.inl i)] [] μ := by
  have n3 : ¬ (0 : Nat) = 3 := by decide
  have f : ∀ k : Int, 1 ≤ k → k ≤ 4 → 0 ≤ q32 (i + k) ∧ q32 (i + k) < L := fun k q1 q2 => by
    rw [q32_id (by omega) (by omega)]
    omega
  rw [lq_1101, e103, g103_0, lq_1105, e180, g180_0, lq_1110]
  exact lnx h0 h1 hL nx h
theorem lloop (hL0 : 0 ≤ L) (hL : L ≤ 100000) : ∀ i, i ≤ L → 0 ≤ i → ∀ μ, R4 μ → qlw (some (L, S)) LWQ 18 [some (.inr (.inr (.inr 0))), some (.inr (.inr (.inl 0))), some (.inr (.inr (.inl 170))), some (.inl i)] [] μ := by
  refine qup L (fun i ih hB h0 μ h => ?_)
  rw [lq_18]
  refine ⟨by decide, Or.inl ⟨rfl, ?_⟩⟩
  rw [lq_21, q32_id (by omega) (by omega)]
  refine ⟨fun _ => rfl, fun q => ⟨by decide, ⟨h0, by omega⟩, ?_⟩⟩
  have h1 : i + 5 ≤ L := by omega
  have nx : LNx L S i := fun ν hν => ih (i + 5) (by omega) (by omega) (by omega) ν hν
  clear ih
  exact ⟨fun _ => lnx h0 h1 hL nx h, fun _ => l160 h0 h1 hL nx h, fun _ => l223 h0 h1 hL nx h, fun _ => l236 h0 h1 hL nx h, fun _ => l249 h0 h1 hL nx h, fun _ => l282 h0 h1 hL nx h, fun _ => l335 h0 h1 hL nx h, fun _ => l388 h0 h1 hL nx h, fun _ => l431 h0 h1 hL nx h, fun _ => l464 h0 h1 hL nx h, fun _ => l507 h0 h1 hL nx h, fun _ => l540 h0 h1 hL nx h, fun _ => l593 h0 h1 hL nx h, fun _ => l636 h0 h1 hL nx h, fun _ => l669 h0 h1 hL nx h, fun _ => l702 h0 h1 hL nx h, fun _ => l755 h0 h1 hL nx h, fun _ => l778 h0 h1 hL nx h, fun _ => l811 h0 h1 hL nx h, fun _ => l844 h0 h1 hL nx h, fun _ => l887 h0 h1 hL nx h, fun _ => l910 h0 h1 hL nx h, fun _ => l943 h0 h1 hL nx h, fun _ => l976 h0 h1 hL nx h, fun _ => l989 h0 h1 hL nx h, fun _ => l1032 h0 h1 hL nx h, fun _ => l1055 h0 h1 hL nx h, fun _ => l1078 h0 h1 hL nx h, fun _ => l1101 h0 h1 hL nx h, trivial⟩
end LO
