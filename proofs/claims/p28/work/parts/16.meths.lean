theorem zmD_ok {M : zM} {q : Nat × Nat × Nat × Nat} {hs : List Nat} (h : zmD M q hs = true) : (zmB M = true ∧ zmV M = true) ∧ (M.1.name = "<init>" → M.2.2.2.1 = none) ∧ zfM M.1.cls M.2.2.1 (decide (M.1.name = "<init>")) M.2.1 M.2.2.2.2.2 = true := by
  unfold zmD at h
  simp only [Bool.and_eq_true] at h
  refine ⟨⟨zmG_mono (fun _ w => zinA_ok w) (fun _ w => zinA_ok w) (fun _ w => zinA_ok w) h.1, zmW_mono (fun _ w => zinA_ok w) h.2.1⟩, fun hi => ?_, zfD_ok h.2.2.2⟩
  have h3 := h.2.2.1
  rw [Bool.or_eq_true] at h3
  rcases h3 with w | w
  · rw [decide_eq_true hi] at w
    cases w
  · exact of_decide_eq_true w
abbrev zmok (M : zM) : Prop := (zmB M = true ∧ zmV M = true) ∧ (M.1.name = "<init>" → M.2.2.2.1 = none) ∧ zfM M.1.cls M.2.2.1 (decide (M.1.name = "<init>")) M.2.1 M.2.2.2.2.2 = true
theorem zmr_0 : ∀ M ∈ zms_0, zmok M := List.forall_mem_cons.mpr ⟨zmD_ok zck_X0_init, List.forall_mem_cons.mpr ⟨zmD_ok zck_X1_init, List.forall_mem_cons.mpr ⟨zmD_ok zck_X2_init, List.forall_mem_cons.mpr ⟨zmD_ok zck_X3_init, List.forall_mem_cons.mpr ⟨zmD_ok zck_X4_init, List.forall_mem_cons.mpr ⟨zmD_ok zck_X5_init, List.forall_mem_cons.mpr ⟨zmD_ok zck_X6_init, List.forall_mem_cons.mpr ⟨zmD_ok zck_X7_init, List.forall_mem_cons.mpr ⟨zmD_ok zck_X8_init, List.forall_mem_cons.mpr ⟨zmD_ok zck_X9_init, List.forall_mem_cons.mpr ⟨zmD_ok zck_X10_init, fun _ h => by cases h⟩⟩⟩⟩⟩⟩⟩⟩⟩⟩⟩
theorem zmr : ∀ r ∈ zms, ∀ M ∈ r, zmok M := List.forall_mem_cons.mpr ⟨zmr_0, fun _ h => by cases h⟩
theorem zma : ∀ j M, zmt j = some M → zmok M := fun j M h => by
  unfold zmt at h
  split at h
  · rename_i r hr
    exact zmr r (znt_mem hr) M (znt_mem h)
  · cases h
theorem zlw_ok : ∀ x ∈ zlaw, decode cL_law x.1 = .ok (x.2.1, x.2.2.1) ∧ zfB RL 4 false x.2.2.1 x.2.2.2.1 x.2.2.2.2 x.1 x.2.1 = true := fun x hx => by
  have := List.all_eq_true.mp (zfD_ok zlk_0) x hx
  rw [Bool.and_eq_true] at this
  exact ⟨of_decide_eq_true this.1, this.2⟩
