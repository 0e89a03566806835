/-- a relation of locals that steps keep -/
def qrok (r : qL → qL → Prop) : Prop := (∀ a b k v, r a b → qg a k = some v → qg b k = some v) ∧ (∀ a b k v, r a b → r (qset a k v) (qset b k v)) ∧ (∀ a b k, r a b → r (qnone a k) (qnone b k))
section QM
variable {r : qL → qL → Prop} {K K' : qC} {ls' ls : qL} {st : List qV} {μ : qM}

theorem qm_iload {k : Nat} (hr : qrok r) (h : ∀ a b st μ, r a b → K a st μ → K' b st μ) (hl : r ls' ls)  : qs_iload k K ls' st μ → qs_iload k K' ls st μ := by
  intro hs
  unfold qs_iload at hs ⊢
  split at hs
  · rename_i a ha
    rw [hr.1 _ _ _ _ hl ha]
    exact h _ _ _ _ hl hs
  · exact hs.elim

theorem qm_lload {k : Nat} (hr : qrok r) (h : ∀ a b st μ, r a b → K a st μ → K' b st μ) (hl : r ls' ls)  : qs_lload k K ls' st μ → qs_lload k K' ls st μ := by
  intro hs
  unfold qs_lload at hs ⊢
  split at hs
  · rename_i a ha
    rw [hr.1 _ _ _ _ hl ha]
    exact h _ _ _ _ hl hs
  · exact hs.elim

theorem qm_aload {k : Nat} (hr : qrok r) (h : ∀ a b st μ, r a b → K a st μ → K' b st μ) (hl : r ls' ls)  : qs_aload k K ls' st μ → qs_aload k K' ls st μ := by
  intro hs
  unfold qs_aload at hs ⊢
  split at hs
  · rename_i a ha
    rw [hr.1 _ _ _ _ hl ha]
    exact h _ _ _ _ hl hs
  · rename_i a ha
    rw [hr.1 _ _ _ _ hl ha]
    exact ⟨hs.1, h _ _ _ _ hl hs.2⟩
  · exact hs.elim

theorem qm_iinc {k : Nat} {n : Int} (hr : qrok r) (h : ∀ a b st μ, r a b → K a st μ → K' b st μ) (hl : r ls' ls)  : qs_iinc k n K ls' st μ → qs_iinc k n K' ls st μ := by
  intro hs
  unfold qs_iinc at hs ⊢
  split at hs
  · rename_i a ha
    rw [hr.1 _ _ _ _ hl ha]
    exact h _ _ _ _ (hr.2.1 _ _ _ _ hl) hs
  · exact hs.elim

theorem qm_istore {k : Nat} (hr : qrok r) (h : ∀ a b st μ, r a b → K a st μ → K' b st μ) (hl : r ls' ls)  : qs_istore k K ls' st μ → qs_istore k K' ls st μ := by
  unfold qs_istore
  split
  · exact h _ _ _ _ (hr.2.1 _ _ _ _ hl)
  · exact id

theorem qm_astore {k : Nat} (hr : qrok r) (h : ∀ a b st μ, r a b → K a st μ → K' b st μ) (hl : r ls' ls)  : qs_astore k K ls' st μ → qs_astore k K' ls st μ := by
  unfold qs_astore
  split
  · exact h _ _ _ _ (hr.2.1 _ _ _ _ hl)
  · exact id

theorem qm_lstore {k : Nat} (hr : qrok r) (h : ∀ a b st μ, r a b → K a st μ → K' b st μ) (hl : r ls' ls)  : qs_lstore k K ls' st μ → qs_lstore k K' ls st μ := by
  unfold qs_lstore
  split
  · exact h _ _ _ _ (hr.2.1 _ _ _ _ (hr.2.2 _ _ _ hl))
  · exact id

theorem qm_push {v : qV} (hr : qrok r) (h : ∀ a b st μ, r a b → K a st μ → K' b st μ) (hl : r ls' ls)  : qs_push v K ls' st μ → qs_push v K' ls st μ := by
  exact h _ _ _ _ hl

theorem qm_goto  (hr : qrok r) (h : ∀ a b st μ, r a b → K a st μ → K' b st μ) (hl : r ls' ls)  : qs_goto  K ls' st μ → qs_goto  K' ls st μ := by
  exact h _ _ _ _ hl

theorem qm_b {f : Int → Int → Int} (hr : qrok r) (h : ∀ a b st μ, r a b → K a st μ → K' b st μ) (hl : r ls' ls)  : qs_b f K ls' st μ → qs_b f K' ls st μ := by
  unfold qs_b
  split
  all_goals first | exact h _ _ _ _ hl | exact fun hs => ⟨hs.1, h _ _ _ _ hl hs.2⟩ | exact fun hs => ⟨hs.1, hs.2.1, h _ _ _ _ hl hs.2.2⟩ | exact qif_mono (h _ _ _ _ hl) | exact qif_mono (fun hs => ⟨hs.1, h _ _ _ _ hl hs.2⟩) | exact qif_mono (fun hs => ⟨hs.1, hs.2.1, h _ _ _ _ hl hs.2.2⟩) | exact id

theorem qm_bd {f : Int → Int → Int} (hr : qrok r) (h : ∀ a b st μ, r a b → K a st μ → K' b st μ) (hl : r ls' ls)  : qs_bd f K ls' st μ → qs_bd f K' ls st μ := by
  unfold qs_bd
  split
  all_goals first | exact h _ _ _ _ hl | exact fun hs => ⟨hs.1, h _ _ _ _ hl hs.2⟩ | exact fun hs => ⟨hs.1, hs.2.1, h _ _ _ _ hl hs.2.2⟩ | exact qif_mono (h _ _ _ _ hl) | exact qif_mono (fun hs => ⟨hs.1, h _ _ _ _ hl hs.2⟩) | exact qif_mono (fun hs => ⟨hs.1, hs.2.1, h _ _ _ _ hl hs.2.2⟩) | exact id

theorem qm_l {f : Int → Int → Int} (hr : qrok r) (h : ∀ a b st μ, r a b → K a st μ → K' b st μ) (hl : r ls' ls)  : qs_l f K ls' st μ → qs_l f K' ls st μ := by
  unfold qs_l
  split
  all_goals first | exact h _ _ _ _ hl | exact fun hs => ⟨hs.1, h _ _ _ _ hl hs.2⟩ | exact fun hs => ⟨hs.1, hs.2.1, h _ _ _ _ hl hs.2.2⟩ | exact qif_mono (h _ _ _ _ hl) | exact qif_mono (fun hs => ⟨hs.1, h _ _ _ _ hl hs.2⟩) | exact qif_mono (fun hs => ⟨hs.1, hs.2.1, h _ _ _ _ hl hs.2.2⟩) | exact id

theorem qm_ld {f : Int → Int → Int} (hr : qrok r) (h : ∀ a b st μ, r a b → K a st μ → K' b st μ) (hl : r ls' ls)  : qs_ld f K ls' st μ → qs_ld f K' ls st μ := by
  unfold qs_ld
  split
  all_goals first | exact h _ _ _ _ hl | exact fun hs => ⟨hs.1, h _ _ _ _ hl hs.2⟩ | exact fun hs => ⟨hs.1, hs.2.1, h _ _ _ _ hl hs.2.2⟩ | exact qif_mono (h _ _ _ _ hl) | exact qif_mono (fun hs => ⟨hs.1, h _ _ _ _ hl hs.2⟩) | exact qif_mono (fun hs => ⟨hs.1, hs.2.1, h _ _ _ _ hl hs.2.2⟩) | exact id

theorem qm_lsh {f : Int → Int → Int} (hr : qrok r) (h : ∀ a b st μ, r a b → K a st μ → K' b st μ) (hl : r ls' ls)  : qs_lsh f K ls' st μ → qs_lsh f K' ls st μ := by
  unfold qs_lsh
  split
  all_goals first | exact h _ _ _ _ hl | exact fun hs => ⟨hs.1, h _ _ _ _ hl hs.2⟩ | exact fun hs => ⟨hs.1, hs.2.1, h _ _ _ _ hl hs.2.2⟩ | exact qif_mono (h _ _ _ _ hl) | exact qif_mono (fun hs => ⟨hs.1, h _ _ _ _ hl hs.2⟩) | exact qif_mono (fun hs => ⟨hs.1, hs.2.1, h _ _ _ _ hl hs.2.2⟩) | exact id

theorem qm_u {f : Int → Int} (hr : qrok r) (h : ∀ a b st μ, r a b → K a st μ → K' b st μ) (hl : r ls' ls)  : qs_u f K ls' st μ → qs_u f K' ls st μ := by
  unfold qs_u
  split
  all_goals first | exact h _ _ _ _ hl | exact fun hs => ⟨hs.1, h _ _ _ _ hl hs.2⟩ | exact fun hs => ⟨hs.1, hs.2.1, h _ _ _ _ hl hs.2.2⟩ | exact qif_mono (h _ _ _ _ hl) | exact qif_mono (fun hs => ⟨hs.1, h _ _ _ _ hl hs.2⟩) | exact qif_mono (fun hs => ⟨hs.1, hs.2.1, h _ _ _ _ hl hs.2.2⟩) | exact id

theorem qm_i2l  (hr : qrok r) (h : ∀ a b st μ, r a b → K a st μ → K' b st μ) (hl : r ls' ls)  : qs_i2l  K ls' st μ → qs_i2l  K' ls st μ := by
  unfold qs_i2l
  split
  all_goals first | exact h _ _ _ _ hl | exact fun hs => ⟨hs.1, h _ _ _ _ hl hs.2⟩ | exact fun hs => ⟨hs.1, hs.2.1, h _ _ _ _ hl hs.2.2⟩ | exact qif_mono (h _ _ _ _ hl) | exact qif_mono (fun hs => ⟨hs.1, h _ _ _ _ hl hs.2⟩) | exact qif_mono (fun hs => ⟨hs.1, hs.2.1, h _ _ _ _ hl hs.2.2⟩) | exact id

theorem qm_l2i  (hr : qrok r) (h : ∀ a b st μ, r a b → K a st μ → K' b st μ) (hl : r ls' ls)  : qs_l2i  K ls' st μ → qs_l2i  K' ls st μ := by
  unfold qs_l2i
  split
  all_goals first | exact h _ _ _ _ hl | exact fun hs => ⟨hs.1, h _ _ _ _ hl hs.2⟩ | exact fun hs => ⟨hs.1, hs.2.1, h _ _ _ _ hl hs.2.2⟩ | exact qif_mono (h _ _ _ _ hl) | exact qif_mono (fun hs => ⟨hs.1, h _ _ _ _ hl hs.2⟩) | exact qif_mono (fun hs => ⟨hs.1, hs.2.1, h _ _ _ _ hl hs.2.2⟩) | exact id

theorem qm_lcmp  (hr : qrok r) (h : ∀ a b st μ, r a b → K a st μ → K' b st μ) (hl : r ls' ls)  : qs_lcmp  K ls' st μ → qs_lcmp  K' ls st μ := by
  unfold qs_lcmp
  split
  all_goals first | exact h _ _ _ _ hl | exact fun hs => ⟨hs.1, h _ _ _ _ hl hs.2⟩ | exact fun hs => ⟨hs.1, hs.2.1, h _ _ _ _ hl hs.2.2⟩ | exact qif_mono (h _ _ _ _ hl) | exact qif_mono (fun hs => ⟨hs.1, h _ _ _ _ hl hs.2⟩) | exact qif_mono (fun hs => ⟨hs.1, hs.2.1, h _ _ _ _ hl hs.2.2⟩) | exact id

theorem qm_dup  (hr : qrok r) (h : ∀ a b st μ, r a b → K a st μ → K' b st μ) (hl : r ls' ls)  : qs_dup  K ls' st μ → qs_dup  K' ls st μ := by
  unfold qs_dup
  split
  all_goals first | exact h _ _ _ _ hl | exact fun hs => ⟨hs.1, h _ _ _ _ hl hs.2⟩ | exact fun hs => ⟨hs.1, hs.2.1, h _ _ _ _ hl hs.2.2⟩ | exact qif_mono (h _ _ _ _ hl) | exact qif_mono (fun hs => ⟨hs.1, h _ _ _ _ hl hs.2⟩) | exact qif_mono (fun hs => ⟨hs.1, hs.2.1, h _ _ _ _ hl hs.2.2⟩) | exact id

theorem qm_dup2  (hr : qrok r) (h : ∀ a b st μ, r a b → K a st μ → K' b st μ) (hl : r ls' ls)  : qs_dup2  K ls' st μ → qs_dup2  K' ls st μ := by
  unfold qs_dup2
  split
  all_goals first | exact h _ _ _ _ hl | exact fun hs => ⟨hs.1, h _ _ _ _ hl hs.2⟩ | exact fun hs => ⟨hs.1, hs.2.1, h _ _ _ _ hl hs.2.2⟩ | exact qif_mono (h _ _ _ _ hl) | exact qif_mono (fun hs => ⟨hs.1, h _ _ _ _ hl hs.2⟩) | exact qif_mono (fun hs => ⟨hs.1, hs.2.1, h _ _ _ _ hl hs.2.2⟩) | exact id

theorem qm_pop  (hr : qrok r) (h : ∀ a b st μ, r a b → K a st μ → K' b st μ) (hl : r ls' ls)  : qs_pop  K ls' st μ → qs_pop  K' ls st μ := by
  unfold qs_pop
  split
  all_goals first | exact h _ _ _ _ hl | exact fun hs => ⟨hs.1, h _ _ _ _ hl hs.2⟩ | exact fun hs => ⟨hs.1, hs.2.1, h _ _ _ _ hl hs.2.2⟩ | exact qif_mono (h _ _ _ _ hl) | exact qif_mono (fun hs => ⟨hs.1, h _ _ _ _ hl hs.2⟩) | exact qif_mono (fun hs => ⟨hs.1, hs.2.1, h _ _ _ _ hl hs.2.2⟩) | exact id

theorem qm_pop2  (hr : qrok r) (h : ∀ a b st μ, r a b → K a st μ → K' b st μ) (hl : r ls' ls)  : qs_pop2  K ls' st μ → qs_pop2  K' ls st μ := by
  unfold qs_pop2
  split
  all_goals first | exact h _ _ _ _ hl | exact fun hs => ⟨hs.1, h _ _ _ _ hl hs.2⟩ | exact fun hs => ⟨hs.1, hs.2.1, h _ _ _ _ hl hs.2.2⟩ | exact qif_mono (h _ _ _ _ hl) | exact qif_mono (fun hs => ⟨hs.1, h _ _ _ _ hl hs.2⟩) | exact qif_mono (fun hs => ⟨hs.1, hs.2.1, h _ _ _ _ hl hs.2.2⟩) | exact id

theorem qm_gi {p k : Nat} (hr : qrok r) (h : ∀ a b st μ, r a b → K a st μ → K' b st μ) (hl : r ls' ls)  : qs_gi p k K ls' st μ → qs_gi p k K' ls st μ := by
  unfold qs_gi
  split
  all_goals first | exact h _ _ _ _ hl | exact fun hs => ⟨hs.1, h _ _ _ _ hl hs.2⟩ | exact fun hs => ⟨hs.1, hs.2.1, h _ _ _ _ hl hs.2.2⟩ | exact qif_mono (h _ _ _ _ hl) | exact qif_mono (fun hs => ⟨hs.1, h _ _ _ _ hl hs.2⟩) | exact qif_mono (fun hs => ⟨hs.1, hs.2.1, h _ _ _ _ hl hs.2.2⟩) | exact id

theorem qm_gl {p k : Nat} (hr : qrok r) (h : ∀ a b st μ, r a b → K a st μ → K' b st μ) (hl : r ls' ls)  : qs_gl p k K ls' st μ → qs_gl p k K' ls st μ := by
  unfold qs_gl
  split
  all_goals first | exact h _ _ _ _ hl | exact fun hs => ⟨hs.1, h _ _ _ _ hl hs.2⟩ | exact fun hs => ⟨hs.1, hs.2.1, h _ _ _ _ hl hs.2.2⟩ | exact qif_mono (h _ _ _ _ hl) | exact qif_mono (fun hs => ⟨hs.1, h _ _ _ _ hl hs.2⟩) | exact qif_mono (fun hs => ⟨hs.1, hs.2.1, h _ _ _ _ hl hs.2.2⟩) | exact id

theorem qm_gr {p k : Nat} (hr : qrok r) (h : ∀ a b st μ, r a b → K a st μ → K' b st μ) (hl : r ls' ls)  : qs_gr p k K ls' st μ → qs_gr p k K' ls st μ := by
  unfold qs_gr
  split
  all_goals first | exact h _ _ _ _ hl | exact fun hs => ⟨hs.1, h _ _ _ _ hl hs.2⟩ | exact fun hs => ⟨hs.1, hs.2.1, h _ _ _ _ hl hs.2.2⟩ | exact qif_mono (h _ _ _ _ hl) | exact qif_mono (fun hs => ⟨hs.1, h _ _ _ _ hl hs.2⟩) | exact qif_mono (fun hs => ⟨hs.1, hs.2.1, h _ _ _ _ hl hs.2.2⟩) | exact id

theorem qm_gsc  (hr : qrok r) (h : ∀ a b st μ, r a b → K a st μ → K' b st μ) (hl : r ls' ls)  : qs_gsc  K ls' st μ → qs_gsc  K' ls st μ := by
  unfold qs_gsc
  split
  all_goals first | exact h _ _ _ _ hl | exact fun hs => ⟨hs.1, h _ _ _ _ hl hs.2⟩ | exact fun hs => ⟨hs.1, hs.2.1, h _ _ _ _ hl hs.2.2⟩ | exact qif_mono (h _ _ _ _ hl) | exact qif_mono (fun hs => ⟨hs.1, h _ _ _ _ hl hs.2⟩) | exact qif_mono (fun hs => ⟨hs.1, hs.2.1, h _ _ _ _ hl hs.2.2⟩) | exact id

theorem qm_gsv  (hr : qrok r) (h : ∀ a b st μ, r a b → K a st μ → K' b st μ) (hl : r ls' ls)  : qs_gsv  K ls' st μ → qs_gsv  K' ls st μ := by
  unfold qs_gsv
  split
  all_goals first | exact h _ _ _ _ hl | exact fun hs => ⟨hs.1, h _ _ _ _ hl hs.2⟩ | exact fun hs => ⟨hs.1, hs.2.1, h _ _ _ _ hl hs.2.2⟩ | exact qif_mono (h _ _ _ _ hl) | exact qif_mono (fun hs => ⟨hs.1, h _ _ _ _ hl hs.2⟩) | exact qif_mono (fun hs => ⟨hs.1, hs.2.1, h _ _ _ _ hl hs.2.2⟩) | exact id

theorem qm_pi {p k : Nat} (hr : qrok r) (h : ∀ a b st μ, r a b → K a st μ → K' b st μ) (hl : r ls' ls)  : qs_pi p k K ls' st μ → qs_pi p k K' ls st μ := by
  unfold qs_pi
  split
  all_goals first | exact h _ _ _ _ hl | exact fun hs => ⟨hs.1, h _ _ _ _ hl hs.2⟩ | exact fun hs => ⟨hs.1, hs.2.1, h _ _ _ _ hl hs.2.2⟩ | exact qif_mono (h _ _ _ _ hl) | exact qif_mono (fun hs => ⟨hs.1, h _ _ _ _ hl hs.2⟩) | exact qif_mono (fun hs => ⟨hs.1, hs.2.1, h _ _ _ _ hl hs.2.2⟩) | exact id

theorem qm_pb {p k : Nat} (hr : qrok r) (h : ∀ a b st μ, r a b → K a st μ → K' b st μ) (hl : r ls' ls)  : qs_pb p k K ls' st μ → qs_pb p k K' ls st μ := by
  unfold qs_pb
  split
  all_goals first | exact h _ _ _ _ hl | exact fun hs => ⟨hs.1, h _ _ _ _ hl hs.2⟩ | exact fun hs => ⟨hs.1, hs.2.1, h _ _ _ _ hl hs.2.2⟩ | exact qif_mono (h _ _ _ _ hl) | exact qif_mono (fun hs => ⟨hs.1, h _ _ _ _ hl hs.2⟩) | exact qif_mono (fun hs => ⟨hs.1, hs.2.1, h _ _ _ _ hl hs.2.2⟩) | exact id

theorem qm_pl {p k : Nat} (hr : qrok r) (h : ∀ a b st μ, r a b → K a st μ → K' b st μ) (hl : r ls' ls)  : qs_pl p k K ls' st μ → qs_pl p k K' ls st μ := by
  unfold qs_pl
  split
  all_goals first | exact h _ _ _ _ hl | exact fun hs => ⟨hs.1, h _ _ _ _ hl hs.2⟩ | exact fun hs => ⟨hs.1, hs.2.1, h _ _ _ _ hl hs.2.2⟩ | exact qif_mono (h _ _ _ _ hl) | exact qif_mono (fun hs => ⟨hs.1, h _ _ _ _ hl hs.2⟩) | exact qif_mono (fun hs => ⟨hs.1, hs.2.1, h _ _ _ _ hl hs.2.2⟩) | exact id

theorem qm_bald  (hr : qrok r) (h : ∀ a b st μ, r a b → K a st μ → K' b st μ) (hl : r ls' ls)  : qs_bald  K ls' st μ → qs_bald  K' ls st μ := by
  unfold qs_bald
  split
  all_goals first | exact h _ _ _ _ hl | exact fun hs => ⟨hs.1, h _ _ _ _ hl hs.2⟩ | exact fun hs => ⟨hs.1, hs.2.1, h _ _ _ _ hl hs.2.2⟩ | exact qif_mono (h _ _ _ _ hl) | exact qif_mono (fun hs => ⟨hs.1, h _ _ _ _ hl hs.2⟩) | exact qif_mono (fun hs => ⟨hs.1, hs.2.1, h _ _ _ _ hl hs.2.2⟩) | exact id

theorem qm_cald  (hr : qrok r) (h : ∀ a b st μ, r a b → K a st μ → K' b st μ) (hl : r ls' ls)  : qs_cald  K ls' st μ → qs_cald  K' ls st μ := by
  unfold qs_cald
  split
  all_goals first | exact h _ _ _ _ hl | exact fun hs => ⟨hs.1, h _ _ _ _ hl hs.2⟩ | exact fun hs => ⟨hs.1, hs.2.1, h _ _ _ _ hl hs.2.2⟩ | exact qif_mono (h _ _ _ _ hl) | exact qif_mono (fun hs => ⟨hs.1, h _ _ _ _ hl hs.2⟩) | exact qif_mono (fun hs => ⟨hs.1, hs.2.1, h _ _ _ _ hl hs.2.2⟩) | exact id

theorem qm_lald  (hr : qrok r) (h : ∀ a b st μ, r a b → K a st μ → K' b st μ) (hl : r ls' ls)  : qs_lald  K ls' st μ → qs_lald  K' ls st μ := by
  unfold qs_lald
  split
  all_goals first | exact h _ _ _ _ hl | exact fun hs => ⟨hs.1, h _ _ _ _ hl hs.2⟩ | exact fun hs => ⟨hs.1, hs.2.1, h _ _ _ _ hl hs.2.2⟩ | exact qif_mono (h _ _ _ _ hl) | exact qif_mono (fun hs => ⟨hs.1, h _ _ _ _ hl hs.2⟩) | exact qif_mono (fun hs => ⟨hs.1, hs.2.1, h _ _ _ _ hl hs.2.2⟩) | exact id

theorem qm_aald  (hr : qrok r) (h : ∀ a b st μ, r a b → K a st μ → K' b st μ) (hl : r ls' ls)  : qs_aald  K ls' st μ → qs_aald  K' ls st μ := by
  unfold qs_aald
  split
  all_goals first | exact h _ _ _ _ hl | exact fun hs => ⟨hs.1, h _ _ _ _ hl hs.2⟩ | exact fun hs => ⟨hs.1, hs.2.1, h _ _ _ _ hl hs.2.2⟩ | exact qif_mono (h _ _ _ _ hl) | exact qif_mono (fun hs => ⟨hs.1, h _ _ _ _ hl hs.2⟩) | exact qif_mono (fun hs => ⟨hs.1, hs.2.1, h _ _ _ _ hl hs.2.2⟩) | exact id

theorem qm_iast  (hr : qrok r) (h : ∀ a b st μ, r a b → K a st μ → K' b st μ) (hl : r ls' ls)  : qs_iast  K ls' st μ → qs_iast  K' ls st μ := by
  unfold qs_iast
  split
  all_goals first | exact h _ _ _ _ hl | exact fun hs => ⟨hs.1, h _ _ _ _ hl hs.2⟩ | exact fun hs => ⟨hs.1, hs.2.1, h _ _ _ _ hl hs.2.2⟩ | exact qif_mono (h _ _ _ _ hl) | exact qif_mono (fun hs => ⟨hs.1, h _ _ _ _ hl hs.2⟩) | exact qif_mono (fun hs => ⟨hs.1, hs.2.1, h _ _ _ _ hl hs.2.2⟩) | exact id

theorem qm_bast  (hr : qrok r) (h : ∀ a b st μ, r a b → K a st μ → K' b st μ) (hl : r ls' ls)  : qs_bast  K ls' st μ → qs_bast  K' ls st μ := by
  unfold qs_bast
  split
  all_goals first | exact h _ _ _ _ hl | exact fun hs => ⟨hs.1, h _ _ _ _ hl hs.2⟩ | exact fun hs => ⟨hs.1, hs.2.1, h _ _ _ _ hl hs.2.2⟩ | exact qif_mono (h _ _ _ _ hl) | exact qif_mono (fun hs => ⟨hs.1, h _ _ _ _ hl hs.2⟩) | exact qif_mono (fun hs => ⟨hs.1, hs.2.1, h _ _ _ _ hl hs.2.2⟩) | exact id

theorem qm_cast  (hr : qrok r) (h : ∀ a b st μ, r a b → K a st μ → K' b st μ) (hl : r ls' ls)  : qs_cast  K ls' st μ → qs_cast  K' ls st μ := by
  unfold qs_cast
  split
  all_goals first | exact h _ _ _ _ hl | exact fun hs => ⟨hs.1, h _ _ _ _ hl hs.2⟩ | exact fun hs => ⟨hs.1, hs.2.1, h _ _ _ _ hl hs.2.2⟩ | exact qif_mono (h _ _ _ _ hl) | exact qif_mono (fun hs => ⟨hs.1, h _ _ _ _ hl hs.2⟩) | exact qif_mono (fun hs => ⟨hs.1, hs.2.1, h _ _ _ _ hl hs.2.2⟩) | exact id

theorem qm_last  (hr : qrok r) (h : ∀ a b st μ, r a b → K a st μ → K' b st μ) (hl : r ls' ls)  : qs_last  K ls' st μ → qs_last  K' ls st μ := by
  unfold qs_last
  split
  all_goals first | exact h _ _ _ _ hl | exact fun hs => ⟨hs.1, h _ _ _ _ hl hs.2⟩ | exact fun hs => ⟨hs.1, hs.2.1, h _ _ _ _ hl hs.2.2⟩ | exact qif_mono (h _ _ _ _ hl) | exact qif_mono (fun hs => ⟨hs.1, h _ _ _ _ hl hs.2⟩) | exact qif_mono (fun hs => ⟨hs.1, hs.2.1, h _ _ _ _ hl hs.2.2⟩) | exact id

theorem qm_copy  (hr : qrok r) (h : ∀ a b st μ, r a b → K a st μ → K' b st μ) (hl : r ls' ls)  : qs_copy  K ls' st μ → qs_copy  K' ls st μ := by
  unfold qs_copy
  split
  all_goals first | exact h _ _ _ _ hl | exact fun hs => ⟨hs.1, h _ _ _ _ hl hs.2⟩ | exact fun hs => ⟨hs.1, hs.2.1, h _ _ _ _ hl hs.2.2⟩ | exact qif_mono (h _ _ _ _ hl) | exact qif_mono (fun hs => ⟨hs.1, h _ _ _ _ hl hs.2⟩) | exact qif_mono (fun hs => ⟨hs.1, hs.2.1, h _ _ _ _ hl hs.2.2⟩) | exact id

theorem qm_mm {f : Int → Int → Int} (hr : qrok r) (h : ∀ a b st μ, r a b → K a st μ → K' b st μ) (hl : r ls' ls)  : qs_mm f K ls' st μ → qs_mm f K' ls st μ := by
  unfold qs_mm
  split
  all_goals first | exact h _ _ _ _ hl | exact fun hs => ⟨hs.1, h _ _ _ _ hl hs.2⟩ | exact fun hs => ⟨hs.1, hs.2.1, h _ _ _ _ hl hs.2.2⟩ | exact qif_mono (h _ _ _ _ hl) | exact qif_mono (fun hs => ⟨hs.1, h _ _ _ _ hl hs.2⟩) | exact qif_mono (fun hs => ⟨hs.1, hs.2.1, h _ _ _ _ hl hs.2.2⟩) | exact id

theorem qm_iald {t : qT} (hr : qrok r) (h : ∀ a b st μ, r a b → K a st μ → K' b st μ) (hl : r ls' ls)  : qs_iald t K ls' st μ → qs_iald t K' ls st μ := by
  unfold qs_iald
  split
  · exact qif_mono (fun hs => ⟨hs.1, h _ _ _ _ hl hs.2⟩)
  · split
    · exact fun hs => ⟨hs.1, h _ _ _ _ hl hs.2⟩
    · exact id
  · exact fun hs => ⟨hs.1, h _ _ _ _ hl hs.2⟩
  · exact fun hs => ⟨hs.1, h _ _ _ _ hl hs.2⟩
  · exact id

theorem qm_alen {t : qT} (hr : qrok r) (h : ∀ a b st μ, r a b → K a st μ → K' b st μ) (hl : r ls' ls)  : qs_alen t K ls' st μ → qs_alen t K' ls st μ := by
  unfold qs_alen
  split
  · exact qif_mono (h _ _ _ _ hl)
  · intro hs
    rcases hs with ⟨h1, h2⟩ | ⟨h1, h2⟩
    · refine Or.inl ⟨h1, ?_⟩
      split at h2
      · exact h _ _ _ _ hl h2
      · exact h2.elim
    · exact Or.inr ⟨h1, h _ _ _ _ hl h2⟩
  · exact id

theorem qm_icmp {k : Jvm.ClassFile.Cond} {J J' : qC} (h : ∀ a b st μ, r a b → K a st μ → K' b st μ) (h2 : ∀ a b st μ, r a b → J a st μ → J' b st μ) (hl : r ls' ls) : qs_icmp k K J ls' st μ → qs_icmp k K' J' ls st μ := by
  unfold qs_icmp
  split
  · exact fun hs => ⟨fun q => h _ _ _ _ hl (hs.1 q), fun q => h2 _ _ _ _ hl (hs.2 q)⟩
  · exact id
theorem qm_if {k : Jvm.ClassFile.Cond} {J J' : qC} (h : ∀ a b st μ, r a b → K a st μ → K' b st μ) (h2 : ∀ a b st μ, r a b → J a st μ → J' b st μ) (hl : r ls' ls) : qs_if k K J ls' st μ → qs_if k K' J' ls st μ := by
  unfold qs_if
  split
  · exact fun hs => ⟨fun q => h _ _ _ _ hl (hs.1 q), fun q => h2 _ _ _ _ hl (hs.2 q)⟩
  · exact id
theorem qm_tab {a : Int} {X Y : qK} {f : Int → Nat} (h : ∀ pc a b st μ, r a b → X pc a st μ → Y pc b st μ) (hl : r ls' ls) : ∀ (l : List Int) (i : Int), qtab a i (l.map fun o => X (f o)) ls' st μ → qtab a i (l.map fun o => Y (f o)) ls st μ
  | [], _, _ => trivial
  | _ :: l, i, hs => ⟨fun q => h _ _ _ _ _ hl (hs.1 q), qm_tab h hl l (i + 1) hs.2⟩
theorem qm_table {lo hi : Int} {X Y : qK} {d : Nat} {f : Int → Nat} {l : List Int} (h : ∀ pc a b st μ, r a b → X pc a st μ → Y pc b st μ) (hl : r ls' ls) : qs_table lo hi (X d) (l.map fun o => X (f o)) ls' st μ → qs_table lo hi (Y d) (l.map fun o => Y (f o)) ls st μ := by
  unfold qs_table
  split
  · exact fun hs => ⟨fun q => h _ _ _ _ _ hl (hs.1 q), qm_tab h hl l _ hs.2⟩
  · exact id
def qcm (call call' : qCall) : Prop := ∀ j as μ Q Q', (∀ v μ, Q v μ → Q' v μ) → call j as μ Q → call' j as μ Q'
theorem qm_cr {call call' : qCall} {j n : Nat} (hc : qcm call call') (h : ∀ a b st μ, r a b → K a st μ → K' b st μ) (hl : r ls' ls) : qs_cr call j n K ls' st μ → qs_cr call' j n K' ls st μ := by
  unfold qs_cr
  split
  · exact qif_mono (hc _ _ _ _ _ (fun v μ hk => h _ _ _ _ hl hk))
  · exact id
theorem qm_cv {call call' : qCall} {j n : Nat} (hc : qcm call call') (h : ∀ a b st μ, r a b → K a st μ → K' b st μ) (hl : r ls' ls) : qs_cv call j n K ls' st μ → qs_cv call' j n K' ls st μ := by
  unfold qs_cv
  split
  · exact qif_mono (hc _ _ _ _ _ (fun v μ hk => h _ _ _ _ hl hk))
  · exact id
theorem qm_inv {call call' : qCall} {j n : Nat} (hc : qcm call call') (h : ∀ a b st μ, r a b → K a st μ → K' b st μ) (hl : r ls' ls) : qinv call j n K ls' st μ → qinv call' j n K' ls st μ := by
  unfold qinv
  cases Nat.ble 100 n with
  | true => exact qm_cv hc h hl
  | false => exact qm_cr hc h hl
theorem qm_gf {p k : Nat} (hr : qrok r) (h : ∀ a b st μ, r a b → K a st μ → K' b st μ) (hl : r ls' ls) : qgf p k K ls' st μ → qgf p k K' ls st μ := by
  unfold qgf
  cases Nat.beq p 20 with
  | true => exact qm_gsc hr h hl
  | false =>
    cases Nat.beq p 21 with
    | true => exact qm_gsv hr h hl
    | false =>
      show (match qfk (zty p k) with
        | 2 => qs_gl p k K
        | 3 => qs_gr p k K
        | _ => qs_gi p k K) ls' st μ → (match qfk (zty p k) with
        | 2 => qs_gl p k K'
        | 3 => qs_gr p k K'
        | _ => qs_gi p k K') ls st μ
      generalize qfk (zty p k) = n
      rcases n with _ | _ | _ | _ | n
      · exact qm_gi hr h hl
      · exact qm_gi hr h hl
      · exact qm_gl hr h hl
      · exact qm_gr hr h hl
      · exact qm_gi hr h hl
theorem qm_pf {p k : Nat} (hr : qrok r) (h : ∀ a b st μ, r a b → K a st μ → K' b st μ) (hl : r ls' ls) : qpf p k K ls' st μ → qpf p k K' ls st μ := by
  unfold qpf
  generalize qfk (zty p k) = n
  rcases n with _ | _ | _ | n
  · exact qm_pi hr h hl
  · exact qm_pb hr h hl
  · exact qm_pl hr h hl
  · exact id
theorem qm_iret {rk : Nat} {Rt Rt' : qV → qM → Prop} (hR : ∀ v μ, Rt v μ → Rt' v μ) : qs_iret rk Rt ls' st μ → qs_iret rk Rt' ls st μ := by
  unfold qs_iret
  split
  · split
    · exact hR _ _
    · exact fun hs => ⟨hs.1, hR _ _ hs.2⟩
    · exact fun hs => ⟨hs.1, hR _ _ hs.2⟩
    · exact fun hs => ⟨hs.1, hR _ _ hs.2⟩
    · exact id
  · exact id
theorem qm_lret {rk : Nat} {Rt Rt' : qV → qM → Prop} (hR : ∀ v μ, Rt v μ → Rt' v μ) : qs_lret rk Rt ls' st μ → qs_lret rk Rt' ls st μ := by
  unfold qs_lret
  split
  · split
    · exact hR _ _
    · exact id
  · exact id
theorem qm_aret {rk : Nat} {Rt Rt' : qV → qM → Prop} (hR : ∀ v μ, Rt v μ → Rt' v μ) : qs_aret rk Rt ls' st μ → qs_aret rk Rt' ls st μ := by
  unfold qs_aret
  split
  · split
    · exact fun hs => ⟨hs.1, hR _ _ hs.2⟩
    · exact id
  · exact id
theorem qm_vret {rk : Nat} {Rt Rt' : qV → qM → Prop} (hR : ∀ v μ, Rt v μ → Rt' v μ) : qs_vret rk Rt ls' st μ → qs_vret rk Rt' ls st μ := by
  unfold qs_vret
  split
  · split
    · exact hR _ _
    · exact id
  · exact id

theorem qsel_mono {call call' : qCall} {t : qT} {rk : Nat} {Rt Rt' : qV → qM → Prop} {X Y : qK} (hr : qrok r) (hc : qcm call call') (hR : ∀ v μ, Rt v μ → Rt' v μ) (hK : ∀ pc a b st μ, r a b → X pc a st μ → Y pc b st μ) (hl : r ls' ls) {pc : Nat} {ins : Instr} {len r1 r2 : Nat} {c : Int} : qsel call t rk Rt X pc ins len r1 r2 c ls' st μ → qsel call' t rk Rt' Y pc ins len r1 r2 c ls st μ := by
  cases ins
  case iload_n k => exact qm_iload hr (hK _) hl
  case iload k => exact qm_iload hr (hK _) hl
  case aload_n k => exact qm_aload hr (hK _) hl
  case aload k => exact qm_aload hr (hK _) hl
  case lload_n k => exact qm_lload hr (hK _) hl
  case lload k => exact qm_lload hr (hK _) hl
  case istore_n k => exact qm_istore hr (hK _) hl
  case istore k => exact qm_istore hr (hK _) hl
  case astore_n k => exact qm_astore hr (hK _) hl
  case astore k => exact qm_astore hr (hK _) hl
  case lstore_n k => exact qm_lstore hr (hK _) hl
  case lstore k => exact qm_lstore hr (hK _) hl
  case iconst n => exact qm_push hr (hK _) hl
  case bipush n => exact qm_push hr (hK _) hl
  case sipush n => exact qm_push hr (hK _) hl
  case lconst n => exact qm_push hr (hK _) hl
  case ldc_w n => exact qm_push hr (hK _) hl
  case ldc2_w n => exact qm_push hr (hK _) hl
  case ldc n => exact qm_push hr (hK _) hl
  case getstatic n => exact qm_push hr (hK _) hl
  case iadd => exact qm_b hr (hK _) hl
  case isub => exact qm_b hr (hK _) hl
  case imul => exact qm_b hr (hK _) hl
  case iand => exact qm_b hr (hK _) hl
  case ior => exact qm_b hr (hK _) hl
  case ixor => exact qm_b hr (hK _) hl
  case ishl => exact qm_b hr (hK _) hl
  case ishr => exact qm_b hr (hK _) hl
  case iushr => exact qm_b hr (hK _) hl
  case idiv => exact qm_bd hr (hK _) hl
  case irem => exact qm_bd hr (hK _) hl
  case iinc k n => exact qm_iinc hr (hK _) hl
  case ladd => exact qm_l hr (hK _) hl
  case lsub => exact qm_l hr (hK _) hl
  case lmul => exact qm_l hr (hK _) hl
  case land => exact qm_l hr (hK _) hl
  case lor => exact qm_l hr (hK _) hl
  case lrem => exact qm_ld hr (hK _) hl
  case lshl => exact qm_lsh hr (hK _) hl
  case lshr => exact qm_lsh hr (hK _) hl
  case lushr => exact qm_lsh hr (hK _) hl
  case i2l => exact qm_i2l hr (hK _) hl
  case l2i => exact qm_l2i hr (hK _) hl
  case i2b => exact qm_u hr (hK _) hl
  case i2c => exact qm_u hr (hK _) hl
  case lcmp => exact qm_lcmp hr (hK _) hl
  case dup => exact qm_dup hr (hK _) hl
  case dup2 => exact qm_dup2 hr (hK _) hl
  case pop => exact qm_pop hr (hK _) hl
  case pop2 => exact qm_pop2 hr (hK _) hl
  case baload => exact qm_bald hr (hK _) hl
  case iaload => exact qm_iald hr (hK _) hl
  case caload => exact qm_cald hr (hK _) hl
  case laload => exact qm_lald hr (hK _) hl
  case aaload => exact qm_aald hr (hK _) hl
  case iastore => exact qm_iast hr (hK _) hl
  case bastore => exact qm_bast hr (hK _) hl
  case castore => exact qm_cast hr (hK _) hl
  case lastore => exact qm_last hr (hK _) hl
  case arraylength => exact qm_alen hr (hK _) hl
  case goto n => exact qm_goto hr (hK _) hl
  case if_icmp k n => exact qm_icmp (hK _) (hK _) hl
  case ifCond k n => exact qm_if (hK _) (hK _) hl
  case tableswitch df lo hi offs => exact qm_table (f := fun o => ((pc : Int) + o).toNat) hK hl
  case getfield n => exact qm_gf hr (hK _) hl
  case putfield n => exact qm_pf hr (hK _) hl
  case invokevirtual n => exact qm_inv hc (hK _) hl
  case ireturn => exact qm_iret (ls' := ls') (ls := ls) hR
  case lreturn => exact qm_lret (ls' := ls') (ls := ls) hR
  case areturn => exact qm_aret (ls' := ls') (ls := ls) hR
  case return_ => exact qm_vret (ls' := ls') (ls := ls) hR
  case invokestatic n =>
    show (bif Nat.beq r1 1001 then qs_copy (X (pc + len)) else bif Nat.beq r1 1002 then qs_mm qmax (X (pc + len)) else bif Nat.beq r1 1003 then qs_mm qmin (X (pc + len)) else qinv call r1 r2 (X (pc + len))) ls' st μ → (bif Nat.beq r1 1001 then qs_copy (Y (pc + len)) else bif Nat.beq r1 1002 then qs_mm qmax (Y (pc + len)) else bif Nat.beq r1 1003 then qs_mm qmin (Y (pc + len)) else qinv call' r1 r2 (Y (pc + len))) ls st μ
    cases Nat.beq r1 1001 with
    | true => exact qm_copy hr (hK _) hl
    | false =>
      cases Nat.beq r1 1002 with
      | true => exact qm_mm hr (hK _) hl
      | false =>
        cases Nat.beq r1 1003 with
        | true => exact qm_mm hr (hK _) hl
        | false => exact qm_inv hc (hK _) hl
  all_goals exact fun hs => hs.elim
end QM
/-! runs -/
theorem qrok_eq : qrok Eq := ⟨fun _ _ _ _ h e => h ▸ e, fun _ _ _ _ h => h ▸ rfl, fun _ _ _ h => h ▸ rfl⟩
/-- a state of the locals of which less is known -/
def qle : qL → qL → Prop
  | [], [] => True
  | a :: l, b :: m => (a = none ∨ a = b) ∧ qle l m
  | _, _ => False
theorem qle_refl : ∀ l, qle l l
  | [] => trivial
  | _ :: l => ⟨Or.inr rfl, qle_refl l⟩
theorem qle_g : ∀ (a b : qL) (k : Nat) (v : qV), qle a b → qg a k = some v → qg b k = some v
  | [], [], _, _, _, e => by cases e
  | [], _ :: _, _, _, h, _ => h.elim
  | _ :: _, [], _, _, h, _ => h.elim
  | a :: l, b :: m, 0, v, h, e => by
    have e : a = some v := e
    rcases h.1 with h1 | h1
    · rw [h1] at e; cases e
    · show b = some v
      rw [← h1, e]
  | _ :: l, _ :: m, k + 1, v, h, e => qle_g l m k v h.2 e
theorem qle_set : ∀ (a b : qL) (k : Nat) (v : qV), qle a b → qle (qset a k v) (qset b k v)
  | [], [], _, _, _ => by unfold qset; trivial
  | [], _ :: _, _, _, h => h.elim
  | _ :: _, [], _, _, h => h.elim
  | _ :: l, _ :: m, 0, v, h => ⟨Or.inr rfl, h.2⟩
  | a :: l, b :: m, 1, v, h => by
    refine ⟨?_, ?_⟩
    · rcases h.1 with h1 | h1
      · rw [h1]; exact Or.inl rfl
      · rw [h1]; exact Or.inr rfl
    · match l, m, h.2 with
      | [], [], _ => trivial
      | [], _ :: _, w => exact w.elim
      | _ :: _, [], w => exact w.elim
      | _ :: _, _ :: _, w => exact ⟨Or.inr rfl, w.2⟩
  | _ :: l, _ :: m, k + 2, v, h => ⟨h.1, qle_set l m (k + 1) v h.2⟩
theorem qle_none : ∀ (a b : qL) (k : Nat), qle a b → qle (qnone a k) (qnone b k)
  | [], [], _, _ => by unfold qnone; trivial
  | [], _ :: _, _, h => h.elim
  | _ :: _, [], _, h => h.elim
  | _ :: _, _ :: _, 0, h => ⟨Or.inr rfl, h.2⟩
  | _ :: l, _ :: m, k + 1, h => ⟨h.1, qle_none l m k h.2⟩
theorem qrok_le : qrok qle := ⟨qle_g, qle_set, qle_none⟩
noncomputable def qstep (call : qCall) (t : qT) (rk : Nat) (cd : Nat → Option qI) (Rt : qV → qM → Prop) (X : qK) : qK := fun pc ls st μ => match cd pc with
  | some x => qsel call t rk Rt X pc x.2.1 x.2.2.1 x.2.2.2.1 x.2.2.2.2.1 x.2.2.2.2.2 ls st μ
  | none => False
/-- from this state the code comes to its end, with Rt: the least fixed point of the step -/
def qw (call : qCall) (t : qT) (rk : Nat) (cd : Nat → Option qI) (Rt : qV → qM → Prop) : qK := fun pc ls st μ => ∀ X : qK, (∀ pc ls st μ, qstep call t rk cd Rt X pc ls st μ → X pc ls st μ) → X pc ls st μ
section QW
variable {call call' : qCall} {t : qT} {rk : Nat} {cd : Nat → Option qI} {Rt Rt' : qV → qM → Prop} {X Y : qK} {pc : Nat} {ls ls' : qL} {st : List qV} {μ : qM}
theorem qstep_mono {r : qL → qL → Prop} (hr : qrok r) (hc : qcm call call') (hR : ∀ v μ, Rt v μ → Rt' v μ) (hK : ∀ pc a b st μ, r a b → X pc a st μ → Y pc b st μ) (hl : r ls' ls) : qstep call t rk cd Rt X pc ls' st μ → qstep call' t rk cd Rt' Y pc ls st μ := by
  unfold qstep
  split
  · exact qsel_mono hr hc hR hK hl
  · exact id
theorem qw_fold (hc : qcm call call) (h : qstep call t rk cd Rt (qw call t rk cd Rt) pc ls st μ) : qw call t rk cd Rt pc ls st μ := fun X hX =>
  hX _ _ _ _ (qstep_mono qrok_eq hc (fun _ _ q => q) (fun pc a b st μ e q => by subst e; exact q X hX) rfl h)
theorem qw_unfold (hc : qcm call call) (h : qw call t rk cd Rt pc ls st μ) : qstep call t rk cd Rt (qw call t rk cd Rt) pc ls st μ :=
  h (qstep call t rk cd Rt (qw call t rk cd Rt)) (fun pc ls st μ hs => qstep_mono qrok_eq hc (fun _ _ q => q) (fun pc a b st μ e q => by subst e; exact qw_fold hc q) rfl hs)
theorem qw_eq (hc : qcm call call) : qw call t rk cd Rt pc ls st μ = qstep call t rk cd Rt (qw call t rk cd Rt) pc ls st μ := propext ⟨qw_unfold hc, qw_fold hc⟩
theorem qw_mono (hc' : qcm call' call') (hc : qcm call call') (hR : ∀ v μ, Rt v μ → Rt' v μ) (h : qw call t rk cd Rt pc ls st μ) : qw call' t rk cd Rt' pc ls st μ :=
  h (qw call' t rk cd Rt') (fun pc ls st μ hs => qw_fold hc' (qstep_mono qrok_eq hc hR (fun _ _ _ _ _ e q => by subst e; exact q) rfl hs))
theorem qw_weak (hc : qcm call call) (hl : qle ls' ls) (h : qw call t rk cd Rt pc ls' st μ) : qw call t rk cd Rt pc ls st μ :=
  h (fun pc ls' st μ => ∀ ls, qle ls' ls → qw call t rk cd Rt pc ls st μ) (fun pc ls' st μ hs ls hl => qw_fold hc (qstep_mono qrok_le hc (fun _ _ q => q) (fun pc a b st μ hab q => q b hab) hl hs)) ls hl
end QW
