/-! EACH INSTRUCTION OF THE q-LAYER IS CHECKED AGAINST ITS METHOD'S BYTES AND THE TABLES' WORDS -/
def qpt (t : FieldType) : Bool := match t with
  | .int => true
  | .boolean => true
  | .long => true
  | _ => false
noncomputable def qfG (zi : Jvm.Cond → Bool) (own : String) (nL : Nat) (len r1 r2 : Nat) (c : Int) (pc : Nat) (ins : Instr) : Bool := match ins with
  | .iload_n _ => Nat.beq len 1
  | .iload _ => Nat.beq len 2
  | .aload_n _ => Nat.beq len 1
  | .aload _ => Nat.beq len 2
  | .lload_n _ => Nat.beq len 1
  | .lload _ => Nat.beq len 2
  | .istore_n k => Nat.beq len 1 && Nat.blt k nL
  | .istore k => Nat.beq len 2 && Nat.blt k nL
  | .astore_n k => Nat.beq len 1 && Nat.blt k nL
  | .astore k => Nat.beq len 2 && Nat.blt k nL
  | .lstore_n k => Nat.beq len 1 && Nat.blt (k + 1) nL
  | .lstore k => Nat.beq len 2 && Nat.blt (k + 1) nL
  | .iconst n => Nat.beq len 1 && zi32 n
  | .bipush n => Nat.beq len 2 && (zi32 n && decide ((Int8.ofInt n).toInt32 = Int32.ofInt n))
  | .sipush n => Nat.beq len 3 && (zi32 n && decide ((Int16.ofInt n).toInt32 = Int32.ofInt n))
  | .lconst _ => Nat.beq len 1
  | .ldc i => Nat.beq len 2 && (decide (own = RX7) && (Nat.blt r1 6 && Nat.beq (qsi.getD r1 0) i))
  | .ldc_w i => Nat.beq len 3 && (zi32 c && zi (.constant own i (Int32.ofInt c)))
  | .ldc2_w i => Nat.beq len 3 && (zeq (Int64.ofInt c).toInt c && zi (.constantLong own i (Int64.ofInt c)))
  | .iinc k n => Nat.beq len 3 && (Nat.blt k nL && zi32 n)
  | .goto off => Nat.beq len 3 && zeq ((pc : Int) + off) r1
  | .if_icmp _ off => Nat.beq len 3 && zeq ((pc : Int) + off) r1
  | .ifCond _ off => Nat.beq len 3 && zeq ((pc : Int) + off) r1
  | .tableswitch df lo hi offs => zle 0 ((pc : Int) + df) && (offs.toList.all (fun o => zle 0 ((pc : Int) + o)) && zeq (offs.size : Int) (hi - lo + 1))
  | .getfield i => Nat.beq len 3 && (bif Nat.beq r1 20 then zi (.fieldLink own i "java/lang/String" "coder" "B") else bif Nat.beq r1 21 then zi (.fieldLink own i "java/lang/String" "value" "[B") else (Nat.blt r1 11 && (Nat.blt r2 (zN r1) && zi (.fieldLink own i (zTn r1 r2).1 (zTn r1 r2).2.1 (zTn r1 r2).2.2.1))))
  | .putfield i => Nat.beq len 3 && (Nat.blt r1 11 && (Nat.blt r2 (zN r1) && (zi (.fieldLink own i (zTn r1 r2).1 (zTn r1 r2).2.1 (zTn r1 r2).2.2.1) && (!(zTn r1 r2).2.2.2 && qpt (zty r1 r2)))))
  | .getstatic i => Nat.beq len 3 && (bif Nat.beq r1 0 then zi (.fieldLink own i "LetterDebts" "ABOVE" "[I") else bif Nat.beq r1 1 then zi (.fieldLink own i "LetterDebts" "MARKS" "[I") else bif Nat.beq r1 2 then zi (.fieldLink own i "java/lang/String" "COMPACT_STRINGS" "Z") else (Nat.beq r1 3 && zi (.fieldLink own i "jdk/internal/util/Preconditions" "SIOOBE_FORMATTER" "Ljava/util/function/BiFunction;")))
  | .invokevirtual i => Nat.beq len 3 && (match qmt r1 with
    | some M => !(Nat.beq M.2.2.2.2.1 0) && (decide (¬ M.1.name = "<init>") && (zi (.methodLink own i M.1) && ((bif Nat.ble 100 r2 then decide (zpar M.1 = some (r2 - 101)) && (Nat.beq (qrk M.2.2.2.1) 0 && Nat.ble 101 r2) else decide (zpar M.1 = some (r2 - 1)) && (!(Nat.beq (qrk M.2.2.2.1) 0) && Nat.ble 1 r2)))))
    | none => false)
  | .invokestatic i => Nat.beq len 3 && (bif Nat.beq r1 1001 then zi (.methodLink own i arraycopyName) else bif Nat.beq r1 1002 then zi (.methodLink own i Lib.Math.max.name) else bif Nat.beq r1 1003 then zi (.methodLink own i Lib.Math.min.name) else match qmt r1 with
    | some M => Nat.beq M.2.2.2.2.1 0 && (zlk2 zi own i M.1 && ((bif Nat.ble 100 r2 then decide (zpar M.1 = some (r2 - 100)) && Nat.beq (qrk M.2.2.2.1) 0 else decide (zpar M.1 = some r2) && !(Nat.beq (qrk M.2.2.2.1) 0))))
    | none => false)
  | _ => Nat.beq len 1
noncomputable def qfB (own : String) (nL : Nat) (len r1 r2 : Nat) (c : Int) (pc : Nat) (ins : Instr) : Bool := qfG zin own nL len r1 r2 c pc ins
theorem qfG_mono {zi : Jvm.Cond → Bool} (h1 : ∀ w, zi w = true → zin w = true) {own : String} {nL : Nat} {len r1 r2 : Nat} {c : Int} {pc : Nat} {ins : Instr} (h : qfG zi own nL len r1 r2 c pc ins = true) : qfB own nL len r1 r2 c pc ins = true := by
  cases ins
  case ldc_w i => exact zand_mono id (zand_mono id (h1 _)) h
  case ldc2_w i => exact zand_mono id (zand_mono id (h1 _)) h
  case getfield i => exact zand_mono id (zbif_mono (h1 _) (zbif_mono (h1 _) (zand_mono id (zand_mono id (h1 _))))) h
  case putfield i => exact zand_mono id (zand_mono id (zand_mono id (zand_mono (h1 _) id))) h
  case getstatic i => exact zand_mono id (zbif_mono (h1 _) (zbif_mono (h1 _) (zbif_mono (h1 _) (zand_mono id (h1 _))))) h
  case invokevirtual i =>
    refine zand_mono id (fun h => ?_) h
    split at h
    · exact zand_mono id (zand_mono id (zand_mono (h1 _) id)) h
    · cases h
  case invokestatic i =>
    refine zand_mono id (zbif_mono (h1 _) (zbif_mono (h1 _) (zbif_mono (h1 _) (fun h => ?_)))) h
    split at h
    · exact zand_mono id (zand_mono (zlk2_mono h1) id) h
    · cases h
  all_goals exact h
/-- what is asked of a method, once -/
noncomputable def qmG (z1 z2 z3 z4 : Jvm.Cond → Bool) (M : qMt) : Bool := z1 (.code M.1 M.2.1 M.2.2.1 M.2.2.2.1) && (z2 (.initialized M.1.cls) && ((bif Nat.beq M.2.2.2.2.1 0 then z3 (.static M.1) else z3 (.instanceMethod M.1)) && (Nat.ble M.2.2.1 40 && (decide (plainName M.1.cls = true) && (decide (M.1.cls ≠ "java/lang/invoke/MethodHandle" ∧ M.1.cls ≠ "java/lang/invoke/VarHandle") && (match M.2.2.2.2.1 with
  | 0 => true
  | ci + 1 => (bif Nat.beq ci 20 then decide (M.1.cls = "java/lang/String") else Nat.blt ci 11 && decide (zRn ci = M.1.cls)) && z4 (.selects M.1.cls M.1 M.1)))))))
noncomputable def qmB (M : qMt) : Bool := qmG zin zin zin zin M
theorem qmG_mono {z1 z2 z3 z4 : Jvm.Cond → Bool} (h1 : ∀ w, z1 w = true → zin w = true) (h2 : ∀ w, z2 w = true → zin w = true) (h3 : ∀ w, z3 w = true → zin w = true) (h4 : ∀ w, z4 w = true → zin w = true) {M : qMt} (h : qmG z1 z2 z3 z4 M = true) : qmB M = true := by
  unfold qmB
  unfold qmG at h ⊢
  refine zand_mono (h1 _) (zand_mono (h2 _) (zand_mono (zbif_mono (h3 _) (h3 _)) (zand_mono id (zand_mono id (zand_mono id (fun h => ?_)))))) h
  split at h
  · rfl
  · exact zand_mono id (h4 _) h
/-- all of a method -/
def qall (b : List (List qI)) : List qI := b.flatten
noncomputable def qfM (own : String) (nL : Nat) (cc : ByteArray) (b : List (List qI)) : Bool := (qall b).all fun x => decide (decode cc x.1 = .ok (x.2.1, x.2.2.1)) && qfB own nL x.2.2.1 x.2.2.2.1 x.2.2.2.2.1 x.2.2.2.2.2 x.1 x.2.1
theorem qfd_mem {l : List qI} {pc : Nat} {x : qI} : qfd l pc = some x → x ∈ l ∧ x.1 = pc := by
  induction l with
  | nil => intro h; cases h
  | cons q l ih =>
    intro h
    have h : (bif Nat.beq q.1 pc then some q else qfd l pc) = some x := h
    cases hz : Nat.beq q.1 pc with
    | true =>
      rw [hz] at h
      cases h
      exact ⟨List.mem_cons_self, Nat.eq_of_beq_eq_true hz⟩
    | false =>
      rw [hz] at h
      obtain ⟨h1, h2⟩ := ih h
      exact ⟨List.mem_cons_of_mem _ h1, h2⟩
theorem znt_memq {α : Type} {a : α} : ∀ {l : List α} {n : Nat}, znt l n = some a → a ∈ l
  | [], _, h => by cases h
  | b :: l, 0, h => by
    have h : some b = some a := h
    cases h
    exact List.mem_cons_self
  | b :: l, n + 1, h => List.mem_cons_of_mem _ (znt_memq (l := l) (n := n) h)
theorem qlk_mem {b : List (List qI)} {pc : Nat} {x : qI} (h : qlk b pc = some x) : x ∈ qall b ∧ x.1 = pc := by
  unfold qlk at h
  split at h
  · rename_i l hl
    obtain ⟨h1, h2⟩ := qfd_mem h
    exact ⟨List.mem_flatten.mpr ⟨l, znt_memq hl, h1⟩, h2⟩
  · cases h
