/-! EACH INSTRUCTION IS CHECKED AGAINST ITS METHOD'S BYTES AND THE TABLES' WORDS -/
noncomputable def zTn : Nat → u_T
  | 0 => TX0 | 1 => TX1 | 2 => TX2 | 3 => TX3 | 4 => TX4 | 5 => TX5 | 6 => TX6 | 7 => TX7 | 8 => TX8 | 9 => TX9 | _ => TX10
noncomputable def zRn : Nat → String
  | 0 => RX0 | 1 => RX1 | 2 => RX2 | 3 => RX3 | 4 => RX4 | 5 => RX5 | 6 => RX6 | 7 => RX7 | 8 => RX8 | 9 => RX9 | _ => RX10
noncomputable def zin (w : Jvm.Cond) : Bool := decide (w ∈ lw_tbl) && (goodWord w || zisN w)
theorem zin_ok {w : Jvm.Cond} (h : zin w = true) (hn : zisN w = false := by rfl) : w ∈ zW := by
  unfold zin at h
  rw [Bool.and_eq_true, decide_eq_true_eq, hn, Bool.or_false] at h
  exact zW_in h.1 h.2
theorem zin_nest {own host : String} {i : Nat} {y : MethodName} (h : zin (.methodLinkNest own i y host) = true) : Jvm.Cond.methodLinkNest own i y host ∈ zNs := by
  unfold zin at h
  rw [Bool.and_eq_true, decide_eq_true_eq] at h
  exact List.mem_filter.mpr ⟨h.1, rfl⟩
noncomputable def zclB (ci : Nat) : Bool := (u_ws (zRn ci) (zTn ci) (zN ci)).all goodWord && (zin (.instantiable (zRn ci) (zN ci)) && zin (.initialized (zRn ci)))
set_option maxRecDepth 100000 in
theorem zclB_ok : ∀ ci, ci < 11 → zclB ci = true := by decide +kernel
theorem zcl_of {ci : Nat} (hci : ci < 11) (h1 : vwCl[ci]? = some (zRn ci, zTn ci, zN ci)) (h2 : ∀ w ∈ u_ws (zRn ci) (zTn ci) (zN ci), w ∈ lw_tbl) (h3 : ∀ k, k < zN ci → parseFieldDescriptor (zTn ci k).2.2.1 = some (zty ci k)) (h4 : ∀ a, a < zN ci → ∀ b, b < zN ci → a ≠ b → (zTn ci a).2.1 ≠ (zTn ci b).2.1) : zCl ci (zRn ci) (zTn ci) (zN ci) := by
  have h := zclB_ok ci hci
  unfold zclB at h
  rw [Bool.and_eq_true, Bool.and_eq_true] at h
  exact ⟨h1, rfl, fun w hw => zW_in (h2 w hw) (List.all_eq_true.mp h.1 w hw), h3, h4, zin_ok h.2.1, zin_ok h.2.2⟩
theorem zcl_ok : ∀ ci, ci < 11 → zCl ci (zRn ci) (zTn ci) (zN ci) := fun ci hci => by
  rcases (show ci = 0 ∨ ci = 1 ∨ ci = 2 ∨ ci = 3 ∨ ci = 4 ∨ ci = 5 ∨ ci = 6 ∨ ci = 7 ∨ ci = 8 ∨ ci = 9 ∨ ci = 10 by omega) with rfl | rfl | rfl | rfl | rfl | rfl | rfl | rfl | rfl | rfl | rfl
  · exact zcl_of (by decide) rfl inX0 tyX0_ok nmX0
  · exact zcl_of (by decide) rfl inX1 tyX1_ok nmX1
  · exact zcl_of (by decide) rfl inX2 tyX2_ok nmX2
  · exact zcl_of (by decide) rfl inX3 tyX3_ok nmX3
  · exact zcl_of (by decide) rfl inX4 tyX4_ok nmX4
  · exact zcl_of (by decide) rfl inX5 tyX5_ok nmX5
  · exact zcl_of (by decide) rfl inX6 tyX6_ok nmX6
  · exact zcl_of (by decide) rfl inX7 tyX7_ok nmX7
  · exact zcl_of (by decide) rfl inX8 tyX8_ok nmX8
  · exact zcl_of (by decide) rfl inX9 tyX9_ok nmX9
  · exact zcl_of (by decide) rfl inX10 tyX10_ok nmX10
/-- the word of a method's link, plain or of a nest -/
noncomputable def zlk2 (zi : Jvm.Cond → Bool) (own : String) (i : Nat) (y : MethodName) : Bool := zi (.methodLink own i y) || zi (.methodLinkNest own i y "LetterDebts")
noncomputable def zlnk (own : String) (i : Nat) (y : MethodName) : Bool := zlk2 zin own i y
noncomputable def zpar (y : MethodName) : Option Nat := (parseMethodDescriptor y.desc).map (fun d => d.parameters.length)
noncomputable def zi32 (n : Int) : Bool := zle (-2147483648) n && zle n 2147483647
noncomputable def zfG (zi : Jvm.Cond → Bool) (own : String) (nL : Nat) (ini : Bool) (len r1 : Nat) (r2 : Int) (pc : Nat) (ins : Instr) : Bool := match ins with
  | .iload_n _ => Nat.beq len 1
  | .iload _ => Nat.beq len 2
  | .aload_n _ => Nat.beq len 1
  | .aload _ => Nat.beq len 2
  | .lload_n _ => Nat.beq len 1
  | .istore_n k => Nat.beq len 1 && Nat.blt k nL
  | .istore k => Nat.beq len 2 && Nat.blt k nL
  | .astore_n k => Nat.beq len 1 && Nat.blt k nL
  | .astore k => Nat.beq len 2 && Nat.blt k nL
  | .lstore_n k => Nat.beq len 1 && Nat.blt (k + 1) nL
  | .iconst n => Nat.beq len 1 && zi32 n
  | .bipush n => Nat.beq len 2 && (zi32 n && decide ((Int8.ofInt n).toInt32 = Int32.ofInt n))
  | .sipush n => Nat.beq len 3 && (zi32 n && decide ((Int16.ofInt n).toInt32 = Int32.ofInt n))
  | .lconst _ => Nat.beq len 1
  | .ldc_w i => Nat.beq len 3 && (zi32 r2 && zi (.constant own i (Int32.ofInt r2)))
  | .ldc2_w i => Nat.beq len 3 && (zeq (Int64.ofInt r2).toInt r2 && zi (.constantLong own i (Int64.ofInt r2)))
  | .iinc k n => Nat.beq len 3 && (Nat.blt k nL && zi32 n)
  | .goto _ => Nat.beq len 3
  | .if_icmp _ off => Nat.beq len 3 && zle 0 ((pc : Int) + off)
  | .ifCond _ off => Nat.beq len 3 && zle 0 ((pc : Int) + off)
  | .tableswitch _ _ _ _ => true
  | .getfield i => Nat.beq len 3 && (Nat.blt r1 11 && (Nat.blt r2.toNat (zN r1) && zi (.fieldLink own i (zTn r1 r2.toNat).1 (zTn r1 r2.toNat).2.1 (zTn r1 r2.toNat).2.2.1)))
  | .putfield i => Nat.beq len 3 && (Nat.blt r1 11 && (Nat.blt r2.toNat (zN r1) && (zi (.fieldLink own i (zTn r1 r2.toNat).1 (zTn r1 r2.toNat).2.1 (zTn r1 r2.toNat).2.2.1) && (!(zTn r1 r2.toNat).2.2.2 || (ini && decide ((zTn r1 r2.toNat).1 = own))))))
  | .getstatic i => Nat.beq len 3 && (bif Nat.beq r1 0 then zi (.fieldLink own i "LetterDebts" "ABOVE" "[I") else Nat.beq r1 1 && zi (.fieldLink own i "LetterDebts" "MARKS" "[I"))
  | .new i => Nat.beq len 3 && (Nat.blt r1 11 && zi (.classLink own i (zRn r1)))
  | .newarray _ => Nat.beq len 2
  | .anewarray i => Nat.beq len 3 && (bif Nat.beq r1 5 then zi (.classLink own i RX5) else Nat.beq r1 6 && zi (.classLink own i RX1))
  | .multianewarray i dm => Nat.beq len 4 && (Nat.beq dm 2 && zi (.classLink own i "[[I"))
  | .invokevirtual i => Nat.beq len 3 && (match zmt r1 with
    | some M => !(Nat.beq M.2.2.2.2.1 0) && (decide (¬ M.1.name = "<init>") && (zi (.methodLink own i M.1) && decide (zpar M.1 = some r2.toNat)))
    | none => false)
  | .invokestatic i => Nat.beq len 3 && (bif Nat.beq r1 1001 then zi (.methodLink own i arraycopyName) else bif Nat.beq r1 1002 then zi (.methodLink own i Lib.Math.max.name) else bif Nat.beq r1 1003 then zi (.methodLink own i Lib.Math.min.name) else match zmt r1 with
    | some M => Nat.beq M.2.2.2.2.1 0 && (zlk2 zi own i M.1 && decide (zpar M.1 = some r2.toNat))
    | none => false)
  | .invokespecial i => Nat.beq len 3 && (bif Nat.beq r1 1000 then zi (.methodLink own i objectInit) else match zmt r1 with
    | some M => !(Nat.beq M.2.2.2.2.1 0) && (decide (M.1.name = "<init>") && (zlk2 zi own i M.1 && decide (zpar M.1 = some r2.toNat)))
    | none => false)
  | .lload _ => true
  | .lstore _ => true
  | .ldc _ => true
  | _ => Nat.beq len 1
noncomputable def zfB (own : String) (nL : Nat) (ini : Bool) (len r1 : Nat) (r2 : Int) (pc : Nat) (ins : Instr) : Bool := zfG zin own nL ini len r1 r2 pc ins
noncomputable def zfM (own : String) (nL : Nat) (ini : Bool) (cc : ByteArray) (cd : List zI) : Bool := cd.all fun x => decide (decode cc x.1 = .ok (x.2.1, x.2.2.1)) && zfB own nL ini x.2.2.1 x.2.2.2.1 x.2.2.2.2 x.1 x.2.1
/-- what is asked of a method of the table, once -/
noncomputable def zmG (z1 z2 z3 : Jvm.Cond → Bool) (M : zM) : Bool := z1 (.code M.1 M.2.1 M.2.2.1 M.2.2.2.1) && (z2 (.initialized M.1.cls) && ((bif Nat.beq M.2.2.2.2.1 0 then z3 (.static M.1) else z3 (.instanceMethod M.1)) && (Nat.ble M.2.2.1 40 && (decide (plainName M.1.cls = true) && decide (M.1.cls ≠ "java/lang/invoke/MethodHandle" ∧ M.1.cls ≠ "java/lang/invoke/VarHandle")))))
noncomputable def zmB (M : zM) : Bool := zmG zin zin zin M
/-- and of an instance method: its class, and that it is the one that is run -/
noncomputable def zmW (zi : Jvm.Cond → Bool) (M : zM) : Bool := match M.2.2.2.2.1 with
  | 0 => true
  | ci + 1 => Nat.blt ci 11 && (decide (zRn ci = M.1.cls) && (decide (M.1.name = "<init>") || zi (.selects M.1.cls M.1 M.1)))
noncomputable def zmV (M : zM) : Bool := zmW zin M
theorem zmG_mono {z1 z2 z3 : Jvm.Cond → Bool} (h1 : ∀ w, z1 w = true → zin w = true) (h2 : ∀ w, z2 w = true → zin w = true) (h3 : ∀ w, z3 w = true → zin w = true) {M : zM} (h : zmG z1 z2 z3 M = true) : zmB M = true := by
  unfold zmB
  unfold zmG at h ⊢
  simp only [Bool.and_eq_true] at h ⊢
  refine ⟨h1 _ h.1, h2 _ h.2.1, ?_, h.2.2.2⟩
  have := h.2.2.1
  cases hz : Nat.beq M.2.2.2.2.1 0 with
  | true => rw [hz] at this; exact h3 _ this
  | false => rw [hz] at this; exact h3 _ this
theorem zmW_mono {zi : Jvm.Cond → Bool} (h1 : ∀ w, zi w = true → zin w = true) {M : zM} (h : zmW zi M = true) : zmV M = true := by
  unfold zmV
  unfold zmW at h ⊢
  split at h
  · rfl
  · simp only [Bool.and_eq_true, Bool.or_eq_true] at h ⊢
    exact ⟨h.1, h.2.1, h.2.2.elim Or.inl (fun w => Or.inr (h1 _ w))⟩
theorem zlk2_mono {zi : Jvm.Cond → Bool} (h1 : ∀ w, zi w = true → zin w = true) {own : String} {i : Nat} {y : MethodName} (h : zlk2 zi own i y = true) : zlk2 zin own i y = true := by
  unfold zlk2 at h ⊢
  rw [Bool.or_eq_true] at h ⊢
  exact h.elim (fun w => Or.inl (h1 _ w)) (fun w => Or.inr (h1 _ w))
theorem zbif_mono {b a c a' c' : Bool} (h1 : a = true → a' = true) (h2 : c = true → c' = true) (h : (bif b then a else c) = true) : (bif b then a' else c') = true := by
  cases b with
  | true => exact h1 h
  | false => exact h2 h
theorem zand_mono {a c a' c' : Bool} (h1 : a = true → a' = true) (h2 : c = true → c' = true) (h : (a && c) = true) : (a' && c') = true := by
  rw [Bool.and_eq_true] at h ⊢
  exact ⟨h1 h.1, h2 h.2⟩
theorem zfG_mono {zi : Jvm.Cond → Bool} (h1 : ∀ w, zi w = true → zin w = true) {own : String} {nL : Nat} {ini : Bool} {len r1 : Nat} {r2 : Int} {pc : Nat} {ins : Instr} (h : zfG zi own nL ini len r1 r2 pc ins = true) : zfB own nL ini len r1 r2 pc ins = true := by
  cases ins
  case ldc_w i => exact zand_mono id (zand_mono id (h1 _)) h
  case ldc2_w i => exact zand_mono id (zand_mono id (h1 _)) h
  case getfield i => exact zand_mono id (zand_mono id (zand_mono id (h1 _))) h
  case putfield i => exact zand_mono id (zand_mono id (zand_mono id (zand_mono (h1 _) id))) h
  case getstatic i => exact zand_mono id (zbif_mono (h1 _) (zand_mono id (h1 _))) h
  case new i => exact zand_mono id (zand_mono id (h1 _)) h
  case anewarray i => exact zand_mono id (zbif_mono (h1 _) (zand_mono id (h1 _))) h
  case multianewarray i dm => exact zand_mono id (zand_mono id (h1 _)) h
  case invokevirtual i =>
    refine zand_mono id (fun h => ?_) h
    split at h
    · exact zand_mono id (zand_mono id (zand_mono (h1 _) id)) h
    · cases h
  case invokestatic i =>
    refine zand_mono id (zbif_mono (h1 _) (zbif_mono (h1 _) (zbif_mono (h1 _) (fun h => ?_)))) h
    split at h
    · exact zand_mono id (zand_mono (zlk2_mono h1) id) h
    · cases h
  case invokespecial i =>
    refine zand_mono id (zbif_mono (h1 _) (fun h => ?_)) h
    split at h
    · exact zand_mono id (zand_mono id (zand_mono (zlk2_mono h1) id)) h
    · cases h
  all_goals exact h
