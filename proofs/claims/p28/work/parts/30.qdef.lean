/-! THE q-LAYER: exact values, a memory of numbers by cell and place, steps as transformers of predicates. A value: an int; a long; a cell by its number; a thing outside (0: the script; 1, 2: the static tables; 10 + i: a String constant; 20 + i: its bytes). -/
abbrev qV : Type := Int ⊕ Int ⊕ Int ⊕ Nat
abbrev qM : Type := Int → Int → Int
abbrev qL : Type := List (Option qV)
abbrev qC : Type := qL → List qV → qM → Prop
abbrev qK : Type := Nat → qC
abbrev qT : Type := Option (Int × (Int → Int))
/-- an instruction: its place, itself, its length, two numbers that tell what it links or where it jumps, a constant -/
abbrev qI : Type := Nat × Instr × Nat × Nat × Nat × Int
abbrev qCall : Type := Nat → List qV → qM → (qV → qM → Prop) → Prop
def q32 (z : Int) : Int := (Int32.ofInt z).toInt
def q64 (z : Int) : Int := (Int64.ofInt z).toInt
def qand (a b : Int) : Int := (Int32.ofInt a &&& Int32.ofInt b).toInt
def qior (a b : Int) : Int := (Int32.ofInt a ||| Int32.ofInt b).toInt
def qxor (a b : Int) : Int := (Int32.ofInt a ^^^ Int32.ofInt b).toInt
def qshl (a b : Int) : Int := (Int32.ofInt a <<< (Int32.ofInt b &&& 31)).toInt
def qshr (a b : Int) : Int := (Int32.ofInt a >>> (Int32.ofInt b &&& 31)).toInt
def qushr (a b : Int) : Int := ((Int32.ofInt a).toUInt32 >>> ((Int32.ofInt b).toUInt32 &&& Int32.toUInt32 31)).toInt32.toInt
def qlrem (a b : Int) : Int := (Int64.ofInt a - Int64.ofInt a / Int64.ofInt b * Int64.ofInt b).toInt
def qirem (a b : Int) : Int := (Int32.ofInt a - Int32.ofInt a / Int32.ofInt b * Int32.ofInt b).toInt
def qidiv (a b : Int) : Int := (Int32.ofInt a / Int32.ofInt b).toInt
def qland (a b : Int) : Int := (Int64.ofInt a &&& Int64.ofInt b).toInt
def qlor (a b : Int) : Int := (Int64.ofInt a ||| Int64.ofInt b).toInt
def qlshl (a b : Int) : Int := (Int64.ofInt a <<< ((Int32.ofInt b).toInt64 &&& 63)).toInt
def qlshr (a b : Int) : Int := (Int64.ofInt a >>> ((Int32.ofInt b).toInt64 &&& 63)).toInt
def qlushr (a b : Int) : Int := ((Int64.ofInt a).toUInt64 >>> ((Int32.ofInt b).toInt64.toUInt64 &&& Int64.toUInt64 63)).toInt64.toInt
def qi2b (a : Int) : Int := (Int32.ofInt a).toInt8.toInt32.toInt
def qi2c (a : Int) : Int := ((Int32.ofInt a).toUInt32 % 65536).toInt32.toInt
def qlcmp (a b : Int) : Int := if b < a then 1 else if a = b then 0 else -1
def qmax (a b : Int) : Int := if a < b then b else a
def qmin (a b : Int) : Int := if b < a then b else a
/-- the memory with v at the place i of the cell c -/
def qu (μ : qM) (c i v : Int) : qM := fun c' i' => if c' = c ∧ i' = i then v else μ c' i'
/-- the memory with the cell a's contents in the cell b -/
def qcp (μ : qM) (a b : Int) : qM := fun c' i' => if c' = b then μ a i' else μ c' i'
def qg : qL → Nat → Option qV
  | [], _ => none
  | a :: _, 0 => a
  | _ :: l, k + 1 => qg l k
def qcl : Option qV → Option qV
  | some (.inr (.inl _)) => none
  | o => o
def qset : qL → Nat → qV → qL
  | [], _, _ => []
  | _ :: l, 0, v => some v :: l
  | a :: l, 1, v => qcl a :: (match l with
    | [] => []
    | _ :: l => some v :: l)
  | a :: l, k + 2, v => a :: qset l (k + 1) v
def qnone : qL → Nat → qL
  | [], _ => []
  | _ :: l, 0 => none :: l
  | a :: l, k + 1 => a :: qnone l k
def qtk : Nat → List qV → List qV → Option (List qV × List qV)
  | 0, st, acc => some (acc, st)
  | n + 1, a :: st, acc => qtk n st (a :: acc)
  | _ + 1, [], _ => none
def qle4 : List qV → Bool
  | [] => true
  | [_] => true
  | [_, _] => true
  | [_, _, _] => true
  | [_, _, _, _] => true
  | _ => false
def qca : qV → Nat
  | .inr (.inl _) => 2
  | _ => 1
def qrel (k : Jvm.ClassFile.Cond) (a b : Int) : Prop := match k with
  | .eq => a = b
  | .ne => ¬ a = b
  | .lt => a < b
  | .ge => b ≤ a
  | .gt => b < a
  | .le => a ≤ b
def qneg (k : Jvm.ClassFile.Cond) (a b : Int) : Prop := match k with
  | .eq => ¬ a = b
  | .ne => a = b
  | .lt => b ≤ a
  | .ge => a < b
  | .gt => a ≤ b
  | .le => b < a
/-! what the cells are -/
/-- a cell: an object (class, its fields: the cell that one holds, if it holds one), or an array (kind, length, the cells that it holds) -/
abbrev qS : Type := (Nat × List (Option Nat)) ⊕ (Nat × Nat × List Nat)
def qsh : List qS := [
  .inl (9, [some 1, some 9, some 15, some 57, some 58, some 73, none]), .inl (7, [some 2, some 3, none]), .inr (2, 300, []), .inl (6, [some 4, some 5, some 6, some 7, some 8, none]), .inr (0, 6, []), .inr (0, 6, []),
  .inr (0, 6, []), .inr (0, 6, []), .inr (0, 6, []), .inl (6, [some 10, some 11, some 12, some 13, some 14, none]), .inr (0, 6, []), .inr (0, 6, []),
  .inr (0, 6, []), .inr (0, 6, []), .inr (0, 6, []), .inl (0, [some 16, some 54, some 55, some 56, none, none, none]), .inl (8, [some 17, some 18, some 30, some 42, none, none, none]), .inr (0, 21, []),
  .inr (7, 11, [19, 20, 21, 22, 23, 24, 25, 26, 27, 28, 29]), .inr (0, 201, []), .inr (0, 201, []), .inr (0, 201, []), .inr (0, 201, []), .inr (0, 201, []),
  .inr (0, 201, []), .inr (0, 201, []), .inr (0, 201, []), .inr (0, 201, []), .inr (0, 201, []), .inr (0, 201, []),
  .inr (7, 11, [31, 32, 33, 34, 35, 36, 37, 38, 39, 40, 41]), .inr (0, 201, []), .inr (0, 201, []), .inr (0, 201, []), .inr (0, 201, []), .inr (0, 201, []),
  .inr (0, 201, []), .inr (0, 201, []), .inr (0, 201, []), .inr (0, 201, []), .inr (0, 201, []), .inr (0, 201, []),
  .inr (7, 11, [43, 44, 45, 46, 47, 48, 49, 50, 51, 52, 53]), .inr (0, 201, []), .inr (0, 201, []), .inr (0, 201, []), .inr (0, 201, []), .inr (0, 201, []),
  .inr (0, 201, []), .inr (0, 201, []), .inr (0, 201, []), .inr (0, 201, []), .inr (0, 201, []), .inr (0, 201, []),
  .inr (0, 10, []), .inr (0, 3, []), .inr (0, 3, []), .inr (5, 6, [74, 85, 96, 107, 118, 129]), .inl (1, [some 59, some 67, some 71, none, none]), .inl (2, [some 60, some 61, some 62, some 63, some 64, some 65, some 66, none]),
  .inr (0, 20, []), .inr (0, 20, []), .inr (0, 20, []), .inr (0, 20, []), .inr (0, 20, []), .inr (0, 20, []),
  .inr (0, 20, []), .inl (3, [some 68, some 69, some 70, none]), .inr (0, 30, []), .inr (0, 30, []), .inr (0, 30, []), .inl (4, [some 72, none]),
  .inr (0, 40, []), .inr (6, 2, [140, 155]), .inl (5, [some 75, some 76, some 77, some 78, some 79, some 80, some 81, some 82, some 83, some 84, none]), .inr (0, 10, []), .inr (0, 10, []), .inr (0, 10, []),
  .inr (0, 10, []), .inr (0, 3, []), .inr (0, 3, []), .inr (0, 3, []), .inr (0, 3, []), .inr (0, 201, []),
  .inr (0, 201, []), .inl (5, [some 86, some 87, some 88, some 89, some 90, some 91, some 92, some 93, some 94, some 95, none]), .inr (0, 10, []), .inr (0, 10, []), .inr (0, 10, []), .inr (0, 10, []),
  .inr (0, 3, []), .inr (0, 3, []), .inr (0, 3, []), .inr (0, 3, []), .inr (0, 201, []), .inr (0, 201, []),
  .inl (5, [some 97, some 98, some 99, some 100, some 101, some 102, some 103, some 104, some 105, some 106, none]), .inr (0, 10, []), .inr (0, 10, []), .inr (0, 10, []), .inr (0, 10, []), .inr (0, 3, []),
  .inr (0, 3, []), .inr (0, 3, []), .inr (0, 3, []), .inr (0, 201, []), .inr (0, 201, []), .inl (5, [some 108, some 109, some 110, some 111, some 112, some 113, some 114, some 115, some 116, some 117, none]),
  .inr (0, 10, []), .inr (0, 10, []), .inr (0, 10, []), .inr (0, 10, []), .inr (0, 3, []), .inr (0, 3, []),
  .inr (0, 3, []), .inr (0, 3, []), .inr (0, 201, []), .inr (0, 201, []), .inl (5, [some 119, some 120, some 121, some 122, some 123, some 124, some 125, some 126, some 127, some 128, none]), .inr (0, 10, []),
  .inr (0, 10, []), .inr (0, 10, []), .inr (0, 10, []), .inr (0, 3, []), .inr (0, 3, []), .inr (0, 3, []),
  .inr (0, 3, []), .inr (0, 201, []), .inr (0, 201, []), .inl (5, [some 130, some 131, some 132, some 133, some 134, some 135, some 136, some 137, some 138, some 139, none]), .inr (0, 10, []), .inr (0, 10, []),
  .inr (0, 10, []), .inr (0, 10, []), .inr (0, 3, []), .inr (0, 3, []), .inr (0, 3, []), .inr (0, 3, []),
  .inr (0, 201, []), .inr (0, 201, []), .inl (1, [some 141, some 149, some 153, none, none]), .inl (2, [some 142, some 143, some 144, some 145, some 146, some 147, some 148, none]), .inr (0, 20, []), .inr (0, 20, []),
  .inr (0, 20, []), .inr (0, 20, []), .inr (0, 20, []), .inr (0, 20, []), .inr (0, 20, []), .inl (3, [some 150, some 151, some 152, none]),
  .inr (0, 30, []), .inr (0, 30, []), .inr (0, 30, []), .inl (4, [some 154, none]), .inr (0, 40, []), .inl (1, [some 156, some 164, some 168, none, none]),
  .inl (2, [some 157, some 158, some 159, some 160, some 161, some 162, some 163, none]), .inr (0, 20, []), .inr (0, 20, []), .inr (0, 20, []), .inr (0, 20, []), .inr (0, 20, []),
  .inr (0, 20, []), .inr (0, 20, []), .inl (3, [some 165, some 166, some 167, none]), .inr (0, 30, []), .inr (0, 30, []), .inr (0, 30, []),
  .inl (4, [some 169, none]), .inr (0, 40, []), .inl (10, [none, none, some 171, none, none, some 172, some 173, some 174, some 175, some 176, none, none, none, none, none, some 177, some 178, some 179, some 180, some 181, some 182, some 183, some 184, some 185, some 186, some 187, some 188, some 189, none, none, none, some 190, some 191, some 192, some 193, some 194, some 195, some 196, some 197, some 198, some 199, some 200, some 201, some 202, some 203, some 204, some 205, some 206, some 207, some 208, some 209]), .inr (1, 300, []), .inr (0, 12, []), .inr (0, 12, []),
  .inr (0, 12, []), .inr (0, 12, []), .inr (0, 12, []), .inr (0, 60, []), .inr (0, 60, []), .inr (0, 60, []),
  .inr (0, 60, []), .inr (0, 6, []), .inr (0, 18, []), .inr (0, 18, []), .inr (0, 18, []), .inr (0, 18, []),
  .inr (0, 10, []), .inr (4, 201, []), .inr (0, 201, []), .inr (0, 201, []), .inr (3, 201, []), .inr (0, 3, []),
  .inr (0, 3, []), .inr (0, 3, []), .inr (0, 3, []), .inr (0, 3, []), .inr (0, 60, []), .inr (0, 60, []),
  .inr (0, 60, []), .inr (0, 60, []), .inr (0, 60, []), .inr (0, 60, []), .inr (0, 60, []), .inr (0, 60, []),
  .inr (0, 90, []), .inr (0, 90, []), .inr (0, 90, []), .inr (0, 120, []), .inr (0, 2412, []), .inr (3, 2, [])]
def qat (c : Int) : Option qS := match c with
  | .ofNat n => qsh[n]?
  | .negSucc _ => none
def qty (c : Int) : Nat := match qat c with
  | some (.inl x) => x.1
  | some (.inr x) => 100 + x.1
  | none => 999
def qal (c : Int) : Int := match qat c with
  | some (.inr x) => (x.2.1 : Int)
  | _ => 0
def qra (c i : Int) : Int := match qat c with
  | some (.inr x) => ((x.2.2.getD i.toNat 0 : Nat) : Int)
  | _ => 0
def qrf (c : Int) (k : Nat) : Int := match qat c with
  | some (.inl x) => (((x.2.getD k none).getD 0 : Nat) : Int)
  | _ => 0
/-! the String constants -/
def qsl : List (List Int32) := [[102, 114, 111, 109], [98, 97, 115, 101], [102, 114, 101, 101], [116, 97, 107, 101], [47], [59]]
/-! steps -/
/-- P, if b; a closed b goes away by computation -/
def qif (b : Bool) (P : Prop) : Prop := bif b then P else False
theorem qif_ok {b : Bool} {P : Prop} (h : qif b P) : b = true ∧ P := by
  cases b with
  | true => exact ⟨rfl, h⟩
  | false => exact h.elim
theorem qif_eq {a b : Nat} {P : Prop} (h : qif (Nat.beq a b) P) : a = b ∧ P := ⟨Nat.eq_of_beq_eq_true (qif_ok h).1, (qif_ok h).2⟩
theorem qif_mono {b : Bool} {P Q : Prop} (h : P → Q) : qif b P → qif b Q := by
  cases b with
  | true => exact h
  | false => exact id
theorem qif_t {b : Bool} {P : Prop} (h : b = true) : qif b P = P := by
  rw [h]
  rfl
theorem qif_e {a b : Nat} {P : Prop} (h : a = b) : qif (Nat.beq a b) P = P := qif_t (by rw [h]; exact Nat.beq_refl b)
noncomputable def qs_iload (k : Nat) (K : qC) : qC := fun ls st μ => match qg ls k with
  | some (.inl a) => K ls (.inl a :: st) μ
  | _ => False
noncomputable def qs_lload (k : Nat) (K : qC) : qC := fun ls st μ => match qg ls k with
  | some (.inr (.inl a)) => K ls (.inr (.inl a) :: st) μ
  | _ => False
noncomputable def qs_aload (k : Nat) (K : qC) : qC := fun ls st μ => match qg ls k with
  | some (.inr (.inr (.inl a))) => K ls (.inr (.inr (.inl a)) :: st) μ
  | some (.inr (.inr (.inr a))) => ¬ a = 3 ∧ K ls (.inr (.inr (.inr a)) :: st) μ
  | _ => False
noncomputable def qs_istore (k : Nat) (K : qC) : qC := fun ls st μ => match st with
  | .inl a :: st => K (qset ls k (.inl a)) st μ
  | _ => False
noncomputable def qs_lstore (k : Nat) (K : qC) : qC := fun ls st μ => match st with
  | .inr (.inl a) :: st => K (qset (qnone ls (k + 1)) k (.inr (.inl a))) st μ
  | _ => False
noncomputable def qs_astore (k : Nat) (K : qC) : qC := fun ls st μ => match st with
  | .inr (.inr (.inl a)) :: st => K (qset ls k (.inr (.inr (.inl a)))) st μ
  | _ => False
noncomputable def qs_push (v : qV) (K : qC) : qC := fun ls st μ => K ls (v :: st) μ
noncomputable def qs_b (f : Int → Int → Int) (K : qC) : qC := fun ls st μ => match st with
  | .inl b :: .inl a :: st => K ls (.inl (f a b) :: st) μ
  | _ => False
noncomputable def qs_bd (f : Int → Int → Int) (K : qC) : qC := fun ls st μ => match st with
  | .inl b :: .inl a :: st => ¬ b = 0 ∧ K ls (.inl (f a b) :: st) μ
  | _ => False
noncomputable def qs_l (f : Int → Int → Int) (K : qC) : qC := fun ls st μ => match st with
  | .inr (.inl b) :: .inr (.inl a) :: st => K ls (.inr (.inl (f a b)) :: st) μ
  | _ => False
noncomputable def qs_ld (f : Int → Int → Int) (K : qC) : qC := fun ls st μ => match st with
  | .inr (.inl b) :: .inr (.inl a) :: st => ¬ b = 0 ∧ K ls (.inr (.inl (f a b)) :: st) μ
  | _ => False
noncomputable def qs_lsh (f : Int → Int → Int) (K : qC) : qC := fun ls st μ => match st with
  | .inl b :: .inr (.inl a) :: st => K ls (.inr (.inl (f a b)) :: st) μ
  | _ => False
noncomputable def qs_u (f : Int → Int) (K : qC) : qC := fun ls st μ => match st with
  | .inl a :: st => K ls (.inl (f a) :: st) μ
  | _ => False
noncomputable def qs_i2l (K : qC) : qC := fun ls st μ => match st with
  | .inl a :: st => K ls (.inr (.inl a) :: st) μ
  | _ => False
noncomputable def qs_l2i (K : qC) : qC := fun ls st μ => match st with
  | .inr (.inl a) :: st => K ls (.inl (q32 a) :: st) μ
  | _ => False
noncomputable def qs_lcmp (K : qC) : qC := fun ls st μ => match st with
  | .inr (.inl b) :: .inr (.inl a) :: st => K ls (.inl (qlcmp a b) :: st) μ
  | _ => False
noncomputable def qs_iinc (k : Nat) (n : Int) (K : qC) : qC := fun ls st μ => match qg ls k with
  | some (.inl a) => K (qset ls k (.inl (q32 (a + n)))) st μ
  | _ => False
noncomputable def qs_dup (K : qC) : qC := fun ls st μ => match st with
  | .inl a :: st => K ls (.inl a :: .inl a :: st) μ
  | .inr (.inr (.inl a)) :: st => K ls (.inr (.inr (.inl a)) :: .inr (.inr (.inl a)) :: st) μ
  | _ => False
noncomputable def qs_dup2 (K : qC) : qC := fun ls st μ => match st with
  | .inl a :: .inr (.inr (.inl b)) :: st => K ls (.inl a :: .inr (.inr (.inl b)) :: .inl a :: .inr (.inr (.inl b)) :: st) μ
  | _ => False
noncomputable def qs_pop (K : qC) : qC := fun ls st μ => match st with
  | .inl _ :: st => K ls st μ
  | _ => False
noncomputable def qs_pop2 (K : qC) : qC := fun ls st μ => match st with
  | .inr (.inl _) :: st => K ls st μ
  | _ => False
noncomputable def qs_goto (K : qC) : qC := fun ls st μ => K ls st μ
noncomputable def qs_icmp (k : Jvm.ClassFile.Cond) (Kt Kf : qC) : qC := fun ls st μ => match st with
  | .inl b :: .inl a :: st => (qrel k a b → Kt ls st μ) ∧ (qneg k a b → Kf ls st μ)
  | _ => False
noncomputable def qs_if (k : Jvm.ClassFile.Cond) (Kt Kf : qC) : qC := fun ls st μ => match st with
  | .inl a :: st => (qrel k a 0 → Kt ls st μ) ∧ (qneg k a 0 → Kf ls st μ)
  | _ => False
noncomputable def qtab (a : Int) : Int → List qC → qC
  | _, [] => fun _ _ _ => True
  | i, K :: l => fun ls st μ => (a = i → K ls st μ) ∧ qtab a (i + 1) l ls st μ
noncomputable def qs_table (lo hi : Int) (Kd : qC) (Ks : List qC) : qC := fun ls st μ => match st with
  | .inl a :: st => ((a < lo ∨ hi < a) → Kd ls st μ) ∧ qtab a lo Ks ls st μ
  | _ => False
noncomputable def qs_gi (r k : Nat) (K : qC) : qC := fun ls st μ => match st with
  | .inr (.inr (.inl c)) :: st => qif (Nat.beq (qty c) r) (K ls (.inl (μ c k) :: st) μ)
  | _ => False
noncomputable def qs_gl (r k : Nat) (K : qC) : qC := fun ls st μ => match st with
  | .inr (.inr (.inl c)) :: st => qif (Nat.beq (qty c) r) (K ls (.inr (.inl (μ c k)) :: st) μ)
  | _ => False
noncomputable def qs_gr (r k : Nat) (K : qC) : qC := fun ls st μ => match st with
  | .inr (.inr (.inl c)) :: st => qif (Nat.beq (qty c) r) (K ls (.inr (.inr (.inl (qrf c k))) :: st) μ)
  | _ => False
noncomputable def qs_gsc (K : qC) : qC := fun ls st μ => match st with
  | .inr (.inr (.inr k)) :: st => (10 ≤ k ∧ k < 16) ∧ K ls (.inl 0 :: st) μ
  | _ => False
noncomputable def qs_gsv (K : qC) : qC := fun ls st μ => match st with
  | .inr (.inr (.inr k)) :: st => (10 ≤ k ∧ k < 16) ∧ K ls (.inr (.inr (.inr (k + 10))) :: st) μ
  | _ => False
noncomputable def qs_pi (r k : Nat) (K : qC) : qC := fun ls st μ => match st with
  | .inl v :: .inr (.inr (.inl c)) :: st => qif (Nat.beq (qty c) r) (K ls st (qu μ c k v))
  | _ => False
noncomputable def qs_pb (r k : Nat) (K : qC) : qC := fun ls st μ => match st with
  | .inl v :: .inr (.inr (.inl c)) :: st => qif (Nat.beq (qty c) r) ((0 ≤ v ∧ v ≤ 1) ∧ K ls st (qu μ c k v))
  | _ => False
noncomputable def qs_pl (r k : Nat) (K : qC) : qC := fun ls st μ => match st with
  | .inr (.inl v) :: .inr (.inr (.inl c)) :: st => qif (Nat.beq (qty c) r) (K ls st (qu μ c k v))
  | _ => False
noncomputable def qs_iald (t : qT) (K : qC) : qC := fun ls st μ => match st with
  | .inl i :: .inr (.inr (.inl c)) :: st => qif (Nat.beq (qty c) 100) ((0 ≤ i ∧ i < qal c) ∧ K ls (.inl (μ c i) :: st) μ)
  | .inl i :: .inr (.inr (.inr 0)) :: st => (match t with
    | some t => (0 ≤ i ∧ i < t.1) ∧ K ls (.inl (t.2 i) :: st) μ
    | none => False)
  | .inl i :: .inr (.inr (.inr 1)) :: st => (0 ≤ i ∧ i < 8) ∧ K ls (.inl ((ztb 0).getD i.toNat 0) :: st) μ
  | .inl i :: .inr (.inr (.inr 2)) :: st => (0 ≤ i ∧ i < 8) ∧ K ls (.inl ((ztb 1).getD i.toNat 0) :: st) μ
  | _ => False
noncomputable def qs_bald (K : qC) : qC := fun ls st μ => match st with
  | .inl i :: .inr (.inr (.inl c)) :: st => qif (Nat.beq (qty c) 101 || Nat.beq (qty c) 103) ((0 ≤ i ∧ i < qal c) ∧ K ls (.inl (μ c i) :: st) μ)
  | .inl i :: .inr (.inr (.inr k)) :: st => (20 ≤ k ∧ k < 26) ∧ (0 ≤ i ∧ i < (qsl.getD (k - 20) []).length) ∧ K ls (.inl ((qsl.getD (k - 20) []).getD i.toNat 0).toInt :: st) μ
  | _ => False
noncomputable def qs_cald (K : qC) : qC := fun ls st μ => match st with
  | .inl i :: .inr (.inr (.inl c)) :: st => qif (Nat.beq (qty c) 102) ((0 ≤ i ∧ i < qal c) ∧ K ls (.inl (μ c i) :: st) μ)
  | _ => False
noncomputable def qs_lald (K : qC) : qC := fun ls st μ => match st with
  | .inl i :: .inr (.inr (.inl c)) :: st => qif (Nat.beq (qty c) 104) ((0 ≤ i ∧ i < qal c) ∧ K ls (.inr (.inl (μ c i)) :: st) μ)
  | _ => False
noncomputable def qs_aald (K : qC) : qC := fun ls st μ => match st with
  | .inl i :: .inr (.inr (.inl c)) :: st => qif (Nat.ble 105 (qty c) && Nat.ble (qty c) 107) ((0 ≤ i ∧ i < qal c) ∧ K ls (.inr (.inr (.inl (qra c i))) :: st) μ)
  | _ => False
noncomputable def qs_iast (K : qC) : qC := fun ls st μ => match st with
  | .inl v :: .inl i :: .inr (.inr (.inl c)) :: st => qif (Nat.beq (qty c) 100) ((0 ≤ i ∧ i < qal c) ∧ K ls st (qu μ c i v))
  | _ => False
noncomputable def qs_bast (K : qC) : qC := fun ls st μ => match st with
  | .inl v :: .inl i :: .inr (.inr (.inl c)) :: st => qif (Nat.beq (qty c) 101 || Nat.beq (qty c) 103) ((bif Nat.beq (qty c) 101 then -128 ≤ v ∧ v ≤ 127 else 0 ≤ v ∧ v ≤ 1) ∧ (0 ≤ i ∧ i < qal c) ∧ K ls st (qu μ c i v))
  | _ => False
noncomputable def qs_cast (K : qC) : qC := fun ls st μ => match st with
  | .inl v :: .inl i :: .inr (.inr (.inl c)) :: st => qif (Nat.beq (qty c) 102) ((0 ≤ v ∧ v ≤ 65535) ∧ (0 ≤ i ∧ i < qal c) ∧ K ls st (qu μ c i v))
  | _ => False
noncomputable def qs_last (K : qC) : qC := fun ls st μ => match st with
  | .inr (.inl v) :: .inl i :: .inr (.inr (.inl c)) :: st => qif (Nat.beq (qty c) 104) ((0 ≤ i ∧ i < qal c) ∧ K ls st (qu μ c i v))
  | _ => False
noncomputable def qs_alen (t : qT) (K : qC) : qC := fun ls st μ => match st with
  | .inr (.inr (.inl c)) :: st => qif (Nat.ble 100 (qty c) && Nat.ble (qty c) 107) (K ls (.inl (qal c) :: st) μ)
  | .inr (.inr (.inr k)) :: st => (k = 0 ∧ match t with
    | some t => K ls (.inl t.1 :: st) μ
    | none => False) ∨ ((20 ≤ k ∧ k < 26) ∧ K ls (.inl ((qsl.getD (k - 20) []).length : Int) :: st) μ)
  | _ => False
noncomputable def qs_copy (K : qC) : qC := fun ls st μ => match st with
  | [.inl n, .inl dp, .inr (.inr (.inl r)), .inl sp, .inr (.inr (.inl q))] => qif (Nat.beq (qty q) 100 && Nat.beq (qty r) 100) (((n = qal q ∧ qal r = qal q) ∧ dp = 0 ∧ sp = 0) ∧ K ls [] (qcp μ q r))
  | _ => False
noncomputable def qs_mm (f : Int → Int → Int) (K : qC) : qC := fun ls st μ => match st with
  | .inl b :: .inl a :: st => qif (qle4 st) (K ls (.inl (f a b) :: st) μ)
  | _ => False
noncomputable def qs_cr (call : qCall) (j n : Nat) (K : qC) : qC := fun ls st μ => match qtk n st [] with
  | some (as, st) => qif (qle4 st) (call j as μ (fun v μ => K ls (v :: st) μ))
  | none => False
noncomputable def qs_cv (call : qCall) (j n : Nat) (K : qC) : qC := fun ls st μ => match qtk n st [] with
  | some (as, st) => qif (qle4 st) (call j as μ (fun _ μ => K ls st μ))
  | none => False
/-- what a method answers: 0 nothing, 1 int, 2 boolean, 3 long, 4 char, 5 byte, 6 a reference -/
noncomputable def qs_iret (rk : Nat) (Rt : qV → qM → Prop) : qC := fun _ st μ => match st with
  | [.inl a] => (match rk with
    | 1 => Rt (.inl a) μ
    | 2 => (0 ≤ a ∧ a ≤ 1) ∧ Rt (.inl a) μ
    | 4 => (0 ≤ a ∧ a ≤ 65535) ∧ Rt (.inl a) μ
    | 5 => (-128 ≤ a ∧ a ≤ 127) ∧ Rt (.inl a) μ
    | _ => False)
  | _ => False
noncomputable def qs_lret (rk : Nat) (Rt : qV → qM → Prop) : qC := fun _ st μ => match st with
  | [.inr (.inl a)] => (match rk with
    | 3 => Rt (.inr (.inl a)) μ
    | _ => False)
  | _ => False
noncomputable def qs_aret (rk : Nat) (Rt : qV → qM → Prop) : qC := fun _ st μ => match st with
  | [.inr (.inr (.inr k))] => (match rk with
    | 6 => (10 ≤ k ∧ k < 16) ∧ Rt (.inr (.inr (.inr k))) μ
    | _ => False)
  | _ => False
noncomputable def qs_vret (rk : Nat) (Rt : qV → qM → Prop) : qC := fun _ st μ => match st with
  | [] => (match rk with
    | 0 => Rt (.inl 0) μ
    | _ => False)
  | _ => False
noncomputable def qs_no : qC := fun _ _ _ => False
/-- what kind of field: 0 int, 1 boolean, 2 long, 3 a cell -/
def qfk (t : FieldType) : Nat := match t with
  | .boolean => 1
  | .long => 2
  | .object _ => 3
  | .array _ => 3
  | _ => 0
noncomputable def qgf (r1 r2 : Nat) (K : qC) : qC := bif Nat.beq r1 20 then qs_gsc K else bif Nat.beq r1 21 then qs_gsv K else match qfk (zty r1 r2) with
  | 2 => qs_gl r1 r2 K
  | 3 => qs_gr r1 r2 K
  | _ => qs_gi r1 r2 K
noncomputable def qpf (r1 r2 : Nat) (K : qC) : qC := match qfk (zty r1 r2) with
  | 0 => qs_pi r1 r2 K
  | 1 => qs_pb r1 r2 K
  | 2 => qs_pl r1 r2 K
  | _ => qs_no
noncomputable def qstat (r1 : Nat) : qV := match r1 with
  | 0 => .inr (.inr (.inr 1))
  | 1 => .inr (.inr (.inr 2))
  | 2 => .inl 1
  | _ => .inr (.inr (.inr 3))
noncomputable def qinv (call : qCall) (r1 r2 : Nat) (K : qC) : qC := bif Nat.ble 100 r2 then qs_cv call r1 (r2 - 100) K else qs_cr call r1 r2 K
noncomputable def qsel (call : qCall) (t : qT) (rk : Nat) (Rt : qV → qM → Prop) (K : qK) (pc : Nat) (ins : Instr) (len r1 r2 : Nat) (c : Int) : qC := match ins with
  | .iload_n k => qs_iload k (K (pc + len))
  | .iload k => qs_iload k (K (pc + len))
  | .aload_n k => qs_aload k (K (pc + len))
  | .aload k => qs_aload k (K (pc + len))
  | .lload_n k => qs_lload k (K (pc + len))
  | .lload k => qs_lload k (K (pc + len))
  | .istore_n k => qs_istore k (K (pc + len))
  | .istore k => qs_istore k (K (pc + len))
  | .astore_n k => qs_astore k (K (pc + len))
  | .astore k => qs_astore k (K (pc + len))
  | .lstore_n k => qs_lstore k (K (pc + len))
  | .lstore k => qs_lstore k (K (pc + len))
  | .iconst n => qs_push (.inl n) (K (pc + len))
  | .bipush n => qs_push (.inl n) (K (pc + len))
  | .sipush n => qs_push (.inl n) (K (pc + len))
  | .lconst n => qs_push (.inr (.inl ((n : Nat) : Int))) (K (pc + len))
  | .ldc_w _ => qs_push (.inl c) (K (pc + len))
  | .ldc2_w _ => qs_push (.inr (.inl c)) (K (pc + len))
  | .ldc _ => qs_push (.inr (.inr (.inr (10 + r1)))) (K (pc + len))
  | .iadd => qs_b (fun a b => q32 (a + b)) (K (pc + len))
  | .isub => qs_b (fun a b => q32 (a - b)) (K (pc + len))
  | .imul => qs_b (fun a b => q32 (a * b)) (K (pc + len))
  | .idiv => qs_bd qidiv (K (pc + len))
  | .irem => qs_bd qirem (K (pc + len))
  | .iand => qs_b qand (K (pc + len))
  | .ior => qs_b qior (K (pc + len))
  | .ixor => qs_b qxor (K (pc + len))
  | .ishl => qs_b qshl (K (pc + len))
  | .ishr => qs_b qshr (K (pc + len))
  | .iushr => qs_b qushr (K (pc + len))
  | .iinc k n => qs_iinc k n (K (pc + len))
  | .ladd => qs_l (fun a b => q64 (a + b)) (K (pc + len))
  | .lsub => qs_l (fun a b => q64 (a - b)) (K (pc + len))
  | .lmul => qs_l (fun a b => q64 (a * b)) (K (pc + len))
  | .lrem => qs_ld qlrem (K (pc + len))
  | .land => qs_l qland (K (pc + len))
  | .lor => qs_l qlor (K (pc + len))
  | .lshl => qs_lsh qlshl (K (pc + len))
  | .lshr => qs_lsh qlshr (K (pc + len))
  | .lushr => qs_lsh qlushr (K (pc + len))
  | .i2l => qs_i2l (K (pc + len))
  | .l2i => qs_l2i (K (pc + len))
  | .i2b => qs_u qi2b (K (pc + len))
  | .i2c => qs_u qi2c (K (pc + len))
  | .lcmp => qs_lcmp (K (pc + len))
  | .dup => qs_dup (K (pc + len))
  | .dup2 => qs_dup2 (K (pc + len))
  | .pop => qs_pop (K (pc + len))
  | .pop2 => qs_pop2 (K (pc + len))
  | .goto _ => qs_goto (K r1)
  | .if_icmp k _ => qs_icmp k (K r1) (K (pc + len))
  | .ifCond k _ => qs_if k (K r1) (K (pc + len))
  | .tableswitch df lo hi offs => qs_table lo hi (K ((pc : Int) + df).toNat) (offs.toList.map fun o => K ((pc : Int) + o).toNat)
  | .getfield _ => qgf r1 r2 (K (pc + len))
  | .putfield _ => qpf r1 r2 (K (pc + len))
  | .getstatic _ => qs_push (qstat r1) (K (pc + len))
  | .iaload => qs_iald t (K (pc + len))
  | .baload => qs_bald (K (pc + len))
  | .caload => qs_cald (K (pc + len))
  | .laload => qs_lald (K (pc + len))
  | .aaload => qs_aald (K (pc + len))
  | .iastore => qs_iast (K (pc + len))
  | .bastore => qs_bast (K (pc + len))
  | .castore => qs_cast (K (pc + len))
  | .lastore => qs_last (K (pc + len))
  | .arraylength => qs_alen t (K (pc + len))
  | .invokevirtual _ => qinv call r1 r2 (K (pc + len))
  | .invokestatic _ => bif Nat.beq r1 1001 then qs_copy (K (pc + len)) else bif Nat.beq r1 1002 then qs_mm qmax (K (pc + len)) else bif Nat.beq r1 1003 then qs_mm qmin (K (pc + len)) else qinv call r1 r2 (K (pc + len))
  | .ireturn => qs_iret rk Rt
  | .lreturn => qs_lret rk Rt
  | .areturn => qs_aret rk Rt
  | .return_ => qs_vret rk Rt
  | _ => qs_no
