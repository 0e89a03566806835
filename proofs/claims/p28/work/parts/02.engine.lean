/-! THE ENGINE: a run of bytecode over abstract values. A value: an int of an interval; a variable (its interval stands in the box); a long (known, or any); a reference to a cell by its place in the list of cells, or null; a reference to a thing outside (0: the script; k + 1: a static table). -/
abbrev zA : Type := (Int × Int) ⊕ Nat ⊕ (Option Int) ⊕ (Option Nat) ⊕ Nat
/-- a table: its old rows by eights; the new or changed ones -/
abbrev zT (α : Type) : Type := List (List α) × List (Nat × α)
/-- a cell: an object (class, fields) or an array (kind, length, what its places hold, but for these). Kinds: 0 int, 1 byte, 2 char, 3 boolean, 4 long, 5 Person[], 6 Books[], 7 int[][] -/
abbrev zC : Type := (Nat × zT zA) ⊕ (Nat × Nat × zA × List (Nat × zA))
/-- an instruction: its place, itself, its length, two numbers that tell what it links, or how far a jump goes -/
abbrev zI : Type := Nat × Instr × Nat × Nat × Int
abbrev zE : Type := List (Int × Int)
abbrev zL : Type := List (Nat × zA)
/-- the cells: how many, how many slots; themselves -/
abbrev zH : Type := (Nat × Nat) × zT zC
/-- what an instruction does: goes on; jumps (where to, and a hint); calls; returns; can't go on (a variable, where to part its interval) -/
abbrev zS : Type := (zL × List zA × zH) ⊕ (Nat × Bool × Nat × List zA) ⊕ (Nat × List zA × List zA) ⊕ (Option zA) ⊕ (Nat × Int)
abbrev zk (c : Int) : zA := .inl (c, c)
abbrev zlg (o : Option Int) : zA := .inr (.inr (.inl o))
abbrev zrf (i : Nat) : zA := .inr (.inr (.inr (.inl (some i))))
abbrev znl : zA := .inr (.inr (.inr (.inl none)))
abbrev zpx (k : Nat) : zA := .inr (.inr (.inr (.inr k)))
abbrev zgo (al : zL) (st : List zA) (h : zH) : zS := .inl (al, st, h)
abbrev zjp (t : Nat) (b : Bool) (k : Nat) (st : List zA) : zS := .inr (.inl (t, b, k, st))
abbrev zcl (j : Nat) (as st : List zA) : zS := .inr (.inr (.inl (j, as, st)))
abbrev zrt (r : Option zA) : zS := .inr (.inr (.inr (.inl r)))
abbrev zno (q : Nat × Int) : zS := .inr (.inr (.inr (.inr q)))
noncomputable def zlk {α : Type} (l : List (Nat × α)) (i : Nat) : Option α := List.rec (motive := fun _ => Option α) none (fun q _ ih => bif Nat.beq q.1 i then some q.2 else ih) l
noncomputable def zrm {α : Type} (l : List (Nat × α)) (i : Nat) : List (Nat × α) := List.rec (motive := fun _ => List (Nat × α)) [] (fun q _ ih => bif Nat.beq q.1 i then ih else q :: ih) l
noncomputable def znt {α : Type} (l : List α) : Nat → Option α := List.rec (motive := fun _ => Nat → Option α) (fun _ => none) (fun a _ ih n => Nat.rec (motive := fun _ => Option α) (some a) (fun k _ => ih k) n) l
noncomputable def zg {α : Type} (t : zT α) (i : Nat) : Option α := match zlk t.2 i with
  | some c => some c
  | none => match znt t.1 (i / 8) with
    | some r => znt r (i % 8)
    | none => none
noncomputable def zu {α : Type} (t : zT α) (i : Nat) (c : α) : zT α := (t.1, (i, c) :: zrm t.2 i)
noncomputable def zgt (h : zH) (i : Nat) : Option zC := zg h.2 i
noncomputable def zsc (h : zH) (i : Nat) (c : zC) : zH := (h.1, zu h.2 i c)
noncomputable def zph (h : zH) (c : zC) (n : Nat) : zH := ((h.1.1 + 1, h.1.2 + n), h.2.1, (h.1.1, c) :: h.2.2)
noncomputable def zpn (h : zH) (c : zC) (n : Nat) (k : Nat) : zH := Nat.rec (motive := fun _ => zH) h (fun _ ih => zph ih c n) k
/-- what the place j of an array holds -/
noncomputable def zag (d : zA) (ov : List (Nat × zA)) (j : Nat) : zA := match zlk ov j with
  | some a => a
  | none => d
/-- the n uppermost of a stack, the lowest first, and the rest -/
noncomputable def ztk (n : Nat) : List zA → List zA → List zA × List zA := Nat.rec (motive := fun _ => List zA → List zA → List zA × List zA) (fun st acc => (acc, st)) (fun _ ih st acc => match st with
  | a :: r => ih r (a :: acc)
  | [] => ([], [])) n
noncomputable def zz : Int × Int := (-2147483648, 2147483647)
noncomputable def zle : Int → Int → Bool
  | .ofNat a, .ofNat b => Nat.ble a b
  | .ofNat _, .negSucc _ => false
  | .negSucc _, .ofNat _ => true
  | .negSucc a, .negSucc b => Nat.ble b a
noncomputable def zeq : Int → Int → Bool
  | .ofNat a, .ofNat b => Nat.beq a b
  | .negSucc a, .negSucc b => Nat.beq a b
  | _, _ => false
noncomputable def zlt (a b : Int) : Bool := !(zle b a)
/-- the interval of a value -/
noncomputable def ziv (E : zE) : zA → Option (Int × Int)
  | .inl p => some p
  | .inr (.inl k) => znt E k
  | _ => none
/-- the number of a value, if it is one -/
noncomputable def zcn (E : zE) (a : zA) : Option Int := match ziv E a with
  | some (l, u) => bif zeq l u then some l else none
  | none => none
/-- asks to part the interval of some variable that is small -/
noncomputable def zfb (E : zE) : Nat → Nat × Int
  | 0 => (900, 0)
  | n + 1 => match znt E (4 - n) with
    | some (l, u) => bif zlt l u && zle u (l + 32) then (4 - n, (l + u + 1) / 2) else zfb E n
    | none => zfb E n
/-- asks to part a variable's interval at c, or in the middle -/
noncomputable def zpt (E : zE) (a : zA) (c : Option Int) : Nat × Int := match a with
  | .inr (.inl k) => match znt E k with
    | some (l, u) => match c with
      | some c => bif zlt l c && zle c u then (k, c) else (k, (l + u + 1) / 2)
      | none => (k, (l + u + 1) / 2)
    | none => (900, 0)
  | _ => zfb E 4
noncomputable def znm (p : Int × Int) : Int × Int := bif zle (-2147483648) p.1 && zle p.2 2147483647 then p else zz
noncomputable def zad (E : zE) (a b : zA) (neg : Bool) : zA ⊕ (Nat × Int) :=
  match ziv E a, ziv E b with
  | some p, some q => .inl (.inl (znm (bif neg then (p.1 - q.2, p.2 - q.1) else (p.1 + q.1, p.2 + q.2))))
  | _, _ => .inr (902, 0)
/-- a number out of two numbers, by a function of the machine's ints -/
noncomputable def zo2 (E : zE) (f : Int32 → Int32 → Int32) (a b : zA) : zA ⊕ (Nat × Int) :=
  match ziv E a, ziv E b with
  | some p, some q => bif zeq p.1 p.2 && zeq q.1 q.2 then .inl (zk (f (Int32.ofInt p.1) (Int32.ofInt q.1)).toInt) else .inl (.inl zz)
  | _, _ => .inr (903, 0)
noncomputable def zan (E : zE) (a b : zA) : zA ⊕ (Nat × Int) := match a, zcn E b with
  | .inr (.inl 0), some c => bif zeq c 31 then .inl (.inr (.inl 5)) else zo2 E (· &&& ·) a b
  | _, _ => zo2 E (· &&& ·) a b
noncomputable def zdv (E : zE) (f : Int32 → Int32 → Int32) (a b : zA) : zA ⊕ (Nat × Int) := match ziv E b with
  | some q => bif zlt 0 q.1 || zlt q.2 0 then zo2 E f a b else .inr (zpt E b (some 1))
  | none => .inr (904, 0)
/-- a comparison: known, or not -/
noncomputable def zlts (p q : Int × Int) : Option Bool := bif zlt p.2 q.1 then some true else bif zle q.2 p.1 then some false else none
noncomputable def zles (p q : Int × Int) : Option Bool := bif zle p.2 q.1 then some true else bif zlt q.2 p.1 then some false else none
noncomputable def zeqs (p q : Int × Int) : Option Bool := bif zlt p.2 q.1 || zlt q.2 p.1 then some false else bif zeq p.1 p.2 && (zeq q.1 q.2 && zeq p.1 q.1) then some true else none
noncomputable def zcr (k : Jvm.ClassFile.Cond) (p q : Int × Int) : Option Bool := match k with
  | .eq => zeqs p q
  | .ne => (zeqs p q).map (!·)
  | .lt => zlts p q
  | .ge => zles q p
  | .gt => zlts q p
  | .le => zles p q
/-- where to part, when a comparison isn't known -/
noncomputable def zcs (E : zE) (k : Jvm.ClassFile.Cond) (a b : zA) (p q : Int × Int) : Nat × Int :=
  match a, b with
  | .inr (.inl _), .inr (.inl _) => bif zeq q.1 q.2 then zpt E a (some (match k with | .lt | .ge => q.1 | .le | .gt => q.1 + 1 | _ => bif zlt p.1 q.1 then q.1 else q.1 + 1)) else
    bif zeq p.1 p.2 then zpt E b (some (match k with | .gt | .le => p.1 | .ge | .lt => p.1 + 1 | _ => bif zlt q.1 p.1 then p.1 else p.1 + 1)) else zpt E b none
  | .inr (.inl _), _ => bif zeq q.1 q.2 then zpt E a (some (match k with | .lt | .ge => q.1 | .le | .gt => q.1 + 1 | _ => bif zlt p.1 q.1 then q.1 else q.1 + 1)) else zfb E 4
  | _, .inr (.inl _) => bif zeq p.1 p.2 then zpt E b (some (match k with | .gt | .le => p.1 | .ge | .lt => p.1 + 1 | _ => bif zlt q.1 p.1 then p.1 else p.1 + 1)) else zfb E 4
  | _, _ => zfb E 4
noncomputable def zcm (E : zE) (k : Jvm.ClassFile.Cond) (a b : zA) : Bool ⊕ (Nat × Int) := match ziv E a, ziv E b with
  | some p, some q => match zcr k p q with
    | some r => .inl r
    | none => .inr (zcs E k a b p q)
  | _, _ => .inr (906, 0)
/-- a place of an array of n -/
noncomputable def zix (E : zE) (a : zA) (n : Nat) : Nat ⊕ (Nat × Int) := match zcn E a with
  | some (.ofNat i) => bif Nat.blt i n then .inl i else .inr (907, 0)
  | some (.negSucc _) => .inr (908, 0)
  | none => .inr (zpt E a none)
noncomputable def zca : zA → Nat
  | .inr (.inr (.inl _)) => 2
  | _ => 1
noncomputable def zrl (l : zL) (i : Nat) : zL := List.rec (motive := fun _ => zL) [] (fun q _ ih => bif Nat.beq q.1 i then ih else bif Nat.beq (q.1 + 1) i && Nat.beq (zca q.2) 2 then ih else q :: ih) l
noncomputable def zst (al : zL) (i : Nat) (a : zA) : zL := (i, a) :: zrl al i
noncomputable def zst2 (al : zL) (i : Nat) (a : zA) : zL := (i, a) :: zrl (zrm al (i + 1)) i
noncomputable def zint : zA → Bool
  | .inl _ => true
  | .inr (.inl _) => true
  | _ => false
noncomputable def ztb : Nat → List Int
  | 0 => [-1, 0, 0, 2, 0, 4, 0, 4]
  | _ => [1, 10, 100, 1000, 10000, 100000, 1000000, 10000000]
noncomputable def zak (t : ArrayType) : Option Nat := match t with
  | .int => some 0
  | .byte => some 1
  | .char => some 2
  | .boolean => some 3
  | .long => some 4
  | _ => none
/-- the value that a fresh field has -/
noncomputable def zdf : FieldType → zA
  | .long => zlg (some 0)
  | .object _ => znl
  | .array _ => znl
  | _ => zk 0
noncomputable def zty : Nat → Nat → FieldType
  | 0 => tyX0 | 1 => tyX1 | 2 => tyX2 | 3 => tyX3 | 4 => tyX4 | 5 => tyX5 | 6 => tyX6 | 7 => tyX7 | 8 => tyX8 | 9 => tyX9 | _ => tyX10
noncomputable def zN : Nat → Nat
  | 0 => 7 | 1 => 5 | 2 => 8 | 3 => 4 | 4 => 2 | 5 => 11 | 6 => 6 | 7 => 3 | 8 => 7 | 9 => 7 | _ => 51
noncomputable def zfs : Nat → List (List zA)
  | 0 => [[znl, znl, znl, znl, zk 0, zk 0, zk 0]]
  | 1 => [[znl, znl, znl, zk 0, zk 0]]
  | 2 => [[znl, znl, znl, znl, znl, znl, znl, zk 0]]
  | 3 => [[znl, znl, znl, zk 0]]
  | 4 => [[znl, zk 0]]
  | 5 => [[znl, znl, znl, znl, znl, znl, znl, znl], [znl, znl, zk 0]]
  | 6 => [[znl, znl, znl, znl, znl, zk 0]]
  | 7 => [[znl, znl, zk 0]]
  | 8 => [[znl, znl, znl, znl, zk 0, zk 0, zk 0]]
  | 9 => [[znl, znl, znl, znl, znl, znl, zlg (some 0)]]
  | _ => [[zlg (some 0), zk 0, znl, zk 0, zk 0, znl, znl, znl], [znl, znl, zk 0, zk 0, zk 0, zk 0, zk 0, znl], [znl, znl, znl, znl, znl, znl, znl, znl], [znl, znl, znl, znl, zlg (some 0), zk 0, zk 0, znl], [znl, znl, znl, znl, znl, znl, znl, znl], [znl, znl, znl, znl, znl, znl, znl, znl], [znl, znl, znl]]
noncomputable def zl2 (f : Int64 → Int64 → Int64) (a b : Option Int) : Option Int := match a, b with
  | some a, some b => some (f (Int64.ofInt a) (Int64.ofInt b)).toInt
  | _, _ => none
noncomputable def zpu (al : zL) (st : List zA) (h : zH) (r : zA ⊕ (Nat × Int)) : zS := match r with
  | .inl v => zgo al (v :: st) h
  | .inr q => zno q
noncomputable def zgj (pc : Nat) (off : Int) (r1 : Nat) (r2 : Int) (st : List zA) : zS := match (pc : Int) + off with
  | .ofNat t => zjp t (Nat.beq r1 0) r2.toNat st
  | .negSucc _ => zno (909, 0)
noncomputable def zbr (pc : Nat) (off : Int) (r1 : Nat) (r2 : Int) (al : zL) (st : List zA) (h : zH) (r : Bool ⊕ (Nat × Int)) : zS := match r with
  | .inl true => zgj pc off r1 r2 st
  | .inl false => zgo al st h
  | .inr q => zno q
noncomputable def zqA : zA → zA → Bool
  | .inl p, .inl q => zeq p.1 q.1 && zeq p.2 q.2
  | .inr (.inl a), .inr (.inl b) => Nat.beq a b
  | .inr (.inr (.inl none)), .inr (.inr (.inl none)) => true
  | .inr (.inr (.inl (some a))), .inr (.inr (.inl (some b))) => zeq a b
  | .inr (.inr (.inr (.inl none))), .inr (.inr (.inr (.inl none))) => true
  | .inr (.inr (.inr (.inl (some a)))), .inr (.inr (.inr (.inl (some b)))) => Nat.beq a b
  | .inr (.inr (.inr (.inr a))), .inr (.inr (.inr (.inr b))) => Nat.beq a b
  | _, _ => false
/-- no place from l on, m of them, holds anything but a, as far as these say -/
noncomputable def zun (a : zA) (l m : Nat) (ov : List (Nat × zA)) : Bool := List.rec (motive := fun _ => Bool) true (fun q _ ih => (Nat.blt q.1 l || Nat.ble (l + m) q.1 || zqA a q.2) && ih) ov
/-- m places from l on hold a -/
noncomputable def zal (a d : zA) (ov : List (Nat × zA)) (l m : Nat) : Bool := Nat.rec (motive := fun _ => Bool) true (fun k ih => zqA a (zag d ov (l + k)) && ih) m
/-- an interval of places of an array of n: the first and how many; only where it is more than one -/
noncomputable def zir (E : zE) (a : zA) (n : Nat) : Option (Nat × Nat) := match ziv E a with
  | some (.ofNat l, .ofNat u) => bif Nat.blt l u && Nat.blt u n then some (l, u + 1 - l) else none
  | _ => none
noncomputable def zld (E : zE) (h : zH) (ks : Nat → Bool) (i : zA) (r : Nat) : zA ⊕ (Nat × Int) := match zgt h r with
  | some (.inr (k, n, d, ov)) => bif ks k then (match zix E i n with
    | .inl j => .inl (zag d ov j)
    | .inr q => match zir E i n with
      | some (l, m) => bif zun d l m ov then .inl d else bif zal (zag d ov l) d ov l m then .inl (zag d ov l) else .inr q
      | none => .inr q) else .inr (911, 0)
  | _ => .inr (912, 0)
noncomputable def zsv (E : zE) (al : zL) (st : List zA) (h : zH) (ks : Nat → Bool) (cv : Nat → zA → zA) (v i : zA) (r : Nat) : zS := match zgt h r with
  | some (.inr (k, n, d, ov)) => bif ks k then (match zix E i n with
    | .inl j => zgo al st (zsc h r (.inr (k, n, d, (j, cv k v) :: ov)))
    | .inr q => zno q) else zno (913, 0)
  | _ => zno (914, 0)
noncomputable def zcvb (k : Nat) (v : zA) : zA := match k, v with
  | 3, .inl (l, u) => bif zle 0 l && zle u 1 then .inl (l, u) else .inl zz
  | _, _ => .inl zz
abbrev zF : Type := zE → Bool → zL → List zA → zH → zS
noncomputable def zs_iload (k : Nat) : zF := fun _ _ al st h => match zlk al k with
  | some a => bif zint a then zgo al (a :: st) h else zno (920, 0)
  | none => zno (921, 0)
noncomputable def zs_aload (k : Nat) : zF := fun _ _ al st h => match zlk al k with
  | some (.inr (.inr (.inr (.inl (some i))))) => zgo al (zrf i :: st) h
  | some (.inr (.inr (.inr (.inr i)))) => zgo al (zpx i :: st) h
  | _ => zno (922, 0)
noncomputable def zs_lload (k : Nat) : zF := fun _ _ al st h => match zlk al k with
  | some (.inr (.inr (.inl o))) => zgo al (zlg o :: st) h
  | _ => zno (923, 0)
noncomputable def zs_istore (k : Nat) : zF := fun _ _ al st h => match st with
  | a :: st => bif zint a then zgo (zst al k a) st h else zno (924, 0)
  | _ => zno (924, 0)
noncomputable def zs_astore (k : Nat) : zF := fun _ _ al st h => match st with
  | .inr (.inr (.inr (.inl (some i)))) :: st => zgo (zst al k (zrf i)) st h
  | .inr (.inr (.inr (.inr i))) :: st => zgo (zst al k (zpx i)) st h
  | _ => zno (925, 0)
noncomputable def zs_lstore (k : Nat) : zF := fun _ _ al st h => match st with
  | .inr (.inr (.inl o)) :: st => zgo (zst2 al k (zlg o)) st h
  | _ => zno (926, 0)
noncomputable def zs_push (a : zA) : zF := fun _ _ al st h => zgo al (a :: st) h
/-- a binary operation of ints -/
noncomputable def zs_bin (f : zE → zA → zA → zA ⊕ (Nat × Int)) : zF := fun E _ al st h => match st with
  | b :: a :: st => zpu al st h (f E a b)
  | _ => zno (930, 0)
noncomputable def zsr (E : zE) (a b : zA) : zA ⊕ (Nat × Int) := match zcn E a with
  | some c => bif zeq c 0 && zint b then .inl (zk 0) else zo2 E (fun x y => x >>> (y &&& 31)) a b
  | none => zo2 E (fun x y => x >>> (y &&& 31)) a b
noncomputable def zs_iinc (k : Nat) (n : Int) : zF := fun E _ al st h => match zlk al k with
  | some a => bif zint a then (match zad E a (zk n) false with
    | .inl v => zgo (zst al k v) st h
    | .inr q => zno q) else zno (931, 0)
  | none => zno (931, 0)
noncomputable def zs_l2 (f : Int64 → Int64 → Int64) : zF := fun _ _ al st h => match st with
  | .inr (.inr (.inl b)) :: .inr (.inr (.inl a)) :: st => zgo al (zlg (zl2 f a b) :: st) h
  | _ => zno (932, 0)
noncomputable def zs_lrem : zF := fun _ _ al st h => match st with
  | .inr (.inr (.inl (some b))) :: .inr (.inr (.inl a)) :: st => bif zeq (Int64.ofInt b).toInt 0 then zno (932, 0) else zgo al (zlg (zl2 (fun x y => x - x / y * y) a (some b)) :: st) h
  | _ => zno (932, 0)
noncomputable def zs_lsh : zF := fun _ _ al st h => match st with
  | b :: .inr (.inr (.inl _)) :: st => bif zint b then zgo al (zlg none :: st) h else zno (933, 0)
  | _ => zno (933, 0)
noncomputable def zs_i2l : zF := fun E _ al st h => match st with
  | a :: st => bif zint a then zgo al (zlg (zcn E a) :: st) h else zno (934, 0)
  | _ => zno (934, 0)
noncomputable def zs_l2i : zF := fun _ _ al st h => match st with
  | .inr (.inr (.inl (some c))) :: st => zgo al (zk (Int64.ofInt c).toInt32.toInt :: st) h
  | .inr (.inr (.inl none)) :: st => zgo al (.inl zz :: st) h
  | _ => zno (935, 0)
noncomputable def zs_i2x : zF := fun _ _ al st h => match st with
  | a :: st => bif zint a then zgo al (.inl zz :: st) h else zno (936, 0)
  | _ => zno (936, 0)
noncomputable def zs_lcmp : zF := fun _ _ al st h => match st with
  | .inr (.inr (.inl (some b))) :: .inr (.inr (.inl (some a))) :: st => zgo al (zk (bif zlt b a then 1 else bif zeq a b then 0 else -1) :: st) h
  | _ => zno (937, 0)
noncomputable def zs_dup : zF := fun _ _ al st h => match st with
  | a :: st => bif Nat.beq (zca a) 1 then zgo al (a :: a :: st) h else zno (938, 0)
  | _ => zno (938, 0)
noncomputable def zs_dup2 : zF := fun _ _ al st h => match st with
  | a :: b :: st => bif Nat.beq (zca a) 1 && Nat.beq (zca b) 1 then zgo al (a :: b :: a :: b :: st) h else zno (939, 0)
  | _ => zno (939, 0)
noncomputable def zs_pop : zF := fun _ _ al st h => match st with
  | a :: st => bif Nat.beq (zca a) 1 then zgo al st h else zno (940, 0)
  | _ => zno (940, 0)
noncomputable def zs_goto (pc : Nat) (off : Int) (r1 : Nat) (r2 : Int) : zF := fun _ _ _ st _ => zgj pc off r1 r2 st
noncomputable def zs_icmp (k : Jvm.ClassFile.Cond) (pc : Nat) (off : Int) (r1 : Nat) (r2 : Int) : zF := fun E _ al st h => match st with
  | b :: a :: st => zbr pc off r1 r2 al st h (zcm E k a b)
  | _ => zno (941, 0)
noncomputable def zs_if (k : Jvm.ClassFile.Cond) (pc : Nat) (off : Int) (r1 : Nat) (r2 : Int) : zF := fun E _ al st h => match st with
  | a :: st => zbr pc off r1 r2 al st h (zcm E k a (zk 0))
  | _ => zno (942, 0)
noncomputable def zs_table (pc : Nat) (df lo hi : Int) (offs : Array Int) : zF := fun E _ _ st _ => match st with
  | a :: st => match ziv E a with
    | some p => bif zlt p.2 lo || zlt hi p.1 then zgj pc df 1 0 st else
      bif zeq p.1 p.2 then (match offs[(p.1 - lo).toNat]? with
        | some off => zgj pc off 1 0 st
        | none => zno (943, 0)) else
      bif zlt p.1 lo then zno (zpt E a (some lo)) else bif zlt hi p.2 then zno (zpt E a (some (hi + 1))) else zno (zpt E a none)
    | none => zno (944, 0)
  | _ => zno (945, 0)
noncomputable def zs_getf (r1 r2 : Nat) : zF := fun _ _ al st h => match st with
  | .inr (.inr (.inr (.inl (some i)))) :: st => match zgt h i with
    | some (.inl (ci, fs)) => bif Nat.beq ci r1 then (match zg fs r2 with
      | some v => zgo al (v :: st) h
      | none => zno (946, 0)) else zno (947, 0)
    | _ => zno (948, 0)
  | _ => zno (949, 0)
/-- does a value fit a field of this type? -/
noncomputable def zfit (E : zE) (t : FieldType) (v : zA) : Bool := match t, v with
  | .int, a => zint a
  | .boolean, .inl p => zle 0 p.1 && zle p.2 1
  | .long, .inr (.inr (.inl _)) => true
  | .object _, .inr (.inr (.inr (.inl (some _)))) => true
  | .array _, .inr (.inr (.inr (.inl (some _)))) => true
  | _, _ => false
noncomputable def zs_putf (r1 r2 : Nat) : zF := fun E _ al st h => match st with
  | v :: .inr (.inr (.inr (.inl (some i)))) :: st => match zgt h i with
    | some (.inl (ci, fs)) => bif Nat.beq ci r1 && (zfit E (zty r1 r2) v && Nat.blt r2 (zN r1)) then zgo al st (zsc h i (.inl (ci, zu fs r2 v))) else zno (950, 0)
    | _ => zno (951, 0)
  | _ => zno (952, 0)
noncomputable def zs_gets (r1 : Nat) : zF := fun _ _ al st h => bif Nat.ble r1 1 then zgo al (zpx (r1 + 1) :: st) h else zno (952, 1)
noncomputable def zs_iald : zF := fun E top al st h => match st with
  | i :: .inr (.inr (.inr (.inl (some r)))) :: st => zpu al st h (zld E h (fun k => Nat.beq k 0) i r)
  | i :: .inr (.inr (.inr (.inr 0))) :: st => bif top then (match zix E i 5 with
    | .inl j => zgo al (.inr (.inl j) :: st) h
    | .inr q => zno q) else zno (953, 0)
  | i :: .inr (.inr (.inr (.inr (k + 1)))) :: st => bif Nat.ble k 1 then (match zix E i 8 with
    | .inl j => zgo al (zk ((ztb k).getD j 0) :: st) h
    | .inr q => zno q) else zno (953, 1)
  | _ => zno (954, 0)
noncomputable def zs_xald (ks : Nat → Bool) : zF := fun E _ al st h => match st with
  | i :: .inr (.inr (.inr (.inl (some r)))) :: st => zpu al st h (zld E h ks i r)
  | _ => zno (955, 0)
noncomputable def zs_iast : zF := fun E _ al st h => match st with
  | v :: i :: .inr (.inr (.inr (.inl (some r)))) :: st => bif zint v then (match zgt h r with
    | some (.inr (k, n, d, ov)) => bif Nat.beq k 0 then (match zix E i n with
      | .inl j => zgo al st (zsc h r (.inr (k, n, d, (j, v) :: ov)))
      | .inr q => match zir E i n with
        | some _ => zgo al st (zsc h r (.inr (k, n, .inl zz, [])))
        | none => zno q) else zno (955, 2)
    | _ => zno (955, 1)) else zno (956, 0)
  | _ => zno (956, 0)
noncomputable def zs_xast (ks : Nat → Bool) (cv : Nat → zA → zA) : zF := fun E _ al st h => match st with
  | v :: i :: .inr (.inr (.inr (.inl (some r)))) :: st => bif zint v then zsv E al st h ks cv v i r else zno (956, 0)
  | _ => zno (956, 0)
noncomputable def zs_aast : zF := fun E _ al st h => match st with
  | .inr (.inr (.inr (.inl (some w)))) :: i :: .inr (.inr (.inr (.inl (some r)))) :: st => match zgt h w with
    | some (.inl (ci, _)) => zsv E al st h (fun k => (Nat.beq k 5 && Nat.beq ci 5) || (Nat.beq k 6 && Nat.beq ci 1)) (fun _ v => v) (zrf w) i r
    | _ => zno (957, 0)
  | _ => zno (958, 0)
noncomputable def zs_alen : zF := fun _ top al st h => match st with
  | .inr (.inr (.inr (.inl (some r)))) :: st => match zgt h r with
    | some (.inr (_, n, _)) => bif Nat.ble n 1000000 then zgo al (zk n :: st) h else zno (959, 0)
    | _ => zno (959, 0)
  | .inr (.inr (.inr (.inr 0))) :: st => bif top then zgo al (zk 5 :: st) h else zno (960, 0)
  | _ => zno (961, 0)
noncomputable def zs_new (r1 : Nat) : zF := fun _ _ al st h => bif Nat.ble r1 10 then zgo al (zrf h.1.1 :: st) (zph h (.inl (r1, zfs r1, [])) (zN r1)) else zno (961, 1)
noncomputable def zs_newa (t : ArrayType) : zF := fun E _ al st h => match st with
  | a :: st => match zcn E a, zak t with
    | some (.ofNat n), some k => bif Nat.ble n 1000000 then zgo al (zrf h.1.1 :: st) (zph h (.inr (k, n, (bif Nat.beq k 4 then zlg (some 0) else zk 0), [])) n) else zno (962, 0)
    | _, _ => zno (963, 0)
  | _ => zno (964, 0)
noncomputable def zs_newq (r1 : Nat) : zF := fun E _ al st h => match st with
  | a :: st => match zcn E a with
    | some (.ofNat n) => bif Nat.ble n 1000000 && (Nat.beq r1 5 || Nat.beq r1 6) then zgo al (zrf h.1.1 :: st) (zph h (.inr (r1, n, znl, [])) n) else zno (965, 0)
    | _ => zno (966, 0)
  | _ => zno (967, 0)
noncomputable def zs_mna : zF := fun E _ al st h => match st with
  | b :: a :: st => match zcn E a, zcn E b with
    | some (.ofNat n), some (.ofNat k) => bif Nat.ble n 1000 && Nat.ble k 1000 then zgo al (zrf h.1.1 :: st) (zpn (zph h (.inr (7, n, znl, (List.range n).map fun i => (i, zrf (h.1.1 + 1 + i)))) n) (.inr (0, k, zk 0, [])) k n) else zno (968, 0)
    | _, _ => zno (969, 0)
  | _ => zno (970, 0)
noncomputable def zs_inv (r1 r2 : Nat) : zF := fun _ _ _ st _ => match ztk r2 st [] with
  | (as, .inr (.inr (.inr (.inl (some o)))) :: st') => zcl r1 (zrf o :: as) st'
  | _ => zno (971, 0)
noncomputable def zs_ins (r1 r2 : Nat) : zF := fun _ _ _ st _ => match ztk r2 st [] with
  | (as, st') => bif Nat.beq as.length r2 then zcl r1 as st' else zno (971, 1)
noncomputable def zc3 (E : zE) (n dp sp : zA) (n1 : Nat) : Bool := match zcn E n, zcn E dp, zcn E sp with
  | some b, some c, some d => zeq b n1 && (zeq c 0 && zeq d 0)
  | _, _, _ => false
noncomputable def zs_copy : zF := fun E _ al st h => match st with
  | [n, dp, .inr (.inr (.inr (.inl (some r)))), sp, .inr (.inr (.inr (.inl (some q))))] => match zgt h q, zgt h r with
    | some (.inr (k, n1, d, ov)), some (.inr (k2, n2, _, _)) => bif zc3 E n dp sp n1 && ((Nat.beq k 0 && Nat.beq k2 0) && (Nat.beq n1 n2 && Nat.ble n1 1000000)) then zgo al [] (zsc h r (.inr (0, n1, d, ov))) else zno (972, 0)
    | _, _ => zno (973, 0)
  | _ => zno (974, 0)
noncomputable def zs_obj : zF := fun _ _ al st h => match st with
  | [.inr (.inr (.inr (.inl (some _))))] => zgo al [] h
  | _ => zno (975, 0)
noncomputable def zs_iret : zF := fun _ _ _ st _ => match st with
  | [a] => bif zint a then zrt (some a) else zno (977, 0)
  | _ => zno (977, 0)
noncomputable def zs_lret : zF := fun _ _ _ st _ => match st with
  | [.inr (.inr (.inl o))] => zrt (some (zlg o))
  | _ => zno (978, 0)
noncomputable def zs_vret : zF := fun _ _ _ st _ => match st with
  | [] => zrt none
  | _ => zno (979, 0)
noncomputable def zs_no : zF := fun _ _ _ _ _ => zno (980, 0)
/-- the greater, the lesser of two ints -/
noncomputable def zmx (E : zE) (a b : zA) : zA ⊕ (Nat × Int) := match ziv E a, ziv E b with
  | some p, some q => .inl (.inl (bif zle p.1 q.1 then q.1 else p.1, bif zle p.2 q.2 then q.2 else p.2))
  | _, _ => .inr (902, 1)
noncomputable def zmn (E : zE) (a b : zA) : zA ⊕ (Nat × Int) := match ziv E a, ziv E b with
  | some p, some q => .inl (.inl (bif zle p.1 q.1 then p.1 else q.1, bif zle p.2 q.2 then p.2 else q.2))
  | _, _ => .inr (902, 1)
noncomputable def zs_mm (f : zE → zA → zA → zA ⊕ (Nat × Int)) : zF := fun E _ al st h => match st with
  | b :: a :: st => bif Nat.ble ((st.map zca).sum) 8 then zpu al st h (f E a b) else zno (930, 1)
  | _ => zno (930, 0)
noncomputable def zsel (pc : Nat) (r1 : Nat) (r2 : Int) (ins : Instr) : zF := match ins with
  | .iload_n k => zs_iload k
  | .iload k => zs_iload k
  | .aload_n k => zs_aload k
  | .aload k => zs_aload k
  | .lload_n k => zs_lload k
  | .istore_n k => zs_istore k
  | .istore k => zs_istore k
  | .astore_n k => zs_astore k
  | .astore k => zs_astore k
  | .lstore_n k => zs_lstore k
  | .iconst n => zs_push (zk n)
  | .bipush n => zs_push (zk n)
  | .sipush n => zs_push (zk n)
  | .lconst n => zs_push (zlg (some (n : Nat)))
  | .ldc_w _ => zs_push (zk r2)
  | .ldc2_w _ => zs_push (zlg (some r2))
  | .iadd => zs_bin (fun E a b => zad E a b false)
  | .isub => zs_bin (fun E a b => zad E a b true)
  | .imul => zs_bin (fun E => zo2 E (· * ·))
  | .idiv => zs_bin (fun E => zdv E (· / ·))
  | .irem => zs_bin (fun E => zdv E (fun x y => x - x / y * y))
  | .iand => zs_bin zan
  | .ior => zs_bin (fun E => zo2 E (· ||| ·))
  | .ixor => zs_bin (fun E => zo2 E (· ^^^ ·))
  | .ishl => zs_bin (fun E => zo2 E (fun x y => x <<< (y &&& 31)))
  | .ishr => zs_bin zsr
  | .iushr => zs_bin (fun E => zo2 E (fun x y => (x.toUInt32 >>> (y.toUInt32 &&& Int32.toUInt32 31)).toInt32))
  | .iinc k n => zs_iinc k n
  | .ladd => zs_l2 (· + ·)
  | .lmul => zs_l2 (· * ·)
  | .lrem => zs_lrem
  | .land => zs_l2 (· &&& ·)
  | .lor => zs_l2 (· ||| ·)
  | .lshl => zs_lsh
  | .lshr => zs_lsh
  | .lushr => zs_lsh
  | .i2l => zs_i2l
  | .l2i => zs_l2i
  | .i2b => zs_i2x
  | .i2c => zs_i2x
  | .lcmp => zs_lcmp
  | .dup => zs_dup
  | .dup2 => zs_dup2
  | .pop => zs_pop
  | .goto off => zs_goto pc off r1 r2
  | .if_icmp k off => zs_icmp k pc off r1 r2
  | .ifCond k off => zs_if k pc off r1 r2
  | .tableswitch df lo hi offs => zs_table pc df lo hi offs
  | .getfield _ => zs_getf r1 r2.toNat
  | .putfield _ => zs_putf r1 r2.toNat
  | .getstatic _ => zs_gets r1
  | .iaload => zs_iald
  | .baload => zs_xald (fun k => Nat.beq k 1 || Nat.beq k 3)
  | .caload => zs_xald (fun k => Nat.beq k 2)
  | .aaload => zs_xald (fun k => Nat.ble 5 k && Nat.ble k 7)
  | .iastore => zs_iast
  | .bastore => zs_xast (fun k => Nat.beq k 1 || Nat.beq k 3) zcvb
  | .castore => zs_xast (fun k => Nat.beq k 2) (fun _ _ => .inl zz)
  | .aastore => zs_aast
  | .arraylength => zs_alen
  | .new _ => zs_new r1
  | .newarray t => zs_newa t
  | .anewarray _ => zs_newq r1
  | .multianewarray _ _ => zs_mna
  | .invokevirtual _ => zs_inv r1 r2.toNat
  | .invokestatic _ => bif Nat.beq r1 1001 then zs_copy else bif Nat.beq r1 1002 then zs_mm zmx else bif Nat.beq r1 1003 then zs_mm zmn else zs_ins r1 r2.toNat
  | .invokespecial _ => bif Nat.beq r1 1000 then zs_obj else zs_inv r1 r2.toNat
  | .ireturn => zs_iret
  | .lreturn => zs_lret
  | .return_ => zs_vret
  | _ => zs_no
abbrev zO : Type := (Option zA × zH) ⊕ (Nat × Int)
/-- the code from the place t on: k behind what comes next, or sought from the start -/
noncomputable def zsk (t : Nat) (b : Bool) (k : Nat) (cd tl : List zI) : List zI := bif b then tl.drop k else bif Nat.beq k 0 then cd.dropWhile (fun q => !(Nat.beq q.1 t)) else cd.drop k
/-- the cells that there were are there still -/
noncomputable def zmo (h h' : zH) : Bool := Nat.ble h.1.1 h'.1.1 && Nat.ble h.1.2 h'.1.2
noncomputable def zisj : Instr → Bool
  | .goto _ => true
  | .if_icmp _ _ => true
  | .ifCond _ _ => true
  | .tableswitch _ _ _ _ => true
  | _ => false
noncomputable def zisc : Instr → Bool
  | .invokevirtual _ => true
  | .invokestatic _ => true
  | .invokespecial _ => true
  | _ => false
noncomputable def zisr : Instr → Bool
  | .ireturn => true
  | .lreturn => true
  | .return_ => true
  | _ => false
noncomputable def zr3 (ih : List zI → Nat → zL → List zA → zH → zO) (tl : List zI) (pc : Nat) (al : zL) (st : List zA) (h : zH) (o : zO) : zO := match o with
  | .inl r => bif zmo h r.2 then (match r.1 with
    | some v => ih tl pc al (v :: st) r.2
    | none => ih tl pc al st r.2) else .inr (989, 0)
  | .inr q => .inr q
noncomputable def zr2 (cd : List zI) (call : Nat → List zA → zH → zO) (ih : List zI → Nat → zL → List zA → zH → zO) (x : zI) (tl : List zI) (al : zL) (h : zH) (s : zS) : zO := match s with
  | .inl r => bif zmo h r.2.2 then ih tl (x.1 + x.2.2.1) r.1 r.2.1 r.2.2 else .inr (988, 0)
  | .inr (.inl r) => bif zisj x.2.1 then ih (zsk r.1 r.2.1 r.2.2.1 cd tl) r.1 al r.2.2.2 h else .inr (987, 0)
  | .inr (.inr (.inl r)) => bif zisc x.2.1 && Nat.ble ((r.2.2.map zca).sum) 8 then zr3 ih tl (x.1 + x.2.2.1) al r.2.2 h (call r.1 r.2.1 h) else .inr (994, 0)
  | .inr (.inr (.inr (.inl r))) => bif zisr x.2.1 then .inl (r, h) else .inr (986, 0)
  | .inr (.inr (.inr (.inr q))) => .inr q
noncomputable def zr1 (E : zE) (top : Bool) (cd : List zI) (call : Nat → List zA → zH → zO) (ih : List zI → Nat → zL → List zA → zH → zO) (rest : List zI) (pc : Nat) (al : zL) (st : List zA) (h : zH) : zO := match rest with
  | [] => .inr (991, 0)
  | x :: tl => bif Nat.beq x.1 pc then zr2 cd call ih x tl al h (zsel x.1 x.2.2.2.1 x.2.2.2.2 x.2.1 E top al st h) else .inr (993, 0)
noncomputable def zrun (E : zE) (top : Bool) (cd : List zI) (call : Nat → List zA → zH → zO) (n : Nat) : List zI → Nat → zL → List zA → zH → zO :=
  Nat.rec (motive := fun _ => List zI → Nat → zL → List zA → zH → zO) (fun _ _ _ _ _ => .inr (990, 0)) (fun _ ih => zr1 E top cd call ih) n
noncomputable def zent : Nat → List zA → zL
  | _, [] => []
  | i, a :: as => (i, a) :: zent (i + zca a) as
