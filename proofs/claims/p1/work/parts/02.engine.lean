/-! THE ENGINE: a run of bytecode over abstract values. A value: an int of an interval; a variable (its interval stands in the box); a long (known, or any); a reference to a cell by its place in the list of cells, or null; a reference to a thing outside (0: the script; k + 1: a static table). -/
abbrev zA : Type := (Int × Int) ⊕ Nat ⊕ (Option Int) ⊕ (Option Nat) ⊕ Nat
/-- a cell: an object (class, fields) or an array (kind, contents). Kinds: 0 int, 1 byte, 2 char, 3 boolean, 4 long, 5 Person[], 6 Books[], 7 int[][] -/
abbrev zC : Type := (Nat × List zA) ⊕ (Nat × List zA)
/-- an instruction: its place, itself, its length, two numbers that tell what it links -/
abbrev zI : Type := Nat × Instr × Nat × Nat × Int
abbrev zE : Type := List (Int × Int)
abbrev zL : Type := List (Nat × zA)
/-- what an instruction does: goes on; jumps; calls; returns; can't go on (a variable, where to part its interval) -/
abbrev zS : Type := (zL × List zA × List zC) ⊕ (Nat × List zA) ⊕ (Nat × List zA × List zA) ⊕ (Option zA) ⊕ (Nat × Int)
abbrev zk (c : Int) : zA := .inl (c, c)
abbrev zgo (al : zL) (st : List zA) (h : List zC) : zS := .inl (al, st, h)
abbrev zjp (t : Nat) (st : List zA) : zS := .inr (.inl (t, st))
abbrev zcl (j : Nat) (as st : List zA) : zS := .inr (.inr (.inl (j, as, st)))
abbrev zrt (r : Option zA) : zS := .inr (.inr (.inr (.inl r)))
abbrev zno (q : Nat × Int) : zS := .inr (.inr (.inr (.inr q)))
def zz : Int × Int := (-2147483648, 2147483647)
def zle : Int → Int → Bool
  | .ofNat a, .ofNat b => Nat.ble a b
  | .ofNat _, .negSucc _ => false
  | .negSucc _, .ofNat _ => true
  | .negSucc a, .negSucc b => Nat.ble b a
def zeq : Int → Int → Bool
  | .ofNat a, .ofNat b => Nat.beq a b
  | .negSucc a, .negSucc b => Nat.beq a b
  | _, _ => false
def zlt (a b : Int) : Bool := !(zle b a)
/-- the interval of a value -/
def ziv (E : zE) : zA → Option (Int × Int)
  | .inl p => some p
  | .inr (.inl k) => E[k]?
  | _ => none
/-- the number of a value, if it is one -/
def zcn (E : zE) (a : zA) : Option Int := match ziv E a with
  | some (l, u) => bif zeq l u then some l else none
  | none => none
/-- asks to part a variable's interval at c, or in the middle -/
def zpt (E : zE) (a : zA) (c : Option Int) : Nat × Int := match a with
  | .inr (.inl k) => match E[k]? with
    | some (l, u) => match c with
      | some c => bif zlt l c && zle c u then (k, c) else (k, (l + u + 1) / 2)
      | none => (k, (l + u + 1) / 2)
    | none => (900, 0)
  | _ => (901, 0)
/-- a variable of a small interval -/
def zsm (E : zE) : zA → Bool
  | .inr (.inl k) => match E[k]? with
    | some (l, u) => zlt l u && zle u (l + 10)
    | none => false
  | _ => false
def znm (p : Int × Int) : Int × Int := bif zle (-2147483648) p.1 && zle p.2 2147483647 then p else zz
def zad (E : zE) (a b : zA) (neg : Bool) : zA ⊕ (Nat × Int) :=
  bif zsm E a then .inr (zpt E a none) else bif zsm E b then .inr (zpt E b none) else
  match ziv E a, ziv E b with
  | some p, some q => .inl (.inl (znm (bif neg then (p.1 - q.2, p.2 - q.1) else (p.1 + q.1, p.2 + q.2))))
  | _, _ => .inr (902, 0)
/-- a number out of two numbers, by a function of the machine's ints -/
def zo2 (E : zE) (f : Int32 → Int32 → Int32) (a b : zA) : zA ⊕ (Nat × Int) :=
  match ziv E a, ziv E b with
  | some p, some q => bif zeq p.1 p.2 && zeq q.1 q.2 then .inl (zk (f (Int32.ofInt p.1) (Int32.ofInt q.1)).toInt) else .inl (.inl zz)
  | _, _ => .inr (903, 0)
def zsh (E : zE) (f : Int32 → Int32 → Int32) (a b : zA) : zA ⊕ (Nat × Int) := bif zsm E b then .inr (zpt E b none) else zo2 E f a b
def zan (E : zE) (a b : zA) : zA ⊕ (Nat × Int) := match a, zcn E b with
  | .inr (.inl 0), some c => bif zeq c 31 then .inl (.inr (.inl 5)) else zo2 E (· &&& ·) a b
  | _, _ => zo2 E (· &&& ·) a b
def zdv (E : zE) (f : Int32 → Int32 → Int32) (a b : zA) : zA ⊕ (Nat × Int) := match ziv E b with
  | some q => bif zlt 0 q.1 || zlt q.2 0 then zo2 E f a b else .inr (zpt E b (some 1))
  | none => .inr (904, 0)
/-- a comparison: known, or not -/
def zlts (p q : Int × Int) : Option Bool := bif zlt p.2 q.1 then some true else bif zle q.2 p.1 then some false else none
def zles (p q : Int × Int) : Option Bool := bif zle p.2 q.1 then some true else bif zlt q.2 p.1 then some false else none
def zeqs (p q : Int × Int) : Option Bool := bif zlt p.2 q.1 || zlt q.2 p.1 then some false else bif zeq p.1 p.2 && (zeq q.1 q.2 && zeq p.1 q.1) then some true else none
def zcr (k : Jvm.ClassFile.Cond) (p q : Int × Int) : Option Bool := match k with
  | .eq => zeqs p q
  | .ne => (zeqs p q).map (!·)
  | .lt => zlts p q
  | .ge => zles q p
  | .gt => zlts q p
  | .le => zles p q
/-- where to part, when a comparison isn't known -/
def zcs (E : zE) (k : Jvm.ClassFile.Cond) (a b : zA) (p q : Int × Int) : Nat × Int :=
  match a, b with
  | .inr (.inl _), _ => bif zeq q.1 q.2 then zpt E a (some (match k with | .lt | .ge => q.1 | .le | .gt => q.1 + 1 | _ => bif zlt p.1 q.1 then q.1 else q.1 + 1)) else
    match b with
    | .inr (.inl _) => bif zeq p.1 p.2 then zpt E b (some (match k with | .gt | .le => p.1 | .ge | .lt => p.1 + 1 | _ => bif zlt q.1 p.1 then p.1 else p.1 + 1)) else zpt E b none
    | _ => zpt E a none
  | _, .inr (.inl _) => bif zeq p.1 p.2 then zpt E b (some (match k with | .gt | .le => p.1 | .ge | .lt => p.1 + 1 | _ => bif zlt q.1 p.1 then p.1 else p.1 + 1)) else zpt E b none
  | _, _ => (905, 0)
def zcm (E : zE) (k : Jvm.ClassFile.Cond) (a b : zA) : Bool ⊕ (Nat × Int) := match ziv E a, ziv E b with
  | some p, some q => match zcr k p q with
    | some r => .inl r
    | none => .inr (zcs E k a b p q)
  | _, _ => .inr (906, 0)
/-- a place of an array of n -/
def zix (E : zE) (a : zA) (n : Nat) : Nat ⊕ (Nat × Int) := match zcn E a with
  | some (.ofNat i) => bif Nat.blt i n then .inl i else .inr (907, 0)
  | some (.negSucc _) => .inr (908, 0)
  | none => .inr (zpt E a none)
def zlk (al : zL) (i : Nat) : Option zA := match al with
  | [] => none
  | (k, a) :: r => bif Nat.beq k i then some a else zlk r i
def zca : zA → Nat
  | .inr (.inr (.inl _)) => 2
  | _ => 1
def zst (al : zL) (i : Nat) (a : zA) : zL := (i, a) :: al.filter (fun q => !(q.1 == i) && !(q.1 + 1 == i && zca q.2 == 2))
def zst2 (al : zL) (i : Nat) (a : zA) : zL := (i, a) :: al.filter (fun q => !(q.1 == i) && (!(q.1 == i + 1) && !(q.1 + 1 == i && zca q.2 == 2)))
def zint : zA → Bool
  | .inl _ => true
  | .inr (.inl _) => true
  | _ => false
def zref : zA → Bool
  | .inr (.inr (.inr _)) => true
  | _ => false
def ztb : Nat → List Int
  | 0 => [-1, 0, 0, 2, 0, 4, 0, 4]
  | _ => [1, 10, 100, 1000, 10000, 100000, 1000000, 10000000]
def zak (t : ArrayType) : Option Nat := match t with
  | .int => some 0
  | .byte => some 1
  | .char => some 2
  | .boolean => some 3
  | .long => some 4
  | _ => none
/-- the value that a fresh field or place has -/
def zdf : FieldType → zA
  | .long => .inr (.inr (.inl (some 0)))
  | .object _ => .inr (.inr (.inr (.inl none)))
  | .array _ => .inr (.inr (.inr (.inl none)))
  | _ => zk 0
def zty : Nat → Nat → FieldType
  | 0 => tyX0 | 1 => tyX1 | 2 => tyX2 | 3 => tyX3 | 4 => tyX4 | 5 => tyX5 | 6 => tyX6 | 7 => tyX7 | 8 => tyX8 | 9 => tyX9 | _ => tyX10
def zN : Nat → Nat
  | 0 => 7 | 1 => 5 | 2 => 8 | 3 => 4 | 4 => 2 | 5 => 11 | 6 => 6 | 7 => 3 | 8 => 7 | 9 => 7 | _ => 51
def zfs (ci : Nat) : List zA := (List.range (zN ci)).map fun k => zdf (zty ci k)
def zl2 (f : Int64 → Int64 → Int64) (a b : Option Int) : Option Int := match a, b with
  | some a, some b => some (f (Int64.ofInt a) (Int64.ofInt b)).toInt
  | _, _ => none
abbrev zlg (o : Option Int) : zA := .inr (.inr (.inl o))
abbrev zrf (i : Nat) : zA := .inr (.inr (.inr (.inl (some i))))
abbrev zpx (k : Nat) : zA := .inr (.inr (.inr (.inr k)))
def zpu (al : zL) (st : List zA) (h : List zC) (r : zA ⊕ (Nat × Int)) : zS := match r with
  | .inl v => zgo al (v :: st) h
  | .inr q => zno q
def zbr (pc : Nat) (off : Int) (al : zL) (st : List zA) (h : List zC) (r : Bool ⊕ (Nat × Int)) : zS := match r with
  | .inl true => match (pc : Int) + off with
    | .ofNat t => zjp t st
    | .negSucc _ => zno (909, 0)
  | .inl false => zgo al st h
  | .inr q => zno q
def zld (E : zE) (h : List zC) (ks : Nat → Bool) (i : zA) (r : Nat) : zA ⊕ (Nat × Int) := match h[r]? with
  | some (.inr (k, as)) => bif ks k then (match zix E i as.length with
    | .inl j => match as[j]? with
      | some a => .inl a
      | none => .inr (910, 0)
    | .inr q => .inr q) else .inr (911, 0)
  | _ => .inr (912, 0)
def zsv (E : zE) (al : zL) (st : List zA) (h : List zC) (ks : Nat → Bool) (cv : Nat → zA → zA) (v i : zA) (r : Nat) : zS := match h[r]? with
  | some (.inr (k, as)) => bif ks k then (match zix E i as.length with
    | .inl j => zgo al st (h.set r (.inr (k, as.set j (cv k v))))
    | .inr q => zno q) else zno (913, 0)
  | _ => zno (914, 0)
def zcvb (k : Nat) (v : zA) : zA := match k, v with
  | 3, .inl (l, u) => bif zle 0 l && zle u 1 then v else .inl zz
  | _, _ => .inl zz
def zstep (E : zE) (top : Bool) (pc : Nat) (ins : Instr) (r1 : Nat) (r2 : Int) (al : zL) (st : List zA) (h : List zC) : zS :=
  match ins with
  | .iload_n k => match zlk al k with
    | some a => bif zint a then zgo al (a :: st) h else zno (920, 0)
    | none => zno (921, 0)
  | .iload k => match zlk al k with
    | some a => bif zint a then zgo al (a :: st) h else zno (920, 0)
    | none => zno (921, 0)
  | .aload_n k => match zlk al k with
    | some (.inr (.inr (.inr (.inl (some i))))) => zgo al (zrf i :: st) h
    | some (.inr (.inr (.inr (.inr i)))) => zgo al (zpx i :: st) h
    | _ => zno (922, 0)
  | .aload k => match zlk al k with
    | some (.inr (.inr (.inr (.inl (some i))))) => zgo al (zrf i :: st) h
    | some (.inr (.inr (.inr (.inr i)))) => zgo al (zpx i :: st) h
    | _ => zno (922, 0)
  | .lload_n k => match zlk al k with
    | some (.inr (.inr (.inl o))) => zgo al (zlg o :: st) h
    | _ => zno (923, 0)
  | .istore_n k => match st with
    | a :: st => bif zint a then zgo (zst al k a) st h else zno (924, 0)
    | _ => zno (924, 0)
  | .istore k => match st with
    | a :: st => bif zint a then zgo (zst al k a) st h else zno (924, 0)
    | _ => zno (924, 0)
  | .astore_n k => match st with
    | .inr (.inr (.inr (.inl (some i)))) :: st => zgo (zst al k (zrf i)) st h
    | .inr (.inr (.inr (.inr i))) :: st => zgo (zst al k (zpx i)) st h
    | _ => zno (925, 0)
  | .astore k => match st with
    | .inr (.inr (.inr (.inl (some i)))) :: st => zgo (zst al k (zrf i)) st h
    | .inr (.inr (.inr (.inr i))) :: st => zgo (zst al k (zpx i)) st h
    | _ => zno (925, 0)
  | .lstore_n k => match st with
    | .inr (.inr (.inl o)) :: st => zgo (zst2 al k (zlg o)) st h
    | _ => zno (926, 0)
  | .iconst n => zgo al (zk n :: st) h
  | .bipush n => zgo al (zk n :: st) h
  | .sipush n => zgo al (zk n :: st) h
  | .lconst n => zgo al (zlg (some (n : Nat)) :: st) h
  | .ldc_w _ => zgo al (zk r2 :: st) h
  | .ldc2_w _ => zgo al (zlg (some r2) :: st) h
  | .iadd => match st with
    | b :: a :: st => zpu al st h (zad E a b false)
    | _ => zno (930, 0)
  | .isub => match st with
    | b :: a :: st => zpu al st h (zad E a b true)
    | _ => zno (930, 0)
  | .imul => match st with
    | b :: a :: st => zpu al st h (zo2 E (· * ·) a b)
    | _ => zno (930, 0)
  | .idiv => match st with
    | b :: a :: st => zpu al st h (zdv E (· / ·) a b)
    | _ => zno (930, 0)
  | .irem => match st with
    | b :: a :: st => zpu al st h (zdv E (fun x y => x - x / y * y) a b)
    | _ => zno (930, 0)
  | .iand => match st with
    | b :: a :: st => zpu al st h (zan E a b)
    | _ => zno (930, 0)
  | .ior => match st with
    | b :: a :: st => zpu al st h (zo2 E (· ||| ·) a b)
    | _ => zno (930, 0)
  | .ixor => match st with
    | b :: a :: st => zpu al st h (zo2 E (· ^^^ ·) a b)
    | _ => zno (930, 0)
  | .ishl => match st with
    | b :: a :: st => zpu al st h (zsh E (fun x y => x <<< (y &&& 31)) a b)
    | _ => zno (930, 0)
  | .ishr => match st with
    | b :: a :: st => zpu al st h (zsh E (fun x y => x >>> (y &&& 31)) a b)
    | _ => zno (930, 0)
  | .iushr => match st with
    | b :: a :: st => zpu al st h (zsh E (fun x y => (x.toUInt32 >>> (y.toUInt32 &&& Int32.toUInt32 31)).toInt32) a b)
    | _ => zno (930, 0)
  | .iinc k n => match zlk al k with
    | some a => bif zint a then (match zad E a (zk n) false with
      | .inl v => zgo (zst al k v) st h
      | .inr q => zno q) else zno (931, 0)
    | none => zno (931, 0)
  | .ladd => match st with
    | .inr (.inr (.inl b)) :: .inr (.inr (.inl a)) :: st => zgo al (zlg (zl2 (· + ·) a b) :: st) h
    | _ => zno (932, 0)
  | .lmul => match st with
    | .inr (.inr (.inl b)) :: .inr (.inr (.inl a)) :: st => zgo al (zlg (zl2 (· * ·) a b) :: st) h
    | _ => zno (932, 0)
  | .lrem => match st with
    | .inr (.inr (.inl (some b))) :: .inr (.inr (.inl a)) :: st => bif zeq (Int64.ofInt b).toInt 0 then zno (932, 0) else zgo al (zlg (zl2 (fun x y => x - x / y * y) a (some b)) :: st) h
    | _ => zno (932, 0)
  | .land => match st with
    | .inr (.inr (.inl b)) :: .inr (.inr (.inl a)) :: st => zgo al (zlg (zl2 (· &&& ·) a b) :: st) h
    | _ => zno (932, 0)
  | .lor => match st with
    | .inr (.inr (.inl b)) :: .inr (.inr (.inl a)) :: st => zgo al (zlg (zl2 (· ||| ·) a b) :: st) h
    | _ => zno (932, 0)
  | .lshl => match st with
    | b :: .inr (.inr (.inl _)) :: st => bif zint b then zgo al (zlg none :: st) h else zno (933, 0)
    | _ => zno (933, 0)
  | .lshr => match st with
    | b :: .inr (.inr (.inl _)) :: st => bif zint b then zgo al (zlg none :: st) h else zno (933, 0)
    | _ => zno (933, 0)
  | .lushr => match st with
    | b :: .inr (.inr (.inl _)) :: st => bif zint b then zgo al (zlg none :: st) h else zno (933, 0)
    | _ => zno (933, 0)
  | .i2l => match st with
    | a :: st => bif zint a then zgo al (zlg (zcn E a) :: st) h else zno (934, 0)
    | _ => zno (934, 0)
  | .l2i => match st with
    | .inr (.inr (.inl o)) :: st => match o with
      | some c => zgo al (zk (Int64.ofInt c).toInt32.toInt :: st) h
      | none => zgo al (.inl zz :: st) h
    | _ => zno (935, 0)
  | .i2b => match st with
    | a :: st => bif zint a then zgo al (.inl zz :: st) h else zno (936, 0)
    | _ => zno (936, 0)
  | .i2c => match st with
    | a :: st => bif zint a then zgo al (.inl zz :: st) h else zno (936, 0)
    | _ => zno (936, 0)
  | .lcmp => match st with
    | .inr (.inr (.inl (some b))) :: .inr (.inr (.inl (some a))) :: st => zgo al (zk (bif zlt b a then 1 else bif zeq a b then 0 else -1) :: st) h
    | _ => zno (937, 0)
  | .dup => match st with
    | a :: st => bif Nat.beq (zca a) 1 then zgo al (a :: a :: st) h else zno (938, 0)
    | _ => zno (938, 0)
  | .dup2 => match st with
    | a :: b :: st => bif Nat.beq (zca a) 1 && Nat.beq (zca b) 1 then zgo al (a :: b :: a :: b :: st) h else zno (939, 0)
    | _ => zno (939, 0)
  | .pop => match st with
    | a :: st => bif Nat.beq (zca a) 1 then zgo al st h else zno (940, 0)
    | _ => zno (940, 0)
  | .goto off => zbr pc off al st h (.inl true)
  | .if_icmp k off => match st with
    | b :: a :: st => zbr pc off al st h (zcm E k a b)
    | _ => zno (941, 0)
  | .ifCond k off => match st with
    | a :: st => zbr pc off al st h (zcm E k a (zk 0))
    | _ => zno (942, 0)
  | .tableswitch df lo hi offs => match st with
    | a :: st => match ziv E a with
      | some p => bif zlt p.2 lo || zlt hi p.1 then zbr pc df al st h (.inl true) else
        bif zeq p.1 p.2 then (match offs[(p.1 - lo).toNat]? with
          | some off => zbr pc off al st h (.inl true)
          | none => zno (943, 0)) else
        bif zlt p.1 lo then zno (zpt E a (some lo)) else bif zlt hi p.2 then zno (zpt E a (some (hi + 1))) else zno (zpt E a none)
      | none => zno (944, 0)
    | _ => zno (945, 0)
  | .getfield _ => match st with
    | .inr (.inr (.inr (.inl (some i)))) :: st => match h[i]? with
      | some (.inl (ci, fs)) => bif Nat.beq ci r1 then (match fs[r2.toNat]? with
        | some v => zgo al (v :: st) h
        | none => zno (946, 0)) else zno (947, 0)
      | _ => zno (948, 0)
    | _ => zno (949, 0)
  | .putfield _ => match st with
    | v :: .inr (.inr (.inr (.inl (some i)))) :: st => match h[i]? with
      | some (.inl (ci, fs)) => bif Nat.beq ci r1 then zgo al st (h.set i (.inl (ci, fs.set r2.toNat v))) else zno (950, 0)
      | _ => zno (951, 0)
    | _ => zno (952, 0)
  | .getstatic _ => zgo al (zpx (r1 + 1) :: st) h
  | .iaload => match st with
    | i :: .inr (.inr (.inr (.inl (some r)))) :: st => zpu al st h (zld E h (fun k => Nat.beq k 0) i r)
    | i :: .inr (.inr (.inr (.inr 0))) :: st => bif top then (match zix E i 5 with
      | .inl j => zgo al (.inr (.inl j) :: st) h
      | .inr q => zno q) else zno (953, 0)
    | i :: .inr (.inr (.inr (.inr (k + 1)))) :: st => match zix E i 8 with
      | .inl j => zgo al (zk ((ztb k).getD j 0) :: st) h
      | .inr q => zno q
    | _ => zno (954, 0)
  | .baload => match st with
    | i :: .inr (.inr (.inr (.inl (some r)))) :: st => zpu al st h (zld E h (fun k => Nat.beq k 1 || Nat.beq k 3) i r)
    | _ => zno (955, 0)
  | .caload => match st with
    | i :: .inr (.inr (.inr (.inl (some r)))) :: st => zpu al st h (zld E h (fun k => Nat.beq k 2) i r)
    | _ => zno (955, 0)
  | .aaload => match st with
    | i :: .inr (.inr (.inr (.inl (some r)))) :: st => zpu al st h (zld E h (fun k => Nat.ble 5 k && Nat.ble k 7) i r)
    | _ => zno (955, 0)
  | .iastore => match st with
    | v :: i :: .inr (.inr (.inr (.inl (some r)))) :: st => bif zint v then zsv E al st h (fun k => Nat.beq k 0) (fun _ v => v) v i r else zno (956, 0)
    | _ => zno (956, 0)
  | .bastore => match st with
    | v :: i :: .inr (.inr (.inr (.inl (some r)))) :: st => bif zint v then zsv E al st h (fun k => Nat.beq k 1 || Nat.beq k 3) zcvb v i r else zno (956, 0)
    | _ => zno (956, 0)
  | .castore => match st with
    | v :: i :: .inr (.inr (.inr (.inl (some r)))) :: st => bif zint v then zsv E al st h (fun k => Nat.beq k 2) (fun _ _ => .inl zz) v i r else zno (956, 0)
    | _ => zno (956, 0)
  | .aastore => match st with
    | .inr (.inr (.inr (.inl (some w)))) :: i :: .inr (.inr (.inr (.inl (some r)))) :: st => match h[w]? with
      | some (.inl (ci, _)) => zsv E al st h (fun k => (Nat.beq k 5 && Nat.beq ci 5) || (Nat.beq k 6 && Nat.beq ci 1)) (fun _ v => v) (zrf w) i r
      | _ => zno (957, 0)
    | _ => zno (958, 0)
  | .arraylength => match st with
    | .inr (.inr (.inr (.inl (some r)))) :: st => match h[r]? with
      | some (.inr (_, as)) => bif Nat.ble as.length 1000000 then zgo al (zk as.length :: st) h else zno (959, 0)
      | _ => zno (959, 0)
    | .inr (.inr (.inr (.inr 0))) :: st => bif top then zgo al (zk 5 :: st) h else zno (960, 0)
    | _ => zno (961, 0)
  | .new _ => zgo al (zrf h.length :: st) (h ++ [.inl (r1, zfs r1)])
  | .newarray t => match st with
    | a :: st => match zcn E a, zak t with
      | some (.ofNat n), some k => bif Nat.ble n 1000000 then zgo al (zrf h.length :: st) (h ++ [.inr (k, List.replicate n (bif Nat.beq k 4 then zlg (some 0) else zk 0))]) else zno (962, 0)
      | _, _ => zno (963, 0)
    | _ => zno (964, 0)
  | .anewarray _ => match st with
    | a :: st => match zcn E a with
      | some (.ofNat n) => bif Nat.ble n 1000000 && (Nat.beq r1 5 || Nat.beq r1 6) then zgo al (zrf h.length :: st) (h ++ [.inr (r1, List.replicate n (.inr (.inr (.inr (.inl none)))))]) else zno (965, 0)
      | _ => zno (966, 0)
    | _ => zno (967, 0)
  | .multianewarray _ 2 => match st with
    | b :: a :: st => match zcn E a, zcn E b with
      | some (.ofNat n), some (.ofNat k) => bif Nat.ble n 1000 && Nat.ble k 1000 then zgo al (zrf h.length :: st) (h ++ (.inr (7, (List.range n).map fun i => zrf (h.length + 1 + i)) :: List.replicate n (.inr (0, List.replicate k (zk 0))))) else zno (968, 0)
      | _, _ => zno (969, 0)
    | _ => zno (970, 0)
  | .invokevirtual _ => match st.drop r2.toNat with
    | o :: st' => zcl r1 (o :: (st.take r2.toNat).reverse) st'
    | [] => zno (971, 0)
  | .invokestatic _ => bif Nat.beq r1 1001 then (match st with
      | n :: dp :: .inr (.inr (.inr (.inl (some r)))) :: sp :: .inr (.inr (.inr (.inl (some q)))) :: st => match h[q]?, h[r]?, zcn E n, zcn E dp, zcn E sp with
        | some (.inr (0, as)), some (.inr (0, bs)), some (.ofNat n), some (.ofNat 0), some (.ofNat 0) => bif Nat.ble n as.length && Nat.ble n bs.length then zgo al st (h.set r (.inr (0, as.take n ++ bs.drop n))) else zno (972, 0)
        | _, _, _, _, _ => zno (973, 0)
      | _ => zno (974, 0)) else zcl r1 (st.take r2.toNat).reverse (st.drop r2.toNat)
  | .invokespecial _ => bif Nat.beq r1 1000 then (match st with
      | .inr (.inr (.inr (.inl (some _)))) :: st => zgo al st h
      | _ => zno (975, 0)) else (match st.drop r2.toNat with
    | o :: st' => zcl r1 (o :: (st.take r2.toNat).reverse) st'
    | [] => zno (976, 0))
  | .ireturn => match st with
    | [a] => bif zint a then zrt (some a) else zno (977, 0)
    | _ => zno (977, 0)
  | .lreturn => match st with
    | [.inr (.inr (.inl o))] => zrt (some (zlg o))
    | _ => zno (978, 0)
  | .return_ => match st with
    | [] => zrt none
    | _ => zno (979, 0)
  | _ => zno (980, 0)
abbrev zO : Type := (Option zA × List zC) ⊕ (Nat × Int)
def zrun (E : zE) (top : Bool) (cd : List zI) (call : Nat → List zA → List zC → zO) : Nat → List zI → zL → List zA → List zC → zO
  | 0, _, _, _, _ => .inr (990, 0)
  | n + 1, rest, al, st, h => match rest with
    | [] => .inr (991, 0)
    | (pc, ins, len, r1, r2) :: tl => match zstep E top pc ins r1 r2 al st h with
      | .inl (al', st', h') => match tl with
        | [] => .inr (992, 0)
        | (pc', _) :: _ => bif Nat.beq pc' (pc + len) then zrun E top cd call n tl al' st' h' else .inr (993, 0)
      | .inr (.inl (t, st')) => zrun E top cd call n (cd.dropWhile (fun q => !(Nat.beq q.1 t))) al st' h
      | .inr (.inr (.inl (j, as, st'))) => bif Nat.ble ((st'.map zca).sum) 8 then (match call j as h with
        | .inl (r, h') => match tl with
          | [] => .inr (992, 0)
          | (pc', _) :: _ => bif Nat.beq pc' (pc + len) then (match r with
            | some v => zrun E top cd call n tl al (v :: st') h'
            | none => zrun E top cd call n tl al st' h') else .inr (993, 0)
        | .inr q => .inr q) else .inr (994, 0)
      | .inr (.inr (.inr (.inl r))) => .inl (r, h)
      | .inr (.inr (.inr (.inr q))) => .inr q
def zent : Nat → List zA → zL
  | _, [] => []
  | i, a :: as => (i, a) :: zent (i + zca a) as
