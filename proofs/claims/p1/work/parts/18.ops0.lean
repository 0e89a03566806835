/-- the law, from its loop's head on, over fresh objects, the script in the box E -/
noncomputable def zop (E : zE) : zO := zrun E true zlaw (zx E 30) 100000 (zlaw.drop 10) 18 [(3, zk 0), (2, zrf 170), (1, zrf 0), (0, zpx 0)] [] zh0
/-- it answers 1 in every box into which E is parted -/
noncomputable def zck : Nat → zE → Bool
  | 0, _ => false
  | n + 1, E => match zop E with
    | .inl (some r, h) => zqA r (zk 1) && (Nat.ble h.1.1 600000 && Nat.ble h.1.2 7302250)
    | .inl (none, _) => false
    | .inr (k, c) => match znt E k with
      | some (l, u) => bif zlt l c && zle c u then zck n (E.set k (l, c - 1)) && zck n (E.set k (c, u)) else false
      | none => false
abbrev zbx (a b i : Int) : zE := [(-2147483648, 2147483647), (a, b), (-2147483648, 2147483647), (-2147483648, 2147483647), (-2147483648, 2147483647), (i, i)]
