theorem zle_iff : ∀ {a b : Int}, zle a b = true ↔ a ≤ b
  | .ofNat a, .ofNat b => by
    rw [show zle (.ofNat a) (.ofNat b) = Nat.ble a b from rfl, Nat.ble_eq, Int.ofNat_eq_natCast, Int.ofNat_eq_natCast]
    omega
  | .ofNat a, .negSucc b => by
    rw [show zle (.ofNat a) (.negSucc b) = false from rfl, Int.ofNat_eq_natCast, Int.negSucc_eq]
    exact ⟨(fun h => absurd h (by decide)), (fun h => absurd h (by omega))⟩
  | .negSucc a, .ofNat b => by
    rw [show zle (.negSucc a) (.ofNat b) = true from rfl, Int.ofNat_eq_natCast, Int.negSucc_eq]
    exact ⟨(fun _ => by omega), (fun _ => rfl)⟩
  | .negSucc a, .negSucc b => by
    rw [show zle (.negSucc a) (.negSucc b) = Nat.ble b a from rfl, Nat.ble_eq, Int.negSucc_eq, Int.negSucc_eq]
    omega
theorem zeq_iff : ∀ {a b : Int}, zeq a b = true ↔ a = b
  | .ofNat a, .ofNat b => by
    rw [show zeq (.ofNat a) (.ofNat b) = Nat.beq a b from rfl, Nat.beq_eq, Int.ofNat_eq_natCast, Int.ofNat_eq_natCast]
    omega
  | .ofNat a, .negSucc b => by
    rw [show zeq (.ofNat a) (.negSucc b) = false from rfl, Int.ofNat_eq_natCast, Int.negSucc_eq]
    exact ⟨(fun h => absurd h (by decide)), (fun h => absurd h (by omega))⟩
  | .negSucc a, .ofNat b => by
    rw [show zeq (.negSucc a) (.ofNat b) = false from rfl, Int.ofNat_eq_natCast, Int.negSucc_eq]
    exact ⟨(fun h => absurd h (by decide)), (fun h => absurd h (by omega))⟩
  | .negSucc a, .negSucc b => by
    rw [show zeq (.negSucc a) (.negSucc b) = Nat.beq a b from rfl, Nat.beq_eq, Int.negSucc_eq, Int.negSucc_eq]
    omega
theorem zlt_iff {a b : Int} : zlt a b = true ↔ a < b := by
  unfold zlt
  rw [Bool.not_eq_true', ← Bool.not_eq_true, zle_iff]
  omega
theorem zqA_eq {a b : zA} (h : zqA a b = true) : a = b := by
  unfold zqA at h
  split at h
  · rename_i p q
    obtain ⟨p1, p2⟩ := p
    obtain ⟨q1, q2⟩ := q
    simp only [Bool.and_eq_true, zeq_iff] at h
    rw [h.1, h.2]
  · rw [Nat.eq_of_beq_eq_true h]
  · rfl
  · rw [zeq_iff.mp h]
  · rfl
  · rw [Nat.eq_of_beq_eq_true h]
  · rw [Nat.eq_of_beq_eq_true h]
  · cases h
noncomputable def zqL : List zA → List zA → Bool
  | [], [] => true
  | a :: as, b :: bs => zqA a b && zqL as bs
  | _, _ => false
theorem zqL_eq : ∀ {a b : List zA}, zqL a b = true → a = b
  | [], [], _ => rfl
  | [], _ :: _, h => by cases h
  | _ :: _, [], h => by cases h
  | a :: as, b :: bs, h => by
    simp only [zqL, Bool.and_eq_true] at h
    rw [zqA_eq h.1, zqL_eq h.2]
noncomputable def zqO : List (Nat × zA) → List (Nat × zA) → Bool
  | [], [] => true
  | a :: as, b :: bs => (Nat.beq a.1 b.1 && zqA a.2 b.2) && zqO as bs
  | _, _ => false
/-- what the cell a says, the cell b says too -/
noncomputable def zqC : zC → zC → Bool
  | .inl (i, a), .inl (j, b) => Nat.beq i j && (List.range 56).all fun k => match zg a k with
    | none => true
    | some v => match zg b k with
      | none => false
      | some w => zqA v w
  | .inr (i, n, d, a), .inr (j, m, e, b) => Nat.beq i j && (Nat.beq n m && (List.range n).all fun k => zqA (zag d a k) (zag e b k))
  | _, _ => false
/-- what the cells g say, the cells h say too -/
noncomputable def zqH (g h : zH) : Bool := Nat.beq g.1.1 h.1.1 && (Nat.beq g.1.2 h.1.2 && (List.range 216).all fun i => match zgt g i with
  | none => true
  | some a => match zgt h i with
    | some b => zqC a b
    | none => false)
noncomputable def zis (o : zO) (g : zH) : Bool := match o with
  | .inl (none, h) => zqH g h
  | _ => false
def zh0 : zH := ((210, 15606), [[.inl (9, [[zrf 1, zrf 9, zrf 15, zrf 57, zrf 58, zrf 73, zlg (some 0)]], []), .inl (7, [[zrf 2, zrf 3, zk 0]], []), .inr (2, 300, zk 0, []), .inl (6, [[zrf 4, zrf 5, zrf 6, zrf 7, zrf 8, zk 0]], []), .inr (0, 6, zk 0, []), .inr (0, 6, zk 0, []), .inr (0, 6, zk 0, []), .inr (0, 6, zk 0, [])],
  [.inr (0, 6, zk 0, []), .inl (6, [[zrf 10, zrf 11, zrf 12, zrf 13, zrf 14, zk 0]], []), .inr (0, 6, zk 0, []), .inr (0, 6, zk 0, []), .inr (0, 6, zk 0, []), .inr (0, 6, zk 0, []), .inr (0, 6, zk 0, []), .inl (0, [[zrf 16, zrf 54, zrf 55, zrf 56, zk 0, zk 0, zk 0]], [])],
  [.inl (8, [[zrf 17, zrf 18, zrf 30, zrf 42, zk (-2), zk 1, zk 1]], []), .inr (0, 21, zk 0, []), .inr (7, 11, .inr (.inr (.inr (.inl none))), [(0, zrf 19), (1, zrf 20), (2, zrf 21), (3, zrf 22), (4, zrf 23), (5, zrf 24), (6, zrf 25), (7, zrf 26), (8, zrf 27), (9, zrf 28), (10, zrf 29)]), .inr (0, 201, zk 0, []), .inr (0, 201, zk 0, []), .inr (0, 201, zk 0, []), .inr (0, 201, zk 0, []), .inr (0, 201, zk 0, [])],
  [.inr (0, 201, zk 0, []), .inr (0, 201, zk 0, []), .inr (0, 201, zk 0, []), .inr (0, 201, zk 0, []), .inr (0, 201, zk 0, []), .inr (0, 201, zk 0, []), .inr (7, 11, .inr (.inr (.inr (.inl none))), [(0, zrf 31), (1, zrf 32), (2, zrf 33), (3, zrf 34), (4, zrf 35), (5, zrf 36), (6, zrf 37), (7, zrf 38), (8, zrf 39), (9, zrf 40), (10, zrf 41)]), .inr (0, 201, zk 0, [])],
  [.inr (0, 201, zk 0, []), .inr (0, 201, zk 0, []), .inr (0, 201, zk 0, []), .inr (0, 201, zk 0, []), .inr (0, 201, zk 0, []), .inr (0, 201, zk 0, []), .inr (0, 201, zk 0, []), .inr (0, 201, zk 0, [])],
  [.inr (0, 201, zk 0, []), .inr (0, 201, zk 0, []), .inr (7, 11, .inr (.inr (.inr (.inl none))), [(0, zrf 43), (1, zrf 44), (2, zrf 45), (3, zrf 46), (4, zrf 47), (5, zrf 48), (6, zrf 49), (7, zrf 50), (8, zrf 51), (9, zrf 52), (10, zrf 53)]), .inr (0, 201, zk 0, [(0, zk 1)]), .inr (0, 201, zk 0, []), .inr (0, 201, zk 0, []), .inr (0, 201, zk 0, []), .inr (0, 201, zk 0, [])],
  [.inr (0, 201, zk 0, []), .inr (0, 201, zk 0, []), .inr (0, 201, zk 0, []), .inr (0, 201, zk 0, []), .inr (0, 201, zk 0, []), .inr (0, 201, zk 0, []), .inr (0, 10, zk 0, []), .inr (0, 3, zk 0, [])],
  [.inr (0, 3, zk 0, []), .inr (5, 6, .inr (.inr (.inr (.inl none))), [(0, zrf 74), (1, zrf 85), (2, zrf 96), (3, zrf 107), (4, zrf 118), (5, zrf 129)]), .inl (1, [[zrf 59, zrf 67, zrf 71, zk 0, zk 0]], []), .inl (2, [[zrf 60, zrf 61, zrf 62, zrf 63, zrf 64, zrf 65, zrf 66, zk 0]], []), .inr (0, 20, zk 0, []), .inr (0, 20, zk 0, []), .inr (0, 20, zk 0, []), .inr (0, 20, zk 0, [])],
  [.inr (0, 20, zk 0, []), .inr (0, 20, zk 0, []), .inr (0, 20, zk 0, []), .inl (3, [[zrf 68, zrf 69, zrf 70, zk 0]], []), .inr (0, 30, zk 0, []), .inr (0, 30, zk 0, []), .inr (0, 30, zk 0, []), .inl (4, [[zrf 72, zk 0]], [])],
  [.inr (0, 40, zk 0, []), .inr (6, 2, .inr (.inr (.inr (.inl none))), [(0, zrf 140), (1, zrf 155)]), .inl (5, [[zrf 75, zrf 76, zrf 77, zrf 78, zrf 79, zrf 80, zrf 81, zrf 82], [zrf 83, zrf 84, zk 0]], []), .inr (0, 10, zk 0, []), .inr (0, 10, zk 0, []), .inr (0, 10, zk (-1), []), .inr (0, 10, zk 0, []), .inr (0, 3, zk 0, [])],
  [.inr (0, 3, zk 0, []), .inr (0, 3, zk 0, []), .inr (0, 3, zk 0, []), .inr (0, 201, zk 0, []), .inr (0, 201, zk 0, []), .inl (5, [[zrf 86, zrf 87, zrf 88, zrf 89, zrf 90, zrf 91, zrf 92, zrf 93], [zrf 94, zrf 95, zk 0]], []), .inr (0, 10, zk 0, []), .inr (0, 10, zk 0, [])],
  [.inr (0, 10, zk (-1), []), .inr (0, 10, zk 0, []), .inr (0, 3, zk 0, []), .inr (0, 3, zk 0, []), .inr (0, 3, zk 0, []), .inr (0, 3, zk 0, []), .inr (0, 201, zk 0, []), .inr (0, 201, zk 0, [])],
  [.inl (5, [[zrf 97, zrf 98, zrf 99, zrf 100, zrf 101, zrf 102, zrf 103, zrf 104], [zrf 105, zrf 106, zk 0]], []), .inr (0, 10, zk 0, []), .inr (0, 10, zk 0, []), .inr (0, 10, zk (-1), []), .inr (0, 10, zk 0, []), .inr (0, 3, zk 0, []), .inr (0, 3, zk 0, []), .inr (0, 3, zk 0, [])],
  [.inr (0, 3, zk 0, []), .inr (0, 201, zk 0, []), .inr (0, 201, zk 0, []), .inl (5, [[zrf 108, zrf 109, zrf 110, zrf 111, zrf 112, zrf 113, zrf 114, zrf 115], [zrf 116, zrf 117, zk 0]], []), .inr (0, 10, zk 0, []), .inr (0, 10, zk 0, []), .inr (0, 10, zk (-1), []), .inr (0, 10, zk 0, [])],
  [.inr (0, 3, zk 0, []), .inr (0, 3, zk 0, []), .inr (0, 3, zk 0, []), .inr (0, 3, zk 0, []), .inr (0, 201, zk 0, []), .inr (0, 201, zk 0, []), .inl (5, [[zrf 119, zrf 120, zrf 121, zrf 122, zrf 123, zrf 124, zrf 125, zrf 126], [zrf 127, zrf 128, zk 0]], []), .inr (0, 10, zk 0, [])],
  [.inr (0, 10, zk 0, []), .inr (0, 10, zk (-1), []), .inr (0, 10, zk 0, []), .inr (0, 3, zk 0, []), .inr (0, 3, zk 0, []), .inr (0, 3, zk 0, []), .inr (0, 3, zk 0, []), .inr (0, 201, zk 0, [])],
  [.inr (0, 201, zk 0, []), .inl (5, [[zrf 130, zrf 131, zrf 132, zrf 133, zrf 134, zrf 135, zrf 136, zrf 137], [zrf 138, zrf 139, zk 0]], []), .inr (0, 10, zk 0, []), .inr (0, 10, zk 0, []), .inr (0, 10, zk (-1), []), .inr (0, 10, zk 0, []), .inr (0, 3, zk 0, []), .inr (0, 3, zk 0, [])],
  [.inr (0, 3, zk 0, []), .inr (0, 3, zk 0, []), .inr (0, 201, zk 0, []), .inr (0, 201, zk 0, []), .inl (1, [[zrf 141, zrf 149, zrf 153, zk 0, zk 0]], []), .inl (2, [[zrf 142, zrf 143, zrf 144, zrf 145, zrf 146, zrf 147, zrf 148, zk 0]], []), .inr (0, 20, zk 0, []), .inr (0, 20, zk 0, [])],
  [.inr (0, 20, zk 0, []), .inr (0, 20, zk 0, []), .inr (0, 20, zk 0, []), .inr (0, 20, zk 0, []), .inr (0, 20, zk 0, []), .inl (3, [[zrf 150, zrf 151, zrf 152, zk 0]], []), .inr (0, 30, zk 0, []), .inr (0, 30, zk 0, [])],
  [.inr (0, 30, zk 0, []), .inl (4, [[zrf 154, zk 0]], []), .inr (0, 40, zk 0, []), .inl (1, [[zrf 156, zrf 164, zrf 168, zk 0, zk 0]], []), .inl (2, [[zrf 157, zrf 158, zrf 159, zrf 160, zrf 161, zrf 162, zrf 163, zk 0]], []), .inr (0, 20, zk 0, []), .inr (0, 20, zk 0, []), .inr (0, 20, zk 0, [])],
  [.inr (0, 20, zk 0, []), .inr (0, 20, zk 0, []), .inr (0, 20, zk 0, []), .inr (0, 20, zk 0, []), .inl (3, [[zrf 165, zrf 166, zrf 167, zk 0]], []), .inr (0, 30, zk 0, []), .inr (0, 30, zk 0, []), .inr (0, 30, zk 0, [])],
  [.inl (4, [[zrf 169, zk 0]], []), .inr (0, 40, zk 0, []), .inl (10, [[zlg (some 0), zk 0, zrf 171, zk 0, zk 0, zrf 172, zrf 173, zrf 174], [zrf 175, zrf 176, zk 0, zk 0, zk 0, zk 0, zk 0, zrf 177], [zrf 178, zrf 179, zrf 180, zrf 181, zrf 182, zrf 183, zrf 184, zrf 185], [zrf 186, zrf 187, zrf 188, zrf 189, zlg (some 0), zk 0, zk 0, zrf 190], [zrf 191, zrf 192, zrf 193, zrf 194, zrf 195, zrf 196, zrf 197, zrf 198], [zrf 199, zrf 200, zrf 201, zrf 202, zrf 203, zrf 204, zrf 205, zrf 206], [zrf 207, zrf 208, zrf 209]], []), .inr (1, 300, zk 0, []), .inr (0, 12, zk 0, []), .inr (0, 12, zk 0, []), .inr (0, 12, zk 0, []), .inr (0, 12, zk 0, [])],
  [.inr (0, 12, zk 0, []), .inr (0, 60, zk 0, []), .inr (0, 60, zk 0, []), .inr (0, 60, zk (-9), []), .inr (0, 60, zk 0, []), .inr (0, 6, zk 0, []), .inr (0, 18, zk 0, []), .inr (0, 18, zk 0, [])],
  [.inr (0, 18, zk 0, []), .inr (0, 18, zk 0, []), .inr (0, 10, zk 0, []), .inr (4, 201, zlg (some 0), []), .inr (0, 201, zk 0, []), .inr (0, 201, zk 0, []), .inr (3, 201, zk 0, []), .inr (0, 3, zk 0, [])],
  [.inr (0, 3, zk 0, []), .inr (0, 3, zk 0, []), .inr (0, 3, zk 0, []), .inr (0, 3, zk 0, []), .inr (0, 60, zk 0, []), .inr (0, 60, zk 0, []), .inr (0, 60, zk 0, []), .inr (0, 60, zk 0, [])],
  [.inr (0, 60, zk 0, []), .inr (0, 60, zk 0, []), .inr (0, 60, zk 0, []), .inr (0, 60, zk 0, []), .inr (0, 90, zk 0, []), .inr (0, 90, zk 0, []), .inr (0, 90, zk 0, []), .inr (0, 120, zk 0, [])],
  [.inr (0, 2412, zk 0, []), .inr (3, 2, zk 0, [])]], [])
/-- the law's two constructors, one behind the other -/
noncomputable def zfr : zO := match zx [] 30 9 [zrf 0] (zph ((0, 0), [], []) (.inl (9, zfs 9, [])) 7) with
  | .inl (none, h) => zx [] 30 10 [zrf h.1.1] (zph h (.inl (10, zfs 10, [])) 51)
  | o => o
set_option maxRecDepth 100000 in
theorem zt1 : zis zfr zh0 = true := by decide +kernel
