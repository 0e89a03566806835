noncomputable def zinA (p : Nat) (w : Jvm.Cond) : Bool := (match znt lw_tbl p with
  | some v => decide (v = w)
  | none => false) && (goodWord w || zisN w)
theorem znt_mem {α : Type} {a : α} : ∀ {l : List α} {n : Nat}, znt l n = some a → a ∈ l
  | [], _, h => by cases h
  | b :: l, 0, h => by
    have h : some b = some a := h
    cases h
    exact List.mem_cons_self
  | b :: l, n + 1, h => List.mem_cons_of_mem _ (znt_mem (l := l) (n := n) h)
theorem zinA_ok {p : Nat} {w : Jvm.Cond} (h : zinA p w = true) : zin w = true := by
  unfold zinA at h
  rw [Bool.and_eq_true] at h
  unfold zin
  rw [Bool.and_eq_true, decide_eq_true_eq]
  refine ⟨?_, h.2⟩
  have h1 := h.1
  split at h1
  · rename_i v hv
    have e9 : v = w := of_decide_eq_true h1
    rw [← e9]
    exact znt_mem hv
  · cases h1
noncomputable def zfD (own : String) (nL : Nat) (ini : Bool) (cc : ByteArray) : List zI → List Nat → Bool
  | x :: cd, p :: hs => (decide (decode cc x.1 = .ok (x.2.1, x.2.2.1)) && zfG (zinA p) own nL ini x.2.2.1 x.2.2.2.1 x.2.2.2.2 x.1 x.2.1) && zfD own nL ini cc cd hs
  | [], [] => true
  | _, _ => false
theorem zfD_ok {own : String} {nL : Nat} {ini : Bool} {cc : ByteArray} : ∀ {cd : List zI} {hs : List Nat}, zfD own nL ini cc cd hs = true → zfM own nL ini cc cd = true
  | [], [], _ => rfl
  | [], _ :: _, h => by cases h
  | _ :: _, [], h => by cases h
  | x :: cd, p :: hs, h => by
    have h : ((decide (decode cc x.1 = .ok (x.2.1, x.2.2.1)) && zfG (zinA p) own nL ini x.2.2.1 x.2.2.2.1 x.2.2.2.2 x.1 x.2.1) && zfD own nL ini cc cd hs) = true := h
    rw [Bool.and_eq_true, Bool.and_eq_true] at h
    have ih := zfD_ok h.2
    show ((decide (decode cc x.1 = .ok (x.2.1, x.2.2.1)) && zfB own nL ini x.2.2.1 x.2.2.2.1 x.2.2.2.2 x.1 x.2.1) && zfM own nL ini cc cd) = true
    rw [Bool.and_eq_true, Bool.and_eq_true]
    exact ⟨⟨h.1.1, zfG_mono (fun w hw => zinA_ok hw) h.1.2⟩, ih⟩
noncomputable def zmD (M : zM) (q : Nat × Nat × Nat × Nat) (hs : List Nat) : Bool := zmG (zinA q.1) (zinA q.2.1) (zinA q.2.2.1) M && (zmW (zinA q.2.2.2) M && ((!(decide (M.1.name = "<init>")) || decide (M.2.2.2.1 = none)) && zfD M.1.cls M.2.2.1 (decide (M.1.name = "<init>")) M.2.1 M.2.2.2.2.2 hs))
