section ZMN
variable {p : Program} {l : Launch} {e : Env} {R : Room} {s : State} {m : MethodId} {args : Array Value} {below : List Frame} {meth : Method} {c : Code} {Q : State → Prop} {D : va_G} {kk : Nat → ClassId} {A : Nat → Prop} {g : zG} {ad0 : List Nat} {nL n0 m0 : Nat} {cc : ByteArray} {own : String} {ini top : Bool} {E : zE} {pc : Nat} {al al' : zL} {st st' : List zA} {h h' : zH}
def zHrA (g : zG) (kk : Nat → ClassId) (ad : List Nat) (h : zH) (ws : va_W) : Prop := ws.length = h.1.1 ∧ ∀ i c, zgt h i = some c → ∃ q e, ws[i]? = some (q, e) ∧ zCr g ad kk c e
theorem zHrA_push {ad : List Nat} {q n : Nat} {e1 : va_E} {c1 : zC} {ws : va_W} (hh : zHrA g kk ad h ws) (h2 : zCr g ad kk c1 e1) : zHrA g kk ad (zph h c1 n) (ws ++ [(q, e1)]) := by
  refine ⟨by rw [List.length_append]; show ws.length + 1 = h.1.1 + 1; rw [hh.1], fun j c0 hj => ?_⟩
  have hj : zg (h.2.1, (h.1.1, c1) :: h.2.2) j = some c0 := hj
  by_cases e : j = h.1.1
  · have hj2 : zg (h.2.1, (h.1.1, c1) :: h.2.2) j = some c1 := by
      unfold zg
      simp only [zlk_cons, e, zbeq_self, cond_true]
    rw [hj2] at hj
    cases hj
    exact ⟨q, e1, by rw [e, ← hh.1, List.getElem?_append_right (Nat.le_refl _)]; simp, h2⟩
  · have hj2 : zg (h.2.1, (h.1.1, c1) :: h.2.2) j = zgt h j := by
      unfold zgt zg
      simp only [zlk_cons, zbeq_ne (Ne.symm e), cond_false]
    rw [hj2] at hj
    obtain ⟨q1, e2, h3, h4⟩ := hh.2 j c0 hj
    exact ⟨q1, e2, by rw [List.getElem?_append_left (List.getElem?_eq_some_iff.mp h3).1]; exact h3, h4⟩
theorem zpn_ok {ad : List Nat} {n : Nat} {e1 : va_E} {c1 : zC} {ws : va_W} {r : Nat → Nat} (hh : zHrA g kk ad h ws) (h2 : zCr g ad kk c1 e1) : ∀ k, zHrA g kk ad (zpn h c1 n k) (ws ++ (List.range k).map (fun i => (r i, e1)))
  | 0 => by
    rw [List.range_zero, List.map_nil, List.append_nil]
    exact hh
  | k + 1 => by
    rw [List.range_succ, List.map_append, ← List.append_assoc]
    exact zHrA_push (zpn_ok hh h2 k) h2
theorem zpn_cnt {n : Nat} {c1 : zC} : ∀ k, (zpn h c1 n k).1 = (h.1.1 + k, h.1.2 + k * n)
  | 0 => by
    show h.1 = _
    rw [Nat.zero_mul]
    rfl
  | k + 1 => by
    show ((zpn h c1 n k).1.1 + 1, (zpn h c1 n k).1.2 + n) = _
    rw [zpn_cnt k, Nat.succ_mul]
    simp only [Nat.add_assoc]
theorem zlk_map {F : Nat → zA} {j : Nat} : ∀ {l0 : List Nat}, j ∈ l0 → zlk (l0.map fun i => (i, F i)) j = some (F j)
  | [], hj => by cases hj
  | i :: l0, hj => by
    rw [List.map_cons, zlk_cons]
    by_cases e9 : i = j
    · subst e9
      rw [zbeq_self]
      rfl
    · rw [zbeq_ne e9]
      exact zlk_map ((List.mem_cons.mp hj).elim (fun w => absurd w.symm e9) id)
theorem zpl_eq {N : Nat} {r : Nat → Nat} {f : Nat → va_E} {e1 : va_E} : va_pl ([] ++ (List.range N).map r) (vr_up f ((List.range N).map r) e1) = (List.range N).map (fun i => (r i, e1)) := by
  unfold va_pl
  rw [List.nil_append, List.map_map]
  apply List.map_congr_left
  intro i hi
  show (r i, vr_up f ((List.range N).map r) e1 (r i)) = _
  rw [vr_up_in (List.mem_map.mpr ⟨i, hi, rfl⟩)]
theorem zh_mna (hC : zCx p s m args meth c cc nL own D kk A g ini top) (hE : zEv g E) {i : Nat} (hw : Jvm.Cond.classLink own i "[[I" ∈ zW) (hw2 : Jvm.Cond.arrayClass .int ∈ zW) (h0 : n0 ≤ h.1.1) (h1 : m0 ≤ h.1.2) (hr1 : h'.1.1 - n0 ≤ R.cells) (hr2 : h'.1.2 - m0 ≤ R.slots) (hd : decode cc pc = .ok (.multianewarray i 2, 4)) (hs : zs_mna E top al st h = .inl (al', st', h')) (k : zWn p l e R s m args below meth c Q D kk A g ad0 nL n0 m0 (pc + 4) al' st' h') : zWn p l e R s m args below meth c Q D kk A g ad0 nL n0 m0 pc al st h := by
  unfold zs_mna at hs
  split at hs
  · rename_i b0 a0 st0
    split at hs
    · rename_i n9 k9 hn hk
      cases hz : (Nat.ble n9 1000 && Nat.ble k9 1000) with
      | false => rw [hz] at hs; cases hs
      | true =>
        rw [hz] at hs
        cases hs
        rw [Bool.and_eq_true] at hz
        have hn9 : n9 ≤ 1000 := Nat.le_of_ble_eq_true hz.1
        have hk9 : k9 ≤ 1000 := Nat.le_of_ble_eq_true hz.2
        obtain ⟨h2, hh2⟩ : ∃ h2, h2 = zpn (zph h (.inr (7, n9, znl, (List.range n9).map fun i => (i, zrf (h.1.1 + 1 + i)))) n9) (.inr (0, k9, zk 0, [])) k9 n9 := ⟨_, rfl⟩
        rw [← hh2] at hr1 hr2 k
        have hc : h2.1 = (h.1.1 + 1 + n9, h.1.2 + n9 + n9 * k9) := by
          rw [hh2, zpn_cnt]
          rfl
        rw [hc] at hr1 hr2
        have hR1 : h.1.1 - n0 + (1 + n9) ≤ R.cells := by
          have : h.1.1 + 1 + n9 - n0 ≤ R.cells := hr1
          omega
        have hR2 : h.1.2 - m0 + (n9 + n9 * k9) ≤ R.slots := by
          have : h.1.2 + n9 + n9 * k9 - m0 ≤ R.slots := hr2
          omega
        intro ls sv H locs ⟨ws, lv, hh, hl, hL, hF, hP, hD, hS⟩
        obtain ⟨v1, vs, rfl, hV1, hF1⟩ := zVs_cons hF
        obtain ⟨v2, vs, rfl, hV2, hF2⟩ := zVs_cons hF1
        obtain ⟨y, rfl, hy⟩ := zV_cn hE hk hV1
        obtain ⟨x, rfl, hx⟩ := zV_cn hE hn hV2
        have z0 : (0 : Int32).toInt = 0 := rfl
        have hx : x.toInt = ((n9 : Nat) : Int) := hx
        have hy : y.toInt = ((k9 : Nat) : Int) := hy
        have es : "[" ++ (FieldType.array FieldType.int).toString = "[[I" := by decide
        refine va_mna (X := ws) (L := []) (f := fun _ => .inl (kk 0, 0, .inl (fun _ => 0))) (ty := .int) (cy := kk 0) (z := (k9, .inl (fun _ => 0))) hC.1 hC.2.1 hC.2.2.2.1 (by rw [es]; exact hC.2.2.2.2.1 _ hw) hC.2.2.2.2.2.2.2.1.2.2.1 (hC.2.2.2.2.1 _ hw2) (hC.2.2.2.2.2.1.2 0 _ rfl).2 hC.2.2.2.2.2.1 (by rw [show va_pl [] _ = [] from rfl, List.append_nil]; exact hP) (by rw [show va_pl [] _ = [] from rfl, List.append_nil]; exact hD) hS hC.2.2.2.2.2.2.1 (fun h9 => by have := (fa_lt _ _).mp h9; omega) (fun h9 => by have := (fa_lt _ _).mp h9; omega) (zclamp hx) (zclamp hy) (by omega) (by show k9 * 4 ≤ _; omega) (by omega) rfl rfl hR1 hR2 (fun c9 => by show ({ cls := c9, slots := Array.replicate k9 (.int 0), vm := .none } : Cell) = _; rw [arrV_new]; rfl) hd (fun q r cA H1 hinj hnl hK1 hP1 hD1 hS1 => ?_)
        rw [zpl_eq] at hP1 hD1
        have ec : cA = kk 7 := zRA (ty := .array .int) (by decide) (hK1.2 8 (cA, .array .int) rfl).2 (hC.2.2.2.2.2.1.2 7 _ rfl).2
        subst ec
        obtain ⟨ws1, hws1⟩ : ∃ ws1 : va_W, ws1 = (ws ++ [(q, .inl (kk 7, n9, .inr (.inr (.inr (.inr (fun i => if i < n9 then some (r i) else none))))))]) ++ (List.range n9).map (fun i => (r i, .inl (kk 0, k9, .inl (fun _ => 0)))) := ⟨_, rfl⟩
        rw [← hws1] at hP1 hD1
        have had : ws1.map (·.1) = ws.map (·.1) ++ (q :: (List.range n9).map r) := by
          rw [hws1, List.map_append, List.map_append, List.map_map, List.append_assoc]
          rfl
        have hlen : (ws.map (·.1)).length = h.1.1 := by rw [List.length_map]; exact hh.1.1
        have hat : ∀ j, j < n9 → (ws1.map (·.1))[h.1.1 + 1 + j]? = some (r j) := fun j hj => by
          rw [had, List.getElem?_append_right (by omega), hlen, show h.1.1 + 1 + j - h.1.1 = j + 1 by omega, List.getElem?_cons_succ, List.getElem?_map, List.getElem?_range hj]
          rfl
        have hA1 : zHrA g kk (ws1.map (·.1)) h ws := ⟨hh.1.1, fun i9 c9 h9 => by
          obtain ⟨q1, e2, h3, h4⟩ := hh.2 i9 c9 h9
          exact ⟨q1, e2, h3, by rw [had]; exact zCr_grow _ h4⟩⟩
        have hA2 := zHrA_push (q := q) (n := n9) hA1 (c1 := .inr (7, n9, znl, (List.range n9).map fun i => (i, zrf (h.1.1 + 1 + i)))) (e1 := .inl (kk 7, n9, .inr (.inr (.inr (.inr (fun i => if i < n9 then some (r i) else none)))))) (Or.inr (Or.inr ⟨by decide, by decide, _, rfl, fun j hj => by
          unfold zag
          rw [zlk_map (F := fun i => zrf (h.1.1 + 1 + i)) (List.mem_range.mpr hj), if_pos hj]
          exact ⟨r j, hat j hj, rfl⟩⟩))
        have hA3 := zpn_ok (r := r) (n := k9) hA2 (c1 := .inr (0, k9, zk 0, [])) (e1 := .inl (kk 0, k9, .inl (fun _ => 0))) (Or.inl ⟨by decide, _, rfl, fun j hj => zV_k rfl⟩) n9
        rw [← hh2, ← hws1] at hA3
        have := k ls (.ref q :: vs) H1 locs ⟨ws1, lv, ⟨⟨hA3.1, by obtain ⟨l0, e0⟩ := hh.1.2; exact ⟨l0 ++ (q :: (List.range n9).map r), by rw [had, e0, List.append_assoc]⟩⟩, hA3.2⟩, hl, by rw [had]; exact zLs_grow _ hL, ⟨⟨q, by rw [had, List.getElem?_append_right (by omega), hlen, Nat.sub_self]; rfl, rfl⟩, by rw [had]; exact zVs_grow _ hF2⟩, hP1, hD1, hS1⟩
        rw [hc] at this
        have e1 : h.1.1 + 1 + n9 - n0 = h.1.1 - n0 + 1 + n9 := by omega
        have e2 : h.1.2 + n9 + n9 * k9 - m0 = h.1.2 - m0 + n9 + n9 * k9 := by omega
        have this : W p l e R s m args below meth c H1 locs (h.1.1 + 1 + n9 - n0) (h.1.2 + n9 + n9 * k9 - m0) Q (F0 m (pc + 4) ls (.ref q :: vs)) := this
        rw [e1, e2] at this
        exact this
    · cases hs
  · cases hs
end ZMN
