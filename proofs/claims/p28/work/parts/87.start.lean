set_option maxRecDepth 100000 in
set_option maxHeartbeats 4000000 in
/-- YOUR PART: from the entry, for every script of at most 2560 ints, the law comes to its end with true -/
theorem whole_start {p : Program} {e : Env} {s : State} {m : MethodId} {below : List Frame} {meth : Method} {c : Code} (l : Launch) {b L : Nat} {xs : Nat → Int32} (hL : L ≤ 2560) (C0 : lw_At p s m meth c b L xs) : W p l e room_1 s m #[Value.ref b] below meth c s.heap [] 0 0 (lw_Z below #[Value.ref b] s) (entryFrame m ([Value.ref b] : List Value).toArray 4) := by
  obtain ⟨hx, hb, hr, hml, hown, hts, hX, hbl, hlocks, hgv⟩ := C0
  obtain ⟨D, kk, hK⟩ := zk_start hts
  obtain ⟨tz, gq, hZ, hg0, hqX⟩ := qx_start hts hgv
  obtain ⟨vals, hvals⟩ : ∃ vals : Nat → Int32, vals = fun k => if k = 5 then xs 0 &&& 31 else xs k := ⟨_, rfl⟩
  obtain ⟨g, hg⟩ : ∃ g : zG, g = (b, tz, vals) := ⟨_, rfl⟩
  have hg1 : g.1 = b := by rw [hg]
  have hgv5 : g.2.2 5 = g.2.2 0 &&& 31 := by rw [hg]; show vals 5 = vals 0 &&& 31; rw [hvals]; rfl
  have hZg : zX g (fun q : Nat => s.heap.size ≤ q) s s.heap := by rw [hg]; exact hZ vals
  have hw : ∀ w ∈ zW, w.before #[Value.ref b] s = true := fun w h => hts w (List.mem_filter.mp h).1
  have hA : ∀ q : Nat, s.heap.size ≤ q → (fun q : Nat => s.heap.size ≤ q) q := fun _ h => h
  have hC : zCx p s m #[Value.ref b] meth c code 4 RL D kk (fun q : Nat => s.heap.size ≤ q) g false false := ⟨hx, hb, hml, hown, hw, hK, hA, hZg, fun h => (by cases h), fun h => (by cases h)⟩
  have hE0 : zEv g [] := ⟨fun k q h => (by cases h), hgv5⟩
  obtain ⟨hA1, hB1, e1, e170, m1, e2, m2, hq, hb1, hb2⟩ := zfr_ok
  have mm1 := zmo_ok m1
  have mm2 := zmo_ok m2
  have c2 : hA1.1.2 + 51 ≤ hB1.1.2 := mm2.2
  have hx0 := fun d => zx_ok (l := l) (g := g) (D := D) (kk := kk) (E := []) hE0 (fun j M h => (zma j M h).1) (fun j M h => (zma j M h).2.1) (fun j M h => (zma j M h).2.2) d
  have hcnt : zh0.1.1 = hB1.1.1 ∧ zh0.1.2 = hB1.1.2 := by
    have hq2 := hq
    unfold zqH at hq2
    rw [Bool.and_eq_true, Bool.and_eq_true] at hq2
    exact ⟨Nat.eq_of_beq_eq_true hq2.1, Nat.eq_of_beq_eq_true hq2.2.1⟩
  -- from the loop's head on
  have K18 : zWn p l e room_1 s m #[Value.ref b] below meth c (lw_Z below #[Value.ref b] s) D kk (fun q : Nat => s.heap.size ≤ q) g [] 4 0 0 18 zLM [] zh0 := by
    intro ls sv H locs ⟨ws, lv, hh, hl, hLs, hF, hP, hD, hS⟩
    have e9 := zVs_nil hF
    subst e9
    have hCq : qCx p s m #[Value.ref b] meth c code 4 RL D kk (fun q : Nat => s.heap.size ≤ q) gq (some ((L : Int), fun j => (xs j.toNat).toInt)) := ⟨hx, hb, hml, hown, hw, hK, hA, hqX, fun x h => by
      cases h
      exact ⟨L, xs, rfl, by omega, fun j _ => rfl, by rw [hg0]; exact hX, by rw [hg0]; exact hbl, by rw [hg0]; exact Nat.not_le.mpr hbl⟩⟩
    have hlo := lloop (L := (L : Int)) (S := fun j => (xs j.toNat).toInt) (by omega) (by omega) 0 (by omega) (by omega) qμi LT_0
    have hW := qone (l := l) (e := e) (below := below) (ad := ws.map (·.1)) (nc := zh0.1.1 - 0) (ns := zh0.1.2 - 0) hCq (fun q h => h) hlocks hr (by rw [hcnt.1]; omega) (by rw [hcnt.2]; omega) hlo
    refine hW ls [] H locs ⟨ws, lv, qHr_0 hh, hl, fun k v hk => ?_, trivial, hP, hD, hS⟩
    obtain ⟨v3, hm3, hV3⟩ := zlk_ok (i := 3) hLs (show zlk zLM 3 = some (zk 0) from rfl)
    obtain ⟨v2, hm2, hV2⟩ := zlk_ok (i := 2) hLs (show zlk zLM 2 = some (zrf 170) from rfl)
    obtain ⟨v1, hm1, hV1⟩ := zlk_ok (i := 1) hLs (show zlk zLM 1 = some (zrf 0) from rfl)
    obtain ⟨v0, hm0, hV0⟩ := zlk_ok (i := 0) hLs (show zlk zLM 0 = some (zpx 0) from rfl)
    match k, hk with
    | 0, hk =>
      have hk : some (Sum.inr (Sum.inr (Sum.inr 0)) : qV) = some v := hk
      cases hk
      have hV0 : v0 = .ref g.1 := hV0
      exact ⟨v0, hm0, Or.inr ⟨by decide, by rw [hg0, hV0, hg1]⟩⟩
    | 1, hk =>
      have hk : some (Sum.inr (Sum.inr (Sum.inl 0)) : qV) = some v := hk
      cases hk
      obtain ⟨q, h1, h2⟩ := hV1
      exact ⟨v1, hm1, q, h1, h2, by decide⟩
    | 2, hk =>
      have hk : some (Sum.inr (Sum.inr (Sum.inl 170)) : qV) = some v := hk
      cases hk
      obtain ⟨q, h1, h2⟩ := hV2
      exact ⟨v2, hm2, q, h1, h2, by decide⟩
    | 3, hk =>
      have hk : some (Sum.inl 0 : qV) = some v := hk
      cases hk
      obtain ⟨x3, rfl, q1, q2⟩ := hV3
      have q1 : (0 : Int) ≤ x3.toInt := q1
      have q2 : x3.toInt ≤ (0 : Int) := q2
      exact ⟨_, hm3, x3, rfl, by omega⟩
    | k + 4, hk =>
      have hk : (none : Option qV) = some v := hk
      cases hk
  have K18b : zWn p l e room_1 s m #[Value.ref b] below meth c (lw_Z below #[Value.ref b] s) D kk (fun q : Nat => s.heap.size ≤ q) g [] 4 0 0 18 zLM [] hB1 := by
    intro ls sv H locs ⟨ws, lv, hh, hl, hLs, hF, hP, hD, hS⟩
    have := K18 ls sv H locs ⟨ws, lv, zHr_q hq hh, hl, hLs, hF, hP, hD, hS⟩
    rw [hcnt.1, hcnt.2] at this
    exact this
  have go := fun {ins : Instr} {len r1 pc : Nat} {r2 : Int} {al al' : zL} {st st' : List zA} {h h' : zH} (hm : (pc, ins, len, r1, r2) ∈ zlaw) (hs : zsel pc r1 r2 ins [] false al st h = .inl (al', st', h')) (q1 : h'.1.1 ≤ 600000) (q2 : h'.1.2 ≤ 7302250) (k : zWn p l e room_1 s m #[Value.ref b] below meth c (lw_Z below #[Value.ref b] s) D kk (fun q : Nat => s.heap.size ≤ q) g [] 4 0 0 (pc + len) al' st' h') => (zgo_ok hC hE0 (zlw_ok _ hm).2 (zlw_ok _ hm).1 (by decide) (by decide) (Nat.zero_le _) (Nat.zero_le _) (by show h'.1.1 - 0 ≤ 600000; omega) (by show h'.1.2 - 0 ≤ 7302250; omega) hs k : zWn p l e room_1 s m #[Value.ref b] below meth c (lw_Z below #[Value.ref b] s) D kk (fun q : Nat => s.heap.size ≤ q) g [] 4 0 0 pc al st h)
  have cl := fun {ins : Instr} {len r1 pc j : Nat} {r2 : Int} {al : zL} {st st' as : List zA} {h h1 : zH} (hm : (pc, ins, len, r1, r2) ∈ zlaw) (hs : zsel pc r1 r2 ins [] false al st h = .inr (.inr (.inl (j, as, st')))) (hc : zisc ins = true) (hsum : (st'.map zca).sum ≤ 8) (hco : zx [] 30 j as h = .inl (none, h1)) (mo : h.1.1 ≤ h1.1.1 ∧ h.1.2 ≤ h1.1.2) (q1 : h1.1.1 ≤ 600000) (q2 : h1.1.2 ≤ 7302250) (k : zWn p l e room_1 s m #[Value.ref b] below meth c (lw_Z below #[Value.ref b] s) D kk (fun q : Nat => s.heap.size ≤ q) g [] 4 0 0 (pc + len) al st' h1) => (zcall_ok (d := 30) hC (fun j M h => (zma j M h).1) (fun j M h => (zma j M h).2.1) (zlw_ok _ hm).2 (zlw_ok _ hm).1 hc hs hsum (hx0 30 _ _ _ _ _ hco) mo.1 mo.2 (by decide) (by decide) (Nat.zero_le _) (Nat.zero_le _) (by show h1.1.1 - 0 ≤ 600000; omega) (by show h1.1.2 - 0 ≤ 7302250; omega) k : zWn p l e room_1 s m #[Value.ref b] below meth c (lw_Z below #[Value.ref b] s) D kk (fun q : Nat => s.heap.size ≤ q) g [] 4 0 0 pc al st h)
  have K0 : zWn p l e room_1 s m #[Value.ref b] below meth c (lw_Z below #[Value.ref b] s) D kk (fun q : Nat => s.heap.size ≤ q) g [] 4 0 0 0 [(0, zpx 0)] [] ((0, 0), [], []) := by
    refine go (show ((0, .new 7, 3, 9, 0) : zI) ∈ zlaw from List.mem_of_getElem? (i := 0) rfl) (show zsel 0 9 0 (.new 7) [] false [(0, zpx 0)] [] ((0, 0), [], []) = Sum.inl ([(0, zpx 0)], [zrf 0], zf1) from rfl) (by decide) (by decide) ?_
    refine go (show ((3, .dup, 1, 0, 0) : zI) ∈ zlaw from List.mem_of_getElem? (i := 1) rfl) (show zsel 3 0 0 (.dup) [] false [(0, zpx 0)] [zrf 0] zf1 = Sum.inl ([(0, zpx 0)], [zrf 0, zrf 0], zf1) from rfl) (by decide) (by decide) ?_
    refine cl (show ((4, .invokespecial 9, 3, 9, 0) : zI) ∈ zlaw from List.mem_of_getElem? (i := 2) rfl) (show zsel 4 9 0 (.invokespecial 9) [] false [(0, zpx 0)] [zrf 0, zrf 0] zf1 = Sum.inr (Sum.inr (Sum.inl (9, [zrf 0], [zrf 0]))) from rfl) rfl (by decide) e1 mm1 (by omega) (by omega) ?_
    refine go (show ((7, .astore_n 1, 1, 0, 0) : zI) ∈ zlaw from List.mem_of_getElem? (i := 3) rfl) (show zsel 7 0 0 (.astore_n 1) [] false [(0, zpx 0)] [zrf 0] hA1 = Sum.inl ([(1, zrf 0), (0, zpx 0)], [], hA1) from rfl) (by omega) (by omega) ?_
    refine go (show ((8, .new 10, 3, 10, 0) : zI) ∈ zlaw from List.mem_of_getElem? (i := 4) rfl) (show zsel 8 10 0 (.new 10) [] false [(1, zrf 0), (0, zpx 0)] [] hA1 = Sum.inl ([(1, zrf 0), (0, zpx 0)], [zrf 170], zf2 hA1) from (by rw [← e170]; rfl)) (by show hA1.1.1 + 1 ≤ _; omega) (by show hA1.1.2 + 51 ≤ _; omega) ?_
    refine go (show ((11, .dup, 1, 0, 0) : zI) ∈ zlaw from List.mem_of_getElem? (i := 5) rfl) (show zsel 11 0 0 (.dup) [] false [(1, zrf 0), (0, zpx 0)] [zrf 170] (zf2 hA1) = Sum.inl ([(1, zrf 0), (0, zpx 0)], [zrf 170, zrf 170], zf2 hA1) from rfl) (by show hA1.1.1 + 1 ≤ _; omega) (by show hA1.1.2 + 51 ≤ _; omega) ?_
    refine cl (show ((12, .invokespecial 12, 3, 10, 0) : zI) ∈ zlaw from List.mem_of_getElem? (i := 6) rfl) (show zsel 12 10 0 (.invokespecial 12) [] false [(1, zrf 0), (0, zpx 0)] [zrf 170, zrf 170] (zf2 hA1) = Sum.inr (Sum.inr (Sum.inl (10, [zrf 170], [zrf 170]))) from rfl) rfl (by decide) e2 mm2 hb1 hb2 ?_
    refine go (show ((15, .astore_n 2, 1, 0, 0) : zI) ∈ zlaw from List.mem_of_getElem? (i := 7) rfl) (show zsel 15 0 0 (.astore_n 2) [] false [(1, zrf 0), (0, zpx 0)] [zrf 170] hB1 = Sum.inl ([(2, zrf 170), (1, zrf 0), (0, zpx 0)], [], hB1) from rfl) hb1 hb2 ?_
    refine go (show ((16, .iconst 0, 1, 0, 0) : zI) ∈ zlaw from List.mem_of_getElem? (i := 8) rfl) (show zsel 16 0 0 (.iconst 0) [] false [(2, zrf 170), (1, zrf 0), (0, zpx 0)] [] hB1 = Sum.inl ([(2, zrf 170), (1, zrf 0), (0, zpx 0)], [zk 0], hB1) from rfl) hb1 hb2 ?_
    refine go (show ((17, .istore_n 3, 1, 0, 0) : zI) ∈ zlaw from List.mem_of_getElem? (i := 9) rfl) (show zsel 17 0 0 (.istore_n 3) [] false [(2, zrf 170), (1, zrf 0), (0, zpx 0)] [zk 0] hB1 = Sum.inl (zLM, [], hB1) from rfl) hb1 hb2 ?_
    exact K18b
  have hl := lv_entry ([.ref b]) (n := 4) (Nat.le_of_ble_eq_true rfl)
  rw [lg_entry_eq]
  generalize (lg_sl ([.ref b]) ++ List.replicate (4 - (lg_sl ([.ref b])).length) Slot.unset).toArray = ls at hl ⊢
  exact K0 ls [] s.heap [] ⟨[], [(0, .ref b)], ⟨⟨rfl, [], rfl⟩, fun i c9 h9 => (by cases h9)⟩, hl, ⟨⟨rfl, (by show _ = _; rw [hg1])⟩, trivial⟩, trivial, fun k q h => (by cases h), ⟨fun i j p q h => (by cases h), fun k q h => (by cases h)⟩, va_S.rf⟩
