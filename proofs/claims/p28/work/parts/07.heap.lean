section ZJ
variable {p : Program} {l : Launch} {e : Env} {R : Room} {s : State} {m : MethodId} {args : Array Value} {below : List Frame} {meth : Method} {c : Code} {Q : State → Prop} {D : va_G} {kk : Nat → ClassId} {A : Nat → Prop} {g : zG} {ad0 : List Nat} {nL n0 m0 : Nat} {cc : ByteArray} {own : String} {ini top : Bool} {E : zE} {pc : Nat} {al al' : zL} {st st' : List zA} {h h' : zH}
theorem zgj_ok {off : Int} {r1 : Nat} {r2 : Int} {t j : Nat} {b : Bool} {st0 : List zA} (e1 : zgj pc off r1 r2 st0 = .inr (.inl (t, b, j, st'))) : (pc : Int) + off = (t : Int) ∧ st' = st0 := by
  unfold zgj at e1
  split at e1
  · rename_i t0 ht
    cases e1
    exact ⟨ht, rfl⟩
  · cases e1
theorem zgj_no {off : Int} {r1 : Nat} {r2 : Int} {st0 : List zA} (e1 : zgj pc off r1 r2 st0 = .inl (al', st', h')) : False := by
  unfold zgj at e1
  split at e1 <;> cases e1
theorem zbr_t {off : Int} {r1 : Nat} {r2 : Int} {t j : Nat} {b : Bool} {st0 : List zA} {r : Bool ⊕ (Nat × Int)} (e1 : zbr pc off r1 r2 al st0 h r = .inr (.inl (t, b, j, st'))) : r = .inl true ∧ (pc : Int) + off = (t : Int) ∧ st' = st0 := by
  unfold zbr at e1
  split at e1
  · exact ⟨rfl, zgj_ok e1⟩
  · cases e1
  · cases e1
theorem zbr_f {off : Int} {r1 : Nat} {r2 : Int} {st0 : List zA} {r : Bool ⊕ (Nat × Int)} (e1 : zbr pc off r1 r2 al st0 h r = .inl (al', st', h')) : r = .inl false ∧ al' = al ∧ st' = st0 ∧ h' = h := by
  unfold zbr at e1
  split at e1
  · exact (zgj_no e1).elim
  · cases e1
    exact ⟨rfl, rfl, rfl, rfl⟩
  · cases e1
theorem zi_icmp {H : Heap} {locs : List Loc} {cells slots : Nat} {ls : Array Slot} {rest : List Value} (hx : p.tables.exec = Jvm.exec) (hb : c.code = cc) {k : Jvm.ClassFile.Cond} {x y : Int32} {off : Int} {t : Nat} (hd : decode cc pc = .ok (.if_icmp k off, 3)) (ht : (pc : Int) + off = (t : Int)) (kt : zrel k x y → W p l e R s m args below meth c H locs cells slots Q (F0 m t ls rest)) (kf : ¬ zrel k x y → W p l e R s m args below meth c H locs cells slots Q (F0 m (pc + 3) ls rest)) : W p l e R s m args below meth c H locs cells slots Q (F0 m pc ls (.int y :: .int x :: rest)) := by
  cases k with
  | eq => exact lv_icmp_eq hx hb hd ht kt kf
  | ne => exact lv_icmp_ne hx hb hd ht kt (fun q => kf (fun w => w q))
  | lt => exact lv_icmp_lt hx hb hd ht kt kf
  | ge => exact lv_icmp_ge hx hb hd ht kt kf
  | gt => exact lv_icmp_gt hx hb hd ht kt kf
  | le => exact lv_icmp_le hx hb hd ht kt kf
theorem zi_if {H : Heap} {locs : List Loc} {cells slots : Nat} {ls : Array Slot} {rest : List Value} (hx : p.tables.exec = Jvm.exec) (hb : c.code = cc) {k : Jvm.ClassFile.Cond} {x : Int32} {off : Int} {t : Nat} (hd : decode cc pc = .ok (.ifCond k off, 3)) (ht : (pc : Int) + off = (t : Int)) (kt : zrel k x 0 → W p l e R s m args below meth c H locs cells slots Q (F0 m t ls rest)) (kf : ¬ zrel k x 0 → W p l e R s m args below meth c H locs cells slots Q (F0 m (pc + 3) ls rest)) : W p l e R s m args below meth c H locs cells slots Q (F0 m pc ls (.int x :: rest)) := by
  cases k with
  | eq => exact lv_if_eq hx hb hd ht kt kf
  | ne => exact lv_if_ne hx hb hd ht kt (fun q => kf (fun w => w q))
  | lt => exact lv_if_lt hx hb hd ht kt kf
  | ge => exact lv_if_ge hx hb hd ht kt kf
  | gt => exact lv_if_gt hx hb hd ht kt kf
  | le => exact lv_if_le hx hb hd ht kt kf
theorem zj_goto (hC : zCx p s m args meth c cc nL own D kk A g ini top) (hE : zEv g E) {off : Int} {r1 : Nat} {r2 : Int} (hd : decode cc pc = .ok (.goto off, 3)) {t j : Nat} {b : Bool} (hs : zs_goto pc off r1 r2 E top al st h = .inr (.inl (t, b, j, st'))) (k : zWn p l e R s m args below meth c Q D kk A g ad0 nL n0 m0 t al st' h) : zWn p l e R s m args below meth c Q D kk A g ad0 nL n0 m0 pc al st h := by
  obtain ⟨ht, rfl⟩ := zgj_ok hs
  intro ls sv H locs hst
  exact lv_goto hC.1 hC.2.1 hd ht (k ls sv H locs hst)
theorem zj_icmp (hC : zCx p s m args meth c cc nL own D kk A g ini top) (hE : zEv g E) {q : Jvm.ClassFile.Cond} {off : Int} {r1 : Nat} {r2 : Int} (hd : decode cc pc = .ok (.if_icmp q off, 3)) {t j : Nat} {b : Bool} (hs : zs_icmp q pc off r1 r2 E top al st h = .inr (.inl (t, b, j, st'))) (k : zWn p l e R s m args below meth c Q D kk A g ad0 nL n0 m0 t al st' h) : zWn p l e R s m args below meth c Q D kk A g ad0 nL n0 m0 pc al st h := by
  unfold zs_icmp at hs
  split at hs
  · rename_i b0 a0 st0
    obtain ⟨hr, ht, rfl⟩ := zbr_t hs
    intro ls sv H locs ⟨ws, lv, hh, hl, hL, hF, hP, hD, hS⟩
    obtain ⟨w, vs, rfl, hV2, hF1⟩ := zVs_cons hF
    obtain ⟨v, vs, rfl, hV, hF2⟩ := zVs_cons hF1
    obtain ⟨x, y, rfl, rfl, hc⟩ := zcm_ok hE hr hV hV2
    exact zi_icmp hC.1 hC.2.1 hd ht (fun _ => k ls _ H locs ⟨ws, lv, hh, hl, hL, hF2, hP, hD, hS⟩) (fun hn => absurd (hc.mp rfl) hn)
  · cases hs
theorem zj_if (hC : zCx p s m args meth c cc nL own D kk A g ini top) (hE : zEv g E) {q : Jvm.ClassFile.Cond} {off : Int} {r1 : Nat} {r2 : Int} (hd : decode cc pc = .ok (.ifCond q off, 3)) {t j : Nat} {b : Bool} (hs : zs_if q pc off r1 r2 E top al st h = .inr (.inl (t, b, j, st'))) (k : zWn p l e R s m args below meth c Q D kk A g ad0 nL n0 m0 t al st' h) : zWn p l e R s m args below meth c Q D kk A g ad0 nL n0 m0 pc al st h := by
  unfold zs_if at hs
  split at hs
  · rename_i a0 st0
    obtain ⟨hr, ht, rfl⟩ := zbr_t hs
    intro ls sv H locs ⟨ws, lv, hh, hl, hL, hF, hP, hD, hS⟩
    obtain ⟨v, vs, rfl, hV, hF1⟩ := zVs_cons hF
    obtain ⟨x, y, rfl, e2, hc⟩ := zcm_ok hE hr hV (zV_k (x := 0) rfl)
    cases e2
    exact zi_if hC.1 hC.2.1 hd ht (fun _ => k ls _ H locs ⟨ws, lv, hh, hl, hL, hF1, hP, hD, hS⟩) (fun hn => absurd (hc.mp rfl) hn)
  · cases hs
theorem zh_icmp (hC : zCx p s m args meth c cc nL own D kk A g ini top) (hE : zEv g E) {q : Jvm.ClassFile.Cond} {off : Int} {r1 : Nat} {r2 : Int} {t : Nat} (ht : (pc : Int) + off = (t : Int)) (hd : decode cc pc = .ok (.if_icmp q off, 3)) (hs : zs_icmp q pc off r1 r2 E top al st h = .inl (al', st', h')) (k : zWn p l e R s m args below meth c Q D kk A g ad0 nL n0 m0 (pc + 3) al' st' h') : zWn p l e R s m args below meth c Q D kk A g ad0 nL n0 m0 pc al st h := by
  unfold zs_icmp at hs
  split at hs
  · rename_i b0 a0 st0
    obtain ⟨hr, rfl, rfl, rfl⟩ := zbr_f hs
    intro ls sv H locs ⟨ws, lv, hh, hl, hL, hF, hP, hD, hS⟩
    obtain ⟨w, vs, rfl, hV2, hF1⟩ := zVs_cons hF
    obtain ⟨v, vs, rfl, hV, hF2⟩ := zVs_cons hF1
    obtain ⟨x, y, rfl, rfl, hc⟩ := zcm_ok hE hr hV hV2
    exact zi_icmp hC.1 hC.2.1 hd ht (fun hn => absurd (hc.mpr hn) (by decide)) (fun _ => k ls _ H locs ⟨ws, lv, hh, hl, hL, hF2, hP, hD, hS⟩)
  · cases hs
theorem zh_if (hC : zCx p s m args meth c cc nL own D kk A g ini top) (hE : zEv g E) {q : Jvm.ClassFile.Cond} {off : Int} {r1 : Nat} {r2 : Int} {t : Nat} (ht : (pc : Int) + off = (t : Int)) (hd : decode cc pc = .ok (.ifCond q off, 3)) (hs : zs_if q pc off r1 r2 E top al st h = .inl (al', st', h')) (k : zWn p l e R s m args below meth c Q D kk A g ad0 nL n0 m0 (pc + 3) al' st' h') : zWn p l e R s m args below meth c Q D kk A g ad0 nL n0 m0 pc al st h := by
  unfold zs_if at hs
  split at hs
  · rename_i a0 st0
    obtain ⟨hr, rfl, rfl, rfl⟩ := zbr_f hs
    intro ls sv H locs ⟨ws, lv, hh, hl, hL, hF, hP, hD, hS⟩
    obtain ⟨v, vs, rfl, hV, hF1⟩ := zVs_cons hF
    obtain ⟨x, y, rfl, e2, hc⟩ := zcm_ok hE hr hV (zV_k (x := 0) rfl)
    cases e2
    exact zi_if hC.1 hC.2.1 hd ht (fun hn => absurd (hc.mpr hn) (by decide)) (fun _ => k ls _ H locs ⟨ws, lv, hh, hl, hL, hF1, hP, hD, hS⟩)
  · cases hs
theorem zj_table (hC : zCx p s m args meth c cc nL own D kk A g ini top) (hE : zEv g E) {df lo hi : Int} {offs : Array Int} {len : Nat} (hd : decode cc pc = .ok (.tableswitch df lo hi offs, len)) {t j : Nat} {b : Bool} (hs : zs_table pc df lo hi offs E top al st h = .inr (.inl (t, b, j, st'))) (k : zWn p l e R s m args below meth c Q D kk A g ad0 nL n0 m0 t al st' h) : zWn p l e R s m args below meth c Q D kk A g ad0 nL n0 m0 pc al st h := by
  unfold zs_table at hs
  split at hs
  · rename_i a0 st0
    split at hs
    · rename_i q hq
      cases h1 : (zlt q.2 lo || zlt hi q.1) with
      | true =>
        rw [h1] at hs
        obtain ⟨ht, rfl⟩ := zgj_ok hs
        simp only [Bool.or_eq_true, zlt_iff] at h1
        intro ls sv H locs ⟨ws, lv, hh, hl, hL, hF, hP, hD, hS⟩
        obtain ⟨v, vs, rfl, hV, hF1⟩ := zVs_cons hF
        obtain ⟨x, rfl, h2, h3⟩ := zV_iv hE hq hV
        exact lv_tableOut hC.1 hC.2.1 hd (by omega) ht (k ls _ H locs ⟨ws, lv, hh, hl, hL, hF1, hP, hD, hS⟩)
      | false =>
        rw [h1] at hs
        simp only [Bool.or_eq_false_iff] at h1
        cases h4 : zeq q.1 q.2 with
        | true =>
          rw [h4] at hs
          have hs : (match offs[(q.1 - lo).toNat]? with | some off => zgj pc off 1 0 st0 | none => zno (943, 0)) = .inr (.inl (t, b, j, st')) := hs
          split at hs
          · rename_i off ho
            obtain ⟨ht, rfl⟩ := zgj_ok hs
            intro ls sv H locs ⟨ws, lv, hh, hl, hL, hF, hP, hD, hS⟩
            obtain ⟨v, vs, rfl, hV, hF1⟩ := zVs_cons hF
            obtain ⟨x, rfl, h2, h3⟩ := zV_iv hE hq hV
            have e4 := zeq_iff.mp h4
            have n1 : ¬ q.2 < lo := fun w => by rw [zlt_iff.mpr w] at h1; cases h1.1
            have n2 : ¬ hi < q.1 := fun w => by rw [zlt_iff.mpr w] at h1; cases h1.2
            have ex : x.toInt = q.1 := by omega
            exact lv_tableIn hC.1 hC.2.1 hd (by omega) (by omega) (by rw [ex]; exact ho) ht (k ls _ H locs ⟨ws, lv, hh, hl, hL, hF1, hP, hD, hS⟩)
          · cases hs
        | false =>
          rw [h4] at hs
          cases h5 : zlt q.1 lo with
          | true => rw [h5] at hs; cases hs
          | false =>
            rw [h5] at hs
            cases h6 : zlt hi q.2 with
            | true => rw [h6] at hs; cases hs
            | false => rw [h6] at hs; cases hs
    · cases hs
  · cases hs
end ZJ
section ZP
variable {p : Program} {l : Launch} {e : Env} {R : Room} {s : State} {m : MethodId} {args : Array Value} {below : List Frame} {meth : Method} {c : Code} {Q : State → Prop} {D : va_G} {kk : Nat → ClassId} {A : Nat → Prop} {g : zG} {ad0 : List Nat} {nL n0 m0 : Nat} {cc : ByteArray} {own : String} {ini top : Bool} {E : zE} {pc : Nat} {al al' : zL} {st st' : List zA} {h h' : zH}
/-- what is known of a class whose objects are made -/
def zCl (ci : Nat) (C : String) (T : u_T) (N : Nat) : Prop := vwCl[ci]? = some (C, T, N) ∧ N = zN ci ∧ (∀ w ∈ u_ws C T N, w ∈ zW) ∧ (∀ k, k < N → parseFieldDescriptor (T k).2.2.1 = some (zty ci k)) ∧ (∀ a, a < N → ∀ b, b < N → a ≠ b → (T a).2.1 ≠ (T b).2.1) ∧ Jvm.Cond.instantiable C N ∈ zW ∧ Jvm.Cond.initialized C ∈ zW
theorem zat {ws : va_W} {i q q' : Nat} {e0 : va_E} (h1 : (ws.map (·.1))[i]? = some q) (h2 : ws[i]? = some (q', e0)) : q' = q := by
  rw [List.getElem?_map, h2] at h1
  exact Option.some.inj h1
theorem zmap_set {ws : va_W} {i q : Nat} {e0 e1 : va_E} (h : ws[i]? = some (q, e0)) : (ws.set i (q, e1)).map (·.1) = ws.map (·.1) := by
  apply List.ext_getElem?
  intro j
  rw [List.getElem?_map, List.getElem?_map, List.getElem?_set]
  by_cases hj : i = j
  · subst hj
    have hlt := (List.getElem?_eq_some_iff.mp h).1
    rw [if_pos rfl, if_pos hlt, h]
    rfl
  · simp [hj]
theorem zHr_set {i q : Nat} {e0 e1 : va_E} {c1 : zC} {ws : va_W} (hh : zHr g kk ad0 h ws) (h1 : ws[i]? = some (q, e0)) (h2 : zCr g (ws.map (·.1)) kk c1 e1) : zHr g kk ad0 (zsc h i c1) (ws.set i (q, e1)) := by
  refine ⟨⟨by rw [List.length_set]; exact hh.1.1, by rw [zmap_set h1]; exact hh.1.2⟩, fun j c0 hj => ?_⟩
  rw [zmap_set h1]
  by_cases e : j = i
  · subst e
    have hj : zg (zu h.2 j c1) j = some c0 := hj
    rw [zg_same] at hj
    cases hj
    exact ⟨q, e1, by rw [List.getElem?_set]; simp [(List.getElem?_eq_some_iff.mp h1).1], h2⟩
  · have hj : zg (zu h.2 i c1) j = some c0 := hj
    rw [zg_ne _ _ e] at hj
    obtain ⟨q1, e2, h3, h4⟩ := hh.2 j c0 hj
    exact ⟨q1, e2, by rw [List.getElem?_set]; simp [Ne.symm e, h3], h4⟩
/-- the state behind a write into the cell i -/
theorem zSt_set {i q : Nat} {e0 e1 : va_E} {c1 : zC} {ws : va_W} {lv : List (Nat × Value)} {ls : Array Slot} {sv : List Value} {H1 : Heap} {locs1 : List Loc} (hh : zHr g kk ad0 h ws) (hl : lv_has ls nL lv) (hL : zLs g (ws.map (·.1)) al lv) (hF : zVs g (ws.map (·.1)) st sv) (h1 : ws[i]? = some (q, e0)) (h2 : zCr g (ws.map (·.1)) kk c1 e1) (hP : va_P D vwCl (ws.set i (q, e1)) H1) (hD : va_D A (ws.set i (q, e1))) (hS : va_S A s.heap H1 locs1) : zSt s D kk A g ad0 nL al st (zsc h i c1) ls sv H1 locs1 :=
  ⟨ws.set i (q, e1), lv, zHr_set hh h1 h2, hl, by rw [zmap_set h1]; exact hL, by rw [zmap_set h1]; exact hF, hP, hD, hS⟩
theorem zCr_grow (l : List Nat) {ad : List Nat} : ∀ {c0 : zC} {e0 : va_E}, zCr g ad kk c0 e0 → zCr g (ad ++ l) kk c0 e0
  | .inl (ci, fs), _, h => by
    obtain ⟨vs, h1, h2, h3⟩ := h
    exact ⟨vs, h1, h2, fun k a hk ha => by
      obtain ⟨v, h4, h5⟩ := h3 k a hk ha
      exact ⟨v, h4, zV_grow l h5⟩⟩
  | .inr (k, n, d, ov), _, h => by
    rcases h with ⟨h1, f, h2, h3⟩ | ⟨h1, f, h2, h3⟩ | ⟨h1, h1b, f, h2, h3⟩
    · exact Or.inl ⟨h1, f, h2, fun j hj => zV_grow l (h3 j hj)⟩
    · exact Or.inr (Or.inl ⟨h1, f, h2, fun j hj => zV_grow l (h3 j hj)⟩)
    · exact Or.inr (Or.inr ⟨h1, h1b, f, h2, fun j hj => zV_grow l (h3 j hj)⟩)
theorem zHr_push {q n : Nat} {e1 : va_E} {c1 : zC} {ws : va_W} (hh : zHr g kk ad0 h ws) (h2 : zCr g ((ws ++ [(q, e1)]).map (·.1)) kk c1 e1) : zHr g kk ad0 (zph h c1 n) (ws ++ [(q, e1)]) := by
  refine ⟨⟨by rw [List.length_append]; show ws.length + 1 = h.1.1 + 1; rw [hh.1.1], by obtain ⟨l0, e0⟩ := hh.1.2; exact ⟨l0 ++ [q], by rw [List.map_append, e0, List.append_assoc]; rfl⟩⟩, fun j c0 hj => ?_⟩
  have hj : zg (h.2.1, (h.1.1, c1) :: h.2.2) j = some c0 := hj
  by_cases e : j = h.1.1
  · have hj2 : zg (h.2.1, (h.1.1, c1) :: h.2.2) j = some c1 := by
      unfold zg
      simp only [zlk_cons, e, zbeq_self, cond_true]
    rw [hj2] at hj
    cases hj
    exact ⟨q, e1, by rw [e, ← hh.1.1, List.getElem?_append_right (Nat.le_refl _)]; simp, h2⟩
  · have hj2 : zg (h.2.1, (h.1.1, c1) :: h.2.2) j = zgt h j := by
      unfold zgt zg
      simp only [zlk_cons, zbeq_ne (Ne.symm e), cond_false]
    rw [hj2] at hj
    obtain ⟨q1, e2, h3, h4⟩ := hh.2 j c0 hj
    refine ⟨q1, e2, by rw [List.getElem?_append_left (List.getElem?_eq_some_iff.mp h3).1]; exact h3, ?_⟩
    rw [List.map_append]
    exact zCr_grow _ h4
theorem zh_getf (hC : zCx p s m args meth c cc nL own D kk A g ini top) (hE : zEv g E) {C : String} {T : u_T} {N i r1 r2 : Nat} (hcl : zCl r1 C T N) (hk : r2 < N) (hw : Jvm.Cond.fieldLink own i (T r2).1 (T r2).2.1 (T r2).2.2.1 ∈ zW) (hd : decode cc pc = .ok (.getfield i, 3)) (hs : zs_getf r1 r2 E top al st h = .inl (al', st', h')) (k : zWn p l e R s m args below meth c Q D kk A g ad0 nL n0 m0 (pc + 3) al' st' h') : zWn p l e R s m args below meth c Q D kk A g ad0 nL n0 m0 pc al st h := by
  unfold zs_getf at hs
  split at hs
  · rename_i o st0
    split at hs
    · rename_i ci fs hget
      cases hz : Nat.beq ci r1 with
      | false => rw [hz] at hs; cases hs
      | true =>
        rw [hz] at hs
        have hs : (match zg fs r2 with | some v => zgo al (v :: st0) h | none => zno (946, 0)) = .inl (al', st', h') := hs
        have ec := Nat.eq_of_beq_eq_true hz
        subst ec
        split at hs
        · rename_i a ha
          cases hs
          intro ls sv H locs ⟨ws, lv, hh, hl, hL, hF, hP, hD, hS⟩
          obtain ⟨v, vs, rfl, hV, hF1⟩ := zVs_cons hF
          obtain ⟨q, hq, rfl⟩ := hV
          obtain ⟨q1, e1, hw1, hc1⟩ := hh.2 _ _ hget
          cases zat hq hw1
          obtain ⟨vs1, rfl, hlen, hfs⟩ := hc1
          obtain ⟨v, hv1, hv2⟩ := hfs r2 a (by rw [← hcl.2.1]; exact hk) ha
          exact va_get (D := D) (ci := ci) (v := v) (C := C) (T := T) (N := N) hC.1 hC.2.1 hC.2.2.2.2.1 hcl.2.2.1 hC.2.2.2.1 hC.2.2.2.2.2.1 hP _ hw1 hcl.1 r2 hk (hC.2.2.2.2.1 _ hw) (fun _ h9 => h9) hv1 hd (k ls _ H locs ⟨ws, lv, hh, hl, hL, ⟨hv2, hF1⟩, hP, hD, hS⟩)
        · cases hs
    · cases hs
  · cases hs
theorem zfit_ok {ad : List Nat} {t : FieldType} {a : zA} {v : Value} (hf : zfit E t a = true) (hV : zV g ad a v) : narrow t v = v ∧ fits t v = true := by
  unfold zfit at hf
  split at hf
  · obtain ⟨x, rfl⟩ := zV_int hf hV
    exact ⟨rfl, rfl⟩
  · rename_i q
    obtain ⟨x, rfl, h1, h2⟩ := hV
    simp only [Bool.and_eq_true, zle_iff] at hf
    have hx : x = 0 ∨ x = 1 := by
      have e0 : (0 : Int32).toInt = 0 := rfl
      have e1 : (1 : Int32).toInt = 1 := rfl
      rcases (show x.toInt = 0 ∨ x.toInt = 1 by omega) with w | w
      · exact Or.inl ((fa_eq _ _).mpr (by rw [w, e0]))
      · exact Or.inr ((fa_eq _ _).mpr (by rw [w, e1]))
    rcases hx with rfl | rfl
    · exact ⟨by decide, by decide⟩
    · exact ⟨by decide, by decide⟩
  · obtain ⟨x, rfl, -⟩ := hV
    exact ⟨rfl, rfl⟩
  · obtain ⟨q, -, rfl⟩ := hV
    exact ⟨rfl, rfl⟩
  · obtain ⟨q, -, rfl⟩ := hV
    exact ⟨rfl, rfl⟩
  · cases hf
theorem zh_putf (hC : zCx p s m args meth c cc nL own D kk A g ini top) (hE : zEv g E) {C : String} {T : u_T} {N i r1 r2 : Nat} (hcl : zCl r1 C T N) (hk : r2 < N) (hw : Jvm.Cond.fieldLink own i (T r2).1 (T r2).2.1 (T r2).2.2.1 ∈ zW) (hfn : (T r2).2.2.2 = false ∨ ((T r2).2.2.2 = true ∧ ini = true ∧ (T r2).1 = own)) (hd : decode cc pc = .ok (.putfield i, 3)) (hs : zs_putf r1 r2 E top al st h = .inl (al', st', h')) (k : zWn p l e R s m args below meth c Q D kk A g ad0 nL n0 m0 (pc + 3) al' st' h') : zWn p l e R s m args below meth c Q D kk A g ad0 nL n0 m0 pc al st h := by
  unfold zs_putf at hs
  split at hs
  · rename_i a o st0
    split at hs
    · rename_i ci fs hget
      cases hz : (Nat.beq ci r1 && (zfit E (zty r1 r2) a && Nat.blt r2 (zN r1))) with
      | false => rw [hz] at hs; cases hs
      | true =>
        rw [hz] at hs
        cases hs
        simp only [Bool.and_eq_true] at hz
        have ec := Nat.eq_of_beq_eq_true hz.1
        subst ec
        intro ls sv H locs ⟨ws, lv, hh, hl, hL, hF, hP, hD, hS⟩
        obtain ⟨v, vs, rfl, hV2, hF1⟩ := zVs_cons hF
        obtain ⟨w, vs, rfl, hV, hF2⟩ := zVs_cons hF1
        obtain ⟨q, hq, rfl⟩ := hV
        obtain ⟨q1, e1, hw1, hc1⟩ := hh.2 _ _ hget
        cases zat hq hw1
        obtain ⟨vs1, rfl, hlen, hfs⟩ := hc1
        obtain ⟨f1, f2⟩ := zfit_ok hz.2.1 hV2
        have hl2 : r2 < vs1.length := by rw [hlen, ← hcl.2.1]; exact hk
        have hcr : zCr g (ws.map (·.1)) kk (.inl (ci, zu fs r2 a)) (.inr (ci, vs1.set r2 v)) := ⟨vs1.set r2 v, rfl, by rw [List.length_set]; exact hlen, fun k0 a0 hk0 ha0 => by
          by_cases e9 : k0 = r2
          · subst e9
            rw [zg_same] at ha0
            cases ha0
            exact ⟨v, by rw [List.getElem?_set]; simp [hl2], hV2⟩
          · rw [zg_ne _ _ e9] at ha0
            obtain ⟨v9, h8, h9⟩ := hfs k0 a0 hk0 ha0
            exact ⟨v9, by rw [List.getElem?_set]; simp [Ne.symm e9, h8], h9⟩⟩
        rcases hfn with hfn | ⟨hfn, hi, hown2⟩
        · exact va_put (D := D) (ci := ci) (v := v) (ty := zty ci r2) (C := C) (T := T) (N := N) hC.1 hC.2.1 hC.2.2.2.2.1 hcl.2.2.1 (zty ci) hcl.2.2.2.1 hcl.2.2.2.2.1 hC.2.2.2.1 hC.2.2.2.2.2.1 hP hD hS _ hw1 hcl.1 r2 hk (hC.2.2.2.2.1 _ hw) (fun _ h9 => h9) hfn (hcl.2.2.2.1 r2 hk) f1 f2 hl2 hd (fun H1 locs1 hP1 hD1 hS1 => k ls _ H1 locs1 (zSt_set hh hl hL hF2 hw1 hcr hP1 hD1 hS1))
        · exact va_putF (D := D) (ci := ci) (v := v) (ty := zty ci r2) (C := C) (T := T) (N := N) hC.1 hC.2.1 hC.2.2.2.2.1 hcl.2.2.1 (zty ci) hcl.2.2.2.1 hcl.2.2.2.2.1 hC.2.2.2.1 hC.2.2.2.2.2.1 hP hD hS _ hw1 hcl.1 r2 hk (hC.2.2.2.2.1 _ hw) (fun _ h9 => h9) hfn (hC.2.2.2.2.2.2.2.2.1 hi) hown2 (hcl.2.2.2.1 r2 hk) f1 f2 hl2 hd (fun H1 locs1 hP1 hD1 hS1 => k ls _ H1 locs1 (zSt_set hh hl hL hF2 hw1 hcr hP1 hD1 hS1))
    · cases hs
  · cases hs
theorem zag_set {ad : List Nat} {d a : zA} {ov : List (Nat × zA)} {n j : Nat} {V : Nat → Value} {v : Value} (h1 : ∀ i, i < n → zV g ad (zag d ov i) (V i)) (h2 : zV g ad a v) : ∀ i, i < n → zV g ad (zag d ((j, a) :: ov) i) (if i = j then v else V i) := by
  intro i hi
  rw [zag_cons]
  by_cases e9 : i = j
  · rw [if_pos e9, if_pos e9]
    exact h2
  · rw [if_neg e9, if_neg e9]
    exact h1 i hi
theorem zun_ok {d : zA} {l0 m1 : Nat} : ∀ {ov : List (Nat × zA)}, zun d l0 m1 ov = true → ∀ j, l0 ≤ j → j < l0 + m1 → zag d ov j = d
  | [], _, _, _, _ => rfl
  | q :: ov, hu, j, h1, h2 => by
    have hu : ((Nat.blt q.1 l0 || Nat.ble (l0 + m1) q.1 || zqA d q.2) && zun d l0 m1 ov) = true := hu
    rw [Bool.and_eq_true] at hu
    have ih := zun_ok hu.2 j h1 h2
    obtain ⟨i, a⟩ := q
    rw [zag_cons]
    by_cases e9 : j = i
    · rw [if_pos e9]
      subst e9
      have h3 := hu.1
      rw [Bool.or_eq_true, Bool.or_eq_true] at h3
      rcases h3 with (h3 | h3) | h3
      · have := Nat.le_of_ble_eq_true h3
        have : j < l0 := this
        omega
      · have := Nat.le_of_ble_eq_true h3
        have : l0 + m1 ≤ j := this
        omega
      · exact (zqA_eq h3).symm
    · rw [if_neg e9]
      exact ih
theorem zal_ok {a d : zA} {ov : List (Nat × zA)} {l0 : Nat} : ∀ {m1 : Nat}, zal a d ov l0 m1 = true → ∀ j, l0 ≤ j → j < l0 + m1 → zag d ov j = a
  | 0, _, j, h1, h2 => by omega
  | m1 + 1, hu, j, h1, h2 => by
    have hu : (zqA a (zag d ov (l0 + m1)) && zal a d ov l0 m1) = true := hu
    rw [Bool.and_eq_true] at hu
    by_cases e9 : j = l0 + m1
    · rw [e9]
      exact (zqA_eq hu.1).symm
    · exact zal_ok hu.2 j h1 (by omega)
/-- a read of an array: the place, and what is there -/
theorem zld_ok {ad : List Nat} {ks : Nat → Bool} {i a : zA} {r : Nat} {v : Value} (hE : zEv g E) (hr : zld E h ks i r = .inl a) (hV : zV g ad i v) : ∃ k n d ov x j, zgt h r = some (.inr (k, n, d, ov)) ∧ ks k = true ∧ v = .int x ∧ x.toInt = ((j : Nat) : Int) ∧ j < n ∧ zag d ov j = a := by
  unfold zld at hr
  split at hr
  · rename_i k n d ov hget
    cases hz : ks k with
    | false => rw [hz] at hr; cases hr
    | true =>
      rw [hz] at hr
      have hr : (match zix E i n with
        | .inl j => .inl (zag d ov j)
        | .inr q => match zir E i n with
          | some (l, m) => bif zun d l m ov then .inl d else bif zal (zag d ov l) d ov l m then .inl (zag d ov l) else .inr q
          | none => .inr q) = (.inl a : zA ⊕ (Nat × Int)) := hr
      split at hr
      · rename_i j hj
        cases hr
        obtain ⟨x, rfl, h1, h2⟩ := zix_ok hE hj hV
        exact ⟨k, n, d, ov, x, j, hget, hz, rfl, h1, h2, rfl⟩
      · rename_i q hq
        split at hr
        · rename_i l0 m1 hlm
          cases hu : zun d l0 m1 ov with
          | false =>
            rw [hu] at hr
            replace hr : (bif zal (zag d ov l0) d ov l0 m1 then .inl (zag d ov l0) else .inr q) = (.inl a : zA ⊕ (Nat × Int)) := hr
            cases hu2 : zal (zag d ov l0) d ov l0 m1 with
            | false => rw [hu2] at hr; cases hr
            | true =>
              rw [hu2] at hr
              cases hr
              obtain ⟨x, j, rfl, h1, h2, h3, h4⟩ := zir_ok hE hlm hV
              exact ⟨k, n, _, ov, x, j, hget, hz, rfl, h1, h2, zal_ok hu2 j h3 h4⟩
          | true =>
            rw [hu] at hr
            cases hr
            obtain ⟨x, j, rfl, h1, h2, h3, h4⟩ := zir_ok hE hlm hV
            exact ⟨k, n, _, ov, x, j, hget, hz, rfl, h1, h2, zun_ok hu j h3 h4⟩
        · cases hr
  · cases hr
theorem zh_baload (hC : zCx p s m args meth c cc nL own D kk A g ini top) (hE : zEv g E)  (hd : decode cc pc = .ok (.baload, 1)) (hs : zs_xald (fun k => Nat.beq k 1 || Nat.beq k 3) E top al st h = .inl (al', st', h')) (k : zWn p l e R s m args below meth c Q D kk A g ad0 nL n0 m0 (pc + 1) al' st' h') : zWn p l e R s m args below meth c Q D kk A g ad0 nL n0 m0 pc al st h := by
  unfold zs_xald at hs
  split at hs
  · rename_i i0 r0 st0
    unfold zpu at hs
    split at hs
    · rename_i a0 hr
      cases hs
      intro ls sv H locs ⟨ws, lv, hh, hl, hL, hF, hP, hD, hS⟩
      obtain ⟨w, vs, rfl, hVi, hF1⟩ := zVs_cons hF
      obtain ⟨w2, vs, rfl, hVr, hF2⟩ := zVs_cons hF1
      obtain ⟨q, hq, rfl⟩ := hVr
      obtain ⟨k9, n9, d9, ov9, x, j9, hget, hks, rfl, hx, hj, ha⟩ := zld_ok hE hr hVi
      obtain ⟨q1, e1, hw1, hc1⟩ := hh.2 _ _ hget
      cases zat hq hw1
      subst ha
      rw [Bool.or_eq_true] at hks
      rcases hc1 with ⟨h1, f, rfl, hf⟩ | ⟨h1, f, rfl, hf⟩ | ⟨h1, h1b, f, rfl, hf⟩
      · rcases hks with h9 | h9
        · have e9 : k9 = 1 := Nat.eq_of_beq_eq_true h9
          subst e9
          exact va_bald hC.1 hC.2.1 hC.2.2.2.2.2.1 hP _ 1 hw1 rfl (zvin hx hj) hd (k ls _ H locs ⟨ws, lv, hh, hl, hL, ⟨by rw [zclamp hx]; exact hf _ hj, hF2⟩, hP, hD, hS⟩)
        · have e9 : k9 = 3 := Nat.eq_of_beq_eq_true h9
          subst e9
          exact va_zald hC.1 hC.2.1 hC.2.2.2.2.2.1 hP _ 3 hw1 rfl (zvin hx hj) hd (k ls _ H locs ⟨ws, lv, hh, hl, hL, ⟨by rw [zclamp hx]; exact hf _ hj, hF2⟩, hP, hD, hS⟩)
      · rcases hks with h9 | h9
        · have e9 : k9 = 1 := Nat.eq_of_beq_eq_true h9
          omega
        · have e9 : k9 = 3 := Nat.eq_of_beq_eq_true h9
          omega
      · rcases hks with h9 | h9
        · have e9 : k9 = 1 := Nat.eq_of_beq_eq_true h9
          omega
        · have e9 : k9 = 3 := Nat.eq_of_beq_eq_true h9
          omega
    · cases hs
  · cases hs
theorem zh_caload (hC : zCx p s m args meth c cc nL own D kk A g ini top) (hE : zEv g E)  (hd : decode cc pc = .ok (.caload, 1)) (hs : zs_xald (fun k => Nat.beq k 2) E top al st h = .inl (al', st', h')) (k : zWn p l e R s m args below meth c Q D kk A g ad0 nL n0 m0 (pc + 1) al' st' h') : zWn p l e R s m args below meth c Q D kk A g ad0 nL n0 m0 pc al st h := by
  unfold zs_xald at hs
  split at hs
  · rename_i i0 r0 st0
    unfold zpu at hs
    split at hs
    · rename_i a0 hr
      cases hs
      intro ls sv H locs ⟨ws, lv, hh, hl, hL, hF, hP, hD, hS⟩
      obtain ⟨w, vs, rfl, hVi, hF1⟩ := zVs_cons hF
      obtain ⟨w2, vs, rfl, hVr, hF2⟩ := zVs_cons hF1
      obtain ⟨q, hq, rfl⟩ := hVr
      obtain ⟨k9, n9, d9, ov9, x, j9, hget, hks, rfl, hx, hj, ha⟩ := zld_ok hE hr hVi
      obtain ⟨q1, e1, hw1, hc1⟩ := hh.2 _ _ hget
      cases zat hq hw1
      subst ha
      have e9 : k9 = 2 := Nat.eq_of_beq_eq_true hks
      subst e9
      rcases hc1 with ⟨h1, f, rfl, hf⟩ | ⟨h1, f, rfl, hf⟩ | ⟨h1, h1b, f, rfl, hf⟩
      · exact va_cald hC.1 hC.2.1 hC.2.2.2.2.2.1 hP _ 2 hw1 rfl (zvin hx hj) hd (k ls _ H locs ⟨ws, lv, hh, hl, hL, ⟨by rw [zclamp hx]; exact hf _ hj, hF2⟩, hP, hD, hS⟩)
      · omega
      · omega
    · cases hs
  · cases hs
/-- a read of an array of references of any kind -/
theorem za_ald {ws : va_W} {H : Heap} {locs : List Loc} {cells slots : Nat} {ls : Array Slot} {rest : List Value} {a : Nat} {cA : ClassId} {ty : FieldType} {n : Nat} {f : Nat → Option Nat} (hx : p.tables.exec = Jvm.exec) (hb : c.code = cc) (hAr : ArrOfT s cA ty) (hrt : ty.isReference = true) (hP : va_P D vwCl ws H) (q0 : Nat) (ha : ws[q0]? = some (a, .inl (cA, n, .inr (.inr (.inr (.inr f)))))) {i : Int32} (hin : vp_in i n) (hd : decode cc pc = .ok (.aaload, 1))
    (kw : W p l e R s m args below meth c H locs cells slots Q (F0 m (pc + 1) ls (va_rf (f i.toNatClampNeg) :: rest))) : W p l e R s m args below meth c H locs cells slots Q (F0 m pc ls (.int i :: .ref a :: rest)) := by
  have hlt : i.toNatClampNeg < n := Nat.not_le.mp fun q => hin (Or.inr q)
  exact W.aald (v := va_rf (f i.toNatClampNeg)) (ty := ty) hx hb (hP q0 _ ha) (hAr n (fun j => va_rf (f j))) hrt (fun q => by cases q) (by show ¬ (i < 0 ∨ (arrV _ _ _).slots.size ≤ _); rw [arrV_size]; exact hin) (by show (arrV _ _ _).slots[_]? = _; rw [arrV_read _ _ hlt]) rfl rfl hd kw
theorem zh_aaload (hC : zCx p s m args meth c cc nL own D kk A g ini top) (hE : zEv g E)  (hd : decode cc pc = .ok (.aaload, 1)) (hs : zs_xald (fun k => Nat.ble 5 k && Nat.ble k 7) E top al st h = .inl (al', st', h')) (k : zWn p l e R s m args below meth c Q D kk A g ad0 nL n0 m0 (pc + 1) al' st' h') : zWn p l e R s m args below meth c Q D kk A g ad0 nL n0 m0 pc al st h := by
  unfold zs_xald at hs
  split at hs
  · rename_i i0 r0 st0
    unfold zpu at hs
    split at hs
    · rename_i a0 hr
      cases hs
      intro ls sv H locs ⟨ws, lv, hh, hl, hL, hF, hP, hD, hS⟩
      obtain ⟨w, vs, rfl, hVi, hF1⟩ := zVs_cons hF
      obtain ⟨w2, vs, rfl, hVr, hF2⟩ := zVs_cons hF1
      obtain ⟨q, hq, rfl⟩ := hVr
      obtain ⟨k9, n9, d9, ov9, x, j9, hget, hks, rfl, hx, hj, ha⟩ := zld_ok hE hr hVi
      obtain ⟨q1, e1, hw1, hc1⟩ := hh.2 _ _ hget
      cases zat hq hw1
      subst ha
      rw [Bool.and_eq_true] at hks
      have h9 : 5 ≤ k9 := Nat.le_of_ble_eq_true hks.1
      have h8 : k9 ≤ 7 := Nat.le_of_ble_eq_true hks.2
      rcases hc1 with ⟨h1, f, rfl, hf⟩ | ⟨h1, f, rfl, hf⟩ | ⟨h1, h1b, f, rfl, hf⟩
      · omega
      · omega
      · obtain ⟨ty, hAr, hrt⟩ : ∃ ty : FieldType, ArrOfT s (kk k9) ty ∧ ty.isReference = true := by
          rcases (show k9 = 5 ∨ k9 = 6 ∨ k9 = 7 by omega) with rfl | rfl | rfl
          · exact ⟨_, (hC.2.2.2.2.2.1.2 5 _ rfl).1, rfl⟩
          · exact ⟨_, (hC.2.2.2.2.2.1.2 6 _ rfl).1, rfl⟩
          · exact ⟨_, (hC.2.2.2.2.2.1.2 7 _ rfl).1, rfl⟩
        exact za_ald hC.1 hC.2.1 hAr hrt hP _ hw1 (zvin hx hj) hd (k ls _ H locs ⟨ws, lv, hh, hl, hL, ⟨by rw [zclamp hx]; exact hf _ hj, hF2⟩, hP, hD, hS⟩)
    · cases hs
  · cases hs
theorem ztb_rng (k : Nat) (hk : k = 0 ∨ k = 1) {j : Nat} (hj : j < 8) : (Int32.ofInt ((ztb k).getD j 0)).toInt = (ztb k).getD j 0 := by
  rcases hk with rfl | rfl
  · rcases (show j = 0 ∨ j = 1 ∨ j = 2 ∨ j = 3 ∨ j = 4 ∨ j = 5 ∨ j = 6 ∨ j = 7 by omega) with rfl | rfl | rfl | rfl | rfl | rfl | rfl | rfl <;> rfl
  · rcases (show j = 0 ∨ j = 1 ∨ j = 2 ∨ j = 3 ∨ j = 4 ∨ j = 5 ∨ j = 6 ∨ j = 7 by omega) with rfl | rfl | rfl | rfl | rfl | rfl | rfl | rfl <;> rfl
theorem zh_iaload (hC : zCx p s m args meth c cc nL own D kk A g ini top) (hE : zEv g E)  (hd : decode cc pc = .ok (.iaload, 1)) (hs : zs_iald E top al st h = .inl (al', st', h')) (k : zWn p l e R s m args below meth c Q D kk A g ad0 nL n0 m0 (pc + 1) al' st' h') : zWn p l e R s m args below meth c Q D kk A g ad0 nL n0 m0 pc al st h := by
  unfold zs_iald at hs
  split at hs
  · rename_i i0 r0 st0
    unfold zpu at hs
    split at hs
    · rename_i a0 hr
      cases hs
      intro ls sv H locs ⟨ws, lv, hh, hl, hL, hF, hP, hD, hS⟩
      obtain ⟨w, vs, rfl, hVi, hF1⟩ := zVs_cons hF
      obtain ⟨w2, vs, rfl, hVr, hF2⟩ := zVs_cons hF1
      obtain ⟨q, hq, rfl⟩ := hVr
      obtain ⟨k9, n9, d9, ov9, x, j9, hget, hks, rfl, hx, hj, ha⟩ := zld_ok hE hr hVi
      obtain ⟨q1, e1, hw1, hc1⟩ := hh.2 _ _ hget
      cases zat hq hw1
      subst ha
      have e9 : k9 = 0 := Nat.eq_of_beq_eq_true hks
      subst e9
      rcases hc1 with ⟨h1, f, rfl, hf⟩ | ⟨h1, f, rfl, hf⟩ | ⟨h1, h1b, f, rfl, hf⟩
      · exact va_iald hC.1 hC.2.1 hC.2.2.2.2.2.1 hP _ 0 hw1 rfl (zvin hx hj) hd (k ls _ H locs ⟨ws, lv, hh, hl, hL, ⟨by rw [zclamp hx]; exact hf _ hj, hF2⟩, hP, hD, hS⟩)
      · omega
      · omega
    · cases hs
  · rename_i i0 st0
    cases ht : top with
    | false => rw [ht] at hs; cases hs
    | true =>
      rw [ht] at hs
      have hs : (match zix E i0 5 with | .inl j => zgo al (.inr (.inl j) :: st0) h | .inr q => zno q) = .inl (al', st', h') := hs
      split at hs
      · rename_i j hj
        cases hs
        intro ls sv H locs ⟨ws, lv, hh, hl, hL, hF, hP, hD, hS⟩
        obtain ⟨w, vs, rfl, hVi, hF1⟩ := zVs_cons hF
        obtain ⟨w2, vs, rfl, hVr, hF2⟩ := zVs_cons hF1
        have hVr : w2 = .ref g.1 := hVr
        subst hVr
        obtain ⟨x, rfl, h1, h2⟩ := zix_ok hE hj hVi
        obtain ⟨hX, hbl, hbA⟩ := hC.2.2.2.2.2.2.2.2.2 ht
        exact va_sld hC.1 hC.2.1 hX hbl hbA hS (zvin h1 h2) hd (k ls _ H locs ⟨ws, lv, hh, hl, hL, ⟨by rw [zclamp h1]; rfl, hF2⟩, hP, hD, hS⟩)
      · cases hs
  · rename_i i0 k0 st0
    cases hz0 : Nat.ble k0 1 with
    | false => rw [hz0] at hs; cases hs
    | true =>
     rw [hz0] at hs
     have hs : (match zix E i0 8 with | .inl j => zgo al (zk ((ztb k0).getD j 0) :: st0) h | .inr q => zno q) = .inl (al', st', h') := hs
     have hk0 : k0 ≤ 1 := Nat.le_of_ble_eq_true hz0
     split at hs
     · rename_i j hj
       cases hs
       intro ls sv H locs ⟨ws, lv, hh, hl, hL, hF, hP, hD, hS⟩
       obtain ⟨w, vs, rfl, hVi, hF1⟩ := zVs_cons hF
       obtain ⟨w2, vs, rfl, hVr, hF2⟩ := zVs_cons hF1
       have hVr : w2 = .ref (g.2.1 k0) := hVr
       subst hVr
       obtain ⟨x, rfl, h1, h2⟩ := zix_ok hE hj hVi
       obtain ⟨-, -, -, ⟨-, hT0⟩, -, hT1⟩ := hC.2.2.2.2.2.2.2.1
       rcases (show k0 = 0 ∨ k0 = 1 by omega) with rfl | rfl
       · exact va_ti hC.1 hC.2.1 hT0 hS (zvin h1 h2) rfl hd (k ls _ H locs ⟨ws, lv, hh, hl, hL, ⟨by rw [zclamp h1]; exact zV_k (ztb_rng 0 (Or.inl rfl) h2), hF2⟩, hP, hD, hS⟩)
       · exact va_ti hC.1 hC.2.1 hT1 hS (zvin h1 h2) rfl hd (k ls _ H locs ⟨ws, lv, hh, hl, hL, ⟨by rw [zclamp h1]; exact zV_k (ztb_rng 1 (Or.inr rfl) h2), hF2⟩, hP, hD, hS⟩)
     · cases hs
  · cases hs
theorem zupd {f : Nat → Int32} {j : Nat} {x : Int32} (i : Nat) : upd f j x i = if i = j then x else f i := rfl
theorem zh_iastore (hC : zCx p s m args meth c cc nL own D kk A g ini top) (hE : zEv g E)  (hd : decode cc pc = .ok (.iastore, 1)) (hs : zs_iast E top al st h = .inl (al', st', h')) (k : zWn p l e R s m args below meth c Q D kk A g ad0 nL n0 m0 (pc + 1) al' st' h') : zWn p l e R s m args below meth c Q D kk A g ad0 nL n0 m0 pc al st h := by
  unfold zs_iast at hs
  split at hs
  · rename_i v0 i0 r0 st0
    cases hz : zint v0 with
    | false => rw [hz] at hs; cases hs
    | true =>
      rw [hz] at hs
      have hs : (match zgt h r0 with
        | some (.inr (k, n, d, ov)) => bif Nat.beq k 0 then (match zix E i0 n with
          | .inl j => zgo al st0 (zsc h r0 (.inr (k, n, d, (j, v0) :: ov)))
          | .inr q => match zir E i0 n with
            | some _ => zgo al st0 (zsc h r0 (.inr (k, n, .inl zz, [])))
            | none => zno q) else zno (955, 2)
        | _ => zno (955, 1)) = .inl (al', st', h') := hs
      split at hs
      · rename_i k9 n9 d9 ov9 hget
        cases hz2 : Nat.beq k9 0 with
        | false => rw [hz2] at hs; cases hs
        | true =>
          rw [hz2] at hs
          have e9 := Nat.eq_of_beq_eq_true hz2
          subst e9
          have hs : (match zix E i0 n9 with
            | .inl j => zgo al st0 (zsc h r0 (.inr (0, n9, d9, (j, v0) :: ov9)))
            | .inr q => match zir E i0 n9 with
              | some _ => zgo al st0 (zsc h r0 (.inr (0, n9, .inl zz, [])))
              | none => zno q) = .inl (al', st', h') := hs
          split at hs
          · rename_i j hj
            cases hs
            intro ls sv H locs ⟨ws, lv, hh, hl, hL, hF, hP, hD, hS⟩
            obtain ⟨w0, vs, rfl, hVv, hF1⟩ := zVs_cons hF
            obtain ⟨w, vs, rfl, hVi, hF2⟩ := zVs_cons hF1
            obtain ⟨w2, vs, rfl, hVr, hF3⟩ := zVs_cons hF2
            obtain ⟨q, hq, rfl⟩ := hVr
            obtain ⟨q1, e1, hw1, hc1⟩ := hh.2 _ _ hget
            cases zat hq hw1
            obtain ⟨x, rfl, h1, h2⟩ := zix_ok hE hj hVi
            obtain ⟨y, rfl⟩ := zV_int hz hVv
            rcases hc1 with ⟨h3, f, rfl, hf⟩ | ⟨h3, f, rfl, hf⟩ | ⟨h3, h3b, f, rfl, hf⟩
            · refine va_iast hC.1 hC.2.1 hC.2.2.2.2.2.1 hP hD hS _ 0 hw1 rfl (zvin h1 h2) hd (fun H1 locs1 hP1 hD1 hS1 => k ls _ H1 locs1 (zSt_set hh hl hL hF3 hw1 (Or.inl ⟨h3, _, rfl, fun i hi => ?_⟩) hP1 hD1 hS1))
              rw [zclamp h1, zupd]
              have := zag_set (j := j) hf hVv i hi
              by_cases e9 : i = j
              · rw [if_pos e9] at this ⊢
                exact this
              · rw [if_neg e9] at this ⊢
                exact this
            · omega
            · omega
          · rename_i q0 hq0
            split at hs
            · rename_i lm hlm
              cases hs
              intro ls sv H locs ⟨ws, lv, hh, hl, hL, hF, hP, hD, hS⟩
              obtain ⟨w0, vs, rfl, hVv, hF1⟩ := zVs_cons hF
              obtain ⟨w, vs, rfl, hVi, hF2⟩ := zVs_cons hF1
              obtain ⟨w2, vs, rfl, hVr, hF3⟩ := zVs_cons hF2
              obtain ⟨q, hq, rfl⟩ := hVr
              obtain ⟨q1, e1, hw1, hc1⟩ := hh.2 _ _ hget
              cases zat hq hw1
              obtain ⟨l9, m9⟩ := lm
              obtain ⟨x, j, rfl, h1, h2, -, -⟩ := zir_ok hE hlm hVi
              obtain ⟨y, rfl⟩ := zV_int hz hVv
              rcases hc1 with ⟨h3, f, rfl, hf⟩ | ⟨h3, f, rfl, hf⟩ | ⟨h3, h3b, f, rfl, hf⟩
              · exact va_iast hC.1 hC.2.1 hC.2.2.2.2.2.1 hP hD hS _ 0 hw1 rfl (zvin h1 h2) hd (fun H1 locs1 hP1 hD1 hS1 => k ls _ H1 locs1 (zSt_set hh hl hL hF3 hw1 (Or.inl ⟨h3, _, rfl, fun i hi => zV_z _⟩) hP1 hD1 hS1))
              · omega
              · omega
            · cases hs
      · cases hs
  · cases hs
theorem zsv_ok {ks : Nat → Bool} {cv : Nat → zA → zA} {v i : zA} {r : Nat} {st0 : List zA} (e1 : zsv E al st0 h ks cv v i r = .inl (al', st', h')) : ∃ k n d ov j, zgt h r = some (.inr (k, n, d, ov)) ∧ ks k = true ∧ zix E i n = .inl j ∧ al' = al ∧ st' = st0 ∧ h' = zsc h r (.inr (k, n, d, (j, cv k v) :: ov)) := by
  unfold zsv at e1
  split at e1
  · rename_i k n d ov hget
    cases hz : ks k with
    | false => rw [hz] at e1; cases e1
    | true =>
      rw [hz] at e1
      have e1 : (match zix E i n with
        | .inl j => zgo al st0 (zsc h r (.inr (k, n, d, (j, cv k v) :: ov)))
        | .inr q => zno q) = .inl (al', st', h') := e1
      split at e1
      · rename_i j hj
        cases e1
        exact ⟨k, n, d, ov, j, hget, hz, hj, rfl, rfl, rfl⟩
      · cases e1
  · cases e1
theorem zstore {ad : List Nat} {d a : zA} {ov : List (Nat × zA)} {n j : Nat} {f : Nat → Int32} {y : Int32} (hf : ∀ i, i < n → zV g ad (zag d ov i) (.int (f i))) (ha : zV g ad a (.int y)) : ∀ i, i < n → zV g ad (zag d ((j, a) :: ov) i) (.int (upd f j y i)) := fun i hi => by
  have := zag_set (j := j) hf ha i hi
  rw [zupd]
  by_cases e9 : i = j
  · rw [if_pos e9] at this ⊢
    exact this
  · rw [if_neg e9] at this ⊢
    exact this
theorem zcvb_ok {ad : List Nat} {a : zA} {y : Int32} (ha : zV g ad a (.int y)) : zV g ad (zcvb 3 a) (.int (vp_nar .boolean y)) := by
  unfold zcvb
  split
  · rename_i l0 u0 h9
    cases hz : (zle 0 l0 && zle u0 1) with
    | false => exact zV_z _
    | true =>
      obtain ⟨x, e1, h1, h2⟩ := ha
      cases e1
      simp only [Bool.and_eq_true, zle_iff] at hz
      have h1 : l0 ≤ y.toInt := h1
      have h2 : y.toInt ≤ u0 := h2
      have hx : y = 0 ∨ y = 1 := by
        have e0 : (0 : Int32).toInt = 0 := rfl
        have e1 : (1 : Int32).toInt = 1 := rfl
        rcases (show y.toInt = 0 ∨ y.toInt = 1 by omega) with w | w
        · exact Or.inl ((fa_eq _ _).mpr (by rw [w, e0]))
        · exact Or.inr ((fa_eq _ _).mpr (by rw [w, e1]))
      rcases hx with rfl | rfl
      · exact ⟨_, rfl, h1, h2⟩
      · exact ⟨_, rfl, h1, h2⟩
  · exact zV_z _
theorem zh_castore (hC : zCx p s m args meth c cc nL own D kk A g ini top) (hE : zEv g E)  (hd : decode cc pc = .ok (.castore, 1)) (hs : zs_xast (fun k => Nat.beq k 2) (fun _ _ => .inl zz) E top al st h = .inl (al', st', h')) (k : zWn p l e R s m args below meth c Q D kk A g ad0 nL n0 m0 (pc + 1) al' st' h') : zWn p l e R s m args below meth c Q D kk A g ad0 nL n0 m0 pc al st h := by
  unfold zs_xast at hs
  split at hs
  · rename_i v0 i0 r0 st0
    cases hz : zint v0 with
    | false => rw [hz] at hs; cases hs
    | true =>
      rw [hz] at hs
      have hs : zsv E al st0 h (fun k => Nat.beq k 2) (fun _ _ => .inl zz) v0 i0 r0 = .inl (al', st', h') := hs
      obtain ⟨k9, n9, d9, ov9, j, hget, hks, hj, rfl, rfl, rfl⟩ := zsv_ok hs
      intro ls sv H locs ⟨ws, lv, hh, hl, hL, hF, hP, hD, hS⟩
      obtain ⟨w0, vs, rfl, hVv, hF1⟩ := zVs_cons hF
      obtain ⟨w, vs, rfl, hVi, hF2⟩ := zVs_cons hF1
      obtain ⟨w2, vs, rfl, hVr, hF3⟩ := zVs_cons hF2
      obtain ⟨q, hq, rfl⟩ := hVr
      obtain ⟨q1, e1, hw1, hc1⟩ := hh.2 _ _ hget
      cases zat hq hw1
      obtain ⟨x, rfl, h1, h2⟩ := zix_ok hE hj hVi
      obtain ⟨y, rfl⟩ := zV_int hz hVv
      have e9 : k9 = 2 := Nat.eq_of_beq_eq_true hks
      subst e9
      rcases hc1 with ⟨h3, f, rfl, hf⟩ | ⟨h3, f, rfl, hf⟩ | ⟨h3, h3b, f, rfl, hf⟩
      · exact va_cast hC.1 hC.2.1 hC.2.2.2.2.2.1 hP hD hS _ 2 hw1 rfl (zvin h1 h2) hd (fun H1 locs1 hP1 hD1 hS1 => k ls _ H1 locs1 (zSt_set hh hl hL hF3 hw1 (Or.inl ⟨h3, _, rfl, by rw [zclamp h1]; exact zstore hf (zV_z _)⟩) hP1 hD1 hS1))
      · omega
      · omega
  · cases hs
theorem zh_bastore (hC : zCx p s m args meth c cc nL own D kk A g ini top) (hE : zEv g E)  (hd : decode cc pc = .ok (.bastore, 1)) (hs : zs_xast (fun k => Nat.beq k 1 || Nat.beq k 3) (zcvb) E top al st h = .inl (al', st', h')) (k : zWn p l e R s m args below meth c Q D kk A g ad0 nL n0 m0 (pc + 1) al' st' h') : zWn p l e R s m args below meth c Q D kk A g ad0 nL n0 m0 pc al st h := by
  unfold zs_xast at hs
  split at hs
  · rename_i v0 i0 r0 st0
    cases hz : zint v0 with
    | false => rw [hz] at hs; cases hs
    | true =>
      rw [hz] at hs
      have hs : zsv E al st0 h (fun k => Nat.beq k 1 || Nat.beq k 3) (zcvb) v0 i0 r0 = .inl (al', st', h') := hs
      obtain ⟨k9, n9, d9, ov9, j, hget, hks, hj, rfl, rfl, rfl⟩ := zsv_ok hs
      intro ls sv H locs ⟨ws, lv, hh, hl, hL, hF, hP, hD, hS⟩
      obtain ⟨w0, vs, rfl, hVv, hF1⟩ := zVs_cons hF
      obtain ⟨w, vs, rfl, hVi, hF2⟩ := zVs_cons hF1
      obtain ⟨w2, vs, rfl, hVr, hF3⟩ := zVs_cons hF2
      obtain ⟨q, hq, rfl⟩ := hVr
      obtain ⟨q1, e1, hw1, hc1⟩ := hh.2 _ _ hget
      cases zat hq hw1
      obtain ⟨x, rfl, h1, h2⟩ := zix_ok hE hj hVi
      obtain ⟨y, rfl⟩ := zV_int hz hVv
      rw [Bool.or_eq_true] at hks
      rcases hc1 with ⟨h3, f, rfl, hf⟩ | ⟨h3, f, rfl, hf⟩ | ⟨h3, h3b, f, rfl, hf⟩
      · rcases hks with h9 | h9
        · have e9 : k9 = 1 := Nat.eq_of_beq_eq_true h9
          subst e9
          exact va_bast hC.1 hC.2.1 hC.2.2.2.2.2.1 hP hD hS _ 1 hw1 rfl (zvin h1 h2) hd (fun H1 locs1 hP1 hD1 hS1 => k ls _ H1 locs1 (zSt_set hh hl hL hF3 hw1 (Or.inl ⟨h3, _, rfl, by rw [zclamp h1]; exact zstore hf (zV_z _)⟩) hP1 hD1 hS1))
        · have e9 : k9 = 3 := Nat.eq_of_beq_eq_true h9
          subst e9
          exact va_zast hC.1 hC.2.1 hC.2.2.2.2.2.1 hP hD hS _ 3 hw1 rfl (zvin h1 h2) hd (fun H1 locs1 hP1 hD1 hS1 => k ls _ H1 locs1 (zSt_set hh hl hL hF3 hw1 (Or.inl ⟨h3, _, rfl, by rw [zclamp h1]; exact zstore hf (zcvb_ok hVv)⟩) hP1 hD1 hS1))
      · rcases hks with h9 | h9
        · have e9 : k9 = 1 := Nat.eq_of_beq_eq_true h9
          omega
        · have e9 : k9 = 3 := Nat.eq_of_beq_eq_true h9
          omega
      · rcases hks with h9 | h9
        · have e9 : k9 = 1 := Nat.eq_of_beq_eq_true h9
          omega
        · have e9 : k9 = 3 := Nat.eq_of_beq_eq_true h9
          omega
  · cases hs
theorem zh_aastore (hC : zCx p s m args meth c cc nL own D kk A g ini top) (hE : zEv g E)  (hd : decode cc pc = .ok (.aastore, 1)) (hs : zs_aast E top al st h = .inl (al', st', h')) (k : zWn p l e R s m args below meth c Q D kk A g ad0 nL n0 m0 (pc + 1) al' st' h') : zWn p l e R s m args below meth c Q D kk A g ad0 nL n0 m0 pc al st h := by
  unfold zs_aast at hs
  split at hs
  · rename_i w9 i0 r0 st0
    split at hs
    · rename_i ci fs hgw
      obtain ⟨k9, n9, d9, ov9, j, hget, hks, hj, rfl, rfl, rfl⟩ := zsv_ok hs
      intro ls sv H locs ⟨ws, lv, hh, hl, hL, hF, hP, hD, hS⟩
      obtain ⟨w0, vs, rfl, hVv, hF1⟩ := zVs_cons hF
      obtain ⟨w, vs, rfl, hVi, hF2⟩ := zVs_cons hF1
      obtain ⟨w2, vs, rfl, hVr, hF3⟩ := zVs_cons hF2
      obtain ⟨q, hq, rfl⟩ := hVr
      obtain ⟨q1, e1, hw1, hc1⟩ := hh.2 _ _ hget
      cases zat hq hw1
      obtain ⟨x, rfl, h1, h2⟩ := zix_ok hE hj hVi
      obtain ⟨qv, hqv, rfl⟩ := id hVv
      obtain ⟨qv1, ev, hwv, hcv⟩ := hh.2 _ _ hgw
      cases zat hqv hwv
      obtain ⟨vsv, rfl, -, -⟩ := hcv
      rw [Bool.or_eq_true, Bool.and_eq_true, Bool.and_eq_true] at hks
      have hst : ∀ f : Nat → Option Nat, (∀ i, i < n9 → zV g (ws.map (·.1)) (zag d9 ov9 i) (va_rf (f i))) → ∀ i, i < n9 → zV g (ws.map (·.1)) (zag d9 ((j, zrf w9) :: ov9) i) (va_rf (va_up f j (some qv) i)) := fun f hf i hi => by
        have := zag_set (j := j) hf hVv i hi
        unfold va_up
        by_cases e9 : i = j
        · rw [if_pos e9] at this ⊢
          exact this
        · rw [if_neg e9] at this ⊢
          exact this
      rcases hc1 with ⟨h3, f, rfl, hf⟩ | ⟨h3, f, rfl, hf⟩ | ⟨h3, h3b, f, rfl, hf⟩
      · rcases hks with ⟨h9, -⟩ | ⟨h9, -⟩
        · have e9 : k9 = 5 := Nat.eq_of_beq_eq_true h9
          omega
        · have e9 : k9 = 6 := Nat.eq_of_beq_eq_true h9
          omega
      · rcases hks with ⟨h9, -⟩ | ⟨h9, -⟩
        · have e9 : k9 = 5 := Nat.eq_of_beq_eq_true h9
          omega
        · have e9 : k9 = 6 := Nat.eq_of_beq_eq_true h9
          omega
      · rcases hks with ⟨h9, h8⟩ | ⟨h9, h8⟩
        · have e9 : k9 = 5 := Nat.eq_of_beq_eq_true h9
          have e8 : ci = 5 := Nat.eq_of_beq_eq_true h8
          subst e9
          subst e8
          exact va_astq hC.1 hC.2.1 hC.2.2.2.2.2.1 hP hD hS _ 5 _ 5 (r := (RX5, TX5, 11)) hw1 rfl hwv rfl (zvin h1 h2) hd (fun H1 locs1 hP1 hD1 hS1 => k ls _ H1 locs1 (zSt_set hh hl hL hF3 hw1 (Or.inr (Or.inr ⟨h3, h3b, _, rfl, by rw [zclamp h1]; exact hst f hf⟩)) hP1 hD1 hS1))
        · have e9 : k9 = 6 := Nat.eq_of_beq_eq_true h9
          have e8 : ci = 1 := Nat.eq_of_beq_eq_true h8
          subst e9
          subst e8
          exact va_astq hC.1 hC.2.1 hC.2.2.2.2.2.1 hP hD hS _ 6 _ 1 (r := (RX1, TX1, 5)) hw1 rfl hwv rfl (zvin h1 h2) hd (fun H1 locs1 hP1 hD1 hS1 => k ls _ H1 locs1 (zSt_set hh hl hL hF3 hw1 (Or.inr (Or.inr ⟨h3, h3b, _, rfl, by rw [zclamp h1]; exact hst f hf⟩)) hP1 hD1 hS1))
    · cases hs
  · cases hs
theorem zh_alen (hC : zCx p s m args meth c cc nL own D kk A g ini top) (hE : zEv g E)  (hd : decode cc pc = .ok (.arraylength, 1)) (hs : zs_alen E top al st h = .inl (al', st', h')) (k : zWn p l e R s m args below meth c Q D kk A g ad0 nL n0 m0 (pc + 1) al' st' h') : zWn p l e R s m args below meth c Q D kk A g ad0 nL n0 m0 pc al st h := by
  unfold zs_alen at hs
  split at hs
  · rename_i r0 st0
    split at hs
    · rename_i k9 n9 x9 hget
      cases hz : Nat.ble n9 1000000 with
      | false => rw [hz] at hs; cases hs
      | true =>
        rw [hz] at hs
        cases hs
        have hn9 : n9 ≤ 1000000 := Nat.le_of_ble_eq_true hz
        intro ls sv H locs ⟨ws, lv, hh, hl, hL, hF, hP, hD, hS⟩
        obtain ⟨w2, vs, rfl, hVr, hF1⟩ := zVs_cons hF
        obtain ⟨q, hq, rfl⟩ := hVr
        obtain ⟨q1, e1, hw1, hc1⟩ := hh.2 _ _ hget
        cases zat hq hw1
        have hv9 : (Int32.ofNat n9).toInt = n9 := nI_toInt (by omega)
        have hty : ∀ k, k ≤ 7 → ∃ ty, (zKs kk)[k]? = some (kk k, ty) := fun k hk => by
          rcases (show k = 0 ∨ k = 1 ∨ k = 2 ∨ k = 3 ∨ k = 4 ∨ k = 5 ∨ k = 6 ∨ k = 7 by omega) with rfl | rfl | rfl | rfl | rfl | rfl | rfl | rfl <;> exact ⟨_, rfl⟩
        rcases hc1 with ⟨h3, f, rfl, hf⟩ | ⟨h3, f, rfl, hf⟩ | ⟨h3, h3b, f, rfl, hf⟩
        · obtain ⟨ty, hty⟩ := hty k9 (by omega)
          exact va_alen hC.1 hC.2.1 hC.2.2.2.2.2.1 hP _ k9 hw1 hty rfl hd (k ls _ H locs ⟨ws, lv, hh, hl, hL, ⟨zV_k hv9, hF1⟩, hP, hD, hS⟩)
        · obtain ⟨ty, hty⟩ := hty k9 (by omega)
          exact va_alen hC.1 hC.2.1 hC.2.2.2.2.2.1 hP _ k9 hw1 hty rfl hd (k ls _ H locs ⟨ws, lv, hh, hl, hL, ⟨zV_k hv9, hF1⟩, hP, hD, hS⟩)
        · obtain ⟨ty, hty⟩ := hty k9 (by omega)
          exact va_alen hC.1 hC.2.1 hC.2.2.2.2.2.1 hP _ k9 hw1 hty rfl hd (k ls _ H locs ⟨ws, lv, hh, hl, hL, ⟨zV_k hv9, hF1⟩, hP, hD, hS⟩)
    · cases hs
  · rename_i st0
    cases ht : top with
    | false => rw [ht] at hs; cases hs
    | true =>
      rw [ht] at hs
      cases hs
      intro ls sv H locs ⟨ws, lv, hh, hl, hL, hF, hP, hD, hS⟩
      obtain ⟨w2, vs, rfl, hVr, hF1⟩ := zVs_cons hF
      have hVr : w2 = .ref g.1 := hVr
      subst hVr
      obtain ⟨hX, hbl, hbA⟩ := hC.2.2.2.2.2.2.2.2.2 ht
      exact va_slen hC.1 hC.2.1 hX hbl hbA hS hd (k ls _ H locs ⟨ws, lv, hh, hl, hL, ⟨zV_k rfl, hF1⟩, hP, hD, hS⟩)
  · cases hs
theorem zh_gets (hC : zCx p s m args meth c cc nL own D kk A g ini top) (hE : zEv g E) {i r1 : Nat} {nm : String} (hnm : (r1 = 0 ∧ nm = "ABOVE") ∨ (r1 = 1 ∧ nm = "MARKS")) (hw : Jvm.Cond.fieldLink own i "LetterDebts" nm "[I" ∈ zW) (hd : decode cc pc = .ok (.getstatic i, 3)) (hs : zs_gets r1 E top al st h = .inl (al', st', h')) (k : zWn p l e R s m args below meth c Q D kk A g ad0 nL n0 m0 (pc + 3) al' st' h') : zWn p l e R s m args below meth c Q D kk A g ad0 nL n0 m0 pc al st h := by
  unfold zs_gets at hs
  cases hz : Nat.ble r1 1 with
  | false => rw [hz] at hs; cases hs
  | true =>
    rw [hz] at hs
    cases hs
    intro ls sv H locs ⟨ws, lv, hh, hl, hL, hF, hP, hD, hS⟩
    obtain ⟨-, -, -, ⟨hZ0, -⟩, hZ1, -⟩ := hC.2.2.2.2.2.2.2.1
    rcases hnm with ⟨rfl, rfl⟩ | ⟨rfl, rfl⟩
    · exact va_gets hC.1 hC.2.1 hZ0 hS hC.2.2.2.1 (hC.2.2.2.2.1 _ hw) (fun _ h9 => h9) hd (k ls _ H locs ⟨ws, lv, hh, hl, hL, ⟨rfl, hF⟩, hP, hD, hS⟩)
    · exact va_gets hC.1 hC.2.1 hZ1 hS hC.2.2.2.1 (hC.2.2.2.2.1 _ hw) (fun _ h9 => h9) hd (k ls _ H locs ⟨ws, lv, hh, hl, hL, ⟨rfl, hF⟩, hP, hD, hS⟩)
theorem zV_mx {ad : List Nat} {a b r : zA} {v w : Value} (hE : zEv g E) (e9 : zmx E a b = .inl r) (h1 : zV g ad a v) (h2 : zV g ad b w) : ∃ x y : Int32, v = .int x ∧ w = .int y ∧ zV g ad r (.int (if x < y then y else x)) := by
  unfold zmx at e9
  split at e9
  · rename_i p q hp hq
    cases e9
    obtain ⟨x, rfl, h3, h4⟩ := zV_iv hE hp h1
    obtain ⟨y, rfl, h5, h6⟩ := zV_iv hE hq h2
    refine ⟨x, y, rfl, rfl, _, rfl, ?_, ?_⟩
    · show (bif zle p.1 q.1 then q.1 else p.1) ≤ _
      by_cases hc : x < y
      · rw [if_pos hc]
        have := (fa_lt _ _).mp hc
        cases hz : zle p.1 q.1 with
        | true => exact h5
        | false => show p.1 ≤ _; omega
      · rw [if_neg hc]
        have : ¬ x.toInt < y.toInt := fun q => hc ((fa_lt _ _).mpr q)
        cases hz : zle p.1 q.1 with
        | true => show q.1 ≤ _; omega
        | false => exact h3
    · show _ ≤ (bif zle p.2 q.2 then q.2 else p.2)
      by_cases hc : x < y
      · rw [if_pos hc]
        cases hz : zle p.2 q.2 with
        | true => exact h6
        | false =>
          have : ¬ p.2 ≤ q.2 := fun w => by rw [zle_iff.mpr w] at hz; cases hz
          show _ ≤ p.2
          omega
      · rw [if_neg hc]
        cases hz : zle p.2 q.2 with
        | true =>
          have := zle_iff.mp hz
          show _ ≤ q.2
          omega
        | false => exact h4
  · cases e9
theorem zV_mn {ad : List Nat} {a b r : zA} {v w : Value} (hE : zEv g E) (e9 : zmn E a b = .inl r) (h1 : zV g ad a v) (h2 : zV g ad b w) : ∃ x y : Int32, v = .int x ∧ w = .int y ∧ zV g ad r (.int (if y < x then y else x)) := by
  unfold zmn at e9
  split at e9
  · rename_i p q hp hq
    cases e9
    obtain ⟨x, rfl, h3, h4⟩ := zV_iv hE hp h1
    obtain ⟨y, rfl, h5, h6⟩ := zV_iv hE hq h2
    refine ⟨x, y, rfl, rfl, _, rfl, ?_, ?_⟩
    · show (bif zle p.1 q.1 then p.1 else q.1) ≤ _
      by_cases hc : y < x
      · rw [if_pos hc]
        cases hz : zle p.1 q.1 with
        | true =>
          have := zle_iff.mp hz
          show p.1 ≤ _
          omega
        | false => exact h5
      · rw [if_neg hc]
        cases hz : zle p.1 q.1 with
        | true => exact h3
        | false =>
          have : ¬ p.1 ≤ q.1 := fun w => by rw [zle_iff.mpr w] at hz; cases hz
          show q.1 ≤ _
          omega
    · show _ ≤ (bif zle p.2 q.2 then p.2 else q.2)
      by_cases hc : y < x
      · rw [if_pos hc]
        have := (fa_lt _ _).mp hc
        cases hz : zle p.2 q.2 with
        | true => show _ ≤ p.2; omega
        | false => exact h6
      · rw [if_neg hc]
        have : ¬ y.toInt < x.toInt := fun q => hc ((fa_lt _ _).mpr q)
        cases hz : zle p.2 q.2 with
        | true => exact h4
        | false => show _ ≤ q.2; omega
  · cases e9
theorem zh_mmax (hC : zCx p s m args meth c cc nL own D kk A g ini top) (hE : zEv g E) {i : Nat} (hw1 : Jvm.Cond.methodLink own i Lib.Math.max.name ∈ zW) (hw2 : Jvm.Cond.static Lib.Math.max.name ∈ zW) (hw3 : Jvm.Cond.initialized "java/lang/Math" ∈ zW) (hw4 : Jvm.Cond.code Lib.Math.max.name Lib.Math.max.code 2 (some .int) ∈ zW) (hRf : 1 ≤ R.frames) (hRl : 60 ≤ R.locals) (hr1 : h'.1.1 - n0 ≤ R.cells) (hr2 : h'.1.2 - m0 ≤ R.slots) (hd : decode cc pc = .ok (.invokestatic i, 3)) (hs : zs_mm zmx E top al st h = .inl (al', st', h')) (k : zWn p l e R s m args below meth c Q D kk A g ad0 nL n0 m0 (pc + 3) al' st' h') : zWn p l e R s m args below meth c Q D kk A g ad0 nL n0 m0 pc al st h := by
  unfold zs_mm at hs
  split at hs
  · rename_i b0 a0 st0
    cases hz : Nat.ble ((st0.map zca).sum) 8 with
    | false => rw [hz] at hs; cases hs
    | true =>
      rw [hz] at hs
      have hsum : (st0.map zca).sum ≤ 8 := Nat.le_of_ble_eq_true hz
      replace hs : zpu al st0 h (zmx E a0 b0) = .inl (al', st', h') := hs
      unfold zpu at hs
      split at hs
      · rename_i r hr
        cases hs
        intro ls sv H locs ⟨ws, lv, hh, hl, hL, hF, hP, hD, hS⟩
        obtain ⟨w, vs, rfl, hV2, hF1⟩ := zVs_cons hF
        obtain ⟨v, vs, rfl, hV, hF2⟩ := zVs_cons hF1
        obtain ⟨x, y, rfl, rfl, hR⟩ := zV_mx hE hr hV hV2
        exact va_mmax hC.1 hC.2.1 (by rw [hC.2.2.1]; exact hl.1.symm) hC.2.2.2.1 (hC.2.2.2.2.1 _ hw1) (hC.2.2.2.2.1 _ hw2) (hC.2.2.2.2.1 _ hw3) (hC.2.2.2.2.1 _ hw4) hRf (by rw [zVs_cat hF2]; omega) hr1 hr2 hd (k ls _ H locs ⟨ws, lv, hh, hl, hL, ⟨hR, hF2⟩, hP, hD, hS⟩)
      · cases hs
  · cases hs
theorem zh_mmin (hC : zCx p s m args meth c cc nL own D kk A g ini top) (hE : zEv g E) {i : Nat} (hw1 : Jvm.Cond.methodLink own i Lib.Math.min.name ∈ zW) (hw2 : Jvm.Cond.static Lib.Math.min.name ∈ zW) (hw3 : Jvm.Cond.initialized "java/lang/Math" ∈ zW) (hw4 : Jvm.Cond.code Lib.Math.min.name Lib.Math.min.code 2 (some .int) ∈ zW) (hRf : 1 ≤ R.frames) (hRl : 60 ≤ R.locals) (hr1 : h'.1.1 - n0 ≤ R.cells) (hr2 : h'.1.2 - m0 ≤ R.slots) (hd : decode cc pc = .ok (.invokestatic i, 3)) (hs : zs_mm zmn E top al st h = .inl (al', st', h')) (k : zWn p l e R s m args below meth c Q D kk A g ad0 nL n0 m0 (pc + 3) al' st' h') : zWn p l e R s m args below meth c Q D kk A g ad0 nL n0 m0 pc al st h := by
  unfold zs_mm at hs
  split at hs
  · rename_i b0 a0 st0
    cases hz : Nat.ble ((st0.map zca).sum) 8 with
    | false => rw [hz] at hs; cases hs
    | true =>
      rw [hz] at hs
      have hsum : (st0.map zca).sum ≤ 8 := Nat.le_of_ble_eq_true hz
      replace hs : zpu al st0 h (zmn E a0 b0) = .inl (al', st', h') := hs
      unfold zpu at hs
      split at hs
      · rename_i r hr
        cases hs
        intro ls sv H locs ⟨ws, lv, hh, hl, hL, hF, hP, hD, hS⟩
        obtain ⟨w, vs, rfl, hV2, hF1⟩ := zVs_cons hF
        obtain ⟨v, vs, rfl, hV, hF2⟩ := zVs_cons hF1
        obtain ⟨x, y, rfl, rfl, hR⟩ := zV_mn hE hr hV hV2
        exact va_mmin hC.1 hC.2.1 (by rw [hC.2.2.1]; exact hl.1.symm) hC.2.2.2.1 (hC.2.2.2.2.1 _ hw1) (hC.2.2.2.2.1 _ hw2) (hC.2.2.2.2.1 _ hw3) (hC.2.2.2.2.1 _ hw4) hRf (by rw [zVs_cat hF2]; omega) hr1 hr2 hd (k ls _ H locs ⟨ws, lv, hh, hl, hL, ⟨hR, hF2⟩, hP, hD, hS⟩)
      · cases hs
  · cases hs
end ZP
