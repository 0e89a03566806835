section QO
variable {p : Program} {l : Launch} {e : Env} {s : State} {m : MethodId} {below : List Frame} {meth : Method} {c : Code} {D : va_G} {kk : Nat → ClassId} {A : Nat → Prop} {g : qG} {ad : List Nat} {t : qT} {b nc ns pc : Nat} {ls : qL} {st : List qV} {μ : qM}
set_option maxHeartbeats 4000000 in
/-- what the law does on the q-layer it does on the machine -/
theorem qone (hC : qCx p s m #[Value.ref b] meth c code 4 RL D kk A g t) (hA : ∀ q, A q → s.heap.size ≤ q) (hlk : meth.locks = false) (hr : meth.sig.returnType = ret) (h1 : nc ≤ 600000) (h2 : ns ≤ 7302250) (h : qlw t LWQ pc ls st μ) : qWn p l e room_1 s m #[Value.ref b] below meth c (lw_Z below #[Value.ref b] s) D kk A g ad 4 nc ns pc ls st μ := by
  refine h (qWn p l e room_1 s m #[Value.ref b] below meth c (lw_Z below #[Value.ref b] s) D kk A g ad 4 nc ns) (fun pc ls st μ hst => ?_)
  unfold qstep at hst
  split at hst
  · rename_i x hx
    obtain ⟨hmem, hpc⟩ := qlk_mem hx
    obtain ⟨hdec, hfb⟩ := qlw_fit x hmem
    rw [hpc] at hdec hfb
    refine qh_all hC (fun j M h => (qma j M h).1) hfb hdec (qmw_ok (fun j M h => (qma j M h).1) (fun j M h => (qma j M h).2) 20) (by decide) (by decide) h1 h2 (fun ls st μ hj => ?_) hst
    rcases hj with ⟨hi, hs⟩ | ⟨hi, hs⟩ | ⟨hi, hs⟩ | ⟨hi, hs⟩
    · rw [hi] at hdec hfb
      have hlen : x.2.2.1 = 1 := Nat.eq_of_beq_eq_true hfb
      rw [hlen] at hdec
      unfold qs_iret at hs
      split at hs
      · rename_i a0
        have hs : (Sum.inl a0 : qV) = .inl 1 := hs
        cases hs
        intro ar sv H locs ⟨w, lv, hh, hl, hL, hF, hP, hD, hS⟩
        obtain ⟨v, vs, rfl, ⟨y, rfl, hy⟩, hF1⟩ := qVs_cons hF
        have e1 := qVs_nil hF1
        subst e1
        have ey : y = 1 := (fa_eq _ _).mpr (by
          have : (1 : Int32).toInt = 1 := rfl
          omega)
        subst ey
        refine va_forget (fun q hq => hA _ (hS.2.2 q hq)) ?_
        refine W.widen (k := 600000) (n := 7302250) h1 h2 ?_
        exact lw_ret hC.1 hC.2.1 hr hlk hdec
      · exact hs.elim
    · unfold qs_lret at hs
      split at hs
      · exact False.elim hs
      · exact hs.elim
    · unfold qs_aret at hs
      split at hs
      · exact False.elim hs
      · exact hs.elim
    · unfold qs_vret at hs
      split at hs
      · exact False.elim hs
      · exact hs.elim
  · exact hst.elim
end QO
