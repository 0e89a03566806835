noncomputable def qfD (own : String) (nL : Nat) (cc : ByteArray) : List qI → List Nat → Bool
  | x :: cd, p :: hs => (decide (decode cc x.1 = .ok (x.2.1, x.2.2.1)) && qfG (zinA p) own nL x.2.2.1 x.2.2.2.1 x.2.2.2.2.1 x.2.2.2.2.2 x.1 x.2.1) && qfD own nL cc cd hs
  | [], [] => true
  | _, _ => false
theorem qfD_ok {own : String} {nL : Nat} {cc : ByteArray} : ∀ {cd : List qI} {hs : List Nat}, qfD own nL cc cd hs = true → (cd.all fun x => decide (decode cc x.1 = .ok (x.2.1, x.2.2.1)) && qfB own nL x.2.2.1 x.2.2.2.1 x.2.2.2.2.1 x.2.2.2.2.2 x.1 x.2.1) = true
  | [], [], _ => rfl
  | [], _ :: _, h => by cases h
  | _ :: _, [], h => by cases h
  | x :: cd, p :: hs, h => by
    have h : ((decide (decode cc x.1 = .ok (x.2.1, x.2.2.1)) && qfG (zinA p) own nL x.2.2.1 x.2.2.2.1 x.2.2.2.2.1 x.2.2.2.2.2 x.1 x.2.1) && qfD own nL cc cd hs) = true := h
    rw [Bool.and_eq_true, Bool.and_eq_true] at h
    have ih := qfD_ok h.2
    rw [List.all_cons, Bool.and_eq_true, Bool.and_eq_true]
    exact ⟨⟨h.1.1, qfG_mono (fun w hw => zinA_ok hw) h.1.2⟩, ih⟩
noncomputable def qmD (M : qMt) (q : Nat × Nat × Nat × Nat) (hs : List Nat) : Bool := qmG (zinA q.1) (zinA q.2.1) (zinA q.2.2.1) (zinA q.2.2.2) M && qfD M.1.cls M.2.2.1 M.2.1 (qall M.2.2.2.2.2) hs
abbrev qmok (M : qMt) : Prop := qmB M = true ∧ qfM M.1.cls M.2.2.1 M.2.1 M.2.2.2.2.2 = true
theorem qmD_ok {M : qMt} {q : Nat × Nat × Nat × Nat} {hs : List Nat} (h : qmD M q hs = true) : qmok M := by
  unfold qmD at h
  rw [Bool.and_eq_true] at h
  exact ⟨qmG_mono (fun _ w => zinA_ok w) (fun _ w => zinA_ok w) (fun _ w => zinA_ok w) (fun _ w => zinA_ok w) h.1, qfD_ok h.2⟩
set_option maxRecDepth 100000 in
theorem qk_0 : qmD (yX0_look, cX0_look, 5, none, 1, qc0) (547, 53, 545, 546) [] = true := by decide +kernel
set_option maxRecDepth 100000 in
theorem qk_1 : qmD (yX0_look, cX0_look, 5, none, 1, qc1) (547, 53, 545, 546) [0, 0, 171, 0, 0, 172, 0, 0, 173, 0, 0, 0, 0, 0, 0, 0, 319, 0, 0, 313, 0, 0, 0, 0, 0, 0, 0, 0, 0, 169, 0, 0, 0, 0, 311, 0, 0, 0, 0, 0, 0, 170, 0, 0, 0, 0, 309, 0, 0, 0, 307, 0, 0, 0, 0, 0, 0, 0, 0, 0, 0, 0, 0, 0, 0, 0, 0, 168, 0, 0, 0, 0, 548, 0, 0, 168, 0, 0, 0, 0, 0, 172, 0, 166, 0, 296, 0, 0, 549, 0, 172, 0, 0, 171, 0, 0, 0, 0, 171, 0, 0, 0, 554, 0, 0, 0, 0, 302, 0, 0, 558, 0, 0, 0] = true := by decide +kernel
set_option maxRecDepth 100000 in
theorem qk_2 : qmD (yX0_isInSpan, cX0_isInSpan, 2, some .boolean, 1, qc2) (667, 53, 665, 666) [0, 168, 0, 0, 0, 0, 0, 0, 0] = true := by decide +kernel
set_option maxRecDepth 100000 in
theorem qk_3 : qmD (yX0_isLoose, cX0_isLoose, 2, some .boolean, 1, qc3) (565, 53, 563, 564) [0, 171, 0, 0, 0, 0, 0, 0, 0, 0, 0, 0] = true := by decide +kernel
set_option maxRecDepth 100000 in
theorem qk_4 : qmD (yX0_show, cX0_show, 4, none, 1, qc4) (561, 53, 560, 8) [0, 168, 0, 0, 0, 0, 0, 0, 169, 0, 0, 0, 0, 0, 0, 0, 170, 0, 0, 0, 0, 0, 0, 0, 0, 173, 0, 166, 0, 549, 0, 173, 0, 0, 171, 0, 0, 0, 0, 0, 0, 171, 0] = true := by decide +kernel
set_option maxRecDepth 100000 in
theorem qk_5 : qmD (yX0_unshow, cX0_unshow, 4, none, 1, qc5) (699, 53, 698, 14) [0, 168, 0, 0, 0, 0, 0, 0, 169, 0, 0, 0, 0, 0, 0, 0, 170, 0, 0, 0, 0, 0, 0, 0, 0, 173, 0, 166, 0, 549, 0, 173, 0, 0, 171, 0, 0, 0, 0, 171, 0] = true := by decide +kernel
set_option maxRecDepth 100000 in
theorem qk_6 : qmD (yX0_leastPay, cX0_leastPay, 4, some .int, 1, qc6) (569, 53, 567, 568) [0, 0, 570, 0, 0, 302, 0, 0, 0, 0, 168, 0, 0, 0, 0, 0, 0, 0, 0, 0, 169, 0, 0, 0, 0, 170, 0, 0, 0, 0, 0, 0, 571, 0] = true := by decide +kernel
set_option maxRecDepth 100000 in
theorem qk_7 : qmD (yX0_mostPay, cX0_mostPay, 4, some .int, 1, qc7) (575, 53, 573, 574) [0, 0, 570, 0, 0, 302, 0, 0, 0, 0, 168, 0, 0, 0, 0, 0, 0, 0, 0, 0, 169, 0, 0, 576, 0] = true := by decide +kernel
set_option maxRecDepth 100000 in
theorem qk_8 : qmD (yX0_mostLoose, cX0_mostLoose, 3, some .int, 1, qc8) (584, 53, 582, 583) [0, 0, 0, 0, 0, 0, 0, 0, 0, 170, 0, 0, 571, 0, 0, 0, 0, 0] = true := by decide +kernel
set_option maxRecDepth 100000 in
theorem qk_9 : qmD (yX0_ways, cX0_ways, 4, some .int, 1, qc9) (580, 53, 578, 579) [0, 166, 0, 581, 585, 0, 0, 0, 0, 0, 0, 0, 0, 0, 166, 0, 170, 0, 0, 0, 169, 0, 0, 599, 0, 0, 606, 0, 0, 0, 0, 0, 0, 0] = true := by decide +kernel
set_option maxRecDepth 100000 in
theorem qk_10 : qmD (yX0_leastOwed, cX0_leastOwed, 3, some .int, 1, qc10) (635, 53, 633, 634) [0, 173, 0, 0, 0, 0, 0, 0, 0, 0, 166, 0, 170, 0, 0, 0, 169, 0, 0, 636, 0, 0, 0, 0, 0, 0, 172, 0, 0, 571, 0] = true := by decide +kernel
set_option maxRecDepth 100000 in
theorem qk_11 : qmD (yX0_mostOwed, cX0_mostOwed, 3, some .int, 1, qc11) (643, 53, 641, 642) [0, 173, 0, 0, 0, 0, 0, 0, 0, 0, 166, 0, 170, 0, 0, 0, 169, 0, 0, 644, 0, 0, 0, 0, 0, 0, 172, 0, 0, 571, 0] = true := by decide +kernel
set_option maxRecDepth 100000 in
theorem qk_12 : qmD (yX0_spread, cX0_spread, 1, some .int, 1, qc12) (659, 53, 657, 658) [0, 640, 0, 632, 0, 0] = true := by decide +kernel
set_option maxRecDepth 100000 in
theorem qk_13 : qmD (yX0_owedBy, cX0_owedBy, 6, some .int, 1, qc13) (631, 53, 629, 630) [0, 0, 0, 0, 632, 0, 0, 0, 0, 0, 640, 0, 0, 0, 0, 0, 0, 0, 0, 0, 168, 0, 0, 0, 0, 0, 0, 0, 168, 0, 0, 0, 648, 0, 0, 300, 0, 0, 0, 0, 0, 166, 0, 549, 0, 0, 0, 0, 0, 0, 172, 0, 0, 571, 0] = true := by decide +kernel
set_option maxRecDepth 100000 in
theorem qk_14 : qmD (yX0_couldBe, cX0_couldBe, 4, some .boolean, 1, qc14) (675, 53, 673, 674) [0, 0, 0, 0, 0, 0, 0, 676, 0, 0, 0, 570, 0, 0, 0, 0, 0, 302, 0, 0, 0, 0, 0, 0, 0, 0, 0, 0, 0, 0, 0, 0, 0, 677, 0, 169, 0, 0, 0, 0, 0, 0, 0, 0, 0] = true := by decide +kernel
set_option maxRecDepth 100000 in
theorem qk_15 : qmD (yX0_looseSum, cX0_looseSum, 5, some .int, 1, qc15) (680, 53, 679, 12) [0, 0, 0, 0, 0, 0, 0, 0, 168, 0, 0, 0, 0, 0, 0, 570, 0, 0, 0, 0, 0, 0, 0, 0, 0, 0, 0] = true := by decide +kernel
set_option maxRecDepth 100000 in
theorem qk_16 : qmD (yX0_settlingSet, cX0_settlingSet, 5, some .int, 1, qc16) (684, 53, 682, 683) [0, 171, 0, 0, 0, 0, 0, 0, 0, 0, 0, 0, 0, 0, 0, 0, 0, 0, 0, 0, 685, 0, 0, 0, 0, 0, 691, 0, 0, 0, 0, 0, 0, 0, 0, 0] = true := by decide +kernel
set_option maxRecDepth 100000 in
theorem qk_17 : qmD (yX0_settlesBy, cX0_settlesBy, 5, some .boolean, 1, qc17) (694, 53, 693, 13) [0, 0, 0, 0, 0, 0, 0, 0, 0, 0, 0, 0, 0, 0, 0, 0, 0, 558, 0, 0, 0, 695, 0, 0, 0, 0, 0, 0, 0, 0, 0, 0, 0, 0, 0, 0, 0, 0, 0, 0, 0, 0, 0, 0, 696, 0, 0, 0, 0] = true := by decide +kernel
set_option maxRecDepth 100000 in
theorem qk_18 : qmD (yX0_tellingMost, cX0_tellingMost, 6, some .int, 1, qc18) (708, 53, 706, 707) [0, 0, 0, 0, 0, 0, 0, 0, 0, 0, 0, 570, 0, 0, 0, 0, 709, 0, 0, 0, 0, 0, 0, 0, 0, 0, 0, 0, 0, 0, 0, 0] = true := by decide +kernel
set_option maxRecDepth 100000 in
theorem qk_19 : qmD (yX0_worstSpread, cX0_worstSpread, 6, some .int, 1, qc19) (712, 53, 711, 15) [0, 0, 0, 0, 0, 713, 0, 0, 0, 0, 714, 0, 0, 0, 0, 0, 0, 0, 558, 0, 0, 695, 571, 0, 0, 0, 0, 696, 0, 0, 0, 0] = true := by decide +kernel
set_option maxRecDepth 100000 in
theorem qk_20 : qmD (yX0_sumOfSpan, cX0_sumOfSpan, 4, some .int, 1, qc20) (822, 53, 820, 821) [0, 168, 0, 0, 0, 0, 0, 0, 0, 0, 311, 0, 0, 0] = true := by decide +kernel
set_option maxRecDepth 100000 in
theorem qk_21 : qmD (yX0_tooMuch, cX0_tooMuch, 5, some .int, 1, qc21) (826, 53, 824, 825) [0, 168, 0, 0, 0, 0, 0, 0, 0, 0, 166, 0, 296, 0, 0, 549, 0, 0, 0, 0, 166, 0, 0, 0, 648, 549, 0, 571, 0] = true := by decide +kernel
set_option maxRecDepth 100000 in
theorem qk_22 : qmD (yX0_look, cX0_look, 5, none, 1, qc22) (547, 53, 545, 546) [] = true := by decide +kernel
set_option maxRecDepth 100000 in
theorem qk_23 : qmD (yX1_takeOver, cX1_takeOver, 2, none, 2, qc23) (836, 55, 834, 835) [0, 268, 0, 268, 837, 0, 270, 0, 270, 842, 0, 272, 0, 272, 847, 0, 0, 274, 274, 0] = true := by decide +kernel
set_option maxRecDepth 100000 in
theorem qk_24 : qmD (yX0_look, cX0_look, 5, none, 1, qc24) (547, 53, 545, 546) [] = true := by decide +kernel
set_option maxRecDepth 100000 in
theorem qk_25 : qmD (yX2_add, cX2_add, 4, some .int, 3, qc25) (722, 56, 720, 721) [0, 212, 0, 0, 0, 0, 0, 203, 0, 212, 0, 0, 0, 205, 0, 212, 0, 0, 0, 207, 0, 212, 0, 0, 0, 208, 0, 212, 0, 0, 0, 209, 0, 212, 0, 0, 0, 210, 0, 212, 0, 0, 0, 211, 0, 212, 0, 0, 0, 0, 212, 0, 0, 212, 0, 212, 0, 0, 0] = true := by decide +kernel
set_option maxRecDepth 100000 in
theorem qk_26 : qmD (yX2_holdOf, cX2_holdOf, 4, some .int, 3, qc26) (738, 56, 736, 737) [0, 0, 207, 0, 0, 0, 739, 740, 0, 0, 207, 0, 0, 0, 0, 0, 0, 0, 208, 0, 0, 0, 0, 0, 0, 0, 211, 0, 0, 0, 0, 0, 0, 0, 0, 0, 0, 0, 0] = true := by decide +kernel
set_option maxRecDepth 100000 in
theorem qk_27 : qmD (yX2_isAside, cX2_isAside, 2, some .boolean, 3, qc27) (752, 56, 750, 751) [0, 209, 0, 0, 0, 0, 0, 0, 0] = true := by decide +kernel
set_option maxRecDepth 100000 in
theorem qk_28 : qmD (yX2_putAside, cX2_putAside, 3, some .int, 3, qc28) (756, 56, 754, 755) [0, 208, 0, 0, 0, 0, 209, 0, 0, 205, 0, 0, 0, 0, 207, 0, 0, 0, 0, 208, 0, 0, 0, 0, 0] = true := by decide +kernel
set_option maxRecDepth 100000 in
theorem qk_29 : qmD (yX2_told, cX2_told, 3, some .int, 3, qc29) (764, 56, 762, 763) [0, 0, 0, 203, 0, 0, 0, 0, 205, 0, 0, 0, 0, 207, 0, 0, 0, 0, 208, 0, 0, 0, 0, 209, 0, 0, 0, 0, 210, 0, 0, 0, 0, 211, 0, 0, 0] = true := by decide +kernel
set_option maxRecDepth 100000 in
theorem qk_30 : qmD (yX2_heldOfAll, cX2_heldOfAll, 3, some .int, 3, qc30) (871, 56, 869, 870) [0, 0, 0, 0, 0, 0, 212, 0, 0, 0, 208, 0, 0, 0, 0, 0, 0, 0, 0] = true := by decide +kernel
set_option maxRecDepth 100000 in
theorem qk_31 : qmD (yX2_feesOfAll, cX2_feesOfAll, 3, some .int, 3, qc31) (875, 56, 873, 874) [0, 0, 0, 0, 0, 0, 212, 0, 0, 0, 211, 0, 0, 0, 0, 0, 0, 0, 0] = true := by decide +kernel
set_option maxRecDepth 100000 in
theorem qk_32 : qmD (yX2_lostOfAll, cX2_lostOfAll, 3, some .int, 3, qc32) (879, 56, 877, 878) [0, 0, 0, 0, 0, 0, 212, 0, 0, 0, 0, 880, 0, 0, 211, 0, 0, 0, 0, 0, 0, 0, 0, 0, 0] = true := by decide +kernel
set_option maxRecDepth 100000 in
theorem qk_33 : qmD (yX2_takeOver, cX2_takeOver, 2, none, 3, qc33) (840, 56, 838, 839) [0, 0, 212, 212, 0, 203, 0, 203, 841, 0, 205, 0, 205, 841, 0, 207, 0, 207, 841, 0, 208, 0, 208, 841, 0, 209, 0, 209, 841, 0, 210, 0, 210, 841, 0, 211, 0, 211, 841, 0] = true := by decide +kernel
set_option maxRecDepth 100000 in
theorem qk_34 : qmD (yX0_look, cX0_look, 5, none, 1, qc34) (547, 53, 545, 546) [] = true := by decide +kernel
set_option maxRecDepth 100000 in
theorem qk_35 : qmD (yX3_add, cX3_add, 4, some .int, 4, qc35) (782, 57, 780, 781) [0, 243, 0, 0, 0, 0, 0, 237, 0, 243, 0, 0, 0, 239, 0, 243, 0, 0, 0, 241, 0, 243, 0, 0, 0, 0, 243, 0, 0, 243, 0, 243, 0, 0, 0] = true := by decide +kernel
set_option maxRecDepth 100000 in
theorem qk_36 : qmD (yX3_takeOver, cX3_takeOver, 2, none, 4, qc36) (845, 57, 843, 844) [0, 0, 243, 243, 0, 237, 0, 237, 846, 0, 239, 0, 239, 846, 0, 241, 0, 241, 846, 0] = true := by decide +kernel
set_option maxRecDepth 100000 in
theorem qk_37 : qmD (yX0_look, cX0_look, 5, none, 1, qc37) (547, 53, 545, 546) [] = true := by decide +kernel
set_option maxRecDepth 100000 in
theorem qk_38 : qmD (yX4_add, cX4_add, 2, some .boolean, 5, qc38) (794, 58, 792, 793) [0, 261, 0, 0, 0, 0, 0, 260, 0, 261, 0, 0, 0, 0, 261, 0, 0, 261, 0, 0] = true := by decide +kernel
set_option maxRecDepth 100000 in
theorem qk_39 : qmD (yX4_waitOfLast, cX4_waitOfLast, 4, some .int, 5, qc39) (798, 58, 796, 797) [0, 0, 0, 0, 0, 0, 0, 0, 261, 0, 0, 0, 260, 0, 0, 0, 0, 0, 0, 0, 0, 0, 260, 0, 0, 0, 0, 0, 0, 0] = true := by decide +kernel
