noncomputable def qfD (own : String) (nL : Nat) (cc : ByteArray) : List qI → List Nat → Bool
  | x :: cd, p :: hs => (decide (decode cc x.1 = .ok (x.2.1, x.2.2.1)) && qfG (zinA p) own nL x.2.2.1 x.2.2.2.1 x.2.2.2.2.1 x.2.2.2.2.2 x.1 x.2.1) && qfD own nL cc cd hs
  | [], [] => true
  | _, _ => false
theorem qfD_ok {own : String} {nL : Nat} {cc : ByteArray} : ∀ {cd : List qI} {hs : List Nat}, qfD own nL cc cd hs = true → (cd.all fun x => decide (decode cc x.1 = .ok (x.2.1, x.2.2.1)) && qfB own nL x.2.2.1 x.2.2.2.1 x.2.2.2.2.1 x.2.2.2.2.2 x.1 x.2.1) = true
  | [], [], _ => rfl
  | [], _ :: _, h => by cases h
  | _ :: _, [], h => by cases h
  | x :: cd, p :: hs, h => by
    have h : ((decide (decode cc x.1 = .ok (x.2.1, x.2.2.1)) && qfG (zinA p) own nL x.2.2.1 x.2.2.2.1 x.2.2.2.2.1 x.2.2.2.2.2 x.1 x.2.1) && qfD own nL cc cd hs) = true := h
    rw [Bool.and_eq_true, Bool.and_eq_true] at h
    have ih := qfD_ok h.2
    rw [List.all_cons, Bool.and_eq_true, Bool.and_eq_true]
    exact ⟨⟨h.1.1, qfG_mono (fun w hw => zinA_ok hw) h.1.2⟩, ih⟩
abbrev qmok (M : qMt) : Prop := qmB M = true ∧ qfM M.1.cls M.2.2.1 M.2.1 M.2.2.2.2.2 = true
theorem zinR {p : Nat} {w : Jvm.Cond} (h : znt lw_tbl p = some w) (g : (goodWord w || zisN w) = true) : zin w = true := zinA_ok (p := p) (by
  unfold zinA
  rw [h, g]
  show (decide (w = w) && true) = true
  rw [decide_eq_true (rfl : w = w)]
  rfl)
theorem qmE_ok {y : MethodName} {c : ByteArray} {n : Nat} {r : Option FieldType} {ci : Nat} {qc : List (List qI)} {p b e f : Nat} {hs : List Nat} (hw : znt lw_tbl p = some (.code y c n r)) (hg : (goodWord (.code y c n r) || zisN (.code y c n r)) = true) (h : (qmG (fun _ => true) (zinA b) (zinA e) (zinA f) (y, c, n, r, ci, qc) && qfD y.cls n c (qall qc) hs) = true) : qmok (y, c, n, r, ci, qc) := by
  rw [Bool.and_eq_true] at h
  refine ⟨?_, qfD_ok h.2⟩
  have h1 := h.1
  unfold qmB
  unfold qmG at h1 ⊢
  refine zand_mono (fun _ => zinR hw hg) (zand_mono (fun w => zinA_ok w) (zand_mono (zbif_mono (fun w => zinA_ok w) (fun w => zinA_ok w)) (zand_mono id (zand_mono id (zand_mono id (fun h => ?_)))))) h1
  split at h
  · rfl
  · exact zand_mono id (fun w => zinA_ok w) h
set_option maxRecDepth 100000 in
theorem qw_0 : znt lw_tbl 547 = some (.code yX0_look cX0_look 5 none) := by rfl
set_option maxRecDepth 100000 in
theorem qv_0 : (qmG (fun _ => true) (zinA 53) (zinA 545) (zinA 546) (yX0_look, cX0_look, 5, none, 1, qc0) && qfD yX0_look.cls 5 cX0_look (qall qc0) []) = true := by decide +kernel
theorem qk_0 : qmok (yX0_look, cX0_look, 5, none, 1, qc0) := qmE_ok qw_0 rfl qv_0
set_option maxRecDepth 100000 in
theorem qw_1 : znt lw_tbl 547 = some (.code yX0_look cX0_look 5 none) := by rfl
set_option maxRecDepth 100000 in
theorem qv_1 : (qmG (fun _ => true) (zinA 53) (zinA 545) (zinA 546) (yX0_look, cX0_look, 5, none, 1, qc1) && qfD yX0_look.cls 5 cX0_look (qall qc1) [0, 0, 171, 0, 0, 172, 0, 0, 173, 0, 0, 0, 0, 0, 0, 0, 319, 0, 0, 313, 0, 0, 0, 0, 0, 0, 0, 0, 0, 169, 0, 0, 0, 0, 311, 0, 0, 0, 0, 0, 0, 170, 0, 0, 0, 0, 309, 0, 0, 0, 307, 0, 0, 0, 0, 0, 0, 0, 0, 0, 0, 0, 0, 0, 0, 0, 0, 168, 0, 0, 0, 0, 548, 0, 0, 168, 0, 0, 0, 0, 0, 172, 0, 166, 0, 296, 0, 0, 549, 0, 172, 0, 0, 171, 0, 0, 0, 0, 171, 0, 0, 0, 554, 0, 0, 0, 0, 302, 0, 0, 558, 0, 0, 0]) = true := by decide +kernel
theorem qk_1 : qmok (yX0_look, cX0_look, 5, none, 1, qc1) := qmE_ok qw_1 rfl qv_1
set_option maxRecDepth 100000 in
theorem qw_2 : znt lw_tbl 667 = some (.code yX0_isInSpan cX0_isInSpan 2 (some .boolean)) := by rfl
set_option maxRecDepth 100000 in
theorem qv_2 : (qmG (fun _ => true) (zinA 53) (zinA 665) (zinA 666) (yX0_isInSpan, cX0_isInSpan, 2, some .boolean, 1, qc2) && qfD yX0_isInSpan.cls 2 cX0_isInSpan (qall qc2) [0, 168, 0, 0, 0, 0, 0, 0, 0]) = true := by decide +kernel
theorem qk_2 : qmok (yX0_isInSpan, cX0_isInSpan, 2, some .boolean, 1, qc2) := qmE_ok qw_2 rfl qv_2
set_option maxRecDepth 100000 in
theorem qw_3 : znt lw_tbl 565 = some (.code yX0_isLoose cX0_isLoose 2 (some .boolean)) := by rfl
set_option maxRecDepth 100000 in
theorem qv_3 : (qmG (fun _ => true) (zinA 53) (zinA 563) (zinA 564) (yX0_isLoose, cX0_isLoose, 2, some .boolean, 1, qc3) && qfD yX0_isLoose.cls 2 cX0_isLoose (qall qc3) [0, 171, 0, 0, 0, 0, 0, 0, 0, 0, 0, 0]) = true := by decide +kernel
theorem qk_3 : qmok (yX0_isLoose, cX0_isLoose, 2, some .boolean, 1, qc3) := qmE_ok qw_3 rfl qv_3
set_option maxRecDepth 100000 in
theorem qw_4 : znt lw_tbl 561 = some (.code yX0_show cX0_show 4 none) := by rfl
set_option maxRecDepth 100000 in
theorem qv_4 : (qmG (fun _ => true) (zinA 53) (zinA 560) (zinA 8) (yX0_show, cX0_show, 4, none, 1, qc4) && qfD yX0_show.cls 4 cX0_show (qall qc4) [0, 168, 0, 0, 0, 0, 0, 0, 169, 0, 0, 0, 0, 0, 0, 0, 170, 0, 0, 0, 0, 0, 0, 0, 0, 173, 0, 166, 0, 549, 0, 173, 0, 0, 171, 0, 0, 0, 0, 0, 0, 171, 0]) = true := by decide +kernel
theorem qk_4 : qmok (yX0_show, cX0_show, 4, none, 1, qc4) := qmE_ok qw_4 rfl qv_4
set_option maxRecDepth 100000 in
theorem qw_5 : znt lw_tbl 699 = some (.code yX0_unshow cX0_unshow 4 none) := by rfl
set_option maxRecDepth 100000 in
theorem qv_5 : (qmG (fun _ => true) (zinA 53) (zinA 698) (zinA 14) (yX0_unshow, cX0_unshow, 4, none, 1, qc5) && qfD yX0_unshow.cls 4 cX0_unshow (qall qc5) [0, 168, 0, 0, 0, 0, 0, 0, 169, 0, 0, 0, 0, 0, 0, 0, 170, 0, 0, 0, 0, 0, 0, 0, 0, 173, 0, 166, 0, 549, 0, 173, 0, 0, 171, 0, 0, 0, 0, 171, 0]) = true := by decide +kernel
theorem qk_5 : qmok (yX0_unshow, cX0_unshow, 4, none, 1, qc5) := qmE_ok qw_5 rfl qv_5
set_option maxRecDepth 100000 in
theorem qw_6 : znt lw_tbl 569 = some (.code yX0_leastPay cX0_leastPay 4 (some .int)) := by rfl
set_option maxRecDepth 100000 in
theorem qv_6 : (qmG (fun _ => true) (zinA 53) (zinA 567) (zinA 568) (yX0_leastPay, cX0_leastPay, 4, some .int, 1, qc6) && qfD yX0_leastPay.cls 4 cX0_leastPay (qall qc6) [0, 0, 570, 0, 0, 302, 0, 0, 0, 0, 168, 0, 0, 0, 0, 0, 0, 0, 0, 0, 169, 0, 0, 0, 0, 170, 0, 0, 0, 0, 0, 0, 571, 0]) = true := by decide +kernel
theorem qk_6 : qmok (yX0_leastPay, cX0_leastPay, 4, some .int, 1, qc6) := qmE_ok qw_6 rfl qv_6
set_option maxRecDepth 100000 in
theorem qw_7 : znt lw_tbl 575 = some (.code yX0_mostPay cX0_mostPay 4 (some .int)) := by rfl
set_option maxRecDepth 100000 in
theorem qv_7 : (qmG (fun _ => true) (zinA 53) (zinA 573) (zinA 574) (yX0_mostPay, cX0_mostPay, 4, some .int, 1, qc7) && qfD yX0_mostPay.cls 4 cX0_mostPay (qall qc7) [0, 0, 570, 0, 0, 302, 0, 0, 0, 0, 168, 0, 0, 0, 0, 0, 0, 0, 0, 0, 169, 0, 0, 576, 0]) = true := by decide +kernel
theorem qk_7 : qmok (yX0_mostPay, cX0_mostPay, 4, some .int, 1, qc7) := qmE_ok qw_7 rfl qv_7
set_option maxRecDepth 100000 in
theorem qw_8 : znt lw_tbl 584 = some (.code yX0_mostLoose cX0_mostLoose 3 (some .int)) := by rfl
set_option maxRecDepth 100000 in
theorem qv_8 : (qmG (fun _ => true) (zinA 53) (zinA 582) (zinA 583) (yX0_mostLoose, cX0_mostLoose, 3, some .int, 1, qc8) && qfD yX0_mostLoose.cls 3 cX0_mostLoose (qall qc8) [0, 0, 0, 0, 0, 0, 0, 0, 0, 170, 0, 0, 571, 0, 0, 0, 0, 0]) = true := by decide +kernel
theorem qk_8 : qmok (yX0_mostLoose, cX0_mostLoose, 3, some .int, 1, qc8) := qmE_ok qw_8 rfl qv_8
set_option maxRecDepth 100000 in
theorem qw_9 : znt lw_tbl 580 = some (.code yX0_ways cX0_ways 4 (some .int)) := by rfl
set_option maxRecDepth 100000 in
theorem qv_9 : (qmG (fun _ => true) (zinA 53) (zinA 578) (zinA 579) (yX0_ways, cX0_ways, 4, some .int, 1, qc9) && qfD yX0_ways.cls 4 cX0_ways (qall qc9) [0, 166, 0, 581, 585, 0, 0, 0, 0, 0, 0, 0, 0, 0, 166, 0, 170, 0, 0, 0, 169, 0, 0, 599, 0, 0, 606, 0, 0, 0, 0, 0, 0, 0]) = true := by decide +kernel
theorem qk_9 : qmok (yX0_ways, cX0_ways, 4, some .int, 1, qc9) := qmE_ok qw_9 rfl qv_9
set_option maxRecDepth 100000 in
theorem qw_10 : znt lw_tbl 635 = some (.code yX0_leastOwed cX0_leastOwed 3 (some .int)) := by rfl
set_option maxRecDepth 100000 in
theorem qv_10 : (qmG (fun _ => true) (zinA 53) (zinA 633) (zinA 634) (yX0_leastOwed, cX0_leastOwed, 3, some .int, 1, qc10) && qfD yX0_leastOwed.cls 3 cX0_leastOwed (qall qc10) [0, 173, 0, 0, 0, 0, 0, 0, 0, 0, 166, 0, 170, 0, 0, 0, 169, 0, 0, 636, 0, 0, 0, 0, 0, 0, 172, 0, 0, 571, 0]) = true := by decide +kernel
theorem qk_10 : qmok (yX0_leastOwed, cX0_leastOwed, 3, some .int, 1, qc10) := qmE_ok qw_10 rfl qv_10
set_option maxRecDepth 100000 in
theorem qw_11 : znt lw_tbl 643 = some (.code yX0_mostOwed cX0_mostOwed 3 (some .int)) := by rfl
set_option maxRecDepth 100000 in
theorem qv_11 : (qmG (fun _ => true) (zinA 53) (zinA 641) (zinA 642) (yX0_mostOwed, cX0_mostOwed, 3, some .int, 1, qc11) && qfD yX0_mostOwed.cls 3 cX0_mostOwed (qall qc11) [0, 173, 0, 0, 0, 0, 0, 0, 0, 0, 166, 0, 170, 0, 0, 0, 169, 0, 0, 644, 0, 0, 0, 0, 0, 0, 172, 0, 0, 571, 0]) = true := by decide +kernel
theorem qk_11 : qmok (yX0_mostOwed, cX0_mostOwed, 3, some .int, 1, qc11) := qmE_ok qw_11 rfl qv_11
set_option maxRecDepth 100000 in
theorem qw_12 : znt lw_tbl 659 = some (.code yX0_spread cX0_spread 1 (some .int)) := by rfl
set_option maxRecDepth 100000 in
theorem qv_12 : (qmG (fun _ => true) (zinA 53) (zinA 657) (zinA 658) (yX0_spread, cX0_spread, 1, some .int, 1, qc12) && qfD yX0_spread.cls 1 cX0_spread (qall qc12) [0, 640, 0, 632, 0, 0]) = true := by decide +kernel
theorem qk_12 : qmok (yX0_spread, cX0_spread, 1, some .int, 1, qc12) := qmE_ok qw_12 rfl qv_12
set_option maxRecDepth 100000 in
theorem qw_13 : znt lw_tbl 631 = some (.code yX0_owedBy cX0_owedBy 6 (some .int)) := by rfl
set_option maxRecDepth 100000 in
theorem qv_13 : (qmG (fun _ => true) (zinA 53) (zinA 629) (zinA 630) (yX0_owedBy, cX0_owedBy, 6, some .int, 1, qc13) && qfD yX0_owedBy.cls 6 cX0_owedBy (qall qc13) [0, 0, 0, 0, 632, 0, 0, 0, 0, 0, 640, 0, 0, 0, 0, 0, 0, 0, 0, 0, 168, 0, 0, 0, 0, 0, 0, 0, 168, 0, 0, 0, 648, 0, 0, 300, 0, 0, 0, 0, 0, 166, 0, 549, 0, 0, 0, 0, 0, 0, 172, 0, 0, 571, 0]) = true := by decide +kernel
theorem qk_13 : qmok (yX0_owedBy, cX0_owedBy, 6, some .int, 1, qc13) := qmE_ok qw_13 rfl qv_13
set_option maxRecDepth 100000 in
theorem qw_14 : znt lw_tbl 675 = some (.code yX0_couldBe cX0_couldBe 4 (some .boolean)) := by rfl
set_option maxRecDepth 100000 in
theorem qv_14 : (qmG (fun _ => true) (zinA 53) (zinA 673) (zinA 674) (yX0_couldBe, cX0_couldBe, 4, some .boolean, 1, qc14) && qfD yX0_couldBe.cls 4 cX0_couldBe (qall qc14) [0, 0, 0, 0, 0, 0, 0, 676, 0, 0, 0, 570, 0, 0, 0, 0, 0, 302, 0, 0, 0, 0, 0, 0, 0, 0, 0, 0, 0, 0, 0, 0, 0, 677, 0, 169, 0, 0, 0, 0, 0, 0, 0, 0, 0]) = true := by decide +kernel
theorem qk_14 : qmok (yX0_couldBe, cX0_couldBe, 4, some .boolean, 1, qc14) := qmE_ok qw_14 rfl qv_14
set_option maxRecDepth 100000 in
theorem qw_15 : znt lw_tbl 680 = some (.code yX0_looseSum cX0_looseSum 5 (some .int)) := by rfl
set_option maxRecDepth 100000 in
theorem qv_15 : (qmG (fun _ => true) (zinA 53) (zinA 679) (zinA 12) (yX0_looseSum, cX0_looseSum, 5, some .int, 1, qc15) && qfD yX0_looseSum.cls 5 cX0_looseSum (qall qc15) [0, 0, 0, 0, 0, 0, 0, 0, 168, 0, 0, 0, 0, 0, 0, 570, 0, 0, 0, 0, 0, 0, 0, 0, 0, 0, 0]) = true := by decide +kernel
theorem qk_15 : qmok (yX0_looseSum, cX0_looseSum, 5, some .int, 1, qc15) := qmE_ok qw_15 rfl qv_15
set_option maxRecDepth 100000 in
theorem qw_16 : znt lw_tbl 684 = some (.code yX0_settlingSet cX0_settlingSet 5 (some .int)) := by rfl
set_option maxRecDepth 100000 in
theorem qv_16 : (qmG (fun _ => true) (zinA 53) (zinA 682) (zinA 683) (yX0_settlingSet, cX0_settlingSet, 5, some .int, 1, qc16) && qfD yX0_settlingSet.cls 5 cX0_settlingSet (qall qc16) [0, 171, 0, 0, 0, 0, 0, 0, 0, 0, 0, 0, 0, 0, 0, 0, 0, 0, 0, 0, 685, 0, 0, 0, 0, 0, 691, 0, 0, 0, 0, 0, 0, 0, 0, 0]) = true := by decide +kernel
theorem qk_16 : qmok (yX0_settlingSet, cX0_settlingSet, 5, some .int, 1, qc16) := qmE_ok qw_16 rfl qv_16
set_option maxRecDepth 100000 in
theorem qw_17 : znt lw_tbl 694 = some (.code yX0_settlesBy cX0_settlesBy 5 (some .boolean)) := by rfl
set_option maxRecDepth 100000 in
theorem qv_17 : (qmG (fun _ => true) (zinA 53) (zinA 693) (zinA 13) (yX0_settlesBy, cX0_settlesBy, 5, some .boolean, 1, qc17) && qfD yX0_settlesBy.cls 5 cX0_settlesBy (qall qc17) [0, 0, 0, 0, 0, 0, 0, 0, 0, 0, 0, 0, 0, 0, 0, 0, 0, 558, 0, 0, 0, 695, 0, 0, 0, 0, 0, 0, 0, 0, 0, 0, 0, 0, 0, 0, 0, 0, 0, 0, 0, 0, 0, 0, 696, 0, 0, 0, 0]) = true := by decide +kernel
theorem qk_17 : qmok (yX0_settlesBy, cX0_settlesBy, 5, some .boolean, 1, qc17) := qmE_ok qw_17 rfl qv_17
set_option maxRecDepth 100000 in
theorem qw_18 : znt lw_tbl 708 = some (.code yX0_tellingMost cX0_tellingMost 6 (some .int)) := by rfl
set_option maxRecDepth 100000 in
theorem qv_18 : (qmG (fun _ => true) (zinA 53) (zinA 706) (zinA 707) (yX0_tellingMost, cX0_tellingMost, 6, some .int, 1, qc18) && qfD yX0_tellingMost.cls 6 cX0_tellingMost (qall qc18) [0, 0, 0, 0, 0, 0, 0, 0, 0, 0, 0, 570, 0, 0, 0, 0, 709, 0, 0, 0, 0, 0, 0, 0, 0, 0, 0, 0, 0, 0, 0, 0]) = true := by decide +kernel
theorem qk_18 : qmok (yX0_tellingMost, cX0_tellingMost, 6, some .int, 1, qc18) := qmE_ok qw_18 rfl qv_18
set_option maxRecDepth 100000 in
theorem qw_19 : znt lw_tbl 712 = some (.code yX0_worstSpread cX0_worstSpread 6 (some .int)) := by rfl
set_option maxRecDepth 100000 in
theorem qv_19 : (qmG (fun _ => true) (zinA 53) (zinA 711) (zinA 15) (yX0_worstSpread, cX0_worstSpread, 6, some .int, 1, qc19) && qfD yX0_worstSpread.cls 6 cX0_worstSpread (qall qc19) [0, 0, 0, 0, 0, 713, 0, 0, 0, 0, 714, 0, 0, 0, 0, 0, 0, 0, 558, 0, 0, 695, 571, 0, 0, 0, 0, 696, 0, 0, 0, 0]) = true := by decide +kernel
theorem qk_19 : qmok (yX0_worstSpread, cX0_worstSpread, 6, some .int, 1, qc19) := qmE_ok qw_19 rfl qv_19
set_option maxRecDepth 100000 in
theorem qw_20 : znt lw_tbl 822 = some (.code yX0_sumOfSpan cX0_sumOfSpan 4 (some .int)) := by rfl
set_option maxRecDepth 100000 in
theorem qv_20 : (qmG (fun _ => true) (zinA 53) (zinA 820) (zinA 821) (yX0_sumOfSpan, cX0_sumOfSpan, 4, some .int, 1, qc20) && qfD yX0_sumOfSpan.cls 4 cX0_sumOfSpan (qall qc20) [0, 168, 0, 0, 0, 0, 0, 0, 0, 0, 311, 0, 0, 0]) = true := by decide +kernel
theorem qk_20 : qmok (yX0_sumOfSpan, cX0_sumOfSpan, 4, some .int, 1, qc20) := qmE_ok qw_20 rfl qv_20
set_option maxRecDepth 100000 in
theorem qw_21 : znt lw_tbl 826 = some (.code yX0_tooMuch cX0_tooMuch 5 (some .int)) := by rfl
set_option maxRecDepth 100000 in
theorem qv_21 : (qmG (fun _ => true) (zinA 53) (zinA 824) (zinA 825) (yX0_tooMuch, cX0_tooMuch, 5, some .int, 1, qc21) && qfD yX0_tooMuch.cls 5 cX0_tooMuch (qall qc21) [0, 168, 0, 0, 0, 0, 0, 0, 0, 0, 166, 0, 296, 0, 0, 549, 0, 0, 0, 0, 166, 0, 0, 0, 648, 549, 0, 571, 0]) = true := by decide +kernel
theorem qk_21 : qmok (yX0_tooMuch, cX0_tooMuch, 5, some .int, 1, qc21) := qmE_ok qw_21 rfl qv_21
set_option maxRecDepth 100000 in
theorem qw_22 : znt lw_tbl 547 = some (.code yX0_look cX0_look 5 none) := by rfl
set_option maxRecDepth 100000 in
theorem qv_22 : (qmG (fun _ => true) (zinA 53) (zinA 545) (zinA 546) (yX0_look, cX0_look, 5, none, 1, qc22) && qfD yX0_look.cls 5 cX0_look (qall qc22) []) = true := by decide +kernel
theorem qk_22 : qmok (yX0_look, cX0_look, 5, none, 1, qc22) := qmE_ok qw_22 rfl qv_22
set_option maxRecDepth 100000 in
theorem qw_23 : znt lw_tbl 836 = some (.code yX1_takeOver cX1_takeOver 2 none) := by rfl
set_option maxRecDepth 100000 in
theorem qv_23 : (qmG (fun _ => true) (zinA 55) (zinA 834) (zinA 835) (yX1_takeOver, cX1_takeOver, 2, none, 2, qc23) && qfD yX1_takeOver.cls 2 cX1_takeOver (qall qc23) [0, 268, 0, 268, 837, 0, 270, 0, 270, 842, 0, 272, 0, 272, 847, 0, 0, 274, 274, 0]) = true := by decide +kernel
theorem qk_23 : qmok (yX1_takeOver, cX1_takeOver, 2, none, 2, qc23) := qmE_ok qw_23 rfl qv_23
set_option maxRecDepth 100000 in
theorem qw_24 : znt lw_tbl 547 = some (.code yX0_look cX0_look 5 none) := by rfl
set_option maxRecDepth 100000 in
theorem qv_24 : (qmG (fun _ => true) (zinA 53) (zinA 545) (zinA 546) (yX0_look, cX0_look, 5, none, 1, qc24) && qfD yX0_look.cls 5 cX0_look (qall qc24) []) = true := by decide +kernel
theorem qk_24 : qmok (yX0_look, cX0_look, 5, none, 1, qc24) := qmE_ok qw_24 rfl qv_24
set_option maxRecDepth 100000 in
theorem qw_25 : znt lw_tbl 722 = some (.code yX2_add cX2_add 4 (some .int)) := by rfl
set_option maxRecDepth 100000 in
theorem qv_25 : (qmG (fun _ => true) (zinA 56) (zinA 720) (zinA 721) (yX2_add, cX2_add, 4, some .int, 3, qc25) && qfD yX2_add.cls 4 cX2_add (qall qc25) [0, 212, 0, 0, 0, 0, 0, 203, 0, 212, 0, 0, 0, 205, 0, 212, 0, 0, 0, 207, 0, 212, 0, 0, 0, 208, 0, 212, 0, 0, 0, 209, 0, 212, 0, 0, 0, 210, 0, 212, 0, 0, 0, 211, 0, 212, 0, 0, 0, 0, 212, 0, 0, 212, 0, 212, 0, 0, 0]) = true := by decide +kernel
theorem qk_25 : qmok (yX2_add, cX2_add, 4, some .int, 3, qc25) := qmE_ok qw_25 rfl qv_25
set_option maxRecDepth 100000 in
theorem qw_26 : znt lw_tbl 738 = some (.code yX2_holdOf cX2_holdOf 4 (some .int)) := by rfl
set_option maxRecDepth 100000 in
theorem qv_26 : (qmG (fun _ => true) (zinA 56) (zinA 736) (zinA 737) (yX2_holdOf, cX2_holdOf, 4, some .int, 3, qc26) && qfD yX2_holdOf.cls 4 cX2_holdOf (qall qc26) [0, 0, 207, 0, 0, 0, 739, 740, 0, 0, 207, 0, 0, 0, 0, 0, 0, 0, 208, 0, 0, 0, 0, 0, 0, 0, 211, 0, 0, 0, 0, 0, 0, 0, 0, 0, 0, 0, 0]) = true := by decide +kernel
theorem qk_26 : qmok (yX2_holdOf, cX2_holdOf, 4, some .int, 3, qc26) := qmE_ok qw_26 rfl qv_26
set_option maxRecDepth 100000 in
theorem qw_27 : znt lw_tbl 752 = some (.code yX2_isAside cX2_isAside 2 (some .boolean)) := by rfl
set_option maxRecDepth 100000 in
theorem qv_27 : (qmG (fun _ => true) (zinA 56) (zinA 750) (zinA 751) (yX2_isAside, cX2_isAside, 2, some .boolean, 3, qc27) && qfD yX2_isAside.cls 2 cX2_isAside (qall qc27) [0, 209, 0, 0, 0, 0, 0, 0, 0]) = true := by decide +kernel
theorem qk_27 : qmok (yX2_isAside, cX2_isAside, 2, some .boolean, 3, qc27) := qmE_ok qw_27 rfl qv_27
set_option maxRecDepth 100000 in
theorem qw_28 : znt lw_tbl 756 = some (.code yX2_putAside cX2_putAside 3 (some .int)) := by rfl
set_option maxRecDepth 100000 in
theorem qv_28 : (qmG (fun _ => true) (zinA 56) (zinA 754) (zinA 755) (yX2_putAside, cX2_putAside, 3, some .int, 3, qc28) && qfD yX2_putAside.cls 3 cX2_putAside (qall qc28) [0, 208, 0, 0, 0, 0, 209, 0, 0, 205, 0, 0, 0, 0, 207, 0, 0, 0, 0, 208, 0, 0, 0, 0, 0]) = true := by decide +kernel
theorem qk_28 : qmok (yX2_putAside, cX2_putAside, 3, some .int, 3, qc28) := qmE_ok qw_28 rfl qv_28
set_option maxRecDepth 100000 in
theorem qw_29 : znt lw_tbl 764 = some (.code yX2_told cX2_told 3 (some .int)) := by rfl
set_option maxRecDepth 100000 in
theorem qv_29 : (qmG (fun _ => true) (zinA 56) (zinA 762) (zinA 763) (yX2_told, cX2_told, 3, some .int, 3, qc29) && qfD yX2_told.cls 3 cX2_told (qall qc29) [0, 0, 0, 203, 0, 0, 0, 0, 205, 0, 0, 0, 0, 207, 0, 0, 0, 0, 208, 0, 0, 0, 0, 209, 0, 0, 0, 0, 210, 0, 0, 0, 0, 211, 0, 0, 0]) = true := by decide +kernel
theorem qk_29 : qmok (yX2_told, cX2_told, 3, some .int, 3, qc29) := qmE_ok qw_29 rfl qv_29
set_option maxRecDepth 100000 in
theorem qw_30 : znt lw_tbl 871 = some (.code yX2_heldOfAll cX2_heldOfAll 3 (some .int)) := by rfl
set_option maxRecDepth 100000 in
theorem qv_30 : (qmG (fun _ => true) (zinA 56) (zinA 869) (zinA 870) (yX2_heldOfAll, cX2_heldOfAll, 3, some .int, 3, qc30) && qfD yX2_heldOfAll.cls 3 cX2_heldOfAll (qall qc30) [0, 0, 0, 0, 0, 0, 212, 0, 0, 0, 208, 0, 0, 0, 0, 0, 0, 0, 0]) = true := by decide +kernel
theorem qk_30 : qmok (yX2_heldOfAll, cX2_heldOfAll, 3, some .int, 3, qc30) := qmE_ok qw_30 rfl qv_30
set_option maxRecDepth 100000 in
theorem qw_31 : znt lw_tbl 875 = some (.code yX2_feesOfAll cX2_feesOfAll 3 (some .int)) := by rfl
set_option maxRecDepth 100000 in
theorem qv_31 : (qmG (fun _ => true) (zinA 56) (zinA 873) (zinA 874) (yX2_feesOfAll, cX2_feesOfAll, 3, some .int, 3, qc31) && qfD yX2_feesOfAll.cls 3 cX2_feesOfAll (qall qc31) [0, 0, 0, 0, 0, 0, 212, 0, 0, 0, 211, 0, 0, 0, 0, 0, 0, 0, 0]) = true := by decide +kernel
theorem qk_31 : qmok (yX2_feesOfAll, cX2_feesOfAll, 3, some .int, 3, qc31) := qmE_ok qw_31 rfl qv_31
set_option maxRecDepth 100000 in
theorem qw_32 : znt lw_tbl 879 = some (.code yX2_lostOfAll cX2_lostOfAll 3 (some .int)) := by rfl
set_option maxRecDepth 100000 in
theorem qv_32 : (qmG (fun _ => true) (zinA 56) (zinA 877) (zinA 878) (yX2_lostOfAll, cX2_lostOfAll, 3, some .int, 3, qc32) && qfD yX2_lostOfAll.cls 3 cX2_lostOfAll (qall qc32) [0, 0, 0, 0, 0, 0, 212, 0, 0, 0, 0, 880, 0, 0, 211, 0, 0, 0, 0, 0, 0, 0, 0, 0, 0]) = true := by decide +kernel
theorem qk_32 : qmok (yX2_lostOfAll, cX2_lostOfAll, 3, some .int, 3, qc32) := qmE_ok qw_32 rfl qv_32
set_option maxRecDepth 100000 in
theorem qw_33 : znt lw_tbl 840 = some (.code yX2_takeOver cX2_takeOver 2 none) := by rfl
set_option maxRecDepth 100000 in
theorem qv_33 : (qmG (fun _ => true) (zinA 56) (zinA 838) (zinA 839) (yX2_takeOver, cX2_takeOver, 2, none, 3, qc33) && qfD yX2_takeOver.cls 2 cX2_takeOver (qall qc33) [0, 0, 212, 212, 0, 203, 0, 203, 841, 0, 205, 0, 205, 841, 0, 207, 0, 207, 841, 0, 208, 0, 208, 841, 0, 209, 0, 209, 841, 0, 210, 0, 210, 841, 0, 211, 0, 211, 841, 0]) = true := by decide +kernel
theorem qk_33 : qmok (yX2_takeOver, cX2_takeOver, 2, none, 3, qc33) := qmE_ok qw_33 rfl qv_33
set_option maxRecDepth 100000 in
theorem qw_34 : znt lw_tbl 547 = some (.code yX0_look cX0_look 5 none) := by rfl
set_option maxRecDepth 100000 in
theorem qv_34 : (qmG (fun _ => true) (zinA 53) (zinA 545) (zinA 546) (yX0_look, cX0_look, 5, none, 1, qc34) && qfD yX0_look.cls 5 cX0_look (qall qc34) []) = true := by decide +kernel
theorem qk_34 : qmok (yX0_look, cX0_look, 5, none, 1, qc34) := qmE_ok qw_34 rfl qv_34
set_option maxRecDepth 100000 in
theorem qw_35 : znt lw_tbl 782 = some (.code yX3_add cX3_add 4 (some .int)) := by rfl
set_option maxRecDepth 100000 in
theorem qv_35 : (qmG (fun _ => true) (zinA 57) (zinA 780) (zinA 781) (yX3_add, cX3_add, 4, some .int, 4, qc35) && qfD yX3_add.cls 4 cX3_add (qall qc35) [0, 243, 0, 0, 0, 0, 0, 237, 0, 243, 0, 0, 0, 239, 0, 243, 0, 0, 0, 241, 0, 243, 0, 0, 0, 0, 243, 0, 0, 243, 0, 243, 0, 0, 0]) = true := by decide +kernel
theorem qk_35 : qmok (yX3_add, cX3_add, 4, some .int, 4, qc35) := qmE_ok qw_35 rfl qv_35
set_option maxRecDepth 100000 in
theorem qw_36 : znt lw_tbl 845 = some (.code yX3_takeOver cX3_takeOver 2 none) := by rfl
set_option maxRecDepth 100000 in
theorem qv_36 : (qmG (fun _ => true) (zinA 57) (zinA 843) (zinA 844) (yX3_takeOver, cX3_takeOver, 2, none, 4, qc36) && qfD yX3_takeOver.cls 2 cX3_takeOver (qall qc36) [0, 0, 243, 243, 0, 237, 0, 237, 846, 0, 239, 0, 239, 846, 0, 241, 0, 241, 846, 0]) = true := by decide +kernel
theorem qk_36 : qmok (yX3_takeOver, cX3_takeOver, 2, none, 4, qc36) := qmE_ok qw_36 rfl qv_36
set_option maxRecDepth 100000 in
theorem qw_37 : znt lw_tbl 547 = some (.code yX0_look cX0_look 5 none) := by rfl
set_option maxRecDepth 100000 in
theorem qv_37 : (qmG (fun _ => true) (zinA 53) (zinA 545) (zinA 546) (yX0_look, cX0_look, 5, none, 1, qc37) && qfD yX0_look.cls 5 cX0_look (qall qc37) []) = true := by decide +kernel
theorem qk_37 : qmok (yX0_look, cX0_look, 5, none, 1, qc37) := qmE_ok qw_37 rfl qv_37
set_option maxRecDepth 100000 in
theorem qw_38 : znt lw_tbl 794 = some (.code yX4_add cX4_add 2 (some .boolean)) := by rfl
set_option maxRecDepth 100000 in
theorem qv_38 : (qmG (fun _ => true) (zinA 58) (zinA 792) (zinA 793) (yX4_add, cX4_add, 2, some .boolean, 5, qc38) && qfD yX4_add.cls 2 cX4_add (qall qc38) [0, 261, 0, 0, 0, 0, 0, 260, 0, 261, 0, 0, 0, 0, 261, 0, 0, 261, 0, 0]) = true := by decide +kernel
theorem qk_38 : qmok (yX4_add, cX4_add, 2, some .boolean, 5, qc38) := qmE_ok qw_38 rfl qv_38
set_option maxRecDepth 100000 in
theorem qw_39 : znt lw_tbl 798 = some (.code yX4_waitOfLast cX4_waitOfLast 4 (some .int)) := by rfl
set_option maxRecDepth 100000 in
theorem qv_39 : (qmG (fun _ => true) (zinA 58) (zinA 796) (zinA 797) (yX4_waitOfLast, cX4_waitOfLast, 4, some .int, 5, qc39) && qfD yX4_waitOfLast.cls 4 cX4_waitOfLast (qall qc39) [0, 0, 0, 0, 0, 0, 0, 0, 261, 0, 0, 0, 260, 0, 0, 0, 0, 0, 0, 0, 0, 0, 260, 0, 0, 0, 0, 0, 0, 0]) = true := by decide +kernel
theorem qk_39 : qmok (yX4_waitOfLast, cX4_waitOfLast, 4, some .int, 5, qc39) := qmE_ok qw_39 rfl qv_39
