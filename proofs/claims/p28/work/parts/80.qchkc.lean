set_option maxRecDepth 100000 in
theorem qw_82 : znt lw_tbl 534 = some (.code yX9_slip cX9_slip 5 (some .int)) := by rfl
set_option maxRecDepth 100000 in
theorem qv_82 : (qmG (fun _ => true) (zinA 50) (zinA 532) (zinA 533) (yX9_slip, cX9_slip, 5, some .int, 10, qc82) && qfD yX9_slip.cls 5 cX9_slip (qall qc82) [0, 513, 0, 0, 516, 0, 0, 0, 0, 370, 0, 0, 0, 0, 347, 0, 0, 0, 0, 0, 0, 535, 0, 346, 0, 562, 0, 0, 0, 346, 0, 0, 566, 0, 0, 0, 346, 0, 0, 572, 0, 0, 0, 0, 303, 0, 0, 0, 0, 305, 0, 0, 348, 275, 0, 0, 0, 0, 348, 275, 535, 0, 346, 577, 0]) = true := by decide +kernel
theorem qk_82 : qmok (yX9_slip, cX9_slip, 5, some .int, 10, qc82) := qmE_ok qw_82 rfl qv_82
set_option maxRecDepth 100000 in
theorem qw_83 : znt lw_tbl 610 = some (.code yX9_could cX9_could 3 (some .int)) := by rfl
set_option maxRecDepth 100000 in
theorem qv_83 : (qmG (fun _ => true) (zinA 50) (zinA 608) (zinA 609) (yX9_could, cX9_could, 3, some .int, 10, qc83) && qfD yX9_could.cls 3 cX9_could (qall qc83) [0, 513, 0, 0, 0, 0, 370, 0, 0, 0, 0, 0, 0, 535, 0, 346, 577, 0]) = true := by decide +kernel
theorem qk_83 : qmok (yX9_could, cX9_could, 3, some .int, 10, qc83) := qmE_ok qw_83 rfl qv_83
set_option maxRecDepth 100000 in
theorem qw_84 : znt lw_tbl 614 = some (.code yX9_owed cX9_owed 4 (some .int)) := by rfl
set_option maxRecDepth 100000 in
theorem qv_84 : (qmG (fun _ => true) (zinA 50) (zinA 612) (zinA 613) (yX9_owed, cX9_owed, 4, some .int, 10, qc84) && qfD yX9_owed.cls 4 cX9_owed (qall qc84) [0, 513, 0, 0, 0, 0, 370, 0, 0, 0, 0, 370, 0, 0, 0, 0, 0, 0, 615, 0, 346, 0, 347, 0, 0, 0, 628, 0]) = true := by decide +kernel
theorem qk_84 : qmok (yX9_owed, cX9_owed, 4, some .int, 10, qc84) := qmE_ok qw_84 rfl qv_84
set_option maxRecDepth 100000 in
theorem qw_85 : znt lw_tbl 655 = some (.code yX9_stands cX9_stands 3 (some .int)) := by rfl
set_option maxRecDepth 100000 in
theorem qv_85 : (qmG (fun _ => true) (zinA 50) (zinA 653) (zinA 654) (yX9_stands, cX9_stands, 3, some .int, 10, qc85) && qfD yX9_stands.cls 3 cX9_stands (qall qc85) [0, 513, 0, 0, 0, 0, 370, 0, 0, 0, 0, 0, 0, 615, 0, 346, 656, 0, 0, 0, 0, 0]) = true := by decide +kernel
theorem qk_85 : qmok (yX9_stands, cX9_stands, 3, some .int, 10, qc85) := qmE_ok qw_85 rfl qv_85
set_option maxRecDepth 100000 in
theorem qw_86 : znt lw_tbl 663 = some (.code yX9_span cX9_span 6 (some .int)) := by rfl
set_option maxRecDepth 100000 in
theorem qv_86 : (qmG (fun _ => true) (zinA 50) (zinA 661) (zinA 662) (yX9_span, cX9_span, 6, some .int, 10, qc86) && qfD yX9_span.cls 6 cX9_span (qall qc86) [0, 513, 0, 0, 0, 0, 370, 0, 0, 516, 0, 0, 0, 0, 370, 0, 0, 0, 0, 0, 0, 535, 0, 346, 0, 664, 0, 0, 0, 0, 347, 0, 0, 0, 0, 0, 0, 346, 0, 0, 566, 0, 0, 346, 0, 0, 572, 0]) = true := by decide +kernel
theorem qk_86 : qmok (yX9_span, cX9_span, 6, some .int, 10, qc86) := qmE_ok qw_86 rfl qv_86
set_option maxRecDepth 100000 in
theorem qw_87 : znt lw_tbl 671 = some (.code yX9_settles cX9_settles 6 (some .int)) := by rfl
set_option maxRecDepth 100000 in
theorem qv_87 : (qmG (fun _ => true) (zinA 50) (zinA 669) (zinA 670) (yX9_settles, cX9_settles, 6, some .int, 10, qc87) && qfD yX9_settles.cls 6 cX9_settles (qall qc87) [0, 513, 0, 0, 0, 0, 370, 0, 0, 0, 0, 370, 0, 0, 0, 0, 0, 0, 615, 0, 347, 0, 0, 0, 0, 346, 0, 0, 299, 672, 0, 0, 0, 0, 346, 0, 299, 681, 0, 0, 0, 0, 700, 0, 0, 0]) = true := by decide +kernel
theorem qk_87 : qmok (yX9_settles, cX9_settles, 6, some .int, 10, qc87) := qmE_ok qw_87 rfl qv_87
set_option maxRecDepth 100000 in
theorem qw_88 : znt lw_tbl 704 = some (.code yX9_tells cX9_tells 3 (some .int)) := by rfl
set_option maxRecDepth 100000 in
theorem qv_88 : (qmG (fun _ => true) (zinA 50) (zinA 702) (zinA 703) (yX9_tells, cX9_tells, 3, some .int, 10, qc88) && qfD yX9_tells.cls 3 cX9_tells (qall qc88) [0, 513, 0, 0, 0, 0, 370, 0, 0, 0, 0, 0, 0, 615, 0, 346, 0, 347, 0, 0, 705, 0]) = true := by decide +kernel
theorem qk_88 : qmok (yX9_tells, cX9_tells, 3, some .int, 10, qc88) := qmE_ok qw_88 rfl qv_88
set_option maxRecDepth 100000 in
theorem qw_89 : znt lw_tbl 718 = some (.code yX9_debt cX9_debt 4 (some .int)) := by rfl
set_option maxRecDepth 100000 in
theorem qv_89 : (qmG (fun _ => true) (zinA 50) (zinA 716) (zinA 717) (yX9_debt, cX9_debt, 4, some .int, 10, qc89) && qfD yX9_debt.cls 4 cX9_debt (qall qc89) [0, 513, 0, 0, 0, 0, 370, 0, 0, 0, 0, 0, 0, 348, 275, 615, 0, 346, 0, 347, 0, 0, 0, 628, 0, 0, 0, 0, 0, 0, 348, 269, 0, 0, 0, 348, 275, 719, 0]) = true := by decide +kernel
theorem qk_89 : qmok (yX9_debt, cX9_debt, 4, some .int, 10, qc89) := qmE_ok qw_89 rfl qv_89
set_option maxRecDepth 100000 in
theorem qw_90 : znt lw_tbl 726 = some (.code yX9_hold cX9_hold 8 (some .int)) := by rfl
set_option maxRecDepth 100000 in
theorem qv_90 : (qmG (fun _ => true) (zinA 50) (zinA 724) (zinA 725) (yX9_hold, cX9_hold, 8, some .int, 10, qc90) && qfD yX9_hold.cls 8 cX9_hold (qall qc90) [0, 513, 0, 0, 0, 0, 370, 0, 0, 0, 0, 0, 0, 370, 0, 0, 0, 0, 370, 0, 0, 0, 0, 0, 0, 0, 0, 0, 0, 0, 0, 0, 0, 0, 0, 0, 0, 348, 269, 213, 0, 0, 348, 269, 204, 0, 0, 0, 0, 0, 0, 727, 0, 0, 0, 348, 269, 0, 0, 0, 0, 735, 0, 0, 0, 0, 0, 0]) = true := by decide +kernel
theorem qk_90 : qmok (yX9_hold, cX9_hold, 8, some .int, 10, qc90) := qmE_ok qw_90 rfl qv_90
set_option maxRecDepth 100000 in
theorem qw_91 : znt lw_tbl 744 = some (.code yX9_set cX9_set 2 (some .int)) := by rfl
set_option maxRecDepth 100000 in
theorem qv_91 : (qmG (fun _ => true) (zinA 50) (zinA 742) (zinA 743) (yX9_set, cX9_set, 2, some .int, 10, qc91) && qfD yX9_set.cls 2 cX9_set (qall qc91) [0, 0, 745, 0, 0, 0, 0, 348, 269, 0, 749, 0, 0, 0, 0, 348, 269, 0, 753, 0]) = true := by decide +kernel
theorem qk_91 : qmok (yX9_set, cX9_set, 2, some .int, 10, qc91) := qmE_ok qw_91 rfl qv_91
set_option maxRecDepth 100000 in
theorem qw_92 : znt lw_tbl 760 = some (.code yX9_about cX9_about 3 (some .int)) := by rfl
set_option maxRecDepth 100000 in
theorem qv_92 : (qmG (fun _ => true) (zinA 50) (zinA 758) (zinA 759) (yX9_about, cX9_about, 3, some .int, 10, qc92) && qfD yX9_about.cls 3 cX9_about (qall qc92) [0, 0, 745, 0, 0, 0, 0, 370, 0, 0, 0, 0, 348, 269, 0, 0, 761, 0]) = true := by decide +kernel
theorem qk_92 : qmok (yX9_about, cX9_about, 3, some .int, 10, qc92) := qmE_ok qw_92 rfl qv_92
set_option maxRecDepth 100000 in
theorem qw_93 : znt lw_tbl 768 = some (.code yX9_right cX9_right 4 (some .int)) := by rfl
set_option maxRecDepth 100000 in
theorem qv_93 : (qmG (fun _ => true) (zinA 50) (zinA 766) (zinA 767) (yX9_right, cX9_right, 4, some .int, 10, qc93) && qfD yX9_right.cls 4 cX9_right (qall qc93) [0, 0, 745, 0, 0, 0, 0, 370, 0, 0, 0, 0, 0, 348, 269, 204, 0, 0, 0, 615, 0, 348, 269, 206, 0, 0, 0, 0, 0, 346, 769, 0, 0, 0, 0, 0, 346, 770, 0, 0, 0, 0, 0]) = true := by decide +kernel
theorem qk_93 : qmok (yX9_right, cX9_right, 4, some .int, 10, qc93) := qmE_ok qw_93 rfl qv_93
set_option maxRecDepth 100000 in
theorem qw_94 : znt lw_tbl 774 = some (.code yX9_place cX9_place 7 (some .int)) := by rfl
set_option maxRecDepth 100000 in
theorem qv_94 : (qmG (fun _ => true) (zinA 50) (zinA 772) (zinA 773) (yX9_place, cX9_place, 7, some .int, 10, qc94) && qfD yX9_place.cls 7 cX9_place (qall qc94) [0, 513, 0, 0, 0, 0, 370, 0, 0, 0, 0, 370, 0, 0, 0, 0, 0, 0, 347, 0, 0, 315, 0, 0, 347, 0, 0, 317, 0, 0, 0, 348, 275, 0, 0, 0, 348, 275, 0, 0, 0, 0, 0, 0, 0, 0, 0, 0, 0, 0]) = true := by decide +kernel
theorem qk_94 : qmok (yX9_place, cX9_place, 7, some .int, 10, qc94) := qmE_ok qw_94 rfl qv_94
set_option maxRecDepth 100000 in
theorem qw_95 : znt lw_tbl 778 = some (.code yX9_letter cX9_letter 3 (some .int)) := by rfl
set_option maxRecDepth 100000 in
theorem qv_95 : (qmG (fun _ => true) (zinA 50) (zinA 776) (zinA 777) (yX9_letter, cX9_letter, 3, some .int, 10, qc95) && qfD yX9_letter.cls 3 cX9_letter (qall qc95) [0, 0, 745, 0, 0, 0, 0, 347, 0, 348, 269, 204, 0, 0, 0, 317, 0, 348, 275, 0, 0, 0, 348, 271, 0, 0, 348, 275, 0, 779, 0]) = true := by decide +kernel
theorem qk_95 : qmok (yX9_letter, cX9_letter, 3, some .int, 10, qc95) := qmE_ok qw_95 rfl qv_95
set_option maxRecDepth 100000 in
theorem qw_96 : znt lw_tbl 786 = some (.code yX9_post cX9_post 3 (some .int)) := by rfl
set_option maxRecDepth 100000 in
theorem qv_96 : (qmG (fun _ => true) (zinA 50) (zinA 784) (zinA 785) (yX9_post, cX9_post, 3, some .int, 10, qc96) && qfD yX9_post.cls 3 cX9_post (qall qc96) [0, 0, 0, 348, 271, 244, 0, 0, 370, 0, 0, 0, 0, 370, 0, 0, 0, 0, 0, 0, 348, 271, 238, 0, 0, 0, 0, 348, 271, 240, 0, 0, 0, 0, 348, 271, 242, 0, 0, 0, 0, 0, 731, 0]) = true := by decide +kernel
theorem qk_96 : qmok (yX9_post, cX9_post, 3, some .int, 10, qc96) := qmE_ok qw_96 rfl qv_96
set_option maxRecDepth 100000 in
theorem qw_97 : znt lw_tbl 790 = some (.code yX9_call cX9_call 3 (some .int)) := by rfl
set_option maxRecDepth 100000 in
theorem qv_97 : (qmG (fun _ => true) (zinA 50) (zinA 788) (zinA 789) (yX9_call, cX9_call, 3, some .int, 10, qc97) && qfD yX9_call.cls 3 cX9_call (qall qc97) [0, 513, 0, 0, 0, 0, 370, 0, 0, 0, 0, 348, 273, 0, 791, 0, 0, 0, 0, 348, 273, 795, 0]) = true := by decide +kernel
theorem qk_97 : qmok (yX9_call, cX9_call, 3, some .int, 10, qc97) := qmE_ok qw_97 rfl qv_97
set_option maxRecDepth 100000 in
theorem qw_98 : znt lw_tbl 802 = some (.code yX9_day cX9_day 1 (some .int)) := by rfl
set_option maxRecDepth 100000 in
theorem qv_98 : (qmG (fun _ => true) (zinA 50) (zinA 800) (zinA 801) (yX9_day, cX9_day, 1, some .int, 10, qc98) && qfD yX9_day.cls 1 cX9_day (qall qc98) [0, 348, 275, 0, 0, 0, 0, 0, 348, 0, 275, 0, 0, 275, 0, 348, 273, 803, 0]) = true := by decide +kernel
theorem qk_98 : qmok (yX9_day, cX9_day, 1, some .int, 10, qc98) := qmE_ok qw_98 rfl qv_98
set_option maxRecDepth 100000 in
theorem qw_99 : znt lw_tbl 810 = some (.code yX9_weight cX9_weight 4 (some .int)) := by rfl
set_option maxRecDepth 100000 in
theorem qv_99 : (qmG (fun _ => true) (zinA 50) (zinA 808) (zinA 809) (yX9_weight, cX9_weight, 4, some .int, 10, qc99) && qfD yX9_weight.cls 4 cX9_weight (qall qc99) [0, 0, 0, 370, 0, 0, 513, 0, 0, 516, 0, 0, 0, 0, 0, 0, 348, 275, 535, 0, 0, 0, 347, 0, 0, 0, 811, 0]) = true := by decide +kernel
theorem qk_99 : qmok (yX9_weight, cX9_weight, 4, some .int, 10, qc99) := qmE_ok qw_99 rfl qv_99
set_option maxRecDepth 100000 in
theorem qw_100 : znt lw_tbl 832 = some (.code yX9_keep cX9_keep 2 (some .int)) := by rfl
set_option maxRecDepth 100000 in
theorem qv_100 : (qmG (fun _ => true) (zinA 50) (zinA 830) (zinA 831) (yX9_keep, cX9_keep, 2, some .int, 10, qc100) && qfD yX9_keep.cls 2 cX9_keep (qall qc100) [0, 0, 0, 370, 0, 0, 0, 0, 349, 0, 0, 0, 348, 833, 0, 349, 0, 0, 0, 277, 0, 348, 275, 0]) = true := by decide +kernel
theorem qk_100 : qmok (yX9_keep, cX9_keep, 2, some .int, 10, qc100) := qmE_ok qw_100 rfl qv_100
set_option maxRecDepth 100000 in
theorem qw_101 : znt lw_tbl 855 = some (.code yX9_back cX9_back 2 (some .int)) := by rfl
set_option maxRecDepth 100000 in
theorem qv_101 : (qmG (fun _ => true) (zinA 50) (zinA 853) (zinA 854) (yX9_back, cX9_back, 2, some .int, 10, qc101) && qfD yX9_back.cls 2 cX9_back (qall qc101) [0, 0, 0, 370, 0, 0, 0, 0, 349, 0, 0, 277, 0, 0, 0, 0, 348, 0, 349, 0, 0, 833, 0, 348, 275, 0]) = true := by decide +kernel
theorem qk_101 : qmok (yX9_back, cX9_back, 2, some .int, 10, qc101) := qmE_ok qw_101 rfl qv_101
set_option maxRecDepth 100000 in
theorem qw_102 : znt lw_tbl 859 = some (.code yX9_count cX9_count 2 (some .int)) := by rfl
set_option maxRecDepth 100000 in
theorem qv_102 : (qmG (fun _ => true) (zinA 50) (zinA 857) (zinA 858) (yX9_count, cX9_count, 2, some .int, 10, qc102) && qfD yX9_count.cls 2 cX9_count (qall qc102) [0, 0, 0, 345, 100, 0, 0, 860, 0, 0, 864, 0, 0, 348, 269, 213, 0, 0, 348, 271, 244, 0, 0, 348, 273, 262, 0, 0, 348, 275, 0, 0, 344, 120, 0, 0, 348, 269, 868, 0, 0, 348, 269, 872, 0, 0, 348, 269, 876, 0, 0, 0]) = true := by decide +kernel
theorem qk_102 : qmok (yX9_count, cX9_count, 2, some .int, 10, qc102) := qmE_ok qw_102 rfl qv_102
set_option maxRecDepth 100000 in
theorem qw_103 : znt lw_tbl 884 = some (.code yX9_trace cX9_trace 1 (some .long)) := by rfl
set_option maxRecDepth 100000 in
theorem qv_103 : (qmG (fun _ => true) (zinA 50) (zinA 882) (zinA 883) (yX9_trace, cX9_trace, 1, some .long, 10, qc103) && qfD yX9_trace.cls 1 cX9_trace (qall qc103) [0, 350, 0]) = true := by decide +kernel
theorem qk_103 : qmok (yX9_trace, cX9_trace, 1, some .long, 10, qc103) := qmE_ok qw_103 rfl qv_103
set_option maxRecDepth 100000 in
theorem qw_104 : znt lw_tbl 372 = some (.code yX9_outside cX9_outside 3 (some .boolean)) := by rfl
set_option maxRecDepth 100000 in
theorem qv_104 : (qmG (fun _ => true) (zinA 50) (zinA 371) (zinA 0) (yX9_outside, cX9_outside, 3, some .boolean, 0, qc104) && qfD yX9_outside.cls 3 cX9_outside (qall qc104) [0, 0, 0, 0, 0, 0, 0, 0, 0, 0]) = true := by decide +kernel
theorem qk_104 : qmok (yX9_outside, cX9_outside, 3, some .boolean, 0, qc104) := qmE_ok qw_104 rfl qv_104
set_option maxRecDepth 100000 in
theorem qw_105 : znt lw_tbl 515 = some (.code yX9_noPerson cX9_noPerson 1 (some .boolean)) := by rfl
set_option maxRecDepth 100000 in
theorem qv_105 : (qmG (fun _ => true) (zinA 50) (zinA 514) (zinA 0) (yX9_noPerson, cX9_noPerson, 1, some .boolean, 0, qc105) && qfD yX9_noPerson.cls 1 cX9_noPerson (qall qc105) [0, 0, 0, 370, 0]) = true := by decide +kernel
theorem qk_105 : qmok (yX9_noPerson, cX9_noPerson, 1, some .boolean, 0, qc105) := qmE_ok qw_105 rfl qv_105
set_option maxRecDepth 100000 in
theorem qw_106 : znt lw_tbl 518 = some (.code yX9_noFortnight cX9_noFortnight 1 (some .boolean)) := by rfl
set_option maxRecDepth 100000 in
theorem qv_106 : (qmG (fun _ => true) (zinA 50) (zinA 517) (zinA 0) (yX9_noFortnight, cX9_noFortnight, 1, some .boolean, 0, qc106) && qfD yX9_noFortnight.cls 1 cX9_noFortnight (qall qc106) [0, 0, 0, 370, 0]) = true := by decide +kernel
theorem qk_106 : qmok (yX9_noFortnight, cX9_noFortnight, 1, some .boolean, 0, qc106) := qmE_ok qw_106 rfl qv_106
set_option maxRecDepth 100000 in
theorem qw_107 : znt lw_tbl 748 = some (.code yX9_noDebt cX9_noDebt 2 (some .boolean)) := by rfl
set_option maxRecDepth 100000 in
theorem qv_107 : (qmG (fun _ => true) (zinA 50) (zinA 747) (zinA 18) (yX9_noDebt, cX9_noDebt, 2, some .boolean, 10, qc107) && qfD yX9_noDebt.cls 2 cX9_noDebt (qall qc107) [0, 0, 0, 348, 269, 213, 0, 0, 370, 0]) = true := by decide +kernel
theorem qk_107 : qmok (yX9_noDebt, cX9_noDebt, 2, some .boolean, 10, qc107) := qmE_ok qw_107 rfl qv_107
set_option maxRecDepth 100000 in
theorem qw_108 : znt lw_tbl 538 = some (.code yX9_lookAt cX9_lookAt 3 none) := by rfl
set_option maxRecDepth 100000 in
theorem qv_108 : (qmG (fun _ => true) (zinA 50) (zinA 537) (zinA 7) (yX9_lookAt, cX9_lookAt, 3, none, 10, qc108) && qfD yX9_lookAt.cls 3 cX9_lookAt (qall qc108) [0, 346, 167, 0, 345, 0, 345, 0, 498, 539, 0, 346, 0, 347, 0, 0, 0, 544, 0]) = true := by decide +kernel
theorem qk_108 : qmok (yX9_lookAt, cX9_lookAt, 3, none, 10, qc108) := qmE_ok qw_108 rfl qv_108
set_option maxRecDepth 100000 in
theorem qw_109 : znt lw_tbl 618 = some (.code yX9_lookAtBounds cX9_lookAtBounds 3 none) := by rfl
set_option maxRecDepth 100000 in
theorem qv_109 : (qmG (fun _ => true) (zinA 50) (zinA 617) (zinA 10) (yX9_lookAtBounds, cX9_lookAtBounds, 3, none, 10, qc109) && qfD yX9_lookAtBounds.cls 3 cX9_lookAtBounds (qall qc109) [0, 0, 0, 535, 0, 346, 167, 0, 346, 619, 620, 0]) = true := by decide +kernel
theorem qk_109 : qmok (yX9_lookAtBounds, cX9_lookAtBounds, 3, none, 10, qc109) := qmE_ok qw_109 rfl qv_109
set_option maxRecDepth 100000 in
theorem qw_110 : znt lw_tbl 734 = some (.code yX9_howItIs cX9_howItIs 4 (some .int)) := by rfl
set_option maxRecDepth 100000 in
theorem qv_110 : (qmG (fun _ => true) (zinA 50) (zinA 733) (zinA 17) (yX9_howItIs, cX9_howItIs, 4, some .int, 10, qc110) && qfD yX9_howItIs.cls 4 cX9_howItIs (qall qc110) [0, 348, 271, 240, 0, 0, 0, 0, 0, 0, 0, 348, 275, 0, 0, 0, 0, 0, 0, 0, 348, 269, 204, 0, 348, 271, 238, 0, 0, 0, 0, 0, 347, 0, 0, 315, 0, 0, 0, 348, 271, 242, 0, 0, 0, 0, 0, 0, 0]) = true := by decide +kernel
theorem qk_110 : qmok (yX9_howItIs, cX9_howItIs, 4, some .int, 10, qc110) := qmE_ok qw_110 rfl qv_110
set_option maxRecDepth 100000 in
theorem qw_111 : znt lw_tbl 730 = some (.code yX9_mayBeHeld cX9_mayBeHeld 4 (some .boolean)) := by rfl
set_option maxRecDepth 100000 in
theorem qv_111 : (qmG (fun _ => true) (zinA 50) (zinA 729) (zinA 16) (yX9_mayBeHeld, cX9_mayBeHeld, 4, some .boolean, 10, qc111) && qfD yX9_mayBeHeld.cls 4 cX9_mayBeHeld (qall qc111) [0, 0, 0, 0, 348, 271, 244, 0, 0, 348, 271, 240, 0, 0, 0, 0, 0, 0, 0, 348, 275, 0, 0, 0, 0, 0, 0, 348, 271, 238, 0, 0, 0, 0, 0, 0, 0, 0, 731, 0, 0, 0, 0, 0, 0, 0, 0]) = true := by decide +kernel
theorem qk_111 : qmok (yX9_mayBeHeld, cX9_mayBeHeld, 4, some .boolean, 10, qc111) := qmE_ok qw_111 rfl qv_111
set_option maxRecDepth 100000 in
theorem qw_112 : znt lw_tbl 814 = some (.code yX9_weigh cX9_weigh 6 (some .int)) := by rfl
set_option maxRecDepth 100000 in
theorem qv_112 : (qmG (fun _ => true) (zinA 50) (zinA 813) (zinA 19) (yX9_weigh, cX9_weigh, 6, some .int, 10, qc112) && qfD yX9_weigh.cls 6 cX9_weigh (qall qc112) [0, 0, 350, 815, 0, 0, 0, 0, 350, 817, 0, 0, 0, 0, 0, 0, 0, 0, 0, 0, 0, 0, 811, 0, 0, 0, 0, 0, 0, 0, 0, 0, 297, 0, 0, 0, 0, 0, 0, 0, 346, 0, 0, 819, 0, 0, 0, 0, 0, 0, 0, 0, 0, 346, 0, 0, 823, 0, 0, 0, 0, 0, 0, 0, 0, 0, 348, 275, 827, 0, 0, 0, 0, 0, 0, 0, 0, 0, 0, 0, 828, 0]) = true := by decide +kernel
theorem qk_112 : qmok (yX9_weigh, cX9_weigh, 6, some .int, 10, qc112) := qmE_ok qw_112 rfl qv_112
set_option maxRecDepth 100000 in
theorem qw_113 : znt lw_tbl 863 = some (.code yX9_firmsOfAll cX9_firmsOfAll 3 (some .int)) := by rfl
set_option maxRecDepth 100000 in
theorem qv_113 : (qmG (fun _ => true) (zinA 50) (zinA 862) (zinA 20) (yX9_firmsOfAll, cX9_firmsOfAll, 3, some .int, 10, qc113) && qfD yX9_firmsOfAll.cls 3 cX9_firmsOfAll (qall qc113) [0, 0, 0, 0, 0, 0, 0, 0, 0, 347, 0, 0, 320, 0, 0, 0, 0, 0, 0]) = true := by decide +kernel
theorem qk_113 : qmok (yX9_firmsOfAll, cX9_firmsOfAll, 3, some .int, 10, qc113) := qmE_ok qw_113 rfl qv_113
set_option maxRecDepth 100000 in
theorem qw_114 : znt lw_tbl 867 = some (.code yX9_slipsOfAll cX9_slipsOfAll 4 (some .int)) := by rfl
set_option maxRecDepth 100000 in
theorem qv_114 : (qmG (fun _ => true) (zinA 50) (zinA 866) (zinA 21) (yX9_slipsOfAll, cX9_slipsOfAll, 4, some .int, 10, qc114) && qfD yX9_slipsOfAll.cls 4 cX9_slipsOfAll (qall qc114) [0, 0, 0, 0, 0, 0, 0, 0, 0, 0, 0, 0, 0, 347, 0, 0, 0, 0, 827, 0, 0, 0, 0, 0, 0, 0, 0]) = true := by decide +kernel
theorem qk_114 : qmok (yX9_slipsOfAll, cX9_slipsOfAll, 4, some .int, 10, qc114) := qmE_ok qw_114 rfl qv_114
set_option maxRecDepth 100000 in
theorem qw_115 : znt lw_tbl 482 = some (.code yX9_copy cX9_copy 2 none) := by rfl
set_option maxRecDepth 100000 in
theorem qv_115 : (qmG (fun _ => true) (zinA 50) (zinA 481) (zinA 0) (yX9_copy, cX9_copy, 2, none, 0, qc115) && qfD yX9_copy.cls 2 cX9_copy (qall qc115) [0, 0, 0, 0, 0, 0, 0, 0, 483, 486, 0]) = true := by decide +kernel
theorem qk_115 : qmok (yX9_copy, cX9_copy, 2, none, 0, qc115) := qmE_ok qw_115 rfl qv_115
set_option maxRecDepth 100000 in
theorem qw_116 : znt lw_tbl 547 = some (.code yX0_look cX0_look 5 none) := by rfl
set_option maxRecDepth 100000 in
theorem qv_116 : (qmG (fun _ => true) (zinA 53) (zinA 545) (zinA 546) (yX0_look, cX0_look, 5, none, 1, qc116) && qfD yX0_look.cls 5 cX0_look (qall qc116) []) = true := by decide +kernel
theorem qk_116 : qmok (yX0_look, cX0_look, 5, none, 1, qc116) := qmE_ok qw_116 rfl qv_116
set_option maxRecDepth 100000 in
theorem qw_117 : znt lw_tbl 1053 = some (.code yX10_in cX10_in 3 (some .boolean)) := by rfl
set_option maxRecDepth 100000 in
theorem qv_117 : (qmG (fun _ => true) (zinA 60) (zinA 1052) (zinA 0) (yX10_in, cX10_in, 3, some .boolean, 0, qc117) && qfD yX10_in.cls 3 cX10_in (qall qc117) [0, 0, 0, 0, 0, 0, 0, 0, 0, 0]) = true := by decide +kernel
theorem qk_117 : qmok (yX10_in, cX10_in, 3, some .boolean, 0, qc117) := qmE_ok qw_117 rfl qv_117
set_option maxRecDepth 100000 in
theorem qw_118 : znt lw_tbl 1050 = some (.code yX10_type cX10_type 5 (some .int)) := by rfl
set_option maxRecDepth 100000 in
theorem qv_118 : (qmG (fun _ => true) (zinA 60) (zinA 1048) (zinA 1049) (yX10_type, cX10_type, 5, some .int, 11, qc118) && qfD yX10_type.cls 5 cX10_type (qall qc118) [0, 0, 0, 1051, 0, 0, 0, 0, 894, 0, 0, 0, 0, 0, 0, 0, 0, 0, 0, 0, 0, 0, 893, 0, 894, 0, 0, 0, 0, 0, 1054, 0, 0, 0, 0, 0, 0, 894, 0, 0, 894, 0, 0, 0, 894, 0]) = true := by decide +kernel
theorem qk_118 : qmok (yX10_type, cX10_type, 5, some .int, 11, qc118) := qmE_ok qw_118 rfl qv_118
set_option maxRecDepth 100000 in
theorem qw_119 : znt lw_tbl 1058 = some (.code yX10_clear cX10_clear 2 (some .int)) := by rfl
set_option maxRecDepth 100000 in
theorem qv_119 : (qmG (fun _ => true) (zinA 60) (zinA 1056) (zinA 1057) (yX10_clear, cX10_clear, 2, some .int, 11, qc119) && qfD yX10_clear.cls 2 cX10_clear (qall qc119) [0, 894, 0, 0, 0, 894, 0, 0]) = true := by decide +kernel
theorem qk_119 : qmok (yX10_clear, cX10_clear, 2, some .int, 11, qc119) := qmE_ok qw_119 rfl qv_119
set_option maxRecDepth 100000 in
theorem qw_120 : znt lw_tbl 1070 = some (.code yX10_here cX10_here 1 (some .int)) := by rfl
set_option maxRecDepth 100000 in
theorem qv_120 : (qmG (fun _ => true) (zinA 60) (zinA 1069) (zinA 23) (yX10_here, cX10_here, 1, some .int, 11, qc120) && qfD yX10_here.cls 1 cX10_here (qall qc120) [0, 901, 0, 894, 0, 0, 893, 0, 901, 0, 0, 0, 0, 0, 0]) = true := by decide +kernel
theorem qk_120 : qmok (yX10_here, cX10_here, 1, some .int, 11, qc120) := qmE_ok qw_120 rfl qv_120
