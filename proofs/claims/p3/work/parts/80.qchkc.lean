set_option maxRecDepth 100000 in
theorem qk_82 : qmD (yX9_slip, cX9_slip, 5, some .int, 10, qc82) (534, 50, 532, 533) [0, 513, 0, 0, 516, 0, 0, 0, 0, 370, 0, 0, 0, 0, 347, 0, 0, 0, 0, 0, 0, 535, 0, 346, 0, 562, 0, 0, 0, 346, 0, 0, 566, 0, 0, 0, 346, 0, 0, 572, 0, 0, 0, 0, 303, 0, 0, 0, 0, 305, 0, 0, 348, 275, 0, 0, 0, 0, 348, 275, 535, 0, 346, 577, 0] = true := by decide +kernel
set_option maxRecDepth 100000 in
theorem qk_83 : qmD (yX9_could, cX9_could, 3, some .int, 10, qc83) (610, 50, 608, 609) [0, 513, 0, 0, 0, 0, 370, 0, 0, 0, 0, 0, 0, 535, 0, 346, 577, 0] = true := by decide +kernel
set_option maxRecDepth 100000 in
theorem qk_84 : qmD (yX9_owed, cX9_owed, 4, some .int, 10, qc84) (614, 50, 612, 613) [0, 513, 0, 0, 0, 0, 370, 0, 0, 0, 0, 370, 0, 0, 0, 0, 0, 0, 615, 0, 346, 0, 347, 0, 0, 0, 628, 0] = true := by decide +kernel
set_option maxRecDepth 100000 in
theorem qk_85 : qmD (yX9_stands, cX9_stands, 3, some .int, 10, qc85) (655, 50, 653, 654) [0, 513, 0, 0, 0, 0, 370, 0, 0, 0, 0, 0, 0, 615, 0, 346, 656, 0, 0, 0, 0, 0] = true := by decide +kernel
set_option maxRecDepth 100000 in
theorem qk_86 : qmD (yX9_span, cX9_span, 6, some .int, 10, qc86) (663, 50, 661, 662) [0, 513, 0, 0, 0, 0, 370, 0, 0, 516, 0, 0, 0, 0, 370, 0, 0, 0, 0, 0, 0, 535, 0, 346, 0, 664, 0, 0, 0, 0, 347, 0, 0, 0, 0, 0, 0, 346, 0, 0, 566, 0, 0, 346, 0, 0, 572, 0] = true := by decide +kernel
set_option maxRecDepth 100000 in
theorem qk_87 : qmD (yX9_settles, cX9_settles, 6, some .int, 10, qc87) (671, 50, 669, 670) [0, 513, 0, 0, 0, 0, 370, 0, 0, 0, 0, 370, 0, 0, 0, 0, 0, 0, 615, 0, 347, 0, 0, 0, 0, 346, 0, 0, 299, 672, 0, 0, 0, 0, 346, 0, 299, 681, 0, 0, 0, 0, 700, 0, 0, 0] = true := by decide +kernel
set_option maxRecDepth 100000 in
theorem qk_88 : qmD (yX9_tells, cX9_tells, 3, some .int, 10, qc88) (704, 50, 702, 703) [0, 513, 0, 0, 0, 0, 370, 0, 0, 0, 0, 0, 0, 615, 0, 346, 0, 347, 0, 0, 705, 0] = true := by decide +kernel
set_option maxRecDepth 100000 in
theorem qk_89 : qmD (yX9_debt, cX9_debt, 4, some .int, 10, qc89) (718, 50, 716, 717) [0, 513, 0, 0, 0, 0, 370, 0, 0, 0, 0, 0, 0, 348, 275, 615, 0, 346, 0, 347, 0, 0, 0, 628, 0, 0, 0, 0, 0, 0, 348, 269, 0, 0, 0, 348, 275, 719, 0] = true := by decide +kernel
set_option maxRecDepth 100000 in
theorem qk_90 : qmD (yX9_hold, cX9_hold, 8, some .int, 10, qc90) (726, 50, 724, 725) [0, 513, 0, 0, 0, 0, 370, 0, 0, 0, 0, 0, 0, 370, 0, 0, 0, 0, 370, 0, 0, 0, 0, 0, 0, 0, 0, 0, 0, 0, 0, 0, 0, 0, 0, 0, 0, 348, 269, 213, 0, 0, 348, 269, 204, 0, 0, 0, 0, 0, 0, 727, 0, 0, 0, 348, 269, 0, 0, 0, 0, 735, 0, 0, 0, 0, 0, 0] = true := by decide +kernel
set_option maxRecDepth 100000 in
theorem qk_91 : qmD (yX9_set, cX9_set, 2, some .int, 10, qc91) (744, 50, 742, 743) [0, 0, 745, 0, 0, 0, 0, 348, 269, 0, 749, 0, 0, 0, 0, 348, 269, 0, 753, 0] = true := by decide +kernel
set_option maxRecDepth 100000 in
theorem qk_92 : qmD (yX9_about, cX9_about, 3, some .int, 10, qc92) (760, 50, 758, 759) [0, 0, 745, 0, 0, 0, 0, 370, 0, 0, 0, 0, 348, 269, 0, 0, 761, 0] = true := by decide +kernel
set_option maxRecDepth 100000 in
theorem qk_93 : qmD (yX9_right, cX9_right, 4, some .int, 10, qc93) (768, 50, 766, 767) [0, 0, 745, 0, 0, 0, 0, 370, 0, 0, 0, 0, 0, 348, 269, 204, 0, 0, 0, 615, 0, 348, 269, 206, 0, 0, 0, 0, 0, 346, 769, 0, 0, 0, 0, 0, 346, 770, 0, 0, 0, 0, 0] = true := by decide +kernel
set_option maxRecDepth 100000 in
theorem qk_94 : qmD (yX9_place, cX9_place, 7, some .int, 10, qc94) (774, 50, 772, 773) [0, 513, 0, 0, 0, 0, 370, 0, 0, 0, 0, 370, 0, 0, 0, 0, 0, 0, 347, 0, 0, 315, 0, 0, 347, 0, 0, 317, 0, 0, 0, 348, 275, 0, 0, 0, 348, 275, 0, 0, 0, 0, 0, 0, 0, 0, 0, 0, 0, 0] = true := by decide +kernel
set_option maxRecDepth 100000 in
theorem qk_95 : qmD (yX9_letter, cX9_letter, 3, some .int, 10, qc95) (778, 50, 776, 777) [0, 0, 745, 0, 0, 0, 0, 347, 0, 348, 269, 204, 0, 0, 0, 317, 0, 348, 275, 0, 0, 0, 348, 271, 0, 0, 348, 275, 0, 779, 0] = true := by decide +kernel
set_option maxRecDepth 100000 in
theorem qk_96 : qmD (yX9_post, cX9_post, 3, some .int, 10, qc96) (786, 50, 784, 785) [0, 0, 0, 348, 271, 244, 0, 0, 370, 0, 0, 0, 0, 370, 0, 0, 0, 0, 0, 0, 348, 271, 238, 0, 0, 0, 0, 348, 271, 240, 0, 0, 0, 0, 348, 271, 242, 0, 0, 0, 0, 0, 731, 0] = true := by decide +kernel
set_option maxRecDepth 100000 in
theorem qk_97 : qmD (yX9_call, cX9_call, 3, some .int, 10, qc97) (790, 50, 788, 789) [0, 513, 0, 0, 0, 0, 370, 0, 0, 0, 0, 348, 273, 0, 791, 0, 0, 0, 0, 348, 273, 795, 0] = true := by decide +kernel
set_option maxRecDepth 100000 in
theorem qk_98 : qmD (yX9_day, cX9_day, 1, some .int, 10, qc98) (802, 50, 800, 801) [0, 348, 275, 0, 0, 0, 0, 0, 348, 0, 275, 0, 0, 275, 0, 348, 273, 803, 0] = true := by decide +kernel
set_option maxRecDepth 100000 in
theorem qk_99 : qmD (yX9_weight, cX9_weight, 4, some .int, 10, qc99) (810, 50, 808, 809) [0, 0, 0, 370, 0, 0, 513, 0, 0, 516, 0, 0, 0, 0, 0, 0, 348, 275, 535, 0, 0, 0, 347, 0, 0, 0, 811, 0] = true := by decide +kernel
set_option maxRecDepth 100000 in
theorem qk_100 : qmD (yX9_keep, cX9_keep, 2, some .int, 10, qc100) (832, 50, 830, 831) [0, 0, 0, 370, 0, 0, 0, 0, 349, 0, 0, 0, 348, 833, 0, 349, 0, 0, 0, 277, 0, 348, 275, 0] = true := by decide +kernel
set_option maxRecDepth 100000 in
theorem qk_101 : qmD (yX9_back, cX9_back, 2, some .int, 10, qc101) (855, 50, 853, 854) [0, 0, 0, 370, 0, 0, 0, 0, 349, 0, 0, 277, 0, 0, 0, 0, 348, 0, 349, 0, 0, 833, 0, 348, 275, 0] = true := by decide +kernel
set_option maxRecDepth 100000 in
theorem qk_102 : qmD (yX9_count, cX9_count, 2, some .int, 10, qc102) (859, 50, 857, 858) [0, 0, 0, 345, 100, 0, 0, 860, 0, 0, 864, 0, 0, 348, 269, 213, 0, 0, 348, 271, 244, 0, 0, 348, 273, 262, 0, 0, 348, 275, 0, 0, 344, 120, 0, 0, 348, 269, 868, 0, 0, 348, 269, 872, 0, 0, 348, 269, 876, 0, 0, 0] = true := by decide +kernel
set_option maxRecDepth 100000 in
theorem qk_103 : qmD (yX9_trace, cX9_trace, 1, some .long, 10, qc103) (884, 50, 882, 883) [0, 350, 0] = true := by decide +kernel
set_option maxRecDepth 100000 in
theorem qk_104 : qmD (yX9_outside, cX9_outside, 3, some .boolean, 0, qc104) (372, 50, 371, 0) [0, 0, 0, 0, 0, 0, 0, 0, 0, 0] = true := by decide +kernel
set_option maxRecDepth 100000 in
theorem qk_105 : qmD (yX9_noPerson, cX9_noPerson, 1, some .boolean, 0, qc105) (515, 50, 514, 0) [0, 0, 0, 370, 0] = true := by decide +kernel
set_option maxRecDepth 100000 in
theorem qk_106 : qmD (yX9_noFortnight, cX9_noFortnight, 1, some .boolean, 0, qc106) (518, 50, 517, 0) [0, 0, 0, 370, 0] = true := by decide +kernel
set_option maxRecDepth 100000 in
theorem qk_107 : qmD (yX9_noDebt, cX9_noDebt, 2, some .boolean, 10, qc107) (748, 50, 747, 18) [0, 0, 0, 348, 269, 213, 0, 0, 370, 0] = true := by decide +kernel
set_option maxRecDepth 100000 in
theorem qk_108 : qmD (yX9_lookAt, cX9_lookAt, 3, none, 10, qc108) (538, 50, 537, 7) [0, 346, 167, 0, 345, 0, 345, 0, 498, 539, 0, 346, 0, 347, 0, 0, 0, 544, 0] = true := by decide +kernel
set_option maxRecDepth 100000 in
theorem qk_109 : qmD (yX9_lookAtBounds, cX9_lookAtBounds, 3, none, 10, qc109) (618, 50, 617, 10) [0, 0, 0, 535, 0, 346, 167, 0, 346, 619, 620, 0] = true := by decide +kernel
set_option maxRecDepth 100000 in
theorem qk_110 : qmD (yX9_howItIs, cX9_howItIs, 4, some .int, 10, qc110) (734, 50, 733, 17) [0, 348, 271, 240, 0, 0, 0, 0, 0, 0, 0, 348, 275, 0, 0, 0, 0, 0, 0, 0, 348, 269, 204, 0, 348, 271, 238, 0, 0, 0, 0, 0, 347, 0, 0, 315, 0, 0, 0, 348, 271, 242, 0, 0, 0, 0, 0, 0, 0] = true := by decide +kernel
set_option maxRecDepth 100000 in
theorem qk_111 : qmD (yX9_mayBeHeld, cX9_mayBeHeld, 4, some .boolean, 10, qc111) (730, 50, 729, 16) [0, 0, 0, 0, 348, 271, 244, 0, 0, 348, 271, 240, 0, 0, 0, 0, 0, 0, 0, 348, 275, 0, 0, 0, 0, 0, 0, 348, 271, 238, 0, 0, 0, 0, 0, 0, 0, 0, 731, 0, 0, 0, 0, 0, 0, 0, 0] = true := by decide +kernel
set_option maxRecDepth 100000 in
theorem qk_112 : qmD (yX9_weigh, cX9_weigh, 6, some .int, 10, qc112) (814, 50, 813, 19) [0, 0, 350, 815, 0, 0, 0, 0, 350, 817, 0, 0, 0, 0, 0, 0, 0, 0, 0, 0, 0, 0, 811, 0, 0, 0, 0, 0, 0, 0, 0, 0, 297, 0, 0, 0, 0, 0, 0, 0, 346, 0, 0, 819, 0, 0, 0, 0, 0, 0, 0, 0, 0, 346, 0, 0, 823, 0, 0, 0, 0, 0, 0, 0, 0, 0, 348, 275, 827, 0, 0, 0, 0, 0, 0, 0, 0, 0, 0, 0, 828, 0] = true := by decide +kernel
set_option maxRecDepth 100000 in
theorem qk_113 : qmD (yX9_firmsOfAll, cX9_firmsOfAll, 3, some .int, 10, qc113) (863, 50, 862, 20) [0, 0, 0, 0, 0, 0, 0, 0, 0, 347, 0, 0, 320, 0, 0, 0, 0, 0, 0] = true := by decide +kernel
set_option maxRecDepth 100000 in
theorem qk_114 : qmD (yX9_slipsOfAll, cX9_slipsOfAll, 4, some .int, 10, qc114) (867, 50, 866, 21) [0, 0, 0, 0, 0, 0, 0, 0, 0, 0, 0, 0, 0, 347, 0, 0, 0, 0, 827, 0, 0, 0, 0, 0, 0, 0, 0] = true := by decide +kernel
set_option maxRecDepth 100000 in
theorem qk_115 : qmD (yX9_copy, cX9_copy, 2, none, 0, qc115) (482, 50, 481, 0) [0, 0, 0, 0, 0, 0, 0, 0, 483, 486, 0] = true := by decide +kernel
set_option maxRecDepth 100000 in
theorem qk_116 : qmD (yX0_look, cX0_look, 5, none, 1, qc116) (547, 53, 545, 546) [] = true := by decide +kernel
set_option maxRecDepth 100000 in
theorem qk_117 : qmD (yX10_in, cX10_in, 3, some .boolean, 0, qc117) (1053, 60, 1052, 0) [0, 0, 0, 0, 0, 0, 0, 0, 0, 0] = true := by decide +kernel
set_option maxRecDepth 100000 in
theorem qk_118 : qmD (yX10_type, cX10_type, 5, some .int, 11, qc118) (1050, 60, 1048, 1049) [0, 0, 0, 1051, 0, 0, 0, 0, 894, 0, 0, 0, 0, 0, 0, 0, 0, 0, 0, 0, 0, 0, 893, 0, 894, 0, 0, 0, 0, 0, 1054, 0, 0, 0, 0, 0, 0, 894, 0, 0, 894, 0, 0, 0, 894, 0] = true := by decide +kernel
set_option maxRecDepth 100000 in
theorem qk_119 : qmD (yX10_clear, cX10_clear, 2, some .int, 11, qc119) (1058, 60, 1056, 1057) [0, 894, 0, 0, 0, 894, 0, 0] = true := by decide +kernel
set_option maxRecDepth 100000 in
theorem qk_120 : qmD (yX10_here, cX10_here, 1, some .int, 11, qc120) (1070, 60, 1069, 23) [0, 901, 0, 894, 0, 0, 893, 0, 901, 0, 0, 0, 0, 0, 0] = true := by decide +kernel
