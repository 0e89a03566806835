set_option maxRecDepth 100000 in
theorem zck_X9_trace : zmD (yX9_trace, cX9_trace, 1, some .long, 10, zc_X9_trace) (884, 50, 882, 883) [0, 350, 0] = true := by decide +kernel
set_option maxRecDepth 100000 in
theorem zck_X9_outside : zmD (yX9_outside, cX9_outside, 3, some .boolean, 0, zc_X9_outside) (372, 50, 371, 0) [0, 0, 0, 0, 0, 0, 0, 0, 0, 0] = true := by decide +kernel
set_option maxRecDepth 100000 in
theorem zck_X9_noPerson : zmD (yX9_noPerson, cX9_noPerson, 1, some .boolean, 0, zc_X9_noPerson) (515, 50, 514, 0) [0, 0, 0, 370, 0] = true := by decide +kernel
set_option maxRecDepth 100000 in
theorem zck_X9_noFortnight : zmD (yX9_noFortnight, cX9_noFortnight, 1, some .boolean, 0, zc_X9_noFortnight) (518, 50, 517, 0) [0, 0, 0, 370, 0] = true := by decide +kernel
set_option maxRecDepth 100000 in
theorem zck_X9_noDebt : zmD (yX9_noDebt, cX9_noDebt, 2, some .boolean, 10, zc_X9_noDebt) (748, 50, 747, 18) [0, 0, 0, 348, 269, 213, 0, 0, 370, 0] = true := by decide +kernel
set_option maxRecDepth 100000 in
theorem zck_X9_lookAt : zmD (yX9_lookAt, cX9_lookAt, 3, none, 10, zc_X9_lookAt) (538, 50, 537, 7) [0, 346, 167, 0, 345, 0, 345, 0, 498, 539, 0, 346, 0, 347, 0, 0, 0, 544, 0] = true := by decide +kernel
set_option maxRecDepth 100000 in
theorem zck_X9_lookAtBounds : zmD (yX9_lookAtBounds, cX9_lookAtBounds, 3, none, 10, zc_X9_lookAtBounds) (618, 50, 617, 10) [0, 0, 0, 535, 0, 346, 167, 0, 346, 619, 620, 0] = true := by decide +kernel
set_option maxRecDepth 100000 in
theorem zck_X9_howItIs : zmD (yX9_howItIs, cX9_howItIs, 4, some .int, 10, zc_X9_howItIs) (734, 50, 733, 17) [] = true := by decide +kernel
set_option maxRecDepth 100000 in
theorem zck_X9_mayBeHeld : zmD (yX9_mayBeHeld, cX9_mayBeHeld, 4, some .boolean, 10, zc_X9_mayBeHeld) (730, 50, 729, 16) [] = true := by decide +kernel
set_option maxRecDepth 100000 in
theorem zck_X9_weigh : zmD (yX9_weigh, cX9_weigh, 6, some .int, 10, zc_X9_weigh) (814, 50, 813, 19) [0, 0, 350, 815, 0, 0, 0, 0, 350, 817, 0, 0, 0, 0, 0, 0, 0, 0, 0, 0, 0, 0, 811, 0, 0, 0, 0, 0, 0, 0, 0, 0, 297, 0, 0, 0, 0, 0, 0, 0, 346, 0, 0, 819, 0, 0, 0, 0, 0, 0, 0, 0, 0, 346, 0, 0, 823, 0, 0, 0, 0, 0, 0, 0, 0, 0, 348, 275, 827, 0, 0, 0, 0, 0, 0, 0, 828, 0] = true := by decide +kernel
set_option maxRecDepth 100000 in
theorem zck_X9_firmsOfAll : zmD (yX9_firmsOfAll, cX9_firmsOfAll, 3, some .int, 10, zc_X9_firmsOfAll) (863, 50, 862, 20) [0, 0, 0, 0, 0, 0, 0, 0, 0, 347, 0, 0, 320, 0, 0, 0, 0, 0, 0] = true := by decide +kernel
set_option maxRecDepth 100000 in
theorem zck_X9_slipsOfAll : zmD (yX9_slipsOfAll, cX9_slipsOfAll, 4, some .int, 10, zc_X9_slipsOfAll) (867, 50, 866, 21) [0, 0, 0, 0, 0, 0, 0, 0, 0, 0, 0, 0, 0, 347, 0, 0, 0, 0, 827, 0, 0, 0, 0, 0, 0, 0] = true := by decide +kernel
set_option maxRecDepth 100000 in
theorem zck_X9_copy : zmD (yX9_copy, cX9_copy, 2, none, 0, zc_X9_copy) (482, 50, 481, 0) [0, 0, 0, 0, 0, 0, 0, 0, 483, 486, 0] = true := by decide +kernel
set_option maxRecDepth 100000 in
theorem zck_X10_init : zmD (yX10_init, cX10_init, 2, none, 11, zc_X10_init) (889, 60, 888, 0) [0, 890, 0, 0, 0, 893, 0, 0, 0, 896, 0, 0, 0, 897, 0, 0, 0, 898, 0, 0, 0, 899, 0, 0, 0, 900, 0, 0, 0, 906, 0, 0, 0, 907, 0, 0, 0, 908, 0, 0, 0, 909, 0, 0, 0, 910, 0, 0, 0, 911, 0, 0, 0, 912, 0, 0, 0, 913, 0, 0, 0, 914, 0, 0, 0, 915, 0, 0, 0, 916, 0, 0, 0, 917, 0, 0, 0, 918, 0, 0, 0, 922, 0, 0, 0, 923, 0, 0, 0, 924, 0, 0, 0, 925, 0, 0, 0, 926, 0, 0, 0, 927, 0, 0, 0, 928, 0, 0, 0, 929, 0, 0, 0, 930, 0, 0, 0, 931, 0, 0, 0, 932, 0, 0, 0, 933, 0, 0, 0, 934, 0, 0, 0, 935, 0, 0, 0, 936, 0, 0, 0, 937, 0, 0, 0, 938, 0, 0, 0, 939, 0, 0, 0, 940, 0, 0, 0, 941, 0, 0, 0, 0, 0, 0, 908, 0, 0, 0, 0, 0, 0] = true := by decide +kernel
set_option maxRecDepth 100000 in
theorem zck_X10_in : zmD (yX10_in, cX10_in, 3, some .boolean, 0, zc_X10_in) (1053, 60, 1052, 0) [0, 0, 0, 0, 0, 0, 0, 0, 0, 0] = true := by decide +kernel
set_option maxRecDepth 100000 in
theorem zck_X10_type : zmD (yX10_type, cX10_type, 5, some .int, 11, zc_X10_type) (1050, 60, 1048, 1049) [0, 0, 0, 1051, 0, 0, 0, 0, 894, 0, 0, 0, 0, 0, 0, 0, 0, 0, 0, 0, 893, 0, 894, 0, 0, 0, 0, 0, 1054, 0, 0, 0, 0, 0, 0, 894, 0, 0, 894, 0, 0, 0, 894, 0] = true := by decide +kernel
set_option maxRecDepth 100000 in
theorem zck_X10_clear : zmD (yX10_clear, cX10_clear, 2, some .int, 11, zc_X10_clear) (1058, 60, 1056, 1057) [0, 894, 0, 0, 0, 894, 0, 0] = true := by decide +kernel
set_option maxRecDepth 100000 in
theorem zck_X10_here : zmD (yX10_here, cX10_here, 1, some .int, 11, zc_X10_here) (1070, 60, 1069, 23) [0, 901, 0, 894, 0, 0, 0] = true := by decide +kernel
set_option maxRecDepth 100000 in
theorem zck_X10_more : zmD (yX10_more, cX10_more, 3, some .long, 0, zc_X10_more) (1077, 60, 1076, 0) [] = true := by decide +kernel
set_option maxRecDepth 100000 in
theorem zck_X10_code : zmD (yX10_code, cX10_code, 4, some .long, 0, zc_X10_code) (1082, 60, 1081, 0) [] = true := by decide +kernel
set_option maxRecDepth 100000 in
theorem zck_X10_wordOf : zmD (yX10_wordOf, cX10_wordOf, 6, some .int, 11, zc_X10_wordOf) (1074, 60, 1073, 24) [] = true := by decide +kernel
set_option maxRecDepth 100000 in
theorem zck_X10_next : zmD (yX10_next, cX10_next, 2, none, 11, zc_X10_next) (1066, 60, 1065, 22) [0, 1067, 0, 0, 0, 0, 901, 902, 0, 0, 904, 0, 1067, 0, 0, 0, 0, 0, 903, 0, 0] = true := by decide +kernel
set_option maxRecDepth 100000 in
theorem zck_X10_wants : zmD (yX10_wants, cX10_wants, 3, some .int, 11, zc_X10_wants) (1086, 60, 1085, 25) [] = true := by decide +kernel
set_option maxRecDepth 100000 in
theorem zck_X10_number : zmD (yX10_number, cX10_number, 3, some .int, 11, zc_X10_number) (1090, 60, 1089, 26) [] = true := by decide +kernel
set_option maxRecDepth 100000 in
theorem zck_X10_word : zmD (yX10_word, cX10_word, 2, none, 11, zc_X10_word) (1094, 60, 1093, 27) [] = true := by decide +kernel
set_option maxRecDepth 100000 in
theorem zck_X10_sign : zmD (yX10_sign, cX10_sign, 2, none, 11, zc_X10_sign) (1098, 60, 1097, 28) [] = true := by decide +kernel
set_option maxRecDepth 100000 in
theorem zck_X10_rules : zmD (yX10_rules, cX10_rules, 3, some .int, 11, zc_X10_rules) (1062, 60, 1060, 1061) [0, 0, 901, 0, 0, 905, 0, 0, 0, 1063, 0, 905, 0, 0, 0, 903, 0, 0, 905, 0, 0, 0, 0, 0, 0, 0, 0, 896, 0, 0, 896, 0, 0, 0, 0, 0, 0, 897, 0, 0, 897, 0, 0, 0, 0, 0, 0, 898, 0, 0, 898, 0, 0, 0, 0, 0, 0, 899, 0, 0, 899, 0, 0, 0, 0, 0, 0, 900, 0, 0, 900, 0, 0, 0, 0, 0, 0, 0, 0, 0, 895, 0, 0, 894, 0, 0] = true := by decide +kernel
set_option maxRecDepth 100000 in
theorem zck_X10_isDay : zmD (yX10_isDay, cX10_isDay, 1, some .boolean, 0, zc_X10_isDay) (1105, 60, 1104, 0) [0, 0, 0, 1051, 0] = true := by decide +kernel
set_option maxRecDepth 100000 in
theorem zck_X10_dueOf : zmD (yX10_dueOf, cX10_dueOf, 6, some .int, 11, zc_X10_dueOf) (1109, 60, 1108, 29) [0, 0, 0, 0, 0, 0, 895, 0, 0, 0, 0, 0, 0] = true := by decide +kernel
set_option maxRecDepth 100000 in
theorem zck_X10_due : zmD (yX10_due, cX10_due, 3, some .int, 11, zc_X10_due) (1102, 60, 1100, 1101) [0, 0, 0, 1051, 0, 0, 1103, 0, 0, 0, 0, 1106, 0, 0, 0] = true := by decide +kernel
set_option maxRecDepth 100000 in
theorem zck_X10_isPerson : zmD (yX10_isPerson, cX10_isPerson, 1, some .boolean, 0, zc_X10_isPerson) (1116, 60, 1115, 0) [0, 0, 0, 1051, 0] = true := by decide +kernel
set_option maxRecDepth 100000 in
theorem zck_X10_isFortnight : zmD (yX10_isFortnight, cX10_isFortnight, 1, some .boolean, 0, zc_X10_isFortnight) (1119, 60, 1118, 0) [0, 0, 0, 1051, 0] = true := by decide +kernel
