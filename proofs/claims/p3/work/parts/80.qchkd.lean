set_option maxRecDepth 100000 in
theorem qk_121 : qmD (yX10_more, cX10_more, 3, some .long, 0, qc121) (1077, 60, 1076, 0) [0, 1078, 0, 0, 0, 0, 1079, 0, 0, 0, 0] = true := by decide +kernel
set_option maxRecDepth 100000 in
theorem qk_122 : qmD (yX10_code, cX10_code, 4, some .long, 0, qc122) (1082, 60, 1081, 0) [0, 0, 1075, 0, 1075, 0, 1075, 0, 1075, 0] = true := by decide +kernel
set_option maxRecDepth 100000 in
theorem qk_123 : qmD (yX10_wordOf, cX10_wordOf, 6, some .int, 11, qc123) (1074, 60, 1073, 24) [0, 0, 0, 0, 0, 0, 0, 0, 0, 0, 0, 0, 0, 0, 893, 0, 0, 1075, 0, 0, 0, 0, 0, 0, 0, 0, 0, 0, 1080, 0, 0, 0, 0, 0, 0, 0, 0, 0, 0, 0, 1080, 0, 0, 0, 0, 0, 0, 0, 0, 0, 0, 0, 1080, 0, 0, 0, 0, 0, 0, 0, 0, 0, 0, 0, 1080, 0, 0, 0, 0, 0, 0, 0, 0, 0, 0, 0, 0, 0, 0, 0] = true := by decide +kernel
set_option maxRecDepth 100000 in
theorem qk_124 : qmD (yX10_next, cX10_next, 2, none, 11, qc124) (1066, 60, 1065, 22) [0, 1067, 0, 0, 0, 0, 901, 0, 0, 901, 0, 0, 0, 901, 902, 0, 0, 904, 0, 1067, 0, 0, 0, 0, 0, 903, 0, 0, 0, 0, 1051, 0, 0, 1067, 0, 0, 1051, 0, 0, 0, 901, 0, 0, 901, 0, 0, 0, 0, 902, 0, 901, 1071, 904, 0, 0, 904, 0, 0, 0, 0, 0, 903, 0, 0, 0, 0, 1051, 0, 0, 1067, 0, 0, 1051, 0, 0, 0, 904, 0, 0, 0, 904, 0, 0, 0, 904, 0, 0, 1067, 0, 0, 0, 904, 0, 0, 901, 0, 0, 901, 0, 0, 0, 904, 0, 0, 0, 0, 0, 0, 901, 0, 902, 0, 0, 0, 0, 0, 0, 903, 0, 0, 0, 901, 0, 0, 901, 0, 0, 904, 0, 0, 0, 0, 0, 0, 0, 0, 0, 0, 903, 0] = true := by decide +kernel
set_option maxRecDepth 100000 in
theorem qk_125 : qmD (yX10_wants, cX10_wants, 3, some .int, 11, qc125) (1086, 60, 1085, 25) [0, 904, 0, 0, 905, 0, 0, 0, 0, 0, 1063, 0, 0, 0, 902, 905, 0, 0] = true := by decide +kernel
set_option maxRecDepth 100000 in
theorem qk_126 : qmD (yX10_number, cX10_number, 3, some .int, 11, qc126) (1090, 60, 1089, 26) [0, 0, 903, 0, 0, 0, 904, 0, 0, 1051, 0, 0, 0, 0, 1083, 0] = true := by decide +kernel
set_option maxRecDepth 100000 in
theorem qk_127 : qmD (yX10_word, cX10_word, 2, none, 11, qc127) (1094, 60, 1093, 27) [0, 0, 903, 0, 0, 0, 904, 0, 0, 0, 0, 0, 1083, 0, 0] = true := by decide +kernel
set_option maxRecDepth 100000 in
theorem qk_128 : qmD (yX10_sign, cX10_sign, 2, none, 11, qc128) (1098, 60, 1097, 28) [0, 0, 903, 0, 0, 0, 904, 0, 0, 0, 0, 0, 1083, 0, 0] = true := by decide +kernel
set_option maxRecDepth 100000 in
theorem qk_129 : qmD (yX10_rules, cX10_rules, 3, some .int, 11, qc129) (1062, 60, 1060, 1061) [0, 0, 901, 0, 0, 905, 0, 0, 0, 1063, 0, 905, 0, 0, 0, 903, 0, 0, 0, 0, 0, 0, 0, 0, 0, 0, 903, 0, 0, 0, 904, 0, 0, 0, 0, 1083, 0, 0, 905, 0, 0, 0, 896, 0, 0, 0, 0, 0, 0, 0, 896, 0, 0, 0, 0, 0, 0, 0, 1087, 0, 0, 0, 1091, 0, 897, 0, 0, 0, 0, 1087, 0, 0, 0, 1091, 0, 898, 0, 0, 0, 0, 1087, 0, 0, 0, 1091, 0, 899, 0, 0, 0, 0, 1087, 0, 0, 0, 1095, 0, 900, 0, 0, 0, 0, 1087, 0, 0, 0, 1095, 0, 0, 0, 905, 0, 0, 0, 0, 905, 0, 0, 0, 0, 0, 0, 0, 0, 896, 0, 0, 896, 0, 0, 0, 0, 0, 0, 897, 0, 0, 897, 0, 0, 0, 0, 0, 0, 898, 0, 0, 898, 0, 0, 0, 0, 0, 0, 899, 0, 0, 899, 0, 0, 0, 0, 0, 0, 900, 0, 0, 900, 0, 0, 0, 0, 0, 0, 0, 0, 0, 895, 0, 0, 894, 0, 0] = true := by decide +kernel
set_option maxRecDepth 100000 in
theorem qk_130 : qmD (yX10_isDay, cX10_isDay, 1, some .boolean, 0, qc130) (1105, 60, 1104, 0) [0, 0, 0, 1051, 0] = true := by decide +kernel
set_option maxRecDepth 100000 in
theorem qk_131 : qmD (yX10_dueOf, cX10_dueOf, 6, some .int, 11, qc131) (1109, 60, 1108, 29) [0, 0, 0, 0, 0, 0, 895, 0, 0, 896, 0, 0, 0, 0, 0, 0, 0, 0, 0, 0, 0, 0, 0, 0, 0, 0, 0, 898, 0, 0, 0, 0, 0, 898, 0, 0, 0, 0, 0, 0, 0, 897, 0, 0, 0, 899, 0, 0, 0, 0, 0, 900, 0, 0, 0, 0, 0, 0, 0, 0, 0, 0, 0] = true := by decide +kernel
set_option maxRecDepth 100000 in
theorem qk_132 : qmD (yX10_due, cX10_due, 3, some .int, 11, qc132) (1102, 60, 1100, 1101) [0, 0, 0, 1051, 0, 0, 1103, 0, 0, 0, 0, 1106, 0, 0, 0] = true := by decide +kernel
set_option maxRecDepth 100000 in
theorem qk_133 : qmD (yX10_isPerson, cX10_isPerson, 1, some .boolean, 0, qc133) (1116, 60, 1115, 0) [0, 0, 0, 1051, 0] = true := by decide +kernel
set_option maxRecDepth 100000 in
theorem qk_134 : qmD (yX10_isFortnight, cX10_isFortnight, 1, some .boolean, 0, qc134) (1119, 60, 1118, 0) [0, 0, 0, 1051, 0] = true := by decide +kernel
set_option maxRecDepth 100000 in
theorem qk_135 : qmD (yX10_pay, cX10_pay, 7, some .int, 11, qc135) (1113, 60, 1111, 1112) [0, 1114, 0, 0, 1117, 0, 0, 0, 0, 1051, 0, 0, 0, 0, 1051, 0, 0, 0, 0, 0, 0, 0, 0, 0, 0, 0, 0, 906, 0, 0, 0, 0, 907, 0, 0, 0, 0, 0, 0, 906, 0, 0, 0, 0, 0, 907, 0, 0, 0, 0, 0] = true := by decide +kernel
set_option maxRecDepth 100000 in
theorem qk_136 : qmD (yX10_firmOf, cX10_firmOf, 5, some .int, 11, qc136) (1127, 60, 1126, 30) [0, 0, 0, 0, 0, 0, 0, 0, 0, 910, 0, 0, 0, 0, 0, 914, 0, 0, 0, 0, 0, 0, 911, 0, 0, 0, 912, 0, 0, 1051, 0, 0, 0, 0, 0, 0, 0] = true := by decide +kernel
set_option maxRecDepth 100000 in
theorem qk_137 : qmD (yX10_firm, cX10_firm, 6, some .int, 11, qc137) (1123, 60, 1121, 1122) [0, 1114, 0, 0, 1117, 0, 0, 0, 0, 1051, 0, 0, 0, 0, 0, 0, 0, 0, 0, 0, 1051, 0, 0, 0, 0, 0, 0, 0, 0, 0, 0, 0, 0, 1124, 0, 0, 0, 0, 0, 0, 0, 910, 0, 0, 0, 0, 0, 0, 0, 0, 0, 0, 910, 0, 0, 0, 0, 0, 911, 0, 0, 0, 0, 912, 0, 0, 0, 0, 913, 0, 0, 0, 0, 914, 0, 0, 892, 0, 0, 910, 0, 0, 0, 0, 0, 0, 0, 910, 0, 0, 0] = true := by decide +kernel
set_option maxRecDepth 100000 in
theorem qk_138 : qmD (yX10_findHeld, cX10_findHeld, 5, none, 11, qc138) (1135, 60, 1134, 31) [0, 0, 0, 0, 0, 0, 0, 0, 0, 0, 0, 0, 915, 0, 0, 908, 0, 0, 0, 0, 0, 909, 0, 0, 0, 0, 0, 0, 0, 0, 1124, 0, 0, 0, 908, 0, 0, 0, 0, 0, 0, 0, 0] = true := by decide +kernel
set_option maxRecDepth 100000 in
theorem qk_139 : qmD (yX10_paid, cX10_paid, 4, some .int, 11, qc139) (1147, 60, 1146, 34) [0, 0, 906, 0, 0, 0, 0, 0, 0, 0, 1106, 0] = true := by decide +kernel
set_option maxRecDepth 100000 in
theorem qk_140 : qmD (yX10_add, cX10_add, 16, none, 11, qc140) (1143, 60, 1142, 33) [0, 915, 0, 0, 0, 0, 0, 0, 0, 915, 0, 0, 0, 0, 915, 0, 0, 0, 0, 0, 0, 0, 915, 0, 0, 0, 0, 0, 0, 0, 1144, 0, 0, 0, 0, 0, 0, 0, 0, 0, 0, 0, 0, 0, 0, 0, 0, 0, 0, 0, 0, 0, 0, 922, 0, 0, 0, 0, 0, 0, 0, 0, 0, 1106, 0, 0, 0, 0, 916, 0, 0, 0, 0, 0, 0, 0, 0, 0, 917, 0, 0, 0, 0, 0, 0, 0, 0, 0, 917, 0, 0, 0, 0, 0, 0, 0, 0, 0, 0, 0, 0, 918, 0, 0, 0, 0, 0, 0, 0, 0, 0, 918, 0, 0, 0, 0, 0, 0, 0, 0, 0, 0, 0, 0, 0, 0, 916, 0, 0, 1148, 0, 0, 0, 917, 0, 0, 0, 0, 918, 0, 0, 0, 0, 922, 0, 0, 0, 0, 0, 0] = true := by decide +kernel
set_option maxRecDepth 100000 in
theorem qk_141 : qmD (yX10_goThrough, cX10_goThrough, 7, some .boolean, 11, qc141) (1139, 60, 1138, 32) [0, 0, 919, 0, 0, 920, 0, 0, 921, 0, 0, 0, 0, 0, 0, 0, 0, 0, 0, 0, 910, 0, 0, 0, 0, 0, 914, 0, 0, 0, 0, 0, 913, 0, 0, 0, 0, 0, 0, 0, 0, 0, 922, 0, 0, 0, 0, 0, 0, 0, 0, 916, 0, 0, 0, 0, 0, 0, 0, 0, 917, 0, 0, 0, 0, 918, 0, 0, 0, 0, 0, 0, 911, 0, 0, 0, 0, 0, 912, 0, 0, 0, 0, 0, 0, 0, 0, 1140, 0, 0, 0, 0, 0, 922, 0, 0, 0, 0, 0, 0, 0, 0, 0, 919, 0, 916, 0, 0, 0, 1148, 0, 919, 0, 0, 920, 0, 917, 0, 0, 0, 920, 0, 0, 921, 0, 918, 0, 0, 0, 921, 0, 0, 0, 0] = true := by decide +kernel
set_option maxRecDepth 100000 in
theorem qk_142 : qmD (yX10_over, cX10_over, 1, some .int, 0, qc142) (1175, 60, 1174, 0) [0, 0, 0, 0, 0, 0] = true := by decide +kernel
