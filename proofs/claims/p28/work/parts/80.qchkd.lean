set_option maxRecDepth 100000 in
theorem qw_121 : znt lw_tbl 1077 = some (.code yX10_more cX10_more 3 (some .long)) := by rfl
set_option maxRecDepth 100000 in
theorem qv_121 : (qmG (fun _ => true) (zinA 60) (zinA 1076) (zinA 0) (yX10_more, cX10_more, 3, some .long, 0, qc121) && qfD yX10_more.cls 3 cX10_more (qall qc121) [0, 1078, 0, 0, 0, 0, 1079, 0, 0, 0, 0]) = true := by decide +kernel
theorem qk_121 : qmok (yX10_more, cX10_more, 3, some .long, 0, qc121) := qmE_ok qw_121 rfl qv_121
set_option maxRecDepth 100000 in
theorem qw_122 : znt lw_tbl 1082 = some (.code yX10_code cX10_code 4 (some .long)) := by rfl
set_option maxRecDepth 100000 in
theorem qv_122 : (qmG (fun _ => true) (zinA 60) (zinA 1081) (zinA 0) (yX10_code, cX10_code, 4, some .long, 0, qc122) && qfD yX10_code.cls 4 cX10_code (qall qc122) [0, 0, 1075, 0, 1075, 0, 1075, 0, 1075, 0]) = true := by decide +kernel
theorem qk_122 : qmok (yX10_code, cX10_code, 4, some .long, 0, qc122) := qmE_ok qw_122 rfl qv_122
set_option maxRecDepth 100000 in
theorem qw_123 : znt lw_tbl 1074 = some (.code yX10_wordOf cX10_wordOf 6 (some .int)) := by rfl
set_option maxRecDepth 100000 in
theorem qv_123 : (qmG (fun _ => true) (zinA 60) (zinA 1073) (zinA 24) (yX10_wordOf, cX10_wordOf, 6, some .int, 11, qc123) && qfD yX10_wordOf.cls 6 cX10_wordOf (qall qc123) [0, 0, 0, 0, 0, 0, 0, 0, 0, 0, 0, 0, 0, 0, 893, 0, 0, 1075, 0, 0, 0, 0, 0, 0, 0, 0, 0, 0, 1080, 0, 0, 0, 0, 0, 0, 0, 0, 0, 0, 0, 1080, 0, 0, 0, 0, 0, 0, 0, 0, 0, 0, 0, 1080, 0, 0, 0, 0, 0, 0, 0, 0, 0, 0, 0, 1080, 0, 0, 0, 0, 0, 0, 0, 0, 0, 0, 0, 0, 0, 0, 0]) = true := by decide +kernel
theorem qk_123 : qmok (yX10_wordOf, cX10_wordOf, 6, some .int, 11, qc123) := qmE_ok qw_123 rfl qv_123
set_option maxRecDepth 100000 in
theorem qw_124 : znt lw_tbl 1066 = some (.code yX10_next cX10_next 2 none) := by rfl
set_option maxRecDepth 100000 in
theorem qv_124 : (qmG (fun _ => true) (zinA 60) (zinA 1065) (zinA 22) (yX10_next, cX10_next, 2, none, 11, qc124) && qfD yX10_next.cls 2 cX10_next (qall qc124) [0, 1067, 0, 0, 0, 0, 901, 0, 0, 901, 0, 0, 0, 901, 902, 0, 0, 904, 0, 1067, 0, 0, 0, 0, 0, 903, 0, 0, 0, 0, 1051, 0, 0, 1067, 0, 0, 1051, 0, 0, 0, 901, 0, 0, 901, 0, 0, 0, 0, 902, 0, 901, 1071, 904, 0, 0, 904, 0, 0, 0, 0, 0, 903, 0, 0, 0, 0, 1051, 0, 0, 1067, 0, 0, 1051, 0, 0, 0, 904, 0, 0, 0, 904, 0, 0, 0, 904, 0, 0, 1067, 0, 0, 0, 904, 0, 0, 901, 0, 0, 901, 0, 0, 0, 904, 0, 0, 0, 0, 0, 0, 901, 0, 902, 0, 0, 0, 0, 0, 0, 903, 0, 0, 0, 901, 0, 0, 901, 0, 0, 904, 0, 0, 0, 0, 0, 0, 0, 0, 0, 0, 903, 0]) = true := by decide +kernel
theorem qk_124 : qmok (yX10_next, cX10_next, 2, none, 11, qc124) := qmE_ok qw_124 rfl qv_124
set_option maxRecDepth 100000 in
theorem qw_125 : znt lw_tbl 1086 = some (.code yX10_wants cX10_wants 3 (some .int)) := by rfl
set_option maxRecDepth 100000 in
theorem qv_125 : (qmG (fun _ => true) (zinA 60) (zinA 1085) (zinA 25) (yX10_wants, cX10_wants, 3, some .int, 11, qc125) && qfD yX10_wants.cls 3 cX10_wants (qall qc125) [0, 904, 0, 0, 905, 0, 0, 0, 0, 0, 1063, 0, 0, 0, 902, 905, 0, 0]) = true := by decide +kernel
theorem qk_125 : qmok (yX10_wants, cX10_wants, 3, some .int, 11, qc125) := qmE_ok qw_125 rfl qv_125
set_option maxRecDepth 100000 in
theorem qw_126 : znt lw_tbl 1090 = some (.code yX10_number cX10_number 3 (some .int)) := by rfl
set_option maxRecDepth 100000 in
theorem qv_126 : (qmG (fun _ => true) (zinA 60) (zinA 1089) (zinA 26) (yX10_number, cX10_number, 3, some .int, 11, qc126) && qfD yX10_number.cls 3 cX10_number (qall qc126) [0, 0, 903, 0, 0, 0, 904, 0, 0, 1051, 0, 0, 0, 0, 1083, 0]) = true := by decide +kernel
theorem qk_126 : qmok (yX10_number, cX10_number, 3, some .int, 11, qc126) := qmE_ok qw_126 rfl qv_126
set_option maxRecDepth 100000 in
theorem qw_127 : znt lw_tbl 1094 = some (.code yX10_word cX10_word 2 none) := by rfl
set_option maxRecDepth 100000 in
theorem qv_127 : (qmG (fun _ => true) (zinA 60) (zinA 1093) (zinA 27) (yX10_word, cX10_word, 2, none, 11, qc127) && qfD yX10_word.cls 2 cX10_word (qall qc127) [0, 0, 903, 0, 0, 0, 904, 0, 0, 0, 0, 0, 1083, 0, 0]) = true := by decide +kernel
theorem qk_127 : qmok (yX10_word, cX10_word, 2, none, 11, qc127) := qmE_ok qw_127 rfl qv_127
set_option maxRecDepth 100000 in
theorem qw_128 : znt lw_tbl 1098 = some (.code yX10_sign cX10_sign 2 none) := by rfl
set_option maxRecDepth 100000 in
theorem qv_128 : (qmG (fun _ => true) (zinA 60) (zinA 1097) (zinA 28) (yX10_sign, cX10_sign, 2, none, 11, qc128) && qfD yX10_sign.cls 2 cX10_sign (qall qc128) [0, 0, 903, 0, 0, 0, 904, 0, 0, 0, 0, 0, 1083, 0, 0]) = true := by decide +kernel
theorem qk_128 : qmok (yX10_sign, cX10_sign, 2, none, 11, qc128) := qmE_ok qw_128 rfl qv_128
set_option maxRecDepth 100000 in
theorem qw_129 : znt lw_tbl 1062 = some (.code yX10_rules cX10_rules 3 (some .int)) := by rfl
set_option maxRecDepth 100000 in
theorem qv_129 : (qmG (fun _ => true) (zinA 60) (zinA 1060) (zinA 1061) (yX10_rules, cX10_rules, 3, some .int, 11, qc129) && qfD yX10_rules.cls 3 cX10_rules (qall qc129) [0, 0, 901, 0, 0, 905, 0, 0, 0, 1063, 0, 905, 0, 0, 0, 903, 0, 0, 0, 0, 0, 0, 0, 0, 0, 0, 903, 0, 0, 0, 904, 0, 0, 0, 0, 1083, 0, 0, 905, 0, 0, 0, 896, 0, 0, 0, 0, 0, 0, 0, 896, 0, 0, 0, 0, 0, 0, 0, 1087, 0, 0, 0, 1091, 0, 897, 0, 0, 0, 0, 1087, 0, 0, 0, 1091, 0, 898, 0, 0, 0, 0, 1087, 0, 0, 0, 1091, 0, 899, 0, 0, 0, 0, 1087, 0, 0, 0, 1095, 0, 900, 0, 0, 0, 0, 1087, 0, 0, 0, 1095, 0, 0, 0, 905, 0, 0, 0, 0, 905, 0, 0, 0, 0, 0, 0, 0, 0, 896, 0, 0, 896, 0, 0, 0, 0, 0, 0, 897, 0, 0, 897, 0, 0, 0, 0, 0, 0, 898, 0, 0, 898, 0, 0, 0, 0, 0, 0, 899, 0, 0, 899, 0, 0, 0, 0, 0, 0, 900, 0, 0, 900, 0, 0, 0, 0, 0, 0, 0, 0, 0, 895, 0, 0, 894, 0, 0]) = true := by decide +kernel
theorem qk_129 : qmok (yX10_rules, cX10_rules, 3, some .int, 11, qc129) := qmE_ok qw_129 rfl qv_129
set_option maxRecDepth 100000 in
theorem qw_130 : znt lw_tbl 1105 = some (.code yX10_isDay cX10_isDay 1 (some .boolean)) := by rfl
set_option maxRecDepth 100000 in
theorem qv_130 : (qmG (fun _ => true) (zinA 60) (zinA 1104) (zinA 0) (yX10_isDay, cX10_isDay, 1, some .boolean, 0, qc130) && qfD yX10_isDay.cls 1 cX10_isDay (qall qc130) [0, 0, 0, 1051, 0]) = true := by decide +kernel
theorem qk_130 : qmok (yX10_isDay, cX10_isDay, 1, some .boolean, 0, qc130) := qmE_ok qw_130 rfl qv_130
set_option maxRecDepth 100000 in
theorem qw_131 : znt lw_tbl 1109 = some (.code yX10_dueOf cX10_dueOf 6 (some .int)) := by rfl
set_option maxRecDepth 100000 in
theorem qv_131 : (qmG (fun _ => true) (zinA 60) (zinA 1108) (zinA 29) (yX10_dueOf, cX10_dueOf, 6, some .int, 11, qc131) && qfD yX10_dueOf.cls 6 cX10_dueOf (qall qc131) [0, 0, 0, 0, 0, 0, 895, 0, 0, 896, 0, 0, 0, 0, 0, 0, 0, 0, 0, 0, 0, 0, 0, 0, 0, 0, 0, 898, 0, 0, 0, 0, 0, 898, 0, 0, 0, 0, 0, 0, 0, 897, 0, 0, 0, 899, 0, 0, 0, 0, 0, 900, 0, 0, 0, 0, 0, 0, 0, 0, 0, 0, 0]) = true := by decide +kernel
theorem qk_131 : qmok (yX10_dueOf, cX10_dueOf, 6, some .int, 11, qc131) := qmE_ok qw_131 rfl qv_131
set_option maxRecDepth 100000 in
theorem qw_132 : znt lw_tbl 1102 = some (.code yX10_due cX10_due 3 (some .int)) := by rfl
set_option maxRecDepth 100000 in
theorem qv_132 : (qmG (fun _ => true) (zinA 60) (zinA 1100) (zinA 1101) (yX10_due, cX10_due, 3, some .int, 11, qc132) && qfD yX10_due.cls 3 cX10_due (qall qc132) [0, 0, 0, 1051, 0, 0, 1103, 0, 0, 0, 0, 1106, 0, 0, 0]) = true := by decide +kernel
theorem qk_132 : qmok (yX10_due, cX10_due, 3, some .int, 11, qc132) := qmE_ok qw_132 rfl qv_132
set_option maxRecDepth 100000 in
theorem qw_133 : znt lw_tbl 1116 = some (.code yX10_isPerson cX10_isPerson 1 (some .boolean)) := by rfl
set_option maxRecDepth 100000 in
theorem qv_133 : (qmG (fun _ => true) (zinA 60) (zinA 1115) (zinA 0) (yX10_isPerson, cX10_isPerson, 1, some .boolean, 0, qc133) && qfD yX10_isPerson.cls 1 cX10_isPerson (qall qc133) [0, 0, 0, 1051, 0]) = true := by decide +kernel
theorem qk_133 : qmok (yX10_isPerson, cX10_isPerson, 1, some .boolean, 0, qc133) := qmE_ok qw_133 rfl qv_133
set_option maxRecDepth 100000 in
theorem qw_134 : znt lw_tbl 1119 = some (.code yX10_isFortnight cX10_isFortnight 1 (some .boolean)) := by rfl
set_option maxRecDepth 100000 in
theorem qv_134 : (qmG (fun _ => true) (zinA 60) (zinA 1118) (zinA 0) (yX10_isFortnight, cX10_isFortnight, 1, some .boolean, 0, qc134) && qfD yX10_isFortnight.cls 1 cX10_isFortnight (qall qc134) [0, 0, 0, 1051, 0]) = true := by decide +kernel
theorem qk_134 : qmok (yX10_isFortnight, cX10_isFortnight, 1, some .boolean, 0, qc134) := qmE_ok qw_134 rfl qv_134
set_option maxRecDepth 100000 in
theorem qw_135 : znt lw_tbl 1113 = some (.code yX10_pay cX10_pay 7 (some .int)) := by rfl
set_option maxRecDepth 100000 in
theorem qv_135 : (qmG (fun _ => true) (zinA 60) (zinA 1111) (zinA 1112) (yX10_pay, cX10_pay, 7, some .int, 11, qc135) && qfD yX10_pay.cls 7 cX10_pay (qall qc135) [0, 1114, 0, 0, 1117, 0, 0, 0, 0, 1051, 0, 0, 0, 0, 1051, 0, 0, 0, 0, 0, 0, 0, 0, 0, 0, 0, 0, 906, 0, 0, 0, 0, 907, 0, 0, 0, 0, 0, 0, 906, 0, 0, 0, 0, 0, 907, 0, 0, 0, 0, 0]) = true := by decide +kernel
theorem qk_135 : qmok (yX10_pay, cX10_pay, 7, some .int, 11, qc135) := qmE_ok qw_135 rfl qv_135
set_option maxRecDepth 100000 in
theorem qw_136 : znt lw_tbl 1127 = some (.code yX10_firmOf cX10_firmOf 5 (some .int)) := by rfl
set_option maxRecDepth 100000 in
theorem qv_136 : (qmG (fun _ => true) (zinA 60) (zinA 1126) (zinA 30) (yX10_firmOf, cX10_firmOf, 5, some .int, 11, qc136) && qfD yX10_firmOf.cls 5 cX10_firmOf (qall qc136) [0, 0, 0, 0, 0, 0, 0, 0, 0, 910, 0, 0, 0, 0, 0, 914, 0, 0, 0, 0, 0, 0, 911, 0, 0, 0, 912, 0, 0, 1051, 0, 0, 0, 0, 0, 0, 0]) = true := by decide +kernel
theorem qk_136 : qmok (yX10_firmOf, cX10_firmOf, 5, some .int, 11, qc136) := qmE_ok qw_136 rfl qv_136
set_option maxRecDepth 100000 in
theorem qw_137 : znt lw_tbl 1123 = some (.code yX10_firm cX10_firm 6 (some .int)) := by rfl
set_option maxRecDepth 100000 in
theorem qv_137 : (qmG (fun _ => true) (zinA 60) (zinA 1121) (zinA 1122) (yX10_firm, cX10_firm, 6, some .int, 11, qc137) && qfD yX10_firm.cls 6 cX10_firm (qall qc137) [0, 1114, 0, 0, 1117, 0, 0, 0, 0, 1051, 0, 0, 0, 0, 0, 0, 0, 0, 0, 0, 1051, 0, 0, 0, 0, 0, 0, 0, 0, 0, 0, 0, 0, 1124, 0, 0, 0, 0, 0, 0, 0, 910, 0, 0, 0, 0, 0, 0, 0, 0, 0, 0, 910, 0, 0, 0, 0, 0, 911, 0, 0, 0, 0, 912, 0, 0, 0, 0, 913, 0, 0, 0, 0, 914, 0, 0, 892, 0, 0, 910, 0, 0, 0, 0, 0, 0, 0, 910, 0, 0, 0]) = true := by decide +kernel
theorem qk_137 : qmok (yX10_firm, cX10_firm, 6, some .int, 11, qc137) := qmE_ok qw_137 rfl qv_137
set_option maxRecDepth 100000 in
theorem qw_138 : znt lw_tbl 1135 = some (.code yX10_findHeld cX10_findHeld 5 none) := by rfl
set_option maxRecDepth 100000 in
theorem qv_138 : (qmG (fun _ => true) (zinA 60) (zinA 1134) (zinA 31) (yX10_findHeld, cX10_findHeld, 5, none, 11, qc138) && qfD yX10_findHeld.cls 5 cX10_findHeld (qall qc138) [0, 0, 0, 0, 0, 0, 0, 0, 0, 0, 0, 0, 915, 0, 0, 908, 0, 0, 0, 0, 0, 909, 0, 0, 0, 0, 0, 0, 0, 0, 1124, 0, 0, 0, 908, 0, 0, 0, 0, 0, 0, 0, 0]) = true := by decide +kernel
theorem qk_138 : qmok (yX10_findHeld, cX10_findHeld, 5, none, 11, qc138) := qmE_ok qw_138 rfl qv_138
set_option maxRecDepth 100000 in
theorem qw_139 : znt lw_tbl 1147 = some (.code yX10_paid cX10_paid 4 (some .int)) := by rfl
set_option maxRecDepth 100000 in
theorem qv_139 : (qmG (fun _ => true) (zinA 60) (zinA 1146) (zinA 34) (yX10_paid, cX10_paid, 4, some .int, 11, qc139) && qfD yX10_paid.cls 4 cX10_paid (qall qc139) [0, 0, 906, 0, 0, 0, 0, 0, 0, 0, 1106, 0]) = true := by decide +kernel
theorem qk_139 : qmok (yX10_paid, cX10_paid, 4, some .int, 11, qc139) := qmE_ok qw_139 rfl qv_139
set_option maxRecDepth 100000 in
theorem qw_140 : znt lw_tbl 1143 = some (.code yX10_add cX10_add 16 none) := by rfl
set_option maxRecDepth 100000 in
theorem qv_140 : (qmG (fun _ => true) (zinA 60) (zinA 1142) (zinA 33) (yX10_add, cX10_add, 16, none, 11, qc140) && qfD yX10_add.cls 16 cX10_add (qall qc140) [0, 915, 0, 0, 0, 0, 0, 0, 0, 915, 0, 0, 0, 0, 915, 0, 0, 0, 0, 0, 0, 0, 915, 0, 0, 0, 0, 0, 0, 0, 1144, 0, 0, 0, 0, 0, 0, 0, 0, 0, 0, 0, 0, 0, 0, 0, 0, 0, 0, 0, 0, 0, 0, 922, 0, 0, 0, 0, 0, 0, 0, 0, 0, 1106, 0, 0, 0, 0, 916, 0, 0, 0, 0, 0, 0, 0, 0, 0, 917, 0, 0, 0, 0, 0, 0, 0, 0, 0, 917, 0, 0, 0, 0, 0, 0, 0, 0, 0, 0, 0, 0, 918, 0, 0, 0, 0, 0, 0, 0, 0, 0, 918, 0, 0, 0, 0, 0, 0, 0, 0, 0, 0, 0, 0, 0, 0, 916, 0, 0, 1148, 0, 0, 0, 917, 0, 0, 0, 0, 918, 0, 0, 0, 0, 922, 0, 0, 0, 0, 0, 0]) = true := by decide +kernel
theorem qk_140 : qmok (yX10_add, cX10_add, 16, none, 11, qc140) := qmE_ok qw_140 rfl qv_140
set_option maxRecDepth 100000 in
theorem qw_141 : znt lw_tbl 1139 = some (.code yX10_goThrough cX10_goThrough 7 (some .boolean)) := by rfl
set_option maxRecDepth 100000 in
theorem qv_141 : (qmG (fun _ => true) (zinA 60) (zinA 1138) (zinA 32) (yX10_goThrough, cX10_goThrough, 7, some .boolean, 11, qc141) && qfD yX10_goThrough.cls 7 cX10_goThrough (qall qc141) [0, 0, 919, 0, 0, 920, 0, 0, 921, 0, 0, 0, 0, 0, 0, 0, 0, 0, 0, 0, 910, 0, 0, 0, 0, 0, 914, 0, 0, 0, 0, 0, 913, 0, 0, 0, 0, 0, 0, 0, 0, 0, 922, 0, 0, 0, 0, 0, 0, 0, 0, 916, 0, 0, 0, 0, 0, 0, 0, 0, 917, 0, 0, 0, 0, 918, 0, 0, 0, 0, 0, 0, 911, 0, 0, 0, 0, 0, 912, 0, 0, 0, 0, 0, 0, 0, 0, 1140, 0, 0, 0, 0, 0, 922, 0, 0, 0, 0, 0, 0, 0, 0, 0, 919, 0, 916, 0, 0, 0, 1148, 0, 919, 0, 0, 920, 0, 917, 0, 0, 0, 920, 0, 0, 921, 0, 918, 0, 0, 0, 921, 0, 0, 0, 0]) = true := by decide +kernel
theorem qk_141 : qmok (yX10_goThrough, cX10_goThrough, 7, some .boolean, 11, qc141) := qmE_ok qw_141 rfl qv_141
set_option maxRecDepth 100000 in
theorem qw_142 : znt lw_tbl 1175 = some (.code yX10_over cX10_over 1 (some .int)) := by rfl
set_option maxRecDepth 100000 in
theorem qv_142 : (qmG (fun _ => true) (zinA 60) (zinA 1174) (zinA 0) (yX10_over, cX10_over, 1, some .int, 0, qc142) && qfD yX10_over.cls 1 cX10_over (qall qc142) [0, 0, 0, 0, 0, 0]) = true := by decide +kernel
theorem qk_142 : qmok (yX10_over, cX10_over, 1, some .int, 0, qc142) := qmE_ok qw_142 rfl qv_142
