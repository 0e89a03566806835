set_option maxRecDepth 100000 in
theorem qk_143 : qmD (yX10_slip, cX10_slip, 5, some .int, 11, qc143) (1131, 60, 1129, 1130) [0, 1114, 0, 0, 1117, 0, 0, 0, 0, 1051, 0, 0, 0, 0, 0, 0, 0, 0, 0, 0, 0, 0, 0, 1124, 0, 0, 0, 908, 0, 0, 0, 0, 0, 0, 0, 0, 0, 1132, 0, 915, 0, 0, 0, 0, 0, 0, 1136, 0, 0, 0, 0, 908, 0, 0, 0, 0, 909, 0, 0, 892, 0, 0, 0, 0, 892, 1132, 0, 0, 0, 892, 1136, 0, 0, 919, 0, 0] = true := by decide +kernel
set_option maxRecDepth 100000 in
theorem qk_144 : qmD (yX10_look, cX10_look, 3, none, 11, qc144) (1156, 60, 1155, 35) [0, 0, 0, 1132, 0, 0, 0, 1136, 0, 0] = true := by decide +kernel
set_option maxRecDepth 100000 in
theorem qk_145 : qmD (yX10_could, cX10_could, 3, some .int, 11, qc145) (1152, 60, 1150, 1151) [0, 1114, 0, 0, 1103, 0, 0, 0, 0, 0, 0, 1153, 0, 919, 0, 0] = true := by decide +kernel
set_option maxRecDepth 100000 in
theorem qk_146 : qmD (yX10_average, cX10_average, 4, some .int, 11, qc146) (1172, 60, 1171, 38) [0, 912, 0, 0, 0, 911, 0, 0, 0, 0, 0, 0, 0, 913, 0, 0, 0, 0, 0, 0, 911, 0, 0, 0, 0, 913, 0, 0, 0, 0, 0, 0, 0, 0, 0, 0] = true := by decide +kernel
set_option maxRecDepth 100000 in
theorem qk_147 : qmD (yX10_owedBy, cX10_owedBy, 7, some .int, 11, qc147) (1168, 60, 1167, 37) [0, 0, 0, 0, 0, 0, 0, 0, 0, 0, 0, 1124, 0, 0, 0, 0, 0, 0, 0, 0, 0, 1144, 0, 0, 0, 0, 0, 0, 1169, 0, 0, 907, 0, 0, 0, 0, 0, 0, 0, 1106, 0, 0, 0, 0, 0, 0, 1173, 0] = true := by decide +kernel
set_option maxRecDepth 100000 in
theorem qk_148 : qmD (yX10_owedOf, cX10_owedOf, 4, some .int, 11, qc148) (1164, 60, 1163, 36) [0, 0, 0, 0, 0, 0, 0, 0, 0, 0, 0, 0, 0, 1165, 0, 0, 0, 0, 1153, 0, 0, 0, 0, 920, 0, 0, 921, 1173, 0] = true := by decide +kernel
set_option maxRecDepth 100000 in
theorem qk_149 : qmD (yX10_owed, cX10_owed, 4, some .int, 11, qc149) (1160, 60, 1158, 1159) [0, 1114, 0, 0, 1103, 0, 0, 0, 0, 1051, 0, 0, 0, 0, 0, 1161, 0, 0, 0] = true := by decide +kernel
set_option maxRecDepth 100000 in
theorem qk_150 : qmD (yX10_isOne, cX10_isOne, 1, some .boolean, 11, qc150) (1183, 60, 1182, 39) [0, 920, 1173, 0, 921, 1173, 0, 0, 0, 0, 0] = true := by decide +kernel
set_option maxRecDepth 100000 in
theorem qk_151 : qmD (yX10_stands, cX10_stands, 3, some .int, 11, qc151) (1179, 60, 1177, 1178) [0, 1114, 0, 0, 1103, 0, 0, 0, 0, 0, 0, 1153, 0, 1180, 0, 0, 0, 0, 0] = true := by decide +kernel
set_option maxRecDepth 100000 in
theorem qk_152 : qmD (yX10_span, cX10_span, 9, some .int, 11, qc152) (1187, 60, 1185, 1186) [0, 1114, 0, 0, 1103, 0, 0, 1117, 0, 0, 0, 0, 1051, 0, 0, 0, 0, 0, 0, 0, 1124, 0, 0, 0, 0, 0, 0, 0, 0, 0, 1132, 0, 915, 0, 0, 0, 0, 0, 915, 0, 0, 0, 0, 913, 0, 0, 0, 0, 0, 0, 911, 0, 0, 0, 0, 0, 912, 0, 0, 0, 0, 0, 915, 0, 0, 0, 0, 0, 0, 0, 915, 0, 0, 0, 0, 0, 0, 915, 0, 0, 0, 0, 0, 0, 0, 0, 0, 0, 0, 0, 0, 0, 0, 0, 0, 0, 0, 0, 0, 1173, 0, 0, 0, 0, 0, 0, 0, 0] = true := by decide +kernel
set_option maxRecDepth 100000 in
theorem qk_153 : qmD (yX10_bitsIn, cX10_bitsIn, 3, some .int, 0, qc153) (1206, 60, 1205, 0) [0, 0, 0, 0, 0, 0, 0, 0, 0, 0, 0, 0, 0, 0, 0, 0, 0, 0, 0] = true := by decide +kernel
set_option maxRecDepth 100000 in
theorem qk_154 : qmD (yX10_inSpans, cX10_inSpans, 5, some .int, 11, qc154) (1199, 60, 1198, 41) [0, 0, 0, 0, 0, 0, 0, 0, 0, 0, 0, 0, 1124, 0, 0, 0, 0, 0, 0, 0, 0, 0, 0, 0, 0, 0] = true := by decide +kernel
set_option maxRecDepth 100000 in
theorem qk_155 : qmD (yX10_showing, cX10_showing, 7, some .boolean, 11, qc155) (1203, 60, 1202, 42) [0, 0, 0, 1132, 0, 0, 0, 0, 0, 0, 0, 0, 907, 0, 0, 0, 0, 0, 0, 0, 0, 0, 0, 0, 0, 0, 0, 0, 0, 0, 915, 0, 0, 0, 0, 0, 915, 0, 0, 0, 0, 0, 0, 0, 0, 0, 915, 0, 0, 0, 0, 0, 0, 0, 0, 0, 0, 1136, 0, 0, 0, 0, 0] = true := by decide +kernel
set_option maxRecDepth 100000 in
theorem qk_156 : qmD (yX10_settling, cX10_settling, 6, some .int, 11, qc156) (1195, 60, 1194, 40) [0, 0, 0, 1196, 0, 0, 0, 0, 0, 1200, 0, 0, 0, 0, 0, 0, 0, 0, 0, 0, 0, 0, 0, 0, 0, 0, 0, 0, 0, 0, 1204, 0, 0, 0, 0, 0, 0, 1200, 0, 0, 1180, 0, 0, 0, 0, 0, 0, 0, 0, 0] = true := by decide +kernel
set_option maxRecDepth 100000 in
theorem qk_157 : qmD (yX10_settles, cX10_settles, 5, some .int, 11, qc157) (1191, 60, 1189, 1190) [0, 1114, 0, 0, 1103, 0, 0, 0, 0, 1051, 0, 0, 0, 0, 0, 0, 1192, 0, 0, 0, 0, 0, 0, 0, 0, 0, 0, 1204, 0] = true := by decide +kernel
set_option maxRecDepth 100000 in
theorem qk_158 : qmD (yX10_tells, cX10_tells, 9, some .int, 11, qc158) (1210, 60, 1208, 1209) [0, 1114, 0, 0, 1103, 0, 0, 0, 0, 0, 0, 0, 0, 0, 0, 0, 0, 0, 0, 0, 1132, 0, 0, 0, 0, 1124, 0, 0, 0, 915, 0, 0, 0, 0, 0, 0, 0, 0, 0, 0, 0, 0, 915, 0, 0, 0, 0, 0, 0, 1136, 0, 0, 921, 1173, 0, 920, 1173, 0, 0, 0, 0, 0, 0, 0, 0, 0, 0, 0, 0, 0, 0, 0, 0, 0, 0, 0, 0, 0, 0, 0, 0, 0] = true := by decide +kernel
set_option maxRecDepth 100000 in
theorem qk_159 : qmD (yX10_isDebt, cX10_isDebt, 2, some .boolean, 11, qc159) (1230, 60, 1229, 44) [0, 0, 0, 923, 0, 0, 0, 0, 1051, 0] = true := by decide +kernel
set_option maxRecDepth 100000 in
theorem qk_160 : qmD (yX10_debt, cX10_debt, 5, some .int, 11, qc160) (1214, 60, 1212, 1213) [0, 1114, 0, 0, 0, 0, 1051, 0, 0, 0, 0, 0, 0, 892, 0, 1161, 0, 0, 0, 0, 0, 0, 923, 0, 0, 0, 0, 0, 0, 0, 923, 0, 0, 0, 0, 928, 0, 0, 0, 0, 929, 0, 0, 0, 0, 930, 0, 0, 0, 0, 931, 0, 0, 0, 0, 932, 0, 0, 0, 0, 933, 0, 0, 892, 0, 0, 934, 0, 0, 0, 0, 935, 0, 0, 0, 0, 923, 0, 0, 0, 0, 0, 0, 0, 0] = true := by decide +kernel
set_option maxRecDepth 100000 in
theorem qk_161 : qmD (yX10_placeOf, cX10_placeOf, 4, some .int, 11, qc161) (1222, 60, 1221, 43) [0, 940, 0, 0, 0, 0, 0, 0, 0, 0, 0, 0, 0] = true := by decide +kernel
set_option maxRecDepth 100000 in
theorem qk_162 : qmD (yX10_place, cX10_place, 6, some .int, 11, qc162) (1218, 60, 1216, 1217) [0, 1114, 0, 0, 0, 0, 1051, 0, 0, 0, 0, 1051, 0, 0, 0, 0, 0, 0, 0, 892, 1219, 0, 0, 892, 0, 0, 0, 0, 0, 940, 0, 0, 0, 0, 0, 0, 0, 0, 0, 0, 0, 0, 0, 0, 0] = true := by decide +kernel
set_option maxRecDepth 100000 in
theorem qk_163 : qmD (yX10_letter, cX10_letter, 3, some .int, 11, qc163) (1226, 60, 1224, 1225) [0, 0, 1227, 0, 0, 0, 0, 924, 0, 0, 0, 0, 0, 0, 0, 924, 0, 0, 0, 0, 936, 0, 0, 0, 0, 937, 0, 0, 892, 0, 0, 938, 0, 0, 0, 928, 0, 0, 0, 0, 892, 1219, 0, 0, 924, 0, 0, 0, 0, 0, 0, 0, 0] = true := by decide +kernel
set_option maxRecDepth 100000 in
theorem qk_164 : qmD (yX10_stateOf, cX10_stateOf, 3, some .int, 11, qc164) (1238, 60, 1237, 45) [0, 937, 0, 0, 0, 0, 0, 0, 0, 892, 0, 0, 0, 0, 0, 928, 0, 936, 0, 0, 0, 0, 0, 1219, 0, 938, 0, 0, 0, 0, 0, 0, 0] = true := by decide +kernel
set_option maxRecDepth 100000 in
theorem qk_165 : qmD (yX10_post, cX10_post, 3, some .int, 11, qc165) (1234, 60, 1232, 1233) [0, 0, 0, 924, 0, 0, 0, 0, 1051, 0, 0, 0, 0, 1051, 0, 0, 0, 0, 0, 0, 936, 0, 0, 0, 0, 0, 0, 0, 937, 0, 0, 0, 0, 0, 0, 0, 938, 0, 0, 0, 0, 0, 1235, 0] = true := by decide +kernel
set_option maxRecDepth 100000 in
theorem qk_166 : qmD (yX10_mayHold, cX10_mayHold, 4, some .boolean, 11, qc166) (1246, 60, 1245, 46) [0, 0, 0, 0, 0, 0, 924, 0, 0, 0, 0, 0, 0, 936, 0, 0, 0, 0, 0, 937, 0, 0, 0, 0, 0, 892, 0, 0, 0, 1235, 0, 0, 0, 0, 0, 0, 0, 0, 0, 0] = true := by decide +kernel
set_option maxRecDepth 100000 in
theorem qk_167 : qmD (yX10_hold, cX10_hold, 9, some .int, 11, qc167) (1242, 60, 1240, 1241) [0, 1114, 0, 0, 0, 0, 1051, 0, 0, 0, 0, 1051, 0, 0, 0, 0, 1051, 0, 0, 0, 0, 0, 0, 0, 0, 0, 0, 0, 0, 0, 0, 0, 923, 0, 0, 0, 0, 928, 0, 0, 0, 0, 0, 0, 1243, 0, 0, 0, 930, 0, 0, 0, 0, 0, 0, 930, 0, 0, 0, 0, 930, 0, 0, 0, 0, 0, 0, 0, 931, 0, 0, 0, 0, 0, 0, 0, 934, 0, 0, 0, 0, 0, 0, 0, 0, 0, 0, 0, 0, 0, 0, 0, 0, 0, 0, 0, 0, 0, 0] = true := by decide +kernel
set_option maxRecDepth 100000 in
theorem qk_168 : qmD (yX10_set, cX10_set, 3, some .int, 11, qc168) (1250, 60, 1248, 1249) [0, 0, 1227, 0, 0, 0, 0, 935, 0, 0, 0, 0, 0, 0, 0, 931, 0, 0, 0, 0, 932, 0, 0, 930, 0, 0, 0, 0, 0, 0, 930, 0, 0, 0, 0, 931, 0, 0, 0, 0, 935, 0, 0, 0, 0, 926, 0, 0, 0, 0, 934, 0, 0, 0, 0, 0, 0] = true := by decide +kernel
