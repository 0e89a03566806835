set_option maxRecDepth 100000 in
theorem qk_169 : qmD (yX10_about, cX10_about, 3, some .int, 11, qc169) (1254, 60, 1252, 1253) [0, 0, 1227, 0, 0, 0, 0, 0, 0, 928, 0, 0, 0, 0, 929, 0, 0, 0, 0, 930, 0, 0, 0, 0, 931, 0, 0, 0, 0, 932, 0, 0, 0, 0, 933, 0, 0, 0, 0, 934, 0, 0, 0, 0, 0] = true := by decide +kernel
set_option maxRecDepth 100000 in
theorem qk_170 : qmD (yX10_right, cX10_right, 3, some .int, 11, qc170) (1258, 60, 1256, 1257) [0, 0, 1227, 0, 0, 1103, 0, 0, 0, 0, 0, 928, 0, 0, 0, 1153, 0, 929, 0, 0, 0, 921, 1173, 0, 0, 0, 0, 929, 0, 0, 0, 920, 1173, 0, 0, 0, 0, 0] = true := by decide +kernel
set_option maxRecDepth 100000 in
theorem qk_171 : qmD (yX10_heardFrom, cX10_heardFrom, 4, some .int, 11, qc171) (1266, 60, 1265, 47) [0, 0, 0, 0, 0, 0, 0, 0, 925, 0, 0, 0, 0, 0, 939, 0, 0, 0, 0, 0, 0, 0, 0, 0, 939, 0, 0, 0, 0, 0, 0, 0, 0, 0, 0] = true := by decide +kernel
set_option maxRecDepth 100000 in
theorem qk_172 : qmD (yX10_call, cX10_call, 5, some .int, 11, qc172) (1262, 60, 1260, 1261) [0, 1114, 0, 0, 0, 0, 1051, 0, 0, 0, 0, 925, 0, 0, 0, 0, 0, 0, 0, 939, 0, 925, 0, 0, 0, 0, 0, 925, 0, 0, 0, 0, 0, 0, 0, 0, 0, 0, 1263, 0, 0, 0, 925, 0, 0, 0, 0, 0, 0, 1263, 0, 0, 0, 0, 0, 0] = true := by decide +kernel
set_option maxRecDepth 100000 in
theorem qk_173 : qmD (yX10_day, cX10_day, 3, some .int, 11, qc173) (1270, 60, 1268, 1269) [0, 892, 0, 0, 0, 0, 0, 0, 1263, 0, 0, 0, 0, 0, 925, 0, 0, 0, 0, 939, 0, 0, 0, 0, 939, 0, 0, 0, 0, 0, 0, 925, 0, 0, 0, 0, 0, 0, 0, 0, 892, 0, 0, 892, 0, 0] = true := by decide +kernel
set_option maxRecDepth 100000 in
theorem qk_174 : qmD (yX10_weight, cX10_weight, 9, some .int, 11, qc174) (1274, 60, 1272, 1273) [0, 0, 0, 1051, 0, 0, 1114, 0, 0, 1117, 0, 0, 0, 0, 0, 0, 0, 892, 1124, 0, 0, 0, 0, 0, 0, 0, 0, 0, 0, 0, 0, 0, 0, 0, 913, 0, 0, 0, 0, 0, 0, 0, 0, 0, 0, 0, 0, 0, 0, 0, 892, 1144, 0, 0, 0, 0, 1169, 0, 892, 1106, 0, 1173, 0, 0, 0, 908, 0, 0, 0, 0, 0, 909, 0, 0, 0, 892, 0, 0, 0, 0, 0, 0, 0, 0, 0, 891, 0, 0, 891, 0, 0, 0, 0, 891, 1275, 0, 891, 0, 0, 906, 0, 0, 0, 0, 0, 0, 891, 1276, 0, 891, 0, 0, 0, 0, 891, 1277, 0, 891, 0, 0, 0, 0, 0, 0, 891, 1278, 0, 891, 0, 0, 0, 0, 891, 1279, 0, 891, 0, 0, 0, 0, 0, 0, 891, 1280, 0, 891, 0, 0, 0, 0, 0, 0, 0, 0, 891, 1281, 0, 891, 0, 0, 0, 1173, 0] = true := by decide +kernel
set_option maxRecDepth 100000 in
theorem qk_175 : qmD (yX10_move, cX10_move, 5, none, 0, qc175) (1292, 60, 1291, 0) [0, 0, 0, 0, 0, 0, 0, 0, 0, 0, 0, 0, 0, 0, 0, 0, 0, 0, 0, 0, 0, 0] = true := by decide +kernel
set_option maxRecDepth 100000 in
theorem qk_176 : qmD (yX10_moveAll, cX10_moveAll, 3, none, 11, qc176) (1289, 60, 1288, 48) [0, 923, 0, 0, 0, 1290, 0, 924, 0, 0, 0, 1290, 0, 925, 0, 0, 0, 1290, 0, 926, 0, 0, 0, 1290, 0, 928, 0, 0, 0, 1290, 0, 929, 0, 0, 0, 1290, 0, 930, 0, 0, 0, 1290, 0, 931, 0, 0, 0, 1290, 0, 932, 0, 0, 0, 1290, 0, 933, 0, 0, 0, 1290, 0, 934, 0, 0, 0, 1290, 0, 935, 0, 0, 0, 1290, 0, 936, 0, 0, 0, 1290, 0, 937, 0, 0, 0, 1290, 0, 938, 0, 0, 0, 1290, 0, 939, 0, 0, 0, 1290, 0] = true := by decide +kernel
set_option maxRecDepth 100000 in
theorem qk_177 : qmD (yX10_keep, cX10_keep, 2, some .int, 11, qc177) (1285, 60, 1283, 1284) [0, 0, 0, 1051, 0, 0, 0, 0, 0, 0, 0, 0, 1286, 0, 927, 0, 0, 0, 0, 892, 0, 0, 941, 0, 0, 0, 0, 892, 0] = true := by decide +kernel
set_option maxRecDepth 100000 in
theorem qk_178 : qmD (yX10_back, cX10_back, 2, some .int, 11, qc178) (1296, 60, 1294, 1295) [0, 0, 0, 1051, 0, 0, 0, 0, 941, 0, 0, 0, 0, 0, 0, 0, 0, 0, 0, 1286, 0, 0, 927, 0, 0, 0, 0, 892, 0, 892, 0] = true := by decide +kernel
set_option maxRecDepth 100000 in
theorem qk_179 : qmD (yX10_count, cX10_count, 4, some .int, 11, qc179) (1300, 60, 1298, 1299) [0, 0, 0, 0, 0, 895, 0, 0, 0, 0, 0, 0, 0, 0, 910, 0, 0, 0, 0, 0, 0, 0, 0, 0, 0, 0, 0, 0, 0, 0, 908, 0, 0, 0, 0, 0, 0, 0, 0, 0, 0, 0, 0, 0, 0, 923, 0, 0, 0, 0, 924, 0, 0, 0, 0, 925, 0, 0, 0, 0, 892, 0, 0, 894, 0, 0, 0, 0, 0, 923, 0, 0, 0, 0, 0, 931, 0, 0, 0, 0, 0, 0, 0, 0, 0, 0, 0, 0, 923, 0, 0, 0, 0, 0, 934, 0, 0, 0, 0, 0, 0, 0, 0, 0, 926, 0, 0, 0, 0, 0] = true := by decide +kernel
set_option maxRecDepth 100000 in
theorem qk_180 : qmD (yX10_trace, cX10_trace, 1, some .long, 11, qc180) (1304, 60, 1302, 1303) [0, 891, 0] = true := by decide +kernel
set_option maxRecDepth 100000 in
theorem qk_181 : qmD (yJ6_bitCount_0f7a4, cJ6_bitCount_0f7a4, 1, some .int, 0, qc181) (687, 67, 686, 0) [0, 0, 0, 0, 688, 0, 0, 0, 0, 689, 0, 0, 0, 0, 689, 0, 0, 0, 0, 0, 0, 0, 0, 690, 0, 0, 0, 0, 0, 0, 0, 0, 0, 0, 0, 0, 0, 0, 0, 0, 0, 0] = true := by decide +kernel
set_option maxRecDepth 100000 in
theorem qk_182 : qmD (yJ6_bitCount_0f7a4, cJ6_bitCount_0f7a4, 1, some .int, 0, qc182) (687, 67, 686, 0) [0, 0, 0, 0, 688, 0, 0, 0, 0, 689, 0, 0, 0, 0, 689, 0, 0, 0, 0, 0, 0, 0, 0, 690, 0, 0, 0, 0, 0, 0, 0, 0, 0, 0, 0, 0, 0, 0, 0, 0, 0, 0] = true := by decide +kernel
set_option maxRecDepth 100000 in
theorem qk_183 : qmD (yJ0_length_8abf5, cJ0_length_8abf5, 1, some .int, 21, qc183) (431, 61, 429, 430) [0, 1306, 0, 0, 432, 0, 0] = true := by decide +kernel
set_option maxRecDepth 100000 in
theorem qk_184 : qmD (yJ0_charAt_5068e, cJ0_charAt_5068e, 2, some .char, 21, qc184) (441, 61, 439, 440) [0, 442, 0, 0, 1306, 0, 446, 0] = true := by decide +kernel
set_option maxRecDepth 100000 in
theorem qk_185 : qmD (yJ0_coder_7d493, cJ0_coder_7d493, 1, some .byte, 21, qc185) (435, 61, 433, 434) [436, 0, 0, 1307, 0, 0, 0] = true := by decide +kernel
set_option maxRecDepth 100000 in
theorem qk_186 : qmD (yJ0_isLatin1_aae02, cJ0_isLatin1_aae02, 1, some .boolean, 21, qc186) (445, 61, 443, 444) [436, 0, 0, 1307, 0, 0, 0, 0, 0] = true := by decide +kernel
set_option maxRecDepth 100000 in
theorem qk_187 : qmD (yJ0_checkIndex_df160, cJ0_checkIndex_df160, 2, none, 0, qc187) (451, 61, 450, 0) [0, 0, 452, 454, 0, 0] = true := by decide +kernel
set_option maxRecDepth 100000 in
theorem qk_188 : qmD (yJ1_charAt_3b067, cJ1_charAt_3b067, 2, some .char, 0, qc188) (448, 62, 447, 0) [0, 0, 0, 449, 0, 0, 0, 0, 0, 0, 0] = true := by decide +kernel
set_option maxRecDepth 100000 in
theorem qk_189 : qmD (yJ3_checkIndex_8e157, cJ3_checkIndex_8e157, 3, some .int, 0, qc189) (456, 63, 455, 0) [0, 0, 0, 0, 0, 0, 0, 0, 0, 0] = true := by decide +kernel
