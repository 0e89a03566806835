set_option maxRecDepth 100000 in
theorem zck_X10_pay : zmD (yX10_pay, cX10_pay, 7, some .int, 11, zc_X10_pay) (1113, 60, 1111, 1112) [0, 1114, 0, 0, 1117, 0, 0, 0, 0, 1051, 0, 0, 0, 0, 1051, 0, 0, 0, 0, 0, 0, 0, 0, 0, 0, 0, 0, 906, 0, 0, 0, 0, 907, 0, 0, 0, 0, 0, 0, 906, 0, 0, 0, 0, 0, 907, 0, 0, 0, 0, 0] = true := by decide +kernel
set_option maxRecDepth 100000 in
theorem zck_X10_firmOf : zmD (yX10_firmOf, cX10_firmOf, 5, some .int, 11, zc_X10_firmOf) (1127, 60, 1126, 30) [0, 0, 0, 0, 0, 0, 0, 0, 0, 910, 0, 0, 0, 0, 0, 0] = true := by decide +kernel
set_option maxRecDepth 100000 in
theorem zck_X10_firm : zmD (yX10_firm, cX10_firm, 6, some .int, 11, zc_X10_firm) (1123, 60, 1121, 1122) [0, 1114, 0, 0, 1117, 0, 0, 0, 0, 1051, 0, 0, 0, 0, 0, 0, 0, 0, 0, 0, 1051, 0, 0, 0, 0, 0, 0, 0, 0, 0, 0, 0, 0, 1124, 0, 0, 0, 0, 0, 910, 0, 0, 0, 0, 0, 0, 0, 0, 910, 0, 0, 0, 0, 0, 911, 0, 0, 0, 0, 912, 0, 0, 0, 0, 913, 0, 0, 0, 0, 914, 0, 0, 892, 0, 0, 910, 0, 0, 0, 0, 0, 0, 0, 910, 0, 0, 0] = true := by decide +kernel
set_option maxRecDepth 100000 in
theorem zck_X10_findHeld : zmD (yX10_findHeld, cX10_findHeld, 5, none, 11, zc_X10_findHeld) (1135, 60, 1134, 31) [0, 0, 0, 0, 0, 0, 0, 0, 0, 0, 0, 0, 915, 0, 0, 908, 0, 0, 0, 0, 0, 0, 0, 0, 0] = true := by decide +kernel
set_option maxRecDepth 100000 in
theorem zck_X10_paid : zmD (yX10_paid, cX10_paid, 4, some .int, 11, zc_X10_paid) (1147, 60, 1146, 34) [] = true := by decide +kernel
set_option maxRecDepth 100000 in
theorem zck_X10_add : zmD (yX10_add, cX10_add, 16, none, 11, zc_X10_add) (1143, 60, 1142, 33) [] = true := by decide +kernel
set_option maxRecDepth 100000 in
theorem zck_X10_goThrough : zmD (yX10_goThrough, cX10_goThrough, 7, some .boolean, 11, zc_X10_goThrough) (1139, 60, 1138, 32) [0, 0, 919, 0, 0, 920, 0, 0, 921, 0, 0, 0, 0, 0, 0, 0, 0, 0, 0, 0, 910, 0, 0, 0, 0, 0, 0] = true := by decide +kernel
set_option maxRecDepth 100000 in
theorem zck_X10_over : zmD (yX10_over, cX10_over, 1, some .int, 0, zc_X10_over) (1175, 60, 1174, 0) [0, 0, 0, 0, 0, 0] = true := by decide +kernel
set_option maxRecDepth 100000 in
theorem zck_X10_slip : zmD (yX10_slip, cX10_slip, 5, some .int, 11, zc_X10_slip) (1131, 60, 1129, 1130) [0, 1114, 0, 0, 1117, 0, 0, 0, 0, 1051, 0, 0, 0, 0, 0, 0, 0, 0, 0, 0, 0, 0, 0, 1124, 0, 0, 0, 0] = true := by decide +kernel
set_option maxRecDepth 100000 in
theorem zck_X10_look : zmD (yX10_look, cX10_look, 3, none, 11, zc_X10_look) (1156, 60, 1155, 35) [0, 0, 0, 1132, 0, 0, 0, 1136, 0, 0] = true := by decide +kernel
set_option maxRecDepth 100000 in
theorem zck_X10_could : zmD (yX10_could, cX10_could, 3, some .int, 11, zc_X10_could) (1152, 60, 1150, 1151) [0, 1114, 0, 0, 1103, 0, 0, 0, 0, 0, 0, 1153, 0, 919, 0, 0] = true := by decide +kernel
set_option maxRecDepth 100000 in
theorem zck_X10_average : zmD (yX10_average, cX10_average, 4, some .int, 11, zc_X10_average) (1172, 60, 1171, 38) [] = true := by decide +kernel
set_option maxRecDepth 100000 in
theorem zck_X10_owedBy : zmD (yX10_owedBy, cX10_owedBy, 7, some .int, 11, zc_X10_owedBy) (1168, 60, 1167, 37) [0, 0, 0, 0, 0, 0, 0, 0, 0, 0, 0, 1124, 0, 0, 0, 0, 0, 0, 0, 1173, 0] = true := by decide +kernel
set_option maxRecDepth 100000 in
theorem zck_X10_owedOf : zmD (yX10_owedOf, cX10_owedOf, 4, some .int, 11, zc_X10_owedOf) (1164, 60, 1163, 36) [0, 0, 0, 0, 0, 0, 0, 0, 0, 0, 0, 0, 0, 1165, 0, 0, 0, 0, 1153, 0, 0, 0, 0, 920, 0, 0, 921, 1173, 0] = true := by decide +kernel
set_option maxRecDepth 100000 in
theorem zck_X10_owed : zmD (yX10_owed, cX10_owed, 4, some .int, 11, zc_X10_owed) (1160, 60, 1158, 1159) [0, 1114, 0, 0, 1103, 0, 0, 0, 0, 1051, 0, 0, 0, 0, 0, 1161, 0, 0, 0] = true := by decide +kernel
set_option maxRecDepth 100000 in
theorem zck_X10_isOne : zmD (yX10_isOne, cX10_isOne, 1, some .boolean, 11, zc_X10_isOne) (1183, 60, 1182, 39) [0, 920, 1173, 0, 921, 1173, 0, 0, 0, 0] = true := by decide +kernel
set_option maxRecDepth 100000 in
theorem zck_X10_stands : zmD (yX10_stands, cX10_stands, 3, some .int, 11, zc_X10_stands) (1179, 60, 1177, 1178) [0, 1114, 0, 0, 1103, 0, 0, 0, 0, 0, 0, 1153, 0, 1180, 0, 0, 0, 0] = true := by decide +kernel
set_option maxRecDepth 100000 in
theorem zck_X10_span : zmD (yX10_span, cX10_span, 9, some .int, 11, zc_X10_span) (1187, 60, 1185, 1186) [0, 1114, 0, 0, 1103, 0, 0, 1117, 0, 0, 0, 0, 1051, 0, 0, 0, 0, 0, 0, 0, 1124, 0, 0, 0, 0, 0, 0] = true := by decide +kernel
set_option maxRecDepth 100000 in
theorem zck_X10_bitsIn : zmD (yX10_bitsIn, cX10_bitsIn, 3, some .int, 0, zc_X10_bitsIn) (1206, 60, 1205, 0) [0, 0, 0, 0, 0, 0, 0, 0, 0, 0, 0, 0, 0, 0, 0, 0, 0, 0, 0] = true := by decide +kernel
set_option maxRecDepth 100000 in
theorem zck_X10_inSpans : zmD (yX10_inSpans, cX10_inSpans, 5, some .int, 11, zc_X10_inSpans) (1199, 60, 1198, 41) [0, 0, 0, 0, 0, 0, 0, 0, 0, 0, 0, 0, 1124, 0, 0, 0, 0, 0, 0, 0, 0, 0, 0] = true := by decide +kernel
set_option maxRecDepth 100000 in
theorem zck_X10_showing : zmD (yX10_showing, cX10_showing, 7, some .boolean, 11, zc_X10_showing) (1203, 60, 1202, 42) [0, 0, 0, 1132, 0, 0, 0, 0, 0, 0, 0, 0, 907, 0, 0, 0, 0, 0, 0, 0, 0, 0, 0, 0, 0, 0, 0, 0, 0, 0, 0, 0, 0, 0, 1136, 0, 0, 0, 0] = true := by decide +kernel
set_option maxRecDepth 100000 in
theorem zck_X10_settling : zmD (yX10_settling, cX10_settling, 6, some .int, 11, zc_X10_settling) (1195, 60, 1194, 40) [0, 0, 0, 1196, 0, 0, 0, 0, 0, 1200, 0, 0, 0, 0, 0, 0, 0, 0, 0, 0, 0, 0, 0, 0, 0, 0, 0, 0, 1204, 0, 0, 0, 0, 0, 0, 1200, 0, 0, 1180, 0, 0, 0] = true := by decide +kernel
set_option maxRecDepth 100000 in
theorem zck_X10_settles : zmD (yX10_settles, cX10_settles, 5, some .int, 11, zc_X10_settles) (1191, 60, 1189, 1190) [0, 1114, 0, 0, 1103, 0, 0, 0, 0, 1051, 0, 0, 0, 0, 0, 0, 1192, 0, 0, 0, 0, 0, 0, 0, 0, 0, 0, 1204, 0] = true := by decide +kernel
set_option maxRecDepth 100000 in
theorem zck_X10_tells : zmD (yX10_tells, cX10_tells, 9, some .int, 11, zc_X10_tells) (1210, 60, 1208, 1209) [0, 1114, 0, 0, 1103, 0, 0, 0, 0, 0, 0, 0, 0, 0, 0, 0, 0, 0, 0, 0, 1132, 0, 0, 0, 0, 1124, 0, 0, 0, 0, 0, 0] = true := by decide +kernel
set_option maxRecDepth 100000 in
theorem zck_X10_isDebt : zmD (yX10_isDebt, cX10_isDebt, 2, some .boolean, 11, zc_X10_isDebt) (1230, 60, 1229, 44) [0, 0, 0, 923, 0, 0, 0, 0, 1051, 0] = true := by decide +kernel
set_option maxRecDepth 100000 in
theorem zck_X10_debt : zmD (yX10_debt, cX10_debt, 5, some .int, 11, zc_X10_debt) (1214, 60, 1212, 1213) [0, 1114, 0, 0, 0, 0, 1051, 0, 0, 0, 0, 0, 0, 892, 0, 1161, 0, 0, 0, 0, 0] = true := by decide +kernel
set_option maxRecDepth 100000 in
theorem zck_X10_placeOf : zmD (yX10_placeOf, cX10_placeOf, 4, some .int, 11, zc_X10_placeOf) (1222, 60, 1221, 43) [0, 940, 0, 0, 0, 0, 0, 0, 0, 0, 0, 0, 0] = true := by decide +kernel
