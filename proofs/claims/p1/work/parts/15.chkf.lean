set_option maxRecDepth 100000 in
theorem zck_X10_place : zmD (yX10_place, cX10_place, 6, some .int, 11, zc_X10_place) (1218, 60, 1216, 1217) [0, 1114, 0, 0, 0, 0, 1051, 0, 0, 0, 0, 1051, 0, 0, 0, 0, 0, 0, 0, 892, 1219, 0, 0, 892, 0, 0, 0, 0, 0, 940, 0, 0, 0, 0, 0, 0, 0, 0, 0, 0, 0, 0, 0, 0, 0] = true := by decide +kernel
set_option maxRecDepth 100000 in
theorem zck_X10_letter : zmD (yX10_letter, cX10_letter, 3, some .int, 11, zc_X10_letter) (1226, 60, 1224, 1225) [0, 0, 1227, 0, 0, 0] = true := by decide +kernel
set_option maxRecDepth 100000 in
theorem zck_X10_stateOf : zmD (yX10_stateOf, cX10_stateOf, 3, some .int, 11, zc_X10_stateOf) (1238, 60, 1237, 45) [] = true := by decide +kernel
set_option maxRecDepth 100000 in
theorem zck_X10_post : zmD (yX10_post, cX10_post, 3, some .int, 11, zc_X10_post) (1234, 60, 1232, 1233) [0, 0, 0, 924, 0, 0, 0, 0, 1051, 0, 0, 0] = true := by decide +kernel
set_option maxRecDepth 100000 in
theorem zck_X10_mayHold : zmD (yX10_mayHold, cX10_mayHold, 4, some .boolean, 11, zc_X10_mayHold) (1246, 60, 1245, 46) [] = true := by decide +kernel
set_option maxRecDepth 100000 in
theorem zck_X10_hold : zmD (yX10_hold, cX10_hold, 9, some .int, 11, zc_X10_hold) (1242, 60, 1240, 1241) [0, 1114, 0, 0, 0, 0, 1051, 0, 0, 0, 0, 1051, 0, 0, 0, 0, 1051, 0, 0, 0, 0, 0, 0, 0, 0, 0, 0, 0, 0, 0, 0, 0, 923, 0, 0, 0, 0, 0] = true := by decide +kernel
set_option maxRecDepth 100000 in
theorem zck_X10_set : zmD (yX10_set, cX10_set, 3, some .int, 11, zc_X10_set) (1250, 60, 1248, 1249) [0, 0, 1227, 0, 0, 0] = true := by decide +kernel
set_option maxRecDepth 100000 in
theorem zck_X10_about : zmD (yX10_about, cX10_about, 3, some .int, 11, zc_X10_about) (1254, 60, 1252, 1253) [0, 0, 1227, 0, 0, 0] = true := by decide +kernel
set_option maxRecDepth 100000 in
theorem zck_X10_right : zmD (yX10_right, cX10_right, 3, some .int, 11, zc_X10_right) (1258, 60, 1256, 1257) [0, 0, 1227, 0, 0, 0] = true := by decide +kernel
set_option maxRecDepth 100000 in
theorem zck_X10_heardFrom : zmD (yX10_heardFrom, cX10_heardFrom, 4, some .int, 11, zc_X10_heardFrom) (1266, 60, 1265, 47) [0, 0, 0, 0, 0, 0, 0, 0, 925, 0, 0, 0, 0, 0, 939, 0, 0, 0, 0, 0, 0, 0, 0, 0, 939, 0, 0, 0, 0, 0, 0, 0, 0, 0, 0] = true := by decide +kernel
set_option maxRecDepth 100000 in
theorem zck_X10_call : zmD (yX10_call, cX10_call, 5, some .int, 11, zc_X10_call) (1262, 60, 1260, 1261) [0, 1114, 0, 0, 0, 0, 1051, 0, 0, 0, 0, 925, 0, 0, 0, 0, 0, 939, 0, 925, 0, 0, 0, 0, 0, 925, 0, 0, 0, 0, 0, 0, 0, 0, 0, 0, 1263, 0, 0, 0, 925, 0, 0, 0, 0, 0] = true := by decide +kernel
set_option maxRecDepth 100000 in
theorem zck_X10_day : zmD (yX10_day, cX10_day, 3, some .int, 11, zc_X10_day) (1270, 60, 1268, 1269) [0, 892, 0, 0, 0, 0, 1263, 0, 0, 0, 0, 0, 925, 0, 0, 0, 0, 925, 0, 0, 0, 0, 0, 0, 0, 0, 892, 0, 0, 892, 0, 0] = true := by decide +kernel
set_option maxRecDepth 100000 in
theorem zck_X10_weight : zmD (yX10_weight, cX10_weight, 9, some .int, 11, zc_X10_weight) (1274, 60, 1272, 1273) [0, 0, 0, 1051, 0, 0, 1114, 0, 0, 1117, 0, 0, 0, 0, 0, 0, 0, 892, 1124, 0, 0, 0, 0, 0, 0, 0, 0, 0, 0, 0, 0, 0, 0, 0, 0, 0, 0, 0, 0, 0, 0, 0, 0, 908, 0, 0, 0, 0, 0, 0, 0, 0, 0, 0, 891, 0, 0, 891, 0, 0, 0, 0, 891, 1275, 0, 891, 0, 0, 906, 0, 0, 0, 0, 0, 0, 891, 1276, 0, 891, 0, 0, 0, 0, 891, 1277, 0, 891, 0, 0, 0, 0, 0, 0, 891, 1278, 0, 891, 0, 0, 0, 0, 891, 1279, 0, 891, 0, 0, 0, 0, 0, 0, 891, 1280, 0, 891, 0, 0, 0, 0, 0, 0, 891, 1281, 0, 891, 0, 0, 0, 1173, 0] = true := by decide +kernel
set_option maxRecDepth 100000 in
theorem zck_X10_move : zmD (yX10_move, cX10_move, 5, none, 0, zc_X10_move) (1292, 60, 1291, 0) [0, 0, 0, 0, 0, 0, 0, 0, 0, 0, 0, 0, 0, 0, 0, 0, 0, 0, 0, 0, 0, 0] = true := by decide +kernel
set_option maxRecDepth 100000 in
theorem zck_X10_moveAll : zmD (yX10_moveAll, cX10_moveAll, 3, none, 11, zc_X10_moveAll) (1289, 60, 1288, 48) [0, 923, 0, 0, 0, 1290, 0, 924, 0, 0, 0, 1290, 0, 925, 0, 0, 0, 1290, 0, 926, 0, 0, 0, 1290, 0, 928, 0, 0, 0, 1290, 0, 929, 0, 0, 0, 1290, 0, 930, 0, 0, 0, 1290, 0, 931, 0, 0, 0, 1290, 0, 932, 0, 0, 0, 1290, 0, 933, 0, 0, 0, 1290, 0, 934, 0, 0, 0, 1290, 0, 935, 0, 0, 0, 1290, 0, 936, 0, 0, 0, 1290, 0, 937, 0, 0, 0, 1290, 0, 938, 0, 0, 0, 1290, 0, 939, 0, 0, 0, 1290, 0] = true := by decide +kernel
set_option maxRecDepth 100000 in
theorem zck_X10_keep : zmD (yX10_keep, cX10_keep, 2, some .int, 11, zc_X10_keep) (1285, 60, 1283, 1284) [0, 0, 0, 1051, 0, 0, 0, 0, 0, 0, 0, 0, 1286, 0, 927, 0, 0, 0, 0, 892, 0, 0, 941, 0, 0, 0, 0, 892, 0] = true := by decide +kernel
set_option maxRecDepth 100000 in
theorem zck_X10_back : zmD (yX10_back, cX10_back, 2, some .int, 11, zc_X10_back) (1296, 60, 1294, 1295) [0, 0, 0, 1051, 0, 0, 0, 0, 941, 0, 0, 0, 0, 0] = true := by decide +kernel
set_option maxRecDepth 100000 in
theorem zck_X10_count : zmD (yX10_count, cX10_count, 4, some .int, 11, zc_X10_count) (1300, 60, 1298, 1299) [0, 0, 0, 0, 0, 895, 0, 0, 0, 0, 0, 0, 0, 0, 910, 0, 0, 0, 0, 0, 0, 0, 0, 0, 0, 0, 0, 0, 0, 0, 908, 0, 0, 0, 0, 0, 0, 0, 0, 0, 0, 0, 0, 0, 923, 0, 0, 0, 0, 924, 0, 0, 0, 0, 925, 0, 0, 0, 0, 892, 0, 0, 894, 0, 0, 0, 0, 0, 923, 0, 0, 0, 0, 0, 0, 0, 0, 0, 923, 0, 0, 0, 0, 0, 0, 926, 0, 0, 0, 0, 0] = true := by decide +kernel
