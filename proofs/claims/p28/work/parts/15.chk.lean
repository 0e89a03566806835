set_option maxRecDepth 100000 in
theorem zck_X0_init : zmD (yX0_init, cX0_init, 1, none, 1, zc_X0_init) (134, 53, 133, 0) [0, 135, 0, 136, 0, 138, 166, 0, 0, 0, 168, 0, 0, 0, 169, 0, 0, 0, 170, 0, 0, 171, 0, 0, 172, 0, 0, 173, 0] = true := by decide +kernel
set_option maxRecDepth 100000 in
theorem zck_X1_init : zmD (yX1_init, cX1_init, 1, none, 2, zc_X1_init) (195, 55, 194, 0) [0, 196, 0, 197, 0, 199, 268, 0, 231, 0, 233, 270, 0, 254, 0, 256, 272, 0, 0, 274, 0, 0, 276, 0] = true := by decide +kernel
set_option maxRecDepth 100000 in
theorem zck_X2_init : zmD (yX2_init, cX2_init, 1, none, 3, zc_X2_init) (201, 56, 200, 0) [0, 202, 0, 0, 0, 203, 0, 0, 0, 205, 0, 0, 0, 207, 0, 0, 0, 208, 0, 0, 0, 209, 0, 0, 0, 210, 0, 0, 0, 211, 0, 0, 212, 0] = true := by decide +kernel
set_option maxRecDepth 100000 in
theorem zck_X3_init : zmD (yX3_init, cX3_init, 1, none, 4, zc_X3_init) (235, 57, 234, 0) [0, 236, 0, 0, 0, 237, 0, 0, 0, 239, 0, 0, 0, 241, 0, 0, 243, 0] = true := by decide +kernel
set_option maxRecDepth 100000 in
theorem zck_X4_init : zmD (yX4_init, cX4_init, 1, none, 5, zc_X4_init) (258, 58, 257, 0) [0, 259, 0, 0, 0, 260, 0, 0, 261, 0] = true := by decide +kernel
set_option maxRecDepth 100000 in
theorem zck_X5_init : zmD (yX5_init, cX5_init, 2, none, 6, zc_X5_init) (293, 59, 292, 0) [0, 294, 0, 0, 0, 295, 0, 0, 0, 298, 0, 0, 0, 301, 0, 0, 0, 304, 0, 0, 0, 306, 0, 0, 0, 308, 0, 0, 0, 310, 0, 0, 0, 312, 0, 0, 0, 314, 0, 0, 0, 316, 0, 0, 318, 0, 0, 0, 0, 0, 0, 301, 0, 0, 0, 0, 0, 0] = true := by decide +kernel
set_option maxRecDepth 100000 in
theorem zck_X6_init : zmD (yX6_init, cX6_init, 1, none, 7, zc_X6_init) (86, 52, 85, 0) [0, 87, 0, 0, 0, 88, 0, 0, 0, 90, 0, 0, 0, 92, 0, 0, 0, 94, 0, 0, 0, 96, 0, 0, 98, 0] = true := by decide +kernel
set_option maxRecDepth 100000 in
theorem zck_X7_init : zmD (yX7_init, cX7_init, 1, none, 8, zc_X7_init) (80, 51, 79, 0) [0, 81, 0, 0, 0, 116, 0, 82, 0, 84, 117, 0, 0, 119, 0] = true := by decide +kernel
set_option maxRecDepth 100000 in
theorem zck_X8_init : zmD (yX8_init, cX8_init, 1, none, 9, zc_X8_init) (140, 54, 139, 0) [0, 141, 0, 0, 0, 144, 0, 0, 0, 142, 145, 0, 0, 0, 142, 146, 0, 0, 0, 142, 147, 0, 0, 148, 0, 0, 149, 0, 0, 150, 0, 147, 0, 0, 0, 0, 0, 0] = true := by decide +kernel
set_option maxRecDepth 100000 in
theorem zck_X9_init : zmD (yX9_init, cX9_init, 2, none, 10, zc_X9_init) (72, 50, 71, 0) [0, 73, 0, 76, 0, 78, 344, 0, 128, 0, 129, 345, 0, 130, 0, 132, 346, 0, 0, 189, 347, 0, 191, 0, 193, 348, 0, 0, 191, 349, 0, 0, 350, 0, 0, 0, 0, 0, 0, 347, 0, 189, 0, 291, 0, 0, 0, 0, 0, 0, 0, 0, 0, 349, 0, 191, 0, 193, 0, 0, 0, 0] = true := by decide +kernel
set_option maxRecDepth 100000 in
theorem zck_X10_init : zmD (yX10_init, cX10_init, 2, none, 11, zc_X10_init) (889, 60, 888, 0) [0, 890, 0, 0, 0, 893, 0, 0, 0, 896, 0, 0, 0, 897, 0, 0, 0, 898, 0, 0, 0, 899, 0, 0, 0, 900, 0, 0, 0, 906, 0, 0, 0, 907, 0, 0, 0, 908, 0, 0, 0, 909, 0, 0, 0, 910, 0, 0, 0, 911, 0, 0, 0, 912, 0, 0, 0, 913, 0, 0, 0, 914, 0, 0, 0, 915, 0, 0, 0, 916, 0, 0, 0, 917, 0, 0, 0, 918, 0, 0, 0, 922, 0, 0, 0, 923, 0, 0, 0, 924, 0, 0, 0, 925, 0, 0, 0, 926, 0, 0, 0, 927, 0, 0, 0, 928, 0, 0, 0, 929, 0, 0, 0, 930, 0, 0, 0, 931, 0, 0, 0, 932, 0, 0, 0, 933, 0, 0, 0, 934, 0, 0, 0, 935, 0, 0, 0, 936, 0, 0, 0, 937, 0, 0, 0, 938, 0, 0, 0, 939, 0, 0, 0, 940, 0, 0, 0, 941, 0, 0, 0, 0, 0, 0, 908, 0, 0, 0, 0, 0, 0] = true := by decide +kernel
set_option maxRecDepth 100000 in
theorem zlk_0 : zfD RL 4 false cL_law zlaw [68, 0, 70, 0, 885, 0, 887, 0, 0, 0] = true := by decide +kernel
