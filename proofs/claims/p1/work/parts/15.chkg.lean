set_option maxRecDepth 100000 in
theorem zck_X10_trace : zmD (yX10_trace, cX10_trace, 1, some .long, 11, zc_X10_trace) (1304, 60, 1302, 1303) [0, 891, 0] = true := by decide +kernel
set_option maxRecDepth 100000 in
theorem zck_J6_bitCount_0f7a4 : zmD (yJ6_bitCount_0f7a4, cJ6_bitCount_0f7a4, 1, some .int, 0, zc_J6_bitCount_0f7a4) (687, 67, 686, 0) [0, 0, 0, 0, 688, 0, 0, 0, 0, 689, 0, 0, 0, 0, 689, 0, 0, 0, 0, 0, 0, 0, 0, 690, 0, 0, 0, 0, 0, 0, 0, 0, 0, 0, 0, 0, 0, 0, 0, 0, 0, 0] = true := by decide +kernel
