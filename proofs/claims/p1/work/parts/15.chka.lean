set_option maxRecDepth 100000 in
theorem zck_X0_init : zmD (yX0_init, cX0_init, 1, none, 1, zc_X0_init) (134, 53, 133, 0) [0, 135, 0, 136, 0, 138, 166, 0, 0, 0, 168, 0, 0, 0, 169, 0, 0, 0, 170, 0, 0, 171, 0, 0, 172, 0, 0, 173, 0] = true := by decide +kernel
set_option maxRecDepth 100000 in
theorem zck_X0_look : zmD (yX0_look, cX0_look, 5, none, 1, zc_X0_look) (547, 53, 545, 546) [0, 0, 171, 0, 0, 172, 0, 0, 173, 0, 0, 0, 0, 0, 0, 0, 319, 0, 0, 0, 0, 169, 0, 0, 0, 0, 0, 0, 170, 0, 0, 0, 0, 0, 0, 0, 0, 0, 0, 0, 0, 0, 168, 0, 0, 0, 0, 548, 0, 0, 168, 0, 0, 0, 0, 0, 0] = true := by decide +kernel
set_option maxRecDepth 100000 in
theorem zck_X0_isInSpan : zmD (yX0_isInSpan, cX0_isInSpan, 2, some .boolean, 1, zc_X0_isInSpan) (667, 53, 665, 666) [0, 168, 0, 0, 0, 0, 0] = true := by decide +kernel
set_option maxRecDepth 100000 in
theorem zck_X0_isLoose : zmD (yX0_isLoose, cX0_isLoose, 2, some .boolean, 1, zc_X0_isLoose) (565, 53, 563, 564) [0, 171, 0, 0, 0, 0, 0, 0, 0, 0] = true := by decide +kernel
set_option maxRecDepth 100000 in
theorem zck_X0_show : zmD (yX0_show, cX0_show, 4, none, 1, zc_X0_show) (561, 53, 560, 8) [] = true := by decide +kernel
set_option maxRecDepth 100000 in
theorem zck_X0_unshow : zmD (yX0_unshow, cX0_unshow, 4, none, 1, zc_X0_unshow) (699, 53, 698, 14) [] = true := by decide +kernel
set_option maxRecDepth 100000 in
theorem zck_X0_leastPay : zmD (yX0_leastPay, cX0_leastPay, 4, some .int, 1, zc_X0_leastPay) (569, 53, 567, 568) [] = true := by decide +kernel
set_option maxRecDepth 100000 in
theorem zck_X0_mostPay : zmD (yX0_mostPay, cX0_mostPay, 4, some .int, 1, zc_X0_mostPay) (575, 53, 573, 574) [] = true := by decide +kernel
set_option maxRecDepth 100000 in
theorem zck_X0_mostLoose : zmD (yX0_mostLoose, cX0_mostLoose, 3, some .int, 1, zc_X0_mostLoose) (584, 53, 582, 583) [0, 0, 0, 0, 0, 0, 0, 0, 0, 170, 0, 0, 571, 0, 0, 0, 0, 0] = true := by decide +kernel
set_option maxRecDepth 100000 in
theorem zck_X0_ways : zmD (yX0_ways, cX0_ways, 4, some .int, 1, zc_X0_ways) (580, 53, 578, 579) [0, 166, 0, 581, 585, 0, 0, 0, 0, 0, 0, 0, 0, 0, 166, 0, 170, 0, 0, 0, 169, 0, 0, 599, 0, 0, 606, 0, 0, 0, 0, 0, 0, 0] = true := by decide +kernel
set_option maxRecDepth 100000 in
theorem zck_X0_leastOwed : zmD (yX0_leastOwed, cX0_leastOwed, 3, some .int, 1, zc_X0_leastOwed) (635, 53, 633, 634) [0, 173, 0, 0, 0, 0, 0, 0, 0, 0, 166, 0, 170, 0, 0, 0, 169, 0, 0, 636, 0, 0, 0, 0, 0, 0, 172, 0, 0, 571, 0] = true := by decide +kernel
set_option maxRecDepth 100000 in
theorem zck_X0_mostOwed : zmD (yX0_mostOwed, cX0_mostOwed, 3, some .int, 1, zc_X0_mostOwed) (643, 53, 641, 642) [0, 173, 0, 0, 0, 0, 0, 0, 0, 0, 166, 0, 170, 0, 0, 0, 169, 0, 0, 644, 0, 0, 0, 0, 0, 0, 172, 0, 0, 571, 0] = true := by decide +kernel
set_option maxRecDepth 100000 in
theorem zck_X0_spread : zmD (yX0_spread, cX0_spread, 1, some .int, 1, zc_X0_spread) (659, 53, 657, 658) [0, 640, 0, 632, 0, 0] = true := by decide +kernel
set_option maxRecDepth 100000 in
theorem zck_X0_owedBy : zmD (yX0_owedBy, cX0_owedBy, 6, some .int, 1, zc_X0_owedBy) (631, 53, 629, 630) [0, 0, 0, 0, 632, 0, 0, 0, 0, 0, 640, 0, 0, 0, 0, 0, 0, 0, 0, 0, 168, 0, 0, 0, 0, 0, 0, 0, 172, 0, 0, 571, 0] = true := by decide +kernel
set_option maxRecDepth 100000 in
theorem zck_X0_couldBe : zmD (yX0_couldBe, cX0_couldBe, 4, some .boolean, 1, zc_X0_couldBe) (675, 53, 673, 674) [0, 0, 0, 0, 0, 0, 0, 676, 0, 0, 0, 0, 0, 0, 0, 0, 0, 0, 0, 677, 0, 169, 0, 0, 0, 0, 0, 0, 0] = true := by decide +kernel
set_option maxRecDepth 100000 in
theorem zck_X0_looseSum : zmD (yX0_looseSum, cX0_looseSum, 5, some .int, 1, zc_X0_looseSum) (680, 53, 679, 12) [0, 0, 0, 0, 0, 0, 0, 0, 168, 0, 0, 0, 0, 0, 0, 0, 0] = true := by decide +kernel
set_option maxRecDepth 100000 in
theorem zck_X0_settlingSet : zmD (yX0_settlingSet, cX0_settlingSet, 5, some .int, 1, zc_X0_settlingSet) (684, 53, 682, 683) [0, 171, 0, 0, 0, 0, 0, 0, 0, 0, 0, 0, 0, 0, 0, 0, 0, 0, 0, 0, 685, 0, 0, 0, 0, 0, 691, 0, 0, 0] = true := by decide +kernel
set_option maxRecDepth 100000 in
theorem zck_X0_settlesBy : zmD (yX0_settlesBy, cX0_settlesBy, 5, some .boolean, 1, zc_X0_settlesBy) (694, 53, 693, 13) [0, 0, 0, 0, 0, 0, 0, 0, 0, 0, 0, 0, 0, 0, 0, 695, 0, 0, 0, 0, 0, 0, 0, 0, 0, 0, 0, 0, 0, 0, 0, 0, 0, 0, 0, 0] = true := by decide +kernel
set_option maxRecDepth 100000 in
theorem zck_X0_tellingMost : zmD (yX0_tellingMost, cX0_tellingMost, 6, some .int, 1, zc_X0_tellingMost) (708, 53, 706, 707) [0, 0, 0, 0, 0, 0, 0, 0, 0, 0, 0, 570, 0, 0, 0, 0, 0] = true := by decide +kernel
set_option maxRecDepth 100000 in
theorem zck_X0_worstSpread : zmD (yX0_worstSpread, cX0_worstSpread, 6, some .int, 1, zc_X0_worstSpread) (712, 53, 711, 15) [] = true := by decide +kernel
set_option maxRecDepth 100000 in
theorem zck_X0_sumOfSpan : zmD (yX0_sumOfSpan, cX0_sumOfSpan, 4, some .int, 1, zc_X0_sumOfSpan) (822, 53, 820, 821) [0, 168, 0, 0, 0, 0, 0, 0, 0, 0] = true := by decide +kernel
set_option maxRecDepth 100000 in
theorem zck_X0_tooMuch : zmD (yX0_tooMuch, cX0_tooMuch, 5, some .int, 1, zc_X0_tooMuch) (826, 53, 824, 825) [0, 168, 0, 0, 0, 0, 0, 0, 0] = true := by decide +kernel
set_option maxRecDepth 100000 in
theorem zck_X1_init : zmD (yX1_init, cX1_init, 1, none, 2, zc_X1_init) (195, 55, 194, 0) [0, 196, 0, 197, 0, 199, 268, 0, 231, 0, 233, 270, 0, 254, 0, 256, 272, 0, 0, 274, 0, 0, 276, 0] = true := by decide +kernel
set_option maxRecDepth 100000 in
theorem zck_X1_takeOver : zmD (yX1_takeOver, cX1_takeOver, 2, none, 2, zc_X1_takeOver) (836, 55, 834, 835) [0, 268, 0, 268, 837, 0, 270, 0, 270, 842, 0, 272, 0, 272, 847, 0, 0, 274, 274, 0] = true := by decide +kernel
set_option maxRecDepth 100000 in
theorem zck_X2_init : zmD (yX2_init, cX2_init, 1, none, 3, zc_X2_init) (201, 56, 200, 0) [0, 202, 0, 0, 0, 203, 0, 0, 0, 205, 0, 0, 0, 207, 0, 0, 0, 208, 0, 0, 0, 209, 0, 0, 0, 210, 0, 0, 0, 211, 0, 0, 212, 0] = true := by decide +kernel
set_option maxRecDepth 100000 in
theorem zck_X2_add : zmD (yX2_add, cX2_add, 4, some .int, 3, zc_X2_add) (722, 56, 720, 721) [] = true := by decide +kernel
set_option maxRecDepth 100000 in
theorem zck_X2_holdOf : zmD (yX2_holdOf, cX2_holdOf, 4, some .int, 3, zc_X2_holdOf) (738, 56, 736, 737) [] = true := by decide +kernel
set_option maxRecDepth 100000 in
theorem zck_X2_isAside : zmD (yX2_isAside, cX2_isAside, 2, some .boolean, 3, zc_X2_isAside) (752, 56, 750, 751) [] = true := by decide +kernel
set_option maxRecDepth 100000 in
theorem zck_X2_putAside : zmD (yX2_putAside, cX2_putAside, 3, some .int, 3, zc_X2_putAside) (756, 56, 754, 755) [] = true := by decide +kernel
set_option maxRecDepth 100000 in
theorem zck_X2_told : zmD (yX2_told, cX2_told, 3, some .int, 3, zc_X2_told) (764, 56, 762, 763) [] = true := by decide +kernel
set_option maxRecDepth 100000 in
theorem zck_X2_heldOfAll : zmD (yX2_heldOfAll, cX2_heldOfAll, 3, some .int, 3, zc_X2_heldOfAll) (871, 56, 869, 870) [0, 0, 0, 0, 0, 0, 212, 0, 0, 0] = true := by decide +kernel
set_option maxRecDepth 100000 in
theorem zck_X2_feesOfAll : zmD (yX2_feesOfAll, cX2_feesOfAll, 3, some .int, 3, zc_X2_feesOfAll) (875, 56, 873, 874) [0, 0, 0, 0, 0, 0, 212, 0, 0, 0] = true := by decide +kernel
set_option maxRecDepth 100000 in
theorem zck_X2_lostOfAll : zmD (yX2_lostOfAll, cX2_lostOfAll, 3, some .int, 3, zc_X2_lostOfAll) (879, 56, 877, 878) [0, 0, 0, 0, 0, 0, 212, 0, 0, 0] = true := by decide +kernel
set_option maxRecDepth 100000 in
theorem zck_X2_takeOver : zmD (yX2_takeOver, cX2_takeOver, 2, none, 3, zc_X2_takeOver) (840, 56, 838, 839) [0, 0, 212, 212, 0, 203, 0, 203, 841, 0, 205, 0, 205, 841, 0, 207, 0, 207, 841, 0, 208, 0, 208, 841, 0, 209, 0, 209, 841, 0, 210, 0, 210, 841, 0, 211, 0, 211, 841, 0] = true := by decide +kernel
set_option maxRecDepth 100000 in
theorem zck_X3_init : zmD (yX3_init, cX3_init, 1, none, 4, zc_X3_init) (235, 57, 234, 0) [0, 236, 0, 0, 0, 237, 0, 0, 0, 239, 0, 0, 0, 241, 0, 0, 243, 0] = true := by decide +kernel
set_option maxRecDepth 100000 in
theorem zck_X3_add : zmD (yX3_add, cX3_add, 4, some .int, 4, zc_X3_add) (782, 57, 780, 781) [] = true := by decide +kernel
set_option maxRecDepth 100000 in
theorem zck_X3_takeOver : zmD (yX3_takeOver, cX3_takeOver, 2, none, 4, zc_X3_takeOver) (845, 57, 843, 844) [0, 0, 243, 243, 0, 237, 0, 237, 846, 0, 239, 0, 239, 846, 0, 241, 0, 241, 846, 0] = true := by decide +kernel
