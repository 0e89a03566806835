set_option maxRecDepth 100000 in
theorem zck_X9_due : zmD (yX9_due, cX9_due, 3, some .int, 10, zc_X9_due) (497, 50, 495, 496) [0, 0, 0, 370, 0, 0, 0, 0, 370, 0, 0, 0, 0, 345, 0, 345, 0, 498, 0, 502, 0] = true := by decide +kernel
set_option maxRecDepth 100000 in
theorem zck_X9_pay : zmD (yX9_pay, cX9_pay, 7, some .int, 10, zc_X9_pay) (512, 50, 510, 511) [0, 513, 0, 0, 516, 0, 0, 0, 0, 370, 0, 0, 0, 0, 370, 0, 0, 0, 0, 0, 0, 347, 0, 0, 297, 0, 0, 347, 0, 0, 299, 0, 0, 0, 0, 0, 0, 0, 0, 0, 0, 0] = true := by decide +kernel
set_option maxRecDepth 100000 in
theorem zck_X9_firm : zmD (yX9_firm, cX9_firm, 7, some .int, 10, zc_X9_firm) (522, 50, 520, 521) [0, 513, 0, 0, 516, 0, 0, 516, 0, 0, 0, 0, 0, 0, 0, 0, 0, 0, 0, 0, 0, 0, 0, 370, 0, 0, 0, 0, 347, 0, 0, 0, 0, 0, 0, 0, 0, 0, 0, 0, 523, 0, 0, 0, 0, 0, 0, 0, 0, 348, 275, 527, 0] = true := by decide +kernel
set_option maxRecDepth 100000 in
theorem zck_X9_slip : zmD (yX9_slip, cX9_slip, 5, some .int, 10, zc_X9_slip) (534, 50, 532, 533) [0, 513, 0, 0, 516, 0, 0, 0, 0, 370, 0, 0, 0, 0, 347, 0, 0, 0, 0, 0, 0, 535, 0, 346, 0, 562, 0, 0, 0] = true := by decide +kernel
set_option maxRecDepth 100000 in
theorem zck_X9_could : zmD (yX9_could, cX9_could, 3, some .int, 10, zc_X9_could) (610, 50, 608, 609) [0, 513, 0, 0, 0, 0, 370, 0, 0, 0, 0, 0, 0, 535, 0, 346, 577, 0] = true := by decide +kernel
set_option maxRecDepth 100000 in
theorem zck_X9_owed : zmD (yX9_owed, cX9_owed, 4, some .int, 10, zc_X9_owed) (614, 50, 612, 613) [0, 513, 0, 0, 0, 0, 370, 0, 0, 0, 0, 370, 0, 0, 0, 0, 0, 0, 615, 0, 346, 0, 347, 0, 0, 0, 628, 0] = true := by decide +kernel
set_option maxRecDepth 100000 in
theorem zck_X9_stands : zmD (yX9_stands, cX9_stands, 3, some .int, 10, zc_X9_stands) (655, 50, 653, 654) [0, 513, 0, 0, 0, 0, 370, 0, 0, 0, 0, 0, 0, 615, 0, 346, 656, 0, 0, 0, 0] = true := by decide +kernel
set_option maxRecDepth 100000 in
theorem zck_X9_span : zmD (yX9_span, cX9_span, 6, some .int, 10, zc_X9_span) (663, 50, 661, 662) [0, 513, 0, 0, 0, 0, 370, 0, 0, 516, 0, 0, 0, 0, 370, 0, 0, 0, 0, 0, 0, 535, 0, 346, 0, 664, 0, 0, 0] = true := by decide +kernel
set_option maxRecDepth 100000 in
theorem zck_X9_settles : zmD (yX9_settles, cX9_settles, 6, some .int, 10, zc_X9_settles) (671, 50, 669, 670) [0, 513, 0, 0, 0, 0, 370, 0, 0, 0, 0, 370, 0, 0, 0, 0, 0, 0, 615, 0, 347, 0, 0, 0, 0, 346, 0, 0, 299, 672, 0, 0, 346, 0, 299, 681, 0, 0, 0, 0, 700, 0, 0, 0] = true := by decide +kernel
set_option maxRecDepth 100000 in
theorem zck_X9_tells : zmD (yX9_tells, cX9_tells, 3, some .int, 10, zc_X9_tells) (704, 50, 702, 703) [0, 513, 0, 0, 0, 0, 370, 0, 0, 0, 0, 0, 0, 615, 0, 346, 0, 347, 0, 0, 705, 0] = true := by decide +kernel
set_option maxRecDepth 100000 in
theorem zck_X9_debt : zmD (yX9_debt, cX9_debt, 4, some .int, 10, zc_X9_debt) (718, 50, 716, 717) [0, 513, 0, 0, 0, 0, 370, 0, 0, 0, 0, 0, 0, 348, 275, 615, 0, 346, 0, 347, 0, 0, 0, 628, 0, 0, 0, 0, 0] = true := by decide +kernel
set_option maxRecDepth 100000 in
theorem zck_X9_hold : zmD (yX9_hold, cX9_hold, 8, some .int, 10, zc_X9_hold) (726, 50, 724, 725) [0, 513, 0, 0, 0, 0, 370, 0, 0, 0, 0, 0, 0, 370, 0, 0, 0, 0, 370, 0, 0, 0, 0, 0, 0, 0, 0, 0, 0, 0, 0, 0, 0, 0, 0, 0, 0, 348, 269, 213, 0, 0, 0] = true := by decide +kernel
set_option maxRecDepth 100000 in
theorem zck_X9_set : zmD (yX9_set, cX9_set, 2, some .int, 10, zc_X9_set) (744, 50, 742, 743) [0, 0, 745, 0, 0, 0] = true := by decide +kernel
set_option maxRecDepth 100000 in
theorem zck_X9_about : zmD (yX9_about, cX9_about, 3, some .int, 10, zc_X9_about) (760, 50, 758, 759) [0, 0, 745, 0, 0, 0] = true := by decide +kernel
set_option maxRecDepth 100000 in
theorem zck_X9_right : zmD (yX9_right, cX9_right, 4, some .int, 10, zc_X9_right) (768, 50, 766, 767) [0, 0, 745, 0, 0, 0] = true := by decide +kernel
set_option maxRecDepth 100000 in
theorem zck_X9_place : zmD (yX9_place, cX9_place, 7, some .int, 10, zc_X9_place) (774, 50, 772, 773) [0, 513, 0, 0, 0, 0, 370, 0, 0, 0, 0, 370, 0, 0, 0, 0, 0, 0, 347, 0, 0, 315, 0, 0, 347, 0, 0, 317, 0, 0, 0, 348, 275, 0, 0, 0, 348, 275, 0, 0, 0, 0, 0, 0, 0, 0, 0, 0, 0, 0] = true := by decide +kernel
set_option maxRecDepth 100000 in
theorem zck_X9_letter : zmD (yX9_letter, cX9_letter, 3, some .int, 10, zc_X9_letter) (778, 50, 776, 777) [0, 0, 745, 0, 0, 0] = true := by decide +kernel
set_option maxRecDepth 100000 in
theorem zck_X9_post : zmD (yX9_post, cX9_post, 3, some .int, 10, zc_X9_post) (786, 50, 784, 785) [0, 0, 0, 348, 271, 244, 0, 0, 370, 0, 0, 0] = true := by decide +kernel
set_option maxRecDepth 100000 in
theorem zck_X9_call : zmD (yX9_call, cX9_call, 3, some .int, 10, zc_X9_call) (790, 50, 788, 789) [0, 513, 0, 0, 0, 0, 370, 0, 0, 0, 0, 348, 273, 0, 791, 0, 0, 348, 273, 795, 0] = true := by decide +kernel
set_option maxRecDepth 100000 in
theorem zck_X9_day : zmD (yX9_day, cX9_day, 1, some .int, 10, zc_X9_day) (802, 50, 800, 801) [0, 348, 275, 0, 0, 0, 348, 0, 275, 0, 0, 275, 0, 348, 273, 803, 0] = true := by decide +kernel
set_option maxRecDepth 100000 in
theorem zck_X9_weight : zmD (yX9_weight, cX9_weight, 4, some .int, 10, zc_X9_weight) (810, 50, 808, 809) [0, 0, 0, 370, 0, 0, 513, 0, 0, 516, 0, 0, 0, 0, 0, 0, 348, 275, 535, 0, 0, 0, 347, 0, 0, 0, 811, 0] = true := by decide +kernel
set_option maxRecDepth 100000 in
theorem zck_X9_keep : zmD (yX9_keep, cX9_keep, 2, some .int, 10, zc_X9_keep) (832, 50, 830, 831) [0, 0, 0, 370, 0, 0, 0, 0, 349, 0, 0, 0, 348, 833, 0, 349, 0, 0, 0, 277, 0, 348, 275, 0] = true := by decide +kernel
set_option maxRecDepth 100000 in
theorem zck_X9_back : zmD (yX9_back, cX9_back, 2, some .int, 10, zc_X9_back) (855, 50, 853, 854) [0, 0, 0, 370, 0, 0, 0, 0, 349, 0, 0, 277, 0, 0, 0] = true := by decide +kernel
set_option maxRecDepth 100000 in
theorem zck_X9_count : zmD (yX9_count, cX9_count, 2, some .int, 10, zc_X9_count) (859, 50, 857, 858) [0, 0, 0, 345, 100, 0, 0, 860, 0, 0, 864, 0, 0, 348, 269, 213, 0, 0, 348, 271, 244, 0, 0, 348, 273, 262, 0, 0, 348, 275, 0, 0, 344, 120, 0, 0, 348, 269, 868, 0, 0, 348, 269, 872, 0, 0, 348, 269, 876, 0, 0, 0] = true := by decide +kernel
