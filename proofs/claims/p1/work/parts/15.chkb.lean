set_option maxRecDepth 100000 in
theorem zck_X4_init : zmD (yX4_init, cX4_init, 1, none, 5, zc_X4_init) (258, 58, 257, 0) [0, 259, 0, 0, 0, 260, 0, 0, 261, 0] = true := by decide +kernel
set_option maxRecDepth 100000 in
theorem zck_X4_add : zmD (yX4_add, cX4_add, 2, some .boolean, 5, zc_X4_add) (794, 58, 792, 793) [0, 261, 0, 0, 0, 260, 0, 261, 0, 0, 0, 0, 261, 0, 0, 261, 0, 0] = true := by decide +kernel
set_option maxRecDepth 100000 in
theorem zck_X4_waitOfLast : zmD (yX4_waitOfLast, cX4_waitOfLast, 4, some .int, 5, zc_X4_waitOfLast) (798, 58, 796, 797) [0, 0, 0, 0, 0, 0, 0, 0, 261, 0, 0, 0, 260, 0, 0, 0, 0, 0, 0, 0, 0, 0, 0, 0] = true := by decide +kernel
set_option maxRecDepth 100000 in
theorem zck_X4_hear : zmD (yX4_hear, cX4_hear, 4, some .int, 5, zc_X4_hear) (806, 58, 804, 805) [0, 0, 0, 0, 0, 0, 261, 0, 0, 0, 0, 0, 261, 0, 0, 0, 261, 0, 0, 261, 0, 0] = true := by decide +kernel
set_option maxRecDepth 100000 in
theorem zck_X4_takeOver : zmD (yX4_takeOver, cX4_takeOver, 2, none, 5, zc_X4_takeOver) (850, 58, 848, 849) [0, 0, 261, 261, 0, 260, 0, 260, 851, 0] = true := by decide +kernel
set_option maxRecDepth 100000 in
theorem zck_X5_init : zmD (yX5_init, cX5_init, 2, none, 6, zc_X5_init) (293, 59, 292, 0) [0, 294, 0, 0, 0, 295, 0, 0, 0, 298, 0, 0, 0, 301, 0, 0, 0, 304, 0, 0, 0, 306, 0, 0, 0, 308, 0, 0, 0, 310, 0, 0, 0, 312, 0, 0, 0, 314, 0, 0, 0, 316, 0, 0, 318, 0, 0, 0, 0, 0, 0, 301, 0, 0, 0, 0, 0, 0] = true := by decide +kernel
set_option maxRecDepth 100000 in
theorem zck_X5_addFirm : zmD (yX5_addFirm, cX5_addFirm, 5, some .int, 6, zc_X5_addFirm) (530, 59, 528, 529) [0, 318, 0, 0, 0, 306, 0, 318, 0, 0, 0, 308, 0, 318, 0, 0, 0, 310, 0, 318, 0, 0, 0, 312, 0, 318, 0, 0, 0, 0, 318, 0, 0, 318, 0, 318, 0] = true := by decide +kernel
set_option maxRecDepth 100000 in
theorem zck_X5_firmWith : zmD (yX5_firmWith, cX5_firmWith, 4, some .int, 6, zc_X5_firmWith) (526, 59, 524, 525) [0, 0, 0, 0, 318, 0, 0, 0] = true := by decide +kernel
set_option maxRecDepth 100000 in
theorem zck_X5_isShown : zmD (yX5_isShown, cX5_isShown, 3, some .boolean, 6, zc_X5_isShown) (557, 59, 555, 556) [0, 301, 0, 0, 0, 0, 0] = true := by decide +kernel
set_option maxRecDepth 100000 in
theorem zck_X5_average : zmD (yX5_average, cX5_average, 5, some .int, 6, zc_X5_average) (651, 59, 649, 650) [] = true := by decide +kernel
set_option maxRecDepth 100000 in
theorem zck_X6_init : zmD (yX6_init, cX6_init, 1, none, 7, zc_X6_init) (86, 52, 85, 0) [0, 87, 0, 0, 0, 88, 0, 0, 0, 90, 0, 0, 0, 92, 0, 0, 0, 94, 0, 0, 0, 96, 0, 0, 98, 0] = true := by decide +kernel
set_option maxRecDepth 100000 in
theorem zck_X6_inForce : zmD (yX6_inForce, cX6_inForce, 3, some .int, 7, zc_X6_inForce) (501, 52, 499, 500) [0, 98, 0, 0, 0, 0, 0, 0, 0] = true := by decide +kernel
set_option maxRecDepth 100000 in
theorem zck_X6_dueBy : zmD (yX6_dueBy, cX6_dueBy, 4, some .int, 7, zc_X6_dueBy) (505, 52, 503, 504) [0, 0, 0, 0] = true := by decide +kernel
set_option maxRecDepth 100000 in
theorem zck_X6_takeOver : zmD (yX6_takeOver, cX6_takeOver, 2, none, 7, zc_X6_takeOver) (479, 52, 477, 478) [0, 0, 98, 98, 0, 88, 0, 88, 480, 0, 90, 0, 90, 480, 0, 92, 0, 92, 480, 0, 94, 0, 94, 480, 0, 96, 0, 96, 480, 0] = true := by decide +kernel
set_option maxRecDepth 100000 in
theorem zck_X7_init : zmD (yX7_init, cX7_init, 1, none, 8, zc_X7_init) (80, 51, 79, 0) [0, 81, 0, 0, 0, 116, 0, 82, 0, 84, 117, 0, 0, 119, 0] = true := by decide +kernel
set_option maxRecDepth 100000 in
theorem zck_X7_append : zmD (yX7_append, cX7_append, 5, none, 8, zc_X7_append) (376, 51, 374, 375) [0, 0, 0, 0, 0, 0, 0, 119, 0, 0, 0, 116, 0, 119, 0, 0, 0, 0, 0, 377, 0, 0, 0, 0, 0, 0, 119, 0, 0, 119, 0, 0, 0] = true := by decide +kernel
set_option maxRecDepth 100000 in
theorem zck_X7_read : zmD (yX7_read, cX7_read, 4, some .int, 8, zc_X7_read) (389, 51, 387, 388) [0, 117, 0, 99, 0, 0, 0, 0, 0, 0, 0, 0, 119, 0, 0, 0, 0, 0, 0] = true := by decide +kernel
set_option maxRecDepth 100000 in
theorem zck_X7_endOfToken : zmD (yX7_endOfToken, cX7_endOfToken, 3, some .int, 8, zc_X7_endOfToken) (393, 51, 392, 0) [] = true := by decide +kernel
set_option maxRecDepth 100000 in
theorem zck_X7_isLetter : zmD (yX7_isLetter, cX7_isLetter, 3, some .boolean, 8, zc_X7_isLetter) (397, 51, 396, 1) [] = true := by decide +kernel
set_option maxRecDepth 100000 in
theorem zck_X7_isDigit : zmD (yX7_isDigit, cX7_isDigit, 2, some .boolean, 8, zc_X7_isDigit) (401, 51, 400, 2) [] = true := by decide +kernel
set_option maxRecDepth 100000 in
theorem zck_X7_canStand : zmD (yX7_canStand, cX7_canStand, 5, some .boolean, 8, zc_X7_canStand) (405, 51, 404, 3) [] = true := by decide +kernel
set_option maxRecDepth 100000 in
theorem zck_X7_putNumber : zmD (yX7_putNumber, cX7_putNumber, 7, some .boolean, 8, zc_X7_putNumber) (409, 51, 408, 4) [] = true := by decide +kernel
set_option maxRecDepth 100000 in
theorem zck_X7_numberAt : zmD (yX7_numberAt, cX7_numberAt, 6, some .int, 8, zc_X7_numberAt) (413, 51, 412, 5) [] = true := by decide +kernel
set_option maxRecDepth 100000 in
theorem zck_X7_fixedToken : zmD (yX7_fixedToken, cX7_fixedToken, 1, some (.object "java/lang/String"), 0, zc_X7_fixedToken) (417, 51, 416, 0) [] = true := by decide +kernel
set_option maxRecDepth 100000 in
theorem zck_X7_isToken : zmD (yX7_isToken, cX7_isToken, 5, some .boolean, 8, zc_X7_isToken) (427, 51, 426, 6) [] = true := by decide +kernel
set_option maxRecDepth 100000 in
theorem zck_X8_init : zmD (yX8_init, cX8_init, 1, none, 9, zc_X8_init) (140, 54, 139, 0) [0, 141, 0, 0, 0, 144, 0, 0, 0, 142, 145, 0, 0, 0, 142, 146, 0, 0, 0, 142, 147, 0, 0, 148, 0, 0, 149, 0, 0, 150, 0, 147, 0, 0, 0, 0, 0, 0] = true := by decide +kernel
set_option maxRecDepth 100000 in
theorem zck_X8_forget : zmD (yX8_forget, cX8_forget, 1, none, 9, zc_X8_forget) (492, 54, 490, 491) [0, 0, 148, 0] = true := by decide +kernel
set_option maxRecDepth 100000 in
theorem zck_X8_use : zmD (yX8_use, cX8_use, 4, none, 9, zc_X8_use) (542, 54, 540, 541) [0, 148, 0, 0, 0, 0, 148, 0, 0, 149, 0, 0, 0, 0, 0, 0, 144, 0, 0, 0, 0, 543, 0, 0, 0, 0] = true := by decide +kernel
set_option maxRecDepth 100000 in
theorem zck_X8_dueFor : zmD (yX8_dueFor, cX8_dueFor, 2, some .int, 9, zc_X8_dueFor) (552, 54, 550, 551) [] = true := by decide +kernel
set_option maxRecDepth 100000 in
theorem zck_X8_makeDueRows : zmD (yX8_makeDueRows, cX8_makeDueRows, 2, none, 9, zc_X8_makeDueRows) (623, 54, 621, 622) [0, 149, 0, 0, 0] = true := by decide +kernel
set_option maxRecDepth 100000 in
theorem zck_X8_makeWayRows : zmD (yX8_makeWayRows, cX8_makeWayRows, 2, none, 9, zc_X8_makeWayRows) (588, 54, 586, 587) [0, 150, 0, 0, 0] = true := by decide +kernel
set_option maxRecDepth 100000 in
theorem zck_X8_leastFor : zmD (yX8_leastFor, cX8_leastFor, 3, some .int, 9, zc_X8_leastFor) (647, 54, 645, 646) [0, 0, 0, 149, 603, 0, 0, 145, 0, 0, 0, 0, 0, 0] = true := by decide +kernel
set_option maxRecDepth 100000 in
theorem zck_X8_mostFor : zmD (yX8_mostFor, cX8_mostFor, 3, some .int, 9, zc_X8_mostFor) (639, 54, 637, 638) [0, 0, 0, 149, 603, 0, 0, 146, 0, 0, 0, 0, 0, 0] = true := by decide +kernel
set_option maxRecDepth 100000 in
theorem zck_X8_waysFor : zmD (yX8_waysFor, cX8_waysFor, 3, some .int, 9, zc_X8_waysFor) (602, 54, 600, 601) [0, 0, 0, 150, 603, 0, 0, 147, 0, 0, 0, 0, 0, 0] = true := by decide +kernel
set_option maxRecDepth 100000 in
theorem zck_X8_isMade : zmD (yX8_isMade, cX8_isMade, 3, some .boolean, 0, zc_X8_isMade) (605, 54, 604, 0) [0, 0, 0, 0, 0, 0, 0, 0, 0, 0, 0, 0, 0, 0, 0] = true := by decide +kernel
set_option maxRecDepth 100000 in
theorem zck_X8_makeWayRow : zmD (yX8_makeWayRow, cX8_makeWayRow, 7, none, 9, zc_X8_makeWayRow) (592, 54, 591, 9) [] = true := by decide +kernel
set_option maxRecDepth 100000 in
theorem zck_X8_makeDueRow : zmD (yX8_makeDueRow, cX8_makeDueRow, 8, none, 9, zc_X8_makeDueRow) (627, 54, 626, 11) [] = true := by decide +kernel
set_option maxRecDepth 100000 in
theorem zck_X8_lowestLast : zmD (yX8_lowestLast, cX8_lowestLast, 2, some .int, 0, zc_X8_lowestLast) (596, 54, 595, 0) [] = true := by decide +kernel
set_option maxRecDepth 100000 in
theorem zck_X9_init : zmD (yX9_init, cX9_init, 2, none, 10, zc_X9_init) (72, 50, 71, 0) [0, 73, 0, 76, 0, 78, 344, 0, 128, 0, 129, 345, 0, 130, 0, 132, 346, 0, 0, 189, 347, 0, 191, 0, 193, 348, 0, 0, 191, 349, 0, 0, 350, 0, 0, 0, 0, 0, 0, 347, 0, 189, 0, 291, 0, 0, 0, 0, 0, 0, 0, 0, 0, 349, 0, 191, 0, 193, 0, 0, 0, 0] = true := by decide +kernel
set_option maxRecDepth 100000 in
theorem zck_X9_type : zmD (yX9_type, cX9_type, 4, some .int, 10, zc_X9_type) (369, 50, 367, 368) [0, 0, 0, 370, 0, 0, 0, 0, 344, 120, 0, 0, 0, 0, 0, 344, 0, 0, 373, 0, 344, 120, 0] = true := by decide +kernel
set_option maxRecDepth 100000 in
theorem zck_X9_clear : zmD (yX9_clear, cX9_clear, 2, some .int, 10, zc_X9_clear) (381, 50, 379, 380) [0, 344, 120, 0, 0, 344, 0, 120, 0, 0] = true := by decide +kernel
set_option maxRecDepth 100000 in
theorem zck_X9_rules : zmD (yX9_rules, cX9_rules, 2, some .int, 10, zc_X9_rules) (385, 50, 383, 384) [0, 344, 386, 0, 0, 0, 0, 345, 0, 344, 118, 476, 0, 346, 167, 489, 0, 344, 0, 120, 0, 345, 100, 0] = true := by decide +kernel
